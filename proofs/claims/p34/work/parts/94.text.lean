/-! P34: texts: what is typed, the first error, what a refused program leaves -/
def litB (B : List Int32) : Nat → Int32 := fun i => B.getD i 0
abbrev zR : Nat → Int32 := r0 (fun _ => 0)
theorem w_ok {kc ks B S : Nat} {r : Option jm_X} (h : kc ≤ B ∧ ks ≤ S) : jf_w kc ks B S r = r := if_pos h
theorem tk_eqR {u w : Nat → Int32} {c : Int32} {ph : Nat} (hp : ph < 8) (h4 : u 4 = nI ph) (h : eqR u w) : tk u c = tk w c := by
  obtain ⟨e4, e3, e0, e1, e2⟩ := h
  have w4 : w 4 = nI ph := e4.symm.trans h4
  have : ph = 0 ∨ ph = 1 ∨ ph = 2 ∨ ph = 3 ∨ ph = 4 ∨ ph = 5 ∨ ph = 6 ∨ ph = 7 := by omega
  rcases this with rfl | rfl | rfl | rfl | rfl | rfl | rfl | rfl
  · rw [(ph0 h4).1, (ph0 w4).1]
  · rw [(ph1 h4).1, (ph1 w4).1]
  · rw [(ph2 h4).1, (ph2 w4).1]
  · rw [(ph3 h4).1, (ph3 w4).1]
  · rw [(ph4 h4).1, (ph4 w4).1]
  · rw [(ph5 h4).1, (ph5 w4).1, e2 ⟨5, by decide, by decide, h4⟩]
  · rw [(ph6 h4).1, (ph6 w4).1]
  · rw [(ph7 h4).1, (ph7 w4).1, e3]
theorem rS_lit {cd r : Nat → Int32} {B : List Int32} (hc : ∀ i x, B[i]? = some x → cd i = x) {i : Nat} (hi : i ≤ B.length) : rS cd r i = rS (litB B) r i := by
  refine fd_congr i 0 r (fun k a h1 h2 => ?_)
  have hk : k < B.length := by omega
  rw [hc k B[k] (List.getElem?_eq_getElem hk)]
  show gk a B[k] = gk a (B.getD k 0)
  rw [List.getD_eq_getElem?_getD, List.getElem?_eq_getElem hk]
  rfl
theorem lit_e {cd : Nat → Int32} {B : List Int32} (hc : ∀ i x, B[i]? = some x → cd i = x) {k : Nat} (hk : k < B.length) : cd k = litB B k := by
  rw [hc k B[k] (List.getElem?_eq_getElem hk)]
  show B[k] = B.getD k 0
  rw [List.getD_eq_getElem?_getD, List.getElem?_eq_getElem hk]
  rfl
theorem err_lit {cd rd : Nat → Int32} {B : List Int32} {j : Nat} (hc : ∀ i x, B[i]? = some x → cd i = x) (h : errAt cd (r0 rd) B.length j) : errAt (litB B) zR B.length j := by
  have key : ∀ x, x < B.length → tk (rS cd (r0 rd) x) (cd x) = tk (rS (litB B) zR x) (litB B x) := fun x hx => by
    obtain ⟨ph, hp, h4⟩ := rS_ph (t := litB B) (r := r0 rd) rfl x
    rw [rS_lit hc (by omega), lit_e hc hx]
    exact tk_eqR hp h4 (eqR_rS rfl (eqR_r0 rd (fun _ => 0)) x)
  obtain ⟨h1, h2, h3⟩ := h
  exact ⟨h1, fun x hx => (key x (by omega)).symm.trans (h2 x hx), fun hj => (key j hj).symm.trans (h3 hj)⟩
section TX
variable {q : jm_H} {v w : Nat → Int32} {S : List (Nat → Int32)} {K : Option (Nat → Int32)} {B : List Int32} {h : jm_H} {N : Nat} {a b c x y u : Int32} {l : Int64}
theorem st_first (hN : 2001 ≤ N) {j : Nat} (hj : errAt (litB B) zR B.length j) (cs : Cs q v S K B h) : ∃ h', FX3_firstError N 0 h = rI (nI j) h' ∧ Cs q v S K B h' := by
  obtain ⟨F, π, sc, rd, cd, rfl, rfl, hI, hS, hn, hK, hm, ht, hc⟩ := cs
  obtain ⟨j', rd', h1, h2, h3, h4, e⟩ := k_read (F := F) (π := π) (sc := sc) (rd := rd) (cd := cd) (q := q) (N := N) ht.1 (by omega) hm
  have : j' = j := err_u (err_lit hc ⟨h1, h2, h3⟩) hj
  subst this
  refine ⟨_, ?_, F, π, sc, rd', cd, rfl, rfl, hI, hS, hn, hK, hm, ht, hc⟩
  unfold FX3_firstError
  rw [c_o, e, I_e]
theorem st_prog0 (hN : 2001 ≤ N) (cs : Cs q v S K [] h) : ∃ h', FX3_program N 0 h = rX eA h' ∧ Cs q v S K [] h' := by
  obtain ⟨F, π, sc, rd, cd, rfl, rfl, hI, hS, hn, hK, hm, ht, hc⟩ := cs
  obtain ⟨j', rd', h1, h2, h3, h4, e⟩ := k_read (F := F) (π := π) (sc := sc) (rd := rd) (cd := cd) (q := q) (N := N) (m := 0) (by decide) (by omega) hm
  have : j' = 0 := by omega
  subst this
  have hrd := h4 rfl
  subst hrd
  refine ⟨_, ?_, F, π, sc, rS cd (r0 rd) 0, cd, rfl, rfl, hI, hS, hn, hK, hm, ht, hc⟩
  unfold FX3_program
  rw [c_o, e, I_e, k_i2, hm, if_pos (show nI 0 = nI ([] : List Int32).length from rfl), k_r3, d_o, k_behind (h := 0) rfl (by decide), I_e, bl_f (by decide), if_pos rfl, rq0, V_x]
theorem st_progE (hN : 2001 ≤ N) {j : Nat} (hj : errAt (litB B) zR B.length j) (hl : j < B.length) (cs : Cs q v S K B h) : ∃ h', FX3_program N 0 h = rX eA h' ∧ Cs q v S K B h' := by
  obtain ⟨F, π, sc, rd, cd, rfl, rfl, hI, hS, hn, hK, hm, ht, hc⟩ := cs
  obtain ⟨j', rd', h1, h2, h3, h4, e⟩ := k_read (F := F) (π := π) (sc := sc) (rd := rd) (cd := cd) (q := q) (N := N) ht.1 (by omega) hm
  have : j' = j := err_u (err_lit hc ⟨h1, h2, h3⟩) hj
  subst this
  have h60 := ht.1
  refine ⟨_, ?_, F, π, sc, rd', cd, rfl, rfl, hI, hS, hn, hK, hm, ht, hc⟩
  unfold FX3_program
  rw [c_o, e, I_e, k_i2, hm, if_neg (fun e => absurd ((nI_eq (a := j') (b := B.length) (by omega) (by omega)).mp e) (by omega)), rq0, V_x]
theorem cR_10 (hN : 2001 ≤ N) (cs : Cs q v S K [] h) : ∃ h', FL_call N 0 10 a b c l h = rI (-12) h' ∧ Cs q v S K [] h' := by
  obtain ⟨h2, e, c2⟩ := st_prog0 hN cs
  exact ⟨h2, by rw [call_10, Cs_o cs, e, jT_A], c2⟩
theorem cR_10E (hN : 2001 ≤ N) {j : Nat} (hj : errAt (litB B) zR B.length j) (hl : j < B.length) (cs : Cs q v S K B h) : ∃ h', FL_call N 0 10 a b c l h = rI (-12) h' ∧ Cs q v S K B h' := by
  obtain ⟨h2, e, c2⟩ := st_progE hN hj hl cs
  exact ⟨h2, by rw [call_10, Cs_o cs, e, jT_A], c2⟩
/-! the law's typing -/
def c8 (l : Int64) (d : Nat) : Int32 := ((l >>> ((nI (8 * d)).toInt64 &&& 63)) &&& (255 : Int64)).toInt32
def chs (l : Int64) : Nat → List Int32
  | 0 => []
  | d + 1 => (if c8 l d = 0 then [] else [c8 l d]) ++ chs l d
def okCh (L : List Int32) : Prop := ∀ x ∈ L, (33 : Int32) ≤ x ∧ x ≤ 126
theorem st8 : ∀ d, d < 8 → nI (8 * (d + 1)) - 8 = nI (8 * d) ∧ nI (8 * d) + -8 = nI (8 * d) - 8 := by decide +kernel
theorem kTy {kc ks : Nat} {r : Option jm_X} (h : kc ≤ 16 ∧ ks ≤ 96) : jf_k M_L_types kc ks r = r := k_ok h
theorem ty_l (l : Int64) : ∀ (d n kc ks : Nat) (B : List Int32) (h : jm_H), d ≤ 8 → d < n → kc + 2 * d ≤ 16 → ks + 12 * d ≤ 96 → Cs q v S K B h → okCh (chs l d) → B.length + (chs l d).length ≤ 60 →
    ∃ h', FL_types_6 N n kc ks 0 l 1 (nI (8 * d) - 8) h = rI 1 h' ∧ Cs q v S K (B ++ chs l d) h'
  | 0, n, kc, ks, B, h, h1, h2, h3, h4, cs, h5, h6 => by
    obtain ⟨n, rfl⟩ : ∃ m, n = m + 1 := ⟨n - 1, by omega⟩
    refine ⟨h, ?_, by rw [show chs l 0 = [] from rfl, List.append_nil]; exact cs⟩
    rw [FL_types_6, kTy (by omega), if_pos (show nI (8 * 0) - 8 < 0 by decide), w_ok (by omega)]
    rfl
  | d + 1, n, kc, ks, B, h, h1, h2, h3, h4, cs, h5, h6 => by
    obtain ⟨n, rfl⟩ : ∃ m, n = m + 1 := ⟨n - 1, by omega⟩
    obtain ⟨e1, e2⟩ := st8 d (by omega)
    rw [e1, FL_types_6, kTy (by omega), if_neg (show ¬ nI (8 * d) < 0 from nI_pos (by omega)), if_neg (by decide)]
    rw [show ((l >>> ((nI (8 * d)).toInt64 &&& 63)) &&& (255 : Int64)).toInt32 = c8 l d from rfl, e2]
    unfold chs at h5 h6 ⊢
    by_cases hz : c8 l d = 0
    · rw [if_pos hz] at h5 h6 ⊢
      rw [if_pos hz]
      exact ty_l l d n kc ks B h (by omega) (by omega) (by omega) (by omega) cs h5 h6
    · rw [if_neg hz] at h5 h6 ⊢
      rw [if_neg hz, kTy (by omega), Cs_o cs]
      have h7 : okCh (chs l d) := fun x hx => h5 x (List.mem_append_right _ hx)
      obtain ⟨a, ha, ha1, ha2⟩ := (in_c (a := 33) (b := 126) (by decide) (by decide)).mp (h5 (c8 l d) (by simp))
      simp only [List.length_append, List.length_singleton] at h6
      rw [ha]
      obtain ⟨h9, e9, c9⟩ := st_append ⟨ha1, ha2⟩ (by omega) cs
      rw [e9, I_e, if_neg (show ¬ nI (B.length + 1) ≤ 0 from nI_ge (a := 0) (by omega) (by omega))]
      obtain ⟨h8, e8, c8⟩ := ty_l l d n (kc + 2) (ks + 12) _ h9 (by omega) (by omega) (by omega) (by omega) c9 h7 (by simp; omega)
      exact ⟨h8, e8, by rw [List.append_assoc] at c8; exact c8⟩
theorem types_e (hN : 2001 ≤ N) {l : Int64} {L : List Int32} (hl : chs l 8 = L) (hok : okCh L) (h6 : B.length + L.length ≤ 60) (cs : Cs q v S K B h) : ∃ h', FL_types N 0 l h = rI 1 h' ∧ Cs q v S K (B ++ L) h' := by
  subst hl
  exact ty_l l 8 N 0 0 B h (by decide) (by omega) (by decide) (by decide) cs hok h6
theorem isErr_e (hN : 2001 ≤ N) {l k : Int64} {L M : List Int32} {j : Nat} (hl : chs l 8 = L) (hk : chs k 8 = M) (hok : okCh L ∧ okCh M) (h6 : L.length + M.length ≤ 60) (hj : errAt (litB (L ++ M)) zR (L ++ M).length j) (cs : Cs q v S K B h) : ∃ h', FL_isError N 0 l k (nI j) h = rI 1 h' ∧ Cs q v S K (L ++ M) h' := by
  have hB := (Cs_B cs).1
  obtain ⟨h1, e1, c1⟩ := st_clear cs
  obtain ⟨h2, e2, c2⟩ := types_e hN hl hok.1 (by simp; omega) c1
  obtain ⟨h3, e3, c3⟩ := types_e hN hk hok.2 (by simp; omega) c2
  obtain ⟨h4, e4, c4⟩ := st_first hN hj c3
  refine ⟨h4, ?_, c4⟩
  unfold FL_isError
  rw [Cs_o cs, e1, I_e, if_neg (nI_pos (by omega)), e2, I_e, if_neg (by decide), e3, I_e, if_neg (by decide), Cs_o c3, e4, I_e, if_pos rfl]
end TX

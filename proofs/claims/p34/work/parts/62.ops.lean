/-! THE CLASS: what changes a festival -/
def nUp (v : Nat → Int32) (a : Nat) : Nat → Int32 := upd v a (nI (cnt v a + 1))
def uFilm (v : Nat → Int32) (a b : Int32) : Nat → Int32 := upd (upd (nUp v 0) (10 + 2 * cnt v 0 + 0) a) (10 + 2 * cnt v 0 + 1) b
def uShow (v : Nat → Int32) (f c a p : Int32) : Nat → Int32 := upd (upd (upd (upd (upd (nUp v 1) (26 + 5 * cnt v 1 + 0) f) (26 + 5 * cnt v 1 + 1) c) (26 + 5 * cnt v 1 + 2) a) (26 + 5 * cnt v 1 + 3) p) (26 + 5 * cnt v 1 + 4) 0
def uGuest (v : Nat → Int32) (f a b : Int32) : Nat → Int32 := upd (upd (upd (nUp v 2) (86 + 3 * cnt v 2 + 0) f) (86 + 3 * cnt v 2 + 1) a) (86 + 3 * cnt v 2 + 2) b
def mvc (c a d : Nat) (v : Nat → Int32) : Nat → Int32 := fd (fun i w => upd w i (w (i + c))) a d v
abbrev mv (a d : Nat) (v : Nat → Int32) : Nat → Int32 := mvc 5 a d v
def uDrop (v : Nat → Int32) (s : Nat) : Nat → Int32 := upd (upd (mv (26 + 5 * s) (5 * (cnt v 1 - 1 - s)) v) 1 (nI (cnt v 1 - 1))) 128 (v 128 + 1)
def uStop (v : Nat → Int32) (a b c : Int32) : Nat → Int32 := upd (upd (upd v 129 a) 130 b) 131 c
/-- one juror, when a showing has moved -/
def stM (s : Nat) (j : Nat) (u : Int32 × (Nat → Int32)) : Int32 × (Nat → Int32) := if hb (sS u.2 s 4) (nI j) ∧ sGo u.2 (nI j) s = 0 then (u.1 + 1, upd u.2 (26 + 5 * s + 4) (nI (gro u.2 s - 2 ^ j))) else u
def uShift (v : Nat → Int32) (s : Nat) (m : Int32) : Int32 × (Nat → Int32) := fd (stM s) 0 3 (0, upd v (26 + 5 * s + 2) m)
theorem mvc_e {c : Nat} (hc : 0 < c) : ∀ (d a : Nat) (v : Nat → Int32) (x : Nat), mvc c a d v x = if a ≤ x ∧ x < a + d then v (x + c) else v x
  | 0, a, v, x => by
    rw [if_neg (by omega)]; rfl
  | d + 1, a, v, x => by
    show mvc c (a + 1) d (upd v a (v (a + c))) x = _
    rw [mvc_e hc d (a + 1)]
    by_cases h1 : a + 1 ≤ x ∧ x < a + 1 + d
    · rw [if_pos h1, if_pos (by omega), pk_un (by omega)]
    · rw [if_neg h1]
      by_cases h2 : x = a
      · subst h2; rw [pk_us, if_pos (by omega)]
      · rw [pk_un h2, if_neg (by omega)]
theorem mv_e (d a : Nat) (v : Nat → Int32) (x : Nat) : mv a d v x = if a ≤ x ∧ x < a + d then v (x + 5) else v x := mvc_e (by decide) d a v x
theorem fd_shift {α : Type} (f : Nat → α → α) (o : Nat) : ∀ (d a : Nat) (x : α), fd (fun k => f (o + k)) a d x = fd f (o + a) d x
  | 0, _, _ => rfl
  | d + 1, a, x => by
    show fd (fun k => f (o + k)) (a + 1) d (f (o + a) x) = fd f (o + a + 1) d (f (o + a) x)
    rw [fd_shift f o d (a + 1)]; rfl
section PE
theorem put_e {h : jm_H} {t u C R i k n : Nat} {x : Int32} {f : Nat → Int32} (h1 : h[t]? = some (.inr (2, [.int (nI C), .ref u, .int (nI R)]))) (h2 : h[u]? = some (aI n f)) (hi : i < R) (hR : R < 2 ^ 15) (hk : k < C) (hC : C < 2 ^ 15) (hn : R * C ≤ n) (hn2 : n < 2 ^ 31) : FX2_put t (nI i) (nI k) x h = rV (h.set u (aI n (upd f (i * C + k) x))) := by
  have hb : i * C + k < n := by
    have : (i + 1) * C ≤ R * C := Nat.mul_le_mul_right C hi
    rw [Nat.succ_mul] at this
    omega
  have e : nI i * nI C + nI k = nI (i * C + k) := by rw [pk_mul, nI_add]
  unfold FX2_put
  rw [if_neg (nI_pos (by omega)), gI_e (k := 2) (v := nI R) h1 rfl, if_neg (nI_ge hi (by omega)), if_neg (nI_pos (by omega)), gI_e (k := 0) (v := nI C) h1 rfl, if_pos (nI_lt hk (by omega)), gI_e (k := 0) (v := nI C) h1 rfl, e, if_neg (nI_pos (by omega)), gR_e (k := 1) (v := u) h1 rfl, len_e (t := 0) h2 (by decide), if_neg (show ¬ Int32.ofNat n ≤ nI (i * C + k) from nI_ge hb hn2), gR_e (k := 1) (v := u) h1 rfl, stI_e h2 hb hn2]
theorem set_get {h : jm_H} {t : Nat} {c c' : jm_C} (h1 : h[t]? = some c) : (h.set t c')[t]? = some c' := by
  rw [List.getElem?_set_self (List.getElem?_eq_some_iff.mp h1).1]
theorem add_e {h : jm_H} {t u C R n : Nat} {f : Nat → Int32} (h1 : h[t]? = some (.inr (2, [.int (nI C), .ref u, .int (nI R)]))) (h2 : h[u]? = some (aI n f)) (hR : R < 2 ^ 15) (hC : C < 2 ^ 15) (hn : (R + 1) * C ≤ n) (hn2 : n < 2 ^ 31) : FX2_addRow t h = rI (nI R) (h.set t (.inr (2, [.int (nI C), .ref u, .int (nI (R + 1))]))) := by
  unfold FX2_addRow
  rw [gI_e (k := 2) (v := nI R) h1 rfl, gI_e (k := 0) (v := nI C) h1 rfl, gR_e (k := 1) (v := u) h1 rfl, len_e (t := 0) h2 (by decide), nI_1, pk_mul, if_pos (show nI ((R + 1) * C) ≤ Int32.ofNat n from nI_le hn hn2), gI_e (k := 2) (v := nI R) h1 rfl, p_e h1 (by simp), nI_1]
  rw [gI_e (k := 2) (v := nI (R + 1)) (set_get h1) rfl, nI_pred]
  rfl
end PE
section CU
variable {F : Nat → Nat → Int32} {π : Nat → Nat} {sc rd cd : Nat → Int32} {q : jm_H} {n N : Nat}
theorem c_addF (hn : F 0 0 = nI n) (h8 : n < 8) : FX2_addRow 2 (hC F π sc rd cd q) = rI (nI n) (hC (fu F 0 (upd (F 0) 0 (nI (n + 1)))) π sc rd cd q) := by
  rw [add_e (C := 2) (R := n) (n := 16) (f := sl (F 0) 10 16) (by rw [← hn]; exact h_get (i := 0) (m := 1) (by decide) (by decide) rfl) (h_get (i := 0) (m := 2) (by decide) (by decide) rfl) (by omega) (by decide) (by omega) (by decide)]
  exact congrArg (rI _) (h_st (i := 0) (m := 1) (by decide) (by decide) fest_n0)
theorem c_addS (hn : F 0 1 = nI n) (h8 : n < 12) : FX2_addRow 8 (hC F π sc rd cd q) = rI (nI n) (hC (fu F 0 (upd (F 0) 1 (nI (n + 1)))) π sc rd cd q) := by
  rw [add_e (C := 5) (R := n) (n := 60) (f := sl (F 0) 26 60) (by rw [← hn]; exact h_get (i := 0) (m := 7) (by decide) (by decide) rfl) (h_get (i := 0) (m := 8) (by decide) (by decide) rfl) (by omega) (by decide) (by omega) (by decide)]
  exact congrArg (rI _) (h_st (i := 0) (m := 7) (by decide) (by decide) fest_n1)
theorem c_addG (hn : F 0 2 = nI n) (h8 : n < 6) : FX2_addRow 10 (hC F π sc rd cd q) = rI (nI n) (hC (fu F 0 (upd (F 0) 2 (nI (n + 1)))) π sc rd cd q) := by
  rw [add_e (C := 3) (R := n) (n := 18) (f := sl (F 0) 86 18) (by rw [← hn]; exact h_get (i := 0) (m := 9) (by decide) (by decide) rfl) (h_get (i := 0) (m := 10) (by decide) (by decide) rfl) (by omega) (by decide) (by omega) (by decide)]
  exact congrArg (rI _) (h_st (i := 0) (m := 9) (by decide) (by decide) fest_n2)
theorem c_putF {i k : Nat} {x : Int32} (hn : F 0 0 = nI n) (h8 : n ≤ 8) (hi : i < n) (hk : k < 2) : FX2_put 2 (nI i) (nI k) x (hC F π sc rd cd q) = rV (hC (fu F 0 (upd (F 0) (10 + 2 * i + k) x)) π sc rd cd q) := by
  rw [put_e (C := 2) (R := n) (n := 16) (f := sl (F 0) 10 16) (by rw [← hn]; exact h_get (i := 0) (m := 1) (by decide) (by decide) rfl) (h_get (i := 0) (m := 2) (by decide) (by decide) rfl) hi (by omega) hk (by decide) (by omega) (by decide)]
  rw [show 10 + 2 * i + k = 10 + (i * 2 + k) by omega]
  exact congrArg rV (h_st (i := 0) (m := 2) (by decide) (by decide) (fest_a0 (by omega)))
theorem c_putC {i : Nat} {x : Int32} (hi : i < 3) : FX2_put 4 (nI i) 0 x (hC F π sc rd cd q) = rV (hC (fu F 0 (upd (F 0) (7 + i) x)) π sc rd cd q) := by
  rw [show (0 : Int32) = nI 0 from rfl, put_e (t := 4) (u := 5) (k := 0) (C := 1) (R := 3) (n := 3) (f := sl (F 0) 7 3) (h_get (i := 0) (m := 3) (by decide) (by decide) rfl) (h_get (i := 0) (m := 4) (by decide) (by decide) rfl) hi (by omega) (by decide) (by decide) (by omega) (by decide)]
  rw [show 7 + i = 7 + (i * 1 + 0) by omega]
  exact congrArg rV (h_st (i := 0) (m := 4) (by decide) (by decide) (fest_a1 (by omega)))
theorem c_putT {i : Nat} {x : Int32} (hi : i < 4) : FX2_put 6 (nI i) 0 x (hC F π sc rd cd q) = rV (hC (fu F 0 (upd (F 0) (3 + i) x)) π sc rd cd q) := by
  rw [show (0 : Int32) = nI 0 from rfl, put_e (t := 6) (u := 7) (k := 0) (C := 1) (R := 4) (n := 4) (f := sl (F 0) 3 4) (h_get (i := 0) (m := 5) (by decide) (by decide) rfl) (h_get (i := 0) (m := 6) (by decide) (by decide) rfl) hi (by omega) (by decide) (by decide) (by omega) (by decide)]
  rw [show 3 + i = 3 + (i * 1 + 0) by omega]
  exact congrArg rV (h_st (i := 0) (m := 6) (by decide) (by decide) (fest_a2 (by omega)))
theorem c_putS {i k : Nat} {x : Int32} (hn : F 0 1 = nI n) (h8 : n ≤ 12) (hi : i < n) (hk : k < 5) : FX2_put 8 (nI i) (nI k) x (hC F π sc rd cd q) = rV (hC (fu F 0 (upd (F 0) (26 + 5 * i + k) x)) π sc rd cd q) := by
  rw [put_e (C := 5) (R := n) (n := 60) (f := sl (F 0) 26 60) (by rw [← hn]; exact h_get (i := 0) (m := 7) (by decide) (by decide) rfl) (h_get (i := 0) (m := 8) (by decide) (by decide) rfl) hi (by omega) hk (by decide) (by omega) (by decide)]
  rw [show 26 + 5 * i + k = 26 + (i * 5 + k) by omega]
  exact congrArg rV (h_st (i := 0) (m := 8) (by decide) (by decide) (fest_a3 (by omega)))
theorem c_putG {i k : Nat} {x : Int32} (hn : F 0 2 = nI n) (h8 : n ≤ 6) (hi : i < n) (hk : k < 3) : FX2_put 10 (nI i) (nI k) x (hC F π sc rd cd q) = rV (hC (fu F 0 (upd (F 0) (86 + 3 * i + k) x)) π sc rd cd q) := by
  rw [put_e (C := 3) (R := n) (n := 18) (f := sl (F 0) 86 18) (by rw [← hn]; exact h_get (i := 0) (m := 9) (by decide) (by decide) rfl) (h_get (i := 0) (m := 10) (by decide) (by decide) rfl) hi (by omega) hk (by decide) (by omega) (by decide)]
  rw [show 86 + 3 * i + k = 86 + (i * 3 + k) by omega]
  exact congrArg rV (h_st (i := 0) (m := 10) (by decide) (by decide) (fest_a4 (by omega)))
theorem c_putJ {i k : Nat} {x : Int32} (hi : i < 3) (hk : k < 8) : FX2_put 12 (nI i) (nI k) x (hC F π sc rd cd q) = rV (hC (fu F 0 (upd (F 0) (104 + 8 * i + k) x)) π sc rd cd q) := by
  rw [put_e (t := 12) (u := 13) (C := 8) (R := 3) (n := 24) (f := sl (F 0) 104 24) (h_get (i := 0) (m := 11) (by decide) (by decide) rfl) (h_get (i := 0) (m := 12) (by decide) (by decide) rfl) hi (by omega) hk (by decide) (by omega) (by decide)]
  rw [show 104 + 8 * i + k = 104 + (i * 8 + k) by omega]
  exact congrArg rV (h_st (i := 0) (m := 12) (by decide) (by decide) (fest_a5 (by omega)))
theorem c_addFilm {a b : Int32} (hI : Iv (F 0)) (h8 : cnt (F 0) 0 < 8) : FX0_addFilm 1 a b (hC F π sc rd cd q) = rI (nI (cnt (F 0) 0)) (hC (fu F 0 (uFilm (F 0) a b)) π sc rd cd q) := by
  unfold FX0_addFilm
  rw [c_r0, c_o2, c_addF hI.nf.1 h8, I_e, c_r0, c_o2, show (0 : Int32) = nI 0 from rfl]
  rw [c_putF (n := cnt (F 0) 0 + 1) (by rw [fu_s, pk_us]) (by omega) (by omega) (by decide), V_e, c_r0, c_o2, show (1 : Int32) = nI 1 from rfl]
  rw [c_putF (n := cnt (F 0) 0 + 1) (by rw [fu_s, pk_un (by omega), fu_s, pk_us]) (by omega) (by omega) (by decide), V_e]
  simp only [fu_fu, fu_s]
  rfl
theorem c_addGuest {f a b : Int32} (hI : Iv (F 0)) (h8 : cnt (F 0) 2 < 6) : FX0_addGuest 1 f a b (hC F π sc rd cd q) = rI (nI (cnt (F 0) 2)) (hC (fu F 0 (uGuest (F 0) f a b)) π sc rd cd q) := by
  unfold FX0_addGuest
  rw [c_r4, c_o10, c_addG hI.ng.1 h8, I_e, c_r4, c_o10, show (0 : Int32) = nI 0 from rfl]
  rw [c_putG (n := cnt (F 0) 2 + 1) (by rw [fu_s, pk_us]) (by omega) (by omega) (by decide), V_e, c_r4, c_o10, show (1 : Int32) = nI 1 from rfl]
  rw [c_putG (n := cnt (F 0) 2 + 1) (by rw [fu_s, pk_un (by omega), fu_s, pk_us]) (by omega) (by omega) (by decide), V_e, c_r4, c_o10, show (2 : Int32) = nI 2 from rfl]
  rw [c_putG (n := cnt (F 0) 2 + 1) (by rw [fu_s, pk_un (by omega), fu_s, pk_un (by omega), fu_s, pk_us]) (by omega) (by omega) (by decide), V_e]
  simp only [fu_fu, fu_s]
  rfl
theorem c_addShow {f c a p : Int32} (hI : Iv (F 0)) (h8 : cnt (F 0) 1 < 12) : FX0_addShowing 1 f c a p (hC F π sc rd cd q) = rI (nI (cnt (F 0) 1)) (hC (fu F 0 (uShow (F 0) f c a p)) π sc rd cd q) := by
  unfold FX0_addShowing
  rw [c_r3, c_o8, c_addS hI.ns.1 h8, I_e, c_r3, c_o8]
  rw [show FX2_put 8 (nI (cnt (F 0) 1)) 0 f = FX2_put 8 (nI (cnt (F 0) 1)) (nI 0) f from rfl, c_putS (n := cnt (F 0) 1 + 1) (by rw [fu_s, pk_us]) (by omega) (by omega) (by decide), V_e, c_r3, c_o8]
  rw [show FX2_put 8 (nI (cnt (F 0) 1)) 1 c = FX2_put 8 (nI (cnt (F 0) 1)) (nI 1) c from rfl, c_putS (n := cnt (F 0) 1 + 1) (by rw [fu_s, pk_un (by omega), fu_s, pk_us]) (by omega) (by omega) (by decide), V_e, c_r3, c_o8]
  rw [show FX2_put 8 (nI (cnt (F 0) 1)) 2 a = FX2_put 8 (nI (cnt (F 0) 1)) (nI 2) a from rfl, c_putS (n := cnt (F 0) 1 + 1) (by rw [fu_s, pk_un (by omega), fu_s, pk_un (by omega), fu_s, pk_us]) (by omega) (by omega) (by decide), V_e, c_r3, c_o8]
  rw [show FX2_put 8 (nI (cnt (F 0) 1)) 3 p = FX2_put 8 (nI (cnt (F 0) 1)) (nI 3) p from rfl, c_putS (n := cnt (F 0) 1 + 1) (by rw [fu_s, pk_un (by omega), fu_s, pk_un (by omega), fu_s, pk_un (by omega), fu_s, pk_us]) (by omega) (by omega) (by decide), V_e, c_r3, c_o8]
  rw [show FX2_put 8 (nI (cnt (F 0) 1)) 4 0 = FX2_put 8 (nI (cnt (F 0) 1)) (nI 4) 0 from rfl, c_putS (n := cnt (F 0) 1 + 1) (by rw [fu_s, pk_un (by omega), fu_s, pk_un (by omega), fu_s, pk_un (by omega), fu_s, pk_un (by omega), fu_s, pk_us]) (by omega) (by omega) (by decide), V_e]
  simp only [fu_fu, fu_s]
  rfl
theorem c_ld8 {j : Nat} {g : Int32 → Option jm_X} (hj : j < 60) : jf_ldI (hC F π sc rd cd q) 9 (nI j) g = g (F 0 (26 + j)) := by
  rw [ldI_e (o := 9) (n := 60) (f := sl (F 0) 26 60) (h_get (i := 0) (m := 8) (by decide) (by decide) rfl) hj (by decide), sl_in hj]
theorem c_st8 {j : Nat} {x : Int32} {g : jm_H → Option jm_X} (hj : j < 60) : jf_stI (hC F π sc rd cd q) 9 (nI j) x g = g (hC (fu F 0 (upd (F 0) (26 + j) x)) π sc rd cd q) := by
  rw [stI_e (o := 9) (n := 60) (f := sl (F 0) 26 60) (h_get (i := 0) (m := 8) (by decide) (by decide) rfl) hj (by decide)]
  exact congrArg g (h_st (i := 0) (m := 8) (by decide) (by decide) (fest_a3 hj))
theorem c_p1 {x : Int32} {f : jm_H → Option jm_X} : jf_p 2 (hC F π sc rd cd q) 8 2 (.int x) f = f (hC (fu F 0 (upd (F 0) 1 x)) π sc rd cd q) := by
  rw [p_e (o := 8) (h_get (i := 0) (m := 7) (by decide) (by decide) rfl) (by simp)]
  exact congrArg f (h_st (i := 0) (m := 7) (by decide) (by decide) fest_n1)
theorem c_8r {f : Nat → Option jm_X} : jf_gR 2 (hC F π sc rd cd q) 8 1 f = f 9 := gR_e (fs := _) rfl rfl
theorem c_8c {f : Int32 → Option jm_X} : jf_gI 2 (hC F π sc rd cd q) 8 0 f = f 5 := gI_e (fs := _) rfl rfl
theorem c_8l {f : Int32 → Option jm_X} : jf_len (hC F π sc rd cd q) 9 f = f 60 := len_e (t := 0) (x := (60, .inl (sl (F 0) 26 60))) rfl (by decide)
theorem c_s6 {x : Int32} {f : jm_H → Option jm_X} : jf_p 0 (hC F π sc rd cd q) 1 6 (.int x) f = f (hC (fu F 0 (upd (F 0) 128 x)) π sc rd cd q) := s_6 (i := 0) (by decide)
theorem tS_n {v : Nat → Int32} {s k n : Nat} (h : v 1 = nI n) (hn : n ≤ 12) (hs : s < n) (hk : k < 5) : tS v (nI s) (nI k) = v (26 + 5 * s + k) := by
  unfold tS
  rw [show (5 : Int32) = nI 5 from rfl, h, tAt_e hs (by omega) hk (by decide) (by omega) (by decide), sl_in (by omega)]
  rw [show 26 + (s * 5 + k) = 26 + 5 * s + k by omega]
def uRow (i : Nat) (w : Nat → Int32) : Nat → Int32 := fd (fun c w => upd w (26 + 5 * i + c) (w (26 + 5 * i + c + 5))) 0 5 w
theorem uRow_e (i : Nat) (w : Nat → Int32) : uRow i w = mv (26 + 5 * i) 5 w := by
  unfold uRow
  rw [fd_shift (fun i w => upd w i (w (i + 5))) (26 + 5 * i)]
  rfl
theorem uRow_f : ∀ (m s : Nat) (w : Nat → Int32), fd uRow s m w = mv (26 + 5 * s) (5 * m) w
  | 0, _, _ => rfl
  | m + 1, s, w => by
    show fd uRow (s + 1) m (uRow s w) = _
    rw [uRow_f m (s + 1), uRow_e, show 5 * (m + 1) = 5 + 5 * m by omega, show 26 + 5 * (s + 1) = 26 + 5 * s + 5 by omega]
    exact (fd_add 5 (5 * m) (26 + 5 * s) w).symm
theorem c_row {K : Nat → Int32 → jm_H → Option jm_X} {w : Nat → Int32} {i n : Nat} (hN : 6 ≤ N) (hw : w 1 = nI n) (hn : n ≤ 12) (hi : i + 1 < n) : FX2_dropRow_27 N N 8 (nI i) 0 (hC (fu F 0 w) π sc rd cd q) K = K 8 (nI i) (hC (fu F 0 (uRow i w)) π sc rd cd q) := by
  exact lp_fold (fun m x (w : Nat → Int32) => FX2_dropRow_27 N m 8 (nI i) x (hC (fu F 0 w) π sc rd cd q) K) 5 (fun c w => upd w (26 + 5 * i + c) (w (26 + 5 * i + c + 5))) (fun w => K 8 (nI i) (hC (fu F 0 w) π sc rd cd q)) (fun _ w => w 1 = nI n)
    (fun m w hw => by
      show FX2_dropRow_27 N (m + 1) 8 (nI i) (nI 5) (hC (fu F 0 w) π sc rd cd q) K = _
      rw [FX2_dropRow_27, c_8c, if_pos (show (5 : Int32) ≤ nI 5 by decide)])
    (fun m k w hk hw => ⟨by
      show FX2_dropRow_27 N (m + 1) 8 (nI i) (nI k) (hC (fu F 0 w) π sc rd cd q) K = _
      rw [FX2_dropRow_27, c_8c, if_neg (show ¬ (5 : Int32) ≤ nI k from nI_ge (b := 5) hk (by decide)), nI_1, c_o8, c_aS, fu_s, tS_n hw hn hi hk, I_e, c_o8, c_putS (n := n) (by rw [fu_s]; exact hw) hn (by omega) hk, V_e, fu_fu, fu_s, nI_1]
      rw [show 26 + 5 * (i + 1) + k = 26 + 5 * i + k + 5 by omega], by rw [pk_un (by omega)]; exact hw⟩)
    5 N 0 w (by omega) (by omega) hw
theorem c_drop {s : Nat} (hN : 61 ≤ N) (hI : Iv (F 0)) (hs : s < cnt (F 0) 1) : FX0_dropShowing N 1 (nI s) (hC F π sc rd cd q) = rI (bc (sS (F 0) s 4)) (hC (fu F 0 (uDrop (F 0) s)) π sc rd cd q) := by
  have hn := hI.ns.2
  unfold FX0_dropShowing
  have e4 : tS (F 0) (nI s) 4 = sS (F 0) s 4 := tS_4 hI hs
  have hb : FJ6_bitCount_0f7a4 (sS (F 0) s 4) (hC F π sc rd cd q) = rI (bc (sS (F 0) s 4)) (hC F π sc rd cd q) := by rw [hI.go hs]; exact bc_e _ (hI.go_lt hs) _
  rw [c_r3, c_o8, c_aS, e4, I_e, hb, I_e, c_r3, c_o8]
  unfold FX2_dropRow
  rw [if_neg (nI_pos (by omega)), c_n1, hI.ns.1, if_pos (nI_lt hs (by omega))]
  have L := lp_fold (fun n x (w : Nat → Int32) => FX2_dropRow_15 N n 8 x (hC (fu F 0 w) π sc rd cd q)) (cnt (F 0) 1 - 1) uRow (fun w => rV (hC (fu F 0 (upd w 1 (nI (cnt (F 0) 1 - 1)))) π sc rd cd q)) (fun _ w => w 1 = nI (cnt (F 0) 1))
    (fun n w hw => by
      show FX2_dropRow_15 N (n + 1) 8 (nI (cnt (F 0) 1 - 1)) (hC (fu F 0 w) π sc rd cd q) = _
      rw [FX2_dropRow_15, c_n1, fu_s, hw, nI_1, if_pos (nI_le (by omega) (by omega)), c_n1, fu_s, hw, c_p1, fu_fu, fu_s, show (1 : Int32) = nI 1 from rfl, pk_sub (by omega)])
    (fun n k w hk hw => ⟨by
      show FX2_dropRow_15 N (n + 1) 8 (nI k) (hC (fu F 0 w) π sc rd cd q) = _
      rw [FX2_dropRow_15, c_n1, fu_s, hw, nI_1, if_neg (nI_ge (by omega) (by omega)), c_row (by omega) hw hn (by omega)]
      show FX2_dropRow_15 N n 8 (nI k + 1) _ = _
      rw [nI_1], by rw [uRow_e, mv_e, if_neg (by omega)]; exact hw⟩)
    (cnt (F 0) 1 - 1 - s) N s (F 0) (by omega) (by omega) hI.ns.1
  simp only [fu_id] at L
  rw [L, V_e, c_i6, c_s6, fu_fu]
  simp only [fu_s]
  rw [uRow_f]
  have e : upd (mv (26 + 5 * s) (5 * (cnt (F 0) 1 - 1 - s)) (F 0)) 1 (nI (cnt (F 0) 1 - 1)) 128 = F 0 128 := by
    rw [pk_un (by decide)]
    have := mv_e (5 * (cnt (F 0) 1 - 1 - s)) (26 + 5 * s) (F 0) 128
    rw [if_neg (by omega)] at this
    exact this
  rw [e]
  rfl
theorem c_stops {a b c : Int32} : FX0_setStop 1 a b c (hC F π sc rd cd q) = rV (hC (fu F 0 (uStop (F 0) a b c)) π sc rd cd q) := by
  unfold FX0_setStop
  rw [show (1 : Nat) = bs 0 from rfl, s_7 (by decide), s_8 (by decide), s_9 (by decide)]
  simp only [fu_fu, fu_s]
  rfl
end CU


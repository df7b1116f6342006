/-! P34: a program that runs -/
theorem Pt_lit {cd r l : Nat → Int32} {B : List Int32} (hc : ∀ i x, B[i]? = some x → cd i = x) : ∀ (d kk i : Nat), Pt (litB B) r l B.length d kk i → Pt cd r l B.length d kk i
  | 0, kk, i, h => by
    obtain ⟨h1, h2, h3, h4, h5⟩ := h
    have e : rS cd r B.length = rS (litB B) r B.length := rS_lit hc (Nat.le_refl _)
    exact ⟨h1, fun x hx hm => by rw [lit_e hc hm]; exact h2 x hx hm, fun c hc' => by rw [e]; exact h3 c hc', by rw [e]; exact h4, h5⟩
  | d + 1, kk, i, h => by
    obtain ⟨j, a1, a2, a3, a4, a5, a6, a7, a8⟩ := h
    have e : rS cd r j = rS (litB B) r j := rS_lit hc (Nat.le_of_lt a2)
    exact ⟨j, a1, a2, fun x hx hm => by rw [lit_e hc (by omega)]; exact a3 x hx hm, by rw [lit_e hc a2]; exact a4, fun c hc' => by rw [e]; exact a5 c hc', by rw [e]; exact a6, a7, Pt_lit hc d (kk + 1) (j + 1) a8⟩
theorem Pt_end {t r l : Nat → Int32} {m : Nat} : ∀ (d kk i : Nat), Pt t r l m d kk i → endP (rS t r m)
  | 0, kk, i, h => h.2.2.2.1.2
  | d + 1, kk, i, h => by
    obtain ⟨j, a1, a2, a3, a4, a5, a6, a7, a8⟩ := h
    exact Pt_end d (kk + 1) (j + 1) a8
theorem rng {p : Nat → Prop} {a b : Nat} (h : ∀ x, x < b → a ≤ x → p x) : ∀ x, a ≤ x → x < b → p x := fun x h1 h2 => h x h2 h1
theorem Pt_0 {t r l : Nat → Int32} {m kk i : Nat} (h : i ≤ m ∧ (∀ x, i ≤ x → x < m → t x ≠ 59) ∧ (∀ c, c < 4 → l (4 * kk + c) = rS t r m c) ∧ (okA (rS t r m) ∧ endP (rS t r m)) ∧ 4 * kk + 3 < 48) : Pt t r l m 0 kk i := h
theorem Pt_S {t r l : Nat → Int32} {m kk i d : Nat} (h : ∃ j, i ≤ j ∧ j < m ∧ (∀ x, i ≤ x → x < j → t x ≠ 59) ∧ t j = 59 ∧ (∀ c, c < 4 → l (4 * kk + c) = rS t r j c) ∧ (okA (rS t r j) ∧ endP (rS t r j)) ∧ 4 * kk + 3 < 48 ∧ Pt t r l m d (kk + 1) (j + 1)) : Pt t r l m (d + 1) kk i := h
theorem okA_i {u : Nat → Int32} {f c a p : Nat} (h : u 0 = nI f ∧ f ≤ 7 ∧ u 1 = nI c ∧ c ≤ 2 ∧ u 2 = nI a ∧ a ≤ 1999 ∧ u 3 = nI p ∧ p ≤ 20) : okA u := ⟨f, c, a, p, h⟩
section PG
variable {q : jm_H} {v w l : Nat → Int32} {S : List (Nat → Int32)} {K : Option (Nat → Int32)} {B : List Int32} {h : jm_H} {N d : Nat} {y9 : Int32}
theorem st_prog (hN : 2001 ≤ N) (hj : errAt (litB B) zR B.length B.length) (hp : Pt (litB B) zR l B.length d 0 0) (hd : chkW (.inl (pmk l d 0 (uStop v (-1) (-1) (-1)))) y9 w = true) (cs : Cs q v S K B h) : ∃ h', FX3_program N 0 h = rI y9 h' ∧ Cs q w (psh S v) K [] h' := by
  obtain ⟨u, e1, e2⟩ := chkW_e hd
  have e1 : pmk l d 0 (uStop v (-1) (-1) (-1)) = (y9, u) := by injection e1
  obtain ⟨F, π, sc, rd, cd, rfl, rfl, hI, hS, hn, hK, hm, ht, hc⟩ := cs
  have h60 := ht.1
  have hp1 := Pt_lit hc d 0 0 hp
  have hp2 : Pt cd (r0 rd) l B.length d 0 0 := Pt_tr rfl (eqR_r0 (fun _ => 0) rd) d 0 0 hp1
  obtain ⟨j', rd', h1, h2, h3, h4, e⟩ := k_read (F := F) (π := π) (sc := sc) (rd := rd) (cd := cd) (q := q) (N := N) h60 (by omega) hm
  have : j' = B.length := err_u (err_lit hc ⟨h1, h2, h3⟩) hj
  subst this
  have hrd := h4 rfl
  subst hrd
  obtain ⟨g, hg1, hg2, hg3⟩ : ∃ g, g < 8 ∧ rS cd (r0 rd) B.length 4 = nI g ∧ (g = 5 ∨ g = 7) := (Pt_end d 0 0 hp2).elim (fun e => ⟨5, by decide, e, Or.inl rfl⟩) (fun e => ⟨7, by decide, e, Or.inr rfl⟩)
  have hP3 : Pt cd (r0 (rS cd (r0 rd) B.length)) l B.length d 0 0 := Pt_tr rfl (eqR_r0 rd (rS cd (r0 rd) B.length)) d 0 0 hp2
  have hIs := Iv_stop (a := -1) (b := -1) (c := -1) hI
  have hIw := pmk_Iv (l := l) d 0 (uStop (F 0) (-1) (-1) (-1)) (fun x g1 g2 => Pt_ok d 0 0 x hp2 g1 g2) hIs
  obtain ⟨rd2, em⟩ := c_mk (F := fu F (πs π S.length (πn S.length) + 2) (F 0)) (π := πs π S.length) (sc := upd sc 1 (nI (svN S.length))) (rd := rS cd (r0 rd) B.length) (cd := cd) (q := q) (N := N) (by omega) h60 (by rw [pk_un (by decide)]; exact hm) hP3 (by rw [fu_0]; exact hI)
  rw [fu_0, e1] at em
  rw [e1] at hIw
  have z : ¬ (1 : Int32) = 0 := by decide
  refine ⟨hC (fu (fu F (πs π S.length (πn S.length) + 2) (F 0)) 0 u) (πs π S.length) (upd (upd sc 1 (nI (svN S.length))) 2 0) rd2 cd q, ?_, Cs_row (v := u) ⟨_, _, _, _, _, rfl, fu_s, hIw, SvL_now (SvL_save hS hI) (by decide), ?_, ?_, ?_, ⟨by simp, fun x hx => by cases hx⟩, fun i x hx => by simp at hx⟩ e2⟩
  · unfold FX3_program
    rw [c_o, e, I_e, k_i2, hm, if_pos rfl, k_r3, d_o, k_behind hg2 hg1, I_e, bl_t hg3, if_neg z, rq1, V_e, c_o, c_save (by omega) hn hS.1 hS.2.1, V_e, c_o, em, I_e, k_p2]
  · rw [pk_un (by decide), pk_us, psh_len]
  · rw [pk_un (by decide), pk_un (by decide)]
    cases K with
    | none => exact hK
    | some w9 => exact ⟨hK.1, hK.2.1, fun y hy => by rw [fu_n (by decide), fu_n (by omega)]; exact hK.2.2 y hy⟩
  · rw [pk_us]; rfl
end PG

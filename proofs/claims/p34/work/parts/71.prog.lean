/-! WHOLE TEXTS: the first error; what a text's parts are -/
def Pt (t r l : Nat → Int32) (m : Nat) : Nat → Nat → Nat → Prop
  | 0, kk, i => i ≤ m ∧ (∀ x, i ≤ x → x < m → t x ≠ 59) ∧ (∀ c, c < 4 → l (4 * kk + c) = rS t r m c) ∧ (okA (rS t r m) ∧ endP (rS t r m)) ∧ 4 * kk + 3 < 48
  | d + 1, kk, i => ∃ j, i ≤ j ∧ j < m ∧ (∀ x, i ≤ x → x < j → t x ≠ 59) ∧ t j = 59 ∧ (∀ c, c < 4 → l (4 * kk + c) = rS t r j c) ∧ (okA (rS t r j) ∧ endP (rS t r j)) ∧ 4 * kk + 3 < 48 ∧ Pt t r l m d (kk + 1) (j + 1)
def errAt (t r : Nat → Int32) (m j : Nat) : Prop := j ≤ m ∧ (∀ x, x < j → tk (rS t r x) (t x) = 1) ∧ (j < m → tk (rS t r j) (t j) = 0)
theorem err_u {t r : Nat → Int32} {m a b : Nat} (h1 : errAt t r m a) (h2 : errAt t r m b) : a = b := by
  have z : ¬ (1 : Int32) = 0 := by decide
  rcases Nat.lt_trichotomy a b with h | h | h
  · have := h2.2.1 a h
    rw [h1.2.2 (by have := h2.1; omega)] at this
    exact absurd this.symm z
  · exact h
  · have := h1.2.1 b h
    rw [h2.2.2 (by have := h1.1; omega)] at this
    exact absurd this.symm z
theorem semi {t r : Nat → Int32} {j : Nat} (he : endP (rS t r j)) (h : t j = 59) : tk (rS t r j) (t j) = 1 ∧ rS t r (j + 1) 4 = nI 0 ∧ rS t r (j + 1) 3 = nI 0 := by
  rcases he with he | he
  · rw [rS_s, (ph5 he).1, (ph5 he).2, h, if_neg (by decide), if_pos rfl, pk_us, pk_un (by decide), pk_us]
    exact ⟨bl_t (Or.inr (Or.inl rfl)), rfl, rfl⟩
  · rw [rS_s, (ph7 he).1, (ph7 he).2, h, if_pos rfl, pk_us, pk_un (by decide), pk_us]
    exact ⟨bl_t (Or.inl rfl), rfl, rfl⟩
section WW
variable {P : jm_H} {v p k t l rs : Nat → Int32} {hs : Int64} {q : jm_H} {N m i kk : Nat}
end WW
/-! two readers of the same phase -/
def eqR (u w : Nat → Int32) : Prop := u 4 = w 4 ∧ u 3 = w 3 ∧ ((∃ ph, ph < 8 ∧ 1 ≤ ph ∧ u 4 = nI ph) → u 0 = w 0) ∧ ((∃ ph, ph < 8 ∧ 3 ≤ ph ∧ u 4 = nI ph) → u 1 = w 1) ∧ ((∃ ph, ph < 8 ∧ 5 ≤ ph ∧ u 4 = nI ph) → u 2 = w 2)
theorem ph_no {u : Nat → Int32} {a b : Nat} (h : u 4 = nI a) (hab : a < b) (ha : a < 8) : ¬ ∃ ph, ph < 8 ∧ b ≤ ph ∧ u 4 = nI ph := by
  rintro ⟨ph, h1, h2, h3⟩
  have := (nI_eq (by omega) (by omega)).mp (h.symm.trans h3)
  omega
theorem eqR_gk {u w : Nat → Int32} {c : Int32} {ph : Nat} (hp : ph < 8) (h4 : u 4 = nI ph) (h : eqR u w) : eqR (gk u c) (gk w c) := by
  obtain ⟨e4, e3, e0, e1, e2⟩ := h
  have w4 : w 4 = nI ph := e4.symm.trans h4
  have : ph = 0 ∨ ph = 1 ∨ ph = 2 ∨ ph = 3 ∨ ph = 4 ∨ ph = 5 ∨ ph = 6 ∨ ph = 7 := by omega
  rcases this with rfl | rfl | rfl | rfl | rfl | rfl | rfl | rfl
  · rw [(ph0 h4).2, (ph0 w4).2]
    exact ⟨rfl, e3, fun _ => rfl, fun hh => absurd hh (ph_no (a := 1) rfl (by decide) (by decide)), fun hh => absurd hh (ph_no (a := 1) rfl (by decide) (by decide))⟩
  · rw [(ph1 h4).2, (ph1 w4).2]
    exact ⟨rfl, e3, fun _ => e0 ⟨1, by decide, by decide, h4⟩, fun hh => absurd hh (ph_no (a := 2) rfl (by decide) (by decide)), fun hh => absurd hh (ph_no (a := 2) rfl (by decide) (by decide))⟩
  · rw [(ph2 h4).2, (ph2 w4).2]
    exact ⟨rfl, e3, fun _ => e0 ⟨2, by decide, by decide, h4⟩, fun _ => rfl, fun hh => absurd hh (ph_no (a := 3) rfl (by decide) (by decide))⟩
  · rw [(ph3 h4).2, (ph3 w4).2]
    exact ⟨rfl, e3, fun _ => e0 ⟨3, by decide, by decide, h4⟩, fun _ => e1 ⟨3, by decide, by decide, h4⟩, fun hh => absurd hh (ph_no (a := 4) rfl (by decide) (by decide))⟩
  · rw [(ph4 h4).2, (ph4 w4).2]
    exact ⟨rfl, e3, fun _ => e0 ⟨4, by decide, by decide, h4⟩, fun _ => e1 ⟨4, by decide, by decide, h4⟩, fun _ => rfl⟩
  · have d0 := e0 ⟨5, by decide, by decide, h4⟩
    have d1 := e1 ⟨5, by decide, by decide, h4⟩
    have d2 := e2 ⟨5, by decide, by decide, h4⟩
    rw [(ph5 h4).2, (ph5 w4).2]
    by_cases c1 : c = 43
    · rw [if_pos c1, if_pos c1]
      exact ⟨rfl, e3, fun _ => d0, fun _ => d1, fun _ => d2⟩
    · rw [if_neg c1, if_neg c1]
      by_cases c2 : c = 59
      · rw [if_pos c2, if_pos c2]
        exact ⟨rfl, rfl, fun _ => d0, fun _ => d1, fun _ => d2⟩
      · rw [if_neg c2, if_neg c2, d2]
        exact ⟨e4, e3, fun _ => d0, fun _ => d1, fun _ => rfl⟩
  · rw [(ph6 h4).2, (ph6 w4).2]
    exact ⟨rfl, rfl, fun _ => e0 ⟨6, by decide, by decide, h4⟩, fun _ => e1 ⟨6, by decide, by decide, h4⟩, fun _ => e2 ⟨6, by decide, by decide, h4⟩⟩
  · have d0 := e0 ⟨7, by decide, by decide, h4⟩
    have d1 := e1 ⟨7, by decide, by decide, h4⟩
    have d2 := e2 ⟨7, by decide, by decide, h4⟩
    rw [(ph7 h4).2, (ph7 w4).2]
    by_cases c2 : c = 59
    · rw [if_pos c2, if_pos c2]
      exact ⟨rfl, rfl, fun _ => d0, fun _ => d1, fun _ => d2⟩
    · rw [if_neg c2, if_neg c2, e3]
      exact ⟨e4, rfl, fun _ => d0, fun _ => d1, fun _ => d2⟩
theorem eqR_rS {t r r' : Nat → Int32} (h0 : r 4 = nI 0) (h : eqR r r') : ∀ i, eqR (rS t r i) (rS t r' i)
  | 0 => h
  | i + 1 => by
    obtain ⟨ph, h1, h2⟩ := rS_ph (t := t) h0 i
    rw [rS_s, rS_s]
    exact eqR_gk h1 h2 (eqR_rS h0 h i)
theorem eqR_r0 (r r' : Nat → Int32) : eqR (r0 r) (r0 r') := ⟨rfl, rfl, fun hh => absurd hh (ph_no (a := 0) rfl (by decide) (by decide)), fun hh => absurd hh (ph_no (a := 0) rfl (by decide) (by decide)), fun hh => absurd hh (ph_no (a := 0) rfl (by decide) (by decide))⟩
theorem eqR_end {u w : Nat → Int32} (h : eqR u w) (he : endP u) : ∀ c, c < 4 → u c = w c := by
  obtain ⟨e4, e3, e0, e1, e2⟩ := h
  have : ∃ ph, ph < 8 ∧ 5 ≤ ph ∧ u 4 = nI ph := he.elim (fun h => ⟨5, by decide, by decide, h⟩) (fun h => ⟨7, by decide, by decide, h⟩)
  obtain ⟨ph, h1, h2, h3⟩ := this
  intro c hc
  have : c = 0 ∨ c = 1 ∨ c = 2 ∨ c = 3 := by omega
  rcases this with rfl | rfl | rfl | rfl
  · exact e0 ⟨ph, h1, by omega, h3⟩
  · exact e1 ⟨ph, h1, by omega, h3⟩
  · exact e2 ⟨ph, h1, h2, h3⟩
  · exact e3


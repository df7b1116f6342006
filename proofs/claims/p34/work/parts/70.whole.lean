/-! THE REFERENCE reads a whole text: part by part -/
/-- codes a, .., b - 1 are taken, none of them ends a part -/
def acc (t r : Nat → Int32) (a b : Nat) : Prop := ∀ y, a ≤ y → y < b → tk (rS t r y) (t y) = 1 ∧ t y ≠ 59
theorem acc_nil {t r : Nat → Int32} {a : Nat} : acc t r a a := fun y h1 h2 => by omega
theorem acc_app {t r : Nat → Int32} {a b c : Nat} (h1 : acc t r a b) (h2 : acc t r b c) : acc t r a c := fun y h3 h4 => by
  rcases Nat.lt_or_ge y b with h | h
  · exact h1 y h3 h
  · exact h2 y h h4
theorem acc_one {t r : Nat → Int32} {a : Nat} (h1 : tk (rS t r a) (t a) = 1) (h2 : t a ≠ 59) : acc t r a (a + 1) := fun y h3 h4 => by
  have : y = a := by omega
  subst this
  exact ⟨h1, h2⟩
/-- a part's four numbers are in their bounds -/
def okA (u : Nat → Int32) : Prop := ∃ f c a p : Nat, u 0 = nI f ∧ f ≤ 7 ∧ u 1 = nI c ∧ c ≤ 2 ∧ u 2 = nI a ∧ a ≤ 1999 ∧ u 3 = nI p ∧ p ≤ 20
def endP (u : Nat → Int32) : Prop := u 4 = nI 5 ∨ u 4 = nI 7
def midP (u : Nat → Int32) : Prop := ∃ ph, ph < 8 ∧ u 4 = nI ph ∧ ph ≠ 5 ∧ ph ≠ 7
theorem mid_not {u : Nat → Int32} (h : midP u) : ¬ endP u := by
  obtain ⟨ph, h1, h2, h3, h4⟩ := h
  rintro (h | h)
  · exact h3 ((nI_eq (by omega) (by decide)).mp (h2.symm.trans h))
  · exact h4 ((nI_eq (by omega) (by decide)).mp (h2.symm.trans h))
section WP
variable {P : jm_H} {v p k t l rs : Nat → Int32} {hs : Int64} {q : jm_H} {N m i kk : Nat}
theorem ne_code {t : Nat → Int32} {m i c : Nat} (ht : okT t m) (hi : i < m) (hc : c < 127) (h : cN t i ≠ c) : t i ≠ nI c := fun e => by
  obtain ⟨h3, h4⟩ := ht.2 i hi
  rw [h3] at e
  exact h ((nI_eq (by omega) (by omega)).mp e)
theorem eq_code {t : Nat → Int32} {m i c : Nat} (ht : okT t m) (hi : i < m) (h : cN t i = c) : t i = nI c := by
  rw [(ht.2 i hi).1, h]
end WP


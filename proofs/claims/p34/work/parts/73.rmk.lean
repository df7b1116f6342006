/-! THE REFERENCE makes the showings of a text -/
section RN
variable {P : jm_H} {v p k t l rs : Nat → Int32} {hs : Int64} {q : jm_H} {N kk : Nat}
theorem w3_id : w3 rs (rs 4) (rs 5) (rs 6) = rs := by
  funext i
  match i with
  | 0 => rfl | 1 => rfl | 2 => rfl | 3 => rfl | 4 => rfl | 5 => rfl | 6 => rfl | n + 7 => rfl
end RN
theorem in_c {x : Int32} {a b : Nat} (ha : a ≤ b) (hb : b < 2 ^ 31) : (nI a ≤ x ∧ x ≤ nI b) ↔ isN x a b := by
  constructor
  · rintro ⟨h1, h2⟩
    have h3 : ¬ x < 0 := fun h => by
      have h4 := Int32.le_iff_toInt_le.mp h1
      have h5 := Int32.lt_iff_toInt_lt.mp h
      rw [nI_toInt (by omega)] at h4
      have h7 : ((0 : Int32)).toInt = 0 := rfl
      omega
    obtain ⟨t, ht, rfl⟩ := nI_of h3
    exact ⟨t, rfl, (nI_leI (by omega) ht).mp h1, (nI_leI ht hb).mp h2⟩
  · rintro ⟨t, rfl, h1, h2⟩
    exact ⟨nI_le h1 (by omega), nI_le h2 hb⟩
theorem in_i {x : Int32} {b : Nat} (hb : b < 2 ^ 31) : (0 ≤ x ∧ x ≤ nI b) ↔ ∃ t, t ≤ b ∧ x = nI t := by
  constructor
  · intro h
    obtain ⟨t, rfl, -, h2⟩ := (in_c (a := 0) (Nat.zero_le b) hb).mp h
    exact ⟨t, h2, rfl⟩
  · rintro ⟨t, h1, rfl⟩
    exact (in_c (a := 0) (Nat.zero_le b) hb).mpr ⟨t, rfl, Nat.zero_le t, h1⟩

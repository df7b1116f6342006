/-! THE REFERENCE: its row, its looks -/
theorem fd_any {p : Nat → Prop} [DecidablePred p] : ∀ n : Nat, fd (fun s (a : Int32) => if a = 0 then (if p s then 1 else 0) else 1) 0 n 0 = bl (¬ ∀ s, s < n → ¬ p s)
  | 0 => by
    show (0 : Int32) = _
    unfold bl
    rw [if_neg]
    exact fun h => h (fun s hs => absurd hs (Nat.not_lt_zero s))
  | n + 1 => by
    rw [fd_last, fd_any n, Nat.zero_add]
    by_cases h : ∀ s, s < n → ¬ p s
    · have e0 : bl (¬ ∀ s, s < n → ¬ p s) = 0 := by rw [bl_0]; exact fun hh => hh h
      rw [e0, if_pos rfl]
      by_cases hp : p n
      · rw [if_pos hp]; symm; rw [bl_1]; exact fun hh => hh n (by omega) hp
      · rw [if_neg hp]; symm; rw [bl_0]; exact fun hh => hh (fun s hs => by
          by_cases hsn : s = n
          · rw [hsn]; exact hp
          · exact h s (by omega))
    · have e1 : bl (¬ ∀ s, s < n → ¬ p s) = 1 := by rw [bl_1]; exact h
      rw [e1, if_neg (by decide)]
      symm; rw [bl_1]
      exact fun hh => h (fun s hs => hh s (by omega))
section RF
variable {P : jm_H} {v p k t l rs : Nat → Int32} {hs : Int64} {q : jm_H} {N : Nat}
end RF


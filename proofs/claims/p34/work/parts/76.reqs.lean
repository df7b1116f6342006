/-! FACE: what the class requires -/
section RQ
variable {F : Nat → Nat → Int32} {π : Nat → Nat} {sc rd cd : Nat → Int32} {q : jm_H} {x w : Int32} {h : jm_H}
theorem qF1 (hI : Iv (F 0)) (hx : ∃ f, f < cnt (F 0) 0 ∧ x = nI f) : FX3_requireFilm 0 x (hC F π sc rd cd q) = rV (hC F π sc rd cd q) := by
  have e : 0 ≤ x ∧ x ≤ F 0 0 - 1 := by rw [hI.nf.1]; exact (in_n (by have := hI.nf.2; omega)).mpr hx
  unfold FX3_requireFilm
  rw [k_r0, c_r0, c_n0, e_in3, I_e, bl_t e, if_neg (by decide)]
theorem qF0 (hI : Iv (F 0)) (hx : ¬ ∃ f, f < cnt (F 0) 0 ∧ x = nI f) : FX3_requireFilm 0 x (hC F π sc rd cd q) = rX "java/lang/IndexOutOfBoundsException" (hC F π sc rd cd q) := by
  have e : ¬ (0 ≤ x ∧ x ≤ F 0 0 - 1) := by rw [hI.nf.1]; exact fun hh => hx ((in_n (by have := hI.nf.2; omega)).mp hh)
  unfold FX3_requireFilm
  rw [k_r0, c_r0, c_n0, e_in3, I_e, bl_f e, if_pos rfl]
theorem qS1 (hI : Iv (F 0)) (hx : ∃ f, f < cnt (F 0) 1 ∧ x = nI f) : FX3_requireShowing 0 x (hC F π sc rd cd q) = rV (hC F π sc rd cd q) := by
  have e : 0 ≤ x ∧ x ≤ F 0 1 - 1 := by rw [hI.ns.1]; exact (in_n (by have := hI.ns.2; omega)).mpr hx
  unfold FX3_requireShowing
  rw [k_r0, c_r3, c_n1, e_in3, I_e, bl_t e, if_neg (by decide)]
theorem qS0 (hI : Iv (F 0)) (hx : ¬ ∃ f, f < cnt (F 0) 1 ∧ x = nI f) : FX3_requireShowing 0 x (hC F π sc rd cd q) = rX "java/lang/IndexOutOfBoundsException" (hC F π sc rd cd q) := by
  have e : ¬ (0 ≤ x ∧ x ≤ F 0 1 - 1) := by rw [hI.ns.1]; exact fun hh => hx ((in_n (by have := hI.ns.2; omega)).mp hh)
  unfold FX3_requireShowing
  rw [k_r0, c_r3, c_n1, e_in3, I_e, bl_f e, if_pos rfl]
theorem qC1 (hx : 0 ≤ x ∧ x ≤ 2) : FX3_requireScreen x h = rV h := by
  unfold FX3_requireScreen
  rw [e_in3, I_e, bl_t hx, if_neg (by decide)]
theorem qC0 (hx : ¬ (0 ≤ x ∧ x ≤ 2)) : FX3_requireScreen x h = rX "java/lang/IndexOutOfBoundsException" h := by
  unfold FX3_requireScreen
  rw [e_in3, I_e, bl_f hx, if_pos rfl]
theorem qJ1 (hx : 0 ≤ x ∧ x ≤ 2) : FX3_requireJuror x h = rV h := by
  unfold FX3_requireJuror
  rw [e_in3, I_e, bl_t hx, if_neg (by decide)]
theorem qJ0 (hx : ¬ (0 ≤ x ∧ x ≤ 2)) : FX3_requireJuror x h = rX "java/lang/IndexOutOfBoundsException" h := by
  unfold FX3_requireJuror
  rw [e_in3, I_e, bl_f hx, if_pos rfl]
theorem qM1 (hx : 0 ≤ x ∧ x ≤ 1999) : FX3_requireMinute x h = rV h := by
  unfold FX3_requireMinute
  rw [e_in3, I_e, bl_t hx, rq1, V_e]
theorem qM0 (hx : ¬ (0 ≤ x ∧ x ≤ 1999)) : FX3_requireMinute x h = rX "java/lang/IllegalArgumentException" h := by
  unfold FX3_requireMinute
  rw [e_in3, I_e, bl_f hx, rq0, V_x]
theorem qW1 (hx : 0 ≤ x ∧ x ≤ w) : FX3_requireWhat x w h = rV h := by
  unfold FX3_requireWhat
  rw [e_in3, I_e, bl_t hx, rq1, V_e]
theorem qW0 (hx : ¬ (0 ≤ x ∧ x ≤ w)) : FX3_requireWhat x w h = rX "java/lang/IllegalArgumentException" h := by
  unfold FX3_requireWhat
  rw [e_in3, I_e, bl_f hx, rq0, V_x]
theorem qR1 : FX3_requireNotRefused 0 h = rV h := rfl
theorem qR0 (hx : ¬ x = 0) : FX3_requireNotRefused x h = rX "java/lang/IllegalStateException" h := by
  unfold FX3_requireNotRefused
  rw [if_neg hx]
end RQ


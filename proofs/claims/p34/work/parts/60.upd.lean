/-! UPDATES: a festival of the class takes a row, the reference's row takes a number -/
def fu (F : Nat → Nat → Int32) (i : Nat) (w : Nat → Int32) : Nat → Nat → Int32 := fun j => if j = i then w else F j
def bs : Nat → Nat
  | 0 => 1
  | 1 => 14
  | i + 2 => 28 + 13 * i
section FU
variable {F : Nat → Nat → Int32} {i j : Nat} {w w' : Nat → Int32}
theorem fu_s : fu F i w i = w := by simp [fu]
theorem fu_n (h : j ≠ i) : fu F i w j = F j := by simp [fu, h]
theorem fu_fu : fu (fu F i w) i w' = fu F i w' := by
  funext j
  by_cases h : j = i
  · subst h; rw [fu_s, fu_s]
  · rw [fu_n h, fu_n h, fu_n h]
theorem fu_id : fu F i (F i) = F := by
  funext j
  by_cases h : j = i
  · subst h; rw [fu_s]
  · rw [fu_n h]
theorem sl_congr {v w : Nat → Int32} {o n : Nat} (h : ∀ j, j < 132 → v j = w j) (ho : o + n ≤ 132) : sl v o n = sl w o n := by
  funext j
  unfold sl
  by_cases hj : j < n
  · rw [if_pos hj, if_pos hj, h _ (by omega)]
  · rw [if_neg hj, if_neg hj]
theorem fest_congr {b : Nat} {v w : Nat → Int32} (h : ∀ j, j < 132 → v j = w j) : fest b v = fest b w := by
  unfold fest
  rw [sl_congr (o := 10) (n := 16) h (by decide), sl_congr (o := 7) (n := 3) h (by decide), sl_congr (o := 3) (n := 4) h (by decide), sl_congr (o := 26) (n := 60) h (by decide), sl_congr (o := 86) (n := 18) h (by decide), sl_congr (o := 104) (n := 24) h (by decide), h 0 (by decide), h 1 (by decide), h 2 (by decide), h 128 (by decide), h 129 (by decide), h 130 (by decide), h 131 (by decide)]
end FU
section UC
variable {F : Nat → Nat → Int32} {π : Nat → Nat} {sc rd cd : Nat → Int32} {q : jm_H} {i j : Nat}
theorem h_split (hi : i < 8) : ∃ A B : jm_H, A.length = bs i ∧ ∀ w, hC (fu F i w) π sc rd cd q = A ++ (fest (bs i) w ++ B) := by
  have : i = 0 ∨ i = 1 ∨ i = 2 ∨ i = 3 ∨ i = 4 ∨ i = 5 ∨ i = 6 ∨ i = 7 := by omega
  rcases this with rfl | rfl | rfl | rfl | rfl | rfl | rfl | rfl
  · exact ⟨(hC F π sc rd cd q).take 1, (hC F π sc rd cd q).drop 14, rfl, fun w => rfl⟩
  · exact ⟨(hC F π sc rd cd q).take 14, (hC F π sc rd cd q).drop 27, rfl, fun w => rfl⟩
  · exact ⟨(hC F π sc rd cd q).take 28, (hC F π sc rd cd q).drop 41, rfl, fun w => rfl⟩
  · exact ⟨(hC F π sc rd cd q).take 41, (hC F π sc rd cd q).drop 54, rfl, fun w => rfl⟩
  · exact ⟨(hC F π sc rd cd q).take 54, (hC F π sc rd cd q).drop 67, rfl, fun w => rfl⟩
  · exact ⟨(hC F π sc rd cd q).take 67, (hC F π sc rd cd q).drop 80, rfl, fun w => rfl⟩
  · exact ⟨(hC F π sc rd cd q).take 80, (hC F π sc rd cd q).drop 93, rfl, fun w => rfl⟩
  · exact ⟨(hC F π sc rd cd q).take 93, (hC F π sc rd cd q).drop 106, rfl, fun w => rfl⟩
theorem fest_len (b : Nat) (v : Nat → Int32) : (fest b v).length = 13 := rfl
theorem h_get {m : Nat} {c : jm_C} (hi : i < 8) (hm : m < 13) (hc : (fest (bs i) (F i))[m]? = some c) : (hC F π sc rd cd q)[bs i + m]? = some c := by
  obtain ⟨A, B, h1, h2⟩ := h_split (F := F) (π := π) (sc := sc) (rd := rd) (cd := cd) (q := q) hi
  have := h2 (F i)
  rw [fu_id] at this
  rw [this, ← h1, List.getElem?_append_right (by omega), Nat.add_sub_cancel_left, List.getElem?_append_left (by rw [fest_len]; exact hm), h1, hc]
theorem h_st {m : Nat} {c : jm_C} {w : Nat → Int32} (hi : i < 8) (hm : m < 13) (hc : (fest (bs i) (F i)).set m c = fest (bs i) w) : (hC F π sc rd cd q).set (bs i + m) c = hC (fu F i w) π sc rd cd q := by
  obtain ⟨A, B, h1, h2⟩ := h_split (F := F) (π := π) (sc := sc) (rd := rd) (cd := cd) (q := q) hi
  have := h2 (F i)
  rw [fu_id] at this
  rw [this, ← h1, List.set_append_right _ _ (by omega), Nat.add_sub_cancel_left, List.set_append_left _ _ (by rw [fest_len]; exact hm), h1, hc, h2 w]
theorem h_congr {w w' : Nat → Int32} (hi : i < 8) (h : ∀ j, j < 132 → w j = w' j) : hC (fu F i w) π sc rd cd q = hC (fu F i w') π sc rd cd q := by
  obtain ⟨A, B, h1, h2⟩ := h_split (F := F) (π := π) (sc := sc) (rd := rd) (cd := cd) (q := q) hi
  rw [h2, h2, fest_congr h]
theorem sl_hi (v : Nat → Int32) {o n j : Nat} (h : n ≤ j) : sl v o n j = 0 := if_neg (by omega)
theorem tk_e {h : jm_H} {a u b w n : Nat} {f g : Nat → Int32} {C C' R R' : Int32} (h1 : h[a]? = some (.inr (2, [.int C, .ref u, .int R]))) (h2 : h[u]? = some (aI n f)) (h3 : h[b]? = some (.inr (2, [.int C', .ref w, .int R']))) (h4 : h[w]? = some (aI n g)) (hau : a ≠ u) (hbu : b ≠ u) (hn : n < 2 ^ 31) (hfg : ∀ j, n ≤ j → f j = g j) :
    FX2_takeRows a b h = rV ((h.set u (aI n g)).set a (.inr (2, [.int C, .ref u, .int R']))) := by
  have e : va_cpy g f 0 0 n = g := by
    funext j
    by_cases hj : j < n
    · rw [pk_cpy_in (by omega) (by omega)]
      congr 1
      omega
    · rw [pk_cpy_out (by omega), hfg j (by omega)]
  have hc : (Int32.ofNat n).toNatClampNeg = n := nI_clamp hn
  have h0 : ¬ Int32.ofNat n < 0 := nI_pos hn
  unfold FX2_takeRows
  simp only [gR_e (k := 1) (v := w) h3 rfl, gR_e (k := 1) (v := u) h1 rfl, len_e (t := 0) h4 (by decide), len_e (t := 0) h2 (by decide), if_true]
  unfold jf_cp
  rw [h4, h2]
  simp only [hc]
  rw [if_neg (by
    have z : ((0 : Int32)).toNatClampNeg = 0 := by decide
    rw [z]
    rintro (h9 | h9 | h9 | h9 | h9)
    · exact absurd h9 (by decide)
    · exact absurd h9 (by decide)
    · exact h0 h9
    · omega
    · omega)]
  rw [show ((0 : Int32)).toNatClampNeg = 0 by decide, e]
  rw [gI_e (k := 2) (v := R') (by rw [List.getElem?_set_ne (by omega)]; exact h3) rfl, p_e (by rw [List.getElem?_set_ne (by omega)]; exact h1) (by simp)]
  rfl
/-- a row with the places o, .., o + n - 1 and a of another row -/
def cpr (v w : Nat → Int32) (o n a : Nat) : Nat → Int32 := fun x => if (o ≤ x ∧ x < o + n) ∨ x = a then w x else v x
theorem cpr_in {v w : Nat → Int32} {o n a x : Nat} (h : (o ≤ x ∧ x < o + n) ∨ x = a) : cpr v w o n a x = w x := if_pos h
theorem cpr_out {v w : Nat → Int32} {o n a x : Nat} (h : ¬ ((o ≤ x ∧ x < o + n) ∨ x = a)) : cpr v w o n a x = v x := if_neg h
theorem sl_cin {v w : Nat → Int32} {o n a : Nat} : sl (cpr v w o n a) o n = sl w o n := by
  funext j
  unfold sl
  by_cases hj : j < n
  · rw [if_pos hj, if_pos hj, cpr_in (by omega)]
  · rw [if_neg hj, if_neg hj]
theorem sl_cout {v w : Nat → Int32} {o n a o' n' : Nat} (h : (o' + n' ≤ o ∨ o + n ≤ o') ∧ (a < o' ∨ o' + n' ≤ a)) : sl (cpr v w o n a) o' n' = sl v o' n' := by
  funext j
  unfold sl
  by_cases hj : j < n'
  · rw [if_pos hj, if_pos hj, cpr_out (by omega)]
  · rw [if_neg hj, if_neg hj]
theorem bs_ne (hi : i < 8) (hj : j < 8) (hij : i ≠ j) {m m' : Nat} (hm : m < 13) (hm' : m' < 13) : bs i + m ≠ bs j + m' := by
  match i, j with
  | 0, 0 => omega
  | 0, 1 => simp only [bs]; omega
  | 0, j + 2 => simp only [bs]; omega
  | 1, 0 => simp only [bs]; omega
  | 1, 1 => omega
  | 1, j + 2 => simp only [bs]; omega
  | i + 2, 0 => simp only [bs]; omega
  | i + 2, 1 => simp only [bs]; omega
  | i + 2, j + 2 => simp only [bs]; omega
theorem tk_t {m n : Nat} {C : Int32} {f g w : Nat → Int32} {R R' : Int32} (hi : i < 8) (hj : j < 8) (hij : i ≠ j) (hm : m + 1 < 13) (hn : n < 2 ^ 31)
    (h1 : (fest (bs i) (F i))[m]? = some (.inr (2, [.int C, .ref (bs i + (m + 1)), .int R]))) (h2 : (fest (bs i) (F i))[m + 1]? = some (aI n f))
    (h3 : (fest (bs j) (F j))[m]? = some (.inr (2, [.int C, .ref (bs j + (m + 1)), .int R']))) (h4 : (fest (bs j) (F j))[m + 1]? = some (aI n g)) (hfg : ∀ x, n ≤ x → f x = g x)
    {w1 : Nat → Int32} (hw1 : (fest (bs i) (F i)).set (m + 1) (aI n g) = fest (bs i) w1) (hw : (fest (bs i) w1).set m (.inr (2, [.int C, .ref (bs i + (m + 1)), .int R'])) = fest (bs i) w) :
    FX2_takeRows (bs i + m) (bs j + m) (hC F π sc rd cd q) = rV (hC (fu F i w) π sc rd cd q) := by
  rw [tk_e (h_get hi (by omega) h1) (h_get hi (by omega) h2) (h_get hj (by omega) h3) (h_get hj (by omega) h4) (by omega) (bs_ne hj hi (Ne.symm hij) (by omega) (by omega)) hn hfg]
  rw [h_st hi (by omega) hw1, h_st (w := w) hi (by omega) (by rw [fu_s]; exact hw), fu_fu]
end UC


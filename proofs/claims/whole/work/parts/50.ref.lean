/-! THE REFERENCE: its row, its looks -/
theorem fd_any {p : Nat → Prop} [DecidablePred p] : ∀ n : Nat, fd (fun s (a : Int32) => if a = 0 then (if p s then 1 else 0) else 1) 0 n 0 = bl (¬ ∀ s, s < n → ¬ p s)
  | 0 => by
    show (0 : Int32) = _
    unfold bl
    rw [if_neg]
    exact fun h => h (fun s hs => absurd hs (Nat.not_lt_zero s))
  | n + 1 => by
    rw [fd_last, fd_any n, Nat.zero_add]
    by_cases h : ∀ s, s < n → ¬ p s
    · have e0 : bl (¬ ∀ s, s < n → ¬ p s) = 0 := by rw [bl_0]; exact fun hh => hh h
      rw [e0, if_pos rfl]
      by_cases hp : p n
      · rw [if_pos hp]; symm; rw [bl_1]; exact fun hh => hh n (by omega) hp
      · rw [if_neg hp]; symm; rw [bl_0]; exact fun hh => hh (fun s hs => by
          by_cases hsn : s = n
          · rw [hsn]; exact hp
          · exact h s (by omega))
    · have e1 : bl (¬ ∀ s, s < n → ¬ p s) = 1 := by rw [bl_1]; exact h
      rw [e1, if_neg (by decide)]
      symm; rw [bl_1]
      exact fun hh => h (fun s hs => hh s (by omega))
section RF
variable {P : jm_H} {v p k t l rs : Nat → Int32} {hs : Int64} {q : jm_H} {N : Nat}
theorem r_at (hP : P.length = 108) (i : Nat) : (hR P v p k t l rs hs q)[108 + i]? = (refH v p k t l rs hs ++ q)[i]? := by
  show (P ++ (refH v p k t l rs hs ++ q))[108 + i]? = _
  rw [List.getElem?_append_right (by omega), hP, Nat.add_sub_cancel_left]
theorem r_now (hP : P.length = 108) {f : Nat → Option jm_X} : jf_gR 4 (hR P v p k t l rs hs q) 108 0 f = f 109 := gR_e ((r_at hP 0).trans rfl) rfl
theorem r_past (hP : P.length = 108) {f : Nat → Option jm_X} : jf_gR 4 (hR P v p k t l rs hs q) 108 1 f = f 110 := gR_e ((r_at hP 0).trans rfl) rfl
theorem r_kept (hP : P.length = 108) {f : Nat → Option jm_X} : jf_gR 4 (hR P v p k t l rs hs q) 108 3 f = f 111 := gR_e ((r_at hP 0).trans rfl) rfl
theorem r_text (hP : P.length = 108) {f : Nat → Option jm_X} : jf_gR 4 (hR P v p k t l rs hs q) 108 5 f = f 112 := gR_e ((r_at hP 0).trans rfl) rfl
theorem r_told (hP : P.length = 108) {f : Nat → Option jm_X} : jf_gR 4 (hR P v p k t l rs hs q) 108 12 f = f 113 := gR_e ((r_at hP 0).trans rfl) rfl
theorem r_i0 (hP : P.length = 108) {f : Int32 → Option jm_X} : jf_gI 4 (hR P v p k t l rs hs q) 108 2 f = f (rs 0) := gI_e ((r_at hP 0).trans rfl) rfl
theorem r_i1 (hP : P.length = 108) {f : Int32 → Option jm_X} : jf_gI 4 (hR P v p k t l rs hs q) 108 4 f = f (rs 1) := gI_e ((r_at hP 0).trans rfl) rfl
theorem r_i2 (hP : P.length = 108) {f : Int32 → Option jm_X} : jf_gI 4 (hR P v p k t l rs hs q) 108 6 f = f (rs 2) := gI_e ((r_at hP 0).trans rfl) rfl
theorem r_i3 (hP : P.length = 108) {f : Int32 → Option jm_X} : jf_gI 4 (hR P v p k t l rs hs q) 108 7 f = f (rs 3) := gI_e ((r_at hP 0).trans rfl) rfl
theorem r_i4 (hP : P.length = 108) {f : Int32 → Option jm_X} : jf_gI 4 (hR P v p k t l rs hs q) 108 8 f = f (rs 4) := gI_e ((r_at hP 0).trans rfl) rfl
theorem r_i5 (hP : P.length = 108) {f : Int32 → Option jm_X} : jf_gI 4 (hR P v p k t l rs hs q) 108 9 f = f (rs 5) := gI_e ((r_at hP 0).trans rfl) rfl
theorem r_i6 (hP : P.length = 108) {f : Int32 → Option jm_X} : jf_gI 4 (hR P v p k t l rs hs q) 108 10 f = f (rs 6) := gI_e ((r_at hP 0).trans rfl) rfl
theorem r_i7 (hP : P.length = 108) {f : Int32 → Option jm_X} : jf_gI 4 (hR P v p k t l rs hs q) 108 11 f = f (rs 7) := gI_e ((r_at hP 0).trans rfl) rfl
theorem r_i8 (hP : P.length = 108) {f : Int32 → Option jm_X} : jf_gI 4 (hR P v p k t l rs hs q) 108 13 f = f (rs 8) := gI_e ((r_at hP 0).trans rfl) rfl
theorem r_h (hP : P.length = 108) {f : Int64 → Option jm_X} : jf_gL 4 (hR P v p k t l rs hs q) 108 14 f = f hs := gL_e ((r_at hP 0).trans rfl) rfl
theorem r_o (hP : P.length = 108) {r : Option jm_X} : jf_o 4 108 (hR P v p k t l rs hs q) r = r := o_e ((r_at hP 0).trans rfl)
theorem r_set (hP : P.length = 108) (i : Nat) (c : jm_C) : (P ++ (refH v p k t l rs hs ++ q)).set (108 + i) c = P ++ (refH v p k t l rs hs ++ q).set i c := by
  rw [List.set_append_right _ _ (by omega), hP, Nat.add_sub_cancel_left]
theorem r_p (hP : P.length = 108) {j : Nat} {x : Value} {f : jm_H → Option jm_X} (hj : j < 15) : jf_p 4 (hR P v p k t l rs hs q) 108 j x f = f (P ++ (refH v p k t l rs hs ++ q).set 0 (.inr (4, [.ref 109, .ref 110, .int (rs 0), .ref 111, .int (rs 1), .ref 112, .int (rs 2), .int (rs 3), .int (rs 4), .int (rs 5), .int (rs 6), .int (rs 7), .ref 113, .int (rs 8), .long hs].set j x))) := by
  rw [p_e ((r_at hP 0).trans rfl) hj]
  rw [show (108 : Nat) = 108 + 0 from rfl, r_set hP]
theorem r_p0 (hP : P.length = 108) {x : Int32} {f : jm_H → Option jm_X} : jf_p 4 (hR P v p k t l rs hs q) 108 2 (.int x) f = f (hR P v p k t l (upd rs 0 x) hs q) := (r_p hP (by decide)).trans rfl
theorem r_p1 (hP : P.length = 108) {x : Int32} {f : jm_H → Option jm_X} : jf_p 4 (hR P v p k t l rs hs q) 108 4 (.int x) f = f (hR P v p k t l (upd rs 1 x) hs q) := (r_p hP (by decide)).trans rfl
theorem r_p2 (hP : P.length = 108) {x : Int32} {f : jm_H → Option jm_X} : jf_p 4 (hR P v p k t l rs hs q) 108 6 (.int x) f = f (hR P v p k t l (upd rs 2 x) hs q) := (r_p hP (by decide)).trans rfl
theorem r_p3 (hP : P.length = 108) {x : Int32} {f : jm_H → Option jm_X} : jf_p 4 (hR P v p k t l rs hs q) 108 7 (.int x) f = f (hR P v p k t l (upd rs 3 x) hs q) := (r_p hP (by decide)).trans rfl
theorem r_p4 (hP : P.length = 108) {x : Int32} {f : jm_H → Option jm_X} : jf_p 4 (hR P v p k t l rs hs q) 108 8 (.int x) f = f (hR P v p k t l (upd rs 4 x) hs q) := (r_p hP (by decide)).trans rfl
theorem r_p5 (hP : P.length = 108) {x : Int32} {f : jm_H → Option jm_X} : jf_p 4 (hR P v p k t l rs hs q) 108 9 (.int x) f = f (hR P v p k t l (upd rs 5 x) hs q) := (r_p hP (by decide)).trans rfl
theorem r_p6 (hP : P.length = 108) {x : Int32} {f : jm_H → Option jm_X} : jf_p 4 (hR P v p k t l rs hs q) 108 10 (.int x) f = f (hR P v p k t l (upd rs 6 x) hs q) := (r_p hP (by decide)).trans rfl
theorem r_p7 (hP : P.length = 108) {x : Int32} {f : jm_H → Option jm_X} : jf_p 4 (hR P v p k t l rs hs q) 108 11 (.int x) f = f (hR P v p k t l (upd rs 7 x) hs q) := (r_p hP (by decide)).trans rfl
theorem r_p8 (hP : P.length = 108) {x : Int32} {f : jm_H → Option jm_X} : jf_p 4 (hR P v p k t l rs hs q) 108 13 (.int x) f = f (hR P v p k t l (upd rs 8 x) hs q) := (r_p hP (by decide)).trans rfl
theorem r_ph (hP : P.length = 108) {x : Int64} {f : jm_H → Option jm_X} : jf_p 4 (hR P v p k t l rs hs q) 108 14 (.long x) f = f (hR P v p k t l rs x q) := (r_p hP (by decide)).trans rfl
theorem r_ld (hP : P.length = 108) {j : Nat} {g : Int32 → Option jm_X} (hj : j < 132) : jf_ldI (hR P v p k t l rs hs q) 109 (nI j) g = g (v j) := by
  rw [ldI_e (n := 132) (f := sl v 0 132) ((r_at hP 1).trans rfl) hj (by decide), sl_in hj, Nat.zero_add]
theorem r_ldt (hP : P.length = 108) {j : Nat} {g : Int32 → Option jm_X} (hj : j < 60) : jf_ldI (hR P v p k t l rs hs q) 112 (nI j) g = g (t j) := by
  rw [ldI_e (n := 60) (f := sl t 0 60) ((r_at hP 4).trans rfl) hj (by decide), sl_in hj, Nat.zero_add]
theorem r_ldl (hP : P.length = 108) {j : Nat} {g : Int32 → Option jm_X} (hj : j < 48) : jf_ldI (hR P v p k t l rs hs q) 113 (nI j) g = g (l j) := by
  rw [ldI_e (n := 48) (f := sl l 0 48) ((r_at hP 5).trans rfl) hj (by decide), sl_in hj, Nat.zero_add]
theorem r_n0 (hP : P.length = 108) {g : Int32 → Option jm_X} : jf_ldI (hR P v p k t l rs hs q) 109 0 g = g (v 0) := r_ld (j := 0) hP (by decide)
theorem r_n1 (hP : P.length = 108) {g : Int32 → Option jm_X} : jf_ldI (hR P v p k t l rs hs q) 109 1 g = g (v 1) := r_ld (j := 1) hP (by decide)
theorem r_n2 (hP : P.length = 108) {g : Int32 → Option jm_X} : jf_ldI (hR P v p k t l rs hs q) 109 2 g = g (v 2) := r_ld (j := 2) hP (by decide)
theorem r_n3 (hP : P.length = 108) {g : Int32 → Option jm_X} : jf_ldI (hR P v p k t l rs hs q) 109 3 g = g (v 3) := r_ld (j := 3) hP (by decide)
theorem r_n4 (hP : P.length = 108) {g : Int32 → Option jm_X} : jf_ldI (hR P v p k t l rs hs q) 109 4 g = g (v 4) := r_ld (j := 4) hP (by decide)
theorem r_n5 (hP : P.length = 108) {g : Int32 → Option jm_X} : jf_ldI (hR P v p k t l rs hs q) 109 5 g = g (v 5) := r_ld (j := 5) hP (by decide)
theorem r_n6 (hP : P.length = 108) {g : Int32 → Option jm_X} : jf_ldI (hR P v p k t l rs hs q) 109 6 g = g (v 6) := r_ld (j := 6) hP (by decide)
theorem e_in4 {x a b : Int32} {h : jm_H} : FX4_in x a b h = rI (bl (a ≤ x ∧ x ≤ b)) h := by
  unfold FX4_in bl
  by_cases h1 : x < a
  · have : ¬ a ≤ x := Int32.not_le.mpr h1
    simp [h1, this]
  · have h1' : a ≤ x := Int32.not_lt.mp h1
    by_cases h2 : b < x
    · have : ¬ x ≤ b := Int32.not_le.mpr h2
      simp [h1, h1', h2, this]
    · have h2' : x ≤ b := Int32.not_lt.mp h2
      simp [h1, h1', h2, h2']
theorem e_near4 {a b c d g : Int32} {h : jm_H} : FX4_isNear a b c d g h = rI (bl (near a b c d g)) h := by
  unfold FX4_isNear bl near
  by_cases h1 : d + g ≤ a
  · have : ¬ a < d + g := fun h9 => absurd h9 (Int32.not_lt.mpr h1)
    simp [h1, this]
  · have h1' : a < d + g := Int32.not_le.mp h1
    by_cases h2 : b + g ≤ c
    · have : ¬ c < b + g := fun h9 => absurd h9 (Int32.not_lt.mpr h2)
      simp [h1, h1', h2, this]
    · have h2' : c < b + g := Int32.not_le.mp h2
      simp [h1, h1', h2, h2']
theorem r_reels (hP : P.length = 108) {f : Nat} (hf : f < 8) : FX4_reels 108 (nI f) (hR P v p k t l rs hs q) = rI (sF v f 0) (hR P v p k t l rs hs q) := by
  unfold FX4_reels
  rw [r_now hP, show (10 : Int32) + 2 * nI f = nI (10 + 2 * f) by rw [← nI_add, ← pk_mul]; rfl, r_ld hP (by omega)]
  rfl
theorem r_min (hP : P.length = 108) {f : Nat} (hf : f < 8) : FX4_minutes 108 (nI f) (hR P v p k t l rs hs q) = rI (sF v f 1) (hR P v p k t l rs hs q) := by
  unfold FX4_minutes
  rw [r_now hP, show (10 : Int32) + 2 * nI f + 1 = nI (10 + 2 * f + 1) by rw [← nI_add, ← nI_add, ← pk_mul]; rfl, r_ld hP (by omega)]
theorem r_of (hP : P.length = 108) {s c : Nat} (hs' : s < 12) (hc : c < 5) : FX4_of 108 (nI s) (nI c) (hR P v p k t l rs hs q) = rI (sS v s c) (hR P v p k t l rs hs q) := by
  unfold FX4_of
  rw [r_now hP, show (26 : Int32) + 5 * nI s + nI c = nI (26 + 5 * s + c) by rw [← nI_add, ← nI_add, ← pk_mul]; rfl, r_ld hP (by omega)]
theorem r_of0 (hP : P.length = 108) {s : Nat} (hs' : s < 12) : FX4_of 108 (nI s) 0 (hR P v p k t l rs hs q) = rI (sS v s 0) (hR P v p k t l rs hs q) := r_of (c := 0) hP hs' (by decide)
theorem r_of1 (hP : P.length = 108) {s : Nat} (hs' : s < 12) : FX4_of 108 (nI s) 1 (hR P v p k t l rs hs q) = rI (sS v s 1) (hR P v p k t l rs hs q) := r_of (c := 1) hP hs' (by decide)
theorem r_of2 (hP : P.length = 108) {s : Nat} (hs' : s < 12) : FX4_of 108 (nI s) 2 (hR P v p k t l rs hs q) = rI (sS v s 2) (hR P v p k t l rs hs q) := r_of (c := 2) hP hs' (by decide)
theorem r_of3 (hP : P.length = 108) {s : Nat} (hs' : s < 12) : FX4_of 108 (nI s) 3 (hR P v p k t l rs hs q) = rI (sS v s 3) (hR P v p k t l rs hs q) := r_of (c := 3) hP hs' (by decide)
theorem r_of4 (hP : P.length = 108) {s : Nat} (hs' : s < 12) : FX4_of 108 (nI s) 4 (hR P v p k t l rs hs q) = rI (sS v s 4) (hR P v p k t l rs hs q) := r_of (c := 4) hP hs' (by decide)
theorem r_gh (hP : P.length = 108) {g c : Nat} (hg : g < 6) (hc : c < 3) : FX4_guestHas 108 (nI g) (nI c) (hR P v p k t l rs hs q) = rI (sG v g c) (hR P v p k t l rs hs q) := by
  unfold FX4_guestHas
  rw [r_now hP, show (86 : Int32) + 3 * nI g + nI c = nI (86 + 3 * g + c) by rw [← nI_add, ← nI_add, ← pk_mul]; rfl, r_ld hP (by omega)]
theorem r_gh0 (hP : P.length = 108) {s : Nat} (hs' : s < 6) : FX4_guestHas 108 (nI s) 0 (hR P v p k t l rs hs q) = rI (sG v s 0) (hR P v p k t l rs hs q) := r_gh (c := 0) hP hs' (by decide)
theorem r_gh1 (hP : P.length = 108) {s : Nat} (hs' : s < 6) : FX4_guestHas 108 (nI s) 1 (hR P v p k t l rs hs q) = rI (sG v s 1) (hR P v p k t l rs hs q) := r_gh (c := 1) hP hs' (by decide)
theorem r_gh2 (hP : P.length = 108) {s : Nat} (hs' : s < 6) : FX4_guestHas 108 (nI s) 2 (hR P v p k t l rs hs q) = rI (sG v s 2) (hR P v p k t l rs hs q) := r_gh (c := 2) hP hs' (by decide)
theorem r_beg (hP : P.length = 108) {f : Nat} {st pp x : Int32} (hf : f < 8) : FX4_begins 108 (nI f) st pp x (hR P v p k t l rs hs q) = rI (sBeg st pp (sF v f 0) (sF v f 1) x) (hR P v p k t l rs hs q) := by
  unfold FX4_begins
  rw [r_o hP, r_min hP hf, I_e, r_o hP, r_reels hP hf, I_e, add0]
  unfold sBeg
  by_cases h : x < (sF v f 0 + 1) / 2
  · have : ¬ (sF v f 0 + 1) / 2 ≤ x := Int32.not_le.mpr h
    simp [h, this]
  · have h' : (sF v f 0 + 1) / 2 ≤ x := Int32.not_lt.mp h
    simp [h, h']
theorem r_ends (hP : P.length = 108) {f : Nat} {st pp : Int32} (hf : f < 8) : FX4_ends 108 (nI f) st pp (hR P v p k t l rs hs q) = rI (st + sLen v f + pp) (hR P v p k t l rs hs q) := by
  unfold FX4_ends
  rw [r_o hP, r_reels hP hf, I_e, r_o hP, r_min hP hf, I_e]
  rfl
theorem r_end (hP : P.length = 108) {s : Nat} (hI : Iv v) (hs' : s < cnt v 1) : FX4_end 108 (nI s) (hR P v p k t l rs hs q) = rI (sEnd v s) (hR P v p k t l rs hs q) := by
  have h12 : s < 12 := by have := hI.ns.2; omega
  have h8 : fmo v s < 8 := by have := hI.fo_lt hs'; have := hI.nf.2; omega
  unfold FX4_end
  rw [r_o hP, r_of0 hP h12, I_e, r_o hP, r_of2 hP h12, I_e, r_o hP, r_of3 hP h12, I_e, r_o hP, hI.fo hs', r_ends hP h8, I_e]
  rfl
theorem r_goes (hP : P.length = 108) {s : Nat} {j : Int32} (hs' : s < 12) : FX4_goes 108 j (nI s) (hR P v p k t l rs hs q) = rI (bl (hb (sS v s 4) j)) (hR P v p k t l rs hs q) := by
  unfold FX4_goes
  rw [r_o hP, r_of4 hP hs', I_e]
  unfold bl
  by_cases hc : hb (sS v s 4) j
  · rw [if_pos hc, if_pos hc]
  · rw [if_neg hc, if_neg hc]
theorem r_cl (hP : P.length = 108) {a pp : Int32} {f o : Nat} (hN : 13 ≤ N) (hI : Iv v) (hf : f < cnt v 0) (ho : o < cnt v 1) : FX4_clash N 108 (nI o) (nI f) a pp (hR P v p k t l rs hs q) = rI (sCl v f a pp o) (hR P v p k t l rs hs q) := by
  have h12 : o < 12 := by have := hI.ns.2; omega
  have h8 : f < 8 := by have := hI.nf.2; omega
  unfold FX4_clash
  obtain ⟨hn, h1, h6⟩ := hI.re hf
  have := lp_find (fun n x => FX4_clash_3 N n 108 (nI o) (nI f) a pp x (hR P v p k t l rs hs q)) (nR v f) (pCl v f a pp o) (fun i => rI (nI i) (hR P v p k t l rs hs q)) (rI (-1) (hR P v p k t l rs hs q))
    (fun n => by
      show FX4_clash_3 N (n + 1) 108 (nI o) (nI f) a pp (nI (nR v f)) (hR P v p k t l rs hs q) = _
      rw [FX4_clash_3, r_o hP, r_reels hP h8, I_e, hn, if_pos (Int32.le_refl _)])
    (fun n x hk => by
      have h9 := nI_ge hk (lt31 (by omega))
      show FX4_clash_3 N (n + 1) 108 (nI o) (nI f) a pp (nI x) (hR P v p k t l rs hs q) = _
      rw [FX4_clash_3, r_o hP, r_reels hP h8, I_e, if_neg (by rw [hn]; exact h9), nI_1]
      simp only [r_o hP, r_beg hP h8, I_e, r_of2 hP h12, r_of3 hP h12, r_min hP h8, r_now hP, r_n3 hP, e_near4, bl_0]
      by_cases h3 : pCl v f a pp o x
      · rw [if_neg (fun hh => hh h3), if_pos h3]
      · rw [if_pos h3, if_neg h3])
    (nR v f) N 0 (by omega) (by omega)
  rw [show (0 : Int32) = nI 0 from rfl]
  exact this.trans (ffst_map _ nI (-1) (fun x => rI x (hR P v p k t l rs hs q)) _ _)
end RF

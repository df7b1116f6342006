/-! WHO GOES: a showing has moved, a juror goes -/
theorem g_off : ∀ g, g < 8 → ∀ k, k < 3 → hb (nI g) (nI k) → nI g &&& (((1 : Int32) <<< (nI k &&& 31)) ^^^ (-1)) = nI (g - 2 ^ k) ∧ nI g - ((1 : Int32) <<< (nI k &&& 31)) = nI (g - 2 ^ k) := by decide +kernel
theorem g_on : ∀ g, g < 8 → ∀ k, k < 3 → ¬ hb (nI g) (nI k) → nI g ||| ((1 : Int32) <<< (nI k &&& 31)) = nI (g + 2 ^ k) ∧ nI g + ((1 : Int32) <<< (nI k &&& 31)) = nI (g + 2 ^ k) ∧ g + 2 ^ k < 8 := by decide +kernel
section GO
variable {F : Nat → Nat → Int32} {π : Nat → Nat} {sc rd cd : Nat → Int32} {q : jm_H} {N : Nat} {v : Nat → Int32}
theorem cnt_un {v : Nat → Int32} {a b : Nat} {x : Int32} (h : a ≠ b) : cnt (upd v b x) a = cnt v a := by unfold cnt; rw [pk_un h]
theorem stM_ok {s k : Nat} {u : Int32 × (Nat → Int32)} (hI : Iv u.2) (hs : s < cnt u.2 1) : Iv (stM s k u).2 ∧ cnt (stM s k u).2 1 = cnt u.2 1 := by
  unfold stM
  split
  · exact ⟨Iv_goer hI hs (Nat.lt_of_le_of_lt (Nat.sub_le _ _) (hI.go_lt hs)), cnt_un (by omega)⟩
  · exact ⟨hI, rfl⟩
theorem uShift_ok {s : Nat} {m : Int32} (hI : Iv (upd v (26 + 5 * s + 2) m)) (hs : s < cnt v 1) : Iv (uShift v s m).2 ∧ cnt (uShift v s m).2 1 = cnt v 1 := by
  unfold uShift
  have := fd_inv (f := stM s) (fun _ (u : Int32 × (Nat → Int32)) => Iv u.2 ∧ cnt u.2 1 = cnt v 1) 3 0 (0, upd v (26 + 5 * s + 2) m) ⟨hI, cnt_un (by omega)⟩ (fun i a _ _ ha => by
    have := stM_ok (k := i) ha.1 (by rw [ha.2]; exact hs)
    exact ⟨this.1, this.2.trans ha.2⟩)
  exact this
theorem c_shift {s : Nat} {m : Int32} (hN : 13 ≤ N) (hI : Iv (F 0)) (hs : s < cnt (F 0) 1) (hI2 : Iv (upd (F 0) (26 + 5 * s + 2) m)) : FX0_shift N 1 (nI s) m (hC F π sc rd cd q) = rI (uShift (F 0) s m).1 (hC (fu F 0 (uShift (F 0) s m).2) π sc rd cd q) := by
  have hn := hI.ns
  unfold FX0_shift
  rw [c_r3, c_o8, show FX2_put 8 (nI s) 2 m = FX2_put 8 (nI s) (nI 2) m from rfl, c_putS (n := cnt (F 0) 1) hn.1 hn.2 hs (by decide), V_e]
  have L := lp_fold (fun n x (u : Int32 × (Nat → Int32)) => FX0_shift_15 N n 1 (nI s) u.1 x (hC (fu F 0 u.2) π sc rd cd q)) 3 (stM s) (fun u => rI u.1 (hC (fu F 0 u.2) π sc rd cd q)) (fun _ u => Iv u.2 ∧ cnt u.2 1 = cnt (F 0) 1)
    (fun n u _ => by
      show FX0_shift_15 N (n + 1) 1 (nI s) u.1 (nI 3) (hC (fu F 0 u.2) π sc rd cd q) = _
      rw [FX0_shift_15, if_pos (by decide)])
    (fun n k u hk hu => by
      have hs2 : s < cnt u.2 1 := by rw [hu.2]; exact hs
      have hs3 : s < cnt (fu F 0 u.2 0) 1 := by rw [fu_s]; exact hs2
      have hI3 : Iv (fu F 0 u.2 0) := by rw [fu_s]; exact hu.1
      refine ⟨?_, by
        have := stM_ok (k := k) hu.1 hs2
        exact ⟨this.1, this.2.trans hu.2⟩⟩
      show FX0_shift_15 N (n + 1) 1 (nI s) u.1 (nI k) (hC (fu F 0 u.2) π sc rd cd q) = _
      rw [FX0_shift_15, if_neg (show ¬ 3 ≤ nI k from nI_ge (b := 3) hk (by decide)), c_o1, c_goes hI3 hs3, I_e, fu_s]
      simp only [bl_0, nI_1]
      unfold stM
      by_cases h1 : hb (sS u.2 s 4) (nI k)
      · rw [if_neg (fun hh => hh h1), c_o1, c_can hN hI3 hs3, I_e, fu_s]
        by_cases h2 : sGo u.2 (nI k) s = 0
        · have h1' := h1
          rw [hu.1.go hs2] at h1'
          have e4 : tS (fu F 0 u.2 0) (nI s) 4 = sS u.2 s 4 := by rw [fu_s]; exact tS_4 hu.1 hs2
          rw [if_pos h2, if_pos ⟨h1, h2⟩, c_r3, c_r3, c_o8, c_aS, I_e, e4, hu.1.go hs2, (g_off _ (hu.1.go_lt hs2) k hk h1').1, c_o8]
          rw [show FX2_put 8 (nI s) 4 (nI (gro u.2 s - 2 ^ k)) = FX2_put 8 (nI s) (nI 4) (nI (gro u.2 s - 2 ^ k)) from rfl, c_putS (n := cnt u.2 1) (by rw [fu_s]; exact hu.1.ns.1) hu.1.ns.2 hs2 (by decide), V_e, fu_fu, fu_s]
        · rw [if_neg h2, if_neg (fun hh => h2 hh.2)]
      · rw [if_pos h1, if_neg (fun hh => h1 hh.1)])
    3 N 0 (0, upd (F 0) (26 + 5 * s + 2) m) (by omega) (by omega) ⟨hI2, cnt_un (by omega)⟩
  exact L
theorem c_addGoer {s j : Nat} (hN : 13 ≤ N) (hI : Iv (F 0)) (hs : s < cnt (F 0) 1) (hj : j < 3) (h : ¬ hb (sS (F 0) s 4) (nI j)) : FX0_addGoer N 1 (nI j) (nI s) (hC F π sc rd cd q) = rI (sVis (upd (F 0) (26 + 5 * s + 4) (nI (gro (F 0) s + 2 ^ j))) (nI j)) (hC (fu F 0 (upd (F 0) (26 + 5 * s + 4) (nI (gro (F 0) s + 2 ^ j)))) π sc rd cd q) := by
  have hn := hI.ns
  have h' := h
  rw [hI.go hs] at h'
  have hg := g_on _ (hI.go_lt hs) j hj h'
  have e4 : tS (F 0) (nI s) 4 = sS (F 0) s 4 := tS_4 hI hs
  unfold FX0_addGoer
  rw [c_r3, c_r3, c_o8, c_aS, I_e, e4, hI.go hs, hg.1, c_o8]
  rw [show FX2_put 8 (nI s) 4 (nI (gro (F 0) s + 2 ^ j)) = FX2_put 8 (nI s) (nI 4) (nI (gro (F 0) s + 2 ^ j)) from rfl, c_putS (n := cnt (F 0) 1) hn.1 hn.2 hs (by decide), V_e, c_o1, c_vis hN (by rw [fu_s]; exact Iv_goer hI hs hg.2.2), I_e, fu_s]
end GO
section GR
variable {P : jm_H} {v p k t l rs : Nat → Int32} {hs : Int64} {q : jm_H} {N : Nat}
end GR


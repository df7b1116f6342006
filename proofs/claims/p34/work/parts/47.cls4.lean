/-! THE CLASS: minutes counted, the best screen, more guests, the share -/
theorem fd_add {α : Type} {f : Nat → α → α} : ∀ (d1 d2 k : Nat) (a : α), fd f k (d1 + d2) a = fd f (k + d1) d2 (fd f k d1 a)
  | 0, d2, k, a => by rw [Nat.zero_add, Nat.add_zero]; rfl
  | d1 + 1, d2, k, a => by
    rw [show d1 + 1 + d2 = (d1 + d2) + 1 by omega]
    show fd f (k + 1) (d1 + d2) (f k a) = _
    rw [fd_add d1 d2 (k + 1) (f k a), show k + 1 + d1 = k + (d1 + 1) by omega]
    rfl
theorem fd_all {p : Nat → Prop} [DecidablePred p] : ∀ (d k : Nat) (a : Int32), (∀ i, k ≤ i → i < k + d → p i) → fd (fun t a => if p t then a else a + 1) k d a = a
  | 0, _, _, _ => rfl
  | d + 1, k, a, h => by
    show fd _ (k + 1) d (if p k then a else a + 1) = a
    rw [if_pos (h k (Nat.le_refl _) (by omega))]
    exact fd_all d (k + 1) a (fun i h1 h2 => h i (by omega) (by omega))
theorem fd_non {p : Nat → Prop} [DecidablePred p] : ∀ (d k : Nat) (a : Int32), (∀ i, k ≤ i → i < k + d → ¬ p i) → fd (fun t a => if p t then a else a + 1) k d a = a + nI d
  | 0, _, a, _ => (Int32.add_zero a).symm
  | d + 1, k, a, h => by
    show fd _ (k + 1) d (if p k then a else a + 1) = a + nI (d + 1)
    rw [if_neg (h k (Nat.le_refl _) (by omega)), fd_non d (k + 1) (a + 1) (fun i h1 h2 => h i (by omega) (by omega)), nI_succ, Int32.add_assoc, Int32.add_comm 1]
theorem pAt_e {v : Nat → Int32} (hI : Iv v) {s t k : Nat} (hs : s < cnt v 1) (ht : t < 4000) (hk : k ≤ 6) : pAt v s (nI t) k ↔ nBeg v (fmo v s) (nA v s) (nB v s) k ≤ t ∧ t < nBeg v (fmo v s) (nA v s) (nB v s) k + nM v (fmo v s) := by
  have hf := hI.fo_lt hs
  have h1 := hI.st hs
  have h2 := hI.pa hs
  have h3 := nBeg_le hI (a := nA v s) (p := nB v s) hf hk
  have h4 := hI.mi hf
  unfold pAt
  rw [h1.1, h2.1, sBeg_e hI hf hk, h4.1, nI_add, nI_leI (by omega) (by omega), nI_ltI (by omega) (by omega)]
theorem sAt_m1 {v : Nat → Int32} (hI : Iv v) {s : Nat} {m : Int32} (hs : s < cnt v 1) : sAt v s m = -1 ↔ ∀ k, k < nR v (fmo v s) → ¬ pAt v s m k := by
  unfold sAt
  rw [fi_m1 (by have := (hI.re (hI.fo_lt hs)).2.2; omega)]
  exact ⟨fun h o ho => h o (Nat.zero_le _) (by omega), fun h o _ ho => h o (by omega)⟩
/-- reels run in just so many minutes -/
theorem cm_e {v : Nat → Int32} (hI : Iv v) {s : Nat} (hs : s < cnt v 1) (a : Int32) : fd (fun t a => if sAt v s (nI t) = -1 then a else a + 1) (nA v s) (nE v s - nA v s) a = a + sLen v (fmo v s) := by
  have hf := hI.fo_lt hs
  obtain ⟨-, r1, r6⟩ := hI.re hf
  obtain ⟨-, m1, m2⟩ := hI.mi hf
  have h1 := hI.st hs
  have h2 := hI.pa hs
  rw [(hI.len hf).1]
  generalize hR : nR v (fmo v s) = R at *
  generalize hM : nM v (fmo v s) = M at *
  have hE : nE v s = nA v s + R * M + nB v s := by unfold nE; rw [hR, hM]
  obtain ⟨K, hK⟩ : ∃ K, K = (R + 1) / 2 := ⟨_, rfl⟩
  have hKR : K ≤ R := by omega
  have hKM : K * M ≤ R * M := Nat.mul_le_mul_right M hKR
  have hb : ∀ k, nBeg v (fmo v s) (nA v s) (nB v s) k = nA v s + k * M + (if K ≤ k then nB v s else 0) := fun k => by unfold nBeg; rw [hR, hM, hK]
  have hRM : R * M ≤ 150 := mul_le r6 m2
  rw [hE, show nA v s + R * M + nB v s - nA v s = K * M + (nB v s + (R * M - K * M)) by omega, fd_add, fd_add]
  have q3 : ∀ b : Int32, fd (fun t a => if sAt v s (nI t) = -1 then a else a + 1) (nA v s + K * M + nB v s) (R * M - K * M) b = b + nI (R * M - K * M) := fun b => fd_non _ _ _ (fun t t1 t2 ht => by
    have hx : (t - nA v s - nB v s) / M < R := (Nat.div_lt_iff_lt_mul (by omega)).mpr (by omega)
    have hy : K ≤ (t - nA v s - nB v s) / M := (Nat.le_div_iff_mul_le (by omega)).mpr (by omega)
    have hz := Nat.div_add_mod (t - nA v s - nB v s) M
    have hw := Nat.mod_lt (t - nA v s - nB v s) (show 0 < M by omega)
    rw [Nat.mul_comm] at hz
    refine (sAt_m1 hI hs).mp ht ((t - nA v s - nB v s) / M) (by rw [hR]; exact hx) ((pAt_e hI hs (by omega) (by omega)).mpr ?_)
    rw [hb, if_pos hy, hM]
    generalize (t - nA v s - nB v s) / M * M = z at *
    generalize (t - nA v s - nB v s) % M = y at *
    omega)
  have q2 : ∀ b : Int32, fd (fun t a => if sAt v s (nI t) = -1 then a else a + 1) (nA v s + K * M) (nB v s) b = b := fun b => fd_all _ _ _ (fun t t1 t2 => by
    refine (sAt_m1 hI hs).mpr (fun k hk hp => ?_)
    rw [hR] at hk
    have hp2 := (pAt_e hI hs (by omega) (show k ≤ 6 by omega)).mp hp
    rw [hb, hM] at hp2
    by_cases hc : K ≤ k
    · rw [if_pos hc] at hp2
      have : K * M ≤ k * M := Nat.mul_le_mul_right M hc
      omega
    · rw [if_neg hc] at hp2
      have : (k + 1) * M ≤ K * M := Nat.mul_le_mul_right M (by omega)
      rw [Nat.succ_mul] at this
      omega)
  have q1 : ∀ b : Int32, fd (fun t a => if sAt v s (nI t) = -1 then a else a + 1) (nA v s) (K * M) b = b + nI (K * M) := fun b => fd_non _ _ _ (fun t t1 t2 ht => by
    have hx : (t - nA v s) / M < K := (Nat.div_lt_iff_lt_mul (by omega)).mpr (by omega)
    have hz := Nat.div_add_mod (t - nA v s) M
    have hw := Nat.mod_lt (t - nA v s) (show 0 < M by omega)
    rw [Nat.mul_comm] at hz
    refine (sAt_m1 hI hs).mp ht ((t - nA v s) / M) (by rw [hR]; omega) ((pAt_e hI hs (by omega) (by omega)).mpr ?_)
    rw [hb, if_neg (by omega), hM]
    generalize (t - nA v s) / M * M = z at *
    generalize (t - nA v s) % M = y at *
    omega)
  rw [q1, q2, q3, Int32.add_assoc, nI_add, show K * M + (R * M - K * M) = R * M by omega]
section CL4
variable {F : Nat → Nat → Int32} {π : Nat → Nat} {sc rd cd : Nat → Int32} {q : jm_H} {N : Nat}
theorem c_cm_i {c a : Int32} {s : Nat} {k : Nat → Int32 → Int32 → Int32 → jm_H → Option jm_X} (hN : 2001 ≤ N) (hI : Iv (F 0)) (hs : s < cnt (F 0) 1) : FX0_countedMinutes_49 N N 1 c a (nI s) (nI (nE (F 0) s)) (nI (nA (F 0) s)) (hC F π sc rd cd q) k = k 1 c (a + sLen (F 0) (fmo (F 0) s)) (nI s) (hC F π sc rd cd q) := by
  have he := hI.en hs
  have ha := hI.st hs
  have hle : nA (F 0) s ≤ nE (F 0) s := by unfold nE; omega
  rw [← cm_e hI hs]
  exact lp_fold (fun n x a => FX0_countedMinutes_49 N n 1 c a (nI s) (nI (nE (F 0) s)) x (hC F π sc rd cd q) k) (nE (F 0) s) (fun t a => if sAt (F 0) s (nI t) = -1 then a else a + 1) (fun a => k 1 c a (nI s) (hC F π sc rd cd q)) (fun _ _ => True)
    (fun n a _ => by
      show FX0_countedMinutes_49 N (n + 1) 1 c a (nI s) (nI (nE (F 0) s)) (nI (nE (F 0) s)) (hC F π sc rd cd q) k = _
      rw [FX0_countedMinutes_49, if_pos (Int32.le_refl _)])
    (fun n t a ht _ => ⟨by
      show FX0_countedMinutes_49 N (n + 1) 1 c a (nI s) (nI (nE (F 0) s)) (nI t) (hC F π sc rd cd q) k = _
      rw [FX0_countedMinutes_49, if_neg (nI_ge ht (by omega)), if_neg (show ¬ (2000 : Int32) ≤ nI t from nI_ge (b := 2000) (by omega) (by decide)), nI_1, c_o1, c_rat (by omega) hI hs, I_e]
      by_cases h1 : sAt (F 0) s (nI t) = -1
      · rw [if_pos h1, if_pos h1]
      · rw [if_neg h1, if_neg h1], trivial⟩)
    (nE (F 0) s - nA (F 0) s) N (nA (F 0) s) a (by omega) (by omega) trivial
theorem c_cm {c : Int32} (hN : 2001 ≤ N) (hI : Iv (F 0)) : FX0_countedMinutes N 1 c (hC F π sc rd cd q) = rI (sUse (F 0) c) (hC F π sc rd cd q) := by
  unfold FX0_countedMinutes sUse
  have hn := hI.ns.2
  exact lp_fold (fun n y a => FX0_countedMinutes_4 N n 1 c a y (hC F π sc rd cd q)) (cnt (F 0) 1) (fun s a => if sS (F 0) s 1 = c then a + sLen (F 0) (fmo (F 0) s) else a) (fun a => rI a (hC F π sc rd cd q)) (fun _ _ => True)
    (fun n a _ => by simp only [FX0_countedMinutes_4, c_r0, c_r1, c_r2, c_r3, c_r4, c_r5, c_i6, c_i7, c_i8, c_i9, c_n0, c_n1, c_n2, c_o, c_o1, c_o2, c_o4, c_o6, c_o8, c_o10, c_o12, c_aF, c_aC, c_aT, c_aS, c_aG, c_aJ, I_e, V_e, cI_e, hI.ns.1, if_pos (Int32.le_refl _)])
    (fun n k a hk _ => ⟨by
      have h9 := nI_ge hk (lt31 (by omega))
      simp only [FX0_countedMinutes_4, c_r0, c_r1, c_r2, c_r3, c_r4, c_r5, c_i6, c_i7, c_i8, c_i9, c_n0, c_n1, c_n2, c_o, c_o1, c_o2, c_o4, c_o6, c_o8, c_o10, c_o12, c_aF, c_aC, c_aT, c_aS, c_aG, c_aJ, I_e, V_e, cI_e]
      rw [hI.ns.1, if_neg h9]
      simp only [tS_1 hI hk, tS_2 hI hk, c_end hI hk, c_r0, c_r1, c_r2, c_r3, c_r4, c_r5, c_i6, c_i7, c_i8, c_i9, c_n0, c_n1, c_n2, c_o, c_o1, c_o2, c_o4, c_o6, c_o8, c_o10, c_o12, c_aF, c_aC, c_aT, c_aS, c_aG, c_aJ, I_e, V_e, cI_e, (hI.en hk).1, (hI.st hk).1, c_cm_i hN hI hk, nI_1]
      by_cases h2 : sS (F 0) k 1 = c <;> simp [h2], trivial⟩)
    (cnt (F 0) 1) N 0 0 (by omega) (by omega) trivial
def sScr (v : Nat → Int32) (c w : Nat) : Int32 := match w with
  | 0 => v (7 + c) | 1 => sWith v 1 (nI c) | 2 => sUse v (nI c) | 3 => sUse v (nI c) | _ => sLast v (nI c)
theorem c_scr {c w : Nat} (hN : 2001 ≤ N) (hI : Iv (F 0)) (hc : c < 3) (hw : w < 5) : FX0_screenNumber N 1 (nI c) (nI w) (hC F π sc rd cd q) = rI (sScr (F 0) c w) (hC F π sc rd cd q) := by
  have e1 : (1 : Int32) = nI 1 := rfl
  unfold FX0_screenNumber
  match w, hw with
  | 0, _ => rw [sw_e (i := 0) (lo := 0) rfl (Nat.le_of_ble_eq_true rfl) rfl]; simp only [c_r0, c_r1, c_r2, c_r3, c_r4, c_r5, c_i6, c_i7, c_i8, c_i9, c_n0, c_n1, c_n2, c_o, c_o1, c_o2, c_o4, c_o6, c_o8, c_o10, c_o12, c_aF, c_aC, c_aT, c_aS, c_aG, c_aJ, I_e, V_e, cI_e, tC_e hc]; rfl
  | 1, _ => rw [sw_e (i := 1) (lo := 0) rfl (Nat.le_of_ble_eq_true rfl) rfl]; rw [c_o1, e1, c_with (by decide) (by omega) hI]; rfl
  | 2, _ => rw [sw_e (i := 2) (lo := 0) rfl (Nat.le_of_ble_eq_true rfl) rfl]; rw [c_o1, c_use (by omega) hI]; rfl
  | 3, _ => rw [sw_e (i := 3) (lo := 0) rfl (Nat.le_of_ble_eq_true rfl) rfl]; rw [c_o1, c_cm hN hI]; rfl
  | 4, _ => rw [sw_d (k := 4) (lo := 0) rfl (by decide) (Nat.le_of_ble_eq_true rfl) (Or.inr (Nat.le_of_ble_eq_true rfl))]; rw [c_o1, c_last (by omega) hI]; rfl
def stB (v : Nat → Int32) (f a c : Nat) (t : Int32 × Int32) : Int32 × Int32 := if sNx v f c a = -1 then t else if t.1 = -1 ∨ sNx v f c a < t.2 ∨ (sNx v f c a = t.2 ∧ v (7 + t.1.toNatClampNeg) < v (7 + c)) then (nI c, sNx v f c a) else t
def sB (v : Nat → Int32) (f a : Nat) : Int32 := (fd (stB v f a) 0 3 (-1, -1)).1
theorem c_b {f a : Nat} (hN : 2001 ≤ N) (hI : Iv (F 0)) (hf : f < cnt (F 0) 0) (ha : a < 2000) : FX0_bestFrom N 1 (nI f) (nI a) (hC F π sc rd cd q) = rI (sB (F 0) f a) (hC F π sc rd cd q) := by
  unfold FX0_bestFrom sB
  exact lp_fold (fun n y (t : Int32 × Int32) => FX0_bestFrom_8 N n 1 (nI f) (nI a) t.1 t.2 y (hC F π sc rd cd q)) 3 (stB (F 0) f a) (fun t => rI t.1 (hC F π sc rd cd q)) (fun _ t => t.1 = -1 ∨ ∃ j, j < 3 ∧ t.1 = nI j)
    (fun n t _ => by
      show FX0_bestFrom_8 N (n + 1) 1 (nI f) (nI a) t.1 t.2 (nI 3) (hC F π sc rd cd q) = _
      rw [FX0_bestFrom_8, if_pos (by decide)])
    (fun n c t hc hp => ⟨by
      show FX0_bestFrom_8 N (n + 1) 1 (nI f) (nI a) t.1 t.2 (nI c) (hC F π sc rd cd q) = _
      rw [FX0_bestFrom_8, if_neg (show ¬ (3 : Int32) ≤ nI c from nI_ge (b := 3) hc (by decide)), nI_1, c_o1, c_nx hN hI hf hc ha, I_e]
      unfold stB
      by_cases h1 : sNx (F 0) f c a = -1
      · rw [if_pos h1, if_pos h1]
      · rw [if_neg h1, if_neg h1]
        by_cases h2 : t.1 = -1
        · rw [if_pos h2, if_pos (Or.inl h2)]
        · rw [if_neg h2]
          by_cases h3 : sNx (F 0) f c a < t.2
          · rw [if_pos h3, if_pos (Or.inr (Or.inl h3))]
          · rw [if_neg h3]
            by_cases h4 : sNx (F 0) f c a = t.2
            · rw [if_pos h4]
              rcases hp with hp | ⟨j, hj, hp⟩
              · exact absurd hp h2
              · have e2 : t.1.toNatClampNeg = j := by rw [hp, nI_clamp (by omega)]
                have e3 : tC (F 0) t.1 0 = F 0 (7 + j) := by rw [hp, tC_e hj]
                simp only [c_r0, c_r1, c_r2, c_r3, c_r4, c_r5, c_i6, c_i7, c_i8, c_i9, c_n0, c_n1, c_n2, c_o, c_o1, c_o2, c_o4, c_o6, c_o8, c_o10, c_o12, c_aF, c_aC, c_aT, c_aS, c_aG, c_aJ, I_e, V_e, cI_e, tC_e hc, e3]
                by_cases h5 : F 0 (7 + c) ≤ F 0 (7 + j)
                · rw [if_pos h5, if_neg]
                  rintro (h6 | h6 | ⟨-, h6⟩)
                  · exact h2 h6
                  · exact h3 h6
                  · rw [e2] at h6
                    exact absurd h5 (Int32.not_le.mpr h6)
                · rw [if_neg h5, if_pos (Or.inr (Or.inr ⟨h4, by rw [e2]; exact Int32.not_le.mp h5⟩))]
            · rw [if_neg h4, if_neg]
              rintro (h6 | h6 | ⟨h6, -⟩)
              · exact h2 h6
              · exact h3 h6
              · exact h4 h6, by
      show (stB (F 0) f a c t).1 = -1 ∨ ∃ j, j < 3 ∧ (stB (F 0) f a c t).1 = nI j
      unfold stB
      by_cases h1 : sNx (F 0) f c a = -1
      · rw [if_pos h1]; exact hp
      · rw [if_neg h1]
        split
        · exact Or.inr ⟨c, hc, rfl⟩
        · exact hp⟩)
    3 N 0 (-1, -1) (by omega) (by omega) (Or.inl rfl)
def sMo (v : Nat → Int32) (f : Nat) (a : Int32) : Int32 := fd (fun g n => if (sG v g 0 = nI f ∧ pFit v g (a + sLen v f)) ∧ sGr v g = -1 then n + 1 else n) 0 (cnt v 2) 0
def sIf (v : Nat → Int32) (f : Nat) (c a : Int32) : Int32 := if sRf v f c a 0 = 0 then sMo v f a else -1
theorem c_if {f : Nat} {c a : Int32} (hN : 2001 ≤ N) (hI : Iv (F 0)) (hf : f < cnt (F 0) 0) : FX0_moreGreeters N 1 (nI f) c a (hC F π sc rd cd q) = rI (sIf (F 0) f c a) (hC F π sc rd cd q) := by
  have hn := hI.ng.2
  have := lp_fold (fun n y x => FX0_moreGreeters_19 N n 1 (nI f) a x y (hC F π sc rd cd q)) (cnt (F 0) 2) (fun g n => if (sG (F 0) g 0 = nI f ∧ pFit (F 0) g (a + sLen (F 0) f)) ∧ sGr (F 0) g = -1 then n + 1 else n) (fun x => rI x (hC F π sc rd cd q)) (fun _ _ => True)
    (fun n x _ => by simp only [FX0_moreGreeters_19, c_r0, c_r1, c_r2, c_r3, c_r4, c_r5, c_i6, c_i7, c_i8, c_i9, c_n0, c_n1, c_n2, c_o, c_o1, c_o2, c_o4, c_o6, c_o8, c_o10, c_o12, c_aF, c_aC, c_aT, c_aS, c_aG, c_aJ, I_e, V_e, cI_e, hI.ng.1, if_pos (Int32.le_refl _)])
    (fun n k x hk _ => ⟨by
      have h9 := nI_ge hk (lt31 (by omega))
      simp only [FX0_moreGreeters_19, c_r0, c_r1, c_r2, c_r3, c_r4, c_r5, c_i6, c_i7, c_i8, c_i9, c_n0, c_n1, c_n2, c_o, c_o1, c_o2, c_o4, c_o6, c_o8, c_o10, c_o12, c_aF, c_aC, c_aT, c_aS, c_aG, c_aJ, I_e, V_e, cI_e]
      rw [hI.ng.1, if_neg h9, nI_1]
      simp only [tG_0 hI hk, c_len hI hf, c_fit hI hk, c_gr (show 13 ≤ N by omega) hI hk, c_r0, c_r1, c_r2, c_r3, c_r4, c_r5, c_i6, c_i7, c_i8, c_i9, c_n0, c_n1, c_n2, c_o, c_o1, c_o2, c_o4, c_o6, c_o8, c_o10, c_o12, c_aF, c_aC, c_aT, c_aS, c_aG, c_aJ, I_e, V_e, cI_e, bl_0]
      by_cases h2 : sG (F 0) k 0 = nI f
      · rw [if_pos h2]
        by_cases h3 : pFit (F 0) k (a + sLen (F 0) f)
        · rw [if_neg (fun hh => hh h3)]
          by_cases h4 : sGr (F 0) k = -1
          · rw [if_pos h4, if_pos ⟨⟨h2, h3⟩, h4⟩]
          · rw [if_neg h4, if_neg (fun hh => h4 hh.2)]
        · rw [if_pos h3, if_neg (fun hh => h3 hh.1.2)]
      · rw [if_neg h2, if_neg (fun hh => h2 hh.1.1)], trivial⟩)
    (cnt (F 0) 2) N 0 0 (by omega) (by omega) trivial
  simp only [FX0_moreGreeters, c_r0, c_r1, c_r2, c_r3, c_r4, c_r5, c_i6, c_i7, c_i8, c_i9, c_n0, c_n1, c_n2, c_o, c_o1, c_o2, c_o4, c_o6, c_o8, c_o10, c_o12, c_aF, c_aC, c_aT, c_aS, c_aG, c_aJ, I_e, V_e, cI_e, c_rf (show 13 ≤ N by omega) hI hf]
  unfold sIf sMo
  by_cases h1 : sRf (F 0) f c a 0 = 0
  · rw [if_pos h1, if_pos h1]; exact this
  · rw [if_neg h1, if_neg h1]
end CL4
theorem sUse_n {v : Nat → Int32} (hI : Iv v) (c : Int32) : ∃ k : Nat, k ≤ 1800 ∧ sUse v c = nI k := by
  unfold sUse
  have hn := hI.ns.2
  obtain ⟨k, h1, h2⟩ := fd_inv (f := fun s a => if sS v s 1 = c then a + sLen v (fmo v s) else a) (fun i a => ∃ k : Nat, k ≤ 150 * i ∧ a = nI k) (cnt v 1) 0 0 ⟨0, by decide, rfl⟩ (fun i a _ h2 ⟨m, hm, ha⟩ => by
    show ∃ k : Nat, k ≤ 150 * (i + 1) ∧ (if sS v i 1 = c then a + sLen v (fmo v i) else a) = nI k
    by_cases hc : sS v i 1 = c
    · have hl := hI.len (hI.fo_lt (show i < cnt v 1 by omega))
      exact ⟨m + nR v (fmo v i) * nM v (fmo v i), by omega, by rw [if_pos hc, ha, hl.1, nI_add]⟩
    · exact ⟨m, by omega, by rw [if_neg hc]; exact ha⟩)
  exact ⟨k, by omega, h2⟩


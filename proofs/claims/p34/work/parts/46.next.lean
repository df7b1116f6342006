/-! THE CLASS: the next start, the best screen, the minutes counted -/
theorem fi_m1 {P : Nat → Prop} [DecidablePred P] {k d : Nat} (h : k + d < 2 ^ 31) : fi P k d = -1 ↔ ∀ i, k ≤ i → i < k + d → ¬ P i := by
  rcases fi_cases P d k with ⟨h1, h2⟩ | ⟨i, h1, h2, h3, h4, h5⟩
  · exact ⟨fun _ => h2, fun _ => h1⟩
  · refine ⟨fun h9 => absurd (h4.symm.trans h9) (nI_m1 (by omega)), fun h9 => absurd h3 (h9 i h1 h2)⟩
theorem fi_at {P : Nat → Prop} [DecidablePred P] {k d : Nat} (hne : fi P k d ≠ -1) : ∃ i, k ≤ i ∧ i < k + d ∧ P i ∧ fi P k d = nI i ∧ ∀ j, k ≤ j → j < i → ¬ P j := by
  rcases fi_cases P d k with ⟨h1, h2⟩ | h
  · exact absurd h1 hne
  · exact h
theorem ffst_none {α : Type} {P : Nat → Prop} [DecidablePred P] {g : Nat → α} {e : α} : ∀ (d k : Nat), (∀ i, k ≤ i → i < k + d → ¬ P i) → ffst P g e k d = e
  | 0, _, _ => rfl
  | d + 1, k, h => by
    show (if P k then g k else ffst P g e (k + 1) d) = e
    rw [if_neg (h k (Nat.le_refl _) (by omega))]
    exact ffst_none d (k + 1) (fun i h1 h2 => h i (by omega) (by omega))
theorem ffst_skip {α : Type} {P : Nat → Prop} [DecidablePred P] {g : Nat → α} {e : α} {B : Nat} : ∀ (m s s' : Nat), s + m = s' → (∀ t, s ≤ t → t < s' → t < B → ¬ P t) → ffst P g e s (B - s) = ffst P g e s' (B - s')
  | 0, s, s', h, _ => by
    have : s = s' := by omega
    rw [this]
  | m + 1, s, s', h, hP => by
    by_cases hB : s < B
    · obtain ⟨d, hd⟩ : ∃ d, B - s = d + 1 := ⟨B - s - 1, by omega⟩
      rw [hd]
      show (if P s then g s else ffst P g e (s + 1) d) = _
      rw [if_neg (hP s (Nat.le_refl _) (by omega) hB), show d = B - (s + 1) by omega]
      exact ffst_skip m (s + 1) s' (by omega) (fun t h1 h2 h3 => hP t (by omega) h2 h3)
    · rw [show B - s = 0 by omega, show B - s' = 0 by omega]
      rfl
section NX
variable {v : Nat → Int32}
theorem sTs_m1 (hI : Iv v) {c a b w : Int32} : sTs v c a b w = -1 ↔ ∀ o, o < cnt v 1 → ¬ pScr v c a b w o := by
  unfold sTs
  rw [fi_m1 (by have := hI.ns.2; omega)]
  exact ⟨fun h o ho => h o (Nat.zero_le _) (by omega), fun h o _ ho => h o (by omega)⟩
theorem sTr_m1 (hI : Iv v) {f : Nat} {c a p w : Int32} : sTr v f c a p w = -1 ↔ ∀ o, o < cnt v 1 → ¬ pRl v f c a p w o := by
  unfold sTr
  rw [fi_m1 (by have := hI.ns.2; omega)]
  exact ⟨fun h o ho => h o (Nat.zero_le _) (by omega), fun h o _ ho => h o (by omega)⟩
theorem sCl_m1 (hI : Iv v) {f o : Nat} {a p : Int32} (hf : f < cnt v 0) : sCl v f a p o = -1 ↔ ∀ k, k < nR v f → ¬ pCl v f a p o k := by
  unfold sCl
  rw [fi_m1 (by have := (hI.re hf).2.2; omega)]
  exact ⟨fun h o ho => h o (Nat.zero_le _) (by omega), fun h o _ ho => h o (by omega)⟩
theorem add0 (x : Int32) : x + 0 = x := Int32.add_zero x
/-- a start without a break, not refused -/
theorem sRf_0 (hI : Iv v) {f c t : Nat} (hn : cnt v 1 < 12) (hf : f < cnt v 0) (ht : t < 4000) : sRf v f (nI c) (nI t) 0 = 0 ↔ t + nR v f * nM v f ≤ 2000 ∧ sTs v (nI c) (nI t) (nI (t + nR v f * nM v f)) (-1) = -1 ∧ sTr v f (nI c) (nI t) 0 (-1) = -1 := by
  have hl := hI.len hf
  unfold sRf sRb
  rw [if_pos (show v 1 < 12 by rw [hI.ns.1]; exact nI_lt hn (by decide)), hl.1, nI_add, add0]
  by_cases h1 : t + nR v f * nM v f ≤ 2000
  · rw [if_pos (show nI (t + nR v f * nM v f) ≤ 2000 from nI_le h1 (by decide))]
    by_cases h2 : sTs v (nI c) (nI t) (nI (t + nR v f * nM v f)) (-1) = -1
    · rw [if_pos h2]
      by_cases h3 : sTr v f (nI c) (nI t) 0 (-1) = -1
      · rw [if_pos h3]; exact ⟨fun _ => ⟨h1, h2, h3⟩, fun _ => rfl⟩
      · rw [if_neg h3]; exact ⟨fun h => absurd h (by decide), fun h => absurd h.2.2 h3⟩
    · rw [if_neg h2]; exact ⟨fun h => absurd h (by decide), fun h => absurd h.2.1 h2⟩
  · rw [if_neg (show ¬ nI (t + nR v f * nM v f) ≤ 2000 from nI_ge (a := 2000) (by omega) (by omega))]
    exact ⟨fun h => absurd h (by decide), fun h => absurd h.1 h1⟩
def sNx (v : Nat → Int32) (f c a : Nat) : Int32 := ffst (fun t => sRf v f (nI c) (nI t) 0 = 0) nI (-1) a (2000 - a)
end NX
section NX2
variable {F : Nat → Nat → Int32} {π : Nat → Nat} {sc rd cd : Nat → Int32} {q : jm_H} {N : Nat}
theorem c_nx_l (hN : 13 ≤ N) (hI : Iv (F 0)) {f c : Nat} (hn : cnt (F 0) 1 < 12) (hf : f < cnt (F 0) 0) (hc : c < 3) : ∀ (d n s i : Nat), i + d = 2000 → d < n → i ≤ s → s < 2500 →
    FX0_nextFrom_27 N n 1 (nI f) (nI c) (sLen (F 0) f) (nI s) (nI i) (hC F π sc rd cd q) = rI (sNx (F 0) f c s) (hC F π sc rd cd q)
  | 0, n, s, i, hd, hdn, his, hs => by
    obtain ⟨m, rfl⟩ : ∃ m, n = m + 1 := ⟨n - 1, by omega⟩
    have e : i = 2000 := by omega
    subst e
    rw [FX0_nextFrom_27, if_pos (show (2000 : Int32) ≤ nI 2000 from Int32.le_refl _)]
    unfold sNx
    rw [show 2000 - s = 0 by omega]
    rfl
  | d + 1, n, s, i, hd, hdn, his, hs => by
    obtain ⟨m, rfl⟩ : ∃ m, n = m + 1 := ⟨n - 1, by omega⟩
    have hl := hI.len hf
    have hm := hI.mi hf
    rw [FX0_nextFrom_27, if_neg (show ¬ (2000 : Int32) ≤ nI i from nI_ge (b := 2000) (by omega) (by decide)), hl.1, nI_add, nI_1]
    by_cases h1 : s + nR (F 0) f * nM (F 0) f ≤ 2000
    · rw [if_neg (show ¬ (2000 : Int32) < nI (s + nR (F 0) f * nM (F 0) f) from nI_nlt h1 (by decide))]
      simp only [c_r0, c_r1, c_r2, c_r3, c_r4, c_r5, c_i6, c_i7, c_i8, c_i9, c_n0, c_n1, c_n2, c_o, c_o1, c_o2, c_o4, c_o6, c_o8, c_o10, c_o12, c_aF, c_aC, c_aT, c_aS, c_aG, c_aJ, I_e, V_e, cI_e, c_tscr hN hI, c_trl hN hI hf]
      by_cases h2 : sTs (F 0) (nI c) (nI s) (nI (s + nR (F 0) f * nM (F 0) f)) (-1) = -1
      · have h2' := h2
        unfold sTs at h2'
        rw [if_pos h2']
        by_cases h3 : sTr (F 0) f (nI c) (nI s) 0 (-1) = -1
        · have h3' := h3
          unfold sTr at h3'
          rw [if_pos h3']
          have hp := (sRf_0 hI (c := c) hn hf (show s < 4000 by omega)).mpr ⟨h1, h2, h3⟩
          have hs2 : s < 2000 := by
            have : 1 * 10 ≤ nR (F 0) f * nM (F 0) f := Nat.mul_le_mul (hI.re hf).2.1 hm.2.1
            omega
          unfold sNx
          obtain ⟨r, hr⟩ : ∃ r, 2000 - s = r + 1 := ⟨2000 - s - 1, by omega⟩
          rw [hr]
          show rI (nI s) (hC F π sc rd cd q) = rI (if sRf (F 0) f (nI c) (nI s) 0 = 0 then nI s else _) (hC F π sc rd cd q)
          rw [if_pos hp]
        · obtain ⟨o, -, ho, hpo, heq, -⟩ := fi_at (show fi (pRl (F 0) f (nI c) (nI s) 0 (-1)) 0 (cnt (F 0) 1) ≠ -1 from h3)
          have h3' := h3
          unfold sTr at h3'
          rw [if_neg h3']
          have ho' : o < cnt (F 0) 1 := by omega
          obtain ⟨p1, p2, p3, p4⟩ := hpo
          obtain ⟨k, -, hk, hpk, hek, -⟩ := fi_at (show fi (pCl (F 0) f (nI s) 0 o) 0 (nR (F 0) f) ≠ -1 from p4)
          have hk' : k < nR (F 0) f := by omega
          have hre := hI.re hf
          have hfo : fmo (F 0) o = f := by
            rw [hI.fo ho'] at p2
            exact (nI_eq (by have := hI.fo_lt ho'; have := hI.nf.2; omega) (by have := hI.nf.2; omega)).mp p2
          have hst := hI.st ho'
          have hpa := hI.pa ho'
          have htm := hI.tm (show 0 < 4 by decide)
          have hb := nBeg_le hI (a := nA (F 0) o) (p := nB (F 0) o) hf (show k ≤ 6 by omega)
          have hpk2 := (pCl_e hI (a := s) (p := 0) hf ho' (by omega) (by decide) (show k ≤ 6 by omega)).mp hpk
          have hb0 : nBeg (F 0) f s 0 k = s + k * nM (F 0) f := by unfold nBeg; split <;> rfl
          rw [hb0] at hpk2
          simp only [heq, c_r0, c_r1, c_r2, c_r3, c_r4, c_r5, c_i6, c_i7, c_i8, c_i9, c_n0, c_n1, c_n2, c_o, c_o1, c_o2, c_o4, c_o6, c_o8, c_o10, c_o12, c_aF, c_aC, c_aT, c_aS, c_aG, c_aJ, I_e, V_e, cI_e, c_cl hN hI hf ho', show sCl (F 0) f (nI s) 0 o = nI k from hek, c_rbeg hI ho', tF_1 hI hf, tT_0]
          have e1 : sRb0 (F 0) o (nI k) = nI (nBeg (F 0) f (nA (F 0) o) (nB (F 0) o) k) := by
            unfold sRb0
            rw [hfo, hre.1, if_pos (nI_lt hk' (by omega)), ← hre.1, hst.1, hpa.1]
            exact sBeg_e hI hf (by omega)
          have hT : nI (nBeg (F 0) f (nA (F 0) o) (nB (F 0) o) k) + nI (nT (F 0) 0) + (1 - nI k) * nI (nM (F 0) f) = nI (nBeg (F 0) f (nA (F 0) o) (nB (F 0) o) k + nT (F 0) 0 + nM (F 0) f - k * nM (F 0) f) := by
            have e2 : (1 - nI k) * nI (nM (F 0) f) = nI (nM (F 0) f) - nI (k * nM (F 0) f) := by
              rw [← pk_mul]; grind
            rw [e2, show ∀ x y z w : Int32, x + y + (z - w) = x + y + z - w from fun x y z w => by grind, nI_add, nI_add, pk_sub (by omega)]
          rw [e1, show F 0 3 = nI (nT (F 0) 0) from htm.1, hm.1, hT, ← hl.1, c_nx_l hN hI hn hf hc d m _ (i + 1) (by omega) (by omega) (by omega) (by omega)]
          unfold sNx
          refine congrArg (fun z => rI z (hC F π sc rd cd q)) ?_
          refine (ffst_skip (B := 2000) (nBeg (F 0) f (nA (F 0) o) (nB (F 0) o) k + nT (F 0) 0 + nM (F 0) f - k * nM (F 0) f - s) s (nBeg (F 0) f (nA (F 0) o) (nB (F 0) o) k + nT (F 0) 0 + nM (F 0) f - k * nM (F 0) f) (by omega) (fun t t1 t2 t3 ht => ?_)).symm
          have h9 := ((sRf_0 hI (c := c) hn hf (show t < 4000 by omega)).mp ht).2.2
          refine (sTr_m1 hI).mp h9 o ho' ⟨p1, p2, p3, fun h8 => (sCl_m1 hI hf).mp h8 k hk' ((pCl_e hI (a := t) (p := 0) hf ho' (by omega) (by decide) (show k ≤ 6 by omega)).mpr ?_)⟩
          have hb1 : nBeg (F 0) f t 0 k = t + k * nM (F 0) f := by unfold nBeg; split <;> rfl
          rw [hb1]
          omega
      · obtain ⟨o, -, ho, hpo, heq, -⟩ := fi_at (show fi (pScr (F 0) (nI c) (nI s) (nI (s + nR (F 0) f * nM (F 0) f)) (-1)) 0 (cnt (F 0) 1) ≠ -1 from h2)
        have h2' := h2
        unfold sTs at h2'
        rw [if_neg h2']
        have ho' : o < cnt (F 0) 1 := by omega
        have hen := hI.en ho'
        have htm := hI.tm (show 1 < 4 by decide)
        have hpo2 := (pScr_e hI (w := -1) ho' hc (show s < 4000 by omega) (show s + nR (F 0) f * nM (F 0) f < 8000 by omega)).mp hpo
        simp only [heq, c_r0, c_r1, c_r2, c_r3, c_r4, c_r5, c_i6, c_i7, c_i8, c_i9, c_n0, c_n1, c_n2, c_o, c_o1, c_o2, c_o4, c_o6, c_o8, c_o10, c_o12, c_aF, c_aC, c_aT, c_aS, c_aG, c_aJ, I_e, V_e, cI_e, c_end hI ho', tT_1]
        rw [hen.1, show F 0 4 = nI (nT (F 0) 1) from htm.1, nI_add, ← hl.1, c_nx_l hN hI hn hf hc d m _ (i + 1) (by omega) (by omega) (by omega) (by omega)]
        unfold sNx
        refine congrArg (fun z => rI z (hC F π sc rd cd q)) ?_
        refine (ffst_skip (B := 2000) (nE (F 0) o + nT (F 0) 1 - s) s (nE (F 0) o + nT (F 0) 1) (by omega) (fun t t1 t2 t3 ht => ?_)).symm
        have h9 := ((sRf_0 hI (c := c) hn hf (show t < 4000 by omega)).mp ht).2.1
        refine (sTs_m1 hI).mp h9 o ho' ((pScr_e hI ho' hc (show t < 4000 by omega) (show t + nR (F 0) f * nM (F 0) f < 8000 by omega)).mpr ⟨hpo2.1, hpo2.2.1, by omega, by omega⟩)
    · rw [if_pos (show (2000 : Int32) < nI (s + nR (F 0) f * nM (F 0) f) from nI_lt (a := 2000) (by omega) (by omega))]
      unfold sNx
      rw [ffst_none]
      intro t t1 t2 ht
      have := ((sRf_0 hI (c := c) hn hf (show t < 4000 by omega)).mp ht).1
      omega
theorem c_nx {f c a : Nat} (hN : 2001 ≤ N) (hI : Iv (F 0)) (hf : f < cnt (F 0) 0) (hc : c < 3) (ha : a < 2000) : FX0_nextFrom N 1 (nI f) (nI c) (nI a) (hC F π sc rd cd q) = rI (sNx (F 0) f c a) (hC F π sc rd cd q) := by
  simp only [FX0_nextFrom, c_r0, c_r1, c_r2, c_r3, c_r4, c_r5, c_i6, c_i7, c_i8, c_i9, c_n0, c_n1, c_n2, c_o, c_o1, c_o2, c_o4, c_o6, c_o8, c_o10, c_o12, c_aF, c_aC, c_aT, c_aS, c_aG, c_aJ, I_e, V_e, cI_e, c_len hI hf]
  have hns := hI.ns
  by_cases h : F 0 1 < 12
  · rw [if_pos h]
    have hn : cnt (F 0) 1 < 12 := by
      rw [hns.1] at h
      exact (nI_ltI (by omega) (by decide)).mp h
    exact c_nx_l (by omega) hI hn hf hc 2000 N a 0 (by omega) (by omega) (by omega) (by omega)
  · rw [if_neg h]
    unfold sNx
    rw [ffst_none]
    intro t t1 t2 ht
    unfold sRf at ht
    rw [if_neg h] at ht
    exact absurd ht (by decide)
end NX2


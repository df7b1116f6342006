/-! THE CLASS, its looks -/
theorem ite_r {c : Prop} [Decidable c] {x y : Int32} {h : jm_H} : (if c then rI x h else rI y h) = rI (if c then x else y) h := by by_cases hc : c <;> simp [hc]
def sBeg (st p r m k : Int32) : Int32 := if (r + 1) / 2 ≤ k then st + k * m + p else st + k * m
theorem e_beg {a b c d e : Int32} {h : jm_H} : FX0_beginIn a b c d e h = rI (sBeg a b c d e) h := by
  unfold FX0_beginIn sBeg
  by_cases hc : (c + 1) / 2 ≤ e <;> simp [hc]
abbrev hb (m b : Int32) : Prop := ((m >>> (b &&& 31)) &&& 1) = 1
theorem e_hb {m b : Int32} {h : jm_H} : FX3_hasBit m b h = rI (bl (hb m b)) h := by
  unfold FX3_hasBit bl hb
  by_cases hc : ((m >>> (b &&& 31)) &&& 1) = 1 <;> simp [hc]
theorem e_in {x a b : Int32} {h : jm_H} : FX3_isWithin x a b h = rI (bl (a ≤ x ∧ x ≤ b)) h := by
  unfold FX3_isWithin bl
  by_cases h1 : x < a
  · have : ¬ a ≤ x := Int32.not_le.mpr h1
    simp [h1, this]
  · have h1' : a ≤ x := Int32.not_lt.mp h1
    by_cases h2 : b < x
    · have : ¬ x ≤ b := Int32.not_le.mpr h2
      simp [h1, h1', h2, this]
    · have h2' : x ≤ b := Int32.not_lt.mp h2
      simp [h1, h1', h2, h2']
/-- a film's reels, as a number -/
def nR (v : Nat → Int32) (f : Nat) : Nat := (sF v f 0).toNatClampNeg
theorem Iv.nRe {v : Nat → Int32} (hI : Iv v) {f : Nat} (hf : f < cnt v 0) : sF v f 0 = nI (nR v f) ∧ 1 ≤ nR v f ∧ nR v f ≤ 6 := by
  obtain ⟨⟨t, h1, h2, h3⟩, -⟩ := hI.2.1 f hf
  have : nR v f = t := by unfold nR; rw [h1, nI_clamp (by omega)]
  rw [this]
  exact ⟨h1, h2, h3⟩
section CL2
variable {F : Nat → Nat → Int32} {π : Nat → Nat} {sc rd cd : Nat → Int32} {q : jm_H} {N : Nat}
abbrev sBegS (v : Nat → Int32) (f : Nat) (st p : Int32) (k : Nat) : Int32 := sBeg st p (sF v f 0) (sF v f 1) (nI k)
/-- a reel of a film here and in another showing, too near -/
abbrev pCl (v : Nat → Int32) (f : Nat) (a p : Int32) (o k : Nat) : Prop := near (sBegS v f a p k) (sBegS v f a p k + sF v f 1) (sBegS v f (sS v o 2) (sS v o 3) k) (sBegS v f (sS v o 2) (sS v o 3) k + sF v f 1) (v 3)
def sCl (v : Nat → Int32) (f : Nat) (a p : Int32) (o : Nat) : Int32 := fi (pCl v f a p o) 0 (nR v f)
theorem c_cl {a p : Int32} {f o : Nat} (hN : 13 ≤ N) (hI : Iv (F 0)) (hf : f < cnt (F 0) 0) (ho : o < cnt (F 0) 1) : FX0_clashingReel N 1 (nI f) a p (nI o) (hC F π sc rd cd q) = rI (sCl (F 0) f a p o) (hC F π sc rd cd q) := by
  simp only [FX0_clashingReel, c_r0, c_r1, c_r2, c_r3, c_r4, c_r5, c_i6, c_i7, c_i8, c_i9, c_n0, c_n1, c_n2, c_o, c_o1, c_o2, c_o4, c_o6, c_o8, c_o10, c_o12, c_aF, c_aC, c_aT, c_aS, c_aG, c_aJ, I_e, V_e, cI_e, tF_0 hI hf, tF_1 hI hf, tS_2 hI ho, tS_3 hI ho, tT_0]
  obtain ⟨hn, h1, h6⟩ := hI.nRe hf
  have := lp_find (fun n x => FX0_clashingReel_60 N n a p (sF (F 0) f 0) (sF (F 0) f 1) (sS (F 0) o 2) (sS (F 0) o 3) (F 0 3) x (hC F π sc rd cd q)) (nR (F 0) f) (pCl (F 0) f a p o) (fun i => rI (nI i) (hC F π sc rd cd q)) (rI (-1) (hC F π sc rd cd q))
    (fun n => by
      simp only [FX0_clashingReel_60, hn, if_pos (Int32.le_refl _)])
    (fun n k hk => by
      have h9 := nI_ge hk (lt31 (by omega))
      simp only [FX0_clashingReel_60]
      rw [if_neg (by rw [hn]; exact h9), nI_1]
      simp only [e_beg, I_e, e_near, bl_0]
      by_cases h3 : pCl (F 0) f a p o k
      · rw [if_neg (fun hh => hh h3), if_pos h3]
      · rw [if_pos h3, if_neg h3])
    (nR (F 0) f) N 0 (by omega) (by omega)
  rw [show (0 : Int32) = nI 0 from rfl]
  exact this.trans (ffst_map _ nI (-1) (fun x => rI x (hC F π sc rd cd q)) _ _)
/-- what holds a reel in the way -/
abbrev pRl (v : Nat → Int32) (f : Nat) (c a p w : Int32) (o : Nat) : Prop := nI o ≠ w ∧ sS v o 0 = nI f ∧ sS v o 1 ≠ c ∧ sCl v f a p o ≠ -1
theorem c_trl {c a p w : Int32} {f : Nat} (hN : 13 ≤ N) (hI : Iv (F 0)) (hf : f < cnt (F 0) 0) : FX0_takingReel N 1 (nI f) c a p w (hC F π sc rd cd q) = rI (fi (pRl (F 0) f c a p w) 0 (cnt (F 0) 1)) (hC F π sc rd cd q) := by
  unfold FX0_takingReel
  have hn := hI.ns.2
  have := lp_find (fun n x => FX0_takingReel_3 N n 1 (nI f) c a p w x (hC F π sc rd cd q)) (cnt (F 0) 1) (pRl (F 0) f c a p w) (fun i => rI (nI i) (hC F π sc rd cd q)) (rI (-1) (hC F π sc rd cd q))
    (fun n => by
      simp only [FX0_takingReel_3, c_r0, c_r1, c_r2, c_r3, c_r4, c_r5, c_i6, c_i7, c_i8, c_i9, c_n0, c_n1, c_n2, c_o, c_o1, c_o2, c_o4, c_o6, c_o8, c_o10, c_o12, c_aF, c_aC, c_aT, c_aS, c_aG, c_aJ, I_e, V_e, cI_e, hI.ns.1, if_pos (Int32.le_refl _)])
    (fun n k hk => by
      have h9 := nI_ge hk (lt31 (by omega))
      simp only [FX0_takingReel_3, c_r0, c_r1, c_r2, c_r3, c_r4, c_r5, c_i6, c_i7, c_i8, c_i9, c_n0, c_n1, c_n2, c_o, c_o1, c_o2, c_o4, c_o6, c_o8, c_o10, c_o12, c_aF, c_aC, c_aT, c_aS, c_aG, c_aJ, I_e, V_e, cI_e]
      rw [hI.ns.1, if_neg h9, nI_1]
      simp only [tS_0 hI hk, tS_1 hI hk, c_cl hN hI hf hk, c_r0, c_r1, c_r2, c_r3, c_r4, c_r5, c_i6, c_i7, c_i8, c_i9, c_n0, c_n1, c_n2, c_o, c_o1, c_o2, c_o4, c_o6, c_o8, c_o10, c_o12, c_aF, c_aC, c_aT, c_aS, c_aG, c_aJ, I_e, V_e, cI_e]
      by_cases h1 : nI k = w
      · simp [h1, pRl]
      · by_cases h2 : sS (F 0) k 0 = nI f
        · by_cases h3 : sS (F 0) k 1 = c
          · simp [h1, h2, h3, pRl]
          · by_cases h4 : sCl (F 0) f a p k = -1 <;> simp [h1, h2, h3, h4, pRl]
        · simp [h1, h2, pRl])
    (cnt (F 0) 1) N 0 (by omega) (by omega)
  rw [show (0 : Int32) = nI 0 from rfl]
  exact this.trans (ffst_map _ nI (-1) (fun x => rI x (hC F π sc rd cd q)) _ _)
def sTs (v : Nat → Int32) (c a b w : Int32) : Int32 := fi (pScr v c a b w) 0 (cnt v 1)
def sTr (v : Nat → Int32) (f : Nat) (c a p w : Int32) : Int32 := fi (pRl v f c a p w) 0 (cnt v 1)
/-- the reasons 2 to 4, beside one -/
def sRb (v : Nat → Int32) (f : Nat) (c a p w : Int32) : Int32 := if a + sLen v f + p ≤ 2000 then (if sTs v c a (a + sLen v f + p) w = -1 then (if sTr v f c a p w = -1 then 0 else 4) else 3) else 2
def sRf (v : Nat → Int32) (f : Nat) (c a p : Int32) : Int32 := if v 1 < 12 then sRb v f c a p (-1) else 1
theorem c_rb {c a p w : Int32} {f : Nat} (hN : 13 ≤ N) (hI : Iv (F 0)) (hf : f < cnt (F 0) 0) : FX0_refusalBeside N 1 (nI f) c a p w (hC F π sc rd cd q) = rI (sRb (F 0) f c a p w) (hC F π sc rd cd q) := by
  simp only [FX0_refusalBeside, c_r0, c_r1, c_r2, c_r3, c_r4, c_r5, c_i6, c_i7, c_i8, c_i9, c_n0, c_n1, c_n2, c_o, c_o1, c_o2, c_o4, c_o6, c_o8, c_o10, c_o12, c_aF, c_aC, c_aT, c_aS, c_aG, c_aJ, I_e, V_e, cI_e, c_len hI hf, c_tscr hN hI, c_trl hN hI hf]
  unfold sRb sTs sTr
  by_cases h1 : a + sLen (F 0) f + p ≤ 2000
  · by_cases h2 : fi (pScr (F 0) c a (a + sLen (F 0) f + p) w) 0 (cnt (F 0) 1) = -1
    · by_cases h3 : fi (pRl (F 0) f c a p w) 0 (cnt (F 0) 1) = -1 <;> simp [h1, h2, h3]
    · simp [h1, h2]
  · simp [h1]
theorem c_rf {c a p : Int32} {f : Nat} (hN : 13 ≤ N) (hI : Iv (F 0)) (hf : f < cnt (F 0) 0) : FX0_refusal N 1 (nI f) c a p (hC F π sc rd cd q) = rI (sRf (F 0) f c a p) (hC F π sc rd cd q) := by
  simp only [FX0_refusal, c_r0, c_r1, c_r2, c_r3, c_r4, c_r5, c_i6, c_i7, c_i8, c_i9, c_n0, c_n1, c_n2, c_o, c_o1, c_o2, c_o4, c_o6, c_o8, c_o10, c_o12, c_aF, c_aC, c_aT, c_aS, c_aG, c_aJ, I_e, V_e, cI_e, c_rb hN hI hf]
  unfold sRf
  by_cases h1 : F 0 1 < 12 <;> simp [h1]
def sWay (v : Nat → Int32) (f : Nat) (c a p r : Int32) : Int32 := if r = 3 then sTs v c a (a + sLen v f + p) (-1) else if r = 4 then sTr v f c a p (-1) else -1
theorem c_way {c a p r : Int32} {f : Nat} (hN : 13 ≤ N) (hI : Iv (F 0)) (hf : f < cnt (F 0) 0) : FX0_inWay N 1 (nI f) c a p r (hC F π sc rd cd q) = rI (sWay (F 0) f c a p r) (hC F π sc rd cd q) := by
  simp only [FX0_inWay, c_r0, c_r1, c_r2, c_r3, c_r4, c_r5, c_i6, c_i7, c_i8, c_i9, c_n0, c_n1, c_n2, c_o, c_o1, c_o2, c_o4, c_o6, c_o8, c_o10, c_o12, c_aF, c_aC, c_aT, c_aS, c_aG, c_aJ, I_e, V_e, cI_e, c_len hI hf, c_tscr hN hI, c_trl hN hI hf]
  unfold sWay sTs sTr
  by_cases h1 : r = 3
  · simp [h1]
  · by_cases h2 : r = 4 <;> simp [h1, h2]
theorem c_goes {j : Int32} {s : Nat} (hI : Iv (F 0)) (hs : s < cnt (F 0) 1) : FX0_goes 1 j (nI s) (hC F π sc rd cd q) = rI (bl (hb (sS (F 0) s 4) j)) (hC F π sc rd cd q) := by
  simp only [FX0_goes, c_r0, c_r1, c_r2, c_r3, c_r4, c_r5, c_i6, c_i7, c_i8, c_i9, c_n0, c_n1, c_n2, c_o, c_o1, c_o2, c_o4, c_o6, c_o8, c_o10, c_o12, c_aF, c_aC, c_aT, c_aS, c_aG, c_aJ, I_e, V_e, cI_e, tS_4 hI hs, e_hb, bl_01]
abbrev pGo (v : Nat → Int32) (j : Int32) (s o : Nat) : Prop := o ≠ s ∧ hb (sS v o 4) j ∧ near (sS v s 2) (sEnd v s) (sS v o 2) (sEnd v o) (v 6)
def sGo (v : Nat → Int32) (j : Int32) (s : Nat) : Int32 := ffst (pGo v j s) (fun _ => 0) 1 0 (cnt v 1)
theorem c_can {j : Int32} {s : Nat} (hN : 13 ≤ N) (hI : Iv (F 0)) (hs : s < cnt (F 0) 1) : FX0_canGo N 1 j (nI s) (hC F π sc rd cd q) = rI (sGo (F 0) j s) (hC F π sc rd cd q) := by
  simp only [FX0_canGo, c_r0, c_r1, c_r2, c_r3, c_r4, c_r5, c_i6, c_i7, c_i8, c_i9, c_n0, c_n1, c_n2, c_o, c_o1, c_o2, c_o4, c_o6, c_o8, c_o10, c_o12, c_aF, c_aC, c_aT, c_aS, c_aG, c_aJ, I_e, V_e, cI_e, tS_2 hI hs, c_end hI hs, tT_3]
  have hn := hI.ns.2
  have := lp_find (fun n x => FX0_canGo_31 N n 1 j (nI s) (sS (F 0) s 2) (sEnd (F 0) s) (F 0 6) x (hC F π sc rd cd q)) (cnt (F 0) 1) (pGo (F 0) j s) (fun i => rI 0 (hC F π sc rd cd q)) (rI 1 (hC F π sc rd cd q))
    (fun n => by
      simp only [FX0_canGo_31, c_r0, c_r1, c_r2, c_r3, c_r4, c_r5, c_i6, c_i7, c_i8, c_i9, c_n0, c_n1, c_n2, c_o, c_o1, c_o2, c_o4, c_o6, c_o8, c_o10, c_o12, c_aF, c_aC, c_aT, c_aS, c_aG, c_aJ, I_e, V_e, cI_e, hI.ns.1, if_pos (Int32.le_refl _)])
    (fun n k hk => by
      have h9 := nI_ge hk (lt31 (by omega))
      have he : (nI k = nI s) = (k = s) := propext (nI_eq (lt31 (by omega)) (lt31 (by omega)))
      simp only [FX0_canGo_31, c_r0, c_r1, c_r2, c_r3, c_r4, c_r5, c_i6, c_i7, c_i8, c_i9, c_n0, c_n1, c_n2, c_o, c_o1, c_o2, c_o4, c_o6, c_o8, c_o10, c_o12, c_aF, c_aC, c_aT, c_aS, c_aG, c_aJ, I_e, V_e, cI_e]
      rw [hI.ns.1, if_neg h9, nI_1]
      simp only [c_goes hI hk, tS_2 hI hk, c_end hI hk, c_r0, c_r1, c_r2, c_r3, c_r4, c_r5, c_i6, c_i7, c_i8, c_i9, c_n0, c_n1, c_n2, c_o, c_o1, c_o2, c_o4, c_o6, c_o8, c_o10, c_o12, c_aF, c_aC, c_aT, c_aS, c_aG, c_aJ, I_e, V_e, cI_e, e_near, bl_0, he]
      by_cases h1 : k = s
      · simp [h1, pGo]
      · by_cases h2 : hb (sS (F 0) k 4) j
        · by_cases h3 : near (sS (F 0) s 2) (sEnd (F 0) s) (sS (F 0) k 2) (sEnd (F 0) k) (F 0 6) <;> simp [h1, h2, h3, pGo]
        · simp [h1, h2, pGo])
    (cnt (F 0) 1) N 0 (by omega) (by omega)
  rw [show (0 : Int32) = nI 0 from rfl]
  exact this.trans (ffst_map _ (fun _ => (0 : Int32)) 1 (fun x => rI x (hC F π sc rd cd q)) _ _)
def sVis (v : Nat → Int32) (j : Int32) : Int32 := fd (fun s a => if hb (sS v s 4) j then a + 1 else a) 0 (cnt v 1) 0
theorem c_vis {j : Int32} (hN : 13 ≤ N) (hI : Iv (F 0)) : FX0_visitsOf N 1 j (hC F π sc rd cd q) = rI (sVis (F 0) j) (hC F π sc rd cd q) := by
  unfold FX0_visitsOf sVis
  have hn := hI.ns.2
  exact lp_fold (fun n x a => FX0_visitsOf_4 N n 1 j a x (hC F π sc rd cd q)) (cnt (F 0) 1) (fun s a => if hb (sS (F 0) s 4) j then a + 1 else a) (fun a => rI a (hC F π sc rd cd q)) (fun _ _ => True)
    (fun n a _ => by simp only [FX0_visitsOf_4, c_r0, c_r1, c_r2, c_r3, c_r4, c_r5, c_i6, c_i7, c_i8, c_i9, c_n0, c_n1, c_n2, c_o, c_o1, c_o2, c_o4, c_o6, c_o8, c_o10, c_o12, c_aF, c_aC, c_aT, c_aS, c_aG, c_aJ, I_e, V_e, cI_e, hI.ns.1, if_pos (Int32.le_refl _)])
    (fun n k a hk _ => ⟨by
      have h9 := nI_ge hk (lt31 (by omega))
      simp only [FX0_visitsOf_4, c_r0, c_r1, c_r2, c_r3, c_r4, c_r5, c_i6, c_i7, c_i8, c_i9, c_n0, c_n1, c_n2, c_o, c_o1, c_o2, c_o4, c_o6, c_o8, c_o10, c_o12, c_aF, c_aC, c_aT, c_aS, c_aG, c_aJ, I_e, V_e, cI_e]
      rw [hI.ns.1, if_neg h9, nI_1]
      simp only [c_goes hI hk, c_r0, c_r1, c_r2, c_r3, c_r4, c_r5, c_i6, c_i7, c_i8, c_i9, c_n0, c_n1, c_n2, c_o, c_o1, c_o2, c_o4, c_o6, c_o8, c_o10, c_o12, c_aF, c_aC, c_aT, c_aS, c_aG, c_aJ, I_e, V_e, cI_e, bl_0]
      by_cases h2 : hb (sS (F 0) k 4) j
      · rw [if_neg (fun hh => hh h2), if_pos h2]
      · rw [if_pos h2, if_neg h2], trivial⟩)
    (cnt (F 0) 1) N 0 0 (by omega) (by omega) trivial
def sSeen (v : Nat → Int32) (f : Int32) : Int32 := fd (fun s a => if sS v s 0 = f then a ||| sS v s 4 else a) 0 (cnt v 1) 0
theorem c_seen {f : Int32} (hN : 13 ≤ N) (hI : Iv (F 0)) : FX0_seenBy N 1 f (hC F π sc rd cd q) = rI (sSeen (F 0) f) (hC F π sc rd cd q) := by
  unfold FX0_seenBy sSeen
  have hn := hI.ns.2
  exact lp_fold (fun n x a => FX0_seenBy_4 N n 1 f a x (hC F π sc rd cd q)) (cnt (F 0) 1) (fun s a => if sS (F 0) s 0 = f then a ||| sS (F 0) s 4 else a) (fun a => rI a (hC F π sc rd cd q)) (fun _ _ => True)
    (fun n a _ => by simp only [FX0_seenBy_4, c_r0, c_r1, c_r2, c_r3, c_r4, c_r5, c_i6, c_i7, c_i8, c_i9, c_n0, c_n1, c_n2, c_o, c_o1, c_o2, c_o4, c_o6, c_o8, c_o10, c_o12, c_aF, c_aC, c_aT, c_aS, c_aG, c_aJ, I_e, V_e, cI_e, hI.ns.1, if_pos (Int32.le_refl _)])
    (fun n k a hk _ => ⟨by
      have h9 := nI_ge hk (lt31 (by omega))
      simp only [FX0_seenBy_4, c_r0, c_r1, c_r2, c_r3, c_r4, c_r5, c_i6, c_i7, c_i8, c_i9, c_n0, c_n1, c_n2, c_o, c_o1, c_o2, c_o4, c_o6, c_o8, c_o10, c_o12, c_aF, c_aC, c_aT, c_aS, c_aG, c_aJ, I_e, V_e, cI_e]
      rw [hI.ns.1, if_neg h9, nI_1]
      simp only [tS_0 hI hk, tS_4 hI hk, c_r0, c_r1, c_r2, c_r3, c_r4, c_r5, c_i6, c_i7, c_i8, c_i9, c_n0, c_n1, c_n2, c_o, c_o1, c_o2, c_o4, c_o6, c_o8, c_o10, c_o12, c_aF, c_aC, c_aT, c_aS, c_aG, c_aJ, I_e, V_e, cI_e]
      by_cases h2 : sS (F 0) k 0 = f <;> simp [h2], trivial⟩)
    (cnt (F 0) 1) N 0 0 (by omega) (by omega) trivial
def sWith (v : Nat → Int32) (c : Nat) (x : Int32) : Int32 := fd (fun s a => if sS v s c = x then a + 1 else a) 0 (cnt v 1) 0
theorem c_with {x : Int32} {c : Nat} (hc : c < 5) (hN : 13 ≤ N) (hI : Iv (F 0)) : FX0_showingsWith N 1 (nI c) x (hC F π sc rd cd q) = rI (sWith (F 0) c x) (hC F π sc rd cd q) := by
  unfold FX0_showingsWith sWith
  have hn := hI.ns.2
  exact lp_fold (fun n y a => FX0_showingsWith_5 N n 1 (nI c) x a y (hC F π sc rd cd q)) (cnt (F 0) 1) (fun s a => if sS (F 0) s c = x then a + 1 else a) (fun a => rI a (hC F π sc rd cd q)) (fun _ _ => True)
    (fun n a _ => by simp only [FX0_showingsWith_5, c_r0, c_r1, c_r2, c_r3, c_r4, c_r5, c_i6, c_i7, c_i8, c_i9, c_n0, c_n1, c_n2, c_o, c_o1, c_o2, c_o4, c_o6, c_o8, c_o10, c_o12, c_aF, c_aC, c_aT, c_aS, c_aG, c_aJ, I_e, V_e, cI_e, hI.ns.1, if_pos (Int32.le_refl _)])
    (fun n k a hk _ => ⟨by
      have h9 := nI_ge hk (lt31 (by omega))
      simp only [FX0_showingsWith_5, c_r0, c_r1, c_r2, c_r3, c_r4, c_r5, c_i6, c_i7, c_i8, c_i9, c_n0, c_n1, c_n2, c_o, c_o1, c_o2, c_o4, c_o6, c_o8, c_o10, c_o12, c_aF, c_aC, c_aT, c_aS, c_aG, c_aJ, I_e, V_e, cI_e]
      rw [hI.ns.1, if_neg h9, nI_1]
      simp only [tS_e hI hk hc, c_r0, c_r1, c_r2, c_r3, c_r4, c_r5, c_i6, c_i7, c_i8, c_i9, c_n0, c_n1, c_n2, c_o, c_o1, c_o2, c_o4, c_o6, c_o8, c_o10, c_o12, c_aF, c_aC, c_aT, c_aS, c_aG, c_aJ, I_e, V_e, cI_e]
      by_cases h2 : sS (F 0) k c = x <;> simp [h2], trivial⟩)
    (cnt (F 0) 1) N 0 0 (by omega) (by omega) trivial
def sSts (v : Nat → Int32) (f : Int32) : Int32 := fd (fun s a => if sS v s 0 = f then a + v (7 + sco v s) else a) 0 (cnt v 1) 0
theorem c_sts {f : Int32} (hN : 13 ≤ N) (hI : Iv (F 0)) : FX0_seatsFor N 1 f (hC F π sc rd cd q) = rI (sSts (F 0) f) (hC F π sc rd cd q) := by
  unfold FX0_seatsFor sSts
  have hn := hI.ns.2
  exact lp_fold (fun n y a => FX0_seatsFor_4 N n 1 f a y (hC F π sc rd cd q)) (cnt (F 0) 1) (fun s a => if sS (F 0) s 0 = f then a + F 0 (7 + sco (F 0) s) else a) (fun a => rI a (hC F π sc rd cd q)) (fun _ _ => True)
    (fun n a _ => by simp only [FX0_seatsFor_4, c_r0, c_r1, c_r2, c_r3, c_r4, c_r5, c_i6, c_i7, c_i8, c_i9, c_n0, c_n1, c_n2, c_o, c_o1, c_o2, c_o4, c_o6, c_o8, c_o10, c_o12, c_aF, c_aC, c_aT, c_aS, c_aG, c_aJ, I_e, V_e, cI_e, hI.ns.1, if_pos (Int32.le_refl _)])
    (fun n k a hk _ => ⟨by
      have h9 := nI_ge hk (lt31 (by omega))
      simp only [FX0_seatsFor_4, c_r0, c_r1, c_r2, c_r3, c_r4, c_r5, c_i6, c_i7, c_i8, c_i9, c_n0, c_n1, c_n2, c_o, c_o1, c_o2, c_o4, c_o6, c_o8, c_o10, c_o12, c_aF, c_aC, c_aT, c_aS, c_aG, c_aJ, I_e, V_e, cI_e]
      rw [hI.ns.1, if_neg h9, nI_1]
      simp only [tS_0 hI hk, tS_1 hI hk, hI.so hk, tC_e (hI.so_lt hk), c_r0, c_r1, c_r2, c_r3, c_r4, c_r5, c_i6, c_i7, c_i8, c_i9, c_n0, c_n1, c_n2, c_o, c_o1, c_o2, c_o4, c_o6, c_o8, c_o10, c_o12, c_aF, c_aC, c_aT, c_aS, c_aG, c_aJ, I_e, V_e, cI_e]
      by_cases h2 : sS (F 0) k 0 = f <;> simp [h2], trivial⟩)
    (cnt (F 0) 1) N 0 0 (by omega) (by omega) trivial
def sPts (v : Nat → Int32) (f : Nat) : Int32 := fd (fun j a => if hb (sSeen v (nI f)) (nI j) then a + sP v j f else a) 0 3 0
theorem c_pts {f : Nat} (hf : f < 8) (hN : 13 ≤ N) (hI : Iv (F 0)) : FX0_pointsOf N 1 (nI f) (hC F π sc rd cd q) = rI (sPts (F 0) f) (hC F π sc rd cd q) := by
  unfold FX0_pointsOf
  simp only [c_seen hN hI, c_r0, c_r1, c_r2, c_r3, c_r4, c_r5, c_i6, c_i7, c_i8, c_i9, c_n0, c_n1, c_n2, c_o, c_o1, c_o2, c_o4, c_o6, c_o8, c_o10, c_o12, c_aF, c_aC, c_aT, c_aS, c_aG, c_aJ, I_e, V_e, cI_e]
  unfold sPts
  exact lp_fold (fun n y a => FX0_pointsOf_11 N n 1 (nI f) (sSeen (F 0) (nI f)) a y (hC F π sc rd cd q)) 3 (fun j a => if hb (sSeen (F 0) (nI f)) (nI j) then a + sP (F 0) j f else a) (fun a => rI a (hC F π sc rd cd q)) (fun _ _ => True)
    (fun n a _ => by simp only [FX0_pointsOf_11]; rw [if_pos (by decide)])
    (fun n k a hk _ => ⟨by
      have h9 := nI_ge hk (lt31 (by omega))
      simp only [FX0_pointsOf_11]
      rw [if_neg (show ¬ (3 : Int32) ≤ nI k from h9), nI_1]
      simp only [e_hb, c_r0, c_r1, c_r2, c_r3, c_r4, c_r5, c_i6, c_i7, c_i8, c_i9, c_n0, c_n1, c_n2, c_o, c_o1, c_o2, c_o4, c_o6, c_o8, c_o10, c_o12, c_aF, c_aC, c_aT, c_aS, c_aG, c_aJ, I_e, V_e, cI_e, bl_0, tJ_e hk hf]
      by_cases h2 : hb (sSeen (F 0) (nI f)) (nI k)
      · rw [if_neg (fun hh => hh h2), if_pos h2]
      · rw [if_pos h2, if_neg h2], trivial⟩)
    3 N 0 0 (by omega) (by omega) trivial
def sRb0 (v : Nat → Int32) (s : Nat) (r : Int32) : Int32 := if r < sF v (fmo v s) 0 then sBeg (sS v s 2) (sS v s 3) (sF v (fmo v s) 0) (sF v (fmo v s) 1) r else -1
theorem c_rbeg {s : Nat} {r : Int32} (hI : Iv (F 0)) (hs : s < cnt (F 0) 1) : FX0_reelBegin 1 (nI s) r (hC F π sc rd cd q) = rI (sRb0 (F 0) s r) (hC F π sc rd cd q) := by
  simp only [FX0_reelBegin, c_r0, c_r1, c_r2, c_r3, c_r4, c_r5, c_i6, c_i7, c_i8, c_i9, c_n0, c_n1, c_n2, c_o, c_o1, c_o2, c_o4, c_o6, c_o8, c_o10, c_o12, c_aF, c_aC, c_aT, c_aS, c_aG, c_aJ, I_e, V_e, cI_e, tS_0 hI hs, tS_2 hI hs, tS_3 hI hs, hI.fo hs, tF_0 hI (hI.fo_lt hs), tF_1 hI (hI.fo_lt hs), e_beg]
  unfold sRb0
  by_cases h1 : r < sF (F 0) (fmo (F 0) s) 0 <;> simp [h1]
abbrev pAt (v : Nat → Int32) (s : Nat) (m : Int32) (k : Nat) : Prop := sBegS v (fmo v s) (sS v s 2) (sS v s 3) k ≤ m ∧ m < sBegS v (fmo v s) (sS v s 2) (sS v s 3) k + sF v (fmo v s) 1
def sAt (v : Nat → Int32) (s : Nat) (m : Int32) : Int32 := fi (pAt v s m) 0 (nR v (fmo v s))
theorem c_rat {s : Nat} {m : Int32} (hN : 13 ≤ N) (hI : Iv (F 0)) (hs : s < cnt (F 0) 1) : FX0_reelAt N 1 (nI s) m (hC F π sc rd cd q) = rI (sAt (F 0) s m) (hC F π sc rd cd q) := by
  simp only [FX0_reelAt, c_r0, c_r1, c_r2, c_r3, c_r4, c_r5, c_i6, c_i7, c_i8, c_i9, c_n0, c_n1, c_n2, c_o, c_o1, c_o2, c_o4, c_o6, c_o8, c_o10, c_o12, c_aF, c_aC, c_aT, c_aS, c_aG, c_aJ, I_e, V_e, cI_e, tS_0 hI hs, tS_2 hI hs, tS_3 hI hs, hI.fo hs, tF_0 hI (hI.fo_lt hs), tF_1 hI (hI.fo_lt hs)]
  obtain ⟨hn, h1, h6⟩ := hI.nRe (hI.fo_lt hs)
  have := lp_find (fun n x => FX0_reelAt_57 N n m (sF (F 0) (fmo (F 0) s) 0) (sF (F 0) (fmo (F 0) s) 1) (sS (F 0) s 2) (sS (F 0) s 3) x (hC F π sc rd cd q)) (nR (F 0) (fmo (F 0) s)) (pAt (F 0) s m) (fun i => rI (nI i) (hC F π sc rd cd q)) (rI (-1) (hC F π sc rd cd q))
    (fun n => by
      simp only [FX0_reelAt_57, hn, if_pos (Int32.le_refl _)])
    (fun n k hk => by
      have h9 := nI_ge hk (lt31 (by omega))
      simp only [FX0_reelAt_57]
      rw [if_neg (by rw [hn]; exact h9), nI_1]
      simp only [e_beg, I_e]
      by_cases h3 : sBegS (F 0) (fmo (F 0) s) (sS (F 0) s 2) (sS (F 0) s 3) k ≤ m
      · have h3' : ¬ m < sBegS (F 0) (fmo (F 0) s) (sS (F 0) s 2) (sS (F 0) s 3) k := Int32.not_lt.mpr h3
        by_cases h4 : m < sBegS (F 0) (fmo (F 0) s) (sS (F 0) s 2) (sS (F 0) s 3) k + sF (F 0) (fmo (F 0) s) 1
        · have h4' : ¬ sBegS (F 0) (fmo (F 0) s) (sS (F 0) s 2) (sS (F 0) s 3) k + sF (F 0) (fmo (F 0) s) 1 ≤ m := Int32.not_le.mpr h4
          rw [if_neg h3', if_neg h4', if_pos ⟨h3, h4⟩]
        · rw [if_neg h3', if_pos (Int32.not_lt.mp h4), if_neg (fun hh => h4 hh.2)]
      · rw [if_pos (Int32.not_le.mp h3), if_neg (fun hh => h3 hh.1)])
    (nR (F 0) (fmo (F 0) s)) N 0 (by omega) (by omega)
  rw [show (0 : Int32) = nI 0 from rfl]
  exact this.trans (ffst_map _ nI (-1) (fun x => rI x (hC F π sc rd cd q)) _ _)
abbrev pRun (v : Nat → Int32) (c m : Int32) (s : Nat) : Prop := sS v s 1 = c ∧ sAt v s m ≠ -1
def sRun (v : Nat → Int32) (c m : Int32) : Int32 := ffst (pRun v c m) (fun s => 6 * sS v s 0 + sAt v s m) (-1) 0 (cnt v 1)
theorem c_run {c m : Int32} (hN : 13 ≤ N) (hI : Iv (F 0)) : FX0_runningOn N 1 c m (hC F π sc rd cd q) = rI (sRun (F 0) c m) (hC F π sc rd cd q) := by
  unfold FX0_runningOn
  have hn := hI.ns.2
  have := lp_find (fun n x => FX0_runningOn_2 N n 1 c m x (hC F π sc rd cd q)) (cnt (F 0) 1) (pRun (F 0) c m) (fun s => rI (6 * sS (F 0) s 0 + sAt (F 0) s m) (hC F π sc rd cd q)) (rI (-1) (hC F π sc rd cd q))
    (fun n => by
      simp only [FX0_runningOn_2, c_r0, c_r1, c_r2, c_r3, c_r4, c_r5, c_i6, c_i7, c_i8, c_i9, c_n0, c_n1, c_n2, c_o, c_o1, c_o2, c_o4, c_o6, c_o8, c_o10, c_o12, c_aF, c_aC, c_aT, c_aS, c_aG, c_aJ, I_e, V_e, cI_e, hI.ns.1, if_pos (Int32.le_refl _)])
    (fun n k hk => by
      have h9 := nI_ge hk (lt31 (by omega))
      simp only [FX0_runningOn_2, c_r0, c_r1, c_r2, c_r3, c_r4, c_r5, c_i6, c_i7, c_i8, c_i9, c_n0, c_n1, c_n2, c_o, c_o1, c_o2, c_o4, c_o6, c_o8, c_o10, c_o12, c_aF, c_aC, c_aT, c_aS, c_aG, c_aJ, I_e, V_e, cI_e]
      rw [hI.ns.1, if_neg h9, nI_1]
      simp only [tS_0 hI hk, tS_1 hI hk, c_rat hN hI hk, c_r0, c_r1, c_r2, c_r3, c_r4, c_r5, c_i6, c_i7, c_i8, c_i9, c_n0, c_n1, c_n2, c_o, c_o1, c_o2, c_o4, c_o6, c_o8, c_o10, c_o12, c_aF, c_aC, c_aT, c_aS, c_aG, c_aJ, I_e, V_e, cI_e]
      by_cases h1 : sS (F 0) k 1 = c
      · by_cases h2 : sAt (F 0) k m = -1 <;> simp [h1, h2, pRun]
      · simp [h1, pRun])
    (cnt (F 0) 1) N 0 (by omega) (by omega)
  rw [show (0 : Int32) = nI 0 from rfl]
  exact this.trans (ffst_map _ (fun s => 6 * sS (F 0) s 0 + sAt (F 0) s m) (-1) (fun x => rI x (hC F π sc rd cd q)) _ _)
def sUse (v : Nat → Int32) (c : Int32) : Int32 := fd (fun s a => if sS v s 1 = c then a + sLen v (fmo v s) else a) 0 (cnt v 1) 0
theorem c_use {c : Int32} (hN : 13 ≤ N) (hI : Iv (F 0)) : FX0_reckonedMinutes N 1 c (hC F π sc rd cd q) = rI (sUse (F 0) c) (hC F π sc rd cd q) := by
  unfold FX0_reckonedMinutes sUse
  have hn := hI.ns.2
  exact lp_fold (fun n y a => FX0_reckonedMinutes_4 N n 1 c a y (hC F π sc rd cd q)) (cnt (F 0) 1) (fun s a => if sS (F 0) s 1 = c then a + sLen (F 0) (fmo (F 0) s) else a) (fun a => rI a (hC F π sc rd cd q)) (fun _ _ => True)
    (fun n a _ => by simp only [FX0_reckonedMinutes_4, c_r0, c_r1, c_r2, c_r3, c_r4, c_r5, c_i6, c_i7, c_i8, c_i9, c_n0, c_n1, c_n2, c_o, c_o1, c_o2, c_o4, c_o6, c_o8, c_o10, c_o12, c_aF, c_aC, c_aT, c_aS, c_aG, c_aJ, I_e, V_e, cI_e, hI.ns.1, if_pos (Int32.le_refl _)])
    (fun n k a hk _ => ⟨by
      have h9 := nI_ge hk (lt31 (by omega))
      simp only [FX0_reckonedMinutes_4, c_r0, c_r1, c_r2, c_r3, c_r4, c_r5, c_i6, c_i7, c_i8, c_i9, c_n0, c_n1, c_n2, c_o, c_o1, c_o2, c_o4, c_o6, c_o8, c_o10, c_o12, c_aF, c_aC, c_aT, c_aS, c_aG, c_aJ, I_e, V_e, cI_e]
      rw [hI.ns.1, if_neg h9, nI_1]
      simp only [tS_0 hI hk, tS_1 hI hk, hI.fo hk, c_len hI (hI.fo_lt hk), c_r0, c_r1, c_r2, c_r3, c_r4, c_r5, c_i6, c_i7, c_i8, c_i9, c_n0, c_n1, c_n2, c_o, c_o1, c_o2, c_o4, c_o6, c_o8, c_o10, c_o12, c_aF, c_aC, c_aT, c_aS, c_aG, c_aJ, I_e, V_e, cI_e]
      by_cases h2 : sS (F 0) k 1 = c <;> simp [h2], trivial⟩)
    (cnt (F 0) 1) N 0 0 (by omega) (by omega) trivial
def sLast (v : Nat → Int32) (c : Int32) : Int32 := fd (fun s a => if sS v s 1 = c then (if a < sEnd v s then sEnd v s else a) else a) 0 (cnt v 1) (-1)
theorem c_last {c : Int32} (hN : 13 ≤ N) (hI : Iv (F 0)) : FX0_lastEnd N 1 c (hC F π sc rd cd q) = rI (sLast (F 0) c) (hC F π sc rd cd q) := by
  unfold FX0_lastEnd sLast
  have hn := hI.ns.2
  exact lp_fold (fun n y a => FX0_lastEnd_4 N n 1 c a y (hC F π sc rd cd q)) (cnt (F 0) 1) (fun s a => if sS (F 0) s 1 = c then (if a < sEnd (F 0) s then sEnd (F 0) s else a) else a) (fun a => rI a (hC F π sc rd cd q)) (fun _ _ => True)
    (fun n a _ => by simp only [FX0_lastEnd_4, c_r0, c_r1, c_r2, c_r3, c_r4, c_r5, c_i6, c_i7, c_i8, c_i9, c_n0, c_n1, c_n2, c_o, c_o1, c_o2, c_o4, c_o6, c_o8, c_o10, c_o12, c_aF, c_aC, c_aT, c_aS, c_aG, c_aJ, I_e, V_e, cI_e, hI.ns.1, if_pos (Int32.le_refl _)])
    (fun n k a hk _ => ⟨by
      have h9 := nI_ge hk (lt31 (by omega))
      simp only [FX0_lastEnd_4, c_r0, c_r1, c_r2, c_r3, c_r4, c_r5, c_i6, c_i7, c_i8, c_i9, c_n0, c_n1, c_n2, c_o, c_o1, c_o2, c_o4, c_o6, c_o8, c_o10, c_o12, c_aF, c_aC, c_aT, c_aS, c_aG, c_aJ, I_e, V_e, cI_e]
      rw [hI.ns.1, if_neg h9, nI_1]
      simp only [tS_1 hI hk, c_end hI hk, c_r0, c_r1, c_r2, c_r3, c_r4, c_r5, c_i6, c_i7, c_i8, c_i9, c_n0, c_n1, c_n2, c_o, c_o1, c_o2, c_o4, c_o6, c_o8, c_o10, c_o12, c_aF, c_aC, c_aT, c_aS, c_aG, c_aJ, I_e, V_e, cI_e]
      by_cases h2 : sS (F 0) k 1 = c <;> simp [h2], trivial⟩)
    (cnt (F 0) 1) N 0 (-1) (by omega) (by omega) trivial
def sAll (v : Nat → Int32) : Int32 := fd (fun s a => a + v (7 + sco v s)) 0 (cnt v 1) 0
theorem c_all (hN : 13 ≤ N) (hI : Iv (F 0)) : FX0_allSeats N 1 (hC F π sc rd cd q) = rI (sAll (F 0)) (hC F π sc rd cd q) := by
  unfold FX0_allSeats sAll
  have hn := hI.ns.2
  exact lp_fold (fun n y a => FX0_allSeats_4 N n 1 a y (hC F π sc rd cd q)) (cnt (F 0) 1) (fun s a => a + F 0 (7 + sco (F 0) s)) (fun a => rI a (hC F π sc rd cd q)) (fun _ _ => True)
    (fun n a _ => by simp only [FX0_allSeats_4, c_r0, c_r1, c_r2, c_r3, c_r4, c_r5, c_i6, c_i7, c_i8, c_i9, c_n0, c_n1, c_n2, c_o, c_o1, c_o2, c_o4, c_o6, c_o8, c_o10, c_o12, c_aF, c_aC, c_aT, c_aS, c_aG, c_aJ, I_e, V_e, cI_e, hI.ns.1, if_pos (Int32.le_refl _)])
    (fun n k a hk _ => ⟨by
      have h9 := nI_ge hk (lt31 (by omega))
      simp only [FX0_allSeats_4, c_r0, c_r1, c_r2, c_r3, c_r4, c_r5, c_i6, c_i7, c_i8, c_i9, c_n0, c_n1, c_n2, c_o, c_o1, c_o2, c_o4, c_o6, c_o8, c_o10, c_o12, c_aF, c_aC, c_aT, c_aS, c_aG, c_aJ, I_e, V_e, cI_e]
      rw [hI.ns.1, if_neg h9, nI_1]
      simp only [tS_1 hI hk, hI.so hk, tC_e (hI.so_lt hk), c_r0, c_r1, c_r2, c_r3, c_r4, c_r5, c_i6, c_i7, c_i8, c_i9, c_n0, c_n1, c_n2, c_o, c_o1, c_o2, c_o4, c_o6, c_o8, c_o10, c_o12, c_aF, c_aC, c_aT, c_aS, c_aG, c_aJ, I_e, V_e, cI_e], trivial⟩)
    (cnt (F 0) 1) N 0 0 (by omega) (by omega) trivial
end CL2


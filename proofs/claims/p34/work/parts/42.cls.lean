/-! THE CLASS: what a festival answers (its object 1, now) -/
def tF (v : Nat → Int32) (r c : Int32) : Int32 := tAt 2 (v 0) 16 (sl v 10 16) r c
def tC (v : Nat → Int32) (r c : Int32) : Int32 := tAt 1 3 3 (sl v 7 3) r c
def tT (v : Nat → Int32) (r c : Int32) : Int32 := tAt 1 4 4 (sl v 3 4) r c
def tS (v : Nat → Int32) (r c : Int32) : Int32 := tAt 5 (v 1) 60 (sl v 26 60) r c
def tG (v : Nat → Int32) (r c : Int32) : Int32 := tAt 3 (v 2) 18 (sl v 86 18) r c
def tJ (v : Nat → Int32) (r c : Int32) : Int32 := tAt 8 3 24 (sl v 104 24) r c
section TB
variable {v : Nat → Int32}
theorem tF_e (hI : Iv v) {f k : Nat} (hf : f < cnt v 0) (hk : k < 2) : tF v (nI f) (nI k) = sF v f k := by
  unfold tF
  rw [show (2 : Int32) = nI 2 from rfl, hI.nf.1, tAt_e hf (by have := hI.nf.2; omega) hk (by decide) (by have := hI.nf.2; omega) (by decide), sl_in (by have := hI.nf.2; omega)]
  rw [show 10 + (f * 2 + k) = 10 + 2 * f + k by omega]
theorem tS_e (hI : Iv v) {s k : Nat} (hs : s < cnt v 1) (hk : k < 5) : tS v (nI s) (nI k) = sS v s k := by
  unfold tS
  rw [show (5 : Int32) = nI 5 from rfl, hI.ns.1, tAt_e hs (by have := hI.ns.2; omega) hk (by decide) (by have := hI.ns.2; omega) (by decide), sl_in (by have := hI.ns.2; omega)]
  rw [show 26 + (s * 5 + k) = 26 + 5 * s + k by omega]
theorem tG_e (hI : Iv v) {s k : Nat} (hs : s < cnt v 2) (hk : k < 3) : tG v (nI s) (nI k) = sG v s k := by
  unfold tG
  rw [show (3 : Int32) = nI 3 from rfl, hI.ng.1, tAt_e hs (by have := hI.ng.2; omega) hk (by decide) (by have := hI.ng.2; omega) (by decide), sl_in (by have := hI.ng.2; omega)]
  rw [show 86 + (s * 3 + k) = 86 + 3 * s + k by omega]
theorem tC_e {c : Nat} (hc : c < 3) : tC v (nI c) 0 = v (7 + c) := by
  unfold tC
  rw [show (1 : Int32) = nI 1 from rfl, show (3 : Int32) = nI 3 from rfl, show (0 : Int32) = nI 0 from rfl, tAt_e hc (by decide) (by decide) (by decide) (by decide) (by decide), sl_in (by omega)]
  rw [show 7 + (c * 1 + 0) = 7 + c by omega]
theorem tT_e {c : Nat} (hc : c < 4) : tT v (nI c) 0 = v (3 + c) := by
  unfold tT
  rw [show (1 : Int32) = nI 1 from rfl, show (4 : Int32) = nI 4 from rfl, show (0 : Int32) = nI 0 from rfl, tAt_e hc (by decide) (by decide) (by decide) (by decide) (by decide), sl_in (by omega)]
  rw [show 3 + (c * 1 + 0) = 3 + c by omega]
theorem tJ_e {j f : Nat} (hj : j < 3) (hf : f < 8) : tJ v (nI j) (nI f) = sP v j f := by
  unfold tJ
  rw [show (8 : Int32) = nI 8 from rfl, show (3 : Int32) = nI 3 from rfl, tAt_e hj (by decide) hf (by decide) (by decide) (by decide), sl_in (by omega)]
  rw [show 104 + (j * 8 + f) = 104 + 8 * j + f by omega]
theorem tS_0 (hI : Iv v) {s : Nat} (hs : s < cnt v 1) : tS v (nI s) 0 = sS v s 0 := tS_e hI hs (by decide)
theorem tS_1 (hI : Iv v) {s : Nat} (hs : s < cnt v 1) : tS v (nI s) 1 = sS v s 1 := tS_e hI hs (by decide)
theorem tS_2 (hI : Iv v) {s : Nat} (hs : s < cnt v 1) : tS v (nI s) 2 = sS v s 2 := tS_e hI hs (by decide)
theorem tS_3 (hI : Iv v) {s : Nat} (hs : s < cnt v 1) : tS v (nI s) 3 = sS v s 3 := tS_e hI hs (by decide)
theorem tS_4 (hI : Iv v) {s : Nat} (hs : s < cnt v 1) : tS v (nI s) 4 = sS v s 4 := tS_e hI hs (by decide)
theorem tF_0 (hI : Iv v) {s : Nat} (hs : s < cnt v 0) : tF v (nI s) 0 = sF v s 0 := tF_e hI hs (by decide)
theorem tF_1 (hI : Iv v) {s : Nat} (hs : s < cnt v 0) : tF v (nI s) 1 = sF v s 1 := tF_e hI hs (by decide)
theorem tG_0 (hI : Iv v) {s : Nat} (hs : s < cnt v 2) : tG v (nI s) 0 = sG v s 0 := tG_e hI hs (by decide)
theorem tG_1 (hI : Iv v) {s : Nat} (hs : s < cnt v 2) : tG v (nI s) 1 = sG v s 1 := tG_e hI hs (by decide)
theorem tG_2 (hI : Iv v) {s : Nat} (hs : s < cnt v 2) : tG v (nI s) 2 = sG v s 2 := tG_e hI hs (by decide)
theorem tT_0 : tT v 0 0 = v 3 := tT_e (c := 0) (by decide)
theorem tT_1 : tT v 1 0 = v 4 := tT_e (c := 1) (by decide)
theorem tT_2 : tT v 2 0 = v 5 := tT_e (c := 2) (by decide)
theorem tT_3 : tT v 3 0 = v 6 := tT_e (c := 3) (by decide)
end TB
section CL
variable {F : Nat → Nat → Int32} {π : Nat → Nat} {sc rd cd : Nat → Int32} {q : jm_H}
theorem c_r0 {f : Nat → Option jm_X} : jf_gR 0 (hC F π sc rd cd q) 1 0 f = f 2 := gR_e (fs := _) rfl rfl
theorem c_r1 {f : Nat → Option jm_X} : jf_gR 0 (hC F π sc rd cd q) 1 1 f = f 4 := gR_e (fs := _) rfl rfl
theorem c_r2 {f : Nat → Option jm_X} : jf_gR 0 (hC F π sc rd cd q) 1 2 f = f 6 := gR_e (fs := _) rfl rfl
theorem c_r3 {f : Nat → Option jm_X} : jf_gR 0 (hC F π sc rd cd q) 1 3 f = f 8 := gR_e (fs := _) rfl rfl
theorem c_r4 {f : Nat → Option jm_X} : jf_gR 0 (hC F π sc rd cd q) 1 4 f = f 10 := gR_e (fs := _) rfl rfl
theorem c_r5 {f : Nat → Option jm_X} : jf_gR 0 (hC F π sc rd cd q) 1 5 f = f 12 := gR_e (fs := _) rfl rfl
theorem c_i6 {f : Int32 → Option jm_X} : jf_gI 0 (hC F π sc rd cd q) 1 6 f = f (F 0 128) := gI_e (fs := _) rfl rfl
theorem c_i7 {f : Int32 → Option jm_X} : jf_gI 0 (hC F π sc rd cd q) 1 7 f = f (F 0 129) := gI_e (fs := _) rfl rfl
theorem c_i8 {f : Int32 → Option jm_X} : jf_gI 0 (hC F π sc rd cd q) 1 8 f = f (F 0 130) := gI_e (fs := _) rfl rfl
theorem c_i9 {f : Int32 → Option jm_X} : jf_gI 0 (hC F π sc rd cd q) 1 9 f = f (F 0 131) := gI_e (fs := _) rfl rfl
theorem c_n0 {f : Int32 → Option jm_X} : jf_gI 2 (hC F π sc rd cd q) 2 2 f = f (F 0 0) := gI_e (fs := _) rfl rfl
theorem c_n1 {f : Int32 → Option jm_X} : jf_gI 2 (hC F π sc rd cd q) 8 2 f = f (F 0 1) := gI_e (fs := _) rfl rfl
theorem c_n2 {f : Int32 → Option jm_X} : jf_gI 2 (hC F π sc rd cd q) 10 2 f = f (F 0 2) := gI_e (fs := _) rfl rfl
theorem c_o {r : Option jm_X} : jf_o 3 0 (hC F π sc rd cd q) r = r := o_e (fs := _) rfl
theorem c_o1 {r : Option jm_X} : jf_o 0 1 (hC F π sc rd cd q) r = r := o_e (fs := _) rfl
theorem c_o2 {r : Option jm_X} : jf_o 2 2 (hC F π sc rd cd q) r = r := o_e (fs := _) rfl
theorem c_o4 {r : Option jm_X} : jf_o 2 4 (hC F π sc rd cd q) r = r := o_e (fs := _) rfl
theorem c_o6 {r : Option jm_X} : jf_o 2 6 (hC F π sc rd cd q) r = r := o_e (fs := _) rfl
theorem c_o8 {r : Option jm_X} : jf_o 2 8 (hC F π sc rd cd q) r = r := o_e (fs := _) rfl
theorem c_o10 {r : Option jm_X} : jf_o 2 10 (hC F π sc rd cd q) r = r := o_e (fs := _) rfl
theorem c_o12 {r : Option jm_X} : jf_o 2 12 (hC F π sc rd cd q) r = r := o_e (fs := _) rfl
theorem c_aF {r c : Int32} : FX2_at 2 r c (hC F π sc rd cd q) = rI (tF (F 0) r c) (hC F π sc rd cd q) := at_e rfl rfl (by decide)
theorem c_aC {r c : Int32} : FX2_at 4 r c (hC F π sc rd cd q) = rI (tC (F 0) r c) (hC F π sc rd cd q) := at_e rfl rfl (by decide)
theorem c_aT {r c : Int32} : FX2_at 6 r c (hC F π sc rd cd q) = rI (tT (F 0) r c) (hC F π sc rd cd q) := at_e rfl rfl (by decide)
theorem c_aS {r c : Int32} : FX2_at 8 r c (hC F π sc rd cd q) = rI (tS (F 0) r c) (hC F π sc rd cd q) := at_e rfl rfl (by decide)
theorem c_aG {r c : Int32} : FX2_at 10 r c (hC F π sc rd cd q) = rI (tG (F 0) r c) (hC F π sc rd cd q) := at_e rfl rfl (by decide)
theorem c_aJ {r c : Int32} : FX2_at 12 r c (hC F π sc rd cd q) = rI (tJ (F 0) r c) (hC F π sc rd cd q) := at_e rfl rfl (by decide)
abbrev near (a b c d g : Int32) : Prop := a < d + g ∧ c < b + g
theorem e_near {a b c d g : Int32} {h : jm_H} : FX0_areTooClose a b c d g h = rI (bl (near a b c d g)) h := by
  unfold FX0_areTooClose bl near
  by_cases h1 : d + g ≤ a
  · have : ¬ a < d + g := fun h9 => absurd h9 (Int32.not_lt.mpr h1)
    simp [h1, this]
  · have h1' : a < d + g := Int32.not_le.mp h1
    by_cases h2 : b + g ≤ c
    · have : ¬ c < b + g := fun h9 => absurd h9 (Int32.not_lt.mpr h2)
      simp [h1, h1', h2, this]
    · have h2' : c < b + g := Int32.not_le.mp h2
      simp [h1, h1', h2, h2']
theorem c_len {f : Nat} (hI : Iv (F 0)) (hf : f < cnt (F 0) 0) : FX0_lengthOf 1 (nI f) (hC F π sc rd cd q) = rI (sLen (F 0) f) (hC F π sc rd cd q) := by
  simp only [FX0_lengthOf, c_r0, c_r1, c_r2, c_r3, c_r4, c_r5, c_i6, c_i7, c_i8, c_i9, c_n0, c_n1, c_n2, c_o, c_o1, c_o2, c_o4, c_o6, c_o8, c_o10, c_o12, c_aF, c_aC, c_aT, c_aS, c_aG, c_aJ, I_e, V_e, cI_e, tF_0 hI hf, tF_1 hI hf]
  rfl
theorem c_end {s : Nat} (hI : Iv (F 0)) (hs : s < cnt (F 0) 1) : FX0_endOf 1 (nI s) (hC F π sc rd cd q) = rI (sEnd (F 0) s) (hC F π sc rd cd q) := by
  simp only [FX0_endOf, c_r0, c_r1, c_r2, c_r3, c_r4, c_r5, c_i6, c_i7, c_i8, c_i9, c_n0, c_n1, c_n2, c_o, c_o1, c_o2, c_o4, c_o6, c_o8, c_o10, c_o12, c_aF, c_aC, c_aT, c_aS, c_aG, c_aJ, I_e, V_e, cI_e, tS_0 hI hs, tS_2 hI hs, tS_3 hI hs, hI.fo hs, tF_0 hI (hI.fo_lt hs), tF_1 hI (hI.fo_lt hs)]
  rfl
/-- what stands on a screen in the way -/
abbrev pScr (v : Nat → Int32) (c a b : Int32) (w : Int32) (o : Nat) : Prop := nI o ≠ w ∧ sS v o 1 = c ∧ near a b (sS v o 2) (sEnd v o) (v 4)
theorem c_tscr {c a b w : Int32} {N : Nat} (hN : 13 ≤ N) (hI : Iv (F 0)) : FX0_takingScreen N 1 c a b w (hC F π sc rd cd q) = rI (fi (pScr (F 0) c a b w) 0 (cnt (F 0) 1)) (hC F π sc rd cd q) := by
  simp only [FX0_takingScreen, c_r0, c_r1, c_r2, c_r3, c_r4, c_r5, c_i6, c_i7, c_i8, c_i9, c_n0, c_n1, c_n2, c_o, c_o1, c_o2, c_o4, c_o6, c_o8, c_o10, c_o12, c_aF, c_aC, c_aT, c_aS, c_aG, c_aJ, I_e, V_e, cI_e, tT_1]
  have hn := hI.ns.2
  have := lp_find (fun n x => FX0_takingScreen_14 N n 1 c a b w (F 0 4) x (hC F π sc rd cd q)) (cnt (F 0) 1) (pScr (F 0) c a b w) (fun i => rI (nI i) (hC F π sc rd cd q)) (rI (-1) (hC F π sc rd cd q))
    (fun n => by
      simp only [FX0_takingScreen_14, c_r0, c_r1, c_r2, c_r3, c_r4, c_r5, c_i6, c_i7, c_i8, c_i9, c_n0, c_n1, c_n2, c_o, c_o1, c_o2, c_o4, c_o6, c_o8, c_o10, c_o12, c_aF, c_aC, c_aT, c_aS, c_aG, c_aJ, I_e, V_e, cI_e, hI.ns.1, if_pos (Int32.le_refl _)])
    (fun n k hk => by
      have h9 := nI_ge hk (lt31 (by omega))
      simp only [FX0_takingScreen_14, c_r0, c_r1, c_r2, c_r3, c_r4, c_r5, c_i6, c_i7, c_i8, c_i9, c_n0, c_n1, c_n2, c_o, c_o1, c_o2, c_o4, c_o6, c_o8, c_o10, c_o12, c_aF, c_aC, c_aT, c_aS, c_aG, c_aJ, I_e, V_e, cI_e]
      rw [hI.ns.1, if_neg h9, nI_1]
      simp only [tS_1 hI hk, tS_2 hI hk, c_end hI hk, c_r0, c_r1, c_r2, c_r3, c_r4, c_r5, c_i6, c_i7, c_i8, c_i9, c_n0, c_n1, c_n2, c_o, c_o1, c_o2, c_o4, c_o6, c_o8, c_o10, c_o12, c_aF, c_aC, c_aT, c_aS, c_aG, c_aJ, I_e, V_e, cI_e, e_near, bl_0]
      by_cases h1 : nI k = w
      · simp [h1, pScr]
      · by_cases h2 : sS (F 0) k 1 = c
        · by_cases h3 : near a b (sS (F 0) k 2) (sEnd (F 0) k) (F 0 4) <;> simp [h1, h2, h3, pScr]
        · simp [h1, h2, pScr])
    (cnt (F 0) 1) N 0 (by omega) (by omega)
  rw [show (0 : Int32) = nI 0 from rfl]
  exact this.trans (ffst_map _ nI (-1) (fun x => rI x (hC F π sc rd cd q)) _ _)
end CL


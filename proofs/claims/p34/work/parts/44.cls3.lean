/-! THE CLASS, its looks, further -/
theorem nI_le_eq {a b : Nat} (ha : a < 4000) (hb : b < 4000) : (nI a ≤ nI b) = (a ≤ b) := propext (nI_leI (by omega) (by omega))
theorem nI_lt_eq {a b : Nat} (ha : a < 4000) (hb : b < 4000) : (nI a < nI b) = (a < b) := propext (nI_ltI (by omega) (by omega))
section CL3
variable {F : Nat → Nat → Int32} {π : Nat → Nat} {sc rd cd : Nat → Int32} {q : jm_H} {N : Nat}
abbrev pFit (v : Nat → Int32) (g : Nat) (e : Int32) : Prop := sG v g 1 ≤ e ∧ e + v 5 ≤ sG v g 2
theorem c_fit {g : Nat} {e : Int32} (hI : Iv (F 0)) (hg : g < cnt (F 0) 2) : FX0_fits 1 (nI g) e (hC F π sc rd cd q) = rI (bl (pFit (F 0) g e)) (hC F π sc rd cd q) := by
  simp only [FX0_fits, c_r0, c_r1, c_r2, c_r3, c_r4, c_r5, c_i6, c_i7, c_i8, c_i9, c_n0, c_n1, c_n2, c_o, c_o1, c_o2, c_o4, c_o6, c_o8, c_o10, c_o12, c_aF, c_aC, c_aT, c_aS, c_aG, c_aJ, I_e, V_e, cI_e, tG_1 hI hg, tG_2 hI hg, tT_2]
  unfold bl pFit
  by_cases h1 : e < sG (F 0) g 1
  · have : ¬ sG (F 0) g 1 ≤ e := Int32.not_le.mpr h1
    simp [h1, this]
  · have h1' : sG (F 0) g 1 ≤ e := Int32.not_lt.mp h1
    by_cases h2 : sG (F 0) g 2 < e + F 0 5
    · have : ¬ e + F 0 5 ≤ sG (F 0) g 2 := Int32.not_le.mpr h2
      simp [h1, h1', h2, this]
    · have h2' : e + F 0 5 ≤ sG (F 0) g 2 := Int32.not_lt.mp h2
      simp [h1, h1', h2, h2']
/-- a showing that a guest can greet behind -/
abbrev pGr (v : Nat → Int32) (g s : Nat) : Prop := sS v s 0 = sG v g 0 ∧ pFit v g (sEnd v s)
def stGr (v : Nat → Int32) (g s : Nat) (a : Int32 × Int32) : Int32 × Int32 := if pGr v g s ∧ (a.1 = -1 ∨ sEnd v s < a.2) then (nI s, sEnd v s) else a
def sGr (v : Nat → Int32) (g : Nat) : Int32 := (fd (stGr v g) 0 (cnt v 1) (-1, -1)).1
theorem c_gr {g : Nat} (hN : 13 ≤ N) (hI : Iv (F 0)) (hg : g < cnt (F 0) 2) : FX0_greetedBy N 1 (nI g) (hC F π sc rd cd q) = rI (sGr (F 0) g) (hC F π sc rd cd q) := by
  unfold FX0_greetedBy sGr
  have hn := hI.ns.2
  exact lp_fold (fun n y (a : Int32 × Int32) => FX0_greetedBy_7 N n 1 (nI g) a.1 a.2 y (hC F π sc rd cd q)) (cnt (F 0) 1) (stGr (F 0) g) (fun a => rI a.1 (hC F π sc rd cd q)) (fun _ _ => True)
    (fun n a _ => by simp only [FX0_greetedBy_7, c_r0, c_r1, c_r2, c_r3, c_r4, c_r5, c_i6, c_i7, c_i8, c_i9, c_n0, c_n1, c_n2, c_o, c_o1, c_o2, c_o4, c_o6, c_o8, c_o10, c_o12, c_aF, c_aC, c_aT, c_aS, c_aG, c_aJ, I_e, V_e, cI_e, hI.ns.1, if_pos (Int32.le_refl _)])
    (fun n k a hk _ => ⟨by
      have h9 := nI_ge hk (lt31 (by omega))
      simp only [FX0_greetedBy_7, c_r0, c_r1, c_r2, c_r3, c_r4, c_r5, c_i6, c_i7, c_i8, c_i9, c_n0, c_n1, c_n2, c_o, c_o1, c_o2, c_o4, c_o6, c_o8, c_o10, c_o12, c_aF, c_aC, c_aT, c_aS, c_aG, c_aJ, I_e, V_e, cI_e]
      rw [hI.ns.1, if_neg h9, nI_1]
      simp only [tS_0 hI hk, tG_0 hI hg, c_end hI hk, c_fit hI hg, c_r0, c_r1, c_r2, c_r3, c_r4, c_r5, c_i6, c_i7, c_i8, c_i9, c_n0, c_n1, c_n2, c_o, c_o1, c_o2, c_o4, c_o6, c_o8, c_o10, c_o12, c_aF, c_aC, c_aT, c_aS, c_aG, c_aJ, I_e, V_e, cI_e, bl_0]
      unfold stGr
      by_cases h1 : sS (F 0) k 0 = sG (F 0) g 0
      · by_cases h2 : pFit (F 0) g (sEnd (F 0) k)
        · have hp : pGr (F 0) g k := ⟨h1, h2⟩
          rw [if_pos h1, if_neg (fun hh => hh h2)]
          by_cases h3 : a.1 = -1
          · rw [if_pos h3, if_pos ⟨hp, Or.inl h3⟩]
          · rw [if_neg h3]
            by_cases h4 : a.2 ≤ sEnd (F 0) k
            · rw [if_pos h4, if_neg (fun hh => hh.2.elim h3 (fun h5 => absurd h4 (Int32.not_le.mpr h5)))]
            · rw [if_neg h4, if_pos ⟨hp, Or.inr (Int32.not_le.mp h4)⟩]
        · rw [if_pos h1, if_pos h2, if_neg (fun hh => h2 hh.1.2)]
      · rw [if_neg h1, if_neg (fun hh => h1 hh.1.1)], trivial⟩)
    (cnt (F 0) 1) N 0 (-1, -1) (by omega) (by omega) trivial
def sGrs (v : Nat → Int32) : Int32 := fd (fun g a => if sGr v g = -1 then a else a + 1) 0 (cnt v 2) 0
theorem c_grs (hN : 13 ≤ N) (hI : Iv (F 0)) : FX0_greeters N 1 (hC F π sc rd cd q) = rI (sGrs (F 0)) (hC F π sc rd cd q) := by
  unfold FX0_greeters sGrs
  have hn := hI.ng.2
  exact lp_fold (fun n y a => FX0_greeters_4 N n 1 a y (hC F π sc rd cd q)) (cnt (F 0) 2) (fun g a => if sGr (F 0) g = -1 then a else a + 1) (fun a => rI a (hC F π sc rd cd q)) (fun _ _ => True)
    (fun n a _ => by simp only [FX0_greeters_4, c_r0, c_r1, c_r2, c_r3, c_r4, c_r5, c_i6, c_i7, c_i8, c_i9, c_n0, c_n1, c_n2, c_o, c_o1, c_o2, c_o4, c_o6, c_o8, c_o10, c_o12, c_aF, c_aC, c_aT, c_aS, c_aG, c_aJ, I_e, V_e, cI_e, hI.ng.1, if_pos (Int32.le_refl _)])
    (fun n k a hk _ => ⟨by
      have h9 := nI_ge hk (lt31 (by omega))
      simp only [FX0_greeters_4, c_r0, c_r1, c_r2, c_r3, c_r4, c_r5, c_i6, c_i7, c_i8, c_i9, c_n0, c_n1, c_n2, c_o, c_o1, c_o2, c_o4, c_o6, c_o8, c_o10, c_o12, c_aF, c_aC, c_aT, c_aS, c_aG, c_aJ, I_e, V_e, cI_e]
      rw [hI.ng.1, if_neg h9, nI_1]
      simp only [c_gr hN hI hk, c_r0, c_r1, c_r2, c_r3, c_r4, c_r5, c_i6, c_i7, c_i8, c_i9, c_n0, c_n1, c_n2, c_o, c_o1, c_o2, c_o4, c_o6, c_o8, c_o10, c_o12, c_aF, c_aC, c_aT, c_aS, c_aG, c_aJ, I_e, V_e, cI_e]
      by_cases h2 : sGr (F 0) k = -1 <;> simp [h2], trivial⟩)
    (cnt (F 0) 2) N 0 0 (by omega) (by omega) trivial
def sMask (v : Nat → Int32) (j : Int32) : Int32 := fd (fun s a => if hb (sS v s 4) j then a ||| ((1 : Int32) <<< (sS v s 0 &&& 31)) else a) 0 (cnt v 1) 0
theorem c_mask {j : Int32} (hN : 13 ≤ N) (hI : Iv (F 0)) : FX0_seenMask N 1 j (hC F π sc rd cd q) = rI (sMask (F 0) j) (hC F π sc rd cd q) := by
  unfold FX0_seenMask sMask
  have hn := hI.ns.2
  exact lp_fold (fun n y a => FX0_seenMask_4 N n 1 j a y (hC F π sc rd cd q)) (cnt (F 0) 1) (fun s a => if hb (sS (F 0) s 4) j then a ||| ((1 : Int32) <<< (sS (F 0) s 0 &&& 31)) else a) (fun a => rI a (hC F π sc rd cd q)) (fun _ _ => True)
    (fun n a _ => by simp only [FX0_seenMask_4, c_r0, c_r1, c_r2, c_r3, c_r4, c_r5, c_i6, c_i7, c_i8, c_i9, c_n0, c_n1, c_n2, c_o, c_o1, c_o2, c_o4, c_o6, c_o8, c_o10, c_o12, c_aF, c_aC, c_aT, c_aS, c_aG, c_aJ, I_e, V_e, cI_e, hI.ns.1, if_pos (Int32.le_refl _)])
    (fun n k a hk _ => ⟨by
      have h9 := nI_ge hk (lt31 (by omega))
      simp only [FX0_seenMask_4, c_r0, c_r1, c_r2, c_r3, c_r4, c_r5, c_i6, c_i7, c_i8, c_i9, c_n0, c_n1, c_n2, c_o, c_o1, c_o2, c_o4, c_o6, c_o8, c_o10, c_o12, c_aF, c_aC, c_aT, c_aS, c_aG, c_aJ, I_e, V_e, cI_e]
      rw [hI.ns.1, if_neg h9, nI_1]
      simp only [c_goes hI hk, tS_0 hI hk, c_r0, c_r1, c_r2, c_r3, c_r4, c_r5, c_i6, c_i7, c_i8, c_i9, c_n0, c_n1, c_n2, c_o, c_o1, c_o2, c_o4, c_o6, c_o8, c_o10, c_o12, c_aF, c_aC, c_aT, c_aS, c_aG, c_aJ, I_e, V_e, cI_e, bl_0]
      by_cases h2 : hb (sS (F 0) k 4) j
      · rw [if_neg (fun hh => hh h2), if_pos h2]
      · rw [if_pos h2, if_neg h2], trivial⟩)
    (cnt (F 0) 1) N 0 0 (by omega) (by omega) trivial
def sFrom (v : Nat → Int32) (j : Nat) : Int32 := fd (fun f a => if hb (sMask v (nI j)) (nI f) then a + sP v j f else a) 0 (cnt v 0) 0
theorem c_from {j : Nat} (hj : j < 3) (hN : 13 ≤ N) (hI : Iv (F 0)) : FX0_pointsFrom N 1 (nI j) (hC F π sc rd cd q) = rI (sFrom (F 0) j) (hC F π sc rd cd q) := by
  unfold FX0_pointsFrom
  simp only [c_mask hN hI, c_r0, c_r1, c_r2, c_r3, c_r4, c_r5, c_i6, c_i7, c_i8, c_i9, c_n0, c_n1, c_n2, c_o, c_o1, c_o2, c_o4, c_o6, c_o8, c_o10, c_o12, c_aF, c_aC, c_aT, c_aS, c_aG, c_aJ, I_e, V_e, cI_e]
  unfold sFrom
  have hn := hI.nf.2
  exact lp_fold (fun n y a => FX0_pointsFrom_11 N n 1 (nI j) (sMask (F 0) (nI j)) a y (hC F π sc rd cd q)) (cnt (F 0) 0) (fun f a => if hb (sMask (F 0) (nI j)) (nI f) then a + sP (F 0) j f else a) (fun a => rI a (hC F π sc rd cd q)) (fun _ _ => True)
    (fun n a _ => by simp only [FX0_pointsFrom_11, c_r0, c_r1, c_r2, c_r3, c_r4, c_r5, c_i6, c_i7, c_i8, c_i9, c_n0, c_n1, c_n2, c_o, c_o1, c_o2, c_o4, c_o6, c_o8, c_o10, c_o12, c_aF, c_aC, c_aT, c_aS, c_aG, c_aJ, I_e, V_e, cI_e, hI.nf.1, if_pos (Int32.le_refl _)])
    (fun n k a hk _ => ⟨by
      have h9 := nI_ge hk (lt31 (by omega))
      simp only [FX0_pointsFrom_11, c_r0, c_r1, c_r2, c_r3, c_r4, c_r5, c_i6, c_i7, c_i8, c_i9, c_n0, c_n1, c_n2, c_o, c_o1, c_o2, c_o4, c_o6, c_o8, c_o10, c_o12, c_aF, c_aC, c_aT, c_aS, c_aG, c_aJ, I_e, V_e, cI_e]
      rw [hI.nf.1, if_neg h9, nI_1]
      simp only [e_hb, c_r0, c_r1, c_r2, c_r3, c_r4, c_r5, c_i6, c_i7, c_i8, c_i9, c_n0, c_n1, c_n2, c_o, c_o1, c_o2, c_o4, c_o6, c_o8, c_o10, c_o12, c_aF, c_aC, c_aT, c_aS, c_aG, c_aJ, I_e, V_e, cI_e, bl_0, tJ_e hj (show k < 8 by omega)]
      by_cases h2 : hb (sMask (F 0) (nI j)) (nI k)
      · rw [if_neg (fun hh => hh h2), if_pos h2]
      · rw [if_pos h2, if_neg h2], trivial⟩)
    (cnt (F 0) 0) N 0 0 (by omega) (by omega) trivial
def bc (m : Int32) : Int32 := ((m &&& 1) + ((m >>> ((1 : Int32) &&& 31)) &&& 1)) + ((m >>> ((2 : Int32) &&& 31)) &&& 1)
def stPr (v : Nat → Int32) (f : Nat) (a : Int32 × Int32) : Int32 × Int32 := if 2 ≤ bc (sSeen v (nI f)) ∧ a.2 < sPts v f then (nI f, sPts v f) else a
def sPr (v : Nat → Int32) : Int32 := (fd (stPr v) 0 (cnt v 0) (-1, -1)).1
theorem bc_e : ∀ m : Nat, m < 8 → ∀ h : jm_H, FJ6_bitCount_0f7a4 (nI m) h = rI (bc (nI m)) h := by
  intro m hm h
  unfold FJ6_bitCount_0f7a4
  refine congrArg (fun z => rI z h) ?_
  revert m
  decide +kernel
theorem or8 {a b : Nat} (ha : a < 8) (hb : b < 8) : ∃ c : Nat, c < 8 ∧ nI a ||| nI b = nI c := by
  have : ∀ a : Nat, a < 8 → ∀ b : Nat, b < 8 → ∃ c : Nat, c < 8 ∧ nI a ||| nI b = nI c := by decide +kernel
  exact this a ha b hb
theorem sSeen_8 {v : Nat → Int32} (hI : Iv v) (f : Int32) : ∃ m : Nat, m < 8 ∧ sSeen v f = nI m := by
  unfold sSeen
  have := fd_inv (f := fun s a => if sS v s 0 = f then a ||| sS v s 4 else a) (fun _ a => ∃ m : Nat, m < 8 ∧ a = nI m) (cnt v 1) 0 0 ⟨0, by decide, rfl⟩ (fun i a _ h2 ⟨m, hm, ha⟩ => by
    show ∃ m' : Nat, m' < 8 ∧ (if sS v i 0 = f then a ||| sS v i 4 else a) = nI m'
    by_cases hc : sS v i 0 = f
    · rw [if_pos hc, ha, hI.go (show i < cnt v 1 by omega)]
      exact or8 hm (hI.go_lt (show i < cnt v 1 by omega))
    · rw [if_neg hc]; exact ⟨m, hm, ha⟩)
  exact this
theorem bc_s {v : Nat → Int32} (hI : Iv v) (f : Int32) (h : jm_H) : FJ6_bitCount_0f7a4 (sSeen v f) h = rI (bc (sSeen v f)) h := by
  obtain ⟨m, hm, hm2⟩ := sSeen_8 hI f
  rw [hm2]
  exact bc_e m hm h
theorem c_pr_s {n k : Nat} {a b : Int32} (hN : 13 ≤ N) (hI : Iv (F 0)) (hk : k < cnt (F 0) 0) : FX0_prize_6 N (n + 1) 1 a b (nI k) (hC F π sc rd cd q) = if bc (sSeen (F 0) (nI k)) < 2 then FX0_prize_6 N n 1 a b (nI (k + 1)) (hC F π sc rd cd q) else if sPts (F 0) k ≤ b then FX0_prize_6 N n 1 a b (nI (k + 1)) (hC F π sc rd cd q) else FX0_prize_6 N n 1 (nI k) (sPts (F 0) k) (nI (k + 1)) (hC F π sc rd cd q) := by
  have hn := hI.nf.2
  have h9 := nI_ge hk (lt31 (by omega))
  rw [FX0_prize_6]
  rw [c_r0, c_n0, hI.nf.1, if_neg h9, nI_1, c_o1, c_seen hN hI, I_e, bc_s hI, I_e, c_o1, c_pts (show k < 8 by omega) hN hI, I_e, c_o1, c_pts (show k < 8 by omega) hN hI, I_e]
theorem c_pr (hN : 13 ≤ N) (hI : Iv (F 0)) : FX0_prize N 1 (hC F π sc rd cd q) = rI (sPr (F 0)) (hC F π sc rd cd q) := by
  unfold FX0_prize sPr
  have hn := hI.nf.2
  exact lp_fold (fun n y (a : Int32 × Int32) => FX0_prize_6 N n 1 a.1 a.2 y (hC F π sc rd cd q)) (cnt (F 0) 0) (stPr (F 0)) (fun a => rI a.1 (hC F π sc rd cd q)) (fun _ _ => True)
    (fun n a _ => by simp only [FX0_prize_6, c_r0, c_r1, c_r2, c_r3, c_r4, c_r5, c_i6, c_i7, c_i8, c_i9, c_n0, c_n1, c_n2, c_o, c_o1, c_o2, c_o4, c_o6, c_o8, c_o10, c_o12, c_aF, c_aC, c_aT, c_aS, c_aG, c_aJ, I_e, V_e, cI_e, hI.nf.1, if_pos (Int32.le_refl _)])
    (fun n k a hk _ => ⟨by
      show FX0_prize_6 N (n + 1) 1 a.1 a.2 (nI k) (hC F π sc rd cd q) = _
      rw [c_pr_s hN hI hk]
      unfold stPr
      by_cases h1 : bc (sSeen (F 0) (nI k)) < 2
      · rw [if_pos h1, if_neg (fun hh => absurd h1 (Int32.not_lt.mpr hh.1))]
      · rw [if_neg h1]
        by_cases h2 : sPts (F 0) k ≤ a.2
        · rw [if_pos h2, if_neg (fun hh => absurd h2 (Int32.not_le.mpr hh.2))]
        · rw [if_neg h2, if_pos ⟨Int32.not_lt.mp h1, Int32.not_le.mp h2⟩], trivial⟩)
    (cnt (F 0) 0) N 0 (-1, -1) (by omega) (by omega) trivial
/-! numbers of a film, a showing, a screen, a guest, a juror -/
def sFilm (v : Nat → Int32) (f : Nat) (w : Nat) : Int32 := match w with
  | 0 => sF v f 0 | 1 => sF v f 1 | 2 => sWith v 0 (nI f) | 3 => sSts v (nI f) | 4 => sSeen v (nI f) | _ => sPts v f
theorem sw_e {x : Int32} {bs : List (Option jm_X)} {d b : Option jm_X} {i lo : Nat} (hx : x = nI (lo + i)) (hl : lo + bs.length < 2 ^ 31) (hb : bs[i]? = some b) : jf_sw x lo bs d = b := by
  rw [hx]; exact jf_sw_in bs lo i b hl hb
theorem sw_d {x : Int32} {bs : List (Option jm_X)} {d : Option jm_X} {lo k : Nat} (hx : x = nI k) (hk : k < 2 ^ 31) (hl : lo + bs.length < 2 ^ 31) (ho : k < lo ∨ lo + bs.length ≤ k) : jf_sw x lo bs d = d := by
  refine jf_sw_out bs lo (fun i hi he => ?_)
  rw [hx] at he
  have := (nI_eq hk (by omega)).mp he
  omega
theorem c_film {f w : Nat} (hN : 13 ≤ N) (hI : Iv (F 0)) (hf : f < cnt (F 0) 0) (hw : w < 6) : FX0_filmNumber N 1 (nI f) (nI w) (hC F π sc rd cd q) = rI (sFilm (F 0) f w) (hC F π sc rd cd q) := by
  have hn := hI.nf.2
  have e1 : (0 : Int32) = nI 0 := rfl
  unfold FX0_filmNumber
  match w, hw with
  | 0, _ => rw [sw_e (i := 0) (lo := 0) rfl (Nat.le_of_ble_eq_true rfl) rfl]; simp only [c_r0, c_r1, c_r2, c_r3, c_r4, c_r5, c_i6, c_i7, c_i8, c_i9, c_n0, c_n1, c_n2, c_o, c_o1, c_o2, c_o4, c_o6, c_o8, c_o10, c_o12, c_aF, c_aC, c_aT, c_aS, c_aG, c_aJ, I_e, V_e, cI_e, tF_0 hI hf]; rfl
  | 1, _ => rw [sw_e (i := 1) (lo := 0) rfl (Nat.le_of_ble_eq_true rfl) rfl]; simp only [c_r0, c_r1, c_r2, c_r3, c_r4, c_r5, c_i6, c_i7, c_i8, c_i9, c_n0, c_n1, c_n2, c_o, c_o1, c_o2, c_o4, c_o6, c_o8, c_o10, c_o12, c_aF, c_aC, c_aT, c_aS, c_aG, c_aJ, I_e, V_e, cI_e, tF_1 hI hf]; rfl
  | 2, _ => rw [sw_e (i := 2) (lo := 0) rfl (Nat.le_of_ble_eq_true rfl) rfl]; rw [c_o1, e1, c_with (by decide) hN hI]; rfl
  | 3, _ => rw [sw_e (i := 3) (lo := 0) rfl (Nat.le_of_ble_eq_true rfl) rfl]; rw [c_o1, c_sts hN hI]; rfl
  | 4, _ => rw [sw_e (i := 4) (lo := 0) rfl (Nat.le_of_ble_eq_true rfl) rfl]; rw [c_o1, c_seen hN hI]; rfl
  | 5, _ => rw [sw_d (k := 5) (lo := 0) rfl (by decide) (Nat.le_of_ble_eq_true rfl) (Or.inr (Nat.le_of_ble_eq_true rfl))]; rw [c_o1, c_pts (by omega) hN hI]; rfl
def sShow (v : Nat → Int32) (s : Nat) (w : Nat) : Int32 := match w with
  | 0 => sS v s 0 | 1 => sS v s 1 | 2 => sS v s 2 | 3 => sEnd v s | 4 => sS v s 3 | _ => sS v s 4
theorem c_show {s w : Nat} (hI : Iv (F 0)) (hs : s < cnt (F 0) 1) (hw : w < 6) : FX0_showingNumber 1 (nI s) (nI w) (hC F π sc rd cd q) = rI (sShow (F 0) s w) (hC F π sc rd cd q) := by
  unfold FX0_showingNumber
  match w, hw with
  | 0, _ => rw [sw_e (i := 0) (lo := 0) rfl (Nat.le_of_ble_eq_true rfl) rfl]; simp only [c_r0, c_r1, c_r2, c_r3, c_r4, c_r5, c_i6, c_i7, c_i8, c_i9, c_n0, c_n1, c_n2, c_o, c_o1, c_o2, c_o4, c_o6, c_o8, c_o10, c_o12, c_aF, c_aC, c_aT, c_aS, c_aG, c_aJ, I_e, V_e, cI_e, tS_0 hI hs]; rfl
  | 1, _ => rw [sw_e (i := 1) (lo := 0) rfl (Nat.le_of_ble_eq_true rfl) rfl]; simp only [c_r0, c_r1, c_r2, c_r3, c_r4, c_r5, c_i6, c_i7, c_i8, c_i9, c_n0, c_n1, c_n2, c_o, c_o1, c_o2, c_o4, c_o6, c_o8, c_o10, c_o12, c_aF, c_aC, c_aT, c_aS, c_aG, c_aJ, I_e, V_e, cI_e, tS_1 hI hs]; rfl
  | 2, _ => rw [sw_e (i := 2) (lo := 0) rfl (Nat.le_of_ble_eq_true rfl) rfl]; simp only [c_r0, c_r1, c_r2, c_r3, c_r4, c_r5, c_i6, c_i7, c_i8, c_i9, c_n0, c_n1, c_n2, c_o, c_o1, c_o2, c_o4, c_o6, c_o8, c_o10, c_o12, c_aF, c_aC, c_aT, c_aS, c_aG, c_aJ, I_e, V_e, cI_e, tS_2 hI hs]; rfl
  | 3, _ => rw [sw_e (i := 3) (lo := 0) rfl (Nat.le_of_ble_eq_true rfl) rfl]; rw [c_o1, c_end hI hs]; rfl
  | 4, _ => rw [sw_e (i := 4) (lo := 0) rfl (Nat.le_of_ble_eq_true rfl) rfl]; simp only [c_r0, c_r1, c_r2, c_r3, c_r4, c_r5, c_i6, c_i7, c_i8, c_i9, c_n0, c_n1, c_n2, c_o, c_o1, c_o2, c_o4, c_o6, c_o8, c_o10, c_o12, c_aF, c_aC, c_aT, c_aS, c_aG, c_aJ, I_e, V_e, cI_e, tS_3 hI hs]; rfl
  | 5, _ => rw [sw_d (k := 5) (lo := 0) rfl (by decide) (Nat.le_of_ble_eq_true rfl) (Or.inr (Nat.le_of_ble_eq_true rfl))]; simp only [c_r0, c_r1, c_r2, c_r3, c_r4, c_r5, c_i6, c_i7, c_i8, c_i9, c_n0, c_n1, c_n2, c_o, c_o1, c_o2, c_o4, c_o6, c_o8, c_o10, c_o12, c_aF, c_aC, c_aT, c_aS, c_aG, c_aJ, I_e, V_e, cI_e, tS_4 hI hs]; rfl
def sGst (v : Nat → Int32) (g : Nat) (w : Nat) : Int32 := match w with
  | 0 => sG v g 0 | 1 => sG v g 1 | 2 => sG v g 2 | _ => sGr v g
theorem c_gst {g w : Nat} (hN : 13 ≤ N) (hI : Iv (F 0)) (hg : g < cnt (F 0) 2) (hw : w < 4) : FX0_guestNumber N 1 (nI g) (nI w) (hC F π sc rd cd q) = rI (sGst (F 0) g w) (hC F π sc rd cd q) := by
  unfold FX0_guestNumber
  match w, hw with
  | 0, _ => rw [sw_e (i := 0) (lo := 0) rfl (Nat.le_of_ble_eq_true rfl) rfl]; simp only [c_r0, c_r1, c_r2, c_r3, c_r4, c_r5, c_i6, c_i7, c_i8, c_i9, c_n0, c_n1, c_n2, c_o, c_o1, c_o2, c_o4, c_o6, c_o8, c_o10, c_o12, c_aF, c_aC, c_aT, c_aS, c_aG, c_aJ, I_e, V_e, cI_e, tG_0 hI hg]; rfl
  | 1, _ => rw [sw_e (i := 1) (lo := 0) rfl (Nat.le_of_ble_eq_true rfl) rfl]; simp only [c_r0, c_r1, c_r2, c_r3, c_r4, c_r5, c_i6, c_i7, c_i8, c_i9, c_n0, c_n1, c_n2, c_o, c_o1, c_o2, c_o4, c_o6, c_o8, c_o10, c_o12, c_aF, c_aC, c_aT, c_aS, c_aG, c_aJ, I_e, V_e, cI_e, tG_1 hI hg]; rfl
  | 2, _ => rw [sw_e (i := 2) (lo := 0) rfl (Nat.le_of_ble_eq_true rfl) rfl]; simp only [c_r0, c_r1, c_r2, c_r3, c_r4, c_r5, c_i6, c_i7, c_i8, c_i9, c_n0, c_n1, c_n2, c_o, c_o1, c_o2, c_o4, c_o6, c_o8, c_o10, c_o12, c_aF, c_aC, c_aT, c_aS, c_aG, c_aJ, I_e, V_e, cI_e, tG_2 hI hg]; rfl
  | 3, _ => rw [sw_d (k := 3) (lo := 0) rfl (by decide) (Nat.le_of_ble_eq_true rfl) (Or.inr (Nat.le_of_ble_eq_true rfl))]; rw [c_o1, c_gr hN hI hg]; rfl
def sJur (v : Nat → Int32) (j : Nat) (w : Nat) : Int32 := match w with
  | 0 => sVis v (nI j) | 1 => sMask v (nI j) | _ => sFrom v j
theorem c_jur {j w : Nat} (hN : 13 ≤ N) (hI : Iv (F 0)) (hj : j < 3) (hw : w < 3) : FX0_jurorNumber N 1 (nI j) (nI w) (hC F π sc rd cd q) = rI (sJur (F 0) j w) (hC F π sc rd cd q) := by
  unfold FX0_jurorNumber
  match w, hw with
  | 0, _ => rw [if_pos (by decide), c_o1, c_vis hN hI]; rfl
  | 1, _ => rw [if_neg (by decide), if_pos (by decide), c_o1, c_mask hN hI]; rfl
  | 2, _ => rw [if_neg (by decide), if_neg (by decide), c_o1, c_from hj hN hI]; rfl
theorem c_stp {w : Nat} (hw : w < 3) : FX0_stopNumber 1 (nI w) (hC F π sc rd cd q) = rI (F 0 (129 + w)) (hC F π sc rd cd q) := by
  unfold FX0_stopNumber
  match w, hw with
  | 0, _ => rw [if_pos (by decide), c_i7]
  | 1, _ => rw [if_neg (by decide), if_pos (by decide), c_i8]
  | 2, _ => rw [if_neg (by decide), if_neg (by decide), c_i9]
end CL3


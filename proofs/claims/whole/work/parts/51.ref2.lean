/-! THE REFERENCE: the reasons, and its looks -/
def w3 (rs : Nat → Int32) (a b c : Int32) : Nat → Int32 := fun i => match i with | 4 => a | 5 => b | 6 => c | _ => rs i
theorem w3_w3 {rs : Nat → Int32} {a b c a' b' c' : Int32} : w3 (w3 rs a b c) a' b' c' = w3 rs a' b' c' := by
  funext i
  match i with
  | 0 => rfl | 1 => rfl | 2 => rfl | 3 => rfl | 4 => rfl | 5 => rfl | 6 => rfl | n + 7 => rfl
theorem lp_find1 (L : Nat → Int32 → Option jm_X) (B : Nat) (P : Nat → Prop) [DecidablePred P] (g : Nat → Option jm_X) (e : Option jm_X)
    (h0 : ∀ n, L (n + 1) (nI B) = e) (hs : ∀ n k, k < B → 0 < n → L (n + 1) (nI k) = if P k then g k else L n (nI (k + 1))) :
    ∀ (d n k : Nat), k + d = B → d < n → L n (nI k) = ffst P g e k d
  | 0, n, k, hk, hn => by
    obtain ⟨m, rfl⟩ : ∃ m, n = m + 1 := ⟨n - 1, by omega⟩
    have : k = B := by omega
    subst this
    exact h0 m
  | d + 1, n, k, hk, hn => by
    obtain ⟨m, rfl⟩ : ∃ m, n = m + 1 := ⟨n - 1, by omega⟩
    rw [hs m k (by omega) (by omega), lp_find1 L B P g e h0 hs d m (k + 1) (by omega) (by omega)]
    rfl
/-- the reason, what stands in the way, its reel -/
def sLk (v : Nat → Int32) (f : Nat) (c a p w : Int32) : Int32 × Int32 × Int32 :=
  if a + sLen v f + p ≤ 2000 then (if sTs v c a (a + sLen v f + p) w = -1 then (if sTr v f c a p w = -1 then (0, -1, -1) else (4, sTr v f c a p w, sCl v f a p (sTr v f c a p w).toNatClampNeg)) else (3, sTs v c a (a + sLen v f + p) w, -1)) else (2, -1, -1)
theorem sLk_1 {v : Nat → Int32} {f : Nat} {c a p w : Int32} : (sLk v f c a p w).1 = sRb v f c a p w := by
  unfold sLk sRb
  split
  · split
    · split <;> rfl
    · rfl
  · rfl
def sRs (v : Nat → Int32) (f : Nat) (c a p : Int32) : Int32 × Int32 × Int32 := if v 1 < 12 then sLk v f c a p (-1) else (1, -1, -1)
theorem sRs_1 {v : Nat → Int32} {f : Nat} {c a p : Int32} : (sRs v f c a p).1 = sRf v f c a p := by
  unfold sRs sRf
  split
  · exact sLk_1
  · rfl
section RG
variable {P : jm_H} {v p k t l rs : Nat → Int32} {hs : Int64} {q : jm_H} {N : Nat}
theorem r_finds (hP : P.length = 108) {a b c : Int32} : FX4_finds 108 a b c (hR P v p k t l rs hs q) = rV (hR P v p k t l (w3 rs a b c) hs q) := by
  unfold FX4_finds
  rw [r_p4 hP, r_p5 hP, r_p6 hP]
  rfl
theorem r_lk2x (hP : P.length = 108) {f c a pp w x : Int32} {n : Nat} (h4 : rs 4 ≠ 0) : FX4_looks_116 N (n + 1) 108 f c a pp w x (hR P v p k t l rs hs q) = rV (hR P v p k t l rs hs q) := by
  rw [FX4_looks_116, r_now hP, r_n1 hP, r_i4 hP, if_neg h4]
  split <;> rfl
theorem r_lk2 (hP : P.length = 108) {c a pp w : Int32} {f : Nat} (hN : 13 ≤ N) (hI : Iv v) (hf : f < cnt v 0) (h4 : rs 4 = 0) :
    FX4_looks_116 N N 108 (nI f) c a pp w 0 (hR P v p k t l rs hs q) = if sTr v f c a pp w = -1 then rV (hR P v p k t l rs hs q) else rV (hR P v p k t l (w3 rs 4 (sTr v f c a pp w) (sCl v f a pp (sTr v f c a pp w).toNatClampNeg)) hs q) := by
  have hn := hI.ns.2
  have := lp_find1 (fun n x => FX4_looks_116 N n 108 (nI f) c a pp w x (hR P v p k t l rs hs q)) (cnt v 1) (pRl v f c a pp w) (fun o => rV (hR P v p k t l (w3 rs 4 (nI o) (sCl v f a pp o)) hs q)) (rV (hR P v p k t l rs hs q))
    (fun n => by
      show FX4_looks_116 N (n + 1) 108 (nI f) c a pp w (nI (cnt v 1)) (hR P v p k t l rs hs q) = _
      rw [FX4_looks_116, r_now hP, r_n1 hP, hI.ns.1, if_pos (Int32.le_refl _)])
    (fun n x hk hn0 => by
      have h9 := nI_ge hk (lt31 (by omega))
      obtain ⟨m, rfl⟩ : ∃ m, n = m + 1 := ⟨n - 1, by omega⟩
      show FX4_looks_116 N (m + 1 + 1) 108 (nI f) c a pp w (nI x) (hR P v p k t l rs hs q) = _
      rw [FX4_looks_116, r_now hP, r_n1 hP, hI.ns.1, if_neg h9, r_i4 hP, if_pos h4, nI_1]
      simp only [r_o hP, r_of0 hP (show x < 12 by omega), r_of1 hP (show x < 12 by omega), I_e, r_cl hP hN hI hf hk, r_finds hP, V_e]
      by_cases h1 : nI x = w
      · rw [if_pos h1, if_neg (fun hh => hh.1 h1)]
      · rw [if_neg h1]
        by_cases h2 : sS v x 1 = c
        · rw [if_pos h2, if_neg (fun hh => hh.2.2.1 h2)]
        · rw [if_neg h2]
          by_cases h3 : sS v x 0 = nI f
          · rw [if_pos h3]
            by_cases h5 : sCl v f a pp x = -1
            · rw [if_pos h5, if_neg (fun hh => hh.2.2.2 h5)]
            · rw [if_neg h5, if_pos ⟨h1, h3, h2, h5⟩]
              exact r_lk2x hP (show (4 : Int32) ≠ 0 by decide)
          · rw [if_neg h3, if_neg (fun hh => h3 hh.2.1)])
    (cnt v 1) N 0 (by omega) (by omega)
  rw [show (0 : Int32) = nI 0 from rfl]
  refine this.trans ?_
  unfold sTr
  rcases fi_cases (pRl v f c a pp w) (cnt v 1) 0 with ⟨h1, h2⟩ | ⟨i, h1, h2, h3, h5, h6⟩
  · rw [if_pos h1, ffst_none _ _ h2]
  · rw [h5, if_neg (nI_m1 (by omega)), nI_clamp (by omega)]
    have := ffst_skip (P := pRl v f c a pp w) (g := fun o => rV (hR P v p k t l (w3 rs 4 (nI o) (sCl v f a pp o)) hs q)) (e := rV (hR P v p k t l rs hs q)) (B := cnt v 1) i 0 i (by omega) (fun t h7 h8 _ => h6 t h7 h8)
    rw [Nat.sub_zero] at this
    rw [this]
    obtain ⟨d, hd⟩ : ∃ d, cnt v 1 - i = d + 1 := ⟨cnt v 1 - i - 1, by omega⟩
    rw [hd]
    exact if_pos h3
theorem r_lk1x (hP : P.length = 108) {f c a pp w e x : Int32} {n : Nat} (hN : 0 < N) (h4 : rs 4 ≠ 0) : FX4_looks_35 N (n + 1) 108 f c a pp w e x (hR P v p k t l rs hs q) = rV (hR P v p k t l rs hs q) := by
  obtain ⟨m, rfl⟩ : ∃ m, N = m + 1 := ⟨N - 1, by omega⟩
  rw [FX4_looks_35, r_now hP, r_n1 hP, r_i4 hP, if_neg h4, r_lk2x hP h4]
  split <;> rfl
theorem r_lk1 (hP : P.length = 108) {c a pp w e : Int32} {f : Nat} (hN : 13 ≤ N) (hI : Iv v) (hf : f < cnt v 0) (h4 : rs 4 = 0) :
    FX4_looks_35 N N 108 (nI f) c a pp w e 0 (hR P v p k t l rs hs q) = if sTs v c a e w = -1 then (if sTr v f c a pp w = -1 then rV (hR P v p k t l rs hs q) else rV (hR P v p k t l (w3 rs 4 (sTr v f c a pp w) (sCl v f a pp (sTr v f c a pp w).toNatClampNeg)) hs q)) else rV (hR P v p k t l (w3 rs 3 (sTs v c a e w) (-1)) hs q) := by
  have hn := hI.ns.2
  have := lp_find1 (fun n x => FX4_looks_35 N n 108 (nI f) c a pp w e x (hR P v p k t l rs hs q)) (cnt v 1) (pScr v c a e w) (fun o => rV (hR P v p k t l (w3 rs 3 (nI o) (-1)) hs q)) (if sTr v f c a pp w = -1 then rV (hR P v p k t l rs hs q) else rV (hR P v p k t l (w3 rs 4 (sTr v f c a pp w) (sCl v f a pp (sTr v f c a pp w).toNatClampNeg)) hs q))
    (fun n => by
      show FX4_looks_35 N (n + 1) 108 (nI f) c a pp w e (nI (cnt v 1)) (hR P v p k t l rs hs q) = _
      rw [FX4_looks_35, r_now hP, r_n1 hP, hI.ns.1, if_pos (Int32.le_refl _), r_lk2 hP hN hI hf h4])
    (fun n x hk hn0 => by
      have h9 := nI_ge hk (lt31 (by omega))
      obtain ⟨m, rfl⟩ : ∃ m, n = m + 1 := ⟨n - 1, by omega⟩
      show FX4_looks_35 N (m + 1 + 1) 108 (nI f) c a pp w e (nI x) (hR P v p k t l rs hs q) = _
      rw [FX4_looks_35, r_now hP, r_n1 hP, hI.ns.1, if_neg h9, r_i4 hP, if_pos h4, nI_1]
      simp only [r_o hP, r_of1 hP (show x < 12 by omega), r_of2 hP (show x < 12 by omega), r_end hP hI hk, r_now hP, r_n4 hP, I_e, e_near4, bl_0, r_finds hP, V_e]
      by_cases h1 : nI x = w
      · rw [if_pos h1, if_neg (fun hh => hh.1 h1)]
      · rw [if_neg h1]
        by_cases h2 : sS v x 1 = c
        · rw [if_pos h2]
          by_cases h3 : near a e (sS v x 2) (sEnd v x) (v 4)
          · rw [if_neg (fun hh => hh h3), if_pos ⟨h1, h2, h3⟩]
            exact r_lk1x hP (by omega) (show (3 : Int32) ≠ 0 by decide)
          · rw [if_pos h3, if_neg (fun hh => h3 hh.2.2)]
        · rw [if_neg h2, if_neg (fun hh => h2 hh.2.1)])
    (cnt v 1) N 0 (by omega) (by omega)
  rw [show (0 : Int32) = nI 0 from rfl]
  refine this.trans ?_
  unfold sTs
  rcases fi_cases (pScr v c a e w) (cnt v 1) 0 with ⟨h1, h2⟩ | ⟨i, h1, h2, h3, h5, h6⟩
  · rw [if_pos h1, ffst_none _ _ h2]
  · rw [h5, if_neg (nI_m1 (by omega))]
    have := ffst_map (P := pScr v c a e w) nI (-1) (fun z => rV (hR P v p k t l (w3 rs 3 z (-1)) hs q)) (cnt v 1) 0
    have h8 := ffst_skip (P := pScr v c a e w) (g := fun o => rV (hR P v p k t l (w3 rs 3 (nI o) (-1)) hs q)) (e := (if sTr v f c a pp w = -1 then rV (hR P v p k t l rs hs q) else rV (hR P v p k t l (w3 rs 4 (sTr v f c a pp w) (sCl v f a pp (sTr v f c a pp w).toNatClampNeg)) hs q))) (B := cnt v 1) i 0 i (by omega) (fun t h7 h8 _ => h6 t h7 h8)
    rw [Nat.sub_zero] at h8
    rw [h8]
    obtain ⟨d, hd⟩ : ∃ d, cnt v 1 - i = d + 1 := ⟨cnt v 1 - i - 1, by omega⟩
    rw [hd]
    exact if_pos h3
theorem r_looks (hP : P.length = 108) {c a pp w : Int32} {f : Nat} (hN : 13 ≤ N) (hI : Iv v) (hf : f < cnt v 0) :
    FX4_looks N 108 (nI f) c a pp w (hR P v p k t l rs hs q) = rV (hR P v p k t l (w3 rs (sLk v f c a pp w).1 (sLk v f c a pp w).2.1 (sLk v f c a pp w).2.2) hs q) := by
  have h8 : f < 8 := by have := hI.nf.2; omega
  unfold FX4_looks sLk
  simp only [r_o hP, r_ends hP h8, I_e, r_finds hP, V_e, w3_w3]
  by_cases h1 : a + sLen v f + pp ≤ 2000
  · rw [if_pos h1, if_pos h1, r_lk1 hP hN hI hf rfl, w3_w3, w3_w3]
    by_cases h2 : sTs v c a (a + sLen v f + pp) w = -1
    · rw [if_pos h2, if_pos h2]
      by_cases h3 : sTr v f c a pp w = -1
      · rw [if_pos h3, if_pos h3]
      · rw [if_neg h3, if_neg h3]
    · rw [if_neg h2, if_neg h2]
  · rw [if_neg h1, if_neg h1]
    obtain ⟨m, rfl⟩ : ∃ m, N = m + 1 := ⟨N - 1, by omega⟩
    exact r_lk1x hP (by omega) (show (2 : Int32) ≠ 0 by decide)
theorem r_reason (hP : P.length = 108) {c a pp : Int32} {f : Nat} (hN : 13 ≤ N) (hI : Iv v) (hf : f < cnt v 0) :
    FX4_reason N 108 (nI f) c a pp (hR P v p k t l rs hs q) = rI (sRf v f c a pp) (hR P v p k t l (w3 rs (sRs v f c a pp).1 (sRs v f c a pp).2.1 (sRs v f c a pp).2.2) hs q) := by
  unfold FX4_reason
  rw [← sRs_1]
  simp only [r_o hP, r_looks hP hN hI hf, V_e, r_now hP, r_n1 hP, r_finds hP, w3_w3, r_i4 hP]
  unfold sRs
  by_cases h1 : v 1 < 12
  · have : ¬ v 1 = 12 := fun h => by rw [h] at h1; exact absurd h1 (by decide)
    rw [if_neg this, if_pos h1]
    rfl
  · have : v 1 = 12 := by
      have h2 := hI.ns
      rw [h2.1] at h1 ⊢
      have h3 : ¬ cnt v 1 < 12 := fun h => h1 (nI_lt h (by decide))
      rw [show cnt v 1 = 12 by omega]
      rfl
    rw [if_pos this, if_neg h1]
    rfl
end RG

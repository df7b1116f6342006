/-! THE REFERENCE, its looks -/
theorem fd_0 {p : Nat → Prop} [DecidablePred p] : ∀ (d k : Nat), fd (fun o (a : Int32) => if p o then 0 else a) k d 0 = 0
  | 0, _ => rfl
  | d + 1, k => by
    show fd _ (k + 1) d (if p k then 0 else 0) = 0
    rw [ite_self]
    exact fd_0 d (k + 1)
theorem fd_dn {p : Nat → Prop} [DecidablePred p] : ∀ (d k : Nat), fd (fun o (a : Int32) => if p o then 0 else a) k d 1 = ffst p (fun _ => 0) 1 k d
  | 0, _ => rfl
  | d + 1, k => by
    show fd _ (k + 1) d (if p k then 0 else 1) = if p k then 0 else ffst p (fun _ => 0) 1 (k + 1) d
    by_cases h : p k
    · rw [if_pos h, if_pos h]; exact fd_0 d (k + 1)
    · rw [if_neg h, if_neg h]; exact fd_dn d (k + 1)
theorem z0 (r : Option jm_X) : jf_z 0 r = r := rfl
theorem z1 (r : Option jm_X) : jf_z 1 r = r := rfl
theorem or0 (x : Int32) : x ||| 0 = x := Int32.or_zero
abbrev sHas (v : Nat → Int32) (j f : Int32) : Prop := ¬ ∀ s, s < cnt v 1 → ¬ (sS v s 0 = f ∧ hb (sS v s 4) j)
section RH
variable {P : jm_H} {v p k t l rs : Nat → Int32} {hs : Int64} {q : jm_H} {N : Nat}
theorem r_can (hP : P.length = 108) {j : Int32} {s : Nat} (hN : 13 ≤ N) (hI : Iv v) (hs' : s < cnt v 1) : FX4_canGo N 108 j (nI s) (hR P v p k t l rs hs q) = rI (sGo v j s) (hR P v p k t l rs hs q) := by
  have hn := hI.ns.2
  unfold FX4_canGo sGo
  rw [← fd_dn]
  exact lp_fold (fun n x a => FX4_canGo_5 N n 108 j (nI s) a x (hR P v p k t l rs hs q)) (cnt v 1) (fun o a => if pGo v j s o then 0 else a) (fun a => rI a (hR P v p k t l rs hs q)) (fun _ a => a = 0 ∨ a = 1)
    (fun n a ha => by
      show FX4_canGo_5 N (n + 1) 108 j (nI s) a (nI (cnt v 1)) (hR P v p k t l rs hs q) = _
      rw [FX4_canGo_5, r_now hP, r_n1 hP, hI.ns.1, if_pos (Int32.le_refl _)]
      rcases ha with rfl | rfl <;> rfl)
    (fun n x a hk ha => ⟨by
      have h9 := nI_ge hk (lt31 (by omega))
      have he : (nI x = nI s) = (x = s) := propext (nI_eq (lt31 (by omega)) (lt31 (by omega)))
      show FX4_canGo_5 N (n + 1) 108 j (nI s) a (nI x) (hR P v p k t l rs hs q) = _
      rw [FX4_canGo_5, r_now hP, r_n1 hP, hI.ns.1, if_neg h9, nI_1]
      simp only [r_o hP, r_goes hP (show x < 12 by omega), r_of2 hP (show x < 12 by omega), r_of2 hP (show s < 12 by omega), r_end hP hI hk, r_end hP hI hs', r_now hP, r_n6 hP, I_e, e_near4, bl_0, he]
      rcases ha with rfl | rfl
      · rw [ite_self]
        simp
      · by_cases h1 : x = s
        · rw [if_pos h1, if_neg (by decide), if_neg (fun hh => hh.1 h1)]
        · rw [if_neg h1]
          by_cases h2 : hb (sS v x 4) j
          · rw [if_neg (fun hh => hh h2), if_neg (by decide)]
            by_cases h3 : near (sS v s 2) (sEnd v s) (sS v x 2) (sEnd v x) (v 6)
            · rw [if_neg (fun hh => hh h3), if_pos ⟨h1, h2, h3⟩]
            · rw [if_pos h3, if_neg (fun hh => h3 hh.2.2)]
          · rw [if_pos h2, if_neg (by decide), if_neg (fun hh => h2 hh.2.1)], by
      show (if pGo v j s x then (0 : Int32) else a) = 0 ∨ (if pGo v j s x then (0 : Int32) else a) = 1
      split
      · exact Or.inl rfl
      · exact ha⟩)
    (cnt v 1) N 0 1 (by omega) (by omega) (Or.inr rfl)
theorem r_going (hP : P.length = 108) {j : Int32} (hN : 13 ≤ N) (hI : Iv v) : FX4_going N 108 j (hR P v p k t l rs hs q) = rI (sVis v j) (hR P v p k t l rs hs q) := by
  have hn := hI.ns.2
  unfold FX4_going sVis
  exact lp_fold (fun n x a => FX4_going_4 N n 108 j a x (hR P v p k t l rs hs q)) (cnt v 1) (fun s a => if hb (sS v s 4) j then a + 1 else a) (fun a => rI a (hR P v p k t l rs hs q)) (fun _ _ => True)
    (fun n a _ => by
      show FX4_going_4 N (n + 1) 108 j a (nI (cnt v 1)) (hR P v p k t l rs hs q) = _
      rw [FX4_going_4, r_now hP, r_n1 hP, hI.ns.1, if_pos (Int32.le_refl _)])
    (fun n x a hk _ => ⟨by
      have h9 := nI_ge hk (lt31 (by omega))
      show FX4_going_4 N (n + 1) 108 j a (nI x) (hR P v p k t l rs hs q) = _
      rw [FX4_going_4, r_now hP, r_n1 hP, hI.ns.1, if_neg h9, nI_1]
      simp only [r_o hP, r_goes hP (show x < 12 by omega), I_e, bl_0, add0]
      by_cases h2 : hb (sS v x 4) j
      · rw [if_neg (fun hh => hh h2), if_pos h2]
      · rw [if_pos h2, if_neg h2], trivial⟩)
    (cnt v 1) N 0 0 (by omega) (by omega) trivial
theorem r_has (hP : P.length = 108) {j f : Int32} (hN : 13 ≤ N) (hI : Iv v) : FX4_hasSeen N 108 j f (hR P v p k t l rs hs q) = rI (bl (sHas v j f)) (hR P v p k t l rs hs q) := by
  have hn := hI.ns.2
  have e := fd_any (p := fun s => sS v s 0 = f ∧ hb (sS v s 4) j) (cnt v 1)
  unfold FX4_hasSeen
  refine Eq.trans ?_ (congrArg (fun z => rI z (hR P v p k t l rs hs q)) e)
  exact lp_fold (fun n x a => FX4_hasSeen_5 N n 108 j f a x (hR P v p k t l rs hs q)) (cnt v 1) (fun s (a : Int32) => if a = 0 then (if sS v s 0 = f ∧ hb (sS v s 4) j then 1 else 0) else 1) (fun a => rI a (hR P v p k t l rs hs q)) (fun _ a => a = 0 ∨ a = 1)
    (fun n a ha => by
      show FX4_hasSeen_5 N (n + 1) 108 j f a (nI (cnt v 1)) (hR P v p k t l rs hs q) = _
      rw [FX4_hasSeen_5, r_now hP, r_n1 hP, hI.ns.1, if_pos (Int32.le_refl _)]
      rcases ha with rfl | rfl <;> rfl)
    (fun n x a hk ha => ⟨by
      have h9 := nI_ge hk (lt31 (by omega))
      show FX4_hasSeen_5 N (n + 1) 108 j f a (nI x) (hR P v p k t l rs hs q) = _
      rw [FX4_hasSeen_5, r_now hP, r_n1 hP, hI.ns.1, if_neg h9, nI_1]
      simp only [r_o hP, r_goes hP (show x < 12 by omega), r_of0 hP (show x < 12 by omega), I_e, bl_0]
      by_cases h1 : a = 0
      · rw [if_pos h1, if_pos h1]
        by_cases h2 : sS v x 0 = f
        · rw [if_pos h2]
          by_cases h3 : hb (sS v x 4) j
          · rw [if_neg (fun hh => hh h3), if_pos ⟨h2, h3⟩]
          · rw [if_pos h3, if_neg (fun hh => h3 hh.2)]
        · rw [if_neg h2, if_neg (fun hh => h2 hh.1)]
      · rw [if_neg h1, if_neg h1], by
      show (if a = 0 then (if sS v x 0 = f ∧ hb (sS v x 4) j then (1 : Int32) else 0) else 1) = 0 ∨ (if a = 0 then (if sS v x 0 = f ∧ hb (sS v x 4) j then (1 : Int32) else 0) else 1) = 1
      split
      · split
        · exact Or.inr rfl
        · exact Or.inl rfl
      · exact Or.inr rfl⟩)
    (cnt v 1) N 0 0 (by omega) (by omega) (Or.inl rfl)
theorem r_shw (hP : P.length = 108) {f : Int32} (hN : 13 ≤ N) (hI : Iv v) : FX4_showings N 108 f (hR P v p k t l rs hs q) = rI (sWith v 0 f) (hR P v p k t l rs hs q) := by
  have hn := hI.ns.2
  unfold FX4_showings sWith
  exact lp_fold (fun n x a => FX4_showings_4 N n 108 f a x (hR P v p k t l rs hs q)) (cnt v 1) (fun s a => if sS v s 0 = f then a + 1 else a) (fun a => rI a (hR P v p k t l rs hs q)) (fun _ _ => True)
    (fun n a _ => by
      show FX4_showings_4 N (n + 1) 108 f a (nI (cnt v 1)) (hR P v p k t l rs hs q) = _
      rw [FX4_showings_4, r_now hP, r_n1 hP, hI.ns.1, if_pos (Int32.le_refl _)])
    (fun n x a hk _ => ⟨by
      have h9 := nI_ge hk (lt31 (by omega))
      show FX4_showings_4 N (n + 1) 108 f a (nI x) (hR P v p k t l rs hs q) = _
      rw [FX4_showings_4, r_now hP, r_n1 hP, hI.ns.1, if_neg h9, nI_1]
      simp only [r_o hP, r_of0 hP (show x < 12 by omega), I_e, add0]
      by_cases h2 : sS v x 0 = f
      · rw [if_pos h2, if_pos h2]
      · rw [if_neg h2, if_neg h2], trivial⟩)
    (cnt v 1) N 0 0 (by omega) (by omega) trivial
theorem r_ons (hP : P.length = 108) {f : Int32} (hN : 13 ≤ N) (hI : Iv v) : FX4_onScreen N 108 f (hR P v p k t l rs hs q) = rI (sWith v 1 f) (hR P v p k t l rs hs q) := by
  have hn := hI.ns.2
  unfold FX4_onScreen sWith
  exact lp_fold (fun n x a => FX4_onScreen_4 N n 108 f a x (hR P v p k t l rs hs q)) (cnt v 1) (fun s a => if sS v s 1 = f then a + 1 else a) (fun a => rI a (hR P v p k t l rs hs q)) (fun _ _ => True)
    (fun n a _ => by
      show FX4_onScreen_4 N (n + 1) 108 f a (nI (cnt v 1)) (hR P v p k t l rs hs q) = _
      rw [FX4_onScreen_4, r_now hP, r_n1 hP, hI.ns.1, if_pos (Int32.le_refl _)])
    (fun n x a hk _ => ⟨by
      have h9 := nI_ge hk (lt31 (by omega))
      show FX4_onScreen_4 N (n + 1) 108 f a (nI x) (hR P v p k t l rs hs q) = _
      rw [FX4_onScreen_4, r_now hP, r_n1 hP, hI.ns.1, if_neg h9, nI_1]
      simp only [r_o hP, r_of1 hP (show x < 12 by omega), I_e, add0]
      by_cases h2 : sS v x 1 = f
      · rw [if_pos h2, if_pos h2]
      · rw [if_neg h2, if_neg h2], trivial⟩)
    (cnt v 1) N 0 0 (by omega) (by omega) trivial
theorem r_seat (hP : P.length = 108) (hI : Iv v) {x : Nat} (hx : x < cnt v 1) {g : Int32 → Option jm_X} : jf_ldI (hR P v p k t l rs hs q) 109 (7 + sS v x 1) g = g (v (7 + sco v x)) := by
  rw [hI.so hx, show (7 : Int32) + nI (sco v x) = nI (7 + sco v x) by rw [← nI_add]; rfl]
  exact r_ld hP (by have := hI.so_lt hx; omega)
theorem r_sts (hP : P.length = 108) {f : Int32} (hN : 13 ≤ N) (hI : Iv v) (hf : f ≠ -1) : FX4_seatsOf N 108 f (hR P v p k t l rs hs q) = rI (sSts v f) (hR P v p k t l rs hs q) := by
  have hn := hI.ns.2
  unfold FX4_seatsOf sSts
  exact lp_fold (fun n x a => FX4_seatsOf_4 N n 108 f a x (hR P v p k t l rs hs q)) (cnt v 1) (fun s a => if sS v s 0 = f then a + v (7 + sco v s) else a) (fun a => rI a (hR P v p k t l rs hs q)) (fun _ _ => True)
    (fun n a _ => by
      show FX4_seatsOf_4 N (n + 1) 108 f a (nI (cnt v 1)) (hR P v p k t l rs hs q) = _
      rw [FX4_seatsOf_4, r_now hP, r_n1 hP, hI.ns.1, if_pos (Int32.le_refl _)])
    (fun n x a hk _ => ⟨by
      have h9 := nI_ge hk (lt31 (by omega))
      show FX4_seatsOf_4 N (n + 1) 108 f a (nI x) (hR P v p k t l rs hs q) = _
      rw [FX4_seatsOf_4, r_now hP, r_n1 hP, hI.ns.1, if_neg h9, nI_1, if_neg hf]
      simp only [r_o hP, r_of0 hP (show x < 12 by omega), r_of1 hP (show x < 12 by omega), I_e, add0, r_now hP, r_seat hP hI hk]
      by_cases h2 : sS v x 0 = f
      · rw [if_pos h2, if_pos h2]
      · rw [if_neg h2, if_neg h2], trivial⟩)
    (cnt v 1) N 0 0 (by omega) (by omega) trivial
theorem r_all (hP : P.length = 108) (hN : 13 ≤ N) (hI : Iv v) : FX4_seatsOf N 108 (-1) (hR P v p k t l rs hs q) = rI (sAll v) (hR P v p k t l rs hs q) := by
  have hn := hI.ns.2
  unfold FX4_seatsOf sAll
  exact lp_fold (fun n x a => FX4_seatsOf_4 N n 108 (-1) a x (hR P v p k t l rs hs q)) (cnt v 1) (fun s a => a + v (7 + sco v s)) (fun a => rI a (hR P v p k t l rs hs q)) (fun _ _ => True)
    (fun n a _ => by
      show FX4_seatsOf_4 N (n + 1) 108 (-1) a (nI (cnt v 1)) (hR P v p k t l rs hs q) = _
      rw [FX4_seatsOf_4, r_now hP, r_n1 hP, hI.ns.1, if_pos (Int32.le_refl _)])
    (fun n x a hk _ => ⟨by
      have h9 := nI_ge hk (lt31 (by omega))
      show FX4_seatsOf_4 N (n + 1) 108 (-1) a (nI x) (hR P v p k t l rs hs q) = _
      rw [FX4_seatsOf_4, r_now hP, r_n1 hP, hI.ns.1, if_neg h9, nI_1, if_pos rfl]
      simp only [r_o hP, r_of1 hP (show x < 12 by omega), I_e, r_now hP, r_seat hP hI hk], trivial⟩)
    (cnt v 1) N 0 0 (by omega) (by omega) trivial
theorem r_use (hP : P.length = 108) {c : Int32} (hN : 13 ≤ N) (hI : Iv v) : FX4_used N 108 c (hR P v p k t l rs hs q) = rI (sUse v c) (hR P v p k t l rs hs q) := by
  have hn := hI.ns.2
  unfold FX4_used sUse
  exact lp_fold (fun n x a => FX4_used_4 N n 108 c a x (hR P v p k t l rs hs q)) (cnt v 1) (fun s a => if sS v s 1 = c then a + sLen v (fmo v s) else a) (fun a => rI a (hR P v p k t l rs hs q)) (fun _ _ => True)
    (fun n a _ => by
      show FX4_used_4 N (n + 1) 108 c a (nI (cnt v 1)) (hR P v p k t l rs hs q) = _
      rw [FX4_used_4, r_now hP, r_n1 hP, hI.ns.1, if_pos (Int32.le_refl _)])
    (fun n x a hk _ => ⟨by
      have h9 := nI_ge hk (lt31 (by omega))
      have h8 : fmo v x < 8 := by have := hI.fo_lt hk; have := hI.nf.2; omega
      show FX4_used_4 N (n + 1) 108 c a (nI x) (hR P v p k t l rs hs q) = _
      rw [FX4_used_4, r_now hP, r_n1 hP, hI.ns.1, if_neg h9, nI_1]
      simp only [r_o hP, r_of0 hP (show x < 12 by omega), r_of1 hP (show x < 12 by omega), I_e, add0, hI.fo hk, r_reels hP h8, r_min hP h8]
      by_cases h2 : sS v x 1 = c
      · rw [if_pos h2, if_pos h2]; rfl
      · rw [if_neg h2, if_neg h2], trivial⟩)
    (cnt v 1) N 0 0 (by omega) (by omega) trivial
theorem r_last (hP : P.length = 108) {c : Int32} (hN : 13 ≤ N) (hI : Iv v) : FX4_last N 108 c (hR P v p k t l rs hs q) = rI (sLast v c) (hR P v p k t l rs hs q) := by
  have hn := hI.ns.2
  unfold FX4_last sLast
  exact lp_fold (fun n x a => FX4_last_4 N n 108 c a x (hR P v p k t l rs hs q)) (cnt v 1) (fun s a => if sS v s 1 = c then (if a < sEnd v s then sEnd v s else a) else a) (fun a => rI a (hR P v p k t l rs hs q)) (fun _ _ => True)
    (fun n a _ => by
      show FX4_last_4 N (n + 1) 108 c a (nI (cnt v 1)) (hR P v p k t l rs hs q) = _
      rw [FX4_last_4, r_now hP, r_n1 hP, hI.ns.1, if_pos (Int32.le_refl _)])
    (fun n x a hk _ => ⟨by
      have h9 := nI_ge hk (lt31 (by omega))
      show FX4_last_4 N (n + 1) 108 c a (nI x) (hR P v p k t l rs hs q) = _
      rw [FX4_last_4, r_now hP, r_n1 hP, hI.ns.1, if_neg h9, nI_1]
      simp only [r_o hP, r_of1 hP (show x < 12 by omega), I_e, r_end hP hI hk]
      by_cases h2 : sS v x 1 = c
      · rw [if_pos h2, if_pos h2]
        by_cases h3 : a < sEnd v x
        · rw [if_pos h3, if_neg (Int32.not_le.mpr h3)]
        · rw [if_neg h3, if_pos (Int32.not_lt.mp h3)]
      · rw [if_neg h2, if_neg h2], trivial⟩)
    (cnt v 1) N 0 (-1) (by omega) (by omega) trivial
theorem r_rat (hP : P.length = 108) {s : Nat} {r : Int32} (hI : Iv v) (hs' : s < cnt v 1) : FX4_reelAt 108 (nI s) r (hR P v p k t l rs hs q) = rI (sRb0 v s r) (hR P v p k t l rs hs q) := by
  have h12 : s < 12 := by have := hI.ns.2; omega
  have h8 : fmo v s < 8 := by have := hI.fo_lt hs'; have := hI.nf.2; omega
  unfold FX4_reelAt sRb0
  simp only [r_o hP, r_of0 hP h12, r_of2 hP h12, r_of3 hP h12, I_e, hI.fo hs', r_reels hP h8, r_beg hP h8]
  by_cases h : r < sF v (fmo v s) 0
  · rw [if_pos h, if_neg (Int32.not_le.mpr h)]
  · rw [if_neg h, if_pos (Int32.not_lt.mp h)]
theorem r_cg (hP : P.length = 108) {g : Nat} {f e : Int32} (hg : g < 6) : FX4_canGreet 108 (nI g) f e (hR P v p k t l rs hs q) = rI (bl (sG v g 0 = f ∧ pFit v g e)) (hR P v p k t l rs hs q) := by
  unfold FX4_canGreet bl pFit
  simp only [r_o hP, r_gh0 hP hg, r_gh1 hP hg, r_gh2 hP hg, I_e, r_now hP, r_n5 hP]
  by_cases h0 : sG v g 0 = f
  · rw [if_pos h0]
    by_cases h1 : e < sG v g 1
    · rw [if_pos h1, if_neg (fun hh => absurd h1 (Int32.not_lt.mpr hh.2.1))]
    · rw [if_neg h1]
      by_cases h2 : sG v g 2 < e + v 5
      · rw [if_pos h2, if_neg (fun hh => absurd h2 (Int32.not_lt.mpr hh.2.2))]
      · rw [if_neg h2, if_pos ⟨h0, Int32.not_lt.mp h1, Int32.not_lt.mp h2⟩]
  · rw [if_neg h0, if_neg (fun hh => h0 hh.1)]
theorem r_gr (hP : P.length = 108) {g : Nat} (hN : 13 ≤ N) (hI : Iv v) (hg : g < 6) : FX4_greets N 108 (nI g) (hR P v p k t l rs hs q) = rI (sGr v g) (hR P v p k t l rs hs q) := by
  have hn := hI.ns.2
  unfold FX4_greets sGr
  exact lp_fold (fun n x (a : Int32 × Int32) => FX4_greets_4 N n 108 (nI g) a.1 x (hR P v p k t l rs hs q)) (cnt v 1) (stGr v g) (fun a => rI a.1 (hR P v p k t l rs hs q)) (fun _ a => a.1 = -1 ∨ ∃ s, s < cnt v 1 ∧ a = (nI s, sEnd v s))
    (fun n a _ => by
      show FX4_greets_4 N (n + 1) 108 (nI g) a.1 (nI (cnt v 1)) (hR P v p k t l rs hs q) = _
      rw [FX4_greets_4, r_now hP, r_n1 hP, hI.ns.1, if_pos (Int32.le_refl _)])
    (fun n x a hk ha => ⟨by
      have h9 := nI_ge hk (lt31 (by omega))
      show FX4_greets_4 N (n + 1) 108 (nI g) a.1 (nI x) (hR P v p k t l rs hs q) = _
      rw [FX4_greets_4, r_now hP, r_n1 hP, hI.ns.1, if_neg h9, nI_1]
      simp only [r_o hP, r_of0 hP (show x < 12 by omega), I_e, r_end hP hI hk, r_cg hP hg, bl_0]
      unfold stGr
      by_cases h1 : sG v g 0 = sS v x 0 ∧ pFit v g (sEnd v x)
      · have hp : pGr v g x := ⟨h1.1.symm, h1.2⟩
        rw [if_neg (fun hh => hh h1)]
        by_cases h3 : a.1 = -1
        · rw [if_pos h3, if_pos ⟨hp, Or.inl h3⟩]
        · rw [if_neg h3]
          rcases ha with ha | ⟨s, hs1, hs2⟩
          · exact absurd ha h3
          · subst hs2
            simp only [r_end hP hI hs1, I_e]
            by_cases h4 : sEnd v s ≤ sEnd v x
            · rw [if_pos h4, if_neg (fun hh => hh.2.elim h3 (fun h5 => absurd h4 (Int32.not_le.mpr h5)))]
            · rw [if_neg h4, if_pos ⟨hp, Or.inr (Int32.not_le.mp h4)⟩]
      · rw [if_pos h1, if_neg (fun hh => h1 ⟨hh.1.1.symm, hh.1.2⟩)], by
      show (stGr v g x a).1 = -1 ∨ ∃ s, s < cnt v 1 ∧ stGr v g x a = (nI s, sEnd v s)
      unfold stGr
      split
      · exact Or.inr ⟨x, hk, rfl⟩
      · exact ha⟩)
    (cnt v 1) N 0 (-1, -1) (by omega) (by omega) (Or.inl rfl)
theorem r_grs (hP : P.length = 108) (hN : 13 ≤ N) (hI : Iv v) : FX4_greeting N 108 (hR P v p k t l rs hs q) = rI (sGrs v) (hR P v p k t l rs hs q) := by
  have hn := hI.ng.2
  unfold FX4_greeting sGrs
  exact lp_fold (fun n x a => FX4_greeting_4 N n 108 a x (hR P v p k t l rs hs q)) (cnt v 2) (fun g a => if sGr v g = -1 then a else a + 1) (fun a => rI a (hR P v p k t l rs hs q)) (fun _ _ => True)
    (fun n a _ => by
      show FX4_greeting_4 N (n + 1) 108 a (nI (cnt v 2)) (hR P v p k t l rs hs q) = _
      rw [FX4_greeting_4, r_now hP, r_n2 hP, hI.ng.1, if_pos (Int32.le_refl _)])
    (fun n x a hk _ => ⟨by
      have h9 := nI_ge hk (lt31 (by omega))
      show FX4_greeting_4 N (n + 1) 108 a (nI x) (hR P v p k t l rs hs q) = _
      rw [FX4_greeting_4, r_now hP, r_n2 hP, hI.ng.1, if_neg h9, nI_1]
      simp only [r_o hP, r_gr hP hN hI (show x < 6 by omega), I_e, add0]
      by_cases h2 : sGr v x = -1
      · rw [if_pos h2, if_pos h2]
      · rw [if_neg h2, if_neg h2], trivial⟩)
    (cnt v 2) N 0 0 (by omega) (by omega) trivial
theorem r_more (hP : P.length = 108) {f : Nat} {a : Int32} (hN : 13 ≤ N) (hI : Iv v) (hf : f < 8) : FX4_more N 108 (nI f) a (hR P v p k t l rs hs q) = rI (sMo v f a) (hR P v p k t l rs hs q) := by
  have hn := hI.ng.2
  unfold FX4_more sMo
  exact lp_fold (fun n x y => FX4_more_5 N n 108 (nI f) a y x (hR P v p k t l rs hs q)) (cnt v 2) (fun g n => if (sG v g 0 = nI f ∧ pFit v g (a + sLen v f)) ∧ sGr v g = -1 then n + 1 else n) (fun a => rI a (hR P v p k t l rs hs q)) (fun _ _ => True)
    (fun n y _ => by
      show FX4_more_5 N (n + 1) 108 (nI f) a y (nI (cnt v 2)) (hR P v p k t l rs hs q) = _
      rw [FX4_more_5, r_now hP, r_n2 hP, hI.ng.1, if_pos (Int32.le_refl _)])
    (fun n x y hk _ => ⟨by
      have h9 := nI_ge hk (lt31 (by omega))
      show FX4_more_5 N (n + 1) 108 (nI f) a y (nI x) (hR P v p k t l rs hs q) = _
      rw [FX4_more_5, r_now hP, r_n2 hP, hI.ng.1, if_neg h9, nI_1]
      simp only [r_o hP, r_gr hP hN hI (show x < 6 by omega), r_ends hP hf, r_cg hP (show x < 6 by omega), I_e, add0, bl_0]
      by_cases h2 : sGr v x = -1
      · rw [if_pos h2]
        by_cases h3 : sG v x 0 = nI f ∧ pFit v x (a + sLen v f)
        · rw [if_neg (fun hh => hh h3), if_pos ⟨h3, h2⟩]
        · rw [if_pos h3, if_neg (fun hh => h3 hh.1)]
      · rw [if_neg h2, if_neg (fun hh => h2 hh.2)], trivial⟩)
    (cnt v 2) N 0 0 (by omega) (by omega) trivial
theorem r_nx_l (hP : P.length = 108) (hN : 13 ≤ N) (hI : Iv v) {f c : Nat} (hf : f < cnt v 0) : ∀ (d n s : Nat) (rs : Nat → Int32), s + d = 2000 → d < n →
    ∃ x y z, FX4_next_3 N n 108 (nI f) (nI c) (nI s) (hR P v p k t l rs hs q) = rI (sNx v f c s) (hR P v p k t l (w3 rs x y z) hs q)
  | 0, n, s, rs, hd, hn => by
    obtain ⟨m, rfl⟩ : ∃ m, n = m + 1 := ⟨n - 1, by omega⟩
    have : s = 2000 := by omega
    subst this
    refine ⟨rs 4, rs 5, rs 6, ?_⟩
    rw [FX4_next_3, if_pos (show (2000 : Int32) ≤ nI 2000 from Int32.le_refl _)]
    rfl
  | d + 1, n, s, rs, hd, hn => by
    obtain ⟨m, rfl⟩ : ∃ m, n = m + 1 := ⟨n - 1, by omega⟩
    rw [FX4_next_3, if_neg (show ¬ (2000 : Int32) ≤ nI s from nI_ge (b := 2000) (by omega) (by decide)), r_o hP, r_reason hP hN hI hf, I_e]
    have e : sNx v f c s = if sRf v f (nI c) (nI s) 0 = 0 then nI s else sNx v f c (s + 1) := by
      unfold sNx
      obtain ⟨r, hr⟩ : ∃ r, 2000 - s = r + 1 := ⟨2000 - s - 1, by omega⟩
      rw [hr, show 2000 - (s + 1) = r by omega]
      rfl
    rw [e]
    by_cases h : sRf v f (nI c) (nI s) 0 = 0
    · rw [if_pos h, if_pos h]
      exact ⟨_, _, _, rfl⟩
    · rw [if_neg h, if_neg h, nI_1]
      obtain ⟨x, y, z, h9⟩ := r_nx_l hP hN hI hf d m (s + 1) (w3 rs (sRs v f (nI c) (nI s) 0).1 (sRs v f (nI c) (nI s) 0).2.1 (sRs v f (nI c) (nI s) 0).2.2) (by omega) (by omega)
      rw [w3_w3] at h9
      exact ⟨x, y, z, h9⟩
theorem r_nx (hP : P.length = 108) (hN : 2001 ≤ N) (hI : Iv v) {f c a : Nat} (hf : f < cnt v 0) (ha : a < 2000) : ∃ x y z, FX4_next N 108 (nI f) (nI c) (nI a) (hR P v p k t l rs hs q) = rI (sNx v f c a) (hR P v p k t l (w3 rs x y z) hs q) := by
  unfold FX4_next
  exact r_nx_l hP (by omega) hI hf (2000 - a) N a rs (by omega) (by omega)
end RH

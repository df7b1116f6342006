/-! THE REFERENCE, its looks: who has seen what, the prize, what runs, the best screen -/
theorem any_s {p : Nat → Prop} {n : Nat} : (¬ ∀ s, s < n + 1 → ¬ p s) ↔ (¬ ∀ s, s < n → ¬ p s) ∨ p n := by
  constructor
  · intro h
    by_cases hp : p n
    · exact Or.inr hp
    · refine Or.inl (fun h2 => h (fun s hs => ?_))
      by_cases hsn : s = n
      · rw [hsn]; exact hp
      · exact h2 s (by omega)
  · rintro (h | h) h2
    · exact h (fun s hs => h2 s (by omega))
    · exact h2 n (by omega) h
theorem any_0 {p : Nat → Prop} : ¬ ¬ ∀ s, s < 0 → ¬ p s := fun h => h (fun s hs => absurd hs (Nat.not_lt_zero s))
theorem hb8 : ∀ a, a < 8 → ∀ b, b < 8 → ∀ j, j < 3 → (hb (nI a ||| nI b) (nI j) ↔ hb (nI a) (nI j) ∨ hb (nI b) (nI j)) := by decide +kernel
theorem hb0 : ∀ j, j < 3 → ¬ hb (nI 0) (nI j) := by decide +kernel
theorem rebuild8 : ∀ m, m < 8 → fd (fun j (a : Int32) => if hb (nI m) (nI j) then a ||| ((1 : Int32) <<< (nI j &&& 31)) else a) 0 3 0 = nI m := by decide +kernel
theorem seen_l {v : Nat → Int32} (hI : Iv v) (f : Int32) : ∀ n, n ≤ cnt v 1 → ∃ m, m < 8 ∧ fd (fun s a => if sS v s 0 = f then a ||| sS v s 4 else a) 0 n 0 = nI m ∧ ∀ j, j < 3 → (hb (nI m) (nI j) ↔ ¬ ∀ s, s < n → ¬ (sS v s 0 = f ∧ hb (sS v s 4) (nI j)))
  | 0, _ => ⟨0, by decide, rfl, fun j hj => ⟨fun h => absurd h (hb0 j hj), fun h => absurd h any_0⟩⟩
  | n + 1, hn => by
    obtain ⟨m, hm, h1, h2⟩ := seen_l hI f n (by omega)
    rw [fd_last, h1, Nat.zero_add]
    by_cases hc : sS v n 0 = f
    · rw [if_pos hc, hI.go (show n < cnt v 1 by omega)]
      obtain ⟨c, hc8, hce⟩ := or8 hm (hI.go_lt (show n < cnt v 1 by omega))
      refine ⟨c, hc8, hce, fun j hj => ?_⟩
      rw [← hce, hb8 m hm _ (hI.go_lt (show n < cnt v 1 by omega)) j hj, h2 j hj, any_s, hI.go (show n < cnt v 1 by omega)]
      exact ⟨fun h => h.elim Or.inl (fun h => Or.inr ⟨hc, h⟩), fun h => h.elim Or.inl (fun h => Or.inr h.2)⟩
    · rw [if_neg hc]
      refine ⟨m, hm, rfl, fun j hj => ?_⟩
      rw [h2 j hj, any_s]
      exact ⟨Or.inl, fun h => h.elim id (fun h => absurd h.1 hc)⟩
theorem sSeen_has {v : Nat → Int32} (hI : Iv v) {f : Int32} {j : Nat} (hj : j < 3) : hb (sSeen v f) (nI j) ↔ sHas v (nI j) f := by
  obtain ⟨m, hm, h1, h2⟩ := seen_l hI f (cnt v 1) (Nat.le_refl _)
  unfold sSeen
  rw [h1]
  exact h2 j hj
/-! masks of films -/
theorem or256 : ∀ a, a < 256 → ∀ g, g < 8 → nI a ||| ((1 : Int32) <<< (nI g &&& 31)) = nI (a ||| 2 ^ g) := by decide +kernel
theorem hbtb : ∀ a, a < 256 → ∀ f, f < 8 → (hb (nI a) (nI f) ↔ a.testBit f = true) := by decide +kernel
theorem tb_eq {a b : Nat} (ha : a < 256) (hb : b < 256) (h : ∀ f, f < 8 → (a.testBit f = true ↔ b.testBit f = true)) : a = b := by
  refine Nat.eq_of_testBit_eq (fun i => ?_)
  by_cases hi : i < 8
  · have := h i hi
    cases h1 : a.testBit i <;> cases h2 : b.testBit i <;> simp [h1, h2] at this ⊢
  · have h1 : 2 ^ 8 ≤ 2 ^ i := Nat.pow_le_pow_right (by decide) (by omega)
    rw [Nat.testBit_lt_two_pow (show a < 2 ^ i by omega), Nat.testBit_lt_two_pow (show b < 2 ^ i by omega)]
theorem or_lt {a g : Nat} (ha : a < 256) (hg : g < 8) : a ||| 2 ^ g < 256 := Nat.or_lt_two_pow (n := 8) ha (Nat.pow_lt_pow_right (by decide) hg)
theorem tb_or {a g f : Nat} : (a ||| 2 ^ g).testBit f = true ↔ a.testBit f = true ∨ g = f := by
  rw [Nat.testBit_or, Nat.testBit_two_pow]
  simp
theorem mask_l {v : Nat → Int32} (hI : Iv v) (j : Int32) : ∀ n, n ≤ cnt v 1 → ∃ m, m < 256 ∧ fd (fun s a => if hb (sS v s 4) j then a ||| ((1 : Int32) <<< (sS v s 0 &&& 31)) else a) 0 n 0 = nI m ∧ ∀ f, f < 8 → (m.testBit f = true ↔ ¬ ∀ s, s < n → ¬ (sS v s 0 = nI f ∧ hb (sS v s 4) j))
  | 0, _ => ⟨0, by decide, rfl, fun j hj => ⟨fun h => absurd h (by simp), fun h => absurd h any_0⟩⟩
  | n + 1, hn => by
    obtain ⟨m, hm, h1, h2⟩ := mask_l hI j n (by omega)
    rw [fd_last, h1, Nat.zero_add]
    have hlt := hI.fo_lt (show n < cnt v 1 by omega)
    have h8 := hI.nf.2
    by_cases hc : hb (sS v n 4) j
    · rw [if_pos hc, hI.fo (show n < cnt v 1 by omega), or256 m hm _ (by omega)]
      refine ⟨_, or_lt hm (by omega), rfl, fun f hf => ?_⟩
      rw [tb_or, h2 f hf, any_s, hI.fo (show n < cnt v 1 by omega), nI_eq (by omega) (by omega)]
      exact ⟨fun h => h.elim Or.inl (fun h => Or.inr ⟨h, hc⟩), fun h => h.elim Or.inl (fun h => Or.inr h.1)⟩
    · rw [if_neg hc]
      refine ⟨m, hm, rfl, fun f hf => ?_⟩
      rw [h2 f hf, any_s]
      exact ⟨Or.inl, fun h => h.elim id (fun h => absurd h.2 hc)⟩
theorem mask_r {v : Nat → Int32} (hI : Iv v) (j : Int32) : ∀ n, n ≤ cnt v 0 → ∃ m, m < 256 ∧ fd (fun f (a : Int32) => if sHas v j (nI f) then a ||| ((1 : Int32) <<< (nI f &&& 31)) else a) 0 n 0 = nI m ∧ ∀ f, f < 8 → (m.testBit f = true ↔ f < n ∧ sHas v j (nI f))
  | 0, _ => ⟨0, by decide, rfl, fun j hj => ⟨fun h => absurd h (by simp), fun h => absurd h.1 (by omega)⟩⟩
  | n + 1, hn => by
    obtain ⟨m, hm, h1, h2⟩ := mask_r hI j n (by omega)
    rw [fd_last, h1, Nat.zero_add]
    have h8 := hI.nf.2
    by_cases hc : sHas v j (nI n)
    · rw [if_pos hc, or256 m hm _ (by omega)]
      refine ⟨_, or_lt hm (by omega), rfl, fun f hf => ?_⟩
      rw [tb_or, h2 f hf]
      constructor
      · rintro (h | h)
        · exact ⟨by omega, h.2⟩
        · subst h; exact ⟨by omega, hc⟩
      · intro h
        by_cases hfn : n = f
        · exact Or.inr hfn
        · exact Or.inl ⟨by omega, h.2⟩
    · rw [if_neg hc]
      refine ⟨m, hm, rfl, fun f hf => ?_⟩
      rw [h2 f hf]
      constructor
      · exact fun h => ⟨by omega, h.2⟩
      · intro h
        by_cases hfn : f = n
        · subst hfn; exact absurd h.2 hc
        · exact ⟨by omega, h.2⟩
theorem has_lt {v : Nat → Int32} (hI : Iv v) {j : Int32} {f : Nat} (hf : f < 8) (h : sHas v j (nI f)) : f < cnt v 0 := by
  apply Classical.byContradiction
  intro hn
  refine h (fun s hs h2 => hn ?_)
  have h3 := h2.1
  have h4 := hI.fo_lt hs
  have h5 := hI.nf.2
  rw [hI.fo hs] at h3
  have := (nI_eq (by omega) (by omega)).mp h3
  omega
theorem mask_e {v : Nat → Int32} (hI : Iv v) (j : Int32) : fd (fun f (a : Int32) => if sHas v j (nI f) then a ||| ((1 : Int32) <<< (nI f &&& 31)) else a) 0 (cnt v 0) 0 = sMask v j := by
  obtain ⟨m, hm, h1, h2⟩ := mask_r hI j (cnt v 0) (Nat.le_refl _)
  obtain ⟨m', hm', h1', h2'⟩ := mask_l hI j (cnt v 1) (Nat.le_refl _)
  unfold sMask
  rw [h1, h1', tb_eq hm hm' (fun f hf => ?_)]
  rw [h2 f hf, h2' f hf]
  exact ⟨fun h => h.2, fun h => ⟨has_lt hI hf h, h⟩⟩
theorem sMask_has {v : Nat → Int32} (hI : Iv v) {j : Int32} {f : Nat} (hf : f < 8) : hb (sMask v j) (nI f) ↔ sHas v j (nI f) := by
  obtain ⟨m', hm', h1', h2'⟩ := mask_l hI j (cnt v 1) (Nat.le_refl _)
  unfold sMask
  rw [h1', hbtb m' hm' f hf, h2' f hf]
theorem sPts_n {v : Nat → Int32} (hI : Iv v) {f : Nat} (hf : f < 8) : ∃ k : Nat, k ≤ 30 ∧ sPts v f = nI k := by
  unfold sPts
  obtain ⟨k, h1, h2⟩ := fd_inv (f := fun j a => if hb (sSeen v (nI f)) (nI j) then a + sP v j f else a) (fun i a => ∃ k : Nat, k ≤ 10 * i ∧ a = nI k) 3 0 0 ⟨0, by decide, rfl⟩ (fun i a _ h2 ⟨m, hm, ha⟩ => by
    show ∃ k : Nat, k ≤ 10 * (i + 1) ∧ (if hb (sSeen v (nI f)) (nI i) then a + sP v i f else a) = nI k
    by_cases hc : hb (sSeen v (nI f)) (nI i)
    · obtain ⟨u, hu, -, hu2⟩ := hI.2.2.2.2.2.2.1 i f (by omega) hf
      exact ⟨m + u, by omega, by rw [if_pos hc, ha, hu, nI_add]⟩
    · exact ⟨m, by omega, by rw [if_neg hc]; exact ha⟩)
  exact ⟨k, by omega, h2⟩
/-! what runs -/
theorem ffst_cases {α : Type} (P : Nat → Prop) [DecidablePred P] (g : Nat → α) (e : α) : ∀ (d k : Nat), (ffst P g e k d = e ∧ ∀ i, k ≤ i → i < k + d → ¬ P i) ∨ ∃ i, k ≤ i ∧ i < k + d ∧ P i ∧ ffst P g e k d = g i ∧ ∀ j, k ≤ j → j < i → ¬ P j
  | 0, k => Or.inl ⟨rfl, fun i h1 h2 => by omega⟩
  | d + 1, k => by
    by_cases hp : P k
    · refine Or.inr ⟨k, Nat.le_refl _, by omega, hp, ?_, fun j h1 h2 => by omega⟩
      show (if P k then g k else _) = g k
      rw [if_pos hp]
    · have e1 : ffst P g e k (d + 1) = ffst P g e (k + 1) d := by
        show (if P k then g k else _) = _
        rw [if_neg hp]
      rw [e1]
      rcases ffst_cases P g e d (k + 1) with ⟨h1, h2⟩ | ⟨i, h1, h2, h3, h4, h5⟩
      · refine Or.inl ⟨h1, fun i hi hj => ?_⟩
        by_cases hk : i = k
        · rw [hk]; exact hp
        · exact h2 i (by omega) (by omega)
      · refine Or.inr ⟨i, by omega, by omega, h3, h4, fun j hj hji => ?_⟩
        by_cases hk : j = k
        · rw [hk]; exact hp
        · exact h5 j (by omega) hji
/-- kept last: none -/
theorem fl_no {α : Type} {P : Nat → Prop} [DecidablePred P] {g : Nat → α} : ∀ (d k : Nat) (e : α), (∀ i, k ≤ i → i < k + d → ¬ P i) → fd (fun i a => if P i then g i else a) k d e = e
  | 0, _, _, _ => rfl
  | d + 1, k, e, h => by
    show fd _ (k + 1) d (if P k then g k else e) = e
    rw [if_neg (h k (Nat.le_refl _) (by omega))]
    exact fl_no d (k + 1) e (fun i h1 h2 => h i (by omega) (by omega))
/-- kept last: one only -/
theorem fl_one {α : Type} {P : Nat → Prop} [DecidablePred P] {g : Nat → α} {i : Nat} (hi : P i) : ∀ (d k : Nat) (e : α), k ≤ i → i < k + d → (∀ j, k ≤ j → j < k + d → P j → j = i) → fd (fun i a => if P i then g i else a) k d e = g i
  | 0, k, e, h1, h2, _ => by omega
  | d + 1, k, e, h1, h2, h => by
    show fd _ (k + 1) d (if P k then g k else e) = g i
    by_cases hk : k = i
    · subst hk
      rw [if_pos hi]
      exact fl_no d (k + 1) _ (fun j h3 h4 hp => by have := h j (by omega) (by omega) hp; omega)
    · rw [if_neg (fun hp => hk (h k (Nat.le_refl _) (by omega) hp))]
      exact fl_one hi d (k + 1) e (by omega) (by omega) (fun j h3 h4 hp => h j (by omega) (by omega) hp)
abbrev pQ (v : Nat → Int32) (c m : Int32) (k : Nat) : Prop := sS v (k / 6) 1 = c ∧ k % 6 < nR v (fmo v (k / 6)) ∧ pAt v (k / 6) m (k % 6)
theorem zEn {v : Nat → Int32} (hI : Iv v) {s t : Nat} (hs : s < cnt v 1) (ht : t < cnt v 1) (hne : s ≠ t) (hsc : sS v s 1 = sS v t 1) : nE v s ≤ nA v t ∨ nE v t ≤ nA v s := by
  have h1 := hI.so_lt hs
  have h2 := hI.so_lt ht
  rw [hI.so hs, hI.so ht] at hsc
  have h3 := hI.2.2.2.2.2.2.2 s t hs ht hne ((nI_eq (by omega) (by omega)).mp hsc)
  have h4 := hI.st hs
  have h5 := hI.st ht
  rw [hI.zend hs, hI.zend ht, h4.1, h5.1, i_nI (by omega), i_nI (by omega)] at h3
  omega
theorem at_in {v : Nat → Int32} (hI : Iv v) {s t k : Nat} (hs : s < cnt v 1) (ht : t < 4000) (hk : k < nR v (fmo v s)) (h : pAt v s (nI t) k) : nA v s ≤ t ∧ t < nE v s := by
  have hf := hI.fo_lt hs
  have h6 := (hI.re hf).2.2
  have h2 := (pAt_e hI hs ht (show k ≤ 6 by omega)).mp h
  have h3 := nBeg_le hI (a := nA v s) (p := nB v s) hf (show k ≤ 6 by omega)
  have h4 : (k + 1) * nM v (fmo v s) ≤ nR v (fmo v s) * nM v (fmo v s) := Nat.mul_le_mul_right _ hk
  rw [Nat.succ_mul] at h4
  unfold nE
  omega
theorem at_one {v : Nat → Int32} (hI : Iv v) {s t k k' : Nat} (hs : s < cnt v 1) (ht : t < 4000) (hk : k < nR v (fmo v s)) (hkk : k < k') (hk' : k' < nR v (fmo v s)) (h : pAt v s (nI t) k) (h' : pAt v s (nI t) k') : False := by
  have hf := hI.fo_lt hs
  have h6 := (hI.re hf).2.2
  have h2 := (pAt_e hI hs ht (show k ≤ 6 by omega)).mp h
  have h3 := (pAt_e hI hs ht (show k' ≤ 6 by omega)).mp h'
  have h4 : (k + 1) * nM v (fmo v s) ≤ k' * nM v (fmo v s) := Nat.mul_le_mul_right _ hkk
  rw [Nat.succ_mul] at h4
  unfold nBeg at h2 h3
  by_cases hc : (nR v (fmo v s) + 1) / 2 ≤ k
  · rw [if_pos hc] at h2
    rw [if_pos (by omega)] at h3
    omega
  · rw [if_neg hc] at h2
    omega
theorem pQ_one {v : Nat → Int32} (hI : Iv v) {c : Int32} {t k k' : Nat} (ht : t < 4000) (hk : k < 6 * cnt v 1) (hk' : k' < 6 * cnt v 1) (h : pQ v c (nI t) k) (h' : pQ v c (nI t) k') : k' = k := by
  have hs : k / 6 < cnt v 1 := by omega
  have hs' : k' / 6 < cnt v 1 := by omega
  by_cases he : k' / 6 = k / 6
  · have h1 := h'
    unfold pQ at h1
    rw [he] at h1
    rcases Nat.lt_trichotomy (k % 6) (k' % 6) with h2 | h2 | h2
    · exact (at_one hI hs ht h.2.1 h2 h1.2.1 h.2.2 h1.2.2).elim
    · omega
    · exact (at_one hI hs ht h1.2.1 h2 h.2.1 h1.2.2 h.2.2).elim
  · have h1 := at_in hI hs ht h.2.1 h.2.2
    have h2 := at_in hI hs' ht h'.2.1 h'.2.2
    have h3 := zEn hI hs hs' (fun h9 => he h9.symm) (h.1.trans h'.1.symm)
    omega
theorem run_e {v : Nat → Int32} (hI : Iv v) {c : Int32} {t : Nat} (ht : t < 4000) : fd (fun k (a : Int32) => if pQ v c (nI t) k then 6 * sS v (k / 6) 0 + nI (k % 6) else a) 0 (6 * cnt v 1) (-1) = sRun v c (nI t) := by
  unfold sRun
  have hn := hI.ns.2
  rcases ffst_cases (pRun v c (nI t)) (fun s => 6 * sS v s 0 + sAt v s (nI t)) (-1) (cnt v 1) 0 with ⟨h1, h2⟩ | ⟨i, -, hi, hp, h1, h2⟩
  · rw [h1]
    refine fl_no _ _ _ (fun k _ hk hq => h2 (k / 6) (Nat.zero_le _) (by omega) ⟨hq.1, fun h9 => ?_⟩)
    exact (sAt_m1 hI (by omega)).mp h9 _ hq.2.1 hq.2.2
  · rw [h1]
    have hi' : i < cnt v 1 := by omega
    obtain ⟨r, -, hr, hpr, her, -⟩ := fi_at (show fi (pAt v i (nI t)) 0 (nR v (fmo v i)) ≠ -1 from hp.2)
    have h6 := (hI.re (hI.fo_lt hi')).2.2
    have e1 : (6 * i + r) / 6 = i := by omega
    have e2 : (6 * i + r) % 6 = r := by omega
    have hq : pQ v c (nI t) (6 * i + r) := by
      unfold pQ
      rw [e1, e2]
      exact ⟨hp.1, by omega, hpr⟩
    rw [fl_one (g := fun k => 6 * sS v (k / 6) 0 + nI (k % 6)) hq (6 * cnt v 1) 0 (-1) (by omega) (by omega) (fun j _ hj hpj => pQ_one hI ht (by omega) (by omega) hq hpj)]
    show 6 * sS v ((6 * i + r) / 6) 0 + nI ((6 * i + r) % 6) = 6 * sS v i 0 + sAt v i (nI t)
    rw [e1, e2, show sAt v i (nI t) = nI r from her]
section RI
variable {P : jm_H} {v p k t l rs : Nat → Int32} {hs : Int64} {q : jm_H} {N : Nat}
theorem r_seers (hP : P.length = 108) {f : Int32} (hN : 13 ≤ N) (hI : Iv v) : FX4_seers N 108 f (hR P v p k t l rs hs q) = rI (sSeen v f) (hR P v p k t l rs hs q) := by
  unfold FX4_seers
  obtain ⟨m, hm, hm2⟩ := sSeen_8 hI f
  have e : fd (fun j (a : Int32) => if sHas v (nI j) f then a ||| ((1 : Int32) <<< (nI j &&& 31)) else a) 0 3 0 = sSeen v f := by
    rw [hm2, ← rebuild8 m hm]
    refine fd_congr 3 0 0 (fun i a _ hi => ?_)
    have := sSeen_has hI (f := f) (show i < 3 by omega)
    rw [hm2] at this
    by_cases hc : sHas v (nI i) f
    · rw [if_pos hc, if_pos (this.mpr hc)]
    · rw [if_neg hc, if_neg (fun h => hc (this.mp h))]
  rw [← e]
  exact lp_fold (fun n x a => FX4_seers_4 N n 108 f a x (hR P v p k t l rs hs q)) 3 (fun j (a : Int32) => if sHas v (nI j) f then a ||| ((1 : Int32) <<< (nI j &&& 31)) else a) (fun a => rI a (hR P v p k t l rs hs q)) (fun _ _ => True)
    (fun n a _ => by
      show FX4_seers_4 N (n + 1) 108 f a (nI 3) (hR P v p k t l rs hs q) = _
      rw [FX4_seers_4, if_pos (by decide)])
    (fun n x a hk _ => ⟨by
      show FX4_seers_4 N (n + 1) 108 f a (nI x) (hR P v p k t l rs hs q) = _
      rw [FX4_seers_4, if_neg (show ¬ (3 : Int32) ≤ nI x from nI_ge (b := 3) hk (by decide)), nI_1, r_o hP, r_has hP hN hI, I_e, or0]
      simp only [bl_0]
      by_cases h2 : sHas v (nI x) f
      · rw [if_neg (fun hh => hh h2), if_pos h2]
      · rw [if_pos h2, if_neg h2], trivial⟩)
    3 N 0 0 (by omega) (by omega) trivial
theorem r_pts (hP : P.length = 108) {f : Nat} (hf : f < 8) (hN : 13 ≤ N) (hI : Iv v) : FX4_points N 108 (nI f) (hR P v p k t l rs hs q) = rI (sPts v f) (hR P v p k t l rs hs q) := by
  unfold FX4_points
  have e : fd (fun j (a : Int32) => if sHas v (nI j) (nI f) then a + sP v j f else a) 0 3 0 = sPts v f := by
    unfold sPts
    refine fd_congr 3 0 0 (fun i a _ hi => ?_)
    have := sSeen_has hI (f := nI f) (show i < 3 by omega)
    by_cases hc : sHas v (nI i) (nI f)
    · rw [if_pos hc, if_pos (this.mpr hc)]
    · rw [if_neg hc, if_neg (fun h => hc (this.mp h))]
  rw [← e]
  exact lp_fold (fun n x a => FX4_points_4 N n 108 (nI f) a x (hR P v p k t l rs hs q)) 3 (fun j (a : Int32) => if sHas v (nI j) (nI f) then a + sP v j f else a) (fun a => rI a (hR P v p k t l rs hs q)) (fun _ _ => True)
    (fun n a _ => by
      show FX4_points_4 N (n + 1) 108 (nI f) a (nI 3) (hR P v p k t l rs hs q) = _
      rw [FX4_points_4, if_pos (by decide)])
    (fun n x a hk _ => ⟨by
      show FX4_points_4 N (n + 1) 108 (nI f) a (nI x) (hR P v p k t l rs hs q) = _
      rw [FX4_points_4, if_neg (show ¬ (3 : Int32) ≤ nI x from nI_ge (b := 3) hk (by decide)), nI_1, r_o hP, r_has hP hN hI, I_e, add0, r_now hP, show (104 : Int32) + 8 * nI x + nI f = nI (104 + 8 * x + f) by rw [← nI_add, ← nI_add, ← pk_mul]; rfl, r_ld hP (by omega)]
      simp only [bl_0]
      by_cases h2 : sHas v (nI x) (nI f)
      · rw [if_neg (fun hh => hh h2), if_pos h2]
      · rw [if_pos h2, if_neg h2], trivial⟩)
    3 N 0 0 (by omega) (by omega) trivial
theorem r_mask (hP : P.length = 108) {j : Int32} (hN : 13 ≤ N) (hI : Iv v) : FX4_seen N 108 j (hR P v p k t l rs hs q) = rI (sMask v j) (hR P v p k t l rs hs q) := by
  have hn := hI.nf.2
  unfold FX4_seen
  rw [← mask_e hI]
  exact lp_fold (fun n x a => FX4_seen_4 N n 108 j a x (hR P v p k t l rs hs q)) (cnt v 0) (fun f (a : Int32) => if sHas v j (nI f) then a ||| ((1 : Int32) <<< (nI f &&& 31)) else a) (fun a => rI a (hR P v p k t l rs hs q)) (fun _ _ => True)
    (fun n a _ => by
      show FX4_seen_4 N (n + 1) 108 j a (nI (cnt v 0)) (hR P v p k t l rs hs q) = _
      rw [FX4_seen_4, r_now hP, r_n0 hP, hI.nf.1, if_pos (Int32.le_refl _)])
    (fun n x a hk _ => ⟨by
      have h9 := nI_ge hk (lt31 (by omega))
      show FX4_seen_4 N (n + 1) 108 j a (nI x) (hR P v p k t l rs hs q) = _
      rw [FX4_seen_4, r_now hP, r_n0 hP, hI.nf.1, if_neg h9, nI_1, r_o hP, r_has hP hN hI, I_e, or0]
      simp only [bl_0]
      by_cases h2 : sHas v j (nI x)
      · rw [if_neg (fun hh => hh h2), if_pos h2]
      · rw [if_pos h2, if_neg h2], trivial⟩)
    (cnt v 0) N 0 0 (by omega) (by omega) trivial
theorem r_from (hP : P.length = 108) {j : Nat} (hj : j < 3) (hN : 13 ≤ N) (hI : Iv v) : FX4_given N 108 (nI j) (hR P v p k t l rs hs q) = rI (sFrom v j) (hR P v p k t l rs hs q) := by
  have hn := hI.nf.2
  unfold FX4_given
  have e : fd (fun f (a : Int32) => if sHas v (nI j) (nI f) then a + sP v j f else a) 0 (cnt v 0) 0 = sFrom v j := by
    unfold sFrom
    refine fd_congr (cnt v 0) 0 0 (fun i a _ hi => ?_)
    have := sMask_has hI (j := nI j) (show i < 8 by omega)
    by_cases hc : sHas v (nI j) (nI i)
    · rw [if_pos hc, if_pos (this.mpr hc)]
    · rw [if_neg hc, if_neg (fun h => hc (this.mp h))]
  rw [← e]
  exact lp_fold (fun n x a => FX4_given_4 N n 108 (nI j) a x (hR P v p k t l rs hs q)) (cnt v 0) (fun f (a : Int32) => if sHas v (nI j) (nI f) then a + sP v j f else a) (fun a => rI a (hR P v p k t l rs hs q)) (fun _ _ => True)
    (fun n a _ => by
      show FX4_given_4 N (n + 1) 108 (nI j) a (nI (cnt v 0)) (hR P v p k t l rs hs q) = _
      rw [FX4_given_4, r_now hP, r_n0 hP, hI.nf.1, if_pos (Int32.le_refl _)])
    (fun n x a hk _ => ⟨by
      have h9 := nI_ge hk (lt31 (by omega))
      show FX4_given_4 N (n + 1) 108 (nI j) a (nI x) (hR P v p k t l rs hs q) = _
      rw [FX4_given_4, r_now hP, r_n0 hP, hI.nf.1, if_neg h9, nI_1, r_o hP, r_has hP hN hI, I_e, add0, r_now hP, show (104 : Int32) + 8 * nI j + nI x = nI (104 + 8 * j + x) by rw [← nI_add, ← nI_add, ← pk_mul]; rfl, r_ld hP (by omega)]
      simp only [bl_0]
      by_cases h2 : sHas v (nI j) (nI x)
      · rw [if_neg (fun hh => hh h2), if_pos h2]
      · rw [if_pos h2, if_neg h2], trivial⟩)
    (cnt v 0) N 0 0 (by omega) (by omega) trivial
theorem r_pr (hP : P.length = 108) (hN : 13 ≤ N) (hI : Iv v) : FX4_prize N 108 (hR P v p k t l rs hs q) = rI (sPr v) (hR P v p k t l rs hs q) := by
  have hn := hI.nf.2
  unfold FX4_prize sPr
  exact lp_fold (fun n x (a : Int32 × Int32) => FX4_prize_4 N n 108 a.1 x (hR P v p k t l rs hs q)) (cnt v 0) (stPr v) (fun a => rI a.1 (hR P v p k t l rs hs q)) (fun _ a => a = (-1, -1) ∨ ∃ f, f < cnt v 0 ∧ a = (nI f, sPts v f))
    (fun n a _ => by
      show FX4_prize_4 N (n + 1) 108 a.1 (nI (cnt v 0)) (hR P v p k t l rs hs q) = _
      rw [FX4_prize_4, r_now hP, r_n0 hP, hI.nf.1, if_pos (Int32.le_refl _)])
    (fun n x a hk ha => ⟨by
      have h9 := nI_ge hk (lt31 (by omega))
      show FX4_prize_4 N (n + 1) 108 a.1 (nI x) (hR P v p k t l rs hs q) = _
      have hb : FX4_bits (sSeen v (nI x)) (hR P v p k t l rs hs q) = rI (bc (sSeen v (nI x))) (hR P v p k t l rs hs q) := rfl
      obtain ⟨b, hb1, hb2⟩ : ∃ b : Nat, b ≤ 3 ∧ bc (sSeen v (nI x)) = nI b := by
        obtain ⟨m, hm, hm2⟩ := sSeen_8 hI (nI x)
        rw [hm2]
        have : ∀ m, m < 8 → ∃ b : Nat, b ≤ 3 ∧ bc (nI m) = nI b := by
          intro m hm
          have h1 : ∀ m, m < 8 → ∃ b, b < 4 ∧ bc (nI m) = nI b := by decide +kernel
          obtain ⟨b, h2, h3⟩ := h1 m hm
          exact ⟨b, by omega, h3⟩
        exact this m hm
      rw [FX4_prize_4, r_now hP, r_n0 hP, hI.nf.1, if_neg h9, nI_1, r_o hP, r_seers hP hN hI, I_e, hb, I_e]
      unfold stPr
      rw [hb2]
      by_cases h1 : b ≤ 1
      · rw [if_pos (show nI b ≤ 1 from nI_le h1 (by decide)), if_neg (fun hh => absurd hh.1 (nI_ge (a := b) (b := 2) (by omega) (by decide)))]
      · rw [if_neg (show ¬ nI b ≤ 1 from nI_ge (a := 1) (by omega) (by omega))]
        have h2 : (2 : Int32) ≤ nI b := nI_le (a := 2) (by omega) (by omega)
        obtain ⟨w, hw1, hw2⟩ := sPts_n hI (show x < 8 by omega)
        rcases ha with rfl | ⟨f, hf1, rfl⟩
        · rw [if_pos rfl, if_pos ⟨h2, by
            show (-1 : Int32) < sPts v x
            rw [hw2]
            refine Int32.not_le.mp (fun h3 => ?_)
            have h4 := Int32.le_iff_toInt_le.mp h3
            rw [nI_toInt (by omega)] at h4
            have h5 : ((-1 : Int32)).toInt = -1 := rfl
            omega⟩]
        · rw [if_neg (show ¬ nI f = -1 from nI_m1 (by omega)), r_o hP, r_pts hP (show x < 8 by omega) hN hI, I_e, r_o hP, r_pts hP (show f < 8 by omega) hN hI, I_e]
          by_cases h3 : sPts v x ≤ sPts v f
          · rw [if_pos h3, if_neg (fun hh => absurd h3 (Int32.not_le.mpr hh.2))]
          · rw [if_neg h3, if_pos ⟨h2, Int32.not_le.mp h3⟩], by
      show stPr v x a = (-1, -1) ∨ ∃ f, f < cnt v 0 ∧ stPr v x a = (nI f, sPts v f)
      unfold stPr
      split
      · exact Or.inr ⟨x, hk, rfl⟩
      · exact ha⟩)
    (cnt v 0) N 0 (-1, -1) (by omega) (by omega) (Or.inl rfl)
theorem r_run (hP : P.length = 108) {c : Int32} {m : Nat} (hm : m < 2000) (hN : 2001 ≤ N) (hI : Iv v) : FX4_running N 108 c (nI m) (hR P v p k t l rs hs q) = rI (sRun v c (nI m)) (hR P v p k t l rs hs q) := by
  have hn := hI.ns.2
  unfold FX4_running
  rw [← run_e hI (show m < 4000 by omega)]
  have e0 : (6 : Int32) * nI (cnt v 1) = nI (6 * cnt v 1) := pk_mul 6 _
  exact lp_fold (fun n x a => FX4_running_5 N n 108 c (nI m) a x (hR P v p k t l rs hs q)) (6 * cnt v 1) (fun k (a : Int32) => if pQ v c (nI m) k then 6 * sS v (k / 6) 0 + nI (k % 6) else a) (fun a => rI a (hR P v p k t l rs hs q)) (fun _ _ => True)
    (fun n a _ => by
      show FX4_running_5 N (n + 1) 108 c (nI m) a (nI (6 * cnt v 1)) (hR P v p k t l rs hs q) = _
      rw [FX4_running_5, r_now hP, r_n1 hP, hI.ns.1, e0, if_pos (Int32.le_refl _)])
    (fun n x a hk _ => ⟨by
      have h9 := nI_ge hk (lt31 (by omega))
      have hs' : x / 6 < cnt v 1 := by omega
      have h12 : x / 6 < 12 := by omega
      have hf := hI.fo_lt hs'
      have h8 : fmo v (x / 6) < 8 := by have := hI.nf.2; omega
      have hre := hI.re hf
      have hmi := hI.mi hf
      have hst := hI.st hs'
      have hpa := hI.pa hs'
      show FX4_running_5 N (n + 1) 108 c (nI m) a (nI x) (hR P v p k t l rs hs q) = _
      rw [FX4_running_5, r_now hP, r_n1 hP, hI.ns.1, e0, if_neg h9, nI_1]
      have e1 : nI x / 6 = nI (x / 6) := pk_div (d := 6) (by omega) (by decide) (by decide)
      have e2 : nI x - nI (x / 6) * 6 = nI (x % 6) := by
        rw [show (6 : Int32) = nI 6 from rfl, pk_mul, pk_sub (by omega)]
        congr 1
        omega
      simp only [e1, e2, r_o hP, r_rat hP hI hs', r_of1 hP h12, r_of0 hP h12, I_e, hI.fo hs', r_min hP h8]
      unfold sRb0
      by_cases h1 : sS v (x / 6) 1 = c
      · rw [if_pos h1]
        by_cases h2 : x % 6 < nR v (fmo v (x / 6))
        · have h2' : nI (x % 6) < sF v (fmo v (x / 6)) 0 := by rw [hre.1]; exact nI_lt h2 (by omega)
          have hb := nBeg_le hI (a := nA v (x / 6)) (p := nB v (x / 6)) hf (show x % 6 ≤ 6 by omega)
          have e3 : sBeg (sS v (x / 6) 2) (sS v (x / 6) 3) (sF v (fmo v (x / 6)) 0) (sF v (fmo v (x / 6)) 1) (nI (x % 6)) = nI (nBeg v (fmo v (x / 6)) (nA v (x / 6)) (nB v (x / 6)) (x % 6)) := by
            rw [hst.1, hpa.1]; exact sBeg_e hI hf (by omega)
          have e4 : nI (nBeg v (fmo v (x / 6)) (nA v (x / 6)) (nB v (x / 6)) (x % 6)) + sF v (fmo v (x / 6)) 1 - 1 = nI (nBeg v (fmo v (x / 6)) (nA v (x / 6)) (nB v (x / 6)) (x % 6) + nM v (fmo v (x / 6)) - 1) := by
            rw [hmi.1, nI_add, show (1 : Int32) = nI 1 from rfl, pk_sub (by omega)]
          rw [if_pos h2', e3, if_neg (nI_m1 (by omega)), e4, e_in4, I_e]
          have h5 : (nI (nBeg v (fmo v (x / 6)) (nA v (x / 6)) (nB v (x / 6)) (x % 6)) ≤ nI m ∧ nI m ≤ nI (nBeg v (fmo v (x / 6)) (nA v (x / 6)) (nB v (x / 6)) (x % 6) + nM v (fmo v (x / 6)) - 1)) ↔ pAt v (x / 6) (nI m) (x % 6) := by
            rw [pAt_e hI hs' (by omega) (by omega), nI_leI (by omega) (by omega), nI_leI (by omega) (by omega)]
            omega
          simp only [bl_0]
          by_cases h6 : pAt v (x / 6) (nI m) (x % 6)
          · rw [if_neg (fun hh => hh (h5.mpr h6)), r_o hP, r_of0 hP h12, I_e, hI.fo hs', if_pos ⟨h1, h2, h6⟩]
          · rw [if_pos (fun hh => h6 (h5.mp hh)), if_neg (fun hh => h6 hh.2.2)]
        · have h2' : ¬ nI (x % 6) < sF v (fmo v (x / 6)) 0 := by rw [hre.1]; exact nI_nlt (by omega) (by omega)
          rw [if_neg h2', if_pos rfl, if_neg (fun hh => h2 hh.2.1)]
      · rw [if_neg h1, if_neg (fun hh => h1 hh.1)], trivial⟩)
    (6 * cnt v 1) N 0 (-1) (by omega) (by omega) trivial
theorem r_b_l (hP : P.length = 108) (hN : 2001 ≤ N) (hI : Iv v) {f a : Nat} (hf : f < cnt v 0) (ha : a < 2000) : ∀ (d n c : Nat) (u : Int32 × Int32) (rs : Nat → Int32), c + d = 3 → d < n → (u.1 = -1 ∨ ∃ j, j < 3 ∧ u.1 = nI j) →
    ∃ x y z, FX4_best_8 N n 108 (nI f) (nI a) u.1 u.2 (nI c) (hR P v p k t l rs hs q) = rI (fd (stB v f a) c d u).1 (hR P v p k t l (w3 rs x y z) hs q)
  | 0, n, c, u, rs, hd, hn, _ => by
    obtain ⟨m, rfl⟩ : ∃ m, n = m + 1 := ⟨n - 1, by omega⟩
    have : c = 3 := by omega
    subst this
    refine ⟨rs 4, rs 5, rs 6, ?_⟩
    rw [FX4_best_8, if_pos (by decide)]
    rfl
  | d + 1, n, c, u, rs, hd, hn, hu => by
    obtain ⟨m, rfl⟩ : ∃ m, n = m + 1 := ⟨n - 1, by omega⟩
    obtain ⟨x, y, z, h1⟩ := r_nx (v := v) (p := p) (k := k) (t := t) (l := l) (rs := rs) (hs := hs) (q := q) hP hN hI (c := c) hf ha
    obtain ⟨x', y', z', h2⟩ := r_b_l hP hN hI hf ha d m (c + 1) (stB v f a c u) (w3 rs x y z) (by omega) (by omega) (by
      unfold stB
      by_cases h1 : sNx v f c a = -1
      · rw [if_pos h1]; exact hu
      · rw [if_neg h1]
        split
        · exact Or.inr ⟨c, by omega, rfl⟩
        · exact hu)
    rw [w3_w3] at h2
    refine ⟨x', y', z', ?_⟩
    rw [FX4_best_8, if_neg (show ¬ (3 : Int32) ≤ nI c from nI_ge (b := 3) (by omega) (by decide)), r_o hP, h1, I_e, nI_1]
    show _ = rI (fd (stB v f a) (c + 1) d (stB v f a c u)).1 _
    rw [← h2]
    unfold stB
    by_cases c1 : u.1 = -1
    · rw [if_pos c1]
      by_cases c2 : sNx v f c a = -1
      · rw [if_pos c2, if_pos c2]
      · rw [if_neg c2, if_neg c2, if_pos c1, if_pos (Or.inl c1)]
    · rw [if_neg c1]
      rcases hu with hu | ⟨j, hj, hu⟩
      · exact absurd hu c1
      have e2 : u.1.toNatClampNeg = j := by rw [hu, nI_clamp (by omega)]
      have l1 : ∀ g, jf_ldI (hR P v p k t l (w3 rs x y z) hs q) 109 (7 + nI c) g = g (v (7 + c)) := fun g => by
        rw [show (7 : Int32) + nI c = nI (7 + c) by rw [← nI_add]; rfl]; exact r_ld hP (by omega)
      have l2 : ∀ g, jf_ldI (hR P v p k t l (w3 rs x y z) hs q) 109 (7 + u.1) g = g (v (7 + u.1.toNatClampNeg)) := fun g => by
        rw [hu, nI_clamp (by omega), show (7 : Int32) + nI j = nI (7 + j) by rw [← nI_add]; rfl]; exact r_ld hP (by omega)
      simp only [r_now hP, l1, l2]
      by_cases c3 : sNx v f c a = u.2
      · rw [if_pos c3]
        by_cases c2 : sNx v f c a = -1
        · simp only [if_pos c2, ite_self]
        · simp only [if_neg c2, if_neg c1]
          have c4 : ¬ sNx v f c a < u.2 := by rw [c3]; exact fun h => Int32.lt_irrefl h
          simp only [if_neg c4]
          by_cases c5 : v (7 + c) ≤ v (7 + u.1.toNatClampNeg)
          · rw [if_pos c5, if_neg]
            rintro (h | h | ⟨-, h⟩)
            · exact c1 h
            · exact c4 h
            · exact absurd c5 (Int32.not_le.mpr h)
          · rw [if_neg c5, if_pos (Or.inr (Or.inr ⟨c3, Int32.not_le.mp c5⟩))]
      · rw [if_neg c3]
        by_cases c2 : sNx v f c a = -1
        · rw [if_pos c2, if_pos c2]
        · rw [if_neg c2, if_neg c2, if_neg c1]
          by_cases c4 : sNx v f c a < u.2
          · rw [if_pos c4, if_pos (Or.inr (Or.inl c4))]
          · rw [if_neg c4, if_neg]
            rintro (h | h | ⟨h, -⟩)
            · exact c1 h
            · exact c4 h
            · exact c3 h
theorem r_b (hP : P.length = 108) (hN : 2001 ≤ N) (hI : Iv v) {f a : Nat} (hf : f < cnt v 0) (ha : a < 2000) : ∃ x y z, FX4_best N 108 (nI f) (nI a) (hR P v p k t l rs hs q) = rI (sB v f a) (hR P v p k t l (w3 rs x y z) hs q) := by
  unfold FX4_best sB
  exact r_b_l hP hN hI hf ha 3 N 0 (-1, -1) rs (by omega) (by omega) (Or.inl rfl)
/-! numbers of a film, a showing, a screen, a guest, a juror -/
theorem r_film (hP : P.length = 108) {f w : Nat} (hN : 13 ≤ N) (hI : Iv v) (hf : f < cnt v 0) (hw : w < 6) : FX4_aboutFilm N 108 (nI f) (nI w) (hR P v p k t l rs hs q) = rI (sFilm v f w) (hR P v p k t l rs hs q) := by
  have h8 : f < 8 := by have := hI.nf.2; omega
  unfold FX4_aboutFilm
  match w, hw with
  | 0, _ => rw [sw_e (i := 0) (lo := 0) rfl (Nat.le_of_ble_eq_true rfl) rfl, r_o hP, r_reels hP h8, I_e]; rfl
  | 1, _ => rw [sw_e (i := 1) (lo := 0) rfl (Nat.le_of_ble_eq_true rfl) rfl, r_o hP, r_min hP h8, I_e]; rfl
  | 2, _ => rw [sw_e (i := 2) (lo := 0) rfl (Nat.le_of_ble_eq_true rfl) rfl, r_o hP, r_shw hP hN hI, I_e]; rfl
  | 3, _ => rw [sw_e (i := 3) (lo := 0) rfl (Nat.le_of_ble_eq_true rfl) rfl, r_o hP, r_sts hP hN hI (nI_m1 (by omega)), I_e]; rfl
  | 4, _ => rw [sw_e (i := 4) (lo := 0) rfl (Nat.le_of_ble_eq_true rfl) rfl, r_o hP, r_seers hP hN hI, I_e]; rfl
  | 5, _ => rw [sw_d (k := 5) (lo := 0) rfl (by decide) (Nat.le_of_ble_eq_true rfl) (Or.inr (Nat.le_of_ble_eq_true rfl)), r_o hP, r_pts hP h8 hN hI, I_e]; rfl
theorem r_show (hP : P.length = 108) {s w : Nat} (hI : Iv v) (hs' : s < cnt v 1) (hw : w < 6) : FX4_aboutShowing 108 (nI s) (nI w) (hR P v p k t l rs hs q) = rI (sShow v s w) (hR P v p k t l rs hs q) := by
  have h12 : s < 12 := by have := hI.ns.2; omega
  unfold FX4_aboutShowing
  match w, hw with
  | 0, _ => rw [sw_d (k := 0) (lo := 3) rfl (by decide) (Nat.le_of_ble_eq_true rfl) (Or.inl (by decide)), r_o hP, r_of (c := 0) hP h12 (by decide), I_e]; rfl
  | 1, _ => rw [sw_d (k := 1) (lo := 3) rfl (by decide) (Nat.le_of_ble_eq_true rfl) (Or.inl (by decide)), r_o hP, r_of (c := 1) hP h12 (by decide), I_e]; rfl
  | 2, _ => rw [sw_d (k := 2) (lo := 3) rfl (by decide) (Nat.le_of_ble_eq_true rfl) (Or.inl (by decide)), r_o hP, r_of (c := 2) hP h12 (by decide), I_e]; rfl
  | 3, _ => rw [sw_e (i := 0) (lo := 3) rfl (Nat.le_of_ble_eq_true rfl) rfl, r_o hP, r_end hP hI hs', I_e]; rfl
  | 4, _ => rw [sw_e (i := 1) (lo := 3) rfl (Nat.le_of_ble_eq_true rfl) rfl, r_o hP, r_of3 hP h12, I_e]; rfl
  | 5, _ => rw [sw_e (i := 2) (lo := 3) rfl (Nat.le_of_ble_eq_true rfl) rfl, r_o hP, r_of4 hP h12, I_e]; rfl
theorem r_gst (hP : P.length = 108) {g w : Nat} (hN : 13 ≤ N) (hI : Iv v) (hg : g < cnt v 2) (hw : w < 4) : FX4_aboutGuest N 108 (nI g) (nI w) (hR P v p k t l rs hs q) = rI (sGst v g w) (hR P v p k t l rs hs q) := by
  have h6 : g < 6 := by have := hI.ng.2; omega
  unfold FX4_aboutGuest
  match w, hw with
  | 0, _ => rw [if_neg (by decide), r_o hP, r_gh (c := 0) hP h6 (by decide), I_e]; rfl
  | 1, _ => rw [if_neg (by decide), r_o hP, r_gh (c := 1) hP h6 (by decide), I_e]; rfl
  | 2, _ => rw [if_neg (by decide), r_o hP, r_gh (c := 2) hP h6 (by decide), I_e]; rfl
  | 3, _ => rw [if_pos (by decide), r_o hP, r_gr hP hN hI h6, I_e]; rfl
theorem r_jur (hP : P.length = 108) {j w : Nat} (hN : 13 ≤ N) (hI : Iv v) (hj : j < 3) (hw : w < 3) : FX4_aboutJuror N 108 (nI j) (nI w) (hR P v p k t l rs hs q) = rI (sJur v j w) (hR P v p k t l rs hs q) := by
  unfold FX4_aboutJuror
  match w, hw with
  | 0, _ => rw [if_pos (by decide), r_o hP, r_going hP hN hI, I_e]; rfl
  | 1, _ => rw [if_neg (by decide), if_pos (by decide), r_o hP, r_mask hP hN hI, I_e]; rfl
  | 2, _ => rw [if_neg (by decide), if_neg (by decide), r_o hP, r_from hP hj hN hI, I_e]; rfl
theorem r_scr (hP : P.length = 108) {c w : Nat} (hN : 13 ≤ N) (hI : Iv v) (hc : c < 3) (hw : w < 5) : FX4_aboutScreen N 108 (nI c) (nI w) (hR P v p k t l rs hs q) = rI (sScr v c w) (hR P v p k t l rs hs q) := by
  unfold FX4_aboutScreen
  match w, hw with
  | 0, _ => rw [sw_e (i := 0) (lo := 0) rfl (Nat.le_of_ble_eq_true rfl) rfl, r_now hP, show (7 : Int32) + nI c = nI (7 + c) by rw [← nI_add]; rfl, r_ld hP (by omega)]; rfl
  | 1, _ => rw [sw_e (i := 1) (lo := 0) rfl (Nat.le_of_ble_eq_true rfl) rfl, r_o hP, r_ons hP hN hI, I_e]; rfl
  | 2, _ => rw [sw_e (i := 2) (lo := 0) rfl (Nat.le_of_ble_eq_true rfl) rfl, r_o hP, r_use hP hN hI, I_e]; rfl
  | 3, _ => rw [sw_e (i := 3) (lo := 0) rfl (Nat.le_of_ble_eq_true rfl) rfl, r_o hP, r_use hP hN hI, I_e]; rfl
  | 4, _ => rw [sw_d (k := 4) (lo := 0) rfl (by decide) (Nat.le_of_ble_eq_true rfl) (Or.inr (Nat.le_of_ble_eq_true rfl)), r_o hP, r_last hP hN hI, I_e]; rfl
end RI

/-! THE REFERENCE, its looks: who has seen what, the prize, what runs, the best screen -/
theorem any_s {p : Nat → Prop} {n : Nat} : (¬ ∀ s, s < n + 1 → ¬ p s) ↔ (¬ ∀ s, s < n → ¬ p s) ∨ p n := by
  constructor
  · intro h
    by_cases hp : p n
    · exact Or.inr hp
    · refine Or.inl (fun h2 => h (fun s hs => ?_))
      by_cases hsn : s = n
      · rw [hsn]; exact hp
      · exact h2 s (by omega)
  · rintro (h | h) h2
    · exact h (fun s hs => h2 s (by omega))
    · exact h2 n (by omega) h
theorem any_0 {p : Nat → Prop} : ¬ ¬ ∀ s, s < 0 → ¬ p s := fun h => h (fun s hs => absurd hs (Nat.not_lt_zero s))
theorem hb8 : ∀ a, a < 8 → ∀ b, b < 8 → ∀ j, j < 3 → (hb (nI a ||| nI b) (nI j) ↔ hb (nI a) (nI j) ∨ hb (nI b) (nI j)) := by decide +kernel
theorem hb0 : ∀ j, j < 3 → ¬ hb (nI 0) (nI j) := by decide +kernel
theorem rebuild8 : ∀ m, m < 8 → fd (fun j (a : Int32) => if hb (nI m) (nI j) then a ||| ((1 : Int32) <<< (nI j &&& 31)) else a) 0 3 0 = nI m := by decide +kernel
theorem seen_l {v : Nat → Int32} (hI : Iv v) (f : Int32) : ∀ n, n ≤ cnt v 1 → ∃ m, m < 8 ∧ fd (fun s a => if sS v s 0 = f then a ||| sS v s 4 else a) 0 n 0 = nI m ∧ ∀ j, j < 3 → (hb (nI m) (nI j) ↔ ¬ ∀ s, s < n → ¬ (sS v s 0 = f ∧ hb (sS v s 4) (nI j)))
  | 0, _ => ⟨0, by decide, rfl, fun j hj => ⟨fun h => absurd h (hb0 j hj), fun h => absurd h any_0⟩⟩
  | n + 1, hn => by
    obtain ⟨m, hm, h1, h2⟩ := seen_l hI f n (by omega)
    rw [fd_last, h1, Nat.zero_add]
    by_cases hc : sS v n 0 = f
    · rw [if_pos hc, hI.go (show n < cnt v 1 by omega)]
      obtain ⟨c, hc8, hce⟩ := or8 hm (hI.go_lt (show n < cnt v 1 by omega))
      refine ⟨c, hc8, hce, fun j hj => ?_⟩
      rw [← hce, hb8 m hm _ (hI.go_lt (show n < cnt v 1 by omega)) j hj, h2 j hj, any_s, hI.go (show n < cnt v 1 by omega)]
      exact ⟨fun h => h.elim Or.inl (fun h => Or.inr ⟨hc, h⟩), fun h => h.elim Or.inl (fun h => Or.inr h.2)⟩
    · rw [if_neg hc]
      refine ⟨m, hm, rfl, fun j hj => ?_⟩
      rw [h2 j hj, any_s]
      exact ⟨Or.inl, fun h => h.elim id (fun h => absurd h.1 hc)⟩
theorem sSeen_has {v : Nat → Int32} (hI : Iv v) {f : Int32} {j : Nat} (hj : j < 3) : hb (sSeen v f) (nI j) ↔ sHas v (nI j) f := by
  obtain ⟨m, hm, h1, h2⟩ := seen_l hI f (cnt v 1) (Nat.le_refl _)
  unfold sSeen
  rw [h1]
  exact h2 j hj
/-! masks of films -/
theorem or256 : ∀ a, a < 256 → ∀ g, g < 8 → nI a ||| ((1 : Int32) <<< (nI g &&& 31)) = nI (a ||| 2 ^ g) := by decide +kernel
theorem hbtb : ∀ a, a < 256 → ∀ f, f < 8 → (hb (nI a) (nI f) ↔ a.testBit f = true) := by decide +kernel
theorem tb_eq {a b : Nat} (ha : a < 256) (hb : b < 256) (h : ∀ f, f < 8 → (a.testBit f = true ↔ b.testBit f = true)) : a = b := by
  refine Nat.eq_of_testBit_eq (fun i => ?_)
  by_cases hi : i < 8
  · have := h i hi
    cases h1 : a.testBit i <;> cases h2 : b.testBit i <;> simp [h1, h2] at this ⊢
  · have h1 : 2 ^ 8 ≤ 2 ^ i := Nat.pow_le_pow_right (by decide) (by omega)
    rw [Nat.testBit_lt_two_pow (show a < 2 ^ i by omega), Nat.testBit_lt_two_pow (show b < 2 ^ i by omega)]
theorem or_lt {a g : Nat} (ha : a < 256) (hg : g < 8) : a ||| 2 ^ g < 256 := Nat.or_lt_two_pow (n := 8) ha (Nat.pow_lt_pow_right (by decide) hg)
theorem tb_or {a g f : Nat} : (a ||| 2 ^ g).testBit f = true ↔ a.testBit f = true ∨ g = f := by
  rw [Nat.testBit_or, Nat.testBit_two_pow]
  simp
theorem mask_l {v : Nat → Int32} (hI : Iv v) (j : Int32) : ∀ n, n ≤ cnt v 1 → ∃ m, m < 256 ∧ fd (fun s a => if hb (sS v s 4) j then a ||| ((1 : Int32) <<< (sS v s 0 &&& 31)) else a) 0 n 0 = nI m ∧ ∀ f, f < 8 → (m.testBit f = true ↔ ¬ ∀ s, s < n → ¬ (sS v s 0 = nI f ∧ hb (sS v s 4) j))
  | 0, _ => ⟨0, by decide, rfl, fun j hj => ⟨fun h => absurd h (by simp), fun h => absurd h any_0⟩⟩
  | n + 1, hn => by
    obtain ⟨m, hm, h1, h2⟩ := mask_l hI j n (by omega)
    rw [fd_last, h1, Nat.zero_add]
    have hlt := hI.fo_lt (show n < cnt v 1 by omega)
    have h8 := hI.nf.2
    by_cases hc : hb (sS v n 4) j
    · rw [if_pos hc, hI.fo (show n < cnt v 1 by omega), or256 m hm _ (by omega)]
      refine ⟨_, or_lt hm (by omega), rfl, fun f hf => ?_⟩
      rw [tb_or, h2 f hf, any_s, hI.fo (show n < cnt v 1 by omega), nI_eq (by omega) (by omega)]
      exact ⟨fun h => h.elim Or.inl (fun h => Or.inr ⟨h, hc⟩), fun h => h.elim Or.inl (fun h => Or.inr h.1)⟩
    · rw [if_neg hc]
      refine ⟨m, hm, rfl, fun f hf => ?_⟩
      rw [h2 f hf, any_s]
      exact ⟨Or.inl, fun h => h.elim id (fun h => absurd h.2 hc)⟩
theorem mask_r {v : Nat → Int32} (hI : Iv v) (j : Int32) : ∀ n, n ≤ cnt v 0 → ∃ m, m < 256 ∧ fd (fun f (a : Int32) => if sHas v j (nI f) then a ||| ((1 : Int32) <<< (nI f &&& 31)) else a) 0 n 0 = nI m ∧ ∀ f, f < 8 → (m.testBit f = true ↔ f < n ∧ sHas v j (nI f))
  | 0, _ => ⟨0, by decide, rfl, fun j hj => ⟨fun h => absurd h (by simp), fun h => absurd h.1 (by omega)⟩⟩
  | n + 1, hn => by
    obtain ⟨m, hm, h1, h2⟩ := mask_r hI j n (by omega)
    rw [fd_last, h1, Nat.zero_add]
    have h8 := hI.nf.2
    by_cases hc : sHas v j (nI n)
    · rw [if_pos hc, or256 m hm _ (by omega)]
      refine ⟨_, or_lt hm (by omega), rfl, fun f hf => ?_⟩
      rw [tb_or, h2 f hf]
      constructor
      · rintro (h | h)
        · exact ⟨by omega, h.2⟩
        · subst h; exact ⟨by omega, hc⟩
      · intro h
        by_cases hfn : n = f
        · exact Or.inr hfn
        · exact Or.inl ⟨by omega, h.2⟩
    · rw [if_neg hc]
      refine ⟨m, hm, rfl, fun f hf => ?_⟩
      rw [h2 f hf]
      constructor
      · exact fun h => ⟨by omega, h.2⟩
      · intro h
        by_cases hfn : f = n
        · subst hfn; exact absurd h.2 hc
        · exact ⟨by omega, h.2⟩
theorem has_lt {v : Nat → Int32} (hI : Iv v) {j : Int32} {f : Nat} (hf : f < 8) (h : sHas v j (nI f)) : f < cnt v 0 := by
  apply Classical.byContradiction
  intro hn
  refine h (fun s hs h2 => hn ?_)
  have h3 := h2.1
  have h4 := hI.fo_lt hs
  have h5 := hI.nf.2
  rw [hI.fo hs] at h3
  have := (nI_eq (by omega) (by omega)).mp h3
  omega
theorem mask_e {v : Nat → Int32} (hI : Iv v) (j : Int32) : fd (fun f (a : Int32) => if sHas v j (nI f) then a ||| ((1 : Int32) <<< (nI f &&& 31)) else a) 0 (cnt v 0) 0 = sMask v j := by
  obtain ⟨m, hm, h1, h2⟩ := mask_r hI j (cnt v 0) (Nat.le_refl _)
  obtain ⟨m', hm', h1', h2'⟩ := mask_l hI j (cnt v 1) (Nat.le_refl _)
  unfold sMask
  rw [h1, h1', tb_eq hm hm' (fun f hf => ?_)]
  rw [h2 f hf, h2' f hf]
  exact ⟨fun h => h.2, fun h => ⟨has_lt hI hf h, h⟩⟩
theorem sMask_has {v : Nat → Int32} (hI : Iv v) {j : Int32} {f : Nat} (hf : f < 8) : hb (sMask v j) (nI f) ↔ sHas v j (nI f) := by
  obtain ⟨m', hm', h1', h2'⟩ := mask_l hI j (cnt v 1) (Nat.le_refl _)
  unfold sMask
  rw [h1', hbtb m' hm' f hf, h2' f hf]
theorem sPts_n {v : Nat → Int32} (hI : Iv v) {f : Nat} (hf : f < 8) : ∃ k : Nat, k ≤ 30 ∧ sPts v f = nI k := by
  unfold sPts
  obtain ⟨k, h1, h2⟩ := fd_inv (f := fun j a => if hb (sSeen v (nI f)) (nI j) then a + sP v j f else a) (fun i a => ∃ k : Nat, k ≤ 10 * i ∧ a = nI k) 3 0 0 ⟨0, by decide, rfl⟩ (fun i a _ h2 ⟨m, hm, ha⟩ => by
    show ∃ k : Nat, k ≤ 10 * (i + 1) ∧ (if hb (sSeen v (nI f)) (nI i) then a + sP v i f else a) = nI k
    by_cases hc : hb (sSeen v (nI f)) (nI i)
    · obtain ⟨u, hu, -, hu2⟩ := hI.2.2.2.2.2.2.1 i f (by omega) hf
      exact ⟨m + u, by omega, by rw [if_pos hc, ha, hu, nI_add]⟩
    · exact ⟨m, by omega, by rw [if_neg hc]; exact ha⟩)
  exact ⟨k, by omega, h2⟩
/-! what runs -/
theorem ffst_cases {α : Type} (P : Nat → Prop) [DecidablePred P] (g : Nat → α) (e : α) : ∀ (d k : Nat), (ffst P g e k d = e ∧ ∀ i, k ≤ i → i < k + d → ¬ P i) ∨ ∃ i, k ≤ i ∧ i < k + d ∧ P i ∧ ffst P g e k d = g i ∧ ∀ j, k ≤ j → j < i → ¬ P j
  | 0, k => Or.inl ⟨rfl, fun i h1 h2 => by omega⟩
  | d + 1, k => by
    by_cases hp : P k
    · refine Or.inr ⟨k, Nat.le_refl _, by omega, hp, ?_, fun j h1 h2 => by omega⟩
      show (if P k then g k else _) = g k
      rw [if_pos hp]
    · have e1 : ffst P g e k (d + 1) = ffst P g e (k + 1) d := by
        show (if P k then g k else _) = _
        rw [if_neg hp]
      rw [e1]
      rcases ffst_cases P g e d (k + 1) with ⟨h1, h2⟩ | ⟨i, h1, h2, h3, h4, h5⟩
      · refine Or.inl ⟨h1, fun i hi hj => ?_⟩
        by_cases hk : i = k
        · rw [hk]; exact hp
        · exact h2 i (by omega) (by omega)
      · refine Or.inr ⟨i, by omega, by omega, h3, h4, fun j hj hji => ?_⟩
        by_cases hk : j = k
        · rw [hk]; exact hp
        · exact h5 j (by omega) hji
/-- kept last: none -/
theorem fl_no {α : Type} {P : Nat → Prop} [DecidablePred P] {g : Nat → α} : ∀ (d k : Nat) (e : α), (∀ i, k ≤ i → i < k + d → ¬ P i) → fd (fun i a => if P i then g i else a) k d e = e
  | 0, _, _, _ => rfl
  | d + 1, k, e, h => by
    show fd _ (k + 1) d (if P k then g k else e) = e
    rw [if_neg (h k (Nat.le_refl _) (by omega))]
    exact fl_no d (k + 1) e (fun i h1 h2 => h i (by omega) (by omega))
/-- kept last: one only -/
theorem fl_one {α : Type} {P : Nat → Prop} [DecidablePred P] {g : Nat → α} {i : Nat} (hi : P i) : ∀ (d k : Nat) (e : α), k ≤ i → i < k + d → (∀ j, k ≤ j → j < k + d → P j → j = i) → fd (fun i a => if P i then g i else a) k d e = g i
  | 0, k, e, h1, h2, _ => by omega
  | d + 1, k, e, h1, h2, h => by
    show fd _ (k + 1) d (if P k then g k else e) = g i
    by_cases hk : k = i
    · subst hk
      rw [if_pos hi]
      exact fl_no d (k + 1) _ (fun j h3 h4 hp => by have := h j (by omega) (by omega) hp; omega)
    · rw [if_neg (fun hp => hk (h k (Nat.le_refl _) (by omega) hp))]
      exact fl_one hi d (k + 1) e (by omega) (by omega) (fun j h3 h4 hp => h j (by omega) (by omega) hp)
abbrev pQ (v : Nat → Int32) (c m : Int32) (k : Nat) : Prop := sS v (k / 6) 1 = c ∧ k % 6 < nR v (fmo v (k / 6)) ∧ pAt v (k / 6) m (k % 6)
theorem zEn {v : Nat → Int32} (hI : Iv v) {s t : Nat} (hs : s < cnt v 1) (ht : t < cnt v 1) (hne : s ≠ t) (hsc : sS v s 1 = sS v t 1) : nE v s ≤ nA v t ∨ nE v t ≤ nA v s := by
  have h1 := hI.so_lt hs
  have h2 := hI.so_lt ht
  rw [hI.so hs, hI.so ht] at hsc
  have h3 := hI.2.2.2.2.2.2.2 s t hs ht hne ((nI_eq (by omega) (by omega)).mp hsc)
  have h4 := hI.st hs
  have h5 := hI.st ht
  rw [hI.zend hs, hI.zend ht, h4.1, h5.1, i_nI (by omega), i_nI (by omega)] at h3
  omega
theorem at_in {v : Nat → Int32} (hI : Iv v) {s t k : Nat} (hs : s < cnt v 1) (ht : t < 4000) (hk : k < nR v (fmo v s)) (h : pAt v s (nI t) k) : nA v s ≤ t ∧ t < nE v s := by
  have hf := hI.fo_lt hs
  have h6 := (hI.re hf).2.2
  have h2 := (pAt_e hI hs ht (show k ≤ 6 by omega)).mp h
  have h3 := nBeg_le hI (a := nA v s) (p := nB v s) hf (show k ≤ 6 by omega)
  have h4 : (k + 1) * nM v (fmo v s) ≤ nR v (fmo v s) * nM v (fmo v s) := Nat.mul_le_mul_right _ hk
  rw [Nat.succ_mul] at h4
  unfold nE
  omega
theorem at_one {v : Nat → Int32} (hI : Iv v) {s t k k' : Nat} (hs : s < cnt v 1) (ht : t < 4000) (hk : k < nR v (fmo v s)) (hkk : k < k') (hk' : k' < nR v (fmo v s)) (h : pAt v s (nI t) k) (h' : pAt v s (nI t) k') : False := by
  have hf := hI.fo_lt hs
  have h6 := (hI.re hf).2.2
  have h2 := (pAt_e hI hs ht (show k ≤ 6 by omega)).mp h
  have h3 := (pAt_e hI hs ht (show k' ≤ 6 by omega)).mp h'
  have h4 : (k + 1) * nM v (fmo v s) ≤ k' * nM v (fmo v s) := Nat.mul_le_mul_right _ hkk
  rw [Nat.succ_mul] at h4
  unfold nBeg at h2 h3
  by_cases hc : (nR v (fmo v s) + 1) / 2 ≤ k
  · rw [if_pos hc] at h2
    rw [if_pos (by omega)] at h3
    omega
  · rw [if_neg hc] at h2
    omega
theorem pQ_one {v : Nat → Int32} (hI : Iv v) {c : Int32} {t k k' : Nat} (ht : t < 4000) (hk : k < 6 * cnt v 1) (hk' : k' < 6 * cnt v 1) (h : pQ v c (nI t) k) (h' : pQ v c (nI t) k') : k' = k := by
  have hs : k / 6 < cnt v 1 := by omega
  have hs' : k' / 6 < cnt v 1 := by omega
  by_cases he : k' / 6 = k / 6
  · have h1 := h'
    unfold pQ at h1
    rw [he] at h1
    rcases Nat.lt_trichotomy (k % 6) (k' % 6) with h2 | h2 | h2
    · exact (at_one hI hs ht h.2.1 h2 h1.2.1 h.2.2 h1.2.2).elim
    · omega
    · exact (at_one hI hs ht h1.2.1 h2 h.2.1 h1.2.2 h.2.2).elim
  · have h1 := at_in hI hs ht h.2.1 h.2.2
    have h2 := at_in hI hs' ht h'.2.1 h'.2.2
    have h3 := zEn hI hs hs' (fun h9 => he h9.symm) (h.1.trans h'.1.symm)
    omega
theorem run_e {v : Nat → Int32} (hI : Iv v) {c : Int32} {t : Nat} (ht : t < 4000) : fd (fun k (a : Int32) => if pQ v c (nI t) k then 6 * sS v (k / 6) 0 + nI (k % 6) else a) 0 (6 * cnt v 1) (-1) = sRun v c (nI t) := by
  unfold sRun
  have hn := hI.ns.2
  rcases ffst_cases (pRun v c (nI t)) (fun s => 6 * sS v s 0 + sAt v s (nI t)) (-1) (cnt v 1) 0 with ⟨h1, h2⟩ | ⟨i, -, hi, hp, h1, h2⟩
  · rw [h1]
    refine fl_no _ _ _ (fun k _ hk hq => h2 (k / 6) (Nat.zero_le _) (by omega) ⟨hq.1, fun h9 => ?_⟩)
    exact (sAt_m1 hI (by omega)).mp h9 _ hq.2.1 hq.2.2
  · rw [h1]
    have hi' : i < cnt v 1 := by omega
    obtain ⟨r, -, hr, hpr, her, -⟩ := fi_at (show fi (pAt v i (nI t)) 0 (nR v (fmo v i)) ≠ -1 from hp.2)
    have h6 := (hI.re (hI.fo_lt hi')).2.2
    have e1 : (6 * i + r) / 6 = i := by omega
    have e2 : (6 * i + r) % 6 = r := by omega
    have hq : pQ v c (nI t) (6 * i + r) := by
      unfold pQ
      rw [e1, e2]
      exact ⟨hp.1, by omega, hpr⟩
    rw [fl_one (g := fun k => 6 * sS v (k / 6) 0 + nI (k % 6)) hq (6 * cnt v 1) 0 (-1) (by omega) (by omega) (fun j _ hj hpj => pQ_one hI ht (by omega) (by omega) hq hpj)]
    show 6 * sS v ((6 * i + r) / 6) 0 + nI ((6 * i + r) % 6) = 6 * sS v i 0 + sAt v i (nI t)
    rw [e1, e2, show sAt v i (nI t) = nI r from her]
section RI
variable {P : jm_H} {v p k t l rs : Nat → Int32} {hs : Int64} {q : jm_H} {N : Nat}
end RI


/-! THE INVARIANT KEPT, where showings change -/
theorem fi_none {P : Nat → Prop} [DecidablePred P] {k d : Nat} (h : fi P k d = -1) (hb : k + d < 2 ^ 31) : ∀ i, k ≤ i → i < k + d → ¬ P i := by
  rcases fi_cases P d k with ⟨-, h2⟩ | ⟨i, h1, h2, -, h4, -⟩
  · exact h2
  · rw [h] at h4
    exact absurd h4.symm (nI_m1 (by omega))
section KJ
variable {v w : Nat → Int32}
theorem sRb_0 (hI : Iv v) {f c a p : Nat} {x : Int32} (hf : f < cnt v 0) (hc : c < 3) (ha : a < 2000) (hp : p ≤ 20) (h : sRb v f (nI c) (nI a) (nI p) x = 0) : a + nR v f * nM v f + p ≤ 2000 ∧ ∀ o, o < cnt v 1 → nI o ≠ x → sco v o = c → (nE v o ≤ a ∨ a + nR v f * nM v f + p ≤ nA v o) := by
  obtain ⟨hl, hl2⟩ := hI.len hf
  have hn := hI.ns.2
  unfold sRb at h
  rw [hl, nI_add, nI_add] at h
  by_cases h1 : nI (a + nR v f * nM v f + p) ≤ 2000
  · rw [if_pos h1] at h
    have h1' : a + nR v f * nM v f + p ≤ 2000 := (nI_leI (a := a + nR v f * nM v f + p) (b := 2000) (by omega) (by decide)).mp h1
    refine ⟨h1', fun o ho hx hsc => ?_⟩
    by_cases h2 : sTs v (nI c) (nI a) (nI (a + nR v f * nM v f + p)) x = -1
    · have h3 := fi_none h2 (by omega) o (by omega) (by omega)
      rw [pScr_e hI ho hc (by omega) (by omega)] at h3
      by_cases h4 : nE v o ≤ a
      · exact Or.inl h4
      · refine Or.inr ?_
        rcases Nat.lt_or_ge (nA v o) (a + nR v f * nM v f + p) with h5 | h5
        · exact absurd ⟨hx, hsc, by omega, by omega⟩ h3
        · exact h5
    · rw [if_neg h2] at h
      exact absurd h (by decide)
  · rw [if_neg h1] at h
    exact absurd h (by decide)
theorem sRf_z {f : Nat} {c a p : Int32} (h : sRf v f c a p = 0) : v 1 < 12 ∧ sRb v f c a p (-1) = 0 := by
  unfold sRf at h
  by_cases h1 : v 1 < 12
  · rw [if_pos h1] at h; exact ⟨h1, h⟩
  · rw [if_neg h1] at h; exact absurd h (by decide)
theorem isN_nI {x a b : Nat} (h1 : a ≤ x) (h2 : x ≤ b) : isN (nI x) a b := ⟨x, rfl, h1, h2⟩
/-- a showing of given numbers is all right -/
theorem okN {s f c a p g : Nat} (h : ∀ k, k < 2 → sF w f k = sF v f k) (hI : Iv v) (hf : f < cnt v 0) (h0 : cnt v 0 ≤ cnt w 0) (hc : c < 3) (ha : a < 2000) (hp : p ≤ 20) (hg : g < 8)
    (e0 : sS w s 0 = nI f) (e1 : sS w s 1 = nI c) (e2 : sS w s 2 = nI a) (e3 : sS w s 3 = nI p) (e4 : sS w s 4 = nI g) (he : a + nR v f * nM v f + p ≤ 2000) : okShow w s ∧ zEnd w s = ((a + nR v f * nM v f + p : Nat) : Int) ∧ sco w s = c ∧ (sS w s 2).toInt = (a : Int) := by
  have n0 := hI.nf
  have f0 : fmo w s = f := by unfold fmo; rw [e0, nI_clamp (by omega)]
  have f1 : sco w s = c := by unfold sco; rw [e1, nI_clamp (by omega)]
  have f4 : gro w s = g := by unfold gro; rw [e4, nI_clamp (by omega)]
  have ez : zEnd w s = ((a + nR v f * nM v f + p : Nat) : Int) := by
    have := hI.zlen hf
    unfold zLen at this
    unfold zEnd zLen
    rw [f0, e2, e3, h 0 (by decide), h 1 (by decide), this, i_nI (by omega), i_nI (by omega)]
    omega
  refine ⟨⟨⟨by rw [e0, f0], by rw [f0]; omega⟩, ⟨by rw [e1, f1], by rw [f1]; exact hc⟩, by rw [e2]; exact isN_nI (by omega) (by omega), by rw [e3]; exact isN_nI (by omega) hp, ⟨by rw [e4, f4], by rw [f4]; exact hg⟩, by rw [ez]; omega⟩, ez, f1, by rw [e2, i_nI (by omega)]⟩
theorem Iv_show (hI : Iv v) {f c a p : Nat} (hf : f < cnt v 0) (hc : c < 3) (ha : a < 2000) (hp : p ≤ 20) (h : sRf v f (nI c) (nI a) (nI p) = 0) : Iv (uShow v (nI f) (nI c) (nI a) (nI p)) := by
  obtain ⟨h12, hrb⟩ := sRf_z h
  obtain ⟨he, hov⟩ := sRb_0 hI hf hc ha hp hrb
  have n0 := hI.nf
  have n1 := hI.ns
  rw [n1.1] at h12
  have h12' : cnt v 1 < 12 := (nI_ltI (a := cnt v 1) (b := 12) (by omega) (by decide)).mp h12
  have U : ∀ i, i ≠ 1 → (i < 26 + 5 * cnt v 1 ∨ 26 + 5 * cnt v 1 + 5 ≤ i) → uShow v (nI f) (nI c) (nI a) (nI p) i = v i := fun i h1 h2 => by
    unfold uShow nUp; rw [pk_un (by omega), pk_un (by omega), pk_un (by omega), pk_un (by omega), pk_un (by omega), pk_un h1]
  have e1 : uShow v (nI f) (nI c) (nI a) (nI p) 1 = nI (cnt v 1 + 1) := by
    unfold uShow nUp; rw [pk_un (by omega), pk_un (by omega), pk_un (by omega), pk_un (by omega), pk_un (by omega), pk_us]
  have c0 := cnt_e (U 0 (by omega) (by omega))
  have K : ∀ s, s < cnt v 1 → okShow (uShow v (nI f) (nI c) (nI a) (nI p)) s ∧ zEnd (uShow v (nI f) (nI c) (nI a) (nI p)) s = zEnd v s ∧ sco (uShow v (nI f) (nI c) (nI a) (nI p)) s = sco v s ∧ sS (uShow v (nI f) (nI c) (nI a) (nI p)) s 2 = sS v s 2 := fun s hs' => okS (by omega) (fun k hk => U _ (by omega) (by omega)) (fun f k hf' hk => U _ (by omega) (by omega)) (hI.show hs')
  have L := okN (w := uShow v (nI f) (nI c) (nI a) (nI p)) (s := cnt v 1) (fun k hk => U _ (by omega) (by omega)) hI hf (by omega) hc ha hp (show 0 < 8 by decide)
    (by show uShow v (nI f) (nI c) (nI a) (nI p) (26 + 5 * cnt v 1 + 0) = _; unfold uShow; rw [pk_un (by omega), pk_un (by omega), pk_un (by omega), pk_un (by omega), pk_us])
    (by show uShow v (nI f) (nI c) (nI a) (nI p) (26 + 5 * cnt v 1 + 1) = _; unfold uShow; rw [pk_un (by omega), pk_un (by omega), pk_un (by omega), pk_us])
    (by show uShow v (nI f) (nI c) (nI a) (nI p) (26 + 5 * cnt v 1 + 2) = _; unfold uShow; rw [pk_un (by omega), pk_un (by omega), pk_us])
    (by show uShow v (nI f) (nI c) (nI a) (nI p) (26 + 5 * cnt v 1 + 3) = _; unfold uShow; rw [pk_un (by omega), pk_us])
    (by show uShow v (nI f) (nI c) (nI a) (nI p) (26 + 5 * cnt v 1 + 4) = _; unfold uShow; rw [pk_us]; rfl) he
  refine Iv_shows hI (U 0 (by omega) (by omega)) (U 2 (by omega) (by omega)) (fun i h1 h2 => U i (by omega) (by omega)) (fun i h1 h2 => U i (by omega) (by omega)) e1 (by omega) (fun s hs' => ?_) (fun s t hs' ht' hst hsc => ?_)
  · by_cases hsn : s = cnt v 1
    · rw [hsn]; exact L.1
    · exact (K s (by omega)).1
  · have hs2 : s < cnt v 1 := by omega
    obtain ⟨-, a1, a2, a3⟩ := K s hs2
    by_cases htn : t = cnt v 1
    · subst htn
      rw [a2, L.2.2.1] at hsc
      rw [a1, a3, L.2.1, L.2.2.2, hI.zend hs2, (hI.st hs2).1, i_nI (by have := (hI.st hs2).2.2; omega)]
      have := hov s hs2 (nI_m1 (by omega)) hsc
      omega
    · obtain ⟨-, b1, b2, b3⟩ := K t (by omega)
      rw [a2, b2] at hsc
      rw [a1, a3, b1, b3]
      exact hI.2.2.2.2.2.2.2 s t hs2 (by omega) (by omega) hsc
theorem Iv_drop (hI : Iv v) {s : Nat} (hs : s < cnt v 1) : Iv (uDrop v s) := by
  have n0 := hI.nf
  have n1 := hI.ns
  have U : ∀ i, i ≠ 1 → i ≠ 128 → (i < 26 + 5 * s ∨ 86 ≤ i) → uDrop v s i = v i := fun i h1 h2 h3 => by
    unfold uDrop; rw [pk_un h2, pk_un h1, mv_e, if_neg (by omega)]
  have e1 : uDrop v s 1 = nI (cnt v 1 - 1) := by unfold uDrop; rw [pk_un (by omega), pk_us]
  have c0 := cnt_e (U 0 (by omega) (by omega) (by omega))
  have K : ∀ x, x < cnt v 1 - 1 → ∃ y, y < cnt v 1 ∧ y ≠ s ∧ (y = x ∨ y = x + 1) ∧ (x < s ↔ y = x) ∧ okShow (uDrop v s) x ∧ zEnd (uDrop v s) x = zEnd v y ∧ sco (uDrop v s) x = sco v y ∧ sS (uDrop v s) x 2 = sS v y 2 := by
    intro x hx
    by_cases h : x < s
    · exact ⟨x, by omega, by omega, Or.inl rfl, by omega, okS (by omega) (fun k hk => U _ (by omega) (by omega) (by omega)) (fun f k hf' hk => U _ (by omega) (by omega) (by omega)) (hI.show (by omega))⟩
    · refine ⟨x + 1, by omega, by omega, Or.inr rfl, by omega, okS (by omega) (fun k hk => ?_) (fun f k hf' hk => U _ (by omega) (by omega) (by omega)) (hI.show (by omega))⟩
      show uDrop v s (26 + 5 * x + k) = v (26 + 5 * (x + 1) + k)
      unfold uDrop
      rw [pk_un (by omega), pk_un (by omega), mv_e, if_pos (by omega)]
      congr 1
      omega
  refine Iv_shows hI (U 0 (by omega) (by omega) (by omega)) (U 2 (by omega) (by omega) (by omega)) (fun i h1 h2 => U i (by omega) (by omega) (by omega)) (fun i h1 h2 => U i (by omega) (by omega) (by omega)) e1 (by omega) (fun x hx => ?_) (fun x y hx hy hxy hsc => ?_)
  · obtain ⟨y, -, -, -, -, h, -⟩ := K x hx
    exact h
  · obtain ⟨a, ha, -, ha1, ha2, -, a1, a2, a3⟩ := K x hx
    obtain ⟨b, hb, -, hb1, hb2, -, b1, b2, b3⟩ := K y hy
    rw [a2, b2] at hsc
    rw [a1, a3, b1, b3]
    exact hI.2.2.2.2.2.2.2 a b ha hb (by omega) hsc
/-- goers, or the start, of one showing -/
theorem Iv_goer (hI : Iv v) {s g : Nat} (hs : s < cnt v 1) (hg : g < 8) : Iv (upd v (26 + 5 * s + 4) (nI g)) := by
  have n0 := hI.nf
  have n1 := hI.ns
  have U : ∀ i, i ≠ 26 + 5 * s + 4 → upd v (26 + 5 * s + 4) (nI g) i = v i := fun i h => pk_un h
  have c0 := cnt_e (U 0 (by omega))
  have K : ∀ x, x < cnt v 1 → okShow (upd v (26 + 5 * s + 4) (nI g)) x ∧ zEnd (upd v (26 + 5 * s + 4) (nI g)) x = zEnd v x ∧ sco (upd v (26 + 5 * s + 4) (nI g)) x = sco v x ∧ (sS (upd v (26 + 5 * s + 4) (nI g)) x 2).toInt = (sS v x 2).toInt := by
    intro x hx
    by_cases h : x = s
    · subst h
      have hst := hI.st hs
      have hpa := hI.pa hs
      have hz := (hI.show hs).2.2.2.2.2
      rw [hI.zend hs] at hz
      have := okN (w := upd v (26 + 5 * x + 4) (nI g)) (s := x) (f := fmo v x) (c := sco v x) (a := nA v x) (p := nB v x) (g := g) (fun k hk => U _ (by have := hI.fo_lt hs; omega)) hI (hI.fo_lt hs) (by omega) (hI.so_lt hs) (by omega) (by omega) hg
        ((U _ (by omega)).trans (hI.fo hs)) ((U _ (by omega)).trans (hI.so hs)) ((U _ (by omega)).trans hst.1) ((U _ (by omega)).trans hpa.1) pk_us (by unfold nE at hz; omega)
      refine ⟨this.1, ?_, this.2.2.1, ?_⟩
      · rw [this.2.1, hI.zend hs]; rfl
      · rw [this.2.2.2, hst.1, i_nI (by omega)]
    · have := okS (w := upd v (26 + 5 * s + 4) (nI g)) (s := x) (s' := x) (by omega) (fun k hk => U _ (by omega)) (fun f k hf' hk => U _ (by omega)) (hI.show hx)
      exact ⟨this.1, this.2.1, this.2.2.1, by rw [this.2.2.2]⟩
  refine Iv_shows hI (U 0 (by omega)) (U 2 (by omega)) (fun i h1 h2 => U i (by omega)) (fun i h1 h2 => U i (by omega)) ((U 1 (by omega)).trans n1.1) n1.2 (fun x hx => (K x hx).1) (fun x y hx hy hxy hsc => ?_)
  obtain ⟨-, a1, a2, a3⟩ := K x hx
  obtain ⟨-, b1, b2, b3⟩ := K y hy
  rw [a2, b2] at hsc
  rw [a1, a3, b1, b3]
  exact hI.2.2.2.2.2.2.2 x y hx hy (by omega) hsc
theorem Iv_start (hI : Iv v) {s m : Nat} (hs : s < cnt v 1) (hm : m < 2000) (h : sRb v (fmo v s) (nI (sco v s)) (nI m) (nI (nB v s)) (nI s) = 0) : Iv (upd v (26 + 5 * s + 2) (nI m)) := by
  have n0 := hI.nf
  have n1 := hI.ns
  have hpa := hI.pa hs
  obtain ⟨he, hov⟩ := sRb_0 hI (hI.fo_lt hs) (hI.so_lt hs) hm hpa.2.2 h
  have U : ∀ i, i ≠ 26 + 5 * s + 2 → upd v (26 + 5 * s + 2) (nI m) i = v i := fun i h => pk_un h
  have c0 := cnt_e (U 0 (by omega))
  have L := okN (w := upd v (26 + 5 * s + 2) (nI m)) (s := s) (f := fmo v s) (c := sco v s) (a := m) (p := nB v s) (g := gro v s) (fun k hk => U _ (by have := hI.fo_lt hs; omega)) hI (hI.fo_lt hs) (by omega) (hI.so_lt hs) hm (by omega) (hI.go_lt hs)
    ((U _ (by omega)).trans (hI.fo hs)) ((U _ (by omega)).trans (hI.so hs)) pk_us ((U _ (by omega)).trans hpa.1) ((U _ (by omega)).trans (hI.go hs)) he
  have K : ∀ x, x < cnt v 1 → x ≠ s → okShow (upd v (26 + 5 * s + 2) (nI m)) x ∧ zEnd (upd v (26 + 5 * s + 2) (nI m)) x = zEnd v x ∧ sco (upd v (26 + 5 * s + 2) (nI m)) x = sco v x ∧ sS (upd v (26 + 5 * s + 2) (nI m)) x 2 = sS v x 2 := fun x hx h => okS (by omega) (fun k hk => U _ (by omega)) (fun f k hf' hk => U _ (by omega)) (hI.show hx)
  refine Iv_shows hI (U 0 (by omega)) (U 2 (by omega)) (fun i h1 h2 => U i (by omega)) (fun i h1 h2 => U i (by omega)) ((U 1 (by omega)).trans n1.1) n1.2 (fun x hx => ?_) (fun x y hx hy hxy hsc => ?_)
  · by_cases hxs : x = s
    · rw [hxs]; exact L.1
    · exact (K x hx hxs).1
  · by_cases hxs : x = s
    · subst hxs
      obtain ⟨-, b1, b2, b3⟩ := K y hy (by omega)
      rw [L.2.2.1, b2] at hsc
      rw [L.2.1, L.2.2.2, b1, b3, hI.zend hy, (hI.st hy).1, i_nI (by have := (hI.st hy).2.2; omega)]
      have := hov y hy (fun e => absurd ((nI_eq (by omega) (by omega)).mp e) (by omega)) hsc.symm
      omega
    · obtain ⟨-, a1, a2, a3⟩ := K x hx hxs
      by_cases hys : y = s
      · subst hys
        rw [L.2.2.1, a2] at hsc
        rw [L.2.1, L.2.2.2, a1, a3, hI.zend hx, (hI.st hx).1, i_nI (by have := (hI.st hx).2.2; omega)]
        have := hov x hx (fun e => absurd ((nI_eq (by omega) (by omega)).mp e) (by omega)) hsc
        omega
      · obtain ⟨-, b1, b2, b3⟩ := K y hy hys
        rw [a2, b2] at hsc
        rw [a1, a3, b1, b3]
        exact hI.2.2.2.2.2.2.2 x y hx hy (by omega) hsc
end KJ


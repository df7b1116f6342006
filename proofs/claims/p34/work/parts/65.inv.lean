/-! THE INVARIANT KEPT -/
section KI
variable {v w : Nat → Int32}
theorem okS {s s' : Nat} (h0 : cnt v 0 ≤ cnt w 0) (hs : ∀ k, k < 5 → sS w s k = sS v s' k) (hf : ∀ f k, f < cnt v 0 → k < 2 → sF w f k = sF v f k) (h : okShow v s') : okShow w s ∧ zEnd w s = zEnd v s' ∧ sco w s = sco v s' ∧ sS w s 2 = sS v s' 2 := by
  have e0 : fmo w s = fmo v s' := by unfold fmo; rw [hs 0 (by decide)]
  have e1 : sco w s = sco v s' := by unfold sco; rw [hs 1 (by decide)]
  have e4 : gro w s = gro v s' := by unfold gro; rw [hs 4 (by decide)]
  obtain ⟨⟨h1, h2⟩, h3, h4, h5, h6, h7⟩ := h
  have ez : zEnd w s = zEnd v s' := by
    unfold zEnd zLen
    rw [e0, hs 2 (by decide), hs 3 (by decide), hf _ 0 h2 (by decide), hf _ 1 h2 (by decide)]
  refine ⟨⟨⟨?_, by rw [e0]; omega⟩, ⟨?_, by rw [e1]; exact h3.2⟩, ?_, ?_, ⟨?_, by rw [e4]; exact h6.2⟩, by rw [ez]; exact h7⟩, ez, e1, hs 2 (by decide)⟩
  · rw [hs 0 (by decide), e0]; exact h1
  · rw [hs 1 (by decide), e1]; exact h3.1
  · rw [hs 2 (by decide)]; exact h4
  · rw [hs 3 (by decide)]; exact h5
  · rw [hs 4 (by decide), e4]; exact h6.1
theorem cnt_up {a n : Nat} {x : Int32} (hx : x = nI n) (hn : n < 2 ^ 31) : cnt (upd v a x) a = n := by
  unfold cnt; rw [pk_us, hx, nI_clamp hn]
theorem cnt_e {a : Nat} (h : w a = v a) : cnt w a = cnt v a := by unfold cnt; rw [h]
theorem Iv_same (hI : Iv v) (h0 : ∀ i, i < 3 → w i = v i) (hf : ∀ f k, f < 8 → k < 2 → sF w f k = sF v f k) (hs : ∀ s k, s < 12 → k < 5 → sS w s k = sS v s k) (hg : ∀ g, g < 6 → sG w g 0 = sG v g 0)
    (ht : ∀ i, i < 4 → isN (w (3 + i)) 0 60) (hc : ∀ c, c < 3 → isN (w (7 + c)) 50 400) (hp : ∀ j f, j < 3 → f < 8 → isN (sP w j f) 0 10) : Iv w := by
  have c0 := cnt_e (h0 0 (by decide))
  have c1 := cnt_e (h0 1 (by decide))
  have c2 := cnt_e (h0 2 (by decide))
  have n0 := hI.nf
  have n1 := hI.ns
  have n2 := hI.ng
  have K : ∀ s, s < cnt v 1 → okShow w s ∧ zEnd w s = zEnd v s ∧ sco w s = sco v s ∧ sS w s 2 = sS v s 2 := fun s hs' => okS (by omega) (fun k hk => hs s k (by omega) hk) (fun f k hf' hk => hf f k (by omega) hk) (hI.show hs')
  refine ⟨⟨?_, ?_, ?_⟩, ?_, ht, hc, ?_, ?_, hp, ?_⟩
  · rw [h0 0 (by decide), c0]; exact n0
  · rw [h0 1 (by decide), c1]; exact n1
  · rw [h0 2 (by decide), c2]; exact n2
  · intro f hf'
    rw [c0] at hf'
    rw [hf f 0 (by omega) (by decide), hf f 1 (by omega) (by decide)]
    exact hI.2.1 f hf'
  · intro s hs'
    rw [c1] at hs'
    exact (K s hs').1
  · intro g hg'
    rw [c2] at hg'
    rw [hg g (by omega), c0]
    exact hI.2.2.2.2.2.1 g hg'
  · intro s t hs' ht' hst hsc
    rw [c1] at hs' ht'
    obtain ⟨-, a1, a2, a3⟩ := K s hs'
    obtain ⟨-, b1, b2, b3⟩ := K t ht'
    rw [a2, b2] at hsc
    rw [a1, a3, b1, b3]
    exact hI.2.2.2.2.2.2.2 s t hs' ht' hst hsc
theorem Iv_hi (hI : Iv v) (h : ∀ i, i < 128 → w i = v i) : Iv w :=
  Iv_same hI (fun i hi => h i (by omega)) (fun f k hf hk => h _ (by omega)) (fun f k hf hk => h _ (by omega)) (fun g hg => h _ (by omega)) (fun i hi => by rw [h _ (by omega)]; exact hI.2.2.1 i hi) (fun i hi => by rw [h _ (by omega)]; exact hI.2.2.2.1 i hi) (fun j f hj hf => by rw [show sP w j f = sP v j f from h _ (by omega)]; exact hI.2.2.2.2.2.2.1 j f hj hf)
theorem Iv_stop (hI : Iv v) {a b c : Int32} : Iv (uStop v a b c) := Iv_hi hI (fun i hi => by
  unfold uStop
  rw [pk_un (by omega), pk_un (by omega), pk_un (by omega)])
theorem Iv_seat (hI : Iv v) {c : Nat} {x : Int32} (hc : c < 3) (hx : isN x 50 400) : Iv (upd v (7 + c) x) :=
  Iv_same hI (fun i hi => pk_un (by omega)) (fun f k hf hk => pk_un (by omega)) (fun f k hf hk => pk_un (by omega)) (fun g hg => pk_un (by omega)) (fun i hi => by rw [pk_un (by omega)]; exact hI.2.2.1 i hi)
    (fun i hi => by
      by_cases h : i = c
      · subst h; rw [pk_us]; exact hx
      · rw [pk_un (by omega)]; exact hI.2.2.2.1 i hi)
    (fun j f hj hf => by rw [show sP (upd v (7 + c) x) j f = sP v j f from pk_un (by omega)]; exact hI.2.2.2.2.2.2.1 j f hj hf)
theorem Iv_set (hI : Iv v) {c : Nat} {x : Int32} (hc : c < 4) (hx : isN x 0 60) : Iv (upd v (3 + c) x) :=
  Iv_same hI (fun i hi => pk_un (by omega)) (fun f k hf hk => pk_un (by omega)) (fun f k hf hk => pk_un (by omega)) (fun g hg => pk_un (by omega))
    (fun i hi => by
      by_cases h : i = c
      · subst h; rw [pk_us]; exact hx
      · rw [pk_un (by omega)]; exact hI.2.2.1 i hi)
    (fun i hi => by rw [pk_un (by omega)]; exact hI.2.2.2.1 i hi)
    (fun j f hj hf => by rw [show sP (upd v (3 + c) x) j f = sP v j f from pk_un (by omega)]; exact hI.2.2.2.2.2.2.1 j f hj hf)
theorem Iv_vote (hI : Iv v) {j f : Nat} {x : Int32} (hj : j < 3) (hf : f < 8) (hx : isN x 0 10) : Iv (upd v (104 + 8 * j + f) x) :=
  Iv_same hI (fun i hi => pk_un (by omega)) (fun f k hf hk => pk_un (by omega)) (fun f k hf hk => pk_un (by omega)) (fun g hg => pk_un (by omega))
    (fun i hi => by rw [pk_un (by omega)]; exact hI.2.2.1 i hi)
    (fun i hi => by rw [pk_un (by omega)]; exact hI.2.2.2.1 i hi)
    (fun j' f' hj' hf' => by
      by_cases h : j' = j ∧ f' = f
      · obtain ⟨rfl, rfl⟩ := h
        rw [show sP (upd v (104 + 8 * j' + f') x) j' f' = x from pk_us]; exact hx
      · rw [show sP (upd v (104 + 8 * j + f) x) j' f' = sP v j' f' from pk_un (by omega)]; exact hI.2.2.2.2.2.2.1 j' f' hj' hf')
/-- one more film, one more guest: the showings stay -/
theorem Iv_film (hI : Iv v) {a b : Int32} (h8 : cnt v 0 < 8) (ha : isN a 1 6) (hb : isN b 10 25) : Iv (uFilm v a b) := by
  have n1 := hI.ns
  have n2 := hI.ng
  have U : ∀ i, i ≠ 0 → i ≠ 10 + 2 * cnt v 0 + 0 → i ≠ 10 + 2 * cnt v 0 + 1 → uFilm v a b i = v i := fun i h1 h2 h3 => by
    unfold uFilm nUp; rw [pk_un h3, pk_un h2, pk_un h1]
  have e0 : uFilm v a b 0 = nI (cnt v 0 + 1) := by unfold uFilm nUp; rw [pk_un (by omega), pk_un (by omega), pk_us]
  have c0 : cnt (uFilm v a b) 0 = cnt v 0 + 1 := by
    show (uFilm v a b 0).toNatClampNeg = _
    rw [e0, nI_clamp (by omega)]
  have e1 := U 1 (by omega) (by omega) (by omega)
  have e2 := U 2 (by omega) (by omega) (by omega)
  have c1 := cnt_e e1
  have c2 := cnt_e e2
  have K : ∀ s, s < cnt v 1 → okShow (uFilm v a b) s ∧ zEnd (uFilm v a b) s = zEnd v s ∧ sco (uFilm v a b) s = sco v s ∧ sS (uFilm v a b) s 2 = sS v s 2 := fun s hs' => okS (by omega) (fun k hk => U _ (by omega) (by omega) (by omega)) (fun f k hf' hk => U _ (by omega) (by omega) (by omega)) (hI.show hs')
  refine ⟨⟨?_, ?_, ?_⟩, ?_, ?_, ?_, ?_, ?_, ?_, ?_⟩
  · rw [e0, c0]; exact ⟨rfl, by omega⟩
  · rw [e1, c1]; exact n1
  · rw [e2, c2]; exact n2
  · intro f hf
    rw [c0] at hf
    by_cases h : f = cnt v 0
    · subst h
      constructor
      · rw [show sF (uFilm v a b) (cnt v 0) 0 = a by
          show uFilm v a b (10 + 2 * cnt v 0 + 0) = a
          unfold uFilm; rw [pk_un (by omega), pk_us]]
        exact ha
      · rw [show sF (uFilm v a b) (cnt v 0) 1 = b by
          show uFilm v a b (10 + 2 * cnt v 0 + 1) = b
          unfold uFilm; rw [pk_us]]
        exact hb
    · rw [show sF (uFilm v a b) f 0 = sF v f 0 from U _ (by omega) (by omega) (by omega), show sF (uFilm v a b) f 1 = sF v f 1 from U _ (by omega) (by omega) (by omega)]
      exact hI.2.1 f (by omega)
  · intro i hi; rw [U _ (by omega) (by omega) (by omega)]; exact hI.2.2.1 i hi
  · intro i hi; rw [U _ (by omega) (by omega) (by omega)]; exact hI.2.2.2.1 i hi
  · intro s hs'
    rw [c1] at hs'
    exact (K s hs').1
  · intro g hg
    rw [c2] at hg
    rw [show sG (uFilm v a b) g 0 = sG v g 0 from U _ (by omega) (by omega) (by omega)]
    obtain ⟨f, h1, h2⟩ := hI.2.2.2.2.2.1 g hg
    exact ⟨f, h1, by omega⟩
  · intro j f hj hf
    rw [show sP (uFilm v a b) j f = sP v j f from U _ (by omega) (by omega) (by omega)]
    exact hI.2.2.2.2.2.2.1 j f hj hf
  · intro s t hs' ht' hst hsc
    rw [c1] at hs' ht'
    obtain ⟨-, a1, a2, a3⟩ := K s hs'
    obtain ⟨-, b1, b2, b3⟩ := K t ht'
    rw [a2, b2] at hsc
    rw [a1, a3, b1, b3]
    exact hI.2.2.2.2.2.2.2 s t hs' ht' hst hsc
theorem Iv_guest (hI : Iv v) {f : Nat} {a b : Int32} (h8 : cnt v 2 < 6) (hf : f < cnt v 0) : Iv (uGuest v (nI f) a b) := by
  have n0 := hI.nf
  have n1 := hI.ns
  have U : ∀ i, i ≠ 2 → i ≠ 86 + 3 * cnt v 2 + 0 → i ≠ 86 + 3 * cnt v 2 + 1 → i ≠ 86 + 3 * cnt v 2 + 2 → uGuest v (nI f) a b i = v i := fun i h1 h2 h3 h4 => by
    unfold uGuest nUp; rw [pk_un h4, pk_un h3, pk_un h2, pk_un h1]
  have e2 : uGuest v (nI f) a b 2 = nI (cnt v 2 + 1) := by unfold uGuest nUp; rw [pk_un (by omega), pk_un (by omega), pk_un (by omega), pk_us]
  have c2 : cnt (uGuest v (nI f) a b) 2 = cnt v 2 + 1 := by
    show (uGuest v (nI f) a b 2).toNatClampNeg = _
    rw [e2, nI_clamp (by omega)]
  have e0 := U 0 (by omega) (by omega) (by omega) (by omega)
  have e1 := U 1 (by omega) (by omega) (by omega) (by omega)
  have c0 := cnt_e e0
  have c1 := cnt_e e1
  have K : ∀ s, s < cnt v 1 → okShow (uGuest v (nI f) a b) s ∧ zEnd (uGuest v (nI f) a b) s = zEnd v s ∧ sco (uGuest v (nI f) a b) s = sco v s ∧ sS (uGuest v (nI f) a b) s 2 = sS v s 2 := fun s hs' => okS (by omega) (fun k hk => U _ (by omega) (by omega) (by omega) (by omega)) (fun f k hf' hk => U _ (by omega) (by omega) (by omega) (by omega)) (hI.show hs')
  refine ⟨⟨?_, ?_, ?_⟩, ?_, ?_, ?_, ?_, ?_, ?_, ?_⟩
  · rw [e0, c0]; exact n0
  · rw [e1, c1]; exact n1
  · rw [e2, c2]; exact ⟨rfl, by omega⟩
  · intro f' hf
    rw [c0] at hf
    rw [show sF (uGuest v (nI f) a b) f' 0 = sF v f' 0 from U _ (by omega) (by omega) (by omega) (by omega), show sF (uGuest v (nI f) a b) f' 1 = sF v f' 1 from U _ (by omega) (by omega) (by omega) (by omega)]
    exact hI.2.1 f' (by omega)
  · intro i hi; rw [U _ (by omega) (by omega) (by omega) (by omega)]; exact hI.2.2.1 i hi
  · intro i hi; rw [U _ (by omega) (by omega) (by omega) (by omega)]; exact hI.2.2.2.1 i hi
  · intro s hs'
    rw [c1] at hs'
    exact (K s hs').1
  · intro g hg
    rw [c2] at hg
    rw [c0]
    by_cases h : g = cnt v 2
    · subst h
      refine ⟨f, ?_, hf⟩
      show uGuest v (nI f) a b (86 + 3 * cnt v 2 + 0) = _
      unfold uGuest
      rw [pk_un (by omega), pk_un (by omega), pk_us]
    · rw [show sG (uGuest v (nI f) a b) g 0 = sG v g 0 from U _ (by omega) (by omega) (by omega) (by omega)]
      exact hI.2.2.2.2.2.1 g (by omega)
  · intro j f' hj hf
    rw [show sP (uGuest v (nI f) a b) j f' = sP v j f' from U _ (by omega) (by omega) (by omega) (by omega)]
    exact hI.2.2.2.2.2.2.1 j f' hj hf
  · intro s t hs' ht' hst hsc
    rw [c1] at hs' ht'
    obtain ⟨-, a1, a2, a3⟩ := K s hs'
    obtain ⟨-, b1, b2, b3⟩ := K t ht'
    rw [a2, b2] at hsc
    rw [a1, a3, b1, b3]
    exact hI.2.2.2.2.2.2.2 s t hs' ht' hst hsc
/-- the showings change: what stays, and what has to be shown -/
theorem Iv_shows (hI : Iv v) (h0 : w 0 = v 0) (h2 : w 2 = v 2) (hlo : ∀ i, 3 ≤ i → i < 26 → w i = v i) (hhi : ∀ i, 86 ≤ i → i < 128 → w i = v i) {n : Nat} (h1 : w 1 = nI n) (hn : n ≤ 12) (hs : ∀ s, s < n → okShow w s)
    (ho : ∀ s t, s < n → t < n → s < t → sco w s = sco w t → zEnd w s ≤ (sS w t 2).toInt ∨ zEnd w t ≤ (sS w s 2).toInt) : Iv w := by
  have n0 := hI.nf
  have n2 := hI.ng
  have c0 := cnt_e h0
  have c2 := cnt_e h2
  have c1 : cnt w 1 = n := by unfold cnt; rw [h1, nI_clamp (by omega)]
  refine ⟨⟨?_, ?_, ?_⟩, ?_, ?_, ?_, ?_, ?_, ?_, ?_⟩
  · rw [h0, c0]; exact n0
  · rw [h1, c1]; exact ⟨rfl, hn⟩
  · rw [h2, c2]; exact n2
  · intro f hf
    rw [c0] at hf
    rw [show sF w f 0 = sF v f 0 from hlo _ (by omega) (by omega), show sF w f 1 = sF v f 1 from hlo _ (by omega) (by omega)]
    exact hI.2.1 f hf
  · intro i hi; rw [hlo _ (by omega) (by omega)]; exact hI.2.2.1 i hi
  · intro i hi; rw [hlo _ (by omega) (by omega)]; exact hI.2.2.2.1 i hi
  · intro s hs'
    rw [c1] at hs'
    exact hs s hs'
  · intro g hg
    rw [c2] at hg
    rw [show sG w g 0 = sG v g 0 from hhi _ (by omega) (by omega), c0]
    exact hI.2.2.2.2.2.1 g hg
  · intro j f hj hf
    rw [show sP w j f = sP v j f from hhi _ (by omega) (by omega)]
    exact hI.2.2.2.2.2.2.1 j f hj hf
  · intro s t hs' ht' hst hsc
    rw [c1] at hs' ht'
    rcases Nat.lt_or_ge s t with h | h
    · exact ho s t hs' ht' h hsc
    · exact (ho t s ht' hs' (by omega) hsc.symm).symm
end KI


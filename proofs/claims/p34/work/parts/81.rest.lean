section FR
variable {N : Nat}
theorem Rl_len {F : Nat → Nat → Int32} {π : Nat → Nat} {sc p k rs cd rs' cd' : Nat → Int32} {m : Nat} (hR : Rl F π sc p k rs cd) (ht : okT cd' m) (h0 : rs' 0 = rs 0 ∧ rs' 1 = rs 1 ∧ rs' 2 = nI m) : Rl F π (upd sc 2 (nI m)) p k rs' cd' := by
  obtain ⟨a, ⟨n, b1, b2, b3⟩, ⟨c1, c2⟩, -⟩ := hR
  exact ⟨a, ⟨n, by rw [pk_un (by decide)]; exact b1, h0.1.trans b2, b3⟩, ⟨by rw [pk_un (by decide)]; exact c1.trans h0.2.1.symm, fun hh => c2 (by rw [← h0.2.1]; exact hh)⟩, m, pk_us, h0.2.2, ht⟩
theorem okT_0 (t : Nat → Int32) : okT t 0 := ⟨by omega, fun i hi => by omega⟩
theorem k_st7 {F : Nat → Nat → Int32} {π : Nat → Nat} {sc rd cd : Nat → Int32} {q : jm_H} {j : Nat} {x : Int32} {g : jm_H → Option jm_X} (hj : j < 60) : jf_stI (hC F π sc rd cd q) 107 (nI j) x g = g (hC F π sc rd (upd cd j x) q) := by
  rw [stI_e (o := 107) (n := 60) (f := sl cd 0 60) rfl hj (by decide), sl_up hj, Nat.zero_add]
  rfl
theorem Pt_u {t r l l' : Nat → Int32} {m : Nat} : ∀ (d d' kk i : Nat), Pt t r l m d kk i → Pt t r l' m d' kk i → d = d' ∧ ∀ v, pmk l d kk v = pmk l' d' kk v
  | 0, 0, kk, i, h, h' => by
    refine ⟨rfl, fun v => ?_⟩
    have e : pst l kk v = pst l' kk v := by
      unfold pst
      rw [h.2.2.1 0 (by decide), h.2.2.1 1 (by decide), h.2.2.1 2 (by decide), h.2.2.1 3 (by decide), h'.2.2.1 0 (by decide), h'.2.2.1 1 (by decide), h'.2.2.1 2 (by decide), h'.2.2.1 3 (by decide)]
    unfold pmk
    rw [e]
  | 0, d' + 1, kk, i, h, h' => by
    obtain ⟨j, a1, a2, a3, a4, -⟩ := h'
    exact absurd a4 (h.2.1 j a1 a2)
  | d + 1, 0, kk, i, h, h' => by
    obtain ⟨j, a1, a2, a3, a4, -⟩ := h
    exact absurd a4 (h'.2.1 j a1 a2)
  | d + 1, d' + 1, kk, i, h, h' => by
    obtain ⟨j, a1, a2, a3, a4, a5, a6, a7, a8⟩ := h
    obtain ⟨j', b1, b2, b3, b4, b5, b6, b7, b8⟩ := h'
    have : j = j' := by
      rcases Nat.lt_trichotomy j j' with c | c | c
      · exact absurd a4 (b3 j a1 c)
      · exact c
      · exact absurd b4 (a3 j' b1 c)
    subst this
    obtain ⟨e1, e2⟩ := Pt_u d d' (kk + 1) (j + 1) a8 b8
    subst e1
    refine ⟨rfl, fun v => ?_⟩
    have e : pst l kk v = pst l' kk v := by
      unfold pst
      rw [a5 0 (by decide), a5 1 (by decide), a5 2 (by decide), a5 3 (by decide), b5 0 (by decide), b5 1 (by decide), b5 2 (by decide), b5 3 (by decide)]
    unfold pmk
    rw [e, e2]
end FR


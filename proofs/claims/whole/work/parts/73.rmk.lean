/-! THE REFERENCE makes the showings of a text -/
section RN
variable {P : jm_H} {v p k t l rs : Nat → Int32} {hs : Int64} {q : jm_H} {N kk : Nat}
theorem w3_id : w3 rs (rs 4) (rs 5) (rs 6) = rs := by
  funext i
  match i with
  | 0 => rfl | 1 => rfl | 2 => rfl | 3 => rfl | 4 => rfl | 5 => rfl | 6 => rfl | n + 7 => rfl
theorem r_stopd (hP : P.length = 108) (hN : 13 ≤ N) (hI : Iv v) (hl : okL l kk) : ∃ a b c, FX4_isStopped N 108 (nI kk) (hR P v p k t l rs hs q) = rI (bl ((pst l kk v).1 = false)) (hR P (pst l kk v).2 p k t l (w3 rs a b c) hs q) := by
  obtain ⟨f, c, a, pp, h1, h2, h3, h4, h5, h6, h7, h8, h9⟩ := hl
  have e0 : (4 : Int32) * nI kk = nI (4 * kk + 0) := pk_mul 4 kk
  have e1 : nI (4 * kk + 0) + 1 = nI (4 * kk + 1) := nI_add _ 1
  have e2 : nI (4 * kk + 0) + 2 = nI (4 * kk + 2) := nI_add _ 2
  have e3 : nI (4 * kk + 0) + 3 = nI (4 * kk + 3) := nI_add _ 3
  unfold FX4_isStopped pst pst1
  rw [h1, h3, h5, h7, nI_clamp (by omega)]
  rw [r_told hP, e0, r_ldl hP (by omega), r_told hP, e1, r_ldl hP (by omega), r_told hP, e2, r_ldl hP (by omega), r_told hP, e3, r_ldl hP (by omega), h1, h3, h5, h7, r_o hP, r_isFilm hP hI, I_e]
  simp only [bl_0]
  by_cases c1 : nI f < v 0
  · have hf := (cnt_lt hI (by omega)).mp c1
    rw [if_neg (fun hh => hh ⟨f, hf, rfl⟩), if_pos c1, r_o hP, r_reason hP hN hI hf, I_e]
    by_cases c2 : sRf v f (nI c) (nI a) (nI pp) = 0
    · have h12 : cnt v 1 < 12 := by
        have := (sRf_z c2).1
        rw [hI.ns.1] at this
        exact (nI_ltI (a := cnt v 1) (b := 12) (by have := hI.ns.2; omega) (by decide)).mp this
      rw [if_pos c2, if_pos c2, r_o hP, r_makes hP hI h12, V_e]
      exact ⟨_, _, _, rfl⟩
    · rw [if_neg c2, if_neg c2, r_i4 hP, r_i5 hP, r_o hP, r_stops hP, V_e]
      refine ⟨(sRs v f (nI c) (nI a) (nI pp)).1, (sRs v f (nI c) (nI a) (nI pp)).2.1, (sRs v f (nI c) (nI a) (nI pp)).2.2, ?_⟩
      show rI 1 (hR P (uStop v (nI kk) (sRs v f (nI c) (nI a) (nI pp)).1 (sRs v f (nI c) (nI a) (nI pp)).2.1) p k t l (w3 rs (sRs v f (nI c) (nI a) (nI pp)).1 (sRs v f (nI c) (nI a) (nI pp)).2.1 (sRs v f (nI c) (nI a) (nI pp)).2.2) hs q) = rI 1 (hR P (uStop v (nI kk) (sRf v f (nI c) (nI a) (nI pp)) (sWay v f (nI c) (nI a) (nI pp) (sRf v f (nI c) (nI a) (nI pp)))) p k t l (w3 rs (sRs v f (nI c) (nI a) (nI pp)).1 (sRs v f (nI c) (nI a) (nI pp)).2.1 (sRs v f (nI c) (nI a) (nI pp)).2.2) hs q)
      rw [show (sRs v f (nI c) (nI a) (nI pp)).2.1 = sWay v f (nI c) (nI a) (nI pp) (sRf v f (nI c) (nI a) (nI pp)) from sRs_2, show (sRs v f (nI c) (nI a) (nI pp)).1 = sRf v f (nI c) (nI a) (nI pp) from sRs_1]
  · have hf : ¬ ∃ f', f' < cnt v 0 ∧ nI f = nI f' := by
      rintro ⟨f', h10, h11⟩
      have hn := hI.nf.2
      have := (nI_eq (by omega) (by omega)).mp h11
      exact c1 ((cnt_lt hI (by omega)).mpr (by omega))
    rw [if_pos hf, if_neg c1, r_o hP, r_stops hP, V_e]
    refine ⟨rs 4, rs 5, rs 6, ?_⟩
    rw [w3_id]
    rfl
theorem r_prog_l (hP : P.length = 108) (hN : 13 ≤ N) : ∀ (d kk n : Nat) (v rs : Nat → Int32), d + 1 < n → kk + d + 1 < 2 ^ 31 → rs 8 = nI (kk + d + 1) → (∀ x, kk ≤ x → x ≤ kk + d → okL l x) → Iv v →
    ∃ a b c, FX4_program_36 N n 108 (nI kk) (hR P v p k t l rs hs q) = rI (pmk l d kk v).1 (hR P (pmk l d kk v).2 p k t l (w3 rs a b c) hs q)
  | 0, kk, n, v, rs, hn, hk, h8, hl, hI => by
    obtain ⟨n', rfl⟩ : ∃ n', n = n' + 2 := ⟨n - 2, by omega⟩
    obtain ⟨a, b, c, e⟩ := r_stopd (P := P) (v := v) (p := p) (k := k) (t := t) (l := l) (rs := rs) (hs := hs) (q := q) (N := N) (kk := kk) hP hN hI (hl kk (by omega) (by omega))
    rw [FX4_program_36, r_i8 hP, h8, if_neg (nI_ge (by omega) (by omega)), r_o hP, e, I_e]
    unfold pmk
    by_cases hc : (pst l kk v).1 = true
    · rw [bl_f (show ¬ (pst l kk v).1 = false by rw [hc]; decide), if_pos rfl, if_pos hc, nI_1, FX4_program_36, r_i8 hP]
      refine ⟨a, b, c, ?_⟩
      have : w3 rs a b c 8 = nI (kk + 0 + 1) := h8
      rw [this, if_pos (Int32.le_refl _)]
    · rw [bl_t (show (pst l kk v).1 = false from Bool.eq_false_iff.mpr hc), if_neg (by decide), if_neg hc]
      exact ⟨a, b, c, rfl⟩
  | d + 1, kk, n, v, rs, hn, hk, h8, hl, hI => by
    obtain ⟨n', rfl⟩ : ∃ n', n = n' + 1 := ⟨n - 1, by omega⟩
    obtain ⟨a, b, c, e⟩ := r_stopd (P := P) (v := v) (p := p) (k := k) (t := t) (l := l) (rs := rs) (hs := hs) (q := q) (N := N) (kk := kk) hP hN hI (hl kk (by omega) (by omega))
    rw [FX4_program_36, r_i8 hP, h8, if_neg (nI_ge (by omega) (by omega)), r_o hP, e, I_e]
    unfold pmk
    by_cases hc : (pst l kk v).1 = true
    · rw [bl_f (show ¬ (pst l kk v).1 = false by rw [hc]; decide), if_pos rfl, if_pos hc, nI_1]
      obtain ⟨a', b', c', e'⟩ := r_prog_l hP hN d (kk + 1) n' (pst l kk v).2 (w3 rs a b c) (by omega) (by omega) (by show rs 8 = _; rw [h8, show kk + (d + 1) + 1 = kk + 1 + d + 1 by omega]) (fun x h1 h2 => hl x (by omega) (by omega)) (pst_Iv (hl kk (by omega) (by omega)) hI)
      refine ⟨a', b', c', ?_⟩
      rw [e', w3_w3]
    · rw [bl_t (show (pst l kk v).1 = false from Bool.eq_false_iff.mpr hc), if_neg (by decide), if_neg hc]
      exact ⟨a, b, c, rfl⟩
theorem r_refuses (hP : P.length = 108) {x : Int32} : FX4_refuses 108 x (hR P v p k t l rs hs q) = rI 0 (hR P v p k t l (upd rs 3 x) hs q) := by
  unfold FX4_refuses
  rw [r_p3 hP]
theorem r_thrown (hP : P.length = 108) : FX4_thrown 108 (hR P v p k t l rs hs q) = rI (rs 3) (hR P v p k t l rs hs q) := by
  unfold FX4_thrown
  rw [r_i3 hP]
theorem r_isShowing (hP : P.length = 108) (hI : Iv v) {x : Int32} : FX4_isShowing 108 x (hR P v p k t l rs hs q) = rI (bl (∃ f, f < cnt v 1 ∧ x = nI f)) (hR P v p k t l rs hs q) := by
  unfold FX4_isShowing
  rw [r_now hP, r_n1 hP, e_in4, I_e, bl_01]
  have e : (0 ≤ x ∧ x ≤ v 1 - 1) ↔ ∃ f, f < cnt v 1 ∧ x = nI f := by rw [hI.ns.1]; exact in_n (by have := hI.ns.2; omega)
  by_cases h : ∃ f, f < cnt v 1 ∧ x = nI f
  · rw [bl_t h, bl_t (e.mpr h)]
  · rw [bl_f h, bl_f (fun hh => h (e.mp hh))]
end RN
theorem in_c {x : Int32} {a b : Nat} (ha : a ≤ b) (hb : b < 2 ^ 31) : (nI a ≤ x ∧ x ≤ nI b) ↔ isN x a b := by
  constructor
  · rintro ⟨h1, h2⟩
    have h3 : ¬ x < 0 := fun h => by
      have h4 := Int32.le_iff_toInt_le.mp h1
      have h5 := Int32.lt_iff_toInt_lt.mp h
      rw [nI_toInt (by omega)] at h4
      have h7 : ((0 : Int32)).toInt = 0 := rfl
      omega
    obtain ⟨t, ht, rfl⟩ := nI_of h3
    exact ⟨t, rfl, (nI_leI (by omega) ht).mp h1, (nI_leI ht hb).mp h2⟩
  · rintro ⟨t, rfl, h1, h2⟩
    exact ⟨nI_le h1 (by omega), nI_le h2 hb⟩
theorem in_i {x : Int32} {b : Nat} (hb : b < 2 ^ 31) : (0 ≤ x ∧ x ≤ nI b) ↔ ∃ t, t ≤ b ∧ x = nI t := by
  constructor
  · intro h
    obtain ⟨t, rfl, -, h2⟩ := (in_c (a := 0) (Nat.zero_le b) hb).mp h
    exact ⟨t, h2, rfl⟩
  · rintro ⟨t, h1, rfl⟩
    exact (in_c (a := 0) (Nat.zero_le b) hb).mpr ⟨t, rfl, Nat.zero_le t, h1⟩
theorem r_isScreen {x : Int32} {h : jm_H} : FX4_isScreen x h = rI (bl (0 ≤ x ∧ x ≤ 2)) h := by
  unfold FX4_isScreen
  rw [e_in4, I_e, bl_01]
theorem r_isMinute {x : Int32} {h : jm_H} : FX4_isMinute x h = rI (bl (0 ≤ x ∧ x ≤ 1999)) h := by
  unfold FX4_isMinute
  rw [e_in4, I_e, bl_01]
theorem r_isJuror {x : Int32} {h : jm_H} : FX4_isJuror x h = rI (bl (0 ≤ x ∧ x ≤ 2)) h := by
  unfold FX4_isJuror
  rw [e_in4, I_e, bl_01]

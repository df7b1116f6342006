/-! FACE: texts, undo, the snapshot -/
def Ok0 (f g : jm_H → Option jm_X) : Prop := ∀ h, St h → ∃ (y : Int32) (h1 h2 : jm_H), jf_o 3 0 h (f h) = rI y h1 ∧ jf_o 4 108 h1 (g h1) = rI y h2 ∧ St h2
section FR
variable {N : Nat}
theorem Rl_len {F : Nat → Nat → Int32} {π : Nat → Nat} {sc p k rs cd rs' cd' : Nat → Int32} {m : Nat} (hR : Rl F π sc p k rs cd) (ht : okT cd' m) (h0 : rs' 0 = rs 0 ∧ rs' 1 = rs 1 ∧ rs' 2 = nI m) : Rl F π (upd sc 2 (nI m)) p k rs' cd' := by
  obtain ⟨a, ⟨n, b1, b2, b3⟩, ⟨c1, c2⟩, -⟩ := hR
  exact ⟨a, ⟨n, by rw [pk_un (by decide)]; exact b1, h0.1.trans b2, b3⟩, ⟨by rw [pk_un (by decide)]; exact c1.trans h0.2.1.symm, fun hh => c2 (by rw [← h0.2.1]; exact hh)⟩, m, pk_us, h0.2.2, ht⟩
theorem okT_0 (t : Nat → Int32) : okT t 0 := ⟨by omega, fun i hi => by omega⟩
theorem k_st7 {F : Nat → Nat → Int32} {π : Nat → Nat} {sc rd cd : Nat → Int32} {q : jm_H} {j : Nat} {x : Int32} {g : jm_H → Option jm_X} (hj : j < 60) : jf_stI (hC F π sc rd cd q) 107 (nI j) x g = g (hC F π sc rd (upd cd j x) q) := by
  rw [stI_e (o := 107) (n := 60) (f := sl cd 0 60) rfl hj (by decide), sl_up hj, Nat.zero_add]
  rfl
theorem ok_append {a : Int32} : Ok (FL_append 0 a 114) (FX4_append 108 a) := by
  rintro h ⟨F, π, sc, rd, cd, p, k, l, rs, hs, fL, fD, rfl, hR⟩
  obtain ⟨hI, ⟨n, hn1, hn2, hS⟩, hK, hM⟩ := id hR
  have z : ¬ (1 : Int32) = 0 := by decide
  obtain ⟨m, hm1, hm2, ht⟩ := id hM
  have hm := ht.1
  by_cases ha : 33 ≤ a ∧ a ≤ 126
  · by_cases hc : m < 60
    · obtain ⟨c, rfl, hc1, hc2⟩ := (in_c (a := 33) (b := 126) (by decide) (by decide)).mp ha
      have ht' : okT (upd cd m (nI c)) (m + 1) := ⟨by omega, fun i hi => by
        by_cases him : i = m
        · subst him
          unfold cN
          rw [pk_us, nI_clamp (by omega)]
          exact ⟨rfl, by omega⟩
        · unfold cN
          rw [pk_un him]
          exact ht.2 i (by omega)⟩
      refine Ok_r (rd' := rd) (v := F 0) (p := p) (k := k) (t := cd) (l := l) (l' := l) (rs := rs) (hs := hs) (hs' := hs) (fL := fL) (fD := fD) (y := nI (m + 1)) (Rl_len hR ht' (rs' := upd (upd rs 3 0) 2 (nI (m + 1))) ⟨rfl, rfl, rfl⟩) ?_ ?_ rfl
      · unfold FL_append FX3_append
        rw [c_o, e_in3, I_e, bl_t ha, rq1, V_e, k_i2, hm1, if_neg (nI_pos (by omega)), k_i2, k_r4, k_l7, hm1, if_pos (show nI m < 60 from nI_lt (b := 60) hc (by decide)), k_r4, k_i2, hm1, k_st7 hc, k_i2, hm1, k_p2, nI_1, k_i2, pk_us, TI_r, j_stL]
      · unfold FX4_append
        rw [r_p3 (clsH_len _ _ _ _ _), e_in4, I_e, bl_t ha, if_neg z, r_i2 (clsH_len _ _ _ _ _), pk_un (by decide), hm2, if_neg (show ¬ nI m = 60 from fun e => absurd ((nI_eq (a := m) (b := 60) (by omega) (by decide)).mp e) (by omega)), r_text (clsH_len _ _ _ _ _), r_i2 (clsH_len _ _ _ _ _), pk_un (by decide), hm2, r_stt (clsH_len _ _ _ _ _) hc, r_i2 (clsH_len _ _ _ _ _), pk_un (by decide), hm2, r_p2 (clsH_len _ _ _ _ _), nI_1, r_i2 (clsH_len _ _ _ _ _), pk_us]
    · refine Ok_x (F := F) (π := π) (sc := sc) (cd := cd) (p := p) (k := k) (l := l) (rs := rs) (hs := hs) (fL := fL) (fD := fD) (rd' := rd) (l' := l) (e := 2) (y := 0) (rs' := upd (upd rs 3 0) 3 2) hR ?_ (by decide) ?_ rfl ⟨rfl, rfl, rfl⟩
      · unfold FL_append FX3_append
        rw [c_o, e_in3, I_e, bl_t ha, rq1, V_e, k_i2, hm1, if_neg (nI_pos (by omega)), k_i2, k_r4, k_l7, hm1, if_neg (show ¬ nI m < 60 from nI_nlt (a := m) (b := 60) (by omega) (by omega)), TI_x, if_neg IA_ne, if_pos rfl]
      · unfold FX4_append
        rw [r_p3 (clsH_len _ _ _ _ _), e_in4, I_e, bl_t ha, if_neg z, r_i2 (clsH_len _ _ _ _ _), pk_un (by decide), hm2, if_pos (show nI m = 60 from (nI_eq (a := m) (b := 60) (by omega) (by decide)).mpr (by omega)), r_o (clsH_len _ _ _ _ _), r_refuses (clsH_len _ _ _ _ _), I_e]
  · refine Ok_x (F := F) (π := π) (sc := sc) (cd := cd) (p := p) (k := k) (l := l) (rs := rs) (hs := hs) (fL := fL) (fD := fD) (rd' := rd) (l' := l) (e := 1) (y := 0) (rs' := upd (upd rs 3 0) 3 1) hR ?_ (by decide) ?_ rfl ⟨rfl, rfl, rfl⟩
    · unfold FL_append FX3_append
      rw [c_o, e_in3, I_e, bl_f ha, rq0, V_x, TI_x, if_pos rfl]
    · unfold FX4_append
      rw [r_p3 (clsH_len _ _ _ _ _), e_in4, I_e, bl_f ha, if_pos rfl, r_o (clsH_len _ _ _ _ _), r_refuses (clsH_len _ _ _ _ _), I_e]
theorem ok_clear : Ok0 (FX3_clearBuffer 0) (FX4_clearBuffer 108) := by
  rintro h ⟨F, π, sc, rd, cd, p, k, l, rs, hs, fL, fD, rfl, hR⟩
  obtain ⟨hI, ⟨n, hn1, hn2, hS⟩, hK, hM⟩ := id hR
  have z : ¬ (1 : Int32) = 0 := by decide
  obtain ⟨m, hm1, hm2, ht⟩ := id hM
  have hR2 := Rl_len (rs' := upd (upd rs 3 0) 2 (nI 0)) hR (okT_0 cd) ⟨rfl, rfl, rfl⟩
  refine ⟨nI m, J F π (upd sc 2 (nI 0)) rd cd (F 0) p k cd l rs hs fL fD, J F π (upd sc 2 (nI 0)) rd cd (F 0) p k cd l (upd (upd rs 3 0) 2 (nI 0)) hs fL fD, ?_, ?_, ⟨F, π, _, rd, cd, p, k, l, _, hs, fL, fD, rfl, hR2⟩⟩
  · unfold FX3_clearBuffer
    rw [c_o, k_i2, k_p2, hm1]
    rfl
  · unfold FX4_clearBuffer
    rw [j_o4, r_p3 (clsH_len _ _ _ _ _), r_i2 (clsH_len _ _ _ _ _), r_p2 (clsH_len _ _ _ _ _), pk_un (by decide), hm2]
    rfl
theorem ok_first (hN : 2001 ≤ N) : Ok0 (FX3_firstError N 0) (FX4_firstError N 108) := by
  rintro h ⟨F, π, sc, rd, cd, p, k, l, rs, hs, fL, fD, rfl, hR⟩
  obtain ⟨hI, ⟨n, hn1, hn2, hS⟩, hK, hM⟩ := id hR
  have z : ¬ (1 : Int32) = 0 := by decide
  obtain ⟨m, hm1, hm2, ht⟩ := id hM
  obtain ⟨j, rd', h1, h2, h3, -, e⟩ := k_read (F := F) (π := π) (sc := sc) (rd := rd) (cd := cd) (q := refH (F 0) p k cd l rs hs ++ lcs fL fD) (N := N) ht.1 (by omega) hm1
  obtain ⟨i2, k2, l', e'⟩ := r_fe (P := clsH F π sc rd' cd) (v := F 0) (p := p) (k := k) (t := cd) (l := l) (rs := rs) (hs := hs) (q := lcs fL fD) (N := N) (clsH_len _ _ _ _ _) hm2 ht (by omega) (r := r0 rd) rfl rfl ⟨h1, h2, h3⟩
  refine ⟨nI j, J F π sc rd' cd (F 0) p k cd l rs hs fL fD, J F π sc rd' cd (F 0) p k cd l' (w2 (upd rs 3 0) i2 k2) hs fL fD, ?_, ?_, ⟨F, π, sc, rd', cd, p, k, l', _, hs, fL, fD, rfl, hI, ⟨n, hn1, hn2, hS⟩, hK, hM⟩⟩
  · unfold FX3_firstError
    rw [c_o, c_o, e, I_e]
  · rw [j_o4]
    exact e'
theorem ok_undo (hN : 2001 ≤ N) : Ok (FL_undo 0 114) (FX4_undo N 108) := by
  rintro h ⟨F, π, sc, rd, cd, p, k, l, rs, hs, fL, fD, rfl, hR⟩
  obtain ⟨hI, ⟨n, hn1, hn2, hS⟩, hK, hM⟩ := id hR
  have z : ¬ (1 : Int32) = 0 := by decide
  by_cases h0 : n = 0
  · subst h0
    refine Ok_x (F := F) (π := π) (sc := sc) (cd := cd) (p := p) (k := k) (l := l) (rs := rs) (hs := hs) (fL := fL) (fD := fD) (rd' := rd) (l' := l) (e := 1) (y := 0) (rs' := upd (upd rs 3 0) 3 1) hR ?_ (by decide) ?_ rfl ⟨rfl, rfl, rfl⟩
    · unfold FL_undo
      rw [c_o, c_undo0 hn1, TI_x, if_pos rfl]
    · unfold FX4_undo
      rw [r_p3 (clsH_len _ _ _ _ _), r_i0 (clsH_len _ _ _ _ _), pk_un (by decide), hn2, if_pos (by rfl), r_o (clsH_len _ _ _ _ _), r_refuses (clsH_len _ _ _ _ _), I_e]
  · have h6 := hS.1
    obtain ⟨w1, w2⟩ := hS.2.2.2 (n - 1) (by omega)
    have hR2 : Rl (fu F 0 (F (π (n - 1) + 2))) π (upd sc 1 (nI (n - 1))) p k (upd (upd rs 3 0) 0 (nI (n - 1))) cd := by
      refine ⟨by rw [fu_s]; exact w1, ⟨n - 1, pk_us, pk_us, Sv_now (Sv_less hS (by omega)) (by decide)⟩, ⟨hK.1, fun hh => ?_⟩, hM⟩
      rw [fu_n (by decide)]
      exact hK.2 hh
    refine Ok_r (rd' := rd) (v := F 0) (p := p) (k := k) (t := cd) (l := l) (l' := l) (rs := rs) (hs := hs) (hs' := hs) (fL := fL) (fD := fD) (y := nI (n - 1)) hR2 ?_ ?_ rfl
    · unfold FL_undo
      rw [c_o, c_undo hn1 h6 (by omega) hS.2.1, TI_r, j_stL]
    · unfold FX4_undo
      have ne : ¬ nI n = 0 := nI_ne0 (by omega) (by omega)
      rw [r_p3 (clsH_len _ _ _ _ _), r_i0 (clsH_len _ _ _ _ _), pk_un (by decide), hn2, if_neg ne, r_i0 (clsH_len _ _ _ _ _), pk_un (by decide), hn2, show (1 : Int32) = nI 1 from rfl, pk_sub (by omega), r_p0 (clsH_len _ _ _ _ _), r_past (clsH_len _ _ _ _ _), r_i0 (clsH_len _ _ _ _ _), pk_us, r_now (clsH_len _ _ _ _ _), r_laysU (clsH_len _ _ _ _ _) (by omega) (show n - 1 < 6 by omega) w2, V_e, r_i0 (clsH_len _ _ _ _ _), pk_us, fu_s]
theorem ok_keep (hN : 2001 ≤ N) : Ok0 (FX3_keep 0) (FX4_keep N 108) := by
  rintro h ⟨F, π, sc, rd, cd, p, k, l, rs, hs, fL, fD, rfl, hR⟩
  obtain ⟨hI, ⟨n, hn1, hn2, hS⟩, hK, hM⟩ := id hR
  have z : ¬ (1 : Int32) = 0 := by decide
  have hR2 : Rl (fu F 1 (F 0)) π (upd sc 0 1) p (F 0) (upd (upd rs 3 0) 1 1) cd := by
    refine ⟨by rw [fu_n (by decide)]; exact hI, ⟨n, hn1, hn2, Sv_now hS (by decide)⟩, ⟨rfl, fun _ => ?_⟩, hM⟩
    rw [fu_s]
    exact ⟨hI, fun _ _ => rfl⟩
  refine ⟨F 0 1, J (fu F 1 (F 0)) π (upd sc 0 1) rd cd (F 0) p k cd l rs hs fL fD, J (fu F 1 (F 0)) π (upd sc 0 1) rd cd (F 0) p (F 0) cd l (upd (upd rs 3 0) 1 1) hs fL fD, ?_, ?_, ⟨fu F 1 (F 0), π, _, rd, cd, p, F 0, l, _, hs, fL, fD, rfl, hR2⟩⟩
  · rw [c_o, c_keep]
  · unfold FX4_keep
    rw [j_o4, r_p3 (clsH_len _ _ _ _ _), r_now (clsH_len _ _ _ _ _), r_kept (clsH_len _ _ _ _ _), r_laysK (clsH_len _ _ _ _ _) (by omega), V_e, r_p1 (clsH_len _ _ _ _ _), r_now (clsH_len _ _ _ _ _), r_n1 (clsH_len _ _ _ _ _)]
theorem ok_restore (hN : 2001 ≤ N) : Ok (FL_restore N 0 114) (FX4_restore N 108) := by
  rintro h ⟨F, π, sc, rd, cd, p, k, l, rs, hs, fL, fD, rfl, hR⟩
  obtain ⟨hI, ⟨n, hn1, hn2, hS⟩, hK, hM⟩ := id hR
  have z : ¬ (1 : Int32) = 0 := by decide
  by_cases h0 : rs 1 = 0
  · have h0' : sc 0 = 0 := hK.1.trans h0
    refine Ok_x (F := F) (π := π) (sc := sc) (cd := cd) (p := p) (k := k) (l := l) (rs := rs) (hs := hs) (fL := fL) (fD := fD) (rd' := rd) (l' := l) (e := 1) (y := 0) (rs' := upd (upd rs 3 0) 3 1) hR ?_ (by decide) ?_ rfl ⟨rfl, rfl, rfl⟩
    · unfold FL_restore
      rw [c_o, c_restore0 h0', TI_x, if_pos rfl]
    · unfold FX4_restore
      rw [r_p3 (clsH_len _ _ _ _ _), r_i1 (clsH_len _ _ _ _ _), pk_un (by decide), if_pos h0, r_o (clsH_len _ _ _ _ _), r_refuses (clsH_len _ _ _ _ _), I_e]
  · have h0' : sc 0 ≠ 0 := by rw [hK.1]; exact h0
    obtain ⟨w1, w2⟩ := hK.2 h0
    refine Ok_s (F := F) (π := π) (sc := sc) (cd := cd) (p := p) (k := k) (l := l) (rs := rs) (hs := hs) (fL := fL) (fD := fD) (rd := rd) (n := n) (y := F 1 1) (w := F 1) (l' := l) (rs' := upd (upd rs 3 0) 0 (nI (svN n))) hR hn1 hS w1 ?_ ?_ ⟨rfl, rfl, rfl, rfl⟩
    · unfold FL_restore
      rw [c_o, c_restore (by omega) h0' hn1 hS.1 hS.2.1, TI_r, j_stL]
    · unfold FX4_restore
      rw [r_p3 (clsH_len _ _ _ _ _), r_i1 (clsH_len _ _ _ _ _), pk_un (by decide), if_neg h0, r_o (clsH_len _ _ _ _ _), r_saves (clsH_len _ _ _ _ _) (by omega) (by rw [pk_un (by decide)]; exact hn2) hS.1, V_e, r_kept (clsH_len _ _ _ _ _), r_now (clsH_len _ _ _ _ _), r_laysR (clsH_len _ _ _ _ _) (by omega) (fun x hx => (w2 x hx).symm), V_e, r_now (clsH_len _ _ _ _ _), r_n1 (clsH_len _ _ _ _ _)]
theorem Pt_u {t r l l' : Nat → Int32} {m : Nat} : ∀ (d d' kk i : Nat), Pt t r l m d kk i → Pt t r l' m d' kk i → d = d' ∧ ∀ v, pmk l d kk v = pmk l' d' kk v
  | 0, 0, kk, i, h, h' => by
    refine ⟨rfl, fun v => ?_⟩
    have e : pst l kk v = pst l' kk v := by
      unfold pst
      rw [h.2.2.1 0 (by decide), h.2.2.1 1 (by decide), h.2.2.1 2 (by decide), h.2.2.1 3 (by decide), h'.2.2.1 0 (by decide), h'.2.2.1 1 (by decide), h'.2.2.1 2 (by decide), h'.2.2.1 3 (by decide)]
    unfold pmk
    rw [e]
  | 0, d' + 1, kk, i, h, h' => by
    obtain ⟨j, a1, a2, a3, a4, -⟩ := h'
    exact absurd a4 (h.2.1 j a1 a2)
  | d + 1, 0, kk, i, h, h' => by
    obtain ⟨j, a1, a2, a3, a4, -⟩ := h
    exact absurd a4 (h'.2.1 j a1 a2)
  | d + 1, d' + 1, kk, i, h, h' => by
    obtain ⟨j, a1, a2, a3, a4, a5, a6, a7, a8⟩ := h
    obtain ⟨j', b1, b2, b3, b4, b5, b6, b7, b8⟩ := h'
    have : j = j' := by
      rcases Nat.lt_trichotomy j j' with c | c | c
      · exact absurd a4 (b3 j a1 c)
      · exact c
      · exact absurd b4 (a3 j' b1 c)
    subst this
    obtain ⟨e1, e2⟩ := Pt_u d d' (kk + 1) (j + 1) a8 b8
    subst e1
    refine ⟨rfl, fun v => ?_⟩
    have e : pst l kk v = pst l' kk v := by
      unfold pst
      rw [a5 0 (by decide), a5 1 (by decide), a5 2 (by decide), a5 3 (by decide), b5 0 (by decide), b5 1 (by decide), b5 2 (by decide), b5 3 (by decide)]
    unfold pmk
    rw [e, e2]
theorem ok_program (hN : 2001 ≤ N) : Ok (FL_program N 0 114) (FX4_program N 108) := by
  rintro h ⟨F, π, sc, rd, cd, p, k, l, rs, hs, fL, fD, rfl, hR⟩
  obtain ⟨hI, ⟨n, hn1, hn2, hS⟩, hK, hM⟩ := id hR
  have z : ¬ (1 : Int32) = 0 := by decide
  obtain ⟨m, hm1, hm2, ht⟩ := id hM
  have hm := ht.1
  obtain ⟨j, rd', h1, h2, h3, h4, e⟩ := k_read (F := F) (π := π) (sc := sc) (rd := rd) (cd := cd) (q := refH (F 0) p k cd l rs hs ++ lcs fL fD) (N := N) hm (by omega) hm1
  rcases r_whole (P := clsH F π sc rd' cd) (v := F 0) (p := p) (k := k) (t := cd) (l := l) (rs := upd rs 3 0) (hs := hs) (q := lcs fL fD) (N := N) (clsH_len _ _ _ _ _) (by rw [pk_un (by decide)]; exact hm2) ht (by omega) (r := r0 rd) rfl rfl with ⟨d, l', -, b1, b2, b3⟩ | ⟨j', k2, l', e', b1, b2⟩
  · have hj : j = m := err_u ⟨h1, h2, h3⟩ b1
    subst hj
    have hrd := h4 rfl
    subst hrd
    obtain ⟨h, hh1, hh2, hh3⟩ : ∃ h, h < 8 ∧ rS cd (r0 rd) j 4 = nI h ∧ (h = 5 ∨ h = 7) := b2.elim (fun e => ⟨5, by decide, e, Or.inl rfl⟩) (fun e => ⟨7, by decide, e, Or.inr rfl⟩)
    have hP2 := Pt_tr (t := cd) (l := l') (m := j) rfl (eqR_r0 rd (rS cd (r0 rd) j)) d 0 0 b3
    have hIs := Iv_stop (a := -1) (b := -1) (c := -1) hI
    have hIw := pmk_Iv (l := l') d 0 (uStop (F 0) (-1) (-1) (-1)) (fun x g1 g2 => Pt_ok d 0 0 x b3 g1 g2) hIs
    obtain ⟨rd2, em⟩ := c_mk (F := fu F (πs π n (πn n) + 2) (F 0)) (π := πs π n) (sc := upd sc 1 (nI (svN n))) (rd := rS cd (r0 rd) j) (cd := cd) (q := refH (F 0) p k cd l rs hs ++ lcs fL fD) (N := N) (by omega) hm (by rw [pk_un (by decide)]; exact hm1) hP2 (by rw [fu_0]; exact hI)
    rw [fu_0] at em
    rcases r_whole (P := clsH (fu (fu F (πs π n (πn n) + 2) (F 0)) 0 (pmk l' d 0 (uStop (F 0) (-1) (-1) (-1))).2) (πs π n) (upd (upd sc 1 (nI (svN n))) 2 (nI 0)) rd2 cd) (v := F 0) (p := p) (k := k) (t := cd) (l := l) (rs := upd rs 3 0) (hs := hs) (q := lcs (vp_updL fL 0 (pmk l' d 0 (uStop (F 0) (-1) (-1) (-1))).1.toInt64) fD) (N := N) (clsH_len _ _ _ _ _) (by rw [pk_un (by decide)]; exact hm2) ht (by omega) (r := r0 rd) rfl rfl with ⟨d3, l3, e3, -, -, b3'⟩ | ⟨j', k2, l3, -, c1, c2⟩
    · obtain ⟨-, eu⟩ := Pt_u d d3 0 0 b3 b3'
      have hd3 : 4 * d3 + 3 < 48 := by
        obtain ⟨_, _, _, _, _, _, _, _, _, _, _, _, hh⟩ := Pt_ok d3 0 0 d3 b3' (by omega) (by omega)
        exact hh
      obtain ⟨a, b, c, e5⟩ := r_prog_l (P := clsH (fu (fu F (πs π n (πn n) + 2) (F 0)) 0 (pmk l' d 0 (uStop (F 0) (-1) (-1) (-1))).2) (πs π n) (upd (upd sc 1 (nI (svN n))) 2 (nI 0)) rd2 cd) (p := sv p n (F 0)) (k := k) (t := cd) (l := l3) (hs := hs) (q := lcs (vp_updL fL 0 (pmk l' d 0 (uStop (F 0) (-1) (-1) (-1))).1.toInt64) fD) (N := N) (clsH_len _ _ _ _ _) (by omega) d3 0 N (uStop (F 0) (-1) (-1) (-1)) (upd (upd (w2 (upd rs 3 0) j (d3 + 1)) 0 (nI (svN n))) 2 0) (by omega) (by omega) (by rw [pk_un (by decide), pk_un (by decide), w2_8, Nat.zero_add]) (fun x g1 g2 => Pt_ok d3 0 0 x b3' g1 g2) hIs
      have hR2 : Rl (fu (fu F (πs π n (πn n) + 2) (F 0)) 0 (pmk l' d 0 (uStop (F 0) (-1) (-1) (-1))).2) (πs π n) (upd sc 1 (nI (svN n))) (sv p n (F 0)) k (upd rs 0 (nI (svN n))) cd := Rl_save hI hS hK hM hIw ⟨rfl, rfl, rfl⟩
      have hR3 := Rl_len (rs' := w3 (upd (upd (w2 (upd rs 3 0) j (d3 + 1)) 0 (nI (svN n))) 2 0) a b c) hR2 (okT_0 cd) ⟨rfl, rfl, rfl⟩
      refine Ok_r (rd' := rd2) (v := F 0) (p := p) (k := k) (t := cd) (l := l) (l' := l3) (rs := rs) (hs := hs) (hs' := hs) (fL := fL) (fD := fD) (y := (pmk l' d 0 (uStop (F 0) (-1) (-1) (-1))).1) hR3 ?_ ?_ rfl
      · unfold FL_program FX3_program
        rw [c_o, c_o, e, I_e, k_i2, hm1, if_pos rfl, k_r3, d_o, k_behind hh2 hh1, I_e, bl_t hh3, if_neg z, rq1, V_e, c_o, c_save (by omega) hn1 hS.1 hS.2.1, V_e, c_o, em, I_e, k_p2, TI_r, j_stL]
        rfl
      · unfold FX4_program
        rw [r_p3 (clsH_len _ _ _ _ _), r_o (clsH_len _ _ _ _ _), e3, I_e, if_neg z, r_o (clsH_len _ _ _ _ _), r_saves (clsH_len _ _ _ _ _) (by omega) (by rw [w2_o (by decide) (by decide), pk_un (by decide)]; exact hn2) hS.1, V_e, r_o (clsH_len _ _ _ _ _), r_stops (clsH_len _ _ _ _ _), V_e, r_p2 (clsH_len _ _ _ _ _), fu_s]
        rw [eu]
        rw [eu] at e5
        exact e5
    · have hj2 := err_u b1 c1
      exact absurd b2 (mid_not (c2 hj2.symm))
  · have hj : j = j' := err_u ⟨h1, h2, h3⟩ b1
    subst hj
    refine Ok_x (F := F) (π := π) (sc := sc) (cd := cd) (p := p) (k := k) (l := l) (rs := rs) (hs := hs) (fL := fL) (fD := fD) (rd' := rd') (l' := l') (e := 1) (y := 0) (rs' := upd (w2 (upd rs 3 0) j k2) 3 1) hR ?_ (by decide) ?_ rfl ⟨rfl, rfl, rfl⟩
    · unfold FL_program FX3_program
      rw [c_o, c_o, e, I_e, k_i2, hm1]
      by_cases hj : j = m
      · subst hj
        have hrd := h4 rfl
        subst hrd
        obtain ⟨h, hh1, hh2, hh3, hh4⟩ := b2 rfl
        rw [if_pos rfl, k_r3, d_o, k_behind hh2 hh1, I_e, bl_f (fun hh => hh.elim hh3 hh4), if_pos rfl, rq0, V_x, TI_x, if_pos rfl]
      · rw [if_neg (fun e => hj ((nI_eq (by omega) (by omega)).mp e)), rq0, V_x, TI_x, if_pos rfl]
    · unfold FX4_program
      rw [r_p3 (clsH_len _ _ _ _ _), r_o (clsH_len _ _ _ _ _), e', I_e, if_pos rfl, r_o (clsH_len _ _ _ _ _), r_refuses (clsH_len _ _ _ _ _), I_e]
end FR

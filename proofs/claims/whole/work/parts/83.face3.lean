/-! FACE: counts, reasons, next start, best screen, what if (printed by wip/whole/face.py) -/
section FV
variable {N : Nat}
theorem ok_count (hN : 2001 ≤ N) {a : Int32} : Ok (FL_count N 0 a 114) (FX4_count N 108 a) := by
  rintro h ⟨F, π, sc, rd, cd, p, k, l, rs, hs, fL, fD, rfl, hR⟩
  obtain ⟨hI, ⟨n, hn1, hn2, hS⟩, hK, hM⟩ := id hR
  have z : ¬ (1 : Int32) = 0 := by decide
  by_cases ha : 0 ≤ a ∧ a ≤ 11
  · obtain ⟨w, hw9, rfl⟩ := (in_i (b := 11) (by decide)).mp ha
    have e9 : sCn (F 0) (rs 0) w = sCn (F 0) (sc 1) w := by rw [hn1, hn2]
    refine Ok_q (F := F) (π := π) (sc := sc) (cd := cd) (p := p) (k := k) (l := l) (rs := rs) (hs := hs) (fL := fL) (fD := fD) (rd' := rd) (y := sCn (F 0) (sc 1) w) (l' := l) (rs' := upd rs 3 0) hR ?_ ?_ ⟨rfl, rfl, rfl, rfl⟩
    · unfold FL_count FX3_count
      rw [c_o, qW1 ha, V_e, c_o, c_cnt (by omega) hI (by omega), I_e, TI_r, j_stL]
    · unfold FX4_count
      rw [r_p3 (clsH_len _ _ _ _ _), e_in4, I_e, bl_t ha, if_neg z, r_o (clsH_len _ _ _ _ _), r_cnt (clsH_len _ _ _ _ _) (by omega) hI (by omega), I_e, pk_un (by decide), e9]
  · refine Ok_x (F := F) (π := π) (sc := sc) (cd := cd) (p := p) (k := k) (l := l) (rs := rs) (hs := hs) (fL := fL) (fD := fD) (rd' := rd) (l' := l) (e := 1) (y := 0) (rs' := upd (upd rs 3 0) 3 1) hR ?_ (by decide) ?_ rfl ⟨rfl, rfl, rfl⟩
    · unfold FL_count FX3_count
      rw [c_o, qW0 ha, V_x, TI_x, if_pos rfl]
    · unfold FX4_count
      rw [r_p3 (clsH_len _ _ _ _ _), e_in4, I_e, bl_f ha, if_pos rfl, r_o (clsH_len _ _ _ _ _), r_refuses (clsH_len _ _ _ _ _), I_e]
theorem ok_nextStart (hN : 2001 ≤ N) {a b x : Int32} : Ok (FL_nextStart N 0 a b x 114) (FX4_nextStart N 108 a b x) := by
  rintro h ⟨F, π, sc, rd, cd, p, k, l, rs, hs, fL, fD, rfl, hR⟩
  obtain ⟨hI, ⟨n, hn1, hn2, hS⟩, hK, hM⟩ := id hR
  have z : ¬ (1 : Int32) = 0 := by decide
  by_cases ha : ∃ f, f < cnt (F 0) 0 ∧ a = nI f
  · obtain ⟨f, hf, rfl⟩ := id ha
    by_cases hB : 0 ≤ b ∧ b ≤ 2
    · obtain ⟨c, hc9, rfl⟩ := (in_i (b := 2) (by decide)).mp hB
      by_cases hx : 0 ≤ x ∧ x ≤ 1999
      · obtain ⟨m, hm9, rfl⟩ := (in_i (b := 1999) (by decide)).mp hx
        obtain ⟨x1, y1, z1, e9⟩ := r_nx (P := clsH F π sc rd cd) (v := F 0) (p := p) (k := k) (t := cd) (l := l) (rs := upd rs 3 0) (hs := hs) (q := lcs (vp_updL fL 0 (sNx (F 0) f c m).toInt64) fD) (N := N) (clsH_len _ _ _ _ _) hN hI hf (show m < 2000 by omega) (c := c)
        refine Ok_q (F := F) (π := π) (sc := sc) (cd := cd) (p := p) (k := k) (l := l) (rs := rs) (hs := hs) (fL := fL) (fD := fD) (rd' := rd) (y := sNx (F 0) f c m) (l' := l) (rs' := w3 (upd rs 3 0) x1 y1 z1) hR ?_ ?_ ⟨rfl, rfl, rfl, rfl⟩
        · unfold FL_nextStart FX3_nextStart
          rw [c_o, c_o, qF1 hI ha, V_e, qC1 hB, V_e, qM1 hx, V_e, k_r0, c_o1, c_nx hN hI hf (by omega) (by omega), I_e, TI_r, j_stL]
        · unfold FX4_nextStart
          rw [r_p3 (clsH_len _ _ _ _ _), r_o (clsH_len _ _ _ _ _), r_isFilm (clsH_len _ _ _ _ _) hI, I_e, bl_t ha, if_neg z, r_isScreen, I_e, bl_t hB, if_neg z, r_isMinute, I_e, bl_t hx, if_neg z, r_o (clsH_len _ _ _ _ _), e9, I_e]
      · refine Ok_x (F := F) (π := π) (sc := sc) (cd := cd) (p := p) (k := k) (l := l) (rs := rs) (hs := hs) (fL := fL) (fD := fD) (rd' := rd) (l' := l) (e := 2) (y := 0) (rs' := upd (upd rs 3 0) 3 2) hR ?_ (by decide) ?_ rfl ⟨rfl, rfl, rfl⟩
        · unfold FL_nextStart FX3_nextStart
          rw [c_o, c_o, qF1 hI ha, V_e, qC1 hB, V_e, qM0 hx, V_x, TI_x, if_neg AX_ne, if_pos rfl]
        · unfold FX4_nextStart
          rw [r_p3 (clsH_len _ _ _ _ _), r_o (clsH_len _ _ _ _ _), r_isFilm (clsH_len _ _ _ _ _) hI, I_e, bl_t ha, if_neg z, r_isScreen, I_e, bl_t hB, if_neg z, r_isMinute, I_e, bl_f hx, if_pos rfl, r_o (clsH_len _ _ _ _ _), r_refuses (clsH_len _ _ _ _ _), I_e]
    · refine Ok_x (F := F) (π := π) (sc := sc) (cd := cd) (p := p) (k := k) (l := l) (rs := rs) (hs := hs) (fL := fL) (fD := fD) (rd' := rd) (l' := l) (e := 1) (y := 0) (rs' := upd (upd rs 3 0) 3 1) hR ?_ (by decide) ?_ rfl ⟨rfl, rfl, rfl⟩
      · unfold FL_nextStart FX3_nextStart
        rw [c_o, c_o, qF1 hI ha, V_e, qC0 hB, V_x, TI_x, if_pos rfl]
      · unfold FX4_nextStart
        rw [r_p3 (clsH_len _ _ _ _ _), r_o (clsH_len _ _ _ _ _), r_isFilm (clsH_len _ _ _ _ _) hI, I_e, bl_t ha, if_neg z, r_isScreen, I_e, bl_f hB, if_pos rfl, r_o (clsH_len _ _ _ _ _), r_refuses (clsH_len _ _ _ _ _), I_e]
  · refine Ok_x (F := F) (π := π) (sc := sc) (cd := cd) (p := p) (k := k) (l := l) (rs := rs) (hs := hs) (fL := fL) (fD := fD) (rd' := rd) (l' := l) (e := 1) (y := 0) (rs' := upd (upd rs 3 0) 3 1) hR ?_ (by decide) ?_ rfl ⟨rfl, rfl, rfl⟩
    · unfold FL_nextStart FX3_nextStart
      rw [c_o, c_o, qF0 hI ha, V_x, TI_x, if_pos rfl]
    · unfold FX4_nextStart
      rw [r_p3 (clsH_len _ _ _ _ _), r_o (clsH_len _ _ _ _ _), r_isFilm (clsH_len _ _ _ _ _) hI, I_e, bl_f ha, if_pos rfl, r_o (clsH_len _ _ _ _ _), r_refuses (clsH_len _ _ _ _ _), I_e]
theorem ok_bestScreen (hN : 2001 ≤ N) {a x : Int32} : Ok (FL_bestScreen N 0 a x 114) (FX4_bestScreen N 108 a x) := by
  rintro h ⟨F, π, sc, rd, cd, p, k, l, rs, hs, fL, fD, rfl, hR⟩
  obtain ⟨hI, ⟨n, hn1, hn2, hS⟩, hK, hM⟩ := id hR
  have z : ¬ (1 : Int32) = 0 := by decide
  by_cases ha : ∃ f, f < cnt (F 0) 0 ∧ a = nI f
  · obtain ⟨f, hf, rfl⟩ := id ha
    by_cases hx : 0 ≤ x ∧ x ≤ 1999
    · obtain ⟨m, hm9, rfl⟩ := (in_i (b := 1999) (by decide)).mp hx
      obtain ⟨x1, y1, z1, e9⟩ := r_b (P := clsH F π sc rd cd) (v := F 0) (p := p) (k := k) (t := cd) (l := l) (rs := upd rs 3 0) (hs := hs) (q := lcs (vp_updL fL 0 (sB (F 0) f m).toInt64) fD) (N := N) (clsH_len _ _ _ _ _) hN hI hf (show m < 2000 by omega)
      refine Ok_q (F := F) (π := π) (sc := sc) (cd := cd) (p := p) (k := k) (l := l) (rs := rs) (hs := hs) (fL := fL) (fD := fD) (rd' := rd) (y := sB (F 0) f m) (l' := l) (rs' := w3 (upd rs 3 0) x1 y1 z1) hR ?_ ?_ ⟨rfl, rfl, rfl, rfl⟩
      · unfold FL_bestScreen FX3_bestScreen
        rw [c_o, c_o, qF1 hI ha, V_e, qM1 hx, V_e, k_r0, c_o1, c_b hN hI hf (by omega), I_e, TI_r, j_stL]
      · unfold FX4_bestScreen
        rw [r_p3 (clsH_len _ _ _ _ _), r_o (clsH_len _ _ _ _ _), r_isFilm (clsH_len _ _ _ _ _) hI, I_e, bl_t ha, if_neg z, r_isMinute, I_e, bl_t hx, if_neg z, r_o (clsH_len _ _ _ _ _), e9, I_e]
    · refine Ok_x (F := F) (π := π) (sc := sc) (cd := cd) (p := p) (k := k) (l := l) (rs := rs) (hs := hs) (fL := fL) (fD := fD) (rd' := rd) (l' := l) (e := 2) (y := 0) (rs' := upd (upd rs 3 0) 3 2) hR ?_ (by decide) ?_ rfl ⟨rfl, rfl, rfl⟩
      · unfold FL_bestScreen FX3_bestScreen
        rw [c_o, c_o, qF1 hI ha, V_e, qM0 hx, V_x, TI_x, if_neg AX_ne, if_pos rfl]
      · unfold FX4_bestScreen
        rw [r_p3 (clsH_len _ _ _ _ _), r_o (clsH_len _ _ _ _ _), r_isFilm (clsH_len _ _ _ _ _) hI, I_e, bl_t ha, if_neg z, r_isMinute, I_e, bl_f hx, if_pos rfl, r_o (clsH_len _ _ _ _ _), r_refuses (clsH_len _ _ _ _ _), I_e]
  · refine Ok_x (F := F) (π := π) (sc := sc) (cd := cd) (p := p) (k := k) (l := l) (rs := rs) (hs := hs) (fL := fL) (fD := fD) (rd' := rd) (l' := l) (e := 1) (y := 0) (rs' := upd (upd rs 3 0) 3 1) hR ?_ (by decide) ?_ rfl ⟨rfl, rfl, rfl⟩
    · unfold FL_bestScreen FX3_bestScreen
      rw [c_o, c_o, qF0 hI ha, V_x, TI_x, if_pos rfl]
    · unfold FX4_bestScreen
      rw [r_p3 (clsH_len _ _ _ _ _), r_o (clsH_len _ _ _ _ _), r_isFilm (clsH_len _ _ _ _ _) hI, I_e, bl_f ha, if_pos rfl, r_o (clsH_len _ _ _ _ _), r_refuses (clsH_len _ _ _ _ _), I_e]
theorem ok_ifShown (hN : 2001 ≤ N) {a b x : Int32} : Ok (FL_ifShown N 0 a b x 114) (FX4_ifShown N 108 a b x) := by
  rintro h ⟨F, π, sc, rd, cd, p, k, l, rs, hs, fL, fD, rfl, hR⟩
  obtain ⟨hI, ⟨n, hn1, hn2, hS⟩, hK, hM⟩ := id hR
  have z : ¬ (1 : Int32) = 0 := by decide
  by_cases ha : ∃ f, f < cnt (F 0) 0 ∧ a = nI f
  · obtain ⟨f, hf, rfl⟩ := id ha
    by_cases hB : 0 ≤ b ∧ b ≤ 2
    · obtain ⟨c, hc9, rfl⟩ := (in_i (b := 2) (by decide)).mp hB
      by_cases hx : 0 ≤ x ∧ x ≤ 1999
      · obtain ⟨m, hm9, rfl⟩ := (in_i (b := 1999) (by decide)).mp hx
        have h8 : f < 8 := by have := hI.nf.2; omega
        by_cases hr : sRf (F 0) f (nI c) (nI m) 0 = 0
        · refine Ok_q (F := F) (π := π) (sc := sc) (cd := cd) (p := p) (k := k) (l := l) (rs := rs) (hs := hs) (fL := fL) (fD := fD) (rd' := rd) (y := sMo (F 0) f (nI m)) (l' := l) (rs' := w3 (upd rs 3 0) (sRs (F 0) f (nI c) (nI m) 0).1 (sRs (F 0) f (nI c) (nI m) 0).2.1 (sRs (F 0) f (nI c) (nI m) 0).2.2) hR ?_ ?_ ⟨rfl, rfl, rfl, rfl⟩
          · unfold FL_ifShown FX3_ifShown
            rw [c_o, c_o, qF1 hI ha, V_e, qC1 hB, V_e, qM1 hx, V_e, k_r0, c_o1, c_if hN hI hf, show sIf (F 0) f (nI c) (nI m) = sMo (F 0) f (nI m) from if_pos hr, I_e, TI_r, j_stL]
          · unfold FX4_ifShown
            rw [r_p3 (clsH_len _ _ _ _ _), r_o (clsH_len _ _ _ _ _), r_isFilm (clsH_len _ _ _ _ _) hI, I_e, bl_t ha, if_neg z, r_isScreen, I_e, bl_t hB, if_neg z, r_isMinute, I_e, bl_t hx, if_neg z, r_o (clsH_len _ _ _ _ _), r_reason (clsH_len _ _ _ _ _) (by omega) hI hf, I_e, if_pos hr, r_o (clsH_len _ _ _ _ _), r_more (clsH_len _ _ _ _ _) (by omega) hI h8, I_e]
        · refine Ok_q (F := F) (π := π) (sc := sc) (cd := cd) (p := p) (k := k) (l := l) (rs := rs) (hs := hs) (fL := fL) (fD := fD) (rd' := rd) (y := -1) (l' := l) (rs' := w3 (upd rs 3 0) (sRs (F 0) f (nI c) (nI m) 0).1 (sRs (F 0) f (nI c) (nI m) 0).2.1 (sRs (F 0) f (nI c) (nI m) 0).2.2) hR ?_ ?_ ⟨rfl, rfl, rfl, rfl⟩
          · unfold FL_ifShown FX3_ifShown
            rw [c_o, c_o, qF1 hI ha, V_e, qC1 hB, V_e, qM1 hx, V_e, k_r0, c_o1, c_if hN hI hf, show sIf (F 0) f (nI c) (nI m) = -1 from if_neg hr, I_e, TI_r, j_stL]
          · unfold FX4_ifShown
            rw [r_p3 (clsH_len _ _ _ _ _), r_o (clsH_len _ _ _ _ _), r_isFilm (clsH_len _ _ _ _ _) hI, I_e, bl_t ha, if_neg z, r_isScreen, I_e, bl_t hB, if_neg z, r_isMinute, I_e, bl_t hx, if_neg z, r_o (clsH_len _ _ _ _ _), r_reason (clsH_len _ _ _ _ _) (by omega) hI hf, I_e, if_neg hr]
      · refine Ok_x (F := F) (π := π) (sc := sc) (cd := cd) (p := p) (k := k) (l := l) (rs := rs) (hs := hs) (fL := fL) (fD := fD) (rd' := rd) (l' := l) (e := 2) (y := 0) (rs' := upd (upd rs 3 0) 3 2) hR ?_ (by decide) ?_ rfl ⟨rfl, rfl, rfl⟩
        · unfold FL_ifShown FX3_ifShown
          rw [c_o, c_o, qF1 hI ha, V_e, qC1 hB, V_e, qM0 hx, V_x, TI_x, if_neg AX_ne, if_pos rfl]
        · unfold FX4_ifShown
          rw [r_p3 (clsH_len _ _ _ _ _), r_o (clsH_len _ _ _ _ _), r_isFilm (clsH_len _ _ _ _ _) hI, I_e, bl_t ha, if_neg z, r_isScreen, I_e, bl_t hB, if_neg z, r_isMinute, I_e, bl_f hx, if_pos rfl, r_o (clsH_len _ _ _ _ _), r_refuses (clsH_len _ _ _ _ _), I_e]
    · refine Ok_x (F := F) (π := π) (sc := sc) (cd := cd) (p := p) (k := k) (l := l) (rs := rs) (hs := hs) (fL := fL) (fD := fD) (rd' := rd) (l' := l) (e := 1) (y := 0) (rs' := upd (upd rs 3 0) 3 1) hR ?_ (by decide) ?_ rfl ⟨rfl, rfl, rfl⟩
      · unfold FL_ifShown FX3_ifShown
        rw [c_o, c_o, qF1 hI ha, V_e, qC0 hB, V_x, TI_x, if_pos rfl]
      · unfold FX4_ifShown
        rw [r_p3 (clsH_len _ _ _ _ _), r_o (clsH_len _ _ _ _ _), r_isFilm (clsH_len _ _ _ _ _) hI, I_e, bl_t ha, if_neg z, r_isScreen, I_e, bl_f hB, if_pos rfl, r_o (clsH_len _ _ _ _ _), r_refuses (clsH_len _ _ _ _ _), I_e]
  · refine Ok_x (F := F) (π := π) (sc := sc) (cd := cd) (p := p) (k := k) (l := l) (rs := rs) (hs := hs) (fL := fL) (fD := fD) (rd' := rd) (l' := l) (e := 1) (y := 0) (rs' := upd (upd rs 3 0) 3 1) hR ?_ (by decide) ?_ rfl ⟨rfl, rfl, rfl⟩
    · unfold FL_ifShown FX3_ifShown
      rw [c_o, c_o, qF0 hI ha, V_x, TI_x, if_pos rfl]
    · unfold FX4_ifShown
      rw [r_p3 (clsH_len _ _ _ _ _), r_o (clsH_len _ _ _ _ _), r_isFilm (clsH_len _ _ _ _ _) hI, I_e, bl_f ha, if_pos rfl, r_o (clsH_len _ _ _ _ _), r_refuses (clsH_len _ _ _ _ _), I_e]
theorem way_4 {v : Nat → Int32} {f : Nat} {c a p : Int32} (h : sRf v f c a p = 4) : ∃ o, o < cnt v 1 ∧ sWay v f c a p (sRf v f c a p) = nI o := by
  have h1 : sTr v f c a p (-1) ≠ -1 := by
    unfold sRf at h
    split at h
    · unfold sRb at h
      split at h
      · split at h
        · split at h
          · exact absurd h (by decide)
          · assumption
        · exact absurd h (by decide)
      · exact absurd h (by decide)
    · exact absurd h (by decide)
  rw [h]
  unfold sWay
  rw [if_neg (by decide), if_pos rfl]
  rcases fi_cases (pRl v f c a p (-1)) (cnt v 1) 0 with ⟨h2, -⟩ | ⟨i, -, h3, -, h4, -⟩
  · exact absurd h2 h1
  · exact ⟨i, by omega, h4⟩
theorem ok_whyNot (hN : 2001 ≤ N) {a b x y u : Int32} : Ok (FL_whyNot N 0 a b x y u 114) (FX4_whyNot N 108 a b x y u) := by
  rintro h ⟨F, π, sc, rd, cd, p, k, l, rs, hs, fL, fD, rfl, hR⟩
  obtain ⟨hI, ⟨n, hn1, hn2, hS⟩, hK, hM⟩ := id hR
  have z : ¬ (1 : Int32) = 0 := by decide
  by_cases ha : ∃ f, f < cnt (F 0) 0 ∧ a = nI f
  · obtain ⟨f, hf, rfl⟩ := id ha
    by_cases hB : 0 ≤ b ∧ b ≤ 2
    · obtain ⟨c, hc9, rfl⟩ := (in_i (b := 2) (by decide)).mp hB
      by_cases hx : 0 ≤ x ∧ x ≤ 1999
      · obtain ⟨m, hm9, rfl⟩ := (in_i (b := 1999) (by decide)).mp hx
        by_cases hy : 0 ≤ y ∧ y ≤ 20
        · obtain ⟨g, hg9, rfl⟩ := (in_i (b := 20) (by decide)).mp hy
          by_cases hu : 0 ≤ u ∧ u ≤ 2
          · obtain ⟨w, hw9, rfl⟩ := (in_i (b := 2) (by decide)).mp hu
            have hw3 : w = 0 ∨ w = 1 ∨ w = 2 := by omega
            rcases hw3 with rfl | rfl | rfl
            · refine Ok_q (F := F) (π := π) (sc := sc) (cd := cd) (p := p) (k := k) (l := l) (rs := rs) (hs := hs) (fL := fL) (fD := fD) (rd' := rd) (y := sRf (F 0) f (nI c) (nI m) (nI g)) (l' := l) (rs' := w3 (upd rs 3 0) (sRs (F 0) f (nI c) (nI m) (nI g)).1 (sRs (F 0) f (nI c) (nI m) (nI g)).2.1 (sRs (F 0) f (nI c) (nI m) (nI g)).2.2) hR ?_ ?_ ⟨rfl, rfl, rfl, rfl⟩
              · unfold FL_whyNot FX3_whyNot
                rw [c_o, c_o, qF1 hI ha, V_e, qC1 hB, V_e, qM1 hx, V_e, e_in3, I_e, bl_t hy, rq1, V_e, qW1 hu, V_e, k_r0, c_o1, c_rf (by omega) hI hf, I_e, if_pos (show nI 0 = 0 from rfl), TI_r, j_stL]
              · unfold FX4_whyNot
                rw [r_p3 (clsH_len _ _ _ _ _), r_o (clsH_len _ _ _ _ _), r_isFilm (clsH_len _ _ _ _ _) hI, I_e, bl_t ha, if_neg z, r_isScreen, I_e, bl_t hB, if_neg z, r_isMinute, I_e, bl_t hx, if_neg z, e_in4, I_e, bl_t hy, if_neg z, e_in4, I_e, bl_t hu, if_neg z, r_o (clsH_len _ _ _ _ _), r_reason (clsH_len _ _ _ _ _) (by omega) hI hf, I_e, if_pos (show nI 0 = 0 from rfl)]
            · refine Ok_q (F := F) (π := π) (sc := sc) (cd := cd) (p := p) (k := k) (l := l) (rs := rs) (hs := hs) (fL := fL) (fD := fD) (rd' := rd) (y := sWay (F 0) f (nI c) (nI m) (nI g) (sRf (F 0) f (nI c) (nI m) (nI g))) (l' := l) (rs' := w3 (upd rs 3 0) (sRs (F 0) f (nI c) (nI m) (nI g)).1 (sRs (F 0) f (nI c) (nI m) (nI g)).2.1 (sRs (F 0) f (nI c) (nI m) (nI g)).2.2) hR ?_ ?_ ⟨rfl, rfl, rfl, rfl⟩
              · unfold FL_whyNot FX3_whyNot
                rw [c_o, c_o, qF1 hI ha, V_e, qC1 hB, V_e, qM1 hx, V_e, e_in3, I_e, bl_t hy, rq1, V_e, qW1 hu, V_e, k_r0, c_o1, c_rf (by omega) hI hf, I_e, if_neg (show ¬ nI 1 = 0 by decide), k_r0, c_o1, c_way (by omega) hI hf, I_e, if_pos (show nI 1 = 1 from rfl), TI_r, j_stL]
              · unfold FX4_whyNot
                rw [r_p3 (clsH_len _ _ _ _ _), r_o (clsH_len _ _ _ _ _), r_isFilm (clsH_len _ _ _ _ _) hI, I_e, bl_t ha, if_neg z, r_isScreen, I_e, bl_t hB, if_neg z, r_isMinute, I_e, bl_t hx, if_neg z, e_in4, I_e, bl_t hy, if_neg z, e_in4, I_e, bl_t hu, if_neg z, r_o (clsH_len _ _ _ _ _), r_reason (clsH_len _ _ _ _ _) (by omega) hI hf, I_e, if_neg (show ¬ nI 1 = 0 by decide), if_pos (show nI 1 = 1 from rfl), r_i5 (clsH_len _ _ _ _ _), w3_5, sRs_2]
            · by_cases h4 : sRf (F 0) f (nI c) (nI m) (nI g) = 4
              · obtain ⟨o, ho, hoe⟩ := way_4 h4
                refine Ok_q (F := F) (π := π) (sc := sc) (cd := cd) (p := p) (k := k) (l := l) (rs := rs) (hs := hs) (fL := fL) (fD := fD) (rd' := rd) (y := sCl (F 0) f (nI m) (nI g) o) (l' := l) (rs' := w3 (upd rs 3 0) (sRs (F 0) f (nI c) (nI m) (nI g)).1 (sRs (F 0) f (nI c) (nI m) (nI g)).2.1 (sRs (F 0) f (nI c) (nI m) (nI g)).2.2) hR ?_ ?_ ⟨rfl, rfl, rfl, rfl⟩
                · unfold FL_whyNot FX3_whyNot
                  rw [c_o, c_o, qF1 hI ha, V_e, qC1 hB, V_e, qM1 hx, V_e, e_in3, I_e, bl_t hy, rq1, V_e, qW1 hu, V_e, k_r0, c_o1, c_rf (by omega) hI hf, I_e, if_neg (show ¬ nI 2 = 0 by decide), k_r0, c_o1, c_way (by omega) hI hf, I_e, if_neg (show ¬ nI 2 = 1 by decide), if_pos h4, k_r0, hoe, c_o1, c_cl (by omega) hI hf ho, I_e, TI_r, j_stL]
                · unfold FX4_whyNot
                  rw [r_p3 (clsH_len _ _ _ _ _), r_o (clsH_len _ _ _ _ _), r_isFilm (clsH_len _ _ _ _ _) hI, I_e, bl_t ha, if_neg z, r_isScreen, I_e, bl_t hB, if_neg z, r_isMinute, I_e, bl_t hx, if_neg z, e_in4, I_e, bl_t hy, if_neg z, e_in4, I_e, bl_t hu, if_neg z, r_o (clsH_len _ _ _ _ _), r_reason (clsH_len _ _ _ _ _) (by omega) hI hf, I_e, if_neg (show ¬ nI 2 = 0 by decide), if_neg (show ¬ nI 2 = 1 by decide), r_i6 (clsH_len _ _ _ _ _), w3_6, sRs_3, if_pos h4, hoe, nI_clamp (by have := hI.ns.2; omega)]
              · refine Ok_q (F := F) (π := π) (sc := sc) (cd := cd) (p := p) (k := k) (l := l) (rs := rs) (hs := hs) (fL := fL) (fD := fD) (rd' := rd) (y := -1) (l' := l) (rs' := w3 (upd rs 3 0) (sRs (F 0) f (nI c) (nI m) (nI g)).1 (sRs (F 0) f (nI c) (nI m) (nI g)).2.1 (sRs (F 0) f (nI c) (nI m) (nI g)).2.2) hR ?_ ?_ ⟨rfl, rfl, rfl, rfl⟩
                · unfold FL_whyNot FX3_whyNot
                  rw [c_o, c_o, qF1 hI ha, V_e, qC1 hB, V_e, qM1 hx, V_e, e_in3, I_e, bl_t hy, rq1, V_e, qW1 hu, V_e, k_r0, c_o1, c_rf (by omega) hI hf, I_e, if_neg (show ¬ nI 2 = 0 by decide), k_r0, c_o1, c_way (by omega) hI hf, I_e, if_neg (show ¬ nI 2 = 1 by decide), if_neg h4, TI_r, j_stL]
                · unfold FX4_whyNot
                  rw [r_p3 (clsH_len _ _ _ _ _), r_o (clsH_len _ _ _ _ _), r_isFilm (clsH_len _ _ _ _ _) hI, I_e, bl_t ha, if_neg z, r_isScreen, I_e, bl_t hB, if_neg z, r_isMinute, I_e, bl_t hx, if_neg z, e_in4, I_e, bl_t hy, if_neg z, e_in4, I_e, bl_t hu, if_neg z, r_o (clsH_len _ _ _ _ _), r_reason (clsH_len _ _ _ _ _) (by omega) hI hf, I_e, if_neg (show ¬ nI 2 = 0 by decide), if_neg (show ¬ nI 2 = 1 by decide), r_i6 (clsH_len _ _ _ _ _), w3_6, sRs_3, if_neg h4]
          · refine Ok_x (F := F) (π := π) (sc := sc) (cd := cd) (p := p) (k := k) (l := l) (rs := rs) (hs := hs) (fL := fL) (fD := fD) (rd' := rd) (l' := l) (e := 2) (y := 0) (rs' := upd (upd rs 3 0) 3 2) hR ?_ (by decide) ?_ rfl ⟨rfl, rfl, rfl⟩
            · unfold FL_whyNot FX3_whyNot
              rw [c_o, c_o, qF1 hI ha, V_e, qC1 hB, V_e, qM1 hx, V_e, e_in3, I_e, bl_t hy, rq1, V_e, qW0 hu, V_x, TI_x, if_neg AX_ne, if_pos rfl]
            · unfold FX4_whyNot
              rw [r_p3 (clsH_len _ _ _ _ _), r_o (clsH_len _ _ _ _ _), r_isFilm (clsH_len _ _ _ _ _) hI, I_e, bl_t ha, if_neg z, r_isScreen, I_e, bl_t hB, if_neg z, r_isMinute, I_e, bl_t hx, if_neg z, e_in4, I_e, bl_t hy, if_neg z, e_in4, I_e, bl_f hu, if_pos rfl, r_o (clsH_len _ _ _ _ _), r_refuses (clsH_len _ _ _ _ _), I_e]
        · refine Ok_x (F := F) (π := π) (sc := sc) (cd := cd) (p := p) (k := k) (l := l) (rs := rs) (hs := hs) (fL := fL) (fD := fD) (rd' := rd) (l' := l) (e := 2) (y := 0) (rs' := upd (upd rs 3 0) 3 2) hR ?_ (by decide) ?_ rfl ⟨rfl, rfl, rfl⟩
          · unfold FL_whyNot FX3_whyNot
            rw [c_o, c_o, qF1 hI ha, V_e, qC1 hB, V_e, qM1 hx, V_e, e_in3, I_e, bl_f hy, rq0, V_x, TI_x, if_neg AX_ne, if_pos rfl]
          · unfold FX4_whyNot
            rw [r_p3 (clsH_len _ _ _ _ _), r_o (clsH_len _ _ _ _ _), r_isFilm (clsH_len _ _ _ _ _) hI, I_e, bl_t ha, if_neg z, r_isScreen, I_e, bl_t hB, if_neg z, r_isMinute, I_e, bl_t hx, if_neg z, e_in4, I_e, bl_f hy, if_pos rfl, r_o (clsH_len _ _ _ _ _), r_refuses (clsH_len _ _ _ _ _), I_e]
      · refine Ok_x (F := F) (π := π) (sc := sc) (cd := cd) (p := p) (k := k) (l := l) (rs := rs) (hs := hs) (fL := fL) (fD := fD) (rd' := rd) (l' := l) (e := 2) (y := 0) (rs' := upd (upd rs 3 0) 3 2) hR ?_ (by decide) ?_ rfl ⟨rfl, rfl, rfl⟩
        · unfold FL_whyNot FX3_whyNot
          rw [c_o, c_o, qF1 hI ha, V_e, qC1 hB, V_e, qM0 hx, V_x, TI_x, if_neg AX_ne, if_pos rfl]
        · unfold FX4_whyNot
          rw [r_p3 (clsH_len _ _ _ _ _), r_o (clsH_len _ _ _ _ _), r_isFilm (clsH_len _ _ _ _ _) hI, I_e, bl_t ha, if_neg z, r_isScreen, I_e, bl_t hB, if_neg z, r_isMinute, I_e, bl_f hx, if_pos rfl, r_o (clsH_len _ _ _ _ _), r_refuses (clsH_len _ _ _ _ _), I_e]
    · refine Ok_x (F := F) (π := π) (sc := sc) (cd := cd) (p := p) (k := k) (l := l) (rs := rs) (hs := hs) (fL := fL) (fD := fD) (rd' := rd) (l' := l) (e := 1) (y := 0) (rs' := upd (upd rs 3 0) 3 1) hR ?_ (by decide) ?_ rfl ⟨rfl, rfl, rfl⟩
      · unfold FL_whyNot FX3_whyNot
        rw [c_o, c_o, qF1 hI ha, V_e, qC0 hB, V_x, TI_x, if_pos rfl]
      · unfold FX4_whyNot
        rw [r_p3 (clsH_len _ _ _ _ _), r_o (clsH_len _ _ _ _ _), r_isFilm (clsH_len _ _ _ _ _) hI, I_e, bl_t ha, if_neg z, r_isScreen, I_e, bl_f hB, if_pos rfl, r_o (clsH_len _ _ _ _ _), r_refuses (clsH_len _ _ _ _ _), I_e]
  · refine Ok_x (F := F) (π := π) (sc := sc) (cd := cd) (p := p) (k := k) (l := l) (rs := rs) (hs := hs) (fL := fL) (fD := fD) (rd' := rd) (l' := l) (e := 1) (y := 0) (rs' := upd (upd rs 3 0) 3 1) hR ?_ (by decide) ?_ rfl ⟨rfl, rfl, rfl⟩
    · unfold FL_whyNot FX3_whyNot
      rw [c_o, c_o, qF0 hI ha, V_x, TI_x, if_pos rfl]
    · unfold FX4_whyNot
      rw [r_p3 (clsH_len _ _ _ _ _), r_o (clsH_len _ _ _ _ _), r_isFilm (clsH_len _ _ _ _ _) hI, I_e, bl_f ha, if_pos rfl, r_o (clsH_len _ _ _ _ _), r_refuses (clsH_len _ _ _ _ _), I_e]
end FV

/-! FACE: the questions (printed by wip/whole/face.py) -/
theorem gG1 {v : Nat → Int32} {x : Int32} (hI : Iv v) (hx : ∃ f, f < cnt v 2 ∧ x = nI f) : 0 ≤ x ∧ x ≤ v 2 - 1 := by rw [hI.ng.1]; exact (in_n (by have := hI.ng.2; omega)).mpr hx
theorem gG0 {v : Nat → Int32} {x : Int32} (hI : Iv v) (hx : ¬ ∃ f, f < cnt v 2 ∧ x = nI f) : ¬ (0 ≤ x ∧ x ≤ v 2 - 1) := by rw [hI.ng.1]; exact fun hh => hx ((in_n (by have := hI.ng.2; omega)).mp hh)
section FQ
variable {N : Nat}
theorem ok_filmOf (hN : 2001 ≤ N) {a b : Int32} : Ok (FL_filmOf N 0 a b 114) (FX4_filmOf N 108 a b) := by
  rintro h ⟨F, π, sc, rd, cd, p, k, l, rs, hs, fL, fD, rfl, hR⟩
  obtain ⟨hI, ⟨n, hn1, hn2, hS⟩, hK, hM⟩ := id hR
  have z : ¬ (1 : Int32) = 0 := by decide
  by_cases ha : ∃ f, f < cnt (F 0) 0 ∧ a = nI f
  · obtain ⟨f, hf, rfl⟩ := id ha
    by_cases hb : 0 ≤ b ∧ b ≤ 5
    · obtain ⟨w, hw9, rfl⟩ := (in_i (b := 5) (by decide)).mp hb
      refine Ok_q (F := F) (π := π) (sc := sc) (cd := cd) (p := p) (k := k) (l := l) (rs := rs) (hs := hs) (fL := fL) (fD := fD) (rd' := rd) (y := sFilm (F 0) f w) (l' := l) (rs' := upd rs 3 0) hR ?_ ?_ ⟨rfl, rfl, rfl, rfl⟩
      · unfold FL_filmOf FX3_filmOf
        rw [c_o, c_o, qF1 hI ha, V_e, qW1 hb, V_e, k_r0, c_o1, c_film (by omega) hI hf (by omega), I_e, TI_r, j_stL]
      · unfold FX4_filmOf
        rw [r_p3 (clsH_len _ _ _ _ _), r_o (clsH_len _ _ _ _ _), r_isFilm (clsH_len _ _ _ _ _) hI, I_e, bl_t ha, if_neg z, e_in4, I_e, bl_t hb, if_neg z, r_o (clsH_len _ _ _ _ _), r_film (clsH_len _ _ _ _ _) (by omega) hI hf (by omega), I_e]
    · refine Ok_x (F := F) (π := π) (sc := sc) (cd := cd) (p := p) (k := k) (l := l) (rs := rs) (hs := hs) (fL := fL) (fD := fD) (rd' := rd) (l' := l) (e := 2) (y := 0) (rs' := upd (upd rs 3 0) 3 2) hR ?_ (by decide) ?_ rfl ⟨rfl, rfl, rfl⟩
      · unfold FL_filmOf FX3_filmOf
        rw [c_o, c_o, qF1 hI ha, V_e, qW0 hb, V_x, TI_x, if_neg AX_ne, if_pos rfl]
      · unfold FX4_filmOf
        rw [r_p3 (clsH_len _ _ _ _ _), r_o (clsH_len _ _ _ _ _), r_isFilm (clsH_len _ _ _ _ _) hI, I_e, bl_t ha, if_neg z, e_in4, I_e, bl_f hb, if_pos rfl, r_o (clsH_len _ _ _ _ _), r_refuses (clsH_len _ _ _ _ _), I_e]
  · refine Ok_x (F := F) (π := π) (sc := sc) (cd := cd) (p := p) (k := k) (l := l) (rs := rs) (hs := hs) (fL := fL) (fD := fD) (rd' := rd) (l' := l) (e := 1) (y := 0) (rs' := upd (upd rs 3 0) 3 1) hR ?_ (by decide) ?_ rfl ⟨rfl, rfl, rfl⟩
    · unfold FL_filmOf FX3_filmOf
      rw [c_o, c_o, qF0 hI ha, V_x, TI_x, if_pos rfl]
    · unfold FX4_filmOf
      rw [r_p3 (clsH_len _ _ _ _ _), r_o (clsH_len _ _ _ _ _), r_isFilm (clsH_len _ _ _ _ _) hI, I_e, bl_f ha, if_pos rfl, r_o (clsH_len _ _ _ _ _), r_refuses (clsH_len _ _ _ _ _), I_e]
theorem ok_showing (hN : 2001 ≤ N) {a b : Int32} : Ok (FL_showing 0 a b 114) (FX4_showing 108 a b) := by
  rintro h ⟨F, π, sc, rd, cd, p, k, l, rs, hs, fL, fD, rfl, hR⟩
  obtain ⟨hI, ⟨n, hn1, hn2, hS⟩, hK, hM⟩ := id hR
  have z : ¬ (1 : Int32) = 0 := by decide
  by_cases ha : ∃ f, f < cnt (F 0) 1 ∧ a = nI f
  · obtain ⟨s, hs9, rfl⟩ := id ha
    by_cases hb : 0 ≤ b ∧ b ≤ 5
    · obtain ⟨w, hw9, rfl⟩ := (in_i (b := 5) (by decide)).mp hb
      refine Ok_q (F := F) (π := π) (sc := sc) (cd := cd) (p := p) (k := k) (l := l) (rs := rs) (hs := hs) (fL := fL) (fD := fD) (rd' := rd) (y := sShow (F 0) s w) (l' := l) (rs' := upd rs 3 0) hR ?_ ?_ ⟨rfl, rfl, rfl, rfl⟩
      · unfold FL_showing FX3_showing
        rw [c_o, c_o, qS1 hI ha, V_e, qW1 hb, V_e, k_r0, c_o1, c_show hI hs9 (by omega), I_e, TI_r, j_stL]
      · unfold FX4_showing
        rw [r_p3 (clsH_len _ _ _ _ _), r_o (clsH_len _ _ _ _ _), r_isShowing (clsH_len _ _ _ _ _) hI, I_e, bl_t ha, if_neg z, e_in4, I_e, bl_t hb, if_neg z, r_o (clsH_len _ _ _ _ _), r_show (clsH_len _ _ _ _ _) hI hs9 (by omega), I_e]
    · refine Ok_x (F := F) (π := π) (sc := sc) (cd := cd) (p := p) (k := k) (l := l) (rs := rs) (hs := hs) (fL := fL) (fD := fD) (rd' := rd) (l' := l) (e := 2) (y := 0) (rs' := upd (upd rs 3 0) 3 2) hR ?_ (by decide) ?_ rfl ⟨rfl, rfl, rfl⟩
      · unfold FL_showing FX3_showing
        rw [c_o, c_o, qS1 hI ha, V_e, qW0 hb, V_x, TI_x, if_neg AX_ne, if_pos rfl]
      · unfold FX4_showing
        rw [r_p3 (clsH_len _ _ _ _ _), r_o (clsH_len _ _ _ _ _), r_isShowing (clsH_len _ _ _ _ _) hI, I_e, bl_t ha, if_neg z, e_in4, I_e, bl_f hb, if_pos rfl, r_o (clsH_len _ _ _ _ _), r_refuses (clsH_len _ _ _ _ _), I_e]
  · refine Ok_x (F := F) (π := π) (sc := sc) (cd := cd) (p := p) (k := k) (l := l) (rs := rs) (hs := hs) (fL := fL) (fD := fD) (rd' := rd) (l' := l) (e := 1) (y := 0) (rs' := upd (upd rs 3 0) 3 1) hR ?_ (by decide) ?_ rfl ⟨rfl, rfl, rfl⟩
    · unfold FL_showing FX3_showing
      rw [c_o, c_o, qS0 hI ha, V_x, TI_x, if_pos rfl]
    · unfold FX4_showing
      rw [r_p3 (clsH_len _ _ _ _ _), r_o (clsH_len _ _ _ _ _), r_isShowing (clsH_len _ _ _ _ _) hI, I_e, bl_f ha, if_pos rfl, r_o (clsH_len _ _ _ _ _), r_refuses (clsH_len _ _ _ _ _), I_e]
theorem ok_reel (hN : 2001 ≤ N) {a b : Int32} : Ok (FL_reel 0 a b 114) (FX4_reel 108 a b) := by
  rintro h ⟨F, π, sc, rd, cd, p, k, l, rs, hs, fL, fD, rfl, hR⟩
  obtain ⟨hI, ⟨n, hn1, hn2, hS⟩, hK, hM⟩ := id hR
  have z : ¬ (1 : Int32) = 0 := by decide
  by_cases ha : ∃ f, f < cnt (F 0) 1 ∧ a = nI f
  · obtain ⟨s, hs9, rfl⟩ := id ha
    by_cases hb : 0 ≤ b ∧ b ≤ 5
    · refine Ok_q (F := F) (π := π) (sc := sc) (cd := cd) (p := p) (k := k) (l := l) (rs := rs) (hs := hs) (fL := fL) (fD := fD) (rd' := rd) (y := sRb0 (F 0) s b) (l' := l) (rs' := upd rs 3 0) hR ?_ ?_ ⟨rfl, rfl, rfl, rfl⟩
      · unfold FL_reel FX3_reel
        rw [c_o, c_o, qS1 hI ha, V_e, e_in3, I_e, bl_t hb, rq1, V_e, k_r0, c_o1, c_rbeg hI hs9, I_e, TI_r, j_stL]
      · unfold FX4_reel
        rw [r_p3 (clsH_len _ _ _ _ _), r_o (clsH_len _ _ _ _ _), r_isShowing (clsH_len _ _ _ _ _) hI, I_e, bl_t ha, if_neg z, e_in4, I_e, bl_t hb, if_neg z, r_o (clsH_len _ _ _ _ _), r_rat (clsH_len _ _ _ _ _) hI hs9, I_e]
    · refine Ok_x (F := F) (π := π) (sc := sc) (cd := cd) (p := p) (k := k) (l := l) (rs := rs) (hs := hs) (fL := fL) (fD := fD) (rd' := rd) (l' := l) (e := 2) (y := 0) (rs' := upd (upd rs 3 0) 3 2) hR ?_ (by decide) ?_ rfl ⟨rfl, rfl, rfl⟩
      · unfold FL_reel FX3_reel
        rw [c_o, c_o, qS1 hI ha, V_e, e_in3, I_e, bl_f hb, rq0, V_x, TI_x, if_neg AX_ne, if_pos rfl]
      · unfold FX4_reel
        rw [r_p3 (clsH_len _ _ _ _ _), r_o (clsH_len _ _ _ _ _), r_isShowing (clsH_len _ _ _ _ _) hI, I_e, bl_t ha, if_neg z, e_in4, I_e, bl_f hb, if_pos rfl, r_o (clsH_len _ _ _ _ _), r_refuses (clsH_len _ _ _ _ _), I_e]
  · refine Ok_x (F := F) (π := π) (sc := sc) (cd := cd) (p := p) (k := k) (l := l) (rs := rs) (hs := hs) (fL := fL) (fD := fD) (rd' := rd) (l' := l) (e := 1) (y := 0) (rs' := upd (upd rs 3 0) 3 1) hR ?_ (by decide) ?_ rfl ⟨rfl, rfl, rfl⟩
    · unfold FL_reel FX3_reel
      rw [c_o, c_o, qS0 hI ha, V_x, TI_x, if_pos rfl]
    · unfold FX4_reel
      rw [r_p3 (clsH_len _ _ _ _ _), r_o (clsH_len _ _ _ _ _), r_isShowing (clsH_len _ _ _ _ _) hI, I_e, bl_f ha, if_pos rfl, r_o (clsH_len _ _ _ _ _), r_refuses (clsH_len _ _ _ _ _), I_e]
theorem ok_runs (hN : 2001 ≤ N) {a b : Int32} : Ok (FL_runs N 0 a b 114) (FX4_runs N 108 a b) := by
  rintro h ⟨F, π, sc, rd, cd, p, k, l, rs, hs, fL, fD, rfl, hR⟩
  obtain ⟨hI, ⟨n, hn1, hn2, hS⟩, hK, hM⟩ := id hR
  have z : ¬ (1 : Int32) = 0 := by decide
  by_cases ha : 0 ≤ a ∧ a ≤ 2
  · obtain ⟨c, hc9, rfl⟩ := (in_i (b := 2) (by decide)).mp ha
    by_cases hb : 0 ≤ b ∧ b ≤ 1999
    · obtain ⟨m, hm9, rfl⟩ := (in_i (b := 1999) (by decide)).mp hb
      refine Ok_q (F := F) (π := π) (sc := sc) (cd := cd) (p := p) (k := k) (l := l) (rs := rs) (hs := hs) (fL := fL) (fD := fD) (rd' := rd) (y := sRun (F 0) (nI c) (nI m)) (l' := l) (rs' := upd rs 3 0) hR ?_ ?_ ⟨rfl, rfl, rfl, rfl⟩
      · unfold FL_runs FX3_runs
        rw [c_o, qC1 ha, V_e, qM1 hb, V_e, k_r0, c_o1, c_run (by omega) hI, I_e, TI_r, j_stL]
      · unfold FX4_runs
        rw [r_p3 (clsH_len _ _ _ _ _), r_isScreen, I_e, bl_t ha, if_neg z, r_isMinute, I_e, bl_t hb, if_neg z, r_o (clsH_len _ _ _ _ _), r_run (clsH_len _ _ _ _ _) (by omega) hN hI, I_e]
    · refine Ok_x (F := F) (π := π) (sc := sc) (cd := cd) (p := p) (k := k) (l := l) (rs := rs) (hs := hs) (fL := fL) (fD := fD) (rd' := rd) (l' := l) (e := 2) (y := 0) (rs' := upd (upd rs 3 0) 3 2) hR ?_ (by decide) ?_ rfl ⟨rfl, rfl, rfl⟩
      · unfold FL_runs FX3_runs
        rw [c_o, qC1 ha, V_e, qM0 hb, V_x, TI_x, if_neg AX_ne, if_pos rfl]
      · unfold FX4_runs
        rw [r_p3 (clsH_len _ _ _ _ _), r_isScreen, I_e, bl_t ha, if_neg z, r_isMinute, I_e, bl_f hb, if_pos rfl, r_o (clsH_len _ _ _ _ _), r_refuses (clsH_len _ _ _ _ _), I_e]
  · refine Ok_x (F := F) (π := π) (sc := sc) (cd := cd) (p := p) (k := k) (l := l) (rs := rs) (hs := hs) (fL := fL) (fD := fD) (rd' := rd) (l' := l) (e := 1) (y := 0) (rs' := upd (upd rs 3 0) 3 1) hR ?_ (by decide) ?_ rfl ⟨rfl, rfl, rfl⟩
    · unfold FL_runs FX3_runs
      rw [c_o, qC0 ha, V_x, TI_x, if_pos rfl]
    · unfold FX4_runs
      rw [r_p3 (clsH_len _ _ _ _ _), r_isScreen, I_e, bl_f ha, if_pos rfl, r_o (clsH_len _ _ _ _ _), r_refuses (clsH_len _ _ _ _ _), I_e]
theorem ok_screen (hN : 2001 ≤ N) {a b : Int32} : Ok (FL_screen N 0 a b 114) (FX4_screen N 108 a b) := by
  rintro h ⟨F, π, sc, rd, cd, p, k, l, rs, hs, fL, fD, rfl, hR⟩
  obtain ⟨hI, ⟨n, hn1, hn2, hS⟩, hK, hM⟩ := id hR
  have z : ¬ (1 : Int32) = 0 := by decide
  by_cases ha : 0 ≤ a ∧ a ≤ 2
  · obtain ⟨c, hc9, rfl⟩ := (in_i (b := 2) (by decide)).mp ha
    by_cases hb : 0 ≤ b ∧ b ≤ 4
    · obtain ⟨w, hw9, rfl⟩ := (in_i (b := 4) (by decide)).mp hb
      refine Ok_q (F := F) (π := π) (sc := sc) (cd := cd) (p := p) (k := k) (l := l) (rs := rs) (hs := hs) (fL := fL) (fD := fD) (rd' := rd) (y := sScr (F 0) c w) (l' := l) (rs' := upd rs 3 0) hR ?_ ?_ ⟨rfl, rfl, rfl, rfl⟩
      · unfold FL_screen FX3_screen
        rw [c_o, qC1 ha, V_e, qW1 hb, V_e, k_r0, c_o1, c_scr hN hI (by omega) (by omega), I_e, TI_r, j_stL]
      · unfold FX4_screen
        rw [r_p3 (clsH_len _ _ _ _ _), r_isScreen, I_e, bl_t ha, if_neg z, e_in4, I_e, bl_t hb, if_neg z, r_o (clsH_len _ _ _ _ _), r_scr (clsH_len _ _ _ _ _) (by omega) hI (by omega) (by omega), I_e]
    · refine Ok_x (F := F) (π := π) (sc := sc) (cd := cd) (p := p) (k := k) (l := l) (rs := rs) (hs := hs) (fL := fL) (fD := fD) (rd' := rd) (l' := l) (e := 2) (y := 0) (rs' := upd (upd rs 3 0) 3 2) hR ?_ (by decide) ?_ rfl ⟨rfl, rfl, rfl⟩
      · unfold FL_screen FX3_screen
        rw [c_o, qC1 ha, V_e, qW0 hb, V_x, TI_x, if_neg AX_ne, if_pos rfl]
      · unfold FX4_screen
        rw [r_p3 (clsH_len _ _ _ _ _), r_isScreen, I_e, bl_t ha, if_neg z, e_in4, I_e, bl_f hb, if_pos rfl, r_o (clsH_len _ _ _ _ _), r_refuses (clsH_len _ _ _ _ _), I_e]
  · refine Ok_x (F := F) (π := π) (sc := sc) (cd := cd) (p := p) (k := k) (l := l) (rs := rs) (hs := hs) (fL := fL) (fD := fD) (rd' := rd) (l' := l) (e := 1) (y := 0) (rs' := upd (upd rs 3 0) 3 1) hR ?_ (by decide) ?_ rfl ⟨rfl, rfl, rfl⟩
    · unfold FL_screen FX3_screen
      rw [c_o, qC0 ha, V_x, TI_x, if_pos rfl]
    · unfold FX4_screen
      rw [r_p3 (clsH_len _ _ _ _ _), r_isScreen, I_e, bl_f ha, if_pos rfl, r_o (clsH_len _ _ _ _ _), r_refuses (clsH_len _ _ _ _ _), I_e]
theorem ok_guestOf (hN : 2001 ≤ N) {a b : Int32} : Ok (FL_guestOf N 0 a b 114) (FX4_guestOf N 108 a b) := by
  rintro h ⟨F, π, sc, rd, cd, p, k, l, rs, hs, fL, fD, rfl, hR⟩
  obtain ⟨hI, ⟨n, hn1, hn2, hS⟩, hK, hM⟩ := id hR
  have z : ¬ (1 : Int32) = 0 := by decide
  by_cases ha : ∃ f, f < cnt (F 0) 2 ∧ a = nI f
  · obtain ⟨g, hg9, rfl⟩ := id ha
    by_cases hb : 0 ≤ b ∧ b ≤ 3
    · obtain ⟨w, hw9, rfl⟩ := (in_i (b := 3) (by decide)).mp hb
      refine Ok_q (F := F) (π := π) (sc := sc) (cd := cd) (p := p) (k := k) (l := l) (rs := rs) (hs := hs) (fL := fL) (fD := fD) (rd' := rd) (y := sGst (F 0) g w) (l' := l) (rs' := upd rs 3 0) hR ?_ ?_ ⟨rfl, rfl, rfl, rfl⟩
      · unfold FL_guestOf FX3_guestOf
        rw [c_o, k_r0, c_r4, c_n2, e_in3, I_e, bl_t (gG1 hI ha), if_neg z, qW1 hb, V_e, k_r0, c_o1, c_gst (by omega) hI hg9 (by omega), I_e, TI_r, j_stL]
      · unfold FX4_guestOf
        rw [r_p3 (clsH_len _ _ _ _ _), r_now (clsH_len _ _ _ _ _), r_n2 (clsH_len _ _ _ _ _), e_in4, I_e, bl_t (gG1 hI ha), if_neg z, e_in4, I_e, bl_t hb, if_neg z, r_o (clsH_len _ _ _ _ _), r_gst (clsH_len _ _ _ _ _) (by omega) hI hg9 (by omega), I_e]
    · refine Ok_x (F := F) (π := π) (sc := sc) (cd := cd) (p := p) (k := k) (l := l) (rs := rs) (hs := hs) (fL := fL) (fD := fD) (rd' := rd) (l' := l) (e := 2) (y := 0) (rs' := upd (upd rs 3 0) 3 2) hR ?_ (by decide) ?_ rfl ⟨rfl, rfl, rfl⟩
      · unfold FL_guestOf FX3_guestOf
        rw [c_o, k_r0, c_r4, c_n2, e_in3, I_e, bl_t (gG1 hI ha), if_neg z, qW0 hb, V_x, TI_x, if_neg AX_ne, if_pos rfl]
      · unfold FX4_guestOf
        rw [r_p3 (clsH_len _ _ _ _ _), r_now (clsH_len _ _ _ _ _), r_n2 (clsH_len _ _ _ _ _), e_in4, I_e, bl_t (gG1 hI ha), if_neg z, e_in4, I_e, bl_f hb, if_pos rfl, r_o (clsH_len _ _ _ _ _), r_refuses (clsH_len _ _ _ _ _), I_e]
  · refine Ok_x (F := F) (π := π) (sc := sc) (cd := cd) (p := p) (k := k) (l := l) (rs := rs) (hs := hs) (fL := fL) (fD := fD) (rd' := rd) (l' := l) (e := 1) (y := 0) (rs' := upd (upd rs 3 0) 3 1) hR ?_ (by decide) ?_ rfl ⟨rfl, rfl, rfl⟩
    · unfold FL_guestOf FX3_guestOf
      rw [c_o, k_r0, c_r4, c_n2, e_in3, I_e, bl_f (gG0 hI ha), if_pos rfl, TI_x, if_pos rfl]
    · unfold FX4_guestOf
      rw [r_p3 (clsH_len _ _ _ _ _), r_now (clsH_len _ _ _ _ _), r_n2 (clsH_len _ _ _ _ _), e_in4, I_e, bl_f (gG0 hI ha), if_pos rfl, r_o (clsH_len _ _ _ _ _), r_refuses (clsH_len _ _ _ _ _), I_e]
theorem ok_juror (hN : 2001 ≤ N) {a b : Int32} : Ok (FL_juror N 0 a b 114) (FX4_juror N 108 a b) := by
  rintro h ⟨F, π, sc, rd, cd, p, k, l, rs, hs, fL, fD, rfl, hR⟩
  obtain ⟨hI, ⟨n, hn1, hn2, hS⟩, hK, hM⟩ := id hR
  have z : ¬ (1 : Int32) = 0 := by decide
  by_cases ha : 0 ≤ a ∧ a ≤ 2
  · obtain ⟨j, hj9, rfl⟩ := (in_i (b := 2) (by decide)).mp ha
    by_cases hb : 0 ≤ b ∧ b ≤ 2
    · obtain ⟨w, hw9, rfl⟩ := (in_i (b := 2) (by decide)).mp hb
      refine Ok_q (F := F) (π := π) (sc := sc) (cd := cd) (p := p) (k := k) (l := l) (rs := rs) (hs := hs) (fL := fL) (fD := fD) (rd' := rd) (y := sJur (F 0) j w) (l' := l) (rs' := upd rs 3 0) hR ?_ ?_ ⟨rfl, rfl, rfl, rfl⟩
      · unfold FL_juror FX3_juror
        rw [c_o, qJ1 ha, V_e, qW1 hb, V_e, k_r0, c_o1, c_jur (by omega) hI (by omega) (by omega), I_e, TI_r, j_stL]
      · unfold FX4_juror
        rw [r_p3 (clsH_len _ _ _ _ _), r_isJuror, I_e, bl_t ha, if_neg z, e_in4, I_e, bl_t hb, if_neg z, r_o (clsH_len _ _ _ _ _), r_jur (clsH_len _ _ _ _ _) (by omega) hI (by omega) (by omega), I_e]
    · refine Ok_x (F := F) (π := π) (sc := sc) (cd := cd) (p := p) (k := k) (l := l) (rs := rs) (hs := hs) (fL := fL) (fD := fD) (rd' := rd) (l' := l) (e := 2) (y := 0) (rs' := upd (upd rs 3 0) 3 2) hR ?_ (by decide) ?_ rfl ⟨rfl, rfl, rfl⟩
      · unfold FL_juror FX3_juror
        rw [c_o, qJ1 ha, V_e, qW0 hb, V_x, TI_x, if_neg AX_ne, if_pos rfl]
      · unfold FX4_juror
        rw [r_p3 (clsH_len _ _ _ _ _), r_isJuror, I_e, bl_t ha, if_neg z, e_in4, I_e, bl_f hb, if_pos rfl, r_o (clsH_len _ _ _ _ _), r_refuses (clsH_len _ _ _ _ _), I_e]
  · refine Ok_x (F := F) (π := π) (sc := sc) (cd := cd) (p := p) (k := k) (l := l) (rs := rs) (hs := hs) (fL := fL) (fD := fD) (rd' := rd) (l' := l) (e := 1) (y := 0) (rs' := upd (upd rs 3 0) 3 1) hR ?_ (by decide) ?_ rfl ⟨rfl, rfl, rfl⟩
    · unfold FL_juror FX3_juror
      rw [c_o, qJ0 ha, V_x, TI_x, if_pos rfl]
    · unfold FX4_juror
      rw [r_p3 (clsH_len _ _ _ _ _), r_isJuror, I_e, bl_f ha, if_pos rfl, r_o (clsH_len _ _ _ _ _), r_refuses (clsH_len _ _ _ _ _), I_e]
theorem ok_stopped (hN : 2001 ≤ N) {a : Int32} : Ok (FL_stopped 0 a 114) (FX4_stopped 108 a) := by
  rintro h ⟨F, π, sc, rd, cd, p, k, l, rs, hs, fL, fD, rfl, hR⟩
  obtain ⟨hI, ⟨n, hn1, hn2, hS⟩, hK, hM⟩ := id hR
  have z : ¬ (1 : Int32) = 0 := by decide
  by_cases ha : 0 ≤ a ∧ a ≤ 2
  · obtain ⟨w, hw9, rfl⟩ := (in_i (b := 2) (by decide)).mp ha
    refine Ok_q (F := F) (π := π) (sc := sc) (cd := cd) (p := p) (k := k) (l := l) (rs := rs) (hs := hs) (fL := fL) (fD := fD) (rd' := rd) (y := F 0 (129 + w)) (l' := l) (rs' := upd rs 3 0) hR ?_ ?_ ⟨rfl, rfl, rfl, rfl⟩
    · unfold FL_stopped FX3_stopped
      rw [c_o, qW1 ha, V_e, k_r0, c_o1, c_stp (by omega), I_e, TI_r, j_stL]
    · unfold FX4_stopped
      rw [r_p3 (clsH_len _ _ _ _ _), e_in4, I_e, bl_t ha, if_neg z, r_now (clsH_len _ _ _ _ _), show (129 : Int32) + nI w = nI (129 + w) from nI_add 129 w, r_ld (clsH_len _ _ _ _ _) (by omega)]
  · refine Ok_x (F := F) (π := π) (sc := sc) (cd := cd) (p := p) (k := k) (l := l) (rs := rs) (hs := hs) (fL := fL) (fD := fD) (rd' := rd) (l' := l) (e := 1) (y := 0) (rs' := upd (upd rs 3 0) 3 1) hR ?_ (by decide) ?_ rfl ⟨rfl, rfl, rfl⟩
    · unfold FL_stopped FX3_stopped
      rw [c_o, qW0 ha, V_x, TI_x, if_pos rfl]
    · unfold FX4_stopped
      rw [r_p3 (clsH_len _ _ _ _ _), e_in4, I_e, bl_f ha, if_pos rfl, r_o (clsH_len _ _ _ _ _), r_refuses (clsH_len _ _ _ _ _), I_e]
theorem c_exC {F : Nat → Nat → Int32} {π : Nat → Nat} {sc rd cd : Nat → Int32} {q : jm_H} {c : Nat} {x : Int32} (hc : c < 3) : FX2_exchange 4 (nI c) 0 x (hC F π sc rd cd q) = rI (F 0 (7 + c)) (hC (fu F 0 (upd (F 0) (7 + c) x)) π sc rd cd q) := by
  unfold FX2_exchange
  rw [c_o4, c_aC, tC_e hc, I_e, c_o4, c_putC hc, V_e]
theorem c_exT {F : Nat → Nat → Int32} {π : Nat → Nat} {sc rd cd : Nat → Int32} {q : jm_H} {c : Nat} {x : Int32} (hc : c < 4) : FX2_exchange 6 (nI c) 0 x (hC F π sc rd cd q) = rI (F 0 (3 + c)) (hC (fu F 0 (upd (F 0) (3 + c) x)) π sc rd cd q) := by
  unfold FX2_exchange
  rw [c_o6, c_aT, tT_e hc, I_e, c_o6, c_putT hc, V_e]
theorem c_exJ {F : Nat → Nat → Int32} {π : Nat → Nat} {sc rd cd : Nat → Int32} {q : jm_H} {j f : Nat} {x : Int32} (hj : j < 3) (hf : f < 8) : FX2_exchange 12 (nI j) (nI f) x (hC F π sc rd cd q) = rI (sP (F 0) j f) (hC (fu F 0 (upd (F 0) (104 + 8 * j + f) x)) π sc rd cd q) := by
  unfold FX2_exchange
  rw [c_o12, c_aJ, tJ_e hj hf, I_e, c_o12, c_putJ hj hf, V_e]
theorem ok_seats (hN : 2001 ≤ N) {a b : Int32} : Ok (FL_seats N 0 a b 114) (FX4_seats N 108 a b) := by
  rintro h ⟨F, π, sc, rd, cd, p, k, l, rs, hs, fL, fD, rfl, hR⟩
  obtain ⟨hI, ⟨n, hn1, hn2, hS⟩, hK, hM⟩ := id hR
  have z : ¬ (1 : Int32) = 0 := by decide
  by_cases ha : 0 ≤ a ∧ a ≤ 2
  · obtain ⟨c, hc9, rfl⟩ := (in_i (b := 2) (by decide)).mp ha
    by_cases hb : 50 ≤ b ∧ b ≤ 400
    · refine Ok_s (F := F) (π := π) (sc := sc) (cd := cd) (p := p) (k := k) (l := l) (rs := rs) (hs := hs) (fL := fL) (fD := fD) (rd := rd) (n := n) (y := F 0 (7 + c)) (w := upd (F 0) (7 + c) b) (l' := l) (rs' := upd (upd rs 3 0) 0 (nI (svN n))) hR hn1 hS (Iv_seat hI (by omega) ((in_c (a := 50) (b := 400) (by decide) (by decide)).mp hb)) ?_ ?_ ⟨rfl, rfl, rfl, rfl⟩
      · unfold FL_seats FX3_seats
        rw [c_o, qC1 ha, V_e, e_in3, I_e, bl_t hb, rq1, V_e, c_o, c_save (by omega) hn1 hS.1 hS.2.1, V_e, k_r0, c_r1, c_o4, c_exC (by omega), I_e, TI_r, fu_0, j_stL]
      · unfold FX4_seats
        rw [r_p3 (clsH_len _ _ _ _ _), r_isScreen, I_e, bl_t ha, if_neg z, e_in4, I_e, bl_t hb, if_neg z, r_o (clsH_len _ _ _ _ _), r_saves (clsH_len _ _ _ _ _) (by omega) (by rw [pk_un (by decide)]; exact hn2) hS.1, V_e, r_now (clsH_len _ _ _ _ _), show (7 : Int32) + nI c = nI (7 + c) from nI_add 7 c, r_ld (clsH_len _ _ _ _ _) (by omega), r_now (clsH_len _ _ _ _ _), r_st (clsH_len _ _ _ _ _) (by omega)]
    · refine Ok_x (F := F) (π := π) (sc := sc) (cd := cd) (p := p) (k := k) (l := l) (rs := rs) (hs := hs) (fL := fL) (fD := fD) (rd' := rd) (l' := l) (e := 2) (y := 0) (rs' := upd (upd rs 3 0) 3 2) hR ?_ (by decide) ?_ rfl ⟨rfl, rfl, rfl⟩
      · unfold FL_seats FX3_seats
        rw [c_o, qC1 ha, V_e, e_in3, I_e, bl_f hb, rq0, V_x, TI_x, if_neg AX_ne, if_pos rfl]
      · unfold FX4_seats
        rw [r_p3 (clsH_len _ _ _ _ _), r_isScreen, I_e, bl_t ha, if_neg z, e_in4, I_e, bl_f hb, if_pos rfl, r_o (clsH_len _ _ _ _ _), r_refuses (clsH_len _ _ _ _ _), I_e]
  · refine Ok_x (F := F) (π := π) (sc := sc) (cd := cd) (p := p) (k := k) (l := l) (rs := rs) (hs := hs) (fL := fL) (fD := fD) (rd' := rd) (l' := l) (e := 1) (y := 0) (rs' := upd (upd rs 3 0) 3 1) hR ?_ (by decide) ?_ rfl ⟨rfl, rfl, rfl⟩
    · unfold FL_seats FX3_seats
      rw [c_o, qC0 ha, V_x, TI_x, if_pos rfl]
    · unfold FX4_seats
      rw [r_p3 (clsH_len _ _ _ _ _), r_isScreen, I_e, bl_f ha, if_pos rfl, r_o (clsH_len _ _ _ _ _), r_refuses (clsH_len _ _ _ _ _), I_e]
theorem ok_set (hN : 2001 ≤ N) {a b : Int32} : Ok (FL_set N 0 a b 114) (FX4_set N 108 a b) := by
  rintro h ⟨F, π, sc, rd, cd, p, k, l, rs, hs, fL, fD, rfl, hR⟩
  obtain ⟨hI, ⟨n, hn1, hn2, hS⟩, hK, hM⟩ := id hR
  have z : ¬ (1 : Int32) = 0 := by decide
  by_cases ha : 0 ≤ a ∧ a ≤ 3
  · obtain ⟨c, hc9, rfl⟩ := (in_i (b := 3) (by decide)).mp ha
    by_cases hb : 0 ≤ b ∧ b ≤ 60
    · refine Ok_s (F := F) (π := π) (sc := sc) (cd := cd) (p := p) (k := k) (l := l) (rs := rs) (hs := hs) (fL := fL) (fD := fD) (rd := rd) (n := n) (y := F 0 (3 + c)) (w := upd (F 0) (3 + c) b) (l' := l) (rs' := upd (upd rs 3 0) 0 (nI (svN n))) hR hn1 hS (Iv_set hI (by omega) ((in_c (a := 0) (b := 60) (by decide) (by decide)).mp hb)) ?_ ?_ ⟨rfl, rfl, rfl, rfl⟩
      · unfold FL_set FX3_set
        rw [c_o, e_in3, I_e, bl_t ha, if_neg z, e_in3, I_e, bl_t hb, rq1, V_e, c_o, c_save (by omega) hn1 hS.1 hS.2.1, V_e, k_r0, c_r2, c_o6, c_exT (by omega), I_e, TI_r, fu_0, j_stL]
      · unfold FX4_set
        rw [r_p3 (clsH_len _ _ _ _ _), e_in4, I_e, bl_t ha, if_neg z, e_in4, I_e, bl_t hb, if_neg z, r_o (clsH_len _ _ _ _ _), r_saves (clsH_len _ _ _ _ _) (by omega) (by rw [pk_un (by decide)]; exact hn2) hS.1, V_e, r_now (clsH_len _ _ _ _ _), show (3 : Int32) + nI c = nI (3 + c) from nI_add 3 c, r_ld (clsH_len _ _ _ _ _) (by omega), r_now (clsH_len _ _ _ _ _), r_st (clsH_len _ _ _ _ _) (by omega)]
    · refine Ok_x (F := F) (π := π) (sc := sc) (cd := cd) (p := p) (k := k) (l := l) (rs := rs) (hs := hs) (fL := fL) (fD := fD) (rd' := rd) (l' := l) (e := 2) (y := 0) (rs' := upd (upd rs 3 0) 3 2) hR ?_ (by decide) ?_ rfl ⟨rfl, rfl, rfl⟩
      · unfold FL_set FX3_set
        rw [c_o, e_in3, I_e, bl_t ha, if_neg z, e_in3, I_e, bl_f hb, rq0, V_x, TI_x, if_neg AX_ne, if_pos rfl]
      · unfold FX4_set
        rw [r_p3 (clsH_len _ _ _ _ _), e_in4, I_e, bl_t ha, if_neg z, e_in4, I_e, bl_f hb, if_pos rfl, r_o (clsH_len _ _ _ _ _), r_refuses (clsH_len _ _ _ _ _), I_e]
  · refine Ok_x (F := F) (π := π) (sc := sc) (cd := cd) (p := p) (k := k) (l := l) (rs := rs) (hs := hs) (fL := fL) (fD := fD) (rd' := rd) (l' := l) (e := 1) (y := 0) (rs' := upd (upd rs 3 0) 3 1) hR ?_ (by decide) ?_ rfl ⟨rfl, rfl, rfl⟩
    · unfold FL_set FX3_set
      rw [c_o, e_in3, I_e, bl_f ha, if_pos rfl, TI_x, if_pos rfl]
    · unfold FX4_set
      rw [r_p3 (clsH_len _ _ _ _ _), e_in4, I_e, bl_f ha, if_pos rfl, r_o (clsH_len _ _ _ _ _), r_refuses (clsH_len _ _ _ _ _), I_e]
end FQ

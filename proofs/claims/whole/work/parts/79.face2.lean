/-! FACE: the changing calls (printed by wip/whole/face.py) -/
section FU
variable {N : Nat}
theorem sRf_12 {v : Nat → Int32} {f : Nat} {c a p : Int32} (hI : Iv v) (h : sRf v f c a p = 0) : cnt v 1 < 12 := by
  have := (sRf_z h).1
  rw [hI.ns.1] at this
  exact (nI_ltI (a := cnt v 1) (b := 12) (by have := hI.ns.2; omega) (by decide)).mp this
theorem ok_show (hN : 2001 ≤ N) {a b x y : Int32} : Ok (FL_show N 0 a b x y 114) (FX4_show N 108 a b x y) := by
  rintro h ⟨F, π, sc, rd, cd, p, k, l, rs, hs, fL, fD, rfl, hR⟩
  obtain ⟨hI, ⟨n, hn1, hn2, hS⟩, hK, hM⟩ := id hR
  have z : ¬ (1 : Int32) = 0 := by decide
  by_cases ha : ∃ f, f < cnt (F 0) 0 ∧ a = nI f
  · obtain ⟨f, hf, rfl⟩ := id ha
    by_cases hb : 0 ≤ b ∧ b ≤ 2
    · obtain ⟨c, hc9, rfl⟩ := (in_i (b := 2) (by decide)).mp hb
      by_cases hx : 0 ≤ x ∧ x ≤ 1999
      · obtain ⟨m, hm9, rfl⟩ := (in_i (b := 1999) (by decide)).mp hx
        by_cases hy : 0 ≤ y ∧ y ≤ 20
        · obtain ⟨w, hw9, rfl⟩ := (in_i (b := 20) (by decide)).mp hy
          by_cases hr : sRf (F 0) f (nI c) (nI m) (nI w) = 0
          · have h12 : cnt (F 0) 1 < 12 := sRf_12 hI hr
            refine Ok_s (F := F) (π := π) (sc := sc) (cd := cd) (p := p) (k := k) (l := l) (rs := rs) (hs := hs) (fL := fL) (fD := fD) (rd := rd) (n := n) (y := nI (cnt (F 0) 1)) (w := uShow (F 0) (nI f) (nI c) (nI m) (nI w)) (l' := l) (rs' := upd (w3 (upd rs 3 0) (sRs (F 0) f (nI c) (nI m) (nI w)).1 (sRs (F 0) f (nI c) (nI m) (nI w)).2.1 (sRs (F 0) f (nI c) (nI m) (nI w)).2.2) 0 (nI (svN n))) hR hn1 hS (Iv_show hI hf (by omega) (by omega) (by omega) hr) ?_ ?_ ⟨rfl, rfl, rfl, rfl⟩
            · unfold FL_show FX3_show
              rw [c_o, c_o, qF1 hI ha, V_e, qC1 hb, V_e, qM1 hx, V_e, e_in3, I_e, bl_t hy, rq1, V_e, k_r0, c_o1, c_rf (by omega) hI hf, I_e, hr, qR1, V_e, c_o, c_save (by omega) hn1 hS.1 hS.2.1, V_e, k_r0, c_o1, c_addShow (by rw [fu_0]; exact hI) (by rw [fu_0]; exact h12), I_e, TI_r, fu_0, j_stL]
            · unfold FX4_show
              rw [r_p3 (clsH_len _ _ _ _ _), r_o (clsH_len _ _ _ _ _), r_isFilm (clsH_len _ _ _ _ _) hI, I_e, bl_t ha, if_neg z, r_isScreen, I_e, bl_t hb, if_neg z, r_isMinute, I_e, bl_t hx, if_neg z, e_in4, I_e, bl_t hy, if_neg z, r_o (clsH_len _ _ _ _ _), r_reason (clsH_len _ _ _ _ _) (by omega) hI hf, I_e, if_pos hr, r_o (clsH_len _ _ _ _ _), r_saves (clsH_len _ _ _ _ _) (by omega) (by show rs 0 = nI n; exact hn2) hS.1, V_e, r_showT (clsH_len _ _ _ _ _) hI h12]
          · refine Ok_x (F := F) (π := π) (sc := sc) (cd := cd) (p := p) (k := k) (l := l) (rs := rs) (hs := hs) (fL := fL) (fD := fD) (rd' := rd) (l' := l) (e := 3) (y := 0) (rs' := upd (w3 (upd rs 3 0) (sRs (F 0) f (nI c) (nI m) (nI w)).1 (sRs (F 0) f (nI c) (nI m) (nI w)).2.1 (sRs (F 0) f (nI c) (nI m) (nI w)).2.2) 3 3) hR ?_ (by decide) ?_ rfl ⟨rfl, rfl, rfl⟩
            · unfold FL_show FX3_show
              rw [c_o, c_o, qF1 hI ha, V_e, qC1 hb, V_e, qM1 hx, V_e, e_in3, I_e, bl_t hy, rq1, V_e, k_r0, c_o1, c_rf (by omega) hI hf, I_e, qR0 hr, V_x, TI_x, if_neg IX_ne, if_neg IA_ne, if_pos rfl]
            · unfold FX4_show
              rw [r_p3 (clsH_len _ _ _ _ _), r_o (clsH_len _ _ _ _ _), r_isFilm (clsH_len _ _ _ _ _) hI, I_e, bl_t ha, if_neg z, r_isScreen, I_e, bl_t hb, if_neg z, r_isMinute, I_e, bl_t hx, if_neg z, e_in4, I_e, bl_t hy, if_neg z, r_o (clsH_len _ _ _ _ _), r_reason (clsH_len _ _ _ _ _) (by omega) hI hf, I_e, if_neg hr, r_o (clsH_len _ _ _ _ _), r_refuses (clsH_len _ _ _ _ _), I_e]
        · refine Ok_x (F := F) (π := π) (sc := sc) (cd := cd) (p := p) (k := k) (l := l) (rs := rs) (hs := hs) (fL := fL) (fD := fD) (rd' := rd) (l' := l) (e := 2) (y := 0) (rs' := upd (upd rs 3 0) 3 2) hR ?_ (by decide) ?_ rfl ⟨rfl, rfl, rfl⟩
          · unfold FL_show FX3_show
            rw [c_o, c_o, qF1 hI ha, V_e, qC1 hb, V_e, qM1 hx, V_e, e_in3, I_e, bl_f hy, rq0, V_x, TI_x, if_neg AX_ne, if_pos rfl]
          · unfold FX4_show
            rw [r_p3 (clsH_len _ _ _ _ _), r_o (clsH_len _ _ _ _ _), r_isFilm (clsH_len _ _ _ _ _) hI, I_e, bl_t ha, if_neg z, r_isScreen, I_e, bl_t hb, if_neg z, r_isMinute, I_e, bl_t hx, if_neg z, e_in4, I_e, bl_f hy, if_pos rfl, r_o (clsH_len _ _ _ _ _), r_refuses (clsH_len _ _ _ _ _), I_e]
      · refine Ok_x (F := F) (π := π) (sc := sc) (cd := cd) (p := p) (k := k) (l := l) (rs := rs) (hs := hs) (fL := fL) (fD := fD) (rd' := rd) (l' := l) (e := 2) (y := 0) (rs' := upd (upd rs 3 0) 3 2) hR ?_ (by decide) ?_ rfl ⟨rfl, rfl, rfl⟩
        · unfold FL_show FX3_show
          rw [c_o, c_o, qF1 hI ha, V_e, qC1 hb, V_e, qM0 hx, V_x, TI_x, if_neg AX_ne, if_pos rfl]
        · unfold FX4_show
          rw [r_p3 (clsH_len _ _ _ _ _), r_o (clsH_len _ _ _ _ _), r_isFilm (clsH_len _ _ _ _ _) hI, I_e, bl_t ha, if_neg z, r_isScreen, I_e, bl_t hb, if_neg z, r_isMinute, I_e, bl_f hx, if_pos rfl, r_o (clsH_len _ _ _ _ _), r_refuses (clsH_len _ _ _ _ _), I_e]
    · refine Ok_x (F := F) (π := π) (sc := sc) (cd := cd) (p := p) (k := k) (l := l) (rs := rs) (hs := hs) (fL := fL) (fD := fD) (rd' := rd) (l' := l) (e := 1) (y := 0) (rs' := upd (upd rs 3 0) 3 1) hR ?_ (by decide) ?_ rfl ⟨rfl, rfl, rfl⟩
      · unfold FL_show FX3_show
        rw [c_o, c_o, qF1 hI ha, V_e, qC0 hb, V_x, TI_x, if_pos rfl]
      · unfold FX4_show
        rw [r_p3 (clsH_len _ _ _ _ _), r_o (clsH_len _ _ _ _ _), r_isFilm (clsH_len _ _ _ _ _) hI, I_e, bl_t ha, if_neg z, r_isScreen, I_e, bl_f hb, if_pos rfl, r_o (clsH_len _ _ _ _ _), r_refuses (clsH_len _ _ _ _ _), I_e]
  · refine Ok_x (F := F) (π := π) (sc := sc) (cd := cd) (p := p) (k := k) (l := l) (rs := rs) (hs := hs) (fL := fL) (fD := fD) (rd' := rd) (l' := l) (e := 1) (y := 0) (rs' := upd (upd rs 3 0) 3 1) hR ?_ (by decide) ?_ rfl ⟨rfl, rfl, rfl⟩
    · unfold FL_show FX3_show
      rw [c_o, c_o, qF0 hI ha, V_x, TI_x, if_pos rfl]
    · unfold FX4_show
      rw [r_p3 (clsH_len _ _ _ _ _), r_o (clsH_len _ _ _ _ _), r_isFilm (clsH_len _ _ _ _ _) hI, I_e, bl_f ha, if_pos rfl, r_o (clsH_len _ _ _ _ _), r_refuses (clsH_len _ _ _ _ _), I_e]
theorem ok_callOff (hN : 2001 ≤ N) {a : Int32} : Ok (FL_callOff N 0 a 114) (FX4_callOff N 108 a) := by
  rintro h ⟨F, π, sc, rd, cd, p, k, l, rs, hs, fL, fD, rfl, hR⟩
  obtain ⟨hI, ⟨n, hn1, hn2, hS⟩, hK, hM⟩ := id hR
  have z : ¬ (1 : Int32) = 0 := by decide
  by_cases ha : ∃ f, f < cnt (F 0) 1 ∧ a = nI f
  · obtain ⟨s, hs9, rfl⟩ := id ha
    refine Ok_s (F := F) (π := π) (sc := sc) (cd := cd) (p := p) (k := k) (l := l) (rs := rs) (hs := hs) (fL := fL) (fD := fD) (rd := rd) (n := n) (y := bc (sS (F 0) s 4)) (w := uDrop (F 0) s) (l' := l) (rs' := upd (upd rs 3 0) 0 (nI (svN n))) hR hn1 hS (Iv_drop hI hs9) ?_ ?_ ⟨rfl, rfl, rfl, rfl⟩
    · unfold FL_callOff FX3_callOff
      rw [c_o, c_o, qS1 hI ha, V_e, c_o, c_save (by omega) hn1 hS.1 hS.2.1, V_e, k_r0, c_o1, c_drop (by omega) (by rw [fu_0]; exact hI) (by rw [fu_0]; exact hs9), I_e, TI_r, fu_0, j_stL]
    · unfold FX4_callOff
      rw [r_p3 (clsH_len _ _ _ _ _), r_o (clsH_len _ _ _ _ _), r_isShowing (clsH_len _ _ _ _ _) hI, I_e, bl_t ha, if_neg z, r_o (clsH_len _ _ _ _ _), r_saves (clsH_len _ _ _ _ _) (by omega) (by rw [pk_un (by decide)]; exact hn2) hS.1, V_e, r_o (clsH_len _ _ _ _ _), r_of4 (clsH_len _ _ _ _ _) (by have := hI.ns.2; omega), I_e, show ∀ (x : Int32) (h : jm_H), FX4_bits x h = rI (bc x) h from fun _ _ => rfl, I_e, r_dropT (clsH_len _ _ _ _ _) hI (by omega) hs9]
  · refine Ok_x (F := F) (π := π) (sc := sc) (cd := cd) (p := p) (k := k) (l := l) (rs := rs) (hs := hs) (fL := fL) (fD := fD) (rd' := rd) (l' := l) (e := 1) (y := 0) (rs' := upd (upd rs 3 0) 3 1) hR ?_ (by decide) ?_ rfl ⟨rfl, rfl, rfl⟩
    · unfold FL_callOff FX3_callOff
      rw [c_o, c_o, qS0 hI ha, V_x, TI_x, if_pos rfl]
    · unfold FX4_callOff
      rw [r_p3 (clsH_len _ _ _ _ _), r_o (clsH_len _ _ _ _ _), r_isShowing (clsH_len _ _ _ _ _) hI, I_e, bl_f ha, if_pos rfl, r_o (clsH_len _ _ _ _ _), r_refuses (clsH_len _ _ _ _ _), I_e]
theorem ok_move (hN : 2001 ≤ N) {a b : Int32} : Ok (FL_move N 0 a b 114) (FX4_move N 108 a b) := by
  rintro h ⟨F, π, sc, rd, cd, p, k, l, rs, hs, fL, fD, rfl, hR⟩
  obtain ⟨hI, ⟨n, hn1, hn2, hS⟩, hK, hM⟩ := id hR
  have z : ¬ (1 : Int32) = 0 := by decide
  by_cases ha : ∃ f, f < cnt (F 0) 1 ∧ a = nI f
  · obtain ⟨s, hs9, rfl⟩ := id ha
    by_cases hb : 0 ≤ b ∧ b ≤ 1999
    · obtain ⟨m, hm9, rfl⟩ := (in_i (b := 1999) (by decide)).mp hb
      have h12 : s < 12 := by have := hI.ns.2; omega
      have hff := hI.fo_lt hs9
      have e0 : tS (F 0) (nI s) 0 = nI (fmo (F 0) s) := (tS_0 hI hs9).trans (hI.fo hs9)
      have e1 : tS (F 0) (nI s) 1 = nI (sco (F 0) s) := (tS_1 hI hs9).trans (hI.so hs9)
      have e3 : tS (F 0) (nI s) 3 = nI (nB (F 0) s) := (tS_3 hI hs9).trans (hI.pa hs9).1
      have eL : (sLk (F 0) (fmo (F 0) s) (nI (sco (F 0) s)) (nI m) (nI (nB (F 0) s)) (nI s)).1 = sRb (F 0) (fmo (F 0) s) (nI (sco (F 0) s)) (nI m) (nI (nB (F 0) s)) (nI s) := sLk_1
      by_cases hr : sRb (F 0) (fmo (F 0) s) (nI (sco (F 0) s)) (nI m) (nI (nB (F 0) s)) (nI s) = 0
      · have hI2 := Iv_start hI hs9 (show m < 2000 by omega) hr
        refine Ok_s (F := F) (π := π) (sc := sc) (cd := cd) (p := p) (k := k) (l := l) (rs := rs) (hs := hs) (fL := fL) (fD := fD) (rd := rd) (n := n) (y := (uShift (F 0) s (nI m)).1) (w := (uShift (F 0) s (nI m)).2) (l' := l) (rs' := upd (w3 (upd rs 3 0) (sLk (F 0) (fmo (F 0) s) (nI (sco (F 0) s)) (nI m) (nI (nB (F 0) s)) (nI s)).1 (sLk (F 0) (fmo (F 0) s) (nI (sco (F 0) s)) (nI m) (nI (nB (F 0) s)) (nI s)).2.1 (sLk (F 0) (fmo (F 0) s) (nI (sco (F 0) s)) (nI m) (nI (nB (F 0) s)) (nI s)).2.2) 0 (nI (svN n))) hR hn1 hS ((uShift_ok hI2 hs9).1) ?_ ?_ ⟨rfl, rfl, rfl, rfl⟩
        · unfold FL_move FX3_move
          rw [c_o, c_o, qS1 hI ha, V_e, qM1 hb, V_e, k_r0, k_r0, c_r3, c_o8, c_aS, e0, I_e, k_r0, c_r3, c_o8, c_aS, e1, I_e, k_r0, c_r3, c_o8, c_aS, e3, I_e, c_o1, c_rb (by omega) hI hff, I_e, hr, qR1, V_e, c_o, c_save (by omega) hn1 hS.1 hS.2.1, V_e, k_r0, c_o1, c_shift (by omega) (by rw [fu_0]; exact hI) (by rw [fu_0]; exact hs9) (by rw [fu_0]; exact hI2), I_e, TI_r, fu_0, j_stL]
        · unfold FX4_move
          rw [r_p3 (clsH_len _ _ _ _ _), r_o (clsH_len _ _ _ _ _), r_isShowing (clsH_len _ _ _ _ _) hI, I_e, bl_t ha, if_neg z, r_isMinute, I_e, bl_t hb, if_neg z, r_o (clsH_len _ _ _ _ _), r_of0 (clsH_len _ _ _ _ _) h12, I_e, r_o (clsH_len _ _ _ _ _), r_of1 (clsH_len _ _ _ _ _) h12, I_e, r_o (clsH_len _ _ _ _ _), r_of3 (clsH_len _ _ _ _ _) h12, I_e, hI.fo hs9, hI.so hs9, (hI.pa hs9).1, r_o (clsH_len _ _ _ _ _), r_looks (clsH_len _ _ _ _ _) (by omega) hI hff, V_e, r_i4 (clsH_len _ _ _ _ _), w3_4, if_pos (eL.trans hr), r_o (clsH_len _ _ _ _ _), r_saves (clsH_len _ _ _ _ _) (by omega) (by show rs 0 = nI n; exact hn2) hS.1, V_e, r_moveT (clsH_len _ _ _ _ _) (by omega) hs9 h12 hI2]
      · refine Ok_x (F := F) (π := π) (sc := sc) (cd := cd) (p := p) (k := k) (l := l) (rs := rs) (hs := hs) (fL := fL) (fD := fD) (rd' := rd) (l' := l) (e := 3) (y := 0) (rs' := upd (w3 (upd rs 3 0) (sLk (F 0) (fmo (F 0) s) (nI (sco (F 0) s)) (nI m) (nI (nB (F 0) s)) (nI s)).1 (sLk (F 0) (fmo (F 0) s) (nI (sco (F 0) s)) (nI m) (nI (nB (F 0) s)) (nI s)).2.1 (sLk (F 0) (fmo (F 0) s) (nI (sco (F 0) s)) (nI m) (nI (nB (F 0) s)) (nI s)).2.2) 3 3) hR ?_ (by decide) ?_ rfl ⟨rfl, rfl, rfl⟩
        · unfold FL_move FX3_move
          rw [c_o, c_o, qS1 hI ha, V_e, qM1 hb, V_e, k_r0, k_r0, c_r3, c_o8, c_aS, e0, I_e, k_r0, c_r3, c_o8, c_aS, e1, I_e, k_r0, c_r3, c_o8, c_aS, e3, I_e, c_o1, c_rb (by omega) hI hff, I_e, qR0 hr, V_x, TI_x, if_neg IX_ne, if_neg IA_ne, if_pos rfl]
        · unfold FX4_move
          rw [r_p3 (clsH_len _ _ _ _ _), r_o (clsH_len _ _ _ _ _), r_isShowing (clsH_len _ _ _ _ _) hI, I_e, bl_t ha, if_neg z, r_isMinute, I_e, bl_t hb, if_neg z, r_o (clsH_len _ _ _ _ _), r_of0 (clsH_len _ _ _ _ _) h12, I_e, r_o (clsH_len _ _ _ _ _), r_of1 (clsH_len _ _ _ _ _) h12, I_e, r_o (clsH_len _ _ _ _ _), r_of3 (clsH_len _ _ _ _ _) h12, I_e, hI.fo hs9, hI.so hs9, (hI.pa hs9).1, r_o (clsH_len _ _ _ _ _), r_looks (clsH_len _ _ _ _ _) (by omega) hI hff, V_e, r_i4 (clsH_len _ _ _ _ _), w3_4, if_neg (fun hh => hr (eL.symm.trans hh)), r_o (clsH_len _ _ _ _ _), r_refuses (clsH_len _ _ _ _ _), I_e]
    · refine Ok_x (F := F) (π := π) (sc := sc) (cd := cd) (p := p) (k := k) (l := l) (rs := rs) (hs := hs) (fL := fL) (fD := fD) (rd' := rd) (l' := l) (e := 2) (y := 0) (rs' := upd (upd rs 3 0) 3 2) hR ?_ (by decide) ?_ rfl ⟨rfl, rfl, rfl⟩
      · unfold FL_move FX3_move
        rw [c_o, c_o, qS1 hI ha, V_e, qM0 hb, V_x, TI_x, if_neg AX_ne, if_pos rfl]
      · unfold FX4_move
        rw [r_p3 (clsH_len _ _ _ _ _), r_o (clsH_len _ _ _ _ _), r_isShowing (clsH_len _ _ _ _ _) hI, I_e, bl_t ha, if_neg z, r_isMinute, I_e, bl_f hb, if_pos rfl, r_o (clsH_len _ _ _ _ _), r_refuses (clsH_len _ _ _ _ _), I_e]
  · refine Ok_x (F := F) (π := π) (sc := sc) (cd := cd) (p := p) (k := k) (l := l) (rs := rs) (hs := hs) (fL := fL) (fD := fD) (rd' := rd) (l' := l) (e := 1) (y := 0) (rs' := upd (upd rs 3 0) 3 1) hR ?_ (by decide) ?_ rfl ⟨rfl, rfl, rfl⟩
    · unfold FL_move FX3_move
      rw [c_o, c_o, qS0 hI ha, V_x, TI_x, if_pos rfl]
    · unfold FX4_move
      rw [r_p3 (clsH_len _ _ _ _ _), r_o (clsH_len _ _ _ _ _), r_isShowing (clsH_len _ _ _ _ _) hI, I_e, bl_f ha, if_pos rfl, r_o (clsH_len _ _ _ _ _), r_refuses (clsH_len _ _ _ _ _), I_e]
theorem ok_guest (hN : 2001 ≤ N) {a b x : Int32} : Ok (FL_guest N 0 a b x 114) (FX4_guest N 108 a b x) := by
  rintro h ⟨F, π, sc, rd, cd, p, k, l, rs, hs, fL, fD, rfl, hR⟩
  obtain ⟨hI, ⟨n, hn1, hn2, hS⟩, hK, hM⟩ := id hR
  have z : ¬ (1 : Int32) = 0 := by decide
  by_cases ha : ∃ f, f < cnt (F 0) 0 ∧ a = nI f
  · obtain ⟨f, hf, rfl⟩ := id ha
    by_cases hb : 0 ≤ b ∧ b ≤ 1999
    · obtain ⟨m, hm9, rfl⟩ := (in_i (b := 1999) (by decide)).mp hb
      have ng := hI.ng
      have ec : F 0 2 < 6 ↔ cnt (F 0) 2 < 6 := by rw [hI.ng.1]; exact nI_ltI (a := cnt (F 0) 2) (b := 6) (by omega) (by decide)
      have ed : F 0 2 = 6 ↔ cnt (F 0) 2 = 6 := by rw [hI.ng.1]; exact nI_eq (a := cnt (F 0) 2) (b := 6) (by omega) (by decide)
      by_cases h1 : x ≤ nI m
      · refine Ok_x (F := F) (π := π) (sc := sc) (cd := cd) (p := p) (k := k) (l := l) (rs := rs) (hs := hs) (fL := fL) (fD := fD) (rd' := rd) (l' := l) (e := 2) (y := 0) (rs' := upd (upd rs 3 0) 3 2) hR ?_ (by decide) ?_ rfl ⟨rfl, rfl, rfl⟩
        · unfold FL_guest FX3_guest
          rw [c_o, c_o, qF1 hI ha, V_e, qM1 hb, V_e, if_pos h1, rq0, V_x, TI_x, if_neg AX_ne, if_pos rfl]
        · unfold FX4_guest
          rw [r_p3 (clsH_len _ _ _ _ _), r_o (clsH_len _ _ _ _ _), r_isFilm (clsH_len _ _ _ _ _) hI, I_e, bl_t ha, if_neg z, r_isMinute, I_e, bl_t hb, if_neg z, if_pos h1, r_o (clsH_len _ _ _ _ _), r_refuses (clsH_len _ _ _ _ _), I_e]
      · by_cases h2 : 2000 < x
        · refine Ok_x (F := F) (π := π) (sc := sc) (cd := cd) (p := p) (k := k) (l := l) (rs := rs) (hs := hs) (fL := fL) (fD := fD) (rd' := rd) (l' := l) (e := 2) (y := 0) (rs' := upd (upd rs 3 0) 3 2) hR ?_ (by decide) ?_ rfl ⟨rfl, rfl, rfl⟩
          · unfold FL_guest FX3_guest
            rw [c_o, c_o, qF1 hI ha, V_e, qM1 hb, V_e, if_neg h1, if_pos h2, rq0, V_x, TI_x, if_neg AX_ne, if_pos rfl]
          · unfold FX4_guest
            rw [r_p3 (clsH_len _ _ _ _ _), r_o (clsH_len _ _ _ _ _), r_isFilm (clsH_len _ _ _ _ _) hI, I_e, bl_t ha, if_neg z, r_isMinute, I_e, bl_t hb, if_neg z, if_neg h1, if_neg (Int32.not_le.mpr h2), r_o (clsH_len _ _ _ _ _), r_refuses (clsH_len _ _ _ _ _), I_e]
        · by_cases h3 : cnt (F 0) 2 < 6
          · refine Ok_s (F := F) (π := π) (sc := sc) (cd := cd) (p := p) (k := k) (l := l) (rs := rs) (hs := hs) (fL := fL) (fD := fD) (rd := rd) (n := n) (y := nI (cnt (F 0) 2)) (w := uGuest (F 0) (nI f) (nI m) x) (l' := l) (rs' := upd (upd rs 3 0) 0 (nI (svN n))) hR hn1 hS (Iv_guest hI h3 hf) ?_ ?_ ⟨rfl, rfl, rfl, rfl⟩
            · unfold FL_guest FX3_guest
              rw [c_o, c_o, qF1 hI ha, V_e, qM1 hb, V_e, if_neg h1, if_neg h2, rq1, V_e, k_r0, c_r4, c_n2, if_pos (ec.mpr h3), c_o, c_save (by omega) hn1 hS.1 hS.2.1, V_e, k_r0, c_o1, c_addGuest (by rw [fu_0]; exact hI) (by rw [fu_0]; exact h3), I_e, TI_r, fu_0, j_stL]
            · unfold FX4_guest
              rw [r_p3 (clsH_len _ _ _ _ _), r_o (clsH_len _ _ _ _ _), r_isFilm (clsH_len _ _ _ _ _) hI, I_e, bl_t ha, if_neg z, r_isMinute, I_e, bl_t hb, if_neg z, if_neg h1, if_pos (Int32.not_lt.mp h2), r_now (clsH_len _ _ _ _ _), r_n2 (clsH_len _ _ _ _ _), if_neg (fun e => absurd (ed.mp e) (by omega)), r_o (clsH_len _ _ _ _ _), r_saves (clsH_len _ _ _ _ _) (by omega) (by rw [pk_un (by decide)]; exact hn2) hS.1, V_e, r_guestT (clsH_len _ _ _ _ _) hI h3]
          · refine Ok_x (F := F) (π := π) (sc := sc) (cd := cd) (p := p) (k := k) (l := l) (rs := rs) (hs := hs) (fL := fL) (fD := fD) (rd' := rd) (l' := l) (e := 3) (y := 0) (rs' := upd (upd rs 3 0) 3 3) hR ?_ (by decide) ?_ rfl ⟨rfl, rfl, rfl⟩
            · unfold FL_guest FX3_guest
              rw [c_o, c_o, qF1 hI ha, V_e, qM1 hb, V_e, if_neg h1, if_neg h2, rq1, V_e, k_r0, c_r4, c_n2, if_neg (fun e => h3 (ec.mp e)), TI_x, if_neg IX_ne, if_neg IA_ne, if_pos rfl]
            · unfold FX4_guest
              rw [r_p3 (clsH_len _ _ _ _ _), r_o (clsH_len _ _ _ _ _), r_isFilm (clsH_len _ _ _ _ _) hI, I_e, bl_t ha, if_neg z, r_isMinute, I_e, bl_t hb, if_neg z, if_neg h1, if_pos (Int32.not_lt.mp h2), r_now (clsH_len _ _ _ _ _), r_n2 (clsH_len _ _ _ _ _), if_pos (ed.mpr (by omega)), r_o (clsH_len _ _ _ _ _), r_refuses (clsH_len _ _ _ _ _), I_e]
    · refine Ok_x (F := F) (π := π) (sc := sc) (cd := cd) (p := p) (k := k) (l := l) (rs := rs) (hs := hs) (fL := fL) (fD := fD) (rd' := rd) (l' := l) (e := 2) (y := 0) (rs' := upd (upd rs 3 0) 3 2) hR ?_ (by decide) ?_ rfl ⟨rfl, rfl, rfl⟩
      · unfold FL_guest FX3_guest
        rw [c_o, c_o, qF1 hI ha, V_e, qM0 hb, V_x, TI_x, if_neg AX_ne, if_pos rfl]
      · unfold FX4_guest
        rw [r_p3 (clsH_len _ _ _ _ _), r_o (clsH_len _ _ _ _ _), r_isFilm (clsH_len _ _ _ _ _) hI, I_e, bl_t ha, if_neg z, r_isMinute, I_e, bl_f hb, if_pos rfl, r_o (clsH_len _ _ _ _ _), r_refuses (clsH_len _ _ _ _ _), I_e]
  · refine Ok_x (F := F) (π := π) (sc := sc) (cd := cd) (p := p) (k := k) (l := l) (rs := rs) (hs := hs) (fL := fL) (fD := fD) (rd' := rd) (l' := l) (e := 1) (y := 0) (rs' := upd (upd rs 3 0) 3 1) hR ?_ (by decide) ?_ rfl ⟨rfl, rfl, rfl⟩
    · unfold FL_guest FX3_guest
      rw [c_o, c_o, qF0 hI ha, V_x, TI_x, if_pos rfl]
    · unfold FX4_guest
      rw [r_p3 (clsH_len _ _ _ _ _), r_o (clsH_len _ _ _ _ _), r_isFilm (clsH_len _ _ _ _ _) hI, I_e, bl_f ha, if_pos rfl, r_o (clsH_len _ _ _ _ _), r_refuses (clsH_len _ _ _ _ _), I_e]
theorem ok_attend (hN : 2001 ≤ N) {a b : Int32} : Ok (FL_attend N 0 a b 114) (FX4_attend N 108 a b) := by
  rintro h ⟨F, π, sc, rd, cd, p, k, l, rs, hs, fL, fD, rfl, hR⟩
  obtain ⟨hI, ⟨n, hn1, hn2, hS⟩, hK, hM⟩ := id hR
  have z : ¬ (1 : Int32) = 0 := by decide
  by_cases ha : 0 ≤ a ∧ a ≤ 2
  · obtain ⟨j, hj9, rfl⟩ := (in_i (b := 2) (by decide)).mp ha
    by_cases hB : ∃ f, f < cnt (F 0) 1 ∧ b = nI f
    · obtain ⟨s, hs9, rfl⟩ := id hB
      have h12 : s < 12 := by have := hI.ns.2; omega
      by_cases h1 : hb (sS (F 0) s 4) (nI j)
      · refine Ok_x (F := F) (π := π) (sc := sc) (cd := cd) (p := p) (k := k) (l := l) (rs := rs) (hs := hs) (fL := fL) (fD := fD) (rd' := rd) (l' := l) (e := 2) (y := 0) (rs' := upd (upd rs 3 0) 3 2) hR ?_ (by decide) ?_ rfl ⟨rfl, rfl, rfl⟩
        · unfold FL_attend FX3_attend
          rw [c_o, qJ1 ha, V_e, c_o, qS1 hI hB, V_e, k_r0, c_o1, c_goes hI hs9, I_e, bl_t h1, if_neg z, TI_x, if_neg IX_ne, if_pos rfl]
        · unfold FX4_attend
          rw [r_p3 (clsH_len _ _ _ _ _), r_isJuror, I_e, bl_t ha, if_neg z, r_o (clsH_len _ _ _ _ _), r_isShowing (clsH_len _ _ _ _ _) hI, I_e, bl_t hB, if_neg z, r_o (clsH_len _ _ _ _ _), r_goes (clsH_len _ _ _ _ _) h12, I_e, bl_t h1, if_neg z, r_o (clsH_len _ _ _ _ _), r_refuses (clsH_len _ _ _ _ _), I_e]
      · by_cases h2 : sGo (F 0) (nI j) s = 0
        · refine Ok_x (F := F) (π := π) (sc := sc) (cd := cd) (p := p) (k := k) (l := l) (rs := rs) (hs := hs) (fL := fL) (fD := fD) (rd' := rd) (l' := l) (e := 2) (y := 0) (rs' := upd (upd rs 3 0) 3 2) hR ?_ (by decide) ?_ rfl ⟨rfl, rfl, rfl⟩
          · unfold FL_attend FX3_attend
            rw [c_o, qJ1 ha, V_e, c_o, qS1 hI hB, V_e, k_r0, c_o1, c_goes hI hs9, I_e, bl_f h1, if_pos rfl, k_r0, c_o1, c_can (by omega) hI hs9, I_e, if_pos h2, TI_x, if_neg IX_ne, if_pos rfl]
          · unfold FX4_attend
            rw [r_p3 (clsH_len _ _ _ _ _), r_isJuror, I_e, bl_t ha, if_neg z, r_o (clsH_len _ _ _ _ _), r_isShowing (clsH_len _ _ _ _ _) hI, I_e, bl_t hB, if_neg z, r_o (clsH_len _ _ _ _ _), r_goes (clsH_len _ _ _ _ _) h12, I_e, bl_f h1, if_pos rfl, r_o (clsH_len _ _ _ _ _), r_can (clsH_len _ _ _ _ _) (by omega) hI hs9, I_e, if_pos h2, r_o (clsH_len _ _ _ _ _), r_refuses (clsH_len _ _ _ _ _), I_e]
        · refine Ok_s (F := F) (π := π) (sc := sc) (cd := cd) (p := p) (k := k) (l := l) (rs := rs) (hs := hs) (fL := fL) (fD := fD) (rd := rd) (n := n) (y := sVis (upd (F 0) (26 + 5 * s + 4) (nI (gro (F 0) s + 2 ^ j))) (nI j)) (w := upd (F 0) (26 + 5 * s + 4) (nI (gro (F 0) s + 2 ^ j))) (l' := l) (rs' := upd (upd rs 3 0) 0 (nI (svN n))) hR hn1 hS (Iv_goer hI hs9 (g_on _ (hI.go_lt hs9) j (by omega) (by rw [← hI.go hs9]; exact h1)).2.2) ?_ ?_ ⟨rfl, rfl, rfl, rfl⟩
          · unfold FL_attend FX3_attend
            rw [c_o, qJ1 ha, V_e, c_o, qS1 hI hB, V_e, k_r0, c_o1, c_goes hI hs9, I_e, bl_f h1, if_pos rfl, k_r0, c_o1, c_can (by omega) hI hs9, I_e, if_neg h2, c_o, c_save (by omega) hn1 hS.1 hS.2.1, V_e, k_r0, c_o1, c_addGoer (by omega) (by rw [fu_0]; exact hI) (by rw [fu_0]; exact hs9) (show j < 3 by omega) (by rw [fu_0]; exact h1), I_e, TI_r, fu_0, j_stL]
          · unfold FX4_attend
            rw [r_p3 (clsH_len _ _ _ _ _), r_isJuror, I_e, bl_t ha, if_neg z, r_o (clsH_len _ _ _ _ _), r_isShowing (clsH_len _ _ _ _ _) hI, I_e, bl_t hB, if_neg z, r_o (clsH_len _ _ _ _ _), r_goes (clsH_len _ _ _ _ _) h12, I_e, bl_f h1, if_pos rfl, r_o (clsH_len _ _ _ _ _), r_can (clsH_len _ _ _ _ _) (by omega) hI hs9, I_e, if_neg h2, r_o (clsH_len _ _ _ _ _), r_saves (clsH_len _ _ _ _ _) (by omega) (by rw [pk_un (by decide)]; exact hn2) hS.1, V_e, r_attT (clsH_len _ _ _ _ _) hI (by omega) hs9 (show j < 3 by omega) h1]
    · refine Ok_x (F := F) (π := π) (sc := sc) (cd := cd) (p := p) (k := k) (l := l) (rs := rs) (hs := hs) (fL := fL) (fD := fD) (rd' := rd) (l' := l) (e := 1) (y := 0) (rs' := upd (upd rs 3 0) 3 1) hR ?_ (by decide) ?_ rfl ⟨rfl, rfl, rfl⟩
      · unfold FL_attend FX3_attend
        rw [c_o, qJ1 ha, V_e, c_o, qS0 hI hB, V_x, TI_x, if_pos rfl]
      · unfold FX4_attend
        rw [r_p3 (clsH_len _ _ _ _ _), r_isJuror, I_e, bl_t ha, if_neg z, r_o (clsH_len _ _ _ _ _), r_isShowing (clsH_len _ _ _ _ _) hI, I_e, bl_f hB, if_pos rfl, r_o (clsH_len _ _ _ _ _), r_refuses (clsH_len _ _ _ _ _), I_e]
  · refine Ok_x (F := F) (π := π) (sc := sc) (cd := cd) (p := p) (k := k) (l := l) (rs := rs) (hs := hs) (fL := fL) (fD := fD) (rd' := rd) (l' := l) (e := 1) (y := 0) (rs' := upd (upd rs 3 0) 3 1) hR ?_ (by decide) ?_ rfl ⟨rfl, rfl, rfl⟩
    · unfold FL_attend FX3_attend
      rw [c_o, qJ0 ha, V_x, TI_x, if_pos rfl]
    · unfold FX4_attend
      rw [r_p3 (clsH_len _ _ _ _ _), r_isJuror, I_e, bl_f ha, if_pos rfl, r_o (clsH_len _ _ _ _ _), r_refuses (clsH_len _ _ _ _ _), I_e]
theorem hasBit_e {x y : Int32} {h : jm_H} : FX3_hasBit x y h = rI (bl (hb x y)) h := by
  unfold FX3_hasBit
  by_cases h1 : hb x y
  · rw [bl_t h1]; exact if_pos h1
  · rw [bl_f h1]; exact if_neg h1
theorem ok_vote (hN : 2001 ≤ N) {a b x : Int32} : Ok (FL_vote N 0 a b x 114) (FX4_vote N 108 a b x) := by
  rintro h ⟨F, π, sc, rd, cd, p, k, l, rs, hs, fL, fD, rfl, hR⟩
  obtain ⟨hI, ⟨n, hn1, hn2, hS⟩, hK, hM⟩ := id hR
  have z : ¬ (1 : Int32) = 0 := by decide
  by_cases ha : 0 ≤ a ∧ a ≤ 2
  · obtain ⟨j, hj9, rfl⟩ := (in_i (b := 2) (by decide)).mp ha
    by_cases hB : ∃ f, f < cnt (F 0) 0 ∧ b = nI f
    · obtain ⟨f, hf, rfl⟩ := id hB
      by_cases hx : 0 ≤ x ∧ x ≤ 10
      · have h8 : f < 8 := by have := hI.nf.2; omega
        have hq : hb (sSeen (F 0) (nI f)) (nI j) ↔ sHas (F 0) (nI j) (nI f) := sSeen_has hI (by omega)
        by_cases h1 : hb (sSeen (F 0) (nI f)) (nI j)
        · refine Ok_s (F := F) (π := π) (sc := sc) (cd := cd) (p := p) (k := k) (l := l) (rs := rs) (hs := hs) (fL := fL) (fD := fD) (rd := rd) (n := n) (y := sP (F 0) j f) (w := upd (F 0) (104 + 8 * j + f) x) (l' := l) (rs' := upd (upd rs 3 0) 0 (nI (svN n))) hR hn1 hS (Iv_vote hI (by omega) h8 ((in_c (a := 0) (b := 10) (by decide) (by decide)).mp hx)) ?_ ?_ ⟨rfl, rfl, rfl, rfl⟩
          · unfold FL_vote FX3_vote
            rw [c_o, qJ1 ha, V_e, c_o, qF1 hI hB, V_e, e_in3, I_e, bl_t hx, rq1, V_e, k_r0, c_o1, c_seen (by omega) hI, I_e, hasBit_e, I_e, bl_t h1, if_neg z, c_o, c_save (by omega) hn1 hS.1 hS.2.1, V_e, k_r0, c_r5, c_o12, c_exJ (show j < 3 by omega) h8, I_e, TI_r, fu_0, j_stL]
          · unfold FX4_vote
            rw [r_p3 (clsH_len _ _ _ _ _), r_isJuror, I_e, bl_t ha, if_neg z, r_o (clsH_len _ _ _ _ _), r_isFilm (clsH_len _ _ _ _ _) hI, I_e, bl_t hB, if_neg z, e_in4, I_e, bl_t hx, if_neg z, r_o (clsH_len _ _ _ _ _), r_has (clsH_len _ _ _ _ _) (by omega) hI, I_e, bl_t (hq.mp h1), if_neg z, r_o (clsH_len _ _ _ _ _), r_saves (clsH_len _ _ _ _ _) (by omega) (by rw [pk_un (by decide)]; exact hn2) hS.1, V_e, r_voteT (clsH_len _ _ _ _ _) (show j < 3 by omega) h8]
        · refine Ok_x (F := F) (π := π) (sc := sc) (cd := cd) (p := p) (k := k) (l := l) (rs := rs) (hs := hs) (fL := fL) (fD := fD) (rd' := rd) (l' := l) (e := 3) (y := 0) (rs' := upd (upd rs 3 0) 3 3) hR ?_ (by decide) ?_ rfl ⟨rfl, rfl, rfl⟩
          · unfold FL_vote FX3_vote
            rw [c_o, qJ1 ha, V_e, c_o, qF1 hI hB, V_e, e_in3, I_e, bl_t hx, rq1, V_e, k_r0, c_o1, c_seen (by omega) hI, I_e, hasBit_e, I_e, bl_f h1, if_pos rfl, TI_x, if_neg IX_ne, if_neg IA_ne, if_pos rfl]
          · unfold FX4_vote
            rw [r_p3 (clsH_len _ _ _ _ _), r_isJuror, I_e, bl_t ha, if_neg z, r_o (clsH_len _ _ _ _ _), r_isFilm (clsH_len _ _ _ _ _) hI, I_e, bl_t hB, if_neg z, e_in4, I_e, bl_t hx, if_neg z, r_o (clsH_len _ _ _ _ _), r_has (clsH_len _ _ _ _ _) (by omega) hI, I_e, bl_f (fun hh => h1 (hq.mpr hh)), if_pos rfl, r_o (clsH_len _ _ _ _ _), r_refuses (clsH_len _ _ _ _ _), I_e]
      · refine Ok_x (F := F) (π := π) (sc := sc) (cd := cd) (p := p) (k := k) (l := l) (rs := rs) (hs := hs) (fL := fL) (fD := fD) (rd' := rd) (l' := l) (e := 2) (y := 0) (rs' := upd (upd rs 3 0) 3 2) hR ?_ (by decide) ?_ rfl ⟨rfl, rfl, rfl⟩
        · unfold FL_vote FX3_vote
          rw [c_o, qJ1 ha, V_e, c_o, qF1 hI hB, V_e, e_in3, I_e, bl_f hx, rq0, V_x, TI_x, if_neg AX_ne, if_pos rfl]
        · unfold FX4_vote
          rw [r_p3 (clsH_len _ _ _ _ _), r_isJuror, I_e, bl_t ha, if_neg z, r_o (clsH_len _ _ _ _ _), r_isFilm (clsH_len _ _ _ _ _) hI, I_e, bl_t hB, if_neg z, e_in4, I_e, bl_f hx, if_pos rfl, r_o (clsH_len _ _ _ _ _), r_refuses (clsH_len _ _ _ _ _), I_e]
    · refine Ok_x (F := F) (π := π) (sc := sc) (cd := cd) (p := p) (k := k) (l := l) (rs := rs) (hs := hs) (fL := fL) (fD := fD) (rd' := rd) (l' := l) (e := 1) (y := 0) (rs' := upd (upd rs 3 0) 3 1) hR ?_ (by decide) ?_ rfl ⟨rfl, rfl, rfl⟩
      · unfold FL_vote FX3_vote
        rw [c_o, qJ1 ha, V_e, c_o, qF0 hI hB, V_x, TI_x, if_pos rfl]
      · unfold FX4_vote
        rw [r_p3 (clsH_len _ _ _ _ _), r_isJuror, I_e, bl_t ha, if_neg z, r_o (clsH_len _ _ _ _ _), r_isFilm (clsH_len _ _ _ _ _) hI, I_e, bl_f hB, if_pos rfl, r_o (clsH_len _ _ _ _ _), r_refuses (clsH_len _ _ _ _ _), I_e]
  · refine Ok_x (F := F) (π := π) (sc := sc) (cd := cd) (p := p) (k := k) (l := l) (rs := rs) (hs := hs) (fL := fL) (fD := fD) (rd' := rd) (l' := l) (e := 1) (y := 0) (rs' := upd (upd rs 3 0) 3 1) hR ?_ (by decide) ?_ rfl ⟨rfl, rfl, rfl⟩
    · unfold FL_vote FX3_vote
      rw [c_o, qJ0 ha, V_x, TI_x, if_pos rfl]
    · unfold FX4_vote
      rw [r_p3 (clsH_len _ _ _ _ _), r_isJuror, I_e, bl_f ha, if_pos rfl, r_o (clsH_len _ _ _ _ _), r_refuses (clsH_len _ _ _ _ _), I_e]
end FU

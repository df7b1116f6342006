/-! FACE: film, seats, set -/
section F1
variable {N : Nat}
theorem r_addFilm {P : jm_H} {v p k t l rs : Nat → Int32} {hs : Int64} {q : jm_H} (hP : P.length = 108) (hI : Iv v) (h8 : cnt v 0 < 8) {a b : Int32} :
    (jf_gR 4 (hR P v p k t l rs hs q) 108 0 fun r111 => jf_ldI (hR P v p k t l rs hs q) r111 0 fun x112 => jf_gR 4 (hR P v p k t l rs hs q) 108 0 fun r113 => jf_stI (hR P v p k t l rs hs q) r113 (10 + (2 * x112)) a fun h114 => jf_gR 4 h114 108 0 fun r115 => jf_stI h114 r115 ((10 + (2 * x112)) + 1) b fun h116 => jf_gR 4 h116 108 0 fun r117 => jf_ldI h116 r117 0 fun x118 => jf_stI h116 r117 0 (x118 + 1) fun h119 => some (.inl (some (.int x112)), h119)) = rI (nI (cnt v 0)) (hR P (uFilm v a b) p k t l rs hs q) := by
  have e : (10 : Int32) + 2 * nI (cnt v 0) = nI (10 + 2 * cnt v 0 + 0) := by rw [show (2 : Int32) = nI 2 from rfl, pk_mul, show (10 : Int32) = nI 10 from rfl, nI_add]; rfl
  rw [r_now hP, r_n0 hP, r_now hP, hI.nf.1, e, r_st hP (by omega), r_now hP, nI_1, r_st hP (by omega), r_now hP, r_n0 hP, pk_un (by omega), pk_un (by omega), hI.nf.1, nI_1]
  rw [show ∀ (h : jm_H) (x : Int32) (g : jm_H → Option jm_X), jf_stI h 109 0 x g = jf_stI h 109 (nI 0) x g from fun _ _ _ => rfl, r_st hP (by decide)]
  unfold uFilm nUp
  rw [upd_comm (b := 0) (by omega), upd_comm (b := 0) (by omega)]
theorem ok_film (hN : 2001 ≤ N) {a b : Int32} : Ok (FL_film N 0 a b 114) (FX4_film N 108 a b) := by
  rintro h ⟨F, π, sc, rd, cd, p, k, l, rs, hs, fL, fD, rfl, hR⟩
  obtain ⟨hI, ⟨n, hn1, hn2, hS⟩, hK, hM⟩ := id hR
  have z : ¬ (1 : Int32) = 0 := by decide
  have h8 := hI.nf.2
  have ec : F 0 0 < 8 ↔ cnt (F 0) 0 < 8 := by rw [hI.nf.1]; exact nI_ltI (a := cnt (F 0) 0) (b := 8) (by omega) (by decide)
  have ed : F 0 0 = 8 ↔ cnt (F 0) 0 = 8 := by rw [hI.nf.1]; exact nI_eq (a := cnt (F 0) 0) (b := 8) (by omega) (by decide)
  by_cases ha : 1 ≤ a ∧ a ≤ 6
  · by_cases hb : 10 ≤ b ∧ b ≤ 25
    · by_cases hc : cnt (F 0) 0 < 8
      · have hA : isN a 1 6 := (in_c (a := 1) (b := 6) (by decide) (by decide)).mp ha
        have hB : isN b 10 25 := (in_c (a := 10) (b := 25) (by decide) (by decide)).mp hb
        refine Ok_s (F := F) (π := π) (sc := sc) (cd := cd) (p := p) (k := k) (l := l) (rs := rs) (hs := hs) (fL := fL) (fD := fD) (rd := rd) (n := n) (y := nI (cnt (F 0) 0)) (w := uFilm (F 0) a b) (l' := l) (rs' := upd (upd rs 3 0) 0 (nI (svN n))) hR hn1 hS (Iv_film hI hc hA hB) ?_ ?_ ⟨rfl, rfl, rfl, rfl⟩
        · unfold FL_film FX3_film
          rw [c_o, e_in3, I_e, bl_t ha, if_neg z, e_in3, I_e, bl_t hb, if_neg z, rq1, V_e, k_r0, c_r0, c_n0, if_pos (ec.mpr hc), c_o, c_save (by omega) hn1 hS.1 hS.2.1, V_e, k_r0, c_o1, c_addFilm (by rw [fu_0]; exact hI) (by rw [fu_0]; exact hc), I_e, TI_r, fu_0, j_stL]
        · unfold FX4_film
          rw [r_p3 (clsH_len _ _ _ _ _), e_in4, I_e, bl_t ha, if_neg z, e_in4, I_e, bl_t hb, if_neg z, r_now (clsH_len _ _ _ _ _), r_n0 (clsH_len _ _ _ _ _), if_neg (fun e => absurd (ed.mp e) (by omega)), r_o (clsH_len _ _ _ _ _), r_saves (clsH_len _ _ _ _ _) (by omega) (by rw [pk_un (by decide)]; exact hn2) hS.1, V_e, r_addFilm (clsH_len _ _ _ _ _) hI hc]
      · refine Ok_x (F := F) (π := π) (sc := sc) (cd := cd) (p := p) (k := k) (l := l) (rs := rs) (hs := hs) (fL := fL) (fD := fD) (rd' := rd) (l' := l) (e := 2) (y := 0) (rs' := upd (upd rs 3 0) 3 2) hR ?_ (by decide) ?_ rfl ⟨rfl, rfl, rfl⟩
        · unfold FL_film FX3_film
          rw [c_o, e_in3, I_e, bl_t ha, if_neg z, e_in3, I_e, bl_t hb, if_neg z, rq1, V_e, k_r0, c_r0, c_n0, if_neg (fun e => hc (ec.mp e)), TI_x, if_neg IA_ne, if_pos rfl]
        · unfold FX4_film
          rw [r_p3 (clsH_len _ _ _ _ _), e_in4, I_e, bl_t ha, if_neg z, e_in4, I_e, bl_t hb, if_neg z, r_now (clsH_len _ _ _ _ _), r_n0 (clsH_len _ _ _ _ _), if_pos (ed.mpr (by omega)), r_o (clsH_len _ _ _ _ _), r_refuses (clsH_len _ _ _ _ _), I_e]
    · refine Ok_x (F := F) (π := π) (sc := sc) (cd := cd) (p := p) (k := k) (l := l) (rs := rs) (hs := hs) (fL := fL) (fD := fD) (rd' := rd) (l' := l) (e := 1) (y := 0) (rs' := upd (upd rs 3 0) 3 1) hR ?_ (by decide) ?_ rfl ⟨rfl, rfl, rfl⟩
      · unfold FL_film FX3_film
        rw [c_o, e_in3, I_e, bl_t ha, if_neg z, e_in3, I_e, bl_f hb, if_pos rfl, rq0, V_x, TI_x, if_pos rfl]
      · unfold FX4_film
        rw [r_p3 (clsH_len _ _ _ _ _), e_in4, I_e, bl_t ha, if_neg z, e_in4, I_e, bl_f hb, if_pos rfl, r_o (clsH_len _ _ _ _ _), r_refuses (clsH_len _ _ _ _ _), I_e]
  · refine Ok_x (F := F) (π := π) (sc := sc) (cd := cd) (p := p) (k := k) (l := l) (rs := rs) (hs := hs) (fL := fL) (fD := fD) (rd' := rd) (l' := l) (e := 1) (y := 0) (rs' := upd (upd rs 3 0) 3 1) hR ?_ (by decide) ?_ rfl ⟨rfl, rfl, rfl⟩
    · unfold FL_film FX3_film
      rw [c_o, e_in3, I_e, bl_f ha, if_pos rfl, rq0, V_x, TI_x, if_pos rfl]
    · unfold FX4_film
      rw [r_p3 (clsH_len _ _ _ _ _), e_in4, I_e, bl_f ha, if_pos rfl, r_o (clsH_len _ _ _ _ _), r_refuses (clsH_len _ _ _ _ _), I_e]
end F1

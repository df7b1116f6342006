/-! P34: many -/
section CO
variable {N : Nat} {h : jm_H}
set_option maxRecDepth 20000 in
theorem t_many_518 (hN : 2001 ≤ N) (cs : Cs [] R34_52 [R34_46, R34_47, R34_48, R34_49, R34_50, R34_51] none [] h) : ∃ h', FL_many_518 N N 0 h = rI 1 h' := by
  obtain ⟨M, rfl⟩ : ∃ M, N = M + 1 := ⟨N - 1, by omega⟩
  rw [FL_many_518]
  rw [Cs_o cs, sq_guestOf hN cs, qI (show o_guestOf R34_52 1 3 = .inl 0 by decide +kernel), I_e, if_pos rfl]
  exact ⟨_, rfl⟩
set_option maxRecDepth 20000 in
theorem t_many_393 (hN : 2001 ≤ N) (cs : Cs [] R34_46 [R34_41, R34_42, R34_43, R34_43, R34_44, R34_45] none [] h) : ∃ h', FL_many_393 N N 0 h = rI 1 h' := by
  obtain ⟨M, rfl⟩ : ∃ M, N = M + 1 := ⟨N - 1, by omega⟩
  rw [FL_many_393]
  obtain ⟨h1, e1, c1⟩ := sN_set (a := 0) (b := 60) (y9 := 0) (w := R34_47) hN cs (by decide +kernel)
  rw [Cs_o cs, e1, I_e, if_pos rfl]
  replace c1 : Cs [] R34_47 [R34_42, R34_43, R34_43, R34_44, R34_45, R34_46] none [] h1 := c1
  rw [Cs_o c1, sq_whyNot hN c1, qI (show o_whyNot R34_47 0 2 500 20 0 = .inl 0 by decide +kernel), I_e, if_pos rfl]
  rw [Cs_o c1, sq_nextStart hN c1, qI (show o_nextStart R34_47 0 1 0 = .inl 160 by decide +kernel), I_e, if_pos rfl]
  obtain ⟨h2, e2, c2⟩ := sN_show (a := 0) (b := 1) (x := 160) (y := 20) (y9 := 11) (w := R34_48) hN c1 (by decide +kernel)
  rw [Cs_o c1, e2, I_e, if_pos rfl]
  replace c2 : Cs [] R34_48 [R34_43, R34_43, R34_44, R34_45, R34_46, R34_47] none [] h2 := c2
  rw [Cs_o c2, sq_showing hN c2, qI (show o_showing R34_48 11 3 = .inl 190 by decide +kernel), I_e, if_pos rfl]
  obtain ⟨h3, e3, c3⟩ := sN_set (a := 1) (b := 60) (y9 := 0) (w := R34_49) hN c2 (by decide +kernel)
  rw [Cs_o c2, e3, I_e, if_pos rfl]
  replace c3 : Cs [] R34_49 [R34_43, R34_44, R34_45, R34_46, R34_47, R34_48] none [] h3 := c3
  obtain ⟨h4, e4, c4⟩ := sN_guest (a := 0) (b := 1999) (x := 2000) (y9 := 0) (w := R34_50) hN c3 (by decide +kernel)
  rw [Cs_o c3, e4, I_e, if_pos rfl]
  replace c4 : Cs [] R34_50 [R34_44, R34_45, R34_46, R34_47, R34_48, R34_49] none [] h4 := c4
  obtain ⟨h5, e5, c5⟩ := sN_set (a := 2) (b := 0) (y9 := 10) (w := R34_51) hN c4 (by decide +kernel)
  rw [Cs_o c4, e5, I_e, if_pos rfl]
  replace c5 : Cs [] R34_51 [R34_45, R34_46, R34_47, R34_48, R34_49, R34_50] none [] h5 := c5
  rw [Cs_o c5, sq_guestOf hN c5, qI (show o_guestOf R34_51 0 3 = .inl 10 by decide +kernel), I_e, if_pos rfl]
  obtain ⟨h6, e6, c6⟩ := sN_guest (a := 0) (b := 0) (x := 20) (y9 := 1) (w := R34_52) hN c5 (by decide +kernel)
  rw [Cs_o c5, e6, I_e, if_pos rfl]
  replace c6 : Cs [] R34_52 [R34_46, R34_47, R34_48, R34_49, R34_50, R34_51] none [] h6 := c6
  exact t_many_518 hN c6
set_option maxRecDepth 20000 in
theorem t_many_379 (hN : 2001 ≤ N) (cs : Cs [] R34_46 [R34_41, R34_42, R34_43, R34_43, R34_44, R34_45] none [] h) : ∃ h', FL_many_379 N N 0 h = rI 1 h' := by
  obtain ⟨M, rfl⟩ : ∃ M, N = M + 1 := ⟨N - 1, by omega⟩
  rw [FL_many_379]
  rw [Cs_o cs, sq_whyNot hN cs, qI (show o_whyNot R34_46 0 0 0 0 1 = .inl 0 by decide +kernel), I_e, if_pos rfl]
  exact t_many_393 hN cs
set_option maxRecDepth 20000 in
theorem t_many_266 (hN : 2001 ≤ N) (cs : Cs [] R34_43 [R34_37, R34_38, R34_39, R34_40, R34_41, R34_42] none [] h) : ∃ h', FL_many_266 N N 0 h = rI 1 h' := by
  obtain ⟨M, rfl⟩ : ∃ M, N = M + 1 := ⟨N - 1, by omega⟩
  rw [FL_many_266]
  rw [cR_5 (a := 4) (b := 41) (c := 0) (l := 0) hN cs okI9 (chkR_e (by decide +kernel)), cdI, I_e, if_pos rfl]
  rw [cR_5 (a := 4) (b := 39) (c := 0) (l := 0) hN cs okI9 (chkR_e (by decide +kernel)), cdI, I_e, if_pos rfl]
  obtain ⟨h1, e1, c1⟩ := sN_move (a := 4) (b := 40) (y9 := 0) (w := R34_43) hN cs (by decide +kernel)
  rw [Cs_o cs, e1, I_e, if_pos rfl]
  replace c1 : Cs [] R34_43 [R34_38, R34_39, R34_40, R34_41, R34_42, R34_43] none [] h1 := c1
  obtain ⟨h2, e2, c2⟩ := sN_move (a := 11) (b := 1990) (y9 := 0) (w := R34_44) hN c1 (by decide +kernel)
  rw [Cs_o c1, e2, I_e, if_pos rfl]
  replace c2 : Cs [] R34_44 [R34_39, R34_40, R34_41, R34_42, R34_43, R34_43] none [] h2 := c2
  obtain ⟨h3, e3, c3⟩ := sN_callOff (a := 0) (y9 := 0) (w := R34_45) hN c2 (by decide +kernel)
  rw [Cs_o c2, e3, I_e, if_pos rfl]
  replace c3 : Cs [] R34_45 [R34_40, R34_41, R34_42, R34_43, R34_43, R34_44] none [] h3 := c3
  rw [Cs_o c3, sq_count hN c3, qI (show o_count R34_45 (nI (List.length [R34_40, R34_41, R34_42, R34_43, R34_43, R34_44])) 1 = .inl 11 by decide +kernel), I_e, if_pos rfl]
  obtain ⟨h4, e4, c4⟩ := sN_move (a := 0) (b := 0) (y9 := 0) (w := R34_46) hN c3 (by decide +kernel)
  rw [Cs_o c3, e4, I_e, if_pos rfl]
  replace c4 : Cs [] R34_46 [R34_41, R34_42, R34_43, R34_43, R34_44, R34_45] none [] h4 := c4
  rw [Cs_o c4, sq_showing hN c4, qI (show o_showing R34_46 0 2 = .inl 0 by decide +kernel), I_e, if_pos rfl]
  rw [Cs_o c4, sq_nextStart hN c4, qI (show o_nextStart R34_46 0 0 0 = .inl 10 by decide +kernel), I_e, if_pos rfl]
  rw [Cs_o c4, sq_whyNot hN c4, qI (show o_whyNot R34_46 0 0 0 0 0 = .inl 4 by decide +kernel), I_e, if_pos rfl]
  exact t_many_379 hN c4
set_option maxRecDepth 20000 in
theorem t_many_241 (hN : 2001 ≤ N) (cs : Cs [] R34_43 [R34_37, R34_38, R34_39, R34_40, R34_41, R34_42] none [] h) : ∃ h', FL_many_241 N N 0 h = rI 1 h' := by
  obtain ⟨M, rfl⟩ : ∃ M, N = M + 1 := ⟨N - 1, by omega⟩
  rw [FL_many_241]
  rw [Cs_o cs, sq_filmOf hN cs, qI (show o_filmOf R34_43 0 3 = .inl 2400 by decide +kernel), I_e, if_pos rfl]
  rw [Cs_o cs, sq_count hN cs, qI (show o_count R34_43 (nI (List.length [R34_37, R34_38, R34_39, R34_40, R34_41, R34_42])) 4 = .inl 2400 by decide +kernel), I_e, if_pos rfl]
  exact t_many_266 hN cs
theorem t_many_83_r0 {n : Nat} (hN : 2001 ≤ N) (cs : Cs [] R34_31 [R34_25, R34_26, R34_27, R34_28, R34_29, R34_30] none [] h) : ∃ h', FL_many_83 N (n + 1) 189 3669 0 0 h = FL_many_83 N n 194 3699 0 1 h' ∧ Cs [] R34_32 [R34_26, R34_27, R34_28, R34_29, R34_30, R34_31] none [] h' := by
  obtain ⟨h1, e1, c1⟩ := sN_show (a := 0) (b := (0 - 0 / 3 * 3)) (x := (10 * 0)) (y := 0) (y9 := 0) (w := R34_32) hN cs (by decide +kernel)
  refine ⟨h1, ?_, c1⟩
  rw [FL_many_83, kMy (by decide), if_neg (by decide), kMy (by decide), Cs_o cs, e1, I_e, if_pos rfl]
  rfl
theorem t_many_83_r1 {n : Nat} (hN : 2001 ≤ N) (cs : Cs [] R34_32 [R34_26, R34_27, R34_28, R34_29, R34_30, R34_31] none [] h) : ∃ h', FL_many_83 N (n + 1) 194 3699 0 1 h = FL_many_83 N n 199 3729 0 2 h' ∧ Cs [] R34_33 [R34_27, R34_28, R34_29, R34_30, R34_31, R34_32] none [] h' := by
  obtain ⟨h1, e1, c1⟩ := sN_show (a := 0) (b := (1 - 1 / 3 * 3)) (x := (10 * 1)) (y := 0) (y9 := 1) (w := R34_33) hN cs (by decide +kernel)
  refine ⟨h1, ?_, c1⟩
  rw [FL_many_83, kMy (by decide), if_neg (by decide), kMy (by decide), Cs_o cs, e1, I_e, if_pos rfl]
  rfl
theorem t_many_83_r2 {n : Nat} (hN : 2001 ≤ N) (cs : Cs [] R34_33 [R34_27, R34_28, R34_29, R34_30, R34_31, R34_32] none [] h) : ∃ h', FL_many_83 N (n + 1) 199 3729 0 2 h = FL_many_83 N n 204 3759 0 3 h' ∧ Cs [] R34_34 [R34_28, R34_29, R34_30, R34_31, R34_32, R34_33] none [] h' := by
  obtain ⟨h1, e1, c1⟩ := sN_show (a := 0) (b := (2 - 2 / 3 * 3)) (x := (10 * 2)) (y := 0) (y9 := 2) (w := R34_34) hN cs (by decide +kernel)
  refine ⟨h1, ?_, c1⟩
  rw [FL_many_83, kMy (by decide), if_neg (by decide), kMy (by decide), Cs_o cs, e1, I_e, if_pos rfl]
  rfl
theorem t_many_83_r3 {n : Nat} (hN : 2001 ≤ N) (cs : Cs [] R34_34 [R34_28, R34_29, R34_30, R34_31, R34_32, R34_33] none [] h) : ∃ h', FL_many_83 N (n + 1) 204 3759 0 3 h = FL_many_83 N n 209 3789 0 4 h' ∧ Cs [] R34_35 [R34_29, R34_30, R34_31, R34_32, R34_33, R34_34] none [] h' := by
  obtain ⟨h1, e1, c1⟩ := sN_show (a := 0) (b := (3 - 3 / 3 * 3)) (x := (10 * 3)) (y := 0) (y9 := 3) (w := R34_35) hN cs (by decide +kernel)
  refine ⟨h1, ?_, c1⟩
  rw [FL_many_83, kMy (by decide), if_neg (by decide), kMy (by decide), Cs_o cs, e1, I_e, if_pos rfl]
  rfl
theorem t_many_83_r4 {n : Nat} (hN : 2001 ≤ N) (cs : Cs [] R34_35 [R34_29, R34_30, R34_31, R34_32, R34_33, R34_34] none [] h) : ∃ h', FL_many_83 N (n + 1) 209 3789 0 4 h = FL_many_83 N n 214 3819 0 5 h' ∧ Cs [] R34_36 [R34_30, R34_31, R34_32, R34_33, R34_34, R34_35] none [] h' := by
  obtain ⟨h1, e1, c1⟩ := sN_show (a := 0) (b := (4 - 4 / 3 * 3)) (x := (10 * 4)) (y := 0) (y9 := 4) (w := R34_36) hN cs (by decide +kernel)
  refine ⟨h1, ?_, c1⟩
  rw [FL_many_83, kMy (by decide), if_neg (by decide), kMy (by decide), Cs_o cs, e1, I_e, if_pos rfl]
  rfl
theorem t_many_83_r5 {n : Nat} (hN : 2001 ≤ N) (cs : Cs [] R34_36 [R34_30, R34_31, R34_32, R34_33, R34_34, R34_35] none [] h) : ∃ h', FL_many_83 N (n + 1) 214 3819 0 5 h = FL_many_83 N n 219 3849 0 6 h' ∧ Cs [] R34_37 [R34_31, R34_32, R34_33, R34_34, R34_35, R34_36] none [] h' := by
  obtain ⟨h1, e1, c1⟩ := sN_show (a := 0) (b := (5 - 5 / 3 * 3)) (x := (10 * 5)) (y := 0) (y9 := 5) (w := R34_37) hN cs (by decide +kernel)
  refine ⟨h1, ?_, c1⟩
  rw [FL_many_83, kMy (by decide), if_neg (by decide), kMy (by decide), Cs_o cs, e1, I_e, if_pos rfl]
  rfl
theorem t_many_83_r6 {n : Nat} (hN : 2001 ≤ N) (cs : Cs [] R34_37 [R34_31, R34_32, R34_33, R34_34, R34_35, R34_36] none [] h) : ∃ h', FL_many_83 N (n + 1) 219 3849 0 6 h = FL_many_83 N n 224 3879 0 7 h' ∧ Cs [] R34_38 [R34_32, R34_33, R34_34, R34_35, R34_36, R34_37] none [] h' := by
  obtain ⟨h1, e1, c1⟩ := sN_show (a := 0) (b := (6 - 6 / 3 * 3)) (x := (10 * 6)) (y := 0) (y9 := 6) (w := R34_38) hN cs (by decide +kernel)
  refine ⟨h1, ?_, c1⟩
  rw [FL_many_83, kMy (by decide), if_neg (by decide), kMy (by decide), Cs_o cs, e1, I_e, if_pos rfl]
  rfl
theorem t_many_83_r7 {n : Nat} (hN : 2001 ≤ N) (cs : Cs [] R34_38 [R34_32, R34_33, R34_34, R34_35, R34_36, R34_37] none [] h) : ∃ h', FL_many_83 N (n + 1) 224 3879 0 7 h = FL_many_83 N n 229 3909 0 8 h' ∧ Cs [] R34_39 [R34_33, R34_34, R34_35, R34_36, R34_37, R34_38] none [] h' := by
  obtain ⟨h1, e1, c1⟩ := sN_show (a := 0) (b := (7 - 7 / 3 * 3)) (x := (10 * 7)) (y := 0) (y9 := 7) (w := R34_39) hN cs (by decide +kernel)
  refine ⟨h1, ?_, c1⟩
  rw [FL_many_83, kMy (by decide), if_neg (by decide), kMy (by decide), Cs_o cs, e1, I_e, if_pos rfl]
  rfl
theorem t_many_83_r8 {n : Nat} (hN : 2001 ≤ N) (cs : Cs [] R34_39 [R34_33, R34_34, R34_35, R34_36, R34_37, R34_38] none [] h) : ∃ h', FL_many_83 N (n + 1) 229 3909 0 8 h = FL_many_83 N n 234 3939 0 9 h' ∧ Cs [] R34_40 [R34_34, R34_35, R34_36, R34_37, R34_38, R34_39] none [] h' := by
  obtain ⟨h1, e1, c1⟩ := sN_show (a := 0) (b := (8 - 8 / 3 * 3)) (x := (10 * 8)) (y := 0) (y9 := 8) (w := R34_40) hN cs (by decide +kernel)
  refine ⟨h1, ?_, c1⟩
  rw [FL_many_83, kMy (by decide), if_neg (by decide), kMy (by decide), Cs_o cs, e1, I_e, if_pos rfl]
  rfl
theorem t_many_83_r9 {n : Nat} (hN : 2001 ≤ N) (cs : Cs [] R34_40 [R34_34, R34_35, R34_36, R34_37, R34_38, R34_39] none [] h) : ∃ h', FL_many_83 N (n + 1) 234 3939 0 9 h = FL_many_83 N n 239 3969 0 10 h' ∧ Cs [] R34_41 [R34_35, R34_36, R34_37, R34_38, R34_39, R34_40] none [] h' := by
  obtain ⟨h1, e1, c1⟩ := sN_show (a := 0) (b := (9 - 9 / 3 * 3)) (x := (10 * 9)) (y := 0) (y9 := 9) (w := R34_41) hN cs (by decide +kernel)
  refine ⟨h1, ?_, c1⟩
  rw [FL_many_83, kMy (by decide), if_neg (by decide), kMy (by decide), Cs_o cs, e1, I_e, if_pos rfl]
  rfl
theorem t_many_83_r10 {n : Nat} (hN : 2001 ≤ N) (cs : Cs [] R34_41 [R34_35, R34_36, R34_37, R34_38, R34_39, R34_40] none [] h) : ∃ h', FL_many_83 N (n + 1) 239 3969 0 10 h = FL_many_83 N n 244 3999 0 11 h' ∧ Cs [] R34_42 [R34_36, R34_37, R34_38, R34_39, R34_40, R34_41] none [] h' := by
  obtain ⟨h1, e1, c1⟩ := sN_show (a := 0) (b := (10 - 10 / 3 * 3)) (x := (10 * 10)) (y := 0) (y9 := 10) (w := R34_42) hN cs (by decide +kernel)
  refine ⟨h1, ?_, c1⟩
  rw [FL_many_83, kMy (by decide), if_neg (by decide), kMy (by decide), Cs_o cs, e1, I_e, if_pos rfl]
  rfl
theorem t_many_83_r11 {n : Nat} (hN : 2001 ≤ N) (cs : Cs [] R34_42 [R34_36, R34_37, R34_38, R34_39, R34_40, R34_41] none [] h) : ∃ h', FL_many_83 N (n + 1) 244 3999 0 11 h = FL_many_83 N n 249 4029 0 12 h' ∧ Cs [] R34_43 [R34_37, R34_38, R34_39, R34_40, R34_41, R34_42] none [] h' := by
  obtain ⟨h1, e1, c1⟩ := sN_show (a := 0) (b := (11 - 11 / 3 * 3)) (x := (10 * 11)) (y := 0) (y9 := 11) (w := R34_43) hN cs (by decide +kernel)
  refine ⟨h1, ?_, c1⟩
  rw [FL_many_83, kMy (by decide), if_neg (by decide), kMy (by decide), Cs_o cs, e1, I_e, if_pos rfl]
  rfl
set_option maxRecDepth 20000 in
theorem t_many_83 (hN : 2001 ≤ N) (cs : Cs [] R34_31 [R34_25, R34_26, R34_27, R34_28, R34_29, R34_30] none [] h) : ∃ h', FL_many_83 N N 189 3669 0 0 h = rI 1 h' := by
  obtain ⟨M, rfl⟩ : ∃ M, N = M + 13 := ⟨N - 13, by omega⟩
  obtain ⟨g0, f0, d0⟩ := t_many_83_r0 (n := M + 12) hN cs
  obtain ⟨g1, f1, d1⟩ := t_many_83_r1 (n := M + 11) hN d0
  obtain ⟨g2, f2, d2⟩ := t_many_83_r2 (n := M + 10) hN d1
  obtain ⟨g3, f3, d3⟩ := t_many_83_r3 (n := M + 9) hN d2
  obtain ⟨g4, f4, d4⟩ := t_many_83_r4 (n := M + 8) hN d3
  obtain ⟨g5, f5, d5⟩ := t_many_83_r5 (n := M + 7) hN d4
  obtain ⟨g6, f6, d6⟩ := t_many_83_r6 (n := M + 6) hN d5
  obtain ⟨g7, f7, d7⟩ := t_many_83_r7 (n := M + 5) hN d6
  obtain ⟨g8, f8, d8⟩ := t_many_83_r8 (n := M + 4) hN d7
  obtain ⟨g9, f9, d9⟩ := t_many_83_r9 (n := M + 3) hN d8
  obtain ⟨g10, f10, d10⟩ := t_many_83_r10 (n := M + 2) hN d9
  obtain ⟨g11, f11, d11⟩ := t_many_83_r11 (n := M + 1) hN d10
  rw [f0, f1, f2, f3, f4, f5, f6, f7, f8, f9, f10, f11]
  rw [FL_many_83, kMy (by decide), if_pos (by decide), w_ok (by decide)]
  rw [Cs_o d11, sq_whyNot hN d11, qI (show o_whyNot R34_43 7 2 1999 20 0 = .inl 1 by decide +kernel), I_e, if_pos rfl]
  rw [Cs_o d11, sq_whyNot hN d11, qI (show o_whyNot R34_43 7 2 1999 20 1 = .inl (-1) by decide +kernel), I_e, if_pos rfl]
  rw [Cs_o d11, sq_nextStart hN d11, qI (show o_nextStart R34_43 0 0 0 = .inl (-1) by decide +kernel), I_e, if_pos rfl]
  rw [Cs_o d11, sq_bestScreen hN d11, qI (show o_bestScreen R34_43 0 0 = .inl (-1) by decide +kernel), I_e, if_pos rfl]
  rw [cR_3 (a := 0) (b := 0) (c := 500) (l := 500) hN d11 okI9 (chkR_e (by decide +kernel)), cdI, I_e, if_pos rfl]
  rw [Cs_o d11, sq_screen hN d11, qI (show o_screen R34_43 1 1 = .inl 4 by decide +kernel), I_e, if_pos rfl]
  rw [Cs_o d11, sq_screen hN d11, qI (show o_screen R34_43 1 2 = .inl 40 by decide +kernel), I_e, if_pos rfl]
  rw [Cs_o d11, sq_screen hN d11, qI (show o_screen R34_43 1 3 = .inl 40 by decide +kernel), I_e, if_pos rfl]
  rw [Cs_o d11, sq_screen hN d11, qI (show o_screen R34_43 1 4 = .inl 110 by decide +kernel), I_e, if_pos rfl]
  rw [Cs_o d11, sq_filmOf hN d11, qI (show o_filmOf R34_43 0 2 = .inl 12 by decide +kernel), I_e, if_pos rfl]
  exact t_many_241 hN d11
theorem t_many_10_r0 {n : Nat} (hN : 2001 ≤ N) (cs : Cs [] R34_0 [] none [] h) : ∃ h', FL_many_10 N (n + 1) 108 3183 0 0 h = FL_many_10 N n 110 3195 0 1 h' ∧ Cs [] R34_22 [R34_0] none [] h' := by
  obtain ⟨h1, e1, c1⟩ := sN_film (a := (1 + (0 - 0 / 6 * 6))) (b := (10 + 0)) (y9 := 0) (w := R34_22) hN cs (by decide +kernel)
  refine ⟨h1, ?_, c1⟩
  rw [FL_many_10, kMy (by decide), if_neg (by decide), kMy (by decide), Cs_o cs, e1, I_e, if_pos rfl]
  rfl
theorem t_many_10_r1 {n : Nat} (hN : 2001 ≤ N) (cs : Cs [] R34_22 [R34_0] none [] h) : ∃ h', FL_many_10 N (n + 1) 110 3195 0 1 h = FL_many_10 N n 112 3207 0 2 h' ∧ Cs [] R34_23 [R34_0, R34_22] none [] h' := by
  obtain ⟨h1, e1, c1⟩ := sN_film (a := (1 + (1 - 1 / 6 * 6))) (b := (10 + 1)) (y9 := 1) (w := R34_23) hN cs (by decide +kernel)
  refine ⟨h1, ?_, c1⟩
  rw [FL_many_10, kMy (by decide), if_neg (by decide), kMy (by decide), Cs_o cs, e1, I_e, if_pos rfl]
  rfl
theorem t_many_10_r2 {n : Nat} (hN : 2001 ≤ N) (cs : Cs [] R34_23 [R34_0, R34_22] none [] h) : ∃ h', FL_many_10 N (n + 1) 112 3207 0 2 h = FL_many_10 N n 114 3219 0 3 h' ∧ Cs [] R34_24 [R34_0, R34_22, R34_23] none [] h' := by
  obtain ⟨h1, e1, c1⟩ := sN_film (a := (1 + (2 - 2 / 6 * 6))) (b := (10 + 2)) (y9 := 2) (w := R34_24) hN cs (by decide +kernel)
  refine ⟨h1, ?_, c1⟩
  rw [FL_many_10, kMy (by decide), if_neg (by decide), kMy (by decide), Cs_o cs, e1, I_e, if_pos rfl]
  rfl
theorem t_many_10_r3 {n : Nat} (hN : 2001 ≤ N) (cs : Cs [] R34_24 [R34_0, R34_22, R34_23] none [] h) : ∃ h', FL_many_10 N (n + 1) 114 3219 0 3 h = FL_many_10 N n 116 3231 0 4 h' ∧ Cs [] R34_25 [R34_0, R34_22, R34_23, R34_24] none [] h' := by
  obtain ⟨h1, e1, c1⟩ := sN_film (a := (1 + (3 - 3 / 6 * 6))) (b := (10 + 3)) (y9 := 3) (w := R34_25) hN cs (by decide +kernel)
  refine ⟨h1, ?_, c1⟩
  rw [FL_many_10, kMy (by decide), if_neg (by decide), kMy (by decide), Cs_o cs, e1, I_e, if_pos rfl]
  rfl
theorem t_many_10_r4 {n : Nat} (hN : 2001 ≤ N) (cs : Cs [] R34_25 [R34_0, R34_22, R34_23, R34_24] none [] h) : ∃ h', FL_many_10 N (n + 1) 116 3231 0 4 h = FL_many_10 N n 118 3243 0 5 h' ∧ Cs [] R34_26 [R34_0, R34_22, R34_23, R34_24, R34_25] none [] h' := by
  obtain ⟨h1, e1, c1⟩ := sN_film (a := (1 + (4 - 4 / 6 * 6))) (b := (10 + 4)) (y9 := 4) (w := R34_26) hN cs (by decide +kernel)
  refine ⟨h1, ?_, c1⟩
  rw [FL_many_10, kMy (by decide), if_neg (by decide), kMy (by decide), Cs_o cs, e1, I_e, if_pos rfl]
  rfl
theorem t_many_10_r5 {n : Nat} (hN : 2001 ≤ N) (cs : Cs [] R34_26 [R34_0, R34_22, R34_23, R34_24, R34_25] none [] h) : ∃ h', FL_many_10 N (n + 1) 118 3243 0 5 h = FL_many_10 N n 120 3255 0 6 h' ∧ Cs [] R34_27 [R34_0, R34_22, R34_23, R34_24, R34_25, R34_26] none [] h' := by
  obtain ⟨h1, e1, c1⟩ := sN_film (a := (1 + (5 - 5 / 6 * 6))) (b := (10 + 5)) (y9 := 5) (w := R34_27) hN cs (by decide +kernel)
  refine ⟨h1, ?_, c1⟩
  rw [FL_many_10, kMy (by decide), if_neg (by decide), kMy (by decide), Cs_o cs, e1, I_e, if_pos rfl]
  rfl
theorem t_many_10_r6 {n : Nat} (hN : 2001 ≤ N) (cs : Cs [] R34_27 [R34_0, R34_22, R34_23, R34_24, R34_25, R34_26] none [] h) : ∃ h', FL_many_10 N (n + 1) 120 3255 0 6 h = FL_many_10 N n 122 3267 0 7 h' ∧ Cs [] R34_28 [R34_22, R34_23, R34_24, R34_25, R34_26, R34_27] none [] h' := by
  obtain ⟨h1, e1, c1⟩ := sN_film (a := (1 + (6 - 6 / 6 * 6))) (b := (10 + 6)) (y9 := 6) (w := R34_28) hN cs (by decide +kernel)
  refine ⟨h1, ?_, c1⟩
  rw [FL_many_10, kMy (by decide), if_neg (by decide), kMy (by decide), Cs_o cs, e1, I_e, if_pos rfl]
  rfl
theorem t_many_10_r7 {n : Nat} (hN : 2001 ≤ N) (cs : Cs [] R34_28 [R34_22, R34_23, R34_24, R34_25, R34_26, R34_27] none [] h) : ∃ h', FL_many_10 N (n + 1) 122 3267 0 7 h = FL_many_10 N n 124 3279 0 8 h' ∧ Cs [] R34_29 [R34_23, R34_24, R34_25, R34_26, R34_27, R34_28] none [] h' := by
  obtain ⟨h1, e1, c1⟩ := sN_film (a := (1 + (7 - 7 / 6 * 6))) (b := (10 + 7)) (y9 := 7) (w := R34_29) hN cs (by decide +kernel)
  refine ⟨h1, ?_, c1⟩
  rw [FL_many_10, kMy (by decide), if_neg (by decide), kMy (by decide), Cs_o cs, e1, I_e, if_pos rfl]
  rfl
set_option maxRecDepth 20000 in
theorem t_many_10 (hN : 2001 ≤ N) (cs : Cs [] R34_0 [] none [] h) : ∃ h', FL_many_10 N N 108 3183 0 0 h = rI 1 h' := by
  obtain ⟨M, rfl⟩ : ∃ M, N = M + 9 := ⟨N - 9, by omega⟩
  obtain ⟨g0, f0, d0⟩ := t_many_10_r0 (n := M + 8) hN cs
  obtain ⟨g1, f1, d1⟩ := t_many_10_r1 (n := M + 7) hN d0
  obtain ⟨g2, f2, d2⟩ := t_many_10_r2 (n := M + 6) hN d1
  obtain ⟨g3, f3, d3⟩ := t_many_10_r3 (n := M + 5) hN d2
  obtain ⟨g4, f4, d4⟩ := t_many_10_r4 (n := M + 4) hN d3
  obtain ⟨g5, f5, d5⟩ := t_many_10_r5 (n := M + 3) hN d4
  obtain ⟨g6, f6, d6⟩ := t_many_10_r6 (n := M + 2) hN d5
  obtain ⟨g7, f7, d7⟩ := t_many_10_r7 (n := M + 1) hN d6
  rw [f0, f1, f2, f3, f4, f5, f6, f7]
  rw [FL_many_10, kMy (by decide), if_pos (by decide), w_ok (by decide)]
  rw [cR_0 (a := 1) (b := 10) (c := 0) (l := 0) hN d7 okI9 (chkR_e (by decide +kernel)), cdI, I_e, if_pos rfl]
  obtain ⟨h1, e1, c1⟩ := sN_set (a := 0) (b := 0) (y9 := 10) (w := R34_30) hN d7 (by decide +kernel)
  rw [Cs_o d7, e1, I_e, if_pos rfl]
  replace c1 : Cs [] R34_30 [R34_24, R34_25, R34_26, R34_27, R34_28, R34_29] none [] h1 := c1
  obtain ⟨h2, e2, c2⟩ := sN_set (a := 1) (b := 0) (y9 := 15) (w := R34_31) hN c1 (by decide +kernel)
  rw [Cs_o c1, e2, I_e, if_pos rfl]
  replace c2 : Cs [] R34_31 [R34_25, R34_26, R34_27, R34_28, R34_29, R34_30] none [] h2 := c2
  exact t_many_83 hN c2
set_option maxRecDepth 20000 in
theorem t_many (hN : 2001 ≤ N) : ∃ h', FL_many N [] = rI 1 h' := by
  unfold FL_many
  rw [nw_e (b := 0) rfl cl_nil (fun r hr => by simp at hr) (by decide)]
  rw [jf_lv_eq (fun r hr => by
    simp only [List.mem_cons, List.not_mem_nil, or_false] at hr
    subst hr
    exact Or.inl (by decide))]
  rw [show ([] ++ [(.inr (3, [.null, .null, .null, .null, .null, .int 0, .int 0, .int 0]) : jm_C)] : jm_H) = [oC .null .null .null .null .null] from rfl, X3_init (by omega), cV_e]
  have cs := Cs_0
  exact t_many_10 hN cs
end CO

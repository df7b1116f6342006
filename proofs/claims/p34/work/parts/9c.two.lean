/-! P34: two -/
section CO
variable {N : Nat} {h : jm_H}
set_option maxRecDepth 20000 in
theorem t_two_1203 (hN : 2001 ≤ N) (cs : Cs [] R34_9 [R34_14, R34_15, R34_16, R34_17, R34_18, R34_19] (some R34_9) [] h) : ∃ h', FL_two_1203 N N 0 h = rI 1 h' := by
  obtain ⟨M, rfl⟩ : ∃ M, N = M + 1 := ⟨N - 1, by omega⟩
  rw [FL_two_1203]
  obtain ⟨h1, e1, c1⟩ := sN_attend (a := 0) (b := 0) (y9 := 1) (w := R34_10) hN cs (by decide +kernel)
  rw [Cs_o cs, e1, I_e, if_pos rfl]
  replace c1 : Cs [] R34_10 [R34_15, R34_16, R34_17, R34_18, R34_19, R34_9] (some R34_9) [] h1 := c1
  rw [Cs_o c1, sq_juror hN c1, qI (show o_juror R34_10 0 2 = .inl 0 by decide +kernel), I_e, if_pos rfl]
  obtain ⟨h2, e2, c2⟩ := sN_vote (a := 0) (b := 0) (x := 3) (y9 := 0) (w := R34_21) hN c1 (by decide +kernel)
  rw [Cs_o c1, e2, I_e, if_pos rfl]
  replace c2 : Cs [] R34_21 [R34_16, R34_17, R34_18, R34_19, R34_9, R34_10] (some R34_9) [] h2 := c2
  rw [Cs_o c2, sq_filmOf hN c2, qI (show o_filmOf R34_21 0 5 = .inl 3 by decide +kernel), I_e, if_pos rfl]
  exact ⟨_, rfl⟩
set_option maxRecDepth 20000 in
theorem t_two_1112 (hN : 2001 ≤ N) (cs : Cs [] R34_19 [R34_13, R34_14, R34_15, R34_16, R34_17, R34_18] (some R34_9) [] h) : ∃ h', FL_two_1112 N N 0 h = rI 1 h' := by
  obtain ⟨M, rfl⟩ : ∃ M, N = M + 1 := ⟨N - 1, by omega⟩
  rw [FL_two_1112]
  obtain ⟨h1, e1, c1⟩ := sN_callOff (a := 0) (y9 := 2) (w := R34_20) hN cs (by decide +kernel)
  rw [Cs_o cs, e1, I_e, if_pos rfl]
  replace c1 : Cs [] R34_20 [R34_14, R34_15, R34_16, R34_17, R34_18, R34_19] (some R34_9) [] h1 := c1
  rw [Cs_o c1, sq_count hN c1, qI (show o_count R34_20 (nI (List.length [R34_14, R34_15, R34_16, R34_17, R34_18, R34_19])) 5 = .inl 1 by decide +kernel), I_e, if_pos rfl]
  rw [Cs_o c1, sq_showing hN c1, qI (show o_showing R34_20 0 0 = .inl 1 by decide +kernel), I_e, if_pos rfl]
  rw [Cs_o c1, sq_showing hN c1, qI (show o_showing R34_20 0 5 = .inl 1 by decide +kernel), I_e, if_pos rfl]
  rw [Cs_o c1, sq_filmOf hN c1, qI (show o_filmOf R34_20 0 5 = .inl 0 by decide +kernel), I_e, if_pos rfl]
  rw [Cs_o c1, sq_count hN c1, qI (show o_count R34_20 (nI (List.length [R34_14, R34_15, R34_16, R34_17, R34_18, R34_19])) 3 = .inl 0 by decide +kernel), I_e, if_pos rfl]
  obtain ⟨h2, e2, c2⟩ := st_undo (S := [R34_14, R34_15, R34_16, R34_17, R34_18]) (w := R34_19) (v := R34_20) c1
  rw [Cs_o c1, e2, I_e, if_pos (show nI (List.length [R34_14, R34_15, R34_16, R34_17, R34_18]) = 5 from rfl)]
  replace c2 : Cs [] R34_19 [R34_14, R34_15, R34_16, R34_17, R34_18] (some R34_9) [] h2 := c2
  rw [Cs_o c2, sq_count hN c2, qI (show o_count R34_19 (nI (List.length [R34_14, R34_15, R34_16, R34_17, R34_18])) 1 = .inl 2 by decide +kernel), I_e, if_pos rfl]
  obtain ⟨h3, e3, c3⟩ := st_restore (N := M + 1) (by omega) c2
  rw [Cs_o c2, e3, I_e, if_pos (show R34_9 1 = 2 by decide +kernel)]
  replace c3 : Cs [] R34_9 [R34_14, R34_15, R34_16, R34_17, R34_18, R34_19] (some R34_9) [] h3 := c3
  rw [Cs_o c3, sq_juror hN c3, qI (show o_juror R34_9 0 0 = .inl 0 by decide +kernel), I_e, if_pos rfl]
  exact t_two_1203 hN c3
set_option maxRecDepth 20000 in
theorem t_two_1007 (hN : 2001 ≤ N) (cs : Cs [] R34_16 [R34_10, R34_11, R34_12, R34_13, R34_14, R34_15] (some R34_9) [] h) : ∃ h', FL_two_1007 N N 0 h = rI 1 h' := by
  obtain ⟨M, rfl⟩ : ∃ M, N = M + 1 := ⟨N - 1, by omega⟩
  rw [FL_two_1007]
  rw [cR_5 (a := 0) (b := 1990) (c := 0) (l := 0) hN cs okI9 (chkR_e (by decide +kernel)), cdI, I_e, if_pos rfl]
  obtain ⟨h1, e1, c1⟩ := sN_move (a := 0) (b := 104) (y9 := 1) (w := R34_17) hN cs (by decide +kernel)
  rw [Cs_o cs, e1, I_e, if_pos rfl]
  replace c1 : Cs [] R34_17 [R34_11, R34_12, R34_13, R34_14, R34_15, R34_16] (some R34_9) [] h1 := c1
  rw [Cs_o c1, sq_showing hN c1, qI (show o_showing R34_17 0 5 = .inl 2 by decide +kernel), I_e, if_pos rfl]
  rw [Cs_o c1, sq_count hN c1, qI (show o_count R34_17 (nI (List.length [R34_11, R34_12, R34_13, R34_14, R34_15, R34_16])) 6 = .inl (-1) by decide +kernel), I_e, if_pos rfl]
  rw [Cs_o c1, sq_filmOf hN c1, qI (show o_filmOf R34_17 0 5 = .inl 4 by decide +kernel), I_e, if_pos rfl]
  rw [Cs_o c1, sq_guestOf hN c1, qI (show o_guestOf R34_17 0 3 = .inl (-1) by decide +kernel), I_e, if_pos rfl]
  rw [Cs_o c1, sq_guestOf hN c1, qI (show o_guestOf R34_17 1 3 = .inl 0 by decide +kernel), I_e, if_pos rfl]
  obtain ⟨h2, e2, c2⟩ := sN_move (a := 0) (b := 100) (y9 := 0) (w := R34_18) hN c1 (by decide +kernel)
  rw [Cs_o c1, e2, I_e, if_pos rfl]
  replace c2 : Cs [] R34_18 [R34_12, R34_13, R34_14, R34_15, R34_16, R34_17] (some R34_9) [] h2 := c2
  obtain ⟨h3, e3, c3⟩ := sN_attend (a := 2) (b := 0) (y9 := 1) (w := R34_19) hN c2 (by decide +kernel)
  rw [Cs_o c2, e3, I_e, if_pos rfl]
  replace c3 : Cs [] R34_19 [R34_13, R34_14, R34_15, R34_16, R34_17, R34_18] (some R34_9) [] h3 := c3
  rw [Cs_o c3, sq_count hN c3, qI (show o_count R34_19 (nI (List.length [R34_13, R34_14, R34_15, R34_16, R34_17, R34_18])) 6 = .inl 0 by decide +kernel), I_e, if_pos rfl]
  exact t_two_1112 hN c3
set_option maxRecDepth 20000 in
theorem t_two_998 (hN : 2001 ≤ N) (cs : Cs [] R34_16 [R34_10, R34_11, R34_12, R34_13, R34_14, R34_15] (some R34_9) [] h) : ∃ h', FL_two_998 N N 0 h = rI 1 h' := by
  obtain ⟨M, rfl⟩ : ∃ M, N = M + 1 := ⟨N - 1, by omega⟩
  rw [FL_two_998]
  obtain ⟨h1, e1, c1⟩ := refused_e hN cs
  rw [e1, I_e, if_neg (by decide)]
  exact t_two_1007 hN c1
set_option maxRecDepth 20000 in
theorem t_two_895 (hN : 2001 ≤ N) (cs : Cs [] R34_14 [R34_7, R34_9, R34_10, R34_11, R34_12, R34_13] (some R34_9) [] h) : ∃ h', FL_two_895 N N 0 h = rI 1 h' := by
  obtain ⟨M, rfl⟩ : ∃ M, N = M + 1 := ⟨N - 1, by omega⟩
  rw [FL_two_895]
  obtain ⟨h1, e1, c1⟩ := sN_vote (a := 1) (b := 0) (x := 4) (y9 := 0) (w := R34_15) hN cs (by decide +kernel)
  rw [Cs_o cs, e1, I_e, if_pos rfl]
  replace c1 : Cs [] R34_15 [R34_9, R34_10, R34_11, R34_12, R34_13, R34_14] (some R34_9) [] h1 := c1
  obtain ⟨h2, e2, c2⟩ := sN_vote (a := 0) (b := 1) (x := 10) (y9 := 0) (w := R34_16) hN c1 (by decide +kernel)
  rw [Cs_o c1, e2, I_e, if_pos rfl]
  replace c2 : Cs [] R34_16 [R34_10, R34_11, R34_12, R34_13, R34_14, R34_15] (some R34_9) [] h2 := c2
  rw [Cs_o c2, sq_count hN c2, qI (show o_count R34_16 (nI (List.length [R34_10, R34_11, R34_12, R34_13, R34_14, R34_15])) 6 = .inl 0 by decide +kernel), I_e, if_pos rfl]
  rw [Cs_o c2, sq_filmOf hN c2, qI (show o_filmOf R34_16 0 5 = .inl 11 by decide +kernel), I_e, if_pos rfl]
  rw [Cs_o c2, sq_filmOf hN c2, qI (show o_filmOf R34_16 0 4 = .inl 3 by decide +kernel), I_e, if_pos rfl]
  rw [Cs_o c2, sq_filmOf hN c2, qI (show o_filmOf R34_16 1 4 = .inl 1 by decide +kernel), I_e, if_pos rfl]
  rw [Cs_o c2, sq_juror hN c2, qI (show o_juror R34_16 0 2 = .inl 17 by decide +kernel), I_e, if_pos rfl]
  rw [Cs_o c2, sq_juror hN c2, qI (show o_juror R34_16 0 1 = .inl 3 by decide +kernel), I_e, if_pos rfl]
  rw [Cs_o c2, sq_showing hN c2, qI (show o_showing R34_16 0 5 = .inl 3 by decide +kernel), I_e, if_pos rfl]
  rw [Cs_o c2, sq_count hN c2, qI (show o_count R34_16 (nI (List.length [R34_10, R34_11, R34_12, R34_13, R34_14, R34_15])) 4 = .inl 400 by decide +kernel), I_e, if_pos rfl]
  exact t_two_998 hN c2
set_option maxRecDepth 20000 in
theorem t_two_776 (hN : 2001 ≤ N) (cs : Cs [] R34_7 [R34_3, R34_4, R34_5, R34_6, R34_7, R34_8] none [] h) : ∃ h', FL_two_776 N N 0 h = rI 1 h' := by
  obtain ⟨M, rfl⟩ : ∃ M, N = M + 1 := ⟨N - 1, by omega⟩
  rw [FL_two_776]
  obtain ⟨h1, e1, c1⟩ := sN_show (a := 1) (b := 1) (x := 140) (y := 0) (y9 := 1) (w := R34_9) hN cs (by decide +kernel)
  rw [Cs_o cs, e1, I_e, if_pos rfl]
  replace c1 : Cs [] R34_9 [R34_4, R34_5, R34_6, R34_7, R34_8, R34_7] none [] h1 := c1
  obtain ⟨h2, e2, c2⟩ := st_keep c1
  rw [Cs_o c1, e2, I_e, if_pos (show R34_9 1 = 2 by decide +kernel)]
  obtain ⟨h3, e3, c3⟩ := sN_attend (a := 0) (b := 0) (y9 := 1) (w := R34_10) hN c2 (by decide +kernel)
  rw [Cs_o c2, e3, I_e, if_pos rfl]
  replace c3 : Cs [] R34_10 [R34_5, R34_6, R34_7, R34_8, R34_7, R34_9] (some R34_9) [] h3 := c3
  obtain ⟨h4, e4, c4⟩ := sN_attend (a := 0) (b := 1) (y9 := 2) (w := R34_11) hN c3 (by decide +kernel)
  rw [Cs_o c3, e4, I_e, if_pos rfl]
  replace c4 : Cs [] R34_11 [R34_6, R34_7, R34_8, R34_7, R34_9, R34_10] (some R34_9) [] h4 := c4
  rw [cR_7 (a := 0) (b := 1) (c := 0) (l := 0) hN c4 okI9 (chkR_e (by decide +kernel)), cdI, I_e, if_pos rfl]
  obtain ⟨h5, e5, c5⟩ := sN_set (a := 3) (b := 6) (y9 := 5) (w := R34_12) hN c4 (by decide +kernel)
  rw [Cs_o c4, e5, I_e, if_pos rfl]
  replace c5 : Cs [] R34_12 [R34_7, R34_8, R34_7, R34_9, R34_10, R34_11] (some R34_9) [] h5 := c5
  obtain ⟨h6, e6, c6⟩ := sN_attend (a := 1) (b := 0) (y9 := 1) (w := R34_13) hN c5 (by decide +kernel)
  rw [Cs_o c5, e6, I_e, if_pos rfl]
  replace c6 : Cs [] R34_13 [R34_8, R34_7, R34_9, R34_10, R34_11, R34_12] (some R34_9) [] h6 := c6
  rw [cR_7 (a := 1) (b := 1) (c := 0) (l := 0) hN c6 okI9 (chkR_e (by decide +kernel)), cdI, I_e, if_pos rfl]
  rw [cR_8 (a := 1) (b := 1) (c := 5) (l := 0) hN c6 okI9 (chkR_e (by decide +kernel)), cdI, I_e, if_pos rfl]
  obtain ⟨h7, e7, c7⟩ := sN_vote (a := 0) (b := 0) (x := 7) (y9 := 0) (w := R34_14) hN c6 (by decide +kernel)
  rw [Cs_o c6, e7, I_e, if_pos rfl]
  replace c7 : Cs [] R34_14 [R34_7, R34_9, R34_10, R34_11, R34_12, R34_13] (some R34_9) [] h7 := c7
  exact t_two_895 hN c7
set_option maxRecDepth 20000 in
theorem t_two_732 (hN : 2001 ≤ N) (cs : Cs [] R34_7 [R34_1, R34_2, R34_3, R34_4, R34_5, R34_6] none [] h) : ∃ h', FL_two_732 N N 0 h = rI 1 h' := by
  obtain ⟨M, rfl⟩ : ∃ M, N = M + 1 := ⟨N - 1, by omega⟩
  rw [FL_two_732]
  obtain ⟨h1, e1, c1⟩ := sN_set (a := 2) (b := 9) (y9 := 10) (w := R34_8) hN cs (by decide +kernel)
  rw [Cs_o cs, e1, I_e, if_pos rfl]
  replace c1 : Cs [] R34_8 [R34_2, R34_3, R34_4, R34_5, R34_6, R34_7] none [] h1 := c1
  rw [Cs_o c1, sq_guestOf hN c1, qI (show o_guestOf R34_8 2 3 = .inl 0 by decide +kernel), I_e, if_pos rfl]
  obtain ⟨h2, e2, c2⟩ := sN_set (a := 2) (b := 10) (y9 := 9) (w := R34_7) hN c1 (by decide +kernel)
  rw [Cs_o c1, e2, I_e, if_pos rfl]
  replace c2 : Cs [] R34_7 [R34_3, R34_4, R34_5, R34_6, R34_7, R34_8] none [] h2 := c2
  rw [Cs_o c2, sq_count hN c2, qI (show o_count R34_7 (nI (List.length [R34_3, R34_4, R34_5, R34_6, R34_7, R34_8])) 3 = .inl 1 by decide +kernel), I_e, if_pos rfl]
  exact t_two_776 hN c2
set_option maxRecDepth 20000 in
theorem t_two_615 (hN : 2001 ≤ N) (cs : Cs [] R34_4 [R34_0, R34_1, R34_2, R34_3] none [] h) : ∃ h', FL_two_615 N N 0 h = rI 1 h' := by
  obtain ⟨M, rfl⟩ : ∃ M, N = M + 1 := ⟨N - 1, by omega⟩
  rw [FL_two_615]
  obtain ⟨h1, e1, c1⟩ := sN_guest (a := 0) (b := 130) (x := 145) (y9 := 0) (w := R34_5) hN cs (by decide +kernel)
  rw [Cs_o cs, e1, I_e, if_pos rfl]
  replace c1 : Cs [] R34_5 [R34_0, R34_1, R34_2, R34_3, R34_4] none [] h1 := c1
  obtain ⟨h2, e2, c2⟩ := sN_guest (a := 0) (b := 136) (x := 300) (y9 := 1) (w := R34_6) hN c1 (by decide +kernel)
  rw [Cs_o c1, e2, I_e, if_pos rfl]
  replace c2 : Cs [] R34_6 [R34_0, R34_1, R34_2, R34_3, R34_4, R34_5] none [] h2 := c2
  obtain ⟨h3, e3, c3⟩ := sN_guest (a := 0) (b := 135) (x := 144) (y9 := 2) (w := R34_7) hN c2 (by decide +kernel)
  rw [Cs_o c2, e3, I_e, if_pos rfl]
  replace c3 : Cs [] R34_7 [R34_1, R34_2, R34_3, R34_4, R34_5, R34_6] none [] h3 := c3
  rw [Cs_o c3, sq_guestOf hN c3, qI (show o_guestOf R34_7 0 3 = .inl 0 by decide +kernel), I_e, if_pos rfl]
  rw [Cs_o c3, sq_guestOf hN c3, qI (show o_guestOf R34_7 1 3 = .inl (-1) by decide +kernel), I_e, if_pos rfl]
  rw [Cs_o c3, sq_guestOf hN c3, qI (show o_guestOf R34_7 2 3 = .inl (-1) by decide +kernel), I_e, if_pos rfl]
  rw [Cs_o c3, sq_count hN c3, qI (show o_count R34_7 (nI (List.length [R34_1, R34_2, R34_3, R34_4, R34_5, R34_6])) 3 = .inl 1 by decide +kernel), I_e, if_pos rfl]
  rw [Cs_o c3, sq_ifShown hN c3, qI (show o_ifShown R34_7 0 1 125 = .inl 1 by decide +kernel), I_e, if_pos rfl]
  rw [Cs_o c3, sq_ifShown hN c3, qI (show o_ifShown R34_7 0 1 120 = .inl (-1) by decide +kernel), I_e, if_pos rfl]
  rw [Cs_o c3, sq_ifShown hN c3, qI (show o_ifShown R34_7 1 1 125 = .inl 0 by decide +kernel), I_e, if_pos rfl]
  exact t_two_732 hN c3
set_option maxRecDepth 20000 in
theorem t_two_508 (hN : 2001 ≤ N) (cs : Cs [] R34_3 [R34_0, R34_1, R34_2] none [] h) : ∃ h', FL_two_508 N N 0 h = rI 1 h' := by
  obtain ⟨M, rfl⟩ : ∃ M, N = M + 1 := ⟨N - 1, by omega⟩
  rw [FL_two_508]
  rw [Cs_o cs, sq_bestScreen hN cs, qI (show o_bestScreen R34_3 0 81 = .inl 2 by decide +kernel), I_e, if_pos rfl]
  obtain ⟨h1, e1, c1⟩ := sN_seats (a := 1) (b := 300) (y9 := 200) (w := R34_4) hN cs (by decide +kernel)
  rw [Cs_o cs, e1, I_e, if_pos rfl]
  replace c1 : Cs [] R34_4 [R34_0, R34_1, R34_2, R34_3] none [] h1 := c1
  rw [Cs_o c1, sq_bestScreen hN c1, qI (show o_bestScreen R34_4 1 60 = .inl 1 by decide +kernel), I_e, if_pos rfl]
  rw [Cs_o c1, sq_whyNot hN c1, qI (show o_whyNot R34_4 1 2 1961 0 0 = .inl 2 by decide +kernel), I_e, if_pos rfl]
  rw [Cs_o c1, sq_whyNot hN c1, qI (show o_whyNot R34_4 1 2 1960 1 0 = .inl 2 by decide +kernel), I_e, if_pos rfl]
  rw [Cs_o c1, sq_nextStart hN c1, qI (show o_nextStart R34_4 1 2 1961 = .inl (-1) by decide +kernel), I_e, if_pos rfl]
  rw [Cs_o c1, sq_bestScreen hN c1, qI (show o_bestScreen R34_4 1 1961 = .inl (-1) by decide +kernel), I_e, if_pos rfl]
  rw [Cs_o c1, sq_whyNot hN c1, qI (show o_whyNot R34_4 1 2 1960 0 0 = .inl 0 by decide +kernel), I_e, if_pos rfl]
  exact t_two_615 hN c1
set_option maxRecDepth 20000 in
theorem t_two_382 (hN : 2001 ≤ N) (cs : Cs [] R34_3 [R34_0, R34_1, R34_2] none [] h) : ∃ h', FL_two_382 N N 0 h = rI 1 h' := by
  obtain ⟨M, rfl⟩ : ∃ M, N = M + 1 := ⟨N - 1, by omega⟩
  rw [FL_two_382]
  rw [Cs_o cs, sq_whyNot hN cs, qI (show o_whyNot R34_3 0 1 119 0 2 = .inl 0 by decide +kernel), I_e, if_pos rfl]
  rw [Cs_o cs, sq_whyNot hN cs, qI (show o_whyNot R34_3 0 1 125 0 0 = .inl 0 by decide +kernel), I_e, if_pos rfl]
  rw [Cs_o cs, sq_whyNot hN cs, qI (show o_whyNot R34_3 0 1 120 5 0 = .inl 0 by decide +kernel), I_e, if_pos rfl]
  rw [Cs_o cs, sq_whyNot hN cs, qI (show o_whyNot R34_3 0 1 80 0 0 = .inl 0 by decide +kernel), I_e, if_pos rfl]
  rw [Cs_o cs, sq_whyNot hN cs, qI (show o_whyNot R34_3 0 2 81 0 2 = .inl 0 by decide +kernel), I_e, if_pos rfl]
  rw [Cs_o cs, sq_whyNot hN cs, qI (show o_whyNot R34_3 1 1 100 0 0 = .inl 0 by decide +kernel), I_e, if_pos rfl]
  rw [Cs_o cs, sq_nextStart hN cs, qI (show o_nextStart R34_3 0 1 81 = .inl 125 by decide +kernel), I_e, if_pos rfl]
  rw [Cs_o cs, sq_nextStart hN cs, qI (show o_nextStart R34_3 0 1 0 = .inl 0 by decide +kernel), I_e, if_pos rfl]
  rw [Cs_o cs, sq_nextStart hN cs, qI (show o_nextStart R34_3 1 0 60 = .inl 150 by decide +kernel), I_e, if_pos rfl]
  rw [Cs_o cs, sq_bestScreen hN cs, qI (show o_bestScreen R34_3 1 60 = .inl 2 by decide +kernel), I_e, if_pos rfl]
  exact t_two_508 hN cs
set_option maxRecDepth 20000 in
theorem t_two_242 (hN : 2001 ≤ N) (cs : Cs [] R34_3 [R34_0, R34_1, R34_2] none [] h) : ∃ h', FL_two_242 N N 0 h = rI 1 h' := by
  obtain ⟨M, rfl⟩ : ∃ M, N = M + 1 := ⟨N - 1, by omega⟩
  rw [FL_two_242]
  rw [Cs_o cs, sq_whyNot hN cs, qI (show o_whyNot R34_3 1 0 149 0 0 = .inl 3 by decide +kernel), I_e, if_pos rfl]
  rw [Cs_o cs, sq_whyNot hN cs, qI (show o_whyNot R34_3 1 0 149 0 1 = .inl 0 by decide +kernel), I_e, if_pos rfl]
  rw [Cs_o cs, sq_whyNot hN cs, qI (show o_whyNot R34_3 1 0 149 0 2 = .inl (-1) by decide +kernel), I_e, if_pos rfl]
  rw [Cs_o cs, sq_whyNot hN cs, qI (show o_whyNot R34_3 1 0 150 0 0 = .inl 0 by decide +kernel), I_e, if_pos rfl]
  rw [Cs_o cs, sq_whyNot hN cs, qI (show o_whyNot R34_3 1 0 46 0 0 = .inl 3 by decide +kernel), I_e, if_pos rfl]
  rw [Cs_o cs, sq_whyNot hN cs, qI (show o_whyNot R34_3 1 0 45 0 0 = .inl 0 by decide +kernel), I_e, if_pos rfl]
  rw [Cs_o cs, sq_whyNot hN cs, qI (show o_whyNot R34_3 1 0 44 2 0 = .inl 3 by decide +kernel), I_e, if_pos rfl]
  rw [Cs_o cs, sq_whyNot hN cs, qI (show o_whyNot R34_3 0 1 120 0 0 = .inl 4 by decide +kernel), I_e, if_pos rfl]
  rw [Cs_o cs, sq_whyNot hN cs, qI (show o_whyNot R34_3 0 1 120 0 1 = .inl 0 by decide +kernel), I_e, if_pos rfl]
  rw [Cs_o cs, sq_whyNot hN cs, qI (show o_whyNot R34_3 0 1 120 0 2 = .inl 2 by decide +kernel), I_e, if_pos rfl]
  exact t_two_382 hN cs
set_option maxRecDepth 20000 in
theorem t_two_217 (hN : 2001 ≤ N) (cs : Cs [] R34_3 [R34_0, R34_1, R34_2] none [] h) : ∃ h', FL_two_217 N N 0 h = rI 1 h' := by
  obtain ⟨M, rfl⟩ : ∃ M, N = M + 1 := ⟨N - 1, by omega⟩
  rw [FL_two_217]
  rw [Cs_o cs, sq_runs hN cs, qI (show o_runs R34_3 0 135 = .inl (-1) by decide +kernel), I_e, if_pos rfl]
  rw [Cs_o cs, sq_runs hN cs, qI (show o_runs R34_3 1 110 = .inl (-1) by decide +kernel), I_e, if_pos rfl]
  exact t_two_242 hN cs
set_option maxRecDepth 20000 in
theorem t_two_105 (hN : 2001 ≤ N) (cs : Cs [] R34_2 [R34_0, R34_1] none [] h) : ∃ h', FL_two_105 N N 0 h = rI 1 h' := by
  obtain ⟨M, rfl⟩ : ∃ M, N = M + 1 := ⟨N - 1, by omega⟩
  rw [FL_two_105]
  obtain ⟨h1, e1, c1⟩ := sN_show (a := 0) (b := 0) (x := 100) (y := 5) (y9 := 0) (w := R34_3) hN cs (by decide +kernel)
  rw [Cs_o cs, e1, I_e, if_pos rfl]
  replace c1 : Cs [] R34_3 [R34_0, R34_1, R34_2] none [] h1 := c1
  rw [Cs_o c1, sq_showing hN c1, qI (show o_showing R34_3 0 3 = .inl 135 by decide +kernel), I_e, if_pos rfl]
  rw [Cs_o c1, sq_reel hN c1, qI (show o_reel R34_3 0 1 = .inl 110 by decide +kernel), I_e, if_pos rfl]
  rw [Cs_o c1, sq_reel hN c1, qI (show o_reel R34_3 0 2 = .inl 125 by decide +kernel), I_e, if_pos rfl]
  rw [Cs_o c1, sq_reel hN c1, qI (show o_reel R34_3 0 3 = .inl (-1) by decide +kernel), I_e, if_pos rfl]
  rw [Cs_o c1, sq_runs hN c1, qI (show o_runs R34_3 0 119 = .inl 1 by decide +kernel), I_e, if_pos rfl]
  rw [Cs_o c1, sq_runs hN c1, qI (show o_runs R34_3 0 120 = .inl (-1) by decide +kernel), I_e, if_pos rfl]
  rw [Cs_o c1, sq_runs hN c1, qI (show o_runs R34_3 0 124 = .inl (-1) by decide +kernel), I_e, if_pos rfl]
  rw [Cs_o c1, sq_runs hN c1, qI (show o_runs R34_3 0 125 = .inl 2 by decide +kernel), I_e, if_pos rfl]
  rw [Cs_o c1, sq_runs hN c1, qI (show o_runs R34_3 0 134 = .inl 2 by decide +kernel), I_e, if_pos rfl]
  exact t_two_217 hN c1
set_option maxRecDepth 20000 in
theorem t_two (hN : 2001 ≤ N) : ∃ h', FL_two N [] = rI 1 h' := by
  unfold FL_two
  rw [nw_e (b := 0) rfl cl_nil (fun r hr => by simp at hr) (by decide)]
  rw [jf_lv_eq (fun r hr => by
    simp only [List.mem_cons, List.not_mem_nil, or_false] at hr
    subst hr
    exact Or.inl (by decide))]
  rw [show ([] ++ [(.inr (3, [.null, .null, .null, .null, .null, .int 0, .int 0, .int 0]) : jm_C)] : jm_H) = [oC .null .null .null .null .null] from rfl, X3_init (by omega), cV_e]
  have cs := Cs_0
  rw [cR_12 (a := 0) (b := 0) (c := 0) (l := 0) cs, I_e, if_pos rfl]
  rw [cR_13 (a := 0) (b := 0) (c := 0) (l := 0) cs, I_e, if_pos rfl]
  rw [Cs_o cs, sq_count hN cs, qI (show o_count R34_0 (nI (List.length [])) 6 = .inl (-1) by decide +kernel), I_e, if_pos rfl]
  rw [Cs_o cs, sq_stopped hN cs, qI (show o_stopped R34_0 0 = .inl (-1) by decide +kernel), I_e, if_pos rfl]
  rw [Cs_o cs, sq_screen hN cs, qI (show o_screen R34_0 0 4 = .inl (-1) by decide +kernel), I_e, if_pos rfl]
  rw [Cs_o cs, use_0 hN cs (by decide +kernel), D_e, if_pos (show (Op.cmpValue (FP.dcmp (dsh 0) FP.dconst0) .l) = 0 by decide +kernel)]
  obtain ⟨h1, e1, c1⟩ := refused_e hN cs
  rw [e1, I_e, if_neg (by decide)]
  obtain ⟨h2, e2, c2⟩ := sN_film (a := 3) (b := 10) (y9 := 0) (w := R34_1) hN c1 (by decide +kernel)
  rw [Cs_o c1, e2, I_e, if_pos rfl]
  replace c2 : Cs [] R34_1 [R34_0] none [] h2 := c2
  obtain ⟨h3, e3, c3⟩ := sN_film (a := 2) (b := 20) (y9 := 1) (w := R34_2) hN c2 (by decide +kernel)
  rw [Cs_o c2, e3, I_e, if_pos rfl]
  replace c3 : Cs [] R34_2 [R34_0, R34_1] none [] h3 := c3
  exact t_two_105 hN c3
end CO

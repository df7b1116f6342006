/-! P34: texts -/
section CO
variable {N : Nat} {h : jm_H}
theorem e7 {k : Nat} (hk : 1 ≤ k) : errAt (litB (List.replicate k 55)) zR (List.replicate k (55 : Int32)).length (if k = 1 then 1 else 1) := by
  have g : ∀ i, i < k → litB (List.replicate k 55) i = 55 := fun i hi => by
    show (List.replicate k (55 : Int32)).getD i 0 = 55
    rw [List.getD_eq_getElem?_getD, List.getElem?_replicate_of_lt hi]
    rfl
  have r1 : ∀ i, i < k → rS (litB (List.replicate k 55)) zR (i + 1) = gk (rS (litB (List.replicate k 55)) zR i) 55 := fun i hi => by rw [rS_s, g i hi]
  rw [ite_self]
  refine ⟨by rw [List.length_replicate]; exact hk, fun x hx => ?_, fun hx => ?_⟩
  · have : x = 0 := by omega
    subst this
    rw [g 0 (by omega)]
    show tk zR 55 = 1
    decide +kernel
  · rw [List.length_replicate] at hx
    rw [g 1 hx, r1 0 (by omega)]
    show tk (gk zR 55) 55 = 0
    decide +kernel
theorem rep_1 (k : Nat) : List.replicate k (55 : Int32) ++ [nI 55] = List.replicate (k + 1) 55 := by
  rw [List.replicate_succ']
  rfl
theorem kTx {kc ks : Nat} {r : Option jm_X} (h : kc ≤ 1124 ∧ ks ≤ 9279) : jf_k M_L_texts kc ks r = r := k_ok ⟨Nat.le_trans h.1 (Nat.le_of_ble_eq_true rfl), Nat.le_trans h.2 (Nat.le_of_ble_eq_true rfl)⟩
theorem t_543_s (hN : 2001 ≤ N) {n k : Nat} (hk : k < 60) (cs : Cs [] R34_58 [R34_0, R34_53, R34_54, R34_55, R34_57] none (List.replicate k 55) h) : ∃ h', FL_texts_543 N (n + 1) (882 + 2 * k) (7827 + 12 * k) 0 (nI k) h = FL_texts_543 N n (882 + 2 * (k + 1)) (7827 + 12 * (k + 1)) 0 (nI (k + 1)) h' ∧ Cs [] R34_58 [R34_0, R34_53, R34_54, R34_55, R34_57] none (List.replicate (k + 1) 55) h' := by
  obtain ⟨h1, e1, c1⟩ := st_append (a := 55) (by decide) (by rw [List.length_replicate]; exact hk) cs
  rw [rep_1] at c1
  have he := e7 (k := k + 1) (by omega)
  rw [ite_self] at he
  obtain ⟨h2, e2, c2⟩ := st_first hN he c1
  refine ⟨h2, ?_, c2⟩
  rw [FL_texts_543, kTx (by omega), if_neg (show ¬ (60 : Int32) ≤ nI k from nI_ge (b := 60) hk (by decide)), kTx (by omega), Cs_o cs, show (55 : Int32) = nI 55 from rfl, e1, I_e, List.length_replicate, nI_1, if_pos rfl, Cs_o c1, e2, I_e, if_pos (show nI 1 = 1 from rfl), show 882 + 2 * (k + 1) = 882 + 2 * k + 2 by omega, show 7827 + 12 * (k + 1) = 7827 + 12 * k + 12 by omega]
theorem t_543_l (hN : 2001 ≤ N) : ∀ (d n k : Nat) (h : jm_H), k + d = 60 → d < n → Cs [] R34_58 [R34_0, R34_53, R34_54, R34_55, R34_57] none (List.replicate k 55) h → ∃ h' n', FL_texts_543 N n (882 + 2 * k) (7827 + 12 * k) 0 (nI k) h = FL_texts_543 N (n' + 1) (882 + 2 * 60) (7827 + 12 * 60) 0 (nI 60) h' ∧ Cs [] R34_58 [R34_0, R34_53, R34_54, R34_55, R34_57] none (List.replicate 60 55) h'
  | 0, n, k, h, hk, hn, cs => by
    obtain ⟨n, rfl⟩ : ∃ m, n = m + 1 := ⟨n - 1, by omega⟩
    have : k = 60 := by omega
    subst this
    exact ⟨h, n, rfl, cs⟩
  | d + 1, n, k, h, hk, hn, cs => by
    obtain ⟨n, rfl⟩ : ∃ m, n = m + 1 := ⟨n - 1, by omega⟩
    obtain ⟨h1, e1, c1⟩ := t_543_s (n := n) hN (by omega) cs
    rw [e1]
    exact t_543_l hN d n (k + 1) h1 (by omega) (by omega) c1
set_option maxRecDepth 20000 in
theorem t_texts_543 (hN : 2001 ≤ N) (cs : Cs [] R34_58 [R34_0, R34_53, R34_54, R34_55, R34_57] none [] h) : ∃ h', FL_texts_543 N N 882 7827 0 0 h = rI 1 h' := by
  obtain ⟨h1, n, e1, c1⟩ := t_543_l hN 60 N 0 h (by omega) (by omega) cs
  rw [show FL_texts_543 N N 882 7827 0 0 h = FL_texts_543 N N (882 + 2 * 0) (7827 + 12 * 0) 0 (nI 0) h from rfl, e1, FL_texts_543, kTx (by decide), if_pos (by decide), w_ok (by decide)]
  rw [cR_9I (a := 59) (b := 0) (c := 0) (l := 0) c1 (by decide) (by decide), I_e, if_pos rfl]
  obtain ⟨h2, e2, c2⟩ := cR_10E (a := 0) (b := 0) (c := 0) (l := 0) (j := 1) hN (by unfold errAt; decide +kernel) (by decide) c1
  rw [e2, I_e, if_pos rfl]
  obtain ⟨h3, e3, c3⟩ := st_clear c2
  rw [Cs_o c2, e3, I_e, if_pos (show nI (List.length (List.replicate 60 (55 : Int32))) = 60 from rfl)]
  exact ⟨_, rfl⟩
set_option maxRecDepth 20000 in
theorem t_texts_521 (hN : 2001 ≤ N) (cs : Cs [] R34_58 [R34_0, R34_53, R34_54, R34_55, R34_57] none [] h) : ∃ h', FL_texts_521 N N 0 h = rI 1 h' := by
  obtain ⟨M, rfl⟩ : ∃ M, N = M + 1 := ⟨N - 1, by omega⟩
  rw [FL_texts_521]
  rw [Cs_o cs, sq_stopped hN cs, qI (show o_stopped R34_58 1 = .inl 3 by decide +kernel), I_e, if_pos rfl]
  rw [Cs_o cs, sq_stopped hN cs, qI (show o_stopped R34_58 2 = .inl 1 by decide +kernel), I_e, if_pos rfl]
  exact t_texts_543 hN cs
set_option maxRecDepth 20000 in
theorem t_texts_435 (hN : 2001 ≤ N) (cs : Cs [] R34_56 [R34_0, R34_53, R34_54, R34_55] none [] h) : ∃ h', FL_texts_435 N N 0 h = rI 1 h' := by
  obtain ⟨M, rfl⟩ : ∃ M, N = M + 1 := ⟨N - 1, by omega⟩
  rw [FL_texts_435]
  rw [Cs_o cs, sq_stopped hN cs, qI (show o_stopped R34_56 2 = .inl (-1) by decide +kernel), I_e, if_pos rfl]
  rw [Cs_o cs, sq_count hN cs, qI (show o_count R34_56 (nI (List.length [R34_0, R34_53, R34_54, R34_55])) 1 = .inl 3 by decide +kernel), I_e, if_pos rfl]
  obtain ⟨h1, e1, c1⟩ := st_undo (S := [R34_0, R34_53, R34_54]) (w := R34_55) (v := R34_56) cs
  rw [Cs_o cs, e1, I_e, if_pos (show nI (List.length [R34_0, R34_53, R34_54]) = 3 from rfl)]
  replace c1 : Cs [] R34_55 [R34_0, R34_53, R34_54] none [] h1 := c1
  rw [Cs_o c1, sq_stopped hN c1, qI (show o_stopped R34_55 1 = .inl 5 by decide +kernel), I_e, if_pos rfl]
  obtain ⟨h2, e2, c2⟩ := types_e (l := 3472049089011070513) (L := [48, 47, 50, 64, 49, 57, 54, 49]) hN (by decide +kernel) (by unfold okCh; decide +kernel) (by decide) c1
  rw [e2, I_e, if_neg (by decide)]
  replace c2 : Cs [] R34_55 [R34_0, R34_53, R34_54] none ([48, 47, 50, 64, 49, 57, 54, 49] : List Int32) h2 := c2
  obtain ⟨h3, e3, c3⟩ := st_prog (l := (litB [0, 2, 1961, 0])) (d := 0) (y9 := 0) (w := R34_57) hN (by unfold errAt; decide +kernel) (Pt_0 ⟨by decide, rng (by decide +kernel), by decide +kernel, ⟨okA_i (f := 0) (c := 2) (a := 1961) (p := 0) ⟨by decide +kernel, by decide, by decide +kernel, by decide, by decide +kernel, by decide, by decide +kernel, by decide⟩, Or.inl (by decide +kernel)⟩, by decide⟩) (by decide +kernel) c2
  rw [Cs_o c2, e3, I_e, if_pos rfl]
  replace c3 : Cs [] R34_57 [R34_0, R34_53, R34_54, R34_55] none [] h3 := c3
  rw [Cs_o c3, sq_stopped hN c3, qI (show o_stopped R34_57 1 = .inl 2 by decide +kernel), I_e, if_pos rfl]
  rw [Cs_o c3, sq_stopped hN c3, qI (show o_stopped R34_57 0 = .inl 0 by decide +kernel), I_e, if_pos rfl]
  obtain ⟨h4, e4, c4⟩ := types_e (l := 13562687459046201) (L := [48, 47, 49, 64, 50, 51, 57]) hN (by decide +kernel) (by unfold okCh; decide +kernel) (by decide) c3
  rw [e4, I_e, if_neg (by decide)]
  replace c4 : Cs [] R34_57 [R34_0, R34_53, R34_54, R34_55] none ([48, 47, 49, 64, 50, 51, 57] : List Int32) h4 := c4
  obtain ⟨h5, e5, c5⟩ := st_prog (l := (litB [0, 1, 239, 0])) (d := 0) (y9 := 0) (w := R34_58) hN (by unfold errAt; decide +kernel) (Pt_0 ⟨by decide, rng (by decide +kernel), by decide +kernel, ⟨okA_i (f := 0) (c := 1) (a := 239) (p := 0) ⟨by decide +kernel, by decide, by decide +kernel, by decide, by decide +kernel, by decide, by decide +kernel, by decide⟩, Or.inl (by decide +kernel)⟩, by decide⟩) (by decide +kernel) c4
  rw [Cs_o c4, e5, I_e, if_pos rfl]
  replace c5 : Cs [] R34_58 [R34_0, R34_53, R34_54, R34_55, R34_57] none [] h5 := c5
  exact t_texts_521 hN c5
set_option maxRecDepth 20000 in
theorem t_texts_345 (hN : 2001 ≤ N) (cs : Cs [] R34_54 [R34_0, R34_53] none [] h) : ∃ h', FL_texts_345 N N 0 h = rI 1 h' := by
  obtain ⟨M, rfl⟩ : ∃ M, N = M + 1 := ⟨N - 1, by omega⟩
  rw [FL_texts_345]
  rw [Cs_o cs, sq_stopped hN cs, qI (show o_stopped R34_54 2 = .inl 0 by decide +kernel), I_e, if_pos rfl]
  obtain ⟨h1, e1, c1⟩ := types_e (l := 3472047989515628603) (L := [48, 47, 49, 64, 50, 48, 48, 59]) hN (by decide +kernel) (by unfold okCh; decide +kernel) (by decide) cs
  rw [e1, I_e, if_neg (by decide)]
  replace c1 : Cs [] R34_54 [R34_0, R34_53] none ([48, 47, 49, 64, 50, 48, 48, 59] : List Int32) h1 := c1
  obtain ⟨h2, e2, c2⟩ := types_e (l := 13844166730919984) (L := [49, 47, 50, 64, 53, 48, 48]) hN (by decide +kernel) (by unfold okCh; decide +kernel) (by decide) c1
  rw [e2, I_e, if_neg (by decide)]
  replace c2 : Cs [] R34_54 [R34_0, R34_53] none ([48, 47, 49, 64, 50, 48, 48, 59, 49, 47, 50, 64, 53, 48, 48] : List Int32) h2 := c2
  obtain ⟨h3, e3, c3⟩ := st_prog (l := (litB [0, 1, 200, 0, 1, 2, 500, 0])) (d := 1) (y9 := 1) (w := R34_55) hN (by unfold errAt; decide +kernel) (Pt_S ⟨7, by decide, by decide, rng (by decide +kernel), by decide +kernel, by decide +kernel, ⟨okA_i (f := 0) (c := 1) (a := 200) (p := 0) ⟨by decide +kernel, by decide, by decide +kernel, by decide, by decide +kernel, by decide, by decide +kernel, by decide⟩, Or.inl (by decide +kernel)⟩, by decide, (Pt_0 ⟨by decide, rng (by decide +kernel), by decide +kernel, ⟨okA_i (f := 1) (c := 2) (a := 500) (p := 0) ⟨by decide +kernel, by decide, by decide +kernel, by decide, by decide +kernel, by decide, by decide +kernel, by decide⟩, Or.inl (by decide +kernel)⟩, by decide⟩)⟩) (by decide +kernel) c2
  rw [Cs_o c2, e3, I_e, if_pos rfl]
  replace c3 : Cs [] R34_55 [R34_0, R34_53, R34_54] none [] h3 := c3
  rw [Cs_o c3, sq_stopped hN c3, qI (show o_stopped R34_55 0 = .inl 1 by decide +kernel), I_e, if_pos rfl]
  rw [Cs_o c3, sq_stopped hN c3, qI (show o_stopped R34_55 1 = .inl 5 by decide +kernel), I_e, if_pos rfl]
  rw [Cs_o c3, sq_stopped hN c3, qI (show o_stopped R34_55 2 = .inl (-1) by decide +kernel), I_e, if_pos rfl]
  obtain ⟨h4, e4, c4⟩ := types_e (l := 13562691754078256) (L := [48, 47, 50, 64, 51, 48, 48]) hN (by decide +kernel) (by unfold okCh; decide +kernel) (by decide) c3
  rw [e4, I_e, if_neg (by decide)]
  replace c4 : Cs [] R34_55 [R34_0, R34_53, R34_54] none ([48, 47, 50, 64, 51, 48, 48] : List Int32) h4 := c4
  obtain ⟨h5, e5, c5⟩ := st_prog (l := (litB [0, 2, 300, 0])) (d := 0) (y9 := 1) (w := R34_56) hN (by unfold errAt; decide +kernel) (Pt_0 ⟨by decide, rng (by decide +kernel), by decide +kernel, ⟨okA_i (f := 0) (c := 2) (a := 300) (p := 0) ⟨by decide +kernel, by decide, by decide +kernel, by decide, by decide +kernel, by decide, by decide +kernel, by decide⟩, Or.inl (by decide +kernel)⟩, by decide⟩) (by decide +kernel) c4
  rw [Cs_o c4, e5, I_e, if_pos rfl]
  replace c5 : Cs [] R34_56 [R34_0, R34_53, R34_54, R34_55] none [] h5 := c5
  rw [Cs_o c5, sq_stopped hN c5, qI (show o_stopped R34_56 0 = .inl (-1) by decide +kernel), I_e, if_pos rfl]
  exact t_texts_435 hN c5
set_option maxRecDepth 20000 in
theorem t_texts_254 (hN : 2001 ≤ N) (cs : Cs [] R34_0 [] none ([97] : List Int32) h) : ∃ h', FL_texts_254 N N 0 h = rI 1 h' := by
  obtain ⟨M, rfl⟩ : ∃ M, N = M + 1 := ⟨N - 1, by omega⟩
  rw [FL_texts_254]
  obtain ⟨h1, e1, c1⟩ := st_clear cs
  rw [Cs_o cs, e1, I_e, if_pos (show nI (List.length ([97] : List Int32)) = 1 from rfl)]
  obtain ⟨h2, e2, c2⟩ := sN_film (a := 2) (b := 20) (y9 := 0) (w := R34_53) hN c1 (by decide +kernel)
  rw [Cs_o c1, e2, I_e, if_pos rfl]
  replace c2 : Cs [] R34_53 [R34_0] none [] h2 := c2
  obtain ⟨h3, e3, c3⟩ := types_e (l := 3472046889987223611) (L := [48, 47, 48, 64, 49, 48, 48, 59]) hN (by decide +kernel) (by unfold okCh; decide +kernel) (by decide) c2
  rw [e3, I_e, if_neg (by decide)]
  replace c3 : Cs [] R34_53 [R34_0] none ([48, 47, 48, 64, 49, 48, 48, 59] : List Int32) h3 := c3
  obtain ⟨h4, e4, c4⟩ := types_e (l := 3472047989498852651) (L := [48, 47, 49, 64, 49, 48, 53, 43]) hN (by decide +kernel) (by unfold okCh; decide +kernel) (by decide) c3
  rw [e4, I_e, if_neg (by decide)]
  replace c4 : Cs [] R34_53 [R34_0] none ([48, 47, 48, 64, 49, 48, 48, 59, 48, 47, 49, 64, 49, 48, 53, 43] : List Int32) h4 := c4
  obtain ⟨h5, e5, c5⟩ := types_e (l := 4123942863035707696) (L := [57, 59, 48, 47, 49, 64, 49, 48]) hN (by decide +kernel) (by unfold okCh; decide +kernel) (by decide) c4
  rw [e5, I_e, if_neg (by decide)]
  replace c5 : Cs [] R34_53 [R34_0] none ([48, 47, 48, 64, 49, 48, 48, 59, 48, 47, 49, 64, 49, 48, 53, 43, 57, 59, 48, 47, 49, 64, 49, 48] : List Int32) h5 := c5
  obtain ⟨h6, e6, c6⟩ := types_e (l := 53) (L := [53]) hN (by decide +kernel) (by unfold okCh; decide +kernel) (by decide) c5
  rw [e6, I_e, if_neg (by decide)]
  replace c6 : Cs [] R34_53 [R34_0] none ([48, 47, 48, 64, 49, 48, 48, 59, 48, 47, 49, 64, 49, 48, 53, 43, 57, 59, 48, 47, 49, 64, 49, 48, 53] : List Int32) h6 := c6
  obtain ⟨h7, e7, c7⟩ := st_prog (l := (litB [0, 0, 100, 0, 0, 1, 105, 9, 0, 1, 105, 0])) (d := 2) (y9 := 1) (w := R34_54) hN (by unfold errAt; decide +kernel) (Pt_S ⟨7, by decide, by decide, rng (by decide +kernel), by decide +kernel, by decide +kernel, ⟨okA_i (f := 0) (c := 0) (a := 100) (p := 0) ⟨by decide +kernel, by decide, by decide +kernel, by decide, by decide +kernel, by decide, by decide +kernel, by decide⟩, Or.inl (by decide +kernel)⟩, by decide, (Pt_S ⟨17, by decide, by decide, rng (by decide +kernel), by decide +kernel, by decide +kernel, ⟨okA_i (f := 0) (c := 1) (a := 105) (p := 9) ⟨by decide +kernel, by decide, by decide +kernel, by decide, by decide +kernel, by decide, by decide +kernel, by decide⟩, Or.inr (by decide +kernel)⟩, by decide, (Pt_0 ⟨by decide, rng (by decide +kernel), by decide +kernel, ⟨okA_i (f := 0) (c := 1) (a := 105) (p := 0) ⟨by decide +kernel, by decide, by decide +kernel, by decide, by decide +kernel, by decide, by decide +kernel, by decide⟩, Or.inl (by decide +kernel)⟩, by decide⟩)⟩)⟩) (by decide +kernel) c6
  rw [Cs_o c6, e7, I_e, if_pos rfl]
  replace c7 : Cs [] R34_54 [R34_0, R34_53] none [] h7 := c7
  obtain ⟨h8, e8, c8⟩ := st_clear c7
  rw [Cs_o c7, e8, I_e, if_pos (show nI (List.length ([] : List Int32)) = 0 from rfl)]
  rw [Cs_o c8, sq_stopped hN c8, qI (show o_stopped R34_54 0 = .inl 1 by decide +kernel), I_e, if_pos rfl]
  rw [Cs_o c8, sq_stopped hN c8, qI (show o_stopped R34_54 1 = .inl 4 by decide +kernel), I_e, if_pos rfl]
  exact t_texts_345 hN c8
set_option maxRecDepth 20000 in
theorem t_texts_135 (hN : 2001 ≤ N) (cs : Cs [] R34_0 [] none ([55, 47, 50, 64, 49, 57, 57, 57, 43, 50, 48] : List Int32) h) : ∃ h', FL_texts_135 N N 0 h = rI 1 h' := by
  obtain ⟨M, rfl⟩ : ∃ M, N = M + 1 := ⟨N - 1, by omega⟩
  rw [FL_texts_135]
  obtain ⟨h1, e1, c1⟩ := isErr_e (l := 3472046889970119217) (k := 48) (L := [48, 47, 48, 64, 48, 43, 50, 49]) (M := [48]) (j := 7) hN (by decide +kernel) (by decide +kernel) (by unfold okCh; decide +kernel) (by decide) (by unfold errAt; decide +kernel) cs
  rw [show FL_isError (M + 1) 0 3472046889970119217 48 7 _ = rI 1 h1 from e1, I_e, if_neg (by decide)]
  replace c1 : Cs [] R34_0 [] none ([48, 47, 48, 64, 48, 43, 50, 49, 48] : List Int32) h1 := c1
  obtain ⟨h2, e2, c2⟩ := isErr_e (l := 12336) (k := 0) (L := [48, 48]) (M := []) (j := 1) hN (by decide +kernel) (by decide +kernel) (by unfold okCh; decide +kernel) (by decide) (by unfold errAt; decide +kernel) c1
  rw [show FL_isError (M + 1) 0 12336 0 1 _ = rI 1 h2 from e2, I_e, if_neg (by decide)]
  replace c2 : Cs [] R34_0 [] none ([48, 48] : List Int32) h2 := c2
  obtain ⟨h3, e3, c3⟩ := isErr_e (l := 206950121592) (k := 0) (L := [48, 47, 48, 64, 120]) (M := []) (j := 4) hN (by decide +kernel) (by decide +kernel) (by unfold okCh; decide +kernel) (by decide) (by unfold errAt; decide +kernel) c2
  rw [show FL_isError (M + 1) 0 206950121592 0 4 _ = rI 1 h3 from e3, I_e, if_neg (by decide)]
  replace c3 : Cs [] R34_0 [] none ([48, 47, 48, 64, 120] : List Int32) h3 := c3
  obtain ⟨h4, e4, c4⟩ := isErr_e (l := 808398896) (k := 0) (L := [48, 47, 48, 48]) (M := []) (j := 3) hN (by decide +kernel) (by decide +kernel) (by unfold okCh; decide +kernel) (by decide) (by unfold errAt; decide +kernel) c3
  rw [show FL_isError (M + 1) 0 808398896 0 3 _ = rI 1 h4 from e4, I_e, if_neg (by decide)]
  replace c4 : Cs [] R34_0 [] none ([48, 47, 48, 48] : List Int32) h4 := c4
  obtain ⟨h5, e5, c5⟩ := isErr_e (l := 13562683164273451) (k := 0) (L := [48, 47, 48, 64, 53, 43, 43]) (M := []) (j := 6) hN (by decide +kernel) (by decide +kernel) (by unfold okCh; decide +kernel) (by decide) (by unfold errAt; decide +kernel) c4
  rw [show FL_isError (M + 1) 0 13562683164273451 0 6 _ = rI 1 h5 from e5, I_e, if_neg (by decide)]
  replace c5 : Cs [] R34_0 [] none ([48, 47, 48, 64, 53, 43, 43] : List Int32) h5 := c5
  obtain ⟨h6, e6, c6⟩ := isErr_e (l := 13562683164277563) (k := 0) (L := [48, 47, 48, 64, 53, 59, 59]) (M := []) (j := 6) hN (by decide +kernel) (by decide +kernel) (by unfold okCh; decide +kernel) (by decide) (by unfold errAt; decide +kernel) c5
  rw [show FL_isError (M + 1) 0 13562683164277563 0 6 _ = rI 1 h6 from e6, I_e, if_neg (by decide)]
  replace c6 : Cs [] R34_0 [] none ([48, 47, 48, 64, 53, 59, 59] : List Int32) h6 := c6
  obtain ⟨h7, e7, c7⟩ := isErr_e (l := 3472046890054004789) (k := 0) (L := [48, 47, 48, 64, 53, 43, 48, 53]) (M := []) (j := 7) hN (by decide +kernel) (by decide +kernel) (by unfold okCh; decide +kernel) (by decide) (by unfold errAt; decide +kernel) c6
  rw [show FL_isError (M + 1) 0 3472046890054004789 0 7 _ = rI 1 h7 from e7, I_e, if_neg (by decide)]
  replace c7 : Cs [] R34_0 [] none ([48, 47, 48, 64, 53, 43, 48, 53] : List Int32) h7 := c7
  obtain ⟨h8, e8, c8⟩ := isErr_e (l := 3544105583536779307) (k := 228626345778) (L := [49, 47, 49, 64, 49, 48, 48, 43]) (M := [53, 59, 49, 47, 50]) (j := 13) hN (by decide +kernel) (by decide +kernel) (by unfold okCh; decide +kernel) (by decide) (by unfold errAt; decide +kernel) c7
  rw [show FL_isError (M + 1) 0 3544105583536779307 228626345778 13 _ = rI 1 h8 from e8, I_e, if_neg (by decide)]
  replace c8 : Cs [] R34_0 [] none ([49, 47, 49, 64, 49, 48, 48, 43, 53, 59, 49, 47, 50] : List Int32) h8 := c8
  obtain ⟨h9, e9, c9⟩ := isErr_e (l := 97) (k := 0) (L := [97]) (M := []) (j := 0) hN (by decide +kernel) (by decide +kernel) (by unfold okCh; decide +kernel) (by decide) (by unfold errAt; decide +kernel) c8
  rw [show FL_isError (M + 1) 0 97 0 0 _ = rI 1 h9 from e9, I_e, if_neg (by decide)]
  replace c9 : Cs [] R34_0 [] none ([97] : List Int32) h9 := c9
  exact t_texts_254 hN c9
set_option maxRecDepth 20000 in
theorem t_texts_118 (hN : 2001 ≤ N) (cs : Cs [] R34_0 [] none [] h) : ∃ h', FL_texts_118 N N 0 h = rI 1 h' := by
  obtain ⟨M, rfl⟩ : ∃ M, N = M + 1 := ⟨N - 1, by omega⟩
  rw [FL_texts_118]
  obtain ⟨h1, e1, c1⟩ := isErr_e (l := 3976452247276566841) (k := 2830896) (L := [55, 47, 50, 64, 49, 57, 57, 57]) (M := [43, 50, 48]) (j := 11) hN (by decide +kernel) (by decide +kernel) (by unfold okCh; decide +kernel) (by decide) (by unfold errAt; decide +kernel) cs
  rw [show FL_isError (M + 1) 0 3976452247276566841 2830896 11 _ = rI 1 h1 from e1, I_e, if_neg (by decide)]
  replace c1 : Cs [] R34_0 [] none ([55, 47, 50, 64, 49, 57, 57, 57, 43, 50, 48] : List Int32) h1 := c1
  exact t_texts_135 hN c1
set_option maxRecDepth 20000 in
theorem t_texts (hN : 2001 ≤ N) : ∃ h', FL_texts N [] = rI 1 h' := by
  unfold FL_texts
  rw [nw_e (b := 0) rfl cl_nil (fun r hr => by simp at hr) (by decide)]
  rw [jf_lv_eq (fun r hr => by
    simp only [List.mem_cons, List.not_mem_nil, or_false] at hr
    subst hr
    exact Or.inl (by decide))]
  rw [show ([] ++ [(.inr (3, [.null, .null, .null, .null, .null, .int 0, .int 0, .int 0]) : jm_C)] : jm_H) = [oC .null .null .null .null .null] from rfl, X3_init (by omega), cV_e]
  have cs := Cs_0
  obtain ⟨h1, e1, c1⟩ := isErr_e (l := 56) (k := 0) (L := [56]) (M := []) (j := 0) hN (by decide +kernel) (by decide +kernel) (by unfold okCh; decide +kernel) (by decide) (by unfold errAt; decide +kernel) cs
  rw [show FL_isError N 0 56 0 0 _ = rI 1 h1 from e1, I_e, if_neg (by decide)]
  replace c1 : Cs [] R34_0 [] none ([56] : List Int32) h1 := c1
  obtain ⟨h2, e2, c2⟩ := isErr_e (l := 3157811) (k := 0) (L := [48, 47, 51]) (M := []) (j := 2) hN (by decide +kernel) (by decide +kernel) (by unfold okCh; decide +kernel) (by decide) (by unfold errAt; decide +kernel) c1
  rw [show FL_isError N 0 3157811 0 2 _ = rI 1 h2 from e2, I_e, if_neg (by decide)]
  replace c2 : Cs [] R34_0 [] none ([48, 47, 51] : List Int32) h2 := c2
  obtain ⟨h3, e3, c3⟩ := isErr_e (l := 3472046890004000816) (k := 0) (L := [48, 47, 48, 64, 50, 48, 48, 48]) (M := []) (j := 7) hN (by decide +kernel) (by decide +kernel) (by unfold okCh; decide +kernel) (by decide) (by unfold errAt; decide +kernel) c2
  rw [show FL_isError N 0 3472046890004000816 0 7 _ = rI 1 h3 from e3, I_e, if_neg (by decide)]
  replace c3 : Cs [] R34_0 [] none ([48, 47, 48, 64, 50, 48, 48, 48] : List Int32) h3 := c3
  obtain ⟨h4, e4, c4⟩ := isErr_e (l := 3472046889970119217) (k := 0) (L := [48, 47, 48, 64, 48, 43, 50, 49]) (M := []) (j := 7) hN (by decide +kernel) (by decide +kernel) (by unfold okCh; decide +kernel) (by decide) (by unfold errAt; decide +kernel) c3
  rw [show FL_isError N 0 3472046889970119217 0 7 _ = rI 1 h4 from e4, I_e, if_neg (by decide)]
  replace c4 : Cs [] R34_0 [] none ([48, 47, 48, 64, 48, 43, 50, 49] : List Int32) h4 := c4
  obtain ⟨h5, e5, c5⟩ := isErr_e (l := 52979231109169) (k := 0) (L := [48, 47, 48, 64, 48, 49]) (M := []) (j := 5) hN (by decide +kernel) (by decide +kernel) (by unfold okCh; decide +kernel) (by decide) (by unfold errAt; decide +kernel) c4
  rw [show FL_isError N 0 52979231109169 0 5 _ = rI 1 h5 from e5, I_e, if_neg (by decide)]
  replace c5 : Cs [] R34_0 [] none ([48, 47, 48, 64, 48, 49] : List Int32) h5 := c5
  obtain ⟨h6, e6, c6⟩ := isErr_e (l := 52979231110459) (k := 0) (L := [48, 47, 48, 64, 53, 59]) (M := []) (j := 6) hN (by decide +kernel) (by decide +kernel) (by unfold okCh; decide +kernel) (by decide) (by unfold errAt; decide +kernel) c5
  rw [show FL_isError N 0 52979231110459 0 6 _ = rI 1 h6 from e6, I_e, if_neg (by decide)]
  replace c6 : Cs [] R34_0 [] none ([48, 47, 48, 64, 53, 59] : List Int32) h6 := c6
  obtain ⟨h7, e7, c7⟩ := isErr_e (l := 52979231110443) (k := 0) (L := [48, 47, 48, 64, 53, 43]) (M := []) (j := 6) hN (by decide +kernel) (by decide +kernel) (by unfold okCh; decide +kernel) (by decide) (by unfold errAt; decide +kernel) c6
  rw [show FL_isError N 0 52979231110443 0 6 _ = rI 1 h7 from e7, I_e, if_neg (by decide)]
  replace c7 : Cs [] R34_0 [] none ([48, 47, 48, 64, 53, 43] : List Int32) h7 := c7
  obtain ⟨h8, e8, c8⟩ := isErr_e (l := 206950121525) (k := 0) (L := [48, 47, 48, 64, 53]) (M := []) (j := 5) hN (by decide +kernel) (by decide +kernel) (by unfold okCh; decide +kernel) (by decide) (by unfold errAt; decide +kernel) c7
  rw [show FL_isError N 0 206950121525 0 5 _ = rI 1 h8 from e8, I_e, if_neg (by decide)]
  replace c8 : Cs [] R34_0 [] none ([48, 47, 48, 64, 53] : List Int32) h8 := c8
  obtain ⟨h9, e9, c9⟩ := isErr_e (l := 0) (k := 0) (L := []) (M := []) (j := 0) hN (by decide +kernel) (by decide +kernel) (by unfold okCh; decide +kernel) (by decide) (by unfold errAt; decide +kernel) c8
  rw [show FL_isError N 0 0 0 0 _ = rI 1 h9 from e9, I_e, if_neg (by decide)]
  replace c9 : Cs [] R34_0 [] none [] h9 := c9
  exact t_texts_118 hN c9
end CO

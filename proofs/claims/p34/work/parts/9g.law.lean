/-! P34: the law answers 1 -/
theorem Cs_0w : Cs (wq (fun _ => 0)) R34_0 [] none [] (hC F0i id (fun _ => 0) (fun _ => 0) (fun _ => 0) (wq (fun _ => 0))) :=
  Cs_row (v := vC) ⟨F0i, id, fun _ => 0, fun _ => 0, fun _ => 0, rfl, rfl, Iv_0, ⟨by decide, fun i hi => hi, fun i j _ _ h => h, fun i w hw => by simp at hw⟩, rfl, rfl, rfl, ⟨by decide, fun x hx => by cases hx⟩, fun i x hx => by simp at hx⟩ (by decide +kernel)
theorem jF_0 {r : Option jm_X} {y : Int32} {g : jm_H} {f : Int32 → jm_H → Option jm_X} (e : r = rI y g) : jf_F ([] : jm_H).length [1000000] r f = f y [] := by
  unfold jf_F
  rw [jf_lv_eq (fun r hr => by
    simp only [List.mem_cons, List.not_mem_nil, or_false] at hr
    exact Or.inr hr), e]
  rfl
set_option maxRecDepth 20000 in
theorem law_34 {L N : Nat} {xs : Nat → Int32} (hN : 2001 ≤ N) (hL : L < 4000) : ∃ h', FL_law L xs N [] = rI 1 h' := by
  obtain ⟨g1, e1⟩ := t_two (N := N) hN
  obtain ⟨g2, e2⟩ := t_many (N := N) hN
  obtain ⟨g3, e3⟩ := t_texts (N := N) hN
  have hP := clsH_len F0i id (fun _ => 0) (fun _ => 0) (fun _ => 0)
  unfold FL_law
  rw [jF_0 e1, if_neg (by decide), jF_0 e2, if_neg (by decide), jF_0 e3, if_neg (by decide)]
  rw [nw_e (b := 0) rfl cl_nil (fun r hr => by
    simp only [List.mem_cons, List.not_mem_nil, or_false] at hr
    exact Or.inr hr) (by decide)]
  rw [jf_lv_eq (fun r hr => by
    simp only [List.mem_cons, List.not_mem_nil, or_false] at hr
    rcases hr with rfl | rfl
    · exact Or.inr rfl
    · exact Or.inl (by decide))]
  rw [show ([] ++ [(.inr (3, [.null, .null, .null, .null, .null, .int 0, .int 0, .int 0]) : jm_C)] : jm_H) = [oC .null .null .null .null .null] from rfl, X3_init (by omega), cV_e, show hC F0i id (fun _ => 0) (fun _ => 0) (fun _ => 0) [] = clsH F0i id (fun _ => 0) (fun _ => 0) (fun _ => 0) from List.append_nil _]
  rw [nw_e (b := 108) hP cl_cls (fun r hr => by
    simp only [List.mem_cons, List.not_mem_nil, or_false] at hr
    rcases hr with rfl | rfl
    · exact Or.inl (by decide)
    · exact Or.inr rfl) (by decide)]
  have cs := Cs_0w
  obtain ⟨h1, e1, c1⟩ := sN_film (a := 2) (b := 15) (y9 := 0) (w := R34_59) hN cs (by decide +kernel)
  rw [Cs_o cs, e1, I_e, if_pos rfl]
  replace c1 : Cs (wq (fun _ => 0)) R34_59 [R34_0] none [] h1 := c1
  obtain ⟨h2, e2, c2⟩ := sN_film (a := 3) (b := 10) (y9 := 1) (w := R34_60) hN c1 (by decide +kernel)
  rw [Cs_o c1, e2, I_e, if_pos rfl]
  replace c2 : Cs (wq (fun _ => 0)) R34_60 [R34_0, R34_59] none [] h2 := c2
  obtain ⟨h3, e3, c3⟩ := sN_show (a := 0) (b := 1) (x := 60) (y := 10) (y9 := 0) (w := R34_61) hN c2 (by decide +kernel)
  rw [Cs_o c2, e3, I_e, if_pos rfl]
  replace c3 : Cs (wq (fun _ => 0)) R34_61 [R34_0, R34_59, R34_60] none [] h3 := c3
  obtain ⟨h4, e4, c4⟩ := sN_attend (a := 1) (b := 0) (y9 := 1) (w := R34_62) hN c3 (by decide +kernel)
  rw [Cs_o c3, e4, I_e, if_pos rfl]
  replace c4 : Cs (wq (fun _ => 0)) R34_62 [R34_0, R34_59, R34_60, R34_61] none [] h4 := c4
  obtain ⟨h5, e5, c5⟩ := st_keep c4
  rw [Cs_o c4, e5, I_e, if_pos (show R34_62 1 = 1 by decide +kernel)]
  rw [seen_e hN c5, L_e]
  exact lp_all (κ := R34_62) (T0 := [R34_0, R34_59, R34_60, R34_61]) (v := R34_62) hN hL (by decide +kernel) rfl ⟨_, c5, fun i w hw => by simp at hw⟩

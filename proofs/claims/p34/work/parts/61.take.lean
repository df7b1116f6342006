/-! one festival takes another's row; the row's single places -/
section FE
variable {b : Nat} {v w : Nat → Int32}
theorem fest_n0 {x : Int32} : (fest b v).set 1 (.inr (2, [.int 2, .ref (b + 2), .int x])) = fest b (upd v 0 x) := by
  unfold fest
  simp (disch := omega) only [sl_ne, pk_un, pk_us]
  rfl
theorem fest_n1 {x : Int32} : (fest b v).set 7 (.inr (2, [.int 5, .ref (b + 8), .int x])) = fest b (upd v 1 x) := by
  unfold fest
  simp (disch := omega) only [sl_ne, pk_un, pk_us]
  rfl
theorem fest_n2 {x : Int32} : (fest b v).set 9 (.inr (2, [.int 3, .ref (b + 10), .int x])) = fest b (upd v 2 x) := by
  unfold fest
  simp (disch := omega) only [sl_ne, pk_un, pk_us]
  rfl
theorem fest_f6 {x : Int32} : (fest b v).set 0 (.inr (0, [.ref (b + 1), .ref (b + 3), .ref (b + 5), .ref (b + 7), .ref (b + 9), .ref (b + 11), .int x, .int (v 129), .int (v 130), .int (v 131)])) = fest b (upd v 128 x) := by
  unfold fest
  simp (disch := omega) only [sl_ne, pk_un, pk_us]
  rfl
theorem fest_f7 {x : Int32} : (fest b v).set 0 (.inr (0, [.ref (b + 1), .ref (b + 3), .ref (b + 5), .ref (b + 7), .ref (b + 9), .ref (b + 11), .int (v 128), .int x, .int (v 130), .int (v 131)])) = fest b (upd v 129 x) := by
  unfold fest
  simp (disch := omega) only [sl_ne, pk_un, pk_us]
  rfl
theorem fest_f8 {x : Int32} : (fest b v).set 0 (.inr (0, [.ref (b + 1), .ref (b + 3), .ref (b + 5), .ref (b + 7), .ref (b + 9), .ref (b + 11), .int (v 128), .int (v 129), .int x, .int (v 131)])) = fest b (upd v 130 x) := by
  unfold fest
  simp (disch := omega) only [sl_ne, pk_un, pk_us]
  rfl
theorem fest_f9 {x : Int32} : (fest b v).set 0 (.inr (0, [.ref (b + 1), .ref (b + 3), .ref (b + 5), .ref (b + 7), .ref (b + 9), .ref (b + 11), .int (v 128), .int (v 129), .int (v 130), .int x])) = fest b (upd v 131 x) := by
  unfold fest
  simp (disch := omega) only [sl_ne, pk_un, pk_us]
  rfl
theorem fest_a0 {k : Nat} {x : Int32} (hk : k < 16) : (fest b v).set 2 (aI 16 (upd (sl v 10 16) k x)) = fest b (upd v (10 + k) x) := by
  rw [sl_up hk]
  unfold fest
  simp (disch := omega) only [sl_ne, pk_un]
  rfl
theorem fest_a1 {k : Nat} {x : Int32} (hk : k < 3) : (fest b v).set 4 (aI 3 (upd (sl v 7 3) k x)) = fest b (upd v (7 + k) x) := by
  rw [sl_up hk]
  unfold fest
  simp (disch := omega) only [sl_ne, pk_un]
  rfl
theorem fest_a2 {k : Nat} {x : Int32} (hk : k < 4) : (fest b v).set 6 (aI 4 (upd (sl v 3 4) k x)) = fest b (upd v (3 + k) x) := by
  rw [sl_up hk]
  unfold fest
  simp (disch := omega) only [sl_ne, pk_un]
  rfl
theorem fest_a3 {k : Nat} {x : Int32} (hk : k < 60) : (fest b v).set 8 (aI 60 (upd (sl v 26 60) k x)) = fest b (upd v (26 + k) x) := by
  rw [sl_up hk]
  unfold fest
  simp (disch := omega) only [sl_ne, pk_un]
  rfl
theorem fest_a4 {k : Nat} {x : Int32} (hk : k < 18) : (fest b v).set 10 (aI 18 (upd (sl v 86 18) k x)) = fest b (upd v (86 + k) x) := by
  rw [sl_up hk]
  unfold fest
  simp (disch := omega) only [sl_ne, pk_un]
  rfl
theorem fest_a5 {k : Nat} {x : Int32} (hk : k < 24) : (fest b v).set 12 (aI 24 (upd (sl v 104 24) k x)) = fest b (upd v (104 + k) x) := by
  rw [sl_up hk]
  unfold fest
  simp (disch := omega) only [sl_ne, pk_un]
  rfl
/-! whole arrays -/
theorem fest_c {o n m : Nat} (hm : (o = 10 ∧ n = 16 ∧ m = 2) ∨ (o = 7 ∧ n = 3 ∧ m = 4) ∨ (o = 3 ∧ n = 4 ∧ m = 6) ∨ (o = 26 ∧ n = 60 ∧ m = 8) ∨ (o = 86 ∧ n = 18 ∧ m = 10) ∨ (o = 104 ∧ n = 24 ∧ m = 12)) : (fest b v).set m (aI n (sl w o n)) = fest b (cpr v w o n (o + n - 1)) := by
  rcases hm with ⟨rfl, rfl, rfl⟩ | ⟨rfl, rfl, rfl⟩ | ⟨rfl, rfl, rfl⟩ | ⟨rfl, rfl, rfl⟩ | ⟨rfl, rfl, rfl⟩ | ⟨rfl, rfl, rfl⟩
  all_goals
    unfold fest
    rw [sl_cin]
    simp (disch := omega) only [sl_cout, cpr_out]
    rfl
end FE
section TK
variable {F : Nat → Nat → Int32} {π : Nat → Nat} {sc rd cd : Nat → Int32} {q : jm_H} {i j : Nat}
theorem tk_0 (hi : i < 8) (hj : j < 8) (hij : i ≠ j) : FX2_takeRows (bs i + 1) (bs j + 1) (hC F π sc rd cd q) = rV (hC (fu F i (upd (cpr (F i) (F j) 10 16 25) 0 (F j 0))) π sc rd cd q) :=
  tk_t (m := 1) (n := 16) (f := sl (F i) 10 16) (g := sl (F j) 10 16) hi hj hij (by decide) (by decide) rfl rfl rfl rfl (fun x hx => by rw [sl_hi _ hx, sl_hi _ hx]) (fest_c (by decide)) fest_n0
theorem tk_1 (hi : i < 8) (hj : j < 8) (hij : i ≠ j) : FX2_takeRows (bs i + 3) (bs j + 3) (hC F π sc rd cd q) = rV (hC (fu F i (cpr (F i) (F j) 7 3 9)) π sc rd cd q) :=
  tk_t (m := 3) (n := 3) (f := sl (F i) 7 3) (g := sl (F j) 7 3) hi hj hij (by decide) (by decide) rfl rfl rfl rfl (fun x hx => by rw [sl_hi _ hx, sl_hi _ hx]) (fest_c (by decide)) rfl
theorem tk_2 (hi : i < 8) (hj : j < 8) (hij : i ≠ j) : FX2_takeRows (bs i + 5) (bs j + 5) (hC F π sc rd cd q) = rV (hC (fu F i (cpr (F i) (F j) 3 4 6)) π sc rd cd q) :=
  tk_t (m := 5) (n := 4) (f := sl (F i) 3 4) (g := sl (F j) 3 4) hi hj hij (by decide) (by decide) rfl rfl rfl rfl (fun x hx => by rw [sl_hi _ hx, sl_hi _ hx]) (fest_c (by decide)) rfl
theorem tk_3 (hi : i < 8) (hj : j < 8) (hij : i ≠ j) : FX2_takeRows (bs i + 7) (bs j + 7) (hC F π sc rd cd q) = rV (hC (fu F i (upd (cpr (F i) (F j) 26 60 85) 1 (F j 1))) π sc rd cd q) :=
  tk_t (m := 7) (n := 60) (f := sl (F i) 26 60) (g := sl (F j) 26 60) hi hj hij (by decide) (by decide) rfl rfl rfl rfl (fun x hx => by rw [sl_hi _ hx, sl_hi _ hx]) (fest_c (by decide)) fest_n1
theorem tk_4 (hi : i < 8) (hj : j < 8) (hij : i ≠ j) : FX2_takeRows (bs i + 9) (bs j + 9) (hC F π sc rd cd q) = rV (hC (fu F i (upd (cpr (F i) (F j) 86 18 103) 2 (F j 2))) π sc rd cd q) :=
  tk_t (m := 9) (n := 18) (f := sl (F i) 86 18) (g := sl (F j) 86 18) hi hj hij (by decide) (by decide) rfl rfl rfl rfl (fun x hx => by rw [sl_hi _ hx, sl_hi _ hx]) (fest_c (by decide)) fest_n2
theorem tk_5 (hi : i < 8) (hj : j < 8) (hij : i ≠ j) : FX2_takeRows (bs i + 11) (bs j + 11) (hC F π sc rd cd q) = rV (hC (fu F i (cpr (F i) (F j) 104 24 127)) π sc rd cd q) :=
  tk_t (m := 11) (n := 24) (f := sl (F i) 104 24) (g := sl (F j) 104 24) hi hj hij (by decide) (by decide) rfl rfl rfl rfl (fun x hx => by rw [sl_hi _ hx, sl_hi _ hx]) (fest_c (by decide)) rfl
theorem g_t {k m : Nat} {f : Nat → Option jm_X} (hi : i < 8) (hk : k < 6) (hm : m = 2 * k + 1) : jf_gR 0 (hC F π sc rd cd q) (bs i) k f = f (bs i + m) := by
  subst hm
  refine gR_e (h_get (m := 0) hi (by decide) rfl) ?_
  have : k = 0 ∨ k = 1 ∨ k = 2 ∨ k = 3 ∨ k = 4 ∨ k = 5 := by omega
  rcases this with rfl | rfl | rfl | rfl | rfl | rfl <;> rfl
theorem o_t {k : Nat} {r : Option jm_X} (hi : i < 8) (hk : k < 6) : jf_o 2 (bs i + (2 * k + 1)) (hC F π sc rd cd q) r = r := by
  have : k = 0 ∨ k = 1 ∨ k = 2 ∨ k = 3 ∨ k = 4 ∨ k = 5 := by omega
  rcases this with rfl | rfl | rfl | rfl | rfl | rfl
  · exact o_e (h_get (m := 1) hi (by decide) rfl)
  · exact o_e (h_get (m := 3) hi (by decide) rfl)
  · exact o_e (h_get (m := 5) hi (by decide) rfl)
  · exact o_e (h_get (m := 7) hi (by decide) rfl)
  · exact o_e (h_get (m := 9) hi (by decide) rfl)
  · exact o_e (h_get (m := 11) hi (by decide) rfl)
theorem o_f {r : Option jm_X} (hi : i < 8) : jf_o 0 (bs i) (hC F π sc rd cd q) r = r := o_e (h_get (m := 0) hi (by decide) rfl)
theorem g_6 {f : Int32 → Option jm_X} (hi : i < 8) : jf_gI 0 (hC F π sc rd cd q) (bs i) 6 f = f (F i 128) := gI_e (h_get (m := 0) hi (by decide) rfl) rfl
theorem g_7 {f : Int32 → Option jm_X} (hi : i < 8) : jf_gI 0 (hC F π sc rd cd q) (bs i) 7 f = f (F i 129) := gI_e (h_get (m := 0) hi (by decide) rfl) rfl
theorem g_8 {f : Int32 → Option jm_X} (hi : i < 8) : jf_gI 0 (hC F π sc rd cd q) (bs i) 8 f = f (F i 130) := gI_e (h_get (m := 0) hi (by decide) rfl) rfl
theorem g_9 {f : Int32 → Option jm_X} (hi : i < 8) : jf_gI 0 (hC F π sc rd cd q) (bs i) 9 f = f (F i 131) := gI_e (h_get (m := 0) hi (by decide) rfl) rfl
theorem s_6 {x : Int32} {f : jm_H → Option jm_X} (hi : i < 8) : jf_p 0 (hC F π sc rd cd q) (bs i) 6 (.int x) f =  f (hC (fu F i (upd (F i) 128 x)) π sc rd cd q) :=
  (p_e (o := bs i) (h_get (m := 0) hi (by decide) rfl) (show 6 < 10 by decide)).trans (congrArg f (h_st (m := 0) hi (by decide) fest_f6))
theorem s_7 {x : Int32} {f : jm_H → Option jm_X} (hi : i < 8) : jf_p 0 (hC F π sc rd cd q) (bs i) 7 (.int x) f =  f (hC (fu F i (upd (F i) 129 x)) π sc rd cd q) :=
  (p_e (o := bs i) (h_get (m := 0) hi (by decide) rfl) (show 7 < 10 by decide)).trans (congrArg f (h_st (m := 0) hi (by decide) fest_f7))
theorem s_8 {x : Int32} {f : jm_H → Option jm_X} (hi : i < 8) : jf_p 0 (hC F π sc rd cd q) (bs i) 8 (.int x) f =  f (hC (fu F i (upd (F i) 130 x)) π sc rd cd q) :=
  (p_e (o := bs i) (h_get (m := 0) hi (by decide) rfl) (show 8 < 10 by decide)).trans (congrArg f (h_st (m := 0) hi (by decide) fest_f8))
theorem s_9 {x : Int32} {f : jm_H → Option jm_X} (hi : i < 8) : jf_p 0 (hC F π sc rd cd q) (bs i) 9 (.int x) f =  f (hC (fu F i (upd (F i) 131 x)) π sc rd cd q) :=
  (p_e (o := bs i) (h_get (m := 0) hi (by decide) rfl) (show 9 < 10 by decide)).trans (congrArg f (h_st (m := 0) hi (by decide) fest_f9))
theorem take_e (hi : i < 8) (hj : j < 8) (hij : i ≠ j) : FX0_take (bs i) (bs j) (hC F π sc rd cd q) = rV (hC (fu F i (F j)) π sc rd cd q) := by
  have hji : j ≠ i := Ne.symm hij
  unfold FX0_take
  rw [g_t (k := 0) (m := 1) hi (by decide) rfl, g_t (k := 0) (m := 1) hj (by decide) rfl, show bs i + 1 = bs i + (2 * 0 + 1) from rfl, o_t hi (by decide), show bs i + (2 * 0 + 1) = bs i + 1 from rfl, tk_0 hi hj hij, V_e]
  rw [g_t (k := 1) (m := 3) hi (by decide) rfl, g_t (k := 1) (m := 3) hj (by decide) rfl, show bs i + 3 = bs i + (2 * 1 + 1) from rfl, o_t hi (by decide), show bs i + (2 * 1 + 1) = bs i + 3 from rfl, tk_1 hi hj hij, V_e]
  rw [g_t (k := 2) (m := 5) hi (by decide) rfl, g_t (k := 2) (m := 5) hj (by decide) rfl, show bs i + 5 = bs i + (2 * 2 + 1) from rfl, o_t hi (by decide), show bs i + (2 * 2 + 1) = bs i + 5 from rfl, tk_2 hi hj hij, V_e]
  rw [g_t (k := 3) (m := 7) hi (by decide) rfl, g_t (k := 3) (m := 7) hj (by decide) rfl, show bs i + 7 = bs i + (2 * 3 + 1) from rfl, o_t hi (by decide), show bs i + (2 * 3 + 1) = bs i + 7 from rfl, tk_3 hi hj hij, V_e]
  rw [g_t (k := 4) (m := 9) hi (by decide) rfl, g_t (k := 4) (m := 9) hj (by decide) rfl, show bs i + 9 = bs i + (2 * 4 + 1) from rfl, o_t hi (by decide), show bs i + (2 * 4 + 1) = bs i + 9 from rfl, tk_4 hi hj hij, V_e]
  rw [g_t (k := 5) (m := 11) hi (by decide) rfl, g_t (k := 5) (m := 11) hj (by decide) rfl, show bs i + 11 = bs i + (2 * 5 + 1) from rfl, o_t hi (by decide), show bs i + (2 * 5 + 1) = bs i + 11 from rfl, tk_5 hi hj hij, V_e]
  rw [g_6 hj, s_6 hi, g_7 hj, s_7 hi, g_8 hj, s_8 hi, g_9 hj, s_9 hi]
  simp only [fu_fu, fu_s, fu_n hji]
  refine congrArg rV (h_congr hi (fun x hx => ?_))
  have : x = 131 ∨ x = 130 ∨ x = 129 ∨ x = 128 ∨ x = 0 ∨ x = 1 ∨ x = 2 ∨ (10 ≤ x ∧ x < 26) ∨ (7 ≤ x ∧ x < 10) ∨ (3 ≤ x ∧ x < 7) ∨ (26 ≤ x ∧ x < 86) ∨ (86 ≤ x ∧ x < 104) ∨ (104 ≤ x ∧ x < 128) := by omega
  rcases this with rfl | rfl | rfl | rfl | rfl | rfl | rfl | h | h | h | h | h | h
  all_goals simp (disch := omega) only [pk_un, pk_us, cpr_in, cpr_out]
end TK
/-! the reference's places -/
section RU
variable {P : jm_H} {v p k t l rs : Nat → Int32} {hs : Int64} {q : jm_H}
end RU


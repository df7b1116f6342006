/-! THE CONSTRUCTORS: the class, the reference, the start -/
abbrev rawF : jm_C := .inr (0, [.null, .null, .null, .null, .null, .null, .int 0, .int 0, .int 0, .int 0])
abbrev oC (a b c d e : Value) : jm_C := .inr (3, [a, b, c, d, e, .int 0, .int 0, .int 0])
def fsT : Nat → jm_H
  | 0 => []
  | i + 1 => fsT i ++ fest (28 + 13 * i) vC
def svT (i : Nat) : Nat → Option Nat := fun j => if j < i then some (28 + 13 * j) else none
def GH (i : Nat) : jm_H := oC (.ref 1) (.ref 14) (.ref 27) .null .null :: (fest 1 vC ++ (fest 14 vC ++ (aQ (svT i) :: fsT i)))
theorem fsT_len : ∀ i, (fsT i).length = 13 * i
  | 0 => rfl
  | i + 1 => by
    show (fsT i ++ fest (28 + 13 * i) vC).length = _
    rw [List.length_append, fsT_len i, fest_len]; omega
theorem GH_len (i : Nat) : (GH i).length = 28 + 13 * i := by
  unfold GH
  rw [List.length_cons, List.length_append, List.length_append, List.length_cons, fest_len, fest_len, fsT_len]; omega
theorem ne_ref {a n : Nat} (h : a ≠ n) : jm_okV n (.ref a) := fun e => h (by injection e)
theorem ne_int {n : Nat} {x : Int32} : jm_okV n (.int x) := fun e => by cases e
theorem ne_long {n : Nat} {x : Int64} : jm_okV n (.long x) := fun e => by cases e
theorem ne_null {n : Nat} : jm_okV n .null := fun e => by cases e
theorem cl_cons {b : Nat} {c : jm_C} {A : jm_H} (hc : ∀ n, b ≤ n → jm_okC n c) (h : cl b A) : cl b (c :: A) := fun n hn x hx => by
  rcases List.mem_cons.mp hx with h1 | h1
  · rw [h1]; exact hc n hn
  · exact h n hn x h1
theorem cl_nil {b : Nat} : cl b [] := fun n hn x hx => by cases hx
theorem ok_nil {n : Nat} : ∀ v ∈ ([] : List Value), jm_okV n v := fun v hv => by cases hv
theorem ok_cons {n : Nat} {v : Value} {l : List Value} (h1 : jm_okV n v) (h2 : ∀ v ∈ l, jm_okV n v) : ∀ w ∈ v :: l, jm_okV n w := fun w hw => by
  rcases List.mem_cons.mp hw with h | h
  · rw [h]; exact h1
  · exact h2 w h
theorem cl_fest (b : Nat) (v : Nat → Int32) : cl (b + 13) (fest b v) := by
  have t : ∀ (k : Nat) (x y : Int32), k < 13 → ∀ n, b + 13 ≤ n → jm_okC n (.inr (2, [.int x, .ref (b + k), .int y])) := fun k x y hk n hn => ok_cons ne_int (ok_cons (ne_ref (by omega)) (ok_cons ne_int ok_nil))
  unfold fest
  refine cl_cons (fun n hn => ok_cons (ne_ref (by omega)) (ok_cons (ne_ref (by omega)) (ok_cons (ne_ref (by omega)) (ok_cons (ne_ref (by omega)) (ok_cons (ne_ref (by omega)) (ok_cons (ne_ref (by omega)) (ok_cons ne_int (ok_cons ne_int (ok_cons ne_int (ok_cons ne_int ok_nil)))))))))) ?_
  exact cl_cons (t 2 _ _ (by decide)) (cl_cons (fun _ _ => trivial) (cl_cons (t 4 _ _ (by decide)) (cl_cons (fun _ _ => trivial) (cl_cons (t 6 _ _ (by decide)) (cl_cons (fun _ _ => trivial) (cl_cons (t 8 _ _ (by decide)) (cl_cons (fun _ _ => trivial) (cl_cons (t 10 _ _ (by decide)) (cl_cons (fun _ _ => trivial) (cl_cons (t 12 _ _ (by decide)) (cl_cons (fun _ _ => trivial) cl_nil)))))))))))
theorem cl_fsT : ∀ i, cl (28 + 13 * i) (fsT i)
  | 0 => cl_nil
  | i + 1 => cl_app (cl_le (cl_fsT i) (by omega)) (cl_le (cl_fest (28 + 13 * i) vC) (by omega))
theorem cl_GH (i : Nat) : cl (28 + 13 * i) (GH i) := by
  refine cl_cons (fun n hn => ok_cons (ne_ref (by omega)) (ok_cons (ne_ref (by omega)) (ok_cons (ne_ref (by omega)) (ok_cons ne_null (ok_cons ne_null (ok_cons ne_int (ok_cons ne_int (ok_cons ne_int ok_nil)))))))) ?_
  refine cl_app (cl_le (cl_fest 1 vC) (by omega)) (cl_app (cl_le (cl_fest 14 vC) (by omega)) (cl_cons (fun n hn j => ?_) (cl_fsT i)))
  unfold svT
  by_cases hj : j < i
  · rw [if_pos hj]
    intro e
    have : 28 + 13 * j = n := by injection e
    omega
  · rw [if_neg hj]
    exact fun e => by cases e
theorem GH_up (i : Nat) : (GH i ++ fest (28 + 13 * i) vC).set 27 (aQ (svT (i + 1))) = GH (i + 1) := by
  show oC (.ref 1) (.ref 14) (.ref 27) .null .null :: (fest 1 vC ++ (fest 14 vC ++ (aQ (svT (i + 1)) :: (fsT i ++ fest (28 + 13 * i) vC)))) = _
  rfl
theorem svT_up (i : Nat) : va_up (svT i) i (some (28 + 13 * i)) = svT (i + 1) := by
  funext j
  unfold va_up svT
  by_cases h1 : j = i
  · subst h1; rw [if_pos rfl, if_pos (by omega)]
  · rw [if_neg h1]
    by_cases h2 : j < i
    · rw [if_pos h2, if_pos (by omega)]
    · rw [if_neg h2, if_neg (by omega)]
theorem lvn {m : Nat} {l : List Nat} (h : ∀ r ∈ l, r < m ∨ r = 1000000) : jm_lv m l := h
theorem X3_s {N n i : Nat} (hN : 10 ≤ N) (hi : i < 6) : FX3_init_37 N (n + 1) (27 + 13 * i) (782 + 388 * i) 0 (nI i) (GH i) = FX3_init_37 N n (27 + 13 * (i + 1)) (782 + 388 * (i + 1)) 0 (nI (i + 1)) (GH (i + 1)) := by
  have hl := GH_len i
  have hk : ∀ a b, a ≤ 107 → b ≤ 3175 → ∀ r : Option jm_X, jf_k M_X3_init a b r = r := fun a b h1 h2 r => k_ok ⟨h1, h2⟩
  have g2 : ∀ (X : jm_H) (f : Nat → Option jm_X), jf_gR 3 (GH i ++ X) 0 2 f = f 27 := fun X f => gR_e (fs := [.ref 1, .ref 14, .ref 27, .null, .null, .int 0, .int 0, .int 0]) rfl rfl
  have g2' : ∀ (f : Nat → Option jm_X), jf_gR 3 (GH i) 0 2 f = f 27 := fun f => gR_e (fs := [.ref 1, .ref 14, .ref 27, .null, .null, .int 0, .int 0, .int 0]) rfl rfl
  have gl : ∀ (f : Int32 → Option jm_X), jf_len (GH i) 27 f = f 6 := fun f => len_e (t := 3) (x := (6, .inr (.inr (.inr (.inr (svT i)))))) rfl (by decide)
  rw [FX3_init_37, hk _ _ (by omega) (by omega), g2', gl, if_neg (show ¬ 6 ≤ nI i from nI_ge (b := 6) hi (by decide)), g2', hk _ _ (by omega) (by omega)]
  rw [nw_e hl (cl_GH i) (fun r hr => by
    simp only [List.mem_cons, List.not_mem_nil, or_false] at hr
    rcases hr with rfl | rfl <;> exact Or.inl (by omega)) (by omega), hk _ _ (by omega) (by omega)]
  rw [jf_lv_eq (fun r hr => by
    simp only [List.mem_cons, List.not_mem_nil, or_false] at hr
    have e9 : (GH i ++ [rawF]).length = 28 + 13 * i + 1 := by rw [List.length_append, hl]; rfl
    rw [e9]
    rcases hr with rfl | rfl | rfl <;> exact Or.inl (by omega))]
  rw [F0_init hl (cl_GH i) (by omega) hN, cV_e]
  have hst : ∀ g : jm_H → Option jm_X, jf_stA (GH i ++ fest (28 + 13 * i) vC) 27 (nI i) (28 + 13 * i) g = g (GH (i + 1)) := fun g => by
    have h1 : ¬ (nI i < 0 ∨ 6 ≤ i) := fun h => h.elim (nI_pos (by omega)) (by omega)
    have hh : (GH i ++ fest (28 + 13 * i) vC)[27]? = some (aQ (svT i)) := rfl
    have h2 : (GH i ++ fest (28 + 13 * i) vC)[28 + 13 * i]? = some (.inr (0, [.ref (28 + 13 * i + 1), .ref (28 + 13 * i + 3), .ref (28 + 13 * i + 5), .ref (28 + 13 * i + 7), .ref (28 + 13 * i + 9), .ref (28 + 13 * i + 11), .int (vC 128), .int (vC 129), .int (vC 130), .int (vC 131)])) := ax_get hl 0
    unfold jf_stA
    rw [hh, h2]
    show (if nI i < 0 ∨ 6 ≤ (nI i).toNatClampNeg then none else _) = _
    simp only [nI_clamp (show i < 2 ^ 31 by omega), if_neg h1]
    rw [← GH_up i, ← svT_up i]
  rw [hst, nI_1, show 27 + 13 * i + 13 = 27 + 13 * (i + 1) by omega, show 782 + 388 * i + 388 = 782 + 388 * (i + 1) by omega]
abbrev F0i : Nat → Nat → Int32 := fun _ => vC
theorem X3_init {N : Nat} (hN : 10 ≤ N) : FX3_init N 0 [oC .null .null .null .null .null] = rV (hC F0i id (fun _ => 0) (fun _ => 0) (fun _ => 0) []) := by
  have lv : ∀ (m o : Nat), 0 < m → o < m → jm_lv m [0, o, 0] := fun m o h1 h2 r hr => by
    simp only [List.mem_cons, List.not_mem_nil, or_false] at hr
    rcases hr with rfl | rfl | rfl
    · exact Or.inl h1
    · exact Or.inl h2
    · exact Or.inl h1
  have l0 : ∀ (m : Nat), 0 < m → ∀ r ∈ [0, 0], r < m ∨ r = 1000000 := fun m h r hr => by
    simp only [List.mem_cons, List.not_mem_nil, or_false] at hr
    rcases hr with rfl | rfl <;> exact Or.inl h
  have cO : ∀ (b : Nat) (x y z u v : Value), (∀ n, b ≤ n → jm_okV n x ∧ jm_okV n y ∧ jm_okV n z ∧ jm_okV n u ∧ jm_okV n v) → cl b [oC x y z u v] := fun b x y z u v h => cl_one (fun n hn => by
    obtain ⟨h1, h2, h3, h4, h5⟩ := h n hn
    exact ok_cons h1 (ok_cons h2 (ok_cons h3 (ok_cons h4 (ok_cons h5 (ok_cons ne_int (ok_cons ne_int (ok_cons ne_int ok_nil))))))))
  have c1 : cl 1 [oC .null .null .null .null .null] := cO 1 _ _ _ _ _ (fun n hn => ⟨ne_null, ne_null, ne_null, ne_null, ne_null⟩)
  have c2 : cl 14 ([oC (.ref 1) .null .null .null .null] ++ fest 1 vC) := cl_app (cO 14 _ _ _ _ _ (fun n hn => ⟨ne_ref (by omega), ne_null, ne_null, ne_null, ne_null⟩)) (cl_fest 1 vC)
  have c3 : cl 27 ([oC (.ref 1) (.ref 14) .null .null .null] ++ fest 1 vC ++ fest 14 vC) := cl_app (cl_app (cO 27 _ _ _ _ _ (fun n hn => ⟨ne_ref (by omega), ne_ref (by omega), ne_null, ne_null, ne_null⟩)) (cl_le (cl_fest 1 vC) (by omega))) (cl_fest 14 vC)
  unfold FX3_init
  rw [nw_e (b := 1) rfl c1 (l0 1 (by decide)) (by decide), jf_lv_eq (lv _ _ (by decide) (by decide)), F0_init (b := 1) rfl c1 (by decide) hN, cV_e]
  rw [p_e (fs := [.null, .null, .null, .null, .null, .int 0, .int 0, .int 0]) rfl (by decide)]
  rw [show ([oC .null .null .null .null .null] ++ fest 1 vC).set 0 (.inr (3, [Value.null, .null, .null, .null, .null, .int 0, .int 0, .int 0].set 0 (.ref 1))) = [oC (.ref 1) .null .null .null .null] ++ fest 1 vC from rfl]
  rw [nw_e (b := 14) rfl c2 (l0 14 (by decide)) (by decide), jf_lv_eq (lv _ _ (by decide) (by decide)), F0_init (b := 14) rfl c2 (by decide) hN, cV_e]
  rw [p_e (fs := [.ref 1, .null, .null, .null, .null, .int 0, .int 0, .int 0]) rfl (by decide)]
  rw [show ([oC (.ref 1) .null .null .null .null] ++ fest 1 vC ++ fest 14 vC).set 0 (.inr (3, [Value.ref 1, .null, .null, .null, .null, .int 0, .int 0, .int 0].set 1 (.ref 14))) = [oC (.ref 1) (.ref 14) .null .null .null] ++ fest 1 vC ++ fest 14 vC from rfl]
  rw [nw_e (b := 27) rfl c3 (l0 27 (by decide)) (by decide)]
  rw [p_e (fs := [.ref 1, .ref 14, .null, .null, .null, .int 0, .int 0, .int 0]) rfl (by decide)]
  rw [show ([oC (.ref 1) (.ref 14) .null .null .null] ++ fest 1 vC ++ fest 14 vC ++ [(.inl (3, (6, .inr (.inr (.inr (.inr (fun _ => none)))))) : jm_C)]).set 0 (.inr (3, [Value.ref 1, .ref 14, .null, .null, .null, .int 0, .int 0, .int 0].set 2 (.ref 27))) = GH 0 from rfl]
  obtain ⟨M, rfl⟩ : ∃ M, N = M + 7 := ⟨N - 7, by omega⟩
  rw [show FX3_init_37 (M + 7) (M + 7) 27 782 0 0 (GH 0) = FX3_init_37 (M + 7) (M + 6 + 1) (27 + 13 * 0) (782 + 388 * 0) 0 (nI 0) (GH 0) from rfl, X3_s hN (by decide), X3_s hN (by decide), X3_s hN (by decide), X3_s hN (by decide), X3_s hN (by decide), X3_s hN (by decide)]
  have hk : ∀ a b, a ≤ 107 → b ≤ 3175 → ∀ r : Option jm_X, jf_k M_X3_init a b r = r := fun a b h1 h2 r => k_ok ⟨h1, h2⟩
  have g2' : ∀ (f : Nat → Option jm_X), jf_gR 3 (GH 6) 0 2 f = f 27 := fun f => gR_e (fs := [.ref 1, .ref 14, .ref 27, .null, .null, .int 0, .int 0, .int 0]) rfl rfl
  have gl : ∀ (f : Int32 → Option jm_X), jf_len (GH 6) 27 f = f 6 := fun f => len_e (t := 3) (x := (6, .inr (.inr (.inr (.inr (svT 6)))))) rfl (by decide)
  have c6 := cl_GH 6
  have l6 := GH_len 6
  have cR : cl 107 (GH 6 ++ [(.inr (1, [.int 0, .int 0, .int 0, .int 0, .int 0]) : jm_C)]) := cl_app (cl_le c6 (by decide)) (cl_one (fun n hn => ok_cons ne_int (ok_cons ne_int (ok_cons ne_int (ok_cons ne_int (ok_cons ne_int ok_nil))))))
  have cR2 : cl 107 ((GH 6 ++ [(.inr (1, [.int 0, .int 0, .int 0, .int 0, .int 0]) : jm_C)]).set 0 (oC (.ref 1) (.ref 14) (.ref 27) (.ref 106) .null)) := cl_set cR (fun n hn => ok_cons (ne_ref (by omega)) (ok_cons (ne_ref (by omega)) (ok_cons (ne_ref (by omega)) (ok_cons (ne_ref (by omega)) (ok_cons ne_null (ok_cons ne_int (ok_cons ne_int (ok_cons ne_int ok_nil))))))))
  rw [FX3_init_37, hk _ _ (by decide) (by decide), g2', gl, if_pos (show (6 : Int32) ≤ nI (0 + 1 + 1 + 1 + 1 + 1 + 1) by decide), hk _ _ (by decide) (by decide)]
  rw [nw_e (b := 106) l6 c6 (l0 106 (by decide)) (by decide), jf_lv_eq (lv _ _ (by decide) (by decide)), show ∀ h, FX1_init 106 h = rV h from fun _ => rfl, cV_e]
  rw [p_e (fs := [.ref 1, .ref 14, .ref 27, .null, .null, .int 0, .int 0, .int 0]) rfl (by decide), hk _ _ (by decide) (by decide)]
  rw [show [Value.ref 1, .ref 14, .ref 27, .null, .null, .int 0, .int 0, .int 0].set 3 (.ref 106) = [Value.ref 1, .ref 14, .ref 27, .ref 106, .null, .int 0, .int 0, .int 0] from rfl]
  rw [nw_e (b := 107) (by rw [List.length_set, List.length_append, l6]; rfl) cR2 (l0 107 (by decide)) (by decide)]
  rw [p_e (fs := [.ref 1, .ref 14, .ref 27, .ref 106, .null, .int 0, .int 0, .int 0]) rfl (by decide)]
  refine congrArg rV ?_
  unfold hC clsH
  rw [sl_0]
  rfl
abbrev o4 (a b c d e : Value) : jm_C := .inr (4, [a, b, .int 0, c, .int 0, d, .int 0, .int 0, .int 0, .int 0, .int 0, .int 0, e, .int 0, .long 0])
theorem cl_o4 {m : Nat} {a b c d e : Value} (h : ∀ n, m ≤ n → jm_okV n a ∧ jm_okV n b ∧ jm_okV n c ∧ jm_okV n d ∧ jm_okV n e) : ∀ n, m ≤ n → jm_okC n (o4 a b c d e) := fun n hn => by
  obtain ⟨h1, h2, h3, h4, h5⟩ := h n hn
  exact ok_cons h1 (ok_cons h2 (ok_cons ne_int (ok_cons h3 (ok_cons ne_int (ok_cons h4 (ok_cons ne_int (ok_cons ne_int (ok_cons ne_int (ok_cons ne_int (ok_cons ne_int (ok_cons ne_int (ok_cons h5 (ok_cons ne_int (ok_cons ne_long ok_nil))))))))))))))
def vR : Nat → Int32 := uStop (upd (upd (upd (upd (upd (upd (upd (fun _ => 0) 3 10) 4 15) 5 10) 6 5) 7 100) 8 200) 9 300) (-1) (-1) (-1)
theorem vR_e : vR = vC := by
  funext i
  unfold vR vC uStop upd
  repeat' split
  all_goals first | rfl | omega

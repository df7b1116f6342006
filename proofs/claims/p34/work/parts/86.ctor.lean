/-! THE CONSTRUCTORS: a festival -/
def cl (b : Nat) (X : jm_H) : Prop := ∀ n, b ≤ n → jm_ok n X
theorem ok_app {n : Nat} {A X : jm_H} (h1 : jm_ok n A) (h2 : jm_ok n X) : jm_ok n (A ++ X) := fun c hc => (List.mem_append.mp hc).elim (h1 c) (h2 c)
theorem cl_app {b : Nat} {A X : jm_H} (h1 : cl b A) (h2 : cl b X) : cl b (A ++ X) := fun n hn => ok_app (h1 n hn) (h2 n hn)
theorem cl_le {a b : Nat} {A : jm_H} (h : cl a A) (hab : a ≤ b) : cl b A := fun n hn => h n (Nat.le_trans hab hn)
theorem cl_set {b i : Nat} {A : jm_H} {c : jm_C} (h : cl b A) (hc : ∀ n, b ≤ n → jm_okC n c) : cl b (A.set i c) := fun n hn x hx => by
  rcases List.mem_or_eq_of_mem_set hx with h1 | h1
  · exact h n hn x h1
  · rw [h1]; exact hc n hn
theorem cl_one {b : Nat} {c : jm_C} (hc : ∀ n, b ≤ n → jm_okC n c) : cl b [c] := fun n hn x hx => by
  rw [List.mem_singleton.mp hx]; exact hc n hn
theorem okI {n m : Nat} {f : Nat → Int32} : jm_okC n (aI m f) := trivial
section AX
variable {A X : jm_H} {b : Nat}
theorem ax_get (hb : A.length = b) (j : Nat) : (A ++ X)[b + j]? = X[j]? := by
  rw [List.getElem?_append_right (by omega), ← hb, Nat.add_sub_cancel_left]
theorem ax_set (hb : A.length = b) (j : Nat) (c : jm_C) : (A ++ X).set (b + j) c = A ++ X.set j c := by
  rw [List.set_append_right _ _ (by omega), ← hb, Nat.add_sub_cancel_left]
theorem nw_e {h : jm_H} {c : jm_C} {lv : List Nat} {f : Nat → jm_H → Option jm_X} (hb : h.length = b) (hc : cl b h) (hl : ∀ r ∈ lv, r < b ∨ r = 1000000) (h9 : b < 1000000) : jf_nw c h lv f = f b (h ++ [c]) := by
  subst hb
  exact jf_nw_eq (hc _ (Nat.le_refl _)) (fun r hr => by rcases hl r hr with h | h <;> omega) h9
theorem lv2 {a c m : Nat} (ha : a < m) (hc : c < m) : jm_lv m [a, c, a] := fun r hr => by
  simp only [List.mem_cons, List.not_mem_nil, or_false] at hr
  rcases hr with rfl | rfl | rfl <;> exact Or.inl (by assumption)
theorem ini2 {k n : Nat} {x1 x2 : Int32} {f : jm_H → Option jm_X} (hb : A.length = b) (hA : cl b A) (hk : X.length = k + 1) (hX : cl (b + (k + 1)) X) (hn : (if 0 < x1 * x2 then x1 * x2 else 0) = nI n) (hn6 : n ≤ 60) (h9 : b + k < 999000) (hg : X[k]? = some (.inr (2, [.int 0, .null, .int 0]))) :
    jf_cV (FX2_init (b + k) x1 x2 (A ++ X)) f = f (A ++ (X.set k (.inr (2, [.int x2, .ref (b + (k + 1)), .int 0])) ++ [aI n (fun _ => 0)])) := by
  unfold FX2_init jf_naB
  rw [p_e (o := b + k) (fs := [.int 0, .null, .int 0]) ((ax_get hb k).trans hg) (by simp), ax_set hb, hn, nI_clamp (by omega), if_neg (fun h => h.elim (nI_pos (by omega)) (by omega))]
  have hl : (A ++ X.set k (.inr (2, [.int x2, .null, .int 0]))).length = b + (k + 1) := by rw [List.length_append, List.length_set, hb, hk]
  have hc : cl (b + (k + 1)) (A ++ X.set k (.inr (2, [.int x2, .null, .int 0]))) := cl_app (cl_le hA (by omega)) (cl_set hX (fun n hn v hv => by
    simp only [List.mem_cons, List.not_mem_nil, or_false] at hv
    rcases hv with rfl | rfl | rfl <;> exact fun e => by cases e))
  rw [show ([Value.int 0, .null, .int 0].set 0 (.int x2)) = [.int x2, .null, .int 0] from rfl, nw_e hl hc (fun r hr => by
    simp only [List.mem_cons, List.not_mem_nil, or_false] at hr
    rcases hr with rfl | rfl <;> exact Or.inl (by omega)) (by omega), List.append_assoc]
  have hg2 : (X.set k (.inr (2, [.int x2, .null, .int 0])) ++ [(.inl (0, (n, .inl (fun _ => 0))) : jm_C)])[k]? = some (.inr (2, [.int x2, .null, .int 0])) := by
    rw [List.getElem?_append_left (by rw [List.length_set]; omega), List.getElem?_set_self (by omega)]
  rw [p_e (o := b + k) (fs := [.int x2, .null, .int 0]) ((ax_get hb k).trans hg2) (by simp), ax_set hb, List.set_append_left _ _ (by rw [List.length_set]; omega), List.set_set]
  rfl
/-- one table more -/
theorem mkT {k n j : Nat} {x1 x2 : Int32} {fs : List Value} {g : jm_H → Option jm_X} (hb : A.length = b) (hA : cl b A) (hk : X.length = k) (hk0 : 0 < k) (hX : cl (b + k) X) (hn : (if 0 < x1 * x2 then x1 * x2 else 0) = nI n) (hn6 : n ≤ 60) (h9 : b + k < 990000) (hg : X[0]? = some (.inr (0, fs))) (hj : j < fs.length) :
    (jf_nw (.inr (2, [.int 0, .null, .int 0])) (A ++ X) [b, b] fun o h2 => jf_lv h2.length [b, o, b] (jf_cV (FX2_init o x1 x2 h2) fun h3 => jf_p 0 h3 b j (.ref o) g)) = g (A ++ (X.set 0 (.inr (0, fs.set j (.ref (b + k)))) ++ [.inr (2, [.int x2, .ref (b + (k + 1)), .int 0]), aI n (fun _ => 0)])) := by
  have hl : (A ++ X).length = b + k := by rw [List.length_append, hb, hk]
  have hT : ∀ n, b + (k + 1) ≤ n → jm_okC n (.inr (2, [.int 0, .null, .int 0])) := fun n hn v hv => by
    simp only [List.mem_cons, List.not_mem_nil, or_false] at hv
    rcases hv with rfl | rfl | rfl <;> exact fun e => by cases e
  rw [nw_e hl (cl_app (cl_le hA (by omega)) hX) (fun r hr => by
    simp only [List.mem_cons, List.not_mem_nil, or_false] at hr
    rcases hr with rfl | rfl <;> exact Or.inl (by omega)) (by omega), List.append_assoc]
  rw [jf_lv_eq (lv2 (by simp; omega) (by simp; omega))]
  rw [ini2 (k := k) (X := X ++ [.inr (2, [.int 0, .null, .int 0])]) (n := n) hb hA (by simp [hk]) (cl_app (cl_le hX (by omega)) (cl_one hT)) hn hn6 (by omega) (by rw [List.getElem?_append_right (by omega), hk, Nat.sub_self]; rfl)]
  have e1 : (X ++ [(.inr (2, [.int 0, .null, .int 0]) : jm_C)]).set k (.inr (2, [.int x2, .ref (b + (k + 1)), .int 0])) = X ++ [.inr (2, [.int x2, .ref (b + (k + 1)), .int 0])] := by
    rw [List.set_append_right _ _ (by omega), hk, Nat.sub_self]; rfl
  rw [e1, List.append_assoc]
  have hg2 : (X ++ ([(.inr (2, [.int x2, .ref (b + (k + 1)), .int 0]) : jm_C)] ++ [aI n (fun _ => 0)]))[0]? = some (.inr (0, fs)) := by
    rw [List.getElem?_append_left (by omega), hg]
  rw [p_e (o := b) (fs := fs) (show (A ++ (X ++ ([(.inr (2, [.int x2, .ref (b + (k + 1)), .int 0]) : jm_C)] ++ [aI n (fun _ => 0)])))[b + 0]? = _ from (ax_get hb 0).trans hg2) hj]
  show g ((A ++ (X ++ ([(.inr (2, [.int x2, .ref (b + (k + 1)), .int 0]) : jm_C)] ++ [aI n (fun _ => 0)]))).set (b + 0) _) = _
  rw [ax_set hb, List.set_append_left _ _ (by omega)]
  rfl
theorem mkT_cl {k n j : Nat} {x2 : Int32} {fs : List Value} (hk : X.length = k) (hX : cl (b + k) X) (hg : X[0]? = some (.inr (0, fs))) : cl (b + (k + 2)) (X.set 0 (.inr (0, fs.set j (.ref (b + k)))) ++ [.inr (2, [.int x2, .ref (b + (k + 1)), .int 0]), aI n (fun _ => 0)]) := by
  refine cl_app (cl_set (cl_le hX (by omega)) (fun n hn v hv => ?_)) (fun n hn c hc => ?_)
  · rcases List.mem_or_eq_of_mem_set hv with h1 | h1
    · exact hX n (by omega) _ (List.mem_of_getElem? hg) v h1
    · rw [h1]
      intro e
      have : b + k = n := by injection e
      omega
  · simp only [List.mem_cons, List.not_mem_nil, or_false] at hc
    rcases hc with rfl | rfl
    · intro v hv
      simp only [List.mem_cons, List.not_mem_nil, or_false] at hv
      rcases hv with rfl | rfl | rfl
      · exact fun e => by cases e
      · intro e
        have : b + (k + 1) = n := by injection e
        omega
      · exact fun e => by cases e
    · exact trivial
end AX
/-- a festival whose three small tables are not yet full -/
def fesR (b : Nat) (v : Nat → Int32) (c t j : Int32) : jm_H := [
  .inr (0, [.ref (b + 1), .ref (b + 3), .ref (b + 5), .ref (b + 7), .ref (b + 9), .ref (b + 11), .int (v 128), .int (v 129), .int (v 130), .int (v 131)]),
  .inr (2, [.int 2, .ref (b + 2), .int (v 0)]), aI 16 (sl v 10 16),
  .inr (2, [.int 1, .ref (b + 4), .int c]), aI 3 (sl v 7 3),
  .inr (2, [.int 1, .ref (b + 6), .int t]), aI 4 (sl v 3 4),
  .inr (2, [.int 5, .ref (b + 8), .int (v 1)]), aI 60 (sl v 26 60),
  .inr (2, [.int 3, .ref (b + 10), .int (v 2)]), aI 18 (sl v 86 18),
  .inr (2, [.int 8, .ref (b + 12), .int j]), aI 24 (sl v 104 24)]
section FR2
variable {A : jm_H} {b : Nat} {v : Nat → Int32} {c t j : Int32}
theorem fesR_f7 {x : Int32} : (fesR b v c t j).set 0 (.inr (0, [.ref (b + 1), .ref (b + 3), .ref (b + 5), .ref (b + 7), .ref (b + 9), .ref (b + 11), .int (v 128), .int x, .int (v 130), .int (v 131)])) = fesR b (upd v 129 x) c t j := by
  unfold fesR
  simp (disch := omega) only [sl_ne, pk_un, pk_us]
  rfl
theorem fesR_f8 {x : Int32} : (fesR b v c t j).set 0 (.inr (0, [.ref (b + 1), .ref (b + 3), .ref (b + 5), .ref (b + 7), .ref (b + 9), .ref (b + 11), .int (v 128), .int (v 129), .int x, .int (v 131)])) = fesR b (upd v 130 x) c t j := by
  unfold fesR
  simp (disch := omega) only [sl_ne, pk_un, pk_us]
  rfl
theorem fesR_f9 {x : Int32} : (fesR b v c t j).set 0 (.inr (0, [.ref (b + 1), .ref (b + 3), .ref (b + 5), .ref (b + 7), .ref (b + 9), .ref (b + 11), .int (v 128), .int (v 129), .int (v 130), .int x])) = fesR b (upd v 131 x) c t j := by
  unfold fesR
  simp (disch := omega) only [sl_ne, pk_un, pk_us]
  rfl
theorem fesR_a1 {k : Nat} {x : Int32} (hk : k < 3) : (fesR b v c t j).set 4 (aI 3 (upd (sl v 7 3) k x)) = fesR b (upd v (7 + k) x) c t j := by
  rw [sl_up hk]
  unfold fesR
  simp (disch := omega) only [sl_ne, pk_un]
  rfl
theorem fesR_a2 {k : Nat} {x : Int32} (hk : k < 4) : (fesR b v c t j).set 6 (aI 4 (upd (sl v 3 4) k x)) = fesR b (upd v (3 + k) x) c t j := by
  rw [sl_up hk]
  unfold fesR
  simp (disch := omega) only [sl_ne, pk_un]
  rfl
theorem k_ok {M : jm_M} {kc ks : Nat} {r : Option jm_X} (h : kc ≤ jm_mc M ∧ ks ≤ jm_ms M) : jf_k M kc ks r = r := if_pos h
theorem g0 (hb : A.length = b) : (A ++ fesR b v c t j)[b]? = some (.inr (0, [.ref (b + 1), .ref (b + 3), .ref (b + 5), .ref (b + 7), .ref (b + 9), .ref (b + 11), .int (v 128), .int (v 129), .int (v 130), .int (v 131)])) := ax_get hb 0
theorem g3 (hb : A.length = b) : (A ++ fesR b v c t j)[b + 3]? = some (.inr (2, [.int 1, .ref (b + 4), .int c])) := ax_get hb 3
theorem g4 (hb : A.length = b) : (A ++ fesR b v c t j)[b + 4]? = some (aI 3 (sl v 7 3)) := ax_get hb 4
theorem g5 (hb : A.length = b) : (A ++ fesR b v c t j)[b + 5]? = some (.inr (2, [.int 1, .ref (b + 6), .int t])) := ax_get hb 5
theorem g6 (hb : A.length = b) : (A ++ fesR b v c t j)[b + 6]? = some (aI 4 (sl v 3 4)) := ax_get hb 6
theorem g11 (hb : A.length = b) : (A ++ fesR b v c t j)[b + 11]? = some (.inr (2, [.int 8, .ref (b + 12), .int j])) := ax_get hb 11
theorem g12 (hb : A.length = b) : (A ++ fesR b v c t j)[b + 12]? = some (aI 24 (sl v 104 24)) := ax_get hb 12
theorem i_s (hb : A.length = b) {N n x : Nat} (hx : x < 3) :
    FX0_init_103 N (n + 1) 12 378 b (nI x) (A ++ fesR b v (nI x) t j) = FX0_init_103 N n 12 378 b (nI (x + 1)) (A ++ fesR b (upd v (7 + x) (nI (100 * (x + 1)))) (nI (x + 1)) t j) := by
  have e1 : (100 : Int32) * (nI x + 1) = nI (100 * (x + 1)) := by rw [nI_1, show (100 : Int32) = nI 100 from rfl, pk_mul]
  have eA : (A ++ fesR b v (nI x) t j).set (b + 3) (.inr (2, [.int (nI 1), .ref (b + 4), .int (nI (x + 1))])) = A ++ fesR b v (nI (x + 1)) t j := by rw [ax_set hb]; rfl
  have eB : (A ++ fesR b v (nI (x + 1)) t j).set (b + 4) (aI 3 (upd (sl v 7 3) (x * 1 + 0) (nI (100 * (x + 1))))) = A ++ fesR b (upd v (7 + x) (nI (100 * (x + 1)))) (nI (x + 1)) t j := by
    rw [ax_set hb, show x * 1 + 0 = x by omega, fesR_a1 hx]
  rw [FX0_init_103, k_ok ⟨Nat.le_refl 12, Nat.le_refl 378⟩, if_neg (show ¬ 3 ≤ nI x from nI_ge (b := 3) hx (by decide)), gR_e (k := 1) (v := b + 3) (g0 hb) rfl, gR_e (k := 1) (v := b + 3) (g0 hb) rfl, o_e (g3 hb), add_e (C := 1) (R := x) (n := 3) (g3 hb) (g4 hb) (by omega) (by decide) (by omega) (by decide), I_e, eA, o_e (g3 hb), e1]
  rw [show FX2_put (b + 3) (nI x) 0 (nI (100 * (x + 1))) = FX2_put (b + 3) (nI x) (nI 0) (nI (100 * (x + 1))) from rfl, put_e (C := 1) (R := x + 1) (n := 3) (g3 hb) (g4 hb) (by omega) (by omega) (by decide) (by decide) (by omega) (by decide), V_e, eB, nI_1]
theorem i_j (hb : A.length = b) {N n x : Nat} (hx : x < 3) : FX0_init_137 N (n + 1) 12 378 b (nI x) (A ++ fesR b v c t (nI x)) = FX0_init_137 N n 12 378 b (nI (x + 1)) (A ++ fesR b v c t (nI (x + 1))) := by
  have eA : (A ++ fesR b v c t (nI x)).set (b + 11) (.inr (2, [.int (nI 8), .ref (b + 12), .int (nI (x + 1))])) = A ++ fesR b v c t (nI (x + 1)) := by rw [ax_set hb]; rfl
  rw [FX0_init_137, k_ok ⟨Nat.le_refl 12, Nat.le_refl 378⟩, if_neg (show ¬ 3 ≤ nI x from nI_ge (b := 3) hx (by decide)), gR_e (k := 5) (v := b + 11) (g0 hb) rfl, o_e (g11 hb), add_e (C := 8) (R := x) (n := 24) (g11 hb) (g12 hb) (by omega) (by decide) (by omega) (by decide), I_e, eA, nI_1]
theorem i_t (hb : A.length = b) {N n x : Nat} (hx : x < 4) : FX0_init_158 N (n + 1) 12 378 b (nI x) (A ++ fesR b v c (nI x) j) = FX0_init_158 N n 12 378 b (nI (x + 1)) (A ++ fesR b v c (nI (x + 1)) j) := by
  have eA : (A ++ fesR b v c (nI x) j).set (b + 5) (.inr (2, [.int (nI 1), .ref (b + 6), .int (nI (x + 1))])) = A ++ fesR b v c (nI (x + 1)) j := by rw [ax_set hb]; rfl
  rw [FX0_init_158, k_ok ⟨Nat.le_refl 12, Nat.le_refl 378⟩, if_neg (show ¬ 4 ≤ nI x from nI_ge (b := 4) hx (by decide)), gR_e (k := 2) (v := b + 5) (g0 hb) rfl, o_e (g5 hb), add_e (C := 1) (R := x) (n := 4) (g5 hb) (g6 hb) (by omega) (by decide) (by omega) (by decide), I_e, eA, nI_1]
theorem i_p (hb : A.length = b) {x : Nat} {y : Int32} {g : jm_H → Option jm_X} (hx : x < 4) : (jf_gR 0 (A ++ fesR b v c 4 j) b 2 fun r101 => jf_V (jf_o 2 r101 (A ++ fesR b v c 4 j) (FX2_put r101 (nI x) 0 y (A ++ fesR b v c 4 j))) g) = g (A ++ fesR b (upd v (3 + x) y) c 4 j) := by
  have eB : (A ++ fesR b v c 4 j).set (b + 6) (aI 4 (upd (sl v 3 4) (x * 1 + 0) y)) = A ++ fesR b (upd v (3 + x) y) c 4 j := by
    rw [ax_set hb, show x * 1 + 0 = x by omega, fesR_a2 hx]
  rw [gR_e (k := 2) (v := b + 5) (g0 hb) rfl, o_e (g5 hb), show FX2_put (b + 5) (nI x) 0 y = FX2_put (b + 5) (nI x) (nI 0) y from rfl, put_e (h := A ++ fesR b v c 4 j) (t := b + 5) (u := b + 6) (k := 0) (C := 1) (R := 4) (n := 4) (g5 hb) (g6 hb) hx (by omega) (by decide) (by decide) (by omega) (by decide), V_e, eB]
theorem i_p0 (hb : A.length = b) {y : Int32} {g : jm_H → Option jm_X} : (jf_gR 0 (A ++ fesR b v c 4 j) b 2 fun r101 => jf_V (jf_o 2 r101 (A ++ fesR b v c 4 j) (FX2_put r101 0 0 y (A ++ fesR b v c 4 j))) g) = g (A ++ fesR b (upd v (3 + 0) y) c 4 j) := i_p (x := 0) hb (by decide)
theorem i_p1 (hb : A.length = b) {y : Int32} {g : jm_H → Option jm_X} : (jf_gR 0 (A ++ fesR b v c 4 j) b 2 fun r101 => jf_V (jf_o 2 r101 (A ++ fesR b v c 4 j) (FX2_put r101 1 0 y (A ++ fesR b v c 4 j))) g) = g (A ++ fesR b (upd v (3 + 1) y) c 4 j) := i_p (x := 1) hb (by decide)
theorem i_p2 (hb : A.length = b) {y : Int32} {g : jm_H → Option jm_X} : (jf_gR 0 (A ++ fesR b v c 4 j) b 2 fun r101 => jf_V (jf_o 2 r101 (A ++ fesR b v c 4 j) (FX2_put r101 2 0 y (A ++ fesR b v c 4 j))) g) = g (A ++ fesR b (upd v (3 + 2) y) c 4 j) := i_p (x := 2) hb (by decide)
theorem i_p3 (hb : A.length = b) {y : Int32} {g : jm_H → Option jm_X} : (jf_gR 0 (A ++ fesR b v c 4 j) b 2 fun r101 => jf_V (jf_o 2 r101 (A ++ fesR b v c 4 j) (FX2_put r101 3 0 y (A ++ fesR b v c 4 j))) g) = g (A ++ fesR b (upd v (3 + 3) y) c 4 j) := i_p (x := 3) hb (by decide)
def vC : Nat → Int32 := upd (upd (upd (upd (upd (upd (upd (upd (upd (upd (fun _ => 0) 129 (-1)) 130 (-1)) 131 (-1)) 7 100) 8 200) 9 300) 3 10) 4 15) 5 10) 6 5
theorem i_all (hb : A.length = b) {N : Nat} (hN : 10 ≤ N) : FX0_init_103 N N 12 378 b 0 (A ++ fesR b (upd (upd (upd (fun _ => 0) 129 (-1)) 130 (-1)) 131 (-1)) 0 0 0) = rV (A ++ fest b vC) := by
  obtain ⟨M, rfl⟩ : ∃ M, N = M + 5 := ⟨N - 5, by omega⟩
  rw [show FX0_init_103 (M + 5) (M + 5) 12 378 b 0 (A ++ fesR b (upd (upd (upd (fun _ => 0) 129 (-1)) 130 (-1)) 131 (-1)) 0 0 0) = FX0_init_103 (M + 5) (M + 2 + 1 + 1 + 1) 12 378 b (nI 0) (A ++ fesR b (upd (upd (upd (fun _ => 0) 129 (-1)) 130 (-1)) 131 (-1)) (nI 0) 0 0) from rfl, i_s hb (by decide), i_s hb (by decide), i_s hb (by decide)]
  rw [FX0_init_103, k_ok ⟨Nat.le_refl 12, Nat.le_refl 378⟩, if_pos (show (3 : Int32) ≤ nI (0 + 1 + 1 + 1) by decide)]
  rw [show ∀ h, FX0_init_137 (M + 5) (M + 5) 12 378 b 0 h = FX0_init_137 (M + 5) (M + 2 + 1 + 1 + 1) 12 378 b (nI 0) h from fun _ => rfl, show ∀ v c, A ++ fesR b v c 0 0 = A ++ fesR b v c 0 (nI 0) from fun _ _ => rfl, i_j hb (by decide), i_j hb (by decide), i_j hb (by decide)]
  rw [FX0_init_137, k_ok ⟨Nat.le_refl 12, Nat.le_refl 378⟩, if_pos (show (3 : Int32) ≤ nI (0 + 1 + 1 + 1) by decide)]
  rw [show ∀ h, FX0_init_158 (M + 5) (M + 5) 12 378 b 0 h = FX0_init_158 (M + 5) (M + 1 + 1 + 1 + 1 + 1) 12 378 b (nI 0) h from fun _ => rfl, show ∀ v c j, A ++ fesR b v c 0 j = A ++ fesR b v c (nI 0) j from fun _ _ _ => rfl, i_t hb (by decide), i_t hb (by decide), i_t hb (by decide), i_t hb (by decide)]
  rw [FX0_init_158, k_ok ⟨Nat.le_refl 12, Nat.le_refl 378⟩, if_pos (show (4 : Int32) ≤ nI (0 + 1 + 1 + 1 + 1) by decide)]
  rw [show ∀ v c j, A ++ fesR b v c (nI (0 + 1 + 1 + 1 + 1)) j = A ++ fesR b v c 4 j from fun _ _ _ => rfl]
  rw [i_p0 hb]
  rw [i_p1 hb]
  rw [i_p2 hb]
  rw [i_p3 hb]
  rfl
theorem F0_tail (hb : A.length = b) {N : Nat} (hN : 10 ≤ N) {X : jm_H} (hX : X = fesR b (fun _ => 0) 0 0 0) : (jf_p 0 (A ++ X) b 7 (.int (-1)) fun h125 => jf_p 0 h125 b 8 (.int (-1)) fun h126 => jf_p 0 h126 b 9 (.int (-1)) fun h127 => FX0_init_103 N N 12 378 b 0 h127) = rV (A ++ fest b vC) := by
  subst hX
  rw [p_e (o := b) (g0 hb) (show 7 < 10 by decide)]
  rw [show (A ++ fesR b (fun _ => 0) 0 0 0).set b (.inr (0, [Value.ref (b + 1), .ref (b + 3), .ref (b + 5), .ref (b + 7), .ref (b + 9), .ref (b + 11), .int ((fun _ => 0 : Nat → Int32) 128), .int ((fun _ => 0 : Nat → Int32) 129), .int ((fun _ => 0 : Nat → Int32) 130), .int ((fun _ => 0 : Nat → Int32) 131)].set 7 (.int (-1)))) = A ++ fesR b (upd (fun _ => 0) 129 (-1)) 0 0 0 from (ax_set hb 0 _).trans (congrArg (A ++ ·) fesR_f7)]
  rw [p_e (o := b) (g0 hb) (show 8 < 10 by decide)]
  rw [show ∀ v : Nat → Int32, (A ++ fesR b v 0 0 0).set b (.inr (0, [Value.ref (b + 1), .ref (b + 3), .ref (b + 5), .ref (b + 7), .ref (b + 9), .ref (b + 11), .int (v 128), .int (v 129), .int (v 130), .int (v 131)].set 8 (.int (-1)))) = A ++ fesR b (upd v 130 (-1)) 0 0 0 from fun v => (ax_set hb 0 _).trans (congrArg (A ++ ·) fesR_f8)]
  rw [p_e (o := b) (g0 hb) (show 9 < 10 by decide)]
  rw [show ∀ v : Nat → Int32, (A ++ fesR b v 0 0 0).set b (.inr (0, [Value.ref (b + 1), .ref (b + 3), .ref (b + 5), .ref (b + 7), .ref (b + 9), .ref (b + 11), .int (v 128), .int (v 129), .int (v 130), .int (v 131)].set 9 (.int (-1)))) = A ++ fesR b (upd v 131 (-1)) 0 0 0 from fun v => (ax_set hb 0 _).trans (congrArg (A ++ ·) fesR_f9)]
  exact i_all hb hN
theorem F0_init (hb : A.length = b) (hA : cl b A) (h9 : b < 900000) {N : Nat} (hN : 10 ≤ N) : FX0_init N b (A ++ [.inr (0, [.null, .null, .null, .null, .null, .null, .int 0, .int 0, .int 0, .int 0])]) = rV (A ++ fest b vC) := by
  unfold FX0_init
  have c1 : cl (b + 1) [(.inr (0, [.null, .null, .null, .null, .null, .null, .int 0, .int 0, .int 0, .int 0]) : jm_C)] := cl_one (fun n hn v hv => by
    simp only [List.mem_cons, List.not_mem_nil, or_false] at hv
    rcases hv with rfl | rfl | rfl | rfl | rfl | rfl | rfl | rfl | rfl | rfl <;> exact fun e => by cases e)
  have c2 := mkT_cl (n := 16) (j := 0) (x2 := 2) (by rfl) c1 (by rfl)
  have c3 := mkT_cl (n := 3) (j := 1) (x2 := 1) (by rfl) c2 (by rfl)
  have c4 := mkT_cl (n := 4) (j := 2) (x2 := 1) (by rfl) c3 (by rfl)
  have c5 := mkT_cl (n := 60) (j := 3) (x2 := 5) (by rfl) c4 (by rfl)
  have c6 := mkT_cl (n := 18) (j := 4) (x2 := 3) (by rfl) c5 (by rfl)
  rw [mkT hb hA (by rfl) (by decide) c1 (n := 16) (by decide) (by decide) (by omega) (by rfl) (by simp)]
  rw [mkT hb hA (by rfl) (by decide) c2 (n := 3) (by decide) (by decide) (by omega) (by rfl) (by simp)]
  rw [mkT hb hA (by rfl) (by decide) c3 (n := 4) (by decide) (by decide) (by omega) (by rfl) (by simp)]
  rw [mkT hb hA (by rfl) (by decide) c4 (n := 60) (by decide) (by decide) (by omega) (by rfl) (by simp)]
  rw [mkT hb hA (by rfl) (by decide) c5 (n := 18) (by decide) (by decide) (by omega) (by rfl) (by simp)]
  rw [mkT hb hA (by rfl) (by decide) c6 (n := 24) (by decide) (by decide) (by omega) (by rfl) (by simp)]
  refine F0_tail hb hN ?_
  unfold fesR
  simp only [sl_0]
  rfl
end FR2


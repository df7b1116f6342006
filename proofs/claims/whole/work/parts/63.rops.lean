/-! THE REFERENCE: what changes its row; what is saved -/
def lay (w : Nat → Int32) (o : Nat) (u : Nat → Int32) : Nat → Int32 := fd (fun j w => upd w (o + j) (u j)) 0 132 w
theorem fd_lay {u : Nat → Int32} {o : Nat} : ∀ (d a : Nat) (w : Nat → Int32) (x : Nat), fd (fun j w => upd w (o + j) (u j)) a d w x = if o + a ≤ x ∧ x < o + a + d then u (x - o) else w x
  | 0, a, w, x => by
    rw [if_neg (by omega)]; rfl
  | d + 1, a, w, x => by
    show fd (fun j w => upd w (o + j) (u j)) (a + 1) d (upd w (o + a) (u a)) x = _
    rw [fd_lay d (a + 1)]
    by_cases h1 : o + (a + 1) ≤ x ∧ x < o + (a + 1) + d
    · rw [if_pos h1, if_pos (by omega)]
    · rw [if_neg h1]
      by_cases h2 : x = o + a
      · subst h2; rw [pk_us, if_pos (by omega)]; congr 1; omega
      · rw [pk_un h2, if_neg (by omega)]
theorem lay_in {w u : Nat → Int32} {o x : Nat} (h : x < 132) : lay w o u (o + x) = u x := by
  unfold lay
  rw [fd_lay, if_pos (by omega)]; congr 1; omega
theorem lay_out {w u : Nat → Int32} {o x : Nat} (h : x < o ∨ o + 132 ≤ x) : lay w o u x = w x := by
  unfold lay
  rw [fd_lay, if_neg (by omega)]
theorem lays_e {N a b o : Nat} {x1 x3 : Int32} {u : Nat → Int32} (H : (Nat → Int32) → jm_H) (hN : 133 ≤ N) (hld : ∀ w j (g : Int32 → Option jm_X), j < 132 → jf_ldI (H w) a (x1 + nI j) g = g (u j)) (hst : ∀ w j x (g : jm_H → Option jm_X), j < 132 → jf_stI (H w) b (x3 + nI j) x g = g (H (upd w (o + j) x))) (w : Nat → Int32) : FX4_lays N a x1 b x3 (H w) = rV (H (lay w o u)) := by
  unfold FX4_lays
  exact lp_fold (fun n x w => FX4_lays_3 N n a x1 b x3 x (H w)) 132 (fun j w => upd w (o + j) (u j)) (fun w => rV (H w)) (fun _ _ => True)
    (fun n w _ => by
      show FX4_lays_3 N (n + 1) a x1 b x3 (nI 132) (H w) = _
      rw [FX4_lays_3, if_pos (by decide)])
    (fun n x w hk _ => ⟨by
      show FX4_lays_3 N (n + 1) a x1 b x3 (nI x) (H w) = _
      rw [FX4_lays_3, if_neg (show ¬ 132 ≤ nI x from nI_ge (b := 132) hk (by decide)), hld w x _ hk, hst w x _ _ hk, nI_1], trivial⟩)
    132 N 0 w (by omega) (by omega) trivial
/-- the saved rows after one more -/
def sv (p : Nat → Int32) (n : Nat) (v : Nat → Int32) : Nat → Int32 := if n = 6 then lay (mvc 132 0 660 p) 660 v else lay p (132 * n) v
def svN (n : Nat) : Nat := if n = 6 then 6 else n + 1
theorem add00 (x : Int32) : 0 + x = x := Int32.zero_add x
section RO
variable {P : jm_H} {v p k t l rs : Nat → Int32} {hs : Int64} {q : jm_H} {N n : Nat}
theorem r_saves (hP : P.length = 108) (hN : 661 ≤ N) (hn : rs 0 = nI n) (h6 : n ≤ 6) : FX4_saves N 108 (hR P v p k t l rs hs q) = rV (hR P v (sv p n v) k t l (upd rs 0 (nI (svN n))) hs q) := by
  unfold FX4_saves sv svN
  rw [r_i0 hP, hn]
  by_cases h : n = 6
  · subst h
    rw [if_pos rfl, if_pos rfl, if_pos (show nI 6 = 6 from rfl)]
    have L := lp_fold (fun n x (w : Nat → Int32) => FX4_saves_11 N n 108 x (hR P v w k t l rs hs q)) 660 (fun i w => upd w i (w (i + 132))) (fun w => rV (hR P v (lay w 660 v) k t l (upd rs 0 6) hs q)) (fun _ _ => True)
      (fun n w _ => by
        show FX4_saves_11 N (n + 1) 108 (nI 660) (hR P v w k t l rs hs q) = _
        rw [FX4_saves_11, if_pos (by decide), r_i0 hP, hn, r_p0 hP, r_now hP, r_past hP, r_i0 hP, pk_us, show (132 : Int32) * (nI 6 - 1) = nI 660 by decide]
        have := lays_e (N := N) (a := 109) (b := 110) (o := 660) (x1 := 0) (x3 := nI 660) (u := v) (fun w => hR P v w k t l (upd rs 0 (nI 6 - 1)) hs q) (by omega) (fun w j g hj => by rw [add00]; exact r_ld hP hj) (fun w j x g hj => by rw [nI_add]; exact r_stp hP (by omega)) w
        rw [this, V_e, r_i0 hP, pk_us, r_p0 hP]
        have e : upd (upd rs 0 (nI 6 - 1)) 0 (nI 6 - 1 + 1) = upd rs 0 6 := by
          funext x
          by_cases hx : x = 0
          · subst hx; rw [pk_us, pk_us]; decide
          · rw [pk_un hx, pk_un hx, pk_un hx]
        rw [e])
      (fun n x w hk _ => ⟨by
        show FX4_saves_11 N (n + 1) 108 (nI x) (hR P v w k t l rs hs q) = _
        rw [FX4_saves_11, if_neg (show ¬ 660 ≤ nI x from nI_ge (b := 660) hk (by decide)), r_past hP, r_past hP, show nI x + 132 = nI (x + 132) from nI_add x 132, r_ldp hP (by omega), r_stp hP (by omega), nI_1], trivial⟩)
      660 N 0 p (by omega) (by omega) trivial
    exact L
  · rw [if_neg h, if_neg h, if_neg (show ¬ nI n = 6 from fun e => h ((nI_eq (a := n) (b := 6) (by omega) (by decide)).mp e)), r_now hP, r_past hP, r_i0 hP, hn, show (132 : Int32) * nI n = nI (132 * n) from pk_mul 132 n]
    have := lays_e (N := N) (a := 109) (b := 110) (o := 132 * n) (x1 := 0) (x3 := nI (132 * n)) (u := v) (fun w => hR P v w k t l rs hs q) (by omega) (fun w j g hj => by rw [add00]; exact r_ld hP hj) (fun w j x g hj => by rw [nI_add]; exact r_stp hP (by omega)) p
    rw [this, V_e, r_i0 hP, hn, nI_1, r_p0 hP]
theorem r_stops (hP : P.length = 108) {a b c : Int32} : FX4_stops 108 a b c (hR P v p k t l rs hs q) = rV (hR P (uStop v a b c) p k t l rs hs q) := by
  unfold FX4_stops
  rw [r_now hP, show (129 : Int32) = nI 129 from rfl, r_st hP (by decide), r_now hP, show (130 : Int32) = nI 130 from rfl, r_st hP (by decide), r_now hP, show (131 : Int32) = nI 131 from rfl, r_st hP (by decide)]
  rfl
theorem r_bec (hP : P.length = 108) {s c : Nat} {x : Int32} (hs' : s < 12) (hc : c < 5) : FX4_becomes 108 (nI s) (nI c) x (hR P v p k t l rs hs q) = rV (hR P (upd v (26 + 5 * s + c) x) p k t l rs hs q) := by
  unfold FX4_becomes
  rw [r_now hP, show (26 : Int32) + 5 * nI s + nI c = nI (26 + 5 * s + c) by rw [← nI_add, ← nI_add, ← pk_mul]; rfl, r_st hP (by omega)]
theorem upd_comm {v : Nat → Int32} {a b : Nat} {x y : Int32} (h : a ≠ b) : upd (upd v a x) b y = upd (upd v b y) a x := by
  funext j
  by_cases h1 : j = b
  · subst h1; rw [pk_us, pk_un (Ne.symm h), pk_us]
  · rw [pk_un h1]
    by_cases h2 : j = a
    · subst h2; rw [pk_us, pk_us]
    · rw [pk_un h2, pk_un h2, pk_un h1]
theorem r_makes (hP : P.length = 108) (hI : Iv v) (h8 : cnt v 1 < 12) {f c a pp : Int32} : FX4_makes 108 f c a pp (hR P v p k t l rs hs q) = rV (hR P (uShow v f c a pp) p k t l rs hs q) := by
  unfold FX4_makes
  rw [r_now hP, r_n1 hP, hI.ns.1, r_o hP]
  rw [show FX4_becomes 108 (nI (cnt v 1)) 0 f = FX4_becomes 108 (nI (cnt v 1)) (nI 0) f from rfl, r_bec hP h8 (by decide), V_e, r_o hP]
  rw [show FX4_becomes 108 (nI (cnt v 1)) 1 c = FX4_becomes 108 (nI (cnt v 1)) (nI 1) c from rfl, r_bec hP h8 (by decide), V_e, r_o hP]
  rw [show FX4_becomes 108 (nI (cnt v 1)) 2 a = FX4_becomes 108 (nI (cnt v 1)) (nI 2) a from rfl, r_bec hP h8 (by decide), V_e, r_o hP]
  rw [show FX4_becomes 108 (nI (cnt v 1)) 3 pp = FX4_becomes 108 (nI (cnt v 1)) (nI 3) pp from rfl, r_bec hP h8 (by decide), V_e, r_o hP]
  rw [show FX4_becomes 108 (nI (cnt v 1)) 4 0 = FX4_becomes 108 (nI (cnt v 1)) (nI 4) 0 from rfl, r_bec hP h8 (by decide), V_e]
  rw [r_now hP, r_n1 hP, pk_un (by omega), pk_un (by omega), pk_un (by omega), pk_un (by omega), pk_un (by omega), hI.ns.1, nI_1, show jf_stI (hR P (upd (upd (upd (upd (upd v (26 + 5 * cnt v 1 + 0) f) (26 + 5 * cnt v 1 + 1) c) (26 + 5 * cnt v 1 + 2) a) (26 + 5 * cnt v 1 + 3) pp) (26 + 5 * cnt v 1 + 4) 0) p k t l rs hs q) 109 1 = jf_stI (hR P (upd (upd (upd (upd (upd v (26 + 5 * cnt v 1 + 0) f) (26 + 5 * cnt v 1 + 1) c) (26 + 5 * cnt v 1 + 2) a) (26 + 5 * cnt v 1 + 3) pp) (26 + 5 * cnt v 1 + 4) 0) p k t l rs hs q) 109 (nI 1) from rfl, r_st hP (by decide)]
  unfold uShow nUp
  rw [upd_comm (b := 1) (by omega), upd_comm (b := 1) (by omega), upd_comm (b := 1) (by omega), upd_comm (b := 1) (by omega), upd_comm (b := 1) (by omega)]
theorem fd_comm1 {a d : Nat} {v : Nat → Int32} {x : Int32} (ha : 2 ≤ a) : mv a d (upd v 1 x) = upd (mv a d v) 1 x := by
  funext j
  rw [mv_e]
  by_cases h1 : j = 1
  · subst h1; rw [pk_us, pk_us, if_neg (by omega)]
  · rw [pk_un (show j + 5 ≠ 1 by omega), pk_un h1, pk_un h1, mv_e]
theorem r_dropl (hP : P.length = 108) {s : Nat} (hN : 100 ≤ N) {x : Int32} {v : Nat → Int32} {n : Nat} (hn : n ≤ 12) (hv : v 1 = nI n) (hs' : s ≤ n) : FX4_callOff_50 N N 108 x (nI (26 + 5 * s)) (hR P v p k t l rs hs q) = rI x (hR P (upd (mv (26 + 5 * s) (5 * (n - s)) v) 128 (v 128 + 1)) p k t l rs hs q) := by
  have L := lp_fold (fun n x' (w : Nat → Int32) => FX4_callOff_50 N n 108 x x' (hR P w p k t l rs hs q)) (26 + 5 * n) (fun i w => upd w i (w (i + 5))) (fun w => rI x (hR P (upd w 128 (w 128 + 1)) p k t l rs hs q)) (fun i w => 26 ≤ i ∧ w 1 = nI n)
    (fun m w hw => by
      show FX4_callOff_50 N (m + 1) 108 x (nI (26 + 5 * n)) (hR P w p k t l rs hs q) = _
      rw [FX4_callOff_50, r_now hP, r_n1 hP, hw.2, show (26 : Int32) + 5 * nI n = nI (26 + 5 * n) by rw [← nI_add, ← pk_mul]; rfl, if_pos (Int32.le_refl _), r_now hP, show (128 : Int32) = nI 128 from rfl, r_ld hP (by decide), r_st hP (by decide)])
    (fun m i w hk hw => ⟨by
      have hi := hw.1
      show FX4_callOff_50 N (m + 1) 108 x (nI i) (hR P w p k t l rs hs q) = _
      rw [FX4_callOff_50, r_now hP, r_n1 hP, hw.2, show (26 : Int32) + 5 * nI n = nI (26 + 5 * n) by rw [← nI_add, ← pk_mul]; rfl, if_neg (nI_ge hk (by omega)), r_now hP, r_now hP, show nI i + 5 = nI (i + 5) from nI_add i 5, r_ld hP (by omega), r_st hP (by omega), nI_1], by
      have hi := hw.1
      exact ⟨by omega, by rw [pk_un (by omega)]; exact hw.2⟩⟩)
    (5 * (n - s)) N (26 + 5 * s) v (by omega) (by omega) ⟨by omega, hv⟩
  have e : mv (26 + 5 * s) (5 * (n - s)) v 128 = v 128 := by rw [mv_e, if_neg (by omega)]
  rw [L]
  show rI x (hR P (upd (mv (26 + 5 * s) (5 * (n - s)) v) 128 (mv (26 + 5 * s) (5 * (n - s)) v 128 + 1)) p k t l rs hs q) = _
  rw [e]
end RO

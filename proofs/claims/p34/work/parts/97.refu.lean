/-! P34: what is refused (printed by wip/p34/ref34.py) -/
theorem cdX : cdE eX = -11 := if_pos rfl
theorem cdA : cdE eA = -12 := (if_neg (by decide)).trans (if_pos rfl)
theorem cdI : cdE eI = -13 := (if_neg (by decide)).trans (if_neg (by decide))
theorem far0 {a b : Int32} {h : jm_H} : FL_far 0 a b h = rI (a - 1) h := if_pos rfl
theorem far1 {a b : Int32} {h : jm_H} : FL_far 1 a b h = rI (b + 1) h := (if_neg (by decide)).trans (if_pos rfl)
theorem far2 {a b : Int32} {h : jm_H} : FL_far 2 a b h = rI (-2147483648) h := (if_neg (by decide)).trans ((if_neg (by decide)).trans (if_pos rfl))
theorem far3 {a b : Int32} {h : jm_H} : FL_far 3 a b h = rI 2147483647 h := (if_neg (by decide)).trans ((if_neg (by decide)).trans (if_neg (by decide)))
theorem nN0 {n : Nat} : ¬ inN (0 - 1) n := fun h => absurd h.1 (by decide)
theorem nN1 {n : Nat} (hn : n < 4000) : ¬ inN (nI n - 1 + 1) n := fun h => by
  have e : nI n - 1 + 1 = nI n := by rw [Int32.sub_add_cancel]
  rw [e] at h
  have := h.2
  rw [ixN_n (by omega)] at this
  omega
theorem nN2 {n : Nat} : ¬ inN (-2147483648) n := fun h => absurd h.1 (by decide)
theorem nN3 {n : Nat} (hn : n < 4000) : ¬ inN 2147483647 n := fun h => by
  have := h.2
  have e : ixN 2147483647 = 2147483647 := by decide +kernel
  rw [e] at this
  omega
theorem nNz {n : Nat} (hn : 0 < n ∧ n < 4000) : inN 0 n := (inN_i (by omega)).mpr ⟨0, hn.1, rfl⟩
section RF
variable {q : jm_H} {v : Nat → Int32} {S : List (Nat → Int32)} {K : Option (Nat → Int32)} {h : jm_H} {N : Nat}
set_option maxRecDepth 20000 in
theorem q_refusesFilms_614_0 (hN : 2001 ≤ N) (cs : Cs q v S K [] h) : FL_refusesFilms_614 N N 0 0 (0 - 1) (0 - 1) h = rI 1 h := by
  have hI := Cs_Iv cs
  have hn0 : cnt v 0 < 4000 := by have := hI.nf.2; omega
  have hn1 : cnt v 1 < 4000 := by have := hI.ns.2; omega
  have hn2 : cnt v 2 < 4000 := by have := hI.ng.2; omega
  obtain ⟨M, rfl⟩ : ∃ M, N = M + 1 := ⟨N - 1, by omega⟩
  rw [FL_refusesFilms_614]
  rw [cR_17 (a := (0 - 1)) (b := (-1)) (c := 0) (l := 0) hN cs okX (if_neg (by decide +kernel)), cdX, I_e, if_pos rfl, cR_17 (a := 2) (b := (0 - 1)) (c := 0) (l := 0) hN cs okA9 ((if_pos (by decide +kernel)).trans (if_neg (by decide +kernel))), cdA, I_e, if_pos rfl, cR_18 (a := (0 - 1)) (b := 9) (c := 0) (l := 0) hN cs okX (if_neg (by decide +kernel)), cdX, I_e, if_pos rfl, far0, I_e, cR_18 (a := 0) (b := (0 - 1)) (c := 0) (l := 0) hN cs okA9 ((if_pos (by decide +kernel)).trans (if_neg (by decide +kernel))), cdA, I_e, if_pos rfl, far0, I_e, cR_21 (a := (0 - 1)) (b := 0) (c := 0) (l := 0) hN cs okA9 (if_neg (by decide +kernel)), cdA, I_e, if_pos rfl, cR_26 (a := (0 - 1)) (b := 0) (c := 0) (l := 0) cs (by decide +kernel), I_e, if_pos rfl]
set_option maxRecDepth 20000 in
theorem q_refusesFilms_614_1 (hN : 2001 ≤ N) (cs : Cs q v S K [] h) : FL_refusesFilms_614 N N 0 1 (2 + 1) (1999 + 1) h = rI 1 h := by
  have hI := Cs_Iv cs
  have hn0 : cnt v 0 < 4000 := by have := hI.nf.2; omega
  have hn1 : cnt v 1 < 4000 := by have := hI.ns.2; omega
  have hn2 : cnt v 2 < 4000 := by have := hI.ng.2; omega
  obtain ⟨M, rfl⟩ : ∃ M, N = M + 1 := ⟨N - 1, by omega⟩
  rw [FL_refusesFilms_614]
  rw [cR_17 (a := (2 + 1)) (b := (-1)) (c := 0) (l := 0) hN cs okX (if_neg (by decide +kernel)), cdX, I_e, if_pos rfl, cR_17 (a := 2) (b := (1999 + 1)) (c := 0) (l := 0) hN cs okA9 ((if_pos (by decide +kernel)).trans (if_neg (by decide +kernel))), cdA, I_e, if_pos rfl, cR_18 (a := (2 + 1)) (b := 9) (c := 0) (l := 0) hN cs okX (if_neg (by decide +kernel)), cdX, I_e, if_pos rfl, far1, I_e, cR_18 (a := 0) (b := (4 + 1)) (c := 0) (l := 0) hN cs okA9 ((if_pos (by decide +kernel)).trans (if_neg (by decide +kernel))), cdA, I_e, if_pos rfl, far1, I_e, cR_21 (a := (11 + 1)) (b := 0) (c := 0) (l := 0) hN cs okA9 (if_neg (by decide +kernel)), cdA, I_e, if_pos rfl, cR_26 (a := (2 + 1)) (b := 0) (c := 0) (l := 0) cs (by decide +kernel), I_e, if_pos rfl]
set_option maxRecDepth 20000 in
theorem q_refusesFilms_614_2 (hN : 2001 ≤ N) (cs : Cs q v S K [] h) : FL_refusesFilms_614 N N 0 2 (-2147483648) (-2147483648) h = rI 1 h := by
  have hI := Cs_Iv cs
  have hn0 : cnt v 0 < 4000 := by have := hI.nf.2; omega
  have hn1 : cnt v 1 < 4000 := by have := hI.ns.2; omega
  have hn2 : cnt v 2 < 4000 := by have := hI.ng.2; omega
  obtain ⟨M, rfl⟩ : ∃ M, N = M + 1 := ⟨N - 1, by omega⟩
  rw [FL_refusesFilms_614]
  rw [cR_17 (a := (-2147483648)) (b := (-1)) (c := 0) (l := 0) hN cs okX (if_neg (by decide +kernel)), cdX, I_e, if_pos rfl, cR_17 (a := 2) (b := (-2147483648)) (c := 0) (l := 0) hN cs okA9 ((if_pos (by decide +kernel)).trans (if_neg (by decide +kernel))), cdA, I_e, if_pos rfl, cR_18 (a := (-2147483648)) (b := 9) (c := 0) (l := 0) hN cs okX (if_neg (by decide +kernel)), cdX, I_e, if_pos rfl, far2, I_e, cR_18 (a := 0) (b := (-2147483648)) (c := 0) (l := 0) hN cs okA9 ((if_pos (by decide +kernel)).trans (if_neg (by decide +kernel))), cdA, I_e, if_pos rfl, far2, I_e, cR_21 (a := (-2147483648)) (b := 0) (c := 0) (l := 0) hN cs okA9 (if_neg (by decide +kernel)), cdA, I_e, if_pos rfl, cR_26 (a := (-2147483648)) (b := 0) (c := 0) (l := 0) cs (by decide +kernel), I_e, if_pos rfl]
set_option maxRecDepth 20000 in
theorem q_refusesFilms_614_3 (hN : 2001 ≤ N) (cs : Cs q v S K [] h) : FL_refusesFilms_614 N N 0 3 2147483647 2147483647 h = rI 1 h := by
  have hI := Cs_Iv cs
  have hn0 : cnt v 0 < 4000 := by have := hI.nf.2; omega
  have hn1 : cnt v 1 < 4000 := by have := hI.ns.2; omega
  have hn2 : cnt v 2 < 4000 := by have := hI.ng.2; omega
  obtain ⟨M, rfl⟩ : ∃ M, N = M + 1 := ⟨N - 1, by omega⟩
  rw [FL_refusesFilms_614]
  rw [cR_17 (a := 2147483647) (b := (-1)) (c := 0) (l := 0) hN cs okX (if_neg (by decide +kernel)), cdX, I_e, if_pos rfl, cR_17 (a := 2) (b := 2147483647) (c := 0) (l := 0) hN cs okA9 ((if_pos (by decide +kernel)).trans (if_neg (by decide +kernel))), cdA, I_e, if_pos rfl, cR_18 (a := 2147483647) (b := 9) (c := 0) (l := 0) hN cs okX (if_neg (by decide +kernel)), cdX, I_e, if_pos rfl, far3, I_e, cR_18 (a := 0) (b := 2147483647) (c := 0) (l := 0) hN cs okA9 ((if_pos (by decide +kernel)).trans (if_neg (by decide +kernel))), cdA, I_e, if_pos rfl, far3, I_e, cR_21 (a := 2147483647) (b := 0) (c := 0) (l := 0) hN cs okA9 (if_neg (by decide +kernel)), cdA, I_e, if_pos rfl, cR_26 (a := 2147483647) (b := 0) (c := 0) (l := 0) cs (by decide +kernel), I_e, if_pos rfl]
set_option maxRecDepth 20000 in
theorem q_refusesFilms_482_0 (hN : 2001 ≤ N) (cs : Cs q v S K [] h) (hz0 : 0 < cnt v 0 ∧ cnt v 0 < 4000) : FL_refusesFilms_482 N N 0 0 (0 - 1) (0 - 1) h = rI 1 h := by
  have hI := Cs_Iv cs
  have hn0 : cnt v 0 < 4000 := by have := hI.nf.2; omega
  have hn1 : cnt v 1 < 4000 := by have := hI.ns.2; omega
  have hn2 : cnt v 2 < 4000 := by have := hI.ng.2; omega
  obtain ⟨M, rfl⟩ : ∃ M, N = M + 1 := ⟨N - 1, by omega⟩
  rw [FL_refusesFilms_482]
  rw [cR_22 (a := 0) (b := 2) (c := (0 - 1)) (l := 500) hN cs okA9 ((if_pos (nNz hz0)).trans ((if_pos (by decide +kernel)).trans (if_neg (by decide +kernel)))), cdA, I_e, if_pos rfl, cR_22 (a := 0) (b := 2) (c := 0) (l := 521) hN cs okA9 ((if_pos (nNz hz0)).trans ((if_pos (by decide +kernel)).trans ((if_pos (by decide +kernel)).trans (if_neg (by decide +kernel))))), cdA, I_e, if_pos rfl, cR_22 (a := 0) (b := 2) (c := 0) (l := 3500) hN cs okA9 ((if_pos (nNz hz0)).trans ((if_pos (by decide +kernel)).trans ((if_pos (by decide +kernel)).trans ((if_pos (by decide +kernel)).trans (if_neg (by decide +kernel)))))), cdA, I_e, if_pos rfl, cR_23 (a := 0) (b := (0 - 1)) (c := (-1)) (l := 0) hN cs okX ((if_pos (nNz hz0)).trans (if_neg (by decide +kernel))), cdX, I_e, if_pos rfl, cR_23 (a := 0) (b := 0) (c := (0 - 1)) (l := 0) hN cs okA9 ((if_pos (nNz hz0)).trans ((if_pos (by decide +kernel)).trans (if_neg (by decide +kernel)))), cdA, I_e, if_pos rfl, cR_24 (a := 0) (b := (0 - 1)) (c := 0) (l := 0) hN cs okA9 ((if_pos (nNz hz0)).trans (if_neg (by decide +kernel))), cdA, I_e, if_pos rfl, cR_25 (a := 0) (b := (0 - 1)) (c := (-1)) (l := 0) hN cs okX ((if_pos (nNz hz0)).trans (if_neg (by decide +kernel))), cdX, I_e, if_pos rfl, cR_25 (a := 0) (b := 1) (c := (0 - 1)) (l := 0) hN cs okA9 ((if_pos (nNz hz0)).trans ((if_pos (by decide +kernel)).trans (if_neg (by decide +kernel)))), cdA, I_e, if_pos rfl]
  exact q_refusesFilms_614_0 hN cs
set_option maxRecDepth 20000 in
theorem q_refusesFilms_482_1 (hN : 2001 ≤ N) (cs : Cs q v S K [] h) (hz0 : 0 < cnt v 0 ∧ cnt v 0 < 4000) : FL_refusesFilms_482 N N 0 1 (2 + 1) (1999 + 1) h = rI 1 h := by
  have hI := Cs_Iv cs
  have hn0 : cnt v 0 < 4000 := by have := hI.nf.2; omega
  have hn1 : cnt v 1 < 4000 := by have := hI.ns.2; omega
  have hn2 : cnt v 2 < 4000 := by have := hI.ng.2; omega
  obtain ⟨M, rfl⟩ : ∃ M, N = M + 1 := ⟨N - 1, by omega⟩
  rw [FL_refusesFilms_482]
  rw [cR_22 (a := 0) (b := 2) (c := (1999 + 1)) (l := 500) hN cs okA9 ((if_pos (nNz hz0)).trans ((if_pos (by decide +kernel)).trans (if_neg (by decide +kernel)))), cdA, I_e, if_pos rfl, cR_22 (a := 0) (b := 2) (c := 0) (l := 521) hN cs okA9 ((if_pos (nNz hz0)).trans ((if_pos (by decide +kernel)).trans ((if_pos (by decide +kernel)).trans (if_neg (by decide +kernel))))), cdA, I_e, if_pos rfl, cR_22 (a := 0) (b := 2) (c := 0) (l := 3500) hN cs okA9 ((if_pos (nNz hz0)).trans ((if_pos (by decide +kernel)).trans ((if_pos (by decide +kernel)).trans ((if_pos (by decide +kernel)).trans (if_neg (by decide +kernel)))))), cdA, I_e, if_pos rfl, cR_23 (a := 0) (b := (2 + 1)) (c := (-1)) (l := 0) hN cs okX ((if_pos (nNz hz0)).trans (if_neg (by decide +kernel))), cdX, I_e, if_pos rfl, cR_23 (a := 0) (b := 0) (c := (1999 + 1)) (l := 0) hN cs okA9 ((if_pos (nNz hz0)).trans ((if_pos (by decide +kernel)).trans (if_neg (by decide +kernel)))), cdA, I_e, if_pos rfl, cR_24 (a := 0) (b := (1999 + 1)) (c := 0) (l := 0) hN cs okA9 ((if_pos (nNz hz0)).trans (if_neg (by decide +kernel))), cdA, I_e, if_pos rfl, cR_25 (a := 0) (b := (2 + 1)) (c := (-1)) (l := 0) hN cs okX ((if_pos (nNz hz0)).trans (if_neg (by decide +kernel))), cdX, I_e, if_pos rfl, cR_25 (a := 0) (b := 1) (c := (1999 + 1)) (l := 0) hN cs okA9 ((if_pos (nNz hz0)).trans ((if_pos (by decide +kernel)).trans (if_neg (by decide +kernel)))), cdA, I_e, if_pos rfl]
  exact q_refusesFilms_614_1 hN cs
set_option maxRecDepth 20000 in
theorem q_refusesFilms_482_2 (hN : 2001 ≤ N) (cs : Cs q v S K [] h) (hz0 : 0 < cnt v 0 ∧ cnt v 0 < 4000) : FL_refusesFilms_482 N N 0 2 (-2147483648) (-2147483648) h = rI 1 h := by
  have hI := Cs_Iv cs
  have hn0 : cnt v 0 < 4000 := by have := hI.nf.2; omega
  have hn1 : cnt v 1 < 4000 := by have := hI.ns.2; omega
  have hn2 : cnt v 2 < 4000 := by have := hI.ng.2; omega
  obtain ⟨M, rfl⟩ : ∃ M, N = M + 1 := ⟨N - 1, by omega⟩
  rw [FL_refusesFilms_482]
  rw [cR_22 (a := 0) (b := 2) (c := (-2147483648)) (l := 500) hN cs okA9 ((if_pos (nNz hz0)).trans ((if_pos (by decide +kernel)).trans (if_neg (by decide +kernel)))), cdA, I_e, if_pos rfl, cR_22 (a := 0) (b := 2) (c := 0) (l := 521) hN cs okA9 ((if_pos (nNz hz0)).trans ((if_pos (by decide +kernel)).trans ((if_pos (by decide +kernel)).trans (if_neg (by decide +kernel))))), cdA, I_e, if_pos rfl, cR_22 (a := 0) (b := 2) (c := 0) (l := 3500) hN cs okA9 ((if_pos (nNz hz0)).trans ((if_pos (by decide +kernel)).trans ((if_pos (by decide +kernel)).trans ((if_pos (by decide +kernel)).trans (if_neg (by decide +kernel)))))), cdA, I_e, if_pos rfl, cR_23 (a := 0) (b := (-2147483648)) (c := (-1)) (l := 0) hN cs okX ((if_pos (nNz hz0)).trans (if_neg (by decide +kernel))), cdX, I_e, if_pos rfl, cR_23 (a := 0) (b := 0) (c := (-2147483648)) (l := 0) hN cs okA9 ((if_pos (nNz hz0)).trans ((if_pos (by decide +kernel)).trans (if_neg (by decide +kernel)))), cdA, I_e, if_pos rfl, cR_24 (a := 0) (b := (-2147483648)) (c := 0) (l := 0) hN cs okA9 ((if_pos (nNz hz0)).trans (if_neg (by decide +kernel))), cdA, I_e, if_pos rfl, cR_25 (a := 0) (b := (-2147483648)) (c := (-1)) (l := 0) hN cs okX ((if_pos (nNz hz0)).trans (if_neg (by decide +kernel))), cdX, I_e, if_pos rfl, cR_25 (a := 0) (b := 1) (c := (-2147483648)) (l := 0) hN cs okA9 ((if_pos (nNz hz0)).trans ((if_pos (by decide +kernel)).trans (if_neg (by decide +kernel)))), cdA, I_e, if_pos rfl]
  exact q_refusesFilms_614_2 hN cs
set_option maxRecDepth 20000 in
theorem q_refusesFilms_482_3 (hN : 2001 ≤ N) (cs : Cs q v S K [] h) (hz0 : 0 < cnt v 0 ∧ cnt v 0 < 4000) : FL_refusesFilms_482 N N 0 3 2147483647 2147483647 h = rI 1 h := by
  have hI := Cs_Iv cs
  have hn0 : cnt v 0 < 4000 := by have := hI.nf.2; omega
  have hn1 : cnt v 1 < 4000 := by have := hI.ns.2; omega
  have hn2 : cnt v 2 < 4000 := by have := hI.ng.2; omega
  obtain ⟨M, rfl⟩ : ∃ M, N = M + 1 := ⟨N - 1, by omega⟩
  rw [FL_refusesFilms_482]
  rw [cR_22 (a := 0) (b := 2) (c := 2147483647) (l := 500) hN cs okA9 ((if_pos (nNz hz0)).trans ((if_pos (by decide +kernel)).trans (if_neg (by decide +kernel)))), cdA, I_e, if_pos rfl, cR_22 (a := 0) (b := 2) (c := 0) (l := 521) hN cs okA9 ((if_pos (nNz hz0)).trans ((if_pos (by decide +kernel)).trans ((if_pos (by decide +kernel)).trans (if_neg (by decide +kernel))))), cdA, I_e, if_pos rfl, cR_22 (a := 0) (b := 2) (c := 0) (l := 3500) hN cs okA9 ((if_pos (nNz hz0)).trans ((if_pos (by decide +kernel)).trans ((if_pos (by decide +kernel)).trans ((if_pos (by decide +kernel)).trans (if_neg (by decide +kernel)))))), cdA, I_e, if_pos rfl, cR_23 (a := 0) (b := 2147483647) (c := (-1)) (l := 0) hN cs okX ((if_pos (nNz hz0)).trans (if_neg (by decide +kernel))), cdX, I_e, if_pos rfl, cR_23 (a := 0) (b := 0) (c := 2147483647) (l := 0) hN cs okA9 ((if_pos (nNz hz0)).trans ((if_pos (by decide +kernel)).trans (if_neg (by decide +kernel)))), cdA, I_e, if_pos rfl, cR_24 (a := 0) (b := 2147483647) (c := 0) (l := 0) hN cs okA9 ((if_pos (nNz hz0)).trans (if_neg (by decide +kernel))), cdA, I_e, if_pos rfl, cR_25 (a := 0) (b := 2147483647) (c := (-1)) (l := 0) hN cs okX ((if_pos (nNz hz0)).trans (if_neg (by decide +kernel))), cdX, I_e, if_pos rfl, cR_25 (a := 0) (b := 1) (c := 2147483647) (l := 0) hN cs okA9 ((if_pos (nNz hz0)).trans ((if_pos (by decide +kernel)).trans (if_neg (by decide +kernel)))), cdA, I_e, if_pos rfl]
  exact q_refusesFilms_614_3 hN cs
set_option maxRecDepth 20000 in
theorem q_refusesFilms_317_0 (hN : 2001 ≤ N) (cs : Cs q v S K [] h) : FL_refusesFilms_317 N N 0 0 (0 - 1) (0 - 1) h = rI 1 h := by
  have hI := Cs_Iv cs
  have hn0 : cnt v 0 < 4000 := by have := hI.nf.2; omega
  have hn1 : cnt v 1 < 4000 := by have := hI.ns.2; omega
  have hn2 : cnt v 2 < 4000 := by have := hI.ng.2; omega
  obtain ⟨M, rfl⟩ : ∃ M, N = M + 1 := ⟨N - 1, by omega⟩
  rw [FL_refusesFilms_317]
  rw [Cs_o cs, ct_e0 hN cs, I_e]
  by_cases hc0 : cnt v 0 = 0
  · rw [if_pos (show nI (cnt v 0) ≤ 0 by rw [hc0]; decide)]
    exact q_refusesFilms_614_0 hN cs
  · have hz0 : 0 < cnt v 0 ∧ cnt v 0 < 4000 := ⟨by omega, hn0⟩
    rw [if_neg (show ¬ nI (cnt v 0) ≤ 0 from nI_ge (a := 0) (by omega) (by omega)), cR_3 (a := 0) (b := (0 - 1)) (c := (-1)) (l := 500) hN cs okX ((if_pos (nNz hz0)).trans (if_neg (by decide +kernel))), cdX, I_e, if_pos rfl, cR_3 (a := 0) (b := 0) (c := (0 - 1)) (l := 500) hN cs okA9 ((if_pos (nNz hz0)).trans ((if_pos (by decide +kernel)).trans (if_neg (by decide +kernel)))), cdA, I_e, if_pos rfl, if_pos rfl, cR_3 (a := 0) (b := 0) (c := 0) (l := 499) hN cs okA9 ((if_pos (nNz hz0)).trans ((if_pos (by decide +kernel)).trans ((if_pos (by decide +kernel)).trans (if_neg (by decide +kernel))))), cdA, I_e, if_pos rfl, cR_6 (a := 0) (b := (0 - 1)) (c := 2000) (l := 0) hN cs okA9 ((if_pos (nNz hz0)).trans (if_neg (by decide +kernel))), cdA, I_e, if_pos rfl, if_pos rfl, cR_6 (a := 0) (b := 700) (c := 700) (l := 0) hN cs okA9 ((if_pos (nNz hz0)).trans ((if_pos (by decide +kernel)).trans (if_pos (by decide +kernel)))), cdA, I_e, if_pos rfl, far0, I_e, cR_14 (a := 0) (b := (0 - 1)) (c := 0) (l := 0) hN cs okA9 ((if_pos (nNz hz0)).trans (if_neg (by decide +kernel))), cdA, I_e, if_pos rfl, cR_22 (a := 0) (b := (0 - 1)) (c := (-1)) (l := 500) hN cs okX ((if_pos (nNz hz0)).trans (if_neg (by decide +kernel))), cdX, I_e, if_pos rfl]
    exact q_refusesFilms_482_0 hN cs hz0
set_option maxRecDepth 20000 in
theorem q_refusesFilms_317_1 (hN : 2001 ≤ N) (cs : Cs q v S K [] h) : FL_refusesFilms_317 N N 0 1 (2 + 1) (1999 + 1) h = rI 1 h := by
  have hI := Cs_Iv cs
  have hn0 : cnt v 0 < 4000 := by have := hI.nf.2; omega
  have hn1 : cnt v 1 < 4000 := by have := hI.ns.2; omega
  have hn2 : cnt v 2 < 4000 := by have := hI.ng.2; omega
  obtain ⟨M, rfl⟩ : ∃ M, N = M + 1 := ⟨N - 1, by omega⟩
  rw [FL_refusesFilms_317]
  rw [Cs_o cs, ct_e0 hN cs, I_e]
  by_cases hc0 : cnt v 0 = 0
  · rw [if_pos (show nI (cnt v 0) ≤ 0 by rw [hc0]; decide)]
    exact q_refusesFilms_614_1 hN cs
  · have hz0 : 0 < cnt v 0 ∧ cnt v 0 < 4000 := ⟨by omega, hn0⟩
    rw [if_neg (show ¬ nI (cnt v 0) ≤ 0 from nI_ge (a := 0) (by omega) (by omega)), cR_3 (a := 0) (b := (2 + 1)) (c := (-1)) (l := 500) hN cs okX ((if_pos (nNz hz0)).trans (if_neg (by decide +kernel))), cdX, I_e, if_pos rfl, cR_3 (a := 0) (b := 0) (c := (1999 + 1)) (l := 500) hN cs okA9 ((if_pos (nNz hz0)).trans ((if_pos (by decide +kernel)).trans (if_neg (by decide +kernel)))), cdA, I_e, if_pos rfl, if_neg (by decide), cR_3 (a := 0) (b := 0) (c := 0) (l := 521) hN cs okA9 ((if_pos (nNz hz0)).trans ((if_pos (by decide +kernel)).trans ((if_pos (by decide +kernel)).trans (if_neg (by decide +kernel))))), cdA, I_e, if_pos rfl, cR_6 (a := 0) (b := (1999 + 1)) (c := 2000) (l := 0) hN cs okA9 ((if_pos (nNz hz0)).trans (if_neg (by decide +kernel))), cdA, I_e, if_pos rfl, if_neg (by decide), if_pos rfl, cR_6 (a := 0) (b := 700) (c := 2001) (l := 0) hN cs okA9 ((if_pos (nNz hz0)).trans ((if_pos (by decide +kernel)).trans ((if_neg (by decide +kernel)).trans (if_pos (by decide +kernel))))), cdA, I_e, if_pos rfl, far1, I_e, cR_14 (a := 0) (b := (5 + 1)) (c := 0) (l := 0) hN cs okA9 ((if_pos (nNz hz0)).trans (if_neg (by decide +kernel))), cdA, I_e, if_pos rfl, cR_22 (a := 0) (b := (2 + 1)) (c := (-1)) (l := 500) hN cs okX ((if_pos (nNz hz0)).trans (if_neg (by decide +kernel))), cdX, I_e, if_pos rfl]
    exact q_refusesFilms_482_1 hN cs hz0
set_option maxRecDepth 20000 in
theorem q_refusesFilms_317_2 (hN : 2001 ≤ N) (cs : Cs q v S K [] h) : FL_refusesFilms_317 N N 0 2 (-2147483648) (-2147483648) h = rI 1 h := by
  have hI := Cs_Iv cs
  have hn0 : cnt v 0 < 4000 := by have := hI.nf.2; omega
  have hn1 : cnt v 1 < 4000 := by have := hI.ns.2; omega
  have hn2 : cnt v 2 < 4000 := by have := hI.ng.2; omega
  obtain ⟨M, rfl⟩ : ∃ M, N = M + 1 := ⟨N - 1, by omega⟩
  rw [FL_refusesFilms_317]
  rw [Cs_o cs, ct_e0 hN cs, I_e]
  by_cases hc0 : cnt v 0 = 0
  · rw [if_pos (show nI (cnt v 0) ≤ 0 by rw [hc0]; decide)]
    exact q_refusesFilms_614_2 hN cs
  · have hz0 : 0 < cnt v 0 ∧ cnt v 0 < 4000 := ⟨by omega, hn0⟩
    rw [if_neg (show ¬ nI (cnt v 0) ≤ 0 from nI_ge (a := 0) (by omega) (by omega)), cR_3 (a := 0) (b := (-2147483648)) (c := (-1)) (l := 500) hN cs okX ((if_pos (nNz hz0)).trans (if_neg (by decide +kernel))), cdX, I_e, if_pos rfl, cR_3 (a := 0) (b := 0) (c := (-2147483648)) (l := 500) hN cs okA9 ((if_pos (nNz hz0)).trans ((if_pos (by decide +kernel)).trans (if_neg (by decide +kernel)))), cdA, I_e, if_pos rfl, if_neg (by decide), cR_3 (a := 0) (b := 0) (c := 0) (l := 521) hN cs okA9 ((if_pos (nNz hz0)).trans ((if_pos (by decide +kernel)).trans ((if_pos (by decide +kernel)).trans (if_neg (by decide +kernel))))), cdA, I_e, if_pos rfl, cR_6 (a := 0) (b := (-2147483648)) (c := 2000) (l := 0) hN cs okA9 ((if_pos (nNz hz0)).trans (if_neg (by decide +kernel))), cdA, I_e, if_pos rfl, if_neg (by decide), if_neg (by decide), far2, I_e, cR_6 (a := 0) (b := 700) (c := (-2147483648)) (l := 0) hN cs okA9 ((if_pos (nNz hz0)).trans ((if_pos (by decide +kernel)).trans (if_pos (by decide +kernel)))), cdA, I_e, if_pos rfl, far2, I_e, cR_14 (a := 0) (b := (-2147483648)) (c := 0) (l := 0) hN cs okA9 ((if_pos (nNz hz0)).trans (if_neg (by decide +kernel))), cdA, I_e, if_pos rfl, cR_22 (a := 0) (b := (-2147483648)) (c := (-1)) (l := 500) hN cs okX ((if_pos (nNz hz0)).trans (if_neg (by decide +kernel))), cdX, I_e, if_pos rfl]
    exact q_refusesFilms_482_2 hN cs hz0
set_option maxRecDepth 20000 in
theorem q_refusesFilms_317_3 (hN : 2001 ≤ N) (cs : Cs q v S K [] h) : FL_refusesFilms_317 N N 0 3 2147483647 2147483647 h = rI 1 h := by
  have hI := Cs_Iv cs
  have hn0 : cnt v 0 < 4000 := by have := hI.nf.2; omega
  have hn1 : cnt v 1 < 4000 := by have := hI.ns.2; omega
  have hn2 : cnt v 2 < 4000 := by have := hI.ng.2; omega
  obtain ⟨M, rfl⟩ : ∃ M, N = M + 1 := ⟨N - 1, by omega⟩
  rw [FL_refusesFilms_317]
  rw [Cs_o cs, ct_e0 hN cs, I_e]
  by_cases hc0 : cnt v 0 = 0
  · rw [if_pos (show nI (cnt v 0) ≤ 0 by rw [hc0]; decide)]
    exact q_refusesFilms_614_3 hN cs
  · have hz0 : 0 < cnt v 0 ∧ cnt v 0 < 4000 := ⟨by omega, hn0⟩
    rw [if_neg (show ¬ nI (cnt v 0) ≤ 0 from nI_ge (a := 0) (by omega) (by omega)), cR_3 (a := 0) (b := 2147483647) (c := (-1)) (l := 500) hN cs okX ((if_pos (nNz hz0)).trans (if_neg (by decide +kernel))), cdX, I_e, if_pos rfl, cR_3 (a := 0) (b := 0) (c := 2147483647) (l := 500) hN cs okA9 ((if_pos (nNz hz0)).trans ((if_pos (by decide +kernel)).trans (if_neg (by decide +kernel)))), cdA, I_e, if_pos rfl, if_neg (by decide), cR_3 (a := 0) (b := 0) (c := 0) (l := 521) hN cs okA9 ((if_pos (nNz hz0)).trans ((if_pos (by decide +kernel)).trans ((if_pos (by decide +kernel)).trans (if_neg (by decide +kernel))))), cdA, I_e, if_pos rfl, cR_6 (a := 0) (b := 2147483647) (c := 2000) (l := 0) hN cs okA9 ((if_pos (nNz hz0)).trans (if_neg (by decide +kernel))), cdA, I_e, if_pos rfl, if_neg (by decide), if_neg (by decide), far3, I_e, cR_6 (a := 0) (b := 700) (c := 2147483647) (l := 0) hN cs okA9 ((if_pos (nNz hz0)).trans ((if_pos (by decide +kernel)).trans ((if_neg (by decide +kernel)).trans (if_pos (by decide +kernel))))), cdA, I_e, if_pos rfl, far3, I_e, cR_14 (a := 0) (b := 2147483647) (c := 0) (l := 0) hN cs okA9 ((if_pos (nNz hz0)).trans (if_neg (by decide +kernel))), cdA, I_e, if_pos rfl, cR_22 (a := 0) (b := 2147483647) (c := (-1)) (l := 500) hN cs okX ((if_pos (nNz hz0)).trans (if_neg (by decide +kernel))), cdX, I_e, if_pos rfl]
    exact q_refusesFilms_482_3 hN cs hz0
set_option maxRecDepth 20000 in
theorem q_refusesFilms_237_0 (hN : 2001 ≤ N) (cs : Cs q v S K [] h) : FL_refusesFilms_237 N N 0 0 (0 - 1) (0 - 1) (0 - 1) h = rI 1 h := by
  have hI := Cs_Iv cs
  have hn0 : cnt v 0 < 4000 := by have := hI.nf.2; omega
  have hn1 : cnt v 1 < 4000 := by have := hI.ns.2; omega
  have hn2 : cnt v 2 < 4000 := by have := hI.ng.2; omega
  obtain ⟨M, rfl⟩ : ∃ M, N = M + 1 := ⟨N - 1, by omega⟩
  rw [FL_refusesFilms_237]
  rw [cR_14 (a := (0 - 1)) (b := 9) (c := 0) (l := 0) hN cs okX (if_neg (nN0)), cdX, I_e, if_pos rfl, cR_22 (a := (0 - 1)) (b := 0) (c := (-1)) (l := 500) hN cs okX (if_neg (nN0)), cdX, I_e, if_pos rfl, cR_23 (a := (0 - 1)) (b := 0) (c := (-1)) (l := 0) hN cs okX (if_neg (nN0)), cdX, I_e, if_pos rfl, cR_24 (a := (0 - 1)) (b := (-1)) (c := 0) (l := 0) hN cs okX (if_neg (nN0)), cdX, I_e, if_pos rfl, cR_25 (a := (0 - 1)) (b := 0) (c := (-1)) (l := 0) hN cs okX (if_neg (nN0)), cdX, I_e, if_pos rfl]
  exact q_refusesFilms_317_0 hN cs
set_option maxRecDepth 20000 in
theorem q_refusesFilms_237_1 (hN : 2001 ≤ N) (cs : Cs q v S K [] h) : FL_refusesFilms_237 N N 0 1 (nI (cnt v 0) - 1 + 1) (2 + 1) (1999 + 1) h = rI 1 h := by
  have hI := Cs_Iv cs
  have hn0 : cnt v 0 < 4000 := by have := hI.nf.2; omega
  have hn1 : cnt v 1 < 4000 := by have := hI.ns.2; omega
  have hn2 : cnt v 2 < 4000 := by have := hI.ng.2; omega
  obtain ⟨M, rfl⟩ : ∃ M, N = M + 1 := ⟨N - 1, by omega⟩
  rw [FL_refusesFilms_237]
  rw [cR_14 (a := (nI (cnt v 0) - 1 + 1)) (b := 9) (c := 0) (l := 0) hN cs okX (if_neg (nN1 hn0)), cdX, I_e, if_pos rfl, cR_22 (a := (nI (cnt v 0) - 1 + 1)) (b := 0) (c := (-1)) (l := 500) hN cs okX (if_neg (nN1 hn0)), cdX, I_e, if_pos rfl, cR_23 (a := (nI (cnt v 0) - 1 + 1)) (b := 0) (c := (-1)) (l := 0) hN cs okX (if_neg (nN1 hn0)), cdX, I_e, if_pos rfl, cR_24 (a := (nI (cnt v 0) - 1 + 1)) (b := (-1)) (c := 0) (l := 0) hN cs okX (if_neg (nN1 hn0)), cdX, I_e, if_pos rfl, cR_25 (a := (nI (cnt v 0) - 1 + 1)) (b := 0) (c := (-1)) (l := 0) hN cs okX (if_neg (nN1 hn0)), cdX, I_e, if_pos rfl]
  exact q_refusesFilms_317_1 hN cs
set_option maxRecDepth 20000 in
theorem q_refusesFilms_237_2 (hN : 2001 ≤ N) (cs : Cs q v S K [] h) : FL_refusesFilms_237 N N 0 2 (-2147483648) (-2147483648) (-2147483648) h = rI 1 h := by
  have hI := Cs_Iv cs
  have hn0 : cnt v 0 < 4000 := by have := hI.nf.2; omega
  have hn1 : cnt v 1 < 4000 := by have := hI.ns.2; omega
  have hn2 : cnt v 2 < 4000 := by have := hI.ng.2; omega
  obtain ⟨M, rfl⟩ : ∃ M, N = M + 1 := ⟨N - 1, by omega⟩
  rw [FL_refusesFilms_237]
  rw [cR_14 (a := (-2147483648)) (b := 9) (c := 0) (l := 0) hN cs okX (if_neg (nN2)), cdX, I_e, if_pos rfl, cR_22 (a := (-2147483648)) (b := 0) (c := (-1)) (l := 500) hN cs okX (if_neg (nN2)), cdX, I_e, if_pos rfl, cR_23 (a := (-2147483648)) (b := 0) (c := (-1)) (l := 0) hN cs okX (if_neg (nN2)), cdX, I_e, if_pos rfl, cR_24 (a := (-2147483648)) (b := (-1)) (c := 0) (l := 0) hN cs okX (if_neg (nN2)), cdX, I_e, if_pos rfl, cR_25 (a := (-2147483648)) (b := 0) (c := (-1)) (l := 0) hN cs okX (if_neg (nN2)), cdX, I_e, if_pos rfl]
  exact q_refusesFilms_317_2 hN cs
set_option maxRecDepth 20000 in
theorem q_refusesFilms_237_3 (hN : 2001 ≤ N) (cs : Cs q v S K [] h) : FL_refusesFilms_237 N N 0 3 2147483647 2147483647 2147483647 h = rI 1 h := by
  have hI := Cs_Iv cs
  have hn0 : cnt v 0 < 4000 := by have := hI.nf.2; omega
  have hn1 : cnt v 1 < 4000 := by have := hI.ns.2; omega
  have hn2 : cnt v 2 < 4000 := by have := hI.ng.2; omega
  obtain ⟨M, rfl⟩ : ∃ M, N = M + 1 := ⟨N - 1, by omega⟩
  rw [FL_refusesFilms_237]
  rw [cR_14 (a := 2147483647) (b := 9) (c := 0) (l := 0) hN cs okX (if_neg (nN3 hn0)), cdX, I_e, if_pos rfl, cR_22 (a := 2147483647) (b := 0) (c := (-1)) (l := 500) hN cs okX (if_neg (nN3 hn0)), cdX, I_e, if_pos rfl, cR_23 (a := 2147483647) (b := 0) (c := (-1)) (l := 0) hN cs okX (if_neg (nN3 hn0)), cdX, I_e, if_pos rfl, cR_24 (a := 2147483647) (b := (-1)) (c := 0) (l := 0) hN cs okX (if_neg (nN3 hn0)), cdX, I_e, if_pos rfl, cR_25 (a := 2147483647) (b := 0) (c := (-1)) (l := 0) hN cs okX (if_neg (nN3 hn0)), cdX, I_e, if_pos rfl]
  exact q_refusesFilms_317_3 hN cs
set_option maxRecDepth 20000 in
theorem q_refusesFilms_109_0 (hN : 2001 ≤ N) (cs : Cs q v S K [] h) : ∃ h', FL_refusesFilms_109 N N 0 0 (0 - 1) (0 - 1) (0 - 1) h = rI 1 h' ∧ Cs q v S K [] h' := by
  have hI := Cs_Iv cs
  have hn0 : cnt v 0 < 4000 := by have := hI.nf.2; omega
  have hn1 : cnt v 1 < 4000 := by have := hI.ns.2; omega
  have hn2 : cnt v 2 < 4000 := by have := hI.ng.2; omega
  obtain ⟨M, rfl⟩ : ∃ M, N = M + 1 := ⟨N - 1, by omega⟩
  rw [FL_refusesFilms_109]
  rw [far0, I_e, cR_2 (a := (0 - 1)) (b := 99) (c := 0) (l := 0) hN cs okX (if_neg (by decide +kernel)), cdX, I_e, if_pos rfl, far0, I_e, cR_2 (a := 3) (b := (0 - 1)) (c := 0) (l := 0) hN cs okA9 ((if_pos (by decide +kernel)).trans (if_neg (by decide +kernel))), cdA, I_e, if_pos rfl, cR_3 (a := (0 - 1)) (b := 0) (c := (-1)) (l := 500) hN cs okX (if_neg (nN0)), cdX, I_e, if_pos rfl, cR_6 (a := (0 - 1)) (b := (-1)) (c := 0) (l := 0) hN cs okX (if_neg (nN0)), cdX, I_e, if_pos rfl, far0, I_e, cR_9 (a := (33 - 1)) (b := 0) (c := 0) (l := 0) cs (by decide +kernel), I_e, if_pos rfl]
  obtain ⟨h2, e2, cs2⟩ := cR_10 (a := 0) (b := 0) (c := 0) (l := 0) hN cs
  rw [e2, I_e, if_pos rfl]
  rw [far0, I_e, cR_11 (a := (0 - 1)) (b := 0) (c := 0) (l := 0) hN cs2 okA9 (if_neg (by decide +kernel)), cdA, I_e, if_pos rfl]
  exact ⟨_, q_refusesFilms_237_0 hN cs2, cs2⟩
set_option maxRecDepth 20000 in
theorem q_refusesFilms_109_1 (hN : 2001 ≤ N) (cs : Cs q v S K [] h) : ∃ h', FL_refusesFilms_109 N N 0 1 (nI (cnt v 0) - 1 + 1) (2 + 1) (1999 + 1) h = rI 1 h' ∧ Cs q v S K [] h' := by
  have hI := Cs_Iv cs
  have hn0 : cnt v 0 < 4000 := by have := hI.nf.2; omega
  have hn1 : cnt v 1 < 4000 := by have := hI.ns.2; omega
  have hn2 : cnt v 2 < 4000 := by have := hI.ng.2; omega
  obtain ⟨M, rfl⟩ : ∃ M, N = M + 1 := ⟨N - 1, by omega⟩
  rw [FL_refusesFilms_109]
  rw [far1, I_e, cR_2 (a := (3 + 1)) (b := 99) (c := 0) (l := 0) hN cs okX (if_neg (by decide +kernel)), cdX, I_e, if_pos rfl, far1, I_e, cR_2 (a := 3) (b := (60 + 1)) (c := 0) (l := 0) hN cs okA9 ((if_pos (by decide +kernel)).trans (if_neg (by decide +kernel))), cdA, I_e, if_pos rfl, cR_3 (a := (nI (cnt v 0) - 1 + 1)) (b := 0) (c := (-1)) (l := 500) hN cs okX (if_neg (nN1 hn0)), cdX, I_e, if_pos rfl, cR_6 (a := (nI (cnt v 0) - 1 + 1)) (b := (-1)) (c := 0) (l := 0) hN cs okX (if_neg (nN1 hn0)), cdX, I_e, if_pos rfl, far1, I_e, cR_9 (a := (126 + 1)) (b := 0) (c := 0) (l := 0) cs (by decide +kernel), I_e, if_pos rfl]
  obtain ⟨h2, e2, cs2⟩ := cR_10 (a := 0) (b := 0) (c := 0) (l := 0) hN cs
  rw [e2, I_e, if_pos rfl]
  rw [far1, I_e, cR_11 (a := (2 + 1)) (b := 0) (c := 0) (l := 0) hN cs2 okA9 (if_neg (by decide +kernel)), cdA, I_e, if_pos rfl]
  exact ⟨_, q_refusesFilms_237_1 hN cs2, cs2⟩
set_option maxRecDepth 20000 in
theorem q_refusesFilms_109_2 (hN : 2001 ≤ N) (cs : Cs q v S K [] h) : ∃ h', FL_refusesFilms_109 N N 0 2 (-2147483648) (-2147483648) (-2147483648) h = rI 1 h' ∧ Cs q v S K [] h' := by
  have hI := Cs_Iv cs
  have hn0 : cnt v 0 < 4000 := by have := hI.nf.2; omega
  have hn1 : cnt v 1 < 4000 := by have := hI.ns.2; omega
  have hn2 : cnt v 2 < 4000 := by have := hI.ng.2; omega
  obtain ⟨M, rfl⟩ : ∃ M, N = M + 1 := ⟨N - 1, by omega⟩
  rw [FL_refusesFilms_109]
  rw [far2, I_e, cR_2 (a := (-2147483648)) (b := 99) (c := 0) (l := 0) hN cs okX (if_neg (by decide +kernel)), cdX, I_e, if_pos rfl, far2, I_e, cR_2 (a := 3) (b := (-2147483648)) (c := 0) (l := 0) hN cs okA9 ((if_pos (by decide +kernel)).trans (if_neg (by decide +kernel))), cdA, I_e, if_pos rfl, cR_3 (a := (-2147483648)) (b := 0) (c := (-1)) (l := 500) hN cs okX (if_neg (nN2)), cdX, I_e, if_pos rfl, cR_6 (a := (-2147483648)) (b := (-1)) (c := 0) (l := 0) hN cs okX (if_neg (nN2)), cdX, I_e, if_pos rfl, far2, I_e, cR_9 (a := (-2147483648)) (b := 0) (c := 0) (l := 0) cs (by decide +kernel), I_e, if_pos rfl]
  obtain ⟨h2, e2, cs2⟩ := cR_10 (a := 0) (b := 0) (c := 0) (l := 0) hN cs
  rw [e2, I_e, if_pos rfl]
  rw [far2, I_e, cR_11 (a := (-2147483648)) (b := 0) (c := 0) (l := 0) hN cs2 okA9 (if_neg (by decide +kernel)), cdA, I_e, if_pos rfl]
  exact ⟨_, q_refusesFilms_237_2 hN cs2, cs2⟩
set_option maxRecDepth 20000 in
theorem q_refusesFilms_109_3 (hN : 2001 ≤ N) (cs : Cs q v S K [] h) : ∃ h', FL_refusesFilms_109 N N 0 3 2147483647 2147483647 2147483647 h = rI 1 h' ∧ Cs q v S K [] h' := by
  have hI := Cs_Iv cs
  have hn0 : cnt v 0 < 4000 := by have := hI.nf.2; omega
  have hn1 : cnt v 1 < 4000 := by have := hI.ns.2; omega
  have hn2 : cnt v 2 < 4000 := by have := hI.ng.2; omega
  obtain ⟨M, rfl⟩ : ∃ M, N = M + 1 := ⟨N - 1, by omega⟩
  rw [FL_refusesFilms_109]
  rw [far3, I_e, cR_2 (a := 2147483647) (b := 99) (c := 0) (l := 0) hN cs okX (if_neg (by decide +kernel)), cdX, I_e, if_pos rfl, far3, I_e, cR_2 (a := 3) (b := 2147483647) (c := 0) (l := 0) hN cs okA9 ((if_pos (by decide +kernel)).trans (if_neg (by decide +kernel))), cdA, I_e, if_pos rfl, cR_3 (a := 2147483647) (b := 0) (c := (-1)) (l := 500) hN cs okX (if_neg (nN3 hn0)), cdX, I_e, if_pos rfl, cR_6 (a := 2147483647) (b := (-1)) (c := 0) (l := 0) hN cs okX (if_neg (nN3 hn0)), cdX, I_e, if_pos rfl, far3, I_e, cR_9 (a := 2147483647) (b := 0) (c := 0) (l := 0) cs (by decide +kernel), I_e, if_pos rfl]
  obtain ⟨h2, e2, cs2⟩ := cR_10 (a := 0) (b := 0) (c := 0) (l := 0) hN cs
  rw [e2, I_e, if_pos rfl]
  rw [far3, I_e, cR_11 (a := 2147483647) (b := 0) (c := 0) (l := 0) hN cs2 okA9 (if_neg (by decide +kernel)), cdA, I_e, if_pos rfl]
  exact ⟨_, q_refusesFilms_237_3 hN cs2, cs2⟩
set_option maxRecDepth 20000 in
theorem q_refusesFilms_0 (hN : 2001 ≤ N) (cs : Cs q v S K [] h) : ∃ h', FL_refusesFilms N 0 0 h = rI 1 h' ∧ Cs q v S K [] h' := by
  have hI := Cs_Iv cs
  have hn0 : cnt v 0 < 4000 := by have := hI.nf.2; omega
  have hn1 : cnt v 1 < 4000 := by have := hI.ns.2; omega
  have hn2 : cnt v 2 < 4000 := by have := hI.ng.2; omega
  unfold FL_refusesFilms
  rw [Cs_o cs, ct_e0 hN cs, I_e, far0, I_e, far0, I_e, far0, I_e, far0, I_e, cR_0 (a := (1 - 1)) (b := 10) (c := 0) (l := 0) hN cs okA9 (if_neg (by decide +kernel)), cdA, I_e, if_pos rfl, far0, I_e, cR_0 (a := 6) (b := (10 - 1)) (c := 0) (l := 0) hN cs okA9 ((if_pos (by decide +kernel)).trans (if_neg (by decide +kernel))), cdA, I_e, if_pos rfl, cR_1 (a := (0 - 1)) (b := 0) (c := 0) (l := 0) hN cs okX (if_neg (by decide +kernel)), cdX, I_e, if_pos rfl, far0, I_e, cR_1 (a := 2) (b := (50 - 1)) (c := 0) (l := 0) hN cs okA9 ((if_pos (by decide +kernel)).trans (if_neg (by decide +kernel))), cdA, I_e, if_pos rfl]
  exact q_refusesFilms_109_0 hN cs
set_option maxRecDepth 20000 in
theorem q_refusesFilms_1 (hN : 2001 ≤ N) (cs : Cs q v S K [] h) : ∃ h', FL_refusesFilms N 0 1 h = rI 1 h' ∧ Cs q v S K [] h' := by
  have hI := Cs_Iv cs
  have hn0 : cnt v 0 < 4000 := by have := hI.nf.2; omega
  have hn1 : cnt v 1 < 4000 := by have := hI.ns.2; omega
  have hn2 : cnt v 2 < 4000 := by have := hI.ng.2; omega
  unfold FL_refusesFilms
  rw [Cs_o cs, ct_e0 hN cs, I_e, far1, I_e, far1, I_e, far1, I_e, far1, I_e, cR_0 (a := (6 + 1)) (b := 10) (c := 0) (l := 0) hN cs okA9 (if_neg (by decide +kernel)), cdA, I_e, if_pos rfl, far1, I_e, cR_0 (a := 6) (b := (25 + 1)) (c := 0) (l := 0) hN cs okA9 ((if_pos (by decide +kernel)).trans (if_neg (by decide +kernel))), cdA, I_e, if_pos rfl, cR_1 (a := (2 + 1)) (b := 0) (c := 0) (l := 0) hN cs okX (if_neg (by decide +kernel)), cdX, I_e, if_pos rfl, far1, I_e, cR_1 (a := 2) (b := (400 + 1)) (c := 0) (l := 0) hN cs okA9 ((if_pos (by decide +kernel)).trans (if_neg (by decide +kernel))), cdA, I_e, if_pos rfl]
  exact q_refusesFilms_109_1 hN cs
set_option maxRecDepth 20000 in
theorem q_refusesFilms_2 (hN : 2001 ≤ N) (cs : Cs q v S K [] h) : ∃ h', FL_refusesFilms N 0 2 h = rI 1 h' ∧ Cs q v S K [] h' := by
  have hI := Cs_Iv cs
  have hn0 : cnt v 0 < 4000 := by have := hI.nf.2; omega
  have hn1 : cnt v 1 < 4000 := by have := hI.ns.2; omega
  have hn2 : cnt v 2 < 4000 := by have := hI.ng.2; omega
  unfold FL_refusesFilms
  rw [Cs_o cs, ct_e0 hN cs, I_e, far2, I_e, far2, I_e, far2, I_e, far2, I_e, cR_0 (a := (-2147483648)) (b := 10) (c := 0) (l := 0) hN cs okA9 (if_neg (by decide +kernel)), cdA, I_e, if_pos rfl, far2, I_e, cR_0 (a := 6) (b := (-2147483648)) (c := 0) (l := 0) hN cs okA9 ((if_pos (by decide +kernel)).trans (if_neg (by decide +kernel))), cdA, I_e, if_pos rfl, cR_1 (a := (-2147483648)) (b := 0) (c := 0) (l := 0) hN cs okX (if_neg (by decide +kernel)), cdX, I_e, if_pos rfl, far2, I_e, cR_1 (a := 2) (b := (-2147483648)) (c := 0) (l := 0) hN cs okA9 ((if_pos (by decide +kernel)).trans (if_neg (by decide +kernel))), cdA, I_e, if_pos rfl]
  exact q_refusesFilms_109_2 hN cs
set_option maxRecDepth 20000 in
theorem q_refusesFilms_3 (hN : 2001 ≤ N) (cs : Cs q v S K [] h) : ∃ h', FL_refusesFilms N 0 3 h = rI 1 h' ∧ Cs q v S K [] h' := by
  have hI := Cs_Iv cs
  have hn0 : cnt v 0 < 4000 := by have := hI.nf.2; omega
  have hn1 : cnt v 1 < 4000 := by have := hI.ns.2; omega
  have hn2 : cnt v 2 < 4000 := by have := hI.ng.2; omega
  unfold FL_refusesFilms
  rw [Cs_o cs, ct_e0 hN cs, I_e, far3, I_e, far3, I_e, far3, I_e, far3, I_e, cR_0 (a := 2147483647) (b := 10) (c := 0) (l := 0) hN cs okA9 (if_neg (by decide +kernel)), cdA, I_e, if_pos rfl, far3, I_e, cR_0 (a := 6) (b := 2147483647) (c := 0) (l := 0) hN cs okA9 ((if_pos (by decide +kernel)).trans (if_neg (by decide +kernel))), cdA, I_e, if_pos rfl, cR_1 (a := 2147483647) (b := 0) (c := 0) (l := 0) hN cs okX (if_neg (by decide +kernel)), cdX, I_e, if_pos rfl, far3, I_e, cR_1 (a := 2) (b := 2147483647) (c := 0) (l := 0) hN cs okA9 ((if_pos (by decide +kernel)).trans (if_neg (by decide +kernel))), cdA, I_e, if_pos rfl]
  exact q_refusesFilms_109_3 hN cs
set_option maxRecDepth 20000 in
theorem q_refusesShown_277_0 (hN : 2001 ≤ N) (cs : Cs q v S K [] h) : FL_refusesShown_277 N N 0 0 h = rI 1 h := by
  have hI := Cs_Iv cs
  have hn0 : cnt v 0 < 4000 := by have := hI.nf.2; omega
  have hn1 : cnt v 1 < 4000 := by have := hI.ns.2; omega
  have hn2 : cnt v 2 < 4000 := by have := hI.ng.2; omega
  obtain ⟨M, rfl⟩ : ∃ M, N = M + 1 := ⟨N - 1, by omega⟩
  rw [FL_refusesShown_277]
  rw [Cs_o cs, ct_e1 hN cs, I_e]
  by_cases hc1 : cnt v 1 = 0
  · rw [if_pos (show nI (cnt v 1) = 0 by rw [hc1]; decide)]
  · have hz1 : 0 < cnt v 1 ∧ cnt v 1 < 4000 := ⟨by omega, hn1⟩
    rw [if_neg (show ¬ nI (cnt v 1) = 0 from nI_ne0 (by omega) (by omega)), far0, I_e, cR_5 (a := 0) (b := (0 - 1)) (c := 0) (l := 0) hN cs okA9 ((if_pos (nNz hz1)).trans (if_neg (by decide +kernel))), cdA, I_e, if_pos rfl, far0, I_e, cR_15 (a := 0) (b := (0 - 1)) (c := 0) (l := 0) hN cs okA9 ((if_pos (nNz hz1)).trans (if_neg (by decide +kernel))), cdA, I_e, if_pos rfl, far0, I_e, cR_16 (a := 0) (b := (0 - 1)) (c := 0) (l := 0) hN cs okA9 ((if_pos (nNz hz1)).trans (if_neg (by decide +kernel))), cdA, I_e, if_pos rfl]
set_option maxRecDepth 20000 in
theorem q_refusesShown_277_1 (hN : 2001 ≤ N) (cs : Cs q v S K [] h) : FL_refusesShown_277 N N 0 1 h = rI 1 h := by
  have hI := Cs_Iv cs
  have hn0 : cnt v 0 < 4000 := by have := hI.nf.2; omega
  have hn1 : cnt v 1 < 4000 := by have := hI.ns.2; omega
  have hn2 : cnt v 2 < 4000 := by have := hI.ng.2; omega
  obtain ⟨M, rfl⟩ : ∃ M, N = M + 1 := ⟨N - 1, by omega⟩
  rw [FL_refusesShown_277]
  rw [Cs_o cs, ct_e1 hN cs, I_e]
  by_cases hc1 : cnt v 1 = 0
  · rw [if_pos (show nI (cnt v 1) = 0 by rw [hc1]; decide)]
  · have hz1 : 0 < cnt v 1 ∧ cnt v 1 < 4000 := ⟨by omega, hn1⟩
    rw [if_neg (show ¬ nI (cnt v 1) = 0 from nI_ne0 (by omega) (by omega)), far1, I_e, cR_5 (a := 0) (b := (1999 + 1)) (c := 0) (l := 0) hN cs okA9 ((if_pos (nNz hz1)).trans (if_neg (by decide +kernel))), cdA, I_e, if_pos rfl, far1, I_e, cR_15 (a := 0) (b := (5 + 1)) (c := 0) (l := 0) hN cs okA9 ((if_pos (nNz hz1)).trans (if_neg (by decide +kernel))), cdA, I_e, if_pos rfl, far1, I_e, cR_16 (a := 0) (b := (5 + 1)) (c := 0) (l := 0) hN cs okA9 ((if_pos (nNz hz1)).trans (if_neg (by decide +kernel))), cdA, I_e, if_pos rfl]
set_option maxRecDepth 20000 in
theorem q_refusesShown_277_2 (hN : 2001 ≤ N) (cs : Cs q v S K [] h) : FL_refusesShown_277 N N 0 2 h = rI 1 h := by
  have hI := Cs_Iv cs
  have hn0 : cnt v 0 < 4000 := by have := hI.nf.2; omega
  have hn1 : cnt v 1 < 4000 := by have := hI.ns.2; omega
  have hn2 : cnt v 2 < 4000 := by have := hI.ng.2; omega
  obtain ⟨M, rfl⟩ : ∃ M, N = M + 1 := ⟨N - 1, by omega⟩
  rw [FL_refusesShown_277]
  rw [Cs_o cs, ct_e1 hN cs, I_e]
  by_cases hc1 : cnt v 1 = 0
  · rw [if_pos (show nI (cnt v 1) = 0 by rw [hc1]; decide)]
  · have hz1 : 0 < cnt v 1 ∧ cnt v 1 < 4000 := ⟨by omega, hn1⟩
    rw [if_neg (show ¬ nI (cnt v 1) = 0 from nI_ne0 (by omega) (by omega)), far2, I_e, cR_5 (a := 0) (b := (-2147483648)) (c := 0) (l := 0) hN cs okA9 ((if_pos (nNz hz1)).trans (if_neg (by decide +kernel))), cdA, I_e, if_pos rfl, far2, I_e, cR_15 (a := 0) (b := (-2147483648)) (c := 0) (l := 0) hN cs okA9 ((if_pos (nNz hz1)).trans (if_neg (by decide +kernel))), cdA, I_e, if_pos rfl, far2, I_e, cR_16 (a := 0) (b := (-2147483648)) (c := 0) (l := 0) hN cs okA9 ((if_pos (nNz hz1)).trans (if_neg (by decide +kernel))), cdA, I_e, if_pos rfl]
set_option maxRecDepth 20000 in
theorem q_refusesShown_277_3 (hN : 2001 ≤ N) (cs : Cs q v S K [] h) : FL_refusesShown_277 N N 0 3 h = rI 1 h := by
  have hI := Cs_Iv cs
  have hn0 : cnt v 0 < 4000 := by have := hI.nf.2; omega
  have hn1 : cnt v 1 < 4000 := by have := hI.ns.2; omega
  have hn2 : cnt v 2 < 4000 := by have := hI.ng.2; omega
  obtain ⟨M, rfl⟩ : ∃ M, N = M + 1 := ⟨N - 1, by omega⟩
  rw [FL_refusesShown_277]
  rw [Cs_o cs, ct_e1 hN cs, I_e]
  by_cases hc1 : cnt v 1 = 0
  · rw [if_pos (show nI (cnt v 1) = 0 by rw [hc1]; decide)]
  · have hz1 : 0 < cnt v 1 ∧ cnt v 1 < 4000 := ⟨by omega, hn1⟩
    rw [if_neg (show ¬ nI (cnt v 1) = 0 from nI_ne0 (by omega) (by omega)), far3, I_e, cR_5 (a := 0) (b := 2147483647) (c := 0) (l := 0) hN cs okA9 ((if_pos (nNz hz1)).trans (if_neg (by decide +kernel))), cdA, I_e, if_pos rfl, far3, I_e, cR_15 (a := 0) (b := 2147483647) (c := 0) (l := 0) hN cs okA9 ((if_pos (nNz hz1)).trans (if_neg (by decide +kernel))), cdA, I_e, if_pos rfl, far3, I_e, cR_16 (a := 0) (b := 2147483647) (c := 0) (l := 0) hN cs okA9 ((if_pos (nNz hz1)).trans (if_neg (by decide +kernel))), cdA, I_e, if_pos rfl]
set_option maxRecDepth 20000 in
theorem q_refusesShown_218_0 (hN : 2001 ≤ N) (cs : Cs q v S K [] h) : FL_refusesShown_218 N N 0 0 h = rI 1 h := by
  have hI := Cs_Iv cs
  have hn0 : cnt v 0 < 4000 := by have := hI.nf.2; omega
  have hn1 : cnt v 1 < 4000 := by have := hI.ns.2; omega
  have hn2 : cnt v 2 < 4000 := by have := hI.ng.2; omega
  obtain ⟨M, rfl⟩ : ∃ M, N = M + 1 := ⟨N - 1, by omega⟩
  rw [FL_refusesShown_218]
  rw [Cs_o cs, ct_e0 hN cs, I_e]
  by_cases hc0 : cnt v 0 = 0
  · rw [if_pos (show nI (cnt v 0) ≤ 0 by rw [hc0]; decide), Cs_o cs, ct_e2 hN cs, I_e]
    by_cases hc2 : cnt v 2 = 0
    · rw [if_pos (show nI (cnt v 2) ≤ 0 by rw [hc2]; decide)]
      exact q_refusesShown_277_0 hN cs
    · have hz2 : 0 < cnt v 2 ∧ cnt v 2 < 4000 := ⟨by omega, hn2⟩
      rw [if_neg (show ¬ nI (cnt v 2) ≤ 0 from nI_ge (a := 0) (by omega) (by omega)), far0, I_e, cR_19 (a := 0) (b := (0 - 1)) (c := 0) (l := 0) hN cs okA9 ((if_pos (nNz hz2)).trans (if_neg (by decide +kernel))), cdA, I_e, if_pos rfl]
      exact q_refusesShown_277_0 hN cs
  · have hz0 : 0 < cnt v 0 ∧ cnt v 0 < 4000 := ⟨by omega, hn0⟩
    rw [if_neg (show ¬ nI (cnt v 0) ≤ 0 from nI_ge (a := 0) (by omega) (by omega)), far0, I_e, cR_8 (a := 0) (b := 0) (c := (0 - 1)) (l := 0) hN cs okA9 ((if_pos (by decide +kernel)).trans ((if_pos (nNz hz0)).trans (if_neg (by decide +kernel)))), cdA, I_e, if_pos rfl, Cs_o cs, ct_e2 hN cs, I_e]
    by_cases hc2 : cnt v 2 = 0
    · rw [if_pos (show nI (cnt v 2) ≤ 0 by rw [hc2]; decide)]
      exact q_refusesShown_277_0 hN cs
    · have hz2 : 0 < cnt v 2 ∧ cnt v 2 < 4000 := ⟨by omega, hn2⟩
      rw [if_neg (show ¬ nI (cnt v 2) ≤ 0 from nI_ge (a := 0) (by omega) (by omega)), far0, I_e, cR_19 (a := 0) (b := (0 - 1)) (c := 0) (l := 0) hN cs okA9 ((if_pos (nNz hz2)).trans (if_neg (by decide +kernel))), cdA, I_e, if_pos rfl]
      exact q_refusesShown_277_0 hN cs
set_option maxRecDepth 20000 in
theorem q_refusesShown_218_1 (hN : 2001 ≤ N) (cs : Cs q v S K [] h) : FL_refusesShown_218 N N 0 1 h = rI 1 h := by
  have hI := Cs_Iv cs
  have hn0 : cnt v 0 < 4000 := by have := hI.nf.2; omega
  have hn1 : cnt v 1 < 4000 := by have := hI.ns.2; omega
  have hn2 : cnt v 2 < 4000 := by have := hI.ng.2; omega
  obtain ⟨M, rfl⟩ : ∃ M, N = M + 1 := ⟨N - 1, by omega⟩
  rw [FL_refusesShown_218]
  rw [Cs_o cs, ct_e0 hN cs, I_e]
  by_cases hc0 : cnt v 0 = 0
  · rw [if_pos (show nI (cnt v 0) ≤ 0 by rw [hc0]; decide), Cs_o cs, ct_e2 hN cs, I_e]
    by_cases hc2 : cnt v 2 = 0
    · rw [if_pos (show nI (cnt v 2) ≤ 0 by rw [hc2]; decide)]
      exact q_refusesShown_277_1 hN cs
    · have hz2 : 0 < cnt v 2 ∧ cnt v 2 < 4000 := ⟨by omega, hn2⟩
      rw [if_neg (show ¬ nI (cnt v 2) ≤ 0 from nI_ge (a := 0) (by omega) (by omega)), far1, I_e, cR_19 (a := 0) (b := (3 + 1)) (c := 0) (l := 0) hN cs okA9 ((if_pos (nNz hz2)).trans (if_neg (by decide +kernel))), cdA, I_e, if_pos rfl]
      exact q_refusesShown_277_1 hN cs
  · have hz0 : 0 < cnt v 0 ∧ cnt v 0 < 4000 := ⟨by omega, hn0⟩
    rw [if_neg (show ¬ nI (cnt v 0) ≤ 0 from nI_ge (a := 0) (by omega) (by omega)), far1, I_e, cR_8 (a := 0) (b := 0) (c := (10 + 1)) (l := 0) hN cs okA9 ((if_pos (by decide +kernel)).trans ((if_pos (nNz hz0)).trans (if_neg (by decide +kernel)))), cdA, I_e, if_pos rfl, Cs_o cs, ct_e2 hN cs, I_e]
    by_cases hc2 : cnt v 2 = 0
    · rw [if_pos (show nI (cnt v 2) ≤ 0 by rw [hc2]; decide)]
      exact q_refusesShown_277_1 hN cs
    · have hz2 : 0 < cnt v 2 ∧ cnt v 2 < 4000 := ⟨by omega, hn2⟩
      rw [if_neg (show ¬ nI (cnt v 2) ≤ 0 from nI_ge (a := 0) (by omega) (by omega)), far1, I_e, cR_19 (a := 0) (b := (3 + 1)) (c := 0) (l := 0) hN cs okA9 ((if_pos (nNz hz2)).trans (if_neg (by decide +kernel))), cdA, I_e, if_pos rfl]
      exact q_refusesShown_277_1 hN cs
set_option maxRecDepth 20000 in
theorem q_refusesShown_218_2 (hN : 2001 ≤ N) (cs : Cs q v S K [] h) : FL_refusesShown_218 N N 0 2 h = rI 1 h := by
  have hI := Cs_Iv cs
  have hn0 : cnt v 0 < 4000 := by have := hI.nf.2; omega
  have hn1 : cnt v 1 < 4000 := by have := hI.ns.2; omega
  have hn2 : cnt v 2 < 4000 := by have := hI.ng.2; omega
  obtain ⟨M, rfl⟩ : ∃ M, N = M + 1 := ⟨N - 1, by omega⟩
  rw [FL_refusesShown_218]
  rw [Cs_o cs, ct_e0 hN cs, I_e]
  by_cases hc0 : cnt v 0 = 0
  · rw [if_pos (show nI (cnt v 0) ≤ 0 by rw [hc0]; decide), Cs_o cs, ct_e2 hN cs, I_e]
    by_cases hc2 : cnt v 2 = 0
    · rw [if_pos (show nI (cnt v 2) ≤ 0 by rw [hc2]; decide)]
      exact q_refusesShown_277_2 hN cs
    · have hz2 : 0 < cnt v 2 ∧ cnt v 2 < 4000 := ⟨by omega, hn2⟩
      rw [if_neg (show ¬ nI (cnt v 2) ≤ 0 from nI_ge (a := 0) (by omega) (by omega)), far2, I_e, cR_19 (a := 0) (b := (-2147483648)) (c := 0) (l := 0) hN cs okA9 ((if_pos (nNz hz2)).trans (if_neg (by decide +kernel))), cdA, I_e, if_pos rfl]
      exact q_refusesShown_277_2 hN cs
  · have hz0 : 0 < cnt v 0 ∧ cnt v 0 < 4000 := ⟨by omega, hn0⟩
    rw [if_neg (show ¬ nI (cnt v 0) ≤ 0 from nI_ge (a := 0) (by omega) (by omega)), far2, I_e, cR_8 (a := 0) (b := 0) (c := (-2147483648)) (l := 0) hN cs okA9 ((if_pos (by decide +kernel)).trans ((if_pos (nNz hz0)).trans (if_neg (by decide +kernel)))), cdA, I_e, if_pos rfl, Cs_o cs, ct_e2 hN cs, I_e]
    by_cases hc2 : cnt v 2 = 0
    · rw [if_pos (show nI (cnt v 2) ≤ 0 by rw [hc2]; decide)]
      exact q_refusesShown_277_2 hN cs
    · have hz2 : 0 < cnt v 2 ∧ cnt v 2 < 4000 := ⟨by omega, hn2⟩
      rw [if_neg (show ¬ nI (cnt v 2) ≤ 0 from nI_ge (a := 0) (by omega) (by omega)), far2, I_e, cR_19 (a := 0) (b := (-2147483648)) (c := 0) (l := 0) hN cs okA9 ((if_pos (nNz hz2)).trans (if_neg (by decide +kernel))), cdA, I_e, if_pos rfl]
      exact q_refusesShown_277_2 hN cs
set_option maxRecDepth 20000 in
theorem q_refusesShown_218_3 (hN : 2001 ≤ N) (cs : Cs q v S K [] h) : FL_refusesShown_218 N N 0 3 h = rI 1 h := by
  have hI := Cs_Iv cs
  have hn0 : cnt v 0 < 4000 := by have := hI.nf.2; omega
  have hn1 : cnt v 1 < 4000 := by have := hI.ns.2; omega
  have hn2 : cnt v 2 < 4000 := by have := hI.ng.2; omega
  obtain ⟨M, rfl⟩ : ∃ M, N = M + 1 := ⟨N - 1, by omega⟩
  rw [FL_refusesShown_218]
  rw [Cs_o cs, ct_e0 hN cs, I_e]
  by_cases hc0 : cnt v 0 = 0
  · rw [if_pos (show nI (cnt v 0) ≤ 0 by rw [hc0]; decide), Cs_o cs, ct_e2 hN cs, I_e]
    by_cases hc2 : cnt v 2 = 0
    · rw [if_pos (show nI (cnt v 2) ≤ 0 by rw [hc2]; decide)]
      exact q_refusesShown_277_3 hN cs
    · have hz2 : 0 < cnt v 2 ∧ cnt v 2 < 4000 := ⟨by omega, hn2⟩
      rw [if_neg (show ¬ nI (cnt v 2) ≤ 0 from nI_ge (a := 0) (by omega) (by omega)), far3, I_e, cR_19 (a := 0) (b := 2147483647) (c := 0) (l := 0) hN cs okA9 ((if_pos (nNz hz2)).trans (if_neg (by decide +kernel))), cdA, I_e, if_pos rfl]
      exact q_refusesShown_277_3 hN cs
  · have hz0 : 0 < cnt v 0 ∧ cnt v 0 < 4000 := ⟨by omega, hn0⟩
    rw [if_neg (show ¬ nI (cnt v 0) ≤ 0 from nI_ge (a := 0) (by omega) (by omega)), far3, I_e, cR_8 (a := 0) (b := 0) (c := 2147483647) (l := 0) hN cs okA9 ((if_pos (by decide +kernel)).trans ((if_pos (nNz hz0)).trans (if_neg (by decide +kernel)))), cdA, I_e, if_pos rfl, Cs_o cs, ct_e2 hN cs, I_e]
    by_cases hc2 : cnt v 2 = 0
    · rw [if_pos (show nI (cnt v 2) ≤ 0 by rw [hc2]; decide)]
      exact q_refusesShown_277_3 hN cs
    · have hz2 : 0 < cnt v 2 ∧ cnt v 2 < 4000 := ⟨by omega, hn2⟩
      rw [if_neg (show ¬ nI (cnt v 2) ≤ 0 from nI_ge (a := 0) (by omega) (by omega)), far3, I_e, cR_19 (a := 0) (b := 2147483647) (c := 0) (l := 0) hN cs okA9 ((if_pos (nNz hz2)).trans (if_neg (by decide +kernel))), cdA, I_e, if_pos rfl]
      exact q_refusesShown_277_3 hN cs
set_option maxRecDepth 20000 in
theorem q_refusesShown_121_0 (hN : 2001 ≤ N) (cs : Cs q v S K [] h) : FL_refusesShown_121 N N 0 0 (0 - 1) (0 - 1) h = rI 1 h := by
  have hI := Cs_Iv cs
  have hn0 : cnt v 0 < 4000 := by have := hI.nf.2; omega
  have hn1 : cnt v 1 < 4000 := by have := hI.ns.2; omega
  have hn2 : cnt v 2 < 4000 := by have := hI.ng.2; omega
  obtain ⟨M, rfl⟩ : ∃ M, N = M + 1 := ⟨N - 1, by omega⟩
  rw [FL_refusesShown_121]
  rw [cR_15 (a := (0 - 1)) (b := 9) (c := 0) (l := 0) hN cs okX (if_neg (nN0)), cdX, I_e, if_pos rfl, cR_16 (a := (0 - 1)) (b := 9) (c := 0) (l := 0) hN cs okX (if_neg (nN0)), cdX, I_e, if_pos rfl, Cs_o cs, ct_e2 hN cs, I_e, far0, I_e, cR_19 (a := (0 - 1)) (b := 9) (c := 0) (l := 0) hN cs okX (if_neg (nN0)), cdX, I_e, if_pos rfl, cR_20 (a := (0 - 1)) (b := 9) (c := 0) (l := 0) hN cs okX (if_neg (by decide +kernel)), cdX, I_e, if_pos rfl, far0, I_e, cR_20 (a := 2) (b := (0 - 1)) (c := 0) (l := 0) hN cs okA9 ((if_pos (by decide +kernel)).trans (if_neg (by decide +kernel))), cdA, I_e, if_pos rfl]
  exact q_refusesShown_218_0 hN cs
set_option maxRecDepth 20000 in
theorem q_refusesShown_121_1 (hN : 2001 ≤ N) (cs : Cs q v S K [] h) : FL_refusesShown_121 N N 0 1 (nI (cnt v 1) - 1 + 1) (2 + 1) h = rI 1 h := by
  have hI := Cs_Iv cs
  have hn0 : cnt v 0 < 4000 := by have := hI.nf.2; omega
  have hn1 : cnt v 1 < 4000 := by have := hI.ns.2; omega
  have hn2 : cnt v 2 < 4000 := by have := hI.ng.2; omega
  obtain ⟨M, rfl⟩ : ∃ M, N = M + 1 := ⟨N - 1, by omega⟩
  rw [FL_refusesShown_121]
  rw [cR_15 (a := (nI (cnt v 1) - 1 + 1)) (b := 9) (c := 0) (l := 0) hN cs okX (if_neg (nN1 hn1)), cdX, I_e, if_pos rfl, cR_16 (a := (nI (cnt v 1) - 1 + 1)) (b := 9) (c := 0) (l := 0) hN cs okX (if_neg (nN1 hn1)), cdX, I_e, if_pos rfl, Cs_o cs, ct_e2 hN cs, I_e, far1, I_e, cR_19 (a := (((nI (cnt v 2)) - 1) + 1)) (b := 9) (c := 0) (l := 0) hN cs okX (if_neg (nN1 hn2)), cdX, I_e, if_pos rfl, cR_20 (a := (2 + 1)) (b := 9) (c := 0) (l := 0) hN cs okX (if_neg (by decide +kernel)), cdX, I_e, if_pos rfl, far1, I_e, cR_20 (a := 2) (b := (2 + 1)) (c := 0) (l := 0) hN cs okA9 ((if_pos (by decide +kernel)).trans (if_neg (by decide +kernel))), cdA, I_e, if_pos rfl]
  exact q_refusesShown_218_1 hN cs
set_option maxRecDepth 20000 in
theorem q_refusesShown_121_2 (hN : 2001 ≤ N) (cs : Cs q v S K [] h) : FL_refusesShown_121 N N 0 2 (-2147483648) (-2147483648) h = rI 1 h := by
  have hI := Cs_Iv cs
  have hn0 : cnt v 0 < 4000 := by have := hI.nf.2; omega
  have hn1 : cnt v 1 < 4000 := by have := hI.ns.2; omega
  have hn2 : cnt v 2 < 4000 := by have := hI.ng.2; omega
  obtain ⟨M, rfl⟩ : ∃ M, N = M + 1 := ⟨N - 1, by omega⟩
  rw [FL_refusesShown_121]
  rw [cR_15 (a := (-2147483648)) (b := 9) (c := 0) (l := 0) hN cs okX (if_neg (nN2)), cdX, I_e, if_pos rfl, cR_16 (a := (-2147483648)) (b := 9) (c := 0) (l := 0) hN cs okX (if_neg (nN2)), cdX, I_e, if_pos rfl, Cs_o cs, ct_e2 hN cs, I_e, far2, I_e, cR_19 (a := (-2147483648)) (b := 9) (c := 0) (l := 0) hN cs okX (if_neg (nN2)), cdX, I_e, if_pos rfl, cR_20 (a := (-2147483648)) (b := 9) (c := 0) (l := 0) hN cs okX (if_neg (by decide +kernel)), cdX, I_e, if_pos rfl, far2, I_e, cR_20 (a := 2) (b := (-2147483648)) (c := 0) (l := 0) hN cs okA9 ((if_pos (by decide +kernel)).trans (if_neg (by decide +kernel))), cdA, I_e, if_pos rfl]
  exact q_refusesShown_218_2 hN cs
set_option maxRecDepth 20000 in
theorem q_refusesShown_121_3 (hN : 2001 ≤ N) (cs : Cs q v S K [] h) : FL_refusesShown_121 N N 0 3 2147483647 2147483647 h = rI 1 h := by
  have hI := Cs_Iv cs
  have hn0 : cnt v 0 < 4000 := by have := hI.nf.2; omega
  have hn1 : cnt v 1 < 4000 := by have := hI.ns.2; omega
  have hn2 : cnt v 2 < 4000 := by have := hI.ng.2; omega
  obtain ⟨M, rfl⟩ : ∃ M, N = M + 1 := ⟨N - 1, by omega⟩
  rw [FL_refusesShown_121]
  rw [cR_15 (a := 2147483647) (b := 9) (c := 0) (l := 0) hN cs okX (if_neg (nN3 hn1)), cdX, I_e, if_pos rfl, cR_16 (a := 2147483647) (b := 9) (c := 0) (l := 0) hN cs okX (if_neg (nN3 hn1)), cdX, I_e, if_pos rfl, Cs_o cs, ct_e2 hN cs, I_e, far3, I_e, cR_19 (a := 2147483647) (b := 9) (c := 0) (l := 0) hN cs okX (if_neg (nN3 hn2)), cdX, I_e, if_pos rfl, cR_20 (a := 2147483647) (b := 9) (c := 0) (l := 0) hN cs okX (if_neg (by decide +kernel)), cdX, I_e, if_pos rfl, far3, I_e, cR_20 (a := 2) (b := 2147483647) (c := 0) (l := 0) hN cs okA9 ((if_pos (by decide +kernel)).trans (if_neg (by decide +kernel))), cdA, I_e, if_pos rfl]
  exact q_refusesShown_218_3 hN cs
set_option maxRecDepth 20000 in
theorem q_refusesShown_0 (hN : 2001 ≤ N) (cs : Cs q v S K [] h) : FL_refusesShown N 0 0 h = rI 1 h := by
  have hI := Cs_Iv cs
  have hn0 : cnt v 0 < 4000 := by have := hI.nf.2; omega
  have hn1 : cnt v 1 < 4000 := by have := hI.ns.2; omega
  have hn2 : cnt v 2 < 4000 := by have := hI.ng.2; omega
  unfold FL_refusesShown
  rw [Cs_o cs, ct_e1 hN cs, I_e, far0, I_e, far0, I_e, cR_4 (a := (0 - 1)) (b := 0) (c := 0) (l := 0) hN cs okX (if_neg (nN0)), cdX, I_e, if_pos rfl, cR_5 (a := (0 - 1)) (b := (-1)) (c := 0) (l := 0) hN cs okX (if_neg (nN0)), cdX, I_e, if_pos rfl, cR_7 (a := (0 - 1)) (b := 0) (c := 0) (l := 0) hN cs okX (if_neg (by decide +kernel)), cdX, I_e, if_pos rfl, cR_7 (a := 0) (b := (0 - 1)) (c := 0) (l := 0) hN cs okX ((if_pos (by decide +kernel)).trans (if_neg (nN0))), cdX, I_e, if_pos rfl, cR_8 (a := (0 - 1)) (b := 0) (c := 99) (l := 0) hN cs okX (if_neg (by decide +kernel)), cdX, I_e, if_pos rfl, Cs_o cs, ct_e0 hN cs, I_e, far0, I_e, cR_8 (a := 0) (b := (0 - 1)) (c := 99) (l := 0) hN cs okX ((if_pos (by decide +kernel)).trans (if_neg (nN0))), cdX, I_e, if_pos rfl]
  exact q_refusesShown_121_0 hN cs
set_option maxRecDepth 20000 in
theorem q_refusesShown_1 (hN : 2001 ≤ N) (cs : Cs q v S K [] h) : FL_refusesShown N 0 1 h = rI 1 h := by
  have hI := Cs_Iv cs
  have hn0 : cnt v 0 < 4000 := by have := hI.nf.2; omega
  have hn1 : cnt v 1 < 4000 := by have := hI.ns.2; omega
  have hn2 : cnt v 2 < 4000 := by have := hI.ng.2; omega
  unfold FL_refusesShown
  rw [Cs_o cs, ct_e1 hN cs, I_e, far1, I_e, far1, I_e, cR_4 (a := (((nI (cnt v 1)) - 1) + 1)) (b := 0) (c := 0) (l := 0) hN cs okX (if_neg (nN1 hn1)), cdX, I_e, if_pos rfl, cR_5 (a := (((nI (cnt v 1)) - 1) + 1)) (b := (-1)) (c := 0) (l := 0) hN cs okX (if_neg (nN1 hn1)), cdX, I_e, if_pos rfl, cR_7 (a := (2 + 1)) (b := 0) (c := 0) (l := 0) hN cs okX (if_neg (by decide +kernel)), cdX, I_e, if_pos rfl, cR_7 (a := 0) (b := (((nI (cnt v 1)) - 1) + 1)) (c := 0) (l := 0) hN cs okX ((if_pos (by decide +kernel)).trans (if_neg (nN1 hn1))), cdX, I_e, if_pos rfl, cR_8 (a := (2 + 1)) (b := 0) (c := 99) (l := 0) hN cs okX (if_neg (by decide +kernel)), cdX, I_e, if_pos rfl, Cs_o cs, ct_e0 hN cs, I_e, far1, I_e, cR_8 (a := 0) (b := (((nI (cnt v 0)) - 1) + 1)) (c := 99) (l := 0) hN cs okX ((if_pos (by decide +kernel)).trans (if_neg (nN1 hn0))), cdX, I_e, if_pos rfl]
  exact q_refusesShown_121_1 hN cs
set_option maxRecDepth 20000 in
theorem q_refusesShown_2 (hN : 2001 ≤ N) (cs : Cs q v S K [] h) : FL_refusesShown N 0 2 h = rI 1 h := by
  have hI := Cs_Iv cs
  have hn0 : cnt v 0 < 4000 := by have := hI.nf.2; omega
  have hn1 : cnt v 1 < 4000 := by have := hI.ns.2; omega
  have hn2 : cnt v 2 < 4000 := by have := hI.ng.2; omega
  unfold FL_refusesShown
  rw [Cs_o cs, ct_e1 hN cs, I_e, far2, I_e, far2, I_e, cR_4 (a := (-2147483648)) (b := 0) (c := 0) (l := 0) hN cs okX (if_neg (nN2)), cdX, I_e, if_pos rfl, cR_5 (a := (-2147483648)) (b := (-1)) (c := 0) (l := 0) hN cs okX (if_neg (nN2)), cdX, I_e, if_pos rfl, cR_7 (a := (-2147483648)) (b := 0) (c := 0) (l := 0) hN cs okX (if_neg (by decide +kernel)), cdX, I_e, if_pos rfl, cR_7 (a := 0) (b := (-2147483648)) (c := 0) (l := 0) hN cs okX ((if_pos (by decide +kernel)).trans (if_neg (nN2))), cdX, I_e, if_pos rfl, cR_8 (a := (-2147483648)) (b := 0) (c := 99) (l := 0) hN cs okX (if_neg (by decide +kernel)), cdX, I_e, if_pos rfl, Cs_o cs, ct_e0 hN cs, I_e, far2, I_e, cR_8 (a := 0) (b := (-2147483648)) (c := 99) (l := 0) hN cs okX ((if_pos (by decide +kernel)).trans (if_neg (nN2))), cdX, I_e, if_pos rfl]
  exact q_refusesShown_121_2 hN cs
set_option maxRecDepth 20000 in
theorem q_refusesShown_3 (hN : 2001 ≤ N) (cs : Cs q v S K [] h) : FL_refusesShown N 0 3 h = rI 1 h := by
  have hI := Cs_Iv cs
  have hn0 : cnt v 0 < 4000 := by have := hI.nf.2; omega
  have hn1 : cnt v 1 < 4000 := by have := hI.ns.2; omega
  have hn2 : cnt v 2 < 4000 := by have := hI.ng.2; omega
  unfold FL_refusesShown
  rw [Cs_o cs, ct_e1 hN cs, I_e, far3, I_e, far3, I_e, cR_4 (a := 2147483647) (b := 0) (c := 0) (l := 0) hN cs okX (if_neg (nN3 hn1)), cdX, I_e, if_pos rfl, cR_5 (a := 2147483647) (b := (-1)) (c := 0) (l := 0) hN cs okX (if_neg (nN3 hn1)), cdX, I_e, if_pos rfl, cR_7 (a := 2147483647) (b := 0) (c := 0) (l := 0) hN cs okX (if_neg (by decide +kernel)), cdX, I_e, if_pos rfl, cR_7 (a := 0) (b := 2147483647) (c := 0) (l := 0) hN cs okX ((if_pos (by decide +kernel)).trans (if_neg (nN3 hn1))), cdX, I_e, if_pos rfl, cR_8 (a := 2147483647) (b := 0) (c := 99) (l := 0) hN cs okX (if_neg (by decide +kernel)), cdX, I_e, if_pos rfl, Cs_o cs, ct_e0 hN cs, I_e, far3, I_e, cR_8 (a := 0) (b := 2147483647) (c := 99) (l := 0) hN cs okX ((if_pos (by decide +kernel)).trans (if_neg (nN3 hn0))), cdX, I_e, if_pos rfl]
  exact q_refusesShown_121_3 hN cs
theorem q_Films (hN : 2001 ≤ N) (cs : Cs q v S K [] h) : ∀ k, k < 4 → ∃ h', FL_refusesFilms N 0 (nI k) h = rI 1 h' ∧ Cs q v S K [] h' := by
  intro k hk
  match k, hk with
  | 0, _ => exact q_refusesFilms_0 hN cs
  | 1, _ => exact q_refusesFilms_1 hN cs
  | 2, _ => exact q_refusesFilms_2 hN cs
  | 3, _ => exact q_refusesFilms_3 hN cs
  | n + 4, h => omega
theorem q_Shown (hN : 2001 ≤ N) (cs : Cs q v S K [] h) : ∀ k, k < 4 → FL_refusesShown N 0 (nI k) h = rI 1 h := by
  intro k hk
  match k, hk with
  | 0, _ => exact q_refusesShown_0 hN cs
  | 1, _ => exact q_refusesShown_1 hN cs
  | 2, _ => exact q_refusesShown_2 hN cs
  | 3, _ => exact q_refusesShown_3 hN cs
  | n + 4, h => omega
end RF

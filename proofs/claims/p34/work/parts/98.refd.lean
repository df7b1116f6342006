/-! P34: refused -/
theorem lg_s (l : Int64) : lg_cmp l l = 0 := by
  unfold lg_cmp
  simp
section RG
variable {q : jm_H} {v : Nat → Int32} {S : List (Nat → Int32)} {K : Option (Nat → Int32)} {h : jm_H} {N : Nat}
theorem kRf {kc ks : Nat} {r : Option jm_X} (h : kc ≤ 13948 ∧ ks ≤ 83688) : jf_k M_L_refused kc ks r = r := k_ok ⟨Nat.le_trans h.1 (Nat.le_of_ble_eq_true rfl), Nat.le_trans h.2 (Nat.le_of_ble_eq_true rfl)⟩
theorem rf_s (hN : 2001 ≤ N) {n k kc ks : Nat} {l : Int64} {x : Int32} (hk : k < 4) (hc : kc + 3241 ≤ 13948 ∧ ks + 19446 ≤ 83688) (cs : Cs q v S K [] h) : ∃ h', FL_refused_15 N (n + 1) kc ks 0 l x (nI k) h = FL_refused_15 N n (kc + 3241) (ks + 19446) 0 l x (nI (k + 1)) h' ∧ Cs q v S K [] h' := by
  obtain ⟨h2, e2, c2⟩ := q_Films hN cs k hk
  refine ⟨h2, ?_, c2⟩
  rw [FL_refused_15, kRf (by omega), if_neg (show ¬ (4 : Int32) ≤ nI k from nI_ge (b := 4) hk (by decide)), kRf (by omega), e2, I_e, if_neg (by decide), kRf (by omega), q_Shown hN c2 k hk, I_e, if_neg (by decide), nI_1]
theorem refused_e (hN : 2001 ≤ N) (cs : Cs q v S K [] h) : ∃ h', FL_refused N 0 h = rI 1 h' ∧ Cs q v S K [] h' := by
  obtain ⟨M, rfl⟩ : ∃ M, N = M + 5 := ⟨N - 5, by omega⟩
  obtain ⟨h1, e1, c1⟩ := rf_s (n := M + 4) (k := 0) (kc := 492) (ks := 2952) (l := seenP v) (x := nI S.length) hN (by decide) (by decide) cs
  obtain ⟨h2, e2, c2⟩ := rf_s (n := M + 3) (k := 1) (kc := 492 + 3241) (ks := 2952 + 19446) (l := seenP v) (x := nI S.length) hN (by decide) (by decide) c1
  obtain ⟨h3, e3, c3⟩ := rf_s (n := M + 2) (k := 2) (kc := 492 + 3241 + 3241) (ks := 2952 + 19446 + 19446) (l := seenP v) (x := nI S.length) hN (by decide) (by decide) c2
  obtain ⟨h4, e4, c4⟩ := rf_s (n := M + 1) (k := 3) (kc := 492 + 3241 + 3241 + 3241) (ks := 2952 + 19446 + 19446 + 19446) (l := seenP v) (x := nI S.length) hN (by decide) (by decide) c3
  refine ⟨h4, ?_, c4⟩
  unfold FL_refused
  rw [seen_e hN cs, L_e, Cs_o cs, ct_e11 hN cs, I_e]
  rw [show FL_refused_15 (M + 5) (M + 5) 492 2952 0 (seenP v) (nI S.length) 0 h = FL_refused_15 (M + 5) (M + 4 + 1) 492 2952 0 (seenP v) (nI S.length) (nI 0) h from rfl, e1, e2, e3, e4]
  rw [FL_refused_15, kRf (by decide), if_pos (show (4 : Int32) ≤ nI (3 + 1) by decide), w_ok (by decide), seen_e hN c4, L_e, if_pos (lg_s _), Cs_o c4, ct_e11 hN c4, I_e, if_pos rfl]
end RG

set_option maxRecDepth 100000 in
set_option maxHeartbeats 4000000 in
theorem BX0_takingReel_3 (N : Nat) : ∀ (n : Nat) (a0 : Nat) (x1 : Int32) (x2 : Int32) (x3 : Int32) (x4 : Int32) (x5 : Int32) (x6 : Int32) (h : jm_H) (X : jm_X), FX0_takingReel_3 N n a0 x1 x2 x3 x4 x5 x6 h = some X → jm_J M_X0_takingReel 3 [(0, .ref a0), (1, .int x1), (2, .int x2), (3, .int x3), (4, .int x4), (5, .int x5), (6, .int x6)] [] h 0 0 X := by
  intro n
  induction n with
  | zero =>
    intro a0 x1 x2 x3 x4 x5 x6 h X hF
    exact nomatch (show (none : Option jm_X) = some X from hF)
  | succ n ih =>
    intro a0 x1 x2 x3 x4 x5 x6 h X hF
    rw [FX0_takingReel_3] at hF
    refine jj_iload (j := 6) (i := 6) (pc' := 5) dX0_takingReel_3 rfl rfl ?_
    refine jj_aload_n (j := 0) (i := 0) (pc' := 6) dX0_takingReel_5 rfl rfl rfl ?_
    refine jj_gR (C := RX0) (T := TX0) (N := 10) (ci := 0) (k := 3) (pc' := 9) dX0_takingReel_6 rfl rfl inX0 (by decide) qw_18 hF (fun r101 hF => ?_)
    refine jj_gI (C := RX2) (T := TX2) (N := 3) (ci := 2) (k := 2) (pc' := 12) dX0_takingReel_9 rfl rfl inX2 (by decide) qw_47 hF (fun x102 hF => ?_)
    refine jj_icmp_ge (tgt := 73) (pc' := 15) dX0_takingReel_12 rfl rfl (fun hc hF => ?_) (fun hc hF => ?_) hF
    · skip
      refine jj_iconst (v := (-1 : Int32)) (pc' := 74) dX0_takingReel_73 rfl rfl ?_
      exact jj_retI (ty := .int) rfl rfl dX0_takingReel_74 ⟨Nat.le_of_ble_eq_true rfl, Nat.le_of_ble_eq_true rfl⟩ hF
    · skip
      refine jj_iload (j := 6) (i := 6) (pc' := 17) dX0_takingReel_15 rfl rfl ?_
      refine jj_iload (j := 5) (i := 5) (pc' := 19) dX0_takingReel_17 rfl rfl ?_
      refine jj_icmp_eq (tgt := 67) (pc' := 22) dX0_takingReel_19 rfl rfl (fun hc hF => ?_) (fun hc hF => ?_) hF
      · skip
        refine jj_iinc (i := 6) (j := 6) (v := x6 + (1 : Int32)) (ls' := [(6, .int (x6 + (1 : Int32))), (0, .ref a0), (1, .int x1), (2, .int x2), (3, .int x3), (4, .int x4), (5, .int x5)]) (pc' := 70) dX0_takingReel_67 rfl rfl (Nat.le_of_ble_eq_true rfl) rfl rfl ?_
        refine jj_goto (tgt := 3) dX0_takingReel_70 rfl ?_
        exact jj_pick [1, 2, 3, 4, 5, 6, 0] rfl (ih a0 x1 x2 x3 x4 x5 (x6 + (1 : Int32)) h _ hF)
      · skip
        refine jj_aload_n (j := 0) (i := 0) (pc' := 23) dX0_takingReel_22 rfl rfl rfl ?_
        refine jj_gR (C := RX0) (T := TX0) (N := 10) (ci := 0) (k := 3) (pc' := 26) dX0_takingReel_23 rfl rfl inX0 (by decide) qw_18 hF (fun r103 hF => ?_)
        refine jj_iload (j := 6) (i := 6) (pc' := 28) dX0_takingReel_26 rfl rfl ?_
        refine jj_iconst (v := (0 : Int32)) (pc' := 29) dX0_takingReel_28 rfl rfl ?_
        refine jj_cI (N := M_X2_at) (kc' := 0) (ks' := 0) (pc' := 32) (jg_V (N := M_X2_at) (ci := 2) (rest := []) (as := [.int x6, .int ((0 : Int32))]) cf_X0_60 dX0_takingReel_29 ⟨rfl, rfl⟩ rfl rfl ⟨Nat.le_of_ble_eq_true rfl, Nat.le_of_ble_eq_true rfl⟩ ⟨Nat.le_of_ble_eq_true rfl, Nat.le_of_ble_eq_true rfl⟩ (Nat.le_of_ble_eq_true rfl) (fun X' hX => KX2_at hX)) rfl rfl rfl rfl ⟨Nat.le_of_ble_eq_true rfl, Nat.le_of_ble_eq_true rfl⟩ rfl hF (fun x105 h104 hF => ?_)
        refine jj_iload_n (j := 1) (i := 1) (pc' := 33) dX0_takingReel_32 rfl rfl rfl ?_
        refine jj_icmp_ne (tgt := 67) (pc' := 36) dX0_takingReel_33 rfl rfl (fun hc hF => ?_) (fun hc hF => ?_) hF
        · skip
          refine jj_iinc (i := 6) (j := 6) (v := x6 + (1 : Int32)) (ls' := [(6, .int (x6 + (1 : Int32))), (0, .ref a0), (1, .int x1), (2, .int x2), (3, .int x3), (4, .int x4), (5, .int x5)]) (pc' := 70) dX0_takingReel_67 rfl rfl (Nat.le_of_ble_eq_true rfl) rfl rfl ?_
          refine jj_goto (tgt := 3) dX0_takingReel_70 rfl ?_
          exact jj_pick [1, 2, 3, 4, 5, 6, 0] rfl (ih a0 x1 x2 x3 x4 x5 (x6 + (1 : Int32)) h104 _ hF)
        · skip
          refine jj_aload_n (j := 0) (i := 0) (pc' := 37) dX0_takingReel_36 rfl rfl rfl ?_
          refine jj_gR (C := RX0) (T := TX0) (N := 10) (ci := 0) (k := 3) (pc' := 40) dX0_takingReel_37 rfl rfl inX0 (by decide) qw_18 hF (fun r106 hF => ?_)
          refine jj_iload (j := 6) (i := 6) (pc' := 42) dX0_takingReel_40 rfl rfl ?_
          refine jj_iconst (v := (1 : Int32)) (pc' := 43) dX0_takingReel_42 rfl rfl ?_
          refine jj_cI (N := M_X2_at) (kc' := 0) (ks' := 0) (pc' := 46) (jg_V (N := M_X2_at) (ci := 2) (rest := []) (as := [.int x6, .int ((1 : Int32))]) cf_X0_60 dX0_takingReel_43 ⟨rfl, rfl⟩ rfl rfl ⟨Nat.le_of_ble_eq_true rfl, Nat.le_of_ble_eq_true rfl⟩ ⟨Nat.le_of_ble_eq_true rfl, Nat.le_of_ble_eq_true rfl⟩ (Nat.le_of_ble_eq_true rfl) (fun X' hX => KX2_at hX)) rfl rfl rfl rfl ⟨Nat.le_of_ble_eq_true rfl, Nat.le_of_ble_eq_true rfl⟩ rfl hF (fun x108 h107 hF => ?_)
          refine jj_iload_n (j := 2) (i := 2) (pc' := 47) dX0_takingReel_46 rfl rfl rfl ?_
          refine jj_icmp_eq (tgt := 67) (pc' := 50) dX0_takingReel_47 rfl rfl (fun hc hF => ?_) (fun hc hF => ?_) hF
          · skip
            refine jj_iinc (i := 6) (j := 6) (v := x6 + (1 : Int32)) (ls' := [(6, .int (x6 + (1 : Int32))), (0, .ref a0), (1, .int x1), (2, .int x2), (3, .int x3), (4, .int x4), (5, .int x5)]) (pc' := 70) dX0_takingReel_67 rfl rfl (Nat.le_of_ble_eq_true rfl) rfl rfl ?_
            refine jj_goto (tgt := 3) dX0_takingReel_70 rfl ?_
            exact jj_pick [1, 2, 3, 4, 5, 6, 0] rfl (ih a0 x1 x2 x3 x4 x5 (x6 + (1 : Int32)) h107 _ hF)
          · skip
            refine jj_aload_n (j := 0) (i := 0) (pc' := 51) dX0_takingReel_50 rfl rfl rfl ?_
            refine jj_iload_n (j := 1) (i := 1) (pc' := 52) dX0_takingReel_51 rfl rfl rfl ?_
            refine jj_iload_n (j := 3) (i := 3) (pc' := 53) dX0_takingReel_52 rfl rfl rfl ?_
            refine jj_iload (j := 4) (i := 4) (pc' := 55) dX0_takingReel_53 rfl rfl ?_
            refine jj_iload (j := 6) (i := 6) (pc' := 57) dX0_takingReel_55 rfl rfl ?_
            refine jj_cI (N := M_X0_clashingReel) (kc' := 0) (ks' := 0) (pc' := 60) (jg_V (N := M_X0_clashingReel) (ci := 0) (rest := []) (as := [.int x1, .int x3, .int x4, .int x6]) cf_X0_114 dX0_takingReel_57 ⟨rfl, rfl⟩ rfl rfl ⟨Nat.le_of_ble_eq_true rfl, Nat.le_of_ble_eq_true rfl⟩ ⟨Nat.le_of_ble_eq_true rfl, Nat.le_of_ble_eq_true rfl⟩ (Nat.le_of_ble_eq_true rfl) (fun X' hX => KX0_clashingReel hX)) rfl rfl rfl rfl ⟨Nat.le_of_ble_eq_true rfl, Nat.le_of_ble_eq_true rfl⟩ rfl hF (fun x110 h109 hF => ?_)
            refine jj_iconst (v := (-1 : Int32)) (pc' := 61) dX0_takingReel_60 rfl rfl ?_
            refine jj_icmp_eq (tgt := 67) (pc' := 64) dX0_takingReel_61 rfl rfl (fun hc hF => ?_) (fun hc hF => ?_) hF
            · skip
              refine jj_iinc (i := 6) (j := 6) (v := x6 + (1 : Int32)) (ls' := [(6, .int (x6 + (1 : Int32))), (0, .ref a0), (1, .int x1), (2, .int x2), (3, .int x3), (4, .int x4), (5, .int x5)]) (pc' := 70) dX0_takingReel_67 rfl rfl (Nat.le_of_ble_eq_true rfl) rfl rfl ?_
              refine jj_goto (tgt := 3) dX0_takingReel_70 rfl ?_
              exact jj_pick [1, 2, 3, 4, 5, 6, 0] rfl (ih a0 x1 x2 x3 x4 x5 (x6 + (1 : Int32)) h109 _ hF)
            · skip
              refine jj_iload (j := 6) (i := 6) (pc' := 66) dX0_takingReel_64 rfl rfl ?_
              exact jj_retI (ty := .int) rfl rfl dX0_takingReel_66 ⟨Nat.le_of_ble_eq_true rfl, Nat.le_of_ble_eq_true rfl⟩ hF
set_option maxRecDepth 100000 in
set_option maxHeartbeats 4000000 in
theorem JX0_takingReel {N : Nat} {a0 : Nat} {x1 : Int32} {x2 : Int32} {x3 : Int32} {x4 : Int32} {x5 : Int32} {h : jm_H} {X : jm_X} (hF : FX0_takingReel N a0 x1 x2 x3 x4 x5 h = some X) : jm_J M_X0_takingReel 0 [(0, .ref a0), (1, .int x1), (2, .int x2), (3, .int x3), (4, .int x4), (5, .int x5)] [] h 0 0 X := by
  unfold FX0_takingReel at hF
  refine jj_iconst (v := (0 : Int32)) (pc' := 1) dX0_takingReel_0 rfl rfl ?_
  refine jj_istore (i := 6) (ls' := [(6, .int ((0 : Int32))), (0, .ref a0), (1, .int x1), (2, .int x2), (3, .int x3), (4, .int x4), (5, .int x5)]) (pc' := 3) dX0_takingReel_1 (Nat.le_of_ble_eq_true rfl) rfl rfl ?_
  exact jj_pick [1, 2, 3, 4, 5, 6, 0] rfl (BX0_takingReel_3 N N a0 x1 x2 x3 x4 x5 ((0 : Int32)) h _ hF)
theorem KX0_takingReel {N : Nat} {a0 : Nat} {x1 : Int32} {x2 : Int32} {x3 : Int32} {x4 : Int32} {x5 : Int32} {h : jm_H} {X : jm_X} (hF : FX0_takingReel N a0 x1 x2 x3 x4 x5 h = some X) : jm_K M_X0_takingReel [.ref a0, .int x1, .int x2, .int x3, .int x4, .int x5] h X := jk_of rfl (by decide +kernel) rfl rfl (Nat.le_of_ble_eq_true rfl) (JX0_takingReel hF)
set_option maxRecDepth 100000 in
set_option maxHeartbeats 4000000 in
theorem JX0_refusalBeside {N : Nat} {a0 : Nat} {x1 : Int32} {x2 : Int32} {x3 : Int32} {x4 : Int32} {x5 : Int32} {h : jm_H} {X : jm_X} (hF : FX0_refusalBeside N a0 x1 x2 x3 x4 x5 h = some X) : jm_J M_X0_refusalBeside 0 [(0, .ref a0), (1, .int x1), (2, .int x2), (3, .int x3), (4, .int x4), (5, .int x5)] [] h 0 0 X := by
  unfold FX0_refusalBeside at hF
  refine jj_iload_n (j := 3) (i := 3) (pc' := 1) dX0_refusalBeside_0 rfl rfl rfl ?_
  refine jj_aload_n (j := 0) (i := 0) (pc' := 2) dX0_refusalBeside_1 rfl rfl rfl ?_
  refine jj_iload_n (j := 1) (i := 1) (pc' := 3) dX0_refusalBeside_2 rfl rfl rfl ?_
  refine jj_cI (N := M_X0_lengthOf) (kc' := 0) (ks' := 0) (pc' := 6) (jg_V (N := M_X0_lengthOf) (ci := 0) (rest := [.int x3]) (as := [.int x1]) cf_X0_104 dX0_refusalBeside_3 ⟨rfl, rfl⟩ rfl rfl ⟨Nat.le_of_ble_eq_true rfl, Nat.le_of_ble_eq_true rfl⟩ ⟨Nat.le_of_ble_eq_true rfl, Nat.le_of_ble_eq_true rfl⟩ (Nat.le_of_ble_eq_true rfl) (fun X' hX => KX0_lengthOf hX)) rfl rfl rfl rfl ⟨Nat.le_of_ble_eq_true rfl, Nat.le_of_ble_eq_true rfl⟩ rfl hF (fun x102 h101 hF => ?_)
  refine jj_iadd (pc' := 7) dX0_refusalBeside_6 rfl ?_
  refine jj_iload (j := 4) (i := 4) (pc' := 9) dX0_refusalBeside_7 rfl rfl ?_
  refine jj_iadd (pc' := 10) dX0_refusalBeside_9 rfl ?_
  refine jj_istore (i := 6) (ls' := [(6, .int ((x3 + x102) + x4)), (0, .ref a0), (1, .int x1), (2, .int x2), (3, .int x3), (4, .int x4), (5, .int x5)]) (pc' := 12) dX0_refusalBeside_10 (Nat.le_of_ble_eq_true rfl) rfl rfl ?_
  refine jj_iload (j := 0) (i := 6) (pc' := 14) dX0_refusalBeside_12 rfl rfl ?_
  refine jj_sipush (v := (2000 : Int32)) (pc' := 17) dX0_refusalBeside_14 rfl rfl ?_
  refine jj_icmp_le (tgt := 22) (pc' := 20) dX0_refusalBeside_17 rfl rfl (fun hc hF => ?_) (fun hc hF => ?_) hF
  · skip
    refine jj_aload_n (j := 1) (i := 0) (pc' := 23) dX0_refusalBeside_22 rfl rfl rfl ?_
    refine jj_iload_n (j := 3) (i := 2) (pc' := 24) dX0_refusalBeside_23 rfl rfl rfl ?_
    refine jj_iload_n (j := 4) (i := 3) (pc' := 25) dX0_refusalBeside_24 rfl rfl rfl ?_
    refine jj_iload (j := 0) (i := 6) (pc' := 27) dX0_refusalBeside_25 rfl rfl ?_
    refine jj_iload (j := 6) (i := 5) (pc' := 29) dX0_refusalBeside_27 rfl rfl ?_
    refine jj_cI (N := M_X0_takingScreen) (kc' := 0) (ks' := 0) (pc' := 32) (jg_V (N := M_X0_takingScreen) (ci := 0) (rest := []) (as := [.int x2, .int x3, .int ((x3 + x102) + x4), .int x5]) cf_X0_107 dX0_refusalBeside_29 ⟨rfl, rfl⟩ rfl rfl ⟨Nat.le_of_ble_eq_true rfl, Nat.le_of_ble_eq_true rfl⟩ ⟨Nat.le_of_ble_eq_true rfl, Nat.le_of_ble_eq_true rfl⟩ (Nat.le_of_ble_eq_true rfl) (fun X' hX => KX0_takingScreen hX)) rfl rfl rfl rfl ⟨Nat.le_of_ble_eq_true rfl, Nat.le_of_ble_eq_true rfl⟩ rfl hF (fun x104 h103 hF => ?_)
    refine jj_iconst (v := (-1 : Int32)) (pc' := 33) dX0_refusalBeside_32 rfl rfl ?_
    refine jj_icmp_eq (tgt := 38) (pc' := 36) dX0_refusalBeside_33 rfl rfl (fun hc hF => ?_) (fun hc hF => ?_) hF
    · skip
      refine jj_aload_n (j := 1) (i := 0) (pc' := 39) dX0_refusalBeside_38 rfl rfl rfl ?_
      refine jj_iload_n (j := 2) (i := 1) (pc' := 40) dX0_refusalBeside_39 rfl rfl rfl ?_
      refine jj_iload_n (j := 3) (i := 2) (pc' := 41) dX0_refusalBeside_40 rfl rfl rfl ?_
      refine jj_iload_n (j := 4) (i := 3) (pc' := 42) dX0_refusalBeside_41 rfl rfl rfl ?_
      refine jj_iload (j := 5) (i := 4) (pc' := 44) dX0_refusalBeside_42 rfl rfl ?_
      refine jj_iload (j := 6) (i := 5) (pc' := 46) dX0_refusalBeside_44 rfl rfl ?_
      refine jj_cI (N := M_X0_takingReel) (kc' := 0) (ks' := 0) (pc' := 49) (jg_V (N := M_X0_takingReel) (ci := 0) (rest := []) (as := [.int x1, .int x2, .int x3, .int x4, .int x5]) cf_X0_111 dX0_refusalBeside_46 ⟨rfl, rfl⟩ rfl rfl ⟨Nat.le_of_ble_eq_true rfl, Nat.le_of_ble_eq_true rfl⟩ ⟨Nat.le_of_ble_eq_true rfl, Nat.le_of_ble_eq_true rfl⟩ (Nat.le_of_ble_eq_true rfl) (fun X' hX => KX0_takingReel hX)) rfl rfl rfl rfl ⟨Nat.le_of_ble_eq_true rfl, Nat.le_of_ble_eq_true rfl⟩ rfl hF (fun x106 h105 hF => ?_)
      refine jj_iconst (v := (-1 : Int32)) (pc' := 50) dX0_refusalBeside_49 rfl rfl ?_
      refine jj_icmp_eq (tgt := 55) (pc' := 53) dX0_refusalBeside_50 rfl rfl (fun hc hF => ?_) (fun hc hF => ?_) hF
      · skip
        refine jj_iconst (v := (0 : Int32)) (pc' := 56) dX0_refusalBeside_55 rfl rfl ?_
        exact jj_retI (ty := .int) rfl rfl dX0_refusalBeside_56 ⟨Nat.le_of_ble_eq_true rfl, Nat.le_of_ble_eq_true rfl⟩ hF
      · skip
        refine jj_iconst (v := (4 : Int32)) (pc' := 54) dX0_refusalBeside_53 rfl rfl ?_
        exact jj_retI (ty := .int) rfl rfl dX0_refusalBeside_54 ⟨Nat.le_of_ble_eq_true rfl, Nat.le_of_ble_eq_true rfl⟩ hF
    · skip
      refine jj_iconst (v := (3 : Int32)) (pc' := 37) dX0_refusalBeside_36 rfl rfl ?_
      exact jj_retI (ty := .int) rfl rfl dX0_refusalBeside_37 ⟨Nat.le_of_ble_eq_true rfl, Nat.le_of_ble_eq_true rfl⟩ hF
  · skip
    refine jj_iconst (v := (2 : Int32)) (pc' := 21) dX0_refusalBeside_20 rfl rfl ?_
    exact jj_retI (ty := .int) rfl rfl dX0_refusalBeside_21 ⟨Nat.le_of_ble_eq_true rfl, Nat.le_of_ble_eq_true rfl⟩ hF
theorem KX0_refusalBeside {N : Nat} {a0 : Nat} {x1 : Int32} {x2 : Int32} {x3 : Int32} {x4 : Int32} {x5 : Int32} {h : jm_H} {X : jm_X} (hF : FX0_refusalBeside N a0 x1 x2 x3 x4 x5 h = some X) : jm_K M_X0_refusalBeside [.ref a0, .int x1, .int x2, .int x3, .int x4, .int x5] h X := jk_of rfl (by decide +kernel) rfl rfl (Nat.le_of_ble_eq_true rfl) (JX0_refusalBeside hF)
set_option maxRecDepth 100000 in
set_option maxHeartbeats 4000000 in
theorem JX0_refusal {N : Nat} {a0 : Nat} {x1 : Int32} {x2 : Int32} {x3 : Int32} {x4 : Int32} {h : jm_H} {X : jm_X} (hF : FX0_refusal N a0 x1 x2 x3 x4 h = some X) : jm_J M_X0_refusal 0 [(0, .ref a0), (1, .int x1), (2, .int x2), (3, .int x3), (4, .int x4)] [] h 0 0 X := by
  unfold FX0_refusal at hF
  refine jj_aload_n (j := 0) (i := 0) (pc' := 1) dX0_refusal_0 rfl rfl rfl ?_
  refine jj_gR (C := RX0) (T := TX0) (N := 10) (ci := 0) (k := 3) (pc' := 4) dX0_refusal_1 rfl rfl inX0 (by decide) qw_18 hF (fun r101 hF => ?_)
  refine jj_gI (C := RX2) (T := TX2) (N := 3) (ci := 2) (k := 2) (pc' := 7) dX0_refusal_4 rfl rfl inX2 (by decide) qw_47 hF (fun x102 hF => ?_)
  refine jj_bipush (v := (12 : Int32)) (pc' := 9) dX0_refusal_7 rfl rfl ?_
  refine jj_icmp_lt (tgt := 14) (pc' := 12) dX0_refusal_9 rfl rfl (fun hc hF => ?_) (fun hc hF => ?_) hF
  · skip
    refine jj_aload_n (j := 0) (i := 0) (pc' := 15) dX0_refusal_14 rfl rfl rfl ?_
    refine jj_iload_n (j := 1) (i := 1) (pc' := 16) dX0_refusal_15 rfl rfl rfl ?_
    refine jj_iload_n (j := 2) (i := 2) (pc' := 17) dX0_refusal_16 rfl rfl rfl ?_
    refine jj_iload_n (j := 3) (i := 3) (pc' := 18) dX0_refusal_17 rfl rfl rfl ?_
    refine jj_iload (j := 4) (i := 4) (pc' := 20) dX0_refusal_18 rfl rfl ?_
    refine jj_iconst (v := (-1 : Int32)) (pc' := 21) dX0_refusal_20 rfl rfl ?_
    refine jj_cI (N := M_X0_refusalBeside) (kc' := 0) (ks' := 0) (pc' := 24) (jg_V (N := M_X0_refusalBeside) (ci := 0) (rest := []) (as := [.int x1, .int x2, .int x3, .int x4, .int ((-1 : Int32))]) cf_X0_101 dX0_refusal_21 ⟨rfl, rfl⟩ rfl rfl ⟨Nat.le_of_ble_eq_true rfl, Nat.le_of_ble_eq_true rfl⟩ ⟨Nat.le_of_ble_eq_true rfl, Nat.le_of_ble_eq_true rfl⟩ (Nat.le_of_ble_eq_true rfl) (fun X' hX => KX0_refusalBeside hX)) rfl rfl rfl rfl ⟨Nat.le_of_ble_eq_true rfl, Nat.le_of_ble_eq_true rfl⟩ rfl hF (fun x104 h103 hF => ?_)
    exact jj_retI (ty := .int) rfl rfl dX0_refusal_24 ⟨Nat.le_of_ble_eq_true rfl, Nat.le_of_ble_eq_true rfl⟩ hF
  · skip
    refine jj_iconst (v := (1 : Int32)) (pc' := 13) dX0_refusal_12 rfl rfl ?_
    exact jj_retI (ty := .int) rfl rfl dX0_refusal_13 ⟨Nat.le_of_ble_eq_true rfl, Nat.le_of_ble_eq_true rfl⟩ hF
theorem KX0_refusal {N : Nat} {a0 : Nat} {x1 : Int32} {x2 : Int32} {x3 : Int32} {x4 : Int32} {h : jm_H} {X : jm_X} (hF : FX0_refusal N a0 x1 x2 x3 x4 h = some X) : jm_K M_X0_refusal [.ref a0, .int x1, .int x2, .int x3, .int x4] h X := jk_of rfl (by decide +kernel) rfl rfl (Nat.le_of_ble_eq_true rfl) (JX0_refusal hF)
set_option maxRecDepth 100000 in
set_option maxHeartbeats 4000000 in
theorem JX3_requireNotRefused {x0 : Int32} {h : jm_H} {X : jm_X} (hF : FX3_requireNotRefused x0 h = some X) : jm_J M_X3_requireNotRefused 0 [(0, .int x0)] [] h 0 0 X := by
  unfold FX3_requireNotRefused at hF
  refine jj_iload_n (j := 0) (i := 0) (pc' := 1) dX3_requireNotRefused_0 rfl rfl rfl ?_
  refine jj_if_eq (tgt := 15) (pc' := 4) dX3_requireNotRefused_1 rfl rfl (fun hc hF => ?_) (fun hc hF => ?_) hF
  · skip
    exact jj_retV rfl dX3_requireNotRefused_15 ⟨Nat.le_of_ble_eq_true rfl, Nat.le_of_ble_eq_true rfl⟩ hF
  · skip
    exact jj_throwW (text := "the showing is refused") tf_X3_52_56 (by decide) dX3_requireNotRefused_4 dX3_requireNotRefused_7 dX3_requireNotRefused_8 dX3_requireNotRefused_11 dX3_requireNotRefused_14 rfl ⟨Nat.le_of_ble_eq_true rfl, Nat.le_of_ble_eq_true rfl⟩ ⟨Nat.le_of_ble_eq_true rfl, Nat.le_of_ble_eq_true rfl⟩ hF
theorem KX3_requireNotRefused {x0 : Int32} {h : jm_H} {X : jm_X} (hF : FX3_requireNotRefused x0 h = some X) : jm_K M_X3_requireNotRefused [.int x0] h X := jk_of rfl (by decide +kernel) rfl rfl (Nat.le_of_ble_eq_true rfl) (JX3_requireNotRefused hF)
set_option maxRecDepth 100000 in
set_option maxHeartbeats 4000000 in
theorem JX0_addShowing {a0 : Nat} {x1 : Int32} {x2 : Int32} {x3 : Int32} {x4 : Int32} {h : jm_H} {X : jm_X} (hF : FX0_addShowing a0 x1 x2 x3 x4 h = some X) : jm_J M_X0_addShowing 0 [(0, .ref a0), (1, .int x1), (2, .int x2), (3, .int x3), (4, .int x4)] [] h 0 0 X := by
  unfold FX0_addShowing at hF
  refine jj_aload_n (j := 0) (i := 0) (pc' := 1) dX0_addShowing_0 rfl rfl rfl ?_
  refine jj_gR (C := RX0) (T := TX0) (N := 10) (ci := 0) (k := 3) (pc' := 4) dX0_addShowing_1 rfl rfl inX0 (by decide) qw_18 hF (fun r101 hF => ?_)
  refine jj_cI (N := M_X2_addRow) (kc' := 0) (ks' := 0) (pc' := 7) (jg_V (N := M_X2_addRow) (ci := 2) (rest := []) (as := []) cf_X0_45 dX0_addShowing_4 ⟨rfl, rfl⟩ rfl rfl ⟨Nat.le_of_ble_eq_true rfl, Nat.le_of_ble_eq_true rfl⟩ ⟨Nat.le_of_ble_eq_true rfl, Nat.le_of_ble_eq_true rfl⟩ (Nat.le_of_ble_eq_true rfl) (fun X' hX => KX2_addRow hX)) rfl rfl rfl rfl ⟨Nat.le_of_ble_eq_true rfl, Nat.le_of_ble_eq_true rfl⟩ rfl hF (fun x103 h102 hF => ?_)
  refine jj_istore (i := 5) (ls' := [(5, .int x103), (0, .ref a0), (1, .int x1), (2, .int x2), (3, .int x3), (4, .int x4)]) (pc' := 9) dX0_addShowing_7 (Nat.le_of_ble_eq_true rfl) rfl rfl ?_
  refine jj_aload_n (j := 1) (i := 0) (pc' := 10) dX0_addShowing_9 rfl rfl rfl ?_
  refine jj_gR (C := RX0) (T := TX0) (N := 10) (ci := 0) (k := 3) (pc' := 13) dX0_addShowing_10 rfl rfl inX0 (by decide) qw_18 hF (fun r104 hF => ?_)
  refine jj_iload (j := 0) (i := 5) (pc' := 15) dX0_addShowing_13 rfl rfl ?_
  refine jj_iconst (v := (0 : Int32)) (pc' := 16) dX0_addShowing_15 rfl rfl ?_
  refine jj_iload_n (j := 2) (i := 1) (pc' := 17) dX0_addShowing_16 rfl rfl rfl ?_
  refine jj_cV (N := M_X2_put) (kc' := 0) (ks' := 0) (pc' := 20) (jg_V (N := M_X2_put) (ci := 2) (rest := []) (as := [.int x103, .int ((0 : Int32)), .int x1]) cf_X0_49 dX0_addShowing_17 ⟨rfl, rfl⟩ rfl rfl ⟨Nat.le_of_ble_eq_true rfl, Nat.le_of_ble_eq_true rfl⟩ ⟨Nat.le_of_ble_eq_true rfl, Nat.le_of_ble_eq_true rfl⟩ (Nat.le_of_ble_eq_true rfl) (fun X' hX => KX2_put hX)) rfl rfl rfl rfl ⟨Nat.le_of_ble_eq_true rfl, Nat.le_of_ble_eq_true rfl⟩ rfl hF (fun h105 hF => ?_)
  refine jj_aload_n (j := 1) (i := 0) (pc' := 21) dX0_addShowing_20 rfl rfl rfl ?_
  refine jj_gR (C := RX0) (T := TX0) (N := 10) (ci := 0) (k := 3) (pc' := 24) dX0_addShowing_21 rfl rfl inX0 (by decide) qw_18 hF (fun r106 hF => ?_)
  refine jj_iload (j := 0) (i := 5) (pc' := 26) dX0_addShowing_24 rfl rfl ?_
  refine jj_iconst (v := (1 : Int32)) (pc' := 27) dX0_addShowing_26 rfl rfl ?_
  refine jj_iload_n (j := 3) (i := 2) (pc' := 28) dX0_addShowing_27 rfl rfl rfl ?_
  refine jj_cV (N := M_X2_put) (kc' := 0) (ks' := 0) (pc' := 31) (jg_V (N := M_X2_put) (ci := 2) (rest := []) (as := [.int x103, .int ((1 : Int32)), .int x2]) cf_X0_49 dX0_addShowing_28 ⟨rfl, rfl⟩ rfl rfl ⟨Nat.le_of_ble_eq_true rfl, Nat.le_of_ble_eq_true rfl⟩ ⟨Nat.le_of_ble_eq_true rfl, Nat.le_of_ble_eq_true rfl⟩ (Nat.le_of_ble_eq_true rfl) (fun X' hX => KX2_put hX)) rfl rfl rfl rfl ⟨Nat.le_of_ble_eq_true rfl, Nat.le_of_ble_eq_true rfl⟩ rfl hF (fun h107 hF => ?_)
  refine jj_aload_n (j := 1) (i := 0) (pc' := 32) dX0_addShowing_31 rfl rfl rfl ?_
  refine jj_gR (C := RX0) (T := TX0) (N := 10) (ci := 0) (k := 3) (pc' := 35) dX0_addShowing_32 rfl rfl inX0 (by decide) qw_18 hF (fun r108 hF => ?_)
  refine jj_iload (j := 0) (i := 5) (pc' := 37) dX0_addShowing_35 rfl rfl ?_
  refine jj_iconst (v := (2 : Int32)) (pc' := 38) dX0_addShowing_37 rfl rfl ?_
  refine jj_iload_n (j := 4) (i := 3) (pc' := 39) dX0_addShowing_38 rfl rfl rfl ?_
  refine jj_cV (N := M_X2_put) (kc' := 0) (ks' := 0) (pc' := 42) (jg_V (N := M_X2_put) (ci := 2) (rest := []) (as := [.int x103, .int ((2 : Int32)), .int x3]) cf_X0_49 dX0_addShowing_39 ⟨rfl, rfl⟩ rfl rfl ⟨Nat.le_of_ble_eq_true rfl, Nat.le_of_ble_eq_true rfl⟩ ⟨Nat.le_of_ble_eq_true rfl, Nat.le_of_ble_eq_true rfl⟩ (Nat.le_of_ble_eq_true rfl) (fun X' hX => KX2_put hX)) rfl rfl rfl rfl ⟨Nat.le_of_ble_eq_true rfl, Nat.le_of_ble_eq_true rfl⟩ rfl hF (fun h109 hF => ?_)
  refine jj_aload_n (j := 1) (i := 0) (pc' := 43) dX0_addShowing_42 rfl rfl rfl ?_
  refine jj_gR (C := RX0) (T := TX0) (N := 10) (ci := 0) (k := 3) (pc' := 46) dX0_addShowing_43 rfl rfl inX0 (by decide) qw_18 hF (fun r110 hF => ?_)
  refine jj_iload (j := 0) (i := 5) (pc' := 48) dX0_addShowing_46 rfl rfl ?_
  refine jj_iconst (v := (3 : Int32)) (pc' := 49) dX0_addShowing_48 rfl rfl ?_
  refine jj_iload (j := 5) (i := 4) (pc' := 51) dX0_addShowing_49 rfl rfl ?_
  refine jj_cV (N := M_X2_put) (kc' := 0) (ks' := 0) (pc' := 54) (jg_V (N := M_X2_put) (ci := 2) (rest := []) (as := [.int x103, .int ((3 : Int32)), .int x4]) cf_X0_49 dX0_addShowing_51 ⟨rfl, rfl⟩ rfl rfl ⟨Nat.le_of_ble_eq_true rfl, Nat.le_of_ble_eq_true rfl⟩ ⟨Nat.le_of_ble_eq_true rfl, Nat.le_of_ble_eq_true rfl⟩ (Nat.le_of_ble_eq_true rfl) (fun X' hX => KX2_put hX)) rfl rfl rfl rfl ⟨Nat.le_of_ble_eq_true rfl, Nat.le_of_ble_eq_true rfl⟩ rfl hF (fun h111 hF => ?_)
  refine jj_aload_n (j := 1) (i := 0) (pc' := 55) dX0_addShowing_54 rfl rfl rfl ?_
  refine jj_gR (C := RX0) (T := TX0) (N := 10) (ci := 0) (k := 3) (pc' := 58) dX0_addShowing_55 rfl rfl inX0 (by decide) qw_18 hF (fun r112 hF => ?_)
  refine jj_iload (j := 0) (i := 5) (pc' := 60) dX0_addShowing_58 rfl rfl ?_
  refine jj_iconst (v := (4 : Int32)) (pc' := 61) dX0_addShowing_60 rfl rfl ?_
  refine jj_iconst (v := (0 : Int32)) (pc' := 62) dX0_addShowing_61 rfl rfl ?_
  refine jj_cV (N := M_X2_put) (kc' := 0) (ks' := 0) (pc' := 65) (jg_V (N := M_X2_put) (ci := 2) (rest := []) (as := [.int x103, .int ((4 : Int32)), .int ((0 : Int32))]) cf_X0_49 dX0_addShowing_62 ⟨rfl, rfl⟩ rfl rfl ⟨Nat.le_of_ble_eq_true rfl, Nat.le_of_ble_eq_true rfl⟩ ⟨Nat.le_of_ble_eq_true rfl, Nat.le_of_ble_eq_true rfl⟩ (Nat.le_of_ble_eq_true rfl) (fun X' hX => KX2_put hX)) rfl rfl rfl rfl ⟨Nat.le_of_ble_eq_true rfl, Nat.le_of_ble_eq_true rfl⟩ rfl hF (fun h113 hF => ?_)
  refine jj_iload (j := 0) (i := 5) (pc' := 67) dX0_addShowing_65 rfl rfl ?_
  exact jj_retI (ty := .int) rfl rfl dX0_addShowing_67 ⟨Nat.le_of_ble_eq_true rfl, Nat.le_of_ble_eq_true rfl⟩ hF
theorem KX0_addShowing {a0 : Nat} {x1 : Int32} {x2 : Int32} {x3 : Int32} {x4 : Int32} {h : jm_H} {X : jm_X} (hF : FX0_addShowing a0 x1 x2 x3 x4 h = some X) : jm_K M_X0_addShowing [.ref a0, .int x1, .int x2, .int x3, .int x4] h X := jk_of rfl (by decide +kernel) rfl rfl (Nat.le_of_ble_eq_true rfl) (JX0_addShowing hF)
set_option maxRecDepth 100000 in
set_option maxHeartbeats 4000000 in
theorem JX3_show {N : Nat} {a0 : Nat} {x1 : Int32} {x2 : Int32} {x3 : Int32} {x4 : Int32} {h : jm_H} {X : jm_X} (hF : FX3_show N a0 x1 x2 x3 x4 h = some X) : jm_J M_X3_show 0 [(0, .ref a0), (1, .int x1), (2, .int x2), (3, .int x3), (4, .int x4)] [] h 0 0 X := by
  unfold FX3_show at hF
  refine jj_aload_n (j := 0) (i := 0) (pc' := 1) dX3_show_0 rfl rfl rfl ?_
  refine jj_iload_n (j := 1) (i := 1) (pc' := 2) dX3_show_1 rfl rfl rfl ?_
  refine jj_cV (N := M_X3_requireFilm) (kc' := 1) (ks' := 6) (pc' := 5) (jg_V (N := M_X3_requireFilm) (ci := 3) (rest := []) (as := [.int x1]) cf_X3_85 dX3_show_2 ⟨rfl, rfl⟩ rfl rfl ⟨Nat.le_of_ble_eq_true rfl, Nat.le_of_ble_eq_true rfl⟩ ⟨Nat.le_of_ble_eq_true rfl, Nat.le_of_ble_eq_true rfl⟩ (Nat.le_of_ble_eq_true rfl) (fun X' hX => KX3_requireFilm hX)) rfl rfl rfl rfl ⟨Nat.le_of_ble_eq_true rfl, Nat.le_of_ble_eq_true rfl⟩ rfl hF (fun h101 hF => ?_)
  refine jj_iload_n (j := 2) (i := 2) (pc' := 6) dX3_show_5 rfl rfl rfl ?_
  refine jj_cV (N := M_X3_requireScreen) (kc' := 2) (ks' := 12) (pc' := 9) (jg_S (N := M_X3_requireScreen) (rest := []) (as := [.int x2]) cf_X3_66 rfl dX3_show_6 rfl rfl ⟨Nat.le_of_ble_eq_true rfl, Nat.le_of_ble_eq_true rfl⟩ ⟨Nat.le_of_ble_eq_true rfl, Nat.le_of_ble_eq_true rfl⟩ (Nat.le_of_ble_eq_true rfl) (fun X' hX => KX3_requireScreen hX)) rfl rfl rfl rfl ⟨Nat.le_of_ble_eq_true rfl, Nat.le_of_ble_eq_true rfl⟩ rfl hF (fun h102 hF => ?_)
  refine jj_iload_n (j := 3) (i := 3) (pc' := 10) dX3_show_9 rfl rfl rfl ?_
  refine jj_cV (N := M_X3_requireMinute) (kc' := 3) (ks' := 18) (pc' := 13) (jg_S (N := M_X3_requireMinute) (rest := []) (as := [.int x3]) cf_X3_88 rfl dX3_show_10 rfl rfl ⟨Nat.le_of_ble_eq_true rfl, Nat.le_of_ble_eq_true rfl⟩ ⟨Nat.le_of_ble_eq_true rfl, Nat.le_of_ble_eq_true rfl⟩ (Nat.le_of_ble_eq_true rfl) (fun X' hX => KX3_requireMinute hX)) rfl rfl rfl rfl ⟨Nat.le_of_ble_eq_true rfl, Nat.le_of_ble_eq_true rfl⟩ rfl hF (fun h103 hF => ?_)
  refine jj_iload (j := 4) (i := 4) (pc' := 15) dX3_show_13 rfl rfl ?_
  refine jj_iconst (v := (0 : Int32)) (pc' := 16) dX3_show_15 rfl rfl ?_
  refine jj_bipush (v := (20 : Int32)) (pc' := 18) dX3_show_16 rfl rfl ?_
  refine jj_cI (N := M_X3_isWithin) (kc' := 3) (ks' := 18) (pc' := 21) (jg_S (N := M_X3_isWithin) (rest := []) (as := [.int x4, .int ((0 : Int32)), .int ((20 : Int32))]) cf_X3_34 rfl dX3_show_18 rfl rfl ⟨Nat.le_of_ble_eq_true rfl, Nat.le_of_ble_eq_true rfl⟩ ⟨Nat.le_of_ble_eq_true rfl, Nat.le_of_ble_eq_true rfl⟩ (Nat.le_of_ble_eq_true rfl) (fun X' hX => KX3_isWithin hX)) rfl rfl rfl rfl ⟨Nat.le_of_ble_eq_true rfl, Nat.le_of_ble_eq_true rfl⟩ rfl hF (fun x105 h104 hF => ?_)
  refine jj_cV (N := M_X3_requireArgument) (kc' := 4) (ks' := 24) (pc' := 24) (jg_S (N := M_X3_requireArgument) (rest := []) (as := [.int x105]) cf_X3_38 rfl dX3_show_21 rfl rfl ⟨Nat.le_of_ble_eq_true rfl, Nat.le_of_ble_eq_true rfl⟩ ⟨Nat.le_of_ble_eq_true rfl, Nat.le_of_ble_eq_true rfl⟩ (Nat.le_of_ble_eq_true rfl) (fun X' hX => KX3_requireArgument hX)) rfl rfl rfl rfl ⟨Nat.le_of_ble_eq_true rfl, Nat.le_of_ble_eq_true rfl⟩ rfl hF (fun h106 hF => ?_)
  refine jj_aload_n (j := 0) (i := 0) (pc' := 25) dX3_show_24 rfl rfl rfl ?_
  refine jj_gR (C := RX3) (T := TX3) (N := 8) (ci := 3) (k := 0) (pc' := 28) dX3_show_25 rfl rfl inX3 (by decide) qw_29 hF (fun r107 hF => ?_)
  refine jj_iload_n (j := 1) (i := 1) (pc' := 29) dX3_show_28 rfl rfl rfl ?_
  refine jj_iload_n (j := 2) (i := 2) (pc' := 30) dX3_show_29 rfl rfl rfl ?_
  refine jj_iload_n (j := 3) (i := 3) (pc' := 31) dX3_show_30 rfl rfl rfl ?_
  refine jj_iload (j := 4) (i := 4) (pc' := 33) dX3_show_31 rfl rfl ?_
  refine jj_cI (N := M_X0_refusal) (kc' := 4) (ks' := 24) (pc' := 36) (jg_V (N := M_X0_refusal) (ci := 0) (rest := []) (as := [.int x1, .int x2, .int x3, .int x4]) cf_X3_91 dX3_show_33 ⟨rfl, rfl⟩ rfl rfl ⟨Nat.le_of_ble_eq_true rfl, Nat.le_of_ble_eq_true rfl⟩ ⟨Nat.le_of_ble_eq_true rfl, Nat.le_of_ble_eq_true rfl⟩ (Nat.le_of_ble_eq_true rfl) (fun X' hX => KX0_refusal hX)) rfl rfl rfl rfl ⟨Nat.le_of_ble_eq_true rfl, Nat.le_of_ble_eq_true rfl⟩ rfl hF (fun x109 h108 hF => ?_)
  refine jj_cV (N := M_X3_requireNotRefused) (kc' := 5) (ks' := 30) (pc' := 39) (jg_S (N := M_X3_requireNotRefused) (rest := []) (as := [.int x109]) cf_X3_95 rfl dX3_show_36 rfl rfl ⟨Nat.le_of_ble_eq_true rfl, Nat.le_of_ble_eq_true rfl⟩ ⟨Nat.le_of_ble_eq_true rfl, Nat.le_of_ble_eq_true rfl⟩ (Nat.le_of_ble_eq_true rfl) (fun X' hX => KX3_requireNotRefused hX)) rfl rfl rfl rfl ⟨Nat.le_of_ble_eq_true rfl, Nat.le_of_ble_eq_true rfl⟩ rfl hF (fun h110 hF => ?_)
  refine jj_aload_n (j := 0) (i := 0) (pc' := 40) dX3_show_39 rfl rfl rfl ?_
  refine jj_cV (N := M_X3_save) (kc' := 5) (ks' := 30) (pc' := 43) (jg_V (N := M_X3_save) (ci := 3) (rest := []) (as := []) cf_X3_59 dX3_show_40 ⟨rfl, rfl⟩ rfl rfl ⟨Nat.le_of_ble_eq_true rfl, Nat.le_of_ble_eq_true rfl⟩ ⟨Nat.le_of_ble_eq_true rfl, Nat.le_of_ble_eq_true rfl⟩ (Nat.le_of_ble_eq_true rfl) (fun X' hX => KX3_save hX)) rfl rfl rfl rfl ⟨Nat.le_of_ble_eq_true rfl, Nat.le_of_ble_eq_true rfl⟩ rfl hF (fun h111 hF => ?_)
  refine jj_aload_n (j := 0) (i := 0) (pc' := 44) dX3_show_43 rfl rfl rfl ?_
  refine jj_gR (C := RX3) (T := TX3) (N := 8) (ci := 3) (k := 0) (pc' := 47) dX3_show_44 rfl rfl inX3 (by decide) qw_29 hF (fun r112 hF => ?_)
  refine jj_iload_n (j := 1) (i := 1) (pc' := 48) dX3_show_47 rfl rfl rfl ?_
  refine jj_iload_n (j := 2) (i := 2) (pc' := 49) dX3_show_48 rfl rfl rfl ?_
  refine jj_iload_n (j := 3) (i := 3) (pc' := 50) dX3_show_49 rfl rfl rfl ?_
  refine jj_iload (j := 4) (i := 4) (pc' := 52) dX3_show_50 rfl rfl ?_
  refine jj_cI (N := M_X0_addShowing) (kc' := 5) (ks' := 30) (pc' := 55) (jg_V (N := M_X0_addShowing) (ci := 0) (rest := []) (as := [.int x1, .int x2, .int x3, .int x4]) cf_X3_98 dX3_show_52 ⟨rfl, rfl⟩ rfl rfl ⟨Nat.le_of_ble_eq_true rfl, Nat.le_of_ble_eq_true rfl⟩ ⟨Nat.le_of_ble_eq_true rfl, Nat.le_of_ble_eq_true rfl⟩ (Nat.le_of_ble_eq_true rfl) (fun X' hX => KX0_addShowing hX)) rfl rfl rfl rfl ⟨Nat.le_of_ble_eq_true rfl, Nat.le_of_ble_eq_true rfl⟩ rfl hF (fun x114 h113 hF => ?_)
  exact jj_retI (ty := .int) rfl rfl dX3_show_55 ⟨Nat.le_of_ble_eq_true rfl, Nat.le_of_ble_eq_true rfl⟩ hF
theorem KX3_show {N : Nat} {a0 : Nat} {x1 : Int32} {x2 : Int32} {x3 : Int32} {x4 : Int32} {h : jm_H} {X : jm_X} (hF : FX3_show N a0 x1 x2 x3 x4 h = some X) : jm_K M_X3_show [.ref a0, .int x1, .int x2, .int x3, .int x4] h X := jk_of rfl (by decide +kernel) rfl rfl (Nat.le_of_ble_eq_true rfl) (JX3_show hF)
set_option maxRecDepth 100000 in
set_option maxHeartbeats 4000000 in
theorem JX3_requireShowing {a0 : Nat} {x1 : Int32} {h : jm_H} {X : jm_X} (hF : FX3_requireShowing a0 x1 h = some X) : jm_J M_X3_requireShowing 0 [(0, .ref a0), (1, .int x1)] [] h 0 0 X := by
  unfold FX3_requireShowing at hF
  refine jj_iload_n (j := 1) (i := 1) (pc' := 1) dX3_requireShowing_0 rfl rfl rfl ?_
  refine jj_iconst (v := (0 : Int32)) (pc' := 2) dX3_requireShowing_1 rfl rfl ?_
  refine jj_aload_n (j := 0) (i := 0) (pc' := 3) dX3_requireShowing_2 rfl rfl rfl ?_
  refine jj_gR (C := RX3) (T := TX3) (N := 8) (ci := 3) (k := 0) (pc' := 6) dX3_requireShowing_3 rfl rfl inX3 (by decide) qw_29 hF (fun r101 hF => ?_)
  refine jj_gR (C := RX0) (T := TX0) (N := 10) (ci := 0) (k := 3) (pc' := 9) dX3_requireShowing_6 rfl rfl inX0 (by decide) qw_48 hF (fun r102 hF => ?_)
  refine jj_gI (C := RX2) (T := TX2) (N := 3) (ci := 2) (k := 2) (pc' := 12) dX3_requireShowing_9 rfl rfl inX2 (by decide) qw_44 hF (fun x103 hF => ?_)
  refine jj_iconst (v := (1 : Int32)) (pc' := 13) dX3_requireShowing_12 rfl rfl ?_
  refine jj_isub (pc' := 14) dX3_requireShowing_13 rfl ?_
  refine jj_cI (N := M_X3_isWithin) (kc' := 0) (ks' := 0) (pc' := 17) (jg_S (N := M_X3_isWithin) (rest := []) (as := [.int x1, .int ((0 : Int32)), .int (x103 - ((1 : Int32)))]) cf_X3_34 rfl dX3_requireShowing_14 rfl rfl ⟨Nat.le_of_ble_eq_true rfl, Nat.le_of_ble_eq_true rfl⟩ ⟨Nat.le_of_ble_eq_true rfl, Nat.le_of_ble_eq_true rfl⟩ (Nat.le_of_ble_eq_true rfl) (fun X' hX => KX3_isWithin hX)) rfl rfl rfl rfl ⟨Nat.le_of_ble_eq_true rfl, Nat.le_of_ble_eq_true rfl⟩ rfl hF (fun x105 h104 hF => ?_)
  refine jj_if_ne (tgt := 31) (pc' := 20) dX3_requireShowing_17 rfl rfl (fun hc hF => ?_) (fun hc hF => ?_) hF
  · skip
    exact jj_retV rfl dX3_requireShowing_31 ⟨Nat.le_of_ble_eq_true rfl, Nat.le_of_ble_eq_true rfl⟩ hF
  · skip
    exact jj_throwW (text := "there is no such showing") tf_X3_77_81 (by decide) dX3_requireShowing_20 dX3_requireShowing_23 dX3_requireShowing_24 dX3_requireShowing_27 dX3_requireShowing_30 rfl ⟨Nat.le_of_ble_eq_true rfl, Nat.le_of_ble_eq_true rfl⟩ ⟨Nat.le_of_ble_eq_true rfl, Nat.le_of_ble_eq_true rfl⟩ hF
theorem KX3_requireShowing {a0 : Nat} {x1 : Int32} {h : jm_H} {X : jm_X} (hF : FX3_requireShowing a0 x1 h = some X) : jm_K M_X3_requireShowing [.ref a0, .int x1] h X := jk_of rfl (by decide +kernel) rfl rfl (Nat.le_of_ble_eq_true rfl) (JX3_requireShowing hF)
set_option maxRecDepth 100000 in
set_option maxHeartbeats 4000000 in
theorem JJ6_bitCount_0f7a4 {x0 : Int32} {h : jm_H} {X : jm_X} (hF : FJ6_bitCount_0f7a4 x0 h = some X) : jm_J M_J6_bitCount_0f7a4 0 [(0, .int x0)] [] h 0 0 X := by
  unfold FJ6_bitCount_0f7a4 at hF
  refine jj_iload_n (j := 0) (i := 0) (pc' := 1) dJ6_bitCount_0f7a4_0 rfl rfl rfl ?_
  refine jj_iload_n (j := 0) (i := 0) (pc' := 2) dJ6_bitCount_0f7a4_1 rfl rfl rfl ?_
  refine jj_iconst (v := (1 : Int32)) (pc' := 3) dJ6_bitCount_0f7a4_2 rfl rfl ?_
  refine jj_iushr (v := (x0.toUInt32 >>> (((1 : Int32)).toUInt32 &&& Int32.toUInt32 31)).toInt32) (pc' := 4) dJ6_bitCount_0f7a4_3 rfl rfl ?_
  refine jj_ldc_w (v := (1431655765 : Int32)) (pc' := 7) dJ6_bitCount_0f7a4_4 qw_49 rfl ?_
  refine jj_iand (pc' := 8) dJ6_bitCount_0f7a4_7 rfl ?_
  refine jj_isub (pc' := 9) dJ6_bitCount_0f7a4_8 rfl ?_
  refine jj_istore_n (i := 0) (ls' := [(0, .int (x0 - (((x0.toUInt32 >>> (((1 : Int32)).toUInt32 &&& Int32.toUInt32 31)).toInt32) &&& ((1431655765 : Int32)))))]) (pc' := 10) dJ6_bitCount_0f7a4_9 rfl (Nat.le_of_ble_eq_true rfl) rfl rfl ?_
  refine jj_iload_n (j := 0) (i := 0) (pc' := 11) dJ6_bitCount_0f7a4_10 rfl rfl rfl ?_
  refine jj_ldc_w (v := (858993459 : Int32)) (pc' := 14) dJ6_bitCount_0f7a4_11 qw_50 rfl ?_
  refine jj_iand (pc' := 15) dJ6_bitCount_0f7a4_14 rfl ?_
  refine jj_iload_n (j := 0) (i := 0) (pc' := 16) dJ6_bitCount_0f7a4_15 rfl rfl rfl ?_
  refine jj_iconst (v := (2 : Int32)) (pc' := 17) dJ6_bitCount_0f7a4_16 rfl rfl ?_
  refine jj_iushr (v := ((x0 - (((x0.toUInt32 >>> (((1 : Int32)).toUInt32 &&& Int32.toUInt32 31)).toInt32) &&& ((1431655765 : Int32)))).toUInt32 >>> (((2 : Int32)).toUInt32 &&& Int32.toUInt32 31)).toInt32) (pc' := 18) dJ6_bitCount_0f7a4_17 rfl rfl ?_
  refine jj_ldc_w (v := (858993459 : Int32)) (pc' := 21) dJ6_bitCount_0f7a4_18 qw_50 rfl ?_
  refine jj_iand (pc' := 22) dJ6_bitCount_0f7a4_21 rfl ?_
  refine jj_iadd (pc' := 23) dJ6_bitCount_0f7a4_22 rfl ?_
  refine jj_istore_n (i := 0) (ls' := [(0, .int (((x0 - (((x0.toUInt32 >>> (((1 : Int32)).toUInt32 &&& Int32.toUInt32 31)).toInt32) &&& ((1431655765 : Int32)))) &&& ((858993459 : Int32))) + ((((x0 - (((x0.toUInt32 >>> (((1 : Int32)).toUInt32 &&& Int32.toUInt32 31)).toInt32) &&& ((1431655765 : Int32)))).toUInt32 >>> (((2 : Int32)).toUInt32 &&& Int32.toUInt32 31)).toInt32) &&& ((858993459 : Int32)))))]) (pc' := 24) dJ6_bitCount_0f7a4_23 rfl (Nat.le_of_ble_eq_true rfl) rfl rfl ?_
  refine jj_iload_n (j := 0) (i := 0) (pc' := 25) dJ6_bitCount_0f7a4_24 rfl rfl rfl ?_
  refine jj_iload_n (j := 0) (i := 0) (pc' := 26) dJ6_bitCount_0f7a4_25 rfl rfl rfl ?_
  refine jj_iconst (v := (4 : Int32)) (pc' := 27) dJ6_bitCount_0f7a4_26 rfl rfl ?_
  refine jj_iushr (v := ((((x0 - (((x0.toUInt32 >>> (((1 : Int32)).toUInt32 &&& Int32.toUInt32 31)).toInt32) &&& ((1431655765 : Int32)))) &&& ((858993459 : Int32))) + ((((x0 - (((x0.toUInt32 >>> (((1 : Int32)).toUInt32 &&& Int32.toUInt32 31)).toInt32) &&& ((1431655765 : Int32)))).toUInt32 >>> (((2 : Int32)).toUInt32 &&& Int32.toUInt32 31)).toInt32) &&& ((858993459 : Int32)))).toUInt32 >>> (((4 : Int32)).toUInt32 &&& Int32.toUInt32 31)).toInt32) (pc' := 28) dJ6_bitCount_0f7a4_27 rfl rfl ?_
  refine jj_iadd (pc' := 29) dJ6_bitCount_0f7a4_28 rfl ?_
  refine jj_ldc_w (v := (252645135 : Int32)) (pc' := 32) dJ6_bitCount_0f7a4_29 qw_51 rfl ?_
  refine jj_iand (pc' := 33) dJ6_bitCount_0f7a4_32 rfl ?_
  refine jj_istore_n (i := 0) (ls' := [(0, .int (((((x0 - (((x0.toUInt32 >>> (((1 : Int32)).toUInt32 &&& Int32.toUInt32 31)).toInt32) &&& ((1431655765 : Int32)))) &&& ((858993459 : Int32))) + ((((x0 - (((x0.toUInt32 >>> (((1 : Int32)).toUInt32 &&& Int32.toUInt32 31)).toInt32) &&& ((1431655765 : Int32)))).toUInt32 >>> (((2 : Int32)).toUInt32 &&& Int32.toUInt32 31)).toInt32) &&& ((858993459 : Int32)))) + (((((x0 - (((x0.toUInt32 >>> (((1 : Int32)).toUInt32 &&& Int32.toUInt32 31)).toInt32) &&& ((1431655765 : Int32)))) &&& ((858993459 : Int32))) + ((((x0 - (((x0.toUInt32 >>> (((1 : Int32)).toUInt32 &&& Int32.toUInt32 31)).toInt32) &&& ((1431655765 : Int32)))).toUInt32 >>> (((2 : Int32)).toUInt32 &&& Int32.toUInt32 31)).toInt32) &&& ((858993459 : Int32)))).toUInt32 >>> (((4 : Int32)).toUInt32 &&& Int32.toUInt32 31)).toInt32)) &&& ((252645135 : Int32))))]) (pc' := 34) dJ6_bitCount_0f7a4_33 rfl (Nat.le_of_ble_eq_true rfl) rfl rfl ?_
  refine jj_iload_n (j := 0) (i := 0) (pc' := 35) dJ6_bitCount_0f7a4_34 rfl rfl rfl ?_
  refine jj_iload_n (j := 0) (i := 0) (pc' := 36) dJ6_bitCount_0f7a4_35 rfl rfl rfl ?_
  refine jj_bipush (v := (8 : Int32)) (pc' := 38) dJ6_bitCount_0f7a4_36 rfl rfl ?_
  refine jj_iushr (v := ((((((x0 - (((x0.toUInt32 >>> (((1 : Int32)).toUInt32 &&& Int32.toUInt32 31)).toInt32) &&& ((1431655765 : Int32)))) &&& ((858993459 : Int32))) + ((((x0 - (((x0.toUInt32 >>> (((1 : Int32)).toUInt32 &&& Int32.toUInt32 31)).toInt32) &&& ((1431655765 : Int32)))).toUInt32 >>> (((2 : Int32)).toUInt32 &&& Int32.toUInt32 31)).toInt32) &&& ((858993459 : Int32)))) + (((((x0 - (((x0.toUInt32 >>> (((1 : Int32)).toUInt32 &&& Int32.toUInt32 31)).toInt32) &&& ((1431655765 : Int32)))) &&& ((858993459 : Int32))) + ((((x0 - (((x0.toUInt32 >>> (((1 : Int32)).toUInt32 &&& Int32.toUInt32 31)).toInt32) &&& ((1431655765 : Int32)))).toUInt32 >>> (((2 : Int32)).toUInt32 &&& Int32.toUInt32 31)).toInt32) &&& ((858993459 : Int32)))).toUInt32 >>> (((4 : Int32)).toUInt32 &&& Int32.toUInt32 31)).toInt32)) &&& ((252645135 : Int32))).toUInt32 >>> (((8 : Int32)).toUInt32 &&& Int32.toUInt32 31)).toInt32) (pc' := 39) dJ6_bitCount_0f7a4_38 rfl rfl ?_
  refine jj_iadd (pc' := 40) dJ6_bitCount_0f7a4_39 rfl ?_
  refine jj_istore_n (i := 0) (ls' := [(0, .int ((((((x0 - (((x0.toUInt32 >>> (((1 : Int32)).toUInt32 &&& Int32.toUInt32 31)).toInt32) &&& ((1431655765 : Int32)))) &&& ((858993459 : Int32))) + ((((x0 - (((x0.toUInt32 >>> (((1 : Int32)).toUInt32 &&& Int32.toUInt32 31)).toInt32) &&& ((1431655765 : Int32)))).toUInt32 >>> (((2 : Int32)).toUInt32 &&& Int32.toUInt32 31)).toInt32) &&& ((858993459 : Int32)))) + (((((x0 - (((x0.toUInt32 >>> (((1 : Int32)).toUInt32 &&& Int32.toUInt32 31)).toInt32) &&& ((1431655765 : Int32)))) &&& ((858993459 : Int32))) + ((((x0 - (((x0.toUInt32 >>> (((1 : Int32)).toUInt32 &&& Int32.toUInt32 31)).toInt32) &&& ((1431655765 : Int32)))).toUInt32 >>> (((2 : Int32)).toUInt32 &&& Int32.toUInt32 31)).toInt32) &&& ((858993459 : Int32)))).toUInt32 >>> (((4 : Int32)).toUInt32 &&& Int32.toUInt32 31)).toInt32)) &&& ((252645135 : Int32))) + (((((((x0 - (((x0.toUInt32 >>> (((1 : Int32)).toUInt32 &&& Int32.toUInt32 31)).toInt32) &&& ((1431655765 : Int32)))) &&& ((858993459 : Int32))) + ((((x0 - (((x0.toUInt32 >>> (((1 : Int32)).toUInt32 &&& Int32.toUInt32 31)).toInt32) &&& ((1431655765 : Int32)))).toUInt32 >>> (((2 : Int32)).toUInt32 &&& Int32.toUInt32 31)).toInt32) &&& ((858993459 : Int32)))) + (((((x0 - (((x0.toUInt32 >>> (((1 : Int32)).toUInt32 &&& Int32.toUInt32 31)).toInt32) &&& ((1431655765 : Int32)))) &&& ((858993459 : Int32))) + ((((x0 - (((x0.toUInt32 >>> (((1 : Int32)).toUInt32 &&& Int32.toUInt32 31)).toInt32) &&& ((1431655765 : Int32)))).toUInt32 >>> (((2 : Int32)).toUInt32 &&& Int32.toUInt32 31)).toInt32) &&& ((858993459 : Int32)))).toUInt32 >>> (((4 : Int32)).toUInt32 &&& Int32.toUInt32 31)).toInt32)) &&& ((252645135 : Int32))).toUInt32 >>> (((8 : Int32)).toUInt32 &&& Int32.toUInt32 31)).toInt32)))]) (pc' := 41) dJ6_bitCount_0f7a4_40 rfl (Nat.le_of_ble_eq_true rfl) rfl rfl ?_
  refine jj_iload_n (j := 0) (i := 0) (pc' := 42) dJ6_bitCount_0f7a4_41 rfl rfl rfl ?_
  refine jj_iload_n (j := 0) (i := 0) (pc' := 43) dJ6_bitCount_0f7a4_42 rfl rfl rfl ?_
  refine jj_bipush (v := (16 : Int32)) (pc' := 45) dJ6_bitCount_0f7a4_43 rfl rfl ?_
  refine jj_iushr (v := (((((((x0 - (((x0.toUInt32 >>> (((1 : Int32)).toUInt32 &&& Int32.toUInt32 31)).toInt32) &&& ((1431655765 : Int32)))) &&& ((858993459 : Int32))) + ((((x0 - (((x0.toUInt32 >>> (((1 : Int32)).toUInt32 &&& Int32.toUInt32 31)).toInt32) &&& ((1431655765 : Int32)))).toUInt32 >>> (((2 : Int32)).toUInt32 &&& Int32.toUInt32 31)).toInt32) &&& ((858993459 : Int32)))) + (((((x0 - (((x0.toUInt32 >>> (((1 : Int32)).toUInt32 &&& Int32.toUInt32 31)).toInt32) &&& ((1431655765 : Int32)))) &&& ((858993459 : Int32))) + ((((x0 - (((x0.toUInt32 >>> (((1 : Int32)).toUInt32 &&& Int32.toUInt32 31)).toInt32) &&& ((1431655765 : Int32)))).toUInt32 >>> (((2 : Int32)).toUInt32 &&& Int32.toUInt32 31)).toInt32) &&& ((858993459 : Int32)))).toUInt32 >>> (((4 : Int32)).toUInt32 &&& Int32.toUInt32 31)).toInt32)) &&& ((252645135 : Int32))) + (((((((x0 - (((x0.toUInt32 >>> (((1 : Int32)).toUInt32 &&& Int32.toUInt32 31)).toInt32) &&& ((1431655765 : Int32)))) &&& ((858993459 : Int32))) + ((((x0 - (((x0.toUInt32 >>> (((1 : Int32)).toUInt32 &&& Int32.toUInt32 31)).toInt32) &&& ((1431655765 : Int32)))).toUInt32 >>> (((2 : Int32)).toUInt32 &&& Int32.toUInt32 31)).toInt32) &&& ((858993459 : Int32)))) + (((((x0 - (((x0.toUInt32 >>> (((1 : Int32)).toUInt32 &&& Int32.toUInt32 31)).toInt32) &&& ((1431655765 : Int32)))) &&& ((858993459 : Int32))) + ((((x0 - (((x0.toUInt32 >>> (((1 : Int32)).toUInt32 &&& Int32.toUInt32 31)).toInt32) &&& ((1431655765 : Int32)))).toUInt32 >>> (((2 : Int32)).toUInt32 &&& Int32.toUInt32 31)).toInt32) &&& ((858993459 : Int32)))).toUInt32 >>> (((4 : Int32)).toUInt32 &&& Int32.toUInt32 31)).toInt32)) &&& ((252645135 : Int32))).toUInt32 >>> (((8 : Int32)).toUInt32 &&& Int32.toUInt32 31)).toInt32)).toUInt32 >>> (((16 : Int32)).toUInt32 &&& Int32.toUInt32 31)).toInt32) (pc' := 46) dJ6_bitCount_0f7a4_45 rfl rfl ?_
  refine jj_iadd (pc' := 47) dJ6_bitCount_0f7a4_46 rfl ?_
  refine jj_istore_n (i := 0) (ls' := [(0, .int (((((((x0 - (((x0.toUInt32 >>> (((1 : Int32)).toUInt32 &&& Int32.toUInt32 31)).toInt32) &&& ((1431655765 : Int32)))) &&& ((858993459 : Int32))) + ((((x0 - (((x0.toUInt32 >>> (((1 : Int32)).toUInt32 &&& Int32.toUInt32 31)).toInt32) &&& ((1431655765 : Int32)))).toUInt32 >>> (((2 : Int32)).toUInt32 &&& Int32.toUInt32 31)).toInt32) &&& ((858993459 : Int32)))) + (((((x0 - (((x0.toUInt32 >>> (((1 : Int32)).toUInt32 &&& Int32.toUInt32 31)).toInt32) &&& ((1431655765 : Int32)))) &&& ((858993459 : Int32))) + ((((x0 - (((x0.toUInt32 >>> (((1 : Int32)).toUInt32 &&& Int32.toUInt32 31)).toInt32) &&& ((1431655765 : Int32)))).toUInt32 >>> (((2 : Int32)).toUInt32 &&& Int32.toUInt32 31)).toInt32) &&& ((858993459 : Int32)))).toUInt32 >>> (((4 : Int32)).toUInt32 &&& Int32.toUInt32 31)).toInt32)) &&& ((252645135 : Int32))) + (((((((x0 - (((x0.toUInt32 >>> (((1 : Int32)).toUInt32 &&& Int32.toUInt32 31)).toInt32) &&& ((1431655765 : Int32)))) &&& ((858993459 : Int32))) + ((((x0 - (((x0.toUInt32 >>> (((1 : Int32)).toUInt32 &&& Int32.toUInt32 31)).toInt32) &&& ((1431655765 : Int32)))).toUInt32 >>> (((2 : Int32)).toUInt32 &&& Int32.toUInt32 31)).toInt32) &&& ((858993459 : Int32)))) + (((((x0 - (((x0.toUInt32 >>> (((1 : Int32)).toUInt32 &&& Int32.toUInt32 31)).toInt32) &&& ((1431655765 : Int32)))) &&& ((858993459 : Int32))) + ((((x0 - (((x0.toUInt32 >>> (((1 : Int32)).toUInt32 &&& Int32.toUInt32 31)).toInt32) &&& ((1431655765 : Int32)))).toUInt32 >>> (((2 : Int32)).toUInt32 &&& Int32.toUInt32 31)).toInt32) &&& ((858993459 : Int32)))).toUInt32 >>> (((4 : Int32)).toUInt32 &&& Int32.toUInt32 31)).toInt32)) &&& ((252645135 : Int32))).toUInt32 >>> (((8 : Int32)).toUInt32 &&& Int32.toUInt32 31)).toInt32)) + ((((((((x0 - (((x0.toUInt32 >>> (((1 : Int32)).toUInt32 &&& Int32.toUInt32 31)).toInt32) &&& ((1431655765 : Int32)))) &&& ((858993459 : Int32))) + ((((x0 - (((x0.toUInt32 >>> (((1 : Int32)).toUInt32 &&& Int32.toUInt32 31)).toInt32) &&& ((1431655765 : Int32)))).toUInt32 >>> (((2 : Int32)).toUInt32 &&& Int32.toUInt32 31)).toInt32) &&& ((858993459 : Int32)))) + (((((x0 - (((x0.toUInt32 >>> (((1 : Int32)).toUInt32 &&& Int32.toUInt32 31)).toInt32) &&& ((1431655765 : Int32)))) &&& ((858993459 : Int32))) + ((((x0 - (((x0.toUInt32 >>> (((1 : Int32)).toUInt32 &&& Int32.toUInt32 31)).toInt32) &&& ((1431655765 : Int32)))).toUInt32 >>> (((2 : Int32)).toUInt32 &&& Int32.toUInt32 31)).toInt32) &&& ((858993459 : Int32)))).toUInt32 >>> (((4 : Int32)).toUInt32 &&& Int32.toUInt32 31)).toInt32)) &&& ((252645135 : Int32))) + (((((((x0 - (((x0.toUInt32 >>> (((1 : Int32)).toUInt32 &&& Int32.toUInt32 31)).toInt32) &&& ((1431655765 : Int32)))) &&& ((858993459 : Int32))) + ((((x0 - (((x0.toUInt32 >>> (((1 : Int32)).toUInt32 &&& Int32.toUInt32 31)).toInt32) &&& ((1431655765 : Int32)))).toUInt32 >>> (((2 : Int32)).toUInt32 &&& Int32.toUInt32 31)).toInt32) &&& ((858993459 : Int32)))) + (((((x0 - (((x0.toUInt32 >>> (((1 : Int32)).toUInt32 &&& Int32.toUInt32 31)).toInt32) &&& ((1431655765 : Int32)))) &&& ((858993459 : Int32))) + ((((x0 - (((x0.toUInt32 >>> (((1 : Int32)).toUInt32 &&& Int32.toUInt32 31)).toInt32) &&& ((1431655765 : Int32)))).toUInt32 >>> (((2 : Int32)).toUInt32 &&& Int32.toUInt32 31)).toInt32) &&& ((858993459 : Int32)))).toUInt32 >>> (((4 : Int32)).toUInt32 &&& Int32.toUInt32 31)).toInt32)) &&& ((252645135 : Int32))).toUInt32 >>> (((8 : Int32)).toUInt32 &&& Int32.toUInt32 31)).toInt32)).toUInt32 >>> (((16 : Int32)).toUInt32 &&& Int32.toUInt32 31)).toInt32)))]) (pc' := 48) dJ6_bitCount_0f7a4_47 rfl (Nat.le_of_ble_eq_true rfl) rfl rfl ?_
  refine jj_iload_n (j := 0) (i := 0) (pc' := 49) dJ6_bitCount_0f7a4_48 rfl rfl rfl ?_
  refine jj_bipush (v := (63 : Int32)) (pc' := 51) dJ6_bitCount_0f7a4_49 rfl rfl ?_
  refine jj_iand (pc' := 52) dJ6_bitCount_0f7a4_51 rfl ?_
  exact jj_retI (ty := .int) rfl rfl dJ6_bitCount_0f7a4_52 ⟨Nat.le_of_ble_eq_true rfl, Nat.le_of_ble_eq_true rfl⟩ hF
theorem KJ6_bitCount_0f7a4 {x0 : Int32} {h : jm_H} {X : jm_X} (hF : FJ6_bitCount_0f7a4 x0 h = some X) : jm_K M_J6_bitCount_0f7a4 [.int x0] h X := jk_of rfl (by decide +kernel) rfl rfl (Nat.le_of_ble_eq_true rfl) (JJ6_bitCount_0f7a4 hF)
set_option maxRecDepth 100000 in
set_option maxHeartbeats 4000000 in
theorem BX2_dropRow_27 (N : Nat) : ∀ (n : Nat) (a0 : Nat) (x2 : Int32) (x3 : Int32) (h : jm_H) (k55 : Nat → Int32 → jm_H → Option jm_X) (X : jm_X), (∀ (z0 : Nat) (z2 : Int32) (h : jm_H) (X : jm_X), k55 z0 z2 h = some X → jm_J M_X2_dropRow 55 [(0, .ref z0), (2, .int z2)] [] h 0 0 X) → FX2_dropRow_27 N n a0 x2 x3 h k55 = some X → jm_J M_X2_dropRow 27 [(0, .ref a0), (2, .int x2), (3, .int x3)] [] h 0 0 X := by
  intro n
  induction n with
  | zero =>
    intro a0 x2 x3 h k55 X hk55 hF
    exact nomatch (show (none : Option jm_X) = some X from hF)
  | succ n ih =>
    intro a0 x2 x3 h k55 X hk55 hF
    rw [FX2_dropRow_27] at hF
    refine jj_iload_n (j := 2) (i := 3) (pc' := 28) dX2_dropRow_27 rfl rfl rfl ?_
    refine jj_aload_n (j := 0) (i := 0) (pc' := 29) dX2_dropRow_28 rfl rfl rfl ?_
    refine jj_gI (C := RX2) (T := TX2) (N := 3) (ci := 2) (k := 0) (pc' := 32) dX2_dropRow_29 rfl rfl inX2 (by decide) qw_3 hF (fun x101 hF => ?_)
    refine jj_icmp_ge (tgt := 55) (pc' := 35) dX2_dropRow_32 rfl rfl (fun hc hF => ?_) (fun hc hF => ?_) hF
    · skip
      exact jj_pick [0, 1] rfl (hk55 a0 x2 h _ hF)
    · skip
      refine jj_aload_n (j := 0) (i := 0) (pc' := 36) dX2_dropRow_35 rfl rfl rfl ?_
      refine jj_iload_n (j := 1) (i := 2) (pc' := 37) dX2_dropRow_36 rfl rfl rfl ?_
      refine jj_iload_n (j := 2) (i := 3) (pc' := 38) dX2_dropRow_37 rfl rfl rfl ?_
      refine jj_aload_n (j := 0) (i := 0) (pc' := 39) dX2_dropRow_38 rfl rfl rfl ?_
      refine jj_iload_n (j := 1) (i := 2) (pc' := 40) dX2_dropRow_39 rfl rfl rfl ?_
      refine jj_iconst (v := (1 : Int32)) (pc' := 41) dX2_dropRow_40 rfl rfl ?_
      refine jj_iadd (pc' := 42) dX2_dropRow_41 rfl ?_
      refine jj_iload_n (j := 2) (i := 3) (pc' := 43) dX2_dropRow_42 rfl rfl rfl ?_
      refine jj_cI (N := M_X2_at) (kc' := 0) (ks' := 0) (pc' := 46) (jg_V (N := M_X2_at) (ci := 2) (rest := [.int x3, .int x2, .ref a0]) (as := [.int (x2 + ((1 : Int32))), .int x3]) cf_X2_28 dX2_dropRow_43 ⟨rfl, rfl⟩ rfl rfl ⟨Nat.le_of_ble_eq_true rfl, Nat.le_of_ble_eq_true rfl⟩ ⟨Nat.le_of_ble_eq_true rfl, Nat.le_of_ble_eq_true rfl⟩ (Nat.le_of_ble_eq_true rfl) (fun X' hX => KX2_at hX)) rfl rfl rfl rfl ⟨Nat.le_of_ble_eq_true rfl, Nat.le_of_ble_eq_true rfl⟩ rfl hF (fun x103 h102 hF => ?_)
      refine jj_cV (N := M_X2_put) (kc' := 0) (ks' := 0) (pc' := 49) (jg_V (N := M_X2_put) (ci := 2) (rest := []) (as := [.int x2, .int x3, .int x103]) cf_X2_31 dX2_dropRow_46 ⟨rfl, rfl⟩ rfl rfl ⟨Nat.le_of_ble_eq_true rfl, Nat.le_of_ble_eq_true rfl⟩ ⟨Nat.le_of_ble_eq_true rfl, Nat.le_of_ble_eq_true rfl⟩ (Nat.le_of_ble_eq_true rfl) (fun X' hX => KX2_put hX)) rfl rfl rfl rfl ⟨Nat.le_of_ble_eq_true rfl, Nat.le_of_ble_eq_true rfl⟩ rfl hF (fun h104 hF => ?_)
      refine jj_iinc (i := 3) (j := 2) (v := x3 + (1 : Int32)) (ls' := [(3, .int (x3 + (1 : Int32))), (0, .ref a0), (2, .int x2)]) (pc' := 52) dX2_dropRow_49 rfl rfl (Nat.le_of_ble_eq_true rfl) rfl rfl ?_
      refine jj_goto (tgt := 27) dX2_dropRow_52 rfl ?_
      exact jj_pick [1, 2, 0] rfl (ih a0 x2 (x3 + (1 : Int32)) h104 k55 _ hk55 hF)
set_option maxRecDepth 100000 in
set_option maxHeartbeats 4000000 in
theorem BX2_dropRow_15 (N : Nat) : ∀ (n : Nat) (a0 : Nat) (x2 : Int32) (h : jm_H) (X : jm_X), FX2_dropRow_15 N n a0 x2 h = some X → jm_J M_X2_dropRow 15 [(0, .ref a0), (2, .int x2)] [] h 0 0 X := by
  intro n
  induction n with
  | zero =>
    intro a0 x2 h X hF
    exact nomatch (show (none : Option jm_X) = some X from hF)
  | succ n ih =>
    intro a0 x2 h X hF
    rw [FX2_dropRow_15] at hF
    refine jj_iload_n (j := 1) (i := 2) (pc' := 16) dX2_dropRow_15 rfl rfl rfl ?_
    refine jj_iconst (v := (1 : Int32)) (pc' := 17) dX2_dropRow_16 rfl rfl ?_
    refine jj_iadd (pc' := 18) dX2_dropRow_17 rfl ?_
    refine jj_aload_n (j := 0) (i := 0) (pc' := 19) dX2_dropRow_18 rfl rfl rfl ?_
    refine jj_gI (C := RX2) (T := TX2) (N := 3) (ci := 2) (k := 2) (pc' := 22) dX2_dropRow_19 rfl rfl inX2 (by decide) qw_10 hF (fun x101 hF => ?_)
    refine jj_icmp_ge (tgt := 61) (pc' := 25) dX2_dropRow_22 rfl rfl (fun hc hF => ?_) (fun hc hF => ?_) hF
    · skip
      refine jj_aload_n (j := 0) (i := 0) (pc' := 62) dX2_dropRow_61 rfl rfl rfl ?_
      refine jj_dup (pc' := 63) dX2_dropRow_62 rfl rfl ?_
      refine jj_gI (C := RX2) (T := TX2) (N := 3) (ci := 2) (k := 2) (pc' := 66) dX2_dropRow_63 rfl rfl inX2 (by decide) qw_10 hF (fun x102 hF => ?_)
      refine jj_iconst (v := (1 : Int32)) (pc' := 67) dX2_dropRow_66 rfl rfl ?_
      refine jj_isub (pc' := 68) dX2_dropRow_67 rfl ?_
      refine jj_p (C := RX2) (T := TX2) (N := 3) (ci := 2) (k := 2) (ty := tyX2) (pc' := 71) dX2_dropRow_68 rfl rfl inX2 tyX2_ok nmX2 (by decide) qw_10 rfl (fun _ => ⟨rfl, rfl⟩) hF (fun h103 hF => ?_)
      exact jj_retV rfl dX2_dropRow_71 ⟨Nat.le_of_ble_eq_true rfl, Nat.le_of_ble_eq_true rfl⟩ hF
    · skip
      refine jj_iconst (v := (0 : Int32)) (pc' := 26) dX2_dropRow_25 rfl rfl ?_
      refine jj_istore_n (i := 3) (ls' := [(3, .int ((0 : Int32))), (0, .ref a0), (2, .int x2)]) (pc' := 27) dX2_dropRow_26 rfl (Nat.le_of_ble_eq_true rfl) rfl rfl ?_
      refine jj_pick [1, 2, 0] rfl (BX2_dropRow_27 N N a0 x2 ((0 : Int32)) h _ _ ?_ hF)
      · intro a104 x105 h106 X hF
        refine jj_iinc (i := 2) (j := 1) (v := x105 + (1 : Int32)) (ls' := [(2, .int (x105 + (1 : Int32))), (0, .ref a104)]) (pc' := 58) dX2_dropRow_55 rfl rfl (Nat.le_of_ble_eq_true rfl) rfl rfl ?_
        refine jj_goto (tgt := 15) dX2_dropRow_58 rfl ?_
        exact jj_pick [1, 0] rfl (ih a104 (x105 + (1 : Int32)) h106 _ hF)
set_option maxRecDepth 100000 in
set_option maxHeartbeats 4000000 in
theorem JX2_dropRow {N : Nat} {a0 : Nat} {x1 : Int32} {h : jm_H} {X : jm_X} (hF : FX2_dropRow N a0 x1 h = some X) : jm_J M_X2_dropRow 0 [(0, .ref a0), (1, .int x1)] [] h 0 0 X := by
  unfold FX2_dropRow at hF
  refine jj_iload_n (j := 1) (i := 1) (pc' := 1) dX2_dropRow_0 rfl rfl rfl ?_
  refine jj_if_lt (tgt := 12) (pc' := 4) dX2_dropRow_1 rfl rfl (fun hc hF => ?_) (fun hc hF => ?_) hF
  · skip
    exact jj_retV rfl dX2_dropRow_12 ⟨Nat.le_of_ble_eq_true rfl, Nat.le_of_ble_eq_true rfl⟩ hF
  · skip
    refine jj_iload_n (j := 1) (i := 1) (pc' := 5) dX2_dropRow_4 rfl rfl rfl ?_
    refine jj_aload_n (j := 0) (i := 0) (pc' := 6) dX2_dropRow_5 rfl rfl rfl ?_
    refine jj_gI (C := RX2) (T := TX2) (N := 3) (ci := 2) (k := 2) (pc' := 9) dX2_dropRow_6 rfl rfl inX2 (by decide) qw_10 hF (fun x101 hF => ?_)
    refine jj_icmp_lt (tgt := 13) (pc' := 12) dX2_dropRow_9 rfl rfl (fun hc hF => ?_) (fun hc hF => ?_) hF
    · skip
      refine jj_iload_n (j := 1) (i := 1) (pc' := 14) dX2_dropRow_13 rfl rfl rfl ?_
      refine jj_istore_n (i := 2) (ls' := [(2, .int x1), (0, .ref a0), (1, .int x1)]) (pc' := 15) dX2_dropRow_14 rfl (Nat.le_of_ble_eq_true rfl) rfl rfl ?_
      exact jj_pick [1, 0] rfl (BX2_dropRow_15 N N a0 x1 h _ hF)
    · skip
      exact jj_retV rfl dX2_dropRow_12 ⟨Nat.le_of_ble_eq_true rfl, Nat.le_of_ble_eq_true rfl⟩ hF
theorem KX2_dropRow {N : Nat} {a0 : Nat} {x1 : Int32} {h : jm_H} {X : jm_X} (hF : FX2_dropRow N a0 x1 h = some X) : jm_K M_X2_dropRow [.ref a0, .int x1] h X := jk_of rfl (by decide +kernel) rfl rfl (Nat.le_of_ble_eq_true rfl) (JX2_dropRow hF)
set_option maxRecDepth 100000 in
set_option maxHeartbeats 4000000 in
theorem JX0_dropShowing {N : Nat} {a0 : Nat} {x1 : Int32} {h : jm_H} {X : jm_X} (hF : FX0_dropShowing N a0 x1 h = some X) : jm_J M_X0_dropShowing 0 [(0, .ref a0), (1, .int x1)] [] h 0 0 X := by
  unfold FX0_dropShowing at hF
  refine jj_aload_n (j := 0) (i := 0) (pc' := 1) dX0_dropShowing_0 rfl rfl rfl ?_
  refine jj_gR (C := RX0) (T := TX0) (N := 10) (ci := 0) (k := 3) (pc' := 4) dX0_dropShowing_1 rfl rfl inX0 (by decide) qw_18 hF (fun r101 hF => ?_)
  refine jj_iload_n (j := 1) (i := 1) (pc' := 5) dX0_dropShowing_4 rfl rfl rfl ?_
  refine jj_iconst (v := (4 : Int32)) (pc' := 6) dX0_dropShowing_5 rfl rfl ?_
  refine jj_cI (N := M_X2_at) (kc' := 0) (ks' := 0) (pc' := 9) (jg_V (N := M_X2_at) (ci := 2) (rest := []) (as := [.int x1, .int ((4 : Int32))]) cf_X0_60 dX0_dropShowing_6 ⟨rfl, rfl⟩ rfl rfl ⟨Nat.le_of_ble_eq_true rfl, Nat.le_of_ble_eq_true rfl⟩ ⟨Nat.le_of_ble_eq_true rfl, Nat.le_of_ble_eq_true rfl⟩ (Nat.le_of_ble_eq_true rfl) (fun X' hX => KX2_at hX)) rfl rfl rfl rfl ⟨Nat.le_of_ble_eq_true rfl, Nat.le_of_ble_eq_true rfl⟩ rfl hF (fun x103 h102 hF => ?_)
  refine jj_cI (N := M_J6_bitCount_0f7a4) (kc' := 0) (ks' := 0) (pc' := 12) (jg_S (N := M_J6_bitCount_0f7a4) (rest := []) (as := [.int x103]) cf_X0_64 rfl dX0_dropShowing_9 rfl rfl ⟨Nat.le_of_ble_eq_true rfl, Nat.le_of_ble_eq_true rfl⟩ ⟨Nat.le_of_ble_eq_true rfl, Nat.le_of_ble_eq_true rfl⟩ (Nat.le_of_ble_eq_true rfl) (fun X' hX => KJ6_bitCount_0f7a4 hX)) rfl rfl rfl rfl ⟨Nat.le_of_ble_eq_true rfl, Nat.le_of_ble_eq_true rfl⟩ rfl hF (fun x105 h104 hF => ?_)
  refine jj_istore_n (i := 2) (ls' := [(2, .int x105), (0, .ref a0), (1, .int x1)]) (pc' := 13) dX0_dropShowing_12 rfl (Nat.le_of_ble_eq_true rfl) rfl rfl ?_
  refine jj_aload_n (j := 1) (i := 0) (pc' := 14) dX0_dropShowing_13 rfl rfl rfl ?_
  refine jj_gR (C := RX0) (T := TX0) (N := 10) (ci := 0) (k := 3) (pc' := 17) dX0_dropShowing_14 rfl rfl inX0 (by decide) qw_18 hF (fun r106 hF => ?_)
  refine jj_iload_n (j := 2) (i := 1) (pc' := 18) dX0_dropShowing_17 rfl rfl rfl ?_
  refine jj_cV (N := M_X2_dropRow) (kc' := 0) (ks' := 0) (pc' := 21) (jg_V (N := M_X2_dropRow) (ci := 2) (rest := []) (as := [.int x1]) cf_X0_70 dX0_dropShowing_18 ⟨rfl, rfl⟩ rfl rfl ⟨Nat.le_of_ble_eq_true rfl, Nat.le_of_ble_eq_true rfl⟩ ⟨Nat.le_of_ble_eq_true rfl, Nat.le_of_ble_eq_true rfl⟩ (Nat.le_of_ble_eq_true rfl) (fun X' hX => KX2_dropRow hX)) rfl rfl rfl rfl ⟨Nat.le_of_ble_eq_true rfl, Nat.le_of_ble_eq_true rfl⟩ rfl hF (fun h107 hF => ?_)
  refine jj_aload_n (j := 1) (i := 0) (pc' := 22) dX0_dropShowing_21 rfl rfl rfl ?_
  refine jj_dup (pc' := 23) dX0_dropShowing_22 rfl rfl ?_
  refine jj_gI (C := RX0) (T := TX0) (N := 10) (ci := 0) (k := 6) (pc' := 26) dX0_dropShowing_23 rfl rfl inX0 (by decide) qw_42 hF (fun x108 hF => ?_)
  refine jj_iconst (v := (1 : Int32)) (pc' := 27) dX0_dropShowing_26 rfl rfl ?_
  refine jj_iadd (pc' := 28) dX0_dropShowing_27 rfl ?_
  refine jj_p (C := RX0) (T := TX0) (N := 10) (ci := 0) (k := 6) (ty := tyX0) (pc' := 31) dX0_dropShowing_28 rfl rfl inX0 tyX0_ok nmX0 (by decide) qw_42 rfl (fun _ => ⟨rfl, rfl⟩) hF (fun h109 hF => ?_)
  refine jj_iload_n (j := 0) (i := 2) (pc' := 32) dX0_dropShowing_31 rfl rfl rfl ?_
  exact jj_retI (ty := .int) rfl rfl dX0_dropShowing_32 ⟨Nat.le_of_ble_eq_true rfl, Nat.le_of_ble_eq_true rfl⟩ hF
theorem KX0_dropShowing {N : Nat} {a0 : Nat} {x1 : Int32} {h : jm_H} {X : jm_X} (hF : FX0_dropShowing N a0 x1 h = some X) : jm_K M_X0_dropShowing [.ref a0, .int x1] h X := jk_of rfl (by decide +kernel) rfl rfl (Nat.le_of_ble_eq_true rfl) (JX0_dropShowing hF)
set_option maxRecDepth 100000 in
set_option maxHeartbeats 4000000 in
theorem JX3_callOff {N : Nat} {a0 : Nat} {x1 : Int32} {h : jm_H} {X : jm_X} (hF : FX3_callOff N a0 x1 h = some X) : jm_J M_X3_callOff 0 [(0, .ref a0), (1, .int x1)] [] h 0 0 X := by
  unfold FX3_callOff at hF
  refine jj_aload_n (j := 0) (i := 0) (pc' := 1) dX3_callOff_0 rfl rfl rfl ?_
  refine jj_iload_n (j := 1) (i := 1) (pc' := 2) dX3_callOff_1 rfl rfl rfl ?_
  refine jj_cV (N := M_X3_requireShowing) (kc' := 1) (ks' := 6) (pc' := 5) (jg_V (N := M_X3_requireShowing) (ci := 3) (rest := []) (as := [.int x1]) cf_X3_101 dX3_callOff_2 ⟨rfl, rfl⟩ rfl rfl ⟨Nat.le_of_ble_eq_true rfl, Nat.le_of_ble_eq_true rfl⟩ ⟨Nat.le_of_ble_eq_true rfl, Nat.le_of_ble_eq_true rfl⟩ (Nat.le_of_ble_eq_true rfl) (fun X' hX => KX3_requireShowing hX)) rfl rfl rfl rfl ⟨Nat.le_of_ble_eq_true rfl, Nat.le_of_ble_eq_true rfl⟩ rfl hF (fun h101 hF => ?_)
  refine jj_aload_n (j := 0) (i := 0) (pc' := 6) dX3_callOff_5 rfl rfl rfl ?_
  refine jj_cV (N := M_X3_save) (kc' := 1) (ks' := 6) (pc' := 9) (jg_V (N := M_X3_save) (ci := 3) (rest := []) (as := []) cf_X3_59 dX3_callOff_6 ⟨rfl, rfl⟩ rfl rfl ⟨Nat.le_of_ble_eq_true rfl, Nat.le_of_ble_eq_true rfl⟩ ⟨Nat.le_of_ble_eq_true rfl, Nat.le_of_ble_eq_true rfl⟩ (Nat.le_of_ble_eq_true rfl) (fun X' hX => KX3_save hX)) rfl rfl rfl rfl ⟨Nat.le_of_ble_eq_true rfl, Nat.le_of_ble_eq_true rfl⟩ rfl hF (fun h102 hF => ?_)
  refine jj_aload_n (j := 0) (i := 0) (pc' := 10) dX3_callOff_9 rfl rfl rfl ?_
  refine jj_gR (C := RX3) (T := TX3) (N := 8) (ci := 3) (k := 0) (pc' := 13) dX3_callOff_10 rfl rfl inX3 (by decide) qw_29 hF (fun r103 hF => ?_)
  refine jj_iload_n (j := 1) (i := 1) (pc' := 14) dX3_callOff_13 rfl rfl rfl ?_
  refine jj_cI (N := M_X0_dropShowing) (kc' := 1) (ks' := 6) (pc' := 17) (jg_V (N := M_X0_dropShowing) (ci := 0) (rest := []) (as := [.int x1]) cf_X3_104 dX3_callOff_14 ⟨rfl, rfl⟩ rfl rfl ⟨Nat.le_of_ble_eq_true rfl, Nat.le_of_ble_eq_true rfl⟩ ⟨Nat.le_of_ble_eq_true rfl, Nat.le_of_ble_eq_true rfl⟩ (Nat.le_of_ble_eq_true rfl) (fun X' hX => KX0_dropShowing hX)) rfl rfl rfl rfl ⟨Nat.le_of_ble_eq_true rfl, Nat.le_of_ble_eq_true rfl⟩ rfl hF (fun x105 h104 hF => ?_)
  exact jj_retI (ty := .int) rfl rfl dX3_callOff_17 ⟨Nat.le_of_ble_eq_true rfl, Nat.le_of_ble_eq_true rfl⟩ hF
theorem KX3_callOff {N : Nat} {a0 : Nat} {x1 : Int32} {h : jm_H} {X : jm_X} (hF : FX3_callOff N a0 x1 h = some X) : jm_K M_X3_callOff [.ref a0, .int x1] h X := jk_of rfl (by decide +kernel) rfl rfl (Nat.le_of_ble_eq_true rfl) (JX3_callOff hF)
set_option maxRecDepth 100000 in
set_option maxHeartbeats 4000000 in
theorem JX3_hasBit {x0 : Int32} {x1 : Int32} {h : jm_H} {X : jm_X} (hF : FX3_hasBit x0 x1 h = some X) : jm_J M_X3_hasBit 0 [(0, .int x0), (1, .int x1)] [] h 0 0 X := by
  unfold FX3_hasBit at hF
  refine jj_iload_n (j := 0) (i := 0) (pc' := 1) dX3_hasBit_0 rfl rfl rfl ?_
  refine jj_iload_n (j := 1) (i := 1) (pc' := 2) dX3_hasBit_1 rfl rfl rfl ?_
  refine jj_ishr (pc' := 3) dX3_hasBit_2 rfl ?_
  refine jj_iconst (v := (1 : Int32)) (pc' := 4) dX3_hasBit_3 rfl rfl ?_
  refine jj_iand (pc' := 5) dX3_hasBit_4 rfl ?_
  refine jj_iconst (v := (1 : Int32)) (pc' := 6) dX3_hasBit_5 rfl rfl ?_
  refine jj_icmp_ne (tgt := 13) (pc' := 9) dX3_hasBit_6 rfl rfl (fun hc hF => ?_) (fun hc hF => ?_) hF
  · skip
    refine jj_iconst (v := (0 : Int32)) (pc' := 14) dX3_hasBit_13 rfl rfl ?_
    exact jj_retI (ty := .boolean) rfl rfl dX3_hasBit_14 ⟨Nat.le_of_ble_eq_true rfl, Nat.le_of_ble_eq_true rfl⟩ hF
  · skip
    refine jj_iconst (v := (1 : Int32)) (pc' := 10) dX3_hasBit_9 rfl rfl ?_
    refine jj_goto (tgt := 14) dX3_hasBit_10 rfl ?_
    exact jj_retI (ty := .boolean) rfl rfl dX3_hasBit_14 ⟨Nat.le_of_ble_eq_true rfl, Nat.le_of_ble_eq_true rfl⟩ hF
theorem KX3_hasBit {x0 : Int32} {x1 : Int32} {h : jm_H} {X : jm_X} (hF : FX3_hasBit x0 x1 h = some X) : jm_K M_X3_hasBit [.int x0, .int x1] h X := jk_of rfl (by decide +kernel) rfl rfl (Nat.le_of_ble_eq_true rfl) (JX3_hasBit hF)
set_option maxRecDepth 100000 in
set_option maxHeartbeats 4000000 in
theorem JX0_goes {a0 : Nat} {x1 : Int32} {x2 : Int32} {h : jm_H} {X : jm_X} (hF : FX0_goes a0 x1 x2 h = some X) : jm_J M_X0_goes 0 [(0, .ref a0), (1, .int x1), (2, .int x2)] [] h 0 0 X := by
  unfold FX0_goes at hF
  refine jj_aload_n (j := 0) (i := 0) (pc' := 1) dX0_goes_0 rfl rfl rfl ?_
  refine jj_gR (C := RX0) (T := TX0) (N := 10) (ci := 0) (k := 3) (pc' := 4) dX0_goes_1 rfl rfl inX0 (by decide) qw_18 hF (fun r101 hF => ?_)
  refine jj_iload_n (j := 2) (i := 2) (pc' := 5) dX0_goes_4 rfl rfl rfl ?_
  refine jj_iconst (v := (4 : Int32)) (pc' := 6) dX0_goes_5 rfl rfl ?_
  refine jj_cI (N := M_X2_at) (kc' := 0) (ks' := 0) (pc' := 9) (jg_V (N := M_X2_at) (ci := 2) (rest := []) (as := [.int x2, .int ((4 : Int32))]) cf_X0_60 dX0_goes_6 ⟨rfl, rfl⟩ rfl rfl ⟨Nat.le_of_ble_eq_true rfl, Nat.le_of_ble_eq_true rfl⟩ ⟨Nat.le_of_ble_eq_true rfl, Nat.le_of_ble_eq_true rfl⟩ (Nat.le_of_ble_eq_true rfl) (fun X' hX => KX2_at hX)) rfl rfl rfl rfl ⟨Nat.le_of_ble_eq_true rfl, Nat.le_of_ble_eq_true rfl⟩ rfl hF (fun x103 h102 hF => ?_)
  refine jj_iload_n (j := 1) (i := 1) (pc' := 10) dX0_goes_9 rfl rfl rfl ?_
  refine jj_nS (N := M_X3_hasBit) (as := [.int x103, .int x1]) (rest := []) (kc' := 0) (ks' := 0) (pc' := 13) cf_X0_84 dX0_goes_10 rfl rfl ⟨Nat.le_of_ble_eq_true rfl, Nat.le_of_ble_eq_true rfl⟩ ⟨Nat.le_of_ble_eq_true rfl, Nat.le_of_ble_eq_true rfl⟩ (Nat.le_of_ble_eq_true rfl) (fun X' hX => KX3_hasBit hX) rfl rfl rfl rfl hF (fun x105 h104 hF => ?_)
  exact jj_retZ rfl dX0_goes_13 ⟨Nat.le_of_ble_eq_true rfl, Nat.le_of_ble_eq_true rfl⟩ hF
theorem KX0_goes {a0 : Nat} {x1 : Int32} {x2 : Int32} {h : jm_H} {X : jm_X} (hF : FX0_goes a0 x1 x2 h = some X) : jm_K M_X0_goes [.ref a0, .int x1, .int x2] h X := jk_of rfl (by decide +kernel) rfl rfl (Nat.le_of_ble_eq_true rfl) (JX0_goes hF)
set_option maxRecDepth 100000 in
set_option maxHeartbeats 4000000 in
theorem BX0_canGo_31 (N : Nat) : ∀ (n : Nat) (a0 : Nat) (x1 : Int32) (x2 : Int32) (x3 : Int32) (x4 : Int32) (x5 : Int32) (x6 : Int32) (h : jm_H) (X : jm_X), FX0_canGo_31 N n a0 x1 x2 x3 x4 x5 x6 h = some X → jm_J M_X0_canGo 31 [(0, .ref a0), (1, .int x1), (2, .int x2), (3, .int x3), (4, .int x4), (5, .int x5), (6, .int x6)] [] h 0 0 X := by
  intro n
  induction n with
  | zero =>
    intro a0 x1 x2 x3 x4 x5 x6 h X hF
    exact nomatch (show (none : Option jm_X) = some X from hF)
  | succ n ih =>
    intro a0 x1 x2 x3 x4 x5 x6 h X hF
    rw [FX0_canGo_31] at hF
    refine jj_iload (j := 6) (i := 6) (pc' := 33) dX0_canGo_31 rfl rfl ?_
    refine jj_aload_n (j := 0) (i := 0) (pc' := 34) dX0_canGo_33 rfl rfl rfl ?_
    refine jj_gR (C := RX0) (T := TX0) (N := 10) (ci := 0) (k := 3) (pc' := 37) dX0_canGo_34 rfl rfl inX0 (by decide) qw_18 hF (fun r101 hF => ?_)
    refine jj_gI (C := RX2) (T := TX2) (N := 3) (ci := 2) (k := 2) (pc' := 40) dX0_canGo_37 rfl rfl inX2 (by decide) qw_47 hF (fun x102 hF => ?_)
    refine jj_icmp_ge (tgt := 94) (pc' := 43) dX0_canGo_40 rfl rfl (fun hc hF => ?_) (fun hc hF => ?_) hF
    · skip
      refine jj_iconst (v := (1 : Int32)) (pc' := 95) dX0_canGo_94 rfl rfl ?_
      exact jj_retI (ty := .boolean) rfl rfl dX0_canGo_95 ⟨Nat.le_of_ble_eq_true rfl, Nat.le_of_ble_eq_true rfl⟩ hF
    · skip
      refine jj_iload (j := 6) (i := 6) (pc' := 45) dX0_canGo_43 rfl rfl ?_
      refine jj_iload_n (j := 2) (i := 2) (pc' := 46) dX0_canGo_45 rfl rfl rfl ?_
      refine jj_icmp_eq (tgt := 88) (pc' := 49) dX0_canGo_46 rfl rfl (fun hc hF => ?_) (fun hc hF => ?_) hF
      · skip
        refine jj_iinc (i := 6) (j := 6) (v := x6 + (1 : Int32)) (ls' := [(6, .int (x6 + (1 : Int32))), (0, .ref a0), (1, .int x1), (2, .int x2), (3, .int x3), (4, .int x4), (5, .int x5)]) (pc' := 91) dX0_canGo_88 rfl rfl (Nat.le_of_ble_eq_true rfl) rfl rfl ?_
        refine jj_goto (tgt := 31) dX0_canGo_91 rfl ?_
        exact jj_pick [1, 2, 3, 4, 5, 6, 0] rfl (ih a0 x1 x2 x3 x4 x5 (x6 + (1 : Int32)) h _ hF)
      · skip
        refine jj_aload_n (j := 0) (i := 0) (pc' := 50) dX0_canGo_49 rfl rfl rfl ?_
        refine jj_iload_n (j := 1) (i := 1) (pc' := 51) dX0_canGo_50 rfl rfl rfl ?_
        refine jj_iload (j := 6) (i := 6) (pc' := 53) dX0_canGo_51 rfl rfl ?_
        refine jj_cI (N := M_X0_goes) (kc' := 0) (ks' := 0) (pc' := 56) (jg_V (N := M_X0_goes) (ci := 0) (rest := []) (as := [.int x1, .int x6]) cf_X0_74 dX0_canGo_53 ⟨rfl, rfl⟩ rfl rfl ⟨Nat.le_of_ble_eq_true rfl, Nat.le_of_ble_eq_true rfl⟩ ⟨Nat.le_of_ble_eq_true rfl, Nat.le_of_ble_eq_true rfl⟩ (Nat.le_of_ble_eq_true rfl) (fun X' hX => KX0_goes hX)) rfl rfl rfl rfl ⟨Nat.le_of_ble_eq_true rfl, Nat.le_of_ble_eq_true rfl⟩ rfl hF (fun x104 h103 hF => ?_)
        refine jj_if_eq (tgt := 88) (pc' := 59) dX0_canGo_56 rfl rfl (fun hc hF => ?_) (fun hc hF => ?_) hF
        · skip
          refine jj_iinc (i := 6) (j := 6) (v := x6 + (1 : Int32)) (ls' := [(6, .int (x6 + (1 : Int32))), (0, .ref a0), (1, .int x1), (2, .int x2), (3, .int x3), (4, .int x4), (5, .int x5)]) (pc' := 91) dX0_canGo_88 rfl rfl (Nat.le_of_ble_eq_true rfl) rfl rfl ?_
          refine jj_goto (tgt := 31) dX0_canGo_91 rfl ?_
          exact jj_pick [1, 2, 3, 4, 5, 6, 0] rfl (ih a0 x1 x2 x3 x4 x5 (x6 + (1 : Int32)) h103 _ hF)
        · skip
          refine jj_iload_n (j := 3) (i := 3) (pc' := 60) dX0_canGo_59 rfl rfl rfl ?_
          refine jj_iload (j := 4) (i := 4) (pc' := 62) dX0_canGo_60 rfl rfl ?_
          refine jj_aload_n (j := 0) (i := 0) (pc' := 63) dX0_canGo_62 rfl rfl rfl ?_
          refine jj_gR (C := RX0) (T := TX0) (N := 10) (ci := 0) (k := 3) (pc' := 66) dX0_canGo_63 rfl rfl inX0 (by decide) qw_18 hF (fun r105 hF => ?_)
          refine jj_iload (j := 6) (i := 6) (pc' := 68) dX0_canGo_66 rfl rfl ?_
          refine jj_iconst (v := (2 : Int32)) (pc' := 69) dX0_canGo_68 rfl rfl ?_
          refine jj_cI (N := M_X2_at) (kc' := 0) (ks' := 0) (pc' := 72) (jg_V (N := M_X2_at) (ci := 2) (rest := [.int x4, .int x3]) (as := [.int x6, .int ((2 : Int32))]) cf_X0_60 dX0_canGo_69 ⟨rfl, rfl⟩ rfl rfl ⟨Nat.le_of_ble_eq_true rfl, Nat.le_of_ble_eq_true rfl⟩ ⟨Nat.le_of_ble_eq_true rfl, Nat.le_of_ble_eq_true rfl⟩ (Nat.le_of_ble_eq_true rfl) (fun X' hX => KX2_at hX)) rfl rfl rfl rfl ⟨Nat.le_of_ble_eq_true rfl, Nat.le_of_ble_eq_true rfl⟩ rfl hF (fun x107 h106 hF => ?_)
          refine jj_aload_n (j := 0) (i := 0) (pc' := 73) dX0_canGo_72 rfl rfl rfl ?_
          refine jj_iload (j := 6) (i := 6) (pc' := 75) dX0_canGo_73 rfl rfl ?_
          refine jj_cI (N := M_X0_endOf) (kc' := 0) (ks' := 0) (pc' := 78) (jg_V (N := M_X0_endOf) (ci := 0) (rest := [.int x107, .int x4, .int x3]) (as := [.int x6]) cf_X0_87 dX0_canGo_75 ⟨rfl, rfl⟩ rfl rfl ⟨Nat.le_of_ble_eq_true rfl, Nat.le_of_ble_eq_true rfl⟩ ⟨Nat.le_of_ble_eq_true rfl, Nat.le_of_ble_eq_true rfl⟩ (Nat.le_of_ble_eq_true rfl) (fun X' hX => KX0_endOf hX)) rfl rfl rfl rfl ⟨Nat.le_of_ble_eq_true rfl, Nat.le_of_ble_eq_true rfl⟩ rfl hF (fun x109 h108 hF => ?_)
          refine jj_iload (j := 5) (i := 5) (pc' := 80) dX0_canGo_78 rfl rfl ?_
          refine jj_cI (N := M_X0_areTooClose) (kc' := 0) (ks' := 0) (pc' := 83) (jg_S (N := M_X0_areTooClose) (rest := []) (as := [.int x3, .int x4, .int x107, .int x109, .int x5]) cf_X0_93 rfl dX0_canGo_80 rfl rfl ⟨Nat.le_of_ble_eq_true rfl, Nat.le_of_ble_eq_true rfl⟩ ⟨Nat.le_of_ble_eq_true rfl, Nat.le_of_ble_eq_true rfl⟩ (Nat.le_of_ble_eq_true rfl) (fun X' hX => KX0_areTooClose hX)) rfl rfl rfl rfl ⟨Nat.le_of_ble_eq_true rfl, Nat.le_of_ble_eq_true rfl⟩ rfl hF (fun x111 h110 hF => ?_)
          refine jj_if_eq (tgt := 88) (pc' := 86) dX0_canGo_83 rfl rfl (fun hc hF => ?_) (fun hc hF => ?_) hF
          · skip
            refine jj_iinc (i := 6) (j := 6) (v := x6 + (1 : Int32)) (ls' := [(6, .int (x6 + (1 : Int32))), (0, .ref a0), (1, .int x1), (2, .int x2), (3, .int x3), (4, .int x4), (5, .int x5)]) (pc' := 91) dX0_canGo_88 rfl rfl (Nat.le_of_ble_eq_true rfl) rfl rfl ?_
            refine jj_goto (tgt := 31) dX0_canGo_91 rfl ?_
            exact jj_pick [1, 2, 3, 4, 5, 6, 0] rfl (ih a0 x1 x2 x3 x4 x5 (x6 + (1 : Int32)) h110 _ hF)
          · skip
            refine jj_iconst (v := (0 : Int32)) (pc' := 87) dX0_canGo_86 rfl rfl ?_
            exact jj_retI (ty := .boolean) rfl rfl dX0_canGo_87 ⟨Nat.le_of_ble_eq_true rfl, Nat.le_of_ble_eq_true rfl⟩ hF
set_option maxRecDepth 100000 in
set_option maxHeartbeats 4000000 in
theorem JX0_canGo {N : Nat} {a0 : Nat} {x1 : Int32} {x2 : Int32} {h : jm_H} {X : jm_X} (hF : FX0_canGo N a0 x1 x2 h = some X) : jm_J M_X0_canGo 0 [(0, .ref a0), (1, .int x1), (2, .int x2)] [] h 0 0 X := by
  unfold FX0_canGo at hF
  refine jj_aload_n (j := 0) (i := 0) (pc' := 1) dX0_canGo_0 rfl rfl rfl ?_
  refine jj_gR (C := RX0) (T := TX0) (N := 10) (ci := 0) (k := 3) (pc' := 4) dX0_canGo_1 rfl rfl inX0 (by decide) qw_18 hF (fun r101 hF => ?_)
  refine jj_iload_n (j := 2) (i := 2) (pc' := 5) dX0_canGo_4 rfl rfl rfl ?_
  refine jj_iconst (v := (2 : Int32)) (pc' := 6) dX0_canGo_5 rfl rfl ?_
  refine jj_cI (N := M_X2_at) (kc' := 0) (ks' := 0) (pc' := 9) (jg_V (N := M_X2_at) (ci := 2) (rest := []) (as := [.int x2, .int ((2 : Int32))]) cf_X0_60 dX0_canGo_6 ⟨rfl, rfl⟩ rfl rfl ⟨Nat.le_of_ble_eq_true rfl, Nat.le_of_ble_eq_true rfl⟩ ⟨Nat.le_of_ble_eq_true rfl, Nat.le_of_ble_eq_true rfl⟩ (Nat.le_of_ble_eq_true rfl) (fun X' hX => KX2_at hX)) rfl rfl rfl rfl ⟨Nat.le_of_ble_eq_true rfl, Nat.le_of_ble_eq_true rfl⟩ rfl hF (fun x103 h102 hF => ?_)
  refine jj_istore_n (i := 3) (ls' := [(3, .int x103), (0, .ref a0), (1, .int x1), (2, .int x2)]) (pc' := 10) dX0_canGo_9 rfl (Nat.le_of_ble_eq_true rfl) rfl rfl ?_
  refine jj_aload_n (j := 1) (i := 0) (pc' := 11) dX0_canGo_10 rfl rfl rfl ?_
  refine jj_iload_n (j := 3) (i := 2) (pc' := 12) dX0_canGo_11 rfl rfl rfl ?_
  refine jj_cI (N := M_X0_endOf) (kc' := 0) (ks' := 0) (pc' := 15) (jg_V (N := M_X0_endOf) (ci := 0) (rest := []) (as := [.int x2]) cf_X0_87 dX0_canGo_12 ⟨rfl, rfl⟩ rfl rfl ⟨Nat.le_of_ble_eq_true rfl, Nat.le_of_ble_eq_true rfl⟩ ⟨Nat.le_of_ble_eq_true rfl, Nat.le_of_ble_eq_true rfl⟩ (Nat.le_of_ble_eq_true rfl) (fun X' hX => KX0_endOf hX)) rfl rfl rfl rfl ⟨Nat.le_of_ble_eq_true rfl, Nat.le_of_ble_eq_true rfl⟩ rfl hF (fun x105 h104 hF => ?_)
  refine jj_istore (i := 4) (ls' := [(4, .int x105), (3, .int x103), (0, .ref a0), (1, .int x1), (2, .int x2)]) (pc' := 17) dX0_canGo_15 (Nat.le_of_ble_eq_true rfl) rfl rfl ?_
  refine jj_aload_n (j := 2) (i := 0) (pc' := 18) dX0_canGo_17 rfl rfl rfl ?_
  refine jj_gR (C := RX0) (T := TX0) (N := 10) (ci := 0) (k := 2) (pc' := 21) dX0_canGo_18 rfl rfl inX0 (by decide) qw_17 hF (fun r106 hF => ?_)
  refine jj_iconst (v := (3 : Int32)) (pc' := 22) dX0_canGo_21 rfl rfl ?_
  refine jj_iconst (v := (0 : Int32)) (pc' := 23) dX0_canGo_22 rfl rfl ?_
  refine jj_cI (N := M_X2_at) (kc' := 0) (ks' := 0) (pc' := 26) (jg_V (N := M_X2_at) (ci := 2) (rest := []) (as := [.int ((3 : Int32)), .int ((0 : Int32))]) cf_X0_60 dX0_canGo_23 ⟨rfl, rfl⟩ rfl rfl ⟨Nat.le_of_ble_eq_true rfl, Nat.le_of_ble_eq_true rfl⟩ ⟨Nat.le_of_ble_eq_true rfl, Nat.le_of_ble_eq_true rfl⟩ (Nat.le_of_ble_eq_true rfl) (fun X' hX => KX2_at hX)) rfl rfl rfl rfl ⟨Nat.le_of_ble_eq_true rfl, Nat.le_of_ble_eq_true rfl⟩ rfl hF (fun x108 h107 hF => ?_)
  refine jj_istore (i := 5) (ls' := [(5, .int x108), (4, .int x105), (3, .int x103), (0, .ref a0), (1, .int x1), (2, .int x2)]) (pc' := 28) dX0_canGo_26 (Nat.le_of_ble_eq_true rfl) rfl rfl ?_
  refine jj_iconst (v := (0 : Int32)) (pc' := 29) dX0_canGo_28 rfl rfl ?_
  refine jj_istore (i := 6) (ls' := [(6, .int ((0 : Int32))), (5, .int x108), (4, .int x105), (3, .int x103), (0, .ref a0), (1, .int x1), (2, .int x2)]) (pc' := 31) dX0_canGo_29 (Nat.le_of_ble_eq_true rfl) rfl rfl ?_
  exact jj_pick [4, 5, 6, 3, 2, 1, 0] rfl (BX0_canGo_31 N N a0 x1 x2 x103 x105 x108 ((0 : Int32)) h107 _ hF)
theorem KX0_canGo {N : Nat} {a0 : Nat} {x1 : Int32} {x2 : Int32} {h : jm_H} {X : jm_X} (hF : FX0_canGo N a0 x1 x2 h = some X) : jm_K M_X0_canGo [.ref a0, .int x1, .int x2] h X := jk_of rfl (by decide +kernel) rfl rfl (Nat.le_of_ble_eq_true rfl) (JX0_canGo hF)
set_option maxRecDepth 100000 in
set_option maxHeartbeats 4000000 in
theorem BX0_shift_15 (N : Nat) : ∀ (n : Nat) (a0 : Nat) (x1 : Int32) (x3 : Int32) (x4 : Int32) (h : jm_H) (X : jm_X), FX0_shift_15 N n a0 x1 x3 x4 h = some X → jm_J M_X0_shift 15 [(0, .ref a0), (1, .int x1), (3, .int x3), (4, .int x4)] [] h 0 0 X := by
  intro n
  induction n with
  | zero =>
    intro a0 x1 x3 x4 h X hF
    exact nomatch (show (none : Option jm_X) = some X from hF)
  | succ n ih =>
    intro a0 x1 x3 x4 h X hF
    rw [FX0_shift_15] at hF
    refine jj_iload (j := 3) (i := 4) (pc' := 17) dX0_shift_15 rfl rfl ?_
    refine jj_iconst (v := (3 : Int32)) (pc' := 18) dX0_shift_17 rfl rfl ?_
    refine jj_icmp_ge (tgt := 75) (pc' := 21) dX0_shift_18 rfl rfl (fun hc hF => ?_) (fun hc hF => ?_) hF
    · skip
      refine jj_iload_n (j := 2) (i := 3) (pc' := 76) dX0_shift_75 rfl rfl rfl ?_
      exact jj_retI (ty := .int) rfl rfl dX0_shift_76 ⟨Nat.le_of_ble_eq_true rfl, Nat.le_of_ble_eq_true rfl⟩ hF
    · skip
      refine jj_aload_n (j := 0) (i := 0) (pc' := 22) dX0_shift_21 rfl rfl rfl ?_
      refine jj_iload (j := 3) (i := 4) (pc' := 24) dX0_shift_22 rfl rfl ?_
      refine jj_iload_n (j := 1) (i := 1) (pc' := 25) dX0_shift_24 rfl rfl rfl ?_
      refine jj_cI (N := M_X0_goes) (kc' := 0) (ks' := 0) (pc' := 28) (jg_V (N := M_X0_goes) (ci := 0) (rest := []) (as := [.int x4, .int x1]) cf_X0_74 dX0_shift_25 ⟨rfl, rfl⟩ rfl rfl ⟨Nat.le_of_ble_eq_true rfl, Nat.le_of_ble_eq_true rfl⟩ ⟨Nat.le_of_ble_eq_true rfl, Nat.le_of_ble_eq_true rfl⟩ (Nat.le_of_ble_eq_true rfl) (fun X' hX => KX0_goes hX)) rfl rfl rfl rfl ⟨Nat.le_of_ble_eq_true rfl, Nat.le_of_ble_eq_true rfl⟩ rfl hF (fun x102 h101 hF => ?_)
      refine jj_if_eq (tgt := 69) (pc' := 31) dX0_shift_28 rfl rfl (fun hc hF => ?_) (fun hc hF => ?_) hF
      · skip
        refine jj_iinc (i := 4) (j := 3) (v := x4 + (1 : Int32)) (ls' := [(4, .int (x4 + (1 : Int32))), (0, .ref a0), (1, .int x1), (3, .int x3)]) (pc' := 72) dX0_shift_69 rfl rfl (Nat.le_of_ble_eq_true rfl) rfl rfl ?_
        refine jj_goto (tgt := 15) dX0_shift_72 rfl ?_
        exact jj_pick [1, 2, 3, 0] rfl (ih a0 x1 x3 (x4 + (1 : Int32)) h101 _ hF)
      · skip
        refine jj_aload_n (j := 0) (i := 0) (pc' := 32) dX0_shift_31 rfl rfl rfl ?_
        refine jj_iload (j := 3) (i := 4) (pc' := 34) dX0_shift_32 rfl rfl ?_
        refine jj_iload_n (j := 1) (i := 1) (pc' := 35) dX0_shift_34 rfl rfl rfl ?_
        refine jj_cI (N := M_X0_canGo) (kc' := 0) (ks' := 0) (pc' := 38) (jg_V (N := M_X0_canGo) (ci := 0) (rest := []) (as := [.int x4, .int x1]) cf_X0_78 dX0_shift_35 ⟨rfl, rfl⟩ rfl rfl ⟨Nat.le_of_ble_eq_true rfl, Nat.le_of_ble_eq_true rfl⟩ ⟨Nat.le_of_ble_eq_true rfl, Nat.le_of_ble_eq_true rfl⟩ (Nat.le_of_ble_eq_true rfl) (fun X' hX => KX0_canGo hX)) rfl rfl rfl rfl ⟨Nat.le_of_ble_eq_true rfl, Nat.le_of_ble_eq_true rfl⟩ rfl hF (fun x104 h103 hF => ?_)
        refine jj_if_ne (tgt := 69) (pc' := 41) dX0_shift_38 rfl rfl (fun hc hF => ?_) (fun hc hF => ?_) hF
        · skip
          refine jj_iinc (i := 4) (j := 3) (v := x4 + (1 : Int32)) (ls' := [(4, .int (x4 + (1 : Int32))), (0, .ref a0), (1, .int x1), (3, .int x3)]) (pc' := 72) dX0_shift_69 rfl rfl (Nat.le_of_ble_eq_true rfl) rfl rfl ?_
          refine jj_goto (tgt := 15) dX0_shift_72 rfl ?_
          exact jj_pick [1, 2, 3, 0] rfl (ih a0 x1 x3 (x4 + (1 : Int32)) h103 _ hF)
        · skip
          refine jj_aload_n (j := 0) (i := 0) (pc' := 42) dX0_shift_41 rfl rfl rfl ?_
          refine jj_gR (C := RX0) (T := TX0) (N := 10) (ci := 0) (k := 3) (pc' := 45) dX0_shift_42 rfl rfl inX0 (by decide) qw_18 hF (fun r105 hF => ?_)
          refine jj_iload_n (j := 1) (i := 1) (pc' := 46) dX0_shift_45 rfl rfl rfl ?_
          refine jj_iconst (v := (4 : Int32)) (pc' := 47) dX0_shift_46 rfl rfl ?_
          refine jj_aload_n (j := 0) (i := 0) (pc' := 48) dX0_shift_47 rfl rfl rfl ?_
          refine jj_gR (C := RX0) (T := TX0) (N := 10) (ci := 0) (k := 3) (pc' := 51) dX0_shift_48 rfl rfl inX0 (by decide) qw_18 hF (fun r106 hF => ?_)
          refine jj_iload_n (j := 1) (i := 1) (pc' := 52) dX0_shift_51 rfl rfl rfl ?_
          refine jj_iconst (v := (4 : Int32)) (pc' := 53) dX0_shift_52 rfl rfl ?_
          refine jj_cI (N := M_X2_at) (kc' := 0) (ks' := 0) (pc' := 56) (jg_V (N := M_X2_at) (ci := 2) (rest := [.int ((4 : Int32)), .int x1, .ref r105]) (as := [.int x1, .int ((4 : Int32))]) cf_X0_60 dX0_shift_53 ⟨rfl, rfl⟩ rfl rfl ⟨Nat.le_of_ble_eq_true rfl, Nat.le_of_ble_eq_true rfl⟩ ⟨Nat.le_of_ble_eq_true rfl, Nat.le_of_ble_eq_true rfl⟩ (Nat.le_of_ble_eq_true rfl) (fun X' hX => KX2_at hX)) rfl rfl rfl rfl ⟨Nat.le_of_ble_eq_true rfl, Nat.le_of_ble_eq_true rfl⟩ rfl hF (fun x108 h107 hF => ?_)
          refine jj_iconst (v := (1 : Int32)) (pc' := 57) dX0_shift_56 rfl rfl ?_
          refine jj_iload (j := 3) (i := 4) (pc' := 59) dX0_shift_57 rfl rfl ?_
          refine jj_ishl (pc' := 60) dX0_shift_59 rfl ?_
          refine jj_iconst (v := (-1 : Int32)) (pc' := 61) dX0_shift_60 rfl rfl ?_
          refine jj_ixor (pc' := 62) dX0_shift_61 rfl ?_
          refine jj_iand (pc' := 63) dX0_shift_62 rfl ?_
          refine jj_cV (N := M_X2_put) (kc' := 0) (ks' := 0) (pc' := 66) (jg_V (N := M_X2_put) (ci := 2) (rest := []) (as := [.int x1, .int ((4 : Int32)), .int (x108 &&& ((((1 : Int32)) <<< (x4 &&& 31)) ^^^ ((-1 : Int32))))]) cf_X0_49 dX0_shift_63 ⟨rfl, rfl⟩ rfl rfl ⟨Nat.le_of_ble_eq_true rfl, Nat.le_of_ble_eq_true rfl⟩ ⟨Nat.le_of_ble_eq_true rfl, Nat.le_of_ble_eq_true rfl⟩ (Nat.le_of_ble_eq_true rfl) (fun X' hX => KX2_put hX)) rfl rfl rfl rfl ⟨Nat.le_of_ble_eq_true rfl, Nat.le_of_ble_eq_true rfl⟩ rfl hF (fun h109 hF => ?_)
          refine jj_iinc (i := 3) (j := 2) (v := x3 + (1 : Int32)) (ls' := [(3, .int (x3 + (1 : Int32))), (0, .ref a0), (1, .int x1), (4, .int x4)]) (pc' := 69) dX0_shift_66 rfl rfl (Nat.le_of_ble_eq_true rfl) rfl rfl ?_
          refine jj_iinc (i := 4) (j := 3) (v := x4 + (1 : Int32)) (ls' := [(4, .int (x4 + (1 : Int32))), (3, .int (x3 + (1 : Int32))), (0, .ref a0), (1, .int x1)]) (pc' := 72) dX0_shift_69 rfl rfl (Nat.le_of_ble_eq_true rfl) rfl rfl ?_
          refine jj_goto (tgt := 15) dX0_shift_72 rfl ?_
          exact jj_pick [2, 3, 1, 0] rfl (ih a0 x1 (x3 + (1 : Int32)) (x4 + (1 : Int32)) h109 _ hF)
set_option maxRecDepth 100000 in
set_option maxHeartbeats 4000000 in
theorem JX0_shift {N : Nat} {a0 : Nat} {x1 : Int32} {x2 : Int32} {h : jm_H} {X : jm_X} (hF : FX0_shift N a0 x1 x2 h = some X) : jm_J M_X0_shift 0 [(0, .ref a0), (1, .int x1), (2, .int x2)] [] h 0 0 X := by
  unfold FX0_shift at hF
  refine jj_aload_n (j := 0) (i := 0) (pc' := 1) dX0_shift_0 rfl rfl rfl ?_
  refine jj_gR (C := RX0) (T := TX0) (N := 10) (ci := 0) (k := 3) (pc' := 4) dX0_shift_1 rfl rfl inX0 (by decide) qw_18 hF (fun r101 hF => ?_)
  refine jj_iload_n (j := 1) (i := 1) (pc' := 5) dX0_shift_4 rfl rfl rfl ?_
  refine jj_iconst (v := (2 : Int32)) (pc' := 6) dX0_shift_5 rfl rfl ?_
  refine jj_iload_n (j := 2) (i := 2) (pc' := 7) dX0_shift_6 rfl rfl rfl ?_
  refine jj_cV (N := M_X2_put) (kc' := 0) (ks' := 0) (pc' := 10) (jg_V (N := M_X2_put) (ci := 2) (rest := []) (as := [.int x1, .int ((2 : Int32)), .int x2]) cf_X0_49 dX0_shift_7 ⟨rfl, rfl⟩ rfl rfl ⟨Nat.le_of_ble_eq_true rfl, Nat.le_of_ble_eq_true rfl⟩ ⟨Nat.le_of_ble_eq_true rfl, Nat.le_of_ble_eq_true rfl⟩ (Nat.le_of_ble_eq_true rfl) (fun X' hX => KX2_put hX)) rfl rfl rfl rfl ⟨Nat.le_of_ble_eq_true rfl, Nat.le_of_ble_eq_true rfl⟩ rfl hF (fun h102 hF => ?_)
  refine jj_iconst (v := (0 : Int32)) (pc' := 11) dX0_shift_10 rfl rfl ?_
  refine jj_istore_n (i := 3) (ls' := [(3, .int ((0 : Int32))), (0, .ref a0), (1, .int x1), (2, .int x2)]) (pc' := 12) dX0_shift_11 rfl (Nat.le_of_ble_eq_true rfl) rfl rfl ?_
  refine jj_iconst (v := (0 : Int32)) (pc' := 13) dX0_shift_12 rfl rfl ?_
  refine jj_istore (i := 4) (ls' := [(4, .int ((0 : Int32))), (3, .int ((0 : Int32))), (0, .ref a0), (1, .int x1), (2, .int x2)]) (pc' := 15) dX0_shift_13 (Nat.le_of_ble_eq_true rfl) rfl rfl ?_
  exact jj_pick [2, 3, 1, 0] rfl (BX0_shift_15 N N a0 x1 ((0 : Int32)) ((0 : Int32)) h102 _ hF)
theorem KX0_shift {N : Nat} {a0 : Nat} {x1 : Int32} {x2 : Int32} {h : jm_H} {X : jm_X} (hF : FX0_shift N a0 x1 x2 h = some X) : jm_K M_X0_shift [.ref a0, .int x1, .int x2] h X := jk_of rfl (by decide +kernel) rfl rfl (Nat.le_of_ble_eq_true rfl) (JX0_shift hF)
set_option maxRecDepth 100000 in
set_option maxHeartbeats 4000000 in
theorem JX3_move {N : Nat} {a0 : Nat} {x1 : Int32} {x2 : Int32} {h : jm_H} {X : jm_X} (hF : FX3_move N a0 x1 x2 h = some X) : jm_J M_X3_move 0 [(0, .ref a0), (1, .int x1), (2, .int x2)] [] h 0 0 X := by
  unfold FX3_move at hF
  refine jj_aload_n (j := 0) (i := 0) (pc' := 1) dX3_move_0 rfl rfl rfl ?_
  refine jj_iload_n (j := 1) (i := 1) (pc' := 2) dX3_move_1 rfl rfl rfl ?_
  refine jj_cV (N := M_X3_requireShowing) (kc' := 1) (ks' := 6) (pc' := 5) (jg_V (N := M_X3_requireShowing) (ci := 3) (rest := []) (as := [.int x1]) cf_X3_101 dX3_move_2 ⟨rfl, rfl⟩ rfl rfl ⟨Nat.le_of_ble_eq_true rfl, Nat.le_of_ble_eq_true rfl⟩ ⟨Nat.le_of_ble_eq_true rfl, Nat.le_of_ble_eq_true rfl⟩ (Nat.le_of_ble_eq_true rfl) (fun X' hX => KX3_requireShowing hX)) rfl rfl rfl rfl ⟨Nat.le_of_ble_eq_true rfl, Nat.le_of_ble_eq_true rfl⟩ rfl hF (fun h101 hF => ?_)
  refine jj_iload_n (j := 2) (i := 2) (pc' := 6) dX3_move_5 rfl rfl rfl ?_
  refine jj_cV (N := M_X3_requireMinute) (kc' := 2) (ks' := 12) (pc' := 9) (jg_S (N := M_X3_requireMinute) (rest := []) (as := [.int x2]) cf_X3_88 rfl dX3_move_6 rfl rfl ⟨Nat.le_of_ble_eq_true rfl, Nat.le_of_ble_eq_true rfl⟩ ⟨Nat.le_of_ble_eq_true rfl, Nat.le_of_ble_eq_true rfl⟩ (Nat.le_of_ble_eq_true rfl) (fun X' hX => KX3_requireMinute hX)) rfl rfl rfl rfl ⟨Nat.le_of_ble_eq_true rfl, Nat.le_of_ble_eq_true rfl⟩ rfl hF (fun h102 hF => ?_)
  refine jj_aload_n (j := 0) (i := 0) (pc' := 10) dX3_move_9 rfl rfl rfl ?_
  refine jj_gR (C := RX3) (T := TX3) (N := 8) (ci := 3) (k := 0) (pc' := 13) dX3_move_10 rfl rfl inX3 (by decide) qw_29 hF (fun r103 hF => ?_)
  refine jj_aload_n (j := 0) (i := 0) (pc' := 14) dX3_move_13 rfl rfl rfl ?_
  refine jj_gR (C := RX3) (T := TX3) (N := 8) (ci := 3) (k := 0) (pc' := 17) dX3_move_14 rfl rfl inX3 (by decide) qw_29 hF (fun r104 hF => ?_)
  refine jj_gR (C := RX0) (T := TX0) (N := 10) (ci := 0) (k := 3) (pc' := 20) dX3_move_17 rfl rfl inX0 (by decide) qw_48 hF (fun r105 hF => ?_)
  refine jj_iload_n (j := 1) (i := 1) (pc' := 21) dX3_move_20 rfl rfl rfl ?_
  refine jj_iconst (v := (0 : Int32)) (pc' := 22) dX3_move_21 rfl rfl ?_
  refine jj_cI (N := M_X2_at) (kc' := 2) (ks' := 12) (pc' := 25) (jg_V (N := M_X2_at) (ci := 2) (rest := [.ref r103]) (as := [.int x1, .int ((0 : Int32))]) cf_X3_111 dX3_move_22 ⟨rfl, rfl⟩ rfl rfl ⟨Nat.le_of_ble_eq_true rfl, Nat.le_of_ble_eq_true rfl⟩ ⟨Nat.le_of_ble_eq_true rfl, Nat.le_of_ble_eq_true rfl⟩ (Nat.le_of_ble_eq_true rfl) (fun X' hX => KX2_at hX)) rfl rfl rfl rfl ⟨Nat.le_of_ble_eq_true rfl, Nat.le_of_ble_eq_true rfl⟩ rfl hF (fun x107 h106 hF => ?_)
  refine jj_aload_n (j := 0) (i := 0) (pc' := 26) dX3_move_25 rfl rfl rfl ?_
  refine jj_gR (C := RX3) (T := TX3) (N := 8) (ci := 3) (k := 0) (pc' := 29) dX3_move_26 rfl rfl inX3 (by decide) qw_29 hF (fun r108 hF => ?_)
  refine jj_gR (C := RX0) (T := TX0) (N := 10) (ci := 0) (k := 3) (pc' := 32) dX3_move_29 rfl rfl inX0 (by decide) qw_48 hF (fun r109 hF => ?_)
  refine jj_iload_n (j := 1) (i := 1) (pc' := 33) dX3_move_32 rfl rfl rfl ?_
  refine jj_iconst (v := (1 : Int32)) (pc' := 34) dX3_move_33 rfl rfl ?_
  refine jj_cI (N := M_X2_at) (kc' := 2) (ks' := 12) (pc' := 37) (jg_V (N := M_X2_at) (ci := 2) (rest := [.int x107, .ref r103]) (as := [.int x1, .int ((1 : Int32))]) cf_X3_111 dX3_move_34 ⟨rfl, rfl⟩ rfl rfl ⟨Nat.le_of_ble_eq_true rfl, Nat.le_of_ble_eq_true rfl⟩ ⟨Nat.le_of_ble_eq_true rfl, Nat.le_of_ble_eq_true rfl⟩ (Nat.le_of_ble_eq_true rfl) (fun X' hX => KX2_at hX)) rfl rfl rfl rfl ⟨Nat.le_of_ble_eq_true rfl, Nat.le_of_ble_eq_true rfl⟩ rfl hF (fun x111 h110 hF => ?_)
  refine jj_iload_n (j := 2) (i := 2) (pc' := 38) dX3_move_37 rfl rfl rfl ?_
  refine jj_aload_n (j := 0) (i := 0) (pc' := 39) dX3_move_38 rfl rfl rfl ?_
  refine jj_gR (C := RX3) (T := TX3) (N := 8) (ci := 3) (k := 0) (pc' := 42) dX3_move_39 rfl rfl inX3 (by decide) qw_29 hF (fun r112 hF => ?_)
  refine jj_gR (C := RX0) (T := TX0) (N := 10) (ci := 0) (k := 3) (pc' := 45) dX3_move_42 rfl rfl inX0 (by decide) qw_48 hF (fun r113 hF => ?_)
  refine jj_iload_n (j := 1) (i := 1) (pc' := 46) dX3_move_45 rfl rfl rfl ?_
  refine jj_iconst (v := (3 : Int32)) (pc' := 47) dX3_move_46 rfl rfl ?_
  refine jj_cI (N := M_X2_at) (kc' := 2) (ks' := 12) (pc' := 50) (jg_V (N := M_X2_at) (ci := 2) (rest := [.int x2, .int x111, .int x107, .ref r103]) (as := [.int x1, .int ((3 : Int32))]) cf_X3_111 dX3_move_47 ⟨rfl, rfl⟩ rfl rfl ⟨Nat.le_of_ble_eq_true rfl, Nat.le_of_ble_eq_true rfl⟩ ⟨Nat.le_of_ble_eq_true rfl, Nat.le_of_ble_eq_true rfl⟩ (Nat.le_of_ble_eq_true rfl) (fun X' hX => KX2_at hX)) rfl rfl rfl rfl ⟨Nat.le_of_ble_eq_true rfl, Nat.le_of_ble_eq_true rfl⟩ rfl hF (fun x115 h114 hF => ?_)
  refine jj_iload_n (j := 1) (i := 1) (pc' := 51) dX3_move_50 rfl rfl rfl ?_
  refine jj_cI (N := M_X0_refusalBeside) (kc' := 2) (ks' := 12) (pc' := 54) (jg_V (N := M_X0_refusalBeside) (ci := 0) (rest := []) (as := [.int x107, .int x111, .int x2, .int x115, .int x1]) cf_X3_114 dX3_move_51 ⟨rfl, rfl⟩ rfl rfl ⟨Nat.le_of_ble_eq_true rfl, Nat.le_of_ble_eq_true rfl⟩ ⟨Nat.le_of_ble_eq_true rfl, Nat.le_of_ble_eq_true rfl⟩ (Nat.le_of_ble_eq_true rfl) (fun X' hX => KX0_refusalBeside hX)) rfl rfl rfl rfl ⟨Nat.le_of_ble_eq_true rfl, Nat.le_of_ble_eq_true rfl⟩ rfl hF (fun x117 h116 hF => ?_)
  refine jj_cV (N := M_X3_requireNotRefused) (kc' := 3) (ks' := 18) (pc' := 57) (jg_S (N := M_X3_requireNotRefused) (rest := []) (as := [.int x117]) cf_X3_95 rfl dX3_move_54 rfl rfl ⟨Nat.le_of_ble_eq_true rfl, Nat.le_of_ble_eq_true rfl⟩ ⟨Nat.le_of_ble_eq_true rfl, Nat.le_of_ble_eq_true rfl⟩ (Nat.le_of_ble_eq_true rfl) (fun X' hX => KX3_requireNotRefused hX)) rfl rfl rfl rfl ⟨Nat.le_of_ble_eq_true rfl, Nat.le_of_ble_eq_true rfl⟩ rfl hF (fun h118 hF => ?_)
  refine jj_aload_n (j := 0) (i := 0) (pc' := 58) dX3_move_57 rfl rfl rfl ?_
  refine jj_cV (N := M_X3_save) (kc' := 3) (ks' := 18) (pc' := 61) (jg_V (N := M_X3_save) (ci := 3) (rest := []) (as := []) cf_X3_59 dX3_move_58 ⟨rfl, rfl⟩ rfl rfl ⟨Nat.le_of_ble_eq_true rfl, Nat.le_of_ble_eq_true rfl⟩ ⟨Nat.le_of_ble_eq_true rfl, Nat.le_of_ble_eq_true rfl⟩ (Nat.le_of_ble_eq_true rfl) (fun X' hX => KX3_save hX)) rfl rfl rfl rfl ⟨Nat.le_of_ble_eq_true rfl, Nat.le_of_ble_eq_true rfl⟩ rfl hF (fun h119 hF => ?_)
  refine jj_aload_n (j := 0) (i := 0) (pc' := 62) dX3_move_61 rfl rfl rfl ?_
  refine jj_gR (C := RX3) (T := TX3) (N := 8) (ci := 3) (k := 0) (pc' := 65) dX3_move_62 rfl rfl inX3 (by decide) qw_29 hF (fun r120 hF => ?_)
  refine jj_iload_n (j := 1) (i := 1) (pc' := 66) dX3_move_65 rfl rfl rfl ?_
  refine jj_iload_n (j := 2) (i := 2) (pc' := 67) dX3_move_66 rfl rfl rfl ?_
  refine jj_cI (N := M_X0_shift) (kc' := 3) (ks' := 18) (pc' := 70) (jg_V (N := M_X0_shift) (ci := 0) (rest := []) (as := [.int x1, .int x2]) cf_X3_118 dX3_move_67 ⟨rfl, rfl⟩ rfl rfl ⟨Nat.le_of_ble_eq_true rfl, Nat.le_of_ble_eq_true rfl⟩ ⟨Nat.le_of_ble_eq_true rfl, Nat.le_of_ble_eq_true rfl⟩ (Nat.le_of_ble_eq_true rfl) (fun X' hX => KX0_shift hX)) rfl rfl rfl rfl ⟨Nat.le_of_ble_eq_true rfl, Nat.le_of_ble_eq_true rfl⟩ rfl hF (fun x122 h121 hF => ?_)
  exact jj_retI (ty := .int) rfl rfl dX3_move_70 ⟨Nat.le_of_ble_eq_true rfl, Nat.le_of_ble_eq_true rfl⟩ hF
theorem KX3_move {N : Nat} {a0 : Nat} {x1 : Int32} {x2 : Int32} {h : jm_H} {X : jm_X} (hF : FX3_move N a0 x1 x2 h = some X) : jm_K M_X3_move [.ref a0, .int x1, .int x2] h X := jk_of rfl (by decide +kernel) rfl rfl (Nat.le_of_ble_eq_true rfl) (JX3_move hF)
set_option maxRecDepth 100000 in
set_option maxHeartbeats 4000000 in
theorem JX0_addGuest {a0 : Nat} {x1 : Int32} {x2 : Int32} {x3 : Int32} {h : jm_H} {X : jm_X} (hF : FX0_addGuest a0 x1 x2 x3 h = some X) : jm_J M_X0_addGuest 0 [(0, .ref a0), (1, .int x1), (2, .int x2), (3, .int x3)] [] h 0 0 X := by
  unfold FX0_addGuest at hF
  refine jj_aload_n (j := 0) (i := 0) (pc' := 1) dX0_addGuest_0 rfl rfl rfl ?_
  refine jj_gR (C := RX0) (T := TX0) (N := 10) (ci := 0) (k := 4) (pc' := 4) dX0_addGuest_1 rfl rfl inX0 (by decide) qw_19 hF (fun r101 hF => ?_)
  refine jj_cI (N := M_X2_addRow) (kc' := 0) (ks' := 0) (pc' := 7) (jg_V (N := M_X2_addRow) (ci := 2) (rest := []) (as := []) cf_X0_45 dX0_addGuest_4 ⟨rfl, rfl⟩ rfl rfl ⟨Nat.le_of_ble_eq_true rfl, Nat.le_of_ble_eq_true rfl⟩ ⟨Nat.le_of_ble_eq_true rfl, Nat.le_of_ble_eq_true rfl⟩ (Nat.le_of_ble_eq_true rfl) (fun X' hX => KX2_addRow hX)) rfl rfl rfl rfl ⟨Nat.le_of_ble_eq_true rfl, Nat.le_of_ble_eq_true rfl⟩ rfl hF (fun x103 h102 hF => ?_)
  refine jj_istore (i := 4) (ls' := [(4, .int x103), (0, .ref a0), (1, .int x1), (2, .int x2), (3, .int x3)]) (pc' := 9) dX0_addGuest_7 (Nat.le_of_ble_eq_true rfl) rfl rfl ?_
  refine jj_aload_n (j := 1) (i := 0) (pc' := 10) dX0_addGuest_9 rfl rfl rfl ?_
  refine jj_gR (C := RX0) (T := TX0) (N := 10) (ci := 0) (k := 4) (pc' := 13) dX0_addGuest_10 rfl rfl inX0 (by decide) qw_19 hF (fun r104 hF => ?_)
  refine jj_iload (j := 0) (i := 4) (pc' := 15) dX0_addGuest_13 rfl rfl ?_
  refine jj_iconst (v := (0 : Int32)) (pc' := 16) dX0_addGuest_15 rfl rfl ?_
  refine jj_iload_n (j := 2) (i := 1) (pc' := 17) dX0_addGuest_16 rfl rfl rfl ?_
  refine jj_cV (N := M_X2_put) (kc' := 0) (ks' := 0) (pc' := 20) (jg_V (N := M_X2_put) (ci := 2) (rest := []) (as := [.int x103, .int ((0 : Int32)), .int x1]) cf_X0_49 dX0_addGuest_17 ⟨rfl, rfl⟩ rfl rfl ⟨Nat.le_of_ble_eq_true rfl, Nat.le_of_ble_eq_true rfl⟩ ⟨Nat.le_of_ble_eq_true rfl, Nat.le_of_ble_eq_true rfl⟩ (Nat.le_of_ble_eq_true rfl) (fun X' hX => KX2_put hX)) rfl rfl rfl rfl ⟨Nat.le_of_ble_eq_true rfl, Nat.le_of_ble_eq_true rfl⟩ rfl hF (fun h105 hF => ?_)
  refine jj_aload_n (j := 1) (i := 0) (pc' := 21) dX0_addGuest_20 rfl rfl rfl ?_
  refine jj_gR (C := RX0) (T := TX0) (N := 10) (ci := 0) (k := 4) (pc' := 24) dX0_addGuest_21 rfl rfl inX0 (by decide) qw_19 hF (fun r106 hF => ?_)
  refine jj_iload (j := 0) (i := 4) (pc' := 26) dX0_addGuest_24 rfl rfl ?_
  refine jj_iconst (v := (1 : Int32)) (pc' := 27) dX0_addGuest_26 rfl rfl ?_
  refine jj_iload_n (j := 3) (i := 2) (pc' := 28) dX0_addGuest_27 rfl rfl rfl ?_
  refine jj_cV (N := M_X2_put) (kc' := 0) (ks' := 0) (pc' := 31) (jg_V (N := M_X2_put) (ci := 2) (rest := []) (as := [.int x103, .int ((1 : Int32)), .int x2]) cf_X0_49 dX0_addGuest_28 ⟨rfl, rfl⟩ rfl rfl ⟨Nat.le_of_ble_eq_true rfl, Nat.le_of_ble_eq_true rfl⟩ ⟨Nat.le_of_ble_eq_true rfl, Nat.le_of_ble_eq_true rfl⟩ (Nat.le_of_ble_eq_true rfl) (fun X' hX => KX2_put hX)) rfl rfl rfl rfl ⟨Nat.le_of_ble_eq_true rfl, Nat.le_of_ble_eq_true rfl⟩ rfl hF (fun h107 hF => ?_)
  refine jj_aload_n (j := 1) (i := 0) (pc' := 32) dX0_addGuest_31 rfl rfl rfl ?_
  refine jj_gR (C := RX0) (T := TX0) (N := 10) (ci := 0) (k := 4) (pc' := 35) dX0_addGuest_32 rfl rfl inX0 (by decide) qw_19 hF (fun r108 hF => ?_)
  refine jj_iload (j := 0) (i := 4) (pc' := 37) dX0_addGuest_35 rfl rfl ?_
  refine jj_iconst (v := (2 : Int32)) (pc' := 38) dX0_addGuest_37 rfl rfl ?_
  refine jj_iload_n (j := 4) (i := 3) (pc' := 39) dX0_addGuest_38 rfl rfl rfl ?_
  refine jj_cV (N := M_X2_put) (kc' := 0) (ks' := 0) (pc' := 42) (jg_V (N := M_X2_put) (ci := 2) (rest := []) (as := [.int x103, .int ((2 : Int32)), .int x3]) cf_X0_49 dX0_addGuest_39 ⟨rfl, rfl⟩ rfl rfl ⟨Nat.le_of_ble_eq_true rfl, Nat.le_of_ble_eq_true rfl⟩ ⟨Nat.le_of_ble_eq_true rfl, Nat.le_of_ble_eq_true rfl⟩ (Nat.le_of_ble_eq_true rfl) (fun X' hX => KX2_put hX)) rfl rfl rfl rfl ⟨Nat.le_of_ble_eq_true rfl, Nat.le_of_ble_eq_true rfl⟩ rfl hF (fun h109 hF => ?_)
  refine jj_iload (j := 0) (i := 4) (pc' := 44) dX0_addGuest_42 rfl rfl ?_
  exact jj_retI (ty := .int) rfl rfl dX0_addGuest_44 ⟨Nat.le_of_ble_eq_true rfl, Nat.le_of_ble_eq_true rfl⟩ hF
theorem KX0_addGuest {a0 : Nat} {x1 : Int32} {x2 : Int32} {x3 : Int32} {h : jm_H} {X : jm_X} (hF : FX0_addGuest a0 x1 x2 x3 h = some X) : jm_K M_X0_addGuest [.ref a0, .int x1, .int x2, .int x3] h X := jk_of rfl (by decide +kernel) rfl rfl (Nat.le_of_ble_eq_true rfl) (JX0_addGuest hF)
set_option maxRecDepth 100000 in
set_option maxHeartbeats 4000000 in
theorem JX3_guest {N : Nat} {a0 : Nat} {x1 : Int32} {x2 : Int32} {x3 : Int32} {h : jm_H} {X : jm_X} (hF : FX3_guest N a0 x1 x2 x3 h = some X) : jm_J M_X3_guest 0 [(0, .ref a0), (1, .int x1), (2, .int x2), (3, .int x3)] [] h 0 0 X := by
  unfold FX3_guest at hF
  refine jj_aload_n (j := 0) (i := 0) (pc' := 1) dX3_guest_0 rfl rfl rfl ?_
  refine jj_iload_n (j := 1) (i := 1) (pc' := 2) dX3_guest_1 rfl rfl rfl ?_
  refine jj_cV (N := M_X3_requireFilm) (kc' := 1) (ks' := 6) (pc' := 5) (jg_V (N := M_X3_requireFilm) (ci := 3) (rest := []) (as := [.int x1]) cf_X3_85 dX3_guest_2 ⟨rfl, rfl⟩ rfl rfl ⟨Nat.le_of_ble_eq_true rfl, Nat.le_of_ble_eq_true rfl⟩ ⟨Nat.le_of_ble_eq_true rfl, Nat.le_of_ble_eq_true rfl⟩ (Nat.le_of_ble_eq_true rfl) (fun X' hX => KX3_requireFilm hX)) rfl rfl rfl rfl ⟨Nat.le_of_ble_eq_true rfl, Nat.le_of_ble_eq_true rfl⟩ rfl hF (fun h101 hF => ?_)
  refine jj_iload_n (j := 2) (i := 2) (pc' := 6) dX3_guest_5 rfl rfl rfl ?_
  refine jj_cV (N := M_X3_requireMinute) (kc' := 2) (ks' := 12) (pc' := 9) (jg_S (N := M_X3_requireMinute) (rest := []) (as := [.int x2]) cf_X3_88 rfl dX3_guest_6 rfl rfl ⟨Nat.le_of_ble_eq_true rfl, Nat.le_of_ble_eq_true rfl⟩ ⟨Nat.le_of_ble_eq_true rfl, Nat.le_of_ble_eq_true rfl⟩ (Nat.le_of_ble_eq_true rfl) (fun X' hX => KX3_requireMinute hX)) rfl rfl rfl rfl ⟨Nat.le_of_ble_eq_true rfl, Nat.le_of_ble_eq_true rfl⟩ rfl hF (fun h102 hF => ?_)
  refine jj_iload_n (j := 3) (i := 3) (pc' := 10) dX3_guest_9 rfl rfl rfl ?_
  refine jj_iload_n (j := 2) (i := 2) (pc' := 11) dX3_guest_10 rfl rfl rfl ?_
  refine jj_icmp_le (tgt := 25) (pc' := 14) dX3_guest_11 rfl rfl (fun hc hF => ?_) (fun hc hF => ?_) hF
  · skip
    refine jj_iconst (v := (0 : Int32)) (pc' := 26) dX3_guest_25 rfl rfl ?_
    refine jj_cV (N := M_X3_requireArgument) (kc' := 3) (ks' := 18) (pc' := 29) (jg_S (N := M_X3_requireArgument) (rest := []) (as := [.int ((0 : Int32))]) cf_X3_38 rfl dX3_guest_26 rfl rfl ⟨Nat.le_of_ble_eq_true rfl, Nat.le_of_ble_eq_true rfl⟩ ⟨Nat.le_of_ble_eq_true rfl, Nat.le_of_ble_eq_true rfl⟩ (Nat.le_of_ble_eq_true rfl) (fun X' hX => KX3_requireArgument hX)) rfl rfl rfl rfl ⟨Nat.le_of_ble_eq_true rfl, Nat.le_of_ble_eq_true rfl⟩ rfl hF (fun h103 hF => ?_)
    refine jj_aload_n (j := 0) (i := 0) (pc' := 30) dX3_guest_29 rfl rfl rfl ?_
    refine jj_gR (C := RX3) (T := TX3) (N := 8) (ci := 3) (k := 0) (pc' := 33) dX3_guest_30 rfl rfl inX3 (by decide) qw_29 hF (fun r104 hF => ?_)
    refine jj_gR (C := RX0) (T := TX0) (N := 10) (ci := 0) (k := 4) (pc' := 36) dX3_guest_33 rfl rfl inX0 (by decide) qw_52 hF (fun r105 hF => ?_)
    refine jj_gI (C := RX2) (T := TX2) (N := 3) (ci := 2) (k := 2) (pc' := 39) dX3_guest_36 rfl rfl inX2 (by decide) qw_44 hF (fun x106 hF => ?_)
    refine jj_bipush (v := (6 : Int32)) (pc' := 41) dX3_guest_39 rfl rfl ?_
    refine jj_icmp_lt (tgt := 54) (pc' := 44) dX3_guest_41 rfl rfl (fun hc hF => ?_) (fun hc hF => ?_) hF
    · skip
      refine jj_aload_n (j := 0) (i := 0) (pc' := 55) dX3_guest_54 rfl rfl rfl ?_
      refine jj_cV (N := M_X3_save) (kc' := 3) (ks' := 18) (pc' := 58) (jg_V (N := M_X3_save) (ci := 3) (rest := []) (as := []) cf_X3_59 dX3_guest_55 ⟨rfl, rfl⟩ rfl rfl ⟨Nat.le_of_ble_eq_true rfl, Nat.le_of_ble_eq_true rfl⟩ ⟨Nat.le_of_ble_eq_true rfl, Nat.le_of_ble_eq_true rfl⟩ (Nat.le_of_ble_eq_true rfl) (fun X' hX => KX3_save hX)) rfl rfl rfl rfl ⟨Nat.le_of_ble_eq_true rfl, Nat.le_of_ble_eq_true rfl⟩ rfl hF (fun h107 hF => ?_)
      refine jj_aload_n (j := 0) (i := 0) (pc' := 59) dX3_guest_58 rfl rfl rfl ?_
      refine jj_gR (C := RX3) (T := TX3) (N := 8) (ci := 3) (k := 0) (pc' := 62) dX3_guest_59 rfl rfl inX3 (by decide) qw_29 hF (fun r108 hF => ?_)
      refine jj_iload_n (j := 1) (i := 1) (pc' := 63) dX3_guest_62 rfl rfl rfl ?_
      refine jj_iload_n (j := 2) (i := 2) (pc' := 64) dX3_guest_63 rfl rfl rfl ?_
      refine jj_iload_n (j := 3) (i := 3) (pc' := 65) dX3_guest_64 rfl rfl rfl ?_
      refine jj_cI (N := M_X0_addGuest) (kc' := 3) (ks' := 18) (pc' := 68) (jg_V (N := M_X0_addGuest) (ci := 0) (rest := []) (as := [.int x1, .int x2, .int x3]) cf_X3_126 dX3_guest_65 ⟨rfl, rfl⟩ rfl rfl ⟨Nat.le_of_ble_eq_true rfl, Nat.le_of_ble_eq_true rfl⟩ ⟨Nat.le_of_ble_eq_true rfl, Nat.le_of_ble_eq_true rfl⟩ (Nat.le_of_ble_eq_true rfl) (fun X' hX => KX0_addGuest hX)) rfl rfl rfl rfl ⟨Nat.le_of_ble_eq_true rfl, Nat.le_of_ble_eq_true rfl⟩ rfl hF (fun x110 h109 hF => ?_)
      exact jj_retI (ty := .int) rfl rfl dX3_guest_68 ⟨Nat.le_of_ble_eq_true rfl, Nat.le_of_ble_eq_true rfl⟩ hF
    · skip
      exact jj_throw (text := "there are 6 guests") tf_X3_52_56 (by decide) dX3_guest_44 dX3_guest_47 dX3_guest_48 dX3_guest_50 dX3_guest_53 rfl ⟨Nat.le_of_ble_eq_true rfl, Nat.le_of_ble_eq_true rfl⟩ ⟨Nat.le_of_ble_eq_true rfl, Nat.le_of_ble_eq_true rfl⟩ hF
  · skip
    refine jj_iload_n (j := 3) (i := 3) (pc' := 15) dX3_guest_14 rfl rfl rfl ?_
    refine jj_sipush (v := (2000 : Int32)) (pc' := 18) dX3_guest_15 rfl rfl ?_
    refine jj_icmp_gt (tgt := 25) (pc' := 21) dX3_guest_18 rfl rfl (fun hc hF => ?_) (fun hc hF => ?_) hF
    · skip
      refine jj_iconst (v := (0 : Int32)) (pc' := 26) dX3_guest_25 rfl rfl ?_
      refine jj_cV (N := M_X3_requireArgument) (kc' := 3) (ks' := 18) (pc' := 29) (jg_S (N := M_X3_requireArgument) (rest := []) (as := [.int ((0 : Int32))]) cf_X3_38 rfl dX3_guest_26 rfl rfl ⟨Nat.le_of_ble_eq_true rfl, Nat.le_of_ble_eq_true rfl⟩ ⟨Nat.le_of_ble_eq_true rfl, Nat.le_of_ble_eq_true rfl⟩ (Nat.le_of_ble_eq_true rfl) (fun X' hX => KX3_requireArgument hX)) rfl rfl rfl rfl ⟨Nat.le_of_ble_eq_true rfl, Nat.le_of_ble_eq_true rfl⟩ rfl hF (fun h111 hF => ?_)
      refine jj_aload_n (j := 0) (i := 0) (pc' := 30) dX3_guest_29 rfl rfl rfl ?_
      refine jj_gR (C := RX3) (T := TX3) (N := 8) (ci := 3) (k := 0) (pc' := 33) dX3_guest_30 rfl rfl inX3 (by decide) qw_29 hF (fun r112 hF => ?_)
      refine jj_gR (C := RX0) (T := TX0) (N := 10) (ci := 0) (k := 4) (pc' := 36) dX3_guest_33 rfl rfl inX0 (by decide) qw_52 hF (fun r113 hF => ?_)
      refine jj_gI (C := RX2) (T := TX2) (N := 3) (ci := 2) (k := 2) (pc' := 39) dX3_guest_36 rfl rfl inX2 (by decide) qw_44 hF (fun x114 hF => ?_)
      refine jj_bipush (v := (6 : Int32)) (pc' := 41) dX3_guest_39 rfl rfl ?_
      refine jj_icmp_lt (tgt := 54) (pc' := 44) dX3_guest_41 rfl rfl (fun hc hF => ?_) (fun hc hF => ?_) hF
      · skip
        refine jj_aload_n (j := 0) (i := 0) (pc' := 55) dX3_guest_54 rfl rfl rfl ?_
        refine jj_cV (N := M_X3_save) (kc' := 3) (ks' := 18) (pc' := 58) (jg_V (N := M_X3_save) (ci := 3) (rest := []) (as := []) cf_X3_59 dX3_guest_55 ⟨rfl, rfl⟩ rfl rfl ⟨Nat.le_of_ble_eq_true rfl, Nat.le_of_ble_eq_true rfl⟩ ⟨Nat.le_of_ble_eq_true rfl, Nat.le_of_ble_eq_true rfl⟩ (Nat.le_of_ble_eq_true rfl) (fun X' hX => KX3_save hX)) rfl rfl rfl rfl ⟨Nat.le_of_ble_eq_true rfl, Nat.le_of_ble_eq_true rfl⟩ rfl hF (fun h115 hF => ?_)
        refine jj_aload_n (j := 0) (i := 0) (pc' := 59) dX3_guest_58 rfl rfl rfl ?_
        refine jj_gR (C := RX3) (T := TX3) (N := 8) (ci := 3) (k := 0) (pc' := 62) dX3_guest_59 rfl rfl inX3 (by decide) qw_29 hF (fun r116 hF => ?_)
        refine jj_iload_n (j := 1) (i := 1) (pc' := 63) dX3_guest_62 rfl rfl rfl ?_
        refine jj_iload_n (j := 2) (i := 2) (pc' := 64) dX3_guest_63 rfl rfl rfl ?_
        refine jj_iload_n (j := 3) (i := 3) (pc' := 65) dX3_guest_64 rfl rfl rfl ?_
        refine jj_cI (N := M_X0_addGuest) (kc' := 3) (ks' := 18) (pc' := 68) (jg_V (N := M_X0_addGuest) (ci := 0) (rest := []) (as := [.int x1, .int x2, .int x3]) cf_X3_126 dX3_guest_65 ⟨rfl, rfl⟩ rfl rfl ⟨Nat.le_of_ble_eq_true rfl, Nat.le_of_ble_eq_true rfl⟩ ⟨Nat.le_of_ble_eq_true rfl, Nat.le_of_ble_eq_true rfl⟩ (Nat.le_of_ble_eq_true rfl) (fun X' hX => KX0_addGuest hX)) rfl rfl rfl rfl ⟨Nat.le_of_ble_eq_true rfl, Nat.le_of_ble_eq_true rfl⟩ rfl hF (fun x118 h117 hF => ?_)
        exact jj_retI (ty := .int) rfl rfl dX3_guest_68 ⟨Nat.le_of_ble_eq_true rfl, Nat.le_of_ble_eq_true rfl⟩ hF
      · skip
        exact jj_throw (text := "there are 6 guests") tf_X3_52_56 (by decide) dX3_guest_44 dX3_guest_47 dX3_guest_48 dX3_guest_50 dX3_guest_53 rfl ⟨Nat.le_of_ble_eq_true rfl, Nat.le_of_ble_eq_true rfl⟩ ⟨Nat.le_of_ble_eq_true rfl, Nat.le_of_ble_eq_true rfl⟩ hF
    · skip
      refine jj_iconst (v := (1 : Int32)) (pc' := 22) dX3_guest_21 rfl rfl ?_
      refine jj_goto (tgt := 26) dX3_guest_22 rfl ?_
      refine jj_cV (N := M_X3_requireArgument) (kc' := 3) (ks' := 18) (pc' := 29) (jg_S (N := M_X3_requireArgument) (rest := []) (as := [.int ((1 : Int32))]) cf_X3_38 rfl dX3_guest_26 rfl rfl ⟨Nat.le_of_ble_eq_true rfl, Nat.le_of_ble_eq_true rfl⟩ ⟨Nat.le_of_ble_eq_true rfl, Nat.le_of_ble_eq_true rfl⟩ (Nat.le_of_ble_eq_true rfl) (fun X' hX => KX3_requireArgument hX)) rfl rfl rfl rfl ⟨Nat.le_of_ble_eq_true rfl, Nat.le_of_ble_eq_true rfl⟩ rfl hF (fun h119 hF => ?_)
      refine jj_aload_n (j := 0) (i := 0) (pc' := 30) dX3_guest_29 rfl rfl rfl ?_
      refine jj_gR (C := RX3) (T := TX3) (N := 8) (ci := 3) (k := 0) (pc' := 33) dX3_guest_30 rfl rfl inX3 (by decide) qw_29 hF (fun r120 hF => ?_)
      refine jj_gR (C := RX0) (T := TX0) (N := 10) (ci := 0) (k := 4) (pc' := 36) dX3_guest_33 rfl rfl inX0 (by decide) qw_52 hF (fun r121 hF => ?_)
      refine jj_gI (C := RX2) (T := TX2) (N := 3) (ci := 2) (k := 2) (pc' := 39) dX3_guest_36 rfl rfl inX2 (by decide) qw_44 hF (fun x122 hF => ?_)
      refine jj_bipush (v := (6 : Int32)) (pc' := 41) dX3_guest_39 rfl rfl ?_
      refine jj_icmp_lt (tgt := 54) (pc' := 44) dX3_guest_41 rfl rfl (fun hc hF => ?_) (fun hc hF => ?_) hF
      · skip
        refine jj_aload_n (j := 0) (i := 0) (pc' := 55) dX3_guest_54 rfl rfl rfl ?_
        refine jj_cV (N := M_X3_save) (kc' := 3) (ks' := 18) (pc' := 58) (jg_V (N := M_X3_save) (ci := 3) (rest := []) (as := []) cf_X3_59 dX3_guest_55 ⟨rfl, rfl⟩ rfl rfl ⟨Nat.le_of_ble_eq_true rfl, Nat.le_of_ble_eq_true rfl⟩ ⟨Nat.le_of_ble_eq_true rfl, Nat.le_of_ble_eq_true rfl⟩ (Nat.le_of_ble_eq_true rfl) (fun X' hX => KX3_save hX)) rfl rfl rfl rfl ⟨Nat.le_of_ble_eq_true rfl, Nat.le_of_ble_eq_true rfl⟩ rfl hF (fun h123 hF => ?_)
        refine jj_aload_n (j := 0) (i := 0) (pc' := 59) dX3_guest_58 rfl rfl rfl ?_
        refine jj_gR (C := RX3) (T := TX3) (N := 8) (ci := 3) (k := 0) (pc' := 62) dX3_guest_59 rfl rfl inX3 (by decide) qw_29 hF (fun r124 hF => ?_)
        refine jj_iload_n (j := 1) (i := 1) (pc' := 63) dX3_guest_62 rfl rfl rfl ?_
        refine jj_iload_n (j := 2) (i := 2) (pc' := 64) dX3_guest_63 rfl rfl rfl ?_
        refine jj_iload_n (j := 3) (i := 3) (pc' := 65) dX3_guest_64 rfl rfl rfl ?_
        refine jj_cI (N := M_X0_addGuest) (kc' := 3) (ks' := 18) (pc' := 68) (jg_V (N := M_X0_addGuest) (ci := 0) (rest := []) (as := [.int x1, .int x2, .int x3]) cf_X3_126 dX3_guest_65 ⟨rfl, rfl⟩ rfl rfl ⟨Nat.le_of_ble_eq_true rfl, Nat.le_of_ble_eq_true rfl⟩ ⟨Nat.le_of_ble_eq_true rfl, Nat.le_of_ble_eq_true rfl⟩ (Nat.le_of_ble_eq_true rfl) (fun X' hX => KX0_addGuest hX)) rfl rfl rfl rfl ⟨Nat.le_of_ble_eq_true rfl, Nat.le_of_ble_eq_true rfl⟩ rfl hF (fun x126 h125 hF => ?_)
        exact jj_retI (ty := .int) rfl rfl dX3_guest_68 ⟨Nat.le_of_ble_eq_true rfl, Nat.le_of_ble_eq_true rfl⟩ hF
      · skip
        exact jj_throw (text := "there are 6 guests") tf_X3_52_56 (by decide) dX3_guest_44 dX3_guest_47 dX3_guest_48 dX3_guest_50 dX3_guest_53 rfl ⟨Nat.le_of_ble_eq_true rfl, Nat.le_of_ble_eq_true rfl⟩ ⟨Nat.le_of_ble_eq_true rfl, Nat.le_of_ble_eq_true rfl⟩ hF
theorem KX3_guest {N : Nat} {a0 : Nat} {x1 : Int32} {x2 : Int32} {x3 : Int32} {h : jm_H} {X : jm_X} (hF : FX3_guest N a0 x1 x2 x3 h = some X) : jm_K M_X3_guest [.ref a0, .int x1, .int x2, .int x3] h X := jk_of rfl (by decide +kernel) rfl rfl (Nat.le_of_ble_eq_true rfl) (JX3_guest hF)
set_option maxRecDepth 100000 in
set_option maxHeartbeats 4000000 in
theorem JX3_requireJuror {x0 : Int32} {h : jm_H} {X : jm_X} (hF : FX3_requireJuror x0 h = some X) : jm_J M_X3_requireJuror 0 [(0, .int x0)] [] h 0 0 X := by
  unfold FX3_requireJuror at hF
  refine jj_iload_n (j := 0) (i := 0) (pc' := 1) dX3_requireJuror_0 rfl rfl rfl ?_
  refine jj_iconst (v := (0 : Int32)) (pc' := 2) dX3_requireJuror_1 rfl rfl ?_
  refine jj_iconst (v := (2 : Int32)) (pc' := 3) dX3_requireJuror_2 rfl rfl ?_
  refine jj_cI (N := M_X3_isWithin) (kc' := 0) (ks' := 0) (pc' := 6) (jg_S (N := M_X3_isWithin) (rest := []) (as := [.int x0, .int ((0 : Int32)), .int ((2 : Int32))]) cf_X3_34 rfl dX3_requireJuror_3 rfl rfl ⟨Nat.le_of_ble_eq_true rfl, Nat.le_of_ble_eq_true rfl⟩ ⟨Nat.le_of_ble_eq_true rfl, Nat.le_of_ble_eq_true rfl⟩ (Nat.le_of_ble_eq_true rfl) (fun X' hX => KX3_isWithin hX)) rfl rfl rfl rfl ⟨Nat.le_of_ble_eq_true rfl, Nat.le_of_ble_eq_true rfl⟩ rfl hF (fun x102 h101 hF => ?_)
  refine jj_if_ne (tgt := 20) (pc' := 9) dX3_requireJuror_6 rfl rfl (fun hc hF => ?_) (fun hc hF => ?_) hF
  · skip
    exact jj_retV rfl dX3_requireJuror_20 ⟨Nat.le_of_ble_eq_true rfl, Nat.le_of_ble_eq_true rfl⟩ hF
  · skip
    exact jj_throwW (text := "there is no such juror") tf_X3_77_81 (by decide) dX3_requireJuror_9 dX3_requireJuror_12 dX3_requireJuror_13 dX3_requireJuror_16 dX3_requireJuror_19 rfl ⟨Nat.le_of_ble_eq_true rfl, Nat.le_of_ble_eq_true rfl⟩ ⟨Nat.le_of_ble_eq_true rfl, Nat.le_of_ble_eq_true rfl⟩ hF
theorem KX3_requireJuror {x0 : Int32} {h : jm_H} {X : jm_X} (hF : FX3_requireJuror x0 h = some X) : jm_K M_X3_requireJuror [.int x0] h X := jk_of rfl (by decide +kernel) rfl rfl (Nat.le_of_ble_eq_true rfl) (JX3_requireJuror hF)
set_option maxRecDepth 100000 in
set_option maxHeartbeats 4000000 in
theorem BX0_visitsOf_4 (N : Nat) : ∀ (n : Nat) (a0 : Nat) (x1 : Int32) (x2 : Int32) (x3 : Int32) (h : jm_H) (X : jm_X), FX0_visitsOf_4 N n a0 x1 x2 x3 h = some X → jm_J M_X0_visitsOf 4 [(0, .ref a0), (1, .int x1), (2, .int x2), (3, .int x3)] [] h 0 0 X := by
  intro n
  induction n with
  | zero =>
    intro a0 x1 x2 x3 h X hF
    exact nomatch (show (none : Option jm_X) = some X from hF)
  | succ n ih =>
    intro a0 x1 x2 x3 h X hF
    rw [FX0_visitsOf_4] at hF
    refine jj_iload_n (j := 3) (i := 3) (pc' := 5) dX0_visitsOf_4 rfl rfl rfl ?_
    refine jj_aload_n (j := 0) (i := 0) (pc' := 6) dX0_visitsOf_5 rfl rfl rfl ?_
    refine jj_gR (C := RX0) (T := TX0) (N := 10) (ci := 0) (k := 3) (pc' := 9) dX0_visitsOf_6 rfl rfl inX0 (by decide) qw_18 hF (fun r101 hF => ?_)
    refine jj_gI (C := RX2) (T := TX2) (N := 3) (ci := 2) (k := 2) (pc' := 12) dX0_visitsOf_9 rfl rfl inX2 (by decide) qw_47 hF (fun x102 hF => ?_)
    refine jj_icmp_ge (tgt := 33) (pc' := 15) dX0_visitsOf_12 rfl rfl (fun hc hF => ?_) (fun hc hF => ?_) hF
    · skip
      refine jj_iload_n (j := 2) (i := 2) (pc' := 34) dX0_visitsOf_33 rfl rfl rfl ?_
      exact jj_retI (ty := .int) rfl rfl dX0_visitsOf_34 ⟨Nat.le_of_ble_eq_true rfl, Nat.le_of_ble_eq_true rfl⟩ hF
    · skip
      refine jj_aload_n (j := 0) (i := 0) (pc' := 16) dX0_visitsOf_15 rfl rfl rfl ?_
      refine jj_iload_n (j := 1) (i := 1) (pc' := 17) dX0_visitsOf_16 rfl rfl rfl ?_
      refine jj_iload_n (j := 3) (i := 3) (pc' := 18) dX0_visitsOf_17 rfl rfl rfl ?_
      refine jj_cI (N := M_X0_goes) (kc' := 0) (ks' := 0) (pc' := 21) (jg_V (N := M_X0_goes) (ci := 0) (rest := []) (as := [.int x1, .int x3]) cf_X0_74 dX0_visitsOf_18 ⟨rfl, rfl⟩ rfl rfl ⟨Nat.le_of_ble_eq_true rfl, Nat.le_of_ble_eq_true rfl⟩ ⟨Nat.le_of_ble_eq_true rfl, Nat.le_of_ble_eq_true rfl⟩ (Nat.le_of_ble_eq_true rfl) (fun X' hX => KX0_goes hX)) rfl rfl rfl rfl ⟨Nat.le_of_ble_eq_true rfl, Nat.le_of_ble_eq_true rfl⟩ rfl hF (fun x104 h103 hF => ?_)
      refine jj_if_eq (tgt := 27) (pc' := 24) dX0_visitsOf_21 rfl rfl (fun hc hF => ?_) (fun hc hF => ?_) hF
      · skip
        refine jj_iinc (i := 3) (j := 3) (v := x3 + (1 : Int32)) (ls' := [(3, .int (x3 + (1 : Int32))), (0, .ref a0), (1, .int x1), (2, .int x2)]) (pc' := 30) dX0_visitsOf_27 rfl rfl (Nat.le_of_ble_eq_true rfl) rfl rfl ?_
        refine jj_goto (tgt := 4) dX0_visitsOf_30 rfl ?_
        exact jj_pick [1, 2, 3, 0] rfl (ih a0 x1 x2 (x3 + (1 : Int32)) h103 _ hF)
      · skip
        refine jj_iinc (i := 2) (j := 2) (v := x2 + (1 : Int32)) (ls' := [(2, .int (x2 + (1 : Int32))), (0, .ref a0), (1, .int x1), (3, .int x3)]) (pc' := 27) dX0_visitsOf_24 rfl rfl (Nat.le_of_ble_eq_true rfl) rfl rfl ?_
        refine jj_iinc (i := 3) (j := 3) (v := x3 + (1 : Int32)) (ls' := [(3, .int (x3 + (1 : Int32))), (2, .int (x2 + (1 : Int32))), (0, .ref a0), (1, .int x1)]) (pc' := 30) dX0_visitsOf_27 rfl rfl (Nat.le_of_ble_eq_true rfl) rfl rfl ?_
        refine jj_goto (tgt := 4) dX0_visitsOf_30 rfl ?_
        exact jj_pick [2, 3, 1, 0] rfl (ih a0 x1 (x2 + (1 : Int32)) (x3 + (1 : Int32)) h103 _ hF)
set_option maxRecDepth 100000 in
set_option maxHeartbeats 4000000 in
theorem JX0_visitsOf {N : Nat} {a0 : Nat} {x1 : Int32} {h : jm_H} {X : jm_X} (hF : FX0_visitsOf N a0 x1 h = some X) : jm_J M_X0_visitsOf 0 [(0, .ref a0), (1, .int x1)] [] h 0 0 X := by
  unfold FX0_visitsOf at hF
  refine jj_iconst (v := (0 : Int32)) (pc' := 1) dX0_visitsOf_0 rfl rfl ?_
  refine jj_istore_n (i := 2) (ls' := [(2, .int ((0 : Int32))), (0, .ref a0), (1, .int x1)]) (pc' := 2) dX0_visitsOf_1 rfl (Nat.le_of_ble_eq_true rfl) rfl rfl ?_
  refine jj_iconst (v := (0 : Int32)) (pc' := 3) dX0_visitsOf_2 rfl rfl ?_
  refine jj_istore_n (i := 3) (ls' := [(3, .int ((0 : Int32))), (2, .int ((0 : Int32))), (0, .ref a0), (1, .int x1)]) (pc' := 4) dX0_visitsOf_3 rfl (Nat.le_of_ble_eq_true rfl) rfl rfl ?_
  exact jj_pick [2, 3, 1, 0] rfl (BX0_visitsOf_4 N N a0 x1 ((0 : Int32)) ((0 : Int32)) h _ hF)
theorem KX0_visitsOf {N : Nat} {a0 : Nat} {x1 : Int32} {h : jm_H} {X : jm_X} (hF : FX0_visitsOf N a0 x1 h = some X) : jm_K M_X0_visitsOf [.ref a0, .int x1] h X := jk_of rfl (by decide +kernel) rfl rfl (Nat.le_of_ble_eq_true rfl) (JX0_visitsOf hF)
set_option maxRecDepth 100000 in
set_option maxHeartbeats 4000000 in
theorem JX0_addGoer {N : Nat} {a0 : Nat} {x1 : Int32} {x2 : Int32} {h : jm_H} {X : jm_X} (hF : FX0_addGoer N a0 x1 x2 h = some X) : jm_J M_X0_addGoer 0 [(0, .ref a0), (1, .int x1), (2, .int x2)] [] h 0 0 X := by
  unfold FX0_addGoer at hF
  refine jj_aload_n (j := 0) (i := 0) (pc' := 1) dX0_addGoer_0 rfl rfl rfl ?_
  refine jj_gR (C := RX0) (T := TX0) (N := 10) (ci := 0) (k := 3) (pc' := 4) dX0_addGoer_1 rfl rfl inX0 (by decide) qw_18 hF (fun r101 hF => ?_)
  refine jj_iload_n (j := 2) (i := 2) (pc' := 5) dX0_addGoer_4 rfl rfl rfl ?_
  refine jj_iconst (v := (4 : Int32)) (pc' := 6) dX0_addGoer_5 rfl rfl ?_
  refine jj_aload_n (j := 0) (i := 0) (pc' := 7) dX0_addGoer_6 rfl rfl rfl ?_
  refine jj_gR (C := RX0) (T := TX0) (N := 10) (ci := 0) (k := 3) (pc' := 10) dX0_addGoer_7 rfl rfl inX0 (by decide) qw_18 hF (fun r102 hF => ?_)
  refine jj_iload_n (j := 2) (i := 2) (pc' := 11) dX0_addGoer_10 rfl rfl rfl ?_
  refine jj_iconst (v := (4 : Int32)) (pc' := 12) dX0_addGoer_11 rfl rfl ?_
  refine jj_cI (N := M_X2_at) (kc' := 0) (ks' := 0) (pc' := 15) (jg_V (N := M_X2_at) (ci := 2) (rest := [.int ((4 : Int32)), .int x2, .ref r101]) (as := [.int x2, .int ((4 : Int32))]) cf_X0_60 dX0_addGoer_12 ⟨rfl, rfl⟩ rfl rfl ⟨Nat.le_of_ble_eq_true rfl, Nat.le_of_ble_eq_true rfl⟩ ⟨Nat.le_of_ble_eq_true rfl, Nat.le_of_ble_eq_true rfl⟩ (Nat.le_of_ble_eq_true rfl) (fun X' hX => KX2_at hX)) rfl rfl rfl rfl ⟨Nat.le_of_ble_eq_true rfl, Nat.le_of_ble_eq_true rfl⟩ rfl hF (fun x104 h103 hF => ?_)
  refine jj_iconst (v := (1 : Int32)) (pc' := 16) dX0_addGoer_15 rfl rfl ?_
  refine jj_iload_n (j := 1) (i := 1) (pc' := 17) dX0_addGoer_16 rfl rfl rfl ?_
  refine jj_ishl (pc' := 18) dX0_addGoer_17 rfl ?_
  refine jj_ior (pc' := 19) dX0_addGoer_18 rfl ?_
  refine jj_cV (N := M_X2_put) (kc' := 0) (ks' := 0) (pc' := 22) (jg_V (N := M_X2_put) (ci := 2) (rest := []) (as := [.int x2, .int ((4 : Int32)), .int (x104 ||| (((1 : Int32)) <<< (x1 &&& 31)))]) cf_X0_49 dX0_addGoer_19 ⟨rfl, rfl⟩ rfl rfl ⟨Nat.le_of_ble_eq_true rfl, Nat.le_of_ble_eq_true rfl⟩ ⟨Nat.le_of_ble_eq_true rfl, Nat.le_of_ble_eq_true rfl⟩ (Nat.le_of_ble_eq_true rfl) (fun X' hX => KX2_put hX)) rfl rfl rfl rfl ⟨Nat.le_of_ble_eq_true rfl, Nat.le_of_ble_eq_true rfl⟩ rfl hF (fun h105 hF => ?_)
  refine jj_aload_n (j := 0) (i := 0) (pc' := 23) dX0_addGoer_22 rfl rfl rfl ?_
  refine jj_iload_n (j := 1) (i := 1) (pc' := 24) dX0_addGoer_23 rfl rfl rfl ?_
  refine jj_cI (N := M_X0_visitsOf) (kc' := 0) (ks' := 0) (pc' := 27) (jg_V (N := M_X0_visitsOf) (ci := 0) (rest := []) (as := [.int x1]) cf_X0_81 dX0_addGoer_24 ⟨rfl, rfl⟩ rfl rfl ⟨Nat.le_of_ble_eq_true rfl, Nat.le_of_ble_eq_true rfl⟩ ⟨Nat.le_of_ble_eq_true rfl, Nat.le_of_ble_eq_true rfl⟩ (Nat.le_of_ble_eq_true rfl) (fun X' hX => KX0_visitsOf hX)) rfl rfl rfl rfl ⟨Nat.le_of_ble_eq_true rfl, Nat.le_of_ble_eq_true rfl⟩ rfl hF (fun x107 h106 hF => ?_)
  exact jj_retI (ty := .int) rfl rfl dX0_addGoer_27 ⟨Nat.le_of_ble_eq_true rfl, Nat.le_of_ble_eq_true rfl⟩ hF
theorem KX0_addGoer {N : Nat} {a0 : Nat} {x1 : Int32} {x2 : Int32} {h : jm_H} {X : jm_X} (hF : FX0_addGoer N a0 x1 x2 h = some X) : jm_K M_X0_addGoer [.ref a0, .int x1, .int x2] h X := jk_of rfl (by decide +kernel) rfl rfl (Nat.le_of_ble_eq_true rfl) (JX0_addGoer hF)
set_option maxRecDepth 100000 in
set_option maxHeartbeats 4000000 in
theorem JX3_attend {N : Nat} {a0 : Nat} {x1 : Int32} {x2 : Int32} {h : jm_H} {X : jm_X} (hF : FX3_attend N a0 x1 x2 h = some X) : jm_J M_X3_attend 0 [(0, .ref a0), (1, .int x1), (2, .int x2)] [] h 0 0 X := by
  unfold FX3_attend at hF
  refine jj_iload_n (j := 1) (i := 1) (pc' := 1) dX3_attend_0 rfl rfl rfl ?_
  refine jj_cV (N := M_X3_requireJuror) (kc' := 1) (ks' := 6) (pc' := 4) (jg_S (N := M_X3_requireJuror) (rest := []) (as := [.int x1]) cf_X3_129 rfl dX3_attend_1 rfl rfl ⟨Nat.le_of_ble_eq_true rfl, Nat.le_of_ble_eq_true rfl⟩ ⟨Nat.le_of_ble_eq_true rfl, Nat.le_of_ble_eq_true rfl⟩ (Nat.le_of_ble_eq_true rfl) (fun X' hX => KX3_requireJuror hX)) rfl rfl rfl rfl ⟨Nat.le_of_ble_eq_true rfl, Nat.le_of_ble_eq_true rfl⟩ rfl hF (fun h101 hF => ?_)
  refine jj_aload_n (j := 0) (i := 0) (pc' := 5) dX3_attend_4 rfl rfl rfl ?_
  refine jj_iload_n (j := 2) (i := 2) (pc' := 6) dX3_attend_5 rfl rfl rfl ?_
  refine jj_cV (N := M_X3_requireShowing) (kc' := 2) (ks' := 12) (pc' := 9) (jg_V (N := M_X3_requireShowing) (ci := 3) (rest := []) (as := [.int x2]) cf_X3_101 dX3_attend_6 ⟨rfl, rfl⟩ rfl rfl ⟨Nat.le_of_ble_eq_true rfl, Nat.le_of_ble_eq_true rfl⟩ ⟨Nat.le_of_ble_eq_true rfl, Nat.le_of_ble_eq_true rfl⟩ (Nat.le_of_ble_eq_true rfl) (fun X' hX => KX3_requireShowing hX)) rfl rfl rfl rfl ⟨Nat.le_of_ble_eq_true rfl, Nat.le_of_ble_eq_true rfl⟩ rfl hF (fun h102 hF => ?_)
  refine jj_aload_n (j := 0) (i := 0) (pc' := 10) dX3_attend_9 rfl rfl rfl ?_
  refine jj_gR (C := RX3) (T := TX3) (N := 8) (ci := 3) (k := 0) (pc' := 13) dX3_attend_10 rfl rfl inX3 (by decide) qw_29 hF (fun r103 hF => ?_)
  refine jj_iload_n (j := 1) (i := 1) (pc' := 14) dX3_attend_13 rfl rfl rfl ?_
  refine jj_iload_n (j := 2) (i := 2) (pc' := 15) dX3_attend_14 rfl rfl rfl ?_
  refine jj_cI (N := M_X0_goes) (kc' := 2) (ks' := 12) (pc' := 18) (jg_V (N := M_X0_goes) (ci := 0) (rest := []) (as := [.int x1, .int x2]) cf_X3_132 dX3_attend_15 ⟨rfl, rfl⟩ rfl rfl ⟨Nat.le_of_ble_eq_true rfl, Nat.le_of_ble_eq_true rfl⟩ ⟨Nat.le_of_ble_eq_true rfl, Nat.le_of_ble_eq_true rfl⟩ (Nat.le_of_ble_eq_true rfl) (fun X' hX => KX0_goes hX)) rfl rfl rfl rfl ⟨Nat.le_of_ble_eq_true rfl, Nat.le_of_ble_eq_true rfl⟩ rfl hF (fun x105 h104 hF => ?_)
  refine jj_if_ne (tgt := 33) (pc' := 21) dX3_attend_18 rfl rfl (fun hc hF => ?_) (fun hc hF => ?_) hF
  · skip
    exact jj_throw (text := "the juror goes to it already, or cannot") tf_X3_52_56 (by decide) dX3_attend_33 dX3_attend_36 dX3_attend_37 dX3_attend_39 dX3_attend_42 rfl ⟨Nat.le_of_ble_eq_true rfl, Nat.le_of_ble_eq_true rfl⟩ ⟨Nat.le_of_ble_eq_true rfl, Nat.le_of_ble_eq_true rfl⟩ hF
  · skip
    refine jj_aload_n (j := 0) (i := 0) (pc' := 22) dX3_attend_21 rfl rfl rfl ?_
    refine jj_gR (C := RX3) (T := TX3) (N := 8) (ci := 3) (k := 0) (pc' := 25) dX3_attend_22 rfl rfl inX3 (by decide) qw_29 hF (fun r106 hF => ?_)
    refine jj_iload_n (j := 1) (i := 1) (pc' := 26) dX3_attend_25 rfl rfl rfl ?_
    refine jj_iload_n (j := 2) (i := 2) (pc' := 27) dX3_attend_26 rfl rfl rfl ?_
    refine jj_cI (N := M_X0_canGo) (kc' := 2) (ks' := 12) (pc' := 30) (jg_V (N := M_X0_canGo) (ci := 0) (rest := []) (as := [.int x1, .int x2]) cf_X3_136 dX3_attend_27 ⟨rfl, rfl⟩ rfl rfl ⟨Nat.le_of_ble_eq_true rfl, Nat.le_of_ble_eq_true rfl⟩ ⟨Nat.le_of_ble_eq_true rfl, Nat.le_of_ble_eq_true rfl⟩ (Nat.le_of_ble_eq_true rfl) (fun X' hX => KX0_canGo hX)) rfl rfl rfl rfl ⟨Nat.le_of_ble_eq_true rfl, Nat.le_of_ble_eq_true rfl⟩ rfl hF (fun x108 h107 hF => ?_)
    refine jj_if_ne (tgt := 43) (pc' := 33) dX3_attend_30 rfl rfl (fun hc hF => ?_) (fun hc hF => ?_) hF
    · skip
      refine jj_aload_n (j := 0) (i := 0) (pc' := 44) dX3_attend_43 rfl rfl rfl ?_
      refine jj_cV (N := M_X3_save) (kc' := 2) (ks' := 12) (pc' := 47) (jg_V (N := M_X3_save) (ci := 3) (rest := []) (as := []) cf_X3_59 dX3_attend_44 ⟨rfl, rfl⟩ rfl rfl ⟨Nat.le_of_ble_eq_true rfl, Nat.le_of_ble_eq_true rfl⟩ ⟨Nat.le_of_ble_eq_true rfl, Nat.le_of_ble_eq_true rfl⟩ (Nat.le_of_ble_eq_true rfl) (fun X' hX => KX3_save hX)) rfl rfl rfl rfl ⟨Nat.le_of_ble_eq_true rfl, Nat.le_of_ble_eq_true rfl⟩ rfl hF (fun h109 hF => ?_)
      refine jj_aload_n (j := 0) (i := 0) (pc' := 48) dX3_attend_47 rfl rfl rfl ?_
      refine jj_gR (C := RX3) (T := TX3) (N := 8) (ci := 3) (k := 0) (pc' := 51) dX3_attend_48 rfl rfl inX3 (by decide) qw_29 hF (fun r110 hF => ?_)
      refine jj_iload_n (j := 1) (i := 1) (pc' := 52) dX3_attend_51 rfl rfl rfl ?_
      refine jj_iload_n (j := 2) (i := 2) (pc' := 53) dX3_attend_52 rfl rfl rfl ?_
      refine jj_cI (N := M_X0_addGoer) (kc' := 2) (ks' := 12) (pc' := 56) (jg_V (N := M_X0_addGoer) (ci := 0) (rest := []) (as := [.int x1, .int x2]) cf_X3_141 dX3_attend_53 ⟨rfl, rfl⟩ rfl rfl ⟨Nat.le_of_ble_eq_true rfl, Nat.le_of_ble_eq_true rfl⟩ ⟨Nat.le_of_ble_eq_true rfl, Nat.le_of_ble_eq_true rfl⟩ (Nat.le_of_ble_eq_true rfl) (fun X' hX => KX0_addGoer hX)) rfl rfl rfl rfl ⟨Nat.le_of_ble_eq_true rfl, Nat.le_of_ble_eq_true rfl⟩ rfl hF (fun x112 h111 hF => ?_)
      exact jj_retI (ty := .int) rfl rfl dX3_attend_56 ⟨Nat.le_of_ble_eq_true rfl, Nat.le_of_ble_eq_true rfl⟩ hF
    · skip
      exact jj_throw (text := "the juror goes to it already, or cannot") tf_X3_52_56 (by decide) dX3_attend_33 dX3_attend_36 dX3_attend_37 dX3_attend_39 dX3_attend_42 rfl ⟨Nat.le_of_ble_eq_true rfl, Nat.le_of_ble_eq_true rfl⟩ ⟨Nat.le_of_ble_eq_true rfl, Nat.le_of_ble_eq_true rfl⟩ hF
theorem KX3_attend {N : Nat} {a0 : Nat} {x1 : Int32} {x2 : Int32} {h : jm_H} {X : jm_X} (hF : FX3_attend N a0 x1 x2 h = some X) : jm_K M_X3_attend [.ref a0, .int x1, .int x2] h X := jk_of rfl (by decide +kernel) rfl rfl (Nat.le_of_ble_eq_true rfl) (JX3_attend hF)
set_option maxRecDepth 100000 in
set_option maxHeartbeats 4000000 in
theorem BX0_seenBy_4 (N : Nat) : ∀ (n : Nat) (a0 : Nat) (x1 : Int32) (x2 : Int32) (x3 : Int32) (h : jm_H) (X : jm_X), FX0_seenBy_4 N n a0 x1 x2 x3 h = some X → jm_J M_X0_seenBy 4 [(0, .ref a0), (1, .int x1), (2, .int x2), (3, .int x3)] [] h 0 0 X := by
  intro n
  induction n with
  | zero =>
    intro a0 x1 x2 x3 h X hF
    exact nomatch (show (none : Option jm_X) = some X from hF)
  | succ n ih =>
    intro a0 x1 x2 x3 h X hF
    rw [FX0_seenBy_4] at hF
    refine jj_iload_n (j := 3) (i := 3) (pc' := 5) dX0_seenBy_4 rfl rfl rfl ?_
    refine jj_aload_n (j := 0) (i := 0) (pc' := 6) dX0_seenBy_5 rfl rfl rfl ?_
    refine jj_gR (C := RX0) (T := TX0) (N := 10) (ci := 0) (k := 3) (pc' := 9) dX0_seenBy_6 rfl rfl inX0 (by decide) qw_18 hF (fun r101 hF => ?_)
    refine jj_gI (C := RX2) (T := TX2) (N := 3) (ci := 2) (k := 2) (pc' := 12) dX0_seenBy_9 rfl rfl inX2 (by decide) qw_47 hF (fun x102 hF => ?_)
    refine jj_icmp_ge (tgt := 46) (pc' := 15) dX0_seenBy_12 rfl rfl (fun hc hF => ?_) (fun hc hF => ?_) hF
    · skip
      refine jj_iload_n (j := 2) (i := 2) (pc' := 47) dX0_seenBy_46 rfl rfl rfl ?_
      exact jj_retI (ty := .int) rfl rfl dX0_seenBy_47 ⟨Nat.le_of_ble_eq_true rfl, Nat.le_of_ble_eq_true rfl⟩ hF
    · skip
      refine jj_aload_n (j := 0) (i := 0) (pc' := 16) dX0_seenBy_15 rfl rfl rfl ?_
      refine jj_gR (C := RX0) (T := TX0) (N := 10) (ci := 0) (k := 3) (pc' := 19) dX0_seenBy_16 rfl rfl inX0 (by decide) qw_18 hF (fun r103 hF => ?_)
      refine jj_iload_n (j := 3) (i := 3) (pc' := 20) dX0_seenBy_19 rfl rfl rfl ?_
      refine jj_iconst (v := (0 : Int32)) (pc' := 21) dX0_seenBy_20 rfl rfl ?_
      refine jj_cI (N := M_X2_at) (kc' := 0) (ks' := 0) (pc' := 24) (jg_V (N := M_X2_at) (ci := 2) (rest := []) (as := [.int x3, .int ((0 : Int32))]) cf_X0_60 dX0_seenBy_21 ⟨rfl, rfl⟩ rfl rfl ⟨Nat.le_of_ble_eq_true rfl, Nat.le_of_ble_eq_true rfl⟩ ⟨Nat.le_of_ble_eq_true rfl, Nat.le_of_ble_eq_true rfl⟩ (Nat.le_of_ble_eq_true rfl) (fun X' hX => KX2_at hX)) rfl rfl rfl rfl ⟨Nat.le_of_ble_eq_true rfl, Nat.le_of_ble_eq_true rfl⟩ rfl hF (fun x105 h104 hF => ?_)
      refine jj_iload_n (j := 1) (i := 1) (pc' := 25) dX0_seenBy_24 rfl rfl rfl ?_
      refine jj_icmp_ne (tgt := 40) (pc' := 28) dX0_seenBy_25 rfl rfl (fun hc hF => ?_) (fun hc hF => ?_) hF
      · skip
        refine jj_iinc (i := 3) (j := 3) (v := x3 + (1 : Int32)) (ls' := [(3, .int (x3 + (1 : Int32))), (0, .ref a0), (1, .int x1), (2, .int x2)]) (pc' := 43) dX0_seenBy_40 rfl rfl (Nat.le_of_ble_eq_true rfl) rfl rfl ?_
        refine jj_goto (tgt := 4) dX0_seenBy_43 rfl ?_
        exact jj_pick [1, 2, 3, 0] rfl (ih a0 x1 x2 (x3 + (1 : Int32)) h104 _ hF)
      · skip
        refine jj_iload_n (j := 2) (i := 2) (pc' := 29) dX0_seenBy_28 rfl rfl rfl ?_
        refine jj_aload_n (j := 0) (i := 0) (pc' := 30) dX0_seenBy_29 rfl rfl rfl ?_
        refine jj_gR (C := RX0) (T := TX0) (N := 10) (ci := 0) (k := 3) (pc' := 33) dX0_seenBy_30 rfl rfl inX0 (by decide) qw_18 hF (fun r106 hF => ?_)
        refine jj_iload_n (j := 3) (i := 3) (pc' := 34) dX0_seenBy_33 rfl rfl rfl ?_
        refine jj_iconst (v := (4 : Int32)) (pc' := 35) dX0_seenBy_34 rfl rfl ?_
        refine jj_cI (N := M_X2_at) (kc' := 0) (ks' := 0) (pc' := 38) (jg_V (N := M_X2_at) (ci := 2) (rest := [.int x2]) (as := [.int x3, .int ((4 : Int32))]) cf_X0_60 dX0_seenBy_35 ⟨rfl, rfl⟩ rfl rfl ⟨Nat.le_of_ble_eq_true rfl, Nat.le_of_ble_eq_true rfl⟩ ⟨Nat.le_of_ble_eq_true rfl, Nat.le_of_ble_eq_true rfl⟩ (Nat.le_of_ble_eq_true rfl) (fun X' hX => KX2_at hX)) rfl rfl rfl rfl ⟨Nat.le_of_ble_eq_true rfl, Nat.le_of_ble_eq_true rfl⟩ rfl hF (fun x108 h107 hF => ?_)
        refine jj_ior (pc' := 39) dX0_seenBy_38 rfl ?_
        refine jj_istore_n (i := 2) (ls' := [(2, .int (x2 ||| x108)), (0, .ref a0), (1, .int x1), (3, .int x3)]) (pc' := 40) dX0_seenBy_39 rfl (Nat.le_of_ble_eq_true rfl) rfl rfl ?_
        refine jj_iinc (i := 3) (j := 3) (v := x3 + (1 : Int32)) (ls' := [(3, .int (x3 + (1 : Int32))), (2, .int (x2 ||| x108)), (0, .ref a0), (1, .int x1)]) (pc' := 43) dX0_seenBy_40 rfl rfl (Nat.le_of_ble_eq_true rfl) rfl rfl ?_
        refine jj_goto (tgt := 4) dX0_seenBy_43 rfl ?_
        exact jj_pick [2, 3, 1, 0] rfl (ih a0 x1 (x2 ||| x108) (x3 + (1 : Int32)) h107 _ hF)
set_option maxRecDepth 100000 in
set_option maxHeartbeats 4000000 in
theorem JX0_seenBy {N : Nat} {a0 : Nat} {x1 : Int32} {h : jm_H} {X : jm_X} (hF : FX0_seenBy N a0 x1 h = some X) : jm_J M_X0_seenBy 0 [(0, .ref a0), (1, .int x1)] [] h 0 0 X := by
  unfold FX0_seenBy at hF
  refine jj_iconst (v := (0 : Int32)) (pc' := 1) dX0_seenBy_0 rfl rfl ?_
  refine jj_istore_n (i := 2) (ls' := [(2, .int ((0 : Int32))), (0, .ref a0), (1, .int x1)]) (pc' := 2) dX0_seenBy_1 rfl (Nat.le_of_ble_eq_true rfl) rfl rfl ?_
  refine jj_iconst (v := (0 : Int32)) (pc' := 3) dX0_seenBy_2 rfl rfl ?_
  refine jj_istore_n (i := 3) (ls' := [(3, .int ((0 : Int32))), (2, .int ((0 : Int32))), (0, .ref a0), (1, .int x1)]) (pc' := 4) dX0_seenBy_3 rfl (Nat.le_of_ble_eq_true rfl) rfl rfl ?_
  exact jj_pick [2, 3, 1, 0] rfl (BX0_seenBy_4 N N a0 x1 ((0 : Int32)) ((0 : Int32)) h _ hF)
theorem KX0_seenBy {N : Nat} {a0 : Nat} {x1 : Int32} {h : jm_H} {X : jm_X} (hF : FX0_seenBy N a0 x1 h = some X) : jm_K M_X0_seenBy [.ref a0, .int x1] h X := jk_of rfl (by decide +kernel) rfl rfl (Nat.le_of_ble_eq_true rfl) (JX0_seenBy hF)
set_option maxRecDepth 100000 in
set_option maxHeartbeats 4000000 in
theorem JX3_vote {N : Nat} {a0 : Nat} {x1 : Int32} {x2 : Int32} {x3 : Int32} {h : jm_H} {X : jm_X} (hF : FX3_vote N a0 x1 x2 x3 h = some X) : jm_J M_X3_vote 0 [(0, .ref a0), (1, .int x1), (2, .int x2), (3, .int x3)] [] h 0 0 X := by
  unfold FX3_vote at hF
  refine jj_iload_n (j := 1) (i := 1) (pc' := 1) dX3_vote_0 rfl rfl rfl ?_
  refine jj_cV (N := M_X3_requireJuror) (kc' := 1) (ks' := 6) (pc' := 4) (jg_S (N := M_X3_requireJuror) (rest := []) (as := [.int x1]) cf_X3_129 rfl dX3_vote_1 rfl rfl ⟨Nat.le_of_ble_eq_true rfl, Nat.le_of_ble_eq_true rfl⟩ ⟨Nat.le_of_ble_eq_true rfl, Nat.le_of_ble_eq_true rfl⟩ (Nat.le_of_ble_eq_true rfl) (fun X' hX => KX3_requireJuror hX)) rfl rfl rfl rfl ⟨Nat.le_of_ble_eq_true rfl, Nat.le_of_ble_eq_true rfl⟩ rfl hF (fun h101 hF => ?_)
  refine jj_aload_n (j := 0) (i := 0) (pc' := 5) dX3_vote_4 rfl rfl rfl ?_
  refine jj_iload_n (j := 2) (i := 2) (pc' := 6) dX3_vote_5 rfl rfl rfl ?_
  refine jj_cV (N := M_X3_requireFilm) (kc' := 2) (ks' := 12) (pc' := 9) (jg_V (N := M_X3_requireFilm) (ci := 3) (rest := []) (as := [.int x2]) cf_X3_85 dX3_vote_6 ⟨rfl, rfl⟩ rfl rfl ⟨Nat.le_of_ble_eq_true rfl, Nat.le_of_ble_eq_true rfl⟩ ⟨Nat.le_of_ble_eq_true rfl, Nat.le_of_ble_eq_true rfl⟩ (Nat.le_of_ble_eq_true rfl) (fun X' hX => KX3_requireFilm hX)) rfl rfl rfl rfl ⟨Nat.le_of_ble_eq_true rfl, Nat.le_of_ble_eq_true rfl⟩ rfl hF (fun h102 hF => ?_)
  refine jj_iload_n (j := 3) (i := 3) (pc' := 10) dX3_vote_9 rfl rfl rfl ?_
  refine jj_iconst (v := (0 : Int32)) (pc' := 11) dX3_vote_10 rfl rfl ?_
  refine jj_bipush (v := (10 : Int32)) (pc' := 13) dX3_vote_11 rfl rfl ?_
  refine jj_cI (N := M_X3_isWithin) (kc' := 2) (ks' := 12) (pc' := 16) (jg_S (N := M_X3_isWithin) (rest := []) (as := [.int x3, .int ((0 : Int32)), .int ((10 : Int32))]) cf_X3_34 rfl dX3_vote_13 rfl rfl ⟨Nat.le_of_ble_eq_true rfl, Nat.le_of_ble_eq_true rfl⟩ ⟨Nat.le_of_ble_eq_true rfl, Nat.le_of_ble_eq_true rfl⟩ (Nat.le_of_ble_eq_true rfl) (fun X' hX => KX3_isWithin hX)) rfl rfl rfl rfl ⟨Nat.le_of_ble_eq_true rfl, Nat.le_of_ble_eq_true rfl⟩ rfl hF (fun x104 h103 hF => ?_)
  refine jj_cV (N := M_X3_requireArgument) (kc' := 3) (ks' := 18) (pc' := 19) (jg_S (N := M_X3_requireArgument) (rest := []) (as := [.int x104]) cf_X3_38 rfl dX3_vote_16 rfl rfl ⟨Nat.le_of_ble_eq_true rfl, Nat.le_of_ble_eq_true rfl⟩ ⟨Nat.le_of_ble_eq_true rfl, Nat.le_of_ble_eq_true rfl⟩ (Nat.le_of_ble_eq_true rfl) (fun X' hX => KX3_requireArgument hX)) rfl rfl rfl rfl ⟨Nat.le_of_ble_eq_true rfl, Nat.le_of_ble_eq_true rfl⟩ rfl hF (fun h105 hF => ?_)
  refine jj_aload_n (j := 0) (i := 0) (pc' := 20) dX3_vote_19 rfl rfl rfl ?_
  refine jj_gR (C := RX3) (T := TX3) (N := 8) (ci := 3) (k := 0) (pc' := 23) dX3_vote_20 rfl rfl inX3 (by decide) qw_29 hF (fun r106 hF => ?_)
  refine jj_iload_n (j := 2) (i := 2) (pc' := 24) dX3_vote_23 rfl rfl rfl ?_
  refine jj_cI (N := M_X0_seenBy) (kc' := 3) (ks' := 18) (pc' := 27) (jg_V (N := M_X0_seenBy) (ci := 0) (rest := []) (as := [.int x2]) cf_X3_144 dX3_vote_24 ⟨rfl, rfl⟩ rfl rfl ⟨Nat.le_of_ble_eq_true rfl, Nat.le_of_ble_eq_true rfl⟩ ⟨Nat.le_of_ble_eq_true rfl, Nat.le_of_ble_eq_true rfl⟩ (Nat.le_of_ble_eq_true rfl) (fun X' hX => KX0_seenBy hX)) rfl rfl rfl rfl ⟨Nat.le_of_ble_eq_true rfl, Nat.le_of_ble_eq_true rfl⟩ rfl hF (fun x108 h107 hF => ?_)
  refine jj_iload_n (j := 1) (i := 1) (pc' := 28) dX3_vote_27 rfl rfl rfl ?_
  refine jj_cI (N := M_X3_hasBit) (kc' := 3) (ks' := 18) (pc' := 31) (jg_S (N := M_X3_hasBit) (rest := []) (as := [.int x108, .int x1]) cf_X3_147 rfl dX3_vote_28 rfl rfl ⟨Nat.le_of_ble_eq_true rfl, Nat.le_of_ble_eq_true rfl⟩ ⟨Nat.le_of_ble_eq_true rfl, Nat.le_of_ble_eq_true rfl⟩ (Nat.le_of_ble_eq_true rfl) (fun X' hX => KX3_hasBit hX)) rfl rfl rfl rfl ⟨Nat.le_of_ble_eq_true rfl, Nat.le_of_ble_eq_true rfl⟩ rfl hF (fun x110 h109 hF => ?_)
  refine jj_if_ne (tgt := 44) (pc' := 34) dX3_vote_31 rfl rfl (fun hc hF => ?_) (fun hc hF => ?_) hF
  · skip
    refine jj_aload_n (j := 0) (i := 0) (pc' := 45) dX3_vote_44 rfl rfl rfl ?_
    refine jj_cV (N := M_X3_save) (kc' := 3) (ks' := 18) (pc' := 48) (jg_V (N := M_X3_save) (ci := 3) (rest := []) (as := []) cf_X3_59 dX3_vote_45 ⟨rfl, rfl⟩ rfl rfl ⟨Nat.le_of_ble_eq_true rfl, Nat.le_of_ble_eq_true rfl⟩ ⟨Nat.le_of_ble_eq_true rfl, Nat.le_of_ble_eq_true rfl⟩ (Nat.le_of_ble_eq_true rfl) (fun X' hX => KX3_save hX)) rfl rfl rfl rfl ⟨Nat.le_of_ble_eq_true rfl, Nat.le_of_ble_eq_true rfl⟩ rfl hF (fun h111 hF => ?_)
    refine jj_aload_n (j := 0) (i := 0) (pc' := 49) dX3_vote_48 rfl rfl rfl ?_
    refine jj_gR (C := RX3) (T := TX3) (N := 8) (ci := 3) (k := 0) (pc' := 52) dX3_vote_49 rfl rfl inX3 (by decide) qw_29 hF (fun r112 hF => ?_)
    refine jj_gR (C := RX0) (T := TX0) (N := 10) (ci := 0) (k := 5) (pc' := 55) dX3_vote_52 rfl rfl inX0 (by decide) qw_53 hF (fun r113 hF => ?_)
    refine jj_iload_n (j := 1) (i := 1) (pc' := 56) dX3_vote_55 rfl rfl rfl ?_
    refine jj_iload_n (j := 2) (i := 2) (pc' := 57) dX3_vote_56 rfl rfl rfl ?_
    refine jj_iload_n (j := 3) (i := 3) (pc' := 58) dX3_vote_57 rfl rfl rfl ?_
    refine jj_cI (N := M_X2_exchange) (kc' := 3) (ks' := 18) (pc' := 61) (jg_V (N := M_X2_exchange) (ci := 2) (rest := []) (as := [.int x1, .int x2, .int x3]) cf_X3_73 dX3_vote_58 ⟨rfl, rfl⟩ rfl rfl ⟨Nat.le_of_ble_eq_true rfl, Nat.le_of_ble_eq_true rfl⟩ ⟨Nat.le_of_ble_eq_true rfl, Nat.le_of_ble_eq_true rfl⟩ (Nat.le_of_ble_eq_true rfl) (fun X' hX => KX2_exchange hX)) rfl rfl rfl rfl ⟨Nat.le_of_ble_eq_true rfl, Nat.le_of_ble_eq_true rfl⟩ rfl hF (fun x115 h114 hF => ?_)
    exact jj_retI (ty := .int) rfl rfl dX3_vote_61 ⟨Nat.le_of_ble_eq_true rfl, Nat.le_of_ble_eq_true rfl⟩ hF
  · skip
    exact jj_throw (text := "the juror has not seen the film") tf_X3_52_56 (by decide) dX3_vote_34 dX3_vote_37 dX3_vote_38 dX3_vote_40 dX3_vote_43 rfl ⟨Nat.le_of_ble_eq_true rfl, Nat.le_of_ble_eq_true rfl⟩ ⟨Nat.le_of_ble_eq_true rfl, Nat.le_of_ble_eq_true rfl⟩ hF
theorem KX3_vote {N : Nat} {a0 : Nat} {x1 : Int32} {x2 : Int32} {x3 : Int32} {h : jm_H} {X : jm_X} (hF : FX3_vote N a0 x1 x2 x3 h = some X) : jm_K M_X3_vote [.ref a0, .int x1, .int x2, .int x3] h X := jk_of rfl (by decide +kernel) rfl rfl (Nat.le_of_ble_eq_true rfl) (JX3_vote hF)
set_option maxRecDepth 100000 in
set_option maxHeartbeats 4000000 in
theorem JX3_append {a0 : Nat} {x1 : Int32} {h : jm_H} {X : jm_X} (hF : FX3_append a0 x1 h = some X) : jm_J M_X3_append 0 [(0, .ref a0), (1, .int x1)] [] h 0 0 X := by
  unfold FX3_append at hF
  refine jj_iload_n (j := 1) (i := 1) (pc' := 1) dX3_append_0 rfl rfl rfl ?_
  refine jj_bipush (v := (33 : Int32)) (pc' := 3) dX3_append_1 rfl rfl ?_
  refine jj_bipush (v := (126 : Int32)) (pc' := 5) dX3_append_3 rfl rfl ?_
  refine jj_cI (N := M_X3_isWithin) (kc' := 0) (ks' := 0) (pc' := 8) (jg_S (N := M_X3_isWithin) (rest := []) (as := [.int x1, .int ((33 : Int32)), .int ((126 : Int32))]) cf_X3_34 rfl dX3_append_5 rfl rfl ⟨Nat.le_of_ble_eq_true rfl, Nat.le_of_ble_eq_true rfl⟩ ⟨Nat.le_of_ble_eq_true rfl, Nat.le_of_ble_eq_true rfl⟩ (Nat.le_of_ble_eq_true rfl) (fun X' hX => KX3_isWithin hX)) rfl rfl rfl rfl ⟨Nat.le_of_ble_eq_true rfl, Nat.le_of_ble_eq_true rfl⟩ rfl hF (fun x102 h101 hF => ?_)
  refine jj_cV (N := M_X3_requireArgument) (kc' := 1) (ks' := 6) (pc' := 11) (jg_S (N := M_X3_requireArgument) (rest := []) (as := [.int x102]) cf_X3_38 rfl dX3_append_8 rfl rfl ⟨Nat.le_of_ble_eq_true rfl, Nat.le_of_ble_eq_true rfl⟩ ⟨Nat.le_of_ble_eq_true rfl, Nat.le_of_ble_eq_true rfl⟩ (Nat.le_of_ble_eq_true rfl) (fun X' hX => KX3_requireArgument hX)) rfl rfl rfl rfl ⟨Nat.le_of_ble_eq_true rfl, Nat.le_of_ble_eq_true rfl⟩ rfl hF (fun h103 hF => ?_)
  refine jj_aload_n (j := 0) (i := 0) (pc' := 12) dX3_append_11 rfl rfl rfl ?_
  refine jj_gI (C := RX3) (T := TX3) (N := 8) (ci := 3) (k := 7) (pc' := 15) dX3_append_12 rfl rfl inX3 (by decide) qw_54 hF (fun x104 hF => ?_)
  refine jj_if_lt (tgt := 30) (pc' := 18) dX3_append_15 rfl rfl (fun hc hF => ?_) (fun hc hF => ?_) hF
  · skip
    exact jj_throw (text := "the buffer has 60 characters") tf_X3_52_56 (by decide) dX3_append_30 dX3_append_33 dX3_append_34 dX3_append_36 dX3_append_39 rfl ⟨Nat.le_of_ble_eq_true rfl, Nat.le_of_ble_eq_true rfl⟩ ⟨Nat.le_of_ble_eq_true rfl, Nat.le_of_ble_eq_true rfl⟩ hF
  · skip
    refine jj_aload_n (j := 0) (i := 0) (pc' := 19) dX3_append_18 rfl rfl rfl ?_
    refine jj_gI (C := RX3) (T := TX3) (N := 8) (ci := 3) (k := 7) (pc' := 22) dX3_append_19 rfl rfl inX3 (by decide) qw_54 hF (fun x105 hF => ?_)
    refine jj_aload_n (j := 0) (i := 0) (pc' := 23) dX3_append_22 rfl rfl rfl ?_
    refine jj_gR (C := RX3) (T := TX3) (N := 8) (ci := 3) (k := 4) (pc' := 26) dX3_append_23 rfl rfl inX3 (by decide) qw_36 hF (fun r106 hF => ?_)
    refine jj_len (pc' := 27) dX3_append_26 rfl hF (fun x107 hF => ?_)
    refine jj_icmp_lt (tgt := 40) (pc' := 30) dX3_append_27 rfl rfl (fun hc hF => ?_) (fun hc hF => ?_) hF
    · skip
      refine jj_aload_n (j := 0) (i := 0) (pc' := 41) dX3_append_40 rfl rfl rfl ?_
      refine jj_gR (C := RX3) (T := TX3) (N := 8) (ci := 3) (k := 4) (pc' := 44) dX3_append_41 rfl rfl inX3 (by decide) qw_36 hF (fun r108 hF => ?_)
      refine jj_aload_n (j := 0) (i := 0) (pc' := 45) dX3_append_44 rfl rfl rfl ?_
      refine jj_gI (C := RX3) (T := TX3) (N := 8) (ci := 3) (k := 7) (pc' := 48) dX3_append_45 rfl rfl inX3 (by decide) qw_54 hF (fun x109 hF => ?_)
      refine jj_iload_n (j := 1) (i := 1) (pc' := 49) dX3_append_48 rfl rfl rfl ?_
      refine jj_stI (pc' := 50) dX3_append_49 rfl hF (fun h110 hF => ?_)
      refine jj_aload_n (j := 0) (i := 0) (pc' := 51) dX3_append_50 rfl rfl rfl ?_
      refine jj_dup (pc' := 52) dX3_append_51 rfl rfl ?_
      refine jj_gI (C := RX3) (T := TX3) (N := 8) (ci := 3) (k := 7) (pc' := 55) dX3_append_52 rfl rfl inX3 (by decide) qw_54 hF (fun x111 hF => ?_)
      refine jj_iconst (v := (1 : Int32)) (pc' := 56) dX3_append_55 rfl rfl ?_
      refine jj_iadd (pc' := 57) dX3_append_56 rfl ?_
      refine jj_p (C := RX3) (T := TX3) (N := 8) (ci := 3) (k := 7) (ty := tyX3) (pc' := 60) dX3_append_57 rfl rfl inX3 tyX3_ok nmX3 (by decide) qw_54 rfl (fun _ => ⟨rfl, rfl⟩) hF (fun h112 hF => ?_)
      refine jj_aload_n (j := 0) (i := 0) (pc' := 61) dX3_append_60 rfl rfl rfl ?_
      refine jj_gI (C := RX3) (T := TX3) (N := 8) (ci := 3) (k := 7) (pc' := 64) dX3_append_61 rfl rfl inX3 (by decide) qw_54 hF (fun x113 hF => ?_)
      exact jj_retI (ty := .int) rfl rfl dX3_append_64 ⟨Nat.le_of_ble_eq_true rfl, Nat.le_of_ble_eq_true rfl⟩ hF
    · skip
      exact jj_throw (text := "the buffer has 60 characters") tf_X3_52_56 (by decide) dX3_append_30 dX3_append_33 dX3_append_34 dX3_append_36 dX3_append_39 rfl ⟨Nat.le_of_ble_eq_true rfl, Nat.le_of_ble_eq_true rfl⟩ ⟨Nat.le_of_ble_eq_true rfl, Nat.le_of_ble_eq_true rfl⟩ hF
theorem KX3_append {a0 : Nat} {x1 : Int32} {h : jm_H} {X : jm_X} (hF : FX3_append a0 x1 h = some X) : jm_K M_X3_append [.ref a0, .int x1] h X := jk_of rfl (by decide +kernel) rfl rfl (Nat.le_of_ble_eq_true rfl) (JX3_append hF)
set_option maxRecDepth 100000 in
set_option maxHeartbeats 4000000 in
theorem JX3_clearBuffer {a0 : Nat} {h : jm_H} {X : jm_X} (hF : FX3_clearBuffer a0 h = some X) : jm_J M_X3_clearBuffer 0 [(0, .ref a0)] [] h 0 0 X := by
  unfold FX3_clearBuffer at hF
  refine jj_aload_n (j := 0) (i := 0) (pc' := 1) dX3_clearBuffer_0 rfl rfl rfl ?_
  refine jj_gI (C := RX3) (T := TX3) (N := 8) (ci := 3) (k := 7) (pc' := 4) dX3_clearBuffer_1 rfl rfl inX3 (by decide) qw_54 hF (fun x101 hF => ?_)
  refine jj_istore_n (i := 1) (ls' := [(1, .int x101), (0, .ref a0)]) (pc' := 5) dX3_clearBuffer_4 rfl (Nat.le_of_ble_eq_true rfl) rfl rfl ?_
  refine jj_aload_n (j := 1) (i := 0) (pc' := 6) dX3_clearBuffer_5 rfl rfl rfl ?_
  refine jj_iconst (v := (0 : Int32)) (pc' := 7) dX3_clearBuffer_6 rfl rfl ?_
  refine jj_p (C := RX3) (T := TX3) (N := 8) (ci := 3) (k := 7) (ty := tyX3) (pc' := 10) dX3_clearBuffer_7 rfl rfl inX3 tyX3_ok nmX3 (by decide) qw_54 rfl (fun _ => ⟨rfl, rfl⟩) hF (fun h102 hF => ?_)
  refine jj_iload_n (j := 0) (i := 1) (pc' := 11) dX3_clearBuffer_10 rfl rfl rfl ?_
  exact jj_retI (ty := .int) rfl rfl dX3_clearBuffer_11 ⟨Nat.le_of_ble_eq_true rfl, Nat.le_of_ble_eq_true rfl⟩ hF
theorem KX3_clearBuffer {a0 : Nat} {h : jm_H} {X : jm_X} (hF : FX3_clearBuffer a0 h = some X) : jm_K M_X3_clearBuffer [.ref a0] h X := jk_of rfl (by decide +kernel) rfl rfl (Nat.le_of_ble_eq_true rfl) (JX3_clearBuffer hF)
set_option maxRecDepth 100000 in
set_option maxHeartbeats 4000000 in
theorem JX1_startPart {a0 : Nat} {h : jm_H} {X : jm_X} (hF : FX1_startPart a0 h = some X) : jm_J M_X1_startPart 0 [(0, .ref a0)] [] h 0 0 X := by
  unfold FX1_startPart at hF
  refine jj_aload_n (j := 0) (i := 0) (pc' := 1) dX1_startPart_0 rfl rfl rfl ?_
  refine jj_iconst (v := (0 : Int32)) (pc' := 2) dX1_startPart_1 rfl rfl ?_
  refine jj_p (C := RX1) (T := TX1) (N := 5) (ci := 1) (k := 3) (ty := tyX1) (pc' := 5) dX1_startPart_2 rfl rfl inX1 tyX1_ok nmX1 (by decide) qw_55 rfl (fun _ => ⟨rfl, rfl⟩) hF (fun h101 hF => ?_)
  refine jj_aload_n (j := 0) (i := 0) (pc' := 6) dX1_startPart_5 rfl rfl rfl ?_
  refine jj_iconst (v := (0 : Int32)) (pc' := 7) dX1_startPart_6 rfl rfl ?_
  refine jj_p (C := RX1) (T := TX1) (N := 5) (ci := 1) (k := 4) (ty := tyX1) (pc' := 10) dX1_startPart_7 rfl rfl inX1 tyX1_ok nmX1 (by decide) qw_56 rfl (fun _ => ⟨rfl, rfl⟩) hF (fun h102 hF => ?_)
  exact jj_retV rfl dX1_startPart_10 ⟨Nat.le_of_ble_eq_true rfl, Nat.le_of_ble_eq_true rfl⟩ hF
theorem KX1_startPart {a0 : Nat} {h : jm_H} {X : jm_X} (hF : FX1_startPart a0 h = some X) : jm_K M_X1_startPart [.ref a0] h X := jk_of rfl (by decide +kernel) rfl rfl (Nat.le_of_ble_eq_true rfl) (JX1_startPart hF)

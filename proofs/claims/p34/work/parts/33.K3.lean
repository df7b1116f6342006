set_option maxRecDepth 100000 in
set_option maxHeartbeats 4000000 in
theorem BX0_reelAt_57 (N : Nat) : ∀ (n : Nat) (x2 : Int32) (x4 : Int32) (x5 : Int32) (x6 : Int32) (x7 : Int32) (x8 : Int32) (h : jm_H) (X : jm_X), FX0_reelAt_57 N n x2 x4 x5 x6 x7 x8 h = some X → jm_J M_X0_reelAt 57 [(2, .int x2), (4, .int x4), (5, .int x5), (6, .int x6), (7, .int x7), (8, .int x8)] [] h 0 0 X := by
  intro n
  induction n with
  | zero =>
    intro x2 x4 x5 x6 x7 x8 h X hF
    exact nomatch (show (none : Option jm_X) = some X from hF)
  | succ n ih =>
    intro x2 x4 x5 x6 x7 x8 h X hF
    rw [FX0_reelAt_57] at hF
    refine jj_iload (j := 5) (i := 8) (pc' := 59) dX0_reelAt_57 rfl rfl ?_
    refine jj_iload (j := 1) (i := 4) (pc' := 61) dX0_reelAt_59 rfl rfl ?_
    refine jj_icmp_ge (tgt := 103) (pc' := 64) dX0_reelAt_61 rfl rfl (fun hc hF => ?_) (fun hc hF => ?_) hF
    · skip
      refine jj_iconst (v := (-1 : Int32)) (pc' := 104) dX0_reelAt_103 rfl rfl ?_
      exact jj_retI (ty := .int) rfl rfl dX0_reelAt_104 ⟨Nat.le_of_ble_eq_true rfl, Nat.le_of_ble_eq_true rfl⟩ hF
    · skip
      refine jj_iload (j := 3) (i := 6) (pc' := 66) dX0_reelAt_64 rfl rfl ?_
      refine jj_iload (j := 4) (i := 7) (pc' := 68) dX0_reelAt_66 rfl rfl ?_
      refine jj_iload (j := 1) (i := 4) (pc' := 70) dX0_reelAt_68 rfl rfl ?_
      refine jj_iload (j := 2) (i := 5) (pc' := 72) dX0_reelAt_70 rfl rfl ?_
      refine jj_iload (j := 5) (i := 8) (pc' := 74) dX0_reelAt_72 rfl rfl ?_
      refine jj_cI (N := M_X0_beginIn) (kc' := 0) (ks' := 0) (pc' := 77) (jg_S (N := M_X0_beginIn) (rest := []) (as := [.int x6, .int x7, .int x4, .int x5, .int x8]) cf_X0_97 rfl dX0_reelAt_74 rfl rfl ⟨Nat.le_of_ble_eq_true rfl, Nat.le_of_ble_eq_true rfl⟩ ⟨Nat.le_of_ble_eq_true rfl, Nat.le_of_ble_eq_true rfl⟩ (Nat.le_of_ble_eq_true rfl) (fun X' hX => KX0_beginIn hX)) rfl rfl rfl rfl ⟨Nat.le_of_ble_eq_true rfl, Nat.le_of_ble_eq_true rfl⟩ rfl hF (fun x102 h101 hF => ?_)
      refine jj_istore (i := 9) (ls' := [(9, .int x102), (2, .int x2), (4, .int x4), (5, .int x5), (6, .int x6), (7, .int x7), (8, .int x8)]) (pc' := 79) dX0_reelAt_77 (Nat.le_of_ble_eq_true rfl) rfl rfl ?_
      refine jj_iload_n (j := 1) (i := 2) (pc' := 80) dX0_reelAt_79 rfl rfl rfl ?_
      refine jj_iload (j := 0) (i := 9) (pc' := 82) dX0_reelAt_80 rfl rfl ?_
      refine jj_icmp_lt (tgt := 97) (pc' := 85) dX0_reelAt_82 rfl rfl (fun hc hF => ?_) (fun hc hF => ?_) hF
      · skip
        refine jj_iinc (i := 8) (j := 6) (v := x8 + (1 : Int32)) (ls' := [(8, .int (x8 + (1 : Int32))), (9, .int x102), (2, .int x2), (4, .int x4), (5, .int x5), (6, .int x6), (7, .int x7)]) (pc' := 100) dX0_reelAt_97 rfl rfl (Nat.le_of_ble_eq_true rfl) rfl rfl ?_
        refine jj_goto (tgt := 57) dX0_reelAt_100 rfl ?_
        exact jj_pick [2, 3, 4, 5, 6, 0] rfl (ih x2 x4 x5 x6 x7 (x8 + (1 : Int32)) h101 _ hF)
      · skip
        refine jj_iload_n (j := 1) (i := 2) (pc' := 86) dX0_reelAt_85 rfl rfl rfl ?_
        refine jj_iload (j := 0) (i := 9) (pc' := 88) dX0_reelAt_86 rfl rfl ?_
        refine jj_iload (j := 3) (i := 5) (pc' := 90) dX0_reelAt_88 rfl rfl ?_
        refine jj_iadd (pc' := 91) dX0_reelAt_90 rfl ?_
        refine jj_icmp_ge (tgt := 97) (pc' := 94) dX0_reelAt_91 rfl rfl (fun hc hF => ?_) (fun hc hF => ?_) hF
        · skip
          refine jj_iinc (i := 8) (j := 6) (v := x8 + (1 : Int32)) (ls' := [(8, .int (x8 + (1 : Int32))), (9, .int x102), (2, .int x2), (4, .int x4), (5, .int x5), (6, .int x6), (7, .int x7)]) (pc' := 100) dX0_reelAt_97 rfl rfl (Nat.le_of_ble_eq_true rfl) rfl rfl ?_
          refine jj_goto (tgt := 57) dX0_reelAt_100 rfl ?_
          exact jj_pick [2, 3, 4, 5, 6, 0] rfl (ih x2 x4 x5 x6 x7 (x8 + (1 : Int32)) h101 _ hF)
        · skip
          refine jj_iload (j := 6) (i := 8) (pc' := 96) dX0_reelAt_94 rfl rfl ?_
          exact jj_retI (ty := .int) rfl rfl dX0_reelAt_96 ⟨Nat.le_of_ble_eq_true rfl, Nat.le_of_ble_eq_true rfl⟩ hF
set_option maxRecDepth 100000 in
set_option maxHeartbeats 4000000 in
theorem JX0_reelAt {N : Nat} {a0 : Nat} {x1 : Int32} {x2 : Int32} {h : jm_H} {X : jm_X} (hF : FX0_reelAt N a0 x1 x2 h = some X) : jm_J M_X0_reelAt 0 [(0, .ref a0), (1, .int x1), (2, .int x2)] [] h 0 0 X := by
  unfold FX0_reelAt at hF
  refine jj_aload_n (j := 0) (i := 0) (pc' := 1) dX0_reelAt_0 rfl rfl rfl ?_
  refine jj_gR (C := RX0) (T := TX0) (N := 10) (ci := 0) (k := 3) (pc' := 4) dX0_reelAt_1 rfl rfl inX0 (by decide) qw_18 hF (fun r101 hF => ?_)
  refine jj_iload_n (j := 1) (i := 1) (pc' := 5) dX0_reelAt_4 rfl rfl rfl ?_
  refine jj_iconst (v := (0 : Int32)) (pc' := 6) dX0_reelAt_5 rfl rfl ?_
  refine jj_cI (N := M_X2_at) (kc' := 0) (ks' := 0) (pc' := 9) (jg_V (N := M_X2_at) (ci := 2) (rest := []) (as := [.int x1, .int ((0 : Int32))]) cf_X0_60 dX0_reelAt_6 ⟨rfl, rfl⟩ rfl rfl ⟨Nat.le_of_ble_eq_true rfl, Nat.le_of_ble_eq_true rfl⟩ ⟨Nat.le_of_ble_eq_true rfl, Nat.le_of_ble_eq_true rfl⟩ (Nat.le_of_ble_eq_true rfl) (fun X' hX => KX2_at hX)) rfl rfl rfl rfl ⟨Nat.le_of_ble_eq_true rfl, Nat.le_of_ble_eq_true rfl⟩ rfl hF (fun x103 h102 hF => ?_)
  refine jj_istore_n (i := 3) (ls' := [(3, .int x103), (0, .ref a0), (1, .int x1), (2, .int x2)]) (pc' := 10) dX0_reelAt_9 rfl (Nat.le_of_ble_eq_true rfl) rfl rfl ?_
  refine jj_aload_n (j := 1) (i := 0) (pc' := 11) dX0_reelAt_10 rfl rfl rfl ?_
  refine jj_gR (C := RX0) (T := TX0) (N := 10) (ci := 0) (k := 0) (pc' := 14) dX0_reelAt_11 rfl rfl inX0 (by decide) qw_15 hF (fun r104 hF => ?_)
  refine jj_iload_n (j := 0) (i := 3) (pc' := 15) dX0_reelAt_14 rfl rfl rfl ?_
  refine jj_iconst (v := (0 : Int32)) (pc' := 16) dX0_reelAt_15 rfl rfl ?_
  refine jj_cI (N := M_X2_at) (kc' := 0) (ks' := 0) (pc' := 19) (jg_V (N := M_X2_at) (ci := 2) (rest := []) (as := [.int x103, .int ((0 : Int32))]) cf_X0_60 dX0_reelAt_16 ⟨rfl, rfl⟩ rfl rfl ⟨Nat.le_of_ble_eq_true rfl, Nat.le_of_ble_eq_true rfl⟩ ⟨Nat.le_of_ble_eq_true rfl, Nat.le_of_ble_eq_true rfl⟩ (Nat.le_of_ble_eq_true rfl) (fun X' hX => KX2_at hX)) rfl rfl rfl rfl ⟨Nat.le_of_ble_eq_true rfl, Nat.le_of_ble_eq_true rfl⟩ rfl hF (fun x106 h105 hF => ?_)
  refine jj_istore (i := 4) (ls' := [(4, .int x106), (3, .int x103), (0, .ref a0), (1, .int x1), (2, .int x2)]) (pc' := 21) dX0_reelAt_19 (Nat.le_of_ble_eq_true rfl) rfl rfl ?_
  refine jj_aload_n (j := 2) (i := 0) (pc' := 22) dX0_reelAt_21 rfl rfl rfl ?_
  refine jj_gR (C := RX0) (T := TX0) (N := 10) (ci := 0) (k := 0) (pc' := 25) dX0_reelAt_22 rfl rfl inX0 (by decide) qw_15 hF (fun r107 hF => ?_)
  refine jj_iload_n (j := 1) (i := 3) (pc' := 26) dX0_reelAt_25 rfl rfl rfl ?_
  refine jj_iconst (v := (1 : Int32)) (pc' := 27) dX0_reelAt_26 rfl rfl ?_
  refine jj_cI (N := M_X2_at) (kc' := 0) (ks' := 0) (pc' := 30) (jg_V (N := M_X2_at) (ci := 2) (rest := []) (as := [.int x103, .int ((1 : Int32))]) cf_X0_60 dX0_reelAt_27 ⟨rfl, rfl⟩ rfl rfl ⟨Nat.le_of_ble_eq_true rfl, Nat.le_of_ble_eq_true rfl⟩ ⟨Nat.le_of_ble_eq_true rfl, Nat.le_of_ble_eq_true rfl⟩ (Nat.le_of_ble_eq_true rfl) (fun X' hX => KX2_at hX)) rfl rfl rfl rfl ⟨Nat.le_of_ble_eq_true rfl, Nat.le_of_ble_eq_true rfl⟩ rfl hF (fun x109 h108 hF => ?_)
  refine jj_istore (i := 5) (ls' := [(5, .int x109), (4, .int x106), (3, .int x103), (0, .ref a0), (1, .int x1), (2, .int x2)]) (pc' := 32) dX0_reelAt_30 (Nat.le_of_ble_eq_true rfl) rfl rfl ?_
  refine jj_aload_n (j := 3) (i := 0) (pc' := 33) dX0_reelAt_32 rfl rfl rfl ?_
  refine jj_gR (C := RX0) (T := TX0) (N := 10) (ci := 0) (k := 3) (pc' := 36) dX0_reelAt_33 rfl rfl inX0 (by decide) qw_18 hF (fun r110 hF => ?_)
  refine jj_iload_n (j := 4) (i := 1) (pc' := 37) dX0_reelAt_36 rfl rfl rfl ?_
  refine jj_iconst (v := (2 : Int32)) (pc' := 38) dX0_reelAt_37 rfl rfl ?_
  refine jj_cI (N := M_X2_at) (kc' := 0) (ks' := 0) (pc' := 41) (jg_V (N := M_X2_at) (ci := 2) (rest := []) (as := [.int x1, .int ((2 : Int32))]) cf_X0_60 dX0_reelAt_38 ⟨rfl, rfl⟩ rfl rfl ⟨Nat.le_of_ble_eq_true rfl, Nat.le_of_ble_eq_true rfl⟩ ⟨Nat.le_of_ble_eq_true rfl, Nat.le_of_ble_eq_true rfl⟩ (Nat.le_of_ble_eq_true rfl) (fun X' hX => KX2_at hX)) rfl rfl rfl rfl ⟨Nat.le_of_ble_eq_true rfl, Nat.le_of_ble_eq_true rfl⟩ rfl hF (fun x112 h111 hF => ?_)
  refine jj_istore (i := 6) (ls' := [(6, .int x112), (5, .int x109), (4, .int x106), (3, .int x103), (0, .ref a0), (1, .int x1), (2, .int x2)]) (pc' := 43) dX0_reelAt_41 (Nat.le_of_ble_eq_true rfl) rfl rfl ?_
  refine jj_aload_n (j := 4) (i := 0) (pc' := 44) dX0_reelAt_43 rfl rfl rfl ?_
  refine jj_gR (C := RX0) (T := TX0) (N := 10) (ci := 0) (k := 3) (pc' := 47) dX0_reelAt_44 rfl rfl inX0 (by decide) qw_18 hF (fun r113 hF => ?_)
  refine jj_iload_n (j := 5) (i := 1) (pc' := 48) dX0_reelAt_47 rfl rfl rfl ?_
  refine jj_iconst (v := (3 : Int32)) (pc' := 49) dX0_reelAt_48 rfl rfl ?_
  refine jj_cI (N := M_X2_at) (kc' := 0) (ks' := 0) (pc' := 52) (jg_V (N := M_X2_at) (ci := 2) (rest := []) (as := [.int x1, .int ((3 : Int32))]) cf_X0_60 dX0_reelAt_49 ⟨rfl, rfl⟩ rfl rfl ⟨Nat.le_of_ble_eq_true rfl, Nat.le_of_ble_eq_true rfl⟩ ⟨Nat.le_of_ble_eq_true rfl, Nat.le_of_ble_eq_true rfl⟩ (Nat.le_of_ble_eq_true rfl) (fun X' hX => KX2_at hX)) rfl rfl rfl rfl ⟨Nat.le_of_ble_eq_true rfl, Nat.le_of_ble_eq_true rfl⟩ rfl hF (fun x115 h114 hF => ?_)
  refine jj_istore (i := 7) (ls' := [(7, .int x115), (6, .int x112), (5, .int x109), (4, .int x106), (3, .int x103), (0, .ref a0), (1, .int x1), (2, .int x2)]) (pc' := 54) dX0_reelAt_52 (Nat.le_of_ble_eq_true rfl) rfl rfl ?_
  refine jj_iconst (v := (0 : Int32)) (pc' := 55) dX0_reelAt_54 rfl rfl ?_
  refine jj_istore (i := 8) (ls' := [(8, .int ((0 : Int32))), (7, .int x115), (6, .int x112), (5, .int x109), (4, .int x106), (3, .int x103), (0, .ref a0), (1, .int x1), (2, .int x2)]) (pc' := 57) dX0_reelAt_55 (Nat.le_of_ble_eq_true rfl) rfl rfl ?_
  exact jj_pick [8, 4, 3, 2, 1, 0] rfl (BX0_reelAt_57 N N x2 x106 x109 x112 x115 ((0 : Int32)) h114 _ hF)
theorem KX0_reelAt {N : Nat} {a0 : Nat} {x1 : Int32} {x2 : Int32} {h : jm_H} {X : jm_X} (hF : FX0_reelAt N a0 x1 x2 h = some X) : jm_K M_X0_reelAt [.ref a0, .int x1, .int x2] h X := jk_of rfl (by decide +kernel) rfl rfl (Nat.le_of_ble_eq_true rfl) (JX0_reelAt hF)
set_option maxRecDepth 100000 in
set_option maxHeartbeats 4000000 in
theorem BX0_runningOn_2 (N : Nat) : ∀ (n : Nat) (a0 : Nat) (x1 : Int32) (x2 : Int32) (x3 : Int32) (h : jm_H) (X : jm_X), FX0_runningOn_2 N n a0 x1 x2 x3 h = some X → jm_J M_X0_runningOn 2 [(0, .ref a0), (1, .int x1), (2, .int x2), (3, .int x3)] [] h 0 0 X := by
  intro n
  induction n with
  | zero =>
    intro a0 x1 x2 x3 h X hF
    exact nomatch (show (none : Option jm_X) = some X from hF)
  | succ n ih =>
    intro a0 x1 x2 x3 h X hF
    rw [FX0_runningOn_2] at hF
    refine jj_iload_n (j := 3) (i := 3) (pc' := 3) dX0_runningOn_2 rfl rfl rfl ?_
    refine jj_aload_n (j := 0) (i := 0) (pc' := 4) dX0_runningOn_3 rfl rfl rfl ?_
    refine jj_gR (C := RX0) (T := TX0) (N := 10) (ci := 0) (k := 3) (pc' := 7) dX0_runningOn_4 rfl rfl inX0 (by decide) qw_18 hF (fun r101 hF => ?_)
    refine jj_gI (C := RX2) (T := TX2) (N := 3) (ci := 2) (k := 2) (pc' := 10) dX0_runningOn_7 rfl rfl inX2 (by decide) qw_47 hF (fun x102 hF => ?_)
    refine jj_icmp_ge (tgt := 62) (pc' := 13) dX0_runningOn_10 rfl rfl (fun hc hF => ?_) (fun hc hF => ?_) hF
    · skip
      refine jj_iconst (v := (-1 : Int32)) (pc' := 63) dX0_runningOn_62 rfl rfl ?_
      exact jj_retI (ty := .int) rfl rfl dX0_runningOn_63 ⟨Nat.le_of_ble_eq_true rfl, Nat.le_of_ble_eq_true rfl⟩ hF
    · skip
      refine jj_aload_n (j := 0) (i := 0) (pc' := 14) dX0_runningOn_13 rfl rfl rfl ?_
      refine jj_gR (C := RX0) (T := TX0) (N := 10) (ci := 0) (k := 3) (pc' := 17) dX0_runningOn_14 rfl rfl inX0 (by decide) qw_18 hF (fun r103 hF => ?_)
      refine jj_iload_n (j := 3) (i := 3) (pc' := 18) dX0_runningOn_17 rfl rfl rfl ?_
      refine jj_iconst (v := (1 : Int32)) (pc' := 19) dX0_runningOn_18 rfl rfl ?_
      refine jj_cI (N := M_X2_at) (kc' := 0) (ks' := 0) (pc' := 22) (jg_V (N := M_X2_at) (ci := 2) (rest := []) (as := [.int x3, .int ((1 : Int32))]) cf_X0_60 dX0_runningOn_19 ⟨rfl, rfl⟩ rfl rfl ⟨Nat.le_of_ble_eq_true rfl, Nat.le_of_ble_eq_true rfl⟩ ⟨Nat.le_of_ble_eq_true rfl, Nat.le_of_ble_eq_true rfl⟩ (Nat.le_of_ble_eq_true rfl) (fun X' hX => KX2_at hX)) rfl rfl rfl rfl ⟨Nat.le_of_ble_eq_true rfl, Nat.le_of_ble_eq_true rfl⟩ rfl hF (fun x105 h104 hF => ?_)
      refine jj_iload_n (j := 1) (i := 1) (pc' := 23) dX0_runningOn_22 rfl rfl rfl ?_
      refine jj_icmp_ne (tgt := 56) (pc' := 26) dX0_runningOn_23 rfl rfl (fun hc hF => ?_) (fun hc hF => ?_) hF
      · skip
        refine jj_iinc (i := 3) (j := 3) (v := x3 + (1 : Int32)) (ls' := [(3, .int (x3 + (1 : Int32))), (0, .ref a0), (1, .int x1), (2, .int x2)]) (pc' := 59) dX0_runningOn_56 rfl rfl (Nat.le_of_ble_eq_true rfl) rfl rfl ?_
        refine jj_goto (tgt := 2) dX0_runningOn_59 rfl ?_
        exact jj_pick [1, 2, 3, 0] rfl (ih a0 x1 x2 (x3 + (1 : Int32)) h104 _ hF)
      · skip
        refine jj_aload_n (j := 0) (i := 0) (pc' := 27) dX0_runningOn_26 rfl rfl rfl ?_
        refine jj_iload_n (j := 3) (i := 3) (pc' := 28) dX0_runningOn_27 rfl rfl rfl ?_
        refine jj_iload_n (j := 2) (i := 2) (pc' := 29) dX0_runningOn_28 rfl rfl rfl ?_
        refine jj_cI (N := M_X0_reelAt) (kc' := 0) (ks' := 0) (pc' := 32) (jg_V (N := M_X0_reelAt) (ci := 0) (rest := []) (as := [.int x3, .int x2]) cf_X0_145 dX0_runningOn_29 ⟨rfl, rfl⟩ rfl rfl ⟨Nat.le_of_ble_eq_true rfl, Nat.le_of_ble_eq_true rfl⟩ ⟨Nat.le_of_ble_eq_true rfl, Nat.le_of_ble_eq_true rfl⟩ (Nat.le_of_ble_eq_true rfl) (fun X' hX => KX0_reelAt hX)) rfl rfl rfl rfl ⟨Nat.le_of_ble_eq_true rfl, Nat.le_of_ble_eq_true rfl⟩ rfl hF (fun x107 h106 hF => ?_)
        refine jj_istore (i := 4) (ls' := [(4, .int x107), (0, .ref a0), (1, .int x1), (2, .int x2), (3, .int x3)]) (pc' := 34) dX0_runningOn_32 (Nat.le_of_ble_eq_true rfl) rfl rfl ?_
        refine jj_iload (j := 0) (i := 4) (pc' := 36) dX0_runningOn_34 rfl rfl ?_
        refine jj_iconst (v := (-1 : Int32)) (pc' := 37) dX0_runningOn_36 rfl rfl ?_
        refine jj_icmp_eq (tgt := 56) (pc' := 40) dX0_runningOn_37 rfl rfl (fun hc hF => ?_) (fun hc hF => ?_) hF
        · skip
          refine jj_iinc (i := 3) (j := 4) (v := x3 + (1 : Int32)) (ls' := [(3, .int (x3 + (1 : Int32))), (4, .int x107), (0, .ref a0), (1, .int x1), (2, .int x2)]) (pc' := 59) dX0_runningOn_56 rfl rfl (Nat.le_of_ble_eq_true rfl) rfl rfl ?_
          refine jj_goto (tgt := 2) dX0_runningOn_59 rfl ?_
          exact jj_pick [2, 3, 4, 0] rfl (ih a0 x1 x2 (x3 + (1 : Int32)) h106 _ hF)
        · skip
          refine jj_bipush (v := (6 : Int32)) (pc' := 42) dX0_runningOn_40 rfl rfl ?_
          refine jj_aload_n (j := 1) (i := 0) (pc' := 43) dX0_runningOn_42 rfl rfl rfl ?_
          refine jj_gR (C := RX0) (T := TX0) (N := 10) (ci := 0) (k := 3) (pc' := 46) dX0_runningOn_43 rfl rfl inX0 (by decide) qw_18 hF (fun r108 hF => ?_)
          refine jj_iload_n (j := 4) (i := 3) (pc' := 47) dX0_runningOn_46 rfl rfl rfl ?_
          refine jj_iconst (v := (0 : Int32)) (pc' := 48) dX0_runningOn_47 rfl rfl ?_
          refine jj_cI (N := M_X2_at) (kc' := 0) (ks' := 0) (pc' := 51) (jg_V (N := M_X2_at) (ci := 2) (rest := [.int ((6 : Int32))]) (as := [.int x3, .int ((0 : Int32))]) cf_X0_60 dX0_runningOn_48 ⟨rfl, rfl⟩ rfl rfl ⟨Nat.le_of_ble_eq_true rfl, Nat.le_of_ble_eq_true rfl⟩ ⟨Nat.le_of_ble_eq_true rfl, Nat.le_of_ble_eq_true rfl⟩ (Nat.le_of_ble_eq_true rfl) (fun X' hX => KX2_at hX)) rfl rfl rfl rfl ⟨Nat.le_of_ble_eq_true rfl, Nat.le_of_ble_eq_true rfl⟩ rfl hF (fun x110 h109 hF => ?_)
          refine jj_imul (pc' := 52) dX0_runningOn_51 rfl ?_
          refine jj_iload (j := 0) (i := 4) (pc' := 54) dX0_runningOn_52 rfl rfl ?_
          refine jj_iadd (pc' := 55) dX0_runningOn_54 rfl ?_
          exact jj_retI (ty := .int) rfl rfl dX0_runningOn_55 ⟨Nat.le_of_ble_eq_true rfl, Nat.le_of_ble_eq_true rfl⟩ hF
set_option maxRecDepth 100000 in
set_option maxHeartbeats 4000000 in
theorem JX0_runningOn {N : Nat} {a0 : Nat} {x1 : Int32} {x2 : Int32} {h : jm_H} {X : jm_X} (hF : FX0_runningOn N a0 x1 x2 h = some X) : jm_J M_X0_runningOn 0 [(0, .ref a0), (1, .int x1), (2, .int x2)] [] h 0 0 X := by
  unfold FX0_runningOn at hF
  refine jj_iconst (v := (0 : Int32)) (pc' := 1) dX0_runningOn_0 rfl rfl ?_
  refine jj_istore_n (i := 3) (ls' := [(3, .int ((0 : Int32))), (0, .ref a0), (1, .int x1), (2, .int x2)]) (pc' := 2) dX0_runningOn_1 rfl (Nat.le_of_ble_eq_true rfl) rfl rfl ?_
  exact jj_pick [1, 2, 3, 0] rfl (BX0_runningOn_2 N N a0 x1 x2 ((0 : Int32)) h _ hF)
theorem KX0_runningOn {N : Nat} {a0 : Nat} {x1 : Int32} {x2 : Int32} {h : jm_H} {X : jm_X} (hF : FX0_runningOn N a0 x1 x2 h = some X) : jm_K M_X0_runningOn [.ref a0, .int x1, .int x2] h X := jk_of rfl (by decide +kernel) rfl rfl (Nat.le_of_ble_eq_true rfl) (JX0_runningOn hF)
set_option maxRecDepth 100000 in
set_option maxHeartbeats 4000000 in
theorem JX3_runs {N : Nat} {a0 : Nat} {x1 : Int32} {x2 : Int32} {h : jm_H} {X : jm_X} (hF : FX3_runs N a0 x1 x2 h = some X) : jm_J M_X3_runs 0 [(0, .ref a0), (1, .int x1), (2, .int x2)] [] h 0 0 X := by
  unfold FX3_runs at hF
  refine jj_iload_n (j := 1) (i := 1) (pc' := 1) dX3_runs_0 rfl rfl rfl ?_
  refine jj_cV (N := M_X3_requireScreen) (kc' := 1) (ks' := 6) (pc' := 4) (jg_S (N := M_X3_requireScreen) (rest := []) (as := [.int x1]) cf_X3_66 rfl dX3_runs_1 rfl rfl ⟨Nat.le_of_ble_eq_true rfl, Nat.le_of_ble_eq_true rfl⟩ ⟨Nat.le_of_ble_eq_true rfl, Nat.le_of_ble_eq_true rfl⟩ (Nat.le_of_ble_eq_true rfl) (fun X' hX => KX3_requireScreen hX)) rfl rfl rfl rfl ⟨Nat.le_of_ble_eq_true rfl, Nat.le_of_ble_eq_true rfl⟩ rfl hF (fun h101 hF => ?_)
  refine jj_iload_n (j := 2) (i := 2) (pc' := 5) dX3_runs_4 rfl rfl rfl ?_
  refine jj_cV (N := M_X3_requireMinute) (kc' := 2) (ks' := 12) (pc' := 8) (jg_S (N := M_X3_requireMinute) (rest := []) (as := [.int x2]) cf_X3_88 rfl dX3_runs_5 rfl rfl ⟨Nat.le_of_ble_eq_true rfl, Nat.le_of_ble_eq_true rfl⟩ ⟨Nat.le_of_ble_eq_true rfl, Nat.le_of_ble_eq_true rfl⟩ (Nat.le_of_ble_eq_true rfl) (fun X' hX => KX3_requireMinute hX)) rfl rfl rfl rfl ⟨Nat.le_of_ble_eq_true rfl, Nat.le_of_ble_eq_true rfl⟩ rfl hF (fun h102 hF => ?_)
  refine jj_aload_n (j := 0) (i := 0) (pc' := 9) dX3_runs_8 rfl rfl rfl ?_
  refine jj_gR (C := RX3) (T := TX3) (N := 8) (ci := 3) (k := 0) (pc' := 12) dX3_runs_9 rfl rfl inX3 (by decide) qw_29 hF (fun r103 hF => ?_)
  refine jj_iload_n (j := 1) (i := 1) (pc' := 13) dX3_runs_12 rfl rfl rfl ?_
  refine jj_iload_n (j := 2) (i := 2) (pc' := 14) dX3_runs_13 rfl rfl rfl ?_
  refine jj_cI (N := M_X0_runningOn) (kc' := 2) (ks' := 12) (pc' := 17) (jg_V (N := M_X0_runningOn) (ci := 0) (rest := []) (as := [.int x1, .int x2]) cf_X3_202 dX3_runs_14 ⟨rfl, rfl⟩ rfl rfl ⟨Nat.le_of_ble_eq_true rfl, Nat.le_of_ble_eq_true rfl⟩ ⟨Nat.le_of_ble_eq_true rfl, Nat.le_of_ble_eq_true rfl⟩ (Nat.le_of_ble_eq_true rfl) (fun X' hX => KX0_runningOn hX)) rfl rfl rfl rfl ⟨Nat.le_of_ble_eq_true rfl, Nat.le_of_ble_eq_true rfl⟩ rfl hF (fun x105 h104 hF => ?_)
  exact jj_retI (ty := .int) rfl rfl dX3_runs_17 ⟨Nat.le_of_ble_eq_true rfl, Nat.le_of_ble_eq_true rfl⟩ hF
theorem KX3_runs {N : Nat} {a0 : Nat} {x1 : Int32} {x2 : Int32} {h : jm_H} {X : jm_X} (hF : FX3_runs N a0 x1 x2 h = some X) : jm_K M_X3_runs [.ref a0, .int x1, .int x2] h X := jk_of rfl (by decide +kernel) rfl rfl (Nat.le_of_ble_eq_true rfl) (JX3_runs hF)
set_option maxRecDepth 100000 in
set_option maxHeartbeats 4000000 in
theorem BX0_reckonedMinutes_4 (N : Nat) : ∀ (n : Nat) (a0 : Nat) (x1 : Int32) (x2 : Int32) (x3 : Int32) (h : jm_H) (X : jm_X), FX0_reckonedMinutes_4 N n a0 x1 x2 x3 h = some X → jm_J M_X0_reckonedMinutes 4 [(0, .ref a0), (1, .int x1), (2, .int x2), (3, .int x3)] [] h 0 0 X := by
  intro n
  induction n with
  | zero =>
    intro a0 x1 x2 x3 h X hF
    exact nomatch (show (none : Option jm_X) = some X from hF)
  | succ n ih =>
    intro a0 x1 x2 x3 h X hF
    rw [FX0_reckonedMinutes_4] at hF
    refine jj_iload_n (j := 3) (i := 3) (pc' := 5) dX0_reckonedMinutes_4 rfl rfl rfl ?_
    refine jj_aload_n (j := 0) (i := 0) (pc' := 6) dX0_reckonedMinutes_5 rfl rfl rfl ?_
    refine jj_gR (C := RX0) (T := TX0) (N := 10) (ci := 0) (k := 3) (pc' := 9) dX0_reckonedMinutes_6 rfl rfl inX0 (by decide) qw_18 hF (fun r101 hF => ?_)
    refine jj_gI (C := RX2) (T := TX2) (N := 3) (ci := 2) (k := 2) (pc' := 12) dX0_reckonedMinutes_9 rfl rfl inX2 (by decide) qw_47 hF (fun x102 hF => ?_)
    refine jj_icmp_ge (tgt := 50) (pc' := 15) dX0_reckonedMinutes_12 rfl rfl (fun hc hF => ?_) (fun hc hF => ?_) hF
    · skip
      refine jj_iload_n (j := 2) (i := 2) (pc' := 51) dX0_reckonedMinutes_50 rfl rfl rfl ?_
      exact jj_retI (ty := .int) rfl rfl dX0_reckonedMinutes_51 ⟨Nat.le_of_ble_eq_true rfl, Nat.le_of_ble_eq_true rfl⟩ hF
    · skip
      refine jj_aload_n (j := 0) (i := 0) (pc' := 16) dX0_reckonedMinutes_15 rfl rfl rfl ?_
      refine jj_gR (C := RX0) (T := TX0) (N := 10) (ci := 0) (k := 3) (pc' := 19) dX0_reckonedMinutes_16 rfl rfl inX0 (by decide) qw_18 hF (fun r103 hF => ?_)
      refine jj_iload_n (j := 3) (i := 3) (pc' := 20) dX0_reckonedMinutes_19 rfl rfl rfl ?_
      refine jj_iconst (v := (1 : Int32)) (pc' := 21) dX0_reckonedMinutes_20 rfl rfl ?_
      refine jj_cI (N := M_X2_at) (kc' := 0) (ks' := 0) (pc' := 24) (jg_V (N := M_X2_at) (ci := 2) (rest := []) (as := [.int x3, .int ((1 : Int32))]) cf_X0_60 dX0_reckonedMinutes_21 ⟨rfl, rfl⟩ rfl rfl ⟨Nat.le_of_ble_eq_true rfl, Nat.le_of_ble_eq_true rfl⟩ ⟨Nat.le_of_ble_eq_true rfl, Nat.le_of_ble_eq_true rfl⟩ (Nat.le_of_ble_eq_true rfl) (fun X' hX => KX2_at hX)) rfl rfl rfl rfl ⟨Nat.le_of_ble_eq_true rfl, Nat.le_of_ble_eq_true rfl⟩ rfl hF (fun x105 h104 hF => ?_)
      refine jj_iload_n (j := 1) (i := 1) (pc' := 25) dX0_reckonedMinutes_24 rfl rfl rfl ?_
      refine jj_icmp_ne (tgt := 44) (pc' := 28) dX0_reckonedMinutes_25 rfl rfl (fun hc hF => ?_) (fun hc hF => ?_) hF
      · skip
        refine jj_iinc (i := 3) (j := 3) (v := x3 + (1 : Int32)) (ls' := [(3, .int (x3 + (1 : Int32))), (0, .ref a0), (1, .int x1), (2, .int x2)]) (pc' := 47) dX0_reckonedMinutes_44 rfl rfl (Nat.le_of_ble_eq_true rfl) rfl rfl ?_
        refine jj_goto (tgt := 4) dX0_reckonedMinutes_47 rfl ?_
        exact jj_pick [1, 2, 3, 0] rfl (ih a0 x1 x2 (x3 + (1 : Int32)) h104 _ hF)
      · skip
        refine jj_iload_n (j := 2) (i := 2) (pc' := 29) dX0_reckonedMinutes_28 rfl rfl rfl ?_
        refine jj_aload_n (j := 0) (i := 0) (pc' := 30) dX0_reckonedMinutes_29 rfl rfl rfl ?_
        refine jj_aload_n (j := 0) (i := 0) (pc' := 31) dX0_reckonedMinutes_30 rfl rfl rfl ?_
        refine jj_gR (C := RX0) (T := TX0) (N := 10) (ci := 0) (k := 3) (pc' := 34) dX0_reckonedMinutes_31 rfl rfl inX0 (by decide) qw_18 hF (fun r106 hF => ?_)
        refine jj_iload_n (j := 3) (i := 3) (pc' := 35) dX0_reckonedMinutes_34 rfl rfl rfl ?_
        refine jj_iconst (v := (0 : Int32)) (pc' := 36) dX0_reckonedMinutes_35 rfl rfl ?_
        refine jj_cI (N := M_X2_at) (kc' := 0) (ks' := 0) (pc' := 39) (jg_V (N := M_X2_at) (ci := 2) (rest := [.ref a0, .int x2]) (as := [.int x3, .int ((0 : Int32))]) cf_X0_60 dX0_reckonedMinutes_36 ⟨rfl, rfl⟩ rfl rfl ⟨Nat.le_of_ble_eq_true rfl, Nat.le_of_ble_eq_true rfl⟩ ⟨Nat.le_of_ble_eq_true rfl, Nat.le_of_ble_eq_true rfl⟩ (Nat.le_of_ble_eq_true rfl) (fun X' hX => KX2_at hX)) rfl rfl rfl rfl ⟨Nat.le_of_ble_eq_true rfl, Nat.le_of_ble_eq_true rfl⟩ rfl hF (fun x108 h107 hF => ?_)
        refine jj_cI (N := M_X0_lengthOf) (kc' := 0) (ks' := 0) (pc' := 42) (jg_V (N := M_X0_lengthOf) (ci := 0) (rest := [.int x2]) (as := [.int x108]) cf_X0_104 dX0_reckonedMinutes_39 ⟨rfl, rfl⟩ rfl rfl ⟨Nat.le_of_ble_eq_true rfl, Nat.le_of_ble_eq_true rfl⟩ ⟨Nat.le_of_ble_eq_true rfl, Nat.le_of_ble_eq_true rfl⟩ (Nat.le_of_ble_eq_true rfl) (fun X' hX => KX0_lengthOf hX)) rfl rfl rfl rfl ⟨Nat.le_of_ble_eq_true rfl, Nat.le_of_ble_eq_true rfl⟩ rfl hF (fun x110 h109 hF => ?_)
        refine jj_iadd (pc' := 43) dX0_reckonedMinutes_42 rfl ?_
        refine jj_istore_n (i := 2) (ls' := [(2, .int (x2 + x110)), (0, .ref a0), (1, .int x1), (3, .int x3)]) (pc' := 44) dX0_reckonedMinutes_43 rfl (Nat.le_of_ble_eq_true rfl) rfl rfl ?_
        refine jj_iinc (i := 3) (j := 3) (v := x3 + (1 : Int32)) (ls' := [(3, .int (x3 + (1 : Int32))), (2, .int (x2 + x110)), (0, .ref a0), (1, .int x1)]) (pc' := 47) dX0_reckonedMinutes_44 rfl rfl (Nat.le_of_ble_eq_true rfl) rfl rfl ?_
        refine jj_goto (tgt := 4) dX0_reckonedMinutes_47 rfl ?_
        exact jj_pick [2, 3, 1, 0] rfl (ih a0 x1 (x2 + x110) (x3 + (1 : Int32)) h109 _ hF)
set_option maxRecDepth 100000 in
set_option maxHeartbeats 4000000 in
theorem JX0_reckonedMinutes {N : Nat} {a0 : Nat} {x1 : Int32} {h : jm_H} {X : jm_X} (hF : FX0_reckonedMinutes N a0 x1 h = some X) : jm_J M_X0_reckonedMinutes 0 [(0, .ref a0), (1, .int x1)] [] h 0 0 X := by
  unfold FX0_reckonedMinutes at hF
  refine jj_iconst (v := (0 : Int32)) (pc' := 1) dX0_reckonedMinutes_0 rfl rfl ?_
  refine jj_istore_n (i := 2) (ls' := [(2, .int ((0 : Int32))), (0, .ref a0), (1, .int x1)]) (pc' := 2) dX0_reckonedMinutes_1 rfl (Nat.le_of_ble_eq_true rfl) rfl rfl ?_
  refine jj_iconst (v := (0 : Int32)) (pc' := 3) dX0_reckonedMinutes_2 rfl rfl ?_
  refine jj_istore_n (i := 3) (ls' := [(3, .int ((0 : Int32))), (2, .int ((0 : Int32))), (0, .ref a0), (1, .int x1)]) (pc' := 4) dX0_reckonedMinutes_3 rfl (Nat.le_of_ble_eq_true rfl) rfl rfl ?_
  exact jj_pick [2, 3, 1, 0] rfl (BX0_reckonedMinutes_4 N N a0 x1 ((0 : Int32)) ((0 : Int32)) h _ hF)
theorem KX0_reckonedMinutes {N : Nat} {a0 : Nat} {x1 : Int32} {h : jm_H} {X : jm_X} (hF : FX0_reckonedMinutes N a0 x1 h = some X) : jm_K M_X0_reckonedMinutes [.ref a0, .int x1] h X := jk_of rfl (by decide +kernel) rfl rfl (Nat.le_of_ble_eq_true rfl) (JX0_reckonedMinutes hF)
set_option maxRecDepth 100000 in
set_option maxHeartbeats 4000000 in
theorem BX0_countedMinutes_49 (N : Nat) : ∀ (n : Nat) (a0 : Nat) (x1 : Int32) (x2 : Int32) (x3 : Int32) (x4 : Int32) (x5 : Int32) (h : jm_H) (k84 : Nat → Int32 → Int32 → Int32 → jm_H → Option jm_X) (X : jm_X), (∀ (z0 : Nat) (z1 : Int32) (z2 : Int32) (z3 : Int32) (h : jm_H) (X : jm_X), k84 z0 z1 z2 z3 h = some X → jm_J M_X0_countedMinutes 84 [(0, .ref z0), (1, .int z1), (2, .int z2), (3, .int z3)] [] h 0 0 X) → FX0_countedMinutes_49 N n a0 x1 x2 x3 x4 x5 h k84 = some X → jm_J M_X0_countedMinutes 49 [(0, .ref a0), (1, .int x1), (2, .int x2), (3, .int x3), (4, .int x4), (5, .int x5)] [] h 0 0 X := by
  intro n
  induction n with
  | zero =>
    intro a0 x1 x2 x3 x4 x5 h k84 X hk84 hF
    exact nomatch (show (none : Option jm_X) = some X from hF)
  | succ n ih =>
    intro a0 x1 x2 x3 x4 x5 h k84 X hk84 hF
    rw [FX0_countedMinutes_49] at hF
    refine jj_iload (j := 5) (i := 5) (pc' := 51) dX0_countedMinutes_49 rfl rfl ?_
    refine jj_iload (j := 4) (i := 4) (pc' := 53) dX0_countedMinutes_51 rfl rfl ?_
    refine jj_icmp_ge (tgt := 84) (pc' := 56) dX0_countedMinutes_53 rfl rfl (fun hc hF => ?_) (fun hc hF => ?_) hF
    · skip
      exact jj_pick [0, 1, 2, 3] rfl (hk84 a0 x1 x2 x3 h _ hF)
    · skip
      refine jj_iload (j := 5) (i := 5) (pc' := 58) dX0_countedMinutes_56 rfl rfl ?_
      refine jj_sipush (v := (2000 : Int32)) (pc' := 61) dX0_countedMinutes_58 rfl rfl ?_
      refine jj_icmp_ge (tgt := 84) (pc' := 64) dX0_countedMinutes_61 rfl rfl (fun hc hF => ?_) (fun hc hF => ?_) hF
      · skip
        exact jj_pick [0, 1, 2, 3] rfl (hk84 a0 x1 x2 x3 h _ hF)
      · skip
        refine jj_aload_n (j := 0) (i := 0) (pc' := 65) dX0_countedMinutes_64 rfl rfl rfl ?_
        refine jj_iload_n (j := 3) (i := 3) (pc' := 66) dX0_countedMinutes_65 rfl rfl rfl ?_
        refine jj_iload (j := 5) (i := 5) (pc' := 68) dX0_countedMinutes_66 rfl rfl ?_
        refine jj_cI (N := M_X0_reelAt) (kc' := 0) (ks' := 0) (pc' := 71) (jg_V (N := M_X0_reelAt) (ci := 0) (rest := []) (as := [.int x3, .int x5]) cf_X0_145 dX0_countedMinutes_68 ⟨rfl, rfl⟩ rfl rfl ⟨Nat.le_of_ble_eq_true rfl, Nat.le_of_ble_eq_true rfl⟩ ⟨Nat.le_of_ble_eq_true rfl, Nat.le_of_ble_eq_true rfl⟩ (Nat.le_of_ble_eq_true rfl) (fun X' hX => KX0_reelAt hX)) rfl rfl rfl rfl ⟨Nat.le_of_ble_eq_true rfl, Nat.le_of_ble_eq_true rfl⟩ rfl hF (fun x102 h101 hF => ?_)
        refine jj_iconst (v := (-1 : Int32)) (pc' := 72) dX0_countedMinutes_71 rfl rfl ?_
        refine jj_icmp_eq (tgt := 78) (pc' := 75) dX0_countedMinutes_72 rfl rfl (fun hc hF => ?_) (fun hc hF => ?_) hF
        · skip
          refine jj_iinc (i := 5) (j := 5) (v := x5 + (1 : Int32)) (ls' := [(5, .int (x5 + (1 : Int32))), (0, .ref a0), (1, .int x1), (2, .int x2), (3, .int x3), (4, .int x4)]) (pc' := 81) dX0_countedMinutes_78 rfl rfl (Nat.le_of_ble_eq_true rfl) rfl rfl ?_
          refine jj_goto (tgt := 49) dX0_countedMinutes_81 rfl ?_
          exact jj_pick [1, 2, 3, 4, 5, 0] rfl (ih a0 x1 x2 x3 x4 (x5 + (1 : Int32)) h101 k84 _ hk84 hF)
        · skip
          refine jj_iinc (i := 2) (j := 2) (v := x2 + (1 : Int32)) (ls' := [(2, .int (x2 + (1 : Int32))), (0, .ref a0), (1, .int x1), (3, .int x3), (4, .int x4), (5, .int x5)]) (pc' := 78) dX0_countedMinutes_75 rfl rfl (Nat.le_of_ble_eq_true rfl) rfl rfl ?_
          refine jj_iinc (i := 5) (j := 5) (v := x5 + (1 : Int32)) (ls' := [(5, .int (x5 + (1 : Int32))), (2, .int (x2 + (1 : Int32))), (0, .ref a0), (1, .int x1), (3, .int x3), (4, .int x4)]) (pc' := 81) dX0_countedMinutes_78 rfl rfl (Nat.le_of_ble_eq_true rfl) rfl rfl ?_
          refine jj_goto (tgt := 49) dX0_countedMinutes_81 rfl ?_
          exact jj_pick [2, 3, 1, 4, 5, 0] rfl (ih a0 x1 (x2 + (1 : Int32)) x3 x4 (x5 + (1 : Int32)) h101 k84 _ hk84 hF)
set_option maxRecDepth 100000 in
set_option maxHeartbeats 4000000 in
theorem BX0_countedMinutes_4 (N : Nat) : ∀ (n : Nat) (a0 : Nat) (x1 : Int32) (x2 : Int32) (x3 : Int32) (h : jm_H) (X : jm_X), FX0_countedMinutes_4 N n a0 x1 x2 x3 h = some X → jm_J M_X0_countedMinutes 4 [(0, .ref a0), (1, .int x1), (2, .int x2), (3, .int x3)] [] h 0 0 X := by
  intro n
  induction n with
  | zero =>
    intro a0 x1 x2 x3 h X hF
    exact nomatch (show (none : Option jm_X) = some X from hF)
  | succ n ih =>
    intro a0 x1 x2 x3 h X hF
    rw [FX0_countedMinutes_4] at hF
    refine jj_iload_n (j := 3) (i := 3) (pc' := 5) dX0_countedMinutes_4 rfl rfl rfl ?_
    refine jj_aload_n (j := 0) (i := 0) (pc' := 6) dX0_countedMinutes_5 rfl rfl rfl ?_
    refine jj_gR (C := RX0) (T := TX0) (N := 10) (ci := 0) (k := 3) (pc' := 9) dX0_countedMinutes_6 rfl rfl inX0 (by decide) qw_18 hF (fun r101 hF => ?_)
    refine jj_gI (C := RX2) (T := TX2) (N := 3) (ci := 2) (k := 2) (pc' := 12) dX0_countedMinutes_9 rfl rfl inX2 (by decide) qw_47 hF (fun x102 hF => ?_)
    refine jj_icmp_ge (tgt := 90) (pc' := 15) dX0_countedMinutes_12 rfl rfl (fun hc hF => ?_) (fun hc hF => ?_) hF
    · skip
      refine jj_iload_n (j := 2) (i := 2) (pc' := 91) dX0_countedMinutes_90 rfl rfl rfl ?_
      exact jj_retI (ty := .int) rfl rfl dX0_countedMinutes_91 ⟨Nat.le_of_ble_eq_true rfl, Nat.le_of_ble_eq_true rfl⟩ hF
    · skip
      refine jj_aload_n (j := 0) (i := 0) (pc' := 16) dX0_countedMinutes_15 rfl rfl rfl ?_
      refine jj_gR (C := RX0) (T := TX0) (N := 10) (ci := 0) (k := 3) (pc' := 19) dX0_countedMinutes_16 rfl rfl inX0 (by decide) qw_18 hF (fun r103 hF => ?_)
      refine jj_iload_n (j := 3) (i := 3) (pc' := 20) dX0_countedMinutes_19 rfl rfl rfl ?_
      refine jj_iconst (v := (1 : Int32)) (pc' := 21) dX0_countedMinutes_20 rfl rfl ?_
      refine jj_cI (N := M_X2_at) (kc' := 0) (ks' := 0) (pc' := 24) (jg_V (N := M_X2_at) (ci := 2) (rest := []) (as := [.int x3, .int ((1 : Int32))]) cf_X0_60 dX0_countedMinutes_21 ⟨rfl, rfl⟩ rfl rfl ⟨Nat.le_of_ble_eq_true rfl, Nat.le_of_ble_eq_true rfl⟩ ⟨Nat.le_of_ble_eq_true rfl, Nat.le_of_ble_eq_true rfl⟩ (Nat.le_of_ble_eq_true rfl) (fun X' hX => KX2_at hX)) rfl rfl rfl rfl ⟨Nat.le_of_ble_eq_true rfl, Nat.le_of_ble_eq_true rfl⟩ rfl hF (fun x105 h104 hF => ?_)
      refine jj_iload_n (j := 1) (i := 1) (pc' := 25) dX0_countedMinutes_24 rfl rfl rfl ?_
      refine jj_icmp_eq (tgt := 31) (pc' := 28) dX0_countedMinutes_25 rfl rfl (fun hc hF => ?_) (fun hc hF => ?_) hF
      · skip
        refine jj_aload_n (j := 0) (i := 0) (pc' := 32) dX0_countedMinutes_31 rfl rfl rfl ?_
        refine jj_iload_n (j := 3) (i := 3) (pc' := 33) dX0_countedMinutes_32 rfl rfl rfl ?_
        refine jj_cI (N := M_X0_endOf) (kc' := 0) (ks' := 0) (pc' := 36) (jg_V (N := M_X0_endOf) (ci := 0) (rest := []) (as := [.int x3]) cf_X0_87 dX0_countedMinutes_33 ⟨rfl, rfl⟩ rfl rfl ⟨Nat.le_of_ble_eq_true rfl, Nat.le_of_ble_eq_true rfl⟩ ⟨Nat.le_of_ble_eq_true rfl, Nat.le_of_ble_eq_true rfl⟩ (Nat.le_of_ble_eq_true rfl) (fun X' hX => KX0_endOf hX)) rfl rfl rfl rfl ⟨Nat.le_of_ble_eq_true rfl, Nat.le_of_ble_eq_true rfl⟩ rfl hF (fun x107 h106 hF => ?_)
        refine jj_istore (i := 4) (ls' := [(4, .int x107), (0, .ref a0), (1, .int x1), (2, .int x2), (3, .int x3)]) (pc' := 38) dX0_countedMinutes_36 (Nat.le_of_ble_eq_true rfl) rfl rfl ?_
        refine jj_aload_n (j := 1) (i := 0) (pc' := 39) dX0_countedMinutes_38 rfl rfl rfl ?_
        refine jj_gR (C := RX0) (T := TX0) (N := 10) (ci := 0) (k := 3) (pc' := 42) dX0_countedMinutes_39 rfl rfl inX0 (by decide) qw_18 hF (fun r108 hF => ?_)
        refine jj_iload_n (j := 4) (i := 3) (pc' := 43) dX0_countedMinutes_42 rfl rfl rfl ?_
        refine jj_iconst (v := (2 : Int32)) (pc' := 44) dX0_countedMinutes_43 rfl rfl ?_
        refine jj_cI (N := M_X2_at) (kc' := 0) (ks' := 0) (pc' := 47) (jg_V (N := M_X2_at) (ci := 2) (rest := []) (as := [.int x3, .int ((2 : Int32))]) cf_X0_60 dX0_countedMinutes_44 ⟨rfl, rfl⟩ rfl rfl ⟨Nat.le_of_ble_eq_true rfl, Nat.le_of_ble_eq_true rfl⟩ ⟨Nat.le_of_ble_eq_true rfl, Nat.le_of_ble_eq_true rfl⟩ (Nat.le_of_ble_eq_true rfl) (fun X' hX => KX2_at hX)) rfl rfl rfl rfl ⟨Nat.le_of_ble_eq_true rfl, Nat.le_of_ble_eq_true rfl⟩ rfl hF (fun x110 h109 hF => ?_)
        refine jj_istore (i := 5) (ls' := [(5, .int x110), (4, .int x107), (0, .ref a0), (1, .int x1), (2, .int x2), (3, .int x3)]) (pc' := 49) dX0_countedMinutes_47 (Nat.le_of_ble_eq_true rfl) rfl rfl ?_
        refine jj_pick [2, 3, 4, 5, 1, 0] rfl (BX0_countedMinutes_49 N N a0 x1 x2 x3 x107 x110 h109 _ _ ?_ hF)
        · intro a111 x112 x113 x114 h115 X hF
          refine jj_iinc (i := 3) (j := 3) (v := x114 + (1 : Int32)) (ls' := [(3, .int (x114 + (1 : Int32))), (0, .ref a111), (1, .int x112), (2, .int x113)]) (pc' := 87) dX0_countedMinutes_84 rfl rfl (Nat.le_of_ble_eq_true rfl) rfl rfl ?_
          refine jj_goto (tgt := 4) dX0_countedMinutes_87 rfl ?_
          exact jj_pick [1, 2, 3, 0] rfl (ih a111 x112 x113 (x114 + (1 : Int32)) h115 _ hF)
      · skip
        refine jj_goto (tgt := 84) dX0_countedMinutes_28 rfl ?_
        refine jj_iinc (i := 3) (j := 3) (v := x3 + (1 : Int32)) (ls' := [(3, .int (x3 + (1 : Int32))), (0, .ref a0), (1, .int x1), (2, .int x2)]) (pc' := 87) dX0_countedMinutes_84 rfl rfl (Nat.le_of_ble_eq_true rfl) rfl rfl ?_
        refine jj_goto (tgt := 4) dX0_countedMinutes_87 rfl ?_
        exact jj_pick [1, 2, 3, 0] rfl (ih a0 x1 x2 (x3 + (1 : Int32)) h104 _ hF)
set_option maxRecDepth 100000 in
set_option maxHeartbeats 4000000 in
theorem JX0_countedMinutes {N : Nat} {a0 : Nat} {x1 : Int32} {h : jm_H} {X : jm_X} (hF : FX0_countedMinutes N a0 x1 h = some X) : jm_J M_X0_countedMinutes 0 [(0, .ref a0), (1, .int x1)] [] h 0 0 X := by
  unfold FX0_countedMinutes at hF
  refine jj_iconst (v := (0 : Int32)) (pc' := 1) dX0_countedMinutes_0 rfl rfl ?_
  refine jj_istore_n (i := 2) (ls' := [(2, .int ((0 : Int32))), (0, .ref a0), (1, .int x1)]) (pc' := 2) dX0_countedMinutes_1 rfl (Nat.le_of_ble_eq_true rfl) rfl rfl ?_
  refine jj_iconst (v := (0 : Int32)) (pc' := 3) dX0_countedMinutes_2 rfl rfl ?_
  refine jj_istore_n (i := 3) (ls' := [(3, .int ((0 : Int32))), (2, .int ((0 : Int32))), (0, .ref a0), (1, .int x1)]) (pc' := 4) dX0_countedMinutes_3 rfl (Nat.le_of_ble_eq_true rfl) rfl rfl ?_
  exact jj_pick [2, 3, 1, 0] rfl (BX0_countedMinutes_4 N N a0 x1 ((0 : Int32)) ((0 : Int32)) h _ hF)
theorem KX0_countedMinutes {N : Nat} {a0 : Nat} {x1 : Int32} {h : jm_H} {X : jm_X} (hF : FX0_countedMinutes N a0 x1 h = some X) : jm_K M_X0_countedMinutes [.ref a0, .int x1] h X := jk_of rfl (by decide +kernel) rfl rfl (Nat.le_of_ble_eq_true rfl) (JX0_countedMinutes hF)
set_option maxRecDepth 100000 in
set_option maxHeartbeats 4000000 in
theorem BX0_lastEnd_4 (N : Nat) : ∀ (n : Nat) (a0 : Nat) (x1 : Int32) (x2 : Int32) (x3 : Int32) (h : jm_H) (X : jm_X), FX0_lastEnd_4 N n a0 x1 x2 x3 h = some X → jm_J M_X0_lastEnd 4 [(0, .ref a0), (1, .int x1), (2, .int x2), (3, .int x3)] [] h 0 0 X := by
  intro n
  induction n with
  | zero =>
    intro a0 x1 x2 x3 h X hF
    exact nomatch (show (none : Option jm_X) = some X from hF)
  | succ n ih =>
    intro a0 x1 x2 x3 h X hF
    rw [FX0_lastEnd_4] at hF
    refine jj_iload_n (j := 3) (i := 3) (pc' := 5) dX0_lastEnd_4 rfl rfl rfl ?_
    refine jj_aload_n (j := 0) (i := 0) (pc' := 6) dX0_lastEnd_5 rfl rfl rfl ?_
    refine jj_gR (C := RX0) (T := TX0) (N := 10) (ci := 0) (k := 3) (pc' := 9) dX0_lastEnd_6 rfl rfl inX0 (by decide) qw_18 hF (fun r101 hF => ?_)
    refine jj_gI (C := RX2) (T := TX2) (N := 3) (ci := 2) (k := 2) (pc' := 12) dX0_lastEnd_9 rfl rfl inX2 (by decide) qw_47 hF (fun x102 hF => ?_)
    refine jj_icmp_ge (tgt := 44) (pc' := 15) dX0_lastEnd_12 rfl rfl (fun hc hF => ?_) (fun hc hF => ?_) hF
    · skip
      refine jj_iload_n (j := 2) (i := 2) (pc' := 45) dX0_lastEnd_44 rfl rfl rfl ?_
      exact jj_retI (ty := .int) rfl rfl dX0_lastEnd_45 ⟨Nat.le_of_ble_eq_true rfl, Nat.le_of_ble_eq_true rfl⟩ hF
    · skip
      refine jj_aload_n (j := 0) (i := 0) (pc' := 16) dX0_lastEnd_15 rfl rfl rfl ?_
      refine jj_gR (C := RX0) (T := TX0) (N := 10) (ci := 0) (k := 3) (pc' := 19) dX0_lastEnd_16 rfl rfl inX0 (by decide) qw_18 hF (fun r103 hF => ?_)
      refine jj_iload_n (j := 3) (i := 3) (pc' := 20) dX0_lastEnd_19 rfl rfl rfl ?_
      refine jj_iconst (v := (1 : Int32)) (pc' := 21) dX0_lastEnd_20 rfl rfl ?_
      refine jj_cI (N := M_X2_at) (kc' := 0) (ks' := 0) (pc' := 24) (jg_V (N := M_X2_at) (ci := 2) (rest := []) (as := [.int x3, .int ((1 : Int32))]) cf_X0_60 dX0_lastEnd_21 ⟨rfl, rfl⟩ rfl rfl ⟨Nat.le_of_ble_eq_true rfl, Nat.le_of_ble_eq_true rfl⟩ ⟨Nat.le_of_ble_eq_true rfl, Nat.le_of_ble_eq_true rfl⟩ (Nat.le_of_ble_eq_true rfl) (fun X' hX => KX2_at hX)) rfl rfl rfl rfl ⟨Nat.le_of_ble_eq_true rfl, Nat.le_of_ble_eq_true rfl⟩ rfl hF (fun x105 h104 hF => ?_)
      refine jj_iload_n (j := 1) (i := 1) (pc' := 25) dX0_lastEnd_24 rfl rfl rfl ?_
      refine jj_icmp_ne (tgt := 38) (pc' := 28) dX0_lastEnd_25 rfl rfl (fun hc hF => ?_) (fun hc hF => ?_) hF
      · skip
        refine jj_iinc (i := 3) (j := 3) (v := x3 + (1 : Int32)) (ls' := [(3, .int (x3 + (1 : Int32))), (0, .ref a0), (1, .int x1), (2, .int x2)]) (pc' := 41) dX0_lastEnd_38 rfl rfl (Nat.le_of_ble_eq_true rfl) rfl rfl ?_
        refine jj_goto (tgt := 4) dX0_lastEnd_41 rfl ?_
        exact jj_pick [1, 2, 3, 0] rfl (ih a0 x1 x2 (x3 + (1 : Int32)) h104 _ hF)
      · skip
        refine jj_iload_n (j := 2) (i := 2) (pc' := 29) dX0_lastEnd_28 rfl rfl rfl ?_
        refine jj_aload_n (j := 0) (i := 0) (pc' := 30) dX0_lastEnd_29 rfl rfl rfl ?_
        refine jj_iload_n (j := 3) (i := 3) (pc' := 31) dX0_lastEnd_30 rfl rfl rfl ?_
        refine jj_cI (N := M_X0_endOf) (kc' := 0) (ks' := 0) (pc' := 34) (jg_V (N := M_X0_endOf) (ci := 0) (rest := [.int x2]) (as := [.int x3]) cf_X0_87 dX0_lastEnd_31 ⟨rfl, rfl⟩ rfl rfl ⟨Nat.le_of_ble_eq_true rfl, Nat.le_of_ble_eq_true rfl⟩ ⟨Nat.le_of_ble_eq_true rfl, Nat.le_of_ble_eq_true rfl⟩ (Nat.le_of_ble_eq_true rfl) (fun X' hX => KX0_endOf hX)) rfl rfl rfl rfl ⟨Nat.le_of_ble_eq_true rfl, Nat.le_of_ble_eq_true rfl⟩ rfl hF (fun x107 h106 hF => ?_)
        refine jj_max (pc' := 37) dX0_lastEnd_34 rfl ⟨qw_65, qw_5, qw_6, qw_7⟩ ⟨Nat.le_of_ble_eq_true rfl, Nat.le_of_ble_eq_true rfl⟩ ⟨Nat.le_of_ble_eq_true rfl, Nat.le_of_ble_eq_true rfl⟩ ?_
        refine jj_istore_n (i := 2) (ls' := [(2, .int (if x2 < x107 then x107 else x2)), (0, .ref a0), (1, .int x1), (3, .int x3)]) (pc' := 38) dX0_lastEnd_37 rfl (Nat.le_of_ble_eq_true rfl) rfl rfl ?_
        refine jj_iinc (i := 3) (j := 3) (v := x3 + (1 : Int32)) (ls' := [(3, .int (x3 + (1 : Int32))), (2, .int (if x2 < x107 then x107 else x2)), (0, .ref a0), (1, .int x1)]) (pc' := 41) dX0_lastEnd_38 rfl rfl (Nat.le_of_ble_eq_true rfl) rfl rfl ?_
        refine jj_goto (tgt := 4) dX0_lastEnd_41 rfl ?_
        exact jj_pick [2, 3, 1, 0] rfl (ih a0 x1 (if x2 < x107 then x107 else x2) (x3 + (1 : Int32)) h106 _ hF)
set_option maxRecDepth 100000 in
set_option maxHeartbeats 4000000 in
theorem JX0_lastEnd {N : Nat} {a0 : Nat} {x1 : Int32} {h : jm_H} {X : jm_X} (hF : FX0_lastEnd N a0 x1 h = some X) : jm_J M_X0_lastEnd 0 [(0, .ref a0), (1, .int x1)] [] h 0 0 X := by
  unfold FX0_lastEnd at hF
  refine jj_iconst (v := (-1 : Int32)) (pc' := 1) dX0_lastEnd_0 rfl rfl ?_
  refine jj_istore_n (i := 2) (ls' := [(2, .int ((-1 : Int32))), (0, .ref a0), (1, .int x1)]) (pc' := 2) dX0_lastEnd_1 rfl (Nat.le_of_ble_eq_true rfl) rfl rfl ?_
  refine jj_iconst (v := (0 : Int32)) (pc' := 3) dX0_lastEnd_2 rfl rfl ?_
  refine jj_istore_n (i := 3) (ls' := [(3, .int ((0 : Int32))), (2, .int ((-1 : Int32))), (0, .ref a0), (1, .int x1)]) (pc' := 4) dX0_lastEnd_3 rfl (Nat.le_of_ble_eq_true rfl) rfl rfl ?_
  exact jj_pick [2, 3, 1, 0] rfl (BX0_lastEnd_4 N N a0 x1 ((-1 : Int32)) ((0 : Int32)) h _ hF)
theorem KX0_lastEnd {N : Nat} {a0 : Nat} {x1 : Int32} {h : jm_H} {X : jm_X} (hF : FX0_lastEnd N a0 x1 h = some X) : jm_K M_X0_lastEnd [.ref a0, .int x1] h X := jk_of rfl (by decide +kernel) rfl rfl (Nat.le_of_ble_eq_true rfl) (JX0_lastEnd hF)
set_option maxRecDepth 100000 in
set_option maxHeartbeats 4000000 in
theorem JX0_screenNumber {N : Nat} {a0 : Nat} {x1 : Int32} {x2 : Int32} {h : jm_H} {X : jm_X} (hF : FX0_screenNumber N a0 x1 x2 h = some X) : jm_J M_X0_screenNumber 0 [(0, .ref a0), (1, .int x1), (2, .int x2)] [] h 0 0 X := by
  unfold FX0_screenNumber at hF
  refine jj_iload_n (j := 2) (i := 2) (pc' := 1) dX0_screenNumber_0 rfl rfl rfl ?_
  refine jj_table (N := 4) (lo := 0) (dt := 61) [32, 42, 49, 55] dX0_screenNumber_1 ⟨by decide, by decide⟩ ⟨by decide, by decide, rfl, rfl⟩ (by decide) rfl ?_ (fun hF => ?_) hF
  · intro i b tg hb ht hx hF
    match i, hb, ht with
    | 0, hb, ht =>
      cases hb; cases ht
      refine jj_aload_n (j := 0) (i := 0) (pc' := 33) dX0_screenNumber_32 rfl rfl rfl ?_
      refine jj_gR (C := RX0) (T := TX0) (N := 10) (ci := 0) (k := 1) (pc' := 36) dX0_screenNumber_33 rfl rfl inX0 (by decide) qw_16 hF (fun r101 hF => ?_)
      refine jj_iload_n (j := 1) (i := 1) (pc' := 37) dX0_screenNumber_36 rfl rfl rfl ?_
      refine jj_iconst (v := (0 : Int32)) (pc' := 38) dX0_screenNumber_37 rfl rfl ?_
      refine jj_cI (N := M_X2_at) (kc' := 0) (ks' := 0) (pc' := 41) (jg_V (N := M_X2_at) (ci := 2) (rest := []) (as := [.int x1, .int ((0 : Int32))]) cf_X0_60 dX0_screenNumber_38 ⟨rfl, rfl⟩ rfl rfl ⟨Nat.le_of_ble_eq_true rfl, Nat.le_of_ble_eq_true rfl⟩ ⟨Nat.le_of_ble_eq_true rfl, Nat.le_of_ble_eq_true rfl⟩ (Nat.le_of_ble_eq_true rfl) (fun X' hX => KX2_at hX)) rfl rfl rfl rfl ⟨Nat.le_of_ble_eq_true rfl, Nat.le_of_ble_eq_true rfl⟩ rfl hF (fun x103 h102 hF => ?_)
      exact jj_retI (ty := .int) rfl rfl dX0_screenNumber_41 ⟨Nat.le_of_ble_eq_true rfl, Nat.le_of_ble_eq_true rfl⟩ hF
    | 1, hb, ht =>
      cases hb; cases ht
      refine jj_aload_n (j := 0) (i := 0) (pc' := 43) dX0_screenNumber_42 rfl rfl rfl ?_
      refine jj_iconst (v := (1 : Int32)) (pc' := 44) dX0_screenNumber_43 rfl rfl ?_
      refine jj_iload_n (j := 1) (i := 1) (pc' := 45) dX0_screenNumber_44 rfl rfl rfl ?_
      refine jj_cI (N := M_X0_showingsWith) (kc' := 0) (ks' := 0) (pc' := 48) (jg_V (N := M_X0_showingsWith) (ci := 0) (rest := []) (as := [.int ((1 : Int32)), .int x1]) cf_X0_139 dX0_screenNumber_45 ⟨rfl, rfl⟩ rfl rfl ⟨Nat.le_of_ble_eq_true rfl, Nat.le_of_ble_eq_true rfl⟩ ⟨Nat.le_of_ble_eq_true rfl, Nat.le_of_ble_eq_true rfl⟩ (Nat.le_of_ble_eq_true rfl) (fun X' hX => KX0_showingsWith hX)) rfl rfl rfl rfl ⟨Nat.le_of_ble_eq_true rfl, Nat.le_of_ble_eq_true rfl⟩ rfl hF (fun x105 h104 hF => ?_)
      exact jj_retI (ty := .int) rfl rfl dX0_screenNumber_48 ⟨Nat.le_of_ble_eq_true rfl, Nat.le_of_ble_eq_true rfl⟩ hF
    | 2, hb, ht =>
      cases hb; cases ht
      refine jj_aload_n (j := 0) (i := 0) (pc' := 50) dX0_screenNumber_49 rfl rfl rfl ?_
      refine jj_iload_n (j := 1) (i := 1) (pc' := 51) dX0_screenNumber_50 rfl rfl rfl ?_
      refine jj_cI (N := M_X0_reckonedMinutes) (kc' := 0) (ks' := 0) (pc' := 54) (jg_V (N := M_X0_reckonedMinutes) (ci := 0) (rest := []) (as := [.int x1]) cf_X0_148 dX0_screenNumber_51 ⟨rfl, rfl⟩ rfl rfl ⟨Nat.le_of_ble_eq_true rfl, Nat.le_of_ble_eq_true rfl⟩ ⟨Nat.le_of_ble_eq_true rfl, Nat.le_of_ble_eq_true rfl⟩ (Nat.le_of_ble_eq_true rfl) (fun X' hX => KX0_reckonedMinutes hX)) rfl rfl rfl rfl ⟨Nat.le_of_ble_eq_true rfl, Nat.le_of_ble_eq_true rfl⟩ rfl hF (fun x107 h106 hF => ?_)
      exact jj_retI (ty := .int) rfl rfl dX0_screenNumber_54 ⟨Nat.le_of_ble_eq_true rfl, Nat.le_of_ble_eq_true rfl⟩ hF
    | 3, hb, ht =>
      cases hb; cases ht
      refine jj_aload_n (j := 0) (i := 0) (pc' := 56) dX0_screenNumber_55 rfl rfl rfl ?_
      refine jj_iload_n (j := 1) (i := 1) (pc' := 57) dX0_screenNumber_56 rfl rfl rfl ?_
      refine jj_cI (N := M_X0_countedMinutes) (kc' := 0) (ks' := 0) (pc' := 60) (jg_V (N := M_X0_countedMinutes) (ci := 0) (rest := []) (as := [.int x1]) cf_X0_151 dX0_screenNumber_57 ⟨rfl, rfl⟩ rfl rfl ⟨Nat.le_of_ble_eq_true rfl, Nat.le_of_ble_eq_true rfl⟩ ⟨Nat.le_of_ble_eq_true rfl, Nat.le_of_ble_eq_true rfl⟩ (Nat.le_of_ble_eq_true rfl) (fun X' hX => KX0_countedMinutes hX)) rfl rfl rfl rfl ⟨Nat.le_of_ble_eq_true rfl, Nat.le_of_ble_eq_true rfl⟩ rfl hF (fun x109 h108 hF => ?_)
      exact jj_retI (ty := .int) rfl rfl dX0_screenNumber_60 ⟨Nat.le_of_ble_eq_true rfl, Nat.le_of_ble_eq_true rfl⟩ hF
    | i + 4, hb, ht => exact nomatch (show (none : Option (Option jm_X)) = some b from hb)
  · skip
    refine jj_aload_n (j := 0) (i := 0) (pc' := 62) dX0_screenNumber_61 rfl rfl rfl ?_
    refine jj_iload_n (j := 1) (i := 1) (pc' := 63) dX0_screenNumber_62 rfl rfl rfl ?_
    refine jj_cI (N := M_X0_lastEnd) (kc' := 0) (ks' := 0) (pc' := 66) (jg_V (N := M_X0_lastEnd) (ci := 0) (rest := []) (as := [.int x1]) cf_X0_154 dX0_screenNumber_63 ⟨rfl, rfl⟩ rfl rfl ⟨Nat.le_of_ble_eq_true rfl, Nat.le_of_ble_eq_true rfl⟩ ⟨Nat.le_of_ble_eq_true rfl, Nat.le_of_ble_eq_true rfl⟩ (Nat.le_of_ble_eq_true rfl) (fun X' hX => KX0_lastEnd hX)) rfl rfl rfl rfl ⟨Nat.le_of_ble_eq_true rfl, Nat.le_of_ble_eq_true rfl⟩ rfl hF (fun x111 h110 hF => ?_)
    exact jj_retI (ty := .int) rfl rfl dX0_screenNumber_66 ⟨Nat.le_of_ble_eq_true rfl, Nat.le_of_ble_eq_true rfl⟩ hF
theorem KX0_screenNumber {N : Nat} {a0 : Nat} {x1 : Int32} {x2 : Int32} {h : jm_H} {X : jm_X} (hF : FX0_screenNumber N a0 x1 x2 h = some X) : jm_K M_X0_screenNumber [.ref a0, .int x1, .int x2] h X := jk_of rfl (by decide +kernel) rfl rfl (Nat.le_of_ble_eq_true rfl) (JX0_screenNumber hF)
set_option maxRecDepth 100000 in
set_option maxHeartbeats 4000000 in
theorem JX3_screen {N : Nat} {a0 : Nat} {x1 : Int32} {x2 : Int32} {h : jm_H} {X : jm_X} (hF : FX3_screen N a0 x1 x2 h = some X) : jm_J M_X3_screen 0 [(0, .ref a0), (1, .int x1), (2, .int x2)] [] h 0 0 X := by
  unfold FX3_screen at hF
  refine jj_iload_n (j := 1) (i := 1) (pc' := 1) dX3_screen_0 rfl rfl rfl ?_
  refine jj_cV (N := M_X3_requireScreen) (kc' := 1) (ks' := 6) (pc' := 4) (jg_S (N := M_X3_requireScreen) (rest := []) (as := [.int x1]) cf_X3_66 rfl dX3_screen_1 rfl rfl ⟨Nat.le_of_ble_eq_true rfl, Nat.le_of_ble_eq_true rfl⟩ ⟨Nat.le_of_ble_eq_true rfl, Nat.le_of_ble_eq_true rfl⟩ (Nat.le_of_ble_eq_true rfl) (fun X' hX => KX3_requireScreen hX)) rfl rfl rfl rfl ⟨Nat.le_of_ble_eq_true rfl, Nat.le_of_ble_eq_true rfl⟩ rfl hF (fun h101 hF => ?_)
  refine jj_iload_n (j := 2) (i := 2) (pc' := 5) dX3_screen_4 rfl rfl rfl ?_
  refine jj_iconst (v := (4 : Int32)) (pc' := 6) dX3_screen_5 rfl rfl ?_
  refine jj_cV (N := M_X3_requireWhat) (kc' := 2) (ks' := 12) (pc' := 9) (jg_S (N := M_X3_requireWhat) (rest := []) (as := [.int x2, .int ((4 : Int32))]) cf_X3_171 rfl dX3_screen_6 rfl rfl ⟨Nat.le_of_ble_eq_true rfl, Nat.le_of_ble_eq_true rfl⟩ ⟨Nat.le_of_ble_eq_true rfl, Nat.le_of_ble_eq_true rfl⟩ (Nat.le_of_ble_eq_true rfl) (fun X' hX => KX3_requireWhat hX)) rfl rfl rfl rfl ⟨Nat.le_of_ble_eq_true rfl, Nat.le_of_ble_eq_true rfl⟩ rfl hF (fun h102 hF => ?_)
  refine jj_aload_n (j := 0) (i := 0) (pc' := 10) dX3_screen_9 rfl rfl rfl ?_
  refine jj_gR (C := RX3) (T := TX3) (N := 8) (ci := 3) (k := 0) (pc' := 13) dX3_screen_10 rfl rfl inX3 (by decide) qw_29 hF (fun r103 hF => ?_)
  refine jj_iload_n (j := 1) (i := 1) (pc' := 14) dX3_screen_13 rfl rfl rfl ?_
  refine jj_iload_n (j := 2) (i := 2) (pc' := 15) dX3_screen_14 rfl rfl rfl ?_
  refine jj_cI (N := M_X0_screenNumber) (kc' := 2) (ks' := 12) (pc' := 18) (jg_V (N := M_X0_screenNumber) (ci := 0) (rest := []) (as := [.int x1, .int x2]) cf_X3_205 dX3_screen_15 ⟨rfl, rfl⟩ rfl rfl ⟨Nat.le_of_ble_eq_true rfl, Nat.le_of_ble_eq_true rfl⟩ ⟨Nat.le_of_ble_eq_true rfl, Nat.le_of_ble_eq_true rfl⟩ (Nat.le_of_ble_eq_true rfl) (fun X' hX => KX0_screenNumber hX)) rfl rfl rfl rfl ⟨Nat.le_of_ble_eq_true rfl, Nat.le_of_ble_eq_true rfl⟩ rfl hF (fun x105 h104 hF => ?_)
  exact jj_retI (ty := .int) rfl rfl dX3_screen_18 ⟨Nat.le_of_ble_eq_true rfl, Nat.le_of_ble_eq_true rfl⟩ hF
theorem KX3_screen {N : Nat} {a0 : Nat} {x1 : Int32} {x2 : Int32} {h : jm_H} {X : jm_X} (hF : FX3_screen N a0 x1 x2 h = some X) : jm_K M_X3_screen [.ref a0, .int x1, .int x2] h X := jk_of rfl (by decide +kernel) rfl rfl (Nat.le_of_ble_eq_true rfl) (JX3_screen hF)
set_option maxRecDepth 100000 in
set_option maxHeartbeats 4000000 in
theorem JX0_fits {a0 : Nat} {x1 : Int32} {x2 : Int32} {h : jm_H} {X : jm_X} (hF : FX0_fits a0 x1 x2 h = some X) : jm_J M_X0_fits 0 [(0, .ref a0), (1, .int x1), (2, .int x2)] [] h 0 0 X := by
  unfold FX0_fits at hF
  refine jj_iload_n (j := 2) (i := 2) (pc' := 1) dX0_fits_0 rfl rfl rfl ?_
  refine jj_aload_n (j := 0) (i := 0) (pc' := 2) dX0_fits_1 rfl rfl rfl ?_
  refine jj_gR (C := RX0) (T := TX0) (N := 10) (ci := 0) (k := 4) (pc' := 5) dX0_fits_2 rfl rfl inX0 (by decide) qw_19 hF (fun r101 hF => ?_)
  refine jj_iload_n (j := 1) (i := 1) (pc' := 6) dX0_fits_5 rfl rfl rfl ?_
  refine jj_iconst (v := (1 : Int32)) (pc' := 7) dX0_fits_6 rfl rfl ?_
  refine jj_cI (N := M_X2_at) (kc' := 0) (ks' := 0) (pc' := 10) (jg_V (N := M_X2_at) (ci := 2) (rest := [.int x2]) (as := [.int x1, .int ((1 : Int32))]) cf_X0_60 dX0_fits_7 ⟨rfl, rfl⟩ rfl rfl ⟨Nat.le_of_ble_eq_true rfl, Nat.le_of_ble_eq_true rfl⟩ ⟨Nat.le_of_ble_eq_true rfl, Nat.le_of_ble_eq_true rfl⟩ (Nat.le_of_ble_eq_true rfl) (fun X' hX => KX2_at hX)) rfl rfl rfl rfl ⟨Nat.le_of_ble_eq_true rfl, Nat.le_of_ble_eq_true rfl⟩ rfl hF (fun x103 h102 hF => ?_)
  refine jj_icmp_lt (tgt := 40) (pc' := 13) dX0_fits_10 rfl rfl (fun hc hF => ?_) (fun hc hF => ?_) hF
  · skip
    refine jj_iconst (v := (0 : Int32)) (pc' := 41) dX0_fits_40 rfl rfl ?_
    exact jj_retI (ty := .boolean) rfl rfl dX0_fits_41 ⟨Nat.le_of_ble_eq_true rfl, Nat.le_of_ble_eq_true rfl⟩ hF
  · skip
    refine jj_iload_n (j := 2) (i := 2) (pc' := 14) dX0_fits_13 rfl rfl rfl ?_
    refine jj_aload_n (j := 0) (i := 0) (pc' := 15) dX0_fits_14 rfl rfl rfl ?_
    refine jj_gR (C := RX0) (T := TX0) (N := 10) (ci := 0) (k := 2) (pc' := 18) dX0_fits_15 rfl rfl inX0 (by decide) qw_17 hF (fun r104 hF => ?_)
    refine jj_iconst (v := (2 : Int32)) (pc' := 19) dX0_fits_18 rfl rfl ?_
    refine jj_iconst (v := (0 : Int32)) (pc' := 20) dX0_fits_19 rfl rfl ?_
    refine jj_cI (N := M_X2_at) (kc' := 0) (ks' := 0) (pc' := 23) (jg_V (N := M_X2_at) (ci := 2) (rest := [.int x2]) (as := [.int ((2 : Int32)), .int ((0 : Int32))]) cf_X0_60 dX0_fits_20 ⟨rfl, rfl⟩ rfl rfl ⟨Nat.le_of_ble_eq_true rfl, Nat.le_of_ble_eq_true rfl⟩ ⟨Nat.le_of_ble_eq_true rfl, Nat.le_of_ble_eq_true rfl⟩ (Nat.le_of_ble_eq_true rfl) (fun X' hX => KX2_at hX)) rfl rfl rfl rfl ⟨Nat.le_of_ble_eq_true rfl, Nat.le_of_ble_eq_true rfl⟩ rfl hF (fun x106 h105 hF => ?_)
    refine jj_iadd (pc' := 24) dX0_fits_23 rfl ?_
    refine jj_aload_n (j := 0) (i := 0) (pc' := 25) dX0_fits_24 rfl rfl rfl ?_
    refine jj_gR (C := RX0) (T := TX0) (N := 10) (ci := 0) (k := 4) (pc' := 28) dX0_fits_25 rfl rfl inX0 (by decide) qw_19 hF (fun r107 hF => ?_)
    refine jj_iload_n (j := 1) (i := 1) (pc' := 29) dX0_fits_28 rfl rfl rfl ?_
    refine jj_iconst (v := (2 : Int32)) (pc' := 30) dX0_fits_29 rfl rfl ?_
    refine jj_cI (N := M_X2_at) (kc' := 0) (ks' := 0) (pc' := 33) (jg_V (N := M_X2_at) (ci := 2) (rest := [.int (x2 + x106)]) (as := [.int x1, .int ((2 : Int32))]) cf_X0_60 dX0_fits_30 ⟨rfl, rfl⟩ rfl rfl ⟨Nat.le_of_ble_eq_true rfl, Nat.le_of_ble_eq_true rfl⟩ ⟨Nat.le_of_ble_eq_true rfl, Nat.le_of_ble_eq_true rfl⟩ (Nat.le_of_ble_eq_true rfl) (fun X' hX => KX2_at hX)) rfl rfl rfl rfl ⟨Nat.le_of_ble_eq_true rfl, Nat.le_of_ble_eq_true rfl⟩ rfl hF (fun x109 h108 hF => ?_)
    refine jj_icmp_gt (tgt := 40) (pc' := 36) dX0_fits_33 rfl rfl (fun hc hF => ?_) (fun hc hF => ?_) hF
    · skip
      refine jj_iconst (v := (0 : Int32)) (pc' := 41) dX0_fits_40 rfl rfl ?_
      exact jj_retI (ty := .boolean) rfl rfl dX0_fits_41 ⟨Nat.le_of_ble_eq_true rfl, Nat.le_of_ble_eq_true rfl⟩ hF
    · skip
      refine jj_iconst (v := (1 : Int32)) (pc' := 37) dX0_fits_36 rfl rfl ?_
      refine jj_goto (tgt := 41) dX0_fits_37 rfl ?_
      exact jj_retI (ty := .boolean) rfl rfl dX0_fits_41 ⟨Nat.le_of_ble_eq_true rfl, Nat.le_of_ble_eq_true rfl⟩ hF
theorem KX0_fits {a0 : Nat} {x1 : Int32} {x2 : Int32} {h : jm_H} {X : jm_X} (hF : FX0_fits a0 x1 x2 h = some X) : jm_K M_X0_fits [.ref a0, .int x1, .int x2] h X := jk_of rfl (by decide +kernel) rfl rfl (Nat.le_of_ble_eq_true rfl) (JX0_fits hF)
set_option maxRecDepth 100000 in
set_option maxHeartbeats 4000000 in
theorem BX0_greetedBy_7 (N : Nat) : ∀ (n : Nat) (a0 : Nat) (x1 : Int32) (x2 : Int32) (x3 : Int32) (x4 : Int32) (h : jm_H) (X : jm_X), FX0_greetedBy_7 N n a0 x1 x2 x3 x4 h = some X → jm_J M_X0_greetedBy 7 [(0, .ref a0), (1, .int x1), (2, .int x2), (3, .int x3), (4, .int x4)] [] h 0 0 X := by
  intro n
  induction n with
  | zero =>
    intro a0 x1 x2 x3 x4 h X hF
    exact nomatch (show (none : Option jm_X) = some X from hF)
  | succ n ih =>
    intro a0 x1 x2 x3 x4 h X hF
    rw [FX0_greetedBy_7] at hF
    refine jj_iload (j := 4) (i := 4) (pc' := 9) dX0_greetedBy_7 rfl rfl ?_
    refine jj_aload_n (j := 0) (i := 0) (pc' := 10) dX0_greetedBy_9 rfl rfl rfl ?_
    refine jj_gR (C := RX0) (T := TX0) (N := 10) (ci := 0) (k := 3) (pc' := 13) dX0_greetedBy_10 rfl rfl inX0 (by decide) qw_18 hF (fun r101 hF => ?_)
    refine jj_gI (C := RX2) (T := TX2) (N := 3) (ci := 2) (k := 2) (pc' := 16) dX0_greetedBy_13 rfl rfl inX2 (by decide) qw_47 hF (fun x102 hF => ?_)
    refine jj_icmp_ge (tgt := 82) (pc' := 19) dX0_greetedBy_16 rfl rfl (fun hc hF => ?_) (fun hc hF => ?_) hF
    · skip
      refine jj_iload_n (j := 2) (i := 2) (pc' := 83) dX0_greetedBy_82 rfl rfl rfl ?_
      exact jj_retI (ty := .int) rfl rfl dX0_greetedBy_83 ⟨Nat.le_of_ble_eq_true rfl, Nat.le_of_ble_eq_true rfl⟩ hF
    · skip
      refine jj_aload_n (j := 0) (i := 0) (pc' := 20) dX0_greetedBy_19 rfl rfl rfl ?_
      refine jj_iload (j := 4) (i := 4) (pc' := 22) dX0_greetedBy_20 rfl rfl ?_
      refine jj_cI (N := M_X0_endOf) (kc' := 0) (ks' := 0) (pc' := 25) (jg_V (N := M_X0_endOf) (ci := 0) (rest := []) (as := [.int x4]) cf_X0_87 dX0_greetedBy_22 ⟨rfl, rfl⟩ rfl rfl ⟨Nat.le_of_ble_eq_true rfl, Nat.le_of_ble_eq_true rfl⟩ ⟨Nat.le_of_ble_eq_true rfl, Nat.le_of_ble_eq_true rfl⟩ (Nat.le_of_ble_eq_true rfl) (fun X' hX => KX0_endOf hX)) rfl rfl rfl rfl ⟨Nat.le_of_ble_eq_true rfl, Nat.le_of_ble_eq_true rfl⟩ rfl hF (fun x104 h103 hF => ?_)
      refine jj_istore (i := 5) (ls' := [(5, .int x104), (0, .ref a0), (1, .int x1), (2, .int x2), (3, .int x3), (4, .int x4)]) (pc' := 27) dX0_greetedBy_25 (Nat.le_of_ble_eq_true rfl) rfl rfl ?_
      refine jj_aload_n (j := 1) (i := 0) (pc' := 28) dX0_greetedBy_27 rfl rfl rfl ?_
      refine jj_gR (C := RX0) (T := TX0) (N := 10) (ci := 0) (k := 3) (pc' := 31) dX0_greetedBy_28 rfl rfl inX0 (by decide) qw_18 hF (fun r105 hF => ?_)
      refine jj_iload (j := 5) (i := 4) (pc' := 33) dX0_greetedBy_31 rfl rfl ?_
      refine jj_iconst (v := (0 : Int32)) (pc' := 34) dX0_greetedBy_33 rfl rfl ?_
      refine jj_cI (N := M_X2_at) (kc' := 0) (ks' := 0) (pc' := 37) (jg_V (N := M_X2_at) (ci := 2) (rest := []) (as := [.int x4, .int ((0 : Int32))]) cf_X0_60 dX0_greetedBy_34 ⟨rfl, rfl⟩ rfl rfl ⟨Nat.le_of_ble_eq_true rfl, Nat.le_of_ble_eq_true rfl⟩ ⟨Nat.le_of_ble_eq_true rfl, Nat.le_of_ble_eq_true rfl⟩ (Nat.le_of_ble_eq_true rfl) (fun X' hX => KX2_at hX)) rfl rfl rfl rfl ⟨Nat.le_of_ble_eq_true rfl, Nat.le_of_ble_eq_true rfl⟩ rfl hF (fun x107 h106 hF => ?_)
      refine jj_aload_n (j := 1) (i := 0) (pc' := 38) dX0_greetedBy_37 rfl rfl rfl ?_
      refine jj_gR (C := RX0) (T := TX0) (N := 10) (ci := 0) (k := 4) (pc' := 41) dX0_greetedBy_38 rfl rfl inX0 (by decide) qw_19 hF (fun r108 hF => ?_)
      refine jj_iload_n (j := 2) (i := 1) (pc' := 42) dX0_greetedBy_41 rfl rfl rfl ?_
      refine jj_iconst (v := (0 : Int32)) (pc' := 43) dX0_greetedBy_42 rfl rfl ?_
      refine jj_cI (N := M_X2_at) (kc' := 0) (ks' := 0) (pc' := 46) (jg_V (N := M_X2_at) (ci := 2) (rest := [.int x107]) (as := [.int x1, .int ((0 : Int32))]) cf_X0_60 dX0_greetedBy_43 ⟨rfl, rfl⟩ rfl rfl ⟨Nat.le_of_ble_eq_true rfl, Nat.le_of_ble_eq_true rfl⟩ ⟨Nat.le_of_ble_eq_true rfl, Nat.le_of_ble_eq_true rfl⟩ (Nat.le_of_ble_eq_true rfl) (fun X' hX => KX2_at hX)) rfl rfl rfl rfl ⟨Nat.le_of_ble_eq_true rfl, Nat.le_of_ble_eq_true rfl⟩ rfl hF (fun x110 h109 hF => ?_)
      refine jj_icmp_ne (tgt := 76) (pc' := 49) dX0_greetedBy_46 rfl rfl (fun hc hF => ?_) (fun hc hF => ?_) hF
      · skip
        refine jj_iinc (i := 4) (j := 5) (v := x4 + (1 : Int32)) (ls' := [(4, .int (x4 + (1 : Int32))), (5, .int x104), (0, .ref a0), (1, .int x1), (2, .int x2), (3, .int x3)]) (pc' := 79) dX0_greetedBy_76 rfl rfl (Nat.le_of_ble_eq_true rfl) rfl rfl ?_
        refine jj_goto (tgt := 7) dX0_greetedBy_79 rfl ?_
        exact jj_pick [2, 3, 4, 5, 0] rfl (ih a0 x1 x2 x3 (x4 + (1 : Int32)) h109 _ hF)
      · skip
        refine jj_aload_n (j := 1) (i := 0) (pc' := 50) dX0_greetedBy_49 rfl rfl rfl ?_
        refine jj_iload_n (j := 2) (i := 1) (pc' := 51) dX0_greetedBy_50 rfl rfl rfl ?_
        refine jj_iload (j := 0) (i := 5) (pc' := 53) dX0_greetedBy_51 rfl rfl ?_
        refine jj_cI (N := M_X0_fits) (kc' := 0) (ks' := 0) (pc' := 56) (jg_V (N := M_X0_fits) (ci := 0) (rest := []) (as := [.int x1, .int x104]) cf_X0_127 dX0_greetedBy_53 ⟨rfl, rfl⟩ rfl rfl ⟨Nat.le_of_ble_eq_true rfl, Nat.le_of_ble_eq_true rfl⟩ ⟨Nat.le_of_ble_eq_true rfl, Nat.le_of_ble_eq_true rfl⟩ (Nat.le_of_ble_eq_true rfl) (fun X' hX => KX0_fits hX)) rfl rfl rfl rfl ⟨Nat.le_of_ble_eq_true rfl, Nat.le_of_ble_eq_true rfl⟩ rfl hF (fun x112 h111 hF => ?_)
        refine jj_if_eq (tgt := 76) (pc' := 59) dX0_greetedBy_56 rfl rfl (fun hc hF => ?_) (fun hc hF => ?_) hF
        · skip
          refine jj_iinc (i := 4) (j := 5) (v := x4 + (1 : Int32)) (ls' := [(4, .int (x4 + (1 : Int32))), (5, .int x104), (0, .ref a0), (1, .int x1), (2, .int x2), (3, .int x3)]) (pc' := 79) dX0_greetedBy_76 rfl rfl (Nat.le_of_ble_eq_true rfl) rfl rfl ?_
          refine jj_goto (tgt := 7) dX0_greetedBy_79 rfl ?_
          exact jj_pick [2, 3, 4, 5, 0] rfl (ih a0 x1 x2 x3 (x4 + (1 : Int32)) h111 _ hF)
        · skip
          refine jj_iload_n (j := 3) (i := 2) (pc' := 60) dX0_greetedBy_59 rfl rfl rfl ?_
          refine jj_iconst (v := (-1 : Int32)) (pc' := 61) dX0_greetedBy_60 rfl rfl ?_
          refine jj_icmp_eq (tgt := 70) (pc' := 64) dX0_greetedBy_61 rfl rfl (fun hc hF => ?_) (fun hc hF => ?_) hF
          · skip
            refine jj_iload (j := 5) (i := 4) (pc' := 72) dX0_greetedBy_70 rfl rfl ?_
            refine jj_istore_n (i := 2) (ls' := [(2, .int x4), (5, .int x104), (0, .ref a0), (1, .int x1), (3, .int x3), (4, .int x4)]) (pc' := 73) dX0_greetedBy_72 rfl (Nat.le_of_ble_eq_true rfl) rfl rfl ?_
            refine jj_iload (j := 1) (i := 5) (pc' := 75) dX0_greetedBy_73 rfl rfl ?_
            refine jj_istore_n (i := 3) (ls' := [(3, .int x104), (2, .int x4), (5, .int x104), (0, .ref a0), (1, .int x1), (4, .int x4)]) (pc' := 76) dX0_greetedBy_75 rfl (Nat.le_of_ble_eq_true rfl) rfl rfl ?_
            refine jj_iinc (i := 4) (j := 5) (v := x4 + (1 : Int32)) (ls' := [(4, .int (x4 + (1 : Int32))), (3, .int x104), (2, .int x4), (5, .int x104), (0, .ref a0), (1, .int x1)]) (pc' := 79) dX0_greetedBy_76 rfl rfl (Nat.le_of_ble_eq_true rfl) rfl rfl ?_
            refine jj_goto (tgt := 7) dX0_greetedBy_79 rfl ?_
            exact jj_pick [4, 5, 2, 1, 0] rfl (ih a0 x1 x4 x104 (x4 + (1 : Int32)) h111 _ hF)
          · skip
            refine jj_iload (j := 0) (i := 5) (pc' := 66) dX0_greetedBy_64 rfl rfl ?_
            refine jj_iload_n (j := 4) (i := 3) (pc' := 67) dX0_greetedBy_66 rfl rfl rfl ?_
            refine jj_icmp_ge (tgt := 76) (pc' := 70) dX0_greetedBy_67 rfl rfl (fun hc hF => ?_) (fun hc hF => ?_) hF
            · skip
              refine jj_iinc (i := 4) (j := 5) (v := x4 + (1 : Int32)) (ls' := [(4, .int (x4 + (1 : Int32))), (5, .int x104), (0, .ref a0), (1, .int x1), (2, .int x2), (3, .int x3)]) (pc' := 79) dX0_greetedBy_76 rfl rfl (Nat.le_of_ble_eq_true rfl) rfl rfl ?_
              refine jj_goto (tgt := 7) dX0_greetedBy_79 rfl ?_
              exact jj_pick [2, 3, 4, 5, 0] rfl (ih a0 x1 x2 x3 (x4 + (1 : Int32)) h111 _ hF)
            · skip
              refine jj_iload (j := 5) (i := 4) (pc' := 72) dX0_greetedBy_70 rfl rfl ?_
              refine jj_istore_n (i := 2) (ls' := [(2, .int x4), (5, .int x104), (0, .ref a0), (1, .int x1), (3, .int x3), (4, .int x4)]) (pc' := 73) dX0_greetedBy_72 rfl (Nat.le_of_ble_eq_true rfl) rfl rfl ?_
              refine jj_iload (j := 1) (i := 5) (pc' := 75) dX0_greetedBy_73 rfl rfl ?_
              refine jj_istore_n (i := 3) (ls' := [(3, .int x104), (2, .int x4), (5, .int x104), (0, .ref a0), (1, .int x1), (4, .int x4)]) (pc' := 76) dX0_greetedBy_75 rfl (Nat.le_of_ble_eq_true rfl) rfl rfl ?_
              refine jj_iinc (i := 4) (j := 5) (v := x4 + (1 : Int32)) (ls' := [(4, .int (x4 + (1 : Int32))), (3, .int x104), (2, .int x4), (5, .int x104), (0, .ref a0), (1, .int x1)]) (pc' := 79) dX0_greetedBy_76 rfl rfl (Nat.le_of_ble_eq_true rfl) rfl rfl ?_
              refine jj_goto (tgt := 7) dX0_greetedBy_79 rfl ?_
              exact jj_pick [4, 5, 2, 1, 0] rfl (ih a0 x1 x4 x104 (x4 + (1 : Int32)) h111 _ hF)
set_option maxRecDepth 100000 in
set_option maxHeartbeats 4000000 in
theorem JX0_greetedBy {N : Nat} {a0 : Nat} {x1 : Int32} {h : jm_H} {X : jm_X} (hF : FX0_greetedBy N a0 x1 h = some X) : jm_J M_X0_greetedBy 0 [(0, .ref a0), (1, .int x1)] [] h 0 0 X := by
  unfold FX0_greetedBy at hF
  refine jj_iconst (v := (-1 : Int32)) (pc' := 1) dX0_greetedBy_0 rfl rfl ?_
  refine jj_istore_n (i := 2) (ls' := [(2, .int ((-1 : Int32))), (0, .ref a0), (1, .int x1)]) (pc' := 2) dX0_greetedBy_1 rfl (Nat.le_of_ble_eq_true rfl) rfl rfl ?_
  refine jj_iconst (v := (-1 : Int32)) (pc' := 3) dX0_greetedBy_2 rfl rfl ?_
  refine jj_istore_n (i := 3) (ls' := [(3, .int ((-1 : Int32))), (2, .int ((-1 : Int32))), (0, .ref a0), (1, .int x1)]) (pc' := 4) dX0_greetedBy_3 rfl (Nat.le_of_ble_eq_true rfl) rfl rfl ?_
  refine jj_iconst (v := (0 : Int32)) (pc' := 5) dX0_greetedBy_4 rfl rfl ?_
  refine jj_istore (i := 4) (ls' := [(4, .int ((0 : Int32))), (3, .int ((-1 : Int32))), (2, .int ((-1 : Int32))), (0, .ref a0), (1, .int x1)]) (pc' := 7) dX0_greetedBy_5 (Nat.le_of_ble_eq_true rfl) rfl rfl ?_
  exact jj_pick [3, 4, 2, 1, 0] rfl (BX0_greetedBy_7 N N a0 x1 ((-1 : Int32)) ((-1 : Int32)) ((0 : Int32)) h _ hF)
theorem KX0_greetedBy {N : Nat} {a0 : Nat} {x1 : Int32} {h : jm_H} {X : jm_X} (hF : FX0_greetedBy N a0 x1 h = some X) : jm_K M_X0_greetedBy [.ref a0, .int x1] h X := jk_of rfl (by decide +kernel) rfl rfl (Nat.le_of_ble_eq_true rfl) (JX0_greetedBy hF)
set_option maxRecDepth 100000 in
set_option maxHeartbeats 4000000 in
theorem JX0_guestNumber {N : Nat} {a0 : Nat} {x1 : Int32} {x2 : Int32} {h : jm_H} {X : jm_X} (hF : FX0_guestNumber N a0 x1 x2 h = some X) : jm_J M_X0_guestNumber 0 [(0, .ref a0), (1, .int x1), (2, .int x2)] [] h 0 0 X := by
  unfold FX0_guestNumber at hF
  refine jj_iload_n (j := 2) (i := 2) (pc' := 1) dX0_guestNumber_0 rfl rfl rfl ?_
  refine jj_table (N := 3) (lo := 0) (dt := 58) [28, 38, 48] dX0_guestNumber_1 ⟨by decide, by decide⟩ ⟨by decide, by decide, rfl, rfl⟩ (by decide) rfl ?_ (fun hF => ?_) hF
  · intro i b tg hb ht hx hF
    match i, hb, ht with
    | 0, hb, ht =>
      cases hb; cases ht
      refine jj_aload_n (j := 0) (i := 0) (pc' := 29) dX0_guestNumber_28 rfl rfl rfl ?_
      refine jj_gR (C := RX0) (T := TX0) (N := 10) (ci := 0) (k := 4) (pc' := 32) dX0_guestNumber_29 rfl rfl inX0 (by decide) qw_19 hF (fun r101 hF => ?_)
      refine jj_iload_n (j := 1) (i := 1) (pc' := 33) dX0_guestNumber_32 rfl rfl rfl ?_
      refine jj_iconst (v := (0 : Int32)) (pc' := 34) dX0_guestNumber_33 rfl rfl ?_
      refine jj_cI (N := M_X2_at) (kc' := 0) (ks' := 0) (pc' := 37) (jg_V (N := M_X2_at) (ci := 2) (rest := []) (as := [.int x1, .int ((0 : Int32))]) cf_X0_60 dX0_guestNumber_34 ⟨rfl, rfl⟩ rfl rfl ⟨Nat.le_of_ble_eq_true rfl, Nat.le_of_ble_eq_true rfl⟩ ⟨Nat.le_of_ble_eq_true rfl, Nat.le_of_ble_eq_true rfl⟩ (Nat.le_of_ble_eq_true rfl) (fun X' hX => KX2_at hX)) rfl rfl rfl rfl ⟨Nat.le_of_ble_eq_true rfl, Nat.le_of_ble_eq_true rfl⟩ rfl hF (fun x103 h102 hF => ?_)
      exact jj_retI (ty := .int) rfl rfl dX0_guestNumber_37 ⟨Nat.le_of_ble_eq_true rfl, Nat.le_of_ble_eq_true rfl⟩ hF
    | 1, hb, ht =>
      cases hb; cases ht
      refine jj_aload_n (j := 0) (i := 0) (pc' := 39) dX0_guestNumber_38 rfl rfl rfl ?_
      refine jj_gR (C := RX0) (T := TX0) (N := 10) (ci := 0) (k := 4) (pc' := 42) dX0_guestNumber_39 rfl rfl inX0 (by decide) qw_19 hF (fun r104 hF => ?_)
      refine jj_iload_n (j := 1) (i := 1) (pc' := 43) dX0_guestNumber_42 rfl rfl rfl ?_
      refine jj_iconst (v := (1 : Int32)) (pc' := 44) dX0_guestNumber_43 rfl rfl ?_
      refine jj_cI (N := M_X2_at) (kc' := 0) (ks' := 0) (pc' := 47) (jg_V (N := M_X2_at) (ci := 2) (rest := []) (as := [.int x1, .int ((1 : Int32))]) cf_X0_60 dX0_guestNumber_44 ⟨rfl, rfl⟩ rfl rfl ⟨Nat.le_of_ble_eq_true rfl, Nat.le_of_ble_eq_true rfl⟩ ⟨Nat.le_of_ble_eq_true rfl, Nat.le_of_ble_eq_true rfl⟩ (Nat.le_of_ble_eq_true rfl) (fun X' hX => KX2_at hX)) rfl rfl rfl rfl ⟨Nat.le_of_ble_eq_true rfl, Nat.le_of_ble_eq_true rfl⟩ rfl hF (fun x106 h105 hF => ?_)
      exact jj_retI (ty := .int) rfl rfl dX0_guestNumber_47 ⟨Nat.le_of_ble_eq_true rfl, Nat.le_of_ble_eq_true rfl⟩ hF
    | 2, hb, ht =>
      cases hb; cases ht
      refine jj_aload_n (j := 0) (i := 0) (pc' := 49) dX0_guestNumber_48 rfl rfl rfl ?_
      refine jj_gR (C := RX0) (T := TX0) (N := 10) (ci := 0) (k := 4) (pc' := 52) dX0_guestNumber_49 rfl rfl inX0 (by decide) qw_19 hF (fun r107 hF => ?_)
      refine jj_iload_n (j := 1) (i := 1) (pc' := 53) dX0_guestNumber_52 rfl rfl rfl ?_
      refine jj_iconst (v := (2 : Int32)) (pc' := 54) dX0_guestNumber_53 rfl rfl ?_
      refine jj_cI (N := M_X2_at) (kc' := 0) (ks' := 0) (pc' := 57) (jg_V (N := M_X2_at) (ci := 2) (rest := []) (as := [.int x1, .int ((2 : Int32))]) cf_X0_60 dX0_guestNumber_54 ⟨rfl, rfl⟩ rfl rfl ⟨Nat.le_of_ble_eq_true rfl, Nat.le_of_ble_eq_true rfl⟩ ⟨Nat.le_of_ble_eq_true rfl, Nat.le_of_ble_eq_true rfl⟩ (Nat.le_of_ble_eq_true rfl) (fun X' hX => KX2_at hX)) rfl rfl rfl rfl ⟨Nat.le_of_ble_eq_true rfl, Nat.le_of_ble_eq_true rfl⟩ rfl hF (fun x109 h108 hF => ?_)
      exact jj_retI (ty := .int) rfl rfl dX0_guestNumber_57 ⟨Nat.le_of_ble_eq_true rfl, Nat.le_of_ble_eq_true rfl⟩ hF
    | i + 3, hb, ht => exact nomatch (show (none : Option (Option jm_X)) = some b from hb)
  · skip
    refine jj_aload_n (j := 0) (i := 0) (pc' := 59) dX0_guestNumber_58 rfl rfl rfl ?_
    refine jj_iload_n (j := 1) (i := 1) (pc' := 60) dX0_guestNumber_59 rfl rfl rfl ?_
    refine jj_cI (N := M_X0_greetedBy) (kc' := 0) (ks' := 0) (pc' := 63) (jg_V (N := M_X0_greetedBy) (ci := 0) (rest := []) (as := [.int x1]) cf_X0_130 dX0_guestNumber_60 ⟨rfl, rfl⟩ rfl rfl ⟨Nat.le_of_ble_eq_true rfl, Nat.le_of_ble_eq_true rfl⟩ ⟨Nat.le_of_ble_eq_true rfl, Nat.le_of_ble_eq_true rfl⟩ (Nat.le_of_ble_eq_true rfl) (fun X' hX => KX0_greetedBy hX)) rfl rfl rfl rfl ⟨Nat.le_of_ble_eq_true rfl, Nat.le_of_ble_eq_true rfl⟩ rfl hF (fun x111 h110 hF => ?_)
    exact jj_retI (ty := .int) rfl rfl dX0_guestNumber_63 ⟨Nat.le_of_ble_eq_true rfl, Nat.le_of_ble_eq_true rfl⟩ hF
theorem KX0_guestNumber {N : Nat} {a0 : Nat} {x1 : Int32} {x2 : Int32} {h : jm_H} {X : jm_X} (hF : FX0_guestNumber N a0 x1 x2 h = some X) : jm_K M_X0_guestNumber [.ref a0, .int x1, .int x2] h X := jk_of rfl (by decide +kernel) rfl rfl (Nat.le_of_ble_eq_true rfl) (JX0_guestNumber hF)
set_option maxRecDepth 100000 in
set_option maxHeartbeats 4000000 in
theorem JX3_guestOf {N : Nat} {a0 : Nat} {x1 : Int32} {x2 : Int32} {h : jm_H} {X : jm_X} (hF : FX3_guestOf N a0 x1 x2 h = some X) : jm_J M_X3_guestOf 0 [(0, .ref a0), (1, .int x1), (2, .int x2)] [] h 0 0 X := by
  unfold FX3_guestOf at hF
  refine jj_iload_n (j := 1) (i := 1) (pc' := 1) dX3_guestOf_0 rfl rfl rfl ?_
  refine jj_iconst (v := (0 : Int32)) (pc' := 2) dX3_guestOf_1 rfl rfl ?_
  refine jj_aload_n (j := 0) (i := 0) (pc' := 3) dX3_guestOf_2 rfl rfl rfl ?_
  refine jj_gR (C := RX3) (T := TX3) (N := 8) (ci := 3) (k := 0) (pc' := 6) dX3_guestOf_3 rfl rfl inX3 (by decide) qw_29 hF (fun r101 hF => ?_)
  refine jj_gR (C := RX0) (T := TX0) (N := 10) (ci := 0) (k := 4) (pc' := 9) dX3_guestOf_6 rfl rfl inX0 (by decide) qw_52 hF (fun r102 hF => ?_)
  refine jj_gI (C := RX2) (T := TX2) (N := 3) (ci := 2) (k := 2) (pc' := 12) dX3_guestOf_9 rfl rfl inX2 (by decide) qw_44 hF (fun x103 hF => ?_)
  refine jj_iconst (v := (1 : Int32)) (pc' := 13) dX3_guestOf_12 rfl rfl ?_
  refine jj_isub (pc' := 14) dX3_guestOf_13 rfl ?_
  refine jj_cI (N := M_X3_isWithin) (kc' := 0) (ks' := 0) (pc' := 17) (jg_S (N := M_X3_isWithin) (rest := []) (as := [.int x1, .int ((0 : Int32)), .int (x103 - ((1 : Int32)))]) cf_X3_34 rfl dX3_guestOf_14 rfl rfl ⟨Nat.le_of_ble_eq_true rfl, Nat.le_of_ble_eq_true rfl⟩ ⟨Nat.le_of_ble_eq_true rfl, Nat.le_of_ble_eq_true rfl⟩ (Nat.le_of_ble_eq_true rfl) (fun X' hX => KX3_isWithin hX)) rfl rfl rfl rfl ⟨Nat.le_of_ble_eq_true rfl, Nat.le_of_ble_eq_true rfl⟩ rfl hF (fun x105 h104 hF => ?_)
  refine jj_if_ne (tgt := 30) (pc' := 20) dX3_guestOf_17 rfl rfl (fun hc hF => ?_) (fun hc hF => ?_) hF
  · skip
    refine jj_iload_n (j := 2) (i := 2) (pc' := 31) dX3_guestOf_30 rfl rfl rfl ?_
    refine jj_iconst (v := (3 : Int32)) (pc' := 32) dX3_guestOf_31 rfl rfl ?_
    refine jj_cV (N := M_X3_requireWhat) (kc' := 1) (ks' := 6) (pc' := 35) (jg_S (N := M_X3_requireWhat) (rest := []) (as := [.int x2, .int ((3 : Int32))]) cf_X3_171 rfl dX3_guestOf_32 rfl rfl ⟨Nat.le_of_ble_eq_true rfl, Nat.le_of_ble_eq_true rfl⟩ ⟨Nat.le_of_ble_eq_true rfl, Nat.le_of_ble_eq_true rfl⟩ (Nat.le_of_ble_eq_true rfl) (fun X' hX => KX3_requireWhat hX)) rfl rfl rfl rfl ⟨Nat.le_of_ble_eq_true rfl, Nat.le_of_ble_eq_true rfl⟩ rfl hF (fun h106 hF => ?_)
    refine jj_aload_n (j := 0) (i := 0) (pc' := 36) dX3_guestOf_35 rfl rfl rfl ?_
    refine jj_gR (C := RX3) (T := TX3) (N := 8) (ci := 3) (k := 0) (pc' := 39) dX3_guestOf_36 rfl rfl inX3 (by decide) qw_29 hF (fun r107 hF => ?_)
    refine jj_iload_n (j := 1) (i := 1) (pc' := 40) dX3_guestOf_39 rfl rfl rfl ?_
    refine jj_iload_n (j := 2) (i := 2) (pc' := 41) dX3_guestOf_40 rfl rfl rfl ?_
    refine jj_cI (N := M_X0_guestNumber) (kc' := 1) (ks' := 6) (pc' := 44) (jg_V (N := M_X0_guestNumber) (ci := 0) (rest := []) (as := [.int x1, .int x2]) cf_X3_210 dX3_guestOf_41 ⟨rfl, rfl⟩ rfl rfl ⟨Nat.le_of_ble_eq_true rfl, Nat.le_of_ble_eq_true rfl⟩ ⟨Nat.le_of_ble_eq_true rfl, Nat.le_of_ble_eq_true rfl⟩ (Nat.le_of_ble_eq_true rfl) (fun X' hX => KX0_guestNumber hX)) rfl rfl rfl rfl ⟨Nat.le_of_ble_eq_true rfl, Nat.le_of_ble_eq_true rfl⟩ rfl hF (fun x109 h108 hF => ?_)
    exact jj_retI (ty := .int) rfl rfl dX3_guestOf_44 ⟨Nat.le_of_ble_eq_true rfl, Nat.le_of_ble_eq_true rfl⟩ hF
  · skip
    exact jj_throw (text := "there is no such guest") tf_X3_77_81 (by decide) dX3_guestOf_20 dX3_guestOf_23 dX3_guestOf_24 dX3_guestOf_26 dX3_guestOf_29 rfl ⟨Nat.le_of_ble_eq_true rfl, Nat.le_of_ble_eq_true rfl⟩ ⟨Nat.le_of_ble_eq_true rfl, Nat.le_of_ble_eq_true rfl⟩ hF
theorem KX3_guestOf {N : Nat} {a0 : Nat} {x1 : Int32} {x2 : Int32} {h : jm_H} {X : jm_X} (hF : FX3_guestOf N a0 x1 x2 h = some X) : jm_K M_X3_guestOf [.ref a0, .int x1, .int x2] h X := jk_of rfl (by decide +kernel) rfl rfl (Nat.le_of_ble_eq_true rfl) (JX3_guestOf hF)
set_option maxRecDepth 100000 in
set_option maxHeartbeats 4000000 in
theorem BX0_seenMask_4 (N : Nat) : ∀ (n : Nat) (a0 : Nat) (x1 : Int32) (x2 : Int32) (x3 : Int32) (h : jm_H) (X : jm_X), FX0_seenMask_4 N n a0 x1 x2 x3 h = some X → jm_J M_X0_seenMask 4 [(0, .ref a0), (1, .int x1), (2, .int x2), (3, .int x3)] [] h 0 0 X := by
  intro n
  induction n with
  | zero =>
    intro a0 x1 x2 x3 h X hF
    exact nomatch (show (none : Option jm_X) = some X from hF)
  | succ n ih =>
    intro a0 x1 x2 x3 h X hF
    rw [FX0_seenMask_4] at hF
    refine jj_iload_n (j := 3) (i := 3) (pc' := 5) dX0_seenMask_4 rfl rfl rfl ?_
    refine jj_aload_n (j := 0) (i := 0) (pc' := 6) dX0_seenMask_5 rfl rfl rfl ?_
    refine jj_gR (C := RX0) (T := TX0) (N := 10) (ci := 0) (k := 3) (pc' := 9) dX0_seenMask_6 rfl rfl inX0 (by decide) qw_18 hF (fun r101 hF => ?_)
    refine jj_gI (C := RX2) (T := TX2) (N := 3) (ci := 2) (k := 2) (pc' := 12) dX0_seenMask_9 rfl rfl inX2 (by decide) qw_47 hF (fun x102 hF => ?_)
    refine jj_icmp_ge (tgt := 44) (pc' := 15) dX0_seenMask_12 rfl rfl (fun hc hF => ?_) (fun hc hF => ?_) hF
    · skip
      refine jj_iload_n (j := 2) (i := 2) (pc' := 45) dX0_seenMask_44 rfl rfl rfl ?_
      exact jj_retI (ty := .int) rfl rfl dX0_seenMask_45 ⟨Nat.le_of_ble_eq_true rfl, Nat.le_of_ble_eq_true rfl⟩ hF
    · skip
      refine jj_aload_n (j := 0) (i := 0) (pc' := 16) dX0_seenMask_15 rfl rfl rfl ?_
      refine jj_iload_n (j := 1) (i := 1) (pc' := 17) dX0_seenMask_16 rfl rfl rfl ?_
      refine jj_iload_n (j := 3) (i := 3) (pc' := 18) dX0_seenMask_17 rfl rfl rfl ?_
      refine jj_cI (N := M_X0_goes) (kc' := 0) (ks' := 0) (pc' := 21) (jg_V (N := M_X0_goes) (ci := 0) (rest := []) (as := [.int x1, .int x3]) cf_X0_74 dX0_seenMask_18 ⟨rfl, rfl⟩ rfl rfl ⟨Nat.le_of_ble_eq_true rfl, Nat.le_of_ble_eq_true rfl⟩ ⟨Nat.le_of_ble_eq_true rfl, Nat.le_of_ble_eq_true rfl⟩ (Nat.le_of_ble_eq_true rfl) (fun X' hX => KX0_goes hX)) rfl rfl rfl rfl ⟨Nat.le_of_ble_eq_true rfl, Nat.le_of_ble_eq_true rfl⟩ rfl hF (fun x104 h103 hF => ?_)
      refine jj_if_eq (tgt := 38) (pc' := 24) dX0_seenMask_21 rfl rfl (fun hc hF => ?_) (fun hc hF => ?_) hF
      · skip
        refine jj_iinc (i := 3) (j := 3) (v := x3 + (1 : Int32)) (ls' := [(3, .int (x3 + (1 : Int32))), (0, .ref a0), (1, .int x1), (2, .int x2)]) (pc' := 41) dX0_seenMask_38 rfl rfl (Nat.le_of_ble_eq_true rfl) rfl rfl ?_
        refine jj_goto (tgt := 4) dX0_seenMask_41 rfl ?_
        exact jj_pick [1, 2, 3, 0] rfl (ih a0 x1 x2 (x3 + (1 : Int32)) h103 _ hF)
      · skip
        refine jj_iload_n (j := 2) (i := 2) (pc' := 25) dX0_seenMask_24 rfl rfl rfl ?_
        refine jj_iconst (v := (1 : Int32)) (pc' := 26) dX0_seenMask_25 rfl rfl ?_
        refine jj_aload_n (j := 0) (i := 0) (pc' := 27) dX0_seenMask_26 rfl rfl rfl ?_
        refine jj_gR (C := RX0) (T := TX0) (N := 10) (ci := 0) (k := 3) (pc' := 30) dX0_seenMask_27 rfl rfl inX0 (by decide) qw_18 hF (fun r105 hF => ?_)
        refine jj_iload_n (j := 3) (i := 3) (pc' := 31) dX0_seenMask_30 rfl rfl rfl ?_
        refine jj_iconst (v := (0 : Int32)) (pc' := 32) dX0_seenMask_31 rfl rfl ?_
        refine jj_cI (N := M_X2_at) (kc' := 0) (ks' := 0) (pc' := 35) (jg_V (N := M_X2_at) (ci := 2) (rest := [.int ((1 : Int32)), .int x2]) (as := [.int x3, .int ((0 : Int32))]) cf_X0_60 dX0_seenMask_32 ⟨rfl, rfl⟩ rfl rfl ⟨Nat.le_of_ble_eq_true rfl, Nat.le_of_ble_eq_true rfl⟩ ⟨Nat.le_of_ble_eq_true rfl, Nat.le_of_ble_eq_true rfl⟩ (Nat.le_of_ble_eq_true rfl) (fun X' hX => KX2_at hX)) rfl rfl rfl rfl ⟨Nat.le_of_ble_eq_true rfl, Nat.le_of_ble_eq_true rfl⟩ rfl hF (fun x107 h106 hF => ?_)
        refine jj_ishl (pc' := 36) dX0_seenMask_35 rfl ?_
        refine jj_ior (pc' := 37) dX0_seenMask_36 rfl ?_
        refine jj_istore_n (i := 2) (ls' := [(2, .int (x2 ||| (((1 : Int32)) <<< (x107 &&& 31)))), (0, .ref a0), (1, .int x1), (3, .int x3)]) (pc' := 38) dX0_seenMask_37 rfl (Nat.le_of_ble_eq_true rfl) rfl rfl ?_
        refine jj_iinc (i := 3) (j := 3) (v := x3 + (1 : Int32)) (ls' := [(3, .int (x3 + (1 : Int32))), (2, .int (x2 ||| (((1 : Int32)) <<< (x107 &&& 31)))), (0, .ref a0), (1, .int x1)]) (pc' := 41) dX0_seenMask_38 rfl rfl (Nat.le_of_ble_eq_true rfl) rfl rfl ?_
        refine jj_goto (tgt := 4) dX0_seenMask_41 rfl ?_
        exact jj_pick [2, 3, 1, 0] rfl (ih a0 x1 (x2 ||| (((1 : Int32)) <<< (x107 &&& 31))) (x3 + (1 : Int32)) h106 _ hF)
set_option maxRecDepth 100000 in
set_option maxHeartbeats 4000000 in
theorem JX0_seenMask {N : Nat} {a0 : Nat} {x1 : Int32} {h : jm_H} {X : jm_X} (hF : FX0_seenMask N a0 x1 h = some X) : jm_J M_X0_seenMask 0 [(0, .ref a0), (1, .int x1)] [] h 0 0 X := by
  unfold FX0_seenMask at hF
  refine jj_iconst (v := (0 : Int32)) (pc' := 1) dX0_seenMask_0 rfl rfl ?_
  refine jj_istore_n (i := 2) (ls' := [(2, .int ((0 : Int32))), (0, .ref a0), (1, .int x1)]) (pc' := 2) dX0_seenMask_1 rfl (Nat.le_of_ble_eq_true rfl) rfl rfl ?_
  refine jj_iconst (v := (0 : Int32)) (pc' := 3) dX0_seenMask_2 rfl rfl ?_
  refine jj_istore_n (i := 3) (ls' := [(3, .int ((0 : Int32))), (2, .int ((0 : Int32))), (0, .ref a0), (1, .int x1)]) (pc' := 4) dX0_seenMask_3 rfl (Nat.le_of_ble_eq_true rfl) rfl rfl ?_
  exact jj_pick [2, 3, 1, 0] rfl (BX0_seenMask_4 N N a0 x1 ((0 : Int32)) ((0 : Int32)) h _ hF)
theorem KX0_seenMask {N : Nat} {a0 : Nat} {x1 : Int32} {h : jm_H} {X : jm_X} (hF : FX0_seenMask N a0 x1 h = some X) : jm_K M_X0_seenMask [.ref a0, .int x1] h X := jk_of rfl (by decide +kernel) rfl rfl (Nat.le_of_ble_eq_true rfl) (JX0_seenMask hF)
set_option maxRecDepth 100000 in
set_option maxHeartbeats 4000000 in
theorem BX0_pointsFrom_11 (N : Nat) : ∀ (n : Nat) (a0 : Nat) (x1 : Int32) (x2 : Int32) (x3 : Int32) (x4 : Int32) (h : jm_H) (X : jm_X), FX0_pointsFrom_11 N n a0 x1 x2 x3 x4 h = some X → jm_J M_X0_pointsFrom 11 [(0, .ref a0), (1, .int x1), (2, .int x2), (3, .int x3), (4, .int x4)] [] h 0 0 X := by
  intro n
  induction n with
  | zero =>
    intro a0 x1 x2 x3 x4 h X hF
    exact nomatch (show (none : Option jm_X) = some X from hF)
  | succ n ih =>
    intro a0 x1 x2 x3 x4 h X hF
    rw [FX0_pointsFrom_11] at hF
    refine jj_iload (j := 4) (i := 4) (pc' := 13) dX0_pointsFrom_11 rfl rfl ?_
    refine jj_aload_n (j := 0) (i := 0) (pc' := 14) dX0_pointsFrom_13 rfl rfl rfl ?_
    refine jj_gR (C := RX0) (T := TX0) (N := 10) (ci := 0) (k := 0) (pc' := 17) dX0_pointsFrom_14 rfl rfl inX0 (by decide) qw_15 hF (fun r101 hF => ?_)
    refine jj_gI (C := RX2) (T := TX2) (N := 3) (ci := 2) (k := 2) (pc' := 20) dX0_pointsFrom_17 rfl rfl inX2 (by decide) qw_47 hF (fun x102 hF => ?_)
    refine jj_icmp_ge (tgt := 51) (pc' := 23) dX0_pointsFrom_20 rfl rfl (fun hc hF => ?_) (fun hc hF => ?_) hF
    · skip
      refine jj_iload_n (j := 3) (i := 3) (pc' := 52) dX0_pointsFrom_51 rfl rfl rfl ?_
      exact jj_retI (ty := .int) rfl rfl dX0_pointsFrom_52 ⟨Nat.le_of_ble_eq_true rfl, Nat.le_of_ble_eq_true rfl⟩ hF
    · skip
      refine jj_iload_n (j := 2) (i := 2) (pc' := 24) dX0_pointsFrom_23 rfl rfl rfl ?_
      refine jj_iload (j := 4) (i := 4) (pc' := 26) dX0_pointsFrom_24 rfl rfl ?_
      refine jj_nS (N := M_X3_hasBit) (as := [.int x2, .int x4]) (rest := []) (kc' := 0) (ks' := 0) (pc' := 29) cf_X0_84 dX0_pointsFrom_26 rfl rfl ⟨Nat.le_of_ble_eq_true rfl, Nat.le_of_ble_eq_true rfl⟩ ⟨Nat.le_of_ble_eq_true rfl, Nat.le_of_ble_eq_true rfl⟩ (Nat.le_of_ble_eq_true rfl) (fun X' hX => KX3_hasBit hX) rfl rfl rfl rfl hF (fun x104 h103 hF => ?_)
      refine jj_if_eq (tgt := 45) (pc' := 32) dX0_pointsFrom_29 rfl rfl (fun hc hF => ?_) (fun hc hF => ?_) hF
      · skip
        refine jj_iinc (i := 4) (j := 4) (v := x4 + (1 : Int32)) (ls' := [(4, .int (x4 + (1 : Int32))), (0, .ref a0), (1, .int x1), (2, .int x2), (3, .int x3)]) (pc' := 48) dX0_pointsFrom_45 rfl rfl (Nat.le_of_ble_eq_true rfl) rfl rfl ?_
        refine jj_goto (tgt := 11) dX0_pointsFrom_48 rfl ?_
        exact jj_pick [1, 2, 3, 4, 0] rfl (ih a0 x1 x2 x3 (x4 + (1 : Int32)) h103 _ hF)
      · skip
        refine jj_iload_n (j := 3) (i := 3) (pc' := 33) dX0_pointsFrom_32 rfl rfl rfl ?_
        refine jj_aload_n (j := 0) (i := 0) (pc' := 34) dX0_pointsFrom_33 rfl rfl rfl ?_
        refine jj_gR (C := RX0) (T := TX0) (N := 10) (ci := 0) (k := 5) (pc' := 37) dX0_pointsFrom_34 rfl rfl inX0 (by decide) qw_20 hF (fun r105 hF => ?_)
        refine jj_iload_n (j := 1) (i := 1) (pc' := 38) dX0_pointsFrom_37 rfl rfl rfl ?_
        refine jj_iload (j := 4) (i := 4) (pc' := 40) dX0_pointsFrom_38 rfl rfl ?_
        refine jj_cI (N := M_X2_at) (kc' := 0) (ks' := 0) (pc' := 43) (jg_V (N := M_X2_at) (ci := 2) (rest := [.int x3]) (as := [.int x1, .int x4]) cf_X0_60 dX0_pointsFrom_40 ⟨rfl, rfl⟩ rfl rfl ⟨Nat.le_of_ble_eq_true rfl, Nat.le_of_ble_eq_true rfl⟩ ⟨Nat.le_of_ble_eq_true rfl, Nat.le_of_ble_eq_true rfl⟩ (Nat.le_of_ble_eq_true rfl) (fun X' hX => KX2_at hX)) rfl rfl rfl rfl ⟨Nat.le_of_ble_eq_true rfl, Nat.le_of_ble_eq_true rfl⟩ rfl hF (fun x107 h106 hF => ?_)
        refine jj_iadd (pc' := 44) dX0_pointsFrom_43 rfl ?_
        refine jj_istore_n (i := 3) (ls' := [(3, .int (x3 + x107)), (0, .ref a0), (1, .int x1), (2, .int x2), (4, .int x4)]) (pc' := 45) dX0_pointsFrom_44 rfl (Nat.le_of_ble_eq_true rfl) rfl rfl ?_
        refine jj_iinc (i := 4) (j := 4) (v := x4 + (1 : Int32)) (ls' := [(4, .int (x4 + (1 : Int32))), (3, .int (x3 + x107)), (0, .ref a0), (1, .int x1), (2, .int x2)]) (pc' := 48) dX0_pointsFrom_45 rfl rfl (Nat.le_of_ble_eq_true rfl) rfl rfl ?_
        refine jj_goto (tgt := 11) dX0_pointsFrom_48 rfl ?_
        exact jj_pick [2, 3, 4, 1, 0] rfl (ih a0 x1 x2 (x3 + x107) (x4 + (1 : Int32)) h106 _ hF)
set_option maxRecDepth 100000 in
set_option maxHeartbeats 4000000 in
theorem JX0_pointsFrom {N : Nat} {a0 : Nat} {x1 : Int32} {h : jm_H} {X : jm_X} (hF : FX0_pointsFrom N a0 x1 h = some X) : jm_J M_X0_pointsFrom 0 [(0, .ref a0), (1, .int x1)] [] h 0 0 X := by
  unfold FX0_pointsFrom at hF
  refine jj_aload_n (j := 0) (i := 0) (pc' := 1) dX0_pointsFrom_0 rfl rfl rfl ?_
  refine jj_iload_n (j := 1) (i := 1) (pc' := 2) dX0_pointsFrom_1 rfl rfl rfl ?_
  refine jj_cI (N := M_X0_seenMask) (kc' := 0) (ks' := 0) (pc' := 5) (jg_V (N := M_X0_seenMask) (ci := 0) (rest := []) (as := [.int x1]) cf_X0_164 dX0_pointsFrom_2 ⟨rfl, rfl⟩ rfl rfl ⟨Nat.le_of_ble_eq_true rfl, Nat.le_of_ble_eq_true rfl⟩ ⟨Nat.le_of_ble_eq_true rfl, Nat.le_of_ble_eq_true rfl⟩ (Nat.le_of_ble_eq_true rfl) (fun X' hX => KX0_seenMask hX)) rfl rfl rfl rfl ⟨Nat.le_of_ble_eq_true rfl, Nat.le_of_ble_eq_true rfl⟩ rfl hF (fun x102 h101 hF => ?_)
  refine jj_istore_n (i := 2) (ls' := [(2, .int x102), (0, .ref a0), (1, .int x1)]) (pc' := 6) dX0_pointsFrom_5 rfl (Nat.le_of_ble_eq_true rfl) rfl rfl ?_
  refine jj_iconst (v := (0 : Int32)) (pc' := 7) dX0_pointsFrom_6 rfl rfl ?_
  refine jj_istore_n (i := 3) (ls' := [(3, .int ((0 : Int32))), (2, .int x102), (0, .ref a0), (1, .int x1)]) (pc' := 8) dX0_pointsFrom_7 rfl (Nat.le_of_ble_eq_true rfl) rfl rfl ?_
  refine jj_iconst (v := (0 : Int32)) (pc' := 9) dX0_pointsFrom_8 rfl rfl ?_
  refine jj_istore (i := 4) (ls' := [(4, .int ((0 : Int32))), (3, .int ((0 : Int32))), (2, .int x102), (0, .ref a0), (1, .int x1)]) (pc' := 11) dX0_pointsFrom_9 (Nat.le_of_ble_eq_true rfl) rfl rfl ?_
  exact jj_pick [3, 4, 2, 1, 0] rfl (BX0_pointsFrom_11 N N a0 x1 x102 ((0 : Int32)) ((0 : Int32)) h101 _ hF)
theorem KX0_pointsFrom {N : Nat} {a0 : Nat} {x1 : Int32} {h : jm_H} {X : jm_X} (hF : FX0_pointsFrom N a0 x1 h = some X) : jm_K M_X0_pointsFrom [.ref a0, .int x1] h X := jk_of rfl (by decide +kernel) rfl rfl (Nat.le_of_ble_eq_true rfl) (JX0_pointsFrom hF)
set_option maxRecDepth 100000 in
set_option maxHeartbeats 4000000 in
theorem JX0_jurorNumber {N : Nat} {a0 : Nat} {x1 : Int32} {x2 : Int32} {h : jm_H} {X : jm_X} (hF : FX0_jurorNumber N a0 x1 x2 h = some X) : jm_J M_X0_jurorNumber 0 [(0, .ref a0), (1, .int x1), (2, .int x2)] [] h 0 0 X := by
  unfold FX0_jurorNumber at hF
  refine jj_iload_n (j := 2) (i := 2) (pc' := 1) dX0_jurorNumber_0 rfl rfl rfl ?_
  refine jj_lookup2 (t0 := 28) (t1 := 34) (dt := 40) dX0_jurorNumber_1 rfl rfl rfl (fun hc hF => ?_) (fun hc hF => ?_) (fun hc hc' hF => ?_) hF
  · skip
    refine jj_aload_n (j := 0) (i := 0) (pc' := 29) dX0_jurorNumber_28 rfl rfl rfl ?_
    refine jj_iload_n (j := 1) (i := 1) (pc' := 30) dX0_jurorNumber_29 rfl rfl rfl ?_
    refine jj_cI (N := M_X0_visitsOf) (kc' := 0) (ks' := 0) (pc' := 33) (jg_V (N := M_X0_visitsOf) (ci := 0) (rest := []) (as := [.int x1]) cf_X0_81 dX0_jurorNumber_30 ⟨rfl, rfl⟩ rfl rfl ⟨Nat.le_of_ble_eq_true rfl, Nat.le_of_ble_eq_true rfl⟩ ⟨Nat.le_of_ble_eq_true rfl, Nat.le_of_ble_eq_true rfl⟩ (Nat.le_of_ble_eq_true rfl) (fun X' hX => KX0_visitsOf hX)) rfl rfl rfl rfl ⟨Nat.le_of_ble_eq_true rfl, Nat.le_of_ble_eq_true rfl⟩ rfl hF (fun x102 h101 hF => ?_)
    exact jj_retI (ty := .int) rfl rfl dX0_jurorNumber_33 ⟨Nat.le_of_ble_eq_true rfl, Nat.le_of_ble_eq_true rfl⟩ hF
  · skip
    refine jj_aload_n (j := 0) (i := 0) (pc' := 35) dX0_jurorNumber_34 rfl rfl rfl ?_
    refine jj_iload_n (j := 1) (i := 1) (pc' := 36) dX0_jurorNumber_35 rfl rfl rfl ?_
    refine jj_cI (N := M_X0_seenMask) (kc' := 0) (ks' := 0) (pc' := 39) (jg_V (N := M_X0_seenMask) (ci := 0) (rest := []) (as := [.int x1]) cf_X0_164 dX0_jurorNumber_36 ⟨rfl, rfl⟩ rfl rfl ⟨Nat.le_of_ble_eq_true rfl, Nat.le_of_ble_eq_true rfl⟩ ⟨Nat.le_of_ble_eq_true rfl, Nat.le_of_ble_eq_true rfl⟩ (Nat.le_of_ble_eq_true rfl) (fun X' hX => KX0_seenMask hX)) rfl rfl rfl rfl ⟨Nat.le_of_ble_eq_true rfl, Nat.le_of_ble_eq_true rfl⟩ rfl hF (fun x104 h103 hF => ?_)
    exact jj_retI (ty := .int) rfl rfl dX0_jurorNumber_39 ⟨Nat.le_of_ble_eq_true rfl, Nat.le_of_ble_eq_true rfl⟩ hF
  · skip
    refine jj_aload_n (j := 0) (i := 0) (pc' := 41) dX0_jurorNumber_40 rfl rfl rfl ?_
    refine jj_iload_n (j := 1) (i := 1) (pc' := 42) dX0_jurorNumber_41 rfl rfl rfl ?_
    refine jj_cI (N := M_X0_pointsFrom) (kc' := 0) (ks' := 0) (pc' := 45) (jg_V (N := M_X0_pointsFrom) (ci := 0) (rest := []) (as := [.int x1]) cf_X0_167 dX0_jurorNumber_42 ⟨rfl, rfl⟩ rfl rfl ⟨Nat.le_of_ble_eq_true rfl, Nat.le_of_ble_eq_true rfl⟩ ⟨Nat.le_of_ble_eq_true rfl, Nat.le_of_ble_eq_true rfl⟩ (Nat.le_of_ble_eq_true rfl) (fun X' hX => KX0_pointsFrom hX)) rfl rfl rfl rfl ⟨Nat.le_of_ble_eq_true rfl, Nat.le_of_ble_eq_true rfl⟩ rfl hF (fun x106 h105 hF => ?_)
    exact jj_retI (ty := .int) rfl rfl dX0_jurorNumber_45 ⟨Nat.le_of_ble_eq_true rfl, Nat.le_of_ble_eq_true rfl⟩ hF
theorem KX0_jurorNumber {N : Nat} {a0 : Nat} {x1 : Int32} {x2 : Int32} {h : jm_H} {X : jm_X} (hF : FX0_jurorNumber N a0 x1 x2 h = some X) : jm_K M_X0_jurorNumber [.ref a0, .int x1, .int x2] h X := jk_of rfl (by decide +kernel) rfl rfl (Nat.le_of_ble_eq_true rfl) (JX0_jurorNumber hF)
set_option maxRecDepth 100000 in
set_option maxHeartbeats 4000000 in
theorem JX3_juror {N : Nat} {a0 : Nat} {x1 : Int32} {x2 : Int32} {h : jm_H} {X : jm_X} (hF : FX3_juror N a0 x1 x2 h = some X) : jm_J M_X3_juror 0 [(0, .ref a0), (1, .int x1), (2, .int x2)] [] h 0 0 X := by
  unfold FX3_juror at hF
  refine jj_iload_n (j := 1) (i := 1) (pc' := 1) dX3_juror_0 rfl rfl rfl ?_
  refine jj_cV (N := M_X3_requireJuror) (kc' := 1) (ks' := 6) (pc' := 4) (jg_S (N := M_X3_requireJuror) (rest := []) (as := [.int x1]) cf_X3_129 rfl dX3_juror_1 rfl rfl ⟨Nat.le_of_ble_eq_true rfl, Nat.le_of_ble_eq_true rfl⟩ ⟨Nat.le_of_ble_eq_true rfl, Nat.le_of_ble_eq_true rfl⟩ (Nat.le_of_ble_eq_true rfl) (fun X' hX => KX3_requireJuror hX)) rfl rfl rfl rfl ⟨Nat.le_of_ble_eq_true rfl, Nat.le_of_ble_eq_true rfl⟩ rfl hF (fun h101 hF => ?_)
  refine jj_iload_n (j := 2) (i := 2) (pc' := 5) dX3_juror_4 rfl rfl rfl ?_
  refine jj_iconst (v := (2 : Int32)) (pc' := 6) dX3_juror_5 rfl rfl ?_
  refine jj_cV (N := M_X3_requireWhat) (kc' := 2) (ks' := 12) (pc' := 9) (jg_S (N := M_X3_requireWhat) (rest := []) (as := [.int x2, .int ((2 : Int32))]) cf_X3_171 rfl dX3_juror_6 rfl rfl ⟨Nat.le_of_ble_eq_true rfl, Nat.le_of_ble_eq_true rfl⟩ ⟨Nat.le_of_ble_eq_true rfl, Nat.le_of_ble_eq_true rfl⟩ (Nat.le_of_ble_eq_true rfl) (fun X' hX => KX3_requireWhat hX)) rfl rfl rfl rfl ⟨Nat.le_of_ble_eq_true rfl, Nat.le_of_ble_eq_true rfl⟩ rfl hF (fun h102 hF => ?_)
  refine jj_aload_n (j := 0) (i := 0) (pc' := 10) dX3_juror_9 rfl rfl rfl ?_
  refine jj_gR (C := RX3) (T := TX3) (N := 8) (ci := 3) (k := 0) (pc' := 13) dX3_juror_10 rfl rfl inX3 (by decide) qw_29 hF (fun r103 hF => ?_)
  refine jj_iload_n (j := 1) (i := 1) (pc' := 14) dX3_juror_13 rfl rfl rfl ?_
  refine jj_iload_n (j := 2) (i := 2) (pc' := 15) dX3_juror_14 rfl rfl rfl ?_
  refine jj_cI (N := M_X0_jurorNumber) (kc' := 2) (ks' := 12) (pc' := 18) (jg_V (N := M_X0_jurorNumber) (ci := 0) (rest := []) (as := [.int x1, .int x2]) cf_X3_213 dX3_juror_15 ⟨rfl, rfl⟩ rfl rfl ⟨Nat.le_of_ble_eq_true rfl, Nat.le_of_ble_eq_true rfl⟩ ⟨Nat.le_of_ble_eq_true rfl, Nat.le_of_ble_eq_true rfl⟩ (Nat.le_of_ble_eq_true rfl) (fun X' hX => KX0_jurorNumber hX)) rfl rfl rfl rfl ⟨Nat.le_of_ble_eq_true rfl, Nat.le_of_ble_eq_true rfl⟩ rfl hF (fun x105 h104 hF => ?_)
  exact jj_retI (ty := .int) rfl rfl dX3_juror_18 ⟨Nat.le_of_ble_eq_true rfl, Nat.le_of_ble_eq_true rfl⟩ hF
theorem KX3_juror {N : Nat} {a0 : Nat} {x1 : Int32} {x2 : Int32} {h : jm_H} {X : jm_X} (hF : FX3_juror N a0 x1 x2 h = some X) : jm_K M_X3_juror [.ref a0, .int x1, .int x2] h X := jk_of rfl (by decide +kernel) rfl rfl (Nat.le_of_ble_eq_true rfl) (JX3_juror hF)
set_option maxRecDepth 100000 in
set_option maxHeartbeats 4000000 in
theorem BX0_greeters_4 (N : Nat) : ∀ (n : Nat) (a0 : Nat) (x1 : Int32) (x2 : Int32) (h : jm_H) (X : jm_X), FX0_greeters_4 N n a0 x1 x2 h = some X → jm_J M_X0_greeters 4 [(0, .ref a0), (1, .int x1), (2, .int x2)] [] h 0 0 X := by
  intro n
  induction n with
  | zero =>
    intro a0 x1 x2 h X hF
    exact nomatch (show (none : Option jm_X) = some X from hF)
  | succ n ih =>
    intro a0 x1 x2 h X hF
    rw [FX0_greeters_4] at hF
    refine jj_iload_n (j := 2) (i := 2) (pc' := 5) dX0_greeters_4 rfl rfl rfl ?_
    refine jj_aload_n (j := 0) (i := 0) (pc' := 6) dX0_greeters_5 rfl rfl rfl ?_
    refine jj_gR (C := RX0) (T := TX0) (N := 10) (ci := 0) (k := 4) (pc' := 9) dX0_greeters_6 rfl rfl inX0 (by decide) qw_19 hF (fun r101 hF => ?_)
    refine jj_gI (C := RX2) (T := TX2) (N := 3) (ci := 2) (k := 2) (pc' := 12) dX0_greeters_9 rfl rfl inX2 (by decide) qw_47 hF (fun x102 hF => ?_)
    refine jj_icmp_ge (tgt := 33) (pc' := 15) dX0_greeters_12 rfl rfl (fun hc hF => ?_) (fun hc hF => ?_) hF
    · skip
      refine jj_iload_n (j := 1) (i := 1) (pc' := 34) dX0_greeters_33 rfl rfl rfl ?_
      exact jj_retI (ty := .int) rfl rfl dX0_greeters_34 ⟨Nat.le_of_ble_eq_true rfl, Nat.le_of_ble_eq_true rfl⟩ hF
    · skip
      refine jj_aload_n (j := 0) (i := 0) (pc' := 16) dX0_greeters_15 rfl rfl rfl ?_
      refine jj_iload_n (j := 2) (i := 2) (pc' := 17) dX0_greeters_16 rfl rfl rfl ?_
      refine jj_cI (N := M_X0_greetedBy) (kc' := 0) (ks' := 0) (pc' := 20) (jg_V (N := M_X0_greetedBy) (ci := 0) (rest := []) (as := [.int x2]) cf_X0_130 dX0_greeters_17 ⟨rfl, rfl⟩ rfl rfl ⟨Nat.le_of_ble_eq_true rfl, Nat.le_of_ble_eq_true rfl⟩ ⟨Nat.le_of_ble_eq_true rfl, Nat.le_of_ble_eq_true rfl⟩ (Nat.le_of_ble_eq_true rfl) (fun X' hX => KX0_greetedBy hX)) rfl rfl rfl rfl ⟨Nat.le_of_ble_eq_true rfl, Nat.le_of_ble_eq_true rfl⟩ rfl hF (fun x104 h103 hF => ?_)
      refine jj_iconst (v := (-1 : Int32)) (pc' := 21) dX0_greeters_20 rfl rfl ?_
      refine jj_icmp_eq (tgt := 27) (pc' := 24) dX0_greeters_21 rfl rfl (fun hc hF => ?_) (fun hc hF => ?_) hF
      · skip
        refine jj_iinc (i := 2) (j := 2) (v := x2 + (1 : Int32)) (ls' := [(2, .int (x2 + (1 : Int32))), (0, .ref a0), (1, .int x1)]) (pc' := 30) dX0_greeters_27 rfl rfl (Nat.le_of_ble_eq_true rfl) rfl rfl ?_
        refine jj_goto (tgt := 4) dX0_greeters_30 rfl ?_
        exact jj_pick [1, 2, 0] rfl (ih a0 x1 (x2 + (1 : Int32)) h103 _ hF)
      · skip
        refine jj_iinc (i := 1) (j := 1) (v := x1 + (1 : Int32)) (ls' := [(1, .int (x1 + (1 : Int32))), (0, .ref a0), (2, .int x2)]) (pc' := 27) dX0_greeters_24 rfl rfl (Nat.le_of_ble_eq_true rfl) rfl rfl ?_
        refine jj_iinc (i := 2) (j := 2) (v := x2 + (1 : Int32)) (ls' := [(2, .int (x2 + (1 : Int32))), (1, .int (x1 + (1 : Int32))), (0, .ref a0)]) (pc' := 30) dX0_greeters_27 rfl rfl (Nat.le_of_ble_eq_true rfl) rfl rfl ?_
        refine jj_goto (tgt := 4) dX0_greeters_30 rfl ?_
        exact jj_pick [2, 1, 0] rfl (ih a0 (x1 + (1 : Int32)) (x2 + (1 : Int32)) h103 _ hF)
set_option maxRecDepth 100000 in
set_option maxHeartbeats 4000000 in
theorem JX0_greeters {N : Nat} {a0 : Nat} {h : jm_H} {X : jm_X} (hF : FX0_greeters N a0 h = some X) : jm_J M_X0_greeters 0 [(0, .ref a0)] [] h 0 0 X := by
  unfold FX0_greeters at hF
  refine jj_iconst (v := (0 : Int32)) (pc' := 1) dX0_greeters_0 rfl rfl ?_
  refine jj_istore_n (i := 1) (ls' := [(1, .int ((0 : Int32))), (0, .ref a0)]) (pc' := 2) dX0_greeters_1 rfl (Nat.le_of_ble_eq_true rfl) rfl rfl ?_
  refine jj_iconst (v := (0 : Int32)) (pc' := 3) dX0_greeters_2 rfl rfl ?_
  refine jj_istore_n (i := 2) (ls' := [(2, .int ((0 : Int32))), (1, .int ((0 : Int32))), (0, .ref a0)]) (pc' := 4) dX0_greeters_3 rfl (Nat.le_of_ble_eq_true rfl) rfl rfl ?_
  exact jj_pick [2, 1, 0] rfl (BX0_greeters_4 N N a0 ((0 : Int32)) ((0 : Int32)) h _ hF)
theorem KX0_greeters {N : Nat} {a0 : Nat} {h : jm_H} {X : jm_X} (hF : FX0_greeters N a0 h = some X) : jm_K M_X0_greeters [.ref a0] h X := jk_of rfl (by decide +kernel) rfl rfl (Nat.le_of_ble_eq_true rfl) (JX0_greeters hF)
set_option maxRecDepth 100000 in
set_option maxHeartbeats 4000000 in
theorem BX0_allSeats_4 (N : Nat) : ∀ (n : Nat) (a0 : Nat) (x1 : Int32) (x2 : Int32) (h : jm_H) (X : jm_X), FX0_allSeats_4 N n a0 x1 x2 h = some X → jm_J M_X0_allSeats 4 [(0, .ref a0), (1, .int x1), (2, .int x2)] [] h 0 0 X := by
  intro n
  induction n with
  | zero =>
    intro a0 x1 x2 h X hF
    exact nomatch (show (none : Option jm_X) = some X from hF)
  | succ n ih =>
    intro a0 x1 x2 h X hF
    rw [FX0_allSeats_4] at hF
    refine jj_iload_n (j := 2) (i := 2) (pc' := 5) dX0_allSeats_4 rfl rfl rfl ?_
    refine jj_aload_n (j := 0) (i := 0) (pc' := 6) dX0_allSeats_5 rfl rfl rfl ?_
    refine jj_gR (C := RX0) (T := TX0) (N := 10) (ci := 0) (k := 3) (pc' := 9) dX0_allSeats_6 rfl rfl inX0 (by decide) qw_18 hF (fun r101 hF => ?_)
    refine jj_gI (C := RX2) (T := TX2) (N := 3) (ci := 2) (k := 2) (pc' := 12) dX0_allSeats_9 rfl rfl inX2 (by decide) qw_47 hF (fun x102 hF => ?_)
    refine jj_icmp_ge (tgt := 41) (pc' := 15) dX0_allSeats_12 rfl rfl (fun hc hF => ?_) (fun hc hF => ?_) hF
    · skip
      refine jj_iload_n (j := 1) (i := 1) (pc' := 42) dX0_allSeats_41 rfl rfl rfl ?_
      exact jj_retI (ty := .int) rfl rfl dX0_allSeats_42 ⟨Nat.le_of_ble_eq_true rfl, Nat.le_of_ble_eq_true rfl⟩ hF
    · skip
      refine jj_iload_n (j := 1) (i := 1) (pc' := 16) dX0_allSeats_15 rfl rfl rfl ?_
      refine jj_aload_n (j := 0) (i := 0) (pc' := 17) dX0_allSeats_16 rfl rfl rfl ?_
      refine jj_gR (C := RX0) (T := TX0) (N := 10) (ci := 0) (k := 1) (pc' := 20) dX0_allSeats_17 rfl rfl inX0 (by decide) qw_16 hF (fun r103 hF => ?_)
      refine jj_aload_n (j := 0) (i := 0) (pc' := 21) dX0_allSeats_20 rfl rfl rfl ?_
      refine jj_gR (C := RX0) (T := TX0) (N := 10) (ci := 0) (k := 3) (pc' := 24) dX0_allSeats_21 rfl rfl inX0 (by decide) qw_18 hF (fun r104 hF => ?_)
      refine jj_iload_n (j := 2) (i := 2) (pc' := 25) dX0_allSeats_24 rfl rfl rfl ?_
      refine jj_iconst (v := (1 : Int32)) (pc' := 26) dX0_allSeats_25 rfl rfl ?_
      refine jj_cI (N := M_X2_at) (kc' := 0) (ks' := 0) (pc' := 29) (jg_V (N := M_X2_at) (ci := 2) (rest := [.ref r103, .int x1]) (as := [.int x2, .int ((1 : Int32))]) cf_X0_60 dX0_allSeats_26 ⟨rfl, rfl⟩ rfl rfl ⟨Nat.le_of_ble_eq_true rfl, Nat.le_of_ble_eq_true rfl⟩ ⟨Nat.le_of_ble_eq_true rfl, Nat.le_of_ble_eq_true rfl⟩ (Nat.le_of_ble_eq_true rfl) (fun X' hX => KX2_at hX)) rfl rfl rfl rfl ⟨Nat.le_of_ble_eq_true rfl, Nat.le_of_ble_eq_true rfl⟩ rfl hF (fun x106 h105 hF => ?_)
      refine jj_iconst (v := (0 : Int32)) (pc' := 30) dX0_allSeats_29 rfl rfl ?_
      refine jj_cI (N := M_X2_at) (kc' := 0) (ks' := 0) (pc' := 33) (jg_V (N := M_X2_at) (ci := 2) (rest := [.int x1]) (as := [.int x106, .int ((0 : Int32))]) cf_X0_60 dX0_allSeats_30 ⟨rfl, rfl⟩ rfl rfl ⟨Nat.le_of_ble_eq_true rfl, Nat.le_of_ble_eq_true rfl⟩ ⟨Nat.le_of_ble_eq_true rfl, Nat.le_of_ble_eq_true rfl⟩ (Nat.le_of_ble_eq_true rfl) (fun X' hX => KX2_at hX)) rfl rfl rfl rfl ⟨Nat.le_of_ble_eq_true rfl, Nat.le_of_ble_eq_true rfl⟩ rfl hF (fun x108 h107 hF => ?_)
      refine jj_iadd (pc' := 34) dX0_allSeats_33 rfl ?_
      refine jj_istore_n (i := 1) (ls' := [(1, .int (x1 + x108)), (0, .ref a0), (2, .int x2)]) (pc' := 35) dX0_allSeats_34 rfl (Nat.le_of_ble_eq_true rfl) rfl rfl ?_
      refine jj_iinc (i := 2) (j := 2) (v := x2 + (1 : Int32)) (ls' := [(2, .int (x2 + (1 : Int32))), (1, .int (x1 + x108)), (0, .ref a0)]) (pc' := 38) dX0_allSeats_35 rfl rfl (Nat.le_of_ble_eq_true rfl) rfl rfl ?_
      refine jj_goto (tgt := 4) dX0_allSeats_38 rfl ?_
      exact jj_pick [2, 1, 0] rfl (ih a0 (x1 + x108) (x2 + (1 : Int32)) h107 _ hF)
set_option maxRecDepth 100000 in
set_option maxHeartbeats 4000000 in
theorem JX0_allSeats {N : Nat} {a0 : Nat} {h : jm_H} {X : jm_X} (hF : FX0_allSeats N a0 h = some X) : jm_J M_X0_allSeats 0 [(0, .ref a0)] [] h 0 0 X := by
  unfold FX0_allSeats at hF
  refine jj_iconst (v := (0 : Int32)) (pc' := 1) dX0_allSeats_0 rfl rfl ?_
  refine jj_istore_n (i := 1) (ls' := [(1, .int ((0 : Int32))), (0, .ref a0)]) (pc' := 2) dX0_allSeats_1 rfl (Nat.le_of_ble_eq_true rfl) rfl rfl ?_
  refine jj_iconst (v := (0 : Int32)) (pc' := 3) dX0_allSeats_2 rfl rfl ?_
  refine jj_istore_n (i := 2) (ls' := [(2, .int ((0 : Int32))), (1, .int ((0 : Int32))), (0, .ref a0)]) (pc' := 4) dX0_allSeats_3 rfl (Nat.le_of_ble_eq_true rfl) rfl rfl ?_
  exact jj_pick [2, 1, 0] rfl (BX0_allSeats_4 N N a0 ((0 : Int32)) ((0 : Int32)) h _ hF)
theorem KX0_allSeats {N : Nat} {a0 : Nat} {h : jm_H} {X : jm_X} (hF : FX0_allSeats N a0 h = some X) : jm_K M_X0_allSeats [.ref a0] h X := jk_of rfl (by decide +kernel) rfl rfl (Nat.le_of_ble_eq_true rfl) (JX0_allSeats hF)
set_option maxRecDepth 100000 in
set_option maxHeartbeats 4000000 in
theorem BX0_prize_6 (N : Nat) : ∀ (n : Nat) (a0 : Nat) (x1 : Int32) (x2 : Int32) (x3 : Int32) (h : jm_H) (X : jm_X), FX0_prize_6 N n a0 x1 x2 x3 h = some X → jm_J M_X0_prize 6 [(0, .ref a0), (1, .int x1), (2, .int x2), (3, .int x3)] [] h 0 0 X := by
  intro n
  induction n with
  | zero =>
    intro a0 x1 x2 x3 h X hF
    exact nomatch (show (none : Option jm_X) = some X from hF)
  | succ n ih =>
    intro a0 x1 x2 x3 h X hF
    rw [FX0_prize_6] at hF
    refine jj_iload_n (j := 3) (i := 3) (pc' := 7) dX0_prize_6 rfl rfl rfl ?_
    refine jj_aload_n (j := 0) (i := 0) (pc' := 8) dX0_prize_7 rfl rfl rfl ?_
    refine jj_gR (C := RX0) (T := TX0) (N := 10) (ci := 0) (k := 0) (pc' := 11) dX0_prize_8 rfl rfl inX0 (by decide) qw_15 hF (fun r101 hF => ?_)
    refine jj_gI (C := RX2) (T := TX2) (N := 3) (ci := 2) (k := 2) (pc' := 14) dX0_prize_11 rfl rfl inX2 (by decide) qw_47 hF (fun x102 hF => ?_)
    refine jj_icmp_ge (tgt := 52) (pc' := 17) dX0_prize_14 rfl rfl (fun hc hF => ?_) (fun hc hF => ?_) hF
    · skip
      refine jj_iload_n (j := 1) (i := 1) (pc' := 53) dX0_prize_52 rfl rfl rfl ?_
      exact jj_retI (ty := .int) rfl rfl dX0_prize_53 ⟨Nat.le_of_ble_eq_true rfl, Nat.le_of_ble_eq_true rfl⟩ hF
    · skip
      refine jj_aload_n (j := 0) (i := 0) (pc' := 18) dX0_prize_17 rfl rfl rfl ?_
      refine jj_iload_n (j := 3) (i := 3) (pc' := 19) dX0_prize_18 rfl rfl rfl ?_
      refine jj_cI (N := M_X0_seenBy) (kc' := 0) (ks' := 0) (pc' := 22) (jg_V (N := M_X0_seenBy) (ci := 0) (rest := []) (as := [.int x3]) cf_X0_133 dX0_prize_19 ⟨rfl, rfl⟩ rfl rfl ⟨Nat.le_of_ble_eq_true rfl, Nat.le_of_ble_eq_true rfl⟩ ⟨Nat.le_of_ble_eq_true rfl, Nat.le_of_ble_eq_true rfl⟩ (Nat.le_of_ble_eq_true rfl) (fun X' hX => KX0_seenBy hX)) rfl rfl rfl rfl ⟨Nat.le_of_ble_eq_true rfl, Nat.le_of_ble_eq_true rfl⟩ rfl hF (fun x104 h103 hF => ?_)
      refine jj_cI (N := M_J6_bitCount_0f7a4) (kc' := 0) (ks' := 0) (pc' := 25) (jg_S (N := M_J6_bitCount_0f7a4) (rest := []) (as := [.int x104]) cf_X0_64 rfl dX0_prize_22 rfl rfl ⟨Nat.le_of_ble_eq_true rfl, Nat.le_of_ble_eq_true rfl⟩ ⟨Nat.le_of_ble_eq_true rfl, Nat.le_of_ble_eq_true rfl⟩ (Nat.le_of_ble_eq_true rfl) (fun X' hX => KJ6_bitCount_0f7a4 hX)) rfl rfl rfl rfl ⟨Nat.le_of_ble_eq_true rfl, Nat.le_of_ble_eq_true rfl⟩ rfl hF (fun x106 h105 hF => ?_)
      refine jj_iconst (v := (2 : Int32)) (pc' := 26) dX0_prize_25 rfl rfl ?_
      refine jj_icmp_lt (tgt := 46) (pc' := 29) dX0_prize_26 rfl rfl (fun hc hF => ?_) (fun hc hF => ?_) hF
      · skip
        refine jj_iinc (i := 3) (j := 3) (v := x3 + (1 : Int32)) (ls' := [(3, .int (x3 + (1 : Int32))), (0, .ref a0), (1, .int x1), (2, .int x2)]) (pc' := 49) dX0_prize_46 rfl rfl (Nat.le_of_ble_eq_true rfl) rfl rfl ?_
        refine jj_goto (tgt := 6) dX0_prize_49 rfl ?_
        exact jj_pick [1, 2, 3, 0] rfl (ih a0 x1 x2 (x3 + (1 : Int32)) h105 _ hF)
      · skip
        refine jj_aload_n (j := 0) (i := 0) (pc' := 30) dX0_prize_29 rfl rfl rfl ?_
        refine jj_iload_n (j := 3) (i := 3) (pc' := 31) dX0_prize_30 rfl rfl rfl ?_
        refine jj_cI (N := M_X0_pointsOf) (kc' := 0) (ks' := 0) (pc' := 34) (jg_V (N := M_X0_pointsOf) (ci := 0) (rest := []) (as := [.int x3]) cf_X0_136 dX0_prize_31 ⟨rfl, rfl⟩ rfl rfl ⟨Nat.le_of_ble_eq_true rfl, Nat.le_of_ble_eq_true rfl⟩ ⟨Nat.le_of_ble_eq_true rfl, Nat.le_of_ble_eq_true rfl⟩ (Nat.le_of_ble_eq_true rfl) (fun X' hX => KX0_pointsOf hX)) rfl rfl rfl rfl ⟨Nat.le_of_ble_eq_true rfl, Nat.le_of_ble_eq_true rfl⟩ rfl hF (fun x108 h107 hF => ?_)
        refine jj_iload_n (j := 2) (i := 2) (pc' := 35) dX0_prize_34 rfl rfl rfl ?_
        refine jj_icmp_le (tgt := 46) (pc' := 38) dX0_prize_35 rfl rfl (fun hc hF => ?_) (fun hc hF => ?_) hF
        · skip
          refine jj_iinc (i := 3) (j := 3) (v := x3 + (1 : Int32)) (ls' := [(3, .int (x3 + (1 : Int32))), (0, .ref a0), (1, .int x1), (2, .int x2)]) (pc' := 49) dX0_prize_46 rfl rfl (Nat.le_of_ble_eq_true rfl) rfl rfl ?_
          refine jj_goto (tgt := 6) dX0_prize_49 rfl ?_
          exact jj_pick [1, 2, 3, 0] rfl (ih a0 x1 x2 (x3 + (1 : Int32)) h107 _ hF)
        · skip
          refine jj_iload_n (j := 3) (i := 3) (pc' := 39) dX0_prize_38 rfl rfl rfl ?_
          refine jj_istore_n (i := 1) (ls' := [(1, .int x3), (0, .ref a0), (2, .int x2), (3, .int x3)]) (pc' := 40) dX0_prize_39 rfl (Nat.le_of_ble_eq_true rfl) rfl rfl ?_
          refine jj_aload_n (j := 1) (i := 0) (pc' := 41) dX0_prize_40 rfl rfl rfl ?_
          refine jj_iload_n (j := 3) (i := 3) (pc' := 42) dX0_prize_41 rfl rfl rfl ?_
          refine jj_cI (N := M_X0_pointsOf) (kc' := 0) (ks' := 0) (pc' := 45) (jg_V (N := M_X0_pointsOf) (ci := 0) (rest := []) (as := [.int x3]) cf_X0_136 dX0_prize_42 ⟨rfl, rfl⟩ rfl rfl ⟨Nat.le_of_ble_eq_true rfl, Nat.le_of_ble_eq_true rfl⟩ ⟨Nat.le_of_ble_eq_true rfl, Nat.le_of_ble_eq_true rfl⟩ (Nat.le_of_ble_eq_true rfl) (fun X' hX => KX0_pointsOf hX)) rfl rfl rfl rfl ⟨Nat.le_of_ble_eq_true rfl, Nat.le_of_ble_eq_true rfl⟩ rfl hF (fun x110 h109 hF => ?_)
          refine jj_istore_n (i := 2) (ls' := [(2, .int x110), (1, .int x3), (0, .ref a0), (3, .int x3)]) (pc' := 46) dX0_prize_45 rfl (Nat.le_of_ble_eq_true rfl) rfl rfl ?_
          refine jj_iinc (i := 3) (j := 3) (v := x3 + (1 : Int32)) (ls' := [(3, .int (x3 + (1 : Int32))), (2, .int x110), (1, .int x3), (0, .ref a0)]) (pc' := 49) dX0_prize_46 rfl rfl (Nat.le_of_ble_eq_true rfl) rfl rfl ?_
          refine jj_goto (tgt := 6) dX0_prize_49 rfl ?_
          exact jj_pick [3, 2, 1, 0] rfl (ih a0 x3 x110 (x3 + (1 : Int32)) h109 _ hF)
set_option maxRecDepth 100000 in
set_option maxHeartbeats 4000000 in
theorem JX0_prize {N : Nat} {a0 : Nat} {h : jm_H} {X : jm_X} (hF : FX0_prize N a0 h = some X) : jm_J M_X0_prize 0 [(0, .ref a0)] [] h 0 0 X := by
  unfold FX0_prize at hF
  refine jj_iconst (v := (-1 : Int32)) (pc' := 1) dX0_prize_0 rfl rfl ?_
  refine jj_istore_n (i := 1) (ls' := [(1, .int ((-1 : Int32))), (0, .ref a0)]) (pc' := 2) dX0_prize_1 rfl (Nat.le_of_ble_eq_true rfl) rfl rfl ?_
  refine jj_iconst (v := (-1 : Int32)) (pc' := 3) dX0_prize_2 rfl rfl ?_
  refine jj_istore_n (i := 2) (ls' := [(2, .int ((-1 : Int32))), (1, .int ((-1 : Int32))), (0, .ref a0)]) (pc' := 4) dX0_prize_3 rfl (Nat.le_of_ble_eq_true rfl) rfl rfl ?_
  refine jj_iconst (v := (0 : Int32)) (pc' := 5) dX0_prize_4 rfl rfl ?_
  refine jj_istore_n (i := 3) (ls' := [(3, .int ((0 : Int32))), (2, .int ((-1 : Int32))), (1, .int ((-1 : Int32))), (0, .ref a0)]) (pc' := 6) dX0_prize_5 rfl (Nat.le_of_ble_eq_true rfl) rfl rfl ?_
  exact jj_pick [3, 2, 1, 0] rfl (BX0_prize_6 N N a0 ((-1 : Int32)) ((-1 : Int32)) ((0 : Int32)) h _ hF)
theorem KX0_prize {N : Nat} {a0 : Nat} {h : jm_H} {X : jm_X} (hF : FX0_prize N a0 h = some X) : jm_K M_X0_prize [.ref a0] h X := jk_of rfl (by decide +kernel) rfl rfl (Nat.le_of_ble_eq_true rfl) (JX0_prize hF)
set_option maxRecDepth 100000 in
set_option maxHeartbeats 4000000 in
theorem JX3_countNumber {N : Nat} {a0 : Nat} {x1 : Int32} {h : jm_H} {X : jm_X} (hF : FX3_countNumber N a0 x1 h = some X) : jm_J M_X3_countNumber 0 [(0, .ref a0), (1, .int x1)] [] h 0 0 X := by
  unfold FX3_countNumber at hF
  refine jj_iload_n (j := 1) (i := 1) (pc' := 1) dX3_countNumber_0 rfl rfl rfl ?_
  refine jj_table (N := 12) (lo := 0) (dt := 134) [64, 75, 86, 97, 105, 113, 121, 134, 134, 134, 134, 129] dX3_countNumber_1 ⟨by decide, by decide⟩ ⟨by decide, by decide, rfl, rfl⟩ (by decide) rfl ?_ (fun hF => ?_) hF
  · intro i b tg hb ht hx hF
    match i, hb, ht with
    | 0, hb, ht =>
      cases hb; cases ht
      refine jj_aload_n (j := 0) (i := 0) (pc' := 65) dX3_countNumber_64 rfl rfl rfl ?_
      refine jj_gR (C := RX3) (T := TX3) (N := 8) (ci := 3) (k := 0) (pc' := 68) dX3_countNumber_65 rfl rfl inX3 (by decide) qw_29 hF (fun r101 hF => ?_)
      refine jj_gR (C := RX0) (T := TX0) (N := 10) (ci := 0) (k := 0) (pc' := 71) dX3_countNumber_68 rfl rfl inX0 (by decide) qw_43 hF (fun r102 hF => ?_)
      refine jj_gI (C := RX2) (T := TX2) (N := 3) (ci := 2) (k := 2) (pc' := 74) dX3_countNumber_71 rfl rfl inX2 (by decide) qw_44 hF (fun x103 hF => ?_)
      exact jj_retI (ty := .int) rfl rfl dX3_countNumber_74 ⟨Nat.le_of_ble_eq_true rfl, Nat.le_of_ble_eq_true rfl⟩ hF
    | 1, hb, ht =>
      cases hb; cases ht
      refine jj_aload_n (j := 0) (i := 0) (pc' := 76) dX3_countNumber_75 rfl rfl rfl ?_
      refine jj_gR (C := RX3) (T := TX3) (N := 8) (ci := 3) (k := 0) (pc' := 79) dX3_countNumber_76 rfl rfl inX3 (by decide) qw_29 hF (fun r104 hF => ?_)
      refine jj_gR (C := RX0) (T := TX0) (N := 10) (ci := 0) (k := 3) (pc' := 82) dX3_countNumber_79 rfl rfl inX0 (by decide) qw_48 hF (fun r105 hF => ?_)
      refine jj_gI (C := RX2) (T := TX2) (N := 3) (ci := 2) (k := 2) (pc' := 85) dX3_countNumber_82 rfl rfl inX2 (by decide) qw_44 hF (fun x106 hF => ?_)
      exact jj_retI (ty := .int) rfl rfl dX3_countNumber_85 ⟨Nat.le_of_ble_eq_true rfl, Nat.le_of_ble_eq_true rfl⟩ hF
    | 2, hb, ht =>
      cases hb; cases ht
      refine jj_aload_n (j := 0) (i := 0) (pc' := 87) dX3_countNumber_86 rfl rfl rfl ?_
      refine jj_gR (C := RX3) (T := TX3) (N := 8) (ci := 3) (k := 0) (pc' := 90) dX3_countNumber_87 rfl rfl inX3 (by decide) qw_29 hF (fun r107 hF => ?_)
      refine jj_gR (C := RX0) (T := TX0) (N := 10) (ci := 0) (k := 4) (pc' := 93) dX3_countNumber_90 rfl rfl inX0 (by decide) qw_52 hF (fun r108 hF => ?_)
      refine jj_gI (C := RX2) (T := TX2) (N := 3) (ci := 2) (k := 2) (pc' := 96) dX3_countNumber_93 rfl rfl inX2 (by decide) qw_44 hF (fun x109 hF => ?_)
      exact jj_retI (ty := .int) rfl rfl dX3_countNumber_96 ⟨Nat.le_of_ble_eq_true rfl, Nat.le_of_ble_eq_true rfl⟩ hF
    | 3, hb, ht =>
      cases hb; cases ht
      refine jj_aload_n (j := 0) (i := 0) (pc' := 98) dX3_countNumber_97 rfl rfl rfl ?_
      refine jj_gR (C := RX3) (T := TX3) (N := 8) (ci := 3) (k := 0) (pc' := 101) dX3_countNumber_98 rfl rfl inX3 (by decide) qw_29 hF (fun r110 hF => ?_)
      refine jj_cI (N := M_X0_greeters) (kc' := 0) (ks' := 0) (pc' := 104) (jg_V (N := M_X0_greeters) (ci := 0) (rest := []) (as := []) cf_X3_268 dX3_countNumber_101 ⟨rfl, rfl⟩ rfl rfl ⟨Nat.le_of_ble_eq_true rfl, Nat.le_of_ble_eq_true rfl⟩ ⟨Nat.le_of_ble_eq_true rfl, Nat.le_of_ble_eq_true rfl⟩ (Nat.le_of_ble_eq_true rfl) (fun X' hX => KX0_greeters hX)) rfl rfl rfl rfl ⟨Nat.le_of_ble_eq_true rfl, Nat.le_of_ble_eq_true rfl⟩ rfl hF (fun x112 h111 hF => ?_)
      exact jj_retI (ty := .int) rfl rfl dX3_countNumber_104 ⟨Nat.le_of_ble_eq_true rfl, Nat.le_of_ble_eq_true rfl⟩ hF
    | 4, hb, ht =>
      cases hb; cases ht
      refine jj_aload_n (j := 0) (i := 0) (pc' := 106) dX3_countNumber_105 rfl rfl rfl ?_
      refine jj_gR (C := RX3) (T := TX3) (N := 8) (ci := 3) (k := 0) (pc' := 109) dX3_countNumber_106 rfl rfl inX3 (by decide) qw_29 hF (fun r113 hF => ?_)
      refine jj_cI (N := M_X0_allSeats) (kc' := 0) (ks' := 0) (pc' := 112) (jg_V (N := M_X0_allSeats) (ci := 0) (rest := []) (as := []) cf_X3_271 dX3_countNumber_109 ⟨rfl, rfl⟩ rfl rfl ⟨Nat.le_of_ble_eq_true rfl, Nat.le_of_ble_eq_true rfl⟩ ⟨Nat.le_of_ble_eq_true rfl, Nat.le_of_ble_eq_true rfl⟩ (Nat.le_of_ble_eq_true rfl) (fun X' hX => KX0_allSeats hX)) rfl rfl rfl rfl ⟨Nat.le_of_ble_eq_true rfl, Nat.le_of_ble_eq_true rfl⟩ rfl hF (fun x115 h114 hF => ?_)
      exact jj_retI (ty := .int) rfl rfl dX3_countNumber_112 ⟨Nat.le_of_ble_eq_true rfl, Nat.le_of_ble_eq_true rfl⟩ hF
    | 5, hb, ht =>
      cases hb; cases ht
      refine jj_aload_n (j := 0) (i := 0) (pc' := 114) dX3_countNumber_113 rfl rfl rfl ?_
      refine jj_gR (C := RX3) (T := TX3) (N := 8) (ci := 3) (k := 0) (pc' := 117) dX3_countNumber_114 rfl rfl inX3 (by decide) qw_29 hF (fun r116 hF => ?_)
      refine jj_gI (C := RX0) (T := TX0) (N := 10) (ci := 0) (k := 6) (pc' := 120) dX3_countNumber_117 rfl rfl inX0 (by decide) qw_66 hF (fun x117 hF => ?_)
      exact jj_retI (ty := .int) rfl rfl dX3_countNumber_120 ⟨Nat.le_of_ble_eq_true rfl, Nat.le_of_ble_eq_true rfl⟩ hF
    | 6, hb, ht =>
      cases hb; cases ht
      refine jj_aload_n (j := 0) (i := 0) (pc' := 122) dX3_countNumber_121 rfl rfl rfl ?_
      refine jj_gR (C := RX3) (T := TX3) (N := 8) (ci := 3) (k := 0) (pc' := 125) dX3_countNumber_122 rfl rfl inX3 (by decide) qw_29 hF (fun r118 hF => ?_)
      refine jj_cI (N := M_X0_prize) (kc' := 0) (ks' := 0) (pc' := 128) (jg_V (N := M_X0_prize) (ci := 0) (rest := []) (as := []) cf_X3_277 dX3_countNumber_125 ⟨rfl, rfl⟩ rfl rfl ⟨Nat.le_of_ble_eq_true rfl, Nat.le_of_ble_eq_true rfl⟩ ⟨Nat.le_of_ble_eq_true rfl, Nat.le_of_ble_eq_true rfl⟩ (Nat.le_of_ble_eq_true rfl) (fun X' hX => KX0_prize hX)) rfl rfl rfl rfl ⟨Nat.le_of_ble_eq_true rfl, Nat.le_of_ble_eq_true rfl⟩ rfl hF (fun x120 h119 hF => ?_)
      exact jj_retI (ty := .int) rfl rfl dX3_countNumber_128 ⟨Nat.le_of_ble_eq_true rfl, Nat.le_of_ble_eq_true rfl⟩ hF
    | 7, hb, ht =>
      cases hb; cases ht
      refine jj_aload_n (j := 0) (i := 0) (pc' := 135) dX3_countNumber_134 rfl rfl rfl ?_
      refine jj_gR (C := RX3) (T := TX3) (N := 8) (ci := 3) (k := 0) (pc' := 138) dX3_countNumber_135 rfl rfl inX3 (by decide) qw_29 hF (fun r121 hF => ?_)
      refine jj_gR (C := RX0) (T := TX0) (N := 10) (ci := 0) (k := 2) (pc' := 141) dX3_countNumber_138 rfl rfl inX0 (by decide) qw_46 hF (fun r122 hF => ?_)
      refine jj_iload_n (j := 1) (i := 1) (pc' := 142) dX3_countNumber_141 rfl rfl rfl ?_
      refine jj_bipush (v := (7 : Int32)) (pc' := 144) dX3_countNumber_142 rfl rfl ?_
      refine jj_isub (pc' := 145) dX3_countNumber_144 rfl ?_
      refine jj_iconst (v := (0 : Int32)) (pc' := 146) dX3_countNumber_145 rfl rfl ?_
      refine jj_cI (N := M_X2_at) (kc' := 0) (ks' := 0) (pc' := 149) (jg_V (N := M_X2_at) (ci := 2) (rest := []) (as := [.int (x1 - ((7 : Int32))), .int ((0 : Int32))]) cf_X3_111 dX3_countNumber_146 ⟨rfl, rfl⟩ rfl rfl ⟨Nat.le_of_ble_eq_true rfl, Nat.le_of_ble_eq_true rfl⟩ ⟨Nat.le_of_ble_eq_true rfl, Nat.le_of_ble_eq_true rfl⟩ (Nat.le_of_ble_eq_true rfl) (fun X' hX => KX2_at hX)) rfl rfl rfl rfl ⟨Nat.le_of_ble_eq_true rfl, Nat.le_of_ble_eq_true rfl⟩ rfl hF (fun x124 h123 hF => ?_)
      exact jj_retI (ty := .int) rfl rfl dX3_countNumber_149 ⟨Nat.le_of_ble_eq_true rfl, Nat.le_of_ble_eq_true rfl⟩ hF
    | 8, hb, ht =>
      cases hb; cases ht
      refine jj_aload_n (j := 0) (i := 0) (pc' := 135) dX3_countNumber_134 rfl rfl rfl ?_
      refine jj_gR (C := RX3) (T := TX3) (N := 8) (ci := 3) (k := 0) (pc' := 138) dX3_countNumber_135 rfl rfl inX3 (by decide) qw_29 hF (fun r125 hF => ?_)
      refine jj_gR (C := RX0) (T := TX0) (N := 10) (ci := 0) (k := 2) (pc' := 141) dX3_countNumber_138 rfl rfl inX0 (by decide) qw_46 hF (fun r126 hF => ?_)
      refine jj_iload_n (j := 1) (i := 1) (pc' := 142) dX3_countNumber_141 rfl rfl rfl ?_
      refine jj_bipush (v := (7 : Int32)) (pc' := 144) dX3_countNumber_142 rfl rfl ?_
      refine jj_isub (pc' := 145) dX3_countNumber_144 rfl ?_
      refine jj_iconst (v := (0 : Int32)) (pc' := 146) dX3_countNumber_145 rfl rfl ?_
      refine jj_cI (N := M_X2_at) (kc' := 0) (ks' := 0) (pc' := 149) (jg_V (N := M_X2_at) (ci := 2) (rest := []) (as := [.int (x1 - ((7 : Int32))), .int ((0 : Int32))]) cf_X3_111 dX3_countNumber_146 ⟨rfl, rfl⟩ rfl rfl ⟨Nat.le_of_ble_eq_true rfl, Nat.le_of_ble_eq_true rfl⟩ ⟨Nat.le_of_ble_eq_true rfl, Nat.le_of_ble_eq_true rfl⟩ (Nat.le_of_ble_eq_true rfl) (fun X' hX => KX2_at hX)) rfl rfl rfl rfl ⟨Nat.le_of_ble_eq_true rfl, Nat.le_of_ble_eq_true rfl⟩ rfl hF (fun x128 h127 hF => ?_)
      exact jj_retI (ty := .int) rfl rfl dX3_countNumber_149 ⟨Nat.le_of_ble_eq_true rfl, Nat.le_of_ble_eq_true rfl⟩ hF
    | 9, hb, ht =>
      cases hb; cases ht
      refine jj_aload_n (j := 0) (i := 0) (pc' := 135) dX3_countNumber_134 rfl rfl rfl ?_
      refine jj_gR (C := RX3) (T := TX3) (N := 8) (ci := 3) (k := 0) (pc' := 138) dX3_countNumber_135 rfl rfl inX3 (by decide) qw_29 hF (fun r129 hF => ?_)
      refine jj_gR (C := RX0) (T := TX0) (N := 10) (ci := 0) (k := 2) (pc' := 141) dX3_countNumber_138 rfl rfl inX0 (by decide) qw_46 hF (fun r130 hF => ?_)
      refine jj_iload_n (j := 1) (i := 1) (pc' := 142) dX3_countNumber_141 rfl rfl rfl ?_
      refine jj_bipush (v := (7 : Int32)) (pc' := 144) dX3_countNumber_142 rfl rfl ?_
      refine jj_isub (pc' := 145) dX3_countNumber_144 rfl ?_
      refine jj_iconst (v := (0 : Int32)) (pc' := 146) dX3_countNumber_145 rfl rfl ?_
      refine jj_cI (N := M_X2_at) (kc' := 0) (ks' := 0) (pc' := 149) (jg_V (N := M_X2_at) (ci := 2) (rest := []) (as := [.int (x1 - ((7 : Int32))), .int ((0 : Int32))]) cf_X3_111 dX3_countNumber_146 ⟨rfl, rfl⟩ rfl rfl ⟨Nat.le_of_ble_eq_true rfl, Nat.le_of_ble_eq_true rfl⟩ ⟨Nat.le_of_ble_eq_true rfl, Nat.le_of_ble_eq_true rfl⟩ (Nat.le_of_ble_eq_true rfl) (fun X' hX => KX2_at hX)) rfl rfl rfl rfl ⟨Nat.le_of_ble_eq_true rfl, Nat.le_of_ble_eq_true rfl⟩ rfl hF (fun x132 h131 hF => ?_)
      exact jj_retI (ty := .int) rfl rfl dX3_countNumber_149 ⟨Nat.le_of_ble_eq_true rfl, Nat.le_of_ble_eq_true rfl⟩ hF
    | 10, hb, ht =>
      cases hb; cases ht
      refine jj_aload_n (j := 0) (i := 0) (pc' := 135) dX3_countNumber_134 rfl rfl rfl ?_
      refine jj_gR (C := RX3) (T := TX3) (N := 8) (ci := 3) (k := 0) (pc' := 138) dX3_countNumber_135 rfl rfl inX3 (by decide) qw_29 hF (fun r133 hF => ?_)
      refine jj_gR (C := RX0) (T := TX0) (N := 10) (ci := 0) (k := 2) (pc' := 141) dX3_countNumber_138 rfl rfl inX0 (by decide) qw_46 hF (fun r134 hF => ?_)
      refine jj_iload_n (j := 1) (i := 1) (pc' := 142) dX3_countNumber_141 rfl rfl rfl ?_
      refine jj_bipush (v := (7 : Int32)) (pc' := 144) dX3_countNumber_142 rfl rfl ?_
      refine jj_isub (pc' := 145) dX3_countNumber_144 rfl ?_
      refine jj_iconst (v := (0 : Int32)) (pc' := 146) dX3_countNumber_145 rfl rfl ?_
      refine jj_cI (N := M_X2_at) (kc' := 0) (ks' := 0) (pc' := 149) (jg_V (N := M_X2_at) (ci := 2) (rest := []) (as := [.int (x1 - ((7 : Int32))), .int ((0 : Int32))]) cf_X3_111 dX3_countNumber_146 ⟨rfl, rfl⟩ rfl rfl ⟨Nat.le_of_ble_eq_true rfl, Nat.le_of_ble_eq_true rfl⟩ ⟨Nat.le_of_ble_eq_true rfl, Nat.le_of_ble_eq_true rfl⟩ (Nat.le_of_ble_eq_true rfl) (fun X' hX => KX2_at hX)) rfl rfl rfl rfl ⟨Nat.le_of_ble_eq_true rfl, Nat.le_of_ble_eq_true rfl⟩ rfl hF (fun x136 h135 hF => ?_)
      exact jj_retI (ty := .int) rfl rfl dX3_countNumber_149 ⟨Nat.le_of_ble_eq_true rfl, Nat.le_of_ble_eq_true rfl⟩ hF
    | 11, hb, ht =>
      cases hb; cases ht
      refine jj_aload_n (j := 0) (i := 0) (pc' := 130) dX3_countNumber_129 rfl rfl rfl ?_
      refine jj_gI (C := RX3) (T := TX3) (N := 8) (ci := 3) (k := 6) (pc' := 133) dX3_countNumber_130 rfl rfl inX3 (by decide) qw_37 hF (fun x137 hF => ?_)
      exact jj_retI (ty := .int) rfl rfl dX3_countNumber_133 ⟨Nat.le_of_ble_eq_true rfl, Nat.le_of_ble_eq_true rfl⟩ hF
    | i + 12, hb, ht => exact nomatch (show (none : Option (Option jm_X)) = some b from hb)
  · skip
    refine jj_aload_n (j := 0) (i := 0) (pc' := 135) dX3_countNumber_134 rfl rfl rfl ?_
    refine jj_gR (C := RX3) (T := TX3) (N := 8) (ci := 3) (k := 0) (pc' := 138) dX3_countNumber_135 rfl rfl inX3 (by decide) qw_29 hF (fun r138 hF => ?_)
    refine jj_gR (C := RX0) (T := TX0) (N := 10) (ci := 0) (k := 2) (pc' := 141) dX3_countNumber_138 rfl rfl inX0 (by decide) qw_46 hF (fun r139 hF => ?_)
    refine jj_iload_n (j := 1) (i := 1) (pc' := 142) dX3_countNumber_141 rfl rfl rfl ?_
    refine jj_bipush (v := (7 : Int32)) (pc' := 144) dX3_countNumber_142 rfl rfl ?_
    refine jj_isub (pc' := 145) dX3_countNumber_144 rfl ?_
    refine jj_iconst (v := (0 : Int32)) (pc' := 146) dX3_countNumber_145 rfl rfl ?_
    refine jj_cI (N := M_X2_at) (kc' := 0) (ks' := 0) (pc' := 149) (jg_V (N := M_X2_at) (ci := 2) (rest := []) (as := [.int (x1 - ((7 : Int32))), .int ((0 : Int32))]) cf_X3_111 dX3_countNumber_146 ⟨rfl, rfl⟩ rfl rfl ⟨Nat.le_of_ble_eq_true rfl, Nat.le_of_ble_eq_true rfl⟩ ⟨Nat.le_of_ble_eq_true rfl, Nat.le_of_ble_eq_true rfl⟩ (Nat.le_of_ble_eq_true rfl) (fun X' hX => KX2_at hX)) rfl rfl rfl rfl ⟨Nat.le_of_ble_eq_true rfl, Nat.le_of_ble_eq_true rfl⟩ rfl hF (fun x141 h140 hF => ?_)
    exact jj_retI (ty := .int) rfl rfl dX3_countNumber_149 ⟨Nat.le_of_ble_eq_true rfl, Nat.le_of_ble_eq_true rfl⟩ hF
theorem KX3_countNumber {N : Nat} {a0 : Nat} {x1 : Int32} {h : jm_H} {X : jm_X} (hF : FX3_countNumber N a0 x1 h = some X) : jm_K M_X3_countNumber [.ref a0, .int x1] h X := jk_of rfl (by decide +kernel) rfl rfl (Nat.le_of_ble_eq_true rfl) (JX3_countNumber hF)
set_option maxRecDepth 100000 in
set_option maxHeartbeats 4000000 in
theorem JX3_count {N : Nat} {a0 : Nat} {x1 : Int32} {h : jm_H} {X : jm_X} (hF : FX3_count N a0 x1 h = some X) : jm_J M_X3_count 0 [(0, .ref a0), (1, .int x1)] [] h 0 0 X := by
  unfold FX3_count at hF
  refine jj_iload_n (j := 1) (i := 1) (pc' := 1) dX3_count_0 rfl rfl rfl ?_
  refine jj_bipush (v := (11 : Int32)) (pc' := 3) dX3_count_1 rfl rfl ?_
  refine jj_cV (N := M_X3_requireWhat) (kc' := 1) (ks' := 6) (pc' := 6) (jg_S (N := M_X3_requireWhat) (rest := []) (as := [.int x1, .int ((11 : Int32))]) cf_X3_171 rfl dX3_count_3 rfl rfl ⟨Nat.le_of_ble_eq_true rfl, Nat.le_of_ble_eq_true rfl⟩ ⟨Nat.le_of_ble_eq_true rfl, Nat.le_of_ble_eq_true rfl⟩ (Nat.le_of_ble_eq_true rfl) (fun X' hX => KX3_requireWhat hX)) rfl rfl rfl rfl ⟨Nat.le_of_ble_eq_true rfl, Nat.le_of_ble_eq_true rfl⟩ rfl hF (fun h101 hF => ?_)
  refine jj_aload_n (j := 0) (i := 0) (pc' := 7) dX3_count_6 rfl rfl rfl ?_
  refine jj_iload_n (j := 1) (i := 1) (pc' := 8) dX3_count_7 rfl rfl rfl ?_
  refine jj_cI (N := M_X3_countNumber) (kc' := 1) (ks' := 6) (pc' := 11) (jg_V (N := M_X3_countNumber) (ci := 3) (rest := []) (as := [.int x1]) cf_X3_216 dX3_count_8 ⟨rfl, rfl⟩ rfl rfl ⟨Nat.le_of_ble_eq_true rfl, Nat.le_of_ble_eq_true rfl⟩ ⟨Nat.le_of_ble_eq_true rfl, Nat.le_of_ble_eq_true rfl⟩ (Nat.le_of_ble_eq_true rfl) (fun X' hX => KX3_countNumber hX)) rfl rfl rfl rfl ⟨Nat.le_of_ble_eq_true rfl, Nat.le_of_ble_eq_true rfl⟩ rfl hF (fun x103 h102 hF => ?_)
  exact jj_retI (ty := .int) rfl rfl dX3_count_11 ⟨Nat.le_of_ble_eq_true rfl, Nat.le_of_ble_eq_true rfl⟩ hF
theorem KX3_count {N : Nat} {a0 : Nat} {x1 : Int32} {h : jm_H} {X : jm_X} (hF : FX3_count N a0 x1 h = some X) : jm_K M_X3_count [.ref a0, .int x1] h X := jk_of rfl (by decide +kernel) rfl rfl (Nat.le_of_ble_eq_true rfl) (JX3_count hF)
set_option maxRecDepth 100000 in
set_option maxHeartbeats 4000000 in
theorem JX3_whyNot {N : Nat} {a0 : Nat} {x1 : Int32} {x2 : Int32} {x3 : Int32} {x4 : Int32} {x5 : Int32} {h : jm_H} {X : jm_X} (hF : FX3_whyNot N a0 x1 x2 x3 x4 x5 h = some X) : jm_J M_X3_whyNot 0 [(0, .ref a0), (1, .int x1), (2, .int x2), (3, .int x3), (4, .int x4), (5, .int x5)] [] h 0 0 X := by
  unfold FX3_whyNot at hF
  refine jj_aload_n (j := 0) (i := 0) (pc' := 1) dX3_whyNot_0 rfl rfl rfl ?_
  refine jj_iload_n (j := 1) (i := 1) (pc' := 2) dX3_whyNot_1 rfl rfl rfl ?_
  refine jj_cV (N := M_X3_requireFilm) (kc' := 1) (ks' := 6) (pc' := 5) (jg_V (N := M_X3_requireFilm) (ci := 3) (rest := []) (as := [.int x1]) cf_X3_85 dX3_whyNot_2 ⟨rfl, rfl⟩ rfl rfl ⟨Nat.le_of_ble_eq_true rfl, Nat.le_of_ble_eq_true rfl⟩ ⟨Nat.le_of_ble_eq_true rfl, Nat.le_of_ble_eq_true rfl⟩ (Nat.le_of_ble_eq_true rfl) (fun X' hX => KX3_requireFilm hX)) rfl rfl rfl rfl ⟨Nat.le_of_ble_eq_true rfl, Nat.le_of_ble_eq_true rfl⟩ rfl hF (fun h101 hF => ?_)
  refine jj_iload_n (j := 2) (i := 2) (pc' := 6) dX3_whyNot_5 rfl rfl rfl ?_
  refine jj_cV (N := M_X3_requireScreen) (kc' := 2) (ks' := 12) (pc' := 9) (jg_S (N := M_X3_requireScreen) (rest := []) (as := [.int x2]) cf_X3_66 rfl dX3_whyNot_6 rfl rfl ⟨Nat.le_of_ble_eq_true rfl, Nat.le_of_ble_eq_true rfl⟩ ⟨Nat.le_of_ble_eq_true rfl, Nat.le_of_ble_eq_true rfl⟩ (Nat.le_of_ble_eq_true rfl) (fun X' hX => KX3_requireScreen hX)) rfl rfl rfl rfl ⟨Nat.le_of_ble_eq_true rfl, Nat.le_of_ble_eq_true rfl⟩ rfl hF (fun h102 hF => ?_)
  refine jj_iload_n (j := 3) (i := 3) (pc' := 10) dX3_whyNot_9 rfl rfl rfl ?_
  refine jj_cV (N := M_X3_requireMinute) (kc' := 3) (ks' := 18) (pc' := 13) (jg_S (N := M_X3_requireMinute) (rest := []) (as := [.int x3]) cf_X3_88 rfl dX3_whyNot_10 rfl rfl ⟨Nat.le_of_ble_eq_true rfl, Nat.le_of_ble_eq_true rfl⟩ ⟨Nat.le_of_ble_eq_true rfl, Nat.le_of_ble_eq_true rfl⟩ (Nat.le_of_ble_eq_true rfl) (fun X' hX => KX3_requireMinute hX)) rfl rfl rfl rfl ⟨Nat.le_of_ble_eq_true rfl, Nat.le_of_ble_eq_true rfl⟩ rfl hF (fun h103 hF => ?_)
  refine jj_iload (j := 4) (i := 4) (pc' := 15) dX3_whyNot_13 rfl rfl ?_
  refine jj_iconst (v := (0 : Int32)) (pc' := 16) dX3_whyNot_15 rfl rfl ?_
  refine jj_bipush (v := (20 : Int32)) (pc' := 18) dX3_whyNot_16 rfl rfl ?_
  refine jj_cI (N := M_X3_isWithin) (kc' := 3) (ks' := 18) (pc' := 21) (jg_S (N := M_X3_isWithin) (rest := []) (as := [.int x4, .int ((0 : Int32)), .int ((20 : Int32))]) cf_X3_34 rfl dX3_whyNot_18 rfl rfl ⟨Nat.le_of_ble_eq_true rfl, Nat.le_of_ble_eq_true rfl⟩ ⟨Nat.le_of_ble_eq_true rfl, Nat.le_of_ble_eq_true rfl⟩ (Nat.le_of_ble_eq_true rfl) (fun X' hX => KX3_isWithin hX)) rfl rfl rfl rfl ⟨Nat.le_of_ble_eq_true rfl, Nat.le_of_ble_eq_true rfl⟩ rfl hF (fun x105 h104 hF => ?_)
  refine jj_cV (N := M_X3_requireArgument) (kc' := 4) (ks' := 24) (pc' := 24) (jg_S (N := M_X3_requireArgument) (rest := []) (as := [.int x105]) cf_X3_38 rfl dX3_whyNot_21 rfl rfl ⟨Nat.le_of_ble_eq_true rfl, Nat.le_of_ble_eq_true rfl⟩ ⟨Nat.le_of_ble_eq_true rfl, Nat.le_of_ble_eq_true rfl⟩ (Nat.le_of_ble_eq_true rfl) (fun X' hX => KX3_requireArgument hX)) rfl rfl rfl rfl ⟨Nat.le_of_ble_eq_true rfl, Nat.le_of_ble_eq_true rfl⟩ rfl hF (fun h106 hF => ?_)
  refine jj_iload (j := 5) (i := 5) (pc' := 26) dX3_whyNot_24 rfl rfl ?_
  refine jj_iconst (v := (2 : Int32)) (pc' := 27) dX3_whyNot_26 rfl rfl ?_
  refine jj_cV (N := M_X3_requireWhat) (kc' := 5) (ks' := 30) (pc' := 30) (jg_S (N := M_X3_requireWhat) (rest := []) (as := [.int x5, .int ((2 : Int32))]) cf_X3_171 rfl dX3_whyNot_27 rfl rfl ⟨Nat.le_of_ble_eq_true rfl, Nat.le_of_ble_eq_true rfl⟩ ⟨Nat.le_of_ble_eq_true rfl, Nat.le_of_ble_eq_true rfl⟩ (Nat.le_of_ble_eq_true rfl) (fun X' hX => KX3_requireWhat hX)) rfl rfl rfl rfl ⟨Nat.le_of_ble_eq_true rfl, Nat.le_of_ble_eq_true rfl⟩ rfl hF (fun h107 hF => ?_)
  refine jj_aload_n (j := 0) (i := 0) (pc' := 31) dX3_whyNot_30 rfl rfl rfl ?_
  refine jj_gR (C := RX3) (T := TX3) (N := 8) (ci := 3) (k := 0) (pc' := 34) dX3_whyNot_31 rfl rfl inX3 (by decide) qw_29 hF (fun r108 hF => ?_)
  refine jj_iload_n (j := 1) (i := 1) (pc' := 35) dX3_whyNot_34 rfl rfl rfl ?_
  refine jj_iload_n (j := 2) (i := 2) (pc' := 36) dX3_whyNot_35 rfl rfl rfl ?_
  refine jj_iload_n (j := 3) (i := 3) (pc' := 37) dX3_whyNot_36 rfl rfl rfl ?_
  refine jj_iload (j := 4) (i := 4) (pc' := 39) dX3_whyNot_37 rfl rfl ?_
  refine jj_cI (N := M_X0_refusal) (kc' := 5) (ks' := 30) (pc' := 42) (jg_V (N := M_X0_refusal) (ci := 0) (rest := []) (as := [.int x1, .int x2, .int x3, .int x4]) cf_X3_91 dX3_whyNot_39 ⟨rfl, rfl⟩ rfl rfl ⟨Nat.le_of_ble_eq_true rfl, Nat.le_of_ble_eq_true rfl⟩ ⟨Nat.le_of_ble_eq_true rfl, Nat.le_of_ble_eq_true rfl⟩ (Nat.le_of_ble_eq_true rfl) (fun X' hX => KX0_refusal hX)) rfl rfl rfl rfl ⟨Nat.le_of_ble_eq_true rfl, Nat.le_of_ble_eq_true rfl⟩ rfl hF (fun x110 h109 hF => ?_)
  refine jj_istore (i := 6) (ls' := [(6, .int x110), (0, .ref a0), (1, .int x1), (2, .int x2), (3, .int x3), (4, .int x4), (5, .int x5)]) (pc' := 44) dX3_whyNot_42 (Nat.le_of_ble_eq_true rfl) rfl rfl ?_
  refine jj_iload (j := 6) (i := 5) (pc' := 46) dX3_whyNot_44 rfl rfl ?_
  refine jj_if_ne (tgt := 52) (pc' := 49) dX3_whyNot_46 rfl rfl (fun hc hF => ?_) (fun hc hF => ?_) hF
  · skip
    refine jj_aload_n (j := 1) (i := 0) (pc' := 53) dX3_whyNot_52 rfl rfl rfl ?_
    refine jj_gR (C := RX3) (T := TX3) (N := 8) (ci := 3) (k := 0) (pc' := 56) dX3_whyNot_53 rfl rfl inX3 (by decide) qw_29 hF (fun r111 hF => ?_)
    refine jj_iload_n (j := 2) (i := 1) (pc' := 57) dX3_whyNot_56 rfl rfl rfl ?_
    refine jj_iload_n (j := 3) (i := 2) (pc' := 58) dX3_whyNot_57 rfl rfl rfl ?_
    refine jj_iload_n (j := 4) (i := 3) (pc' := 59) dX3_whyNot_58 rfl rfl rfl ?_
    refine jj_iload (j := 5) (i := 4) (pc' := 61) dX3_whyNot_59 rfl rfl ?_
    refine jj_iload (j := 0) (i := 6) (pc' := 63) dX3_whyNot_61 rfl rfl ?_
    refine jj_cI (N := M_X0_inWay) (kc' := 5) (ks' := 30) (pc' := 66) (jg_V (N := M_X0_inWay) (ci := 0) (rest := []) (as := [.int x1, .int x2, .int x3, .int x4, .int x110]) cf_X3_219 dX3_whyNot_63 ⟨rfl, rfl⟩ rfl rfl ⟨Nat.le_of_ble_eq_true rfl, Nat.le_of_ble_eq_true rfl⟩ ⟨Nat.le_of_ble_eq_true rfl, Nat.le_of_ble_eq_true rfl⟩ (Nat.le_of_ble_eq_true rfl) (fun X' hX => KX0_inWay hX)) rfl rfl rfl rfl ⟨Nat.le_of_ble_eq_true rfl, Nat.le_of_ble_eq_true rfl⟩ rfl hF (fun x113 h112 hF => ?_)
    refine jj_istore (i := 7) (ls' := [(7, .int x113), (6, .int x110), (0, .ref a0), (1, .int x1), (2, .int x2), (3, .int x3), (4, .int x4), (5, .int x5)]) (pc' := 68) dX3_whyNot_66 (Nat.le_of_ble_eq_true rfl) rfl rfl ?_
    refine jj_iload (j := 7) (i := 5) (pc' := 70) dX3_whyNot_68 rfl rfl ?_
    refine jj_iconst (v := (1 : Int32)) (pc' := 71) dX3_whyNot_70 rfl rfl ?_
    refine jj_icmp_ne (tgt := 77) (pc' := 74) dX3_whyNot_71 rfl rfl (fun hc hF => ?_) (fun hc hF => ?_) hF
    · skip
      refine jj_iload (j := 1) (i := 6) (pc' := 79) dX3_whyNot_77 rfl rfl ?_
      refine jj_iconst (v := (4 : Int32)) (pc' := 80) dX3_whyNot_79 rfl rfl ?_
      refine jj_icmp_ne (tgt := 99) (pc' := 83) dX3_whyNot_80 rfl rfl (fun hc hF => ?_) (fun hc hF => ?_) hF
      · skip
        refine jj_iconst (v := (-1 : Int32)) (pc' := 100) dX3_whyNot_99 rfl rfl ?_
        exact jj_retI (ty := .int) rfl rfl dX3_whyNot_100 ⟨Nat.le_of_ble_eq_true rfl, Nat.le_of_ble_eq_true rfl⟩ hF
      · skip
        refine jj_aload_n (j := 2) (i := 0) (pc' := 84) dX3_whyNot_83 rfl rfl rfl ?_
        refine jj_gR (C := RX3) (T := TX3) (N := 8) (ci := 3) (k := 0) (pc' := 87) dX3_whyNot_84 rfl rfl inX3 (by decide) qw_29 hF (fun r114 hF => ?_)
        refine jj_iload_n (j := 3) (i := 1) (pc' := 88) dX3_whyNot_87 rfl rfl rfl ?_
        refine jj_iload_n (j := 5) (i := 3) (pc' := 89) dX3_whyNot_88 rfl rfl rfl ?_
        refine jj_iload (j := 6) (i := 4) (pc' := 91) dX3_whyNot_89 rfl rfl ?_
        refine jj_iload (j := 0) (i := 7) (pc' := 93) dX3_whyNot_91 rfl rfl ?_
        refine jj_cI (N := M_X0_clashingReel) (kc' := 5) (ks' := 30) (pc' := 96) (jg_V (N := M_X0_clashingReel) (ci := 0) (rest := []) (as := [.int x1, .int x3, .int x4, .int x113]) cf_X3_222 dX3_whyNot_93 ⟨rfl, rfl⟩ rfl rfl ⟨Nat.le_of_ble_eq_true rfl, Nat.le_of_ble_eq_true rfl⟩ ⟨Nat.le_of_ble_eq_true rfl, Nat.le_of_ble_eq_true rfl⟩ (Nat.le_of_ble_eq_true rfl) (fun X' hX => KX0_clashingReel hX)) rfl rfl rfl rfl ⟨Nat.le_of_ble_eq_true rfl, Nat.le_of_ble_eq_true rfl⟩ rfl hF (fun x116 h115 hF => ?_)
        refine jj_goto (tgt := 100) dX3_whyNot_96 rfl ?_
        exact jj_retI (ty := .int) rfl rfl dX3_whyNot_100 ⟨Nat.le_of_ble_eq_true rfl, Nat.le_of_ble_eq_true rfl⟩ hF
    · skip
      refine jj_iload (j := 0) (i := 7) (pc' := 76) dX3_whyNot_74 rfl rfl ?_
      exact jj_retI (ty := .int) rfl rfl dX3_whyNot_76 ⟨Nat.le_of_ble_eq_true rfl, Nat.le_of_ble_eq_true rfl⟩ hF
  · skip
    refine jj_iload (j := 0) (i := 6) (pc' := 51) dX3_whyNot_49 rfl rfl ?_
    exact jj_retI (ty := .int) rfl rfl dX3_whyNot_51 ⟨Nat.le_of_ble_eq_true rfl, Nat.le_of_ble_eq_true rfl⟩ hF
theorem KX3_whyNot {N : Nat} {a0 : Nat} {x1 : Int32} {x2 : Int32} {x3 : Int32} {x4 : Int32} {x5 : Int32} {h : jm_H} {X : jm_X} (hF : FX3_whyNot N a0 x1 x2 x3 x4 x5 h = some X) : jm_K M_X3_whyNot [.ref a0, .int x1, .int x2, .int x3, .int x4, .int x5] h X := jk_of rfl (by decide +kernel) rfl rfl (Nat.le_of_ble_eq_true rfl) (JX3_whyNot hF)

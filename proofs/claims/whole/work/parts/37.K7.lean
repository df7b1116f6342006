set_option maxRecDepth 100000 in
set_option maxHeartbeats 4000000 in
theorem BX4_seatsOf_4 (N : Nat) : ∀ (n : Nat) (a0 : Nat) (x1 : Int32) (x2 : Int32) (x3 : Int32) (h : jm_H) (X : jm_X), FX4_seatsOf_4 N n a0 x1 x2 x3 h = some X → jm_J M_X4_seatsOf 4 [(0, .ref a0), (1, .int x1), (2, .int x2), (3, .int x3)] [] h 0 0 X := by
  intro n
  induction n with
  | zero =>
    intro a0 x1 x2 x3 h X hF
    exact nomatch (show (none : Option jm_X) = some X from hF)
  | succ n ih =>
    intro a0 x1 x2 x3 h X hF
    rw [FX4_seatsOf_4] at hF
    refine jj_iload_n (j := 3) (i := 3) (pc' := 5) dX4_seatsOf_4 rfl rfl rfl ?_
    refine jj_aload_n (j := 0) (i := 0) (pc' := 6) dX4_seatsOf_5 rfl rfl rfl ?_
    refine jj_gR (C := RX4) (T := TX4) (N := 15) (ci := 4) (k := 0) (pc' := 9) dX4_seatsOf_6 rfl rfl inX4 (by decide) qw_73 hF (fun r101 hF => ?_)
    refine jj_iconst (v := (1 : Int32)) (pc' := 10) dX4_seatsOf_9 rfl rfl ?_
    refine jj_ldI (pc' := 11) dX4_seatsOf_10 rfl hF (fun x102 hF => ?_)
    refine jj_icmp_ge (tgt := 56) (pc' := 14) dX4_seatsOf_11 rfl rfl (fun hc hF => ?_) (fun hc hF => ?_) hF
    · skip
      refine jj_iload_n (j := 2) (i := 2) (pc' := 57) dX4_seatsOf_56 rfl rfl rfl ?_
      exact jj_retI (ty := .int) rfl rfl dX4_seatsOf_57 ⟨Nat.le_of_ble_eq_true rfl, Nat.le_of_ble_eq_true rfl⟩ hF
    · skip
      refine jj_iload_n (j := 2) (i := 2) (pc' := 15) dX4_seatsOf_14 rfl rfl rfl ?_
      refine jj_iload_n (j := 1) (i := 1) (pc' := 16) dX4_seatsOf_15 rfl rfl rfl ?_
      refine jj_iconst (v := (-1 : Int32)) (pc' := 17) dX4_seatsOf_16 rfl rfl ?_
      refine jj_icmp_eq (tgt := 30) (pc' := 20) dX4_seatsOf_17 rfl rfl (fun hc hF => ?_) (fun hc hF => ?_) hF
      · skip
        refine jj_aload_n (j := 0) (i := 0) (pc' := 31) dX4_seatsOf_30 rfl rfl rfl ?_
        refine jj_gR (C := RX4) (T := TX4) (N := 15) (ci := 4) (k := 0) (pc' := 34) dX4_seatsOf_31 rfl rfl inX4 (by decide) qw_73 hF (fun r103 hF => ?_)
        refine jj_bipush (v := (7 : Int32)) (pc' := 36) dX4_seatsOf_34 rfl rfl ?_
        refine jj_aload_n (j := 0) (i := 0) (pc' := 37) dX4_seatsOf_36 rfl rfl rfl ?_
        refine jj_iload_n (j := 3) (i := 3) (pc' := 38) dX4_seatsOf_37 rfl rfl rfl ?_
        refine jj_iconst (v := (1 : Int32)) (pc' := 39) dX4_seatsOf_38 rfl rfl ?_
        refine jj_cI (N := M_X4_of) (kc' := 0) (ks' := 0) (pc' := 42) (jg_V (N := M_X4_of) (ci := 4) (rest := [.int ((7 : Int32)), .ref r103, .int x2]) (as := [.int x3, .int ((1 : Int32))]) cf_X4_47 dX4_seatsOf_39 ⟨rfl, rfl⟩ rfl rfl ⟨Nat.le_of_ble_eq_true rfl, Nat.le_of_ble_eq_true rfl⟩ ⟨Nat.le_of_ble_eq_true rfl, Nat.le_of_ble_eq_true rfl⟩ (Nat.le_of_ble_eq_true rfl) (fun X' hX => KX4_of hX)) rfl rfl rfl rfl ⟨Nat.le_of_ble_eq_true rfl, Nat.le_of_ble_eq_true rfl⟩ rfl hF (fun x105 h104 hF => ?_)
        refine jj_iadd (pc' := 43) dX4_seatsOf_42 rfl ?_
        refine jj_ldI (pc' := 44) dX4_seatsOf_43 rfl hF (fun x106 hF => ?_)
        refine jj_goto (tgt := 48) dX4_seatsOf_44 rfl ?_
        refine jj_iadd (pc' := 49) dX4_seatsOf_48 rfl ?_
        refine jj_istore_n (i := 2) (ls' := [(2, .int (x2 + x106)), (0, .ref a0), (1, .int x1), (3, .int x3)]) (pc' := 50) dX4_seatsOf_49 rfl (Nat.le_of_ble_eq_true rfl) rfl rfl ?_
        refine jj_iinc (i := 3) (j := 3) (v := x3 + (1 : Int32)) (ls' := [(3, .int (x3 + (1 : Int32))), (2, .int (x2 + x106)), (0, .ref a0), (1, .int x1)]) (pc' := 53) dX4_seatsOf_50 rfl rfl (Nat.le_of_ble_eq_true rfl) rfl rfl ?_
        refine jj_goto (tgt := 4) dX4_seatsOf_53 rfl ?_
        exact jj_pick [2, 3, 1, 0] rfl (ih a0 x1 (x2 + x106) (x3 + (1 : Int32)) h104 _ hF)
      · skip
        refine jj_aload_n (j := 0) (i := 0) (pc' := 21) dX4_seatsOf_20 rfl rfl rfl ?_
        refine jj_iload_n (j := 3) (i := 3) (pc' := 22) dX4_seatsOf_21 rfl rfl rfl ?_
        refine jj_iconst (v := (0 : Int32)) (pc' := 23) dX4_seatsOf_22 rfl rfl ?_
        refine jj_cI (N := M_X4_of) (kc' := 0) (ks' := 0) (pc' := 26) (jg_V (N := M_X4_of) (ci := 4) (rest := [.int x2]) (as := [.int x3, .int ((0 : Int32))]) cf_X4_47 dX4_seatsOf_23 ⟨rfl, rfl⟩ rfl rfl ⟨Nat.le_of_ble_eq_true rfl, Nat.le_of_ble_eq_true rfl⟩ ⟨Nat.le_of_ble_eq_true rfl, Nat.le_of_ble_eq_true rfl⟩ (Nat.le_of_ble_eq_true rfl) (fun X' hX => KX4_of hX)) rfl rfl rfl rfl ⟨Nat.le_of_ble_eq_true rfl, Nat.le_of_ble_eq_true rfl⟩ rfl hF (fun x108 h107 hF => ?_)
        refine jj_iload_n (j := 1) (i := 1) (pc' := 27) dX4_seatsOf_26 rfl rfl rfl ?_
        refine jj_icmp_ne (tgt := 47) (pc' := 30) dX4_seatsOf_27 rfl rfl (fun hc hF => ?_) (fun hc hF => ?_) hF
        · skip
          refine jj_iconst (v := (0 : Int32)) (pc' := 48) dX4_seatsOf_47 rfl rfl ?_
          refine jj_iadd (pc' := 49) dX4_seatsOf_48 rfl ?_
          refine jj_istore_n (i := 2) (ls' := [(2, .int (x2 + ((0 : Int32)))), (0, .ref a0), (1, .int x1), (3, .int x3)]) (pc' := 50) dX4_seatsOf_49 rfl (Nat.le_of_ble_eq_true rfl) rfl rfl ?_
          refine jj_iinc (i := 3) (j := 3) (v := x3 + (1 : Int32)) (ls' := [(3, .int (x3 + (1 : Int32))), (2, .int (x2 + ((0 : Int32)))), (0, .ref a0), (1, .int x1)]) (pc' := 53) dX4_seatsOf_50 rfl rfl (Nat.le_of_ble_eq_true rfl) rfl rfl ?_
          refine jj_goto (tgt := 4) dX4_seatsOf_53 rfl ?_
          exact jj_pick [2, 3, 1, 0] rfl (ih a0 x1 (x2 + ((0 : Int32))) (x3 + (1 : Int32)) h107 _ hF)
        · skip
          refine jj_aload_n (j := 0) (i := 0) (pc' := 31) dX4_seatsOf_30 rfl rfl rfl ?_
          refine jj_gR (C := RX4) (T := TX4) (N := 15) (ci := 4) (k := 0) (pc' := 34) dX4_seatsOf_31 rfl rfl inX4 (by decide) qw_73 hF (fun r109 hF => ?_)
          refine jj_bipush (v := (7 : Int32)) (pc' := 36) dX4_seatsOf_34 rfl rfl ?_
          refine jj_aload_n (j := 0) (i := 0) (pc' := 37) dX4_seatsOf_36 rfl rfl rfl ?_
          refine jj_iload_n (j := 3) (i := 3) (pc' := 38) dX4_seatsOf_37 rfl rfl rfl ?_
          refine jj_iconst (v := (1 : Int32)) (pc' := 39) dX4_seatsOf_38 rfl rfl ?_
          refine jj_cI (N := M_X4_of) (kc' := 0) (ks' := 0) (pc' := 42) (jg_V (N := M_X4_of) (ci := 4) (rest := [.int ((7 : Int32)), .ref r109, .int x2]) (as := [.int x3, .int ((1 : Int32))]) cf_X4_47 dX4_seatsOf_39 ⟨rfl, rfl⟩ rfl rfl ⟨Nat.le_of_ble_eq_true rfl, Nat.le_of_ble_eq_true rfl⟩ ⟨Nat.le_of_ble_eq_true rfl, Nat.le_of_ble_eq_true rfl⟩ (Nat.le_of_ble_eq_true rfl) (fun X' hX => KX4_of hX)) rfl rfl rfl rfl ⟨Nat.le_of_ble_eq_true rfl, Nat.le_of_ble_eq_true rfl⟩ rfl hF (fun x111 h110 hF => ?_)
          refine jj_iadd (pc' := 43) dX4_seatsOf_42 rfl ?_
          refine jj_ldI (pc' := 44) dX4_seatsOf_43 rfl hF (fun x112 hF => ?_)
          refine jj_goto (tgt := 48) dX4_seatsOf_44 rfl ?_
          refine jj_iadd (pc' := 49) dX4_seatsOf_48 rfl ?_
          refine jj_istore_n (i := 2) (ls' := [(2, .int (x2 + x112)), (0, .ref a0), (1, .int x1), (3, .int x3)]) (pc' := 50) dX4_seatsOf_49 rfl (Nat.le_of_ble_eq_true rfl) rfl rfl ?_
          refine jj_iinc (i := 3) (j := 3) (v := x3 + (1 : Int32)) (ls' := [(3, .int (x3 + (1 : Int32))), (2, .int (x2 + x112)), (0, .ref a0), (1, .int x1)]) (pc' := 53) dX4_seatsOf_50 rfl rfl (Nat.le_of_ble_eq_true rfl) rfl rfl ?_
          refine jj_goto (tgt := 4) dX4_seatsOf_53 rfl ?_
          exact jj_pick [2, 3, 1, 0] rfl (ih a0 x1 (x2 + x112) (x3 + (1 : Int32)) h110 _ hF)
set_option maxRecDepth 100000 in
set_option maxHeartbeats 4000000 in
theorem JX4_seatsOf {N : Nat} {a0 : Nat} {x1 : Int32} {h : jm_H} {X : jm_X} (hF : FX4_seatsOf N a0 x1 h = some X) : jm_J M_X4_seatsOf 0 [(0, .ref a0), (1, .int x1)] [] h 0 0 X := by
  unfold FX4_seatsOf at hF
  refine jj_iconst (v := (0 : Int32)) (pc' := 1) dX4_seatsOf_0 rfl rfl ?_
  refine jj_istore_n (i := 2) (ls' := [(2, .int ((0 : Int32))), (0, .ref a0), (1, .int x1)]) (pc' := 2) dX4_seatsOf_1 rfl (Nat.le_of_ble_eq_true rfl) rfl rfl ?_
  refine jj_iconst (v := (0 : Int32)) (pc' := 3) dX4_seatsOf_2 rfl rfl ?_
  refine jj_istore_n (i := 3) (ls' := [(3, .int ((0 : Int32))), (2, .int ((0 : Int32))), (0, .ref a0), (1, .int x1)]) (pc' := 4) dX4_seatsOf_3 rfl (Nat.le_of_ble_eq_true rfl) rfl rfl ?_
  exact jj_pick [2, 3, 1, 0] rfl (BX4_seatsOf_4 N N a0 x1 ((0 : Int32)) ((0 : Int32)) h _ hF)
theorem KX4_seatsOf {N : Nat} {a0 : Nat} {x1 : Int32} {h : jm_H} {X : jm_X} (hF : FX4_seatsOf N a0 x1 h = some X) : jm_K M_X4_seatsOf [.ref a0, .int x1] h X := jk_of rfl (by decide +kernel) rfl rfl (Nat.le_of_ble_eq_true rfl) (JX4_seatsOf hF)
set_option maxRecDepth 100000 in
set_option maxHeartbeats 4000000 in
theorem BX4_seers_4 (N : Nat) : ∀ (n : Nat) (a0 : Nat) (x1 : Int32) (x2 : Int32) (x3 : Int32) (h : jm_H) (X : jm_X), FX4_seers_4 N n a0 x1 x2 x3 h = some X → jm_J M_X4_seers 4 [(0, .ref a0), (1, .int x1), (2, .int x2), (3, .int x3)] [] h 0 0 X := by
  intro n
  induction n with
  | zero =>
    intro a0 x1 x2 x3 h X hF
    exact nomatch (show (none : Option jm_X) = some X from hF)
  | succ n ih =>
    intro a0 x1 x2 x3 h X hF
    rw [FX4_seers_4] at hF
    refine jj_iload_n (j := 3) (i := 3) (pc' := 5) dX4_seers_4 rfl rfl rfl ?_
    refine jj_iconst (v := (3 : Int32)) (pc' := 6) dX4_seers_5 rfl rfl ?_
    refine jj_icmp_ge (tgt := 34) (pc' := 9) dX4_seers_6 rfl rfl (fun hc hF => ?_) (fun hc hF => ?_) hF
    · skip
      refine jj_iload_n (j := 2) (i := 2) (pc' := 35) dX4_seers_34 rfl rfl rfl ?_
      exact jj_retI (ty := .int) rfl rfl dX4_seers_35 ⟨Nat.le_of_ble_eq_true rfl, Nat.le_of_ble_eq_true rfl⟩ hF
    · skip
      refine jj_iload_n (j := 2) (i := 2) (pc' := 10) dX4_seers_9 rfl rfl rfl ?_
      refine jj_aload_n (j := 0) (i := 0) (pc' := 11) dX4_seers_10 rfl rfl rfl ?_
      refine jj_iload_n (j := 3) (i := 3) (pc' := 12) dX4_seers_11 rfl rfl rfl ?_
      refine jj_iload_n (j := 1) (i := 1) (pc' := 13) dX4_seers_12 rfl rfl rfl ?_
      refine jj_cI (N := M_X4_hasSeen) (kc' := 0) (ks' := 0) (pc' := 16) (jg_V (N := M_X4_hasSeen) (ci := 4) (rest := [.int x2]) (as := [.int x3, .int x1]) cf_X4_134 dX4_seers_13 ⟨rfl, rfl⟩ rfl rfl ⟨Nat.le_of_ble_eq_true rfl, Nat.le_of_ble_eq_true rfl⟩ ⟨Nat.le_of_ble_eq_true rfl, Nat.le_of_ble_eq_true rfl⟩ (Nat.le_of_ble_eq_true rfl) (fun X' hX => KX4_hasSeen hX)) rfl rfl rfl rfl ⟨Nat.le_of_ble_eq_true rfl, Nat.le_of_ble_eq_true rfl⟩ rfl hF (fun x102 h101 hF => ?_)
      refine jj_if_eq (tgt := 25) (pc' := 19) dX4_seers_16 rfl rfl (fun hc hF => ?_) (fun hc hF => ?_) hF
      · skip
        refine jj_iconst (v := (0 : Int32)) (pc' := 26) dX4_seers_25 rfl rfl ?_
        refine jj_ior (pc' := 27) dX4_seers_26 rfl ?_
        refine jj_istore_n (i := 2) (ls' := [(2, .int (x2 ||| ((0 : Int32)))), (0, .ref a0), (1, .int x1), (3, .int x3)]) (pc' := 28) dX4_seers_27 rfl (Nat.le_of_ble_eq_true rfl) rfl rfl ?_
        refine jj_iinc (i := 3) (j := 3) (v := x3 + (1 : Int32)) (ls' := [(3, .int (x3 + (1 : Int32))), (2, .int (x2 ||| ((0 : Int32)))), (0, .ref a0), (1, .int x1)]) (pc' := 31) dX4_seers_28 rfl rfl (Nat.le_of_ble_eq_true rfl) rfl rfl ?_
        refine jj_goto (tgt := 4) dX4_seers_31 rfl ?_
        exact jj_pick [2, 3, 1, 0] rfl (ih a0 x1 (x2 ||| ((0 : Int32))) (x3 + (1 : Int32)) h101 _ hF)
      · skip
        refine jj_iconst (v := (1 : Int32)) (pc' := 20) dX4_seers_19 rfl rfl ?_
        refine jj_iload_n (j := 3) (i := 3) (pc' := 21) dX4_seers_20 rfl rfl rfl ?_
        refine jj_ishl (pc' := 22) dX4_seers_21 rfl ?_
        refine jj_goto (tgt := 26) dX4_seers_22 rfl ?_
        refine jj_ior (pc' := 27) dX4_seers_26 rfl ?_
        refine jj_istore_n (i := 2) (ls' := [(2, .int (x2 ||| (((1 : Int32)) <<< (x3 &&& 31)))), (0, .ref a0), (1, .int x1), (3, .int x3)]) (pc' := 28) dX4_seers_27 rfl (Nat.le_of_ble_eq_true rfl) rfl rfl ?_
        refine jj_iinc (i := 3) (j := 3) (v := x3 + (1 : Int32)) (ls' := [(3, .int (x3 + (1 : Int32))), (2, .int (x2 ||| (((1 : Int32)) <<< (x3 &&& 31)))), (0, .ref a0), (1, .int x1)]) (pc' := 31) dX4_seers_28 rfl rfl (Nat.le_of_ble_eq_true rfl) rfl rfl ?_
        refine jj_goto (tgt := 4) dX4_seers_31 rfl ?_
        exact jj_pick [2, 3, 1, 0] rfl (ih a0 x1 (x2 ||| (((1 : Int32)) <<< (x3 &&& 31))) (x3 + (1 : Int32)) h101 _ hF)
set_option maxRecDepth 100000 in
set_option maxHeartbeats 4000000 in
theorem JX4_seers {N : Nat} {a0 : Nat} {x1 : Int32} {h : jm_H} {X : jm_X} (hF : FX4_seers N a0 x1 h = some X) : jm_J M_X4_seers 0 [(0, .ref a0), (1, .int x1)] [] h 0 0 X := by
  unfold FX4_seers at hF
  refine jj_iconst (v := (0 : Int32)) (pc' := 1) dX4_seers_0 rfl rfl ?_
  refine jj_istore_n (i := 2) (ls' := [(2, .int ((0 : Int32))), (0, .ref a0), (1, .int x1)]) (pc' := 2) dX4_seers_1 rfl (Nat.le_of_ble_eq_true rfl) rfl rfl ?_
  refine jj_iconst (v := (0 : Int32)) (pc' := 3) dX4_seers_2 rfl rfl ?_
  refine jj_istore_n (i := 3) (ls' := [(3, .int ((0 : Int32))), (2, .int ((0 : Int32))), (0, .ref a0), (1, .int x1)]) (pc' := 4) dX4_seers_3 rfl (Nat.le_of_ble_eq_true rfl) rfl rfl ?_
  exact jj_pick [2, 3, 1, 0] rfl (BX4_seers_4 N N a0 x1 ((0 : Int32)) ((0 : Int32)) h _ hF)
theorem KX4_seers {N : Nat} {a0 : Nat} {x1 : Int32} {h : jm_H} {X : jm_X} (hF : FX4_seers N a0 x1 h = some X) : jm_K M_X4_seers [.ref a0, .int x1] h X := jk_of rfl (by decide +kernel) rfl rfl (Nat.le_of_ble_eq_true rfl) (JX4_seers hF)
set_option maxRecDepth 100000 in
set_option maxHeartbeats 4000000 in
theorem BX4_points_4 (N : Nat) : ∀ (n : Nat) (a0 : Nat) (x1 : Int32) (x2 : Int32) (x3 : Int32) (h : jm_H) (X : jm_X), FX4_points_4 N n a0 x1 x2 x3 h = some X → jm_J M_X4_points 4 [(0, .ref a0), (1, .int x1), (2, .int x2), (3, .int x3)] [] h 0 0 X := by
  intro n
  induction n with
  | zero =>
    intro a0 x1 x2 x3 h X hF
    exact nomatch (show (none : Option jm_X) = some X from hF)
  | succ n ih =>
    intro a0 x1 x2 x3 h X hF
    rw [FX4_points_4] at hF
    refine jj_iload_n (j := 3) (i := 3) (pc' := 5) dX4_points_4 rfl rfl rfl ?_
    refine jj_iconst (v := (3 : Int32)) (pc' := 6) dX4_points_5 rfl rfl ?_
    refine jj_icmp_ge (tgt := 45) (pc' := 9) dX4_points_6 rfl rfl (fun hc hF => ?_) (fun hc hF => ?_) hF
    · skip
      refine jj_iload_n (j := 2) (i := 2) (pc' := 46) dX4_points_45 rfl rfl rfl ?_
      exact jj_retI (ty := .int) rfl rfl dX4_points_46 ⟨Nat.le_of_ble_eq_true rfl, Nat.le_of_ble_eq_true rfl⟩ hF
    · skip
      refine jj_iload_n (j := 2) (i := 2) (pc' := 10) dX4_points_9 rfl rfl rfl ?_
      refine jj_aload_n (j := 0) (i := 0) (pc' := 11) dX4_points_10 rfl rfl rfl ?_
      refine jj_iload_n (j := 3) (i := 3) (pc' := 12) dX4_points_11 rfl rfl rfl ?_
      refine jj_iload_n (j := 1) (i := 1) (pc' := 13) dX4_points_12 rfl rfl rfl ?_
      refine jj_cI (N := M_X4_hasSeen) (kc' := 0) (ks' := 0) (pc' := 16) (jg_V (N := M_X4_hasSeen) (ci := 4) (rest := [.int x2]) (as := [.int x3, .int x1]) cf_X4_134 dX4_points_13 ⟨rfl, rfl⟩ rfl rfl ⟨Nat.le_of_ble_eq_true rfl, Nat.le_of_ble_eq_true rfl⟩ ⟨Nat.le_of_ble_eq_true rfl, Nat.le_of_ble_eq_true rfl⟩ (Nat.le_of_ble_eq_true rfl) (fun X' hX => KX4_hasSeen hX)) rfl rfl rfl rfl ⟨Nat.le_of_ble_eq_true rfl, Nat.le_of_ble_eq_true rfl⟩ rfl hF (fun x102 h101 hF => ?_)
      refine jj_if_eq (tgt := 36) (pc' := 19) dX4_points_16 rfl rfl (fun hc hF => ?_) (fun hc hF => ?_) hF
      · skip
        refine jj_iconst (v := (0 : Int32)) (pc' := 37) dX4_points_36 rfl rfl ?_
        refine jj_iadd (pc' := 38) dX4_points_37 rfl ?_
        refine jj_istore_n (i := 2) (ls' := [(2, .int (x2 + ((0 : Int32)))), (0, .ref a0), (1, .int x1), (3, .int x3)]) (pc' := 39) dX4_points_38 rfl (Nat.le_of_ble_eq_true rfl) rfl rfl ?_
        refine jj_iinc (i := 3) (j := 3) (v := x3 + (1 : Int32)) (ls' := [(3, .int (x3 + (1 : Int32))), (2, .int (x2 + ((0 : Int32)))), (0, .ref a0), (1, .int x1)]) (pc' := 42) dX4_points_39 rfl rfl (Nat.le_of_ble_eq_true rfl) rfl rfl ?_
        refine jj_goto (tgt := 4) dX4_points_42 rfl ?_
        exact jj_pick [2, 3, 1, 0] rfl (ih a0 x1 (x2 + ((0 : Int32))) (x3 + (1 : Int32)) h101 _ hF)
      · skip
        refine jj_aload_n (j := 0) (i := 0) (pc' := 20) dX4_points_19 rfl rfl rfl ?_
        refine jj_gR (C := RX4) (T := TX4) (N := 15) (ci := 4) (k := 0) (pc' := 23) dX4_points_20 rfl rfl inX4 (by decide) qw_73 hF (fun r103 hF => ?_)
        refine jj_bipush (v := (104 : Int32)) (pc' := 25) dX4_points_23 rfl rfl ?_
        refine jj_bipush (v := (8 : Int32)) (pc' := 27) dX4_points_25 rfl rfl ?_
        refine jj_iload_n (j := 3) (i := 3) (pc' := 28) dX4_points_27 rfl rfl rfl ?_
        refine jj_imul (pc' := 29) dX4_points_28 rfl ?_
        refine jj_iadd (pc' := 30) dX4_points_29 rfl ?_
        refine jj_iload_n (j := 1) (i := 1) (pc' := 31) dX4_points_30 rfl rfl rfl ?_
        refine jj_iadd (pc' := 32) dX4_points_31 rfl ?_
        refine jj_ldI (pc' := 33) dX4_points_32 rfl hF (fun x104 hF => ?_)
        refine jj_goto (tgt := 37) dX4_points_33 rfl ?_
        refine jj_iadd (pc' := 38) dX4_points_37 rfl ?_
        refine jj_istore_n (i := 2) (ls' := [(2, .int (x2 + x104)), (0, .ref a0), (1, .int x1), (3, .int x3)]) (pc' := 39) dX4_points_38 rfl (Nat.le_of_ble_eq_true rfl) rfl rfl ?_
        refine jj_iinc (i := 3) (j := 3) (v := x3 + (1 : Int32)) (ls' := [(3, .int (x3 + (1 : Int32))), (2, .int (x2 + x104)), (0, .ref a0), (1, .int x1)]) (pc' := 42) dX4_points_39 rfl rfl (Nat.le_of_ble_eq_true rfl) rfl rfl ?_
        refine jj_goto (tgt := 4) dX4_points_42 rfl ?_
        exact jj_pick [2, 3, 1, 0] rfl (ih a0 x1 (x2 + x104) (x3 + (1 : Int32)) h101 _ hF)
set_option maxRecDepth 100000 in
set_option maxHeartbeats 4000000 in
theorem JX4_points {N : Nat} {a0 : Nat} {x1 : Int32} {h : jm_H} {X : jm_X} (hF : FX4_points N a0 x1 h = some X) : jm_J M_X4_points 0 [(0, .ref a0), (1, .int x1)] [] h 0 0 X := by
  unfold FX4_points at hF
  refine jj_iconst (v := (0 : Int32)) (pc' := 1) dX4_points_0 rfl rfl ?_
  refine jj_istore_n (i := 2) (ls' := [(2, .int ((0 : Int32))), (0, .ref a0), (1, .int x1)]) (pc' := 2) dX4_points_1 rfl (Nat.le_of_ble_eq_true rfl) rfl rfl ?_
  refine jj_iconst (v := (0 : Int32)) (pc' := 3) dX4_points_2 rfl rfl ?_
  refine jj_istore_n (i := 3) (ls' := [(3, .int ((0 : Int32))), (2, .int ((0 : Int32))), (0, .ref a0), (1, .int x1)]) (pc' := 4) dX4_points_3 rfl (Nat.le_of_ble_eq_true rfl) rfl rfl ?_
  exact jj_pick [2, 3, 1, 0] rfl (BX4_points_4 N N a0 x1 ((0 : Int32)) ((0 : Int32)) h _ hF)
theorem KX4_points {N : Nat} {a0 : Nat} {x1 : Int32} {h : jm_H} {X : jm_X} (hF : FX4_points N a0 x1 h = some X) : jm_K M_X4_points [.ref a0, .int x1] h X := jk_of rfl (by decide +kernel) rfl rfl (Nat.le_of_ble_eq_true rfl) (JX4_points hF)
set_option maxRecDepth 100000 in
set_option maxHeartbeats 4000000 in
theorem JX4_aboutFilm {N : Nat} {a0 : Nat} {x1 : Int32} {x2 : Int32} {h : jm_H} {X : jm_X} (hF : FX4_aboutFilm N a0 x1 x2 h = some X) : jm_J M_X4_aboutFilm 0 [(0, .ref a0), (1, .int x1), (2, .int x2)] [] h 0 0 X := by
  unfold FX4_aboutFilm at hF
  refine jj_iload_n (j := 2) (i := 2) (pc' := 1) dX4_aboutFilm_0 rfl rfl rfl ?_
  refine jj_table (N := 5) (lo := 0) (dt := 66) [36, 42, 48, 54, 60] dX4_aboutFilm_1 ⟨by decide, by decide⟩ ⟨by decide, by decide, rfl, rfl⟩ (by decide) rfl ?_ (fun hF => ?_) hF
  · intro i b tg hb ht hx hF
    match i, hb, ht with
    | 0, hb, ht =>
      cases hb; cases ht
      refine jj_aload_n (j := 0) (i := 0) (pc' := 37) dX4_aboutFilm_36 rfl rfl rfl ?_
      refine jj_iload_n (j := 1) (i := 1) (pc' := 38) dX4_aboutFilm_37 rfl rfl rfl ?_
      refine jj_cI (N := M_X4_reels) (kc' := 0) (ks' := 0) (pc' := 41) (jg_V (N := M_X4_reels) (ci := 4) (rest := []) (as := [.int x1]) cf_X4_44 dX4_aboutFilm_38 ⟨rfl, rfl⟩ rfl rfl ⟨Nat.le_of_ble_eq_true rfl, Nat.le_of_ble_eq_true rfl⟩ ⟨Nat.le_of_ble_eq_true rfl, Nat.le_of_ble_eq_true rfl⟩ (Nat.le_of_ble_eq_true rfl) (fun X' hX => KX4_reels hX)) rfl rfl rfl rfl ⟨Nat.le_of_ble_eq_true rfl, Nat.le_of_ble_eq_true rfl⟩ rfl hF (fun x102 h101 hF => ?_)
      exact jj_retI (ty := .int) rfl rfl dX4_aboutFilm_41 ⟨Nat.le_of_ble_eq_true rfl, Nat.le_of_ble_eq_true rfl⟩ hF
    | 1, hb, ht =>
      cases hb; cases ht
      refine jj_aload_n (j := 0) (i := 0) (pc' := 43) dX4_aboutFilm_42 rfl rfl rfl ?_
      refine jj_iload_n (j := 1) (i := 1) (pc' := 44) dX4_aboutFilm_43 rfl rfl rfl ?_
      refine jj_cI (N := M_X4_minutes) (kc' := 0) (ks' := 0) (pc' := 47) (jg_V (N := M_X4_minutes) (ci := 4) (rest := []) (as := [.int x1]) cf_X4_40 dX4_aboutFilm_44 ⟨rfl, rfl⟩ rfl rfl ⟨Nat.le_of_ble_eq_true rfl, Nat.le_of_ble_eq_true rfl⟩ ⟨Nat.le_of_ble_eq_true rfl, Nat.le_of_ble_eq_true rfl⟩ (Nat.le_of_ble_eq_true rfl) (fun X' hX => KX4_minutes hX)) rfl rfl rfl rfl ⟨Nat.le_of_ble_eq_true rfl, Nat.le_of_ble_eq_true rfl⟩ rfl hF (fun x104 h103 hF => ?_)
      exact jj_retI (ty := .int) rfl rfl dX4_aboutFilm_47 ⟨Nat.le_of_ble_eq_true rfl, Nat.le_of_ble_eq_true rfl⟩ hF
    | 2, hb, ht =>
      cases hb; cases ht
      refine jj_aload_n (j := 0) (i := 0) (pc' := 49) dX4_aboutFilm_48 rfl rfl rfl ?_
      refine jj_iload_n (j := 1) (i := 1) (pc' := 50) dX4_aboutFilm_49 rfl rfl rfl ?_
      refine jj_cI (N := M_X4_showings) (kc' := 0) (ks' := 0) (pc' := 53) (jg_V (N := M_X4_showings) (ci := 4) (rest := []) (as := [.int x1]) cf_X4_169 dX4_aboutFilm_50 ⟨rfl, rfl⟩ rfl rfl ⟨Nat.le_of_ble_eq_true rfl, Nat.le_of_ble_eq_true rfl⟩ ⟨Nat.le_of_ble_eq_true rfl, Nat.le_of_ble_eq_true rfl⟩ (Nat.le_of_ble_eq_true rfl) (fun X' hX => KX4_showings hX)) rfl rfl rfl rfl ⟨Nat.le_of_ble_eq_true rfl, Nat.le_of_ble_eq_true rfl⟩ rfl hF (fun x106 h105 hF => ?_)
      exact jj_retI (ty := .int) rfl rfl dX4_aboutFilm_53 ⟨Nat.le_of_ble_eq_true rfl, Nat.le_of_ble_eq_true rfl⟩ hF
    | 3, hb, ht =>
      cases hb; cases ht
      refine jj_aload_n (j := 0) (i := 0) (pc' := 55) dX4_aboutFilm_54 rfl rfl rfl ?_
      refine jj_iload_n (j := 1) (i := 1) (pc' := 56) dX4_aboutFilm_55 rfl rfl rfl ?_
      refine jj_cI (N := M_X4_seatsOf) (kc' := 0) (ks' := 0) (pc' := 59) (jg_V (N := M_X4_seatsOf) (ci := 4) (rest := []) (as := [.int x1]) cf_X4_172 dX4_aboutFilm_56 ⟨rfl, rfl⟩ rfl rfl ⟨Nat.le_of_ble_eq_true rfl, Nat.le_of_ble_eq_true rfl⟩ ⟨Nat.le_of_ble_eq_true rfl, Nat.le_of_ble_eq_true rfl⟩ (Nat.le_of_ble_eq_true rfl) (fun X' hX => KX4_seatsOf hX)) rfl rfl rfl rfl ⟨Nat.le_of_ble_eq_true rfl, Nat.le_of_ble_eq_true rfl⟩ rfl hF (fun x108 h107 hF => ?_)
      exact jj_retI (ty := .int) rfl rfl dX4_aboutFilm_59 ⟨Nat.le_of_ble_eq_true rfl, Nat.le_of_ble_eq_true rfl⟩ hF
    | 4, hb, ht =>
      cases hb; cases ht
      refine jj_aload_n (j := 0) (i := 0) (pc' := 61) dX4_aboutFilm_60 rfl rfl rfl ?_
      refine jj_iload_n (j := 1) (i := 1) (pc' := 62) dX4_aboutFilm_61 rfl rfl rfl ?_
      refine jj_cI (N := M_X4_seers) (kc' := 0) (ks' := 0) (pc' := 65) (jg_V (N := M_X4_seers) (ci := 4) (rest := []) (as := [.int x1]) cf_X4_175 dX4_aboutFilm_62 ⟨rfl, rfl⟩ rfl rfl ⟨Nat.le_of_ble_eq_true rfl, Nat.le_of_ble_eq_true rfl⟩ ⟨Nat.le_of_ble_eq_true rfl, Nat.le_of_ble_eq_true rfl⟩ (Nat.le_of_ble_eq_true rfl) (fun X' hX => KX4_seers hX)) rfl rfl rfl rfl ⟨Nat.le_of_ble_eq_true rfl, Nat.le_of_ble_eq_true rfl⟩ rfl hF (fun x110 h109 hF => ?_)
      exact jj_retI (ty := .int) rfl rfl dX4_aboutFilm_65 ⟨Nat.le_of_ble_eq_true rfl, Nat.le_of_ble_eq_true rfl⟩ hF
    | i + 5, hb, ht => exact nomatch (show (none : Option (Option jm_X)) = some b from hb)
  · skip
    refine jj_aload_n (j := 0) (i := 0) (pc' := 67) dX4_aboutFilm_66 rfl rfl rfl ?_
    refine jj_iload_n (j := 1) (i := 1) (pc' := 68) dX4_aboutFilm_67 rfl rfl rfl ?_
    refine jj_cI (N := M_X4_points) (kc' := 0) (ks' := 0) (pc' := 71) (jg_V (N := M_X4_points) (ci := 4) (rest := []) (as := [.int x1]) cf_X4_178 dX4_aboutFilm_68 ⟨rfl, rfl⟩ rfl rfl ⟨Nat.le_of_ble_eq_true rfl, Nat.le_of_ble_eq_true rfl⟩ ⟨Nat.le_of_ble_eq_true rfl, Nat.le_of_ble_eq_true rfl⟩ (Nat.le_of_ble_eq_true rfl) (fun X' hX => KX4_points hX)) rfl rfl rfl rfl ⟨Nat.le_of_ble_eq_true rfl, Nat.le_of_ble_eq_true rfl⟩ rfl hF (fun x112 h111 hF => ?_)
    exact jj_retI (ty := .int) rfl rfl dX4_aboutFilm_71 ⟨Nat.le_of_ble_eq_true rfl, Nat.le_of_ble_eq_true rfl⟩ hF
theorem KX4_aboutFilm {N : Nat} {a0 : Nat} {x1 : Int32} {x2 : Int32} {h : jm_H} {X : jm_X} (hF : FX4_aboutFilm N a0 x1 x2 h = some X) : jm_K M_X4_aboutFilm [.ref a0, .int x1, .int x2] h X := jk_of rfl (by decide +kernel) rfl rfl (Nat.le_of_ble_eq_true rfl) (JX4_aboutFilm hF)
set_option maxRecDepth 100000 in
set_option maxHeartbeats 4000000 in
theorem JX4_filmOf {N : Nat} {a0 : Nat} {x1 : Int32} {x2 : Int32} {h : jm_H} {X : jm_X} (hF : FX4_filmOf N a0 x1 x2 h = some X) : jm_J M_X4_filmOf 0 [(0, .ref a0), (1, .int x1), (2, .int x2)] [] h 0 0 X := by
  unfold FX4_filmOf at hF
  refine jj_aload_n (j := 0) (i := 0) (pc' := 1) dX4_filmOf_0 rfl rfl rfl ?_
  refine jj_iconst (v := (0 : Int32)) (pc' := 2) dX4_filmOf_1 rfl rfl ?_
  refine jj_p (C := RX4) (T := TX4) (N := 15) (ci := 4) (k := 7) (ty := tyX4) (pc' := 5) dX4_filmOf_2 rfl rfl inX4 tyX4_ok nmX4 (by decide) qw_79 rfl (fun _ => ⟨rfl, rfl⟩) hF (fun h101 hF => ?_)
  refine jj_aload_n (j := 0) (i := 0) (pc' := 6) dX4_filmOf_5 rfl rfl rfl ?_
  refine jj_iload_n (j := 1) (i := 1) (pc' := 7) dX4_filmOf_6 rfl rfl rfl ?_
  refine jj_cI (N := M_X4_isFilm) (kc' := 0) (ks' := 0) (pc' := 10) (jg_V (N := M_X4_isFilm) (ci := 4) (rest := []) (as := [.int x1]) cf_X4_102 dX4_filmOf_7 ⟨rfl, rfl⟩ rfl rfl ⟨Nat.le_of_ble_eq_true rfl, Nat.le_of_ble_eq_true rfl⟩ ⟨Nat.le_of_ble_eq_true rfl, Nat.le_of_ble_eq_true rfl⟩ (Nat.le_of_ble_eq_true rfl) (fun X' hX => KX4_isFilm hX)) rfl rfl rfl rfl ⟨Nat.le_of_ble_eq_true rfl, Nat.le_of_ble_eq_true rfl⟩ rfl hF (fun x103 h102 hF => ?_)
  refine jj_if_ne (tgt := 19) (pc' := 13) dX4_filmOf_10 rfl rfl (fun hc hF => ?_) (fun hc hF => ?_) hF
  · skip
    refine jj_iload_n (j := 2) (i := 2) (pc' := 20) dX4_filmOf_19 rfl rfl rfl ?_
    refine jj_iconst (v := (0 : Int32)) (pc' := 21) dX4_filmOf_20 rfl rfl ?_
    refine jj_iconst (v := (5 : Int32)) (pc' := 22) dX4_filmOf_21 rfl rfl ?_
    refine jj_cI (N := M_X4_in) (kc' := 0) (ks' := 0) (pc' := 25) (jg_S (N := M_X4_in) (rest := []) (as := [.int x2, .int ((0 : Int32)), .int ((5 : Int32))]) cf_X4_88 rfl dX4_filmOf_22 rfl rfl ⟨Nat.le_of_ble_eq_true rfl, Nat.le_of_ble_eq_true rfl⟩ ⟨Nat.le_of_ble_eq_true rfl, Nat.le_of_ble_eq_true rfl⟩ (Nat.le_of_ble_eq_true rfl) (fun X' hX => KX4_in hX)) rfl rfl rfl rfl ⟨Nat.le_of_ble_eq_true rfl, Nat.le_of_ble_eq_true rfl⟩ rfl hF (fun x105 h104 hF => ?_)
    refine jj_if_eq (tgt := 37) (pc' := 28) dX4_filmOf_25 rfl rfl (fun hc hF => ?_) (fun hc hF => ?_) hF
    · skip
      refine jj_aload_n (j := 0) (i := 0) (pc' := 38) dX4_filmOf_37 rfl rfl rfl ?_
      refine jj_iconst (v := (2 : Int32)) (pc' := 39) dX4_filmOf_38 rfl rfl ?_
      refine jj_cI (N := M_X4_refuses) (kc' := 0) (ks' := 0) (pc' := 42) (jg_V (N := M_X4_refuses) (ci := 4) (rest := []) (as := [.int ((2 : Int32))]) cf_X4_92 dX4_filmOf_39 ⟨rfl, rfl⟩ rfl rfl ⟨Nat.le_of_ble_eq_true rfl, Nat.le_of_ble_eq_true rfl⟩ ⟨Nat.le_of_ble_eq_true rfl, Nat.le_of_ble_eq_true rfl⟩ (Nat.le_of_ble_eq_true rfl) (fun X' hX => KX4_refuses hX)) rfl rfl rfl rfl ⟨Nat.le_of_ble_eq_true rfl, Nat.le_of_ble_eq_true rfl⟩ rfl hF (fun x107 h106 hF => ?_)
      exact jj_retI (ty := .int) rfl rfl dX4_filmOf_42 ⟨Nat.le_of_ble_eq_true rfl, Nat.le_of_ble_eq_true rfl⟩ hF
    · skip
      refine jj_aload_n (j := 0) (i := 0) (pc' := 29) dX4_filmOf_28 rfl rfl rfl ?_
      refine jj_iload_n (j := 1) (i := 1) (pc' := 30) dX4_filmOf_29 rfl rfl rfl ?_
      refine jj_iload_n (j := 2) (i := 2) (pc' := 31) dX4_filmOf_30 rfl rfl rfl ?_
      refine jj_cI (N := M_X4_aboutFilm) (kc' := 0) (ks' := 0) (pc' := 34) (jg_V (N := M_X4_aboutFilm) (ci := 4) (rest := []) (as := [.int x1, .int x2]) cf_X4_181 dX4_filmOf_31 ⟨rfl, rfl⟩ rfl rfl ⟨Nat.le_of_ble_eq_true rfl, Nat.le_of_ble_eq_true rfl⟩ ⟨Nat.le_of_ble_eq_true rfl, Nat.le_of_ble_eq_true rfl⟩ (Nat.le_of_ble_eq_true rfl) (fun X' hX => KX4_aboutFilm hX)) rfl rfl rfl rfl ⟨Nat.le_of_ble_eq_true rfl, Nat.le_of_ble_eq_true rfl⟩ rfl hF (fun x109 h108 hF => ?_)
      refine jj_goto (tgt := 42) dX4_filmOf_34 rfl ?_
      exact jj_retI (ty := .int) rfl rfl dX4_filmOf_42 ⟨Nat.le_of_ble_eq_true rfl, Nat.le_of_ble_eq_true rfl⟩ hF
  · skip
    refine jj_aload_n (j := 0) (i := 0) (pc' := 14) dX4_filmOf_13 rfl rfl rfl ?_
    refine jj_iconst (v := (1 : Int32)) (pc' := 15) dX4_filmOf_14 rfl rfl ?_
    refine jj_cI (N := M_X4_refuses) (kc' := 0) (ks' := 0) (pc' := 18) (jg_V (N := M_X4_refuses) (ci := 4) (rest := []) (as := [.int ((1 : Int32))]) cf_X4_92 dX4_filmOf_15 ⟨rfl, rfl⟩ rfl rfl ⟨Nat.le_of_ble_eq_true rfl, Nat.le_of_ble_eq_true rfl⟩ ⟨Nat.le_of_ble_eq_true rfl, Nat.le_of_ble_eq_true rfl⟩ (Nat.le_of_ble_eq_true rfl) (fun X' hX => KX4_refuses hX)) rfl rfl rfl rfl ⟨Nat.le_of_ble_eq_true rfl, Nat.le_of_ble_eq_true rfl⟩ rfl hF (fun x111 h110 hF => ?_)
    exact jj_retI (ty := .int) rfl rfl dX4_filmOf_18 ⟨Nat.le_of_ble_eq_true rfl, Nat.le_of_ble_eq_true rfl⟩ hF
theorem KX4_filmOf {N : Nat} {a0 : Nat} {x1 : Int32} {x2 : Int32} {h : jm_H} {X : jm_X} (hF : FX4_filmOf N a0 x1 x2 h = some X) : jm_K M_X4_filmOf [.ref a0, .int x1, .int x2] h X := jk_of rfl (by decide +kernel) rfl rfl (Nat.le_of_ble_eq_true rfl) (JX4_filmOf hF)
set_option maxRecDepth 100000 in
set_option maxHeartbeats 4000000 in
theorem JX4_aboutShowing {a0 : Nat} {x1 : Int32} {x2 : Int32} {h : jm_H} {X : jm_X} (hF : FX4_aboutShowing a0 x1 x2 h = some X) : jm_J M_X4_aboutShowing 0 [(0, .ref a0), (1, .int x1), (2, .int x2)] [] h 0 0 X := by
  unfold FX4_aboutShowing at hF
  refine jj_iload_n (j := 2) (i := 2) (pc' := 1) dX4_aboutShowing_0 rfl rfl rfl ?_
  refine jj_table (N := 3) (lo := 3) (dt := 48) [28, 34, 41] dX4_aboutShowing_1 ⟨by decide, by decide⟩ ⟨by decide, by decide, rfl, rfl⟩ (by decide) rfl ?_ (fun hF => ?_) hF
  · intro i b tg hb ht hx hF
    match i, hb, ht with
    | 0, hb, ht =>
      cases hb; cases ht
      refine jj_aload_n (j := 0) (i := 0) (pc' := 29) dX4_aboutShowing_28 rfl rfl rfl ?_
      refine jj_iload_n (j := 1) (i := 1) (pc' := 30) dX4_aboutShowing_29 rfl rfl rfl ?_
      refine jj_cI (N := M_X4_end) (kc' := 0) (ks' := 0) (pc' := 33) (jg_V (N := M_X4_end) (ci := 4) (rest := []) (as := [.int x1]) cf_X4_75 dX4_aboutShowing_30 ⟨rfl, rfl⟩ rfl rfl ⟨Nat.le_of_ble_eq_true rfl, Nat.le_of_ble_eq_true rfl⟩ ⟨Nat.le_of_ble_eq_true rfl, Nat.le_of_ble_eq_true rfl⟩ (Nat.le_of_ble_eq_true rfl) (fun X' hX => KX4_end hX)) rfl rfl rfl rfl ⟨Nat.le_of_ble_eq_true rfl, Nat.le_of_ble_eq_true rfl⟩ rfl hF (fun x102 h101 hF => ?_)
      exact jj_retI (ty := .int) rfl rfl dX4_aboutShowing_33 ⟨Nat.le_of_ble_eq_true rfl, Nat.le_of_ble_eq_true rfl⟩ hF
    | 1, hb, ht =>
      cases hb; cases ht
      refine jj_aload_n (j := 0) (i := 0) (pc' := 35) dX4_aboutShowing_34 rfl rfl rfl ?_
      refine jj_iload_n (j := 1) (i := 1) (pc' := 36) dX4_aboutShowing_35 rfl rfl rfl ?_
      refine jj_iconst (v := (3 : Int32)) (pc' := 37) dX4_aboutShowing_36 rfl rfl ?_
      refine jj_cI (N := M_X4_of) (kc' := 0) (ks' := 0) (pc' := 40) (jg_V (N := M_X4_of) (ci := 4) (rest := []) (as := [.int x1, .int ((3 : Int32))]) cf_X4_47 dX4_aboutShowing_37 ⟨rfl, rfl⟩ rfl rfl ⟨Nat.le_of_ble_eq_true rfl, Nat.le_of_ble_eq_true rfl⟩ ⟨Nat.le_of_ble_eq_true rfl, Nat.le_of_ble_eq_true rfl⟩ (Nat.le_of_ble_eq_true rfl) (fun X' hX => KX4_of hX)) rfl rfl rfl rfl ⟨Nat.le_of_ble_eq_true rfl, Nat.le_of_ble_eq_true rfl⟩ rfl hF (fun x104 h103 hF => ?_)
      exact jj_retI (ty := .int) rfl rfl dX4_aboutShowing_40 ⟨Nat.le_of_ble_eq_true rfl, Nat.le_of_ble_eq_true rfl⟩ hF
    | 2, hb, ht =>
      cases hb; cases ht
      refine jj_aload_n (j := 0) (i := 0) (pc' := 42) dX4_aboutShowing_41 rfl rfl rfl ?_
      refine jj_iload_n (j := 1) (i := 1) (pc' := 43) dX4_aboutShowing_42 rfl rfl rfl ?_
      refine jj_iconst (v := (4 : Int32)) (pc' := 44) dX4_aboutShowing_43 rfl rfl ?_
      refine jj_cI (N := M_X4_of) (kc' := 0) (ks' := 0) (pc' := 47) (jg_V (N := M_X4_of) (ci := 4) (rest := []) (as := [.int x1, .int ((4 : Int32))]) cf_X4_47 dX4_aboutShowing_44 ⟨rfl, rfl⟩ rfl rfl ⟨Nat.le_of_ble_eq_true rfl, Nat.le_of_ble_eq_true rfl⟩ ⟨Nat.le_of_ble_eq_true rfl, Nat.le_of_ble_eq_true rfl⟩ (Nat.le_of_ble_eq_true rfl) (fun X' hX => KX4_of hX)) rfl rfl rfl rfl ⟨Nat.le_of_ble_eq_true rfl, Nat.le_of_ble_eq_true rfl⟩ rfl hF (fun x106 h105 hF => ?_)
      exact jj_retI (ty := .int) rfl rfl dX4_aboutShowing_47 ⟨Nat.le_of_ble_eq_true rfl, Nat.le_of_ble_eq_true rfl⟩ hF
    | i + 3, hb, ht => exact nomatch (show (none : Option (Option jm_X)) = some b from hb)
  · skip
    refine jj_aload_n (j := 0) (i := 0) (pc' := 49) dX4_aboutShowing_48 rfl rfl rfl ?_
    refine jj_iload_n (j := 1) (i := 1) (pc' := 50) dX4_aboutShowing_49 rfl rfl rfl ?_
    refine jj_iload_n (j := 2) (i := 2) (pc' := 51) dX4_aboutShowing_50 rfl rfl rfl ?_
    refine jj_cI (N := M_X4_of) (kc' := 0) (ks' := 0) (pc' := 54) (jg_V (N := M_X4_of) (ci := 4) (rest := []) (as := [.int x1, .int x2]) cf_X4_47 dX4_aboutShowing_51 ⟨rfl, rfl⟩ rfl rfl ⟨Nat.le_of_ble_eq_true rfl, Nat.le_of_ble_eq_true rfl⟩ ⟨Nat.le_of_ble_eq_true rfl, Nat.le_of_ble_eq_true rfl⟩ (Nat.le_of_ble_eq_true rfl) (fun X' hX => KX4_of hX)) rfl rfl rfl rfl ⟨Nat.le_of_ble_eq_true rfl, Nat.le_of_ble_eq_true rfl⟩ rfl hF (fun x108 h107 hF => ?_)
    exact jj_retI (ty := .int) rfl rfl dX4_aboutShowing_54 ⟨Nat.le_of_ble_eq_true rfl, Nat.le_of_ble_eq_true rfl⟩ hF
theorem KX4_aboutShowing {a0 : Nat} {x1 : Int32} {x2 : Int32} {h : jm_H} {X : jm_X} (hF : FX4_aboutShowing a0 x1 x2 h = some X) : jm_K M_X4_aboutShowing [.ref a0, .int x1, .int x2] h X := jk_of rfl (by decide +kernel) rfl rfl (Nat.le_of_ble_eq_true rfl) (JX4_aboutShowing hF)
set_option maxRecDepth 100000 in
set_option maxHeartbeats 4000000 in
theorem JX4_showing {a0 : Nat} {x1 : Int32} {x2 : Int32} {h : jm_H} {X : jm_X} (hF : FX4_showing a0 x1 x2 h = some X) : jm_J M_X4_showing 0 [(0, .ref a0), (1, .int x1), (2, .int x2)] [] h 0 0 X := by
  unfold FX4_showing at hF
  refine jj_aload_n (j := 0) (i := 0) (pc' := 1) dX4_showing_0 rfl rfl rfl ?_
  refine jj_iconst (v := (0 : Int32)) (pc' := 2) dX4_showing_1 rfl rfl ?_
  refine jj_p (C := RX4) (T := TX4) (N := 15) (ci := 4) (k := 7) (ty := tyX4) (pc' := 5) dX4_showing_2 rfl rfl inX4 tyX4_ok nmX4 (by decide) qw_79 rfl (fun _ => ⟨rfl, rfl⟩) hF (fun h101 hF => ?_)
  refine jj_aload_n (j := 0) (i := 0) (pc' := 6) dX4_showing_5 rfl rfl rfl ?_
  refine jj_iload_n (j := 1) (i := 1) (pc' := 7) dX4_showing_6 rfl rfl rfl ?_
  refine jj_cI (N := M_X4_isShowing) (kc' := 0) (ks' := 0) (pc' := 10) (jg_V (N := M_X4_isShowing) (ci := 4) (rest := []) (as := [.int x1]) cf_X4_115 dX4_showing_7 ⟨rfl, rfl⟩ rfl rfl ⟨Nat.le_of_ble_eq_true rfl, Nat.le_of_ble_eq_true rfl⟩ ⟨Nat.le_of_ble_eq_true rfl, Nat.le_of_ble_eq_true rfl⟩ (Nat.le_of_ble_eq_true rfl) (fun X' hX => KX4_isShowing hX)) rfl rfl rfl rfl ⟨Nat.le_of_ble_eq_true rfl, Nat.le_of_ble_eq_true rfl⟩ rfl hF (fun x103 h102 hF => ?_)
  refine jj_if_ne (tgt := 19) (pc' := 13) dX4_showing_10 rfl rfl (fun hc hF => ?_) (fun hc hF => ?_) hF
  · skip
    refine jj_iload_n (j := 2) (i := 2) (pc' := 20) dX4_showing_19 rfl rfl rfl ?_
    refine jj_iconst (v := (0 : Int32)) (pc' := 21) dX4_showing_20 rfl rfl ?_
    refine jj_iconst (v := (5 : Int32)) (pc' := 22) dX4_showing_21 rfl rfl ?_
    refine jj_cI (N := M_X4_in) (kc' := 0) (ks' := 0) (pc' := 25) (jg_S (N := M_X4_in) (rest := []) (as := [.int x2, .int ((0 : Int32)), .int ((5 : Int32))]) cf_X4_88 rfl dX4_showing_22 rfl rfl ⟨Nat.le_of_ble_eq_true rfl, Nat.le_of_ble_eq_true rfl⟩ ⟨Nat.le_of_ble_eq_true rfl, Nat.le_of_ble_eq_true rfl⟩ (Nat.le_of_ble_eq_true rfl) (fun X' hX => KX4_in hX)) rfl rfl rfl rfl ⟨Nat.le_of_ble_eq_true rfl, Nat.le_of_ble_eq_true rfl⟩ rfl hF (fun x105 h104 hF => ?_)
    refine jj_if_eq (tgt := 37) (pc' := 28) dX4_showing_25 rfl rfl (fun hc hF => ?_) (fun hc hF => ?_) hF
    · skip
      refine jj_aload_n (j := 0) (i := 0) (pc' := 38) dX4_showing_37 rfl rfl rfl ?_
      refine jj_iconst (v := (2 : Int32)) (pc' := 39) dX4_showing_38 rfl rfl ?_
      refine jj_cI (N := M_X4_refuses) (kc' := 0) (ks' := 0) (pc' := 42) (jg_V (N := M_X4_refuses) (ci := 4) (rest := []) (as := [.int ((2 : Int32))]) cf_X4_92 dX4_showing_39 ⟨rfl, rfl⟩ rfl rfl ⟨Nat.le_of_ble_eq_true rfl, Nat.le_of_ble_eq_true rfl⟩ ⟨Nat.le_of_ble_eq_true rfl, Nat.le_of_ble_eq_true rfl⟩ (Nat.le_of_ble_eq_true rfl) (fun X' hX => KX4_refuses hX)) rfl rfl rfl rfl ⟨Nat.le_of_ble_eq_true rfl, Nat.le_of_ble_eq_true rfl⟩ rfl hF (fun x107 h106 hF => ?_)
      exact jj_retI (ty := .int) rfl rfl dX4_showing_42 ⟨Nat.le_of_ble_eq_true rfl, Nat.le_of_ble_eq_true rfl⟩ hF
    · skip
      refine jj_aload_n (j := 0) (i := 0) (pc' := 29) dX4_showing_28 rfl rfl rfl ?_
      refine jj_iload_n (j := 1) (i := 1) (pc' := 30) dX4_showing_29 rfl rfl rfl ?_
      refine jj_iload_n (j := 2) (i := 2) (pc' := 31) dX4_showing_30 rfl rfl rfl ?_
      refine jj_cI (N := M_X4_aboutShowing) (kc' := 0) (ks' := 0) (pc' := 34) (jg_V (N := M_X4_aboutShowing) (ci := 4) (rest := []) (as := [.int x1, .int x2]) cf_X4_184 dX4_showing_31 ⟨rfl, rfl⟩ rfl rfl ⟨Nat.le_of_ble_eq_true rfl, Nat.le_of_ble_eq_true rfl⟩ ⟨Nat.le_of_ble_eq_true rfl, Nat.le_of_ble_eq_true rfl⟩ (Nat.le_of_ble_eq_true rfl) (fun X' hX => KX4_aboutShowing hX)) rfl rfl rfl rfl ⟨Nat.le_of_ble_eq_true rfl, Nat.le_of_ble_eq_true rfl⟩ rfl hF (fun x109 h108 hF => ?_)
      refine jj_goto (tgt := 42) dX4_showing_34 rfl ?_
      exact jj_retI (ty := .int) rfl rfl dX4_showing_42 ⟨Nat.le_of_ble_eq_true rfl, Nat.le_of_ble_eq_true rfl⟩ hF
  · skip
    refine jj_aload_n (j := 0) (i := 0) (pc' := 14) dX4_showing_13 rfl rfl rfl ?_
    refine jj_iconst (v := (1 : Int32)) (pc' := 15) dX4_showing_14 rfl rfl ?_
    refine jj_cI (N := M_X4_refuses) (kc' := 0) (ks' := 0) (pc' := 18) (jg_V (N := M_X4_refuses) (ci := 4) (rest := []) (as := [.int ((1 : Int32))]) cf_X4_92 dX4_showing_15 ⟨rfl, rfl⟩ rfl rfl ⟨Nat.le_of_ble_eq_true rfl, Nat.le_of_ble_eq_true rfl⟩ ⟨Nat.le_of_ble_eq_true rfl, Nat.le_of_ble_eq_true rfl⟩ (Nat.le_of_ble_eq_true rfl) (fun X' hX => KX4_refuses hX)) rfl rfl rfl rfl ⟨Nat.le_of_ble_eq_true rfl, Nat.le_of_ble_eq_true rfl⟩ rfl hF (fun x111 h110 hF => ?_)
    exact jj_retI (ty := .int) rfl rfl dX4_showing_18 ⟨Nat.le_of_ble_eq_true rfl, Nat.le_of_ble_eq_true rfl⟩ hF
theorem KX4_showing {a0 : Nat} {x1 : Int32} {x2 : Int32} {h : jm_H} {X : jm_X} (hF : FX4_showing a0 x1 x2 h = some X) : jm_K M_X4_showing [.ref a0, .int x1, .int x2] h X := jk_of rfl (by decide +kernel) rfl rfl (Nat.le_of_ble_eq_true rfl) (JX4_showing hF)
set_option maxRecDepth 100000 in
set_option maxHeartbeats 4000000 in
theorem JX4_reelAt {a0 : Nat} {x1 : Int32} {x2 : Int32} {h : jm_H} {X : jm_X} (hF : FX4_reelAt a0 x1 x2 h = some X) : jm_J M_X4_reelAt 0 [(0, .ref a0), (1, .int x1), (2, .int x2)] [] h 0 0 X := by
  unfold FX4_reelAt at hF
  refine jj_aload_n (j := 0) (i := 0) (pc' := 1) dX4_reelAt_0 rfl rfl rfl ?_
  refine jj_iload_n (j := 1) (i := 1) (pc' := 2) dX4_reelAt_1 rfl rfl rfl ?_
  refine jj_iconst (v := (0 : Int32)) (pc' := 3) dX4_reelAt_2 rfl rfl ?_
  refine jj_cI (N := M_X4_of) (kc' := 0) (ks' := 0) (pc' := 6) (jg_V (N := M_X4_of) (ci := 4) (rest := []) (as := [.int x1, .int ((0 : Int32))]) cf_X4_47 dX4_reelAt_3 ⟨rfl, rfl⟩ rfl rfl ⟨Nat.le_of_ble_eq_true rfl, Nat.le_of_ble_eq_true rfl⟩ ⟨Nat.le_of_ble_eq_true rfl, Nat.le_of_ble_eq_true rfl⟩ (Nat.le_of_ble_eq_true rfl) (fun X' hX => KX4_of hX)) rfl rfl rfl rfl ⟨Nat.le_of_ble_eq_true rfl, Nat.le_of_ble_eq_true rfl⟩ rfl hF (fun x102 h101 hF => ?_)
  refine jj_istore_n (i := 3) (ls' := [(3, .int x102), (0, .ref a0), (1, .int x1), (2, .int x2)]) (pc' := 7) dX4_reelAt_6 rfl (Nat.le_of_ble_eq_true rfl) rfl rfl ?_
  refine jj_iload_n (j := 3) (i := 2) (pc' := 8) dX4_reelAt_7 rfl rfl rfl ?_
  refine jj_aload_n (j := 1) (i := 0) (pc' := 9) dX4_reelAt_8 rfl rfl rfl ?_
  refine jj_iload_n (j := 0) (i := 3) (pc' := 10) dX4_reelAt_9 rfl rfl rfl ?_
  refine jj_cI (N := M_X4_reels) (kc' := 0) (ks' := 0) (pc' := 13) (jg_V (N := M_X4_reels) (ci := 4) (rest := [.int x2]) (as := [.int x102]) cf_X4_44 dX4_reelAt_10 ⟨rfl, rfl⟩ rfl rfl ⟨Nat.le_of_ble_eq_true rfl, Nat.le_of_ble_eq_true rfl⟩ ⟨Nat.le_of_ble_eq_true rfl, Nat.le_of_ble_eq_true rfl⟩ (Nat.le_of_ble_eq_true rfl) (fun X' hX => KX4_reels hX)) rfl rfl rfl rfl ⟨Nat.le_of_ble_eq_true rfl, Nat.le_of_ble_eq_true rfl⟩ rfl hF (fun x104 h103 hF => ?_)
  refine jj_icmp_ge (tgt := 37) (pc' := 16) dX4_reelAt_13 rfl rfl (fun hc hF => ?_) (fun hc hF => ?_) hF
  · skip
    refine jj_iconst (v := (-1 : Int32)) (pc' := 38) dX4_reelAt_37 rfl rfl ?_
    exact jj_retI (ty := .int) rfl rfl dX4_reelAt_38 ⟨Nat.le_of_ble_eq_true rfl, Nat.le_of_ble_eq_true rfl⟩ hF
  · skip
    refine jj_aload_n (j := 1) (i := 0) (pc' := 17) dX4_reelAt_16 rfl rfl rfl ?_
    refine jj_iload_n (j := 0) (i := 3) (pc' := 18) dX4_reelAt_17 rfl rfl rfl ?_
    refine jj_aload_n (j := 1) (i := 0) (pc' := 19) dX4_reelAt_18 rfl rfl rfl ?_
    refine jj_iload_n (j := 2) (i := 1) (pc' := 20) dX4_reelAt_19 rfl rfl rfl ?_
    refine jj_iconst (v := (2 : Int32)) (pc' := 21) dX4_reelAt_20 rfl rfl ?_
    refine jj_cI (N := M_X4_of) (kc' := 0) (ks' := 0) (pc' := 24) (jg_V (N := M_X4_of) (ci := 4) (rest := [.int x102, .ref a0]) (as := [.int x1, .int ((2 : Int32))]) cf_X4_47 dX4_reelAt_21 ⟨rfl, rfl⟩ rfl rfl ⟨Nat.le_of_ble_eq_true rfl, Nat.le_of_ble_eq_true rfl⟩ ⟨Nat.le_of_ble_eq_true rfl, Nat.le_of_ble_eq_true rfl⟩ (Nat.le_of_ble_eq_true rfl) (fun X' hX => KX4_of hX)) rfl rfl rfl rfl ⟨Nat.le_of_ble_eq_true rfl, Nat.le_of_ble_eq_true rfl⟩ rfl hF (fun x106 h105 hF => ?_)
    refine jj_aload_n (j := 1) (i := 0) (pc' := 25) dX4_reelAt_24 rfl rfl rfl ?_
    refine jj_iload_n (j := 2) (i := 1) (pc' := 26) dX4_reelAt_25 rfl rfl rfl ?_
    refine jj_iconst (v := (3 : Int32)) (pc' := 27) dX4_reelAt_26 rfl rfl ?_
    refine jj_cI (N := M_X4_of) (kc' := 0) (ks' := 0) (pc' := 30) (jg_V (N := M_X4_of) (ci := 4) (rest := [.int x106, .int x102, .ref a0]) (as := [.int x1, .int ((3 : Int32))]) cf_X4_47 dX4_reelAt_27 ⟨rfl, rfl⟩ rfl rfl ⟨Nat.le_of_ble_eq_true rfl, Nat.le_of_ble_eq_true rfl⟩ ⟨Nat.le_of_ble_eq_true rfl, Nat.le_of_ble_eq_true rfl⟩ (Nat.le_of_ble_eq_true rfl) (fun X' hX => KX4_of hX)) rfl rfl rfl rfl ⟨Nat.le_of_ble_eq_true rfl, Nat.le_of_ble_eq_true rfl⟩ rfl hF (fun x108 h107 hF => ?_)
    refine jj_iload_n (j := 3) (i := 2) (pc' := 31) dX4_reelAt_30 rfl rfl rfl ?_
    refine jj_cI (N := M_X4_begins) (kc' := 0) (ks' := 0) (pc' := 34) (jg_V (N := M_X4_begins) (ci := 4) (rest := []) (as := [.int x102, .int x106, .int x108, .int x2]) cf_X4_64 dX4_reelAt_31 ⟨rfl, rfl⟩ rfl rfl ⟨Nat.le_of_ble_eq_true rfl, Nat.le_of_ble_eq_true rfl⟩ ⟨Nat.le_of_ble_eq_true rfl, Nat.le_of_ble_eq_true rfl⟩ (Nat.le_of_ble_eq_true rfl) (fun X' hX => KX4_begins hX)) rfl rfl rfl rfl ⟨Nat.le_of_ble_eq_true rfl, Nat.le_of_ble_eq_true rfl⟩ rfl hF (fun x110 h109 hF => ?_)
    refine jj_goto (tgt := 38) dX4_reelAt_34 rfl ?_
    exact jj_retI (ty := .int) rfl rfl dX4_reelAt_38 ⟨Nat.le_of_ble_eq_true rfl, Nat.le_of_ble_eq_true rfl⟩ hF
theorem KX4_reelAt {a0 : Nat} {x1 : Int32} {x2 : Int32} {h : jm_H} {X : jm_X} (hF : FX4_reelAt a0 x1 x2 h = some X) : jm_K M_X4_reelAt [.ref a0, .int x1, .int x2] h X := jk_of rfl (by decide +kernel) rfl rfl (Nat.le_of_ble_eq_true rfl) (JX4_reelAt hF)
set_option maxRecDepth 100000 in
set_option maxHeartbeats 4000000 in
theorem JX4_reel {a0 : Nat} {x1 : Int32} {x2 : Int32} {h : jm_H} {X : jm_X} (hF : FX4_reel a0 x1 x2 h = some X) : jm_J M_X4_reel 0 [(0, .ref a0), (1, .int x1), (2, .int x2)] [] h 0 0 X := by
  unfold FX4_reel at hF
  refine jj_aload_n (j := 0) (i := 0) (pc' := 1) dX4_reel_0 rfl rfl rfl ?_
  refine jj_iconst (v := (0 : Int32)) (pc' := 2) dX4_reel_1 rfl rfl ?_
  refine jj_p (C := RX4) (T := TX4) (N := 15) (ci := 4) (k := 7) (ty := tyX4) (pc' := 5) dX4_reel_2 rfl rfl inX4 tyX4_ok nmX4 (by decide) qw_79 rfl (fun _ => ⟨rfl, rfl⟩) hF (fun h101 hF => ?_)
  refine jj_aload_n (j := 0) (i := 0) (pc' := 6) dX4_reel_5 rfl rfl rfl ?_
  refine jj_iload_n (j := 1) (i := 1) (pc' := 7) dX4_reel_6 rfl rfl rfl ?_
  refine jj_cI (N := M_X4_isShowing) (kc' := 0) (ks' := 0) (pc' := 10) (jg_V (N := M_X4_isShowing) (ci := 4) (rest := []) (as := [.int x1]) cf_X4_115 dX4_reel_7 ⟨rfl, rfl⟩ rfl rfl ⟨Nat.le_of_ble_eq_true rfl, Nat.le_of_ble_eq_true rfl⟩ ⟨Nat.le_of_ble_eq_true rfl, Nat.le_of_ble_eq_true rfl⟩ (Nat.le_of_ble_eq_true rfl) (fun X' hX => KX4_isShowing hX)) rfl rfl rfl rfl ⟨Nat.le_of_ble_eq_true rfl, Nat.le_of_ble_eq_true rfl⟩ rfl hF (fun x103 h102 hF => ?_)
  refine jj_if_ne (tgt := 19) (pc' := 13) dX4_reel_10 rfl rfl (fun hc hF => ?_) (fun hc hF => ?_) hF
  · skip
    refine jj_iload_n (j := 2) (i := 2) (pc' := 20) dX4_reel_19 rfl rfl rfl ?_
    refine jj_iconst (v := (0 : Int32)) (pc' := 21) dX4_reel_20 rfl rfl ?_
    refine jj_iconst (v := (5 : Int32)) (pc' := 22) dX4_reel_21 rfl rfl ?_
    refine jj_cI (N := M_X4_in) (kc' := 0) (ks' := 0) (pc' := 25) (jg_S (N := M_X4_in) (rest := []) (as := [.int x2, .int ((0 : Int32)), .int ((5 : Int32))]) cf_X4_88 rfl dX4_reel_22 rfl rfl ⟨Nat.le_of_ble_eq_true rfl, Nat.le_of_ble_eq_true rfl⟩ ⟨Nat.le_of_ble_eq_true rfl, Nat.le_of_ble_eq_true rfl⟩ (Nat.le_of_ble_eq_true rfl) (fun X' hX => KX4_in hX)) rfl rfl rfl rfl ⟨Nat.le_of_ble_eq_true rfl, Nat.le_of_ble_eq_true rfl⟩ rfl hF (fun x105 h104 hF => ?_)
    refine jj_if_eq (tgt := 37) (pc' := 28) dX4_reel_25 rfl rfl (fun hc hF => ?_) (fun hc hF => ?_) hF
    · skip
      refine jj_aload_n (j := 0) (i := 0) (pc' := 38) dX4_reel_37 rfl rfl rfl ?_
      refine jj_iconst (v := (2 : Int32)) (pc' := 39) dX4_reel_38 rfl rfl ?_
      refine jj_cI (N := M_X4_refuses) (kc' := 0) (ks' := 0) (pc' := 42) (jg_V (N := M_X4_refuses) (ci := 4) (rest := []) (as := [.int ((2 : Int32))]) cf_X4_92 dX4_reel_39 ⟨rfl, rfl⟩ rfl rfl ⟨Nat.le_of_ble_eq_true rfl, Nat.le_of_ble_eq_true rfl⟩ ⟨Nat.le_of_ble_eq_true rfl, Nat.le_of_ble_eq_true rfl⟩ (Nat.le_of_ble_eq_true rfl) (fun X' hX => KX4_refuses hX)) rfl rfl rfl rfl ⟨Nat.le_of_ble_eq_true rfl, Nat.le_of_ble_eq_true rfl⟩ rfl hF (fun x107 h106 hF => ?_)
      exact jj_retI (ty := .int) rfl rfl dX4_reel_42 ⟨Nat.le_of_ble_eq_true rfl, Nat.le_of_ble_eq_true rfl⟩ hF
    · skip
      refine jj_aload_n (j := 0) (i := 0) (pc' := 29) dX4_reel_28 rfl rfl rfl ?_
      refine jj_iload_n (j := 1) (i := 1) (pc' := 30) dX4_reel_29 rfl rfl rfl ?_
      refine jj_iload_n (j := 2) (i := 2) (pc' := 31) dX4_reel_30 rfl rfl rfl ?_
      refine jj_cI (N := M_X4_reelAt) (kc' := 0) (ks' := 0) (pc' := 34) (jg_V (N := M_X4_reelAt) (ci := 4) (rest := []) (as := [.int x1, .int x2]) cf_X4_187 dX4_reel_31 ⟨rfl, rfl⟩ rfl rfl ⟨Nat.le_of_ble_eq_true rfl, Nat.le_of_ble_eq_true rfl⟩ ⟨Nat.le_of_ble_eq_true rfl, Nat.le_of_ble_eq_true rfl⟩ (Nat.le_of_ble_eq_true rfl) (fun X' hX => KX4_reelAt hX)) rfl rfl rfl rfl ⟨Nat.le_of_ble_eq_true rfl, Nat.le_of_ble_eq_true rfl⟩ rfl hF (fun x109 h108 hF => ?_)
      refine jj_goto (tgt := 42) dX4_reel_34 rfl ?_
      exact jj_retI (ty := .int) rfl rfl dX4_reel_42 ⟨Nat.le_of_ble_eq_true rfl, Nat.le_of_ble_eq_true rfl⟩ hF
  · skip
    refine jj_aload_n (j := 0) (i := 0) (pc' := 14) dX4_reel_13 rfl rfl rfl ?_
    refine jj_iconst (v := (1 : Int32)) (pc' := 15) dX4_reel_14 rfl rfl ?_
    refine jj_cI (N := M_X4_refuses) (kc' := 0) (ks' := 0) (pc' := 18) (jg_V (N := M_X4_refuses) (ci := 4) (rest := []) (as := [.int ((1 : Int32))]) cf_X4_92 dX4_reel_15 ⟨rfl, rfl⟩ rfl rfl ⟨Nat.le_of_ble_eq_true rfl, Nat.le_of_ble_eq_true rfl⟩ ⟨Nat.le_of_ble_eq_true rfl, Nat.le_of_ble_eq_true rfl⟩ (Nat.le_of_ble_eq_true rfl) (fun X' hX => KX4_refuses hX)) rfl rfl rfl rfl ⟨Nat.le_of_ble_eq_true rfl, Nat.le_of_ble_eq_true rfl⟩ rfl hF (fun x111 h110 hF => ?_)
    exact jj_retI (ty := .int) rfl rfl dX4_reel_18 ⟨Nat.le_of_ble_eq_true rfl, Nat.le_of_ble_eq_true rfl⟩ hF
theorem KX4_reel {a0 : Nat} {x1 : Int32} {x2 : Int32} {h : jm_H} {X : jm_X} (hF : FX4_reel a0 x1 x2 h = some X) : jm_K M_X4_reel [.ref a0, .int x1, .int x2] h X := jk_of rfl (by decide +kernel) rfl rfl (Nat.le_of_ble_eq_true rfl) (JX4_reel hF)
set_option maxRecDepth 100000 in
set_option maxHeartbeats 4000000 in
theorem BX4_running_5 (N : Nat) : ∀ (n : Nat) (a0 : Nat) (x1 : Int32) (x2 : Int32) (x3 : Int32) (x4 : Int32) (h : jm_H) (X : jm_X), FX4_running_5 N n a0 x1 x2 x3 x4 h = some X → jm_J M_X4_running 5 [(0, .ref a0), (1, .int x1), (2, .int x2), (3, .int x3), (4, .int x4)] [] h 0 0 X := by
  intro n
  induction n with
  | zero =>
    intro a0 x1 x2 x3 x4 h X hF
    exact nomatch (show (none : Option jm_X) = some X from hF)
  | succ n ih =>
    intro a0 x1 x2 x3 x4 h X hF
    rw [FX4_running_5] at hF
    refine jj_iload (j := 4) (i := 4) (pc' := 7) dX4_running_5 rfl rfl ?_
    refine jj_bipush (v := (6 : Int32)) (pc' := 9) dX4_running_7 rfl rfl ?_
    refine jj_aload_n (j := 0) (i := 0) (pc' := 10) dX4_running_9 rfl rfl rfl ?_
    refine jj_gR (C := RX4) (T := TX4) (N := 15) (ci := 4) (k := 0) (pc' := 13) dX4_running_10 rfl rfl inX4 (by decide) qw_73 hF (fun r101 hF => ?_)
    refine jj_iconst (v := (1 : Int32)) (pc' := 14) dX4_running_13 rfl rfl ?_
    refine jj_ldI (pc' := 15) dX4_running_14 rfl hF (fun x102 hF => ?_)
    refine jj_imul (pc' := 16) dX4_running_15 rfl ?_
    refine jj_icmp_ge (tgt := 120) (pc' := 19) dX4_running_16 rfl rfl (fun hc hF => ?_) (fun hc hF => ?_) hF
    · skip
      refine jj_iload_n (j := 3) (i := 3) (pc' := 121) dX4_running_120 rfl rfl rfl ?_
      exact jj_retI (ty := .int) rfl rfl dX4_running_121 ⟨Nat.le_of_ble_eq_true rfl, Nat.le_of_ble_eq_true rfl⟩ hF
    · skip
      refine jj_iload (j := 4) (i := 4) (pc' := 21) dX4_running_19 rfl rfl ?_
      refine jj_bipush (v := (6 : Int32)) (pc' := 23) dX4_running_21 rfl rfl ?_
      refine jj_idiv (pc' := 24) dX4_running_23 (by decide) rfl ?_
      refine jj_istore (i := 5) (ls' := [(5, .int (x4 / ((6 : Int32)))), (0, .ref a0), (1, .int x1), (2, .int x2), (3, .int x3), (4, .int x4)]) (pc' := 26) dX4_running_24 (Nat.le_of_ble_eq_true rfl) rfl rfl ?_
      refine jj_aload_n (j := 1) (i := 0) (pc' := 27) dX4_running_26 rfl rfl rfl ?_
      refine jj_iload (j := 0) (i := 5) (pc' := 29) dX4_running_27 rfl rfl ?_
      refine jj_iload (j := 5) (i := 4) (pc' := 31) dX4_running_29 rfl rfl ?_
      refine jj_bipush (v := (6 : Int32)) (pc' := 33) dX4_running_31 rfl rfl ?_
      refine jj_irem (pc' := 34) dX4_running_33 (by decide) rfl ?_
      refine jj_cI (N := M_X4_reelAt) (kc' := 0) (ks' := 0) (pc' := 37) (jg_V (N := M_X4_reelAt) (ci := 4) (rest := []) (as := [.int (x4 / ((6 : Int32))), .int (x4 - x4 / ((6 : Int32)) * ((6 : Int32)))]) cf_X4_187 dX4_running_34 ⟨rfl, rfl⟩ rfl rfl ⟨Nat.le_of_ble_eq_true rfl, Nat.le_of_ble_eq_true rfl⟩ ⟨Nat.le_of_ble_eq_true rfl, Nat.le_of_ble_eq_true rfl⟩ (Nat.le_of_ble_eq_true rfl) (fun X' hX => KX4_reelAt hX)) rfl rfl rfl rfl ⟨Nat.le_of_ble_eq_true rfl, Nat.le_of_ble_eq_true rfl⟩ rfl hF (fun x104 h103 hF => ?_)
      refine jj_istore (i := 6) (ls' := [(6, .int x104), (5, .int (x4 / ((6 : Int32)))), (0, .ref a0), (1, .int x1), (2, .int x2), (3, .int x3), (4, .int x4)]) (pc' := 39) dX4_running_37 (Nat.le_of_ble_eq_true rfl) rfl rfl ?_
      refine jj_aload_n (j := 2) (i := 0) (pc' := 40) dX4_running_39 rfl rfl rfl ?_
      refine jj_iload (j := 1) (i := 5) (pc' := 42) dX4_running_40 rfl rfl ?_
      refine jj_iconst (v := (1 : Int32)) (pc' := 43) dX4_running_42 rfl rfl ?_
      refine jj_cI (N := M_X4_of) (kc' := 0) (ks' := 0) (pc' := 46) (jg_V (N := M_X4_of) (ci := 4) (rest := []) (as := [.int (x4 / ((6 : Int32))), .int ((1 : Int32))]) cf_X4_47 dX4_running_43 ⟨rfl, rfl⟩ rfl rfl ⟨Nat.le_of_ble_eq_true rfl, Nat.le_of_ble_eq_true rfl⟩ ⟨Nat.le_of_ble_eq_true rfl, Nat.le_of_ble_eq_true rfl⟩ (Nat.le_of_ble_eq_true rfl) (fun X' hX => KX4_of hX)) rfl rfl rfl rfl ⟨Nat.le_of_ble_eq_true rfl, Nat.le_of_ble_eq_true rfl⟩ rfl hF (fun x106 h105 hF => ?_)
      refine jj_iload_n (j := 3) (i := 1) (pc' := 47) dX4_running_46 rfl rfl rfl ?_
      refine jj_icmp_ne (tgt := 85) (pc' := 50) dX4_running_47 rfl rfl (fun hc hF => ?_) (fun hc hF => ?_) hF
      · skip
        refine jj_iconst (v := (0 : Int32)) (pc' := 86) dX4_running_85 rfl rfl ?_
        refine jj_istore (i := 7) (ls' := [(7, .int ((0 : Int32))), (6, .int x104), (5, .int (x4 / ((6 : Int32)))), (0, .ref a0), (1, .int x1), (2, .int x2), (3, .int x3), (4, .int x4)]) (pc' := 88) dX4_running_86 (Nat.le_of_ble_eq_true rfl) rfl rfl ?_
        refine jj_iload (j := 0) (i := 7) (pc' := 90) dX4_running_88 rfl rfl ?_
        refine jj_if_eq_t (tgt := 112) dX4_running_90 rfl (by decide) ?_
        refine jj_iload_n (j := 6) (i := 3) (pc' := 113) dX4_running_112 rfl rfl rfl ?_
        refine jj_istore_n (i := 3) (ls' := [(3, .int x3), (7, .int ((0 : Int32))), (6, .int x104), (5, .int (x4 / ((6 : Int32)))), (0, .ref a0), (1, .int x1), (2, .int x2), (4, .int x4)]) (pc' := 114) dX4_running_113 rfl (Nat.le_of_ble_eq_true rfl) rfl rfl ?_
        refine jj_iinc (i := 4) (j := 7) (v := x4 + (1 : Int32)) (ls' := [(4, .int (x4 + (1 : Int32))), (3, .int x3), (7, .int ((0 : Int32))), (6, .int x104), (5, .int (x4 / ((6 : Int32)))), (0, .ref a0), (1, .int x1), (2, .int x2)]) (pc' := 117) dX4_running_114 rfl rfl (Nat.le_of_ble_eq_true rfl) rfl rfl ?_
        refine jj_goto (tgt := 5) dX4_running_117 rfl ?_
        exact jj_pick [5, 6, 7, 1, 0] rfl (ih a0 x1 x2 x3 (x4 + (1 : Int32)) h105 _ hF)
      · skip
        refine jj_iload (j := 0) (i := 6) (pc' := 52) dX4_running_50 rfl rfl ?_
        refine jj_iconst (v := (-1 : Int32)) (pc' := 53) dX4_running_52 rfl rfl ?_
        refine jj_icmp_eq (tgt := 85) (pc' := 56) dX4_running_53 rfl rfl (fun hc hF => ?_) (fun hc hF => ?_) hF
        · skip
          refine jj_iconst (v := (0 : Int32)) (pc' := 86) dX4_running_85 rfl rfl ?_
          refine jj_istore (i := 7) (ls' := [(7, .int ((0 : Int32))), (6, .int x104), (5, .int (x4 / ((6 : Int32)))), (0, .ref a0), (1, .int x1), (2, .int x2), (3, .int x3), (4, .int x4)]) (pc' := 88) dX4_running_86 (Nat.le_of_ble_eq_true rfl) rfl rfl ?_
          refine jj_iload (j := 0) (i := 7) (pc' := 90) dX4_running_88 rfl rfl ?_
          refine jj_if_eq_t (tgt := 112) dX4_running_90 rfl (by decide) ?_
          refine jj_iload_n (j := 6) (i := 3) (pc' := 113) dX4_running_112 rfl rfl rfl ?_
          refine jj_istore_n (i := 3) (ls' := [(3, .int x3), (7, .int ((0 : Int32))), (6, .int x104), (5, .int (x4 / ((6 : Int32)))), (0, .ref a0), (1, .int x1), (2, .int x2), (4, .int x4)]) (pc' := 114) dX4_running_113 rfl (Nat.le_of_ble_eq_true rfl) rfl rfl ?_
          refine jj_iinc (i := 4) (j := 7) (v := x4 + (1 : Int32)) (ls' := [(4, .int (x4 + (1 : Int32))), (3, .int x3), (7, .int ((0 : Int32))), (6, .int x104), (5, .int (x4 / ((6 : Int32)))), (0, .ref a0), (1, .int x1), (2, .int x2)]) (pc' := 117) dX4_running_114 rfl rfl (Nat.le_of_ble_eq_true rfl) rfl rfl ?_
          refine jj_goto (tgt := 5) dX4_running_117 rfl ?_
          exact jj_pick [5, 6, 7, 1, 0] rfl (ih a0 x1 x2 x3 (x4 + (1 : Int32)) h105 _ hF)
        · skip
          refine jj_iload_n (j := 4) (i := 2) (pc' := 57) dX4_running_56 rfl rfl rfl ?_
          refine jj_iload (j := 0) (i := 6) (pc' := 59) dX4_running_57 rfl rfl ?_
          refine jj_iload (j := 0) (i := 6) (pc' := 61) dX4_running_59 rfl rfl ?_
          refine jj_aload_n (j := 2) (i := 0) (pc' := 62) dX4_running_61 rfl rfl rfl ?_
          refine jj_aload_n (j := 2) (i := 0) (pc' := 63) dX4_running_62 rfl rfl rfl ?_
          refine jj_iload (j := 1) (i := 5) (pc' := 65) dX4_running_63 rfl rfl ?_
          refine jj_iconst (v := (0 : Int32)) (pc' := 66) dX4_running_65 rfl rfl ?_
          refine jj_cI (N := M_X4_of) (kc' := 0) (ks' := 0) (pc' := 69) (jg_V (N := M_X4_of) (ci := 4) (rest := [.ref a0, .int x104, .int x104, .int x2]) (as := [.int (x4 / ((6 : Int32))), .int ((0 : Int32))]) cf_X4_47 dX4_running_66 ⟨rfl, rfl⟩ rfl rfl ⟨Nat.le_of_ble_eq_true rfl, Nat.le_of_ble_eq_true rfl⟩ ⟨Nat.le_of_ble_eq_true rfl, Nat.le_of_ble_eq_true rfl⟩ (Nat.le_of_ble_eq_true rfl) (fun X' hX => KX4_of hX)) rfl rfl rfl rfl ⟨Nat.le_of_ble_eq_true rfl, Nat.le_of_ble_eq_true rfl⟩ rfl hF (fun x108 h107 hF => ?_)
          refine jj_cI (N := M_X4_minutes) (kc' := 0) (ks' := 0) (pc' := 72) (jg_V (N := M_X4_minutes) (ci := 4) (rest := [.int x104, .int x104, .int x2]) (as := [.int x108]) cf_X4_40 dX4_running_69 ⟨rfl, rfl⟩ rfl rfl ⟨Nat.le_of_ble_eq_true rfl, Nat.le_of_ble_eq_true rfl⟩ ⟨Nat.le_of_ble_eq_true rfl, Nat.le_of_ble_eq_true rfl⟩ (Nat.le_of_ble_eq_true rfl) (fun X' hX => KX4_minutes hX)) rfl rfl rfl rfl ⟨Nat.le_of_ble_eq_true rfl, Nat.le_of_ble_eq_true rfl⟩ rfl hF (fun x110 h109 hF => ?_)
          refine jj_iadd (pc' := 73) dX4_running_72 rfl ?_
          refine jj_iconst (v := (1 : Int32)) (pc' := 74) dX4_running_73 rfl rfl ?_
          refine jj_isub (pc' := 75) dX4_running_74 rfl ?_
          refine jj_cI (N := M_X4_in) (kc' := 0) (ks' := 0) (pc' := 78) (jg_S (N := M_X4_in) (rest := []) (as := [.int x2, .int x104, .int ((x104 + x110) - ((1 : Int32)))]) cf_X4_88 rfl dX4_running_75 rfl rfl ⟨Nat.le_of_ble_eq_true rfl, Nat.le_of_ble_eq_true rfl⟩ ⟨Nat.le_of_ble_eq_true rfl, Nat.le_of_ble_eq_true rfl⟩ (Nat.le_of_ble_eq_true rfl) (fun X' hX => KX4_in hX)) rfl rfl rfl rfl ⟨Nat.le_of_ble_eq_true rfl, Nat.le_of_ble_eq_true rfl⟩ rfl hF (fun x112 h111 hF => ?_)
          refine jj_if_eq (tgt := 85) (pc' := 81) dX4_running_78 rfl rfl (fun hc hF => ?_) (fun hc hF => ?_) hF
          · skip
            refine jj_iconst (v := (0 : Int32)) (pc' := 86) dX4_running_85 rfl rfl ?_
            refine jj_istore (i := 7) (ls' := [(7, .int ((0 : Int32))), (6, .int x104), (5, .int (x4 / ((6 : Int32)))), (0, .ref a0), (1, .int x1), (2, .int x2), (3, .int x3), (4, .int x4)]) (pc' := 88) dX4_running_86 (Nat.le_of_ble_eq_true rfl) rfl rfl ?_
            refine jj_iload (j := 0) (i := 7) (pc' := 90) dX4_running_88 rfl rfl ?_
            refine jj_if_eq_t (tgt := 112) dX4_running_90 rfl (by decide) ?_
            refine jj_iload_n (j := 6) (i := 3) (pc' := 113) dX4_running_112 rfl rfl rfl ?_
            refine jj_istore_n (i := 3) (ls' := [(3, .int x3), (7, .int ((0 : Int32))), (6, .int x104), (5, .int (x4 / ((6 : Int32)))), (0, .ref a0), (1, .int x1), (2, .int x2), (4, .int x4)]) (pc' := 114) dX4_running_113 rfl (Nat.le_of_ble_eq_true rfl) rfl rfl ?_
            refine jj_iinc (i := 4) (j := 7) (v := x4 + (1 : Int32)) (ls' := [(4, .int (x4 + (1 : Int32))), (3, .int x3), (7, .int ((0 : Int32))), (6, .int x104), (5, .int (x4 / ((6 : Int32)))), (0, .ref a0), (1, .int x1), (2, .int x2)]) (pc' := 117) dX4_running_114 rfl rfl (Nat.le_of_ble_eq_true rfl) rfl rfl ?_
            refine jj_goto (tgt := 5) dX4_running_117 rfl ?_
            exact jj_pick [5, 6, 7, 1, 0] rfl (ih a0 x1 x2 x3 (x4 + (1 : Int32)) h111 _ hF)
          · skip
            refine jj_iconst (v := (1 : Int32)) (pc' := 82) dX4_running_81 rfl rfl ?_
            refine jj_goto (tgt := 86) dX4_running_82 rfl ?_
            refine jj_istore (i := 7) (ls' := [(7, .int ((1 : Int32))), (6, .int x104), (5, .int (x4 / ((6 : Int32)))), (0, .ref a0), (1, .int x1), (2, .int x2), (3, .int x3), (4, .int x4)]) (pc' := 88) dX4_running_86 (Nat.le_of_ble_eq_true rfl) rfl rfl ?_
            refine jj_iload (j := 0) (i := 7) (pc' := 90) dX4_running_88 rfl rfl ?_
            refine jj_if_eq_f (pc' := 93) dX4_running_90 rfl (by decide) 112 rfl ?_
            refine jj_bipush (v := (6 : Int32)) (pc' := 95) dX4_running_93 rfl rfl ?_
            refine jj_aload_n (j := 3) (i := 0) (pc' := 96) dX4_running_95 rfl rfl rfl ?_
            refine jj_iload (j := 2) (i := 5) (pc' := 98) dX4_running_96 rfl rfl ?_
            refine jj_iconst (v := (0 : Int32)) (pc' := 99) dX4_running_98 rfl rfl ?_
            refine jj_cI (N := M_X4_of) (kc' := 0) (ks' := 0) (pc' := 102) (jg_V (N := M_X4_of) (ci := 4) (rest := [.int ((6 : Int32))]) (as := [.int (x4 / ((6 : Int32))), .int ((0 : Int32))]) cf_X4_47 dX4_running_99 ⟨rfl, rfl⟩ rfl rfl ⟨Nat.le_of_ble_eq_true rfl, Nat.le_of_ble_eq_true rfl⟩ ⟨Nat.le_of_ble_eq_true rfl, Nat.le_of_ble_eq_true rfl⟩ (Nat.le_of_ble_eq_true rfl) (fun X' hX => KX4_of hX)) rfl rfl rfl rfl ⟨Nat.le_of_ble_eq_true rfl, Nat.le_of_ble_eq_true rfl⟩ rfl hF (fun x114 h113 hF => ?_)
            refine jj_imul (pc' := 103) dX4_running_102 rfl ?_
            refine jj_iload (j := 7) (i := 4) (pc' := 105) dX4_running_103 rfl rfl ?_
            refine jj_bipush (v := (6 : Int32)) (pc' := 107) dX4_running_105 rfl rfl ?_
            refine jj_irem (pc' := 108) dX4_running_107 (by decide) rfl ?_
            refine jj_iadd (pc' := 109) dX4_running_108 rfl ?_
            refine jj_goto (tgt := 113) dX4_running_109 rfl ?_
            refine jj_istore_n (i := 3) (ls' := [(3, .int ((((6 : Int32)) * x114) + (x4 - x4 / ((6 : Int32)) * ((6 : Int32))))), (7, .int ((1 : Int32))), (6, .int x104), (5, .int (x4 / ((6 : Int32)))), (0, .ref a0), (1, .int x1), (2, .int x2), (4, .int x4)]) (pc' := 114) dX4_running_113 rfl (Nat.le_of_ble_eq_true rfl) rfl rfl ?_
            refine jj_iinc (i := 4) (j := 7) (v := x4 + (1 : Int32)) (ls' := [(4, .int (x4 + (1 : Int32))), (3, .int ((((6 : Int32)) * x114) + (x4 - x4 / ((6 : Int32)) * ((6 : Int32))))), (7, .int ((1 : Int32))), (6, .int x104), (5, .int (x4 / ((6 : Int32)))), (0, .ref a0), (1, .int x1), (2, .int x2)]) (pc' := 117) dX4_running_114 rfl rfl (Nat.le_of_ble_eq_true rfl) rfl rfl ?_
            refine jj_goto (tgt := 5) dX4_running_117 rfl ?_
            exact jj_pick [5, 6, 7, 1, 0] rfl (ih a0 x1 x2 ((((6 : Int32)) * x114) + (x4 - x4 / ((6 : Int32)) * ((6 : Int32)))) (x4 + (1 : Int32)) h113 _ hF)
set_option maxRecDepth 100000 in
set_option maxHeartbeats 4000000 in
theorem JX4_running {N : Nat} {a0 : Nat} {x1 : Int32} {x2 : Int32} {h : jm_H} {X : jm_X} (hF : FX4_running N a0 x1 x2 h = some X) : jm_J M_X4_running 0 [(0, .ref a0), (1, .int x1), (2, .int x2)] [] h 0 0 X := by
  unfold FX4_running at hF
  refine jj_iconst (v := (-1 : Int32)) (pc' := 1) dX4_running_0 rfl rfl ?_
  refine jj_istore_n (i := 3) (ls' := [(3, .int ((-1 : Int32))), (0, .ref a0), (1, .int x1), (2, .int x2)]) (pc' := 2) dX4_running_1 rfl (Nat.le_of_ble_eq_true rfl) rfl rfl ?_
  refine jj_iconst (v := (0 : Int32)) (pc' := 3) dX4_running_2 rfl rfl ?_
  refine jj_istore (i := 4) (ls' := [(4, .int ((0 : Int32))), (3, .int ((-1 : Int32))), (0, .ref a0), (1, .int x1), (2, .int x2)]) (pc' := 5) dX4_running_3 (Nat.le_of_ble_eq_true rfl) rfl rfl ?_
  exact jj_pick [2, 3, 4, 1, 0] rfl (BX4_running_5 N N a0 x1 x2 ((-1 : Int32)) ((0 : Int32)) h _ hF)
theorem KX4_running {N : Nat} {a0 : Nat} {x1 : Int32} {x2 : Int32} {h : jm_H} {X : jm_X} (hF : FX4_running N a0 x1 x2 h = some X) : jm_K M_X4_running [.ref a0, .int x1, .int x2] h X := jk_of rfl (by decide +kernel) rfl rfl (Nat.le_of_ble_eq_true rfl) (JX4_running hF)
set_option maxRecDepth 100000 in
set_option maxHeartbeats 4000000 in
theorem JX4_runs {N : Nat} {a0 : Nat} {x1 : Int32} {x2 : Int32} {h : jm_H} {X : jm_X} (hF : FX4_runs N a0 x1 x2 h = some X) : jm_J M_X4_runs 0 [(0, .ref a0), (1, .int x1), (2, .int x2)] [] h 0 0 X := by
  unfold FX4_runs at hF
  refine jj_aload_n (j := 0) (i := 0) (pc' := 1) dX4_runs_0 rfl rfl rfl ?_
  refine jj_iconst (v := (0 : Int32)) (pc' := 2) dX4_runs_1 rfl rfl ?_
  refine jj_p (C := RX4) (T := TX4) (N := 15) (ci := 4) (k := 7) (ty := tyX4) (pc' := 5) dX4_runs_2 rfl rfl inX4 tyX4_ok nmX4 (by decide) qw_79 rfl (fun _ => ⟨rfl, rfl⟩) hF (fun h101 hF => ?_)
  refine jj_iload_n (j := 1) (i := 1) (pc' := 6) dX4_runs_5 rfl rfl rfl ?_
  refine jj_cI (N := M_X4_isScreen) (kc' := 0) (ks' := 0) (pc' := 9) (jg_S (N := M_X4_isScreen) (rest := []) (as := [.int x1]) cf_X4_98 rfl dX4_runs_6 rfl rfl ⟨Nat.le_of_ble_eq_true rfl, Nat.le_of_ble_eq_true rfl⟩ ⟨Nat.le_of_ble_eq_true rfl, Nat.le_of_ble_eq_true rfl⟩ (Nat.le_of_ble_eq_true rfl) (fun X' hX => KX4_isScreen hX)) rfl rfl rfl rfl ⟨Nat.le_of_ble_eq_true rfl, Nat.le_of_ble_eq_true rfl⟩ rfl hF (fun x103 h102 hF => ?_)
  refine jj_if_ne (tgt := 18) (pc' := 12) dX4_runs_9 rfl rfl (fun hc hF => ?_) (fun hc hF => ?_) hF
  · skip
    refine jj_iload_n (j := 2) (i := 2) (pc' := 19) dX4_runs_18 rfl rfl rfl ?_
    refine jj_cI (N := M_X4_isMinute) (kc' := 0) (ks' := 0) (pc' := 22) (jg_S (N := M_X4_isMinute) (rest := []) (as := [.int x2]) cf_X4_105 rfl dX4_runs_19 rfl rfl ⟨Nat.le_of_ble_eq_true rfl, Nat.le_of_ble_eq_true rfl⟩ ⟨Nat.le_of_ble_eq_true rfl, Nat.le_of_ble_eq_true rfl⟩ (Nat.le_of_ble_eq_true rfl) (fun X' hX => KX4_isMinute hX)) rfl rfl rfl rfl ⟨Nat.le_of_ble_eq_true rfl, Nat.le_of_ble_eq_true rfl⟩ rfl hF (fun x105 h104 hF => ?_)
    refine jj_if_eq (tgt := 34) (pc' := 25) dX4_runs_22 rfl rfl (fun hc hF => ?_) (fun hc hF => ?_) hF
    · skip
      refine jj_aload_n (j := 0) (i := 0) (pc' := 35) dX4_runs_34 rfl rfl rfl ?_
      refine jj_iconst (v := (2 : Int32)) (pc' := 36) dX4_runs_35 rfl rfl ?_
      refine jj_cI (N := M_X4_refuses) (kc' := 0) (ks' := 0) (pc' := 39) (jg_V (N := M_X4_refuses) (ci := 4) (rest := []) (as := [.int ((2 : Int32))]) cf_X4_92 dX4_runs_36 ⟨rfl, rfl⟩ rfl rfl ⟨Nat.le_of_ble_eq_true rfl, Nat.le_of_ble_eq_true rfl⟩ ⟨Nat.le_of_ble_eq_true rfl, Nat.le_of_ble_eq_true rfl⟩ (Nat.le_of_ble_eq_true rfl) (fun X' hX => KX4_refuses hX)) rfl rfl rfl rfl ⟨Nat.le_of_ble_eq_true rfl, Nat.le_of_ble_eq_true rfl⟩ rfl hF (fun x107 h106 hF => ?_)
      exact jj_retI (ty := .int) rfl rfl dX4_runs_39 ⟨Nat.le_of_ble_eq_true rfl, Nat.le_of_ble_eq_true rfl⟩ hF
    · skip
      refine jj_aload_n (j := 0) (i := 0) (pc' := 26) dX4_runs_25 rfl rfl rfl ?_
      refine jj_iload_n (j := 1) (i := 1) (pc' := 27) dX4_runs_26 rfl rfl rfl ?_
      refine jj_iload_n (j := 2) (i := 2) (pc' := 28) dX4_runs_27 rfl rfl rfl ?_
      refine jj_cI (N := M_X4_running) (kc' := 0) (ks' := 0) (pc' := 31) (jg_V (N := M_X4_running) (ci := 4) (rest := []) (as := [.int x1, .int x2]) cf_X4_190 dX4_runs_28 ⟨rfl, rfl⟩ rfl rfl ⟨Nat.le_of_ble_eq_true rfl, Nat.le_of_ble_eq_true rfl⟩ ⟨Nat.le_of_ble_eq_true rfl, Nat.le_of_ble_eq_true rfl⟩ (Nat.le_of_ble_eq_true rfl) (fun X' hX => KX4_running hX)) rfl rfl rfl rfl ⟨Nat.le_of_ble_eq_true rfl, Nat.le_of_ble_eq_true rfl⟩ rfl hF (fun x109 h108 hF => ?_)
      refine jj_goto (tgt := 39) dX4_runs_31 rfl ?_
      exact jj_retI (ty := .int) rfl rfl dX4_runs_39 ⟨Nat.le_of_ble_eq_true rfl, Nat.le_of_ble_eq_true rfl⟩ hF
  · skip
    refine jj_aload_n (j := 0) (i := 0) (pc' := 13) dX4_runs_12 rfl rfl rfl ?_
    refine jj_iconst (v := (1 : Int32)) (pc' := 14) dX4_runs_13 rfl rfl ?_
    refine jj_cI (N := M_X4_refuses) (kc' := 0) (ks' := 0) (pc' := 17) (jg_V (N := M_X4_refuses) (ci := 4) (rest := []) (as := [.int ((1 : Int32))]) cf_X4_92 dX4_runs_14 ⟨rfl, rfl⟩ rfl rfl ⟨Nat.le_of_ble_eq_true rfl, Nat.le_of_ble_eq_true rfl⟩ ⟨Nat.le_of_ble_eq_true rfl, Nat.le_of_ble_eq_true rfl⟩ (Nat.le_of_ble_eq_true rfl) (fun X' hX => KX4_refuses hX)) rfl rfl rfl rfl ⟨Nat.le_of_ble_eq_true rfl, Nat.le_of_ble_eq_true rfl⟩ rfl hF (fun x111 h110 hF => ?_)
    exact jj_retI (ty := .int) rfl rfl dX4_runs_17 ⟨Nat.le_of_ble_eq_true rfl, Nat.le_of_ble_eq_true rfl⟩ hF
theorem KX4_runs {N : Nat} {a0 : Nat} {x1 : Int32} {x2 : Int32} {h : jm_H} {X : jm_X} (hF : FX4_runs N a0 x1 x2 h = some X) : jm_K M_X4_runs [.ref a0, .int x1, .int x2] h X := jk_of rfl (by decide +kernel) rfl rfl (Nat.le_of_ble_eq_true rfl) (JX4_runs hF)
set_option maxRecDepth 100000 in
set_option maxHeartbeats 4000000 in
theorem BX4_onScreen_4 (N : Nat) : ∀ (n : Nat) (a0 : Nat) (x1 : Int32) (x2 : Int32) (x3 : Int32) (h : jm_H) (X : jm_X), FX4_onScreen_4 N n a0 x1 x2 x3 h = some X → jm_J M_X4_onScreen 4 [(0, .ref a0), (1, .int x1), (2, .int x2), (3, .int x3)] [] h 0 0 X := by
  intro n
  induction n with
  | zero =>
    intro a0 x1 x2 x3 h X hF
    exact nomatch (show (none : Option jm_X) = some X from hF)
  | succ n ih =>
    intro a0 x1 x2 x3 h X hF
    rw [FX4_onScreen_4] at hF
    refine jj_iload_n (j := 3) (i := 3) (pc' := 5) dX4_onScreen_4 rfl rfl rfl ?_
    refine jj_aload_n (j := 0) (i := 0) (pc' := 6) dX4_onScreen_5 rfl rfl rfl ?_
    refine jj_gR (C := RX4) (T := TX4) (N := 15) (ci := 4) (k := 0) (pc' := 9) dX4_onScreen_6 rfl rfl inX4 (by decide) qw_73 hF (fun r101 hF => ?_)
    refine jj_iconst (v := (1 : Int32)) (pc' := 10) dX4_onScreen_9 rfl rfl ?_
    refine jj_ldI (pc' := 11) dX4_onScreen_10 rfl hF (fun x102 hF => ?_)
    refine jj_icmp_ge (tgt := 38) (pc' := 14) dX4_onScreen_11 rfl rfl (fun hc hF => ?_) (fun hc hF => ?_) hF
    · skip
      refine jj_iload_n (j := 2) (i := 2) (pc' := 39) dX4_onScreen_38 rfl rfl rfl ?_
      exact jj_retI (ty := .int) rfl rfl dX4_onScreen_39 ⟨Nat.le_of_ble_eq_true rfl, Nat.le_of_ble_eq_true rfl⟩ hF
    · skip
      refine jj_iload_n (j := 2) (i := 2) (pc' := 15) dX4_onScreen_14 rfl rfl rfl ?_
      refine jj_aload_n (j := 0) (i := 0) (pc' := 16) dX4_onScreen_15 rfl rfl rfl ?_
      refine jj_iload_n (j := 3) (i := 3) (pc' := 17) dX4_onScreen_16 rfl rfl rfl ?_
      refine jj_iconst (v := (1 : Int32)) (pc' := 18) dX4_onScreen_17 rfl rfl ?_
      refine jj_cI (N := M_X4_of) (kc' := 0) (ks' := 0) (pc' := 21) (jg_V (N := M_X4_of) (ci := 4) (rest := [.int x2]) (as := [.int x3, .int ((1 : Int32))]) cf_X4_47 dX4_onScreen_18 ⟨rfl, rfl⟩ rfl rfl ⟨Nat.le_of_ble_eq_true rfl, Nat.le_of_ble_eq_true rfl⟩ ⟨Nat.le_of_ble_eq_true rfl, Nat.le_of_ble_eq_true rfl⟩ (Nat.le_of_ble_eq_true rfl) (fun X' hX => KX4_of hX)) rfl rfl rfl rfl ⟨Nat.le_of_ble_eq_true rfl, Nat.le_of_ble_eq_true rfl⟩ rfl hF (fun x104 h103 hF => ?_)
      refine jj_iload_n (j := 1) (i := 1) (pc' := 22) dX4_onScreen_21 rfl rfl rfl ?_
      refine jj_icmp_ne (tgt := 29) (pc' := 25) dX4_onScreen_22 rfl rfl (fun hc hF => ?_) (fun hc hF => ?_) hF
      · skip
        refine jj_iconst (v := (0 : Int32)) (pc' := 30) dX4_onScreen_29 rfl rfl ?_
        refine jj_iadd (pc' := 31) dX4_onScreen_30 rfl ?_
        refine jj_istore_n (i := 2) (ls' := [(2, .int (x2 + ((0 : Int32)))), (0, .ref a0), (1, .int x1), (3, .int x3)]) (pc' := 32) dX4_onScreen_31 rfl (Nat.le_of_ble_eq_true rfl) rfl rfl ?_
        refine jj_iinc (i := 3) (j := 3) (v := x3 + (1 : Int32)) (ls' := [(3, .int (x3 + (1 : Int32))), (2, .int (x2 + ((0 : Int32)))), (0, .ref a0), (1, .int x1)]) (pc' := 35) dX4_onScreen_32 rfl rfl (Nat.le_of_ble_eq_true rfl) rfl rfl ?_
        refine jj_goto (tgt := 4) dX4_onScreen_35 rfl ?_
        exact jj_pick [2, 3, 1, 0] rfl (ih a0 x1 (x2 + ((0 : Int32))) (x3 + (1 : Int32)) h103 _ hF)
      · skip
        refine jj_iconst (v := (1 : Int32)) (pc' := 26) dX4_onScreen_25 rfl rfl ?_
        refine jj_goto (tgt := 30) dX4_onScreen_26 rfl ?_
        refine jj_iadd (pc' := 31) dX4_onScreen_30 rfl ?_
        refine jj_istore_n (i := 2) (ls' := [(2, .int (x2 + ((1 : Int32)))), (0, .ref a0), (1, .int x1), (3, .int x3)]) (pc' := 32) dX4_onScreen_31 rfl (Nat.le_of_ble_eq_true rfl) rfl rfl ?_
        refine jj_iinc (i := 3) (j := 3) (v := x3 + (1 : Int32)) (ls' := [(3, .int (x3 + (1 : Int32))), (2, .int (x2 + ((1 : Int32)))), (0, .ref a0), (1, .int x1)]) (pc' := 35) dX4_onScreen_32 rfl rfl (Nat.le_of_ble_eq_true rfl) rfl rfl ?_
        refine jj_goto (tgt := 4) dX4_onScreen_35 rfl ?_
        exact jj_pick [2, 3, 1, 0] rfl (ih a0 x1 (x2 + ((1 : Int32))) (x3 + (1 : Int32)) h103 _ hF)
set_option maxRecDepth 100000 in
set_option maxHeartbeats 4000000 in
theorem JX4_onScreen {N : Nat} {a0 : Nat} {x1 : Int32} {h : jm_H} {X : jm_X} (hF : FX4_onScreen N a0 x1 h = some X) : jm_J M_X4_onScreen 0 [(0, .ref a0), (1, .int x1)] [] h 0 0 X := by
  unfold FX4_onScreen at hF
  refine jj_iconst (v := (0 : Int32)) (pc' := 1) dX4_onScreen_0 rfl rfl ?_
  refine jj_istore_n (i := 2) (ls' := [(2, .int ((0 : Int32))), (0, .ref a0), (1, .int x1)]) (pc' := 2) dX4_onScreen_1 rfl (Nat.le_of_ble_eq_true rfl) rfl rfl ?_
  refine jj_iconst (v := (0 : Int32)) (pc' := 3) dX4_onScreen_2 rfl rfl ?_
  refine jj_istore_n (i := 3) (ls' := [(3, .int ((0 : Int32))), (2, .int ((0 : Int32))), (0, .ref a0), (1, .int x1)]) (pc' := 4) dX4_onScreen_3 rfl (Nat.le_of_ble_eq_true rfl) rfl rfl ?_
  exact jj_pick [2, 3, 1, 0] rfl (BX4_onScreen_4 N N a0 x1 ((0 : Int32)) ((0 : Int32)) h _ hF)
theorem KX4_onScreen {N : Nat} {a0 : Nat} {x1 : Int32} {h : jm_H} {X : jm_X} (hF : FX4_onScreen N a0 x1 h = some X) : jm_K M_X4_onScreen [.ref a0, .int x1] h X := jk_of rfl (by decide +kernel) rfl rfl (Nat.le_of_ble_eq_true rfl) (JX4_onScreen hF)
set_option maxRecDepth 100000 in
set_option maxHeartbeats 4000000 in
theorem BX4_used_4 (N : Nat) : ∀ (n : Nat) (a0 : Nat) (x1 : Int32) (x2 : Int32) (x3 : Int32) (h : jm_H) (X : jm_X), FX4_used_4 N n a0 x1 x2 x3 h = some X → jm_J M_X4_used 4 [(0, .ref a0), (1, .int x1), (2, .int x2), (3, .int x3)] [] h 0 0 X := by
  intro n
  induction n with
  | zero =>
    intro a0 x1 x2 x3 h X hF
    exact nomatch (show (none : Option jm_X) = some X from hF)
  | succ n ih =>
    intro a0 x1 x2 x3 h X hF
    rw [FX4_used_4] at hF
    refine jj_iload_n (j := 3) (i := 3) (pc' := 5) dX4_used_4 rfl rfl rfl ?_
    refine jj_aload_n (j := 0) (i := 0) (pc' := 6) dX4_used_5 rfl rfl rfl ?_
    refine jj_gR (C := RX4) (T := TX4) (N := 15) (ci := 4) (k := 0) (pc' := 9) dX4_used_6 rfl rfl inX4 (by decide) qw_73 hF (fun r101 hF => ?_)
    refine jj_iconst (v := (1 : Int32)) (pc' := 10) dX4_used_9 rfl rfl ?_
    refine jj_ldI (pc' := 11) dX4_used_10 rfl hF (fun x102 hF => ?_)
    refine jj_icmp_ge (tgt := 58) (pc' := 14) dX4_used_11 rfl rfl (fun hc hF => ?_) (fun hc hF => ?_) hF
    · skip
      refine jj_iload_n (j := 2) (i := 2) (pc' := 59) dX4_used_58 rfl rfl rfl ?_
      exact jj_retI (ty := .int) rfl rfl dX4_used_59 ⟨Nat.le_of_ble_eq_true rfl, Nat.le_of_ble_eq_true rfl⟩ hF
    · skip
      refine jj_iload_n (j := 2) (i := 2) (pc' := 15) dX4_used_14 rfl rfl rfl ?_
      refine jj_aload_n (j := 0) (i := 0) (pc' := 16) dX4_used_15 rfl rfl rfl ?_
      refine jj_iload_n (j := 3) (i := 3) (pc' := 17) dX4_used_16 rfl rfl rfl ?_
      refine jj_iconst (v := (1 : Int32)) (pc' := 18) dX4_used_17 rfl rfl ?_
      refine jj_cI (N := M_X4_of) (kc' := 0) (ks' := 0) (pc' := 21) (jg_V (N := M_X4_of) (ci := 4) (rest := [.int x2]) (as := [.int x3, .int ((1 : Int32))]) cf_X4_47 dX4_used_18 ⟨rfl, rfl⟩ rfl rfl ⟨Nat.le_of_ble_eq_true rfl, Nat.le_of_ble_eq_true rfl⟩ ⟨Nat.le_of_ble_eq_true rfl, Nat.le_of_ble_eq_true rfl⟩ (Nat.le_of_ble_eq_true rfl) (fun X' hX => KX4_of hX)) rfl rfl rfl rfl ⟨Nat.le_of_ble_eq_true rfl, Nat.le_of_ble_eq_true rfl⟩ rfl hF (fun x104 h103 hF => ?_)
      refine jj_iload_n (j := 1) (i := 1) (pc' := 22) dX4_used_21 rfl rfl rfl ?_
      refine jj_icmp_ne (tgt := 49) (pc' := 25) dX4_used_22 rfl rfl (fun hc hF => ?_) (fun hc hF => ?_) hF
      · skip
        refine jj_iconst (v := (0 : Int32)) (pc' := 50) dX4_used_49 rfl rfl ?_
        refine jj_iadd (pc' := 51) dX4_used_50 rfl ?_
        refine jj_istore_n (i := 2) (ls' := [(2, .int (x2 + ((0 : Int32)))), (0, .ref a0), (1, .int x1), (3, .int x3)]) (pc' := 52) dX4_used_51 rfl (Nat.le_of_ble_eq_true rfl) rfl rfl ?_
        refine jj_iinc (i := 3) (j := 3) (v := x3 + (1 : Int32)) (ls' := [(3, .int (x3 + (1 : Int32))), (2, .int (x2 + ((0 : Int32)))), (0, .ref a0), (1, .int x1)]) (pc' := 55) dX4_used_52 rfl rfl (Nat.le_of_ble_eq_true rfl) rfl rfl ?_
        refine jj_goto (tgt := 4) dX4_used_55 rfl ?_
        exact jj_pick [2, 3, 1, 0] rfl (ih a0 x1 (x2 + ((0 : Int32))) (x3 + (1 : Int32)) h103 _ hF)
      · skip
        refine jj_aload_n (j := 0) (i := 0) (pc' := 26) dX4_used_25 rfl rfl rfl ?_
        refine jj_aload_n (j := 0) (i := 0) (pc' := 27) dX4_used_26 rfl rfl rfl ?_
        refine jj_iload_n (j := 3) (i := 3) (pc' := 28) dX4_used_27 rfl rfl rfl ?_
        refine jj_iconst (v := (0 : Int32)) (pc' := 29) dX4_used_28 rfl rfl ?_
        refine jj_cI (N := M_X4_of) (kc' := 0) (ks' := 0) (pc' := 32) (jg_V (N := M_X4_of) (ci := 4) (rest := [.ref a0, .int x2]) (as := [.int x3, .int ((0 : Int32))]) cf_X4_47 dX4_used_29 ⟨rfl, rfl⟩ rfl rfl ⟨Nat.le_of_ble_eq_true rfl, Nat.le_of_ble_eq_true rfl⟩ ⟨Nat.le_of_ble_eq_true rfl, Nat.le_of_ble_eq_true rfl⟩ (Nat.le_of_ble_eq_true rfl) (fun X' hX => KX4_of hX)) rfl rfl rfl rfl ⟨Nat.le_of_ble_eq_true rfl, Nat.le_of_ble_eq_true rfl⟩ rfl hF (fun x106 h105 hF => ?_)
        refine jj_cI (N := M_X4_reels) (kc' := 0) (ks' := 0) (pc' := 35) (jg_V (N := M_X4_reels) (ci := 4) (rest := [.int x2]) (as := [.int x106]) cf_X4_44 dX4_used_32 ⟨rfl, rfl⟩ rfl rfl ⟨Nat.le_of_ble_eq_true rfl, Nat.le_of_ble_eq_true rfl⟩ ⟨Nat.le_of_ble_eq_true rfl, Nat.le_of_ble_eq_true rfl⟩ (Nat.le_of_ble_eq_true rfl) (fun X' hX => KX4_reels hX)) rfl rfl rfl rfl ⟨Nat.le_of_ble_eq_true rfl, Nat.le_of_ble_eq_true rfl⟩ rfl hF (fun x108 h107 hF => ?_)
        refine jj_aload_n (j := 0) (i := 0) (pc' := 36) dX4_used_35 rfl rfl rfl ?_
        refine jj_aload_n (j := 0) (i := 0) (pc' := 37) dX4_used_36 rfl rfl rfl ?_
        refine jj_iload_n (j := 3) (i := 3) (pc' := 38) dX4_used_37 rfl rfl rfl ?_
        refine jj_iconst (v := (0 : Int32)) (pc' := 39) dX4_used_38 rfl rfl ?_
        refine jj_cI (N := M_X4_of) (kc' := 0) (ks' := 0) (pc' := 42) (jg_V (N := M_X4_of) (ci := 4) (rest := [.ref a0, .int x108, .int x2]) (as := [.int x3, .int ((0 : Int32))]) cf_X4_47 dX4_used_39 ⟨rfl, rfl⟩ rfl rfl ⟨Nat.le_of_ble_eq_true rfl, Nat.le_of_ble_eq_true rfl⟩ ⟨Nat.le_of_ble_eq_true rfl, Nat.le_of_ble_eq_true rfl⟩ (Nat.le_of_ble_eq_true rfl) (fun X' hX => KX4_of hX)) rfl rfl rfl rfl ⟨Nat.le_of_ble_eq_true rfl, Nat.le_of_ble_eq_true rfl⟩ rfl hF (fun x110 h109 hF => ?_)
        refine jj_cI (N := M_X4_minutes) (kc' := 0) (ks' := 0) (pc' := 45) (jg_V (N := M_X4_minutes) (ci := 4) (rest := [.int x108, .int x2]) (as := [.int x110]) cf_X4_40 dX4_used_42 ⟨rfl, rfl⟩ rfl rfl ⟨Nat.le_of_ble_eq_true rfl, Nat.le_of_ble_eq_true rfl⟩ ⟨Nat.le_of_ble_eq_true rfl, Nat.le_of_ble_eq_true rfl⟩ (Nat.le_of_ble_eq_true rfl) (fun X' hX => KX4_minutes hX)) rfl rfl rfl rfl ⟨Nat.le_of_ble_eq_true rfl, Nat.le_of_ble_eq_true rfl⟩ rfl hF (fun x112 h111 hF => ?_)
        refine jj_imul (pc' := 46) dX4_used_45 rfl ?_
        refine jj_goto (tgt := 50) dX4_used_46 rfl ?_
        refine jj_iadd (pc' := 51) dX4_used_50 rfl ?_
        refine jj_istore_n (i := 2) (ls' := [(2, .int (x2 + (x108 * x112))), (0, .ref a0), (1, .int x1), (3, .int x3)]) (pc' := 52) dX4_used_51 rfl (Nat.le_of_ble_eq_true rfl) rfl rfl ?_
        refine jj_iinc (i := 3) (j := 3) (v := x3 + (1 : Int32)) (ls' := [(3, .int (x3 + (1 : Int32))), (2, .int (x2 + (x108 * x112))), (0, .ref a0), (1, .int x1)]) (pc' := 55) dX4_used_52 rfl rfl (Nat.le_of_ble_eq_true rfl) rfl rfl ?_
        refine jj_goto (tgt := 4) dX4_used_55 rfl ?_
        exact jj_pick [2, 3, 1, 0] rfl (ih a0 x1 (x2 + (x108 * x112)) (x3 + (1 : Int32)) h111 _ hF)
set_option maxRecDepth 100000 in
set_option maxHeartbeats 4000000 in
theorem JX4_used {N : Nat} {a0 : Nat} {x1 : Int32} {h : jm_H} {X : jm_X} (hF : FX4_used N a0 x1 h = some X) : jm_J M_X4_used 0 [(0, .ref a0), (1, .int x1)] [] h 0 0 X := by
  unfold FX4_used at hF
  refine jj_iconst (v := (0 : Int32)) (pc' := 1) dX4_used_0 rfl rfl ?_
  refine jj_istore_n (i := 2) (ls' := [(2, .int ((0 : Int32))), (0, .ref a0), (1, .int x1)]) (pc' := 2) dX4_used_1 rfl (Nat.le_of_ble_eq_true rfl) rfl rfl ?_
  refine jj_iconst (v := (0 : Int32)) (pc' := 3) dX4_used_2 rfl rfl ?_
  refine jj_istore_n (i := 3) (ls' := [(3, .int ((0 : Int32))), (2, .int ((0 : Int32))), (0, .ref a0), (1, .int x1)]) (pc' := 4) dX4_used_3 rfl (Nat.le_of_ble_eq_true rfl) rfl rfl ?_
  exact jj_pick [2, 3, 1, 0] rfl (BX4_used_4 N N a0 x1 ((0 : Int32)) ((0 : Int32)) h _ hF)
theorem KX4_used {N : Nat} {a0 : Nat} {x1 : Int32} {h : jm_H} {X : jm_X} (hF : FX4_used N a0 x1 h = some X) : jm_K M_X4_used [.ref a0, .int x1] h X := jk_of rfl (by decide +kernel) rfl rfl (Nat.le_of_ble_eq_true rfl) (JX4_used hF)
set_option maxRecDepth 100000 in
set_option maxHeartbeats 4000000 in
theorem BX4_last_4 (N : Nat) : ∀ (n : Nat) (a0 : Nat) (x1 : Int32) (x2 : Int32) (x3 : Int32) (h : jm_H) (X : jm_X), FX4_last_4 N n a0 x1 x2 x3 h = some X → jm_J M_X4_last 4 [(0, .ref a0), (1, .int x1), (2, .int x2), (3, .int x3)] [] h 0 0 X := by
  intro n
  induction n with
  | zero =>
    intro a0 x1 x2 x3 h X hF
    exact nomatch (show (none : Option jm_X) = some X from hF)
  | succ n ih =>
    intro a0 x1 x2 x3 h X hF
    rw [FX4_last_4] at hF
    refine jj_iload_n (j := 3) (i := 3) (pc' := 5) dX4_last_4 rfl rfl rfl ?_
    refine jj_aload_n (j := 0) (i := 0) (pc' := 6) dX4_last_5 rfl rfl rfl ?_
    refine jj_gR (C := RX4) (T := TX4) (N := 15) (ci := 4) (k := 0) (pc' := 9) dX4_last_6 rfl rfl inX4 (by decide) qw_73 hF (fun r101 hF => ?_)
    refine jj_iconst (v := (1 : Int32)) (pc' := 10) dX4_last_9 rfl rfl ?_
    refine jj_ldI (pc' := 11) dX4_last_10 rfl hF (fun x102 hF => ?_)
    refine jj_icmp_ge (tgt := 49) (pc' := 14) dX4_last_11 rfl rfl (fun hc hF => ?_) (fun hc hF => ?_) hF
    · skip
      refine jj_iload_n (j := 2) (i := 2) (pc' := 50) dX4_last_49 rfl rfl rfl ?_
      exact jj_retI (ty := .int) rfl rfl dX4_last_50 ⟨Nat.le_of_ble_eq_true rfl, Nat.le_of_ble_eq_true rfl⟩ hF
    · skip
      refine jj_aload_n (j := 0) (i := 0) (pc' := 15) dX4_last_14 rfl rfl rfl ?_
      refine jj_iload_n (j := 3) (i := 3) (pc' := 16) dX4_last_15 rfl rfl rfl ?_
      refine jj_iconst (v := (1 : Int32)) (pc' := 17) dX4_last_16 rfl rfl ?_
      refine jj_cI (N := M_X4_of) (kc' := 0) (ks' := 0) (pc' := 20) (jg_V (N := M_X4_of) (ci := 4) (rest := []) (as := [.int x3, .int ((1 : Int32))]) cf_X4_47 dX4_last_17 ⟨rfl, rfl⟩ rfl rfl ⟨Nat.le_of_ble_eq_true rfl, Nat.le_of_ble_eq_true rfl⟩ ⟨Nat.le_of_ble_eq_true rfl, Nat.le_of_ble_eq_true rfl⟩ (Nat.le_of_ble_eq_true rfl) (fun X' hX => KX4_of hX)) rfl rfl rfl rfl ⟨Nat.le_of_ble_eq_true rfl, Nat.le_of_ble_eq_true rfl⟩ rfl hF (fun x104 h103 hF => ?_)
      refine jj_iload_n (j := 1) (i := 1) (pc' := 21) dX4_last_20 rfl rfl rfl ?_
      refine jj_icmp_ne (tgt := 41) (pc' := 24) dX4_last_21 rfl rfl (fun hc hF => ?_) (fun hc hF => ?_) hF
      · skip
        refine jj_iload_n (j := 2) (i := 2) (pc' := 42) dX4_last_41 rfl rfl rfl ?_
        refine jj_istore_n (i := 2) (ls' := [(2, .int x2), (0, .ref a0), (1, .int x1), (3, .int x3)]) (pc' := 43) dX4_last_42 rfl (Nat.le_of_ble_eq_true rfl) rfl rfl ?_
        refine jj_iinc (i := 3) (j := 3) (v := x3 + (1 : Int32)) (ls' := [(3, .int (x3 + (1 : Int32))), (2, .int x2), (0, .ref a0), (1, .int x1)]) (pc' := 46) dX4_last_43 rfl rfl (Nat.le_of_ble_eq_true rfl) rfl rfl ?_
        refine jj_goto (tgt := 4) dX4_last_46 rfl ?_
        exact jj_pick [2, 3, 1, 0] rfl (ih a0 x1 x2 (x3 + (1 : Int32)) h103 _ hF)
      · skip
        refine jj_aload_n (j := 0) (i := 0) (pc' := 25) dX4_last_24 rfl rfl rfl ?_
        refine jj_iload_n (j := 3) (i := 3) (pc' := 26) dX4_last_25 rfl rfl rfl ?_
        refine jj_cI (N := M_X4_end) (kc' := 0) (ks' := 0) (pc' := 29) (jg_V (N := M_X4_end) (ci := 4) (rest := []) (as := [.int x3]) cf_X4_75 dX4_last_26 ⟨rfl, rfl⟩ rfl rfl ⟨Nat.le_of_ble_eq_true rfl, Nat.le_of_ble_eq_true rfl⟩ ⟨Nat.le_of_ble_eq_true rfl, Nat.le_of_ble_eq_true rfl⟩ (Nat.le_of_ble_eq_true rfl) (fun X' hX => KX4_end hX)) rfl rfl rfl rfl ⟨Nat.le_of_ble_eq_true rfl, Nat.le_of_ble_eq_true rfl⟩ rfl hF (fun x106 h105 hF => ?_)
        refine jj_iload_n (j := 2) (i := 2) (pc' := 30) dX4_last_29 rfl rfl rfl ?_
        refine jj_icmp_le (tgt := 41) (pc' := 33) dX4_last_30 rfl rfl (fun hc hF => ?_) (fun hc hF => ?_) hF
        · skip
          refine jj_iload_n (j := 2) (i := 2) (pc' := 42) dX4_last_41 rfl rfl rfl ?_
          refine jj_istore_n (i := 2) (ls' := [(2, .int x2), (0, .ref a0), (1, .int x1), (3, .int x3)]) (pc' := 43) dX4_last_42 rfl (Nat.le_of_ble_eq_true rfl) rfl rfl ?_
          refine jj_iinc (i := 3) (j := 3) (v := x3 + (1 : Int32)) (ls' := [(3, .int (x3 + (1 : Int32))), (2, .int x2), (0, .ref a0), (1, .int x1)]) (pc' := 46) dX4_last_43 rfl rfl (Nat.le_of_ble_eq_true rfl) rfl rfl ?_
          refine jj_goto (tgt := 4) dX4_last_46 rfl ?_
          exact jj_pick [2, 3, 1, 0] rfl (ih a0 x1 x2 (x3 + (1 : Int32)) h105 _ hF)
        · skip
          refine jj_aload_n (j := 0) (i := 0) (pc' := 34) dX4_last_33 rfl rfl rfl ?_
          refine jj_iload_n (j := 3) (i := 3) (pc' := 35) dX4_last_34 rfl rfl rfl ?_
          refine jj_cI (N := M_X4_end) (kc' := 0) (ks' := 0) (pc' := 38) (jg_V (N := M_X4_end) (ci := 4) (rest := []) (as := [.int x3]) cf_X4_75 dX4_last_35 ⟨rfl, rfl⟩ rfl rfl ⟨Nat.le_of_ble_eq_true rfl, Nat.le_of_ble_eq_true rfl⟩ ⟨Nat.le_of_ble_eq_true rfl, Nat.le_of_ble_eq_true rfl⟩ (Nat.le_of_ble_eq_true rfl) (fun X' hX => KX4_end hX)) rfl rfl rfl rfl ⟨Nat.le_of_ble_eq_true rfl, Nat.le_of_ble_eq_true rfl⟩ rfl hF (fun x108 h107 hF => ?_)
          refine jj_goto (tgt := 42) dX4_last_38 rfl ?_
          refine jj_istore_n (i := 2) (ls' := [(2, .int x108), (0, .ref a0), (1, .int x1), (3, .int x3)]) (pc' := 43) dX4_last_42 rfl (Nat.le_of_ble_eq_true rfl) rfl rfl ?_
          refine jj_iinc (i := 3) (j := 3) (v := x3 + (1 : Int32)) (ls' := [(3, .int (x3 + (1 : Int32))), (2, .int x108), (0, .ref a0), (1, .int x1)]) (pc' := 46) dX4_last_43 rfl rfl (Nat.le_of_ble_eq_true rfl) rfl rfl ?_
          refine jj_goto (tgt := 4) dX4_last_46 rfl ?_
          exact jj_pick [2, 3, 1, 0] rfl (ih a0 x1 x108 (x3 + (1 : Int32)) h107 _ hF)
set_option maxRecDepth 100000 in
set_option maxHeartbeats 4000000 in
theorem JX4_last {N : Nat} {a0 : Nat} {x1 : Int32} {h : jm_H} {X : jm_X} (hF : FX4_last N a0 x1 h = some X) : jm_J M_X4_last 0 [(0, .ref a0), (1, .int x1)] [] h 0 0 X := by
  unfold FX4_last at hF
  refine jj_iconst (v := (-1 : Int32)) (pc' := 1) dX4_last_0 rfl rfl ?_
  refine jj_istore_n (i := 2) (ls' := [(2, .int ((-1 : Int32))), (0, .ref a0), (1, .int x1)]) (pc' := 2) dX4_last_1 rfl (Nat.le_of_ble_eq_true rfl) rfl rfl ?_
  refine jj_iconst (v := (0 : Int32)) (pc' := 3) dX4_last_2 rfl rfl ?_
  refine jj_istore_n (i := 3) (ls' := [(3, .int ((0 : Int32))), (2, .int ((-1 : Int32))), (0, .ref a0), (1, .int x1)]) (pc' := 4) dX4_last_3 rfl (Nat.le_of_ble_eq_true rfl) rfl rfl ?_
  exact jj_pick [2, 3, 1, 0] rfl (BX4_last_4 N N a0 x1 ((-1 : Int32)) ((0 : Int32)) h _ hF)
theorem KX4_last {N : Nat} {a0 : Nat} {x1 : Int32} {h : jm_H} {X : jm_X} (hF : FX4_last N a0 x1 h = some X) : jm_K M_X4_last [.ref a0, .int x1] h X := jk_of rfl (by decide +kernel) rfl rfl (Nat.le_of_ble_eq_true rfl) (JX4_last hF)
set_option maxRecDepth 100000 in
set_option maxHeartbeats 4000000 in
theorem JX4_aboutScreen {N : Nat} {a0 : Nat} {x1 : Int32} {x2 : Int32} {h : jm_H} {X : jm_X} (hF : FX4_aboutScreen N a0 x1 x2 h = some X) : jm_J M_X4_aboutScreen 0 [(0, .ref a0), (1, .int x1), (2, .int x2)] [] h 0 0 X := by
  unfold FX4_aboutScreen at hF
  refine jj_iload_n (j := 2) (i := 2) (pc' := 1) dX4_aboutScreen_0 rfl rfl rfl ?_
  refine jj_table (N := 4) (lo := 0) (dt := 54) [32, 42, 48, 48] dX4_aboutScreen_1 ⟨by decide, by decide⟩ ⟨by decide, by decide, rfl, rfl⟩ (by decide) rfl ?_ (fun hF => ?_) hF
  · intro i b tg hb ht hx hF
    match i, hb, ht with
    | 0, hb, ht =>
      cases hb; cases ht
      refine jj_aload_n (j := 0) (i := 0) (pc' := 33) dX4_aboutScreen_32 rfl rfl rfl ?_
      refine jj_gR (C := RX4) (T := TX4) (N := 15) (ci := 4) (k := 0) (pc' := 36) dX4_aboutScreen_33 rfl rfl inX4 (by decide) qw_73 hF (fun r101 hF => ?_)
      refine jj_bipush (v := (7 : Int32)) (pc' := 38) dX4_aboutScreen_36 rfl rfl ?_
      refine jj_iload_n (j := 1) (i := 1) (pc' := 39) dX4_aboutScreen_38 rfl rfl rfl ?_
      refine jj_iadd (pc' := 40) dX4_aboutScreen_39 rfl ?_
      refine jj_ldI (pc' := 41) dX4_aboutScreen_40 rfl hF (fun x102 hF => ?_)
      exact jj_retI (ty := .int) rfl rfl dX4_aboutScreen_41 ⟨Nat.le_of_ble_eq_true rfl, Nat.le_of_ble_eq_true rfl⟩ hF
    | 1, hb, ht =>
      cases hb; cases ht
      refine jj_aload_n (j := 0) (i := 0) (pc' := 43) dX4_aboutScreen_42 rfl rfl rfl ?_
      refine jj_iload_n (j := 1) (i := 1) (pc' := 44) dX4_aboutScreen_43 rfl rfl rfl ?_
      refine jj_cI (N := M_X4_onScreen) (kc' := 0) (ks' := 0) (pc' := 47) (jg_V (N := M_X4_onScreen) (ci := 4) (rest := []) (as := [.int x1]) cf_X4_193 dX4_aboutScreen_44 ⟨rfl, rfl⟩ rfl rfl ⟨Nat.le_of_ble_eq_true rfl, Nat.le_of_ble_eq_true rfl⟩ ⟨Nat.le_of_ble_eq_true rfl, Nat.le_of_ble_eq_true rfl⟩ (Nat.le_of_ble_eq_true rfl) (fun X' hX => KX4_onScreen hX)) rfl rfl rfl rfl ⟨Nat.le_of_ble_eq_true rfl, Nat.le_of_ble_eq_true rfl⟩ rfl hF (fun x104 h103 hF => ?_)
      exact jj_retI (ty := .int) rfl rfl dX4_aboutScreen_47 ⟨Nat.le_of_ble_eq_true rfl, Nat.le_of_ble_eq_true rfl⟩ hF
    | 2, hb, ht =>
      cases hb; cases ht
      refine jj_aload_n (j := 0) (i := 0) (pc' := 49) dX4_aboutScreen_48 rfl rfl rfl ?_
      refine jj_iload_n (j := 1) (i := 1) (pc' := 50) dX4_aboutScreen_49 rfl rfl rfl ?_
      refine jj_cI (N := M_X4_used) (kc' := 0) (ks' := 0) (pc' := 53) (jg_V (N := M_X4_used) (ci := 4) (rest := []) (as := [.int x1]) cf_X4_196 dX4_aboutScreen_50 ⟨rfl, rfl⟩ rfl rfl ⟨Nat.le_of_ble_eq_true rfl, Nat.le_of_ble_eq_true rfl⟩ ⟨Nat.le_of_ble_eq_true rfl, Nat.le_of_ble_eq_true rfl⟩ (Nat.le_of_ble_eq_true rfl) (fun X' hX => KX4_used hX)) rfl rfl rfl rfl ⟨Nat.le_of_ble_eq_true rfl, Nat.le_of_ble_eq_true rfl⟩ rfl hF (fun x106 h105 hF => ?_)
      exact jj_retI (ty := .int) rfl rfl dX4_aboutScreen_53 ⟨Nat.le_of_ble_eq_true rfl, Nat.le_of_ble_eq_true rfl⟩ hF
    | 3, hb, ht =>
      cases hb; cases ht
      refine jj_aload_n (j := 0) (i := 0) (pc' := 49) dX4_aboutScreen_48 rfl rfl rfl ?_
      refine jj_iload_n (j := 1) (i := 1) (pc' := 50) dX4_aboutScreen_49 rfl rfl rfl ?_
      refine jj_cI (N := M_X4_used) (kc' := 0) (ks' := 0) (pc' := 53) (jg_V (N := M_X4_used) (ci := 4) (rest := []) (as := [.int x1]) cf_X4_196 dX4_aboutScreen_50 ⟨rfl, rfl⟩ rfl rfl ⟨Nat.le_of_ble_eq_true rfl, Nat.le_of_ble_eq_true rfl⟩ ⟨Nat.le_of_ble_eq_true rfl, Nat.le_of_ble_eq_true rfl⟩ (Nat.le_of_ble_eq_true rfl) (fun X' hX => KX4_used hX)) rfl rfl rfl rfl ⟨Nat.le_of_ble_eq_true rfl, Nat.le_of_ble_eq_true rfl⟩ rfl hF (fun x108 h107 hF => ?_)
      exact jj_retI (ty := .int) rfl rfl dX4_aboutScreen_53 ⟨Nat.le_of_ble_eq_true rfl, Nat.le_of_ble_eq_true rfl⟩ hF
    | i + 4, hb, ht => exact nomatch (show (none : Option (Option jm_X)) = some b from hb)
  · skip
    refine jj_aload_n (j := 0) (i := 0) (pc' := 55) dX4_aboutScreen_54 rfl rfl rfl ?_
    refine jj_iload_n (j := 1) (i := 1) (pc' := 56) dX4_aboutScreen_55 rfl rfl rfl ?_
    refine jj_cI (N := M_X4_last) (kc' := 0) (ks' := 0) (pc' := 59) (jg_V (N := M_X4_last) (ci := 4) (rest := []) (as := [.int x1]) cf_X4_199 dX4_aboutScreen_56 ⟨rfl, rfl⟩ rfl rfl ⟨Nat.le_of_ble_eq_true rfl, Nat.le_of_ble_eq_true rfl⟩ ⟨Nat.le_of_ble_eq_true rfl, Nat.le_of_ble_eq_true rfl⟩ (Nat.le_of_ble_eq_true rfl) (fun X' hX => KX4_last hX)) rfl rfl rfl rfl ⟨Nat.le_of_ble_eq_true rfl, Nat.le_of_ble_eq_true rfl⟩ rfl hF (fun x110 h109 hF => ?_)
    exact jj_retI (ty := .int) rfl rfl dX4_aboutScreen_59 ⟨Nat.le_of_ble_eq_true rfl, Nat.le_of_ble_eq_true rfl⟩ hF
theorem KX4_aboutScreen {N : Nat} {a0 : Nat} {x1 : Int32} {x2 : Int32} {h : jm_H} {X : jm_X} (hF : FX4_aboutScreen N a0 x1 x2 h = some X) : jm_K M_X4_aboutScreen [.ref a0, .int x1, .int x2] h X := jk_of rfl (by decide +kernel) rfl rfl (Nat.le_of_ble_eq_true rfl) (JX4_aboutScreen hF)
set_option maxRecDepth 100000 in
set_option maxHeartbeats 4000000 in
theorem JX4_screen {N : Nat} {a0 : Nat} {x1 : Int32} {x2 : Int32} {h : jm_H} {X : jm_X} (hF : FX4_screen N a0 x1 x2 h = some X) : jm_J M_X4_screen 0 [(0, .ref a0), (1, .int x1), (2, .int x2)] [] h 0 0 X := by
  unfold FX4_screen at hF
  refine jj_aload_n (j := 0) (i := 0) (pc' := 1) dX4_screen_0 rfl rfl rfl ?_
  refine jj_iconst (v := (0 : Int32)) (pc' := 2) dX4_screen_1 rfl rfl ?_
  refine jj_p (C := RX4) (T := TX4) (N := 15) (ci := 4) (k := 7) (ty := tyX4) (pc' := 5) dX4_screen_2 rfl rfl inX4 tyX4_ok nmX4 (by decide) qw_79 rfl (fun _ => ⟨rfl, rfl⟩) hF (fun h101 hF => ?_)
  refine jj_iload_n (j := 1) (i := 1) (pc' := 6) dX4_screen_5 rfl rfl rfl ?_
  refine jj_cI (N := M_X4_isScreen) (kc' := 0) (ks' := 0) (pc' := 9) (jg_S (N := M_X4_isScreen) (rest := []) (as := [.int x1]) cf_X4_98 rfl dX4_screen_6 rfl rfl ⟨Nat.le_of_ble_eq_true rfl, Nat.le_of_ble_eq_true rfl⟩ ⟨Nat.le_of_ble_eq_true rfl, Nat.le_of_ble_eq_true rfl⟩ (Nat.le_of_ble_eq_true rfl) (fun X' hX => KX4_isScreen hX)) rfl rfl rfl rfl ⟨Nat.le_of_ble_eq_true rfl, Nat.le_of_ble_eq_true rfl⟩ rfl hF (fun x103 h102 hF => ?_)
  refine jj_if_ne (tgt := 18) (pc' := 12) dX4_screen_9 rfl rfl (fun hc hF => ?_) (fun hc hF => ?_) hF
  · skip
    refine jj_iload_n (j := 2) (i := 2) (pc' := 19) dX4_screen_18 rfl rfl rfl ?_
    refine jj_iconst (v := (0 : Int32)) (pc' := 20) dX4_screen_19 rfl rfl ?_
    refine jj_iconst (v := (4 : Int32)) (pc' := 21) dX4_screen_20 rfl rfl ?_
    refine jj_cI (N := M_X4_in) (kc' := 0) (ks' := 0) (pc' := 24) (jg_S (N := M_X4_in) (rest := []) (as := [.int x2, .int ((0 : Int32)), .int ((4 : Int32))]) cf_X4_88 rfl dX4_screen_21 rfl rfl ⟨Nat.le_of_ble_eq_true rfl, Nat.le_of_ble_eq_true rfl⟩ ⟨Nat.le_of_ble_eq_true rfl, Nat.le_of_ble_eq_true rfl⟩ (Nat.le_of_ble_eq_true rfl) (fun X' hX => KX4_in hX)) rfl rfl rfl rfl ⟨Nat.le_of_ble_eq_true rfl, Nat.le_of_ble_eq_true rfl⟩ rfl hF (fun x105 h104 hF => ?_)
    refine jj_if_eq (tgt := 36) (pc' := 27) dX4_screen_24 rfl rfl (fun hc hF => ?_) (fun hc hF => ?_) hF
    · skip
      refine jj_aload_n (j := 0) (i := 0) (pc' := 37) dX4_screen_36 rfl rfl rfl ?_
      refine jj_iconst (v := (2 : Int32)) (pc' := 38) dX4_screen_37 rfl rfl ?_
      refine jj_cI (N := M_X4_refuses) (kc' := 0) (ks' := 0) (pc' := 41) (jg_V (N := M_X4_refuses) (ci := 4) (rest := []) (as := [.int ((2 : Int32))]) cf_X4_92 dX4_screen_38 ⟨rfl, rfl⟩ rfl rfl ⟨Nat.le_of_ble_eq_true rfl, Nat.le_of_ble_eq_true rfl⟩ ⟨Nat.le_of_ble_eq_true rfl, Nat.le_of_ble_eq_true rfl⟩ (Nat.le_of_ble_eq_true rfl) (fun X' hX => KX4_refuses hX)) rfl rfl rfl rfl ⟨Nat.le_of_ble_eq_true rfl, Nat.le_of_ble_eq_true rfl⟩ rfl hF (fun x107 h106 hF => ?_)
      exact jj_retI (ty := .int) rfl rfl dX4_screen_41 ⟨Nat.le_of_ble_eq_true rfl, Nat.le_of_ble_eq_true rfl⟩ hF
    · skip
      refine jj_aload_n (j := 0) (i := 0) (pc' := 28) dX4_screen_27 rfl rfl rfl ?_
      refine jj_iload_n (j := 1) (i := 1) (pc' := 29) dX4_screen_28 rfl rfl rfl ?_
      refine jj_iload_n (j := 2) (i := 2) (pc' := 30) dX4_screen_29 rfl rfl rfl ?_
      refine jj_cI (N := M_X4_aboutScreen) (kc' := 0) (ks' := 0) (pc' := 33) (jg_V (N := M_X4_aboutScreen) (ci := 4) (rest := []) (as := [.int x1, .int x2]) cf_X4_202 dX4_screen_30 ⟨rfl, rfl⟩ rfl rfl ⟨Nat.le_of_ble_eq_true rfl, Nat.le_of_ble_eq_true rfl⟩ ⟨Nat.le_of_ble_eq_true rfl, Nat.le_of_ble_eq_true rfl⟩ (Nat.le_of_ble_eq_true rfl) (fun X' hX => KX4_aboutScreen hX)) rfl rfl rfl rfl ⟨Nat.le_of_ble_eq_true rfl, Nat.le_of_ble_eq_true rfl⟩ rfl hF (fun x109 h108 hF => ?_)
      refine jj_goto (tgt := 41) dX4_screen_33 rfl ?_
      exact jj_retI (ty := .int) rfl rfl dX4_screen_41 ⟨Nat.le_of_ble_eq_true rfl, Nat.le_of_ble_eq_true rfl⟩ hF
  · skip
    refine jj_aload_n (j := 0) (i := 0) (pc' := 13) dX4_screen_12 rfl rfl rfl ?_
    refine jj_iconst (v := (1 : Int32)) (pc' := 14) dX4_screen_13 rfl rfl ?_
    refine jj_cI (N := M_X4_refuses) (kc' := 0) (ks' := 0) (pc' := 17) (jg_V (N := M_X4_refuses) (ci := 4) (rest := []) (as := [.int ((1 : Int32))]) cf_X4_92 dX4_screen_14 ⟨rfl, rfl⟩ rfl rfl ⟨Nat.le_of_ble_eq_true rfl, Nat.le_of_ble_eq_true rfl⟩ ⟨Nat.le_of_ble_eq_true rfl, Nat.le_of_ble_eq_true rfl⟩ (Nat.le_of_ble_eq_true rfl) (fun X' hX => KX4_refuses hX)) rfl rfl rfl rfl ⟨Nat.le_of_ble_eq_true rfl, Nat.le_of_ble_eq_true rfl⟩ rfl hF (fun x111 h110 hF => ?_)
    exact jj_retI (ty := .int) rfl rfl dX4_screen_17 ⟨Nat.le_of_ble_eq_true rfl, Nat.le_of_ble_eq_true rfl⟩ hF
theorem KX4_screen {N : Nat} {a0 : Nat} {x1 : Int32} {x2 : Int32} {h : jm_H} {X : jm_X} (hF : FX4_screen N a0 x1 x2 h = some X) : jm_K M_X4_screen [.ref a0, .int x1, .int x2] h X := jk_of rfl (by decide +kernel) rfl rfl (Nat.le_of_ble_eq_true rfl) (JX4_screen hF)
set_option maxRecDepth 100000 in
set_option maxHeartbeats 4000000 in
theorem JX4_guestHas {a0 : Nat} {x1 : Int32} {x2 : Int32} {h : jm_H} {X : jm_X} (hF : FX4_guestHas a0 x1 x2 h = some X) : jm_J M_X4_guestHas 0 [(0, .ref a0), (1, .int x1), (2, .int x2)] [] h 0 0 X := by
  unfold FX4_guestHas at hF
  refine jj_aload_n (j := 0) (i := 0) (pc' := 1) dX4_guestHas_0 rfl rfl rfl ?_
  refine jj_gR (C := RX4) (T := TX4) (N := 15) (ci := 4) (k := 0) (pc' := 4) dX4_guestHas_1 rfl rfl inX4 (by decide) qw_73 hF (fun r101 hF => ?_)
  refine jj_bipush (v := (86 : Int32)) (pc' := 6) dX4_guestHas_4 rfl rfl ?_
  refine jj_iconst (v := (3 : Int32)) (pc' := 7) dX4_guestHas_6 rfl rfl ?_
  refine jj_iload_n (j := 1) (i := 1) (pc' := 8) dX4_guestHas_7 rfl rfl rfl ?_
  refine jj_imul (pc' := 9) dX4_guestHas_8 rfl ?_
  refine jj_iadd (pc' := 10) dX4_guestHas_9 rfl ?_
  refine jj_iload_n (j := 2) (i := 2) (pc' := 11) dX4_guestHas_10 rfl rfl rfl ?_
  refine jj_iadd (pc' := 12) dX4_guestHas_11 rfl ?_
  refine jj_ldI (pc' := 13) dX4_guestHas_12 rfl hF (fun x102 hF => ?_)
  exact jj_retI (ty := .int) rfl rfl dX4_guestHas_13 ⟨Nat.le_of_ble_eq_true rfl, Nat.le_of_ble_eq_true rfl⟩ hF
theorem KX4_guestHas {a0 : Nat} {x1 : Int32} {x2 : Int32} {h : jm_H} {X : jm_X} (hF : FX4_guestHas a0 x1 x2 h = some X) : jm_K M_X4_guestHas [.ref a0, .int x1, .int x2] h X := jk_of rfl (by decide +kernel) rfl rfl (Nat.le_of_ble_eq_true rfl) (JX4_guestHas hF)
set_option maxRecDepth 100000 in
set_option maxHeartbeats 4000000 in
theorem JX4_canGreet {a0 : Nat} {x1 : Int32} {x2 : Int32} {x3 : Int32} {h : jm_H} {X : jm_X} (hF : FX4_canGreet a0 x1 x2 x3 h = some X) : jm_J M_X4_canGreet 0 [(0, .ref a0), (1, .int x1), (2, .int x2), (3, .int x3)] [] h 0 0 X := by
  unfold FX4_canGreet at hF
  refine jj_aload_n (j := 0) (i := 0) (pc' := 1) dX4_canGreet_0 rfl rfl rfl ?_
  refine jj_iload_n (j := 1) (i := 1) (pc' := 2) dX4_canGreet_1 rfl rfl rfl ?_
  refine jj_iconst (v := (0 : Int32)) (pc' := 3) dX4_canGreet_2 rfl rfl ?_
  refine jj_cI (N := M_X4_guestHas) (kc' := 0) (ks' := 0) (pc' := 6) (jg_V (N := M_X4_guestHas) (ci := 4) (rest := []) (as := [.int x1, .int ((0 : Int32))]) cf_X4_205 dX4_canGreet_3 ⟨rfl, rfl⟩ rfl rfl ⟨Nat.le_of_ble_eq_true rfl, Nat.le_of_ble_eq_true rfl⟩ ⟨Nat.le_of_ble_eq_true rfl, Nat.le_of_ble_eq_true rfl⟩ (Nat.le_of_ble_eq_true rfl) (fun X' hX => KX4_guestHas hX)) rfl rfl rfl rfl ⟨Nat.le_of_ble_eq_true rfl, Nat.le_of_ble_eq_true rfl⟩ rfl hF (fun x102 h101 hF => ?_)
  refine jj_iload_n (j := 2) (i := 2) (pc' := 7) dX4_canGreet_6 rfl rfl rfl ?_
  refine jj_icmp_ne (tgt := 41) (pc' := 10) dX4_canGreet_7 rfl rfl (fun hc hF => ?_) (fun hc hF => ?_) hF
  · skip
    refine jj_iconst (v := (0 : Int32)) (pc' := 42) dX4_canGreet_41 rfl rfl ?_
    exact jj_retI (ty := .boolean) rfl rfl dX4_canGreet_42 ⟨Nat.le_of_ble_eq_true rfl, Nat.le_of_ble_eq_true rfl⟩ hF
  · skip
    refine jj_iload_n (j := 3) (i := 3) (pc' := 11) dX4_canGreet_10 rfl rfl rfl ?_
    refine jj_aload_n (j := 0) (i := 0) (pc' := 12) dX4_canGreet_11 rfl rfl rfl ?_
    refine jj_iload_n (j := 1) (i := 1) (pc' := 13) dX4_canGreet_12 rfl rfl rfl ?_
    refine jj_iconst (v := (1 : Int32)) (pc' := 14) dX4_canGreet_13 rfl rfl ?_
    refine jj_cI (N := M_X4_guestHas) (kc' := 0) (ks' := 0) (pc' := 17) (jg_V (N := M_X4_guestHas) (ci := 4) (rest := [.int x3]) (as := [.int x1, .int ((1 : Int32))]) cf_X4_205 dX4_canGreet_14 ⟨rfl, rfl⟩ rfl rfl ⟨Nat.le_of_ble_eq_true rfl, Nat.le_of_ble_eq_true rfl⟩ ⟨Nat.le_of_ble_eq_true rfl, Nat.le_of_ble_eq_true rfl⟩ (Nat.le_of_ble_eq_true rfl) (fun X' hX => KX4_guestHas hX)) rfl rfl rfl rfl ⟨Nat.le_of_ble_eq_true rfl, Nat.le_of_ble_eq_true rfl⟩ rfl hF (fun x104 h103 hF => ?_)
    refine jj_icmp_lt (tgt := 41) (pc' := 20) dX4_canGreet_17 rfl rfl (fun hc hF => ?_) (fun hc hF => ?_) hF
    · skip
      refine jj_iconst (v := (0 : Int32)) (pc' := 42) dX4_canGreet_41 rfl rfl ?_
      exact jj_retI (ty := .boolean) rfl rfl dX4_canGreet_42 ⟨Nat.le_of_ble_eq_true rfl, Nat.le_of_ble_eq_true rfl⟩ hF
    · skip
      refine jj_iload_n (j := 3) (i := 3) (pc' := 21) dX4_canGreet_20 rfl rfl rfl ?_
      refine jj_aload_n (j := 0) (i := 0) (pc' := 22) dX4_canGreet_21 rfl rfl rfl ?_
      refine jj_gR (C := RX4) (T := TX4) (N := 15) (ci := 4) (k := 0) (pc' := 25) dX4_canGreet_22 rfl rfl inX4 (by decide) qw_73 hF (fun r105 hF => ?_)
      refine jj_iconst (v := (5 : Int32)) (pc' := 26) dX4_canGreet_25 rfl rfl ?_
      refine jj_ldI (pc' := 27) dX4_canGreet_26 rfl hF (fun x106 hF => ?_)
      refine jj_iadd (pc' := 28) dX4_canGreet_27 rfl ?_
      refine jj_aload_n (j := 0) (i := 0) (pc' := 29) dX4_canGreet_28 rfl rfl rfl ?_
      refine jj_iload_n (j := 1) (i := 1) (pc' := 30) dX4_canGreet_29 rfl rfl rfl ?_
      refine jj_iconst (v := (2 : Int32)) (pc' := 31) dX4_canGreet_30 rfl rfl ?_
      refine jj_cI (N := M_X4_guestHas) (kc' := 0) (ks' := 0) (pc' := 34) (jg_V (N := M_X4_guestHas) (ci := 4) (rest := [.int (x3 + x106)]) (as := [.int x1, .int ((2 : Int32))]) cf_X4_205 dX4_canGreet_31 ⟨rfl, rfl⟩ rfl rfl ⟨Nat.le_of_ble_eq_true rfl, Nat.le_of_ble_eq_true rfl⟩ ⟨Nat.le_of_ble_eq_true rfl, Nat.le_of_ble_eq_true rfl⟩ (Nat.le_of_ble_eq_true rfl) (fun X' hX => KX4_guestHas hX)) rfl rfl rfl rfl ⟨Nat.le_of_ble_eq_true rfl, Nat.le_of_ble_eq_true rfl⟩ rfl hF (fun x108 h107 hF => ?_)
      refine jj_icmp_gt (tgt := 41) (pc' := 37) dX4_canGreet_34 rfl rfl (fun hc hF => ?_) (fun hc hF => ?_) hF
      · skip
        refine jj_iconst (v := (0 : Int32)) (pc' := 42) dX4_canGreet_41 rfl rfl ?_
        exact jj_retI (ty := .boolean) rfl rfl dX4_canGreet_42 ⟨Nat.le_of_ble_eq_true rfl, Nat.le_of_ble_eq_true rfl⟩ hF
      · skip
        refine jj_iconst (v := (1 : Int32)) (pc' := 38) dX4_canGreet_37 rfl rfl ?_
        refine jj_goto (tgt := 42) dX4_canGreet_38 rfl ?_
        exact jj_retI (ty := .boolean) rfl rfl dX4_canGreet_42 ⟨Nat.le_of_ble_eq_true rfl, Nat.le_of_ble_eq_true rfl⟩ hF
theorem KX4_canGreet {a0 : Nat} {x1 : Int32} {x2 : Int32} {x3 : Int32} {h : jm_H} {X : jm_X} (hF : FX4_canGreet a0 x1 x2 x3 h = some X) : jm_K M_X4_canGreet [.ref a0, .int x1, .int x2, .int x3] h X := jk_of rfl (by decide +kernel) rfl rfl (Nat.le_of_ble_eq_true rfl) (JX4_canGreet hF)
set_option maxRecDepth 100000 in
set_option maxHeartbeats 4000000 in
theorem BX4_greets_4 (N : Nat) : ∀ (n : Nat) (a0 : Nat) (x1 : Int32) (x2 : Int32) (x3 : Int32) (h : jm_H) (X : jm_X), FX4_greets_4 N n a0 x1 x2 x3 h = some X → jm_J M_X4_greets 4 [(0, .ref a0), (1, .int x1), (2, .int x2), (3, .int x3)] [] h 0 0 X := by
  intro n
  induction n with
  | zero =>
    intro a0 x1 x2 x3 h X hF
    exact nomatch (show (none : Option jm_X) = some X from hF)
  | succ n ih =>
    intro a0 x1 x2 x3 h X hF
    rw [FX4_greets_4] at hF
    refine jj_iload_n (j := 3) (i := 3) (pc' := 5) dX4_greets_4 rfl rfl rfl ?_
    refine jj_aload_n (j := 0) (i := 0) (pc' := 6) dX4_greets_5 rfl rfl rfl ?_
    refine jj_gR (C := RX4) (T := TX4) (N := 15) (ci := 4) (k := 0) (pc' := 9) dX4_greets_6 rfl rfl inX4 (by decide) qw_73 hF (fun r101 hF => ?_)
    refine jj_iconst (v := (1 : Int32)) (pc' := 10) dX4_greets_9 rfl rfl ?_
    refine jj_ldI (pc' := 11) dX4_greets_10 rfl hF (fun x102 hF => ?_)
    refine jj_icmp_ge (tgt := 67) (pc' := 14) dX4_greets_11 rfl rfl (fun hc hF => ?_) (fun hc hF => ?_) hF
    · skip
      refine jj_iload_n (j := 2) (i := 2) (pc' := 68) dX4_greets_67 rfl rfl rfl ?_
      exact jj_retI (ty := .int) rfl rfl dX4_greets_68 ⟨Nat.le_of_ble_eq_true rfl, Nat.le_of_ble_eq_true rfl⟩ hF
    · skip
      refine jj_aload_n (j := 0) (i := 0) (pc' := 15) dX4_greets_14 rfl rfl rfl ?_
      refine jj_iload_n (j := 1) (i := 1) (pc' := 16) dX4_greets_15 rfl rfl rfl ?_
      refine jj_aload_n (j := 0) (i := 0) (pc' := 17) dX4_greets_16 rfl rfl rfl ?_
      refine jj_iload_n (j := 3) (i := 3) (pc' := 18) dX4_greets_17 rfl rfl rfl ?_
      refine jj_iconst (v := (0 : Int32)) (pc' := 19) dX4_greets_18 rfl rfl ?_
      refine jj_cI (N := M_X4_of) (kc' := 0) (ks' := 0) (pc' := 22) (jg_V (N := M_X4_of) (ci := 4) (rest := [.int x1, .ref a0]) (as := [.int x3, .int ((0 : Int32))]) cf_X4_47 dX4_greets_19 ⟨rfl, rfl⟩ rfl rfl ⟨Nat.le_of_ble_eq_true rfl, Nat.le_of_ble_eq_true rfl⟩ ⟨Nat.le_of_ble_eq_true rfl, Nat.le_of_ble_eq_true rfl⟩ (Nat.le_of_ble_eq_true rfl) (fun X' hX => KX4_of hX)) rfl rfl rfl rfl ⟨Nat.le_of_ble_eq_true rfl, Nat.le_of_ble_eq_true rfl⟩ rfl hF (fun x104 h103 hF => ?_)
      refine jj_aload_n (j := 0) (i := 0) (pc' := 23) dX4_greets_22 rfl rfl rfl ?_
      refine jj_iload_n (j := 3) (i := 3) (pc' := 24) dX4_greets_23 rfl rfl rfl ?_
      refine jj_cI (N := M_X4_end) (kc' := 0) (ks' := 0) (pc' := 27) (jg_V (N := M_X4_end) (ci := 4) (rest := [.int x104, .int x1, .ref a0]) (as := [.int x3]) cf_X4_75 dX4_greets_24 ⟨rfl, rfl⟩ rfl rfl ⟨Nat.le_of_ble_eq_true rfl, Nat.le_of_ble_eq_true rfl⟩ ⟨Nat.le_of_ble_eq_true rfl, Nat.le_of_ble_eq_true rfl⟩ (Nat.le_of_ble_eq_true rfl) (fun X' hX => KX4_end hX)) rfl rfl rfl rfl ⟨Nat.le_of_ble_eq_true rfl, Nat.le_of_ble_eq_true rfl⟩ rfl hF (fun x106 h105 hF => ?_)
      refine jj_cI (N := M_X4_canGreet) (kc' := 0) (ks' := 0) (pc' := 30) (jg_V (N := M_X4_canGreet) (ci := 4) (rest := []) (as := [.int x1, .int x104, .int x106]) cf_X4_208 dX4_greets_27 ⟨rfl, rfl⟩ rfl rfl ⟨Nat.le_of_ble_eq_true rfl, Nat.le_of_ble_eq_true rfl⟩ ⟨Nat.le_of_ble_eq_true rfl, Nat.le_of_ble_eq_true rfl⟩ (Nat.le_of_ble_eq_true rfl) (fun X' hX => KX4_canGreet hX)) rfl rfl rfl rfl ⟨Nat.le_of_ble_eq_true rfl, Nat.le_of_ble_eq_true rfl⟩ rfl hF (fun x108 h107 hF => ?_)
      refine jj_istore (i := 4) (ls' := [(4, .int x108), (0, .ref a0), (1, .int x1), (2, .int x2), (3, .int x3)]) (pc' := 32) dX4_greets_30 (Nat.le_of_ble_eq_true rfl) rfl rfl ?_
      refine jj_iload (j := 0) (i := 4) (pc' := 34) dX4_greets_32 rfl rfl ?_
      refine jj_if_eq (tgt := 59) (pc' := 37) dX4_greets_34 rfl rfl (fun hc hF => ?_) (fun hc hF => ?_) hF
      · skip
        refine jj_iload_n (j := 3) (i := 2) (pc' := 60) dX4_greets_59 rfl rfl rfl ?_
        refine jj_istore_n (i := 2) (ls' := [(2, .int x2), (4, .int x108), (0, .ref a0), (1, .int x1), (3, .int x3)]) (pc' := 61) dX4_greets_60 rfl (Nat.le_of_ble_eq_true rfl) rfl rfl ?_
        refine jj_iinc (i := 3) (j := 4) (v := x3 + (1 : Int32)) (ls' := [(3, .int (x3 + (1 : Int32))), (2, .int x2), (4, .int x108), (0, .ref a0), (1, .int x1)]) (pc' := 64) dX4_greets_61 rfl rfl (Nat.le_of_ble_eq_true rfl) rfl rfl ?_
        refine jj_goto (tgt := 4) dX4_greets_64 rfl ?_
        exact jj_pick [3, 4, 1, 0] rfl (ih a0 x1 x2 (x3 + (1 : Int32)) h107 _ hF)
      · skip
        refine jj_iload_n (j := 3) (i := 2) (pc' := 38) dX4_greets_37 rfl rfl rfl ?_
        refine jj_iconst (v := (-1 : Int32)) (pc' := 39) dX4_greets_38 rfl rfl ?_
        refine jj_icmp_eq (tgt := 55) (pc' := 42) dX4_greets_39 rfl rfl (fun hc hF => ?_) (fun hc hF => ?_) hF
        · skip
          refine jj_iload_n (j := 4) (i := 3) (pc' := 56) dX4_greets_55 rfl rfl rfl ?_
          refine jj_goto (tgt := 60) dX4_greets_56 rfl ?_
          refine jj_istore_n (i := 2) (ls' := [(2, .int x3), (4, .int x108), (0, .ref a0), (1, .int x1), (3, .int x3)]) (pc' := 61) dX4_greets_60 rfl (Nat.le_of_ble_eq_true rfl) rfl rfl ?_
          refine jj_iinc (i := 3) (j := 4) (v := x3 + (1 : Int32)) (ls' := [(3, .int (x3 + (1 : Int32))), (2, .int x3), (4, .int x108), (0, .ref a0), (1, .int x1)]) (pc' := 64) dX4_greets_61 rfl rfl (Nat.le_of_ble_eq_true rfl) rfl rfl ?_
          refine jj_goto (tgt := 4) dX4_greets_64 rfl ?_
          exact jj_pick [3, 4, 1, 0] rfl (ih a0 x1 x3 (x3 + (1 : Int32)) h107 _ hF)
        · skip
          refine jj_aload_n (j := 1) (i := 0) (pc' := 43) dX4_greets_42 rfl rfl rfl ?_
          refine jj_iload_n (j := 4) (i := 3) (pc' := 44) dX4_greets_43 rfl rfl rfl ?_
          refine jj_cI (N := M_X4_end) (kc' := 0) (ks' := 0) (pc' := 47) (jg_V (N := M_X4_end) (ci := 4) (rest := []) (as := [.int x3]) cf_X4_75 dX4_greets_44 ⟨rfl, rfl⟩ rfl rfl ⟨Nat.le_of_ble_eq_true rfl, Nat.le_of_ble_eq_true rfl⟩ ⟨Nat.le_of_ble_eq_true rfl, Nat.le_of_ble_eq_true rfl⟩ (Nat.le_of_ble_eq_true rfl) (fun X' hX => KX4_end hX)) rfl rfl rfl rfl ⟨Nat.le_of_ble_eq_true rfl, Nat.le_of_ble_eq_true rfl⟩ rfl hF (fun x110 h109 hF => ?_)
          refine jj_aload_n (j := 1) (i := 0) (pc' := 48) dX4_greets_47 rfl rfl rfl ?_
          refine jj_iload_n (j := 3) (i := 2) (pc' := 49) dX4_greets_48 rfl rfl rfl ?_
          refine jj_cI (N := M_X4_end) (kc' := 0) (ks' := 0) (pc' := 52) (jg_V (N := M_X4_end) (ci := 4) (rest := [.int x110]) (as := [.int x2]) cf_X4_75 dX4_greets_49 ⟨rfl, rfl⟩ rfl rfl ⟨Nat.le_of_ble_eq_true rfl, Nat.le_of_ble_eq_true rfl⟩ ⟨Nat.le_of_ble_eq_true rfl, Nat.le_of_ble_eq_true rfl⟩ (Nat.le_of_ble_eq_true rfl) (fun X' hX => KX4_end hX)) rfl rfl rfl rfl ⟨Nat.le_of_ble_eq_true rfl, Nat.le_of_ble_eq_true rfl⟩ rfl hF (fun x112 h111 hF => ?_)
          refine jj_icmp_ge (tgt := 59) (pc' := 55) dX4_greets_52 rfl rfl (fun hc hF => ?_) (fun hc hF => ?_) hF
          · skip
            refine jj_iload_n (j := 3) (i := 2) (pc' := 60) dX4_greets_59 rfl rfl rfl ?_
            refine jj_istore_n (i := 2) (ls' := [(2, .int x2), (4, .int x108), (0, .ref a0), (1, .int x1), (3, .int x3)]) (pc' := 61) dX4_greets_60 rfl (Nat.le_of_ble_eq_true rfl) rfl rfl ?_
            refine jj_iinc (i := 3) (j := 4) (v := x3 + (1 : Int32)) (ls' := [(3, .int (x3 + (1 : Int32))), (2, .int x2), (4, .int x108), (0, .ref a0), (1, .int x1)]) (pc' := 64) dX4_greets_61 rfl rfl (Nat.le_of_ble_eq_true rfl) rfl rfl ?_
            refine jj_goto (tgt := 4) dX4_greets_64 rfl ?_
            exact jj_pick [3, 4, 1, 0] rfl (ih a0 x1 x2 (x3 + (1 : Int32)) h111 _ hF)
          · skip
            refine jj_iload_n (j := 4) (i := 3) (pc' := 56) dX4_greets_55 rfl rfl rfl ?_
            refine jj_goto (tgt := 60) dX4_greets_56 rfl ?_
            refine jj_istore_n (i := 2) (ls' := [(2, .int x3), (4, .int x108), (0, .ref a0), (1, .int x1), (3, .int x3)]) (pc' := 61) dX4_greets_60 rfl (Nat.le_of_ble_eq_true rfl) rfl rfl ?_
            refine jj_iinc (i := 3) (j := 4) (v := x3 + (1 : Int32)) (ls' := [(3, .int (x3 + (1 : Int32))), (2, .int x3), (4, .int x108), (0, .ref a0), (1, .int x1)]) (pc' := 64) dX4_greets_61 rfl rfl (Nat.le_of_ble_eq_true rfl) rfl rfl ?_
            refine jj_goto (tgt := 4) dX4_greets_64 rfl ?_
            exact jj_pick [3, 4, 1, 0] rfl (ih a0 x1 x3 (x3 + (1 : Int32)) h111 _ hF)
set_option maxRecDepth 100000 in
set_option maxHeartbeats 4000000 in
theorem JX4_greets {N : Nat} {a0 : Nat} {x1 : Int32} {h : jm_H} {X : jm_X} (hF : FX4_greets N a0 x1 h = some X) : jm_J M_X4_greets 0 [(0, .ref a0), (1, .int x1)] [] h 0 0 X := by
  unfold FX4_greets at hF
  refine jj_iconst (v := (-1 : Int32)) (pc' := 1) dX4_greets_0 rfl rfl ?_
  refine jj_istore_n (i := 2) (ls' := [(2, .int ((-1 : Int32))), (0, .ref a0), (1, .int x1)]) (pc' := 2) dX4_greets_1 rfl (Nat.le_of_ble_eq_true rfl) rfl rfl ?_
  refine jj_iconst (v := (0 : Int32)) (pc' := 3) dX4_greets_2 rfl rfl ?_
  refine jj_istore_n (i := 3) (ls' := [(3, .int ((0 : Int32))), (2, .int ((-1 : Int32))), (0, .ref a0), (1, .int x1)]) (pc' := 4) dX4_greets_3 rfl (Nat.le_of_ble_eq_true rfl) rfl rfl ?_
  exact jj_pick [2, 3, 1, 0] rfl (BX4_greets_4 N N a0 x1 ((-1 : Int32)) ((0 : Int32)) h _ hF)
theorem KX4_greets {N : Nat} {a0 : Nat} {x1 : Int32} {h : jm_H} {X : jm_X} (hF : FX4_greets N a0 x1 h = some X) : jm_K M_X4_greets [.ref a0, .int x1] h X := jk_of rfl (by decide +kernel) rfl rfl (Nat.le_of_ble_eq_true rfl) (JX4_greets hF)
set_option maxRecDepth 100000 in
set_option maxHeartbeats 4000000 in
theorem JX4_aboutGuest {N : Nat} {a0 : Nat} {x1 : Int32} {x2 : Int32} {h : jm_H} {X : jm_X} (hF : FX4_aboutGuest N a0 x1 x2 h = some X) : jm_J M_X4_aboutGuest 0 [(0, .ref a0), (1, .int x1), (2, .int x2)] [] h 0 0 X := by
  unfold FX4_aboutGuest at hF
  refine jj_iload_n (j := 2) (i := 2) (pc' := 1) dX4_aboutGuest_0 rfl rfl rfl ?_
  refine jj_iconst (v := (3 : Int32)) (pc' := 2) dX4_aboutGuest_1 rfl rfl ?_
  refine jj_icmp_ge (tgt := 14) (pc' := 5) dX4_aboutGuest_2 rfl rfl (fun hc hF => ?_) (fun hc hF => ?_) hF
  · skip
    refine jj_aload_n (j := 0) (i := 0) (pc' := 15) dX4_aboutGuest_14 rfl rfl rfl ?_
    refine jj_iload_n (j := 1) (i := 1) (pc' := 16) dX4_aboutGuest_15 rfl rfl rfl ?_
    refine jj_cI (N := M_X4_greets) (kc' := 0) (ks' := 0) (pc' := 19) (jg_V (N := M_X4_greets) (ci := 4) (rest := []) (as := [.int x1]) cf_X4_211 dX4_aboutGuest_16 ⟨rfl, rfl⟩ rfl rfl ⟨Nat.le_of_ble_eq_true rfl, Nat.le_of_ble_eq_true rfl⟩ ⟨Nat.le_of_ble_eq_true rfl, Nat.le_of_ble_eq_true rfl⟩ (Nat.le_of_ble_eq_true rfl) (fun X' hX => KX4_greets hX)) rfl rfl rfl rfl ⟨Nat.le_of_ble_eq_true rfl, Nat.le_of_ble_eq_true rfl⟩ rfl hF (fun x102 h101 hF => ?_)
    exact jj_retI (ty := .int) rfl rfl dX4_aboutGuest_19 ⟨Nat.le_of_ble_eq_true rfl, Nat.le_of_ble_eq_true rfl⟩ hF
  · skip
    refine jj_aload_n (j := 0) (i := 0) (pc' := 6) dX4_aboutGuest_5 rfl rfl rfl ?_
    refine jj_iload_n (j := 1) (i := 1) (pc' := 7) dX4_aboutGuest_6 rfl rfl rfl ?_
    refine jj_iload_n (j := 2) (i := 2) (pc' := 8) dX4_aboutGuest_7 rfl rfl rfl ?_
    refine jj_cI (N := M_X4_guestHas) (kc' := 0) (ks' := 0) (pc' := 11) (jg_V (N := M_X4_guestHas) (ci := 4) (rest := []) (as := [.int x1, .int x2]) cf_X4_205 dX4_aboutGuest_8 ⟨rfl, rfl⟩ rfl rfl ⟨Nat.le_of_ble_eq_true rfl, Nat.le_of_ble_eq_true rfl⟩ ⟨Nat.le_of_ble_eq_true rfl, Nat.le_of_ble_eq_true rfl⟩ (Nat.le_of_ble_eq_true rfl) (fun X' hX => KX4_guestHas hX)) rfl rfl rfl rfl ⟨Nat.le_of_ble_eq_true rfl, Nat.le_of_ble_eq_true rfl⟩ rfl hF (fun x104 h103 hF => ?_)
    refine jj_goto (tgt := 19) dX4_aboutGuest_11 rfl ?_
    exact jj_retI (ty := .int) rfl rfl dX4_aboutGuest_19 ⟨Nat.le_of_ble_eq_true rfl, Nat.le_of_ble_eq_true rfl⟩ hF
theorem KX4_aboutGuest {N : Nat} {a0 : Nat} {x1 : Int32} {x2 : Int32} {h : jm_H} {X : jm_X} (hF : FX4_aboutGuest N a0 x1 x2 h = some X) : jm_K M_X4_aboutGuest [.ref a0, .int x1, .int x2] h X := jk_of rfl (by decide +kernel) rfl rfl (Nat.le_of_ble_eq_true rfl) (JX4_aboutGuest hF)
set_option maxRecDepth 100000 in
set_option maxHeartbeats 4000000 in
theorem JX4_guestOf {N : Nat} {a0 : Nat} {x1 : Int32} {x2 : Int32} {h : jm_H} {X : jm_X} (hF : FX4_guestOf N a0 x1 x2 h = some X) : jm_J M_X4_guestOf 0 [(0, .ref a0), (1, .int x1), (2, .int x2)] [] h 0 0 X := by
  unfold FX4_guestOf at hF
  refine jj_aload_n (j := 0) (i := 0) (pc' := 1) dX4_guestOf_0 rfl rfl rfl ?_
  refine jj_iconst (v := (0 : Int32)) (pc' := 2) dX4_guestOf_1 rfl rfl ?_
  refine jj_p (C := RX4) (T := TX4) (N := 15) (ci := 4) (k := 7) (ty := tyX4) (pc' := 5) dX4_guestOf_2 rfl rfl inX4 tyX4_ok nmX4 (by decide) qw_79 rfl (fun _ => ⟨rfl, rfl⟩) hF (fun h101 hF => ?_)
  refine jj_iload_n (j := 1) (i := 1) (pc' := 6) dX4_guestOf_5 rfl rfl rfl ?_
  refine jj_iconst (v := (0 : Int32)) (pc' := 7) dX4_guestOf_6 rfl rfl ?_
  refine jj_aload_n (j := 0) (i := 0) (pc' := 8) dX4_guestOf_7 rfl rfl rfl ?_
  refine jj_gR (C := RX4) (T := TX4) (N := 15) (ci := 4) (k := 0) (pc' := 11) dX4_guestOf_8 rfl rfl inX4 (by decide) qw_73 hF (fun r102 hF => ?_)
  refine jj_iconst (v := (2 : Int32)) (pc' := 12) dX4_guestOf_11 rfl rfl ?_
  refine jj_ldI (pc' := 13) dX4_guestOf_12 rfl hF (fun x103 hF => ?_)
  refine jj_iconst (v := (1 : Int32)) (pc' := 14) dX4_guestOf_13 rfl rfl ?_
  refine jj_isub (pc' := 15) dX4_guestOf_14 rfl ?_
  refine jj_cI (N := M_X4_in) (kc' := 0) (ks' := 0) (pc' := 18) (jg_S (N := M_X4_in) (rest := []) (as := [.int x1, .int ((0 : Int32)), .int (x103 - ((1 : Int32)))]) cf_X4_88 rfl dX4_guestOf_15 rfl rfl ⟨Nat.le_of_ble_eq_true rfl, Nat.le_of_ble_eq_true rfl⟩ ⟨Nat.le_of_ble_eq_true rfl, Nat.le_of_ble_eq_true rfl⟩ (Nat.le_of_ble_eq_true rfl) (fun X' hX => KX4_in hX)) rfl rfl rfl rfl ⟨Nat.le_of_ble_eq_true rfl, Nat.le_of_ble_eq_true rfl⟩ rfl hF (fun x105 h104 hF => ?_)
  refine jj_if_ne (tgt := 27) (pc' := 21) dX4_guestOf_18 rfl rfl (fun hc hF => ?_) (fun hc hF => ?_) hF
  · skip
    refine jj_iload_n (j := 2) (i := 2) (pc' := 28) dX4_guestOf_27 rfl rfl rfl ?_
    refine jj_iconst (v := (0 : Int32)) (pc' := 29) dX4_guestOf_28 rfl rfl ?_
    refine jj_iconst (v := (3 : Int32)) (pc' := 30) dX4_guestOf_29 rfl rfl ?_
    refine jj_cI (N := M_X4_in) (kc' := 0) (ks' := 0) (pc' := 33) (jg_S (N := M_X4_in) (rest := []) (as := [.int x2, .int ((0 : Int32)), .int ((3 : Int32))]) cf_X4_88 rfl dX4_guestOf_30 rfl rfl ⟨Nat.le_of_ble_eq_true rfl, Nat.le_of_ble_eq_true rfl⟩ ⟨Nat.le_of_ble_eq_true rfl, Nat.le_of_ble_eq_true rfl⟩ (Nat.le_of_ble_eq_true rfl) (fun X' hX => KX4_in hX)) rfl rfl rfl rfl ⟨Nat.le_of_ble_eq_true rfl, Nat.le_of_ble_eq_true rfl⟩ rfl hF (fun x107 h106 hF => ?_)
    refine jj_if_eq (tgt := 45) (pc' := 36) dX4_guestOf_33 rfl rfl (fun hc hF => ?_) (fun hc hF => ?_) hF
    · skip
      refine jj_aload_n (j := 0) (i := 0) (pc' := 46) dX4_guestOf_45 rfl rfl rfl ?_
      refine jj_iconst (v := (2 : Int32)) (pc' := 47) dX4_guestOf_46 rfl rfl ?_
      refine jj_cI (N := M_X4_refuses) (kc' := 0) (ks' := 0) (pc' := 50) (jg_V (N := M_X4_refuses) (ci := 4) (rest := []) (as := [.int ((2 : Int32))]) cf_X4_92 dX4_guestOf_47 ⟨rfl, rfl⟩ rfl rfl ⟨Nat.le_of_ble_eq_true rfl, Nat.le_of_ble_eq_true rfl⟩ ⟨Nat.le_of_ble_eq_true rfl, Nat.le_of_ble_eq_true rfl⟩ (Nat.le_of_ble_eq_true rfl) (fun X' hX => KX4_refuses hX)) rfl rfl rfl rfl ⟨Nat.le_of_ble_eq_true rfl, Nat.le_of_ble_eq_true rfl⟩ rfl hF (fun x109 h108 hF => ?_)
      exact jj_retI (ty := .int) rfl rfl dX4_guestOf_50 ⟨Nat.le_of_ble_eq_true rfl, Nat.le_of_ble_eq_true rfl⟩ hF
    · skip
      refine jj_aload_n (j := 0) (i := 0) (pc' := 37) dX4_guestOf_36 rfl rfl rfl ?_
      refine jj_iload_n (j := 1) (i := 1) (pc' := 38) dX4_guestOf_37 rfl rfl rfl ?_
      refine jj_iload_n (j := 2) (i := 2) (pc' := 39) dX4_guestOf_38 rfl rfl rfl ?_
      refine jj_cI (N := M_X4_aboutGuest) (kc' := 0) (ks' := 0) (pc' := 42) (jg_V (N := M_X4_aboutGuest) (ci := 4) (rest := []) (as := [.int x1, .int x2]) cf_X4_214 dX4_guestOf_39 ⟨rfl, rfl⟩ rfl rfl ⟨Nat.le_of_ble_eq_true rfl, Nat.le_of_ble_eq_true rfl⟩ ⟨Nat.le_of_ble_eq_true rfl, Nat.le_of_ble_eq_true rfl⟩ (Nat.le_of_ble_eq_true rfl) (fun X' hX => KX4_aboutGuest hX)) rfl rfl rfl rfl ⟨Nat.le_of_ble_eq_true rfl, Nat.le_of_ble_eq_true rfl⟩ rfl hF (fun x111 h110 hF => ?_)
      refine jj_goto (tgt := 50) dX4_guestOf_42 rfl ?_
      exact jj_retI (ty := .int) rfl rfl dX4_guestOf_50 ⟨Nat.le_of_ble_eq_true rfl, Nat.le_of_ble_eq_true rfl⟩ hF
  · skip
    refine jj_aload_n (j := 0) (i := 0) (pc' := 22) dX4_guestOf_21 rfl rfl rfl ?_
    refine jj_iconst (v := (1 : Int32)) (pc' := 23) dX4_guestOf_22 rfl rfl ?_
    refine jj_cI (N := M_X4_refuses) (kc' := 0) (ks' := 0) (pc' := 26) (jg_V (N := M_X4_refuses) (ci := 4) (rest := []) (as := [.int ((1 : Int32))]) cf_X4_92 dX4_guestOf_23 ⟨rfl, rfl⟩ rfl rfl ⟨Nat.le_of_ble_eq_true rfl, Nat.le_of_ble_eq_true rfl⟩ ⟨Nat.le_of_ble_eq_true rfl, Nat.le_of_ble_eq_true rfl⟩ (Nat.le_of_ble_eq_true rfl) (fun X' hX => KX4_refuses hX)) rfl rfl rfl rfl ⟨Nat.le_of_ble_eq_true rfl, Nat.le_of_ble_eq_true rfl⟩ rfl hF (fun x113 h112 hF => ?_)
    exact jj_retI (ty := .int) rfl rfl dX4_guestOf_26 ⟨Nat.le_of_ble_eq_true rfl, Nat.le_of_ble_eq_true rfl⟩ hF
theorem KX4_guestOf {N : Nat} {a0 : Nat} {x1 : Int32} {x2 : Int32} {h : jm_H} {X : jm_X} (hF : FX4_guestOf N a0 x1 x2 h = some X) : jm_K M_X4_guestOf [.ref a0, .int x1, .int x2] h X := jk_of rfl (by decide +kernel) rfl rfl (Nat.le_of_ble_eq_true rfl) (JX4_guestOf hF)
set_option maxRecDepth 100000 in
set_option maxHeartbeats 4000000 in
theorem BX4_seen_4 (N : Nat) : ∀ (n : Nat) (a0 : Nat) (x1 : Int32) (x2 : Int32) (x3 : Int32) (h : jm_H) (X : jm_X), FX4_seen_4 N n a0 x1 x2 x3 h = some X → jm_J M_X4_seen 4 [(0, .ref a0), (1, .int x1), (2, .int x2), (3, .int x3)] [] h 0 0 X := by
  intro n
  induction n with
  | zero =>
    intro a0 x1 x2 x3 h X hF
    exact nomatch (show (none : Option jm_X) = some X from hF)
  | succ n ih =>
    intro a0 x1 x2 x3 h X hF
    rw [FX4_seen_4] at hF
    refine jj_iload_n (j := 3) (i := 3) (pc' := 5) dX4_seen_4 rfl rfl rfl ?_
    refine jj_aload_n (j := 0) (i := 0) (pc' := 6) dX4_seen_5 rfl rfl rfl ?_
    refine jj_gR (C := RX4) (T := TX4) (N := 15) (ci := 4) (k := 0) (pc' := 9) dX4_seen_6 rfl rfl inX4 (by decide) qw_73 hF (fun r101 hF => ?_)
    refine jj_iconst (v := (0 : Int32)) (pc' := 10) dX4_seen_9 rfl rfl ?_
    refine jj_ldI (pc' := 11) dX4_seen_10 rfl hF (fun x102 hF => ?_)
    refine jj_icmp_ge (tgt := 39) (pc' := 14) dX4_seen_11 rfl rfl (fun hc hF => ?_) (fun hc hF => ?_) hF
    · skip
      refine jj_iload_n (j := 2) (i := 2) (pc' := 40) dX4_seen_39 rfl rfl rfl ?_
      exact jj_retI (ty := .int) rfl rfl dX4_seen_40 ⟨Nat.le_of_ble_eq_true rfl, Nat.le_of_ble_eq_true rfl⟩ hF
    · skip
      refine jj_iload_n (j := 2) (i := 2) (pc' := 15) dX4_seen_14 rfl rfl rfl ?_
      refine jj_aload_n (j := 0) (i := 0) (pc' := 16) dX4_seen_15 rfl rfl rfl ?_
      refine jj_iload_n (j := 1) (i := 1) (pc' := 17) dX4_seen_16 rfl rfl rfl ?_
      refine jj_iload_n (j := 3) (i := 3) (pc' := 18) dX4_seen_17 rfl rfl rfl ?_
      refine jj_cI (N := M_X4_hasSeen) (kc' := 0) (ks' := 0) (pc' := 21) (jg_V (N := M_X4_hasSeen) (ci := 4) (rest := [.int x2]) (as := [.int x1, .int x3]) cf_X4_134 dX4_seen_18 ⟨rfl, rfl⟩ rfl rfl ⟨Nat.le_of_ble_eq_true rfl, Nat.le_of_ble_eq_true rfl⟩ ⟨Nat.le_of_ble_eq_true rfl, Nat.le_of_ble_eq_true rfl⟩ (Nat.le_of_ble_eq_true rfl) (fun X' hX => KX4_hasSeen hX)) rfl rfl rfl rfl ⟨Nat.le_of_ble_eq_true rfl, Nat.le_of_ble_eq_true rfl⟩ rfl hF (fun x104 h103 hF => ?_)
      refine jj_if_eq (tgt := 30) (pc' := 24) dX4_seen_21 rfl rfl (fun hc hF => ?_) (fun hc hF => ?_) hF
      · skip
        refine jj_iconst (v := (0 : Int32)) (pc' := 31) dX4_seen_30 rfl rfl ?_
        refine jj_ior (pc' := 32) dX4_seen_31 rfl ?_
        refine jj_istore_n (i := 2) (ls' := [(2, .int (x2 ||| ((0 : Int32)))), (0, .ref a0), (1, .int x1), (3, .int x3)]) (pc' := 33) dX4_seen_32 rfl (Nat.le_of_ble_eq_true rfl) rfl rfl ?_
        refine jj_iinc (i := 3) (j := 3) (v := x3 + (1 : Int32)) (ls' := [(3, .int (x3 + (1 : Int32))), (2, .int (x2 ||| ((0 : Int32)))), (0, .ref a0), (1, .int x1)]) (pc' := 36) dX4_seen_33 rfl rfl (Nat.le_of_ble_eq_true rfl) rfl rfl ?_
        refine jj_goto (tgt := 4) dX4_seen_36 rfl ?_
        exact jj_pick [2, 3, 1, 0] rfl (ih a0 x1 (x2 ||| ((0 : Int32))) (x3 + (1 : Int32)) h103 _ hF)
      · skip
        refine jj_iconst (v := (1 : Int32)) (pc' := 25) dX4_seen_24 rfl rfl ?_
        refine jj_iload_n (j := 3) (i := 3) (pc' := 26) dX4_seen_25 rfl rfl rfl ?_
        refine jj_ishl (pc' := 27) dX4_seen_26 rfl ?_
        refine jj_goto (tgt := 31) dX4_seen_27 rfl ?_
        refine jj_ior (pc' := 32) dX4_seen_31 rfl ?_
        refine jj_istore_n (i := 2) (ls' := [(2, .int (x2 ||| (((1 : Int32)) <<< (x3 &&& 31)))), (0, .ref a0), (1, .int x1), (3, .int x3)]) (pc' := 33) dX4_seen_32 rfl (Nat.le_of_ble_eq_true rfl) rfl rfl ?_
        refine jj_iinc (i := 3) (j := 3) (v := x3 + (1 : Int32)) (ls' := [(3, .int (x3 + (1 : Int32))), (2, .int (x2 ||| (((1 : Int32)) <<< (x3 &&& 31)))), (0, .ref a0), (1, .int x1)]) (pc' := 36) dX4_seen_33 rfl rfl (Nat.le_of_ble_eq_true rfl) rfl rfl ?_
        refine jj_goto (tgt := 4) dX4_seen_36 rfl ?_
        exact jj_pick [2, 3, 1, 0] rfl (ih a0 x1 (x2 ||| (((1 : Int32)) <<< (x3 &&& 31))) (x3 + (1 : Int32)) h103 _ hF)
set_option maxRecDepth 100000 in
set_option maxHeartbeats 4000000 in
theorem JX4_seen {N : Nat} {a0 : Nat} {x1 : Int32} {h : jm_H} {X : jm_X} (hF : FX4_seen N a0 x1 h = some X) : jm_J M_X4_seen 0 [(0, .ref a0), (1, .int x1)] [] h 0 0 X := by
  unfold FX4_seen at hF
  refine jj_iconst (v := (0 : Int32)) (pc' := 1) dX4_seen_0 rfl rfl ?_
  refine jj_istore_n (i := 2) (ls' := [(2, .int ((0 : Int32))), (0, .ref a0), (1, .int x1)]) (pc' := 2) dX4_seen_1 rfl (Nat.le_of_ble_eq_true rfl) rfl rfl ?_
  refine jj_iconst (v := (0 : Int32)) (pc' := 3) dX4_seen_2 rfl rfl ?_
  refine jj_istore_n (i := 3) (ls' := [(3, .int ((0 : Int32))), (2, .int ((0 : Int32))), (0, .ref a0), (1, .int x1)]) (pc' := 4) dX4_seen_3 rfl (Nat.le_of_ble_eq_true rfl) rfl rfl ?_
  exact jj_pick [2, 3, 1, 0] rfl (BX4_seen_4 N N a0 x1 ((0 : Int32)) ((0 : Int32)) h _ hF)
theorem KX4_seen {N : Nat} {a0 : Nat} {x1 : Int32} {h : jm_H} {X : jm_X} (hF : FX4_seen N a0 x1 h = some X) : jm_K M_X4_seen [.ref a0, .int x1] h X := jk_of rfl (by decide +kernel) rfl rfl (Nat.le_of_ble_eq_true rfl) (JX4_seen hF)
set_option maxRecDepth 100000 in
set_option maxHeartbeats 4000000 in
theorem BX4_given_4 (N : Nat) : ∀ (n : Nat) (a0 : Nat) (x1 : Int32) (x2 : Int32) (x3 : Int32) (h : jm_H) (X : jm_X), FX4_given_4 N n a0 x1 x2 x3 h = some X → jm_J M_X4_given 4 [(0, .ref a0), (1, .int x1), (2, .int x2), (3, .int x3)] [] h 0 0 X := by
  intro n
  induction n with
  | zero =>
    intro a0 x1 x2 x3 h X hF
    exact nomatch (show (none : Option jm_X) = some X from hF)
  | succ n ih =>
    intro a0 x1 x2 x3 h X hF
    rw [FX4_given_4] at hF
    refine jj_iload_n (j := 3) (i := 3) (pc' := 5) dX4_given_4 rfl rfl rfl ?_
    refine jj_aload_n (j := 0) (i := 0) (pc' := 6) dX4_given_5 rfl rfl rfl ?_
    refine jj_gR (C := RX4) (T := TX4) (N := 15) (ci := 4) (k := 0) (pc' := 9) dX4_given_6 rfl rfl inX4 (by decide) qw_73 hF (fun r101 hF => ?_)
    refine jj_iconst (v := (0 : Int32)) (pc' := 10) dX4_given_9 rfl rfl ?_
    refine jj_ldI (pc' := 11) dX4_given_10 rfl hF (fun x102 hF => ?_)
    refine jj_icmp_ge (tgt := 50) (pc' := 14) dX4_given_11 rfl rfl (fun hc hF => ?_) (fun hc hF => ?_) hF
    · skip
      refine jj_iload_n (j := 2) (i := 2) (pc' := 51) dX4_given_50 rfl rfl rfl ?_
      exact jj_retI (ty := .int) rfl rfl dX4_given_51 ⟨Nat.le_of_ble_eq_true rfl, Nat.le_of_ble_eq_true rfl⟩ hF
    · skip
      refine jj_iload_n (j := 2) (i := 2) (pc' := 15) dX4_given_14 rfl rfl rfl ?_
      refine jj_aload_n (j := 0) (i := 0) (pc' := 16) dX4_given_15 rfl rfl rfl ?_
      refine jj_iload_n (j := 1) (i := 1) (pc' := 17) dX4_given_16 rfl rfl rfl ?_
      refine jj_iload_n (j := 3) (i := 3) (pc' := 18) dX4_given_17 rfl rfl rfl ?_
      refine jj_cI (N := M_X4_hasSeen) (kc' := 0) (ks' := 0) (pc' := 21) (jg_V (N := M_X4_hasSeen) (ci := 4) (rest := [.int x2]) (as := [.int x1, .int x3]) cf_X4_134 dX4_given_18 ⟨rfl, rfl⟩ rfl rfl ⟨Nat.le_of_ble_eq_true rfl, Nat.le_of_ble_eq_true rfl⟩ ⟨Nat.le_of_ble_eq_true rfl, Nat.le_of_ble_eq_true rfl⟩ (Nat.le_of_ble_eq_true rfl) (fun X' hX => KX4_hasSeen hX)) rfl rfl rfl rfl ⟨Nat.le_of_ble_eq_true rfl, Nat.le_of_ble_eq_true rfl⟩ rfl hF (fun x104 h103 hF => ?_)
      refine jj_if_eq (tgt := 41) (pc' := 24) dX4_given_21 rfl rfl (fun hc hF => ?_) (fun hc hF => ?_) hF
      · skip
        refine jj_iconst (v := (0 : Int32)) (pc' := 42) dX4_given_41 rfl rfl ?_
        refine jj_iadd (pc' := 43) dX4_given_42 rfl ?_
        refine jj_istore_n (i := 2) (ls' := [(2, .int (x2 + ((0 : Int32)))), (0, .ref a0), (1, .int x1), (3, .int x3)]) (pc' := 44) dX4_given_43 rfl (Nat.le_of_ble_eq_true rfl) rfl rfl ?_
        refine jj_iinc (i := 3) (j := 3) (v := x3 + (1 : Int32)) (ls' := [(3, .int (x3 + (1 : Int32))), (2, .int (x2 + ((0 : Int32)))), (0, .ref a0), (1, .int x1)]) (pc' := 47) dX4_given_44 rfl rfl (Nat.le_of_ble_eq_true rfl) rfl rfl ?_
        refine jj_goto (tgt := 4) dX4_given_47 rfl ?_
        exact jj_pick [2, 3, 1, 0] rfl (ih a0 x1 (x2 + ((0 : Int32))) (x3 + (1 : Int32)) h103 _ hF)
      · skip
        refine jj_aload_n (j := 0) (i := 0) (pc' := 25) dX4_given_24 rfl rfl rfl ?_
        refine jj_gR (C := RX4) (T := TX4) (N := 15) (ci := 4) (k := 0) (pc' := 28) dX4_given_25 rfl rfl inX4 (by decide) qw_73 hF (fun r105 hF => ?_)
        refine jj_bipush (v := (104 : Int32)) (pc' := 30) dX4_given_28 rfl rfl ?_
        refine jj_bipush (v := (8 : Int32)) (pc' := 32) dX4_given_30 rfl rfl ?_
        refine jj_iload_n (j := 1) (i := 1) (pc' := 33) dX4_given_32 rfl rfl rfl ?_
        refine jj_imul (pc' := 34) dX4_given_33 rfl ?_
        refine jj_iadd (pc' := 35) dX4_given_34 rfl ?_
        refine jj_iload_n (j := 3) (i := 3) (pc' := 36) dX4_given_35 rfl rfl rfl ?_
        refine jj_iadd (pc' := 37) dX4_given_36 rfl ?_
        refine jj_ldI (pc' := 38) dX4_given_37 rfl hF (fun x106 hF => ?_)
        refine jj_goto (tgt := 42) dX4_given_38 rfl ?_
        refine jj_iadd (pc' := 43) dX4_given_42 rfl ?_
        refine jj_istore_n (i := 2) (ls' := [(2, .int (x2 + x106)), (0, .ref a0), (1, .int x1), (3, .int x3)]) (pc' := 44) dX4_given_43 rfl (Nat.le_of_ble_eq_true rfl) rfl rfl ?_
        refine jj_iinc (i := 3) (j := 3) (v := x3 + (1 : Int32)) (ls' := [(3, .int (x3 + (1 : Int32))), (2, .int (x2 + x106)), (0, .ref a0), (1, .int x1)]) (pc' := 47) dX4_given_44 rfl rfl (Nat.le_of_ble_eq_true rfl) rfl rfl ?_
        refine jj_goto (tgt := 4) dX4_given_47 rfl ?_
        exact jj_pick [2, 3, 1, 0] rfl (ih a0 x1 (x2 + x106) (x3 + (1 : Int32)) h103 _ hF)
set_option maxRecDepth 100000 in
set_option maxHeartbeats 4000000 in
theorem JX4_given {N : Nat} {a0 : Nat} {x1 : Int32} {h : jm_H} {X : jm_X} (hF : FX4_given N a0 x1 h = some X) : jm_J M_X4_given 0 [(0, .ref a0), (1, .int x1)] [] h 0 0 X := by
  unfold FX4_given at hF
  refine jj_iconst (v := (0 : Int32)) (pc' := 1) dX4_given_0 rfl rfl ?_
  refine jj_istore_n (i := 2) (ls' := [(2, .int ((0 : Int32))), (0, .ref a0), (1, .int x1)]) (pc' := 2) dX4_given_1 rfl (Nat.le_of_ble_eq_true rfl) rfl rfl ?_
  refine jj_iconst (v := (0 : Int32)) (pc' := 3) dX4_given_2 rfl rfl ?_
  refine jj_istore_n (i := 3) (ls' := [(3, .int ((0 : Int32))), (2, .int ((0 : Int32))), (0, .ref a0), (1, .int x1)]) (pc' := 4) dX4_given_3 rfl (Nat.le_of_ble_eq_true rfl) rfl rfl ?_
  exact jj_pick [2, 3, 1, 0] rfl (BX4_given_4 N N a0 x1 ((0 : Int32)) ((0 : Int32)) h _ hF)
theorem KX4_given {N : Nat} {a0 : Nat} {x1 : Int32} {h : jm_H} {X : jm_X} (hF : FX4_given N a0 x1 h = some X) : jm_K M_X4_given [.ref a0, .int x1] h X := jk_of rfl (by decide +kernel) rfl rfl (Nat.le_of_ble_eq_true rfl) (JX4_given hF)
set_option maxRecDepth 100000 in
set_option maxHeartbeats 4000000 in
theorem JX4_aboutJuror {N : Nat} {a0 : Nat} {x1 : Int32} {x2 : Int32} {h : jm_H} {X : jm_X} (hF : FX4_aboutJuror N a0 x1 x2 h = some X) : jm_J M_X4_aboutJuror 0 [(0, .ref a0), (1, .int x1), (2, .int x2)] [] h 0 0 X := by
  unfold FX4_aboutJuror at hF
  refine jj_iload_n (j := 2) (i := 2) (pc' := 1) dX4_aboutJuror_0 rfl rfl rfl ?_
  refine jj_if_ne (tgt := 12) (pc' := 4) dX4_aboutJuror_1 rfl rfl (fun hc hF => ?_) (fun hc hF => ?_) hF
  · skip
    refine jj_iload_n (j := 2) (i := 2) (pc' := 13) dX4_aboutJuror_12 rfl rfl rfl ?_
    refine jj_iconst (v := (1 : Int32)) (pc' := 14) dX4_aboutJuror_13 rfl rfl ?_
    refine jj_icmp_ne (tgt := 25) (pc' := 17) dX4_aboutJuror_14 rfl rfl (fun hc hF => ?_) (fun hc hF => ?_) hF
    · skip
      refine jj_aload_n (j := 0) (i := 0) (pc' := 26) dX4_aboutJuror_25 rfl rfl rfl ?_
      refine jj_iload_n (j := 1) (i := 1) (pc' := 27) dX4_aboutJuror_26 rfl rfl rfl ?_
      refine jj_cI (N := M_X4_given) (kc' := 0) (ks' := 0) (pc' := 30) (jg_V (N := M_X4_given) (ci := 4) (rest := []) (as := [.int x1]) cf_X4_220 dX4_aboutJuror_27 ⟨rfl, rfl⟩ rfl rfl ⟨Nat.le_of_ble_eq_true rfl, Nat.le_of_ble_eq_true rfl⟩ ⟨Nat.le_of_ble_eq_true rfl, Nat.le_of_ble_eq_true rfl⟩ (Nat.le_of_ble_eq_true rfl) (fun X' hX => KX4_given hX)) rfl rfl rfl rfl ⟨Nat.le_of_ble_eq_true rfl, Nat.le_of_ble_eq_true rfl⟩ rfl hF (fun x102 h101 hF => ?_)
      exact jj_retI (ty := .int) rfl rfl dX4_aboutJuror_30 ⟨Nat.le_of_ble_eq_true rfl, Nat.le_of_ble_eq_true rfl⟩ hF
    · skip
      refine jj_aload_n (j := 0) (i := 0) (pc' := 18) dX4_aboutJuror_17 rfl rfl rfl ?_
      refine jj_iload_n (j := 1) (i := 1) (pc' := 19) dX4_aboutJuror_18 rfl rfl rfl ?_
      refine jj_cI (N := M_X4_seen) (kc' := 0) (ks' := 0) (pc' := 22) (jg_V (N := M_X4_seen) (ci := 4) (rest := []) (as := [.int x1]) cf_X4_217 dX4_aboutJuror_19 ⟨rfl, rfl⟩ rfl rfl ⟨Nat.le_of_ble_eq_true rfl, Nat.le_of_ble_eq_true rfl⟩ ⟨Nat.le_of_ble_eq_true rfl, Nat.le_of_ble_eq_true rfl⟩ (Nat.le_of_ble_eq_true rfl) (fun X' hX => KX4_seen hX)) rfl rfl rfl rfl ⟨Nat.le_of_ble_eq_true rfl, Nat.le_of_ble_eq_true rfl⟩ rfl hF (fun x104 h103 hF => ?_)
      refine jj_goto (tgt := 30) dX4_aboutJuror_22 rfl ?_
      exact jj_retI (ty := .int) rfl rfl dX4_aboutJuror_30 ⟨Nat.le_of_ble_eq_true rfl, Nat.le_of_ble_eq_true rfl⟩ hF
  · skip
    refine jj_aload_n (j := 0) (i := 0) (pc' := 5) dX4_aboutJuror_4 rfl rfl rfl ?_
    refine jj_iload_n (j := 1) (i := 1) (pc' := 6) dX4_aboutJuror_5 rfl rfl rfl ?_
    refine jj_cI (N := M_X4_going) (kc' := 0) (ks' := 0) (pc' := 9) (jg_V (N := M_X4_going) (ci := 4) (rest := []) (as := [.int x1]) cf_X4_131 dX4_aboutJuror_6 ⟨rfl, rfl⟩ rfl rfl ⟨Nat.le_of_ble_eq_true rfl, Nat.le_of_ble_eq_true rfl⟩ ⟨Nat.le_of_ble_eq_true rfl, Nat.le_of_ble_eq_true rfl⟩ (Nat.le_of_ble_eq_true rfl) (fun X' hX => KX4_going hX)) rfl rfl rfl rfl ⟨Nat.le_of_ble_eq_true rfl, Nat.le_of_ble_eq_true rfl⟩ rfl hF (fun x106 h105 hF => ?_)
    refine jj_goto (tgt := 30) dX4_aboutJuror_9 rfl ?_
    exact jj_retI (ty := .int) rfl rfl dX4_aboutJuror_30 ⟨Nat.le_of_ble_eq_true rfl, Nat.le_of_ble_eq_true rfl⟩ hF
theorem KX4_aboutJuror {N : Nat} {a0 : Nat} {x1 : Int32} {x2 : Int32} {h : jm_H} {X : jm_X} (hF : FX4_aboutJuror N a0 x1 x2 h = some X) : jm_K M_X4_aboutJuror [.ref a0, .int x1, .int x2] h X := jk_of rfl (by decide +kernel) rfl rfl (Nat.le_of_ble_eq_true rfl) (JX4_aboutJuror hF)
set_option maxRecDepth 100000 in
set_option maxHeartbeats 4000000 in
theorem JX4_juror {N : Nat} {a0 : Nat} {x1 : Int32} {x2 : Int32} {h : jm_H} {X : jm_X} (hF : FX4_juror N a0 x1 x2 h = some X) : jm_J M_X4_juror 0 [(0, .ref a0), (1, .int x1), (2, .int x2)] [] h 0 0 X := by
  unfold FX4_juror at hF
  refine jj_aload_n (j := 0) (i := 0) (pc' := 1) dX4_juror_0 rfl rfl rfl ?_
  refine jj_iconst (v := (0 : Int32)) (pc' := 2) dX4_juror_1 rfl rfl ?_
  refine jj_p (C := RX4) (T := TX4) (N := 15) (ci := 4) (k := 7) (ty := tyX4) (pc' := 5) dX4_juror_2 rfl rfl inX4 tyX4_ok nmX4 (by decide) qw_79 rfl (fun _ => ⟨rfl, rfl⟩) hF (fun h101 hF => ?_)
  refine jj_iload_n (j := 1) (i := 1) (pc' := 6) dX4_juror_5 rfl rfl rfl ?_
  refine jj_cI (N := M_X4_isJuror) (kc' := 0) (ks' := 0) (pc' := 9) (jg_S (N := M_X4_isJuror) (rest := []) (as := [.int x1]) cf_X4_128 rfl dX4_juror_6 rfl rfl ⟨Nat.le_of_ble_eq_true rfl, Nat.le_of_ble_eq_true rfl⟩ ⟨Nat.le_of_ble_eq_true rfl, Nat.le_of_ble_eq_true rfl⟩ (Nat.le_of_ble_eq_true rfl) (fun X' hX => KX4_isJuror hX)) rfl rfl rfl rfl ⟨Nat.le_of_ble_eq_true rfl, Nat.le_of_ble_eq_true rfl⟩ rfl hF (fun x103 h102 hF => ?_)
  refine jj_if_ne (tgt := 18) (pc' := 12) dX4_juror_9 rfl rfl (fun hc hF => ?_) (fun hc hF => ?_) hF
  · skip
    refine jj_iload_n (j := 2) (i := 2) (pc' := 19) dX4_juror_18 rfl rfl rfl ?_
    refine jj_iconst (v := (0 : Int32)) (pc' := 20) dX4_juror_19 rfl rfl ?_
    refine jj_iconst (v := (2 : Int32)) (pc' := 21) dX4_juror_20 rfl rfl ?_
    refine jj_cI (N := M_X4_in) (kc' := 0) (ks' := 0) (pc' := 24) (jg_S (N := M_X4_in) (rest := []) (as := [.int x2, .int ((0 : Int32)), .int ((2 : Int32))]) cf_X4_88 rfl dX4_juror_21 rfl rfl ⟨Nat.le_of_ble_eq_true rfl, Nat.le_of_ble_eq_true rfl⟩ ⟨Nat.le_of_ble_eq_true rfl, Nat.le_of_ble_eq_true rfl⟩ (Nat.le_of_ble_eq_true rfl) (fun X' hX => KX4_in hX)) rfl rfl rfl rfl ⟨Nat.le_of_ble_eq_true rfl, Nat.le_of_ble_eq_true rfl⟩ rfl hF (fun x105 h104 hF => ?_)
    refine jj_if_eq (tgt := 36) (pc' := 27) dX4_juror_24 rfl rfl (fun hc hF => ?_) (fun hc hF => ?_) hF
    · skip
      refine jj_aload_n (j := 0) (i := 0) (pc' := 37) dX4_juror_36 rfl rfl rfl ?_
      refine jj_iconst (v := (2 : Int32)) (pc' := 38) dX4_juror_37 rfl rfl ?_
      refine jj_cI (N := M_X4_refuses) (kc' := 0) (ks' := 0) (pc' := 41) (jg_V (N := M_X4_refuses) (ci := 4) (rest := []) (as := [.int ((2 : Int32))]) cf_X4_92 dX4_juror_38 ⟨rfl, rfl⟩ rfl rfl ⟨Nat.le_of_ble_eq_true rfl, Nat.le_of_ble_eq_true rfl⟩ ⟨Nat.le_of_ble_eq_true rfl, Nat.le_of_ble_eq_true rfl⟩ (Nat.le_of_ble_eq_true rfl) (fun X' hX => KX4_refuses hX)) rfl rfl rfl rfl ⟨Nat.le_of_ble_eq_true rfl, Nat.le_of_ble_eq_true rfl⟩ rfl hF (fun x107 h106 hF => ?_)
      exact jj_retI (ty := .int) rfl rfl dX4_juror_41 ⟨Nat.le_of_ble_eq_true rfl, Nat.le_of_ble_eq_true rfl⟩ hF
    · skip
      refine jj_aload_n (j := 0) (i := 0) (pc' := 28) dX4_juror_27 rfl rfl rfl ?_
      refine jj_iload_n (j := 1) (i := 1) (pc' := 29) dX4_juror_28 rfl rfl rfl ?_
      refine jj_iload_n (j := 2) (i := 2) (pc' := 30) dX4_juror_29 rfl rfl rfl ?_
      refine jj_cI (N := M_X4_aboutJuror) (kc' := 0) (ks' := 0) (pc' := 33) (jg_V (N := M_X4_aboutJuror) (ci := 4) (rest := []) (as := [.int x1, .int x2]) cf_X4_223 dX4_juror_30 ⟨rfl, rfl⟩ rfl rfl ⟨Nat.le_of_ble_eq_true rfl, Nat.le_of_ble_eq_true rfl⟩ ⟨Nat.le_of_ble_eq_true rfl, Nat.le_of_ble_eq_true rfl⟩ (Nat.le_of_ble_eq_true rfl) (fun X' hX => KX4_aboutJuror hX)) rfl rfl rfl rfl ⟨Nat.le_of_ble_eq_true rfl, Nat.le_of_ble_eq_true rfl⟩ rfl hF (fun x109 h108 hF => ?_)
      refine jj_goto (tgt := 41) dX4_juror_33 rfl ?_
      exact jj_retI (ty := .int) rfl rfl dX4_juror_41 ⟨Nat.le_of_ble_eq_true rfl, Nat.le_of_ble_eq_true rfl⟩ hF
  · skip
    refine jj_aload_n (j := 0) (i := 0) (pc' := 13) dX4_juror_12 rfl rfl rfl ?_
    refine jj_iconst (v := (1 : Int32)) (pc' := 14) dX4_juror_13 rfl rfl ?_
    refine jj_cI (N := M_X4_refuses) (kc' := 0) (ks' := 0) (pc' := 17) (jg_V (N := M_X4_refuses) (ci := 4) (rest := []) (as := [.int ((1 : Int32))]) cf_X4_92 dX4_juror_14 ⟨rfl, rfl⟩ rfl rfl ⟨Nat.le_of_ble_eq_true rfl, Nat.le_of_ble_eq_true rfl⟩ ⟨Nat.le_of_ble_eq_true rfl, Nat.le_of_ble_eq_true rfl⟩ (Nat.le_of_ble_eq_true rfl) (fun X' hX => KX4_refuses hX)) rfl rfl rfl rfl ⟨Nat.le_of_ble_eq_true rfl, Nat.le_of_ble_eq_true rfl⟩ rfl hF (fun x111 h110 hF => ?_)
    exact jj_retI (ty := .int) rfl rfl dX4_juror_17 ⟨Nat.le_of_ble_eq_true rfl, Nat.le_of_ble_eq_true rfl⟩ hF
theorem KX4_juror {N : Nat} {a0 : Nat} {x1 : Int32} {x2 : Int32} {h : jm_H} {X : jm_X} (hF : FX4_juror N a0 x1 x2 h = some X) : jm_K M_X4_juror [.ref a0, .int x1, .int x2] h X := jk_of rfl (by decide +kernel) rfl rfl (Nat.le_of_ble_eq_true rfl) (JX4_juror hF)

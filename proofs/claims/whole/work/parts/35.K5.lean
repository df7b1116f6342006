set_option maxRecDepth 100000 in
set_option maxHeartbeats 4000000 in
theorem BX4_saves_11 (N : Nat) : ∀ (n : Nat) (a0 : Nat) (x1 : Int32) (h : jm_H) (X : jm_X), FX4_saves_11 N n a0 x1 h = some X → jm_J M_X4_saves 11 [(0, .ref a0), (1, .int x1)] [] h 0 0 X := by
  intro n
  induction n with
  | zero =>
    intro a0 x1 h X hF
    exact nomatch (show (none : Option jm_X) = some X from hF)
  | succ n ih =>
    intro a0 x1 h X hF
    rw [FX4_saves_11] at hF
    refine jj_iload_n (j := 1) (i := 1) (pc' := 12) dX4_saves_11 rfl rfl rfl ?_
    refine jj_sipush (v := (660 : Int32)) (pc' := 15) dX4_saves_12 rfl rfl ?_
    refine jj_icmp_ge (tgt := 40) (pc' := 18) dX4_saves_15 rfl rfl (fun hc hF => ?_) (fun hc hF => ?_) hF
    · skip
      refine jj_aload_n (j := 0) (i := 0) (pc' := 41) dX4_saves_40 rfl rfl rfl ?_
      refine jj_dup (pc' := 42) dX4_saves_41 rfl rfl ?_
      refine jj_gI (C := RX4) (T := TX4) (N := 15) (ci := 4) (k := 2) (pc' := 45) dX4_saves_42 rfl rfl inX4 (by decide) qw_80 hF (fun x101 hF => ?_)
      refine jj_iconst (v := (1 : Int32)) (pc' := 46) dX4_saves_45 rfl rfl ?_
      refine jj_isub (pc' := 47) dX4_saves_46 rfl ?_
      refine jj_p (C := RX4) (T := TX4) (N := 15) (ci := 4) (k := 2) (ty := tyX4) (pc' := 50) dX4_saves_47 rfl rfl inX4 tyX4_ok nmX4 (by decide) qw_80 rfl (fun _ => ⟨rfl, rfl⟩) hF (fun h102 hF => ?_)
      refine jj_aload_n (j := 0) (i := 0) (pc' := 51) dX4_saves_50 rfl rfl rfl ?_
      refine jj_gR (C := RX4) (T := TX4) (N := 15) (ci := 4) (k := 0) (pc' := 54) dX4_saves_51 rfl rfl inX4 (by decide) qw_73 hF (fun r103 hF => ?_)
      refine jj_iconst (v := (0 : Int32)) (pc' := 55) dX4_saves_54 rfl rfl ?_
      refine jj_aload_n (j := 0) (i := 0) (pc' := 56) dX4_saves_55 rfl rfl rfl ?_
      refine jj_gR (C := RX4) (T := TX4) (N := 15) (ci := 4) (k := 1) (pc' := 59) dX4_saves_56 rfl rfl inX4 (by decide) qw_75 hF (fun r104 hF => ?_)
      refine jj_sipush (v := (132 : Int32)) (pc' := 62) dX4_saves_59 rfl rfl ?_
      refine jj_aload_n (j := 0) (i := 0) (pc' := 63) dX4_saves_62 rfl rfl rfl ?_
      refine jj_gI (C := RX4) (T := TX4) (N := 15) (ci := 4) (k := 2) (pc' := 66) dX4_saves_63 rfl rfl inX4 (by decide) qw_80 hF (fun x105 hF => ?_)
      refine jj_imul (pc' := 67) dX4_saves_66 rfl ?_
      refine jj_cV (N := M_X4_lays) (kc' := 0) (ks' := 0) (pc' := 70) (jg_S (N := M_X4_lays) (rest := []) (as := [.ref r103, .int ((0 : Int32)), .ref r104, .int (((132 : Int32)) * x105)]) cf_X4_36 rfl dX4_saves_67 rfl rfl ⟨Nat.le_of_ble_eq_true rfl, Nat.le_of_ble_eq_true rfl⟩ ⟨Nat.le_of_ble_eq_true rfl, Nat.le_of_ble_eq_true rfl⟩ (Nat.le_of_ble_eq_true rfl) (fun X' hX => KX4_lays hX)) rfl rfl rfl rfl ⟨Nat.le_of_ble_eq_true rfl, Nat.le_of_ble_eq_true rfl⟩ rfl hF (fun h106 hF => ?_)
      refine jj_aload_n (j := 0) (i := 0) (pc' := 71) dX4_saves_70 rfl rfl rfl ?_
      refine jj_dup (pc' := 72) dX4_saves_71 rfl rfl ?_
      refine jj_gI (C := RX4) (T := TX4) (N := 15) (ci := 4) (k := 2) (pc' := 75) dX4_saves_72 rfl rfl inX4 (by decide) qw_80 hF (fun x107 hF => ?_)
      refine jj_iconst (v := (1 : Int32)) (pc' := 76) dX4_saves_75 rfl rfl ?_
      refine jj_iadd (pc' := 77) dX4_saves_76 rfl ?_
      refine jj_p (C := RX4) (T := TX4) (N := 15) (ci := 4) (k := 2) (ty := tyX4) (pc' := 80) dX4_saves_77 rfl rfl inX4 tyX4_ok nmX4 (by decide) qw_80 rfl (fun _ => ⟨rfl, rfl⟩) hF (fun h108 hF => ?_)
      exact jj_retV rfl dX4_saves_80 ⟨Nat.le_of_ble_eq_true rfl, Nat.le_of_ble_eq_true rfl⟩ hF
    · skip
      refine jj_aload_n (j := 0) (i := 0) (pc' := 19) dX4_saves_18 rfl rfl rfl ?_
      refine jj_gR (C := RX4) (T := TX4) (N := 15) (ci := 4) (k := 1) (pc' := 22) dX4_saves_19 rfl rfl inX4 (by decide) qw_75 hF (fun r109 hF => ?_)
      refine jj_iload_n (j := 1) (i := 1) (pc' := 23) dX4_saves_22 rfl rfl rfl ?_
      refine jj_aload_n (j := 0) (i := 0) (pc' := 24) dX4_saves_23 rfl rfl rfl ?_
      refine jj_gR (C := RX4) (T := TX4) (N := 15) (ci := 4) (k := 1) (pc' := 27) dX4_saves_24 rfl rfl inX4 (by decide) qw_75 hF (fun r110 hF => ?_)
      refine jj_iload_n (j := 1) (i := 1) (pc' := 28) dX4_saves_27 rfl rfl rfl ?_
      refine jj_sipush (v := (132 : Int32)) (pc' := 31) dX4_saves_28 rfl rfl ?_
      refine jj_iadd (pc' := 32) dX4_saves_31 rfl ?_
      refine jj_ldI (pc' := 33) dX4_saves_32 rfl hF (fun x111 hF => ?_)
      refine jj_stI (pc' := 34) dX4_saves_33 rfl hF (fun h112 hF => ?_)
      refine jj_iinc (i := 1) (j := 1) (v := x1 + (1 : Int32)) (ls' := [(1, .int (x1 + (1 : Int32))), (0, .ref a0)]) (pc' := 37) dX4_saves_34 rfl rfl (Nat.le_of_ble_eq_true rfl) rfl rfl ?_
      refine jj_goto (tgt := 11) dX4_saves_37 rfl ?_
      exact jj_pick [1, 0] rfl (ih a0 (x1 + (1 : Int32)) h112 _ hF)
set_option maxRecDepth 100000 in
set_option maxHeartbeats 4000000 in
theorem JX4_saves {N : Nat} {a0 : Nat} {h : jm_H} {X : jm_X} (hF : FX4_saves N a0 h = some X) : jm_J M_X4_saves 0 [(0, .ref a0)] [] h 0 0 X := by
  unfold FX4_saves at hF
  refine jj_aload_n (j := 0) (i := 0) (pc' := 1) dX4_saves_0 rfl rfl rfl ?_
  refine jj_gI (C := RX4) (T := TX4) (N := 15) (ci := 4) (k := 2) (pc' := 4) dX4_saves_1 rfl rfl inX4 (by decide) qw_80 hF (fun x101 hF => ?_)
  refine jj_bipush (v := (6 : Int32)) (pc' := 6) dX4_saves_4 rfl rfl ?_
  refine jj_icmp_ne (tgt := 50) (pc' := 9) dX4_saves_6 rfl rfl (fun hc hF => ?_) (fun hc hF => ?_) hF
  · skip
    refine jj_aload_n (j := 0) (i := 0) (pc' := 51) dX4_saves_50 rfl rfl rfl ?_
    refine jj_gR (C := RX4) (T := TX4) (N := 15) (ci := 4) (k := 0) (pc' := 54) dX4_saves_51 rfl rfl inX4 (by decide) qw_73 hF (fun r102 hF => ?_)
    refine jj_iconst (v := (0 : Int32)) (pc' := 55) dX4_saves_54 rfl rfl ?_
    refine jj_aload_n (j := 0) (i := 0) (pc' := 56) dX4_saves_55 rfl rfl rfl ?_
    refine jj_gR (C := RX4) (T := TX4) (N := 15) (ci := 4) (k := 1) (pc' := 59) dX4_saves_56 rfl rfl inX4 (by decide) qw_75 hF (fun r103 hF => ?_)
    refine jj_sipush (v := (132 : Int32)) (pc' := 62) dX4_saves_59 rfl rfl ?_
    refine jj_aload_n (j := 0) (i := 0) (pc' := 63) dX4_saves_62 rfl rfl rfl ?_
    refine jj_gI (C := RX4) (T := TX4) (N := 15) (ci := 4) (k := 2) (pc' := 66) dX4_saves_63 rfl rfl inX4 (by decide) qw_80 hF (fun x104 hF => ?_)
    refine jj_imul (pc' := 67) dX4_saves_66 rfl ?_
    refine jj_cV (N := M_X4_lays) (kc' := 0) (ks' := 0) (pc' := 70) (jg_S (N := M_X4_lays) (rest := []) (as := [.ref r102, .int ((0 : Int32)), .ref r103, .int (((132 : Int32)) * x104)]) cf_X4_36 rfl dX4_saves_67 rfl rfl ⟨Nat.le_of_ble_eq_true rfl, Nat.le_of_ble_eq_true rfl⟩ ⟨Nat.le_of_ble_eq_true rfl, Nat.le_of_ble_eq_true rfl⟩ (Nat.le_of_ble_eq_true rfl) (fun X' hX => KX4_lays hX)) rfl rfl rfl rfl ⟨Nat.le_of_ble_eq_true rfl, Nat.le_of_ble_eq_true rfl⟩ rfl hF (fun h105 hF => ?_)
    refine jj_aload_n (j := 0) (i := 0) (pc' := 71) dX4_saves_70 rfl rfl rfl ?_
    refine jj_dup (pc' := 72) dX4_saves_71 rfl rfl ?_
    refine jj_gI (C := RX4) (T := TX4) (N := 15) (ci := 4) (k := 2) (pc' := 75) dX4_saves_72 rfl rfl inX4 (by decide) qw_80 hF (fun x106 hF => ?_)
    refine jj_iconst (v := (1 : Int32)) (pc' := 76) dX4_saves_75 rfl rfl ?_
    refine jj_iadd (pc' := 77) dX4_saves_76 rfl ?_
    refine jj_p (C := RX4) (T := TX4) (N := 15) (ci := 4) (k := 2) (ty := tyX4) (pc' := 80) dX4_saves_77 rfl rfl inX4 tyX4_ok nmX4 (by decide) qw_80 rfl (fun _ => ⟨rfl, rfl⟩) hF (fun h107 hF => ?_)
    exact jj_retV rfl dX4_saves_80 ⟨Nat.le_of_ble_eq_true rfl, Nat.le_of_ble_eq_true rfl⟩ hF
  · skip
    refine jj_iconst (v := (0 : Int32)) (pc' := 10) dX4_saves_9 rfl rfl ?_
    refine jj_istore_n (i := 1) (ls' := [(1, .int ((0 : Int32))), (0, .ref a0)]) (pc' := 11) dX4_saves_10 rfl (Nat.le_of_ble_eq_true rfl) rfl rfl ?_
    exact jj_pick [1, 0] rfl (BX4_saves_11 N N a0 ((0 : Int32)) h _ hF)
theorem KX4_saves {N : Nat} {a0 : Nat} {h : jm_H} {X : jm_X} (hF : FX4_saves N a0 h = some X) : jm_K M_X4_saves [.ref a0] h X := jk_of rfl (by decide +kernel) rfl rfl (Nat.le_of_ble_eq_true rfl) (JX4_saves hF)
set_option maxRecDepth 100000 in
set_option maxHeartbeats 4000000 in
theorem JX4_reels {a0 : Nat} {x1 : Int32} {h : jm_H} {X : jm_X} (hF : FX4_reels a0 x1 h = some X) : jm_J M_X4_reels 0 [(0, .ref a0), (1, .int x1)] [] h 0 0 X := by
  unfold FX4_reels at hF
  refine jj_aload_n (j := 0) (i := 0) (pc' := 1) dX4_reels_0 rfl rfl rfl ?_
  refine jj_gR (C := RX4) (T := TX4) (N := 15) (ci := 4) (k := 0) (pc' := 4) dX4_reels_1 rfl rfl inX4 (by decide) qw_73 hF (fun r101 hF => ?_)
  refine jj_bipush (v := (10 : Int32)) (pc' := 6) dX4_reels_4 rfl rfl ?_
  refine jj_iconst (v := (2 : Int32)) (pc' := 7) dX4_reels_6 rfl rfl ?_
  refine jj_iload_n (j := 1) (i := 1) (pc' := 8) dX4_reels_7 rfl rfl rfl ?_
  refine jj_imul (pc' := 9) dX4_reels_8 rfl ?_
  refine jj_iadd (pc' := 10) dX4_reels_9 rfl ?_
  refine jj_ldI (pc' := 11) dX4_reels_10 rfl hF (fun x102 hF => ?_)
  exact jj_retI (ty := .int) rfl rfl dX4_reels_11 ⟨Nat.le_of_ble_eq_true rfl, Nat.le_of_ble_eq_true rfl⟩ hF
theorem KX4_reels {a0 : Nat} {x1 : Int32} {h : jm_H} {X : jm_X} (hF : FX4_reels a0 x1 h = some X) : jm_K M_X4_reels [.ref a0, .int x1] h X := jk_of rfl (by decide +kernel) rfl rfl (Nat.le_of_ble_eq_true rfl) (JX4_reels hF)
set_option maxRecDepth 100000 in
set_option maxHeartbeats 4000000 in
theorem JX4_minutes {a0 : Nat} {x1 : Int32} {h : jm_H} {X : jm_X} (hF : FX4_minutes a0 x1 h = some X) : jm_J M_X4_minutes 0 [(0, .ref a0), (1, .int x1)] [] h 0 0 X := by
  unfold FX4_minutes at hF
  refine jj_aload_n (j := 0) (i := 0) (pc' := 1) dX4_minutes_0 rfl rfl rfl ?_
  refine jj_gR (C := RX4) (T := TX4) (N := 15) (ci := 4) (k := 0) (pc' := 4) dX4_minutes_1 rfl rfl inX4 (by decide) qw_73 hF (fun r101 hF => ?_)
  refine jj_bipush (v := (10 : Int32)) (pc' := 6) dX4_minutes_4 rfl rfl ?_
  refine jj_iconst (v := (2 : Int32)) (pc' := 7) dX4_minutes_6 rfl rfl ?_
  refine jj_iload_n (j := 1) (i := 1) (pc' := 8) dX4_minutes_7 rfl rfl rfl ?_
  refine jj_imul (pc' := 9) dX4_minutes_8 rfl ?_
  refine jj_iadd (pc' := 10) dX4_minutes_9 rfl ?_
  refine jj_iconst (v := (1 : Int32)) (pc' := 11) dX4_minutes_10 rfl rfl ?_
  refine jj_iadd (pc' := 12) dX4_minutes_11 rfl ?_
  refine jj_ldI (pc' := 13) dX4_minutes_12 rfl hF (fun x102 hF => ?_)
  exact jj_retI (ty := .int) rfl rfl dX4_minutes_13 ⟨Nat.le_of_ble_eq_true rfl, Nat.le_of_ble_eq_true rfl⟩ hF
theorem KX4_minutes {a0 : Nat} {x1 : Int32} {h : jm_H} {X : jm_X} (hF : FX4_minutes a0 x1 h = some X) : jm_K M_X4_minutes [.ref a0, .int x1] h X := jk_of rfl (by decide +kernel) rfl rfl (Nat.le_of_ble_eq_true rfl) (JX4_minutes hF)
set_option maxRecDepth 100000 in
set_option maxHeartbeats 4000000 in
theorem JX4_of {a0 : Nat} {x1 : Int32} {x2 : Int32} {h : jm_H} {X : jm_X} (hF : FX4_of a0 x1 x2 h = some X) : jm_J M_X4_of 0 [(0, .ref a0), (1, .int x1), (2, .int x2)] [] h 0 0 X := by
  unfold FX4_of at hF
  refine jj_aload_n (j := 0) (i := 0) (pc' := 1) dX4_of_0 rfl rfl rfl ?_
  refine jj_gR (C := RX4) (T := TX4) (N := 15) (ci := 4) (k := 0) (pc' := 4) dX4_of_1 rfl rfl inX4 (by decide) qw_73 hF (fun r101 hF => ?_)
  refine jj_bipush (v := (26 : Int32)) (pc' := 6) dX4_of_4 rfl rfl ?_
  refine jj_iconst (v := (5 : Int32)) (pc' := 7) dX4_of_6 rfl rfl ?_
  refine jj_iload_n (j := 1) (i := 1) (pc' := 8) dX4_of_7 rfl rfl rfl ?_
  refine jj_imul (pc' := 9) dX4_of_8 rfl ?_
  refine jj_iadd (pc' := 10) dX4_of_9 rfl ?_
  refine jj_iload_n (j := 2) (i := 2) (pc' := 11) dX4_of_10 rfl rfl rfl ?_
  refine jj_iadd (pc' := 12) dX4_of_11 rfl ?_
  refine jj_ldI (pc' := 13) dX4_of_12 rfl hF (fun x102 hF => ?_)
  exact jj_retI (ty := .int) rfl rfl dX4_of_13 ⟨Nat.le_of_ble_eq_true rfl, Nat.le_of_ble_eq_true rfl⟩ hF
theorem KX4_of {a0 : Nat} {x1 : Int32} {x2 : Int32} {h : jm_H} {X : jm_X} (hF : FX4_of a0 x1 x2 h = some X) : jm_K M_X4_of [.ref a0, .int x1, .int x2] h X := jk_of rfl (by decide +kernel) rfl rfl (Nat.le_of_ble_eq_true rfl) (JX4_of hF)
set_option maxRecDepth 100000 in
set_option maxHeartbeats 4000000 in
theorem JX4_becomes {a0 : Nat} {x1 : Int32} {x2 : Int32} {x3 : Int32} {h : jm_H} {X : jm_X} (hF : FX4_becomes a0 x1 x2 x3 h = some X) : jm_J M_X4_becomes 0 [(0, .ref a0), (1, .int x1), (2, .int x2), (3, .int x3)] [] h 0 0 X := by
  unfold FX4_becomes at hF
  refine jj_aload_n (j := 0) (i := 0) (pc' := 1) dX4_becomes_0 rfl rfl rfl ?_
  refine jj_gR (C := RX4) (T := TX4) (N := 15) (ci := 4) (k := 0) (pc' := 4) dX4_becomes_1 rfl rfl inX4 (by decide) qw_73 hF (fun r101 hF => ?_)
  refine jj_bipush (v := (26 : Int32)) (pc' := 6) dX4_becomes_4 rfl rfl ?_
  refine jj_iconst (v := (5 : Int32)) (pc' := 7) dX4_becomes_6 rfl rfl ?_
  refine jj_iload_n (j := 1) (i := 1) (pc' := 8) dX4_becomes_7 rfl rfl rfl ?_
  refine jj_imul (pc' := 9) dX4_becomes_8 rfl ?_
  refine jj_iadd (pc' := 10) dX4_becomes_9 rfl ?_
  refine jj_iload_n (j := 2) (i := 2) (pc' := 11) dX4_becomes_10 rfl rfl rfl ?_
  refine jj_iadd (pc' := 12) dX4_becomes_11 rfl ?_
  refine jj_iload_n (j := 3) (i := 3) (pc' := 13) dX4_becomes_12 rfl rfl rfl ?_
  refine jj_stI (pc' := 14) dX4_becomes_13 rfl hF (fun h102 hF => ?_)
  exact jj_retV rfl dX4_becomes_14 ⟨Nat.le_of_ble_eq_true rfl, Nat.le_of_ble_eq_true rfl⟩ hF
theorem KX4_becomes {a0 : Nat} {x1 : Int32} {x2 : Int32} {x3 : Int32} {h : jm_H} {X : jm_X} (hF : FX4_becomes a0 x1 x2 x3 h = some X) : jm_K M_X4_becomes [.ref a0, .int x1, .int x2, .int x3] h X := jk_of rfl (by decide +kernel) rfl rfl (Nat.le_of_ble_eq_true rfl) (JX4_becomes hF)
set_option maxRecDepth 100000 in
set_option maxHeartbeats 4000000 in
theorem JX4_begins {a0 : Nat} {x1 : Int32} {x2 : Int32} {x3 : Int32} {x4 : Int32} {h : jm_H} {X : jm_X} (hF : FX4_begins a0 x1 x2 x3 x4 h = some X) : jm_J M_X4_begins 0 [(0, .ref a0), (1, .int x1), (2, .int x2), (3, .int x3), (4, .int x4)] [] h 0 0 X := by
  unfold FX4_begins at hF
  refine jj_iload_n (j := 2) (i := 2) (pc' := 1) dX4_begins_0 rfl rfl rfl ?_
  refine jj_iload (j := 4) (i := 4) (pc' := 3) dX4_begins_1 rfl rfl ?_
  refine jj_aload_n (j := 0) (i := 0) (pc' := 4) dX4_begins_3 rfl rfl rfl ?_
  refine jj_iload_n (j := 1) (i := 1) (pc' := 5) dX4_begins_4 rfl rfl rfl ?_
  refine jj_cI (N := M_X4_minutes) (kc' := 0) (ks' := 0) (pc' := 8) (jg_V (N := M_X4_minutes) (ci := 4) (rest := [.int x4, .int x2]) (as := [.int x1]) cf_X4_40 dX4_begins_5 ⟨rfl, rfl⟩ rfl rfl ⟨Nat.le_of_ble_eq_true rfl, Nat.le_of_ble_eq_true rfl⟩ ⟨Nat.le_of_ble_eq_true rfl, Nat.le_of_ble_eq_true rfl⟩ (Nat.le_of_ble_eq_true rfl) (fun X' hX => KX4_minutes hX)) rfl rfl rfl rfl ⟨Nat.le_of_ble_eq_true rfl, Nat.le_of_ble_eq_true rfl⟩ rfl hF (fun x102 h101 hF => ?_)
  refine jj_imul (pc' := 9) dX4_begins_8 rfl ?_
  refine jj_iadd (pc' := 10) dX4_begins_9 rfl ?_
  refine jj_iload (j := 4) (i := 4) (pc' := 12) dX4_begins_10 rfl rfl ?_
  refine jj_aload_n (j := 0) (i := 0) (pc' := 13) dX4_begins_12 rfl rfl rfl ?_
  refine jj_iload_n (j := 1) (i := 1) (pc' := 14) dX4_begins_13 rfl rfl rfl ?_
  refine jj_cI (N := M_X4_reels) (kc' := 0) (ks' := 0) (pc' := 17) (jg_V (N := M_X4_reels) (ci := 4) (rest := [.int x4, .int (x2 + (x4 * x102))]) (as := [.int x1]) cf_X4_44 dX4_begins_14 ⟨rfl, rfl⟩ rfl rfl ⟨Nat.le_of_ble_eq_true rfl, Nat.le_of_ble_eq_true rfl⟩ ⟨Nat.le_of_ble_eq_true rfl, Nat.le_of_ble_eq_true rfl⟩ (Nat.le_of_ble_eq_true rfl) (fun X' hX => KX4_reels hX)) rfl rfl rfl rfl ⟨Nat.le_of_ble_eq_true rfl, Nat.le_of_ble_eq_true rfl⟩ rfl hF (fun x104 h103 hF => ?_)
  refine jj_iconst (v := (1 : Int32)) (pc' := 18) dX4_begins_17 rfl rfl ?_
  refine jj_iadd (pc' := 19) dX4_begins_18 rfl ?_
  refine jj_iconst (v := (2 : Int32)) (pc' := 20) dX4_begins_19 rfl rfl ?_
  refine jj_idiv (pc' := 21) dX4_begins_20 (by decide) rfl ?_
  refine jj_icmp_lt (tgt := 28) (pc' := 24) dX4_begins_21 rfl rfl (fun hc hF => ?_) (fun hc hF => ?_) hF
  · skip
    refine jj_iconst (v := (0 : Int32)) (pc' := 29) dX4_begins_28 rfl rfl ?_
    refine jj_iadd (pc' := 30) dX4_begins_29 rfl ?_
    exact jj_retI (ty := .int) rfl rfl dX4_begins_30 ⟨Nat.le_of_ble_eq_true rfl, Nat.le_of_ble_eq_true rfl⟩ hF
  · skip
    refine jj_iload_n (j := 3) (i := 3) (pc' := 25) dX4_begins_24 rfl rfl rfl ?_
    refine jj_goto (tgt := 29) dX4_begins_25 rfl ?_
    refine jj_iadd (pc' := 30) dX4_begins_29 rfl ?_
    exact jj_retI (ty := .int) rfl rfl dX4_begins_30 ⟨Nat.le_of_ble_eq_true rfl, Nat.le_of_ble_eq_true rfl⟩ hF
theorem KX4_begins {a0 : Nat} {x1 : Int32} {x2 : Int32} {x3 : Int32} {x4 : Int32} {h : jm_H} {X : jm_X} (hF : FX4_begins a0 x1 x2 x3 x4 h = some X) : jm_K M_X4_begins [.ref a0, .int x1, .int x2, .int x3, .int x4] h X := jk_of rfl (by decide +kernel) rfl rfl (Nat.le_of_ble_eq_true rfl) (JX4_begins hF)
set_option maxRecDepth 100000 in
set_option maxHeartbeats 4000000 in
theorem JX4_ends {a0 : Nat} {x1 : Int32} {x2 : Int32} {x3 : Int32} {h : jm_H} {X : jm_X} (hF : FX4_ends a0 x1 x2 x3 h = some X) : jm_J M_X4_ends 0 [(0, .ref a0), (1, .int x1), (2, .int x2), (3, .int x3)] [] h 0 0 X := by
  unfold FX4_ends at hF
  refine jj_iload_n (j := 2) (i := 2) (pc' := 1) dX4_ends_0 rfl rfl rfl ?_
  refine jj_aload_n (j := 0) (i := 0) (pc' := 2) dX4_ends_1 rfl rfl rfl ?_
  refine jj_iload_n (j := 1) (i := 1) (pc' := 3) dX4_ends_2 rfl rfl rfl ?_
  refine jj_cI (N := M_X4_reels) (kc' := 0) (ks' := 0) (pc' := 6) (jg_V (N := M_X4_reels) (ci := 4) (rest := [.int x2]) (as := [.int x1]) cf_X4_44 dX4_ends_3 ⟨rfl, rfl⟩ rfl rfl ⟨Nat.le_of_ble_eq_true rfl, Nat.le_of_ble_eq_true rfl⟩ ⟨Nat.le_of_ble_eq_true rfl, Nat.le_of_ble_eq_true rfl⟩ (Nat.le_of_ble_eq_true rfl) (fun X' hX => KX4_reels hX)) rfl rfl rfl rfl ⟨Nat.le_of_ble_eq_true rfl, Nat.le_of_ble_eq_true rfl⟩ rfl hF (fun x102 h101 hF => ?_)
  refine jj_aload_n (j := 0) (i := 0) (pc' := 7) dX4_ends_6 rfl rfl rfl ?_
  refine jj_iload_n (j := 1) (i := 1) (pc' := 8) dX4_ends_7 rfl rfl rfl ?_
  refine jj_cI (N := M_X4_minutes) (kc' := 0) (ks' := 0) (pc' := 11) (jg_V (N := M_X4_minutes) (ci := 4) (rest := [.int x102, .int x2]) (as := [.int x1]) cf_X4_40 dX4_ends_8 ⟨rfl, rfl⟩ rfl rfl ⟨Nat.le_of_ble_eq_true rfl, Nat.le_of_ble_eq_true rfl⟩ ⟨Nat.le_of_ble_eq_true rfl, Nat.le_of_ble_eq_true rfl⟩ (Nat.le_of_ble_eq_true rfl) (fun X' hX => KX4_minutes hX)) rfl rfl rfl rfl ⟨Nat.le_of_ble_eq_true rfl, Nat.le_of_ble_eq_true rfl⟩ rfl hF (fun x104 h103 hF => ?_)
  refine jj_imul (pc' := 12) dX4_ends_11 rfl ?_
  refine jj_iadd (pc' := 13) dX4_ends_12 rfl ?_
  refine jj_iload_n (j := 3) (i := 3) (pc' := 14) dX4_ends_13 rfl rfl rfl ?_
  refine jj_iadd (pc' := 15) dX4_ends_14 rfl ?_
  exact jj_retI (ty := .int) rfl rfl dX4_ends_15 ⟨Nat.le_of_ble_eq_true rfl, Nat.le_of_ble_eq_true rfl⟩ hF
theorem KX4_ends {a0 : Nat} {x1 : Int32} {x2 : Int32} {x3 : Int32} {h : jm_H} {X : jm_X} (hF : FX4_ends a0 x1 x2 x3 h = some X) : jm_K M_X4_ends [.ref a0, .int x1, .int x2, .int x3] h X := jk_of rfl (by decide +kernel) rfl rfl (Nat.le_of_ble_eq_true rfl) (JX4_ends hF)
set_option maxRecDepth 100000 in
set_option maxHeartbeats 4000000 in
theorem JX4_end {a0 : Nat} {x1 : Int32} {h : jm_H} {X : jm_X} (hF : FX4_end a0 x1 h = some X) : jm_J M_X4_end 0 [(0, .ref a0), (1, .int x1)] [] h 0 0 X := by
  unfold FX4_end at hF
  refine jj_aload_n (j := 0) (i := 0) (pc' := 1) dX4_end_0 rfl rfl rfl ?_
  refine jj_aload_n (j := 0) (i := 0) (pc' := 2) dX4_end_1 rfl rfl rfl ?_
  refine jj_iload_n (j := 1) (i := 1) (pc' := 3) dX4_end_2 rfl rfl rfl ?_
  refine jj_iconst (v := (0 : Int32)) (pc' := 4) dX4_end_3 rfl rfl ?_
  refine jj_cI (N := M_X4_of) (kc' := 0) (ks' := 0) (pc' := 7) (jg_V (N := M_X4_of) (ci := 4) (rest := [.ref a0]) (as := [.int x1, .int ((0 : Int32))]) cf_X4_47 dX4_end_4 ⟨rfl, rfl⟩ rfl rfl ⟨Nat.le_of_ble_eq_true rfl, Nat.le_of_ble_eq_true rfl⟩ ⟨Nat.le_of_ble_eq_true rfl, Nat.le_of_ble_eq_true rfl⟩ (Nat.le_of_ble_eq_true rfl) (fun X' hX => KX4_of hX)) rfl rfl rfl rfl ⟨Nat.le_of_ble_eq_true rfl, Nat.le_of_ble_eq_true rfl⟩ rfl hF (fun x102 h101 hF => ?_)
  refine jj_aload_n (j := 0) (i := 0) (pc' := 8) dX4_end_7 rfl rfl rfl ?_
  refine jj_iload_n (j := 1) (i := 1) (pc' := 9) dX4_end_8 rfl rfl rfl ?_
  refine jj_iconst (v := (2 : Int32)) (pc' := 10) dX4_end_9 rfl rfl ?_
  refine jj_cI (N := M_X4_of) (kc' := 0) (ks' := 0) (pc' := 13) (jg_V (N := M_X4_of) (ci := 4) (rest := [.int x102, .ref a0]) (as := [.int x1, .int ((2 : Int32))]) cf_X4_47 dX4_end_10 ⟨rfl, rfl⟩ rfl rfl ⟨Nat.le_of_ble_eq_true rfl, Nat.le_of_ble_eq_true rfl⟩ ⟨Nat.le_of_ble_eq_true rfl, Nat.le_of_ble_eq_true rfl⟩ (Nat.le_of_ble_eq_true rfl) (fun X' hX => KX4_of hX)) rfl rfl rfl rfl ⟨Nat.le_of_ble_eq_true rfl, Nat.le_of_ble_eq_true rfl⟩ rfl hF (fun x104 h103 hF => ?_)
  refine jj_aload_n (j := 0) (i := 0) (pc' := 14) dX4_end_13 rfl rfl rfl ?_
  refine jj_iload_n (j := 1) (i := 1) (pc' := 15) dX4_end_14 rfl rfl rfl ?_
  refine jj_iconst (v := (3 : Int32)) (pc' := 16) dX4_end_15 rfl rfl ?_
  refine jj_cI (N := M_X4_of) (kc' := 0) (ks' := 0) (pc' := 19) (jg_V (N := M_X4_of) (ci := 4) (rest := [.int x104, .int x102, .ref a0]) (as := [.int x1, .int ((3 : Int32))]) cf_X4_47 dX4_end_16 ⟨rfl, rfl⟩ rfl rfl ⟨Nat.le_of_ble_eq_true rfl, Nat.le_of_ble_eq_true rfl⟩ ⟨Nat.le_of_ble_eq_true rfl, Nat.le_of_ble_eq_true rfl⟩ (Nat.le_of_ble_eq_true rfl) (fun X' hX => KX4_of hX)) rfl rfl rfl rfl ⟨Nat.le_of_ble_eq_true rfl, Nat.le_of_ble_eq_true rfl⟩ rfl hF (fun x106 h105 hF => ?_)
  refine jj_cI (N := M_X4_ends) (kc' := 0) (ks' := 0) (pc' := 22) (jg_V (N := M_X4_ends) (ci := 4) (rest := []) (as := [.int x102, .int x104, .int x106]) cf_X4_51 dX4_end_19 ⟨rfl, rfl⟩ rfl rfl ⟨Nat.le_of_ble_eq_true rfl, Nat.le_of_ble_eq_true rfl⟩ ⟨Nat.le_of_ble_eq_true rfl, Nat.le_of_ble_eq_true rfl⟩ (Nat.le_of_ble_eq_true rfl) (fun X' hX => KX4_ends hX)) rfl rfl rfl rfl ⟨Nat.le_of_ble_eq_true rfl, Nat.le_of_ble_eq_true rfl⟩ rfl hF (fun x108 h107 hF => ?_)
  exact jj_retI (ty := .int) rfl rfl dX4_end_22 ⟨Nat.le_of_ble_eq_true rfl, Nat.le_of_ble_eq_true rfl⟩ hF
theorem KX4_end {a0 : Nat} {x1 : Int32} {h : jm_H} {X : jm_X} (hF : FX4_end a0 x1 h = some X) : jm_K M_X4_end [.ref a0, .int x1] h X := jk_of rfl (by decide +kernel) rfl rfl (Nat.le_of_ble_eq_true rfl) (JX4_end hF)
set_option maxRecDepth 100000 in
set_option maxHeartbeats 4000000 in
theorem JX4_isNear {x0 : Int32} {x1 : Int32} {x2 : Int32} {x3 : Int32} {x4 : Int32} {h : jm_H} {X : jm_X} (hF : FX4_isNear x0 x1 x2 x3 x4 h = some X) : jm_J M_X4_isNear 0 [(0, .int x0), (1, .int x1), (2, .int x2), (3, .int x3), (4, .int x4)] [] h 0 0 X := by
  unfold FX4_isNear at hF
  refine jj_iload_n (j := 3) (i := 3) (pc' := 1) dX4_isNear_0 rfl rfl rfl ?_
  refine jj_iload (j := 4) (i := 4) (pc' := 3) dX4_isNear_1 rfl rfl ?_
  refine jj_iadd (pc' := 4) dX4_isNear_3 rfl ?_
  refine jj_iload_n (j := 0) (i := 0) (pc' := 5) dX4_isNear_4 rfl rfl rfl ?_
  refine jj_icmp_le (tgt := 20) (pc' := 8) dX4_isNear_5 rfl rfl (fun hc hF => ?_) (fun hc hF => ?_) hF
  · skip
    refine jj_iconst (v := (0 : Int32)) (pc' := 21) dX4_isNear_20 rfl rfl ?_
    exact jj_retI (ty := .boolean) rfl rfl dX4_isNear_21 ⟨Nat.le_of_ble_eq_true rfl, Nat.le_of_ble_eq_true rfl⟩ hF
  · skip
    refine jj_iload_n (j := 1) (i := 1) (pc' := 9) dX4_isNear_8 rfl rfl rfl ?_
    refine jj_iload (j := 4) (i := 4) (pc' := 11) dX4_isNear_9 rfl rfl ?_
    refine jj_iadd (pc' := 12) dX4_isNear_11 rfl ?_
    refine jj_iload_n (j := 2) (i := 2) (pc' := 13) dX4_isNear_12 rfl rfl rfl ?_
    refine jj_icmp_le (tgt := 20) (pc' := 16) dX4_isNear_13 rfl rfl (fun hc hF => ?_) (fun hc hF => ?_) hF
    · skip
      refine jj_iconst (v := (0 : Int32)) (pc' := 21) dX4_isNear_20 rfl rfl ?_
      exact jj_retI (ty := .boolean) rfl rfl dX4_isNear_21 ⟨Nat.le_of_ble_eq_true rfl, Nat.le_of_ble_eq_true rfl⟩ hF
    · skip
      refine jj_iconst (v := (1 : Int32)) (pc' := 17) dX4_isNear_16 rfl rfl ?_
      refine jj_goto (tgt := 21) dX4_isNear_17 rfl ?_
      exact jj_retI (ty := .boolean) rfl rfl dX4_isNear_21 ⟨Nat.le_of_ble_eq_true rfl, Nat.le_of_ble_eq_true rfl⟩ hF
theorem KX4_isNear {x0 : Int32} {x1 : Int32} {x2 : Int32} {x3 : Int32} {x4 : Int32} {h : jm_H} {X : jm_X} (hF : FX4_isNear x0 x1 x2 x3 x4 h = some X) : jm_K M_X4_isNear [.int x0, .int x1, .int x2, .int x3, .int x4] h X := jk_of rfl (by decide +kernel) rfl rfl (Nat.le_of_ble_eq_true rfl) (JX4_isNear hF)
set_option maxRecDepth 100000 in
set_option maxHeartbeats 4000000 in
theorem JX4_finds {a0 : Nat} {x1 : Int32} {x2 : Int32} {x3 : Int32} {h : jm_H} {X : jm_X} (hF : FX4_finds a0 x1 x2 x3 h = some X) : jm_J M_X4_finds 0 [(0, .ref a0), (1, .int x1), (2, .int x2), (3, .int x3)] [] h 0 0 X := by
  unfold FX4_finds at hF
  refine jj_aload_n (j := 0) (i := 0) (pc' := 1) dX4_finds_0 rfl rfl rfl ?_
  refine jj_iload_n (j := 1) (i := 1) (pc' := 2) dX4_finds_1 rfl rfl rfl ?_
  refine jj_p (C := RX4) (T := TX4) (N := 15) (ci := 4) (k := 8) (ty := tyX4) (pc' := 5) dX4_finds_2 rfl rfl inX4 tyX4_ok nmX4 (by decide) qw_81 rfl (fun _ => ⟨rfl, rfl⟩) hF (fun h101 hF => ?_)
  refine jj_aload_n (j := 0) (i := 0) (pc' := 6) dX4_finds_5 rfl rfl rfl ?_
  refine jj_iload_n (j := 2) (i := 2) (pc' := 7) dX4_finds_6 rfl rfl rfl ?_
  refine jj_p (C := RX4) (T := TX4) (N := 15) (ci := 4) (k := 9) (ty := tyX4) (pc' := 10) dX4_finds_7 rfl rfl inX4 tyX4_ok nmX4 (by decide) qw_82 rfl (fun _ => ⟨rfl, rfl⟩) hF (fun h102 hF => ?_)
  refine jj_aload_n (j := 0) (i := 0) (pc' := 11) dX4_finds_10 rfl rfl rfl ?_
  refine jj_iload_n (j := 3) (i := 3) (pc' := 12) dX4_finds_11 rfl rfl rfl ?_
  refine jj_p (C := RX4) (T := TX4) (N := 15) (ci := 4) (k := 10) (ty := tyX4) (pc' := 15) dX4_finds_12 rfl rfl inX4 tyX4_ok nmX4 (by decide) qw_83 rfl (fun _ => ⟨rfl, rfl⟩) hF (fun h103 hF => ?_)
  exact jj_retV rfl dX4_finds_15 ⟨Nat.le_of_ble_eq_true rfl, Nat.le_of_ble_eq_true rfl⟩ hF
theorem KX4_finds {a0 : Nat} {x1 : Int32} {x2 : Int32} {x3 : Int32} {h : jm_H} {X : jm_X} (hF : FX4_finds a0 x1 x2 x3 h = some X) : jm_K M_X4_finds [.ref a0, .int x1, .int x2, .int x3] h X := jk_of rfl (by decide +kernel) rfl rfl (Nat.le_of_ble_eq_true rfl) (JX4_finds hF)
set_option maxRecDepth 100000 in
set_option maxHeartbeats 4000000 in
theorem BX4_clash_3 (N : Nat) : ∀ (n : Nat) (a0 : Nat) (x1 : Int32) (x2 : Int32) (x3 : Int32) (x4 : Int32) (x5 : Int32) (h : jm_H) (X : jm_X), FX4_clash_3 N n a0 x1 x2 x3 x4 x5 h = some X → jm_J M_X4_clash 3 [(0, .ref a0), (1, .int x1), (2, .int x2), (3, .int x3), (4, .int x4), (5, .int x5)] [] h 0 0 X := by
  intro n
  induction n with
  | zero =>
    intro a0 x1 x2 x3 x4 x5 h X hF
    exact nomatch (show (none : Option jm_X) = some X from hF)
  | succ n ih =>
    intro a0 x1 x2 x3 x4 x5 h X hF
    rw [FX4_clash_3] at hF
    refine jj_iload (j := 5) (i := 5) (pc' := 5) dX4_clash_3 rfl rfl ?_
    refine jj_aload_n (j := 0) (i := 0) (pc' := 6) dX4_clash_5 rfl rfl rfl ?_
    refine jj_iload_n (j := 2) (i := 2) (pc' := 7) dX4_clash_6 rfl rfl rfl ?_
    refine jj_cI (N := M_X4_reels) (kc' := 0) (ks' := 0) (pc' := 10) (jg_V (N := M_X4_reels) (ci := 4) (rest := [.int x5]) (as := [.int x2]) cf_X4_44 dX4_clash_7 ⟨rfl, rfl⟩ rfl rfl ⟨Nat.le_of_ble_eq_true rfl, Nat.le_of_ble_eq_true rfl⟩ ⟨Nat.le_of_ble_eq_true rfl, Nat.le_of_ble_eq_true rfl⟩ (Nat.le_of_ble_eq_true rfl) (fun X' hX => KX4_reels hX)) rfl rfl rfl rfl ⟨Nat.le_of_ble_eq_true rfl, Nat.le_of_ble_eq_true rfl⟩ rfl hF (fun x102 h101 hF => ?_)
    refine jj_icmp_ge (tgt := 87) (pc' := 13) dX4_clash_10 rfl rfl (fun hc hF => ?_) (fun hc hF => ?_) hF
    · skip
      refine jj_iconst (v := (-1 : Int32)) (pc' := 88) dX4_clash_87 rfl rfl ?_
      exact jj_retI (ty := .int) rfl rfl dX4_clash_88 ⟨Nat.le_of_ble_eq_true rfl, Nat.le_of_ble_eq_true rfl⟩ hF
    · skip
      refine jj_aload_n (j := 0) (i := 0) (pc' := 14) dX4_clash_13 rfl rfl rfl ?_
      refine jj_iload_n (j := 2) (i := 2) (pc' := 15) dX4_clash_14 rfl rfl rfl ?_
      refine jj_iload_n (j := 3) (i := 3) (pc' := 16) dX4_clash_15 rfl rfl rfl ?_
      refine jj_iload (j := 4) (i := 4) (pc' := 18) dX4_clash_16 rfl rfl ?_
      refine jj_iload (j := 5) (i := 5) (pc' := 20) dX4_clash_18 rfl rfl ?_
      refine jj_cI (N := M_X4_begins) (kc' := 0) (ks' := 0) (pc' := 23) (jg_V (N := M_X4_begins) (ci := 4) (rest := []) (as := [.int x2, .int x3, .int x4, .int x5]) cf_X4_64 dX4_clash_20 ⟨rfl, rfl⟩ rfl rfl ⟨Nat.le_of_ble_eq_true rfl, Nat.le_of_ble_eq_true rfl⟩ ⟨Nat.le_of_ble_eq_true rfl, Nat.le_of_ble_eq_true rfl⟩ (Nat.le_of_ble_eq_true rfl) (fun X' hX => KX4_begins hX)) rfl rfl rfl rfl ⟨Nat.le_of_ble_eq_true rfl, Nat.le_of_ble_eq_true rfl⟩ rfl hF (fun x104 h103 hF => ?_)
      refine jj_istore (i := 6) (ls' := [(6, .int x104), (0, .ref a0), (1, .int x1), (2, .int x2), (3, .int x3), (4, .int x4), (5, .int x5)]) (pc' := 25) dX4_clash_23 (Nat.le_of_ble_eq_true rfl) rfl rfl ?_
      refine jj_aload_n (j := 1) (i := 0) (pc' := 26) dX4_clash_25 rfl rfl rfl ?_
      refine jj_iload_n (j := 3) (i := 2) (pc' := 27) dX4_clash_26 rfl rfl rfl ?_
      refine jj_aload_n (j := 1) (i := 0) (pc' := 28) dX4_clash_27 rfl rfl rfl ?_
      refine jj_iload_n (j := 2) (i := 1) (pc' := 29) dX4_clash_28 rfl rfl rfl ?_
      refine jj_iconst (v := (2 : Int32)) (pc' := 30) dX4_clash_29 rfl rfl ?_
      refine jj_cI (N := M_X4_of) (kc' := 0) (ks' := 0) (pc' := 33) (jg_V (N := M_X4_of) (ci := 4) (rest := [.int x2, .ref a0]) (as := [.int x1, .int ((2 : Int32))]) cf_X4_47 dX4_clash_30 ⟨rfl, rfl⟩ rfl rfl ⟨Nat.le_of_ble_eq_true rfl, Nat.le_of_ble_eq_true rfl⟩ ⟨Nat.le_of_ble_eq_true rfl, Nat.le_of_ble_eq_true rfl⟩ (Nat.le_of_ble_eq_true rfl) (fun X' hX => KX4_of hX)) rfl rfl rfl rfl ⟨Nat.le_of_ble_eq_true rfl, Nat.le_of_ble_eq_true rfl⟩ rfl hF (fun x106 h105 hF => ?_)
      refine jj_aload_n (j := 1) (i := 0) (pc' := 34) dX4_clash_33 rfl rfl rfl ?_
      refine jj_iload_n (j := 2) (i := 1) (pc' := 35) dX4_clash_34 rfl rfl rfl ?_
      refine jj_iconst (v := (3 : Int32)) (pc' := 36) dX4_clash_35 rfl rfl ?_
      refine jj_cI (N := M_X4_of) (kc' := 0) (ks' := 0) (pc' := 39) (jg_V (N := M_X4_of) (ci := 4) (rest := [.int x106, .int x2, .ref a0]) (as := [.int x1, .int ((3 : Int32))]) cf_X4_47 dX4_clash_36 ⟨rfl, rfl⟩ rfl rfl ⟨Nat.le_of_ble_eq_true rfl, Nat.le_of_ble_eq_true rfl⟩ ⟨Nat.le_of_ble_eq_true rfl, Nat.le_of_ble_eq_true rfl⟩ (Nat.le_of_ble_eq_true rfl) (fun X' hX => KX4_of hX)) rfl rfl rfl rfl ⟨Nat.le_of_ble_eq_true rfl, Nat.le_of_ble_eq_true rfl⟩ rfl hF (fun x108 h107 hF => ?_)
      refine jj_iload (j := 6) (i := 5) (pc' := 41) dX4_clash_39 rfl rfl ?_
      refine jj_cI (N := M_X4_begins) (kc' := 0) (ks' := 0) (pc' := 44) (jg_V (N := M_X4_begins) (ci := 4) (rest := []) (as := [.int x2, .int x106, .int x108, .int x5]) cf_X4_64 dX4_clash_41 ⟨rfl, rfl⟩ rfl rfl ⟨Nat.le_of_ble_eq_true rfl, Nat.le_of_ble_eq_true rfl⟩ ⟨Nat.le_of_ble_eq_true rfl, Nat.le_of_ble_eq_true rfl⟩ (Nat.le_of_ble_eq_true rfl) (fun X' hX => KX4_begins hX)) rfl rfl rfl rfl ⟨Nat.le_of_ble_eq_true rfl, Nat.le_of_ble_eq_true rfl⟩ rfl hF (fun x110 h109 hF => ?_)
      refine jj_istore (i := 7) (ls' := [(7, .int x110), (6, .int x104), (0, .ref a0), (1, .int x1), (2, .int x2), (3, .int x3), (4, .int x4), (5, .int x5)]) (pc' := 46) dX4_clash_44 (Nat.le_of_ble_eq_true rfl) rfl rfl ?_
      refine jj_iload (j := 1) (i := 6) (pc' := 48) dX4_clash_46 rfl rfl ?_
      refine jj_iload (j := 1) (i := 6) (pc' := 50) dX4_clash_48 rfl rfl ?_
      refine jj_aload_n (j := 2) (i := 0) (pc' := 51) dX4_clash_50 rfl rfl rfl ?_
      refine jj_iload_n (j := 4) (i := 2) (pc' := 52) dX4_clash_51 rfl rfl rfl ?_
      refine jj_cI (N := M_X4_minutes) (kc' := 0) (ks' := 0) (pc' := 55) (jg_V (N := M_X4_minutes) (ci := 4) (rest := [.int x104, .int x104]) (as := [.int x2]) cf_X4_40 dX4_clash_52 ⟨rfl, rfl⟩ rfl rfl ⟨Nat.le_of_ble_eq_true rfl, Nat.le_of_ble_eq_true rfl⟩ ⟨Nat.le_of_ble_eq_true rfl, Nat.le_of_ble_eq_true rfl⟩ (Nat.le_of_ble_eq_true rfl) (fun X' hX => KX4_minutes hX)) rfl rfl rfl rfl ⟨Nat.le_of_ble_eq_true rfl, Nat.le_of_ble_eq_true rfl⟩ rfl hF (fun x112 h111 hF => ?_)
      refine jj_iadd (pc' := 56) dX4_clash_55 rfl ?_
      refine jj_iload (j := 0) (i := 7) (pc' := 58) dX4_clash_56 rfl rfl ?_
      refine jj_iload (j := 0) (i := 7) (pc' := 60) dX4_clash_58 rfl rfl ?_
      refine jj_aload_n (j := 2) (i := 0) (pc' := 61) dX4_clash_60 rfl rfl rfl ?_
      refine jj_iload_n (j := 4) (i := 2) (pc' := 62) dX4_clash_61 rfl rfl rfl ?_
      refine jj_cI (N := M_X4_minutes) (kc' := 0) (ks' := 0) (pc' := 65) (jg_V (N := M_X4_minutes) (ci := 4) (rest := [.int x110, .int x110, .int (x104 + x112), .int x104]) (as := [.int x2]) cf_X4_40 dX4_clash_62 ⟨rfl, rfl⟩ rfl rfl ⟨Nat.le_of_ble_eq_true rfl, Nat.le_of_ble_eq_true rfl⟩ ⟨Nat.le_of_ble_eq_true rfl, Nat.le_of_ble_eq_true rfl⟩ (Nat.le_of_ble_eq_true rfl) (fun X' hX => KX4_minutes hX)) rfl rfl rfl rfl ⟨Nat.le_of_ble_eq_true rfl, Nat.le_of_ble_eq_true rfl⟩ rfl hF (fun x114 h113 hF => ?_)
      refine jj_iadd (pc' := 66) dX4_clash_65 rfl ?_
      refine jj_aload_n (j := 2) (i := 0) (pc' := 67) dX4_clash_66 rfl rfl rfl ?_
      refine jj_gR (C := RX4) (T := TX4) (N := 15) (ci := 4) (k := 0) (pc' := 70) dX4_clash_67 rfl rfl inX4 (by decide) qw_73 hF (fun r115 hF => ?_)
      refine jj_iconst (v := (3 : Int32)) (pc' := 71) dX4_clash_70 rfl rfl ?_
      refine jj_ldI (pc' := 72) dX4_clash_71 rfl hF (fun x116 hF => ?_)
      refine jj_cI (N := M_X4_isNear) (kc' := 0) (ks' := 0) (pc' := 75) (jg_S (N := M_X4_isNear) (rest := []) (as := [.int x104, .int (x104 + x112), .int x110, .int (x110 + x114), .int x116]) cf_X4_68 rfl dX4_clash_72 rfl rfl ⟨Nat.le_of_ble_eq_true rfl, Nat.le_of_ble_eq_true rfl⟩ ⟨Nat.le_of_ble_eq_true rfl, Nat.le_of_ble_eq_true rfl⟩ (Nat.le_of_ble_eq_true rfl) (fun X' hX => KX4_isNear hX)) rfl rfl rfl rfl ⟨Nat.le_of_ble_eq_true rfl, Nat.le_of_ble_eq_true rfl⟩ rfl hF (fun x118 h117 hF => ?_)
      refine jj_if_eq (tgt := 81) (pc' := 78) dX4_clash_75 rfl rfl (fun hc hF => ?_) (fun hc hF => ?_) hF
      · skip
        refine jj_iinc (i := 5) (j := 7) (v := x5 + (1 : Int32)) (ls' := [(5, .int (x5 + (1 : Int32))), (7, .int x110), (6, .int x104), (0, .ref a0), (1, .int x1), (2, .int x2), (3, .int x3), (4, .int x4)]) (pc' := 84) dX4_clash_81 rfl rfl (Nat.le_of_ble_eq_true rfl) rfl rfl ?_
        refine jj_goto (tgt := 3) dX4_clash_84 rfl ?_
        exact jj_pick [3, 4, 5, 6, 7, 0] rfl (ih a0 x1 x2 x3 x4 (x5 + (1 : Int32)) h117 _ hF)
      · skip
        refine jj_iload (j := 7) (i := 5) (pc' := 80) dX4_clash_78 rfl rfl ?_
        exact jj_retI (ty := .int) rfl rfl dX4_clash_80 ⟨Nat.le_of_ble_eq_true rfl, Nat.le_of_ble_eq_true rfl⟩ hF
set_option maxRecDepth 100000 in
set_option maxHeartbeats 4000000 in
theorem JX4_clash {N : Nat} {a0 : Nat} {x1 : Int32} {x2 : Int32} {x3 : Int32} {x4 : Int32} {h : jm_H} {X : jm_X} (hF : FX4_clash N a0 x1 x2 x3 x4 h = some X) : jm_J M_X4_clash 0 [(0, .ref a0), (1, .int x1), (2, .int x2), (3, .int x3), (4, .int x4)] [] h 0 0 X := by
  unfold FX4_clash at hF
  refine jj_iconst (v := (0 : Int32)) (pc' := 1) dX4_clash_0 rfl rfl ?_
  refine jj_istore (i := 5) (ls' := [(5, .int ((0 : Int32))), (0, .ref a0), (1, .int x1), (2, .int x2), (3, .int x3), (4, .int x4)]) (pc' := 3) dX4_clash_1 (Nat.le_of_ble_eq_true rfl) rfl rfl ?_
  exact jj_pick [1, 2, 3, 4, 5, 0] rfl (BX4_clash_3 N N a0 x1 x2 x3 x4 ((0 : Int32)) h _ hF)
theorem KX4_clash {N : Nat} {a0 : Nat} {x1 : Int32} {x2 : Int32} {x3 : Int32} {x4 : Int32} {h : jm_H} {X : jm_X} (hF : FX4_clash N a0 x1 x2 x3 x4 h = some X) : jm_K M_X4_clash [.ref a0, .int x1, .int x2, .int x3, .int x4] h X := jk_of rfl (by decide +kernel) rfl rfl (Nat.le_of_ble_eq_true rfl) (JX4_clash hF)
set_option maxRecDepth 100000 in
set_option maxHeartbeats 4000000 in
theorem BX4_looks_116 (N : Nat) : ∀ (n : Nat) (a0 : Nat) (x1 : Int32) (x2 : Int32) (x3 : Int32) (x4 : Int32) (x5 : Int32) (x7 : Int32) (h : jm_H) (X : jm_X), FX4_looks_116 N n a0 x1 x2 x3 x4 x5 x7 h = some X → jm_J M_X4_looks 116 [(0, .ref a0), (1, .int x1), (2, .int x2), (3, .int x3), (4, .int x4), (5, .int x5), (7, .int x7)] [] h 0 0 X := by
  intro n
  induction n with
  | zero =>
    intro a0 x1 x2 x3 x4 x5 x7 h X hF
    exact nomatch (show (none : Option jm_X) = some X from hF)
  | succ n ih =>
    intro a0 x1 x2 x3 x4 x5 x7 h X hF
    rw [FX4_looks_116] at hF
    refine jj_iload (j := 6) (i := 7) (pc' := 118) dX4_looks_116 rfl rfl ?_
    refine jj_aload_n (j := 0) (i := 0) (pc' := 119) dX4_looks_118 rfl rfl rfl ?_
    refine jj_gR (C := RX4) (T := TX4) (N := 15) (ci := 4) (k := 0) (pc' := 122) dX4_looks_119 rfl rfl inX4 (by decide) qw_73 hF (fun r101 hF => ?_)
    refine jj_iconst (v := (1 : Int32)) (pc' := 123) dX4_looks_122 rfl rfl ?_
    refine jj_ldI (pc' := 124) dX4_looks_123 rfl hF (fun x102 hF => ?_)
    refine jj_icmp_ge (tgt := 212) (pc' := 127) dX4_looks_124 rfl rfl (fun hc hF => ?_) (fun hc hF => ?_) hF
    · skip
      exact jj_retV rfl dX4_looks_212 ⟨Nat.le_of_ble_eq_true rfl, Nat.le_of_ble_eq_true rfl⟩ hF
    · skip
      refine jj_aload_n (j := 0) (i := 0) (pc' := 128) dX4_looks_127 rfl rfl rfl ?_
      refine jj_gI (C := RX4) (T := TX4) (N := 15) (ci := 4) (k := 8) (pc' := 131) dX4_looks_128 rfl rfl inX4 (by decide) qw_81 hF (fun x103 hF => ?_)
      refine jj_if_ne (tgt := 212) (pc' := 134) dX4_looks_131 rfl rfl (fun hc hF => ?_) (fun hc hF => ?_) hF
      · skip
        exact jj_retV rfl dX4_looks_212 ⟨Nat.le_of_ble_eq_true rfl, Nat.le_of_ble_eq_true rfl⟩ hF
      · skip
        refine jj_iload (j := 6) (i := 7) (pc' := 136) dX4_looks_134 rfl rfl ?_
        refine jj_iload (j := 5) (i := 5) (pc' := 138) dX4_looks_136 rfl rfl ?_
        refine jj_icmp_eq (tgt := 167) (pc' := 141) dX4_looks_138 rfl rfl (fun hc hF => ?_) (fun hc hF => ?_) hF
        · skip
          refine jj_iconst (v := (0 : Int32)) (pc' := 168) dX4_looks_167 rfl rfl ?_
          refine jj_istore (i := 8) (ls' := [(8, .int ((0 : Int32))), (0, .ref a0), (1, .int x1), (2, .int x2), (3, .int x3), (4, .int x4), (5, .int x5), (7, .int x7)]) (pc' := 170) dX4_looks_168 (Nat.le_of_ble_eq_true rfl) rfl rfl ?_
          refine jj_iload (j := 0) (i := 8) (pc' := 172) dX4_looks_170 rfl rfl ?_
          refine jj_if_eq_t (tgt := 188) dX4_looks_172 rfl (by decide) ?_
          refine jj_iconst (v := (-1 : Int32)) (pc' := 189) dX4_looks_188 rfl rfl ?_
          refine jj_istore (i := 9) (ls' := [(9, .int ((-1 : Int32))), (8, .int ((0 : Int32))), (0, .ref a0), (1, .int x1), (2, .int x2), (3, .int x3), (4, .int x4), (5, .int x5), (7, .int x7)]) (pc' := 191) dX4_looks_189 (Nat.le_of_ble_eq_true rfl) rfl rfl ?_
          refine jj_iload (j := 0) (i := 9) (pc' := 193) dX4_looks_191 rfl rfl ?_
          refine jj_iconst (v := (-1 : Int32)) (pc' := 194) dX4_looks_193 rfl rfl ?_
          refine jj_icmp_eq_t (tgt := 206) dX4_looks_194 rfl (by decide) ?_
          refine jj_iinc (i := 7) (j := 8) (v := x7 + (1 : Int32)) (ls' := [(7, .int (x7 + (1 : Int32))), (9, .int ((-1 : Int32))), (8, .int ((0 : Int32))), (0, .ref a0), (1, .int x1), (2, .int x2), (3, .int x3), (4, .int x4), (5, .int x5)]) (pc' := 209) dX4_looks_206 rfl rfl (Nat.le_of_ble_eq_true rfl) rfl rfl ?_
          refine jj_goto (tgt := 116) dX4_looks_209 rfl ?_
          exact jj_pick [3, 4, 5, 6, 7, 8, 0] rfl (ih a0 x1 x2 x3 x4 x5 (x7 + (1 : Int32)) h _ hF)
        · skip
          refine jj_aload_n (j := 0) (i := 0) (pc' := 142) dX4_looks_141 rfl rfl rfl ?_
          refine jj_iload (j := 6) (i := 7) (pc' := 144) dX4_looks_142 rfl rfl ?_
          refine jj_iconst (v := (1 : Int32)) (pc' := 145) dX4_looks_144 rfl rfl ?_
          refine jj_cI (N := M_X4_of) (kc' := 0) (ks' := 0) (pc' := 148) (jg_V (N := M_X4_of) (ci := 4) (rest := []) (as := [.int x7, .int ((1 : Int32))]) cf_X4_47 dX4_looks_145 ⟨rfl, rfl⟩ rfl rfl ⟨Nat.le_of_ble_eq_true rfl, Nat.le_of_ble_eq_true rfl⟩ ⟨Nat.le_of_ble_eq_true rfl, Nat.le_of_ble_eq_true rfl⟩ (Nat.le_of_ble_eq_true rfl) (fun X' hX => KX4_of hX)) rfl rfl rfl rfl ⟨Nat.le_of_ble_eq_true rfl, Nat.le_of_ble_eq_true rfl⟩ rfl hF (fun x105 h104 hF => ?_)
          refine jj_iload_n (j := 2) (i := 2) (pc' := 149) dX4_looks_148 rfl rfl rfl ?_
          refine jj_icmp_eq (tgt := 167) (pc' := 152) dX4_looks_149 rfl rfl (fun hc hF => ?_) (fun hc hF => ?_) hF
          · skip
            refine jj_iconst (v := (0 : Int32)) (pc' := 168) dX4_looks_167 rfl rfl ?_
            refine jj_istore (i := 8) (ls' := [(8, .int ((0 : Int32))), (0, .ref a0), (1, .int x1), (2, .int x2), (3, .int x3), (4, .int x4), (5, .int x5), (7, .int x7)]) (pc' := 170) dX4_looks_168 (Nat.le_of_ble_eq_true rfl) rfl rfl ?_
            refine jj_iload (j := 0) (i := 8) (pc' := 172) dX4_looks_170 rfl rfl ?_
            refine jj_if_eq_t (tgt := 188) dX4_looks_172 rfl (by decide) ?_
            refine jj_iconst (v := (-1 : Int32)) (pc' := 189) dX4_looks_188 rfl rfl ?_
            refine jj_istore (i := 9) (ls' := [(9, .int ((-1 : Int32))), (8, .int ((0 : Int32))), (0, .ref a0), (1, .int x1), (2, .int x2), (3, .int x3), (4, .int x4), (5, .int x5), (7, .int x7)]) (pc' := 191) dX4_looks_189 (Nat.le_of_ble_eq_true rfl) rfl rfl ?_
            refine jj_iload (j := 0) (i := 9) (pc' := 193) dX4_looks_191 rfl rfl ?_
            refine jj_iconst (v := (-1 : Int32)) (pc' := 194) dX4_looks_193 rfl rfl ?_
            refine jj_icmp_eq_t (tgt := 206) dX4_looks_194 rfl (by decide) ?_
            refine jj_iinc (i := 7) (j := 8) (v := x7 + (1 : Int32)) (ls' := [(7, .int (x7 + (1 : Int32))), (9, .int ((-1 : Int32))), (8, .int ((0 : Int32))), (0, .ref a0), (1, .int x1), (2, .int x2), (3, .int x3), (4, .int x4), (5, .int x5)]) (pc' := 209) dX4_looks_206 rfl rfl (Nat.le_of_ble_eq_true rfl) rfl rfl ?_
            refine jj_goto (tgt := 116) dX4_looks_209 rfl ?_
            exact jj_pick [3, 4, 5, 6, 7, 8, 0] rfl (ih a0 x1 x2 x3 x4 x5 (x7 + (1 : Int32)) h104 _ hF)
          · skip
            refine jj_aload_n (j := 0) (i := 0) (pc' := 153) dX4_looks_152 rfl rfl rfl ?_
            refine jj_iload (j := 6) (i := 7) (pc' := 155) dX4_looks_153 rfl rfl ?_
            refine jj_iconst (v := (0 : Int32)) (pc' := 156) dX4_looks_155 rfl rfl ?_
            refine jj_cI (N := M_X4_of) (kc' := 0) (ks' := 0) (pc' := 159) (jg_V (N := M_X4_of) (ci := 4) (rest := []) (as := [.int x7, .int ((0 : Int32))]) cf_X4_47 dX4_looks_156 ⟨rfl, rfl⟩ rfl rfl ⟨Nat.le_of_ble_eq_true rfl, Nat.le_of_ble_eq_true rfl⟩ ⟨Nat.le_of_ble_eq_true rfl, Nat.le_of_ble_eq_true rfl⟩ (Nat.le_of_ble_eq_true rfl) (fun X' hX => KX4_of hX)) rfl rfl rfl rfl ⟨Nat.le_of_ble_eq_true rfl, Nat.le_of_ble_eq_true rfl⟩ rfl hF (fun x107 h106 hF => ?_)
            refine jj_iload_n (j := 1) (i := 1) (pc' := 160) dX4_looks_159 rfl rfl rfl ?_
            refine jj_icmp_ne (tgt := 167) (pc' := 163) dX4_looks_160 rfl rfl (fun hc hF => ?_) (fun hc hF => ?_) hF
            · skip
              refine jj_iconst (v := (0 : Int32)) (pc' := 168) dX4_looks_167 rfl rfl ?_
              refine jj_istore (i := 8) (ls' := [(8, .int ((0 : Int32))), (0, .ref a0), (1, .int x1), (2, .int x2), (3, .int x3), (4, .int x4), (5, .int x5), (7, .int x7)]) (pc' := 170) dX4_looks_168 (Nat.le_of_ble_eq_true rfl) rfl rfl ?_
              refine jj_iload (j := 0) (i := 8) (pc' := 172) dX4_looks_170 rfl rfl ?_
              refine jj_if_eq_t (tgt := 188) dX4_looks_172 rfl (by decide) ?_
              refine jj_iconst (v := (-1 : Int32)) (pc' := 189) dX4_looks_188 rfl rfl ?_
              refine jj_istore (i := 9) (ls' := [(9, .int ((-1 : Int32))), (8, .int ((0 : Int32))), (0, .ref a0), (1, .int x1), (2, .int x2), (3, .int x3), (4, .int x4), (5, .int x5), (7, .int x7)]) (pc' := 191) dX4_looks_189 (Nat.le_of_ble_eq_true rfl) rfl rfl ?_
              refine jj_iload (j := 0) (i := 9) (pc' := 193) dX4_looks_191 rfl rfl ?_
              refine jj_iconst (v := (-1 : Int32)) (pc' := 194) dX4_looks_193 rfl rfl ?_
              refine jj_icmp_eq_t (tgt := 206) dX4_looks_194 rfl (by decide) ?_
              refine jj_iinc (i := 7) (j := 8) (v := x7 + (1 : Int32)) (ls' := [(7, .int (x7 + (1 : Int32))), (9, .int ((-1 : Int32))), (8, .int ((0 : Int32))), (0, .ref a0), (1, .int x1), (2, .int x2), (3, .int x3), (4, .int x4), (5, .int x5)]) (pc' := 209) dX4_looks_206 rfl rfl (Nat.le_of_ble_eq_true rfl) rfl rfl ?_
              refine jj_goto (tgt := 116) dX4_looks_209 rfl ?_
              exact jj_pick [3, 4, 5, 6, 7, 8, 0] rfl (ih a0 x1 x2 x3 x4 x5 (x7 + (1 : Int32)) h106 _ hF)
            · skip
              refine jj_iconst (v := (1 : Int32)) (pc' := 164) dX4_looks_163 rfl rfl ?_
              refine jj_goto (tgt := 168) dX4_looks_164 rfl ?_
              refine jj_istore (i := 8) (ls' := [(8, .int ((1 : Int32))), (0, .ref a0), (1, .int x1), (2, .int x2), (3, .int x3), (4, .int x4), (5, .int x5), (7, .int x7)]) (pc' := 170) dX4_looks_168 (Nat.le_of_ble_eq_true rfl) rfl rfl ?_
              refine jj_iload (j := 0) (i := 8) (pc' := 172) dX4_looks_170 rfl rfl ?_
              refine jj_if_eq_f (pc' := 175) dX4_looks_172 rfl (by decide) 188 rfl ?_
              refine jj_aload_n (j := 1) (i := 0) (pc' := 176) dX4_looks_175 rfl rfl rfl ?_
              refine jj_iload (j := 7) (i := 7) (pc' := 178) dX4_looks_176 rfl rfl ?_
              refine jj_iload_n (j := 2) (i := 1) (pc' := 179) dX4_looks_178 rfl rfl rfl ?_
              refine jj_iload_n (j := 4) (i := 3) (pc' := 180) dX4_looks_179 rfl rfl rfl ?_
              refine jj_iload (j := 5) (i := 4) (pc' := 182) dX4_looks_180 rfl rfl ?_
              refine jj_cI (N := M_X4_clash) (kc' := 0) (ks' := 0) (pc' := 185) (jg_V (N := M_X4_clash) (ci := 4) (rest := []) (as := [.int x7, .int x1, .int x3, .int x4]) cf_X4_78 dX4_looks_182 ⟨rfl, rfl⟩ rfl rfl ⟨Nat.le_of_ble_eq_true rfl, Nat.le_of_ble_eq_true rfl⟩ ⟨Nat.le_of_ble_eq_true rfl, Nat.le_of_ble_eq_true rfl⟩ (Nat.le_of_ble_eq_true rfl) (fun X' hX => KX4_clash hX)) rfl rfl rfl rfl ⟨Nat.le_of_ble_eq_true rfl, Nat.le_of_ble_eq_true rfl⟩ rfl hF (fun x109 h108 hF => ?_)
              refine jj_goto (tgt := 189) dX4_looks_185 rfl ?_
              refine jj_istore (i := 9) (ls' := [(9, .int x109), (8, .int ((1 : Int32))), (0, .ref a0), (1, .int x1), (2, .int x2), (3, .int x3), (4, .int x4), (5, .int x5), (7, .int x7)]) (pc' := 191) dX4_looks_189 (Nat.le_of_ble_eq_true rfl) rfl rfl ?_
              refine jj_iload (j := 0) (i := 9) (pc' := 193) dX4_looks_191 rfl rfl ?_
              refine jj_iconst (v := (-1 : Int32)) (pc' := 194) dX4_looks_193 rfl rfl ?_
              refine jj_icmp_eq (tgt := 206) (pc' := 197) dX4_looks_194 rfl rfl (fun hc hF => ?_) (fun hc hF => ?_) hF
              · skip
                refine jj_iinc (i := 7) (j := 8) (v := x7 + (1 : Int32)) (ls' := [(7, .int (x7 + (1 : Int32))), (9, .int x109), (8, .int ((1 : Int32))), (0, .ref a0), (1, .int x1), (2, .int x2), (3, .int x3), (4, .int x4), (5, .int x5)]) (pc' := 209) dX4_looks_206 rfl rfl (Nat.le_of_ble_eq_true rfl) rfl rfl ?_
                refine jj_goto (tgt := 116) dX4_looks_209 rfl ?_
                exact jj_pick [3, 4, 5, 6, 7, 8, 0] rfl (ih a0 x1 x2 x3 x4 x5 (x7 + (1 : Int32)) h108 _ hF)
              · skip
                refine jj_aload_n (j := 2) (i := 0) (pc' := 198) dX4_looks_197 rfl rfl rfl ?_
                refine jj_iconst (v := (4 : Int32)) (pc' := 199) dX4_looks_198 rfl rfl ?_
                refine jj_iload (j := 8) (i := 7) (pc' := 201) dX4_looks_199 rfl rfl ?_
                refine jj_iload (j := 0) (i := 9) (pc' := 203) dX4_looks_201 rfl rfl ?_
                refine jj_cV (N := M_X4_finds) (kc' := 0) (ks' := 0) (pc' := 206) (jg_V (N := M_X4_finds) (ci := 4) (rest := []) (as := [.int ((4 : Int32)), .int x7, .int x109]) cf_X4_72 dX4_looks_203 ⟨rfl, rfl⟩ rfl rfl ⟨Nat.le_of_ble_eq_true rfl, Nat.le_of_ble_eq_true rfl⟩ ⟨Nat.le_of_ble_eq_true rfl, Nat.le_of_ble_eq_true rfl⟩ (Nat.le_of_ble_eq_true rfl) (fun X' hX => KX4_finds hX)) rfl rfl rfl rfl ⟨Nat.le_of_ble_eq_true rfl, Nat.le_of_ble_eq_true rfl⟩ rfl hF (fun h110 hF => ?_)
                refine jj_iinc (i := 7) (j := 8) (v := x7 + (1 : Int32)) (ls' := [(7, .int (x7 + (1 : Int32))), (9, .int x109), (8, .int ((1 : Int32))), (0, .ref a0), (1, .int x1), (2, .int x2), (3, .int x3), (4, .int x4), (5, .int x5)]) (pc' := 209) dX4_looks_206 rfl rfl (Nat.le_of_ble_eq_true rfl) rfl rfl ?_
                refine jj_goto (tgt := 116) dX4_looks_209 rfl ?_
                exact jj_pick [3, 4, 5, 6, 7, 8, 0] rfl (ih a0 x1 x2 x3 x4 x5 (x7 + (1 : Int32)) h110 _ hF)
set_option maxRecDepth 100000 in
set_option maxHeartbeats 4000000 in
theorem BX4_looks_35 (N : Nat) : ∀ (n : Nat) (a0 : Nat) (x1 : Int32) (x2 : Int32) (x3 : Int32) (x4 : Int32) (x5 : Int32) (x6 : Int32) (x7 : Int32) (h : jm_H) (X : jm_X), FX4_looks_35 N n a0 x1 x2 x3 x4 x5 x6 x7 h = some X → jm_J M_X4_looks 35 [(0, .ref a0), (1, .int x1), (2, .int x2), (3, .int x3), (4, .int x4), (5, .int x5), (6, .int x6), (7, .int x7)] [] h 0 0 X := by
  intro n
  induction n with
  | zero =>
    intro a0 x1 x2 x3 x4 x5 x6 x7 h X hF
    exact nomatch (show (none : Option jm_X) = some X from hF)
  | succ n ih =>
    intro a0 x1 x2 x3 x4 x5 x6 x7 h X hF
    rw [FX4_looks_35] at hF
    refine jj_iload (j := 7) (i := 7) (pc' := 37) dX4_looks_35 rfl rfl ?_
    refine jj_aload_n (j := 0) (i := 0) (pc' := 38) dX4_looks_37 rfl rfl rfl ?_
    refine jj_gR (C := RX4) (T := TX4) (N := 15) (ci := 4) (k := 0) (pc' := 41) dX4_looks_38 rfl rfl inX4 (by decide) qw_73 hF (fun r101 hF => ?_)
    refine jj_iconst (v := (1 : Int32)) (pc' := 42) dX4_looks_41 rfl rfl ?_
    refine jj_ldI (pc' := 43) dX4_looks_42 rfl hF (fun x102 hF => ?_)
    refine jj_icmp_ge (tgt := 113) (pc' := 46) dX4_looks_43 rfl rfl (fun hc hF => ?_) (fun hc hF => ?_) hF
    · skip
      refine jj_iconst (v := (0 : Int32)) (pc' := 114) dX4_looks_113 rfl rfl ?_
      refine jj_istore (i := 7) (ls' := [(7, .int ((0 : Int32))), (0, .ref a0), (1, .int x1), (2, .int x2), (3, .int x3), (4, .int x4), (5, .int x5), (6, .int x6)]) (pc' := 116) dX4_looks_114 (Nat.le_of_ble_eq_true rfl) rfl rfl ?_
      exact jj_pick [1, 2, 3, 4, 5, 6, 0] rfl (BX4_looks_116 N N a0 x1 x2 x3 x4 x5 ((0 : Int32)) h _ hF)
    · skip
      refine jj_aload_n (j := 0) (i := 0) (pc' := 47) dX4_looks_46 rfl rfl rfl ?_
      refine jj_gI (C := RX4) (T := TX4) (N := 15) (ci := 4) (k := 8) (pc' := 50) dX4_looks_47 rfl rfl inX4 (by decide) qw_81 hF (fun x103 hF => ?_)
      refine jj_if_ne (tgt := 113) (pc' := 53) dX4_looks_50 rfl rfl (fun hc hF => ?_) (fun hc hF => ?_) hF
      · skip
        refine jj_iconst (v := (0 : Int32)) (pc' := 114) dX4_looks_113 rfl rfl ?_
        refine jj_istore (i := 7) (ls' := [(7, .int ((0 : Int32))), (0, .ref a0), (1, .int x1), (2, .int x2), (3, .int x3), (4, .int x4), (5, .int x5), (6, .int x6)]) (pc' := 116) dX4_looks_114 (Nat.le_of_ble_eq_true rfl) rfl rfl ?_
        exact jj_pick [1, 2, 3, 4, 5, 6, 0] rfl (BX4_looks_116 N N a0 x1 x2 x3 x4 x5 ((0 : Int32)) h _ hF)
      · skip
        refine jj_iload (j := 7) (i := 7) (pc' := 55) dX4_looks_53 rfl rfl ?_
        refine jj_iload (j := 5) (i := 5) (pc' := 57) dX4_looks_55 rfl rfl ?_
        refine jj_icmp_eq (tgt := 107) (pc' := 60) dX4_looks_57 rfl rfl (fun hc hF => ?_) (fun hc hF => ?_) hF
        · skip
          refine jj_iinc (i := 7) (j := 7) (v := x7 + (1 : Int32)) (ls' := [(7, .int (x7 + (1 : Int32))), (0, .ref a0), (1, .int x1), (2, .int x2), (3, .int x3), (4, .int x4), (5, .int x5), (6, .int x6)]) (pc' := 110) dX4_looks_107 rfl rfl (Nat.le_of_ble_eq_true rfl) rfl rfl ?_
          refine jj_goto (tgt := 35) dX4_looks_110 rfl ?_
          exact jj_pick [1, 2, 3, 4, 5, 6, 7, 0] rfl (ih a0 x1 x2 x3 x4 x5 x6 (x7 + (1 : Int32)) h _ hF)
        · skip
          refine jj_aload_n (j := 0) (i := 0) (pc' := 61) dX4_looks_60 rfl rfl rfl ?_
          refine jj_iload (j := 7) (i := 7) (pc' := 63) dX4_looks_61 rfl rfl ?_
          refine jj_iconst (v := (1 : Int32)) (pc' := 64) dX4_looks_63 rfl rfl ?_
          refine jj_cI (N := M_X4_of) (kc' := 0) (ks' := 0) (pc' := 67) (jg_V (N := M_X4_of) (ci := 4) (rest := []) (as := [.int x7, .int ((1 : Int32))]) cf_X4_47 dX4_looks_64 ⟨rfl, rfl⟩ rfl rfl ⟨Nat.le_of_ble_eq_true rfl, Nat.le_of_ble_eq_true rfl⟩ ⟨Nat.le_of_ble_eq_true rfl, Nat.le_of_ble_eq_true rfl⟩ (Nat.le_of_ble_eq_true rfl) (fun X' hX => KX4_of hX)) rfl rfl rfl rfl ⟨Nat.le_of_ble_eq_true rfl, Nat.le_of_ble_eq_true rfl⟩ rfl hF (fun x105 h104 hF => ?_)
          refine jj_iload_n (j := 2) (i := 2) (pc' := 68) dX4_looks_67 rfl rfl rfl ?_
          refine jj_icmp_ne (tgt := 107) (pc' := 71) dX4_looks_68 rfl rfl (fun hc hF => ?_) (fun hc hF => ?_) hF
          · skip
            refine jj_iinc (i := 7) (j := 7) (v := x7 + (1 : Int32)) (ls' := [(7, .int (x7 + (1 : Int32))), (0, .ref a0), (1, .int x1), (2, .int x2), (3, .int x3), (4, .int x4), (5, .int x5), (6, .int x6)]) (pc' := 110) dX4_looks_107 rfl rfl (Nat.le_of_ble_eq_true rfl) rfl rfl ?_
            refine jj_goto (tgt := 35) dX4_looks_110 rfl ?_
            exact jj_pick [1, 2, 3, 4, 5, 6, 7, 0] rfl (ih a0 x1 x2 x3 x4 x5 x6 (x7 + (1 : Int32)) h104 _ hF)
          · skip
            refine jj_iload_n (j := 3) (i := 3) (pc' := 72) dX4_looks_71 rfl rfl rfl ?_
            refine jj_iload (j := 6) (i := 6) (pc' := 74) dX4_looks_72 rfl rfl ?_
            refine jj_aload_n (j := 0) (i := 0) (pc' := 75) dX4_looks_74 rfl rfl rfl ?_
            refine jj_iload (j := 7) (i := 7) (pc' := 77) dX4_looks_75 rfl rfl ?_
            refine jj_iconst (v := (2 : Int32)) (pc' := 78) dX4_looks_77 rfl rfl ?_
            refine jj_cI (N := M_X4_of) (kc' := 0) (ks' := 0) (pc' := 81) (jg_V (N := M_X4_of) (ci := 4) (rest := [.int x6, .int x3]) (as := [.int x7, .int ((2 : Int32))]) cf_X4_47 dX4_looks_78 ⟨rfl, rfl⟩ rfl rfl ⟨Nat.le_of_ble_eq_true rfl, Nat.le_of_ble_eq_true rfl⟩ ⟨Nat.le_of_ble_eq_true rfl, Nat.le_of_ble_eq_true rfl⟩ (Nat.le_of_ble_eq_true rfl) (fun X' hX => KX4_of hX)) rfl rfl rfl rfl ⟨Nat.le_of_ble_eq_true rfl, Nat.le_of_ble_eq_true rfl⟩ rfl hF (fun x107 h106 hF => ?_)
            refine jj_aload_n (j := 0) (i := 0) (pc' := 82) dX4_looks_81 rfl rfl rfl ?_
            refine jj_iload (j := 7) (i := 7) (pc' := 84) dX4_looks_82 rfl rfl ?_
            refine jj_cI (N := M_X4_end) (kc' := 0) (ks' := 0) (pc' := 87) (jg_V (N := M_X4_end) (ci := 4) (rest := [.int x107, .int x6, .int x3]) (as := [.int x7]) cf_X4_75 dX4_looks_84 ⟨rfl, rfl⟩ rfl rfl ⟨Nat.le_of_ble_eq_true rfl, Nat.le_of_ble_eq_true rfl⟩ ⟨Nat.le_of_ble_eq_true rfl, Nat.le_of_ble_eq_true rfl⟩ (Nat.le_of_ble_eq_true rfl) (fun X' hX => KX4_end hX)) rfl rfl rfl rfl ⟨Nat.le_of_ble_eq_true rfl, Nat.le_of_ble_eq_true rfl⟩ rfl hF (fun x109 h108 hF => ?_)
            refine jj_aload_n (j := 0) (i := 0) (pc' := 88) dX4_looks_87 rfl rfl rfl ?_
            refine jj_gR (C := RX4) (T := TX4) (N := 15) (ci := 4) (k := 0) (pc' := 91) dX4_looks_88 rfl rfl inX4 (by decide) qw_73 hF (fun r110 hF => ?_)
            refine jj_iconst (v := (4 : Int32)) (pc' := 92) dX4_looks_91 rfl rfl ?_
            refine jj_ldI (pc' := 93) dX4_looks_92 rfl hF (fun x111 hF => ?_)
            refine jj_cI (N := M_X4_isNear) (kc' := 0) (ks' := 0) (pc' := 96) (jg_S (N := M_X4_isNear) (rest := []) (as := [.int x3, .int x6, .int x107, .int x109, .int x111]) cf_X4_68 rfl dX4_looks_93 rfl rfl ⟨Nat.le_of_ble_eq_true rfl, Nat.le_of_ble_eq_true rfl⟩ ⟨Nat.le_of_ble_eq_true rfl, Nat.le_of_ble_eq_true rfl⟩ (Nat.le_of_ble_eq_true rfl) (fun X' hX => KX4_isNear hX)) rfl rfl rfl rfl ⟨Nat.le_of_ble_eq_true rfl, Nat.le_of_ble_eq_true rfl⟩ rfl hF (fun x113 h112 hF => ?_)
            refine jj_if_eq (tgt := 107) (pc' := 99) dX4_looks_96 rfl rfl (fun hc hF => ?_) (fun hc hF => ?_) hF
            · skip
              refine jj_iinc (i := 7) (j := 7) (v := x7 + (1 : Int32)) (ls' := [(7, .int (x7 + (1 : Int32))), (0, .ref a0), (1, .int x1), (2, .int x2), (3, .int x3), (4, .int x4), (5, .int x5), (6, .int x6)]) (pc' := 110) dX4_looks_107 rfl rfl (Nat.le_of_ble_eq_true rfl) rfl rfl ?_
              refine jj_goto (tgt := 35) dX4_looks_110 rfl ?_
              exact jj_pick [1, 2, 3, 4, 5, 6, 7, 0] rfl (ih a0 x1 x2 x3 x4 x5 x6 (x7 + (1 : Int32)) h112 _ hF)
            · skip
              refine jj_aload_n (j := 0) (i := 0) (pc' := 100) dX4_looks_99 rfl rfl rfl ?_
              refine jj_iconst (v := (3 : Int32)) (pc' := 101) dX4_looks_100 rfl rfl ?_
              refine jj_iload (j := 7) (i := 7) (pc' := 103) dX4_looks_101 rfl rfl ?_
              refine jj_iconst (v := (-1 : Int32)) (pc' := 104) dX4_looks_103 rfl rfl ?_
              refine jj_cV (N := M_X4_finds) (kc' := 0) (ks' := 0) (pc' := 107) (jg_V (N := M_X4_finds) (ci := 4) (rest := []) (as := [.int ((3 : Int32)), .int x7, .int ((-1 : Int32))]) cf_X4_72 dX4_looks_104 ⟨rfl, rfl⟩ rfl rfl ⟨Nat.le_of_ble_eq_true rfl, Nat.le_of_ble_eq_true rfl⟩ ⟨Nat.le_of_ble_eq_true rfl, Nat.le_of_ble_eq_true rfl⟩ (Nat.le_of_ble_eq_true rfl) (fun X' hX => KX4_finds hX)) rfl rfl rfl rfl ⟨Nat.le_of_ble_eq_true rfl, Nat.le_of_ble_eq_true rfl⟩ rfl hF (fun h114 hF => ?_)
              refine jj_iinc (i := 7) (j := 7) (v := x7 + (1 : Int32)) (ls' := [(7, .int (x7 + (1 : Int32))), (0, .ref a0), (1, .int x1), (2, .int x2), (3, .int x3), (4, .int x4), (5, .int x5), (6, .int x6)]) (pc' := 110) dX4_looks_107 rfl rfl (Nat.le_of_ble_eq_true rfl) rfl rfl ?_
              refine jj_goto (tgt := 35) dX4_looks_110 rfl ?_
              exact jj_pick [1, 2, 3, 4, 5, 6, 7, 0] rfl (ih a0 x1 x2 x3 x4 x5 x6 (x7 + (1 : Int32)) h114 _ hF)
set_option maxRecDepth 100000 in
set_option maxHeartbeats 4000000 in
theorem JX4_looks {N : Nat} {a0 : Nat} {x1 : Int32} {x2 : Int32} {x3 : Int32} {x4 : Int32} {x5 : Int32} {h : jm_H} {X : jm_X} (hF : FX4_looks N a0 x1 x2 x3 x4 x5 h = some X) : jm_J M_X4_looks 0 [(0, .ref a0), (1, .int x1), (2, .int x2), (3, .int x3), (4, .int x4), (5, .int x5)] [] h 0 0 X := by
  unfold FX4_looks at hF
  refine jj_aload_n (j := 0) (i := 0) (pc' := 1) dX4_looks_0 rfl rfl rfl ?_
  refine jj_iload_n (j := 1) (i := 1) (pc' := 2) dX4_looks_1 rfl rfl rfl ?_
  refine jj_iload_n (j := 3) (i := 3) (pc' := 3) dX4_looks_2 rfl rfl rfl ?_
  refine jj_iload (j := 4) (i := 4) (pc' := 5) dX4_looks_3 rfl rfl ?_
  refine jj_cI (N := M_X4_ends) (kc' := 0) (ks' := 0) (pc' := 8) (jg_V (N := M_X4_ends) (ci := 4) (rest := []) (as := [.int x1, .int x3, .int x4]) cf_X4_51 dX4_looks_5 ⟨rfl, rfl⟩ rfl rfl ⟨Nat.le_of_ble_eq_true rfl, Nat.le_of_ble_eq_true rfl⟩ ⟨Nat.le_of_ble_eq_true rfl, Nat.le_of_ble_eq_true rfl⟩ (Nat.le_of_ble_eq_true rfl) (fun X' hX => KX4_ends hX)) rfl rfl rfl rfl ⟨Nat.le_of_ble_eq_true rfl, Nat.le_of_ble_eq_true rfl⟩ rfl hF (fun x102 h101 hF => ?_)
  refine jj_istore (i := 6) (ls' := [(6, .int x102), (0, .ref a0), (1, .int x1), (2, .int x2), (3, .int x3), (4, .int x4), (5, .int x5)]) (pc' := 10) dX4_looks_8 (Nat.le_of_ble_eq_true rfl) rfl rfl ?_
  refine jj_aload_n (j := 1) (i := 0) (pc' := 11) dX4_looks_10 rfl rfl rfl ?_
  refine jj_iconst (v := (0 : Int32)) (pc' := 12) dX4_looks_11 rfl rfl ?_
  refine jj_iconst (v := (-1 : Int32)) (pc' := 13) dX4_looks_12 rfl rfl ?_
  refine jj_iconst (v := (-1 : Int32)) (pc' := 14) dX4_looks_13 rfl rfl ?_
  refine jj_cV (N := M_X4_finds) (kc' := 0) (ks' := 0) (pc' := 17) (jg_V (N := M_X4_finds) (ci := 4) (rest := []) (as := [.int ((0 : Int32)), .int ((-1 : Int32)), .int ((-1 : Int32))]) cf_X4_72 dX4_looks_14 ⟨rfl, rfl⟩ rfl rfl ⟨Nat.le_of_ble_eq_true rfl, Nat.le_of_ble_eq_true rfl⟩ ⟨Nat.le_of_ble_eq_true rfl, Nat.le_of_ble_eq_true rfl⟩ (Nat.le_of_ble_eq_true rfl) (fun X' hX => KX4_finds hX)) rfl rfl rfl rfl ⟨Nat.le_of_ble_eq_true rfl, Nat.le_of_ble_eq_true rfl⟩ rfl hF (fun h103 hF => ?_)
  refine jj_iload (j := 0) (i := 6) (pc' := 19) dX4_looks_17 rfl rfl ?_
  refine jj_sipush (v := (2000 : Int32)) (pc' := 22) dX4_looks_19 rfl rfl ?_
  refine jj_icmp_le (tgt := 32) (pc' := 25) dX4_looks_22 rfl rfl (fun hc hF => ?_) (fun hc hF => ?_) hF
  · skip
    refine jj_iconst (v := (0 : Int32)) (pc' := 33) dX4_looks_32 rfl rfl ?_
    refine jj_istore (i := 7) (ls' := [(7, .int ((0 : Int32))), (6, .int x102), (0, .ref a0), (1, .int x1), (2, .int x2), (3, .int x3), (4, .int x4), (5, .int x5)]) (pc' := 35) dX4_looks_33 (Nat.le_of_ble_eq_true rfl) rfl rfl ?_
    exact jj_pick [2, 3, 4, 5, 6, 7, 1, 0] rfl (BX4_looks_35 N N a0 x1 x2 x3 x4 x5 x102 ((0 : Int32)) h103 _ hF)
  · skip
    refine jj_aload_n (j := 1) (i := 0) (pc' := 26) dX4_looks_25 rfl rfl rfl ?_
    refine jj_iconst (v := (2 : Int32)) (pc' := 27) dX4_looks_26 rfl rfl ?_
    refine jj_iconst (v := (-1 : Int32)) (pc' := 28) dX4_looks_27 rfl rfl ?_
    refine jj_iconst (v := (-1 : Int32)) (pc' := 29) dX4_looks_28 rfl rfl ?_
    refine jj_cV (N := M_X4_finds) (kc' := 0) (ks' := 0) (pc' := 32) (jg_V (N := M_X4_finds) (ci := 4) (rest := []) (as := [.int ((2 : Int32)), .int ((-1 : Int32)), .int ((-1 : Int32))]) cf_X4_72 dX4_looks_29 ⟨rfl, rfl⟩ rfl rfl ⟨Nat.le_of_ble_eq_true rfl, Nat.le_of_ble_eq_true rfl⟩ ⟨Nat.le_of_ble_eq_true rfl, Nat.le_of_ble_eq_true rfl⟩ (Nat.le_of_ble_eq_true rfl) (fun X' hX => KX4_finds hX)) rfl rfl rfl rfl ⟨Nat.le_of_ble_eq_true rfl, Nat.le_of_ble_eq_true rfl⟩ rfl hF (fun h104 hF => ?_)
    refine jj_iconst (v := (0 : Int32)) (pc' := 33) dX4_looks_32 rfl rfl ?_
    refine jj_istore (i := 7) (ls' := [(7, .int ((0 : Int32))), (6, .int x102), (0, .ref a0), (1, .int x1), (2, .int x2), (3, .int x3), (4, .int x4), (5, .int x5)]) (pc' := 35) dX4_looks_33 (Nat.le_of_ble_eq_true rfl) rfl rfl ?_
    exact jj_pick [2, 3, 4, 5, 6, 7, 1, 0] rfl (BX4_looks_35 N N a0 x1 x2 x3 x4 x5 x102 ((0 : Int32)) h104 _ hF)
theorem KX4_looks {N : Nat} {a0 : Nat} {x1 : Int32} {x2 : Int32} {x3 : Int32} {x4 : Int32} {x5 : Int32} {h : jm_H} {X : jm_X} (hF : FX4_looks N a0 x1 x2 x3 x4 x5 h = some X) : jm_K M_X4_looks [.ref a0, .int x1, .int x2, .int x3, .int x4, .int x5] h X := jk_of rfl (by decide +kernel) rfl rfl (Nat.le_of_ble_eq_true rfl) (JX4_looks hF)
set_option maxRecDepth 100000 in
set_option maxHeartbeats 4000000 in
theorem JX4_reason {N : Nat} {a0 : Nat} {x1 : Int32} {x2 : Int32} {x3 : Int32} {x4 : Int32} {h : jm_H} {X : jm_X} (hF : FX4_reason N a0 x1 x2 x3 x4 h = some X) : jm_J M_X4_reason 0 [(0, .ref a0), (1, .int x1), (2, .int x2), (3, .int x3), (4, .int x4)] [] h 0 0 X := by
  unfold FX4_reason at hF
  refine jj_aload_n (j := 0) (i := 0) (pc' := 1) dX4_reason_0 rfl rfl rfl ?_
  refine jj_iload_n (j := 1) (i := 1) (pc' := 2) dX4_reason_1 rfl rfl rfl ?_
  refine jj_iload_n (j := 2) (i := 2) (pc' := 3) dX4_reason_2 rfl rfl rfl ?_
  refine jj_iload_n (j := 3) (i := 3) (pc' := 4) dX4_reason_3 rfl rfl rfl ?_
  refine jj_iload (j := 4) (i := 4) (pc' := 6) dX4_reason_4 rfl rfl ?_
  refine jj_iconst (v := (-1 : Int32)) (pc' := 7) dX4_reason_6 rfl rfl ?_
  refine jj_cV (N := M_X4_looks) (kc' := 0) (ks' := 0) (pc' := 10) (jg_V (N := M_X4_looks) (ci := 4) (rest := []) (as := [.int x1, .int x2, .int x3, .int x4, .int ((-1 : Int32))]) cf_X4_81 dX4_reason_7 ⟨rfl, rfl⟩ rfl rfl ⟨Nat.le_of_ble_eq_true rfl, Nat.le_of_ble_eq_true rfl⟩ ⟨Nat.le_of_ble_eq_true rfl, Nat.le_of_ble_eq_true rfl⟩ (Nat.le_of_ble_eq_true rfl) (fun X' hX => KX4_looks hX)) rfl rfl rfl rfl ⟨Nat.le_of_ble_eq_true rfl, Nat.le_of_ble_eq_true rfl⟩ rfl hF (fun h101 hF => ?_)
  refine jj_aload_n (j := 0) (i := 0) (pc' := 11) dX4_reason_10 rfl rfl rfl ?_
  refine jj_gR (C := RX4) (T := TX4) (N := 15) (ci := 4) (k := 0) (pc' := 14) dX4_reason_11 rfl rfl inX4 (by decide) qw_73 hF (fun r102 hF => ?_)
  refine jj_iconst (v := (1 : Int32)) (pc' := 15) dX4_reason_14 rfl rfl ?_
  refine jj_ldI (pc' := 16) dX4_reason_15 rfl hF (fun x103 hF => ?_)
  refine jj_bipush (v := (12 : Int32)) (pc' := 18) dX4_reason_16 rfl rfl ?_
  refine jj_icmp_ne (tgt := 28) (pc' := 21) dX4_reason_18 rfl rfl (fun hc hF => ?_) (fun hc hF => ?_) hF
  · skip
    refine jj_aload_n (j := 0) (i := 0) (pc' := 29) dX4_reason_28 rfl rfl rfl ?_
    refine jj_gI (C := RX4) (T := TX4) (N := 15) (ci := 4) (k := 8) (pc' := 32) dX4_reason_29 rfl rfl inX4 (by decide) qw_81 hF (fun x104 hF => ?_)
    exact jj_retI (ty := .int) rfl rfl dX4_reason_32 ⟨Nat.le_of_ble_eq_true rfl, Nat.le_of_ble_eq_true rfl⟩ hF
  · skip
    refine jj_aload_n (j := 0) (i := 0) (pc' := 22) dX4_reason_21 rfl rfl rfl ?_
    refine jj_iconst (v := (1 : Int32)) (pc' := 23) dX4_reason_22 rfl rfl ?_
    refine jj_iconst (v := (-1 : Int32)) (pc' := 24) dX4_reason_23 rfl rfl ?_
    refine jj_iconst (v := (-1 : Int32)) (pc' := 25) dX4_reason_24 rfl rfl ?_
    refine jj_cV (N := M_X4_finds) (kc' := 0) (ks' := 0) (pc' := 28) (jg_V (N := M_X4_finds) (ci := 4) (rest := []) (as := [.int ((1 : Int32)), .int ((-1 : Int32)), .int ((-1 : Int32))]) cf_X4_72 dX4_reason_25 ⟨rfl, rfl⟩ rfl rfl ⟨Nat.le_of_ble_eq_true rfl, Nat.le_of_ble_eq_true rfl⟩ ⟨Nat.le_of_ble_eq_true rfl, Nat.le_of_ble_eq_true rfl⟩ (Nat.le_of_ble_eq_true rfl) (fun X' hX => KX4_finds hX)) rfl rfl rfl rfl ⟨Nat.le_of_ble_eq_true rfl, Nat.le_of_ble_eq_true rfl⟩ rfl hF (fun h105 hF => ?_)
    refine jj_aload_n (j := 0) (i := 0) (pc' := 29) dX4_reason_28 rfl rfl rfl ?_
    refine jj_gI (C := RX4) (T := TX4) (N := 15) (ci := 4) (k := 8) (pc' := 32) dX4_reason_29 rfl rfl inX4 (by decide) qw_81 hF (fun x106 hF => ?_)
    exact jj_retI (ty := .int) rfl rfl dX4_reason_32 ⟨Nat.le_of_ble_eq_true rfl, Nat.le_of_ble_eq_true rfl⟩ hF
theorem KX4_reason {N : Nat} {a0 : Nat} {x1 : Int32} {x2 : Int32} {x3 : Int32} {x4 : Int32} {h : jm_H} {X : jm_X} (hF : FX4_reason N a0 x1 x2 x3 x4 h = some X) : jm_K M_X4_reason [.ref a0, .int x1, .int x2, .int x3, .int x4] h X := jk_of rfl (by decide +kernel) rfl rfl (Nat.le_of_ble_eq_true rfl) (JX4_reason hF)
set_option maxRecDepth 100000 in
set_option maxHeartbeats 4000000 in
theorem JX4_makes {a0 : Nat} {x1 : Int32} {x2 : Int32} {x3 : Int32} {x4 : Int32} {h : jm_H} {X : jm_X} (hF : FX4_makes a0 x1 x2 x3 x4 h = some X) : jm_J M_X4_makes 0 [(0, .ref a0), (1, .int x1), (2, .int x2), (3, .int x3), (4, .int x4)] [] h 0 0 X := by
  unfold FX4_makes at hF
  refine jj_aload_n (j := 0) (i := 0) (pc' := 1) dX4_makes_0 rfl rfl rfl ?_
  refine jj_gR (C := RX4) (T := TX4) (N := 15) (ci := 4) (k := 0) (pc' := 4) dX4_makes_1 rfl rfl inX4 (by decide) qw_73 hF (fun r101 hF => ?_)
  refine jj_iconst (v := (1 : Int32)) (pc' := 5) dX4_makes_4 rfl rfl ?_
  refine jj_ldI (pc' := 6) dX4_makes_5 rfl hF (fun x102 hF => ?_)
  refine jj_istore (i := 5) (ls' := [(5, .int x102), (0, .ref a0), (1, .int x1), (2, .int x2), (3, .int x3), (4, .int x4)]) (pc' := 8) dX4_makes_6 (Nat.le_of_ble_eq_true rfl) rfl rfl ?_
  refine jj_aload_n (j := 1) (i := 0) (pc' := 9) dX4_makes_8 rfl rfl rfl ?_
  refine jj_iload (j := 0) (i := 5) (pc' := 11) dX4_makes_9 rfl rfl ?_
  refine jj_iconst (v := (0 : Int32)) (pc' := 12) dX4_makes_11 rfl rfl ?_
  refine jj_iload_n (j := 2) (i := 1) (pc' := 13) dX4_makes_12 rfl rfl rfl ?_
  refine jj_cV (N := M_X4_becomes) (kc' := 0) (ks' := 0) (pc' := 16) (jg_V (N := M_X4_becomes) (ci := 4) (rest := []) (as := [.int x102, .int ((0 : Int32)), .int x1]) cf_X4_85 dX4_makes_13 ⟨rfl, rfl⟩ rfl rfl ⟨Nat.le_of_ble_eq_true rfl, Nat.le_of_ble_eq_true rfl⟩ ⟨Nat.le_of_ble_eq_true rfl, Nat.le_of_ble_eq_true rfl⟩ (Nat.le_of_ble_eq_true rfl) (fun X' hX => KX4_becomes hX)) rfl rfl rfl rfl ⟨Nat.le_of_ble_eq_true rfl, Nat.le_of_ble_eq_true rfl⟩ rfl hF (fun h103 hF => ?_)
  refine jj_aload_n (j := 1) (i := 0) (pc' := 17) dX4_makes_16 rfl rfl rfl ?_
  refine jj_iload (j := 0) (i := 5) (pc' := 19) dX4_makes_17 rfl rfl ?_
  refine jj_iconst (v := (1 : Int32)) (pc' := 20) dX4_makes_19 rfl rfl ?_
  refine jj_iload_n (j := 3) (i := 2) (pc' := 21) dX4_makes_20 rfl rfl rfl ?_
  refine jj_cV (N := M_X4_becomes) (kc' := 0) (ks' := 0) (pc' := 24) (jg_V (N := M_X4_becomes) (ci := 4) (rest := []) (as := [.int x102, .int ((1 : Int32)), .int x2]) cf_X4_85 dX4_makes_21 ⟨rfl, rfl⟩ rfl rfl ⟨Nat.le_of_ble_eq_true rfl, Nat.le_of_ble_eq_true rfl⟩ ⟨Nat.le_of_ble_eq_true rfl, Nat.le_of_ble_eq_true rfl⟩ (Nat.le_of_ble_eq_true rfl) (fun X' hX => KX4_becomes hX)) rfl rfl rfl rfl ⟨Nat.le_of_ble_eq_true rfl, Nat.le_of_ble_eq_true rfl⟩ rfl hF (fun h104 hF => ?_)
  refine jj_aload_n (j := 1) (i := 0) (pc' := 25) dX4_makes_24 rfl rfl rfl ?_
  refine jj_iload (j := 0) (i := 5) (pc' := 27) dX4_makes_25 rfl rfl ?_
  refine jj_iconst (v := (2 : Int32)) (pc' := 28) dX4_makes_27 rfl rfl ?_
  refine jj_iload_n (j := 4) (i := 3) (pc' := 29) dX4_makes_28 rfl rfl rfl ?_
  refine jj_cV (N := M_X4_becomes) (kc' := 0) (ks' := 0) (pc' := 32) (jg_V (N := M_X4_becomes) (ci := 4) (rest := []) (as := [.int x102, .int ((2 : Int32)), .int x3]) cf_X4_85 dX4_makes_29 ⟨rfl, rfl⟩ rfl rfl ⟨Nat.le_of_ble_eq_true rfl, Nat.le_of_ble_eq_true rfl⟩ ⟨Nat.le_of_ble_eq_true rfl, Nat.le_of_ble_eq_true rfl⟩ (Nat.le_of_ble_eq_true rfl) (fun X' hX => KX4_becomes hX)) rfl rfl rfl rfl ⟨Nat.le_of_ble_eq_true rfl, Nat.le_of_ble_eq_true rfl⟩ rfl hF (fun h105 hF => ?_)
  refine jj_aload_n (j := 1) (i := 0) (pc' := 33) dX4_makes_32 rfl rfl rfl ?_
  refine jj_iload (j := 0) (i := 5) (pc' := 35) dX4_makes_33 rfl rfl ?_
  refine jj_iconst (v := (3 : Int32)) (pc' := 36) dX4_makes_35 rfl rfl ?_
  refine jj_iload (j := 5) (i := 4) (pc' := 38) dX4_makes_36 rfl rfl ?_
  refine jj_cV (N := M_X4_becomes) (kc' := 0) (ks' := 0) (pc' := 41) (jg_V (N := M_X4_becomes) (ci := 4) (rest := []) (as := [.int x102, .int ((3 : Int32)), .int x4]) cf_X4_85 dX4_makes_38 ⟨rfl, rfl⟩ rfl rfl ⟨Nat.le_of_ble_eq_true rfl, Nat.le_of_ble_eq_true rfl⟩ ⟨Nat.le_of_ble_eq_true rfl, Nat.le_of_ble_eq_true rfl⟩ (Nat.le_of_ble_eq_true rfl) (fun X' hX => KX4_becomes hX)) rfl rfl rfl rfl ⟨Nat.le_of_ble_eq_true rfl, Nat.le_of_ble_eq_true rfl⟩ rfl hF (fun h106 hF => ?_)
  refine jj_aload_n (j := 1) (i := 0) (pc' := 42) dX4_makes_41 rfl rfl rfl ?_
  refine jj_iload (j := 0) (i := 5) (pc' := 44) dX4_makes_42 rfl rfl ?_
  refine jj_iconst (v := (4 : Int32)) (pc' := 45) dX4_makes_44 rfl rfl ?_
  refine jj_iconst (v := (0 : Int32)) (pc' := 46) dX4_makes_45 rfl rfl ?_
  refine jj_cV (N := M_X4_becomes) (kc' := 0) (ks' := 0) (pc' := 49) (jg_V (N := M_X4_becomes) (ci := 4) (rest := []) (as := [.int x102, .int ((4 : Int32)), .int ((0 : Int32))]) cf_X4_85 dX4_makes_46 ⟨rfl, rfl⟩ rfl rfl ⟨Nat.le_of_ble_eq_true rfl, Nat.le_of_ble_eq_true rfl⟩ ⟨Nat.le_of_ble_eq_true rfl, Nat.le_of_ble_eq_true rfl⟩ (Nat.le_of_ble_eq_true rfl) (fun X' hX => KX4_becomes hX)) rfl rfl rfl rfl ⟨Nat.le_of_ble_eq_true rfl, Nat.le_of_ble_eq_true rfl⟩ rfl hF (fun h107 hF => ?_)
  refine jj_aload_n (j := 1) (i := 0) (pc' := 50) dX4_makes_49 rfl rfl rfl ?_
  refine jj_gR (C := RX4) (T := TX4) (N := 15) (ci := 4) (k := 0) (pc' := 53) dX4_makes_50 rfl rfl inX4 (by decide) qw_73 hF (fun r108 hF => ?_)
  refine jj_iconst (v := (1 : Int32)) (pc' := 54) dX4_makes_53 rfl rfl ?_
  refine jj_dup2 (pc' := 55) dX4_makes_54 rfl rfl rfl ?_
  refine jj_ldI (pc' := 56) dX4_makes_55 rfl hF (fun x109 hF => ?_)
  refine jj_iconst (v := (1 : Int32)) (pc' := 57) dX4_makes_56 rfl rfl ?_
  refine jj_iadd (pc' := 58) dX4_makes_57 rfl ?_
  refine jj_stI (pc' := 59) dX4_makes_58 rfl hF (fun h110 hF => ?_)
  exact jj_retV rfl dX4_makes_59 ⟨Nat.le_of_ble_eq_true rfl, Nat.le_of_ble_eq_true rfl⟩ hF
theorem KX4_makes {a0 : Nat} {x1 : Int32} {x2 : Int32} {x3 : Int32} {x4 : Int32} {h : jm_H} {X : jm_X} (hF : FX4_makes a0 x1 x2 x3 x4 h = some X) : jm_K M_X4_makes [.ref a0, .int x1, .int x2, .int x3, .int x4] h X := jk_of rfl (by decide +kernel) rfl rfl (Nat.le_of_ble_eq_true rfl) (JX4_makes hF)
set_option maxRecDepth 100000 in
set_option maxHeartbeats 4000000 in
theorem JX4_isFilm {a0 : Nat} {x1 : Int32} {h : jm_H} {X : jm_X} (hF : FX4_isFilm a0 x1 h = some X) : jm_J M_X4_isFilm 0 [(0, .ref a0), (1, .int x1)] [] h 0 0 X := by
  unfold FX4_isFilm at hF
  refine jj_iload_n (j := 1) (i := 1) (pc' := 1) dX4_isFilm_0 rfl rfl rfl ?_
  refine jj_iconst (v := (0 : Int32)) (pc' := 2) dX4_isFilm_1 rfl rfl ?_
  refine jj_aload_n (j := 0) (i := 0) (pc' := 3) dX4_isFilm_2 rfl rfl rfl ?_
  refine jj_gR (C := RX4) (T := TX4) (N := 15) (ci := 4) (k := 0) (pc' := 6) dX4_isFilm_3 rfl rfl inX4 (by decide) qw_73 hF (fun r101 hF => ?_)
  refine jj_iconst (v := (0 : Int32)) (pc' := 7) dX4_isFilm_6 rfl rfl ?_
  refine jj_ldI (pc' := 8) dX4_isFilm_7 rfl hF (fun x102 hF => ?_)
  refine jj_iconst (v := (1 : Int32)) (pc' := 9) dX4_isFilm_8 rfl rfl ?_
  refine jj_isub (pc' := 10) dX4_isFilm_9 rfl ?_
  refine jj_cI (N := M_X4_in) (kc' := 0) (ks' := 0) (pc' := 13) (jg_S (N := M_X4_in) (rest := []) (as := [.int x1, .int ((0 : Int32)), .int (x102 - ((1 : Int32)))]) cf_X4_88 rfl dX4_isFilm_10 rfl rfl ⟨Nat.le_of_ble_eq_true rfl, Nat.le_of_ble_eq_true rfl⟩ ⟨Nat.le_of_ble_eq_true rfl, Nat.le_of_ble_eq_true rfl⟩ (Nat.le_of_ble_eq_true rfl) (fun X' hX => KX4_in hX)) rfl rfl rfl rfl ⟨Nat.le_of_ble_eq_true rfl, Nat.le_of_ble_eq_true rfl⟩ rfl hF (fun x104 h103 hF => ?_)
  exact jj_retZ rfl dX4_isFilm_13 ⟨Nat.le_of_ble_eq_true rfl, Nat.le_of_ble_eq_true rfl⟩ hF
theorem KX4_isFilm {a0 : Nat} {x1 : Int32} {h : jm_H} {X : jm_X} (hF : FX4_isFilm a0 x1 h = some X) : jm_K M_X4_isFilm [.ref a0, .int x1] h X := jk_of rfl (by decide +kernel) rfl rfl (Nat.le_of_ble_eq_true rfl) (JX4_isFilm hF)
set_option maxRecDepth 100000 in
set_option maxHeartbeats 4000000 in
theorem JX4_isScreen {x0 : Int32} {h : jm_H} {X : jm_X} (hF : FX4_isScreen x0 h = some X) : jm_J M_X4_isScreen 0 [(0, .int x0)] [] h 0 0 X := by
  unfold FX4_isScreen at hF
  refine jj_iload_n (j := 0) (i := 0) (pc' := 1) dX4_isScreen_0 rfl rfl rfl ?_
  refine jj_iconst (v := (0 : Int32)) (pc' := 2) dX4_isScreen_1 rfl rfl ?_
  refine jj_iconst (v := (2 : Int32)) (pc' := 3) dX4_isScreen_2 rfl rfl ?_
  refine jj_cI (N := M_X4_in) (kc' := 0) (ks' := 0) (pc' := 6) (jg_S (N := M_X4_in) (rest := []) (as := [.int x0, .int ((0 : Int32)), .int ((2 : Int32))]) cf_X4_88 rfl dX4_isScreen_3 rfl rfl ⟨Nat.le_of_ble_eq_true rfl, Nat.le_of_ble_eq_true rfl⟩ ⟨Nat.le_of_ble_eq_true rfl, Nat.le_of_ble_eq_true rfl⟩ (Nat.le_of_ble_eq_true rfl) (fun X' hX => KX4_in hX)) rfl rfl rfl rfl ⟨Nat.le_of_ble_eq_true rfl, Nat.le_of_ble_eq_true rfl⟩ rfl hF (fun x102 h101 hF => ?_)
  exact jj_retZ rfl dX4_isScreen_6 ⟨Nat.le_of_ble_eq_true rfl, Nat.le_of_ble_eq_true rfl⟩ hF
theorem KX4_isScreen {x0 : Int32} {h : jm_H} {X : jm_X} (hF : FX4_isScreen x0 h = some X) : jm_K M_X4_isScreen [.int x0] h X := jk_of rfl (by decide +kernel) rfl rfl (Nat.le_of_ble_eq_true rfl) (JX4_isScreen hF)
set_option maxRecDepth 100000 in
set_option maxHeartbeats 4000000 in
theorem JX4_isShowing {a0 : Nat} {x1 : Int32} {h : jm_H} {X : jm_X} (hF : FX4_isShowing a0 x1 h = some X) : jm_J M_X4_isShowing 0 [(0, .ref a0), (1, .int x1)] [] h 0 0 X := by
  unfold FX4_isShowing at hF
  refine jj_iload_n (j := 1) (i := 1) (pc' := 1) dX4_isShowing_0 rfl rfl rfl ?_
  refine jj_iconst (v := (0 : Int32)) (pc' := 2) dX4_isShowing_1 rfl rfl ?_
  refine jj_aload_n (j := 0) (i := 0) (pc' := 3) dX4_isShowing_2 rfl rfl rfl ?_
  refine jj_gR (C := RX4) (T := TX4) (N := 15) (ci := 4) (k := 0) (pc' := 6) dX4_isShowing_3 rfl rfl inX4 (by decide) qw_73 hF (fun r101 hF => ?_)
  refine jj_iconst (v := (1 : Int32)) (pc' := 7) dX4_isShowing_6 rfl rfl ?_
  refine jj_ldI (pc' := 8) dX4_isShowing_7 rfl hF (fun x102 hF => ?_)
  refine jj_iconst (v := (1 : Int32)) (pc' := 9) dX4_isShowing_8 rfl rfl ?_
  refine jj_isub (pc' := 10) dX4_isShowing_9 rfl ?_
  refine jj_cI (N := M_X4_in) (kc' := 0) (ks' := 0) (pc' := 13) (jg_S (N := M_X4_in) (rest := []) (as := [.int x1, .int ((0 : Int32)), .int (x102 - ((1 : Int32)))]) cf_X4_88 rfl dX4_isShowing_10 rfl rfl ⟨Nat.le_of_ble_eq_true rfl, Nat.le_of_ble_eq_true rfl⟩ ⟨Nat.le_of_ble_eq_true rfl, Nat.le_of_ble_eq_true rfl⟩ (Nat.le_of_ble_eq_true rfl) (fun X' hX => KX4_in hX)) rfl rfl rfl rfl ⟨Nat.le_of_ble_eq_true rfl, Nat.le_of_ble_eq_true rfl⟩ rfl hF (fun x104 h103 hF => ?_)
  exact jj_retZ rfl dX4_isShowing_13 ⟨Nat.le_of_ble_eq_true rfl, Nat.le_of_ble_eq_true rfl⟩ hF
theorem KX4_isShowing {a0 : Nat} {x1 : Int32} {h : jm_H} {X : jm_X} (hF : FX4_isShowing a0 x1 h = some X) : jm_K M_X4_isShowing [.ref a0, .int x1] h X := jk_of rfl (by decide +kernel) rfl rfl (Nat.le_of_ble_eq_true rfl) (JX4_isShowing hF)
set_option maxRecDepth 100000 in
set_option maxHeartbeats 4000000 in
theorem JX4_isMinute {x0 : Int32} {h : jm_H} {X : jm_X} (hF : FX4_isMinute x0 h = some X) : jm_J M_X4_isMinute 0 [(0, .int x0)] [] h 0 0 X := by
  unfold FX4_isMinute at hF
  refine jj_iload_n (j := 0) (i := 0) (pc' := 1) dX4_isMinute_0 rfl rfl rfl ?_
  refine jj_iconst (v := (0 : Int32)) (pc' := 2) dX4_isMinute_1 rfl rfl ?_
  refine jj_sipush (v := (1999 : Int32)) (pc' := 5) dX4_isMinute_2 rfl rfl ?_
  refine jj_cI (N := M_X4_in) (kc' := 0) (ks' := 0) (pc' := 8) (jg_S (N := M_X4_in) (rest := []) (as := [.int x0, .int ((0 : Int32)), .int ((1999 : Int32))]) cf_X4_88 rfl dX4_isMinute_5 rfl rfl ⟨Nat.le_of_ble_eq_true rfl, Nat.le_of_ble_eq_true rfl⟩ ⟨Nat.le_of_ble_eq_true rfl, Nat.le_of_ble_eq_true rfl⟩ (Nat.le_of_ble_eq_true rfl) (fun X' hX => KX4_in hX)) rfl rfl rfl rfl ⟨Nat.le_of_ble_eq_true rfl, Nat.le_of_ble_eq_true rfl⟩ rfl hF (fun x102 h101 hF => ?_)
  exact jj_retZ rfl dX4_isMinute_8 ⟨Nat.le_of_ble_eq_true rfl, Nat.le_of_ble_eq_true rfl⟩ hF
theorem KX4_isMinute {x0 : Int32} {h : jm_H} {X : jm_X} (hF : FX4_isMinute x0 h = some X) : jm_K M_X4_isMinute [.int x0] h X := jk_of rfl (by decide +kernel) rfl rfl (Nat.le_of_ble_eq_true rfl) (JX4_isMinute hF)
set_option maxRecDepth 100000 in
set_option maxHeartbeats 4000000 in
theorem JX4_film {N : Nat} {a0 : Nat} {x1 : Int32} {x2 : Int32} {h : jm_H} {X : jm_X} (hF : FX4_film N a0 x1 x2 h = some X) : jm_J M_X4_film 0 [(0, .ref a0), (1, .int x1), (2, .int x2)] [] h 0 0 X := by
  unfold FX4_film at hF
  refine jj_aload_n (j := 0) (i := 0) (pc' := 1) dX4_film_0 rfl rfl rfl ?_
  refine jj_iconst (v := (0 : Int32)) (pc' := 2) dX4_film_1 rfl rfl ?_
  refine jj_p (C := RX4) (T := TX4) (N := 15) (ci := 4) (k := 7) (ty := tyX4) (pc' := 5) dX4_film_2 rfl rfl inX4 tyX4_ok nmX4 (by decide) qw_79 rfl (fun _ => ⟨rfl, rfl⟩) hF (fun h101 hF => ?_)
  refine jj_iload_n (j := 1) (i := 1) (pc' := 6) dX4_film_5 rfl rfl rfl ?_
  refine jj_iconst (v := (1 : Int32)) (pc' := 7) dX4_film_6 rfl rfl ?_
  refine jj_bipush (v := (6 : Int32)) (pc' := 9) dX4_film_7 rfl rfl ?_
  refine jj_cI (N := M_X4_in) (kc' := 0) (ks' := 0) (pc' := 12) (jg_S (N := M_X4_in) (rest := []) (as := [.int x1, .int ((1 : Int32)), .int ((6 : Int32))]) cf_X4_88 rfl dX4_film_9 rfl rfl ⟨Nat.le_of_ble_eq_true rfl, Nat.le_of_ble_eq_true rfl⟩ ⟨Nat.le_of_ble_eq_true rfl, Nat.le_of_ble_eq_true rfl⟩ (Nat.le_of_ble_eq_true rfl) (fun X' hX => KX4_in hX)) rfl rfl rfl rfl ⟨Nat.le_of_ble_eq_true rfl, Nat.le_of_ble_eq_true rfl⟩ rfl hF (fun x103 h102 hF => ?_)
  refine jj_if_eq (tgt := 26) (pc' := 15) dX4_film_12 rfl rfl (fun hc hF => ?_) (fun hc hF => ?_) hF
  · skip
    refine jj_aload_n (j := 0) (i := 0) (pc' := 27) dX4_film_26 rfl rfl rfl ?_
    refine jj_iconst (v := (1 : Int32)) (pc' := 28) dX4_film_27 rfl rfl ?_
    refine jj_cI (N := M_X4_refuses) (kc' := 0) (ks' := 0) (pc' := 31) (jg_V (N := M_X4_refuses) (ci := 4) (rest := []) (as := [.int ((1 : Int32))]) cf_X4_92 dX4_film_28 ⟨rfl, rfl⟩ rfl rfl ⟨Nat.le_of_ble_eq_true rfl, Nat.le_of_ble_eq_true rfl⟩ ⟨Nat.le_of_ble_eq_true rfl, Nat.le_of_ble_eq_true rfl⟩ (Nat.le_of_ble_eq_true rfl) (fun X' hX => KX4_refuses hX)) rfl rfl rfl rfl ⟨Nat.le_of_ble_eq_true rfl, Nat.le_of_ble_eq_true rfl⟩ rfl hF (fun x105 h104 hF => ?_)
    exact jj_retI (ty := .int) rfl rfl dX4_film_31 ⟨Nat.le_of_ble_eq_true rfl, Nat.le_of_ble_eq_true rfl⟩ hF
  · skip
    refine jj_iload_n (j := 2) (i := 2) (pc' := 16) dX4_film_15 rfl rfl rfl ?_
    refine jj_bipush (v := (10 : Int32)) (pc' := 18) dX4_film_16 rfl rfl ?_
    refine jj_bipush (v := (25 : Int32)) (pc' := 20) dX4_film_18 rfl rfl ?_
    refine jj_cI (N := M_X4_in) (kc' := 0) (ks' := 0) (pc' := 23) (jg_S (N := M_X4_in) (rest := []) (as := [.int x2, .int ((10 : Int32)), .int ((25 : Int32))]) cf_X4_88 rfl dX4_film_20 rfl rfl ⟨Nat.le_of_ble_eq_true rfl, Nat.le_of_ble_eq_true rfl⟩ ⟨Nat.le_of_ble_eq_true rfl, Nat.le_of_ble_eq_true rfl⟩ (Nat.le_of_ble_eq_true rfl) (fun X' hX => KX4_in hX)) rfl rfl rfl rfl ⟨Nat.le_of_ble_eq_true rfl, Nat.le_of_ble_eq_true rfl⟩ rfl hF (fun x107 h106 hF => ?_)
    refine jj_if_ne (tgt := 32) (pc' := 26) dX4_film_23 rfl rfl (fun hc hF => ?_) (fun hc hF => ?_) hF
    · skip
      refine jj_aload_n (j := 0) (i := 0) (pc' := 33) dX4_film_32 rfl rfl rfl ?_
      refine jj_gR (C := RX4) (T := TX4) (N := 15) (ci := 4) (k := 0) (pc' := 36) dX4_film_33 rfl rfl inX4 (by decide) qw_73 hF (fun r108 hF => ?_)
      refine jj_iconst (v := (0 : Int32)) (pc' := 37) dX4_film_36 rfl rfl ?_
      refine jj_ldI (pc' := 38) dX4_film_37 rfl hF (fun x109 hF => ?_)
      refine jj_bipush (v := (8 : Int32)) (pc' := 40) dX4_film_38 rfl rfl ?_
      refine jj_icmp_ne (tgt := 49) (pc' := 43) dX4_film_40 rfl rfl (fun hc hF => ?_) (fun hc hF => ?_) hF
      · skip
        refine jj_aload_n (j := 0) (i := 0) (pc' := 50) dX4_film_49 rfl rfl rfl ?_
        refine jj_cV (N := M_X4_saves) (kc' := 0) (ks' := 0) (pc' := 53) (jg_V (N := M_X4_saves) (ci := 4) (rest := []) (as := []) cf_X4_95 dX4_film_50 ⟨rfl, rfl⟩ rfl rfl ⟨Nat.le_of_ble_eq_true rfl, Nat.le_of_ble_eq_true rfl⟩ ⟨Nat.le_of_ble_eq_true rfl, Nat.le_of_ble_eq_true rfl⟩ (Nat.le_of_ble_eq_true rfl) (fun X' hX => KX4_saves hX)) rfl rfl rfl rfl ⟨Nat.le_of_ble_eq_true rfl, Nat.le_of_ble_eq_true rfl⟩ rfl hF (fun h110 hF => ?_)
        refine jj_aload_n (j := 0) (i := 0) (pc' := 54) dX4_film_53 rfl rfl rfl ?_
        refine jj_gR (C := RX4) (T := TX4) (N := 15) (ci := 4) (k := 0) (pc' := 57) dX4_film_54 rfl rfl inX4 (by decide) qw_73 hF (fun r111 hF => ?_)
        refine jj_iconst (v := (0 : Int32)) (pc' := 58) dX4_film_57 rfl rfl ?_
        refine jj_ldI (pc' := 59) dX4_film_58 rfl hF (fun x112 hF => ?_)
        refine jj_istore_n (i := 3) (ls' := [(3, .int x112), (0, .ref a0), (1, .int x1), (2, .int x2)]) (pc' := 60) dX4_film_59 rfl (Nat.le_of_ble_eq_true rfl) rfl rfl ?_
        refine jj_aload_n (j := 1) (i := 0) (pc' := 61) dX4_film_60 rfl rfl rfl ?_
        refine jj_gR (C := RX4) (T := TX4) (N := 15) (ci := 4) (k := 0) (pc' := 64) dX4_film_61 rfl rfl inX4 (by decide) qw_73 hF (fun r113 hF => ?_)
        refine jj_bipush (v := (10 : Int32)) (pc' := 66) dX4_film_64 rfl rfl ?_
        refine jj_iconst (v := (2 : Int32)) (pc' := 67) dX4_film_66 rfl rfl ?_
        refine jj_iload_n (j := 0) (i := 3) (pc' := 68) dX4_film_67 rfl rfl rfl ?_
        refine jj_imul (pc' := 69) dX4_film_68 rfl ?_
        refine jj_iadd (pc' := 70) dX4_film_69 rfl ?_
        refine jj_iload_n (j := 2) (i := 1) (pc' := 71) dX4_film_70 rfl rfl rfl ?_
        refine jj_stI (pc' := 72) dX4_film_71 rfl hF (fun h114 hF => ?_)
        refine jj_aload_n (j := 1) (i := 0) (pc' := 73) dX4_film_72 rfl rfl rfl ?_
        refine jj_gR (C := RX4) (T := TX4) (N := 15) (ci := 4) (k := 0) (pc' := 76) dX4_film_73 rfl rfl inX4 (by decide) qw_73 hF (fun r115 hF => ?_)
        refine jj_bipush (v := (10 : Int32)) (pc' := 78) dX4_film_76 rfl rfl ?_
        refine jj_iconst (v := (2 : Int32)) (pc' := 79) dX4_film_78 rfl rfl ?_
        refine jj_iload_n (j := 0) (i := 3) (pc' := 80) dX4_film_79 rfl rfl rfl ?_
        refine jj_imul (pc' := 81) dX4_film_80 rfl ?_
        refine jj_iadd (pc' := 82) dX4_film_81 rfl ?_
        refine jj_iconst (v := (1 : Int32)) (pc' := 83) dX4_film_82 rfl rfl ?_
        refine jj_iadd (pc' := 84) dX4_film_83 rfl ?_
        refine jj_iload_n (j := 3) (i := 2) (pc' := 85) dX4_film_84 rfl rfl rfl ?_
        refine jj_stI (pc' := 86) dX4_film_85 rfl hF (fun h116 hF => ?_)
        refine jj_aload_n (j := 1) (i := 0) (pc' := 87) dX4_film_86 rfl rfl rfl ?_
        refine jj_gR (C := RX4) (T := TX4) (N := 15) (ci := 4) (k := 0) (pc' := 90) dX4_film_87 rfl rfl inX4 (by decide) qw_73 hF (fun r117 hF => ?_)
        refine jj_iconst (v := (0 : Int32)) (pc' := 91) dX4_film_90 rfl rfl ?_
        refine jj_dup2 (pc' := 92) dX4_film_91 rfl rfl rfl ?_
        refine jj_ldI (pc' := 93) dX4_film_92 rfl hF (fun x118 hF => ?_)
        refine jj_iconst (v := (1 : Int32)) (pc' := 94) dX4_film_93 rfl rfl ?_
        refine jj_iadd (pc' := 95) dX4_film_94 rfl ?_
        refine jj_stI (pc' := 96) dX4_film_95 rfl hF (fun h119 hF => ?_)
        refine jj_iload_n (j := 0) (i := 3) (pc' := 97) dX4_film_96 rfl rfl rfl ?_
        exact jj_retI (ty := .int) rfl rfl dX4_film_97 ⟨Nat.le_of_ble_eq_true rfl, Nat.le_of_ble_eq_true rfl⟩ hF
      · skip
        refine jj_aload_n (j := 0) (i := 0) (pc' := 44) dX4_film_43 rfl rfl rfl ?_
        refine jj_iconst (v := (2 : Int32)) (pc' := 45) dX4_film_44 rfl rfl ?_
        refine jj_cI (N := M_X4_refuses) (kc' := 0) (ks' := 0) (pc' := 48) (jg_V (N := M_X4_refuses) (ci := 4) (rest := []) (as := [.int ((2 : Int32))]) cf_X4_92 dX4_film_45 ⟨rfl, rfl⟩ rfl rfl ⟨Nat.le_of_ble_eq_true rfl, Nat.le_of_ble_eq_true rfl⟩ ⟨Nat.le_of_ble_eq_true rfl, Nat.le_of_ble_eq_true rfl⟩ (Nat.le_of_ble_eq_true rfl) (fun X' hX => KX4_refuses hX)) rfl rfl rfl rfl ⟨Nat.le_of_ble_eq_true rfl, Nat.le_of_ble_eq_true rfl⟩ rfl hF (fun x121 h120 hF => ?_)
        exact jj_retI (ty := .int) rfl rfl dX4_film_48 ⟨Nat.le_of_ble_eq_true rfl, Nat.le_of_ble_eq_true rfl⟩ hF
    · skip
      refine jj_aload_n (j := 0) (i := 0) (pc' := 27) dX4_film_26 rfl rfl rfl ?_
      refine jj_iconst (v := (1 : Int32)) (pc' := 28) dX4_film_27 rfl rfl ?_
      refine jj_cI (N := M_X4_refuses) (kc' := 0) (ks' := 0) (pc' := 31) (jg_V (N := M_X4_refuses) (ci := 4) (rest := []) (as := [.int ((1 : Int32))]) cf_X4_92 dX4_film_28 ⟨rfl, rfl⟩ rfl rfl ⟨Nat.le_of_ble_eq_true rfl, Nat.le_of_ble_eq_true rfl⟩ ⟨Nat.le_of_ble_eq_true rfl, Nat.le_of_ble_eq_true rfl⟩ (Nat.le_of_ble_eq_true rfl) (fun X' hX => KX4_refuses hX)) rfl rfl rfl rfl ⟨Nat.le_of_ble_eq_true rfl, Nat.le_of_ble_eq_true rfl⟩ rfl hF (fun x123 h122 hF => ?_)
      exact jj_retI (ty := .int) rfl rfl dX4_film_31 ⟨Nat.le_of_ble_eq_true rfl, Nat.le_of_ble_eq_true rfl⟩ hF
theorem KX4_film {N : Nat} {a0 : Nat} {x1 : Int32} {x2 : Int32} {h : jm_H} {X : jm_X} (hF : FX4_film N a0 x1 x2 h = some X) : jm_K M_X4_film [.ref a0, .int x1, .int x2] h X := jk_of rfl (by decide +kernel) rfl rfl (Nat.le_of_ble_eq_true rfl) (JX4_film hF)
set_option maxRecDepth 100000 in
set_option maxHeartbeats 4000000 in
theorem JX4_seats {N : Nat} {a0 : Nat} {x1 : Int32} {x2 : Int32} {h : jm_H} {X : jm_X} (hF : FX4_seats N a0 x1 x2 h = some X) : jm_J M_X4_seats 0 [(0, .ref a0), (1, .int x1), (2, .int x2)] [] h 0 0 X := by
  unfold FX4_seats at hF
  refine jj_aload_n (j := 0) (i := 0) (pc' := 1) dX4_seats_0 rfl rfl rfl ?_
  refine jj_iconst (v := (0 : Int32)) (pc' := 2) dX4_seats_1 rfl rfl ?_
  refine jj_p (C := RX4) (T := TX4) (N := 15) (ci := 4) (k := 7) (ty := tyX4) (pc' := 5) dX4_seats_2 rfl rfl inX4 tyX4_ok nmX4 (by decide) qw_79 rfl (fun _ => ⟨rfl, rfl⟩) hF (fun h101 hF => ?_)
  refine jj_iload_n (j := 1) (i := 1) (pc' := 6) dX4_seats_5 rfl rfl rfl ?_
  refine jj_cI (N := M_X4_isScreen) (kc' := 0) (ks' := 0) (pc' := 9) (jg_S (N := M_X4_isScreen) (rest := []) (as := [.int x1]) cf_X4_98 rfl dX4_seats_6 rfl rfl ⟨Nat.le_of_ble_eq_true rfl, Nat.le_of_ble_eq_true rfl⟩ ⟨Nat.le_of_ble_eq_true rfl, Nat.le_of_ble_eq_true rfl⟩ (Nat.le_of_ble_eq_true rfl) (fun X' hX => KX4_isScreen hX)) rfl rfl rfl rfl ⟨Nat.le_of_ble_eq_true rfl, Nat.le_of_ble_eq_true rfl⟩ rfl hF (fun x103 h102 hF => ?_)
  refine jj_if_ne (tgt := 18) (pc' := 12) dX4_seats_9 rfl rfl (fun hc hF => ?_) (fun hc hF => ?_) hF
  · skip
    refine jj_iload_n (j := 2) (i := 2) (pc' := 19) dX4_seats_18 rfl rfl rfl ?_
    refine jj_bipush (v := (50 : Int32)) (pc' := 21) dX4_seats_19 rfl rfl ?_
    refine jj_sipush (v := (400 : Int32)) (pc' := 24) dX4_seats_21 rfl rfl ?_
    refine jj_cI (N := M_X4_in) (kc' := 0) (ks' := 0) (pc' := 27) (jg_S (N := M_X4_in) (rest := []) (as := [.int x2, .int ((50 : Int32)), .int ((400 : Int32))]) cf_X4_88 rfl dX4_seats_24 rfl rfl ⟨Nat.le_of_ble_eq_true rfl, Nat.le_of_ble_eq_true rfl⟩ ⟨Nat.le_of_ble_eq_true rfl, Nat.le_of_ble_eq_true rfl⟩ (Nat.le_of_ble_eq_true rfl) (fun X' hX => KX4_in hX)) rfl rfl rfl rfl ⟨Nat.le_of_ble_eq_true rfl, Nat.le_of_ble_eq_true rfl⟩ rfl hF (fun x105 h104 hF => ?_)
    refine jj_if_ne (tgt := 36) (pc' := 30) dX4_seats_27 rfl rfl (fun hc hF => ?_) (fun hc hF => ?_) hF
    · skip
      refine jj_aload_n (j := 0) (i := 0) (pc' := 37) dX4_seats_36 rfl rfl rfl ?_
      refine jj_cV (N := M_X4_saves) (kc' := 0) (ks' := 0) (pc' := 40) (jg_V (N := M_X4_saves) (ci := 4) (rest := []) (as := []) cf_X4_95 dX4_seats_37 ⟨rfl, rfl⟩ rfl rfl ⟨Nat.le_of_ble_eq_true rfl, Nat.le_of_ble_eq_true rfl⟩ ⟨Nat.le_of_ble_eq_true rfl, Nat.le_of_ble_eq_true rfl⟩ (Nat.le_of_ble_eq_true rfl) (fun X' hX => KX4_saves hX)) rfl rfl rfl rfl ⟨Nat.le_of_ble_eq_true rfl, Nat.le_of_ble_eq_true rfl⟩ rfl hF (fun h106 hF => ?_)
      refine jj_aload_n (j := 0) (i := 0) (pc' := 41) dX4_seats_40 rfl rfl rfl ?_
      refine jj_gR (C := RX4) (T := TX4) (N := 15) (ci := 4) (k := 0) (pc' := 44) dX4_seats_41 rfl rfl inX4 (by decide) qw_73 hF (fun r107 hF => ?_)
      refine jj_bipush (v := (7 : Int32)) (pc' := 46) dX4_seats_44 rfl rfl ?_
      refine jj_iload_n (j := 1) (i := 1) (pc' := 47) dX4_seats_46 rfl rfl rfl ?_
      refine jj_iadd (pc' := 48) dX4_seats_47 rfl ?_
      refine jj_ldI (pc' := 49) dX4_seats_48 rfl hF (fun x108 hF => ?_)
      refine jj_istore_n (i := 3) (ls' := [(3, .int x108), (0, .ref a0), (1, .int x1), (2, .int x2)]) (pc' := 50) dX4_seats_49 rfl (Nat.le_of_ble_eq_true rfl) rfl rfl ?_
      refine jj_aload_n (j := 1) (i := 0) (pc' := 51) dX4_seats_50 rfl rfl rfl ?_
      refine jj_gR (C := RX4) (T := TX4) (N := 15) (ci := 4) (k := 0) (pc' := 54) dX4_seats_51 rfl rfl inX4 (by decide) qw_73 hF (fun r109 hF => ?_)
      refine jj_bipush (v := (7 : Int32)) (pc' := 56) dX4_seats_54 rfl rfl ?_
      refine jj_iload_n (j := 2) (i := 1) (pc' := 57) dX4_seats_56 rfl rfl rfl ?_
      refine jj_iadd (pc' := 58) dX4_seats_57 rfl ?_
      refine jj_iload_n (j := 3) (i := 2) (pc' := 59) dX4_seats_58 rfl rfl rfl ?_
      refine jj_stI (pc' := 60) dX4_seats_59 rfl hF (fun h110 hF => ?_)
      refine jj_iload_n (j := 0) (i := 3) (pc' := 61) dX4_seats_60 rfl rfl rfl ?_
      exact jj_retI (ty := .int) rfl rfl dX4_seats_61 ⟨Nat.le_of_ble_eq_true rfl, Nat.le_of_ble_eq_true rfl⟩ hF
    · skip
      refine jj_aload_n (j := 0) (i := 0) (pc' := 31) dX4_seats_30 rfl rfl rfl ?_
      refine jj_iconst (v := (2 : Int32)) (pc' := 32) dX4_seats_31 rfl rfl ?_
      refine jj_cI (N := M_X4_refuses) (kc' := 0) (ks' := 0) (pc' := 35) (jg_V (N := M_X4_refuses) (ci := 4) (rest := []) (as := [.int ((2 : Int32))]) cf_X4_92 dX4_seats_32 ⟨rfl, rfl⟩ rfl rfl ⟨Nat.le_of_ble_eq_true rfl, Nat.le_of_ble_eq_true rfl⟩ ⟨Nat.le_of_ble_eq_true rfl, Nat.le_of_ble_eq_true rfl⟩ (Nat.le_of_ble_eq_true rfl) (fun X' hX => KX4_refuses hX)) rfl rfl rfl rfl ⟨Nat.le_of_ble_eq_true rfl, Nat.le_of_ble_eq_true rfl⟩ rfl hF (fun x112 h111 hF => ?_)
      exact jj_retI (ty := .int) rfl rfl dX4_seats_35 ⟨Nat.le_of_ble_eq_true rfl, Nat.le_of_ble_eq_true rfl⟩ hF
  · skip
    refine jj_aload_n (j := 0) (i := 0) (pc' := 13) dX4_seats_12 rfl rfl rfl ?_
    refine jj_iconst (v := (1 : Int32)) (pc' := 14) dX4_seats_13 rfl rfl ?_
    refine jj_cI (N := M_X4_refuses) (kc' := 0) (ks' := 0) (pc' := 17) (jg_V (N := M_X4_refuses) (ci := 4) (rest := []) (as := [.int ((1 : Int32))]) cf_X4_92 dX4_seats_14 ⟨rfl, rfl⟩ rfl rfl ⟨Nat.le_of_ble_eq_true rfl, Nat.le_of_ble_eq_true rfl⟩ ⟨Nat.le_of_ble_eq_true rfl, Nat.le_of_ble_eq_true rfl⟩ (Nat.le_of_ble_eq_true rfl) (fun X' hX => KX4_refuses hX)) rfl rfl rfl rfl ⟨Nat.le_of_ble_eq_true rfl, Nat.le_of_ble_eq_true rfl⟩ rfl hF (fun x114 h113 hF => ?_)
    exact jj_retI (ty := .int) rfl rfl dX4_seats_17 ⟨Nat.le_of_ble_eq_true rfl, Nat.le_of_ble_eq_true rfl⟩ hF
theorem KX4_seats {N : Nat} {a0 : Nat} {x1 : Int32} {x2 : Int32} {h : jm_H} {X : jm_X} (hF : FX4_seats N a0 x1 x2 h = some X) : jm_K M_X4_seats [.ref a0, .int x1, .int x2] h X := jk_of rfl (by decide +kernel) rfl rfl (Nat.le_of_ble_eq_true rfl) (JX4_seats hF)
set_option maxRecDepth 100000 in
set_option maxHeartbeats 4000000 in
theorem JX4_set {N : Nat} {a0 : Nat} {x1 : Int32} {x2 : Int32} {h : jm_H} {X : jm_X} (hF : FX4_set N a0 x1 x2 h = some X) : jm_J M_X4_set 0 [(0, .ref a0), (1, .int x1), (2, .int x2)] [] h 0 0 X := by
  unfold FX4_set at hF
  refine jj_aload_n (j := 0) (i := 0) (pc' := 1) dX4_set_0 rfl rfl rfl ?_
  refine jj_iconst (v := (0 : Int32)) (pc' := 2) dX4_set_1 rfl rfl ?_
  refine jj_p (C := RX4) (T := TX4) (N := 15) (ci := 4) (k := 7) (ty := tyX4) (pc' := 5) dX4_set_2 rfl rfl inX4 tyX4_ok nmX4 (by decide) qw_79 rfl (fun _ => ⟨rfl, rfl⟩) hF (fun h101 hF => ?_)
  refine jj_iload_n (j := 1) (i := 1) (pc' := 6) dX4_set_5 rfl rfl rfl ?_
  refine jj_iconst (v := (0 : Int32)) (pc' := 7) dX4_set_6 rfl rfl ?_
  refine jj_iconst (v := (3 : Int32)) (pc' := 8) dX4_set_7 rfl rfl ?_
  refine jj_cI (N := M_X4_in) (kc' := 0) (ks' := 0) (pc' := 11) (jg_S (N := M_X4_in) (rest := []) (as := [.int x1, .int ((0 : Int32)), .int ((3 : Int32))]) cf_X4_88 rfl dX4_set_8 rfl rfl ⟨Nat.le_of_ble_eq_true rfl, Nat.le_of_ble_eq_true rfl⟩ ⟨Nat.le_of_ble_eq_true rfl, Nat.le_of_ble_eq_true rfl⟩ (Nat.le_of_ble_eq_true rfl) (fun X' hX => KX4_in hX)) rfl rfl rfl rfl ⟨Nat.le_of_ble_eq_true rfl, Nat.le_of_ble_eq_true rfl⟩ rfl hF (fun x103 h102 hF => ?_)
  refine jj_if_ne (tgt := 20) (pc' := 14) dX4_set_11 rfl rfl (fun hc hF => ?_) (fun hc hF => ?_) hF
  · skip
    refine jj_iload_n (j := 2) (i := 2) (pc' := 21) dX4_set_20 rfl rfl rfl ?_
    refine jj_iconst (v := (0 : Int32)) (pc' := 22) dX4_set_21 rfl rfl ?_
    refine jj_bipush (v := (60 : Int32)) (pc' := 24) dX4_set_22 rfl rfl ?_
    refine jj_cI (N := M_X4_in) (kc' := 0) (ks' := 0) (pc' := 27) (jg_S (N := M_X4_in) (rest := []) (as := [.int x2, .int ((0 : Int32)), .int ((60 : Int32))]) cf_X4_88 rfl dX4_set_24 rfl rfl ⟨Nat.le_of_ble_eq_true rfl, Nat.le_of_ble_eq_true rfl⟩ ⟨Nat.le_of_ble_eq_true rfl, Nat.le_of_ble_eq_true rfl⟩ (Nat.le_of_ble_eq_true rfl) (fun X' hX => KX4_in hX)) rfl rfl rfl rfl ⟨Nat.le_of_ble_eq_true rfl, Nat.le_of_ble_eq_true rfl⟩ rfl hF (fun x105 h104 hF => ?_)
    refine jj_if_ne (tgt := 36) (pc' := 30) dX4_set_27 rfl rfl (fun hc hF => ?_) (fun hc hF => ?_) hF
    · skip
      refine jj_aload_n (j := 0) (i := 0) (pc' := 37) dX4_set_36 rfl rfl rfl ?_
      refine jj_cV (N := M_X4_saves) (kc' := 0) (ks' := 0) (pc' := 40) (jg_V (N := M_X4_saves) (ci := 4) (rest := []) (as := []) cf_X4_95 dX4_set_37 ⟨rfl, rfl⟩ rfl rfl ⟨Nat.le_of_ble_eq_true rfl, Nat.le_of_ble_eq_true rfl⟩ ⟨Nat.le_of_ble_eq_true rfl, Nat.le_of_ble_eq_true rfl⟩ (Nat.le_of_ble_eq_true rfl) (fun X' hX => KX4_saves hX)) rfl rfl rfl rfl ⟨Nat.le_of_ble_eq_true rfl, Nat.le_of_ble_eq_true rfl⟩ rfl hF (fun h106 hF => ?_)
      refine jj_aload_n (j := 0) (i := 0) (pc' := 41) dX4_set_40 rfl rfl rfl ?_
      refine jj_gR (C := RX4) (T := TX4) (N := 15) (ci := 4) (k := 0) (pc' := 44) dX4_set_41 rfl rfl inX4 (by decide) qw_73 hF (fun r107 hF => ?_)
      refine jj_iconst (v := (3 : Int32)) (pc' := 45) dX4_set_44 rfl rfl ?_
      refine jj_iload_n (j := 1) (i := 1) (pc' := 46) dX4_set_45 rfl rfl rfl ?_
      refine jj_iadd (pc' := 47) dX4_set_46 rfl ?_
      refine jj_ldI (pc' := 48) dX4_set_47 rfl hF (fun x108 hF => ?_)
      refine jj_istore_n (i := 3) (ls' := [(3, .int x108), (0, .ref a0), (1, .int x1), (2, .int x2)]) (pc' := 49) dX4_set_48 rfl (Nat.le_of_ble_eq_true rfl) rfl rfl ?_
      refine jj_aload_n (j := 1) (i := 0) (pc' := 50) dX4_set_49 rfl rfl rfl ?_
      refine jj_gR (C := RX4) (T := TX4) (N := 15) (ci := 4) (k := 0) (pc' := 53) dX4_set_50 rfl rfl inX4 (by decide) qw_73 hF (fun r109 hF => ?_)
      refine jj_iconst (v := (3 : Int32)) (pc' := 54) dX4_set_53 rfl rfl ?_
      refine jj_iload_n (j := 2) (i := 1) (pc' := 55) dX4_set_54 rfl rfl rfl ?_
      refine jj_iadd (pc' := 56) dX4_set_55 rfl ?_
      refine jj_iload_n (j := 3) (i := 2) (pc' := 57) dX4_set_56 rfl rfl rfl ?_
      refine jj_stI (pc' := 58) dX4_set_57 rfl hF (fun h110 hF => ?_)
      refine jj_iload_n (j := 0) (i := 3) (pc' := 59) dX4_set_58 rfl rfl rfl ?_
      exact jj_retI (ty := .int) rfl rfl dX4_set_59 ⟨Nat.le_of_ble_eq_true rfl, Nat.le_of_ble_eq_true rfl⟩ hF
    · skip
      refine jj_aload_n (j := 0) (i := 0) (pc' := 31) dX4_set_30 rfl rfl rfl ?_
      refine jj_iconst (v := (2 : Int32)) (pc' := 32) dX4_set_31 rfl rfl ?_
      refine jj_cI (N := M_X4_refuses) (kc' := 0) (ks' := 0) (pc' := 35) (jg_V (N := M_X4_refuses) (ci := 4) (rest := []) (as := [.int ((2 : Int32))]) cf_X4_92 dX4_set_32 ⟨rfl, rfl⟩ rfl rfl ⟨Nat.le_of_ble_eq_true rfl, Nat.le_of_ble_eq_true rfl⟩ ⟨Nat.le_of_ble_eq_true rfl, Nat.le_of_ble_eq_true rfl⟩ (Nat.le_of_ble_eq_true rfl) (fun X' hX => KX4_refuses hX)) rfl rfl rfl rfl ⟨Nat.le_of_ble_eq_true rfl, Nat.le_of_ble_eq_true rfl⟩ rfl hF (fun x112 h111 hF => ?_)
      exact jj_retI (ty := .int) rfl rfl dX4_set_35 ⟨Nat.le_of_ble_eq_true rfl, Nat.le_of_ble_eq_true rfl⟩ hF
  · skip
    refine jj_aload_n (j := 0) (i := 0) (pc' := 15) dX4_set_14 rfl rfl rfl ?_
    refine jj_iconst (v := (1 : Int32)) (pc' := 16) dX4_set_15 rfl rfl ?_
    refine jj_cI (N := M_X4_refuses) (kc' := 0) (ks' := 0) (pc' := 19) (jg_V (N := M_X4_refuses) (ci := 4) (rest := []) (as := [.int ((1 : Int32))]) cf_X4_92 dX4_set_16 ⟨rfl, rfl⟩ rfl rfl ⟨Nat.le_of_ble_eq_true rfl, Nat.le_of_ble_eq_true rfl⟩ ⟨Nat.le_of_ble_eq_true rfl, Nat.le_of_ble_eq_true rfl⟩ (Nat.le_of_ble_eq_true rfl) (fun X' hX => KX4_refuses hX)) rfl rfl rfl rfl ⟨Nat.le_of_ble_eq_true rfl, Nat.le_of_ble_eq_true rfl⟩ rfl hF (fun x114 h113 hF => ?_)
    exact jj_retI (ty := .int) rfl rfl dX4_set_19 ⟨Nat.le_of_ble_eq_true rfl, Nat.le_of_ble_eq_true rfl⟩ hF
theorem KX4_set {N : Nat} {a0 : Nat} {x1 : Int32} {x2 : Int32} {h : jm_H} {X : jm_X} (hF : FX4_set N a0 x1 x2 h = some X) : jm_K M_X4_set [.ref a0, .int x1, .int x2] h X := jk_of rfl (by decide +kernel) rfl rfl (Nat.le_of_ble_eq_true rfl) (JX4_set hF)
set_option maxRecDepth 100000 in
set_option maxHeartbeats 4000000 in
theorem JX4_show {N : Nat} {a0 : Nat} {x1 : Int32} {x2 : Int32} {x3 : Int32} {x4 : Int32} {h : jm_H} {X : jm_X} (hF : FX4_show N a0 x1 x2 x3 x4 h = some X) : jm_J M_X4_show 0 [(0, .ref a0), (1, .int x1), (2, .int x2), (3, .int x3), (4, .int x4)] [] h 0 0 X := by
  unfold FX4_show at hF
  refine jj_aload_n (j := 0) (i := 0) (pc' := 1) dX4_show_0 rfl rfl rfl ?_
  refine jj_iconst (v := (0 : Int32)) (pc' := 2) dX4_show_1 rfl rfl ?_
  refine jj_p (C := RX4) (T := TX4) (N := 15) (ci := 4) (k := 7) (ty := tyX4) (pc' := 5) dX4_show_2 rfl rfl inX4 tyX4_ok nmX4 (by decide) qw_79 rfl (fun _ => ⟨rfl, rfl⟩) hF (fun h101 hF => ?_)
  refine jj_aload_n (j := 0) (i := 0) (pc' := 6) dX4_show_5 rfl rfl rfl ?_
  refine jj_iload_n (j := 1) (i := 1) (pc' := 7) dX4_show_6 rfl rfl rfl ?_
  refine jj_cI (N := M_X4_isFilm) (kc' := 0) (ks' := 0) (pc' := 10) (jg_V (N := M_X4_isFilm) (ci := 4) (rest := []) (as := [.int x1]) cf_X4_102 dX4_show_7 ⟨rfl, rfl⟩ rfl rfl ⟨Nat.le_of_ble_eq_true rfl, Nat.le_of_ble_eq_true rfl⟩ ⟨Nat.le_of_ble_eq_true rfl, Nat.le_of_ble_eq_true rfl⟩ (Nat.le_of_ble_eq_true rfl) (fun X' hX => KX4_isFilm hX)) rfl rfl rfl rfl ⟨Nat.le_of_ble_eq_true rfl, Nat.le_of_ble_eq_true rfl⟩ rfl hF (fun x103 h102 hF => ?_)
  refine jj_if_eq (tgt := 20) (pc' := 13) dX4_show_10 rfl rfl (fun hc hF => ?_) (fun hc hF => ?_) hF
  · skip
    refine jj_aload_n (j := 0) (i := 0) (pc' := 21) dX4_show_20 rfl rfl rfl ?_
    refine jj_iconst (v := (1 : Int32)) (pc' := 22) dX4_show_21 rfl rfl ?_
    refine jj_cI (N := M_X4_refuses) (kc' := 0) (ks' := 0) (pc' := 25) (jg_V (N := M_X4_refuses) (ci := 4) (rest := []) (as := [.int ((1 : Int32))]) cf_X4_92 dX4_show_22 ⟨rfl, rfl⟩ rfl rfl ⟨Nat.le_of_ble_eq_true rfl, Nat.le_of_ble_eq_true rfl⟩ ⟨Nat.le_of_ble_eq_true rfl, Nat.le_of_ble_eq_true rfl⟩ (Nat.le_of_ble_eq_true rfl) (fun X' hX => KX4_refuses hX)) rfl rfl rfl rfl ⟨Nat.le_of_ble_eq_true rfl, Nat.le_of_ble_eq_true rfl⟩ rfl hF (fun x105 h104 hF => ?_)
    exact jj_retI (ty := .int) rfl rfl dX4_show_25 ⟨Nat.le_of_ble_eq_true rfl, Nat.le_of_ble_eq_true rfl⟩ hF
  · skip
    refine jj_iload_n (j := 2) (i := 2) (pc' := 14) dX4_show_13 rfl rfl rfl ?_
    refine jj_cI (N := M_X4_isScreen) (kc' := 0) (ks' := 0) (pc' := 17) (jg_S (N := M_X4_isScreen) (rest := []) (as := [.int x2]) cf_X4_98 rfl dX4_show_14 rfl rfl ⟨Nat.le_of_ble_eq_true rfl, Nat.le_of_ble_eq_true rfl⟩ ⟨Nat.le_of_ble_eq_true rfl, Nat.le_of_ble_eq_true rfl⟩ (Nat.le_of_ble_eq_true rfl) (fun X' hX => KX4_isScreen hX)) rfl rfl rfl rfl ⟨Nat.le_of_ble_eq_true rfl, Nat.le_of_ble_eq_true rfl⟩ rfl hF (fun x107 h106 hF => ?_)
    refine jj_if_ne (tgt := 26) (pc' := 20) dX4_show_17 rfl rfl (fun hc hF => ?_) (fun hc hF => ?_) hF
    · skip
      refine jj_iload_n (j := 3) (i := 3) (pc' := 27) dX4_show_26 rfl rfl rfl ?_
      refine jj_cI (N := M_X4_isMinute) (kc' := 0) (ks' := 0) (pc' := 30) (jg_S (N := M_X4_isMinute) (rest := []) (as := [.int x3]) cf_X4_105 rfl dX4_show_27 rfl rfl ⟨Nat.le_of_ble_eq_true rfl, Nat.le_of_ble_eq_true rfl⟩ ⟨Nat.le_of_ble_eq_true rfl, Nat.le_of_ble_eq_true rfl⟩ (Nat.le_of_ble_eq_true rfl) (fun X' hX => KX4_isMinute hX)) rfl rfl rfl rfl ⟨Nat.le_of_ble_eq_true rfl, Nat.le_of_ble_eq_true rfl⟩ rfl hF (fun x109 h108 hF => ?_)
      refine jj_if_eq (tgt := 44) (pc' := 33) dX4_show_30 rfl rfl (fun hc hF => ?_) (fun hc hF => ?_) hF
      · skip
        refine jj_aload_n (j := 0) (i := 0) (pc' := 45) dX4_show_44 rfl rfl rfl ?_
        refine jj_iconst (v := (2 : Int32)) (pc' := 46) dX4_show_45 rfl rfl ?_
        refine jj_cI (N := M_X4_refuses) (kc' := 0) (ks' := 0) (pc' := 49) (jg_V (N := M_X4_refuses) (ci := 4) (rest := []) (as := [.int ((2 : Int32))]) cf_X4_92 dX4_show_46 ⟨rfl, rfl⟩ rfl rfl ⟨Nat.le_of_ble_eq_true rfl, Nat.le_of_ble_eq_true rfl⟩ ⟨Nat.le_of_ble_eq_true rfl, Nat.le_of_ble_eq_true rfl⟩ (Nat.le_of_ble_eq_true rfl) (fun X' hX => KX4_refuses hX)) rfl rfl rfl rfl ⟨Nat.le_of_ble_eq_true rfl, Nat.le_of_ble_eq_true rfl⟩ rfl hF (fun x111 h110 hF => ?_)
        exact jj_retI (ty := .int) rfl rfl dX4_show_49 ⟨Nat.le_of_ble_eq_true rfl, Nat.le_of_ble_eq_true rfl⟩ hF
      · skip
        refine jj_iload (j := 4) (i := 4) (pc' := 35) dX4_show_33 rfl rfl ?_
        refine jj_iconst (v := (0 : Int32)) (pc' := 36) dX4_show_35 rfl rfl ?_
        refine jj_bipush (v := (20 : Int32)) (pc' := 38) dX4_show_36 rfl rfl ?_
        refine jj_cI (N := M_X4_in) (kc' := 0) (ks' := 0) (pc' := 41) (jg_S (N := M_X4_in) (rest := []) (as := [.int x4, .int ((0 : Int32)), .int ((20 : Int32))]) cf_X4_88 rfl dX4_show_38 rfl rfl ⟨Nat.le_of_ble_eq_true rfl, Nat.le_of_ble_eq_true rfl⟩ ⟨Nat.le_of_ble_eq_true rfl, Nat.le_of_ble_eq_true rfl⟩ (Nat.le_of_ble_eq_true rfl) (fun X' hX => KX4_in hX)) rfl rfl rfl rfl ⟨Nat.le_of_ble_eq_true rfl, Nat.le_of_ble_eq_true rfl⟩ rfl hF (fun x113 h112 hF => ?_)
        refine jj_if_ne (tgt := 50) (pc' := 44) dX4_show_41 rfl rfl (fun hc hF => ?_) (fun hc hF => ?_) hF
        · skip
          refine jj_aload_n (j := 0) (i := 0) (pc' := 51) dX4_show_50 rfl rfl rfl ?_
          refine jj_iload_n (j := 1) (i := 1) (pc' := 52) dX4_show_51 rfl rfl rfl ?_
          refine jj_iload_n (j := 2) (i := 2) (pc' := 53) dX4_show_52 rfl rfl rfl ?_
          refine jj_iload_n (j := 3) (i := 3) (pc' := 54) dX4_show_53 rfl rfl rfl ?_
          refine jj_iload (j := 4) (i := 4) (pc' := 56) dX4_show_54 rfl rfl ?_
          refine jj_cI (N := M_X4_reason) (kc' := 0) (ks' := 0) (pc' := 59) (jg_V (N := M_X4_reason) (ci := 4) (rest := []) (as := [.int x1, .int x2, .int x3, .int x4]) cf_X4_108 dX4_show_56 ⟨rfl, rfl⟩ rfl rfl ⟨Nat.le_of_ble_eq_true rfl, Nat.le_of_ble_eq_true rfl⟩ ⟨Nat.le_of_ble_eq_true rfl, Nat.le_of_ble_eq_true rfl⟩ (Nat.le_of_ble_eq_true rfl) (fun X' hX => KX4_reason hX)) rfl rfl rfl rfl ⟨Nat.le_of_ble_eq_true rfl, Nat.le_of_ble_eq_true rfl⟩ rfl hF (fun x115 h114 hF => ?_)
          refine jj_if_eq (tgt := 68) (pc' := 62) dX4_show_59 rfl rfl (fun hc hF => ?_) (fun hc hF => ?_) hF
          · skip
            refine jj_aload_n (j := 0) (i := 0) (pc' := 69) dX4_show_68 rfl rfl rfl ?_
            refine jj_cV (N := M_X4_saves) (kc' := 0) (ks' := 0) (pc' := 72) (jg_V (N := M_X4_saves) (ci := 4) (rest := []) (as := []) cf_X4_95 dX4_show_69 ⟨rfl, rfl⟩ rfl rfl ⟨Nat.le_of_ble_eq_true rfl, Nat.le_of_ble_eq_true rfl⟩ ⟨Nat.le_of_ble_eq_true rfl, Nat.le_of_ble_eq_true rfl⟩ (Nat.le_of_ble_eq_true rfl) (fun X' hX => KX4_saves hX)) rfl rfl rfl rfl ⟨Nat.le_of_ble_eq_true rfl, Nat.le_of_ble_eq_true rfl⟩ rfl hF (fun h116 hF => ?_)
            refine jj_aload_n (j := 0) (i := 0) (pc' := 73) dX4_show_72 rfl rfl rfl ?_
            refine jj_iload_n (j := 1) (i := 1) (pc' := 74) dX4_show_73 rfl rfl rfl ?_
            refine jj_iload_n (j := 2) (i := 2) (pc' := 75) dX4_show_74 rfl rfl rfl ?_
            refine jj_iload_n (j := 3) (i := 3) (pc' := 76) dX4_show_75 rfl rfl rfl ?_
            refine jj_iload (j := 4) (i := 4) (pc' := 78) dX4_show_76 rfl rfl ?_
            refine jj_cV (N := M_X4_makes) (kc' := 0) (ks' := 0) (pc' := 81) (jg_V (N := M_X4_makes) (ci := 4) (rest := []) (as := [.int x1, .int x2, .int x3, .int x4]) cf_X4_111 dX4_show_78 ⟨rfl, rfl⟩ rfl rfl ⟨Nat.le_of_ble_eq_true rfl, Nat.le_of_ble_eq_true rfl⟩ ⟨Nat.le_of_ble_eq_true rfl, Nat.le_of_ble_eq_true rfl⟩ (Nat.le_of_ble_eq_true rfl) (fun X' hX => KX4_makes hX)) rfl rfl rfl rfl ⟨Nat.le_of_ble_eq_true rfl, Nat.le_of_ble_eq_true rfl⟩ rfl hF (fun h117 hF => ?_)
            refine jj_aload_n (j := 0) (i := 0) (pc' := 82) dX4_show_81 rfl rfl rfl ?_
            refine jj_gR (C := RX4) (T := TX4) (N := 15) (ci := 4) (k := 0) (pc' := 85) dX4_show_82 rfl rfl inX4 (by decide) qw_73 hF (fun r118 hF => ?_)
            refine jj_iconst (v := (1 : Int32)) (pc' := 86) dX4_show_85 rfl rfl ?_
            refine jj_ldI (pc' := 87) dX4_show_86 rfl hF (fun x119 hF => ?_)
            refine jj_iconst (v := (1 : Int32)) (pc' := 88) dX4_show_87 rfl rfl ?_
            refine jj_isub (pc' := 89) dX4_show_88 rfl ?_
            exact jj_retI (ty := .int) rfl rfl dX4_show_89 ⟨Nat.le_of_ble_eq_true rfl, Nat.le_of_ble_eq_true rfl⟩ hF
          · skip
            refine jj_aload_n (j := 0) (i := 0) (pc' := 63) dX4_show_62 rfl rfl rfl ?_
            refine jj_iconst (v := (3 : Int32)) (pc' := 64) dX4_show_63 rfl rfl ?_
            refine jj_cI (N := M_X4_refuses) (kc' := 0) (ks' := 0) (pc' := 67) (jg_V (N := M_X4_refuses) (ci := 4) (rest := []) (as := [.int ((3 : Int32))]) cf_X4_92 dX4_show_64 ⟨rfl, rfl⟩ rfl rfl ⟨Nat.le_of_ble_eq_true rfl, Nat.le_of_ble_eq_true rfl⟩ ⟨Nat.le_of_ble_eq_true rfl, Nat.le_of_ble_eq_true rfl⟩ (Nat.le_of_ble_eq_true rfl) (fun X' hX => KX4_refuses hX)) rfl rfl rfl rfl ⟨Nat.le_of_ble_eq_true rfl, Nat.le_of_ble_eq_true rfl⟩ rfl hF (fun x121 h120 hF => ?_)
            exact jj_retI (ty := .int) rfl rfl dX4_show_67 ⟨Nat.le_of_ble_eq_true rfl, Nat.le_of_ble_eq_true rfl⟩ hF
        · skip
          refine jj_aload_n (j := 0) (i := 0) (pc' := 45) dX4_show_44 rfl rfl rfl ?_
          refine jj_iconst (v := (2 : Int32)) (pc' := 46) dX4_show_45 rfl rfl ?_
          refine jj_cI (N := M_X4_refuses) (kc' := 0) (ks' := 0) (pc' := 49) (jg_V (N := M_X4_refuses) (ci := 4) (rest := []) (as := [.int ((2 : Int32))]) cf_X4_92 dX4_show_46 ⟨rfl, rfl⟩ rfl rfl ⟨Nat.le_of_ble_eq_true rfl, Nat.le_of_ble_eq_true rfl⟩ ⟨Nat.le_of_ble_eq_true rfl, Nat.le_of_ble_eq_true rfl⟩ (Nat.le_of_ble_eq_true rfl) (fun X' hX => KX4_refuses hX)) rfl rfl rfl rfl ⟨Nat.le_of_ble_eq_true rfl, Nat.le_of_ble_eq_true rfl⟩ rfl hF (fun x123 h122 hF => ?_)
          exact jj_retI (ty := .int) rfl rfl dX4_show_49 ⟨Nat.le_of_ble_eq_true rfl, Nat.le_of_ble_eq_true rfl⟩ hF
    · skip
      refine jj_aload_n (j := 0) (i := 0) (pc' := 21) dX4_show_20 rfl rfl rfl ?_
      refine jj_iconst (v := (1 : Int32)) (pc' := 22) dX4_show_21 rfl rfl ?_
      refine jj_cI (N := M_X4_refuses) (kc' := 0) (ks' := 0) (pc' := 25) (jg_V (N := M_X4_refuses) (ci := 4) (rest := []) (as := [.int ((1 : Int32))]) cf_X4_92 dX4_show_22 ⟨rfl, rfl⟩ rfl rfl ⟨Nat.le_of_ble_eq_true rfl, Nat.le_of_ble_eq_true rfl⟩ ⟨Nat.le_of_ble_eq_true rfl, Nat.le_of_ble_eq_true rfl⟩ (Nat.le_of_ble_eq_true rfl) (fun X' hX => KX4_refuses hX)) rfl rfl rfl rfl ⟨Nat.le_of_ble_eq_true rfl, Nat.le_of_ble_eq_true rfl⟩ rfl hF (fun x125 h124 hF => ?_)
      exact jj_retI (ty := .int) rfl rfl dX4_show_25 ⟨Nat.le_of_ble_eq_true rfl, Nat.le_of_ble_eq_true rfl⟩ hF
theorem KX4_show {N : Nat} {a0 : Nat} {x1 : Int32} {x2 : Int32} {x3 : Int32} {x4 : Int32} {h : jm_H} {X : jm_X} (hF : FX4_show N a0 x1 x2 x3 x4 h = some X) : jm_K M_X4_show [.ref a0, .int x1, .int x2, .int x3, .int x4] h X := jk_of rfl (by decide +kernel) rfl rfl (Nat.le_of_ble_eq_true rfl) (JX4_show hF)
set_option maxRecDepth 100000 in
set_option maxHeartbeats 4000000 in
theorem JX4_bits {x0 : Int32} {h : jm_H} {X : jm_X} (hF : FX4_bits x0 h = some X) : jm_J M_X4_bits 0 [(0, .int x0)] [] h 0 0 X := by
  unfold FX4_bits at hF
  refine jj_iload_n (j := 0) (i := 0) (pc' := 1) dX4_bits_0 rfl rfl rfl ?_
  refine jj_iconst (v := (1 : Int32)) (pc' := 2) dX4_bits_1 rfl rfl ?_
  refine jj_iand (pc' := 3) dX4_bits_2 rfl ?_
  refine jj_iload_n (j := 0) (i := 0) (pc' := 4) dX4_bits_3 rfl rfl rfl ?_
  refine jj_iconst (v := (1 : Int32)) (pc' := 5) dX4_bits_4 rfl rfl ?_
  refine jj_ishr (pc' := 6) dX4_bits_5 rfl ?_
  refine jj_iconst (v := (1 : Int32)) (pc' := 7) dX4_bits_6 rfl rfl ?_
  refine jj_iand (pc' := 8) dX4_bits_7 rfl ?_
  refine jj_iadd (pc' := 9) dX4_bits_8 rfl ?_
  refine jj_iload_n (j := 0) (i := 0) (pc' := 10) dX4_bits_9 rfl rfl rfl ?_
  refine jj_iconst (v := (2 : Int32)) (pc' := 11) dX4_bits_10 rfl rfl ?_
  refine jj_ishr (pc' := 12) dX4_bits_11 rfl ?_
  refine jj_iconst (v := (1 : Int32)) (pc' := 13) dX4_bits_12 rfl rfl ?_
  refine jj_iand (pc' := 14) dX4_bits_13 rfl ?_
  refine jj_iadd (pc' := 15) dX4_bits_14 rfl ?_
  exact jj_retI (ty := .int) rfl rfl dX4_bits_15 ⟨Nat.le_of_ble_eq_true rfl, Nat.le_of_ble_eq_true rfl⟩ hF
theorem KX4_bits {x0 : Int32} {h : jm_H} {X : jm_X} (hF : FX4_bits x0 h = some X) : jm_K M_X4_bits [.int x0] h X := jk_of rfl (by decide +kernel) rfl rfl (Nat.le_of_ble_eq_true rfl) (JX4_bits hF)
set_option maxRecDepth 100000 in
set_option maxHeartbeats 4000000 in
theorem BX4_callOff_50 (N : Nat) : ∀ (n : Nat) (a0 : Nat) (x2 : Int32) (x3 : Int32) (h : jm_H) (X : jm_X), FX4_callOff_50 N n a0 x2 x3 h = some X → jm_J M_X4_callOff 50 [(0, .ref a0), (2, .int x2), (3, .int x3)] [] h 0 0 X := by
  intro n
  induction n with
  | zero =>
    intro a0 x2 x3 h X hF
    exact nomatch (show (none : Option jm_X) = some X from hF)
  | succ n ih =>
    intro a0 x2 x3 h X hF
    rw [FX4_callOff_50] at hF
    refine jj_iload_n (j := 2) (i := 3) (pc' := 51) dX4_callOff_50 rfl rfl rfl ?_
    refine jj_bipush (v := (26 : Int32)) (pc' := 53) dX4_callOff_51 rfl rfl ?_
    refine jj_iconst (v := (5 : Int32)) (pc' := 54) dX4_callOff_53 rfl rfl ?_
    refine jj_aload_n (j := 0) (i := 0) (pc' := 55) dX4_callOff_54 rfl rfl rfl ?_
    refine jj_gR (C := RX4) (T := TX4) (N := 15) (ci := 4) (k := 0) (pc' := 58) dX4_callOff_55 rfl rfl inX4 (by decide) qw_73 hF (fun r101 hF => ?_)
    refine jj_iconst (v := (1 : Int32)) (pc' := 59) dX4_callOff_58 rfl rfl ?_
    refine jj_ldI (pc' := 60) dX4_callOff_59 rfl hF (fun x102 hF => ?_)
    refine jj_imul (pc' := 61) dX4_callOff_60 rfl ?_
    refine jj_iadd (pc' := 62) dX4_callOff_61 rfl ?_
    refine jj_icmp_ge (tgt := 85) (pc' := 65) dX4_callOff_62 rfl rfl (fun hc hF => ?_) (fun hc hF => ?_) hF
    · skip
      refine jj_aload_n (j := 0) (i := 0) (pc' := 86) dX4_callOff_85 rfl rfl rfl ?_
      refine jj_gR (C := RX4) (T := TX4) (N := 15) (ci := 4) (k := 0) (pc' := 89) dX4_callOff_86 rfl rfl inX4 (by decide) qw_73 hF (fun r103 hF => ?_)
      refine jj_sipush (v := (128 : Int32)) (pc' := 92) dX4_callOff_89 rfl rfl ?_
      refine jj_dup2 (pc' := 93) dX4_callOff_92 rfl rfl rfl ?_
      refine jj_ldI (pc' := 94) dX4_callOff_93 rfl hF (fun x104 hF => ?_)
      refine jj_iconst (v := (1 : Int32)) (pc' := 95) dX4_callOff_94 rfl rfl ?_
      refine jj_iadd (pc' := 96) dX4_callOff_95 rfl ?_
      refine jj_stI (pc' := 97) dX4_callOff_96 rfl hF (fun h105 hF => ?_)
      refine jj_iload_n (j := 1) (i := 2) (pc' := 98) dX4_callOff_97 rfl rfl rfl ?_
      exact jj_retI (ty := .int) rfl rfl dX4_callOff_98 ⟨Nat.le_of_ble_eq_true rfl, Nat.le_of_ble_eq_true rfl⟩ hF
    · skip
      refine jj_aload_n (j := 0) (i := 0) (pc' := 66) dX4_callOff_65 rfl rfl rfl ?_
      refine jj_gR (C := RX4) (T := TX4) (N := 15) (ci := 4) (k := 0) (pc' := 69) dX4_callOff_66 rfl rfl inX4 (by decide) qw_73 hF (fun r106 hF => ?_)
      refine jj_iload_n (j := 2) (i := 3) (pc' := 70) dX4_callOff_69 rfl rfl rfl ?_
      refine jj_aload_n (j := 0) (i := 0) (pc' := 71) dX4_callOff_70 rfl rfl rfl ?_
      refine jj_gR (C := RX4) (T := TX4) (N := 15) (ci := 4) (k := 0) (pc' := 74) dX4_callOff_71 rfl rfl inX4 (by decide) qw_73 hF (fun r107 hF => ?_)
      refine jj_iload_n (j := 2) (i := 3) (pc' := 75) dX4_callOff_74 rfl rfl rfl ?_
      refine jj_iconst (v := (5 : Int32)) (pc' := 76) dX4_callOff_75 rfl rfl ?_
      refine jj_iadd (pc' := 77) dX4_callOff_76 rfl ?_
      refine jj_ldI (pc' := 78) dX4_callOff_77 rfl hF (fun x108 hF => ?_)
      refine jj_stI (pc' := 79) dX4_callOff_78 rfl hF (fun h109 hF => ?_)
      refine jj_iinc (i := 3) (j := 2) (v := x3 + (1 : Int32)) (ls' := [(3, .int (x3 + (1 : Int32))), (0, .ref a0), (2, .int x2)]) (pc' := 82) dX4_callOff_79 rfl rfl (Nat.le_of_ble_eq_true rfl) rfl rfl ?_
      refine jj_goto (tgt := 50) dX4_callOff_82 rfl ?_
      exact jj_pick [1, 2, 0] rfl (ih a0 x2 (x3 + (1 : Int32)) h109 _ hF)
set_option maxRecDepth 100000 in
set_option maxHeartbeats 4000000 in
theorem JX4_callOff {N : Nat} {a0 : Nat} {x1 : Int32} {h : jm_H} {X : jm_X} (hF : FX4_callOff N a0 x1 h = some X) : jm_J M_X4_callOff 0 [(0, .ref a0), (1, .int x1)] [] h 0 0 X := by
  unfold FX4_callOff at hF
  refine jj_aload_n (j := 0) (i := 0) (pc' := 1) dX4_callOff_0 rfl rfl rfl ?_
  refine jj_iconst (v := (0 : Int32)) (pc' := 2) dX4_callOff_1 rfl rfl ?_
  refine jj_p (C := RX4) (T := TX4) (N := 15) (ci := 4) (k := 7) (ty := tyX4) (pc' := 5) dX4_callOff_2 rfl rfl inX4 tyX4_ok nmX4 (by decide) qw_79 rfl (fun _ => ⟨rfl, rfl⟩) hF (fun h101 hF => ?_)
  refine jj_aload_n (j := 0) (i := 0) (pc' := 6) dX4_callOff_5 rfl rfl rfl ?_
  refine jj_iload_n (j := 1) (i := 1) (pc' := 7) dX4_callOff_6 rfl rfl rfl ?_
  refine jj_cI (N := M_X4_isShowing) (kc' := 0) (ks' := 0) (pc' := 10) (jg_V (N := M_X4_isShowing) (ci := 4) (rest := []) (as := [.int x1]) cf_X4_115 dX4_callOff_7 ⟨rfl, rfl⟩ rfl rfl ⟨Nat.le_of_ble_eq_true rfl, Nat.le_of_ble_eq_true rfl⟩ ⟨Nat.le_of_ble_eq_true rfl, Nat.le_of_ble_eq_true rfl⟩ (Nat.le_of_ble_eq_true rfl) (fun X' hX => KX4_isShowing hX)) rfl rfl rfl rfl ⟨Nat.le_of_ble_eq_true rfl, Nat.le_of_ble_eq_true rfl⟩ rfl hF (fun x103 h102 hF => ?_)
  refine jj_if_ne (tgt := 19) (pc' := 13) dX4_callOff_10 rfl rfl (fun hc hF => ?_) (fun hc hF => ?_) hF
  · skip
    refine jj_aload_n (j := 0) (i := 0) (pc' := 20) dX4_callOff_19 rfl rfl rfl ?_
    refine jj_cV (N := M_X4_saves) (kc' := 0) (ks' := 0) (pc' := 23) (jg_V (N := M_X4_saves) (ci := 4) (rest := []) (as := []) cf_X4_95 dX4_callOff_20 ⟨rfl, rfl⟩ rfl rfl ⟨Nat.le_of_ble_eq_true rfl, Nat.le_of_ble_eq_true rfl⟩ ⟨Nat.le_of_ble_eq_true rfl, Nat.le_of_ble_eq_true rfl⟩ (Nat.le_of_ble_eq_true rfl) (fun X' hX => KX4_saves hX)) rfl rfl rfl rfl ⟨Nat.le_of_ble_eq_true rfl, Nat.le_of_ble_eq_true rfl⟩ rfl hF (fun h104 hF => ?_)
    refine jj_aload_n (j := 0) (i := 0) (pc' := 24) dX4_callOff_23 rfl rfl rfl ?_
    refine jj_iload_n (j := 1) (i := 1) (pc' := 25) dX4_callOff_24 rfl rfl rfl ?_
    refine jj_iconst (v := (4 : Int32)) (pc' := 26) dX4_callOff_25 rfl rfl ?_
    refine jj_cI (N := M_X4_of) (kc' := 0) (ks' := 0) (pc' := 29) (jg_V (N := M_X4_of) (ci := 4) (rest := []) (as := [.int x1, .int ((4 : Int32))]) cf_X4_47 dX4_callOff_26 ⟨rfl, rfl⟩ rfl rfl ⟨Nat.le_of_ble_eq_true rfl, Nat.le_of_ble_eq_true rfl⟩ ⟨Nat.le_of_ble_eq_true rfl, Nat.le_of_ble_eq_true rfl⟩ (Nat.le_of_ble_eq_true rfl) (fun X' hX => KX4_of hX)) rfl rfl rfl rfl ⟨Nat.le_of_ble_eq_true rfl, Nat.le_of_ble_eq_true rfl⟩ rfl hF (fun x106 h105 hF => ?_)
    refine jj_cI (N := M_X4_bits) (kc' := 0) (ks' := 0) (pc' := 32) (jg_S (N := M_X4_bits) (rest := []) (as := [.int x106]) cf_X4_118 rfl dX4_callOff_29 rfl rfl ⟨Nat.le_of_ble_eq_true rfl, Nat.le_of_ble_eq_true rfl⟩ ⟨Nat.le_of_ble_eq_true rfl, Nat.le_of_ble_eq_true rfl⟩ (Nat.le_of_ble_eq_true rfl) (fun X' hX => KX4_bits hX)) rfl rfl rfl rfl ⟨Nat.le_of_ble_eq_true rfl, Nat.le_of_ble_eq_true rfl⟩ rfl hF (fun x108 h107 hF => ?_)
    refine jj_istore_n (i := 2) (ls' := [(2, .int x108), (0, .ref a0), (1, .int x1)]) (pc' := 33) dX4_callOff_32 rfl (Nat.le_of_ble_eq_true rfl) rfl rfl ?_
    refine jj_aload_n (j := 1) (i := 0) (pc' := 34) dX4_callOff_33 rfl rfl rfl ?_
    refine jj_gR (C := RX4) (T := TX4) (N := 15) (ci := 4) (k := 0) (pc' := 37) dX4_callOff_34 rfl rfl inX4 (by decide) qw_73 hF (fun r109 hF => ?_)
    refine jj_iconst (v := (1 : Int32)) (pc' := 38) dX4_callOff_37 rfl rfl ?_
    refine jj_dup2 (pc' := 39) dX4_callOff_38 rfl rfl rfl ?_
    refine jj_ldI (pc' := 40) dX4_callOff_39 rfl hF (fun x110 hF => ?_)
    refine jj_iconst (v := (1 : Int32)) (pc' := 41) dX4_callOff_40 rfl rfl ?_
    refine jj_isub (pc' := 42) dX4_callOff_41 rfl ?_
    refine jj_stI (pc' := 43) dX4_callOff_42 rfl hF (fun h111 hF => ?_)
    refine jj_bipush (v := (26 : Int32)) (pc' := 45) dX4_callOff_43 rfl rfl ?_
    refine jj_iconst (v := (5 : Int32)) (pc' := 46) dX4_callOff_45 rfl rfl ?_
    refine jj_iload_n (j := 2) (i := 1) (pc' := 47) dX4_callOff_46 rfl rfl rfl ?_
    refine jj_imul (pc' := 48) dX4_callOff_47 rfl ?_
    refine jj_iadd (pc' := 49) dX4_callOff_48 rfl ?_
    refine jj_istore_n (i := 3) (ls' := [(3, .int (((26 : Int32)) + (((5 : Int32)) * x1))), (2, .int x108), (0, .ref a0), (1, .int x1)]) (pc' := 50) dX4_callOff_49 rfl (Nat.le_of_ble_eq_true rfl) rfl rfl ?_
    exact jj_pick [2, 1, 0] rfl (BX4_callOff_50 N N a0 x108 (((26 : Int32)) + (((5 : Int32)) * x1)) h111 _ hF)
  · skip
    refine jj_aload_n (j := 0) (i := 0) (pc' := 14) dX4_callOff_13 rfl rfl rfl ?_
    refine jj_iconst (v := (1 : Int32)) (pc' := 15) dX4_callOff_14 rfl rfl ?_
    refine jj_cI (N := M_X4_refuses) (kc' := 0) (ks' := 0) (pc' := 18) (jg_V (N := M_X4_refuses) (ci := 4) (rest := []) (as := [.int ((1 : Int32))]) cf_X4_92 dX4_callOff_15 ⟨rfl, rfl⟩ rfl rfl ⟨Nat.le_of_ble_eq_true rfl, Nat.le_of_ble_eq_true rfl⟩ ⟨Nat.le_of_ble_eq_true rfl, Nat.le_of_ble_eq_true rfl⟩ (Nat.le_of_ble_eq_true rfl) (fun X' hX => KX4_refuses hX)) rfl rfl rfl rfl ⟨Nat.le_of_ble_eq_true rfl, Nat.le_of_ble_eq_true rfl⟩ rfl hF (fun x113 h112 hF => ?_)
    exact jj_retI (ty := .int) rfl rfl dX4_callOff_18 ⟨Nat.le_of_ble_eq_true rfl, Nat.le_of_ble_eq_true rfl⟩ hF
theorem KX4_callOff {N : Nat} {a0 : Nat} {x1 : Int32} {h : jm_H} {X : jm_X} (hF : FX4_callOff N a0 x1 h = some X) : jm_K M_X4_callOff [.ref a0, .int x1] h X := jk_of rfl (by decide +kernel) rfl rfl (Nat.le_of_ble_eq_true rfl) (JX4_callOff hF)
set_option maxRecDepth 100000 in
set_option maxHeartbeats 4000000 in
theorem JX4_goes {a0 : Nat} {x1 : Int32} {x2 : Int32} {h : jm_H} {X : jm_X} (hF : FX4_goes a0 x1 x2 h = some X) : jm_J M_X4_goes 0 [(0, .ref a0), (1, .int x1), (2, .int x2)] [] h 0 0 X := by
  unfold FX4_goes at hF
  refine jj_aload_n (j := 0) (i := 0) (pc' := 1) dX4_goes_0 rfl rfl rfl ?_
  refine jj_iload_n (j := 2) (i := 2) (pc' := 2) dX4_goes_1 rfl rfl rfl ?_
  refine jj_iconst (v := (4 : Int32)) (pc' := 3) dX4_goes_2 rfl rfl ?_
  refine jj_cI (N := M_X4_of) (kc' := 0) (ks' := 0) (pc' := 6) (jg_V (N := M_X4_of) (ci := 4) (rest := []) (as := [.int x2, .int ((4 : Int32))]) cf_X4_47 dX4_goes_3 ⟨rfl, rfl⟩ rfl rfl ⟨Nat.le_of_ble_eq_true rfl, Nat.le_of_ble_eq_true rfl⟩ ⟨Nat.le_of_ble_eq_true rfl, Nat.le_of_ble_eq_true rfl⟩ (Nat.le_of_ble_eq_true rfl) (fun X' hX => KX4_of hX)) rfl rfl rfl rfl ⟨Nat.le_of_ble_eq_true rfl, Nat.le_of_ble_eq_true rfl⟩ rfl hF (fun x102 h101 hF => ?_)
  refine jj_iload_n (j := 1) (i := 1) (pc' := 7) dX4_goes_6 rfl rfl rfl ?_
  refine jj_ishr (pc' := 8) dX4_goes_7 rfl ?_
  refine jj_iconst (v := (1 : Int32)) (pc' := 9) dX4_goes_8 rfl rfl ?_
  refine jj_iand (pc' := 10) dX4_goes_9 rfl ?_
  refine jj_iconst (v := (1 : Int32)) (pc' := 11) dX4_goes_10 rfl rfl ?_
  refine jj_icmp_ne (tgt := 18) (pc' := 14) dX4_goes_11 rfl rfl (fun hc hF => ?_) (fun hc hF => ?_) hF
  · skip
    refine jj_iconst (v := (0 : Int32)) (pc' := 19) dX4_goes_18 rfl rfl ?_
    exact jj_retI (ty := .boolean) rfl rfl dX4_goes_19 ⟨Nat.le_of_ble_eq_true rfl, Nat.le_of_ble_eq_true rfl⟩ hF
  · skip
    refine jj_iconst (v := (1 : Int32)) (pc' := 15) dX4_goes_14 rfl rfl ?_
    refine jj_goto (tgt := 19) dX4_goes_15 rfl ?_
    exact jj_retI (ty := .boolean) rfl rfl dX4_goes_19 ⟨Nat.le_of_ble_eq_true rfl, Nat.le_of_ble_eq_true rfl⟩ hF
theorem KX4_goes {a0 : Nat} {x1 : Int32} {x2 : Int32} {h : jm_H} {X : jm_X} (hF : FX4_goes a0 x1 x2 h = some X) : jm_K M_X4_goes [.ref a0, .int x1, .int x2] h X := jk_of rfl (by decide +kernel) rfl rfl (Nat.le_of_ble_eq_true rfl) (JX4_goes hF)
set_option maxRecDepth 100000 in
set_option maxHeartbeats 4000000 in
theorem BX4_canGo_5 (N : Nat) : ∀ (n : Nat) (a0 : Nat) (x1 : Int32) (x2 : Int32) (x3 : Int32) (x4 : Int32) (h : jm_H) (X : jm_X), FX4_canGo_5 N n a0 x1 x2 x3 x4 h = some X → jm_J M_X4_canGo 5 [(0, .ref a0), (1, .int x1), (2, .int x2), (3, .int x3), (4, .int x4)] [] h 0 0 X := by
  intro n
  induction n with
  | zero =>
    intro a0 x1 x2 x3 x4 h X hF
    exact nomatch (show (none : Option jm_X) = some X from hF)
  | succ n ih =>
    intro a0 x1 x2 x3 x4 h X hF
    rw [FX4_canGo_5] at hF
    refine jj_iload (j := 4) (i := 4) (pc' := 7) dX4_canGo_5 rfl rfl ?_
    refine jj_aload_n (j := 0) (i := 0) (pc' := 8) dX4_canGo_7 rfl rfl rfl ?_
    refine jj_gR (C := RX4) (T := TX4) (N := 15) (ci := 4) (k := 0) (pc' := 11) dX4_canGo_8 rfl rfl inX4 (by decide) qw_73 hF (fun r101 hF => ?_)
    refine jj_iconst (v := (1 : Int32)) (pc' := 12) dX4_canGo_11 rfl rfl ?_
    refine jj_ldI (pc' := 13) dX4_canGo_12 rfl hF (fun x102 hF => ?_)
    refine jj_icmp_ge (tgt := 97) (pc' := 16) dX4_canGo_13 rfl rfl (fun hc hF => ?_) (fun hc hF => ?_) hF
    · skip
      refine jj_iload_n (j := 3) (i := 3) (pc' := 98) dX4_canGo_97 rfl rfl rfl ?_
      exact jj_retZ rfl dX4_canGo_98 ⟨Nat.le_of_ble_eq_true rfl, Nat.le_of_ble_eq_true rfl⟩ hF
    · skip
      refine jj_iload (j := 4) (i := 4) (pc' := 18) dX4_canGo_16 rfl rfl ?_
      refine jj_iload_n (j := 2) (i := 2) (pc' := 19) dX4_canGo_18 rfl rfl rfl ?_
      refine jj_icmp_eq (tgt := 36) (pc' := 22) dX4_canGo_19 rfl rfl (fun hc hF => ?_) (fun hc hF => ?_) hF
      · skip
        refine jj_iconst (v := (0 : Int32)) (pc' := 37) dX4_canGo_36 rfl rfl ?_
        refine jj_istore (i := 5) (ls' := [(5, .int ((0 : Int32))), (0, .ref a0), (1, .int x1), (2, .int x2), (3, .int x3), (4, .int x4)]) (pc' := 39) dX4_canGo_37 (Nat.le_of_ble_eq_true rfl) rfl rfl ?_
        refine jj_iload_n (j := 4) (i := 3) (pc' := 40) dX4_canGo_39 rfl rfl rfl ?_
        refine jj_if_eq (tgt := 89) (pc' := 43) dX4_canGo_40 rfl rfl (fun hc hF => ?_) (fun hc hF => ?_) hF
        · skip
          refine jj_iconst (v := (0 : Int32)) (pc' := 90) dX4_canGo_89 rfl rfl ?_
          refine jj_istore_n (i := 3) (ls' := [(3, .int ((0 : Int32))), (5, .int ((0 : Int32))), (0, .ref a0), (1, .int x1), (2, .int x2), (4, .int x4)]) (pc' := 91) dX4_canGo_90 rfl (Nat.le_of_ble_eq_true rfl) rfl rfl ?_
          refine jj_iinc (i := 4) (j := 5) (v := x4 + (1 : Int32)) (ls' := [(4, .int (x4 + (1 : Int32))), (3, .int ((0 : Int32))), (5, .int ((0 : Int32))), (0, .ref a0), (1, .int x1), (2, .int x2)]) (pc' := 94) dX4_canGo_91 rfl rfl (Nat.le_of_ble_eq_true rfl) rfl rfl ?_
          refine jj_goto (tgt := 5) dX4_canGo_94 rfl ?_
          exact jj_pick [3, 4, 5, 1, 0] rfl (ih a0 x1 x2 ((0 : Int32)) (x4 + (1 : Int32)) h _ hF)
        · skip
          refine jj_iload (j := 0) (i := 5) (pc' := 45) dX4_canGo_43 rfl rfl ?_
          refine jj_if_eq_t (tgt := 85) dX4_canGo_45 rfl (by decide) ?_
          refine jj_iconst (v := (1 : Int32)) (pc' := 86) dX4_canGo_85 rfl rfl ?_
          refine jj_goto (tgt := 90) dX4_canGo_86 rfl ?_
          refine jj_istore_n (i := 3) (ls' := [(3, .int ((1 : Int32))), (5, .int ((0 : Int32))), (0, .ref a0), (1, .int x1), (2, .int x2), (4, .int x4)]) (pc' := 91) dX4_canGo_90 rfl (Nat.le_of_ble_eq_true rfl) rfl rfl ?_
          refine jj_iinc (i := 4) (j := 5) (v := x4 + (1 : Int32)) (ls' := [(4, .int (x4 + (1 : Int32))), (3, .int ((1 : Int32))), (5, .int ((0 : Int32))), (0, .ref a0), (1, .int x1), (2, .int x2)]) (pc' := 94) dX4_canGo_91 rfl rfl (Nat.le_of_ble_eq_true rfl) rfl rfl ?_
          refine jj_goto (tgt := 5) dX4_canGo_94 rfl ?_
          exact jj_pick [3, 4, 5, 1, 0] rfl (ih a0 x1 x2 ((1 : Int32)) (x4 + (1 : Int32)) h _ hF)
      · skip
        refine jj_aload_n (j := 0) (i := 0) (pc' := 23) dX4_canGo_22 rfl rfl rfl ?_
        refine jj_iload_n (j := 1) (i := 1) (pc' := 24) dX4_canGo_23 rfl rfl rfl ?_
        refine jj_iload (j := 4) (i := 4) (pc' := 26) dX4_canGo_24 rfl rfl ?_
        refine jj_cI (N := M_X4_goes) (kc' := 0) (ks' := 0) (pc' := 29) (jg_V (N := M_X4_goes) (ci := 4) (rest := []) (as := [.int x1, .int x4]) cf_X4_121 dX4_canGo_26 ⟨rfl, rfl⟩ rfl rfl ⟨Nat.le_of_ble_eq_true rfl, Nat.le_of_ble_eq_true rfl⟩ ⟨Nat.le_of_ble_eq_true rfl, Nat.le_of_ble_eq_true rfl⟩ (Nat.le_of_ble_eq_true rfl) (fun X' hX => KX4_goes hX)) rfl rfl rfl rfl ⟨Nat.le_of_ble_eq_true rfl, Nat.le_of_ble_eq_true rfl⟩ rfl hF (fun x104 h103 hF => ?_)
        refine jj_if_eq (tgt := 36) (pc' := 32) dX4_canGo_29 rfl rfl (fun hc hF => ?_) (fun hc hF => ?_) hF
        · skip
          refine jj_iconst (v := (0 : Int32)) (pc' := 37) dX4_canGo_36 rfl rfl ?_
          refine jj_istore (i := 5) (ls' := [(5, .int ((0 : Int32))), (0, .ref a0), (1, .int x1), (2, .int x2), (3, .int x3), (4, .int x4)]) (pc' := 39) dX4_canGo_37 (Nat.le_of_ble_eq_true rfl) rfl rfl ?_
          refine jj_iload_n (j := 4) (i := 3) (pc' := 40) dX4_canGo_39 rfl rfl rfl ?_
          refine jj_if_eq (tgt := 89) (pc' := 43) dX4_canGo_40 rfl rfl (fun hc hF => ?_) (fun hc hF => ?_) hF
          · skip
            refine jj_iconst (v := (0 : Int32)) (pc' := 90) dX4_canGo_89 rfl rfl ?_
            refine jj_istore_n (i := 3) (ls' := [(3, .int ((0 : Int32))), (5, .int ((0 : Int32))), (0, .ref a0), (1, .int x1), (2, .int x2), (4, .int x4)]) (pc' := 91) dX4_canGo_90 rfl (Nat.le_of_ble_eq_true rfl) rfl rfl ?_
            refine jj_iinc (i := 4) (j := 5) (v := x4 + (1 : Int32)) (ls' := [(4, .int (x4 + (1 : Int32))), (3, .int ((0 : Int32))), (5, .int ((0 : Int32))), (0, .ref a0), (1, .int x1), (2, .int x2)]) (pc' := 94) dX4_canGo_91 rfl rfl (Nat.le_of_ble_eq_true rfl) rfl rfl ?_
            refine jj_goto (tgt := 5) dX4_canGo_94 rfl ?_
            exact jj_pick [3, 4, 5, 1, 0] rfl (ih a0 x1 x2 ((0 : Int32)) (x4 + (1 : Int32)) h103 _ hF)
          · skip
            refine jj_iload (j := 0) (i := 5) (pc' := 45) dX4_canGo_43 rfl rfl ?_
            refine jj_if_eq_t (tgt := 85) dX4_canGo_45 rfl (by decide) ?_
            refine jj_iconst (v := (1 : Int32)) (pc' := 86) dX4_canGo_85 rfl rfl ?_
            refine jj_goto (tgt := 90) dX4_canGo_86 rfl ?_
            refine jj_istore_n (i := 3) (ls' := [(3, .int ((1 : Int32))), (5, .int ((0 : Int32))), (0, .ref a0), (1, .int x1), (2, .int x2), (4, .int x4)]) (pc' := 91) dX4_canGo_90 rfl (Nat.le_of_ble_eq_true rfl) rfl rfl ?_
            refine jj_iinc (i := 4) (j := 5) (v := x4 + (1 : Int32)) (ls' := [(4, .int (x4 + (1 : Int32))), (3, .int ((1 : Int32))), (5, .int ((0 : Int32))), (0, .ref a0), (1, .int x1), (2, .int x2)]) (pc' := 94) dX4_canGo_91 rfl rfl (Nat.le_of_ble_eq_true rfl) rfl rfl ?_
            refine jj_goto (tgt := 5) dX4_canGo_94 rfl ?_
            exact jj_pick [3, 4, 5, 1, 0] rfl (ih a0 x1 x2 ((1 : Int32)) (x4 + (1 : Int32)) h103 _ hF)
        · skip
          refine jj_iconst (v := (1 : Int32)) (pc' := 33) dX4_canGo_32 rfl rfl ?_
          refine jj_goto (tgt := 37) dX4_canGo_33 rfl ?_
          refine jj_istore (i := 5) (ls' := [(5, .int ((1 : Int32))), (0, .ref a0), (1, .int x1), (2, .int x2), (3, .int x3), (4, .int x4)]) (pc' := 39) dX4_canGo_37 (Nat.le_of_ble_eq_true rfl) rfl rfl ?_
          refine jj_iload_n (j := 4) (i := 3) (pc' := 40) dX4_canGo_39 rfl rfl rfl ?_
          refine jj_if_eq (tgt := 89) (pc' := 43) dX4_canGo_40 rfl rfl (fun hc hF => ?_) (fun hc hF => ?_) hF
          · skip
            refine jj_iconst (v := (0 : Int32)) (pc' := 90) dX4_canGo_89 rfl rfl ?_
            refine jj_istore_n (i := 3) (ls' := [(3, .int ((0 : Int32))), (5, .int ((1 : Int32))), (0, .ref a0), (1, .int x1), (2, .int x2), (4, .int x4)]) (pc' := 91) dX4_canGo_90 rfl (Nat.le_of_ble_eq_true rfl) rfl rfl ?_
            refine jj_iinc (i := 4) (j := 5) (v := x4 + (1 : Int32)) (ls' := [(4, .int (x4 + (1 : Int32))), (3, .int ((0 : Int32))), (5, .int ((1 : Int32))), (0, .ref a0), (1, .int x1), (2, .int x2)]) (pc' := 94) dX4_canGo_91 rfl rfl (Nat.le_of_ble_eq_true rfl) rfl rfl ?_
            refine jj_goto (tgt := 5) dX4_canGo_94 rfl ?_
            exact jj_pick [3, 4, 5, 1, 0] rfl (ih a0 x1 x2 ((0 : Int32)) (x4 + (1 : Int32)) h103 _ hF)
          · skip
            refine jj_iload (j := 0) (i := 5) (pc' := 45) dX4_canGo_43 rfl rfl ?_
            refine jj_if_eq_f (pc' := 48) dX4_canGo_45 rfl (by decide) 85 rfl ?_
            refine jj_aload_n (j := 1) (i := 0) (pc' := 49) dX4_canGo_48 rfl rfl rfl ?_
            refine jj_iload_n (j := 3) (i := 2) (pc' := 50) dX4_canGo_49 rfl rfl rfl ?_
            refine jj_iconst (v := (2 : Int32)) (pc' := 51) dX4_canGo_50 rfl rfl ?_
            refine jj_cI (N := M_X4_of) (kc' := 0) (ks' := 0) (pc' := 54) (jg_V (N := M_X4_of) (ci := 4) (rest := []) (as := [.int x2, .int ((2 : Int32))]) cf_X4_47 dX4_canGo_51 ⟨rfl, rfl⟩ rfl rfl ⟨Nat.le_of_ble_eq_true rfl, Nat.le_of_ble_eq_true rfl⟩ ⟨Nat.le_of_ble_eq_true rfl, Nat.le_of_ble_eq_true rfl⟩ (Nat.le_of_ble_eq_true rfl) (fun X' hX => KX4_of hX)) rfl rfl rfl rfl ⟨Nat.le_of_ble_eq_true rfl, Nat.le_of_ble_eq_true rfl⟩ rfl hF (fun x106 h105 hF => ?_)
            refine jj_aload_n (j := 1) (i := 0) (pc' := 55) dX4_canGo_54 rfl rfl rfl ?_
            refine jj_iload_n (j := 3) (i := 2) (pc' := 56) dX4_canGo_55 rfl rfl rfl ?_
            refine jj_cI (N := M_X4_end) (kc' := 0) (ks' := 0) (pc' := 59) (jg_V (N := M_X4_end) (ci := 4) (rest := [.int x106]) (as := [.int x2]) cf_X4_75 dX4_canGo_56 ⟨rfl, rfl⟩ rfl rfl ⟨Nat.le_of_ble_eq_true rfl, Nat.le_of_ble_eq_true rfl⟩ ⟨Nat.le_of_ble_eq_true rfl, Nat.le_of_ble_eq_true rfl⟩ (Nat.le_of_ble_eq_true rfl) (fun X' hX => KX4_end hX)) rfl rfl rfl rfl ⟨Nat.le_of_ble_eq_true rfl, Nat.le_of_ble_eq_true rfl⟩ rfl hF (fun x108 h107 hF => ?_)
            refine jj_aload_n (j := 1) (i := 0) (pc' := 60) dX4_canGo_59 rfl rfl rfl ?_
            refine jj_iload (j := 5) (i := 4) (pc' := 62) dX4_canGo_60 rfl rfl ?_
            refine jj_iconst (v := (2 : Int32)) (pc' := 63) dX4_canGo_62 rfl rfl ?_
            refine jj_cI (N := M_X4_of) (kc' := 0) (ks' := 0) (pc' := 66) (jg_V (N := M_X4_of) (ci := 4) (rest := [.int x108, .int x106]) (as := [.int x4, .int ((2 : Int32))]) cf_X4_47 dX4_canGo_63 ⟨rfl, rfl⟩ rfl rfl ⟨Nat.le_of_ble_eq_true rfl, Nat.le_of_ble_eq_true rfl⟩ ⟨Nat.le_of_ble_eq_true rfl, Nat.le_of_ble_eq_true rfl⟩ (Nat.le_of_ble_eq_true rfl) (fun X' hX => KX4_of hX)) rfl rfl rfl rfl ⟨Nat.le_of_ble_eq_true rfl, Nat.le_of_ble_eq_true rfl⟩ rfl hF (fun x110 h109 hF => ?_)
            refine jj_aload_n (j := 1) (i := 0) (pc' := 67) dX4_canGo_66 rfl rfl rfl ?_
            refine jj_iload (j := 5) (i := 4) (pc' := 69) dX4_canGo_67 rfl rfl ?_
            refine jj_cI (N := M_X4_end) (kc' := 0) (ks' := 0) (pc' := 72) (jg_V (N := M_X4_end) (ci := 4) (rest := [.int x110, .int x108, .int x106]) (as := [.int x4]) cf_X4_75 dX4_canGo_69 ⟨rfl, rfl⟩ rfl rfl ⟨Nat.le_of_ble_eq_true rfl, Nat.le_of_ble_eq_true rfl⟩ ⟨Nat.le_of_ble_eq_true rfl, Nat.le_of_ble_eq_true rfl⟩ (Nat.le_of_ble_eq_true rfl) (fun X' hX => KX4_end hX)) rfl rfl rfl rfl ⟨Nat.le_of_ble_eq_true rfl, Nat.le_of_ble_eq_true rfl⟩ rfl hF (fun x112 h111 hF => ?_)
            refine jj_aload_n (j := 1) (i := 0) (pc' := 73) dX4_canGo_72 rfl rfl rfl ?_
            refine jj_gR (C := RX4) (T := TX4) (N := 15) (ci := 4) (k := 0) (pc' := 76) dX4_canGo_73 rfl rfl inX4 (by decide) qw_73 hF (fun r113 hF => ?_)
            refine jj_bipush (v := (6 : Int32)) (pc' := 78) dX4_canGo_76 rfl rfl ?_
            refine jj_ldI (pc' := 79) dX4_canGo_78 rfl hF (fun x114 hF => ?_)
            refine jj_cI (N := M_X4_isNear) (kc' := 0) (ks' := 0) (pc' := 82) (jg_S (N := M_X4_isNear) (rest := []) (as := [.int x106, .int x108, .int x110, .int x112, .int x114]) cf_X4_68 rfl dX4_canGo_79 rfl rfl ⟨Nat.le_of_ble_eq_true rfl, Nat.le_of_ble_eq_true rfl⟩ ⟨Nat.le_of_ble_eq_true rfl, Nat.le_of_ble_eq_true rfl⟩ (Nat.le_of_ble_eq_true rfl) (fun X' hX => KX4_isNear hX)) rfl rfl rfl rfl ⟨Nat.le_of_ble_eq_true rfl, Nat.le_of_ble_eq_true rfl⟩ rfl hF (fun x116 h115 hF => ?_)
            refine jj_if_ne (tgt := 89) (pc' := 85) dX4_canGo_82 rfl rfl (fun hc hF => ?_) (fun hc hF => ?_) hF
            · skip
              refine jj_iconst (v := (0 : Int32)) (pc' := 90) dX4_canGo_89 rfl rfl ?_
              refine jj_istore_n (i := 3) (ls' := [(3, .int ((0 : Int32))), (5, .int ((1 : Int32))), (0, .ref a0), (1, .int x1), (2, .int x2), (4, .int x4)]) (pc' := 91) dX4_canGo_90 rfl (Nat.le_of_ble_eq_true rfl) rfl rfl ?_
              refine jj_iinc (i := 4) (j := 5) (v := x4 + (1 : Int32)) (ls' := [(4, .int (x4 + (1 : Int32))), (3, .int ((0 : Int32))), (5, .int ((1 : Int32))), (0, .ref a0), (1, .int x1), (2, .int x2)]) (pc' := 94) dX4_canGo_91 rfl rfl (Nat.le_of_ble_eq_true rfl) rfl rfl ?_
              refine jj_goto (tgt := 5) dX4_canGo_94 rfl ?_
              exact jj_pick [3, 4, 5, 1, 0] rfl (ih a0 x1 x2 ((0 : Int32)) (x4 + (1 : Int32)) h115 _ hF)
            · skip
              refine jj_iconst (v := (1 : Int32)) (pc' := 86) dX4_canGo_85 rfl rfl ?_
              refine jj_goto (tgt := 90) dX4_canGo_86 rfl ?_
              refine jj_istore_n (i := 3) (ls' := [(3, .int ((1 : Int32))), (5, .int ((1 : Int32))), (0, .ref a0), (1, .int x1), (2, .int x2), (4, .int x4)]) (pc' := 91) dX4_canGo_90 rfl (Nat.le_of_ble_eq_true rfl) rfl rfl ?_
              refine jj_iinc (i := 4) (j := 5) (v := x4 + (1 : Int32)) (ls' := [(4, .int (x4 + (1 : Int32))), (3, .int ((1 : Int32))), (5, .int ((1 : Int32))), (0, .ref a0), (1, .int x1), (2, .int x2)]) (pc' := 94) dX4_canGo_91 rfl rfl (Nat.le_of_ble_eq_true rfl) rfl rfl ?_
              refine jj_goto (tgt := 5) dX4_canGo_94 rfl ?_
              exact jj_pick [3, 4, 5, 1, 0] rfl (ih a0 x1 x2 ((1 : Int32)) (x4 + (1 : Int32)) h115 _ hF)
set_option maxRecDepth 100000 in
set_option maxHeartbeats 4000000 in
theorem JX4_canGo {N : Nat} {a0 : Nat} {x1 : Int32} {x2 : Int32} {h : jm_H} {X : jm_X} (hF : FX4_canGo N a0 x1 x2 h = some X) : jm_J M_X4_canGo 0 [(0, .ref a0), (1, .int x1), (2, .int x2)] [] h 0 0 X := by
  unfold FX4_canGo at hF
  refine jj_iconst (v := (1 : Int32)) (pc' := 1) dX4_canGo_0 rfl rfl ?_
  refine jj_istore_n (i := 3) (ls' := [(3, .int ((1 : Int32))), (0, .ref a0), (1, .int x1), (2, .int x2)]) (pc' := 2) dX4_canGo_1 rfl (Nat.le_of_ble_eq_true rfl) rfl rfl ?_
  refine jj_iconst (v := (0 : Int32)) (pc' := 3) dX4_canGo_2 rfl rfl ?_
  refine jj_istore (i := 4) (ls' := [(4, .int ((0 : Int32))), (3, .int ((1 : Int32))), (0, .ref a0), (1, .int x1), (2, .int x2)]) (pc' := 5) dX4_canGo_3 (Nat.le_of_ble_eq_true rfl) rfl rfl ?_
  exact jj_pick [2, 3, 4, 1, 0] rfl (BX4_canGo_5 N N a0 x1 x2 ((1 : Int32)) ((0 : Int32)) h _ hF)
theorem KX4_canGo {N : Nat} {a0 : Nat} {x1 : Int32} {x2 : Int32} {h : jm_H} {X : jm_X} (hF : FX4_canGo N a0 x1 x2 h = some X) : jm_K M_X4_canGo [.ref a0, .int x1, .int x2] h X := jk_of rfl (by decide +kernel) rfl rfl (Nat.le_of_ble_eq_true rfl) (JX4_canGo hF)

set_option maxRecDepth 100000 in
set_option maxHeartbeats 4000000 in
theorem BX4_move_85 (N : Nat) : ∀ (n : Nat) (a0 : Nat) (x1 : Int32) (x3 : Int32) (x4 : Int32) (h : jm_H) (X : jm_X), FX4_move_85 N n a0 x1 x3 x4 h = some X → jm_J M_X4_move 85 [(0, .ref a0), (1, .int x1), (3, .int x3), (4, .int x4)] [] h 0 0 X := by
  intro n
  induction n with
  | zero =>
    intro a0 x1 x3 x4 h X hF
    exact nomatch (show (none : Option jm_X) = some X from hF)
  | succ n ih =>
    intro a0 x1 x3 x4 h X hF
    rw [FX4_move_85] at hF
    refine jj_iload (j := 3) (i := 4) (pc' := 87) dX4_move_85 rfl rfl ?_
    refine jj_iconst (v := (3 : Int32)) (pc' := 88) dX4_move_87 rfl rfl ?_
    refine jj_icmp_ge (tgt := 137) (pc' := 91) dX4_move_88 rfl rfl (fun hc hF => ?_) (fun hc hF => ?_) hF
    · skip
      refine jj_iload_n (j := 2) (i := 3) (pc' := 138) dX4_move_137 rfl rfl rfl ?_
      exact jj_retI (ty := .int) rfl rfl dX4_move_138 ⟨Nat.le_of_ble_eq_true rfl, Nat.le_of_ble_eq_true rfl⟩ hF
    · skip
      refine jj_aload_n (j := 0) (i := 0) (pc' := 92) dX4_move_91 rfl rfl rfl ?_
      refine jj_iload (j := 3) (i := 4) (pc' := 94) dX4_move_92 rfl rfl ?_
      refine jj_iload_n (j := 1) (i := 1) (pc' := 95) dX4_move_94 rfl rfl rfl ?_
      refine jj_cI (N := M_X4_goes) (kc' := 0) (ks' := 0) (pc' := 98) (jg_V (N := M_X4_goes) (ci := 4) (rest := []) (as := [.int x4, .int x1]) cf_X4_121 dX4_move_95 ⟨rfl, rfl⟩ rfl rfl ⟨Nat.le_of_ble_eq_true rfl, Nat.le_of_ble_eq_true rfl⟩ ⟨Nat.le_of_ble_eq_true rfl, Nat.le_of_ble_eq_true rfl⟩ (Nat.le_of_ble_eq_true rfl) (fun X' hX => KX4_goes hX)) rfl rfl rfl rfl ⟨Nat.le_of_ble_eq_true rfl, Nat.le_of_ble_eq_true rfl⟩ rfl hF (fun x102 h101 hF => ?_)
      refine jj_if_eq (tgt := 131) (pc' := 101) dX4_move_98 rfl rfl (fun hc hF => ?_) (fun hc hF => ?_) hF
      · skip
        refine jj_iinc (i := 4) (j := 3) (v := x4 + (1 : Int32)) (ls' := [(4, .int (x4 + (1 : Int32))), (0, .ref a0), (1, .int x1), (3, .int x3)]) (pc' := 134) dX4_move_131 rfl rfl (Nat.le_of_ble_eq_true rfl) rfl rfl ?_
        refine jj_goto (tgt := 85) dX4_move_134 rfl ?_
        exact jj_pick [1, 2, 3, 0] rfl (ih a0 x1 x3 (x4 + (1 : Int32)) h101 _ hF)
      · skip
        refine jj_aload_n (j := 0) (i := 0) (pc' := 102) dX4_move_101 rfl rfl rfl ?_
        refine jj_iload (j := 3) (i := 4) (pc' := 104) dX4_move_102 rfl rfl ?_
        refine jj_iload_n (j := 1) (i := 1) (pc' := 105) dX4_move_104 rfl rfl rfl ?_
        refine jj_cI (N := M_X4_canGo) (kc' := 0) (ks' := 0) (pc' := 108) (jg_V (N := M_X4_canGo) (ci := 4) (rest := []) (as := [.int x4, .int x1]) cf_X4_125 dX4_move_105 ⟨rfl, rfl⟩ rfl rfl ⟨Nat.le_of_ble_eq_true rfl, Nat.le_of_ble_eq_true rfl⟩ ⟨Nat.le_of_ble_eq_true rfl, Nat.le_of_ble_eq_true rfl⟩ (Nat.le_of_ble_eq_true rfl) (fun X' hX => KX4_canGo hX)) rfl rfl rfl rfl ⟨Nat.le_of_ble_eq_true rfl, Nat.le_of_ble_eq_true rfl⟩ rfl hF (fun x104 h103 hF => ?_)
        refine jj_if_ne (tgt := 131) (pc' := 111) dX4_move_108 rfl rfl (fun hc hF => ?_) (fun hc hF => ?_) hF
        · skip
          refine jj_iinc (i := 4) (j := 3) (v := x4 + (1 : Int32)) (ls' := [(4, .int (x4 + (1 : Int32))), (0, .ref a0), (1, .int x1), (3, .int x3)]) (pc' := 134) dX4_move_131 rfl rfl (Nat.le_of_ble_eq_true rfl) rfl rfl ?_
          refine jj_goto (tgt := 85) dX4_move_134 rfl ?_
          exact jj_pick [1, 2, 3, 0] rfl (ih a0 x1 x3 (x4 + (1 : Int32)) h103 _ hF)
        · skip
          refine jj_aload_n (j := 0) (i := 0) (pc' := 112) dX4_move_111 rfl rfl rfl ?_
          refine jj_iload_n (j := 1) (i := 1) (pc' := 113) dX4_move_112 rfl rfl rfl ?_
          refine jj_iconst (v := (4 : Int32)) (pc' := 114) dX4_move_113 rfl rfl ?_
          refine jj_aload_n (j := 0) (i := 0) (pc' := 115) dX4_move_114 rfl rfl rfl ?_
          refine jj_iload_n (j := 1) (i := 1) (pc' := 116) dX4_move_115 rfl rfl rfl ?_
          refine jj_iconst (v := (4 : Int32)) (pc' := 117) dX4_move_116 rfl rfl ?_
          refine jj_cI (N := M_X4_of) (kc' := 0) (ks' := 0) (pc' := 120) (jg_V (N := M_X4_of) (ci := 4) (rest := [.int ((4 : Int32)), .int x1, .ref a0]) (as := [.int x1, .int ((4 : Int32))]) cf_X4_47 dX4_move_117 ⟨rfl, rfl⟩ rfl rfl ⟨Nat.le_of_ble_eq_true rfl, Nat.le_of_ble_eq_true rfl⟩ ⟨Nat.le_of_ble_eq_true rfl, Nat.le_of_ble_eq_true rfl⟩ (Nat.le_of_ble_eq_true rfl) (fun X' hX => KX4_of hX)) rfl rfl rfl rfl ⟨Nat.le_of_ble_eq_true rfl, Nat.le_of_ble_eq_true rfl⟩ rfl hF (fun x106 h105 hF => ?_)
          refine jj_iconst (v := (1 : Int32)) (pc' := 121) dX4_move_120 rfl rfl ?_
          refine jj_iload (j := 3) (i := 4) (pc' := 123) dX4_move_121 rfl rfl ?_
          refine jj_ishl (pc' := 124) dX4_move_123 rfl ?_
          refine jj_isub (pc' := 125) dX4_move_124 rfl ?_
          refine jj_cV (N := M_X4_becomes) (kc' := 0) (ks' := 0) (pc' := 128) (jg_V (N := M_X4_becomes) (ci := 4) (rest := []) (as := [.int x1, .int ((4 : Int32)), .int (x106 - (((1 : Int32)) <<< (x4 &&& 31)))]) cf_X4_85 dX4_move_125 ⟨rfl, rfl⟩ rfl rfl ⟨Nat.le_of_ble_eq_true rfl, Nat.le_of_ble_eq_true rfl⟩ ⟨Nat.le_of_ble_eq_true rfl, Nat.le_of_ble_eq_true rfl⟩ (Nat.le_of_ble_eq_true rfl) (fun X' hX => KX4_becomes hX)) rfl rfl rfl rfl ⟨Nat.le_of_ble_eq_true rfl, Nat.le_of_ble_eq_true rfl⟩ rfl hF (fun h107 hF => ?_)
          refine jj_iinc (i := 3) (j := 2) (v := x3 + (1 : Int32)) (ls' := [(3, .int (x3 + (1 : Int32))), (0, .ref a0), (1, .int x1), (4, .int x4)]) (pc' := 131) dX4_move_128 rfl rfl (Nat.le_of_ble_eq_true rfl) rfl rfl ?_
          refine jj_iinc (i := 4) (j := 3) (v := x4 + (1 : Int32)) (ls' := [(4, .int (x4 + (1 : Int32))), (3, .int (x3 + (1 : Int32))), (0, .ref a0), (1, .int x1)]) (pc' := 134) dX4_move_131 rfl rfl (Nat.le_of_ble_eq_true rfl) rfl rfl ?_
          refine jj_goto (tgt := 85) dX4_move_134 rfl ?_
          exact jj_pick [2, 3, 1, 0] rfl (ih a0 x1 (x3 + (1 : Int32)) (x4 + (1 : Int32)) h107 _ hF)
set_option maxRecDepth 100000 in
set_option maxHeartbeats 4000000 in
theorem JX4_move {N : Nat} {a0 : Nat} {x1 : Int32} {x2 : Int32} {h : jm_H} {X : jm_X} (hF : FX4_move N a0 x1 x2 h = some X) : jm_J M_X4_move 0 [(0, .ref a0), (1, .int x1), (2, .int x2)] [] h 0 0 X := by
  unfold FX4_move at hF
  refine jj_aload_n (j := 0) (i := 0) (pc' := 1) dX4_move_0 rfl rfl rfl ?_
  refine jj_iconst (v := (0 : Int32)) (pc' := 2) dX4_move_1 rfl rfl ?_
  refine jj_p (C := RX4) (T := TX4) (N := 15) (ci := 4) (k := 7) (ty := tyX4) (pc' := 5) dX4_move_2 rfl rfl inX4 tyX4_ok nmX4 (by decide) qw_79 rfl (fun _ => ⟨rfl, rfl⟩) hF (fun h101 hF => ?_)
  refine jj_aload_n (j := 0) (i := 0) (pc' := 6) dX4_move_5 rfl rfl rfl ?_
  refine jj_iload_n (j := 1) (i := 1) (pc' := 7) dX4_move_6 rfl rfl rfl ?_
  refine jj_cI (N := M_X4_isShowing) (kc' := 0) (ks' := 0) (pc' := 10) (jg_V (N := M_X4_isShowing) (ci := 4) (rest := []) (as := [.int x1]) cf_X4_115 dX4_move_7 ⟨rfl, rfl⟩ rfl rfl ⟨Nat.le_of_ble_eq_true rfl, Nat.le_of_ble_eq_true rfl⟩ ⟨Nat.le_of_ble_eq_true rfl, Nat.le_of_ble_eq_true rfl⟩ (Nat.le_of_ble_eq_true rfl) (fun X' hX => KX4_isShowing hX)) rfl rfl rfl rfl ⟨Nat.le_of_ble_eq_true rfl, Nat.le_of_ble_eq_true rfl⟩ rfl hF (fun x103 h102 hF => ?_)
  refine jj_if_ne (tgt := 19) (pc' := 13) dX4_move_10 rfl rfl (fun hc hF => ?_) (fun hc hF => ?_) hF
  · skip
    refine jj_iload_n (j := 2) (i := 2) (pc' := 20) dX4_move_19 rfl rfl rfl ?_
    refine jj_cI (N := M_X4_isMinute) (kc' := 0) (ks' := 0) (pc' := 23) (jg_S (N := M_X4_isMinute) (rest := []) (as := [.int x2]) cf_X4_105 rfl dX4_move_20 rfl rfl ⟨Nat.le_of_ble_eq_true rfl, Nat.le_of_ble_eq_true rfl⟩ ⟨Nat.le_of_ble_eq_true rfl, Nat.le_of_ble_eq_true rfl⟩ (Nat.le_of_ble_eq_true rfl) (fun X' hX => KX4_isMinute hX)) rfl rfl rfl rfl ⟨Nat.le_of_ble_eq_true rfl, Nat.le_of_ble_eq_true rfl⟩ rfl hF (fun x105 h104 hF => ?_)
    refine jj_if_ne (tgt := 32) (pc' := 26) dX4_move_23 rfl rfl (fun hc hF => ?_) (fun hc hF => ?_) hF
    · skip
      refine jj_aload_n (j := 0) (i := 0) (pc' := 33) dX4_move_32 rfl rfl rfl ?_
      refine jj_aload_n (j := 0) (i := 0) (pc' := 34) dX4_move_33 rfl rfl rfl ?_
      refine jj_iload_n (j := 1) (i := 1) (pc' := 35) dX4_move_34 rfl rfl rfl ?_
      refine jj_iconst (v := (0 : Int32)) (pc' := 36) dX4_move_35 rfl rfl ?_
      refine jj_cI (N := M_X4_of) (kc' := 0) (ks' := 0) (pc' := 39) (jg_V (N := M_X4_of) (ci := 4) (rest := [.ref a0]) (as := [.int x1, .int ((0 : Int32))]) cf_X4_47 dX4_move_36 ⟨rfl, rfl⟩ rfl rfl ⟨Nat.le_of_ble_eq_true rfl, Nat.le_of_ble_eq_true rfl⟩ ⟨Nat.le_of_ble_eq_true rfl, Nat.le_of_ble_eq_true rfl⟩ (Nat.le_of_ble_eq_true rfl) (fun X' hX => KX4_of hX)) rfl rfl rfl rfl ⟨Nat.le_of_ble_eq_true rfl, Nat.le_of_ble_eq_true rfl⟩ rfl hF (fun x107 h106 hF => ?_)
      refine jj_aload_n (j := 0) (i := 0) (pc' := 40) dX4_move_39 rfl rfl rfl ?_
      refine jj_iload_n (j := 1) (i := 1) (pc' := 41) dX4_move_40 rfl rfl rfl ?_
      refine jj_iconst (v := (1 : Int32)) (pc' := 42) dX4_move_41 rfl rfl ?_
      refine jj_cI (N := M_X4_of) (kc' := 0) (ks' := 0) (pc' := 45) (jg_V (N := M_X4_of) (ci := 4) (rest := [.int x107, .ref a0]) (as := [.int x1, .int ((1 : Int32))]) cf_X4_47 dX4_move_42 ⟨rfl, rfl⟩ rfl rfl ⟨Nat.le_of_ble_eq_true rfl, Nat.le_of_ble_eq_true rfl⟩ ⟨Nat.le_of_ble_eq_true rfl, Nat.le_of_ble_eq_true rfl⟩ (Nat.le_of_ble_eq_true rfl) (fun X' hX => KX4_of hX)) rfl rfl rfl rfl ⟨Nat.le_of_ble_eq_true rfl, Nat.le_of_ble_eq_true rfl⟩ rfl hF (fun x109 h108 hF => ?_)
      refine jj_iload_n (j := 2) (i := 2) (pc' := 46) dX4_move_45 rfl rfl rfl ?_
      refine jj_aload_n (j := 0) (i := 0) (pc' := 47) dX4_move_46 rfl rfl rfl ?_
      refine jj_iload_n (j := 1) (i := 1) (pc' := 48) dX4_move_47 rfl rfl rfl ?_
      refine jj_iconst (v := (3 : Int32)) (pc' := 49) dX4_move_48 rfl rfl ?_
      refine jj_cI (N := M_X4_of) (kc' := 0) (ks' := 0) (pc' := 52) (jg_V (N := M_X4_of) (ci := 4) (rest := [.int x2, .int x109, .int x107, .ref a0]) (as := [.int x1, .int ((3 : Int32))]) cf_X4_47 dX4_move_49 ⟨rfl, rfl⟩ rfl rfl ⟨Nat.le_of_ble_eq_true rfl, Nat.le_of_ble_eq_true rfl⟩ ⟨Nat.le_of_ble_eq_true rfl, Nat.le_of_ble_eq_true rfl⟩ (Nat.le_of_ble_eq_true rfl) (fun X' hX => KX4_of hX)) rfl rfl rfl rfl ⟨Nat.le_of_ble_eq_true rfl, Nat.le_of_ble_eq_true rfl⟩ rfl hF (fun x111 h110 hF => ?_)
      refine jj_iload_n (j := 1) (i := 1) (pc' := 53) dX4_move_52 rfl rfl rfl ?_
      refine jj_cV (N := M_X4_looks) (kc' := 0) (ks' := 0) (pc' := 56) (jg_V (N := M_X4_looks) (ci := 4) (rest := []) (as := [.int x107, .int x109, .int x2, .int x111, .int x1]) cf_X4_81 dX4_move_53 ⟨rfl, rfl⟩ rfl rfl ⟨Nat.le_of_ble_eq_true rfl, Nat.le_of_ble_eq_true rfl⟩ ⟨Nat.le_of_ble_eq_true rfl, Nat.le_of_ble_eq_true rfl⟩ (Nat.le_of_ble_eq_true rfl) (fun X' hX => KX4_looks hX)) rfl rfl rfl rfl ⟨Nat.le_of_ble_eq_true rfl, Nat.le_of_ble_eq_true rfl⟩ rfl hF (fun h112 hF => ?_)
      refine jj_aload_n (j := 0) (i := 0) (pc' := 57) dX4_move_56 rfl rfl rfl ?_
      refine jj_gI (C := RX4) (T := TX4) (N := 15) (ci := 4) (k := 8) (pc' := 60) dX4_move_57 rfl rfl inX4 (by decide) qw_81 hF (fun x113 hF => ?_)
      refine jj_if_eq (tgt := 69) (pc' := 63) dX4_move_60 rfl rfl (fun hc hF => ?_) (fun hc hF => ?_) hF
      · skip
        refine jj_aload_n (j := 0) (i := 0) (pc' := 70) dX4_move_69 rfl rfl rfl ?_
        refine jj_cV (N := M_X4_saves) (kc' := 0) (ks' := 0) (pc' := 73) (jg_V (N := M_X4_saves) (ci := 4) (rest := []) (as := []) cf_X4_95 dX4_move_70 ⟨rfl, rfl⟩ rfl rfl ⟨Nat.le_of_ble_eq_true rfl, Nat.le_of_ble_eq_true rfl⟩ ⟨Nat.le_of_ble_eq_true rfl, Nat.le_of_ble_eq_true rfl⟩ (Nat.le_of_ble_eq_true rfl) (fun X' hX => KX4_saves hX)) rfl rfl rfl rfl ⟨Nat.le_of_ble_eq_true rfl, Nat.le_of_ble_eq_true rfl⟩ rfl hF (fun h114 hF => ?_)
        refine jj_aload_n (j := 0) (i := 0) (pc' := 74) dX4_move_73 rfl rfl rfl ?_
        refine jj_iload_n (j := 1) (i := 1) (pc' := 75) dX4_move_74 rfl rfl rfl ?_
        refine jj_iconst (v := (2 : Int32)) (pc' := 76) dX4_move_75 rfl rfl ?_
        refine jj_iload_n (j := 2) (i := 2) (pc' := 77) dX4_move_76 rfl rfl rfl ?_
        refine jj_cV (N := M_X4_becomes) (kc' := 0) (ks' := 0) (pc' := 80) (jg_V (N := M_X4_becomes) (ci := 4) (rest := []) (as := [.int x1, .int ((2 : Int32)), .int x2]) cf_X4_85 dX4_move_77 ⟨rfl, rfl⟩ rfl rfl ⟨Nat.le_of_ble_eq_true rfl, Nat.le_of_ble_eq_true rfl⟩ ⟨Nat.le_of_ble_eq_true rfl, Nat.le_of_ble_eq_true rfl⟩ (Nat.le_of_ble_eq_true rfl) (fun X' hX => KX4_becomes hX)) rfl rfl rfl rfl ⟨Nat.le_of_ble_eq_true rfl, Nat.le_of_ble_eq_true rfl⟩ rfl hF (fun h115 hF => ?_)
        refine jj_iconst (v := (0 : Int32)) (pc' := 81) dX4_move_80 rfl rfl ?_
        refine jj_istore_n (i := 3) (ls' := [(3, .int ((0 : Int32))), (0, .ref a0), (1, .int x1), (2, .int x2)]) (pc' := 82) dX4_move_81 rfl (Nat.le_of_ble_eq_true rfl) rfl rfl ?_
        refine jj_iconst (v := (0 : Int32)) (pc' := 83) dX4_move_82 rfl rfl ?_
        refine jj_istore (i := 4) (ls' := [(4, .int ((0 : Int32))), (3, .int ((0 : Int32))), (0, .ref a0), (1, .int x1), (2, .int x2)]) (pc' := 85) dX4_move_83 (Nat.le_of_ble_eq_true rfl) rfl rfl ?_
        exact jj_pick [2, 3, 1, 0] rfl (BX4_move_85 N N a0 x1 ((0 : Int32)) ((0 : Int32)) h115 _ hF)
      · skip
        refine jj_aload_n (j := 0) (i := 0) (pc' := 64) dX4_move_63 rfl rfl rfl ?_
        refine jj_iconst (v := (3 : Int32)) (pc' := 65) dX4_move_64 rfl rfl ?_
        refine jj_cI (N := M_X4_refuses) (kc' := 0) (ks' := 0) (pc' := 68) (jg_V (N := M_X4_refuses) (ci := 4) (rest := []) (as := [.int ((3 : Int32))]) cf_X4_92 dX4_move_65 ⟨rfl, rfl⟩ rfl rfl ⟨Nat.le_of_ble_eq_true rfl, Nat.le_of_ble_eq_true rfl⟩ ⟨Nat.le_of_ble_eq_true rfl, Nat.le_of_ble_eq_true rfl⟩ (Nat.le_of_ble_eq_true rfl) (fun X' hX => KX4_refuses hX)) rfl rfl rfl rfl ⟨Nat.le_of_ble_eq_true rfl, Nat.le_of_ble_eq_true rfl⟩ rfl hF (fun x117 h116 hF => ?_)
        exact jj_retI (ty := .int) rfl rfl dX4_move_68 ⟨Nat.le_of_ble_eq_true rfl, Nat.le_of_ble_eq_true rfl⟩ hF
    · skip
      refine jj_aload_n (j := 0) (i := 0) (pc' := 27) dX4_move_26 rfl rfl rfl ?_
      refine jj_iconst (v := (2 : Int32)) (pc' := 28) dX4_move_27 rfl rfl ?_
      refine jj_cI (N := M_X4_refuses) (kc' := 0) (ks' := 0) (pc' := 31) (jg_V (N := M_X4_refuses) (ci := 4) (rest := []) (as := [.int ((2 : Int32))]) cf_X4_92 dX4_move_28 ⟨rfl, rfl⟩ rfl rfl ⟨Nat.le_of_ble_eq_true rfl, Nat.le_of_ble_eq_true rfl⟩ ⟨Nat.le_of_ble_eq_true rfl, Nat.le_of_ble_eq_true rfl⟩ (Nat.le_of_ble_eq_true rfl) (fun X' hX => KX4_refuses hX)) rfl rfl rfl rfl ⟨Nat.le_of_ble_eq_true rfl, Nat.le_of_ble_eq_true rfl⟩ rfl hF (fun x119 h118 hF => ?_)
      exact jj_retI (ty := .int) rfl rfl dX4_move_31 ⟨Nat.le_of_ble_eq_true rfl, Nat.le_of_ble_eq_true rfl⟩ hF
  · skip
    refine jj_aload_n (j := 0) (i := 0) (pc' := 14) dX4_move_13 rfl rfl rfl ?_
    refine jj_iconst (v := (1 : Int32)) (pc' := 15) dX4_move_14 rfl rfl ?_
    refine jj_cI (N := M_X4_refuses) (kc' := 0) (ks' := 0) (pc' := 18) (jg_V (N := M_X4_refuses) (ci := 4) (rest := []) (as := [.int ((1 : Int32))]) cf_X4_92 dX4_move_15 ⟨rfl, rfl⟩ rfl rfl ⟨Nat.le_of_ble_eq_true rfl, Nat.le_of_ble_eq_true rfl⟩ ⟨Nat.le_of_ble_eq_true rfl, Nat.le_of_ble_eq_true rfl⟩ (Nat.le_of_ble_eq_true rfl) (fun X' hX => KX4_refuses hX)) rfl rfl rfl rfl ⟨Nat.le_of_ble_eq_true rfl, Nat.le_of_ble_eq_true rfl⟩ rfl hF (fun x121 h120 hF => ?_)
    exact jj_retI (ty := .int) rfl rfl dX4_move_18 ⟨Nat.le_of_ble_eq_true rfl, Nat.le_of_ble_eq_true rfl⟩ hF
theorem KX4_move {N : Nat} {a0 : Nat} {x1 : Int32} {x2 : Int32} {h : jm_H} {X : jm_X} (hF : FX4_move N a0 x1 x2 h = some X) : jm_K M_X4_move [.ref a0, .int x1, .int x2] h X := jk_of rfl (by decide +kernel) rfl rfl (Nat.le_of_ble_eq_true rfl) (JX4_move hF)
set_option maxRecDepth 100000 in
set_option maxHeartbeats 4000000 in
theorem JX4_guest {N : Nat} {a0 : Nat} {x1 : Int32} {x2 : Int32} {x3 : Int32} {h : jm_H} {X : jm_X} (hF : FX4_guest N a0 x1 x2 x3 h = some X) : jm_J M_X4_guest 0 [(0, .ref a0), (1, .int x1), (2, .int x2), (3, .int x3)] [] h 0 0 X := by
  unfold FX4_guest at hF
  refine jj_aload_n (j := 0) (i := 0) (pc' := 1) dX4_guest_0 rfl rfl rfl ?_
  refine jj_iconst (v := (0 : Int32)) (pc' := 2) dX4_guest_1 rfl rfl ?_
  refine jj_p (C := RX4) (T := TX4) (N := 15) (ci := 4) (k := 7) (ty := tyX4) (pc' := 5) dX4_guest_2 rfl rfl inX4 tyX4_ok nmX4 (by decide) qw_79 rfl (fun _ => ⟨rfl, rfl⟩) hF (fun h101 hF => ?_)
  refine jj_aload_n (j := 0) (i := 0) (pc' := 6) dX4_guest_5 rfl rfl rfl ?_
  refine jj_iload_n (j := 1) (i := 1) (pc' := 7) dX4_guest_6 rfl rfl rfl ?_
  refine jj_cI (N := M_X4_isFilm) (kc' := 0) (ks' := 0) (pc' := 10) (jg_V (N := M_X4_isFilm) (ci := 4) (rest := []) (as := [.int x1]) cf_X4_102 dX4_guest_7 ⟨rfl, rfl⟩ rfl rfl ⟨Nat.le_of_ble_eq_true rfl, Nat.le_of_ble_eq_true rfl⟩ ⟨Nat.le_of_ble_eq_true rfl, Nat.le_of_ble_eq_true rfl⟩ (Nat.le_of_ble_eq_true rfl) (fun X' hX => KX4_isFilm hX)) rfl rfl rfl rfl ⟨Nat.le_of_ble_eq_true rfl, Nat.le_of_ble_eq_true rfl⟩ rfl hF (fun x103 h102 hF => ?_)
  refine jj_if_ne (tgt := 19) (pc' := 13) dX4_guest_10 rfl rfl (fun hc hF => ?_) (fun hc hF => ?_) hF
  · skip
    refine jj_iload_n (j := 2) (i := 2) (pc' := 20) dX4_guest_19 rfl rfl rfl ?_
    refine jj_cI (N := M_X4_isMinute) (kc' := 0) (ks' := 0) (pc' := 23) (jg_S (N := M_X4_isMinute) (rest := []) (as := [.int x2]) cf_X4_105 rfl dX4_guest_20 rfl rfl ⟨Nat.le_of_ble_eq_true rfl, Nat.le_of_ble_eq_true rfl⟩ ⟨Nat.le_of_ble_eq_true rfl, Nat.le_of_ble_eq_true rfl⟩ (Nat.le_of_ble_eq_true rfl) (fun X' hX => KX4_isMinute hX)) rfl rfl rfl rfl ⟨Nat.le_of_ble_eq_true rfl, Nat.le_of_ble_eq_true rfl⟩ rfl hF (fun x105 h104 hF => ?_)
    refine jj_if_eq (tgt := 38) (pc' := 26) dX4_guest_23 rfl rfl (fun hc hF => ?_) (fun hc hF => ?_) hF
    · skip
      refine jj_aload_n (j := 0) (i := 0) (pc' := 39) dX4_guest_38 rfl rfl rfl ?_
      refine jj_iconst (v := (2 : Int32)) (pc' := 40) dX4_guest_39 rfl rfl ?_
      refine jj_cI (N := M_X4_refuses) (kc' := 0) (ks' := 0) (pc' := 43) (jg_V (N := M_X4_refuses) (ci := 4) (rest := []) (as := [.int ((2 : Int32))]) cf_X4_92 dX4_guest_40 ⟨rfl, rfl⟩ rfl rfl ⟨Nat.le_of_ble_eq_true rfl, Nat.le_of_ble_eq_true rfl⟩ ⟨Nat.le_of_ble_eq_true rfl, Nat.le_of_ble_eq_true rfl⟩ (Nat.le_of_ble_eq_true rfl) (fun X' hX => KX4_refuses hX)) rfl rfl rfl rfl ⟨Nat.le_of_ble_eq_true rfl, Nat.le_of_ble_eq_true rfl⟩ rfl hF (fun x107 h106 hF => ?_)
      exact jj_retI (ty := .int) rfl rfl dX4_guest_43 ⟨Nat.le_of_ble_eq_true rfl, Nat.le_of_ble_eq_true rfl⟩ hF
    · skip
      refine jj_iload_n (j := 3) (i := 3) (pc' := 27) dX4_guest_26 rfl rfl rfl ?_
      refine jj_iload_n (j := 2) (i := 2) (pc' := 28) dX4_guest_27 rfl rfl rfl ?_
      refine jj_icmp_le (tgt := 38) (pc' := 31) dX4_guest_28 rfl rfl (fun hc hF => ?_) (fun hc hF => ?_) hF
      · skip
        refine jj_aload_n (j := 0) (i := 0) (pc' := 39) dX4_guest_38 rfl rfl rfl ?_
        refine jj_iconst (v := (2 : Int32)) (pc' := 40) dX4_guest_39 rfl rfl ?_
        refine jj_cI (N := M_X4_refuses) (kc' := 0) (ks' := 0) (pc' := 43) (jg_V (N := M_X4_refuses) (ci := 4) (rest := []) (as := [.int ((2 : Int32))]) cf_X4_92 dX4_guest_40 ⟨rfl, rfl⟩ rfl rfl ⟨Nat.le_of_ble_eq_true rfl, Nat.le_of_ble_eq_true rfl⟩ ⟨Nat.le_of_ble_eq_true rfl, Nat.le_of_ble_eq_true rfl⟩ (Nat.le_of_ble_eq_true rfl) (fun X' hX => KX4_refuses hX)) rfl rfl rfl rfl ⟨Nat.le_of_ble_eq_true rfl, Nat.le_of_ble_eq_true rfl⟩ rfl hF (fun x109 h108 hF => ?_)
        exact jj_retI (ty := .int) rfl rfl dX4_guest_43 ⟨Nat.le_of_ble_eq_true rfl, Nat.le_of_ble_eq_true rfl⟩ hF
      · skip
        refine jj_iload_n (j := 3) (i := 3) (pc' := 32) dX4_guest_31 rfl rfl rfl ?_
        refine jj_sipush (v := (2000 : Int32)) (pc' := 35) dX4_guest_32 rfl rfl ?_
        refine jj_icmp_le (tgt := 44) (pc' := 38) dX4_guest_35 rfl rfl (fun hc hF => ?_) (fun hc hF => ?_) hF
        · skip
          refine jj_aload_n (j := 0) (i := 0) (pc' := 45) dX4_guest_44 rfl rfl rfl ?_
          refine jj_gR (C := RX4) (T := TX4) (N := 15) (ci := 4) (k := 0) (pc' := 48) dX4_guest_45 rfl rfl inX4 (by decide) qw_73 hF (fun r110 hF => ?_)
          refine jj_iconst (v := (2 : Int32)) (pc' := 49) dX4_guest_48 rfl rfl ?_
          refine jj_ldI (pc' := 50) dX4_guest_49 rfl hF (fun x111 hF => ?_)
          refine jj_bipush (v := (6 : Int32)) (pc' := 52) dX4_guest_50 rfl rfl ?_
          refine jj_icmp_ne (tgt := 61) (pc' := 55) dX4_guest_52 rfl rfl (fun hc hF => ?_) (fun hc hF => ?_) hF
          · skip
            refine jj_aload_n (j := 0) (i := 0) (pc' := 62) dX4_guest_61 rfl rfl rfl ?_
            refine jj_cV (N := M_X4_saves) (kc' := 0) (ks' := 0) (pc' := 65) (jg_V (N := M_X4_saves) (ci := 4) (rest := []) (as := []) cf_X4_95 dX4_guest_62 ⟨rfl, rfl⟩ rfl rfl ⟨Nat.le_of_ble_eq_true rfl, Nat.le_of_ble_eq_true rfl⟩ ⟨Nat.le_of_ble_eq_true rfl, Nat.le_of_ble_eq_true rfl⟩ (Nat.le_of_ble_eq_true rfl) (fun X' hX => KX4_saves hX)) rfl rfl rfl rfl ⟨Nat.le_of_ble_eq_true rfl, Nat.le_of_ble_eq_true rfl⟩ rfl hF (fun h112 hF => ?_)
            refine jj_bipush (v := (86 : Int32)) (pc' := 67) dX4_guest_65 rfl rfl ?_
            refine jj_iconst (v := (3 : Int32)) (pc' := 68) dX4_guest_67 rfl rfl ?_
            refine jj_aload_n (j := 0) (i := 0) (pc' := 69) dX4_guest_68 rfl rfl rfl ?_
            refine jj_gR (C := RX4) (T := TX4) (N := 15) (ci := 4) (k := 0) (pc' := 72) dX4_guest_69 rfl rfl inX4 (by decide) qw_73 hF (fun r113 hF => ?_)
            refine jj_iconst (v := (2 : Int32)) (pc' := 73) dX4_guest_72 rfl rfl ?_
            refine jj_ldI (pc' := 74) dX4_guest_73 rfl hF (fun x114 hF => ?_)
            refine jj_imul (pc' := 75) dX4_guest_74 rfl ?_
            refine jj_iadd (pc' := 76) dX4_guest_75 rfl ?_
            refine jj_istore (i := 4) (ls' := [(4, .int (((86 : Int32)) + (((3 : Int32)) * x114))), (0, .ref a0), (1, .int x1), (2, .int x2), (3, .int x3)]) (pc' := 78) dX4_guest_76 (Nat.le_of_ble_eq_true rfl) rfl rfl ?_
            refine jj_aload_n (j := 1) (i := 0) (pc' := 79) dX4_guest_78 rfl rfl rfl ?_
            refine jj_gR (C := RX4) (T := TX4) (N := 15) (ci := 4) (k := 0) (pc' := 82) dX4_guest_79 rfl rfl inX4 (by decide) qw_73 hF (fun r115 hF => ?_)
            refine jj_iload (j := 0) (i := 4) (pc' := 84) dX4_guest_82 rfl rfl ?_
            refine jj_iload_n (j := 2) (i := 1) (pc' := 85) dX4_guest_84 rfl rfl rfl ?_
            refine jj_stI (pc' := 86) dX4_guest_85 rfl hF (fun h116 hF => ?_)
            refine jj_aload_n (j := 1) (i := 0) (pc' := 87) dX4_guest_86 rfl rfl rfl ?_
            refine jj_gR (C := RX4) (T := TX4) (N := 15) (ci := 4) (k := 0) (pc' := 90) dX4_guest_87 rfl rfl inX4 (by decide) qw_73 hF (fun r117 hF => ?_)
            refine jj_iload (j := 0) (i := 4) (pc' := 92) dX4_guest_90 rfl rfl ?_
            refine jj_iconst (v := (1 : Int32)) (pc' := 93) dX4_guest_92 rfl rfl ?_
            refine jj_iadd (pc' := 94) dX4_guest_93 rfl ?_
            refine jj_iload_n (j := 3) (i := 2) (pc' := 95) dX4_guest_94 rfl rfl rfl ?_
            refine jj_stI (pc' := 96) dX4_guest_95 rfl hF (fun h118 hF => ?_)
            refine jj_aload_n (j := 1) (i := 0) (pc' := 97) dX4_guest_96 rfl rfl rfl ?_
            refine jj_gR (C := RX4) (T := TX4) (N := 15) (ci := 4) (k := 0) (pc' := 100) dX4_guest_97 rfl rfl inX4 (by decide) qw_73 hF (fun r119 hF => ?_)
            refine jj_iload (j := 0) (i := 4) (pc' := 102) dX4_guest_100 rfl rfl ?_
            refine jj_iconst (v := (2 : Int32)) (pc' := 103) dX4_guest_102 rfl rfl ?_
            refine jj_iadd (pc' := 104) dX4_guest_103 rfl ?_
            refine jj_iload_n (j := 4) (i := 3) (pc' := 105) dX4_guest_104 rfl rfl rfl ?_
            refine jj_stI (pc' := 106) dX4_guest_105 rfl hF (fun h120 hF => ?_)
            refine jj_aload_n (j := 1) (i := 0) (pc' := 107) dX4_guest_106 rfl rfl rfl ?_
            refine jj_gR (C := RX4) (T := TX4) (N := 15) (ci := 4) (k := 0) (pc' := 110) dX4_guest_107 rfl rfl inX4 (by decide) qw_73 hF (fun r121 hF => ?_)
            refine jj_iconst (v := (2 : Int32)) (pc' := 111) dX4_guest_110 rfl rfl ?_
            refine jj_dup2 (pc' := 112) dX4_guest_111 rfl rfl rfl ?_
            refine jj_ldI (pc' := 113) dX4_guest_112 rfl hF (fun x122 hF => ?_)
            refine jj_iconst (v := (1 : Int32)) (pc' := 114) dX4_guest_113 rfl rfl ?_
            refine jj_iadd (pc' := 115) dX4_guest_114 rfl ?_
            refine jj_stI (pc' := 116) dX4_guest_115 rfl hF (fun h123 hF => ?_)
            refine jj_aload_n (j := 1) (i := 0) (pc' := 117) dX4_guest_116 rfl rfl rfl ?_
            refine jj_gR (C := RX4) (T := TX4) (N := 15) (ci := 4) (k := 0) (pc' := 120) dX4_guest_117 rfl rfl inX4 (by decide) qw_73 hF (fun r124 hF => ?_)
            refine jj_iconst (v := (2 : Int32)) (pc' := 121) dX4_guest_120 rfl rfl ?_
            refine jj_ldI (pc' := 122) dX4_guest_121 rfl hF (fun x125 hF => ?_)
            refine jj_iconst (v := (1 : Int32)) (pc' := 123) dX4_guest_122 rfl rfl ?_
            refine jj_isub (pc' := 124) dX4_guest_123 rfl ?_
            exact jj_retI (ty := .int) rfl rfl dX4_guest_124 ⟨Nat.le_of_ble_eq_true rfl, Nat.le_of_ble_eq_true rfl⟩ hF
          · skip
            refine jj_aload_n (j := 0) (i := 0) (pc' := 56) dX4_guest_55 rfl rfl rfl ?_
            refine jj_iconst (v := (3 : Int32)) (pc' := 57) dX4_guest_56 rfl rfl ?_
            refine jj_cI (N := M_X4_refuses) (kc' := 0) (ks' := 0) (pc' := 60) (jg_V (N := M_X4_refuses) (ci := 4) (rest := []) (as := [.int ((3 : Int32))]) cf_X4_92 dX4_guest_57 ⟨rfl, rfl⟩ rfl rfl ⟨Nat.le_of_ble_eq_true rfl, Nat.le_of_ble_eq_true rfl⟩ ⟨Nat.le_of_ble_eq_true rfl, Nat.le_of_ble_eq_true rfl⟩ (Nat.le_of_ble_eq_true rfl) (fun X' hX => KX4_refuses hX)) rfl rfl rfl rfl ⟨Nat.le_of_ble_eq_true rfl, Nat.le_of_ble_eq_true rfl⟩ rfl hF (fun x127 h126 hF => ?_)
            exact jj_retI (ty := .int) rfl rfl dX4_guest_60 ⟨Nat.le_of_ble_eq_true rfl, Nat.le_of_ble_eq_true rfl⟩ hF
        · skip
          refine jj_aload_n (j := 0) (i := 0) (pc' := 39) dX4_guest_38 rfl rfl rfl ?_
          refine jj_iconst (v := (2 : Int32)) (pc' := 40) dX4_guest_39 rfl rfl ?_
          refine jj_cI (N := M_X4_refuses) (kc' := 0) (ks' := 0) (pc' := 43) (jg_V (N := M_X4_refuses) (ci := 4) (rest := []) (as := [.int ((2 : Int32))]) cf_X4_92 dX4_guest_40 ⟨rfl, rfl⟩ rfl rfl ⟨Nat.le_of_ble_eq_true rfl, Nat.le_of_ble_eq_true rfl⟩ ⟨Nat.le_of_ble_eq_true rfl, Nat.le_of_ble_eq_true rfl⟩ (Nat.le_of_ble_eq_true rfl) (fun X' hX => KX4_refuses hX)) rfl rfl rfl rfl ⟨Nat.le_of_ble_eq_true rfl, Nat.le_of_ble_eq_true rfl⟩ rfl hF (fun x129 h128 hF => ?_)
          exact jj_retI (ty := .int) rfl rfl dX4_guest_43 ⟨Nat.le_of_ble_eq_true rfl, Nat.le_of_ble_eq_true rfl⟩ hF
  · skip
    refine jj_aload_n (j := 0) (i := 0) (pc' := 14) dX4_guest_13 rfl rfl rfl ?_
    refine jj_iconst (v := (1 : Int32)) (pc' := 15) dX4_guest_14 rfl rfl ?_
    refine jj_cI (N := M_X4_refuses) (kc' := 0) (ks' := 0) (pc' := 18) (jg_V (N := M_X4_refuses) (ci := 4) (rest := []) (as := [.int ((1 : Int32))]) cf_X4_92 dX4_guest_15 ⟨rfl, rfl⟩ rfl rfl ⟨Nat.le_of_ble_eq_true rfl, Nat.le_of_ble_eq_true rfl⟩ ⟨Nat.le_of_ble_eq_true rfl, Nat.le_of_ble_eq_true rfl⟩ (Nat.le_of_ble_eq_true rfl) (fun X' hX => KX4_refuses hX)) rfl rfl rfl rfl ⟨Nat.le_of_ble_eq_true rfl, Nat.le_of_ble_eq_true rfl⟩ rfl hF (fun x131 h130 hF => ?_)
    exact jj_retI (ty := .int) rfl rfl dX4_guest_18 ⟨Nat.le_of_ble_eq_true rfl, Nat.le_of_ble_eq_true rfl⟩ hF
theorem KX4_guest {N : Nat} {a0 : Nat} {x1 : Int32} {x2 : Int32} {x3 : Int32} {h : jm_H} {X : jm_X} (hF : FX4_guest N a0 x1 x2 x3 h = some X) : jm_K M_X4_guest [.ref a0, .int x1, .int x2, .int x3] h X := jk_of rfl (by decide +kernel) rfl rfl (Nat.le_of_ble_eq_true rfl) (JX4_guest hF)
set_option maxRecDepth 100000 in
set_option maxHeartbeats 4000000 in
theorem JX4_isJuror {x0 : Int32} {h : jm_H} {X : jm_X} (hF : FX4_isJuror x0 h = some X) : jm_J M_X4_isJuror 0 [(0, .int x0)] [] h 0 0 X := by
  unfold FX4_isJuror at hF
  refine jj_iload_n (j := 0) (i := 0) (pc' := 1) dX4_isJuror_0 rfl rfl rfl ?_
  refine jj_iconst (v := (0 : Int32)) (pc' := 2) dX4_isJuror_1 rfl rfl ?_
  refine jj_iconst (v := (2 : Int32)) (pc' := 3) dX4_isJuror_2 rfl rfl ?_
  refine jj_cI (N := M_X4_in) (kc' := 0) (ks' := 0) (pc' := 6) (jg_S (N := M_X4_in) (rest := []) (as := [.int x0, .int ((0 : Int32)), .int ((2 : Int32))]) cf_X4_88 rfl dX4_isJuror_3 rfl rfl ⟨Nat.le_of_ble_eq_true rfl, Nat.le_of_ble_eq_true rfl⟩ ⟨Nat.le_of_ble_eq_true rfl, Nat.le_of_ble_eq_true rfl⟩ (Nat.le_of_ble_eq_true rfl) (fun X' hX => KX4_in hX)) rfl rfl rfl rfl ⟨Nat.le_of_ble_eq_true rfl, Nat.le_of_ble_eq_true rfl⟩ rfl hF (fun x102 h101 hF => ?_)
  exact jj_retZ rfl dX4_isJuror_6 ⟨Nat.le_of_ble_eq_true rfl, Nat.le_of_ble_eq_true rfl⟩ hF
theorem KX4_isJuror {x0 : Int32} {h : jm_H} {X : jm_X} (hF : FX4_isJuror x0 h = some X) : jm_K M_X4_isJuror [.int x0] h X := jk_of rfl (by decide +kernel) rfl rfl (Nat.le_of_ble_eq_true rfl) (JX4_isJuror hF)
set_option maxRecDepth 100000 in
set_option maxHeartbeats 4000000 in
theorem BX4_going_4 (N : Nat) : ∀ (n : Nat) (a0 : Nat) (x1 : Int32) (x2 : Int32) (x3 : Int32) (h : jm_H) (X : jm_X), FX4_going_4 N n a0 x1 x2 x3 h = some X → jm_J M_X4_going 4 [(0, .ref a0), (1, .int x1), (2, .int x2), (3, .int x3)] [] h 0 0 X := by
  intro n
  induction n with
  | zero =>
    intro a0 x1 x2 x3 h X hF
    exact nomatch (show (none : Option jm_X) = some X from hF)
  | succ n ih =>
    intro a0 x1 x2 x3 h X hF
    rw [FX4_going_4] at hF
    refine jj_iload_n (j := 3) (i := 3) (pc' := 5) dX4_going_4 rfl rfl rfl ?_
    refine jj_aload_n (j := 0) (i := 0) (pc' := 6) dX4_going_5 rfl rfl rfl ?_
    refine jj_gR (C := RX4) (T := TX4) (N := 15) (ci := 4) (k := 0) (pc' := 9) dX4_going_6 rfl rfl inX4 (by decide) qw_73 hF (fun r101 hF => ?_)
    refine jj_iconst (v := (1 : Int32)) (pc' := 10) dX4_going_9 rfl rfl ?_
    refine jj_ldI (pc' := 11) dX4_going_10 rfl hF (fun x102 hF => ?_)
    refine jj_icmp_ge (tgt := 37) (pc' := 14) dX4_going_11 rfl rfl (fun hc hF => ?_) (fun hc hF => ?_) hF
    · skip
      refine jj_iload_n (j := 2) (i := 2) (pc' := 38) dX4_going_37 rfl rfl rfl ?_
      exact jj_retI (ty := .int) rfl rfl dX4_going_38 ⟨Nat.le_of_ble_eq_true rfl, Nat.le_of_ble_eq_true rfl⟩ hF
    · skip
      refine jj_iload_n (j := 2) (i := 2) (pc' := 15) dX4_going_14 rfl rfl rfl ?_
      refine jj_aload_n (j := 0) (i := 0) (pc' := 16) dX4_going_15 rfl rfl rfl ?_
      refine jj_iload_n (j := 1) (i := 1) (pc' := 17) dX4_going_16 rfl rfl rfl ?_
      refine jj_iload_n (j := 3) (i := 3) (pc' := 18) dX4_going_17 rfl rfl rfl ?_
      refine jj_cI (N := M_X4_goes) (kc' := 0) (ks' := 0) (pc' := 21) (jg_V (N := M_X4_goes) (ci := 4) (rest := [.int x2]) (as := [.int x1, .int x3]) cf_X4_121 dX4_going_18 ⟨rfl, rfl⟩ rfl rfl ⟨Nat.le_of_ble_eq_true rfl, Nat.le_of_ble_eq_true rfl⟩ ⟨Nat.le_of_ble_eq_true rfl, Nat.le_of_ble_eq_true rfl⟩ (Nat.le_of_ble_eq_true rfl) (fun X' hX => KX4_goes hX)) rfl rfl rfl rfl ⟨Nat.le_of_ble_eq_true rfl, Nat.le_of_ble_eq_true rfl⟩ rfl hF (fun x104 h103 hF => ?_)
      refine jj_if_eq (tgt := 28) (pc' := 24) dX4_going_21 rfl rfl (fun hc hF => ?_) (fun hc hF => ?_) hF
      · skip
        refine jj_iconst (v := (0 : Int32)) (pc' := 29) dX4_going_28 rfl rfl ?_
        refine jj_iadd (pc' := 30) dX4_going_29 rfl ?_
        refine jj_istore_n (i := 2) (ls' := [(2, .int (x2 + ((0 : Int32)))), (0, .ref a0), (1, .int x1), (3, .int x3)]) (pc' := 31) dX4_going_30 rfl (Nat.le_of_ble_eq_true rfl) rfl rfl ?_
        refine jj_iinc (i := 3) (j := 3) (v := x3 + (1 : Int32)) (ls' := [(3, .int (x3 + (1 : Int32))), (2, .int (x2 + ((0 : Int32)))), (0, .ref a0), (1, .int x1)]) (pc' := 34) dX4_going_31 rfl rfl (Nat.le_of_ble_eq_true rfl) rfl rfl ?_
        refine jj_goto (tgt := 4) dX4_going_34 rfl ?_
        exact jj_pick [2, 3, 1, 0] rfl (ih a0 x1 (x2 + ((0 : Int32))) (x3 + (1 : Int32)) h103 _ hF)
      · skip
        refine jj_iconst (v := (1 : Int32)) (pc' := 25) dX4_going_24 rfl rfl ?_
        refine jj_goto (tgt := 29) dX4_going_25 rfl ?_
        refine jj_iadd (pc' := 30) dX4_going_29 rfl ?_
        refine jj_istore_n (i := 2) (ls' := [(2, .int (x2 + ((1 : Int32)))), (0, .ref a0), (1, .int x1), (3, .int x3)]) (pc' := 31) dX4_going_30 rfl (Nat.le_of_ble_eq_true rfl) rfl rfl ?_
        refine jj_iinc (i := 3) (j := 3) (v := x3 + (1 : Int32)) (ls' := [(3, .int (x3 + (1 : Int32))), (2, .int (x2 + ((1 : Int32)))), (0, .ref a0), (1, .int x1)]) (pc' := 34) dX4_going_31 rfl rfl (Nat.le_of_ble_eq_true rfl) rfl rfl ?_
        refine jj_goto (tgt := 4) dX4_going_34 rfl ?_
        exact jj_pick [2, 3, 1, 0] rfl (ih a0 x1 (x2 + ((1 : Int32))) (x3 + (1 : Int32)) h103 _ hF)
set_option maxRecDepth 100000 in
set_option maxHeartbeats 4000000 in
theorem JX4_going {N : Nat} {a0 : Nat} {x1 : Int32} {h : jm_H} {X : jm_X} (hF : FX4_going N a0 x1 h = some X) : jm_J M_X4_going 0 [(0, .ref a0), (1, .int x1)] [] h 0 0 X := by
  unfold FX4_going at hF
  refine jj_iconst (v := (0 : Int32)) (pc' := 1) dX4_going_0 rfl rfl ?_
  refine jj_istore_n (i := 2) (ls' := [(2, .int ((0 : Int32))), (0, .ref a0), (1, .int x1)]) (pc' := 2) dX4_going_1 rfl (Nat.le_of_ble_eq_true rfl) rfl rfl ?_
  refine jj_iconst (v := (0 : Int32)) (pc' := 3) dX4_going_2 rfl rfl ?_
  refine jj_istore_n (i := 3) (ls' := [(3, .int ((0 : Int32))), (2, .int ((0 : Int32))), (0, .ref a0), (1, .int x1)]) (pc' := 4) dX4_going_3 rfl (Nat.le_of_ble_eq_true rfl) rfl rfl ?_
  exact jj_pick [2, 3, 1, 0] rfl (BX4_going_4 N N a0 x1 ((0 : Int32)) ((0 : Int32)) h _ hF)
theorem KX4_going {N : Nat} {a0 : Nat} {x1 : Int32} {h : jm_H} {X : jm_X} (hF : FX4_going N a0 x1 h = some X) : jm_K M_X4_going [.ref a0, .int x1] h X := jk_of rfl (by decide +kernel) rfl rfl (Nat.le_of_ble_eq_true rfl) (JX4_going hF)
set_option maxRecDepth 100000 in
set_option maxHeartbeats 4000000 in
theorem JX4_attend {N : Nat} {a0 : Nat} {x1 : Int32} {x2 : Int32} {h : jm_H} {X : jm_X} (hF : FX4_attend N a0 x1 x2 h = some X) : jm_J M_X4_attend 0 [(0, .ref a0), (1, .int x1), (2, .int x2)] [] h 0 0 X := by
  unfold FX4_attend at hF
  refine jj_aload_n (j := 0) (i := 0) (pc' := 1) dX4_attend_0 rfl rfl rfl ?_
  refine jj_iconst (v := (0 : Int32)) (pc' := 2) dX4_attend_1 rfl rfl ?_
  refine jj_p (C := RX4) (T := TX4) (N := 15) (ci := 4) (k := 7) (ty := tyX4) (pc' := 5) dX4_attend_2 rfl rfl inX4 tyX4_ok nmX4 (by decide) qw_79 rfl (fun _ => ⟨rfl, rfl⟩) hF (fun h101 hF => ?_)
  refine jj_iload_n (j := 1) (i := 1) (pc' := 6) dX4_attend_5 rfl rfl rfl ?_
  refine jj_cI (N := M_X4_isJuror) (kc' := 0) (ks' := 0) (pc' := 9) (jg_S (N := M_X4_isJuror) (rest := []) (as := [.int x1]) cf_X4_128 rfl dX4_attend_6 rfl rfl ⟨Nat.le_of_ble_eq_true rfl, Nat.le_of_ble_eq_true rfl⟩ ⟨Nat.le_of_ble_eq_true rfl, Nat.le_of_ble_eq_true rfl⟩ (Nat.le_of_ble_eq_true rfl) (fun X' hX => KX4_isJuror hX)) rfl rfl rfl rfl ⟨Nat.le_of_ble_eq_true rfl, Nat.le_of_ble_eq_true rfl⟩ rfl hF (fun x103 h102 hF => ?_)
  refine jj_if_eq (tgt := 20) (pc' := 12) dX4_attend_9 rfl rfl (fun hc hF => ?_) (fun hc hF => ?_) hF
  · skip
    refine jj_aload_n (j := 0) (i := 0) (pc' := 21) dX4_attend_20 rfl rfl rfl ?_
    refine jj_iconst (v := (1 : Int32)) (pc' := 22) dX4_attend_21 rfl rfl ?_
    refine jj_cI (N := M_X4_refuses) (kc' := 0) (ks' := 0) (pc' := 25) (jg_V (N := M_X4_refuses) (ci := 4) (rest := []) (as := [.int ((1 : Int32))]) cf_X4_92 dX4_attend_22 ⟨rfl, rfl⟩ rfl rfl ⟨Nat.le_of_ble_eq_true rfl, Nat.le_of_ble_eq_true rfl⟩ ⟨Nat.le_of_ble_eq_true rfl, Nat.le_of_ble_eq_true rfl⟩ (Nat.le_of_ble_eq_true rfl) (fun X' hX => KX4_refuses hX)) rfl rfl rfl rfl ⟨Nat.le_of_ble_eq_true rfl, Nat.le_of_ble_eq_true rfl⟩ rfl hF (fun x105 h104 hF => ?_)
    exact jj_retI (ty := .int) rfl rfl dX4_attend_25 ⟨Nat.le_of_ble_eq_true rfl, Nat.le_of_ble_eq_true rfl⟩ hF
  · skip
    refine jj_aload_n (j := 0) (i := 0) (pc' := 13) dX4_attend_12 rfl rfl rfl ?_
    refine jj_iload_n (j := 2) (i := 2) (pc' := 14) dX4_attend_13 rfl rfl rfl ?_
    refine jj_cI (N := M_X4_isShowing) (kc' := 0) (ks' := 0) (pc' := 17) (jg_V (N := M_X4_isShowing) (ci := 4) (rest := []) (as := [.int x2]) cf_X4_115 dX4_attend_14 ⟨rfl, rfl⟩ rfl rfl ⟨Nat.le_of_ble_eq_true rfl, Nat.le_of_ble_eq_true rfl⟩ ⟨Nat.le_of_ble_eq_true rfl, Nat.le_of_ble_eq_true rfl⟩ (Nat.le_of_ble_eq_true rfl) (fun X' hX => KX4_isShowing hX)) rfl rfl rfl rfl ⟨Nat.le_of_ble_eq_true rfl, Nat.le_of_ble_eq_true rfl⟩ rfl hF (fun x107 h106 hF => ?_)
    refine jj_if_ne (tgt := 26) (pc' := 20) dX4_attend_17 rfl rfl (fun hc hF => ?_) (fun hc hF => ?_) hF
    · skip
      refine jj_aload_n (j := 0) (i := 0) (pc' := 27) dX4_attend_26 rfl rfl rfl ?_
      refine jj_iload_n (j := 1) (i := 1) (pc' := 28) dX4_attend_27 rfl rfl rfl ?_
      refine jj_iload_n (j := 2) (i := 2) (pc' := 29) dX4_attend_28 rfl rfl rfl ?_
      refine jj_cI (N := M_X4_goes) (kc' := 0) (ks' := 0) (pc' := 32) (jg_V (N := M_X4_goes) (ci := 4) (rest := []) (as := [.int x1, .int x2]) cf_X4_121 dX4_attend_29 ⟨rfl, rfl⟩ rfl rfl ⟨Nat.le_of_ble_eq_true rfl, Nat.le_of_ble_eq_true rfl⟩ ⟨Nat.le_of_ble_eq_true rfl, Nat.le_of_ble_eq_true rfl⟩ (Nat.le_of_ble_eq_true rfl) (fun X' hX => KX4_goes hX)) rfl rfl rfl rfl ⟨Nat.le_of_ble_eq_true rfl, Nat.le_of_ble_eq_true rfl⟩ rfl hF (fun x109 h108 hF => ?_)
      refine jj_if_ne (tgt := 44) (pc' := 35) dX4_attend_32 rfl rfl (fun hc hF => ?_) (fun hc hF => ?_) hF
      · skip
        refine jj_aload_n (j := 0) (i := 0) (pc' := 45) dX4_attend_44 rfl rfl rfl ?_
        refine jj_iconst (v := (2 : Int32)) (pc' := 46) dX4_attend_45 rfl rfl ?_
        refine jj_cI (N := M_X4_refuses) (kc' := 0) (ks' := 0) (pc' := 49) (jg_V (N := M_X4_refuses) (ci := 4) (rest := []) (as := [.int ((2 : Int32))]) cf_X4_92 dX4_attend_46 ⟨rfl, rfl⟩ rfl rfl ⟨Nat.le_of_ble_eq_true rfl, Nat.le_of_ble_eq_true rfl⟩ ⟨Nat.le_of_ble_eq_true rfl, Nat.le_of_ble_eq_true rfl⟩ (Nat.le_of_ble_eq_true rfl) (fun X' hX => KX4_refuses hX)) rfl rfl rfl rfl ⟨Nat.le_of_ble_eq_true rfl, Nat.le_of_ble_eq_true rfl⟩ rfl hF (fun x111 h110 hF => ?_)
        exact jj_retI (ty := .int) rfl rfl dX4_attend_49 ⟨Nat.le_of_ble_eq_true rfl, Nat.le_of_ble_eq_true rfl⟩ hF
      · skip
        refine jj_aload_n (j := 0) (i := 0) (pc' := 36) dX4_attend_35 rfl rfl rfl ?_
        refine jj_iload_n (j := 1) (i := 1) (pc' := 37) dX4_attend_36 rfl rfl rfl ?_
        refine jj_iload_n (j := 2) (i := 2) (pc' := 38) dX4_attend_37 rfl rfl rfl ?_
        refine jj_cI (N := M_X4_canGo) (kc' := 0) (ks' := 0) (pc' := 41) (jg_V (N := M_X4_canGo) (ci := 4) (rest := []) (as := [.int x1, .int x2]) cf_X4_125 dX4_attend_38 ⟨rfl, rfl⟩ rfl rfl ⟨Nat.le_of_ble_eq_true rfl, Nat.le_of_ble_eq_true rfl⟩ ⟨Nat.le_of_ble_eq_true rfl, Nat.le_of_ble_eq_true rfl⟩ (Nat.le_of_ble_eq_true rfl) (fun X' hX => KX4_canGo hX)) rfl rfl rfl rfl ⟨Nat.le_of_ble_eq_true rfl, Nat.le_of_ble_eq_true rfl⟩ rfl hF (fun x113 h112 hF => ?_)
        refine jj_if_ne (tgt := 50) (pc' := 44) dX4_attend_41 rfl rfl (fun hc hF => ?_) (fun hc hF => ?_) hF
        · skip
          refine jj_aload_n (j := 0) (i := 0) (pc' := 51) dX4_attend_50 rfl rfl rfl ?_
          refine jj_cV (N := M_X4_saves) (kc' := 0) (ks' := 0) (pc' := 54) (jg_V (N := M_X4_saves) (ci := 4) (rest := []) (as := []) cf_X4_95 dX4_attend_51 ⟨rfl, rfl⟩ rfl rfl ⟨Nat.le_of_ble_eq_true rfl, Nat.le_of_ble_eq_true rfl⟩ ⟨Nat.le_of_ble_eq_true rfl, Nat.le_of_ble_eq_true rfl⟩ (Nat.le_of_ble_eq_true rfl) (fun X' hX => KX4_saves hX)) rfl rfl rfl rfl ⟨Nat.le_of_ble_eq_true rfl, Nat.le_of_ble_eq_true rfl⟩ rfl hF (fun h114 hF => ?_)
          refine jj_aload_n (j := 0) (i := 0) (pc' := 55) dX4_attend_54 rfl rfl rfl ?_
          refine jj_iload_n (j := 2) (i := 2) (pc' := 56) dX4_attend_55 rfl rfl rfl ?_
          refine jj_iconst (v := (4 : Int32)) (pc' := 57) dX4_attend_56 rfl rfl ?_
          refine jj_aload_n (j := 0) (i := 0) (pc' := 58) dX4_attend_57 rfl rfl rfl ?_
          refine jj_iload_n (j := 2) (i := 2) (pc' := 59) dX4_attend_58 rfl rfl rfl ?_
          refine jj_iconst (v := (4 : Int32)) (pc' := 60) dX4_attend_59 rfl rfl ?_
          refine jj_cI (N := M_X4_of) (kc' := 0) (ks' := 0) (pc' := 63) (jg_V (N := M_X4_of) (ci := 4) (rest := [.int ((4 : Int32)), .int x2, .ref a0]) (as := [.int x2, .int ((4 : Int32))]) cf_X4_47 dX4_attend_60 ⟨rfl, rfl⟩ rfl rfl ⟨Nat.le_of_ble_eq_true rfl, Nat.le_of_ble_eq_true rfl⟩ ⟨Nat.le_of_ble_eq_true rfl, Nat.le_of_ble_eq_true rfl⟩ (Nat.le_of_ble_eq_true rfl) (fun X' hX => KX4_of hX)) rfl rfl rfl rfl ⟨Nat.le_of_ble_eq_true rfl, Nat.le_of_ble_eq_true rfl⟩ rfl hF (fun x116 h115 hF => ?_)
          refine jj_iconst (v := (1 : Int32)) (pc' := 64) dX4_attend_63 rfl rfl ?_
          refine jj_iload_n (j := 1) (i := 1) (pc' := 65) dX4_attend_64 rfl rfl rfl ?_
          refine jj_ishl (pc' := 66) dX4_attend_65 rfl ?_
          refine jj_iadd (pc' := 67) dX4_attend_66 rfl ?_
          refine jj_cV (N := M_X4_becomes) (kc' := 0) (ks' := 0) (pc' := 70) (jg_V (N := M_X4_becomes) (ci := 4) (rest := []) (as := [.int x2, .int ((4 : Int32)), .int (x116 + (((1 : Int32)) <<< (x1 &&& 31)))]) cf_X4_85 dX4_attend_67 ⟨rfl, rfl⟩ rfl rfl ⟨Nat.le_of_ble_eq_true rfl, Nat.le_of_ble_eq_true rfl⟩ ⟨Nat.le_of_ble_eq_true rfl, Nat.le_of_ble_eq_true rfl⟩ (Nat.le_of_ble_eq_true rfl) (fun X' hX => KX4_becomes hX)) rfl rfl rfl rfl ⟨Nat.le_of_ble_eq_true rfl, Nat.le_of_ble_eq_true rfl⟩ rfl hF (fun h117 hF => ?_)
          refine jj_aload_n (j := 0) (i := 0) (pc' := 71) dX4_attend_70 rfl rfl rfl ?_
          refine jj_iload_n (j := 1) (i := 1) (pc' := 72) dX4_attend_71 rfl rfl rfl ?_
          refine jj_cI (N := M_X4_going) (kc' := 0) (ks' := 0) (pc' := 75) (jg_V (N := M_X4_going) (ci := 4) (rest := []) (as := [.int x1]) cf_X4_131 dX4_attend_72 ⟨rfl, rfl⟩ rfl rfl ⟨Nat.le_of_ble_eq_true rfl, Nat.le_of_ble_eq_true rfl⟩ ⟨Nat.le_of_ble_eq_true rfl, Nat.le_of_ble_eq_true rfl⟩ (Nat.le_of_ble_eq_true rfl) (fun X' hX => KX4_going hX)) rfl rfl rfl rfl ⟨Nat.le_of_ble_eq_true rfl, Nat.le_of_ble_eq_true rfl⟩ rfl hF (fun x119 h118 hF => ?_)
          exact jj_retI (ty := .int) rfl rfl dX4_attend_75 ⟨Nat.le_of_ble_eq_true rfl, Nat.le_of_ble_eq_true rfl⟩ hF
        · skip
          refine jj_aload_n (j := 0) (i := 0) (pc' := 45) dX4_attend_44 rfl rfl rfl ?_
          refine jj_iconst (v := (2 : Int32)) (pc' := 46) dX4_attend_45 rfl rfl ?_
          refine jj_cI (N := M_X4_refuses) (kc' := 0) (ks' := 0) (pc' := 49) (jg_V (N := M_X4_refuses) (ci := 4) (rest := []) (as := [.int ((2 : Int32))]) cf_X4_92 dX4_attend_46 ⟨rfl, rfl⟩ rfl rfl ⟨Nat.le_of_ble_eq_true rfl, Nat.le_of_ble_eq_true rfl⟩ ⟨Nat.le_of_ble_eq_true rfl, Nat.le_of_ble_eq_true rfl⟩ (Nat.le_of_ble_eq_true rfl) (fun X' hX => KX4_refuses hX)) rfl rfl rfl rfl ⟨Nat.le_of_ble_eq_true rfl, Nat.le_of_ble_eq_true rfl⟩ rfl hF (fun x121 h120 hF => ?_)
          exact jj_retI (ty := .int) rfl rfl dX4_attend_49 ⟨Nat.le_of_ble_eq_true rfl, Nat.le_of_ble_eq_true rfl⟩ hF
    · skip
      refine jj_aload_n (j := 0) (i := 0) (pc' := 21) dX4_attend_20 rfl rfl rfl ?_
      refine jj_iconst (v := (1 : Int32)) (pc' := 22) dX4_attend_21 rfl rfl ?_
      refine jj_cI (N := M_X4_refuses) (kc' := 0) (ks' := 0) (pc' := 25) (jg_V (N := M_X4_refuses) (ci := 4) (rest := []) (as := [.int ((1 : Int32))]) cf_X4_92 dX4_attend_22 ⟨rfl, rfl⟩ rfl rfl ⟨Nat.le_of_ble_eq_true rfl, Nat.le_of_ble_eq_true rfl⟩ ⟨Nat.le_of_ble_eq_true rfl, Nat.le_of_ble_eq_true rfl⟩ (Nat.le_of_ble_eq_true rfl) (fun X' hX => KX4_refuses hX)) rfl rfl rfl rfl ⟨Nat.le_of_ble_eq_true rfl, Nat.le_of_ble_eq_true rfl⟩ rfl hF (fun x123 h122 hF => ?_)
      exact jj_retI (ty := .int) rfl rfl dX4_attend_25 ⟨Nat.le_of_ble_eq_true rfl, Nat.le_of_ble_eq_true rfl⟩ hF
theorem KX4_attend {N : Nat} {a0 : Nat} {x1 : Int32} {x2 : Int32} {h : jm_H} {X : jm_X} (hF : FX4_attend N a0 x1 x2 h = some X) : jm_K M_X4_attend [.ref a0, .int x1, .int x2] h X := jk_of rfl (by decide +kernel) rfl rfl (Nat.le_of_ble_eq_true rfl) (JX4_attend hF)
set_option maxRecDepth 100000 in
set_option maxHeartbeats 4000000 in
theorem BX4_hasSeen_5 (N : Nat) : ∀ (n : Nat) (a0 : Nat) (x1 : Int32) (x2 : Int32) (x3 : Int32) (x4 : Int32) (h : jm_H) (X : jm_X), FX4_hasSeen_5 N n a0 x1 x2 x3 x4 h = some X → jm_J M_X4_hasSeen 5 [(0, .ref a0), (1, .int x1), (2, .int x2), (3, .int x3), (4, .int x4)] [] h 0 0 X := by
  intro n
  induction n with
  | zero =>
    intro a0 x1 x2 x3 x4 h X hF
    exact nomatch (show (none : Option jm_X) = some X from hF)
  | succ n ih =>
    intro a0 x1 x2 x3 x4 h X hF
    rw [FX4_hasSeen_5] at hF
    refine jj_iload (j := 4) (i := 4) (pc' := 7) dX4_hasSeen_5 rfl rfl ?_
    refine jj_aload_n (j := 0) (i := 0) (pc' := 8) dX4_hasSeen_7 rfl rfl rfl ?_
    refine jj_gR (C := RX4) (T := TX4) (N := 15) (ci := 4) (k := 0) (pc' := 11) dX4_hasSeen_8 rfl rfl inX4 (by decide) qw_73 hF (fun r101 hF => ?_)
    refine jj_iconst (v := (1 : Int32)) (pc' := 12) dX4_hasSeen_11 rfl rfl ?_
    refine jj_ldI (pc' := 13) dX4_hasSeen_12 rfl hF (fun x102 hF => ?_)
    refine jj_icmp_ge (tgt := 53) (pc' := 16) dX4_hasSeen_13 rfl rfl (fun hc hF => ?_) (fun hc hF => ?_) hF
    · skip
      refine jj_iload_n (j := 3) (i := 3) (pc' := 54) dX4_hasSeen_53 rfl rfl rfl ?_
      exact jj_retZ rfl dX4_hasSeen_54 ⟨Nat.le_of_ble_eq_true rfl, Nat.le_of_ble_eq_true rfl⟩ hF
    · skip
      refine jj_iload_n (j := 3) (i := 3) (pc' := 17) dX4_hasSeen_16 rfl rfl rfl ?_
      refine jj_if_ne (tgt := 41) (pc' := 20) dX4_hasSeen_17 rfl rfl (fun hc hF => ?_) (fun hc hF => ?_) hF
      · skip
        refine jj_iconst (v := (1 : Int32)) (pc' := 42) dX4_hasSeen_41 rfl rfl ?_
        refine jj_goto (tgt := 46) dX4_hasSeen_42 rfl ?_
        refine jj_istore_n (i := 3) (ls' := [(3, .int ((1 : Int32))), (0, .ref a0), (1, .int x1), (2, .int x2), (4, .int x4)]) (pc' := 47) dX4_hasSeen_46 rfl (Nat.le_of_ble_eq_true rfl) rfl rfl ?_
        refine jj_iinc (i := 4) (j := 4) (v := x4 + (1 : Int32)) (ls' := [(4, .int (x4 + (1 : Int32))), (3, .int ((1 : Int32))), (0, .ref a0), (1, .int x1), (2, .int x2)]) (pc' := 50) dX4_hasSeen_47 rfl rfl (Nat.le_of_ble_eq_true rfl) rfl rfl ?_
        refine jj_goto (tgt := 5) dX4_hasSeen_50 rfl ?_
        exact jj_pick [2, 3, 4, 1, 0] rfl (ih a0 x1 x2 ((1 : Int32)) (x4 + (1 : Int32)) h _ hF)
      · skip
        refine jj_aload_n (j := 0) (i := 0) (pc' := 21) dX4_hasSeen_20 rfl rfl rfl ?_
        refine jj_iload (j := 4) (i := 4) (pc' := 23) dX4_hasSeen_21 rfl rfl ?_
        refine jj_iconst (v := (0 : Int32)) (pc' := 24) dX4_hasSeen_23 rfl rfl ?_
        refine jj_cI (N := M_X4_of) (kc' := 0) (ks' := 0) (pc' := 27) (jg_V (N := M_X4_of) (ci := 4) (rest := []) (as := [.int x4, .int ((0 : Int32))]) cf_X4_47 dX4_hasSeen_24 ⟨rfl, rfl⟩ rfl rfl ⟨Nat.le_of_ble_eq_true rfl, Nat.le_of_ble_eq_true rfl⟩ ⟨Nat.le_of_ble_eq_true rfl, Nat.le_of_ble_eq_true rfl⟩ (Nat.le_of_ble_eq_true rfl) (fun X' hX => KX4_of hX)) rfl rfl rfl rfl ⟨Nat.le_of_ble_eq_true rfl, Nat.le_of_ble_eq_true rfl⟩ rfl hF (fun x104 h103 hF => ?_)
        refine jj_iload_n (j := 2) (i := 2) (pc' := 28) dX4_hasSeen_27 rfl rfl rfl ?_
        refine jj_icmp_ne (tgt := 45) (pc' := 31) dX4_hasSeen_28 rfl rfl (fun hc hF => ?_) (fun hc hF => ?_) hF
        · skip
          refine jj_iconst (v := (0 : Int32)) (pc' := 46) dX4_hasSeen_45 rfl rfl ?_
          refine jj_istore_n (i := 3) (ls' := [(3, .int ((0 : Int32))), (0, .ref a0), (1, .int x1), (2, .int x2), (4, .int x4)]) (pc' := 47) dX4_hasSeen_46 rfl (Nat.le_of_ble_eq_true rfl) rfl rfl ?_
          refine jj_iinc (i := 4) (j := 4) (v := x4 + (1 : Int32)) (ls' := [(4, .int (x4 + (1 : Int32))), (3, .int ((0 : Int32))), (0, .ref a0), (1, .int x1), (2, .int x2)]) (pc' := 50) dX4_hasSeen_47 rfl rfl (Nat.le_of_ble_eq_true rfl) rfl rfl ?_
          refine jj_goto (tgt := 5) dX4_hasSeen_50 rfl ?_
          exact jj_pick [2, 3, 4, 1, 0] rfl (ih a0 x1 x2 ((0 : Int32)) (x4 + (1 : Int32)) h103 _ hF)
        · skip
          refine jj_aload_n (j := 0) (i := 0) (pc' := 32) dX4_hasSeen_31 rfl rfl rfl ?_
          refine jj_iload_n (j := 1) (i := 1) (pc' := 33) dX4_hasSeen_32 rfl rfl rfl ?_
          refine jj_iload (j := 4) (i := 4) (pc' := 35) dX4_hasSeen_33 rfl rfl ?_
          refine jj_cI (N := M_X4_goes) (kc' := 0) (ks' := 0) (pc' := 38) (jg_V (N := M_X4_goes) (ci := 4) (rest := []) (as := [.int x1, .int x4]) cf_X4_121 dX4_hasSeen_35 ⟨rfl, rfl⟩ rfl rfl ⟨Nat.le_of_ble_eq_true rfl, Nat.le_of_ble_eq_true rfl⟩ ⟨Nat.le_of_ble_eq_true rfl, Nat.le_of_ble_eq_true rfl⟩ (Nat.le_of_ble_eq_true rfl) (fun X' hX => KX4_goes hX)) rfl rfl rfl rfl ⟨Nat.le_of_ble_eq_true rfl, Nat.le_of_ble_eq_true rfl⟩ rfl hF (fun x106 h105 hF => ?_)
          refine jj_if_eq (tgt := 45) (pc' := 41) dX4_hasSeen_38 rfl rfl (fun hc hF => ?_) (fun hc hF => ?_) hF
          · skip
            refine jj_iconst (v := (0 : Int32)) (pc' := 46) dX4_hasSeen_45 rfl rfl ?_
            refine jj_istore_n (i := 3) (ls' := [(3, .int ((0 : Int32))), (0, .ref a0), (1, .int x1), (2, .int x2), (4, .int x4)]) (pc' := 47) dX4_hasSeen_46 rfl (Nat.le_of_ble_eq_true rfl) rfl rfl ?_
            refine jj_iinc (i := 4) (j := 4) (v := x4 + (1 : Int32)) (ls' := [(4, .int (x4 + (1 : Int32))), (3, .int ((0 : Int32))), (0, .ref a0), (1, .int x1), (2, .int x2)]) (pc' := 50) dX4_hasSeen_47 rfl rfl (Nat.le_of_ble_eq_true rfl) rfl rfl ?_
            refine jj_goto (tgt := 5) dX4_hasSeen_50 rfl ?_
            exact jj_pick [2, 3, 4, 1, 0] rfl (ih a0 x1 x2 ((0 : Int32)) (x4 + (1 : Int32)) h105 _ hF)
          · skip
            refine jj_iconst (v := (1 : Int32)) (pc' := 42) dX4_hasSeen_41 rfl rfl ?_
            refine jj_goto (tgt := 46) dX4_hasSeen_42 rfl ?_
            refine jj_istore_n (i := 3) (ls' := [(3, .int ((1 : Int32))), (0, .ref a0), (1, .int x1), (2, .int x2), (4, .int x4)]) (pc' := 47) dX4_hasSeen_46 rfl (Nat.le_of_ble_eq_true rfl) rfl rfl ?_
            refine jj_iinc (i := 4) (j := 4) (v := x4 + (1 : Int32)) (ls' := [(4, .int (x4 + (1 : Int32))), (3, .int ((1 : Int32))), (0, .ref a0), (1, .int x1), (2, .int x2)]) (pc' := 50) dX4_hasSeen_47 rfl rfl (Nat.le_of_ble_eq_true rfl) rfl rfl ?_
            refine jj_goto (tgt := 5) dX4_hasSeen_50 rfl ?_
            exact jj_pick [2, 3, 4, 1, 0] rfl (ih a0 x1 x2 ((1 : Int32)) (x4 + (1 : Int32)) h105 _ hF)
set_option maxRecDepth 100000 in
set_option maxHeartbeats 4000000 in
theorem JX4_hasSeen {N : Nat} {a0 : Nat} {x1 : Int32} {x2 : Int32} {h : jm_H} {X : jm_X} (hF : FX4_hasSeen N a0 x1 x2 h = some X) : jm_J M_X4_hasSeen 0 [(0, .ref a0), (1, .int x1), (2, .int x2)] [] h 0 0 X := by
  unfold FX4_hasSeen at hF
  refine jj_iconst (v := (0 : Int32)) (pc' := 1) dX4_hasSeen_0 rfl rfl ?_
  refine jj_istore_n (i := 3) (ls' := [(3, .int ((0 : Int32))), (0, .ref a0), (1, .int x1), (2, .int x2)]) (pc' := 2) dX4_hasSeen_1 rfl (Nat.le_of_ble_eq_true rfl) rfl rfl ?_
  refine jj_iconst (v := (0 : Int32)) (pc' := 3) dX4_hasSeen_2 rfl rfl ?_
  refine jj_istore (i := 4) (ls' := [(4, .int ((0 : Int32))), (3, .int ((0 : Int32))), (0, .ref a0), (1, .int x1), (2, .int x2)]) (pc' := 5) dX4_hasSeen_3 (Nat.le_of_ble_eq_true rfl) rfl rfl ?_
  exact jj_pick [2, 3, 4, 1, 0] rfl (BX4_hasSeen_5 N N a0 x1 x2 ((0 : Int32)) ((0 : Int32)) h _ hF)
theorem KX4_hasSeen {N : Nat} {a0 : Nat} {x1 : Int32} {x2 : Int32} {h : jm_H} {X : jm_X} (hF : FX4_hasSeen N a0 x1 x2 h = some X) : jm_K M_X4_hasSeen [.ref a0, .int x1, .int x2] h X := jk_of rfl (by decide +kernel) rfl rfl (Nat.le_of_ble_eq_true rfl) (JX4_hasSeen hF)
set_option maxRecDepth 100000 in
set_option maxHeartbeats 4000000 in
theorem JX4_vote {N : Nat} {a0 : Nat} {x1 : Int32} {x2 : Int32} {x3 : Int32} {h : jm_H} {X : jm_X} (hF : FX4_vote N a0 x1 x2 x3 h = some X) : jm_J M_X4_vote 0 [(0, .ref a0), (1, .int x1), (2, .int x2), (3, .int x3)] [] h 0 0 X := by
  unfold FX4_vote at hF
  refine jj_aload_n (j := 0) (i := 0) (pc' := 1) dX4_vote_0 rfl rfl rfl ?_
  refine jj_iconst (v := (0 : Int32)) (pc' := 2) dX4_vote_1 rfl rfl ?_
  refine jj_p (C := RX4) (T := TX4) (N := 15) (ci := 4) (k := 7) (ty := tyX4) (pc' := 5) dX4_vote_2 rfl rfl inX4 tyX4_ok nmX4 (by decide) qw_79 rfl (fun _ => ⟨rfl, rfl⟩) hF (fun h101 hF => ?_)
  refine jj_iload_n (j := 1) (i := 1) (pc' := 6) dX4_vote_5 rfl rfl rfl ?_
  refine jj_cI (N := M_X4_isJuror) (kc' := 0) (ks' := 0) (pc' := 9) (jg_S (N := M_X4_isJuror) (rest := []) (as := [.int x1]) cf_X4_128 rfl dX4_vote_6 rfl rfl ⟨Nat.le_of_ble_eq_true rfl, Nat.le_of_ble_eq_true rfl⟩ ⟨Nat.le_of_ble_eq_true rfl, Nat.le_of_ble_eq_true rfl⟩ (Nat.le_of_ble_eq_true rfl) (fun X' hX => KX4_isJuror hX)) rfl rfl rfl rfl ⟨Nat.le_of_ble_eq_true rfl, Nat.le_of_ble_eq_true rfl⟩ rfl hF (fun x103 h102 hF => ?_)
  refine jj_if_eq (tgt := 20) (pc' := 12) dX4_vote_9 rfl rfl (fun hc hF => ?_) (fun hc hF => ?_) hF
  · skip
    refine jj_aload_n (j := 0) (i := 0) (pc' := 21) dX4_vote_20 rfl rfl rfl ?_
    refine jj_iconst (v := (1 : Int32)) (pc' := 22) dX4_vote_21 rfl rfl ?_
    refine jj_cI (N := M_X4_refuses) (kc' := 0) (ks' := 0) (pc' := 25) (jg_V (N := M_X4_refuses) (ci := 4) (rest := []) (as := [.int ((1 : Int32))]) cf_X4_92 dX4_vote_22 ⟨rfl, rfl⟩ rfl rfl ⟨Nat.le_of_ble_eq_true rfl, Nat.le_of_ble_eq_true rfl⟩ ⟨Nat.le_of_ble_eq_true rfl, Nat.le_of_ble_eq_true rfl⟩ (Nat.le_of_ble_eq_true rfl) (fun X' hX => KX4_refuses hX)) rfl rfl rfl rfl ⟨Nat.le_of_ble_eq_true rfl, Nat.le_of_ble_eq_true rfl⟩ rfl hF (fun x105 h104 hF => ?_)
    exact jj_retI (ty := .int) rfl rfl dX4_vote_25 ⟨Nat.le_of_ble_eq_true rfl, Nat.le_of_ble_eq_true rfl⟩ hF
  · skip
    refine jj_aload_n (j := 0) (i := 0) (pc' := 13) dX4_vote_12 rfl rfl rfl ?_
    refine jj_iload_n (j := 2) (i := 2) (pc' := 14) dX4_vote_13 rfl rfl rfl ?_
    refine jj_cI (N := M_X4_isFilm) (kc' := 0) (ks' := 0) (pc' := 17) (jg_V (N := M_X4_isFilm) (ci := 4) (rest := []) (as := [.int x2]) cf_X4_102 dX4_vote_14 ⟨rfl, rfl⟩ rfl rfl ⟨Nat.le_of_ble_eq_true rfl, Nat.le_of_ble_eq_true rfl⟩ ⟨Nat.le_of_ble_eq_true rfl, Nat.le_of_ble_eq_true rfl⟩ (Nat.le_of_ble_eq_true rfl) (fun X' hX => KX4_isFilm hX)) rfl rfl rfl rfl ⟨Nat.le_of_ble_eq_true rfl, Nat.le_of_ble_eq_true rfl⟩ rfl hF (fun x107 h106 hF => ?_)
    refine jj_if_ne (tgt := 26) (pc' := 20) dX4_vote_17 rfl rfl (fun hc hF => ?_) (fun hc hF => ?_) hF
    · skip
      refine jj_iload_n (j := 3) (i := 3) (pc' := 27) dX4_vote_26 rfl rfl rfl ?_
      refine jj_iconst (v := (0 : Int32)) (pc' := 28) dX4_vote_27 rfl rfl ?_
      refine jj_bipush (v := (10 : Int32)) (pc' := 30) dX4_vote_28 rfl rfl ?_
      refine jj_cI (N := M_X4_in) (kc' := 0) (ks' := 0) (pc' := 33) (jg_S (N := M_X4_in) (rest := []) (as := [.int x3, .int ((0 : Int32)), .int ((10 : Int32))]) cf_X4_88 rfl dX4_vote_30 rfl rfl ⟨Nat.le_of_ble_eq_true rfl, Nat.le_of_ble_eq_true rfl⟩ ⟨Nat.le_of_ble_eq_true rfl, Nat.le_of_ble_eq_true rfl⟩ (Nat.le_of_ble_eq_true rfl) (fun X' hX => KX4_in hX)) rfl rfl rfl rfl ⟨Nat.le_of_ble_eq_true rfl, Nat.le_of_ble_eq_true rfl⟩ rfl hF (fun x109 h108 hF => ?_)
      refine jj_if_ne (tgt := 42) (pc' := 36) dX4_vote_33 rfl rfl (fun hc hF => ?_) (fun hc hF => ?_) hF
      · skip
        refine jj_aload_n (j := 0) (i := 0) (pc' := 43) dX4_vote_42 rfl rfl rfl ?_
        refine jj_iload_n (j := 1) (i := 1) (pc' := 44) dX4_vote_43 rfl rfl rfl ?_
        refine jj_iload_n (j := 2) (i := 2) (pc' := 45) dX4_vote_44 rfl rfl rfl ?_
        refine jj_cI (N := M_X4_hasSeen) (kc' := 0) (ks' := 0) (pc' := 48) (jg_V (N := M_X4_hasSeen) (ci := 4) (rest := []) (as := [.int x1, .int x2]) cf_X4_134 dX4_vote_45 ⟨rfl, rfl⟩ rfl rfl ⟨Nat.le_of_ble_eq_true rfl, Nat.le_of_ble_eq_true rfl⟩ ⟨Nat.le_of_ble_eq_true rfl, Nat.le_of_ble_eq_true rfl⟩ (Nat.le_of_ble_eq_true rfl) (fun X' hX => KX4_hasSeen hX)) rfl rfl rfl rfl ⟨Nat.le_of_ble_eq_true rfl, Nat.le_of_ble_eq_true rfl⟩ rfl hF (fun x111 h110 hF => ?_)
        refine jj_if_ne (tgt := 57) (pc' := 51) dX4_vote_48 rfl rfl (fun hc hF => ?_) (fun hc hF => ?_) hF
        · skip
          refine jj_aload_n (j := 0) (i := 0) (pc' := 58) dX4_vote_57 rfl rfl rfl ?_
          refine jj_cV (N := M_X4_saves) (kc' := 0) (ks' := 0) (pc' := 61) (jg_V (N := M_X4_saves) (ci := 4) (rest := []) (as := []) cf_X4_95 dX4_vote_58 ⟨rfl, rfl⟩ rfl rfl ⟨Nat.le_of_ble_eq_true rfl, Nat.le_of_ble_eq_true rfl⟩ ⟨Nat.le_of_ble_eq_true rfl, Nat.le_of_ble_eq_true rfl⟩ (Nat.le_of_ble_eq_true rfl) (fun X' hX => KX4_saves hX)) rfl rfl rfl rfl ⟨Nat.le_of_ble_eq_true rfl, Nat.le_of_ble_eq_true rfl⟩ rfl hF (fun h112 hF => ?_)
          refine jj_bipush (v := (104 : Int32)) (pc' := 63) dX4_vote_61 rfl rfl ?_
          refine jj_bipush (v := (8 : Int32)) (pc' := 65) dX4_vote_63 rfl rfl ?_
          refine jj_iload_n (j := 1) (i := 1) (pc' := 66) dX4_vote_65 rfl rfl rfl ?_
          refine jj_imul (pc' := 67) dX4_vote_66 rfl ?_
          refine jj_iadd (pc' := 68) dX4_vote_67 rfl ?_
          refine jj_iload_n (j := 2) (i := 2) (pc' := 69) dX4_vote_68 rfl rfl rfl ?_
          refine jj_iadd (pc' := 70) dX4_vote_69 rfl ?_
          refine jj_istore (i := 4) (ls' := [(4, .int ((((104 : Int32)) + (((8 : Int32)) * x1)) + x2)), (0, .ref a0), (1, .int x1), (2, .int x2), (3, .int x3)]) (pc' := 72) dX4_vote_70 (Nat.le_of_ble_eq_true rfl) rfl rfl ?_
          refine jj_aload_n (j := 1) (i := 0) (pc' := 73) dX4_vote_72 rfl rfl rfl ?_
          refine jj_gR (C := RX4) (T := TX4) (N := 15) (ci := 4) (k := 0) (pc' := 76) dX4_vote_73 rfl rfl inX4 (by decide) qw_73 hF (fun r113 hF => ?_)
          refine jj_iload (j := 0) (i := 4) (pc' := 78) dX4_vote_76 rfl rfl ?_
          refine jj_ldI (pc' := 79) dX4_vote_78 rfl hF (fun x114 hF => ?_)
          refine jj_istore (i := 5) (ls' := [(5, .int x114), (4, .int ((((104 : Int32)) + (((8 : Int32)) * x1)) + x2)), (0, .ref a0), (1, .int x1), (2, .int x2), (3, .int x3)]) (pc' := 81) dX4_vote_79 (Nat.le_of_ble_eq_true rfl) rfl rfl ?_
          refine jj_aload_n (j := 2) (i := 0) (pc' := 82) dX4_vote_81 rfl rfl rfl ?_
          refine jj_gR (C := RX4) (T := TX4) (N := 15) (ci := 4) (k := 0) (pc' := 85) dX4_vote_82 rfl rfl inX4 (by decide) qw_73 hF (fun r115 hF => ?_)
          refine jj_iload (j := 1) (i := 4) (pc' := 87) dX4_vote_85 rfl rfl ?_
          refine jj_iload_n (j := 5) (i := 3) (pc' := 88) dX4_vote_87 rfl rfl rfl ?_
          refine jj_stI (pc' := 89) dX4_vote_88 rfl hF (fun h116 hF => ?_)
          refine jj_iload (j := 0) (i := 5) (pc' := 91) dX4_vote_89 rfl rfl ?_
          exact jj_retI (ty := .int) rfl rfl dX4_vote_91 ⟨Nat.le_of_ble_eq_true rfl, Nat.le_of_ble_eq_true rfl⟩ hF
        · skip
          refine jj_aload_n (j := 0) (i := 0) (pc' := 52) dX4_vote_51 rfl rfl rfl ?_
          refine jj_iconst (v := (3 : Int32)) (pc' := 53) dX4_vote_52 rfl rfl ?_
          refine jj_cI (N := M_X4_refuses) (kc' := 0) (ks' := 0) (pc' := 56) (jg_V (N := M_X4_refuses) (ci := 4) (rest := []) (as := [.int ((3 : Int32))]) cf_X4_92 dX4_vote_53 ⟨rfl, rfl⟩ rfl rfl ⟨Nat.le_of_ble_eq_true rfl, Nat.le_of_ble_eq_true rfl⟩ ⟨Nat.le_of_ble_eq_true rfl, Nat.le_of_ble_eq_true rfl⟩ (Nat.le_of_ble_eq_true rfl) (fun X' hX => KX4_refuses hX)) rfl rfl rfl rfl ⟨Nat.le_of_ble_eq_true rfl, Nat.le_of_ble_eq_true rfl⟩ rfl hF (fun x118 h117 hF => ?_)
          exact jj_retI (ty := .int) rfl rfl dX4_vote_56 ⟨Nat.le_of_ble_eq_true rfl, Nat.le_of_ble_eq_true rfl⟩ hF
      · skip
        refine jj_aload_n (j := 0) (i := 0) (pc' := 37) dX4_vote_36 rfl rfl rfl ?_
        refine jj_iconst (v := (2 : Int32)) (pc' := 38) dX4_vote_37 rfl rfl ?_
        refine jj_cI (N := M_X4_refuses) (kc' := 0) (ks' := 0) (pc' := 41) (jg_V (N := M_X4_refuses) (ci := 4) (rest := []) (as := [.int ((2 : Int32))]) cf_X4_92 dX4_vote_38 ⟨rfl, rfl⟩ rfl rfl ⟨Nat.le_of_ble_eq_true rfl, Nat.le_of_ble_eq_true rfl⟩ ⟨Nat.le_of_ble_eq_true rfl, Nat.le_of_ble_eq_true rfl⟩ (Nat.le_of_ble_eq_true rfl) (fun X' hX => KX4_refuses hX)) rfl rfl rfl rfl ⟨Nat.le_of_ble_eq_true rfl, Nat.le_of_ble_eq_true rfl⟩ rfl hF (fun x120 h119 hF => ?_)
        exact jj_retI (ty := .int) rfl rfl dX4_vote_41 ⟨Nat.le_of_ble_eq_true rfl, Nat.le_of_ble_eq_true rfl⟩ hF
    · skip
      refine jj_aload_n (j := 0) (i := 0) (pc' := 21) dX4_vote_20 rfl rfl rfl ?_
      refine jj_iconst (v := (1 : Int32)) (pc' := 22) dX4_vote_21 rfl rfl ?_
      refine jj_cI (N := M_X4_refuses) (kc' := 0) (ks' := 0) (pc' := 25) (jg_V (N := M_X4_refuses) (ci := 4) (rest := []) (as := [.int ((1 : Int32))]) cf_X4_92 dX4_vote_22 ⟨rfl, rfl⟩ rfl rfl ⟨Nat.le_of_ble_eq_true rfl, Nat.le_of_ble_eq_true rfl⟩ ⟨Nat.le_of_ble_eq_true rfl, Nat.le_of_ble_eq_true rfl⟩ (Nat.le_of_ble_eq_true rfl) (fun X' hX => KX4_refuses hX)) rfl rfl rfl rfl ⟨Nat.le_of_ble_eq_true rfl, Nat.le_of_ble_eq_true rfl⟩ rfl hF (fun x122 h121 hF => ?_)
      exact jj_retI (ty := .int) rfl rfl dX4_vote_25 ⟨Nat.le_of_ble_eq_true rfl, Nat.le_of_ble_eq_true rfl⟩ hF
theorem KX4_vote {N : Nat} {a0 : Nat} {x1 : Int32} {x2 : Int32} {x3 : Int32} {h : jm_H} {X : jm_X} (hF : FX4_vote N a0 x1 x2 x3 h = some X) : jm_K M_X4_vote [.ref a0, .int x1, .int x2, .int x3] h X := jk_of rfl (by decide +kernel) rfl rfl (Nat.le_of_ble_eq_true rfl) (JX4_vote hF)
set_option maxRecDepth 100000 in
set_option maxHeartbeats 4000000 in
theorem JX4_append {a0 : Nat} {x1 : Int32} {h : jm_H} {X : jm_X} (hF : FX4_append a0 x1 h = some X) : jm_J M_X4_append 0 [(0, .ref a0), (1, .int x1)] [] h 0 0 X := by
  unfold FX4_append at hF
  refine jj_aload_n (j := 0) (i := 0) (pc' := 1) dX4_append_0 rfl rfl rfl ?_
  refine jj_iconst (v := (0 : Int32)) (pc' := 2) dX4_append_1 rfl rfl ?_
  refine jj_p (C := RX4) (T := TX4) (N := 15) (ci := 4) (k := 7) (ty := tyX4) (pc' := 5) dX4_append_2 rfl rfl inX4 tyX4_ok nmX4 (by decide) qw_79 rfl (fun _ => ⟨rfl, rfl⟩) hF (fun h101 hF => ?_)
  refine jj_iload_n (j := 1) (i := 1) (pc' := 6) dX4_append_5 rfl rfl rfl ?_
  refine jj_bipush (v := (33 : Int32)) (pc' := 8) dX4_append_6 rfl rfl ?_
  refine jj_bipush (v := (126 : Int32)) (pc' := 10) dX4_append_8 rfl rfl ?_
  refine jj_cI (N := M_X4_in) (kc' := 0) (ks' := 0) (pc' := 13) (jg_S (N := M_X4_in) (rest := []) (as := [.int x1, .int ((33 : Int32)), .int ((126 : Int32))]) cf_X4_88 rfl dX4_append_10 rfl rfl ⟨Nat.le_of_ble_eq_true rfl, Nat.le_of_ble_eq_true rfl⟩ ⟨Nat.le_of_ble_eq_true rfl, Nat.le_of_ble_eq_true rfl⟩ (Nat.le_of_ble_eq_true rfl) (fun X' hX => KX4_in hX)) rfl rfl rfl rfl ⟨Nat.le_of_ble_eq_true rfl, Nat.le_of_ble_eq_true rfl⟩ rfl hF (fun x103 h102 hF => ?_)
  refine jj_if_ne (tgt := 22) (pc' := 16) dX4_append_13 rfl rfl (fun hc hF => ?_) (fun hc hF => ?_) hF
  · skip
    refine jj_aload_n (j := 0) (i := 0) (pc' := 23) dX4_append_22 rfl rfl rfl ?_
    refine jj_gI (C := RX4) (T := TX4) (N := 15) (ci := 4) (k := 6) (pc' := 26) dX4_append_23 rfl rfl inX4 (by decide) qw_84 hF (fun x104 hF => ?_)
    refine jj_bipush (v := (60 : Int32)) (pc' := 28) dX4_append_26 rfl rfl ?_
    refine jj_icmp_ne (tgt := 37) (pc' := 31) dX4_append_28 rfl rfl (fun hc hF => ?_) (fun hc hF => ?_) hF
    · skip
      refine jj_aload_n (j := 0) (i := 0) (pc' := 38) dX4_append_37 rfl rfl rfl ?_
      refine jj_gR (C := RX4) (T := TX4) (N := 15) (ci := 4) (k := 5) (pc' := 41) dX4_append_38 rfl rfl inX4 (by decide) qw_77 hF (fun r105 hF => ?_)
      refine jj_aload_n (j := 0) (i := 0) (pc' := 42) dX4_append_41 rfl rfl rfl ?_
      refine jj_gI (C := RX4) (T := TX4) (N := 15) (ci := 4) (k := 6) (pc' := 45) dX4_append_42 rfl rfl inX4 (by decide) qw_84 hF (fun x106 hF => ?_)
      refine jj_iload_n (j := 1) (i := 1) (pc' := 46) dX4_append_45 rfl rfl rfl ?_
      refine jj_stI (pc' := 47) dX4_append_46 rfl hF (fun h107 hF => ?_)
      refine jj_aload_n (j := 0) (i := 0) (pc' := 48) dX4_append_47 rfl rfl rfl ?_
      refine jj_dup (pc' := 49) dX4_append_48 rfl rfl ?_
      refine jj_gI (C := RX4) (T := TX4) (N := 15) (ci := 4) (k := 6) (pc' := 52) dX4_append_49 rfl rfl inX4 (by decide) qw_84 hF (fun x108 hF => ?_)
      refine jj_iconst (v := (1 : Int32)) (pc' := 53) dX4_append_52 rfl rfl ?_
      refine jj_iadd (pc' := 54) dX4_append_53 rfl ?_
      refine jj_p (C := RX4) (T := TX4) (N := 15) (ci := 4) (k := 6) (ty := tyX4) (pc' := 57) dX4_append_54 rfl rfl inX4 tyX4_ok nmX4 (by decide) qw_84 rfl (fun _ => ⟨rfl, rfl⟩) hF (fun h109 hF => ?_)
      refine jj_aload_n (j := 0) (i := 0) (pc' := 58) dX4_append_57 rfl rfl rfl ?_
      refine jj_gI (C := RX4) (T := TX4) (N := 15) (ci := 4) (k := 6) (pc' := 61) dX4_append_58 rfl rfl inX4 (by decide) qw_84 hF (fun x110 hF => ?_)
      exact jj_retI (ty := .int) rfl rfl dX4_append_61 ⟨Nat.le_of_ble_eq_true rfl, Nat.le_of_ble_eq_true rfl⟩ hF
    · skip
      refine jj_aload_n (j := 0) (i := 0) (pc' := 32) dX4_append_31 rfl rfl rfl ?_
      refine jj_iconst (v := (2 : Int32)) (pc' := 33) dX4_append_32 rfl rfl ?_
      refine jj_cI (N := M_X4_refuses) (kc' := 0) (ks' := 0) (pc' := 36) (jg_V (N := M_X4_refuses) (ci := 4) (rest := []) (as := [.int ((2 : Int32))]) cf_X4_92 dX4_append_33 ⟨rfl, rfl⟩ rfl rfl ⟨Nat.le_of_ble_eq_true rfl, Nat.le_of_ble_eq_true rfl⟩ ⟨Nat.le_of_ble_eq_true rfl, Nat.le_of_ble_eq_true rfl⟩ (Nat.le_of_ble_eq_true rfl) (fun X' hX => KX4_refuses hX)) rfl rfl rfl rfl ⟨Nat.le_of_ble_eq_true rfl, Nat.le_of_ble_eq_true rfl⟩ rfl hF (fun x112 h111 hF => ?_)
      exact jj_retI (ty := .int) rfl rfl dX4_append_36 ⟨Nat.le_of_ble_eq_true rfl, Nat.le_of_ble_eq_true rfl⟩ hF
  · skip
    refine jj_aload_n (j := 0) (i := 0) (pc' := 17) dX4_append_16 rfl rfl rfl ?_
    refine jj_iconst (v := (1 : Int32)) (pc' := 18) dX4_append_17 rfl rfl ?_
    refine jj_cI (N := M_X4_refuses) (kc' := 0) (ks' := 0) (pc' := 21) (jg_V (N := M_X4_refuses) (ci := 4) (rest := []) (as := [.int ((1 : Int32))]) cf_X4_92 dX4_append_18 ⟨rfl, rfl⟩ rfl rfl ⟨Nat.le_of_ble_eq_true rfl, Nat.le_of_ble_eq_true rfl⟩ ⟨Nat.le_of_ble_eq_true rfl, Nat.le_of_ble_eq_true rfl⟩ (Nat.le_of_ble_eq_true rfl) (fun X' hX => KX4_refuses hX)) rfl rfl rfl rfl ⟨Nat.le_of_ble_eq_true rfl, Nat.le_of_ble_eq_true rfl⟩ rfl hF (fun x114 h113 hF => ?_)
    exact jj_retI (ty := .int) rfl rfl dX4_append_21 ⟨Nat.le_of_ble_eq_true rfl, Nat.le_of_ble_eq_true rfl⟩ hF
theorem KX4_append {a0 : Nat} {x1 : Int32} {h : jm_H} {X : jm_X} (hF : FX4_append a0 x1 h = some X) : jm_K M_X4_append [.ref a0, .int x1] h X := jk_of rfl (by decide +kernel) rfl rfl (Nat.le_of_ble_eq_true rfl) (JX4_append hF)
set_option maxRecDepth 100000 in
set_option maxHeartbeats 4000000 in
theorem JX4_clearBuffer {a0 : Nat} {h : jm_H} {X : jm_X} (hF : FX4_clearBuffer a0 h = some X) : jm_J M_X4_clearBuffer 0 [(0, .ref a0)] [] h 0 0 X := by
  unfold FX4_clearBuffer at hF
  refine jj_aload_n (j := 0) (i := 0) (pc' := 1) dX4_clearBuffer_0 rfl rfl rfl ?_
  refine jj_iconst (v := (0 : Int32)) (pc' := 2) dX4_clearBuffer_1 rfl rfl ?_
  refine jj_p (C := RX4) (T := TX4) (N := 15) (ci := 4) (k := 7) (ty := tyX4) (pc' := 5) dX4_clearBuffer_2 rfl rfl inX4 tyX4_ok nmX4 (by decide) qw_79 rfl (fun _ => ⟨rfl, rfl⟩) hF (fun h101 hF => ?_)
  refine jj_aload_n (j := 0) (i := 0) (pc' := 6) dX4_clearBuffer_5 rfl rfl rfl ?_
  refine jj_gI (C := RX4) (T := TX4) (N := 15) (ci := 4) (k := 6) (pc' := 9) dX4_clearBuffer_6 rfl rfl inX4 (by decide) qw_84 hF (fun x102 hF => ?_)
  refine jj_istore_n (i := 1) (ls' := [(1, .int x102), (0, .ref a0)]) (pc' := 10) dX4_clearBuffer_9 rfl (Nat.le_of_ble_eq_true rfl) rfl rfl ?_
  refine jj_aload_n (j := 1) (i := 0) (pc' := 11) dX4_clearBuffer_10 rfl rfl rfl ?_
  refine jj_iconst (v := (0 : Int32)) (pc' := 12) dX4_clearBuffer_11 rfl rfl ?_
  refine jj_p (C := RX4) (T := TX4) (N := 15) (ci := 4) (k := 6) (ty := tyX4) (pc' := 15) dX4_clearBuffer_12 rfl rfl inX4 tyX4_ok nmX4 (by decide) qw_84 rfl (fun _ => ⟨rfl, rfl⟩) hF (fun h103 hF => ?_)
  refine jj_iload_n (j := 0) (i := 1) (pc' := 16) dX4_clearBuffer_15 rfl rfl rfl ?_
  exact jj_retI (ty := .int) rfl rfl dX4_clearBuffer_16 ⟨Nat.le_of_ble_eq_true rfl, Nat.le_of_ble_eq_true rfl⟩ hF
theorem KX4_clearBuffer {a0 : Nat} {h : jm_H} {X : jm_X} (hF : FX4_clearBuffer a0 h = some X) : jm_K M_X4_clearBuffer [.ref a0] h X := jk_of rfl (by decide +kernel) rfl rfl (Nat.le_of_ble_eq_true rfl) (JX4_clearBuffer hF)
set_option maxRecDepth 100000 in
set_option maxHeartbeats 4000000 in
theorem JX4_sees {a0 : Nat} {x1 : Int32} {x2 : Int32} {h : jm_H} {X : jm_X} (hF : FX4_sees a0 x1 x2 h = some X) : jm_J M_X4_sees 0 [(0, .ref a0), (1, .int x1), (2, .int x2)] [] h 0 0 X := by
  unfold FX4_sees at hF
  refine jj_aload_n (j := 0) (i := 0) (pc' := 1) dX4_sees_0 rfl rfl rfl ?_
  refine jj_gI (C := RX4) (T := TX4) (N := 15) (ci := 4) (k := 11) (pc' := 4) dX4_sees_1 rfl rfl inX4 (by decide) qw_85 hF (fun x101 hF => ?_)
  refine jj_aload_n (j := 0) (i := 0) (pc' := 5) dX4_sees_4 rfl rfl rfl ?_
  refine jj_gI (C := RX4) (T := TX4) (N := 15) (ci := 4) (k := 6) (pc' := 8) dX4_sees_5 rfl rfl inX4 (by decide) qw_84 hF (fun x102 hF => ?_)
  refine jj_icmp_ge (tgt := 32) (pc' := 11) dX4_sees_8 rfl rfl (fun hc hF => ?_) (fun hc hF => ?_) hF
  · skip
    refine jj_iconst (v := (0 : Int32)) (pc' := 33) dX4_sees_32 rfl rfl ?_
    exact jj_retI (ty := .boolean) rfl rfl dX4_sees_33 ⟨Nat.le_of_ble_eq_true rfl, Nat.le_of_ble_eq_true rfl⟩ hF
  · skip
    refine jj_aload_n (j := 0) (i := 0) (pc' := 12) dX4_sees_11 rfl rfl rfl ?_
    refine jj_gR (C := RX4) (T := TX4) (N := 15) (ci := 4) (k := 5) (pc' := 15) dX4_sees_12 rfl rfl inX4 (by decide) qw_77 hF (fun r103 hF => ?_)
    refine jj_aload_n (j := 0) (i := 0) (pc' := 16) dX4_sees_15 rfl rfl rfl ?_
    refine jj_gI (C := RX4) (T := TX4) (N := 15) (ci := 4) (k := 11) (pc' := 19) dX4_sees_16 rfl rfl inX4 (by decide) qw_85 hF (fun x104 hF => ?_)
    refine jj_ldI (pc' := 20) dX4_sees_19 rfl hF (fun x105 hF => ?_)
    refine jj_iload_n (j := 1) (i := 1) (pc' := 21) dX4_sees_20 rfl rfl rfl ?_
    refine jj_iload_n (j := 2) (i := 2) (pc' := 22) dX4_sees_21 rfl rfl rfl ?_
    refine jj_cI (N := M_X4_in) (kc' := 0) (ks' := 0) (pc' := 25) (jg_S (N := M_X4_in) (rest := []) (as := [.int x105, .int x1, .int x2]) cf_X4_88 rfl dX4_sees_22 rfl rfl ⟨Nat.le_of_ble_eq_true rfl, Nat.le_of_ble_eq_true rfl⟩ ⟨Nat.le_of_ble_eq_true rfl, Nat.le_of_ble_eq_true rfl⟩ (Nat.le_of_ble_eq_true rfl) (fun X' hX => KX4_in hX)) rfl rfl rfl rfl ⟨Nat.le_of_ble_eq_true rfl, Nat.le_of_ble_eq_true rfl⟩ rfl hF (fun x107 h106 hF => ?_)
    refine jj_if_eq (tgt := 32) (pc' := 28) dX4_sees_25 rfl rfl (fun hc hF => ?_) (fun hc hF => ?_) hF
    · skip
      refine jj_iconst (v := (0 : Int32)) (pc' := 33) dX4_sees_32 rfl rfl ?_
      exact jj_retI (ty := .boolean) rfl rfl dX4_sees_33 ⟨Nat.le_of_ble_eq_true rfl, Nat.le_of_ble_eq_true rfl⟩ hF
    · skip
      refine jj_iconst (v := (1 : Int32)) (pc' := 29) dX4_sees_28 rfl rfl ?_
      refine jj_goto (tgt := 33) dX4_sees_29 rfl ?_
      exact jj_retI (ty := .boolean) rfl rfl dX4_sees_33 ⟨Nat.le_of_ble_eq_true rfl, Nat.le_of_ble_eq_true rfl⟩ hF
theorem KX4_sees {a0 : Nat} {x1 : Int32} {x2 : Int32} {h : jm_H} {X : jm_X} (hF : FX4_sees a0 x1 x2 h = some X) : jm_K M_X4_sees [.ref a0, .int x1, .int x2] h X := jk_of rfl (by decide +kernel) rfl rfl (Nat.le_of_ble_eq_true rfl) (JX4_sees hF)
set_option maxRecDepth 100000 in
set_option maxHeartbeats 4000000 in
theorem JX4_takes {a0 : Nat} {x1 : Int32} {h : jm_H} {X : jm_X} (hF : FX4_takes a0 x1 h = some X) : jm_J M_X4_takes 0 [(0, .ref a0), (1, .int x1)] [] h 0 0 X := by
  unfold FX4_takes at hF
  refine jj_aload_n (j := 0) (i := 0) (pc' := 1) dX4_takes_0 rfl rfl rfl ?_
  refine jj_iload_n (j := 1) (i := 1) (pc' := 2) dX4_takes_1 rfl rfl rfl ?_
  refine jj_iload_n (j := 1) (i := 1) (pc' := 3) dX4_takes_2 rfl rfl rfl ?_
  refine jj_cI (N := M_X4_sees) (kc' := 0) (ks' := 0) (pc' := 6) (jg_V (N := M_X4_sees) (ci := 4) (rest := []) (as := [.int x1, .int x1]) cf_X4_143 dX4_takes_3 ⟨rfl, rfl⟩ rfl rfl ⟨Nat.le_of_ble_eq_true rfl, Nat.le_of_ble_eq_true rfl⟩ ⟨Nat.le_of_ble_eq_true rfl, Nat.le_of_ble_eq_true rfl⟩ (Nat.le_of_ble_eq_true rfl) (fun X' hX => KX4_sees hX)) rfl rfl rfl rfl ⟨Nat.le_of_ble_eq_true rfl, Nat.le_of_ble_eq_true rfl⟩ rfl hF (fun x102 h101 hF => ?_)
  refine jj_istore_n (i := 2) (ls' := [(2, .int x102), (0, .ref a0), (1, .int x1)]) (pc' := 7) dX4_takes_6 rfl (Nat.le_of_ble_eq_true rfl) rfl rfl ?_
  refine jj_aload_n (j := 1) (i := 0) (pc' := 8) dX4_takes_7 rfl rfl rfl ?_
  refine jj_dup (pc' := 9) dX4_takes_8 rfl rfl ?_
  refine jj_gI (C := RX4) (T := TX4) (N := 15) (ci := 4) (k := 11) (pc' := 12) dX4_takes_9 rfl rfl inX4 (by decide) qw_85 hF (fun x103 hF => ?_)
  refine jj_iload_n (j := 0) (i := 2) (pc' := 13) dX4_takes_12 rfl rfl rfl ?_
  refine jj_if_eq (tgt := 20) (pc' := 16) dX4_takes_13 rfl rfl (fun hc hF => ?_) (fun hc hF => ?_) hF
  · skip
    refine jj_iconst (v := (0 : Int32)) (pc' := 21) dX4_takes_20 rfl rfl ?_
    refine jj_iadd (pc' := 22) dX4_takes_21 rfl ?_
    refine jj_p (C := RX4) (T := TX4) (N := 15) (ci := 4) (k := 11) (ty := tyX4) (pc' := 25) dX4_takes_22 rfl rfl inX4 tyX4_ok nmX4 (by decide) qw_85 rfl (fun _ => ⟨rfl, rfl⟩) hF (fun h104 hF => ?_)
    refine jj_iload_n (j := 0) (i := 2) (pc' := 26) dX4_takes_25 rfl rfl rfl ?_
    exact jj_retZ rfl dX4_takes_26 ⟨Nat.le_of_ble_eq_true rfl, Nat.le_of_ble_eq_true rfl⟩ hF
  · skip
    refine jj_iconst (v := (1 : Int32)) (pc' := 17) dX4_takes_16 rfl rfl ?_
    refine jj_goto (tgt := 21) dX4_takes_17 rfl ?_
    refine jj_iadd (pc' := 22) dX4_takes_21 rfl ?_
    refine jj_p (C := RX4) (T := TX4) (N := 15) (ci := 4) (k := 11) (ty := tyX4) (pc' := 25) dX4_takes_22 rfl rfl inX4 tyX4_ok nmX4 (by decide) qw_85 rfl (fun _ => ⟨rfl, rfl⟩) hF (fun h105 hF => ?_)
    refine jj_iload_n (j := 0) (i := 2) (pc' := 26) dX4_takes_25 rfl rfl rfl ?_
    exact jj_retZ rfl dX4_takes_26 ⟨Nat.le_of_ble_eq_true rfl, Nat.le_of_ble_eq_true rfl⟩ hF
theorem KX4_takes {a0 : Nat} {x1 : Int32} {h : jm_H} {X : jm_X} (hF : FX4_takes a0 x1 h = some X) : jm_K M_X4_takes [.ref a0, .int x1] h X := jk_of rfl (by decide +kernel) rfl rfl (Nat.le_of_ble_eq_true rfl) (JX4_takes hF)
set_option maxRecDepth 100000 in
set_option maxHeartbeats 4000000 in
theorem BX4_isNumber_49 (N : Nat) : ∀ (n : Nat) (a0 : Nat) (x1 : Int32) (x2 : Int32) (x3 : Int32) (h : jm_H) (X : jm_X), FX4_isNumber_49 N n a0 x1 x2 x3 h = some X → jm_J M_X4_isNumber 49 [(0, .ref a0), (1, .int x1), (2, .int x2), (3, .int x3)] [] h 0 0 X := by
  intro n
  induction n with
  | zero =>
    intro a0 x1 x2 x3 h X hF
    exact nomatch (show (none : Option jm_X) = some X from hF)
  | succ n ih =>
    intro a0 x1 x2 x3 h X hF
    rw [FX4_isNumber_49] at hF
    refine jj_iload_n (j := 3) (i := 3) (pc' := 50) dX4_isNumber_49 rfl rfl rfl ?_
    refine jj_if_le (tgt := 116) (pc' := 53) dX4_isNumber_50 rfl rfl (fun hc hF => ?_) (fun hc hF => ?_) hF
    · skip
      refine jj_aload_n (j := 0) (i := 0) (pc' := 117) dX4_isNumber_116 rfl rfl rfl ?_
      refine jj_gR (C := RX4) (T := TX4) (N := 15) (ci := 4) (k := 12) (pc' := 120) dX4_isNumber_117 rfl rfl inX4 (by decide) qw_78 hF (fun r101 hF => ?_)
      refine jj_iconst (v := (4 : Int32)) (pc' := 121) dX4_isNumber_120 rfl rfl ?_
      refine jj_aload_n (j := 0) (i := 0) (pc' := 122) dX4_isNumber_121 rfl rfl rfl ?_
      refine jj_gI (C := RX4) (T := TX4) (N := 15) (ci := 4) (k := 13) (pc' := 125) dX4_isNumber_122 rfl rfl inX4 (by decide) qw_86 hF (fun x102 hF => ?_)
      refine jj_imul (pc' := 126) dX4_isNumber_125 rfl ?_
      refine jj_iload_n (j := 1) (i := 1) (pc' := 127) dX4_isNumber_126 rfl rfl rfl ?_
      refine jj_iadd (pc' := 128) dX4_isNumber_127 rfl ?_
      refine jj_iload_n (j := 3) (i := 3) (pc' := 129) dX4_isNumber_128 rfl rfl rfl ?_
      refine jj_stI (pc' := 130) dX4_isNumber_129 rfl hF (fun h103 hF => ?_)
      refine jj_iconst (v := (1 : Int32)) (pc' := 131) dX4_isNumber_130 rfl rfl ?_
      exact jj_retI (ty := .boolean) rfl rfl dX4_isNumber_131 ⟨Nat.le_of_ble_eq_true rfl, Nat.le_of_ble_eq_true rfl⟩ hF
    · skip
      refine jj_aload_n (j := 0) (i := 0) (pc' := 54) dX4_isNumber_53 rfl rfl rfl ?_
      refine jj_bipush (v := (48 : Int32)) (pc' := 56) dX4_isNumber_54 rfl rfl ?_
      refine jj_bipush (v := (57 : Int32)) (pc' := 58) dX4_isNumber_56 rfl rfl ?_
      refine jj_cI (N := M_X4_sees) (kc' := 0) (ks' := 0) (pc' := 61) (jg_V (N := M_X4_sees) (ci := 4) (rest := []) (as := [.int ((48 : Int32)), .int ((57 : Int32))]) cf_X4_143 dX4_isNumber_58 ⟨rfl, rfl⟩ rfl rfl ⟨Nat.le_of_ble_eq_true rfl, Nat.le_of_ble_eq_true rfl⟩ ⟨Nat.le_of_ble_eq_true rfl, Nat.le_of_ble_eq_true rfl⟩ (Nat.le_of_ble_eq_true rfl) (fun X' hX => KX4_sees hX)) rfl rfl rfl rfl ⟨Nat.le_of_ble_eq_true rfl, Nat.le_of_ble_eq_true rfl⟩ rfl hF (fun x105 h104 hF => ?_)
      refine jj_if_eq (tgt := 116) (pc' := 64) dX4_isNumber_61 rfl rfl (fun hc hF => ?_) (fun hc hF => ?_) hF
      · skip
        refine jj_aload_n (j := 0) (i := 0) (pc' := 117) dX4_isNumber_116 rfl rfl rfl ?_
        refine jj_gR (C := RX4) (T := TX4) (N := 15) (ci := 4) (k := 12) (pc' := 120) dX4_isNumber_117 rfl rfl inX4 (by decide) qw_78 hF (fun r106 hF => ?_)
        refine jj_iconst (v := (4 : Int32)) (pc' := 121) dX4_isNumber_120 rfl rfl ?_
        refine jj_aload_n (j := 0) (i := 0) (pc' := 122) dX4_isNumber_121 rfl rfl rfl ?_
        refine jj_gI (C := RX4) (T := TX4) (N := 15) (ci := 4) (k := 13) (pc' := 125) dX4_isNumber_122 rfl rfl inX4 (by decide) qw_86 hF (fun x107 hF => ?_)
        refine jj_imul (pc' := 126) dX4_isNumber_125 rfl ?_
        refine jj_iload_n (j := 1) (i := 1) (pc' := 127) dX4_isNumber_126 rfl rfl rfl ?_
        refine jj_iadd (pc' := 128) dX4_isNumber_127 rfl ?_
        refine jj_iload_n (j := 3) (i := 3) (pc' := 129) dX4_isNumber_128 rfl rfl rfl ?_
        refine jj_stI (pc' := 130) dX4_isNumber_129 rfl hF (fun h108 hF => ?_)
        refine jj_iconst (v := (1 : Int32)) (pc' := 131) dX4_isNumber_130 rfl rfl ?_
        exact jj_retI (ty := .boolean) rfl rfl dX4_isNumber_131 ⟨Nat.le_of_ble_eq_true rfl, Nat.le_of_ble_eq_true rfl⟩ hF
      · skip
        refine jj_bipush (v := (10 : Int32)) (pc' := 66) dX4_isNumber_64 rfl rfl ?_
        refine jj_iload_n (j := 3) (i := 3) (pc' := 67) dX4_isNumber_66 rfl rfl rfl ?_
        refine jj_imul (pc' := 68) dX4_isNumber_67 rfl ?_
        refine jj_aload_n (j := 0) (i := 0) (pc' := 69) dX4_isNumber_68 rfl rfl rfl ?_
        refine jj_gR (C := RX4) (T := TX4) (N := 15) (ci := 4) (k := 5) (pc' := 72) dX4_isNumber_69 rfl rfl inX4 (by decide) qw_77 hF (fun r109 hF => ?_)
        refine jj_aload_n (j := 0) (i := 0) (pc' := 73) dX4_isNumber_72 rfl rfl rfl ?_
        refine jj_gI (C := RX4) (T := TX4) (N := 15) (ci := 4) (k := 11) (pc' := 76) dX4_isNumber_73 rfl rfl inX4 (by decide) qw_85 hF (fun x110 hF => ?_)
        refine jj_ldI (pc' := 77) dX4_isNumber_76 rfl hF (fun x111 hF => ?_)
        refine jj_iadd (pc' := 78) dX4_isNumber_77 rfl ?_
        refine jj_bipush (v := (48 : Int32)) (pc' := 80) dX4_isNumber_78 rfl rfl ?_
        refine jj_isub (pc' := 81) dX4_isNumber_80 rfl ?_
        refine jj_iload_n (j := 2) (i := 2) (pc' := 82) dX4_isNumber_81 rfl rfl rfl ?_
        refine jj_icmp_gt (tgt := 116) (pc' := 85) dX4_isNumber_82 rfl rfl (fun hc hF => ?_) (fun hc hF => ?_) hF
        · skip
          refine jj_aload_n (j := 0) (i := 0) (pc' := 117) dX4_isNumber_116 rfl rfl rfl ?_
          refine jj_gR (C := RX4) (T := TX4) (N := 15) (ci := 4) (k := 12) (pc' := 120) dX4_isNumber_117 rfl rfl inX4 (by decide) qw_78 hF (fun r112 hF => ?_)
          refine jj_iconst (v := (4 : Int32)) (pc' := 121) dX4_isNumber_120 rfl rfl ?_
          refine jj_aload_n (j := 0) (i := 0) (pc' := 122) dX4_isNumber_121 rfl rfl rfl ?_
          refine jj_gI (C := RX4) (T := TX4) (N := 15) (ci := 4) (k := 13) (pc' := 125) dX4_isNumber_122 rfl rfl inX4 (by decide) qw_86 hF (fun x113 hF => ?_)
          refine jj_imul (pc' := 126) dX4_isNumber_125 rfl ?_
          refine jj_iload_n (j := 1) (i := 1) (pc' := 127) dX4_isNumber_126 rfl rfl rfl ?_
          refine jj_iadd (pc' := 128) dX4_isNumber_127 rfl ?_
          refine jj_iload_n (j := 3) (i := 3) (pc' := 129) dX4_isNumber_128 rfl rfl rfl ?_
          refine jj_stI (pc' := 130) dX4_isNumber_129 rfl hF (fun h114 hF => ?_)
          refine jj_iconst (v := (1 : Int32)) (pc' := 131) dX4_isNumber_130 rfl rfl ?_
          exact jj_retI (ty := .boolean) rfl rfl dX4_isNumber_131 ⟨Nat.le_of_ble_eq_true rfl, Nat.le_of_ble_eq_true rfl⟩ hF
        · skip
          refine jj_bipush (v := (10 : Int32)) (pc' := 87) dX4_isNumber_85 rfl rfl ?_
          refine jj_iload_n (j := 3) (i := 3) (pc' := 88) dX4_isNumber_87 rfl rfl rfl ?_
          refine jj_imul (pc' := 89) dX4_isNumber_88 rfl ?_
          refine jj_aload_n (j := 0) (i := 0) (pc' := 90) dX4_isNumber_89 rfl rfl rfl ?_
          refine jj_gR (C := RX4) (T := TX4) (N := 15) (ci := 4) (k := 5) (pc' := 93) dX4_isNumber_90 rfl rfl inX4 (by decide) qw_77 hF (fun r115 hF => ?_)
          refine jj_aload_n (j := 0) (i := 0) (pc' := 94) dX4_isNumber_93 rfl rfl rfl ?_
          refine jj_gI (C := RX4) (T := TX4) (N := 15) (ci := 4) (k := 11) (pc' := 97) dX4_isNumber_94 rfl rfl inX4 (by decide) qw_85 hF (fun x116 hF => ?_)
          refine jj_ldI (pc' := 98) dX4_isNumber_97 rfl hF (fun x117 hF => ?_)
          refine jj_iadd (pc' := 99) dX4_isNumber_98 rfl ?_
          refine jj_bipush (v := (48 : Int32)) (pc' := 101) dX4_isNumber_99 rfl rfl ?_
          refine jj_isub (pc' := 102) dX4_isNumber_101 rfl ?_
          refine jj_istore_n (i := 3) (ls' := [(3, .int (((((10 : Int32)) * x3) + x117) - ((48 : Int32)))), (0, .ref a0), (1, .int x1), (2, .int x2)]) (pc' := 103) dX4_isNumber_102 rfl (Nat.le_of_ble_eq_true rfl) rfl rfl ?_
          refine jj_aload_n (j := 1) (i := 0) (pc' := 104) dX4_isNumber_103 rfl rfl rfl ?_
          refine jj_dup (pc' := 105) dX4_isNumber_104 rfl rfl ?_
          refine jj_gI (C := RX4) (T := TX4) (N := 15) (ci := 4) (k := 11) (pc' := 108) dX4_isNumber_105 rfl rfl inX4 (by decide) qw_85 hF (fun x118 hF => ?_)
          refine jj_iconst (v := (1 : Int32)) (pc' := 109) dX4_isNumber_108 rfl rfl ?_
          refine jj_iadd (pc' := 110) dX4_isNumber_109 rfl ?_
          refine jj_p (C := RX4) (T := TX4) (N := 15) (ci := 4) (k := 11) (ty := tyX4) (pc' := 113) dX4_isNumber_110 rfl rfl inX4 tyX4_ok nmX4 (by decide) qw_85 rfl (fun _ => ⟨rfl, rfl⟩) hF (fun h119 hF => ?_)
          refine jj_goto (tgt := 49) dX4_isNumber_113 rfl ?_
          exact jj_pick [1, 2, 3, 0] rfl (ih a0 x1 x2 (((((10 : Int32)) * x3) + x117) - ((48 : Int32))) h119 _ hF)
set_option maxRecDepth 100000 in
set_option maxHeartbeats 4000000 in
theorem JX4_isNumber {N : Nat} {a0 : Nat} {x1 : Int32} {x2 : Int32} {h : jm_H} {X : jm_X} (hF : FX4_isNumber N a0 x1 x2 h = some X) : jm_J M_X4_isNumber 0 [(0, .ref a0), (1, .int x1), (2, .int x2)] [] h 0 0 X := by
  unfold FX4_isNumber at hF
  refine jj_aload_n (j := 0) (i := 0) (pc' := 1) dX4_isNumber_0 rfl rfl rfl ?_
  refine jj_bipush (v := (48 : Int32)) (pc' := 3) dX4_isNumber_1 rfl rfl ?_
  refine jj_bipush (v := (48 : Int32)) (pc' := 5) dX4_isNumber_3 rfl rfl ?_
  refine jj_iload_n (j := 2) (i := 2) (pc' := 6) dX4_isNumber_5 rfl rfl rfl ?_
  refine jj_bipush (v := (9 : Int32)) (pc' := 8) dX4_isNumber_6 rfl rfl ?_
  refine jj_icmp_ge (tgt := 15) (pc' := 11) dX4_isNumber_8 rfl rfl (fun hc hF => ?_) (fun hc hF => ?_) hF
  · skip
    refine jj_bipush (v := (9 : Int32)) (pc' := 17) dX4_isNumber_15 rfl rfl ?_
    refine jj_iadd (pc' := 18) dX4_isNumber_17 rfl ?_
    refine jj_cI (N := M_X4_sees) (kc' := 0) (ks' := 0) (pc' := 21) (jg_V (N := M_X4_sees) (ci := 4) (rest := []) (as := [.int ((48 : Int32)), .int (((48 : Int32)) + ((9 : Int32)))]) cf_X4_143 dX4_isNumber_18 ⟨rfl, rfl⟩ rfl rfl ⟨Nat.le_of_ble_eq_true rfl, Nat.le_of_ble_eq_true rfl⟩ ⟨Nat.le_of_ble_eq_true rfl, Nat.le_of_ble_eq_true rfl⟩ (Nat.le_of_ble_eq_true rfl) (fun X' hX => KX4_sees hX)) rfl rfl rfl rfl ⟨Nat.le_of_ble_eq_true rfl, Nat.le_of_ble_eq_true rfl⟩ rfl hF (fun x102 h101 hF => ?_)
    refine jj_if_ne (tgt := 26) (pc' := 24) dX4_isNumber_21 rfl rfl (fun hc hF => ?_) (fun hc hF => ?_) hF
    · skip
      refine jj_aload_n (j := 0) (i := 0) (pc' := 27) dX4_isNumber_26 rfl rfl rfl ?_
      refine jj_gR (C := RX4) (T := TX4) (N := 15) (ci := 4) (k := 5) (pc' := 30) dX4_isNumber_27 rfl rfl inX4 (by decide) qw_77 hF (fun r103 hF => ?_)
      refine jj_aload_n (j := 0) (i := 0) (pc' := 31) dX4_isNumber_30 rfl rfl rfl ?_
      refine jj_gI (C := RX4) (T := TX4) (N := 15) (ci := 4) (k := 11) (pc' := 34) dX4_isNumber_31 rfl rfl inX4 (by decide) qw_85 hF (fun x104 hF => ?_)
      refine jj_ldI (pc' := 35) dX4_isNumber_34 rfl hF (fun x105 hF => ?_)
      refine jj_bipush (v := (48 : Int32)) (pc' := 37) dX4_isNumber_35 rfl rfl ?_
      refine jj_isub (pc' := 38) dX4_isNumber_37 rfl ?_
      refine jj_istore_n (i := 3) (ls' := [(3, .int (x105 - ((48 : Int32)))), (0, .ref a0), (1, .int x1), (2, .int x2)]) (pc' := 39) dX4_isNumber_38 rfl (Nat.le_of_ble_eq_true rfl) rfl rfl ?_
      refine jj_aload_n (j := 1) (i := 0) (pc' := 40) dX4_isNumber_39 rfl rfl rfl ?_
      refine jj_dup (pc' := 41) dX4_isNumber_40 rfl rfl ?_
      refine jj_gI (C := RX4) (T := TX4) (N := 15) (ci := 4) (k := 11) (pc' := 44) dX4_isNumber_41 rfl rfl inX4 (by decide) qw_85 hF (fun x106 hF => ?_)
      refine jj_iconst (v := (1 : Int32)) (pc' := 45) dX4_isNumber_44 rfl rfl ?_
      refine jj_iadd (pc' := 46) dX4_isNumber_45 rfl ?_
      refine jj_p (C := RX4) (T := TX4) (N := 15) (ci := 4) (k := 11) (ty := tyX4) (pc' := 49) dX4_isNumber_46 rfl rfl inX4 tyX4_ok nmX4 (by decide) qw_85 rfl (fun _ => ⟨rfl, rfl⟩) hF (fun h107 hF => ?_)
      exact jj_pick [1, 2, 3, 0] rfl (BX4_isNumber_49 N N a0 x1 x2 (x105 - ((48 : Int32))) h107 _ hF)
    · skip
      refine jj_iconst (v := (0 : Int32)) (pc' := 25) dX4_isNumber_24 rfl rfl ?_
      exact jj_retI (ty := .boolean) rfl rfl dX4_isNumber_25 ⟨Nat.le_of_ble_eq_true rfl, Nat.le_of_ble_eq_true rfl⟩ hF
  · skip
    refine jj_iload_n (j := 2) (i := 2) (pc' := 12) dX4_isNumber_11 rfl rfl rfl ?_
    refine jj_goto (tgt := 17) dX4_isNumber_12 rfl ?_
    refine jj_iadd (pc' := 18) dX4_isNumber_17 rfl ?_
    refine jj_cI (N := M_X4_sees) (kc' := 0) (ks' := 0) (pc' := 21) (jg_V (N := M_X4_sees) (ci := 4) (rest := []) (as := [.int ((48 : Int32)), .int (((48 : Int32)) + x2)]) cf_X4_143 dX4_isNumber_18 ⟨rfl, rfl⟩ rfl rfl ⟨Nat.le_of_ble_eq_true rfl, Nat.le_of_ble_eq_true rfl⟩ ⟨Nat.le_of_ble_eq_true rfl, Nat.le_of_ble_eq_true rfl⟩ (Nat.le_of_ble_eq_true rfl) (fun X' hX => KX4_sees hX)) rfl rfl rfl rfl ⟨Nat.le_of_ble_eq_true rfl, Nat.le_of_ble_eq_true rfl⟩ rfl hF (fun x109 h108 hF => ?_)
    refine jj_if_ne (tgt := 26) (pc' := 24) dX4_isNumber_21 rfl rfl (fun hc hF => ?_) (fun hc hF => ?_) hF
    · skip
      refine jj_aload_n (j := 0) (i := 0) (pc' := 27) dX4_isNumber_26 rfl rfl rfl ?_
      refine jj_gR (C := RX4) (T := TX4) (N := 15) (ci := 4) (k := 5) (pc' := 30) dX4_isNumber_27 rfl rfl inX4 (by decide) qw_77 hF (fun r110 hF => ?_)
      refine jj_aload_n (j := 0) (i := 0) (pc' := 31) dX4_isNumber_30 rfl rfl rfl ?_
      refine jj_gI (C := RX4) (T := TX4) (N := 15) (ci := 4) (k := 11) (pc' := 34) dX4_isNumber_31 rfl rfl inX4 (by decide) qw_85 hF (fun x111 hF => ?_)
      refine jj_ldI (pc' := 35) dX4_isNumber_34 rfl hF (fun x112 hF => ?_)
      refine jj_bipush (v := (48 : Int32)) (pc' := 37) dX4_isNumber_35 rfl rfl ?_
      refine jj_isub (pc' := 38) dX4_isNumber_37 rfl ?_
      refine jj_istore_n (i := 3) (ls' := [(3, .int (x112 - ((48 : Int32)))), (0, .ref a0), (1, .int x1), (2, .int x2)]) (pc' := 39) dX4_isNumber_38 rfl (Nat.le_of_ble_eq_true rfl) rfl rfl ?_
      refine jj_aload_n (j := 1) (i := 0) (pc' := 40) dX4_isNumber_39 rfl rfl rfl ?_
      refine jj_dup (pc' := 41) dX4_isNumber_40 rfl rfl ?_
      refine jj_gI (C := RX4) (T := TX4) (N := 15) (ci := 4) (k := 11) (pc' := 44) dX4_isNumber_41 rfl rfl inX4 (by decide) qw_85 hF (fun x113 hF => ?_)
      refine jj_iconst (v := (1 : Int32)) (pc' := 45) dX4_isNumber_44 rfl rfl ?_
      refine jj_iadd (pc' := 46) dX4_isNumber_45 rfl ?_
      refine jj_p (C := RX4) (T := TX4) (N := 15) (ci := 4) (k := 11) (ty := tyX4) (pc' := 49) dX4_isNumber_46 rfl rfl inX4 tyX4_ok nmX4 (by decide) qw_85 rfl (fun _ => ⟨rfl, rfl⟩) hF (fun h114 hF => ?_)
      exact jj_pick [1, 2, 3, 0] rfl (BX4_isNumber_49 N N a0 x1 x2 (x112 - ((48 : Int32))) h114 _ hF)
    · skip
      refine jj_iconst (v := (0 : Int32)) (pc' := 25) dX4_isNumber_24 rfl rfl ?_
      exact jj_retI (ty := .boolean) rfl rfl dX4_isNumber_25 ⟨Nat.le_of_ble_eq_true rfl, Nat.le_of_ble_eq_true rfl⟩ hF
theorem KX4_isNumber {N : Nat} {a0 : Nat} {x1 : Int32} {x2 : Int32} {h : jm_H} {X : jm_X} (hF : FX4_isNumber N a0 x1 x2 h = some X) : jm_K M_X4_isNumber [.ref a0, .int x1, .int x2] h X := jk_of rfl (by decide +kernel) rfl rfl (Nat.le_of_ble_eq_true rfl) (JX4_isNumber hF)
set_option maxRecDepth 100000 in
set_option maxHeartbeats 4000000 in
theorem JX4_isPart {N : Nat} {a0 : Nat} {h : jm_H} {X : jm_X} (hF : FX4_isPart N a0 h = some X) : jm_J M_X4_isPart 0 [(0, .ref a0)] [] h 0 0 X := by
  unfold FX4_isPart at hF
  refine jj_aload_n (j := 0) (i := 0) (pc' := 1) dX4_isPart_0 rfl rfl rfl ?_
  refine jj_iconst (v := (0 : Int32)) (pc' := 2) dX4_isPart_1 rfl rfl ?_
  refine jj_bipush (v := (7 : Int32)) (pc' := 4) dX4_isPart_2 rfl rfl ?_
  refine jj_cI (N := M_X4_isNumber) (kc' := 0) (ks' := 0) (pc' := 7) (jg_V (N := M_X4_isNumber) (ci := 4) (rest := []) (as := [.int ((0 : Int32)), .int ((7 : Int32))]) cf_X4_149 dX4_isPart_4 ⟨rfl, rfl⟩ rfl rfl ⟨Nat.le_of_ble_eq_true rfl, Nat.le_of_ble_eq_true rfl⟩ ⟨Nat.le_of_ble_eq_true rfl, Nat.le_of_ble_eq_true rfl⟩ (Nat.le_of_ble_eq_true rfl) (fun X' hX => KX4_isNumber hX)) rfl rfl rfl rfl ⟨Nat.le_of_ble_eq_true rfl, Nat.le_of_ble_eq_true rfl⟩ rfl hF (fun x102 h101 hF => ?_)
  refine jj_if_eq (tgt := 48) (pc' := 10) dX4_isPart_7 rfl rfl (fun hc hF => ?_) (fun hc hF => ?_) hF
  · skip
    refine jj_iconst (v := (0 : Int32)) (pc' := 49) dX4_isPart_48 rfl rfl ?_
    exact jj_retI (ty := .boolean) rfl rfl dX4_isPart_49 ⟨Nat.le_of_ble_eq_true rfl, Nat.le_of_ble_eq_true rfl⟩ hF
  · skip
    refine jj_aload_n (j := 0) (i := 0) (pc' := 11) dX4_isPart_10 rfl rfl rfl ?_
    refine jj_bipush (v := (47 : Int32)) (pc' := 13) dX4_isPart_11 rfl rfl ?_
    refine jj_cI (N := M_X4_takes) (kc' := 0) (ks' := 0) (pc' := 16) (jg_V (N := M_X4_takes) (ci := 4) (rest := []) (as := [.int ((47 : Int32))]) cf_X4_152 dX4_isPart_13 ⟨rfl, rfl⟩ rfl rfl ⟨Nat.le_of_ble_eq_true rfl, Nat.le_of_ble_eq_true rfl⟩ ⟨Nat.le_of_ble_eq_true rfl, Nat.le_of_ble_eq_true rfl⟩ (Nat.le_of_ble_eq_true rfl) (fun X' hX => KX4_takes hX)) rfl rfl rfl rfl ⟨Nat.le_of_ble_eq_true rfl, Nat.le_of_ble_eq_true rfl⟩ rfl hF (fun x104 h103 hF => ?_)
    refine jj_if_eq (tgt := 48) (pc' := 19) dX4_isPart_16 rfl rfl (fun hc hF => ?_) (fun hc hF => ?_) hF
    · skip
      refine jj_iconst (v := (0 : Int32)) (pc' := 49) dX4_isPart_48 rfl rfl ?_
      exact jj_retI (ty := .boolean) rfl rfl dX4_isPart_49 ⟨Nat.le_of_ble_eq_true rfl, Nat.le_of_ble_eq_true rfl⟩ hF
    · skip
      refine jj_aload_n (j := 0) (i := 0) (pc' := 20) dX4_isPart_19 rfl rfl rfl ?_
      refine jj_iconst (v := (1 : Int32)) (pc' := 21) dX4_isPart_20 rfl rfl ?_
      refine jj_iconst (v := (2 : Int32)) (pc' := 22) dX4_isPart_21 rfl rfl ?_
      refine jj_cI (N := M_X4_isNumber) (kc' := 0) (ks' := 0) (pc' := 25) (jg_V (N := M_X4_isNumber) (ci := 4) (rest := []) (as := [.int ((1 : Int32)), .int ((2 : Int32))]) cf_X4_149 dX4_isPart_22 ⟨rfl, rfl⟩ rfl rfl ⟨Nat.le_of_ble_eq_true rfl, Nat.le_of_ble_eq_true rfl⟩ ⟨Nat.le_of_ble_eq_true rfl, Nat.le_of_ble_eq_true rfl⟩ (Nat.le_of_ble_eq_true rfl) (fun X' hX => KX4_isNumber hX)) rfl rfl rfl rfl ⟨Nat.le_of_ble_eq_true rfl, Nat.le_of_ble_eq_true rfl⟩ rfl hF (fun x106 h105 hF => ?_)
      refine jj_if_eq (tgt := 48) (pc' := 28) dX4_isPart_25 rfl rfl (fun hc hF => ?_) (fun hc hF => ?_) hF
      · skip
        refine jj_iconst (v := (0 : Int32)) (pc' := 49) dX4_isPart_48 rfl rfl ?_
        exact jj_retI (ty := .boolean) rfl rfl dX4_isPart_49 ⟨Nat.le_of_ble_eq_true rfl, Nat.le_of_ble_eq_true rfl⟩ hF
      · skip
        refine jj_aload_n (j := 0) (i := 0) (pc' := 29) dX4_isPart_28 rfl rfl rfl ?_
        refine jj_bipush (v := (64 : Int32)) (pc' := 31) dX4_isPart_29 rfl rfl ?_
        refine jj_cI (N := M_X4_takes) (kc' := 0) (ks' := 0) (pc' := 34) (jg_V (N := M_X4_takes) (ci := 4) (rest := []) (as := [.int ((64 : Int32))]) cf_X4_152 dX4_isPart_31 ⟨rfl, rfl⟩ rfl rfl ⟨Nat.le_of_ble_eq_true rfl, Nat.le_of_ble_eq_true rfl⟩ ⟨Nat.le_of_ble_eq_true rfl, Nat.le_of_ble_eq_true rfl⟩ (Nat.le_of_ble_eq_true rfl) (fun X' hX => KX4_takes hX)) rfl rfl rfl rfl ⟨Nat.le_of_ble_eq_true rfl, Nat.le_of_ble_eq_true rfl⟩ rfl hF (fun x108 h107 hF => ?_)
        refine jj_if_eq (tgt := 48) (pc' := 37) dX4_isPart_34 rfl rfl (fun hc hF => ?_) (fun hc hF => ?_) hF
        · skip
          refine jj_iconst (v := (0 : Int32)) (pc' := 49) dX4_isPart_48 rfl rfl ?_
          exact jj_retI (ty := .boolean) rfl rfl dX4_isPart_49 ⟨Nat.le_of_ble_eq_true rfl, Nat.le_of_ble_eq_true rfl⟩ hF
        · skip
          refine jj_aload_n (j := 0) (i := 0) (pc' := 38) dX4_isPart_37 rfl rfl rfl ?_
          refine jj_iconst (v := (2 : Int32)) (pc' := 39) dX4_isPart_38 rfl rfl ?_
          refine jj_sipush (v := (1999 : Int32)) (pc' := 42) dX4_isPart_39 rfl rfl ?_
          refine jj_cI (N := M_X4_isNumber) (kc' := 0) (ks' := 0) (pc' := 45) (jg_V (N := M_X4_isNumber) (ci := 4) (rest := []) (as := [.int ((2 : Int32)), .int ((1999 : Int32))]) cf_X4_149 dX4_isPart_42 ⟨rfl, rfl⟩ rfl rfl ⟨Nat.le_of_ble_eq_true rfl, Nat.le_of_ble_eq_true rfl⟩ ⟨Nat.le_of_ble_eq_true rfl, Nat.le_of_ble_eq_true rfl⟩ (Nat.le_of_ble_eq_true rfl) (fun X' hX => KX4_isNumber hX)) rfl rfl rfl rfl ⟨Nat.le_of_ble_eq_true rfl, Nat.le_of_ble_eq_true rfl⟩ rfl hF (fun x110 h109 hF => ?_)
          refine jj_if_ne (tgt := 50) (pc' := 48) dX4_isPart_45 rfl rfl (fun hc hF => ?_) (fun hc hF => ?_) hF
          · skip
            refine jj_aload_n (j := 0) (i := 0) (pc' := 51) dX4_isPart_50 rfl rfl rfl ?_
            refine jj_gR (C := RX4) (T := TX4) (N := 15) (ci := 4) (k := 12) (pc' := 54) dX4_isPart_51 rfl rfl inX4 (by decide) qw_78 hF (fun r111 hF => ?_)
            refine jj_iconst (v := (4 : Int32)) (pc' := 55) dX4_isPart_54 rfl rfl ?_
            refine jj_aload_n (j := 0) (i := 0) (pc' := 56) dX4_isPart_55 rfl rfl rfl ?_
            refine jj_gI (C := RX4) (T := TX4) (N := 15) (ci := 4) (k := 13) (pc' := 59) dX4_isPart_56 rfl rfl inX4 (by decide) qw_86 hF (fun x112 hF => ?_)
            refine jj_imul (pc' := 60) dX4_isPart_59 rfl ?_
            refine jj_iconst (v := (3 : Int32)) (pc' := 61) dX4_isPart_60 rfl rfl ?_
            refine jj_iadd (pc' := 62) dX4_isPart_61 rfl ?_
            refine jj_iconst (v := (0 : Int32)) (pc' := 63) dX4_isPart_62 rfl rfl ?_
            refine jj_stI (pc' := 64) dX4_isPart_63 rfl hF (fun h113 hF => ?_)
            refine jj_aload_n (j := 0) (i := 0) (pc' := 65) dX4_isPart_64 rfl rfl rfl ?_
            refine jj_bipush (v := (43 : Int32)) (pc' := 67) dX4_isPart_65 rfl rfl ?_
            refine jj_cI (N := M_X4_takes) (kc' := 0) (ks' := 0) (pc' := 70) (jg_V (N := M_X4_takes) (ci := 4) (rest := []) (as := [.int ((43 : Int32))]) cf_X4_152 dX4_isPart_67 ⟨rfl, rfl⟩ rfl rfl ⟨Nat.le_of_ble_eq_true rfl, Nat.le_of_ble_eq_true rfl⟩ ⟨Nat.le_of_ble_eq_true rfl, Nat.le_of_ble_eq_true rfl⟩ (Nat.le_of_ble_eq_true rfl) (fun X' hX => KX4_takes hX)) rfl rfl rfl rfl ⟨Nat.le_of_ble_eq_true rfl, Nat.le_of_ble_eq_true rfl⟩ rfl hF (fun x115 h114 hF => ?_)
            refine jj_if_eq (tgt := 83) (pc' := 73) dX4_isPart_70 rfl rfl (fun hc hF => ?_) (fun hc hF => ?_) hF
            · skip
              refine jj_iconst (v := (1 : Int32)) (pc' := 84) dX4_isPart_83 rfl rfl ?_
              refine jj_goto (tgt := 88) dX4_isPart_84 rfl ?_
              exact jj_retI (ty := .boolean) rfl rfl dX4_isPart_88 ⟨Nat.le_of_ble_eq_true rfl, Nat.le_of_ble_eq_true rfl⟩ hF
            · skip
              refine jj_aload_n (j := 0) (i := 0) (pc' := 74) dX4_isPart_73 rfl rfl rfl ?_
              refine jj_iconst (v := (3 : Int32)) (pc' := 75) dX4_isPart_74 rfl rfl ?_
              refine jj_bipush (v := (20 : Int32)) (pc' := 77) dX4_isPart_75 rfl rfl ?_
              refine jj_cI (N := M_X4_isNumber) (kc' := 0) (ks' := 0) (pc' := 80) (jg_V (N := M_X4_isNumber) (ci := 4) (rest := []) (as := [.int ((3 : Int32)), .int ((20 : Int32))]) cf_X4_149 dX4_isPart_77 ⟨rfl, rfl⟩ rfl rfl ⟨Nat.le_of_ble_eq_true rfl, Nat.le_of_ble_eq_true rfl⟩ ⟨Nat.le_of_ble_eq_true rfl, Nat.le_of_ble_eq_true rfl⟩ (Nat.le_of_ble_eq_true rfl) (fun X' hX => KX4_isNumber hX)) rfl rfl rfl rfl ⟨Nat.le_of_ble_eq_true rfl, Nat.le_of_ble_eq_true rfl⟩ rfl hF (fun x117 h116 hF => ?_)
              refine jj_if_eq (tgt := 87) (pc' := 83) dX4_isPart_80 rfl rfl (fun hc hF => ?_) (fun hc hF => ?_) hF
              · skip
                refine jj_iconst (v := (0 : Int32)) (pc' := 88) dX4_isPart_87 rfl rfl ?_
                exact jj_retI (ty := .boolean) rfl rfl dX4_isPart_88 ⟨Nat.le_of_ble_eq_true rfl, Nat.le_of_ble_eq_true rfl⟩ hF
              · skip
                refine jj_iconst (v := (1 : Int32)) (pc' := 84) dX4_isPart_83 rfl rfl ?_
                refine jj_goto (tgt := 88) dX4_isPart_84 rfl ?_
                exact jj_retI (ty := .boolean) rfl rfl dX4_isPart_88 ⟨Nat.le_of_ble_eq_true rfl, Nat.le_of_ble_eq_true rfl⟩ hF
          · skip
            refine jj_iconst (v := (0 : Int32)) (pc' := 49) dX4_isPart_48 rfl rfl ?_
            exact jj_retI (ty := .boolean) rfl rfl dX4_isPart_49 ⟨Nat.le_of_ble_eq_true rfl, Nat.le_of_ble_eq_true rfl⟩ hF
theorem KX4_isPart {N : Nat} {a0 : Nat} {h : jm_H} {X : jm_X} (hF : FX4_isPart N a0 h = some X) : jm_K M_X4_isPart [.ref a0] h X := jk_of rfl (by decide +kernel) rfl rfl (Nat.le_of_ble_eq_true rfl) (JX4_isPart hF)
set_option maxRecDepth 100000 in
set_option maxHeartbeats 4000000 in
theorem BX4_isWhole_12 (N : Nat) : ∀ (n : Nat) (a0 : Nat) (x1 : Int32) (h : jm_H) (X : jm_X), FX4_isWhole_12 N n a0 x1 h = some X → jm_J M_X4_isWhole 12 [(0, .ref a0), (1, .int x1)] [] h 0 0 X := by
  intro n
  induction n with
  | zero =>
    intro a0 x1 h X hF
    exact nomatch (show (none : Option jm_X) = some X from hF)
  | succ n ih =>
    intro a0 x1 h X hF
    rw [FX4_isWhole_12] at hF
    refine jj_iload_n (j := 1) (i := 1) (pc' := 13) dX4_isWhole_12 rfl rfl rfl ?_
    refine jj_if_eq (tgt := 45) (pc' := 16) dX4_isWhole_13 rfl rfl (fun hc hF => ?_) (fun hc hF => ?_) hF
    · skip
      refine jj_aload_n (j := 0) (i := 0) (pc' := 46) dX4_isWhole_45 rfl rfl rfl ?_
      refine jj_gI (C := RX4) (T := TX4) (N := 15) (ci := 4) (k := 11) (pc' := 49) dX4_isWhole_46 rfl rfl inX4 (by decide) qw_85 hF (fun x101 hF => ?_)
      refine jj_aload_n (j := 0) (i := 0) (pc' := 50) dX4_isWhole_49 rfl rfl rfl ?_
      refine jj_gI (C := RX4) (T := TX4) (N := 15) (ci := 4) (k := 6) (pc' := 53) dX4_isWhole_50 rfl rfl inX4 (by decide) qw_84 hF (fun x102 hF => ?_)
      refine jj_icmp_ne (tgt := 60) (pc' := 56) dX4_isWhole_53 rfl rfl (fun hc hF => ?_) (fun hc hF => ?_) hF
      · skip
        refine jj_iconst (v := (0 : Int32)) (pc' := 61) dX4_isWhole_60 rfl rfl ?_
        exact jj_retI (ty := .boolean) rfl rfl dX4_isWhole_61 ⟨Nat.le_of_ble_eq_true rfl, Nat.le_of_ble_eq_true rfl⟩ hF
      · skip
        refine jj_iconst (v := (1 : Int32)) (pc' := 57) dX4_isWhole_56 rfl rfl ?_
        refine jj_goto (tgt := 61) dX4_isWhole_57 rfl ?_
        exact jj_retI (ty := .boolean) rfl rfl dX4_isWhole_61 ⟨Nat.le_of_ble_eq_true rfl, Nat.le_of_ble_eq_true rfl⟩ hF
    · skip
      refine jj_aload_n (j := 0) (i := 0) (pc' := 17) dX4_isWhole_16 rfl rfl rfl ?_
      refine jj_cI (N := M_X4_isPart) (kc' := 0) (ks' := 0) (pc' := 20) (jg_V (N := M_X4_isPart) (ci := 4) (rest := []) (as := []) cf_X4_155 dX4_isWhole_17 ⟨rfl, rfl⟩ rfl rfl ⟨Nat.le_of_ble_eq_true rfl, Nat.le_of_ble_eq_true rfl⟩ ⟨Nat.le_of_ble_eq_true rfl, Nat.le_of_ble_eq_true rfl⟩ (Nat.le_of_ble_eq_true rfl) (fun X' hX => KX4_isPart hX)) rfl rfl rfl rfl ⟨Nat.le_of_ble_eq_true rfl, Nat.le_of_ble_eq_true rfl⟩ rfl hF (fun x104 h103 hF => ?_)
      refine jj_if_ne (tgt := 25) (pc' := 23) dX4_isWhole_20 rfl rfl (fun hc hF => ?_) (fun hc hF => ?_) hF
      · skip
        refine jj_aload_n (j := 0) (i := 0) (pc' := 26) dX4_isWhole_25 rfl rfl rfl ?_
        refine jj_dup (pc' := 27) dX4_isWhole_26 rfl rfl ?_
        refine jj_gI (C := RX4) (T := TX4) (N := 15) (ci := 4) (k := 13) (pc' := 30) dX4_isWhole_27 rfl rfl inX4 (by decide) qw_86 hF (fun x105 hF => ?_)
        refine jj_iconst (v := (1 : Int32)) (pc' := 31) dX4_isWhole_30 rfl rfl ?_
        refine jj_iadd (pc' := 32) dX4_isWhole_31 rfl ?_
        refine jj_p (C := RX4) (T := TX4) (N := 15) (ci := 4) (k := 13) (ty := tyX4) (pc' := 35) dX4_isWhole_32 rfl rfl inX4 tyX4_ok nmX4 (by decide) qw_86 rfl (fun _ => ⟨rfl, rfl⟩) hF (fun h106 hF => ?_)
        refine jj_aload_n (j := 0) (i := 0) (pc' := 36) dX4_isWhole_35 rfl rfl rfl ?_
        refine jj_bipush (v := (59 : Int32)) (pc' := 38) dX4_isWhole_36 rfl rfl ?_
        refine jj_cI (N := M_X4_takes) (kc' := 0) (ks' := 0) (pc' := 41) (jg_V (N := M_X4_takes) (ci := 4) (rest := []) (as := [.int ((59 : Int32))]) cf_X4_152 dX4_isWhole_38 ⟨rfl, rfl⟩ rfl rfl ⟨Nat.le_of_ble_eq_true rfl, Nat.le_of_ble_eq_true rfl⟩ ⟨Nat.le_of_ble_eq_true rfl, Nat.le_of_ble_eq_true rfl⟩ (Nat.le_of_ble_eq_true rfl) (fun X' hX => KX4_takes hX)) rfl rfl rfl rfl ⟨Nat.le_of_ble_eq_true rfl, Nat.le_of_ble_eq_true rfl⟩ rfl hF (fun x108 h107 hF => ?_)
        refine jj_istore_n (i := 1) (ls' := [(1, .int x108), (0, .ref a0)]) (pc' := 42) dX4_isWhole_41 rfl (Nat.le_of_ble_eq_true rfl) rfl rfl ?_
        refine jj_goto (tgt := 12) dX4_isWhole_42 rfl ?_
        exact jj_pick [1, 0] rfl (ih a0 x108 h107 _ hF)
      · skip
        refine jj_iconst (v := (0 : Int32)) (pc' := 24) dX4_isWhole_23 rfl rfl ?_
        exact jj_retI (ty := .boolean) rfl rfl dX4_isWhole_24 ⟨Nat.le_of_ble_eq_true rfl, Nat.le_of_ble_eq_true rfl⟩ hF
set_option maxRecDepth 100000 in
set_option maxHeartbeats 4000000 in
theorem JX4_isWhole {N : Nat} {a0 : Nat} {h : jm_H} {X : jm_X} (hF : FX4_isWhole N a0 h = some X) : jm_J M_X4_isWhole 0 [(0, .ref a0)] [] h 0 0 X := by
  unfold FX4_isWhole at hF
  refine jj_aload_n (j := 0) (i := 0) (pc' := 1) dX4_isWhole_0 rfl rfl rfl ?_
  refine jj_iconst (v := (0 : Int32)) (pc' := 2) dX4_isWhole_1 rfl rfl ?_
  refine jj_p (C := RX4) (T := TX4) (N := 15) (ci := 4) (k := 11) (ty := tyX4) (pc' := 5) dX4_isWhole_2 rfl rfl inX4 tyX4_ok nmX4 (by decide) qw_85 rfl (fun _ => ⟨rfl, rfl⟩) hF (fun h101 hF => ?_)
  refine jj_aload_n (j := 0) (i := 0) (pc' := 6) dX4_isWhole_5 rfl rfl rfl ?_
  refine jj_iconst (v := (0 : Int32)) (pc' := 7) dX4_isWhole_6 rfl rfl ?_
  refine jj_p (C := RX4) (T := TX4) (N := 15) (ci := 4) (k := 13) (ty := tyX4) (pc' := 10) dX4_isWhole_7 rfl rfl inX4 tyX4_ok nmX4 (by decide) qw_86 rfl (fun _ => ⟨rfl, rfl⟩) hF (fun h102 hF => ?_)
  refine jj_iconst (v := (1 : Int32)) (pc' := 11) dX4_isWhole_10 rfl rfl ?_
  refine jj_istore_n (i := 1) (ls' := [(1, .int ((1 : Int32))), (0, .ref a0)]) (pc' := 12) dX4_isWhole_11 rfl (Nat.le_of_ble_eq_true rfl) rfl rfl ?_
  exact jj_pick [1, 0] rfl (BX4_isWhole_12 N N a0 ((1 : Int32)) h102 _ hF)
theorem KX4_isWhole {N : Nat} {a0 : Nat} {h : jm_H} {X : jm_X} (hF : FX4_isWhole N a0 h = some X) : jm_K M_X4_isWhole [.ref a0] h X := jk_of rfl (by decide +kernel) rfl rfl (Nat.le_of_ble_eq_true rfl) (JX4_isWhole hF)
set_option maxRecDepth 100000 in
set_option maxHeartbeats 4000000 in
theorem JX4_firstError {N : Nat} {a0 : Nat} {h : jm_H} {X : jm_X} (hF : FX4_firstError N a0 h = some X) : jm_J M_X4_firstError 0 [(0, .ref a0)] [] h 0 0 X := by
  unfold FX4_firstError at hF
  refine jj_aload_n (j := 0) (i := 0) (pc' := 1) dX4_firstError_0 rfl rfl rfl ?_
  refine jj_iconst (v := (0 : Int32)) (pc' := 2) dX4_firstError_1 rfl rfl ?_
  refine jj_p (C := RX4) (T := TX4) (N := 15) (ci := 4) (k := 7) (ty := tyX4) (pc' := 5) dX4_firstError_2 rfl rfl inX4 tyX4_ok nmX4 (by decide) qw_79 rfl (fun _ => ⟨rfl, rfl⟩) hF (fun h101 hF => ?_)
  refine jj_aload_n (j := 0) (i := 0) (pc' := 6) dX4_firstError_5 rfl rfl rfl ?_
  refine jj_cI (N := M_X4_isWhole) (kc' := 0) (ks' := 0) (pc' := 9) (jg_V (N := M_X4_isWhole) (ci := 4) (rest := []) (as := []) cf_X4_159 dX4_firstError_6 ⟨rfl, rfl⟩ rfl rfl ⟨Nat.le_of_ble_eq_true rfl, Nat.le_of_ble_eq_true rfl⟩ ⟨Nat.le_of_ble_eq_true rfl, Nat.le_of_ble_eq_true rfl⟩ (Nat.le_of_ble_eq_true rfl) (fun X' hX => KX4_isWhole hX)) rfl rfl rfl rfl ⟨Nat.le_of_ble_eq_true rfl, Nat.le_of_ble_eq_true rfl⟩ rfl hF (fun x103 h102 hF => ?_)
  refine jj_if_eq (tgt := 19) (pc' := 12) dX4_firstError_9 rfl rfl (fun hc hF => ?_) (fun hc hF => ?_) hF
  · skip
    refine jj_aload_n (j := 0) (i := 0) (pc' := 20) dX4_firstError_19 rfl rfl rfl ?_
    refine jj_gI (C := RX4) (T := TX4) (N := 15) (ci := 4) (k := 11) (pc' := 23) dX4_firstError_20 rfl rfl inX4 (by decide) qw_85 hF (fun x104 hF => ?_)
    exact jj_retI (ty := .int) rfl rfl dX4_firstError_23 ⟨Nat.le_of_ble_eq_true rfl, Nat.le_of_ble_eq_true rfl⟩ hF
  · skip
    refine jj_aload_n (j := 0) (i := 0) (pc' := 13) dX4_firstError_12 rfl rfl rfl ?_
    refine jj_gI (C := RX4) (T := TX4) (N := 15) (ci := 4) (k := 6) (pc' := 16) dX4_firstError_13 rfl rfl inX4 (by decide) qw_84 hF (fun x105 hF => ?_)
    refine jj_goto (tgt := 23) dX4_firstError_16 rfl ?_
    exact jj_retI (ty := .int) rfl rfl dX4_firstError_23 ⟨Nat.le_of_ble_eq_true rfl, Nat.le_of_ble_eq_true rfl⟩ hF
theorem KX4_firstError {N : Nat} {a0 : Nat} {h : jm_H} {X : jm_X} (hF : FX4_firstError N a0 h = some X) : jm_K M_X4_firstError [.ref a0] h X := jk_of rfl (by decide +kernel) rfl rfl (Nat.le_of_ble_eq_true rfl) (JX4_firstError hF)
set_option maxRecDepth 100000 in
set_option maxHeartbeats 4000000 in
theorem JX4_isStopped {N : Nat} {a0 : Nat} {x1 : Int32} {h : jm_H} {X : jm_X} (hF : FX4_isStopped N a0 x1 h = some X) : jm_J M_X4_isStopped 0 [(0, .ref a0), (1, .int x1)] [] h 0 0 X := by
  unfold FX4_isStopped at hF
  refine jj_aload_n (j := 0) (i := 0) (pc' := 1) dX4_isStopped_0 rfl rfl rfl ?_
  refine jj_gR (C := RX4) (T := TX4) (N := 15) (ci := 4) (k := 12) (pc' := 4) dX4_isStopped_1 rfl rfl inX4 (by decide) qw_78 hF (fun r101 hF => ?_)
  refine jj_iconst (v := (4 : Int32)) (pc' := 5) dX4_isStopped_4 rfl rfl ?_
  refine jj_iload_n (j := 1) (i := 1) (pc' := 6) dX4_isStopped_5 rfl rfl rfl ?_
  refine jj_imul (pc' := 7) dX4_isStopped_6 rfl ?_
  refine jj_ldI (pc' := 8) dX4_isStopped_7 rfl hF (fun x102 hF => ?_)
  refine jj_istore_n (i := 2) (ls' := [(2, .int x102), (0, .ref a0), (1, .int x1)]) (pc' := 9) dX4_isStopped_8 rfl (Nat.le_of_ble_eq_true rfl) rfl rfl ?_
  refine jj_aload_n (j := 1) (i := 0) (pc' := 10) dX4_isStopped_9 rfl rfl rfl ?_
  refine jj_gR (C := RX4) (T := TX4) (N := 15) (ci := 4) (k := 12) (pc' := 13) dX4_isStopped_10 rfl rfl inX4 (by decide) qw_78 hF (fun r103 hF => ?_)
  refine jj_iconst (v := (4 : Int32)) (pc' := 14) dX4_isStopped_13 rfl rfl ?_
  refine jj_iload_n (j := 2) (i := 1) (pc' := 15) dX4_isStopped_14 rfl rfl rfl ?_
  refine jj_imul (pc' := 16) dX4_isStopped_15 rfl ?_
  refine jj_iconst (v := (1 : Int32)) (pc' := 17) dX4_isStopped_16 rfl rfl ?_
  refine jj_iadd (pc' := 18) dX4_isStopped_17 rfl ?_
  refine jj_ldI (pc' := 19) dX4_isStopped_18 rfl hF (fun x104 hF => ?_)
  refine jj_istore_n (i := 3) (ls' := [(3, .int x104), (2, .int x102), (0, .ref a0), (1, .int x1)]) (pc' := 20) dX4_isStopped_19 rfl (Nat.le_of_ble_eq_true rfl) rfl rfl ?_
  refine jj_aload_n (j := 2) (i := 0) (pc' := 21) dX4_isStopped_20 rfl rfl rfl ?_
  refine jj_gR (C := RX4) (T := TX4) (N := 15) (ci := 4) (k := 12) (pc' := 24) dX4_isStopped_21 rfl rfl inX4 (by decide) qw_78 hF (fun r105 hF => ?_)
  refine jj_iconst (v := (4 : Int32)) (pc' := 25) dX4_isStopped_24 rfl rfl ?_
  refine jj_iload_n (j := 3) (i := 1) (pc' := 26) dX4_isStopped_25 rfl rfl rfl ?_
  refine jj_imul (pc' := 27) dX4_isStopped_26 rfl ?_
  refine jj_iconst (v := (2 : Int32)) (pc' := 28) dX4_isStopped_27 rfl rfl ?_
  refine jj_iadd (pc' := 29) dX4_isStopped_28 rfl ?_
  refine jj_ldI (pc' := 30) dX4_isStopped_29 rfl hF (fun x106 hF => ?_)
  refine jj_istore (i := 4) (ls' := [(4, .int x106), (3, .int x104), (2, .int x102), (0, .ref a0), (1, .int x1)]) (pc' := 32) dX4_isStopped_30 (Nat.le_of_ble_eq_true rfl) rfl rfl ?_
  refine jj_aload_n (j := 3) (i := 0) (pc' := 33) dX4_isStopped_32 rfl rfl rfl ?_
  refine jj_gR (C := RX4) (T := TX4) (N := 15) (ci := 4) (k := 12) (pc' := 36) dX4_isStopped_33 rfl rfl inX4 (by decide) qw_78 hF (fun r107 hF => ?_)
  refine jj_iconst (v := (4 : Int32)) (pc' := 37) dX4_isStopped_36 rfl rfl ?_
  refine jj_iload_n (j := 4) (i := 1) (pc' := 38) dX4_isStopped_37 rfl rfl rfl ?_
  refine jj_imul (pc' := 39) dX4_isStopped_38 rfl ?_
  refine jj_iconst (v := (3 : Int32)) (pc' := 40) dX4_isStopped_39 rfl rfl ?_
  refine jj_iadd (pc' := 41) dX4_isStopped_40 rfl ?_
  refine jj_ldI (pc' := 42) dX4_isStopped_41 rfl hF (fun x108 hF => ?_)
  refine jj_istore (i := 5) (ls' := [(5, .int x108), (4, .int x106), (3, .int x104), (2, .int x102), (0, .ref a0), (1, .int x1)]) (pc' := 44) dX4_isStopped_42 (Nat.le_of_ble_eq_true rfl) rfl rfl ?_
  refine jj_aload_n (j := 4) (i := 0) (pc' := 45) dX4_isStopped_44 rfl rfl rfl ?_
  refine jj_iload_n (j := 3) (i := 2) (pc' := 46) dX4_isStopped_45 rfl rfl rfl ?_
  refine jj_cI (N := M_X4_isFilm) (kc' := 0) (ks' := 0) (pc' := 49) (jg_V (N := M_X4_isFilm) (ci := 4) (rest := []) (as := [.int x102]) cf_X4_102 dX4_isStopped_46 ⟨rfl, rfl⟩ rfl rfl ⟨Nat.le_of_ble_eq_true rfl, Nat.le_of_ble_eq_true rfl⟩ ⟨Nat.le_of_ble_eq_true rfl, Nat.le_of_ble_eq_true rfl⟩ (Nat.le_of_ble_eq_true rfl) (fun X' hX => KX4_isFilm hX)) rfl rfl rfl rfl ⟨Nat.le_of_ble_eq_true rfl, Nat.le_of_ble_eq_true rfl⟩ rfl hF (fun x110 h109 hF => ?_)
  refine jj_if_ne (tgt := 61) (pc' := 52) dX4_isStopped_49 rfl rfl (fun hc hF => ?_) (fun hc hF => ?_) hF
  · skip
    refine jj_aload_n (j := 4) (i := 0) (pc' := 62) dX4_isStopped_61 rfl rfl rfl ?_
    refine jj_iload_n (j := 3) (i := 2) (pc' := 63) dX4_isStopped_62 rfl rfl rfl ?_
    refine jj_iload_n (j := 2) (i := 3) (pc' := 64) dX4_isStopped_63 rfl rfl rfl ?_
    refine jj_iload (j := 1) (i := 4) (pc' := 66) dX4_isStopped_64 rfl rfl ?_
    refine jj_iload (j := 0) (i := 5) (pc' := 68) dX4_isStopped_66 rfl rfl ?_
    refine jj_cI (N := M_X4_reason) (kc' := 0) (ks' := 0) (pc' := 71) (jg_V (N := M_X4_reason) (ci := 4) (rest := []) (as := [.int x102, .int x104, .int x106, .int x108]) cf_X4_108 dX4_isStopped_68 ⟨rfl, rfl⟩ rfl rfl ⟨Nat.le_of_ble_eq_true rfl, Nat.le_of_ble_eq_true rfl⟩ ⟨Nat.le_of_ble_eq_true rfl, Nat.le_of_ble_eq_true rfl⟩ (Nat.le_of_ble_eq_true rfl) (fun X' hX => KX4_reason hX)) rfl rfl rfl rfl ⟨Nat.le_of_ble_eq_true rfl, Nat.le_of_ble_eq_true rfl⟩ rfl hF (fun x112 h111 hF => ?_)
    refine jj_if_eq (tgt := 89) (pc' := 74) dX4_isStopped_71 rfl rfl (fun hc hF => ?_) (fun hc hF => ?_) hF
    · skip
      refine jj_aload_n (j := 4) (i := 0) (pc' := 90) dX4_isStopped_89 rfl rfl rfl ?_
      refine jj_iload_n (j := 3) (i := 2) (pc' := 91) dX4_isStopped_90 rfl rfl rfl ?_
      refine jj_iload_n (j := 2) (i := 3) (pc' := 92) dX4_isStopped_91 rfl rfl rfl ?_
      refine jj_iload (j := 1) (i := 4) (pc' := 94) dX4_isStopped_92 rfl rfl ?_
      refine jj_iload (j := 0) (i := 5) (pc' := 96) dX4_isStopped_94 rfl rfl ?_
      refine jj_cV (N := M_X4_makes) (kc' := 0) (ks' := 0) (pc' := 99) (jg_V (N := M_X4_makes) (ci := 4) (rest := []) (as := [.int x102, .int x104, .int x106, .int x108]) cf_X4_111 dX4_isStopped_96 ⟨rfl, rfl⟩ rfl rfl ⟨Nat.le_of_ble_eq_true rfl, Nat.le_of_ble_eq_true rfl⟩ ⟨Nat.le_of_ble_eq_true rfl, Nat.le_of_ble_eq_true rfl⟩ (Nat.le_of_ble_eq_true rfl) (fun X' hX => KX4_makes hX)) rfl rfl rfl rfl ⟨Nat.le_of_ble_eq_true rfl, Nat.le_of_ble_eq_true rfl⟩ rfl hF (fun h113 hF => ?_)
      refine jj_iconst (v := (0 : Int32)) (pc' := 100) dX4_isStopped_99 rfl rfl ?_
      exact jj_retI (ty := .boolean) rfl rfl dX4_isStopped_100 ⟨Nat.le_of_ble_eq_true rfl, Nat.le_of_ble_eq_true rfl⟩ hF
    · skip
      refine jj_aload_n (j := 4) (i := 0) (pc' := 75) dX4_isStopped_74 rfl rfl rfl ?_
      refine jj_iload_n (j := 5) (i := 1) (pc' := 76) dX4_isStopped_75 rfl rfl rfl ?_
      refine jj_aload_n (j := 4) (i := 0) (pc' := 77) dX4_isStopped_76 rfl rfl rfl ?_
      refine jj_gI (C := RX4) (T := TX4) (N := 15) (ci := 4) (k := 8) (pc' := 80) dX4_isStopped_77 rfl rfl inX4 (by decide) qw_81 hF (fun x114 hF => ?_)
      refine jj_aload_n (j := 4) (i := 0) (pc' := 81) dX4_isStopped_80 rfl rfl rfl ?_
      refine jj_gI (C := RX4) (T := TX4) (N := 15) (ci := 4) (k := 9) (pc' := 84) dX4_isStopped_81 rfl rfl inX4 (by decide) qw_82 hF (fun x115 hF => ?_)
      refine jj_cV (N := M_X4_stops) (kc' := 0) (ks' := 0) (pc' := 87) (jg_V (N := M_X4_stops) (ci := 4) (rest := []) (as := [.int x1, .int x114, .int x115]) cf_X4_25 dX4_isStopped_84 ⟨rfl, rfl⟩ rfl rfl ⟨Nat.le_of_ble_eq_true rfl, Nat.le_of_ble_eq_true rfl⟩ ⟨Nat.le_of_ble_eq_true rfl, Nat.le_of_ble_eq_true rfl⟩ (Nat.le_of_ble_eq_true rfl) (fun X' hX => KX4_stops hX)) rfl rfl rfl rfl ⟨Nat.le_of_ble_eq_true rfl, Nat.le_of_ble_eq_true rfl⟩ rfl hF (fun h116 hF => ?_)
      refine jj_iconst (v := (1 : Int32)) (pc' := 88) dX4_isStopped_87 rfl rfl ?_
      exact jj_retI (ty := .boolean) rfl rfl dX4_isStopped_88 ⟨Nat.le_of_ble_eq_true rfl, Nat.le_of_ble_eq_true rfl⟩ hF
  · skip
    refine jj_aload_n (j := 4) (i := 0) (pc' := 53) dX4_isStopped_52 rfl rfl rfl ?_
    refine jj_iload_n (j := 5) (i := 1) (pc' := 54) dX4_isStopped_53 rfl rfl rfl ?_
    refine jj_iconst (v := (5 : Int32)) (pc' := 55) dX4_isStopped_54 rfl rfl ?_
    refine jj_iconst (v := (-1 : Int32)) (pc' := 56) dX4_isStopped_55 rfl rfl ?_
    refine jj_cV (N := M_X4_stops) (kc' := 0) (ks' := 0) (pc' := 59) (jg_V (N := M_X4_stops) (ci := 4) (rest := []) (as := [.int x1, .int ((5 : Int32)), .int ((-1 : Int32))]) cf_X4_25 dX4_isStopped_56 ⟨rfl, rfl⟩ rfl rfl ⟨Nat.le_of_ble_eq_true rfl, Nat.le_of_ble_eq_true rfl⟩ ⟨Nat.le_of_ble_eq_true rfl, Nat.le_of_ble_eq_true rfl⟩ (Nat.le_of_ble_eq_true rfl) (fun X' hX => KX4_stops hX)) rfl rfl rfl rfl ⟨Nat.le_of_ble_eq_true rfl, Nat.le_of_ble_eq_true rfl⟩ rfl hF (fun h117 hF => ?_)
    refine jj_iconst (v := (1 : Int32)) (pc' := 60) dX4_isStopped_59 rfl rfl ?_
    exact jj_retI (ty := .boolean) rfl rfl dX4_isStopped_60 ⟨Nat.le_of_ble_eq_true rfl, Nat.le_of_ble_eq_true rfl⟩ hF
theorem KX4_isStopped {N : Nat} {a0 : Nat} {x1 : Int32} {h : jm_H} {X : jm_X} (hF : FX4_isStopped N a0 x1 h = some X) : jm_K M_X4_isStopped [.ref a0, .int x1] h X := jk_of rfl (by decide +kernel) rfl rfl (Nat.le_of_ble_eq_true rfl) (JX4_isStopped hF)
set_option maxRecDepth 100000 in
set_option maxHeartbeats 4000000 in
theorem BX4_program_36 (N : Nat) : ∀ (n : Nat) (a0 : Nat) (x1 : Int32) (h : jm_H) (X : jm_X), FX4_program_36 N n a0 x1 h = some X → jm_J M_X4_program 36 [(0, .ref a0), (1, .int x1)] [] h 0 0 X := by
  intro n
  induction n with
  | zero =>
    intro a0 x1 h X hF
    exact nomatch (show (none : Option jm_X) = some X from hF)
  | succ n ih =>
    intro a0 x1 h X hF
    rw [FX4_program_36] at hF
    refine jj_iload_n (j := 1) (i := 1) (pc' := 37) dX4_program_36 rfl rfl rfl ?_
    refine jj_aload_n (j := 0) (i := 0) (pc' := 38) dX4_program_37 rfl rfl rfl ?_
    refine jj_gI (C := RX4) (T := TX4) (N := 15) (ci := 4) (k := 13) (pc' := 41) dX4_program_38 rfl rfl inX4 (by decide) qw_86 hF (fun x101 hF => ?_)
    refine jj_icmp_ge (tgt := 58) (pc' := 44) dX4_program_41 rfl rfl (fun hc hF => ?_) (fun hc hF => ?_) hF
    · skip
      refine jj_iload_n (j := 1) (i := 1) (pc' := 59) dX4_program_58 rfl rfl rfl ?_
      exact jj_retI (ty := .int) rfl rfl dX4_program_59 ⟨Nat.le_of_ble_eq_true rfl, Nat.le_of_ble_eq_true rfl⟩ hF
    · skip
      refine jj_aload_n (j := 0) (i := 0) (pc' := 45) dX4_program_44 rfl rfl rfl ?_
      refine jj_iload_n (j := 1) (i := 1) (pc' := 46) dX4_program_45 rfl rfl rfl ?_
      refine jj_cI (N := M_X4_isStopped) (kc' := 0) (ks' := 0) (pc' := 49) (jg_V (N := M_X4_isStopped) (ci := 4) (rest := []) (as := [.int x1]) cf_X4_162 dX4_program_46 ⟨rfl, rfl⟩ rfl rfl ⟨Nat.le_of_ble_eq_true rfl, Nat.le_of_ble_eq_true rfl⟩ ⟨Nat.le_of_ble_eq_true rfl, Nat.le_of_ble_eq_true rfl⟩ (Nat.le_of_ble_eq_true rfl) (fun X' hX => KX4_isStopped hX)) rfl rfl rfl rfl ⟨Nat.le_of_ble_eq_true rfl, Nat.le_of_ble_eq_true rfl⟩ rfl hF (fun x103 h102 hF => ?_)
      refine jj_if_ne (tgt := 58) (pc' := 52) dX4_program_49 rfl rfl (fun hc hF => ?_) (fun hc hF => ?_) hF
      · skip
        refine jj_iload_n (j := 1) (i := 1) (pc' := 59) dX4_program_58 rfl rfl rfl ?_
        exact jj_retI (ty := .int) rfl rfl dX4_program_59 ⟨Nat.le_of_ble_eq_true rfl, Nat.le_of_ble_eq_true rfl⟩ hF
      · skip
        refine jj_iinc (i := 1) (j := 1) (v := x1 + (1 : Int32)) (ls' := [(1, .int (x1 + (1 : Int32))), (0, .ref a0)]) (pc' := 55) dX4_program_52 rfl rfl (Nat.le_of_ble_eq_true rfl) rfl rfl ?_
        refine jj_goto (tgt := 36) dX4_program_55 rfl ?_
        exact jj_pick [1, 0] rfl (ih a0 (x1 + (1 : Int32)) h102 _ hF)
set_option maxRecDepth 100000 in
set_option maxHeartbeats 4000000 in
theorem JX4_program {N : Nat} {a0 : Nat} {h : jm_H} {X : jm_X} (hF : FX4_program N a0 h = some X) : jm_J M_X4_program 0 [(0, .ref a0)] [] h 0 0 X := by
  unfold FX4_program at hF
  refine jj_aload_n (j := 0) (i := 0) (pc' := 1) dX4_program_0 rfl rfl rfl ?_
  refine jj_iconst (v := (0 : Int32)) (pc' := 2) dX4_program_1 rfl rfl ?_
  refine jj_p (C := RX4) (T := TX4) (N := 15) (ci := 4) (k := 7) (ty := tyX4) (pc' := 5) dX4_program_2 rfl rfl inX4 tyX4_ok nmX4 (by decide) qw_79 rfl (fun _ => ⟨rfl, rfl⟩) hF (fun h101 hF => ?_)
  refine jj_aload_n (j := 0) (i := 0) (pc' := 6) dX4_program_5 rfl rfl rfl ?_
  refine jj_cI (N := M_X4_isWhole) (kc' := 0) (ks' := 0) (pc' := 9) (jg_V (N := M_X4_isWhole) (ci := 4) (rest := []) (as := []) cf_X4_159 dX4_program_6 ⟨rfl, rfl⟩ rfl rfl ⟨Nat.le_of_ble_eq_true rfl, Nat.le_of_ble_eq_true rfl⟩ ⟨Nat.le_of_ble_eq_true rfl, Nat.le_of_ble_eq_true rfl⟩ (Nat.le_of_ble_eq_true rfl) (fun X' hX => KX4_isWhole hX)) rfl rfl rfl rfl ⟨Nat.le_of_ble_eq_true rfl, Nat.le_of_ble_eq_true rfl⟩ rfl hF (fun x103 h102 hF => ?_)
  refine jj_if_ne (tgt := 18) (pc' := 12) dX4_program_9 rfl rfl (fun hc hF => ?_) (fun hc hF => ?_) hF
  · skip
    refine jj_aload_n (j := 0) (i := 0) (pc' := 19) dX4_program_18 rfl rfl rfl ?_
    refine jj_cV (N := M_X4_saves) (kc' := 0) (ks' := 0) (pc' := 22) (jg_V (N := M_X4_saves) (ci := 4) (rest := []) (as := []) cf_X4_95 dX4_program_19 ⟨rfl, rfl⟩ rfl rfl ⟨Nat.le_of_ble_eq_true rfl, Nat.le_of_ble_eq_true rfl⟩ ⟨Nat.le_of_ble_eq_true rfl, Nat.le_of_ble_eq_true rfl⟩ (Nat.le_of_ble_eq_true rfl) (fun X' hX => KX4_saves hX)) rfl rfl rfl rfl ⟨Nat.le_of_ble_eq_true rfl, Nat.le_of_ble_eq_true rfl⟩ rfl hF (fun h104 hF => ?_)
    refine jj_aload_n (j := 0) (i := 0) (pc' := 23) dX4_program_22 rfl rfl rfl ?_
    refine jj_iconst (v := (-1 : Int32)) (pc' := 24) dX4_program_23 rfl rfl ?_
    refine jj_iconst (v := (-1 : Int32)) (pc' := 25) dX4_program_24 rfl rfl ?_
    refine jj_iconst (v := (-1 : Int32)) (pc' := 26) dX4_program_25 rfl rfl ?_
    refine jj_cV (N := M_X4_stops) (kc' := 0) (ks' := 0) (pc' := 29) (jg_V (N := M_X4_stops) (ci := 4) (rest := []) (as := [.int ((-1 : Int32)), .int ((-1 : Int32)), .int ((-1 : Int32))]) cf_X4_25 dX4_program_26 ⟨rfl, rfl⟩ rfl rfl ⟨Nat.le_of_ble_eq_true rfl, Nat.le_of_ble_eq_true rfl⟩ ⟨Nat.le_of_ble_eq_true rfl, Nat.le_of_ble_eq_true rfl⟩ (Nat.le_of_ble_eq_true rfl) (fun X' hX => KX4_stops hX)) rfl rfl rfl rfl ⟨Nat.le_of_ble_eq_true rfl, Nat.le_of_ble_eq_true rfl⟩ rfl hF (fun h105 hF => ?_)
    refine jj_aload_n (j := 0) (i := 0) (pc' := 30) dX4_program_29 rfl rfl rfl ?_
    refine jj_iconst (v := (0 : Int32)) (pc' := 31) dX4_program_30 rfl rfl ?_
    refine jj_p (C := RX4) (T := TX4) (N := 15) (ci := 4) (k := 6) (ty := tyX4) (pc' := 34) dX4_program_31 rfl rfl inX4 tyX4_ok nmX4 (by decide) qw_84 rfl (fun _ => ⟨rfl, rfl⟩) hF (fun h106 hF => ?_)
    refine jj_iconst (v := (0 : Int32)) (pc' := 35) dX4_program_34 rfl rfl ?_
    refine jj_istore_n (i := 1) (ls' := [(1, .int ((0 : Int32))), (0, .ref a0)]) (pc' := 36) dX4_program_35 rfl (Nat.le_of_ble_eq_true rfl) rfl rfl ?_
    exact jj_pick [1, 0] rfl (BX4_program_36 N N a0 ((0 : Int32)) h106 _ hF)
  · skip
    refine jj_aload_n (j := 0) (i := 0) (pc' := 13) dX4_program_12 rfl rfl rfl ?_
    refine jj_iconst (v := (1 : Int32)) (pc' := 14) dX4_program_13 rfl rfl ?_
    refine jj_cI (N := M_X4_refuses) (kc' := 0) (ks' := 0) (pc' := 17) (jg_V (N := M_X4_refuses) (ci := 4) (rest := []) (as := [.int ((1 : Int32))]) cf_X4_92 dX4_program_14 ⟨rfl, rfl⟩ rfl rfl ⟨Nat.le_of_ble_eq_true rfl, Nat.le_of_ble_eq_true rfl⟩ ⟨Nat.le_of_ble_eq_true rfl, Nat.le_of_ble_eq_true rfl⟩ (Nat.le_of_ble_eq_true rfl) (fun X' hX => KX4_refuses hX)) rfl rfl rfl rfl ⟨Nat.le_of_ble_eq_true rfl, Nat.le_of_ble_eq_true rfl⟩ rfl hF (fun x108 h107 hF => ?_)
    exact jj_retI (ty := .int) rfl rfl dX4_program_17 ⟨Nat.le_of_ble_eq_true rfl, Nat.le_of_ble_eq_true rfl⟩ hF
theorem KX4_program {N : Nat} {a0 : Nat} {h : jm_H} {X : jm_X} (hF : FX4_program N a0 h = some X) : jm_K M_X4_program [.ref a0] h X := jk_of rfl (by decide +kernel) rfl rfl (Nat.le_of_ble_eq_true rfl) (JX4_program hF)
set_option maxRecDepth 100000 in
set_option maxHeartbeats 4000000 in
theorem JX4_stopped {a0 : Nat} {x1 : Int32} {h : jm_H} {X : jm_X} (hF : FX4_stopped a0 x1 h = some X) : jm_J M_X4_stopped 0 [(0, .ref a0), (1, .int x1)] [] h 0 0 X := by
  unfold FX4_stopped at hF
  refine jj_aload_n (j := 0) (i := 0) (pc' := 1) dX4_stopped_0 rfl rfl rfl ?_
  refine jj_iconst (v := (0 : Int32)) (pc' := 2) dX4_stopped_1 rfl rfl ?_
  refine jj_p (C := RX4) (T := TX4) (N := 15) (ci := 4) (k := 7) (ty := tyX4) (pc' := 5) dX4_stopped_2 rfl rfl inX4 tyX4_ok nmX4 (by decide) qw_79 rfl (fun _ => ⟨rfl, rfl⟩) hF (fun h101 hF => ?_)
  refine jj_iload_n (j := 1) (i := 1) (pc' := 6) dX4_stopped_5 rfl rfl rfl ?_
  refine jj_iconst (v := (0 : Int32)) (pc' := 7) dX4_stopped_6 rfl rfl ?_
  refine jj_iconst (v := (2 : Int32)) (pc' := 8) dX4_stopped_7 rfl rfl ?_
  refine jj_cI (N := M_X4_in) (kc' := 0) (ks' := 0) (pc' := 11) (jg_S (N := M_X4_in) (rest := []) (as := [.int x1, .int ((0 : Int32)), .int ((2 : Int32))]) cf_X4_88 rfl dX4_stopped_8 rfl rfl ⟨Nat.le_of_ble_eq_true rfl, Nat.le_of_ble_eq_true rfl⟩ ⟨Nat.le_of_ble_eq_true rfl, Nat.le_of_ble_eq_true rfl⟩ (Nat.le_of_ble_eq_true rfl) (fun X' hX => KX4_in hX)) rfl rfl rfl rfl ⟨Nat.le_of_ble_eq_true rfl, Nat.le_of_ble_eq_true rfl⟩ rfl hF (fun x103 h102 hF => ?_)
  refine jj_if_eq (tgt := 27) (pc' := 14) dX4_stopped_11 rfl rfl (fun hc hF => ?_) (fun hc hF => ?_) hF
  · skip
    refine jj_aload_n (j := 0) (i := 0) (pc' := 28) dX4_stopped_27 rfl rfl rfl ?_
    refine jj_iconst (v := (1 : Int32)) (pc' := 29) dX4_stopped_28 rfl rfl ?_
    refine jj_cI (N := M_X4_refuses) (kc' := 0) (ks' := 0) (pc' := 32) (jg_V (N := M_X4_refuses) (ci := 4) (rest := []) (as := [.int ((1 : Int32))]) cf_X4_92 dX4_stopped_29 ⟨rfl, rfl⟩ rfl rfl ⟨Nat.le_of_ble_eq_true rfl, Nat.le_of_ble_eq_true rfl⟩ ⟨Nat.le_of_ble_eq_true rfl, Nat.le_of_ble_eq_true rfl⟩ (Nat.le_of_ble_eq_true rfl) (fun X' hX => KX4_refuses hX)) rfl rfl rfl rfl ⟨Nat.le_of_ble_eq_true rfl, Nat.le_of_ble_eq_true rfl⟩ rfl hF (fun x105 h104 hF => ?_)
    exact jj_retI (ty := .int) rfl rfl dX4_stopped_32 ⟨Nat.le_of_ble_eq_true rfl, Nat.le_of_ble_eq_true rfl⟩ hF
  · skip
    refine jj_aload_n (j := 0) (i := 0) (pc' := 15) dX4_stopped_14 rfl rfl rfl ?_
    refine jj_gR (C := RX4) (T := TX4) (N := 15) (ci := 4) (k := 0) (pc' := 18) dX4_stopped_15 rfl rfl inX4 (by decide) qw_73 hF (fun r106 hF => ?_)
    refine jj_sipush (v := (129 : Int32)) (pc' := 21) dX4_stopped_18 rfl rfl ?_
    refine jj_iload_n (j := 1) (i := 1) (pc' := 22) dX4_stopped_21 rfl rfl rfl ?_
    refine jj_iadd (pc' := 23) dX4_stopped_22 rfl ?_
    refine jj_ldI (pc' := 24) dX4_stopped_23 rfl hF (fun x107 hF => ?_)
    refine jj_goto (tgt := 32) dX4_stopped_24 rfl ?_
    exact jj_retI (ty := .int) rfl rfl dX4_stopped_32 ⟨Nat.le_of_ble_eq_true rfl, Nat.le_of_ble_eq_true rfl⟩ hF
theorem KX4_stopped {a0 : Nat} {x1 : Int32} {h : jm_H} {X : jm_X} (hF : FX4_stopped a0 x1 h = some X) : jm_K M_X4_stopped [.ref a0, .int x1] h X := jk_of rfl (by decide +kernel) rfl rfl (Nat.le_of_ble_eq_true rfl) (JX4_stopped hF)
set_option maxRecDepth 100000 in
set_option maxHeartbeats 4000000 in
theorem JX4_undo {N : Nat} {a0 : Nat} {h : jm_H} {X : jm_X} (hF : FX4_undo N a0 h = some X) : jm_J M_X4_undo 0 [(0, .ref a0)] [] h 0 0 X := by
  unfold FX4_undo at hF
  refine jj_aload_n (j := 0) (i := 0) (pc' := 1) dX4_undo_0 rfl rfl rfl ?_
  refine jj_iconst (v := (0 : Int32)) (pc' := 2) dX4_undo_1 rfl rfl ?_
  refine jj_p (C := RX4) (T := TX4) (N := 15) (ci := 4) (k := 7) (ty := tyX4) (pc' := 5) dX4_undo_2 rfl rfl inX4 tyX4_ok nmX4 (by decide) qw_79 rfl (fun _ => ⟨rfl, rfl⟩) hF (fun h101 hF => ?_)
  refine jj_aload_n (j := 0) (i := 0) (pc' := 6) dX4_undo_5 rfl rfl rfl ?_
  refine jj_gI (C := RX4) (T := TX4) (N := 15) (ci := 4) (k := 2) (pc' := 9) dX4_undo_6 rfl rfl inX4 (by decide) qw_80 hF (fun x102 hF => ?_)
  refine jj_if_ne (tgt := 18) (pc' := 12) dX4_undo_9 rfl rfl (fun hc hF => ?_) (fun hc hF => ?_) hF
  · skip
    refine jj_aload_n (j := 0) (i := 0) (pc' := 19) dX4_undo_18 rfl rfl rfl ?_
    refine jj_dup (pc' := 20) dX4_undo_19 rfl rfl ?_
    refine jj_gI (C := RX4) (T := TX4) (N := 15) (ci := 4) (k := 2) (pc' := 23) dX4_undo_20 rfl rfl inX4 (by decide) qw_80 hF (fun x103 hF => ?_)
    refine jj_iconst (v := (1 : Int32)) (pc' := 24) dX4_undo_23 rfl rfl ?_
    refine jj_isub (pc' := 25) dX4_undo_24 rfl ?_
    refine jj_p (C := RX4) (T := TX4) (N := 15) (ci := 4) (k := 2) (ty := tyX4) (pc' := 28) dX4_undo_25 rfl rfl inX4 tyX4_ok nmX4 (by decide) qw_80 rfl (fun _ => ⟨rfl, rfl⟩) hF (fun h104 hF => ?_)
    refine jj_aload_n (j := 0) (i := 0) (pc' := 29) dX4_undo_28 rfl rfl rfl ?_
    refine jj_gR (C := RX4) (T := TX4) (N := 15) (ci := 4) (k := 1) (pc' := 32) dX4_undo_29 rfl rfl inX4 (by decide) qw_75 hF (fun r105 hF => ?_)
    refine jj_sipush (v := (132 : Int32)) (pc' := 35) dX4_undo_32 rfl rfl ?_
    refine jj_aload_n (j := 0) (i := 0) (pc' := 36) dX4_undo_35 rfl rfl rfl ?_
    refine jj_gI (C := RX4) (T := TX4) (N := 15) (ci := 4) (k := 2) (pc' := 39) dX4_undo_36 rfl rfl inX4 (by decide) qw_80 hF (fun x106 hF => ?_)
    refine jj_imul (pc' := 40) dX4_undo_39 rfl ?_
    refine jj_aload_n (j := 0) (i := 0) (pc' := 41) dX4_undo_40 rfl rfl rfl ?_
    refine jj_gR (C := RX4) (T := TX4) (N := 15) (ci := 4) (k := 0) (pc' := 44) dX4_undo_41 rfl rfl inX4 (by decide) qw_73 hF (fun r107 hF => ?_)
    refine jj_iconst (v := (0 : Int32)) (pc' := 45) dX4_undo_44 rfl rfl ?_
    refine jj_cV (N := M_X4_lays) (kc' := 0) (ks' := 0) (pc' := 48) (jg_S (N := M_X4_lays) (rest := []) (as := [.ref r105, .int (((132 : Int32)) * x106), .ref r107, .int ((0 : Int32))]) cf_X4_36 rfl dX4_undo_45 rfl rfl ⟨Nat.le_of_ble_eq_true rfl, Nat.le_of_ble_eq_true rfl⟩ ⟨Nat.le_of_ble_eq_true rfl, Nat.le_of_ble_eq_true rfl⟩ (Nat.le_of_ble_eq_true rfl) (fun X' hX => KX4_lays hX)) rfl rfl rfl rfl ⟨Nat.le_of_ble_eq_true rfl, Nat.le_of_ble_eq_true rfl⟩ rfl hF (fun h108 hF => ?_)
    refine jj_aload_n (j := 0) (i := 0) (pc' := 49) dX4_undo_48 rfl rfl rfl ?_
    refine jj_gI (C := RX4) (T := TX4) (N := 15) (ci := 4) (k := 2) (pc' := 52) dX4_undo_49 rfl rfl inX4 (by decide) qw_80 hF (fun x109 hF => ?_)
    exact jj_retI (ty := .int) rfl rfl dX4_undo_52 ⟨Nat.le_of_ble_eq_true rfl, Nat.le_of_ble_eq_true rfl⟩ hF
  · skip
    refine jj_aload_n (j := 0) (i := 0) (pc' := 13) dX4_undo_12 rfl rfl rfl ?_
    refine jj_iconst (v := (1 : Int32)) (pc' := 14) dX4_undo_13 rfl rfl ?_
    refine jj_cI (N := M_X4_refuses) (kc' := 0) (ks' := 0) (pc' := 17) (jg_V (N := M_X4_refuses) (ci := 4) (rest := []) (as := [.int ((1 : Int32))]) cf_X4_92 dX4_undo_14 ⟨rfl, rfl⟩ rfl rfl ⟨Nat.le_of_ble_eq_true rfl, Nat.le_of_ble_eq_true rfl⟩ ⟨Nat.le_of_ble_eq_true rfl, Nat.le_of_ble_eq_true rfl⟩ (Nat.le_of_ble_eq_true rfl) (fun X' hX => KX4_refuses hX)) rfl rfl rfl rfl ⟨Nat.le_of_ble_eq_true rfl, Nat.le_of_ble_eq_true rfl⟩ rfl hF (fun x111 h110 hF => ?_)
    exact jj_retI (ty := .int) rfl rfl dX4_undo_17 ⟨Nat.le_of_ble_eq_true rfl, Nat.le_of_ble_eq_true rfl⟩ hF
theorem KX4_undo {N : Nat} {a0 : Nat} {h : jm_H} {X : jm_X} (hF : FX4_undo N a0 h = some X) : jm_K M_X4_undo [.ref a0] h X := jk_of rfl (by decide +kernel) rfl rfl (Nat.le_of_ble_eq_true rfl) (JX4_undo hF)
set_option maxRecDepth 100000 in
set_option maxHeartbeats 4000000 in
theorem JX4_keep {N : Nat} {a0 : Nat} {h : jm_H} {X : jm_X} (hF : FX4_keep N a0 h = some X) : jm_J M_X4_keep 0 [(0, .ref a0)] [] h 0 0 X := by
  unfold FX4_keep at hF
  refine jj_aload_n (j := 0) (i := 0) (pc' := 1) dX4_keep_0 rfl rfl rfl ?_
  refine jj_iconst (v := (0 : Int32)) (pc' := 2) dX4_keep_1 rfl rfl ?_
  refine jj_p (C := RX4) (T := TX4) (N := 15) (ci := 4) (k := 7) (ty := tyX4) (pc' := 5) dX4_keep_2 rfl rfl inX4 tyX4_ok nmX4 (by decide) qw_79 rfl (fun _ => ⟨rfl, rfl⟩) hF (fun h101 hF => ?_)
  refine jj_aload_n (j := 0) (i := 0) (pc' := 6) dX4_keep_5 rfl rfl rfl ?_
  refine jj_gR (C := RX4) (T := TX4) (N := 15) (ci := 4) (k := 0) (pc' := 9) dX4_keep_6 rfl rfl inX4 (by decide) qw_73 hF (fun r102 hF => ?_)
  refine jj_iconst (v := (0 : Int32)) (pc' := 10) dX4_keep_9 rfl rfl ?_
  refine jj_aload_n (j := 0) (i := 0) (pc' := 11) dX4_keep_10 rfl rfl rfl ?_
  refine jj_gR (C := RX4) (T := TX4) (N := 15) (ci := 4) (k := 3) (pc' := 14) dX4_keep_11 rfl rfl inX4 (by decide) qw_76 hF (fun r103 hF => ?_)
  refine jj_iconst (v := (0 : Int32)) (pc' := 15) dX4_keep_14 rfl rfl ?_
  refine jj_cV (N := M_X4_lays) (kc' := 0) (ks' := 0) (pc' := 18) (jg_S (N := M_X4_lays) (rest := []) (as := [.ref r102, .int ((0 : Int32)), .ref r103, .int ((0 : Int32))]) cf_X4_36 rfl dX4_keep_15 rfl rfl ⟨Nat.le_of_ble_eq_true rfl, Nat.le_of_ble_eq_true rfl⟩ ⟨Nat.le_of_ble_eq_true rfl, Nat.le_of_ble_eq_true rfl⟩ (Nat.le_of_ble_eq_true rfl) (fun X' hX => KX4_lays hX)) rfl rfl rfl rfl ⟨Nat.le_of_ble_eq_true rfl, Nat.le_of_ble_eq_true rfl⟩ rfl hF (fun h104 hF => ?_)
  refine jj_aload_n (j := 0) (i := 0) (pc' := 19) dX4_keep_18 rfl rfl rfl ?_
  refine jj_iconst (v := (1 : Int32)) (pc' := 20) dX4_keep_19 rfl rfl ?_
  refine jj_p (C := RX4) (T := TX4) (N := 15) (ci := 4) (k := 4) (ty := tyX4) (pc' := 23) dX4_keep_20 rfl rfl inX4 tyX4_ok nmX4 (by decide) qw_87 rfl (fun _ => ⟨rfl, rfl⟩) hF (fun h105 hF => ?_)
  refine jj_aload_n (j := 0) (i := 0) (pc' := 24) dX4_keep_23 rfl rfl rfl ?_
  refine jj_gR (C := RX4) (T := TX4) (N := 15) (ci := 4) (k := 0) (pc' := 27) dX4_keep_24 rfl rfl inX4 (by decide) qw_73 hF (fun r106 hF => ?_)
  refine jj_iconst (v := (1 : Int32)) (pc' := 28) dX4_keep_27 rfl rfl ?_
  refine jj_ldI (pc' := 29) dX4_keep_28 rfl hF (fun x107 hF => ?_)
  exact jj_retI (ty := .int) rfl rfl dX4_keep_29 ⟨Nat.le_of_ble_eq_true rfl, Nat.le_of_ble_eq_true rfl⟩ hF
theorem KX4_keep {N : Nat} {a0 : Nat} {h : jm_H} {X : jm_X} (hF : FX4_keep N a0 h = some X) : jm_K M_X4_keep [.ref a0] h X := jk_of rfl (by decide +kernel) rfl rfl (Nat.le_of_ble_eq_true rfl) (JX4_keep hF)
set_option maxRecDepth 100000 in
set_option maxHeartbeats 4000000 in
theorem JX4_restore {N : Nat} {a0 : Nat} {h : jm_H} {X : jm_X} (hF : FX4_restore N a0 h = some X) : jm_J M_X4_restore 0 [(0, .ref a0)] [] h 0 0 X := by
  unfold FX4_restore at hF
  refine jj_aload_n (j := 0) (i := 0) (pc' := 1) dX4_restore_0 rfl rfl rfl ?_
  refine jj_iconst (v := (0 : Int32)) (pc' := 2) dX4_restore_1 rfl rfl ?_
  refine jj_p (C := RX4) (T := TX4) (N := 15) (ci := 4) (k := 7) (ty := tyX4) (pc' := 5) dX4_restore_2 rfl rfl inX4 tyX4_ok nmX4 (by decide) qw_79 rfl (fun _ => ⟨rfl, rfl⟩) hF (fun h101 hF => ?_)
  refine jj_aload_n (j := 0) (i := 0) (pc' := 6) dX4_restore_5 rfl rfl rfl ?_
  refine jj_gI (C := RX4) (T := TX4) (N := 15) (ci := 4) (k := 4) (pc' := 9) dX4_restore_6 rfl rfl inX4 (by decide) qw_87 hF (fun x102 hF => ?_)
  refine jj_if_ne (tgt := 18) (pc' := 12) dX4_restore_9 rfl rfl (fun hc hF => ?_) (fun hc hF => ?_) hF
  · skip
    refine jj_aload_n (j := 0) (i := 0) (pc' := 19) dX4_restore_18 rfl rfl rfl ?_
    refine jj_cV (N := M_X4_saves) (kc' := 0) (ks' := 0) (pc' := 22) (jg_V (N := M_X4_saves) (ci := 4) (rest := []) (as := []) cf_X4_95 dX4_restore_19 ⟨rfl, rfl⟩ rfl rfl ⟨Nat.le_of_ble_eq_true rfl, Nat.le_of_ble_eq_true rfl⟩ ⟨Nat.le_of_ble_eq_true rfl, Nat.le_of_ble_eq_true rfl⟩ (Nat.le_of_ble_eq_true rfl) (fun X' hX => KX4_saves hX)) rfl rfl rfl rfl ⟨Nat.le_of_ble_eq_true rfl, Nat.le_of_ble_eq_true rfl⟩ rfl hF (fun h103 hF => ?_)
    refine jj_aload_n (j := 0) (i := 0) (pc' := 23) dX4_restore_22 rfl rfl rfl ?_
    refine jj_gR (C := RX4) (T := TX4) (N := 15) (ci := 4) (k := 3) (pc' := 26) dX4_restore_23 rfl rfl inX4 (by decide) qw_76 hF (fun r104 hF => ?_)
    refine jj_iconst (v := (0 : Int32)) (pc' := 27) dX4_restore_26 rfl rfl ?_
    refine jj_aload_n (j := 0) (i := 0) (pc' := 28) dX4_restore_27 rfl rfl rfl ?_
    refine jj_gR (C := RX4) (T := TX4) (N := 15) (ci := 4) (k := 0) (pc' := 31) dX4_restore_28 rfl rfl inX4 (by decide) qw_73 hF (fun r105 hF => ?_)
    refine jj_iconst (v := (0 : Int32)) (pc' := 32) dX4_restore_31 rfl rfl ?_
    refine jj_cV (N := M_X4_lays) (kc' := 0) (ks' := 0) (pc' := 35) (jg_S (N := M_X4_lays) (rest := []) (as := [.ref r104, .int ((0 : Int32)), .ref r105, .int ((0 : Int32))]) cf_X4_36 rfl dX4_restore_32 rfl rfl ⟨Nat.le_of_ble_eq_true rfl, Nat.le_of_ble_eq_true rfl⟩ ⟨Nat.le_of_ble_eq_true rfl, Nat.le_of_ble_eq_true rfl⟩ (Nat.le_of_ble_eq_true rfl) (fun X' hX => KX4_lays hX)) rfl rfl rfl rfl ⟨Nat.le_of_ble_eq_true rfl, Nat.le_of_ble_eq_true rfl⟩ rfl hF (fun h106 hF => ?_)
    refine jj_aload_n (j := 0) (i := 0) (pc' := 36) dX4_restore_35 rfl rfl rfl ?_
    refine jj_gR (C := RX4) (T := TX4) (N := 15) (ci := 4) (k := 0) (pc' := 39) dX4_restore_36 rfl rfl inX4 (by decide) qw_73 hF (fun r107 hF => ?_)
    refine jj_iconst (v := (1 : Int32)) (pc' := 40) dX4_restore_39 rfl rfl ?_
    refine jj_ldI (pc' := 41) dX4_restore_40 rfl hF (fun x108 hF => ?_)
    exact jj_retI (ty := .int) rfl rfl dX4_restore_41 ⟨Nat.le_of_ble_eq_true rfl, Nat.le_of_ble_eq_true rfl⟩ hF
  · skip
    refine jj_aload_n (j := 0) (i := 0) (pc' := 13) dX4_restore_12 rfl rfl rfl ?_
    refine jj_iconst (v := (1 : Int32)) (pc' := 14) dX4_restore_13 rfl rfl ?_
    refine jj_cI (N := M_X4_refuses) (kc' := 0) (ks' := 0) (pc' := 17) (jg_V (N := M_X4_refuses) (ci := 4) (rest := []) (as := [.int ((1 : Int32))]) cf_X4_92 dX4_restore_14 ⟨rfl, rfl⟩ rfl rfl ⟨Nat.le_of_ble_eq_true rfl, Nat.le_of_ble_eq_true rfl⟩ ⟨Nat.le_of_ble_eq_true rfl, Nat.le_of_ble_eq_true rfl⟩ (Nat.le_of_ble_eq_true rfl) (fun X' hX => KX4_refuses hX)) rfl rfl rfl rfl ⟨Nat.le_of_ble_eq_true rfl, Nat.le_of_ble_eq_true rfl⟩ rfl hF (fun x110 h109 hF => ?_)
    exact jj_retI (ty := .int) rfl rfl dX4_restore_17 ⟨Nat.le_of_ble_eq_true rfl, Nat.le_of_ble_eq_true rfl⟩ hF
theorem KX4_restore {N : Nat} {a0 : Nat} {h : jm_H} {X : jm_X} (hF : FX4_restore N a0 h = some X) : jm_K M_X4_restore [.ref a0] h X := jk_of rfl (by decide +kernel) rfl rfl (Nat.le_of_ble_eq_true rfl) (JX4_restore hF)
set_option maxRecDepth 100000 in
set_option maxHeartbeats 4000000 in
theorem BX4_showings_4 (N : Nat) : ∀ (n : Nat) (a0 : Nat) (x1 : Int32) (x2 : Int32) (x3 : Int32) (h : jm_H) (X : jm_X), FX4_showings_4 N n a0 x1 x2 x3 h = some X → jm_J M_X4_showings 4 [(0, .ref a0), (1, .int x1), (2, .int x2), (3, .int x3)] [] h 0 0 X := by
  intro n
  induction n with
  | zero =>
    intro a0 x1 x2 x3 h X hF
    exact nomatch (show (none : Option jm_X) = some X from hF)
  | succ n ih =>
    intro a0 x1 x2 x3 h X hF
    rw [FX4_showings_4] at hF
    refine jj_iload_n (j := 3) (i := 3) (pc' := 5) dX4_showings_4 rfl rfl rfl ?_
    refine jj_aload_n (j := 0) (i := 0) (pc' := 6) dX4_showings_5 rfl rfl rfl ?_
    refine jj_gR (C := RX4) (T := TX4) (N := 15) (ci := 4) (k := 0) (pc' := 9) dX4_showings_6 rfl rfl inX4 (by decide) qw_73 hF (fun r101 hF => ?_)
    refine jj_iconst (v := (1 : Int32)) (pc' := 10) dX4_showings_9 rfl rfl ?_
    refine jj_ldI (pc' := 11) dX4_showings_10 rfl hF (fun x102 hF => ?_)
    refine jj_icmp_ge (tgt := 38) (pc' := 14) dX4_showings_11 rfl rfl (fun hc hF => ?_) (fun hc hF => ?_) hF
    · skip
      refine jj_iload_n (j := 2) (i := 2) (pc' := 39) dX4_showings_38 rfl rfl rfl ?_
      exact jj_retI (ty := .int) rfl rfl dX4_showings_39 ⟨Nat.le_of_ble_eq_true rfl, Nat.le_of_ble_eq_true rfl⟩ hF
    · skip
      refine jj_iload_n (j := 2) (i := 2) (pc' := 15) dX4_showings_14 rfl rfl rfl ?_
      refine jj_aload_n (j := 0) (i := 0) (pc' := 16) dX4_showings_15 rfl rfl rfl ?_
      refine jj_iload_n (j := 3) (i := 3) (pc' := 17) dX4_showings_16 rfl rfl rfl ?_
      refine jj_iconst (v := (0 : Int32)) (pc' := 18) dX4_showings_17 rfl rfl ?_
      refine jj_cI (N := M_X4_of) (kc' := 0) (ks' := 0) (pc' := 21) (jg_V (N := M_X4_of) (ci := 4) (rest := [.int x2]) (as := [.int x3, .int ((0 : Int32))]) cf_X4_47 dX4_showings_18 ⟨rfl, rfl⟩ rfl rfl ⟨Nat.le_of_ble_eq_true rfl, Nat.le_of_ble_eq_true rfl⟩ ⟨Nat.le_of_ble_eq_true rfl, Nat.le_of_ble_eq_true rfl⟩ (Nat.le_of_ble_eq_true rfl) (fun X' hX => KX4_of hX)) rfl rfl rfl rfl ⟨Nat.le_of_ble_eq_true rfl, Nat.le_of_ble_eq_true rfl⟩ rfl hF (fun x104 h103 hF => ?_)
      refine jj_iload_n (j := 1) (i := 1) (pc' := 22) dX4_showings_21 rfl rfl rfl ?_
      refine jj_icmp_ne (tgt := 29) (pc' := 25) dX4_showings_22 rfl rfl (fun hc hF => ?_) (fun hc hF => ?_) hF
      · skip
        refine jj_iconst (v := (0 : Int32)) (pc' := 30) dX4_showings_29 rfl rfl ?_
        refine jj_iadd (pc' := 31) dX4_showings_30 rfl ?_
        refine jj_istore_n (i := 2) (ls' := [(2, .int (x2 + ((0 : Int32)))), (0, .ref a0), (1, .int x1), (3, .int x3)]) (pc' := 32) dX4_showings_31 rfl (Nat.le_of_ble_eq_true rfl) rfl rfl ?_
        refine jj_iinc (i := 3) (j := 3) (v := x3 + (1 : Int32)) (ls' := [(3, .int (x3 + (1 : Int32))), (2, .int (x2 + ((0 : Int32)))), (0, .ref a0), (1, .int x1)]) (pc' := 35) dX4_showings_32 rfl rfl (Nat.le_of_ble_eq_true rfl) rfl rfl ?_
        refine jj_goto (tgt := 4) dX4_showings_35 rfl ?_
        exact jj_pick [2, 3, 1, 0] rfl (ih a0 x1 (x2 + ((0 : Int32))) (x3 + (1 : Int32)) h103 _ hF)
      · skip
        refine jj_iconst (v := (1 : Int32)) (pc' := 26) dX4_showings_25 rfl rfl ?_
        refine jj_goto (tgt := 30) dX4_showings_26 rfl ?_
        refine jj_iadd (pc' := 31) dX4_showings_30 rfl ?_
        refine jj_istore_n (i := 2) (ls' := [(2, .int (x2 + ((1 : Int32)))), (0, .ref a0), (1, .int x1), (3, .int x3)]) (pc' := 32) dX4_showings_31 rfl (Nat.le_of_ble_eq_true rfl) rfl rfl ?_
        refine jj_iinc (i := 3) (j := 3) (v := x3 + (1 : Int32)) (ls' := [(3, .int (x3 + (1 : Int32))), (2, .int (x2 + ((1 : Int32)))), (0, .ref a0), (1, .int x1)]) (pc' := 35) dX4_showings_32 rfl rfl (Nat.le_of_ble_eq_true rfl) rfl rfl ?_
        refine jj_goto (tgt := 4) dX4_showings_35 rfl ?_
        exact jj_pick [2, 3, 1, 0] rfl (ih a0 x1 (x2 + ((1 : Int32))) (x3 + (1 : Int32)) h103 _ hF)
set_option maxRecDepth 100000 in
set_option maxHeartbeats 4000000 in
theorem JX4_showings {N : Nat} {a0 : Nat} {x1 : Int32} {h : jm_H} {X : jm_X} (hF : FX4_showings N a0 x1 h = some X) : jm_J M_X4_showings 0 [(0, .ref a0), (1, .int x1)] [] h 0 0 X := by
  unfold FX4_showings at hF
  refine jj_iconst (v := (0 : Int32)) (pc' := 1) dX4_showings_0 rfl rfl ?_
  refine jj_istore_n (i := 2) (ls' := [(2, .int ((0 : Int32))), (0, .ref a0), (1, .int x1)]) (pc' := 2) dX4_showings_1 rfl (Nat.le_of_ble_eq_true rfl) rfl rfl ?_
  refine jj_iconst (v := (0 : Int32)) (pc' := 3) dX4_showings_2 rfl rfl ?_
  refine jj_istore_n (i := 3) (ls' := [(3, .int ((0 : Int32))), (2, .int ((0 : Int32))), (0, .ref a0), (1, .int x1)]) (pc' := 4) dX4_showings_3 rfl (Nat.le_of_ble_eq_true rfl) rfl rfl ?_
  exact jj_pick [2, 3, 1, 0] rfl (BX4_showings_4 N N a0 x1 ((0 : Int32)) ((0 : Int32)) h _ hF)
theorem KX4_showings {N : Nat} {a0 : Nat} {x1 : Int32} {h : jm_H} {X : jm_X} (hF : FX4_showings N a0 x1 h = some X) : jm_K M_X4_showings [.ref a0, .int x1] h X := jk_of rfl (by decide +kernel) rfl rfl (Nat.le_of_ble_eq_true rfl) (JX4_showings hF)

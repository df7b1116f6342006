set_option maxRecDepth 100000 in
set_option maxHeartbeats 4000000 in
theorem BX4_mixesScreen_26 (N : Nat) : ∀ (n : Nat) (a0 : Nat) (x1 : Int32) (x2 : Int32) (h : jm_H) (X : jm_X), FX4_mixesScreen_26 N n a0 x1 x2 h = some X → jm_J M_X4_mixesScreen 26 [(0, .ref a0), (1, .int x1), (2, .int x2)] [] h 0 0 X := by
  intro n
  induction n with
  | zero =>
    intro a0 x1 x2 h X hF
    exact nomatch (show (none : Option jm_X) = some X from hF)
  | succ n ih =>
    intro a0 x1 x2 h X hF
    rw [FX4_mixesScreen_26] at hF
    refine jj_iload_n (j := 2) (i := 2) (pc' := 27) dX4_mixesScreen_26 rfl rfl rfl ?_
    refine jj_sipush (v := (2000 : Int32)) (pc' := 30) dX4_mixesScreen_27 rfl rfl ?_
    refine jj_icmp_ge (tgt := 50) (pc' := 33) dX4_mixesScreen_30 rfl rfl (fun hc hF => ?_) (fun hc hF => ?_) hF
    · skip
      refine jj_aload_n (j := 0) (i := 0) (pc' := 51) dX4_mixesScreen_50 rfl rfl rfl ?_
      refine jj_aload_n (j := 0) (i := 0) (pc' := 52) dX4_mixesScreen_51 rfl rfl rfl ?_
      refine jj_iload_n (j := 1) (i := 1) (pc' := 53) dX4_mixesScreen_52 rfl rfl rfl ?_
      refine jj_cD (N := M_X4_share) (kc' := 0) (ks' := 0) (pc' := 56) (jg_V (N := M_X4_share) (ci := 4) (rest := [.ref a0]) (as := [.int x1]) cf_X4_247 dX4_mixesScreen_53 ⟨rfl, rfl⟩ rfl rfl ⟨Nat.le_of_ble_eq_true rfl, Nat.le_of_ble_eq_true rfl⟩ ⟨Nat.le_of_ble_eq_true rfl, Nat.le_of_ble_eq_true rfl⟩ (Nat.le_of_ble_eq_true rfl) (fun X' hX => KX4_share hX)) rfl rfl rfl rfl ⟨Nat.le_of_ble_eq_true rfl, Nat.le_of_ble_eq_true rfl⟩ rfl hF (fun d102 h101 hF => ?_)
      refine jj_cL (N := M_Jxe99ae_doubleToLongBits_ccdee) (kc' := 0) (ks' := 0) (pc' := 59) (jg_S (N := M_Jxe99ae_doubleToLongBits_ccdee) (rest := [.ref a0]) (as := [.double d102]) cf_X4_261 rfl dX4_mixesScreen_56 rfl rfl ⟨Nat.le_of_ble_eq_true rfl, Nat.le_of_ble_eq_true rfl⟩ ⟨Nat.le_of_ble_eq_true rfl, Nat.le_of_ble_eq_true rfl⟩ (Nat.le_of_ble_eq_true rfl) (fun X' hX => KJxe99ae_doubleToLongBits_ccdee hX)) rfl rfl rfl rfl ⟨Nat.le_of_ble_eq_true rfl, Nat.le_of_ble_eq_true rfl⟩ rfl hF (fun l104 h103 hF => ?_)
      refine jj_cV (N := M_X4_mixes) (kc' := 0) (ks' := 0) (pc' := 62) (jg_V (N := M_X4_mixes) (ci := 4) (rest := []) (as := [.long l104]) cf_X4_257 dX4_mixesScreen_59 ⟨rfl, rfl⟩ rfl rfl ⟨Nat.le_of_ble_eq_true rfl, Nat.le_of_ble_eq_true rfl⟩ ⟨Nat.le_of_ble_eq_true rfl, Nat.le_of_ble_eq_true rfl⟩ (Nat.le_of_ble_eq_true rfl) (fun X' hX => KX4_mixes hX)) rfl rfl rfl rfl ⟨Nat.le_of_ble_eq_true rfl, Nat.le_of_ble_eq_true rfl⟩ rfl hF (fun h105 hF => ?_)
      exact jj_retV rfl dX4_mixesScreen_62 ⟨Nat.le_of_ble_eq_true rfl, Nat.le_of_ble_eq_true rfl⟩ hF
    · skip
      refine jj_aload_n (j := 0) (i := 0) (pc' := 34) dX4_mixesScreen_33 rfl rfl rfl ?_
      refine jj_aload_n (j := 0) (i := 0) (pc' := 35) dX4_mixesScreen_34 rfl rfl rfl ?_
      refine jj_iload_n (j := 1) (i := 1) (pc' := 36) dX4_mixesScreen_35 rfl rfl rfl ?_
      refine jj_iload_n (j := 2) (i := 2) (pc' := 37) dX4_mixesScreen_36 rfl rfl rfl ?_
      refine jj_cI (N := M_X4_running) (kc' := 0) (ks' := 0) (pc' := 40) (jg_V (N := M_X4_running) (ci := 4) (rest := [.ref a0]) (as := [.int x1, .int x2]) cf_X4_190 dX4_mixesScreen_37 ⟨rfl, rfl⟩ rfl rfl ⟨Nat.le_of_ble_eq_true rfl, Nat.le_of_ble_eq_true rfl⟩ ⟨Nat.le_of_ble_eq_true rfl, Nat.le_of_ble_eq_true rfl⟩ (Nat.le_of_ble_eq_true rfl) (fun X' hX => KX4_running hX)) rfl rfl rfl rfl ⟨Nat.le_of_ble_eq_true rfl, Nat.le_of_ble_eq_true rfl⟩ rfl hF (fun x107 h106 hF => ?_)
      refine jj_i2l (pc' := 41) dX4_mixesScreen_40 rfl ?_
      refine jj_cV (N := M_X4_mixes) (kc' := 0) (ks' := 0) (pc' := 44) (jg_V (N := M_X4_mixes) (ci := 4) (rest := []) (as := [.long x107.toInt64]) cf_X4_257 dX4_mixesScreen_41 ⟨rfl, rfl⟩ rfl rfl ⟨Nat.le_of_ble_eq_true rfl, Nat.le_of_ble_eq_true rfl⟩ ⟨Nat.le_of_ble_eq_true rfl, Nat.le_of_ble_eq_true rfl⟩ (Nat.le_of_ble_eq_true rfl) (fun X' hX => KX4_mixes hX)) rfl rfl rfl rfl ⟨Nat.le_of_ble_eq_true rfl, Nat.le_of_ble_eq_true rfl⟩ rfl hF (fun h108 hF => ?_)
      refine jj_iinc (i := 2) (j := 2) (v := x2 + (100 : Int32)) (ls' := [(2, .int (x2 + (100 : Int32))), (0, .ref a0), (1, .int x1)]) (pc' := 47) dX4_mixesScreen_44 rfl rfl (Nat.le_of_ble_eq_true rfl) rfl rfl ?_
      refine jj_goto (tgt := 26) dX4_mixesScreen_47 rfl ?_
      exact jj_pick [1, 2, 0] rfl (ih a0 x1 (x2 + (100 : Int32)) h108 _ hF)
set_option maxRecDepth 100000 in
set_option maxHeartbeats 4000000 in
theorem BX4_mixesScreen_2 (N : Nat) : ∀ (n : Nat) (a0 : Nat) (x1 : Int32) (x2 : Int32) (h : jm_H) (X : jm_X), FX4_mixesScreen_2 N n a0 x1 x2 h = some X → jm_J M_X4_mixesScreen 2 [(0, .ref a0), (1, .int x1), (2, .int x2)] [] h 0 0 X := by
  intro n
  induction n with
  | zero =>
    intro a0 x1 x2 h X hF
    exact nomatch (show (none : Option jm_X) = some X from hF)
  | succ n ih =>
    intro a0 x1 x2 h X hF
    rw [FX4_mixesScreen_2] at hF
    refine jj_iload_n (j := 2) (i := 2) (pc' := 3) dX4_mixesScreen_2 rfl rfl rfl ?_
    refine jj_iconst (v := (5 : Int32)) (pc' := 4) dX4_mixesScreen_3 rfl rfl ?_
    refine jj_icmp_ge (tgt := 24) (pc' := 7) dX4_mixesScreen_4 rfl rfl (fun hc hF => ?_) (fun hc hF => ?_) hF
    · skip
      refine jj_iconst (v := (0 : Int32)) (pc' := 25) dX4_mixesScreen_24 rfl rfl ?_
      refine jj_istore_n (i := 2) (ls' := [(2, .int ((0 : Int32))), (0, .ref a0), (1, .int x1)]) (pc' := 26) dX4_mixesScreen_25 rfl (Nat.le_of_ble_eq_true rfl) rfl rfl ?_
      exact jj_pick [1, 2, 0] rfl (BX4_mixesScreen_26 N N a0 x1 ((0 : Int32)) h _ hF)
    · skip
      refine jj_aload_n (j := 0) (i := 0) (pc' := 8) dX4_mixesScreen_7 rfl rfl rfl ?_
      refine jj_aload_n (j := 0) (i := 0) (pc' := 9) dX4_mixesScreen_8 rfl rfl rfl ?_
      refine jj_iload_n (j := 1) (i := 1) (pc' := 10) dX4_mixesScreen_9 rfl rfl rfl ?_
      refine jj_iload_n (j := 2) (i := 2) (pc' := 11) dX4_mixesScreen_10 rfl rfl rfl ?_
      refine jj_cI (N := M_X4_aboutScreen) (kc' := 0) (ks' := 0) (pc' := 14) (jg_V (N := M_X4_aboutScreen) (ci := 4) (rest := [.ref a0]) (as := [.int x1, .int x2]) cf_X4_202 dX4_mixesScreen_11 ⟨rfl, rfl⟩ rfl rfl ⟨Nat.le_of_ble_eq_true rfl, Nat.le_of_ble_eq_true rfl⟩ ⟨Nat.le_of_ble_eq_true rfl, Nat.le_of_ble_eq_true rfl⟩ (Nat.le_of_ble_eq_true rfl) (fun X' hX => KX4_aboutScreen hX)) rfl rfl rfl rfl ⟨Nat.le_of_ble_eq_true rfl, Nat.le_of_ble_eq_true rfl⟩ rfl hF (fun x102 h101 hF => ?_)
      refine jj_i2l (pc' := 15) dX4_mixesScreen_14 rfl ?_
      refine jj_cV (N := M_X4_mixes) (kc' := 0) (ks' := 0) (pc' := 18) (jg_V (N := M_X4_mixes) (ci := 4) (rest := []) (as := [.long x102.toInt64]) cf_X4_257 dX4_mixesScreen_15 ⟨rfl, rfl⟩ rfl rfl ⟨Nat.le_of_ble_eq_true rfl, Nat.le_of_ble_eq_true rfl⟩ ⟨Nat.le_of_ble_eq_true rfl, Nat.le_of_ble_eq_true rfl⟩ (Nat.le_of_ble_eq_true rfl) (fun X' hX => KX4_mixes hX)) rfl rfl rfl rfl ⟨Nat.le_of_ble_eq_true rfl, Nat.le_of_ble_eq_true rfl⟩ rfl hF (fun h103 hF => ?_)
      refine jj_iinc (i := 2) (j := 2) (v := x2 + (1 : Int32)) (ls' := [(2, .int (x2 + (1 : Int32))), (0, .ref a0), (1, .int x1)]) (pc' := 21) dX4_mixesScreen_18 rfl rfl (Nat.le_of_ble_eq_true rfl) rfl rfl ?_
      refine jj_goto (tgt := 2) dX4_mixesScreen_21 rfl ?_
      exact jj_pick [1, 2, 0] rfl (ih a0 x1 (x2 + (1 : Int32)) h103 _ hF)
set_option maxRecDepth 100000 in
set_option maxHeartbeats 4000000 in
theorem JX4_mixesScreen {N : Nat} {a0 : Nat} {x1 : Int32} {h : jm_H} {X : jm_X} (hF : FX4_mixesScreen N a0 x1 h = some X) : jm_J M_X4_mixesScreen 0 [(0, .ref a0), (1, .int x1)] [] h 0 0 X := by
  unfold FX4_mixesScreen at hF
  refine jj_iconst (v := (0 : Int32)) (pc' := 1) dX4_mixesScreen_0 rfl rfl ?_
  refine jj_istore_n (i := 2) (ls' := [(2, .int ((0 : Int32))), (0, .ref a0), (1, .int x1)]) (pc' := 2) dX4_mixesScreen_1 rfl (Nat.le_of_ble_eq_true rfl) rfl rfl ?_
  exact jj_pick [1, 2, 0] rfl (BX4_mixesScreen_2 N N a0 x1 ((0 : Int32)) h _ hF)
theorem KX4_mixesScreen {N : Nat} {a0 : Nat} {x1 : Int32} {h : jm_H} {X : jm_X} (hF : FX4_mixesScreen N a0 x1 h = some X) : jm_K M_X4_mixesScreen [.ref a0, .int x1] h X := jk_of rfl (by decide +kernel) rfl rfl (Nat.le_of_ble_eq_true rfl) (JX4_mixesScreen hF)
set_option maxRecDepth 100000 in
set_option maxHeartbeats 4000000 in
theorem BX4_mixesAll_101 (N : Nat) : ∀ (n : Nat) (a0 : Nat) (x1 : Int32) (h : jm_H) (X : jm_X), FX4_mixesAll_101 N n a0 x1 h = some X → jm_J M_X4_mixesAll 101 [(0, .ref a0), (1, .int x1)] [] h 0 0 X := by
  intro n
  induction n with
  | zero =>
    intro a0 x1 h X hF
    exact nomatch (show (none : Option jm_X) = some X from hF)
  | succ n ih =>
    intro a0 x1 h X hF
    rw [FX4_mixesAll_101] at hF
    refine jj_iload_n (j := 1) (i := 1) (pc' := 102) dX4_mixesAll_101 rfl rfl rfl ?_
    refine jj_bipush (v := (9 : Int32)) (pc' := 104) dX4_mixesAll_102 rfl rfl ?_
    refine jj_icmp_ge (tgt := 128) (pc' := 107) dX4_mixesAll_104 rfl rfl (fun hc hF => ?_) (fun hc hF => ?_) hF
    · skip
      exact jj_retV rfl dX4_mixesAll_128 ⟨Nat.le_of_ble_eq_true rfl, Nat.le_of_ble_eq_true rfl⟩ hF
    · skip
      refine jj_aload_n (j := 0) (i := 0) (pc' := 108) dX4_mixesAll_107 rfl rfl rfl ?_
      refine jj_aload_n (j := 0) (i := 0) (pc' := 109) dX4_mixesAll_108 rfl rfl rfl ?_
      refine jj_iload_n (j := 1) (i := 1) (pc' := 110) dX4_mixesAll_109 rfl rfl rfl ?_
      refine jj_iconst (v := (3 : Int32)) (pc' := 111) dX4_mixesAll_110 rfl rfl ?_
      refine jj_idiv (pc' := 112) dX4_mixesAll_111 (by decide) rfl ?_
      refine jj_iload_n (j := 1) (i := 1) (pc' := 113) dX4_mixesAll_112 rfl rfl rfl ?_
      refine jj_iconst (v := (3 : Int32)) (pc' := 114) dX4_mixesAll_113 rfl rfl ?_
      refine jj_irem (pc' := 115) dX4_mixesAll_114 (by decide) rfl ?_
      refine jj_cI (N := M_X4_aboutJuror) (kc' := 0) (ks' := 0) (pc' := 118) (jg_V (N := M_X4_aboutJuror) (ci := 4) (rest := [.ref a0]) (as := [.int (x1 / ((3 : Int32))), .int (x1 - x1 / ((3 : Int32)) * ((3 : Int32)))]) cf_X4_223 dX4_mixesAll_115 ⟨rfl, rfl⟩ rfl rfl ⟨Nat.le_of_ble_eq_true rfl, Nat.le_of_ble_eq_true rfl⟩ ⟨Nat.le_of_ble_eq_true rfl, Nat.le_of_ble_eq_true rfl⟩ (Nat.le_of_ble_eq_true rfl) (fun X' hX => KX4_aboutJuror hX)) rfl rfl rfl rfl ⟨Nat.le_of_ble_eq_true rfl, Nat.le_of_ble_eq_true rfl⟩ rfl hF (fun x102 h101 hF => ?_)
      refine jj_i2l (pc' := 119) dX4_mixesAll_118 rfl ?_
      refine jj_cV (N := M_X4_mixes) (kc' := 0) (ks' := 0) (pc' := 122) (jg_V (N := M_X4_mixes) (ci := 4) (rest := []) (as := [.long x102.toInt64]) cf_X4_257 dX4_mixesAll_119 ⟨rfl, rfl⟩ rfl rfl ⟨Nat.le_of_ble_eq_true rfl, Nat.le_of_ble_eq_true rfl⟩ ⟨Nat.le_of_ble_eq_true rfl, Nat.le_of_ble_eq_true rfl⟩ (Nat.le_of_ble_eq_true rfl) (fun X' hX => KX4_mixes hX)) rfl rfl rfl rfl ⟨Nat.le_of_ble_eq_true rfl, Nat.le_of_ble_eq_true rfl⟩ rfl hF (fun h103 hF => ?_)
      refine jj_iinc (i := 1) (j := 1) (v := x1 + (1 : Int32)) (ls' := [(1, .int (x1 + (1 : Int32))), (0, .ref a0)]) (pc' := 125) dX4_mixesAll_122 rfl rfl (Nat.le_of_ble_eq_true rfl) rfl rfl ?_
      refine jj_goto (tgt := 101) dX4_mixesAll_125 rfl ?_
      exact jj_pick [1, 0] rfl (ih a0 (x1 + (1 : Int32)) h103 _ hF)
set_option maxRecDepth 100000 in
set_option maxHeartbeats 4000000 in
theorem BX4_mixesAll_66 (N : Nat) : ∀ (n : Nat) (a0 : Nat) (x1 : Int32) (h : jm_H) (X : jm_X), FX4_mixesAll_66 N n a0 x1 h = some X → jm_J M_X4_mixesAll 66 [(0, .ref a0), (1, .int x1)] [] h 0 0 X := by
  intro n
  induction n with
  | zero =>
    intro a0 x1 h X hF
    exact nomatch (show (none : Option jm_X) = some X from hF)
  | succ n ih =>
    intro a0 x1 h X hF
    rw [FX4_mixesAll_66] at hF
    refine jj_iload_n (j := 1) (i := 1) (pc' := 67) dX4_mixesAll_66 rfl rfl rfl ?_
    refine jj_iconst (v := (4 : Int32)) (pc' := 68) dX4_mixesAll_67 rfl rfl ?_
    refine jj_aload_n (j := 0) (i := 0) (pc' := 69) dX4_mixesAll_68 rfl rfl rfl ?_
    refine jj_gR (C := RX4) (T := TX4) (N := 15) (ci := 4) (k := 0) (pc' := 72) dX4_mixesAll_69 rfl rfl inX4 (by decide) qw_73 hF (fun r101 hF => ?_)
    refine jj_iconst (v := (2 : Int32)) (pc' := 73) dX4_mixesAll_72 rfl rfl ?_
    refine jj_ldI (pc' := 74) dX4_mixesAll_73 rfl hF (fun x102 hF => ?_)
    refine jj_imul (pc' := 75) dX4_mixesAll_74 rfl ?_
    refine jj_icmp_ge (tgt := 99) (pc' := 78) dX4_mixesAll_75 rfl rfl (fun hc hF => ?_) (fun hc hF => ?_) hF
    · skip
      refine jj_iconst (v := (0 : Int32)) (pc' := 100) dX4_mixesAll_99 rfl rfl ?_
      refine jj_istore_n (i := 1) (ls' := [(1, .int ((0 : Int32))), (0, .ref a0)]) (pc' := 101) dX4_mixesAll_100 rfl (Nat.le_of_ble_eq_true rfl) rfl rfl ?_
      exact jj_pick [1, 0] rfl (BX4_mixesAll_101 N N a0 ((0 : Int32)) h _ hF)
    · skip
      refine jj_aload_n (j := 0) (i := 0) (pc' := 79) dX4_mixesAll_78 rfl rfl rfl ?_
      refine jj_aload_n (j := 0) (i := 0) (pc' := 80) dX4_mixesAll_79 rfl rfl rfl ?_
      refine jj_iload_n (j := 1) (i := 1) (pc' := 81) dX4_mixesAll_80 rfl rfl rfl ?_
      refine jj_iconst (v := (4 : Int32)) (pc' := 82) dX4_mixesAll_81 rfl rfl ?_
      refine jj_idiv (pc' := 83) dX4_mixesAll_82 (by decide) rfl ?_
      refine jj_iload_n (j := 1) (i := 1) (pc' := 84) dX4_mixesAll_83 rfl rfl rfl ?_
      refine jj_iconst (v := (4 : Int32)) (pc' := 85) dX4_mixesAll_84 rfl rfl ?_
      refine jj_irem (pc' := 86) dX4_mixesAll_85 (by decide) rfl ?_
      refine jj_cI (N := M_X4_aboutGuest) (kc' := 0) (ks' := 0) (pc' := 89) (jg_V (N := M_X4_aboutGuest) (ci := 4) (rest := [.ref a0]) (as := [.int (x1 / ((4 : Int32))), .int (x1 - x1 / ((4 : Int32)) * ((4 : Int32)))]) cf_X4_214 dX4_mixesAll_86 ⟨rfl, rfl⟩ rfl rfl ⟨Nat.le_of_ble_eq_true rfl, Nat.le_of_ble_eq_true rfl⟩ ⟨Nat.le_of_ble_eq_true rfl, Nat.le_of_ble_eq_true rfl⟩ (Nat.le_of_ble_eq_true rfl) (fun X' hX => KX4_aboutGuest hX)) rfl rfl rfl rfl ⟨Nat.le_of_ble_eq_true rfl, Nat.le_of_ble_eq_true rfl⟩ rfl hF (fun x104 h103 hF => ?_)
      refine jj_i2l (pc' := 90) dX4_mixesAll_89 rfl ?_
      refine jj_cV (N := M_X4_mixes) (kc' := 0) (ks' := 0) (pc' := 93) (jg_V (N := M_X4_mixes) (ci := 4) (rest := []) (as := [.long x104.toInt64]) cf_X4_257 dX4_mixesAll_90 ⟨rfl, rfl⟩ rfl rfl ⟨Nat.le_of_ble_eq_true rfl, Nat.le_of_ble_eq_true rfl⟩ ⟨Nat.le_of_ble_eq_true rfl, Nat.le_of_ble_eq_true rfl⟩ (Nat.le_of_ble_eq_true rfl) (fun X' hX => KX4_mixes hX)) rfl rfl rfl rfl ⟨Nat.le_of_ble_eq_true rfl, Nat.le_of_ble_eq_true rfl⟩ rfl hF (fun h105 hF => ?_)
      refine jj_iinc (i := 1) (j := 1) (v := x1 + (1 : Int32)) (ls' := [(1, .int (x1 + (1 : Int32))), (0, .ref a0)]) (pc' := 96) dX4_mixesAll_93 rfl rfl (Nat.le_of_ble_eq_true rfl) rfl rfl ?_
      refine jj_goto (tgt := 66) dX4_mixesAll_96 rfl ?_
      exact jj_pick [1, 0] rfl (ih a0 (x1 + (1 : Int32)) h105 _ hF)
set_option maxRecDepth 100000 in
set_option maxHeartbeats 4000000 in
theorem BX4_mixesAll_48 (N : Nat) : ∀ (n : Nat) (a0 : Nat) (x1 : Int32) (h : jm_H) (X : jm_X), FX4_mixesAll_48 N n a0 x1 h = some X → jm_J M_X4_mixesAll 48 [(0, .ref a0), (1, .int x1)] [] h 0 0 X := by
  intro n
  induction n with
  | zero =>
    intro a0 x1 h X hF
    exact nomatch (show (none : Option jm_X) = some X from hF)
  | succ n ih =>
    intro a0 x1 h X hF
    rw [FX4_mixesAll_48] at hF
    refine jj_iload_n (j := 1) (i := 1) (pc' := 49) dX4_mixesAll_48 rfl rfl rfl ?_
    refine jj_iconst (v := (3 : Int32)) (pc' := 50) dX4_mixesAll_49 rfl rfl ?_
    refine jj_icmp_ge (tgt := 64) (pc' := 53) dX4_mixesAll_50 rfl rfl (fun hc hF => ?_) (fun hc hF => ?_) hF
    · skip
      refine jj_iconst (v := (0 : Int32)) (pc' := 65) dX4_mixesAll_64 rfl rfl ?_
      refine jj_istore_n (i := 1) (ls' := [(1, .int ((0 : Int32))), (0, .ref a0)]) (pc' := 66) dX4_mixesAll_65 rfl (Nat.le_of_ble_eq_true rfl) rfl rfl ?_
      exact jj_pick [1, 0] rfl (BX4_mixesAll_66 N N a0 ((0 : Int32)) h _ hF)
    · skip
      refine jj_aload_n (j := 0) (i := 0) (pc' := 54) dX4_mixesAll_53 rfl rfl rfl ?_
      refine jj_iload_n (j := 1) (i := 1) (pc' := 55) dX4_mixesAll_54 rfl rfl rfl ?_
      refine jj_cV (N := M_X4_mixesScreen) (kc' := 0) (ks' := 0) (pc' := 58) (jg_V (N := M_X4_mixesScreen) (ci := 4) (rest := []) (as := [.int x1]) cf_X4_274 dX4_mixesAll_55 ⟨rfl, rfl⟩ rfl rfl ⟨Nat.le_of_ble_eq_true rfl, Nat.le_of_ble_eq_true rfl⟩ ⟨Nat.le_of_ble_eq_true rfl, Nat.le_of_ble_eq_true rfl⟩ (Nat.le_of_ble_eq_true rfl) (fun X' hX => KX4_mixesScreen hX)) rfl rfl rfl rfl ⟨Nat.le_of_ble_eq_true rfl, Nat.le_of_ble_eq_true rfl⟩ rfl hF (fun h101 hF => ?_)
      refine jj_iinc (i := 1) (j := 1) (v := x1 + (1 : Int32)) (ls' := [(1, .int (x1 + (1 : Int32))), (0, .ref a0)]) (pc' := 61) dX4_mixesAll_58 rfl rfl (Nat.le_of_ble_eq_true rfl) rfl rfl ?_
      refine jj_goto (tgt := 48) dX4_mixesAll_61 rfl ?_
      exact jj_pick [1, 0] rfl (ih a0 (x1 + (1 : Int32)) h101 _ hF)
set_option maxRecDepth 100000 in
set_option maxHeartbeats 4000000 in
theorem BX4_mixesAll_25 (N : Nat) : ∀ (n : Nat) (a0 : Nat) (x1 : Int32) (h : jm_H) (X : jm_X), FX4_mixesAll_25 N n a0 x1 h = some X → jm_J M_X4_mixesAll 25 [(0, .ref a0), (1, .int x1)] [] h 0 0 X := by
  intro n
  induction n with
  | zero =>
    intro a0 x1 h X hF
    exact nomatch (show (none : Option jm_X) = some X from hF)
  | succ n ih =>
    intro a0 x1 h X hF
    rw [FX4_mixesAll_25] at hF
    refine jj_iload_n (j := 1) (i := 1) (pc' := 26) dX4_mixesAll_25 rfl rfl rfl ?_
    refine jj_aload_n (j := 0) (i := 0) (pc' := 27) dX4_mixesAll_26 rfl rfl rfl ?_
    refine jj_gR (C := RX4) (T := TX4) (N := 15) (ci := 4) (k := 0) (pc' := 30) dX4_mixesAll_27 rfl rfl inX4 (by decide) qw_73 hF (fun r101 hF => ?_)
    refine jj_iconst (v := (1 : Int32)) (pc' := 31) dX4_mixesAll_30 rfl rfl ?_
    refine jj_ldI (pc' := 32) dX4_mixesAll_31 rfl hF (fun x102 hF => ?_)
    refine jj_icmp_ge (tgt := 46) (pc' := 35) dX4_mixesAll_32 rfl rfl (fun hc hF => ?_) (fun hc hF => ?_) hF
    · skip
      refine jj_iconst (v := (0 : Int32)) (pc' := 47) dX4_mixesAll_46 rfl rfl ?_
      refine jj_istore_n (i := 1) (ls' := [(1, .int ((0 : Int32))), (0, .ref a0)]) (pc' := 48) dX4_mixesAll_47 rfl (Nat.le_of_ble_eq_true rfl) rfl rfl ?_
      exact jj_pick [1, 0] rfl (BX4_mixesAll_48 N N a0 ((0 : Int32)) h _ hF)
    · skip
      refine jj_aload_n (j := 0) (i := 0) (pc' := 36) dX4_mixesAll_35 rfl rfl rfl ?_
      refine jj_iload_n (j := 1) (i := 1) (pc' := 37) dX4_mixesAll_36 rfl rfl rfl ?_
      refine jj_cV (N := M_X4_mixesShowing) (kc' := 0) (ks' := 0) (pc' := 40) (jg_V (N := M_X4_mixesShowing) (ci := 4) (rest := []) (as := [.int x1]) cf_X4_271 dX4_mixesAll_37 ⟨rfl, rfl⟩ rfl rfl ⟨Nat.le_of_ble_eq_true rfl, Nat.le_of_ble_eq_true rfl⟩ ⟨Nat.le_of_ble_eq_true rfl, Nat.le_of_ble_eq_true rfl⟩ (Nat.le_of_ble_eq_true rfl) (fun X' hX => KX4_mixesShowing hX)) rfl rfl rfl rfl ⟨Nat.le_of_ble_eq_true rfl, Nat.le_of_ble_eq_true rfl⟩ rfl hF (fun h103 hF => ?_)
      refine jj_iinc (i := 1) (j := 1) (v := x1 + (1 : Int32)) (ls' := [(1, .int (x1 + (1 : Int32))), (0, .ref a0)]) (pc' := 43) dX4_mixesAll_40 rfl rfl (Nat.le_of_ble_eq_true rfl) rfl rfl ?_
      refine jj_goto (tgt := 25) dX4_mixesAll_43 rfl ?_
      exact jj_pick [1, 0] rfl (ih a0 (x1 + (1 : Int32)) h103 _ hF)
set_option maxRecDepth 100000 in
set_option maxHeartbeats 4000000 in
theorem BX4_mixesAll_2 (N : Nat) : ∀ (n : Nat) (a0 : Nat) (x1 : Int32) (h : jm_H) (X : jm_X), FX4_mixesAll_2 N n a0 x1 h = some X → jm_J M_X4_mixesAll 2 [(0, .ref a0), (1, .int x1)] [] h 0 0 X := by
  intro n
  induction n with
  | zero =>
    intro a0 x1 h X hF
    exact nomatch (show (none : Option jm_X) = some X from hF)
  | succ n ih =>
    intro a0 x1 h X hF
    rw [FX4_mixesAll_2] at hF
    refine jj_iload_n (j := 1) (i := 1) (pc' := 3) dX4_mixesAll_2 rfl rfl rfl ?_
    refine jj_aload_n (j := 0) (i := 0) (pc' := 4) dX4_mixesAll_3 rfl rfl rfl ?_
    refine jj_gR (C := RX4) (T := TX4) (N := 15) (ci := 4) (k := 0) (pc' := 7) dX4_mixesAll_4 rfl rfl inX4 (by decide) qw_73 hF (fun r101 hF => ?_)
    refine jj_iconst (v := (0 : Int32)) (pc' := 8) dX4_mixesAll_7 rfl rfl ?_
    refine jj_ldI (pc' := 9) dX4_mixesAll_8 rfl hF (fun x102 hF => ?_)
    refine jj_icmp_ge (tgt := 23) (pc' := 12) dX4_mixesAll_9 rfl rfl (fun hc hF => ?_) (fun hc hF => ?_) hF
    · skip
      refine jj_iconst (v := (0 : Int32)) (pc' := 24) dX4_mixesAll_23 rfl rfl ?_
      refine jj_istore_n (i := 1) (ls' := [(1, .int ((0 : Int32))), (0, .ref a0)]) (pc' := 25) dX4_mixesAll_24 rfl (Nat.le_of_ble_eq_true rfl) rfl rfl ?_
      exact jj_pick [1, 0] rfl (BX4_mixesAll_25 N N a0 ((0 : Int32)) h _ hF)
    · skip
      refine jj_aload_n (j := 0) (i := 0) (pc' := 13) dX4_mixesAll_12 rfl rfl rfl ?_
      refine jj_iload_n (j := 1) (i := 1) (pc' := 14) dX4_mixesAll_13 rfl rfl rfl ?_
      refine jj_cV (N := M_X4_mixesFilm) (kc' := 0) (ks' := 0) (pc' := 17) (jg_V (N := M_X4_mixesFilm) (ci := 4) (rest := []) (as := [.int x1]) cf_X4_267 dX4_mixesAll_14 ⟨rfl, rfl⟩ rfl rfl ⟨Nat.le_of_ble_eq_true rfl, Nat.le_of_ble_eq_true rfl⟩ ⟨Nat.le_of_ble_eq_true rfl, Nat.le_of_ble_eq_true rfl⟩ (Nat.le_of_ble_eq_true rfl) (fun X' hX => KX4_mixesFilm hX)) rfl rfl rfl rfl ⟨Nat.le_of_ble_eq_true rfl, Nat.le_of_ble_eq_true rfl⟩ rfl hF (fun h103 hF => ?_)
      refine jj_iinc (i := 1) (j := 1) (v := x1 + (1 : Int32)) (ls' := [(1, .int (x1 + (1 : Int32))), (0, .ref a0)]) (pc' := 20) dX4_mixesAll_17 rfl rfl (Nat.le_of_ble_eq_true rfl) rfl rfl ?_
      refine jj_goto (tgt := 2) dX4_mixesAll_20 rfl ?_
      exact jj_pick [1, 0] rfl (ih a0 (x1 + (1 : Int32)) h103 _ hF)
set_option maxRecDepth 100000 in
set_option maxHeartbeats 4000000 in
theorem JX4_mixesAll {N : Nat} {a0 : Nat} {h : jm_H} {X : jm_X} (hF : FX4_mixesAll N a0 h = some X) : jm_J M_X4_mixesAll 0 [(0, .ref a0)] [] h 0 0 X := by
  unfold FX4_mixesAll at hF
  refine jj_iconst (v := (0 : Int32)) (pc' := 1) dX4_mixesAll_0 rfl rfl ?_
  refine jj_istore_n (i := 1) (ls' := [(1, .int ((0 : Int32))), (0, .ref a0)]) (pc' := 2) dX4_mixesAll_1 rfl (Nat.le_of_ble_eq_true rfl) rfl rfl ?_
  exact jj_pick [1, 0] rfl (BX4_mixesAll_2 N N a0 ((0 : Int32)) h _ hF)
theorem KX4_mixesAll {N : Nat} {a0 : Nat} {h : jm_H} {X : jm_X} (hF : FX4_mixesAll N a0 h = some X) : jm_K M_X4_mixesAll [.ref a0] h X := jk_of rfl (by decide +kernel) rfl rfl (Nat.le_of_ble_eq_true rfl) (JX4_mixesAll hF)
set_option maxRecDepth 100000 in
set_option maxHeartbeats 4000000 in
theorem BX4_digest_79 (N : Nat) : ∀ (n : Nat) (a0 : Nat) (x1 : Int32) (h : jm_H) (X : jm_X), FX4_digest_79 N n a0 x1 h = some X → jm_J M_X4_digest 79 [(0, .ref a0), (1, .int x1)] [] h 0 0 X := by
  intro n
  induction n with
  | zero =>
    intro a0 x1 h X hF
    exact nomatch (show (none : Option jm_X) = some X from hF)
  | succ n ih =>
    intro a0 x1 h X hF
    rw [FX4_digest_79] at hF
    refine jj_iload_n (j := 1) (i := 1) (pc' := 80) dX4_digest_79 rfl rfl rfl ?_
    refine jj_aload_n (j := 0) (i := 0) (pc' := 81) dX4_digest_80 rfl rfl rfl ?_
    refine jj_gI (C := RX4) (T := TX4) (N := 15) (ci := 4) (k := 6) (pc' := 84) dX4_digest_81 rfl rfl inX4 (by decide) qw_84 hF (fun x101 hF => ?_)
    refine jj_icmp_ge (tgt := 104) (pc' := 87) dX4_digest_84 rfl rfl (fun hc hF => ?_) (fun hc hF => ?_) hF
    · skip
      refine jj_aload_n (j := 0) (i := 0) (pc' := 105) dX4_digest_104 rfl rfl rfl ?_
      refine jj_gL (C := RX4) (T := TX4) (N := 15) (ci := 4) (k := 14) (pc' := 108) dX4_digest_105 rfl rfl inX4 (by decide) qw_90 hF (fun l102 hF => ?_)
      exact jj_retL rfl dX4_digest_108 ⟨Nat.le_of_ble_eq_true rfl, Nat.le_of_ble_eq_true rfl⟩ hF
    · skip
      refine jj_aload_n (j := 0) (i := 0) (pc' := 88) dX4_digest_87 rfl rfl rfl ?_
      refine jj_aload_n (j := 0) (i := 0) (pc' := 89) dX4_digest_88 rfl rfl rfl ?_
      refine jj_gR (C := RX4) (T := TX4) (N := 15) (ci := 4) (k := 5) (pc' := 92) dX4_digest_89 rfl rfl inX4 (by decide) qw_77 hF (fun r103 hF => ?_)
      refine jj_iload_n (j := 1) (i := 1) (pc' := 93) dX4_digest_92 rfl rfl rfl ?_
      refine jj_ldI (pc' := 94) dX4_digest_93 rfl hF (fun x104 hF => ?_)
      refine jj_i2l (pc' := 95) dX4_digest_94 rfl ?_
      refine jj_cV (N := M_X4_mixes) (kc' := 0) (ks' := 0) (pc' := 98) (jg_V (N := M_X4_mixes) (ci := 4) (rest := []) (as := [.long x104.toInt64]) cf_X4_257 dX4_digest_95 ⟨rfl, rfl⟩ rfl rfl ⟨Nat.le_of_ble_eq_true rfl, Nat.le_of_ble_eq_true rfl⟩ ⟨Nat.le_of_ble_eq_true rfl, Nat.le_of_ble_eq_true rfl⟩ (Nat.le_of_ble_eq_true rfl) (fun X' hX => KX4_mixes hX)) rfl rfl rfl rfl ⟨Nat.le_of_ble_eq_true rfl, Nat.le_of_ble_eq_true rfl⟩ rfl hF (fun h105 hF => ?_)
      refine jj_iinc (i := 1) (j := 1) (v := x1 + (1 : Int32)) (ls' := [(1, .int (x1 + (1 : Int32))), (0, .ref a0)]) (pc' := 101) dX4_digest_98 rfl rfl (Nat.le_of_ble_eq_true rfl) rfl rfl ?_
      refine jj_goto (tgt := 79) dX4_digest_101 rfl ?_
      exact jj_pick [1, 0] rfl (ih a0 (x1 + (1 : Int32)) h105 _ hF)
set_option maxRecDepth 100000 in
set_option maxHeartbeats 4000000 in
theorem BX4_digest_42 (N : Nat) : ∀ (n : Nat) (a0 : Nat) (x1 : Int32) (h : jm_H) (X : jm_X), FX4_digest_42 N n a0 x1 h = some X → jm_J M_X4_digest 42 [(0, .ref a0), (1, .int x1)] [] h 0 0 X := by
  intro n
  induction n with
  | zero =>
    intro a0 x1 h X hF
    exact nomatch (show (none : Option jm_X) = some X from hF)
  | succ n ih =>
    intro a0 x1 h X hF
    rw [FX4_digest_42] at hF
    refine jj_iload_n (j := 1) (i := 1) (pc' := 43) dX4_digest_42 rfl rfl rfl ?_
    refine jj_iconst (v := (3 : Int32)) (pc' := 44) dX4_digest_43 rfl rfl ?_
    refine jj_icmp_ge (tgt := 68) (pc' := 47) dX4_digest_44 rfl rfl (fun hc hF => ?_) (fun hc hF => ?_) hF
    · skip
      refine jj_aload_n (j := 0) (i := 0) (pc' := 69) dX4_digest_68 rfl rfl rfl ?_
      refine jj_aload_n (j := 0) (i := 0) (pc' := 70) dX4_digest_69 rfl rfl rfl ?_
      refine jj_gI (C := RX4) (T := TX4) (N := 15) (ci := 4) (k := 6) (pc' := 73) dX4_digest_70 rfl rfl inX4 (by decide) qw_84 hF (fun x101 hF => ?_)
      refine jj_i2l (pc' := 74) dX4_digest_73 rfl ?_
      refine jj_cV (N := M_X4_mixes) (kc' := 0) (ks' := 0) (pc' := 77) (jg_V (N := M_X4_mixes) (ci := 4) (rest := []) (as := [.long x101.toInt64]) cf_X4_257 dX4_digest_74 ⟨rfl, rfl⟩ rfl rfl ⟨Nat.le_of_ble_eq_true rfl, Nat.le_of_ble_eq_true rfl⟩ ⟨Nat.le_of_ble_eq_true rfl, Nat.le_of_ble_eq_true rfl⟩ (Nat.le_of_ble_eq_true rfl) (fun X' hX => KX4_mixes hX)) rfl rfl rfl rfl ⟨Nat.le_of_ble_eq_true rfl, Nat.le_of_ble_eq_true rfl⟩ rfl hF (fun h102 hF => ?_)
      refine jj_iconst (v := (0 : Int32)) (pc' := 78) dX4_digest_77 rfl rfl ?_
      refine jj_istore_n (i := 1) (ls' := [(1, .int ((0 : Int32))), (0, .ref a0)]) (pc' := 79) dX4_digest_78 rfl (Nat.le_of_ble_eq_true rfl) rfl rfl ?_
      exact jj_pick [1, 0] rfl (BX4_digest_79 N N a0 ((0 : Int32)) h102 _ hF)
    · skip
      refine jj_aload_n (j := 0) (i := 0) (pc' := 48) dX4_digest_47 rfl rfl rfl ?_
      refine jj_aload_n (j := 0) (i := 0) (pc' := 49) dX4_digest_48 rfl rfl rfl ?_
      refine jj_gR (C := RX4) (T := TX4) (N := 15) (ci := 4) (k := 0) (pc' := 52) dX4_digest_49 rfl rfl inX4 (by decide) qw_73 hF (fun r103 hF => ?_)
      refine jj_sipush (v := (129 : Int32)) (pc' := 55) dX4_digest_52 rfl rfl ?_
      refine jj_iload_n (j := 1) (i := 1) (pc' := 56) dX4_digest_55 rfl rfl rfl ?_
      refine jj_iadd (pc' := 57) dX4_digest_56 rfl ?_
      refine jj_ldI (pc' := 58) dX4_digest_57 rfl hF (fun x104 hF => ?_)
      refine jj_i2l (pc' := 59) dX4_digest_58 rfl ?_
      refine jj_cV (N := M_X4_mixes) (kc' := 0) (ks' := 0) (pc' := 62) (jg_V (N := M_X4_mixes) (ci := 4) (rest := []) (as := [.long x104.toInt64]) cf_X4_257 dX4_digest_59 ⟨rfl, rfl⟩ rfl rfl ⟨Nat.le_of_ble_eq_true rfl, Nat.le_of_ble_eq_true rfl⟩ ⟨Nat.le_of_ble_eq_true rfl, Nat.le_of_ble_eq_true rfl⟩ (Nat.le_of_ble_eq_true rfl) (fun X' hX => KX4_mixes hX)) rfl rfl rfl rfl ⟨Nat.le_of_ble_eq_true rfl, Nat.le_of_ble_eq_true rfl⟩ rfl hF (fun h105 hF => ?_)
      refine jj_iinc (i := 1) (j := 1) (v := x1 + (1 : Int32)) (ls' := [(1, .int (x1 + (1 : Int32))), (0, .ref a0)]) (pc' := 65) dX4_digest_62 rfl rfl (Nat.le_of_ble_eq_true rfl) rfl rfl ?_
      refine jj_goto (tgt := 42) dX4_digest_65 rfl ?_
      exact jj_pick [1, 0] rfl (ih a0 (x1 + (1 : Int32)) h105 _ hF)
set_option maxRecDepth 100000 in
set_option maxHeartbeats 4000000 in
theorem BX4_digest_14 (N : Nat) : ∀ (n : Nat) (a0 : Nat) (x1 : Int32) (h : jm_H) (X : jm_X), FX4_digest_14 N n a0 x1 h = some X → jm_J M_X4_digest 14 [(0, .ref a0), (1, .int x1)] [] h 0 0 X := by
  intro n
  induction n with
  | zero =>
    intro a0 x1 h X hF
    exact nomatch (show (none : Option jm_X) = some X from hF)
  | succ n ih =>
    intro a0 x1 h X hF
    rw [FX4_digest_14] at hF
    refine jj_iload_n (j := 1) (i := 1) (pc' := 15) dX4_digest_14 rfl rfl rfl ?_
    refine jj_bipush (v := (12 : Int32)) (pc' := 17) dX4_digest_15 rfl rfl ?_
    refine jj_icmp_ge (tgt := 36) (pc' := 20) dX4_digest_17 rfl rfl (fun hc hF => ?_) (fun hc hF => ?_) hF
    · skip
      refine jj_aload_n (j := 0) (i := 0) (pc' := 37) dX4_digest_36 rfl rfl rfl ?_
      refine jj_cV (N := M_X4_mixesAll) (kc' := 0) (ks' := 0) (pc' := 40) (jg_V (N := M_X4_mixesAll) (ci := 4) (rest := []) (as := []) cf_X4_279 dX4_digest_37 ⟨rfl, rfl⟩ rfl rfl ⟨Nat.le_of_ble_eq_true rfl, Nat.le_of_ble_eq_true rfl⟩ ⟨Nat.le_of_ble_eq_true rfl, Nat.le_of_ble_eq_true rfl⟩ (Nat.le_of_ble_eq_true rfl) (fun X' hX => KX4_mixesAll hX)) rfl rfl rfl rfl ⟨Nat.le_of_ble_eq_true rfl, Nat.le_of_ble_eq_true rfl⟩ rfl hF (fun h101 hF => ?_)
      refine jj_iconst (v := (0 : Int32)) (pc' := 41) dX4_digest_40 rfl rfl ?_
      refine jj_istore_n (i := 1) (ls' := [(1, .int ((0 : Int32))), (0, .ref a0)]) (pc' := 42) dX4_digest_41 rfl (Nat.le_of_ble_eq_true rfl) rfl rfl ?_
      exact jj_pick [1, 0] rfl (BX4_digest_42 N N a0 ((0 : Int32)) h101 _ hF)
    · skip
      refine jj_aload_n (j := 0) (i := 0) (pc' := 21) dX4_digest_20 rfl rfl rfl ?_
      refine jj_aload_n (j := 0) (i := 0) (pc' := 22) dX4_digest_21 rfl rfl rfl ?_
      refine jj_iload_n (j := 1) (i := 1) (pc' := 23) dX4_digest_22 rfl rfl rfl ?_
      refine jj_cI (N := M_X4_counted) (kc' := 0) (ks' := 0) (pc' := 26) (jg_V (N := M_X4_counted) (ci := 4) (rest := [.ref a0]) (as := [.int x1]) cf_X4_233 dX4_digest_23 ⟨rfl, rfl⟩ rfl rfl ⟨Nat.le_of_ble_eq_true rfl, Nat.le_of_ble_eq_true rfl⟩ ⟨Nat.le_of_ble_eq_true rfl, Nat.le_of_ble_eq_true rfl⟩ (Nat.le_of_ble_eq_true rfl) (fun X' hX => KX4_counted hX)) rfl rfl rfl rfl ⟨Nat.le_of_ble_eq_true rfl, Nat.le_of_ble_eq_true rfl⟩ rfl hF (fun x103 h102 hF => ?_)
      refine jj_i2l (pc' := 27) dX4_digest_26 rfl ?_
      refine jj_cV (N := M_X4_mixes) (kc' := 0) (ks' := 0) (pc' := 30) (jg_V (N := M_X4_mixes) (ci := 4) (rest := []) (as := [.long x103.toInt64]) cf_X4_257 dX4_digest_27 ⟨rfl, rfl⟩ rfl rfl ⟨Nat.le_of_ble_eq_true rfl, Nat.le_of_ble_eq_true rfl⟩ ⟨Nat.le_of_ble_eq_true rfl, Nat.le_of_ble_eq_true rfl⟩ (Nat.le_of_ble_eq_true rfl) (fun X' hX => KX4_mixes hX)) rfl rfl rfl rfl ⟨Nat.le_of_ble_eq_true rfl, Nat.le_of_ble_eq_true rfl⟩ rfl hF (fun h104 hF => ?_)
      refine jj_iinc (i := 1) (j := 1) (v := x1 + (1 : Int32)) (ls' := [(1, .int (x1 + (1 : Int32))), (0, .ref a0)]) (pc' := 33) dX4_digest_30 rfl rfl (Nat.le_of_ble_eq_true rfl) rfl rfl ?_
      refine jj_goto (tgt := 14) dX4_digest_33 rfl ?_
      exact jj_pick [1, 0] rfl (ih a0 (x1 + (1 : Int32)) h104 _ hF)
set_option maxRecDepth 100000 in
set_option maxHeartbeats 4000000 in
theorem JX4_digest {N : Nat} {a0 : Nat} {h : jm_H} {X : jm_X} (hF : FX4_digest N a0 h = some X) : jm_J M_X4_digest 0 [(0, .ref a0)] [] h 0 0 X := by
  unfold FX4_digest at hF
  refine jj_aload_n (j := 0) (i := 0) (pc' := 1) dX4_digest_0 rfl rfl rfl ?_
  refine jj_iconst (v := (0 : Int32)) (pc' := 2) dX4_digest_1 rfl rfl ?_
  refine jj_p (C := RX4) (T := TX4) (N := 15) (ci := 4) (k := 7) (ty := tyX4) (pc' := 5) dX4_digest_2 rfl rfl inX4 tyX4_ok nmX4 (by decide) qw_79 rfl (fun _ => ⟨rfl, rfl⟩) hF (fun h101 hF => ?_)
  refine jj_aload_n (j := 0) (i := 0) (pc' := 6) dX4_digest_5 rfl rfl rfl ?_
  refine jj_ldc2l (v := (3727 : Int64)) (pc' := 9) dX4_digest_6 qw_96 rfl ?_
  refine jj_p (C := RX4) (T := TX4) (N := 15) (ci := 4) (k := 14) (ty := tyX4) (pc' := 12) dX4_digest_9 rfl rfl inX4 tyX4_ok nmX4 (by decide) qw_90 rfl (fun _ => ⟨rfl, rfl⟩) hF (fun h102 hF => ?_)
  refine jj_iconst (v := (0 : Int32)) (pc' := 13) dX4_digest_12 rfl rfl ?_
  refine jj_istore_n (i := 1) (ls' := [(1, .int ((0 : Int32))), (0, .ref a0)]) (pc' := 14) dX4_digest_13 rfl (Nat.le_of_ble_eq_true rfl) rfl rfl ?_
  exact jj_pick [1, 0] rfl (BX4_digest_14 N N a0 ((0 : Int32)) h102 _ hF)
theorem KX4_digest {N : Nat} {a0 : Nat} {h : jm_H} {X : jm_X} (hF : FX4_digest N a0 h = some X) : jm_K M_X4_digest [.ref a0] h X := jk_of rfl (by decide +kernel) rfl rfl (Nat.le_of_ble_eq_true rfl) (JX4_digest hF)
set_option maxRecDepth 100000 in
set_option maxHeartbeats 4000000 in
theorem JL_film {N : Nat} {a0 : Nat} {x1 : Int32} {x2 : Int32} {a3 : Nat} {h : jm_H} {X : jm_X} (hF : FL_film N a0 x1 x2 a3 h = some X) : jm_J M_L_film 0 [(0, .ref a0), (1, .int x1), (2, .int x2), (3, .ref a3)] [] h 0 0 X := by
  unfold FL_film at hF
  refine jj_aload_n (j := 3) (i := 3) (pc' := 1) dL_film_0 rfl rfl rfl ?_
  refine jj_iconst (v := (0 : Int32)) (pc' := 2) dL_film_1 rfl rfl ?_
  refine jj_aload_n (j := 0) (i := 0) (pc' := 3) dL_film_2 rfl rfl rfl ?_
  refine jj_iload_n (j := 1) (i := 1) (pc' := 4) dL_film_3 rfl rfl rfl ?_
  refine jj_iload_n (j := 2) (i := 2) (pc' := 5) dL_film_4 rfl rfl rfl ?_
  refine jj_tI (N := M_X3_film) (kc' := 2) (ks' := 12) (pc' := 8) (jg_V (N := M_X3_film) (ci := 3) (rest := [.int ((0 : Int32)), .ref a3]) (as := [.int x1, .int x2]) cf_L_7 dL_film_5 ⟨rfl, rfl⟩ rfl rfl ⟨Nat.le_of_ble_eq_true rfl, Nat.le_of_ble_eq_true rfl⟩ ⟨Nat.le_of_ble_eq_true rfl, Nat.le_of_ble_eq_true rfl⟩ (Nat.le_of_ble_eq_true rfl) (fun X' hX => KX3_film hX)) rfl rfl rfl rfl hF ?_ (fun x102 h101 hF => ?_)
  · intro E h9 hF
    by_cases hE0 : E = "java/lang/IllegalArgumentException"
    · rw [if_pos hE0] at hF
      subst hE0
      refine jx_h (i := 4) (len := 2) (pc2 := 15) (ls' := [(0, .ref a0), (1, .int x1), (2, .int x2), (3, .ref a3)]) [] [⟨0, 10, 17, 15⟩] ⟨0, 10, 13, 13⟩ (.astore 4) (by decide) rfl (fun z hz => nomatch hz) rfl (by decide) qw_97 (by decide) dL_film_13 (Or.inr ⟨rfl, rfl⟩) (by decide) rfl rfl ?_
      refine jj_iconst (v := (1 : Int32)) (pc' := 16) dL_film_15 rfl rfl ?_
      exact jj_retI (ty := .int) rfl rfl dL_film_16 ⟨Nat.le_of_ble_eq_true rfl, Nat.le_of_ble_eq_true rfl⟩ hF
    rw [if_neg hE0] at hF
    by_cases hE1 : E = "java/lang/IllegalStateException"
    · rw [if_pos hE1] at hF
      subst hE1
      refine jx_h (i := 4) (len := 2) (pc2 := 19) (ls' := [(0, .ref a0), (1, .int x1), (2, .int x2), (3, .ref a3)]) [⟨0, 10, 13, 13⟩] [] ⟨0, 10, 17, 15⟩ (.astore 4) (by decide) rfl (fun z hz => by simp only [List.mem_cons, List.not_mem_nil, or_false] at hz; subst hz; exact ⟨by decide, "java/lang/IllegalArgumentException", qw_97, by decide, by decide⟩) rfl (by decide) qw_98 (by decide) dL_film_17 (Or.inr ⟨rfl, rfl⟩) (by decide) rfl rfl ?_
      refine jj_iconst (v := (2 : Int32)) (pc' := 20) dL_film_19 rfl rfl ?_
      exact jj_retI (ty := .int) rfl rfl dL_film_20 ⟨Nat.le_of_ble_eq_true rfl, Nat.le_of_ble_eq_true rfl⟩ hF
    rw [if_neg hE1] at hF
    cases hF
  refine jj_i2l (pc' := 9) dL_film_8 rfl ?_
  refine jj_stL (pc' := 10) dL_film_9 rfl hF (fun h105 hF => ?_)
  refine jj_goto (tgt := 21) dL_film_10 rfl ?_
  refine jj_iconst (v := (0 : Int32)) (pc' := 22) dL_film_21 rfl rfl ?_
  exact jj_retI (ty := .int) rfl rfl dL_film_22 ⟨Nat.le_of_ble_eq_true rfl, Nat.le_of_ble_eq_true rfl⟩ hF
theorem KL_film {N : Nat} {a0 : Nat} {x1 : Int32} {x2 : Int32} {a3 : Nat} {h : jm_H} {X : jm_X} (hF : FL_film N a0 x1 x2 a3 h = some X) : jm_K M_L_film [.ref a0, .int x1, .int x2, .ref a3] h X := jk_ofH rfl (by decide +kernel) (by decide) rfl (Nat.le_of_ble_eq_true rfl) (JL_film hF)
set_option maxRecDepth 100000 in
set_option maxHeartbeats 4000000 in
theorem JL_seats {N : Nat} {a0 : Nat} {x1 : Int32} {x2 : Int32} {a3 : Nat} {h : jm_H} {X : jm_X} (hF : FL_seats N a0 x1 x2 a3 h = some X) : jm_J M_L_seats 0 [(0, .ref a0), (1, .int x1), (2, .int x2), (3, .ref a3)] [] h 0 0 X := by
  unfold FL_seats at hF
  refine jj_aload_n (j := 3) (i := 3) (pc' := 1) dL_seats_0 rfl rfl rfl ?_
  refine jj_iconst (v := (0 : Int32)) (pc' := 2) dL_seats_1 rfl rfl ?_
  refine jj_aload_n (j := 0) (i := 0) (pc' := 3) dL_seats_2 rfl rfl rfl ?_
  refine jj_iload_n (j := 1) (i := 1) (pc' := 4) dL_seats_3 rfl rfl rfl ?_
  refine jj_iload_n (j := 2) (i := 2) (pc' := 5) dL_seats_4 rfl rfl rfl ?_
  refine jj_tI (N := M_X3_seats) (kc' := 2) (ks' := 12) (pc' := 8) (jg_V (N := M_X3_seats) (ci := 3) (rest := [.int ((0 : Int32)), .ref a3]) (as := [.int x1, .int x2]) cf_L_17 dL_seats_5 ⟨rfl, rfl⟩ rfl rfl ⟨Nat.le_of_ble_eq_true rfl, Nat.le_of_ble_eq_true rfl⟩ ⟨Nat.le_of_ble_eq_true rfl, Nat.le_of_ble_eq_true rfl⟩ (Nat.le_of_ble_eq_true rfl) (fun X' hX => KX3_seats hX)) rfl rfl rfl rfl hF ?_ (fun x102 h101 hF => ?_)
  · intro E h9 hF
    by_cases hE0 : E = "java/lang/IndexOutOfBoundsException"
    · rw [if_pos hE0] at hF
      subst hE0
      refine jx_h (i := 4) (len := 2) (pc2 := 15) (ls' := [(0, .ref a0), (1, .int x1), (2, .int x2), (3, .ref a3)]) [] [⟨0, 10, 17, 13⟩] ⟨0, 10, 13, 20⟩ (.astore 4) (by decide) rfl (fun z hz => nomatch hz) rfl (by decide) qw_99 (by decide) dL_seats_13 (Or.inr ⟨rfl, rfl⟩) (by decide) rfl rfl ?_
      refine jj_iconst (v := (1 : Int32)) (pc' := 16) dL_seats_15 rfl rfl ?_
      exact jj_retI (ty := .int) rfl rfl dL_seats_16 ⟨Nat.le_of_ble_eq_true rfl, Nat.le_of_ble_eq_true rfl⟩ hF
    rw [if_neg hE0] at hF
    by_cases hE1 : E = "java/lang/IllegalArgumentException"
    · rw [if_pos hE1] at hF
      subst hE1
      refine jx_h (i := 4) (len := 2) (pc2 := 19) (ls' := [(0, .ref a0), (1, .int x1), (2, .int x2), (3, .ref a3)]) [⟨0, 10, 13, 20⟩] [] ⟨0, 10, 17, 13⟩ (.astore 4) (by decide) rfl (fun z hz => by simp only [List.mem_cons, List.not_mem_nil, or_false] at hz; subst hz; exact ⟨by decide, "java/lang/IndexOutOfBoundsException", qw_99, by decide, by decide⟩) rfl (by decide) qw_97 (by decide) dL_seats_17 (Or.inr ⟨rfl, rfl⟩) (by decide) rfl rfl ?_
      refine jj_iconst (v := (2 : Int32)) (pc' := 20) dL_seats_19 rfl rfl ?_
      exact jj_retI (ty := .int) rfl rfl dL_seats_20 ⟨Nat.le_of_ble_eq_true rfl, Nat.le_of_ble_eq_true rfl⟩ hF
    rw [if_neg hE1] at hF
    cases hF
  refine jj_i2l (pc' := 9) dL_seats_8 rfl ?_
  refine jj_stL (pc' := 10) dL_seats_9 rfl hF (fun h105 hF => ?_)
  refine jj_goto (tgt := 21) dL_seats_10 rfl ?_
  refine jj_iconst (v := (0 : Int32)) (pc' := 22) dL_seats_21 rfl rfl ?_
  exact jj_retI (ty := .int) rfl rfl dL_seats_22 ⟨Nat.le_of_ble_eq_true rfl, Nat.le_of_ble_eq_true rfl⟩ hF
theorem KL_seats {N : Nat} {a0 : Nat} {x1 : Int32} {x2 : Int32} {a3 : Nat} {h : jm_H} {X : jm_X} (hF : FL_seats N a0 x1 x2 a3 h = some X) : jm_K M_L_seats [.ref a0, .int x1, .int x2, .ref a3] h X := jk_ofH rfl (by decide +kernel) (by decide) rfl (Nat.le_of_ble_eq_true rfl) (JL_seats hF)
set_option maxRecDepth 100000 in
set_option maxHeartbeats 4000000 in
theorem JL_set {N : Nat} {a0 : Nat} {x1 : Int32} {x2 : Int32} {a3 : Nat} {h : jm_H} {X : jm_X} (hF : FL_set N a0 x1 x2 a3 h = some X) : jm_J M_L_set 0 [(0, .ref a0), (1, .int x1), (2, .int x2), (3, .ref a3)] [] h 0 0 X := by
  unfold FL_set at hF
  refine jj_aload_n (j := 3) (i := 3) (pc' := 1) dL_set_0 rfl rfl rfl ?_
  refine jj_iconst (v := (0 : Int32)) (pc' := 2) dL_set_1 rfl rfl ?_
  refine jj_aload_n (j := 0) (i := 0) (pc' := 3) dL_set_2 rfl rfl rfl ?_
  refine jj_iload_n (j := 1) (i := 1) (pc' := 4) dL_set_3 rfl rfl rfl ?_
  refine jj_iload_n (j := 2) (i := 2) (pc' := 5) dL_set_4 rfl rfl rfl ?_
  refine jj_tI (N := M_X3_set) (kc' := 2) (ks' := 12) (pc' := 8) (jg_V (N := M_X3_set) (ci := 3) (rest := [.int ((0 : Int32)), .ref a3]) (as := [.int x1, .int x2]) cf_L_22 dL_set_5 ⟨rfl, rfl⟩ rfl rfl ⟨Nat.le_of_ble_eq_true rfl, Nat.le_of_ble_eq_true rfl⟩ ⟨Nat.le_of_ble_eq_true rfl, Nat.le_of_ble_eq_true rfl⟩ (Nat.le_of_ble_eq_true rfl) (fun X' hX => KX3_set hX)) rfl rfl rfl rfl hF ?_ (fun x102 h101 hF => ?_)
  · intro E h9 hF
    by_cases hE0 : E = "java/lang/IndexOutOfBoundsException"
    · rw [if_pos hE0] at hF
      subst hE0
      refine jx_h (i := 4) (len := 2) (pc2 := 15) (ls' := [(0, .ref a0), (1, .int x1), (2, .int x2), (3, .ref a3)]) [] [⟨0, 10, 17, 13⟩] ⟨0, 10, 13, 20⟩ (.astore 4) (by decide) rfl (fun z hz => nomatch hz) rfl (by decide) qw_99 (by decide) dL_set_13 (Or.inr ⟨rfl, rfl⟩) (by decide) rfl rfl ?_
      refine jj_iconst (v := (1 : Int32)) (pc' := 16) dL_set_15 rfl rfl ?_
      exact jj_retI (ty := .int) rfl rfl dL_set_16 ⟨Nat.le_of_ble_eq_true rfl, Nat.le_of_ble_eq_true rfl⟩ hF
    rw [if_neg hE0] at hF
    by_cases hE1 : E = "java/lang/IllegalArgumentException"
    · rw [if_pos hE1] at hF
      subst hE1
      refine jx_h (i := 4) (len := 2) (pc2 := 19) (ls' := [(0, .ref a0), (1, .int x1), (2, .int x2), (3, .ref a3)]) [⟨0, 10, 13, 20⟩] [] ⟨0, 10, 17, 13⟩ (.astore 4) (by decide) rfl (fun z hz => by simp only [List.mem_cons, List.not_mem_nil, or_false] at hz; subst hz; exact ⟨by decide, "java/lang/IndexOutOfBoundsException", qw_99, by decide, by decide⟩) rfl (by decide) qw_97 (by decide) dL_set_17 (Or.inr ⟨rfl, rfl⟩) (by decide) rfl rfl ?_
      refine jj_iconst (v := (2 : Int32)) (pc' := 20) dL_set_19 rfl rfl ?_
      exact jj_retI (ty := .int) rfl rfl dL_set_20 ⟨Nat.le_of_ble_eq_true rfl, Nat.le_of_ble_eq_true rfl⟩ hF
    rw [if_neg hE1] at hF
    cases hF
  refine jj_i2l (pc' := 9) dL_set_8 rfl ?_
  refine jj_stL (pc' := 10) dL_set_9 rfl hF (fun h105 hF => ?_)
  refine jj_goto (tgt := 21) dL_set_10 rfl ?_
  refine jj_iconst (v := (0 : Int32)) (pc' := 22) dL_set_21 rfl rfl ?_
  exact jj_retI (ty := .int) rfl rfl dL_set_22 ⟨Nat.le_of_ble_eq_true rfl, Nat.le_of_ble_eq_true rfl⟩ hF
theorem KL_set {N : Nat} {a0 : Nat} {x1 : Int32} {x2 : Int32} {a3 : Nat} {h : jm_H} {X : jm_X} (hF : FL_set N a0 x1 x2 a3 h = some X) : jm_K M_L_set [.ref a0, .int x1, .int x2, .ref a3] h X := jk_ofH rfl (by decide +kernel) (by decide) rfl (Nat.le_of_ble_eq_true rfl) (JL_set hF)
set_option maxRecDepth 100000 in
set_option maxHeartbeats 4000000 in
theorem JL_show {N : Nat} {a0 : Nat} {x1 : Int32} {x2 : Int32} {x3 : Int32} {x4 : Int32} {a5 : Nat} {h : jm_H} {X : jm_X} (hF : FL_show N a0 x1 x2 x3 x4 a5 h = some X) : jm_J M_L_show 0 [(0, .ref a0), (1, .int x1), (2, .int x2), (3, .int x3), (4, .int x4), (5, .ref a5)] [] h 0 0 X := by
  unfold FL_show at hF
  refine jj_aload (j := 5) (i := 5) (pc' := 2) dL_show_0 rfl rfl ?_
  refine jj_iconst (v := (0 : Int32)) (pc' := 3) dL_show_2 rfl rfl ?_
  refine jj_aload_n (j := 0) (i := 0) (pc' := 4) dL_show_3 rfl rfl rfl ?_
  refine jj_iload_n (j := 1) (i := 1) (pc' := 5) dL_show_4 rfl rfl rfl ?_
  refine jj_iload_n (j := 2) (i := 2) (pc' := 6) dL_show_5 rfl rfl rfl ?_
  refine jj_iload_n (j := 3) (i := 3) (pc' := 7) dL_show_6 rfl rfl rfl ?_
  refine jj_iload (j := 4) (i := 4) (pc' := 9) dL_show_7 rfl rfl ?_
  refine jj_tI (N := M_X3_show) (kc' := 5) (ks' := 30) (pc' := 12) (jg_V (N := M_X3_show) (ci := 3) (rest := [.int ((0 : Int32)), .ref a5]) (as := [.int x1, .int x2, .int x3, .int x4]) cf_L_25 dL_show_9 ⟨rfl, rfl⟩ rfl rfl ⟨Nat.le_of_ble_eq_true rfl, Nat.le_of_ble_eq_true rfl⟩ ⟨Nat.le_of_ble_eq_true rfl, Nat.le_of_ble_eq_true rfl⟩ (Nat.le_of_ble_eq_true rfl) (fun X' hX => KX3_show hX)) rfl rfl rfl rfl hF ?_ (fun x102 h101 hF => ?_)
  · intro E h9 hF
    by_cases hE0 : E = "java/lang/IndexOutOfBoundsException"
    · rw [if_pos hE0] at hF
      subst hE0
      refine jx_h (i := 6) (len := 2) (pc2 := 19) (ls' := [(0, .ref a0), (1, .int x1), (2, .int x2), (3, .int x3), (4, .int x4), (5, .ref a5)]) [] [⟨0, 14, 21, 13⟩, ⟨0, 14, 25, 15⟩] ⟨0, 14, 17, 20⟩ (.astore 6) (by decide) rfl (fun z hz => nomatch hz) rfl (by decide) qw_99 (by decide) dL_show_17 (Or.inr ⟨rfl, rfl⟩) (by decide) rfl rfl ?_
      refine jj_iconst (v := (1 : Int32)) (pc' := 20) dL_show_19 rfl rfl ?_
      exact jj_retI (ty := .int) rfl rfl dL_show_20 ⟨Nat.le_of_ble_eq_true rfl, Nat.le_of_ble_eq_true rfl⟩ hF
    rw [if_neg hE0] at hF
    by_cases hE1 : E = "java/lang/IllegalArgumentException"
    · rw [if_pos hE1] at hF
      subst hE1
      refine jx_h (i := 6) (len := 2) (pc2 := 23) (ls' := [(0, .ref a0), (1, .int x1), (2, .int x2), (3, .int x3), (4, .int x4), (5, .ref a5)]) [⟨0, 14, 17, 20⟩] [⟨0, 14, 25, 15⟩] ⟨0, 14, 21, 13⟩ (.astore 6) (by decide) rfl (fun z hz => by simp only [List.mem_cons, List.not_mem_nil, or_false] at hz; subst hz; exact ⟨by decide, "java/lang/IndexOutOfBoundsException", qw_99, by decide, by decide⟩) rfl (by decide) qw_97 (by decide) dL_show_21 (Or.inr ⟨rfl, rfl⟩) (by decide) rfl rfl ?_
      refine jj_iconst (v := (2 : Int32)) (pc' := 24) dL_show_23 rfl rfl ?_
      exact jj_retI (ty := .int) rfl rfl dL_show_24 ⟨Nat.le_of_ble_eq_true rfl, Nat.le_of_ble_eq_true rfl⟩ hF
    rw [if_neg hE1] at hF
    by_cases hE2 : E = "java/lang/IllegalStateException"
    · rw [if_pos hE2] at hF
      subst hE2
      refine jx_h (i := 6) (len := 2) (pc2 := 27) (ls' := [(0, .ref a0), (1, .int x1), (2, .int x2), (3, .int x3), (4, .int x4), (5, .ref a5)]) [⟨0, 14, 17, 20⟩, ⟨0, 14, 21, 13⟩] [] ⟨0, 14, 25, 15⟩ (.astore 6) (by decide) rfl (fun z hz => by
            simp only [List.mem_cons, List.not_mem_nil, or_false] at hz
            rcases hz with rfl | rfl
            · exact ⟨by decide, "java/lang/IndexOutOfBoundsException", qw_99, by decide, by decide⟩
            · exact ⟨by decide, "java/lang/IllegalArgumentException", qw_97, by decide, by decide⟩) rfl (by decide) qw_98 (by decide) dL_show_25 (Or.inr ⟨rfl, rfl⟩) (by decide) rfl rfl ?_
      refine jj_iconst (v := (3 : Int32)) (pc' := 28) dL_show_27 rfl rfl ?_
      exact jj_retI (ty := .int) rfl rfl dL_show_28 ⟨Nat.le_of_ble_eq_true rfl, Nat.le_of_ble_eq_true rfl⟩ hF
    rw [if_neg hE2] at hF
    cases hF
  refine jj_i2l (pc' := 13) dL_show_12 rfl ?_
  refine jj_stL (pc' := 14) dL_show_13 rfl hF (fun h106 hF => ?_)
  refine jj_goto (tgt := 29) dL_show_14 rfl ?_
  refine jj_iconst (v := (0 : Int32)) (pc' := 30) dL_show_29 rfl rfl ?_
  exact jj_retI (ty := .int) rfl rfl dL_show_30 ⟨Nat.le_of_ble_eq_true rfl, Nat.le_of_ble_eq_true rfl⟩ hF
theorem KL_show {N : Nat} {a0 : Nat} {x1 : Int32} {x2 : Int32} {x3 : Int32} {x4 : Int32} {a5 : Nat} {h : jm_H} {X : jm_X} (hF : FL_show N a0 x1 x2 x3 x4 a5 h = some X) : jm_K M_L_show [.ref a0, .int x1, .int x2, .int x3, .int x4, .ref a5] h X := jk_ofH rfl (by decide +kernel) (by decide) rfl (Nat.le_of_ble_eq_true rfl) (JL_show hF)
set_option maxRecDepth 100000 in
set_option maxHeartbeats 4000000 in
theorem JL_callOff {N : Nat} {a0 : Nat} {x1 : Int32} {a2 : Nat} {h : jm_H} {X : jm_X} (hF : FL_callOff N a0 x1 a2 h = some X) : jm_J M_L_callOff 0 [(0, .ref a0), (1, .int x1), (2, .ref a2)] [] h 0 0 X := by
  unfold FL_callOff at hF
  refine jj_aload_n (j := 2) (i := 2) (pc' := 1) dL_callOff_0 rfl rfl rfl ?_
  refine jj_iconst (v := (0 : Int32)) (pc' := 2) dL_callOff_1 rfl rfl ?_
  refine jj_aload_n (j := 0) (i := 0) (pc' := 3) dL_callOff_2 rfl rfl rfl ?_
  refine jj_iload_n (j := 1) (i := 1) (pc' := 4) dL_callOff_3 rfl rfl rfl ?_
  refine jj_tI (N := M_X3_callOff) (kc' := 1) (ks' := 6) (pc' := 7) (jg_V (N := M_X3_callOff) (ci := 3) (rest := [.int ((0 : Int32)), .ref a2]) (as := [.int x1]) cf_L_29 dL_callOff_4 ⟨rfl, rfl⟩ rfl rfl ⟨Nat.le_of_ble_eq_true rfl, Nat.le_of_ble_eq_true rfl⟩ ⟨Nat.le_of_ble_eq_true rfl, Nat.le_of_ble_eq_true rfl⟩ (Nat.le_of_ble_eq_true rfl) (fun X' hX => KX3_callOff hX)) rfl rfl rfl rfl hF ?_ (fun x102 h101 hF => ?_)
  · intro E h9 hF
    by_cases hE0 : E = "java/lang/IndexOutOfBoundsException"
    · rw [if_pos hE0] at hF
      subst hE0
      refine jx_h (i := 3) (len := 1) (pc2 := 13) (ls' := [(0, .ref a0), (1, .int x1), (2, .ref a2)]) [] [] ⟨0, 9, 12, 20⟩ (.astore_n 3) (by decide) rfl (fun z hz => nomatch hz) rfl (by decide) qw_99 (by decide) dL_callOff_12 (Or.inl ⟨_, rfl, rfl, rfl⟩) (by decide) rfl rfl ?_
      refine jj_iconst (v := (1 : Int32)) (pc' := 14) dL_callOff_13 rfl rfl ?_
      exact jj_retI (ty := .int) rfl rfl dL_callOff_14 ⟨Nat.le_of_ble_eq_true rfl, Nat.le_of_ble_eq_true rfl⟩ hF
    rw [if_neg hE0] at hF
    cases hF
  refine jj_i2l (pc' := 8) dL_callOff_7 rfl ?_
  refine jj_stL (pc' := 9) dL_callOff_8 rfl hF (fun h104 hF => ?_)
  refine jj_goto (tgt := 15) dL_callOff_9 rfl ?_
  refine jj_iconst (v := (0 : Int32)) (pc' := 16) dL_callOff_15 rfl rfl ?_
  exact jj_retI (ty := .int) rfl rfl dL_callOff_16 ⟨Nat.le_of_ble_eq_true rfl, Nat.le_of_ble_eq_true rfl⟩ hF
theorem KL_callOff {N : Nat} {a0 : Nat} {x1 : Int32} {a2 : Nat} {h : jm_H} {X : jm_X} (hF : FL_callOff N a0 x1 a2 h = some X) : jm_K M_L_callOff [.ref a0, .int x1, .ref a2] h X := jk_ofH rfl (by decide +kernel) (by decide) rfl (Nat.le_of_ble_eq_true rfl) (JL_callOff hF)
set_option maxRecDepth 100000 in
set_option maxHeartbeats 4000000 in
theorem JL_move {N : Nat} {a0 : Nat} {x1 : Int32} {x2 : Int32} {a3 : Nat} {h : jm_H} {X : jm_X} (hF : FL_move N a0 x1 x2 a3 h = some X) : jm_J M_L_move 0 [(0, .ref a0), (1, .int x1), (2, .int x2), (3, .ref a3)] [] h 0 0 X := by
  unfold FL_move at hF
  refine jj_aload_n (j := 3) (i := 3) (pc' := 1) dL_move_0 rfl rfl rfl ?_
  refine jj_iconst (v := (0 : Int32)) (pc' := 2) dL_move_1 rfl rfl ?_
  refine jj_aload_n (j := 0) (i := 0) (pc' := 3) dL_move_2 rfl rfl rfl ?_
  refine jj_iload_n (j := 1) (i := 1) (pc' := 4) dL_move_3 rfl rfl rfl ?_
  refine jj_iload_n (j := 2) (i := 2) (pc' := 5) dL_move_4 rfl rfl rfl ?_
  refine jj_tI (N := M_X3_move) (kc' := 3) (ks' := 18) (pc' := 8) (jg_V (N := M_X3_move) (ci := 3) (rest := [.int ((0 : Int32)), .ref a3]) (as := [.int x1, .int x2]) cf_L_33 dL_move_5 ⟨rfl, rfl⟩ rfl rfl ⟨Nat.le_of_ble_eq_true rfl, Nat.le_of_ble_eq_true rfl⟩ ⟨Nat.le_of_ble_eq_true rfl, Nat.le_of_ble_eq_true rfl⟩ (Nat.le_of_ble_eq_true rfl) (fun X' hX => KX3_move hX)) rfl rfl rfl rfl hF ?_ (fun x102 h101 hF => ?_)
  · intro E h9 hF
    by_cases hE0 : E = "java/lang/IndexOutOfBoundsException"
    · rw [if_pos hE0] at hF
      subst hE0
      refine jx_h (i := 4) (len := 2) (pc2 := 15) (ls' := [(0, .ref a0), (1, .int x1), (2, .int x2), (3, .ref a3)]) [] [⟨0, 10, 17, 13⟩, ⟨0, 10, 21, 15⟩] ⟨0, 10, 13, 20⟩ (.astore 4) (by decide) rfl (fun z hz => nomatch hz) rfl (by decide) qw_99 (by decide) dL_move_13 (Or.inr ⟨rfl, rfl⟩) (by decide) rfl rfl ?_
      refine jj_iconst (v := (1 : Int32)) (pc' := 16) dL_move_15 rfl rfl ?_
      exact jj_retI (ty := .int) rfl rfl dL_move_16 ⟨Nat.le_of_ble_eq_true rfl, Nat.le_of_ble_eq_true rfl⟩ hF
    rw [if_neg hE0] at hF
    by_cases hE1 : E = "java/lang/IllegalArgumentException"
    · rw [if_pos hE1] at hF
      subst hE1
      refine jx_h (i := 4) (len := 2) (pc2 := 19) (ls' := [(0, .ref a0), (1, .int x1), (2, .int x2), (3, .ref a3)]) [⟨0, 10, 13, 20⟩] [⟨0, 10, 21, 15⟩] ⟨0, 10, 17, 13⟩ (.astore 4) (by decide) rfl (fun z hz => by simp only [List.mem_cons, List.not_mem_nil, or_false] at hz; subst hz; exact ⟨by decide, "java/lang/IndexOutOfBoundsException", qw_99, by decide, by decide⟩) rfl (by decide) qw_97 (by decide) dL_move_17 (Or.inr ⟨rfl, rfl⟩) (by decide) rfl rfl ?_
      refine jj_iconst (v := (2 : Int32)) (pc' := 20) dL_move_19 rfl rfl ?_
      exact jj_retI (ty := .int) rfl rfl dL_move_20 ⟨Nat.le_of_ble_eq_true rfl, Nat.le_of_ble_eq_true rfl⟩ hF
    rw [if_neg hE1] at hF
    by_cases hE2 : E = "java/lang/IllegalStateException"
    · rw [if_pos hE2] at hF
      subst hE2
      refine jx_h (i := 4) (len := 2) (pc2 := 23) (ls' := [(0, .ref a0), (1, .int x1), (2, .int x2), (3, .ref a3)]) [⟨0, 10, 13, 20⟩, ⟨0, 10, 17, 13⟩] [] ⟨0, 10, 21, 15⟩ (.astore 4) (by decide) rfl (fun z hz => by
            simp only [List.mem_cons, List.not_mem_nil, or_false] at hz
            rcases hz with rfl | rfl
            · exact ⟨by decide, "java/lang/IndexOutOfBoundsException", qw_99, by decide, by decide⟩
            · exact ⟨by decide, "java/lang/IllegalArgumentException", qw_97, by decide, by decide⟩) rfl (by decide) qw_98 (by decide) dL_move_21 (Or.inr ⟨rfl, rfl⟩) (by decide) rfl rfl ?_
      refine jj_iconst (v := (3 : Int32)) (pc' := 24) dL_move_23 rfl rfl ?_
      exact jj_retI (ty := .int) rfl rfl dL_move_24 ⟨Nat.le_of_ble_eq_true rfl, Nat.le_of_ble_eq_true rfl⟩ hF
    rw [if_neg hE2] at hF
    cases hF
  refine jj_i2l (pc' := 9) dL_move_8 rfl ?_
  refine jj_stL (pc' := 10) dL_move_9 rfl hF (fun h106 hF => ?_)
  refine jj_goto (tgt := 25) dL_move_10 rfl ?_
  refine jj_iconst (v := (0 : Int32)) (pc' := 26) dL_move_25 rfl rfl ?_
  exact jj_retI (ty := .int) rfl rfl dL_move_26 ⟨Nat.le_of_ble_eq_true rfl, Nat.le_of_ble_eq_true rfl⟩ hF
theorem KL_move {N : Nat} {a0 : Nat} {x1 : Int32} {x2 : Int32} {a3 : Nat} {h : jm_H} {X : jm_X} (hF : FL_move N a0 x1 x2 a3 h = some X) : jm_K M_L_move [.ref a0, .int x1, .int x2, .ref a3] h X := jk_ofH rfl (by decide +kernel) (by decide) rfl (Nat.le_of_ble_eq_true rfl) (JL_move hF)
set_option maxRecDepth 100000 in
set_option maxHeartbeats 4000000 in
theorem JL_guest {N : Nat} {a0 : Nat} {x1 : Int32} {x2 : Int32} {x3 : Int32} {a4 : Nat} {h : jm_H} {X : jm_X} (hF : FL_guest N a0 x1 x2 x3 a4 h = some X) : jm_J M_L_guest 0 [(0, .ref a0), (1, .int x1), (2, .int x2), (3, .int x3), (4, .ref a4)] [] h 0 0 X := by
  unfold FL_guest at hF
  refine jj_aload (j := 4) (i := 4) (pc' := 2) dL_guest_0 rfl rfl ?_
  refine jj_iconst (v := (0 : Int32)) (pc' := 3) dL_guest_2 rfl rfl ?_
  refine jj_aload_n (j := 0) (i := 0) (pc' := 4) dL_guest_3 rfl rfl rfl ?_
  refine jj_iload_n (j := 1) (i := 1) (pc' := 5) dL_guest_4 rfl rfl rfl ?_
  refine jj_iload_n (j := 2) (i := 2) (pc' := 6) dL_guest_5 rfl rfl rfl ?_
  refine jj_iload_n (j := 3) (i := 3) (pc' := 7) dL_guest_6 rfl rfl rfl ?_
  refine jj_tI (N := M_X3_guest) (kc' := 4) (ks' := 24) (pc' := 10) (jg_V (N := M_X3_guest) (ci := 3) (rest := [.int ((0 : Int32)), .ref a4]) (as := [.int x1, .int x2, .int x3]) cf_L_36 dL_guest_7 ⟨rfl, rfl⟩ rfl rfl ⟨Nat.le_of_ble_eq_true rfl, Nat.le_of_ble_eq_true rfl⟩ ⟨Nat.le_of_ble_eq_true rfl, Nat.le_of_ble_eq_true rfl⟩ (Nat.le_of_ble_eq_true rfl) (fun X' hX => KX3_guest hX)) rfl rfl rfl rfl hF ?_ (fun x102 h101 hF => ?_)
  · intro E h9 hF
    by_cases hE0 : E = "java/lang/IndexOutOfBoundsException"
    · rw [if_pos hE0] at hF
      subst hE0
      refine jx_h (i := 5) (len := 2) (pc2 := 17) (ls' := [(0, .ref a0), (1, .int x1), (2, .int x2), (3, .int x3), (4, .ref a4)]) [] [⟨0, 12, 19, 13⟩, ⟨0, 12, 23, 15⟩] ⟨0, 12, 15, 20⟩ (.astore 5) (by decide) rfl (fun z hz => nomatch hz) rfl (by decide) qw_99 (by decide) dL_guest_15 (Or.inr ⟨rfl, rfl⟩) (by decide) rfl rfl ?_
      refine jj_iconst (v := (1 : Int32)) (pc' := 18) dL_guest_17 rfl rfl ?_
      exact jj_retI (ty := .int) rfl rfl dL_guest_18 ⟨Nat.le_of_ble_eq_true rfl, Nat.le_of_ble_eq_true rfl⟩ hF
    rw [if_neg hE0] at hF
    by_cases hE1 : E = "java/lang/IllegalArgumentException"
    · rw [if_pos hE1] at hF
      subst hE1
      refine jx_h (i := 5) (len := 2) (pc2 := 21) (ls' := [(0, .ref a0), (1, .int x1), (2, .int x2), (3, .int x3), (4, .ref a4)]) [⟨0, 12, 15, 20⟩] [⟨0, 12, 23, 15⟩] ⟨0, 12, 19, 13⟩ (.astore 5) (by decide) rfl (fun z hz => by simp only [List.mem_cons, List.not_mem_nil, or_false] at hz; subst hz; exact ⟨by decide, "java/lang/IndexOutOfBoundsException", qw_99, by decide, by decide⟩) rfl (by decide) qw_97 (by decide) dL_guest_19 (Or.inr ⟨rfl, rfl⟩) (by decide) rfl rfl ?_
      refine jj_iconst (v := (2 : Int32)) (pc' := 22) dL_guest_21 rfl rfl ?_
      exact jj_retI (ty := .int) rfl rfl dL_guest_22 ⟨Nat.le_of_ble_eq_true rfl, Nat.le_of_ble_eq_true rfl⟩ hF
    rw [if_neg hE1] at hF
    by_cases hE2 : E = "java/lang/IllegalStateException"
    · rw [if_pos hE2] at hF
      subst hE2
      refine jx_h (i := 5) (len := 2) (pc2 := 25) (ls' := [(0, .ref a0), (1, .int x1), (2, .int x2), (3, .int x3), (4, .ref a4)]) [⟨0, 12, 15, 20⟩, ⟨0, 12, 19, 13⟩] [] ⟨0, 12, 23, 15⟩ (.astore 5) (by decide) rfl (fun z hz => by
            simp only [List.mem_cons, List.not_mem_nil, or_false] at hz
            rcases hz with rfl | rfl
            · exact ⟨by decide, "java/lang/IndexOutOfBoundsException", qw_99, by decide, by decide⟩
            · exact ⟨by decide, "java/lang/IllegalArgumentException", qw_97, by decide, by decide⟩) rfl (by decide) qw_98 (by decide) dL_guest_23 (Or.inr ⟨rfl, rfl⟩) (by decide) rfl rfl ?_
      refine jj_iconst (v := (3 : Int32)) (pc' := 26) dL_guest_25 rfl rfl ?_
      exact jj_retI (ty := .int) rfl rfl dL_guest_26 ⟨Nat.le_of_ble_eq_true rfl, Nat.le_of_ble_eq_true rfl⟩ hF
    rw [if_neg hE2] at hF
    cases hF
  refine jj_i2l (pc' := 11) dL_guest_10 rfl ?_
  refine jj_stL (pc' := 12) dL_guest_11 rfl hF (fun h106 hF => ?_)
  refine jj_goto (tgt := 27) dL_guest_12 rfl ?_
  refine jj_iconst (v := (0 : Int32)) (pc' := 28) dL_guest_27 rfl rfl ?_
  exact jj_retI (ty := .int) rfl rfl dL_guest_28 ⟨Nat.le_of_ble_eq_true rfl, Nat.le_of_ble_eq_true rfl⟩ hF
theorem KL_guest {N : Nat} {a0 : Nat} {x1 : Int32} {x2 : Int32} {x3 : Int32} {a4 : Nat} {h : jm_H} {X : jm_X} (hF : FL_guest N a0 x1 x2 x3 a4 h = some X) : jm_K M_L_guest [.ref a0, .int x1, .int x2, .int x3, .ref a4] h X := jk_ofH rfl (by decide +kernel) (by decide) rfl (Nat.le_of_ble_eq_true rfl) (JL_guest hF)
set_option maxRecDepth 100000 in
set_option maxHeartbeats 4000000 in
theorem JL_attend {N : Nat} {a0 : Nat} {x1 : Int32} {x2 : Int32} {a3 : Nat} {h : jm_H} {X : jm_X} (hF : FL_attend N a0 x1 x2 a3 h = some X) : jm_J M_L_attend 0 [(0, .ref a0), (1, .int x1), (2, .int x2), (3, .ref a3)] [] h 0 0 X := by
  unfold FL_attend at hF
  refine jj_aload_n (j := 3) (i := 3) (pc' := 1) dL_attend_0 rfl rfl rfl ?_
  refine jj_iconst (v := (0 : Int32)) (pc' := 2) dL_attend_1 rfl rfl ?_
  refine jj_aload_n (j := 0) (i := 0) (pc' := 3) dL_attend_2 rfl rfl rfl ?_
  refine jj_iload_n (j := 1) (i := 1) (pc' := 4) dL_attend_3 rfl rfl rfl ?_
  refine jj_iload_n (j := 2) (i := 2) (pc' := 5) dL_attend_4 rfl rfl rfl ?_
  refine jj_tI (N := M_X3_attend) (kc' := 3) (ks' := 18) (pc' := 8) (jg_V (N := M_X3_attend) (ci := 3) (rest := [.int ((0 : Int32)), .ref a3]) (as := [.int x1, .int x2]) cf_L_40 dL_attend_5 ⟨rfl, rfl⟩ rfl rfl ⟨Nat.le_of_ble_eq_true rfl, Nat.le_of_ble_eq_true rfl⟩ ⟨Nat.le_of_ble_eq_true rfl, Nat.le_of_ble_eq_true rfl⟩ (Nat.le_of_ble_eq_true rfl) (fun X' hX => KX3_attend hX)) rfl rfl rfl rfl hF ?_ (fun x102 h101 hF => ?_)
  · intro E h9 hF
    by_cases hE0 : E = "java/lang/IndexOutOfBoundsException"
    · rw [if_pos hE0] at hF
      subst hE0
      refine jx_h (i := 4) (len := 2) (pc2 := 15) (ls' := [(0, .ref a0), (1, .int x1), (2, .int x2), (3, .ref a3)]) [] [⟨0, 10, 17, 15⟩] ⟨0, 10, 13, 20⟩ (.astore 4) (by decide) rfl (fun z hz => nomatch hz) rfl (by decide) qw_99 (by decide) dL_attend_13 (Or.inr ⟨rfl, rfl⟩) (by decide) rfl rfl ?_
      refine jj_iconst (v := (1 : Int32)) (pc' := 16) dL_attend_15 rfl rfl ?_
      exact jj_retI (ty := .int) rfl rfl dL_attend_16 ⟨Nat.le_of_ble_eq_true rfl, Nat.le_of_ble_eq_true rfl⟩ hF
    rw [if_neg hE0] at hF
    by_cases hE1 : E = "java/lang/IllegalStateException"
    · rw [if_pos hE1] at hF
      subst hE1
      refine jx_h (i := 4) (len := 2) (pc2 := 19) (ls' := [(0, .ref a0), (1, .int x1), (2, .int x2), (3, .ref a3)]) [⟨0, 10, 13, 20⟩] [] ⟨0, 10, 17, 15⟩ (.astore 4) (by decide) rfl (fun z hz => by simp only [List.mem_cons, List.not_mem_nil, or_false] at hz; subst hz; exact ⟨by decide, "java/lang/IndexOutOfBoundsException", qw_99, by decide, by decide⟩) rfl (by decide) qw_98 (by decide) dL_attend_17 (Or.inr ⟨rfl, rfl⟩) (by decide) rfl rfl ?_
      refine jj_iconst (v := (2 : Int32)) (pc' := 20) dL_attend_19 rfl rfl ?_
      exact jj_retI (ty := .int) rfl rfl dL_attend_20 ⟨Nat.le_of_ble_eq_true rfl, Nat.le_of_ble_eq_true rfl⟩ hF
    rw [if_neg hE1] at hF
    cases hF
  refine jj_i2l (pc' := 9) dL_attend_8 rfl ?_
  refine jj_stL (pc' := 10) dL_attend_9 rfl hF (fun h105 hF => ?_)
  refine jj_goto (tgt := 21) dL_attend_10 rfl ?_
  refine jj_iconst (v := (0 : Int32)) (pc' := 22) dL_attend_21 rfl rfl ?_
  exact jj_retI (ty := .int) rfl rfl dL_attend_22 ⟨Nat.le_of_ble_eq_true rfl, Nat.le_of_ble_eq_true rfl⟩ hF
theorem KL_attend {N : Nat} {a0 : Nat} {x1 : Int32} {x2 : Int32} {a3 : Nat} {h : jm_H} {X : jm_X} (hF : FL_attend N a0 x1 x2 a3 h = some X) : jm_K M_L_attend [.ref a0, .int x1, .int x2, .ref a3] h X := jk_ofH rfl (by decide +kernel) (by decide) rfl (Nat.le_of_ble_eq_true rfl) (JL_attend hF)
set_option maxRecDepth 100000 in
set_option maxHeartbeats 4000000 in
theorem JL_vote {N : Nat} {a0 : Nat} {x1 : Int32} {x2 : Int32} {x3 : Int32} {a4 : Nat} {h : jm_H} {X : jm_X} (hF : FL_vote N a0 x1 x2 x3 a4 h = some X) : jm_J M_L_vote 0 [(0, .ref a0), (1, .int x1), (2, .int x2), (3, .int x3), (4, .ref a4)] [] h 0 0 X := by
  unfold FL_vote at hF
  refine jj_aload (j := 4) (i := 4) (pc' := 2) dL_vote_0 rfl rfl ?_
  refine jj_iconst (v := (0 : Int32)) (pc' := 3) dL_vote_2 rfl rfl ?_
  refine jj_aload_n (j := 0) (i := 0) (pc' := 4) dL_vote_3 rfl rfl rfl ?_
  refine jj_iload_n (j := 1) (i := 1) (pc' := 5) dL_vote_4 rfl rfl rfl ?_
  refine jj_iload_n (j := 2) (i := 2) (pc' := 6) dL_vote_5 rfl rfl rfl ?_
  refine jj_iload_n (j := 3) (i := 3) (pc' := 7) dL_vote_6 rfl rfl rfl ?_
  refine jj_tI (N := M_X3_vote) (kc' := 4) (ks' := 24) (pc' := 10) (jg_V (N := M_X3_vote) (ci := 3) (rest := [.int ((0 : Int32)), .ref a4]) (as := [.int x1, .int x2, .int x3]) cf_L_43 dL_vote_7 ⟨rfl, rfl⟩ rfl rfl ⟨Nat.le_of_ble_eq_true rfl, Nat.le_of_ble_eq_true rfl⟩ ⟨Nat.le_of_ble_eq_true rfl, Nat.le_of_ble_eq_true rfl⟩ (Nat.le_of_ble_eq_true rfl) (fun X' hX => KX3_vote hX)) rfl rfl rfl rfl hF ?_ (fun x102 h101 hF => ?_)
  · intro E h9 hF
    by_cases hE0 : E = "java/lang/IndexOutOfBoundsException"
    · rw [if_pos hE0] at hF
      subst hE0
      refine jx_h (i := 5) (len := 2) (pc2 := 17) (ls' := [(0, .ref a0), (1, .int x1), (2, .int x2), (3, .int x3), (4, .ref a4)]) [] [⟨0, 12, 19, 13⟩, ⟨0, 12, 23, 15⟩] ⟨0, 12, 15, 20⟩ (.astore 5) (by decide) rfl (fun z hz => nomatch hz) rfl (by decide) qw_99 (by decide) dL_vote_15 (Or.inr ⟨rfl, rfl⟩) (by decide) rfl rfl ?_
      refine jj_iconst (v := (1 : Int32)) (pc' := 18) dL_vote_17 rfl rfl ?_
      exact jj_retI (ty := .int) rfl rfl dL_vote_18 ⟨Nat.le_of_ble_eq_true rfl, Nat.le_of_ble_eq_true rfl⟩ hF
    rw [if_neg hE0] at hF
    by_cases hE1 : E = "java/lang/IllegalArgumentException"
    · rw [if_pos hE1] at hF
      subst hE1
      refine jx_h (i := 5) (len := 2) (pc2 := 21) (ls' := [(0, .ref a0), (1, .int x1), (2, .int x2), (3, .int x3), (4, .ref a4)]) [⟨0, 12, 15, 20⟩] [⟨0, 12, 23, 15⟩] ⟨0, 12, 19, 13⟩ (.astore 5) (by decide) rfl (fun z hz => by simp only [List.mem_cons, List.not_mem_nil, or_false] at hz; subst hz; exact ⟨by decide, "java/lang/IndexOutOfBoundsException", qw_99, by decide, by decide⟩) rfl (by decide) qw_97 (by decide) dL_vote_19 (Or.inr ⟨rfl, rfl⟩) (by decide) rfl rfl ?_
      refine jj_iconst (v := (2 : Int32)) (pc' := 22) dL_vote_21 rfl rfl ?_
      exact jj_retI (ty := .int) rfl rfl dL_vote_22 ⟨Nat.le_of_ble_eq_true rfl, Nat.le_of_ble_eq_true rfl⟩ hF
    rw [if_neg hE1] at hF
    by_cases hE2 : E = "java/lang/IllegalStateException"
    · rw [if_pos hE2] at hF
      subst hE2
      refine jx_h (i := 5) (len := 2) (pc2 := 25) (ls' := [(0, .ref a0), (1, .int x1), (2, .int x2), (3, .int x3), (4, .ref a4)]) [⟨0, 12, 15, 20⟩, ⟨0, 12, 19, 13⟩] [] ⟨0, 12, 23, 15⟩ (.astore 5) (by decide) rfl (fun z hz => by
            simp only [List.mem_cons, List.not_mem_nil, or_false] at hz
            rcases hz with rfl | rfl
            · exact ⟨by decide, "java/lang/IndexOutOfBoundsException", qw_99, by decide, by decide⟩
            · exact ⟨by decide, "java/lang/IllegalArgumentException", qw_97, by decide, by decide⟩) rfl (by decide) qw_98 (by decide) dL_vote_23 (Or.inr ⟨rfl, rfl⟩) (by decide) rfl rfl ?_
      refine jj_iconst (v := (3 : Int32)) (pc' := 26) dL_vote_25 rfl rfl ?_
      exact jj_retI (ty := .int) rfl rfl dL_vote_26 ⟨Nat.le_of_ble_eq_true rfl, Nat.le_of_ble_eq_true rfl⟩ hF
    rw [if_neg hE2] at hF
    cases hF
  refine jj_i2l (pc' := 11) dL_vote_10 rfl ?_
  refine jj_stL (pc' := 12) dL_vote_11 rfl hF (fun h106 hF => ?_)
  refine jj_goto (tgt := 27) dL_vote_12 rfl ?_
  refine jj_iconst (v := (0 : Int32)) (pc' := 28) dL_vote_27 rfl rfl ?_
  exact jj_retI (ty := .int) rfl rfl dL_vote_28 ⟨Nat.le_of_ble_eq_true rfl, Nat.le_of_ble_eq_true rfl⟩ hF
theorem KL_vote {N : Nat} {a0 : Nat} {x1 : Int32} {x2 : Int32} {x3 : Int32} {a4 : Nat} {h : jm_H} {X : jm_X} (hF : FL_vote N a0 x1 x2 x3 a4 h = some X) : jm_K M_L_vote [.ref a0, .int x1, .int x2, .int x3, .ref a4] h X := jk_ofH rfl (by decide +kernel) (by decide) rfl (Nat.le_of_ble_eq_true rfl) (JL_vote hF)
set_option maxRecDepth 100000 in
set_option maxHeartbeats 4000000 in
theorem JL_append {a0 : Nat} {x1 : Int32} {a2 : Nat} {h : jm_H} {X : jm_X} (hF : FL_append a0 x1 a2 h = some X) : jm_J M_L_append 0 [(0, .ref a0), (1, .int x1), (2, .ref a2)] [] h 0 0 X := by
  unfold FL_append at hF
  refine jj_aload_n (j := 2) (i := 2) (pc' := 1) dL_append_0 rfl rfl rfl ?_
  refine jj_iconst (v := (0 : Int32)) (pc' := 2) dL_append_1 rfl rfl ?_
  refine jj_aload_n (j := 0) (i := 0) (pc' := 3) dL_append_2 rfl rfl rfl ?_
  refine jj_iload_n (j := 1) (i := 1) (pc' := 4) dL_append_3 rfl rfl rfl ?_
  refine jj_tI (N := M_X3_append) (kc' := 2) (ks' := 12) (pc' := 7) (jg_V (N := M_X3_append) (ci := 3) (rest := [.int ((0 : Int32)), .ref a2]) (as := [.int x1]) cf_L_46 dL_append_4 ⟨rfl, rfl⟩ rfl rfl ⟨Nat.le_of_ble_eq_true rfl, Nat.le_of_ble_eq_true rfl⟩ ⟨Nat.le_of_ble_eq_true rfl, Nat.le_of_ble_eq_true rfl⟩ (Nat.le_of_ble_eq_true rfl) (fun X' hX => KX3_append hX)) rfl rfl rfl rfl hF ?_ (fun x102 h101 hF => ?_)
  · intro E h9 hF
    by_cases hE0 : E = "java/lang/IllegalArgumentException"
    · rw [if_pos hE0] at hF
      subst hE0
      refine jx_h (i := 3) (len := 1) (pc2 := 13) (ls' := [(0, .ref a0), (1, .int x1), (2, .ref a2)]) [] [⟨0, 9, 15, 15⟩] ⟨0, 9, 12, 13⟩ (.astore_n 3) (by decide) rfl (fun z hz => nomatch hz) rfl (by decide) qw_97 (by decide) dL_append_12 (Or.inl ⟨_, rfl, rfl, rfl⟩) (by decide) rfl rfl ?_
      refine jj_iconst (v := (1 : Int32)) (pc' := 14) dL_append_13 rfl rfl ?_
      exact jj_retI (ty := .int) rfl rfl dL_append_14 ⟨Nat.le_of_ble_eq_true rfl, Nat.le_of_ble_eq_true rfl⟩ hF
    rw [if_neg hE0] at hF
    by_cases hE1 : E = "java/lang/IllegalStateException"
    · rw [if_pos hE1] at hF
      subst hE1
      refine jx_h (i := 3) (len := 1) (pc2 := 16) (ls' := [(0, .ref a0), (1, .int x1), (2, .ref a2)]) [⟨0, 9, 12, 13⟩] [] ⟨0, 9, 15, 15⟩ (.astore_n 3) (by decide) rfl (fun z hz => by simp only [List.mem_cons, List.not_mem_nil, or_false] at hz; subst hz; exact ⟨by decide, "java/lang/IllegalArgumentException", qw_97, by decide, by decide⟩) rfl (by decide) qw_98 (by decide) dL_append_15 (Or.inl ⟨_, rfl, rfl, rfl⟩) (by decide) rfl rfl ?_
      refine jj_iconst (v := (2 : Int32)) (pc' := 17) dL_append_16 rfl rfl ?_
      exact jj_retI (ty := .int) rfl rfl dL_append_17 ⟨Nat.le_of_ble_eq_true rfl, Nat.le_of_ble_eq_true rfl⟩ hF
    rw [if_neg hE1] at hF
    cases hF
  refine jj_i2l (pc' := 8) dL_append_7 rfl ?_
  refine jj_stL (pc' := 9) dL_append_8 rfl hF (fun h105 hF => ?_)
  refine jj_goto (tgt := 18) dL_append_9 rfl ?_
  refine jj_iconst (v := (0 : Int32)) (pc' := 19) dL_append_18 rfl rfl ?_
  exact jj_retI (ty := .int) rfl rfl dL_append_19 ⟨Nat.le_of_ble_eq_true rfl, Nat.le_of_ble_eq_true rfl⟩ hF
theorem KL_append {a0 : Nat} {x1 : Int32} {a2 : Nat} {h : jm_H} {X : jm_X} (hF : FL_append a0 x1 a2 h = some X) : jm_K M_L_append [.ref a0, .int x1, .ref a2] h X := jk_ofH rfl (by decide +kernel) (by decide) rfl (Nat.le_of_ble_eq_true rfl) (JL_append hF)
set_option maxRecDepth 100000 in
set_option maxHeartbeats 4000000 in
theorem JL_program {N : Nat} {a0 : Nat} {a1 : Nat} {h : jm_H} {X : jm_X} (hF : FL_program N a0 a1 h = some X) : jm_J M_L_program 0 [(0, .ref a0), (1, .ref a1)] [] h 0 0 X := by
  unfold FL_program at hF
  refine jj_aload_n (j := 1) (i := 1) (pc' := 1) dL_program_0 rfl rfl rfl ?_
  refine jj_iconst (v := (0 : Int32)) (pc' := 2) dL_program_1 rfl rfl ?_
  refine jj_aload_n (j := 0) (i := 0) (pc' := 3) dL_program_2 rfl rfl rfl ?_
  refine jj_tI (N := M_X3_program) (kc' := 1) (ks' := 6) (pc' := 6) (jg_V (N := M_X3_program) (ci := 3) (rest := [.int ((0 : Int32)), .ref a1]) (as := []) cf_L_49 dL_program_3 ⟨rfl, rfl⟩ rfl rfl ⟨Nat.le_of_ble_eq_true rfl, Nat.le_of_ble_eq_true rfl⟩ ⟨Nat.le_of_ble_eq_true rfl, Nat.le_of_ble_eq_true rfl⟩ (Nat.le_of_ble_eq_true rfl) (fun X' hX => KX3_program hX)) rfl rfl rfl rfl hF ?_ (fun x102 h101 hF => ?_)
  · intro E h9 hF
    by_cases hE0 : E = "java/lang/IllegalArgumentException"
    · rw [if_pos hE0] at hF
      subst hE0
      refine jx_h (i := 2) (len := 1) (pc2 := 12) (ls' := [(0, .ref a0), (1, .ref a1)]) [] [] ⟨0, 8, 11, 13⟩ (.astore_n 2) (by decide) rfl (fun z hz => nomatch hz) rfl (by decide) qw_97 (by decide) dL_program_11 (Or.inl ⟨_, rfl, rfl, rfl⟩) (by decide) rfl rfl ?_
      refine jj_iconst (v := (1 : Int32)) (pc' := 13) dL_program_12 rfl rfl ?_
      exact jj_retI (ty := .int) rfl rfl dL_program_13 ⟨Nat.le_of_ble_eq_true rfl, Nat.le_of_ble_eq_true rfl⟩ hF
    rw [if_neg hE0] at hF
    cases hF
  refine jj_i2l (pc' := 7) dL_program_6 rfl ?_
  refine jj_stL (pc' := 8) dL_program_7 rfl hF (fun h104 hF => ?_)
  refine jj_goto (tgt := 14) dL_program_8 rfl ?_
  refine jj_iconst (v := (0 : Int32)) (pc' := 15) dL_program_14 rfl rfl ?_
  exact jj_retI (ty := .int) rfl rfl dL_program_15 ⟨Nat.le_of_ble_eq_true rfl, Nat.le_of_ble_eq_true rfl⟩ hF
theorem KL_program {N : Nat} {a0 : Nat} {a1 : Nat} {h : jm_H} {X : jm_X} (hF : FL_program N a0 a1 h = some X) : jm_K M_L_program [.ref a0, .ref a1] h X := jk_ofH rfl (by decide +kernel) (by decide) rfl (Nat.le_of_ble_eq_true rfl) (JL_program hF)
set_option maxRecDepth 100000 in
set_option maxHeartbeats 4000000 in
theorem JL_stopped {a0 : Nat} {x1 : Int32} {a2 : Nat} {h : jm_H} {X : jm_X} (hF : FL_stopped a0 x1 a2 h = some X) : jm_J M_L_stopped 0 [(0, .ref a0), (1, .int x1), (2, .ref a2)] [] h 0 0 X := by
  unfold FL_stopped at hF
  refine jj_aload_n (j := 2) (i := 2) (pc' := 1) dL_stopped_0 rfl rfl rfl ?_
  refine jj_iconst (v := (0 : Int32)) (pc' := 2) dL_stopped_1 rfl rfl ?_
  refine jj_aload_n (j := 0) (i := 0) (pc' := 3) dL_stopped_2 rfl rfl rfl ?_
  refine jj_iload_n (j := 1) (i := 1) (pc' := 4) dL_stopped_3 rfl rfl rfl ?_
  refine jj_tI (N := M_X3_stopped) (kc' := 1) (ks' := 6) (pc' := 7) (jg_V (N := M_X3_stopped) (ci := 3) (rest := [.int ((0 : Int32)), .ref a2]) (as := [.int x1]) cf_L_53 dL_stopped_4 ⟨rfl, rfl⟩ rfl rfl ⟨Nat.le_of_ble_eq_true rfl, Nat.le_of_ble_eq_true rfl⟩ ⟨Nat.le_of_ble_eq_true rfl, Nat.le_of_ble_eq_true rfl⟩ (Nat.le_of_ble_eq_true rfl) (fun X' hX => KX3_stopped hX)) rfl rfl rfl rfl hF ?_ (fun x102 h101 hF => ?_)
  · intro E h9 hF
    by_cases hE0 : E = "java/lang/IllegalArgumentException"
    · rw [if_pos hE0] at hF
      subst hE0
      refine jx_h (i := 3) (len := 1) (pc2 := 13) (ls' := [(0, .ref a0), (1, .int x1), (2, .ref a2)]) [] [] ⟨0, 9, 12, 13⟩ (.astore_n 3) (by decide) rfl (fun z hz => nomatch hz) rfl (by decide) qw_97 (by decide) dL_stopped_12 (Or.inl ⟨_, rfl, rfl, rfl⟩) (by decide) rfl rfl ?_
      refine jj_iconst (v := (1 : Int32)) (pc' := 14) dL_stopped_13 rfl rfl ?_
      exact jj_retI (ty := .int) rfl rfl dL_stopped_14 ⟨Nat.le_of_ble_eq_true rfl, Nat.le_of_ble_eq_true rfl⟩ hF
    rw [if_neg hE0] at hF
    cases hF
  refine jj_i2l (pc' := 8) dL_stopped_7 rfl ?_
  refine jj_stL (pc' := 9) dL_stopped_8 rfl hF (fun h104 hF => ?_)
  refine jj_goto (tgt := 15) dL_stopped_9 rfl ?_
  refine jj_iconst (v := (0 : Int32)) (pc' := 16) dL_stopped_15 rfl rfl ?_
  exact jj_retI (ty := .int) rfl rfl dL_stopped_16 ⟨Nat.le_of_ble_eq_true rfl, Nat.le_of_ble_eq_true rfl⟩ hF
theorem KL_stopped {a0 : Nat} {x1 : Int32} {a2 : Nat} {h : jm_H} {X : jm_X} (hF : FL_stopped a0 x1 a2 h = some X) : jm_K M_L_stopped [.ref a0, .int x1, .ref a2] h X := jk_ofH rfl (by decide +kernel) (by decide) rfl (Nat.le_of_ble_eq_true rfl) (JL_stopped hF)
set_option maxRecDepth 100000 in
set_option maxHeartbeats 4000000 in
theorem JL_undo {a0 : Nat} {a1 : Nat} {h : jm_H} {X : jm_X} (hF : FL_undo a0 a1 h = some X) : jm_J M_L_undo 0 [(0, .ref a0), (1, .ref a1)] [] h 0 0 X := by
  unfold FL_undo at hF
  refine jj_aload_n (j := 1) (i := 1) (pc' := 1) dL_undo_0 rfl rfl rfl ?_
  refine jj_iconst (v := (0 : Int32)) (pc' := 2) dL_undo_1 rfl rfl ?_
  refine jj_aload_n (j := 0) (i := 0) (pc' := 3) dL_undo_2 rfl rfl rfl ?_
  refine jj_tI (N := M_X3_undo) (kc' := 1) (ks' := 6) (pc' := 6) (jg_V (N := M_X3_undo) (ci := 3) (rest := [.int ((0 : Int32)), .ref a1]) (as := []) cf_L_56 dL_undo_3 ⟨rfl, rfl⟩ rfl rfl ⟨Nat.le_of_ble_eq_true rfl, Nat.le_of_ble_eq_true rfl⟩ ⟨Nat.le_of_ble_eq_true rfl, Nat.le_of_ble_eq_true rfl⟩ (Nat.le_of_ble_eq_true rfl) (fun X' hX => KX3_undo hX)) rfl rfl rfl rfl hF ?_ (fun x102 h101 hF => ?_)
  · intro E h9 hF
    by_cases hE0 : E = "java/lang/IllegalStateException"
    · rw [if_pos hE0] at hF
      subst hE0
      refine jx_h (i := 2) (len := 1) (pc2 := 12) (ls' := [(0, .ref a0), (1, .ref a1)]) [] [] ⟨0, 8, 11, 15⟩ (.astore_n 2) (by decide) rfl (fun z hz => nomatch hz) rfl (by decide) qw_98 (by decide) dL_undo_11 (Or.inl ⟨_, rfl, rfl, rfl⟩) (by decide) rfl rfl ?_
      refine jj_iconst (v := (1 : Int32)) (pc' := 13) dL_undo_12 rfl rfl ?_
      exact jj_retI (ty := .int) rfl rfl dL_undo_13 ⟨Nat.le_of_ble_eq_true rfl, Nat.le_of_ble_eq_true rfl⟩ hF
    rw [if_neg hE0] at hF
    cases hF
  refine jj_i2l (pc' := 7) dL_undo_6 rfl ?_
  refine jj_stL (pc' := 8) dL_undo_7 rfl hF (fun h104 hF => ?_)
  refine jj_goto (tgt := 14) dL_undo_8 rfl ?_
  refine jj_iconst (v := (0 : Int32)) (pc' := 15) dL_undo_14 rfl rfl ?_
  exact jj_retI (ty := .int) rfl rfl dL_undo_15 ⟨Nat.le_of_ble_eq_true rfl, Nat.le_of_ble_eq_true rfl⟩ hF
theorem KL_undo {a0 : Nat} {a1 : Nat} {h : jm_H} {X : jm_X} (hF : FL_undo a0 a1 h = some X) : jm_K M_L_undo [.ref a0, .ref a1] h X := jk_ofH rfl (by decide +kernel) (by decide) rfl (Nat.le_of_ble_eq_true rfl) (JL_undo hF)
set_option maxRecDepth 100000 in
set_option maxHeartbeats 4000000 in
theorem JL_restore {N : Nat} {a0 : Nat} {a1 : Nat} {h : jm_H} {X : jm_X} (hF : FL_restore N a0 a1 h = some X) : jm_J M_L_restore 0 [(0, .ref a0), (1, .ref a1)] [] h 0 0 X := by
  unfold FL_restore at hF
  refine jj_aload_n (j := 1) (i := 1) (pc' := 1) dL_restore_0 rfl rfl rfl ?_
  refine jj_iconst (v := (0 : Int32)) (pc' := 2) dL_restore_1 rfl rfl ?_
  refine jj_aload_n (j := 0) (i := 0) (pc' := 3) dL_restore_2 rfl rfl rfl ?_
  refine jj_tI (N := M_X3_restore) (kc' := 1) (ks' := 6) (pc' := 6) (jg_V (N := M_X3_restore) (ci := 3) (rest := [.int ((0 : Int32)), .ref a1]) (as := []) cf_L_59 dL_restore_3 ⟨rfl, rfl⟩ rfl rfl ⟨Nat.le_of_ble_eq_true rfl, Nat.le_of_ble_eq_true rfl⟩ ⟨Nat.le_of_ble_eq_true rfl, Nat.le_of_ble_eq_true rfl⟩ (Nat.le_of_ble_eq_true rfl) (fun X' hX => KX3_restore hX)) rfl rfl rfl rfl hF ?_ (fun x102 h101 hF => ?_)
  · intro E h9 hF
    by_cases hE0 : E = "java/lang/IllegalStateException"
    · rw [if_pos hE0] at hF
      subst hE0
      refine jx_h (i := 2) (len := 1) (pc2 := 12) (ls' := [(0, .ref a0), (1, .ref a1)]) [] [] ⟨0, 8, 11, 15⟩ (.astore_n 2) (by decide) rfl (fun z hz => nomatch hz) rfl (by decide) qw_98 (by decide) dL_restore_11 (Or.inl ⟨_, rfl, rfl, rfl⟩) (by decide) rfl rfl ?_
      refine jj_iconst (v := (1 : Int32)) (pc' := 13) dL_restore_12 rfl rfl ?_
      exact jj_retI (ty := .int) rfl rfl dL_restore_13 ⟨Nat.le_of_ble_eq_true rfl, Nat.le_of_ble_eq_true rfl⟩ hF
    rw [if_neg hE0] at hF
    cases hF
  refine jj_i2l (pc' := 7) dL_restore_6 rfl ?_
  refine jj_stL (pc' := 8) dL_restore_7 rfl hF (fun h104 hF => ?_)
  refine jj_goto (tgt := 14) dL_restore_8 rfl ?_
  refine jj_iconst (v := (0 : Int32)) (pc' := 15) dL_restore_14 rfl rfl ?_
  exact jj_retI (ty := .int) rfl rfl dL_restore_15 ⟨Nat.le_of_ble_eq_true rfl, Nat.le_of_ble_eq_true rfl⟩ hF
theorem KL_restore {N : Nat} {a0 : Nat} {a1 : Nat} {h : jm_H} {X : jm_X} (hF : FL_restore N a0 a1 h = some X) : jm_K M_L_restore [.ref a0, .ref a1] h X := jk_ofH rfl (by decide +kernel) (by decide) rfl (Nat.le_of_ble_eq_true rfl) (JL_restore hF)
set_option maxRecDepth 100000 in
set_option maxHeartbeats 4000000 in
theorem JL_filmOf {N : Nat} {a0 : Nat} {x1 : Int32} {x2 : Int32} {a3 : Nat} {h : jm_H} {X : jm_X} (hF : FL_filmOf N a0 x1 x2 a3 h = some X) : jm_J M_L_filmOf 0 [(0, .ref a0), (1, .int x1), (2, .int x2), (3, .ref a3)] [] h 0 0 X := by
  unfold FL_filmOf at hF
  refine jj_aload_n (j := 3) (i := 3) (pc' := 1) dL_filmOf_0 rfl rfl rfl ?_
  refine jj_iconst (v := (0 : Int32)) (pc' := 2) dL_filmOf_1 rfl rfl ?_
  refine jj_aload_n (j := 0) (i := 0) (pc' := 3) dL_filmOf_2 rfl rfl rfl ?_
  refine jj_iload_n (j := 1) (i := 1) (pc' := 4) dL_filmOf_3 rfl rfl rfl ?_
  refine jj_iload_n (j := 2) (i := 2) (pc' := 5) dL_filmOf_4 rfl rfl rfl ?_
  refine jj_tI (N := M_X3_filmOf) (kc' := 2) (ks' := 12) (pc' := 8) (jg_V (N := M_X3_filmOf) (ci := 3) (rest := [.int ((0 : Int32)), .ref a3]) (as := [.int x1, .int x2]) cf_L_62 dL_filmOf_5 ⟨rfl, rfl⟩ rfl rfl ⟨Nat.le_of_ble_eq_true rfl, Nat.le_of_ble_eq_true rfl⟩ ⟨Nat.le_of_ble_eq_true rfl, Nat.le_of_ble_eq_true rfl⟩ (Nat.le_of_ble_eq_true rfl) (fun X' hX => KX3_filmOf hX)) rfl rfl rfl rfl hF ?_ (fun x102 h101 hF => ?_)
  · intro E h9 hF
    by_cases hE0 : E = "java/lang/IndexOutOfBoundsException"
    · rw [if_pos hE0] at hF
      subst hE0
      refine jx_h (i := 4) (len := 2) (pc2 := 15) (ls' := [(0, .ref a0), (1, .int x1), (2, .int x2), (3, .ref a3)]) [] [⟨0, 10, 17, 13⟩] ⟨0, 10, 13, 20⟩ (.astore 4) (by decide) rfl (fun z hz => nomatch hz) rfl (by decide) qw_99 (by decide) dL_filmOf_13 (Or.inr ⟨rfl, rfl⟩) (by decide) rfl rfl ?_
      refine jj_iconst (v := (1 : Int32)) (pc' := 16) dL_filmOf_15 rfl rfl ?_
      exact jj_retI (ty := .int) rfl rfl dL_filmOf_16 ⟨Nat.le_of_ble_eq_true rfl, Nat.le_of_ble_eq_true rfl⟩ hF
    rw [if_neg hE0] at hF
    by_cases hE1 : E = "java/lang/IllegalArgumentException"
    · rw [if_pos hE1] at hF
      subst hE1
      refine jx_h (i := 4) (len := 2) (pc2 := 19) (ls' := [(0, .ref a0), (1, .int x1), (2, .int x2), (3, .ref a3)]) [⟨0, 10, 13, 20⟩] [] ⟨0, 10, 17, 13⟩ (.astore 4) (by decide) rfl (fun z hz => by simp only [List.mem_cons, List.not_mem_nil, or_false] at hz; subst hz; exact ⟨by decide, "java/lang/IndexOutOfBoundsException", qw_99, by decide, by decide⟩) rfl (by decide) qw_97 (by decide) dL_filmOf_17 (Or.inr ⟨rfl, rfl⟩) (by decide) rfl rfl ?_
      refine jj_iconst (v := (2 : Int32)) (pc' := 20) dL_filmOf_19 rfl rfl ?_
      exact jj_retI (ty := .int) rfl rfl dL_filmOf_20 ⟨Nat.le_of_ble_eq_true rfl, Nat.le_of_ble_eq_true rfl⟩ hF
    rw [if_neg hE1] at hF
    cases hF
  refine jj_i2l (pc' := 9) dL_filmOf_8 rfl ?_
  refine jj_stL (pc' := 10) dL_filmOf_9 rfl hF (fun h105 hF => ?_)
  refine jj_goto (tgt := 21) dL_filmOf_10 rfl ?_
  refine jj_iconst (v := (0 : Int32)) (pc' := 22) dL_filmOf_21 rfl rfl ?_
  exact jj_retI (ty := .int) rfl rfl dL_filmOf_22 ⟨Nat.le_of_ble_eq_true rfl, Nat.le_of_ble_eq_true rfl⟩ hF
theorem KL_filmOf {N : Nat} {a0 : Nat} {x1 : Int32} {x2 : Int32} {a3 : Nat} {h : jm_H} {X : jm_X} (hF : FL_filmOf N a0 x1 x2 a3 h = some X) : jm_K M_L_filmOf [.ref a0, .int x1, .int x2, .ref a3] h X := jk_ofH rfl (by decide +kernel) (by decide) rfl (Nat.le_of_ble_eq_true rfl) (JL_filmOf hF)
set_option maxRecDepth 100000 in
set_option maxHeartbeats 4000000 in
theorem JL_showing {a0 : Nat} {x1 : Int32} {x2 : Int32} {a3 : Nat} {h : jm_H} {X : jm_X} (hF : FL_showing a0 x1 x2 a3 h = some X) : jm_J M_L_showing 0 [(0, .ref a0), (1, .int x1), (2, .int x2), (3, .ref a3)] [] h 0 0 X := by
  unfold FL_showing at hF
  refine jj_aload_n (j := 3) (i := 3) (pc' := 1) dL_showing_0 rfl rfl rfl ?_
  refine jj_iconst (v := (0 : Int32)) (pc' := 2) dL_showing_1 rfl rfl ?_
  refine jj_aload_n (j := 0) (i := 0) (pc' := 3) dL_showing_2 rfl rfl rfl ?_
  refine jj_iload_n (j := 1) (i := 1) (pc' := 4) dL_showing_3 rfl rfl rfl ?_
  refine jj_iload_n (j := 2) (i := 2) (pc' := 5) dL_showing_4 rfl rfl rfl ?_
  refine jj_tI (N := M_X3_showing) (kc' := 2) (ks' := 12) (pc' := 8) (jg_V (N := M_X3_showing) (ci := 3) (rest := [.int ((0 : Int32)), .ref a3]) (as := [.int x1, .int x2]) cf_L_65 dL_showing_5 ⟨rfl, rfl⟩ rfl rfl ⟨Nat.le_of_ble_eq_true rfl, Nat.le_of_ble_eq_true rfl⟩ ⟨Nat.le_of_ble_eq_true rfl, Nat.le_of_ble_eq_true rfl⟩ (Nat.le_of_ble_eq_true rfl) (fun X' hX => KX3_showing hX)) rfl rfl rfl rfl hF ?_ (fun x102 h101 hF => ?_)
  · intro E h9 hF
    by_cases hE0 : E = "java/lang/IndexOutOfBoundsException"
    · rw [if_pos hE0] at hF
      subst hE0
      refine jx_h (i := 4) (len := 2) (pc2 := 15) (ls' := [(0, .ref a0), (1, .int x1), (2, .int x2), (3, .ref a3)]) [] [⟨0, 10, 17, 13⟩] ⟨0, 10, 13, 20⟩ (.astore 4) (by decide) rfl (fun z hz => nomatch hz) rfl (by decide) qw_99 (by decide) dL_showing_13 (Or.inr ⟨rfl, rfl⟩) (by decide) rfl rfl ?_
      refine jj_iconst (v := (1 : Int32)) (pc' := 16) dL_showing_15 rfl rfl ?_
      exact jj_retI (ty := .int) rfl rfl dL_showing_16 ⟨Nat.le_of_ble_eq_true rfl, Nat.le_of_ble_eq_true rfl⟩ hF
    rw [if_neg hE0] at hF
    by_cases hE1 : E = "java/lang/IllegalArgumentException"
    · rw [if_pos hE1] at hF
      subst hE1
      refine jx_h (i := 4) (len := 2) (pc2 := 19) (ls' := [(0, .ref a0), (1, .int x1), (2, .int x2), (3, .ref a3)]) [⟨0, 10, 13, 20⟩] [] ⟨0, 10, 17, 13⟩ (.astore 4) (by decide) rfl (fun z hz => by simp only [List.mem_cons, List.not_mem_nil, or_false] at hz; subst hz; exact ⟨by decide, "java/lang/IndexOutOfBoundsException", qw_99, by decide, by decide⟩) rfl (by decide) qw_97 (by decide) dL_showing_17 (Or.inr ⟨rfl, rfl⟩) (by decide) rfl rfl ?_
      refine jj_iconst (v := (2 : Int32)) (pc' := 20) dL_showing_19 rfl rfl ?_
      exact jj_retI (ty := .int) rfl rfl dL_showing_20 ⟨Nat.le_of_ble_eq_true rfl, Nat.le_of_ble_eq_true rfl⟩ hF
    rw [if_neg hE1] at hF
    cases hF
  refine jj_i2l (pc' := 9) dL_showing_8 rfl ?_
  refine jj_stL (pc' := 10) dL_showing_9 rfl hF (fun h105 hF => ?_)
  refine jj_goto (tgt := 21) dL_showing_10 rfl ?_
  refine jj_iconst (v := (0 : Int32)) (pc' := 22) dL_showing_21 rfl rfl ?_
  exact jj_retI (ty := .int) rfl rfl dL_showing_22 ⟨Nat.le_of_ble_eq_true rfl, Nat.le_of_ble_eq_true rfl⟩ hF
theorem KL_showing {a0 : Nat} {x1 : Int32} {x2 : Int32} {a3 : Nat} {h : jm_H} {X : jm_X} (hF : FL_showing a0 x1 x2 a3 h = some X) : jm_K M_L_showing [.ref a0, .int x1, .int x2, .ref a3] h X := jk_ofH rfl (by decide +kernel) (by decide) rfl (Nat.le_of_ble_eq_true rfl) (JL_showing hF)
set_option maxRecDepth 100000 in
set_option maxHeartbeats 4000000 in
theorem JL_reel {a0 : Nat} {x1 : Int32} {x2 : Int32} {a3 : Nat} {h : jm_H} {X : jm_X} (hF : FL_reel a0 x1 x2 a3 h = some X) : jm_J M_L_reel 0 [(0, .ref a0), (1, .int x1), (2, .int x2), (3, .ref a3)] [] h 0 0 X := by
  unfold FL_reel at hF
  refine jj_aload_n (j := 3) (i := 3) (pc' := 1) dL_reel_0 rfl rfl rfl ?_
  refine jj_iconst (v := (0 : Int32)) (pc' := 2) dL_reel_1 rfl rfl ?_
  refine jj_aload_n (j := 0) (i := 0) (pc' := 3) dL_reel_2 rfl rfl rfl ?_
  refine jj_iload_n (j := 1) (i := 1) (pc' := 4) dL_reel_3 rfl rfl rfl ?_
  refine jj_iload_n (j := 2) (i := 2) (pc' := 5) dL_reel_4 rfl rfl rfl ?_
  refine jj_tI (N := M_X3_reel) (kc' := 2) (ks' := 12) (pc' := 8) (jg_V (N := M_X3_reel) (ci := 3) (rest := [.int ((0 : Int32)), .ref a3]) (as := [.int x1, .int x2]) cf_L_68 dL_reel_5 ⟨rfl, rfl⟩ rfl rfl ⟨Nat.le_of_ble_eq_true rfl, Nat.le_of_ble_eq_true rfl⟩ ⟨Nat.le_of_ble_eq_true rfl, Nat.le_of_ble_eq_true rfl⟩ (Nat.le_of_ble_eq_true rfl) (fun X' hX => KX3_reel hX)) rfl rfl rfl rfl hF ?_ (fun x102 h101 hF => ?_)
  · intro E h9 hF
    by_cases hE0 : E = "java/lang/IndexOutOfBoundsException"
    · rw [if_pos hE0] at hF
      subst hE0
      refine jx_h (i := 4) (len := 2) (pc2 := 15) (ls' := [(0, .ref a0), (1, .int x1), (2, .int x2), (3, .ref a3)]) [] [⟨0, 10, 17, 13⟩] ⟨0, 10, 13, 20⟩ (.astore 4) (by decide) rfl (fun z hz => nomatch hz) rfl (by decide) qw_99 (by decide) dL_reel_13 (Or.inr ⟨rfl, rfl⟩) (by decide) rfl rfl ?_
      refine jj_iconst (v := (1 : Int32)) (pc' := 16) dL_reel_15 rfl rfl ?_
      exact jj_retI (ty := .int) rfl rfl dL_reel_16 ⟨Nat.le_of_ble_eq_true rfl, Nat.le_of_ble_eq_true rfl⟩ hF
    rw [if_neg hE0] at hF
    by_cases hE1 : E = "java/lang/IllegalArgumentException"
    · rw [if_pos hE1] at hF
      subst hE1
      refine jx_h (i := 4) (len := 2) (pc2 := 19) (ls' := [(0, .ref a0), (1, .int x1), (2, .int x2), (3, .ref a3)]) [⟨0, 10, 13, 20⟩] [] ⟨0, 10, 17, 13⟩ (.astore 4) (by decide) rfl (fun z hz => by simp only [List.mem_cons, List.not_mem_nil, or_false] at hz; subst hz; exact ⟨by decide, "java/lang/IndexOutOfBoundsException", qw_99, by decide, by decide⟩) rfl (by decide) qw_97 (by decide) dL_reel_17 (Or.inr ⟨rfl, rfl⟩) (by decide) rfl rfl ?_
      refine jj_iconst (v := (2 : Int32)) (pc' := 20) dL_reel_19 rfl rfl ?_
      exact jj_retI (ty := .int) rfl rfl dL_reel_20 ⟨Nat.le_of_ble_eq_true rfl, Nat.le_of_ble_eq_true rfl⟩ hF
    rw [if_neg hE1] at hF
    cases hF
  refine jj_i2l (pc' := 9) dL_reel_8 rfl ?_
  refine jj_stL (pc' := 10) dL_reel_9 rfl hF (fun h105 hF => ?_)
  refine jj_goto (tgt := 21) dL_reel_10 rfl ?_
  refine jj_iconst (v := (0 : Int32)) (pc' := 22) dL_reel_21 rfl rfl ?_
  exact jj_retI (ty := .int) rfl rfl dL_reel_22 ⟨Nat.le_of_ble_eq_true rfl, Nat.le_of_ble_eq_true rfl⟩ hF
theorem KL_reel {a0 : Nat} {x1 : Int32} {x2 : Int32} {a3 : Nat} {h : jm_H} {X : jm_X} (hF : FL_reel a0 x1 x2 a3 h = some X) : jm_K M_L_reel [.ref a0, .int x1, .int x2, .ref a3] h X := jk_ofH rfl (by decide +kernel) (by decide) rfl (Nat.le_of_ble_eq_true rfl) (JL_reel hF)
set_option maxRecDepth 100000 in
set_option maxHeartbeats 4000000 in
theorem JL_runs {N : Nat} {a0 : Nat} {x1 : Int32} {x2 : Int32} {a3 : Nat} {h : jm_H} {X : jm_X} (hF : FL_runs N a0 x1 x2 a3 h = some X) : jm_J M_L_runs 0 [(0, .ref a0), (1, .int x1), (2, .int x2), (3, .ref a3)] [] h 0 0 X := by
  unfold FL_runs at hF
  refine jj_aload_n (j := 3) (i := 3) (pc' := 1) dL_runs_0 rfl rfl rfl ?_
  refine jj_iconst (v := (0 : Int32)) (pc' := 2) dL_runs_1 rfl rfl ?_
  refine jj_aload_n (j := 0) (i := 0) (pc' := 3) dL_runs_2 rfl rfl rfl ?_
  refine jj_iload_n (j := 1) (i := 1) (pc' := 4) dL_runs_3 rfl rfl rfl ?_
  refine jj_iload_n (j := 2) (i := 2) (pc' := 5) dL_runs_4 rfl rfl rfl ?_
  refine jj_tI (N := M_X3_runs) (kc' := 2) (ks' := 12) (pc' := 8) (jg_V (N := M_X3_runs) (ci := 3) (rest := [.int ((0 : Int32)), .ref a3]) (as := [.int x1, .int x2]) cf_L_71 dL_runs_5 ⟨rfl, rfl⟩ rfl rfl ⟨Nat.le_of_ble_eq_true rfl, Nat.le_of_ble_eq_true rfl⟩ ⟨Nat.le_of_ble_eq_true rfl, Nat.le_of_ble_eq_true rfl⟩ (Nat.le_of_ble_eq_true rfl) (fun X' hX => KX3_runs hX)) rfl rfl rfl rfl hF ?_ (fun x102 h101 hF => ?_)
  · intro E h9 hF
    by_cases hE0 : E = "java/lang/IndexOutOfBoundsException"
    · rw [if_pos hE0] at hF
      subst hE0
      refine jx_h (i := 4) (len := 2) (pc2 := 15) (ls' := [(0, .ref a0), (1, .int x1), (2, .int x2), (3, .ref a3)]) [] [⟨0, 10, 17, 13⟩] ⟨0, 10, 13, 20⟩ (.astore 4) (by decide) rfl (fun z hz => nomatch hz) rfl (by decide) qw_99 (by decide) dL_runs_13 (Or.inr ⟨rfl, rfl⟩) (by decide) rfl rfl ?_
      refine jj_iconst (v := (1 : Int32)) (pc' := 16) dL_runs_15 rfl rfl ?_
      exact jj_retI (ty := .int) rfl rfl dL_runs_16 ⟨Nat.le_of_ble_eq_true rfl, Nat.le_of_ble_eq_true rfl⟩ hF
    rw [if_neg hE0] at hF
    by_cases hE1 : E = "java/lang/IllegalArgumentException"
    · rw [if_pos hE1] at hF
      subst hE1
      refine jx_h (i := 4) (len := 2) (pc2 := 19) (ls' := [(0, .ref a0), (1, .int x1), (2, .int x2), (3, .ref a3)]) [⟨0, 10, 13, 20⟩] [] ⟨0, 10, 17, 13⟩ (.astore 4) (by decide) rfl (fun z hz => by simp only [List.mem_cons, List.not_mem_nil, or_false] at hz; subst hz; exact ⟨by decide, "java/lang/IndexOutOfBoundsException", qw_99, by decide, by decide⟩) rfl (by decide) qw_97 (by decide) dL_runs_17 (Or.inr ⟨rfl, rfl⟩) (by decide) rfl rfl ?_
      refine jj_iconst (v := (2 : Int32)) (pc' := 20) dL_runs_19 rfl rfl ?_
      exact jj_retI (ty := .int) rfl rfl dL_runs_20 ⟨Nat.le_of_ble_eq_true rfl, Nat.le_of_ble_eq_true rfl⟩ hF
    rw [if_neg hE1] at hF
    cases hF
  refine jj_i2l (pc' := 9) dL_runs_8 rfl ?_
  refine jj_stL (pc' := 10) dL_runs_9 rfl hF (fun h105 hF => ?_)
  refine jj_goto (tgt := 21) dL_runs_10 rfl ?_
  refine jj_iconst (v := (0 : Int32)) (pc' := 22) dL_runs_21 rfl rfl ?_
  exact jj_retI (ty := .int) rfl rfl dL_runs_22 ⟨Nat.le_of_ble_eq_true rfl, Nat.le_of_ble_eq_true rfl⟩ hF
theorem KL_runs {N : Nat} {a0 : Nat} {x1 : Int32} {x2 : Int32} {a3 : Nat} {h : jm_H} {X : jm_X} (hF : FL_runs N a0 x1 x2 a3 h = some X) : jm_K M_L_runs [.ref a0, .int x1, .int x2, .ref a3] h X := jk_ofH rfl (by decide +kernel) (by decide) rfl (Nat.le_of_ble_eq_true rfl) (JL_runs hF)
set_option maxRecDepth 100000 in
set_option maxHeartbeats 4000000 in
theorem JL_screen {N : Nat} {a0 : Nat} {x1 : Int32} {x2 : Int32} {a3 : Nat} {h : jm_H} {X : jm_X} (hF : FL_screen N a0 x1 x2 a3 h = some X) : jm_J M_L_screen 0 [(0, .ref a0), (1, .int x1), (2, .int x2), (3, .ref a3)] [] h 0 0 X := by
  unfold FL_screen at hF
  refine jj_aload_n (j := 3) (i := 3) (pc' := 1) dL_screen_0 rfl rfl rfl ?_
  refine jj_iconst (v := (0 : Int32)) (pc' := 2) dL_screen_1 rfl rfl ?_
  refine jj_aload_n (j := 0) (i := 0) (pc' := 3) dL_screen_2 rfl rfl rfl ?_
  refine jj_iload_n (j := 1) (i := 1) (pc' := 4) dL_screen_3 rfl rfl rfl ?_
  refine jj_iload_n (j := 2) (i := 2) (pc' := 5) dL_screen_4 rfl rfl rfl ?_
  refine jj_tI (N := M_X3_screen) (kc' := 2) (ks' := 12) (pc' := 8) (jg_V (N := M_X3_screen) (ci := 3) (rest := [.int ((0 : Int32)), .ref a3]) (as := [.int x1, .int x2]) cf_L_74 dL_screen_5 ⟨rfl, rfl⟩ rfl rfl ⟨Nat.le_of_ble_eq_true rfl, Nat.le_of_ble_eq_true rfl⟩ ⟨Nat.le_of_ble_eq_true rfl, Nat.le_of_ble_eq_true rfl⟩ (Nat.le_of_ble_eq_true rfl) (fun X' hX => KX3_screen hX)) rfl rfl rfl rfl hF ?_ (fun x102 h101 hF => ?_)
  · intro E h9 hF
    by_cases hE0 : E = "java/lang/IndexOutOfBoundsException"
    · rw [if_pos hE0] at hF
      subst hE0
      refine jx_h (i := 4) (len := 2) (pc2 := 15) (ls' := [(0, .ref a0), (1, .int x1), (2, .int x2), (3, .ref a3)]) [] [⟨0, 10, 17, 13⟩] ⟨0, 10, 13, 20⟩ (.astore 4) (by decide) rfl (fun z hz => nomatch hz) rfl (by decide) qw_99 (by decide) dL_screen_13 (Or.inr ⟨rfl, rfl⟩) (by decide) rfl rfl ?_
      refine jj_iconst (v := (1 : Int32)) (pc' := 16) dL_screen_15 rfl rfl ?_
      exact jj_retI (ty := .int) rfl rfl dL_screen_16 ⟨Nat.le_of_ble_eq_true rfl, Nat.le_of_ble_eq_true rfl⟩ hF
    rw [if_neg hE0] at hF
    by_cases hE1 : E = "java/lang/IllegalArgumentException"
    · rw [if_pos hE1] at hF
      subst hE1
      refine jx_h (i := 4) (len := 2) (pc2 := 19) (ls' := [(0, .ref a0), (1, .int x1), (2, .int x2), (3, .ref a3)]) [⟨0, 10, 13, 20⟩] [] ⟨0, 10, 17, 13⟩ (.astore 4) (by decide) rfl (fun z hz => by simp only [List.mem_cons, List.not_mem_nil, or_false] at hz; subst hz; exact ⟨by decide, "java/lang/IndexOutOfBoundsException", qw_99, by decide, by decide⟩) rfl (by decide) qw_97 (by decide) dL_screen_17 (Or.inr ⟨rfl, rfl⟩) (by decide) rfl rfl ?_
      refine jj_iconst (v := (2 : Int32)) (pc' := 20) dL_screen_19 rfl rfl ?_
      exact jj_retI (ty := .int) rfl rfl dL_screen_20 ⟨Nat.le_of_ble_eq_true rfl, Nat.le_of_ble_eq_true rfl⟩ hF
    rw [if_neg hE1] at hF
    cases hF
  refine jj_i2l (pc' := 9) dL_screen_8 rfl ?_
  refine jj_stL (pc' := 10) dL_screen_9 rfl hF (fun h105 hF => ?_)
  refine jj_goto (tgt := 21) dL_screen_10 rfl ?_
  refine jj_iconst (v := (0 : Int32)) (pc' := 22) dL_screen_21 rfl rfl ?_
  exact jj_retI (ty := .int) rfl rfl dL_screen_22 ⟨Nat.le_of_ble_eq_true rfl, Nat.le_of_ble_eq_true rfl⟩ hF
theorem KL_screen {N : Nat} {a0 : Nat} {x1 : Int32} {x2 : Int32} {a3 : Nat} {h : jm_H} {X : jm_X} (hF : FL_screen N a0 x1 x2 a3 h = some X) : jm_K M_L_screen [.ref a0, .int x1, .int x2, .ref a3] h X := jk_ofH rfl (by decide +kernel) (by decide) rfl (Nat.le_of_ble_eq_true rfl) (JL_screen hF)
set_option maxRecDepth 100000 in
set_option maxHeartbeats 4000000 in
theorem JL_guestOf {N : Nat} {a0 : Nat} {x1 : Int32} {x2 : Int32} {a3 : Nat} {h : jm_H} {X : jm_X} (hF : FL_guestOf N a0 x1 x2 a3 h = some X) : jm_J M_L_guestOf 0 [(0, .ref a0), (1, .int x1), (2, .int x2), (3, .ref a3)] [] h 0 0 X := by
  unfold FL_guestOf at hF
  refine jj_aload_n (j := 3) (i := 3) (pc' := 1) dL_guestOf_0 rfl rfl rfl ?_
  refine jj_iconst (v := (0 : Int32)) (pc' := 2) dL_guestOf_1 rfl rfl ?_
  refine jj_aload_n (j := 0) (i := 0) (pc' := 3) dL_guestOf_2 rfl rfl rfl ?_
  refine jj_iload_n (j := 1) (i := 1) (pc' := 4) dL_guestOf_3 rfl rfl rfl ?_
  refine jj_iload_n (j := 2) (i := 2) (pc' := 5) dL_guestOf_4 rfl rfl rfl ?_
  refine jj_tI (N := M_X3_guestOf) (kc' := 2) (ks' := 12) (pc' := 8) (jg_V (N := M_X3_guestOf) (ci := 3) (rest := [.int ((0 : Int32)), .ref a3]) (as := [.int x1, .int x2]) cf_L_77 dL_guestOf_5 ⟨rfl, rfl⟩ rfl rfl ⟨Nat.le_of_ble_eq_true rfl, Nat.le_of_ble_eq_true rfl⟩ ⟨Nat.le_of_ble_eq_true rfl, Nat.le_of_ble_eq_true rfl⟩ (Nat.le_of_ble_eq_true rfl) (fun X' hX => KX3_guestOf hX)) rfl rfl rfl rfl hF ?_ (fun x102 h101 hF => ?_)
  · intro E h9 hF
    by_cases hE0 : E = "java/lang/IndexOutOfBoundsException"
    · rw [if_pos hE0] at hF
      subst hE0
      refine jx_h (i := 4) (len := 2) (pc2 := 15) (ls' := [(0, .ref a0), (1, .int x1), (2, .int x2), (3, .ref a3)]) [] [⟨0, 10, 17, 13⟩] ⟨0, 10, 13, 20⟩ (.astore 4) (by decide) rfl (fun z hz => nomatch hz) rfl (by decide) qw_99 (by decide) dL_guestOf_13 (Or.inr ⟨rfl, rfl⟩) (by decide) rfl rfl ?_
      refine jj_iconst (v := (1 : Int32)) (pc' := 16) dL_guestOf_15 rfl rfl ?_
      exact jj_retI (ty := .int) rfl rfl dL_guestOf_16 ⟨Nat.le_of_ble_eq_true rfl, Nat.le_of_ble_eq_true rfl⟩ hF
    rw [if_neg hE0] at hF
    by_cases hE1 : E = "java/lang/IllegalArgumentException"
    · rw [if_pos hE1] at hF
      subst hE1
      refine jx_h (i := 4) (len := 2) (pc2 := 19) (ls' := [(0, .ref a0), (1, .int x1), (2, .int x2), (3, .ref a3)]) [⟨0, 10, 13, 20⟩] [] ⟨0, 10, 17, 13⟩ (.astore 4) (by decide) rfl (fun z hz => by simp only [List.mem_cons, List.not_mem_nil, or_false] at hz; subst hz; exact ⟨by decide, "java/lang/IndexOutOfBoundsException", qw_99, by decide, by decide⟩) rfl (by decide) qw_97 (by decide) dL_guestOf_17 (Or.inr ⟨rfl, rfl⟩) (by decide) rfl rfl ?_
      refine jj_iconst (v := (2 : Int32)) (pc' := 20) dL_guestOf_19 rfl rfl ?_
      exact jj_retI (ty := .int) rfl rfl dL_guestOf_20 ⟨Nat.le_of_ble_eq_true rfl, Nat.le_of_ble_eq_true rfl⟩ hF
    rw [if_neg hE1] at hF
    cases hF
  refine jj_i2l (pc' := 9) dL_guestOf_8 rfl ?_
  refine jj_stL (pc' := 10) dL_guestOf_9 rfl hF (fun h105 hF => ?_)
  refine jj_goto (tgt := 21) dL_guestOf_10 rfl ?_
  refine jj_iconst (v := (0 : Int32)) (pc' := 22) dL_guestOf_21 rfl rfl ?_
  exact jj_retI (ty := .int) rfl rfl dL_guestOf_22 ⟨Nat.le_of_ble_eq_true rfl, Nat.le_of_ble_eq_true rfl⟩ hF
theorem KL_guestOf {N : Nat} {a0 : Nat} {x1 : Int32} {x2 : Int32} {a3 : Nat} {h : jm_H} {X : jm_X} (hF : FL_guestOf N a0 x1 x2 a3 h = some X) : jm_K M_L_guestOf [.ref a0, .int x1, .int x2, .ref a3] h X := jk_ofH rfl (by decide +kernel) (by decide) rfl (Nat.le_of_ble_eq_true rfl) (JL_guestOf hF)
set_option maxRecDepth 100000 in
set_option maxHeartbeats 4000000 in
theorem JL_juror {N : Nat} {a0 : Nat} {x1 : Int32} {x2 : Int32} {a3 : Nat} {h : jm_H} {X : jm_X} (hF : FL_juror N a0 x1 x2 a3 h = some X) : jm_J M_L_juror 0 [(0, .ref a0), (1, .int x1), (2, .int x2), (3, .ref a3)] [] h 0 0 X := by
  unfold FL_juror at hF
  refine jj_aload_n (j := 3) (i := 3) (pc' := 1) dL_juror_0 rfl rfl rfl ?_
  refine jj_iconst (v := (0 : Int32)) (pc' := 2) dL_juror_1 rfl rfl ?_
  refine jj_aload_n (j := 0) (i := 0) (pc' := 3) dL_juror_2 rfl rfl rfl ?_
  refine jj_iload_n (j := 1) (i := 1) (pc' := 4) dL_juror_3 rfl rfl rfl ?_
  refine jj_iload_n (j := 2) (i := 2) (pc' := 5) dL_juror_4 rfl rfl rfl ?_
  refine jj_tI (N := M_X3_juror) (kc' := 2) (ks' := 12) (pc' := 8) (jg_V (N := M_X3_juror) (ci := 3) (rest := [.int ((0 : Int32)), .ref a3]) (as := [.int x1, .int x2]) cf_L_80 dL_juror_5 ⟨rfl, rfl⟩ rfl rfl ⟨Nat.le_of_ble_eq_true rfl, Nat.le_of_ble_eq_true rfl⟩ ⟨Nat.le_of_ble_eq_true rfl, Nat.le_of_ble_eq_true rfl⟩ (Nat.le_of_ble_eq_true rfl) (fun X' hX => KX3_juror hX)) rfl rfl rfl rfl hF ?_ (fun x102 h101 hF => ?_)
  · intro E h9 hF
    by_cases hE0 : E = "java/lang/IndexOutOfBoundsException"
    · rw [if_pos hE0] at hF
      subst hE0
      refine jx_h (i := 4) (len := 2) (pc2 := 15) (ls' := [(0, .ref a0), (1, .int x1), (2, .int x2), (3, .ref a3)]) [] [⟨0, 10, 17, 13⟩] ⟨0, 10, 13, 20⟩ (.astore 4) (by decide) rfl (fun z hz => nomatch hz) rfl (by decide) qw_99 (by decide) dL_juror_13 (Or.inr ⟨rfl, rfl⟩) (by decide) rfl rfl ?_
      refine jj_iconst (v := (1 : Int32)) (pc' := 16) dL_juror_15 rfl rfl ?_
      exact jj_retI (ty := .int) rfl rfl dL_juror_16 ⟨Nat.le_of_ble_eq_true rfl, Nat.le_of_ble_eq_true rfl⟩ hF
    rw [if_neg hE0] at hF
    by_cases hE1 : E = "java/lang/IllegalArgumentException"
    · rw [if_pos hE1] at hF
      subst hE1
      refine jx_h (i := 4) (len := 2) (pc2 := 19) (ls' := [(0, .ref a0), (1, .int x1), (2, .int x2), (3, .ref a3)]) [⟨0, 10, 13, 20⟩] [] ⟨0, 10, 17, 13⟩ (.astore 4) (by decide) rfl (fun z hz => by simp only [List.mem_cons, List.not_mem_nil, or_false] at hz; subst hz; exact ⟨by decide, "java/lang/IndexOutOfBoundsException", qw_99, by decide, by decide⟩) rfl (by decide) qw_97 (by decide) dL_juror_17 (Or.inr ⟨rfl, rfl⟩) (by decide) rfl rfl ?_
      refine jj_iconst (v := (2 : Int32)) (pc' := 20) dL_juror_19 rfl rfl ?_
      exact jj_retI (ty := .int) rfl rfl dL_juror_20 ⟨Nat.le_of_ble_eq_true rfl, Nat.le_of_ble_eq_true rfl⟩ hF
    rw [if_neg hE1] at hF
    cases hF
  refine jj_i2l (pc' := 9) dL_juror_8 rfl ?_
  refine jj_stL (pc' := 10) dL_juror_9 rfl hF (fun h105 hF => ?_)
  refine jj_goto (tgt := 21) dL_juror_10 rfl ?_
  refine jj_iconst (v := (0 : Int32)) (pc' := 22) dL_juror_21 rfl rfl ?_
  exact jj_retI (ty := .int) rfl rfl dL_juror_22 ⟨Nat.le_of_ble_eq_true rfl, Nat.le_of_ble_eq_true rfl⟩ hF
theorem KL_juror {N : Nat} {a0 : Nat} {x1 : Int32} {x2 : Int32} {a3 : Nat} {h : jm_H} {X : jm_X} (hF : FL_juror N a0 x1 x2 a3 h = some X) : jm_K M_L_juror [.ref a0, .int x1, .int x2, .ref a3] h X := jk_ofH rfl (by decide +kernel) (by decide) rfl (Nat.le_of_ble_eq_true rfl) (JL_juror hF)
set_option maxRecDepth 100000 in
set_option maxHeartbeats 4000000 in
theorem JL_count {N : Nat} {a0 : Nat} {x1 : Int32} {a2 : Nat} {h : jm_H} {X : jm_X} (hF : FL_count N a0 x1 a2 h = some X) : jm_J M_L_count 0 [(0, .ref a0), (1, .int x1), (2, .ref a2)] [] h 0 0 X := by
  unfold FL_count at hF
  refine jj_aload_n (j := 2) (i := 2) (pc' := 1) dL_count_0 rfl rfl rfl ?_
  refine jj_iconst (v := (0 : Int32)) (pc' := 2) dL_count_1 rfl rfl ?_
  refine jj_aload_n (j := 0) (i := 0) (pc' := 3) dL_count_2 rfl rfl rfl ?_
  refine jj_iload_n (j := 1) (i := 1) (pc' := 4) dL_count_3 rfl rfl rfl ?_
  refine jj_tI (N := M_X3_count) (kc' := 1) (ks' := 6) (pc' := 7) (jg_V (N := M_X3_count) (ci := 3) (rest := [.int ((0 : Int32)), .ref a2]) (as := [.int x1]) cf_L_83 dL_count_4 ⟨rfl, rfl⟩ rfl rfl ⟨Nat.le_of_ble_eq_true rfl, Nat.le_of_ble_eq_true rfl⟩ ⟨Nat.le_of_ble_eq_true rfl, Nat.le_of_ble_eq_true rfl⟩ (Nat.le_of_ble_eq_true rfl) (fun X' hX => KX3_count hX)) rfl rfl rfl rfl hF ?_ (fun x102 h101 hF => ?_)
  · intro E h9 hF
    by_cases hE0 : E = "java/lang/IllegalArgumentException"
    · rw [if_pos hE0] at hF
      subst hE0
      refine jx_h (i := 3) (len := 1) (pc2 := 13) (ls' := [(0, .ref a0), (1, .int x1), (2, .ref a2)]) [] [] ⟨0, 9, 12, 13⟩ (.astore_n 3) (by decide) rfl (fun z hz => nomatch hz) rfl (by decide) qw_97 (by decide) dL_count_12 (Or.inl ⟨_, rfl, rfl, rfl⟩) (by decide) rfl rfl ?_
      refine jj_iconst (v := (1 : Int32)) (pc' := 14) dL_count_13 rfl rfl ?_
      exact jj_retI (ty := .int) rfl rfl dL_count_14 ⟨Nat.le_of_ble_eq_true rfl, Nat.le_of_ble_eq_true rfl⟩ hF
    rw [if_neg hE0] at hF
    cases hF
  refine jj_i2l (pc' := 8) dL_count_7 rfl ?_
  refine jj_stL (pc' := 9) dL_count_8 rfl hF (fun h104 hF => ?_)
  refine jj_goto (tgt := 15) dL_count_9 rfl ?_
  refine jj_iconst (v := (0 : Int32)) (pc' := 16) dL_count_15 rfl rfl ?_
  exact jj_retI (ty := .int) rfl rfl dL_count_16 ⟨Nat.le_of_ble_eq_true rfl, Nat.le_of_ble_eq_true rfl⟩ hF
theorem KL_count {N : Nat} {a0 : Nat} {x1 : Int32} {a2 : Nat} {h : jm_H} {X : jm_X} (hF : FL_count N a0 x1 a2 h = some X) : jm_K M_L_count [.ref a0, .int x1, .ref a2] h X := jk_ofH rfl (by decide +kernel) (by decide) rfl (Nat.le_of_ble_eq_true rfl) (JL_count hF)
set_option maxRecDepth 100000 in
set_option maxHeartbeats 4000000 in
theorem JL_whyNot {N : Nat} {a0 : Nat} {x1 : Int32} {x2 : Int32} {x3 : Int32} {x4 : Int32} {x5 : Int32} {a6 : Nat} {h : jm_H} {X : jm_X} (hF : FL_whyNot N a0 x1 x2 x3 x4 x5 a6 h = some X) : jm_J M_L_whyNot 0 [(0, .ref a0), (1, .int x1), (2, .int x2), (3, .int x3), (4, .int x4), (5, .int x5), (6, .ref a6)] [] h 0 0 X := by
  unfold FL_whyNot at hF
  refine jj_aload (j := 6) (i := 6) (pc' := 2) dL_whyNot_0 rfl rfl ?_
  refine jj_iconst (v := (0 : Int32)) (pc' := 3) dL_whyNot_2 rfl rfl ?_
  refine jj_aload_n (j := 0) (i := 0) (pc' := 4) dL_whyNot_3 rfl rfl rfl ?_
  refine jj_iload_n (j := 1) (i := 1) (pc' := 5) dL_whyNot_4 rfl rfl rfl ?_
  refine jj_iload_n (j := 2) (i := 2) (pc' := 6) dL_whyNot_5 rfl rfl rfl ?_
  refine jj_iload_n (j := 3) (i := 3) (pc' := 7) dL_whyNot_6 rfl rfl rfl ?_
  refine jj_iload (j := 4) (i := 4) (pc' := 9) dL_whyNot_7 rfl rfl ?_
  refine jj_iload (j := 5) (i := 5) (pc' := 11) dL_whyNot_9 rfl rfl ?_
  refine jj_tI (N := M_X3_whyNot) (kc' := 5) (ks' := 30) (pc' := 14) (jg_V (N := M_X3_whyNot) (ci := 3) (rest := [.int ((0 : Int32)), .ref a6]) (as := [.int x1, .int x2, .int x3, .int x4, .int x5]) cf_L_86 dL_whyNot_11 ⟨rfl, rfl⟩ rfl rfl ⟨Nat.le_of_ble_eq_true rfl, Nat.le_of_ble_eq_true rfl⟩ ⟨Nat.le_of_ble_eq_true rfl, Nat.le_of_ble_eq_true rfl⟩ (Nat.le_of_ble_eq_true rfl) (fun X' hX => KX3_whyNot hX)) rfl rfl rfl rfl hF ?_ (fun x102 h101 hF => ?_)
  · intro E h9 hF
    by_cases hE0 : E = "java/lang/IndexOutOfBoundsException"
    · rw [if_pos hE0] at hF
      subst hE0
      refine jx_h (i := 7) (len := 2) (pc2 := 21) (ls' := [(0, .ref a0), (1, .int x1), (2, .int x2), (3, .int x3), (4, .int x4), (5, .int x5), (6, .ref a6)]) [] [⟨0, 16, 23, 13⟩] ⟨0, 16, 19, 20⟩ (.astore 7) (by decide) rfl (fun z hz => nomatch hz) rfl (by decide) qw_99 (by decide) dL_whyNot_19 (Or.inr ⟨rfl, rfl⟩) (by decide) rfl rfl ?_
      refine jj_iconst (v := (1 : Int32)) (pc' := 22) dL_whyNot_21 rfl rfl ?_
      exact jj_retI (ty := .int) rfl rfl dL_whyNot_22 ⟨Nat.le_of_ble_eq_true rfl, Nat.le_of_ble_eq_true rfl⟩ hF
    rw [if_neg hE0] at hF
    by_cases hE1 : E = "java/lang/IllegalArgumentException"
    · rw [if_pos hE1] at hF
      subst hE1
      refine jx_h (i := 7) (len := 2) (pc2 := 25) (ls' := [(0, .ref a0), (1, .int x1), (2, .int x2), (3, .int x3), (4, .int x4), (5, .int x5), (6, .ref a6)]) [⟨0, 16, 19, 20⟩] [] ⟨0, 16, 23, 13⟩ (.astore 7) (by decide) rfl (fun z hz => by simp only [List.mem_cons, List.not_mem_nil, or_false] at hz; subst hz; exact ⟨by decide, "java/lang/IndexOutOfBoundsException", qw_99, by decide, by decide⟩) rfl (by decide) qw_97 (by decide) dL_whyNot_23 (Or.inr ⟨rfl, rfl⟩) (by decide) rfl rfl ?_
      refine jj_iconst (v := (2 : Int32)) (pc' := 26) dL_whyNot_25 rfl rfl ?_
      exact jj_retI (ty := .int) rfl rfl dL_whyNot_26 ⟨Nat.le_of_ble_eq_true rfl, Nat.le_of_ble_eq_true rfl⟩ hF
    rw [if_neg hE1] at hF
    cases hF
  refine jj_i2l (pc' := 15) dL_whyNot_14 rfl ?_
  refine jj_stL (pc' := 16) dL_whyNot_15 rfl hF (fun h105 hF => ?_)
  refine jj_goto (tgt := 27) dL_whyNot_16 rfl ?_
  refine jj_iconst (v := (0 : Int32)) (pc' := 28) dL_whyNot_27 rfl rfl ?_
  exact jj_retI (ty := .int) rfl rfl dL_whyNot_28 ⟨Nat.le_of_ble_eq_true rfl, Nat.le_of_ble_eq_true rfl⟩ hF
theorem KL_whyNot {N : Nat} {a0 : Nat} {x1 : Int32} {x2 : Int32} {x3 : Int32} {x4 : Int32} {x5 : Int32} {a6 : Nat} {h : jm_H} {X : jm_X} (hF : FL_whyNot N a0 x1 x2 x3 x4 x5 a6 h = some X) : jm_K M_L_whyNot [.ref a0, .int x1, .int x2, .int x3, .int x4, .int x5, .ref a6] h X := jk_ofH rfl (by decide +kernel) (by decide) rfl (Nat.le_of_ble_eq_true rfl) (JL_whyNot hF)
set_option maxRecDepth 100000 in
set_option maxHeartbeats 4000000 in
theorem JL_nextStart {N : Nat} {a0 : Nat} {x1 : Int32} {x2 : Int32} {x3 : Int32} {a4 : Nat} {h : jm_H} {X : jm_X} (hF : FL_nextStart N a0 x1 x2 x3 a4 h = some X) : jm_J M_L_nextStart 0 [(0, .ref a0), (1, .int x1), (2, .int x2), (3, .int x3), (4, .ref a4)] [] h 0 0 X := by
  unfold FL_nextStart at hF
  refine jj_aload (j := 4) (i := 4) (pc' := 2) dL_nextStart_0 rfl rfl ?_
  refine jj_iconst (v := (0 : Int32)) (pc' := 3) dL_nextStart_2 rfl rfl ?_
  refine jj_aload_n (j := 0) (i := 0) (pc' := 4) dL_nextStart_3 rfl rfl rfl ?_
  refine jj_iload_n (j := 1) (i := 1) (pc' := 5) dL_nextStart_4 rfl rfl rfl ?_
  refine jj_iload_n (j := 2) (i := 2) (pc' := 6) dL_nextStart_5 rfl rfl rfl ?_
  refine jj_iload_n (j := 3) (i := 3) (pc' := 7) dL_nextStart_6 rfl rfl rfl ?_
  refine jj_tI (N := M_X3_nextStart) (kc' := 3) (ks' := 18) (pc' := 10) (jg_V (N := M_X3_nextStart) (ci := 3) (rest := [.int ((0 : Int32)), .ref a4]) (as := [.int x1, .int x2, .int x3]) cf_L_90 dL_nextStart_7 ⟨rfl, rfl⟩ rfl rfl ⟨Nat.le_of_ble_eq_true rfl, Nat.le_of_ble_eq_true rfl⟩ ⟨Nat.le_of_ble_eq_true rfl, Nat.le_of_ble_eq_true rfl⟩ (Nat.le_of_ble_eq_true rfl) (fun X' hX => KX3_nextStart hX)) rfl rfl rfl rfl hF ?_ (fun x102 h101 hF => ?_)
  · intro E h9 hF
    by_cases hE0 : E = "java/lang/IndexOutOfBoundsException"
    · rw [if_pos hE0] at hF
      subst hE0
      refine jx_h (i := 5) (len := 2) (pc2 := 17) (ls' := [(0, .ref a0), (1, .int x1), (2, .int x2), (3, .int x3), (4, .ref a4)]) [] [⟨0, 12, 19, 13⟩] ⟨0, 12, 15, 20⟩ (.astore 5) (by decide) rfl (fun z hz => nomatch hz) rfl (by decide) qw_99 (by decide) dL_nextStart_15 (Or.inr ⟨rfl, rfl⟩) (by decide) rfl rfl ?_
      refine jj_iconst (v := (1 : Int32)) (pc' := 18) dL_nextStart_17 rfl rfl ?_
      exact jj_retI (ty := .int) rfl rfl dL_nextStart_18 ⟨Nat.le_of_ble_eq_true rfl, Nat.le_of_ble_eq_true rfl⟩ hF
    rw [if_neg hE0] at hF
    by_cases hE1 : E = "java/lang/IllegalArgumentException"
    · rw [if_pos hE1] at hF
      subst hE1
      refine jx_h (i := 5) (len := 2) (pc2 := 21) (ls' := [(0, .ref a0), (1, .int x1), (2, .int x2), (3, .int x3), (4, .ref a4)]) [⟨0, 12, 15, 20⟩] [] ⟨0, 12, 19, 13⟩ (.astore 5) (by decide) rfl (fun z hz => by simp only [List.mem_cons, List.not_mem_nil, or_false] at hz; subst hz; exact ⟨by decide, "java/lang/IndexOutOfBoundsException", qw_99, by decide, by decide⟩) rfl (by decide) qw_97 (by decide) dL_nextStart_19 (Or.inr ⟨rfl, rfl⟩) (by decide) rfl rfl ?_
      refine jj_iconst (v := (2 : Int32)) (pc' := 22) dL_nextStart_21 rfl rfl ?_
      exact jj_retI (ty := .int) rfl rfl dL_nextStart_22 ⟨Nat.le_of_ble_eq_true rfl, Nat.le_of_ble_eq_true rfl⟩ hF
    rw [if_neg hE1] at hF
    cases hF
  refine jj_i2l (pc' := 11) dL_nextStart_10 rfl ?_
  refine jj_stL (pc' := 12) dL_nextStart_11 rfl hF (fun h105 hF => ?_)
  refine jj_goto (tgt := 23) dL_nextStart_12 rfl ?_
  refine jj_iconst (v := (0 : Int32)) (pc' := 24) dL_nextStart_23 rfl rfl ?_
  exact jj_retI (ty := .int) rfl rfl dL_nextStart_24 ⟨Nat.le_of_ble_eq_true rfl, Nat.le_of_ble_eq_true rfl⟩ hF
theorem KL_nextStart {N : Nat} {a0 : Nat} {x1 : Int32} {x2 : Int32} {x3 : Int32} {a4 : Nat} {h : jm_H} {X : jm_X} (hF : FL_nextStart N a0 x1 x2 x3 a4 h = some X) : jm_K M_L_nextStart [.ref a0, .int x1, .int x2, .int x3, .ref a4] h X := jk_ofH rfl (by decide +kernel) (by decide) rfl (Nat.le_of_ble_eq_true rfl) (JL_nextStart hF)
set_option maxRecDepth 100000 in
set_option maxHeartbeats 4000000 in
theorem JL_bestScreen {N : Nat} {a0 : Nat} {x1 : Int32} {x2 : Int32} {a3 : Nat} {h : jm_H} {X : jm_X} (hF : FL_bestScreen N a0 x1 x2 a3 h = some X) : jm_J M_L_bestScreen 0 [(0, .ref a0), (1, .int x1), (2, .int x2), (3, .ref a3)] [] h 0 0 X := by
  unfold FL_bestScreen at hF
  refine jj_aload_n (j := 3) (i := 3) (pc' := 1) dL_bestScreen_0 rfl rfl rfl ?_
  refine jj_iconst (v := (0 : Int32)) (pc' := 2) dL_bestScreen_1 rfl rfl ?_
  refine jj_aload_n (j := 0) (i := 0) (pc' := 3) dL_bestScreen_2 rfl rfl rfl ?_
  refine jj_iload_n (j := 1) (i := 1) (pc' := 4) dL_bestScreen_3 rfl rfl rfl ?_
  refine jj_iload_n (j := 2) (i := 2) (pc' := 5) dL_bestScreen_4 rfl rfl rfl ?_
  refine jj_tI (N := M_X3_bestScreen) (kc' := 2) (ks' := 12) (pc' := 8) (jg_V (N := M_X3_bestScreen) (ci := 3) (rest := [.int ((0 : Int32)), .ref a3]) (as := [.int x1, .int x2]) cf_L_93 dL_bestScreen_5 ⟨rfl, rfl⟩ rfl rfl ⟨Nat.le_of_ble_eq_true rfl, Nat.le_of_ble_eq_true rfl⟩ ⟨Nat.le_of_ble_eq_true rfl, Nat.le_of_ble_eq_true rfl⟩ (Nat.le_of_ble_eq_true rfl) (fun X' hX => KX3_bestScreen hX)) rfl rfl rfl rfl hF ?_ (fun x102 h101 hF => ?_)
  · intro E h9 hF
    by_cases hE0 : E = "java/lang/IndexOutOfBoundsException"
    · rw [if_pos hE0] at hF
      subst hE0
      refine jx_h (i := 4) (len := 2) (pc2 := 15) (ls' := [(0, .ref a0), (1, .int x1), (2, .int x2), (3, .ref a3)]) [] [⟨0, 10, 17, 13⟩] ⟨0, 10, 13, 20⟩ (.astore 4) (by decide) rfl (fun z hz => nomatch hz) rfl (by decide) qw_99 (by decide) dL_bestScreen_13 (Or.inr ⟨rfl, rfl⟩) (by decide) rfl rfl ?_
      refine jj_iconst (v := (1 : Int32)) (pc' := 16) dL_bestScreen_15 rfl rfl ?_
      exact jj_retI (ty := .int) rfl rfl dL_bestScreen_16 ⟨Nat.le_of_ble_eq_true rfl, Nat.le_of_ble_eq_true rfl⟩ hF
    rw [if_neg hE0] at hF
    by_cases hE1 : E = "java/lang/IllegalArgumentException"
    · rw [if_pos hE1] at hF
      subst hE1
      refine jx_h (i := 4) (len := 2) (pc2 := 19) (ls' := [(0, .ref a0), (1, .int x1), (2, .int x2), (3, .ref a3)]) [⟨0, 10, 13, 20⟩] [] ⟨0, 10, 17, 13⟩ (.astore 4) (by decide) rfl (fun z hz => by simp only [List.mem_cons, List.not_mem_nil, or_false] at hz; subst hz; exact ⟨by decide, "java/lang/IndexOutOfBoundsException", qw_99, by decide, by decide⟩) rfl (by decide) qw_97 (by decide) dL_bestScreen_17 (Or.inr ⟨rfl, rfl⟩) (by decide) rfl rfl ?_
      refine jj_iconst (v := (2 : Int32)) (pc' := 20) dL_bestScreen_19 rfl rfl ?_
      exact jj_retI (ty := .int) rfl rfl dL_bestScreen_20 ⟨Nat.le_of_ble_eq_true rfl, Nat.le_of_ble_eq_true rfl⟩ hF
    rw [if_neg hE1] at hF
    cases hF
  refine jj_i2l (pc' := 9) dL_bestScreen_8 rfl ?_
  refine jj_stL (pc' := 10) dL_bestScreen_9 rfl hF (fun h105 hF => ?_)
  refine jj_goto (tgt := 21) dL_bestScreen_10 rfl ?_
  refine jj_iconst (v := (0 : Int32)) (pc' := 22) dL_bestScreen_21 rfl rfl ?_
  exact jj_retI (ty := .int) rfl rfl dL_bestScreen_22 ⟨Nat.le_of_ble_eq_true rfl, Nat.le_of_ble_eq_true rfl⟩ hF
theorem KL_bestScreen {N : Nat} {a0 : Nat} {x1 : Int32} {x2 : Int32} {a3 : Nat} {h : jm_H} {X : jm_X} (hF : FL_bestScreen N a0 x1 x2 a3 h = some X) : jm_K M_L_bestScreen [.ref a0, .int x1, .int x2, .ref a3] h X := jk_ofH rfl (by decide +kernel) (by decide) rfl (Nat.le_of_ble_eq_true rfl) (JL_bestScreen hF)
set_option maxRecDepth 100000 in
set_option maxHeartbeats 4000000 in
theorem JL_ifShown {N : Nat} {a0 : Nat} {x1 : Int32} {x2 : Int32} {x3 : Int32} {a4 : Nat} {h : jm_H} {X : jm_X} (hF : FL_ifShown N a0 x1 x2 x3 a4 h = some X) : jm_J M_L_ifShown 0 [(0, .ref a0), (1, .int x1), (2, .int x2), (3, .int x3), (4, .ref a4)] [] h 0 0 X := by
  unfold FL_ifShown at hF
  refine jj_aload (j := 4) (i := 4) (pc' := 2) dL_ifShown_0 rfl rfl ?_
  refine jj_iconst (v := (0 : Int32)) (pc' := 3) dL_ifShown_2 rfl rfl ?_
  refine jj_aload_n (j := 0) (i := 0) (pc' := 4) dL_ifShown_3 rfl rfl rfl ?_
  refine jj_iload_n (j := 1) (i := 1) (pc' := 5) dL_ifShown_4 rfl rfl rfl ?_
  refine jj_iload_n (j := 2) (i := 2) (pc' := 6) dL_ifShown_5 rfl rfl rfl ?_
  refine jj_iload_n (j := 3) (i := 3) (pc' := 7) dL_ifShown_6 rfl rfl rfl ?_
  refine jj_tI (N := M_X3_ifShown) (kc' := 3) (ks' := 18) (pc' := 10) (jg_V (N := M_X3_ifShown) (ci := 3) (rest := [.int ((0 : Int32)), .ref a4]) (as := [.int x1, .int x2, .int x3]) cf_L_96 dL_ifShown_7 ⟨rfl, rfl⟩ rfl rfl ⟨Nat.le_of_ble_eq_true rfl, Nat.le_of_ble_eq_true rfl⟩ ⟨Nat.le_of_ble_eq_true rfl, Nat.le_of_ble_eq_true rfl⟩ (Nat.le_of_ble_eq_true rfl) (fun X' hX => KX3_ifShown hX)) rfl rfl rfl rfl hF ?_ (fun x102 h101 hF => ?_)
  · intro E h9 hF
    by_cases hE0 : E = "java/lang/IndexOutOfBoundsException"
    · rw [if_pos hE0] at hF
      subst hE0
      refine jx_h (i := 5) (len := 2) (pc2 := 17) (ls' := [(0, .ref a0), (1, .int x1), (2, .int x2), (3, .int x3), (4, .ref a4)]) [] [⟨0, 12, 19, 13⟩] ⟨0, 12, 15, 20⟩ (.astore 5) (by decide) rfl (fun z hz => nomatch hz) rfl (by decide) qw_99 (by decide) dL_ifShown_15 (Or.inr ⟨rfl, rfl⟩) (by decide) rfl rfl ?_
      refine jj_iconst (v := (1 : Int32)) (pc' := 18) dL_ifShown_17 rfl rfl ?_
      exact jj_retI (ty := .int) rfl rfl dL_ifShown_18 ⟨Nat.le_of_ble_eq_true rfl, Nat.le_of_ble_eq_true rfl⟩ hF
    rw [if_neg hE0] at hF
    by_cases hE1 : E = "java/lang/IllegalArgumentException"
    · rw [if_pos hE1] at hF
      subst hE1
      refine jx_h (i := 5) (len := 2) (pc2 := 21) (ls' := [(0, .ref a0), (1, .int x1), (2, .int x2), (3, .int x3), (4, .ref a4)]) [⟨0, 12, 15, 20⟩] [] ⟨0, 12, 19, 13⟩ (.astore 5) (by decide) rfl (fun z hz => by simp only [List.mem_cons, List.not_mem_nil, or_false] at hz; subst hz; exact ⟨by decide, "java/lang/IndexOutOfBoundsException", qw_99, by decide, by decide⟩) rfl (by decide) qw_97 (by decide) dL_ifShown_19 (Or.inr ⟨rfl, rfl⟩) (by decide) rfl rfl ?_
      refine jj_iconst (v := (2 : Int32)) (pc' := 22) dL_ifShown_21 rfl rfl ?_
      exact jj_retI (ty := .int) rfl rfl dL_ifShown_22 ⟨Nat.le_of_ble_eq_true rfl, Nat.le_of_ble_eq_true rfl⟩ hF
    rw [if_neg hE1] at hF
    cases hF
  refine jj_i2l (pc' := 11) dL_ifShown_10 rfl ?_
  refine jj_stL (pc' := 12) dL_ifShown_11 rfl hF (fun h105 hF => ?_)
  refine jj_goto (tgt := 23) dL_ifShown_12 rfl ?_
  refine jj_iconst (v := (0 : Int32)) (pc' := 24) dL_ifShown_23 rfl rfl ?_
  exact jj_retI (ty := .int) rfl rfl dL_ifShown_24 ⟨Nat.le_of_ble_eq_true rfl, Nat.le_of_ble_eq_true rfl⟩ hF
theorem KL_ifShown {N : Nat} {a0 : Nat} {x1 : Int32} {x2 : Int32} {x3 : Int32} {a4 : Nat} {h : jm_H} {X : jm_X} (hF : FL_ifShown N a0 x1 x2 x3 a4 h = some X) : jm_K M_L_ifShown [.ref a0, .int x1, .int x2, .int x3, .ref a4] h X := jk_ofH rfl (by decide +kernel) (by decide) rfl (Nat.le_of_ble_eq_true rfl) (JL_ifShown hF)
set_option maxRecDepth 100000 in
set_option maxHeartbeats 4000000 in
theorem JL_use {N : Nat} {a0 : Nat} {x1 : Int32} {a2 : Nat} {h : jm_H} {X : jm_X} (hF : FL_use N a0 x1 a2 h = some X) : jm_J M_L_use 0 [(0, .ref a0), (1, .int x1), (2, .ref a2)] [] h 0 0 X := by
  unfold FL_use at hF
  refine jj_aload_n (j := 2) (i := 2) (pc' := 1) dL_use_0 rfl rfl rfl ?_
  refine jj_iconst (v := (0 : Int32)) (pc' := 2) dL_use_1 rfl rfl ?_
  refine jj_aload_n (j := 0) (i := 0) (pc' := 3) dL_use_2 rfl rfl rfl ?_
  refine jj_iload_n (j := 1) (i := 1) (pc' := 4) dL_use_3 rfl rfl rfl ?_
  refine jj_tD (N := M_X3_use) (kc' := 1) (ks' := 6) (pc' := 7) (jg_V (N := M_X3_use) (ci := 3) (rest := [.int ((0 : Int32)), .ref a2]) (as := [.int x1]) cf_L_99 dL_use_4 ⟨rfl, rfl⟩ rfl rfl ⟨Nat.le_of_ble_eq_true rfl, Nat.le_of_ble_eq_true rfl⟩ ⟨Nat.le_of_ble_eq_true rfl, Nat.le_of_ble_eq_true rfl⟩ (Nat.le_of_ble_eq_true rfl) (fun X' hX => KX3_use hX)) rfl rfl rfl rfl hF ?_ (fun d102 h101 hF => ?_)
  · intro E h9 hF
    by_cases hE0 : E = "java/lang/IndexOutOfBoundsException"
    · rw [if_pos hE0] at hF
      subst hE0
      refine jx_h (i := 3) (len := 1) (pc2 := 12) (ls' := [(0, .ref a0), (1, .int x1), (2, .ref a2)]) [] [] ⟨0, 8, 11, 20⟩ (.astore_n 3) (by decide) rfl (fun z hz => nomatch hz) rfl (by decide) qw_99 (by decide) dL_use_11 (Or.inl ⟨_, rfl, rfl, rfl⟩) (by decide) rfl rfl ?_
      refine jj_iconst (v := (1 : Int32)) (pc' := 13) dL_use_12 rfl rfl ?_
      exact jj_retI (ty := .int) rfl rfl dL_use_13 ⟨Nat.le_of_ble_eq_true rfl, Nat.le_of_ble_eq_true rfl⟩ hF
    rw [if_neg hE0] at hF
    cases hF
  refine jj_stD (pc' := 8) dL_use_7 rfl hF (fun h104 hF => ?_)
  refine jj_goto (tgt := 14) dL_use_8 rfl ?_
  refine jj_iconst (v := (0 : Int32)) (pc' := 15) dL_use_14 rfl rfl ?_
  exact jj_retI (ty := .int) rfl rfl dL_use_15 ⟨Nat.le_of_ble_eq_true rfl, Nat.le_of_ble_eq_true rfl⟩ hF
theorem KL_use {N : Nat} {a0 : Nat} {x1 : Int32} {a2 : Nat} {h : jm_H} {X : jm_X} (hF : FL_use N a0 x1 a2 h = some X) : jm_K M_L_use [.ref a0, .int x1, .ref a2] h X := jk_ofH rfl (by decide +kernel) (by decide) rfl (Nat.le_of_ble_eq_true rfl) (JL_use hF)

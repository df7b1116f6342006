set_option maxRecDepth 100000 in
set_option maxHeartbeats 4000000 in
theorem BX0_nextFrom_27 (N : Nat) : ∀ (n : Nat) (a0 : Nat) (x1 : Int32) (x2 : Int32) (x4 : Int32) (x5 : Int32) (x6 : Int32) (h : jm_H) (X : jm_X), FX0_nextFrom_27 N n a0 x1 x2 x4 x5 x6 h = some X → jm_J M_X0_nextFrom 27 [(0, .ref a0), (1, .int x1), (2, .int x2), (4, .int x4), (5, .int x5), (6, .int x6)] [] h 0 0 X := by
  intro n
  induction n with
  | zero =>
    intro a0 x1 x2 x4 x5 x6 h X hF
    exact nomatch (show (none : Option jm_X) = some X from hF)
  | succ n ih =>
    intro a0 x1 x2 x4 x5 x6 h X hF
    rw [FX0_nextFrom_27] at hF
    refine jj_iload (j := 5) (i := 6) (pc' := 29) dX0_nextFrom_27 rfl rfl ?_
    refine jj_sipush (v := (2000 : Int32)) (pc' := 32) dX0_nextFrom_29 rfl rfl ?_
    refine jj_icmp_ge (tgt := 162) (pc' := 35) dX0_nextFrom_32 rfl rfl (fun hc hF => ?_) (fun hc hF => ?_) hF
    · skip
      refine jj_iconst (v := (-1 : Int32)) (pc' := 163) dX0_nextFrom_162 rfl rfl ?_
      exact jj_retI (ty := .int) rfl rfl dX0_nextFrom_163 ⟨Nat.le_of_ble_eq_true rfl, Nat.le_of_ble_eq_true rfl⟩ hF
    · skip
      refine jj_iload (j := 4) (i := 5) (pc' := 37) dX0_nextFrom_35 rfl rfl ?_
      refine jj_iload (j := 3) (i := 4) (pc' := 39) dX0_nextFrom_37 rfl rfl ?_
      refine jj_iadd (pc' := 40) dX0_nextFrom_39 rfl ?_
      refine jj_sipush (v := (2000 : Int32)) (pc' := 43) dX0_nextFrom_40 rfl rfl ?_
      refine jj_icmp_gt (tgt := 162) (pc' := 46) dX0_nextFrom_43 rfl rfl (fun hc hF => ?_) (fun hc hF => ?_) hF
      · skip
        refine jj_iconst (v := (-1 : Int32)) (pc' := 163) dX0_nextFrom_162 rfl rfl ?_
        exact jj_retI (ty := .int) rfl rfl dX0_nextFrom_163 ⟨Nat.le_of_ble_eq_true rfl, Nat.le_of_ble_eq_true rfl⟩ hF
      · skip
        refine jj_aload_n (j := 0) (i := 0) (pc' := 47) dX0_nextFrom_46 rfl rfl rfl ?_
        refine jj_iload_n (j := 2) (i := 2) (pc' := 48) dX0_nextFrom_47 rfl rfl rfl ?_
        refine jj_iload (j := 4) (i := 5) (pc' := 50) dX0_nextFrom_48 rfl rfl ?_
        refine jj_iload (j := 4) (i := 5) (pc' := 52) dX0_nextFrom_50 rfl rfl ?_
        refine jj_iload (j := 3) (i := 4) (pc' := 54) dX0_nextFrom_52 rfl rfl ?_
        refine jj_iadd (pc' := 55) dX0_nextFrom_54 rfl ?_
        refine jj_iconst (v := (-1 : Int32)) (pc' := 56) dX0_nextFrom_55 rfl rfl ?_
        refine jj_cI (N := M_X0_takingScreen) (kc' := 0) (ks' := 0) (pc' := 59) (jg_V (N := M_X0_takingScreen) (ci := 0) (rest := []) (as := [.int x2, .int x5, .int (x5 + x4), .int ((-1 : Int32))]) cf_X0_107 dX0_nextFrom_56 ⟨rfl, rfl⟩ rfl rfl ⟨Nat.le_of_ble_eq_true rfl, Nat.le_of_ble_eq_true rfl⟩ ⟨Nat.le_of_ble_eq_true rfl, Nat.le_of_ble_eq_true rfl⟩ (Nat.le_of_ble_eq_true rfl) (fun X' hX => KX0_takingScreen hX)) rfl rfl rfl rfl ⟨Nat.le_of_ble_eq_true rfl, Nat.le_of_ble_eq_true rfl⟩ rfl hF (fun x102 h101 hF => ?_)
        refine jj_istore (i := 7) (ls' := [(7, .int x102), (0, .ref a0), (1, .int x1), (2, .int x2), (4, .int x4), (5, .int x5), (6, .int x6)]) (pc' := 61) dX0_nextFrom_59 (Nat.le_of_ble_eq_true rfl) rfl rfl ?_
        refine jj_iload (j := 0) (i := 7) (pc' := 63) dX0_nextFrom_61 rfl rfl ?_
        refine jj_iconst (v := (-1 : Int32)) (pc' := 64) dX0_nextFrom_63 rfl rfl ?_
        refine jj_icmp_eq (tgt := 88) (pc' := 67) dX0_nextFrom_64 rfl rfl (fun hc hF => ?_) (fun hc hF => ?_) hF
        · skip
          refine jj_aload_n (j := 1) (i := 0) (pc' := 89) dX0_nextFrom_88 rfl rfl rfl ?_
          refine jj_iload_n (j := 2) (i := 1) (pc' := 90) dX0_nextFrom_89 rfl rfl rfl ?_
          refine jj_iload_n (j := 3) (i := 2) (pc' := 91) dX0_nextFrom_90 rfl rfl rfl ?_
          refine jj_iload (j := 5) (i := 5) (pc' := 93) dX0_nextFrom_91 rfl rfl ?_
          refine jj_iconst (v := (0 : Int32)) (pc' := 94) dX0_nextFrom_93 rfl rfl ?_
          refine jj_iconst (v := (-1 : Int32)) (pc' := 95) dX0_nextFrom_94 rfl rfl ?_
          refine jj_cI (N := M_X0_takingReel) (kc' := 0) (ks' := 0) (pc' := 98) (jg_V (N := M_X0_takingReel) (ci := 0) (rest := []) (as := [.int x1, .int x2, .int x5, .int ((0 : Int32)), .int ((-1 : Int32))]) cf_X0_111 dX0_nextFrom_95 ⟨rfl, rfl⟩ rfl rfl ⟨Nat.le_of_ble_eq_true rfl, Nat.le_of_ble_eq_true rfl⟩ ⟨Nat.le_of_ble_eq_true rfl, Nat.le_of_ble_eq_true rfl⟩ (Nat.le_of_ble_eq_true rfl) (fun X' hX => KX0_takingReel hX)) rfl rfl rfl rfl ⟨Nat.le_of_ble_eq_true rfl, Nat.le_of_ble_eq_true rfl⟩ rfl hF (fun x104 h103 hF => ?_)
          refine jj_istore (i := 7) (ls' := [(7, .int x104), (0, .ref a0), (1, .int x1), (2, .int x2), (4, .int x4), (5, .int x5), (6, .int x6)]) (pc' := 100) dX0_nextFrom_98 (Nat.le_of_ble_eq_true rfl) rfl rfl ?_
          refine jj_iload (j := 0) (i := 7) (pc' := 102) dX0_nextFrom_100 rfl rfl ?_
          refine jj_iconst (v := (-1 : Int32)) (pc' := 103) dX0_nextFrom_102 rfl rfl ?_
          refine jj_icmp_ne (tgt := 109) (pc' := 106) dX0_nextFrom_103 rfl rfl (fun hc hF => ?_) (fun hc hF => ?_) hF
          · skip
            refine jj_aload_n (j := 1) (i := 0) (pc' := 110) dX0_nextFrom_109 rfl rfl rfl ?_
            refine jj_iload_n (j := 2) (i := 1) (pc' := 111) dX0_nextFrom_110 rfl rfl rfl ?_
            refine jj_iload (j := 5) (i := 5) (pc' := 113) dX0_nextFrom_111 rfl rfl ?_
            refine jj_iconst (v := (0 : Int32)) (pc' := 114) dX0_nextFrom_113 rfl rfl ?_
            refine jj_iload (j := 0) (i := 7) (pc' := 116) dX0_nextFrom_114 rfl rfl ?_
            refine jj_cI (N := M_X0_clashingReel) (kc' := 0) (ks' := 0) (pc' := 119) (jg_V (N := M_X0_clashingReel) (ci := 0) (rest := []) (as := [.int x1, .int x5, .int ((0 : Int32)), .int x104]) cf_X0_114 dX0_nextFrom_116 ⟨rfl, rfl⟩ rfl rfl ⟨Nat.le_of_ble_eq_true rfl, Nat.le_of_ble_eq_true rfl⟩ ⟨Nat.le_of_ble_eq_true rfl, Nat.le_of_ble_eq_true rfl⟩ (Nat.le_of_ble_eq_true rfl) (fun X' hX => KX0_clashingReel hX)) rfl rfl rfl rfl ⟨Nat.le_of_ble_eq_true rfl, Nat.le_of_ble_eq_true rfl⟩ rfl hF (fun x106 h105 hF => ?_)
            refine jj_istore (i := 8) (ls' := [(8, .int x106), (7, .int x104), (0, .ref a0), (1, .int x1), (2, .int x2), (4, .int x4), (5, .int x5), (6, .int x6)]) (pc' := 121) dX0_nextFrom_119 (Nat.le_of_ble_eq_true rfl) rfl rfl ?_
            refine jj_aload_n (j := 2) (i := 0) (pc' := 122) dX0_nextFrom_121 rfl rfl rfl ?_
            refine jj_iload (j := 1) (i := 7) (pc' := 124) dX0_nextFrom_122 rfl rfl ?_
            refine jj_iload (j := 0) (i := 8) (pc' := 126) dX0_nextFrom_124 rfl rfl ?_
            refine jj_cI (N := M_X0_reelBegin) (kc' := 0) (ks' := 0) (pc' := 129) (jg_V (N := M_X0_reelBegin) (ci := 0) (rest := []) (as := [.int x104, .int x106]) cf_X0_117 dX0_nextFrom_126 ⟨rfl, rfl⟩ rfl rfl ⟨Nat.le_of_ble_eq_true rfl, Nat.le_of_ble_eq_true rfl⟩ ⟨Nat.le_of_ble_eq_true rfl, Nat.le_of_ble_eq_true rfl⟩ (Nat.le_of_ble_eq_true rfl) (fun X' hX => KX0_reelBegin hX)) rfl rfl rfl rfl ⟨Nat.le_of_ble_eq_true rfl, Nat.le_of_ble_eq_true rfl⟩ rfl hF (fun x108 h107 hF => ?_)
            refine jj_aload_n (j := 2) (i := 0) (pc' := 130) dX0_nextFrom_129 rfl rfl rfl ?_
            refine jj_gR (C := RX0) (T := TX0) (N := 10) (ci := 0) (k := 2) (pc' := 133) dX0_nextFrom_130 rfl rfl inX0 (by decide) qw_17 hF (fun r109 hF => ?_)
            refine jj_iconst (v := (0 : Int32)) (pc' := 134) dX0_nextFrom_133 rfl rfl ?_
            refine jj_iconst (v := (0 : Int32)) (pc' := 135) dX0_nextFrom_134 rfl rfl ?_
            refine jj_cI (N := M_X2_at) (kc' := 0) (ks' := 0) (pc' := 138) (jg_V (N := M_X2_at) (ci := 2) (rest := [.int x108]) (as := [.int ((0 : Int32)), .int ((0 : Int32))]) cf_X0_60 dX0_nextFrom_135 ⟨rfl, rfl⟩ rfl rfl ⟨Nat.le_of_ble_eq_true rfl, Nat.le_of_ble_eq_true rfl⟩ ⟨Nat.le_of_ble_eq_true rfl, Nat.le_of_ble_eq_true rfl⟩ (Nat.le_of_ble_eq_true rfl) (fun X' hX => KX2_at hX)) rfl rfl rfl rfl ⟨Nat.le_of_ble_eq_true rfl, Nat.le_of_ble_eq_true rfl⟩ rfl hF (fun x111 h110 hF => ?_)
            refine jj_iadd (pc' := 139) dX0_nextFrom_138 rfl ?_
            refine jj_iconst (v := (1 : Int32)) (pc' := 140) dX0_nextFrom_139 rfl rfl ?_
            refine jj_iload (j := 0) (i := 8) (pc' := 142) dX0_nextFrom_140 rfl rfl ?_
            refine jj_isub (pc' := 143) dX0_nextFrom_142 rfl ?_
            refine jj_aload_n (j := 2) (i := 0) (pc' := 144) dX0_nextFrom_143 rfl rfl rfl ?_
            refine jj_gR (C := RX0) (T := TX0) (N := 10) (ci := 0) (k := 0) (pc' := 147) dX0_nextFrom_144 rfl rfl inX0 (by decide) qw_15 hF (fun r112 hF => ?_)
            refine jj_iload_n (j := 3) (i := 1) (pc' := 148) dX0_nextFrom_147 rfl rfl rfl ?_
            refine jj_iconst (v := (1 : Int32)) (pc' := 149) dX0_nextFrom_148 rfl rfl ?_
            refine jj_cI (N := M_X2_at) (kc' := 0) (ks' := 0) (pc' := 152) (jg_V (N := M_X2_at) (ci := 2) (rest := [.int (((1 : Int32)) - x106), .int (x108 + x111)]) (as := [.int x1, .int ((1 : Int32))]) cf_X0_60 dX0_nextFrom_149 ⟨rfl, rfl⟩ rfl rfl ⟨Nat.le_of_ble_eq_true rfl, Nat.le_of_ble_eq_true rfl⟩ ⟨Nat.le_of_ble_eq_true rfl, Nat.le_of_ble_eq_true rfl⟩ (Nat.le_of_ble_eq_true rfl) (fun X' hX => KX2_at hX)) rfl rfl rfl rfl ⟨Nat.le_of_ble_eq_true rfl, Nat.le_of_ble_eq_true rfl⟩ rfl hF (fun x114 h113 hF => ?_)
            refine jj_imul (pc' := 153) dX0_nextFrom_152 rfl ?_
            refine jj_iadd (pc' := 154) dX0_nextFrom_153 rfl ?_
            refine jj_istore (i := 5) (ls' := [(5, .int ((x108 + x111) + ((((1 : Int32)) - x106) * x114))), (8, .int x106), (7, .int x104), (0, .ref a0), (1, .int x1), (2, .int x2), (4, .int x4), (6, .int x6)]) (pc' := 156) dX0_nextFrom_154 (Nat.le_of_ble_eq_true rfl) rfl rfl ?_
            refine jj_iinc (i := 6) (j := 7) (v := x6 + (1 : Int32)) (ls' := [(6, .int (x6 + (1 : Int32))), (5, .int ((x108 + x111) + ((((1 : Int32)) - x106) * x114))), (8, .int x106), (7, .int x104), (0, .ref a0), (1, .int x1), (2, .int x2), (4, .int x4)]) (pc' := 159) dX0_nextFrom_156 rfl rfl (Nat.le_of_ble_eq_true rfl) rfl rfl ?_
            refine jj_goto (tgt := 27) dX0_nextFrom_159 rfl ?_
            exact jj_pick [4, 5, 6, 7, 1, 0] rfl (ih a0 x1 x2 x4 ((x108 + x111) + ((((1 : Int32)) - x106) * x114)) (x6 + (1 : Int32)) h113 _ hF)
          · skip
            refine jj_iload (j := 5) (i := 5) (pc' := 108) dX0_nextFrom_106 rfl rfl ?_
            exact jj_retI (ty := .int) rfl rfl dX0_nextFrom_108 ⟨Nat.le_of_ble_eq_true rfl, Nat.le_of_ble_eq_true rfl⟩ hF
        · skip
          refine jj_aload_n (j := 1) (i := 0) (pc' := 68) dX0_nextFrom_67 rfl rfl rfl ?_
          refine jj_iload (j := 0) (i := 7) (pc' := 70) dX0_nextFrom_68 rfl rfl ?_
          refine jj_cI (N := M_X0_endOf) (kc' := 0) (ks' := 0) (pc' := 73) (jg_V (N := M_X0_endOf) (ci := 0) (rest := []) (as := [.int x102]) cf_X0_87 dX0_nextFrom_70 ⟨rfl, rfl⟩ rfl rfl ⟨Nat.le_of_ble_eq_true rfl, Nat.le_of_ble_eq_true rfl⟩ ⟨Nat.le_of_ble_eq_true rfl, Nat.le_of_ble_eq_true rfl⟩ (Nat.le_of_ble_eq_true rfl) (fun X' hX => KX0_endOf hX)) rfl rfl rfl rfl ⟨Nat.le_of_ble_eq_true rfl, Nat.le_of_ble_eq_true rfl⟩ rfl hF (fun x116 h115 hF => ?_)
          refine jj_aload_n (j := 1) (i := 0) (pc' := 74) dX0_nextFrom_73 rfl rfl rfl ?_
          refine jj_gR (C := RX0) (T := TX0) (N := 10) (ci := 0) (k := 2) (pc' := 77) dX0_nextFrom_74 rfl rfl inX0 (by decide) qw_17 hF (fun r117 hF => ?_)
          refine jj_iconst (v := (1 : Int32)) (pc' := 78) dX0_nextFrom_77 rfl rfl ?_
          refine jj_iconst (v := (0 : Int32)) (pc' := 79) dX0_nextFrom_78 rfl rfl ?_
          refine jj_cI (N := M_X2_at) (kc' := 0) (ks' := 0) (pc' := 82) (jg_V (N := M_X2_at) (ci := 2) (rest := [.int x116]) (as := [.int ((1 : Int32)), .int ((0 : Int32))]) cf_X0_60 dX0_nextFrom_79 ⟨rfl, rfl⟩ rfl rfl ⟨Nat.le_of_ble_eq_true rfl, Nat.le_of_ble_eq_true rfl⟩ ⟨Nat.le_of_ble_eq_true rfl, Nat.le_of_ble_eq_true rfl⟩ (Nat.le_of_ble_eq_true rfl) (fun X' hX => KX2_at hX)) rfl rfl rfl rfl ⟨Nat.le_of_ble_eq_true rfl, Nat.le_of_ble_eq_true rfl⟩ rfl hF (fun x119 h118 hF => ?_)
          refine jj_iadd (pc' := 83) dX0_nextFrom_82 rfl ?_
          refine jj_istore (i := 5) (ls' := [(5, .int (x116 + x119)), (7, .int x102), (0, .ref a0), (1, .int x1), (2, .int x2), (4, .int x4), (6, .int x6)]) (pc' := 85) dX0_nextFrom_83 (Nat.le_of_ble_eq_true rfl) rfl rfl ?_
          refine jj_goto (tgt := 156) dX0_nextFrom_85 rfl ?_
          refine jj_iinc (i := 6) (j := 6) (v := x6 + (1 : Int32)) (ls' := [(6, .int (x6 + (1 : Int32))), (5, .int (x116 + x119)), (7, .int x102), (0, .ref a0), (1, .int x1), (2, .int x2), (4, .int x4)]) (pc' := 159) dX0_nextFrom_156 rfl rfl (Nat.le_of_ble_eq_true rfl) rfl rfl ?_
          refine jj_goto (tgt := 27) dX0_nextFrom_159 rfl ?_
          exact jj_pick [3, 4, 5, 6, 1, 0] rfl (ih a0 x1 x2 x4 (x116 + x119) (x6 + (1 : Int32)) h118 _ hF)
set_option maxRecDepth 100000 in
set_option maxHeartbeats 4000000 in
theorem JX0_nextFrom {N : Nat} {a0 : Nat} {x1 : Int32} {x2 : Int32} {x3 : Int32} {h : jm_H} {X : jm_X} (hF : FX0_nextFrom N a0 x1 x2 x3 h = some X) : jm_J M_X0_nextFrom 0 [(0, .ref a0), (1, .int x1), (2, .int x2), (3, .int x3)] [] h 0 0 X := by
  unfold FX0_nextFrom at hF
  refine jj_aload_n (j := 0) (i := 0) (pc' := 1) dX0_nextFrom_0 rfl rfl rfl ?_
  refine jj_gR (C := RX0) (T := TX0) (N := 10) (ci := 0) (k := 3) (pc' := 4) dX0_nextFrom_1 rfl rfl inX0 (by decide) qw_18 hF (fun r101 hF => ?_)
  refine jj_gI (C := RX2) (T := TX2) (N := 3) (ci := 2) (k := 2) (pc' := 7) dX0_nextFrom_4 rfl rfl inX2 (by decide) qw_47 hF (fun x102 hF => ?_)
  refine jj_bipush (v := (12 : Int32)) (pc' := 9) dX0_nextFrom_7 rfl rfl ?_
  refine jj_icmp_lt (tgt := 14) (pc' := 12) dX0_nextFrom_9 rfl rfl (fun hc hF => ?_) (fun hc hF => ?_) hF
  · skip
    refine jj_aload_n (j := 0) (i := 0) (pc' := 15) dX0_nextFrom_14 rfl rfl rfl ?_
    refine jj_iload_n (j := 1) (i := 1) (pc' := 16) dX0_nextFrom_15 rfl rfl rfl ?_
    refine jj_cI (N := M_X0_lengthOf) (kc' := 0) (ks' := 0) (pc' := 19) (jg_V (N := M_X0_lengthOf) (ci := 0) (rest := []) (as := [.int x1]) cf_X0_104 dX0_nextFrom_16 ⟨rfl, rfl⟩ rfl rfl ⟨Nat.le_of_ble_eq_true rfl, Nat.le_of_ble_eq_true rfl⟩ ⟨Nat.le_of_ble_eq_true rfl, Nat.le_of_ble_eq_true rfl⟩ (Nat.le_of_ble_eq_true rfl) (fun X' hX => KX0_lengthOf hX)) rfl rfl rfl rfl ⟨Nat.le_of_ble_eq_true rfl, Nat.le_of_ble_eq_true rfl⟩ rfl hF (fun x104 h103 hF => ?_)
    refine jj_istore (i := 4) (ls' := [(4, .int x104), (0, .ref a0), (1, .int x1), (2, .int x2), (3, .int x3)]) (pc' := 21) dX0_nextFrom_19 (Nat.le_of_ble_eq_true rfl) rfl rfl ?_
    refine jj_iload_n (j := 4) (i := 3) (pc' := 22) dX0_nextFrom_21 rfl rfl rfl ?_
    refine jj_istore (i := 5) (ls' := [(5, .int x3), (4, .int x104), (0, .ref a0), (1, .int x1), (2, .int x2), (3, .int x3)]) (pc' := 24) dX0_nextFrom_22 (Nat.le_of_ble_eq_true rfl) rfl rfl ?_
    refine jj_iconst (v := (0 : Int32)) (pc' := 25) dX0_nextFrom_24 rfl rfl ?_
    refine jj_istore (i := 6) (ls' := [(6, .int ((0 : Int32))), (5, .int x3), (4, .int x104), (0, .ref a0), (1, .int x1), (2, .int x2), (3, .int x3)]) (pc' := 27) dX0_nextFrom_25 (Nat.le_of_ble_eq_true rfl) rfl rfl ?_
    exact jj_pick [3, 4, 5, 2, 1, 0] rfl (BX0_nextFrom_27 N N a0 x1 x2 x104 x3 ((0 : Int32)) h103 _ hF)
  · skip
    refine jj_iconst (v := (-1 : Int32)) (pc' := 13) dX0_nextFrom_12 rfl rfl ?_
    exact jj_retI (ty := .int) rfl rfl dX0_nextFrom_13 ⟨Nat.le_of_ble_eq_true rfl, Nat.le_of_ble_eq_true rfl⟩ hF
theorem KX0_nextFrom {N : Nat} {a0 : Nat} {x1 : Int32} {x2 : Int32} {x3 : Int32} {h : jm_H} {X : jm_X} (hF : FX0_nextFrom N a0 x1 x2 x3 h = some X) : jm_K M_X0_nextFrom [.ref a0, .int x1, .int x2, .int x3] h X := jk_of rfl (by decide +kernel) rfl rfl (Nat.le_of_ble_eq_true rfl) (JX0_nextFrom hF)
set_option maxRecDepth 100000 in
set_option maxHeartbeats 4000000 in
theorem JX3_nextStart {N : Nat} {a0 : Nat} {x1 : Int32} {x2 : Int32} {x3 : Int32} {h : jm_H} {X : jm_X} (hF : FX3_nextStart N a0 x1 x2 x3 h = some X) : jm_J M_X3_nextStart 0 [(0, .ref a0), (1, .int x1), (2, .int x2), (3, .int x3)] [] h 0 0 X := by
  unfold FX3_nextStart at hF
  refine jj_aload_n (j := 0) (i := 0) (pc' := 1) dX3_nextStart_0 rfl rfl rfl ?_
  refine jj_iload_n (j := 1) (i := 1) (pc' := 2) dX3_nextStart_1 rfl rfl rfl ?_
  refine jj_cV (N := M_X3_requireFilm) (kc' := 1) (ks' := 6) (pc' := 5) (jg_V (N := M_X3_requireFilm) (ci := 3) (rest := []) (as := [.int x1]) cf_X3_85 dX3_nextStart_2 ⟨rfl, rfl⟩ rfl rfl ⟨Nat.le_of_ble_eq_true rfl, Nat.le_of_ble_eq_true rfl⟩ ⟨Nat.le_of_ble_eq_true rfl, Nat.le_of_ble_eq_true rfl⟩ (Nat.le_of_ble_eq_true rfl) (fun X' hX => KX3_requireFilm hX)) rfl rfl rfl rfl ⟨Nat.le_of_ble_eq_true rfl, Nat.le_of_ble_eq_true rfl⟩ rfl hF (fun h101 hF => ?_)
  refine jj_iload_n (j := 2) (i := 2) (pc' := 6) dX3_nextStart_5 rfl rfl rfl ?_
  refine jj_cV (N := M_X3_requireScreen) (kc' := 2) (ks' := 12) (pc' := 9) (jg_S (N := M_X3_requireScreen) (rest := []) (as := [.int x2]) cf_X3_66 rfl dX3_nextStart_6 rfl rfl ⟨Nat.le_of_ble_eq_true rfl, Nat.le_of_ble_eq_true rfl⟩ ⟨Nat.le_of_ble_eq_true rfl, Nat.le_of_ble_eq_true rfl⟩ (Nat.le_of_ble_eq_true rfl) (fun X' hX => KX3_requireScreen hX)) rfl rfl rfl rfl ⟨Nat.le_of_ble_eq_true rfl, Nat.le_of_ble_eq_true rfl⟩ rfl hF (fun h102 hF => ?_)
  refine jj_iload_n (j := 3) (i := 3) (pc' := 10) dX3_nextStart_9 rfl rfl rfl ?_
  refine jj_cV (N := M_X3_requireMinute) (kc' := 3) (ks' := 18) (pc' := 13) (jg_S (N := M_X3_requireMinute) (rest := []) (as := [.int x3]) cf_X3_88 rfl dX3_nextStart_10 rfl rfl ⟨Nat.le_of_ble_eq_true rfl, Nat.le_of_ble_eq_true rfl⟩ ⟨Nat.le_of_ble_eq_true rfl, Nat.le_of_ble_eq_true rfl⟩ (Nat.le_of_ble_eq_true rfl) (fun X' hX => KX3_requireMinute hX)) rfl rfl rfl rfl ⟨Nat.le_of_ble_eq_true rfl, Nat.le_of_ble_eq_true rfl⟩ rfl hF (fun h103 hF => ?_)
  refine jj_aload_n (j := 0) (i := 0) (pc' := 14) dX3_nextStart_13 rfl rfl rfl ?_
  refine jj_gR (C := RX3) (T := TX3) (N := 8) (ci := 3) (k := 0) (pc' := 17) dX3_nextStart_14 rfl rfl inX3 (by decide) qw_29 hF (fun r104 hF => ?_)
  refine jj_iload_n (j := 1) (i := 1) (pc' := 18) dX3_nextStart_17 rfl rfl rfl ?_
  refine jj_iload_n (j := 2) (i := 2) (pc' := 19) dX3_nextStart_18 rfl rfl rfl ?_
  refine jj_iload_n (j := 3) (i := 3) (pc' := 20) dX3_nextStart_19 rfl rfl rfl ?_
  refine jj_cI (N := M_X0_nextFrom) (kc' := 3) (ks' := 18) (pc' := 23) (jg_V (N := M_X0_nextFrom) (ci := 0) (rest := []) (as := [.int x1, .int x2, .int x3]) cf_X3_225 dX3_nextStart_20 ⟨rfl, rfl⟩ rfl rfl ⟨Nat.le_of_ble_eq_true rfl, Nat.le_of_ble_eq_true rfl⟩ ⟨Nat.le_of_ble_eq_true rfl, Nat.le_of_ble_eq_true rfl⟩ (Nat.le_of_ble_eq_true rfl) (fun X' hX => KX0_nextFrom hX)) rfl rfl rfl rfl ⟨Nat.le_of_ble_eq_true rfl, Nat.le_of_ble_eq_true rfl⟩ rfl hF (fun x106 h105 hF => ?_)
  exact jj_retI (ty := .int) rfl rfl dX3_nextStart_23 ⟨Nat.le_of_ble_eq_true rfl, Nat.le_of_ble_eq_true rfl⟩ hF
theorem KX3_nextStart {N : Nat} {a0 : Nat} {x1 : Int32} {x2 : Int32} {x3 : Int32} {h : jm_H} {X : jm_X} (hF : FX3_nextStart N a0 x1 x2 x3 h = some X) : jm_K M_X3_nextStart [.ref a0, .int x1, .int x2, .int x3] h X := jk_of rfl (by decide +kernel) rfl rfl (Nat.le_of_ble_eq_true rfl) (JX3_nextStart hF)
set_option maxRecDepth 100000 in
set_option maxHeartbeats 4000000 in
theorem BX0_bestFrom_8 (N : Nat) : ∀ (n : Nat) (a0 : Nat) (x1 : Int32) (x2 : Int32) (x3 : Int32) (x4 : Int32) (x5 : Int32) (h : jm_H) (X : jm_X), FX0_bestFrom_8 N n a0 x1 x2 x3 x4 x5 h = some X → jm_J M_X0_bestFrom 8 [(0, .ref a0), (1, .int x1), (2, .int x2), (3, .int x3), (4, .int x4), (5, .int x5)] [] h 0 0 X := by
  intro n
  induction n with
  | zero =>
    intro a0 x1 x2 x3 x4 x5 h X hF
    exact nomatch (show (none : Option jm_X) = some X from hF)
  | succ n ih =>
    intro a0 x1 x2 x3 x4 x5 h X hF
    rw [FX0_bestFrom_8] at hF
    refine jj_iload (j := 5) (i := 5) (pc' := 10) dX0_bestFrom_8 rfl rfl ?_
    refine jj_iconst (v := (3 : Int32)) (pc' := 11) dX0_bestFrom_10 rfl rfl ?_
    refine jj_icmp_ge (tgt := 87) (pc' := 14) dX0_bestFrom_11 rfl rfl (fun hc hF => ?_) (fun hc hF => ?_) hF
    · skip
      refine jj_iload_n (j := 3) (i := 3) (pc' := 88) dX0_bestFrom_87 rfl rfl rfl ?_
      exact jj_retI (ty := .int) rfl rfl dX0_bestFrom_88 ⟨Nat.le_of_ble_eq_true rfl, Nat.le_of_ble_eq_true rfl⟩ hF
    · skip
      refine jj_aload_n (j := 0) (i := 0) (pc' := 15) dX0_bestFrom_14 rfl rfl rfl ?_
      refine jj_iload_n (j := 1) (i := 1) (pc' := 16) dX0_bestFrom_15 rfl rfl rfl ?_
      refine jj_iload (j := 5) (i := 5) (pc' := 18) dX0_bestFrom_16 rfl rfl ?_
      refine jj_iload_n (j := 2) (i := 2) (pc' := 19) dX0_bestFrom_18 rfl rfl rfl ?_
      refine jj_cI (N := M_X0_nextFrom) (kc' := 0) (ks' := 0) (pc' := 22) (jg_V (N := M_X0_nextFrom) (ci := 0) (rest := []) (as := [.int x1, .int x5, .int x2]) cf_X0_120 dX0_bestFrom_19 ⟨rfl, rfl⟩ rfl rfl ⟨Nat.le_of_ble_eq_true rfl, Nat.le_of_ble_eq_true rfl⟩ ⟨Nat.le_of_ble_eq_true rfl, Nat.le_of_ble_eq_true rfl⟩ (Nat.le_of_ble_eq_true rfl) (fun X' hX => KX0_nextFrom hX)) rfl rfl rfl rfl ⟨Nat.le_of_ble_eq_true rfl, Nat.le_of_ble_eq_true rfl⟩ rfl hF (fun x102 h101 hF => ?_)
      refine jj_istore (i := 6) (ls' := [(6, .int x102), (0, .ref a0), (1, .int x1), (2, .int x2), (3, .int x3), (4, .int x4), (5, .int x5)]) (pc' := 24) dX0_bestFrom_22 (Nat.le_of_ble_eq_true rfl) rfl rfl ?_
      refine jj_iload (j := 0) (i := 6) (pc' := 26) dX0_bestFrom_24 rfl rfl ?_
      refine jj_iconst (v := (-1 : Int32)) (pc' := 27) dX0_bestFrom_26 rfl rfl ?_
      refine jj_icmp_ne (tgt := 33) (pc' := 30) dX0_bestFrom_27 rfl rfl (fun hc hF => ?_) (fun hc hF => ?_) hF
      · skip
        refine jj_iload_n (j := 4) (i := 3) (pc' := 34) dX0_bestFrom_33 rfl rfl rfl ?_
        refine jj_iconst (v := (-1 : Int32)) (pc' := 35) dX0_bestFrom_34 rfl rfl ?_
        refine jj_icmp_eq (tgt := 74) (pc' := 38) dX0_bestFrom_35 rfl rfl (fun hc hF => ?_) (fun hc hF => ?_) hF
        · skip
          refine jj_iload (j := 6) (i := 5) (pc' := 76) dX0_bestFrom_74 rfl rfl ?_
          refine jj_istore_n (i := 3) (ls' := [(3, .int x5), (6, .int x102), (0, .ref a0), (1, .int x1), (2, .int x2), (4, .int x4), (5, .int x5)]) (pc' := 77) dX0_bestFrom_76 rfl (Nat.le_of_ble_eq_true rfl) rfl rfl ?_
          refine jj_iload (j := 1) (i := 6) (pc' := 79) dX0_bestFrom_77 rfl rfl ?_
          refine jj_istore (i := 4) (ls' := [(4, .int x102), (3, .int x5), (6, .int x102), (0, .ref a0), (1, .int x1), (2, .int x2), (5, .int x5)]) (pc' := 81) dX0_bestFrom_79 (Nat.le_of_ble_eq_true rfl) rfl rfl ?_
          refine jj_iinc (i := 5) (j := 6) (v := x5 + (1 : Int32)) (ls' := [(5, .int (x5 + (1 : Int32))), (4, .int x102), (3, .int x5), (6, .int x102), (0, .ref a0), (1, .int x1), (2, .int x2)]) (pc' := 84) dX0_bestFrom_81 rfl rfl (Nat.le_of_ble_eq_true rfl) rfl rfl ?_
          refine jj_goto (tgt := 8) dX0_bestFrom_84 rfl ?_
          exact jj_pick [4, 5, 6, 2, 1, 0] rfl (ih a0 x1 x2 x5 x102 (x5 + (1 : Int32)) h101 _ hF)
        · skip
          refine jj_iload (j := 0) (i := 6) (pc' := 40) dX0_bestFrom_38 rfl rfl ?_
          refine jj_iload (j := 5) (i := 4) (pc' := 42) dX0_bestFrom_40 rfl rfl ?_
          refine jj_icmp_lt (tgt := 74) (pc' := 45) dX0_bestFrom_42 rfl rfl (fun hc hF => ?_) (fun hc hF => ?_) hF
          · skip
            refine jj_iload (j := 6) (i := 5) (pc' := 76) dX0_bestFrom_74 rfl rfl ?_
            refine jj_istore_n (i := 3) (ls' := [(3, .int x5), (6, .int x102), (0, .ref a0), (1, .int x1), (2, .int x2), (4, .int x4), (5, .int x5)]) (pc' := 77) dX0_bestFrom_76 rfl (Nat.le_of_ble_eq_true rfl) rfl rfl ?_
            refine jj_iload (j := 1) (i := 6) (pc' := 79) dX0_bestFrom_77 rfl rfl ?_
            refine jj_istore (i := 4) (ls' := [(4, .int x102), (3, .int x5), (6, .int x102), (0, .ref a0), (1, .int x1), (2, .int x2), (5, .int x5)]) (pc' := 81) dX0_bestFrom_79 (Nat.le_of_ble_eq_true rfl) rfl rfl ?_
            refine jj_iinc (i := 5) (j := 6) (v := x5 + (1 : Int32)) (ls' := [(5, .int (x5 + (1 : Int32))), (4, .int x102), (3, .int x5), (6, .int x102), (0, .ref a0), (1, .int x1), (2, .int x2)]) (pc' := 84) dX0_bestFrom_81 rfl rfl (Nat.le_of_ble_eq_true rfl) rfl rfl ?_
            refine jj_goto (tgt := 8) dX0_bestFrom_84 rfl ?_
            exact jj_pick [4, 5, 6, 2, 1, 0] rfl (ih a0 x1 x2 x5 x102 (x5 + (1 : Int32)) h101 _ hF)
          · skip
            refine jj_iload (j := 0) (i := 6) (pc' := 47) dX0_bestFrom_45 rfl rfl ?_
            refine jj_iload (j := 5) (i := 4) (pc' := 49) dX0_bestFrom_47 rfl rfl ?_
            refine jj_icmp_ne (tgt := 81) (pc' := 52) dX0_bestFrom_49 rfl rfl (fun hc hF => ?_) (fun hc hF => ?_) hF
            · skip
              refine jj_iinc (i := 5) (j := 6) (v := x5 + (1 : Int32)) (ls' := [(5, .int (x5 + (1 : Int32))), (6, .int x102), (0, .ref a0), (1, .int x1), (2, .int x2), (3, .int x3), (4, .int x4)]) (pc' := 84) dX0_bestFrom_81 rfl rfl (Nat.le_of_ble_eq_true rfl) rfl rfl ?_
              refine jj_goto (tgt := 8) dX0_bestFrom_84 rfl ?_
              exact jj_pick [2, 3, 4, 5, 6, 0] rfl (ih a0 x1 x2 x3 x4 (x5 + (1 : Int32)) h101 _ hF)
            · skip
              refine jj_aload_n (j := 1) (i := 0) (pc' := 53) dX0_bestFrom_52 rfl rfl rfl ?_
              refine jj_gR (C := RX0) (T := TX0) (N := 10) (ci := 0) (k := 1) (pc' := 56) dX0_bestFrom_53 rfl rfl inX0 (by decide) qw_16 hF (fun r103 hF => ?_)
              refine jj_iload (j := 6) (i := 5) (pc' := 58) dX0_bestFrom_56 rfl rfl ?_
              refine jj_iconst (v := (0 : Int32)) (pc' := 59) dX0_bestFrom_58 rfl rfl ?_
              refine jj_cI (N := M_X2_at) (kc' := 0) (ks' := 0) (pc' := 62) (jg_V (N := M_X2_at) (ci := 2) (rest := []) (as := [.int x5, .int ((0 : Int32))]) cf_X0_60 dX0_bestFrom_59 ⟨rfl, rfl⟩ rfl rfl ⟨Nat.le_of_ble_eq_true rfl, Nat.le_of_ble_eq_true rfl⟩ ⟨Nat.le_of_ble_eq_true rfl, Nat.le_of_ble_eq_true rfl⟩ (Nat.le_of_ble_eq_true rfl) (fun X' hX => KX2_at hX)) rfl rfl rfl rfl ⟨Nat.le_of_ble_eq_true rfl, Nat.le_of_ble_eq_true rfl⟩ rfl hF (fun x105 h104 hF => ?_)
              refine jj_aload_n (j := 1) (i := 0) (pc' := 63) dX0_bestFrom_62 rfl rfl rfl ?_
              refine jj_gR (C := RX0) (T := TX0) (N := 10) (ci := 0) (k := 1) (pc' := 66) dX0_bestFrom_63 rfl rfl inX0 (by decide) qw_16 hF (fun r106 hF => ?_)
              refine jj_iload_n (j := 4) (i := 3) (pc' := 67) dX0_bestFrom_66 rfl rfl rfl ?_
              refine jj_iconst (v := (0 : Int32)) (pc' := 68) dX0_bestFrom_67 rfl rfl ?_
              refine jj_cI (N := M_X2_at) (kc' := 0) (ks' := 0) (pc' := 71) (jg_V (N := M_X2_at) (ci := 2) (rest := [.int x105]) (as := [.int x3, .int ((0 : Int32))]) cf_X0_60 dX0_bestFrom_68 ⟨rfl, rfl⟩ rfl rfl ⟨Nat.le_of_ble_eq_true rfl, Nat.le_of_ble_eq_true rfl⟩ ⟨Nat.le_of_ble_eq_true rfl, Nat.le_of_ble_eq_true rfl⟩ (Nat.le_of_ble_eq_true rfl) (fun X' hX => KX2_at hX)) rfl rfl rfl rfl ⟨Nat.le_of_ble_eq_true rfl, Nat.le_of_ble_eq_true rfl⟩ rfl hF (fun x108 h107 hF => ?_)
              refine jj_icmp_le (tgt := 81) (pc' := 74) dX0_bestFrom_71 rfl rfl (fun hc hF => ?_) (fun hc hF => ?_) hF
              · skip
                refine jj_iinc (i := 5) (j := 6) (v := x5 + (1 : Int32)) (ls' := [(5, .int (x5 + (1 : Int32))), (6, .int x102), (0, .ref a0), (1, .int x1), (2, .int x2), (3, .int x3), (4, .int x4)]) (pc' := 84) dX0_bestFrom_81 rfl rfl (Nat.le_of_ble_eq_true rfl) rfl rfl ?_
                refine jj_goto (tgt := 8) dX0_bestFrom_84 rfl ?_
                exact jj_pick [2, 3, 4, 5, 6, 0] rfl (ih a0 x1 x2 x3 x4 (x5 + (1 : Int32)) h107 _ hF)
              · skip
                refine jj_iload (j := 6) (i := 5) (pc' := 76) dX0_bestFrom_74 rfl rfl ?_
                refine jj_istore_n (i := 3) (ls' := [(3, .int x5), (6, .int x102), (0, .ref a0), (1, .int x1), (2, .int x2), (4, .int x4), (5, .int x5)]) (pc' := 77) dX0_bestFrom_76 rfl (Nat.le_of_ble_eq_true rfl) rfl rfl ?_
                refine jj_iload (j := 1) (i := 6) (pc' := 79) dX0_bestFrom_77 rfl rfl ?_
                refine jj_istore (i := 4) (ls' := [(4, .int x102), (3, .int x5), (6, .int x102), (0, .ref a0), (1, .int x1), (2, .int x2), (5, .int x5)]) (pc' := 81) dX0_bestFrom_79 (Nat.le_of_ble_eq_true rfl) rfl rfl ?_
                refine jj_iinc (i := 5) (j := 6) (v := x5 + (1 : Int32)) (ls' := [(5, .int (x5 + (1 : Int32))), (4, .int x102), (3, .int x5), (6, .int x102), (0, .ref a0), (1, .int x1), (2, .int x2)]) (pc' := 84) dX0_bestFrom_81 rfl rfl (Nat.le_of_ble_eq_true rfl) rfl rfl ?_
                refine jj_goto (tgt := 8) dX0_bestFrom_84 rfl ?_
                exact jj_pick [4, 5, 6, 2, 1, 0] rfl (ih a0 x1 x2 x5 x102 (x5 + (1 : Int32)) h107 _ hF)
      · skip
        refine jj_goto (tgt := 81) dX0_bestFrom_30 rfl ?_
        refine jj_iinc (i := 5) (j := 6) (v := x5 + (1 : Int32)) (ls' := [(5, .int (x5 + (1 : Int32))), (6, .int x102), (0, .ref a0), (1, .int x1), (2, .int x2), (3, .int x3), (4, .int x4)]) (pc' := 84) dX0_bestFrom_81 rfl rfl (Nat.le_of_ble_eq_true rfl) rfl rfl ?_
        refine jj_goto (tgt := 8) dX0_bestFrom_84 rfl ?_
        exact jj_pick [2, 3, 4, 5, 6, 0] rfl (ih a0 x1 x2 x3 x4 (x5 + (1 : Int32)) h101 _ hF)
set_option maxRecDepth 100000 in
set_option maxHeartbeats 4000000 in
theorem JX0_bestFrom {N : Nat} {a0 : Nat} {x1 : Int32} {x2 : Int32} {h : jm_H} {X : jm_X} (hF : FX0_bestFrom N a0 x1 x2 h = some X) : jm_J M_X0_bestFrom 0 [(0, .ref a0), (1, .int x1), (2, .int x2)] [] h 0 0 X := by
  unfold FX0_bestFrom at hF
  refine jj_iconst (v := (-1 : Int32)) (pc' := 1) dX0_bestFrom_0 rfl rfl ?_
  refine jj_istore_n (i := 3) (ls' := [(3, .int ((-1 : Int32))), (0, .ref a0), (1, .int x1), (2, .int x2)]) (pc' := 2) dX0_bestFrom_1 rfl (Nat.le_of_ble_eq_true rfl) rfl rfl ?_
  refine jj_iconst (v := (-1 : Int32)) (pc' := 3) dX0_bestFrom_2 rfl rfl ?_
  refine jj_istore (i := 4) (ls' := [(4, .int ((-1 : Int32))), (3, .int ((-1 : Int32))), (0, .ref a0), (1, .int x1), (2, .int x2)]) (pc' := 5) dX0_bestFrom_3 (Nat.le_of_ble_eq_true rfl) rfl rfl ?_
  refine jj_iconst (v := (0 : Int32)) (pc' := 6) dX0_bestFrom_5 rfl rfl ?_
  refine jj_istore (i := 5) (ls' := [(5, .int ((0 : Int32))), (4, .int ((-1 : Int32))), (3, .int ((-1 : Int32))), (0, .ref a0), (1, .int x1), (2, .int x2)]) (pc' := 8) dX0_bestFrom_6 (Nat.le_of_ble_eq_true rfl) rfl rfl ?_
  exact jj_pick [3, 4, 5, 2, 1, 0] rfl (BX0_bestFrom_8 N N a0 x1 x2 ((-1 : Int32)) ((-1 : Int32)) ((0 : Int32)) h _ hF)
theorem KX0_bestFrom {N : Nat} {a0 : Nat} {x1 : Int32} {x2 : Int32} {h : jm_H} {X : jm_X} (hF : FX0_bestFrom N a0 x1 x2 h = some X) : jm_K M_X0_bestFrom [.ref a0, .int x1, .int x2] h X := jk_of rfl (by decide +kernel) rfl rfl (Nat.le_of_ble_eq_true rfl) (JX0_bestFrom hF)
set_option maxRecDepth 100000 in
set_option maxHeartbeats 4000000 in
theorem JX3_bestScreen {N : Nat} {a0 : Nat} {x1 : Int32} {x2 : Int32} {h : jm_H} {X : jm_X} (hF : FX3_bestScreen N a0 x1 x2 h = some X) : jm_J M_X3_bestScreen 0 [(0, .ref a0), (1, .int x1), (2, .int x2)] [] h 0 0 X := by
  unfold FX3_bestScreen at hF
  refine jj_aload_n (j := 0) (i := 0) (pc' := 1) dX3_bestScreen_0 rfl rfl rfl ?_
  refine jj_iload_n (j := 1) (i := 1) (pc' := 2) dX3_bestScreen_1 rfl rfl rfl ?_
  refine jj_cV (N := M_X3_requireFilm) (kc' := 1) (ks' := 6) (pc' := 5) (jg_V (N := M_X3_requireFilm) (ci := 3) (rest := []) (as := [.int x1]) cf_X3_85 dX3_bestScreen_2 ⟨rfl, rfl⟩ rfl rfl ⟨Nat.le_of_ble_eq_true rfl, Nat.le_of_ble_eq_true rfl⟩ ⟨Nat.le_of_ble_eq_true rfl, Nat.le_of_ble_eq_true rfl⟩ (Nat.le_of_ble_eq_true rfl) (fun X' hX => KX3_requireFilm hX)) rfl rfl rfl rfl ⟨Nat.le_of_ble_eq_true rfl, Nat.le_of_ble_eq_true rfl⟩ rfl hF (fun h101 hF => ?_)
  refine jj_iload_n (j := 2) (i := 2) (pc' := 6) dX3_bestScreen_5 rfl rfl rfl ?_
  refine jj_cV (N := M_X3_requireMinute) (kc' := 2) (ks' := 12) (pc' := 9) (jg_S (N := M_X3_requireMinute) (rest := []) (as := [.int x2]) cf_X3_88 rfl dX3_bestScreen_6 rfl rfl ⟨Nat.le_of_ble_eq_true rfl, Nat.le_of_ble_eq_true rfl⟩ ⟨Nat.le_of_ble_eq_true rfl, Nat.le_of_ble_eq_true rfl⟩ (Nat.le_of_ble_eq_true rfl) (fun X' hX => KX3_requireMinute hX)) rfl rfl rfl rfl ⟨Nat.le_of_ble_eq_true rfl, Nat.le_of_ble_eq_true rfl⟩ rfl hF (fun h102 hF => ?_)
  refine jj_aload_n (j := 0) (i := 0) (pc' := 10) dX3_bestScreen_9 rfl rfl rfl ?_
  refine jj_gR (C := RX3) (T := TX3) (N := 8) (ci := 3) (k := 0) (pc' := 13) dX3_bestScreen_10 rfl rfl inX3 (by decide) qw_29 hF (fun r103 hF => ?_)
  refine jj_iload_n (j := 1) (i := 1) (pc' := 14) dX3_bestScreen_13 rfl rfl rfl ?_
  refine jj_iload_n (j := 2) (i := 2) (pc' := 15) dX3_bestScreen_14 rfl rfl rfl ?_
  refine jj_cI (N := M_X0_bestFrom) (kc' := 2) (ks' := 12) (pc' := 18) (jg_V (N := M_X0_bestFrom) (ci := 0) (rest := []) (as := [.int x1, .int x2]) cf_X3_228 dX3_bestScreen_15 ⟨rfl, rfl⟩ rfl rfl ⟨Nat.le_of_ble_eq_true rfl, Nat.le_of_ble_eq_true rfl⟩ ⟨Nat.le_of_ble_eq_true rfl, Nat.le_of_ble_eq_true rfl⟩ (Nat.le_of_ble_eq_true rfl) (fun X' hX => KX0_bestFrom hX)) rfl rfl rfl rfl ⟨Nat.le_of_ble_eq_true rfl, Nat.le_of_ble_eq_true rfl⟩ rfl hF (fun x105 h104 hF => ?_)
  exact jj_retI (ty := .int) rfl rfl dX3_bestScreen_18 ⟨Nat.le_of_ble_eq_true rfl, Nat.le_of_ble_eq_true rfl⟩ hF
theorem KX3_bestScreen {N : Nat} {a0 : Nat} {x1 : Int32} {x2 : Int32} {h : jm_H} {X : jm_X} (hF : FX3_bestScreen N a0 x1 x2 h = some X) : jm_K M_X3_bestScreen [.ref a0, .int x1, .int x2] h X := jk_of rfl (by decide +kernel) rfl rfl (Nat.le_of_ble_eq_true rfl) (JX3_bestScreen hF)
set_option maxRecDepth 100000 in
set_option maxHeartbeats 4000000 in
theorem BX0_moreGreeters_19 (N : Nat) : ∀ (n : Nat) (a0 : Nat) (x1 : Int32) (x3 : Int32) (x4 : Int32) (x5 : Int32) (h : jm_H) (X : jm_X), FX0_moreGreeters_19 N n a0 x1 x3 x4 x5 h = some X → jm_J M_X0_moreGreeters 19 [(0, .ref a0), (1, .int x1), (3, .int x3), (4, .int x4), (5, .int x5)] [] h 0 0 X := by
  intro n
  induction n with
  | zero =>
    intro a0 x1 x3 x4 x5 h X hF
    exact nomatch (show (none : Option jm_X) = some X from hF)
  | succ n ih =>
    intro a0 x1 x3 x4 x5 h X hF
    rw [FX0_moreGreeters_19] at hF
    refine jj_iload (j := 4) (i := 5) (pc' := 21) dX0_moreGreeters_19 rfl rfl ?_
    refine jj_aload_n (j := 0) (i := 0) (pc' := 22) dX0_moreGreeters_21 rfl rfl rfl ?_
    refine jj_gR (C := RX0) (T := TX0) (N := 10) (ci := 0) (k := 4) (pc' := 25) dX0_moreGreeters_22 rfl rfl inX0 (by decide) qw_19 hF (fun r101 hF => ?_)
    refine jj_gI (C := RX2) (T := TX2) (N := 3) (ci := 2) (k := 2) (pc' := 28) dX0_moreGreeters_25 rfl rfl inX2 (by decide) qw_47 hF (fun x102 hF => ?_)
    refine jj_icmp_ge (tgt := 80) (pc' := 31) dX0_moreGreeters_28 rfl rfl (fun hc hF => ?_) (fun hc hF => ?_) hF
    · skip
      refine jj_iload (j := 3) (i := 4) (pc' := 82) dX0_moreGreeters_80 rfl rfl ?_
      exact jj_retI (ty := .int) rfl rfl dX0_moreGreeters_82 ⟨Nat.le_of_ble_eq_true rfl, Nat.le_of_ble_eq_true rfl⟩ hF
    · skip
      refine jj_aload_n (j := 0) (i := 0) (pc' := 32) dX0_moreGreeters_31 rfl rfl rfl ?_
      refine jj_gR (C := RX0) (T := TX0) (N := 10) (ci := 0) (k := 4) (pc' := 35) dX0_moreGreeters_32 rfl rfl inX0 (by decide) qw_19 hF (fun r103 hF => ?_)
      refine jj_iload (j := 4) (i := 5) (pc' := 37) dX0_moreGreeters_35 rfl rfl ?_
      refine jj_iconst (v := (0 : Int32)) (pc' := 38) dX0_moreGreeters_37 rfl rfl ?_
      refine jj_cI (N := M_X2_at) (kc' := 0) (ks' := 0) (pc' := 41) (jg_V (N := M_X2_at) (ci := 2) (rest := []) (as := [.int x5, .int ((0 : Int32))]) cf_X0_60 dX0_moreGreeters_38 ⟨rfl, rfl⟩ rfl rfl ⟨Nat.le_of_ble_eq_true rfl, Nat.le_of_ble_eq_true rfl⟩ ⟨Nat.le_of_ble_eq_true rfl, Nat.le_of_ble_eq_true rfl⟩ (Nat.le_of_ble_eq_true rfl) (fun X' hX => KX2_at hX)) rfl rfl rfl rfl ⟨Nat.le_of_ble_eq_true rfl, Nat.le_of_ble_eq_true rfl⟩ rfl hF (fun x105 h104 hF => ?_)
      refine jj_iload_n (j := 1) (i := 1) (pc' := 42) dX0_moreGreeters_41 rfl rfl rfl ?_
      refine jj_icmp_ne (tgt := 74) (pc' := 45) dX0_moreGreeters_42 rfl rfl (fun hc hF => ?_) (fun hc hF => ?_) hF
      · skip
        refine jj_iinc (i := 5) (j := 4) (v := x5 + (1 : Int32)) (ls' := [(5, .int (x5 + (1 : Int32))), (0, .ref a0), (1, .int x1), (3, .int x3), (4, .int x4)]) (pc' := 77) dX0_moreGreeters_74 rfl rfl (Nat.le_of_ble_eq_true rfl) rfl rfl ?_
        refine jj_goto (tgt := 19) dX0_moreGreeters_77 rfl ?_
        exact jj_pick [1, 2, 3, 4, 0] rfl (ih a0 x1 x3 x4 (x5 + (1 : Int32)) h104 _ hF)
      · skip
        refine jj_aload_n (j := 0) (i := 0) (pc' := 46) dX0_moreGreeters_45 rfl rfl rfl ?_
        refine jj_iload (j := 4) (i := 5) (pc' := 48) dX0_moreGreeters_46 rfl rfl ?_
        refine jj_iload_n (j := 2) (i := 3) (pc' := 49) dX0_moreGreeters_48 rfl rfl rfl ?_
        refine jj_aload_n (j := 0) (i := 0) (pc' := 50) dX0_moreGreeters_49 rfl rfl rfl ?_
        refine jj_iload_n (j := 1) (i := 1) (pc' := 51) dX0_moreGreeters_50 rfl rfl rfl ?_
        refine jj_cI (N := M_X0_lengthOf) (kc' := 0) (ks' := 0) (pc' := 54) (jg_V (N := M_X0_lengthOf) (ci := 0) (rest := [.int x3, .int x5, .ref a0]) (as := [.int x1]) cf_X0_104 dX0_moreGreeters_51 ⟨rfl, rfl⟩ rfl rfl ⟨Nat.le_of_ble_eq_true rfl, Nat.le_of_ble_eq_true rfl⟩ ⟨Nat.le_of_ble_eq_true rfl, Nat.le_of_ble_eq_true rfl⟩ (Nat.le_of_ble_eq_true rfl) (fun X' hX => KX0_lengthOf hX)) rfl rfl rfl rfl ⟨Nat.le_of_ble_eq_true rfl, Nat.le_of_ble_eq_true rfl⟩ rfl hF (fun x107 h106 hF => ?_)
        refine jj_iadd (pc' := 55) dX0_moreGreeters_54 rfl ?_
        refine jj_cI (N := M_X0_fits) (kc' := 0) (ks' := 0) (pc' := 58) (jg_V (N := M_X0_fits) (ci := 0) (rest := []) (as := [.int x5, .int (x3 + x107)]) cf_X0_127 dX0_moreGreeters_55 ⟨rfl, rfl⟩ rfl rfl ⟨Nat.le_of_ble_eq_true rfl, Nat.le_of_ble_eq_true rfl⟩ ⟨Nat.le_of_ble_eq_true rfl, Nat.le_of_ble_eq_true rfl⟩ (Nat.le_of_ble_eq_true rfl) (fun X' hX => KX0_fits hX)) rfl rfl rfl rfl ⟨Nat.le_of_ble_eq_true rfl, Nat.le_of_ble_eq_true rfl⟩ rfl hF (fun x109 h108 hF => ?_)
        refine jj_if_eq (tgt := 74) (pc' := 61) dX0_moreGreeters_58 rfl rfl (fun hc hF => ?_) (fun hc hF => ?_) hF
        · skip
          refine jj_iinc (i := 5) (j := 4) (v := x5 + (1 : Int32)) (ls' := [(5, .int (x5 + (1 : Int32))), (0, .ref a0), (1, .int x1), (3, .int x3), (4, .int x4)]) (pc' := 77) dX0_moreGreeters_74 rfl rfl (Nat.le_of_ble_eq_true rfl) rfl rfl ?_
          refine jj_goto (tgt := 19) dX0_moreGreeters_77 rfl ?_
          exact jj_pick [1, 2, 3, 4, 0] rfl (ih a0 x1 x3 x4 (x5 + (1 : Int32)) h108 _ hF)
        · skip
          refine jj_aload_n (j := 0) (i := 0) (pc' := 62) dX0_moreGreeters_61 rfl rfl rfl ?_
          refine jj_iload (j := 4) (i := 5) (pc' := 64) dX0_moreGreeters_62 rfl rfl ?_
          refine jj_cI (N := M_X0_greetedBy) (kc' := 0) (ks' := 0) (pc' := 67) (jg_V (N := M_X0_greetedBy) (ci := 0) (rest := []) (as := [.int x5]) cf_X0_130 dX0_moreGreeters_64 ⟨rfl, rfl⟩ rfl rfl ⟨Nat.le_of_ble_eq_true rfl, Nat.le_of_ble_eq_true rfl⟩ ⟨Nat.le_of_ble_eq_true rfl, Nat.le_of_ble_eq_true rfl⟩ (Nat.le_of_ble_eq_true rfl) (fun X' hX => KX0_greetedBy hX)) rfl rfl rfl rfl ⟨Nat.le_of_ble_eq_true rfl, Nat.le_of_ble_eq_true rfl⟩ rfl hF (fun x111 h110 hF => ?_)
          refine jj_iconst (v := (-1 : Int32)) (pc' := 68) dX0_moreGreeters_67 rfl rfl ?_
          refine jj_icmp_ne (tgt := 74) (pc' := 71) dX0_moreGreeters_68 rfl rfl (fun hc hF => ?_) (fun hc hF => ?_) hF
          · skip
            refine jj_iinc (i := 5) (j := 4) (v := x5 + (1 : Int32)) (ls' := [(5, .int (x5 + (1 : Int32))), (0, .ref a0), (1, .int x1), (3, .int x3), (4, .int x4)]) (pc' := 77) dX0_moreGreeters_74 rfl rfl (Nat.le_of_ble_eq_true rfl) rfl rfl ?_
            refine jj_goto (tgt := 19) dX0_moreGreeters_77 rfl ?_
            exact jj_pick [1, 2, 3, 4, 0] rfl (ih a0 x1 x3 x4 (x5 + (1 : Int32)) h110 _ hF)
          · skip
            refine jj_iinc (i := 4) (j := 3) (v := x4 + (1 : Int32)) (ls' := [(4, .int (x4 + (1 : Int32))), (0, .ref a0), (1, .int x1), (3, .int x3), (5, .int x5)]) (pc' := 74) dX0_moreGreeters_71 rfl rfl (Nat.le_of_ble_eq_true rfl) rfl rfl ?_
            refine jj_iinc (i := 5) (j := 4) (v := x5 + (1 : Int32)) (ls' := [(5, .int (x5 + (1 : Int32))), (4, .int (x4 + (1 : Int32))), (0, .ref a0), (1, .int x1), (3, .int x3)]) (pc' := 77) dX0_moreGreeters_74 rfl rfl (Nat.le_of_ble_eq_true rfl) rfl rfl ?_
            refine jj_goto (tgt := 19) dX0_moreGreeters_77 rfl ?_
            exact jj_pick [2, 3, 4, 1, 0] rfl (ih a0 x1 x3 (x4 + (1 : Int32)) (x5 + (1 : Int32)) h110 _ hF)
set_option maxRecDepth 100000 in
set_option maxHeartbeats 4000000 in
theorem JX0_moreGreeters {N : Nat} {a0 : Nat} {x1 : Int32} {x2 : Int32} {x3 : Int32} {h : jm_H} {X : jm_X} (hF : FX0_moreGreeters N a0 x1 x2 x3 h = some X) : jm_J M_X0_moreGreeters 0 [(0, .ref a0), (1, .int x1), (2, .int x2), (3, .int x3)] [] h 0 0 X := by
  unfold FX0_moreGreeters at hF
  refine jj_aload_n (j := 0) (i := 0) (pc' := 1) dX0_moreGreeters_0 rfl rfl rfl ?_
  refine jj_iload_n (j := 1) (i := 1) (pc' := 2) dX0_moreGreeters_1 rfl rfl rfl ?_
  refine jj_iload_n (j := 2) (i := 2) (pc' := 3) dX0_moreGreeters_2 rfl rfl rfl ?_
  refine jj_iload_n (j := 3) (i := 3) (pc' := 4) dX0_moreGreeters_3 rfl rfl rfl ?_
  refine jj_iconst (v := (0 : Int32)) (pc' := 5) dX0_moreGreeters_4 rfl rfl ?_
  refine jj_cI (N := M_X0_refusal) (kc' := 0) (ks' := 0) (pc' := 8) (jg_V (N := M_X0_refusal) (ci := 0) (rest := []) (as := [.int x1, .int x2, .int x3, .int ((0 : Int32))]) cf_X0_124 dX0_moreGreeters_5 ⟨rfl, rfl⟩ rfl rfl ⟨Nat.le_of_ble_eq_true rfl, Nat.le_of_ble_eq_true rfl⟩ ⟨Nat.le_of_ble_eq_true rfl, Nat.le_of_ble_eq_true rfl⟩ (Nat.le_of_ble_eq_true rfl) (fun X' hX => KX0_refusal hX)) rfl rfl rfl rfl ⟨Nat.le_of_ble_eq_true rfl, Nat.le_of_ble_eq_true rfl⟩ rfl hF (fun x102 h101 hF => ?_)
  refine jj_if_eq (tgt := 13) (pc' := 11) dX0_moreGreeters_8 rfl rfl (fun hc hF => ?_) (fun hc hF => ?_) hF
  · skip
    refine jj_iconst (v := (0 : Int32)) (pc' := 14) dX0_moreGreeters_13 rfl rfl ?_
    refine jj_istore (i := 4) (ls' := [(4, .int ((0 : Int32))), (0, .ref a0), (1, .int x1), (2, .int x2), (3, .int x3)]) (pc' := 16) dX0_moreGreeters_14 (Nat.le_of_ble_eq_true rfl) rfl rfl ?_
    refine jj_iconst (v := (0 : Int32)) (pc' := 17) dX0_moreGreeters_16 rfl rfl ?_
    refine jj_istore (i := 5) (ls' := [(5, .int ((0 : Int32))), (4, .int ((0 : Int32))), (0, .ref a0), (1, .int x1), (2, .int x2), (3, .int x3)]) (pc' := 19) dX0_moreGreeters_17 (Nat.le_of_ble_eq_true rfl) rfl rfl ?_
    exact jj_pick [2, 3, 5, 1, 0] rfl (BX0_moreGreeters_19 N N a0 x1 x3 ((0 : Int32)) ((0 : Int32)) h101 _ hF)
  · skip
    refine jj_iconst (v := (-1 : Int32)) (pc' := 12) dX0_moreGreeters_11 rfl rfl ?_
    exact jj_retI (ty := .int) rfl rfl dX0_moreGreeters_12 ⟨Nat.le_of_ble_eq_true rfl, Nat.le_of_ble_eq_true rfl⟩ hF
theorem KX0_moreGreeters {N : Nat} {a0 : Nat} {x1 : Int32} {x2 : Int32} {x3 : Int32} {h : jm_H} {X : jm_X} (hF : FX0_moreGreeters N a0 x1 x2 x3 h = some X) : jm_K M_X0_moreGreeters [.ref a0, .int x1, .int x2, .int x3] h X := jk_of rfl (by decide +kernel) rfl rfl (Nat.le_of_ble_eq_true rfl) (JX0_moreGreeters hF)
set_option maxRecDepth 100000 in
set_option maxHeartbeats 4000000 in
theorem JX3_ifShown {N : Nat} {a0 : Nat} {x1 : Int32} {x2 : Int32} {x3 : Int32} {h : jm_H} {X : jm_X} (hF : FX3_ifShown N a0 x1 x2 x3 h = some X) : jm_J M_X3_ifShown 0 [(0, .ref a0), (1, .int x1), (2, .int x2), (3, .int x3)] [] h 0 0 X := by
  unfold FX3_ifShown at hF
  refine jj_aload_n (j := 0) (i := 0) (pc' := 1) dX3_ifShown_0 rfl rfl rfl ?_
  refine jj_iload_n (j := 1) (i := 1) (pc' := 2) dX3_ifShown_1 rfl rfl rfl ?_
  refine jj_cV (N := M_X3_requireFilm) (kc' := 1) (ks' := 6) (pc' := 5) (jg_V (N := M_X3_requireFilm) (ci := 3) (rest := []) (as := [.int x1]) cf_X3_85 dX3_ifShown_2 ⟨rfl, rfl⟩ rfl rfl ⟨Nat.le_of_ble_eq_true rfl, Nat.le_of_ble_eq_true rfl⟩ ⟨Nat.le_of_ble_eq_true rfl, Nat.le_of_ble_eq_true rfl⟩ (Nat.le_of_ble_eq_true rfl) (fun X' hX => KX3_requireFilm hX)) rfl rfl rfl rfl ⟨Nat.le_of_ble_eq_true rfl, Nat.le_of_ble_eq_true rfl⟩ rfl hF (fun h101 hF => ?_)
  refine jj_iload_n (j := 2) (i := 2) (pc' := 6) dX3_ifShown_5 rfl rfl rfl ?_
  refine jj_cV (N := M_X3_requireScreen) (kc' := 2) (ks' := 12) (pc' := 9) (jg_S (N := M_X3_requireScreen) (rest := []) (as := [.int x2]) cf_X3_66 rfl dX3_ifShown_6 rfl rfl ⟨Nat.le_of_ble_eq_true rfl, Nat.le_of_ble_eq_true rfl⟩ ⟨Nat.le_of_ble_eq_true rfl, Nat.le_of_ble_eq_true rfl⟩ (Nat.le_of_ble_eq_true rfl) (fun X' hX => KX3_requireScreen hX)) rfl rfl rfl rfl ⟨Nat.le_of_ble_eq_true rfl, Nat.le_of_ble_eq_true rfl⟩ rfl hF (fun h102 hF => ?_)
  refine jj_iload_n (j := 3) (i := 3) (pc' := 10) dX3_ifShown_9 rfl rfl rfl ?_
  refine jj_cV (N := M_X3_requireMinute) (kc' := 3) (ks' := 18) (pc' := 13) (jg_S (N := M_X3_requireMinute) (rest := []) (as := [.int x3]) cf_X3_88 rfl dX3_ifShown_10 rfl rfl ⟨Nat.le_of_ble_eq_true rfl, Nat.le_of_ble_eq_true rfl⟩ ⟨Nat.le_of_ble_eq_true rfl, Nat.le_of_ble_eq_true rfl⟩ (Nat.le_of_ble_eq_true rfl) (fun X' hX => KX3_requireMinute hX)) rfl rfl rfl rfl ⟨Nat.le_of_ble_eq_true rfl, Nat.le_of_ble_eq_true rfl⟩ rfl hF (fun h103 hF => ?_)
  refine jj_aload_n (j := 0) (i := 0) (pc' := 14) dX3_ifShown_13 rfl rfl rfl ?_
  refine jj_gR (C := RX3) (T := TX3) (N := 8) (ci := 3) (k := 0) (pc' := 17) dX3_ifShown_14 rfl rfl inX3 (by decide) qw_29 hF (fun r104 hF => ?_)
  refine jj_iload_n (j := 1) (i := 1) (pc' := 18) dX3_ifShown_17 rfl rfl rfl ?_
  refine jj_iload_n (j := 2) (i := 2) (pc' := 19) dX3_ifShown_18 rfl rfl rfl ?_
  refine jj_iload_n (j := 3) (i := 3) (pc' := 20) dX3_ifShown_19 rfl rfl rfl ?_
  refine jj_cI (N := M_X0_moreGreeters) (kc' := 3) (ks' := 18) (pc' := 23) (jg_V (N := M_X0_moreGreeters) (ci := 0) (rest := []) (as := [.int x1, .int x2, .int x3]) cf_X3_231 dX3_ifShown_20 ⟨rfl, rfl⟩ rfl rfl ⟨Nat.le_of_ble_eq_true rfl, Nat.le_of_ble_eq_true rfl⟩ ⟨Nat.le_of_ble_eq_true rfl, Nat.le_of_ble_eq_true rfl⟩ (Nat.le_of_ble_eq_true rfl) (fun X' hX => KX0_moreGreeters hX)) rfl rfl rfl rfl ⟨Nat.le_of_ble_eq_true rfl, Nat.le_of_ble_eq_true rfl⟩ rfl hF (fun x106 h105 hF => ?_)
  exact jj_retI (ty := .int) rfl rfl dX3_ifShown_23 ⟨Nat.le_of_ble_eq_true rfl, Nat.le_of_ble_eq_true rfl⟩ hF
theorem KX3_ifShown {N : Nat} {a0 : Nat} {x1 : Int32} {x2 : Int32} {x3 : Int32} {h : jm_H} {X : jm_X} (hF : FX3_ifShown N a0 x1 x2 x3 h = some X) : jm_K M_X3_ifShown [.ref a0, .int x1, .int x2, .int x3] h X := jk_of rfl (by decide +kernel) rfl rfl (Nat.le_of_ble_eq_true rfl) (JX3_ifShown hF)
set_option maxRecDepth 100000 in
set_option maxHeartbeats 4000000 in
theorem JX0_share {N : Nat} {a0 : Nat} {x1 : Int32} {h : jm_H} {X : jm_X} (hF : FX0_share N a0 x1 h = some X) : jm_J M_X0_share 0 [(0, .ref a0), (1, .int x1)] [] h 0 0 X := by
  unfold FX0_share at hF
  refine jj_aload_n (j := 0) (i := 0) (pc' := 1) dX0_share_0 rfl rfl rfl ?_
  refine jj_iload_n (j := 1) (i := 1) (pc' := 2) dX0_share_1 rfl rfl rfl ?_
  refine jj_cI (N := M_X0_reckonedMinutes) (kc' := 0) (ks' := 0) (pc' := 5) (jg_V (N := M_X0_reckonedMinutes) (ci := 0) (rest := []) (as := [.int x1]) cf_X0_148 dX0_share_2 ⟨rfl, rfl⟩ rfl rfl ⟨Nat.le_of_ble_eq_true rfl, Nat.le_of_ble_eq_true rfl⟩ ⟨Nat.le_of_ble_eq_true rfl, Nat.le_of_ble_eq_true rfl⟩ (Nat.le_of_ble_eq_true rfl) (fun X' hX => KX0_reckonedMinutes hX)) rfl rfl rfl rfl ⟨Nat.le_of_ble_eq_true rfl, Nat.le_of_ble_eq_true rfl⟩ rfl hF (fun x102 h101 hF => ?_)
  refine jj_i2d (pc' := 6) dX0_share_5 rfl ?_
  refine jj_ldc2d (v := (4656510908468559872 : UInt64)) (pc' := 9) dX0_share_6 qw_67 rfl ?_
  obtain ⟨hn, hF⟩ := jf_n_inv hF
  refine jj_ddiv (pc' := 10) dX0_share_9 hn rfl ?_
  exact jj_retD rfl dX0_share_10 ⟨Nat.le_of_ble_eq_true rfl, Nat.le_of_ble_eq_true rfl⟩ hF
theorem KX0_share {N : Nat} {a0 : Nat} {x1 : Int32} {h : jm_H} {X : jm_X} (hF : FX0_share N a0 x1 h = some X) : jm_K M_X0_share [.ref a0, .int x1] h X := jk_of rfl (by decide +kernel) rfl rfl (Nat.le_of_ble_eq_true rfl) (JX0_share hF)
set_option maxRecDepth 100000 in
set_option maxHeartbeats 4000000 in
theorem JX3_use {N : Nat} {a0 : Nat} {x1 : Int32} {h : jm_H} {X : jm_X} (hF : FX3_use N a0 x1 h = some X) : jm_J M_X3_use 0 [(0, .ref a0), (1, .int x1)] [] h 0 0 X := by
  unfold FX3_use at hF
  refine jj_iload_n (j := 1) (i := 1) (pc' := 1) dX3_use_0 rfl rfl rfl ?_
  refine jj_cV (N := M_X3_requireScreen) (kc' := 1) (ks' := 6) (pc' := 4) (jg_S (N := M_X3_requireScreen) (rest := []) (as := [.int x1]) cf_X3_66 rfl dX3_use_1 rfl rfl ⟨Nat.le_of_ble_eq_true rfl, Nat.le_of_ble_eq_true rfl⟩ ⟨Nat.le_of_ble_eq_true rfl, Nat.le_of_ble_eq_true rfl⟩ (Nat.le_of_ble_eq_true rfl) (fun X' hX => KX3_requireScreen hX)) rfl rfl rfl rfl ⟨Nat.le_of_ble_eq_true rfl, Nat.le_of_ble_eq_true rfl⟩ rfl hF (fun h101 hF => ?_)
  refine jj_aload_n (j := 0) (i := 0) (pc' := 5) dX3_use_4 rfl rfl rfl ?_
  refine jj_gR (C := RX3) (T := TX3) (N := 8) (ci := 3) (k := 0) (pc' := 8) dX3_use_5 rfl rfl inX3 (by decide) qw_29 hF (fun r102 hF => ?_)
  refine jj_iload_n (j := 1) (i := 1) (pc' := 9) dX3_use_8 rfl rfl rfl ?_
  refine jj_cD (N := M_X0_share) (kc' := 1) (ks' := 6) (pc' := 12) (jg_V (N := M_X0_share) (ci := 0) (rest := []) (as := [.int x1]) cf_X3_234 dX3_use_9 ⟨rfl, rfl⟩ rfl rfl ⟨Nat.le_of_ble_eq_true rfl, Nat.le_of_ble_eq_true rfl⟩ ⟨Nat.le_of_ble_eq_true rfl, Nat.le_of_ble_eq_true rfl⟩ (Nat.le_of_ble_eq_true rfl) (fun X' hX => KX0_share hX)) rfl rfl rfl rfl ⟨Nat.le_of_ble_eq_true rfl, Nat.le_of_ble_eq_true rfl⟩ rfl hF (fun d104 h103 hF => ?_)
  exact jj_retD rfl dX3_use_12 ⟨Nat.le_of_ble_eq_true rfl, Nat.le_of_ble_eq_true rfl⟩ hF
theorem KX3_use {N : Nat} {a0 : Nat} {x1 : Int32} {h : jm_H} {X : jm_X} (hF : FX3_use N a0 x1 h = some X) : jm_K M_X3_use [.ref a0, .int x1] h X := jk_of rfl (by decide +kernel) rfl rfl (Nat.le_of_ble_eq_true rfl) (JX3_use hF)
set_option maxRecDepth 100000 in
set_option maxHeartbeats 4000000 in
theorem JL_part {x0 : Int32} {x1 : Int32} {h : jm_H} {X : jm_X} (hF : FL_part x0 x1 h = some X) : jm_J M_L_part 0 [(0, .int x0), (1, .int x1)] [] h 0 0 X := by
  unfold FL_part at hF
  refine jj_iload_n (j := 0) (i := 0) (pc' := 1) dL_part_0 rfl rfl rfl ?_
  refine jj_ldc (v := (2147483647 : Int32)) (pc' := 3) dL_part_1 qw_68 rfl ?_
  refine jj_iand (pc' := 4) dL_part_3 rfl ?_
  refine jj_iload_n (j := 1) (i := 1) (pc' := 5) dL_part_4 rfl rfl rfl ?_
  obtain ⟨hn, hF⟩ := jf_d_inv hF
  refine jj_irem (pc' := 6) dL_part_5 hn rfl ?_
  exact jj_retI (ty := .int) rfl rfl dL_part_6 ⟨Nat.le_of_ble_eq_true rfl, Nat.le_of_ble_eq_true rfl⟩ hF
theorem KL_part {x0 : Int32} {x1 : Int32} {h : jm_H} {X : jm_X} (hF : FL_part x0 x1 h = some X) : jm_K M_L_part [.int x0, .int x1] h X := jk_of rfl (by decide +kernel) rfl rfl (Nat.le_of_ble_eq_true rfl) (JL_part hF)
set_option maxRecDepth 100000 in
set_option maxHeartbeats 4000000 in
theorem JL_drawn {L : Nat} {xs : Nat → Int32} {x1 : Int32} {h : jm_H} {X : jm_X} (hF : FL_drawn L xs x1 h = some X) : jm_J (M_L_drawn L xs) 0 [(0, .ref 1000000), (1, .int x1)] [] h 0 0 X := by
  unfold FL_drawn at hF
  refine jj_aload_n (j := 0) (i := 0) (pc' := 1) dL_drawn_0 rfl rfl rfl ?_
  refine jj_slen (pc' := 2) dL_drawn_1 rfl rfl ?_
  refine jj_if_ne (tgt := 15) (pc' := 5) dL_drawn_2 rfl rfl (fun hc hF => ?_) (fun hc hF => ?_) hF
  · skip
    refine jj_aload_n (j := 0) (i := 0) (pc' := 16) dL_drawn_15 rfl rfl rfl ?_
    refine jj_iload_n (j := 1) (i := 1) (pc' := 17) dL_drawn_16 rfl rfl rfl ?_
    refine jj_aload_n (j := 0) (i := 0) (pc' := 18) dL_drawn_17 rfl rfl rfl ?_
    refine jj_slen (pc' := 19) dL_drawn_18 rfl rfl ?_
    obtain ⟨hn, hF⟩ := jf_d_inv hF
    refine jj_irem (pc' := 20) dL_drawn_19 hn rfl ?_
    obtain ⟨hi, hF⟩ := jf_s_inv hF
    refine jj_sld (L := L) (xs := xs) (pc' := 21) dL_drawn_20 rfl hi rfl ?_
    refine jj_iload_n (j := 1) (i := 1) (pc' := 22) dL_drawn_21 rfl rfl rfl ?_
    refine jj_bipush (v := (7 : Int32)) (pc' := 24) dL_drawn_22 rfl rfl ?_
    refine jj_irem (pc' := 25) dL_drawn_24 (by decide) rfl ?_
    refine jj_ishr (pc' := 26) dL_drawn_25 rfl ?_
    refine jj_iload_n (j := 1) (i := 1) (pc' := 27) dL_drawn_26 rfl rfl rfl ?_
    refine jj_aload_n (j := 0) (i := 0) (pc' := 28) dL_drawn_27 rfl rfl rfl ?_
    refine jj_slen (pc' := 29) dL_drawn_28 rfl rfl ?_
    obtain ⟨hn, hF⟩ := jf_d_inv hF
    refine jj_idiv (pc' := 30) dL_drawn_29 hn rfl ?_
    refine jj_bipush (v := (31 : Int32)) (pc' := 32) dL_drawn_30 rfl rfl ?_
    refine jj_imul (pc' := 33) dL_drawn_32 rfl ?_
    refine jj_ixor (pc' := 34) dL_drawn_33 rfl ?_
    refine jj_iload_n (j := 1) (i := 1) (pc' := 35) dL_drawn_34 rfl rfl rfl ?_
    refine jj_ldc (v := (2654435 : Int32)) (pc' := 37) dL_drawn_35 qw_69 rfl ?_
    refine jj_imul (pc' := 38) dL_drawn_37 rfl ?_
    refine jj_ixor (pc' := 39) dL_drawn_38 rfl ?_
    exact jj_retI (ty := .int) rfl rfl dL_drawn_39 ⟨Nat.le_of_ble_eq_true rfl, Nat.le_of_ble_eq_true rfl⟩ hF
  · skip
    refine jj_sipush (v := (7919 : Int32)) (pc' := 8) dL_drawn_5 rfl rfl ?_
    refine jj_iload_n (j := 1) (i := 1) (pc' := 9) dL_drawn_8 rfl rfl rfl ?_
    refine jj_imul (pc' := 10) dL_drawn_9 rfl ?_
    refine jj_iconst (v := (3 : Int32)) (pc' := 11) dL_drawn_10 rfl rfl ?_
    refine jj_iadd (pc' := 12) dL_drawn_11 rfl ?_
    refine jj_goto (tgt := 39) dL_drawn_12 rfl ?_
    exact jj_retI (ty := .int) rfl rfl dL_drawn_39 ⟨Nat.le_of_ble_eq_true rfl, Nat.le_of_ble_eq_true rfl⟩ hF
theorem KL_drawn {L : Nat} {xs : Nat → Int32} {x1 : Int32} {h : jm_H} {X : jm_X} (hF : FL_drawn L xs x1 h = some X) : jm_KS (M_L_drawn L xs) [.ref 1000000, .int x1] h X := jk_ofS rfl (by show Jvm.plainName yL_drawn.cls = true; decide +kernel) rfl (Nat.le_of_ble_eq_true rfl) (JL_drawn hF)

set_option maxRecDepth 100000 in
set_option maxHeartbeats 4000000 in
theorem BX0_nextFrom_27 (N : Nat) : ∀ (n : Nat) (a0 : Nat) (x1 : Int32) (x2 : Int32) (x4 : Int32) (x5 : Int32) (x6 : Int32) (h : jm_H) (X : jm_X), FX0_nextFrom_27 N n a0 x1 x2 x4 x5 x6 h = some X → jm_J M_X0_nextFrom 27 [(0, .ref a0), (1, .int x1), (2, .int x2), (4, .int x4), (5, .int x5), (6, .int x6)] [] h 0 0 X := by
  intro n
  induction n with
  | zero =>
    intro a0 x1 x2 x4 x5 x6 h X hF
    exact nomatch (show (none : Option jm_X) = some X from hF)
  | succ n ih =>
    intro a0 x1 x2 x4 x5 x6 h X hF
    rw [FX0_nextFrom_27] at hF
    refine jj_iload (j := 5) (i := 6) (pc' := 29) dX0_nextFrom_27 rfl rfl ?_
    refine jj_sipush (v := (2000 : Int32)) (pc' := 32) dX0_nextFrom_29 rfl rfl ?_
    refine jj_icmp_ge (tgt := 162) (pc' := 35) dX0_nextFrom_32 rfl rfl (fun hc hF => ?_) (fun hc hF => ?_) hF
    · skip
      refine jj_iconst (v := (-1 : Int32)) (pc' := 163) dX0_nextFrom_162 rfl rfl ?_
      exact jj_retI (ty := .int) rfl rfl dX0_nextFrom_163 ⟨Nat.le_of_ble_eq_true rfl, Nat.le_of_ble_eq_true rfl⟩ hF
    · skip
      refine jj_iload (j := 4) (i := 5) (pc' := 37) dX0_nextFrom_35 rfl rfl ?_
      refine jj_iload (j := 3) (i := 4) (pc' := 39) dX0_nextFrom_37 rfl rfl ?_
      refine jj_iadd (pc' := 40) dX0_nextFrom_39 rfl ?_
      refine jj_sipush (v := (2000 : Int32)) (pc' := 43) dX0_nextFrom_40 rfl rfl ?_
      refine jj_icmp_gt (tgt := 162) (pc' := 46) dX0_nextFrom_43 rfl rfl (fun hc hF => ?_) (fun hc hF => ?_) hF
      · skip
        refine jj_iconst (v := (-1 : Int32)) (pc' := 163) dX0_nextFrom_162 rfl rfl ?_
        exact jj_retI (ty := .int) rfl rfl dX0_nextFrom_163 ⟨Nat.le_of_ble_eq_true rfl, Nat.le_of_ble_eq_true rfl⟩ hF
      · skip
        refine jj_aload_n (j := 0) (i := 0) (pc' := 47) dX0_nextFrom_46 rfl rfl rfl ?_
        refine jj_iload_n (j := 2) (i := 2) (pc' := 48) dX0_nextFrom_47 rfl rfl rfl ?_
        refine jj_iload (j := 4) (i := 5) (pc' := 50) dX0_nextFrom_48 rfl rfl ?_
        refine jj_iload (j := 4) (i := 5) (pc' := 52) dX0_nextFrom_50 rfl rfl ?_
        refine jj_iload (j := 3) (i := 4) (pc' := 54) dX0_nextFrom_52 rfl rfl ?_
        refine jj_iadd (pc' := 55) dX0_nextFrom_54 rfl ?_
        refine jj_iconst (v := (-1 : Int32)) (pc' := 56) dX0_nextFrom_55 rfl rfl ?_
        refine jj_cI (N := M_X0_takingScreen) (kc' := 0) (ks' := 0) (pc' := 59) (jg_V (N := M_X0_takingScreen) (ci := 0) (rest := []) (as := [.int x2, .int x5, .int (x5 + x4), .int ((-1 : Int32))]) cf_X0_107 dX0_nextFrom_56 ⟨rfl, rfl⟩ rfl rfl ⟨Nat.le_of_ble_eq_true rfl, Nat.le_of_ble_eq_true rfl⟩ ⟨Nat.le_of_ble_eq_true rfl, Nat.le_of_ble_eq_true rfl⟩ (Nat.le_of_ble_eq_true rfl) (fun X' hX => KX0_takingScreen hX)) rfl rfl rfl rfl ⟨Nat.le_of_ble_eq_true rfl, Nat.le_of_ble_eq_true rfl⟩ rfl hF (fun x102 h101 hF => ?_)
        refine jj_istore (i := 7) (ls' := [(7, .int x102), (0, .ref a0), (1, .int x1), (2, .int x2), (4, .int x4), (5, .int x5), (6, .int x6)]) (pc' := 61) dX0_nextFrom_59 (Nat.le_of_ble_eq_true rfl) rfl rfl ?_
        refine jj_iload (j := 0) (i := 7) (pc' := 63) dX0_nextFrom_61 rfl rfl ?_
        refine jj_iconst (v := (-1 : Int32)) (pc' := 64) dX0_nextFrom_63 rfl rfl ?_
        refine jj_icmp_eq (tgt := 88) (pc' := 67) dX0_nextFrom_64 rfl rfl (fun hc hF => ?_) (fun hc hF => ?_) hF
        · skip
          refine jj_aload_n (j := 1) (i := 0) (pc' := 89) dX0_nextFrom_88 rfl rfl rfl ?_
          refine jj_iload_n (j := 2) (i := 1) (pc' := 90) dX0_nextFrom_89 rfl rfl rfl ?_
          refine jj_iload_n (j := 3) (i := 2) (pc' := 91) dX0_nextFrom_90 rfl rfl rfl ?_
          refine jj_iload (j := 5) (i := 5) (pc' := 93) dX0_nextFrom_91 rfl rfl ?_
          refine jj_iconst (v := (0 : Int32)) (pc' := 94) dX0_nextFrom_93 rfl rfl ?_
          refine jj_iconst (v := (-1 : Int32)) (pc' := 95) dX0_nextFrom_94 rfl rfl ?_
          refine jj_cI (N := M_X0_takingReel) (kc' := 0) (ks' := 0) (pc' := 98) (jg_V (N := M_X0_takingReel) (ci := 0) (rest := []) (as := [.int x1, .int x2, .int x5, .int ((0 : Int32)), .int ((-1 : Int32))]) cf_X0_111 dX0_nextFrom_95 ⟨rfl, rfl⟩ rfl rfl ⟨Nat.le_of_ble_eq_true rfl, Nat.le_of_ble_eq_true rfl⟩ ⟨Nat.le_of_ble_eq_true rfl, Nat.le_of_ble_eq_true rfl⟩ (Nat.le_of_ble_eq_true rfl) (fun X' hX => KX0_takingReel hX)) rfl rfl rfl rfl ⟨Nat.le_of_ble_eq_true rfl, Nat.le_of_ble_eq_true rfl⟩ rfl hF (fun x104 h103 hF => ?_)
          refine jj_istore (i := 7) (ls' := [(7, .int x104), (0, .ref a0), (1, .int x1), (2, .int x2), (4, .int x4), (5, .int x5), (6, .int x6)]) (pc' := 100) dX0_nextFrom_98 (Nat.le_of_ble_eq_true rfl) rfl rfl ?_
          refine jj_iload (j := 0) (i := 7) (pc' := 102) dX0_nextFrom_100 rfl rfl ?_
          refine jj_iconst (v := (-1 : Int32)) (pc' := 103) dX0_nextFrom_102 rfl rfl ?_
          refine jj_icmp_ne (tgt := 109) (pc' := 106) dX0_nextFrom_103 rfl rfl (fun hc hF => ?_) (fun hc hF => ?_) hF
          · skip
            refine jj_aload_n (j := 1) (i := 0) (pc' := 110) dX0_nextFrom_109 rfl rfl rfl ?_
            refine jj_iload_n (j := 2) (i := 1) (pc' := 111) dX0_nextFrom_110 rfl rfl rfl ?_
            refine jj_iload (j := 5) (i := 5) (pc' := 113) dX0_nextFrom_111 rfl rfl ?_
            refine jj_iconst (v := (0 : Int32)) (pc' := 114) dX0_nextFrom_113 rfl rfl ?_
            refine jj_iload (j := 0) (i := 7) (pc' := 116) dX0_nextFrom_114 rfl rfl ?_
            refine jj_cI (N := M_X0_clashingReel) (kc' := 0) (ks' := 0) (pc' := 119) (jg_V (N := M_X0_clashingReel) (ci := 0) (rest := []) (as := [.int x1, .int x5, .int ((0 : Int32)), .int x104]) cf_X0_114 dX0_nextFrom_116 ⟨rfl, rfl⟩ rfl rfl ⟨Nat.le_of_ble_eq_true rfl, Nat.le_of_ble_eq_true rfl⟩ ⟨Nat.le_of_ble_eq_true rfl, Nat.le_of_ble_eq_true rfl⟩ (Nat.le_of_ble_eq_true rfl) (fun X' hX => KX0_clashingReel hX)) rfl rfl rfl rfl ⟨Nat.le_of_ble_eq_true rfl, Nat.le_of_ble_eq_true rfl⟩ rfl hF (fun x106 h105 hF => ?_)
            refine jj_istore (i := 8) (ls' := [(8, .int x106), (7, .int x104), (0, .ref a0), (1, .int x1), (2, .int x2), (4, .int x4), (5, .int x5), (6, .int x6)]) (pc' := 121) dX0_nextFrom_119 (Nat.le_of_ble_eq_true rfl) rfl rfl ?_
            refine jj_aload_n (j := 2) (i := 0) (pc' := 122) dX0_nextFrom_121 rfl rfl rfl ?_
            refine jj_iload (j := 1) (i := 7) (pc' := 124) dX0_nextFrom_122 rfl rfl ?_
            refine jj_iload (j := 0) (i := 8) (pc' := 126) dX0_nextFrom_124 rfl rfl ?_
            refine jj_cI (N := M_X0_reelBegin) (kc' := 0) (ks' := 0) (pc' := 129) (jg_V (N := M_X0_reelBegin) (ci := 0) (rest := []) (as := [.int x104, .int x106]) cf_X0_117 dX0_nextFrom_126 ⟨rfl, rfl⟩ rfl rfl ⟨Nat.le_of_ble_eq_true rfl, Nat.le_of_ble_eq_true rfl⟩ ⟨Nat.le_of_ble_eq_true rfl, Nat.le_of_ble_eq_true rfl⟩ (Nat.le_of_ble_eq_true rfl) (fun X' hX => KX0_reelBegin hX)) rfl rfl rfl rfl ⟨Nat.le_of_ble_eq_true rfl, Nat.le_of_ble_eq_true rfl⟩ rfl hF (fun x108 h107 hF => ?_)
            refine jj_aload_n (j := 2) (i := 0) (pc' := 130) dX0_nextFrom_129 rfl rfl rfl ?_
            refine jj_gR (C := RX0) (T := TX0) (N := 10) (ci := 0) (k := 2) (pc' := 133) dX0_nextFrom_130 rfl rfl inX0 (by decide) qw_17 hF (fun r109 hF => ?_)
            refine jj_iconst (v := (0 : Int32)) (pc' := 134) dX0_nextFrom_133 rfl rfl ?_
            refine jj_iconst (v := (0 : Int32)) (pc' := 135) dX0_nextFrom_134 rfl rfl ?_
            refine jj_cI (N := M_X2_at) (kc' := 0) (ks' := 0) (pc' := 138) (jg_V (N := M_X2_at) (ci := 2) (rest := [.int x108]) (as := [.int ((0 : Int32)), .int ((0 : Int32))]) cf_X0_60 dX0_nextFrom_135 ⟨rfl, rfl⟩ rfl rfl ⟨Nat.le_of_ble_eq_true rfl, Nat.le_of_ble_eq_true rfl⟩ ⟨Nat.le_of_ble_eq_true rfl, Nat.le_of_ble_eq_true rfl⟩ (Nat.le_of_ble_eq_true rfl) (fun X' hX => KX2_at hX)) rfl rfl rfl rfl ⟨Nat.le_of_ble_eq_true rfl, Nat.le_of_ble_eq_true rfl⟩ rfl hF (fun x111 h110 hF => ?_)
            refine jj_iadd (pc' := 139) dX0_nextFrom_138 rfl ?_
            refine jj_iconst (v := (1 : Int32)) (pc' := 140) dX0_nextFrom_139 rfl rfl ?_
            refine jj_iload (j := 0) (i := 8) (pc' := 142) dX0_nextFrom_140 rfl rfl ?_
            refine jj_isub (pc' := 143) dX0_nextFrom_142 rfl ?_
            refine jj_aload_n (j := 2) (i := 0) (pc' := 144) dX0_nextFrom_143 rfl rfl rfl ?_
            refine jj_gR (C := RX0) (T := TX0) (N := 10) (ci := 0) (k := 0) (pc' := 147) dX0_nextFrom_144 rfl rfl inX0 (by decide) qw_15 hF (fun r112 hF => ?_)
            refine jj_iload_n (j := 3) (i := 1) (pc' := 148) dX0_nextFrom_147 rfl rfl rfl ?_
            refine jj_iconst (v := (1 : Int32)) (pc' := 149) dX0_nextFrom_148 rfl rfl ?_
            refine jj_cI (N := M_X2_at) (kc' := 0) (ks' := 0) (pc' := 152) (jg_V (N := M_X2_at) (ci := 2) (rest := [.int (((1 : Int32)) - x106), .int (x108 + x111)]) (as := [.int x1, .int ((1 : Int32))]) cf_X0_60 dX0_nextFrom_149 ⟨rfl, rfl⟩ rfl rfl ⟨Nat.le_of_ble_eq_true rfl, Nat.le_of_ble_eq_true rfl⟩ ⟨Nat.le_of_ble_eq_true rfl, Nat.le_of_ble_eq_true rfl⟩ (Nat.le_of_ble_eq_true rfl) (fun X' hX => KX2_at hX)) rfl rfl rfl rfl ⟨Nat.le_of_ble_eq_true rfl, Nat.le_of_ble_eq_true rfl⟩ rfl hF (fun x114 h113 hF => ?_)
            refine jj_imul (pc' := 153) dX0_nextFrom_152 rfl ?_
            refine jj_iadd (pc' := 154) dX0_nextFrom_153 rfl ?_
            refine jj_istore (i := 5) (ls' := [(5, .int ((x108 + x111) + ((((1 : Int32)) - x106) * x114))), (8, .int x106), (7, .int x104), (0, .ref a0), (1, .int x1), (2, .int x2), (4, .int x4), (6, .int x6)]) (pc' := 156) dX0_nextFrom_154 (Nat.le_of_ble_eq_true rfl) rfl rfl ?_
            refine jj_iinc (i := 6) (j := 7) (v := x6 + (1 : Int32)) (ls' := [(6, .int (x6 + (1 : Int32))), (5, .int ((x108 + x111) + ((((1 : Int32)) - x106) * x114))), (8, .int x106), (7, .int x104), (0, .ref a0), (1, .int x1), (2, .int x2), (4, .int x4)]) (pc' := 159) dX0_nextFrom_156 rfl rfl (Nat.le_of_ble_eq_true rfl) rfl rfl ?_
            refine jj_goto (tgt := 27) dX0_nextFrom_159 rfl ?_
            exact jj_pick [4, 5, 6, 7, 1, 0] rfl (ih a0 x1 x2 x4 ((x108 + x111) + ((((1 : Int32)) - x106) * x114)) (x6 + (1 : Int32)) h113 _ hF)
          · skip
            refine jj_iload (j := 5) (i := 5) (pc' := 108) dX0_nextFrom_106 rfl rfl ?_
            exact jj_retI (ty := .int) rfl rfl dX0_nextFrom_108 ⟨Nat.le_of_ble_eq_true rfl, Nat.le_of_ble_eq_true rfl⟩ hF
        · skip
          refine jj_aload_n (j := 1) (i := 0) (pc' := 68) dX0_nextFrom_67 rfl rfl rfl ?_
          refine jj_iload (j := 0) (i := 7) (pc' := 70) dX0_nextFrom_68 rfl rfl ?_
          refine jj_cI (N := M_X0_endOf) (kc' := 0) (ks' := 0) (pc' := 73) (jg_V (N := M_X0_endOf) (ci := 0) (rest := []) (as := [.int x102]) cf_X0_87 dX0_nextFrom_70 ⟨rfl, rfl⟩ rfl rfl ⟨Nat.le_of_ble_eq_true rfl, Nat.le_of_ble_eq_true rfl⟩ ⟨Nat.le_of_ble_eq_true rfl, Nat.le_of_ble_eq_true rfl⟩ (Nat.le_of_ble_eq_true rfl) (fun X' hX => KX0_endOf hX)) rfl rfl rfl rfl ⟨Nat.le_of_ble_eq_true rfl, Nat.le_of_ble_eq_true rfl⟩ rfl hF (fun x116 h115 hF => ?_)
          refine jj_aload_n (j := 1) (i := 0) (pc' := 74) dX0_nextFrom_73 rfl rfl rfl ?_
          refine jj_gR (C := RX0) (T := TX0) (N := 10) (ci := 0) (k := 2) (pc' := 77) dX0_nextFrom_74 rfl rfl inX0 (by decide) qw_17 hF (fun r117 hF => ?_)
          refine jj_iconst (v := (1 : Int32)) (pc' := 78) dX0_nextFrom_77 rfl rfl ?_
          refine jj_iconst (v := (0 : Int32)) (pc' := 79) dX0_nextFrom_78 rfl rfl ?_
          refine jj_cI (N := M_X2_at) (kc' := 0) (ks' := 0) (pc' := 82) (jg_V (N := M_X2_at) (ci := 2) (rest := [.int x116]) (as := [.int ((1 : Int32)), .int ((0 : Int32))]) cf_X0_60 dX0_nextFrom_79 ⟨rfl, rfl⟩ rfl rfl ⟨Nat.le_of_ble_eq_true rfl, Nat.le_of_ble_eq_true rfl⟩ ⟨Nat.le_of_ble_eq_true rfl, Nat.le_of_ble_eq_true rfl⟩ (Nat.le_of_ble_eq_true rfl) (fun X' hX => KX2_at hX)) rfl rfl rfl rfl ⟨Nat.le_of_ble_eq_true rfl, Nat.le_of_ble_eq_true rfl⟩ rfl hF (fun x119 h118 hF => ?_)
          refine jj_iadd (pc' := 83) dX0_nextFrom_82 rfl ?_
          refine jj_istore (i := 5) (ls' := [(5, .int (x116 + x119)), (7, .int x102), (0, .ref a0), (1, .int x1), (2, .int x2), (4, .int x4), (6, .int x6)]) (pc' := 85) dX0_nextFrom_83 (Nat.le_of_ble_eq_true rfl) rfl rfl ?_
          refine jj_goto (tgt := 156) dX0_nextFrom_85 rfl ?_
          refine jj_iinc (i := 6) (j := 6) (v := x6 + (1 : Int32)) (ls' := [(6, .int (x6 + (1 : Int32))), (5, .int (x116 + x119)), (7, .int x102), (0, .ref a0), (1, .int x1), (2, .int x2), (4, .int x4)]) (pc' := 159) dX0_nextFrom_156 rfl rfl (Nat.le_of_ble_eq_true rfl) rfl rfl ?_
          refine jj_goto (tgt := 27) dX0_nextFrom_159 rfl ?_
          exact jj_pick [3, 4, 5, 6, 1, 0] rfl (ih a0 x1 x2 x4 (x116 + x119) (x6 + (1 : Int32)) h118 _ hF)
set_option maxRecDepth 100000 in
set_option maxHeartbeats 4000000 in
theorem JX0_nextFrom {N : Nat} {a0 : Nat} {x1 : Int32} {x2 : Int32} {x3 : Int32} {h : jm_H} {X : jm_X} (hF : FX0_nextFrom N a0 x1 x2 x3 h = some X) : jm_J M_X0_nextFrom 0 [(0, .ref a0), (1, .int x1), (2, .int x2), (3, .int x3)] [] h 0 0 X := by
  unfold FX0_nextFrom at hF
  refine jj_aload_n (j := 0) (i := 0) (pc' := 1) dX0_nextFrom_0 rfl rfl rfl ?_
  refine jj_gR (C := RX0) (T := TX0) (N := 10) (ci := 0) (k := 3) (pc' := 4) dX0_nextFrom_1 rfl rfl inX0 (by decide) qw_18 hF (fun r101 hF => ?_)
  refine jj_gI (C := RX2) (T := TX2) (N := 3) (ci := 2) (k := 2) (pc' := 7) dX0_nextFrom_4 rfl rfl inX2 (by decide) qw_47 hF (fun x102 hF => ?_)
  refine jj_bipush (v := (12 : Int32)) (pc' := 9) dX0_nextFrom_7 rfl rfl ?_
  refine jj_icmp_lt (tgt := 14) (pc' := 12) dX0_nextFrom_9 rfl rfl (fun hc hF => ?_) (fun hc hF => ?_) hF
  · skip
    refine jj_aload_n (j := 0) (i := 0) (pc' := 15) dX0_nextFrom_14 rfl rfl rfl ?_
    refine jj_iload_n (j := 1) (i := 1) (pc' := 16) dX0_nextFrom_15 rfl rfl rfl ?_
    refine jj_cI (N := M_X0_lengthOf) (kc' := 0) (ks' := 0) (pc' := 19) (jg_V (N := M_X0_lengthOf) (ci := 0) (rest := []) (as := [.int x1]) cf_X0_104 dX0_nextFrom_16 ⟨rfl, rfl⟩ rfl rfl ⟨Nat.le_of_ble_eq_true rfl, Nat.le_of_ble_eq_true rfl⟩ ⟨Nat.le_of_ble_eq_true rfl, Nat.le_of_ble_eq_true rfl⟩ (Nat.le_of_ble_eq_true rfl) (fun X' hX => KX0_lengthOf hX)) rfl rfl rfl rfl ⟨Nat.le_of_ble_eq_true rfl, Nat.le_of_ble_eq_true rfl⟩ rfl hF (fun x104 h103 hF => ?_)
    refine jj_istore (i := 4) (ls' := [(4, .int x104), (0, .ref a0), (1, .int x1), (2, .int x2), (3, .int x3)]) (pc' := 21) dX0_nextFrom_19 (Nat.le_of_ble_eq_true rfl) rfl rfl ?_
    refine jj_iload_n (j := 4) (i := 3) (pc' := 22) dX0_nextFrom_21 rfl rfl rfl ?_
    refine jj_istore (i := 5) (ls' := [(5, .int x3), (4, .int x104), (0, .ref a0), (1, .int x1), (2, .int x2), (3, .int x3)]) (pc' := 24) dX0_nextFrom_22 (Nat.le_of_ble_eq_true rfl) rfl rfl ?_
    refine jj_iconst (v := (0 : Int32)) (pc' := 25) dX0_nextFrom_24 rfl rfl ?_
    refine jj_istore (i := 6) (ls' := [(6, .int ((0 : Int32))), (5, .int x3), (4, .int x104), (0, .ref a0), (1, .int x1), (2, .int x2), (3, .int x3)]) (pc' := 27) dX0_nextFrom_25 (Nat.le_of_ble_eq_true rfl) rfl rfl ?_
    exact jj_pick [3, 4, 5, 2, 1, 0] rfl (BX0_nextFrom_27 N N a0 x1 x2 x104 x3 ((0 : Int32)) h103 _ hF)
  · skip
    refine jj_iconst (v := (-1 : Int32)) (pc' := 13) dX0_nextFrom_12 rfl rfl ?_
    exact jj_retI (ty := .int) rfl rfl dX0_nextFrom_13 ⟨Nat.le_of_ble_eq_true rfl, Nat.le_of_ble_eq_true rfl⟩ hF
theorem KX0_nextFrom {N : Nat} {a0 : Nat} {x1 : Int32} {x2 : Int32} {x3 : Int32} {h : jm_H} {X : jm_X} (hF : FX0_nextFrom N a0 x1 x2 x3 h = some X) : jm_K M_X0_nextFrom [.ref a0, .int x1, .int x2, .int x3] h X := jk_of rfl (by decide +kernel) rfl rfl (Nat.le_of_ble_eq_true rfl) (JX0_nextFrom hF)
set_option maxRecDepth 100000 in
set_option maxHeartbeats 4000000 in
theorem JX3_nextStart {N : Nat} {a0 : Nat} {x1 : Int32} {x2 : Int32} {x3 : Int32} {h : jm_H} {X : jm_X} (hF : FX3_nextStart N a0 x1 x2 x3 h = some X) : jm_J M_X3_nextStart 0 [(0, .ref a0), (1, .int x1), (2, .int x2), (3, .int x3)] [] h 0 0 X := by
  unfold FX3_nextStart at hF
  refine jj_aload_n (j := 0) (i := 0) (pc' := 1) dX3_nextStart_0 rfl rfl rfl ?_
  refine jj_iload_n (j := 1) (i := 1) (pc' := 2) dX3_nextStart_1 rfl rfl rfl ?_
  refine jj_cV (N := M_X3_requireFilm) (kc' := 1) (ks' := 6) (pc' := 5) (jg_V (N := M_X3_requireFilm) (ci := 3) (rest := []) (as := [.int x1]) cf_X3_85 dX3_nextStart_2 ⟨rfl, rfl⟩ rfl rfl ⟨Nat.le_of_ble_eq_true rfl, Nat.le_of_ble_eq_true rfl⟩ ⟨Nat.le_of_ble_eq_true rfl, Nat.le_of_ble_eq_true rfl⟩ (Nat.le_of_ble_eq_true rfl) (fun X' hX => KX3_requireFilm hX)) rfl rfl rfl rfl ⟨Nat.le_of_ble_eq_true rfl, Nat.le_of_ble_eq_true rfl⟩ rfl hF (fun h101 hF => ?_)
  refine jj_iload_n (j := 2) (i := 2) (pc' := 6) dX3_nextStart_5 rfl rfl rfl ?_
  refine jj_cV (N := M_X3_requireScreen) (kc' := 2) (ks' := 12) (pc' := 9) (jg_S (N := M_X3_requireScreen) (rest := []) (as := [.int x2]) cf_X3_66 rfl dX3_nextStart_6 rfl rfl ⟨Nat.le_of_ble_eq_true rfl, Nat.le_of_ble_eq_true rfl⟩ ⟨Nat.le_of_ble_eq_true rfl, Nat.le_of_ble_eq_true rfl⟩ (Nat.le_of_ble_eq_true rfl) (fun X' hX => KX3_requireScreen hX)) rfl rfl rfl rfl ⟨Nat.le_of_ble_eq_true rfl, Nat.le_of_ble_eq_true rfl⟩ rfl hF (fun h102 hF => ?_)
  refine jj_iload_n (j := 3) (i := 3) (pc' := 10) dX3_nextStart_9 rfl rfl rfl ?_
  refine jj_cV (N := M_X3_requireMinute) (kc' := 3) (ks' := 18) (pc' := 13) (jg_S (N := M_X3_requireMinute) (rest := []) (as := [.int x3]) cf_X3_88 rfl dX3_nextStart_10 rfl rfl ⟨Nat.le_of_ble_eq_true rfl, Nat.le_of_ble_eq_true rfl⟩ ⟨Nat.le_of_ble_eq_true rfl, Nat.le_of_ble_eq_true rfl⟩ (Nat.le_of_ble_eq_true rfl) (fun X' hX => KX3_requireMinute hX)) rfl rfl rfl rfl ⟨Nat.le_of_ble_eq_true rfl, Nat.le_of_ble_eq_true rfl⟩ rfl hF (fun h103 hF => ?_)
  refine jj_aload_n (j := 0) (i := 0) (pc' := 14) dX3_nextStart_13 rfl rfl rfl ?_
  refine jj_gR (C := RX3) (T := TX3) (N := 8) (ci := 3) (k := 0) (pc' := 17) dX3_nextStart_14 rfl rfl inX3 (by decide) qw_29 hF (fun r104 hF => ?_)
  refine jj_iload_n (j := 1) (i := 1) (pc' := 18) dX3_nextStart_17 rfl rfl rfl ?_
  refine jj_iload_n (j := 2) (i := 2) (pc' := 19) dX3_nextStart_18 rfl rfl rfl ?_
  refine jj_iload_n (j := 3) (i := 3) (pc' := 20) dX3_nextStart_19 rfl rfl rfl ?_
  refine jj_cI (N := M_X0_nextFrom) (kc' := 3) (ks' := 18) (pc' := 23) (jg_V (N := M_X0_nextFrom) (ci := 0) (rest := []) (as := [.int x1, .int x2, .int x3]) cf_X3_225 dX3_nextStart_20 ⟨rfl, rfl⟩ rfl rfl ⟨Nat.le_of_ble_eq_true rfl, Nat.le_of_ble_eq_true rfl⟩ ⟨Nat.le_of_ble_eq_true rfl, Nat.le_of_ble_eq_true rfl⟩ (Nat.le_of_ble_eq_true rfl) (fun X' hX => KX0_nextFrom hX)) rfl rfl rfl rfl ⟨Nat.le_of_ble_eq_true rfl, Nat.le_of_ble_eq_true rfl⟩ rfl hF (fun x106 h105 hF => ?_)
  exact jj_retI (ty := .int) rfl rfl dX3_nextStart_23 ⟨Nat.le_of_ble_eq_true rfl, Nat.le_of_ble_eq_true rfl⟩ hF
theorem KX3_nextStart {N : Nat} {a0 : Nat} {x1 : Int32} {x2 : Int32} {x3 : Int32} {h : jm_H} {X : jm_X} (hF : FX3_nextStart N a0 x1 x2 x3 h = some X) : jm_K M_X3_nextStart [.ref a0, .int x1, .int x2, .int x3] h X := jk_of rfl (by decide +kernel) rfl rfl (Nat.le_of_ble_eq_true rfl) (JX3_nextStart hF)
set_option maxRecDepth 100000 in
set_option maxHeartbeats 4000000 in
theorem BX0_bestFrom_8 (N : Nat) : ∀ (n : Nat) (a0 : Nat) (x1 : Int32) (x2 : Int32) (x3 : Int32) (x4 : Int32) (x5 : Int32) (h : jm_H) (X : jm_X), FX0_bestFrom_8 N n a0 x1 x2 x3 x4 x5 h = some X → jm_J M_X0_bestFrom 8 [(0, .ref a0), (1, .int x1), (2, .int x2), (3, .int x3), (4, .int x4), (5, .int x5)] [] h 0 0 X := by
  intro n
  induction n with
  | zero =>
    intro a0 x1 x2 x3 x4 x5 h X hF
    exact nomatch (show (none : Option jm_X) = some X from hF)
  | succ n ih =>
    intro a0 x1 x2 x3 x4 x5 h X hF
    rw [FX0_bestFrom_8] at hF
    refine jj_iload (j := 5) (i := 5) (pc' := 10) dX0_bestFrom_8 rfl rfl ?_
    refine jj_iconst (v := (3 : Int32)) (pc' := 11) dX0_bestFrom_10 rfl rfl ?_
    refine jj_icmp_ge (tgt := 87) (pc' := 14) dX0_bestFrom_11 rfl rfl (fun hc hF => ?_) (fun hc hF => ?_) hF
    · skip
      refine jj_iload_n (j := 3) (i := 3) (pc' := 88) dX0_bestFrom_87 rfl rfl rfl ?_
      exact jj_retI (ty := .int) rfl rfl dX0_bestFrom_88 ⟨Nat.le_of_ble_eq_true rfl, Nat.le_of_ble_eq_true rfl⟩ hF
    · skip
      refine jj_aload_n (j := 0) (i := 0) (pc' := 15) dX0_bestFrom_14 rfl rfl rfl ?_
      refine jj_iload_n (j := 1) (i := 1) (pc' := 16) dX0_bestFrom_15 rfl rfl rfl ?_
      refine jj_iload (j := 5) (i := 5) (pc' := 18) dX0_bestFrom_16 rfl rfl ?_
      refine jj_iload_n (j := 2) (i := 2) (pc' := 19) dX0_bestFrom_18 rfl rfl rfl ?_
      refine jj_cI (N := M_X0_nextFrom) (kc' := 0) (ks' := 0) (pc' := 22) (jg_V (N := M_X0_nextFrom) (ci := 0) (rest := []) (as := [.int x1, .int x5, .int x2]) cf_X0_120 dX0_bestFrom_19 ⟨rfl, rfl⟩ rfl rfl ⟨Nat.le_of_ble_eq_true rfl, Nat.le_of_ble_eq_true rfl⟩ ⟨Nat.le_of_ble_eq_true rfl, Nat.le_of_ble_eq_true rfl⟩ (Nat.le_of_ble_eq_true rfl) (fun X' hX => KX0_nextFrom hX)) rfl rfl rfl rfl ⟨Nat.le_of_ble_eq_true rfl, Nat.le_of_ble_eq_true rfl⟩ rfl hF (fun x102 h101 hF => ?_)
      refine jj_istore (i := 6) (ls' := [(6, .int x102), (0, .ref a0), (1, .int x1), (2, .int x2), (3, .int x3), (4, .int x4), (5, .int x5)]) (pc' := 24) dX0_bestFrom_22 (Nat.le_of_ble_eq_true rfl) rfl rfl ?_
      refine jj_iload (j := 0) (i := 6) (pc' := 26) dX0_bestFrom_24 rfl rfl ?_
      refine jj_iconst (v := (-1 : Int32)) (pc' := 27) dX0_bestFrom_26 rfl rfl ?_
      refine jj_icmp_ne (tgt := 33) (pc' := 30) dX0_bestFrom_27 rfl rfl (fun hc hF => ?_) (fun hc hF => ?_) hF
      · skip
        refine jj_iload_n (j := 4) (i := 3) (pc' := 34) dX0_bestFrom_33 rfl rfl rfl ?_
        refine jj_iconst (v := (-1 : Int32)) (pc' := 35) dX0_bestFrom_34 rfl rfl ?_
        refine jj_icmp_eq (tgt := 74) (pc' := 38) dX0_bestFrom_35 rfl rfl (fun hc hF => ?_) (fun hc hF => ?_) hF
        · skip
          refine jj_iload (j := 6) (i := 5) (pc' := 76) dX0_bestFrom_74 rfl rfl ?_
          refine jj_istore_n (i := 3) (ls' := [(3, .int x5), (6, .int x102), (0, .ref a0), (1, .int x1), (2, .int x2), (4, .int x4), (5, .int x5)]) (pc' := 77) dX0_bestFrom_76 rfl (Nat.le_of_ble_eq_true rfl) rfl rfl ?_
          refine jj_iload (j := 1) (i := 6) (pc' := 79) dX0_bestFrom_77 rfl rfl ?_
          refine jj_istore (i := 4) (ls' := [(4, .int x102), (3, .int x5), (6, .int x102), (0, .ref a0), (1, .int x1), (2, .int x2), (5, .int x5)]) (pc' := 81) dX0_bestFrom_79 (Nat.le_of_ble_eq_true rfl) rfl rfl ?_
          refine jj_iinc (i := 5) (j := 6) (v := x5 + (1 : Int32)) (ls' := [(5, .int (x5 + (1 : Int32))), (4, .int x102), (3, .int x5), (6, .int x102), (0, .ref a0), (1, .int x1), (2, .int x2)]) (pc' := 84) dX0_bestFrom_81 rfl rfl (Nat.le_of_ble_eq_true rfl) rfl rfl ?_
          refine jj_goto (tgt := 8) dX0_bestFrom_84 rfl ?_
          exact jj_pick [4, 5, 6, 2, 1, 0] rfl (ih a0 x1 x2 x5 x102 (x5 + (1 : Int32)) h101 _ hF)
        · skip
          refine jj_iload (j := 0) (i := 6) (pc' := 40) dX0_bestFrom_38 rfl rfl ?_
          refine jj_iload (j := 5) (i := 4) (pc' := 42) dX0_bestFrom_40 rfl rfl ?_
          refine jj_icmp_lt (tgt := 74) (pc' := 45) dX0_bestFrom_42 rfl rfl (fun hc hF => ?_) (fun hc hF => ?_) hF
          · skip
            refine jj_iload (j := 6) (i := 5) (pc' := 76) dX0_bestFrom_74 rfl rfl ?_
            refine jj_istore_n (i := 3) (ls' := [(3, .int x5), (6, .int x102), (0, .ref a0), (1, .int x1), (2, .int x2), (4, .int x4), (5, .int x5)]) (pc' := 77) dX0_bestFrom_76 rfl (Nat.le_of_ble_eq_true rfl) rfl rfl ?_
            refine jj_iload (j := 1) (i := 6) (pc' := 79) dX0_bestFrom_77 rfl rfl ?_
            refine jj_istore (i := 4) (ls' := [(4, .int x102), (3, .int x5), (6, .int x102), (0, .ref a0), (1, .int x1), (2, .int x2), (5, .int x5)]) (pc' := 81) dX0_bestFrom_79 (Nat.le_of_ble_eq_true rfl) rfl rfl ?_
            refine jj_iinc (i := 5) (j := 6) (v := x5 + (1 : Int32)) (ls' := [(5, .int (x5 + (1 : Int32))), (4, .int x102), (3, .int x5), (6, .int x102), (0, .ref a0), (1, .int x1), (2, .int x2)]) (pc' := 84) dX0_bestFrom_81 rfl rfl (Nat.le_of_ble_eq_true rfl) rfl rfl ?_
            refine jj_goto (tgt := 8) dX0_bestFrom_84 rfl ?_
            exact jj_pick [4, 5, 6, 2, 1, 0] rfl (ih a0 x1 x2 x5 x102 (x5 + (1 : Int32)) h101 _ hF)
          · skip
            refine jj_iload (j := 0) (i := 6) (pc' := 47) dX0_bestFrom_45 rfl rfl ?_
            refine jj_iload (j := 5) (i := 4) (pc' := 49) dX0_bestFrom_47 rfl rfl ?_
            refine jj_icmp_ne (tgt := 81) (pc' := 52) dX0_bestFrom_49 rfl rfl (fun hc hF => ?_) (fun hc hF => ?_) hF
            · skip
              refine jj_iinc (i := 5) (j := 6) (v := x5 + (1 : Int32)) (ls' := [(5, .int (x5 + (1 : Int32))), (6, .int x102), (0, .ref a0), (1, .int x1), (2, .int x2), (3, .int x3), (4, .int x4)]) (pc' := 84) dX0_bestFrom_81 rfl rfl (Nat.le_of_ble_eq_true rfl) rfl rfl ?_
              refine jj_goto (tgt := 8) dX0_bestFrom_84 rfl ?_
              exact jj_pick [2, 3, 4, 5, 6, 0] rfl (ih a0 x1 x2 x3 x4 (x5 + (1 : Int32)) h101 _ hF)
            · skip
              refine jj_aload_n (j := 1) (i := 0) (pc' := 53) dX0_bestFrom_52 rfl rfl rfl ?_
              refine jj_gR (C := RX0) (T := TX0) (N := 10) (ci := 0) (k := 1) (pc' := 56) dX0_bestFrom_53 rfl rfl inX0 (by decide) qw_16 hF (fun r103 hF => ?_)
              refine jj_iload (j := 6) (i := 5) (pc' := 58) dX0_bestFrom_56 rfl rfl ?_
              refine jj_iconst (v := (0 : Int32)) (pc' := 59) dX0_bestFrom_58 rfl rfl ?_
              refine jj_cI (N := M_X2_at) (kc' := 0) (ks' := 0) (pc' := 62) (jg_V (N := M_X2_at) (ci := 2) (rest := []) (as := [.int x5, .int ((0 : Int32))]) cf_X0_60 dX0_bestFrom_59 ⟨rfl, rfl⟩ rfl rfl ⟨Nat.le_of_ble_eq_true rfl, Nat.le_of_ble_eq_true rfl⟩ ⟨Nat.le_of_ble_eq_true rfl, Nat.le_of_ble_eq_true rfl⟩ (Nat.le_of_ble_eq_true rfl) (fun X' hX => KX2_at hX)) rfl rfl rfl rfl ⟨Nat.le_of_ble_eq_true rfl, Nat.le_of_ble_eq_true rfl⟩ rfl hF (fun x105 h104 hF => ?_)
              refine jj_aload_n (j := 1) (i := 0) (pc' := 63) dX0_bestFrom_62 rfl rfl rfl ?_
              refine jj_gR (C := RX0) (T := TX0) (N := 10) (ci := 0) (k := 1) (pc' := 66) dX0_bestFrom_63 rfl rfl inX0 (by decide) qw_16 hF (fun r106 hF => ?_)
              refine jj_iload_n (j := 4) (i := 3) (pc' := 67) dX0_bestFrom_66 rfl rfl rfl ?_
              refine jj_iconst (v := (0 : Int32)) (pc' := 68) dX0_bestFrom_67 rfl rfl ?_
              refine jj_cI (N := M_X2_at) (kc' := 0) (ks' := 0) (pc' := 71) (jg_V (N := M_X2_at) (ci := 2) (rest := [.int x105]) (as := [.int x3, .int ((0 : Int32))]) cf_X0_60 dX0_bestFrom_68 ⟨rfl, rfl⟩ rfl rfl ⟨Nat.le_of_ble_eq_true rfl, Nat.le_of_ble_eq_true rfl⟩ ⟨Nat.le_of_ble_eq_true rfl, Nat.le_of_ble_eq_true rfl⟩ (Nat.le_of_ble_eq_true rfl) (fun X' hX => KX2_at hX)) rfl rfl rfl rfl ⟨Nat.le_of_ble_eq_true rfl, Nat.le_of_ble_eq_true rfl⟩ rfl hF (fun x108 h107 hF => ?_)
              refine jj_icmp_le (tgt := 81) (pc' := 74) dX0_bestFrom_71 rfl rfl (fun hc hF => ?_) (fun hc hF => ?_) hF
              · skip
                refine jj_iinc (i := 5) (j := 6) (v := x5 + (1 : Int32)) (ls' := [(5, .int (x5 + (1 : Int32))), (6, .int x102), (0, .ref a0), (1, .int x1), (2, .int x2), (3, .int x3), (4, .int x4)]) (pc' := 84) dX0_bestFrom_81 rfl rfl (Nat.le_of_ble_eq_true rfl) rfl rfl ?_
                refine jj_goto (tgt := 8) dX0_bestFrom_84 rfl ?_
                exact jj_pick [2, 3, 4, 5, 6, 0] rfl (ih a0 x1 x2 x3 x4 (x5 + (1 : Int32)) h107 _ hF)
              · skip
                refine jj_iload (j := 6) (i := 5) (pc' := 76) dX0_bestFrom_74 rfl rfl ?_
                refine jj_istore_n (i := 3) (ls' := [(3, .int x5), (6, .int x102), (0, .ref a0), (1, .int x1), (2, .int x2), (4, .int x4), (5, .int x5)]) (pc' := 77) dX0_bestFrom_76 rfl (Nat.le_of_ble_eq_true rfl) rfl rfl ?_
                refine jj_iload (j := 1) (i := 6) (pc' := 79) dX0_bestFrom_77 rfl rfl ?_
                refine jj_istore (i := 4) (ls' := [(4, .int x102), (3, .int x5), (6, .int x102), (0, .ref a0), (1, .int x1), (2, .int x2), (5, .int x5)]) (pc' := 81) dX0_bestFrom_79 (Nat.le_of_ble_eq_true rfl) rfl rfl ?_
                refine jj_iinc (i := 5) (j := 6) (v := x5 + (1 : Int32)) (ls' := [(5, .int (x5 + (1 : Int32))), (4, .int x102), (3, .int x5), (6, .int x102), (0, .ref a0), (1, .int x1), (2, .int x2)]) (pc' := 84) dX0_bestFrom_81 rfl rfl (Nat.le_of_ble_eq_true rfl) rfl rfl ?_
                refine jj_goto (tgt := 8) dX0_bestFrom_84 rfl ?_
                exact jj_pick [4, 5, 6, 2, 1, 0] rfl (ih a0 x1 x2 x5 x102 (x5 + (1 : Int32)) h107 _ hF)
      · skip
        refine jj_goto (tgt := 81) dX0_bestFrom_30 rfl ?_
        refine jj_iinc (i := 5) (j := 6) (v := x5 + (1 : Int32)) (ls' := [(5, .int (x5 + (1 : Int32))), (6, .int x102), (0, .ref a0), (1, .int x1), (2, .int x2), (3, .int x3), (4, .int x4)]) (pc' := 84) dX0_bestFrom_81 rfl rfl (Nat.le_of_ble_eq_true rfl) rfl rfl ?_
        refine jj_goto (tgt := 8) dX0_bestFrom_84 rfl ?_
        exact jj_pick [2, 3, 4, 5, 6, 0] rfl (ih a0 x1 x2 x3 x4 (x5 + (1 : Int32)) h101 _ hF)
set_option maxRecDepth 100000 in
set_option maxHeartbeats 4000000 in
theorem JX0_bestFrom {N : Nat} {a0 : Nat} {x1 : Int32} {x2 : Int32} {h : jm_H} {X : jm_X} (hF : FX0_bestFrom N a0 x1 x2 h = some X) : jm_J M_X0_bestFrom 0 [(0, .ref a0), (1, .int x1), (2, .int x2)] [] h 0 0 X := by
  unfold FX0_bestFrom at hF
  refine jj_iconst (v := (-1 : Int32)) (pc' := 1) dX0_bestFrom_0 rfl rfl ?_
  refine jj_istore_n (i := 3) (ls' := [(3, .int ((-1 : Int32))), (0, .ref a0), (1, .int x1), (2, .int x2)]) (pc' := 2) dX0_bestFrom_1 rfl (Nat.le_of_ble_eq_true rfl) rfl rfl ?_
  refine jj_iconst (v := (-1 : Int32)) (pc' := 3) dX0_bestFrom_2 rfl rfl ?_
  refine jj_istore (i := 4) (ls' := [(4, .int ((-1 : Int32))), (3, .int ((-1 : Int32))), (0, .ref a0), (1, .int x1), (2, .int x2)]) (pc' := 5) dX0_bestFrom_3 (Nat.le_of_ble_eq_true rfl) rfl rfl ?_
  refine jj_iconst (v := (0 : Int32)) (pc' := 6) dX0_bestFrom_5 rfl rfl ?_
  refine jj_istore (i := 5) (ls' := [(5, .int ((0 : Int32))), (4, .int ((-1 : Int32))), (3, .int ((-1 : Int32))), (0, .ref a0), (1, .int x1), (2, .int x2)]) (pc' := 8) dX0_bestFrom_6 (Nat.le_of_ble_eq_true rfl) rfl rfl ?_
  exact jj_pick [3, 4, 5, 2, 1, 0] rfl (BX0_bestFrom_8 N N a0 x1 x2 ((-1 : Int32)) ((-1 : Int32)) ((0 : Int32)) h _ hF)
theorem KX0_bestFrom {N : Nat} {a0 : Nat} {x1 : Int32} {x2 : Int32} {h : jm_H} {X : jm_X} (hF : FX0_bestFrom N a0 x1 x2 h = some X) : jm_K M_X0_bestFrom [.ref a0, .int x1, .int x2] h X := jk_of rfl (by decide +kernel) rfl rfl (Nat.le_of_ble_eq_true rfl) (JX0_bestFrom hF)
set_option maxRecDepth 100000 in
set_option maxHeartbeats 4000000 in
theorem JX3_bestScreen {N : Nat} {a0 : Nat} {x1 : Int32} {x2 : Int32} {h : jm_H} {X : jm_X} (hF : FX3_bestScreen N a0 x1 x2 h = some X) : jm_J M_X3_bestScreen 0 [(0, .ref a0), (1, .int x1), (2, .int x2)] [] h 0 0 X := by
  unfold FX3_bestScreen at hF
  refine jj_aload_n (j := 0) (i := 0) (pc' := 1) dX3_bestScreen_0 rfl rfl rfl ?_
  refine jj_iload_n (j := 1) (i := 1) (pc' := 2) dX3_bestScreen_1 rfl rfl rfl ?_
  refine jj_cV (N := M_X3_requireFilm) (kc' := 1) (ks' := 6) (pc' := 5) (jg_V (N := M_X3_requireFilm) (ci := 3) (rest := []) (as := [.int x1]) cf_X3_85 dX3_bestScreen_2 ⟨rfl, rfl⟩ rfl rfl ⟨Nat.le_of_ble_eq_true rfl, Nat.le_of_ble_eq_true rfl⟩ ⟨Nat.le_of_ble_eq_true rfl, Nat.le_of_ble_eq_true rfl⟩ (Nat.le_of_ble_eq_true rfl) (fun X' hX => KX3_requireFilm hX)) rfl rfl rfl rfl ⟨Nat.le_of_ble_eq_true rfl, Nat.le_of_ble_eq_true rfl⟩ rfl hF (fun h101 hF => ?_)
  refine jj_iload_n (j := 2) (i := 2) (pc' := 6) dX3_bestScreen_5 rfl rfl rfl ?_
  refine jj_cV (N := M_X3_requireMinute) (kc' := 2) (ks' := 12) (pc' := 9) (jg_S (N := M_X3_requireMinute) (rest := []) (as := [.int x2]) cf_X3_88 rfl dX3_bestScreen_6 rfl rfl ⟨Nat.le_of_ble_eq_true rfl, Nat.le_of_ble_eq_true rfl⟩ ⟨Nat.le_of_ble_eq_true rfl, Nat.le_of_ble_eq_true rfl⟩ (Nat.le_of_ble_eq_true rfl) (fun X' hX => KX3_requireMinute hX)) rfl rfl rfl rfl ⟨Nat.le_of_ble_eq_true rfl, Nat.le_of_ble_eq_true rfl⟩ rfl hF (fun h102 hF => ?_)
  refine jj_aload_n (j := 0) (i := 0) (pc' := 10) dX3_bestScreen_9 rfl rfl rfl ?_
  refine jj_gR (C := RX3) (T := TX3) (N := 8) (ci := 3) (k := 0) (pc' := 13) dX3_bestScreen_10 rfl rfl inX3 (by decide) qw_29 hF (fun r103 hF => ?_)
  refine jj_iload_n (j := 1) (i := 1) (pc' := 14) dX3_bestScreen_13 rfl rfl rfl ?_
  refine jj_iload_n (j := 2) (i := 2) (pc' := 15) dX3_bestScreen_14 rfl rfl rfl ?_
  refine jj_cI (N := M_X0_bestFrom) (kc' := 2) (ks' := 12) (pc' := 18) (jg_V (N := M_X0_bestFrom) (ci := 0) (rest := []) (as := [.int x1, .int x2]) cf_X3_228 dX3_bestScreen_15 ⟨rfl, rfl⟩ rfl rfl ⟨Nat.le_of_ble_eq_true rfl, Nat.le_of_ble_eq_true rfl⟩ ⟨Nat.le_of_ble_eq_true rfl, Nat.le_of_ble_eq_true rfl⟩ (Nat.le_of_ble_eq_true rfl) (fun X' hX => KX0_bestFrom hX)) rfl rfl rfl rfl ⟨Nat.le_of_ble_eq_true rfl, Nat.le_of_ble_eq_true rfl⟩ rfl hF (fun x105 h104 hF => ?_)
  exact jj_retI (ty := .int) rfl rfl dX3_bestScreen_18 ⟨Nat.le_of_ble_eq_true rfl, Nat.le_of_ble_eq_true rfl⟩ hF
theorem KX3_bestScreen {N : Nat} {a0 : Nat} {x1 : Int32} {x2 : Int32} {h : jm_H} {X : jm_X} (hF : FX3_bestScreen N a0 x1 x2 h = some X) : jm_K M_X3_bestScreen [.ref a0, .int x1, .int x2] h X := jk_of rfl (by decide +kernel) rfl rfl (Nat.le_of_ble_eq_true rfl) (JX3_bestScreen hF)
set_option maxRecDepth 100000 in
set_option maxHeartbeats 4000000 in
theorem BX0_moreGreeters_19 (N : Nat) : ∀ (n : Nat) (a0 : Nat) (x1 : Int32) (x3 : Int32) (x4 : Int32) (x5 : Int32) (h : jm_H) (X : jm_X), FX0_moreGreeters_19 N n a0 x1 x3 x4 x5 h = some X → jm_J M_X0_moreGreeters 19 [(0, .ref a0), (1, .int x1), (3, .int x3), (4, .int x4), (5, .int x5)] [] h 0 0 X := by
  intro n
  induction n with
  | zero =>
    intro a0 x1 x3 x4 x5 h X hF
    exact nomatch (show (none : Option jm_X) = some X from hF)
  | succ n ih =>
    intro a0 x1 x3 x4 x5 h X hF
    rw [FX0_moreGreeters_19] at hF
    refine jj_iload (j := 4) (i := 5) (pc' := 21) dX0_moreGreeters_19 rfl rfl ?_
    refine jj_aload_n (j := 0) (i := 0) (pc' := 22) dX0_moreGreeters_21 rfl rfl rfl ?_
    refine jj_gR (C := RX0) (T := TX0) (N := 10) (ci := 0) (k := 4) (pc' := 25) dX0_moreGreeters_22 rfl rfl inX0 (by decide) qw_19 hF (fun r101 hF => ?_)
    refine jj_gI (C := RX2) (T := TX2) (N := 3) (ci := 2) (k := 2) (pc' := 28) dX0_moreGreeters_25 rfl rfl inX2 (by decide) qw_47 hF (fun x102 hF => ?_)
    refine jj_icmp_ge (tgt := 80) (pc' := 31) dX0_moreGreeters_28 rfl rfl (fun hc hF => ?_) (fun hc hF => ?_) hF
    · skip
      refine jj_iload (j := 3) (i := 4) (pc' := 82) dX0_moreGreeters_80 rfl rfl ?_
      exact jj_retI (ty := .int) rfl rfl dX0_moreGreeters_82 ⟨Nat.le_of_ble_eq_true rfl, Nat.le_of_ble_eq_true rfl⟩ hF
    · skip
      refine jj_aload_n (j := 0) (i := 0) (pc' := 32) dX0_moreGreeters_31 rfl rfl rfl ?_
      refine jj_gR (C := RX0) (T := TX0) (N := 10) (ci := 0) (k := 4) (pc' := 35) dX0_moreGreeters_32 rfl rfl inX0 (by decide) qw_19 hF (fun r103 hF => ?_)
      refine jj_iload (j := 4) (i := 5) (pc' := 37) dX0_moreGreeters_35 rfl rfl ?_
      refine jj_iconst (v := (0 : Int32)) (pc' := 38) dX0_moreGreeters_37 rfl rfl ?_
      refine jj_cI (N := M_X2_at) (kc' := 0) (ks' := 0) (pc' := 41) (jg_V (N := M_X2_at) (ci := 2) (rest := []) (as := [.int x5, .int ((0 : Int32))]) cf_X0_60 dX0_moreGreeters_38 ⟨rfl, rfl⟩ rfl rfl ⟨Nat.le_of_ble_eq_true rfl, Nat.le_of_ble_eq_true rfl⟩ ⟨Nat.le_of_ble_eq_true rfl, Nat.le_of_ble_eq_true rfl⟩ (Nat.le_of_ble_eq_true rfl) (fun X' hX => KX2_at hX)) rfl rfl rfl rfl ⟨Nat.le_of_ble_eq_true rfl, Nat.le_of_ble_eq_true rfl⟩ rfl hF (fun x105 h104 hF => ?_)
      refine jj_iload_n (j := 1) (i := 1) (pc' := 42) dX0_moreGreeters_41 rfl rfl rfl ?_
      refine jj_icmp_ne (tgt := 74) (pc' := 45) dX0_moreGreeters_42 rfl rfl (fun hc hF => ?_) (fun hc hF => ?_) hF
      · skip
        refine jj_iinc (i := 5) (j := 4) (v := x5 + (1 : Int32)) (ls' := [(5, .int (x5 + (1 : Int32))), (0, .ref a0), (1, .int x1), (3, .int x3), (4, .int x4)]) (pc' := 77) dX0_moreGreeters_74 rfl rfl (Nat.le_of_ble_eq_true rfl) rfl rfl ?_
        refine jj_goto (tgt := 19) dX0_moreGreeters_77 rfl ?_
        exact jj_pick [1, 2, 3, 4, 0] rfl (ih a0 x1 x3 x4 (x5 + (1 : Int32)) h104 _ hF)
      · skip
        refine jj_aload_n (j := 0) (i := 0) (pc' := 46) dX0_moreGreeters_45 rfl rfl rfl ?_
        refine jj_iload (j := 4) (i := 5) (pc' := 48) dX0_moreGreeters_46 rfl rfl ?_
        refine jj_iload_n (j := 2) (i := 3) (pc' := 49) dX0_moreGreeters_48 rfl rfl rfl ?_
        refine jj_aload_n (j := 0) (i := 0) (pc' := 50) dX0_moreGreeters_49 rfl rfl rfl ?_
        refine jj_iload_n (j := 1) (i := 1) (pc' := 51) dX0_moreGreeters_50 rfl rfl rfl ?_
        refine jj_cI (N := M_X0_lengthOf) (kc' := 0) (ks' := 0) (pc' := 54) (jg_V (N := M_X0_lengthOf) (ci := 0) (rest := [.int x3, .int x5, .ref a0]) (as := [.int x1]) cf_X0_104 dX0_moreGreeters_51 ⟨rfl, rfl⟩ rfl rfl ⟨Nat.le_of_ble_eq_true rfl, Nat.le_of_ble_eq_true rfl⟩ ⟨Nat.le_of_ble_eq_true rfl, Nat.le_of_ble_eq_true rfl⟩ (Nat.le_of_ble_eq_true rfl) (fun X' hX => KX0_lengthOf hX)) rfl rfl rfl rfl ⟨Nat.le_of_ble_eq_true rfl, Nat.le_of_ble_eq_true rfl⟩ rfl hF (fun x107 h106 hF => ?_)
        refine jj_iadd (pc' := 55) dX0_moreGreeters_54 rfl ?_
        refine jj_cI (N := M_X0_fits) (kc' := 0) (ks' := 0) (pc' := 58) (jg_V (N := M_X0_fits) (ci := 0) (rest := []) (as := [.int x5, .int (x3 + x107)]) cf_X0_127 dX0_moreGreeters_55 ⟨rfl, rfl⟩ rfl rfl ⟨Nat.le_of_ble_eq_true rfl, Nat.le_of_ble_eq_true rfl⟩ ⟨Nat.le_of_ble_eq_true rfl, Nat.le_of_ble_eq_true rfl⟩ (Nat.le_of_ble_eq_true rfl) (fun X' hX => KX0_fits hX)) rfl rfl rfl rfl ⟨Nat.le_of_ble_eq_true rfl, Nat.le_of_ble_eq_true rfl⟩ rfl hF (fun x109 h108 hF => ?_)
        refine jj_if_eq (tgt := 74) (pc' := 61) dX0_moreGreeters_58 rfl rfl (fun hc hF => ?_) (fun hc hF => ?_) hF
        · skip
          refine jj_iinc (i := 5) (j := 4) (v := x5 + (1 : Int32)) (ls' := [(5, .int (x5 + (1 : Int32))), (0, .ref a0), (1, .int x1), (3, .int x3), (4, .int x4)]) (pc' := 77) dX0_moreGreeters_74 rfl rfl (Nat.le_of_ble_eq_true rfl) rfl rfl ?_
          refine jj_goto (tgt := 19) dX0_moreGreeters_77 rfl ?_
          exact jj_pick [1, 2, 3, 4, 0] rfl (ih a0 x1 x3 x4 (x5 + (1 : Int32)) h108 _ hF)
        · skip
          refine jj_aload_n (j := 0) (i := 0) (pc' := 62) dX0_moreGreeters_61 rfl rfl rfl ?_
          refine jj_iload (j := 4) (i := 5) (pc' := 64) dX0_moreGreeters_62 rfl rfl ?_
          refine jj_cI (N := M_X0_greetedBy) (kc' := 0) (ks' := 0) (pc' := 67) (jg_V (N := M_X0_greetedBy) (ci := 0) (rest := []) (as := [.int x5]) cf_X0_130 dX0_moreGreeters_64 ⟨rfl, rfl⟩ rfl rfl ⟨Nat.le_of_ble_eq_true rfl, Nat.le_of_ble_eq_true rfl⟩ ⟨Nat.le_of_ble_eq_true rfl, Nat.le_of_ble_eq_true rfl⟩ (Nat.le_of_ble_eq_true rfl) (fun X' hX => KX0_greetedBy hX)) rfl rfl rfl rfl ⟨Nat.le_of_ble_eq_true rfl, Nat.le_of_ble_eq_true rfl⟩ rfl hF (fun x111 h110 hF => ?_)
          refine jj_iconst (v := (-1 : Int32)) (pc' := 68) dX0_moreGreeters_67 rfl rfl ?_
          refine jj_icmp_ne (tgt := 74) (pc' := 71) dX0_moreGreeters_68 rfl rfl (fun hc hF => ?_) (fun hc hF => ?_) hF
          · skip
            refine jj_iinc (i := 5) (j := 4) (v := x5 + (1 : Int32)) (ls' := [(5, .int (x5 + (1 : Int32))), (0, .ref a0), (1, .int x1), (3, .int x3), (4, .int x4)]) (pc' := 77) dX0_moreGreeters_74 rfl rfl (Nat.le_of_ble_eq_true rfl) rfl rfl ?_
            refine jj_goto (tgt := 19) dX0_moreGreeters_77 rfl ?_
            exact jj_pick [1, 2, 3, 4, 0] rfl (ih a0 x1 x3 x4 (x5 + (1 : Int32)) h110 _ hF)
          · skip
            refine jj_iinc (i := 4) (j := 3) (v := x4 + (1 : Int32)) (ls' := [(4, .int (x4 + (1 : Int32))), (0, .ref a0), (1, .int x1), (3, .int x3), (5, .int x5)]) (pc' := 74) dX0_moreGreeters_71 rfl rfl (Nat.le_of_ble_eq_true rfl) rfl rfl ?_
            refine jj_iinc (i := 5) (j := 4) (v := x5 + (1 : Int32)) (ls' := [(5, .int (x5 + (1 : Int32))), (4, .int (x4 + (1 : Int32))), (0, .ref a0), (1, .int x1), (3, .int x3)]) (pc' := 77) dX0_moreGreeters_74 rfl rfl (Nat.le_of_ble_eq_true rfl) rfl rfl ?_
            refine jj_goto (tgt := 19) dX0_moreGreeters_77 rfl ?_
            exact jj_pick [2, 3, 4, 1, 0] rfl (ih a0 x1 x3 (x4 + (1 : Int32)) (x5 + (1 : Int32)) h110 _ hF)
set_option maxRecDepth 100000 in
set_option maxHeartbeats 4000000 in
theorem JX0_moreGreeters {N : Nat} {a0 : Nat} {x1 : Int32} {x2 : Int32} {x3 : Int32} {h : jm_H} {X : jm_X} (hF : FX0_moreGreeters N a0 x1 x2 x3 h = some X) : jm_J M_X0_moreGreeters 0 [(0, .ref a0), (1, .int x1), (2, .int x2), (3, .int x3)] [] h 0 0 X := by
  unfold FX0_moreGreeters at hF
  refine jj_aload_n (j := 0) (i := 0) (pc' := 1) dX0_moreGreeters_0 rfl rfl rfl ?_
  refine jj_iload_n (j := 1) (i := 1) (pc' := 2) dX0_moreGreeters_1 rfl rfl rfl ?_
  refine jj_iload_n (j := 2) (i := 2) (pc' := 3) dX0_moreGreeters_2 rfl rfl rfl ?_
  refine jj_iload_n (j := 3) (i := 3) (pc' := 4) dX0_moreGreeters_3 rfl rfl rfl ?_
  refine jj_iconst (v := (0 : Int32)) (pc' := 5) dX0_moreGreeters_4 rfl rfl ?_
  refine jj_cI (N := M_X0_refusal) (kc' := 0) (ks' := 0) (pc' := 8) (jg_V (N := M_X0_refusal) (ci := 0) (rest := []) (as := [.int x1, .int x2, .int x3, .int ((0 : Int32))]) cf_X0_124 dX0_moreGreeters_5 ⟨rfl, rfl⟩ rfl rfl ⟨Nat.le_of_ble_eq_true rfl, Nat.le_of_ble_eq_true rfl⟩ ⟨Nat.le_of_ble_eq_true rfl, Nat.le_of_ble_eq_true rfl⟩ (Nat.le_of_ble_eq_true rfl) (fun X' hX => KX0_refusal hX)) rfl rfl rfl rfl ⟨Nat.le_of_ble_eq_true rfl, Nat.le_of_ble_eq_true rfl⟩ rfl hF (fun x102 h101 hF => ?_)
  refine jj_if_eq (tgt := 13) (pc' := 11) dX0_moreGreeters_8 rfl rfl (fun hc hF => ?_) (fun hc hF => ?_) hF
  · skip
    refine jj_iconst (v := (0 : Int32)) (pc' := 14) dX0_moreGreeters_13 rfl rfl ?_
    refine jj_istore (i := 4) (ls' := [(4, .int ((0 : Int32))), (0, .ref a0), (1, .int x1), (2, .int x2), (3, .int x3)]) (pc' := 16) dX0_moreGreeters_14 (Nat.le_of_ble_eq_true rfl) rfl rfl ?_
    refine jj_iconst (v := (0 : Int32)) (pc' := 17) dX0_moreGreeters_16 rfl rfl ?_
    refine jj_istore (i := 5) (ls' := [(5, .int ((0 : Int32))), (4, .int ((0 : Int32))), (0, .ref a0), (1, .int x1), (2, .int x2), (3, .int x3)]) (pc' := 19) dX0_moreGreeters_17 (Nat.le_of_ble_eq_true rfl) rfl rfl ?_
    exact jj_pick [2, 3, 5, 1, 0] rfl (BX0_moreGreeters_19 N N a0 x1 x3 ((0 : Int32)) ((0 : Int32)) h101 _ hF)
  · skip
    refine jj_iconst (v := (-1 : Int32)) (pc' := 12) dX0_moreGreeters_11 rfl rfl ?_
    exact jj_retI (ty := .int) rfl rfl dX0_moreGreeters_12 ⟨Nat.le_of_ble_eq_true rfl, Nat.le_of_ble_eq_true rfl⟩ hF
theorem KX0_moreGreeters {N : Nat} {a0 : Nat} {x1 : Int32} {x2 : Int32} {x3 : Int32} {h : jm_H} {X : jm_X} (hF : FX0_moreGreeters N a0 x1 x2 x3 h = some X) : jm_K M_X0_moreGreeters [.ref a0, .int x1, .int x2, .int x3] h X := jk_of rfl (by decide +kernel) rfl rfl (Nat.le_of_ble_eq_true rfl) (JX0_moreGreeters hF)
set_option maxRecDepth 100000 in
set_option maxHeartbeats 4000000 in
theorem JX3_ifShown {N : Nat} {a0 : Nat} {x1 : Int32} {x2 : Int32} {x3 : Int32} {h : jm_H} {X : jm_X} (hF : FX3_ifShown N a0 x1 x2 x3 h = some X) : jm_J M_X3_ifShown 0 [(0, .ref a0), (1, .int x1), (2, .int x2), (3, .int x3)] [] h 0 0 X := by
  unfold FX3_ifShown at hF
  refine jj_aload_n (j := 0) (i := 0) (pc' := 1) dX3_ifShown_0 rfl rfl rfl ?_
  refine jj_iload_n (j := 1) (i := 1) (pc' := 2) dX3_ifShown_1 rfl rfl rfl ?_
  refine jj_cV (N := M_X3_requireFilm) (kc' := 1) (ks' := 6) (pc' := 5) (jg_V (N := M_X3_requireFilm) (ci := 3) (rest := []) (as := [.int x1]) cf_X3_85 dX3_ifShown_2 ⟨rfl, rfl⟩ rfl rfl ⟨Nat.le_of_ble_eq_true rfl, Nat.le_of_ble_eq_true rfl⟩ ⟨Nat.le_of_ble_eq_true rfl, Nat.le_of_ble_eq_true rfl⟩ (Nat.le_of_ble_eq_true rfl) (fun X' hX => KX3_requireFilm hX)) rfl rfl rfl rfl ⟨Nat.le_of_ble_eq_true rfl, Nat.le_of_ble_eq_true rfl⟩ rfl hF (fun h101 hF => ?_)
  refine jj_iload_n (j := 2) (i := 2) (pc' := 6) dX3_ifShown_5 rfl rfl rfl ?_
  refine jj_cV (N := M_X3_requireScreen) (kc' := 2) (ks' := 12) (pc' := 9) (jg_S (N := M_X3_requireScreen) (rest := []) (as := [.int x2]) cf_X3_66 rfl dX3_ifShown_6 rfl rfl ⟨Nat.le_of_ble_eq_true rfl, Nat.le_of_ble_eq_true rfl⟩ ⟨Nat.le_of_ble_eq_true rfl, Nat.le_of_ble_eq_true rfl⟩ (Nat.le_of_ble_eq_true rfl) (fun X' hX => KX3_requireScreen hX)) rfl rfl rfl rfl ⟨Nat.le_of_ble_eq_true rfl, Nat.le_of_ble_eq_true rfl⟩ rfl hF (fun h102 hF => ?_)
  refine jj_iload_n (j := 3) (i := 3) (pc' := 10) dX3_ifShown_9 rfl rfl rfl ?_
  refine jj_cV (N := M_X3_requireMinute) (kc' := 3) (ks' := 18) (pc' := 13) (jg_S (N := M_X3_requireMinute) (rest := []) (as := [.int x3]) cf_X3_88 rfl dX3_ifShown_10 rfl rfl ⟨Nat.le_of_ble_eq_true rfl, Nat.le_of_ble_eq_true rfl⟩ ⟨Nat.le_of_ble_eq_true rfl, Nat.le_of_ble_eq_true rfl⟩ (Nat.le_of_ble_eq_true rfl) (fun X' hX => KX3_requireMinute hX)) rfl rfl rfl rfl ⟨Nat.le_of_ble_eq_true rfl, Nat.le_of_ble_eq_true rfl⟩ rfl hF (fun h103 hF => ?_)
  refine jj_aload_n (j := 0) (i := 0) (pc' := 14) dX3_ifShown_13 rfl rfl rfl ?_
  refine jj_gR (C := RX3) (T := TX3) (N := 8) (ci := 3) (k := 0) (pc' := 17) dX3_ifShown_14 rfl rfl inX3 (by decide) qw_29 hF (fun r104 hF => ?_)
  refine jj_iload_n (j := 1) (i := 1) (pc' := 18) dX3_ifShown_17 rfl rfl rfl ?_
  refine jj_iload_n (j := 2) (i := 2) (pc' := 19) dX3_ifShown_18 rfl rfl rfl ?_
  refine jj_iload_n (j := 3) (i := 3) (pc' := 20) dX3_ifShown_19 rfl rfl rfl ?_
  refine jj_cI (N := M_X0_moreGreeters) (kc' := 3) (ks' := 18) (pc' := 23) (jg_V (N := M_X0_moreGreeters) (ci := 0) (rest := []) (as := [.int x1, .int x2, .int x3]) cf_X3_231 dX3_ifShown_20 ⟨rfl, rfl⟩ rfl rfl ⟨Nat.le_of_ble_eq_true rfl, Nat.le_of_ble_eq_true rfl⟩ ⟨Nat.le_of_ble_eq_true rfl, Nat.le_of_ble_eq_true rfl⟩ (Nat.le_of_ble_eq_true rfl) (fun X' hX => KX0_moreGreeters hX)) rfl rfl rfl rfl ⟨Nat.le_of_ble_eq_true rfl, Nat.le_of_ble_eq_true rfl⟩ rfl hF (fun x106 h105 hF => ?_)
  exact jj_retI (ty := .int) rfl rfl dX3_ifShown_23 ⟨Nat.le_of_ble_eq_true rfl, Nat.le_of_ble_eq_true rfl⟩ hF
theorem KX3_ifShown {N : Nat} {a0 : Nat} {x1 : Int32} {x2 : Int32} {x3 : Int32} {h : jm_H} {X : jm_X} (hF : FX3_ifShown N a0 x1 x2 x3 h = some X) : jm_K M_X3_ifShown [.ref a0, .int x1, .int x2, .int x3] h X := jk_of rfl (by decide +kernel) rfl rfl (Nat.le_of_ble_eq_true rfl) (JX3_ifShown hF)
set_option maxRecDepth 100000 in
set_option maxHeartbeats 4000000 in
theorem JX0_share {N : Nat} {a0 : Nat} {x1 : Int32} {h : jm_H} {X : jm_X} (hF : FX0_share N a0 x1 h = some X) : jm_J M_X0_share 0 [(0, .ref a0), (1, .int x1)] [] h 0 0 X := by
  unfold FX0_share at hF
  refine jj_aload_n (j := 0) (i := 0) (pc' := 1) dX0_share_0 rfl rfl rfl ?_
  refine jj_iload_n (j := 1) (i := 1) (pc' := 2) dX0_share_1 rfl rfl rfl ?_
  refine jj_cI (N := M_X0_reckonedMinutes) (kc' := 0) (ks' := 0) (pc' := 5) (jg_V (N := M_X0_reckonedMinutes) (ci := 0) (rest := []) (as := [.int x1]) cf_X0_148 dX0_share_2 ⟨rfl, rfl⟩ rfl rfl ⟨Nat.le_of_ble_eq_true rfl, Nat.le_of_ble_eq_true rfl⟩ ⟨Nat.le_of_ble_eq_true rfl, Nat.le_of_ble_eq_true rfl⟩ (Nat.le_of_ble_eq_true rfl) (fun X' hX => KX0_reckonedMinutes hX)) rfl rfl rfl rfl ⟨Nat.le_of_ble_eq_true rfl, Nat.le_of_ble_eq_true rfl⟩ rfl hF (fun x102 h101 hF => ?_)
  refine jj_i2d (pc' := 6) dX0_share_5 rfl ?_
  refine jj_ldc2d (v := (4656510908468559872 : UInt64)) (pc' := 9) dX0_share_6 qw_67 rfl ?_
  obtain ⟨hn, hF⟩ := jf_n_inv hF
  refine jj_ddiv (pc' := 10) dX0_share_9 hn rfl ?_
  exact jj_retD rfl dX0_share_10 ⟨Nat.le_of_ble_eq_true rfl, Nat.le_of_ble_eq_true rfl⟩ hF
theorem KX0_share {N : Nat} {a0 : Nat} {x1 : Int32} {h : jm_H} {X : jm_X} (hF : FX0_share N a0 x1 h = some X) : jm_K M_X0_share [.ref a0, .int x1] h X := jk_of rfl (by decide +kernel) rfl rfl (Nat.le_of_ble_eq_true rfl) (JX0_share hF)
set_option maxRecDepth 100000 in
set_option maxHeartbeats 4000000 in
theorem JX3_use {N : Nat} {a0 : Nat} {x1 : Int32} {h : jm_H} {X : jm_X} (hF : FX3_use N a0 x1 h = some X) : jm_J M_X3_use 0 [(0, .ref a0), (1, .int x1)] [] h 0 0 X := by
  unfold FX3_use at hF
  refine jj_iload_n (j := 1) (i := 1) (pc' := 1) dX3_use_0 rfl rfl rfl ?_
  refine jj_cV (N := M_X3_requireScreen) (kc' := 1) (ks' := 6) (pc' := 4) (jg_S (N := M_X3_requireScreen) (rest := []) (as := [.int x1]) cf_X3_66 rfl dX3_use_1 rfl rfl ⟨Nat.le_of_ble_eq_true rfl, Nat.le_of_ble_eq_true rfl⟩ ⟨Nat.le_of_ble_eq_true rfl, Nat.le_of_ble_eq_true rfl⟩ (Nat.le_of_ble_eq_true rfl) (fun X' hX => KX3_requireScreen hX)) rfl rfl rfl rfl ⟨Nat.le_of_ble_eq_true rfl, Nat.le_of_ble_eq_true rfl⟩ rfl hF (fun h101 hF => ?_)
  refine jj_aload_n (j := 0) (i := 0) (pc' := 5) dX3_use_4 rfl rfl rfl ?_
  refine jj_gR (C := RX3) (T := TX3) (N := 8) (ci := 3) (k := 0) (pc' := 8) dX3_use_5 rfl rfl inX3 (by decide) qw_29 hF (fun r102 hF => ?_)
  refine jj_iload_n (j := 1) (i := 1) (pc' := 9) dX3_use_8 rfl rfl rfl ?_
  refine jj_cD (N := M_X0_share) (kc' := 1) (ks' := 6) (pc' := 12) (jg_V (N := M_X0_share) (ci := 0) (rest := []) (as := [.int x1]) cf_X3_234 dX3_use_9 ⟨rfl, rfl⟩ rfl rfl ⟨Nat.le_of_ble_eq_true rfl, Nat.le_of_ble_eq_true rfl⟩ ⟨Nat.le_of_ble_eq_true rfl, Nat.le_of_ble_eq_true rfl⟩ (Nat.le_of_ble_eq_true rfl) (fun X' hX => KX0_share hX)) rfl rfl rfl rfl ⟨Nat.le_of_ble_eq_true rfl, Nat.le_of_ble_eq_true rfl⟩ rfl hF (fun d104 h103 hF => ?_)
  exact jj_retD rfl dX3_use_12 ⟨Nat.le_of_ble_eq_true rfl, Nat.le_of_ble_eq_true rfl⟩ hF
theorem KX3_use {N : Nat} {a0 : Nat} {x1 : Int32} {h : jm_H} {X : jm_X} (hF : FX3_use N a0 x1 h = some X) : jm_K M_X3_use [.ref a0, .int x1] h X := jk_of rfl (by decide +kernel) rfl rfl (Nat.le_of_ble_eq_true rfl) (JX3_use hF)
set_option maxRecDepth 100000 in
set_option maxHeartbeats 4000000 in
theorem BX3_mixFilms_23 (N : Nat) : ∀ (n : Nat) (a0 : Nat) (l3 : Int64) (x5 : Int32) (x6 : Int32) (h : jm_H) (k54 : Nat → Int64 → Int32 → jm_H → Option jm_X) (X : jm_X), (∀ (z0 : Nat) (z3 : Int64) (z5 : Int32) (h : jm_H) (X : jm_X), k54 z0 z3 z5 h = some X → jm_J M_X3_mixFilms 54 [(0, .ref z0), (3, .long z3), (5, .int z5)] [] h 0 0 X) → FX3_mixFilms_23 N n a0 l3 x5 x6 h k54 = some X → jm_J M_X3_mixFilms 23 [(0, .ref a0), (3, .long l3), (5, .int x5), (6, .int x6)] [] h 0 0 X := by
  intro n
  induction n with
  | zero =>
    intro a0 l3 x5 x6 h k54 X hk54 hF
    exact nomatch (show (none : Option jm_X) = some X from hF)
  | succ n ih =>
    intro a0 l3 x5 x6 h k54 X hk54 hF
    rw [FX3_mixFilms_23] at hF
    refine jj_iload (j := 3) (i := 6) (pc' := 25) dX3_mixFilms_23 rfl rfl ?_
    refine jj_iconst (v := (5 : Int32)) (pc' := 26) dX3_mixFilms_25 rfl rfl ?_
    refine jj_icmp_gt (tgt := 54) (pc' := 29) dX3_mixFilms_26 rfl rfl (fun hc hF => ?_) (fun hc hF => ?_) hF
    · skip
      exact jj_pick [0, 1, 2] rfl (hk54 a0 l3 x5 h _ hF)
    · skip
      refine jj_ldc2l (v := (31 : Int64)) (pc' := 32) dX3_mixFilms_29 qw_68 rfl ?_
      refine jj_lload_n (j := 1) (i := 3) (pc' := 33) dX3_mixFilms_32 rfl rfl rfl ?_
      refine jj_lmul (pc' := 34) dX3_mixFilms_33 rfl ?_
      refine jj_aload_n (j := 0) (i := 0) (pc' := 35) dX3_mixFilms_34 rfl rfl rfl ?_
      refine jj_gR (C := RX3) (T := TX3) (N := 8) (ci := 3) (k := 0) (pc' := 38) dX3_mixFilms_35 rfl rfl inX3 (by decide) qw_29 hF (fun r101 hF => ?_)
      refine jj_iload (j := 2) (i := 5) (pc' := 40) dX3_mixFilms_38 rfl rfl ?_
      refine jj_iload (j := 3) (i := 6) (pc' := 42) dX3_mixFilms_40 rfl rfl ?_
      refine jj_cI (N := M_X0_filmNumber) (kc' := 0) (ks' := 0) (pc' := 45) (jg_V (N := M_X0_filmNumber) (ci := 0) (rest := [.long (((31 : Int64)) * l3)]) (as := [.int x5, .int x6]) cf_X3_193 dX3_mixFilms_42 ⟨rfl, rfl⟩ rfl rfl ⟨Nat.le_of_ble_eq_true rfl, Nat.le_of_ble_eq_true rfl⟩ ⟨Nat.le_of_ble_eq_true rfl, Nat.le_of_ble_eq_true rfl⟩ (Nat.le_of_ble_eq_true rfl) (fun X' hX => KX0_filmNumber hX)) rfl rfl rfl rfl ⟨Nat.le_of_ble_eq_true rfl, Nat.le_of_ble_eq_true rfl⟩ rfl hF (fun x103 h102 hF => ?_)
      refine jj_i2l (pc' := 46) dX3_mixFilms_45 rfl ?_
      refine jj_ladd (pc' := 47) dX3_mixFilms_46 rfl ?_
      refine jj_lstore_n (i := 3) (ls' := [(3, .long ((((31 : Int64)) * l3) + x103.toInt64)), (0, .ref a0), (5, .int x5), (6, .int x6)]) (pc' := 48) dX3_mixFilms_47 rfl (Nat.le_of_ble_eq_true rfl) rfl rfl ?_
      refine jj_iinc (i := 6) (j := 3) (v := x6 + (1 : Int32)) (ls' := [(6, .int (x6 + (1 : Int32))), (3, .long ((((31 : Int64)) * l3) + x103.toInt64)), (0, .ref a0), (5, .int x5)]) (pc' := 51) dX3_mixFilms_48 rfl rfl (Nat.le_of_ble_eq_true rfl) rfl rfl ?_
      refine jj_goto (tgt := 23) dX3_mixFilms_51 rfl ?_
      exact jj_pick [2, 1, 3, 0] rfl (ih a0 ((((31 : Int64)) * l3) + x103.toInt64) x5 (x6 + (1 : Int32)) h102 k54 _ hk54 hF)
set_option maxRecDepth 100000 in
set_option maxHeartbeats 4000000 in
theorem BX3_mixFilms_57 (N : Nat) : ∀ (n : Nat) (a0 : Nat) (l3 : Int64) (x5 : Int32) (x6 : Int32) (h : jm_H) (k89 : Nat → Int64 → Int32 → jm_H → Option jm_X) (X : jm_X), (∀ (z0 : Nat) (z3 : Int64) (z5 : Int32) (h : jm_H) (X : jm_X), k89 z0 z3 z5 h = some X → jm_J M_X3_mixFilms 89 [(0, .ref z0), (3, .long z3), (5, .int z5)] [] h 0 0 X) → FX3_mixFilms_57 N n a0 l3 x5 x6 h k89 = some X → jm_J M_X3_mixFilms 57 [(0, .ref a0), (3, .long l3), (5, .int x5), (6, .int x6)] [] h 0 0 X := by
  intro n
  induction n with
  | zero =>
    intro a0 l3 x5 x6 h k89 X hk89 hF
    exact nomatch (show (none : Option jm_X) = some X from hF)
  | succ n ih =>
    intro a0 l3 x5 x6 h k89 X hk89 hF
    rw [FX3_mixFilms_57] at hF
    refine jj_iload (j := 3) (i := 6) (pc' := 59) dX3_mixFilms_57 rfl rfl ?_
    refine jj_iconst (v := (3 : Int32)) (pc' := 60) dX3_mixFilms_59 rfl rfl ?_
    refine jj_icmp_ge (tgt := 89) (pc' := 63) dX3_mixFilms_60 rfl rfl (fun hc hF => ?_) (fun hc hF => ?_) hF
    · skip
      exact jj_pick [0, 1, 2] rfl (hk89 a0 l3 x5 h _ hF)
    · skip
      refine jj_ldc2l (v := (31 : Int64)) (pc' := 66) dX3_mixFilms_63 qw_68 rfl ?_
      refine jj_lload_n (j := 1) (i := 3) (pc' := 67) dX3_mixFilms_66 rfl rfl rfl ?_
      refine jj_lmul (pc' := 68) dX3_mixFilms_67 rfl ?_
      refine jj_aload_n (j := 0) (i := 0) (pc' := 69) dX3_mixFilms_68 rfl rfl rfl ?_
      refine jj_gR (C := RX3) (T := TX3) (N := 8) (ci := 3) (k := 0) (pc' := 72) dX3_mixFilms_69 rfl rfl inX3 (by decide) qw_29 hF (fun r101 hF => ?_)
      refine jj_iload (j := 2) (i := 5) (pc' := 74) dX3_mixFilms_72 rfl rfl ?_
      refine jj_iload (j := 3) (i := 6) (pc' := 76) dX3_mixFilms_74 rfl rfl ?_
      refine jj_iconst (v := (0 : Int32)) (pc' := 77) dX3_mixFilms_76 rfl rfl ?_
      refine jj_cI (N := M_X0_nextFrom) (kc' := 0) (ks' := 0) (pc' := 80) (jg_V (N := M_X0_nextFrom) (ci := 0) (rest := [.long (((31 : Int64)) * l3)]) (as := [.int x5, .int x6, .int ((0 : Int32))]) cf_X3_225 dX3_mixFilms_77 ⟨rfl, rfl⟩ rfl rfl ⟨Nat.le_of_ble_eq_true rfl, Nat.le_of_ble_eq_true rfl⟩ ⟨Nat.le_of_ble_eq_true rfl, Nat.le_of_ble_eq_true rfl⟩ (Nat.le_of_ble_eq_true rfl) (fun X' hX => KX0_nextFrom hX)) rfl rfl rfl rfl ⟨Nat.le_of_ble_eq_true rfl, Nat.le_of_ble_eq_true rfl⟩ rfl hF (fun x103 h102 hF => ?_)
      refine jj_i2l (pc' := 81) dX3_mixFilms_80 rfl ?_
      refine jj_ladd (pc' := 82) dX3_mixFilms_81 rfl ?_
      refine jj_lstore_n (i := 3) (ls' := [(3, .long ((((31 : Int64)) * l3) + x103.toInt64)), (0, .ref a0), (5, .int x5), (6, .int x6)]) (pc' := 83) dX3_mixFilms_82 rfl (Nat.le_of_ble_eq_true rfl) rfl rfl ?_
      refine jj_iinc (i := 6) (j := 3) (v := x6 + (1 : Int32)) (ls' := [(6, .int (x6 + (1 : Int32))), (3, .long ((((31 : Int64)) * l3) + x103.toInt64)), (0, .ref a0), (5, .int x5)]) (pc' := 86) dX3_mixFilms_83 rfl rfl (Nat.le_of_ble_eq_true rfl) rfl rfl ?_
      refine jj_goto (tgt := 57) dX3_mixFilms_86 rfl ?_
      exact jj_pick [2, 1, 3, 0] rfl (ih a0 ((((31 : Int64)) * l3) + x103.toInt64) x5 (x6 + (1 : Int32)) h102 k89 _ hk89 hF)
set_option maxRecDepth 100000 in
set_option maxHeartbeats 4000000 in
theorem BX3_mixFilms_5 (N : Nat) : ∀ (n : Nat) (a0 : Nat) (l3 : Int64) (x5 : Int32) (h : jm_H) (X : jm_X), FX3_mixFilms_5 N n a0 l3 x5 h = some X → jm_J M_X3_mixFilms 5 [(0, .ref a0), (3, .long l3), (5, .int x5)] [] h 0 0 X := by
  intro n
  induction n with
  | zero =>
    intro a0 l3 x5 h X hF
    exact nomatch (show (none : Option jm_X) = some X from hF)
  | succ n ih =>
    intro a0 l3 x5 h X hF
    rw [FX3_mixFilms_5] at hF
    refine jj_iload (j := 2) (i := 5) (pc' := 7) dX3_mixFilms_5 rfl rfl ?_
    refine jj_aload_n (j := 0) (i := 0) (pc' := 8) dX3_mixFilms_7 rfl rfl rfl ?_
    refine jj_gR (C := RX3) (T := TX3) (N := 8) (ci := 3) (k := 0) (pc' := 11) dX3_mixFilms_8 rfl rfl inX3 (by decide) qw_29 hF (fun r101 hF => ?_)
    refine jj_gR (C := RX0) (T := TX0) (N := 10) (ci := 0) (k := 0) (pc' := 14) dX3_mixFilms_11 rfl rfl inX0 (by decide) qw_43 hF (fun r102 hF => ?_)
    refine jj_gI (C := RX2) (T := TX2) (N := 3) (ci := 2) (k := 2) (pc' := 17) dX3_mixFilms_14 rfl rfl inX2 (by decide) qw_44 hF (fun x103 hF => ?_)
    refine jj_icmp_ge (tgt := 113) (pc' := 20) dX3_mixFilms_17 rfl rfl (fun hc hF => ?_) (fun hc hF => ?_) hF
    · skip
      refine jj_lload_n (j := 1) (i := 3) (pc' := 114) dX3_mixFilms_113 rfl rfl rfl ?_
      exact jj_retL rfl dX3_mixFilms_114 ⟨Nat.le_of_ble_eq_true rfl, Nat.le_of_ble_eq_true rfl⟩ hF
    · skip
      refine jj_iconst (v := (0 : Int32)) (pc' := 21) dX3_mixFilms_20 rfl rfl ?_
      refine jj_istore (i := 6) (ls' := [(6, .int ((0 : Int32))), (0, .ref a0), (3, .long l3), (5, .int x5)]) (pc' := 23) dX3_mixFilms_21 (Nat.le_of_ble_eq_true rfl) rfl rfl ?_
      refine jj_pick [1, 2, 3, 0] rfl (BX3_mixFilms_23 N N a0 l3 x5 ((0 : Int32)) h _ _ ?_ hF)
      · intro a104 l105 x106 h107 X hF
        refine jj_iconst (v := (0 : Int32)) (pc' := 55) dX3_mixFilms_54 rfl rfl ?_
        refine jj_istore (i := 6) (ls' := [(6, .int ((0 : Int32))), (0, .ref a104), (3, .long l105), (5, .int x106)]) (pc' := 57) dX3_mixFilms_55 (Nat.le_of_ble_eq_true rfl) rfl rfl ?_
        refine jj_pick [1, 2, 3, 0] rfl (BX3_mixFilms_57 N N a104 l105 x106 ((0 : Int32)) h107 _ _ ?_ hF)
        · intro a108 l109 x110 h111 X hF
          refine jj_ldc2l (v := (31 : Int64)) (pc' := 92) dX3_mixFilms_89 qw_68 rfl ?_
          refine jj_lload_n (j := 1) (i := 3) (pc' := 93) dX3_mixFilms_92 rfl rfl rfl ?_
          refine jj_lmul (pc' := 94) dX3_mixFilms_93 rfl ?_
          refine jj_aload_n (j := 0) (i := 0) (pc' := 95) dX3_mixFilms_94 rfl rfl rfl ?_
          refine jj_gR (C := RX3) (T := TX3) (N := 8) (ci := 3) (k := 0) (pc' := 98) dX3_mixFilms_95 rfl rfl inX3 (by decide) qw_29 hF (fun r112 hF => ?_)
          refine jj_iload (j := 2) (i := 5) (pc' := 100) dX3_mixFilms_98 rfl rfl ?_
          refine jj_iconst (v := (0 : Int32)) (pc' := 101) dX3_mixFilms_100 rfl rfl ?_
          refine jj_cI (N := M_X0_bestFrom) (kc' := 0) (ks' := 0) (pc' := 104) (jg_V (N := M_X0_bestFrom) (ci := 0) (rest := [.long (((31 : Int64)) * l109)]) (as := [.int x110, .int ((0 : Int32))]) cf_X3_228 dX3_mixFilms_101 ⟨rfl, rfl⟩ rfl rfl ⟨Nat.le_of_ble_eq_true rfl, Nat.le_of_ble_eq_true rfl⟩ ⟨Nat.le_of_ble_eq_true rfl, Nat.le_of_ble_eq_true rfl⟩ (Nat.le_of_ble_eq_true rfl) (fun X' hX => KX0_bestFrom hX)) rfl rfl rfl rfl ⟨Nat.le_of_ble_eq_true rfl, Nat.le_of_ble_eq_true rfl⟩ rfl hF (fun x114 h113 hF => ?_)
          refine jj_i2l (pc' := 105) dX3_mixFilms_104 rfl ?_
          refine jj_ladd (pc' := 106) dX3_mixFilms_105 rfl ?_
          refine jj_lstore_n (i := 3) (ls' := [(3, .long ((((31 : Int64)) * l109) + x114.toInt64)), (0, .ref a108), (5, .int x110)]) (pc' := 107) dX3_mixFilms_106 rfl (Nat.le_of_ble_eq_true rfl) rfl rfl ?_
          refine jj_iinc (i := 5) (j := 2) (v := x110 + (1 : Int32)) (ls' := [(5, .int (x110 + (1 : Int32))), (3, .long ((((31 : Int64)) * l109) + x114.toInt64)), (0, .ref a108)]) (pc' := 110) dX3_mixFilms_107 rfl rfl (Nat.le_of_ble_eq_true rfl) rfl rfl ?_
          refine jj_goto (tgt := 5) dX3_mixFilms_110 rfl ?_
          exact jj_pick [2, 1, 0] rfl (ih a108 ((((31 : Int64)) * l109) + x114.toInt64) (x110 + (1 : Int32)) h113 _ hF)
set_option maxRecDepth 100000 in
set_option maxHeartbeats 4000000 in
theorem JX3_mixFilms {N : Nat} {a0 : Nat} {l1 : Int64} {h : jm_H} {X : jm_X} (hF : FX3_mixFilms N a0 l1 h = some X) : jm_J M_X3_mixFilms 0 [(0, .ref a0), (1, .long l1)] [] h 0 0 X := by
  unfold FX3_mixFilms at hF
  refine jj_lload_n (j := 1) (i := 1) (pc' := 1) dX3_mixFilms_0 rfl rfl rfl ?_
  refine jj_lstore_n (i := 3) (ls' := [(3, .long l1), (0, .ref a0), (1, .long l1)]) (pc' := 2) dX3_mixFilms_1 rfl (Nat.le_of_ble_eq_true rfl) rfl rfl ?_
  refine jj_iconst (v := (0 : Int32)) (pc' := 3) dX3_mixFilms_2 rfl rfl ?_
  refine jj_istore (i := 5) (ls' := [(5, .int ((0 : Int32))), (3, .long l1), (0, .ref a0), (1, .long l1)]) (pc' := 5) dX3_mixFilms_3 (Nat.le_of_ble_eq_true rfl) rfl rfl ?_
  exact jj_pick [2, 1, 0] rfl (BX3_mixFilms_5 N N a0 l1 ((0 : Int32)) h _ hF)
theorem KX3_mixFilms {N : Nat} {a0 : Nat} {l1 : Int64} {h : jm_H} {X : jm_X} (hF : FX3_mixFilms N a0 l1 h = some X) : jm_K M_X3_mixFilms [.ref a0, .long l1] h X := jk_of rfl (by decide +kernel) rfl rfl (Nat.le_of_ble_eq_true rfl) (JX3_mixFilms hF)
set_option maxRecDepth 100000 in
set_option maxHeartbeats 4000000 in
theorem BX3_mixShowings_23 (N : Nat) : ∀ (n : Nat) (a0 : Nat) (l3 : Int64) (x5 : Int32) (x6 : Int32) (h : jm_H) (k54 : Nat → Int64 → Int32 → jm_H → Option jm_X) (X : jm_X), (∀ (z0 : Nat) (z3 : Int64) (z5 : Int32) (h : jm_H) (X : jm_X), k54 z0 z3 z5 h = some X → jm_J M_X3_mixShowings 54 [(0, .ref z0), (3, .long z3), (5, .int z5)] [] h 0 0 X) → FX3_mixShowings_23 N n a0 l3 x5 x6 h k54 = some X → jm_J M_X3_mixShowings 23 [(0, .ref a0), (3, .long l3), (5, .int x5), (6, .int x6)] [] h 0 0 X := by
  intro n
  induction n with
  | zero =>
    intro a0 l3 x5 x6 h k54 X hk54 hF
    exact nomatch (show (none : Option jm_X) = some X from hF)
  | succ n ih =>
    intro a0 l3 x5 x6 h k54 X hk54 hF
    rw [FX3_mixShowings_23] at hF
    refine jj_iload (j := 3) (i := 6) (pc' := 25) dX3_mixShowings_23 rfl rfl ?_
    refine jj_iconst (v := (5 : Int32)) (pc' := 26) dX3_mixShowings_25 rfl rfl ?_
    refine jj_icmp_gt (tgt := 54) (pc' := 29) dX3_mixShowings_26 rfl rfl (fun hc hF => ?_) (fun hc hF => ?_) hF
    · skip
      exact jj_pick [0, 1, 2] rfl (hk54 a0 l3 x5 h _ hF)
    · skip
      refine jj_ldc2l (v := (31 : Int64)) (pc' := 32) dX3_mixShowings_29 qw_68 rfl ?_
      refine jj_lload_n (j := 1) (i := 3) (pc' := 33) dX3_mixShowings_32 rfl rfl rfl ?_
      refine jj_lmul (pc' := 34) dX3_mixShowings_33 rfl ?_
      refine jj_aload_n (j := 0) (i := 0) (pc' := 35) dX3_mixShowings_34 rfl rfl rfl ?_
      refine jj_gR (C := RX3) (T := TX3) (N := 8) (ci := 3) (k := 0) (pc' := 38) dX3_mixShowings_35 rfl rfl inX3 (by decide) qw_29 hF (fun r101 hF => ?_)
      refine jj_iload (j := 2) (i := 5) (pc' := 40) dX3_mixShowings_38 rfl rfl ?_
      refine jj_iload (j := 3) (i := 6) (pc' := 42) dX3_mixShowings_40 rfl rfl ?_
      refine jj_cI (N := M_X0_showingNumber) (kc' := 0) (ks' := 0) (pc' := 45) (jg_V (N := M_X0_showingNumber) (ci := 0) (rest := [.long (((31 : Int64)) * l3)]) (as := [.int x5, .int x6]) cf_X3_196 dX3_mixShowings_42 ⟨rfl, rfl⟩ rfl rfl ⟨Nat.le_of_ble_eq_true rfl, Nat.le_of_ble_eq_true rfl⟩ ⟨Nat.le_of_ble_eq_true rfl, Nat.le_of_ble_eq_true rfl⟩ (Nat.le_of_ble_eq_true rfl) (fun X' hX => KX0_showingNumber hX)) rfl rfl rfl rfl ⟨Nat.le_of_ble_eq_true rfl, Nat.le_of_ble_eq_true rfl⟩ rfl hF (fun x103 h102 hF => ?_)
      refine jj_i2l (pc' := 46) dX3_mixShowings_45 rfl ?_
      refine jj_ladd (pc' := 47) dX3_mixShowings_46 rfl ?_
      refine jj_lstore_n (i := 3) (ls' := [(3, .long ((((31 : Int64)) * l3) + x103.toInt64)), (0, .ref a0), (5, .int x5), (6, .int x6)]) (pc' := 48) dX3_mixShowings_47 rfl (Nat.le_of_ble_eq_true rfl) rfl rfl ?_
      refine jj_iinc (i := 6) (j := 3) (v := x6 + (1 : Int32)) (ls' := [(6, .int (x6 + (1 : Int32))), (3, .long ((((31 : Int64)) * l3) + x103.toInt64)), (0, .ref a0), (5, .int x5)]) (pc' := 51) dX3_mixShowings_48 rfl rfl (Nat.le_of_ble_eq_true rfl) rfl rfl ?_
      refine jj_goto (tgt := 23) dX3_mixShowings_51 rfl ?_
      exact jj_pick [2, 1, 3, 0] rfl (ih a0 ((((31 : Int64)) * l3) + x103.toInt64) x5 (x6 + (1 : Int32)) h102 k54 _ hk54 hF)
set_option maxRecDepth 100000 in
set_option maxHeartbeats 4000000 in
theorem BX3_mixShowings_57 (N : Nat) : ∀ (n : Nat) (a0 : Nat) (l3 : Int64) (x5 : Int32) (x6 : Int32) (h : jm_H) (k89 : Nat → Int64 → Int32 → jm_H → Option jm_X) (X : jm_X), (∀ (z0 : Nat) (z3 : Int64) (z5 : Int32) (h : jm_H) (X : jm_X), k89 z0 z3 z5 h = some X → jm_J M_X3_mixShowings 89 [(0, .ref z0), (3, .long z3), (5, .int z5)] [] h 0 0 X) → FX3_mixShowings_57 N n a0 l3 x5 x6 h k89 = some X → jm_J M_X3_mixShowings 57 [(0, .ref a0), (3, .long l3), (5, .int x5), (6, .int x6)] [] h 0 0 X := by
  intro n
  induction n with
  | zero =>
    intro a0 l3 x5 x6 h k89 X hk89 hF
    exact nomatch (show (none : Option jm_X) = some X from hF)
  | succ n ih =>
    intro a0 l3 x5 x6 h k89 X hk89 hF
    rw [FX3_mixShowings_57] at hF
    refine jj_iload (j := 3) (i := 6) (pc' := 59) dX3_mixShowings_57 rfl rfl ?_
    refine jj_bipush (v := (6 : Int32)) (pc' := 61) dX3_mixShowings_59 rfl rfl ?_
    refine jj_icmp_ge (tgt := 89) (pc' := 64) dX3_mixShowings_61 rfl rfl (fun hc hF => ?_) (fun hc hF => ?_) hF
    · skip
      exact jj_pick [0, 1, 2] rfl (hk89 a0 l3 x5 h _ hF)
    · skip
      refine jj_ldc2l (v := (31 : Int64)) (pc' := 67) dX3_mixShowings_64 qw_68 rfl ?_
      refine jj_lload_n (j := 1) (i := 3) (pc' := 68) dX3_mixShowings_67 rfl rfl rfl ?_
      refine jj_lmul (pc' := 69) dX3_mixShowings_68 rfl ?_
      refine jj_aload_n (j := 0) (i := 0) (pc' := 70) dX3_mixShowings_69 rfl rfl rfl ?_
      refine jj_gR (C := RX3) (T := TX3) (N := 8) (ci := 3) (k := 0) (pc' := 73) dX3_mixShowings_70 rfl rfl inX3 (by decide) qw_29 hF (fun r101 hF => ?_)
      refine jj_iload (j := 2) (i := 5) (pc' := 75) dX3_mixShowings_73 rfl rfl ?_
      refine jj_iload (j := 3) (i := 6) (pc' := 77) dX3_mixShowings_75 rfl rfl ?_
      refine jj_cI (N := M_X0_reelBegin) (kc' := 0) (ks' := 0) (pc' := 80) (jg_V (N := M_X0_reelBegin) (ci := 0) (rest := [.long (((31 : Int64)) * l3)]) (as := [.int x5, .int x6]) cf_X3_199 dX3_mixShowings_77 ⟨rfl, rfl⟩ rfl rfl ⟨Nat.le_of_ble_eq_true rfl, Nat.le_of_ble_eq_true rfl⟩ ⟨Nat.le_of_ble_eq_true rfl, Nat.le_of_ble_eq_true rfl⟩ (Nat.le_of_ble_eq_true rfl) (fun X' hX => KX0_reelBegin hX)) rfl rfl rfl rfl ⟨Nat.le_of_ble_eq_true rfl, Nat.le_of_ble_eq_true rfl⟩ rfl hF (fun x103 h102 hF => ?_)
      refine jj_i2l (pc' := 81) dX3_mixShowings_80 rfl ?_
      refine jj_ladd (pc' := 82) dX3_mixShowings_81 rfl ?_
      refine jj_lstore_n (i := 3) (ls' := [(3, .long ((((31 : Int64)) * l3) + x103.toInt64)), (0, .ref a0), (5, .int x5), (6, .int x6)]) (pc' := 83) dX3_mixShowings_82 rfl (Nat.le_of_ble_eq_true rfl) rfl rfl ?_
      refine jj_iinc (i := 6) (j := 3) (v := x6 + (1 : Int32)) (ls' := [(6, .int (x6 + (1 : Int32))), (3, .long ((((31 : Int64)) * l3) + x103.toInt64)), (0, .ref a0), (5, .int x5)]) (pc' := 86) dX3_mixShowings_83 rfl rfl (Nat.le_of_ble_eq_true rfl) rfl rfl ?_
      refine jj_goto (tgt := 57) dX3_mixShowings_86 rfl ?_
      exact jj_pick [2, 1, 3, 0] rfl (ih a0 ((((31 : Int64)) * l3) + x103.toInt64) x5 (x6 + (1 : Int32)) h102 k89 _ hk89 hF)
set_option maxRecDepth 100000 in
set_option maxHeartbeats 4000000 in
theorem BX3_mixShowings_5 (N : Nat) : ∀ (n : Nat) (a0 : Nat) (l3 : Int64) (x5 : Int32) (h : jm_H) (X : jm_X), FX3_mixShowings_5 N n a0 l3 x5 h = some X → jm_J M_X3_mixShowings 5 [(0, .ref a0), (3, .long l3), (5, .int x5)] [] h 0 0 X := by
  intro n
  induction n with
  | zero =>
    intro a0 l3 x5 h X hF
    exact nomatch (show (none : Option jm_X) = some X from hF)
  | succ n ih =>
    intro a0 l3 x5 h X hF
    rw [FX3_mixShowings_5] at hF
    refine jj_iload (j := 2) (i := 5) (pc' := 7) dX3_mixShowings_5 rfl rfl ?_
    refine jj_aload_n (j := 0) (i := 0) (pc' := 8) dX3_mixShowings_7 rfl rfl rfl ?_
    refine jj_gR (C := RX3) (T := TX3) (N := 8) (ci := 3) (k := 0) (pc' := 11) dX3_mixShowings_8 rfl rfl inX3 (by decide) qw_29 hF (fun r101 hF => ?_)
    refine jj_gR (C := RX0) (T := TX0) (N := 10) (ci := 0) (k := 3) (pc' := 14) dX3_mixShowings_11 rfl rfl inX0 (by decide) qw_48 hF (fun r102 hF => ?_)
    refine jj_gI (C := RX2) (T := TX2) (N := 3) (ci := 2) (k := 2) (pc' := 17) dX3_mixShowings_14 rfl rfl inX2 (by decide) qw_44 hF (fun x103 hF => ?_)
    refine jj_icmp_ge (tgt := 95) (pc' := 20) dX3_mixShowings_17 rfl rfl (fun hc hF => ?_) (fun hc hF => ?_) hF
    · skip
      refine jj_lload_n (j := 1) (i := 3) (pc' := 96) dX3_mixShowings_95 rfl rfl rfl ?_
      exact jj_retL rfl dX3_mixShowings_96 ⟨Nat.le_of_ble_eq_true rfl, Nat.le_of_ble_eq_true rfl⟩ hF
    · skip
      refine jj_iconst (v := (0 : Int32)) (pc' := 21) dX3_mixShowings_20 rfl rfl ?_
      refine jj_istore (i := 6) (ls' := [(6, .int ((0 : Int32))), (0, .ref a0), (3, .long l3), (5, .int x5)]) (pc' := 23) dX3_mixShowings_21 (Nat.le_of_ble_eq_true rfl) rfl rfl ?_
      refine jj_pick [1, 2, 3, 0] rfl (BX3_mixShowings_23 N N a0 l3 x5 ((0 : Int32)) h _ _ ?_ hF)
      · intro a104 l105 x106 h107 X hF
        refine jj_iconst (v := (0 : Int32)) (pc' := 55) dX3_mixShowings_54 rfl rfl ?_
        refine jj_istore (i := 6) (ls' := [(6, .int ((0 : Int32))), (0, .ref a104), (3, .long l105), (5, .int x106)]) (pc' := 57) dX3_mixShowings_55 (Nat.le_of_ble_eq_true rfl) rfl rfl ?_
        refine jj_pick [1, 2, 3, 0] rfl (BX3_mixShowings_57 N N a104 l105 x106 ((0 : Int32)) h107 _ _ ?_ hF)
        · intro a108 l109 x110 h111 X hF
          refine jj_iinc (i := 5) (j := 2) (v := x110 + (1 : Int32)) (ls' := [(5, .int (x110 + (1 : Int32))), (0, .ref a108), (3, .long l109)]) (pc' := 92) dX3_mixShowings_89 rfl rfl (Nat.le_of_ble_eq_true rfl) rfl rfl ?_
          refine jj_goto (tgt := 5) dX3_mixShowings_92 rfl ?_
          exact jj_pick [1, 2, 0] rfl (ih a108 l109 (x110 + (1 : Int32)) h111 _ hF)
set_option maxRecDepth 100000 in
set_option maxHeartbeats 4000000 in
theorem JX3_mixShowings {N : Nat} {a0 : Nat} {l1 : Int64} {h : jm_H} {X : jm_X} (hF : FX3_mixShowings N a0 l1 h = some X) : jm_J M_X3_mixShowings 0 [(0, .ref a0), (1, .long l1)] [] h 0 0 X := by
  unfold FX3_mixShowings at hF
  refine jj_lload_n (j := 1) (i := 1) (pc' := 1) dX3_mixShowings_0 rfl rfl rfl ?_
  refine jj_lstore_n (i := 3) (ls' := [(3, .long l1), (0, .ref a0), (1, .long l1)]) (pc' := 2) dX3_mixShowings_1 rfl (Nat.le_of_ble_eq_true rfl) rfl rfl ?_
  refine jj_iconst (v := (0 : Int32)) (pc' := 3) dX3_mixShowings_2 rfl rfl ?_
  refine jj_istore (i := 5) (ls' := [(5, .int ((0 : Int32))), (3, .long l1), (0, .ref a0), (1, .long l1)]) (pc' := 5) dX3_mixShowings_3 (Nat.le_of_ble_eq_true rfl) rfl rfl ?_
  exact jj_pick [2, 1, 0] rfl (BX3_mixShowings_5 N N a0 l1 ((0 : Int32)) h _ hF)
theorem KX3_mixShowings {N : Nat} {a0 : Nat} {l1 : Int64} {h : jm_H} {X : jm_X} (hF : FX3_mixShowings N a0 l1 h = some X) : jm_K M_X3_mixShowings [.ref a0, .long l1] h X := jk_of rfl (by decide +kernel) rfl rfl (Nat.le_of_ble_eq_true rfl) (JX3_mixShowings hF)
set_option maxRecDepth 100000 in
set_option maxHeartbeats 4000000 in
theorem BX3_bitsOf_18 (N : Nat) : ∀ (n : Nat) (d2 : UInt64) (l4 : Int64) (x6 : Int32) (h : jm_H) (X : jm_X), FX3_bitsOf_18 N n d2 l4 x6 h = some X → jm_J M_X3_bitsOf 18 [(2, .double d2), (4, .long l4), (6, .int x6)] [] h 0 0 X := by
  intro n
  induction n with
  | zero =>
    intro d2 l4 x6 h X hF
    exact nomatch (show (none : Option jm_X) = some X from hF)
  | succ n ih =>
    intro d2 l4 x6 h X hF
    rw [FX3_bitsOf_18] at hF
    refine jj_iload (j := 2) (i := 6) (pc' := 20) dX3_bitsOf_18 rfl rfl ?_
    refine jj_bipush (v := (64 : Int32)) (pc' := 22) dX3_bitsOf_20 rfl rfl ?_
    refine jj_icmp_ge (tgt := 49) (pc' := 25) dX3_bitsOf_22 rfl rfl (fun hc hF => ?_) (fun hc hF => ?_) hF
    · skip
      refine jj_dload_n (j := 0) (i := 2) (pc' := 50) dX3_bitsOf_49 rfl rfl rfl ?_
      refine jj_dconst1 (pc' := 51) dX3_bitsOf_50 rfl ?_
      obtain ⟨hn, hF⟩ := jf_n_inv hF
      refine jj_dsub (pc' := 52) dX3_bitsOf_51 hn rfl ?_
      refine jj_ldc2d (v := (4841369599423283200 : UInt64)) (pc' := 55) dX3_bitsOf_52 qw_70 rfl ?_
      obtain ⟨hn, hF⟩ := jf_n_inv hF
      refine jj_dmul (pc' := 56) dX3_bitsOf_55 hn rfl ?_
      refine jj_d2l (pc' := 57) dX3_bitsOf_56 rfl ?_
      refine jj_lstore (i := 6) (ls' := [(6, .long (FP.d2l (FP.dmul (FP.dsub d2 FP.dconst1) ((4841369599423283200 : UInt64))))), (2, .double d2), (4, .long l4)]) (pc' := 59) dX3_bitsOf_57 (Nat.le_of_ble_eq_true rfl) rfl rfl ?_
      refine jj_lload (j := 2) (i := 4) (pc' := 61) dX3_bitsOf_59 rfl rfl ?_
      refine jj_bipush (v := (52 : Int32)) (pc' := 63) dX3_bitsOf_61 rfl rfl ?_
      refine jj_lshl (pc' := 64) dX3_bitsOf_63 rfl ?_
      refine jj_lload (j := 0) (i := 6) (pc' := 66) dX3_bitsOf_64 rfl rfl ?_
      refine jj_lor (pc' := 67) dX3_bitsOf_66 rfl ?_
      exact jj_retL rfl dX3_bitsOf_67 ⟨Nat.le_of_ble_eq_true rfl, Nat.le_of_ble_eq_true rfl⟩ hF
    · skip
      refine jj_dload_n (j := 0) (i := 2) (pc' := 26) dX3_bitsOf_25 rfl rfl rfl ?_
      refine jj_dconst1 (pc' := 27) dX3_bitsOf_26 rfl ?_
      refine jj_dcmp (pc' := 28) dX3_bitsOf_27 rfl ?_
      refine jj_if_ge (tgt := 49) (pc' := 31) dX3_bitsOf_28 rfl rfl (fun hc hF => ?_) (fun hc hF => ?_) hF
      · skip
        refine jj_dload_n (j := 0) (i := 2) (pc' := 50) dX3_bitsOf_49 rfl rfl rfl ?_
        refine jj_dconst1 (pc' := 51) dX3_bitsOf_50 rfl ?_
        obtain ⟨hn, hF⟩ := jf_n_inv hF
        refine jj_dsub (pc' := 52) dX3_bitsOf_51 hn rfl ?_
        refine jj_ldc2d (v := (4841369599423283200 : UInt64)) (pc' := 55) dX3_bitsOf_52 qw_70 rfl ?_
        obtain ⟨hn, hF⟩ := jf_n_inv hF
        refine jj_dmul (pc' := 56) dX3_bitsOf_55 hn rfl ?_
        refine jj_d2l (pc' := 57) dX3_bitsOf_56 rfl ?_
        refine jj_lstore (i := 6) (ls' := [(6, .long (FP.d2l (FP.dmul (FP.dsub d2 FP.dconst1) ((4841369599423283200 : UInt64))))), (2, .double d2), (4, .long l4)]) (pc' := 59) dX3_bitsOf_57 (Nat.le_of_ble_eq_true rfl) rfl rfl ?_
        refine jj_lload (j := 2) (i := 4) (pc' := 61) dX3_bitsOf_59 rfl rfl ?_
        refine jj_bipush (v := (52 : Int32)) (pc' := 63) dX3_bitsOf_61 rfl rfl ?_
        refine jj_lshl (pc' := 64) dX3_bitsOf_63 rfl ?_
        refine jj_lload (j := 0) (i := 6) (pc' := 66) dX3_bitsOf_64 rfl rfl ?_
        refine jj_lor (pc' := 67) dX3_bitsOf_66 rfl ?_
        exact jj_retL rfl dX3_bitsOf_67 ⟨Nat.le_of_ble_eq_true rfl, Nat.le_of_ble_eq_true rfl⟩ hF
      · skip
        refine jj_dload_n (j := 0) (i := 2) (pc' := 32) dX3_bitsOf_31 rfl rfl rfl ?_
        refine jj_ldc2d (v := (4611686018427387904 : UInt64)) (pc' := 35) dX3_bitsOf_32 qw_71 rfl ?_
        obtain ⟨hn, hF⟩ := jf_n_inv hF
        refine jj_dmul (pc' := 36) dX3_bitsOf_35 hn rfl ?_
        refine jj_dstore_n (i := 2) (ls' := [(2, .double (FP.dmul d2 ((4611686018427387904 : UInt64)))), (4, .long l4), (6, .int x6)]) (pc' := 37) dX3_bitsOf_36 rfl (Nat.le_of_ble_eq_true rfl) rfl rfl ?_
        refine jj_lload (j := 1) (i := 4) (pc' := 39) dX3_bitsOf_37 rfl rfl ?_
        refine jj_lconst (v := (1 : Int64)) (pc' := 40) dX3_bitsOf_39 rfl rfl ?_
        refine jj_lsub (pc' := 41) dX3_bitsOf_40 rfl ?_
        refine jj_lstore (i := 4) (ls' := [(4, .long (l4 - ((1 : Int64)))), (2, .double (FP.dmul d2 ((4611686018427387904 : UInt64)))), (6, .int x6)]) (pc' := 43) dX3_bitsOf_41 (Nat.le_of_ble_eq_true rfl) rfl rfl ?_
        refine jj_iinc (i := 6) (j := 2) (v := x6 + (1 : Int32)) (ls' := [(6, .int (x6 + (1 : Int32))), (4, .long (l4 - ((1 : Int64)))), (2, .double (FP.dmul d2 ((4611686018427387904 : UInt64))))]) (pc' := 46) dX3_bitsOf_43 rfl rfl (Nat.le_of_ble_eq_true rfl) rfl rfl ?_
        refine jj_goto (tgt := 18) dX3_bitsOf_46 rfl ?_
        exact jj_pick [2, 1, 0] rfl (ih (FP.dmul d2 ((4611686018427387904 : UInt64))) (l4 - ((1 : Int64))) (x6 + (1 : Int32)) h _ hF)
set_option maxRecDepth 100000 in
set_option maxHeartbeats 4000000 in
theorem JX3_bitsOf {N : Nat} {d0 : UInt64} {h : jm_H} {X : jm_X} (hF : FX3_bitsOf N d0 h = some X) : jm_J M_X3_bitsOf 0 [(0, .double d0)] [] h 0 0 X := by
  unfold FX3_bitsOf at hF
  refine jj_dload_n (j := 0) (i := 0) (pc' := 1) dX3_bitsOf_0 rfl rfl rfl ?_
  refine jj_dconst0 (pc' := 2) dX3_bitsOf_1 rfl ?_
  refine jj_dcmp (pc' := 3) dX3_bitsOf_2 rfl ?_
  refine jj_if_gt (tgt := 8) (pc' := 6) dX3_bitsOf_3 rfl rfl (fun hc hF => ?_) (fun hc hF => ?_) hF
  · skip
    refine jj_dload_n (j := 0) (i := 0) (pc' := 9) dX3_bitsOf_8 rfl rfl rfl ?_
    refine jj_dstore_n (i := 2) (ls' := [(2, .double d0), (0, .double d0)]) (pc' := 10) dX3_bitsOf_9 rfl (Nat.le_of_ble_eq_true rfl) rfl rfl ?_
    refine jj_ldc2l (v := (1023 : Int64)) (pc' := 13) dX3_bitsOf_10 qw_69 rfl ?_
    refine jj_lstore (i := 4) (ls' := [(4, .long ((1023 : Int64))), (2, .double d0), (0, .double d0)]) (pc' := 15) dX3_bitsOf_13 (Nat.le_of_ble_eq_true rfl) rfl rfl ?_
    refine jj_iconst (v := (0 : Int32)) (pc' := 16) dX3_bitsOf_15 rfl rfl ?_
    refine jj_istore (i := 6) (ls' := [(6, .int ((0 : Int32))), (4, .long ((1023 : Int64))), (2, .double d0), (0, .double d0)]) (pc' := 18) dX3_bitsOf_16 (Nat.le_of_ble_eq_true rfl) rfl rfl ?_
    exact jj_pick [2, 1, 0] rfl (BX3_bitsOf_18 N N d0 ((1023 : Int64)) ((0 : Int32)) h _ hF)
  · skip
    refine jj_lconst (v := (0 : Int64)) (pc' := 7) dX3_bitsOf_6 rfl rfl ?_
    exact jj_retL rfl dX3_bitsOf_7 ⟨Nat.le_of_ble_eq_true rfl, Nat.le_of_ble_eq_true rfl⟩ hF
theorem KX3_bitsOf {N : Nat} {d0 : UInt64} {h : jm_H} {X : jm_X} (hF : FX3_bitsOf N d0 h = some X) : jm_K M_X3_bitsOf [.double d0] h X := jk_of rfl (by decide +kernel) rfl rfl (Nat.le_of_ble_eq_true rfl) (JX3_bitsOf hF)
set_option maxRecDepth 100000 in
set_option maxHeartbeats 4000000 in
theorem BX3_mixScreens_14 (N : Nat) : ∀ (n : Nat) (a0 : Nat) (l3 : Int64) (x5 : Int32) (x6 : Int32) (h : jm_H) (k45 : Nat → Int64 → Int32 → jm_H → Option jm_X) (X : jm_X), (∀ (z0 : Nat) (z3 : Int64) (z5 : Int32) (h : jm_H) (X : jm_X), k45 z0 z3 z5 h = some X → jm_J M_X3_mixScreens 45 [(0, .ref z0), (3, .long z3), (5, .int z5)] [] h 0 0 X) → FX3_mixScreens_14 N n a0 l3 x5 x6 h k45 = some X → jm_J M_X3_mixScreens 14 [(0, .ref a0), (3, .long l3), (5, .int x5), (6, .int x6)] [] h 0 0 X := by
  intro n
  induction n with
  | zero =>
    intro a0 l3 x5 x6 h k45 X hk45 hF
    exact nomatch (show (none : Option jm_X) = some X from hF)
  | succ n ih =>
    intro a0 l3 x5 x6 h k45 X hk45 hF
    rw [FX3_mixScreens_14] at hF
    refine jj_iload (j := 3) (i := 6) (pc' := 16) dX3_mixScreens_14 rfl rfl ?_
    refine jj_iconst (v := (4 : Int32)) (pc' := 17) dX3_mixScreens_16 rfl rfl ?_
    refine jj_icmp_gt (tgt := 45) (pc' := 20) dX3_mixScreens_17 rfl rfl (fun hc hF => ?_) (fun hc hF => ?_) hF
    · skip
      exact jj_pick [0, 1, 2] rfl (hk45 a0 l3 x5 h _ hF)
    · skip
      refine jj_ldc2l (v := (31 : Int64)) (pc' := 23) dX3_mixScreens_20 qw_68 rfl ?_
      refine jj_lload_n (j := 1) (i := 3) (pc' := 24) dX3_mixScreens_23 rfl rfl rfl ?_
      refine jj_lmul (pc' := 25) dX3_mixScreens_24 rfl ?_
      refine jj_aload_n (j := 0) (i := 0) (pc' := 26) dX3_mixScreens_25 rfl rfl rfl ?_
      refine jj_gR (C := RX3) (T := TX3) (N := 8) (ci := 3) (k := 0) (pc' := 29) dX3_mixScreens_26 rfl rfl inX3 (by decide) qw_29 hF (fun r101 hF => ?_)
      refine jj_iload (j := 2) (i := 5) (pc' := 31) dX3_mixScreens_29 rfl rfl ?_
      refine jj_iload (j := 3) (i := 6) (pc' := 33) dX3_mixScreens_31 rfl rfl ?_
      refine jj_cI (N := M_X0_screenNumber) (kc' := 0) (ks' := 0) (pc' := 36) (jg_V (N := M_X0_screenNumber) (ci := 0) (rest := [.long (((31 : Int64)) * l3)]) (as := [.int x5, .int x6]) cf_X3_205 dX3_mixScreens_33 ⟨rfl, rfl⟩ rfl rfl ⟨Nat.le_of_ble_eq_true rfl, Nat.le_of_ble_eq_true rfl⟩ ⟨Nat.le_of_ble_eq_true rfl, Nat.le_of_ble_eq_true rfl⟩ (Nat.le_of_ble_eq_true rfl) (fun X' hX => KX0_screenNumber hX)) rfl rfl rfl rfl ⟨Nat.le_of_ble_eq_true rfl, Nat.le_of_ble_eq_true rfl⟩ rfl hF (fun x103 h102 hF => ?_)
      refine jj_i2l (pc' := 37) dX3_mixScreens_36 rfl ?_
      refine jj_ladd (pc' := 38) dX3_mixScreens_37 rfl ?_
      refine jj_lstore_n (i := 3) (ls' := [(3, .long ((((31 : Int64)) * l3) + x103.toInt64)), (0, .ref a0), (5, .int x5), (6, .int x6)]) (pc' := 39) dX3_mixScreens_38 rfl (Nat.le_of_ble_eq_true rfl) rfl rfl ?_
      refine jj_iinc (i := 6) (j := 3) (v := x6 + (1 : Int32)) (ls' := [(6, .int (x6 + (1 : Int32))), (3, .long ((((31 : Int64)) * l3) + x103.toInt64)), (0, .ref a0), (5, .int x5)]) (pc' := 42) dX3_mixScreens_39 rfl rfl (Nat.le_of_ble_eq_true rfl) rfl rfl ?_
      refine jj_goto (tgt := 14) dX3_mixScreens_42 rfl ?_
      exact jj_pick [2, 1, 3, 0] rfl (ih a0 ((((31 : Int64)) * l3) + x103.toInt64) x5 (x6 + (1 : Int32)) h102 k45 _ hk45 hF)
set_option maxRecDepth 100000 in
set_option maxHeartbeats 4000000 in
theorem BX3_mixScreens_48 (N : Nat) : ∀ (n : Nat) (a0 : Nat) (l3 : Int64) (x5 : Int32) (x6 : Int32) (h : jm_H) (k81 : Nat → Int64 → Int32 → jm_H → Option jm_X) (X : jm_X), (∀ (z0 : Nat) (z3 : Int64) (z5 : Int32) (h : jm_H) (X : jm_X), k81 z0 z3 z5 h = some X → jm_J M_X3_mixScreens 81 [(0, .ref z0), (3, .long z3), (5, .int z5)] [] h 0 0 X) → FX3_mixScreens_48 N n a0 l3 x5 x6 h k81 = some X → jm_J M_X3_mixScreens 48 [(0, .ref a0), (3, .long l3), (5, .int x5), (6, .int x6)] [] h 0 0 X := by
  intro n
  induction n with
  | zero =>
    intro a0 l3 x5 x6 h k81 X hk81 hF
    exact nomatch (show (none : Option jm_X) = some X from hF)
  | succ n ih =>
    intro a0 l3 x5 x6 h k81 X hk81 hF
    rw [FX3_mixScreens_48] at hF
    refine jj_iload (j := 3) (i := 6) (pc' := 50) dX3_mixScreens_48 rfl rfl ?_
    refine jj_sipush (v := (2000 : Int32)) (pc' := 53) dX3_mixScreens_50 rfl rfl ?_
    refine jj_icmp_ge (tgt := 81) (pc' := 56) dX3_mixScreens_53 rfl rfl (fun hc hF => ?_) (fun hc hF => ?_) hF
    · skip
      exact jj_pick [0, 1, 2] rfl (hk81 a0 l3 x5 h _ hF)
    · skip
      refine jj_ldc2l (v := (31 : Int64)) (pc' := 59) dX3_mixScreens_56 qw_68 rfl ?_
      refine jj_lload_n (j := 1) (i := 3) (pc' := 60) dX3_mixScreens_59 rfl rfl rfl ?_
      refine jj_lmul (pc' := 61) dX3_mixScreens_60 rfl ?_
      refine jj_aload_n (j := 0) (i := 0) (pc' := 62) dX3_mixScreens_61 rfl rfl rfl ?_
      refine jj_gR (C := RX3) (T := TX3) (N := 8) (ci := 3) (k := 0) (pc' := 65) dX3_mixScreens_62 rfl rfl inX3 (by decide) qw_29 hF (fun r101 hF => ?_)
      refine jj_iload (j := 2) (i := 5) (pc' := 67) dX3_mixScreens_65 rfl rfl ?_
      refine jj_iload (j := 3) (i := 6) (pc' := 69) dX3_mixScreens_67 rfl rfl ?_
      refine jj_cI (N := M_X0_runningOn) (kc' := 0) (ks' := 0) (pc' := 72) (jg_V (N := M_X0_runningOn) (ci := 0) (rest := [.long (((31 : Int64)) * l3)]) (as := [.int x5, .int x6]) cf_X3_202 dX3_mixScreens_69 ⟨rfl, rfl⟩ rfl rfl ⟨Nat.le_of_ble_eq_true rfl, Nat.le_of_ble_eq_true rfl⟩ ⟨Nat.le_of_ble_eq_true rfl, Nat.le_of_ble_eq_true rfl⟩ (Nat.le_of_ble_eq_true rfl) (fun X' hX => KX0_runningOn hX)) rfl rfl rfl rfl ⟨Nat.le_of_ble_eq_true rfl, Nat.le_of_ble_eq_true rfl⟩ rfl hF (fun x103 h102 hF => ?_)
      refine jj_i2l (pc' := 73) dX3_mixScreens_72 rfl ?_
      refine jj_ladd (pc' := 74) dX3_mixScreens_73 rfl ?_
      refine jj_lstore_n (i := 3) (ls' := [(3, .long ((((31 : Int64)) * l3) + x103.toInt64)), (0, .ref a0), (5, .int x5), (6, .int x6)]) (pc' := 75) dX3_mixScreens_74 rfl (Nat.le_of_ble_eq_true rfl) rfl rfl ?_
      refine jj_iinc (i := 6) (j := 3) (v := x6 + (100 : Int32)) (ls' := [(6, .int (x6 + (100 : Int32))), (3, .long ((((31 : Int64)) * l3) + x103.toInt64)), (0, .ref a0), (5, .int x5)]) (pc' := 78) dX3_mixScreens_75 rfl rfl (Nat.le_of_ble_eq_true rfl) rfl rfl ?_
      refine jj_goto (tgt := 48) dX3_mixScreens_78 rfl ?_
      exact jj_pick [2, 1, 3, 0] rfl (ih a0 ((((31 : Int64)) * l3) + x103.toInt64) x5 (x6 + (100 : Int32)) h102 k81 _ hk81 hF)
set_option maxRecDepth 100000 in
set_option maxHeartbeats 4000000 in
theorem BX3_mixScreens_5 (N : Nat) : ∀ (n : Nat) (a0 : Nat) (l3 : Int64) (x5 : Int32) (h : jm_H) (X : jm_X), FX3_mixScreens_5 N n a0 l3 x5 h = some X → jm_J M_X3_mixScreens 5 [(0, .ref a0), (3, .long l3), (5, .int x5)] [] h 0 0 X := by
  intro n
  induction n with
  | zero =>
    intro a0 l3 x5 h X hF
    exact nomatch (show (none : Option jm_X) = some X from hF)
  | succ n ih =>
    intro a0 l3 x5 h X hF
    rw [FX3_mixScreens_5] at hF
    refine jj_iload (j := 2) (i := 5) (pc' := 7) dX3_mixScreens_5 rfl rfl ?_
    refine jj_iconst (v := (3 : Int32)) (pc' := 8) dX3_mixScreens_7 rfl rfl ?_
    refine jj_icmp_ge (tgt := 106) (pc' := 11) dX3_mixScreens_8 rfl rfl (fun hc hF => ?_) (fun hc hF => ?_) hF
    · skip
      refine jj_lload_n (j := 1) (i := 3) (pc' := 107) dX3_mixScreens_106 rfl rfl rfl ?_
      exact jj_retL rfl dX3_mixScreens_107 ⟨Nat.le_of_ble_eq_true rfl, Nat.le_of_ble_eq_true rfl⟩ hF
    · skip
      refine jj_iconst (v := (0 : Int32)) (pc' := 12) dX3_mixScreens_11 rfl rfl ?_
      refine jj_istore (i := 6) (ls' := [(6, .int ((0 : Int32))), (0, .ref a0), (3, .long l3), (5, .int x5)]) (pc' := 14) dX3_mixScreens_12 (Nat.le_of_ble_eq_true rfl) rfl rfl ?_
      refine jj_pick [1, 2, 3, 0] rfl (BX3_mixScreens_14 N N a0 l3 x5 ((0 : Int32)) h _ _ ?_ hF)
      · intro a101 l102 x103 h104 X hF
        refine jj_iconst (v := (0 : Int32)) (pc' := 46) dX3_mixScreens_45 rfl rfl ?_
        refine jj_istore (i := 6) (ls' := [(6, .int ((0 : Int32))), (0, .ref a101), (3, .long l102), (5, .int x103)]) (pc' := 48) dX3_mixScreens_46 (Nat.le_of_ble_eq_true rfl) rfl rfl ?_
        refine jj_pick [1, 2, 3, 0] rfl (BX3_mixScreens_48 N N a101 l102 x103 ((0 : Int32)) h104 _ _ ?_ hF)
        · intro a105 l106 x107 h108 X hF
          refine jj_ldc2l (v := (31 : Int64)) (pc' := 84) dX3_mixScreens_81 qw_68 rfl ?_
          refine jj_lload_n (j := 1) (i := 3) (pc' := 85) dX3_mixScreens_84 rfl rfl rfl ?_
          refine jj_lmul (pc' := 86) dX3_mixScreens_85 rfl ?_
          refine jj_aload_n (j := 0) (i := 0) (pc' := 87) dX3_mixScreens_86 rfl rfl rfl ?_
          refine jj_gR (C := RX3) (T := TX3) (N := 8) (ci := 3) (k := 0) (pc' := 90) dX3_mixScreens_87 rfl rfl inX3 (by decide) qw_29 hF (fun r109 hF => ?_)
          refine jj_iload (j := 2) (i := 5) (pc' := 92) dX3_mixScreens_90 rfl rfl ?_
          refine jj_cD (N := M_X0_share) (kc' := 0) (ks' := 0) (pc' := 95) (jg_V (N := M_X0_share) (ci := 0) (rest := [.long (((31 : Int64)) * l106)]) (as := [.int x107]) cf_X3_234 dX3_mixScreens_92 ⟨rfl, rfl⟩ rfl rfl ⟨Nat.le_of_ble_eq_true rfl, Nat.le_of_ble_eq_true rfl⟩ ⟨Nat.le_of_ble_eq_true rfl, Nat.le_of_ble_eq_true rfl⟩ (Nat.le_of_ble_eq_true rfl) (fun X' hX => KX0_share hX)) rfl rfl rfl rfl ⟨Nat.le_of_ble_eq_true rfl, Nat.le_of_ble_eq_true rfl⟩ rfl hF (fun d111 h110 hF => ?_)
          refine jj_cL (N := M_X3_bitsOf) (kc' := 0) (ks' := 0) (pc' := 98) (jg_S (N := M_X3_bitsOf) (rest := [.long (((31 : Int64)) * l106)]) (as := [.double d111]) cf_X3_258 rfl dX3_mixScreens_95 rfl rfl ⟨Nat.le_of_ble_eq_true rfl, Nat.le_of_ble_eq_true rfl⟩ ⟨Nat.le_of_ble_eq_true rfl, Nat.le_of_ble_eq_true rfl⟩ (Nat.le_of_ble_eq_true rfl) (fun X' hX => KX3_bitsOf hX)) rfl rfl rfl rfl ⟨Nat.le_of_ble_eq_true rfl, Nat.le_of_ble_eq_true rfl⟩ rfl hF (fun l113 h112 hF => ?_)
          refine jj_ladd (pc' := 99) dX3_mixScreens_98 rfl ?_
          refine jj_lstore_n (i := 3) (ls' := [(3, .long ((((31 : Int64)) * l106) + l113)), (0, .ref a105), (5, .int x107)]) (pc' := 100) dX3_mixScreens_99 rfl (Nat.le_of_ble_eq_true rfl) rfl rfl ?_
          refine jj_iinc (i := 5) (j := 2) (v := x107 + (1 : Int32)) (ls' := [(5, .int (x107 + (1 : Int32))), (3, .long ((((31 : Int64)) * l106) + l113)), (0, .ref a105)]) (pc' := 103) dX3_mixScreens_100 rfl rfl (Nat.le_of_ble_eq_true rfl) rfl rfl ?_
          refine jj_goto (tgt := 5) dX3_mixScreens_103 rfl ?_
          exact jj_pick [2, 1, 0] rfl (ih a105 ((((31 : Int64)) * l106) + l113) (x107 + (1 : Int32)) h112 _ hF)
set_option maxRecDepth 100000 in
set_option maxHeartbeats 4000000 in
theorem JX3_mixScreens {N : Nat} {a0 : Nat} {l1 : Int64} {h : jm_H} {X : jm_X} (hF : FX3_mixScreens N a0 l1 h = some X) : jm_J M_X3_mixScreens 0 [(0, .ref a0), (1, .long l1)] [] h 0 0 X := by
  unfold FX3_mixScreens at hF
  refine jj_lload_n (j := 1) (i := 1) (pc' := 1) dX3_mixScreens_0 rfl rfl rfl ?_
  refine jj_lstore_n (i := 3) (ls' := [(3, .long l1), (0, .ref a0), (1, .long l1)]) (pc' := 2) dX3_mixScreens_1 rfl (Nat.le_of_ble_eq_true rfl) rfl rfl ?_
  refine jj_iconst (v := (0 : Int32)) (pc' := 3) dX3_mixScreens_2 rfl rfl ?_
  refine jj_istore (i := 5) (ls' := [(5, .int ((0 : Int32))), (3, .long l1), (0, .ref a0), (1, .long l1)]) (pc' := 5) dX3_mixScreens_3 (Nat.le_of_ble_eq_true rfl) rfl rfl ?_
  exact jj_pick [2, 1, 0] rfl (BX3_mixScreens_5 N N a0 l1 ((0 : Int32)) h _ hF)
theorem KX3_mixScreens {N : Nat} {a0 : Nat} {l1 : Int64} {h : jm_H} {X : jm_X} (hF : FX3_mixScreens N a0 l1 h = some X) : jm_K M_X3_mixScreens [.ref a0, .long l1] h X := jk_of rfl (by decide +kernel) rfl rfl (Nat.le_of_ble_eq_true rfl) (JX3_mixScreens hF)
set_option maxRecDepth 100000 in
set_option maxHeartbeats 4000000 in
theorem BX3_mixPeople_72 (N : Nat) : ∀ (n : Nat) (a0 : Nat) (l3 : Int64) (x5 : Int32) (x6 : Int32) (h : jm_H) (k103 : Nat → Int64 → Int32 → jm_H → Option jm_X) (X : jm_X), (∀ (z0 : Nat) (z3 : Int64) (z5 : Int32) (h : jm_H) (X : jm_X), k103 z0 z3 z5 h = some X → jm_J M_X3_mixPeople 103 [(0, .ref z0), (3, .long z3), (5, .int z5)] [] h 0 0 X) → FX3_mixPeople_72 N n a0 l3 x5 x6 h k103 = some X → jm_J M_X3_mixPeople 72 [(0, .ref a0), (3, .long l3), (5, .int x5), (6, .int x6)] [] h 0 0 X := by
  intro n
  induction n with
  | zero =>
    intro a0 l3 x5 x6 h k103 X hk103 hF
    exact nomatch (show (none : Option jm_X) = some X from hF)
  | succ n ih =>
    intro a0 l3 x5 x6 h k103 X hk103 hF
    rw [FX3_mixPeople_72] at hF
    refine jj_iload (j := 3) (i := 6) (pc' := 74) dX3_mixPeople_72 rfl rfl ?_
    refine jj_iconst (v := (2 : Int32)) (pc' := 75) dX3_mixPeople_74 rfl rfl ?_
    refine jj_icmp_gt (tgt := 103) (pc' := 78) dX3_mixPeople_75 rfl rfl (fun hc hF => ?_) (fun hc hF => ?_) hF
    · skip
      exact jj_pick [0, 1, 2] rfl (hk103 a0 l3 x5 h _ hF)
    · skip
      refine jj_ldc2l (v := (31 : Int64)) (pc' := 81) dX3_mixPeople_78 qw_68 rfl ?_
      refine jj_lload_n (j := 1) (i := 3) (pc' := 82) dX3_mixPeople_81 rfl rfl rfl ?_
      refine jj_lmul (pc' := 83) dX3_mixPeople_82 rfl ?_
      refine jj_aload_n (j := 0) (i := 0) (pc' := 84) dX3_mixPeople_83 rfl rfl rfl ?_
      refine jj_gR (C := RX3) (T := TX3) (N := 8) (ci := 3) (k := 0) (pc' := 87) dX3_mixPeople_84 rfl rfl inX3 (by decide) qw_29 hF (fun r101 hF => ?_)
      refine jj_iload (j := 2) (i := 5) (pc' := 89) dX3_mixPeople_87 rfl rfl ?_
      refine jj_iload (j := 3) (i := 6) (pc' := 91) dX3_mixPeople_89 rfl rfl ?_
      refine jj_cI (N := M_X0_jurorNumber) (kc' := 0) (ks' := 0) (pc' := 94) (jg_V (N := M_X0_jurorNumber) (ci := 0) (rest := [.long (((31 : Int64)) * l3)]) (as := [.int x5, .int x6]) cf_X3_213 dX3_mixPeople_91 ⟨rfl, rfl⟩ rfl rfl ⟨Nat.le_of_ble_eq_true rfl, Nat.le_of_ble_eq_true rfl⟩ ⟨Nat.le_of_ble_eq_true rfl, Nat.le_of_ble_eq_true rfl⟩ (Nat.le_of_ble_eq_true rfl) (fun X' hX => KX0_jurorNumber hX)) rfl rfl rfl rfl ⟨Nat.le_of_ble_eq_true rfl, Nat.le_of_ble_eq_true rfl⟩ rfl hF (fun x103 h102 hF => ?_)
      refine jj_i2l (pc' := 95) dX3_mixPeople_94 rfl ?_
      refine jj_ladd (pc' := 96) dX3_mixPeople_95 rfl ?_
      refine jj_lstore_n (i := 3) (ls' := [(3, .long ((((31 : Int64)) * l3) + x103.toInt64)), (0, .ref a0), (5, .int x5), (6, .int x6)]) (pc' := 97) dX3_mixPeople_96 rfl (Nat.le_of_ble_eq_true rfl) rfl rfl ?_
      refine jj_iinc (i := 6) (j := 3) (v := x6 + (1 : Int32)) (ls' := [(6, .int (x6 + (1 : Int32))), (3, .long ((((31 : Int64)) * l3) + x103.toInt64)), (0, .ref a0), (5, .int x5)]) (pc' := 100) dX3_mixPeople_97 rfl rfl (Nat.le_of_ble_eq_true rfl) rfl rfl ?_
      refine jj_goto (tgt := 72) dX3_mixPeople_100 rfl ?_
      exact jj_pick [2, 1, 3, 0] rfl (ih a0 ((((31 : Int64)) * l3) + x103.toInt64) x5 (x6 + (1 : Int32)) h102 k103 _ hk103 hF)
set_option maxRecDepth 100000 in
set_option maxHeartbeats 4000000 in
theorem BX3_mixPeople_63 (N : Nat) : ∀ (n : Nat) (a0 : Nat) (l3 : Int64) (x5 : Int32) (h : jm_H) (X : jm_X), FX3_mixPeople_63 N n a0 l3 x5 h = some X → jm_J M_X3_mixPeople 63 [(0, .ref a0), (3, .long l3), (5, .int x5)] [] h 0 0 X := by
  intro n
  induction n with
  | zero =>
    intro a0 l3 x5 h X hF
    exact nomatch (show (none : Option jm_X) = some X from hF)
  | succ n ih =>
    intro a0 l3 x5 h X hF
    rw [FX3_mixPeople_63] at hF
    refine jj_iload (j := 2) (i := 5) (pc' := 65) dX3_mixPeople_63 rfl rfl ?_
    refine jj_iconst (v := (3 : Int32)) (pc' := 66) dX3_mixPeople_65 rfl rfl ?_
    refine jj_icmp_ge (tgt := 109) (pc' := 69) dX3_mixPeople_66 rfl rfl (fun hc hF => ?_) (fun hc hF => ?_) hF
    · skip
      refine jj_lload_n (j := 1) (i := 3) (pc' := 110) dX3_mixPeople_109 rfl rfl rfl ?_
      exact jj_retL rfl dX3_mixPeople_110 ⟨Nat.le_of_ble_eq_true rfl, Nat.le_of_ble_eq_true rfl⟩ hF
    · skip
      refine jj_iconst (v := (0 : Int32)) (pc' := 70) dX3_mixPeople_69 rfl rfl ?_
      refine jj_istore (i := 6) (ls' := [(6, .int ((0 : Int32))), (0, .ref a0), (3, .long l3), (5, .int x5)]) (pc' := 72) dX3_mixPeople_70 (Nat.le_of_ble_eq_true rfl) rfl rfl ?_
      refine jj_pick [1, 2, 3, 0] rfl (BX3_mixPeople_72 N N a0 l3 x5 ((0 : Int32)) h _ _ ?_ hF)
      · intro a101 l102 x103 h104 X hF
        refine jj_iinc (i := 5) (j := 2) (v := x103 + (1 : Int32)) (ls' := [(5, .int (x103 + (1 : Int32))), (0, .ref a101), (3, .long l102)]) (pc' := 106) dX3_mixPeople_103 rfl rfl (Nat.le_of_ble_eq_true rfl) rfl rfl ?_
        refine jj_goto (tgt := 63) dX3_mixPeople_106 rfl ?_
        exact jj_pick [1, 2, 0] rfl (ih a101 l102 (x103 + (1 : Int32)) h104 _ hF)
set_option maxRecDepth 100000 in
set_option maxHeartbeats 4000000 in
theorem BX3_mixPeople_23 (N : Nat) : ∀ (n : Nat) (a0 : Nat) (l3 : Int64) (x5 : Int32) (x6 : Int32) (h : jm_H) (k54 : Nat → Int64 → Int32 → jm_H → Option jm_X) (X : jm_X), (∀ (z0 : Nat) (z3 : Int64) (z5 : Int32) (h : jm_H) (X : jm_X), k54 z0 z3 z5 h = some X → jm_J M_X3_mixPeople 54 [(0, .ref z0), (3, .long z3), (5, .int z5)] [] h 0 0 X) → FX3_mixPeople_23 N n a0 l3 x5 x6 h k54 = some X → jm_J M_X3_mixPeople 23 [(0, .ref a0), (3, .long l3), (5, .int x5), (6, .int x6)] [] h 0 0 X := by
  intro n
  induction n with
  | zero =>
    intro a0 l3 x5 x6 h k54 X hk54 hF
    exact nomatch (show (none : Option jm_X) = some X from hF)
  | succ n ih =>
    intro a0 l3 x5 x6 h k54 X hk54 hF
    rw [FX3_mixPeople_23] at hF
    refine jj_iload (j := 3) (i := 6) (pc' := 25) dX3_mixPeople_23 rfl rfl ?_
    refine jj_iconst (v := (3 : Int32)) (pc' := 26) dX3_mixPeople_25 rfl rfl ?_
    refine jj_icmp_gt (tgt := 54) (pc' := 29) dX3_mixPeople_26 rfl rfl (fun hc hF => ?_) (fun hc hF => ?_) hF
    · skip
      exact jj_pick [0, 1, 2] rfl (hk54 a0 l3 x5 h _ hF)
    · skip
      refine jj_ldc2l (v := (31 : Int64)) (pc' := 32) dX3_mixPeople_29 qw_68 rfl ?_
      refine jj_lload_n (j := 1) (i := 3) (pc' := 33) dX3_mixPeople_32 rfl rfl rfl ?_
      refine jj_lmul (pc' := 34) dX3_mixPeople_33 rfl ?_
      refine jj_aload_n (j := 0) (i := 0) (pc' := 35) dX3_mixPeople_34 rfl rfl rfl ?_
      refine jj_gR (C := RX3) (T := TX3) (N := 8) (ci := 3) (k := 0) (pc' := 38) dX3_mixPeople_35 rfl rfl inX3 (by decide) qw_29 hF (fun r101 hF => ?_)
      refine jj_iload (j := 2) (i := 5) (pc' := 40) dX3_mixPeople_38 rfl rfl ?_
      refine jj_iload (j := 3) (i := 6) (pc' := 42) dX3_mixPeople_40 rfl rfl ?_
      refine jj_cI (N := M_X0_guestNumber) (kc' := 0) (ks' := 0) (pc' := 45) (jg_V (N := M_X0_guestNumber) (ci := 0) (rest := [.long (((31 : Int64)) * l3)]) (as := [.int x5, .int x6]) cf_X3_210 dX3_mixPeople_42 ⟨rfl, rfl⟩ rfl rfl ⟨Nat.le_of_ble_eq_true rfl, Nat.le_of_ble_eq_true rfl⟩ ⟨Nat.le_of_ble_eq_true rfl, Nat.le_of_ble_eq_true rfl⟩ (Nat.le_of_ble_eq_true rfl) (fun X' hX => KX0_guestNumber hX)) rfl rfl rfl rfl ⟨Nat.le_of_ble_eq_true rfl, Nat.le_of_ble_eq_true rfl⟩ rfl hF (fun x103 h102 hF => ?_)
      refine jj_i2l (pc' := 46) dX3_mixPeople_45 rfl ?_
      refine jj_ladd (pc' := 47) dX3_mixPeople_46 rfl ?_
      refine jj_lstore_n (i := 3) (ls' := [(3, .long ((((31 : Int64)) * l3) + x103.toInt64)), (0, .ref a0), (5, .int x5), (6, .int x6)]) (pc' := 48) dX3_mixPeople_47 rfl (Nat.le_of_ble_eq_true rfl) rfl rfl ?_
      refine jj_iinc (i := 6) (j := 3) (v := x6 + (1 : Int32)) (ls' := [(6, .int (x6 + (1 : Int32))), (3, .long ((((31 : Int64)) * l3) + x103.toInt64)), (0, .ref a0), (5, .int x5)]) (pc' := 51) dX3_mixPeople_48 rfl rfl (Nat.le_of_ble_eq_true rfl) rfl rfl ?_
      refine jj_goto (tgt := 23) dX3_mixPeople_51 rfl ?_
      exact jj_pick [2, 1, 3, 0] rfl (ih a0 ((((31 : Int64)) * l3) + x103.toInt64) x5 (x6 + (1 : Int32)) h102 k54 _ hk54 hF)
set_option maxRecDepth 100000 in
set_option maxHeartbeats 4000000 in
theorem BX3_mixPeople_5 (N : Nat) : ∀ (n : Nat) (a0 : Nat) (l3 : Int64) (x5 : Int32) (h : jm_H) (X : jm_X), FX3_mixPeople_5 N n a0 l3 x5 h = some X → jm_J M_X3_mixPeople 5 [(0, .ref a0), (3, .long l3), (5, .int x5)] [] h 0 0 X := by
  intro n
  induction n with
  | zero =>
    intro a0 l3 x5 h X hF
    exact nomatch (show (none : Option jm_X) = some X from hF)
  | succ n ih =>
    intro a0 l3 x5 h X hF
    rw [FX3_mixPeople_5] at hF
    refine jj_iload (j := 2) (i := 5) (pc' := 7) dX3_mixPeople_5 rfl rfl ?_
    refine jj_aload_n (j := 0) (i := 0) (pc' := 8) dX3_mixPeople_7 rfl rfl rfl ?_
    refine jj_gR (C := RX3) (T := TX3) (N := 8) (ci := 3) (k := 0) (pc' := 11) dX3_mixPeople_8 rfl rfl inX3 (by decide) qw_29 hF (fun r101 hF => ?_)
    refine jj_gR (C := RX0) (T := TX0) (N := 10) (ci := 0) (k := 4) (pc' := 14) dX3_mixPeople_11 rfl rfl inX0 (by decide) qw_52 hF (fun r102 hF => ?_)
    refine jj_gI (C := RX2) (T := TX2) (N := 3) (ci := 2) (k := 2) (pc' := 17) dX3_mixPeople_14 rfl rfl inX2 (by decide) qw_44 hF (fun x103 hF => ?_)
    refine jj_icmp_ge (tgt := 60) (pc' := 20) dX3_mixPeople_17 rfl rfl (fun hc hF => ?_) (fun hc hF => ?_) hF
    · skip
      refine jj_iconst (v := (0 : Int32)) (pc' := 61) dX3_mixPeople_60 rfl rfl ?_
      refine jj_istore (i := 5) (ls' := [(5, .int ((0 : Int32))), (0, .ref a0), (3, .long l3)]) (pc' := 63) dX3_mixPeople_61 (Nat.le_of_ble_eq_true rfl) rfl rfl ?_
      exact jj_pick [1, 2, 0] rfl (BX3_mixPeople_63 N N a0 l3 ((0 : Int32)) h _ hF)
    · skip
      refine jj_iconst (v := (0 : Int32)) (pc' := 21) dX3_mixPeople_20 rfl rfl ?_
      refine jj_istore (i := 6) (ls' := [(6, .int ((0 : Int32))), (0, .ref a0), (3, .long l3), (5, .int x5)]) (pc' := 23) dX3_mixPeople_21 (Nat.le_of_ble_eq_true rfl) rfl rfl ?_
      refine jj_pick [1, 2, 3, 0] rfl (BX3_mixPeople_23 N N a0 l3 x5 ((0 : Int32)) h _ _ ?_ hF)
      · intro a104 l105 x106 h107 X hF
        refine jj_iinc (i := 5) (j := 2) (v := x106 + (1 : Int32)) (ls' := [(5, .int (x106 + (1 : Int32))), (0, .ref a104), (3, .long l105)]) (pc' := 57) dX3_mixPeople_54 rfl rfl (Nat.le_of_ble_eq_true rfl) rfl rfl ?_
        refine jj_goto (tgt := 5) dX3_mixPeople_57 rfl ?_
        exact jj_pick [1, 2, 0] rfl (ih a104 l105 (x106 + (1 : Int32)) h107 _ hF)
set_option maxRecDepth 100000 in
set_option maxHeartbeats 4000000 in
theorem JX3_mixPeople {N : Nat} {a0 : Nat} {l1 : Int64} {h : jm_H} {X : jm_X} (hF : FX3_mixPeople N a0 l1 h = some X) : jm_J M_X3_mixPeople 0 [(0, .ref a0), (1, .long l1)] [] h 0 0 X := by
  unfold FX3_mixPeople at hF
  refine jj_lload_n (j := 1) (i := 1) (pc' := 1) dX3_mixPeople_0 rfl rfl rfl ?_
  refine jj_lstore_n (i := 3) (ls' := [(3, .long l1), (0, .ref a0), (1, .long l1)]) (pc' := 2) dX3_mixPeople_1 rfl (Nat.le_of_ble_eq_true rfl) rfl rfl ?_
  refine jj_iconst (v := (0 : Int32)) (pc' := 3) dX3_mixPeople_2 rfl rfl ?_
  refine jj_istore (i := 5) (ls' := [(5, .int ((0 : Int32))), (3, .long l1), (0, .ref a0), (1, .long l1)]) (pc' := 5) dX3_mixPeople_3 (Nat.le_of_ble_eq_true rfl) rfl rfl ?_
  exact jj_pick [2, 1, 0] rfl (BX3_mixPeople_5 N N a0 l1 ((0 : Int32)) h _ hF)
theorem KX3_mixPeople {N : Nat} {a0 : Nat} {l1 : Int64} {h : jm_H} {X : jm_X} (hF : FX3_mixPeople N a0 l1 h = some X) : jm_K M_X3_mixPeople [.ref a0, .long l1] h X := jk_of rfl (by decide +kernel) rfl rfl (Nat.le_of_ble_eq_true rfl) (JX3_mixPeople hF)
set_option maxRecDepth 100000 in
set_option maxHeartbeats 4000000 in
theorem BX3_mixTexts_49 (N : Nat) : ∀ (n : Nat) (a0 : Nat) (l3 : Int64) (x5 : Int32) (h : jm_H) (X : jm_X), FX3_mixTexts_49 N n a0 l3 x5 h = some X → jm_J M_X3_mixTexts 49 [(0, .ref a0), (3, .long l3), (5, .int x5)] [] h 0 0 X := by
  intro n
  induction n with
  | zero =>
    intro a0 l3 x5 h X hF
    exact nomatch (show (none : Option jm_X) = some X from hF)
  | succ n ih =>
    intro a0 l3 x5 h X hF
    rw [FX3_mixTexts_49] at hF
    refine jj_iload (j := 2) (i := 5) (pc' := 51) dX3_mixTexts_49 rfl rfl ?_
    refine jj_aload_n (j := 0) (i := 0) (pc' := 52) dX3_mixTexts_51 rfl rfl rfl ?_
    refine jj_gI (C := RX3) (T := TX3) (N := 8) (ci := 3) (k := 7) (pc' := 55) dX3_mixTexts_52 rfl rfl inX3 (by decide) qw_54 hF (fun x101 hF => ?_)
    refine jj_icmp_ge (tgt := 89) (pc' := 58) dX3_mixTexts_55 rfl rfl (fun hc hF => ?_) (fun hc hF => ?_) hF
    · skip
      refine jj_lload_n (j := 1) (i := 3) (pc' := 90) dX3_mixTexts_89 rfl rfl rfl ?_
      exact jj_retL rfl dX3_mixTexts_90 ⟨Nat.le_of_ble_eq_true rfl, Nat.le_of_ble_eq_true rfl⟩ hF
    · skip
      refine jj_iload (j := 2) (i := 5) (pc' := 60) dX3_mixTexts_58 rfl rfl ?_
      refine jj_aload_n (j := 0) (i := 0) (pc' := 61) dX3_mixTexts_60 rfl rfl rfl ?_
      refine jj_gR (C := RX3) (T := TX3) (N := 8) (ci := 3) (k := 4) (pc' := 64) dX3_mixTexts_61 rfl rfl inX3 (by decide) qw_36 hF (fun r102 hF => ?_)
      refine jj_len (pc' := 65) dX3_mixTexts_64 rfl hF (fun x103 hF => ?_)
      refine jj_icmp_ge (tgt := 89) (pc' := 68) dX3_mixTexts_65 rfl rfl (fun hc hF => ?_) (fun hc hF => ?_) hF
      · skip
        refine jj_lload_n (j := 1) (i := 3) (pc' := 90) dX3_mixTexts_89 rfl rfl rfl ?_
        exact jj_retL rfl dX3_mixTexts_90 ⟨Nat.le_of_ble_eq_true rfl, Nat.le_of_ble_eq_true rfl⟩ hF
      · skip
        refine jj_ldc2l (v := (31 : Int64)) (pc' := 71) dX3_mixTexts_68 qw_68 rfl ?_
        refine jj_lload_n (j := 1) (i := 3) (pc' := 72) dX3_mixTexts_71 rfl rfl rfl ?_
        refine jj_lmul (pc' := 73) dX3_mixTexts_72 rfl ?_
        refine jj_aload_n (j := 0) (i := 0) (pc' := 74) dX3_mixTexts_73 rfl rfl rfl ?_
        refine jj_gR (C := RX3) (T := TX3) (N := 8) (ci := 3) (k := 4) (pc' := 77) dX3_mixTexts_74 rfl rfl inX3 (by decide) qw_36 hF (fun r104 hF => ?_)
        refine jj_iload (j := 2) (i := 5) (pc' := 79) dX3_mixTexts_77 rfl rfl ?_
        refine jj_ldI (pc' := 80) dX3_mixTexts_79 rfl hF (fun x105 hF => ?_)
        refine jj_i2l (pc' := 81) dX3_mixTexts_80 rfl ?_
        refine jj_ladd (pc' := 82) dX3_mixTexts_81 rfl ?_
        refine jj_lstore_n (i := 3) (ls' := [(3, .long ((((31 : Int64)) * l3) + x105.toInt64)), (0, .ref a0), (5, .int x5)]) (pc' := 83) dX3_mixTexts_82 rfl (Nat.le_of_ble_eq_true rfl) rfl rfl ?_
        refine jj_iinc (i := 5) (j := 2) (v := x5 + (1 : Int32)) (ls' := [(5, .int (x5 + (1 : Int32))), (3, .long ((((31 : Int64)) * l3) + x105.toInt64)), (0, .ref a0)]) (pc' := 86) dX3_mixTexts_83 rfl rfl (Nat.le_of_ble_eq_true rfl) rfl rfl ?_
        refine jj_goto (tgt := 49) dX3_mixTexts_86 rfl ?_
        exact jj_pick [2, 1, 0] rfl (ih a0 ((((31 : Int64)) * l3) + x105.toInt64) (x5 + (1 : Int32)) h _ hF)
set_option maxRecDepth 100000 in
set_option maxHeartbeats 4000000 in
theorem BX3_mixTexts_5 (N : Nat) : ∀ (n : Nat) (a0 : Nat) (l3 : Int64) (x5 : Int32) (h : jm_H) (X : jm_X), FX3_mixTexts_5 N n a0 l3 x5 h = some X → jm_J M_X3_mixTexts 5 [(0, .ref a0), (3, .long l3), (5, .int x5)] [] h 0 0 X := by
  intro n
  induction n with
  | zero =>
    intro a0 l3 x5 h X hF
    exact nomatch (show (none : Option jm_X) = some X from hF)
  | succ n ih =>
    intro a0 l3 x5 h X hF
    rw [FX3_mixTexts_5] at hF
    refine jj_iload (j := 2) (i := 5) (pc' := 7) dX3_mixTexts_5 rfl rfl ?_
    refine jj_iconst (v := (2 : Int32)) (pc' := 8) dX3_mixTexts_7 rfl rfl ?_
    refine jj_icmp_gt (tgt := 34) (pc' := 11) dX3_mixTexts_8 rfl rfl (fun hc hF => ?_) (fun hc hF => ?_) hF
    · skip
      refine jj_ldc2l (v := (31 : Int64)) (pc' := 37) dX3_mixTexts_34 qw_68 rfl ?_
      refine jj_lload_n (j := 1) (i := 3) (pc' := 38) dX3_mixTexts_37 rfl rfl rfl ?_
      refine jj_lmul (pc' := 39) dX3_mixTexts_38 rfl ?_
      refine jj_aload_n (j := 0) (i := 0) (pc' := 40) dX3_mixTexts_39 rfl rfl rfl ?_
      refine jj_gI (C := RX3) (T := TX3) (N := 8) (ci := 3) (k := 7) (pc' := 43) dX3_mixTexts_40 rfl rfl inX3 (by decide) qw_54 hF (fun x101 hF => ?_)
      refine jj_i2l (pc' := 44) dX3_mixTexts_43 rfl ?_
      refine jj_ladd (pc' := 45) dX3_mixTexts_44 rfl ?_
      refine jj_lstore_n (i := 3) (ls' := [(3, .long ((((31 : Int64)) * l3) + x101.toInt64)), (0, .ref a0), (5, .int x5)]) (pc' := 46) dX3_mixTexts_45 rfl (Nat.le_of_ble_eq_true rfl) rfl rfl ?_
      refine jj_iconst (v := (0 : Int32)) (pc' := 47) dX3_mixTexts_46 rfl rfl ?_
      refine jj_istore (i := 5) (ls' := [(5, .int ((0 : Int32))), (3, .long ((((31 : Int64)) * l3) + x101.toInt64)), (0, .ref a0)]) (pc' := 49) dX3_mixTexts_47 (Nat.le_of_ble_eq_true rfl) rfl rfl ?_
      exact jj_pick [2, 1, 0] rfl (BX3_mixTexts_49 N N a0 ((((31 : Int64)) * l3) + x101.toInt64) ((0 : Int32)) h _ hF)
    · skip
      refine jj_ldc2l (v := (31 : Int64)) (pc' := 14) dX3_mixTexts_11 qw_68 rfl ?_
      refine jj_lload_n (j := 1) (i := 3) (pc' := 15) dX3_mixTexts_14 rfl rfl rfl ?_
      refine jj_lmul (pc' := 16) dX3_mixTexts_15 rfl ?_
      refine jj_aload_n (j := 0) (i := 0) (pc' := 17) dX3_mixTexts_16 rfl rfl rfl ?_
      refine jj_gR (C := RX3) (T := TX3) (N := 8) (ci := 3) (k := 0) (pc' := 20) dX3_mixTexts_17 rfl rfl inX3 (by decide) qw_29 hF (fun r102 hF => ?_)
      refine jj_iload (j := 2) (i := 5) (pc' := 22) dX3_mixTexts_20 rfl rfl ?_
      refine jj_cI (N := M_X0_stopNumber) (kc' := 0) (ks' := 0) (pc' := 25) (jg_V (N := M_X0_stopNumber) (ci := 0) (rest := [.long (((31 : Int64)) * l3)]) (as := [.int x5]) cf_X3_175 dX3_mixTexts_22 ⟨rfl, rfl⟩ rfl rfl ⟨Nat.le_of_ble_eq_true rfl, Nat.le_of_ble_eq_true rfl⟩ ⟨Nat.le_of_ble_eq_true rfl, Nat.le_of_ble_eq_true rfl⟩ (Nat.le_of_ble_eq_true rfl) (fun X' hX => KX0_stopNumber hX)) rfl rfl rfl rfl ⟨Nat.le_of_ble_eq_true rfl, Nat.le_of_ble_eq_true rfl⟩ rfl hF (fun x104 h103 hF => ?_)
      refine jj_i2l (pc' := 26) dX3_mixTexts_25 rfl ?_
      refine jj_ladd (pc' := 27) dX3_mixTexts_26 rfl ?_
      refine jj_lstore_n (i := 3) (ls' := [(3, .long ((((31 : Int64)) * l3) + x104.toInt64)), (0, .ref a0), (5, .int x5)]) (pc' := 28) dX3_mixTexts_27 rfl (Nat.le_of_ble_eq_true rfl) rfl rfl ?_
      refine jj_iinc (i := 5) (j := 2) (v := x5 + (1 : Int32)) (ls' := [(5, .int (x5 + (1 : Int32))), (3, .long ((((31 : Int64)) * l3) + x104.toInt64)), (0, .ref a0)]) (pc' := 31) dX3_mixTexts_28 rfl rfl (Nat.le_of_ble_eq_true rfl) rfl rfl ?_
      refine jj_goto (tgt := 5) dX3_mixTexts_31 rfl ?_
      exact jj_pick [2, 1, 0] rfl (ih a0 ((((31 : Int64)) * l3) + x104.toInt64) (x5 + (1 : Int32)) h103 _ hF)
set_option maxRecDepth 100000 in
set_option maxHeartbeats 4000000 in
theorem JX3_mixTexts {N : Nat} {a0 : Nat} {l1 : Int64} {h : jm_H} {X : jm_X} (hF : FX3_mixTexts N a0 l1 h = some X) : jm_J M_X3_mixTexts 0 [(0, .ref a0), (1, .long l1)] [] h 0 0 X := by
  unfold FX3_mixTexts at hF
  refine jj_lload_n (j := 1) (i := 1) (pc' := 1) dX3_mixTexts_0 rfl rfl rfl ?_
  refine jj_lstore_n (i := 3) (ls' := [(3, .long l1), (0, .ref a0), (1, .long l1)]) (pc' := 2) dX3_mixTexts_1 rfl (Nat.le_of_ble_eq_true rfl) rfl rfl ?_
  refine jj_iconst (v := (0 : Int32)) (pc' := 3) dX3_mixTexts_2 rfl rfl ?_
  refine jj_istore (i := 5) (ls' := [(5, .int ((0 : Int32))), (3, .long l1), (0, .ref a0), (1, .long l1)]) (pc' := 5) dX3_mixTexts_3 (Nat.le_of_ble_eq_true rfl) rfl rfl ?_
  exact jj_pick [2, 1, 0] rfl (BX3_mixTexts_5 N N a0 l1 ((0 : Int32)) h _ hF)
theorem KX3_mixTexts {N : Nat} {a0 : Nat} {l1 : Int64} {h : jm_H} {X : jm_X} (hF : FX3_mixTexts N a0 l1 h = some X) : jm_K M_X3_mixTexts [.ref a0, .long l1] h X := jk_of rfl (by decide +kernel) rfl rfl (Nat.le_of_ble_eq_true rfl) (JX3_mixTexts hF)
set_option maxRecDepth 100000 in
set_option maxHeartbeats 4000000 in
theorem BX3_digest_6 (N : Nat) : ∀ (n : Nat) (a0 : Nat) (l1 : Int64) (x3 : Int32) (h : jm_H) (X : jm_X), FX3_digest_6 N n a0 l1 x3 h = some X → jm_J M_X3_digest 6 [(0, .ref a0), (1, .long l1), (3, .int x3)] [] h 0 0 X := by
  intro n
  induction n with
  | zero =>
    intro a0 l1 x3 h X hF
    exact nomatch (show (none : Option jm_X) = some X from hF)
  | succ n ih =>
    intro a0 l1 x3 h X hF
    rw [FX3_digest_6] at hF
    refine jj_iload_n (j := 2) (i := 3) (pc' := 7) dX3_digest_6 rfl rfl rfl ?_
    refine jj_bipush (v := (11 : Int32)) (pc' := 9) dX3_digest_7 rfl rfl ?_
    refine jj_icmp_gt (tgt := 31) (pc' := 12) dX3_digest_9 rfl rfl (fun hc hF => ?_) (fun hc hF => ?_) hF
    · skip
      refine jj_aload_n (j := 0) (i := 0) (pc' := 32) dX3_digest_31 rfl rfl rfl ?_
      refine jj_lload_n (j := 1) (i := 1) (pc' := 33) dX3_digest_32 rfl rfl rfl ?_
      refine jj_cL (N := M_X3_mixFilms) (kc' := 0) (ks' := 0) (pc' := 36) (jg_V (N := M_X3_mixFilms) (ci := 3) (rest := []) (as := [.long l1]) cf_X3_242 dX3_digest_33 ⟨rfl, rfl⟩ rfl rfl ⟨Nat.le_of_ble_eq_true rfl, Nat.le_of_ble_eq_true rfl⟩ ⟨Nat.le_of_ble_eq_true rfl, Nat.le_of_ble_eq_true rfl⟩ (Nat.le_of_ble_eq_true rfl) (fun X' hX => KX3_mixFilms hX)) rfl rfl rfl rfl ⟨Nat.le_of_ble_eq_true rfl, Nat.le_of_ble_eq_true rfl⟩ rfl hF (fun l102 h101 hF => ?_)
      refine jj_lstore_n (i := 1) (ls' := [(1, .long l102), (0, .ref a0), (3, .int x3)]) (pc' := 37) dX3_digest_36 rfl (Nat.le_of_ble_eq_true rfl) rfl rfl ?_
      refine jj_aload_n (j := 1) (i := 0) (pc' := 38) dX3_digest_37 rfl rfl rfl ?_
      refine jj_lload_n (j := 0) (i := 1) (pc' := 39) dX3_digest_38 rfl rfl rfl ?_
      refine jj_cL (N := M_X3_mixShowings) (kc' := 0) (ks' := 0) (pc' := 42) (jg_V (N := M_X3_mixShowings) (ci := 3) (rest := []) (as := [.long l102]) cf_X3_246 dX3_digest_39 ⟨rfl, rfl⟩ rfl rfl ⟨Nat.le_of_ble_eq_true rfl, Nat.le_of_ble_eq_true rfl⟩ ⟨Nat.le_of_ble_eq_true rfl, Nat.le_of_ble_eq_true rfl⟩ (Nat.le_of_ble_eq_true rfl) (fun X' hX => KX3_mixShowings hX)) rfl rfl rfl rfl ⟨Nat.le_of_ble_eq_true rfl, Nat.le_of_ble_eq_true rfl⟩ rfl hF (fun l104 h103 hF => ?_)
      refine jj_lstore_n (i := 1) (ls' := [(1, .long l104), (0, .ref a0), (3, .int x3)]) (pc' := 43) dX3_digest_42 rfl (Nat.le_of_ble_eq_true rfl) rfl rfl ?_
      refine jj_aload_n (j := 1) (i := 0) (pc' := 44) dX3_digest_43 rfl rfl rfl ?_
      refine jj_lload_n (j := 0) (i := 1) (pc' := 45) dX3_digest_44 rfl rfl rfl ?_
      refine jj_cL (N := M_X3_mixScreens) (kc' := 0) (ks' := 0) (pc' := 48) (jg_V (N := M_X3_mixScreens) (ci := 3) (rest := []) (as := [.long l104]) cf_X3_249 dX3_digest_45 ⟨rfl, rfl⟩ rfl rfl ⟨Nat.le_of_ble_eq_true rfl, Nat.le_of_ble_eq_true rfl⟩ ⟨Nat.le_of_ble_eq_true rfl, Nat.le_of_ble_eq_true rfl⟩ (Nat.le_of_ble_eq_true rfl) (fun X' hX => KX3_mixScreens hX)) rfl rfl rfl rfl ⟨Nat.le_of_ble_eq_true rfl, Nat.le_of_ble_eq_true rfl⟩ rfl hF (fun l106 h105 hF => ?_)
      refine jj_lstore_n (i := 1) (ls' := [(1, .long l106), (0, .ref a0), (3, .int x3)]) (pc' := 49) dX3_digest_48 rfl (Nat.le_of_ble_eq_true rfl) rfl rfl ?_
      refine jj_aload_n (j := 1) (i := 0) (pc' := 50) dX3_digest_49 rfl rfl rfl ?_
      refine jj_lload_n (j := 0) (i := 1) (pc' := 51) dX3_digest_50 rfl rfl rfl ?_
      refine jj_cL (N := M_X3_mixPeople) (kc' := 0) (ks' := 0) (pc' := 54) (jg_V (N := M_X3_mixPeople) (ci := 3) (rest := []) (as := [.long l106]) cf_X3_252 dX3_digest_51 ⟨rfl, rfl⟩ rfl rfl ⟨Nat.le_of_ble_eq_true rfl, Nat.le_of_ble_eq_true rfl⟩ ⟨Nat.le_of_ble_eq_true rfl, Nat.le_of_ble_eq_true rfl⟩ (Nat.le_of_ble_eq_true rfl) (fun X' hX => KX3_mixPeople hX)) rfl rfl rfl rfl ⟨Nat.le_of_ble_eq_true rfl, Nat.le_of_ble_eq_true rfl⟩ rfl hF (fun l108 h107 hF => ?_)
      refine jj_lstore_n (i := 1) (ls' := [(1, .long l108), (0, .ref a0), (3, .int x3)]) (pc' := 55) dX3_digest_54 rfl (Nat.le_of_ble_eq_true rfl) rfl rfl ?_
      refine jj_aload_n (j := 1) (i := 0) (pc' := 56) dX3_digest_55 rfl rfl rfl ?_
      refine jj_lload_n (j := 0) (i := 1) (pc' := 57) dX3_digest_56 rfl rfl rfl ?_
      refine jj_cL (N := M_X3_mixTexts) (kc' := 0) (ks' := 0) (pc' := 60) (jg_V (N := M_X3_mixTexts) (ci := 3) (rest := []) (as := [.long l108]) cf_X3_255 dX3_digest_57 ⟨rfl, rfl⟩ rfl rfl ⟨Nat.le_of_ble_eq_true rfl, Nat.le_of_ble_eq_true rfl⟩ ⟨Nat.le_of_ble_eq_true rfl, Nat.le_of_ble_eq_true rfl⟩ (Nat.le_of_ble_eq_true rfl) (fun X' hX => KX3_mixTexts hX)) rfl rfl rfl rfl ⟨Nat.le_of_ble_eq_true rfl, Nat.le_of_ble_eq_true rfl⟩ rfl hF (fun l110 h109 hF => ?_)
      exact jj_retL rfl dX3_digest_60 ⟨Nat.le_of_ble_eq_true rfl, Nat.le_of_ble_eq_true rfl⟩ hF
    · skip
      refine jj_ldc2l (v := (31 : Int64)) (pc' := 15) dX3_digest_12 qw_68 rfl ?_
      refine jj_lload_n (j := 1) (i := 1) (pc' := 16) dX3_digest_15 rfl rfl rfl ?_
      refine jj_lmul (pc' := 17) dX3_digest_16 rfl ?_
      refine jj_aload_n (j := 0) (i := 0) (pc' := 18) dX3_digest_17 rfl rfl rfl ?_
      refine jj_iload_n (j := 2) (i := 3) (pc' := 19) dX3_digest_18 rfl rfl rfl ?_
      refine jj_cI (N := M_X3_countNumber) (kc' := 0) (ks' := 0) (pc' := 22) (jg_V (N := M_X3_countNumber) (ci := 3) (rest := [.long (((31 : Int64)) * l1)]) (as := [.int x3]) cf_X3_216 dX3_digest_19 ⟨rfl, rfl⟩ rfl rfl ⟨Nat.le_of_ble_eq_true rfl, Nat.le_of_ble_eq_true rfl⟩ ⟨Nat.le_of_ble_eq_true rfl, Nat.le_of_ble_eq_true rfl⟩ (Nat.le_of_ble_eq_true rfl) (fun X' hX => KX3_countNumber hX)) rfl rfl rfl rfl ⟨Nat.le_of_ble_eq_true rfl, Nat.le_of_ble_eq_true rfl⟩ rfl hF (fun x112 h111 hF => ?_)
      refine jj_i2l (pc' := 23) dX3_digest_22 rfl ?_
      refine jj_ladd (pc' := 24) dX3_digest_23 rfl ?_
      refine jj_lstore_n (i := 1) (ls' := [(1, .long ((((31 : Int64)) * l1) + x112.toInt64)), (0, .ref a0), (3, .int x3)]) (pc' := 25) dX3_digest_24 rfl (Nat.le_of_ble_eq_true rfl) rfl rfl ?_
      refine jj_iinc (i := 3) (j := 2) (v := x3 + (1 : Int32)) (ls' := [(3, .int (x3 + (1 : Int32))), (1, .long ((((31 : Int64)) * l1) + x112.toInt64)), (0, .ref a0)]) (pc' := 28) dX3_digest_25 rfl rfl (Nat.le_of_ble_eq_true rfl) rfl rfl ?_
      refine jj_goto (tgt := 6) dX3_digest_28 rfl ?_
      exact jj_pick [2, 1, 0] rfl (ih a0 ((((31 : Int64)) * l1) + x112.toInt64) (x3 + (1 : Int32)) h111 _ hF)
set_option maxRecDepth 100000 in
set_option maxHeartbeats 4000000 in
theorem JX3_digest {N : Nat} {a0 : Nat} {h : jm_H} {X : jm_X} (hF : FX3_digest N a0 h = some X) : jm_J M_X3_digest 0 [(0, .ref a0)] [] h 0 0 X := by
  unfold FX3_digest at hF
  refine jj_ldc2l (v := (3727 : Int64)) (pc' := 3) dX3_digest_0 qw_72 rfl ?_
  refine jj_lstore_n (i := 1) (ls' := [(1, .long ((3727 : Int64))), (0, .ref a0)]) (pc' := 4) dX3_digest_3 rfl (Nat.le_of_ble_eq_true rfl) rfl rfl ?_
  refine jj_iconst (v := (0 : Int32)) (pc' := 5) dX3_digest_4 rfl rfl ?_
  refine jj_istore_n (i := 3) (ls' := [(3, .int ((0 : Int32))), (1, .long ((3727 : Int64))), (0, .ref a0)]) (pc' := 6) dX3_digest_5 rfl (Nat.le_of_ble_eq_true rfl) rfl rfl ?_
  exact jj_pick [2, 1, 0] rfl (BX3_digest_6 N N a0 ((3727 : Int64)) ((0 : Int32)) h _ hF)
theorem KX3_digest {N : Nat} {a0 : Nat} {h : jm_H} {X : jm_X} (hF : FX3_digest N a0 h = some X) : jm_K M_X3_digest [.ref a0] h X := jk_of rfl (by decide +kernel) rfl rfl (Nat.le_of_ble_eq_true rfl) (JX3_digest hF)
set_option maxRecDepth 100000 in
set_option maxHeartbeats 4000000 in
theorem JX4_stops {a0 : Nat} {x1 : Int32} {x2 : Int32} {x3 : Int32} {h : jm_H} {X : jm_X} (hF : FX4_stops a0 x1 x2 x3 h = some X) : jm_J M_X4_stops 0 [(0, .ref a0), (1, .int x1), (2, .int x2), (3, .int x3)] [] h 0 0 X := by
  unfold FX4_stops at hF
  refine jj_aload_n (j := 0) (i := 0) (pc' := 1) dX4_stops_0 rfl rfl rfl ?_
  refine jj_gR (C := RX4) (T := TX4) (N := 15) (ci := 4) (k := 0) (pc' := 4) dX4_stops_1 rfl rfl inX4 (by decide) qw_73 hF (fun r101 hF => ?_)
  refine jj_sipush (v := (129 : Int32)) (pc' := 7) dX4_stops_4 rfl rfl ?_
  refine jj_iload_n (j := 1) (i := 1) (pc' := 8) dX4_stops_7 rfl rfl rfl ?_
  refine jj_stI (pc' := 9) dX4_stops_8 rfl hF (fun h102 hF => ?_)
  refine jj_aload_n (j := 0) (i := 0) (pc' := 10) dX4_stops_9 rfl rfl rfl ?_
  refine jj_gR (C := RX4) (T := TX4) (N := 15) (ci := 4) (k := 0) (pc' := 13) dX4_stops_10 rfl rfl inX4 (by decide) qw_73 hF (fun r103 hF => ?_)
  refine jj_sipush (v := (130 : Int32)) (pc' := 16) dX4_stops_13 rfl rfl ?_
  refine jj_iload_n (j := 2) (i := 2) (pc' := 17) dX4_stops_16 rfl rfl rfl ?_
  refine jj_stI (pc' := 18) dX4_stops_17 rfl hF (fun h104 hF => ?_)
  refine jj_aload_n (j := 0) (i := 0) (pc' := 19) dX4_stops_18 rfl rfl rfl ?_
  refine jj_gR (C := RX4) (T := TX4) (N := 15) (ci := 4) (k := 0) (pc' := 22) dX4_stops_19 rfl rfl inX4 (by decide) qw_73 hF (fun r105 hF => ?_)
  refine jj_sipush (v := (131 : Int32)) (pc' := 25) dX4_stops_22 rfl rfl ?_
  refine jj_iload_n (j := 3) (i := 3) (pc' := 26) dX4_stops_25 rfl rfl rfl ?_
  refine jj_stI (pc' := 27) dX4_stops_26 rfl hF (fun h106 hF => ?_)
  exact jj_retV rfl dX4_stops_27 ⟨Nat.le_of_ble_eq_true rfl, Nat.le_of_ble_eq_true rfl⟩ hF
theorem KX4_stops {a0 : Nat} {x1 : Int32} {x2 : Int32} {x3 : Int32} {h : jm_H} {X : jm_X} (hF : FX4_stops a0 x1 x2 x3 h = some X) : jm_K M_X4_stops [.ref a0, .int x1, .int x2, .int x3] h X := jk_of rfl (by decide +kernel) rfl rfl (Nat.le_of_ble_eq_true rfl) (JX4_stops hF)
set_option maxRecDepth 100000 in
set_option maxHeartbeats 4000000 in
theorem BX4_init_81 (N : Nat) : ∀ (n : Nat) (kc : Nat) (ks : Nat) (a0 : Nat) (x1 : Int32) (h : jm_H) (X : jm_X), FX4_init_81 N n kc ks a0 x1 h = some X → jm_J M_X4_init 81 [(0, .ref a0), (1, .int x1)] [] h kc ks X := by
  intro n
  induction n with
  | zero =>
    intro kc ks a0 x1 h X hF
    exact nomatch (show (none : Option jm_X) = some X from hF)
  | succ n ih =>
    intro kc ks a0 x1 h X hF
    rw [FX4_init_81] at hF
    obtain ⟨hk, hF⟩ := jf_k_inv hF
    refine jj_iload_n (j := 1) (i := 1) (pc' := 82) dX4_init_81 rfl rfl rfl ?_
    refine jj_iconst (v := (3 : Int32)) (pc' := 83) dX4_init_82 rfl rfl ?_
    refine jj_icmp_ge (tgt := 107) (pc' := 86) dX4_init_83 rfl rfl (fun hc hF => ?_) (fun hc hF => ?_) hF
    · skip
      refine jj_aload_n (j := 0) (i := 0) (pc' := 108) dX4_init_107 rfl rfl rfl ?_
      refine jj_iconst (v := (-1 : Int32)) (pc' := 109) dX4_init_108 rfl rfl ?_
      refine jj_iconst (v := (-1 : Int32)) (pc' := 110) dX4_init_109 rfl rfl ?_
      refine jj_iconst (v := (-1 : Int32)) (pc' := 111) dX4_init_110 rfl rfl ?_
      refine jj_cV (N := M_X4_stops) (kc' := kc) (ks' := ks) (pc' := 114) (jg_V (N := M_X4_stops) (ci := 4) (rest := []) (as := [.int ((-1 : Int32)), .int ((-1 : Int32)), .int ((-1 : Int32))]) cf_X4_25 dX4_init_111 ⟨rfl, rfl⟩ rfl rfl ⟨Nat.le_of_ble_eq_true rfl, Nat.le_of_ble_eq_true rfl⟩ ⟨hk.1, hk.2⟩ (Nat.le_of_ble_eq_true rfl) (fun X' hX => KX4_stops hX)) rfl rfl rfl rfl ⟨hk.1, hk.2⟩ rfl hF (fun h101 hF => ?_)
      exact jj_retV rfl dX4_init_114 ⟨hk.1, hk.2⟩ hF
    · skip
      refine jj_aload_n (j := 0) (i := 0) (pc' := 87) dX4_init_86 rfl rfl rfl ?_
      refine jj_gR (C := RX4) (T := TX4) (N := 15) (ci := 4) (k := 0) (pc' := 90) dX4_init_87 rfl rfl inX4 (by decide) qw_73 hF (fun r102 hF => ?_)
      refine jj_bipush (v := (7 : Int32)) (pc' := 92) dX4_init_90 rfl rfl ?_
      refine jj_iload_n (j := 1) (i := 1) (pc' := 93) dX4_init_92 rfl rfl rfl ?_
      refine jj_iadd (pc' := 94) dX4_init_93 rfl ?_
      refine jj_bipush (v := (100 : Int32)) (pc' := 96) dX4_init_94 rfl rfl ?_
      refine jj_iload_n (j := 1) (i := 1) (pc' := 97) dX4_init_96 rfl rfl rfl ?_
      refine jj_iconst (v := (1 : Int32)) (pc' := 98) dX4_init_97 rfl rfl ?_
      refine jj_iadd (pc' := 99) dX4_init_98 rfl ?_
      refine jj_imul (pc' := 100) dX4_init_99 rfl ?_
      refine jj_stI (pc' := 101) dX4_init_100 rfl hF (fun h103 hF => ?_)
      refine jj_iinc (i := 1) (j := 1) (v := x1 + (1 : Int32)) (ls' := [(1, .int (x1 + (1 : Int32))), (0, .ref a0)]) (pc' := 104) dX4_init_101 rfl rfl (Nat.le_of_ble_eq_true rfl) rfl rfl ?_
      refine jj_goto (tgt := 81) dX4_init_104 rfl ?_
      exact jj_pick [1, 0] rfl (ih kc ks a0 (x1 + (1 : Int32)) h103 _ hF)
set_option maxRecDepth 100000 in
set_option maxHeartbeats 4000000 in
theorem JX4_init {N : Nat} {a0 : Nat} {h : jm_H} {X : jm_X} (hF : FX4_init N a0 h = some X) : jm_J M_X4_init 0 [(0, .ref a0)] [] h 0 0 X := by
  unfold FX4_init at hF
  refine jj_aload_n (j := 0) (i := 0) (pc' := 1) dX4_init_0 rfl rfl rfl ?_
  refine jj_obj (pc' := 4) dX4_init_1 rfl ⟨qw_74, qw_1, qw_2⟩ ⟨Nat.le_of_ble_eq_true rfl, Nat.le_of_ble_eq_true rfl⟩ ?_
  refine jj_aload_n (j := 0) (i := 0) (pc' := 5) dX4_init_4 rfl rfl rfl ?_
  refine jj_sipush (v := (132 : Int32)) (pc' := 8) dX4_init_5 rfl rfl ?_
  refine jj_na (atype := .int) (ty := .int) (t := 0) (n := 132) (a0 := (132, .inl (fun _ => 0))) (lv := [a0, a0]) (kc' := 1) (ks' := 132) (pc' := 10) dX4_init_8 rfl rfl qw_8 (fun _ => rfl) (fun _ => rfl) ⟨fun _ => rfl, fun _ => trivial⟩ ⟨by decide, by decide, by decide⟩ rfl (jm_live rfl) rfl rfl ⟨Nat.le_of_ble_eq_true rfl, Nat.le_of_ble_eq_true rfl⟩ hF (fun o101 h102 hF => ?_)
  refine jj_pF (C := RX4) (T := TX4) (N := 15) (ci := 4) (k := 0) (ty := tyX4) (pc' := 13) dX4_init_10 rfl rfl inX4 tyX4_ok nmX4 (by decide) qw_73 rfl rfl rfl (fun _ => ⟨rfl, rfl⟩) hF (fun h103 hF => ?_)
  refine jj_aload_n (j := 0) (i := 0) (pc' := 14) dX4_init_13 rfl rfl rfl ?_
  refine jj_sipush (v := (792 : Int32)) (pc' := 17) dX4_init_14 rfl rfl ?_
  refine jj_na (atype := .int) (ty := .int) (t := 0) (n := 792) (a0 := (792, .inl (fun _ => 0))) (lv := [a0, a0]) (kc' := 2) (ks' := 924) (pc' := 19) dX4_init_17 rfl rfl qw_8 (fun _ => rfl) (fun _ => rfl) ⟨fun _ => rfl, fun _ => trivial⟩ ⟨by decide, by decide, by decide⟩ rfl (jm_live rfl) rfl rfl ⟨Nat.le_of_ble_eq_true rfl, Nat.le_of_ble_eq_true rfl⟩ hF (fun o104 h105 hF => ?_)
  refine jj_pF (C := RX4) (T := TX4) (N := 15) (ci := 4) (k := 1) (ty := tyX4) (pc' := 22) dX4_init_19 rfl rfl inX4 tyX4_ok nmX4 (by decide) qw_75 rfl rfl rfl (fun _ => ⟨rfl, rfl⟩) hF (fun h106 hF => ?_)
  refine jj_aload_n (j := 0) (i := 0) (pc' := 23) dX4_init_22 rfl rfl rfl ?_
  refine jj_sipush (v := (132 : Int32)) (pc' := 26) dX4_init_23 rfl rfl ?_
  refine jj_na (atype := .int) (ty := .int) (t := 0) (n := 132) (a0 := (132, .inl (fun _ => 0))) (lv := [a0, a0]) (kc' := 3) (ks' := 1056) (pc' := 28) dX4_init_26 rfl rfl qw_8 (fun _ => rfl) (fun _ => rfl) ⟨fun _ => rfl, fun _ => trivial⟩ ⟨by decide, by decide, by decide⟩ rfl (jm_live rfl) rfl rfl ⟨Nat.le_of_ble_eq_true rfl, Nat.le_of_ble_eq_true rfl⟩ hF (fun o107 h108 hF => ?_)
  refine jj_pF (C := RX4) (T := TX4) (N := 15) (ci := 4) (k := 3) (ty := tyX4) (pc' := 31) dX4_init_28 rfl rfl inX4 tyX4_ok nmX4 (by decide) qw_76 rfl rfl rfl (fun _ => ⟨rfl, rfl⟩) hF (fun h109 hF => ?_)
  refine jj_aload_n (j := 0) (i := 0) (pc' := 32) dX4_init_31 rfl rfl rfl ?_
  refine jj_bipush (v := (60 : Int32)) (pc' := 34) dX4_init_32 rfl rfl ?_
  refine jj_na (atype := .int) (ty := .int) (t := 0) (n := 60) (a0 := (60, .inl (fun _ => 0))) (lv := [a0, a0]) (kc' := 4) (ks' := 1116) (pc' := 36) dX4_init_34 rfl rfl qw_8 (fun _ => rfl) (fun _ => rfl) ⟨fun _ => rfl, fun _ => trivial⟩ ⟨by decide, by decide, by decide⟩ rfl (jm_live rfl) rfl rfl ⟨Nat.le_of_ble_eq_true rfl, Nat.le_of_ble_eq_true rfl⟩ hF (fun o110 h111 hF => ?_)
  refine jj_pF (C := RX4) (T := TX4) (N := 15) (ci := 4) (k := 5) (ty := tyX4) (pc' := 39) dX4_init_36 rfl rfl inX4 tyX4_ok nmX4 (by decide) qw_77 rfl rfl rfl (fun _ => ⟨rfl, rfl⟩) hF (fun h112 hF => ?_)
  refine jj_aload_n (j := 0) (i := 0) (pc' := 40) dX4_init_39 rfl rfl rfl ?_
  refine jj_bipush (v := (48 : Int32)) (pc' := 42) dX4_init_40 rfl rfl ?_
  refine jj_na (atype := .int) (ty := .int) (t := 0) (n := 48) (a0 := (48, .inl (fun _ => 0))) (lv := [a0, a0]) (kc' := 5) (ks' := 1164) (pc' := 44) dX4_init_42 rfl rfl qw_8 (fun _ => rfl) (fun _ => rfl) ⟨fun _ => rfl, fun _ => trivial⟩ ⟨by decide, by decide, by decide⟩ rfl (jm_live rfl) rfl rfl ⟨Nat.le_of_ble_eq_true rfl, Nat.le_of_ble_eq_true rfl⟩ hF (fun o113 h114 hF => ?_)
  refine jj_pF (C := RX4) (T := TX4) (N := 15) (ci := 4) (k := 12) (ty := tyX4) (pc' := 47) dX4_init_44 rfl rfl inX4 tyX4_ok nmX4 (by decide) qw_78 rfl rfl rfl (fun _ => ⟨rfl, rfl⟩) hF (fun h115 hF => ?_)
  refine jj_aload_n (j := 0) (i := 0) (pc' := 48) dX4_init_47 rfl rfl rfl ?_
  refine jj_gR (C := RX4) (T := TX4) (N := 15) (ci := 4) (k := 0) (pc' := 51) dX4_init_48 rfl rfl inX4 (by decide) qw_73 hF (fun r116 hF => ?_)
  refine jj_iconst (v := (3 : Int32)) (pc' := 52) dX4_init_51 rfl rfl ?_
  refine jj_bipush (v := (10 : Int32)) (pc' := 54) dX4_init_52 rfl rfl ?_
  refine jj_stI (pc' := 55) dX4_init_54 rfl hF (fun h117 hF => ?_)
  refine jj_aload_n (j := 0) (i := 0) (pc' := 56) dX4_init_55 rfl rfl rfl ?_
  refine jj_gR (C := RX4) (T := TX4) (N := 15) (ci := 4) (k := 0) (pc' := 59) dX4_init_56 rfl rfl inX4 (by decide) qw_73 hF (fun r118 hF => ?_)
  refine jj_iconst (v := (4 : Int32)) (pc' := 60) dX4_init_59 rfl rfl ?_
  refine jj_bipush (v := (15 : Int32)) (pc' := 62) dX4_init_60 rfl rfl ?_
  refine jj_stI (pc' := 63) dX4_init_62 rfl hF (fun h119 hF => ?_)
  refine jj_aload_n (j := 0) (i := 0) (pc' := 64) dX4_init_63 rfl rfl rfl ?_
  refine jj_gR (C := RX4) (T := TX4) (N := 15) (ci := 4) (k := 0) (pc' := 67) dX4_init_64 rfl rfl inX4 (by decide) qw_73 hF (fun r120 hF => ?_)
  refine jj_iconst (v := (5 : Int32)) (pc' := 68) dX4_init_67 rfl rfl ?_
  refine jj_bipush (v := (10 : Int32)) (pc' := 70) dX4_init_68 rfl rfl ?_
  refine jj_stI (pc' := 71) dX4_init_70 rfl hF (fun h121 hF => ?_)
  refine jj_aload_n (j := 0) (i := 0) (pc' := 72) dX4_init_71 rfl rfl rfl ?_
  refine jj_gR (C := RX4) (T := TX4) (N := 15) (ci := 4) (k := 0) (pc' := 75) dX4_init_72 rfl rfl inX4 (by decide) qw_73 hF (fun r122 hF => ?_)
  refine jj_bipush (v := (6 : Int32)) (pc' := 77) dX4_init_75 rfl rfl ?_
  refine jj_iconst (v := (5 : Int32)) (pc' := 78) dX4_init_77 rfl rfl ?_
  refine jj_stI (pc' := 79) dX4_init_78 rfl hF (fun h123 hF => ?_)
  refine jj_iconst (v := (0 : Int32)) (pc' := 80) dX4_init_79 rfl rfl ?_
  refine jj_istore_n (i := 1) (ls' := [(1, .int ((0 : Int32))), (0, .ref a0)]) (pc' := 81) dX4_init_80 rfl (Nat.le_of_ble_eq_true rfl) rfl rfl ?_
  exact jj_pick [1, 0] rfl (BX4_init_81 N N 5 1164 a0 ((0 : Int32)) h123 _ hF)
theorem KX4_init {N : Nat} {a0 : Nat} {h : jm_H} {X : jm_X} (hF : FX4_init N a0 h = some X) : jm_K M_X4_init [.ref a0] h X := jk_of rfl (by decide +kernel) rfl rfl (Nat.le_of_ble_eq_true rfl) (JX4_init hF)
set_option maxRecDepth 100000 in
set_option maxHeartbeats 4000000 in
theorem JX4_thrown {a0 : Nat} {h : jm_H} {X : jm_X} (hF : FX4_thrown a0 h = some X) : jm_J M_X4_thrown 0 [(0, .ref a0)] [] h 0 0 X := by
  unfold FX4_thrown at hF
  refine jj_aload_n (j := 0) (i := 0) (pc' := 1) dX4_thrown_0 rfl rfl rfl ?_
  refine jj_gI (C := RX4) (T := TX4) (N := 15) (ci := 4) (k := 7) (pc' := 4) dX4_thrown_1 rfl rfl inX4 (by decide) qw_79 hF (fun x101 hF => ?_)
  exact jj_retI (ty := .int) rfl rfl dX4_thrown_4 ⟨Nat.le_of_ble_eq_true rfl, Nat.le_of_ble_eq_true rfl⟩ hF
theorem KX4_thrown {a0 : Nat} {h : jm_H} {X : jm_X} (hF : FX4_thrown a0 h = some X) : jm_K M_X4_thrown [.ref a0] h X := jk_of rfl (by decide +kernel) rfl rfl (Nat.le_of_ble_eq_true rfl) (JX4_thrown hF)
set_option maxRecDepth 100000 in
set_option maxHeartbeats 4000000 in
theorem JX4_refuses {a0 : Nat} {x1 : Int32} {h : jm_H} {X : jm_X} (hF : FX4_refuses a0 x1 h = some X) : jm_J M_X4_refuses 0 [(0, .ref a0), (1, .int x1)] [] h 0 0 X := by
  unfold FX4_refuses at hF
  refine jj_aload_n (j := 0) (i := 0) (pc' := 1) dX4_refuses_0 rfl rfl rfl ?_
  refine jj_iload_n (j := 1) (i := 1) (pc' := 2) dX4_refuses_1 rfl rfl rfl ?_
  refine jj_p (C := RX4) (T := TX4) (N := 15) (ci := 4) (k := 7) (ty := tyX4) (pc' := 5) dX4_refuses_2 rfl rfl inX4 tyX4_ok nmX4 (by decide) qw_79 rfl (fun _ => ⟨rfl, rfl⟩) hF (fun h101 hF => ?_)
  refine jj_iconst (v := (0 : Int32)) (pc' := 6) dX4_refuses_5 rfl rfl ?_
  exact jj_retI (ty := .int) rfl rfl dX4_refuses_6 ⟨Nat.le_of_ble_eq_true rfl, Nat.le_of_ble_eq_true rfl⟩ hF
theorem KX4_refuses {a0 : Nat} {x1 : Int32} {h : jm_H} {X : jm_X} (hF : FX4_refuses a0 x1 h = some X) : jm_K M_X4_refuses [.ref a0, .int x1] h X := jk_of rfl (by decide +kernel) rfl rfl (Nat.le_of_ble_eq_true rfl) (JX4_refuses hF)
set_option maxRecDepth 100000 in
set_option maxHeartbeats 4000000 in
theorem JX4_in {x0 : Int32} {x1 : Int32} {x2 : Int32} {h : jm_H} {X : jm_X} (hF : FX4_in x0 x1 x2 h = some X) : jm_J M_X4_in 0 [(0, .int x0), (1, .int x1), (2, .int x2)] [] h 0 0 X := by
  unfold FX4_in at hF
  refine jj_iload_n (j := 0) (i := 0) (pc' := 1) dX4_in_0 rfl rfl rfl ?_
  refine jj_iload_n (j := 1) (i := 1) (pc' := 2) dX4_in_1 rfl rfl rfl ?_
  refine jj_icmp_lt (tgt := 14) (pc' := 5) dX4_in_2 rfl rfl (fun hc hF => ?_) (fun hc hF => ?_) hF
  · skip
    refine jj_iconst (v := (0 : Int32)) (pc' := 15) dX4_in_14 rfl rfl ?_
    exact jj_retI (ty := .boolean) rfl rfl dX4_in_15 ⟨Nat.le_of_ble_eq_true rfl, Nat.le_of_ble_eq_true rfl⟩ hF
  · skip
    refine jj_iload_n (j := 0) (i := 0) (pc' := 6) dX4_in_5 rfl rfl rfl ?_
    refine jj_iload_n (j := 2) (i := 2) (pc' := 7) dX4_in_6 rfl rfl rfl ?_
    refine jj_icmp_gt (tgt := 14) (pc' := 10) dX4_in_7 rfl rfl (fun hc hF => ?_) (fun hc hF => ?_) hF
    · skip
      refine jj_iconst (v := (0 : Int32)) (pc' := 15) dX4_in_14 rfl rfl ?_
      exact jj_retI (ty := .boolean) rfl rfl dX4_in_15 ⟨Nat.le_of_ble_eq_true rfl, Nat.le_of_ble_eq_true rfl⟩ hF
    · skip
      refine jj_iconst (v := (1 : Int32)) (pc' := 11) dX4_in_10 rfl rfl ?_
      refine jj_goto (tgt := 15) dX4_in_11 rfl ?_
      exact jj_retI (ty := .boolean) rfl rfl dX4_in_15 ⟨Nat.le_of_ble_eq_true rfl, Nat.le_of_ble_eq_true rfl⟩ hF
theorem KX4_in {x0 : Int32} {x1 : Int32} {x2 : Int32} {h : jm_H} {X : jm_X} (hF : FX4_in x0 x1 x2 h = some X) : jm_K M_X4_in [.int x0, .int x1, .int x2] h X := jk_of rfl (by decide +kernel) rfl rfl (Nat.le_of_ble_eq_true rfl) (JX4_in hF)
set_option maxRecDepth 100000 in
set_option maxHeartbeats 4000000 in
theorem BX4_lays_3 (N : Nat) : ∀ (n : Nat) (a0 : Nat) (x1 : Int32) (a2 : Nat) (x3 : Int32) (x4 : Int32) (h : jm_H) (X : jm_X), FX4_lays_3 N n a0 x1 a2 x3 x4 h = some X → jm_J M_X4_lays 3 [(0, .ref a0), (1, .int x1), (2, .ref a2), (3, .int x3), (4, .int x4)] [] h 0 0 X := by
  intro n
  induction n with
  | zero =>
    intro a0 x1 a2 x3 x4 h X hF
    exact nomatch (show (none : Option jm_X) = some X from hF)
  | succ n ih =>
    intro a0 x1 a2 x3 x4 h X hF
    rw [FX4_lays_3] at hF
    refine jj_iload (j := 4) (i := 4) (pc' := 5) dX4_lays_3 rfl rfl ?_
    refine jj_sipush (v := (132 : Int32)) (pc' := 8) dX4_lays_5 rfl rfl ?_
    refine jj_icmp_ge (tgt := 29) (pc' := 11) dX4_lays_8 rfl rfl (fun hc hF => ?_) (fun hc hF => ?_) hF
    · skip
      exact jj_retV rfl dX4_lays_29 ⟨Nat.le_of_ble_eq_true rfl, Nat.le_of_ble_eq_true rfl⟩ hF
    · skip
      refine jj_aload_n (j := 2) (i := 2) (pc' := 12) dX4_lays_11 rfl rfl rfl ?_
      refine jj_iload_n (j := 3) (i := 3) (pc' := 13) dX4_lays_12 rfl rfl rfl ?_
      refine jj_iload (j := 4) (i := 4) (pc' := 15) dX4_lays_13 rfl rfl ?_
      refine jj_iadd (pc' := 16) dX4_lays_15 rfl ?_
      refine jj_aload_n (j := 0) (i := 0) (pc' := 17) dX4_lays_16 rfl rfl rfl ?_
      refine jj_iload_n (j := 1) (i := 1) (pc' := 18) dX4_lays_17 rfl rfl rfl ?_
      refine jj_iload (j := 4) (i := 4) (pc' := 20) dX4_lays_18 rfl rfl ?_
      refine jj_iadd (pc' := 21) dX4_lays_20 rfl ?_
      refine jj_ldI (pc' := 22) dX4_lays_21 rfl hF (fun x101 hF => ?_)
      refine jj_stI (pc' := 23) dX4_lays_22 rfl hF (fun h102 hF => ?_)
      refine jj_iinc (i := 4) (j := 4) (v := x4 + (1 : Int32)) (ls' := [(4, .int (x4 + (1 : Int32))), (0, .ref a0), (1, .int x1), (2, .ref a2), (3, .int x3)]) (pc' := 26) dX4_lays_23 rfl rfl (Nat.le_of_ble_eq_true rfl) rfl rfl ?_
      refine jj_goto (tgt := 3) dX4_lays_26 rfl ?_
      exact jj_pick [1, 2, 3, 4, 0] rfl (ih a0 x1 a2 x3 (x4 + (1 : Int32)) h102 _ hF)
set_option maxRecDepth 100000 in
set_option maxHeartbeats 4000000 in
theorem JX4_lays {N : Nat} {a0 : Nat} {x1 : Int32} {a2 : Nat} {x3 : Int32} {h : jm_H} {X : jm_X} (hF : FX4_lays N a0 x1 a2 x3 h = some X) : jm_J M_X4_lays 0 [(0, .ref a0), (1, .int x1), (2, .ref a2), (3, .int x3)] [] h 0 0 X := by
  unfold FX4_lays at hF
  refine jj_iconst (v := (0 : Int32)) (pc' := 1) dX4_lays_0 rfl rfl ?_
  refine jj_istore (i := 4) (ls' := [(4, .int ((0 : Int32))), (0, .ref a0), (1, .int x1), (2, .ref a2), (3, .int x3)]) (pc' := 3) dX4_lays_1 (Nat.le_of_ble_eq_true rfl) rfl rfl ?_
  exact jj_pick [1, 2, 3, 4, 0] rfl (BX4_lays_3 N N a0 x1 a2 x3 ((0 : Int32)) h _ hF)
theorem KX4_lays {N : Nat} {a0 : Nat} {x1 : Int32} {a2 : Nat} {x3 : Int32} {h : jm_H} {X : jm_X} (hF : FX4_lays N a0 x1 a2 x3 h = some X) : jm_K M_X4_lays [.ref a0, .int x1, .ref a2, .int x3] h X := jk_of rfl (by decide +kernel) rfl rfl (Nat.le_of_ble_eq_true rfl) (JX4_lays hF)

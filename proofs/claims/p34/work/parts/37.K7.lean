set_option maxRecDepth 100000 in
set_option maxHeartbeats 4000000 in
theorem JL_refusesFilms {N : Nat} {a0 : Nat} {x1 : Int32} {h : jm_H} {X : jm_X} (hF : FL_refusesFilms N a0 x1 h = some X) : jm_J M_L_refusesFilms 0 [(0, .ref a0), (1, .int x1)] [] h 0 0 X := by
  unfold FL_refusesFilms at hF
  refine jj_iload_n (j := 1) (i := 1) (pc' := 1) dL_refusesFilms_0 rfl rfl rfl ?_
  refine jj_iconst (v := (0 : Int32)) (pc' := 2) dL_refusesFilms_1 rfl rfl ?_
  refine jj_aload_n (j := 0) (i := 0) (pc' := 3) dL_refusesFilms_2 rfl rfl rfl ?_
  refine jj_iconst (v := (0 : Int32)) (pc' := 4) dL_refusesFilms_3 rfl rfl ?_
  refine jj_cI (N := M_X3_count) (kc' := 1) (ks' := 6) (pc' := 7) (jg_V (N := M_X3_count) (ci := 3) (rest := [.int ((0 : Int32)), .int x1]) (as := [.int ((0 : Int32))]) cf_L_81 dL_refusesFilms_4 ⟨rfl, rfl⟩ rfl rfl ⟨Nat.le_of_ble_eq_true rfl, Nat.le_of_ble_eq_true rfl⟩ ⟨Nat.le_of_ble_eq_true rfl, Nat.le_of_ble_eq_true rfl⟩ (Nat.le_of_ble_eq_true rfl) (fun X' hX => KX3_count hX)) rfl rfl rfl rfl ⟨Nat.le_of_ble_eq_true rfl, Nat.le_of_ble_eq_true rfl⟩ rfl hF (fun x102 h101 hF => ?_)
  refine jj_iconst (v := (1 : Int32)) (pc' := 8) dL_refusesFilms_7 rfl rfl ?_
  refine jj_isub (pc' := 9) dL_refusesFilms_8 rfl ?_
  refine jj_cI (N := M_L_far) (kc' := 1) (ks' := 6) (pc' := 12) (jg_S (N := M_L_far) (rest := []) (as := [.int x1, .int ((0 : Int32)), .int (x102 - ((1 : Int32)))]) cf_L_114 rfl dL_refusesFilms_9 rfl rfl ⟨Nat.le_of_ble_eq_true rfl, Nat.le_of_ble_eq_true rfl⟩ ⟨Nat.le_of_ble_eq_true rfl, Nat.le_of_ble_eq_true rfl⟩ (Nat.le_of_ble_eq_true rfl) (fun X' hX => KL_far hX)) rfl rfl rfl rfl ⟨Nat.le_of_ble_eq_true rfl, Nat.le_of_ble_eq_true rfl⟩ rfl hF (fun x104 h103 hF => ?_)
  refine jj_istore_n (i := 2) (ls' := [(2, .int x104), (0, .ref a0), (1, .int x1)]) (pc' := 13) dL_refusesFilms_12 rfl (Nat.le_of_ble_eq_true rfl) rfl rfl ?_
  refine jj_iload_n (j := 2) (i := 1) (pc' := 14) dL_refusesFilms_13 rfl rfl rfl ?_
  refine jj_iconst (v := (0 : Int32)) (pc' := 15) dL_refusesFilms_14 rfl rfl ?_
  refine jj_iconst (v := (2 : Int32)) (pc' := 16) dL_refusesFilms_15 rfl rfl ?_
  refine jj_cI (N := M_L_far) (kc' := 1) (ks' := 6) (pc' := 19) (jg_S (N := M_L_far) (rest := []) (as := [.int x1, .int ((0 : Int32)), .int ((2 : Int32))]) cf_L_114 rfl dL_refusesFilms_16 rfl rfl ⟨Nat.le_of_ble_eq_true rfl, Nat.le_of_ble_eq_true rfl⟩ ⟨Nat.le_of_ble_eq_true rfl, Nat.le_of_ble_eq_true rfl⟩ (Nat.le_of_ble_eq_true rfl) (fun X' hX => KL_far hX)) rfl rfl rfl rfl ⟨Nat.le_of_ble_eq_true rfl, Nat.le_of_ble_eq_true rfl⟩ rfl hF (fun x106 h105 hF => ?_)
  refine jj_istore_n (i := 3) (ls' := [(3, .int x106), (2, .int x104), (0, .ref a0), (1, .int x1)]) (pc' := 20) dL_refusesFilms_19 rfl (Nat.le_of_ble_eq_true rfl) rfl rfl ?_
  refine jj_iload_n (j := 3) (i := 1) (pc' := 21) dL_refusesFilms_20 rfl rfl rfl ?_
  refine jj_iconst (v := (0 : Int32)) (pc' := 22) dL_refusesFilms_21 rfl rfl ?_
  refine jj_sipush (v := (1999 : Int32)) (pc' := 25) dL_refusesFilms_22 rfl rfl ?_
  refine jj_cI (N := M_L_far) (kc' := 1) (ks' := 6) (pc' := 28) (jg_S (N := M_L_far) (rest := []) (as := [.int x1, .int ((0 : Int32)), .int ((1999 : Int32))]) cf_L_114 rfl dL_refusesFilms_25 rfl rfl ⟨Nat.le_of_ble_eq_true rfl, Nat.le_of_ble_eq_true rfl⟩ ⟨Nat.le_of_ble_eq_true rfl, Nat.le_of_ble_eq_true rfl⟩ (Nat.le_of_ble_eq_true rfl) (fun X' hX => KL_far hX)) rfl rfl rfl rfl ⟨Nat.le_of_ble_eq_true rfl, Nat.le_of_ble_eq_true rfl⟩ rfl hF (fun x108 h107 hF => ?_)
  refine jj_istore (i := 4) (ls' := [(4, .int x108), (3, .int x106), (2, .int x104), (0, .ref a0), (1, .int x1)]) (pc' := 30) dL_refusesFilms_28 (Nat.le_of_ble_eq_true rfl) rfl rfl ?_
  refine jj_aload_n (j := 3) (i := 0) (pc' := 31) dL_refusesFilms_30 rfl rfl rfl ?_
  refine jj_iconst (v := (0 : Int32)) (pc' := 32) dL_refusesFilms_31 rfl rfl ?_
  refine jj_iload_n (j := 4) (i := 1) (pc' := 33) dL_refusesFilms_32 rfl rfl rfl ?_
  refine jj_iconst (v := (1 : Int32)) (pc' := 34) dL_refusesFilms_33 rfl rfl ?_
  refine jj_bipush (v := (6 : Int32)) (pc' := 36) dL_refusesFilms_34 rfl rfl ?_
  refine jj_cI (N := M_L_far) (kc' := 1) (ks' := 6) (pc' := 39) (jg_S (N := M_L_far) (rest := [.int ((0 : Int32)), .ref a0]) (as := [.int x1, .int ((1 : Int32)), .int ((6 : Int32))]) cf_L_114 rfl dL_refusesFilms_36 rfl rfl ⟨Nat.le_of_ble_eq_true rfl, Nat.le_of_ble_eq_true rfl⟩ ⟨Nat.le_of_ble_eq_true rfl, Nat.le_of_ble_eq_true rfl⟩ (Nat.le_of_ble_eq_true rfl) (fun X' hX => KL_far hX)) rfl rfl rfl rfl ⟨Nat.le_of_ble_eq_true rfl, Nat.le_of_ble_eq_true rfl⟩ rfl hF (fun x110 h109 hF => ?_)
  refine jj_bipush (v := (10 : Int32)) (pc' := 41) dL_refusesFilms_39 rfl rfl ?_
  refine jj_iconst (v := (0 : Int32)) (pc' := 42) dL_refusesFilms_41 rfl rfl ?_
  refine jj_lconst (v := (0 : Int64)) (pc' := 43) dL_refusesFilms_42 rfl rfl ?_
  refine jj_cI (N := M_L_call) (kc' := 62) (ks' := 372) (pc' := 46) (jg_H (N := M_L_call) (rest := []) (as := [.ref a0, .int ((0 : Int32)), .int x110, .int ((10 : Int32)), .int ((0 : Int32)), .long ((0 : Int64))]) cf_L_119 (by decide) dL_refusesFilms_43 rfl rfl ⟨Nat.le_of_ble_eq_true rfl, Nat.le_of_ble_eq_true rfl⟩ ⟨Nat.le_of_ble_eq_true rfl, Nat.le_of_ble_eq_true rfl⟩ (Nat.le_of_ble_eq_true rfl) (fun X' hX => KL_call hX)) rfl rfl rfl rfl ⟨Nat.le_of_ble_eq_true rfl, Nat.le_of_ble_eq_true rfl⟩ rfl hF (fun x112 h111 hF => ?_)
  refine jj_bipush (v := (-12 : Int32)) (pc' := 48) dL_refusesFilms_46 rfl rfl ?_
  refine jj_icmp_ne (tgt := 315) (pc' := 51) dL_refusesFilms_48 rfl rfl (fun hc hF => ?_) (fun hc hF => ?_) hF
  · skip
    refine jj_iconst (v := (0 : Int32)) (pc' := 316) dL_refusesFilms_315 rfl rfl ?_
    exact jj_retI (ty := .boolean) rfl rfl dL_refusesFilms_316 ⟨Nat.le_of_ble_eq_true rfl, Nat.le_of_ble_eq_true rfl⟩ hF
  · skip
    refine jj_aload_n (j := 3) (i := 0) (pc' := 52) dL_refusesFilms_51 rfl rfl rfl ?_
    refine jj_iconst (v := (0 : Int32)) (pc' := 53) dL_refusesFilms_52 rfl rfl ?_
    refine jj_bipush (v := (6 : Int32)) (pc' := 55) dL_refusesFilms_53 rfl rfl ?_
    refine jj_iload_n (j := 4) (i := 1) (pc' := 56) dL_refusesFilms_55 rfl rfl rfl ?_
    refine jj_bipush (v := (10 : Int32)) (pc' := 58) dL_refusesFilms_56 rfl rfl ?_
    refine jj_bipush (v := (25 : Int32)) (pc' := 60) dL_refusesFilms_58 rfl rfl ?_
    refine jj_cI (N := M_L_far) (kc' := 62) (ks' := 372) (pc' := 63) (jg_S (N := M_L_far) (rest := [.int ((6 : Int32)), .int ((0 : Int32)), .ref a0]) (as := [.int x1, .int ((10 : Int32)), .int ((25 : Int32))]) cf_L_114 rfl dL_refusesFilms_60 rfl rfl ⟨Nat.le_of_ble_eq_true rfl, Nat.le_of_ble_eq_true rfl⟩ ⟨Nat.le_of_ble_eq_true rfl, Nat.le_of_ble_eq_true rfl⟩ (Nat.le_of_ble_eq_true rfl) (fun X' hX => KL_far hX)) rfl rfl rfl rfl ⟨Nat.le_of_ble_eq_true rfl, Nat.le_of_ble_eq_true rfl⟩ rfl hF (fun x114 h113 hF => ?_)
    refine jj_iconst (v := (0 : Int32)) (pc' := 64) dL_refusesFilms_63 rfl rfl ?_
    refine jj_lconst (v := (0 : Int64)) (pc' := 65) dL_refusesFilms_64 rfl rfl ?_
    refine jj_cI (N := M_L_call) (kc' := 123) (ks' := 738) (pc' := 68) (jg_H (N := M_L_call) (rest := []) (as := [.ref a0, .int ((0 : Int32)), .int ((6 : Int32)), .int x114, .int ((0 : Int32)), .long ((0 : Int64))]) cf_L_119 (by decide) dL_refusesFilms_65 rfl rfl ⟨Nat.le_of_ble_eq_true rfl, Nat.le_of_ble_eq_true rfl⟩ ⟨Nat.le_of_ble_eq_true rfl, Nat.le_of_ble_eq_true rfl⟩ (Nat.le_of_ble_eq_true rfl) (fun X' hX => KL_call hX)) rfl rfl rfl rfl ⟨Nat.le_of_ble_eq_true rfl, Nat.le_of_ble_eq_true rfl⟩ rfl hF (fun x116 h115 hF => ?_)
    refine jj_bipush (v := (-12 : Int32)) (pc' := 70) dL_refusesFilms_68 rfl rfl ?_
    refine jj_icmp_ne (tgt := 315) (pc' := 73) dL_refusesFilms_70 rfl rfl (fun hc hF => ?_) (fun hc hF => ?_) hF
    · skip
      refine jj_iconst (v := (0 : Int32)) (pc' := 316) dL_refusesFilms_315 rfl rfl ?_
      exact jj_retI (ty := .boolean) rfl rfl dL_refusesFilms_316 ⟨Nat.le_of_ble_eq_true rfl, Nat.le_of_ble_eq_true rfl⟩ hF
    · skip
      refine jj_aload_n (j := 3) (i := 0) (pc' := 74) dL_refusesFilms_73 rfl rfl rfl ?_
      refine jj_iconst (v := (1 : Int32)) (pc' := 75) dL_refusesFilms_74 rfl rfl ?_
      refine jj_iload_n (j := 1) (i := 3) (pc' := 76) dL_refusesFilms_75 rfl rfl rfl ?_
      refine jj_iconst (v := (0 : Int32)) (pc' := 77) dL_refusesFilms_76 rfl rfl ?_
      refine jj_iconst (v := (0 : Int32)) (pc' := 78) dL_refusesFilms_77 rfl rfl ?_
      refine jj_lconst (v := (0 : Int64)) (pc' := 79) dL_refusesFilms_78 rfl rfl ?_
      refine jj_cI (N := M_L_call) (kc' := 184) (ks' := 1104) (pc' := 82) (jg_H (N := M_L_call) (rest := []) (as := [.ref a0, .int ((1 : Int32)), .int x106, .int ((0 : Int32)), .int ((0 : Int32)), .long ((0 : Int64))]) cf_L_119 (by decide) dL_refusesFilms_79 rfl rfl ⟨Nat.le_of_ble_eq_true rfl, Nat.le_of_ble_eq_true rfl⟩ ⟨Nat.le_of_ble_eq_true rfl, Nat.le_of_ble_eq_true rfl⟩ (Nat.le_of_ble_eq_true rfl) (fun X' hX => KL_call hX)) rfl rfl rfl rfl ⟨Nat.le_of_ble_eq_true rfl, Nat.le_of_ble_eq_true rfl⟩ rfl hF (fun x118 h117 hF => ?_)
      refine jj_bipush (v := (-11 : Int32)) (pc' := 84) dL_refusesFilms_82 rfl rfl ?_
      refine jj_icmp_ne (tgt := 315) (pc' := 87) dL_refusesFilms_84 rfl rfl (fun hc hF => ?_) (fun hc hF => ?_) hF
      · skip
        refine jj_iconst (v := (0 : Int32)) (pc' := 316) dL_refusesFilms_315 rfl rfl ?_
        exact jj_retI (ty := .boolean) rfl rfl dL_refusesFilms_316 ⟨Nat.le_of_ble_eq_true rfl, Nat.le_of_ble_eq_true rfl⟩ hF
      · skip
        refine jj_aload_n (j := 3) (i := 0) (pc' := 88) dL_refusesFilms_87 rfl rfl rfl ?_
        refine jj_iconst (v := (1 : Int32)) (pc' := 89) dL_refusesFilms_88 rfl rfl ?_
        refine jj_iconst (v := (2 : Int32)) (pc' := 90) dL_refusesFilms_89 rfl rfl ?_
        refine jj_iload_n (j := 4) (i := 1) (pc' := 91) dL_refusesFilms_90 rfl rfl rfl ?_
        refine jj_bipush (v := (50 : Int32)) (pc' := 93) dL_refusesFilms_91 rfl rfl ?_
        refine jj_sipush (v := (400 : Int32)) (pc' := 96) dL_refusesFilms_93 rfl rfl ?_
        refine jj_cI (N := M_L_far) (kc' := 184) (ks' := 1104) (pc' := 99) (jg_S (N := M_L_far) (rest := [.int ((2 : Int32)), .int ((1 : Int32)), .ref a0]) (as := [.int x1, .int ((50 : Int32)), .int ((400 : Int32))]) cf_L_114 rfl dL_refusesFilms_96 rfl rfl ⟨Nat.le_of_ble_eq_true rfl, Nat.le_of_ble_eq_true rfl⟩ ⟨Nat.le_of_ble_eq_true rfl, Nat.le_of_ble_eq_true rfl⟩ (Nat.le_of_ble_eq_true rfl) (fun X' hX => KL_far hX)) rfl rfl rfl rfl ⟨Nat.le_of_ble_eq_true rfl, Nat.le_of_ble_eq_true rfl⟩ rfl hF (fun x120 h119 hF => ?_)
        refine jj_iconst (v := (0 : Int32)) (pc' := 100) dL_refusesFilms_99 rfl rfl ?_
        refine jj_lconst (v := (0 : Int64)) (pc' := 101) dL_refusesFilms_100 rfl rfl ?_
        refine jj_cI (N := M_L_call) (kc' := 245) (ks' := 1470) (pc' := 104) (jg_H (N := M_L_call) (rest := []) (as := [.ref a0, .int ((1 : Int32)), .int ((2 : Int32)), .int x120, .int ((0 : Int32)), .long ((0 : Int64))]) cf_L_119 (by decide) dL_refusesFilms_101 rfl rfl ⟨Nat.le_of_ble_eq_true rfl, Nat.le_of_ble_eq_true rfl⟩ ⟨Nat.le_of_ble_eq_true rfl, Nat.le_of_ble_eq_true rfl⟩ (Nat.le_of_ble_eq_true rfl) (fun X' hX => KL_call hX)) rfl rfl rfl rfl ⟨Nat.le_of_ble_eq_true rfl, Nat.le_of_ble_eq_true rfl⟩ rfl hF (fun x122 h121 hF => ?_)
        refine jj_bipush (v := (-12 : Int32)) (pc' := 106) dL_refusesFilms_104 rfl rfl ?_
        refine jj_icmp_ne (tgt := 315) (pc' := 109) dL_refusesFilms_106 rfl rfl (fun hc hF => ?_) (fun hc hF => ?_) hF
        · skip
          refine jj_iconst (v := (0 : Int32)) (pc' := 316) dL_refusesFilms_315 rfl rfl ?_
          exact jj_retI (ty := .boolean) rfl rfl dL_refusesFilms_316 ⟨Nat.le_of_ble_eq_true rfl, Nat.le_of_ble_eq_true rfl⟩ hF
        · skip
          refine jj_aload_n (j := 3) (i := 0) (pc' := 110) dL_refusesFilms_109 rfl rfl rfl ?_
          refine jj_iconst (v := (2 : Int32)) (pc' := 111) dL_refusesFilms_110 rfl rfl ?_
          refine jj_iload_n (j := 4) (i := 1) (pc' := 112) dL_refusesFilms_111 rfl rfl rfl ?_
          refine jj_iconst (v := (0 : Int32)) (pc' := 113) dL_refusesFilms_112 rfl rfl ?_
          refine jj_iconst (v := (3 : Int32)) (pc' := 114) dL_refusesFilms_113 rfl rfl ?_
          refine jj_cI (N := M_L_far) (kc' := 245) (ks' := 1470) (pc' := 117) (jg_S (N := M_L_far) (rest := [.int ((2 : Int32)), .ref a0]) (as := [.int x1, .int ((0 : Int32)), .int ((3 : Int32))]) cf_L_114 rfl dL_refusesFilms_114 rfl rfl ⟨Nat.le_of_ble_eq_true rfl, Nat.le_of_ble_eq_true rfl⟩ ⟨Nat.le_of_ble_eq_true rfl, Nat.le_of_ble_eq_true rfl⟩ (Nat.le_of_ble_eq_true rfl) (fun X' hX => KL_far hX)) rfl rfl rfl rfl ⟨Nat.le_of_ble_eq_true rfl, Nat.le_of_ble_eq_true rfl⟩ rfl hF (fun x124 h123 hF => ?_)
          refine jj_bipush (v := (99 : Int32)) (pc' := 119) dL_refusesFilms_117 rfl rfl ?_
          refine jj_iconst (v := (0 : Int32)) (pc' := 120) dL_refusesFilms_119 rfl rfl ?_
          refine jj_lconst (v := (0 : Int64)) (pc' := 121) dL_refusesFilms_120 rfl rfl ?_
          refine jj_cI (N := M_L_call) (kc' := 306) (ks' := 1836) (pc' := 124) (jg_H (N := M_L_call) (rest := []) (as := [.ref a0, .int ((2 : Int32)), .int x124, .int ((99 : Int32)), .int ((0 : Int32)), .long ((0 : Int64))]) cf_L_119 (by decide) dL_refusesFilms_121 rfl rfl ⟨Nat.le_of_ble_eq_true rfl, Nat.le_of_ble_eq_true rfl⟩ ⟨Nat.le_of_ble_eq_true rfl, Nat.le_of_ble_eq_true rfl⟩ (Nat.le_of_ble_eq_true rfl) (fun X' hX => KL_call hX)) rfl rfl rfl rfl ⟨Nat.le_of_ble_eq_true rfl, Nat.le_of_ble_eq_true rfl⟩ rfl hF (fun x126 h125 hF => ?_)
          refine jj_bipush (v := (-11 : Int32)) (pc' := 126) dL_refusesFilms_124 rfl rfl ?_
          refine jj_icmp_ne (tgt := 315) (pc' := 129) dL_refusesFilms_126 rfl rfl (fun hc hF => ?_) (fun hc hF => ?_) hF
          · skip
            refine jj_iconst (v := (0 : Int32)) (pc' := 316) dL_refusesFilms_315 rfl rfl ?_
            exact jj_retI (ty := .boolean) rfl rfl dL_refusesFilms_316 ⟨Nat.le_of_ble_eq_true rfl, Nat.le_of_ble_eq_true rfl⟩ hF
          · skip
            refine jj_aload_n (j := 3) (i := 0) (pc' := 130) dL_refusesFilms_129 rfl rfl rfl ?_
            refine jj_iconst (v := (2 : Int32)) (pc' := 131) dL_refusesFilms_130 rfl rfl ?_
            refine jj_iconst (v := (3 : Int32)) (pc' := 132) dL_refusesFilms_131 rfl rfl ?_
            refine jj_iload_n (j := 4) (i := 1) (pc' := 133) dL_refusesFilms_132 rfl rfl rfl ?_
            refine jj_iconst (v := (0 : Int32)) (pc' := 134) dL_refusesFilms_133 rfl rfl ?_
            refine jj_bipush (v := (60 : Int32)) (pc' := 136) dL_refusesFilms_134 rfl rfl ?_
            refine jj_cI (N := M_L_far) (kc' := 306) (ks' := 1836) (pc' := 139) (jg_S (N := M_L_far) (rest := [.int ((3 : Int32)), .int ((2 : Int32)), .ref a0]) (as := [.int x1, .int ((0 : Int32)), .int ((60 : Int32))]) cf_L_114 rfl dL_refusesFilms_136 rfl rfl ⟨Nat.le_of_ble_eq_true rfl, Nat.le_of_ble_eq_true rfl⟩ ⟨Nat.le_of_ble_eq_true rfl, Nat.le_of_ble_eq_true rfl⟩ (Nat.le_of_ble_eq_true rfl) (fun X' hX => KL_far hX)) rfl rfl rfl rfl ⟨Nat.le_of_ble_eq_true rfl, Nat.le_of_ble_eq_true rfl⟩ rfl hF (fun x128 h127 hF => ?_)
            refine jj_iconst (v := (0 : Int32)) (pc' := 140) dL_refusesFilms_139 rfl rfl ?_
            refine jj_lconst (v := (0 : Int64)) (pc' := 141) dL_refusesFilms_140 rfl rfl ?_
            refine jj_cI (N := M_L_call) (kc' := 367) (ks' := 2202) (pc' := 144) (jg_H (N := M_L_call) (rest := []) (as := [.ref a0, .int ((2 : Int32)), .int ((3 : Int32)), .int x128, .int ((0 : Int32)), .long ((0 : Int64))]) cf_L_119 (by decide) dL_refusesFilms_141 rfl rfl ⟨Nat.le_of_ble_eq_true rfl, Nat.le_of_ble_eq_true rfl⟩ ⟨Nat.le_of_ble_eq_true rfl, Nat.le_of_ble_eq_true rfl⟩ (Nat.le_of_ble_eq_true rfl) (fun X' hX => KL_call hX)) rfl rfl rfl rfl ⟨Nat.le_of_ble_eq_true rfl, Nat.le_of_ble_eq_true rfl⟩ rfl hF (fun x130 h129 hF => ?_)
            refine jj_bipush (v := (-12 : Int32)) (pc' := 146) dL_refusesFilms_144 rfl rfl ?_
            refine jj_icmp_ne (tgt := 315) (pc' := 149) dL_refusesFilms_146 rfl rfl (fun hc hF => ?_) (fun hc hF => ?_) hF
            · skip
              refine jj_iconst (v := (0 : Int32)) (pc' := 316) dL_refusesFilms_315 rfl rfl ?_
              exact jj_retI (ty := .boolean) rfl rfl dL_refusesFilms_316 ⟨Nat.le_of_ble_eq_true rfl, Nat.le_of_ble_eq_true rfl⟩ hF
            · skip
              refine jj_aload_n (j := 3) (i := 0) (pc' := 150) dL_refusesFilms_149 rfl rfl rfl ?_
              refine jj_iconst (v := (3 : Int32)) (pc' := 151) dL_refusesFilms_150 rfl rfl ?_
              refine jj_iload_n (j := 2) (i := 2) (pc' := 152) dL_refusesFilms_151 rfl rfl rfl ?_
              refine jj_iconst (v := (0 : Int32)) (pc' := 153) dL_refusesFilms_152 rfl rfl ?_
              refine jj_iconst (v := (-1 : Int32)) (pc' := 154) dL_refusesFilms_153 rfl rfl ?_
              refine jj_ldc2l (v := (500 : Int64)) (pc' := 157) dL_refusesFilms_154 qw_78 rfl ?_
              refine jj_cI (N := M_L_call) (kc' := 428) (ks' := 2568) (pc' := 160) (jg_H (N := M_L_call) (rest := []) (as := [.ref a0, .int ((3 : Int32)), .int x104, .int ((0 : Int32)), .int ((-1 : Int32)), .long ((500 : Int64))]) cf_L_119 (by decide) dL_refusesFilms_157 rfl rfl ⟨Nat.le_of_ble_eq_true rfl, Nat.le_of_ble_eq_true rfl⟩ ⟨Nat.le_of_ble_eq_true rfl, Nat.le_of_ble_eq_true rfl⟩ (Nat.le_of_ble_eq_true rfl) (fun X' hX => KL_call hX)) rfl rfl rfl rfl ⟨Nat.le_of_ble_eq_true rfl, Nat.le_of_ble_eq_true rfl⟩ rfl hF (fun x132 h131 hF => ?_)
              refine jj_bipush (v := (-11 : Int32)) (pc' := 162) dL_refusesFilms_160 rfl rfl ?_
              refine jj_icmp_ne (tgt := 315) (pc' := 165) dL_refusesFilms_162 rfl rfl (fun hc hF => ?_) (fun hc hF => ?_) hF
              · skip
                refine jj_iconst (v := (0 : Int32)) (pc' := 316) dL_refusesFilms_315 rfl rfl ?_
                exact jj_retI (ty := .boolean) rfl rfl dL_refusesFilms_316 ⟨Nat.le_of_ble_eq_true rfl, Nat.le_of_ble_eq_true rfl⟩ hF
              · skip
                refine jj_aload_n (j := 3) (i := 0) (pc' := 166) dL_refusesFilms_165 rfl rfl rfl ?_
                refine jj_bipush (v := (6 : Int32)) (pc' := 168) dL_refusesFilms_166 rfl rfl ?_
                refine jj_iload_n (j := 2) (i := 2) (pc' := 169) dL_refusesFilms_168 rfl rfl rfl ?_
                refine jj_iconst (v := (-1 : Int32)) (pc' := 170) dL_refusesFilms_169 rfl rfl ?_
                refine jj_iconst (v := (0 : Int32)) (pc' := 171) dL_refusesFilms_170 rfl rfl ?_
                refine jj_lconst (v := (0 : Int64)) (pc' := 172) dL_refusesFilms_171 rfl rfl ?_
                refine jj_cI (N := M_L_call) (kc' := 489) (ks' := 2934) (pc' := 175) (jg_H (N := M_L_call) (rest := []) (as := [.ref a0, .int ((6 : Int32)), .int x104, .int ((-1 : Int32)), .int ((0 : Int32)), .long ((0 : Int64))]) cf_L_119 (by decide) dL_refusesFilms_172 rfl rfl ⟨Nat.le_of_ble_eq_true rfl, Nat.le_of_ble_eq_true rfl⟩ ⟨Nat.le_of_ble_eq_true rfl, Nat.le_of_ble_eq_true rfl⟩ (Nat.le_of_ble_eq_true rfl) (fun X' hX => KL_call hX)) rfl rfl rfl rfl ⟨Nat.le_of_ble_eq_true rfl, Nat.le_of_ble_eq_true rfl⟩ rfl hF (fun x134 h133 hF => ?_)
                refine jj_bipush (v := (-11 : Int32)) (pc' := 177) dL_refusesFilms_175 rfl rfl ?_
                refine jj_icmp_ne (tgt := 315) (pc' := 180) dL_refusesFilms_177 rfl rfl (fun hc hF => ?_) (fun hc hF => ?_) hF
                · skip
                  refine jj_iconst (v := (0 : Int32)) (pc' := 316) dL_refusesFilms_315 rfl rfl ?_
                  exact jj_retI (ty := .boolean) rfl rfl dL_refusesFilms_316 ⟨Nat.le_of_ble_eq_true rfl, Nat.le_of_ble_eq_true rfl⟩ hF
                · skip
                  refine jj_aload_n (j := 3) (i := 0) (pc' := 181) dL_refusesFilms_180 rfl rfl rfl ?_
                  refine jj_bipush (v := (9 : Int32)) (pc' := 183) dL_refusesFilms_181 rfl rfl ?_
                  refine jj_iload_n (j := 4) (i := 1) (pc' := 184) dL_refusesFilms_183 rfl rfl rfl ?_
                  refine jj_bipush (v := (33 : Int32)) (pc' := 186) dL_refusesFilms_184 rfl rfl ?_
                  refine jj_bipush (v := (126 : Int32)) (pc' := 188) dL_refusesFilms_186 rfl rfl ?_
                  refine jj_cI (N := M_L_far) (kc' := 489) (ks' := 2934) (pc' := 191) (jg_S (N := M_L_far) (rest := [.int ((9 : Int32)), .ref a0]) (as := [.int x1, .int ((33 : Int32)), .int ((126 : Int32))]) cf_L_114 rfl dL_refusesFilms_188 rfl rfl ⟨Nat.le_of_ble_eq_true rfl, Nat.le_of_ble_eq_true rfl⟩ ⟨Nat.le_of_ble_eq_true rfl, Nat.le_of_ble_eq_true rfl⟩ (Nat.le_of_ble_eq_true rfl) (fun X' hX => KL_far hX)) rfl rfl rfl rfl ⟨Nat.le_of_ble_eq_true rfl, Nat.le_of_ble_eq_true rfl⟩ rfl hF (fun x136 h135 hF => ?_)
                  refine jj_iconst (v := (0 : Int32)) (pc' := 192) dL_refusesFilms_191 rfl rfl ?_
                  refine jj_iconst (v := (0 : Int32)) (pc' := 193) dL_refusesFilms_192 rfl rfl ?_
                  refine jj_lconst (v := (0 : Int64)) (pc' := 194) dL_refusesFilms_193 rfl rfl ?_
                  refine jj_cI (N := M_L_call) (kc' := 550) (ks' := 3300) (pc' := 197) (jg_H (N := M_L_call) (rest := []) (as := [.ref a0, .int ((9 : Int32)), .int x136, .int ((0 : Int32)), .int ((0 : Int32)), .long ((0 : Int64))]) cf_L_119 (by decide) dL_refusesFilms_194 rfl rfl ⟨Nat.le_of_ble_eq_true rfl, Nat.le_of_ble_eq_true rfl⟩ ⟨Nat.le_of_ble_eq_true rfl, Nat.le_of_ble_eq_true rfl⟩ (Nat.le_of_ble_eq_true rfl) (fun X' hX => KL_call hX)) rfl rfl rfl rfl ⟨Nat.le_of_ble_eq_true rfl, Nat.le_of_ble_eq_true rfl⟩ rfl hF (fun x138 h137 hF => ?_)
                  refine jj_bipush (v := (-12 : Int32)) (pc' := 199) dL_refusesFilms_197 rfl rfl ?_
                  refine jj_icmp_ne (tgt := 315) (pc' := 202) dL_refusesFilms_199 rfl rfl (fun hc hF => ?_) (fun hc hF => ?_) hF
                  · skip
                    refine jj_iconst (v := (0 : Int32)) (pc' := 316) dL_refusesFilms_315 rfl rfl ?_
                    exact jj_retI (ty := .boolean) rfl rfl dL_refusesFilms_316 ⟨Nat.le_of_ble_eq_true rfl, Nat.le_of_ble_eq_true rfl⟩ hF
                  · skip
                    refine jj_aload_n (j := 3) (i := 0) (pc' := 203) dL_refusesFilms_202 rfl rfl rfl ?_
                    refine jj_bipush (v := (10 : Int32)) (pc' := 205) dL_refusesFilms_203 rfl rfl ?_
                    refine jj_iconst (v := (0 : Int32)) (pc' := 206) dL_refusesFilms_205 rfl rfl ?_
                    refine jj_iconst (v := (0 : Int32)) (pc' := 207) dL_refusesFilms_206 rfl rfl ?_
                    refine jj_iconst (v := (0 : Int32)) (pc' := 208) dL_refusesFilms_207 rfl rfl ?_
                    refine jj_lconst (v := (0 : Int64)) (pc' := 209) dL_refusesFilms_208 rfl rfl ?_
                    refine jj_cI (N := M_L_call) (kc' := 611) (ks' := 3666) (pc' := 212) (jg_H (N := M_L_call) (rest := []) (as := [.ref a0, .int ((10 : Int32)), .int ((0 : Int32)), .int ((0 : Int32)), .int ((0 : Int32)), .long ((0 : Int64))]) cf_L_119 (by decide) dL_refusesFilms_209 rfl rfl ⟨Nat.le_of_ble_eq_true rfl, Nat.le_of_ble_eq_true rfl⟩ ⟨Nat.le_of_ble_eq_true rfl, Nat.le_of_ble_eq_true rfl⟩ (Nat.le_of_ble_eq_true rfl) (fun X' hX => KL_call hX)) rfl rfl rfl rfl ⟨Nat.le_of_ble_eq_true rfl, Nat.le_of_ble_eq_true rfl⟩ rfl hF (fun x140 h139 hF => ?_)
                    refine jj_bipush (v := (-12 : Int32)) (pc' := 214) dL_refusesFilms_212 rfl rfl ?_
                    refine jj_icmp_ne (tgt := 315) (pc' := 217) dL_refusesFilms_214 rfl rfl (fun hc hF => ?_) (fun hc hF => ?_) hF
                    · skip
                      refine jj_iconst (v := (0 : Int32)) (pc' := 316) dL_refusesFilms_315 rfl rfl ?_
                      exact jj_retI (ty := .boolean) rfl rfl dL_refusesFilms_316 ⟨Nat.le_of_ble_eq_true rfl, Nat.le_of_ble_eq_true rfl⟩ hF
                    · skip
                      refine jj_aload_n (j := 3) (i := 0) (pc' := 218) dL_refusesFilms_217 rfl rfl rfl ?_
                      refine jj_bipush (v := (11 : Int32)) (pc' := 220) dL_refusesFilms_218 rfl rfl ?_
                      refine jj_iload_n (j := 4) (i := 1) (pc' := 221) dL_refusesFilms_220 rfl rfl rfl ?_
                      refine jj_iconst (v := (0 : Int32)) (pc' := 222) dL_refusesFilms_221 rfl rfl ?_
                      refine jj_iconst (v := (2 : Int32)) (pc' := 223) dL_refusesFilms_222 rfl rfl ?_
                      refine jj_cI (N := M_L_far) (kc' := 611) (ks' := 3666) (pc' := 226) (jg_S (N := M_L_far) (rest := [.int ((11 : Int32)), .ref a0]) (as := [.int x1, .int ((0 : Int32)), .int ((2 : Int32))]) cf_L_114 rfl dL_refusesFilms_223 rfl rfl ⟨Nat.le_of_ble_eq_true rfl, Nat.le_of_ble_eq_true rfl⟩ ⟨Nat.le_of_ble_eq_true rfl, Nat.le_of_ble_eq_true rfl⟩ (Nat.le_of_ble_eq_true rfl) (fun X' hX => KL_far hX)) rfl rfl rfl rfl ⟨Nat.le_of_ble_eq_true rfl, Nat.le_of_ble_eq_true rfl⟩ rfl hF (fun x142 h141 hF => ?_)
                      refine jj_iconst (v := (0 : Int32)) (pc' := 227) dL_refusesFilms_226 rfl rfl ?_
                      refine jj_iconst (v := (0 : Int32)) (pc' := 228) dL_refusesFilms_227 rfl rfl ?_
                      refine jj_lconst (v := (0 : Int64)) (pc' := 229) dL_refusesFilms_228 rfl rfl ?_
                      refine jj_cI (N := M_L_call) (kc' := 672) (ks' := 4032) (pc' := 232) (jg_H (N := M_L_call) (rest := []) (as := [.ref a0, .int ((11 : Int32)), .int x142, .int ((0 : Int32)), .int ((0 : Int32)), .long ((0 : Int64))]) cf_L_119 (by decide) dL_refusesFilms_229 rfl rfl ⟨Nat.le_of_ble_eq_true rfl, Nat.le_of_ble_eq_true rfl⟩ ⟨Nat.le_of_ble_eq_true rfl, Nat.le_of_ble_eq_true rfl⟩ (Nat.le_of_ble_eq_true rfl) (fun X' hX => KL_call hX)) rfl rfl rfl rfl ⟨Nat.le_of_ble_eq_true rfl, Nat.le_of_ble_eq_true rfl⟩ rfl hF (fun x144 h143 hF => ?_)
                      refine jj_bipush (v := (-12 : Int32)) (pc' := 234) dL_refusesFilms_232 rfl rfl ?_
                      refine jj_icmp_ne (tgt := 315) (pc' := 237) dL_refusesFilms_234 rfl rfl (fun hc hF => ?_) (fun hc hF => ?_) hF
                      · skip
                        refine jj_iconst (v := (0 : Int32)) (pc' := 316) dL_refusesFilms_315 rfl rfl ?_
                        exact jj_retI (ty := .boolean) rfl rfl dL_refusesFilms_316 ⟨Nat.le_of_ble_eq_true rfl, Nat.le_of_ble_eq_true rfl⟩ hF
                      · skip
                        refine jj_aload_n (j := 3) (i := 0) (pc' := 238) dL_refusesFilms_237 rfl rfl rfl ?_
                        refine jj_bipush (v := (14 : Int32)) (pc' := 240) dL_refusesFilms_238 rfl rfl ?_
                        refine jj_iload_n (j := 2) (i := 2) (pc' := 241) dL_refusesFilms_240 rfl rfl rfl ?_
                        refine jj_bipush (v := (9 : Int32)) (pc' := 243) dL_refusesFilms_241 rfl rfl ?_
                        refine jj_iconst (v := (0 : Int32)) (pc' := 244) dL_refusesFilms_243 rfl rfl ?_
                        refine jj_lconst (v := (0 : Int64)) (pc' := 245) dL_refusesFilms_244 rfl rfl ?_
                        refine jj_cI (N := M_L_call) (kc' := 733) (ks' := 4398) (pc' := 248) (jg_H (N := M_L_call) (rest := []) (as := [.ref a0, .int ((14 : Int32)), .int x104, .int ((9 : Int32)), .int ((0 : Int32)), .long ((0 : Int64))]) cf_L_119 (by decide) dL_refusesFilms_245 rfl rfl ⟨Nat.le_of_ble_eq_true rfl, Nat.le_of_ble_eq_true rfl⟩ ⟨Nat.le_of_ble_eq_true rfl, Nat.le_of_ble_eq_true rfl⟩ (Nat.le_of_ble_eq_true rfl) (fun X' hX => KL_call hX)) rfl rfl rfl rfl ⟨Nat.le_of_ble_eq_true rfl, Nat.le_of_ble_eq_true rfl⟩ rfl hF (fun x146 h145 hF => ?_)
                        refine jj_bipush (v := (-11 : Int32)) (pc' := 250) dL_refusesFilms_248 rfl rfl ?_
                        refine jj_icmp_ne (tgt := 315) (pc' := 253) dL_refusesFilms_250 rfl rfl (fun hc hF => ?_) (fun hc hF => ?_) hF
                        · skip
                          refine jj_iconst (v := (0 : Int32)) (pc' := 316) dL_refusesFilms_315 rfl rfl ?_
                          exact jj_retI (ty := .boolean) rfl rfl dL_refusesFilms_316 ⟨Nat.le_of_ble_eq_true rfl, Nat.le_of_ble_eq_true rfl⟩ hF
                        · skip
                          refine jj_aload_n (j := 3) (i := 0) (pc' := 254) dL_refusesFilms_253 rfl rfl rfl ?_
                          refine jj_bipush (v := (22 : Int32)) (pc' := 256) dL_refusesFilms_254 rfl rfl ?_
                          refine jj_iload_n (j := 2) (i := 2) (pc' := 257) dL_refusesFilms_256 rfl rfl rfl ?_
                          refine jj_iconst (v := (0 : Int32)) (pc' := 258) dL_refusesFilms_257 rfl rfl ?_
                          refine jj_iconst (v := (-1 : Int32)) (pc' := 259) dL_refusesFilms_258 rfl rfl ?_
                          refine jj_ldc2l (v := (500 : Int64)) (pc' := 262) dL_refusesFilms_259 qw_78 rfl ?_
                          refine jj_cI (N := M_L_call) (kc' := 794) (ks' := 4764) (pc' := 265) (jg_H (N := M_L_call) (rest := []) (as := [.ref a0, .int ((22 : Int32)), .int x104, .int ((0 : Int32)), .int ((-1 : Int32)), .long ((500 : Int64))]) cf_L_119 (by decide) dL_refusesFilms_262 rfl rfl ⟨Nat.le_of_ble_eq_true rfl, Nat.le_of_ble_eq_true rfl⟩ ⟨Nat.le_of_ble_eq_true rfl, Nat.le_of_ble_eq_true rfl⟩ (Nat.le_of_ble_eq_true rfl) (fun X' hX => KL_call hX)) rfl rfl rfl rfl ⟨Nat.le_of_ble_eq_true rfl, Nat.le_of_ble_eq_true rfl⟩ rfl hF (fun x148 h147 hF => ?_)
                          refine jj_bipush (v := (-11 : Int32)) (pc' := 267) dL_refusesFilms_265 rfl rfl ?_
                          refine jj_icmp_ne (tgt := 315) (pc' := 270) dL_refusesFilms_267 rfl rfl (fun hc hF => ?_) (fun hc hF => ?_) hF
                          · skip
                            refine jj_iconst (v := (0 : Int32)) (pc' := 316) dL_refusesFilms_315 rfl rfl ?_
                            exact jj_retI (ty := .boolean) rfl rfl dL_refusesFilms_316 ⟨Nat.le_of_ble_eq_true rfl, Nat.le_of_ble_eq_true rfl⟩ hF
                          · skip
                            refine jj_aload_n (j := 3) (i := 0) (pc' := 271) dL_refusesFilms_270 rfl rfl rfl ?_
                            refine jj_bipush (v := (23 : Int32)) (pc' := 273) dL_refusesFilms_271 rfl rfl ?_
                            refine jj_iload_n (j := 2) (i := 2) (pc' := 274) dL_refusesFilms_273 rfl rfl rfl ?_
                            refine jj_iconst (v := (0 : Int32)) (pc' := 275) dL_refusesFilms_274 rfl rfl ?_
                            refine jj_iconst (v := (-1 : Int32)) (pc' := 276) dL_refusesFilms_275 rfl rfl ?_
                            refine jj_lconst (v := (0 : Int64)) (pc' := 277) dL_refusesFilms_276 rfl rfl ?_
                            refine jj_cI (N := M_L_call) (kc' := 855) (ks' := 5130) (pc' := 280) (jg_H (N := M_L_call) (rest := []) (as := [.ref a0, .int ((23 : Int32)), .int x104, .int ((0 : Int32)), .int ((-1 : Int32)), .long ((0 : Int64))]) cf_L_119 (by decide) dL_refusesFilms_277 rfl rfl ⟨Nat.le_of_ble_eq_true rfl, Nat.le_of_ble_eq_true rfl⟩ ⟨Nat.le_of_ble_eq_true rfl, Nat.le_of_ble_eq_true rfl⟩ (Nat.le_of_ble_eq_true rfl) (fun X' hX => KL_call hX)) rfl rfl rfl rfl ⟨Nat.le_of_ble_eq_true rfl, Nat.le_of_ble_eq_true rfl⟩ rfl hF (fun x150 h149 hF => ?_)
                            refine jj_bipush (v := (-11 : Int32)) (pc' := 282) dL_refusesFilms_280 rfl rfl ?_
                            refine jj_icmp_ne (tgt := 315) (pc' := 285) dL_refusesFilms_282 rfl rfl (fun hc hF => ?_) (fun hc hF => ?_) hF
                            · skip
                              refine jj_iconst (v := (0 : Int32)) (pc' := 316) dL_refusesFilms_315 rfl rfl ?_
                              exact jj_retI (ty := .boolean) rfl rfl dL_refusesFilms_316 ⟨Nat.le_of_ble_eq_true rfl, Nat.le_of_ble_eq_true rfl⟩ hF
                            · skip
                              refine jj_aload_n (j := 3) (i := 0) (pc' := 286) dL_refusesFilms_285 rfl rfl rfl ?_
                              refine jj_bipush (v := (24 : Int32)) (pc' := 288) dL_refusesFilms_286 rfl rfl ?_
                              refine jj_iload_n (j := 2) (i := 2) (pc' := 289) dL_refusesFilms_288 rfl rfl rfl ?_
                              refine jj_iconst (v := (-1 : Int32)) (pc' := 290) dL_refusesFilms_289 rfl rfl ?_
                              refine jj_iconst (v := (0 : Int32)) (pc' := 291) dL_refusesFilms_290 rfl rfl ?_
                              refine jj_lconst (v := (0 : Int64)) (pc' := 292) dL_refusesFilms_291 rfl rfl ?_
                              refine jj_cI (N := M_L_call) (kc' := 916) (ks' := 5496) (pc' := 295) (jg_H (N := M_L_call) (rest := []) (as := [.ref a0, .int ((24 : Int32)), .int x104, .int ((-1 : Int32)), .int ((0 : Int32)), .long ((0 : Int64))]) cf_L_119 (by decide) dL_refusesFilms_292 rfl rfl ⟨Nat.le_of_ble_eq_true rfl, Nat.le_of_ble_eq_true rfl⟩ ⟨Nat.le_of_ble_eq_true rfl, Nat.le_of_ble_eq_true rfl⟩ (Nat.le_of_ble_eq_true rfl) (fun X' hX => KL_call hX)) rfl rfl rfl rfl ⟨Nat.le_of_ble_eq_true rfl, Nat.le_of_ble_eq_true rfl⟩ rfl hF (fun x152 h151 hF => ?_)
                              refine jj_bipush (v := (-11 : Int32)) (pc' := 297) dL_refusesFilms_295 rfl rfl ?_
                              refine jj_icmp_ne (tgt := 315) (pc' := 300) dL_refusesFilms_297 rfl rfl (fun hc hF => ?_) (fun hc hF => ?_) hF
                              · skip
                                refine jj_iconst (v := (0 : Int32)) (pc' := 316) dL_refusesFilms_315 rfl rfl ?_
                                exact jj_retI (ty := .boolean) rfl rfl dL_refusesFilms_316 ⟨Nat.le_of_ble_eq_true rfl, Nat.le_of_ble_eq_true rfl⟩ hF
                              · skip
                                refine jj_aload_n (j := 3) (i := 0) (pc' := 301) dL_refusesFilms_300 rfl rfl rfl ?_
                                refine jj_bipush (v := (25 : Int32)) (pc' := 303) dL_refusesFilms_301 rfl rfl ?_
                                refine jj_iload_n (j := 2) (i := 2) (pc' := 304) dL_refusesFilms_303 rfl rfl rfl ?_
                                refine jj_iconst (v := (0 : Int32)) (pc' := 305) dL_refusesFilms_304 rfl rfl ?_
                                refine jj_iconst (v := (-1 : Int32)) (pc' := 306) dL_refusesFilms_305 rfl rfl ?_
                                refine jj_lconst (v := (0 : Int64)) (pc' := 307) dL_refusesFilms_306 rfl rfl ?_
                                refine jj_cI (N := M_L_call) (kc' := 977) (ks' := 5862) (pc' := 310) (jg_H (N := M_L_call) (rest := []) (as := [.ref a0, .int ((25 : Int32)), .int x104, .int ((0 : Int32)), .int ((-1 : Int32)), .long ((0 : Int64))]) cf_L_119 (by decide) dL_refusesFilms_307 rfl rfl ⟨Nat.le_of_ble_eq_true rfl, Nat.le_of_ble_eq_true rfl⟩ ⟨Nat.le_of_ble_eq_true rfl, Nat.le_of_ble_eq_true rfl⟩ (Nat.le_of_ble_eq_true rfl) (fun X' hX => KL_call hX)) rfl rfl rfl rfl ⟨Nat.le_of_ble_eq_true rfl, Nat.le_of_ble_eq_true rfl⟩ rfl hF (fun x154 h153 hF => ?_)
                                refine jj_bipush (v := (-11 : Int32)) (pc' := 312) dL_refusesFilms_310 rfl rfl ?_
                                refine jj_icmp_eq (tgt := 317) (pc' := 315) dL_refusesFilms_312 rfl rfl (fun hc hF => ?_) (fun hc hF => ?_) hF
                                · skip
                                  refine jj_aload_n (j := 3) (i := 0) (pc' := 318) dL_refusesFilms_317 rfl rfl rfl ?_
                                  refine jj_iconst (v := (0 : Int32)) (pc' := 319) dL_refusesFilms_318 rfl rfl ?_
                                  refine jj_cI (N := M_X3_count) (kc' := 978) (ks' := 5868) (pc' := 322) (jg_V (N := M_X3_count) (ci := 3) (rest := []) (as := [.int ((0 : Int32))]) cf_L_81 dL_refusesFilms_319 ⟨rfl, rfl⟩ rfl rfl ⟨Nat.le_of_ble_eq_true rfl, Nat.le_of_ble_eq_true rfl⟩ ⟨Nat.le_of_ble_eq_true rfl, Nat.le_of_ble_eq_true rfl⟩ (Nat.le_of_ble_eq_true rfl) (fun X' hX => KX3_count hX)) rfl rfl rfl rfl ⟨Nat.le_of_ble_eq_true rfl, Nat.le_of_ble_eq_true rfl⟩ rfl hF (fun x156 h155 hF => ?_)
                                  refine jj_if_le (tgt := 614) (pc' := 325) dL_refusesFilms_322 rfl rfl (fun hc hF => ?_) (fun hc hF => ?_) hF
                                  · skip
                                    refine jj_aload_n (j := 3) (i := 0) (pc' := 615) dL_refusesFilms_614 rfl rfl rfl ?_
                                    refine jj_bipush (v := (17 : Int32)) (pc' := 617) dL_refusesFilms_615 rfl rfl ?_
                                    refine jj_iload_n (j := 1) (i := 3) (pc' := 618) dL_refusesFilms_617 rfl rfl rfl ?_
                                    refine jj_iconst (v := (-1 : Int32)) (pc' := 619) dL_refusesFilms_618 rfl rfl ?_
                                    refine jj_iconst (v := (0 : Int32)) (pc' := 620) dL_refusesFilms_619 rfl rfl ?_
                                    refine jj_lconst (v := (0 : Int64)) (pc' := 621) dL_refusesFilms_620 rfl rfl ?_
                                    refine jj_cI (N := M_L_call) (kc' := 1039) (ks' := 6234) (pc' := 624) (jg_H (N := M_L_call) (rest := []) (as := [.ref a0, .int ((17 : Int32)), .int x106, .int ((-1 : Int32)), .int ((0 : Int32)), .long ((0 : Int64))]) cf_L_119 (by decide) dL_refusesFilms_621 rfl rfl ⟨Nat.le_of_ble_eq_true rfl, Nat.le_of_ble_eq_true rfl⟩ ⟨Nat.le_of_ble_eq_true rfl, Nat.le_of_ble_eq_true rfl⟩ (Nat.le_of_ble_eq_true rfl) (fun X' hX => KL_call hX)) rfl rfl rfl rfl ⟨Nat.le_of_ble_eq_true rfl, Nat.le_of_ble_eq_true rfl⟩ rfl hF (fun x158 h157 hF => ?_)
                                    refine jj_bipush (v := (-11 : Int32)) (pc' := 626) dL_refusesFilms_624 rfl rfl ?_
                                    refine jj_icmp_ne (tgt := 721) (pc' := 629) dL_refusesFilms_626 rfl rfl (fun hc hF => ?_) (fun hc hF => ?_) hF
                                    · skip
                                      refine jj_iconst (v := (0 : Int32)) (pc' := 722) dL_refusesFilms_721 rfl rfl ?_
                                      exact jj_retI (ty := .boolean) rfl rfl dL_refusesFilms_722 ⟨Nat.le_of_ble_eq_true rfl, Nat.le_of_ble_eq_true rfl⟩ hF
                                    · skip
                                      refine jj_aload_n (j := 3) (i := 0) (pc' := 630) dL_refusesFilms_629 rfl rfl rfl ?_
                                      refine jj_bipush (v := (17 : Int32)) (pc' := 632) dL_refusesFilms_630 rfl rfl ?_
                                      refine jj_iconst (v := (2 : Int32)) (pc' := 633) dL_refusesFilms_632 rfl rfl ?_
                                      refine jj_iload (j := 0) (i := 4) (pc' := 635) dL_refusesFilms_633 rfl rfl ?_
                                      refine jj_iconst (v := (0 : Int32)) (pc' := 636) dL_refusesFilms_635 rfl rfl ?_
                                      refine jj_lconst (v := (0 : Int64)) (pc' := 637) dL_refusesFilms_636 rfl rfl ?_
                                      refine jj_cI (N := M_L_call) (kc' := 1100) (ks' := 6600) (pc' := 640) (jg_H (N := M_L_call) (rest := []) (as := [.ref a0, .int ((17 : Int32)), .int ((2 : Int32)), .int x108, .int ((0 : Int32)), .long ((0 : Int64))]) cf_L_119 (by decide) dL_refusesFilms_637 rfl rfl ⟨Nat.le_of_ble_eq_true rfl, Nat.le_of_ble_eq_true rfl⟩ ⟨Nat.le_of_ble_eq_true rfl, Nat.le_of_ble_eq_true rfl⟩ (Nat.le_of_ble_eq_true rfl) (fun X' hX => KL_call hX)) rfl rfl rfl rfl ⟨Nat.le_of_ble_eq_true rfl, Nat.le_of_ble_eq_true rfl⟩ rfl hF (fun x160 h159 hF => ?_)
                                      refine jj_bipush (v := (-12 : Int32)) (pc' := 642) dL_refusesFilms_640 rfl rfl ?_
                                      refine jj_icmp_ne (tgt := 721) (pc' := 645) dL_refusesFilms_642 rfl rfl (fun hc hF => ?_) (fun hc hF => ?_) hF
                                      · skip
                                        refine jj_iconst (v := (0 : Int32)) (pc' := 722) dL_refusesFilms_721 rfl rfl ?_
                                        exact jj_retI (ty := .boolean) rfl rfl dL_refusesFilms_722 ⟨Nat.le_of_ble_eq_true rfl, Nat.le_of_ble_eq_true rfl⟩ hF
                                      · skip
                                        refine jj_aload_n (j := 3) (i := 0) (pc' := 646) dL_refusesFilms_645 rfl rfl rfl ?_
                                        refine jj_bipush (v := (18 : Int32)) (pc' := 648) dL_refusesFilms_646 rfl rfl ?_
                                        refine jj_iload_n (j := 1) (i := 3) (pc' := 649) dL_refusesFilms_648 rfl rfl rfl ?_
                                        refine jj_bipush (v := (9 : Int32)) (pc' := 651) dL_refusesFilms_649 rfl rfl ?_
                                        refine jj_iconst (v := (0 : Int32)) (pc' := 652) dL_refusesFilms_651 rfl rfl ?_
                                        refine jj_lconst (v := (0 : Int64)) (pc' := 653) dL_refusesFilms_652 rfl rfl ?_
                                        refine jj_cI (N := M_L_call) (kc' := 1161) (ks' := 6966) (pc' := 656) (jg_H (N := M_L_call) (rest := []) (as := [.ref a0, .int ((18 : Int32)), .int x106, .int ((9 : Int32)), .int ((0 : Int32)), .long ((0 : Int64))]) cf_L_119 (by decide) dL_refusesFilms_653 rfl rfl ⟨Nat.le_of_ble_eq_true rfl, Nat.le_of_ble_eq_true rfl⟩ ⟨Nat.le_of_ble_eq_true rfl, Nat.le_of_ble_eq_true rfl⟩ (Nat.le_of_ble_eq_true rfl) (fun X' hX => KL_call hX)) rfl rfl rfl rfl ⟨Nat.le_of_ble_eq_true rfl, Nat.le_of_ble_eq_true rfl⟩ rfl hF (fun x162 h161 hF => ?_)
                                        refine jj_bipush (v := (-11 : Int32)) (pc' := 658) dL_refusesFilms_656 rfl rfl ?_
                                        refine jj_icmp_ne (tgt := 721) (pc' := 661) dL_refusesFilms_658 rfl rfl (fun hc hF => ?_) (fun hc hF => ?_) hF
                                        · skip
                                          refine jj_iconst (v := (0 : Int32)) (pc' := 722) dL_refusesFilms_721 rfl rfl ?_
                                          exact jj_retI (ty := .boolean) rfl rfl dL_refusesFilms_722 ⟨Nat.le_of_ble_eq_true rfl, Nat.le_of_ble_eq_true rfl⟩ hF
                                        · skip
                                          refine jj_aload_n (j := 3) (i := 0) (pc' := 662) dL_refusesFilms_661 rfl rfl rfl ?_
                                          refine jj_bipush (v := (18 : Int32)) (pc' := 664) dL_refusesFilms_662 rfl rfl ?_
                                          refine jj_iconst (v := (0 : Int32)) (pc' := 665) dL_refusesFilms_664 rfl rfl ?_
                                          refine jj_iload_n (j := 4) (i := 1) (pc' := 666) dL_refusesFilms_665 rfl rfl rfl ?_
                                          refine jj_iconst (v := (0 : Int32)) (pc' := 667) dL_refusesFilms_666 rfl rfl ?_
                                          refine jj_iconst (v := (4 : Int32)) (pc' := 668) dL_refusesFilms_667 rfl rfl ?_
                                          refine jj_cI (N := M_L_far) (kc' := 1161) (ks' := 6966) (pc' := 671) (jg_S (N := M_L_far) (rest := [.int ((0 : Int32)), .int ((18 : Int32)), .ref a0]) (as := [.int x1, .int ((0 : Int32)), .int ((4 : Int32))]) cf_L_114 rfl dL_refusesFilms_668 rfl rfl ⟨Nat.le_of_ble_eq_true rfl, Nat.le_of_ble_eq_true rfl⟩ ⟨Nat.le_of_ble_eq_true rfl, Nat.le_of_ble_eq_true rfl⟩ (Nat.le_of_ble_eq_true rfl) (fun X' hX => KL_far hX)) rfl rfl rfl rfl ⟨Nat.le_of_ble_eq_true rfl, Nat.le_of_ble_eq_true rfl⟩ rfl hF (fun x164 h163 hF => ?_)
                                          refine jj_iconst (v := (0 : Int32)) (pc' := 672) dL_refusesFilms_671 rfl rfl ?_
                                          refine jj_lconst (v := (0 : Int64)) (pc' := 673) dL_refusesFilms_672 rfl rfl ?_
                                          refine jj_cI (N := M_L_call) (kc' := 1222) (ks' := 7332) (pc' := 676) (jg_H (N := M_L_call) (rest := []) (as := [.ref a0, .int ((18 : Int32)), .int ((0 : Int32)), .int x164, .int ((0 : Int32)), .long ((0 : Int64))]) cf_L_119 (by decide) dL_refusesFilms_673 rfl rfl ⟨Nat.le_of_ble_eq_true rfl, Nat.le_of_ble_eq_true rfl⟩ ⟨Nat.le_of_ble_eq_true rfl, Nat.le_of_ble_eq_true rfl⟩ (Nat.le_of_ble_eq_true rfl) (fun X' hX => KL_call hX)) rfl rfl rfl rfl ⟨Nat.le_of_ble_eq_true rfl, Nat.le_of_ble_eq_true rfl⟩ rfl hF (fun x166 h165 hF => ?_)
                                          refine jj_bipush (v := (-12 : Int32)) (pc' := 678) dL_refusesFilms_676 rfl rfl ?_
                                          refine jj_icmp_ne (tgt := 721) (pc' := 681) dL_refusesFilms_678 rfl rfl (fun hc hF => ?_) (fun hc hF => ?_) hF
                                          · skip
                                            refine jj_iconst (v := (0 : Int32)) (pc' := 722) dL_refusesFilms_721 rfl rfl ?_
                                            exact jj_retI (ty := .boolean) rfl rfl dL_refusesFilms_722 ⟨Nat.le_of_ble_eq_true rfl, Nat.le_of_ble_eq_true rfl⟩ hF
                                          · skip
                                            refine jj_aload_n (j := 3) (i := 0) (pc' := 682) dL_refusesFilms_681 rfl rfl rfl ?_
                                            refine jj_bipush (v := (21 : Int32)) (pc' := 684) dL_refusesFilms_682 rfl rfl ?_
                                            refine jj_iload_n (j := 4) (i := 1) (pc' := 685) dL_refusesFilms_684 rfl rfl rfl ?_
                                            refine jj_iconst (v := (0 : Int32)) (pc' := 686) dL_refusesFilms_685 rfl rfl ?_
                                            refine jj_bipush (v := (11 : Int32)) (pc' := 688) dL_refusesFilms_686 rfl rfl ?_
                                            refine jj_cI (N := M_L_far) (kc' := 1222) (ks' := 7332) (pc' := 691) (jg_S (N := M_L_far) (rest := [.int ((21 : Int32)), .ref a0]) (as := [.int x1, .int ((0 : Int32)), .int ((11 : Int32))]) cf_L_114 rfl dL_refusesFilms_688 rfl rfl ⟨Nat.le_of_ble_eq_true rfl, Nat.le_of_ble_eq_true rfl⟩ ⟨Nat.le_of_ble_eq_true rfl, Nat.le_of_ble_eq_true rfl⟩ (Nat.le_of_ble_eq_true rfl) (fun X' hX => KL_far hX)) rfl rfl rfl rfl ⟨Nat.le_of_ble_eq_true rfl, Nat.le_of_ble_eq_true rfl⟩ rfl hF (fun x168 h167 hF => ?_)
                                            refine jj_iconst (v := (0 : Int32)) (pc' := 692) dL_refusesFilms_691 rfl rfl ?_
                                            refine jj_iconst (v := (0 : Int32)) (pc' := 693) dL_refusesFilms_692 rfl rfl ?_
                                            refine jj_lconst (v := (0 : Int64)) (pc' := 694) dL_refusesFilms_693 rfl rfl ?_
                                            refine jj_cI (N := M_L_call) (kc' := 1283) (ks' := 7698) (pc' := 697) (jg_H (N := M_L_call) (rest := []) (as := [.ref a0, .int ((21 : Int32)), .int x168, .int ((0 : Int32)), .int ((0 : Int32)), .long ((0 : Int64))]) cf_L_119 (by decide) dL_refusesFilms_694 rfl rfl ⟨Nat.le_of_ble_eq_true rfl, Nat.le_of_ble_eq_true rfl⟩ ⟨Nat.le_of_ble_eq_true rfl, Nat.le_of_ble_eq_true rfl⟩ (Nat.le_of_ble_eq_true rfl) (fun X' hX => KL_call hX)) rfl rfl rfl rfl ⟨Nat.le_of_ble_eq_true rfl, Nat.le_of_ble_eq_true rfl⟩ rfl hF (fun x170 h169 hF => ?_)
                                            refine jj_bipush (v := (-12 : Int32)) (pc' := 699) dL_refusesFilms_697 rfl rfl ?_
                                            refine jj_icmp_ne (tgt := 721) (pc' := 702) dL_refusesFilms_699 rfl rfl (fun hc hF => ?_) (fun hc hF => ?_) hF
                                            · skip
                                              refine jj_iconst (v := (0 : Int32)) (pc' := 722) dL_refusesFilms_721 rfl rfl ?_
                                              exact jj_retI (ty := .boolean) rfl rfl dL_refusesFilms_722 ⟨Nat.le_of_ble_eq_true rfl, Nat.le_of_ble_eq_true rfl⟩ hF
                                            · skip
                                              refine jj_aload_n (j := 3) (i := 0) (pc' := 703) dL_refusesFilms_702 rfl rfl rfl ?_
                                              refine jj_bipush (v := (26 : Int32)) (pc' := 705) dL_refusesFilms_703 rfl rfl ?_
                                              refine jj_iload_n (j := 1) (i := 3) (pc' := 706) dL_refusesFilms_705 rfl rfl rfl ?_
                                              refine jj_iconst (v := (0 : Int32)) (pc' := 707) dL_refusesFilms_706 rfl rfl ?_
                                              refine jj_iconst (v := (0 : Int32)) (pc' := 708) dL_refusesFilms_707 rfl rfl ?_
                                              refine jj_lconst (v := (0 : Int64)) (pc' := 709) dL_refusesFilms_708 rfl rfl ?_
                                              refine jj_cI (N := M_L_call) (kc' := 1344) (ks' := 8064) (pc' := 712) (jg_H (N := M_L_call) (rest := []) (as := [.ref a0, .int ((26 : Int32)), .int x106, .int ((0 : Int32)), .int ((0 : Int32)), .long ((0 : Int64))]) cf_L_119 (by decide) dL_refusesFilms_709 rfl rfl ⟨Nat.le_of_ble_eq_true rfl, Nat.le_of_ble_eq_true rfl⟩ ⟨Nat.le_of_ble_eq_true rfl, Nat.le_of_ble_eq_true rfl⟩ (Nat.le_of_ble_eq_true rfl) (fun X' hX => KL_call hX)) rfl rfl rfl rfl ⟨Nat.le_of_ble_eq_true rfl, Nat.le_of_ble_eq_true rfl⟩ rfl hF (fun x172 h171 hF => ?_)
                                              refine jj_bipush (v := (-11 : Int32)) (pc' := 714) dL_refusesFilms_712 rfl rfl ?_
                                              refine jj_icmp_ne (tgt := 721) (pc' := 717) dL_refusesFilms_714 rfl rfl (fun hc hF => ?_) (fun hc hF => ?_) hF
                                              · skip
                                                refine jj_iconst (v := (0 : Int32)) (pc' := 722) dL_refusesFilms_721 rfl rfl ?_
                                                exact jj_retI (ty := .boolean) rfl rfl dL_refusesFilms_722 ⟨Nat.le_of_ble_eq_true rfl, Nat.le_of_ble_eq_true rfl⟩ hF
                                              · skip
                                                refine jj_iconst (v := (1 : Int32)) (pc' := 718) dL_refusesFilms_717 rfl rfl ?_
                                                refine jj_goto (tgt := 722) dL_refusesFilms_718 rfl ?_
                                                exact jj_retI (ty := .boolean) rfl rfl dL_refusesFilms_722 ⟨Nat.le_of_ble_eq_true rfl, Nat.le_of_ble_eq_true rfl⟩ hF
                                  · skip
                                    refine jj_aload_n (j := 3) (i := 0) (pc' := 326) dL_refusesFilms_325 rfl rfl rfl ?_
                                    refine jj_iconst (v := (3 : Int32)) (pc' := 327) dL_refusesFilms_326 rfl rfl ?_
                                    refine jj_iconst (v := (0 : Int32)) (pc' := 328) dL_refusesFilms_327 rfl rfl ?_
                                    refine jj_iload_n (j := 1) (i := 3) (pc' := 329) dL_refusesFilms_328 rfl rfl rfl ?_
                                    refine jj_iconst (v := (-1 : Int32)) (pc' := 330) dL_refusesFilms_329 rfl rfl ?_
                                    refine jj_ldc2l (v := (500 : Int64)) (pc' := 333) dL_refusesFilms_330 qw_78 rfl ?_
                                    refine jj_cI (N := M_L_call) (kc' := 1039) (ks' := 6234) (pc' := 336) (jg_H (N := M_L_call) (rest := []) (as := [.ref a0, .int ((3 : Int32)), .int ((0 : Int32)), .int x106, .int ((-1 : Int32)), .long ((500 : Int64))]) cf_L_119 (by decide) dL_refusesFilms_333 rfl rfl ⟨Nat.le_of_ble_eq_true rfl, Nat.le_of_ble_eq_true rfl⟩ ⟨Nat.le_of_ble_eq_true rfl, Nat.le_of_ble_eq_true rfl⟩ (Nat.le_of_ble_eq_true rfl) (fun X' hX => KL_call hX)) rfl rfl rfl rfl ⟨Nat.le_of_ble_eq_true rfl, Nat.le_of_ble_eq_true rfl⟩ rfl hF (fun x174 h173 hF => ?_)
                                    refine jj_bipush (v := (-11 : Int32)) (pc' := 338) dL_refusesFilms_336 rfl rfl ?_
                                    refine jj_icmp_ne (tgt := 612) (pc' := 341) dL_refusesFilms_338 rfl rfl (fun hc hF => ?_) (fun hc hF => ?_) hF
                                    · skip
                                      refine jj_iconst (v := (0 : Int32)) (pc' := 613) dL_refusesFilms_612 rfl rfl ?_
                                      exact jj_retI (ty := .boolean) rfl rfl dL_refusesFilms_613 ⟨Nat.le_of_ble_eq_true rfl, Nat.le_of_ble_eq_true rfl⟩ hF
                                    · skip
                                      refine jj_aload_n (j := 3) (i := 0) (pc' := 342) dL_refusesFilms_341 rfl rfl rfl ?_
                                      refine jj_iconst (v := (3 : Int32)) (pc' := 343) dL_refusesFilms_342 rfl rfl ?_
                                      refine jj_iconst (v := (0 : Int32)) (pc' := 344) dL_refusesFilms_343 rfl rfl ?_
                                      refine jj_iconst (v := (0 : Int32)) (pc' := 345) dL_refusesFilms_344 rfl rfl ?_
                                      refine jj_iload (j := 0) (i := 4) (pc' := 347) dL_refusesFilms_345 rfl rfl ?_
                                      refine jj_ldc2l (v := (500 : Int64)) (pc' := 350) dL_refusesFilms_347 qw_78 rfl ?_
                                      refine jj_cI (N := M_L_call) (kc' := 1100) (ks' := 6600) (pc' := 353) (jg_H (N := M_L_call) (rest := []) (as := [.ref a0, .int ((3 : Int32)), .int ((0 : Int32)), .int ((0 : Int32)), .int x108, .long ((500 : Int64))]) cf_L_119 (by decide) dL_refusesFilms_350 rfl rfl ⟨Nat.le_of_ble_eq_true rfl, Nat.le_of_ble_eq_true rfl⟩ ⟨Nat.le_of_ble_eq_true rfl, Nat.le_of_ble_eq_true rfl⟩ (Nat.le_of_ble_eq_true rfl) (fun X' hX => KL_call hX)) rfl rfl rfl rfl ⟨Nat.le_of_ble_eq_true rfl, Nat.le_of_ble_eq_true rfl⟩ rfl hF (fun x176 h175 hF => ?_)
                                      refine jj_bipush (v := (-12 : Int32)) (pc' := 355) dL_refusesFilms_353 rfl rfl ?_
                                      refine jj_icmp_ne (tgt := 612) (pc' := 358) dL_refusesFilms_355 rfl rfl (fun hc hF => ?_) (fun hc hF => ?_) hF
                                      · skip
                                        refine jj_iconst (v := (0 : Int32)) (pc' := 613) dL_refusesFilms_612 rfl rfl ?_
                                        exact jj_retI (ty := .boolean) rfl rfl dL_refusesFilms_613 ⟨Nat.le_of_ble_eq_true rfl, Nat.le_of_ble_eq_true rfl⟩ hF
                                      · skip
                                        refine jj_aload_n (j := 3) (i := 0) (pc' := 359) dL_refusesFilms_358 rfl rfl rfl ?_
                                        refine jj_iconst (v := (3 : Int32)) (pc' := 360) dL_refusesFilms_359 rfl rfl ?_
                                        refine jj_iconst (v := (0 : Int32)) (pc' := 361) dL_refusesFilms_360 rfl rfl ?_
                                        refine jj_iconst (v := (0 : Int32)) (pc' := 362) dL_refusesFilms_361 rfl rfl ?_
                                        refine jj_iconst (v := (0 : Int32)) (pc' := 363) dL_refusesFilms_362 rfl rfl ?_
                                        refine jj_iload_n (j := 4) (i := 1) (pc' := 364) dL_refusesFilms_363 rfl rfl rfl ?_
                                        refine jj_if_ne (tgt := 373) (pc' := 367) dL_refusesFilms_364 rfl rfl (fun hc hF => ?_) (fun hc hF => ?_) hF
                                        · skip
                                          refine jj_ldc2l (v := (521 : Int64)) (pc' := 376) dL_refusesFilms_373 qw_79 rfl ?_
                                          refine jj_cI (N := M_L_call) (kc' := 1161) (ks' := 6966) (pc' := 379) (jg_H (N := M_L_call) (rest := []) (as := [.ref a0, .int ((3 : Int32)), .int ((0 : Int32)), .int ((0 : Int32)), .int ((0 : Int32)), .long ((521 : Int64))]) cf_L_119 (by decide) dL_refusesFilms_376 rfl rfl ⟨Nat.le_of_ble_eq_true rfl, Nat.le_of_ble_eq_true rfl⟩ ⟨Nat.le_of_ble_eq_true rfl, Nat.le_of_ble_eq_true rfl⟩ (Nat.le_of_ble_eq_true rfl) (fun X' hX => KL_call hX)) rfl rfl rfl rfl ⟨Nat.le_of_ble_eq_true rfl, Nat.le_of_ble_eq_true rfl⟩ rfl hF (fun x178 h177 hF => ?_)
                                          refine jj_bipush (v := (-12 : Int32)) (pc' := 381) dL_refusesFilms_379 rfl rfl ?_
                                          refine jj_icmp_ne (tgt := 612) (pc' := 384) dL_refusesFilms_381 rfl rfl (fun hc hF => ?_) (fun hc hF => ?_) hF
                                          · skip
                                            refine jj_iconst (v := (0 : Int32)) (pc' := 613) dL_refusesFilms_612 rfl rfl ?_
                                            exact jj_retI (ty := .boolean) rfl rfl dL_refusesFilms_613 ⟨Nat.le_of_ble_eq_true rfl, Nat.le_of_ble_eq_true rfl⟩ hF
                                          · skip
                                            refine jj_aload_n (j := 3) (i := 0) (pc' := 385) dL_refusesFilms_384 rfl rfl rfl ?_
                                            refine jj_bipush (v := (6 : Int32)) (pc' := 387) dL_refusesFilms_385 rfl rfl ?_
                                            refine jj_iconst (v := (0 : Int32)) (pc' := 388) dL_refusesFilms_387 rfl rfl ?_
                                            refine jj_iload (j := 0) (i := 4) (pc' := 390) dL_refusesFilms_388 rfl rfl ?_
                                            refine jj_sipush (v := (2000 : Int32)) (pc' := 393) dL_refusesFilms_390 rfl rfl ?_
                                            refine jj_lconst (v := (0 : Int64)) (pc' := 394) dL_refusesFilms_393 rfl rfl ?_
                                            refine jj_cI (N := M_L_call) (kc' := 1222) (ks' := 7332) (pc' := 397) (jg_H (N := M_L_call) (rest := []) (as := [.ref a0, .int ((6 : Int32)), .int ((0 : Int32)), .int x108, .int ((2000 : Int32)), .long ((0 : Int64))]) cf_L_119 (by decide) dL_refusesFilms_394 rfl rfl ⟨Nat.le_of_ble_eq_true rfl, Nat.le_of_ble_eq_true rfl⟩ ⟨Nat.le_of_ble_eq_true rfl, Nat.le_of_ble_eq_true rfl⟩ (Nat.le_of_ble_eq_true rfl) (fun X' hX => KL_call hX)) rfl rfl rfl rfl ⟨Nat.le_of_ble_eq_true rfl, Nat.le_of_ble_eq_true rfl⟩ rfl hF (fun x180 h179 hF => ?_)
                                            refine jj_bipush (v := (-12 : Int32)) (pc' := 399) dL_refusesFilms_397 rfl rfl ?_
                                            refine jj_icmp_ne (tgt := 612) (pc' := 402) dL_refusesFilms_399 rfl rfl (fun hc hF => ?_) (fun hc hF => ?_) hF
                                            · skip
                                              refine jj_iconst (v := (0 : Int32)) (pc' := 613) dL_refusesFilms_612 rfl rfl ?_
                                              exact jj_retI (ty := .boolean) rfl rfl dL_refusesFilms_613 ⟨Nat.le_of_ble_eq_true rfl, Nat.le_of_ble_eq_true rfl⟩ hF
                                            · skip
                                              refine jj_aload_n (j := 3) (i := 0) (pc' := 403) dL_refusesFilms_402 rfl rfl rfl ?_
                                              refine jj_bipush (v := (6 : Int32)) (pc' := 405) dL_refusesFilms_403 rfl rfl ?_
                                              refine jj_iconst (v := (0 : Int32)) (pc' := 406) dL_refusesFilms_405 rfl rfl ?_
                                              refine jj_sipush (v := (700 : Int32)) (pc' := 409) dL_refusesFilms_406 rfl rfl ?_
                                              refine jj_iload_n (j := 4) (i := 1) (pc' := 410) dL_refusesFilms_409 rfl rfl rfl ?_
                                              refine jj_if_ne (tgt := 419) (pc' := 413) dL_refusesFilms_410 rfl rfl (fun hc hF => ?_) (fun hc hF => ?_) hF
                                              · skip
                                                refine jj_iload_n (j := 4) (i := 1) (pc' := 420) dL_refusesFilms_419 rfl rfl rfl ?_
                                                refine jj_iconst (v := (1 : Int32)) (pc' := 421) dL_refusesFilms_420 rfl rfl ?_
                                                refine jj_icmp_ne (tgt := 430) (pc' := 424) dL_refusesFilms_421 rfl rfl (fun hc hF => ?_) (fun hc hF => ?_) hF
                                                · skip
                                                  refine jj_iload_n (j := 4) (i := 1) (pc' := 431) dL_refusesFilms_430 rfl rfl rfl ?_
                                                  refine jj_iconst (v := (0 : Int32)) (pc' := 432) dL_refusesFilms_431 rfl rfl ?_
                                                  refine jj_iconst (v := (0 : Int32)) (pc' := 433) dL_refusesFilms_432 rfl rfl ?_
                                                  refine jj_cI (N := M_L_far) (kc' := 1222) (ks' := 7332) (pc' := 436) (jg_S (N := M_L_far) (rest := [.int ((700 : Int32)), .int ((0 : Int32)), .int ((6 : Int32)), .ref a0]) (as := [.int x1, .int ((0 : Int32)), .int ((0 : Int32))]) cf_L_114 rfl dL_refusesFilms_433 rfl rfl ⟨Nat.le_of_ble_eq_true rfl, Nat.le_of_ble_eq_true rfl⟩ ⟨Nat.le_of_ble_eq_true rfl, Nat.le_of_ble_eq_true rfl⟩ (Nat.le_of_ble_eq_true rfl) (fun X' hX => KL_far hX)) rfl rfl rfl rfl ⟨Nat.le_of_ble_eq_true rfl, Nat.le_of_ble_eq_true rfl⟩ rfl hF (fun x182 h181 hF => ?_)
                                                  refine jj_lconst (v := (0 : Int64)) (pc' := 437) dL_refusesFilms_436 rfl rfl ?_
                                                  refine jj_cI (N := M_L_call) (kc' := 1283) (ks' := 7698) (pc' := 440) (jg_H (N := M_L_call) (rest := []) (as := [.ref a0, .int ((6 : Int32)), .int ((0 : Int32)), .int ((700 : Int32)), .int x182, .long ((0 : Int64))]) cf_L_119 (by decide) dL_refusesFilms_437 rfl rfl ⟨Nat.le_of_ble_eq_true rfl, Nat.le_of_ble_eq_true rfl⟩ ⟨Nat.le_of_ble_eq_true rfl, Nat.le_of_ble_eq_true rfl⟩ (Nat.le_of_ble_eq_true rfl) (fun X' hX => KL_call hX)) rfl rfl rfl rfl ⟨Nat.le_of_ble_eq_true rfl, Nat.le_of_ble_eq_true rfl⟩ rfl hF (fun x184 h183 hF => ?_)
                                                  refine jj_bipush (v := (-12 : Int32)) (pc' := 442) dL_refusesFilms_440 rfl rfl ?_
                                                  refine jj_icmp_ne (tgt := 612) (pc' := 445) dL_refusesFilms_442 rfl rfl (fun hc hF => ?_) (fun hc hF => ?_) hF
                                                  · skip
                                                    refine jj_iconst (v := (0 : Int32)) (pc' := 613) dL_refusesFilms_612 rfl rfl ?_
                                                    exact jj_retI (ty := .boolean) rfl rfl dL_refusesFilms_613 ⟨Nat.le_of_ble_eq_true rfl, Nat.le_of_ble_eq_true rfl⟩ hF
                                                  · skip
                                                    refine jj_aload_n (j := 3) (i := 0) (pc' := 446) dL_refusesFilms_445 rfl rfl rfl ?_
                                                    refine jj_bipush (v := (14 : Int32)) (pc' := 448) dL_refusesFilms_446 rfl rfl ?_
                                                    refine jj_iconst (v := (0 : Int32)) (pc' := 449) dL_refusesFilms_448 rfl rfl ?_
                                                    refine jj_iload_n (j := 4) (i := 1) (pc' := 450) dL_refusesFilms_449 rfl rfl rfl ?_
                                                    refine jj_iconst (v := (0 : Int32)) (pc' := 451) dL_refusesFilms_450 rfl rfl ?_
                                                    refine jj_iconst (v := (5 : Int32)) (pc' := 452) dL_refusesFilms_451 rfl rfl ?_
                                                    refine jj_cI (N := M_L_far) (kc' := 1283) (ks' := 7698) (pc' := 455) (jg_S (N := M_L_far) (rest := [.int ((0 : Int32)), .int ((14 : Int32)), .ref a0]) (as := [.int x1, .int ((0 : Int32)), .int ((5 : Int32))]) cf_L_114 rfl dL_refusesFilms_452 rfl rfl ⟨Nat.le_of_ble_eq_true rfl, Nat.le_of_ble_eq_true rfl⟩ ⟨Nat.le_of_ble_eq_true rfl, Nat.le_of_ble_eq_true rfl⟩ (Nat.le_of_ble_eq_true rfl) (fun X' hX => KL_far hX)) rfl rfl rfl rfl ⟨Nat.le_of_ble_eq_true rfl, Nat.le_of_ble_eq_true rfl⟩ rfl hF (fun x186 h185 hF => ?_)
                                                    refine jj_iconst (v := (0 : Int32)) (pc' := 456) dL_refusesFilms_455 rfl rfl ?_
                                                    refine jj_lconst (v := (0 : Int64)) (pc' := 457) dL_refusesFilms_456 rfl rfl ?_
                                                    refine jj_cI (N := M_L_call) (kc' := 1344) (ks' := 8064) (pc' := 460) (jg_H (N := M_L_call) (rest := []) (as := [.ref a0, .int ((14 : Int32)), .int ((0 : Int32)), .int x186, .int ((0 : Int32)), .long ((0 : Int64))]) cf_L_119 (by decide) dL_refusesFilms_457 rfl rfl ⟨Nat.le_of_ble_eq_true rfl, Nat.le_of_ble_eq_true rfl⟩ ⟨Nat.le_of_ble_eq_true rfl, Nat.le_of_ble_eq_true rfl⟩ (Nat.le_of_ble_eq_true rfl) (fun X' hX => KL_call hX)) rfl rfl rfl rfl ⟨Nat.le_of_ble_eq_true rfl, Nat.le_of_ble_eq_true rfl⟩ rfl hF (fun x188 h187 hF => ?_)
                                                    refine jj_bipush (v := (-12 : Int32)) (pc' := 462) dL_refusesFilms_460 rfl rfl ?_
                                                    refine jj_icmp_ne (tgt := 612) (pc' := 465) dL_refusesFilms_462 rfl rfl (fun hc hF => ?_) (fun hc hF => ?_) hF
                                                    · skip
                                                      refine jj_iconst (v := (0 : Int32)) (pc' := 613) dL_refusesFilms_612 rfl rfl ?_
                                                      exact jj_retI (ty := .boolean) rfl rfl dL_refusesFilms_613 ⟨Nat.le_of_ble_eq_true rfl, Nat.le_of_ble_eq_true rfl⟩ hF
                                                    · skip
                                                      refine jj_aload_n (j := 3) (i := 0) (pc' := 466) dL_refusesFilms_465 rfl rfl rfl ?_
                                                      refine jj_bipush (v := (22 : Int32)) (pc' := 468) dL_refusesFilms_466 rfl rfl ?_
                                                      refine jj_iconst (v := (0 : Int32)) (pc' := 469) dL_refusesFilms_468 rfl rfl ?_
                                                      refine jj_iload_n (j := 1) (i := 3) (pc' := 470) dL_refusesFilms_469 rfl rfl rfl ?_
                                                      refine jj_iconst (v := (-1 : Int32)) (pc' := 471) dL_refusesFilms_470 rfl rfl ?_
                                                      refine jj_ldc2l (v := (500 : Int64)) (pc' := 474) dL_refusesFilms_471 qw_78 rfl ?_
                                                      refine jj_cI (N := M_L_call) (kc' := 1405) (ks' := 8430) (pc' := 477) (jg_H (N := M_L_call) (rest := []) (as := [.ref a0, .int ((22 : Int32)), .int ((0 : Int32)), .int x106, .int ((-1 : Int32)), .long ((500 : Int64))]) cf_L_119 (by decide) dL_refusesFilms_474 rfl rfl ⟨Nat.le_of_ble_eq_true rfl, Nat.le_of_ble_eq_true rfl⟩ ⟨Nat.le_of_ble_eq_true rfl, Nat.le_of_ble_eq_true rfl⟩ (Nat.le_of_ble_eq_true rfl) (fun X' hX => KL_call hX)) rfl rfl rfl rfl ⟨Nat.le_of_ble_eq_true rfl, Nat.le_of_ble_eq_true rfl⟩ rfl hF (fun x190 h189 hF => ?_)
                                                      refine jj_bipush (v := (-11 : Int32)) (pc' := 479) dL_refusesFilms_477 rfl rfl ?_
                                                      refine jj_icmp_ne (tgt := 612) (pc' := 482) dL_refusesFilms_479 rfl rfl (fun hc hF => ?_) (fun hc hF => ?_) hF
                                                      · skip
                                                        refine jj_iconst (v := (0 : Int32)) (pc' := 613) dL_refusesFilms_612 rfl rfl ?_
                                                        exact jj_retI (ty := .boolean) rfl rfl dL_refusesFilms_613 ⟨Nat.le_of_ble_eq_true rfl, Nat.le_of_ble_eq_true rfl⟩ hF
                                                      · skip
                                                        refine jj_aload_n (j := 3) (i := 0) (pc' := 483) dL_refusesFilms_482 rfl rfl rfl ?_
                                                        refine jj_bipush (v := (22 : Int32)) (pc' := 485) dL_refusesFilms_483 rfl rfl ?_
                                                        refine jj_iconst (v := (0 : Int32)) (pc' := 486) dL_refusesFilms_485 rfl rfl ?_
                                                        refine jj_iconst (v := (2 : Int32)) (pc' := 487) dL_refusesFilms_486 rfl rfl ?_
                                                        refine jj_iload (j := 0) (i := 4) (pc' := 489) dL_refusesFilms_487 rfl rfl ?_
                                                        refine jj_ldc2l (v := (500 : Int64)) (pc' := 492) dL_refusesFilms_489 qw_78 rfl ?_
                                                        refine jj_cI (N := M_L_call) (kc' := 1466) (ks' := 8796) (pc' := 495) (jg_H (N := M_L_call) (rest := []) (as := [.ref a0, .int ((22 : Int32)), .int ((0 : Int32)), .int ((2 : Int32)), .int x108, .long ((500 : Int64))]) cf_L_119 (by decide) dL_refusesFilms_492 rfl rfl ⟨Nat.le_of_ble_eq_true rfl, Nat.le_of_ble_eq_true rfl⟩ ⟨Nat.le_of_ble_eq_true rfl, Nat.le_of_ble_eq_true rfl⟩ (Nat.le_of_ble_eq_true rfl) (fun X' hX => KL_call hX)) rfl rfl rfl rfl ⟨Nat.le_of_ble_eq_true rfl, Nat.le_of_ble_eq_true rfl⟩ rfl hF (fun x192 h191 hF => ?_)
                                                        refine jj_bipush (v := (-12 : Int32)) (pc' := 497) dL_refusesFilms_495 rfl rfl ?_
                                                        refine jj_icmp_ne (tgt := 612) (pc' := 500) dL_refusesFilms_497 rfl rfl (fun hc hF => ?_) (fun hc hF => ?_) hF
                                                        · skip
                                                          refine jj_iconst (v := (0 : Int32)) (pc' := 613) dL_refusesFilms_612 rfl rfl ?_
                                                          exact jj_retI (ty := .boolean) rfl rfl dL_refusesFilms_613 ⟨Nat.le_of_ble_eq_true rfl, Nat.le_of_ble_eq_true rfl⟩ hF
                                                        · skip
                                                          refine jj_aload_n (j := 3) (i := 0) (pc' := 501) dL_refusesFilms_500 rfl rfl rfl ?_
                                                          refine jj_bipush (v := (22 : Int32)) (pc' := 503) dL_refusesFilms_501 rfl rfl ?_
                                                          refine jj_iconst (v := (0 : Int32)) (pc' := 504) dL_refusesFilms_503 rfl rfl ?_
                                                          refine jj_iconst (v := (2 : Int32)) (pc' := 505) dL_refusesFilms_504 rfl rfl ?_
                                                          refine jj_iconst (v := (0 : Int32)) (pc' := 506) dL_refusesFilms_505 rfl rfl ?_
                                                          refine jj_ldc2l (v := (521 : Int64)) (pc' := 509) dL_refusesFilms_506 qw_79 rfl ?_
                                                          refine jj_cI (N := M_L_call) (kc' := 1527) (ks' := 9162) (pc' := 512) (jg_H (N := M_L_call) (rest := []) (as := [.ref a0, .int ((22 : Int32)), .int ((0 : Int32)), .int ((2 : Int32)), .int ((0 : Int32)), .long ((521 : Int64))]) cf_L_119 (by decide) dL_refusesFilms_509 rfl rfl ⟨Nat.le_of_ble_eq_true rfl, Nat.le_of_ble_eq_true rfl⟩ ⟨Nat.le_of_ble_eq_true rfl, Nat.le_of_ble_eq_true rfl⟩ (Nat.le_of_ble_eq_true rfl) (fun X' hX => KL_call hX)) rfl rfl rfl rfl ⟨Nat.le_of_ble_eq_true rfl, Nat.le_of_ble_eq_true rfl⟩ rfl hF (fun x194 h193 hF => ?_)
                                                          refine jj_bipush (v := (-12 : Int32)) (pc' := 514) dL_refusesFilms_512 rfl rfl ?_
                                                          refine jj_icmp_ne (tgt := 612) (pc' := 517) dL_refusesFilms_514 rfl rfl (fun hc hF => ?_) (fun hc hF => ?_) hF
                                                          · skip
                                                            refine jj_iconst (v := (0 : Int32)) (pc' := 613) dL_refusesFilms_612 rfl rfl ?_
                                                            exact jj_retI (ty := .boolean) rfl rfl dL_refusesFilms_613 ⟨Nat.le_of_ble_eq_true rfl, Nat.le_of_ble_eq_true rfl⟩ hF
                                                          · skip
                                                            refine jj_aload_n (j := 3) (i := 0) (pc' := 518) dL_refusesFilms_517 rfl rfl rfl ?_
                                                            refine jj_bipush (v := (22 : Int32)) (pc' := 520) dL_refusesFilms_518 rfl rfl ?_
                                                            refine jj_iconst (v := (0 : Int32)) (pc' := 521) dL_refusesFilms_520 rfl rfl ?_
                                                            refine jj_iconst (v := (2 : Int32)) (pc' := 522) dL_refusesFilms_521 rfl rfl ?_
                                                            refine jj_iconst (v := (0 : Int32)) (pc' := 523) dL_refusesFilms_522 rfl rfl ?_
                                                            refine jj_ldc2l (v := (3500 : Int64)) (pc' := 526) dL_refusesFilms_523 qw_80 rfl ?_
                                                            refine jj_cI (N := M_L_call) (kc' := 1588) (ks' := 9528) (pc' := 529) (jg_H (N := M_L_call) (rest := []) (as := [.ref a0, .int ((22 : Int32)), .int ((0 : Int32)), .int ((2 : Int32)), .int ((0 : Int32)), .long ((3500 : Int64))]) cf_L_119 (by decide) dL_refusesFilms_526 rfl rfl ⟨Nat.le_of_ble_eq_true rfl, Nat.le_of_ble_eq_true rfl⟩ ⟨Nat.le_of_ble_eq_true rfl, Nat.le_of_ble_eq_true rfl⟩ (Nat.le_of_ble_eq_true rfl) (fun X' hX => KL_call hX)) rfl rfl rfl rfl ⟨Nat.le_of_ble_eq_true rfl, Nat.le_of_ble_eq_true rfl⟩ rfl hF (fun x196 h195 hF => ?_)
                                                            refine jj_bipush (v := (-12 : Int32)) (pc' := 531) dL_refusesFilms_529 rfl rfl ?_
                                                            refine jj_icmp_ne (tgt := 612) (pc' := 534) dL_refusesFilms_531 rfl rfl (fun hc hF => ?_) (fun hc hF => ?_) hF
                                                            · skip
                                                              refine jj_iconst (v := (0 : Int32)) (pc' := 613) dL_refusesFilms_612 rfl rfl ?_
                                                              exact jj_retI (ty := .boolean) rfl rfl dL_refusesFilms_613 ⟨Nat.le_of_ble_eq_true rfl, Nat.le_of_ble_eq_true rfl⟩ hF
                                                            · skip
                                                              refine jj_aload_n (j := 3) (i := 0) (pc' := 535) dL_refusesFilms_534 rfl rfl rfl ?_
                                                              refine jj_bipush (v := (23 : Int32)) (pc' := 537) dL_refusesFilms_535 rfl rfl ?_
                                                              refine jj_iconst (v := (0 : Int32)) (pc' := 538) dL_refusesFilms_537 rfl rfl ?_
                                                              refine jj_iload_n (j := 1) (i := 3) (pc' := 539) dL_refusesFilms_538 rfl rfl rfl ?_
                                                              refine jj_iconst (v := (-1 : Int32)) (pc' := 540) dL_refusesFilms_539 rfl rfl ?_
                                                              refine jj_lconst (v := (0 : Int64)) (pc' := 541) dL_refusesFilms_540 rfl rfl ?_
                                                              refine jj_cI (N := M_L_call) (kc' := 1649) (ks' := 9894) (pc' := 544) (jg_H (N := M_L_call) (rest := []) (as := [.ref a0, .int ((23 : Int32)), .int ((0 : Int32)), .int x106, .int ((-1 : Int32)), .long ((0 : Int64))]) cf_L_119 (by decide) dL_refusesFilms_541 rfl rfl ⟨Nat.le_of_ble_eq_true rfl, Nat.le_of_ble_eq_true rfl⟩ ⟨Nat.le_of_ble_eq_true rfl, Nat.le_of_ble_eq_true rfl⟩ (Nat.le_of_ble_eq_true rfl) (fun X' hX => KL_call hX)) rfl rfl rfl rfl ⟨Nat.le_of_ble_eq_true rfl, Nat.le_of_ble_eq_true rfl⟩ rfl hF (fun x198 h197 hF => ?_)
                                                              refine jj_bipush (v := (-11 : Int32)) (pc' := 546) dL_refusesFilms_544 rfl rfl ?_
                                                              refine jj_icmp_ne (tgt := 612) (pc' := 549) dL_refusesFilms_546 rfl rfl (fun hc hF => ?_) (fun hc hF => ?_) hF
                                                              · skip
                                                                refine jj_iconst (v := (0 : Int32)) (pc' := 613) dL_refusesFilms_612 rfl rfl ?_
                                                                exact jj_retI (ty := .boolean) rfl rfl dL_refusesFilms_613 ⟨Nat.le_of_ble_eq_true rfl, Nat.le_of_ble_eq_true rfl⟩ hF
                                                              · skip
                                                                refine jj_aload_n (j := 3) (i := 0) (pc' := 550) dL_refusesFilms_549 rfl rfl rfl ?_
                                                                refine jj_bipush (v := (23 : Int32)) (pc' := 552) dL_refusesFilms_550 rfl rfl ?_
                                                                refine jj_iconst (v := (0 : Int32)) (pc' := 553) dL_refusesFilms_552 rfl rfl ?_
                                                                refine jj_iconst (v := (0 : Int32)) (pc' := 554) dL_refusesFilms_553 rfl rfl ?_
                                                                refine jj_iload (j := 0) (i := 4) (pc' := 556) dL_refusesFilms_554 rfl rfl ?_
                                                                refine jj_lconst (v := (0 : Int64)) (pc' := 557) dL_refusesFilms_556 rfl rfl ?_
                                                                refine jj_cI (N := M_L_call) (kc' := 1710) (ks' := 10260) (pc' := 560) (jg_H (N := M_L_call) (rest := []) (as := [.ref a0, .int ((23 : Int32)), .int ((0 : Int32)), .int ((0 : Int32)), .int x108, .long ((0 : Int64))]) cf_L_119 (by decide) dL_refusesFilms_557 rfl rfl ⟨Nat.le_of_ble_eq_true rfl, Nat.le_of_ble_eq_true rfl⟩ ⟨Nat.le_of_ble_eq_true rfl, Nat.le_of_ble_eq_true rfl⟩ (Nat.le_of_ble_eq_true rfl) (fun X' hX => KL_call hX)) rfl rfl rfl rfl ⟨Nat.le_of_ble_eq_true rfl, Nat.le_of_ble_eq_true rfl⟩ rfl hF (fun x200 h199 hF => ?_)
                                                                refine jj_bipush (v := (-12 : Int32)) (pc' := 562) dL_refusesFilms_560 rfl rfl ?_
                                                                refine jj_icmp_ne (tgt := 612) (pc' := 565) dL_refusesFilms_562 rfl rfl (fun hc hF => ?_) (fun hc hF => ?_) hF
                                                                · skip
                                                                  refine jj_iconst (v := (0 : Int32)) (pc' := 613) dL_refusesFilms_612 rfl rfl ?_
                                                                  exact jj_retI (ty := .boolean) rfl rfl dL_refusesFilms_613 ⟨Nat.le_of_ble_eq_true rfl, Nat.le_of_ble_eq_true rfl⟩ hF
                                                                · skip
                                                                  refine jj_aload_n (j := 3) (i := 0) (pc' := 566) dL_refusesFilms_565 rfl rfl rfl ?_
                                                                  refine jj_bipush (v := (24 : Int32)) (pc' := 568) dL_refusesFilms_566 rfl rfl ?_
                                                                  refine jj_iconst (v := (0 : Int32)) (pc' := 569) dL_refusesFilms_568 rfl rfl ?_
                                                                  refine jj_iload (j := 0) (i := 4) (pc' := 571) dL_refusesFilms_569 rfl rfl ?_
                                                                  refine jj_iconst (v := (0 : Int32)) (pc' := 572) dL_refusesFilms_571 rfl rfl ?_
                                                                  refine jj_lconst (v := (0 : Int64)) (pc' := 573) dL_refusesFilms_572 rfl rfl ?_
                                                                  refine jj_cI (N := M_L_call) (kc' := 1771) (ks' := 10626) (pc' := 576) (jg_H (N := M_L_call) (rest := []) (as := [.ref a0, .int ((24 : Int32)), .int ((0 : Int32)), .int x108, .int ((0 : Int32)), .long ((0 : Int64))]) cf_L_119 (by decide) dL_refusesFilms_573 rfl rfl ⟨Nat.le_of_ble_eq_true rfl, Nat.le_of_ble_eq_true rfl⟩ ⟨Nat.le_of_ble_eq_true rfl, Nat.le_of_ble_eq_true rfl⟩ (Nat.le_of_ble_eq_true rfl) (fun X' hX => KL_call hX)) rfl rfl rfl rfl ⟨Nat.le_of_ble_eq_true rfl, Nat.le_of_ble_eq_true rfl⟩ rfl hF (fun x202 h201 hF => ?_)
                                                                  refine jj_bipush (v := (-12 : Int32)) (pc' := 578) dL_refusesFilms_576 rfl rfl ?_
                                                                  refine jj_icmp_ne (tgt := 612) (pc' := 581) dL_refusesFilms_578 rfl rfl (fun hc hF => ?_) (fun hc hF => ?_) hF
                                                                  · skip
                                                                    refine jj_iconst (v := (0 : Int32)) (pc' := 613) dL_refusesFilms_612 rfl rfl ?_
                                                                    exact jj_retI (ty := .boolean) rfl rfl dL_refusesFilms_613 ⟨Nat.le_of_ble_eq_true rfl, Nat.le_of_ble_eq_true rfl⟩ hF
                                                                  · skip
                                                                    refine jj_aload_n (j := 3) (i := 0) (pc' := 582) dL_refusesFilms_581 rfl rfl rfl ?_
                                                                    refine jj_bipush (v := (25 : Int32)) (pc' := 584) dL_refusesFilms_582 rfl rfl ?_
                                                                    refine jj_iconst (v := (0 : Int32)) (pc' := 585) dL_refusesFilms_584 rfl rfl ?_
                                                                    refine jj_iload_n (j := 1) (i := 3) (pc' := 586) dL_refusesFilms_585 rfl rfl rfl ?_
                                                                    refine jj_iconst (v := (-1 : Int32)) (pc' := 587) dL_refusesFilms_586 rfl rfl ?_
                                                                    refine jj_lconst (v := (0 : Int64)) (pc' := 588) dL_refusesFilms_587 rfl rfl ?_
                                                                    refine jj_cI (N := M_L_call) (kc' := 1832) (ks' := 10992) (pc' := 591) (jg_H (N := M_L_call) (rest := []) (as := [.ref a0, .int ((25 : Int32)), .int ((0 : Int32)), .int x106, .int ((-1 : Int32)), .long ((0 : Int64))]) cf_L_119 (by decide) dL_refusesFilms_588 rfl rfl ⟨Nat.le_of_ble_eq_true rfl, Nat.le_of_ble_eq_true rfl⟩ ⟨Nat.le_of_ble_eq_true rfl, Nat.le_of_ble_eq_true rfl⟩ (Nat.le_of_ble_eq_true rfl) (fun X' hX => KL_call hX)) rfl rfl rfl rfl ⟨Nat.le_of_ble_eq_true rfl, Nat.le_of_ble_eq_true rfl⟩ rfl hF (fun x204 h203 hF => ?_)
                                                                    refine jj_bipush (v := (-11 : Int32)) (pc' := 593) dL_refusesFilms_591 rfl rfl ?_
                                                                    refine jj_icmp_ne (tgt := 612) (pc' := 596) dL_refusesFilms_593 rfl rfl (fun hc hF => ?_) (fun hc hF => ?_) hF
                                                                    · skip
                                                                      refine jj_iconst (v := (0 : Int32)) (pc' := 613) dL_refusesFilms_612 rfl rfl ?_
                                                                      exact jj_retI (ty := .boolean) rfl rfl dL_refusesFilms_613 ⟨Nat.le_of_ble_eq_true rfl, Nat.le_of_ble_eq_true rfl⟩ hF
                                                                    · skip
                                                                      refine jj_aload_n (j := 3) (i := 0) (pc' := 597) dL_refusesFilms_596 rfl rfl rfl ?_
                                                                      refine jj_bipush (v := (25 : Int32)) (pc' := 599) dL_refusesFilms_597 rfl rfl ?_
                                                                      refine jj_iconst (v := (0 : Int32)) (pc' := 600) dL_refusesFilms_599 rfl rfl ?_
                                                                      refine jj_iconst (v := (1 : Int32)) (pc' := 601) dL_refusesFilms_600 rfl rfl ?_
                                                                      refine jj_iload (j := 0) (i := 4) (pc' := 603) dL_refusesFilms_601 rfl rfl ?_
                                                                      refine jj_lconst (v := (0 : Int64)) (pc' := 604) dL_refusesFilms_603 rfl rfl ?_
                                                                      refine jj_cI (N := M_L_call) (kc' := 1893) (ks' := 11358) (pc' := 607) (jg_H (N := M_L_call) (rest := []) (as := [.ref a0, .int ((25 : Int32)), .int ((0 : Int32)), .int ((1 : Int32)), .int x108, .long ((0 : Int64))]) cf_L_119 (by decide) dL_refusesFilms_604 rfl rfl ⟨Nat.le_of_ble_eq_true rfl, Nat.le_of_ble_eq_true rfl⟩ ⟨Nat.le_of_ble_eq_true rfl, Nat.le_of_ble_eq_true rfl⟩ (Nat.le_of_ble_eq_true rfl) (fun X' hX => KL_call hX)) rfl rfl rfl rfl ⟨Nat.le_of_ble_eq_true rfl, Nat.le_of_ble_eq_true rfl⟩ rfl hF (fun x206 h205 hF => ?_)
                                                                      refine jj_bipush (v := (-12 : Int32)) (pc' := 609) dL_refusesFilms_607 rfl rfl ?_
                                                                      refine jj_icmp_eq (tgt := 614) (pc' := 612) dL_refusesFilms_609 rfl rfl (fun hc hF => ?_) (fun hc hF => ?_) hF
                                                                      · skip
                                                                        refine jj_aload_n (j := 3) (i := 0) (pc' := 615) dL_refusesFilms_614 rfl rfl rfl ?_
                                                                        refine jj_bipush (v := (17 : Int32)) (pc' := 617) dL_refusesFilms_615 rfl rfl ?_
                                                                        refine jj_iload_n (j := 1) (i := 3) (pc' := 618) dL_refusesFilms_617 rfl rfl rfl ?_
                                                                        refine jj_iconst (v := (-1 : Int32)) (pc' := 619) dL_refusesFilms_618 rfl rfl ?_
                                                                        refine jj_iconst (v := (0 : Int32)) (pc' := 620) dL_refusesFilms_619 rfl rfl ?_
                                                                        refine jj_lconst (v := (0 : Int64)) (pc' := 621) dL_refusesFilms_620 rfl rfl ?_
                                                                        refine jj_cI (N := M_L_call) (kc' := 1954) (ks' := 11724) (pc' := 624) (jg_H (N := M_L_call) (rest := []) (as := [.ref a0, .int ((17 : Int32)), .int x106, .int ((-1 : Int32)), .int ((0 : Int32)), .long ((0 : Int64))]) cf_L_119 (by decide) dL_refusesFilms_621 rfl rfl ⟨Nat.le_of_ble_eq_true rfl, Nat.le_of_ble_eq_true rfl⟩ ⟨Nat.le_of_ble_eq_true rfl, Nat.le_of_ble_eq_true rfl⟩ (Nat.le_of_ble_eq_true rfl) (fun X' hX => KL_call hX)) rfl rfl rfl rfl ⟨Nat.le_of_ble_eq_true rfl, Nat.le_of_ble_eq_true rfl⟩ rfl hF (fun x208 h207 hF => ?_)
                                                                        refine jj_bipush (v := (-11 : Int32)) (pc' := 626) dL_refusesFilms_624 rfl rfl ?_
                                                                        refine jj_icmp_ne (tgt := 721) (pc' := 629) dL_refusesFilms_626 rfl rfl (fun hc hF => ?_) (fun hc hF => ?_) hF
                                                                        · skip
                                                                          refine jj_iconst (v := (0 : Int32)) (pc' := 722) dL_refusesFilms_721 rfl rfl ?_
                                                                          exact jj_retI (ty := .boolean) rfl rfl dL_refusesFilms_722 ⟨Nat.le_of_ble_eq_true rfl, Nat.le_of_ble_eq_true rfl⟩ hF
                                                                        · skip
                                                                          refine jj_aload_n (j := 3) (i := 0) (pc' := 630) dL_refusesFilms_629 rfl rfl rfl ?_
                                                                          refine jj_bipush (v := (17 : Int32)) (pc' := 632) dL_refusesFilms_630 rfl rfl ?_
                                                                          refine jj_iconst (v := (2 : Int32)) (pc' := 633) dL_refusesFilms_632 rfl rfl ?_
                                                                          refine jj_iload (j := 0) (i := 4) (pc' := 635) dL_refusesFilms_633 rfl rfl ?_
                                                                          refine jj_iconst (v := (0 : Int32)) (pc' := 636) dL_refusesFilms_635 rfl rfl ?_
                                                                          refine jj_lconst (v := (0 : Int64)) (pc' := 637) dL_refusesFilms_636 rfl rfl ?_
                                                                          refine jj_cI (N := M_L_call) (kc' := 2015) (ks' := 12090) (pc' := 640) (jg_H (N := M_L_call) (rest := []) (as := [.ref a0, .int ((17 : Int32)), .int ((2 : Int32)), .int x108, .int ((0 : Int32)), .long ((0 : Int64))]) cf_L_119 (by decide) dL_refusesFilms_637 rfl rfl ⟨Nat.le_of_ble_eq_true rfl, Nat.le_of_ble_eq_true rfl⟩ ⟨Nat.le_of_ble_eq_true rfl, Nat.le_of_ble_eq_true rfl⟩ (Nat.le_of_ble_eq_true rfl) (fun X' hX => KL_call hX)) rfl rfl rfl rfl ⟨Nat.le_of_ble_eq_true rfl, Nat.le_of_ble_eq_true rfl⟩ rfl hF (fun x210 h209 hF => ?_)
                                                                          refine jj_bipush (v := (-12 : Int32)) (pc' := 642) dL_refusesFilms_640 rfl rfl ?_
                                                                          refine jj_icmp_ne (tgt := 721) (pc' := 645) dL_refusesFilms_642 rfl rfl (fun hc hF => ?_) (fun hc hF => ?_) hF
                                                                          · skip
                                                                            refine jj_iconst (v := (0 : Int32)) (pc' := 722) dL_refusesFilms_721 rfl rfl ?_
                                                                            exact jj_retI (ty := .boolean) rfl rfl dL_refusesFilms_722 ⟨Nat.le_of_ble_eq_true rfl, Nat.le_of_ble_eq_true rfl⟩ hF
                                                                          · skip
                                                                            refine jj_aload_n (j := 3) (i := 0) (pc' := 646) dL_refusesFilms_645 rfl rfl rfl ?_
                                                                            refine jj_bipush (v := (18 : Int32)) (pc' := 648) dL_refusesFilms_646 rfl rfl ?_
                                                                            refine jj_iload_n (j := 1) (i := 3) (pc' := 649) dL_refusesFilms_648 rfl rfl rfl ?_
                                                                            refine jj_bipush (v := (9 : Int32)) (pc' := 651) dL_refusesFilms_649 rfl rfl ?_
                                                                            refine jj_iconst (v := (0 : Int32)) (pc' := 652) dL_refusesFilms_651 rfl rfl ?_
                                                                            refine jj_lconst (v := (0 : Int64)) (pc' := 653) dL_refusesFilms_652 rfl rfl ?_
                                                                            refine jj_cI (N := M_L_call) (kc' := 2076) (ks' := 12456) (pc' := 656) (jg_H (N := M_L_call) (rest := []) (as := [.ref a0, .int ((18 : Int32)), .int x106, .int ((9 : Int32)), .int ((0 : Int32)), .long ((0 : Int64))]) cf_L_119 (by decide) dL_refusesFilms_653 rfl rfl ⟨Nat.le_of_ble_eq_true rfl, Nat.le_of_ble_eq_true rfl⟩ ⟨Nat.le_of_ble_eq_true rfl, Nat.le_of_ble_eq_true rfl⟩ (Nat.le_of_ble_eq_true rfl) (fun X' hX => KL_call hX)) rfl rfl rfl rfl ⟨Nat.le_of_ble_eq_true rfl, Nat.le_of_ble_eq_true rfl⟩ rfl hF (fun x212 h211 hF => ?_)
                                                                            refine jj_bipush (v := (-11 : Int32)) (pc' := 658) dL_refusesFilms_656 rfl rfl ?_
                                                                            refine jj_icmp_ne (tgt := 721) (pc' := 661) dL_refusesFilms_658 rfl rfl (fun hc hF => ?_) (fun hc hF => ?_) hF
                                                                            · skip
                                                                              refine jj_iconst (v := (0 : Int32)) (pc' := 722) dL_refusesFilms_721 rfl rfl ?_
                                                                              exact jj_retI (ty := .boolean) rfl rfl dL_refusesFilms_722 ⟨Nat.le_of_ble_eq_true rfl, Nat.le_of_ble_eq_true rfl⟩ hF
                                                                            · skip
                                                                              refine jj_aload_n (j := 3) (i := 0) (pc' := 662) dL_refusesFilms_661 rfl rfl rfl ?_
                                                                              refine jj_bipush (v := (18 : Int32)) (pc' := 664) dL_refusesFilms_662 rfl rfl ?_
                                                                              refine jj_iconst (v := (0 : Int32)) (pc' := 665) dL_refusesFilms_664 rfl rfl ?_
                                                                              refine jj_iload_n (j := 4) (i := 1) (pc' := 666) dL_refusesFilms_665 rfl rfl rfl ?_
                                                                              refine jj_iconst (v := (0 : Int32)) (pc' := 667) dL_refusesFilms_666 rfl rfl ?_
                                                                              refine jj_iconst (v := (4 : Int32)) (pc' := 668) dL_refusesFilms_667 rfl rfl ?_
                                                                              refine jj_cI (N := M_L_far) (kc' := 2076) (ks' := 12456) (pc' := 671) (jg_S (N := M_L_far) (rest := [.int ((0 : Int32)), .int ((18 : Int32)), .ref a0]) (as := [.int x1, .int ((0 : Int32)), .int ((4 : Int32))]) cf_L_114 rfl dL_refusesFilms_668 rfl rfl ⟨Nat.le_of_ble_eq_true rfl, Nat.le_of_ble_eq_true rfl⟩ ⟨Nat.le_of_ble_eq_true rfl, Nat.le_of_ble_eq_true rfl⟩ (Nat.le_of_ble_eq_true rfl) (fun X' hX => KL_far hX)) rfl rfl rfl rfl ⟨Nat.le_of_ble_eq_true rfl, Nat.le_of_ble_eq_true rfl⟩ rfl hF (fun x214 h213 hF => ?_)
                                                                              refine jj_iconst (v := (0 : Int32)) (pc' := 672) dL_refusesFilms_671 rfl rfl ?_
                                                                              refine jj_lconst (v := (0 : Int64)) (pc' := 673) dL_refusesFilms_672 rfl rfl ?_
                                                                              refine jj_cI (N := M_L_call) (kc' := 2137) (ks' := 12822) (pc' := 676) (jg_H (N := M_L_call) (rest := []) (as := [.ref a0, .int ((18 : Int32)), .int ((0 : Int32)), .int x214, .int ((0 : Int32)), .long ((0 : Int64))]) cf_L_119 (by decide) dL_refusesFilms_673 rfl rfl ⟨Nat.le_of_ble_eq_true rfl, Nat.le_of_ble_eq_true rfl⟩ ⟨Nat.le_of_ble_eq_true rfl, Nat.le_of_ble_eq_true rfl⟩ (Nat.le_of_ble_eq_true rfl) (fun X' hX => KL_call hX)) rfl rfl rfl rfl ⟨Nat.le_of_ble_eq_true rfl, Nat.le_of_ble_eq_true rfl⟩ rfl hF (fun x216 h215 hF => ?_)
                                                                              refine jj_bipush (v := (-12 : Int32)) (pc' := 678) dL_refusesFilms_676 rfl rfl ?_
                                                                              refine jj_icmp_ne (tgt := 721) (pc' := 681) dL_refusesFilms_678 rfl rfl (fun hc hF => ?_) (fun hc hF => ?_) hF
                                                                              · skip
                                                                                refine jj_iconst (v := (0 : Int32)) (pc' := 722) dL_refusesFilms_721 rfl rfl ?_
                                                                                exact jj_retI (ty := .boolean) rfl rfl dL_refusesFilms_722 ⟨Nat.le_of_ble_eq_true rfl, Nat.le_of_ble_eq_true rfl⟩ hF
                                                                              · skip
                                                                                refine jj_aload_n (j := 3) (i := 0) (pc' := 682) dL_refusesFilms_681 rfl rfl rfl ?_
                                                                                refine jj_bipush (v := (21 : Int32)) (pc' := 684) dL_refusesFilms_682 rfl rfl ?_
                                                                                refine jj_iload_n (j := 4) (i := 1) (pc' := 685) dL_refusesFilms_684 rfl rfl rfl ?_
                                                                                refine jj_iconst (v := (0 : Int32)) (pc' := 686) dL_refusesFilms_685 rfl rfl ?_
                                                                                refine jj_bipush (v := (11 : Int32)) (pc' := 688) dL_refusesFilms_686 rfl rfl ?_
                                                                                refine jj_cI (N := M_L_far) (kc' := 2137) (ks' := 12822) (pc' := 691) (jg_S (N := M_L_far) (rest := [.int ((21 : Int32)), .ref a0]) (as := [.int x1, .int ((0 : Int32)), .int ((11 : Int32))]) cf_L_114 rfl dL_refusesFilms_688 rfl rfl ⟨Nat.le_of_ble_eq_true rfl, Nat.le_of_ble_eq_true rfl⟩ ⟨Nat.le_of_ble_eq_true rfl, Nat.le_of_ble_eq_true rfl⟩ (Nat.le_of_ble_eq_true rfl) (fun X' hX => KL_far hX)) rfl rfl rfl rfl ⟨Nat.le_of_ble_eq_true rfl, Nat.le_of_ble_eq_true rfl⟩ rfl hF (fun x218 h217 hF => ?_)
                                                                                refine jj_iconst (v := (0 : Int32)) (pc' := 692) dL_refusesFilms_691 rfl rfl ?_
                                                                                refine jj_iconst (v := (0 : Int32)) (pc' := 693) dL_refusesFilms_692 rfl rfl ?_
                                                                                refine jj_lconst (v := (0 : Int64)) (pc' := 694) dL_refusesFilms_693 rfl rfl ?_
                                                                                refine jj_cI (N := M_L_call) (kc' := 2198) (ks' := 13188) (pc' := 697) (jg_H (N := M_L_call) (rest := []) (as := [.ref a0, .int ((21 : Int32)), .int x218, .int ((0 : Int32)), .int ((0 : Int32)), .long ((0 : Int64))]) cf_L_119 (by decide) dL_refusesFilms_694 rfl rfl ⟨Nat.le_of_ble_eq_true rfl, Nat.le_of_ble_eq_true rfl⟩ ⟨Nat.le_of_ble_eq_true rfl, Nat.le_of_ble_eq_true rfl⟩ (Nat.le_of_ble_eq_true rfl) (fun X' hX => KL_call hX)) rfl rfl rfl rfl ⟨Nat.le_of_ble_eq_true rfl, Nat.le_of_ble_eq_true rfl⟩ rfl hF (fun x220 h219 hF => ?_)
                                                                                refine jj_bipush (v := (-12 : Int32)) (pc' := 699) dL_refusesFilms_697 rfl rfl ?_
                                                                                refine jj_icmp_ne (tgt := 721) (pc' := 702) dL_refusesFilms_699 rfl rfl (fun hc hF => ?_) (fun hc hF => ?_) hF
                                                                                · skip
                                                                                  refine jj_iconst (v := (0 : Int32)) (pc' := 722) dL_refusesFilms_721 rfl rfl ?_
                                                                                  exact jj_retI (ty := .boolean) rfl rfl dL_refusesFilms_722 ⟨Nat.le_of_ble_eq_true rfl, Nat.le_of_ble_eq_true rfl⟩ hF
                                                                                · skip
                                                                                  refine jj_aload_n (j := 3) (i := 0) (pc' := 703) dL_refusesFilms_702 rfl rfl rfl ?_
                                                                                  refine jj_bipush (v := (26 : Int32)) (pc' := 705) dL_refusesFilms_703 rfl rfl ?_
                                                                                  refine jj_iload_n (j := 1) (i := 3) (pc' := 706) dL_refusesFilms_705 rfl rfl rfl ?_
                                                                                  refine jj_iconst (v := (0 : Int32)) (pc' := 707) dL_refusesFilms_706 rfl rfl ?_
                                                                                  refine jj_iconst (v := (0 : Int32)) (pc' := 708) dL_refusesFilms_707 rfl rfl ?_
                                                                                  refine jj_lconst (v := (0 : Int64)) (pc' := 709) dL_refusesFilms_708 rfl rfl ?_
                                                                                  refine jj_cI (N := M_L_call) (kc' := 2259) (ks' := 13554) (pc' := 712) (jg_H (N := M_L_call) (rest := []) (as := [.ref a0, .int ((26 : Int32)), .int x106, .int ((0 : Int32)), .int ((0 : Int32)), .long ((0 : Int64))]) cf_L_119 (by decide) dL_refusesFilms_709 rfl rfl ⟨Nat.le_of_ble_eq_true rfl, Nat.le_of_ble_eq_true rfl⟩ ⟨Nat.le_of_ble_eq_true rfl, Nat.le_of_ble_eq_true rfl⟩ (Nat.le_of_ble_eq_true rfl) (fun X' hX => KL_call hX)) rfl rfl rfl rfl ⟨Nat.le_of_ble_eq_true rfl, Nat.le_of_ble_eq_true rfl⟩ rfl hF (fun x222 h221 hF => ?_)
                                                                                  refine jj_bipush (v := (-11 : Int32)) (pc' := 714) dL_refusesFilms_712 rfl rfl ?_
                                                                                  refine jj_icmp_ne (tgt := 721) (pc' := 717) dL_refusesFilms_714 rfl rfl (fun hc hF => ?_) (fun hc hF => ?_) hF
                                                                                  · skip
                                                                                    refine jj_iconst (v := (0 : Int32)) (pc' := 722) dL_refusesFilms_721 rfl rfl ?_
                                                                                    exact jj_retI (ty := .boolean) rfl rfl dL_refusesFilms_722 ⟨Nat.le_of_ble_eq_true rfl, Nat.le_of_ble_eq_true rfl⟩ hF
                                                                                  · skip
                                                                                    refine jj_iconst (v := (1 : Int32)) (pc' := 718) dL_refusesFilms_717 rfl rfl ?_
                                                                                    refine jj_goto (tgt := 722) dL_refusesFilms_718 rfl ?_
                                                                                    exact jj_retI (ty := .boolean) rfl rfl dL_refusesFilms_722 ⟨Nat.le_of_ble_eq_true rfl, Nat.le_of_ble_eq_true rfl⟩ hF
                                                                      · skip
                                                                        refine jj_iconst (v := (0 : Int32)) (pc' := 613) dL_refusesFilms_612 rfl rfl ?_
                                                                        exact jj_retI (ty := .boolean) rfl rfl dL_refusesFilms_613 ⟨Nat.le_of_ble_eq_true rfl, Nat.le_of_ble_eq_true rfl⟩ hF
                                                · skip
                                                  refine jj_sipush (v := (2001 : Int32)) (pc' := 427) dL_refusesFilms_424 rfl rfl ?_
                                                  refine jj_goto (tgt := 436) dL_refusesFilms_427 rfl ?_
                                                  refine jj_lconst (v := (0 : Int64)) (pc' := 437) dL_refusesFilms_436 rfl rfl ?_
                                                  refine jj_cI (N := M_L_call) (kc' := 1283) (ks' := 7698) (pc' := 440) (jg_H (N := M_L_call) (rest := []) (as := [.ref a0, .int ((6 : Int32)), .int ((0 : Int32)), .int ((700 : Int32)), .int ((2001 : Int32)), .long ((0 : Int64))]) cf_L_119 (by decide) dL_refusesFilms_437 rfl rfl ⟨Nat.le_of_ble_eq_true rfl, Nat.le_of_ble_eq_true rfl⟩ ⟨Nat.le_of_ble_eq_true rfl, Nat.le_of_ble_eq_true rfl⟩ (Nat.le_of_ble_eq_true rfl) (fun X' hX => KL_call hX)) rfl rfl rfl rfl ⟨Nat.le_of_ble_eq_true rfl, Nat.le_of_ble_eq_true rfl⟩ rfl hF (fun x224 h223 hF => ?_)
                                                  refine jj_bipush (v := (-12 : Int32)) (pc' := 442) dL_refusesFilms_440 rfl rfl ?_
                                                  refine jj_icmp_ne (tgt := 612) (pc' := 445) dL_refusesFilms_442 rfl rfl (fun hc hF => ?_) (fun hc hF => ?_) hF
                                                  · skip
                                                    refine jj_iconst (v := (0 : Int32)) (pc' := 613) dL_refusesFilms_612 rfl rfl ?_
                                                    exact jj_retI (ty := .boolean) rfl rfl dL_refusesFilms_613 ⟨Nat.le_of_ble_eq_true rfl, Nat.le_of_ble_eq_true rfl⟩ hF
                                                  · skip
                                                    refine jj_aload_n (j := 3) (i := 0) (pc' := 446) dL_refusesFilms_445 rfl rfl rfl ?_
                                                    refine jj_bipush (v := (14 : Int32)) (pc' := 448) dL_refusesFilms_446 rfl rfl ?_
                                                    refine jj_iconst (v := (0 : Int32)) (pc' := 449) dL_refusesFilms_448 rfl rfl ?_
                                                    refine jj_iload_n (j := 4) (i := 1) (pc' := 450) dL_refusesFilms_449 rfl rfl rfl ?_
                                                    refine jj_iconst (v := (0 : Int32)) (pc' := 451) dL_refusesFilms_450 rfl rfl ?_
                                                    refine jj_iconst (v := (5 : Int32)) (pc' := 452) dL_refusesFilms_451 rfl rfl ?_
                                                    refine jj_cI (N := M_L_far) (kc' := 1283) (ks' := 7698) (pc' := 455) (jg_S (N := M_L_far) (rest := [.int ((0 : Int32)), .int ((14 : Int32)), .ref a0]) (as := [.int x1, .int ((0 : Int32)), .int ((5 : Int32))]) cf_L_114 rfl dL_refusesFilms_452 rfl rfl ⟨Nat.le_of_ble_eq_true rfl, Nat.le_of_ble_eq_true rfl⟩ ⟨Nat.le_of_ble_eq_true rfl, Nat.le_of_ble_eq_true rfl⟩ (Nat.le_of_ble_eq_true rfl) (fun X' hX => KL_far hX)) rfl rfl rfl rfl ⟨Nat.le_of_ble_eq_true rfl, Nat.le_of_ble_eq_true rfl⟩ rfl hF (fun x226 h225 hF => ?_)
                                                    refine jj_iconst (v := (0 : Int32)) (pc' := 456) dL_refusesFilms_455 rfl rfl ?_
                                                    refine jj_lconst (v := (0 : Int64)) (pc' := 457) dL_refusesFilms_456 rfl rfl ?_
                                                    refine jj_cI (N := M_L_call) (kc' := 1344) (ks' := 8064) (pc' := 460) (jg_H (N := M_L_call) (rest := []) (as := [.ref a0, .int ((14 : Int32)), .int ((0 : Int32)), .int x226, .int ((0 : Int32)), .long ((0 : Int64))]) cf_L_119 (by decide) dL_refusesFilms_457 rfl rfl ⟨Nat.le_of_ble_eq_true rfl, Nat.le_of_ble_eq_true rfl⟩ ⟨Nat.le_of_ble_eq_true rfl, Nat.le_of_ble_eq_true rfl⟩ (Nat.le_of_ble_eq_true rfl) (fun X' hX => KL_call hX)) rfl rfl rfl rfl ⟨Nat.le_of_ble_eq_true rfl, Nat.le_of_ble_eq_true rfl⟩ rfl hF (fun x228 h227 hF => ?_)
                                                    refine jj_bipush (v := (-12 : Int32)) (pc' := 462) dL_refusesFilms_460 rfl rfl ?_
                                                    refine jj_icmp_ne (tgt := 612) (pc' := 465) dL_refusesFilms_462 rfl rfl (fun hc hF => ?_) (fun hc hF => ?_) hF
                                                    · skip
                                                      refine jj_iconst (v := (0 : Int32)) (pc' := 613) dL_refusesFilms_612 rfl rfl ?_
                                                      exact jj_retI (ty := .boolean) rfl rfl dL_refusesFilms_613 ⟨Nat.le_of_ble_eq_true rfl, Nat.le_of_ble_eq_true rfl⟩ hF
                                                    · skip
                                                      refine jj_aload_n (j := 3) (i := 0) (pc' := 466) dL_refusesFilms_465 rfl rfl rfl ?_
                                                      refine jj_bipush (v := (22 : Int32)) (pc' := 468) dL_refusesFilms_466 rfl rfl ?_
                                                      refine jj_iconst (v := (0 : Int32)) (pc' := 469) dL_refusesFilms_468 rfl rfl ?_
                                                      refine jj_iload_n (j := 1) (i := 3) (pc' := 470) dL_refusesFilms_469 rfl rfl rfl ?_
                                                      refine jj_iconst (v := (-1 : Int32)) (pc' := 471) dL_refusesFilms_470 rfl rfl ?_
                                                      refine jj_ldc2l (v := (500 : Int64)) (pc' := 474) dL_refusesFilms_471 qw_78 rfl ?_
                                                      refine jj_cI (N := M_L_call) (kc' := 1405) (ks' := 8430) (pc' := 477) (jg_H (N := M_L_call) (rest := []) (as := [.ref a0, .int ((22 : Int32)), .int ((0 : Int32)), .int x106, .int ((-1 : Int32)), .long ((500 : Int64))]) cf_L_119 (by decide) dL_refusesFilms_474 rfl rfl ⟨Nat.le_of_ble_eq_true rfl, Nat.le_of_ble_eq_true rfl⟩ ⟨Nat.le_of_ble_eq_true rfl, Nat.le_of_ble_eq_true rfl⟩ (Nat.le_of_ble_eq_true rfl) (fun X' hX => KL_call hX)) rfl rfl rfl rfl ⟨Nat.le_of_ble_eq_true rfl, Nat.le_of_ble_eq_true rfl⟩ rfl hF (fun x230 h229 hF => ?_)
                                                      refine jj_bipush (v := (-11 : Int32)) (pc' := 479) dL_refusesFilms_477 rfl rfl ?_
                                                      refine jj_icmp_ne (tgt := 612) (pc' := 482) dL_refusesFilms_479 rfl rfl (fun hc hF => ?_) (fun hc hF => ?_) hF
                                                      · skip
                                                        refine jj_iconst (v := (0 : Int32)) (pc' := 613) dL_refusesFilms_612 rfl rfl ?_
                                                        exact jj_retI (ty := .boolean) rfl rfl dL_refusesFilms_613 ⟨Nat.le_of_ble_eq_true rfl, Nat.le_of_ble_eq_true rfl⟩ hF
                                                      · skip
                                                        refine jj_aload_n (j := 3) (i := 0) (pc' := 483) dL_refusesFilms_482 rfl rfl rfl ?_
                                                        refine jj_bipush (v := (22 : Int32)) (pc' := 485) dL_refusesFilms_483 rfl rfl ?_
                                                        refine jj_iconst (v := (0 : Int32)) (pc' := 486) dL_refusesFilms_485 rfl rfl ?_
                                                        refine jj_iconst (v := (2 : Int32)) (pc' := 487) dL_refusesFilms_486 rfl rfl ?_
                                                        refine jj_iload (j := 0) (i := 4) (pc' := 489) dL_refusesFilms_487 rfl rfl ?_
                                                        refine jj_ldc2l (v := (500 : Int64)) (pc' := 492) dL_refusesFilms_489 qw_78 rfl ?_
                                                        refine jj_cI (N := M_L_call) (kc' := 1466) (ks' := 8796) (pc' := 495) (jg_H (N := M_L_call) (rest := []) (as := [.ref a0, .int ((22 : Int32)), .int ((0 : Int32)), .int ((2 : Int32)), .int x108, .long ((500 : Int64))]) cf_L_119 (by decide) dL_refusesFilms_492 rfl rfl ⟨Nat.le_of_ble_eq_true rfl, Nat.le_of_ble_eq_true rfl⟩ ⟨Nat.le_of_ble_eq_true rfl, Nat.le_of_ble_eq_true rfl⟩ (Nat.le_of_ble_eq_true rfl) (fun X' hX => KL_call hX)) rfl rfl rfl rfl ⟨Nat.le_of_ble_eq_true rfl, Nat.le_of_ble_eq_true rfl⟩ rfl hF (fun x232 h231 hF => ?_)
                                                        refine jj_bipush (v := (-12 : Int32)) (pc' := 497) dL_refusesFilms_495 rfl rfl ?_
                                                        refine jj_icmp_ne (tgt := 612) (pc' := 500) dL_refusesFilms_497 rfl rfl (fun hc hF => ?_) (fun hc hF => ?_) hF
                                                        · skip
                                                          refine jj_iconst (v := (0 : Int32)) (pc' := 613) dL_refusesFilms_612 rfl rfl ?_
                                                          exact jj_retI (ty := .boolean) rfl rfl dL_refusesFilms_613 ⟨Nat.le_of_ble_eq_true rfl, Nat.le_of_ble_eq_true rfl⟩ hF
                                                        · skip
                                                          refine jj_aload_n (j := 3) (i := 0) (pc' := 501) dL_refusesFilms_500 rfl rfl rfl ?_
                                                          refine jj_bipush (v := (22 : Int32)) (pc' := 503) dL_refusesFilms_501 rfl rfl ?_
                                                          refine jj_iconst (v := (0 : Int32)) (pc' := 504) dL_refusesFilms_503 rfl rfl ?_
                                                          refine jj_iconst (v := (2 : Int32)) (pc' := 505) dL_refusesFilms_504 rfl rfl ?_
                                                          refine jj_iconst (v := (0 : Int32)) (pc' := 506) dL_refusesFilms_505 rfl rfl ?_
                                                          refine jj_ldc2l (v := (521 : Int64)) (pc' := 509) dL_refusesFilms_506 qw_79 rfl ?_
                                                          refine jj_cI (N := M_L_call) (kc' := 1527) (ks' := 9162) (pc' := 512) (jg_H (N := M_L_call) (rest := []) (as := [.ref a0, .int ((22 : Int32)), .int ((0 : Int32)), .int ((2 : Int32)), .int ((0 : Int32)), .long ((521 : Int64))]) cf_L_119 (by decide) dL_refusesFilms_509 rfl rfl ⟨Nat.le_of_ble_eq_true rfl, Nat.le_of_ble_eq_true rfl⟩ ⟨Nat.le_of_ble_eq_true rfl, Nat.le_of_ble_eq_true rfl⟩ (Nat.le_of_ble_eq_true rfl) (fun X' hX => KL_call hX)) rfl rfl rfl rfl ⟨Nat.le_of_ble_eq_true rfl, Nat.le_of_ble_eq_true rfl⟩ rfl hF (fun x234 h233 hF => ?_)
                                                          refine jj_bipush (v := (-12 : Int32)) (pc' := 514) dL_refusesFilms_512 rfl rfl ?_
                                                          refine jj_icmp_ne (tgt := 612) (pc' := 517) dL_refusesFilms_514 rfl rfl (fun hc hF => ?_) (fun hc hF => ?_) hF
                                                          · skip
                                                            refine jj_iconst (v := (0 : Int32)) (pc' := 613) dL_refusesFilms_612 rfl rfl ?_
                                                            exact jj_retI (ty := .boolean) rfl rfl dL_refusesFilms_613 ⟨Nat.le_of_ble_eq_true rfl, Nat.le_of_ble_eq_true rfl⟩ hF
                                                          · skip
                                                            refine jj_aload_n (j := 3) (i := 0) (pc' := 518) dL_refusesFilms_517 rfl rfl rfl ?_
                                                            refine jj_bipush (v := (22 : Int32)) (pc' := 520) dL_refusesFilms_518 rfl rfl ?_
                                                            refine jj_iconst (v := (0 : Int32)) (pc' := 521) dL_refusesFilms_520 rfl rfl ?_
                                                            refine jj_iconst (v := (2 : Int32)) (pc' := 522) dL_refusesFilms_521 rfl rfl ?_
                                                            refine jj_iconst (v := (0 : Int32)) (pc' := 523) dL_refusesFilms_522 rfl rfl ?_
                                                            refine jj_ldc2l (v := (3500 : Int64)) (pc' := 526) dL_refusesFilms_523 qw_80 rfl ?_
                                                            refine jj_cI (N := M_L_call) (kc' := 1588) (ks' := 9528) (pc' := 529) (jg_H (N := M_L_call) (rest := []) (as := [.ref a0, .int ((22 : Int32)), .int ((0 : Int32)), .int ((2 : Int32)), .int ((0 : Int32)), .long ((3500 : Int64))]) cf_L_119 (by decide) dL_refusesFilms_526 rfl rfl ⟨Nat.le_of_ble_eq_true rfl, Nat.le_of_ble_eq_true rfl⟩ ⟨Nat.le_of_ble_eq_true rfl, Nat.le_of_ble_eq_true rfl⟩ (Nat.le_of_ble_eq_true rfl) (fun X' hX => KL_call hX)) rfl rfl rfl rfl ⟨Nat.le_of_ble_eq_true rfl, Nat.le_of_ble_eq_true rfl⟩ rfl hF (fun x236 h235 hF => ?_)
                                                            refine jj_bipush (v := (-12 : Int32)) (pc' := 531) dL_refusesFilms_529 rfl rfl ?_
                                                            refine jj_icmp_ne (tgt := 612) (pc' := 534) dL_refusesFilms_531 rfl rfl (fun hc hF => ?_) (fun hc hF => ?_) hF
                                                            · skip
                                                              refine jj_iconst (v := (0 : Int32)) (pc' := 613) dL_refusesFilms_612 rfl rfl ?_
                                                              exact jj_retI (ty := .boolean) rfl rfl dL_refusesFilms_613 ⟨Nat.le_of_ble_eq_true rfl, Nat.le_of_ble_eq_true rfl⟩ hF
                                                            · skip
                                                              refine jj_aload_n (j := 3) (i := 0) (pc' := 535) dL_refusesFilms_534 rfl rfl rfl ?_
                                                              refine jj_bipush (v := (23 : Int32)) (pc' := 537) dL_refusesFilms_535 rfl rfl ?_
                                                              refine jj_iconst (v := (0 : Int32)) (pc' := 538) dL_refusesFilms_537 rfl rfl ?_
                                                              refine jj_iload_n (j := 1) (i := 3) (pc' := 539) dL_refusesFilms_538 rfl rfl rfl ?_
                                                              refine jj_iconst (v := (-1 : Int32)) (pc' := 540) dL_refusesFilms_539 rfl rfl ?_
                                                              refine jj_lconst (v := (0 : Int64)) (pc' := 541) dL_refusesFilms_540 rfl rfl ?_
                                                              refine jj_cI (N := M_L_call) (kc' := 1649) (ks' := 9894) (pc' := 544) (jg_H (N := M_L_call) (rest := []) (as := [.ref a0, .int ((23 : Int32)), .int ((0 : Int32)), .int x106, .int ((-1 : Int32)), .long ((0 : Int64))]) cf_L_119 (by decide) dL_refusesFilms_541 rfl rfl ⟨Nat.le_of_ble_eq_true rfl, Nat.le_of_ble_eq_true rfl⟩ ⟨Nat.le_of_ble_eq_true rfl, Nat.le_of_ble_eq_true rfl⟩ (Nat.le_of_ble_eq_true rfl) (fun X' hX => KL_call hX)) rfl rfl rfl rfl ⟨Nat.le_of_ble_eq_true rfl, Nat.le_of_ble_eq_true rfl⟩ rfl hF (fun x238 h237 hF => ?_)
                                                              refine jj_bipush (v := (-11 : Int32)) (pc' := 546) dL_refusesFilms_544 rfl rfl ?_
                                                              refine jj_icmp_ne (tgt := 612) (pc' := 549) dL_refusesFilms_546 rfl rfl (fun hc hF => ?_) (fun hc hF => ?_) hF
                                                              · skip
                                                                refine jj_iconst (v := (0 : Int32)) (pc' := 613) dL_refusesFilms_612 rfl rfl ?_
                                                                exact jj_retI (ty := .boolean) rfl rfl dL_refusesFilms_613 ⟨Nat.le_of_ble_eq_true rfl, Nat.le_of_ble_eq_true rfl⟩ hF
                                                              · skip
                                                                refine jj_aload_n (j := 3) (i := 0) (pc' := 550) dL_refusesFilms_549 rfl rfl rfl ?_
                                                                refine jj_bipush (v := (23 : Int32)) (pc' := 552) dL_refusesFilms_550 rfl rfl ?_
                                                                refine jj_iconst (v := (0 : Int32)) (pc' := 553) dL_refusesFilms_552 rfl rfl ?_
                                                                refine jj_iconst (v := (0 : Int32)) (pc' := 554) dL_refusesFilms_553 rfl rfl ?_
                                                                refine jj_iload (j := 0) (i := 4) (pc' := 556) dL_refusesFilms_554 rfl rfl ?_
                                                                refine jj_lconst (v := (0 : Int64)) (pc' := 557) dL_refusesFilms_556 rfl rfl ?_
                                                                refine jj_cI (N := M_L_call) (kc' := 1710) (ks' := 10260) (pc' := 560) (jg_H (N := M_L_call) (rest := []) (as := [.ref a0, .int ((23 : Int32)), .int ((0 : Int32)), .int ((0 : Int32)), .int x108, .long ((0 : Int64))]) cf_L_119 (by decide) dL_refusesFilms_557 rfl rfl ⟨Nat.le_of_ble_eq_true rfl, Nat.le_of_ble_eq_true rfl⟩ ⟨Nat.le_of_ble_eq_true rfl, Nat.le_of_ble_eq_true rfl⟩ (Nat.le_of_ble_eq_true rfl) (fun X' hX => KL_call hX)) rfl rfl rfl rfl ⟨Nat.le_of_ble_eq_true rfl, Nat.le_of_ble_eq_true rfl⟩ rfl hF (fun x240 h239 hF => ?_)
                                                                refine jj_bipush (v := (-12 : Int32)) (pc' := 562) dL_refusesFilms_560 rfl rfl ?_
                                                                refine jj_icmp_ne (tgt := 612) (pc' := 565) dL_refusesFilms_562 rfl rfl (fun hc hF => ?_) (fun hc hF => ?_) hF
                                                                · skip
                                                                  refine jj_iconst (v := (0 : Int32)) (pc' := 613) dL_refusesFilms_612 rfl rfl ?_
                                                                  exact jj_retI (ty := .boolean) rfl rfl dL_refusesFilms_613 ⟨Nat.le_of_ble_eq_true rfl, Nat.le_of_ble_eq_true rfl⟩ hF
                                                                · skip
                                                                  refine jj_aload_n (j := 3) (i := 0) (pc' := 566) dL_refusesFilms_565 rfl rfl rfl ?_
                                                                  refine jj_bipush (v := (24 : Int32)) (pc' := 568) dL_refusesFilms_566 rfl rfl ?_
                                                                  refine jj_iconst (v := (0 : Int32)) (pc' := 569) dL_refusesFilms_568 rfl rfl ?_
                                                                  refine jj_iload (j := 0) (i := 4) (pc' := 571) dL_refusesFilms_569 rfl rfl ?_
                                                                  refine jj_iconst (v := (0 : Int32)) (pc' := 572) dL_refusesFilms_571 rfl rfl ?_
                                                                  refine jj_lconst (v := (0 : Int64)) (pc' := 573) dL_refusesFilms_572 rfl rfl ?_
                                                                  refine jj_cI (N := M_L_call) (kc' := 1771) (ks' := 10626) (pc' := 576) (jg_H (N := M_L_call) (rest := []) (as := [.ref a0, .int ((24 : Int32)), .int ((0 : Int32)), .int x108, .int ((0 : Int32)), .long ((0 : Int64))]) cf_L_119 (by decide) dL_refusesFilms_573 rfl rfl ⟨Nat.le_of_ble_eq_true rfl, Nat.le_of_ble_eq_true rfl⟩ ⟨Nat.le_of_ble_eq_true rfl, Nat.le_of_ble_eq_true rfl⟩ (Nat.le_of_ble_eq_true rfl) (fun X' hX => KL_call hX)) rfl rfl rfl rfl ⟨Nat.le_of_ble_eq_true rfl, Nat.le_of_ble_eq_true rfl⟩ rfl hF (fun x242 h241 hF => ?_)
                                                                  refine jj_bipush (v := (-12 : Int32)) (pc' := 578) dL_refusesFilms_576 rfl rfl ?_
                                                                  refine jj_icmp_ne (tgt := 612) (pc' := 581) dL_refusesFilms_578 rfl rfl (fun hc hF => ?_) (fun hc hF => ?_) hF
                                                                  · skip
                                                                    refine jj_iconst (v := (0 : Int32)) (pc' := 613) dL_refusesFilms_612 rfl rfl ?_
                                                                    exact jj_retI (ty := .boolean) rfl rfl dL_refusesFilms_613 ⟨Nat.le_of_ble_eq_true rfl, Nat.le_of_ble_eq_true rfl⟩ hF
                                                                  · skip
                                                                    refine jj_aload_n (j := 3) (i := 0) (pc' := 582) dL_refusesFilms_581 rfl rfl rfl ?_
                                                                    refine jj_bipush (v := (25 : Int32)) (pc' := 584) dL_refusesFilms_582 rfl rfl ?_
                                                                    refine jj_iconst (v := (0 : Int32)) (pc' := 585) dL_refusesFilms_584 rfl rfl ?_
                                                                    refine jj_iload_n (j := 1) (i := 3) (pc' := 586) dL_refusesFilms_585 rfl rfl rfl ?_
                                                                    refine jj_iconst (v := (-1 : Int32)) (pc' := 587) dL_refusesFilms_586 rfl rfl ?_
                                                                    refine jj_lconst (v := (0 : Int64)) (pc' := 588) dL_refusesFilms_587 rfl rfl ?_
                                                                    refine jj_cI (N := M_L_call) (kc' := 1832) (ks' := 10992) (pc' := 591) (jg_H (N := M_L_call) (rest := []) (as := [.ref a0, .int ((25 : Int32)), .int ((0 : Int32)), .int x106, .int ((-1 : Int32)), .long ((0 : Int64))]) cf_L_119 (by decide) dL_refusesFilms_588 rfl rfl ⟨Nat.le_of_ble_eq_true rfl, Nat.le_of_ble_eq_true rfl⟩ ⟨Nat.le_of_ble_eq_true rfl, Nat.le_of_ble_eq_true rfl⟩ (Nat.le_of_ble_eq_true rfl) (fun X' hX => KL_call hX)) rfl rfl rfl rfl ⟨Nat.le_of_ble_eq_true rfl, Nat.le_of_ble_eq_true rfl⟩ rfl hF (fun x244 h243 hF => ?_)
                                                                    refine jj_bipush (v := (-11 : Int32)) (pc' := 593) dL_refusesFilms_591 rfl rfl ?_
                                                                    refine jj_icmp_ne (tgt := 612) (pc' := 596) dL_refusesFilms_593 rfl rfl (fun hc hF => ?_) (fun hc hF => ?_) hF
                                                                    · skip
                                                                      refine jj_iconst (v := (0 : Int32)) (pc' := 613) dL_refusesFilms_612 rfl rfl ?_
                                                                      exact jj_retI (ty := .boolean) rfl rfl dL_refusesFilms_613 ⟨Nat.le_of_ble_eq_true rfl, Nat.le_of_ble_eq_true rfl⟩ hF
                                                                    · skip
                                                                      refine jj_aload_n (j := 3) (i := 0) (pc' := 597) dL_refusesFilms_596 rfl rfl rfl ?_
                                                                      refine jj_bipush (v := (25 : Int32)) (pc' := 599) dL_refusesFilms_597 rfl rfl ?_
                                                                      refine jj_iconst (v := (0 : Int32)) (pc' := 600) dL_refusesFilms_599 rfl rfl ?_
                                                                      refine jj_iconst (v := (1 : Int32)) (pc' := 601) dL_refusesFilms_600 rfl rfl ?_
                                                                      refine jj_iload (j := 0) (i := 4) (pc' := 603) dL_refusesFilms_601 rfl rfl ?_
                                                                      refine jj_lconst (v := (0 : Int64)) (pc' := 604) dL_refusesFilms_603 rfl rfl ?_
                                                                      refine jj_cI (N := M_L_call) (kc' := 1893) (ks' := 11358) (pc' := 607) (jg_H (N := M_L_call) (rest := []) (as := [.ref a0, .int ((25 : Int32)), .int ((0 : Int32)), .int ((1 : Int32)), .int x108, .long ((0 : Int64))]) cf_L_119 (by decide) dL_refusesFilms_604 rfl rfl ⟨Nat.le_of_ble_eq_true rfl, Nat.le_of_ble_eq_true rfl⟩ ⟨Nat.le_of_ble_eq_true rfl, Nat.le_of_ble_eq_true rfl⟩ (Nat.le_of_ble_eq_true rfl) (fun X' hX => KL_call hX)) rfl rfl rfl rfl ⟨Nat.le_of_ble_eq_true rfl, Nat.le_of_ble_eq_true rfl⟩ rfl hF (fun x246 h245 hF => ?_)
                                                                      refine jj_bipush (v := (-12 : Int32)) (pc' := 609) dL_refusesFilms_607 rfl rfl ?_
                                                                      refine jj_icmp_eq (tgt := 614) (pc' := 612) dL_refusesFilms_609 rfl rfl (fun hc hF => ?_) (fun hc hF => ?_) hF
                                                                      · skip
                                                                        refine jj_aload_n (j := 3) (i := 0) (pc' := 615) dL_refusesFilms_614 rfl rfl rfl ?_
                                                                        refine jj_bipush (v := (17 : Int32)) (pc' := 617) dL_refusesFilms_615 rfl rfl ?_
                                                                        refine jj_iload_n (j := 1) (i := 3) (pc' := 618) dL_refusesFilms_617 rfl rfl rfl ?_
                                                                        refine jj_iconst (v := (-1 : Int32)) (pc' := 619) dL_refusesFilms_618 rfl rfl ?_
                                                                        refine jj_iconst (v := (0 : Int32)) (pc' := 620) dL_refusesFilms_619 rfl rfl ?_
                                                                        refine jj_lconst (v := (0 : Int64)) (pc' := 621) dL_refusesFilms_620 rfl rfl ?_
                                                                        refine jj_cI (N := M_L_call) (kc' := 1954) (ks' := 11724) (pc' := 624) (jg_H (N := M_L_call) (rest := []) (as := [.ref a0, .int ((17 : Int32)), .int x106, .int ((-1 : Int32)), .int ((0 : Int32)), .long ((0 : Int64))]) cf_L_119 (by decide) dL_refusesFilms_621 rfl rfl ⟨Nat.le_of_ble_eq_true rfl, Nat.le_of_ble_eq_true rfl⟩ ⟨Nat.le_of_ble_eq_true rfl, Nat.le_of_ble_eq_true rfl⟩ (Nat.le_of_ble_eq_true rfl) (fun X' hX => KL_call hX)) rfl rfl rfl rfl ⟨Nat.le_of_ble_eq_true rfl, Nat.le_of_ble_eq_true rfl⟩ rfl hF (fun x248 h247 hF => ?_)
                                                                        refine jj_bipush (v := (-11 : Int32)) (pc' := 626) dL_refusesFilms_624 rfl rfl ?_
                                                                        refine jj_icmp_ne (tgt := 721) (pc' := 629) dL_refusesFilms_626 rfl rfl (fun hc hF => ?_) (fun hc hF => ?_) hF
                                                                        · skip
                                                                          refine jj_iconst (v := (0 : Int32)) (pc' := 722) dL_refusesFilms_721 rfl rfl ?_
                                                                          exact jj_retI (ty := .boolean) rfl rfl dL_refusesFilms_722 ⟨Nat.le_of_ble_eq_true rfl, Nat.le_of_ble_eq_true rfl⟩ hF
                                                                        · skip
                                                                          refine jj_aload_n (j := 3) (i := 0) (pc' := 630) dL_refusesFilms_629 rfl rfl rfl ?_
                                                                          refine jj_bipush (v := (17 : Int32)) (pc' := 632) dL_refusesFilms_630 rfl rfl ?_
                                                                          refine jj_iconst (v := (2 : Int32)) (pc' := 633) dL_refusesFilms_632 rfl rfl ?_
                                                                          refine jj_iload (j := 0) (i := 4) (pc' := 635) dL_refusesFilms_633 rfl rfl ?_
                                                                          refine jj_iconst (v := (0 : Int32)) (pc' := 636) dL_refusesFilms_635 rfl rfl ?_
                                                                          refine jj_lconst (v := (0 : Int64)) (pc' := 637) dL_refusesFilms_636 rfl rfl ?_
                                                                          refine jj_cI (N := M_L_call) (kc' := 2015) (ks' := 12090) (pc' := 640) (jg_H (N := M_L_call) (rest := []) (as := [.ref a0, .int ((17 : Int32)), .int ((2 : Int32)), .int x108, .int ((0 : Int32)), .long ((0 : Int64))]) cf_L_119 (by decide) dL_refusesFilms_637 rfl rfl ⟨Nat.le_of_ble_eq_true rfl, Nat.le_of_ble_eq_true rfl⟩ ⟨Nat.le_of_ble_eq_true rfl, Nat.le_of_ble_eq_true rfl⟩ (Nat.le_of_ble_eq_true rfl) (fun X' hX => KL_call hX)) rfl rfl rfl rfl ⟨Nat.le_of_ble_eq_true rfl, Nat.le_of_ble_eq_true rfl⟩ rfl hF (fun x250 h249 hF => ?_)
                                                                          refine jj_bipush (v := (-12 : Int32)) (pc' := 642) dL_refusesFilms_640 rfl rfl ?_
                                                                          refine jj_icmp_ne (tgt := 721) (pc' := 645) dL_refusesFilms_642 rfl rfl (fun hc hF => ?_) (fun hc hF => ?_) hF
                                                                          · skip
                                                                            refine jj_iconst (v := (0 : Int32)) (pc' := 722) dL_refusesFilms_721 rfl rfl ?_
                                                                            exact jj_retI (ty := .boolean) rfl rfl dL_refusesFilms_722 ⟨Nat.le_of_ble_eq_true rfl, Nat.le_of_ble_eq_true rfl⟩ hF
                                                                          · skip
                                                                            refine jj_aload_n (j := 3) (i := 0) (pc' := 646) dL_refusesFilms_645 rfl rfl rfl ?_
                                                                            refine jj_bipush (v := (18 : Int32)) (pc' := 648) dL_refusesFilms_646 rfl rfl ?_
                                                                            refine jj_iload_n (j := 1) (i := 3) (pc' := 649) dL_refusesFilms_648 rfl rfl rfl ?_
                                                                            refine jj_bipush (v := (9 : Int32)) (pc' := 651) dL_refusesFilms_649 rfl rfl ?_
                                                                            refine jj_iconst (v := (0 : Int32)) (pc' := 652) dL_refusesFilms_651 rfl rfl ?_
                                                                            refine jj_lconst (v := (0 : Int64)) (pc' := 653) dL_refusesFilms_652 rfl rfl ?_
                                                                            refine jj_cI (N := M_L_call) (kc' := 2076) (ks' := 12456) (pc' := 656) (jg_H (N := M_L_call) (rest := []) (as := [.ref a0, .int ((18 : Int32)), .int x106, .int ((9 : Int32)), .int ((0 : Int32)), .long ((0 : Int64))]) cf_L_119 (by decide) dL_refusesFilms_653 rfl rfl ⟨Nat.le_of_ble_eq_true rfl, Nat.le_of_ble_eq_true rfl⟩ ⟨Nat.le_of_ble_eq_true rfl, Nat.le_of_ble_eq_true rfl⟩ (Nat.le_of_ble_eq_true rfl) (fun X' hX => KL_call hX)) rfl rfl rfl rfl ⟨Nat.le_of_ble_eq_true rfl, Nat.le_of_ble_eq_true rfl⟩ rfl hF (fun x252 h251 hF => ?_)
                                                                            refine jj_bipush (v := (-11 : Int32)) (pc' := 658) dL_refusesFilms_656 rfl rfl ?_
                                                                            refine jj_icmp_ne (tgt := 721) (pc' := 661) dL_refusesFilms_658 rfl rfl (fun hc hF => ?_) (fun hc hF => ?_) hF
                                                                            · skip
                                                                              refine jj_iconst (v := (0 : Int32)) (pc' := 722) dL_refusesFilms_721 rfl rfl ?_
                                                                              exact jj_retI (ty := .boolean) rfl rfl dL_refusesFilms_722 ⟨Nat.le_of_ble_eq_true rfl, Nat.le_of_ble_eq_true rfl⟩ hF
                                                                            · skip
                                                                              refine jj_aload_n (j := 3) (i := 0) (pc' := 662) dL_refusesFilms_661 rfl rfl rfl ?_
                                                                              refine jj_bipush (v := (18 : Int32)) (pc' := 664) dL_refusesFilms_662 rfl rfl ?_
                                                                              refine jj_iconst (v := (0 : Int32)) (pc' := 665) dL_refusesFilms_664 rfl rfl ?_
                                                                              refine jj_iload_n (j := 4) (i := 1) (pc' := 666) dL_refusesFilms_665 rfl rfl rfl ?_
                                                                              refine jj_iconst (v := (0 : Int32)) (pc' := 667) dL_refusesFilms_666 rfl rfl ?_
                                                                              refine jj_iconst (v := (4 : Int32)) (pc' := 668) dL_refusesFilms_667 rfl rfl ?_
                                                                              refine jj_cI (N := M_L_far) (kc' := 2076) (ks' := 12456) (pc' := 671) (jg_S (N := M_L_far) (rest := [.int ((0 : Int32)), .int ((18 : Int32)), .ref a0]) (as := [.int x1, .int ((0 : Int32)), .int ((4 : Int32))]) cf_L_114 rfl dL_refusesFilms_668 rfl rfl ⟨Nat.le_of_ble_eq_true rfl, Nat.le_of_ble_eq_true rfl⟩ ⟨Nat.le_of_ble_eq_true rfl, Nat.le_of_ble_eq_true rfl⟩ (Nat.le_of_ble_eq_true rfl) (fun X' hX => KL_far hX)) rfl rfl rfl rfl ⟨Nat.le_of_ble_eq_true rfl, Nat.le_of_ble_eq_true rfl⟩ rfl hF (fun x254 h253 hF => ?_)
                                                                              refine jj_iconst (v := (0 : Int32)) (pc' := 672) dL_refusesFilms_671 rfl rfl ?_
                                                                              refine jj_lconst (v := (0 : Int64)) (pc' := 673) dL_refusesFilms_672 rfl rfl ?_
                                                                              refine jj_cI (N := M_L_call) (kc' := 2137) (ks' := 12822) (pc' := 676) (jg_H (N := M_L_call) (rest := []) (as := [.ref a0, .int ((18 : Int32)), .int ((0 : Int32)), .int x254, .int ((0 : Int32)), .long ((0 : Int64))]) cf_L_119 (by decide) dL_refusesFilms_673 rfl rfl ⟨Nat.le_of_ble_eq_true rfl, Nat.le_of_ble_eq_true rfl⟩ ⟨Nat.le_of_ble_eq_true rfl, Nat.le_of_ble_eq_true rfl⟩ (Nat.le_of_ble_eq_true rfl) (fun X' hX => KL_call hX)) rfl rfl rfl rfl ⟨Nat.le_of_ble_eq_true rfl, Nat.le_of_ble_eq_true rfl⟩ rfl hF (fun x256 h255 hF => ?_)
                                                                              refine jj_bipush (v := (-12 : Int32)) (pc' := 678) dL_refusesFilms_676 rfl rfl ?_
                                                                              refine jj_icmp_ne (tgt := 721) (pc' := 681) dL_refusesFilms_678 rfl rfl (fun hc hF => ?_) (fun hc hF => ?_) hF
                                                                              · skip
                                                                                refine jj_iconst (v := (0 : Int32)) (pc' := 722) dL_refusesFilms_721 rfl rfl ?_
                                                                                exact jj_retI (ty := .boolean) rfl rfl dL_refusesFilms_722 ⟨Nat.le_of_ble_eq_true rfl, Nat.le_of_ble_eq_true rfl⟩ hF
                                                                              · skip
                                                                                refine jj_aload_n (j := 3) (i := 0) (pc' := 682) dL_refusesFilms_681 rfl rfl rfl ?_
                                                                                refine jj_bipush (v := (21 : Int32)) (pc' := 684) dL_refusesFilms_682 rfl rfl ?_
                                                                                refine jj_iload_n (j := 4) (i := 1) (pc' := 685) dL_refusesFilms_684 rfl rfl rfl ?_
                                                                                refine jj_iconst (v := (0 : Int32)) (pc' := 686) dL_refusesFilms_685 rfl rfl ?_
                                                                                refine jj_bipush (v := (11 : Int32)) (pc' := 688) dL_refusesFilms_686 rfl rfl ?_
                                                                                refine jj_cI (N := M_L_far) (kc' := 2137) (ks' := 12822) (pc' := 691) (jg_S (N := M_L_far) (rest := [.int ((21 : Int32)), .ref a0]) (as := [.int x1, .int ((0 : Int32)), .int ((11 : Int32))]) cf_L_114 rfl dL_refusesFilms_688 rfl rfl ⟨Nat.le_of_ble_eq_true rfl, Nat.le_of_ble_eq_true rfl⟩ ⟨Nat.le_of_ble_eq_true rfl, Nat.le_of_ble_eq_true rfl⟩ (Nat.le_of_ble_eq_true rfl) (fun X' hX => KL_far hX)) rfl rfl rfl rfl ⟨Nat.le_of_ble_eq_true rfl, Nat.le_of_ble_eq_true rfl⟩ rfl hF (fun x258 h257 hF => ?_)
                                                                                refine jj_iconst (v := (0 : Int32)) (pc' := 692) dL_refusesFilms_691 rfl rfl ?_
                                                                                refine jj_iconst (v := (0 : Int32)) (pc' := 693) dL_refusesFilms_692 rfl rfl ?_
                                                                                refine jj_lconst (v := (0 : Int64)) (pc' := 694) dL_refusesFilms_693 rfl rfl ?_
                                                                                refine jj_cI (N := M_L_call) (kc' := 2198) (ks' := 13188) (pc' := 697) (jg_H (N := M_L_call) (rest := []) (as := [.ref a0, .int ((21 : Int32)), .int x258, .int ((0 : Int32)), .int ((0 : Int32)), .long ((0 : Int64))]) cf_L_119 (by decide) dL_refusesFilms_694 rfl rfl ⟨Nat.le_of_ble_eq_true rfl, Nat.le_of_ble_eq_true rfl⟩ ⟨Nat.le_of_ble_eq_true rfl, Nat.le_of_ble_eq_true rfl⟩ (Nat.le_of_ble_eq_true rfl) (fun X' hX => KL_call hX)) rfl rfl rfl rfl ⟨Nat.le_of_ble_eq_true rfl, Nat.le_of_ble_eq_true rfl⟩ rfl hF (fun x260 h259 hF => ?_)
                                                                                refine jj_bipush (v := (-12 : Int32)) (pc' := 699) dL_refusesFilms_697 rfl rfl ?_
                                                                                refine jj_icmp_ne (tgt := 721) (pc' := 702) dL_refusesFilms_699 rfl rfl (fun hc hF => ?_) (fun hc hF => ?_) hF
                                                                                · skip
                                                                                  refine jj_iconst (v := (0 : Int32)) (pc' := 722) dL_refusesFilms_721 rfl rfl ?_
                                                                                  exact jj_retI (ty := .boolean) rfl rfl dL_refusesFilms_722 ⟨Nat.le_of_ble_eq_true rfl, Nat.le_of_ble_eq_true rfl⟩ hF
                                                                                · skip
                                                                                  refine jj_aload_n (j := 3) (i := 0) (pc' := 703) dL_refusesFilms_702 rfl rfl rfl ?_
                                                                                  refine jj_bipush (v := (26 : Int32)) (pc' := 705) dL_refusesFilms_703 rfl rfl ?_
                                                                                  refine jj_iload_n (j := 1) (i := 3) (pc' := 706) dL_refusesFilms_705 rfl rfl rfl ?_
                                                                                  refine jj_iconst (v := (0 : Int32)) (pc' := 707) dL_refusesFilms_706 rfl rfl ?_
                                                                                  refine jj_iconst (v := (0 : Int32)) (pc' := 708) dL_refusesFilms_707 rfl rfl ?_
                                                                                  refine jj_lconst (v := (0 : Int64)) (pc' := 709) dL_refusesFilms_708 rfl rfl ?_
                                                                                  refine jj_cI (N := M_L_call) (kc' := 2259) (ks' := 13554) (pc' := 712) (jg_H (N := M_L_call) (rest := []) (as := [.ref a0, .int ((26 : Int32)), .int x106, .int ((0 : Int32)), .int ((0 : Int32)), .long ((0 : Int64))]) cf_L_119 (by decide) dL_refusesFilms_709 rfl rfl ⟨Nat.le_of_ble_eq_true rfl, Nat.le_of_ble_eq_true rfl⟩ ⟨Nat.le_of_ble_eq_true rfl, Nat.le_of_ble_eq_true rfl⟩ (Nat.le_of_ble_eq_true rfl) (fun X' hX => KL_call hX)) rfl rfl rfl rfl ⟨Nat.le_of_ble_eq_true rfl, Nat.le_of_ble_eq_true rfl⟩ rfl hF (fun x262 h261 hF => ?_)
                                                                                  refine jj_bipush (v := (-11 : Int32)) (pc' := 714) dL_refusesFilms_712 rfl rfl ?_
                                                                                  refine jj_icmp_ne (tgt := 721) (pc' := 717) dL_refusesFilms_714 rfl rfl (fun hc hF => ?_) (fun hc hF => ?_) hF
                                                                                  · skip
                                                                                    refine jj_iconst (v := (0 : Int32)) (pc' := 722) dL_refusesFilms_721 rfl rfl ?_
                                                                                    exact jj_retI (ty := .boolean) rfl rfl dL_refusesFilms_722 ⟨Nat.le_of_ble_eq_true rfl, Nat.le_of_ble_eq_true rfl⟩ hF
                                                                                  · skip
                                                                                    refine jj_iconst (v := (1 : Int32)) (pc' := 718) dL_refusesFilms_717 rfl rfl ?_
                                                                                    refine jj_goto (tgt := 722) dL_refusesFilms_718 rfl ?_
                                                                                    exact jj_retI (ty := .boolean) rfl rfl dL_refusesFilms_722 ⟨Nat.le_of_ble_eq_true rfl, Nat.le_of_ble_eq_true rfl⟩ hF
                                                                      · skip
                                                                        refine jj_iconst (v := (0 : Int32)) (pc' := 613) dL_refusesFilms_612 rfl rfl ?_
                                                                        exact jj_retI (ty := .boolean) rfl rfl dL_refusesFilms_613 ⟨Nat.le_of_ble_eq_true rfl, Nat.le_of_ble_eq_true rfl⟩ hF
                                              · skip
                                                refine jj_sipush (v := (700 : Int32)) (pc' := 416) dL_refusesFilms_413 rfl rfl ?_
                                                refine jj_goto (tgt := 436) dL_refusesFilms_416 rfl ?_
                                                refine jj_lconst (v := (0 : Int64)) (pc' := 437) dL_refusesFilms_436 rfl rfl ?_
                                                refine jj_cI (N := M_L_call) (kc' := 1283) (ks' := 7698) (pc' := 440) (jg_H (N := M_L_call) (rest := []) (as := [.ref a0, .int ((6 : Int32)), .int ((0 : Int32)), .int ((700 : Int32)), .int ((700 : Int32)), .long ((0 : Int64))]) cf_L_119 (by decide) dL_refusesFilms_437 rfl rfl ⟨Nat.le_of_ble_eq_true rfl, Nat.le_of_ble_eq_true rfl⟩ ⟨Nat.le_of_ble_eq_true rfl, Nat.le_of_ble_eq_true rfl⟩ (Nat.le_of_ble_eq_true rfl) (fun X' hX => KL_call hX)) rfl rfl rfl rfl ⟨Nat.le_of_ble_eq_true rfl, Nat.le_of_ble_eq_true rfl⟩ rfl hF (fun x264 h263 hF => ?_)
                                                refine jj_bipush (v := (-12 : Int32)) (pc' := 442) dL_refusesFilms_440 rfl rfl ?_
                                                refine jj_icmp_ne (tgt := 612) (pc' := 445) dL_refusesFilms_442 rfl rfl (fun hc hF => ?_) (fun hc hF => ?_) hF
                                                · skip
                                                  refine jj_iconst (v := (0 : Int32)) (pc' := 613) dL_refusesFilms_612 rfl rfl ?_
                                                  exact jj_retI (ty := .boolean) rfl rfl dL_refusesFilms_613 ⟨Nat.le_of_ble_eq_true rfl, Nat.le_of_ble_eq_true rfl⟩ hF
                                                · skip
                                                  refine jj_aload_n (j := 3) (i := 0) (pc' := 446) dL_refusesFilms_445 rfl rfl rfl ?_
                                                  refine jj_bipush (v := (14 : Int32)) (pc' := 448) dL_refusesFilms_446 rfl rfl ?_
                                                  refine jj_iconst (v := (0 : Int32)) (pc' := 449) dL_refusesFilms_448 rfl rfl ?_
                                                  refine jj_iload_n (j := 4) (i := 1) (pc' := 450) dL_refusesFilms_449 rfl rfl rfl ?_
                                                  refine jj_iconst (v := (0 : Int32)) (pc' := 451) dL_refusesFilms_450 rfl rfl ?_
                                                  refine jj_iconst (v := (5 : Int32)) (pc' := 452) dL_refusesFilms_451 rfl rfl ?_
                                                  refine jj_cI (N := M_L_far) (kc' := 1283) (ks' := 7698) (pc' := 455) (jg_S (N := M_L_far) (rest := [.int ((0 : Int32)), .int ((14 : Int32)), .ref a0]) (as := [.int x1, .int ((0 : Int32)), .int ((5 : Int32))]) cf_L_114 rfl dL_refusesFilms_452 rfl rfl ⟨Nat.le_of_ble_eq_true rfl, Nat.le_of_ble_eq_true rfl⟩ ⟨Nat.le_of_ble_eq_true rfl, Nat.le_of_ble_eq_true rfl⟩ (Nat.le_of_ble_eq_true rfl) (fun X' hX => KL_far hX)) rfl rfl rfl rfl ⟨Nat.le_of_ble_eq_true rfl, Nat.le_of_ble_eq_true rfl⟩ rfl hF (fun x266 h265 hF => ?_)
                                                  refine jj_iconst (v := (0 : Int32)) (pc' := 456) dL_refusesFilms_455 rfl rfl ?_
                                                  refine jj_lconst (v := (0 : Int64)) (pc' := 457) dL_refusesFilms_456 rfl rfl ?_
                                                  refine jj_cI (N := M_L_call) (kc' := 1344) (ks' := 8064) (pc' := 460) (jg_H (N := M_L_call) (rest := []) (as := [.ref a0, .int ((14 : Int32)), .int ((0 : Int32)), .int x266, .int ((0 : Int32)), .long ((0 : Int64))]) cf_L_119 (by decide) dL_refusesFilms_457 rfl rfl ⟨Nat.le_of_ble_eq_true rfl, Nat.le_of_ble_eq_true rfl⟩ ⟨Nat.le_of_ble_eq_true rfl, Nat.le_of_ble_eq_true rfl⟩ (Nat.le_of_ble_eq_true rfl) (fun X' hX => KL_call hX)) rfl rfl rfl rfl ⟨Nat.le_of_ble_eq_true rfl, Nat.le_of_ble_eq_true rfl⟩ rfl hF (fun x268 h267 hF => ?_)
                                                  refine jj_bipush (v := (-12 : Int32)) (pc' := 462) dL_refusesFilms_460 rfl rfl ?_
                                                  refine jj_icmp_ne (tgt := 612) (pc' := 465) dL_refusesFilms_462 rfl rfl (fun hc hF => ?_) (fun hc hF => ?_) hF
                                                  · skip
                                                    refine jj_iconst (v := (0 : Int32)) (pc' := 613) dL_refusesFilms_612 rfl rfl ?_
                                                    exact jj_retI (ty := .boolean) rfl rfl dL_refusesFilms_613 ⟨Nat.le_of_ble_eq_true rfl, Nat.le_of_ble_eq_true rfl⟩ hF
                                                  · skip
                                                    refine jj_aload_n (j := 3) (i := 0) (pc' := 466) dL_refusesFilms_465 rfl rfl rfl ?_
                                                    refine jj_bipush (v := (22 : Int32)) (pc' := 468) dL_refusesFilms_466 rfl rfl ?_
                                                    refine jj_iconst (v := (0 : Int32)) (pc' := 469) dL_refusesFilms_468 rfl rfl ?_
                                                    refine jj_iload_n (j := 1) (i := 3) (pc' := 470) dL_refusesFilms_469 rfl rfl rfl ?_
                                                    refine jj_iconst (v := (-1 : Int32)) (pc' := 471) dL_refusesFilms_470 rfl rfl ?_
                                                    refine jj_ldc2l (v := (500 : Int64)) (pc' := 474) dL_refusesFilms_471 qw_78 rfl ?_
                                                    refine jj_cI (N := M_L_call) (kc' := 1405) (ks' := 8430) (pc' := 477) (jg_H (N := M_L_call) (rest := []) (as := [.ref a0, .int ((22 : Int32)), .int ((0 : Int32)), .int x106, .int ((-1 : Int32)), .long ((500 : Int64))]) cf_L_119 (by decide) dL_refusesFilms_474 rfl rfl ⟨Nat.le_of_ble_eq_true rfl, Nat.le_of_ble_eq_true rfl⟩ ⟨Nat.le_of_ble_eq_true rfl, Nat.le_of_ble_eq_true rfl⟩ (Nat.le_of_ble_eq_true rfl) (fun X' hX => KL_call hX)) rfl rfl rfl rfl ⟨Nat.le_of_ble_eq_true rfl, Nat.le_of_ble_eq_true rfl⟩ rfl hF (fun x270 h269 hF => ?_)
                                                    refine jj_bipush (v := (-11 : Int32)) (pc' := 479) dL_refusesFilms_477 rfl rfl ?_
                                                    refine jj_icmp_ne (tgt := 612) (pc' := 482) dL_refusesFilms_479 rfl rfl (fun hc hF => ?_) (fun hc hF => ?_) hF
                                                    · skip
                                                      refine jj_iconst (v := (0 : Int32)) (pc' := 613) dL_refusesFilms_612 rfl rfl ?_
                                                      exact jj_retI (ty := .boolean) rfl rfl dL_refusesFilms_613 ⟨Nat.le_of_ble_eq_true rfl, Nat.le_of_ble_eq_true rfl⟩ hF
                                                    · skip
                                                      refine jj_aload_n (j := 3) (i := 0) (pc' := 483) dL_refusesFilms_482 rfl rfl rfl ?_
                                                      refine jj_bipush (v := (22 : Int32)) (pc' := 485) dL_refusesFilms_483 rfl rfl ?_
                                                      refine jj_iconst (v := (0 : Int32)) (pc' := 486) dL_refusesFilms_485 rfl rfl ?_
                                                      refine jj_iconst (v := (2 : Int32)) (pc' := 487) dL_refusesFilms_486 rfl rfl ?_
                                                      refine jj_iload (j := 0) (i := 4) (pc' := 489) dL_refusesFilms_487 rfl rfl ?_
                                                      refine jj_ldc2l (v := (500 : Int64)) (pc' := 492) dL_refusesFilms_489 qw_78 rfl ?_
                                                      refine jj_cI (N := M_L_call) (kc' := 1466) (ks' := 8796) (pc' := 495) (jg_H (N := M_L_call) (rest := []) (as := [.ref a0, .int ((22 : Int32)), .int ((0 : Int32)), .int ((2 : Int32)), .int x108, .long ((500 : Int64))]) cf_L_119 (by decide) dL_refusesFilms_492 rfl rfl ⟨Nat.le_of_ble_eq_true rfl, Nat.le_of_ble_eq_true rfl⟩ ⟨Nat.le_of_ble_eq_true rfl, Nat.le_of_ble_eq_true rfl⟩ (Nat.le_of_ble_eq_true rfl) (fun X' hX => KL_call hX)) rfl rfl rfl rfl ⟨Nat.le_of_ble_eq_true rfl, Nat.le_of_ble_eq_true rfl⟩ rfl hF (fun x272 h271 hF => ?_)
                                                      refine jj_bipush (v := (-12 : Int32)) (pc' := 497) dL_refusesFilms_495 rfl rfl ?_
                                                      refine jj_icmp_ne (tgt := 612) (pc' := 500) dL_refusesFilms_497 rfl rfl (fun hc hF => ?_) (fun hc hF => ?_) hF
                                                      · skip
                                                        refine jj_iconst (v := (0 : Int32)) (pc' := 613) dL_refusesFilms_612 rfl rfl ?_
                                                        exact jj_retI (ty := .boolean) rfl rfl dL_refusesFilms_613 ⟨Nat.le_of_ble_eq_true rfl, Nat.le_of_ble_eq_true rfl⟩ hF
                                                      · skip
                                                        refine jj_aload_n (j := 3) (i := 0) (pc' := 501) dL_refusesFilms_500 rfl rfl rfl ?_
                                                        refine jj_bipush (v := (22 : Int32)) (pc' := 503) dL_refusesFilms_501 rfl rfl ?_
                                                        refine jj_iconst (v := (0 : Int32)) (pc' := 504) dL_refusesFilms_503 rfl rfl ?_
                                                        refine jj_iconst (v := (2 : Int32)) (pc' := 505) dL_refusesFilms_504 rfl rfl ?_
                                                        refine jj_iconst (v := (0 : Int32)) (pc' := 506) dL_refusesFilms_505 rfl rfl ?_
                                                        refine jj_ldc2l (v := (521 : Int64)) (pc' := 509) dL_refusesFilms_506 qw_79 rfl ?_
                                                        refine jj_cI (N := M_L_call) (kc' := 1527) (ks' := 9162) (pc' := 512) (jg_H (N := M_L_call) (rest := []) (as := [.ref a0, .int ((22 : Int32)), .int ((0 : Int32)), .int ((2 : Int32)), .int ((0 : Int32)), .long ((521 : Int64))]) cf_L_119 (by decide) dL_refusesFilms_509 rfl rfl ⟨Nat.le_of_ble_eq_true rfl, Nat.le_of_ble_eq_true rfl⟩ ⟨Nat.le_of_ble_eq_true rfl, Nat.le_of_ble_eq_true rfl⟩ (Nat.le_of_ble_eq_true rfl) (fun X' hX => KL_call hX)) rfl rfl rfl rfl ⟨Nat.le_of_ble_eq_true rfl, Nat.le_of_ble_eq_true rfl⟩ rfl hF (fun x274 h273 hF => ?_)
                                                        refine jj_bipush (v := (-12 : Int32)) (pc' := 514) dL_refusesFilms_512 rfl rfl ?_
                                                        refine jj_icmp_ne (tgt := 612) (pc' := 517) dL_refusesFilms_514 rfl rfl (fun hc hF => ?_) (fun hc hF => ?_) hF
                                                        · skip
                                                          refine jj_iconst (v := (0 : Int32)) (pc' := 613) dL_refusesFilms_612 rfl rfl ?_
                                                          exact jj_retI (ty := .boolean) rfl rfl dL_refusesFilms_613 ⟨Nat.le_of_ble_eq_true rfl, Nat.le_of_ble_eq_true rfl⟩ hF
                                                        · skip
                                                          refine jj_aload_n (j := 3) (i := 0) (pc' := 518) dL_refusesFilms_517 rfl rfl rfl ?_
                                                          refine jj_bipush (v := (22 : Int32)) (pc' := 520) dL_refusesFilms_518 rfl rfl ?_
                                                          refine jj_iconst (v := (0 : Int32)) (pc' := 521) dL_refusesFilms_520 rfl rfl ?_
                                                          refine jj_iconst (v := (2 : Int32)) (pc' := 522) dL_refusesFilms_521 rfl rfl ?_
                                                          refine jj_iconst (v := (0 : Int32)) (pc' := 523) dL_refusesFilms_522 rfl rfl ?_
                                                          refine jj_ldc2l (v := (3500 : Int64)) (pc' := 526) dL_refusesFilms_523 qw_80 rfl ?_
                                                          refine jj_cI (N := M_L_call) (kc' := 1588) (ks' := 9528) (pc' := 529) (jg_H (N := M_L_call) (rest := []) (as := [.ref a0, .int ((22 : Int32)), .int ((0 : Int32)), .int ((2 : Int32)), .int ((0 : Int32)), .long ((3500 : Int64))]) cf_L_119 (by decide) dL_refusesFilms_526 rfl rfl ⟨Nat.le_of_ble_eq_true rfl, Nat.le_of_ble_eq_true rfl⟩ ⟨Nat.le_of_ble_eq_true rfl, Nat.le_of_ble_eq_true rfl⟩ (Nat.le_of_ble_eq_true rfl) (fun X' hX => KL_call hX)) rfl rfl rfl rfl ⟨Nat.le_of_ble_eq_true rfl, Nat.le_of_ble_eq_true rfl⟩ rfl hF (fun x276 h275 hF => ?_)
                                                          refine jj_bipush (v := (-12 : Int32)) (pc' := 531) dL_refusesFilms_529 rfl rfl ?_
                                                          refine jj_icmp_ne (tgt := 612) (pc' := 534) dL_refusesFilms_531 rfl rfl (fun hc hF => ?_) (fun hc hF => ?_) hF
                                                          · skip
                                                            refine jj_iconst (v := (0 : Int32)) (pc' := 613) dL_refusesFilms_612 rfl rfl ?_
                                                            exact jj_retI (ty := .boolean) rfl rfl dL_refusesFilms_613 ⟨Nat.le_of_ble_eq_true rfl, Nat.le_of_ble_eq_true rfl⟩ hF
                                                          · skip
                                                            refine jj_aload_n (j := 3) (i := 0) (pc' := 535) dL_refusesFilms_534 rfl rfl rfl ?_
                                                            refine jj_bipush (v := (23 : Int32)) (pc' := 537) dL_refusesFilms_535 rfl rfl ?_
                                                            refine jj_iconst (v := (0 : Int32)) (pc' := 538) dL_refusesFilms_537 rfl rfl ?_
                                                            refine jj_iload_n (j := 1) (i := 3) (pc' := 539) dL_refusesFilms_538 rfl rfl rfl ?_
                                                            refine jj_iconst (v := (-1 : Int32)) (pc' := 540) dL_refusesFilms_539 rfl rfl ?_
                                                            refine jj_lconst (v := (0 : Int64)) (pc' := 541) dL_refusesFilms_540 rfl rfl ?_
                                                            refine jj_cI (N := M_L_call) (kc' := 1649) (ks' := 9894) (pc' := 544) (jg_H (N := M_L_call) (rest := []) (as := [.ref a0, .int ((23 : Int32)), .int ((0 : Int32)), .int x106, .int ((-1 : Int32)), .long ((0 : Int64))]) cf_L_119 (by decide) dL_refusesFilms_541 rfl rfl ⟨Nat.le_of_ble_eq_true rfl, Nat.le_of_ble_eq_true rfl⟩ ⟨Nat.le_of_ble_eq_true rfl, Nat.le_of_ble_eq_true rfl⟩ (Nat.le_of_ble_eq_true rfl) (fun X' hX => KL_call hX)) rfl rfl rfl rfl ⟨Nat.le_of_ble_eq_true rfl, Nat.le_of_ble_eq_true rfl⟩ rfl hF (fun x278 h277 hF => ?_)
                                                            refine jj_bipush (v := (-11 : Int32)) (pc' := 546) dL_refusesFilms_544 rfl rfl ?_
                                                            refine jj_icmp_ne (tgt := 612) (pc' := 549) dL_refusesFilms_546 rfl rfl (fun hc hF => ?_) (fun hc hF => ?_) hF
                                                            · skip
                                                              refine jj_iconst (v := (0 : Int32)) (pc' := 613) dL_refusesFilms_612 rfl rfl ?_
                                                              exact jj_retI (ty := .boolean) rfl rfl dL_refusesFilms_613 ⟨Nat.le_of_ble_eq_true rfl, Nat.le_of_ble_eq_true rfl⟩ hF
                                                            · skip
                                                              refine jj_aload_n (j := 3) (i := 0) (pc' := 550) dL_refusesFilms_549 rfl rfl rfl ?_
                                                              refine jj_bipush (v := (23 : Int32)) (pc' := 552) dL_refusesFilms_550 rfl rfl ?_
                                                              refine jj_iconst (v := (0 : Int32)) (pc' := 553) dL_refusesFilms_552 rfl rfl ?_
                                                              refine jj_iconst (v := (0 : Int32)) (pc' := 554) dL_refusesFilms_553 rfl rfl ?_
                                                              refine jj_iload (j := 0) (i := 4) (pc' := 556) dL_refusesFilms_554 rfl rfl ?_
                                                              refine jj_lconst (v := (0 : Int64)) (pc' := 557) dL_refusesFilms_556 rfl rfl ?_
                                                              refine jj_cI (N := M_L_call) (kc' := 1710) (ks' := 10260) (pc' := 560) (jg_H (N := M_L_call) (rest := []) (as := [.ref a0, .int ((23 : Int32)), .int ((0 : Int32)), .int ((0 : Int32)), .int x108, .long ((0 : Int64))]) cf_L_119 (by decide) dL_refusesFilms_557 rfl rfl ⟨Nat.le_of_ble_eq_true rfl, Nat.le_of_ble_eq_true rfl⟩ ⟨Nat.le_of_ble_eq_true rfl, Nat.le_of_ble_eq_true rfl⟩ (Nat.le_of_ble_eq_true rfl) (fun X' hX => KL_call hX)) rfl rfl rfl rfl ⟨Nat.le_of_ble_eq_true rfl, Nat.le_of_ble_eq_true rfl⟩ rfl hF (fun x280 h279 hF => ?_)
                                                              refine jj_bipush (v := (-12 : Int32)) (pc' := 562) dL_refusesFilms_560 rfl rfl ?_
                                                              refine jj_icmp_ne (tgt := 612) (pc' := 565) dL_refusesFilms_562 rfl rfl (fun hc hF => ?_) (fun hc hF => ?_) hF
                                                              · skip
                                                                refine jj_iconst (v := (0 : Int32)) (pc' := 613) dL_refusesFilms_612 rfl rfl ?_
                                                                exact jj_retI (ty := .boolean) rfl rfl dL_refusesFilms_613 ⟨Nat.le_of_ble_eq_true rfl, Nat.le_of_ble_eq_true rfl⟩ hF
                                                              · skip
                                                                refine jj_aload_n (j := 3) (i := 0) (pc' := 566) dL_refusesFilms_565 rfl rfl rfl ?_
                                                                refine jj_bipush (v := (24 : Int32)) (pc' := 568) dL_refusesFilms_566 rfl rfl ?_
                                                                refine jj_iconst (v := (0 : Int32)) (pc' := 569) dL_refusesFilms_568 rfl rfl ?_
                                                                refine jj_iload (j := 0) (i := 4) (pc' := 571) dL_refusesFilms_569 rfl rfl ?_
                                                                refine jj_iconst (v := (0 : Int32)) (pc' := 572) dL_refusesFilms_571 rfl rfl ?_
                                                                refine jj_lconst (v := (0 : Int64)) (pc' := 573) dL_refusesFilms_572 rfl rfl ?_
                                                                refine jj_cI (N := M_L_call) (kc' := 1771) (ks' := 10626) (pc' := 576) (jg_H (N := M_L_call) (rest := []) (as := [.ref a0, .int ((24 : Int32)), .int ((0 : Int32)), .int x108, .int ((0 : Int32)), .long ((0 : Int64))]) cf_L_119 (by decide) dL_refusesFilms_573 rfl rfl ⟨Nat.le_of_ble_eq_true rfl, Nat.le_of_ble_eq_true rfl⟩ ⟨Nat.le_of_ble_eq_true rfl, Nat.le_of_ble_eq_true rfl⟩ (Nat.le_of_ble_eq_true rfl) (fun X' hX => KL_call hX)) rfl rfl rfl rfl ⟨Nat.le_of_ble_eq_true rfl, Nat.le_of_ble_eq_true rfl⟩ rfl hF (fun x282 h281 hF => ?_)
                                                                refine jj_bipush (v := (-12 : Int32)) (pc' := 578) dL_refusesFilms_576 rfl rfl ?_
                                                                refine jj_icmp_ne (tgt := 612) (pc' := 581) dL_refusesFilms_578 rfl rfl (fun hc hF => ?_) (fun hc hF => ?_) hF
                                                                · skip
                                                                  refine jj_iconst (v := (0 : Int32)) (pc' := 613) dL_refusesFilms_612 rfl rfl ?_
                                                                  exact jj_retI (ty := .boolean) rfl rfl dL_refusesFilms_613 ⟨Nat.le_of_ble_eq_true rfl, Nat.le_of_ble_eq_true rfl⟩ hF
                                                                · skip
                                                                  refine jj_aload_n (j := 3) (i := 0) (pc' := 582) dL_refusesFilms_581 rfl rfl rfl ?_
                                                                  refine jj_bipush (v := (25 : Int32)) (pc' := 584) dL_refusesFilms_582 rfl rfl ?_
                                                                  refine jj_iconst (v := (0 : Int32)) (pc' := 585) dL_refusesFilms_584 rfl rfl ?_
                                                                  refine jj_iload_n (j := 1) (i := 3) (pc' := 586) dL_refusesFilms_585 rfl rfl rfl ?_
                                                                  refine jj_iconst (v := (-1 : Int32)) (pc' := 587) dL_refusesFilms_586 rfl rfl ?_
                                                                  refine jj_lconst (v := (0 : Int64)) (pc' := 588) dL_refusesFilms_587 rfl rfl ?_
                                                                  refine jj_cI (N := M_L_call) (kc' := 1832) (ks' := 10992) (pc' := 591) (jg_H (N := M_L_call) (rest := []) (as := [.ref a0, .int ((25 : Int32)), .int ((0 : Int32)), .int x106, .int ((-1 : Int32)), .long ((0 : Int64))]) cf_L_119 (by decide) dL_refusesFilms_588 rfl rfl ⟨Nat.le_of_ble_eq_true rfl, Nat.le_of_ble_eq_true rfl⟩ ⟨Nat.le_of_ble_eq_true rfl, Nat.le_of_ble_eq_true rfl⟩ (Nat.le_of_ble_eq_true rfl) (fun X' hX => KL_call hX)) rfl rfl rfl rfl ⟨Nat.le_of_ble_eq_true rfl, Nat.le_of_ble_eq_true rfl⟩ rfl hF (fun x284 h283 hF => ?_)
                                                                  refine jj_bipush (v := (-11 : Int32)) (pc' := 593) dL_refusesFilms_591 rfl rfl ?_
                                                                  refine jj_icmp_ne (tgt := 612) (pc' := 596) dL_refusesFilms_593 rfl rfl (fun hc hF => ?_) (fun hc hF => ?_) hF
                                                                  · skip
                                                                    refine jj_iconst (v := (0 : Int32)) (pc' := 613) dL_refusesFilms_612 rfl rfl ?_
                                                                    exact jj_retI (ty := .boolean) rfl rfl dL_refusesFilms_613 ⟨Nat.le_of_ble_eq_true rfl, Nat.le_of_ble_eq_true rfl⟩ hF
                                                                  · skip
                                                                    refine jj_aload_n (j := 3) (i := 0) (pc' := 597) dL_refusesFilms_596 rfl rfl rfl ?_
                                                                    refine jj_bipush (v := (25 : Int32)) (pc' := 599) dL_refusesFilms_597 rfl rfl ?_
                                                                    refine jj_iconst (v := (0 : Int32)) (pc' := 600) dL_refusesFilms_599 rfl rfl ?_
                                                                    refine jj_iconst (v := (1 : Int32)) (pc' := 601) dL_refusesFilms_600 rfl rfl ?_
                                                                    refine jj_iload (j := 0) (i := 4) (pc' := 603) dL_refusesFilms_601 rfl rfl ?_
                                                                    refine jj_lconst (v := (0 : Int64)) (pc' := 604) dL_refusesFilms_603 rfl rfl ?_
                                                                    refine jj_cI (N := M_L_call) (kc' := 1893) (ks' := 11358) (pc' := 607) (jg_H (N := M_L_call) (rest := []) (as := [.ref a0, .int ((25 : Int32)), .int ((0 : Int32)), .int ((1 : Int32)), .int x108, .long ((0 : Int64))]) cf_L_119 (by decide) dL_refusesFilms_604 rfl rfl ⟨Nat.le_of_ble_eq_true rfl, Nat.le_of_ble_eq_true rfl⟩ ⟨Nat.le_of_ble_eq_true rfl, Nat.le_of_ble_eq_true rfl⟩ (Nat.le_of_ble_eq_true rfl) (fun X' hX => KL_call hX)) rfl rfl rfl rfl ⟨Nat.le_of_ble_eq_true rfl, Nat.le_of_ble_eq_true rfl⟩ rfl hF (fun x286 h285 hF => ?_)
                                                                    refine jj_bipush (v := (-12 : Int32)) (pc' := 609) dL_refusesFilms_607 rfl rfl ?_
                                                                    refine jj_icmp_eq (tgt := 614) (pc' := 612) dL_refusesFilms_609 rfl rfl (fun hc hF => ?_) (fun hc hF => ?_) hF
                                                                    · skip
                                                                      refine jj_aload_n (j := 3) (i := 0) (pc' := 615) dL_refusesFilms_614 rfl rfl rfl ?_
                                                                      refine jj_bipush (v := (17 : Int32)) (pc' := 617) dL_refusesFilms_615 rfl rfl ?_
                                                                      refine jj_iload_n (j := 1) (i := 3) (pc' := 618) dL_refusesFilms_617 rfl rfl rfl ?_
                                                                      refine jj_iconst (v := (-1 : Int32)) (pc' := 619) dL_refusesFilms_618 rfl rfl ?_
                                                                      refine jj_iconst (v := (0 : Int32)) (pc' := 620) dL_refusesFilms_619 rfl rfl ?_
                                                                      refine jj_lconst (v := (0 : Int64)) (pc' := 621) dL_refusesFilms_620 rfl rfl ?_
                                                                      refine jj_cI (N := M_L_call) (kc' := 1954) (ks' := 11724) (pc' := 624) (jg_H (N := M_L_call) (rest := []) (as := [.ref a0, .int ((17 : Int32)), .int x106, .int ((-1 : Int32)), .int ((0 : Int32)), .long ((0 : Int64))]) cf_L_119 (by decide) dL_refusesFilms_621 rfl rfl ⟨Nat.le_of_ble_eq_true rfl, Nat.le_of_ble_eq_true rfl⟩ ⟨Nat.le_of_ble_eq_true rfl, Nat.le_of_ble_eq_true rfl⟩ (Nat.le_of_ble_eq_true rfl) (fun X' hX => KL_call hX)) rfl rfl rfl rfl ⟨Nat.le_of_ble_eq_true rfl, Nat.le_of_ble_eq_true rfl⟩ rfl hF (fun x288 h287 hF => ?_)
                                                                      refine jj_bipush (v := (-11 : Int32)) (pc' := 626) dL_refusesFilms_624 rfl rfl ?_
                                                                      refine jj_icmp_ne (tgt := 721) (pc' := 629) dL_refusesFilms_626 rfl rfl (fun hc hF => ?_) (fun hc hF => ?_) hF
                                                                      · skip
                                                                        refine jj_iconst (v := (0 : Int32)) (pc' := 722) dL_refusesFilms_721 rfl rfl ?_
                                                                        exact jj_retI (ty := .boolean) rfl rfl dL_refusesFilms_722 ⟨Nat.le_of_ble_eq_true rfl, Nat.le_of_ble_eq_true rfl⟩ hF
                                                                      · skip
                                                                        refine jj_aload_n (j := 3) (i := 0) (pc' := 630) dL_refusesFilms_629 rfl rfl rfl ?_
                                                                        refine jj_bipush (v := (17 : Int32)) (pc' := 632) dL_refusesFilms_630 rfl rfl ?_
                                                                        refine jj_iconst (v := (2 : Int32)) (pc' := 633) dL_refusesFilms_632 rfl rfl ?_
                                                                        refine jj_iload (j := 0) (i := 4) (pc' := 635) dL_refusesFilms_633 rfl rfl ?_
                                                                        refine jj_iconst (v := (0 : Int32)) (pc' := 636) dL_refusesFilms_635 rfl rfl ?_
                                                                        refine jj_lconst (v := (0 : Int64)) (pc' := 637) dL_refusesFilms_636 rfl rfl ?_
                                                                        refine jj_cI (N := M_L_call) (kc' := 2015) (ks' := 12090) (pc' := 640) (jg_H (N := M_L_call) (rest := []) (as := [.ref a0, .int ((17 : Int32)), .int ((2 : Int32)), .int x108, .int ((0 : Int32)), .long ((0 : Int64))]) cf_L_119 (by decide) dL_refusesFilms_637 rfl rfl ⟨Nat.le_of_ble_eq_true rfl, Nat.le_of_ble_eq_true rfl⟩ ⟨Nat.le_of_ble_eq_true rfl, Nat.le_of_ble_eq_true rfl⟩ (Nat.le_of_ble_eq_true rfl) (fun X' hX => KL_call hX)) rfl rfl rfl rfl ⟨Nat.le_of_ble_eq_true rfl, Nat.le_of_ble_eq_true rfl⟩ rfl hF (fun x290 h289 hF => ?_)
                                                                        refine jj_bipush (v := (-12 : Int32)) (pc' := 642) dL_refusesFilms_640 rfl rfl ?_
                                                                        refine jj_icmp_ne (tgt := 721) (pc' := 645) dL_refusesFilms_642 rfl rfl (fun hc hF => ?_) (fun hc hF => ?_) hF
                                                                        · skip
                                                                          refine jj_iconst (v := (0 : Int32)) (pc' := 722) dL_refusesFilms_721 rfl rfl ?_
                                                                          exact jj_retI (ty := .boolean) rfl rfl dL_refusesFilms_722 ⟨Nat.le_of_ble_eq_true rfl, Nat.le_of_ble_eq_true rfl⟩ hF
                                                                        · skip
                                                                          refine jj_aload_n (j := 3) (i := 0) (pc' := 646) dL_refusesFilms_645 rfl rfl rfl ?_
                                                                          refine jj_bipush (v := (18 : Int32)) (pc' := 648) dL_refusesFilms_646 rfl rfl ?_
                                                                          refine jj_iload_n (j := 1) (i := 3) (pc' := 649) dL_refusesFilms_648 rfl rfl rfl ?_
                                                                          refine jj_bipush (v := (9 : Int32)) (pc' := 651) dL_refusesFilms_649 rfl rfl ?_
                                                                          refine jj_iconst (v := (0 : Int32)) (pc' := 652) dL_refusesFilms_651 rfl rfl ?_
                                                                          refine jj_lconst (v := (0 : Int64)) (pc' := 653) dL_refusesFilms_652 rfl rfl ?_
                                                                          refine jj_cI (N := M_L_call) (kc' := 2076) (ks' := 12456) (pc' := 656) (jg_H (N := M_L_call) (rest := []) (as := [.ref a0, .int ((18 : Int32)), .int x106, .int ((9 : Int32)), .int ((0 : Int32)), .long ((0 : Int64))]) cf_L_119 (by decide) dL_refusesFilms_653 rfl rfl ⟨Nat.le_of_ble_eq_true rfl, Nat.le_of_ble_eq_true rfl⟩ ⟨Nat.le_of_ble_eq_true rfl, Nat.le_of_ble_eq_true rfl⟩ (Nat.le_of_ble_eq_true rfl) (fun X' hX => KL_call hX)) rfl rfl rfl rfl ⟨Nat.le_of_ble_eq_true rfl, Nat.le_of_ble_eq_true rfl⟩ rfl hF (fun x292 h291 hF => ?_)
                                                                          refine jj_bipush (v := (-11 : Int32)) (pc' := 658) dL_refusesFilms_656 rfl rfl ?_
                                                                          refine jj_icmp_ne (tgt := 721) (pc' := 661) dL_refusesFilms_658 rfl rfl (fun hc hF => ?_) (fun hc hF => ?_) hF
                                                                          · skip
                                                                            refine jj_iconst (v := (0 : Int32)) (pc' := 722) dL_refusesFilms_721 rfl rfl ?_
                                                                            exact jj_retI (ty := .boolean) rfl rfl dL_refusesFilms_722 ⟨Nat.le_of_ble_eq_true rfl, Nat.le_of_ble_eq_true rfl⟩ hF
                                                                          · skip
                                                                            refine jj_aload_n (j := 3) (i := 0) (pc' := 662) dL_refusesFilms_661 rfl rfl rfl ?_
                                                                            refine jj_bipush (v := (18 : Int32)) (pc' := 664) dL_refusesFilms_662 rfl rfl ?_
                                                                            refine jj_iconst (v := (0 : Int32)) (pc' := 665) dL_refusesFilms_664 rfl rfl ?_
                                                                            refine jj_iload_n (j := 4) (i := 1) (pc' := 666) dL_refusesFilms_665 rfl rfl rfl ?_
                                                                            refine jj_iconst (v := (0 : Int32)) (pc' := 667) dL_refusesFilms_666 rfl rfl ?_
                                                                            refine jj_iconst (v := (4 : Int32)) (pc' := 668) dL_refusesFilms_667 rfl rfl ?_
                                                                            refine jj_cI (N := M_L_far) (kc' := 2076) (ks' := 12456) (pc' := 671) (jg_S (N := M_L_far) (rest := [.int ((0 : Int32)), .int ((18 : Int32)), .ref a0]) (as := [.int x1, .int ((0 : Int32)), .int ((4 : Int32))]) cf_L_114 rfl dL_refusesFilms_668 rfl rfl ⟨Nat.le_of_ble_eq_true rfl, Nat.le_of_ble_eq_true rfl⟩ ⟨Nat.le_of_ble_eq_true rfl, Nat.le_of_ble_eq_true rfl⟩ (Nat.le_of_ble_eq_true rfl) (fun X' hX => KL_far hX)) rfl rfl rfl rfl ⟨Nat.le_of_ble_eq_true rfl, Nat.le_of_ble_eq_true rfl⟩ rfl hF (fun x294 h293 hF => ?_)
                                                                            refine jj_iconst (v := (0 : Int32)) (pc' := 672) dL_refusesFilms_671 rfl rfl ?_
                                                                            refine jj_lconst (v := (0 : Int64)) (pc' := 673) dL_refusesFilms_672 rfl rfl ?_
                                                                            refine jj_cI (N := M_L_call) (kc' := 2137) (ks' := 12822) (pc' := 676) (jg_H (N := M_L_call) (rest := []) (as := [.ref a0, .int ((18 : Int32)), .int ((0 : Int32)), .int x294, .int ((0 : Int32)), .long ((0 : Int64))]) cf_L_119 (by decide) dL_refusesFilms_673 rfl rfl ⟨Nat.le_of_ble_eq_true rfl, Nat.le_of_ble_eq_true rfl⟩ ⟨Nat.le_of_ble_eq_true rfl, Nat.le_of_ble_eq_true rfl⟩ (Nat.le_of_ble_eq_true rfl) (fun X' hX => KL_call hX)) rfl rfl rfl rfl ⟨Nat.le_of_ble_eq_true rfl, Nat.le_of_ble_eq_true rfl⟩ rfl hF (fun x296 h295 hF => ?_)
                                                                            refine jj_bipush (v := (-12 : Int32)) (pc' := 678) dL_refusesFilms_676 rfl rfl ?_
                                                                            refine jj_icmp_ne (tgt := 721) (pc' := 681) dL_refusesFilms_678 rfl rfl (fun hc hF => ?_) (fun hc hF => ?_) hF
                                                                            · skip
                                                                              refine jj_iconst (v := (0 : Int32)) (pc' := 722) dL_refusesFilms_721 rfl rfl ?_
                                                                              exact jj_retI (ty := .boolean) rfl rfl dL_refusesFilms_722 ⟨Nat.le_of_ble_eq_true rfl, Nat.le_of_ble_eq_true rfl⟩ hF
                                                                            · skip
                                                                              refine jj_aload_n (j := 3) (i := 0) (pc' := 682) dL_refusesFilms_681 rfl rfl rfl ?_
                                                                              refine jj_bipush (v := (21 : Int32)) (pc' := 684) dL_refusesFilms_682 rfl rfl ?_
                                                                              refine jj_iload_n (j := 4) (i := 1) (pc' := 685) dL_refusesFilms_684 rfl rfl rfl ?_
                                                                              refine jj_iconst (v := (0 : Int32)) (pc' := 686) dL_refusesFilms_685 rfl rfl ?_
                                                                              refine jj_bipush (v := (11 : Int32)) (pc' := 688) dL_refusesFilms_686 rfl rfl ?_
                                                                              refine jj_cI (N := M_L_far) (kc' := 2137) (ks' := 12822) (pc' := 691) (jg_S (N := M_L_far) (rest := [.int ((21 : Int32)), .ref a0]) (as := [.int x1, .int ((0 : Int32)), .int ((11 : Int32))]) cf_L_114 rfl dL_refusesFilms_688 rfl rfl ⟨Nat.le_of_ble_eq_true rfl, Nat.le_of_ble_eq_true rfl⟩ ⟨Nat.le_of_ble_eq_true rfl, Nat.le_of_ble_eq_true rfl⟩ (Nat.le_of_ble_eq_true rfl) (fun X' hX => KL_far hX)) rfl rfl rfl rfl ⟨Nat.le_of_ble_eq_true rfl, Nat.le_of_ble_eq_true rfl⟩ rfl hF (fun x298 h297 hF => ?_)
                                                                              refine jj_iconst (v := (0 : Int32)) (pc' := 692) dL_refusesFilms_691 rfl rfl ?_
                                                                              refine jj_iconst (v := (0 : Int32)) (pc' := 693) dL_refusesFilms_692 rfl rfl ?_
                                                                              refine jj_lconst (v := (0 : Int64)) (pc' := 694) dL_refusesFilms_693 rfl rfl ?_
                                                                              refine jj_cI (N := M_L_call) (kc' := 2198) (ks' := 13188) (pc' := 697) (jg_H (N := M_L_call) (rest := []) (as := [.ref a0, .int ((21 : Int32)), .int x298, .int ((0 : Int32)), .int ((0 : Int32)), .long ((0 : Int64))]) cf_L_119 (by decide) dL_refusesFilms_694 rfl rfl ⟨Nat.le_of_ble_eq_true rfl, Nat.le_of_ble_eq_true rfl⟩ ⟨Nat.le_of_ble_eq_true rfl, Nat.le_of_ble_eq_true rfl⟩ (Nat.le_of_ble_eq_true rfl) (fun X' hX => KL_call hX)) rfl rfl rfl rfl ⟨Nat.le_of_ble_eq_true rfl, Nat.le_of_ble_eq_true rfl⟩ rfl hF (fun x300 h299 hF => ?_)
                                                                              refine jj_bipush (v := (-12 : Int32)) (pc' := 699) dL_refusesFilms_697 rfl rfl ?_
                                                                              refine jj_icmp_ne (tgt := 721) (pc' := 702) dL_refusesFilms_699 rfl rfl (fun hc hF => ?_) (fun hc hF => ?_) hF
                                                                              · skip
                                                                                refine jj_iconst (v := (0 : Int32)) (pc' := 722) dL_refusesFilms_721 rfl rfl ?_
                                                                                exact jj_retI (ty := .boolean) rfl rfl dL_refusesFilms_722 ⟨Nat.le_of_ble_eq_true rfl, Nat.le_of_ble_eq_true rfl⟩ hF
                                                                              · skip
                                                                                refine jj_aload_n (j := 3) (i := 0) (pc' := 703) dL_refusesFilms_702 rfl rfl rfl ?_
                                                                                refine jj_bipush (v := (26 : Int32)) (pc' := 705) dL_refusesFilms_703 rfl rfl ?_
                                                                                refine jj_iload_n (j := 1) (i := 3) (pc' := 706) dL_refusesFilms_705 rfl rfl rfl ?_
                                                                                refine jj_iconst (v := (0 : Int32)) (pc' := 707) dL_refusesFilms_706 rfl rfl ?_
                                                                                refine jj_iconst (v := (0 : Int32)) (pc' := 708) dL_refusesFilms_707 rfl rfl ?_
                                                                                refine jj_lconst (v := (0 : Int64)) (pc' := 709) dL_refusesFilms_708 rfl rfl ?_
                                                                                refine jj_cI (N := M_L_call) (kc' := 2259) (ks' := 13554) (pc' := 712) (jg_H (N := M_L_call) (rest := []) (as := [.ref a0, .int ((26 : Int32)), .int x106, .int ((0 : Int32)), .int ((0 : Int32)), .long ((0 : Int64))]) cf_L_119 (by decide) dL_refusesFilms_709 rfl rfl ⟨Nat.le_of_ble_eq_true rfl, Nat.le_of_ble_eq_true rfl⟩ ⟨Nat.le_of_ble_eq_true rfl, Nat.le_of_ble_eq_true rfl⟩ (Nat.le_of_ble_eq_true rfl) (fun X' hX => KL_call hX)) rfl rfl rfl rfl ⟨Nat.le_of_ble_eq_true rfl, Nat.le_of_ble_eq_true rfl⟩ rfl hF (fun x302 h301 hF => ?_)
                                                                                refine jj_bipush (v := (-11 : Int32)) (pc' := 714) dL_refusesFilms_712 rfl rfl ?_
                                                                                refine jj_icmp_ne (tgt := 721) (pc' := 717) dL_refusesFilms_714 rfl rfl (fun hc hF => ?_) (fun hc hF => ?_) hF
                                                                                · skip
                                                                                  refine jj_iconst (v := (0 : Int32)) (pc' := 722) dL_refusesFilms_721 rfl rfl ?_
                                                                                  exact jj_retI (ty := .boolean) rfl rfl dL_refusesFilms_722 ⟨Nat.le_of_ble_eq_true rfl, Nat.le_of_ble_eq_true rfl⟩ hF
                                                                                · skip
                                                                                  refine jj_iconst (v := (1 : Int32)) (pc' := 718) dL_refusesFilms_717 rfl rfl ?_
                                                                                  refine jj_goto (tgt := 722) dL_refusesFilms_718 rfl ?_
                                                                                  exact jj_retI (ty := .boolean) rfl rfl dL_refusesFilms_722 ⟨Nat.le_of_ble_eq_true rfl, Nat.le_of_ble_eq_true rfl⟩ hF
                                                                    · skip
                                                                      refine jj_iconst (v := (0 : Int32)) (pc' := 613) dL_refusesFilms_612 rfl rfl ?_
                                                                      exact jj_retI (ty := .boolean) rfl rfl dL_refusesFilms_613 ⟨Nat.le_of_ble_eq_true rfl, Nat.le_of_ble_eq_true rfl⟩ hF
                                        · skip
                                          refine jj_ldc2l (v := (499 : Int64)) (pc' := 370) dL_refusesFilms_367 qw_81 rfl ?_
                                          refine jj_goto (tgt := 376) dL_refusesFilms_370 rfl ?_
                                          refine jj_cI (N := M_L_call) (kc' := 1161) (ks' := 6966) (pc' := 379) (jg_H (N := M_L_call) (rest := []) (as := [.ref a0, .int ((3 : Int32)), .int ((0 : Int32)), .int ((0 : Int32)), .int ((0 : Int32)), .long ((499 : Int64))]) cf_L_119 (by decide) dL_refusesFilms_376 rfl rfl ⟨Nat.le_of_ble_eq_true rfl, Nat.le_of_ble_eq_true rfl⟩ ⟨Nat.le_of_ble_eq_true rfl, Nat.le_of_ble_eq_true rfl⟩ (Nat.le_of_ble_eq_true rfl) (fun X' hX => KL_call hX)) rfl rfl rfl rfl ⟨Nat.le_of_ble_eq_true rfl, Nat.le_of_ble_eq_true rfl⟩ rfl hF (fun x304 h303 hF => ?_)
                                          refine jj_bipush (v := (-12 : Int32)) (pc' := 381) dL_refusesFilms_379 rfl rfl ?_
                                          refine jj_icmp_ne (tgt := 612) (pc' := 384) dL_refusesFilms_381 rfl rfl (fun hc hF => ?_) (fun hc hF => ?_) hF
                                          · skip
                                            refine jj_iconst (v := (0 : Int32)) (pc' := 613) dL_refusesFilms_612 rfl rfl ?_
                                            exact jj_retI (ty := .boolean) rfl rfl dL_refusesFilms_613 ⟨Nat.le_of_ble_eq_true rfl, Nat.le_of_ble_eq_true rfl⟩ hF
                                          · skip
                                            refine jj_aload_n (j := 3) (i := 0) (pc' := 385) dL_refusesFilms_384 rfl rfl rfl ?_
                                            refine jj_bipush (v := (6 : Int32)) (pc' := 387) dL_refusesFilms_385 rfl rfl ?_
                                            refine jj_iconst (v := (0 : Int32)) (pc' := 388) dL_refusesFilms_387 rfl rfl ?_
                                            refine jj_iload (j := 0) (i := 4) (pc' := 390) dL_refusesFilms_388 rfl rfl ?_
                                            refine jj_sipush (v := (2000 : Int32)) (pc' := 393) dL_refusesFilms_390 rfl rfl ?_
                                            refine jj_lconst (v := (0 : Int64)) (pc' := 394) dL_refusesFilms_393 rfl rfl ?_
                                            refine jj_cI (N := M_L_call) (kc' := 1222) (ks' := 7332) (pc' := 397) (jg_H (N := M_L_call) (rest := []) (as := [.ref a0, .int ((6 : Int32)), .int ((0 : Int32)), .int x108, .int ((2000 : Int32)), .long ((0 : Int64))]) cf_L_119 (by decide) dL_refusesFilms_394 rfl rfl ⟨Nat.le_of_ble_eq_true rfl, Nat.le_of_ble_eq_true rfl⟩ ⟨Nat.le_of_ble_eq_true rfl, Nat.le_of_ble_eq_true rfl⟩ (Nat.le_of_ble_eq_true rfl) (fun X' hX => KL_call hX)) rfl rfl rfl rfl ⟨Nat.le_of_ble_eq_true rfl, Nat.le_of_ble_eq_true rfl⟩ rfl hF (fun x306 h305 hF => ?_)
                                            refine jj_bipush (v := (-12 : Int32)) (pc' := 399) dL_refusesFilms_397 rfl rfl ?_
                                            refine jj_icmp_ne (tgt := 612) (pc' := 402) dL_refusesFilms_399 rfl rfl (fun hc hF => ?_) (fun hc hF => ?_) hF
                                            · skip
                                              refine jj_iconst (v := (0 : Int32)) (pc' := 613) dL_refusesFilms_612 rfl rfl ?_
                                              exact jj_retI (ty := .boolean) rfl rfl dL_refusesFilms_613 ⟨Nat.le_of_ble_eq_true rfl, Nat.le_of_ble_eq_true rfl⟩ hF
                                            · skip
                                              refine jj_aload_n (j := 3) (i := 0) (pc' := 403) dL_refusesFilms_402 rfl rfl rfl ?_
                                              refine jj_bipush (v := (6 : Int32)) (pc' := 405) dL_refusesFilms_403 rfl rfl ?_
                                              refine jj_iconst (v := (0 : Int32)) (pc' := 406) dL_refusesFilms_405 rfl rfl ?_
                                              refine jj_sipush (v := (700 : Int32)) (pc' := 409) dL_refusesFilms_406 rfl rfl ?_
                                              refine jj_iload_n (j := 4) (i := 1) (pc' := 410) dL_refusesFilms_409 rfl rfl rfl ?_
                                              refine jj_if_ne (tgt := 419) (pc' := 413) dL_refusesFilms_410 rfl rfl (fun hc hF => ?_) (fun hc hF => ?_) hF
                                              · skip
                                                refine jj_iload_n (j := 4) (i := 1) (pc' := 420) dL_refusesFilms_419 rfl rfl rfl ?_
                                                refine jj_iconst (v := (1 : Int32)) (pc' := 421) dL_refusesFilms_420 rfl rfl ?_
                                                refine jj_icmp_ne (tgt := 430) (pc' := 424) dL_refusesFilms_421 rfl rfl (fun hc hF => ?_) (fun hc hF => ?_) hF
                                                · skip
                                                  refine jj_iload_n (j := 4) (i := 1) (pc' := 431) dL_refusesFilms_430 rfl rfl rfl ?_
                                                  refine jj_iconst (v := (0 : Int32)) (pc' := 432) dL_refusesFilms_431 rfl rfl ?_
                                                  refine jj_iconst (v := (0 : Int32)) (pc' := 433) dL_refusesFilms_432 rfl rfl ?_
                                                  refine jj_cI (N := M_L_far) (kc' := 1222) (ks' := 7332) (pc' := 436) (jg_S (N := M_L_far) (rest := [.int ((700 : Int32)), .int ((0 : Int32)), .int ((6 : Int32)), .ref a0]) (as := [.int x1, .int ((0 : Int32)), .int ((0 : Int32))]) cf_L_114 rfl dL_refusesFilms_433 rfl rfl ⟨Nat.le_of_ble_eq_true rfl, Nat.le_of_ble_eq_true rfl⟩ ⟨Nat.le_of_ble_eq_true rfl, Nat.le_of_ble_eq_true rfl⟩ (Nat.le_of_ble_eq_true rfl) (fun X' hX => KL_far hX)) rfl rfl rfl rfl ⟨Nat.le_of_ble_eq_true rfl, Nat.le_of_ble_eq_true rfl⟩ rfl hF (fun x308 h307 hF => ?_)
                                                  refine jj_lconst (v := (0 : Int64)) (pc' := 437) dL_refusesFilms_436 rfl rfl ?_
                                                  refine jj_cI (N := M_L_call) (kc' := 1283) (ks' := 7698) (pc' := 440) (jg_H (N := M_L_call) (rest := []) (as := [.ref a0, .int ((6 : Int32)), .int ((0 : Int32)), .int ((700 : Int32)), .int x308, .long ((0 : Int64))]) cf_L_119 (by decide) dL_refusesFilms_437 rfl rfl ⟨Nat.le_of_ble_eq_true rfl, Nat.le_of_ble_eq_true rfl⟩ ⟨Nat.le_of_ble_eq_true rfl, Nat.le_of_ble_eq_true rfl⟩ (Nat.le_of_ble_eq_true rfl) (fun X' hX => KL_call hX)) rfl rfl rfl rfl ⟨Nat.le_of_ble_eq_true rfl, Nat.le_of_ble_eq_true rfl⟩ rfl hF (fun x310 h309 hF => ?_)
                                                  refine jj_bipush (v := (-12 : Int32)) (pc' := 442) dL_refusesFilms_440 rfl rfl ?_
                                                  refine jj_icmp_ne (tgt := 612) (pc' := 445) dL_refusesFilms_442 rfl rfl (fun hc hF => ?_) (fun hc hF => ?_) hF
                                                  · skip
                                                    refine jj_iconst (v := (0 : Int32)) (pc' := 613) dL_refusesFilms_612 rfl rfl ?_
                                                    exact jj_retI (ty := .boolean) rfl rfl dL_refusesFilms_613 ⟨Nat.le_of_ble_eq_true rfl, Nat.le_of_ble_eq_true rfl⟩ hF
                                                  · skip
                                                    refine jj_aload_n (j := 3) (i := 0) (pc' := 446) dL_refusesFilms_445 rfl rfl rfl ?_
                                                    refine jj_bipush (v := (14 : Int32)) (pc' := 448) dL_refusesFilms_446 rfl rfl ?_
                                                    refine jj_iconst (v := (0 : Int32)) (pc' := 449) dL_refusesFilms_448 rfl rfl ?_
                                                    refine jj_iload_n (j := 4) (i := 1) (pc' := 450) dL_refusesFilms_449 rfl rfl rfl ?_
                                                    refine jj_iconst (v := (0 : Int32)) (pc' := 451) dL_refusesFilms_450 rfl rfl ?_
                                                    refine jj_iconst (v := (5 : Int32)) (pc' := 452) dL_refusesFilms_451 rfl rfl ?_
                                                    refine jj_cI (N := M_L_far) (kc' := 1283) (ks' := 7698) (pc' := 455) (jg_S (N := M_L_far) (rest := [.int ((0 : Int32)), .int ((14 : Int32)), .ref a0]) (as := [.int x1, .int ((0 : Int32)), .int ((5 : Int32))]) cf_L_114 rfl dL_refusesFilms_452 rfl rfl ⟨Nat.le_of_ble_eq_true rfl, Nat.le_of_ble_eq_true rfl⟩ ⟨Nat.le_of_ble_eq_true rfl, Nat.le_of_ble_eq_true rfl⟩ (Nat.le_of_ble_eq_true rfl) (fun X' hX => KL_far hX)) rfl rfl rfl rfl ⟨Nat.le_of_ble_eq_true rfl, Nat.le_of_ble_eq_true rfl⟩ rfl hF (fun x312 h311 hF => ?_)
                                                    refine jj_iconst (v := (0 : Int32)) (pc' := 456) dL_refusesFilms_455 rfl rfl ?_
                                                    refine jj_lconst (v := (0 : Int64)) (pc' := 457) dL_refusesFilms_456 rfl rfl ?_
                                                    refine jj_cI (N := M_L_call) (kc' := 1344) (ks' := 8064) (pc' := 460) (jg_H (N := M_L_call) (rest := []) (as := [.ref a0, .int ((14 : Int32)), .int ((0 : Int32)), .int x312, .int ((0 : Int32)), .long ((0 : Int64))]) cf_L_119 (by decide) dL_refusesFilms_457 rfl rfl ⟨Nat.le_of_ble_eq_true rfl, Nat.le_of_ble_eq_true rfl⟩ ⟨Nat.le_of_ble_eq_true rfl, Nat.le_of_ble_eq_true rfl⟩ (Nat.le_of_ble_eq_true rfl) (fun X' hX => KL_call hX)) rfl rfl rfl rfl ⟨Nat.le_of_ble_eq_true rfl, Nat.le_of_ble_eq_true rfl⟩ rfl hF (fun x314 h313 hF => ?_)
                                                    refine jj_bipush (v := (-12 : Int32)) (pc' := 462) dL_refusesFilms_460 rfl rfl ?_
                                                    refine jj_icmp_ne (tgt := 612) (pc' := 465) dL_refusesFilms_462 rfl rfl (fun hc hF => ?_) (fun hc hF => ?_) hF
                                                    · skip
                                                      refine jj_iconst (v := (0 : Int32)) (pc' := 613) dL_refusesFilms_612 rfl rfl ?_
                                                      exact jj_retI (ty := .boolean) rfl rfl dL_refusesFilms_613 ⟨Nat.le_of_ble_eq_true rfl, Nat.le_of_ble_eq_true rfl⟩ hF
                                                    · skip
                                                      refine jj_aload_n (j := 3) (i := 0) (pc' := 466) dL_refusesFilms_465 rfl rfl rfl ?_
                                                      refine jj_bipush (v := (22 : Int32)) (pc' := 468) dL_refusesFilms_466 rfl rfl ?_
                                                      refine jj_iconst (v := (0 : Int32)) (pc' := 469) dL_refusesFilms_468 rfl rfl ?_
                                                      refine jj_iload_n (j := 1) (i := 3) (pc' := 470) dL_refusesFilms_469 rfl rfl rfl ?_
                                                      refine jj_iconst (v := (-1 : Int32)) (pc' := 471) dL_refusesFilms_470 rfl rfl ?_
                                                      refine jj_ldc2l (v := (500 : Int64)) (pc' := 474) dL_refusesFilms_471 qw_78 rfl ?_
                                                      refine jj_cI (N := M_L_call) (kc' := 1405) (ks' := 8430) (pc' := 477) (jg_H (N := M_L_call) (rest := []) (as := [.ref a0, .int ((22 : Int32)), .int ((0 : Int32)), .int x106, .int ((-1 : Int32)), .long ((500 : Int64))]) cf_L_119 (by decide) dL_refusesFilms_474 rfl rfl ⟨Nat.le_of_ble_eq_true rfl, Nat.le_of_ble_eq_true rfl⟩ ⟨Nat.le_of_ble_eq_true rfl, Nat.le_of_ble_eq_true rfl⟩ (Nat.le_of_ble_eq_true rfl) (fun X' hX => KL_call hX)) rfl rfl rfl rfl ⟨Nat.le_of_ble_eq_true rfl, Nat.le_of_ble_eq_true rfl⟩ rfl hF (fun x316 h315 hF => ?_)
                                                      refine jj_bipush (v := (-11 : Int32)) (pc' := 479) dL_refusesFilms_477 rfl rfl ?_
                                                      refine jj_icmp_ne (tgt := 612) (pc' := 482) dL_refusesFilms_479 rfl rfl (fun hc hF => ?_) (fun hc hF => ?_) hF
                                                      · skip
                                                        refine jj_iconst (v := (0 : Int32)) (pc' := 613) dL_refusesFilms_612 rfl rfl ?_
                                                        exact jj_retI (ty := .boolean) rfl rfl dL_refusesFilms_613 ⟨Nat.le_of_ble_eq_true rfl, Nat.le_of_ble_eq_true rfl⟩ hF
                                                      · skip
                                                        refine jj_aload_n (j := 3) (i := 0) (pc' := 483) dL_refusesFilms_482 rfl rfl rfl ?_
                                                        refine jj_bipush (v := (22 : Int32)) (pc' := 485) dL_refusesFilms_483 rfl rfl ?_
                                                        refine jj_iconst (v := (0 : Int32)) (pc' := 486) dL_refusesFilms_485 rfl rfl ?_
                                                        refine jj_iconst (v := (2 : Int32)) (pc' := 487) dL_refusesFilms_486 rfl rfl ?_
                                                        refine jj_iload (j := 0) (i := 4) (pc' := 489) dL_refusesFilms_487 rfl rfl ?_
                                                        refine jj_ldc2l (v := (500 : Int64)) (pc' := 492) dL_refusesFilms_489 qw_78 rfl ?_
                                                        refine jj_cI (N := M_L_call) (kc' := 1466) (ks' := 8796) (pc' := 495) (jg_H (N := M_L_call) (rest := []) (as := [.ref a0, .int ((22 : Int32)), .int ((0 : Int32)), .int ((2 : Int32)), .int x108, .long ((500 : Int64))]) cf_L_119 (by decide) dL_refusesFilms_492 rfl rfl ⟨Nat.le_of_ble_eq_true rfl, Nat.le_of_ble_eq_true rfl⟩ ⟨Nat.le_of_ble_eq_true rfl, Nat.le_of_ble_eq_true rfl⟩ (Nat.le_of_ble_eq_true rfl) (fun X' hX => KL_call hX)) rfl rfl rfl rfl ⟨Nat.le_of_ble_eq_true rfl, Nat.le_of_ble_eq_true rfl⟩ rfl hF (fun x318 h317 hF => ?_)
                                                        refine jj_bipush (v := (-12 : Int32)) (pc' := 497) dL_refusesFilms_495 rfl rfl ?_
                                                        refine jj_icmp_ne (tgt := 612) (pc' := 500) dL_refusesFilms_497 rfl rfl (fun hc hF => ?_) (fun hc hF => ?_) hF
                                                        · skip
                                                          refine jj_iconst (v := (0 : Int32)) (pc' := 613) dL_refusesFilms_612 rfl rfl ?_
                                                          exact jj_retI (ty := .boolean) rfl rfl dL_refusesFilms_613 ⟨Nat.le_of_ble_eq_true rfl, Nat.le_of_ble_eq_true rfl⟩ hF
                                                        · skip
                                                          refine jj_aload_n (j := 3) (i := 0) (pc' := 501) dL_refusesFilms_500 rfl rfl rfl ?_
                                                          refine jj_bipush (v := (22 : Int32)) (pc' := 503) dL_refusesFilms_501 rfl rfl ?_
                                                          refine jj_iconst (v := (0 : Int32)) (pc' := 504) dL_refusesFilms_503 rfl rfl ?_
                                                          refine jj_iconst (v := (2 : Int32)) (pc' := 505) dL_refusesFilms_504 rfl rfl ?_
                                                          refine jj_iconst (v := (0 : Int32)) (pc' := 506) dL_refusesFilms_505 rfl rfl ?_
                                                          refine jj_ldc2l (v := (521 : Int64)) (pc' := 509) dL_refusesFilms_506 qw_79 rfl ?_
                                                          refine jj_cI (N := M_L_call) (kc' := 1527) (ks' := 9162) (pc' := 512) (jg_H (N := M_L_call) (rest := []) (as := [.ref a0, .int ((22 : Int32)), .int ((0 : Int32)), .int ((2 : Int32)), .int ((0 : Int32)), .long ((521 : Int64))]) cf_L_119 (by decide) dL_refusesFilms_509 rfl rfl ⟨Nat.le_of_ble_eq_true rfl, Nat.le_of_ble_eq_true rfl⟩ ⟨Nat.le_of_ble_eq_true rfl, Nat.le_of_ble_eq_true rfl⟩ (Nat.le_of_ble_eq_true rfl) (fun X' hX => KL_call hX)) rfl rfl rfl rfl ⟨Nat.le_of_ble_eq_true rfl, Nat.le_of_ble_eq_true rfl⟩ rfl hF (fun x320 h319 hF => ?_)
                                                          refine jj_bipush (v := (-12 : Int32)) (pc' := 514) dL_refusesFilms_512 rfl rfl ?_
                                                          refine jj_icmp_ne (tgt := 612) (pc' := 517) dL_refusesFilms_514 rfl rfl (fun hc hF => ?_) (fun hc hF => ?_) hF
                                                          · skip
                                                            refine jj_iconst (v := (0 : Int32)) (pc' := 613) dL_refusesFilms_612 rfl rfl ?_
                                                            exact jj_retI (ty := .boolean) rfl rfl dL_refusesFilms_613 ⟨Nat.le_of_ble_eq_true rfl, Nat.le_of_ble_eq_true rfl⟩ hF
                                                          · skip
                                                            refine jj_aload_n (j := 3) (i := 0) (pc' := 518) dL_refusesFilms_517 rfl rfl rfl ?_
                                                            refine jj_bipush (v := (22 : Int32)) (pc' := 520) dL_refusesFilms_518 rfl rfl ?_
                                                            refine jj_iconst (v := (0 : Int32)) (pc' := 521) dL_refusesFilms_520 rfl rfl ?_
                                                            refine jj_iconst (v := (2 : Int32)) (pc' := 522) dL_refusesFilms_521 rfl rfl ?_
                                                            refine jj_iconst (v := (0 : Int32)) (pc' := 523) dL_refusesFilms_522 rfl rfl ?_
                                                            refine jj_ldc2l (v := (3500 : Int64)) (pc' := 526) dL_refusesFilms_523 qw_80 rfl ?_
                                                            refine jj_cI (N := M_L_call) (kc' := 1588) (ks' := 9528) (pc' := 529) (jg_H (N := M_L_call) (rest := []) (as := [.ref a0, .int ((22 : Int32)), .int ((0 : Int32)), .int ((2 : Int32)), .int ((0 : Int32)), .long ((3500 : Int64))]) cf_L_119 (by decide) dL_refusesFilms_526 rfl rfl ⟨Nat.le_of_ble_eq_true rfl, Nat.le_of_ble_eq_true rfl⟩ ⟨Nat.le_of_ble_eq_true rfl, Nat.le_of_ble_eq_true rfl⟩ (Nat.le_of_ble_eq_true rfl) (fun X' hX => KL_call hX)) rfl rfl rfl rfl ⟨Nat.le_of_ble_eq_true rfl, Nat.le_of_ble_eq_true rfl⟩ rfl hF (fun x322 h321 hF => ?_)
                                                            refine jj_bipush (v := (-12 : Int32)) (pc' := 531) dL_refusesFilms_529 rfl rfl ?_
                                                            refine jj_icmp_ne (tgt := 612) (pc' := 534) dL_refusesFilms_531 rfl rfl (fun hc hF => ?_) (fun hc hF => ?_) hF
                                                            · skip
                                                              refine jj_iconst (v := (0 : Int32)) (pc' := 613) dL_refusesFilms_612 rfl rfl ?_
                                                              exact jj_retI (ty := .boolean) rfl rfl dL_refusesFilms_613 ⟨Nat.le_of_ble_eq_true rfl, Nat.le_of_ble_eq_true rfl⟩ hF
                                                            · skip
                                                              refine jj_aload_n (j := 3) (i := 0) (pc' := 535) dL_refusesFilms_534 rfl rfl rfl ?_
                                                              refine jj_bipush (v := (23 : Int32)) (pc' := 537) dL_refusesFilms_535 rfl rfl ?_
                                                              refine jj_iconst (v := (0 : Int32)) (pc' := 538) dL_refusesFilms_537 rfl rfl ?_
                                                              refine jj_iload_n (j := 1) (i := 3) (pc' := 539) dL_refusesFilms_538 rfl rfl rfl ?_
                                                              refine jj_iconst (v := (-1 : Int32)) (pc' := 540) dL_refusesFilms_539 rfl rfl ?_
                                                              refine jj_lconst (v := (0 : Int64)) (pc' := 541) dL_refusesFilms_540 rfl rfl ?_
                                                              refine jj_cI (N := M_L_call) (kc' := 1649) (ks' := 9894) (pc' := 544) (jg_H (N := M_L_call) (rest := []) (as := [.ref a0, .int ((23 : Int32)), .int ((0 : Int32)), .int x106, .int ((-1 : Int32)), .long ((0 : Int64))]) cf_L_119 (by decide) dL_refusesFilms_541 rfl rfl ⟨Nat.le_of_ble_eq_true rfl, Nat.le_of_ble_eq_true rfl⟩ ⟨Nat.le_of_ble_eq_true rfl, Nat.le_of_ble_eq_true rfl⟩ (Nat.le_of_ble_eq_true rfl) (fun X' hX => KL_call hX)) rfl rfl rfl rfl ⟨Nat.le_of_ble_eq_true rfl, Nat.le_of_ble_eq_true rfl⟩ rfl hF (fun x324 h323 hF => ?_)
                                                              refine jj_bipush (v := (-11 : Int32)) (pc' := 546) dL_refusesFilms_544 rfl rfl ?_
                                                              refine jj_icmp_ne (tgt := 612) (pc' := 549) dL_refusesFilms_546 rfl rfl (fun hc hF => ?_) (fun hc hF => ?_) hF
                                                              · skip
                                                                refine jj_iconst (v := (0 : Int32)) (pc' := 613) dL_refusesFilms_612 rfl rfl ?_
                                                                exact jj_retI (ty := .boolean) rfl rfl dL_refusesFilms_613 ⟨Nat.le_of_ble_eq_true rfl, Nat.le_of_ble_eq_true rfl⟩ hF
                                                              · skip
                                                                refine jj_aload_n (j := 3) (i := 0) (pc' := 550) dL_refusesFilms_549 rfl rfl rfl ?_
                                                                refine jj_bipush (v := (23 : Int32)) (pc' := 552) dL_refusesFilms_550 rfl rfl ?_
                                                                refine jj_iconst (v := (0 : Int32)) (pc' := 553) dL_refusesFilms_552 rfl rfl ?_
                                                                refine jj_iconst (v := (0 : Int32)) (pc' := 554) dL_refusesFilms_553 rfl rfl ?_
                                                                refine jj_iload (j := 0) (i := 4) (pc' := 556) dL_refusesFilms_554 rfl rfl ?_
                                                                refine jj_lconst (v := (0 : Int64)) (pc' := 557) dL_refusesFilms_556 rfl rfl ?_
                                                                refine jj_cI (N := M_L_call) (kc' := 1710) (ks' := 10260) (pc' := 560) (jg_H (N := M_L_call) (rest := []) (as := [.ref a0, .int ((23 : Int32)), .int ((0 : Int32)), .int ((0 : Int32)), .int x108, .long ((0 : Int64))]) cf_L_119 (by decide) dL_refusesFilms_557 rfl rfl ⟨Nat.le_of_ble_eq_true rfl, Nat.le_of_ble_eq_true rfl⟩ ⟨Nat.le_of_ble_eq_true rfl, Nat.le_of_ble_eq_true rfl⟩ (Nat.le_of_ble_eq_true rfl) (fun X' hX => KL_call hX)) rfl rfl rfl rfl ⟨Nat.le_of_ble_eq_true rfl, Nat.le_of_ble_eq_true rfl⟩ rfl hF (fun x326 h325 hF => ?_)
                                                                refine jj_bipush (v := (-12 : Int32)) (pc' := 562) dL_refusesFilms_560 rfl rfl ?_
                                                                refine jj_icmp_ne (tgt := 612) (pc' := 565) dL_refusesFilms_562 rfl rfl (fun hc hF => ?_) (fun hc hF => ?_) hF
                                                                · skip
                                                                  refine jj_iconst (v := (0 : Int32)) (pc' := 613) dL_refusesFilms_612 rfl rfl ?_
                                                                  exact jj_retI (ty := .boolean) rfl rfl dL_refusesFilms_613 ⟨Nat.le_of_ble_eq_true rfl, Nat.le_of_ble_eq_true rfl⟩ hF
                                                                · skip
                                                                  refine jj_aload_n (j := 3) (i := 0) (pc' := 566) dL_refusesFilms_565 rfl rfl rfl ?_
                                                                  refine jj_bipush (v := (24 : Int32)) (pc' := 568) dL_refusesFilms_566 rfl rfl ?_
                                                                  refine jj_iconst (v := (0 : Int32)) (pc' := 569) dL_refusesFilms_568 rfl rfl ?_
                                                                  refine jj_iload (j := 0) (i := 4) (pc' := 571) dL_refusesFilms_569 rfl rfl ?_
                                                                  refine jj_iconst (v := (0 : Int32)) (pc' := 572) dL_refusesFilms_571 rfl rfl ?_
                                                                  refine jj_lconst (v := (0 : Int64)) (pc' := 573) dL_refusesFilms_572 rfl rfl ?_
                                                                  refine jj_cI (N := M_L_call) (kc' := 1771) (ks' := 10626) (pc' := 576) (jg_H (N := M_L_call) (rest := []) (as := [.ref a0, .int ((24 : Int32)), .int ((0 : Int32)), .int x108, .int ((0 : Int32)), .long ((0 : Int64))]) cf_L_119 (by decide) dL_refusesFilms_573 rfl rfl ⟨Nat.le_of_ble_eq_true rfl, Nat.le_of_ble_eq_true rfl⟩ ⟨Nat.le_of_ble_eq_true rfl, Nat.le_of_ble_eq_true rfl⟩ (Nat.le_of_ble_eq_true rfl) (fun X' hX => KL_call hX)) rfl rfl rfl rfl ⟨Nat.le_of_ble_eq_true rfl, Nat.le_of_ble_eq_true rfl⟩ rfl hF (fun x328 h327 hF => ?_)
                                                                  refine jj_bipush (v := (-12 : Int32)) (pc' := 578) dL_refusesFilms_576 rfl rfl ?_
                                                                  refine jj_icmp_ne (tgt := 612) (pc' := 581) dL_refusesFilms_578 rfl rfl (fun hc hF => ?_) (fun hc hF => ?_) hF
                                                                  · skip
                                                                    refine jj_iconst (v := (0 : Int32)) (pc' := 613) dL_refusesFilms_612 rfl rfl ?_
                                                                    exact jj_retI (ty := .boolean) rfl rfl dL_refusesFilms_613 ⟨Nat.le_of_ble_eq_true rfl, Nat.le_of_ble_eq_true rfl⟩ hF
                                                                  · skip
                                                                    refine jj_aload_n (j := 3) (i := 0) (pc' := 582) dL_refusesFilms_581 rfl rfl rfl ?_
                                                                    refine jj_bipush (v := (25 : Int32)) (pc' := 584) dL_refusesFilms_582 rfl rfl ?_
                                                                    refine jj_iconst (v := (0 : Int32)) (pc' := 585) dL_refusesFilms_584 rfl rfl ?_
                                                                    refine jj_iload_n (j := 1) (i := 3) (pc' := 586) dL_refusesFilms_585 rfl rfl rfl ?_
                                                                    refine jj_iconst (v := (-1 : Int32)) (pc' := 587) dL_refusesFilms_586 rfl rfl ?_
                                                                    refine jj_lconst (v := (0 : Int64)) (pc' := 588) dL_refusesFilms_587 rfl rfl ?_
                                                                    refine jj_cI (N := M_L_call) (kc' := 1832) (ks' := 10992) (pc' := 591) (jg_H (N := M_L_call) (rest := []) (as := [.ref a0, .int ((25 : Int32)), .int ((0 : Int32)), .int x106, .int ((-1 : Int32)), .long ((0 : Int64))]) cf_L_119 (by decide) dL_refusesFilms_588 rfl rfl ⟨Nat.le_of_ble_eq_true rfl, Nat.le_of_ble_eq_true rfl⟩ ⟨Nat.le_of_ble_eq_true rfl, Nat.le_of_ble_eq_true rfl⟩ (Nat.le_of_ble_eq_true rfl) (fun X' hX => KL_call hX)) rfl rfl rfl rfl ⟨Nat.le_of_ble_eq_true rfl, Nat.le_of_ble_eq_true rfl⟩ rfl hF (fun x330 h329 hF => ?_)
                                                                    refine jj_bipush (v := (-11 : Int32)) (pc' := 593) dL_refusesFilms_591 rfl rfl ?_
                                                                    refine jj_icmp_ne (tgt := 612) (pc' := 596) dL_refusesFilms_593 rfl rfl (fun hc hF => ?_) (fun hc hF => ?_) hF
                                                                    · skip
                                                                      refine jj_iconst (v := (0 : Int32)) (pc' := 613) dL_refusesFilms_612 rfl rfl ?_
                                                                      exact jj_retI (ty := .boolean) rfl rfl dL_refusesFilms_613 ⟨Nat.le_of_ble_eq_true rfl, Nat.le_of_ble_eq_true rfl⟩ hF
                                                                    · skip
                                                                      refine jj_aload_n (j := 3) (i := 0) (pc' := 597) dL_refusesFilms_596 rfl rfl rfl ?_
                                                                      refine jj_bipush (v := (25 : Int32)) (pc' := 599) dL_refusesFilms_597 rfl rfl ?_
                                                                      refine jj_iconst (v := (0 : Int32)) (pc' := 600) dL_refusesFilms_599 rfl rfl ?_
                                                                      refine jj_iconst (v := (1 : Int32)) (pc' := 601) dL_refusesFilms_600 rfl rfl ?_
                                                                      refine jj_iload (j := 0) (i := 4) (pc' := 603) dL_refusesFilms_601 rfl rfl ?_
                                                                      refine jj_lconst (v := (0 : Int64)) (pc' := 604) dL_refusesFilms_603 rfl rfl ?_
                                                                      refine jj_cI (N := M_L_call) (kc' := 1893) (ks' := 11358) (pc' := 607) (jg_H (N := M_L_call) (rest := []) (as := [.ref a0, .int ((25 : Int32)), .int ((0 : Int32)), .int ((1 : Int32)), .int x108, .long ((0 : Int64))]) cf_L_119 (by decide) dL_refusesFilms_604 rfl rfl ⟨Nat.le_of_ble_eq_true rfl, Nat.le_of_ble_eq_true rfl⟩ ⟨Nat.le_of_ble_eq_true rfl, Nat.le_of_ble_eq_true rfl⟩ (Nat.le_of_ble_eq_true rfl) (fun X' hX => KL_call hX)) rfl rfl rfl rfl ⟨Nat.le_of_ble_eq_true rfl, Nat.le_of_ble_eq_true rfl⟩ rfl hF (fun x332 h331 hF => ?_)
                                                                      refine jj_bipush (v := (-12 : Int32)) (pc' := 609) dL_refusesFilms_607 rfl rfl ?_
                                                                      refine jj_icmp_eq (tgt := 614) (pc' := 612) dL_refusesFilms_609 rfl rfl (fun hc hF => ?_) (fun hc hF => ?_) hF
                                                                      · skip
                                                                        refine jj_aload_n (j := 3) (i := 0) (pc' := 615) dL_refusesFilms_614 rfl rfl rfl ?_
                                                                        refine jj_bipush (v := (17 : Int32)) (pc' := 617) dL_refusesFilms_615 rfl rfl ?_
                                                                        refine jj_iload_n (j := 1) (i := 3) (pc' := 618) dL_refusesFilms_617 rfl rfl rfl ?_
                                                                        refine jj_iconst (v := (-1 : Int32)) (pc' := 619) dL_refusesFilms_618 rfl rfl ?_
                                                                        refine jj_iconst (v := (0 : Int32)) (pc' := 620) dL_refusesFilms_619 rfl rfl ?_
                                                                        refine jj_lconst (v := (0 : Int64)) (pc' := 621) dL_refusesFilms_620 rfl rfl ?_
                                                                        refine jj_cI (N := M_L_call) (kc' := 1954) (ks' := 11724) (pc' := 624) (jg_H (N := M_L_call) (rest := []) (as := [.ref a0, .int ((17 : Int32)), .int x106, .int ((-1 : Int32)), .int ((0 : Int32)), .long ((0 : Int64))]) cf_L_119 (by decide) dL_refusesFilms_621 rfl rfl ⟨Nat.le_of_ble_eq_true rfl, Nat.le_of_ble_eq_true rfl⟩ ⟨Nat.le_of_ble_eq_true rfl, Nat.le_of_ble_eq_true rfl⟩ (Nat.le_of_ble_eq_true rfl) (fun X' hX => KL_call hX)) rfl rfl rfl rfl ⟨Nat.le_of_ble_eq_true rfl, Nat.le_of_ble_eq_true rfl⟩ rfl hF (fun x334 h333 hF => ?_)
                                                                        refine jj_bipush (v := (-11 : Int32)) (pc' := 626) dL_refusesFilms_624 rfl rfl ?_
                                                                        refine jj_icmp_ne (tgt := 721) (pc' := 629) dL_refusesFilms_626 rfl rfl (fun hc hF => ?_) (fun hc hF => ?_) hF
                                                                        · skip
                                                                          refine jj_iconst (v := (0 : Int32)) (pc' := 722) dL_refusesFilms_721 rfl rfl ?_
                                                                          exact jj_retI (ty := .boolean) rfl rfl dL_refusesFilms_722 ⟨Nat.le_of_ble_eq_true rfl, Nat.le_of_ble_eq_true rfl⟩ hF
                                                                        · skip
                                                                          refine jj_aload_n (j := 3) (i := 0) (pc' := 630) dL_refusesFilms_629 rfl rfl rfl ?_
                                                                          refine jj_bipush (v := (17 : Int32)) (pc' := 632) dL_refusesFilms_630 rfl rfl ?_
                                                                          refine jj_iconst (v := (2 : Int32)) (pc' := 633) dL_refusesFilms_632 rfl rfl ?_
                                                                          refine jj_iload (j := 0) (i := 4) (pc' := 635) dL_refusesFilms_633 rfl rfl ?_
                                                                          refine jj_iconst (v := (0 : Int32)) (pc' := 636) dL_refusesFilms_635 rfl rfl ?_
                                                                          refine jj_lconst (v := (0 : Int64)) (pc' := 637) dL_refusesFilms_636 rfl rfl ?_
                                                                          refine jj_cI (N := M_L_call) (kc' := 2015) (ks' := 12090) (pc' := 640) (jg_H (N := M_L_call) (rest := []) (as := [.ref a0, .int ((17 : Int32)), .int ((2 : Int32)), .int x108, .int ((0 : Int32)), .long ((0 : Int64))]) cf_L_119 (by decide) dL_refusesFilms_637 rfl rfl ⟨Nat.le_of_ble_eq_true rfl, Nat.le_of_ble_eq_true rfl⟩ ⟨Nat.le_of_ble_eq_true rfl, Nat.le_of_ble_eq_true rfl⟩ (Nat.le_of_ble_eq_true rfl) (fun X' hX => KL_call hX)) rfl rfl rfl rfl ⟨Nat.le_of_ble_eq_true rfl, Nat.le_of_ble_eq_true rfl⟩ rfl hF (fun x336 h335 hF => ?_)
                                                                          refine jj_bipush (v := (-12 : Int32)) (pc' := 642) dL_refusesFilms_640 rfl rfl ?_
                                                                          refine jj_icmp_ne (tgt := 721) (pc' := 645) dL_refusesFilms_642 rfl rfl (fun hc hF => ?_) (fun hc hF => ?_) hF
                                                                          · skip
                                                                            refine jj_iconst (v := (0 : Int32)) (pc' := 722) dL_refusesFilms_721 rfl rfl ?_
                                                                            exact jj_retI (ty := .boolean) rfl rfl dL_refusesFilms_722 ⟨Nat.le_of_ble_eq_true rfl, Nat.le_of_ble_eq_true rfl⟩ hF
                                                                          · skip
                                                                            refine jj_aload_n (j := 3) (i := 0) (pc' := 646) dL_refusesFilms_645 rfl rfl rfl ?_
                                                                            refine jj_bipush (v := (18 : Int32)) (pc' := 648) dL_refusesFilms_646 rfl rfl ?_
                                                                            refine jj_iload_n (j := 1) (i := 3) (pc' := 649) dL_refusesFilms_648 rfl rfl rfl ?_
                                                                            refine jj_bipush (v := (9 : Int32)) (pc' := 651) dL_refusesFilms_649 rfl rfl ?_
                                                                            refine jj_iconst (v := (0 : Int32)) (pc' := 652) dL_refusesFilms_651 rfl rfl ?_
                                                                            refine jj_lconst (v := (0 : Int64)) (pc' := 653) dL_refusesFilms_652 rfl rfl ?_
                                                                            refine jj_cI (N := M_L_call) (kc' := 2076) (ks' := 12456) (pc' := 656) (jg_H (N := M_L_call) (rest := []) (as := [.ref a0, .int ((18 : Int32)), .int x106, .int ((9 : Int32)), .int ((0 : Int32)), .long ((0 : Int64))]) cf_L_119 (by decide) dL_refusesFilms_653 rfl rfl ⟨Nat.le_of_ble_eq_true rfl, Nat.le_of_ble_eq_true rfl⟩ ⟨Nat.le_of_ble_eq_true rfl, Nat.le_of_ble_eq_true rfl⟩ (Nat.le_of_ble_eq_true rfl) (fun X' hX => KL_call hX)) rfl rfl rfl rfl ⟨Nat.le_of_ble_eq_true rfl, Nat.le_of_ble_eq_true rfl⟩ rfl hF (fun x338 h337 hF => ?_)
                                                                            refine jj_bipush (v := (-11 : Int32)) (pc' := 658) dL_refusesFilms_656 rfl rfl ?_
                                                                            refine jj_icmp_ne (tgt := 721) (pc' := 661) dL_refusesFilms_658 rfl rfl (fun hc hF => ?_) (fun hc hF => ?_) hF
                                                                            · skip
                                                                              refine jj_iconst (v := (0 : Int32)) (pc' := 722) dL_refusesFilms_721 rfl rfl ?_
                                                                              exact jj_retI (ty := .boolean) rfl rfl dL_refusesFilms_722 ⟨Nat.le_of_ble_eq_true rfl, Nat.le_of_ble_eq_true rfl⟩ hF
                                                                            · skip
                                                                              refine jj_aload_n (j := 3) (i := 0) (pc' := 662) dL_refusesFilms_661 rfl rfl rfl ?_
                                                                              refine jj_bipush (v := (18 : Int32)) (pc' := 664) dL_refusesFilms_662 rfl rfl ?_
                                                                              refine jj_iconst (v := (0 : Int32)) (pc' := 665) dL_refusesFilms_664 rfl rfl ?_
                                                                              refine jj_iload_n (j := 4) (i := 1) (pc' := 666) dL_refusesFilms_665 rfl rfl rfl ?_
                                                                              refine jj_iconst (v := (0 : Int32)) (pc' := 667) dL_refusesFilms_666 rfl rfl ?_
                                                                              refine jj_iconst (v := (4 : Int32)) (pc' := 668) dL_refusesFilms_667 rfl rfl ?_
                                                                              refine jj_cI (N := M_L_far) (kc' := 2076) (ks' := 12456) (pc' := 671) (jg_S (N := M_L_far) (rest := [.int ((0 : Int32)), .int ((18 : Int32)), .ref a0]) (as := [.int x1, .int ((0 : Int32)), .int ((4 : Int32))]) cf_L_114 rfl dL_refusesFilms_668 rfl rfl ⟨Nat.le_of_ble_eq_true rfl, Nat.le_of_ble_eq_true rfl⟩ ⟨Nat.le_of_ble_eq_true rfl, Nat.le_of_ble_eq_true rfl⟩ (Nat.le_of_ble_eq_true rfl) (fun X' hX => KL_far hX)) rfl rfl rfl rfl ⟨Nat.le_of_ble_eq_true rfl, Nat.le_of_ble_eq_true rfl⟩ rfl hF (fun x340 h339 hF => ?_)
                                                                              refine jj_iconst (v := (0 : Int32)) (pc' := 672) dL_refusesFilms_671 rfl rfl ?_
                                                                              refine jj_lconst (v := (0 : Int64)) (pc' := 673) dL_refusesFilms_672 rfl rfl ?_
                                                                              refine jj_cI (N := M_L_call) (kc' := 2137) (ks' := 12822) (pc' := 676) (jg_H (N := M_L_call) (rest := []) (as := [.ref a0, .int ((18 : Int32)), .int ((0 : Int32)), .int x340, .int ((0 : Int32)), .long ((0 : Int64))]) cf_L_119 (by decide) dL_refusesFilms_673 rfl rfl ⟨Nat.le_of_ble_eq_true rfl, Nat.le_of_ble_eq_true rfl⟩ ⟨Nat.le_of_ble_eq_true rfl, Nat.le_of_ble_eq_true rfl⟩ (Nat.le_of_ble_eq_true rfl) (fun X' hX => KL_call hX)) rfl rfl rfl rfl ⟨Nat.le_of_ble_eq_true rfl, Nat.le_of_ble_eq_true rfl⟩ rfl hF (fun x342 h341 hF => ?_)
                                                                              refine jj_bipush (v := (-12 : Int32)) (pc' := 678) dL_refusesFilms_676 rfl rfl ?_
                                                                              refine jj_icmp_ne (tgt := 721) (pc' := 681) dL_refusesFilms_678 rfl rfl (fun hc hF => ?_) (fun hc hF => ?_) hF
                                                                              · skip
                                                                                refine jj_iconst (v := (0 : Int32)) (pc' := 722) dL_refusesFilms_721 rfl rfl ?_
                                                                                exact jj_retI (ty := .boolean) rfl rfl dL_refusesFilms_722 ⟨Nat.le_of_ble_eq_true rfl, Nat.le_of_ble_eq_true rfl⟩ hF
                                                                              · skip
                                                                                refine jj_aload_n (j := 3) (i := 0) (pc' := 682) dL_refusesFilms_681 rfl rfl rfl ?_
                                                                                refine jj_bipush (v := (21 : Int32)) (pc' := 684) dL_refusesFilms_682 rfl rfl ?_
                                                                                refine jj_iload_n (j := 4) (i := 1) (pc' := 685) dL_refusesFilms_684 rfl rfl rfl ?_
                                                                                refine jj_iconst (v := (0 : Int32)) (pc' := 686) dL_refusesFilms_685 rfl rfl ?_
                                                                                refine jj_bipush (v := (11 : Int32)) (pc' := 688) dL_refusesFilms_686 rfl rfl ?_
                                                                                refine jj_cI (N := M_L_far) (kc' := 2137) (ks' := 12822) (pc' := 691) (jg_S (N := M_L_far) (rest := [.int ((21 : Int32)), .ref a0]) (as := [.int x1, .int ((0 : Int32)), .int ((11 : Int32))]) cf_L_114 rfl dL_refusesFilms_688 rfl rfl ⟨Nat.le_of_ble_eq_true rfl, Nat.le_of_ble_eq_true rfl⟩ ⟨Nat.le_of_ble_eq_true rfl, Nat.le_of_ble_eq_true rfl⟩ (Nat.le_of_ble_eq_true rfl) (fun X' hX => KL_far hX)) rfl rfl rfl rfl ⟨Nat.le_of_ble_eq_true rfl, Nat.le_of_ble_eq_true rfl⟩ rfl hF (fun x344 h343 hF => ?_)
                                                                                refine jj_iconst (v := (0 : Int32)) (pc' := 692) dL_refusesFilms_691 rfl rfl ?_
                                                                                refine jj_iconst (v := (0 : Int32)) (pc' := 693) dL_refusesFilms_692 rfl rfl ?_
                                                                                refine jj_lconst (v := (0 : Int64)) (pc' := 694) dL_refusesFilms_693 rfl rfl ?_
                                                                                refine jj_cI (N := M_L_call) (kc' := 2198) (ks' := 13188) (pc' := 697) (jg_H (N := M_L_call) (rest := []) (as := [.ref a0, .int ((21 : Int32)), .int x344, .int ((0 : Int32)), .int ((0 : Int32)), .long ((0 : Int64))]) cf_L_119 (by decide) dL_refusesFilms_694 rfl rfl ⟨Nat.le_of_ble_eq_true rfl, Nat.le_of_ble_eq_true rfl⟩ ⟨Nat.le_of_ble_eq_true rfl, Nat.le_of_ble_eq_true rfl⟩ (Nat.le_of_ble_eq_true rfl) (fun X' hX => KL_call hX)) rfl rfl rfl rfl ⟨Nat.le_of_ble_eq_true rfl, Nat.le_of_ble_eq_true rfl⟩ rfl hF (fun x346 h345 hF => ?_)
                                                                                refine jj_bipush (v := (-12 : Int32)) (pc' := 699) dL_refusesFilms_697 rfl rfl ?_
                                                                                refine jj_icmp_ne (tgt := 721) (pc' := 702) dL_refusesFilms_699 rfl rfl (fun hc hF => ?_) (fun hc hF => ?_) hF
                                                                                · skip
                                                                                  refine jj_iconst (v := (0 : Int32)) (pc' := 722) dL_refusesFilms_721 rfl rfl ?_
                                                                                  exact jj_retI (ty := .boolean) rfl rfl dL_refusesFilms_722 ⟨Nat.le_of_ble_eq_true rfl, Nat.le_of_ble_eq_true rfl⟩ hF
                                                                                · skip
                                                                                  refine jj_aload_n (j := 3) (i := 0) (pc' := 703) dL_refusesFilms_702 rfl rfl rfl ?_
                                                                                  refine jj_bipush (v := (26 : Int32)) (pc' := 705) dL_refusesFilms_703 rfl rfl ?_
                                                                                  refine jj_iload_n (j := 1) (i := 3) (pc' := 706) dL_refusesFilms_705 rfl rfl rfl ?_
                                                                                  refine jj_iconst (v := (0 : Int32)) (pc' := 707) dL_refusesFilms_706 rfl rfl ?_
                                                                                  refine jj_iconst (v := (0 : Int32)) (pc' := 708) dL_refusesFilms_707 rfl rfl ?_
                                                                                  refine jj_lconst (v := (0 : Int64)) (pc' := 709) dL_refusesFilms_708 rfl rfl ?_
                                                                                  refine jj_cI (N := M_L_call) (kc' := 2259) (ks' := 13554) (pc' := 712) (jg_H (N := M_L_call) (rest := []) (as := [.ref a0, .int ((26 : Int32)), .int x106, .int ((0 : Int32)), .int ((0 : Int32)), .long ((0 : Int64))]) cf_L_119 (by decide) dL_refusesFilms_709 rfl rfl ⟨Nat.le_of_ble_eq_true rfl, Nat.le_of_ble_eq_true rfl⟩ ⟨Nat.le_of_ble_eq_true rfl, Nat.le_of_ble_eq_true rfl⟩ (Nat.le_of_ble_eq_true rfl) (fun X' hX => KL_call hX)) rfl rfl rfl rfl ⟨Nat.le_of_ble_eq_true rfl, Nat.le_of_ble_eq_true rfl⟩ rfl hF (fun x348 h347 hF => ?_)
                                                                                  refine jj_bipush (v := (-11 : Int32)) (pc' := 714) dL_refusesFilms_712 rfl rfl ?_
                                                                                  refine jj_icmp_ne (tgt := 721) (pc' := 717) dL_refusesFilms_714 rfl rfl (fun hc hF => ?_) (fun hc hF => ?_) hF
                                                                                  · skip
                                                                                    refine jj_iconst (v := (0 : Int32)) (pc' := 722) dL_refusesFilms_721 rfl rfl ?_
                                                                                    exact jj_retI (ty := .boolean) rfl rfl dL_refusesFilms_722 ⟨Nat.le_of_ble_eq_true rfl, Nat.le_of_ble_eq_true rfl⟩ hF
                                                                                  · skip
                                                                                    refine jj_iconst (v := (1 : Int32)) (pc' := 718) dL_refusesFilms_717 rfl rfl ?_
                                                                                    refine jj_goto (tgt := 722) dL_refusesFilms_718 rfl ?_
                                                                                    exact jj_retI (ty := .boolean) rfl rfl dL_refusesFilms_722 ⟨Nat.le_of_ble_eq_true rfl, Nat.le_of_ble_eq_true rfl⟩ hF
                                                                      · skip
                                                                        refine jj_iconst (v := (0 : Int32)) (pc' := 613) dL_refusesFilms_612 rfl rfl ?_
                                                                        exact jj_retI (ty := .boolean) rfl rfl dL_refusesFilms_613 ⟨Nat.le_of_ble_eq_true rfl, Nat.le_of_ble_eq_true rfl⟩ hF
                                                · skip
                                                  refine jj_sipush (v := (2001 : Int32)) (pc' := 427) dL_refusesFilms_424 rfl rfl ?_
                                                  refine jj_goto (tgt := 436) dL_refusesFilms_427 rfl ?_
                                                  refine jj_lconst (v := (0 : Int64)) (pc' := 437) dL_refusesFilms_436 rfl rfl ?_
                                                  refine jj_cI (N := M_L_call) (kc' := 1283) (ks' := 7698) (pc' := 440) (jg_H (N := M_L_call) (rest := []) (as := [.ref a0, .int ((6 : Int32)), .int ((0 : Int32)), .int ((700 : Int32)), .int ((2001 : Int32)), .long ((0 : Int64))]) cf_L_119 (by decide) dL_refusesFilms_437 rfl rfl ⟨Nat.le_of_ble_eq_true rfl, Nat.le_of_ble_eq_true rfl⟩ ⟨Nat.le_of_ble_eq_true rfl, Nat.le_of_ble_eq_true rfl⟩ (Nat.le_of_ble_eq_true rfl) (fun X' hX => KL_call hX)) rfl rfl rfl rfl ⟨Nat.le_of_ble_eq_true rfl, Nat.le_of_ble_eq_true rfl⟩ rfl hF (fun x350 h349 hF => ?_)
                                                  refine jj_bipush (v := (-12 : Int32)) (pc' := 442) dL_refusesFilms_440 rfl rfl ?_
                                                  refine jj_icmp_ne (tgt := 612) (pc' := 445) dL_refusesFilms_442 rfl rfl (fun hc hF => ?_) (fun hc hF => ?_) hF
                                                  · skip
                                                    refine jj_iconst (v := (0 : Int32)) (pc' := 613) dL_refusesFilms_612 rfl rfl ?_
                                                    exact jj_retI (ty := .boolean) rfl rfl dL_refusesFilms_613 ⟨Nat.le_of_ble_eq_true rfl, Nat.le_of_ble_eq_true rfl⟩ hF
                                                  · skip
                                                    refine jj_aload_n (j := 3) (i := 0) (pc' := 446) dL_refusesFilms_445 rfl rfl rfl ?_
                                                    refine jj_bipush (v := (14 : Int32)) (pc' := 448) dL_refusesFilms_446 rfl rfl ?_
                                                    refine jj_iconst (v := (0 : Int32)) (pc' := 449) dL_refusesFilms_448 rfl rfl ?_
                                                    refine jj_iload_n (j := 4) (i := 1) (pc' := 450) dL_refusesFilms_449 rfl rfl rfl ?_
                                                    refine jj_iconst (v := (0 : Int32)) (pc' := 451) dL_refusesFilms_450 rfl rfl ?_
                                                    refine jj_iconst (v := (5 : Int32)) (pc' := 452) dL_refusesFilms_451 rfl rfl ?_
                                                    refine jj_cI (N := M_L_far) (kc' := 1283) (ks' := 7698) (pc' := 455) (jg_S (N := M_L_far) (rest := [.int ((0 : Int32)), .int ((14 : Int32)), .ref a0]) (as := [.int x1, .int ((0 : Int32)), .int ((5 : Int32))]) cf_L_114 rfl dL_refusesFilms_452 rfl rfl ⟨Nat.le_of_ble_eq_true rfl, Nat.le_of_ble_eq_true rfl⟩ ⟨Nat.le_of_ble_eq_true rfl, Nat.le_of_ble_eq_true rfl⟩ (Nat.le_of_ble_eq_true rfl) (fun X' hX => KL_far hX)) rfl rfl rfl rfl ⟨Nat.le_of_ble_eq_true rfl, Nat.le_of_ble_eq_true rfl⟩ rfl hF (fun x352 h351 hF => ?_)
                                                    refine jj_iconst (v := (0 : Int32)) (pc' := 456) dL_refusesFilms_455 rfl rfl ?_
                                                    refine jj_lconst (v := (0 : Int64)) (pc' := 457) dL_refusesFilms_456 rfl rfl ?_
                                                    refine jj_cI (N := M_L_call) (kc' := 1344) (ks' := 8064) (pc' := 460) (jg_H (N := M_L_call) (rest := []) (as := [.ref a0, .int ((14 : Int32)), .int ((0 : Int32)), .int x352, .int ((0 : Int32)), .long ((0 : Int64))]) cf_L_119 (by decide) dL_refusesFilms_457 rfl rfl ⟨Nat.le_of_ble_eq_true rfl, Nat.le_of_ble_eq_true rfl⟩ ⟨Nat.le_of_ble_eq_true rfl, Nat.le_of_ble_eq_true rfl⟩ (Nat.le_of_ble_eq_true rfl) (fun X' hX => KL_call hX)) rfl rfl rfl rfl ⟨Nat.le_of_ble_eq_true rfl, Nat.le_of_ble_eq_true rfl⟩ rfl hF (fun x354 h353 hF => ?_)
                                                    refine jj_bipush (v := (-12 : Int32)) (pc' := 462) dL_refusesFilms_460 rfl rfl ?_
                                                    refine jj_icmp_ne (tgt := 612) (pc' := 465) dL_refusesFilms_462 rfl rfl (fun hc hF => ?_) (fun hc hF => ?_) hF
                                                    · skip
                                                      refine jj_iconst (v := (0 : Int32)) (pc' := 613) dL_refusesFilms_612 rfl rfl ?_
                                                      exact jj_retI (ty := .boolean) rfl rfl dL_refusesFilms_613 ⟨Nat.le_of_ble_eq_true rfl, Nat.le_of_ble_eq_true rfl⟩ hF
                                                    · skip
                                                      refine jj_aload_n (j := 3) (i := 0) (pc' := 466) dL_refusesFilms_465 rfl rfl rfl ?_
                                                      refine jj_bipush (v := (22 : Int32)) (pc' := 468) dL_refusesFilms_466 rfl rfl ?_
                                                      refine jj_iconst (v := (0 : Int32)) (pc' := 469) dL_refusesFilms_468 rfl rfl ?_
                                                      refine jj_iload_n (j := 1) (i := 3) (pc' := 470) dL_refusesFilms_469 rfl rfl rfl ?_
                                                      refine jj_iconst (v := (-1 : Int32)) (pc' := 471) dL_refusesFilms_470 rfl rfl ?_
                                                      refine jj_ldc2l (v := (500 : Int64)) (pc' := 474) dL_refusesFilms_471 qw_78 rfl ?_
                                                      refine jj_cI (N := M_L_call) (kc' := 1405) (ks' := 8430) (pc' := 477) (jg_H (N := M_L_call) (rest := []) (as := [.ref a0, .int ((22 : Int32)), .int ((0 : Int32)), .int x106, .int ((-1 : Int32)), .long ((500 : Int64))]) cf_L_119 (by decide) dL_refusesFilms_474 rfl rfl ⟨Nat.le_of_ble_eq_true rfl, Nat.le_of_ble_eq_true rfl⟩ ⟨Nat.le_of_ble_eq_true rfl, Nat.le_of_ble_eq_true rfl⟩ (Nat.le_of_ble_eq_true rfl) (fun X' hX => KL_call hX)) rfl rfl rfl rfl ⟨Nat.le_of_ble_eq_true rfl, Nat.le_of_ble_eq_true rfl⟩ rfl hF (fun x356 h355 hF => ?_)
                                                      refine jj_bipush (v := (-11 : Int32)) (pc' := 479) dL_refusesFilms_477 rfl rfl ?_
                                                      refine jj_icmp_ne (tgt := 612) (pc' := 482) dL_refusesFilms_479 rfl rfl (fun hc hF => ?_) (fun hc hF => ?_) hF
                                                      · skip
                                                        refine jj_iconst (v := (0 : Int32)) (pc' := 613) dL_refusesFilms_612 rfl rfl ?_
                                                        exact jj_retI (ty := .boolean) rfl rfl dL_refusesFilms_613 ⟨Nat.le_of_ble_eq_true rfl, Nat.le_of_ble_eq_true rfl⟩ hF
                                                      · skip
                                                        refine jj_aload_n (j := 3) (i := 0) (pc' := 483) dL_refusesFilms_482 rfl rfl rfl ?_
                                                        refine jj_bipush (v := (22 : Int32)) (pc' := 485) dL_refusesFilms_483 rfl rfl ?_
                                                        refine jj_iconst (v := (0 : Int32)) (pc' := 486) dL_refusesFilms_485 rfl rfl ?_
                                                        refine jj_iconst (v := (2 : Int32)) (pc' := 487) dL_refusesFilms_486 rfl rfl ?_
                                                        refine jj_iload (j := 0) (i := 4) (pc' := 489) dL_refusesFilms_487 rfl rfl ?_
                                                        refine jj_ldc2l (v := (500 : Int64)) (pc' := 492) dL_refusesFilms_489 qw_78 rfl ?_
                                                        refine jj_cI (N := M_L_call) (kc' := 1466) (ks' := 8796) (pc' := 495) (jg_H (N := M_L_call) (rest := []) (as := [.ref a0, .int ((22 : Int32)), .int ((0 : Int32)), .int ((2 : Int32)), .int x108, .long ((500 : Int64))]) cf_L_119 (by decide) dL_refusesFilms_492 rfl rfl ⟨Nat.le_of_ble_eq_true rfl, Nat.le_of_ble_eq_true rfl⟩ ⟨Nat.le_of_ble_eq_true rfl, Nat.le_of_ble_eq_true rfl⟩ (Nat.le_of_ble_eq_true rfl) (fun X' hX => KL_call hX)) rfl rfl rfl rfl ⟨Nat.le_of_ble_eq_true rfl, Nat.le_of_ble_eq_true rfl⟩ rfl hF (fun x358 h357 hF => ?_)
                                                        refine jj_bipush (v := (-12 : Int32)) (pc' := 497) dL_refusesFilms_495 rfl rfl ?_
                                                        refine jj_icmp_ne (tgt := 612) (pc' := 500) dL_refusesFilms_497 rfl rfl (fun hc hF => ?_) (fun hc hF => ?_) hF
                                                        · skip
                                                          refine jj_iconst (v := (0 : Int32)) (pc' := 613) dL_refusesFilms_612 rfl rfl ?_
                                                          exact jj_retI (ty := .boolean) rfl rfl dL_refusesFilms_613 ⟨Nat.le_of_ble_eq_true rfl, Nat.le_of_ble_eq_true rfl⟩ hF
                                                        · skip
                                                          refine jj_aload_n (j := 3) (i := 0) (pc' := 501) dL_refusesFilms_500 rfl rfl rfl ?_
                                                          refine jj_bipush (v := (22 : Int32)) (pc' := 503) dL_refusesFilms_501 rfl rfl ?_
                                                          refine jj_iconst (v := (0 : Int32)) (pc' := 504) dL_refusesFilms_503 rfl rfl ?_
                                                          refine jj_iconst (v := (2 : Int32)) (pc' := 505) dL_refusesFilms_504 rfl rfl ?_
                                                          refine jj_iconst (v := (0 : Int32)) (pc' := 506) dL_refusesFilms_505 rfl rfl ?_
                                                          refine jj_ldc2l (v := (521 : Int64)) (pc' := 509) dL_refusesFilms_506 qw_79 rfl ?_
                                                          refine jj_cI (N := M_L_call) (kc' := 1527) (ks' := 9162) (pc' := 512) (jg_H (N := M_L_call) (rest := []) (as := [.ref a0, .int ((22 : Int32)), .int ((0 : Int32)), .int ((2 : Int32)), .int ((0 : Int32)), .long ((521 : Int64))]) cf_L_119 (by decide) dL_refusesFilms_509 rfl rfl ⟨Nat.le_of_ble_eq_true rfl, Nat.le_of_ble_eq_true rfl⟩ ⟨Nat.le_of_ble_eq_true rfl, Nat.le_of_ble_eq_true rfl⟩ (Nat.le_of_ble_eq_true rfl) (fun X' hX => KL_call hX)) rfl rfl rfl rfl ⟨Nat.le_of_ble_eq_true rfl, Nat.le_of_ble_eq_true rfl⟩ rfl hF (fun x360 h359 hF => ?_)
                                                          refine jj_bipush (v := (-12 : Int32)) (pc' := 514) dL_refusesFilms_512 rfl rfl ?_
                                                          refine jj_icmp_ne (tgt := 612) (pc' := 517) dL_refusesFilms_514 rfl rfl (fun hc hF => ?_) (fun hc hF => ?_) hF
                                                          · skip
                                                            refine jj_iconst (v := (0 : Int32)) (pc' := 613) dL_refusesFilms_612 rfl rfl ?_
                                                            exact jj_retI (ty := .boolean) rfl rfl dL_refusesFilms_613 ⟨Nat.le_of_ble_eq_true rfl, Nat.le_of_ble_eq_true rfl⟩ hF
                                                          · skip
                                                            refine jj_aload_n (j := 3) (i := 0) (pc' := 518) dL_refusesFilms_517 rfl rfl rfl ?_
                                                            refine jj_bipush (v := (22 : Int32)) (pc' := 520) dL_refusesFilms_518 rfl rfl ?_
                                                            refine jj_iconst (v := (0 : Int32)) (pc' := 521) dL_refusesFilms_520 rfl rfl ?_
                                                            refine jj_iconst (v := (2 : Int32)) (pc' := 522) dL_refusesFilms_521 rfl rfl ?_
                                                            refine jj_iconst (v := (0 : Int32)) (pc' := 523) dL_refusesFilms_522 rfl rfl ?_
                                                            refine jj_ldc2l (v := (3500 : Int64)) (pc' := 526) dL_refusesFilms_523 qw_80 rfl ?_
                                                            refine jj_cI (N := M_L_call) (kc' := 1588) (ks' := 9528) (pc' := 529) (jg_H (N := M_L_call) (rest := []) (as := [.ref a0, .int ((22 : Int32)), .int ((0 : Int32)), .int ((2 : Int32)), .int ((0 : Int32)), .long ((3500 : Int64))]) cf_L_119 (by decide) dL_refusesFilms_526 rfl rfl ⟨Nat.le_of_ble_eq_true rfl, Nat.le_of_ble_eq_true rfl⟩ ⟨Nat.le_of_ble_eq_true rfl, Nat.le_of_ble_eq_true rfl⟩ (Nat.le_of_ble_eq_true rfl) (fun X' hX => KL_call hX)) rfl rfl rfl rfl ⟨Nat.le_of_ble_eq_true rfl, Nat.le_of_ble_eq_true rfl⟩ rfl hF (fun x362 h361 hF => ?_)
                                                            refine jj_bipush (v := (-12 : Int32)) (pc' := 531) dL_refusesFilms_529 rfl rfl ?_
                                                            refine jj_icmp_ne (tgt := 612) (pc' := 534) dL_refusesFilms_531 rfl rfl (fun hc hF => ?_) (fun hc hF => ?_) hF
                                                            · skip
                                                              refine jj_iconst (v := (0 : Int32)) (pc' := 613) dL_refusesFilms_612 rfl rfl ?_
                                                              exact jj_retI (ty := .boolean) rfl rfl dL_refusesFilms_613 ⟨Nat.le_of_ble_eq_true rfl, Nat.le_of_ble_eq_true rfl⟩ hF
                                                            · skip
                                                              refine jj_aload_n (j := 3) (i := 0) (pc' := 535) dL_refusesFilms_534 rfl rfl rfl ?_
                                                              refine jj_bipush (v := (23 : Int32)) (pc' := 537) dL_refusesFilms_535 rfl rfl ?_
                                                              refine jj_iconst (v := (0 : Int32)) (pc' := 538) dL_refusesFilms_537 rfl rfl ?_
                                                              refine jj_iload_n (j := 1) (i := 3) (pc' := 539) dL_refusesFilms_538 rfl rfl rfl ?_
                                                              refine jj_iconst (v := (-1 : Int32)) (pc' := 540) dL_refusesFilms_539 rfl rfl ?_
                                                              refine jj_lconst (v := (0 : Int64)) (pc' := 541) dL_refusesFilms_540 rfl rfl ?_
                                                              refine jj_cI (N := M_L_call) (kc' := 1649) (ks' := 9894) (pc' := 544) (jg_H (N := M_L_call) (rest := []) (as := [.ref a0, .int ((23 : Int32)), .int ((0 : Int32)), .int x106, .int ((-1 : Int32)), .long ((0 : Int64))]) cf_L_119 (by decide) dL_refusesFilms_541 rfl rfl ⟨Nat.le_of_ble_eq_true rfl, Nat.le_of_ble_eq_true rfl⟩ ⟨Nat.le_of_ble_eq_true rfl, Nat.le_of_ble_eq_true rfl⟩ (Nat.le_of_ble_eq_true rfl) (fun X' hX => KL_call hX)) rfl rfl rfl rfl ⟨Nat.le_of_ble_eq_true rfl, Nat.le_of_ble_eq_true rfl⟩ rfl hF (fun x364 h363 hF => ?_)
                                                              refine jj_bipush (v := (-11 : Int32)) (pc' := 546) dL_refusesFilms_544 rfl rfl ?_
                                                              refine jj_icmp_ne (tgt := 612) (pc' := 549) dL_refusesFilms_546 rfl rfl (fun hc hF => ?_) (fun hc hF => ?_) hF
                                                              · skip
                                                                refine jj_iconst (v := (0 : Int32)) (pc' := 613) dL_refusesFilms_612 rfl rfl ?_
                                                                exact jj_retI (ty := .boolean) rfl rfl dL_refusesFilms_613 ⟨Nat.le_of_ble_eq_true rfl, Nat.le_of_ble_eq_true rfl⟩ hF
                                                              · skip
                                                                refine jj_aload_n (j := 3) (i := 0) (pc' := 550) dL_refusesFilms_549 rfl rfl rfl ?_
                                                                refine jj_bipush (v := (23 : Int32)) (pc' := 552) dL_refusesFilms_550 rfl rfl ?_
                                                                refine jj_iconst (v := (0 : Int32)) (pc' := 553) dL_refusesFilms_552 rfl rfl ?_
                                                                refine jj_iconst (v := (0 : Int32)) (pc' := 554) dL_refusesFilms_553 rfl rfl ?_
                                                                refine jj_iload (j := 0) (i := 4) (pc' := 556) dL_refusesFilms_554 rfl rfl ?_
                                                                refine jj_lconst (v := (0 : Int64)) (pc' := 557) dL_refusesFilms_556 rfl rfl ?_
                                                                refine jj_cI (N := M_L_call) (kc' := 1710) (ks' := 10260) (pc' := 560) (jg_H (N := M_L_call) (rest := []) (as := [.ref a0, .int ((23 : Int32)), .int ((0 : Int32)), .int ((0 : Int32)), .int x108, .long ((0 : Int64))]) cf_L_119 (by decide) dL_refusesFilms_557 rfl rfl ⟨Nat.le_of_ble_eq_true rfl, Nat.le_of_ble_eq_true rfl⟩ ⟨Nat.le_of_ble_eq_true rfl, Nat.le_of_ble_eq_true rfl⟩ (Nat.le_of_ble_eq_true rfl) (fun X' hX => KL_call hX)) rfl rfl rfl rfl ⟨Nat.le_of_ble_eq_true rfl, Nat.le_of_ble_eq_true rfl⟩ rfl hF (fun x366 h365 hF => ?_)
                                                                refine jj_bipush (v := (-12 : Int32)) (pc' := 562) dL_refusesFilms_560 rfl rfl ?_
                                                                refine jj_icmp_ne (tgt := 612) (pc' := 565) dL_refusesFilms_562 rfl rfl (fun hc hF => ?_) (fun hc hF => ?_) hF
                                                                · skip
                                                                  refine jj_iconst (v := (0 : Int32)) (pc' := 613) dL_refusesFilms_612 rfl rfl ?_
                                                                  exact jj_retI (ty := .boolean) rfl rfl dL_refusesFilms_613 ⟨Nat.le_of_ble_eq_true rfl, Nat.le_of_ble_eq_true rfl⟩ hF
                                                                · skip
                                                                  refine jj_aload_n (j := 3) (i := 0) (pc' := 566) dL_refusesFilms_565 rfl rfl rfl ?_
                                                                  refine jj_bipush (v := (24 : Int32)) (pc' := 568) dL_refusesFilms_566 rfl rfl ?_
                                                                  refine jj_iconst (v := (0 : Int32)) (pc' := 569) dL_refusesFilms_568 rfl rfl ?_
                                                                  refine jj_iload (j := 0) (i := 4) (pc' := 571) dL_refusesFilms_569 rfl rfl ?_
                                                                  refine jj_iconst (v := (0 : Int32)) (pc' := 572) dL_refusesFilms_571 rfl rfl ?_
                                                                  refine jj_lconst (v := (0 : Int64)) (pc' := 573) dL_refusesFilms_572 rfl rfl ?_
                                                                  refine jj_cI (N := M_L_call) (kc' := 1771) (ks' := 10626) (pc' := 576) (jg_H (N := M_L_call) (rest := []) (as := [.ref a0, .int ((24 : Int32)), .int ((0 : Int32)), .int x108, .int ((0 : Int32)), .long ((0 : Int64))]) cf_L_119 (by decide) dL_refusesFilms_573 rfl rfl ⟨Nat.le_of_ble_eq_true rfl, Nat.le_of_ble_eq_true rfl⟩ ⟨Nat.le_of_ble_eq_true rfl, Nat.le_of_ble_eq_true rfl⟩ (Nat.le_of_ble_eq_true rfl) (fun X' hX => KL_call hX)) rfl rfl rfl rfl ⟨Nat.le_of_ble_eq_true rfl, Nat.le_of_ble_eq_true rfl⟩ rfl hF (fun x368 h367 hF => ?_)
                                                                  refine jj_bipush (v := (-12 : Int32)) (pc' := 578) dL_refusesFilms_576 rfl rfl ?_
                                                                  refine jj_icmp_ne (tgt := 612) (pc' := 581) dL_refusesFilms_578 rfl rfl (fun hc hF => ?_) (fun hc hF => ?_) hF
                                                                  · skip
                                                                    refine jj_iconst (v := (0 : Int32)) (pc' := 613) dL_refusesFilms_612 rfl rfl ?_
                                                                    exact jj_retI (ty := .boolean) rfl rfl dL_refusesFilms_613 ⟨Nat.le_of_ble_eq_true rfl, Nat.le_of_ble_eq_true rfl⟩ hF
                                                                  · skip
                                                                    refine jj_aload_n (j := 3) (i := 0) (pc' := 582) dL_refusesFilms_581 rfl rfl rfl ?_
                                                                    refine jj_bipush (v := (25 : Int32)) (pc' := 584) dL_refusesFilms_582 rfl rfl ?_
                                                                    refine jj_iconst (v := (0 : Int32)) (pc' := 585) dL_refusesFilms_584 rfl rfl ?_
                                                                    refine jj_iload_n (j := 1) (i := 3) (pc' := 586) dL_refusesFilms_585 rfl rfl rfl ?_
                                                                    refine jj_iconst (v := (-1 : Int32)) (pc' := 587) dL_refusesFilms_586 rfl rfl ?_
                                                                    refine jj_lconst (v := (0 : Int64)) (pc' := 588) dL_refusesFilms_587 rfl rfl ?_
                                                                    refine jj_cI (N := M_L_call) (kc' := 1832) (ks' := 10992) (pc' := 591) (jg_H (N := M_L_call) (rest := []) (as := [.ref a0, .int ((25 : Int32)), .int ((0 : Int32)), .int x106, .int ((-1 : Int32)), .long ((0 : Int64))]) cf_L_119 (by decide) dL_refusesFilms_588 rfl rfl ⟨Nat.le_of_ble_eq_true rfl, Nat.le_of_ble_eq_true rfl⟩ ⟨Nat.le_of_ble_eq_true rfl, Nat.le_of_ble_eq_true rfl⟩ (Nat.le_of_ble_eq_true rfl) (fun X' hX => KL_call hX)) rfl rfl rfl rfl ⟨Nat.le_of_ble_eq_true rfl, Nat.le_of_ble_eq_true rfl⟩ rfl hF (fun x370 h369 hF => ?_)
                                                                    refine jj_bipush (v := (-11 : Int32)) (pc' := 593) dL_refusesFilms_591 rfl rfl ?_
                                                                    refine jj_icmp_ne (tgt := 612) (pc' := 596) dL_refusesFilms_593 rfl rfl (fun hc hF => ?_) (fun hc hF => ?_) hF
                                                                    · skip
                                                                      refine jj_iconst (v := (0 : Int32)) (pc' := 613) dL_refusesFilms_612 rfl rfl ?_
                                                                      exact jj_retI (ty := .boolean) rfl rfl dL_refusesFilms_613 ⟨Nat.le_of_ble_eq_true rfl, Nat.le_of_ble_eq_true rfl⟩ hF
                                                                    · skip
                                                                      refine jj_aload_n (j := 3) (i := 0) (pc' := 597) dL_refusesFilms_596 rfl rfl rfl ?_
                                                                      refine jj_bipush (v := (25 : Int32)) (pc' := 599) dL_refusesFilms_597 rfl rfl ?_
                                                                      refine jj_iconst (v := (0 : Int32)) (pc' := 600) dL_refusesFilms_599 rfl rfl ?_
                                                                      refine jj_iconst (v := (1 : Int32)) (pc' := 601) dL_refusesFilms_600 rfl rfl ?_
                                                                      refine jj_iload (j := 0) (i := 4) (pc' := 603) dL_refusesFilms_601 rfl rfl ?_
                                                                      refine jj_lconst (v := (0 : Int64)) (pc' := 604) dL_refusesFilms_603 rfl rfl ?_
                                                                      refine jj_cI (N := M_L_call) (kc' := 1893) (ks' := 11358) (pc' := 607) (jg_H (N := M_L_call) (rest := []) (as := [.ref a0, .int ((25 : Int32)), .int ((0 : Int32)), .int ((1 : Int32)), .int x108, .long ((0 : Int64))]) cf_L_119 (by decide) dL_refusesFilms_604 rfl rfl ⟨Nat.le_of_ble_eq_true rfl, Nat.le_of_ble_eq_true rfl⟩ ⟨Nat.le_of_ble_eq_true rfl, Nat.le_of_ble_eq_true rfl⟩ (Nat.le_of_ble_eq_true rfl) (fun X' hX => KL_call hX)) rfl rfl rfl rfl ⟨Nat.le_of_ble_eq_true rfl, Nat.le_of_ble_eq_true rfl⟩ rfl hF (fun x372 h371 hF => ?_)
                                                                      refine jj_bipush (v := (-12 : Int32)) (pc' := 609) dL_refusesFilms_607 rfl rfl ?_
                                                                      refine jj_icmp_eq (tgt := 614) (pc' := 612) dL_refusesFilms_609 rfl rfl (fun hc hF => ?_) (fun hc hF => ?_) hF
                                                                      · skip
                                                                        refine jj_aload_n (j := 3) (i := 0) (pc' := 615) dL_refusesFilms_614 rfl rfl rfl ?_
                                                                        refine jj_bipush (v := (17 : Int32)) (pc' := 617) dL_refusesFilms_615 rfl rfl ?_
                                                                        refine jj_iload_n (j := 1) (i := 3) (pc' := 618) dL_refusesFilms_617 rfl rfl rfl ?_
                                                                        refine jj_iconst (v := (-1 : Int32)) (pc' := 619) dL_refusesFilms_618 rfl rfl ?_
                                                                        refine jj_iconst (v := (0 : Int32)) (pc' := 620) dL_refusesFilms_619 rfl rfl ?_
                                                                        refine jj_lconst (v := (0 : Int64)) (pc' := 621) dL_refusesFilms_620 rfl rfl ?_
                                                                        refine jj_cI (N := M_L_call) (kc' := 1954) (ks' := 11724) (pc' := 624) (jg_H (N := M_L_call) (rest := []) (as := [.ref a0, .int ((17 : Int32)), .int x106, .int ((-1 : Int32)), .int ((0 : Int32)), .long ((0 : Int64))]) cf_L_119 (by decide) dL_refusesFilms_621 rfl rfl ⟨Nat.le_of_ble_eq_true rfl, Nat.le_of_ble_eq_true rfl⟩ ⟨Nat.le_of_ble_eq_true rfl, Nat.le_of_ble_eq_true rfl⟩ (Nat.le_of_ble_eq_true rfl) (fun X' hX => KL_call hX)) rfl rfl rfl rfl ⟨Nat.le_of_ble_eq_true rfl, Nat.le_of_ble_eq_true rfl⟩ rfl hF (fun x374 h373 hF => ?_)
                                                                        refine jj_bipush (v := (-11 : Int32)) (pc' := 626) dL_refusesFilms_624 rfl rfl ?_
                                                                        refine jj_icmp_ne (tgt := 721) (pc' := 629) dL_refusesFilms_626 rfl rfl (fun hc hF => ?_) (fun hc hF => ?_) hF
                                                                        · skip
                                                                          refine jj_iconst (v := (0 : Int32)) (pc' := 722) dL_refusesFilms_721 rfl rfl ?_
                                                                          exact jj_retI (ty := .boolean) rfl rfl dL_refusesFilms_722 ⟨Nat.le_of_ble_eq_true rfl, Nat.le_of_ble_eq_true rfl⟩ hF
                                                                        · skip
                                                                          refine jj_aload_n (j := 3) (i := 0) (pc' := 630) dL_refusesFilms_629 rfl rfl rfl ?_
                                                                          refine jj_bipush (v := (17 : Int32)) (pc' := 632) dL_refusesFilms_630 rfl rfl ?_
                                                                          refine jj_iconst (v := (2 : Int32)) (pc' := 633) dL_refusesFilms_632 rfl rfl ?_
                                                                          refine jj_iload (j := 0) (i := 4) (pc' := 635) dL_refusesFilms_633 rfl rfl ?_
                                                                          refine jj_iconst (v := (0 : Int32)) (pc' := 636) dL_refusesFilms_635 rfl rfl ?_
                                                                          refine jj_lconst (v := (0 : Int64)) (pc' := 637) dL_refusesFilms_636 rfl rfl ?_
                                                                          refine jj_cI (N := M_L_call) (kc' := 2015) (ks' := 12090) (pc' := 640) (jg_H (N := M_L_call) (rest := []) (as := [.ref a0, .int ((17 : Int32)), .int ((2 : Int32)), .int x108, .int ((0 : Int32)), .long ((0 : Int64))]) cf_L_119 (by decide) dL_refusesFilms_637 rfl rfl ⟨Nat.le_of_ble_eq_true rfl, Nat.le_of_ble_eq_true rfl⟩ ⟨Nat.le_of_ble_eq_true rfl, Nat.le_of_ble_eq_true rfl⟩ (Nat.le_of_ble_eq_true rfl) (fun X' hX => KL_call hX)) rfl rfl rfl rfl ⟨Nat.le_of_ble_eq_true rfl, Nat.le_of_ble_eq_true rfl⟩ rfl hF (fun x376 h375 hF => ?_)
                                                                          refine jj_bipush (v := (-12 : Int32)) (pc' := 642) dL_refusesFilms_640 rfl rfl ?_
                                                                          refine jj_icmp_ne (tgt := 721) (pc' := 645) dL_refusesFilms_642 rfl rfl (fun hc hF => ?_) (fun hc hF => ?_) hF
                                                                          · skip
                                                                            refine jj_iconst (v := (0 : Int32)) (pc' := 722) dL_refusesFilms_721 rfl rfl ?_
                                                                            exact jj_retI (ty := .boolean) rfl rfl dL_refusesFilms_722 ⟨Nat.le_of_ble_eq_true rfl, Nat.le_of_ble_eq_true rfl⟩ hF
                                                                          · skip
                                                                            refine jj_aload_n (j := 3) (i := 0) (pc' := 646) dL_refusesFilms_645 rfl rfl rfl ?_
                                                                            refine jj_bipush (v := (18 : Int32)) (pc' := 648) dL_refusesFilms_646 rfl rfl ?_
                                                                            refine jj_iload_n (j := 1) (i := 3) (pc' := 649) dL_refusesFilms_648 rfl rfl rfl ?_
                                                                            refine jj_bipush (v := (9 : Int32)) (pc' := 651) dL_refusesFilms_649 rfl rfl ?_
                                                                            refine jj_iconst (v := (0 : Int32)) (pc' := 652) dL_refusesFilms_651 rfl rfl ?_
                                                                            refine jj_lconst (v := (0 : Int64)) (pc' := 653) dL_refusesFilms_652 rfl rfl ?_
                                                                            refine jj_cI (N := M_L_call) (kc' := 2076) (ks' := 12456) (pc' := 656) (jg_H (N := M_L_call) (rest := []) (as := [.ref a0, .int ((18 : Int32)), .int x106, .int ((9 : Int32)), .int ((0 : Int32)), .long ((0 : Int64))]) cf_L_119 (by decide) dL_refusesFilms_653 rfl rfl ⟨Nat.le_of_ble_eq_true rfl, Nat.le_of_ble_eq_true rfl⟩ ⟨Nat.le_of_ble_eq_true rfl, Nat.le_of_ble_eq_true rfl⟩ (Nat.le_of_ble_eq_true rfl) (fun X' hX => KL_call hX)) rfl rfl rfl rfl ⟨Nat.le_of_ble_eq_true rfl, Nat.le_of_ble_eq_true rfl⟩ rfl hF (fun x378 h377 hF => ?_)
                                                                            refine jj_bipush (v := (-11 : Int32)) (pc' := 658) dL_refusesFilms_656 rfl rfl ?_
                                                                            refine jj_icmp_ne (tgt := 721) (pc' := 661) dL_refusesFilms_658 rfl rfl (fun hc hF => ?_) (fun hc hF => ?_) hF
                                                                            · skip
                                                                              refine jj_iconst (v := (0 : Int32)) (pc' := 722) dL_refusesFilms_721 rfl rfl ?_
                                                                              exact jj_retI (ty := .boolean) rfl rfl dL_refusesFilms_722 ⟨Nat.le_of_ble_eq_true rfl, Nat.le_of_ble_eq_true rfl⟩ hF
                                                                            · skip
                                                                              refine jj_aload_n (j := 3) (i := 0) (pc' := 662) dL_refusesFilms_661 rfl rfl rfl ?_
                                                                              refine jj_bipush (v := (18 : Int32)) (pc' := 664) dL_refusesFilms_662 rfl rfl ?_
                                                                              refine jj_iconst (v := (0 : Int32)) (pc' := 665) dL_refusesFilms_664 rfl rfl ?_
                                                                              refine jj_iload_n (j := 4) (i := 1) (pc' := 666) dL_refusesFilms_665 rfl rfl rfl ?_
                                                                              refine jj_iconst (v := (0 : Int32)) (pc' := 667) dL_refusesFilms_666 rfl rfl ?_
                                                                              refine jj_iconst (v := (4 : Int32)) (pc' := 668) dL_refusesFilms_667 rfl rfl ?_
                                                                              refine jj_cI (N := M_L_far) (kc' := 2076) (ks' := 12456) (pc' := 671) (jg_S (N := M_L_far) (rest := [.int ((0 : Int32)), .int ((18 : Int32)), .ref a0]) (as := [.int x1, .int ((0 : Int32)), .int ((4 : Int32))]) cf_L_114 rfl dL_refusesFilms_668 rfl rfl ⟨Nat.le_of_ble_eq_true rfl, Nat.le_of_ble_eq_true rfl⟩ ⟨Nat.le_of_ble_eq_true rfl, Nat.le_of_ble_eq_true rfl⟩ (Nat.le_of_ble_eq_true rfl) (fun X' hX => KL_far hX)) rfl rfl rfl rfl ⟨Nat.le_of_ble_eq_true rfl, Nat.le_of_ble_eq_true rfl⟩ rfl hF (fun x380 h379 hF => ?_)
                                                                              refine jj_iconst (v := (0 : Int32)) (pc' := 672) dL_refusesFilms_671 rfl rfl ?_
                                                                              refine jj_lconst (v := (0 : Int64)) (pc' := 673) dL_refusesFilms_672 rfl rfl ?_
                                                                              refine jj_cI (N := M_L_call) (kc' := 2137) (ks' := 12822) (pc' := 676) (jg_H (N := M_L_call) (rest := []) (as := [.ref a0, .int ((18 : Int32)), .int ((0 : Int32)), .int x380, .int ((0 : Int32)), .long ((0 : Int64))]) cf_L_119 (by decide) dL_refusesFilms_673 rfl rfl ⟨Nat.le_of_ble_eq_true rfl, Nat.le_of_ble_eq_true rfl⟩ ⟨Nat.le_of_ble_eq_true rfl, Nat.le_of_ble_eq_true rfl⟩ (Nat.le_of_ble_eq_true rfl) (fun X' hX => KL_call hX)) rfl rfl rfl rfl ⟨Nat.le_of_ble_eq_true rfl, Nat.le_of_ble_eq_true rfl⟩ rfl hF (fun x382 h381 hF => ?_)
                                                                              refine jj_bipush (v := (-12 : Int32)) (pc' := 678) dL_refusesFilms_676 rfl rfl ?_
                                                                              refine jj_icmp_ne (tgt := 721) (pc' := 681) dL_refusesFilms_678 rfl rfl (fun hc hF => ?_) (fun hc hF => ?_) hF
                                                                              · skip
                                                                                refine jj_iconst (v := (0 : Int32)) (pc' := 722) dL_refusesFilms_721 rfl rfl ?_
                                                                                exact jj_retI (ty := .boolean) rfl rfl dL_refusesFilms_722 ⟨Nat.le_of_ble_eq_true rfl, Nat.le_of_ble_eq_true rfl⟩ hF
                                                                              · skip
                                                                                refine jj_aload_n (j := 3) (i := 0) (pc' := 682) dL_refusesFilms_681 rfl rfl rfl ?_
                                                                                refine jj_bipush (v := (21 : Int32)) (pc' := 684) dL_refusesFilms_682 rfl rfl ?_
                                                                                refine jj_iload_n (j := 4) (i := 1) (pc' := 685) dL_refusesFilms_684 rfl rfl rfl ?_
                                                                                refine jj_iconst (v := (0 : Int32)) (pc' := 686) dL_refusesFilms_685 rfl rfl ?_
                                                                                refine jj_bipush (v := (11 : Int32)) (pc' := 688) dL_refusesFilms_686 rfl rfl ?_
                                                                                refine jj_cI (N := M_L_far) (kc' := 2137) (ks' := 12822) (pc' := 691) (jg_S (N := M_L_far) (rest := [.int ((21 : Int32)), .ref a0]) (as := [.int x1, .int ((0 : Int32)), .int ((11 : Int32))]) cf_L_114 rfl dL_refusesFilms_688 rfl rfl ⟨Nat.le_of_ble_eq_true rfl, Nat.le_of_ble_eq_true rfl⟩ ⟨Nat.le_of_ble_eq_true rfl, Nat.le_of_ble_eq_true rfl⟩ (Nat.le_of_ble_eq_true rfl) (fun X' hX => KL_far hX)) rfl rfl rfl rfl ⟨Nat.le_of_ble_eq_true rfl, Nat.le_of_ble_eq_true rfl⟩ rfl hF (fun x384 h383 hF => ?_)
                                                                                refine jj_iconst (v := (0 : Int32)) (pc' := 692) dL_refusesFilms_691 rfl rfl ?_
                                                                                refine jj_iconst (v := (0 : Int32)) (pc' := 693) dL_refusesFilms_692 rfl rfl ?_
                                                                                refine jj_lconst (v := (0 : Int64)) (pc' := 694) dL_refusesFilms_693 rfl rfl ?_
                                                                                refine jj_cI (N := M_L_call) (kc' := 2198) (ks' := 13188) (pc' := 697) (jg_H (N := M_L_call) (rest := []) (as := [.ref a0, .int ((21 : Int32)), .int x384, .int ((0 : Int32)), .int ((0 : Int32)), .long ((0 : Int64))]) cf_L_119 (by decide) dL_refusesFilms_694 rfl rfl ⟨Nat.le_of_ble_eq_true rfl, Nat.le_of_ble_eq_true rfl⟩ ⟨Nat.le_of_ble_eq_true rfl, Nat.le_of_ble_eq_true rfl⟩ (Nat.le_of_ble_eq_true rfl) (fun X' hX => KL_call hX)) rfl rfl rfl rfl ⟨Nat.le_of_ble_eq_true rfl, Nat.le_of_ble_eq_true rfl⟩ rfl hF (fun x386 h385 hF => ?_)
                                                                                refine jj_bipush (v := (-12 : Int32)) (pc' := 699) dL_refusesFilms_697 rfl rfl ?_
                                                                                refine jj_icmp_ne (tgt := 721) (pc' := 702) dL_refusesFilms_699 rfl rfl (fun hc hF => ?_) (fun hc hF => ?_) hF
                                                                                · skip
                                                                                  refine jj_iconst (v := (0 : Int32)) (pc' := 722) dL_refusesFilms_721 rfl rfl ?_
                                                                                  exact jj_retI (ty := .boolean) rfl rfl dL_refusesFilms_722 ⟨Nat.le_of_ble_eq_true rfl, Nat.le_of_ble_eq_true rfl⟩ hF
                                                                                · skip
                                                                                  refine jj_aload_n (j := 3) (i := 0) (pc' := 703) dL_refusesFilms_702 rfl rfl rfl ?_
                                                                                  refine jj_bipush (v := (26 : Int32)) (pc' := 705) dL_refusesFilms_703 rfl rfl ?_
                                                                                  refine jj_iload_n (j := 1) (i := 3) (pc' := 706) dL_refusesFilms_705 rfl rfl rfl ?_
                                                                                  refine jj_iconst (v := (0 : Int32)) (pc' := 707) dL_refusesFilms_706 rfl rfl ?_
                                                                                  refine jj_iconst (v := (0 : Int32)) (pc' := 708) dL_refusesFilms_707 rfl rfl ?_
                                                                                  refine jj_lconst (v := (0 : Int64)) (pc' := 709) dL_refusesFilms_708 rfl rfl ?_
                                                                                  refine jj_cI (N := M_L_call) (kc' := 2259) (ks' := 13554) (pc' := 712) (jg_H (N := M_L_call) (rest := []) (as := [.ref a0, .int ((26 : Int32)), .int x106, .int ((0 : Int32)), .int ((0 : Int32)), .long ((0 : Int64))]) cf_L_119 (by decide) dL_refusesFilms_709 rfl rfl ⟨Nat.le_of_ble_eq_true rfl, Nat.le_of_ble_eq_true rfl⟩ ⟨Nat.le_of_ble_eq_true rfl, Nat.le_of_ble_eq_true rfl⟩ (Nat.le_of_ble_eq_true rfl) (fun X' hX => KL_call hX)) rfl rfl rfl rfl ⟨Nat.le_of_ble_eq_true rfl, Nat.le_of_ble_eq_true rfl⟩ rfl hF (fun x388 h387 hF => ?_)
                                                                                  refine jj_bipush (v := (-11 : Int32)) (pc' := 714) dL_refusesFilms_712 rfl rfl ?_
                                                                                  refine jj_icmp_ne (tgt := 721) (pc' := 717) dL_refusesFilms_714 rfl rfl (fun hc hF => ?_) (fun hc hF => ?_) hF
                                                                                  · skip
                                                                                    refine jj_iconst (v := (0 : Int32)) (pc' := 722) dL_refusesFilms_721 rfl rfl ?_
                                                                                    exact jj_retI (ty := .boolean) rfl rfl dL_refusesFilms_722 ⟨Nat.le_of_ble_eq_true rfl, Nat.le_of_ble_eq_true rfl⟩ hF
                                                                                  · skip
                                                                                    refine jj_iconst (v := (1 : Int32)) (pc' := 718) dL_refusesFilms_717 rfl rfl ?_
                                                                                    refine jj_goto (tgt := 722) dL_refusesFilms_718 rfl ?_
                                                                                    exact jj_retI (ty := .boolean) rfl rfl dL_refusesFilms_722 ⟨Nat.le_of_ble_eq_true rfl, Nat.le_of_ble_eq_true rfl⟩ hF
                                                                      · skip
                                                                        refine jj_iconst (v := (0 : Int32)) (pc' := 613) dL_refusesFilms_612 rfl rfl ?_
                                                                        exact jj_retI (ty := .boolean) rfl rfl dL_refusesFilms_613 ⟨Nat.le_of_ble_eq_true rfl, Nat.le_of_ble_eq_true rfl⟩ hF
                                              · skip
                                                refine jj_sipush (v := (700 : Int32)) (pc' := 416) dL_refusesFilms_413 rfl rfl ?_
                                                refine jj_goto (tgt := 436) dL_refusesFilms_416 rfl ?_
                                                refine jj_lconst (v := (0 : Int64)) (pc' := 437) dL_refusesFilms_436 rfl rfl ?_
                                                refine jj_cI (N := M_L_call) (kc' := 1283) (ks' := 7698) (pc' := 440) (jg_H (N := M_L_call) (rest := []) (as := [.ref a0, .int ((6 : Int32)), .int ((0 : Int32)), .int ((700 : Int32)), .int ((700 : Int32)), .long ((0 : Int64))]) cf_L_119 (by decide) dL_refusesFilms_437 rfl rfl ⟨Nat.le_of_ble_eq_true rfl, Nat.le_of_ble_eq_true rfl⟩ ⟨Nat.le_of_ble_eq_true rfl, Nat.le_of_ble_eq_true rfl⟩ (Nat.le_of_ble_eq_true rfl) (fun X' hX => KL_call hX)) rfl rfl rfl rfl ⟨Nat.le_of_ble_eq_true rfl, Nat.le_of_ble_eq_true rfl⟩ rfl hF (fun x390 h389 hF => ?_)
                                                refine jj_bipush (v := (-12 : Int32)) (pc' := 442) dL_refusesFilms_440 rfl rfl ?_
                                                refine jj_icmp_ne (tgt := 612) (pc' := 445) dL_refusesFilms_442 rfl rfl (fun hc hF => ?_) (fun hc hF => ?_) hF
                                                · skip
                                                  refine jj_iconst (v := (0 : Int32)) (pc' := 613) dL_refusesFilms_612 rfl rfl ?_
                                                  exact jj_retI (ty := .boolean) rfl rfl dL_refusesFilms_613 ⟨Nat.le_of_ble_eq_true rfl, Nat.le_of_ble_eq_true rfl⟩ hF
                                                · skip
                                                  refine jj_aload_n (j := 3) (i := 0) (pc' := 446) dL_refusesFilms_445 rfl rfl rfl ?_
                                                  refine jj_bipush (v := (14 : Int32)) (pc' := 448) dL_refusesFilms_446 rfl rfl ?_
                                                  refine jj_iconst (v := (0 : Int32)) (pc' := 449) dL_refusesFilms_448 rfl rfl ?_
                                                  refine jj_iload_n (j := 4) (i := 1) (pc' := 450) dL_refusesFilms_449 rfl rfl rfl ?_
                                                  refine jj_iconst (v := (0 : Int32)) (pc' := 451) dL_refusesFilms_450 rfl rfl ?_
                                                  refine jj_iconst (v := (5 : Int32)) (pc' := 452) dL_refusesFilms_451 rfl rfl ?_
                                                  refine jj_cI (N := M_L_far) (kc' := 1283) (ks' := 7698) (pc' := 455) (jg_S (N := M_L_far) (rest := [.int ((0 : Int32)), .int ((14 : Int32)), .ref a0]) (as := [.int x1, .int ((0 : Int32)), .int ((5 : Int32))]) cf_L_114 rfl dL_refusesFilms_452 rfl rfl ⟨Nat.le_of_ble_eq_true rfl, Nat.le_of_ble_eq_true rfl⟩ ⟨Nat.le_of_ble_eq_true rfl, Nat.le_of_ble_eq_true rfl⟩ (Nat.le_of_ble_eq_true rfl) (fun X' hX => KL_far hX)) rfl rfl rfl rfl ⟨Nat.le_of_ble_eq_true rfl, Nat.le_of_ble_eq_true rfl⟩ rfl hF (fun x392 h391 hF => ?_)
                                                  refine jj_iconst (v := (0 : Int32)) (pc' := 456) dL_refusesFilms_455 rfl rfl ?_
                                                  refine jj_lconst (v := (0 : Int64)) (pc' := 457) dL_refusesFilms_456 rfl rfl ?_
                                                  refine jj_cI (N := M_L_call) (kc' := 1344) (ks' := 8064) (pc' := 460) (jg_H (N := M_L_call) (rest := []) (as := [.ref a0, .int ((14 : Int32)), .int ((0 : Int32)), .int x392, .int ((0 : Int32)), .long ((0 : Int64))]) cf_L_119 (by decide) dL_refusesFilms_457 rfl rfl ⟨Nat.le_of_ble_eq_true rfl, Nat.le_of_ble_eq_true rfl⟩ ⟨Nat.le_of_ble_eq_true rfl, Nat.le_of_ble_eq_true rfl⟩ (Nat.le_of_ble_eq_true rfl) (fun X' hX => KL_call hX)) rfl rfl rfl rfl ⟨Nat.le_of_ble_eq_true rfl, Nat.le_of_ble_eq_true rfl⟩ rfl hF (fun x394 h393 hF => ?_)
                                                  refine jj_bipush (v := (-12 : Int32)) (pc' := 462) dL_refusesFilms_460 rfl rfl ?_
                                                  refine jj_icmp_ne (tgt := 612) (pc' := 465) dL_refusesFilms_462 rfl rfl (fun hc hF => ?_) (fun hc hF => ?_) hF
                                                  · skip
                                                    refine jj_iconst (v := (0 : Int32)) (pc' := 613) dL_refusesFilms_612 rfl rfl ?_
                                                    exact jj_retI (ty := .boolean) rfl rfl dL_refusesFilms_613 ⟨Nat.le_of_ble_eq_true rfl, Nat.le_of_ble_eq_true rfl⟩ hF
                                                  · skip
                                                    refine jj_aload_n (j := 3) (i := 0) (pc' := 466) dL_refusesFilms_465 rfl rfl rfl ?_
                                                    refine jj_bipush (v := (22 : Int32)) (pc' := 468) dL_refusesFilms_466 rfl rfl ?_
                                                    refine jj_iconst (v := (0 : Int32)) (pc' := 469) dL_refusesFilms_468 rfl rfl ?_
                                                    refine jj_iload_n (j := 1) (i := 3) (pc' := 470) dL_refusesFilms_469 rfl rfl rfl ?_
                                                    refine jj_iconst (v := (-1 : Int32)) (pc' := 471) dL_refusesFilms_470 rfl rfl ?_
                                                    refine jj_ldc2l (v := (500 : Int64)) (pc' := 474) dL_refusesFilms_471 qw_78 rfl ?_
                                                    refine jj_cI (N := M_L_call) (kc' := 1405) (ks' := 8430) (pc' := 477) (jg_H (N := M_L_call) (rest := []) (as := [.ref a0, .int ((22 : Int32)), .int ((0 : Int32)), .int x106, .int ((-1 : Int32)), .long ((500 : Int64))]) cf_L_119 (by decide) dL_refusesFilms_474 rfl rfl ⟨Nat.le_of_ble_eq_true rfl, Nat.le_of_ble_eq_true rfl⟩ ⟨Nat.le_of_ble_eq_true rfl, Nat.le_of_ble_eq_true rfl⟩ (Nat.le_of_ble_eq_true rfl) (fun X' hX => KL_call hX)) rfl rfl rfl rfl ⟨Nat.le_of_ble_eq_true rfl, Nat.le_of_ble_eq_true rfl⟩ rfl hF (fun x396 h395 hF => ?_)
                                                    refine jj_bipush (v := (-11 : Int32)) (pc' := 479) dL_refusesFilms_477 rfl rfl ?_
                                                    refine jj_icmp_ne (tgt := 612) (pc' := 482) dL_refusesFilms_479 rfl rfl (fun hc hF => ?_) (fun hc hF => ?_) hF
                                                    · skip
                                                      refine jj_iconst (v := (0 : Int32)) (pc' := 613) dL_refusesFilms_612 rfl rfl ?_
                                                      exact jj_retI (ty := .boolean) rfl rfl dL_refusesFilms_613 ⟨Nat.le_of_ble_eq_true rfl, Nat.le_of_ble_eq_true rfl⟩ hF
                                                    · skip
                                                      refine jj_aload_n (j := 3) (i := 0) (pc' := 483) dL_refusesFilms_482 rfl rfl rfl ?_
                                                      refine jj_bipush (v := (22 : Int32)) (pc' := 485) dL_refusesFilms_483 rfl rfl ?_
                                                      refine jj_iconst (v := (0 : Int32)) (pc' := 486) dL_refusesFilms_485 rfl rfl ?_
                                                      refine jj_iconst (v := (2 : Int32)) (pc' := 487) dL_refusesFilms_486 rfl rfl ?_
                                                      refine jj_iload (j := 0) (i := 4) (pc' := 489) dL_refusesFilms_487 rfl rfl ?_
                                                      refine jj_ldc2l (v := (500 : Int64)) (pc' := 492) dL_refusesFilms_489 qw_78 rfl ?_
                                                      refine jj_cI (N := M_L_call) (kc' := 1466) (ks' := 8796) (pc' := 495) (jg_H (N := M_L_call) (rest := []) (as := [.ref a0, .int ((22 : Int32)), .int ((0 : Int32)), .int ((2 : Int32)), .int x108, .long ((500 : Int64))]) cf_L_119 (by decide) dL_refusesFilms_492 rfl rfl ⟨Nat.le_of_ble_eq_true rfl, Nat.le_of_ble_eq_true rfl⟩ ⟨Nat.le_of_ble_eq_true rfl, Nat.le_of_ble_eq_true rfl⟩ (Nat.le_of_ble_eq_true rfl) (fun X' hX => KL_call hX)) rfl rfl rfl rfl ⟨Nat.le_of_ble_eq_true rfl, Nat.le_of_ble_eq_true rfl⟩ rfl hF (fun x398 h397 hF => ?_)
                                                      refine jj_bipush (v := (-12 : Int32)) (pc' := 497) dL_refusesFilms_495 rfl rfl ?_
                                                      refine jj_icmp_ne (tgt := 612) (pc' := 500) dL_refusesFilms_497 rfl rfl (fun hc hF => ?_) (fun hc hF => ?_) hF
                                                      · skip
                                                        refine jj_iconst (v := (0 : Int32)) (pc' := 613) dL_refusesFilms_612 rfl rfl ?_
                                                        exact jj_retI (ty := .boolean) rfl rfl dL_refusesFilms_613 ⟨Nat.le_of_ble_eq_true rfl, Nat.le_of_ble_eq_true rfl⟩ hF
                                                      · skip
                                                        refine jj_aload_n (j := 3) (i := 0) (pc' := 501) dL_refusesFilms_500 rfl rfl rfl ?_
                                                        refine jj_bipush (v := (22 : Int32)) (pc' := 503) dL_refusesFilms_501 rfl rfl ?_
                                                        refine jj_iconst (v := (0 : Int32)) (pc' := 504) dL_refusesFilms_503 rfl rfl ?_
                                                        refine jj_iconst (v := (2 : Int32)) (pc' := 505) dL_refusesFilms_504 rfl rfl ?_
                                                        refine jj_iconst (v := (0 : Int32)) (pc' := 506) dL_refusesFilms_505 rfl rfl ?_
                                                        refine jj_ldc2l (v := (521 : Int64)) (pc' := 509) dL_refusesFilms_506 qw_79 rfl ?_
                                                        refine jj_cI (N := M_L_call) (kc' := 1527) (ks' := 9162) (pc' := 512) (jg_H (N := M_L_call) (rest := []) (as := [.ref a0, .int ((22 : Int32)), .int ((0 : Int32)), .int ((2 : Int32)), .int ((0 : Int32)), .long ((521 : Int64))]) cf_L_119 (by decide) dL_refusesFilms_509 rfl rfl ⟨Nat.le_of_ble_eq_true rfl, Nat.le_of_ble_eq_true rfl⟩ ⟨Nat.le_of_ble_eq_true rfl, Nat.le_of_ble_eq_true rfl⟩ (Nat.le_of_ble_eq_true rfl) (fun X' hX => KL_call hX)) rfl rfl rfl rfl ⟨Nat.le_of_ble_eq_true rfl, Nat.le_of_ble_eq_true rfl⟩ rfl hF (fun x400 h399 hF => ?_)
                                                        refine jj_bipush (v := (-12 : Int32)) (pc' := 514) dL_refusesFilms_512 rfl rfl ?_
                                                        refine jj_icmp_ne (tgt := 612) (pc' := 517) dL_refusesFilms_514 rfl rfl (fun hc hF => ?_) (fun hc hF => ?_) hF
                                                        · skip
                                                          refine jj_iconst (v := (0 : Int32)) (pc' := 613) dL_refusesFilms_612 rfl rfl ?_
                                                          exact jj_retI (ty := .boolean) rfl rfl dL_refusesFilms_613 ⟨Nat.le_of_ble_eq_true rfl, Nat.le_of_ble_eq_true rfl⟩ hF
                                                        · skip
                                                          refine jj_aload_n (j := 3) (i := 0) (pc' := 518) dL_refusesFilms_517 rfl rfl rfl ?_
                                                          refine jj_bipush (v := (22 : Int32)) (pc' := 520) dL_refusesFilms_518 rfl rfl ?_
                                                          refine jj_iconst (v := (0 : Int32)) (pc' := 521) dL_refusesFilms_520 rfl rfl ?_
                                                          refine jj_iconst (v := (2 : Int32)) (pc' := 522) dL_refusesFilms_521 rfl rfl ?_
                                                          refine jj_iconst (v := (0 : Int32)) (pc' := 523) dL_refusesFilms_522 rfl rfl ?_
                                                          refine jj_ldc2l (v := (3500 : Int64)) (pc' := 526) dL_refusesFilms_523 qw_80 rfl ?_
                                                          refine jj_cI (N := M_L_call) (kc' := 1588) (ks' := 9528) (pc' := 529) (jg_H (N := M_L_call) (rest := []) (as := [.ref a0, .int ((22 : Int32)), .int ((0 : Int32)), .int ((2 : Int32)), .int ((0 : Int32)), .long ((3500 : Int64))]) cf_L_119 (by decide) dL_refusesFilms_526 rfl rfl ⟨Nat.le_of_ble_eq_true rfl, Nat.le_of_ble_eq_true rfl⟩ ⟨Nat.le_of_ble_eq_true rfl, Nat.le_of_ble_eq_true rfl⟩ (Nat.le_of_ble_eq_true rfl) (fun X' hX => KL_call hX)) rfl rfl rfl rfl ⟨Nat.le_of_ble_eq_true rfl, Nat.le_of_ble_eq_true rfl⟩ rfl hF (fun x402 h401 hF => ?_)
                                                          refine jj_bipush (v := (-12 : Int32)) (pc' := 531) dL_refusesFilms_529 rfl rfl ?_
                                                          refine jj_icmp_ne (tgt := 612) (pc' := 534) dL_refusesFilms_531 rfl rfl (fun hc hF => ?_) (fun hc hF => ?_) hF
                                                          · skip
                                                            refine jj_iconst (v := (0 : Int32)) (pc' := 613) dL_refusesFilms_612 rfl rfl ?_
                                                            exact jj_retI (ty := .boolean) rfl rfl dL_refusesFilms_613 ⟨Nat.le_of_ble_eq_true rfl, Nat.le_of_ble_eq_true rfl⟩ hF
                                                          · skip
                                                            refine jj_aload_n (j := 3) (i := 0) (pc' := 535) dL_refusesFilms_534 rfl rfl rfl ?_
                                                            refine jj_bipush (v := (23 : Int32)) (pc' := 537) dL_refusesFilms_535 rfl rfl ?_
                                                            refine jj_iconst (v := (0 : Int32)) (pc' := 538) dL_refusesFilms_537 rfl rfl ?_
                                                            refine jj_iload_n (j := 1) (i := 3) (pc' := 539) dL_refusesFilms_538 rfl rfl rfl ?_
                                                            refine jj_iconst (v := (-1 : Int32)) (pc' := 540) dL_refusesFilms_539 rfl rfl ?_
                                                            refine jj_lconst (v := (0 : Int64)) (pc' := 541) dL_refusesFilms_540 rfl rfl ?_
                                                            refine jj_cI (N := M_L_call) (kc' := 1649) (ks' := 9894) (pc' := 544) (jg_H (N := M_L_call) (rest := []) (as := [.ref a0, .int ((23 : Int32)), .int ((0 : Int32)), .int x106, .int ((-1 : Int32)), .long ((0 : Int64))]) cf_L_119 (by decide) dL_refusesFilms_541 rfl rfl ⟨Nat.le_of_ble_eq_true rfl, Nat.le_of_ble_eq_true rfl⟩ ⟨Nat.le_of_ble_eq_true rfl, Nat.le_of_ble_eq_true rfl⟩ (Nat.le_of_ble_eq_true rfl) (fun X' hX => KL_call hX)) rfl rfl rfl rfl ⟨Nat.le_of_ble_eq_true rfl, Nat.le_of_ble_eq_true rfl⟩ rfl hF (fun x404 h403 hF => ?_)
                                                            refine jj_bipush (v := (-11 : Int32)) (pc' := 546) dL_refusesFilms_544 rfl rfl ?_
                                                            refine jj_icmp_ne (tgt := 612) (pc' := 549) dL_refusesFilms_546 rfl rfl (fun hc hF => ?_) (fun hc hF => ?_) hF
                                                            · skip
                                                              refine jj_iconst (v := (0 : Int32)) (pc' := 613) dL_refusesFilms_612 rfl rfl ?_
                                                              exact jj_retI (ty := .boolean) rfl rfl dL_refusesFilms_613 ⟨Nat.le_of_ble_eq_true rfl, Nat.le_of_ble_eq_true rfl⟩ hF
                                                            · skip
                                                              refine jj_aload_n (j := 3) (i := 0) (pc' := 550) dL_refusesFilms_549 rfl rfl rfl ?_
                                                              refine jj_bipush (v := (23 : Int32)) (pc' := 552) dL_refusesFilms_550 rfl rfl ?_
                                                              refine jj_iconst (v := (0 : Int32)) (pc' := 553) dL_refusesFilms_552 rfl rfl ?_
                                                              refine jj_iconst (v := (0 : Int32)) (pc' := 554) dL_refusesFilms_553 rfl rfl ?_
                                                              refine jj_iload (j := 0) (i := 4) (pc' := 556) dL_refusesFilms_554 rfl rfl ?_
                                                              refine jj_lconst (v := (0 : Int64)) (pc' := 557) dL_refusesFilms_556 rfl rfl ?_
                                                              refine jj_cI (N := M_L_call) (kc' := 1710) (ks' := 10260) (pc' := 560) (jg_H (N := M_L_call) (rest := []) (as := [.ref a0, .int ((23 : Int32)), .int ((0 : Int32)), .int ((0 : Int32)), .int x108, .long ((0 : Int64))]) cf_L_119 (by decide) dL_refusesFilms_557 rfl rfl ⟨Nat.le_of_ble_eq_true rfl, Nat.le_of_ble_eq_true rfl⟩ ⟨Nat.le_of_ble_eq_true rfl, Nat.le_of_ble_eq_true rfl⟩ (Nat.le_of_ble_eq_true rfl) (fun X' hX => KL_call hX)) rfl rfl rfl rfl ⟨Nat.le_of_ble_eq_true rfl, Nat.le_of_ble_eq_true rfl⟩ rfl hF (fun x406 h405 hF => ?_)
                                                              refine jj_bipush (v := (-12 : Int32)) (pc' := 562) dL_refusesFilms_560 rfl rfl ?_
                                                              refine jj_icmp_ne (tgt := 612) (pc' := 565) dL_refusesFilms_562 rfl rfl (fun hc hF => ?_) (fun hc hF => ?_) hF
                                                              · skip
                                                                refine jj_iconst (v := (0 : Int32)) (pc' := 613) dL_refusesFilms_612 rfl rfl ?_
                                                                exact jj_retI (ty := .boolean) rfl rfl dL_refusesFilms_613 ⟨Nat.le_of_ble_eq_true rfl, Nat.le_of_ble_eq_true rfl⟩ hF
                                                              · skip
                                                                refine jj_aload_n (j := 3) (i := 0) (pc' := 566) dL_refusesFilms_565 rfl rfl rfl ?_
                                                                refine jj_bipush (v := (24 : Int32)) (pc' := 568) dL_refusesFilms_566 rfl rfl ?_
                                                                refine jj_iconst (v := (0 : Int32)) (pc' := 569) dL_refusesFilms_568 rfl rfl ?_
                                                                refine jj_iload (j := 0) (i := 4) (pc' := 571) dL_refusesFilms_569 rfl rfl ?_
                                                                refine jj_iconst (v := (0 : Int32)) (pc' := 572) dL_refusesFilms_571 rfl rfl ?_
                                                                refine jj_lconst (v := (0 : Int64)) (pc' := 573) dL_refusesFilms_572 rfl rfl ?_
                                                                refine jj_cI (N := M_L_call) (kc' := 1771) (ks' := 10626) (pc' := 576) (jg_H (N := M_L_call) (rest := []) (as := [.ref a0, .int ((24 : Int32)), .int ((0 : Int32)), .int x108, .int ((0 : Int32)), .long ((0 : Int64))]) cf_L_119 (by decide) dL_refusesFilms_573 rfl rfl ⟨Nat.le_of_ble_eq_true rfl, Nat.le_of_ble_eq_true rfl⟩ ⟨Nat.le_of_ble_eq_true rfl, Nat.le_of_ble_eq_true rfl⟩ (Nat.le_of_ble_eq_true rfl) (fun X' hX => KL_call hX)) rfl rfl rfl rfl ⟨Nat.le_of_ble_eq_true rfl, Nat.le_of_ble_eq_true rfl⟩ rfl hF (fun x408 h407 hF => ?_)
                                                                refine jj_bipush (v := (-12 : Int32)) (pc' := 578) dL_refusesFilms_576 rfl rfl ?_
                                                                refine jj_icmp_ne (tgt := 612) (pc' := 581) dL_refusesFilms_578 rfl rfl (fun hc hF => ?_) (fun hc hF => ?_) hF
                                                                · skip
                                                                  refine jj_iconst (v := (0 : Int32)) (pc' := 613) dL_refusesFilms_612 rfl rfl ?_
                                                                  exact jj_retI (ty := .boolean) rfl rfl dL_refusesFilms_613 ⟨Nat.le_of_ble_eq_true rfl, Nat.le_of_ble_eq_true rfl⟩ hF
                                                                · skip
                                                                  refine jj_aload_n (j := 3) (i := 0) (pc' := 582) dL_refusesFilms_581 rfl rfl rfl ?_
                                                                  refine jj_bipush (v := (25 : Int32)) (pc' := 584) dL_refusesFilms_582 rfl rfl ?_
                                                                  refine jj_iconst (v := (0 : Int32)) (pc' := 585) dL_refusesFilms_584 rfl rfl ?_
                                                                  refine jj_iload_n (j := 1) (i := 3) (pc' := 586) dL_refusesFilms_585 rfl rfl rfl ?_
                                                                  refine jj_iconst (v := (-1 : Int32)) (pc' := 587) dL_refusesFilms_586 rfl rfl ?_
                                                                  refine jj_lconst (v := (0 : Int64)) (pc' := 588) dL_refusesFilms_587 rfl rfl ?_
                                                                  refine jj_cI (N := M_L_call) (kc' := 1832) (ks' := 10992) (pc' := 591) (jg_H (N := M_L_call) (rest := []) (as := [.ref a0, .int ((25 : Int32)), .int ((0 : Int32)), .int x106, .int ((-1 : Int32)), .long ((0 : Int64))]) cf_L_119 (by decide) dL_refusesFilms_588 rfl rfl ⟨Nat.le_of_ble_eq_true rfl, Nat.le_of_ble_eq_true rfl⟩ ⟨Nat.le_of_ble_eq_true rfl, Nat.le_of_ble_eq_true rfl⟩ (Nat.le_of_ble_eq_true rfl) (fun X' hX => KL_call hX)) rfl rfl rfl rfl ⟨Nat.le_of_ble_eq_true rfl, Nat.le_of_ble_eq_true rfl⟩ rfl hF (fun x410 h409 hF => ?_)
                                                                  refine jj_bipush (v := (-11 : Int32)) (pc' := 593) dL_refusesFilms_591 rfl rfl ?_
                                                                  refine jj_icmp_ne (tgt := 612) (pc' := 596) dL_refusesFilms_593 rfl rfl (fun hc hF => ?_) (fun hc hF => ?_) hF
                                                                  · skip
                                                                    refine jj_iconst (v := (0 : Int32)) (pc' := 613) dL_refusesFilms_612 rfl rfl ?_
                                                                    exact jj_retI (ty := .boolean) rfl rfl dL_refusesFilms_613 ⟨Nat.le_of_ble_eq_true rfl, Nat.le_of_ble_eq_true rfl⟩ hF
                                                                  · skip
                                                                    refine jj_aload_n (j := 3) (i := 0) (pc' := 597) dL_refusesFilms_596 rfl rfl rfl ?_
                                                                    refine jj_bipush (v := (25 : Int32)) (pc' := 599) dL_refusesFilms_597 rfl rfl ?_
                                                                    refine jj_iconst (v := (0 : Int32)) (pc' := 600) dL_refusesFilms_599 rfl rfl ?_
                                                                    refine jj_iconst (v := (1 : Int32)) (pc' := 601) dL_refusesFilms_600 rfl rfl ?_
                                                                    refine jj_iload (j := 0) (i := 4) (pc' := 603) dL_refusesFilms_601 rfl rfl ?_
                                                                    refine jj_lconst (v := (0 : Int64)) (pc' := 604) dL_refusesFilms_603 rfl rfl ?_
                                                                    refine jj_cI (N := M_L_call) (kc' := 1893) (ks' := 11358) (pc' := 607) (jg_H (N := M_L_call) (rest := []) (as := [.ref a0, .int ((25 : Int32)), .int ((0 : Int32)), .int ((1 : Int32)), .int x108, .long ((0 : Int64))]) cf_L_119 (by decide) dL_refusesFilms_604 rfl rfl ⟨Nat.le_of_ble_eq_true rfl, Nat.le_of_ble_eq_true rfl⟩ ⟨Nat.le_of_ble_eq_true rfl, Nat.le_of_ble_eq_true rfl⟩ (Nat.le_of_ble_eq_true rfl) (fun X' hX => KL_call hX)) rfl rfl rfl rfl ⟨Nat.le_of_ble_eq_true rfl, Nat.le_of_ble_eq_true rfl⟩ rfl hF (fun x412 h411 hF => ?_)
                                                                    refine jj_bipush (v := (-12 : Int32)) (pc' := 609) dL_refusesFilms_607 rfl rfl ?_
                                                                    refine jj_icmp_eq (tgt := 614) (pc' := 612) dL_refusesFilms_609 rfl rfl (fun hc hF => ?_) (fun hc hF => ?_) hF
                                                                    · skip
                                                                      refine jj_aload_n (j := 3) (i := 0) (pc' := 615) dL_refusesFilms_614 rfl rfl rfl ?_
                                                                      refine jj_bipush (v := (17 : Int32)) (pc' := 617) dL_refusesFilms_615 rfl rfl ?_
                                                                      refine jj_iload_n (j := 1) (i := 3) (pc' := 618) dL_refusesFilms_617 rfl rfl rfl ?_
                                                                      refine jj_iconst (v := (-1 : Int32)) (pc' := 619) dL_refusesFilms_618 rfl rfl ?_
                                                                      refine jj_iconst (v := (0 : Int32)) (pc' := 620) dL_refusesFilms_619 rfl rfl ?_
                                                                      refine jj_lconst (v := (0 : Int64)) (pc' := 621) dL_refusesFilms_620 rfl rfl ?_
                                                                      refine jj_cI (N := M_L_call) (kc' := 1954) (ks' := 11724) (pc' := 624) (jg_H (N := M_L_call) (rest := []) (as := [.ref a0, .int ((17 : Int32)), .int x106, .int ((-1 : Int32)), .int ((0 : Int32)), .long ((0 : Int64))]) cf_L_119 (by decide) dL_refusesFilms_621 rfl rfl ⟨Nat.le_of_ble_eq_true rfl, Nat.le_of_ble_eq_true rfl⟩ ⟨Nat.le_of_ble_eq_true rfl, Nat.le_of_ble_eq_true rfl⟩ (Nat.le_of_ble_eq_true rfl) (fun X' hX => KL_call hX)) rfl rfl rfl rfl ⟨Nat.le_of_ble_eq_true rfl, Nat.le_of_ble_eq_true rfl⟩ rfl hF (fun x414 h413 hF => ?_)
                                                                      refine jj_bipush (v := (-11 : Int32)) (pc' := 626) dL_refusesFilms_624 rfl rfl ?_
                                                                      refine jj_icmp_ne (tgt := 721) (pc' := 629) dL_refusesFilms_626 rfl rfl (fun hc hF => ?_) (fun hc hF => ?_) hF
                                                                      · skip
                                                                        refine jj_iconst (v := (0 : Int32)) (pc' := 722) dL_refusesFilms_721 rfl rfl ?_
                                                                        exact jj_retI (ty := .boolean) rfl rfl dL_refusesFilms_722 ⟨Nat.le_of_ble_eq_true rfl, Nat.le_of_ble_eq_true rfl⟩ hF
                                                                      · skip
                                                                        refine jj_aload_n (j := 3) (i := 0) (pc' := 630) dL_refusesFilms_629 rfl rfl rfl ?_
                                                                        refine jj_bipush (v := (17 : Int32)) (pc' := 632) dL_refusesFilms_630 rfl rfl ?_
                                                                        refine jj_iconst (v := (2 : Int32)) (pc' := 633) dL_refusesFilms_632 rfl rfl ?_
                                                                        refine jj_iload (j := 0) (i := 4) (pc' := 635) dL_refusesFilms_633 rfl rfl ?_
                                                                        refine jj_iconst (v := (0 : Int32)) (pc' := 636) dL_refusesFilms_635 rfl rfl ?_
                                                                        refine jj_lconst (v := (0 : Int64)) (pc' := 637) dL_refusesFilms_636 rfl rfl ?_
                                                                        refine jj_cI (N := M_L_call) (kc' := 2015) (ks' := 12090) (pc' := 640) (jg_H (N := M_L_call) (rest := []) (as := [.ref a0, .int ((17 : Int32)), .int ((2 : Int32)), .int x108, .int ((0 : Int32)), .long ((0 : Int64))]) cf_L_119 (by decide) dL_refusesFilms_637 rfl rfl ⟨Nat.le_of_ble_eq_true rfl, Nat.le_of_ble_eq_true rfl⟩ ⟨Nat.le_of_ble_eq_true rfl, Nat.le_of_ble_eq_true rfl⟩ (Nat.le_of_ble_eq_true rfl) (fun X' hX => KL_call hX)) rfl rfl rfl rfl ⟨Nat.le_of_ble_eq_true rfl, Nat.le_of_ble_eq_true rfl⟩ rfl hF (fun x416 h415 hF => ?_)
                                                                        refine jj_bipush (v := (-12 : Int32)) (pc' := 642) dL_refusesFilms_640 rfl rfl ?_
                                                                        refine jj_icmp_ne (tgt := 721) (pc' := 645) dL_refusesFilms_642 rfl rfl (fun hc hF => ?_) (fun hc hF => ?_) hF
                                                                        · skip
                                                                          refine jj_iconst (v := (0 : Int32)) (pc' := 722) dL_refusesFilms_721 rfl rfl ?_
                                                                          exact jj_retI (ty := .boolean) rfl rfl dL_refusesFilms_722 ⟨Nat.le_of_ble_eq_true rfl, Nat.le_of_ble_eq_true rfl⟩ hF
                                                                        · skip
                                                                          refine jj_aload_n (j := 3) (i := 0) (pc' := 646) dL_refusesFilms_645 rfl rfl rfl ?_
                                                                          refine jj_bipush (v := (18 : Int32)) (pc' := 648) dL_refusesFilms_646 rfl rfl ?_
                                                                          refine jj_iload_n (j := 1) (i := 3) (pc' := 649) dL_refusesFilms_648 rfl rfl rfl ?_
                                                                          refine jj_bipush (v := (9 : Int32)) (pc' := 651) dL_refusesFilms_649 rfl rfl ?_
                                                                          refine jj_iconst (v := (0 : Int32)) (pc' := 652) dL_refusesFilms_651 rfl rfl ?_
                                                                          refine jj_lconst (v := (0 : Int64)) (pc' := 653) dL_refusesFilms_652 rfl rfl ?_
                                                                          refine jj_cI (N := M_L_call) (kc' := 2076) (ks' := 12456) (pc' := 656) (jg_H (N := M_L_call) (rest := []) (as := [.ref a0, .int ((18 : Int32)), .int x106, .int ((9 : Int32)), .int ((0 : Int32)), .long ((0 : Int64))]) cf_L_119 (by decide) dL_refusesFilms_653 rfl rfl ⟨Nat.le_of_ble_eq_true rfl, Nat.le_of_ble_eq_true rfl⟩ ⟨Nat.le_of_ble_eq_true rfl, Nat.le_of_ble_eq_true rfl⟩ (Nat.le_of_ble_eq_true rfl) (fun X' hX => KL_call hX)) rfl rfl rfl rfl ⟨Nat.le_of_ble_eq_true rfl, Nat.le_of_ble_eq_true rfl⟩ rfl hF (fun x418 h417 hF => ?_)
                                                                          refine jj_bipush (v := (-11 : Int32)) (pc' := 658) dL_refusesFilms_656 rfl rfl ?_
                                                                          refine jj_icmp_ne (tgt := 721) (pc' := 661) dL_refusesFilms_658 rfl rfl (fun hc hF => ?_) (fun hc hF => ?_) hF
                                                                          · skip
                                                                            refine jj_iconst (v := (0 : Int32)) (pc' := 722) dL_refusesFilms_721 rfl rfl ?_
                                                                            exact jj_retI (ty := .boolean) rfl rfl dL_refusesFilms_722 ⟨Nat.le_of_ble_eq_true rfl, Nat.le_of_ble_eq_true rfl⟩ hF
                                                                          · skip
                                                                            refine jj_aload_n (j := 3) (i := 0) (pc' := 662) dL_refusesFilms_661 rfl rfl rfl ?_
                                                                            refine jj_bipush (v := (18 : Int32)) (pc' := 664) dL_refusesFilms_662 rfl rfl ?_
                                                                            refine jj_iconst (v := (0 : Int32)) (pc' := 665) dL_refusesFilms_664 rfl rfl ?_
                                                                            refine jj_iload_n (j := 4) (i := 1) (pc' := 666) dL_refusesFilms_665 rfl rfl rfl ?_
                                                                            refine jj_iconst (v := (0 : Int32)) (pc' := 667) dL_refusesFilms_666 rfl rfl ?_
                                                                            refine jj_iconst (v := (4 : Int32)) (pc' := 668) dL_refusesFilms_667 rfl rfl ?_
                                                                            refine jj_cI (N := M_L_far) (kc' := 2076) (ks' := 12456) (pc' := 671) (jg_S (N := M_L_far) (rest := [.int ((0 : Int32)), .int ((18 : Int32)), .ref a0]) (as := [.int x1, .int ((0 : Int32)), .int ((4 : Int32))]) cf_L_114 rfl dL_refusesFilms_668 rfl rfl ⟨Nat.le_of_ble_eq_true rfl, Nat.le_of_ble_eq_true rfl⟩ ⟨Nat.le_of_ble_eq_true rfl, Nat.le_of_ble_eq_true rfl⟩ (Nat.le_of_ble_eq_true rfl) (fun X' hX => KL_far hX)) rfl rfl rfl rfl ⟨Nat.le_of_ble_eq_true rfl, Nat.le_of_ble_eq_true rfl⟩ rfl hF (fun x420 h419 hF => ?_)
                                                                            refine jj_iconst (v := (0 : Int32)) (pc' := 672) dL_refusesFilms_671 rfl rfl ?_
                                                                            refine jj_lconst (v := (0 : Int64)) (pc' := 673) dL_refusesFilms_672 rfl rfl ?_
                                                                            refine jj_cI (N := M_L_call) (kc' := 2137) (ks' := 12822) (pc' := 676) (jg_H (N := M_L_call) (rest := []) (as := [.ref a0, .int ((18 : Int32)), .int ((0 : Int32)), .int x420, .int ((0 : Int32)), .long ((0 : Int64))]) cf_L_119 (by decide) dL_refusesFilms_673 rfl rfl ⟨Nat.le_of_ble_eq_true rfl, Nat.le_of_ble_eq_true rfl⟩ ⟨Nat.le_of_ble_eq_true rfl, Nat.le_of_ble_eq_true rfl⟩ (Nat.le_of_ble_eq_true rfl) (fun X' hX => KL_call hX)) rfl rfl rfl rfl ⟨Nat.le_of_ble_eq_true rfl, Nat.le_of_ble_eq_true rfl⟩ rfl hF (fun x422 h421 hF => ?_)
                                                                            refine jj_bipush (v := (-12 : Int32)) (pc' := 678) dL_refusesFilms_676 rfl rfl ?_
                                                                            refine jj_icmp_ne (tgt := 721) (pc' := 681) dL_refusesFilms_678 rfl rfl (fun hc hF => ?_) (fun hc hF => ?_) hF
                                                                            · skip
                                                                              refine jj_iconst (v := (0 : Int32)) (pc' := 722) dL_refusesFilms_721 rfl rfl ?_
                                                                              exact jj_retI (ty := .boolean) rfl rfl dL_refusesFilms_722 ⟨Nat.le_of_ble_eq_true rfl, Nat.le_of_ble_eq_true rfl⟩ hF
                                                                            · skip
                                                                              refine jj_aload_n (j := 3) (i := 0) (pc' := 682) dL_refusesFilms_681 rfl rfl rfl ?_
                                                                              refine jj_bipush (v := (21 : Int32)) (pc' := 684) dL_refusesFilms_682 rfl rfl ?_
                                                                              refine jj_iload_n (j := 4) (i := 1) (pc' := 685) dL_refusesFilms_684 rfl rfl rfl ?_
                                                                              refine jj_iconst (v := (0 : Int32)) (pc' := 686) dL_refusesFilms_685 rfl rfl ?_
                                                                              refine jj_bipush (v := (11 : Int32)) (pc' := 688) dL_refusesFilms_686 rfl rfl ?_
                                                                              refine jj_cI (N := M_L_far) (kc' := 2137) (ks' := 12822) (pc' := 691) (jg_S (N := M_L_far) (rest := [.int ((21 : Int32)), .ref a0]) (as := [.int x1, .int ((0 : Int32)), .int ((11 : Int32))]) cf_L_114 rfl dL_refusesFilms_688 rfl rfl ⟨Nat.le_of_ble_eq_true rfl, Nat.le_of_ble_eq_true rfl⟩ ⟨Nat.le_of_ble_eq_true rfl, Nat.le_of_ble_eq_true rfl⟩ (Nat.le_of_ble_eq_true rfl) (fun X' hX => KL_far hX)) rfl rfl rfl rfl ⟨Nat.le_of_ble_eq_true rfl, Nat.le_of_ble_eq_true rfl⟩ rfl hF (fun x424 h423 hF => ?_)
                                                                              refine jj_iconst (v := (0 : Int32)) (pc' := 692) dL_refusesFilms_691 rfl rfl ?_
                                                                              refine jj_iconst (v := (0 : Int32)) (pc' := 693) dL_refusesFilms_692 rfl rfl ?_
                                                                              refine jj_lconst (v := (0 : Int64)) (pc' := 694) dL_refusesFilms_693 rfl rfl ?_
                                                                              refine jj_cI (N := M_L_call) (kc' := 2198) (ks' := 13188) (pc' := 697) (jg_H (N := M_L_call) (rest := []) (as := [.ref a0, .int ((21 : Int32)), .int x424, .int ((0 : Int32)), .int ((0 : Int32)), .long ((0 : Int64))]) cf_L_119 (by decide) dL_refusesFilms_694 rfl rfl ⟨Nat.le_of_ble_eq_true rfl, Nat.le_of_ble_eq_true rfl⟩ ⟨Nat.le_of_ble_eq_true rfl, Nat.le_of_ble_eq_true rfl⟩ (Nat.le_of_ble_eq_true rfl) (fun X' hX => KL_call hX)) rfl rfl rfl rfl ⟨Nat.le_of_ble_eq_true rfl, Nat.le_of_ble_eq_true rfl⟩ rfl hF (fun x426 h425 hF => ?_)
                                                                              refine jj_bipush (v := (-12 : Int32)) (pc' := 699) dL_refusesFilms_697 rfl rfl ?_
                                                                              refine jj_icmp_ne (tgt := 721) (pc' := 702) dL_refusesFilms_699 rfl rfl (fun hc hF => ?_) (fun hc hF => ?_) hF
                                                                              · skip
                                                                                refine jj_iconst (v := (0 : Int32)) (pc' := 722) dL_refusesFilms_721 rfl rfl ?_
                                                                                exact jj_retI (ty := .boolean) rfl rfl dL_refusesFilms_722 ⟨Nat.le_of_ble_eq_true rfl, Nat.le_of_ble_eq_true rfl⟩ hF
                                                                              · skip
                                                                                refine jj_aload_n (j := 3) (i := 0) (pc' := 703) dL_refusesFilms_702 rfl rfl rfl ?_
                                                                                refine jj_bipush (v := (26 : Int32)) (pc' := 705) dL_refusesFilms_703 rfl rfl ?_
                                                                                refine jj_iload_n (j := 1) (i := 3) (pc' := 706) dL_refusesFilms_705 rfl rfl rfl ?_
                                                                                refine jj_iconst (v := (0 : Int32)) (pc' := 707) dL_refusesFilms_706 rfl rfl ?_
                                                                                refine jj_iconst (v := (0 : Int32)) (pc' := 708) dL_refusesFilms_707 rfl rfl ?_
                                                                                refine jj_lconst (v := (0 : Int64)) (pc' := 709) dL_refusesFilms_708 rfl rfl ?_
                                                                                refine jj_cI (N := M_L_call) (kc' := 2259) (ks' := 13554) (pc' := 712) (jg_H (N := M_L_call) (rest := []) (as := [.ref a0, .int ((26 : Int32)), .int x106, .int ((0 : Int32)), .int ((0 : Int32)), .long ((0 : Int64))]) cf_L_119 (by decide) dL_refusesFilms_709 rfl rfl ⟨Nat.le_of_ble_eq_true rfl, Nat.le_of_ble_eq_true rfl⟩ ⟨Nat.le_of_ble_eq_true rfl, Nat.le_of_ble_eq_true rfl⟩ (Nat.le_of_ble_eq_true rfl) (fun X' hX => KL_call hX)) rfl rfl rfl rfl ⟨Nat.le_of_ble_eq_true rfl, Nat.le_of_ble_eq_true rfl⟩ rfl hF (fun x428 h427 hF => ?_)
                                                                                refine jj_bipush (v := (-11 : Int32)) (pc' := 714) dL_refusesFilms_712 rfl rfl ?_
                                                                                refine jj_icmp_ne (tgt := 721) (pc' := 717) dL_refusesFilms_714 rfl rfl (fun hc hF => ?_) (fun hc hF => ?_) hF
                                                                                · skip
                                                                                  refine jj_iconst (v := (0 : Int32)) (pc' := 722) dL_refusesFilms_721 rfl rfl ?_
                                                                                  exact jj_retI (ty := .boolean) rfl rfl dL_refusesFilms_722 ⟨Nat.le_of_ble_eq_true rfl, Nat.le_of_ble_eq_true rfl⟩ hF
                                                                                · skip
                                                                                  refine jj_iconst (v := (1 : Int32)) (pc' := 718) dL_refusesFilms_717 rfl rfl ?_
                                                                                  refine jj_goto (tgt := 722) dL_refusesFilms_718 rfl ?_
                                                                                  exact jj_retI (ty := .boolean) rfl rfl dL_refusesFilms_722 ⟨Nat.le_of_ble_eq_true rfl, Nat.le_of_ble_eq_true rfl⟩ hF
                                                                    · skip
                                                                      refine jj_iconst (v := (0 : Int32)) (pc' := 613) dL_refusesFilms_612 rfl rfl ?_
                                                                      exact jj_retI (ty := .boolean) rfl rfl dL_refusesFilms_613 ⟨Nat.le_of_ble_eq_true rfl, Nat.le_of_ble_eq_true rfl⟩ hF
                                · skip
                                  refine jj_iconst (v := (0 : Int32)) (pc' := 316) dL_refusesFilms_315 rfl rfl ?_
                                  exact jj_retI (ty := .boolean) rfl rfl dL_refusesFilms_316 ⟨Nat.le_of_ble_eq_true rfl, Nat.le_of_ble_eq_true rfl⟩ hF
theorem KL_refusesFilms {N : Nat} {a0 : Nat} {x1 : Int32} {h : jm_H} {X : jm_X} (hF : FL_refusesFilms N a0 x1 h = some X) : jm_K M_L_refusesFilms [.ref a0, .int x1] h X := jk_of rfl (by decide +kernel) rfl rfl (Nat.le_of_ble_eq_true rfl) (JL_refusesFilms hF)

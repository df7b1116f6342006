set_option maxRecDepth 100000 in
set_option maxHeartbeats 4000000 in
theorem BL_texts_543 (N : Nat) : ∀ (n : Nat) (kc : Nat) (ks : Nat) (a0 : Nat) (x1 : Int32) (h : jm_H) (X : jm_X), FL_texts_543 N n kc ks a0 x1 h = some X → jm_J M_L_texts 543 [(0, .ref a0), (1, .int x1)] [] h kc ks X := by
  intro n
  induction n with
  | zero =>
    intro kc ks a0 x1 h X hF
    exact nomatch (show (none : Option jm_X) = some X from hF)
  | succ n ih =>
    intro kc ks a0 x1 h X hF
    rw [FL_texts_543] at hF
    obtain ⟨hk, hF⟩ := jf_k_inv hF
    refine jj_iload_n (j := 1) (i := 1) (pc' := 544) dL_texts_543 rfl rfl rfl ?_
    refine jj_bipush (v := (60 : Int32)) (pc' := 546) dL_texts_544 rfl rfl ?_
    refine jj_icmp_ge (tgt := 577) (pc' := 549) dL_texts_546 rfl rfl (fun hc hF => ?_) (fun hc hF => ?_) hF
    · skip
      obtain ⟨hw, hF⟩ := jf_w_inv hF
      refine jj_wide hw.1 hw.2 ?_
      refine jj_aload_n (j := 0) (i := 0) (pc' := 578) dL_texts_577 rfl rfl rfl ?_
      refine jj_bipush (v := (9 : Int32)) (pc' := 580) dL_texts_578 rfl rfl ?_
      refine jj_bipush (v := (59 : Int32)) (pc' := 582) dL_texts_580 rfl rfl ?_
      refine jj_iconst (v := (0 : Int32)) (pc' := 583) dL_texts_582 rfl rfl ?_
      refine jj_iconst (v := (0 : Int32)) (pc' := 584) dL_texts_583 rfl rfl ?_
      refine jj_lconst (v := (0 : Int64)) (pc' := 585) dL_texts_584 rfl rfl ?_
      refine jj_cI (N := M_L_call) (kc' := 1063) (ks' := 8913) (pc' := 588) (jg_H (N := M_L_call) (rest := []) (as := [.ref a0, .int ((9 : Int32)), .int ((59 : Int32)), .int ((0 : Int32)), .int ((0 : Int32)), .long ((0 : Int64))]) cf_L_119 (by decide) dL_texts_585 rfl rfl ⟨Nat.le_of_ble_eq_true rfl, Nat.le_of_ble_eq_true rfl⟩ ⟨Nat.le_of_ble_eq_true rfl, Nat.le_of_ble_eq_true rfl⟩ (Nat.le_of_ble_eq_true rfl) (fun X' hX => KL_call hX)) rfl rfl rfl rfl ⟨Nat.le_of_ble_eq_true rfl, Nat.le_of_ble_eq_true rfl⟩ rfl hF (fun x102 h101 hF => ?_)
      refine jj_bipush (v := (-13 : Int32)) (pc' := 590) dL_texts_588 rfl rfl ?_
      refine jj_icmp_ne (tgt := 621) (pc' := 593) dL_texts_590 rfl rfl (fun hc hF => ?_) (fun hc hF => ?_) hF
      · skip
        refine jj_iconst (v := (0 : Int32)) (pc' := 622) dL_texts_621 rfl rfl ?_
        exact jj_retI (ty := .boolean) rfl rfl dL_texts_622 ⟨Nat.le_of_ble_eq_true rfl, Nat.le_of_ble_eq_true rfl⟩ hF
      · skip
        refine jj_aload_n (j := 0) (i := 0) (pc' := 594) dL_texts_593 rfl rfl rfl ?_
        refine jj_bipush (v := (10 : Int32)) (pc' := 596) dL_texts_594 rfl rfl ?_
        refine jj_iconst (v := (0 : Int32)) (pc' := 597) dL_texts_596 rfl rfl ?_
        refine jj_iconst (v := (0 : Int32)) (pc' := 598) dL_texts_597 rfl rfl ?_
        refine jj_iconst (v := (0 : Int32)) (pc' := 599) dL_texts_598 rfl rfl ?_
        refine jj_lconst (v := (0 : Int64)) (pc' := 600) dL_texts_599 rfl rfl ?_
        refine jj_cI (N := M_L_call) (kc' := 1124) (ks' := 9279) (pc' := 603) (jg_H (N := M_L_call) (rest := []) (as := [.ref a0, .int ((10 : Int32)), .int ((0 : Int32)), .int ((0 : Int32)), .int ((0 : Int32)), .long ((0 : Int64))]) cf_L_119 (by decide) dL_texts_600 rfl rfl ⟨Nat.le_of_ble_eq_true rfl, Nat.le_of_ble_eq_true rfl⟩ ⟨Nat.le_of_ble_eq_true rfl, Nat.le_of_ble_eq_true rfl⟩ (Nat.le_of_ble_eq_true rfl) (fun X' hX => KL_call hX)) rfl rfl rfl rfl ⟨Nat.le_of_ble_eq_true rfl, Nat.le_of_ble_eq_true rfl⟩ rfl hF (fun x104 h103 hF => ?_)
        refine jj_bipush (v := (-12 : Int32)) (pc' := 605) dL_texts_603 rfl rfl ?_
        refine jj_icmp_ne (tgt := 621) (pc' := 608) dL_texts_605 rfl rfl (fun hc hF => ?_) (fun hc hF => ?_) hF
        · skip
          refine jj_iconst (v := (0 : Int32)) (pc' := 622) dL_texts_621 rfl rfl ?_
          exact jj_retI (ty := .boolean) rfl rfl dL_texts_622 ⟨Nat.le_of_ble_eq_true rfl, Nat.le_of_ble_eq_true rfl⟩ hF
        · skip
          refine jj_aload_n (j := 0) (i := 0) (pc' := 609) dL_texts_608 rfl rfl rfl ?_
          refine jj_cI (N := M_X3_clearBuffer) (kc' := 1124) (ks' := 9279) (pc' := 612) (jg_V (N := M_X3_clearBuffer) (ci := 3) (rest := []) (as := []) cf_L_152 dL_texts_609 ⟨rfl, rfl⟩ rfl rfl ⟨Nat.le_of_ble_eq_true rfl, Nat.le_of_ble_eq_true rfl⟩ ⟨Nat.le_of_ble_eq_true rfl, Nat.le_of_ble_eq_true rfl⟩ (Nat.le_of_ble_eq_true rfl) (fun X' hX => KX3_clearBuffer hX)) rfl rfl rfl rfl ⟨Nat.le_of_ble_eq_true rfl, Nat.le_of_ble_eq_true rfl⟩ rfl hF (fun x106 h105 hF => ?_)
          refine jj_bipush (v := (60 : Int32)) (pc' := 614) dL_texts_612 rfl rfl ?_
          refine jj_icmp_ne (tgt := 621) (pc' := 617) dL_texts_614 rfl rfl (fun hc hF => ?_) (fun hc hF => ?_) hF
          · skip
            refine jj_iconst (v := (0 : Int32)) (pc' := 622) dL_texts_621 rfl rfl ?_
            exact jj_retI (ty := .boolean) rfl rfl dL_texts_622 ⟨Nat.le_of_ble_eq_true rfl, Nat.le_of_ble_eq_true rfl⟩ hF
          · skip
            refine jj_iconst (v := (1 : Int32)) (pc' := 618) dL_texts_617 rfl rfl ?_
            refine jj_goto (tgt := 622) dL_texts_618 rfl ?_
            exact jj_retI (ty := .boolean) rfl rfl dL_texts_622 ⟨Nat.le_of_ble_eq_true rfl, Nat.le_of_ble_eq_true rfl⟩ hF
    · skip
      refine jj_aload_n (j := 0) (i := 0) (pc' := 550) dL_texts_549 rfl rfl rfl ?_
      refine jj_bipush (v := (55 : Int32)) (pc' := 552) dL_texts_550 rfl rfl ?_
      obtain ⟨hk, hF⟩ := jf_k_inv hF
      refine jj_cI (N := M_X3_append) (kc' := (kc + 2)) (ks' := (ks + 12)) (pc' := 555) (jg_V (N := M_X3_append) (ci := 3) (rest := []) (as := [.int ((55 : Int32))]) cf_L_44 dL_texts_552 ⟨rfl, rfl⟩ rfl rfl ⟨Nat.le_of_ble_eq_true rfl, Nat.le_of_ble_eq_true rfl⟩ ⟨hk.1, hk.2⟩ (Nat.le_of_ble_eq_true rfl) (fun X' hX => KX3_append hX)) rfl rfl rfl rfl ⟨hk.1, hk.2⟩ rfl hF (fun x108 h107 hF => ?_)
      refine jj_iload_n (j := 1) (i := 1) (pc' := 556) dL_texts_555 rfl rfl rfl ?_
      refine jj_iconst (v := (1 : Int32)) (pc' := 557) dL_texts_556 rfl rfl ?_
      refine jj_iadd (pc' := 558) dL_texts_557 rfl ?_
      refine jj_icmp_ne (tgt := 569) (pc' := 561) dL_texts_558 rfl rfl (fun hc hF => ?_) (fun hc hF => ?_) hF
      · skip
        refine jj_iconst (v := (0 : Int32)) (pc' := 570) dL_texts_569 rfl rfl ?_
        obtain ⟨hw, hF⟩ := jf_w_inv hF
        refine jj_wide hw.1 hw.2 ?_
        exact jj_retI (ty := .boolean) rfl rfl dL_texts_570 ⟨Nat.le_of_ble_eq_true rfl, Nat.le_of_ble_eq_true rfl⟩ hF
      · skip
        refine jj_aload_n (j := 0) (i := 0) (pc' := 562) dL_texts_561 rfl rfl rfl ?_
        refine jj_cI (N := M_X3_firstError) (kc' := (kc + 2)) (ks' := (ks + 12)) (pc' := 565) (jg_V (N := M_X3_firstError) (ci := 3) (rest := []) (as := []) cf_L_159 dL_texts_562 ⟨rfl, rfl⟩ rfl rfl ⟨Nat.le_of_ble_eq_true rfl, Nat.le_of_ble_eq_true rfl⟩ ⟨hk.1, hk.2⟩ (Nat.le_of_ble_eq_true rfl) (fun X' hX => KX3_firstError hX)) rfl rfl rfl rfl ⟨hk.1, hk.2⟩ rfl hF (fun x110 h109 hF => ?_)
        refine jj_iconst (v := (1 : Int32)) (pc' := 566) dL_texts_565 rfl rfl ?_
        refine jj_icmp_eq (tgt := 571) (pc' := 569) dL_texts_566 rfl rfl (fun hc hF => ?_) (fun hc hF => ?_) hF
        · skip
          refine jj_iinc (i := 1) (j := 1) (v := x1 + (1 : Int32)) (ls' := [(1, .int (x1 + (1 : Int32))), (0, .ref a0)]) (pc' := 574) dL_texts_571 rfl rfl (Nat.le_of_ble_eq_true rfl) rfl rfl ?_
          refine jj_goto (tgt := 543) dL_texts_574 rfl ?_
          exact jj_pick [1, 0] rfl (ih (kc + 2) (ks + 12) a0 (x1 + (1 : Int32)) h109 _ hF)
        · skip
          refine jj_iconst (v := (0 : Int32)) (pc' := 570) dL_texts_569 rfl rfl ?_
          obtain ⟨hw, hF⟩ := jf_w_inv hF
          refine jj_wide hw.1 hw.2 ?_
          exact jj_retI (ty := .boolean) rfl rfl dL_texts_570 ⟨Nat.le_of_ble_eq_true rfl, Nat.le_of_ble_eq_true rfl⟩ hF
set_option maxRecDepth 100000 in
set_option maxHeartbeats 4000000 in
theorem JL_texts {N : Nat} {h : jm_H} {X : jm_X} (hF : FL_texts N h = some X) : jm_J M_L_texts 0 [] [] h 0 0 X := by
  unfold FL_texts at hF
  refine jj_new (C := RX3) (T := TX3) (N := 8) (ci := 3) (fs := [.null, .null, .null, .null, .null, .int 0, .int 0, .int 0]) (ty := tyX3) (lv := []) (kc' := 1) (ks' := 8) (pc' := 3) dL_texts_0 rfl rfl inX3 tyX3_ok ⟨qw_82, qw_83, qw_84⟩ (by decide) (by simp) rfl (jm_live rfl) rfl rfl ⟨Nat.le_of_ble_eq_true rfl, Nat.le_of_ble_eq_true rfl⟩ hF (fun o101 h102 hF => ?_)
  refine jj_dup (pc' := 4) dL_texts_3 rfl rfl ?_
  refine jj_ini (N := M_X3_init) (as := []) (rest := [.ref o101]) (lv := [o101]) (kc' := 108) (ks' := 3183) (pc' := 7) cf_L_142 dL_texts_4 rfl rfl ⟨Nat.le_of_ble_eq_true rfl, Nat.le_of_ble_eq_true rfl⟩ ⟨Nat.le_of_ble_eq_true rfl, Nat.le_of_ble_eq_true rfl⟩ (Nat.le_of_ble_eq_true rfl) (fun X' hX => KX3_init hX) rfl (jm_live rfl) rfl rfl rfl hF (fun h103 hF => ?_)
  refine jj_astore_n (i := 0) (ls' := [(0, .ref o101)]) (pc' := 8) dL_texts_7 rfl (Nat.le_of_ble_eq_true rfl) rfl rfl ?_
  refine jj_aload_n (j := 0) (i := 0) (pc' := 9) dL_texts_8 rfl rfl rfl ?_
  refine jj_ldc2l (v := (56 : Int64)) (pc' := 12) dL_texts_9 qw_86 rfl ?_
  refine jj_lconst (v := (0 : Int64)) (pc' := 13) dL_texts_12 rfl rfl ?_
  refine jj_iconst (v := (0 : Int32)) (pc' := 14) dL_texts_13 rfl rfl ?_
  refine jj_cI (N := M_L_isError) (kc' := 140) (ks' := 3375) (pc' := 17) (jg_S (N := M_L_isError) (rest := []) (as := [.ref o101, .long ((56 : Int64)), .long ((0 : Int64)), .int ((0 : Int32))]) cf_L_164 rfl dL_texts_14 rfl rfl ⟨Nat.le_of_ble_eq_true rfl, Nat.le_of_ble_eq_true rfl⟩ ⟨Nat.le_of_ble_eq_true rfl, Nat.le_of_ble_eq_true rfl⟩ (Nat.le_of_ble_eq_true rfl) (fun X' hX => KL_isError hX)) rfl rfl rfl rfl ⟨Nat.le_of_ble_eq_true rfl, Nat.le_of_ble_eq_true rfl⟩ rfl hF (fun x105 h104 hF => ?_)
  refine jj_if_eq (tgt := 133) (pc' := 20) dL_texts_17 rfl rfl (fun hc hF => ?_) (fun hc hF => ?_) hF
  · skip
    refine jj_iconst (v := (0 : Int32)) (pc' := 134) dL_texts_133 rfl rfl ?_
    exact jj_retI (ty := .boolean) rfl rfl dL_texts_134 ⟨Nat.le_of_ble_eq_true rfl, Nat.le_of_ble_eq_true rfl⟩ hF
  · skip
    refine jj_aload_n (j := 0) (i := 0) (pc' := 21) dL_texts_20 rfl rfl rfl ?_
    refine jj_ldc2l (v := (3157811 : Int64)) (pc' := 24) dL_texts_21 qw_87 rfl ?_
    refine jj_lconst (v := (0 : Int64)) (pc' := 25) dL_texts_24 rfl rfl ?_
    refine jj_iconst (v := (2 : Int32)) (pc' := 26) dL_texts_25 rfl rfl ?_
    refine jj_cI (N := M_L_isError) (kc' := 172) (ks' := 3567) (pc' := 29) (jg_S (N := M_L_isError) (rest := []) (as := [.ref o101, .long ((3157811 : Int64)), .long ((0 : Int64)), .int ((2 : Int32))]) cf_L_164 rfl dL_texts_26 rfl rfl ⟨Nat.le_of_ble_eq_true rfl, Nat.le_of_ble_eq_true rfl⟩ ⟨Nat.le_of_ble_eq_true rfl, Nat.le_of_ble_eq_true rfl⟩ (Nat.le_of_ble_eq_true rfl) (fun X' hX => KL_isError hX)) rfl rfl rfl rfl ⟨Nat.le_of_ble_eq_true rfl, Nat.le_of_ble_eq_true rfl⟩ rfl hF (fun x107 h106 hF => ?_)
    refine jj_if_eq (tgt := 133) (pc' := 32) dL_texts_29 rfl rfl (fun hc hF => ?_) (fun hc hF => ?_) hF
    · skip
      refine jj_iconst (v := (0 : Int32)) (pc' := 134) dL_texts_133 rfl rfl ?_
      exact jj_retI (ty := .boolean) rfl rfl dL_texts_134 ⟨Nat.le_of_ble_eq_true rfl, Nat.le_of_ble_eq_true rfl⟩ hF
    · skip
      refine jj_aload_n (j := 0) (i := 0) (pc' := 33) dL_texts_32 rfl rfl rfl ?_
      refine jj_ldc2l (v := (3472046890004000816 : Int64)) (pc' := 36) dL_texts_33 qw_88 rfl ?_
      refine jj_lconst (v := (0 : Int64)) (pc' := 37) dL_texts_36 rfl rfl ?_
      refine jj_bipush (v := (7 : Int32)) (pc' := 39) dL_texts_37 rfl rfl ?_
      refine jj_cI (N := M_L_isError) (kc' := 204) (ks' := 3759) (pc' := 42) (jg_S (N := M_L_isError) (rest := []) (as := [.ref o101, .long ((3472046890004000816 : Int64)), .long ((0 : Int64)), .int ((7 : Int32))]) cf_L_164 rfl dL_texts_39 rfl rfl ⟨Nat.le_of_ble_eq_true rfl, Nat.le_of_ble_eq_true rfl⟩ ⟨Nat.le_of_ble_eq_true rfl, Nat.le_of_ble_eq_true rfl⟩ (Nat.le_of_ble_eq_true rfl) (fun X' hX => KL_isError hX)) rfl rfl rfl rfl ⟨Nat.le_of_ble_eq_true rfl, Nat.le_of_ble_eq_true rfl⟩ rfl hF (fun x109 h108 hF => ?_)
      refine jj_if_eq (tgt := 133) (pc' := 45) dL_texts_42 rfl rfl (fun hc hF => ?_) (fun hc hF => ?_) hF
      · skip
        refine jj_iconst (v := (0 : Int32)) (pc' := 134) dL_texts_133 rfl rfl ?_
        exact jj_retI (ty := .boolean) rfl rfl dL_texts_134 ⟨Nat.le_of_ble_eq_true rfl, Nat.le_of_ble_eq_true rfl⟩ hF
      · skip
        refine jj_aload_n (j := 0) (i := 0) (pc' := 46) dL_texts_45 rfl rfl rfl ?_
        refine jj_ldc2l (v := (3472046889970119217 : Int64)) (pc' := 49) dL_texts_46 qw_89 rfl ?_
        refine jj_lconst (v := (0 : Int64)) (pc' := 50) dL_texts_49 rfl rfl ?_
        refine jj_bipush (v := (7 : Int32)) (pc' := 52) dL_texts_50 rfl rfl ?_
        refine jj_cI (N := M_L_isError) (kc' := 236) (ks' := 3951) (pc' := 55) (jg_S (N := M_L_isError) (rest := []) (as := [.ref o101, .long ((3472046889970119217 : Int64)), .long ((0 : Int64)), .int ((7 : Int32))]) cf_L_164 rfl dL_texts_52 rfl rfl ⟨Nat.le_of_ble_eq_true rfl, Nat.le_of_ble_eq_true rfl⟩ ⟨Nat.le_of_ble_eq_true rfl, Nat.le_of_ble_eq_true rfl⟩ (Nat.le_of_ble_eq_true rfl) (fun X' hX => KL_isError hX)) rfl rfl rfl rfl ⟨Nat.le_of_ble_eq_true rfl, Nat.le_of_ble_eq_true rfl⟩ rfl hF (fun x111 h110 hF => ?_)
        refine jj_if_eq (tgt := 133) (pc' := 58) dL_texts_55 rfl rfl (fun hc hF => ?_) (fun hc hF => ?_) hF
        · skip
          refine jj_iconst (v := (0 : Int32)) (pc' := 134) dL_texts_133 rfl rfl ?_
          exact jj_retI (ty := .boolean) rfl rfl dL_texts_134 ⟨Nat.le_of_ble_eq_true rfl, Nat.le_of_ble_eq_true rfl⟩ hF
        · skip
          refine jj_aload_n (j := 0) (i := 0) (pc' := 59) dL_texts_58 rfl rfl rfl ?_
          refine jj_ldc2l (v := (52979231109169 : Int64)) (pc' := 62) dL_texts_59 qw_90 rfl ?_
          refine jj_lconst (v := (0 : Int64)) (pc' := 63) dL_texts_62 rfl rfl ?_
          refine jj_iconst (v := (5 : Int32)) (pc' := 64) dL_texts_63 rfl rfl ?_
          refine jj_cI (N := M_L_isError) (kc' := 268) (ks' := 4143) (pc' := 67) (jg_S (N := M_L_isError) (rest := []) (as := [.ref o101, .long ((52979231109169 : Int64)), .long ((0 : Int64)), .int ((5 : Int32))]) cf_L_164 rfl dL_texts_64 rfl rfl ⟨Nat.le_of_ble_eq_true rfl, Nat.le_of_ble_eq_true rfl⟩ ⟨Nat.le_of_ble_eq_true rfl, Nat.le_of_ble_eq_true rfl⟩ (Nat.le_of_ble_eq_true rfl) (fun X' hX => KL_isError hX)) rfl rfl rfl rfl ⟨Nat.le_of_ble_eq_true rfl, Nat.le_of_ble_eq_true rfl⟩ rfl hF (fun x113 h112 hF => ?_)
          refine jj_if_eq (tgt := 133) (pc' := 70) dL_texts_67 rfl rfl (fun hc hF => ?_) (fun hc hF => ?_) hF
          · skip
            refine jj_iconst (v := (0 : Int32)) (pc' := 134) dL_texts_133 rfl rfl ?_
            exact jj_retI (ty := .boolean) rfl rfl dL_texts_134 ⟨Nat.le_of_ble_eq_true rfl, Nat.le_of_ble_eq_true rfl⟩ hF
          · skip
            refine jj_aload_n (j := 0) (i := 0) (pc' := 71) dL_texts_70 rfl rfl rfl ?_
            refine jj_ldc2l (v := (52979231110459 : Int64)) (pc' := 74) dL_texts_71 qw_91 rfl ?_
            refine jj_lconst (v := (0 : Int64)) (pc' := 75) dL_texts_74 rfl rfl ?_
            refine jj_bipush (v := (6 : Int32)) (pc' := 77) dL_texts_75 rfl rfl ?_
            refine jj_cI (N := M_L_isError) (kc' := 300) (ks' := 4335) (pc' := 80) (jg_S (N := M_L_isError) (rest := []) (as := [.ref o101, .long ((52979231110459 : Int64)), .long ((0 : Int64)), .int ((6 : Int32))]) cf_L_164 rfl dL_texts_77 rfl rfl ⟨Nat.le_of_ble_eq_true rfl, Nat.le_of_ble_eq_true rfl⟩ ⟨Nat.le_of_ble_eq_true rfl, Nat.le_of_ble_eq_true rfl⟩ (Nat.le_of_ble_eq_true rfl) (fun X' hX => KL_isError hX)) rfl rfl rfl rfl ⟨Nat.le_of_ble_eq_true rfl, Nat.le_of_ble_eq_true rfl⟩ rfl hF (fun x115 h114 hF => ?_)
            refine jj_if_eq (tgt := 133) (pc' := 83) dL_texts_80 rfl rfl (fun hc hF => ?_) (fun hc hF => ?_) hF
            · skip
              refine jj_iconst (v := (0 : Int32)) (pc' := 134) dL_texts_133 rfl rfl ?_
              exact jj_retI (ty := .boolean) rfl rfl dL_texts_134 ⟨Nat.le_of_ble_eq_true rfl, Nat.le_of_ble_eq_true rfl⟩ hF
            · skip
              refine jj_aload_n (j := 0) (i := 0) (pc' := 84) dL_texts_83 rfl rfl rfl ?_
              refine jj_ldc2l (v := (52979231110443 : Int64)) (pc' := 87) dL_texts_84 qw_92 rfl ?_
              refine jj_lconst (v := (0 : Int64)) (pc' := 88) dL_texts_87 rfl rfl ?_
              refine jj_bipush (v := (6 : Int32)) (pc' := 90) dL_texts_88 rfl rfl ?_
              refine jj_cI (N := M_L_isError) (kc' := 332) (ks' := 4527) (pc' := 93) (jg_S (N := M_L_isError) (rest := []) (as := [.ref o101, .long ((52979231110443 : Int64)), .long ((0 : Int64)), .int ((6 : Int32))]) cf_L_164 rfl dL_texts_90 rfl rfl ⟨Nat.le_of_ble_eq_true rfl, Nat.le_of_ble_eq_true rfl⟩ ⟨Nat.le_of_ble_eq_true rfl, Nat.le_of_ble_eq_true rfl⟩ (Nat.le_of_ble_eq_true rfl) (fun X' hX => KL_isError hX)) rfl rfl rfl rfl ⟨Nat.le_of_ble_eq_true rfl, Nat.le_of_ble_eq_true rfl⟩ rfl hF (fun x117 h116 hF => ?_)
              refine jj_if_eq (tgt := 133) (pc' := 96) dL_texts_93 rfl rfl (fun hc hF => ?_) (fun hc hF => ?_) hF
              · skip
                refine jj_iconst (v := (0 : Int32)) (pc' := 134) dL_texts_133 rfl rfl ?_
                exact jj_retI (ty := .boolean) rfl rfl dL_texts_134 ⟨Nat.le_of_ble_eq_true rfl, Nat.le_of_ble_eq_true rfl⟩ hF
              · skip
                refine jj_aload_n (j := 0) (i := 0) (pc' := 97) dL_texts_96 rfl rfl rfl ?_
                refine jj_ldc2l (v := (206950121525 : Int64)) (pc' := 100) dL_texts_97 qw_93 rfl ?_
                refine jj_lconst (v := (0 : Int64)) (pc' := 101) dL_texts_100 rfl rfl ?_
                refine jj_iconst (v := (5 : Int32)) (pc' := 102) dL_texts_101 rfl rfl ?_
                refine jj_cI (N := M_L_isError) (kc' := 364) (ks' := 4719) (pc' := 105) (jg_S (N := M_L_isError) (rest := []) (as := [.ref o101, .long ((206950121525 : Int64)), .long ((0 : Int64)), .int ((5 : Int32))]) cf_L_164 rfl dL_texts_102 rfl rfl ⟨Nat.le_of_ble_eq_true rfl, Nat.le_of_ble_eq_true rfl⟩ ⟨Nat.le_of_ble_eq_true rfl, Nat.le_of_ble_eq_true rfl⟩ (Nat.le_of_ble_eq_true rfl) (fun X' hX => KL_isError hX)) rfl rfl rfl rfl ⟨Nat.le_of_ble_eq_true rfl, Nat.le_of_ble_eq_true rfl⟩ rfl hF (fun x119 h118 hF => ?_)
                refine jj_if_eq (tgt := 133) (pc' := 108) dL_texts_105 rfl rfl (fun hc hF => ?_) (fun hc hF => ?_) hF
                · skip
                  refine jj_iconst (v := (0 : Int32)) (pc' := 134) dL_texts_133 rfl rfl ?_
                  exact jj_retI (ty := .boolean) rfl rfl dL_texts_134 ⟨Nat.le_of_ble_eq_true rfl, Nat.le_of_ble_eq_true rfl⟩ hF
                · skip
                  refine jj_aload_n (j := 0) (i := 0) (pc' := 109) dL_texts_108 rfl rfl rfl ?_
                  refine jj_lconst (v := (0 : Int64)) (pc' := 110) dL_texts_109 rfl rfl ?_
                  refine jj_lconst (v := (0 : Int64)) (pc' := 111) dL_texts_110 rfl rfl ?_
                  refine jj_iconst (v := (0 : Int32)) (pc' := 112) dL_texts_111 rfl rfl ?_
                  refine jj_cI (N := M_L_isError) (kc' := 396) (ks' := 4911) (pc' := 115) (jg_S (N := M_L_isError) (rest := []) (as := [.ref o101, .long ((0 : Int64)), .long ((0 : Int64)), .int ((0 : Int32))]) cf_L_164 rfl dL_texts_112 rfl rfl ⟨Nat.le_of_ble_eq_true rfl, Nat.le_of_ble_eq_true rfl⟩ ⟨Nat.le_of_ble_eq_true rfl, Nat.le_of_ble_eq_true rfl⟩ (Nat.le_of_ble_eq_true rfl) (fun X' hX => KL_isError hX)) rfl rfl rfl rfl ⟨Nat.le_of_ble_eq_true rfl, Nat.le_of_ble_eq_true rfl⟩ rfl hF (fun x121 h120 hF => ?_)
                  refine jj_if_eq (tgt := 133) (pc' := 118) dL_texts_115 rfl rfl (fun hc hF => ?_) (fun hc hF => ?_) hF
                  · skip
                    refine jj_iconst (v := (0 : Int32)) (pc' := 134) dL_texts_133 rfl rfl ?_
                    exact jj_retI (ty := .boolean) rfl rfl dL_texts_134 ⟨Nat.le_of_ble_eq_true rfl, Nat.le_of_ble_eq_true rfl⟩ hF
                  · skip
                    refine jj_aload_n (j := 0) (i := 0) (pc' := 119) dL_texts_118 rfl rfl rfl ?_
                    refine jj_ldc2l (v := (3976452247276566841 : Int64)) (pc' := 122) dL_texts_119 qw_94 rfl ?_
                    refine jj_ldc2l (v := (2830896 : Int64)) (pc' := 125) dL_texts_122 qw_95 rfl ?_
                    refine jj_bipush (v := (11 : Int32)) (pc' := 127) dL_texts_125 rfl rfl ?_
                    refine jj_cI (N := M_L_isError) (kc' := 428) (ks' := 5103) (pc' := 130) (jg_S (N := M_L_isError) (rest := []) (as := [.ref o101, .long ((3976452247276566841 : Int64)), .long ((2830896 : Int64)), .int ((11 : Int32))]) cf_L_164 rfl dL_texts_127 rfl rfl ⟨Nat.le_of_ble_eq_true rfl, Nat.le_of_ble_eq_true rfl⟩ ⟨Nat.le_of_ble_eq_true rfl, Nat.le_of_ble_eq_true rfl⟩ (Nat.le_of_ble_eq_true rfl) (fun X' hX => KL_isError hX)) rfl rfl rfl rfl ⟨Nat.le_of_ble_eq_true rfl, Nat.le_of_ble_eq_true rfl⟩ rfl hF (fun x123 h122 hF => ?_)
                    refine jj_if_ne (tgt := 135) (pc' := 133) dL_texts_130 rfl rfl (fun hc hF => ?_) (fun hc hF => ?_) hF
                    · skip
                      refine jj_aload_n (j := 0) (i := 0) (pc' := 136) dL_texts_135 rfl rfl rfl ?_
                      refine jj_ldc2l (v := (3472046889970119217 : Int64)) (pc' := 139) dL_texts_136 qw_89 rfl ?_
                      refine jj_ldc2l (v := (48 : Int64)) (pc' := 142) dL_texts_139 qw_96 rfl ?_
                      refine jj_bipush (v := (7 : Int32)) (pc' := 144) dL_texts_142 rfl rfl ?_
                      refine jj_cI (N := M_L_isError) (kc' := 460) (ks' := 5295) (pc' := 147) (jg_S (N := M_L_isError) (rest := []) (as := [.ref o101, .long ((3472046889970119217 : Int64)), .long ((48 : Int64)), .int ((7 : Int32))]) cf_L_164 rfl dL_texts_144 rfl rfl ⟨Nat.le_of_ble_eq_true rfl, Nat.le_of_ble_eq_true rfl⟩ ⟨Nat.le_of_ble_eq_true rfl, Nat.le_of_ble_eq_true rfl⟩ (Nat.le_of_ble_eq_true rfl) (fun X' hX => KL_isError hX)) rfl rfl rfl rfl ⟨Nat.le_of_ble_eq_true rfl, Nat.le_of_ble_eq_true rfl⟩ rfl hF (fun x125 h124 hF => ?_)
                      refine jj_if_eq (tgt := 252) (pc' := 150) dL_texts_147 rfl rfl (fun hc hF => ?_) (fun hc hF => ?_) hF
                      · skip
                        refine jj_iconst (v := (0 : Int32)) (pc' := 253) dL_texts_252 rfl rfl ?_
                        exact jj_retI (ty := .boolean) rfl rfl dL_texts_253 ⟨Nat.le_of_ble_eq_true rfl, Nat.le_of_ble_eq_true rfl⟩ hF
                      · skip
                        refine jj_aload_n (j := 0) (i := 0) (pc' := 151) dL_texts_150 rfl rfl rfl ?_
                        refine jj_ldc2l (v := (12336 : Int64)) (pc' := 154) dL_texts_151 qw_97 rfl ?_
                        refine jj_lconst (v := (0 : Int64)) (pc' := 155) dL_texts_154 rfl rfl ?_
                        refine jj_iconst (v := (1 : Int32)) (pc' := 156) dL_texts_155 rfl rfl ?_
                        refine jj_cI (N := M_L_isError) (kc' := 492) (ks' := 5487) (pc' := 159) (jg_S (N := M_L_isError) (rest := []) (as := [.ref o101, .long ((12336 : Int64)), .long ((0 : Int64)), .int ((1 : Int32))]) cf_L_164 rfl dL_texts_156 rfl rfl ⟨Nat.le_of_ble_eq_true rfl, Nat.le_of_ble_eq_true rfl⟩ ⟨Nat.le_of_ble_eq_true rfl, Nat.le_of_ble_eq_true rfl⟩ (Nat.le_of_ble_eq_true rfl) (fun X' hX => KL_isError hX)) rfl rfl rfl rfl ⟨Nat.le_of_ble_eq_true rfl, Nat.le_of_ble_eq_true rfl⟩ rfl hF (fun x127 h126 hF => ?_)
                        refine jj_if_eq (tgt := 252) (pc' := 162) dL_texts_159 rfl rfl (fun hc hF => ?_) (fun hc hF => ?_) hF
                        · skip
                          refine jj_iconst (v := (0 : Int32)) (pc' := 253) dL_texts_252 rfl rfl ?_
                          exact jj_retI (ty := .boolean) rfl rfl dL_texts_253 ⟨Nat.le_of_ble_eq_true rfl, Nat.le_of_ble_eq_true rfl⟩ hF
                        · skip
                          refine jj_aload_n (j := 0) (i := 0) (pc' := 163) dL_texts_162 rfl rfl rfl ?_
                          refine jj_ldc2l (v := (206950121592 : Int64)) (pc' := 166) dL_texts_163 qw_98 rfl ?_
                          refine jj_lconst (v := (0 : Int64)) (pc' := 167) dL_texts_166 rfl rfl ?_
                          refine jj_iconst (v := (4 : Int32)) (pc' := 168) dL_texts_167 rfl rfl ?_
                          refine jj_cI (N := M_L_isError) (kc' := 524) (ks' := 5679) (pc' := 171) (jg_S (N := M_L_isError) (rest := []) (as := [.ref o101, .long ((206950121592 : Int64)), .long ((0 : Int64)), .int ((4 : Int32))]) cf_L_164 rfl dL_texts_168 rfl rfl ⟨Nat.le_of_ble_eq_true rfl, Nat.le_of_ble_eq_true rfl⟩ ⟨Nat.le_of_ble_eq_true rfl, Nat.le_of_ble_eq_true rfl⟩ (Nat.le_of_ble_eq_true rfl) (fun X' hX => KL_isError hX)) rfl rfl rfl rfl ⟨Nat.le_of_ble_eq_true rfl, Nat.le_of_ble_eq_true rfl⟩ rfl hF (fun x129 h128 hF => ?_)
                          refine jj_if_eq (tgt := 252) (pc' := 174) dL_texts_171 rfl rfl (fun hc hF => ?_) (fun hc hF => ?_) hF
                          · skip
                            refine jj_iconst (v := (0 : Int32)) (pc' := 253) dL_texts_252 rfl rfl ?_
                            exact jj_retI (ty := .boolean) rfl rfl dL_texts_253 ⟨Nat.le_of_ble_eq_true rfl, Nat.le_of_ble_eq_true rfl⟩ hF
                          · skip
                            refine jj_aload_n (j := 0) (i := 0) (pc' := 175) dL_texts_174 rfl rfl rfl ?_
                            refine jj_ldc2l (v := (808398896 : Int64)) (pc' := 178) dL_texts_175 qw_99 rfl ?_
                            refine jj_lconst (v := (0 : Int64)) (pc' := 179) dL_texts_178 rfl rfl ?_
                            refine jj_iconst (v := (3 : Int32)) (pc' := 180) dL_texts_179 rfl rfl ?_
                            refine jj_cI (N := M_L_isError) (kc' := 556) (ks' := 5871) (pc' := 183) (jg_S (N := M_L_isError) (rest := []) (as := [.ref o101, .long ((808398896 : Int64)), .long ((0 : Int64)), .int ((3 : Int32))]) cf_L_164 rfl dL_texts_180 rfl rfl ⟨Nat.le_of_ble_eq_true rfl, Nat.le_of_ble_eq_true rfl⟩ ⟨Nat.le_of_ble_eq_true rfl, Nat.le_of_ble_eq_true rfl⟩ (Nat.le_of_ble_eq_true rfl) (fun X' hX => KL_isError hX)) rfl rfl rfl rfl ⟨Nat.le_of_ble_eq_true rfl, Nat.le_of_ble_eq_true rfl⟩ rfl hF (fun x131 h130 hF => ?_)
                            refine jj_if_eq (tgt := 252) (pc' := 186) dL_texts_183 rfl rfl (fun hc hF => ?_) (fun hc hF => ?_) hF
                            · skip
                              refine jj_iconst (v := (0 : Int32)) (pc' := 253) dL_texts_252 rfl rfl ?_
                              exact jj_retI (ty := .boolean) rfl rfl dL_texts_253 ⟨Nat.le_of_ble_eq_true rfl, Nat.le_of_ble_eq_true rfl⟩ hF
                            · skip
                              refine jj_aload_n (j := 0) (i := 0) (pc' := 187) dL_texts_186 rfl rfl rfl ?_
                              refine jj_ldc2l (v := (13562683164273451 : Int64)) (pc' := 190) dL_texts_187 qw_100 rfl ?_
                              refine jj_lconst (v := (0 : Int64)) (pc' := 191) dL_texts_190 rfl rfl ?_
                              refine jj_bipush (v := (6 : Int32)) (pc' := 193) dL_texts_191 rfl rfl ?_
                              refine jj_cI (N := M_L_isError) (kc' := 588) (ks' := 6063) (pc' := 196) (jg_S (N := M_L_isError) (rest := []) (as := [.ref o101, .long ((13562683164273451 : Int64)), .long ((0 : Int64)), .int ((6 : Int32))]) cf_L_164 rfl dL_texts_193 rfl rfl ⟨Nat.le_of_ble_eq_true rfl, Nat.le_of_ble_eq_true rfl⟩ ⟨Nat.le_of_ble_eq_true rfl, Nat.le_of_ble_eq_true rfl⟩ (Nat.le_of_ble_eq_true rfl) (fun X' hX => KL_isError hX)) rfl rfl rfl rfl ⟨Nat.le_of_ble_eq_true rfl, Nat.le_of_ble_eq_true rfl⟩ rfl hF (fun x133 h132 hF => ?_)
                              refine jj_if_eq (tgt := 252) (pc' := 199) dL_texts_196 rfl rfl (fun hc hF => ?_) (fun hc hF => ?_) hF
                              · skip
                                refine jj_iconst (v := (0 : Int32)) (pc' := 253) dL_texts_252 rfl rfl ?_
                                exact jj_retI (ty := .boolean) rfl rfl dL_texts_253 ⟨Nat.le_of_ble_eq_true rfl, Nat.le_of_ble_eq_true rfl⟩ hF
                              · skip
                                refine jj_aload_n (j := 0) (i := 0) (pc' := 200) dL_texts_199 rfl rfl rfl ?_
                                refine jj_ldc2l (v := (13562683164277563 : Int64)) (pc' := 203) dL_texts_200 qw_101 rfl ?_
                                refine jj_lconst (v := (0 : Int64)) (pc' := 204) dL_texts_203 rfl rfl ?_
                                refine jj_bipush (v := (6 : Int32)) (pc' := 206) dL_texts_204 rfl rfl ?_
                                refine jj_cI (N := M_L_isError) (kc' := 620) (ks' := 6255) (pc' := 209) (jg_S (N := M_L_isError) (rest := []) (as := [.ref o101, .long ((13562683164277563 : Int64)), .long ((0 : Int64)), .int ((6 : Int32))]) cf_L_164 rfl dL_texts_206 rfl rfl ⟨Nat.le_of_ble_eq_true rfl, Nat.le_of_ble_eq_true rfl⟩ ⟨Nat.le_of_ble_eq_true rfl, Nat.le_of_ble_eq_true rfl⟩ (Nat.le_of_ble_eq_true rfl) (fun X' hX => KL_isError hX)) rfl rfl rfl rfl ⟨Nat.le_of_ble_eq_true rfl, Nat.le_of_ble_eq_true rfl⟩ rfl hF (fun x135 h134 hF => ?_)
                                refine jj_if_eq (tgt := 252) (pc' := 212) dL_texts_209 rfl rfl (fun hc hF => ?_) (fun hc hF => ?_) hF
                                · skip
                                  refine jj_iconst (v := (0 : Int32)) (pc' := 253) dL_texts_252 rfl rfl ?_
                                  exact jj_retI (ty := .boolean) rfl rfl dL_texts_253 ⟨Nat.le_of_ble_eq_true rfl, Nat.le_of_ble_eq_true rfl⟩ hF
                                · skip
                                  refine jj_aload_n (j := 0) (i := 0) (pc' := 213) dL_texts_212 rfl rfl rfl ?_
                                  refine jj_ldc2l (v := (3472046890054004789 : Int64)) (pc' := 216) dL_texts_213 qw_102 rfl ?_
                                  refine jj_lconst (v := (0 : Int64)) (pc' := 217) dL_texts_216 rfl rfl ?_
                                  refine jj_bipush (v := (7 : Int32)) (pc' := 219) dL_texts_217 rfl rfl ?_
                                  refine jj_cI (N := M_L_isError) (kc' := 652) (ks' := 6447) (pc' := 222) (jg_S (N := M_L_isError) (rest := []) (as := [.ref o101, .long ((3472046890054004789 : Int64)), .long ((0 : Int64)), .int ((7 : Int32))]) cf_L_164 rfl dL_texts_219 rfl rfl ⟨Nat.le_of_ble_eq_true rfl, Nat.le_of_ble_eq_true rfl⟩ ⟨Nat.le_of_ble_eq_true rfl, Nat.le_of_ble_eq_true rfl⟩ (Nat.le_of_ble_eq_true rfl) (fun X' hX => KL_isError hX)) rfl rfl rfl rfl ⟨Nat.le_of_ble_eq_true rfl, Nat.le_of_ble_eq_true rfl⟩ rfl hF (fun x137 h136 hF => ?_)
                                  refine jj_if_eq (tgt := 252) (pc' := 225) dL_texts_222 rfl rfl (fun hc hF => ?_) (fun hc hF => ?_) hF
                                  · skip
                                    refine jj_iconst (v := (0 : Int32)) (pc' := 253) dL_texts_252 rfl rfl ?_
                                    exact jj_retI (ty := .boolean) rfl rfl dL_texts_253 ⟨Nat.le_of_ble_eq_true rfl, Nat.le_of_ble_eq_true rfl⟩ hF
                                  · skip
                                    refine jj_aload_n (j := 0) (i := 0) (pc' := 226) dL_texts_225 rfl rfl rfl ?_
                                    refine jj_ldc2l (v := (3544105583536779307 : Int64)) (pc' := 229) dL_texts_226 qw_103 rfl ?_
                                    refine jj_ldc2l (v := (228626345778 : Int64)) (pc' := 232) dL_texts_229 qw_104 rfl ?_
                                    refine jj_bipush (v := (13 : Int32)) (pc' := 234) dL_texts_232 rfl rfl ?_
                                    refine jj_cI (N := M_L_isError) (kc' := 684) (ks' := 6639) (pc' := 237) (jg_S (N := M_L_isError) (rest := []) (as := [.ref o101, .long ((3544105583536779307 : Int64)), .long ((228626345778 : Int64)), .int ((13 : Int32))]) cf_L_164 rfl dL_texts_234 rfl rfl ⟨Nat.le_of_ble_eq_true rfl, Nat.le_of_ble_eq_true rfl⟩ ⟨Nat.le_of_ble_eq_true rfl, Nat.le_of_ble_eq_true rfl⟩ (Nat.le_of_ble_eq_true rfl) (fun X' hX => KL_isError hX)) rfl rfl rfl rfl ⟨Nat.le_of_ble_eq_true rfl, Nat.le_of_ble_eq_true rfl⟩ rfl hF (fun x139 h138 hF => ?_)
                                    refine jj_if_eq (tgt := 252) (pc' := 240) dL_texts_237 rfl rfl (fun hc hF => ?_) (fun hc hF => ?_) hF
                                    · skip
                                      refine jj_iconst (v := (0 : Int32)) (pc' := 253) dL_texts_252 rfl rfl ?_
                                      exact jj_retI (ty := .boolean) rfl rfl dL_texts_253 ⟨Nat.le_of_ble_eq_true rfl, Nat.le_of_ble_eq_true rfl⟩ hF
                                    · skip
                                      refine jj_aload_n (j := 0) (i := 0) (pc' := 241) dL_texts_240 rfl rfl rfl ?_
                                      refine jj_ldc2l (v := (97 : Int64)) (pc' := 244) dL_texts_241 qw_105 rfl ?_
                                      refine jj_lconst (v := (0 : Int64)) (pc' := 245) dL_texts_244 rfl rfl ?_
                                      refine jj_iconst (v := (0 : Int32)) (pc' := 246) dL_texts_245 rfl rfl ?_
                                      refine jj_cI (N := M_L_isError) (kc' := 716) (ks' := 6831) (pc' := 249) (jg_S (N := M_L_isError) (rest := []) (as := [.ref o101, .long ((97 : Int64)), .long ((0 : Int64)), .int ((0 : Int32))]) cf_L_164 rfl dL_texts_246 rfl rfl ⟨Nat.le_of_ble_eq_true rfl, Nat.le_of_ble_eq_true rfl⟩ ⟨Nat.le_of_ble_eq_true rfl, Nat.le_of_ble_eq_true rfl⟩ (Nat.le_of_ble_eq_true rfl) (fun X' hX => KL_isError hX)) rfl rfl rfl rfl ⟨Nat.le_of_ble_eq_true rfl, Nat.le_of_ble_eq_true rfl⟩ rfl hF (fun x141 h140 hF => ?_)
                                      refine jj_if_ne (tgt := 254) (pc' := 252) dL_texts_249 rfl rfl (fun hc hF => ?_) (fun hc hF => ?_) hF
                                      · skip
                                        refine jj_aload_n (j := 0) (i := 0) (pc' := 255) dL_texts_254 rfl rfl rfl ?_
                                        refine jj_cI (N := M_X3_clearBuffer) (kc' := 716) (ks' := 6831) (pc' := 258) (jg_V (N := M_X3_clearBuffer) (ci := 3) (rest := []) (as := []) cf_L_152 dL_texts_255 ⟨rfl, rfl⟩ rfl rfl ⟨Nat.le_of_ble_eq_true rfl, Nat.le_of_ble_eq_true rfl⟩ ⟨Nat.le_of_ble_eq_true rfl, Nat.le_of_ble_eq_true rfl⟩ (Nat.le_of_ble_eq_true rfl) (fun X' hX => KX3_clearBuffer hX)) rfl rfl rfl rfl ⟨Nat.le_of_ble_eq_true rfl, Nat.le_of_ble_eq_true rfl⟩ rfl hF (fun x143 h142 hF => ?_)
                                        refine jj_iconst (v := (1 : Int32)) (pc' := 259) dL_texts_258 rfl rfl ?_
                                        refine jj_icmp_ne (tgt := 539) (pc' := 262) dL_texts_259 rfl rfl (fun hc hF => ?_) (fun hc hF => ?_) hF
                                        · skip
                                          refine jj_iconst (v := (0 : Int32)) (pc' := 540) dL_texts_539 rfl rfl ?_
                                          exact jj_retI (ty := .boolean) rfl rfl dL_texts_540 ⟨Nat.le_of_ble_eq_true rfl, Nat.le_of_ble_eq_true rfl⟩ hF
                                        · skip
                                          refine jj_aload_n (j := 0) (i := 0) (pc' := 263) dL_texts_262 rfl rfl rfl ?_
                                          refine jj_iconst (v := (2 : Int32)) (pc' := 264) dL_texts_263 rfl rfl ?_
                                          refine jj_bipush (v := (20 : Int32)) (pc' := 266) dL_texts_264 rfl rfl ?_
                                          refine jj_cI (N := M_X3_film) (kc' := 718) (ks' := 6843) (pc' := 269) (jg_V (N := M_X3_film) (ci := 3) (rest := []) (as := [.int ((2 : Int32)), .int ((20 : Int32))]) cf_L_11 dL_texts_266 ⟨rfl, rfl⟩ rfl rfl ⟨Nat.le_of_ble_eq_true rfl, Nat.le_of_ble_eq_true rfl⟩ ⟨Nat.le_of_ble_eq_true rfl, Nat.le_of_ble_eq_true rfl⟩ (Nat.le_of_ble_eq_true rfl) (fun X' hX => KX3_film hX)) rfl rfl rfl rfl ⟨Nat.le_of_ble_eq_true rfl, Nat.le_of_ble_eq_true rfl⟩ rfl hF (fun x145 h144 hF => ?_)
                                          refine jj_if_ne (tgt := 539) (pc' := 272) dL_texts_269 rfl rfl (fun hc hF => ?_) (fun hc hF => ?_) hF
                                          · skip
                                            refine jj_iconst (v := (0 : Int32)) (pc' := 540) dL_texts_539 rfl rfl ?_
                                            exact jj_retI (ty := .boolean) rfl rfl dL_texts_540 ⟨Nat.le_of_ble_eq_true rfl, Nat.le_of_ble_eq_true rfl⟩ hF
                                          · skip
                                            refine jj_aload_n (j := 0) (i := 0) (pc' := 273) dL_texts_272 rfl rfl rfl ?_
                                            refine jj_ldc2l (v := (3472046889987223611 : Int64)) (pc' := 276) dL_texts_273 qw_106 rfl ?_
                                            refine jj_cI (N := M_L_types) (kc' := 734) (ks' := 6939) (pc' := 279) (jg_S (N := M_L_types) (rest := []) (as := [.ref o101, .long ((3472046889987223611 : Int64))]) cf_L_155 rfl dL_texts_276 rfl rfl ⟨Nat.le_of_ble_eq_true rfl, Nat.le_of_ble_eq_true rfl⟩ ⟨Nat.le_of_ble_eq_true rfl, Nat.le_of_ble_eq_true rfl⟩ (Nat.le_of_ble_eq_true rfl) (fun X' hX => KL_types hX)) rfl rfl rfl rfl ⟨Nat.le_of_ble_eq_true rfl, Nat.le_of_ble_eq_true rfl⟩ rfl hF (fun x147 h146 hF => ?_)
                                            refine jj_if_eq (tgt := 539) (pc' := 282) dL_texts_279 rfl rfl (fun hc hF => ?_) (fun hc hF => ?_) hF
                                            · skip
                                              refine jj_iconst (v := (0 : Int32)) (pc' := 540) dL_texts_539 rfl rfl ?_
                                              exact jj_retI (ty := .boolean) rfl rfl dL_texts_540 ⟨Nat.le_of_ble_eq_true rfl, Nat.le_of_ble_eq_true rfl⟩ hF
                                            · skip
                                              refine jj_aload_n (j := 0) (i := 0) (pc' := 283) dL_texts_282 rfl rfl rfl ?_
                                              refine jj_ldc2l (v := (3472047989498852651 : Int64)) (pc' := 286) dL_texts_283 qw_107 rfl ?_
                                              refine jj_cI (N := M_L_types) (kc' := 750) (ks' := 7035) (pc' := 289) (jg_S (N := M_L_types) (rest := []) (as := [.ref o101, .long ((3472047989498852651 : Int64))]) cf_L_155 rfl dL_texts_286 rfl rfl ⟨Nat.le_of_ble_eq_true rfl, Nat.le_of_ble_eq_true rfl⟩ ⟨Nat.le_of_ble_eq_true rfl, Nat.le_of_ble_eq_true rfl⟩ (Nat.le_of_ble_eq_true rfl) (fun X' hX => KL_types hX)) rfl rfl rfl rfl ⟨Nat.le_of_ble_eq_true rfl, Nat.le_of_ble_eq_true rfl⟩ rfl hF (fun x149 h148 hF => ?_)
                                              refine jj_if_eq (tgt := 539) (pc' := 292) dL_texts_289 rfl rfl (fun hc hF => ?_) (fun hc hF => ?_) hF
                                              · skip
                                                refine jj_iconst (v := (0 : Int32)) (pc' := 540) dL_texts_539 rfl rfl ?_
                                                exact jj_retI (ty := .boolean) rfl rfl dL_texts_540 ⟨Nat.le_of_ble_eq_true rfl, Nat.le_of_ble_eq_true rfl⟩ hF
                                              · skip
                                                refine jj_aload_n (j := 0) (i := 0) (pc' := 293) dL_texts_292 rfl rfl rfl ?_
                                                refine jj_ldc2l (v := (4123942863035707696 : Int64)) (pc' := 296) dL_texts_293 qw_108 rfl ?_
                                                refine jj_cI (N := M_L_types) (kc' := 766) (ks' := 7131) (pc' := 299) (jg_S (N := M_L_types) (rest := []) (as := [.ref o101, .long ((4123942863035707696 : Int64))]) cf_L_155 rfl dL_texts_296 rfl rfl ⟨Nat.le_of_ble_eq_true rfl, Nat.le_of_ble_eq_true rfl⟩ ⟨Nat.le_of_ble_eq_true rfl, Nat.le_of_ble_eq_true rfl⟩ (Nat.le_of_ble_eq_true rfl) (fun X' hX => KL_types hX)) rfl rfl rfl rfl ⟨Nat.le_of_ble_eq_true rfl, Nat.le_of_ble_eq_true rfl⟩ rfl hF (fun x151 h150 hF => ?_)
                                                refine jj_if_eq (tgt := 539) (pc' := 302) dL_texts_299 rfl rfl (fun hc hF => ?_) (fun hc hF => ?_) hF
                                                · skip
                                                  refine jj_iconst (v := (0 : Int32)) (pc' := 540) dL_texts_539 rfl rfl ?_
                                                  exact jj_retI (ty := .boolean) rfl rfl dL_texts_540 ⟨Nat.le_of_ble_eq_true rfl, Nat.le_of_ble_eq_true rfl⟩ hF
                                                · skip
                                                  refine jj_aload_n (j := 0) (i := 0) (pc' := 303) dL_texts_302 rfl rfl rfl ?_
                                                  refine jj_ldc2l (v := (53 : Int64)) (pc' := 306) dL_texts_303 qw_109 rfl ?_
                                                  refine jj_cI (N := M_L_types) (kc' := 782) (ks' := 7227) (pc' := 309) (jg_S (N := M_L_types) (rest := []) (as := [.ref o101, .long ((53 : Int64))]) cf_L_155 rfl dL_texts_306 rfl rfl ⟨Nat.le_of_ble_eq_true rfl, Nat.le_of_ble_eq_true rfl⟩ ⟨Nat.le_of_ble_eq_true rfl, Nat.le_of_ble_eq_true rfl⟩ (Nat.le_of_ble_eq_true rfl) (fun X' hX => KL_types hX)) rfl rfl rfl rfl ⟨Nat.le_of_ble_eq_true rfl, Nat.le_of_ble_eq_true rfl⟩ rfl hF (fun x153 h152 hF => ?_)
                                                  refine jj_if_eq (tgt := 539) (pc' := 312) dL_texts_309 rfl rfl (fun hc hF => ?_) (fun hc hF => ?_) hF
                                                  · skip
                                                    refine jj_iconst (v := (0 : Int32)) (pc' := 540) dL_texts_539 rfl rfl ?_
                                                    exact jj_retI (ty := .boolean) rfl rfl dL_texts_540 ⟨Nat.le_of_ble_eq_true rfl, Nat.le_of_ble_eq_true rfl⟩ hF
                                                  · skip
                                                    refine jj_aload_n (j := 0) (i := 0) (pc' := 313) dL_texts_312 rfl rfl rfl ?_
                                                    refine jj_cI (N := M_X3_program) (kc' := 783) (ks' := 7233) (pc' := 316) (jg_V (N := M_X3_program) (ci := 3) (rest := []) (as := []) cf_L_47 dL_texts_313 ⟨rfl, rfl⟩ rfl rfl ⟨Nat.le_of_ble_eq_true rfl, Nat.le_of_ble_eq_true rfl⟩ ⟨Nat.le_of_ble_eq_true rfl, Nat.le_of_ble_eq_true rfl⟩ (Nat.le_of_ble_eq_true rfl) (fun X' hX => KX3_program hX)) rfl rfl rfl rfl ⟨Nat.le_of_ble_eq_true rfl, Nat.le_of_ble_eq_true rfl⟩ rfl hF (fun x155 h154 hF => ?_)
                                                    refine jj_iconst (v := (1 : Int32)) (pc' := 317) dL_texts_316 rfl rfl ?_
                                                    refine jj_icmp_ne (tgt := 539) (pc' := 320) dL_texts_317 rfl rfl (fun hc hF => ?_) (fun hc hF => ?_) hF
                                                    · skip
                                                      refine jj_iconst (v := (0 : Int32)) (pc' := 540) dL_texts_539 rfl rfl ?_
                                                      exact jj_retI (ty := .boolean) rfl rfl dL_texts_540 ⟨Nat.le_of_ble_eq_true rfl, Nat.le_of_ble_eq_true rfl⟩ hF
                                                    · skip
                                                      refine jj_aload_n (j := 0) (i := 0) (pc' := 321) dL_texts_320 rfl rfl rfl ?_
                                                      refine jj_cI (N := M_X3_clearBuffer) (kc' := 783) (ks' := 7233) (pc' := 324) (jg_V (N := M_X3_clearBuffer) (ci := 3) (rest := []) (as := []) cf_L_152 dL_texts_321 ⟨rfl, rfl⟩ rfl rfl ⟨Nat.le_of_ble_eq_true rfl, Nat.le_of_ble_eq_true rfl⟩ ⟨Nat.le_of_ble_eq_true rfl, Nat.le_of_ble_eq_true rfl⟩ (Nat.le_of_ble_eq_true rfl) (fun X' hX => KX3_clearBuffer hX)) rfl rfl rfl rfl ⟨Nat.le_of_ble_eq_true rfl, Nat.le_of_ble_eq_true rfl⟩ rfl hF (fun x157 h156 hF => ?_)
                                                      refine jj_if_ne (tgt := 539) (pc' := 327) dL_texts_324 rfl rfl (fun hc hF => ?_) (fun hc hF => ?_) hF
                                                      · skip
                                                        refine jj_iconst (v := (0 : Int32)) (pc' := 540) dL_texts_539 rfl rfl ?_
                                                        exact jj_retI (ty := .boolean) rfl rfl dL_texts_540 ⟨Nat.le_of_ble_eq_true rfl, Nat.le_of_ble_eq_true rfl⟩ hF
                                                      · skip
                                                        refine jj_aload_n (j := 0) (i := 0) (pc' := 328) dL_texts_327 rfl rfl rfl ?_
                                                        refine jj_iconst (v := (0 : Int32)) (pc' := 329) dL_texts_328 rfl rfl ?_
                                                        refine jj_cI (N := M_X3_stopped) (kc' := 784) (ks' := 7239) (pc' := 332) (jg_V (N := M_X3_stopped) (ci := 3) (rest := []) (as := [.int ((0 : Int32))]) cf_L_51 dL_texts_329 ⟨rfl, rfl⟩ rfl rfl ⟨Nat.le_of_ble_eq_true rfl, Nat.le_of_ble_eq_true rfl⟩ ⟨Nat.le_of_ble_eq_true rfl, Nat.le_of_ble_eq_true rfl⟩ (Nat.le_of_ble_eq_true rfl) (fun X' hX => KX3_stopped hX)) rfl rfl rfl rfl ⟨Nat.le_of_ble_eq_true rfl, Nat.le_of_ble_eq_true rfl⟩ rfl hF (fun x159 h158 hF => ?_)
                                                        refine jj_iconst (v := (1 : Int32)) (pc' := 333) dL_texts_332 rfl rfl ?_
                                                        refine jj_icmp_ne (tgt := 539) (pc' := 336) dL_texts_333 rfl rfl (fun hc hF => ?_) (fun hc hF => ?_) hF
                                                        · skip
                                                          refine jj_iconst (v := (0 : Int32)) (pc' := 540) dL_texts_539 rfl rfl ?_
                                                          exact jj_retI (ty := .boolean) rfl rfl dL_texts_540 ⟨Nat.le_of_ble_eq_true rfl, Nat.le_of_ble_eq_true rfl⟩ hF
                                                        · skip
                                                          refine jj_aload_n (j := 0) (i := 0) (pc' := 337) dL_texts_336 rfl rfl rfl ?_
                                                          refine jj_iconst (v := (1 : Int32)) (pc' := 338) dL_texts_337 rfl rfl ?_
                                                          refine jj_cI (N := M_X3_stopped) (kc' := 785) (ks' := 7245) (pc' := 341) (jg_V (N := M_X3_stopped) (ci := 3) (rest := []) (as := [.int ((1 : Int32))]) cf_L_51 dL_texts_338 ⟨rfl, rfl⟩ rfl rfl ⟨Nat.le_of_ble_eq_true rfl, Nat.le_of_ble_eq_true rfl⟩ ⟨Nat.le_of_ble_eq_true rfl, Nat.le_of_ble_eq_true rfl⟩ (Nat.le_of_ble_eq_true rfl) (fun X' hX => KX3_stopped hX)) rfl rfl rfl rfl ⟨Nat.le_of_ble_eq_true rfl, Nat.le_of_ble_eq_true rfl⟩ rfl hF (fun x161 h160 hF => ?_)
                                                          refine jj_iconst (v := (4 : Int32)) (pc' := 342) dL_texts_341 rfl rfl ?_
                                                          refine jj_icmp_ne (tgt := 539) (pc' := 345) dL_texts_342 rfl rfl (fun hc hF => ?_) (fun hc hF => ?_) hF
                                                          · skip
                                                            refine jj_iconst (v := (0 : Int32)) (pc' := 540) dL_texts_539 rfl rfl ?_
                                                            exact jj_retI (ty := .boolean) rfl rfl dL_texts_540 ⟨Nat.le_of_ble_eq_true rfl, Nat.le_of_ble_eq_true rfl⟩ hF
                                                          · skip
                                                            refine jj_aload_n (j := 0) (i := 0) (pc' := 346) dL_texts_345 rfl rfl rfl ?_
                                                            refine jj_iconst (v := (2 : Int32)) (pc' := 347) dL_texts_346 rfl rfl ?_
                                                            refine jj_cI (N := M_X3_stopped) (kc' := 786) (ks' := 7251) (pc' := 350) (jg_V (N := M_X3_stopped) (ci := 3) (rest := []) (as := [.int ((2 : Int32))]) cf_L_51 dL_texts_347 ⟨rfl, rfl⟩ rfl rfl ⟨Nat.le_of_ble_eq_true rfl, Nat.le_of_ble_eq_true rfl⟩ ⟨Nat.le_of_ble_eq_true rfl, Nat.le_of_ble_eq_true rfl⟩ (Nat.le_of_ble_eq_true rfl) (fun X' hX => KX3_stopped hX)) rfl rfl rfl rfl ⟨Nat.le_of_ble_eq_true rfl, Nat.le_of_ble_eq_true rfl⟩ rfl hF (fun x163 h162 hF => ?_)
                                                            refine jj_if_ne (tgt := 539) (pc' := 353) dL_texts_350 rfl rfl (fun hc hF => ?_) (fun hc hF => ?_) hF
                                                            · skip
                                                              refine jj_iconst (v := (0 : Int32)) (pc' := 540) dL_texts_539 rfl rfl ?_
                                                              exact jj_retI (ty := .boolean) rfl rfl dL_texts_540 ⟨Nat.le_of_ble_eq_true rfl, Nat.le_of_ble_eq_true rfl⟩ hF
                                                            · skip
                                                              refine jj_aload_n (j := 0) (i := 0) (pc' := 354) dL_texts_353 rfl rfl rfl ?_
                                                              refine jj_ldc2l (v := (3472047989515628603 : Int64)) (pc' := 357) dL_texts_354 qw_110 rfl ?_
                                                              refine jj_cI (N := M_L_types) (kc' := 802) (ks' := 7347) (pc' := 360) (jg_S (N := M_L_types) (rest := []) (as := [.ref o101, .long ((3472047989515628603 : Int64))]) cf_L_155 rfl dL_texts_357 rfl rfl ⟨Nat.le_of_ble_eq_true rfl, Nat.le_of_ble_eq_true rfl⟩ ⟨Nat.le_of_ble_eq_true rfl, Nat.le_of_ble_eq_true rfl⟩ (Nat.le_of_ble_eq_true rfl) (fun X' hX => KL_types hX)) rfl rfl rfl rfl ⟨Nat.le_of_ble_eq_true rfl, Nat.le_of_ble_eq_true rfl⟩ rfl hF (fun x165 h164 hF => ?_)
                                                              refine jj_if_eq (tgt := 539) (pc' := 363) dL_texts_360 rfl rfl (fun hc hF => ?_) (fun hc hF => ?_) hF
                                                              · skip
                                                                refine jj_iconst (v := (0 : Int32)) (pc' := 540) dL_texts_539 rfl rfl ?_
                                                                exact jj_retI (ty := .boolean) rfl rfl dL_texts_540 ⟨Nat.le_of_ble_eq_true rfl, Nat.le_of_ble_eq_true rfl⟩ hF
                                                              · skip
                                                                refine jj_aload_n (j := 0) (i := 0) (pc' := 364) dL_texts_363 rfl rfl rfl ?_
                                                                refine jj_ldc2l (v := (13844166730919984 : Int64)) (pc' := 367) dL_texts_364 qw_111 rfl ?_
                                                                refine jj_cI (N := M_L_types) (kc' := 818) (ks' := 7443) (pc' := 370) (jg_S (N := M_L_types) (rest := []) (as := [.ref o101, .long ((13844166730919984 : Int64))]) cf_L_155 rfl dL_texts_367 rfl rfl ⟨Nat.le_of_ble_eq_true rfl, Nat.le_of_ble_eq_true rfl⟩ ⟨Nat.le_of_ble_eq_true rfl, Nat.le_of_ble_eq_true rfl⟩ (Nat.le_of_ble_eq_true rfl) (fun X' hX => KL_types hX)) rfl rfl rfl rfl ⟨Nat.le_of_ble_eq_true rfl, Nat.le_of_ble_eq_true rfl⟩ rfl hF (fun x167 h166 hF => ?_)
                                                                refine jj_if_eq (tgt := 539) (pc' := 373) dL_texts_370 rfl rfl (fun hc hF => ?_) (fun hc hF => ?_) hF
                                                                · skip
                                                                  refine jj_iconst (v := (0 : Int32)) (pc' := 540) dL_texts_539 rfl rfl ?_
                                                                  exact jj_retI (ty := .boolean) rfl rfl dL_texts_540 ⟨Nat.le_of_ble_eq_true rfl, Nat.le_of_ble_eq_true rfl⟩ hF
                                                                · skip
                                                                  refine jj_aload_n (j := 0) (i := 0) (pc' := 374) dL_texts_373 rfl rfl rfl ?_
                                                                  refine jj_cI (N := M_X3_program) (kc' := 819) (ks' := 7449) (pc' := 377) (jg_V (N := M_X3_program) (ci := 3) (rest := []) (as := []) cf_L_47 dL_texts_374 ⟨rfl, rfl⟩ rfl rfl ⟨Nat.le_of_ble_eq_true rfl, Nat.le_of_ble_eq_true rfl⟩ ⟨Nat.le_of_ble_eq_true rfl, Nat.le_of_ble_eq_true rfl⟩ (Nat.le_of_ble_eq_true rfl) (fun X' hX => KX3_program hX)) rfl rfl rfl rfl ⟨Nat.le_of_ble_eq_true rfl, Nat.le_of_ble_eq_true rfl⟩ rfl hF (fun x169 h168 hF => ?_)
                                                                  refine jj_iconst (v := (1 : Int32)) (pc' := 378) dL_texts_377 rfl rfl ?_
                                                                  refine jj_icmp_ne (tgt := 539) (pc' := 381) dL_texts_378 rfl rfl (fun hc hF => ?_) (fun hc hF => ?_) hF
                                                                  · skip
                                                                    refine jj_iconst (v := (0 : Int32)) (pc' := 540) dL_texts_539 rfl rfl ?_
                                                                    exact jj_retI (ty := .boolean) rfl rfl dL_texts_540 ⟨Nat.le_of_ble_eq_true rfl, Nat.le_of_ble_eq_true rfl⟩ hF
                                                                  · skip
                                                                    refine jj_aload_n (j := 0) (i := 0) (pc' := 382) dL_texts_381 rfl rfl rfl ?_
                                                                    refine jj_iconst (v := (0 : Int32)) (pc' := 383) dL_texts_382 rfl rfl ?_
                                                                    refine jj_cI (N := M_X3_stopped) (kc' := 820) (ks' := 7455) (pc' := 386) (jg_V (N := M_X3_stopped) (ci := 3) (rest := []) (as := [.int ((0 : Int32))]) cf_L_51 dL_texts_383 ⟨rfl, rfl⟩ rfl rfl ⟨Nat.le_of_ble_eq_true rfl, Nat.le_of_ble_eq_true rfl⟩ ⟨Nat.le_of_ble_eq_true rfl, Nat.le_of_ble_eq_true rfl⟩ (Nat.le_of_ble_eq_true rfl) (fun X' hX => KX3_stopped hX)) rfl rfl rfl rfl ⟨Nat.le_of_ble_eq_true rfl, Nat.le_of_ble_eq_true rfl⟩ rfl hF (fun x171 h170 hF => ?_)
                                                                    refine jj_iconst (v := (1 : Int32)) (pc' := 387) dL_texts_386 rfl rfl ?_
                                                                    refine jj_icmp_ne (tgt := 539) (pc' := 390) dL_texts_387 rfl rfl (fun hc hF => ?_) (fun hc hF => ?_) hF
                                                                    · skip
                                                                      refine jj_iconst (v := (0 : Int32)) (pc' := 540) dL_texts_539 rfl rfl ?_
                                                                      exact jj_retI (ty := .boolean) rfl rfl dL_texts_540 ⟨Nat.le_of_ble_eq_true rfl, Nat.le_of_ble_eq_true rfl⟩ hF
                                                                    · skip
                                                                      refine jj_aload_n (j := 0) (i := 0) (pc' := 391) dL_texts_390 rfl rfl rfl ?_
                                                                      refine jj_iconst (v := (1 : Int32)) (pc' := 392) dL_texts_391 rfl rfl ?_
                                                                      refine jj_cI (N := M_X3_stopped) (kc' := 821) (ks' := 7461) (pc' := 395) (jg_V (N := M_X3_stopped) (ci := 3) (rest := []) (as := [.int ((1 : Int32))]) cf_L_51 dL_texts_392 ⟨rfl, rfl⟩ rfl rfl ⟨Nat.le_of_ble_eq_true rfl, Nat.le_of_ble_eq_true rfl⟩ ⟨Nat.le_of_ble_eq_true rfl, Nat.le_of_ble_eq_true rfl⟩ (Nat.le_of_ble_eq_true rfl) (fun X' hX => KX3_stopped hX)) rfl rfl rfl rfl ⟨Nat.le_of_ble_eq_true rfl, Nat.le_of_ble_eq_true rfl⟩ rfl hF (fun x173 h172 hF => ?_)
                                                                      refine jj_iconst (v := (5 : Int32)) (pc' := 396) dL_texts_395 rfl rfl ?_
                                                                      refine jj_icmp_ne (tgt := 539) (pc' := 399) dL_texts_396 rfl rfl (fun hc hF => ?_) (fun hc hF => ?_) hF
                                                                      · skip
                                                                        refine jj_iconst (v := (0 : Int32)) (pc' := 540) dL_texts_539 rfl rfl ?_
                                                                        exact jj_retI (ty := .boolean) rfl rfl dL_texts_540 ⟨Nat.le_of_ble_eq_true rfl, Nat.le_of_ble_eq_true rfl⟩ hF
                                                                      · skip
                                                                        refine jj_aload_n (j := 0) (i := 0) (pc' := 400) dL_texts_399 rfl rfl rfl ?_
                                                                        refine jj_iconst (v := (2 : Int32)) (pc' := 401) dL_texts_400 rfl rfl ?_
                                                                        refine jj_cI (N := M_X3_stopped) (kc' := 822) (ks' := 7467) (pc' := 404) (jg_V (N := M_X3_stopped) (ci := 3) (rest := []) (as := [.int ((2 : Int32))]) cf_L_51 dL_texts_401 ⟨rfl, rfl⟩ rfl rfl ⟨Nat.le_of_ble_eq_true rfl, Nat.le_of_ble_eq_true rfl⟩ ⟨Nat.le_of_ble_eq_true rfl, Nat.le_of_ble_eq_true rfl⟩ (Nat.le_of_ble_eq_true rfl) (fun X' hX => KX3_stopped hX)) rfl rfl rfl rfl ⟨Nat.le_of_ble_eq_true rfl, Nat.le_of_ble_eq_true rfl⟩ rfl hF (fun x175 h174 hF => ?_)
                                                                        refine jj_iconst (v := (-1 : Int32)) (pc' := 405) dL_texts_404 rfl rfl ?_
                                                                        refine jj_icmp_ne (tgt := 539) (pc' := 408) dL_texts_405 rfl rfl (fun hc hF => ?_) (fun hc hF => ?_) hF
                                                                        · skip
                                                                          refine jj_iconst (v := (0 : Int32)) (pc' := 540) dL_texts_539 rfl rfl ?_
                                                                          exact jj_retI (ty := .boolean) rfl rfl dL_texts_540 ⟨Nat.le_of_ble_eq_true rfl, Nat.le_of_ble_eq_true rfl⟩ hF
                                                                        · skip
                                                                          refine jj_aload_n (j := 0) (i := 0) (pc' := 409) dL_texts_408 rfl rfl rfl ?_
                                                                          refine jj_ldc2l (v := (13562691754078256 : Int64)) (pc' := 412) dL_texts_409 qw_112 rfl ?_
                                                                          refine jj_cI (N := M_L_types) (kc' := 838) (ks' := 7563) (pc' := 415) (jg_S (N := M_L_types) (rest := []) (as := [.ref o101, .long ((13562691754078256 : Int64))]) cf_L_155 rfl dL_texts_412 rfl rfl ⟨Nat.le_of_ble_eq_true rfl, Nat.le_of_ble_eq_true rfl⟩ ⟨Nat.le_of_ble_eq_true rfl, Nat.le_of_ble_eq_true rfl⟩ (Nat.le_of_ble_eq_true rfl) (fun X' hX => KL_types hX)) rfl rfl rfl rfl ⟨Nat.le_of_ble_eq_true rfl, Nat.le_of_ble_eq_true rfl⟩ rfl hF (fun x177 h176 hF => ?_)
                                                                          refine jj_if_eq (tgt := 539) (pc' := 418) dL_texts_415 rfl rfl (fun hc hF => ?_) (fun hc hF => ?_) hF
                                                                          · skip
                                                                            refine jj_iconst (v := (0 : Int32)) (pc' := 540) dL_texts_539 rfl rfl ?_
                                                                            exact jj_retI (ty := .boolean) rfl rfl dL_texts_540 ⟨Nat.le_of_ble_eq_true rfl, Nat.le_of_ble_eq_true rfl⟩ hF
                                                                          · skip
                                                                            refine jj_aload_n (j := 0) (i := 0) (pc' := 419) dL_texts_418 rfl rfl rfl ?_
                                                                            refine jj_cI (N := M_X3_program) (kc' := 839) (ks' := 7569) (pc' := 422) (jg_V (N := M_X3_program) (ci := 3) (rest := []) (as := []) cf_L_47 dL_texts_419 ⟨rfl, rfl⟩ rfl rfl ⟨Nat.le_of_ble_eq_true rfl, Nat.le_of_ble_eq_true rfl⟩ ⟨Nat.le_of_ble_eq_true rfl, Nat.le_of_ble_eq_true rfl⟩ (Nat.le_of_ble_eq_true rfl) (fun X' hX => KX3_program hX)) rfl rfl rfl rfl ⟨Nat.le_of_ble_eq_true rfl, Nat.le_of_ble_eq_true rfl⟩ rfl hF (fun x179 h178 hF => ?_)
                                                                            refine jj_iconst (v := (1 : Int32)) (pc' := 423) dL_texts_422 rfl rfl ?_
                                                                            refine jj_icmp_ne (tgt := 539) (pc' := 426) dL_texts_423 rfl rfl (fun hc hF => ?_) (fun hc hF => ?_) hF
                                                                            · skip
                                                                              refine jj_iconst (v := (0 : Int32)) (pc' := 540) dL_texts_539 rfl rfl ?_
                                                                              exact jj_retI (ty := .boolean) rfl rfl dL_texts_540 ⟨Nat.le_of_ble_eq_true rfl, Nat.le_of_ble_eq_true rfl⟩ hF
                                                                            · skip
                                                                              refine jj_aload_n (j := 0) (i := 0) (pc' := 427) dL_texts_426 rfl rfl rfl ?_
                                                                              refine jj_iconst (v := (0 : Int32)) (pc' := 428) dL_texts_427 rfl rfl ?_
                                                                              refine jj_cI (N := M_X3_stopped) (kc' := 840) (ks' := 7575) (pc' := 431) (jg_V (N := M_X3_stopped) (ci := 3) (rest := []) (as := [.int ((0 : Int32))]) cf_L_51 dL_texts_428 ⟨rfl, rfl⟩ rfl rfl ⟨Nat.le_of_ble_eq_true rfl, Nat.le_of_ble_eq_true rfl⟩ ⟨Nat.le_of_ble_eq_true rfl, Nat.le_of_ble_eq_true rfl⟩ (Nat.le_of_ble_eq_true rfl) (fun X' hX => KX3_stopped hX)) rfl rfl rfl rfl ⟨Nat.le_of_ble_eq_true rfl, Nat.le_of_ble_eq_true rfl⟩ rfl hF (fun x181 h180 hF => ?_)
                                                                              refine jj_iconst (v := (-1 : Int32)) (pc' := 432) dL_texts_431 rfl rfl ?_
                                                                              refine jj_icmp_ne (tgt := 539) (pc' := 435) dL_texts_432 rfl rfl (fun hc hF => ?_) (fun hc hF => ?_) hF
                                                                              · skip
                                                                                refine jj_iconst (v := (0 : Int32)) (pc' := 540) dL_texts_539 rfl rfl ?_
                                                                                exact jj_retI (ty := .boolean) rfl rfl dL_texts_540 ⟨Nat.le_of_ble_eq_true rfl, Nat.le_of_ble_eq_true rfl⟩ hF
                                                                              · skip
                                                                                refine jj_aload_n (j := 0) (i := 0) (pc' := 436) dL_texts_435 rfl rfl rfl ?_
                                                                                refine jj_iconst (v := (2 : Int32)) (pc' := 437) dL_texts_436 rfl rfl ?_
                                                                                refine jj_cI (N := M_X3_stopped) (kc' := 841) (ks' := 7581) (pc' := 440) (jg_V (N := M_X3_stopped) (ci := 3) (rest := []) (as := [.int ((2 : Int32))]) cf_L_51 dL_texts_437 ⟨rfl, rfl⟩ rfl rfl ⟨Nat.le_of_ble_eq_true rfl, Nat.le_of_ble_eq_true rfl⟩ ⟨Nat.le_of_ble_eq_true rfl, Nat.le_of_ble_eq_true rfl⟩ (Nat.le_of_ble_eq_true rfl) (fun X' hX => KX3_stopped hX)) rfl rfl rfl rfl ⟨Nat.le_of_ble_eq_true rfl, Nat.le_of_ble_eq_true rfl⟩ rfl hF (fun x183 h182 hF => ?_)
                                                                                refine jj_iconst (v := (-1 : Int32)) (pc' := 441) dL_texts_440 rfl rfl ?_
                                                                                refine jj_icmp_ne (tgt := 539) (pc' := 444) dL_texts_441 rfl rfl (fun hc hF => ?_) (fun hc hF => ?_) hF
                                                                                · skip
                                                                                  refine jj_iconst (v := (0 : Int32)) (pc' := 540) dL_texts_539 rfl rfl ?_
                                                                                  exact jj_retI (ty := .boolean) rfl rfl dL_texts_540 ⟨Nat.le_of_ble_eq_true rfl, Nat.le_of_ble_eq_true rfl⟩ hF
                                                                                · skip
                                                                                  refine jj_aload_n (j := 0) (i := 0) (pc' := 445) dL_texts_444 rfl rfl rfl ?_
                                                                                  refine jj_iconst (v := (1 : Int32)) (pc' := 446) dL_texts_445 rfl rfl ?_
                                                                                  refine jj_cI (N := M_X3_count) (kc' := 842) (ks' := 7587) (pc' := 449) (jg_V (N := M_X3_count) (ci := 3) (rest := []) (as := [.int ((1 : Int32))]) cf_L_81 dL_texts_446 ⟨rfl, rfl⟩ rfl rfl ⟨Nat.le_of_ble_eq_true rfl, Nat.le_of_ble_eq_true rfl⟩ ⟨Nat.le_of_ble_eq_true rfl, Nat.le_of_ble_eq_true rfl⟩ (Nat.le_of_ble_eq_true rfl) (fun X' hX => KX3_count hX)) rfl rfl rfl rfl ⟨Nat.le_of_ble_eq_true rfl, Nat.le_of_ble_eq_true rfl⟩ rfl hF (fun x185 h184 hF => ?_)
                                                                                  refine jj_iconst (v := (3 : Int32)) (pc' := 450) dL_texts_449 rfl rfl ?_
                                                                                  refine jj_icmp_ne (tgt := 539) (pc' := 453) dL_texts_450 rfl rfl (fun hc hF => ?_) (fun hc hF => ?_) hF
                                                                                  · skip
                                                                                    refine jj_iconst (v := (0 : Int32)) (pc' := 540) dL_texts_539 rfl rfl ?_
                                                                                    exact jj_retI (ty := .boolean) rfl rfl dL_texts_540 ⟨Nat.le_of_ble_eq_true rfl, Nat.le_of_ble_eq_true rfl⟩ hF
                                                                                  · skip
                                                                                    refine jj_aload_n (j := 0) (i := 0) (pc' := 454) dL_texts_453 rfl rfl rfl ?_
                                                                                    refine jj_cI (N := M_X3_undo) (kc' := 843) (ks' := 7593) (pc' := 457) (jg_V (N := M_X3_undo) (ci := 3) (rest := []) (as := []) cf_L_54 dL_texts_454 ⟨rfl, rfl⟩ rfl rfl ⟨Nat.le_of_ble_eq_true rfl, Nat.le_of_ble_eq_true rfl⟩ ⟨Nat.le_of_ble_eq_true rfl, Nat.le_of_ble_eq_true rfl⟩ (Nat.le_of_ble_eq_true rfl) (fun X' hX => KX3_undo hX)) rfl rfl rfl rfl ⟨Nat.le_of_ble_eq_true rfl, Nat.le_of_ble_eq_true rfl⟩ rfl hF (fun x187 h186 hF => ?_)
                                                                                    refine jj_iconst (v := (3 : Int32)) (pc' := 458) dL_texts_457 rfl rfl ?_
                                                                                    refine jj_icmp_ne (tgt := 539) (pc' := 461) dL_texts_458 rfl rfl (fun hc hF => ?_) (fun hc hF => ?_) hF
                                                                                    · skip
                                                                                      refine jj_iconst (v := (0 : Int32)) (pc' := 540) dL_texts_539 rfl rfl ?_
                                                                                      exact jj_retI (ty := .boolean) rfl rfl dL_texts_540 ⟨Nat.le_of_ble_eq_true rfl, Nat.le_of_ble_eq_true rfl⟩ hF
                                                                                    · skip
                                                                                      refine jj_aload_n (j := 0) (i := 0) (pc' := 462) dL_texts_461 rfl rfl rfl ?_
                                                                                      refine jj_iconst (v := (1 : Int32)) (pc' := 463) dL_texts_462 rfl rfl ?_
                                                                                      refine jj_cI (N := M_X3_stopped) (kc' := 844) (ks' := 7599) (pc' := 466) (jg_V (N := M_X3_stopped) (ci := 3) (rest := []) (as := [.int ((1 : Int32))]) cf_L_51 dL_texts_463 ⟨rfl, rfl⟩ rfl rfl ⟨Nat.le_of_ble_eq_true rfl, Nat.le_of_ble_eq_true rfl⟩ ⟨Nat.le_of_ble_eq_true rfl, Nat.le_of_ble_eq_true rfl⟩ (Nat.le_of_ble_eq_true rfl) (fun X' hX => KX3_stopped hX)) rfl rfl rfl rfl ⟨Nat.le_of_ble_eq_true rfl, Nat.le_of_ble_eq_true rfl⟩ rfl hF (fun x189 h188 hF => ?_)
                                                                                      refine jj_iconst (v := (5 : Int32)) (pc' := 467) dL_texts_466 rfl rfl ?_
                                                                                      refine jj_icmp_ne (tgt := 539) (pc' := 470) dL_texts_467 rfl rfl (fun hc hF => ?_) (fun hc hF => ?_) hF
                                                                                      · skip
                                                                                        refine jj_iconst (v := (0 : Int32)) (pc' := 540) dL_texts_539 rfl rfl ?_
                                                                                        exact jj_retI (ty := .boolean) rfl rfl dL_texts_540 ⟨Nat.le_of_ble_eq_true rfl, Nat.le_of_ble_eq_true rfl⟩ hF
                                                                                      · skip
                                                                                        refine jj_aload_n (j := 0) (i := 0) (pc' := 471) dL_texts_470 rfl rfl rfl ?_
                                                                                        refine jj_ldc2l (v := (3472049089011070513 : Int64)) (pc' := 474) dL_texts_471 qw_113 rfl ?_
                                                                                        refine jj_cI (N := M_L_types) (kc' := 860) (ks' := 7695) (pc' := 477) (jg_S (N := M_L_types) (rest := []) (as := [.ref o101, .long ((3472049089011070513 : Int64))]) cf_L_155 rfl dL_texts_474 rfl rfl ⟨Nat.le_of_ble_eq_true rfl, Nat.le_of_ble_eq_true rfl⟩ ⟨Nat.le_of_ble_eq_true rfl, Nat.le_of_ble_eq_true rfl⟩ (Nat.le_of_ble_eq_true rfl) (fun X' hX => KL_types hX)) rfl rfl rfl rfl ⟨Nat.le_of_ble_eq_true rfl, Nat.le_of_ble_eq_true rfl⟩ rfl hF (fun x191 h190 hF => ?_)
                                                                                        refine jj_if_eq (tgt := 539) (pc' := 480) dL_texts_477 rfl rfl (fun hc hF => ?_) (fun hc hF => ?_) hF
                                                                                        · skip
                                                                                          refine jj_iconst (v := (0 : Int32)) (pc' := 540) dL_texts_539 rfl rfl ?_
                                                                                          exact jj_retI (ty := .boolean) rfl rfl dL_texts_540 ⟨Nat.le_of_ble_eq_true rfl, Nat.le_of_ble_eq_true rfl⟩ hF
                                                                                        · skip
                                                                                          refine jj_aload_n (j := 0) (i := 0) (pc' := 481) dL_texts_480 rfl rfl rfl ?_
                                                                                          refine jj_cI (N := M_X3_program) (kc' := 861) (ks' := 7701) (pc' := 484) (jg_V (N := M_X3_program) (ci := 3) (rest := []) (as := []) cf_L_47 dL_texts_481 ⟨rfl, rfl⟩ rfl rfl ⟨Nat.le_of_ble_eq_true rfl, Nat.le_of_ble_eq_true rfl⟩ ⟨Nat.le_of_ble_eq_true rfl, Nat.le_of_ble_eq_true rfl⟩ (Nat.le_of_ble_eq_true rfl) (fun X' hX => KX3_program hX)) rfl rfl rfl rfl ⟨Nat.le_of_ble_eq_true rfl, Nat.le_of_ble_eq_true rfl⟩ rfl hF (fun x193 h192 hF => ?_)
                                                                                          refine jj_if_ne (tgt := 539) (pc' := 487) dL_texts_484 rfl rfl (fun hc hF => ?_) (fun hc hF => ?_) hF
                                                                                          · skip
                                                                                            refine jj_iconst (v := (0 : Int32)) (pc' := 540) dL_texts_539 rfl rfl ?_
                                                                                            exact jj_retI (ty := .boolean) rfl rfl dL_texts_540 ⟨Nat.le_of_ble_eq_true rfl, Nat.le_of_ble_eq_true rfl⟩ hF
                                                                                          · skip
                                                                                            refine jj_aload_n (j := 0) (i := 0) (pc' := 488) dL_texts_487 rfl rfl rfl ?_
                                                                                            refine jj_iconst (v := (1 : Int32)) (pc' := 489) dL_texts_488 rfl rfl ?_
                                                                                            refine jj_cI (N := M_X3_stopped) (kc' := 862) (ks' := 7707) (pc' := 492) (jg_V (N := M_X3_stopped) (ci := 3) (rest := []) (as := [.int ((1 : Int32))]) cf_L_51 dL_texts_489 ⟨rfl, rfl⟩ rfl rfl ⟨Nat.le_of_ble_eq_true rfl, Nat.le_of_ble_eq_true rfl⟩ ⟨Nat.le_of_ble_eq_true rfl, Nat.le_of_ble_eq_true rfl⟩ (Nat.le_of_ble_eq_true rfl) (fun X' hX => KX3_stopped hX)) rfl rfl rfl rfl ⟨Nat.le_of_ble_eq_true rfl, Nat.le_of_ble_eq_true rfl⟩ rfl hF (fun x195 h194 hF => ?_)
                                                                                            refine jj_iconst (v := (2 : Int32)) (pc' := 493) dL_texts_492 rfl rfl ?_
                                                                                            refine jj_icmp_ne (tgt := 539) (pc' := 496) dL_texts_493 rfl rfl (fun hc hF => ?_) (fun hc hF => ?_) hF
                                                                                            · skip
                                                                                              refine jj_iconst (v := (0 : Int32)) (pc' := 540) dL_texts_539 rfl rfl ?_
                                                                                              exact jj_retI (ty := .boolean) rfl rfl dL_texts_540 ⟨Nat.le_of_ble_eq_true rfl, Nat.le_of_ble_eq_true rfl⟩ hF
                                                                                            · skip
                                                                                              refine jj_aload_n (j := 0) (i := 0) (pc' := 497) dL_texts_496 rfl rfl rfl ?_
                                                                                              refine jj_iconst (v := (0 : Int32)) (pc' := 498) dL_texts_497 rfl rfl ?_
                                                                                              refine jj_cI (N := M_X3_stopped) (kc' := 863) (ks' := 7713) (pc' := 501) (jg_V (N := M_X3_stopped) (ci := 3) (rest := []) (as := [.int ((0 : Int32))]) cf_L_51 dL_texts_498 ⟨rfl, rfl⟩ rfl rfl ⟨Nat.le_of_ble_eq_true rfl, Nat.le_of_ble_eq_true rfl⟩ ⟨Nat.le_of_ble_eq_true rfl, Nat.le_of_ble_eq_true rfl⟩ (Nat.le_of_ble_eq_true rfl) (fun X' hX => KX3_stopped hX)) rfl rfl rfl rfl ⟨Nat.le_of_ble_eq_true rfl, Nat.le_of_ble_eq_true rfl⟩ rfl hF (fun x197 h196 hF => ?_)
                                                                                              refine jj_if_ne (tgt := 539) (pc' := 504) dL_texts_501 rfl rfl (fun hc hF => ?_) (fun hc hF => ?_) hF
                                                                                              · skip
                                                                                                refine jj_iconst (v := (0 : Int32)) (pc' := 540) dL_texts_539 rfl rfl ?_
                                                                                                exact jj_retI (ty := .boolean) rfl rfl dL_texts_540 ⟨Nat.le_of_ble_eq_true rfl, Nat.le_of_ble_eq_true rfl⟩ hF
                                                                                              · skip
                                                                                                refine jj_aload_n (j := 0) (i := 0) (pc' := 505) dL_texts_504 rfl rfl rfl ?_
                                                                                                refine jj_ldc2l (v := (13562687459046201 : Int64)) (pc' := 508) dL_texts_505 qw_114 rfl ?_
                                                                                                refine jj_cI (N := M_L_types) (kc' := 879) (ks' := 7809) (pc' := 511) (jg_S (N := M_L_types) (rest := []) (as := [.ref o101, .long ((13562687459046201 : Int64))]) cf_L_155 rfl dL_texts_508 rfl rfl ⟨Nat.le_of_ble_eq_true rfl, Nat.le_of_ble_eq_true rfl⟩ ⟨Nat.le_of_ble_eq_true rfl, Nat.le_of_ble_eq_true rfl⟩ (Nat.le_of_ble_eq_true rfl) (fun X' hX => KL_types hX)) rfl rfl rfl rfl ⟨Nat.le_of_ble_eq_true rfl, Nat.le_of_ble_eq_true rfl⟩ rfl hF (fun x199 h198 hF => ?_)
                                                                                                refine jj_if_eq (tgt := 539) (pc' := 514) dL_texts_511 rfl rfl (fun hc hF => ?_) (fun hc hF => ?_) hF
                                                                                                · skip
                                                                                                  refine jj_iconst (v := (0 : Int32)) (pc' := 540) dL_texts_539 rfl rfl ?_
                                                                                                  exact jj_retI (ty := .boolean) rfl rfl dL_texts_540 ⟨Nat.le_of_ble_eq_true rfl, Nat.le_of_ble_eq_true rfl⟩ hF
                                                                                                · skip
                                                                                                  refine jj_aload_n (j := 0) (i := 0) (pc' := 515) dL_texts_514 rfl rfl rfl ?_
                                                                                                  refine jj_cI (N := M_X3_program) (kc' := 880) (ks' := 7815) (pc' := 518) (jg_V (N := M_X3_program) (ci := 3) (rest := []) (as := []) cf_L_47 dL_texts_515 ⟨rfl, rfl⟩ rfl rfl ⟨Nat.le_of_ble_eq_true rfl, Nat.le_of_ble_eq_true rfl⟩ ⟨Nat.le_of_ble_eq_true rfl, Nat.le_of_ble_eq_true rfl⟩ (Nat.le_of_ble_eq_true rfl) (fun X' hX => KX3_program hX)) rfl rfl rfl rfl ⟨Nat.le_of_ble_eq_true rfl, Nat.le_of_ble_eq_true rfl⟩ rfl hF (fun x201 h200 hF => ?_)
                                                                                                  refine jj_if_ne (tgt := 539) (pc' := 521) dL_texts_518 rfl rfl (fun hc hF => ?_) (fun hc hF => ?_) hF
                                                                                                  · skip
                                                                                                    refine jj_iconst (v := (0 : Int32)) (pc' := 540) dL_texts_539 rfl rfl ?_
                                                                                                    exact jj_retI (ty := .boolean) rfl rfl dL_texts_540 ⟨Nat.le_of_ble_eq_true rfl, Nat.le_of_ble_eq_true rfl⟩ hF
                                                                                                  · skip
                                                                                                    refine jj_aload_n (j := 0) (i := 0) (pc' := 522) dL_texts_521 rfl rfl rfl ?_
                                                                                                    refine jj_iconst (v := (1 : Int32)) (pc' := 523) dL_texts_522 rfl rfl ?_
                                                                                                    refine jj_cI (N := M_X3_stopped) (kc' := 881) (ks' := 7821) (pc' := 526) (jg_V (N := M_X3_stopped) (ci := 3) (rest := []) (as := [.int ((1 : Int32))]) cf_L_51 dL_texts_523 ⟨rfl, rfl⟩ rfl rfl ⟨Nat.le_of_ble_eq_true rfl, Nat.le_of_ble_eq_true rfl⟩ ⟨Nat.le_of_ble_eq_true rfl, Nat.le_of_ble_eq_true rfl⟩ (Nat.le_of_ble_eq_true rfl) (fun X' hX => KX3_stopped hX)) rfl rfl rfl rfl ⟨Nat.le_of_ble_eq_true rfl, Nat.le_of_ble_eq_true rfl⟩ rfl hF (fun x203 h202 hF => ?_)
                                                                                                    refine jj_iconst (v := (3 : Int32)) (pc' := 527) dL_texts_526 rfl rfl ?_
                                                                                                    refine jj_icmp_ne (tgt := 539) (pc' := 530) dL_texts_527 rfl rfl (fun hc hF => ?_) (fun hc hF => ?_) hF
                                                                                                    · skip
                                                                                                      refine jj_iconst (v := (0 : Int32)) (pc' := 540) dL_texts_539 rfl rfl ?_
                                                                                                      exact jj_retI (ty := .boolean) rfl rfl dL_texts_540 ⟨Nat.le_of_ble_eq_true rfl, Nat.le_of_ble_eq_true rfl⟩ hF
                                                                                                    · skip
                                                                                                      refine jj_aload_n (j := 0) (i := 0) (pc' := 531) dL_texts_530 rfl rfl rfl ?_
                                                                                                      refine jj_iconst (v := (2 : Int32)) (pc' := 532) dL_texts_531 rfl rfl ?_
                                                                                                      refine jj_cI (N := M_X3_stopped) (kc' := 882) (ks' := 7827) (pc' := 535) (jg_V (N := M_X3_stopped) (ci := 3) (rest := []) (as := [.int ((2 : Int32))]) cf_L_51 dL_texts_532 ⟨rfl, rfl⟩ rfl rfl ⟨Nat.le_of_ble_eq_true rfl, Nat.le_of_ble_eq_true rfl⟩ ⟨Nat.le_of_ble_eq_true rfl, Nat.le_of_ble_eq_true rfl⟩ (Nat.le_of_ble_eq_true rfl) (fun X' hX => KX3_stopped hX)) rfl rfl rfl rfl ⟨Nat.le_of_ble_eq_true rfl, Nat.le_of_ble_eq_true rfl⟩ rfl hF (fun x205 h204 hF => ?_)
                                                                                                      refine jj_iconst (v := (1 : Int32)) (pc' := 536) dL_texts_535 rfl rfl ?_
                                                                                                      refine jj_icmp_eq (tgt := 541) (pc' := 539) dL_texts_536 rfl rfl (fun hc hF => ?_) (fun hc hF => ?_) hF
                                                                                                      · skip
                                                                                                        refine jj_iconst (v := (0 : Int32)) (pc' := 542) dL_texts_541 rfl rfl ?_
                                                                                                        refine jj_istore_n (i := 1) (ls' := [(1, .int ((0 : Int32))), (0, .ref o101)]) (pc' := 543) dL_texts_542 rfl (Nat.le_of_ble_eq_true rfl) rfl rfl ?_
                                                                                                        exact jj_pick [1, 0] rfl (BL_texts_543 N N 882 7827 o101 ((0 : Int32)) h204 _ hF)
                                                                                                      · skip
                                                                                                        refine jj_iconst (v := (0 : Int32)) (pc' := 540) dL_texts_539 rfl rfl ?_
                                                                                                        exact jj_retI (ty := .boolean) rfl rfl dL_texts_540 ⟨Nat.le_of_ble_eq_true rfl, Nat.le_of_ble_eq_true rfl⟩ hF
                                      · skip
                                        refine jj_iconst (v := (0 : Int32)) (pc' := 253) dL_texts_252 rfl rfl ?_
                                        exact jj_retI (ty := .boolean) rfl rfl dL_texts_253 ⟨Nat.le_of_ble_eq_true rfl, Nat.le_of_ble_eq_true rfl⟩ hF
                    · skip
                      refine jj_iconst (v := (0 : Int32)) (pc' := 134) dL_texts_133 rfl rfl ?_
                      exact jj_retI (ty := .boolean) rfl rfl dL_texts_134 ⟨Nat.le_of_ble_eq_true rfl, Nat.le_of_ble_eq_true rfl⟩ hF
theorem KL_texts {N : Nat} {h : jm_H} {X : jm_X} (hF : FL_texts N h = some X) : jm_K M_L_texts [] h X := jk_of rfl (by decide +kernel) rfl rfl (Nat.le_of_ble_eq_true rfl) (JL_texts hF)

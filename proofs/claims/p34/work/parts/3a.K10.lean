set_option maxRecDepth 100000 in
set_option maxHeartbeats 4000000 in
theorem BL_law_594 (L : Nat) (xs : Nat → Int32) (N : Nat) : ∀ (n : Nat) (kc : Nat) (ks : Nat) (a1 : Nat) (l4 : Int64) (x6 : Int32) (h : jm_H) (X : jm_X), FL_law_594 L xs N n kc ks a1 l4 x6 h = some X → jm_J (M_L_law L xs) 594 [(1, .ref a1), (4, .long l4), (6, .int x6)] [] h kc ks X := by
  intro n
  induction n with
  | zero =>
    intro kc ks a1 l4 x6 h X hF
    exact nomatch (show (none : Option jm_X) = some X from hF)
  | succ n ih =>
    intro kc ks a1 l4 x6 h X hF
    rw [FL_law_594] at hF
    obtain ⟨hk, hF⟩ := jf_k_inv hF
    refine jj_iload (j := 2) (i := 6) (pc' := 596) dL_law_594 rfl rfl ?_
    refine jj_bipush (v := (6 : Int32)) (pc' := 598) dL_law_596 rfl rfl ?_
    refine jj_icmp_ge (tgt := 625) (pc' := 601) dL_law_598 rfl rfl (fun hc hF => ?_) (fun hc hF => ?_) hF
    · skip
      obtain ⟨hw, hF⟩ := jf_w_inv hF
      refine jj_wide hw.1 hw.2 ?_
      refine jj_aload_n (j := 0) (i := 1) (pc' := 626) dL_law_625 rfl rfl rfl ?_
      refine jj_bipush (v := (12 : Int32)) (pc' := 628) dL_law_626 rfl rfl ?_
      refine jj_iconst (v := (0 : Int32)) (pc' := 629) dL_law_628 rfl rfl ?_
      refine jj_iconst (v := (0 : Int32)) (pc' := 630) dL_law_629 rfl rfl ?_
      refine jj_iconst (v := (0 : Int32)) (pc' := 631) dL_law_630 rfl rfl ?_
      refine jj_lconst (v := (0 : Int64)) (pc' := 632) dL_law_631 rfl rfl ?_
      refine jj_cI (N := M_L_call) (kc' := 93503) (ks' := 571216) (pc' := 635) (jg_H (N := M_L_call) (rest := []) (as := [.ref a1, .int ((12 : Int32)), .int ((0 : Int32)), .int ((0 : Int32)), .int ((0 : Int32)), .long ((0 : Int64))]) cf_L_119 (by decide) dL_law_632 rfl rfl ⟨Nat.le_of_ble_eq_true rfl, Nat.le_of_ble_eq_true rfl⟩ ⟨Nat.le_of_ble_eq_true rfl, Nat.le_of_ble_eq_true rfl⟩ (Nat.le_of_ble_eq_true rfl) (fun X' hX => KL_call hX)) rfl rfl rfl rfl ⟨Nat.le_of_ble_eq_true rfl, Nat.le_of_ble_eq_true rfl⟩ rfl hF (fun x102 h101 hF => ?_)
      refine jj_bipush (v := (-13 : Int32)) (pc' := 637) dL_law_635 rfl rfl ?_
      refine jj_icmp_ne (tgt := 672) (pc' := 640) dL_law_637 rfl rfl (fun hc hF => ?_) (fun hc hF => ?_) hF
      · skip
        refine jj_iconst (v := (0 : Int32)) (pc' := 673) dL_law_672 rfl rfl ?_
        exact jj_retI (ty := .boolean) rfl rfl dL_law_673 ⟨Nat.le_of_ble_eq_true rfl, Nat.le_of_ble_eq_true rfl⟩ hF
      · skip
        refine jj_aload_n (j := 0) (i := 1) (pc' := 641) dL_law_640 rfl rfl rfl ?_
        refine jj_cI (N := M_X3_restore) (kc' := 93504) (ks' := 571222) (pc' := 644) (jg_V (N := M_X3_restore) (ci := 3) (rest := []) (as := []) cf_L_57 dL_law_641 ⟨rfl, rfl⟩ rfl rfl ⟨Nat.le_of_ble_eq_true rfl, Nat.le_of_ble_eq_true rfl⟩ ⟨Nat.le_of_ble_eq_true rfl, Nat.le_of_ble_eq_true rfl⟩ (Nat.le_of_ble_eq_true rfl) (fun X' hX => KX3_restore hX)) rfl rfl rfl rfl ⟨Nat.le_of_ble_eq_true rfl, Nat.le_of_ble_eq_true rfl⟩ rfl hF (fun x104 h103 hF => ?_)
        refine jj_iconst (v := (1 : Int32)) (pc' := 645) dL_law_644 rfl rfl ?_
        refine jj_icmp_ne (tgt := 672) (pc' := 648) dL_law_645 rfl rfl (fun hc hF => ?_) (fun hc hF => ?_) hF
        · skip
          refine jj_iconst (v := (0 : Int32)) (pc' := 673) dL_law_672 rfl rfl ?_
          exact jj_retI (ty := .boolean) rfl rfl dL_law_673 ⟨Nat.le_of_ble_eq_true rfl, Nat.le_of_ble_eq_true rfl⟩ hF
        · skip
          refine jj_aload_n (j := 0) (i := 1) (pc' := 649) dL_law_648 rfl rfl rfl ?_
          refine jj_cL (N := M_L_seen) (kc' := 93995) (ks' := 574168) (pc' := 652) (jg_S (N := M_L_seen) (rest := []) (as := [.ref a1]) cf_L_131 rfl dL_law_649 rfl rfl ⟨Nat.le_of_ble_eq_true rfl, Nat.le_of_ble_eq_true rfl⟩ ⟨Nat.le_of_ble_eq_true rfl, Nat.le_of_ble_eq_true rfl⟩ (Nat.le_of_ble_eq_true rfl) (fun X' hX => KL_seen hX)) rfl rfl rfl rfl ⟨Nat.le_of_ble_eq_true rfl, Nat.le_of_ble_eq_true rfl⟩ rfl hF (fun l106 h105 hF => ?_)
          refine jj_lload (j := 1) (i := 4) (pc' := 654) dL_law_652 rfl rfl ?_
          refine jj_lcmp (pc' := 655) dL_law_654 rfl ?_
          refine jj_if_ne (tgt := 672) (pc' := 658) dL_law_655 rfl rfl (fun hc hF => ?_) (fun hc hF => ?_) hF
          · skip
            refine jj_iconst (v := (0 : Int32)) (pc' := 673) dL_law_672 rfl rfl ?_
            exact jj_retI (ty := .boolean) rfl rfl dL_law_673 ⟨Nat.le_of_ble_eq_true rfl, Nat.le_of_ble_eq_true rfl⟩ hF
          · skip
            refine jj_aload_n (j := 0) (i := 1) (pc' := 659) dL_law_658 rfl rfl rfl ?_
            refine jj_bipush (v := (11 : Int32)) (pc' := 661) dL_law_659 rfl rfl ?_
            refine jj_cI (N := M_X3_count) (kc' := 93996) (ks' := 574174) (pc' := 664) (jg_V (N := M_X3_count) (ci := 3) (rest := []) (as := [.int ((11 : Int32))]) cf_L_81 dL_law_661 ⟨rfl, rfl⟩ rfl rfl ⟨Nat.le_of_ble_eq_true rfl, Nat.le_of_ble_eq_true rfl⟩ ⟨Nat.le_of_ble_eq_true rfl, Nat.le_of_ble_eq_true rfl⟩ (Nat.le_of_ble_eq_true rfl) (fun X' hX => KX3_count hX)) rfl rfl rfl rfl ⟨Nat.le_of_ble_eq_true rfl, Nat.le_of_ble_eq_true rfl⟩ rfl hF (fun x108 h107 hF => ?_)
            refine jj_iconst (v := (1 : Int32)) (pc' := 665) dL_law_664 rfl rfl ?_
            refine jj_icmp_ne (tgt := 672) (pc' := 668) dL_law_665 rfl rfl (fun hc hF => ?_) (fun hc hF => ?_) hF
            · skip
              refine jj_iconst (v := (0 : Int32)) (pc' := 673) dL_law_672 rfl rfl ?_
              exact jj_retI (ty := .boolean) rfl rfl dL_law_673 ⟨Nat.le_of_ble_eq_true rfl, Nat.le_of_ble_eq_true rfl⟩ hF
            · skip
              refine jj_iconst (v := (1 : Int32)) (pc' := 669) dL_law_668 rfl rfl ?_
              refine jj_goto (tgt := 673) dL_law_669 rfl ?_
              exact jj_retI (ty := .boolean) rfl rfl dL_law_673 ⟨Nat.le_of_ble_eq_true rfl, Nat.le_of_ble_eq_true rfl⟩ hF
    · skip
      refine jj_aload_n (j := 0) (i := 1) (pc' := 602) dL_law_601 rfl rfl rfl ?_
      refine jj_bipush (v := (11 : Int32)) (pc' := 604) dL_law_602 rfl rfl ?_
      obtain ⟨hk, hF⟩ := jf_k_inv hF
      refine jj_cI (N := M_X3_count) (kc' := (kc + 1)) (ks' := (ks + 6)) (pc' := 607) (jg_V (N := M_X3_count) (ci := 3) (rest := []) (as := [.int ((11 : Int32))]) cf_L_81 dL_law_604 ⟨rfl, rfl⟩ rfl rfl ⟨Nat.le_of_ble_eq_true rfl, Nat.le_of_ble_eq_true rfl⟩ ⟨hk.1, hk.2⟩ (Nat.le_of_ble_eq_true rfl) (fun X' hX => KX3_count hX)) rfl rfl rfl rfl ⟨hk.1, hk.2⟩ rfl hF (fun x110 h109 hF => ?_)
      refine jj_if_le (tgt := 625) (pc' := 610) dL_law_607 rfl rfl (fun hc hF => ?_) (fun hc hF => ?_) hF
      · skip
        obtain ⟨hw, hF⟩ := jf_w_inv hF
        refine jj_wide hw.1 hw.2 ?_
        refine jj_aload_n (j := 0) (i := 1) (pc' := 626) dL_law_625 rfl rfl rfl ?_
        refine jj_bipush (v := (12 : Int32)) (pc' := 628) dL_law_626 rfl rfl ?_
        refine jj_iconst (v := (0 : Int32)) (pc' := 629) dL_law_628 rfl rfl ?_
        refine jj_iconst (v := (0 : Int32)) (pc' := 630) dL_law_629 rfl rfl ?_
        refine jj_iconst (v := (0 : Int32)) (pc' := 631) dL_law_630 rfl rfl ?_
        refine jj_lconst (v := (0 : Int64)) (pc' := 632) dL_law_631 rfl rfl ?_
        refine jj_cI (N := M_L_call) (kc' := 93503) (ks' := 571216) (pc' := 635) (jg_H (N := M_L_call) (rest := []) (as := [.ref a1, .int ((12 : Int32)), .int ((0 : Int32)), .int ((0 : Int32)), .int ((0 : Int32)), .long ((0 : Int64))]) cf_L_119 (by decide) dL_law_632 rfl rfl ⟨Nat.le_of_ble_eq_true rfl, Nat.le_of_ble_eq_true rfl⟩ ⟨Nat.le_of_ble_eq_true rfl, Nat.le_of_ble_eq_true rfl⟩ (Nat.le_of_ble_eq_true rfl) (fun X' hX => KL_call hX)) rfl rfl rfl rfl ⟨Nat.le_of_ble_eq_true rfl, Nat.le_of_ble_eq_true rfl⟩ rfl hF (fun x112 h111 hF => ?_)
        refine jj_bipush (v := (-13 : Int32)) (pc' := 637) dL_law_635 rfl rfl ?_
        refine jj_icmp_ne (tgt := 672) (pc' := 640) dL_law_637 rfl rfl (fun hc hF => ?_) (fun hc hF => ?_) hF
        · skip
          refine jj_iconst (v := (0 : Int32)) (pc' := 673) dL_law_672 rfl rfl ?_
          exact jj_retI (ty := .boolean) rfl rfl dL_law_673 ⟨Nat.le_of_ble_eq_true rfl, Nat.le_of_ble_eq_true rfl⟩ hF
        · skip
          refine jj_aload_n (j := 0) (i := 1) (pc' := 641) dL_law_640 rfl rfl rfl ?_
          refine jj_cI (N := M_X3_restore) (kc' := 93504) (ks' := 571222) (pc' := 644) (jg_V (N := M_X3_restore) (ci := 3) (rest := []) (as := []) cf_L_57 dL_law_641 ⟨rfl, rfl⟩ rfl rfl ⟨Nat.le_of_ble_eq_true rfl, Nat.le_of_ble_eq_true rfl⟩ ⟨Nat.le_of_ble_eq_true rfl, Nat.le_of_ble_eq_true rfl⟩ (Nat.le_of_ble_eq_true rfl) (fun X' hX => KX3_restore hX)) rfl rfl rfl rfl ⟨Nat.le_of_ble_eq_true rfl, Nat.le_of_ble_eq_true rfl⟩ rfl hF (fun x114 h113 hF => ?_)
          refine jj_iconst (v := (1 : Int32)) (pc' := 645) dL_law_644 rfl rfl ?_
          refine jj_icmp_ne (tgt := 672) (pc' := 648) dL_law_645 rfl rfl (fun hc hF => ?_) (fun hc hF => ?_) hF
          · skip
            refine jj_iconst (v := (0 : Int32)) (pc' := 673) dL_law_672 rfl rfl ?_
            exact jj_retI (ty := .boolean) rfl rfl dL_law_673 ⟨Nat.le_of_ble_eq_true rfl, Nat.le_of_ble_eq_true rfl⟩ hF
          · skip
            refine jj_aload_n (j := 0) (i := 1) (pc' := 649) dL_law_648 rfl rfl rfl ?_
            refine jj_cL (N := M_L_seen) (kc' := 93995) (ks' := 574168) (pc' := 652) (jg_S (N := M_L_seen) (rest := []) (as := [.ref a1]) cf_L_131 rfl dL_law_649 rfl rfl ⟨Nat.le_of_ble_eq_true rfl, Nat.le_of_ble_eq_true rfl⟩ ⟨Nat.le_of_ble_eq_true rfl, Nat.le_of_ble_eq_true rfl⟩ (Nat.le_of_ble_eq_true rfl) (fun X' hX => KL_seen hX)) rfl rfl rfl rfl ⟨Nat.le_of_ble_eq_true rfl, Nat.le_of_ble_eq_true rfl⟩ rfl hF (fun l116 h115 hF => ?_)
            refine jj_lload (j := 1) (i := 4) (pc' := 654) dL_law_652 rfl rfl ?_
            refine jj_lcmp (pc' := 655) dL_law_654 rfl ?_
            refine jj_if_ne (tgt := 672) (pc' := 658) dL_law_655 rfl rfl (fun hc hF => ?_) (fun hc hF => ?_) hF
            · skip
              refine jj_iconst (v := (0 : Int32)) (pc' := 673) dL_law_672 rfl rfl ?_
              exact jj_retI (ty := .boolean) rfl rfl dL_law_673 ⟨Nat.le_of_ble_eq_true rfl, Nat.le_of_ble_eq_true rfl⟩ hF
            · skip
              refine jj_aload_n (j := 0) (i := 1) (pc' := 659) dL_law_658 rfl rfl rfl ?_
              refine jj_bipush (v := (11 : Int32)) (pc' := 661) dL_law_659 rfl rfl ?_
              refine jj_cI (N := M_X3_count) (kc' := 93996) (ks' := 574174) (pc' := 664) (jg_V (N := M_X3_count) (ci := 3) (rest := []) (as := [.int ((11 : Int32))]) cf_L_81 dL_law_661 ⟨rfl, rfl⟩ rfl rfl ⟨Nat.le_of_ble_eq_true rfl, Nat.le_of_ble_eq_true rfl⟩ ⟨Nat.le_of_ble_eq_true rfl, Nat.le_of_ble_eq_true rfl⟩ (Nat.le_of_ble_eq_true rfl) (fun X' hX => KX3_count hX)) rfl rfl rfl rfl ⟨Nat.le_of_ble_eq_true rfl, Nat.le_of_ble_eq_true rfl⟩ rfl hF (fun x118 h117 hF => ?_)
              refine jj_iconst (v := (1 : Int32)) (pc' := 665) dL_law_664 rfl rfl ?_
              refine jj_icmp_ne (tgt := 672) (pc' := 668) dL_law_665 rfl rfl (fun hc hF => ?_) (fun hc hF => ?_) hF
              · skip
                refine jj_iconst (v := (0 : Int32)) (pc' := 673) dL_law_672 rfl rfl ?_
                exact jj_retI (ty := .boolean) rfl rfl dL_law_673 ⟨Nat.le_of_ble_eq_true rfl, Nat.le_of_ble_eq_true rfl⟩ hF
              · skip
                refine jj_iconst (v := (1 : Int32)) (pc' := 669) dL_law_668 rfl rfl ?_
                refine jj_goto (tgt := 673) dL_law_669 rfl ?_
                exact jj_retI (ty := .boolean) rfl rfl dL_law_673 ⟨Nat.le_of_ble_eq_true rfl, Nat.le_of_ble_eq_true rfl⟩ hF
      · skip
        refine jj_aload_n (j := 0) (i := 1) (pc' := 611) dL_law_610 rfl rfl rfl ?_
        obtain ⟨hk, hF⟩ := jf_k_inv hF
        refine jj_cI (N := M_X3_undo) (kc' := (kc + 2)) (ks' := (ks + 12)) (pc' := 614) (jg_V (N := M_X3_undo) (ci := 3) (rest := []) (as := []) cf_L_54 dL_law_611 ⟨rfl, rfl⟩ rfl rfl ⟨Nat.le_of_ble_eq_true rfl, Nat.le_of_ble_eq_true rfl⟩ ⟨hk.1, hk.2⟩ (Nat.le_of_ble_eq_true rfl) (fun X' hX => KX3_undo hX)) rfl rfl rfl rfl ⟨hk.1, hk.2⟩ rfl hF (fun x120 h119 hF => ?_)
        refine jj_if_ge (tgt := 619) (pc' := 617) dL_law_614 rfl rfl (fun hc hF => ?_) (fun hc hF => ?_) hF
        · skip
          refine jj_iinc (i := 6) (j := 2) (v := x6 + (1 : Int32)) (ls' := [(6, .int (x6 + (1 : Int32))), (1, .ref a1), (4, .long l4)]) (pc' := 622) dL_law_619 rfl rfl (Nat.le_of_ble_eq_true rfl) rfl rfl ?_
          refine jj_goto (tgt := 594) dL_law_622 rfl ?_
          exact jj_pick [1, 2, 0] rfl (ih (kc + 2) (ks + 12) a1 l4 (x6 + (1 : Int32)) h119 _ hF)
        · skip
          refine jj_iconst (v := (0 : Int32)) (pc' := 618) dL_law_617 rfl rfl ?_
          obtain ⟨hw, hF⟩ := jf_w_inv hF
          refine jj_wide hw.1 hw.2 ?_
          exact jj_retI (ty := .boolean) rfl rfl dL_law_618 ⟨Nat.le_of_ble_eq_true rfl, Nat.le_of_ble_eq_true rfl⟩ hF
set_option maxRecDepth 100000 in
set_option maxHeartbeats 4000000 in
theorem BL_law_529 (L : Nat) (xs : Nat → Int32) (N : Nat) : ∀ (n : Nat) (kc : Nat) (ks : Nat) (a1 : Nat) (a2 : Nat) (x3 : Int32) (l4 : Int64) (x6 : Int32) (h : jm_H) (X : jm_X), FL_law_529 L xs N n kc ks a1 a2 x3 l4 x6 h = some X → jm_J (M_L_law L xs) 529 [(1, .ref a1), (2, .ref a2), (3, .int x3), (4, .long l4), (6, .int x6)] [] h kc ks X := by
  intro n
  induction n with
  | zero =>
    intro kc ks a1 a2 x3 l4 x6 h X hF
    exact nomatch (show (none : Option jm_X) = some X from hF)
  | succ n ih =>
    intro kc ks a1 a2 x3 l4 x6 h X hF
    rw [FL_law_529] at hF
    obtain ⟨hk, hF⟩ := jf_k_inv hF
    refine jj_aload_n (j := 0) (i := 1) (pc' := 530) dL_law_529 rfl rfl rfl ?_
    refine jj_bipush (v := (11 : Int32)) (pc' := 532) dL_law_530 rfl rfl ?_
    obtain ⟨hk, hF⟩ := jf_k_inv hF
    refine jj_cI (N := M_X3_count) (kc' := (kc + 1)) (ks' := (ks + 6)) (pc' := 535) (jg_V (N := M_X3_count) (ci := 3) (rest := []) (as := [.int ((11 : Int32))]) cf_L_81 dL_law_532 ⟨rfl, rfl⟩ rfl rfl ⟨Nat.le_of_ble_eq_true rfl, Nat.le_of_ble_eq_true rfl⟩ ⟨hk.1, hk.2⟩ (Nat.le_of_ble_eq_true rfl) (fun X' hX => KX3_count hX)) rfl rfl rfl rfl ⟨hk.1, hk.2⟩ rfl hF (fun x102 h101 hF => ?_)
    refine jj_if_le (tgt := 591) (pc' := 538) dL_law_535 rfl rfl (fun hc hF => ?_) (fun hc hF => ?_) hF
    · skip
      obtain ⟨hw, hF⟩ := jf_w_inv hF
      refine jj_wide hw.1 hw.2 ?_
      refine jj_iconst (v := (0 : Int32)) (pc' := 592) dL_law_591 rfl rfl ?_
      refine jj_istore (i := 6) (ls' := [(6, .int ((0 : Int32))), (1, .ref a1), (2, .ref a2), (3, .int x3), (4, .long l4)]) (pc' := 594) dL_law_592 (Nat.le_of_ble_eq_true rfl) rfl rfl ?_
      exact jj_pick [1, 4, 0] rfl (BL_law_594 L xs N N 93428 570766 a1 l4 ((0 : Int32)) h101 _ hF)
    · skip
      refine jj_iload (j := 4) (i := 6) (pc' := 540) dL_law_538 rfl rfl ?_
      refine jj_iload_n (j := 2) (i := 3) (pc' := 541) dL_law_540 rfl rfl rfl ?_
      refine jj_icmp_ge (tgt := 591) (pc' := 544) dL_law_541 rfl rfl (fun hc hF => ?_) (fun hc hF => ?_) hF
      · skip
        obtain ⟨hw, hF⟩ := jf_w_inv hF
        refine jj_wide hw.1 hw.2 ?_
        refine jj_iconst (v := (0 : Int32)) (pc' := 592) dL_law_591 rfl rfl ?_
        refine jj_istore (i := 6) (ls' := [(6, .int ((0 : Int32))), (1, .ref a1), (2, .ref a2), (3, .int x3), (4, .long l4)]) (pc' := 594) dL_law_592 (Nat.le_of_ble_eq_true rfl) rfl rfl ?_
        exact jj_pick [1, 4, 0] rfl (BL_law_594 L xs N N 93428 570766 a1 l4 ((0 : Int32)) h101 _ hF)
      · skip
        refine jj_aload_n (j := 0) (i := 1) (pc' := 545) dL_law_544 rfl rfl rfl ?_
        refine jj_bipush (v := (11 : Int32)) (pc' := 547) dL_law_545 rfl rfl ?_
        obtain ⟨hk, hF⟩ := jf_k_inv hF
        refine jj_cI (N := M_X3_count) (kc' := (kc + 2)) (ks' := (ks + 12)) (pc' := 550) (jg_V (N := M_X3_count) (ci := 3) (rest := []) (as := [.int ((11 : Int32))]) cf_L_81 dL_law_547 ⟨rfl, rfl⟩ rfl rfl ⟨Nat.le_of_ble_eq_true rfl, Nat.le_of_ble_eq_true rfl⟩ ⟨hk.1, hk.2⟩ (Nat.le_of_ble_eq_true rfl) (fun X' hX => KX3_count hX)) rfl rfl rfl rfl ⟨hk.1, hk.2⟩ rfl hF (fun x104 h103 hF => ?_)
        refine jj_istore (i := 7) (ls' := [(7, .int x104), (1, .ref a1), (2, .ref a2), (3, .int x3), (4, .long l4), (6, .int x6)]) (pc' := 552) dL_law_550 (Nat.le_of_ble_eq_true rfl) rfl rfl ?_
        refine jj_iload (j := 5) (i := 6) (pc' := 554) dL_law_552 rfl rfl ?_
        refine jj_iconst (v := (5 : Int32)) (pc' := 555) dL_law_554 rfl rfl ?_
        refine jj_icmp_gt (tgt := 583) (pc' := 558) dL_law_555 rfl rfl (fun hc hF => ?_) (fun hc hF => ?_) hF
        · skip
          refine jj_iconst (v := (0 : Int32)) (pc' := 584) dL_law_583 rfl rfl ?_
          obtain ⟨hw, hF⟩ := jf_w_inv hF
          refine jj_wide hw.1 hw.2 ?_
          exact jj_retI (ty := .boolean) rfl rfl dL_law_584 ⟨Nat.le_of_ble_eq_true rfl, Nat.le_of_ble_eq_true rfl⟩ hF
        · skip
          refine jj_aload_n (j := 1) (i := 1) (pc' := 559) dL_law_558 rfl rfl rfl ?_
          obtain ⟨hk, hF⟩ := jf_k_inv hF
          refine jj_cL (N := M_L_seen) (kc' := (kc + 493)) (ks' := (ks + 2958)) (pc' := 562) (jg_S (N := M_L_seen) (rest := []) (as := [.ref a1]) cf_L_131 rfl dL_law_559 rfl rfl ⟨Nat.le_of_ble_eq_true rfl, Nat.le_of_ble_eq_true rfl⟩ ⟨hk.1, hk.2⟩ (Nat.le_of_ble_eq_true rfl) (fun X' hX => KL_seen hX)) rfl rfl rfl rfl ⟨hk.1, hk.2⟩ rfl hF (fun l106 h105 hF => ?_)
          refine jj_aload_n (j := 2) (i := 2) (pc' := 563) dL_law_562 rfl rfl rfl ?_
          refine jj_iload_n (j := 3) (i := 3) (pc' := 564) dL_law_563 rfl rfl rfl ?_
          refine jj_iload (j := 5) (i := 6) (pc' := 566) dL_law_564 rfl rfl ?_
          refine jj_isub (pc' := 567) dL_law_566 rfl ?_
          refine jj_ldL (pc' := 568) dL_law_567 rfl hF (fun l107 hF => ?_)
          refine jj_lcmp (pc' := 569) dL_law_568 rfl ?_
          refine jj_if_ne (tgt := 583) (pc' := 572) dL_law_569 rfl rfl (fun hc hF => ?_) (fun hc hF => ?_) hF
          · skip
            refine jj_iconst (v := (0 : Int32)) (pc' := 584) dL_law_583 rfl rfl ?_
            obtain ⟨hw, hF⟩ := jf_w_inv hF
            refine jj_wide hw.1 hw.2 ?_
            exact jj_retI (ty := .boolean) rfl rfl dL_law_584 ⟨Nat.le_of_ble_eq_true rfl, Nat.le_of_ble_eq_true rfl⟩ hF
          · skip
            refine jj_aload_n (j := 1) (i := 1) (pc' := 573) dL_law_572 rfl rfl rfl ?_
            obtain ⟨hk, hF⟩ := jf_k_inv hF
            refine jj_cI (N := M_X3_undo) (kc' := (kc + 494)) (ks' := (ks + 2964)) (pc' := 576) (jg_V (N := M_X3_undo) (ci := 3) (rest := []) (as := []) cf_L_54 dL_law_573 ⟨rfl, rfl⟩ rfl rfl ⟨Nat.le_of_ble_eq_true rfl, Nat.le_of_ble_eq_true rfl⟩ ⟨hk.1, hk.2⟩ (Nat.le_of_ble_eq_true rfl) (fun X' hX => KX3_undo hX)) rfl rfl rfl rfl ⟨hk.1, hk.2⟩ rfl hF (fun x109 h108 hF => ?_)
            refine jj_iload (j := 0) (i := 7) (pc' := 578) dL_law_576 rfl rfl ?_
            refine jj_iconst (v := (1 : Int32)) (pc' := 579) dL_law_578 rfl rfl ?_
            refine jj_isub (pc' := 580) dL_law_579 rfl ?_
            refine jj_icmp_eq (tgt := 585) (pc' := 583) dL_law_580 rfl rfl (fun hc hF => ?_) (fun hc hF => ?_) hF
            · skip
              refine jj_iinc (i := 6) (j := 5) (v := x6 + (1 : Int32)) (ls' := [(6, .int (x6 + (1 : Int32))), (7, .int x104), (1, .ref a1), (2, .ref a2), (3, .int x3), (4, .long l4)]) (pc' := 588) dL_law_585 rfl rfl (Nat.le_of_ble_eq_true rfl) rfl rfl ?_
              refine jj_goto (tgt := 529) dL_law_588 rfl ?_
              exact jj_pick [2, 3, 4, 5, 0] rfl (ih (kc + 494) (ks + 2964) a1 a2 x3 l4 (x6 + (1 : Int32)) h108 _ hF)
            · skip
              refine jj_iconst (v := (0 : Int32)) (pc' := 584) dL_law_583 rfl rfl ?_
              obtain ⟨hw, hF⟩ := jf_w_inv hF
              refine jj_wide hw.1 hw.2 ?_
              exact jj_retI (ty := .boolean) rfl rfl dL_law_584 ⟨Nat.le_of_ble_eq_true rfl, Nat.le_of_ble_eq_true rfl⟩ hF
set_option maxRecDepth 100000 in
set_option maxHeartbeats 4000000 in
theorem BL_law_98 (L : Nat) (xs : Nat → Int32) (N : Nat) : ∀ (n : Nat) (kc : Nat) (ks : Nat) (a1 : Nat) (a2 : Nat) (x3 : Int32) (l4 : Int64) (x6 : Int32) (h : jm_H) (X : jm_X), FL_law_98 L xs N n kc ks a1 a2 x3 l4 x6 h = some X → jm_J (M_L_law L xs) 98 [(0, .ref 1000000), (1, .ref a1), (2, .ref a2), (3, .int x3), (4, .long l4), (6, .int x6)] [] h kc ks X := by
  intro n
  induction n with
  | zero =>
    intro kc ks a1 a2 x3 l4 x6 h X hF
    exact nomatch (show (none : Option jm_X) = some X from hF)
  | succ n ih =>
    intro kc ks a1 a2 x3 l4 x6 h X hF
    rw [FL_law_98] at hF
    obtain ⟨hk, hF⟩ := jf_k_inv hF
    refine jj_iload (j := 5) (i := 6) (pc' := 100) dL_law_98 rfl rfl ?_
    refine jj_bipush (v := (28 : Int32)) (pc' := 102) dL_law_100 rfl rfl ?_
    refine jj_icmp_ge (tgt := 510) (pc' := 105) dL_law_102 rfl rfl (fun hc hF => ?_) (fun hc hF => ?_) hF
    · skip
      obtain ⟨hw, hF⟩ := jf_w_inv hF
      refine jj_wide hw.1 hw.2 ?_
      refine jj_aload_n (j := 2) (i := 2) (pc' := 511) dL_law_510 rfl rfl rfl ?_
      refine jj_iload_n (j := 3) (i := 3) (pc' := 512) dL_law_511 rfl rfl rfl ?_
      refine jj_aload_n (j := 1) (i := 1) (pc' := 513) dL_law_512 rfl rfl rfl ?_
      refine jj_cL (N := M_L_seen) (kc' := 76022) (ks' := 466330) (pc' := 516) (jg_S (N := M_L_seen) (rest := [.int x3, .ref a2]) (as := [.ref a1]) cf_L_131 rfl dL_law_513 rfl rfl ⟨Nat.le_of_ble_eq_true rfl, Nat.le_of_ble_eq_true rfl⟩ ⟨Nat.le_of_ble_eq_true rfl, Nat.le_of_ble_eq_true rfl⟩ (Nat.le_of_ble_eq_true rfl) (fun X' hX => KL_seen hX)) rfl rfl rfl rfl ⟨Nat.le_of_ble_eq_true rfl, Nat.le_of_ble_eq_true rfl⟩ rfl hF (fun l102 h101 hF => ?_)
      refine jj_stL (pc' := 517) dL_law_516 rfl hF (fun h103 hF => ?_)
      refine jj_aload_n (j := 1) (i := 1) (pc' := 518) dL_law_517 rfl rfl rfl ?_
      refine jj_cI (N := M_L_refused) (kc' := 89970) (ks' := 550018) (pc' := 521) (jg_S (N := M_L_refused) (rest := []) (as := [.ref a1]) cf_L_143 rfl dL_law_518 rfl rfl ⟨Nat.le_of_ble_eq_true rfl, Nat.le_of_ble_eq_true rfl⟩ ⟨Nat.le_of_ble_eq_true rfl, Nat.le_of_ble_eq_true rfl⟩ (Nat.le_of_ble_eq_true rfl) (fun X' hX => KL_refused hX)) rfl rfl rfl rfl ⟨Nat.le_of_ble_eq_true rfl, Nat.le_of_ble_eq_true rfl⟩ rfl hF (fun x105 h104 hF => ?_)
      refine jj_if_ne (tgt := 526) (pc' := 524) dL_law_521 rfl rfl (fun hc hF => ?_) (fun hc hF => ?_) hF
      · skip
        refine jj_iconst (v := (0 : Int32)) (pc' := 527) dL_law_526 rfl rfl ?_
        refine jj_istore (i := 6) (ls' := [(6, .int ((0 : Int32))), (0, .ref 1000000), (1, .ref a1), (2, .ref a2), (3, .int x3), (4, .long l4)]) (pc' := 529) dL_law_527 (Nat.le_of_ble_eq_true rfl) rfl rfl ?_
        exact jj_pick [2, 3, 4, 5, 0] rfl (BL_law_529 L xs N N 89970 550018 a1 a2 x3 l4 ((0 : Int32)) h104 _ hF)
      · skip
        refine jj_iconst (v := (0 : Int32)) (pc' := 525) dL_law_524 rfl rfl ?_
        exact jj_retI (ty := .boolean) rfl rfl dL_law_525 ⟨Nat.le_of_ble_eq_true rfl, Nat.le_of_ble_eq_true rfl⟩ hF
    · skip
      refine jj_aload_n (j := 0) (i := 0) (pc' := 106) dL_law_105 rfl rfl rfl ?_
      refine jj_iload (j := 5) (i := 6) (pc' := 108) dL_law_106 rfl rfl ?_
      refine jj_cI (N := M_L_drawn L xs) (kc' := kc) (ks' := ks) (pc' := 111) (jg_SS (N := M_L_drawn L xs) (rest := []) (as := [.ref 1000000, .int x6]) cf_L_234 rfl rfl dL_law_108 rfl rfl ⟨Nat.le_of_ble_eq_true rfl, Nat.le_of_ble_eq_true rfl⟩ ⟨hk.1, hk.2⟩ (Nat.le_of_ble_eq_true rfl) (fun X' hX => KL_drawn hX)) rfl rfl rfl rfl ⟨hk.1, hk.2⟩ rfl hF (fun x107 h106 hF => ?_)
      refine jj_istore (i := 7) (ls' := [(7, .int x107), (0, .ref 1000000), (1, .ref a1), (2, .ref a2), (3, .int x3), (4, .long l4), (6, .int x6)]) (pc' := 113) dL_law_111 (Nat.le_of_ble_eq_true rfl) rfl rfl ?_
      refine jj_iload (j := 0) (i := 7) (pc' := 115) dL_law_113 rfl rfl ?_
      refine jj_bipush (v := (18 : Int32)) (pc' := 117) dL_law_115 rfl rfl ?_
      refine jj_cI (N := M_L_part) (kc' := kc) (ks' := ks) (pc' := 120) (jg_S (N := M_L_part) (rest := []) (as := [.int x107, .int ((18 : Int32))]) cf_L_238 rfl dL_law_117 rfl rfl ⟨Nat.le_of_ble_eq_true rfl, Nat.le_of_ble_eq_true rfl⟩ ⟨hk.1, hk.2⟩ (Nat.le_of_ble_eq_true rfl) (fun X' hX => KL_part hX)) rfl rfl rfl rfl ⟨hk.1, hk.2⟩ rfl hF (fun x109 h108 hF => ?_)
      refine jj_istore (i := 8) (ls' := [(8, .int x109), (7, .int x107), (0, .ref 1000000), (1, .ref a1), (2, .ref a2), (3, .int x3), (4, .long l4), (6, .int x6)]) (pc' := 122) dL_law_120 (Nat.le_of_ble_eq_true rfl) rfl rfl ?_
      refine jj_aload_n (j := 4) (i := 2) (pc' := 123) dL_law_122 rfl rfl rfl ?_
      refine jj_iload_n (j := 5) (i := 3) (pc' := 124) dL_law_123 rfl rfl rfl ?_
      refine jj_aload_n (j := 3) (i := 1) (pc' := 125) dL_law_124 rfl rfl rfl ?_
      obtain ⟨hk, hF⟩ := jf_k_inv hF
      refine jj_cL (N := M_L_seen) (kc' := (kc + 491)) (ks' := (ks + 2946)) (pc' := 128) (jg_S (N := M_L_seen) (rest := [.int x3, .ref a2]) (as := [.ref a1]) cf_L_131 rfl dL_law_125 rfl rfl ⟨Nat.le_of_ble_eq_true rfl, Nat.le_of_ble_eq_true rfl⟩ ⟨hk.1, hk.2⟩ (Nat.le_of_ble_eq_true rfl) (fun X' hX => KL_seen hX)) rfl rfl rfl rfl ⟨hk.1, hk.2⟩ rfl hF (fun l111 h110 hF => ?_)
      refine jj_stL (pc' := 129) dL_law_128 rfl hF (fun h112 hF => ?_)
      refine jj_aload_n (j := 3) (i := 1) (pc' := 130) dL_law_129 rfl rfl rfl ?_
      refine jj_bipush (v := (11 : Int32)) (pc' := 132) dL_law_130 rfl rfl ?_
      obtain ⟨hk, hF⟩ := jf_k_inv hF
      refine jj_cI (N := M_X3_count) (kc' := (kc + 492)) (ks' := (ks + 2952)) (pc' := 135) (jg_V (N := M_X3_count) (ci := 3) (rest := []) (as := [.int ((11 : Int32))]) cf_L_81 dL_law_132 ⟨rfl, rfl⟩ rfl rfl ⟨Nat.le_of_ble_eq_true rfl, Nat.le_of_ble_eq_true rfl⟩ ⟨hk.1, hk.2⟩ (Nat.le_of_ble_eq_true rfl) (fun X' hX => KX3_count hX)) rfl rfl rfl rfl ⟨hk.1, hk.2⟩ rfl hF (fun x114 h113 hF => ?_)
      refine jj_istore (i := 9) (ls' := [(9, .int x114), (8, .int x109), (7, .int x107), (0, .ref 1000000), (1, .ref a1), (2, .ref a2), (3, .int x3), (4, .long l4), (6, .int x6)]) (pc' := 137) dL_law_135 (Nat.le_of_ble_eq_true rfl) rfl rfl ?_
      refine jj_iload (j := 2) (i := 7) (pc' := 139) dL_law_137 rfl rfl ?_
      refine jj_iconst (v := (5 : Int32)) (pc' := 140) dL_law_139 rfl rfl ?_
      refine jj_ishr (pc' := 141) dL_law_140 rfl ?_
      refine jj_iconst (v := (4 : Int32)) (pc' := 142) dL_law_141 rfl rfl ?_
      refine jj_cI (N := M_L_part) (kc' := (kc + 492)) (ks' := (ks + 2952)) (pc' := 145) (jg_S (N := M_L_part) (rest := []) (as := [.int (x107 >>> (((5 : Int32)) &&& 31)), .int ((4 : Int32))]) cf_L_238 rfl dL_law_142 rfl rfl ⟨Nat.le_of_ble_eq_true rfl, Nat.le_of_ble_eq_true rfl⟩ ⟨hk.1, hk.2⟩ (Nat.le_of_ble_eq_true rfl) (fun X' hX => KL_part hX)) rfl rfl rfl rfl ⟨hk.1, hk.2⟩ rfl hF (fun x116 h115 hF => ?_)
      refine jj_istore (i := 10) (ls' := [(10, .int x116), (9, .int x114), (8, .int x109), (7, .int x107), (0, .ref 1000000), (1, .ref a1), (2, .ref a2), (3, .int x3), (4, .long l4), (6, .int x6)]) (pc' := 147) dL_law_145 (Nat.le_of_ble_eq_true rfl) rfl rfl ?_
      refine jj_iload (j := 3) (i := 7) (pc' := 149) dL_law_147 rfl rfl ?_
      refine jj_bipush (v := (7 : Int32)) (pc' := 151) dL_law_149 rfl rfl ?_
      refine jj_ishr (pc' := 152) dL_law_151 rfl ?_
      refine jj_iconst (v := (4 : Int32)) (pc' := 153) dL_law_152 rfl rfl ?_
      refine jj_cI (N := M_L_part) (kc' := (kc + 492)) (ks' := (ks + 2952)) (pc' := 156) (jg_S (N := M_L_part) (rest := []) (as := [.int (x107 >>> (((7 : Int32)) &&& 31)), .int ((4 : Int32))]) cf_L_238 rfl dL_law_153 rfl rfl ⟨Nat.le_of_ble_eq_true rfl, Nat.le_of_ble_eq_true rfl⟩ ⟨hk.1, hk.2⟩ (Nat.le_of_ble_eq_true rfl) (fun X' hX => KL_part hX)) rfl rfl rfl rfl ⟨hk.1, hk.2⟩ rfl hF (fun x118 h117 hF => ?_)
      refine jj_istore (i := 11) (ls' := [(11, .int x118), (10, .int x116), (9, .int x114), (8, .int x109), (7, .int x107), (0, .ref 1000000), (1, .ref a1), (2, .ref a2), (3, .int x3), (4, .long l4), (6, .int x6)]) (pc' := 158) dL_law_156 (Nat.le_of_ble_eq_true rfl) rfl rfl ?_
      refine jj_iload (j := 4) (i := 7) (pc' := 160) dL_law_158 rfl rfl ?_
      refine jj_bipush (v := (9 : Int32)) (pc' := 162) dL_law_160 rfl rfl ?_
      refine jj_ishr (pc' := 163) dL_law_162 rfl ?_
      refine jj_sipush (v := (900 : Int32)) (pc' := 166) dL_law_163 rfl rfl ?_
      refine jj_cI (N := M_L_part) (kc' := (kc + 492)) (ks' := (ks + 2952)) (pc' := 169) (jg_S (N := M_L_part) (rest := []) (as := [.int (x107 >>> (((9 : Int32)) &&& 31)), .int ((900 : Int32))]) cf_L_238 rfl dL_law_166 rfl rfl ⟨Nat.le_of_ble_eq_true rfl, Nat.le_of_ble_eq_true rfl⟩ ⟨hk.1, hk.2⟩ (Nat.le_of_ble_eq_true rfl) (fun X' hX => KL_part hX)) rfl rfl rfl rfl ⟨hk.1, hk.2⟩ rfl hF (fun x120 h119 hF => ?_)
      refine jj_bipush (v := (10 : Int32)) (pc' := 171) dL_law_169 rfl rfl ?_
      refine jj_isub (pc' := 172) dL_law_171 rfl ?_
      refine jj_istore (i := 12) (ls' := [(12, .int (x120 - ((10 : Int32)))), (11, .int x118), (10, .int x116), (9, .int x114), (8, .int x109), (7, .int x107), (0, .ref 1000000), (1, .ref a1), (2, .ref a2), (3, .int x3), (4, .long l4), (6, .int x6)]) (pc' := 174) dL_law_172 (Nat.le_of_ble_eq_true rfl) rfl rfl ?_
      refine jj_iload (j := 4) (i := 8) (pc' := 176) dL_law_174 rfl rfl ?_
      refine jj_bipush (v := (6 : Int32)) (pc' := 178) dL_law_176 rfl rfl ?_
      refine jj_icmp_ge (tgt := 216) (pc' := 181) dL_law_178 rfl rfl (fun hc hF => ?_) (fun hc hF => ?_) hF
      · skip
        refine jj_iload (j := 4) (i := 8) (pc' := 218) dL_law_216 rfl rfl ?_
        refine jj_bipush (v := (8 : Int32)) (pc' := 220) dL_law_218 rfl rfl ?_
        refine jj_icmp_ge (tgt := 237) (pc' := 223) dL_law_220 rfl rfl (fun hc hF => ?_) (fun hc hF => ?_) hF
        · skip
          refine jj_iload (j := 4) (i := 8) (pc' := 239) dL_law_237 rfl rfl ?_
          refine jj_bipush (v := (8 : Int32)) (pc' := 241) dL_law_239 rfl rfl ?_
          refine jj_icmp_ne (tgt := 257) (pc' := 244) dL_law_241 rfl rfl (fun hc hF => ?_) (fun hc hF => ?_) hF
          · skip
            refine jj_iload (j := 4) (i := 8) (pc' := 259) dL_law_257 rfl rfl ?_
            refine jj_bipush (v := (11 : Int32)) (pc' := 261) dL_law_259 rfl rfl ?_
            refine jj_icmp_ge (tgt := 279) (pc' := 264) dL_law_261 rfl rfl (fun hc hF => ?_) (fun hc hF => ?_) hF
            · skip
              refine jj_iload (j := 4) (i := 8) (pc' := 281) dL_law_279 rfl rfl ?_
              refine jj_bipush (v := (13 : Int32)) (pc' := 283) dL_law_281 rfl rfl ?_
              refine jj_icmp_ge (tgt := 317) (pc' := 286) dL_law_283 rfl rfl (fun hc hF => ?_) (fun hc hF => ?_) hF
              · skip
                refine jj_iload (j := 4) (i := 8) (pc' := 319) dL_law_317 rfl rfl ?_
                refine jj_bipush (v := (13 : Int32)) (pc' := 321) dL_law_319 rfl rfl ?_
                refine jj_icmp_ne (tgt := 347) (pc' := 324) dL_law_321 rfl rfl (fun hc hF => ?_) (fun hc hF => ?_) hF
                · skip
                  refine jj_iload (j := 4) (i := 8) (pc' := 349) dL_law_347 rfl rfl ?_
                  refine jj_bipush (v := (14 : Int32)) (pc' := 351) dL_law_349 rfl rfl ?_
                  refine jj_icmp_ne (tgt := 376) (pc' := 354) dL_law_351 rfl rfl (fun hc hF => ?_) (fun hc hF => ?_) hF
                  · skip
                    refine jj_iload (j := 4) (i := 8) (pc' := 378) dL_law_376 rfl rfl ?_
                    refine jj_bipush (v := (15 : Int32)) (pc' := 380) dL_law_378 rfl rfl ?_
                    refine jj_icmp_ne (tgt := 406) (pc' := 383) dL_law_380 rfl rfl (fun hc hF => ?_) (fun hc hF => ?_) hF
                    · skip
                      refine jj_iload (j := 4) (i := 8) (pc' := 408) dL_law_406 rfl rfl ?_
                      refine jj_bipush (v := (16 : Int32)) (pc' := 410) dL_law_408 rfl rfl ?_
                      refine jj_icmp_ne (tgt := 438) (pc' := 413) dL_law_410 rfl rfl (fun hc hF => ?_) (fun hc hF => ?_) hF
                      · skip
                        refine jj_aload_n (j := 7) (i := 1) (pc' := 439) dL_law_438 rfl rfl rfl ?_
                        refine jj_bipush (v := (13 : Int32)) (pc' := 441) dL_law_439 rfl rfl ?_
                        refine jj_iconst (v := (0 : Int32)) (pc' := 442) dL_law_441 rfl rfl ?_
                        refine jj_iconst (v := (0 : Int32)) (pc' := 443) dL_law_442 rfl rfl ?_
                        refine jj_iconst (v := (0 : Int32)) (pc' := 444) dL_law_443 rfl rfl ?_
                        refine jj_lconst (v := (0 : Int64)) (pc' := 445) dL_law_444 rfl rfl ?_
                        obtain ⟨hk, hF⟩ := jf_k_inv hF
                        refine jj_cI (N := M_L_call) (kc' := (kc + 553)) (ks' := (ks + 3318)) (pc' := 448) (jg_H (N := M_L_call) (rest := []) (as := [.ref a1, .int ((13 : Int32)), .int ((0 : Int32)), .int ((0 : Int32)), .int ((0 : Int32)), .long ((0 : Int64))]) cf_L_119 (by decide) dL_law_445 rfl rfl ⟨Nat.le_of_ble_eq_true rfl, Nat.le_of_ble_eq_true rfl⟩ ⟨hk.1, hk.2⟩ (Nat.le_of_ble_eq_true rfl) (fun X' hX => KL_call hX)) rfl rfl rfl rfl ⟨hk.1, hk.2⟩ rfl hF (fun x122 h121 hF => ?_)
                        refine jj_istore (i := 13) (ls' := [(13, .int x122), (12, .int (x120 - ((10 : Int32)))), (11, .int x118), (10, .int x116), (9, .int x114), (8, .int x109), (7, .int x107), (0, .ref 1000000), (1, .ref a1), (2, .ref a2), (3, .int x3), (4, .long l4), (6, .int x6)]) (pc' := 450) dL_law_448 (Nat.le_of_ble_eq_true rfl) rfl rfl ?_
                        refine jj_iload (j := 0) (i := 13) (pc' := 452) dL_law_450 rfl rfl ?_
                        refine jj_if_ge (tgt := 459) (pc' := 455) dL_law_452 rfl rfl (fun hc hF => ?_) (fun hc hF => ?_) hF
                        · skip
                          refine jj_iconst (v := (0 : Int32)) (pc' := 460) dL_law_459 rfl rfl ?_
                          refine jj_istore (i := 14) (ls' := [(14, .int ((0 : Int32))), (13, .int x122), (12, .int (x120 - ((10 : Int32)))), (11, .int x118), (10, .int x116), (9, .int x114), (8, .int x109), (7, .int x107), (0, .ref 1000000), (1, .ref a1), (2, .ref a2), (3, .int x3), (4, .long l4), (6, .int x6)]) (pc' := 462) dL_law_460 (Nat.le_of_ble_eq_true rfl) rfl rfl ?_
                          refine jj_iload (j := 0) (i := 14) (pc' := 464) dL_law_462 rfl rfl ?_
                          refine jj_if_eq_t (tgt := 491) dL_law_464 rfl (by decide) ?_
                          refine jj_iload_n (j := 11) (i := 3) (pc' := 492) dL_law_491 rfl rfl rfl ?_
                          refine jj_iload (j := 0) (i := 14) (pc' := 494) dL_law_492 rfl rfl ?_
                          refine jj_if_eq_t (tgt := 501) dL_law_494 rfl (by decide) ?_
                          refine jj_iconst (v := (1 : Int32)) (pc' := 502) dL_law_501 rfl rfl ?_
                          refine jj_iadd (pc' := 503) dL_law_502 rfl ?_
                          refine jj_istore_n (i := 3) (ls' := [(3, .int (x3 + ((1 : Int32)))), (14, .int ((0 : Int32))), (13, .int x122), (12, .int (x120 - ((10 : Int32)))), (11, .int x118), (10, .int x116), (9, .int x114), (8, .int x109), (7, .int x107), (0, .ref 1000000), (1, .ref a1), (2, .ref a2), (4, .long l4), (6, .int x6)]) (pc' := 504) dL_law_503 rfl (Nat.le_of_ble_eq_true rfl) rfl rfl ?_
                          refine jj_iinc (i := 6) (j := 13) (v := x6 + (1 : Int32)) (ls' := [(6, .int (x6 + (1 : Int32))), (3, .int (x3 + ((1 : Int32)))), (14, .int ((0 : Int32))), (13, .int x122), (12, .int (x120 - ((10 : Int32)))), (11, .int x118), (10, .int x116), (9, .int x114), (8, .int x109), (7, .int x107), (0, .ref 1000000), (1, .ref a1), (2, .ref a2), (4, .long l4)]) (pc' := 507) dL_law_504 rfl rfl (Nat.le_of_ble_eq_true rfl) rfl rfl ?_
                          refine jj_goto (tgt := 98) dL_law_507 rfl ?_
                          exact jj_pick [10, 11, 12, 1, 13, 0] rfl (ih (kc + 553) (ks + 3318) a1 a2 (x3 + ((1 : Int32))) l4 (x6 + (1 : Int32)) h121 _ hF)
                        · skip
                          refine jj_iconst (v := (1 : Int32)) (pc' := 456) dL_law_455 rfl rfl ?_
                          refine jj_goto (tgt := 460) dL_law_456 rfl ?_
                          refine jj_istore (i := 14) (ls' := [(14, .int ((1 : Int32))), (13, .int x122), (12, .int (x120 - ((10 : Int32)))), (11, .int x118), (10, .int x116), (9, .int x114), (8, .int x109), (7, .int x107), (0, .ref 1000000), (1, .ref a1), (2, .ref a2), (3, .int x3), (4, .long l4), (6, .int x6)]) (pc' := 462) dL_law_460 (Nat.le_of_ble_eq_true rfl) rfl rfl ?_
                          refine jj_iload (j := 0) (i := 14) (pc' := 464) dL_law_462 rfl rfl ?_
                          refine jj_if_eq_f (pc' := 467) dL_law_464 rfl (by decide) 491 rfl ?_
                          refine jj_aload_n (j := 9) (i := 1) (pc' := 468) dL_law_467 rfl rfl rfl ?_
                          refine jj_bipush (v := (11 : Int32)) (pc' := 470) dL_law_468 rfl rfl ?_
                          obtain ⟨hk, hF⟩ := jf_k_inv hF
                          refine jj_cI (N := M_X3_count) (kc' := (kc + 554)) (ks' := (ks + 3324)) (pc' := 473) (jg_V (N := M_X3_count) (ci := 3) (rest := []) (as := [.int ((11 : Int32))]) cf_L_81 dL_law_470 ⟨rfl, rfl⟩ rfl rfl ⟨Nat.le_of_ble_eq_true rfl, Nat.le_of_ble_eq_true rfl⟩ ⟨hk.1, hk.2⟩ (Nat.le_of_ble_eq_true rfl) (fun X' hX => KX3_count hX)) rfl rfl rfl rfl ⟨hk.1, hk.2⟩ rfl hF (fun x124 h123 hF => ?_)
                          refine jj_iload (j := 5) (i := 9) (pc' := 475) dL_law_473 rfl rfl ?_
                          refine jj_icmp_ne (tgt := 489) (pc' := 478) dL_law_475 rfl rfl (fun hc hF => ?_) (fun hc hF => ?_) hF
                          · skip
                            refine jj_iconst (v := (0 : Int32)) (pc' := 490) dL_law_489 rfl rfl ?_
                            obtain ⟨hw, hF⟩ := jf_w_inv hF
                            refine jj_wide hw.1 hw.2 ?_
                            exact jj_retI (ty := .boolean) rfl rfl dL_law_490 ⟨Nat.le_of_ble_eq_true rfl, Nat.le_of_ble_eq_true rfl⟩ hF
                          · skip
                            refine jj_aload_n (j := 9) (i := 1) (pc' := 479) dL_law_478 rfl rfl rfl ?_
                            obtain ⟨hk, hF⟩ := jf_k_inv hF
                            refine jj_cL (N := M_L_seen) (kc' := (kc + 1045)) (ks' := (ks + 6270)) (pc' := 482) (jg_S (N := M_L_seen) (rest := []) (as := [.ref a1]) cf_L_131 rfl dL_law_479 rfl rfl ⟨Nat.le_of_ble_eq_true rfl, Nat.le_of_ble_eq_true rfl⟩ ⟨hk.1, hk.2⟩ (Nat.le_of_ble_eq_true rfl) (fun X' hX => KL_seen hX)) rfl rfl rfl rfl ⟨hk.1, hk.2⟩ rfl hF (fun l126 h125 hF => ?_)
                            refine jj_aload_n (j := 10) (i := 2) (pc' := 483) dL_law_482 rfl rfl rfl ?_
                            refine jj_iload_n (j := 11) (i := 3) (pc' := 484) dL_law_483 rfl rfl rfl ?_
                            refine jj_ldL (pc' := 485) dL_law_484 rfl hF (fun l127 hF => ?_)
                            refine jj_lcmp (pc' := 486) dL_law_485 rfl ?_
                            refine jj_if_eq (tgt := 491) (pc' := 489) dL_law_486 rfl rfl (fun hc hF => ?_) (fun hc hF => ?_) hF
                            · skip
                              refine jj_iload_n (j := 11) (i := 3) (pc' := 492) dL_law_491 rfl rfl rfl ?_
                              refine jj_iload (j := 0) (i := 14) (pc' := 494) dL_law_492 rfl rfl ?_
                              refine jj_if_eq_f (pc' := 497) dL_law_494 rfl (by decide) 501 rfl ?_
                              refine jj_iconst (v := (0 : Int32)) (pc' := 498) dL_law_497 rfl rfl ?_
                              refine jj_goto (tgt := 502) dL_law_498 rfl ?_
                              refine jj_iadd (pc' := 503) dL_law_502 rfl ?_
                              refine jj_istore_n (i := 3) (ls' := [(3, .int (x3 + ((0 : Int32)))), (14, .int ((1 : Int32))), (13, .int x122), (12, .int (x120 - ((10 : Int32)))), (11, .int x118), (10, .int x116), (9, .int x114), (8, .int x109), (7, .int x107), (0, .ref 1000000), (1, .ref a1), (2, .ref a2), (4, .long l4), (6, .int x6)]) (pc' := 504) dL_law_503 rfl (Nat.le_of_ble_eq_true rfl) rfl rfl ?_
                              refine jj_iinc (i := 6) (j := 13) (v := x6 + (1 : Int32)) (ls' := [(6, .int (x6 + (1 : Int32))), (3, .int (x3 + ((0 : Int32)))), (14, .int ((1 : Int32))), (13, .int x122), (12, .int (x120 - ((10 : Int32)))), (11, .int x118), (10, .int x116), (9, .int x114), (8, .int x109), (7, .int x107), (0, .ref 1000000), (1, .ref a1), (2, .ref a2), (4, .long l4)]) (pc' := 507) dL_law_504 rfl rfl (Nat.le_of_ble_eq_true rfl) rfl rfl ?_
                              refine jj_goto (tgt := 98) dL_law_507 rfl ?_
                              exact jj_pick [10, 11, 12, 1, 13, 0] rfl (ih (kc + 1045) (ks + 6270) a1 a2 (x3 + ((0 : Int32))) l4 (x6 + (1 : Int32)) h125 _ hF)
                            · skip
                              refine jj_iconst (v := (0 : Int32)) (pc' := 490) dL_law_489 rfl rfl ?_
                              obtain ⟨hw, hF⟩ := jf_w_inv hF
                              refine jj_wide hw.1 hw.2 ?_
                              exact jj_retI (ty := .boolean) rfl rfl dL_law_490 ⟨Nat.le_of_ble_eq_true rfl, Nat.le_of_ble_eq_true rfl⟩ hF
                      · skip
                        refine jj_aload_n (j := 7) (i := 1) (pc' := 414) dL_law_413 rfl rfl rfl ?_
                        refine jj_iconst (v := (0 : Int32)) (pc' := 415) dL_law_414 rfl rfl ?_
                        refine jj_iload (j := 1) (i := 11) (pc' := 417) dL_law_415 rfl rfl ?_
                        refine jj_bipush (v := (10 : Int32)) (pc' := 419) dL_law_417 rfl rfl ?_
                        refine jj_iload (j := 5) (i := 7) (pc' := 421) dL_law_419 rfl rfl ?_
                        refine jj_bipush (v := (9 : Int32)) (pc' := 423) dL_law_421 rfl rfl ?_
                        refine jj_ishr (pc' := 424) dL_law_423 rfl ?_
                        refine jj_bipush (v := (17 : Int32)) (pc' := 426) dL_law_424 rfl rfl ?_
                        refine jj_cI (N := M_L_part) (kc' := (kc + 492)) (ks' := (ks + 2952)) (pc' := 429) (jg_S (N := M_L_part) (rest := [.int ((10 : Int32)), .int x118, .int ((0 : Int32)), .ref a1]) (as := [.int (x107 >>> (((9 : Int32)) &&& 31)), .int ((17 : Int32))]) cf_L_238 rfl dL_law_426 rfl rfl ⟨Nat.le_of_ble_eq_true rfl, Nat.le_of_ble_eq_true rfl⟩ ⟨hk.1, hk.2⟩ (Nat.le_of_ble_eq_true rfl) (fun X' hX => KL_part hX)) rfl rfl rfl rfl ⟨hk.1, hk.2⟩ rfl hF (fun x129 h128 hF => ?_)
                        refine jj_iadd (pc' := 430) dL_law_429 rfl ?_
                        refine jj_iconst (v := (0 : Int32)) (pc' := 431) dL_law_430 rfl rfl ?_
                        refine jj_lconst (v := (0 : Int64)) (pc' := 432) dL_law_431 rfl rfl ?_
                        obtain ⟨hk, hF⟩ := jf_k_inv hF
                        refine jj_cI (N := M_L_call) (kc' := (kc + 553)) (ks' := (ks + 3318)) (pc' := 435) (jg_H (N := M_L_call) (rest := []) (as := [.ref a1, .int ((0 : Int32)), .int x118, .int (((10 : Int32)) + x129), .int ((0 : Int32)), .long ((0 : Int64))]) cf_L_119 (by decide) dL_law_432 rfl rfl ⟨Nat.le_of_ble_eq_true rfl, Nat.le_of_ble_eq_true rfl⟩ ⟨hk.1, hk.2⟩ (Nat.le_of_ble_eq_true rfl) (fun X' hX => KL_call hX)) rfl rfl rfl rfl ⟨hk.1, hk.2⟩ rfl hF (fun x131 h130 hF => ?_)
                        refine jj_goto (tgt := 448) dL_law_435 rfl ?_
                        refine jj_istore (i := 13) (ls' := [(13, .int x131), (12, .int (x120 - ((10 : Int32)))), (11, .int x118), (10, .int x116), (9, .int x114), (8, .int x109), (7, .int x107), (0, .ref 1000000), (1, .ref a1), (2, .ref a2), (3, .int x3), (4, .long l4), (6, .int x6)]) (pc' := 450) dL_law_448 (Nat.le_of_ble_eq_true rfl) rfl rfl ?_
                        refine jj_iload (j := 0) (i := 13) (pc' := 452) dL_law_450 rfl rfl ?_
                        refine jj_if_ge (tgt := 459) (pc' := 455) dL_law_452 rfl rfl (fun hc hF => ?_) (fun hc hF => ?_) hF
                        · skip
                          refine jj_iconst (v := (0 : Int32)) (pc' := 460) dL_law_459 rfl rfl ?_
                          refine jj_istore (i := 14) (ls' := [(14, .int ((0 : Int32))), (13, .int x131), (12, .int (x120 - ((10 : Int32)))), (11, .int x118), (10, .int x116), (9, .int x114), (8, .int x109), (7, .int x107), (0, .ref 1000000), (1, .ref a1), (2, .ref a2), (3, .int x3), (4, .long l4), (6, .int x6)]) (pc' := 462) dL_law_460 (Nat.le_of_ble_eq_true rfl) rfl rfl ?_
                          refine jj_iload (j := 0) (i := 14) (pc' := 464) dL_law_462 rfl rfl ?_
                          refine jj_if_eq_t (tgt := 491) dL_law_464 rfl (by decide) ?_
                          refine jj_iload_n (j := 11) (i := 3) (pc' := 492) dL_law_491 rfl rfl rfl ?_
                          refine jj_iload (j := 0) (i := 14) (pc' := 494) dL_law_492 rfl rfl ?_
                          refine jj_if_eq_t (tgt := 501) dL_law_494 rfl (by decide) ?_
                          refine jj_iconst (v := (1 : Int32)) (pc' := 502) dL_law_501 rfl rfl ?_
                          refine jj_iadd (pc' := 503) dL_law_502 rfl ?_
                          refine jj_istore_n (i := 3) (ls' := [(3, .int (x3 + ((1 : Int32)))), (14, .int ((0 : Int32))), (13, .int x131), (12, .int (x120 - ((10 : Int32)))), (11, .int x118), (10, .int x116), (9, .int x114), (8, .int x109), (7, .int x107), (0, .ref 1000000), (1, .ref a1), (2, .ref a2), (4, .long l4), (6, .int x6)]) (pc' := 504) dL_law_503 rfl (Nat.le_of_ble_eq_true rfl) rfl rfl ?_
                          refine jj_iinc (i := 6) (j := 13) (v := x6 + (1 : Int32)) (ls' := [(6, .int (x6 + (1 : Int32))), (3, .int (x3 + ((1 : Int32)))), (14, .int ((0 : Int32))), (13, .int x131), (12, .int (x120 - ((10 : Int32)))), (11, .int x118), (10, .int x116), (9, .int x114), (8, .int x109), (7, .int x107), (0, .ref 1000000), (1, .ref a1), (2, .ref a2), (4, .long l4)]) (pc' := 507) dL_law_504 rfl rfl (Nat.le_of_ble_eq_true rfl) rfl rfl ?_
                          refine jj_goto (tgt := 98) dL_law_507 rfl ?_
                          exact jj_pick [10, 11, 12, 1, 13, 0] rfl (ih (kc + 553) (ks + 3318) a1 a2 (x3 + ((1 : Int32))) l4 (x6 + (1 : Int32)) h130 _ hF)
                        · skip
                          refine jj_iconst (v := (1 : Int32)) (pc' := 456) dL_law_455 rfl rfl ?_
                          refine jj_goto (tgt := 460) dL_law_456 rfl ?_
                          refine jj_istore (i := 14) (ls' := [(14, .int ((1 : Int32))), (13, .int x131), (12, .int (x120 - ((10 : Int32)))), (11, .int x118), (10, .int x116), (9, .int x114), (8, .int x109), (7, .int x107), (0, .ref 1000000), (1, .ref a1), (2, .ref a2), (3, .int x3), (4, .long l4), (6, .int x6)]) (pc' := 462) dL_law_460 (Nat.le_of_ble_eq_true rfl) rfl rfl ?_
                          refine jj_iload (j := 0) (i := 14) (pc' := 464) dL_law_462 rfl rfl ?_
                          refine jj_if_eq_f (pc' := 467) dL_law_464 rfl (by decide) 491 rfl ?_
                          refine jj_aload_n (j := 9) (i := 1) (pc' := 468) dL_law_467 rfl rfl rfl ?_
                          refine jj_bipush (v := (11 : Int32)) (pc' := 470) dL_law_468 rfl rfl ?_
                          obtain ⟨hk, hF⟩ := jf_k_inv hF
                          refine jj_cI (N := M_X3_count) (kc' := (kc + 554)) (ks' := (ks + 3324)) (pc' := 473) (jg_V (N := M_X3_count) (ci := 3) (rest := []) (as := [.int ((11 : Int32))]) cf_L_81 dL_law_470 ⟨rfl, rfl⟩ rfl rfl ⟨Nat.le_of_ble_eq_true rfl, Nat.le_of_ble_eq_true rfl⟩ ⟨hk.1, hk.2⟩ (Nat.le_of_ble_eq_true rfl) (fun X' hX => KX3_count hX)) rfl rfl rfl rfl ⟨hk.1, hk.2⟩ rfl hF (fun x133 h132 hF => ?_)
                          refine jj_iload (j := 5) (i := 9) (pc' := 475) dL_law_473 rfl rfl ?_
                          refine jj_icmp_ne (tgt := 489) (pc' := 478) dL_law_475 rfl rfl (fun hc hF => ?_) (fun hc hF => ?_) hF
                          · skip
                            refine jj_iconst (v := (0 : Int32)) (pc' := 490) dL_law_489 rfl rfl ?_
                            obtain ⟨hw, hF⟩ := jf_w_inv hF
                            refine jj_wide hw.1 hw.2 ?_
                            exact jj_retI (ty := .boolean) rfl rfl dL_law_490 ⟨Nat.le_of_ble_eq_true rfl, Nat.le_of_ble_eq_true rfl⟩ hF
                          · skip
                            refine jj_aload_n (j := 9) (i := 1) (pc' := 479) dL_law_478 rfl rfl rfl ?_
                            obtain ⟨hk, hF⟩ := jf_k_inv hF
                            refine jj_cL (N := M_L_seen) (kc' := (kc + 1045)) (ks' := (ks + 6270)) (pc' := 482) (jg_S (N := M_L_seen) (rest := []) (as := [.ref a1]) cf_L_131 rfl dL_law_479 rfl rfl ⟨Nat.le_of_ble_eq_true rfl, Nat.le_of_ble_eq_true rfl⟩ ⟨hk.1, hk.2⟩ (Nat.le_of_ble_eq_true rfl) (fun X' hX => KL_seen hX)) rfl rfl rfl rfl ⟨hk.1, hk.2⟩ rfl hF (fun l135 h134 hF => ?_)
                            refine jj_aload_n (j := 10) (i := 2) (pc' := 483) dL_law_482 rfl rfl rfl ?_
                            refine jj_iload_n (j := 11) (i := 3) (pc' := 484) dL_law_483 rfl rfl rfl ?_
                            refine jj_ldL (pc' := 485) dL_law_484 rfl hF (fun l136 hF => ?_)
                            refine jj_lcmp (pc' := 486) dL_law_485 rfl ?_
                            refine jj_if_eq (tgt := 491) (pc' := 489) dL_law_486 rfl rfl (fun hc hF => ?_) (fun hc hF => ?_) hF
                            · skip
                              refine jj_iload_n (j := 11) (i := 3) (pc' := 492) dL_law_491 rfl rfl rfl ?_
                              refine jj_iload (j := 0) (i := 14) (pc' := 494) dL_law_492 rfl rfl ?_
                              refine jj_if_eq_f (pc' := 497) dL_law_494 rfl (by decide) 501 rfl ?_
                              refine jj_iconst (v := (0 : Int32)) (pc' := 498) dL_law_497 rfl rfl ?_
                              refine jj_goto (tgt := 502) dL_law_498 rfl ?_
                              refine jj_iadd (pc' := 503) dL_law_502 rfl ?_
                              refine jj_istore_n (i := 3) (ls' := [(3, .int (x3 + ((0 : Int32)))), (14, .int ((1 : Int32))), (13, .int x131), (12, .int (x120 - ((10 : Int32)))), (11, .int x118), (10, .int x116), (9, .int x114), (8, .int x109), (7, .int x107), (0, .ref 1000000), (1, .ref a1), (2, .ref a2), (4, .long l4), (6, .int x6)]) (pc' := 504) dL_law_503 rfl (Nat.le_of_ble_eq_true rfl) rfl rfl ?_
                              refine jj_iinc (i := 6) (j := 13) (v := x6 + (1 : Int32)) (ls' := [(6, .int (x6 + (1 : Int32))), (3, .int (x3 + ((0 : Int32)))), (14, .int ((1 : Int32))), (13, .int x131), (12, .int (x120 - ((10 : Int32)))), (11, .int x118), (10, .int x116), (9, .int x114), (8, .int x109), (7, .int x107), (0, .ref 1000000), (1, .ref a1), (2, .ref a2), (4, .long l4)]) (pc' := 507) dL_law_504 rfl rfl (Nat.le_of_ble_eq_true rfl) rfl rfl ?_
                              refine jj_goto (tgt := 98) dL_law_507 rfl ?_
                              exact jj_pick [10, 11, 12, 1, 13, 0] rfl (ih (kc + 1045) (ks + 6270) a1 a2 (x3 + ((0 : Int32))) l4 (x6 + (1 : Int32)) h134 _ hF)
                            · skip
                              refine jj_iconst (v := (0 : Int32)) (pc' := 490) dL_law_489 rfl rfl ?_
                              obtain ⟨hw, hF⟩ := jf_w_inv hF
                              refine jj_wide hw.1 hw.2 ?_
                              exact jj_retI (ty := .boolean) rfl rfl dL_law_490 ⟨Nat.le_of_ble_eq_true rfl, Nat.le_of_ble_eq_true rfl⟩ hF
                    · skip
                      refine jj_aload_n (j := 7) (i := 1) (pc' := 384) dL_law_383 rfl rfl rfl ?_
                      refine jj_iconst (v := (1 : Int32)) (pc' := 385) dL_law_384 rfl rfl ?_
                      refine jj_iload (j := 1) (i := 11) (pc' := 387) dL_law_385 rfl rfl ?_
                      refine jj_iload (j := 5) (i := 7) (pc' := 389) dL_law_387 rfl rfl ?_
                      refine jj_bipush (v := (9 : Int32)) (pc' := 391) dL_law_389 rfl rfl ?_
                      refine jj_ishr (pc' := 392) dL_law_391 rfl ?_
                      refine jj_sipush (v := (420 : Int32)) (pc' := 395) dL_law_392 rfl rfl ?_
                      refine jj_cI (N := M_L_part) (kc' := (kc + 492)) (ks' := (ks + 2952)) (pc' := 398) (jg_S (N := M_L_part) (rest := [.int x118, .int ((1 : Int32)), .ref a1]) (as := [.int (x107 >>> (((9 : Int32)) &&& 31)), .int ((420 : Int32))]) cf_L_238 rfl dL_law_395 rfl rfl ⟨Nat.le_of_ble_eq_true rfl, Nat.le_of_ble_eq_true rfl⟩ ⟨hk.1, hk.2⟩ (Nat.le_of_ble_eq_true rfl) (fun X' hX => KL_part hX)) rfl rfl rfl rfl ⟨hk.1, hk.2⟩ rfl hF (fun x138 h137 hF => ?_)
                      refine jj_iconst (v := (0 : Int32)) (pc' := 399) dL_law_398 rfl rfl ?_
                      refine jj_lconst (v := (0 : Int64)) (pc' := 400) dL_law_399 rfl rfl ?_
                      obtain ⟨hk, hF⟩ := jf_k_inv hF
                      refine jj_cI (N := M_L_call) (kc' := (kc + 553)) (ks' := (ks + 3318)) (pc' := 403) (jg_H (N := M_L_call) (rest := []) (as := [.ref a1, .int ((1 : Int32)), .int x118, .int x138, .int ((0 : Int32)), .long ((0 : Int64))]) cf_L_119 (by decide) dL_law_400 rfl rfl ⟨Nat.le_of_ble_eq_true rfl, Nat.le_of_ble_eq_true rfl⟩ ⟨hk.1, hk.2⟩ (Nat.le_of_ble_eq_true rfl) (fun X' hX => KL_call hX)) rfl rfl rfl rfl ⟨hk.1, hk.2⟩ rfl hF (fun x140 h139 hF => ?_)
                      refine jj_goto (tgt := 448) dL_law_403 rfl ?_
                      refine jj_istore (i := 13) (ls' := [(13, .int x140), (12, .int (x120 - ((10 : Int32)))), (11, .int x118), (10, .int x116), (9, .int x114), (8, .int x109), (7, .int x107), (0, .ref 1000000), (1, .ref a1), (2, .ref a2), (3, .int x3), (4, .long l4), (6, .int x6)]) (pc' := 450) dL_law_448 (Nat.le_of_ble_eq_true rfl) rfl rfl ?_
                      refine jj_iload (j := 0) (i := 13) (pc' := 452) dL_law_450 rfl rfl ?_
                      refine jj_if_ge (tgt := 459) (pc' := 455) dL_law_452 rfl rfl (fun hc hF => ?_) (fun hc hF => ?_) hF
                      · skip
                        refine jj_iconst (v := (0 : Int32)) (pc' := 460) dL_law_459 rfl rfl ?_
                        refine jj_istore (i := 14) (ls' := [(14, .int ((0 : Int32))), (13, .int x140), (12, .int (x120 - ((10 : Int32)))), (11, .int x118), (10, .int x116), (9, .int x114), (8, .int x109), (7, .int x107), (0, .ref 1000000), (1, .ref a1), (2, .ref a2), (3, .int x3), (4, .long l4), (6, .int x6)]) (pc' := 462) dL_law_460 (Nat.le_of_ble_eq_true rfl) rfl rfl ?_
                        refine jj_iload (j := 0) (i := 14) (pc' := 464) dL_law_462 rfl rfl ?_
                        refine jj_if_eq_t (tgt := 491) dL_law_464 rfl (by decide) ?_
                        refine jj_iload_n (j := 11) (i := 3) (pc' := 492) dL_law_491 rfl rfl rfl ?_
                        refine jj_iload (j := 0) (i := 14) (pc' := 494) dL_law_492 rfl rfl ?_
                        refine jj_if_eq_t (tgt := 501) dL_law_494 rfl (by decide) ?_
                        refine jj_iconst (v := (1 : Int32)) (pc' := 502) dL_law_501 rfl rfl ?_
                        refine jj_iadd (pc' := 503) dL_law_502 rfl ?_
                        refine jj_istore_n (i := 3) (ls' := [(3, .int (x3 + ((1 : Int32)))), (14, .int ((0 : Int32))), (13, .int x140), (12, .int (x120 - ((10 : Int32)))), (11, .int x118), (10, .int x116), (9, .int x114), (8, .int x109), (7, .int x107), (0, .ref 1000000), (1, .ref a1), (2, .ref a2), (4, .long l4), (6, .int x6)]) (pc' := 504) dL_law_503 rfl (Nat.le_of_ble_eq_true rfl) rfl rfl ?_
                        refine jj_iinc (i := 6) (j := 13) (v := x6 + (1 : Int32)) (ls' := [(6, .int (x6 + (1 : Int32))), (3, .int (x3 + ((1 : Int32)))), (14, .int ((0 : Int32))), (13, .int x140), (12, .int (x120 - ((10 : Int32)))), (11, .int x118), (10, .int x116), (9, .int x114), (8, .int x109), (7, .int x107), (0, .ref 1000000), (1, .ref a1), (2, .ref a2), (4, .long l4)]) (pc' := 507) dL_law_504 rfl rfl (Nat.le_of_ble_eq_true rfl) rfl rfl ?_
                        refine jj_goto (tgt := 98) dL_law_507 rfl ?_
                        exact jj_pick [10, 11, 12, 1, 13, 0] rfl (ih (kc + 553) (ks + 3318) a1 a2 (x3 + ((1 : Int32))) l4 (x6 + (1 : Int32)) h139 _ hF)
                      · skip
                        refine jj_iconst (v := (1 : Int32)) (pc' := 456) dL_law_455 rfl rfl ?_
                        refine jj_goto (tgt := 460) dL_law_456 rfl ?_
                        refine jj_istore (i := 14) (ls' := [(14, .int ((1 : Int32))), (13, .int x140), (12, .int (x120 - ((10 : Int32)))), (11, .int x118), (10, .int x116), (9, .int x114), (8, .int x109), (7, .int x107), (0, .ref 1000000), (1, .ref a1), (2, .ref a2), (3, .int x3), (4, .long l4), (6, .int x6)]) (pc' := 462) dL_law_460 (Nat.le_of_ble_eq_true rfl) rfl rfl ?_
                        refine jj_iload (j := 0) (i := 14) (pc' := 464) dL_law_462 rfl rfl ?_
                        refine jj_if_eq_f (pc' := 467) dL_law_464 rfl (by decide) 491 rfl ?_
                        refine jj_aload_n (j := 9) (i := 1) (pc' := 468) dL_law_467 rfl rfl rfl ?_
                        refine jj_bipush (v := (11 : Int32)) (pc' := 470) dL_law_468 rfl rfl ?_
                        obtain ⟨hk, hF⟩ := jf_k_inv hF
                        refine jj_cI (N := M_X3_count) (kc' := (kc + 554)) (ks' := (ks + 3324)) (pc' := 473) (jg_V (N := M_X3_count) (ci := 3) (rest := []) (as := [.int ((11 : Int32))]) cf_L_81 dL_law_470 ⟨rfl, rfl⟩ rfl rfl ⟨Nat.le_of_ble_eq_true rfl, Nat.le_of_ble_eq_true rfl⟩ ⟨hk.1, hk.2⟩ (Nat.le_of_ble_eq_true rfl) (fun X' hX => KX3_count hX)) rfl rfl rfl rfl ⟨hk.1, hk.2⟩ rfl hF (fun x142 h141 hF => ?_)
                        refine jj_iload (j := 5) (i := 9) (pc' := 475) dL_law_473 rfl rfl ?_
                        refine jj_icmp_ne (tgt := 489) (pc' := 478) dL_law_475 rfl rfl (fun hc hF => ?_) (fun hc hF => ?_) hF
                        · skip
                          refine jj_iconst (v := (0 : Int32)) (pc' := 490) dL_law_489 rfl rfl ?_
                          obtain ⟨hw, hF⟩ := jf_w_inv hF
                          refine jj_wide hw.1 hw.2 ?_
                          exact jj_retI (ty := .boolean) rfl rfl dL_law_490 ⟨Nat.le_of_ble_eq_true rfl, Nat.le_of_ble_eq_true rfl⟩ hF
                        · skip
                          refine jj_aload_n (j := 9) (i := 1) (pc' := 479) dL_law_478 rfl rfl rfl ?_
                          obtain ⟨hk, hF⟩ := jf_k_inv hF
                          refine jj_cL (N := M_L_seen) (kc' := (kc + 1045)) (ks' := (ks + 6270)) (pc' := 482) (jg_S (N := M_L_seen) (rest := []) (as := [.ref a1]) cf_L_131 rfl dL_law_479 rfl rfl ⟨Nat.le_of_ble_eq_true rfl, Nat.le_of_ble_eq_true rfl⟩ ⟨hk.1, hk.2⟩ (Nat.le_of_ble_eq_true rfl) (fun X' hX => KL_seen hX)) rfl rfl rfl rfl ⟨hk.1, hk.2⟩ rfl hF (fun l144 h143 hF => ?_)
                          refine jj_aload_n (j := 10) (i := 2) (pc' := 483) dL_law_482 rfl rfl rfl ?_
                          refine jj_iload_n (j := 11) (i := 3) (pc' := 484) dL_law_483 rfl rfl rfl ?_
                          refine jj_ldL (pc' := 485) dL_law_484 rfl hF (fun l145 hF => ?_)
                          refine jj_lcmp (pc' := 486) dL_law_485 rfl ?_
                          refine jj_if_eq (tgt := 491) (pc' := 489) dL_law_486 rfl rfl (fun hc hF => ?_) (fun hc hF => ?_) hF
                          · skip
                            refine jj_iload_n (j := 11) (i := 3) (pc' := 492) dL_law_491 rfl rfl rfl ?_
                            refine jj_iload (j := 0) (i := 14) (pc' := 494) dL_law_492 rfl rfl ?_
                            refine jj_if_eq_f (pc' := 497) dL_law_494 rfl (by decide) 501 rfl ?_
                            refine jj_iconst (v := (0 : Int32)) (pc' := 498) dL_law_497 rfl rfl ?_
                            refine jj_goto (tgt := 502) dL_law_498 rfl ?_
                            refine jj_iadd (pc' := 503) dL_law_502 rfl ?_
                            refine jj_istore_n (i := 3) (ls' := [(3, .int (x3 + ((0 : Int32)))), (14, .int ((1 : Int32))), (13, .int x140), (12, .int (x120 - ((10 : Int32)))), (11, .int x118), (10, .int x116), (9, .int x114), (8, .int x109), (7, .int x107), (0, .ref 1000000), (1, .ref a1), (2, .ref a2), (4, .long l4), (6, .int x6)]) (pc' := 504) dL_law_503 rfl (Nat.le_of_ble_eq_true rfl) rfl rfl ?_
                            refine jj_iinc (i := 6) (j := 13) (v := x6 + (1 : Int32)) (ls' := [(6, .int (x6 + (1 : Int32))), (3, .int (x3 + ((0 : Int32)))), (14, .int ((1 : Int32))), (13, .int x140), (12, .int (x120 - ((10 : Int32)))), (11, .int x118), (10, .int x116), (9, .int x114), (8, .int x109), (7, .int x107), (0, .ref 1000000), (1, .ref a1), (2, .ref a2), (4, .long l4)]) (pc' := 507) dL_law_504 rfl rfl (Nat.le_of_ble_eq_true rfl) rfl rfl ?_
                            refine jj_goto (tgt := 98) dL_law_507 rfl ?_
                            exact jj_pick [10, 11, 12, 1, 13, 0] rfl (ih (kc + 1045) (ks + 6270) a1 a2 (x3 + ((0 : Int32))) l4 (x6 + (1 : Int32)) h143 _ hF)
                          · skip
                            refine jj_iconst (v := (0 : Int32)) (pc' := 490) dL_law_489 rfl rfl ?_
                            obtain ⟨hw, hF⟩ := jf_w_inv hF
                            refine jj_wide hw.1 hw.2 ?_
                            exact jj_retI (ty := .boolean) rfl rfl dL_law_490 ⟨Nat.le_of_ble_eq_true rfl, Nat.le_of_ble_eq_true rfl⟩ hF
                  · skip
                    refine jj_aload_n (j := 7) (i := 1) (pc' := 355) dL_law_354 rfl rfl rfl ?_
                    refine jj_iconst (v := (2 : Int32)) (pc' := 356) dL_law_355 rfl rfl ?_
                    refine jj_iload (j := 2) (i := 10) (pc' := 358) dL_law_356 rfl rfl ?_
                    refine jj_iload (j := 5) (i := 7) (pc' := 360) dL_law_358 rfl rfl ?_
                    refine jj_bipush (v := (9 : Int32)) (pc' := 362) dL_law_360 rfl rfl ?_
                    refine jj_ishr (pc' := 363) dL_law_362 rfl ?_
                    refine jj_bipush (v := (64 : Int32)) (pc' := 365) dL_law_363 rfl rfl ?_
                    refine jj_cI (N := M_L_part) (kc' := (kc + 492)) (ks' := (ks + 2952)) (pc' := 368) (jg_S (N := M_L_part) (rest := [.int x116, .int ((2 : Int32)), .ref a1]) (as := [.int (x107 >>> (((9 : Int32)) &&& 31)), .int ((64 : Int32))]) cf_L_238 rfl dL_law_365 rfl rfl ⟨Nat.le_of_ble_eq_true rfl, Nat.le_of_ble_eq_true rfl⟩ ⟨hk.1, hk.2⟩ (Nat.le_of_ble_eq_true rfl) (fun X' hX => KL_part hX)) rfl rfl rfl rfl ⟨hk.1, hk.2⟩ rfl hF (fun x147 h146 hF => ?_)
                    refine jj_iconst (v := (0 : Int32)) (pc' := 369) dL_law_368 rfl rfl ?_
                    refine jj_lconst (v := (0 : Int64)) (pc' := 370) dL_law_369 rfl rfl ?_
                    obtain ⟨hk, hF⟩ := jf_k_inv hF
                    refine jj_cI (N := M_L_call) (kc' := (kc + 553)) (ks' := (ks + 3318)) (pc' := 373) (jg_H (N := M_L_call) (rest := []) (as := [.ref a1, .int ((2 : Int32)), .int x116, .int x147, .int ((0 : Int32)), .long ((0 : Int64))]) cf_L_119 (by decide) dL_law_370 rfl rfl ⟨Nat.le_of_ble_eq_true rfl, Nat.le_of_ble_eq_true rfl⟩ ⟨hk.1, hk.2⟩ (Nat.le_of_ble_eq_true rfl) (fun X' hX => KL_call hX)) rfl rfl rfl rfl ⟨hk.1, hk.2⟩ rfl hF (fun x149 h148 hF => ?_)
                    refine jj_goto (tgt := 448) dL_law_373 rfl ?_
                    refine jj_istore (i := 13) (ls' := [(13, .int x149), (12, .int (x120 - ((10 : Int32)))), (11, .int x118), (10, .int x116), (9, .int x114), (8, .int x109), (7, .int x107), (0, .ref 1000000), (1, .ref a1), (2, .ref a2), (3, .int x3), (4, .long l4), (6, .int x6)]) (pc' := 450) dL_law_448 (Nat.le_of_ble_eq_true rfl) rfl rfl ?_
                    refine jj_iload (j := 0) (i := 13) (pc' := 452) dL_law_450 rfl rfl ?_
                    refine jj_if_ge (tgt := 459) (pc' := 455) dL_law_452 rfl rfl (fun hc hF => ?_) (fun hc hF => ?_) hF
                    · skip
                      refine jj_iconst (v := (0 : Int32)) (pc' := 460) dL_law_459 rfl rfl ?_
                      refine jj_istore (i := 14) (ls' := [(14, .int ((0 : Int32))), (13, .int x149), (12, .int (x120 - ((10 : Int32)))), (11, .int x118), (10, .int x116), (9, .int x114), (8, .int x109), (7, .int x107), (0, .ref 1000000), (1, .ref a1), (2, .ref a2), (3, .int x3), (4, .long l4), (6, .int x6)]) (pc' := 462) dL_law_460 (Nat.le_of_ble_eq_true rfl) rfl rfl ?_
                      refine jj_iload (j := 0) (i := 14) (pc' := 464) dL_law_462 rfl rfl ?_
                      refine jj_if_eq_t (tgt := 491) dL_law_464 rfl (by decide) ?_
                      refine jj_iload_n (j := 11) (i := 3) (pc' := 492) dL_law_491 rfl rfl rfl ?_
                      refine jj_iload (j := 0) (i := 14) (pc' := 494) dL_law_492 rfl rfl ?_
                      refine jj_if_eq_t (tgt := 501) dL_law_494 rfl (by decide) ?_
                      refine jj_iconst (v := (1 : Int32)) (pc' := 502) dL_law_501 rfl rfl ?_
                      refine jj_iadd (pc' := 503) dL_law_502 rfl ?_
                      refine jj_istore_n (i := 3) (ls' := [(3, .int (x3 + ((1 : Int32)))), (14, .int ((0 : Int32))), (13, .int x149), (12, .int (x120 - ((10 : Int32)))), (11, .int x118), (10, .int x116), (9, .int x114), (8, .int x109), (7, .int x107), (0, .ref 1000000), (1, .ref a1), (2, .ref a2), (4, .long l4), (6, .int x6)]) (pc' := 504) dL_law_503 rfl (Nat.le_of_ble_eq_true rfl) rfl rfl ?_
                      refine jj_iinc (i := 6) (j := 13) (v := x6 + (1 : Int32)) (ls' := [(6, .int (x6 + (1 : Int32))), (3, .int (x3 + ((1 : Int32)))), (14, .int ((0 : Int32))), (13, .int x149), (12, .int (x120 - ((10 : Int32)))), (11, .int x118), (10, .int x116), (9, .int x114), (8, .int x109), (7, .int x107), (0, .ref 1000000), (1, .ref a1), (2, .ref a2), (4, .long l4)]) (pc' := 507) dL_law_504 rfl rfl (Nat.le_of_ble_eq_true rfl) rfl rfl ?_
                      refine jj_goto (tgt := 98) dL_law_507 rfl ?_
                      exact jj_pick [10, 11, 12, 1, 13, 0] rfl (ih (kc + 553) (ks + 3318) a1 a2 (x3 + ((1 : Int32))) l4 (x6 + (1 : Int32)) h148 _ hF)
                    · skip
                      refine jj_iconst (v := (1 : Int32)) (pc' := 456) dL_law_455 rfl rfl ?_
                      refine jj_goto (tgt := 460) dL_law_456 rfl ?_
                      refine jj_istore (i := 14) (ls' := [(14, .int ((1 : Int32))), (13, .int x149), (12, .int (x120 - ((10 : Int32)))), (11, .int x118), (10, .int x116), (9, .int x114), (8, .int x109), (7, .int x107), (0, .ref 1000000), (1, .ref a1), (2, .ref a2), (3, .int x3), (4, .long l4), (6, .int x6)]) (pc' := 462) dL_law_460 (Nat.le_of_ble_eq_true rfl) rfl rfl ?_
                      refine jj_iload (j := 0) (i := 14) (pc' := 464) dL_law_462 rfl rfl ?_
                      refine jj_if_eq_f (pc' := 467) dL_law_464 rfl (by decide) 491 rfl ?_
                      refine jj_aload_n (j := 9) (i := 1) (pc' := 468) dL_law_467 rfl rfl rfl ?_
                      refine jj_bipush (v := (11 : Int32)) (pc' := 470) dL_law_468 rfl rfl ?_
                      obtain ⟨hk, hF⟩ := jf_k_inv hF
                      refine jj_cI (N := M_X3_count) (kc' := (kc + 554)) (ks' := (ks + 3324)) (pc' := 473) (jg_V (N := M_X3_count) (ci := 3) (rest := []) (as := [.int ((11 : Int32))]) cf_L_81 dL_law_470 ⟨rfl, rfl⟩ rfl rfl ⟨Nat.le_of_ble_eq_true rfl, Nat.le_of_ble_eq_true rfl⟩ ⟨hk.1, hk.2⟩ (Nat.le_of_ble_eq_true rfl) (fun X' hX => KX3_count hX)) rfl rfl rfl rfl ⟨hk.1, hk.2⟩ rfl hF (fun x151 h150 hF => ?_)
                      refine jj_iload (j := 5) (i := 9) (pc' := 475) dL_law_473 rfl rfl ?_
                      refine jj_icmp_ne (tgt := 489) (pc' := 478) dL_law_475 rfl rfl (fun hc hF => ?_) (fun hc hF => ?_) hF
                      · skip
                        refine jj_iconst (v := (0 : Int32)) (pc' := 490) dL_law_489 rfl rfl ?_
                        obtain ⟨hw, hF⟩ := jf_w_inv hF
                        refine jj_wide hw.1 hw.2 ?_
                        exact jj_retI (ty := .boolean) rfl rfl dL_law_490 ⟨Nat.le_of_ble_eq_true rfl, Nat.le_of_ble_eq_true rfl⟩ hF
                      · skip
                        refine jj_aload_n (j := 9) (i := 1) (pc' := 479) dL_law_478 rfl rfl rfl ?_
                        obtain ⟨hk, hF⟩ := jf_k_inv hF
                        refine jj_cL (N := M_L_seen) (kc' := (kc + 1045)) (ks' := (ks + 6270)) (pc' := 482) (jg_S (N := M_L_seen) (rest := []) (as := [.ref a1]) cf_L_131 rfl dL_law_479 rfl rfl ⟨Nat.le_of_ble_eq_true rfl, Nat.le_of_ble_eq_true rfl⟩ ⟨hk.1, hk.2⟩ (Nat.le_of_ble_eq_true rfl) (fun X' hX => KL_seen hX)) rfl rfl rfl rfl ⟨hk.1, hk.2⟩ rfl hF (fun l153 h152 hF => ?_)
                        refine jj_aload_n (j := 10) (i := 2) (pc' := 483) dL_law_482 rfl rfl rfl ?_
                        refine jj_iload_n (j := 11) (i := 3) (pc' := 484) dL_law_483 rfl rfl rfl ?_
                        refine jj_ldL (pc' := 485) dL_law_484 rfl hF (fun l154 hF => ?_)
                        refine jj_lcmp (pc' := 486) dL_law_485 rfl ?_
                        refine jj_if_eq (tgt := 491) (pc' := 489) dL_law_486 rfl rfl (fun hc hF => ?_) (fun hc hF => ?_) hF
                        · skip
                          refine jj_iload_n (j := 11) (i := 3) (pc' := 492) dL_law_491 rfl rfl rfl ?_
                          refine jj_iload (j := 0) (i := 14) (pc' := 494) dL_law_492 rfl rfl ?_
                          refine jj_if_eq_f (pc' := 497) dL_law_494 rfl (by decide) 501 rfl ?_
                          refine jj_iconst (v := (0 : Int32)) (pc' := 498) dL_law_497 rfl rfl ?_
                          refine jj_goto (tgt := 502) dL_law_498 rfl ?_
                          refine jj_iadd (pc' := 503) dL_law_502 rfl ?_
                          refine jj_istore_n (i := 3) (ls' := [(3, .int (x3 + ((0 : Int32)))), (14, .int ((1 : Int32))), (13, .int x149), (12, .int (x120 - ((10 : Int32)))), (11, .int x118), (10, .int x116), (9, .int x114), (8, .int x109), (7, .int x107), (0, .ref 1000000), (1, .ref a1), (2, .ref a2), (4, .long l4), (6, .int x6)]) (pc' := 504) dL_law_503 rfl (Nat.le_of_ble_eq_true rfl) rfl rfl ?_
                          refine jj_iinc (i := 6) (j := 13) (v := x6 + (1 : Int32)) (ls' := [(6, .int (x6 + (1 : Int32))), (3, .int (x3 + ((0 : Int32)))), (14, .int ((1 : Int32))), (13, .int x149), (12, .int (x120 - ((10 : Int32)))), (11, .int x118), (10, .int x116), (9, .int x114), (8, .int x109), (7, .int x107), (0, .ref 1000000), (1, .ref a1), (2, .ref a2), (4, .long l4)]) (pc' := 507) dL_law_504 rfl rfl (Nat.le_of_ble_eq_true rfl) rfl rfl ?_
                          refine jj_goto (tgt := 98) dL_law_507 rfl ?_
                          exact jj_pick [10, 11, 12, 1, 13, 0] rfl (ih (kc + 1045) (ks + 6270) a1 a2 (x3 + ((0 : Int32))) l4 (x6 + (1 : Int32)) h152 _ hF)
                        · skip
                          refine jj_iconst (v := (0 : Int32)) (pc' := 490) dL_law_489 rfl rfl ?_
                          obtain ⟨hw, hF⟩ := jf_w_inv hF
                          refine jj_wide hw.1 hw.2 ?_
                          exact jj_retI (ty := .boolean) rfl rfl dL_law_490 ⟨Nat.le_of_ble_eq_true rfl, Nat.le_of_ble_eq_true rfl⟩ hF
                · skip
                  refine jj_aload_n (j := 7) (i := 1) (pc' := 325) dL_law_324 rfl rfl rfl ?_
                  refine jj_bipush (v := (6 : Int32)) (pc' := 327) dL_law_325 rfl rfl ?_
                  refine jj_iload (j := 5) (i := 7) (pc' := 329) dL_law_327 rfl rfl ?_
                  refine jj_iconst (v := (5 : Int32)) (pc' := 330) dL_law_329 rfl rfl ?_
                  refine jj_ishr (pc' := 331) dL_law_330 rfl ?_
                  refine jj_iconst (v := (3 : Int32)) (pc' := 332) dL_law_331 rfl rfl ?_
                  refine jj_cI (N := M_L_part) (kc' := (kc + 492)) (ks' := (ks + 2952)) (pc' := 335) (jg_S (N := M_L_part) (rest := [.int ((6 : Int32)), .ref a1]) (as := [.int (x107 >>> (((5 : Int32)) &&& 31)), .int ((3 : Int32))]) cf_L_238 rfl dL_law_332 rfl rfl ⟨Nat.le_of_ble_eq_true rfl, Nat.le_of_ble_eq_true rfl⟩ ⟨hk.1, hk.2⟩ (Nat.le_of_ble_eq_true rfl) (fun X' hX => KL_part hX)) rfl rfl rfl rfl ⟨hk.1, hk.2⟩ rfl hF (fun x156 h155 hF => ?_)
                  refine jj_iload (j := 0) (i := 12) (pc' := 337) dL_law_335 rfl rfl ?_
                  refine jj_sipush (v := (600 : Int32)) (pc' := 340) dL_law_337 rfl rfl ?_
                  refine jj_lconst (v := (0 : Int64)) (pc' := 341) dL_law_340 rfl rfl ?_
                  obtain ⟨hk, hF⟩ := jf_k_inv hF
                  refine jj_cI (N := M_L_call) (kc' := (kc + 553)) (ks' := (ks + 3318)) (pc' := 344) (jg_H (N := M_L_call) (rest := []) (as := [.ref a1, .int ((6 : Int32)), .int x156, .int (x120 - ((10 : Int32))), .int ((600 : Int32)), .long ((0 : Int64))]) cf_L_119 (by decide) dL_law_341 rfl rfl ⟨Nat.le_of_ble_eq_true rfl, Nat.le_of_ble_eq_true rfl⟩ ⟨hk.1, hk.2⟩ (Nat.le_of_ble_eq_true rfl) (fun X' hX => KL_call hX)) rfl rfl rfl rfl ⟨hk.1, hk.2⟩ rfl hF (fun x158 h157 hF => ?_)
                  refine jj_goto (tgt := 448) dL_law_344 rfl ?_
                  refine jj_istore (i := 13) (ls' := [(13, .int x158), (12, .int (x120 - ((10 : Int32)))), (11, .int x118), (10, .int x116), (9, .int x114), (8, .int x109), (7, .int x107), (0, .ref 1000000), (1, .ref a1), (2, .ref a2), (3, .int x3), (4, .long l4), (6, .int x6)]) (pc' := 450) dL_law_448 (Nat.le_of_ble_eq_true rfl) rfl rfl ?_
                  refine jj_iload (j := 0) (i := 13) (pc' := 452) dL_law_450 rfl rfl ?_
                  refine jj_if_ge (tgt := 459) (pc' := 455) dL_law_452 rfl rfl (fun hc hF => ?_) (fun hc hF => ?_) hF
                  · skip
                    refine jj_iconst (v := (0 : Int32)) (pc' := 460) dL_law_459 rfl rfl ?_
                    refine jj_istore (i := 14) (ls' := [(14, .int ((0 : Int32))), (13, .int x158), (12, .int (x120 - ((10 : Int32)))), (11, .int x118), (10, .int x116), (9, .int x114), (8, .int x109), (7, .int x107), (0, .ref 1000000), (1, .ref a1), (2, .ref a2), (3, .int x3), (4, .long l4), (6, .int x6)]) (pc' := 462) dL_law_460 (Nat.le_of_ble_eq_true rfl) rfl rfl ?_
                    refine jj_iload (j := 0) (i := 14) (pc' := 464) dL_law_462 rfl rfl ?_
                    refine jj_if_eq_t (tgt := 491) dL_law_464 rfl (by decide) ?_
                    refine jj_iload_n (j := 11) (i := 3) (pc' := 492) dL_law_491 rfl rfl rfl ?_
                    refine jj_iload (j := 0) (i := 14) (pc' := 494) dL_law_492 rfl rfl ?_
                    refine jj_if_eq_t (tgt := 501) dL_law_494 rfl (by decide) ?_
                    refine jj_iconst (v := (1 : Int32)) (pc' := 502) dL_law_501 rfl rfl ?_
                    refine jj_iadd (pc' := 503) dL_law_502 rfl ?_
                    refine jj_istore_n (i := 3) (ls' := [(3, .int (x3 + ((1 : Int32)))), (14, .int ((0 : Int32))), (13, .int x158), (12, .int (x120 - ((10 : Int32)))), (11, .int x118), (10, .int x116), (9, .int x114), (8, .int x109), (7, .int x107), (0, .ref 1000000), (1, .ref a1), (2, .ref a2), (4, .long l4), (6, .int x6)]) (pc' := 504) dL_law_503 rfl (Nat.le_of_ble_eq_true rfl) rfl rfl ?_
                    refine jj_iinc (i := 6) (j := 13) (v := x6 + (1 : Int32)) (ls' := [(6, .int (x6 + (1 : Int32))), (3, .int (x3 + ((1 : Int32)))), (14, .int ((0 : Int32))), (13, .int x158), (12, .int (x120 - ((10 : Int32)))), (11, .int x118), (10, .int x116), (9, .int x114), (8, .int x109), (7, .int x107), (0, .ref 1000000), (1, .ref a1), (2, .ref a2), (4, .long l4)]) (pc' := 507) dL_law_504 rfl rfl (Nat.le_of_ble_eq_true rfl) rfl rfl ?_
                    refine jj_goto (tgt := 98) dL_law_507 rfl ?_
                    exact jj_pick [10, 11, 12, 1, 13, 0] rfl (ih (kc + 553) (ks + 3318) a1 a2 (x3 + ((1 : Int32))) l4 (x6 + (1 : Int32)) h157 _ hF)
                  · skip
                    refine jj_iconst (v := (1 : Int32)) (pc' := 456) dL_law_455 rfl rfl ?_
                    refine jj_goto (tgt := 460) dL_law_456 rfl ?_
                    refine jj_istore (i := 14) (ls' := [(14, .int ((1 : Int32))), (13, .int x158), (12, .int (x120 - ((10 : Int32)))), (11, .int x118), (10, .int x116), (9, .int x114), (8, .int x109), (7, .int x107), (0, .ref 1000000), (1, .ref a1), (2, .ref a2), (3, .int x3), (4, .long l4), (6, .int x6)]) (pc' := 462) dL_law_460 (Nat.le_of_ble_eq_true rfl) rfl rfl ?_
                    refine jj_iload (j := 0) (i := 14) (pc' := 464) dL_law_462 rfl rfl ?_
                    refine jj_if_eq_f (pc' := 467) dL_law_464 rfl (by decide) 491 rfl ?_
                    refine jj_aload_n (j := 9) (i := 1) (pc' := 468) dL_law_467 rfl rfl rfl ?_
                    refine jj_bipush (v := (11 : Int32)) (pc' := 470) dL_law_468 rfl rfl ?_
                    obtain ⟨hk, hF⟩ := jf_k_inv hF
                    refine jj_cI (N := M_X3_count) (kc' := (kc + 554)) (ks' := (ks + 3324)) (pc' := 473) (jg_V (N := M_X3_count) (ci := 3) (rest := []) (as := [.int ((11 : Int32))]) cf_L_81 dL_law_470 ⟨rfl, rfl⟩ rfl rfl ⟨Nat.le_of_ble_eq_true rfl, Nat.le_of_ble_eq_true rfl⟩ ⟨hk.1, hk.2⟩ (Nat.le_of_ble_eq_true rfl) (fun X' hX => KX3_count hX)) rfl rfl rfl rfl ⟨hk.1, hk.2⟩ rfl hF (fun x160 h159 hF => ?_)
                    refine jj_iload (j := 5) (i := 9) (pc' := 475) dL_law_473 rfl rfl ?_
                    refine jj_icmp_ne (tgt := 489) (pc' := 478) dL_law_475 rfl rfl (fun hc hF => ?_) (fun hc hF => ?_) hF
                    · skip
                      refine jj_iconst (v := (0 : Int32)) (pc' := 490) dL_law_489 rfl rfl ?_
                      obtain ⟨hw, hF⟩ := jf_w_inv hF
                      refine jj_wide hw.1 hw.2 ?_
                      exact jj_retI (ty := .boolean) rfl rfl dL_law_490 ⟨Nat.le_of_ble_eq_true rfl, Nat.le_of_ble_eq_true rfl⟩ hF
                    · skip
                      refine jj_aload_n (j := 9) (i := 1) (pc' := 479) dL_law_478 rfl rfl rfl ?_
                      obtain ⟨hk, hF⟩ := jf_k_inv hF
                      refine jj_cL (N := M_L_seen) (kc' := (kc + 1045)) (ks' := (ks + 6270)) (pc' := 482) (jg_S (N := M_L_seen) (rest := []) (as := [.ref a1]) cf_L_131 rfl dL_law_479 rfl rfl ⟨Nat.le_of_ble_eq_true rfl, Nat.le_of_ble_eq_true rfl⟩ ⟨hk.1, hk.2⟩ (Nat.le_of_ble_eq_true rfl) (fun X' hX => KL_seen hX)) rfl rfl rfl rfl ⟨hk.1, hk.2⟩ rfl hF (fun l162 h161 hF => ?_)
                      refine jj_aload_n (j := 10) (i := 2) (pc' := 483) dL_law_482 rfl rfl rfl ?_
                      refine jj_iload_n (j := 11) (i := 3) (pc' := 484) dL_law_483 rfl rfl rfl ?_
                      refine jj_ldL (pc' := 485) dL_law_484 rfl hF (fun l163 hF => ?_)
                      refine jj_lcmp (pc' := 486) dL_law_485 rfl ?_
                      refine jj_if_eq (tgt := 491) (pc' := 489) dL_law_486 rfl rfl (fun hc hF => ?_) (fun hc hF => ?_) hF
                      · skip
                        refine jj_iload_n (j := 11) (i := 3) (pc' := 492) dL_law_491 rfl rfl rfl ?_
                        refine jj_iload (j := 0) (i := 14) (pc' := 494) dL_law_492 rfl rfl ?_
                        refine jj_if_eq_f (pc' := 497) dL_law_494 rfl (by decide) 501 rfl ?_
                        refine jj_iconst (v := (0 : Int32)) (pc' := 498) dL_law_497 rfl rfl ?_
                        refine jj_goto (tgt := 502) dL_law_498 rfl ?_
                        refine jj_iadd (pc' := 503) dL_law_502 rfl ?_
                        refine jj_istore_n (i := 3) (ls' := [(3, .int (x3 + ((0 : Int32)))), (14, .int ((1 : Int32))), (13, .int x158), (12, .int (x120 - ((10 : Int32)))), (11, .int x118), (10, .int x116), (9, .int x114), (8, .int x109), (7, .int x107), (0, .ref 1000000), (1, .ref a1), (2, .ref a2), (4, .long l4), (6, .int x6)]) (pc' := 504) dL_law_503 rfl (Nat.le_of_ble_eq_true rfl) rfl rfl ?_
                        refine jj_iinc (i := 6) (j := 13) (v := x6 + (1 : Int32)) (ls' := [(6, .int (x6 + (1 : Int32))), (3, .int (x3 + ((0 : Int32)))), (14, .int ((1 : Int32))), (13, .int x158), (12, .int (x120 - ((10 : Int32)))), (11, .int x118), (10, .int x116), (9, .int x114), (8, .int x109), (7, .int x107), (0, .ref 1000000), (1, .ref a1), (2, .ref a2), (4, .long l4)]) (pc' := 507) dL_law_504 rfl rfl (Nat.le_of_ble_eq_true rfl) rfl rfl ?_
                        refine jj_goto (tgt := 98) dL_law_507 rfl ?_
                        exact jj_pick [10, 11, 12, 1, 13, 0] rfl (ih (kc + 1045) (ks + 6270) a1 a2 (x3 + ((0 : Int32))) l4 (x6 + (1 : Int32)) h161 _ hF)
                      · skip
                        refine jj_iconst (v := (0 : Int32)) (pc' := 490) dL_law_489 rfl rfl ?_
                        obtain ⟨hw, hF⟩ := jf_w_inv hF
                        refine jj_wide hw.1 hw.2 ?_
                        exact jj_retI (ty := .boolean) rfl rfl dL_law_490 ⟨Nat.le_of_ble_eq_true rfl, Nat.le_of_ble_eq_true rfl⟩ hF
              · skip
                refine jj_aload_n (j := 7) (i := 1) (pc' := 287) dL_law_286 rfl rfl rfl ?_
                refine jj_bipush (v := (8 : Int32)) (pc' := 289) dL_law_287 rfl rfl ?_
                refine jj_iload (j := 2) (i := 10) (pc' := 291) dL_law_289 rfl rfl ?_
                refine jj_iload (j := 5) (i := 7) (pc' := 293) dL_law_291 rfl rfl ?_
                refine jj_bipush (v := (7 : Int32)) (pc' := 295) dL_law_293 rfl rfl ?_
                refine jj_ishr (pc' := 296) dL_law_295 rfl ?_
                refine jj_iconst (v := (3 : Int32)) (pc' := 297) dL_law_296 rfl rfl ?_
                refine jj_cI (N := M_L_part) (kc' := (kc + 492)) (ks' := (ks + 2952)) (pc' := 300) (jg_S (N := M_L_part) (rest := [.int x116, .int ((8 : Int32)), .ref a1]) (as := [.int (x107 >>> (((7 : Int32)) &&& 31)), .int ((3 : Int32))]) cf_L_238 rfl dL_law_297 rfl rfl ⟨Nat.le_of_ble_eq_true rfl, Nat.le_of_ble_eq_true rfl⟩ ⟨hk.1, hk.2⟩ (Nat.le_of_ble_eq_true rfl) (fun X' hX => KL_part hX)) rfl rfl rfl rfl ⟨hk.1, hk.2⟩ rfl hF (fun x165 h164 hF => ?_)
                refine jj_iload (j := 5) (i := 7) (pc' := 302) dL_law_300 rfl rfl ?_
                refine jj_bipush (v := (9 : Int32)) (pc' := 304) dL_law_302 rfl rfl ?_
                refine jj_ishr (pc' := 305) dL_law_304 rfl ?_
                refine jj_bipush (v := (12 : Int32)) (pc' := 307) dL_law_305 rfl rfl ?_
                refine jj_cI (N := M_L_part) (kc' := (kc + 492)) (ks' := (ks + 2952)) (pc' := 310) (jg_S (N := M_L_part) (rest := [.int x165, .int x116, .int ((8 : Int32)), .ref a1]) (as := [.int (x107 >>> (((9 : Int32)) &&& 31)), .int ((12 : Int32))]) cf_L_238 rfl dL_law_307 rfl rfl ⟨Nat.le_of_ble_eq_true rfl, Nat.le_of_ble_eq_true rfl⟩ ⟨hk.1, hk.2⟩ (Nat.le_of_ble_eq_true rfl) (fun X' hX => KL_part hX)) rfl rfl rfl rfl ⟨hk.1, hk.2⟩ rfl hF (fun x167 h166 hF => ?_)
                refine jj_lconst (v := (0 : Int64)) (pc' := 311) dL_law_310 rfl rfl ?_
                obtain ⟨hk, hF⟩ := jf_k_inv hF
                refine jj_cI (N := M_L_call) (kc' := (kc + 553)) (ks' := (ks + 3318)) (pc' := 314) (jg_H (N := M_L_call) (rest := []) (as := [.ref a1, .int ((8 : Int32)), .int x116, .int x165, .int x167, .long ((0 : Int64))]) cf_L_119 (by decide) dL_law_311 rfl rfl ⟨Nat.le_of_ble_eq_true rfl, Nat.le_of_ble_eq_true rfl⟩ ⟨hk.1, hk.2⟩ (Nat.le_of_ble_eq_true rfl) (fun X' hX => KL_call hX)) rfl rfl rfl rfl ⟨hk.1, hk.2⟩ rfl hF (fun x169 h168 hF => ?_)
                refine jj_goto (tgt := 448) dL_law_314 rfl ?_
                refine jj_istore (i := 13) (ls' := [(13, .int x169), (12, .int (x120 - ((10 : Int32)))), (11, .int x118), (10, .int x116), (9, .int x114), (8, .int x109), (7, .int x107), (0, .ref 1000000), (1, .ref a1), (2, .ref a2), (3, .int x3), (4, .long l4), (6, .int x6)]) (pc' := 450) dL_law_448 (Nat.le_of_ble_eq_true rfl) rfl rfl ?_
                refine jj_iload (j := 0) (i := 13) (pc' := 452) dL_law_450 rfl rfl ?_
                refine jj_if_ge (tgt := 459) (pc' := 455) dL_law_452 rfl rfl (fun hc hF => ?_) (fun hc hF => ?_) hF
                · skip
                  refine jj_iconst (v := (0 : Int32)) (pc' := 460) dL_law_459 rfl rfl ?_
                  refine jj_istore (i := 14) (ls' := [(14, .int ((0 : Int32))), (13, .int x169), (12, .int (x120 - ((10 : Int32)))), (11, .int x118), (10, .int x116), (9, .int x114), (8, .int x109), (7, .int x107), (0, .ref 1000000), (1, .ref a1), (2, .ref a2), (3, .int x3), (4, .long l4), (6, .int x6)]) (pc' := 462) dL_law_460 (Nat.le_of_ble_eq_true rfl) rfl rfl ?_
                  refine jj_iload (j := 0) (i := 14) (pc' := 464) dL_law_462 rfl rfl ?_
                  refine jj_if_eq_t (tgt := 491) dL_law_464 rfl (by decide) ?_
                  refine jj_iload_n (j := 11) (i := 3) (pc' := 492) dL_law_491 rfl rfl rfl ?_
                  refine jj_iload (j := 0) (i := 14) (pc' := 494) dL_law_492 rfl rfl ?_
                  refine jj_if_eq_t (tgt := 501) dL_law_494 rfl (by decide) ?_
                  refine jj_iconst (v := (1 : Int32)) (pc' := 502) dL_law_501 rfl rfl ?_
                  refine jj_iadd (pc' := 503) dL_law_502 rfl ?_
                  refine jj_istore_n (i := 3) (ls' := [(3, .int (x3 + ((1 : Int32)))), (14, .int ((0 : Int32))), (13, .int x169), (12, .int (x120 - ((10 : Int32)))), (11, .int x118), (10, .int x116), (9, .int x114), (8, .int x109), (7, .int x107), (0, .ref 1000000), (1, .ref a1), (2, .ref a2), (4, .long l4), (6, .int x6)]) (pc' := 504) dL_law_503 rfl (Nat.le_of_ble_eq_true rfl) rfl rfl ?_
                  refine jj_iinc (i := 6) (j := 13) (v := x6 + (1 : Int32)) (ls' := [(6, .int (x6 + (1 : Int32))), (3, .int (x3 + ((1 : Int32)))), (14, .int ((0 : Int32))), (13, .int x169), (12, .int (x120 - ((10 : Int32)))), (11, .int x118), (10, .int x116), (9, .int x114), (8, .int x109), (7, .int x107), (0, .ref 1000000), (1, .ref a1), (2, .ref a2), (4, .long l4)]) (pc' := 507) dL_law_504 rfl rfl (Nat.le_of_ble_eq_true rfl) rfl rfl ?_
                  refine jj_goto (tgt := 98) dL_law_507 rfl ?_
                  exact jj_pick [10, 11, 12, 1, 13, 0] rfl (ih (kc + 553) (ks + 3318) a1 a2 (x3 + ((1 : Int32))) l4 (x6 + (1 : Int32)) h168 _ hF)
                · skip
                  refine jj_iconst (v := (1 : Int32)) (pc' := 456) dL_law_455 rfl rfl ?_
                  refine jj_goto (tgt := 460) dL_law_456 rfl ?_
                  refine jj_istore (i := 14) (ls' := [(14, .int ((1 : Int32))), (13, .int x169), (12, .int (x120 - ((10 : Int32)))), (11, .int x118), (10, .int x116), (9, .int x114), (8, .int x109), (7, .int x107), (0, .ref 1000000), (1, .ref a1), (2, .ref a2), (3, .int x3), (4, .long l4), (6, .int x6)]) (pc' := 462) dL_law_460 (Nat.le_of_ble_eq_true rfl) rfl rfl ?_
                  refine jj_iload (j := 0) (i := 14) (pc' := 464) dL_law_462 rfl rfl ?_
                  refine jj_if_eq_f (pc' := 467) dL_law_464 rfl (by decide) 491 rfl ?_
                  refine jj_aload_n (j := 9) (i := 1) (pc' := 468) dL_law_467 rfl rfl rfl ?_
                  refine jj_bipush (v := (11 : Int32)) (pc' := 470) dL_law_468 rfl rfl ?_
                  obtain ⟨hk, hF⟩ := jf_k_inv hF
                  refine jj_cI (N := M_X3_count) (kc' := (kc + 554)) (ks' := (ks + 3324)) (pc' := 473) (jg_V (N := M_X3_count) (ci := 3) (rest := []) (as := [.int ((11 : Int32))]) cf_L_81 dL_law_470 ⟨rfl, rfl⟩ rfl rfl ⟨Nat.le_of_ble_eq_true rfl, Nat.le_of_ble_eq_true rfl⟩ ⟨hk.1, hk.2⟩ (Nat.le_of_ble_eq_true rfl) (fun X' hX => KX3_count hX)) rfl rfl rfl rfl ⟨hk.1, hk.2⟩ rfl hF (fun x171 h170 hF => ?_)
                  refine jj_iload (j := 5) (i := 9) (pc' := 475) dL_law_473 rfl rfl ?_
                  refine jj_icmp_ne (tgt := 489) (pc' := 478) dL_law_475 rfl rfl (fun hc hF => ?_) (fun hc hF => ?_) hF
                  · skip
                    refine jj_iconst (v := (0 : Int32)) (pc' := 490) dL_law_489 rfl rfl ?_
                    obtain ⟨hw, hF⟩ := jf_w_inv hF
                    refine jj_wide hw.1 hw.2 ?_
                    exact jj_retI (ty := .boolean) rfl rfl dL_law_490 ⟨Nat.le_of_ble_eq_true rfl, Nat.le_of_ble_eq_true rfl⟩ hF
                  · skip
                    refine jj_aload_n (j := 9) (i := 1) (pc' := 479) dL_law_478 rfl rfl rfl ?_
                    obtain ⟨hk, hF⟩ := jf_k_inv hF
                    refine jj_cL (N := M_L_seen) (kc' := (kc + 1045)) (ks' := (ks + 6270)) (pc' := 482) (jg_S (N := M_L_seen) (rest := []) (as := [.ref a1]) cf_L_131 rfl dL_law_479 rfl rfl ⟨Nat.le_of_ble_eq_true rfl, Nat.le_of_ble_eq_true rfl⟩ ⟨hk.1, hk.2⟩ (Nat.le_of_ble_eq_true rfl) (fun X' hX => KL_seen hX)) rfl rfl rfl rfl ⟨hk.1, hk.2⟩ rfl hF (fun l173 h172 hF => ?_)
                    refine jj_aload_n (j := 10) (i := 2) (pc' := 483) dL_law_482 rfl rfl rfl ?_
                    refine jj_iload_n (j := 11) (i := 3) (pc' := 484) dL_law_483 rfl rfl rfl ?_
                    refine jj_ldL (pc' := 485) dL_law_484 rfl hF (fun l174 hF => ?_)
                    refine jj_lcmp (pc' := 486) dL_law_485 rfl ?_
                    refine jj_if_eq (tgt := 491) (pc' := 489) dL_law_486 rfl rfl (fun hc hF => ?_) (fun hc hF => ?_) hF
                    · skip
                      refine jj_iload_n (j := 11) (i := 3) (pc' := 492) dL_law_491 rfl rfl rfl ?_
                      refine jj_iload (j := 0) (i := 14) (pc' := 494) dL_law_492 rfl rfl ?_
                      refine jj_if_eq_f (pc' := 497) dL_law_494 rfl (by decide) 501 rfl ?_
                      refine jj_iconst (v := (0 : Int32)) (pc' := 498) dL_law_497 rfl rfl ?_
                      refine jj_goto (tgt := 502) dL_law_498 rfl ?_
                      refine jj_iadd (pc' := 503) dL_law_502 rfl ?_
                      refine jj_istore_n (i := 3) (ls' := [(3, .int (x3 + ((0 : Int32)))), (14, .int ((1 : Int32))), (13, .int x169), (12, .int (x120 - ((10 : Int32)))), (11, .int x118), (10, .int x116), (9, .int x114), (8, .int x109), (7, .int x107), (0, .ref 1000000), (1, .ref a1), (2, .ref a2), (4, .long l4), (6, .int x6)]) (pc' := 504) dL_law_503 rfl (Nat.le_of_ble_eq_true rfl) rfl rfl ?_
                      refine jj_iinc (i := 6) (j := 13) (v := x6 + (1 : Int32)) (ls' := [(6, .int (x6 + (1 : Int32))), (3, .int (x3 + ((0 : Int32)))), (14, .int ((1 : Int32))), (13, .int x169), (12, .int (x120 - ((10 : Int32)))), (11, .int x118), (10, .int x116), (9, .int x114), (8, .int x109), (7, .int x107), (0, .ref 1000000), (1, .ref a1), (2, .ref a2), (4, .long l4)]) (pc' := 507) dL_law_504 rfl rfl (Nat.le_of_ble_eq_true rfl) rfl rfl ?_
                      refine jj_goto (tgt := 98) dL_law_507 rfl ?_
                      exact jj_pick [10, 11, 12, 1, 13, 0] rfl (ih (kc + 1045) (ks + 6270) a1 a2 (x3 + ((0 : Int32))) l4 (x6 + (1 : Int32)) h172 _ hF)
                    · skip
                      refine jj_iconst (v := (0 : Int32)) (pc' := 490) dL_law_489 rfl rfl ?_
                      obtain ⟨hw, hF⟩ := jf_w_inv hF
                      refine jj_wide hw.1 hw.2 ?_
                      exact jj_retI (ty := .boolean) rfl rfl dL_law_490 ⟨Nat.le_of_ble_eq_true rfl, Nat.le_of_ble_eq_true rfl⟩ hF
            · skip
              refine jj_aload_n (j := 7) (i := 1) (pc' := 265) dL_law_264 rfl rfl rfl ?_
              refine jj_bipush (v := (7 : Int32)) (pc' := 267) dL_law_265 rfl rfl ?_
              refine jj_iload (j := 2) (i := 10) (pc' := 269) dL_law_267 rfl rfl ?_
              refine jj_iload (j := 1) (i := 11) (pc' := 271) dL_law_269 rfl rfl ?_
              refine jj_iconst (v := (0 : Int32)) (pc' := 272) dL_law_271 rfl rfl ?_
              refine jj_lconst (v := (0 : Int64)) (pc' := 273) dL_law_272 rfl rfl ?_
              obtain ⟨hk, hF⟩ := jf_k_inv hF
              refine jj_cI (N := M_L_call) (kc' := (kc + 553)) (ks' := (ks + 3318)) (pc' := 276) (jg_H (N := M_L_call) (rest := []) (as := [.ref a1, .int ((7 : Int32)), .int x116, .int x118, .int ((0 : Int32)), .long ((0 : Int64))]) cf_L_119 (by decide) dL_law_273 rfl rfl ⟨Nat.le_of_ble_eq_true rfl, Nat.le_of_ble_eq_true rfl⟩ ⟨hk.1, hk.2⟩ (Nat.le_of_ble_eq_true rfl) (fun X' hX => KL_call hX)) rfl rfl rfl rfl ⟨hk.1, hk.2⟩ rfl hF (fun x176 h175 hF => ?_)
              refine jj_goto (tgt := 448) dL_law_276 rfl ?_
              refine jj_istore (i := 13) (ls' := [(13, .int x176), (12, .int (x120 - ((10 : Int32)))), (11, .int x118), (10, .int x116), (9, .int x114), (8, .int x109), (7, .int x107), (0, .ref 1000000), (1, .ref a1), (2, .ref a2), (3, .int x3), (4, .long l4), (6, .int x6)]) (pc' := 450) dL_law_448 (Nat.le_of_ble_eq_true rfl) rfl rfl ?_
              refine jj_iload (j := 0) (i := 13) (pc' := 452) dL_law_450 rfl rfl ?_
              refine jj_if_ge (tgt := 459) (pc' := 455) dL_law_452 rfl rfl (fun hc hF => ?_) (fun hc hF => ?_) hF
              · skip
                refine jj_iconst (v := (0 : Int32)) (pc' := 460) dL_law_459 rfl rfl ?_
                refine jj_istore (i := 14) (ls' := [(14, .int ((0 : Int32))), (13, .int x176), (12, .int (x120 - ((10 : Int32)))), (11, .int x118), (10, .int x116), (9, .int x114), (8, .int x109), (7, .int x107), (0, .ref 1000000), (1, .ref a1), (2, .ref a2), (3, .int x3), (4, .long l4), (6, .int x6)]) (pc' := 462) dL_law_460 (Nat.le_of_ble_eq_true rfl) rfl rfl ?_
                refine jj_iload (j := 0) (i := 14) (pc' := 464) dL_law_462 rfl rfl ?_
                refine jj_if_eq_t (tgt := 491) dL_law_464 rfl (by decide) ?_
                refine jj_iload_n (j := 11) (i := 3) (pc' := 492) dL_law_491 rfl rfl rfl ?_
                refine jj_iload (j := 0) (i := 14) (pc' := 494) dL_law_492 rfl rfl ?_
                refine jj_if_eq_t (tgt := 501) dL_law_494 rfl (by decide) ?_
                refine jj_iconst (v := (1 : Int32)) (pc' := 502) dL_law_501 rfl rfl ?_
                refine jj_iadd (pc' := 503) dL_law_502 rfl ?_
                refine jj_istore_n (i := 3) (ls' := [(3, .int (x3 + ((1 : Int32)))), (14, .int ((0 : Int32))), (13, .int x176), (12, .int (x120 - ((10 : Int32)))), (11, .int x118), (10, .int x116), (9, .int x114), (8, .int x109), (7, .int x107), (0, .ref 1000000), (1, .ref a1), (2, .ref a2), (4, .long l4), (6, .int x6)]) (pc' := 504) dL_law_503 rfl (Nat.le_of_ble_eq_true rfl) rfl rfl ?_
                refine jj_iinc (i := 6) (j := 13) (v := x6 + (1 : Int32)) (ls' := [(6, .int (x6 + (1 : Int32))), (3, .int (x3 + ((1 : Int32)))), (14, .int ((0 : Int32))), (13, .int x176), (12, .int (x120 - ((10 : Int32)))), (11, .int x118), (10, .int x116), (9, .int x114), (8, .int x109), (7, .int x107), (0, .ref 1000000), (1, .ref a1), (2, .ref a2), (4, .long l4)]) (pc' := 507) dL_law_504 rfl rfl (Nat.le_of_ble_eq_true rfl) rfl rfl ?_
                refine jj_goto (tgt := 98) dL_law_507 rfl ?_
                exact jj_pick [10, 11, 12, 1, 13, 0] rfl (ih (kc + 553) (ks + 3318) a1 a2 (x3 + ((1 : Int32))) l4 (x6 + (1 : Int32)) h175 _ hF)
              · skip
                refine jj_iconst (v := (1 : Int32)) (pc' := 456) dL_law_455 rfl rfl ?_
                refine jj_goto (tgt := 460) dL_law_456 rfl ?_
                refine jj_istore (i := 14) (ls' := [(14, .int ((1 : Int32))), (13, .int x176), (12, .int (x120 - ((10 : Int32)))), (11, .int x118), (10, .int x116), (9, .int x114), (8, .int x109), (7, .int x107), (0, .ref 1000000), (1, .ref a1), (2, .ref a2), (3, .int x3), (4, .long l4), (6, .int x6)]) (pc' := 462) dL_law_460 (Nat.le_of_ble_eq_true rfl) rfl rfl ?_
                refine jj_iload (j := 0) (i := 14) (pc' := 464) dL_law_462 rfl rfl ?_
                refine jj_if_eq_f (pc' := 467) dL_law_464 rfl (by decide) 491 rfl ?_
                refine jj_aload_n (j := 9) (i := 1) (pc' := 468) dL_law_467 rfl rfl rfl ?_
                refine jj_bipush (v := (11 : Int32)) (pc' := 470) dL_law_468 rfl rfl ?_
                obtain ⟨hk, hF⟩ := jf_k_inv hF
                refine jj_cI (N := M_X3_count) (kc' := (kc + 554)) (ks' := (ks + 3324)) (pc' := 473) (jg_V (N := M_X3_count) (ci := 3) (rest := []) (as := [.int ((11 : Int32))]) cf_L_81 dL_law_470 ⟨rfl, rfl⟩ rfl rfl ⟨Nat.le_of_ble_eq_true rfl, Nat.le_of_ble_eq_true rfl⟩ ⟨hk.1, hk.2⟩ (Nat.le_of_ble_eq_true rfl) (fun X' hX => KX3_count hX)) rfl rfl rfl rfl ⟨hk.1, hk.2⟩ rfl hF (fun x178 h177 hF => ?_)
                refine jj_iload (j := 5) (i := 9) (pc' := 475) dL_law_473 rfl rfl ?_
                refine jj_icmp_ne (tgt := 489) (pc' := 478) dL_law_475 rfl rfl (fun hc hF => ?_) (fun hc hF => ?_) hF
                · skip
                  refine jj_iconst (v := (0 : Int32)) (pc' := 490) dL_law_489 rfl rfl ?_
                  obtain ⟨hw, hF⟩ := jf_w_inv hF
                  refine jj_wide hw.1 hw.2 ?_
                  exact jj_retI (ty := .boolean) rfl rfl dL_law_490 ⟨Nat.le_of_ble_eq_true rfl, Nat.le_of_ble_eq_true rfl⟩ hF
                · skip
                  refine jj_aload_n (j := 9) (i := 1) (pc' := 479) dL_law_478 rfl rfl rfl ?_
                  obtain ⟨hk, hF⟩ := jf_k_inv hF
                  refine jj_cL (N := M_L_seen) (kc' := (kc + 1045)) (ks' := (ks + 6270)) (pc' := 482) (jg_S (N := M_L_seen) (rest := []) (as := [.ref a1]) cf_L_131 rfl dL_law_479 rfl rfl ⟨Nat.le_of_ble_eq_true rfl, Nat.le_of_ble_eq_true rfl⟩ ⟨hk.1, hk.2⟩ (Nat.le_of_ble_eq_true rfl) (fun X' hX => KL_seen hX)) rfl rfl rfl rfl ⟨hk.1, hk.2⟩ rfl hF (fun l180 h179 hF => ?_)
                  refine jj_aload_n (j := 10) (i := 2) (pc' := 483) dL_law_482 rfl rfl rfl ?_
                  refine jj_iload_n (j := 11) (i := 3) (pc' := 484) dL_law_483 rfl rfl rfl ?_
                  refine jj_ldL (pc' := 485) dL_law_484 rfl hF (fun l181 hF => ?_)
                  refine jj_lcmp (pc' := 486) dL_law_485 rfl ?_
                  refine jj_if_eq (tgt := 491) (pc' := 489) dL_law_486 rfl rfl (fun hc hF => ?_) (fun hc hF => ?_) hF
                  · skip
                    refine jj_iload_n (j := 11) (i := 3) (pc' := 492) dL_law_491 rfl rfl rfl ?_
                    refine jj_iload (j := 0) (i := 14) (pc' := 494) dL_law_492 rfl rfl ?_
                    refine jj_if_eq_f (pc' := 497) dL_law_494 rfl (by decide) 501 rfl ?_
                    refine jj_iconst (v := (0 : Int32)) (pc' := 498) dL_law_497 rfl rfl ?_
                    refine jj_goto (tgt := 502) dL_law_498 rfl ?_
                    refine jj_iadd (pc' := 503) dL_law_502 rfl ?_
                    refine jj_istore_n (i := 3) (ls' := [(3, .int (x3 + ((0 : Int32)))), (14, .int ((1 : Int32))), (13, .int x176), (12, .int (x120 - ((10 : Int32)))), (11, .int x118), (10, .int x116), (9, .int x114), (8, .int x109), (7, .int x107), (0, .ref 1000000), (1, .ref a1), (2, .ref a2), (4, .long l4), (6, .int x6)]) (pc' := 504) dL_law_503 rfl (Nat.le_of_ble_eq_true rfl) rfl rfl ?_
                    refine jj_iinc (i := 6) (j := 13) (v := x6 + (1 : Int32)) (ls' := [(6, .int (x6 + (1 : Int32))), (3, .int (x3 + ((0 : Int32)))), (14, .int ((1 : Int32))), (13, .int x176), (12, .int (x120 - ((10 : Int32)))), (11, .int x118), (10, .int x116), (9, .int x114), (8, .int x109), (7, .int x107), (0, .ref 1000000), (1, .ref a1), (2, .ref a2), (4, .long l4)]) (pc' := 507) dL_law_504 rfl rfl (Nat.le_of_ble_eq_true rfl) rfl rfl ?_
                    refine jj_goto (tgt := 98) dL_law_507 rfl ?_
                    exact jj_pick [10, 11, 12, 1, 13, 0] rfl (ih (kc + 1045) (ks + 6270) a1 a2 (x3 + ((0 : Int32))) l4 (x6 + (1 : Int32)) h179 _ hF)
                  · skip
                    refine jj_iconst (v := (0 : Int32)) (pc' := 490) dL_law_489 rfl rfl ?_
                    obtain ⟨hw, hF⟩ := jf_w_inv hF
                    refine jj_wide hw.1 hw.2 ?_
                    exact jj_retI (ty := .boolean) rfl rfl dL_law_490 ⟨Nat.le_of_ble_eq_true rfl, Nat.le_of_ble_eq_true rfl⟩ hF
          · skip
            refine jj_aload_n (j := 7) (i := 1) (pc' := 245) dL_law_244 rfl rfl rfl ?_
            refine jj_iconst (v := (4 : Int32)) (pc' := 246) dL_law_245 rfl rfl ?_
            refine jj_iload (j := 2) (i := 10) (pc' := 248) dL_law_246 rfl rfl ?_
            refine jj_iconst (v := (0 : Int32)) (pc' := 249) dL_law_248 rfl rfl ?_
            refine jj_iconst (v := (0 : Int32)) (pc' := 250) dL_law_249 rfl rfl ?_
            refine jj_lconst (v := (0 : Int64)) (pc' := 251) dL_law_250 rfl rfl ?_
            obtain ⟨hk, hF⟩ := jf_k_inv hF
            refine jj_cI (N := M_L_call) (kc' := (kc + 553)) (ks' := (ks + 3318)) (pc' := 254) (jg_H (N := M_L_call) (rest := []) (as := [.ref a1, .int ((4 : Int32)), .int x116, .int ((0 : Int32)), .int ((0 : Int32)), .long ((0 : Int64))]) cf_L_119 (by decide) dL_law_251 rfl rfl ⟨Nat.le_of_ble_eq_true rfl, Nat.le_of_ble_eq_true rfl⟩ ⟨hk.1, hk.2⟩ (Nat.le_of_ble_eq_true rfl) (fun X' hX => KL_call hX)) rfl rfl rfl rfl ⟨hk.1, hk.2⟩ rfl hF (fun x183 h182 hF => ?_)
            refine jj_goto (tgt := 448) dL_law_254 rfl ?_
            refine jj_istore (i := 13) (ls' := [(13, .int x183), (12, .int (x120 - ((10 : Int32)))), (11, .int x118), (10, .int x116), (9, .int x114), (8, .int x109), (7, .int x107), (0, .ref 1000000), (1, .ref a1), (2, .ref a2), (3, .int x3), (4, .long l4), (6, .int x6)]) (pc' := 450) dL_law_448 (Nat.le_of_ble_eq_true rfl) rfl rfl ?_
            refine jj_iload (j := 0) (i := 13) (pc' := 452) dL_law_450 rfl rfl ?_
            refine jj_if_ge (tgt := 459) (pc' := 455) dL_law_452 rfl rfl (fun hc hF => ?_) (fun hc hF => ?_) hF
            · skip
              refine jj_iconst (v := (0 : Int32)) (pc' := 460) dL_law_459 rfl rfl ?_
              refine jj_istore (i := 14) (ls' := [(14, .int ((0 : Int32))), (13, .int x183), (12, .int (x120 - ((10 : Int32)))), (11, .int x118), (10, .int x116), (9, .int x114), (8, .int x109), (7, .int x107), (0, .ref 1000000), (1, .ref a1), (2, .ref a2), (3, .int x3), (4, .long l4), (6, .int x6)]) (pc' := 462) dL_law_460 (Nat.le_of_ble_eq_true rfl) rfl rfl ?_
              refine jj_iload (j := 0) (i := 14) (pc' := 464) dL_law_462 rfl rfl ?_
              refine jj_if_eq_t (tgt := 491) dL_law_464 rfl (by decide) ?_
              refine jj_iload_n (j := 11) (i := 3) (pc' := 492) dL_law_491 rfl rfl rfl ?_
              refine jj_iload (j := 0) (i := 14) (pc' := 494) dL_law_492 rfl rfl ?_
              refine jj_if_eq_t (tgt := 501) dL_law_494 rfl (by decide) ?_
              refine jj_iconst (v := (1 : Int32)) (pc' := 502) dL_law_501 rfl rfl ?_
              refine jj_iadd (pc' := 503) dL_law_502 rfl ?_
              refine jj_istore_n (i := 3) (ls' := [(3, .int (x3 + ((1 : Int32)))), (14, .int ((0 : Int32))), (13, .int x183), (12, .int (x120 - ((10 : Int32)))), (11, .int x118), (10, .int x116), (9, .int x114), (8, .int x109), (7, .int x107), (0, .ref 1000000), (1, .ref a1), (2, .ref a2), (4, .long l4), (6, .int x6)]) (pc' := 504) dL_law_503 rfl (Nat.le_of_ble_eq_true rfl) rfl rfl ?_
              refine jj_iinc (i := 6) (j := 13) (v := x6 + (1 : Int32)) (ls' := [(6, .int (x6 + (1 : Int32))), (3, .int (x3 + ((1 : Int32)))), (14, .int ((0 : Int32))), (13, .int x183), (12, .int (x120 - ((10 : Int32)))), (11, .int x118), (10, .int x116), (9, .int x114), (8, .int x109), (7, .int x107), (0, .ref 1000000), (1, .ref a1), (2, .ref a2), (4, .long l4)]) (pc' := 507) dL_law_504 rfl rfl (Nat.le_of_ble_eq_true rfl) rfl rfl ?_
              refine jj_goto (tgt := 98) dL_law_507 rfl ?_
              exact jj_pick [10, 11, 12, 1, 13, 0] rfl (ih (kc + 553) (ks + 3318) a1 a2 (x3 + ((1 : Int32))) l4 (x6 + (1 : Int32)) h182 _ hF)
            · skip
              refine jj_iconst (v := (1 : Int32)) (pc' := 456) dL_law_455 rfl rfl ?_
              refine jj_goto (tgt := 460) dL_law_456 rfl ?_
              refine jj_istore (i := 14) (ls' := [(14, .int ((1 : Int32))), (13, .int x183), (12, .int (x120 - ((10 : Int32)))), (11, .int x118), (10, .int x116), (9, .int x114), (8, .int x109), (7, .int x107), (0, .ref 1000000), (1, .ref a1), (2, .ref a2), (3, .int x3), (4, .long l4), (6, .int x6)]) (pc' := 462) dL_law_460 (Nat.le_of_ble_eq_true rfl) rfl rfl ?_
              refine jj_iload (j := 0) (i := 14) (pc' := 464) dL_law_462 rfl rfl ?_
              refine jj_if_eq_f (pc' := 467) dL_law_464 rfl (by decide) 491 rfl ?_
              refine jj_aload_n (j := 9) (i := 1) (pc' := 468) dL_law_467 rfl rfl rfl ?_
              refine jj_bipush (v := (11 : Int32)) (pc' := 470) dL_law_468 rfl rfl ?_
              obtain ⟨hk, hF⟩ := jf_k_inv hF
              refine jj_cI (N := M_X3_count) (kc' := (kc + 554)) (ks' := (ks + 3324)) (pc' := 473) (jg_V (N := M_X3_count) (ci := 3) (rest := []) (as := [.int ((11 : Int32))]) cf_L_81 dL_law_470 ⟨rfl, rfl⟩ rfl rfl ⟨Nat.le_of_ble_eq_true rfl, Nat.le_of_ble_eq_true rfl⟩ ⟨hk.1, hk.2⟩ (Nat.le_of_ble_eq_true rfl) (fun X' hX => KX3_count hX)) rfl rfl rfl rfl ⟨hk.1, hk.2⟩ rfl hF (fun x185 h184 hF => ?_)
              refine jj_iload (j := 5) (i := 9) (pc' := 475) dL_law_473 rfl rfl ?_
              refine jj_icmp_ne (tgt := 489) (pc' := 478) dL_law_475 rfl rfl (fun hc hF => ?_) (fun hc hF => ?_) hF
              · skip
                refine jj_iconst (v := (0 : Int32)) (pc' := 490) dL_law_489 rfl rfl ?_
                obtain ⟨hw, hF⟩ := jf_w_inv hF
                refine jj_wide hw.1 hw.2 ?_
                exact jj_retI (ty := .boolean) rfl rfl dL_law_490 ⟨Nat.le_of_ble_eq_true rfl, Nat.le_of_ble_eq_true rfl⟩ hF
              · skip
                refine jj_aload_n (j := 9) (i := 1) (pc' := 479) dL_law_478 rfl rfl rfl ?_
                obtain ⟨hk, hF⟩ := jf_k_inv hF
                refine jj_cL (N := M_L_seen) (kc' := (kc + 1045)) (ks' := (ks + 6270)) (pc' := 482) (jg_S (N := M_L_seen) (rest := []) (as := [.ref a1]) cf_L_131 rfl dL_law_479 rfl rfl ⟨Nat.le_of_ble_eq_true rfl, Nat.le_of_ble_eq_true rfl⟩ ⟨hk.1, hk.2⟩ (Nat.le_of_ble_eq_true rfl) (fun X' hX => KL_seen hX)) rfl rfl rfl rfl ⟨hk.1, hk.2⟩ rfl hF (fun l187 h186 hF => ?_)
                refine jj_aload_n (j := 10) (i := 2) (pc' := 483) dL_law_482 rfl rfl rfl ?_
                refine jj_iload_n (j := 11) (i := 3) (pc' := 484) dL_law_483 rfl rfl rfl ?_
                refine jj_ldL (pc' := 485) dL_law_484 rfl hF (fun l188 hF => ?_)
                refine jj_lcmp (pc' := 486) dL_law_485 rfl ?_
                refine jj_if_eq (tgt := 491) (pc' := 489) dL_law_486 rfl rfl (fun hc hF => ?_) (fun hc hF => ?_) hF
                · skip
                  refine jj_iload_n (j := 11) (i := 3) (pc' := 492) dL_law_491 rfl rfl rfl ?_
                  refine jj_iload (j := 0) (i := 14) (pc' := 494) dL_law_492 rfl rfl ?_
                  refine jj_if_eq_f (pc' := 497) dL_law_494 rfl (by decide) 501 rfl ?_
                  refine jj_iconst (v := (0 : Int32)) (pc' := 498) dL_law_497 rfl rfl ?_
                  refine jj_goto (tgt := 502) dL_law_498 rfl ?_
                  refine jj_iadd (pc' := 503) dL_law_502 rfl ?_
                  refine jj_istore_n (i := 3) (ls' := [(3, .int (x3 + ((0 : Int32)))), (14, .int ((1 : Int32))), (13, .int x183), (12, .int (x120 - ((10 : Int32)))), (11, .int x118), (10, .int x116), (9, .int x114), (8, .int x109), (7, .int x107), (0, .ref 1000000), (1, .ref a1), (2, .ref a2), (4, .long l4), (6, .int x6)]) (pc' := 504) dL_law_503 rfl (Nat.le_of_ble_eq_true rfl) rfl rfl ?_
                  refine jj_iinc (i := 6) (j := 13) (v := x6 + (1 : Int32)) (ls' := [(6, .int (x6 + (1 : Int32))), (3, .int (x3 + ((0 : Int32)))), (14, .int ((1 : Int32))), (13, .int x183), (12, .int (x120 - ((10 : Int32)))), (11, .int x118), (10, .int x116), (9, .int x114), (8, .int x109), (7, .int x107), (0, .ref 1000000), (1, .ref a1), (2, .ref a2), (4, .long l4)]) (pc' := 507) dL_law_504 rfl rfl (Nat.le_of_ble_eq_true rfl) rfl rfl ?_
                  refine jj_goto (tgt := 98) dL_law_507 rfl ?_
                  exact jj_pick [10, 11, 12, 1, 13, 0] rfl (ih (kc + 1045) (ks + 6270) a1 a2 (x3 + ((0 : Int32))) l4 (x6 + (1 : Int32)) h186 _ hF)
                · skip
                  refine jj_iconst (v := (0 : Int32)) (pc' := 490) dL_law_489 rfl rfl ?_
                  obtain ⟨hw, hF⟩ := jf_w_inv hF
                  refine jj_wide hw.1 hw.2 ?_
                  exact jj_retI (ty := .boolean) rfl rfl dL_law_490 ⟨Nat.le_of_ble_eq_true rfl, Nat.le_of_ble_eq_true rfl⟩ hF
        · skip
          refine jj_aload_n (j := 7) (i := 1) (pc' := 224) dL_law_223 rfl rfl rfl ?_
          refine jj_iconst (v := (5 : Int32)) (pc' := 225) dL_law_224 rfl rfl ?_
          refine jj_iload (j := 2) (i := 10) (pc' := 227) dL_law_225 rfl rfl ?_
          refine jj_iload (j := 0) (i := 12) (pc' := 229) dL_law_227 rfl rfl ?_
          refine jj_iconst (v := (0 : Int32)) (pc' := 230) dL_law_229 rfl rfl ?_
          refine jj_lconst (v := (0 : Int64)) (pc' := 231) dL_law_230 rfl rfl ?_
          obtain ⟨hk, hF⟩ := jf_k_inv hF
          refine jj_cI (N := M_L_call) (kc' := (kc + 553)) (ks' := (ks + 3318)) (pc' := 234) (jg_H (N := M_L_call) (rest := []) (as := [.ref a1, .int ((5 : Int32)), .int x116, .int (x120 - ((10 : Int32))), .int ((0 : Int32)), .long ((0 : Int64))]) cf_L_119 (by decide) dL_law_231 rfl rfl ⟨Nat.le_of_ble_eq_true rfl, Nat.le_of_ble_eq_true rfl⟩ ⟨hk.1, hk.2⟩ (Nat.le_of_ble_eq_true rfl) (fun X' hX => KL_call hX)) rfl rfl rfl rfl ⟨hk.1, hk.2⟩ rfl hF (fun x190 h189 hF => ?_)
          refine jj_goto (tgt := 448) dL_law_234 rfl ?_
          refine jj_istore (i := 13) (ls' := [(13, .int x190), (12, .int (x120 - ((10 : Int32)))), (11, .int x118), (10, .int x116), (9, .int x114), (8, .int x109), (7, .int x107), (0, .ref 1000000), (1, .ref a1), (2, .ref a2), (3, .int x3), (4, .long l4), (6, .int x6)]) (pc' := 450) dL_law_448 (Nat.le_of_ble_eq_true rfl) rfl rfl ?_
          refine jj_iload (j := 0) (i := 13) (pc' := 452) dL_law_450 rfl rfl ?_
          refine jj_if_ge (tgt := 459) (pc' := 455) dL_law_452 rfl rfl (fun hc hF => ?_) (fun hc hF => ?_) hF
          · skip
            refine jj_iconst (v := (0 : Int32)) (pc' := 460) dL_law_459 rfl rfl ?_
            refine jj_istore (i := 14) (ls' := [(14, .int ((0 : Int32))), (13, .int x190), (12, .int (x120 - ((10 : Int32)))), (11, .int x118), (10, .int x116), (9, .int x114), (8, .int x109), (7, .int x107), (0, .ref 1000000), (1, .ref a1), (2, .ref a2), (3, .int x3), (4, .long l4), (6, .int x6)]) (pc' := 462) dL_law_460 (Nat.le_of_ble_eq_true rfl) rfl rfl ?_
            refine jj_iload (j := 0) (i := 14) (pc' := 464) dL_law_462 rfl rfl ?_
            refine jj_if_eq_t (tgt := 491) dL_law_464 rfl (by decide) ?_
            refine jj_iload_n (j := 11) (i := 3) (pc' := 492) dL_law_491 rfl rfl rfl ?_
            refine jj_iload (j := 0) (i := 14) (pc' := 494) dL_law_492 rfl rfl ?_
            refine jj_if_eq_t (tgt := 501) dL_law_494 rfl (by decide) ?_
            refine jj_iconst (v := (1 : Int32)) (pc' := 502) dL_law_501 rfl rfl ?_
            refine jj_iadd (pc' := 503) dL_law_502 rfl ?_
            refine jj_istore_n (i := 3) (ls' := [(3, .int (x3 + ((1 : Int32)))), (14, .int ((0 : Int32))), (13, .int x190), (12, .int (x120 - ((10 : Int32)))), (11, .int x118), (10, .int x116), (9, .int x114), (8, .int x109), (7, .int x107), (0, .ref 1000000), (1, .ref a1), (2, .ref a2), (4, .long l4), (6, .int x6)]) (pc' := 504) dL_law_503 rfl (Nat.le_of_ble_eq_true rfl) rfl rfl ?_
            refine jj_iinc (i := 6) (j := 13) (v := x6 + (1 : Int32)) (ls' := [(6, .int (x6 + (1 : Int32))), (3, .int (x3 + ((1 : Int32)))), (14, .int ((0 : Int32))), (13, .int x190), (12, .int (x120 - ((10 : Int32)))), (11, .int x118), (10, .int x116), (9, .int x114), (8, .int x109), (7, .int x107), (0, .ref 1000000), (1, .ref a1), (2, .ref a2), (4, .long l4)]) (pc' := 507) dL_law_504 rfl rfl (Nat.le_of_ble_eq_true rfl) rfl rfl ?_
            refine jj_goto (tgt := 98) dL_law_507 rfl ?_
            exact jj_pick [10, 11, 12, 1, 13, 0] rfl (ih (kc + 553) (ks + 3318) a1 a2 (x3 + ((1 : Int32))) l4 (x6 + (1 : Int32)) h189 _ hF)
          · skip
            refine jj_iconst (v := (1 : Int32)) (pc' := 456) dL_law_455 rfl rfl ?_
            refine jj_goto (tgt := 460) dL_law_456 rfl ?_
            refine jj_istore (i := 14) (ls' := [(14, .int ((1 : Int32))), (13, .int x190), (12, .int (x120 - ((10 : Int32)))), (11, .int x118), (10, .int x116), (9, .int x114), (8, .int x109), (7, .int x107), (0, .ref 1000000), (1, .ref a1), (2, .ref a2), (3, .int x3), (4, .long l4), (6, .int x6)]) (pc' := 462) dL_law_460 (Nat.le_of_ble_eq_true rfl) rfl rfl ?_
            refine jj_iload (j := 0) (i := 14) (pc' := 464) dL_law_462 rfl rfl ?_
            refine jj_if_eq_f (pc' := 467) dL_law_464 rfl (by decide) 491 rfl ?_
            refine jj_aload_n (j := 9) (i := 1) (pc' := 468) dL_law_467 rfl rfl rfl ?_
            refine jj_bipush (v := (11 : Int32)) (pc' := 470) dL_law_468 rfl rfl ?_
            obtain ⟨hk, hF⟩ := jf_k_inv hF
            refine jj_cI (N := M_X3_count) (kc' := (kc + 554)) (ks' := (ks + 3324)) (pc' := 473) (jg_V (N := M_X3_count) (ci := 3) (rest := []) (as := [.int ((11 : Int32))]) cf_L_81 dL_law_470 ⟨rfl, rfl⟩ rfl rfl ⟨Nat.le_of_ble_eq_true rfl, Nat.le_of_ble_eq_true rfl⟩ ⟨hk.1, hk.2⟩ (Nat.le_of_ble_eq_true rfl) (fun X' hX => KX3_count hX)) rfl rfl rfl rfl ⟨hk.1, hk.2⟩ rfl hF (fun x192 h191 hF => ?_)
            refine jj_iload (j := 5) (i := 9) (pc' := 475) dL_law_473 rfl rfl ?_
            refine jj_icmp_ne (tgt := 489) (pc' := 478) dL_law_475 rfl rfl (fun hc hF => ?_) (fun hc hF => ?_) hF
            · skip
              refine jj_iconst (v := (0 : Int32)) (pc' := 490) dL_law_489 rfl rfl ?_
              obtain ⟨hw, hF⟩ := jf_w_inv hF
              refine jj_wide hw.1 hw.2 ?_
              exact jj_retI (ty := .boolean) rfl rfl dL_law_490 ⟨Nat.le_of_ble_eq_true rfl, Nat.le_of_ble_eq_true rfl⟩ hF
            · skip
              refine jj_aload_n (j := 9) (i := 1) (pc' := 479) dL_law_478 rfl rfl rfl ?_
              obtain ⟨hk, hF⟩ := jf_k_inv hF
              refine jj_cL (N := M_L_seen) (kc' := (kc + 1045)) (ks' := (ks + 6270)) (pc' := 482) (jg_S (N := M_L_seen) (rest := []) (as := [.ref a1]) cf_L_131 rfl dL_law_479 rfl rfl ⟨Nat.le_of_ble_eq_true rfl, Nat.le_of_ble_eq_true rfl⟩ ⟨hk.1, hk.2⟩ (Nat.le_of_ble_eq_true rfl) (fun X' hX => KL_seen hX)) rfl rfl rfl rfl ⟨hk.1, hk.2⟩ rfl hF (fun l194 h193 hF => ?_)
              refine jj_aload_n (j := 10) (i := 2) (pc' := 483) dL_law_482 rfl rfl rfl ?_
              refine jj_iload_n (j := 11) (i := 3) (pc' := 484) dL_law_483 rfl rfl rfl ?_
              refine jj_ldL (pc' := 485) dL_law_484 rfl hF (fun l195 hF => ?_)
              refine jj_lcmp (pc' := 486) dL_law_485 rfl ?_
              refine jj_if_eq (tgt := 491) (pc' := 489) dL_law_486 rfl rfl (fun hc hF => ?_) (fun hc hF => ?_) hF
              · skip
                refine jj_iload_n (j := 11) (i := 3) (pc' := 492) dL_law_491 rfl rfl rfl ?_
                refine jj_iload (j := 0) (i := 14) (pc' := 494) dL_law_492 rfl rfl ?_
                refine jj_if_eq_f (pc' := 497) dL_law_494 rfl (by decide) 501 rfl ?_
                refine jj_iconst (v := (0 : Int32)) (pc' := 498) dL_law_497 rfl rfl ?_
                refine jj_goto (tgt := 502) dL_law_498 rfl ?_
                refine jj_iadd (pc' := 503) dL_law_502 rfl ?_
                refine jj_istore_n (i := 3) (ls' := [(3, .int (x3 + ((0 : Int32)))), (14, .int ((1 : Int32))), (13, .int x190), (12, .int (x120 - ((10 : Int32)))), (11, .int x118), (10, .int x116), (9, .int x114), (8, .int x109), (7, .int x107), (0, .ref 1000000), (1, .ref a1), (2, .ref a2), (4, .long l4), (6, .int x6)]) (pc' := 504) dL_law_503 rfl (Nat.le_of_ble_eq_true rfl) rfl rfl ?_
                refine jj_iinc (i := 6) (j := 13) (v := x6 + (1 : Int32)) (ls' := [(6, .int (x6 + (1 : Int32))), (3, .int (x3 + ((0 : Int32)))), (14, .int ((1 : Int32))), (13, .int x190), (12, .int (x120 - ((10 : Int32)))), (11, .int x118), (10, .int x116), (9, .int x114), (8, .int x109), (7, .int x107), (0, .ref 1000000), (1, .ref a1), (2, .ref a2), (4, .long l4)]) (pc' := 507) dL_law_504 rfl rfl (Nat.le_of_ble_eq_true rfl) rfl rfl ?_
                refine jj_goto (tgt := 98) dL_law_507 rfl ?_
                exact jj_pick [10, 11, 12, 1, 13, 0] rfl (ih (kc + 1045) (ks + 6270) a1 a2 (x3 + ((0 : Int32))) l4 (x6 + (1 : Int32)) h193 _ hF)
              · skip
                refine jj_iconst (v := (0 : Int32)) (pc' := 490) dL_law_489 rfl rfl ?_
                obtain ⟨hw, hF⟩ := jf_w_inv hF
                refine jj_wide hw.1 hw.2 ?_
                exact jj_retI (ty := .boolean) rfl rfl dL_law_490 ⟨Nat.le_of_ble_eq_true rfl, Nat.le_of_ble_eq_true rfl⟩ hF
      · skip
        refine jj_aload_n (j := 7) (i := 1) (pc' := 182) dL_law_181 rfl rfl rfl ?_
        refine jj_iconst (v := (3 : Int32)) (pc' := 183) dL_law_182 rfl rfl ?_
        refine jj_iload (j := 5) (i := 7) (pc' := 185) dL_law_183 rfl rfl ?_
        refine jj_iconst (v := (5 : Int32)) (pc' := 186) dL_law_185 rfl rfl ?_
        refine jj_ishr (pc' := 187) dL_law_186 rfl ?_
        refine jj_iconst (v := (3 : Int32)) (pc' := 188) dL_law_187 rfl rfl ?_
        refine jj_cI (N := M_L_part) (kc' := (kc + 492)) (ks' := (ks + 2952)) (pc' := 191) (jg_S (N := M_L_part) (rest := [.int ((3 : Int32)), .ref a1]) (as := [.int (x107 >>> (((5 : Int32)) &&& 31)), .int ((3 : Int32))]) cf_L_238 rfl dL_law_188 rfl rfl ⟨Nat.le_of_ble_eq_true rfl, Nat.le_of_ble_eq_true rfl⟩ ⟨hk.1, hk.2⟩ (Nat.le_of_ble_eq_true rfl) (fun X' hX => KL_part hX)) rfl rfl rfl rfl ⟨hk.1, hk.2⟩ rfl hF (fun x197 h196 hF => ?_)
        refine jj_iload (j := 1) (i := 11) (pc' := 193) dL_law_191 rfl rfl ?_
        refine jj_iload (j := 0) (i := 12) (pc' := 195) dL_law_193 rfl rfl ?_
        refine jj_ldc2l (v := (495 : Int64)) (pc' := 198) dL_law_195 qw_116 rfl ?_
        refine jj_iload (j := 5) (i := 7) (pc' := 200) dL_law_198 rfl rfl ?_
        refine jj_bipush (v := (19 : Int32)) (pc' := 202) dL_law_200 rfl rfl ?_
        refine jj_ishr (pc' := 203) dL_law_202 rfl ?_
        refine jj_bipush (v := (27 : Int32)) (pc' := 205) dL_law_203 rfl rfl ?_
        refine jj_cI (N := M_L_part) (kc' := (kc + 492)) (ks' := (ks + 2952)) (pc' := 208) (jg_S (N := M_L_part) (rest := [.long ((495 : Int64)), .int (x120 - ((10 : Int32))), .int x118, .int x197, .int ((3 : Int32)), .ref a1]) (as := [.int (x107 >>> (((19 : Int32)) &&& 31)), .int ((27 : Int32))]) cf_L_238 rfl dL_law_205 rfl rfl ⟨Nat.le_of_ble_eq_true rfl, Nat.le_of_ble_eq_true rfl⟩ ⟨hk.1, hk.2⟩ (Nat.le_of_ble_eq_true rfl) (fun X' hX => KL_part hX)) rfl rfl rfl rfl ⟨hk.1, hk.2⟩ rfl hF (fun x199 h198 hF => ?_)
        refine jj_i2l (pc' := 209) dL_law_208 rfl ?_
        refine jj_ladd (pc' := 210) dL_law_209 rfl ?_
        obtain ⟨hk, hF⟩ := jf_k_inv hF
        refine jj_cI (N := M_L_call) (kc' := (kc + 553)) (ks' := (ks + 3318)) (pc' := 213) (jg_H (N := M_L_call) (rest := []) (as := [.ref a1, .int ((3 : Int32)), .int x197, .int x118, .int (x120 - ((10 : Int32))), .long (((495 : Int64)) + x199.toInt64)]) cf_L_119 (by decide) dL_law_210 rfl rfl ⟨Nat.le_of_ble_eq_true rfl, Nat.le_of_ble_eq_true rfl⟩ ⟨hk.1, hk.2⟩ (Nat.le_of_ble_eq_true rfl) (fun X' hX => KL_call hX)) rfl rfl rfl rfl ⟨hk.1, hk.2⟩ rfl hF (fun x201 h200 hF => ?_)
        refine jj_goto (tgt := 448) dL_law_213 rfl ?_
        refine jj_istore (i := 13) (ls' := [(13, .int x201), (12, .int (x120 - ((10 : Int32)))), (11, .int x118), (10, .int x116), (9, .int x114), (8, .int x109), (7, .int x107), (0, .ref 1000000), (1, .ref a1), (2, .ref a2), (3, .int x3), (4, .long l4), (6, .int x6)]) (pc' := 450) dL_law_448 (Nat.le_of_ble_eq_true rfl) rfl rfl ?_
        refine jj_iload (j := 0) (i := 13) (pc' := 452) dL_law_450 rfl rfl ?_
        refine jj_if_ge (tgt := 459) (pc' := 455) dL_law_452 rfl rfl (fun hc hF => ?_) (fun hc hF => ?_) hF
        · skip
          refine jj_iconst (v := (0 : Int32)) (pc' := 460) dL_law_459 rfl rfl ?_
          refine jj_istore (i := 14) (ls' := [(14, .int ((0 : Int32))), (13, .int x201), (12, .int (x120 - ((10 : Int32)))), (11, .int x118), (10, .int x116), (9, .int x114), (8, .int x109), (7, .int x107), (0, .ref 1000000), (1, .ref a1), (2, .ref a2), (3, .int x3), (4, .long l4), (6, .int x6)]) (pc' := 462) dL_law_460 (Nat.le_of_ble_eq_true rfl) rfl rfl ?_
          refine jj_iload (j := 0) (i := 14) (pc' := 464) dL_law_462 rfl rfl ?_
          refine jj_if_eq_t (tgt := 491) dL_law_464 rfl (by decide) ?_
          refine jj_iload_n (j := 11) (i := 3) (pc' := 492) dL_law_491 rfl rfl rfl ?_
          refine jj_iload (j := 0) (i := 14) (pc' := 494) dL_law_492 rfl rfl ?_
          refine jj_if_eq_t (tgt := 501) dL_law_494 rfl (by decide) ?_
          refine jj_iconst (v := (1 : Int32)) (pc' := 502) dL_law_501 rfl rfl ?_
          refine jj_iadd (pc' := 503) dL_law_502 rfl ?_
          refine jj_istore_n (i := 3) (ls' := [(3, .int (x3 + ((1 : Int32)))), (14, .int ((0 : Int32))), (13, .int x201), (12, .int (x120 - ((10 : Int32)))), (11, .int x118), (10, .int x116), (9, .int x114), (8, .int x109), (7, .int x107), (0, .ref 1000000), (1, .ref a1), (2, .ref a2), (4, .long l4), (6, .int x6)]) (pc' := 504) dL_law_503 rfl (Nat.le_of_ble_eq_true rfl) rfl rfl ?_
          refine jj_iinc (i := 6) (j := 13) (v := x6 + (1 : Int32)) (ls' := [(6, .int (x6 + (1 : Int32))), (3, .int (x3 + ((1 : Int32)))), (14, .int ((0 : Int32))), (13, .int x201), (12, .int (x120 - ((10 : Int32)))), (11, .int x118), (10, .int x116), (9, .int x114), (8, .int x109), (7, .int x107), (0, .ref 1000000), (1, .ref a1), (2, .ref a2), (4, .long l4)]) (pc' := 507) dL_law_504 rfl rfl (Nat.le_of_ble_eq_true rfl) rfl rfl ?_
          refine jj_goto (tgt := 98) dL_law_507 rfl ?_
          exact jj_pick [10, 11, 12, 1, 13, 0] rfl (ih (kc + 553) (ks + 3318) a1 a2 (x3 + ((1 : Int32))) l4 (x6 + (1 : Int32)) h200 _ hF)
        · skip
          refine jj_iconst (v := (1 : Int32)) (pc' := 456) dL_law_455 rfl rfl ?_
          refine jj_goto (tgt := 460) dL_law_456 rfl ?_
          refine jj_istore (i := 14) (ls' := [(14, .int ((1 : Int32))), (13, .int x201), (12, .int (x120 - ((10 : Int32)))), (11, .int x118), (10, .int x116), (9, .int x114), (8, .int x109), (7, .int x107), (0, .ref 1000000), (1, .ref a1), (2, .ref a2), (3, .int x3), (4, .long l4), (6, .int x6)]) (pc' := 462) dL_law_460 (Nat.le_of_ble_eq_true rfl) rfl rfl ?_
          refine jj_iload (j := 0) (i := 14) (pc' := 464) dL_law_462 rfl rfl ?_
          refine jj_if_eq_f (pc' := 467) dL_law_464 rfl (by decide) 491 rfl ?_
          refine jj_aload_n (j := 9) (i := 1) (pc' := 468) dL_law_467 rfl rfl rfl ?_
          refine jj_bipush (v := (11 : Int32)) (pc' := 470) dL_law_468 rfl rfl ?_
          obtain ⟨hk, hF⟩ := jf_k_inv hF
          refine jj_cI (N := M_X3_count) (kc' := (kc + 554)) (ks' := (ks + 3324)) (pc' := 473) (jg_V (N := M_X3_count) (ci := 3) (rest := []) (as := [.int ((11 : Int32))]) cf_L_81 dL_law_470 ⟨rfl, rfl⟩ rfl rfl ⟨Nat.le_of_ble_eq_true rfl, Nat.le_of_ble_eq_true rfl⟩ ⟨hk.1, hk.2⟩ (Nat.le_of_ble_eq_true rfl) (fun X' hX => KX3_count hX)) rfl rfl rfl rfl ⟨hk.1, hk.2⟩ rfl hF (fun x203 h202 hF => ?_)
          refine jj_iload (j := 5) (i := 9) (pc' := 475) dL_law_473 rfl rfl ?_
          refine jj_icmp_ne (tgt := 489) (pc' := 478) dL_law_475 rfl rfl (fun hc hF => ?_) (fun hc hF => ?_) hF
          · skip
            refine jj_iconst (v := (0 : Int32)) (pc' := 490) dL_law_489 rfl rfl ?_
            obtain ⟨hw, hF⟩ := jf_w_inv hF
            refine jj_wide hw.1 hw.2 ?_
            exact jj_retI (ty := .boolean) rfl rfl dL_law_490 ⟨Nat.le_of_ble_eq_true rfl, Nat.le_of_ble_eq_true rfl⟩ hF
          · skip
            refine jj_aload_n (j := 9) (i := 1) (pc' := 479) dL_law_478 rfl rfl rfl ?_
            obtain ⟨hk, hF⟩ := jf_k_inv hF
            refine jj_cL (N := M_L_seen) (kc' := (kc + 1045)) (ks' := (ks + 6270)) (pc' := 482) (jg_S (N := M_L_seen) (rest := []) (as := [.ref a1]) cf_L_131 rfl dL_law_479 rfl rfl ⟨Nat.le_of_ble_eq_true rfl, Nat.le_of_ble_eq_true rfl⟩ ⟨hk.1, hk.2⟩ (Nat.le_of_ble_eq_true rfl) (fun X' hX => KL_seen hX)) rfl rfl rfl rfl ⟨hk.1, hk.2⟩ rfl hF (fun l205 h204 hF => ?_)
            refine jj_aload_n (j := 10) (i := 2) (pc' := 483) dL_law_482 rfl rfl rfl ?_
            refine jj_iload_n (j := 11) (i := 3) (pc' := 484) dL_law_483 rfl rfl rfl ?_
            refine jj_ldL (pc' := 485) dL_law_484 rfl hF (fun l206 hF => ?_)
            refine jj_lcmp (pc' := 486) dL_law_485 rfl ?_
            refine jj_if_eq (tgt := 491) (pc' := 489) dL_law_486 rfl rfl (fun hc hF => ?_) (fun hc hF => ?_) hF
            · skip
              refine jj_iload_n (j := 11) (i := 3) (pc' := 492) dL_law_491 rfl rfl rfl ?_
              refine jj_iload (j := 0) (i := 14) (pc' := 494) dL_law_492 rfl rfl ?_
              refine jj_if_eq_f (pc' := 497) dL_law_494 rfl (by decide) 501 rfl ?_
              refine jj_iconst (v := (0 : Int32)) (pc' := 498) dL_law_497 rfl rfl ?_
              refine jj_goto (tgt := 502) dL_law_498 rfl ?_
              refine jj_iadd (pc' := 503) dL_law_502 rfl ?_
              refine jj_istore_n (i := 3) (ls' := [(3, .int (x3 + ((0 : Int32)))), (14, .int ((1 : Int32))), (13, .int x201), (12, .int (x120 - ((10 : Int32)))), (11, .int x118), (10, .int x116), (9, .int x114), (8, .int x109), (7, .int x107), (0, .ref 1000000), (1, .ref a1), (2, .ref a2), (4, .long l4), (6, .int x6)]) (pc' := 504) dL_law_503 rfl (Nat.le_of_ble_eq_true rfl) rfl rfl ?_
              refine jj_iinc (i := 6) (j := 13) (v := x6 + (1 : Int32)) (ls' := [(6, .int (x6 + (1 : Int32))), (3, .int (x3 + ((0 : Int32)))), (14, .int ((1 : Int32))), (13, .int x201), (12, .int (x120 - ((10 : Int32)))), (11, .int x118), (10, .int x116), (9, .int x114), (8, .int x109), (7, .int x107), (0, .ref 1000000), (1, .ref a1), (2, .ref a2), (4, .long l4)]) (pc' := 507) dL_law_504 rfl rfl (Nat.le_of_ble_eq_true rfl) rfl rfl ?_
              refine jj_goto (tgt := 98) dL_law_507 rfl ?_
              exact jj_pick [10, 11, 12, 1, 13, 0] rfl (ih (kc + 1045) (ks + 6270) a1 a2 (x3 + ((0 : Int32))) l4 (x6 + (1 : Int32)) h204 _ hF)
            · skip
              refine jj_iconst (v := (0 : Int32)) (pc' := 490) dL_law_489 rfl rfl ?_
              obtain ⟨hw, hF⟩ := jf_w_inv hF
              refine jj_wide hw.1 hw.2 ?_
              exact jj_retI (ty := .boolean) rfl rfl dL_law_490 ⟨Nat.le_of_ble_eq_true rfl, Nat.le_of_ble_eq_true rfl⟩ hF
set_option maxRecDepth 100000 in
set_option maxHeartbeats 4000000 in
theorem JL_law {L : Nat} {xs : Nat → Int32} {N : Nat} {h : jm_H} {X : jm_X} (hF : FL_law L xs N h = some X) : jm_J (M_L_law L xs) 0 [(0, .ref 1000000)] [] h 0 0 X := by
  unfold FL_law at hF
  refine jj_cF (N := M_L_two) (lv := [1000000]) (kc' := 28644) (ks' := 174399) (pc' := 3) (jg_S (N := M_L_two) (rest := []) (as := []) cf_L_224 rfl dL_law_0 rfl rfl ⟨Nat.le_of_ble_eq_true rfl, Nat.le_of_ble_eq_true rfl⟩ ⟨Nat.le_of_ble_eq_true rfl, Nat.le_of_ble_eq_true rfl⟩ (Nat.le_of_ble_eq_true rfl) (fun X' hX => KL_two hX)) rfl (jm_live rfl) rfl rfl rfl ⟨Nat.le_of_ble_eq_true rfl, Nat.le_of_ble_eq_true rfl⟩ rfl hF (fun x102 h101 hF => ?_)
  refine jj_if_eq (tgt := 18) (pc' := 6) dL_law_3 rfl rfl (fun hc hF => ?_) (fun hc hF => ?_) hF
  · skip
    refine jj_iconst (v := (0 : Int32)) (pc' := 19) dL_law_18 rfl rfl ?_
    exact jj_retI (ty := .boolean) rfl rfl dL_law_19 ⟨Nat.le_of_ble_eq_true rfl, Nat.le_of_ble_eq_true rfl⟩ hF
  · skip
    refine jj_cF (N := M_L_many) (lv := [1000000]) (kc' := 29163) (ks' := 180048) (pc' := 9) (jg_S (N := M_L_many) (rest := []) (as := []) cf_L_228 rfl dL_law_6 rfl rfl ⟨Nat.le_of_ble_eq_true rfl, Nat.le_of_ble_eq_true rfl⟩ ⟨Nat.le_of_ble_eq_true rfl, Nat.le_of_ble_eq_true rfl⟩ (Nat.le_of_ble_eq_true rfl) (fun X' hX => KL_many hX)) rfl (jm_live rfl) rfl rfl rfl ⟨Nat.le_of_ble_eq_true rfl, Nat.le_of_ble_eq_true rfl⟩ rfl hF (fun x104 h103 hF => ?_)
    refine jj_if_eq (tgt := 18) (pc' := 12) dL_law_9 rfl rfl (fun hc hF => ?_) (fun hc hF => ?_) hF
    · skip
      refine jj_iconst (v := (0 : Int32)) (pc' := 19) dL_law_18 rfl rfl ?_
      exact jj_retI (ty := .boolean) rfl rfl dL_law_19 ⟨Nat.le_of_ble_eq_true rfl, Nat.le_of_ble_eq_true rfl⟩ hF
    · skip
      refine jj_cF (N := M_L_texts) (lv := [1000000]) (kc' := 30287) (ks' := 189327) (pc' := 15) (jg_S (N := M_L_texts) (rest := []) (as := []) cf_L_231 rfl dL_law_12 rfl rfl ⟨Nat.le_of_ble_eq_true rfl, Nat.le_of_ble_eq_true rfl⟩ ⟨Nat.le_of_ble_eq_true rfl, Nat.le_of_ble_eq_true rfl⟩ (Nat.le_of_ble_eq_true rfl) (fun X' hX => KL_texts hX)) rfl (jm_live rfl) rfl rfl rfl ⟨Nat.le_of_ble_eq_true rfl, Nat.le_of_ble_eq_true rfl⟩ rfl hF (fun x106 h105 hF => ?_)
      refine jj_if_ne (tgt := 20) (pc' := 18) dL_law_15 rfl rfl (fun hc hF => ?_) (fun hc hF => ?_) hF
      · skip
        refine jj_new (C := RX3) (T := TX3) (N := 8) (ci := 3) (fs := [.null, .null, .null, .null, .null, .int 0, .int 0, .int 0]) (ty := tyX3) (lv := [1000000]) (kc' := 30288) (ks' := 189335) (pc' := 23) dL_law_20 rfl rfl inX3 tyX3_ok ⟨qw_82, qw_83, qw_84⟩ (by decide) (by simp) rfl (jm_live rfl) rfl rfl ⟨Nat.le_of_ble_eq_true rfl, Nat.le_of_ble_eq_true rfl⟩ hF (fun o107 h108 hF => ?_)
        refine jj_dup (pc' := 24) dL_law_23 rfl rfl ?_
        refine jj_ini (N := M_X3_init) (as := []) (rest := [.ref o107]) (lv := [1000000, o107]) (kc' := 30395) (ks' := 192510) (pc' := 27) cf_L_142 dL_law_24 rfl rfl ⟨Nat.le_of_ble_eq_true rfl, Nat.le_of_ble_eq_true rfl⟩ ⟨Nat.le_of_ble_eq_true rfl, Nat.le_of_ble_eq_true rfl⟩ (Nat.le_of_ble_eq_true rfl) (fun X' hX => KX3_init hX) rfl (jm_live rfl) rfl rfl rfl hF (fun h109 hF => ?_)
        refine jj_astore_n (i := 1) (ls' := [(1, .ref o107), (0, .ref 1000000)]) (pc' := 28) dL_law_27 rfl (Nat.le_of_ble_eq_true rfl) rfl rfl ?_
        refine jj_bipush (v := (64 : Int32)) (pc' := 30) dL_law_28 rfl rfl ?_
        refine jj_na (atype := .long) (ty := .long) (t := 1) (n := 64) (a0 := (64, .inr (.inl (fun _ => 0)))) (lv := [o107, 1000000]) (kc' := 30396) (ks' := 192574) (pc' := 32) dL_law_30 rfl rfl qw_115 (fun _ => rfl) (fun _ => rfl) ⟨fun _ => rfl, fun _ => trivial⟩ ⟨by decide, by decide, by decide⟩ rfl (jm_live rfl) rfl rfl ⟨Nat.le_of_ble_eq_true rfl, Nat.le_of_ble_eq_true rfl⟩ hF (fun o110 h111 hF => ?_)
        refine jj_astore_n (i := 2) (ls' := [(2, .ref o110), (1, .ref o107), (0, .ref 1000000)]) (pc' := 33) dL_law_32 rfl (Nat.le_of_ble_eq_true rfl) rfl rfl ?_
        refine jj_iconst (v := (0 : Int32)) (pc' := 34) dL_law_33 rfl rfl ?_
        refine jj_istore_n (i := 3) (ls' := [(3, .int ((0 : Int32))), (2, .ref o110), (1, .ref o107), (0, .ref 1000000)]) (pc' := 35) dL_law_34 rfl (Nat.le_of_ble_eq_true rfl) rfl rfl ?_
        refine jj_aload_n (j := 2) (i := 1) (pc' := 36) dL_law_35 rfl rfl rfl ?_
        refine jj_iconst (v := (2 : Int32)) (pc' := 37) dL_law_36 rfl rfl ?_
        refine jj_bipush (v := (15 : Int32)) (pc' := 39) dL_law_37 rfl rfl ?_
        refine jj_cI (N := M_X3_film) (kc' := 30398) (ks' := 192586) (pc' := 42) (jg_V (N := M_X3_film) (ci := 3) (rest := []) (as := [.int ((2 : Int32)), .int ((15 : Int32))]) cf_L_11 dL_law_39 ⟨rfl, rfl⟩ rfl rfl ⟨Nat.le_of_ble_eq_true rfl, Nat.le_of_ble_eq_true rfl⟩ ⟨Nat.le_of_ble_eq_true rfl, Nat.le_of_ble_eq_true rfl⟩ (Nat.le_of_ble_eq_true rfl) (fun X' hX => KX3_film hX)) rfl rfl rfl rfl ⟨Nat.le_of_ble_eq_true rfl, Nat.le_of_ble_eq_true rfl⟩ rfl hF (fun x113 h112 hF => ?_)
        refine jj_if_ne (tgt := 87) (pc' := 45) dL_law_42 rfl rfl (fun hc hF => ?_) (fun hc hF => ?_) hF
        · skip
          refine jj_iconst (v := (0 : Int32)) (pc' := 88) dL_law_87 rfl rfl ?_
          exact jj_retI (ty := .boolean) rfl rfl dL_law_88 ⟨Nat.le_of_ble_eq_true rfl, Nat.le_of_ble_eq_true rfl⟩ hF
        · skip
          refine jj_aload_n (j := 2) (i := 1) (pc' := 46) dL_law_45 rfl rfl rfl ?_
          refine jj_iconst (v := (3 : Int32)) (pc' := 47) dL_law_46 rfl rfl ?_
          refine jj_bipush (v := (10 : Int32)) (pc' := 49) dL_law_47 rfl rfl ?_
          refine jj_cI (N := M_X3_film) (kc' := 30400) (ks' := 192598) (pc' := 52) (jg_V (N := M_X3_film) (ci := 3) (rest := []) (as := [.int ((3 : Int32)), .int ((10 : Int32))]) cf_L_11 dL_law_49 ⟨rfl, rfl⟩ rfl rfl ⟨Nat.le_of_ble_eq_true rfl, Nat.le_of_ble_eq_true rfl⟩ ⟨Nat.le_of_ble_eq_true rfl, Nat.le_of_ble_eq_true rfl⟩ (Nat.le_of_ble_eq_true rfl) (fun X' hX => KX3_film hX)) rfl rfl rfl rfl ⟨Nat.le_of_ble_eq_true rfl, Nat.le_of_ble_eq_true rfl⟩ rfl hF (fun x115 h114 hF => ?_)
          refine jj_iconst (v := (1 : Int32)) (pc' := 53) dL_law_52 rfl rfl ?_
          refine jj_icmp_ne (tgt := 87) (pc' := 56) dL_law_53 rfl rfl (fun hc hF => ?_) (fun hc hF => ?_) hF
          · skip
            refine jj_iconst (v := (0 : Int32)) (pc' := 88) dL_law_87 rfl rfl ?_
            exact jj_retI (ty := .boolean) rfl rfl dL_law_88 ⟨Nat.le_of_ble_eq_true rfl, Nat.le_of_ble_eq_true rfl⟩ hF
          · skip
            refine jj_aload_n (j := 2) (i := 1) (pc' := 57) dL_law_56 rfl rfl rfl ?_
            refine jj_iconst (v := (0 : Int32)) (pc' := 58) dL_law_57 rfl rfl ?_
            refine jj_iconst (v := (1 : Int32)) (pc' := 59) dL_law_58 rfl rfl ?_
            refine jj_bipush (v := (60 : Int32)) (pc' := 61) dL_law_59 rfl rfl ?_
            refine jj_bipush (v := (10 : Int32)) (pc' := 63) dL_law_61 rfl rfl ?_
            refine jj_cI (N := M_X3_show) (kc' := 30405) (ks' := 192628) (pc' := 66) (jg_V (N := M_X3_show) (ci := 3) (rest := []) (as := [.int ((0 : Int32)), .int ((1 : Int32)), .int ((60 : Int32)), .int ((10 : Int32))]) cf_L_23 dL_law_63 ⟨rfl, rfl⟩ rfl rfl ⟨Nat.le_of_ble_eq_true rfl, Nat.le_of_ble_eq_true rfl⟩ ⟨Nat.le_of_ble_eq_true rfl, Nat.le_of_ble_eq_true rfl⟩ (Nat.le_of_ble_eq_true rfl) (fun X' hX => KX3_show hX)) rfl rfl rfl rfl ⟨Nat.le_of_ble_eq_true rfl, Nat.le_of_ble_eq_true rfl⟩ rfl hF (fun x117 h116 hF => ?_)
            refine jj_if_ne (tgt := 87) (pc' := 69) dL_law_66 rfl rfl (fun hc hF => ?_) (fun hc hF => ?_) hF
            · skip
              refine jj_iconst (v := (0 : Int32)) (pc' := 88) dL_law_87 rfl rfl ?_
              exact jj_retI (ty := .boolean) rfl rfl dL_law_88 ⟨Nat.le_of_ble_eq_true rfl, Nat.le_of_ble_eq_true rfl⟩ hF
            · skip
              refine jj_aload_n (j := 2) (i := 1) (pc' := 70) dL_law_69 rfl rfl rfl ?_
              refine jj_iconst (v := (1 : Int32)) (pc' := 71) dL_law_70 rfl rfl ?_
              refine jj_iconst (v := (0 : Int32)) (pc' := 72) dL_law_71 rfl rfl ?_
              refine jj_cI (N := M_X3_attend) (kc' := 30408) (ks' := 192646) (pc' := 75) (jg_V (N := M_X3_attend) (ci := 3) (rest := []) (as := [.int ((1 : Int32)), .int ((0 : Int32))]) cf_L_38 dL_law_72 ⟨rfl, rfl⟩ rfl rfl ⟨Nat.le_of_ble_eq_true rfl, Nat.le_of_ble_eq_true rfl⟩ ⟨Nat.le_of_ble_eq_true rfl, Nat.le_of_ble_eq_true rfl⟩ (Nat.le_of_ble_eq_true rfl) (fun X' hX => KX3_attend hX)) rfl rfl rfl rfl ⟨Nat.le_of_ble_eq_true rfl, Nat.le_of_ble_eq_true rfl⟩ rfl hF (fun x119 h118 hF => ?_)
              refine jj_iconst (v := (1 : Int32)) (pc' := 76) dL_law_75 rfl rfl ?_
              refine jj_icmp_ne (tgt := 87) (pc' := 79) dL_law_76 rfl rfl (fun hc hF => ?_) (fun hc hF => ?_) hF
              · skip
                refine jj_iconst (v := (0 : Int32)) (pc' := 88) dL_law_87 rfl rfl ?_
                exact jj_retI (ty := .boolean) rfl rfl dL_law_88 ⟨Nat.le_of_ble_eq_true rfl, Nat.le_of_ble_eq_true rfl⟩ hF
              · skip
                refine jj_aload_n (j := 2) (i := 1) (pc' := 80) dL_law_79 rfl rfl rfl ?_
                refine jj_cI (N := M_X3_keep) (kc' := 30408) (ks' := 192646) (pc' := 83) (jg_V (N := M_X3_keep) (ci := 3) (rest := []) (as := []) cf_L_147 dL_law_80 ⟨rfl, rfl⟩ rfl rfl ⟨Nat.le_of_ble_eq_true rfl, Nat.le_of_ble_eq_true rfl⟩ ⟨Nat.le_of_ble_eq_true rfl, Nat.le_of_ble_eq_true rfl⟩ (Nat.le_of_ble_eq_true rfl) (fun X' hX => KX3_keep hX)) rfl rfl rfl rfl ⟨Nat.le_of_ble_eq_true rfl, Nat.le_of_ble_eq_true rfl⟩ rfl hF (fun x121 h120 hF => ?_)
                refine jj_iconst (v := (1 : Int32)) (pc' := 84) dL_law_83 rfl rfl ?_
                refine jj_icmp_eq (tgt := 89) (pc' := 87) dL_law_84 rfl rfl (fun hc hF => ?_) (fun hc hF => ?_) hF
                · skip
                  refine jj_aload_n (j := 2) (i := 1) (pc' := 90) dL_law_89 rfl rfl rfl ?_
                  refine jj_cL (N := M_L_seen) (kc' := 30899) (ks' := 195592) (pc' := 93) (jg_S (N := M_L_seen) (rest := []) (as := [.ref o107]) cf_L_131 rfl dL_law_90 rfl rfl ⟨Nat.le_of_ble_eq_true rfl, Nat.le_of_ble_eq_true rfl⟩ ⟨Nat.le_of_ble_eq_true rfl, Nat.le_of_ble_eq_true rfl⟩ (Nat.le_of_ble_eq_true rfl) (fun X' hX => KL_seen hX)) rfl rfl rfl rfl ⟨Nat.le_of_ble_eq_true rfl, Nat.le_of_ble_eq_true rfl⟩ rfl hF (fun l123 h122 hF => ?_)
                  refine jj_lstore (i := 4) (ls' := [(4, .long l123), (3, .int ((0 : Int32))), (2, .ref o110), (1, .ref o107), (0, .ref 1000000)]) (pc' := 95) dL_law_93 (Nat.le_of_ble_eq_true rfl) rfl rfl ?_
                  refine jj_iconst (v := (0 : Int32)) (pc' := 96) dL_law_95 rfl rfl ?_
                  refine jj_istore (i := 6) (ls' := [(6, .int ((0 : Int32))), (4, .long l123), (3, .int ((0 : Int32))), (2, .ref o110), (1, .ref o107), (0, .ref 1000000)]) (pc' := 98) dL_law_96 (Nat.le_of_ble_eq_true rfl) rfl rfl ?_
                  exact jj_pick [5, 4, 3, 2, 1, 0] rfl (BL_law_98 L xs N N 30899 195592 o107 o110 ((0 : Int32)) l123 ((0 : Int32)) h122 _ hF)
                · skip
                  refine jj_iconst (v := (0 : Int32)) (pc' := 88) dL_law_87 rfl rfl ?_
                  exact jj_retI (ty := .boolean) rfl rfl dL_law_88 ⟨Nat.le_of_ble_eq_true rfl, Nat.le_of_ble_eq_true rfl⟩ hF
      · skip
        refine jj_iconst (v := (0 : Int32)) (pc' := 19) dL_law_18 rfl rfl ?_
        exact jj_retI (ty := .boolean) rfl rfl dL_law_19 ⟨Nat.le_of_ble_eq_true rfl, Nat.le_of_ble_eq_true rfl⟩ hF

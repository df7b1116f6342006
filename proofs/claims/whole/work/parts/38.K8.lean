set_option maxRecDepth 100000 in
set_option maxHeartbeats 4000000 in
theorem BX4_greeting_4 (N : Nat) : ∀ (n : Nat) (a0 : Nat) (x1 : Int32) (x2 : Int32) (h : jm_H) (X : jm_X), FX4_greeting_4 N n a0 x1 x2 h = some X → jm_J M_X4_greeting 4 [(0, .ref a0), (1, .int x1), (2, .int x2)] [] h 0 0 X := by
  intro n
  induction n with
  | zero =>
    intro a0 x1 x2 h X hF
    exact nomatch (show (none : Option jm_X) = some X from hF)
  | succ n ih =>
    intro a0 x1 x2 h X hF
    rw [FX4_greeting_4] at hF
    refine jj_iload_n (j := 2) (i := 2) (pc' := 5) dX4_greeting_4 rfl rfl rfl ?_
    refine jj_aload_n (j := 0) (i := 0) (pc' := 6) dX4_greeting_5 rfl rfl rfl ?_
    refine jj_gR (C := RX4) (T := TX4) (N := 15) (ci := 4) (k := 0) (pc' := 9) dX4_greeting_6 rfl rfl inX4 (by decide) qw_73 hF (fun r101 hF => ?_)
    refine jj_iconst (v := (2 : Int32)) (pc' := 10) dX4_greeting_9 rfl rfl ?_
    refine jj_ldI (pc' := 11) dX4_greeting_10 rfl hF (fun x102 hF => ?_)
    refine jj_icmp_ge (tgt := 37) (pc' := 14) dX4_greeting_11 rfl rfl (fun hc hF => ?_) (fun hc hF => ?_) hF
    · skip
      refine jj_iload_n (j := 1) (i := 1) (pc' := 38) dX4_greeting_37 rfl rfl rfl ?_
      exact jj_retI (ty := .int) rfl rfl dX4_greeting_38 ⟨Nat.le_of_ble_eq_true rfl, Nat.le_of_ble_eq_true rfl⟩ hF
    · skip
      refine jj_iload_n (j := 1) (i := 1) (pc' := 15) dX4_greeting_14 rfl rfl rfl ?_
      refine jj_aload_n (j := 0) (i := 0) (pc' := 16) dX4_greeting_15 rfl rfl rfl ?_
      refine jj_iload_n (j := 2) (i := 2) (pc' := 17) dX4_greeting_16 rfl rfl rfl ?_
      refine jj_cI (N := M_X4_greets) (kc' := 0) (ks' := 0) (pc' := 20) (jg_V (N := M_X4_greets) (ci := 4) (rest := [.int x1]) (as := [.int x2]) cf_X4_211 dX4_greeting_17 ⟨rfl, rfl⟩ rfl rfl ⟨Nat.le_of_ble_eq_true rfl, Nat.le_of_ble_eq_true rfl⟩ ⟨Nat.le_of_ble_eq_true rfl, Nat.le_of_ble_eq_true rfl⟩ (Nat.le_of_ble_eq_true rfl) (fun X' hX => KX4_greets hX)) rfl rfl rfl rfl ⟨Nat.le_of_ble_eq_true rfl, Nat.le_of_ble_eq_true rfl⟩ rfl hF (fun x104 h103 hF => ?_)
      refine jj_iconst (v := (-1 : Int32)) (pc' := 21) dX4_greeting_20 rfl rfl ?_
      refine jj_icmp_ne (tgt := 28) (pc' := 24) dX4_greeting_21 rfl rfl (fun hc hF => ?_) (fun hc hF => ?_) hF
      · skip
        refine jj_iconst (v := (1 : Int32)) (pc' := 29) dX4_greeting_28 rfl rfl ?_
        refine jj_iadd (pc' := 30) dX4_greeting_29 rfl ?_
        refine jj_istore_n (i := 1) (ls' := [(1, .int (x1 + ((1 : Int32)))), (0, .ref a0), (2, .int x2)]) (pc' := 31) dX4_greeting_30 rfl (Nat.le_of_ble_eq_true rfl) rfl rfl ?_
        refine jj_iinc (i := 2) (j := 2) (v := x2 + (1 : Int32)) (ls' := [(2, .int (x2 + (1 : Int32))), (1, .int (x1 + ((1 : Int32)))), (0, .ref a0)]) (pc' := 34) dX4_greeting_31 rfl rfl (Nat.le_of_ble_eq_true rfl) rfl rfl ?_
        refine jj_goto (tgt := 4) dX4_greeting_34 rfl ?_
        exact jj_pick [2, 1, 0] rfl (ih a0 (x1 + ((1 : Int32))) (x2 + (1 : Int32)) h103 _ hF)
      · skip
        refine jj_iconst (v := (0 : Int32)) (pc' := 25) dX4_greeting_24 rfl rfl ?_
        refine jj_goto (tgt := 29) dX4_greeting_25 rfl ?_
        refine jj_iadd (pc' := 30) dX4_greeting_29 rfl ?_
        refine jj_istore_n (i := 1) (ls' := [(1, .int (x1 + ((0 : Int32)))), (0, .ref a0), (2, .int x2)]) (pc' := 31) dX4_greeting_30 rfl (Nat.le_of_ble_eq_true rfl) rfl rfl ?_
        refine jj_iinc (i := 2) (j := 2) (v := x2 + (1 : Int32)) (ls' := [(2, .int (x2 + (1 : Int32))), (1, .int (x1 + ((0 : Int32)))), (0, .ref a0)]) (pc' := 34) dX4_greeting_31 rfl rfl (Nat.le_of_ble_eq_true rfl) rfl rfl ?_
        refine jj_goto (tgt := 4) dX4_greeting_34 rfl ?_
        exact jj_pick [2, 1, 0] rfl (ih a0 (x1 + ((0 : Int32))) (x2 + (1 : Int32)) h103 _ hF)
set_option maxRecDepth 100000 in
set_option maxHeartbeats 4000000 in
theorem JX4_greeting {N : Nat} {a0 : Nat} {h : jm_H} {X : jm_X} (hF : FX4_greeting N a0 h = some X) : jm_J M_X4_greeting 0 [(0, .ref a0)] [] h 0 0 X := by
  unfold FX4_greeting at hF
  refine jj_iconst (v := (0 : Int32)) (pc' := 1) dX4_greeting_0 rfl rfl ?_
  refine jj_istore_n (i := 1) (ls' := [(1, .int ((0 : Int32))), (0, .ref a0)]) (pc' := 2) dX4_greeting_1 rfl (Nat.le_of_ble_eq_true rfl) rfl rfl ?_
  refine jj_iconst (v := (0 : Int32)) (pc' := 3) dX4_greeting_2 rfl rfl ?_
  refine jj_istore_n (i := 2) (ls' := [(2, .int ((0 : Int32))), (1, .int ((0 : Int32))), (0, .ref a0)]) (pc' := 4) dX4_greeting_3 rfl (Nat.le_of_ble_eq_true rfl) rfl rfl ?_
  exact jj_pick [2, 1, 0] rfl (BX4_greeting_4 N N a0 ((0 : Int32)) ((0 : Int32)) h _ hF)
theorem KX4_greeting {N : Nat} {a0 : Nat} {h : jm_H} {X : jm_X} (hF : FX4_greeting N a0 h = some X) : jm_K M_X4_greeting [.ref a0] h X := jk_of rfl (by decide +kernel) rfl rfl (Nat.le_of_ble_eq_true rfl) (JX4_greeting hF)
set_option maxRecDepth 100000 in
set_option maxHeartbeats 4000000 in
theorem BX4_prize_4 (N : Nat) : ∀ (n : Nat) (a0 : Nat) (x1 : Int32) (x2 : Int32) (h : jm_H) (X : jm_X), FX4_prize_4 N n a0 x1 x2 h = some X → jm_J M_X4_prize 4 [(0, .ref a0), (1, .int x1), (2, .int x2)] [] h 0 0 X := by
  intro n
  induction n with
  | zero =>
    intro a0 x1 x2 h X hF
    exact nomatch (show (none : Option jm_X) = some X from hF)
  | succ n ih =>
    intro a0 x1 x2 h X hF
    rw [FX4_prize_4] at hF
    refine jj_iload_n (j := 2) (i := 2) (pc' := 5) dX4_prize_4 rfl rfl rfl ?_
    refine jj_aload_n (j := 0) (i := 0) (pc' := 6) dX4_prize_5 rfl rfl rfl ?_
    refine jj_gR (C := RX4) (T := TX4) (N := 15) (ci := 4) (k := 0) (pc' := 9) dX4_prize_6 rfl rfl inX4 (by decide) qw_73 hF (fun r101 hF => ?_)
    refine jj_iconst (v := (0 : Int32)) (pc' := 10) dX4_prize_9 rfl rfl ?_
    refine jj_ldI (pc' := 11) dX4_prize_10 rfl hF (fun x102 hF => ?_)
    refine jj_icmp_ge (tgt := 66) (pc' := 14) dX4_prize_11 rfl rfl (fun hc hF => ?_) (fun hc hF => ?_) hF
    · skip
      refine jj_iload_n (j := 1) (i := 1) (pc' := 67) dX4_prize_66 rfl rfl rfl ?_
      exact jj_retI (ty := .int) rfl rfl dX4_prize_67 ⟨Nat.le_of_ble_eq_true rfl, Nat.le_of_ble_eq_true rfl⟩ hF
    · skip
      refine jj_aload_n (j := 0) (i := 0) (pc' := 15) dX4_prize_14 rfl rfl rfl ?_
      refine jj_iload_n (j := 2) (i := 2) (pc' := 16) dX4_prize_15 rfl rfl rfl ?_
      refine jj_cI (N := M_X4_seers) (kc' := 0) (ks' := 0) (pc' := 19) (jg_V (N := M_X4_seers) (ci := 4) (rest := []) (as := [.int x2]) cf_X4_175 dX4_prize_16 ⟨rfl, rfl⟩ rfl rfl ⟨Nat.le_of_ble_eq_true rfl, Nat.le_of_ble_eq_true rfl⟩ ⟨Nat.le_of_ble_eq_true rfl, Nat.le_of_ble_eq_true rfl⟩ (Nat.le_of_ble_eq_true rfl) (fun X' hX => KX4_seers hX)) rfl rfl rfl rfl ⟨Nat.le_of_ble_eq_true rfl, Nat.le_of_ble_eq_true rfl⟩ rfl hF (fun x104 h103 hF => ?_)
      refine jj_cI (N := M_X4_bits) (kc' := 0) (ks' := 0) (pc' := 22) (jg_S (N := M_X4_bits) (rest := []) (as := [.int x104]) cf_X4_118 rfl dX4_prize_19 rfl rfl ⟨Nat.le_of_ble_eq_true rfl, Nat.le_of_ble_eq_true rfl⟩ ⟨Nat.le_of_ble_eq_true rfl, Nat.le_of_ble_eq_true rfl⟩ (Nat.le_of_ble_eq_true rfl) (fun X' hX => KX4_bits hX)) rfl rfl rfl rfl ⟨Nat.le_of_ble_eq_true rfl, Nat.le_of_ble_eq_true rfl⟩ rfl hF (fun x106 h105 hF => ?_)
      refine jj_iconst (v := (1 : Int32)) (pc' := 23) dX4_prize_22 rfl rfl ?_
      refine jj_icmp_le (tgt := 30) (pc' := 26) dX4_prize_23 rfl rfl (fun hc hF => ?_) (fun hc hF => ?_) hF
      · skip
        refine jj_iconst (v := (0 : Int32)) (pc' := 31) dX4_prize_30 rfl rfl ?_
        refine jj_istore_n (i := 3) (ls' := [(3, .int ((0 : Int32))), (0, .ref a0), (1, .int x1), (2, .int x2)]) (pc' := 32) dX4_prize_31 rfl (Nat.le_of_ble_eq_true rfl) rfl rfl ?_
        refine jj_iload_n (j := 0) (i := 3) (pc' := 33) dX4_prize_32 rfl rfl rfl ?_
        refine jj_if_eq_t (tgt := 58) dX4_prize_33 rfl (by decide) ?_
        refine jj_iload_n (j := 2) (i := 1) (pc' := 59) dX4_prize_58 rfl rfl rfl ?_
        refine jj_istore_n (i := 1) (ls' := [(1, .int x1), (3, .int ((0 : Int32))), (0, .ref a0), (2, .int x2)]) (pc' := 60) dX4_prize_59 rfl (Nat.le_of_ble_eq_true rfl) rfl rfl ?_
        refine jj_iinc (i := 2) (j := 3) (v := x2 + (1 : Int32)) (ls' := [(2, .int (x2 + (1 : Int32))), (1, .int x1), (3, .int ((0 : Int32))), (0, .ref a0)]) (pc' := 63) dX4_prize_60 rfl rfl (Nat.le_of_ble_eq_true rfl) rfl rfl ?_
        refine jj_goto (tgt := 4) dX4_prize_63 rfl ?_
        exact jj_pick [3, 1, 0] rfl (ih a0 x1 (x2 + (1 : Int32)) h105 _ hF)
      · skip
        refine jj_iconst (v := (1 : Int32)) (pc' := 27) dX4_prize_26 rfl rfl ?_
        refine jj_goto (tgt := 31) dX4_prize_27 rfl ?_
        refine jj_istore_n (i := 3) (ls' := [(3, .int ((1 : Int32))), (0, .ref a0), (1, .int x1), (2, .int x2)]) (pc' := 32) dX4_prize_31 rfl (Nat.le_of_ble_eq_true rfl) rfl rfl ?_
        refine jj_iload_n (j := 0) (i := 3) (pc' := 33) dX4_prize_32 rfl rfl rfl ?_
        refine jj_if_eq_f (pc' := 36) dX4_prize_33 rfl (by decide) 58 rfl ?_
        refine jj_iload_n (j := 2) (i := 1) (pc' := 37) dX4_prize_36 rfl rfl rfl ?_
        refine jj_iconst (v := (-1 : Int32)) (pc' := 38) dX4_prize_37 rfl rfl ?_
        refine jj_icmp_eq (tgt := 54) (pc' := 41) dX4_prize_38 rfl rfl (fun hc hF => ?_) (fun hc hF => ?_) hF
        · skip
          refine jj_iload_n (j := 3) (i := 2) (pc' := 55) dX4_prize_54 rfl rfl rfl ?_
          refine jj_goto (tgt := 59) dX4_prize_55 rfl ?_
          refine jj_istore_n (i := 1) (ls' := [(1, .int x2), (3, .int ((1 : Int32))), (0, .ref a0), (2, .int x2)]) (pc' := 60) dX4_prize_59 rfl (Nat.le_of_ble_eq_true rfl) rfl rfl ?_
          refine jj_iinc (i := 2) (j := 3) (v := x2 + (1 : Int32)) (ls' := [(2, .int (x2 + (1 : Int32))), (1, .int x2), (3, .int ((1 : Int32))), (0, .ref a0)]) (pc' := 63) dX4_prize_60 rfl rfl (Nat.le_of_ble_eq_true rfl) rfl rfl ?_
          refine jj_goto (tgt := 4) dX4_prize_63 rfl ?_
          exact jj_pick [3, 1, 0] rfl (ih a0 x2 (x2 + (1 : Int32)) h105 _ hF)
        · skip
          refine jj_aload_n (j := 1) (i := 0) (pc' := 42) dX4_prize_41 rfl rfl rfl ?_
          refine jj_iload_n (j := 3) (i := 2) (pc' := 43) dX4_prize_42 rfl rfl rfl ?_
          refine jj_cI (N := M_X4_points) (kc' := 0) (ks' := 0) (pc' := 46) (jg_V (N := M_X4_points) (ci := 4) (rest := []) (as := [.int x2]) cf_X4_178 dX4_prize_43 ⟨rfl, rfl⟩ rfl rfl ⟨Nat.le_of_ble_eq_true rfl, Nat.le_of_ble_eq_true rfl⟩ ⟨Nat.le_of_ble_eq_true rfl, Nat.le_of_ble_eq_true rfl⟩ (Nat.le_of_ble_eq_true rfl) (fun X' hX => KX4_points hX)) rfl rfl rfl rfl ⟨Nat.le_of_ble_eq_true rfl, Nat.le_of_ble_eq_true rfl⟩ rfl hF (fun x108 h107 hF => ?_)
          refine jj_aload_n (j := 1) (i := 0) (pc' := 47) dX4_prize_46 rfl rfl rfl ?_
          refine jj_iload_n (j := 2) (i := 1) (pc' := 48) dX4_prize_47 rfl rfl rfl ?_
          refine jj_cI (N := M_X4_points) (kc' := 0) (ks' := 0) (pc' := 51) (jg_V (N := M_X4_points) (ci := 4) (rest := [.int x108]) (as := [.int x1]) cf_X4_178 dX4_prize_48 ⟨rfl, rfl⟩ rfl rfl ⟨Nat.le_of_ble_eq_true rfl, Nat.le_of_ble_eq_true rfl⟩ ⟨Nat.le_of_ble_eq_true rfl, Nat.le_of_ble_eq_true rfl⟩ (Nat.le_of_ble_eq_true rfl) (fun X' hX => KX4_points hX)) rfl rfl rfl rfl ⟨Nat.le_of_ble_eq_true rfl, Nat.le_of_ble_eq_true rfl⟩ rfl hF (fun x110 h109 hF => ?_)
          refine jj_icmp_le (tgt := 58) (pc' := 54) dX4_prize_51 rfl rfl (fun hc hF => ?_) (fun hc hF => ?_) hF
          · skip
            refine jj_iload_n (j := 2) (i := 1) (pc' := 59) dX4_prize_58 rfl rfl rfl ?_
            refine jj_istore_n (i := 1) (ls' := [(1, .int x1), (3, .int ((1 : Int32))), (0, .ref a0), (2, .int x2)]) (pc' := 60) dX4_prize_59 rfl (Nat.le_of_ble_eq_true rfl) rfl rfl ?_
            refine jj_iinc (i := 2) (j := 3) (v := x2 + (1 : Int32)) (ls' := [(2, .int (x2 + (1 : Int32))), (1, .int x1), (3, .int ((1 : Int32))), (0, .ref a0)]) (pc' := 63) dX4_prize_60 rfl rfl (Nat.le_of_ble_eq_true rfl) rfl rfl ?_
            refine jj_goto (tgt := 4) dX4_prize_63 rfl ?_
            exact jj_pick [3, 1, 0] rfl (ih a0 x1 (x2 + (1 : Int32)) h109 _ hF)
          · skip
            refine jj_iload_n (j := 3) (i := 2) (pc' := 55) dX4_prize_54 rfl rfl rfl ?_
            refine jj_goto (tgt := 59) dX4_prize_55 rfl ?_
            refine jj_istore_n (i := 1) (ls' := [(1, .int x2), (3, .int ((1 : Int32))), (0, .ref a0), (2, .int x2)]) (pc' := 60) dX4_prize_59 rfl (Nat.le_of_ble_eq_true rfl) rfl rfl ?_
            refine jj_iinc (i := 2) (j := 3) (v := x2 + (1 : Int32)) (ls' := [(2, .int (x2 + (1 : Int32))), (1, .int x2), (3, .int ((1 : Int32))), (0, .ref a0)]) (pc' := 63) dX4_prize_60 rfl rfl (Nat.le_of_ble_eq_true rfl) rfl rfl ?_
            refine jj_goto (tgt := 4) dX4_prize_63 rfl ?_
            exact jj_pick [3, 1, 0] rfl (ih a0 x2 (x2 + (1 : Int32)) h109 _ hF)
set_option maxRecDepth 100000 in
set_option maxHeartbeats 4000000 in
theorem JX4_prize {N : Nat} {a0 : Nat} {h : jm_H} {X : jm_X} (hF : FX4_prize N a0 h = some X) : jm_J M_X4_prize 0 [(0, .ref a0)] [] h 0 0 X := by
  unfold FX4_prize at hF
  refine jj_iconst (v := (-1 : Int32)) (pc' := 1) dX4_prize_0 rfl rfl ?_
  refine jj_istore_n (i := 1) (ls' := [(1, .int ((-1 : Int32))), (0, .ref a0)]) (pc' := 2) dX4_prize_1 rfl (Nat.le_of_ble_eq_true rfl) rfl rfl ?_
  refine jj_iconst (v := (0 : Int32)) (pc' := 3) dX4_prize_2 rfl rfl ?_
  refine jj_istore_n (i := 2) (ls' := [(2, .int ((0 : Int32))), (1, .int ((-1 : Int32))), (0, .ref a0)]) (pc' := 4) dX4_prize_3 rfl (Nat.le_of_ble_eq_true rfl) rfl rfl ?_
  exact jj_pick [2, 1, 0] rfl (BX4_prize_4 N N a0 ((-1 : Int32)) ((0 : Int32)) h _ hF)
theorem KX4_prize {N : Nat} {a0 : Nat} {h : jm_H} {X : jm_X} (hF : FX4_prize N a0 h = some X) : jm_K M_X4_prize [.ref a0] h X := jk_of rfl (by decide +kernel) rfl rfl (Nat.le_of_ble_eq_true rfl) (JX4_prize hF)
set_option maxRecDepth 100000 in
set_option maxHeartbeats 4000000 in
theorem JX4_counted {N : Nat} {a0 : Nat} {x1 : Int32} {h : jm_H} {X : jm_X} (hF : FX4_counted N a0 x1 h = some X) : jm_J M_X4_counted 0 [(0, .ref a0), (1, .int x1)] [] h 0 0 X := by
  unfold FX4_counted at hF
  refine jj_iload_n (j := 1) (i := 1) (pc' := 1) dX4_counted_0 rfl rfl rfl ?_
  refine jj_table (N := 12) (lo := 0) (dt := 103) [64, 64, 64, 73, 78, 84, 93, 103, 103, 103, 103, 98] dX4_counted_1 ⟨by decide, by decide⟩ ⟨by decide, by decide, rfl, rfl⟩ (by decide) rfl ?_ (fun hF => ?_) hF
  · intro i b tg hb ht hx hF
    match i, hb, ht with
    | 0, hb, ht =>
      cases hb; cases ht
      refine jj_aload_n (j := 0) (i := 0) (pc' := 65) dX4_counted_64 rfl rfl rfl ?_
      refine jj_gR (C := RX4) (T := TX4) (N := 15) (ci := 4) (k := 0) (pc' := 68) dX4_counted_65 rfl rfl inX4 (by decide) qw_73 hF (fun r101 hF => ?_)
      refine jj_iconst (v := (0 : Int32)) (pc' := 69) dX4_counted_68 rfl rfl ?_
      refine jj_iload_n (j := 1) (i := 1) (pc' := 70) dX4_counted_69 rfl rfl rfl ?_
      refine jj_iadd (pc' := 71) dX4_counted_70 rfl ?_
      refine jj_ldI (pc' := 72) dX4_counted_71 rfl hF (fun x102 hF => ?_)
      exact jj_retI (ty := .int) rfl rfl dX4_counted_72 ⟨Nat.le_of_ble_eq_true rfl, Nat.le_of_ble_eq_true rfl⟩ hF
    | 1, hb, ht =>
      cases hb; cases ht
      refine jj_aload_n (j := 0) (i := 0) (pc' := 65) dX4_counted_64 rfl rfl rfl ?_
      refine jj_gR (C := RX4) (T := TX4) (N := 15) (ci := 4) (k := 0) (pc' := 68) dX4_counted_65 rfl rfl inX4 (by decide) qw_73 hF (fun r103 hF => ?_)
      refine jj_iconst (v := (0 : Int32)) (pc' := 69) dX4_counted_68 rfl rfl ?_
      refine jj_iload_n (j := 1) (i := 1) (pc' := 70) dX4_counted_69 rfl rfl rfl ?_
      refine jj_iadd (pc' := 71) dX4_counted_70 rfl ?_
      refine jj_ldI (pc' := 72) dX4_counted_71 rfl hF (fun x104 hF => ?_)
      exact jj_retI (ty := .int) rfl rfl dX4_counted_72 ⟨Nat.le_of_ble_eq_true rfl, Nat.le_of_ble_eq_true rfl⟩ hF
    | 2, hb, ht =>
      cases hb; cases ht
      refine jj_aload_n (j := 0) (i := 0) (pc' := 65) dX4_counted_64 rfl rfl rfl ?_
      refine jj_gR (C := RX4) (T := TX4) (N := 15) (ci := 4) (k := 0) (pc' := 68) dX4_counted_65 rfl rfl inX4 (by decide) qw_73 hF (fun r105 hF => ?_)
      refine jj_iconst (v := (0 : Int32)) (pc' := 69) dX4_counted_68 rfl rfl ?_
      refine jj_iload_n (j := 1) (i := 1) (pc' := 70) dX4_counted_69 rfl rfl rfl ?_
      refine jj_iadd (pc' := 71) dX4_counted_70 rfl ?_
      refine jj_ldI (pc' := 72) dX4_counted_71 rfl hF (fun x106 hF => ?_)
      exact jj_retI (ty := .int) rfl rfl dX4_counted_72 ⟨Nat.le_of_ble_eq_true rfl, Nat.le_of_ble_eq_true rfl⟩ hF
    | 3, hb, ht =>
      cases hb; cases ht
      refine jj_aload_n (j := 0) (i := 0) (pc' := 74) dX4_counted_73 rfl rfl rfl ?_
      refine jj_cI (N := M_X4_greeting) (kc' := 0) (ks' := 0) (pc' := 77) (jg_V (N := M_X4_greeting) (ci := 4) (rest := []) (as := []) cf_X4_226 dX4_counted_74 ⟨rfl, rfl⟩ rfl rfl ⟨Nat.le_of_ble_eq_true rfl, Nat.le_of_ble_eq_true rfl⟩ ⟨Nat.le_of_ble_eq_true rfl, Nat.le_of_ble_eq_true rfl⟩ (Nat.le_of_ble_eq_true rfl) (fun X' hX => KX4_greeting hX)) rfl rfl rfl rfl ⟨Nat.le_of_ble_eq_true rfl, Nat.le_of_ble_eq_true rfl⟩ rfl hF (fun x108 h107 hF => ?_)
      exact jj_retI (ty := .int) rfl rfl dX4_counted_77 ⟨Nat.le_of_ble_eq_true rfl, Nat.le_of_ble_eq_true rfl⟩ hF
    | 4, hb, ht =>
      cases hb; cases ht
      refine jj_aload_n (j := 0) (i := 0) (pc' := 79) dX4_counted_78 rfl rfl rfl ?_
      refine jj_iconst (v := (-1 : Int32)) (pc' := 80) dX4_counted_79 rfl rfl ?_
      refine jj_cI (N := M_X4_seatsOf) (kc' := 0) (ks' := 0) (pc' := 83) (jg_V (N := M_X4_seatsOf) (ci := 4) (rest := []) (as := [.int ((-1 : Int32))]) cf_X4_172 dX4_counted_80 ⟨rfl, rfl⟩ rfl rfl ⟨Nat.le_of_ble_eq_true rfl, Nat.le_of_ble_eq_true rfl⟩ ⟨Nat.le_of_ble_eq_true rfl, Nat.le_of_ble_eq_true rfl⟩ (Nat.le_of_ble_eq_true rfl) (fun X' hX => KX4_seatsOf hX)) rfl rfl rfl rfl ⟨Nat.le_of_ble_eq_true rfl, Nat.le_of_ble_eq_true rfl⟩ rfl hF (fun x110 h109 hF => ?_)
      exact jj_retI (ty := .int) rfl rfl dX4_counted_83 ⟨Nat.le_of_ble_eq_true rfl, Nat.le_of_ble_eq_true rfl⟩ hF
    | 5, hb, ht =>
      cases hb; cases ht
      refine jj_aload_n (j := 0) (i := 0) (pc' := 85) dX4_counted_84 rfl rfl rfl ?_
      refine jj_gR (C := RX4) (T := TX4) (N := 15) (ci := 4) (k := 0) (pc' := 88) dX4_counted_85 rfl rfl inX4 (by decide) qw_73 hF (fun r111 hF => ?_)
      refine jj_sipush (v := (128 : Int32)) (pc' := 91) dX4_counted_88 rfl rfl ?_
      refine jj_ldI (pc' := 92) dX4_counted_91 rfl hF (fun x112 hF => ?_)
      exact jj_retI (ty := .int) rfl rfl dX4_counted_92 ⟨Nat.le_of_ble_eq_true rfl, Nat.le_of_ble_eq_true rfl⟩ hF
    | 6, hb, ht =>
      cases hb; cases ht
      refine jj_aload_n (j := 0) (i := 0) (pc' := 94) dX4_counted_93 rfl rfl rfl ?_
      refine jj_cI (N := M_X4_prize) (kc' := 0) (ks' := 0) (pc' := 97) (jg_V (N := M_X4_prize) (ci := 4) (rest := []) (as := []) cf_X4_230 dX4_counted_94 ⟨rfl, rfl⟩ rfl rfl ⟨Nat.le_of_ble_eq_true rfl, Nat.le_of_ble_eq_true rfl⟩ ⟨Nat.le_of_ble_eq_true rfl, Nat.le_of_ble_eq_true rfl⟩ (Nat.le_of_ble_eq_true rfl) (fun X' hX => KX4_prize hX)) rfl rfl rfl rfl ⟨Nat.le_of_ble_eq_true rfl, Nat.le_of_ble_eq_true rfl⟩ rfl hF (fun x114 h113 hF => ?_)
      exact jj_retI (ty := .int) rfl rfl dX4_counted_97 ⟨Nat.le_of_ble_eq_true rfl, Nat.le_of_ble_eq_true rfl⟩ hF
    | 7, hb, ht =>
      cases hb; cases ht
      refine jj_aload_n (j := 0) (i := 0) (pc' := 104) dX4_counted_103 rfl rfl rfl ?_
      refine jj_gR (C := RX4) (T := TX4) (N := 15) (ci := 4) (k := 0) (pc' := 107) dX4_counted_104 rfl rfl inX4 (by decide) qw_73 hF (fun r115 hF => ?_)
      refine jj_iconst (v := (3 : Int32)) (pc' := 108) dX4_counted_107 rfl rfl ?_
      refine jj_iload_n (j := 1) (i := 1) (pc' := 109) dX4_counted_108 rfl rfl rfl ?_
      refine jj_iadd (pc' := 110) dX4_counted_109 rfl ?_
      refine jj_bipush (v := (7 : Int32)) (pc' := 112) dX4_counted_110 rfl rfl ?_
      refine jj_isub (pc' := 113) dX4_counted_112 rfl ?_
      refine jj_ldI (pc' := 114) dX4_counted_113 rfl hF (fun x116 hF => ?_)
      exact jj_retI (ty := .int) rfl rfl dX4_counted_114 ⟨Nat.le_of_ble_eq_true rfl, Nat.le_of_ble_eq_true rfl⟩ hF
    | 8, hb, ht =>
      cases hb; cases ht
      refine jj_aload_n (j := 0) (i := 0) (pc' := 104) dX4_counted_103 rfl rfl rfl ?_
      refine jj_gR (C := RX4) (T := TX4) (N := 15) (ci := 4) (k := 0) (pc' := 107) dX4_counted_104 rfl rfl inX4 (by decide) qw_73 hF (fun r117 hF => ?_)
      refine jj_iconst (v := (3 : Int32)) (pc' := 108) dX4_counted_107 rfl rfl ?_
      refine jj_iload_n (j := 1) (i := 1) (pc' := 109) dX4_counted_108 rfl rfl rfl ?_
      refine jj_iadd (pc' := 110) dX4_counted_109 rfl ?_
      refine jj_bipush (v := (7 : Int32)) (pc' := 112) dX4_counted_110 rfl rfl ?_
      refine jj_isub (pc' := 113) dX4_counted_112 rfl ?_
      refine jj_ldI (pc' := 114) dX4_counted_113 rfl hF (fun x118 hF => ?_)
      exact jj_retI (ty := .int) rfl rfl dX4_counted_114 ⟨Nat.le_of_ble_eq_true rfl, Nat.le_of_ble_eq_true rfl⟩ hF
    | 9, hb, ht =>
      cases hb; cases ht
      refine jj_aload_n (j := 0) (i := 0) (pc' := 104) dX4_counted_103 rfl rfl rfl ?_
      refine jj_gR (C := RX4) (T := TX4) (N := 15) (ci := 4) (k := 0) (pc' := 107) dX4_counted_104 rfl rfl inX4 (by decide) qw_73 hF (fun r119 hF => ?_)
      refine jj_iconst (v := (3 : Int32)) (pc' := 108) dX4_counted_107 rfl rfl ?_
      refine jj_iload_n (j := 1) (i := 1) (pc' := 109) dX4_counted_108 rfl rfl rfl ?_
      refine jj_iadd (pc' := 110) dX4_counted_109 rfl ?_
      refine jj_bipush (v := (7 : Int32)) (pc' := 112) dX4_counted_110 rfl rfl ?_
      refine jj_isub (pc' := 113) dX4_counted_112 rfl ?_
      refine jj_ldI (pc' := 114) dX4_counted_113 rfl hF (fun x120 hF => ?_)
      exact jj_retI (ty := .int) rfl rfl dX4_counted_114 ⟨Nat.le_of_ble_eq_true rfl, Nat.le_of_ble_eq_true rfl⟩ hF
    | 10, hb, ht =>
      cases hb; cases ht
      refine jj_aload_n (j := 0) (i := 0) (pc' := 104) dX4_counted_103 rfl rfl rfl ?_
      refine jj_gR (C := RX4) (T := TX4) (N := 15) (ci := 4) (k := 0) (pc' := 107) dX4_counted_104 rfl rfl inX4 (by decide) qw_73 hF (fun r121 hF => ?_)
      refine jj_iconst (v := (3 : Int32)) (pc' := 108) dX4_counted_107 rfl rfl ?_
      refine jj_iload_n (j := 1) (i := 1) (pc' := 109) dX4_counted_108 rfl rfl rfl ?_
      refine jj_iadd (pc' := 110) dX4_counted_109 rfl ?_
      refine jj_bipush (v := (7 : Int32)) (pc' := 112) dX4_counted_110 rfl rfl ?_
      refine jj_isub (pc' := 113) dX4_counted_112 rfl ?_
      refine jj_ldI (pc' := 114) dX4_counted_113 rfl hF (fun x122 hF => ?_)
      exact jj_retI (ty := .int) rfl rfl dX4_counted_114 ⟨Nat.le_of_ble_eq_true rfl, Nat.le_of_ble_eq_true rfl⟩ hF
    | 11, hb, ht =>
      cases hb; cases ht
      refine jj_aload_n (j := 0) (i := 0) (pc' := 99) dX4_counted_98 rfl rfl rfl ?_
      refine jj_gI (C := RX4) (T := TX4) (N := 15) (ci := 4) (k := 2) (pc' := 102) dX4_counted_99 rfl rfl inX4 (by decide) qw_80 hF (fun x123 hF => ?_)
      exact jj_retI (ty := .int) rfl rfl dX4_counted_102 ⟨Nat.le_of_ble_eq_true rfl, Nat.le_of_ble_eq_true rfl⟩ hF
    | i + 12, hb, ht => exact nomatch (show (none : Option (Option jm_X)) = some b from hb)
  · skip
    refine jj_aload_n (j := 0) (i := 0) (pc' := 104) dX4_counted_103 rfl rfl rfl ?_
    refine jj_gR (C := RX4) (T := TX4) (N := 15) (ci := 4) (k := 0) (pc' := 107) dX4_counted_104 rfl rfl inX4 (by decide) qw_73 hF (fun r124 hF => ?_)
    refine jj_iconst (v := (3 : Int32)) (pc' := 108) dX4_counted_107 rfl rfl ?_
    refine jj_iload_n (j := 1) (i := 1) (pc' := 109) dX4_counted_108 rfl rfl rfl ?_
    refine jj_iadd (pc' := 110) dX4_counted_109 rfl ?_
    refine jj_bipush (v := (7 : Int32)) (pc' := 112) dX4_counted_110 rfl rfl ?_
    refine jj_isub (pc' := 113) dX4_counted_112 rfl ?_
    refine jj_ldI (pc' := 114) dX4_counted_113 rfl hF (fun x125 hF => ?_)
    exact jj_retI (ty := .int) rfl rfl dX4_counted_114 ⟨Nat.le_of_ble_eq_true rfl, Nat.le_of_ble_eq_true rfl⟩ hF
theorem KX4_counted {N : Nat} {a0 : Nat} {x1 : Int32} {h : jm_H} {X : jm_X} (hF : FX4_counted N a0 x1 h = some X) : jm_K M_X4_counted [.ref a0, .int x1] h X := jk_of rfl (by decide +kernel) rfl rfl (Nat.le_of_ble_eq_true rfl) (JX4_counted hF)
set_option maxRecDepth 100000 in
set_option maxHeartbeats 4000000 in
theorem JX4_count {N : Nat} {a0 : Nat} {x1 : Int32} {h : jm_H} {X : jm_X} (hF : FX4_count N a0 x1 h = some X) : jm_J M_X4_count 0 [(0, .ref a0), (1, .int x1)] [] h 0 0 X := by
  unfold FX4_count at hF
  refine jj_aload_n (j := 0) (i := 0) (pc' := 1) dX4_count_0 rfl rfl rfl ?_
  refine jj_iconst (v := (0 : Int32)) (pc' := 2) dX4_count_1 rfl rfl ?_
  refine jj_p (C := RX4) (T := TX4) (N := 15) (ci := 4) (k := 7) (ty := tyX4) (pc' := 5) dX4_count_2 rfl rfl inX4 tyX4_ok nmX4 (by decide) qw_79 rfl (fun _ => ⟨rfl, rfl⟩) hF (fun h101 hF => ?_)
  refine jj_iload_n (j := 1) (i := 1) (pc' := 6) dX4_count_5 rfl rfl rfl ?_
  refine jj_iconst (v := (0 : Int32)) (pc' := 7) dX4_count_6 rfl rfl ?_
  refine jj_bipush (v := (11 : Int32)) (pc' := 9) dX4_count_7 rfl rfl ?_
  refine jj_cI (N := M_X4_in) (kc' := 0) (ks' := 0) (pc' := 12) (jg_S (N := M_X4_in) (rest := []) (as := [.int x1, .int ((0 : Int32)), .int ((11 : Int32))]) cf_X4_88 rfl dX4_count_9 rfl rfl ⟨Nat.le_of_ble_eq_true rfl, Nat.le_of_ble_eq_true rfl⟩ ⟨Nat.le_of_ble_eq_true rfl, Nat.le_of_ble_eq_true rfl⟩ (Nat.le_of_ble_eq_true rfl) (fun X' hX => KX4_in hX)) rfl rfl rfl rfl ⟨Nat.le_of_ble_eq_true rfl, Nat.le_of_ble_eq_true rfl⟩ rfl hF (fun x103 h102 hF => ?_)
  refine jj_if_eq (tgt := 23) (pc' := 15) dX4_count_12 rfl rfl (fun hc hF => ?_) (fun hc hF => ?_) hF
  · skip
    refine jj_aload_n (j := 0) (i := 0) (pc' := 24) dX4_count_23 rfl rfl rfl ?_
    refine jj_iconst (v := (1 : Int32)) (pc' := 25) dX4_count_24 rfl rfl ?_
    refine jj_cI (N := M_X4_refuses) (kc' := 0) (ks' := 0) (pc' := 28) (jg_V (N := M_X4_refuses) (ci := 4) (rest := []) (as := [.int ((1 : Int32))]) cf_X4_92 dX4_count_25 ⟨rfl, rfl⟩ rfl rfl ⟨Nat.le_of_ble_eq_true rfl, Nat.le_of_ble_eq_true rfl⟩ ⟨Nat.le_of_ble_eq_true rfl, Nat.le_of_ble_eq_true rfl⟩ (Nat.le_of_ble_eq_true rfl) (fun X' hX => KX4_refuses hX)) rfl rfl rfl rfl ⟨Nat.le_of_ble_eq_true rfl, Nat.le_of_ble_eq_true rfl⟩ rfl hF (fun x105 h104 hF => ?_)
    exact jj_retI (ty := .int) rfl rfl dX4_count_28 ⟨Nat.le_of_ble_eq_true rfl, Nat.le_of_ble_eq_true rfl⟩ hF
  · skip
    refine jj_aload_n (j := 0) (i := 0) (pc' := 16) dX4_count_15 rfl rfl rfl ?_
    refine jj_iload_n (j := 1) (i := 1) (pc' := 17) dX4_count_16 rfl rfl rfl ?_
    refine jj_cI (N := M_X4_counted) (kc' := 0) (ks' := 0) (pc' := 20) (jg_V (N := M_X4_counted) (ci := 4) (rest := []) (as := [.int x1]) cf_X4_233 dX4_count_17 ⟨rfl, rfl⟩ rfl rfl ⟨Nat.le_of_ble_eq_true rfl, Nat.le_of_ble_eq_true rfl⟩ ⟨Nat.le_of_ble_eq_true rfl, Nat.le_of_ble_eq_true rfl⟩ (Nat.le_of_ble_eq_true rfl) (fun X' hX => KX4_counted hX)) rfl rfl rfl rfl ⟨Nat.le_of_ble_eq_true rfl, Nat.le_of_ble_eq_true rfl⟩ rfl hF (fun x107 h106 hF => ?_)
    refine jj_goto (tgt := 28) dX4_count_20 rfl ?_
    exact jj_retI (ty := .int) rfl rfl dX4_count_28 ⟨Nat.le_of_ble_eq_true rfl, Nat.le_of_ble_eq_true rfl⟩ hF
theorem KX4_count {N : Nat} {a0 : Nat} {x1 : Int32} {h : jm_H} {X : jm_X} (hF : FX4_count N a0 x1 h = some X) : jm_K M_X4_count [.ref a0, .int x1] h X := jk_of rfl (by decide +kernel) rfl rfl (Nat.le_of_ble_eq_true rfl) (JX4_count hF)
set_option maxRecDepth 100000 in
set_option maxHeartbeats 4000000 in
theorem JX4_whyNot {N : Nat} {a0 : Nat} {x1 : Int32} {x2 : Int32} {x3 : Int32} {x4 : Int32} {x5 : Int32} {h : jm_H} {X : jm_X} (hF : FX4_whyNot N a0 x1 x2 x3 x4 x5 h = some X) : jm_J M_X4_whyNot 0 [(0, .ref a0), (1, .int x1), (2, .int x2), (3, .int x3), (4, .int x4), (5, .int x5)] [] h 0 0 X := by
  unfold FX4_whyNot at hF
  refine jj_aload_n (j := 0) (i := 0) (pc' := 1) dX4_whyNot_0 rfl rfl rfl ?_
  refine jj_iconst (v := (0 : Int32)) (pc' := 2) dX4_whyNot_1 rfl rfl ?_
  refine jj_p (C := RX4) (T := TX4) (N := 15) (ci := 4) (k := 7) (ty := tyX4) (pc' := 5) dX4_whyNot_2 rfl rfl inX4 tyX4_ok nmX4 (by decide) qw_79 rfl (fun _ => ⟨rfl, rfl⟩) hF (fun h101 hF => ?_)
  refine jj_aload_n (j := 0) (i := 0) (pc' := 6) dX4_whyNot_5 rfl rfl rfl ?_
  refine jj_iload_n (j := 1) (i := 1) (pc' := 7) dX4_whyNot_6 rfl rfl rfl ?_
  refine jj_cI (N := M_X4_isFilm) (kc' := 0) (ks' := 0) (pc' := 10) (jg_V (N := M_X4_isFilm) (ci := 4) (rest := []) (as := [.int x1]) cf_X4_102 dX4_whyNot_7 ⟨rfl, rfl⟩ rfl rfl ⟨Nat.le_of_ble_eq_true rfl, Nat.le_of_ble_eq_true rfl⟩ ⟨Nat.le_of_ble_eq_true rfl, Nat.le_of_ble_eq_true rfl⟩ (Nat.le_of_ble_eq_true rfl) (fun X' hX => KX4_isFilm hX)) rfl rfl rfl rfl ⟨Nat.le_of_ble_eq_true rfl, Nat.le_of_ble_eq_true rfl⟩ rfl hF (fun x103 h102 hF => ?_)
  refine jj_if_eq (tgt := 20) (pc' := 13) dX4_whyNot_10 rfl rfl (fun hc hF => ?_) (fun hc hF => ?_) hF
  · skip
    refine jj_aload_n (j := 0) (i := 0) (pc' := 21) dX4_whyNot_20 rfl rfl rfl ?_
    refine jj_iconst (v := (1 : Int32)) (pc' := 22) dX4_whyNot_21 rfl rfl ?_
    refine jj_cI (N := M_X4_refuses) (kc' := 0) (ks' := 0) (pc' := 25) (jg_V (N := M_X4_refuses) (ci := 4) (rest := []) (as := [.int ((1 : Int32))]) cf_X4_92 dX4_whyNot_22 ⟨rfl, rfl⟩ rfl rfl ⟨Nat.le_of_ble_eq_true rfl, Nat.le_of_ble_eq_true rfl⟩ ⟨Nat.le_of_ble_eq_true rfl, Nat.le_of_ble_eq_true rfl⟩ (Nat.le_of_ble_eq_true rfl) (fun X' hX => KX4_refuses hX)) rfl rfl rfl rfl ⟨Nat.le_of_ble_eq_true rfl, Nat.le_of_ble_eq_true rfl⟩ rfl hF (fun x105 h104 hF => ?_)
    exact jj_retI (ty := .int) rfl rfl dX4_whyNot_25 ⟨Nat.le_of_ble_eq_true rfl, Nat.le_of_ble_eq_true rfl⟩ hF
  · skip
    refine jj_iload_n (j := 2) (i := 2) (pc' := 14) dX4_whyNot_13 rfl rfl rfl ?_
    refine jj_cI (N := M_X4_isScreen) (kc' := 0) (ks' := 0) (pc' := 17) (jg_S (N := M_X4_isScreen) (rest := []) (as := [.int x2]) cf_X4_98 rfl dX4_whyNot_14 rfl rfl ⟨Nat.le_of_ble_eq_true rfl, Nat.le_of_ble_eq_true rfl⟩ ⟨Nat.le_of_ble_eq_true rfl, Nat.le_of_ble_eq_true rfl⟩ (Nat.le_of_ble_eq_true rfl) (fun X' hX => KX4_isScreen hX)) rfl rfl rfl rfl ⟨Nat.le_of_ble_eq_true rfl, Nat.le_of_ble_eq_true rfl⟩ rfl hF (fun x107 h106 hF => ?_)
    refine jj_if_ne (tgt := 26) (pc' := 20) dX4_whyNot_17 rfl rfl (fun hc hF => ?_) (fun hc hF => ?_) hF
    · skip
      refine jj_iload_n (j := 3) (i := 3) (pc' := 27) dX4_whyNot_26 rfl rfl rfl ?_
      refine jj_cI (N := M_X4_isMinute) (kc' := 0) (ks' := 0) (pc' := 30) (jg_S (N := M_X4_isMinute) (rest := []) (as := [.int x3]) cf_X4_105 rfl dX4_whyNot_27 rfl rfl ⟨Nat.le_of_ble_eq_true rfl, Nat.le_of_ble_eq_true rfl⟩ ⟨Nat.le_of_ble_eq_true rfl, Nat.le_of_ble_eq_true rfl⟩ (Nat.le_of_ble_eq_true rfl) (fun X' hX => KX4_isMinute hX)) rfl rfl rfl rfl ⟨Nat.le_of_ble_eq_true rfl, Nat.le_of_ble_eq_true rfl⟩ rfl hF (fun x109 h108 hF => ?_)
      refine jj_if_eq (tgt := 54) (pc' := 33) dX4_whyNot_30 rfl rfl (fun hc hF => ?_) (fun hc hF => ?_) hF
      · skip
        refine jj_aload_n (j := 0) (i := 0) (pc' := 55) dX4_whyNot_54 rfl rfl rfl ?_
        refine jj_iconst (v := (2 : Int32)) (pc' := 56) dX4_whyNot_55 rfl rfl ?_
        refine jj_cI (N := M_X4_refuses) (kc' := 0) (ks' := 0) (pc' := 59) (jg_V (N := M_X4_refuses) (ci := 4) (rest := []) (as := [.int ((2 : Int32))]) cf_X4_92 dX4_whyNot_56 ⟨rfl, rfl⟩ rfl rfl ⟨Nat.le_of_ble_eq_true rfl, Nat.le_of_ble_eq_true rfl⟩ ⟨Nat.le_of_ble_eq_true rfl, Nat.le_of_ble_eq_true rfl⟩ (Nat.le_of_ble_eq_true rfl) (fun X' hX => KX4_refuses hX)) rfl rfl rfl rfl ⟨Nat.le_of_ble_eq_true rfl, Nat.le_of_ble_eq_true rfl⟩ rfl hF (fun x111 h110 hF => ?_)
        exact jj_retI (ty := .int) rfl rfl dX4_whyNot_59 ⟨Nat.le_of_ble_eq_true rfl, Nat.le_of_ble_eq_true rfl⟩ hF
      · skip
        refine jj_iload (j := 4) (i := 4) (pc' := 35) dX4_whyNot_33 rfl rfl ?_
        refine jj_iconst (v := (0 : Int32)) (pc' := 36) dX4_whyNot_35 rfl rfl ?_
        refine jj_bipush (v := (20 : Int32)) (pc' := 38) dX4_whyNot_36 rfl rfl ?_
        refine jj_cI (N := M_X4_in) (kc' := 0) (ks' := 0) (pc' := 41) (jg_S (N := M_X4_in) (rest := []) (as := [.int x4, .int ((0 : Int32)), .int ((20 : Int32))]) cf_X4_88 rfl dX4_whyNot_38 rfl rfl ⟨Nat.le_of_ble_eq_true rfl, Nat.le_of_ble_eq_true rfl⟩ ⟨Nat.le_of_ble_eq_true rfl, Nat.le_of_ble_eq_true rfl⟩ (Nat.le_of_ble_eq_true rfl) (fun X' hX => KX4_in hX)) rfl rfl rfl rfl ⟨Nat.le_of_ble_eq_true rfl, Nat.le_of_ble_eq_true rfl⟩ rfl hF (fun x113 h112 hF => ?_)
        refine jj_if_eq (tgt := 54) (pc' := 44) dX4_whyNot_41 rfl rfl (fun hc hF => ?_) (fun hc hF => ?_) hF
        · skip
          refine jj_aload_n (j := 0) (i := 0) (pc' := 55) dX4_whyNot_54 rfl rfl rfl ?_
          refine jj_iconst (v := (2 : Int32)) (pc' := 56) dX4_whyNot_55 rfl rfl ?_
          refine jj_cI (N := M_X4_refuses) (kc' := 0) (ks' := 0) (pc' := 59) (jg_V (N := M_X4_refuses) (ci := 4) (rest := []) (as := [.int ((2 : Int32))]) cf_X4_92 dX4_whyNot_56 ⟨rfl, rfl⟩ rfl rfl ⟨Nat.le_of_ble_eq_true rfl, Nat.le_of_ble_eq_true rfl⟩ ⟨Nat.le_of_ble_eq_true rfl, Nat.le_of_ble_eq_true rfl⟩ (Nat.le_of_ble_eq_true rfl) (fun X' hX => KX4_refuses hX)) rfl rfl rfl rfl ⟨Nat.le_of_ble_eq_true rfl, Nat.le_of_ble_eq_true rfl⟩ rfl hF (fun x115 h114 hF => ?_)
          exact jj_retI (ty := .int) rfl rfl dX4_whyNot_59 ⟨Nat.le_of_ble_eq_true rfl, Nat.le_of_ble_eq_true rfl⟩ hF
        · skip
          refine jj_iload (j := 5) (i := 5) (pc' := 46) dX4_whyNot_44 rfl rfl ?_
          refine jj_iconst (v := (0 : Int32)) (pc' := 47) dX4_whyNot_46 rfl rfl ?_
          refine jj_iconst (v := (2 : Int32)) (pc' := 48) dX4_whyNot_47 rfl rfl ?_
          refine jj_cI (N := M_X4_in) (kc' := 0) (ks' := 0) (pc' := 51) (jg_S (N := M_X4_in) (rest := []) (as := [.int x5, .int ((0 : Int32)), .int ((2 : Int32))]) cf_X4_88 rfl dX4_whyNot_48 rfl rfl ⟨Nat.le_of_ble_eq_true rfl, Nat.le_of_ble_eq_true rfl⟩ ⟨Nat.le_of_ble_eq_true rfl, Nat.le_of_ble_eq_true rfl⟩ (Nat.le_of_ble_eq_true rfl) (fun X' hX => KX4_in hX)) rfl rfl rfl rfl ⟨Nat.le_of_ble_eq_true rfl, Nat.le_of_ble_eq_true rfl⟩ rfl hF (fun x117 h116 hF => ?_)
          refine jj_if_ne (tgt := 60) (pc' := 54) dX4_whyNot_51 rfl rfl (fun hc hF => ?_) (fun hc hF => ?_) hF
          · skip
            refine jj_aload_n (j := 0) (i := 0) (pc' := 61) dX4_whyNot_60 rfl rfl rfl ?_
            refine jj_iload_n (j := 1) (i := 1) (pc' := 62) dX4_whyNot_61 rfl rfl rfl ?_
            refine jj_iload_n (j := 2) (i := 2) (pc' := 63) dX4_whyNot_62 rfl rfl rfl ?_
            refine jj_iload_n (j := 3) (i := 3) (pc' := 64) dX4_whyNot_63 rfl rfl rfl ?_
            refine jj_iload (j := 4) (i := 4) (pc' := 66) dX4_whyNot_64 rfl rfl ?_
            refine jj_cI (N := M_X4_reason) (kc' := 0) (ks' := 0) (pc' := 69) (jg_V (N := M_X4_reason) (ci := 4) (rest := []) (as := [.int x1, .int x2, .int x3, .int x4]) cf_X4_108 dX4_whyNot_66 ⟨rfl, rfl⟩ rfl rfl ⟨Nat.le_of_ble_eq_true rfl, Nat.le_of_ble_eq_true rfl⟩ ⟨Nat.le_of_ble_eq_true rfl, Nat.le_of_ble_eq_true rfl⟩ (Nat.le_of_ble_eq_true rfl) (fun X' hX => KX4_reason hX)) rfl rfl rfl rfl ⟨Nat.le_of_ble_eq_true rfl, Nat.le_of_ble_eq_true rfl⟩ rfl hF (fun x119 h118 hF => ?_)
            refine jj_istore (i := 6) (ls' := [(6, .int x119), (0, .ref a0), (1, .int x1), (2, .int x2), (3, .int x3), (4, .int x4), (5, .int x5)]) (pc' := 71) dX4_whyNot_69 (Nat.le_of_ble_eq_true rfl) rfl rfl ?_
            refine jj_iload (j := 6) (i := 5) (pc' := 73) dX4_whyNot_71 rfl rfl ?_
            refine jj_if_ne (tgt := 81) (pc' := 76) dX4_whyNot_73 rfl rfl (fun hc hF => ?_) (fun hc hF => ?_) hF
            · skip
              refine jj_iload (j := 6) (i := 5) (pc' := 83) dX4_whyNot_81 rfl rfl ?_
              refine jj_iconst (v := (1 : Int32)) (pc' := 84) dX4_whyNot_83 rfl rfl ?_
              refine jj_icmp_ne (tgt := 94) (pc' := 87) dX4_whyNot_84 rfl rfl (fun hc hF => ?_) (fun hc hF => ?_) hF
              · skip
                refine jj_aload_n (j := 1) (i := 0) (pc' := 95) dX4_whyNot_94 rfl rfl rfl ?_
                refine jj_gI (C := RX4) (T := TX4) (N := 15) (ci := 4) (k := 10) (pc' := 98) dX4_whyNot_95 rfl rfl inX4 (by decide) qw_83 hF (fun x120 hF => ?_)
                exact jj_retI (ty := .int) rfl rfl dX4_whyNot_98 ⟨Nat.le_of_ble_eq_true rfl, Nat.le_of_ble_eq_true rfl⟩ hF
              · skip
                refine jj_aload_n (j := 1) (i := 0) (pc' := 88) dX4_whyNot_87 rfl rfl rfl ?_
                refine jj_gI (C := RX4) (T := TX4) (N := 15) (ci := 4) (k := 9) (pc' := 91) dX4_whyNot_88 rfl rfl inX4 (by decide) qw_82 hF (fun x121 hF => ?_)
                refine jj_goto (tgt := 98) dX4_whyNot_91 rfl ?_
                exact jj_retI (ty := .int) rfl rfl dX4_whyNot_98 ⟨Nat.le_of_ble_eq_true rfl, Nat.le_of_ble_eq_true rfl⟩ hF
            · skip
              refine jj_iload (j := 0) (i := 6) (pc' := 78) dX4_whyNot_76 rfl rfl ?_
              refine jj_goto (tgt := 98) dX4_whyNot_78 rfl ?_
              exact jj_retI (ty := .int) rfl rfl dX4_whyNot_98 ⟨Nat.le_of_ble_eq_true rfl, Nat.le_of_ble_eq_true rfl⟩ hF
          · skip
            refine jj_aload_n (j := 0) (i := 0) (pc' := 55) dX4_whyNot_54 rfl rfl rfl ?_
            refine jj_iconst (v := (2 : Int32)) (pc' := 56) dX4_whyNot_55 rfl rfl ?_
            refine jj_cI (N := M_X4_refuses) (kc' := 0) (ks' := 0) (pc' := 59) (jg_V (N := M_X4_refuses) (ci := 4) (rest := []) (as := [.int ((2 : Int32))]) cf_X4_92 dX4_whyNot_56 ⟨rfl, rfl⟩ rfl rfl ⟨Nat.le_of_ble_eq_true rfl, Nat.le_of_ble_eq_true rfl⟩ ⟨Nat.le_of_ble_eq_true rfl, Nat.le_of_ble_eq_true rfl⟩ (Nat.le_of_ble_eq_true rfl) (fun X' hX => KX4_refuses hX)) rfl rfl rfl rfl ⟨Nat.le_of_ble_eq_true rfl, Nat.le_of_ble_eq_true rfl⟩ rfl hF (fun x123 h122 hF => ?_)
            exact jj_retI (ty := .int) rfl rfl dX4_whyNot_59 ⟨Nat.le_of_ble_eq_true rfl, Nat.le_of_ble_eq_true rfl⟩ hF
    · skip
      refine jj_aload_n (j := 0) (i := 0) (pc' := 21) dX4_whyNot_20 rfl rfl rfl ?_
      refine jj_iconst (v := (1 : Int32)) (pc' := 22) dX4_whyNot_21 rfl rfl ?_
      refine jj_cI (N := M_X4_refuses) (kc' := 0) (ks' := 0) (pc' := 25) (jg_V (N := M_X4_refuses) (ci := 4) (rest := []) (as := [.int ((1 : Int32))]) cf_X4_92 dX4_whyNot_22 ⟨rfl, rfl⟩ rfl rfl ⟨Nat.le_of_ble_eq_true rfl, Nat.le_of_ble_eq_true rfl⟩ ⟨Nat.le_of_ble_eq_true rfl, Nat.le_of_ble_eq_true rfl⟩ (Nat.le_of_ble_eq_true rfl) (fun X' hX => KX4_refuses hX)) rfl rfl rfl rfl ⟨Nat.le_of_ble_eq_true rfl, Nat.le_of_ble_eq_true rfl⟩ rfl hF (fun x125 h124 hF => ?_)
      exact jj_retI (ty := .int) rfl rfl dX4_whyNot_25 ⟨Nat.le_of_ble_eq_true rfl, Nat.le_of_ble_eq_true rfl⟩ hF
theorem KX4_whyNot {N : Nat} {a0 : Nat} {x1 : Int32} {x2 : Int32} {x3 : Int32} {x4 : Int32} {x5 : Int32} {h : jm_H} {X : jm_X} (hF : FX4_whyNot N a0 x1 x2 x3 x4 x5 h = some X) : jm_K M_X4_whyNot [.ref a0, .int x1, .int x2, .int x3, .int x4, .int x5] h X := jk_of rfl (by decide +kernel) rfl rfl (Nat.le_of_ble_eq_true rfl) (JX4_whyNot hF)
set_option maxRecDepth 100000 in
set_option maxHeartbeats 4000000 in
theorem BX4_next_3 (N : Nat) : ∀ (n : Nat) (a0 : Nat) (x1 : Int32) (x2 : Int32) (x4 : Int32) (h : jm_H) (X : jm_X), FX4_next_3 N n a0 x1 x2 x4 h = some X → jm_J M_X4_next 3 [(0, .ref a0), (1, .int x1), (2, .int x2), (4, .int x4)] [] h 0 0 X := by
  intro n
  induction n with
  | zero =>
    intro a0 x1 x2 x4 h X hF
    exact nomatch (show (none : Option jm_X) = some X from hF)
  | succ n ih =>
    intro a0 x1 x2 x4 h X hF
    rw [FX4_next_3] at hF
    refine jj_iload (j := 3) (i := 4) (pc' := 5) dX4_next_3 rfl rfl ?_
    refine jj_sipush (v := (2000 : Int32)) (pc' := 8) dX4_next_5 rfl rfl ?_
    refine jj_icmp_ge (tgt := 32) (pc' := 11) dX4_next_8 rfl rfl (fun hc hF => ?_) (fun hc hF => ?_) hF
    · skip
      refine jj_iconst (v := (-1 : Int32)) (pc' := 33) dX4_next_32 rfl rfl ?_
      exact jj_retI (ty := .int) rfl rfl dX4_next_33 ⟨Nat.le_of_ble_eq_true rfl, Nat.le_of_ble_eq_true rfl⟩ hF
    · skip
      refine jj_aload_n (j := 0) (i := 0) (pc' := 12) dX4_next_11 rfl rfl rfl ?_
      refine jj_iload_n (j := 1) (i := 1) (pc' := 13) dX4_next_12 rfl rfl rfl ?_
      refine jj_iload_n (j := 2) (i := 2) (pc' := 14) dX4_next_13 rfl rfl rfl ?_
      refine jj_iload (j := 3) (i := 4) (pc' := 16) dX4_next_14 rfl rfl ?_
      refine jj_iconst (v := (0 : Int32)) (pc' := 17) dX4_next_16 rfl rfl ?_
      refine jj_cI (N := M_X4_reason) (kc' := 0) (ks' := 0) (pc' := 20) (jg_V (N := M_X4_reason) (ci := 4) (rest := []) (as := [.int x1, .int x2, .int x4, .int ((0 : Int32))]) cf_X4_108 dX4_next_17 ⟨rfl, rfl⟩ rfl rfl ⟨Nat.le_of_ble_eq_true rfl, Nat.le_of_ble_eq_true rfl⟩ ⟨Nat.le_of_ble_eq_true rfl, Nat.le_of_ble_eq_true rfl⟩ (Nat.le_of_ble_eq_true rfl) (fun X' hX => KX4_reason hX)) rfl rfl rfl rfl ⟨Nat.le_of_ble_eq_true rfl, Nat.le_of_ble_eq_true rfl⟩ rfl hF (fun x102 h101 hF => ?_)
      refine jj_if_ne (tgt := 26) (pc' := 23) dX4_next_20 rfl rfl (fun hc hF => ?_) (fun hc hF => ?_) hF
      · skip
        refine jj_iinc (i := 4) (j := 3) (v := x4 + (1 : Int32)) (ls' := [(4, .int (x4 + (1 : Int32))), (0, .ref a0), (1, .int x1), (2, .int x2)]) (pc' := 29) dX4_next_26 rfl rfl (Nat.le_of_ble_eq_true rfl) rfl rfl ?_
        refine jj_goto (tgt := 3) dX4_next_29 rfl ?_
        exact jj_pick [1, 2, 3, 0] rfl (ih a0 x1 x2 (x4 + (1 : Int32)) h101 _ hF)
      · skip
        refine jj_iload (j := 3) (i := 4) (pc' := 25) dX4_next_23 rfl rfl ?_
        exact jj_retI (ty := .int) rfl rfl dX4_next_25 ⟨Nat.le_of_ble_eq_true rfl, Nat.le_of_ble_eq_true rfl⟩ hF
set_option maxRecDepth 100000 in
set_option maxHeartbeats 4000000 in
theorem JX4_next {N : Nat} {a0 : Nat} {x1 : Int32} {x2 : Int32} {x3 : Int32} {h : jm_H} {X : jm_X} (hF : FX4_next N a0 x1 x2 x3 h = some X) : jm_J M_X4_next 0 [(0, .ref a0), (1, .int x1), (2, .int x2), (3, .int x3)] [] h 0 0 X := by
  unfold FX4_next at hF
  refine jj_iload_n (j := 3) (i := 3) (pc' := 1) dX4_next_0 rfl rfl rfl ?_
  refine jj_istore (i := 4) (ls' := [(4, .int x3), (0, .ref a0), (1, .int x1), (2, .int x2), (3, .int x3)]) (pc' := 3) dX4_next_1 (Nat.le_of_ble_eq_true rfl) rfl rfl ?_
  exact jj_pick [1, 2, 3, 0] rfl (BX4_next_3 N N a0 x1 x2 x3 h _ hF)
theorem KX4_next {N : Nat} {a0 : Nat} {x1 : Int32} {x2 : Int32} {x3 : Int32} {h : jm_H} {X : jm_X} (hF : FX4_next N a0 x1 x2 x3 h = some X) : jm_K M_X4_next [.ref a0, .int x1, .int x2, .int x3] h X := jk_of rfl (by decide +kernel) rfl rfl (Nat.le_of_ble_eq_true rfl) (JX4_next hF)
set_option maxRecDepth 100000 in
set_option maxHeartbeats 4000000 in
theorem JX4_nextStart {N : Nat} {a0 : Nat} {x1 : Int32} {x2 : Int32} {x3 : Int32} {h : jm_H} {X : jm_X} (hF : FX4_nextStart N a0 x1 x2 x3 h = some X) : jm_J M_X4_nextStart 0 [(0, .ref a0), (1, .int x1), (2, .int x2), (3, .int x3)] [] h 0 0 X := by
  unfold FX4_nextStart at hF
  refine jj_aload_n (j := 0) (i := 0) (pc' := 1) dX4_nextStart_0 rfl rfl rfl ?_
  refine jj_iconst (v := (0 : Int32)) (pc' := 2) dX4_nextStart_1 rfl rfl ?_
  refine jj_p (C := RX4) (T := TX4) (N := 15) (ci := 4) (k := 7) (ty := tyX4) (pc' := 5) dX4_nextStart_2 rfl rfl inX4 tyX4_ok nmX4 (by decide) qw_79 rfl (fun _ => ⟨rfl, rfl⟩) hF (fun h101 hF => ?_)
  refine jj_aload_n (j := 0) (i := 0) (pc' := 6) dX4_nextStart_5 rfl rfl rfl ?_
  refine jj_iload_n (j := 1) (i := 1) (pc' := 7) dX4_nextStart_6 rfl rfl rfl ?_
  refine jj_cI (N := M_X4_isFilm) (kc' := 0) (ks' := 0) (pc' := 10) (jg_V (N := M_X4_isFilm) (ci := 4) (rest := []) (as := [.int x1]) cf_X4_102 dX4_nextStart_7 ⟨rfl, rfl⟩ rfl rfl ⟨Nat.le_of_ble_eq_true rfl, Nat.le_of_ble_eq_true rfl⟩ ⟨Nat.le_of_ble_eq_true rfl, Nat.le_of_ble_eq_true rfl⟩ (Nat.le_of_ble_eq_true rfl) (fun X' hX => KX4_isFilm hX)) rfl rfl rfl rfl ⟨Nat.le_of_ble_eq_true rfl, Nat.le_of_ble_eq_true rfl⟩ rfl hF (fun x103 h102 hF => ?_)
  refine jj_if_eq (tgt := 20) (pc' := 13) dX4_nextStart_10 rfl rfl (fun hc hF => ?_) (fun hc hF => ?_) hF
  · skip
    refine jj_aload_n (j := 0) (i := 0) (pc' := 21) dX4_nextStart_20 rfl rfl rfl ?_
    refine jj_iconst (v := (1 : Int32)) (pc' := 22) dX4_nextStart_21 rfl rfl ?_
    refine jj_cI (N := M_X4_refuses) (kc' := 0) (ks' := 0) (pc' := 25) (jg_V (N := M_X4_refuses) (ci := 4) (rest := []) (as := [.int ((1 : Int32))]) cf_X4_92 dX4_nextStart_22 ⟨rfl, rfl⟩ rfl rfl ⟨Nat.le_of_ble_eq_true rfl, Nat.le_of_ble_eq_true rfl⟩ ⟨Nat.le_of_ble_eq_true rfl, Nat.le_of_ble_eq_true rfl⟩ (Nat.le_of_ble_eq_true rfl) (fun X' hX => KX4_refuses hX)) rfl rfl rfl rfl ⟨Nat.le_of_ble_eq_true rfl, Nat.le_of_ble_eq_true rfl⟩ rfl hF (fun x105 h104 hF => ?_)
    exact jj_retI (ty := .int) rfl rfl dX4_nextStart_25 ⟨Nat.le_of_ble_eq_true rfl, Nat.le_of_ble_eq_true rfl⟩ hF
  · skip
    refine jj_iload_n (j := 2) (i := 2) (pc' := 14) dX4_nextStart_13 rfl rfl rfl ?_
    refine jj_cI (N := M_X4_isScreen) (kc' := 0) (ks' := 0) (pc' := 17) (jg_S (N := M_X4_isScreen) (rest := []) (as := [.int x2]) cf_X4_98 rfl dX4_nextStart_14 rfl rfl ⟨Nat.le_of_ble_eq_true rfl, Nat.le_of_ble_eq_true rfl⟩ ⟨Nat.le_of_ble_eq_true rfl, Nat.le_of_ble_eq_true rfl⟩ (Nat.le_of_ble_eq_true rfl) (fun X' hX => KX4_isScreen hX)) rfl rfl rfl rfl ⟨Nat.le_of_ble_eq_true rfl, Nat.le_of_ble_eq_true rfl⟩ rfl hF (fun x107 h106 hF => ?_)
    refine jj_if_ne (tgt := 26) (pc' := 20) dX4_nextStart_17 rfl rfl (fun hc hF => ?_) (fun hc hF => ?_) hF
    · skip
      refine jj_iload_n (j := 3) (i := 3) (pc' := 27) dX4_nextStart_26 rfl rfl rfl ?_
      refine jj_cI (N := M_X4_isMinute) (kc' := 0) (ks' := 0) (pc' := 30) (jg_S (N := M_X4_isMinute) (rest := []) (as := [.int x3]) cf_X4_105 rfl dX4_nextStart_27 rfl rfl ⟨Nat.le_of_ble_eq_true rfl, Nat.le_of_ble_eq_true rfl⟩ ⟨Nat.le_of_ble_eq_true rfl, Nat.le_of_ble_eq_true rfl⟩ (Nat.le_of_ble_eq_true rfl) (fun X' hX => KX4_isMinute hX)) rfl rfl rfl rfl ⟨Nat.le_of_ble_eq_true rfl, Nat.le_of_ble_eq_true rfl⟩ rfl hF (fun x109 h108 hF => ?_)
      refine jj_if_eq (tgt := 43) (pc' := 33) dX4_nextStart_30 rfl rfl (fun hc hF => ?_) (fun hc hF => ?_) hF
      · skip
        refine jj_aload_n (j := 0) (i := 0) (pc' := 44) dX4_nextStart_43 rfl rfl rfl ?_
        refine jj_iconst (v := (2 : Int32)) (pc' := 45) dX4_nextStart_44 rfl rfl ?_
        refine jj_cI (N := M_X4_refuses) (kc' := 0) (ks' := 0) (pc' := 48) (jg_V (N := M_X4_refuses) (ci := 4) (rest := []) (as := [.int ((2 : Int32))]) cf_X4_92 dX4_nextStart_45 ⟨rfl, rfl⟩ rfl rfl ⟨Nat.le_of_ble_eq_true rfl, Nat.le_of_ble_eq_true rfl⟩ ⟨Nat.le_of_ble_eq_true rfl, Nat.le_of_ble_eq_true rfl⟩ (Nat.le_of_ble_eq_true rfl) (fun X' hX => KX4_refuses hX)) rfl rfl rfl rfl ⟨Nat.le_of_ble_eq_true rfl, Nat.le_of_ble_eq_true rfl⟩ rfl hF (fun x111 h110 hF => ?_)
        exact jj_retI (ty := .int) rfl rfl dX4_nextStart_48 ⟨Nat.le_of_ble_eq_true rfl, Nat.le_of_ble_eq_true rfl⟩ hF
      · skip
        refine jj_aload_n (j := 0) (i := 0) (pc' := 34) dX4_nextStart_33 rfl rfl rfl ?_
        refine jj_iload_n (j := 1) (i := 1) (pc' := 35) dX4_nextStart_34 rfl rfl rfl ?_
        refine jj_iload_n (j := 2) (i := 2) (pc' := 36) dX4_nextStart_35 rfl rfl rfl ?_
        refine jj_iload_n (j := 3) (i := 3) (pc' := 37) dX4_nextStart_36 rfl rfl rfl ?_
        refine jj_cI (N := M_X4_next) (kc' := 0) (ks' := 0) (pc' := 40) (jg_V (N := M_X4_next) (ci := 4) (rest := []) (as := [.int x1, .int x2, .int x3]) cf_X4_236 dX4_nextStart_37 ⟨rfl, rfl⟩ rfl rfl ⟨Nat.le_of_ble_eq_true rfl, Nat.le_of_ble_eq_true rfl⟩ ⟨Nat.le_of_ble_eq_true rfl, Nat.le_of_ble_eq_true rfl⟩ (Nat.le_of_ble_eq_true rfl) (fun X' hX => KX4_next hX)) rfl rfl rfl rfl ⟨Nat.le_of_ble_eq_true rfl, Nat.le_of_ble_eq_true rfl⟩ rfl hF (fun x113 h112 hF => ?_)
        refine jj_goto (tgt := 48) dX4_nextStart_40 rfl ?_
        exact jj_retI (ty := .int) rfl rfl dX4_nextStart_48 ⟨Nat.le_of_ble_eq_true rfl, Nat.le_of_ble_eq_true rfl⟩ hF
    · skip
      refine jj_aload_n (j := 0) (i := 0) (pc' := 21) dX4_nextStart_20 rfl rfl rfl ?_
      refine jj_iconst (v := (1 : Int32)) (pc' := 22) dX4_nextStart_21 rfl rfl ?_
      refine jj_cI (N := M_X4_refuses) (kc' := 0) (ks' := 0) (pc' := 25) (jg_V (N := M_X4_refuses) (ci := 4) (rest := []) (as := [.int ((1 : Int32))]) cf_X4_92 dX4_nextStart_22 ⟨rfl, rfl⟩ rfl rfl ⟨Nat.le_of_ble_eq_true rfl, Nat.le_of_ble_eq_true rfl⟩ ⟨Nat.le_of_ble_eq_true rfl, Nat.le_of_ble_eq_true rfl⟩ (Nat.le_of_ble_eq_true rfl) (fun X' hX => KX4_refuses hX)) rfl rfl rfl rfl ⟨Nat.le_of_ble_eq_true rfl, Nat.le_of_ble_eq_true rfl⟩ rfl hF (fun x115 h114 hF => ?_)
      exact jj_retI (ty := .int) rfl rfl dX4_nextStart_25 ⟨Nat.le_of_ble_eq_true rfl, Nat.le_of_ble_eq_true rfl⟩ hF
theorem KX4_nextStart {N : Nat} {a0 : Nat} {x1 : Int32} {x2 : Int32} {x3 : Int32} {h : jm_H} {X : jm_X} (hF : FX4_nextStart N a0 x1 x2 x3 h = some X) : jm_K M_X4_nextStart [.ref a0, .int x1, .int x2, .int x3] h X := jk_of rfl (by decide +kernel) rfl rfl (Nat.le_of_ble_eq_true rfl) (JX4_nextStart hF)
set_option maxRecDepth 100000 in
set_option maxHeartbeats 4000000 in
theorem BX4_best_8 (N : Nat) : ∀ (n : Nat) (a0 : Nat) (x1 : Int32) (x2 : Int32) (x3 : Int32) (x4 : Int32) (x5 : Int32) (h : jm_H) (X : jm_X), FX4_best_8 N n a0 x1 x2 x3 x4 x5 h = some X → jm_J M_X4_best 8 [(0, .ref a0), (1, .int x1), (2, .int x2), (3, .int x3), (4, .int x4), (5, .int x5)] [] h 0 0 X := by
  intro n
  induction n with
  | zero =>
    intro a0 x1 x2 x3 x4 x5 h X hF
    exact nomatch (show (none : Option jm_X) = some X from hF)
  | succ n ih =>
    intro a0 x1 x2 x3 x4 x5 h X hF
    rw [FX4_best_8] at hF
    refine jj_iload (j := 5) (i := 5) (pc' := 10) dX4_best_8 rfl rfl ?_
    refine jj_iconst (v := (3 : Int32)) (pc' := 11) dX4_best_10 rfl rfl ?_
    refine jj_icmp_ge (tgt := 127) (pc' := 14) dX4_best_11 rfl rfl (fun hc hF => ?_) (fun hc hF => ?_) hF
    · skip
      refine jj_iload_n (j := 3) (i := 3) (pc' := 128) dX4_best_127 rfl rfl rfl ?_
      exact jj_retI (ty := .int) rfl rfl dX4_best_128 ⟨Nat.le_of_ble_eq_true rfl, Nat.le_of_ble_eq_true rfl⟩ hF
    · skip
      refine jj_aload_n (j := 0) (i := 0) (pc' := 15) dX4_best_14 rfl rfl rfl ?_
      refine jj_iload_n (j := 1) (i := 1) (pc' := 16) dX4_best_15 rfl rfl rfl ?_
      refine jj_iload (j := 5) (i := 5) (pc' := 18) dX4_best_16 rfl rfl ?_
      refine jj_iload_n (j := 2) (i := 2) (pc' := 19) dX4_best_18 rfl rfl rfl ?_
      refine jj_cI (N := M_X4_next) (kc' := 0) (ks' := 0) (pc' := 22) (jg_V (N := M_X4_next) (ci := 4) (rest := []) (as := [.int x1, .int x5, .int x2]) cf_X4_236 dX4_best_19 ⟨rfl, rfl⟩ rfl rfl ⟨Nat.le_of_ble_eq_true rfl, Nat.le_of_ble_eq_true rfl⟩ ⟨Nat.le_of_ble_eq_true rfl, Nat.le_of_ble_eq_true rfl⟩ (Nat.le_of_ble_eq_true rfl) (fun X' hX => KX4_next hX)) rfl rfl rfl rfl ⟨Nat.le_of_ble_eq_true rfl, Nat.le_of_ble_eq_true rfl⟩ rfl hF (fun x102 h101 hF => ?_)
      refine jj_istore (i := 6) (ls' := [(6, .int x102), (0, .ref a0), (1, .int x1), (2, .int x2), (3, .int x3), (4, .int x4), (5, .int x5)]) (pc' := 24) dX4_best_22 (Nat.le_of_ble_eq_true rfl) rfl rfl ?_
      refine jj_iload_n (j := 4) (i := 3) (pc' := 25) dX4_best_24 rfl rfl rfl ?_
      refine jj_iconst (v := (-1 : Int32)) (pc' := 26) dX4_best_25 rfl rfl ?_
      refine jj_icmp_eq (tgt := 62) (pc' := 29) dX4_best_26 rfl rfl (fun hc hF => ?_) (fun hc hF => ?_) hF
      · skip
        refine jj_iconst (v := (0 : Int32)) (pc' := 63) dX4_best_62 rfl rfl ?_
        refine jj_istore (i := 7) (ls' := [(7, .int ((0 : Int32))), (6, .int x102), (0, .ref a0), (1, .int x1), (2, .int x2), (3, .int x3), (4, .int x4), (5, .int x5)]) (pc' := 65) dX4_best_63 (Nat.le_of_ble_eq_true rfl) rfl rfl ?_
        refine jj_iload (j := 1) (i := 6) (pc' := 67) dX4_best_65 rfl rfl ?_
        refine jj_iconst (v := (-1 : Int32)) (pc' := 68) dX4_best_67 rfl rfl ?_
        refine jj_icmp_eq (tgt := 92) (pc' := 71) dX4_best_68 rfl rfl (fun hc hF => ?_) (fun hc hF => ?_) hF
        · skip
          refine jj_iconst (v := (0 : Int32)) (pc' := 93) dX4_best_92 rfl rfl ?_
          refine jj_istore (i := 8) (ls' := [(8, .int ((0 : Int32))), (7, .int ((0 : Int32))), (6, .int x102), (0, .ref a0), (1, .int x1), (2, .int x2), (3, .int x3), (4, .int x4), (5, .int x5)]) (pc' := 95) dX4_best_93 (Nat.le_of_ble_eq_true rfl) rfl rfl ?_
          refine jj_iload (j := 0) (i := 8) (pc' := 97) dX4_best_95 rfl rfl ?_
          refine jj_if_eq_t (tgt := 105) dX4_best_97 rfl (by decide) ?_
          refine jj_iload_n (j := 6) (i := 3) (pc' := 106) dX4_best_105 rfl rfl rfl ?_
          refine jj_istore_n (i := 3) (ls' := [(3, .int x3), (8, .int ((0 : Int32))), (7, .int ((0 : Int32))), (6, .int x102), (0, .ref a0), (1, .int x1), (2, .int x2), (4, .int x4), (5, .int x5)]) (pc' := 107) dX4_best_106 rfl (Nat.le_of_ble_eq_true rfl) rfl rfl ?_
          refine jj_iload (j := 1) (i := 8) (pc' := 109) dX4_best_107 rfl rfl ?_
          refine jj_if_eq_t (tgt := 117) dX4_best_109 rfl (by decide) ?_
          refine jj_iload (j := 7) (i := 4) (pc' := 119) dX4_best_117 rfl rfl ?_
          refine jj_istore (i := 4) (ls' := [(4, .int x4), (3, .int x3), (8, .int ((0 : Int32))), (7, .int ((0 : Int32))), (6, .int x102), (0, .ref a0), (1, .int x1), (2, .int x2), (5, .int x5)]) (pc' := 121) dX4_best_119 (Nat.le_of_ble_eq_true rfl) rfl rfl ?_
          refine jj_iinc (i := 5) (j := 8) (v := x5 + (1 : Int32)) (ls' := [(5, .int (x5 + (1 : Int32))), (4, .int x4), (3, .int x3), (8, .int ((0 : Int32))), (7, .int ((0 : Int32))), (6, .int x102), (0, .ref a0), (1, .int x1), (2, .int x2)]) (pc' := 124) dX4_best_121 rfl rfl (Nat.le_of_ble_eq_true rfl) rfl rfl ?_
          refine jj_goto (tgt := 8) dX4_best_124 rfl ?_
          exact jj_pick [6, 7, 8, 2, 1, 0] rfl (ih a0 x1 x2 x3 x4 (x5 + (1 : Int32)) h101 _ hF)
        · skip
          refine jj_iload_n (j := 5) (i := 3) (pc' := 72) dX4_best_71 rfl rfl rfl ?_
          refine jj_iconst (v := (-1 : Int32)) (pc' := 73) dX4_best_72 rfl rfl ?_
          refine jj_icmp_eq (tgt := 88) (pc' := 76) dX4_best_73 rfl rfl (fun hc hF => ?_) (fun hc hF => ?_) hF
          · skip
            refine jj_iconst (v := (1 : Int32)) (pc' := 89) dX4_best_88 rfl rfl ?_
            refine jj_goto (tgt := 93) dX4_best_89 rfl ?_
            refine jj_istore (i := 8) (ls' := [(8, .int ((1 : Int32))), (7, .int ((0 : Int32))), (6, .int x102), (0, .ref a0), (1, .int x1), (2, .int x2), (3, .int x3), (4, .int x4), (5, .int x5)]) (pc' := 95) dX4_best_93 (Nat.le_of_ble_eq_true rfl) rfl rfl ?_
            refine jj_iload (j := 0) (i := 8) (pc' := 97) dX4_best_95 rfl rfl ?_
            refine jj_if_eq_f (pc' := 100) dX4_best_97 rfl (by decide) 105 rfl ?_
            refine jj_iload (j := 8) (i := 5) (pc' := 102) dX4_best_100 rfl rfl ?_
            refine jj_goto (tgt := 106) dX4_best_102 rfl ?_
            refine jj_istore_n (i := 3) (ls' := [(3, .int x5), (8, .int ((1 : Int32))), (7, .int ((0 : Int32))), (6, .int x102), (0, .ref a0), (1, .int x1), (2, .int x2), (4, .int x4), (5, .int x5)]) (pc' := 107) dX4_best_106 rfl (Nat.le_of_ble_eq_true rfl) rfl rfl ?_
            refine jj_iload (j := 1) (i := 8) (pc' := 109) dX4_best_107 rfl rfl ?_
            refine jj_if_eq_f (pc' := 112) dX4_best_109 rfl (by decide) 117 rfl ?_
            refine jj_iload (j := 3) (i := 6) (pc' := 114) dX4_best_112 rfl rfl ?_
            refine jj_goto (tgt := 119) dX4_best_114 rfl ?_
            refine jj_istore (i := 4) (ls' := [(4, .int x102), (3, .int x5), (8, .int ((1 : Int32))), (7, .int ((0 : Int32))), (6, .int x102), (0, .ref a0), (1, .int x1), (2, .int x2), (5, .int x5)]) (pc' := 121) dX4_best_119 (Nat.le_of_ble_eq_true rfl) rfl rfl ?_
            refine jj_iinc (i := 5) (j := 8) (v := x5 + (1 : Int32)) (ls' := [(5, .int (x5 + (1 : Int32))), (4, .int x102), (3, .int x5), (8, .int ((1 : Int32))), (7, .int ((0 : Int32))), (6, .int x102), (0, .ref a0), (1, .int x1), (2, .int x2)]) (pc' := 124) dX4_best_121 rfl rfl (Nat.le_of_ble_eq_true rfl) rfl rfl ?_
            refine jj_goto (tgt := 8) dX4_best_124 rfl ?_
            exact jj_pick [6, 7, 8, 2, 1, 0] rfl (ih a0 x1 x2 x5 x102 (x5 + (1 : Int32)) h101 _ hF)
          · skip
            refine jj_iload (j := 1) (i := 6) (pc' := 78) dX4_best_76 rfl rfl ?_
            refine jj_iload (j := 6) (i := 4) (pc' := 80) dX4_best_78 rfl rfl ?_
            refine jj_icmp_lt (tgt := 88) (pc' := 83) dX4_best_80 rfl rfl (fun hc hF => ?_) (fun hc hF => ?_) hF
            · skip
              refine jj_iconst (v := (1 : Int32)) (pc' := 89) dX4_best_88 rfl rfl ?_
              refine jj_goto (tgt := 93) dX4_best_89 rfl ?_
              refine jj_istore (i := 8) (ls' := [(8, .int ((1 : Int32))), (7, .int ((0 : Int32))), (6, .int x102), (0, .ref a0), (1, .int x1), (2, .int x2), (3, .int x3), (4, .int x4), (5, .int x5)]) (pc' := 95) dX4_best_93 (Nat.le_of_ble_eq_true rfl) rfl rfl ?_
              refine jj_iload (j := 0) (i := 8) (pc' := 97) dX4_best_95 rfl rfl ?_
              refine jj_if_eq_f (pc' := 100) dX4_best_97 rfl (by decide) 105 rfl ?_
              refine jj_iload (j := 8) (i := 5) (pc' := 102) dX4_best_100 rfl rfl ?_
              refine jj_goto (tgt := 106) dX4_best_102 rfl ?_
              refine jj_istore_n (i := 3) (ls' := [(3, .int x5), (8, .int ((1 : Int32))), (7, .int ((0 : Int32))), (6, .int x102), (0, .ref a0), (1, .int x1), (2, .int x2), (4, .int x4), (5, .int x5)]) (pc' := 107) dX4_best_106 rfl (Nat.le_of_ble_eq_true rfl) rfl rfl ?_
              refine jj_iload (j := 1) (i := 8) (pc' := 109) dX4_best_107 rfl rfl ?_
              refine jj_if_eq_f (pc' := 112) dX4_best_109 rfl (by decide) 117 rfl ?_
              refine jj_iload (j := 3) (i := 6) (pc' := 114) dX4_best_112 rfl rfl ?_
              refine jj_goto (tgt := 119) dX4_best_114 rfl ?_
              refine jj_istore (i := 4) (ls' := [(4, .int x102), (3, .int x5), (8, .int ((1 : Int32))), (7, .int ((0 : Int32))), (6, .int x102), (0, .ref a0), (1, .int x1), (2, .int x2), (5, .int x5)]) (pc' := 121) dX4_best_119 (Nat.le_of_ble_eq_true rfl) rfl rfl ?_
              refine jj_iinc (i := 5) (j := 8) (v := x5 + (1 : Int32)) (ls' := [(5, .int (x5 + (1 : Int32))), (4, .int x102), (3, .int x5), (8, .int ((1 : Int32))), (7, .int ((0 : Int32))), (6, .int x102), (0, .ref a0), (1, .int x1), (2, .int x2)]) (pc' := 124) dX4_best_121 rfl rfl (Nat.le_of_ble_eq_true rfl) rfl rfl ?_
              refine jj_goto (tgt := 8) dX4_best_124 rfl ?_
              exact jj_pick [6, 7, 8, 2, 1, 0] rfl (ih a0 x1 x2 x5 x102 (x5 + (1 : Int32)) h101 _ hF)
            · skip
              refine jj_iload (j := 0) (i := 7) (pc' := 85) dX4_best_83 rfl rfl ?_
              refine jj_if_eq_t (tgt := 92) dX4_best_85 rfl (by decide) ?_
              refine jj_iconst (v := (0 : Int32)) (pc' := 93) dX4_best_92 rfl rfl ?_
              refine jj_istore (i := 8) (ls' := [(8, .int ((0 : Int32))), (7, .int ((0 : Int32))), (6, .int x102), (0, .ref a0), (1, .int x1), (2, .int x2), (3, .int x3), (4, .int x4), (5, .int x5)]) (pc' := 95) dX4_best_93 (Nat.le_of_ble_eq_true rfl) rfl rfl ?_
              refine jj_iload (j := 0) (i := 8) (pc' := 97) dX4_best_95 rfl rfl ?_
              refine jj_if_eq_t (tgt := 105) dX4_best_97 rfl (by decide) ?_
              refine jj_iload_n (j := 6) (i := 3) (pc' := 106) dX4_best_105 rfl rfl rfl ?_
              refine jj_istore_n (i := 3) (ls' := [(3, .int x3), (8, .int ((0 : Int32))), (7, .int ((0 : Int32))), (6, .int x102), (0, .ref a0), (1, .int x1), (2, .int x2), (4, .int x4), (5, .int x5)]) (pc' := 107) dX4_best_106 rfl (Nat.le_of_ble_eq_true rfl) rfl rfl ?_
              refine jj_iload (j := 1) (i := 8) (pc' := 109) dX4_best_107 rfl rfl ?_
              refine jj_if_eq_t (tgt := 117) dX4_best_109 rfl (by decide) ?_
              refine jj_iload (j := 7) (i := 4) (pc' := 119) dX4_best_117 rfl rfl ?_
              refine jj_istore (i := 4) (ls' := [(4, .int x4), (3, .int x3), (8, .int ((0 : Int32))), (7, .int ((0 : Int32))), (6, .int x102), (0, .ref a0), (1, .int x1), (2, .int x2), (5, .int x5)]) (pc' := 121) dX4_best_119 (Nat.le_of_ble_eq_true rfl) rfl rfl ?_
              refine jj_iinc (i := 5) (j := 8) (v := x5 + (1 : Int32)) (ls' := [(5, .int (x5 + (1 : Int32))), (4, .int x4), (3, .int x3), (8, .int ((0 : Int32))), (7, .int ((0 : Int32))), (6, .int x102), (0, .ref a0), (1, .int x1), (2, .int x2)]) (pc' := 124) dX4_best_121 rfl rfl (Nat.le_of_ble_eq_true rfl) rfl rfl ?_
              refine jj_goto (tgt := 8) dX4_best_124 rfl ?_
              exact jj_pick [6, 7, 8, 2, 1, 0] rfl (ih a0 x1 x2 x3 x4 (x5 + (1 : Int32)) h101 _ hF)
      · skip
        refine jj_iload (j := 0) (i := 6) (pc' := 31) dX4_best_29 rfl rfl ?_
        refine jj_iload (j := 5) (i := 4) (pc' := 33) dX4_best_31 rfl rfl ?_
        refine jj_icmp_ne (tgt := 62) (pc' := 36) dX4_best_33 rfl rfl (fun hc hF => ?_) (fun hc hF => ?_) hF
        · skip
          refine jj_iconst (v := (0 : Int32)) (pc' := 63) dX4_best_62 rfl rfl ?_
          refine jj_istore (i := 7) (ls' := [(7, .int ((0 : Int32))), (6, .int x102), (0, .ref a0), (1, .int x1), (2, .int x2), (3, .int x3), (4, .int x4), (5, .int x5)]) (pc' := 65) dX4_best_63 (Nat.le_of_ble_eq_true rfl) rfl rfl ?_
          refine jj_iload (j := 1) (i := 6) (pc' := 67) dX4_best_65 rfl rfl ?_
          refine jj_iconst (v := (-1 : Int32)) (pc' := 68) dX4_best_67 rfl rfl ?_
          refine jj_icmp_eq (tgt := 92) (pc' := 71) dX4_best_68 rfl rfl (fun hc hF => ?_) (fun hc hF => ?_) hF
          · skip
            refine jj_iconst (v := (0 : Int32)) (pc' := 93) dX4_best_92 rfl rfl ?_
            refine jj_istore (i := 8) (ls' := [(8, .int ((0 : Int32))), (7, .int ((0 : Int32))), (6, .int x102), (0, .ref a0), (1, .int x1), (2, .int x2), (3, .int x3), (4, .int x4), (5, .int x5)]) (pc' := 95) dX4_best_93 (Nat.le_of_ble_eq_true rfl) rfl rfl ?_
            refine jj_iload (j := 0) (i := 8) (pc' := 97) dX4_best_95 rfl rfl ?_
            refine jj_if_eq_t (tgt := 105) dX4_best_97 rfl (by decide) ?_
            refine jj_iload_n (j := 6) (i := 3) (pc' := 106) dX4_best_105 rfl rfl rfl ?_
            refine jj_istore_n (i := 3) (ls' := [(3, .int x3), (8, .int ((0 : Int32))), (7, .int ((0 : Int32))), (6, .int x102), (0, .ref a0), (1, .int x1), (2, .int x2), (4, .int x4), (5, .int x5)]) (pc' := 107) dX4_best_106 rfl (Nat.le_of_ble_eq_true rfl) rfl rfl ?_
            refine jj_iload (j := 1) (i := 8) (pc' := 109) dX4_best_107 rfl rfl ?_
            refine jj_if_eq_t (tgt := 117) dX4_best_109 rfl (by decide) ?_
            refine jj_iload (j := 7) (i := 4) (pc' := 119) dX4_best_117 rfl rfl ?_
            refine jj_istore (i := 4) (ls' := [(4, .int x4), (3, .int x3), (8, .int ((0 : Int32))), (7, .int ((0 : Int32))), (6, .int x102), (0, .ref a0), (1, .int x1), (2, .int x2), (5, .int x5)]) (pc' := 121) dX4_best_119 (Nat.le_of_ble_eq_true rfl) rfl rfl ?_
            refine jj_iinc (i := 5) (j := 8) (v := x5 + (1 : Int32)) (ls' := [(5, .int (x5 + (1 : Int32))), (4, .int x4), (3, .int x3), (8, .int ((0 : Int32))), (7, .int ((0 : Int32))), (6, .int x102), (0, .ref a0), (1, .int x1), (2, .int x2)]) (pc' := 124) dX4_best_121 rfl rfl (Nat.le_of_ble_eq_true rfl) rfl rfl ?_
            refine jj_goto (tgt := 8) dX4_best_124 rfl ?_
            exact jj_pick [6, 7, 8, 2, 1, 0] rfl (ih a0 x1 x2 x3 x4 (x5 + (1 : Int32)) h101 _ hF)
          · skip
            refine jj_iload_n (j := 5) (i := 3) (pc' := 72) dX4_best_71 rfl rfl rfl ?_
            refine jj_iconst (v := (-1 : Int32)) (pc' := 73) dX4_best_72 rfl rfl ?_
            refine jj_icmp_eq (tgt := 88) (pc' := 76) dX4_best_73 rfl rfl (fun hc hF => ?_) (fun hc hF => ?_) hF
            · skip
              refine jj_iconst (v := (1 : Int32)) (pc' := 89) dX4_best_88 rfl rfl ?_
              refine jj_goto (tgt := 93) dX4_best_89 rfl ?_
              refine jj_istore (i := 8) (ls' := [(8, .int ((1 : Int32))), (7, .int ((0 : Int32))), (6, .int x102), (0, .ref a0), (1, .int x1), (2, .int x2), (3, .int x3), (4, .int x4), (5, .int x5)]) (pc' := 95) dX4_best_93 (Nat.le_of_ble_eq_true rfl) rfl rfl ?_
              refine jj_iload (j := 0) (i := 8) (pc' := 97) dX4_best_95 rfl rfl ?_
              refine jj_if_eq_f (pc' := 100) dX4_best_97 rfl (by decide) 105 rfl ?_
              refine jj_iload (j := 8) (i := 5) (pc' := 102) dX4_best_100 rfl rfl ?_
              refine jj_goto (tgt := 106) dX4_best_102 rfl ?_
              refine jj_istore_n (i := 3) (ls' := [(3, .int x5), (8, .int ((1 : Int32))), (7, .int ((0 : Int32))), (6, .int x102), (0, .ref a0), (1, .int x1), (2, .int x2), (4, .int x4), (5, .int x5)]) (pc' := 107) dX4_best_106 rfl (Nat.le_of_ble_eq_true rfl) rfl rfl ?_
              refine jj_iload (j := 1) (i := 8) (pc' := 109) dX4_best_107 rfl rfl ?_
              refine jj_if_eq_f (pc' := 112) dX4_best_109 rfl (by decide) 117 rfl ?_
              refine jj_iload (j := 3) (i := 6) (pc' := 114) dX4_best_112 rfl rfl ?_
              refine jj_goto (tgt := 119) dX4_best_114 rfl ?_
              refine jj_istore (i := 4) (ls' := [(4, .int x102), (3, .int x5), (8, .int ((1 : Int32))), (7, .int ((0 : Int32))), (6, .int x102), (0, .ref a0), (1, .int x1), (2, .int x2), (5, .int x5)]) (pc' := 121) dX4_best_119 (Nat.le_of_ble_eq_true rfl) rfl rfl ?_
              refine jj_iinc (i := 5) (j := 8) (v := x5 + (1 : Int32)) (ls' := [(5, .int (x5 + (1 : Int32))), (4, .int x102), (3, .int x5), (8, .int ((1 : Int32))), (7, .int ((0 : Int32))), (6, .int x102), (0, .ref a0), (1, .int x1), (2, .int x2)]) (pc' := 124) dX4_best_121 rfl rfl (Nat.le_of_ble_eq_true rfl) rfl rfl ?_
              refine jj_goto (tgt := 8) dX4_best_124 rfl ?_
              exact jj_pick [6, 7, 8, 2, 1, 0] rfl (ih a0 x1 x2 x5 x102 (x5 + (1 : Int32)) h101 _ hF)
            · skip
              refine jj_iload (j := 1) (i := 6) (pc' := 78) dX4_best_76 rfl rfl ?_
              refine jj_iload (j := 6) (i := 4) (pc' := 80) dX4_best_78 rfl rfl ?_
              refine jj_icmp_lt (tgt := 88) (pc' := 83) dX4_best_80 rfl rfl (fun hc hF => ?_) (fun hc hF => ?_) hF
              · skip
                refine jj_iconst (v := (1 : Int32)) (pc' := 89) dX4_best_88 rfl rfl ?_
                refine jj_goto (tgt := 93) dX4_best_89 rfl ?_
                refine jj_istore (i := 8) (ls' := [(8, .int ((1 : Int32))), (7, .int ((0 : Int32))), (6, .int x102), (0, .ref a0), (1, .int x1), (2, .int x2), (3, .int x3), (4, .int x4), (5, .int x5)]) (pc' := 95) dX4_best_93 (Nat.le_of_ble_eq_true rfl) rfl rfl ?_
                refine jj_iload (j := 0) (i := 8) (pc' := 97) dX4_best_95 rfl rfl ?_
                refine jj_if_eq_f (pc' := 100) dX4_best_97 rfl (by decide) 105 rfl ?_
                refine jj_iload (j := 8) (i := 5) (pc' := 102) dX4_best_100 rfl rfl ?_
                refine jj_goto (tgt := 106) dX4_best_102 rfl ?_
                refine jj_istore_n (i := 3) (ls' := [(3, .int x5), (8, .int ((1 : Int32))), (7, .int ((0 : Int32))), (6, .int x102), (0, .ref a0), (1, .int x1), (2, .int x2), (4, .int x4), (5, .int x5)]) (pc' := 107) dX4_best_106 rfl (Nat.le_of_ble_eq_true rfl) rfl rfl ?_
                refine jj_iload (j := 1) (i := 8) (pc' := 109) dX4_best_107 rfl rfl ?_
                refine jj_if_eq_f (pc' := 112) dX4_best_109 rfl (by decide) 117 rfl ?_
                refine jj_iload (j := 3) (i := 6) (pc' := 114) dX4_best_112 rfl rfl ?_
                refine jj_goto (tgt := 119) dX4_best_114 rfl ?_
                refine jj_istore (i := 4) (ls' := [(4, .int x102), (3, .int x5), (8, .int ((1 : Int32))), (7, .int ((0 : Int32))), (6, .int x102), (0, .ref a0), (1, .int x1), (2, .int x2), (5, .int x5)]) (pc' := 121) dX4_best_119 (Nat.le_of_ble_eq_true rfl) rfl rfl ?_
                refine jj_iinc (i := 5) (j := 8) (v := x5 + (1 : Int32)) (ls' := [(5, .int (x5 + (1 : Int32))), (4, .int x102), (3, .int x5), (8, .int ((1 : Int32))), (7, .int ((0 : Int32))), (6, .int x102), (0, .ref a0), (1, .int x1), (2, .int x2)]) (pc' := 124) dX4_best_121 rfl rfl (Nat.le_of_ble_eq_true rfl) rfl rfl ?_
                refine jj_goto (tgt := 8) dX4_best_124 rfl ?_
                exact jj_pick [6, 7, 8, 2, 1, 0] rfl (ih a0 x1 x2 x5 x102 (x5 + (1 : Int32)) h101 _ hF)
              · skip
                refine jj_iload (j := 0) (i := 7) (pc' := 85) dX4_best_83 rfl rfl ?_
                refine jj_if_eq_t (tgt := 92) dX4_best_85 rfl (by decide) ?_
                refine jj_iconst (v := (0 : Int32)) (pc' := 93) dX4_best_92 rfl rfl ?_
                refine jj_istore (i := 8) (ls' := [(8, .int ((0 : Int32))), (7, .int ((0 : Int32))), (6, .int x102), (0, .ref a0), (1, .int x1), (2, .int x2), (3, .int x3), (4, .int x4), (5, .int x5)]) (pc' := 95) dX4_best_93 (Nat.le_of_ble_eq_true rfl) rfl rfl ?_
                refine jj_iload (j := 0) (i := 8) (pc' := 97) dX4_best_95 rfl rfl ?_
                refine jj_if_eq_t (tgt := 105) dX4_best_97 rfl (by decide) ?_
                refine jj_iload_n (j := 6) (i := 3) (pc' := 106) dX4_best_105 rfl rfl rfl ?_
                refine jj_istore_n (i := 3) (ls' := [(3, .int x3), (8, .int ((0 : Int32))), (7, .int ((0 : Int32))), (6, .int x102), (0, .ref a0), (1, .int x1), (2, .int x2), (4, .int x4), (5, .int x5)]) (pc' := 107) dX4_best_106 rfl (Nat.le_of_ble_eq_true rfl) rfl rfl ?_
                refine jj_iload (j := 1) (i := 8) (pc' := 109) dX4_best_107 rfl rfl ?_
                refine jj_if_eq_t (tgt := 117) dX4_best_109 rfl (by decide) ?_
                refine jj_iload (j := 7) (i := 4) (pc' := 119) dX4_best_117 rfl rfl ?_
                refine jj_istore (i := 4) (ls' := [(4, .int x4), (3, .int x3), (8, .int ((0 : Int32))), (7, .int ((0 : Int32))), (6, .int x102), (0, .ref a0), (1, .int x1), (2, .int x2), (5, .int x5)]) (pc' := 121) dX4_best_119 (Nat.le_of_ble_eq_true rfl) rfl rfl ?_
                refine jj_iinc (i := 5) (j := 8) (v := x5 + (1 : Int32)) (ls' := [(5, .int (x5 + (1 : Int32))), (4, .int x4), (3, .int x3), (8, .int ((0 : Int32))), (7, .int ((0 : Int32))), (6, .int x102), (0, .ref a0), (1, .int x1), (2, .int x2)]) (pc' := 124) dX4_best_121 rfl rfl (Nat.le_of_ble_eq_true rfl) rfl rfl ?_
                refine jj_goto (tgt := 8) dX4_best_124 rfl ?_
                exact jj_pick [6, 7, 8, 2, 1, 0] rfl (ih a0 x1 x2 x3 x4 (x5 + (1 : Int32)) h101 _ hF)
        · skip
          refine jj_aload_n (j := 1) (i := 0) (pc' := 37) dX4_best_36 rfl rfl rfl ?_
          refine jj_gR (C := RX4) (T := TX4) (N := 15) (ci := 4) (k := 0) (pc' := 40) dX4_best_37 rfl rfl inX4 (by decide) qw_73 hF (fun r103 hF => ?_)
          refine jj_bipush (v := (7 : Int32)) (pc' := 42) dX4_best_40 rfl rfl ?_
          refine jj_iload (j := 6) (i := 5) (pc' := 44) dX4_best_42 rfl rfl ?_
          refine jj_iadd (pc' := 45) dX4_best_44 rfl ?_
          refine jj_ldI (pc' := 46) dX4_best_45 rfl hF (fun x104 hF => ?_)
          refine jj_aload_n (j := 1) (i := 0) (pc' := 47) dX4_best_46 rfl rfl rfl ?_
          refine jj_gR (C := RX4) (T := TX4) (N := 15) (ci := 4) (k := 0) (pc' := 50) dX4_best_47 rfl rfl inX4 (by decide) qw_73 hF (fun r105 hF => ?_)
          refine jj_bipush (v := (7 : Int32)) (pc' := 52) dX4_best_50 rfl rfl ?_
          refine jj_iload_n (j := 4) (i := 3) (pc' := 53) dX4_best_52 rfl rfl rfl ?_
          refine jj_iadd (pc' := 54) dX4_best_53 rfl ?_
          refine jj_ldI (pc' := 55) dX4_best_54 rfl hF (fun x106 hF => ?_)
          refine jj_icmp_le (tgt := 62) (pc' := 58) dX4_best_55 rfl rfl (fun hc hF => ?_) (fun hc hF => ?_) hF
          · skip
            refine jj_iconst (v := (0 : Int32)) (pc' := 63) dX4_best_62 rfl rfl ?_
            refine jj_istore (i := 7) (ls' := [(7, .int ((0 : Int32))), (6, .int x102), (0, .ref a0), (1, .int x1), (2, .int x2), (3, .int x3), (4, .int x4), (5, .int x5)]) (pc' := 65) dX4_best_63 (Nat.le_of_ble_eq_true rfl) rfl rfl ?_
            refine jj_iload (j := 1) (i := 6) (pc' := 67) dX4_best_65 rfl rfl ?_
            refine jj_iconst (v := (-1 : Int32)) (pc' := 68) dX4_best_67 rfl rfl ?_
            refine jj_icmp_eq (tgt := 92) (pc' := 71) dX4_best_68 rfl rfl (fun hc hF => ?_) (fun hc hF => ?_) hF
            · skip
              refine jj_iconst (v := (0 : Int32)) (pc' := 93) dX4_best_92 rfl rfl ?_
              refine jj_istore (i := 8) (ls' := [(8, .int ((0 : Int32))), (7, .int ((0 : Int32))), (6, .int x102), (0, .ref a0), (1, .int x1), (2, .int x2), (3, .int x3), (4, .int x4), (5, .int x5)]) (pc' := 95) dX4_best_93 (Nat.le_of_ble_eq_true rfl) rfl rfl ?_
              refine jj_iload (j := 0) (i := 8) (pc' := 97) dX4_best_95 rfl rfl ?_
              refine jj_if_eq_t (tgt := 105) dX4_best_97 rfl (by decide) ?_
              refine jj_iload_n (j := 6) (i := 3) (pc' := 106) dX4_best_105 rfl rfl rfl ?_
              refine jj_istore_n (i := 3) (ls' := [(3, .int x3), (8, .int ((0 : Int32))), (7, .int ((0 : Int32))), (6, .int x102), (0, .ref a0), (1, .int x1), (2, .int x2), (4, .int x4), (5, .int x5)]) (pc' := 107) dX4_best_106 rfl (Nat.le_of_ble_eq_true rfl) rfl rfl ?_
              refine jj_iload (j := 1) (i := 8) (pc' := 109) dX4_best_107 rfl rfl ?_
              refine jj_if_eq_t (tgt := 117) dX4_best_109 rfl (by decide) ?_
              refine jj_iload (j := 7) (i := 4) (pc' := 119) dX4_best_117 rfl rfl ?_
              refine jj_istore (i := 4) (ls' := [(4, .int x4), (3, .int x3), (8, .int ((0 : Int32))), (7, .int ((0 : Int32))), (6, .int x102), (0, .ref a0), (1, .int x1), (2, .int x2), (5, .int x5)]) (pc' := 121) dX4_best_119 (Nat.le_of_ble_eq_true rfl) rfl rfl ?_
              refine jj_iinc (i := 5) (j := 8) (v := x5 + (1 : Int32)) (ls' := [(5, .int (x5 + (1 : Int32))), (4, .int x4), (3, .int x3), (8, .int ((0 : Int32))), (7, .int ((0 : Int32))), (6, .int x102), (0, .ref a0), (1, .int x1), (2, .int x2)]) (pc' := 124) dX4_best_121 rfl rfl (Nat.le_of_ble_eq_true rfl) rfl rfl ?_
              refine jj_goto (tgt := 8) dX4_best_124 rfl ?_
              exact jj_pick [6, 7, 8, 2, 1, 0] rfl (ih a0 x1 x2 x3 x4 (x5 + (1 : Int32)) h101 _ hF)
            · skip
              refine jj_iload_n (j := 5) (i := 3) (pc' := 72) dX4_best_71 rfl rfl rfl ?_
              refine jj_iconst (v := (-1 : Int32)) (pc' := 73) dX4_best_72 rfl rfl ?_
              refine jj_icmp_eq (tgt := 88) (pc' := 76) dX4_best_73 rfl rfl (fun hc hF => ?_) (fun hc hF => ?_) hF
              · skip
                refine jj_iconst (v := (1 : Int32)) (pc' := 89) dX4_best_88 rfl rfl ?_
                refine jj_goto (tgt := 93) dX4_best_89 rfl ?_
                refine jj_istore (i := 8) (ls' := [(8, .int ((1 : Int32))), (7, .int ((0 : Int32))), (6, .int x102), (0, .ref a0), (1, .int x1), (2, .int x2), (3, .int x3), (4, .int x4), (5, .int x5)]) (pc' := 95) dX4_best_93 (Nat.le_of_ble_eq_true rfl) rfl rfl ?_
                refine jj_iload (j := 0) (i := 8) (pc' := 97) dX4_best_95 rfl rfl ?_
                refine jj_if_eq_f (pc' := 100) dX4_best_97 rfl (by decide) 105 rfl ?_
                refine jj_iload (j := 8) (i := 5) (pc' := 102) dX4_best_100 rfl rfl ?_
                refine jj_goto (tgt := 106) dX4_best_102 rfl ?_
                refine jj_istore_n (i := 3) (ls' := [(3, .int x5), (8, .int ((1 : Int32))), (7, .int ((0 : Int32))), (6, .int x102), (0, .ref a0), (1, .int x1), (2, .int x2), (4, .int x4), (5, .int x5)]) (pc' := 107) dX4_best_106 rfl (Nat.le_of_ble_eq_true rfl) rfl rfl ?_
                refine jj_iload (j := 1) (i := 8) (pc' := 109) dX4_best_107 rfl rfl ?_
                refine jj_if_eq_f (pc' := 112) dX4_best_109 rfl (by decide) 117 rfl ?_
                refine jj_iload (j := 3) (i := 6) (pc' := 114) dX4_best_112 rfl rfl ?_
                refine jj_goto (tgt := 119) dX4_best_114 rfl ?_
                refine jj_istore (i := 4) (ls' := [(4, .int x102), (3, .int x5), (8, .int ((1 : Int32))), (7, .int ((0 : Int32))), (6, .int x102), (0, .ref a0), (1, .int x1), (2, .int x2), (5, .int x5)]) (pc' := 121) dX4_best_119 (Nat.le_of_ble_eq_true rfl) rfl rfl ?_
                refine jj_iinc (i := 5) (j := 8) (v := x5 + (1 : Int32)) (ls' := [(5, .int (x5 + (1 : Int32))), (4, .int x102), (3, .int x5), (8, .int ((1 : Int32))), (7, .int ((0 : Int32))), (6, .int x102), (0, .ref a0), (1, .int x1), (2, .int x2)]) (pc' := 124) dX4_best_121 rfl rfl (Nat.le_of_ble_eq_true rfl) rfl rfl ?_
                refine jj_goto (tgt := 8) dX4_best_124 rfl ?_
                exact jj_pick [6, 7, 8, 2, 1, 0] rfl (ih a0 x1 x2 x5 x102 (x5 + (1 : Int32)) h101 _ hF)
              · skip
                refine jj_iload (j := 1) (i := 6) (pc' := 78) dX4_best_76 rfl rfl ?_
                refine jj_iload (j := 6) (i := 4) (pc' := 80) dX4_best_78 rfl rfl ?_
                refine jj_icmp_lt (tgt := 88) (pc' := 83) dX4_best_80 rfl rfl (fun hc hF => ?_) (fun hc hF => ?_) hF
                · skip
                  refine jj_iconst (v := (1 : Int32)) (pc' := 89) dX4_best_88 rfl rfl ?_
                  refine jj_goto (tgt := 93) dX4_best_89 rfl ?_
                  refine jj_istore (i := 8) (ls' := [(8, .int ((1 : Int32))), (7, .int ((0 : Int32))), (6, .int x102), (0, .ref a0), (1, .int x1), (2, .int x2), (3, .int x3), (4, .int x4), (5, .int x5)]) (pc' := 95) dX4_best_93 (Nat.le_of_ble_eq_true rfl) rfl rfl ?_
                  refine jj_iload (j := 0) (i := 8) (pc' := 97) dX4_best_95 rfl rfl ?_
                  refine jj_if_eq_f (pc' := 100) dX4_best_97 rfl (by decide) 105 rfl ?_
                  refine jj_iload (j := 8) (i := 5) (pc' := 102) dX4_best_100 rfl rfl ?_
                  refine jj_goto (tgt := 106) dX4_best_102 rfl ?_
                  refine jj_istore_n (i := 3) (ls' := [(3, .int x5), (8, .int ((1 : Int32))), (7, .int ((0 : Int32))), (6, .int x102), (0, .ref a0), (1, .int x1), (2, .int x2), (4, .int x4), (5, .int x5)]) (pc' := 107) dX4_best_106 rfl (Nat.le_of_ble_eq_true rfl) rfl rfl ?_
                  refine jj_iload (j := 1) (i := 8) (pc' := 109) dX4_best_107 rfl rfl ?_
                  refine jj_if_eq_f (pc' := 112) dX4_best_109 rfl (by decide) 117 rfl ?_
                  refine jj_iload (j := 3) (i := 6) (pc' := 114) dX4_best_112 rfl rfl ?_
                  refine jj_goto (tgt := 119) dX4_best_114 rfl ?_
                  refine jj_istore (i := 4) (ls' := [(4, .int x102), (3, .int x5), (8, .int ((1 : Int32))), (7, .int ((0 : Int32))), (6, .int x102), (0, .ref a0), (1, .int x1), (2, .int x2), (5, .int x5)]) (pc' := 121) dX4_best_119 (Nat.le_of_ble_eq_true rfl) rfl rfl ?_
                  refine jj_iinc (i := 5) (j := 8) (v := x5 + (1 : Int32)) (ls' := [(5, .int (x5 + (1 : Int32))), (4, .int x102), (3, .int x5), (8, .int ((1 : Int32))), (7, .int ((0 : Int32))), (6, .int x102), (0, .ref a0), (1, .int x1), (2, .int x2)]) (pc' := 124) dX4_best_121 rfl rfl (Nat.le_of_ble_eq_true rfl) rfl rfl ?_
                  refine jj_goto (tgt := 8) dX4_best_124 rfl ?_
                  exact jj_pick [6, 7, 8, 2, 1, 0] rfl (ih a0 x1 x2 x5 x102 (x5 + (1 : Int32)) h101 _ hF)
                · skip
                  refine jj_iload (j := 0) (i := 7) (pc' := 85) dX4_best_83 rfl rfl ?_
                  refine jj_if_eq_t (tgt := 92) dX4_best_85 rfl (by decide) ?_
                  refine jj_iconst (v := (0 : Int32)) (pc' := 93) dX4_best_92 rfl rfl ?_
                  refine jj_istore (i := 8) (ls' := [(8, .int ((0 : Int32))), (7, .int ((0 : Int32))), (6, .int x102), (0, .ref a0), (1, .int x1), (2, .int x2), (3, .int x3), (4, .int x4), (5, .int x5)]) (pc' := 95) dX4_best_93 (Nat.le_of_ble_eq_true rfl) rfl rfl ?_
                  refine jj_iload (j := 0) (i := 8) (pc' := 97) dX4_best_95 rfl rfl ?_
                  refine jj_if_eq_t (tgt := 105) dX4_best_97 rfl (by decide) ?_
                  refine jj_iload_n (j := 6) (i := 3) (pc' := 106) dX4_best_105 rfl rfl rfl ?_
                  refine jj_istore_n (i := 3) (ls' := [(3, .int x3), (8, .int ((0 : Int32))), (7, .int ((0 : Int32))), (6, .int x102), (0, .ref a0), (1, .int x1), (2, .int x2), (4, .int x4), (5, .int x5)]) (pc' := 107) dX4_best_106 rfl (Nat.le_of_ble_eq_true rfl) rfl rfl ?_
                  refine jj_iload (j := 1) (i := 8) (pc' := 109) dX4_best_107 rfl rfl ?_
                  refine jj_if_eq_t (tgt := 117) dX4_best_109 rfl (by decide) ?_
                  refine jj_iload (j := 7) (i := 4) (pc' := 119) dX4_best_117 rfl rfl ?_
                  refine jj_istore (i := 4) (ls' := [(4, .int x4), (3, .int x3), (8, .int ((0 : Int32))), (7, .int ((0 : Int32))), (6, .int x102), (0, .ref a0), (1, .int x1), (2, .int x2), (5, .int x5)]) (pc' := 121) dX4_best_119 (Nat.le_of_ble_eq_true rfl) rfl rfl ?_
                  refine jj_iinc (i := 5) (j := 8) (v := x5 + (1 : Int32)) (ls' := [(5, .int (x5 + (1 : Int32))), (4, .int x4), (3, .int x3), (8, .int ((0 : Int32))), (7, .int ((0 : Int32))), (6, .int x102), (0, .ref a0), (1, .int x1), (2, .int x2)]) (pc' := 124) dX4_best_121 rfl rfl (Nat.le_of_ble_eq_true rfl) rfl rfl ?_
                  refine jj_goto (tgt := 8) dX4_best_124 rfl ?_
                  exact jj_pick [6, 7, 8, 2, 1, 0] rfl (ih a0 x1 x2 x3 x4 (x5 + (1 : Int32)) h101 _ hF)
          · skip
            refine jj_iconst (v := (1 : Int32)) (pc' := 59) dX4_best_58 rfl rfl ?_
            refine jj_goto (tgt := 63) dX4_best_59 rfl ?_
            refine jj_istore (i := 7) (ls' := [(7, .int ((1 : Int32))), (6, .int x102), (0, .ref a0), (1, .int x1), (2, .int x2), (3, .int x3), (4, .int x4), (5, .int x5)]) (pc' := 65) dX4_best_63 (Nat.le_of_ble_eq_true rfl) rfl rfl ?_
            refine jj_iload (j := 1) (i := 6) (pc' := 67) dX4_best_65 rfl rfl ?_
            refine jj_iconst (v := (-1 : Int32)) (pc' := 68) dX4_best_67 rfl rfl ?_
            refine jj_icmp_eq (tgt := 92) (pc' := 71) dX4_best_68 rfl rfl (fun hc hF => ?_) (fun hc hF => ?_) hF
            · skip
              refine jj_iconst (v := (0 : Int32)) (pc' := 93) dX4_best_92 rfl rfl ?_
              refine jj_istore (i := 8) (ls' := [(8, .int ((0 : Int32))), (7, .int ((1 : Int32))), (6, .int x102), (0, .ref a0), (1, .int x1), (2, .int x2), (3, .int x3), (4, .int x4), (5, .int x5)]) (pc' := 95) dX4_best_93 (Nat.le_of_ble_eq_true rfl) rfl rfl ?_
              refine jj_iload (j := 0) (i := 8) (pc' := 97) dX4_best_95 rfl rfl ?_
              refine jj_if_eq_t (tgt := 105) dX4_best_97 rfl (by decide) ?_
              refine jj_iload_n (j := 6) (i := 3) (pc' := 106) dX4_best_105 rfl rfl rfl ?_
              refine jj_istore_n (i := 3) (ls' := [(3, .int x3), (8, .int ((0 : Int32))), (7, .int ((1 : Int32))), (6, .int x102), (0, .ref a0), (1, .int x1), (2, .int x2), (4, .int x4), (5, .int x5)]) (pc' := 107) dX4_best_106 rfl (Nat.le_of_ble_eq_true rfl) rfl rfl ?_
              refine jj_iload (j := 1) (i := 8) (pc' := 109) dX4_best_107 rfl rfl ?_
              refine jj_if_eq_t (tgt := 117) dX4_best_109 rfl (by decide) ?_
              refine jj_iload (j := 7) (i := 4) (pc' := 119) dX4_best_117 rfl rfl ?_
              refine jj_istore (i := 4) (ls' := [(4, .int x4), (3, .int x3), (8, .int ((0 : Int32))), (7, .int ((1 : Int32))), (6, .int x102), (0, .ref a0), (1, .int x1), (2, .int x2), (5, .int x5)]) (pc' := 121) dX4_best_119 (Nat.le_of_ble_eq_true rfl) rfl rfl ?_
              refine jj_iinc (i := 5) (j := 8) (v := x5 + (1 : Int32)) (ls' := [(5, .int (x5 + (1 : Int32))), (4, .int x4), (3, .int x3), (8, .int ((0 : Int32))), (7, .int ((1 : Int32))), (6, .int x102), (0, .ref a0), (1, .int x1), (2, .int x2)]) (pc' := 124) dX4_best_121 rfl rfl (Nat.le_of_ble_eq_true rfl) rfl rfl ?_
              refine jj_goto (tgt := 8) dX4_best_124 rfl ?_
              exact jj_pick [6, 7, 8, 2, 1, 0] rfl (ih a0 x1 x2 x3 x4 (x5 + (1 : Int32)) h101 _ hF)
            · skip
              refine jj_iload_n (j := 5) (i := 3) (pc' := 72) dX4_best_71 rfl rfl rfl ?_
              refine jj_iconst (v := (-1 : Int32)) (pc' := 73) dX4_best_72 rfl rfl ?_
              refine jj_icmp_eq (tgt := 88) (pc' := 76) dX4_best_73 rfl rfl (fun hc hF => ?_) (fun hc hF => ?_) hF
              · skip
                refine jj_iconst (v := (1 : Int32)) (pc' := 89) dX4_best_88 rfl rfl ?_
                refine jj_goto (tgt := 93) dX4_best_89 rfl ?_
                refine jj_istore (i := 8) (ls' := [(8, .int ((1 : Int32))), (7, .int ((1 : Int32))), (6, .int x102), (0, .ref a0), (1, .int x1), (2, .int x2), (3, .int x3), (4, .int x4), (5, .int x5)]) (pc' := 95) dX4_best_93 (Nat.le_of_ble_eq_true rfl) rfl rfl ?_
                refine jj_iload (j := 0) (i := 8) (pc' := 97) dX4_best_95 rfl rfl ?_
                refine jj_if_eq_f (pc' := 100) dX4_best_97 rfl (by decide) 105 rfl ?_
                refine jj_iload (j := 8) (i := 5) (pc' := 102) dX4_best_100 rfl rfl ?_
                refine jj_goto (tgt := 106) dX4_best_102 rfl ?_
                refine jj_istore_n (i := 3) (ls' := [(3, .int x5), (8, .int ((1 : Int32))), (7, .int ((1 : Int32))), (6, .int x102), (0, .ref a0), (1, .int x1), (2, .int x2), (4, .int x4), (5, .int x5)]) (pc' := 107) dX4_best_106 rfl (Nat.le_of_ble_eq_true rfl) rfl rfl ?_
                refine jj_iload (j := 1) (i := 8) (pc' := 109) dX4_best_107 rfl rfl ?_
                refine jj_if_eq_f (pc' := 112) dX4_best_109 rfl (by decide) 117 rfl ?_
                refine jj_iload (j := 3) (i := 6) (pc' := 114) dX4_best_112 rfl rfl ?_
                refine jj_goto (tgt := 119) dX4_best_114 rfl ?_
                refine jj_istore (i := 4) (ls' := [(4, .int x102), (3, .int x5), (8, .int ((1 : Int32))), (7, .int ((1 : Int32))), (6, .int x102), (0, .ref a0), (1, .int x1), (2, .int x2), (5, .int x5)]) (pc' := 121) dX4_best_119 (Nat.le_of_ble_eq_true rfl) rfl rfl ?_
                refine jj_iinc (i := 5) (j := 8) (v := x5 + (1 : Int32)) (ls' := [(5, .int (x5 + (1 : Int32))), (4, .int x102), (3, .int x5), (8, .int ((1 : Int32))), (7, .int ((1 : Int32))), (6, .int x102), (0, .ref a0), (1, .int x1), (2, .int x2)]) (pc' := 124) dX4_best_121 rfl rfl (Nat.le_of_ble_eq_true rfl) rfl rfl ?_
                refine jj_goto (tgt := 8) dX4_best_124 rfl ?_
                exact jj_pick [6, 7, 8, 2, 1, 0] rfl (ih a0 x1 x2 x5 x102 (x5 + (1 : Int32)) h101 _ hF)
              · skip
                refine jj_iload (j := 1) (i := 6) (pc' := 78) dX4_best_76 rfl rfl ?_
                refine jj_iload (j := 6) (i := 4) (pc' := 80) dX4_best_78 rfl rfl ?_
                refine jj_icmp_lt (tgt := 88) (pc' := 83) dX4_best_80 rfl rfl (fun hc hF => ?_) (fun hc hF => ?_) hF
                · skip
                  refine jj_iconst (v := (1 : Int32)) (pc' := 89) dX4_best_88 rfl rfl ?_
                  refine jj_goto (tgt := 93) dX4_best_89 rfl ?_
                  refine jj_istore (i := 8) (ls' := [(8, .int ((1 : Int32))), (7, .int ((1 : Int32))), (6, .int x102), (0, .ref a0), (1, .int x1), (2, .int x2), (3, .int x3), (4, .int x4), (5, .int x5)]) (pc' := 95) dX4_best_93 (Nat.le_of_ble_eq_true rfl) rfl rfl ?_
                  refine jj_iload (j := 0) (i := 8) (pc' := 97) dX4_best_95 rfl rfl ?_
                  refine jj_if_eq_f (pc' := 100) dX4_best_97 rfl (by decide) 105 rfl ?_
                  refine jj_iload (j := 8) (i := 5) (pc' := 102) dX4_best_100 rfl rfl ?_
                  refine jj_goto (tgt := 106) dX4_best_102 rfl ?_
                  refine jj_istore_n (i := 3) (ls' := [(3, .int x5), (8, .int ((1 : Int32))), (7, .int ((1 : Int32))), (6, .int x102), (0, .ref a0), (1, .int x1), (2, .int x2), (4, .int x4), (5, .int x5)]) (pc' := 107) dX4_best_106 rfl (Nat.le_of_ble_eq_true rfl) rfl rfl ?_
                  refine jj_iload (j := 1) (i := 8) (pc' := 109) dX4_best_107 rfl rfl ?_
                  refine jj_if_eq_f (pc' := 112) dX4_best_109 rfl (by decide) 117 rfl ?_
                  refine jj_iload (j := 3) (i := 6) (pc' := 114) dX4_best_112 rfl rfl ?_
                  refine jj_goto (tgt := 119) dX4_best_114 rfl ?_
                  refine jj_istore (i := 4) (ls' := [(4, .int x102), (3, .int x5), (8, .int ((1 : Int32))), (7, .int ((1 : Int32))), (6, .int x102), (0, .ref a0), (1, .int x1), (2, .int x2), (5, .int x5)]) (pc' := 121) dX4_best_119 (Nat.le_of_ble_eq_true rfl) rfl rfl ?_
                  refine jj_iinc (i := 5) (j := 8) (v := x5 + (1 : Int32)) (ls' := [(5, .int (x5 + (1 : Int32))), (4, .int x102), (3, .int x5), (8, .int ((1 : Int32))), (7, .int ((1 : Int32))), (6, .int x102), (0, .ref a0), (1, .int x1), (2, .int x2)]) (pc' := 124) dX4_best_121 rfl rfl (Nat.le_of_ble_eq_true rfl) rfl rfl ?_
                  refine jj_goto (tgt := 8) dX4_best_124 rfl ?_
                  exact jj_pick [6, 7, 8, 2, 1, 0] rfl (ih a0 x1 x2 x5 x102 (x5 + (1 : Int32)) h101 _ hF)
                · skip
                  refine jj_iload (j := 0) (i := 7) (pc' := 85) dX4_best_83 rfl rfl ?_
                  refine jj_if_eq_f (pc' := 88) dX4_best_85 rfl (by decide) 92 rfl ?_
                  refine jj_iconst (v := (1 : Int32)) (pc' := 89) dX4_best_88 rfl rfl ?_
                  refine jj_goto (tgt := 93) dX4_best_89 rfl ?_
                  refine jj_istore (i := 8) (ls' := [(8, .int ((1 : Int32))), (7, .int ((1 : Int32))), (6, .int x102), (0, .ref a0), (1, .int x1), (2, .int x2), (3, .int x3), (4, .int x4), (5, .int x5)]) (pc' := 95) dX4_best_93 (Nat.le_of_ble_eq_true rfl) rfl rfl ?_
                  refine jj_iload (j := 0) (i := 8) (pc' := 97) dX4_best_95 rfl rfl ?_
                  refine jj_if_eq_f (pc' := 100) dX4_best_97 rfl (by decide) 105 rfl ?_
                  refine jj_iload (j := 8) (i := 5) (pc' := 102) dX4_best_100 rfl rfl ?_
                  refine jj_goto (tgt := 106) dX4_best_102 rfl ?_
                  refine jj_istore_n (i := 3) (ls' := [(3, .int x5), (8, .int ((1 : Int32))), (7, .int ((1 : Int32))), (6, .int x102), (0, .ref a0), (1, .int x1), (2, .int x2), (4, .int x4), (5, .int x5)]) (pc' := 107) dX4_best_106 rfl (Nat.le_of_ble_eq_true rfl) rfl rfl ?_
                  refine jj_iload (j := 1) (i := 8) (pc' := 109) dX4_best_107 rfl rfl ?_
                  refine jj_if_eq_f (pc' := 112) dX4_best_109 rfl (by decide) 117 rfl ?_
                  refine jj_iload (j := 3) (i := 6) (pc' := 114) dX4_best_112 rfl rfl ?_
                  refine jj_goto (tgt := 119) dX4_best_114 rfl ?_
                  refine jj_istore (i := 4) (ls' := [(4, .int x102), (3, .int x5), (8, .int ((1 : Int32))), (7, .int ((1 : Int32))), (6, .int x102), (0, .ref a0), (1, .int x1), (2, .int x2), (5, .int x5)]) (pc' := 121) dX4_best_119 (Nat.le_of_ble_eq_true rfl) rfl rfl ?_
                  refine jj_iinc (i := 5) (j := 8) (v := x5 + (1 : Int32)) (ls' := [(5, .int (x5 + (1 : Int32))), (4, .int x102), (3, .int x5), (8, .int ((1 : Int32))), (7, .int ((1 : Int32))), (6, .int x102), (0, .ref a0), (1, .int x1), (2, .int x2)]) (pc' := 124) dX4_best_121 rfl rfl (Nat.le_of_ble_eq_true rfl) rfl rfl ?_
                  refine jj_goto (tgt := 8) dX4_best_124 rfl ?_
                  exact jj_pick [6, 7, 8, 2, 1, 0] rfl (ih a0 x1 x2 x5 x102 (x5 + (1 : Int32)) h101 _ hF)
set_option maxRecDepth 100000 in
set_option maxHeartbeats 4000000 in
theorem JX4_best {N : Nat} {a0 : Nat} {x1 : Int32} {x2 : Int32} {h : jm_H} {X : jm_X} (hF : FX4_best N a0 x1 x2 h = some X) : jm_J M_X4_best 0 [(0, .ref a0), (1, .int x1), (2, .int x2)] [] h 0 0 X := by
  unfold FX4_best at hF
  refine jj_iconst (v := (-1 : Int32)) (pc' := 1) dX4_best_0 rfl rfl ?_
  refine jj_istore_n (i := 3) (ls' := [(3, .int ((-1 : Int32))), (0, .ref a0), (1, .int x1), (2, .int x2)]) (pc' := 2) dX4_best_1 rfl (Nat.le_of_ble_eq_true rfl) rfl rfl ?_
  refine jj_iconst (v := (-1 : Int32)) (pc' := 3) dX4_best_2 rfl rfl ?_
  refine jj_istore (i := 4) (ls' := [(4, .int ((-1 : Int32))), (3, .int ((-1 : Int32))), (0, .ref a0), (1, .int x1), (2, .int x2)]) (pc' := 5) dX4_best_3 (Nat.le_of_ble_eq_true rfl) rfl rfl ?_
  refine jj_iconst (v := (0 : Int32)) (pc' := 6) dX4_best_5 rfl rfl ?_
  refine jj_istore (i := 5) (ls' := [(5, .int ((0 : Int32))), (4, .int ((-1 : Int32))), (3, .int ((-1 : Int32))), (0, .ref a0), (1, .int x1), (2, .int x2)]) (pc' := 8) dX4_best_6 (Nat.le_of_ble_eq_true rfl) rfl rfl ?_
  exact jj_pick [3, 4, 5, 2, 1, 0] rfl (BX4_best_8 N N a0 x1 x2 ((-1 : Int32)) ((-1 : Int32)) ((0 : Int32)) h _ hF)
theorem KX4_best {N : Nat} {a0 : Nat} {x1 : Int32} {x2 : Int32} {h : jm_H} {X : jm_X} (hF : FX4_best N a0 x1 x2 h = some X) : jm_K M_X4_best [.ref a0, .int x1, .int x2] h X := jk_of rfl (by decide +kernel) rfl rfl (Nat.le_of_ble_eq_true rfl) (JX4_best hF)
set_option maxRecDepth 100000 in
set_option maxHeartbeats 4000000 in
theorem JX4_bestScreen {N : Nat} {a0 : Nat} {x1 : Int32} {x2 : Int32} {h : jm_H} {X : jm_X} (hF : FX4_bestScreen N a0 x1 x2 h = some X) : jm_J M_X4_bestScreen 0 [(0, .ref a0), (1, .int x1), (2, .int x2)] [] h 0 0 X := by
  unfold FX4_bestScreen at hF
  refine jj_aload_n (j := 0) (i := 0) (pc' := 1) dX4_bestScreen_0 rfl rfl rfl ?_
  refine jj_iconst (v := (0 : Int32)) (pc' := 2) dX4_bestScreen_1 rfl rfl ?_
  refine jj_p (C := RX4) (T := TX4) (N := 15) (ci := 4) (k := 7) (ty := tyX4) (pc' := 5) dX4_bestScreen_2 rfl rfl inX4 tyX4_ok nmX4 (by decide) qw_79 rfl (fun _ => ⟨rfl, rfl⟩) hF (fun h101 hF => ?_)
  refine jj_aload_n (j := 0) (i := 0) (pc' := 6) dX4_bestScreen_5 rfl rfl rfl ?_
  refine jj_iload_n (j := 1) (i := 1) (pc' := 7) dX4_bestScreen_6 rfl rfl rfl ?_
  refine jj_cI (N := M_X4_isFilm) (kc' := 0) (ks' := 0) (pc' := 10) (jg_V (N := M_X4_isFilm) (ci := 4) (rest := []) (as := [.int x1]) cf_X4_102 dX4_bestScreen_7 ⟨rfl, rfl⟩ rfl rfl ⟨Nat.le_of_ble_eq_true rfl, Nat.le_of_ble_eq_true rfl⟩ ⟨Nat.le_of_ble_eq_true rfl, Nat.le_of_ble_eq_true rfl⟩ (Nat.le_of_ble_eq_true rfl) (fun X' hX => KX4_isFilm hX)) rfl rfl rfl rfl ⟨Nat.le_of_ble_eq_true rfl, Nat.le_of_ble_eq_true rfl⟩ rfl hF (fun x103 h102 hF => ?_)
  refine jj_if_ne (tgt := 19) (pc' := 13) dX4_bestScreen_10 rfl rfl (fun hc hF => ?_) (fun hc hF => ?_) hF
  · skip
    refine jj_iload_n (j := 2) (i := 2) (pc' := 20) dX4_bestScreen_19 rfl rfl rfl ?_
    refine jj_cI (N := M_X4_isMinute) (kc' := 0) (ks' := 0) (pc' := 23) (jg_S (N := M_X4_isMinute) (rest := []) (as := [.int x2]) cf_X4_105 rfl dX4_bestScreen_20 rfl rfl ⟨Nat.le_of_ble_eq_true rfl, Nat.le_of_ble_eq_true rfl⟩ ⟨Nat.le_of_ble_eq_true rfl, Nat.le_of_ble_eq_true rfl⟩ (Nat.le_of_ble_eq_true rfl) (fun X' hX => KX4_isMinute hX)) rfl rfl rfl rfl ⟨Nat.le_of_ble_eq_true rfl, Nat.le_of_ble_eq_true rfl⟩ rfl hF (fun x105 h104 hF => ?_)
    refine jj_if_eq (tgt := 35) (pc' := 26) dX4_bestScreen_23 rfl rfl (fun hc hF => ?_) (fun hc hF => ?_) hF
    · skip
      refine jj_aload_n (j := 0) (i := 0) (pc' := 36) dX4_bestScreen_35 rfl rfl rfl ?_
      refine jj_iconst (v := (2 : Int32)) (pc' := 37) dX4_bestScreen_36 rfl rfl ?_
      refine jj_cI (N := M_X4_refuses) (kc' := 0) (ks' := 0) (pc' := 40) (jg_V (N := M_X4_refuses) (ci := 4) (rest := []) (as := [.int ((2 : Int32))]) cf_X4_92 dX4_bestScreen_37 ⟨rfl, rfl⟩ rfl rfl ⟨Nat.le_of_ble_eq_true rfl, Nat.le_of_ble_eq_true rfl⟩ ⟨Nat.le_of_ble_eq_true rfl, Nat.le_of_ble_eq_true rfl⟩ (Nat.le_of_ble_eq_true rfl) (fun X' hX => KX4_refuses hX)) rfl rfl rfl rfl ⟨Nat.le_of_ble_eq_true rfl, Nat.le_of_ble_eq_true rfl⟩ rfl hF (fun x107 h106 hF => ?_)
      exact jj_retI (ty := .int) rfl rfl dX4_bestScreen_40 ⟨Nat.le_of_ble_eq_true rfl, Nat.le_of_ble_eq_true rfl⟩ hF
    · skip
      refine jj_aload_n (j := 0) (i := 0) (pc' := 27) dX4_bestScreen_26 rfl rfl rfl ?_
      refine jj_iload_n (j := 1) (i := 1) (pc' := 28) dX4_bestScreen_27 rfl rfl rfl ?_
      refine jj_iload_n (j := 2) (i := 2) (pc' := 29) dX4_bestScreen_28 rfl rfl rfl ?_
      refine jj_cI (N := M_X4_best) (kc' := 0) (ks' := 0) (pc' := 32) (jg_V (N := M_X4_best) (ci := 4) (rest := []) (as := [.int x1, .int x2]) cf_X4_239 dX4_bestScreen_29 ⟨rfl, rfl⟩ rfl rfl ⟨Nat.le_of_ble_eq_true rfl, Nat.le_of_ble_eq_true rfl⟩ ⟨Nat.le_of_ble_eq_true rfl, Nat.le_of_ble_eq_true rfl⟩ (Nat.le_of_ble_eq_true rfl) (fun X' hX => KX4_best hX)) rfl rfl rfl rfl ⟨Nat.le_of_ble_eq_true rfl, Nat.le_of_ble_eq_true rfl⟩ rfl hF (fun x109 h108 hF => ?_)
      refine jj_goto (tgt := 40) dX4_bestScreen_32 rfl ?_
      exact jj_retI (ty := .int) rfl rfl dX4_bestScreen_40 ⟨Nat.le_of_ble_eq_true rfl, Nat.le_of_ble_eq_true rfl⟩ hF
  · skip
    refine jj_aload_n (j := 0) (i := 0) (pc' := 14) dX4_bestScreen_13 rfl rfl rfl ?_
    refine jj_iconst (v := (1 : Int32)) (pc' := 15) dX4_bestScreen_14 rfl rfl ?_
    refine jj_cI (N := M_X4_refuses) (kc' := 0) (ks' := 0) (pc' := 18) (jg_V (N := M_X4_refuses) (ci := 4) (rest := []) (as := [.int ((1 : Int32))]) cf_X4_92 dX4_bestScreen_15 ⟨rfl, rfl⟩ rfl rfl ⟨Nat.le_of_ble_eq_true rfl, Nat.le_of_ble_eq_true rfl⟩ ⟨Nat.le_of_ble_eq_true rfl, Nat.le_of_ble_eq_true rfl⟩ (Nat.le_of_ble_eq_true rfl) (fun X' hX => KX4_refuses hX)) rfl rfl rfl rfl ⟨Nat.le_of_ble_eq_true rfl, Nat.le_of_ble_eq_true rfl⟩ rfl hF (fun x111 h110 hF => ?_)
    exact jj_retI (ty := .int) rfl rfl dX4_bestScreen_18 ⟨Nat.le_of_ble_eq_true rfl, Nat.le_of_ble_eq_true rfl⟩ hF
theorem KX4_bestScreen {N : Nat} {a0 : Nat} {x1 : Int32} {x2 : Int32} {h : jm_H} {X : jm_X} (hF : FX4_bestScreen N a0 x1 x2 h = some X) : jm_K M_X4_bestScreen [.ref a0, .int x1, .int x2] h X := jk_of rfl (by decide +kernel) rfl rfl (Nat.le_of_ble_eq_true rfl) (JX4_bestScreen hF)
set_option maxRecDepth 100000 in
set_option maxHeartbeats 4000000 in
theorem BX4_more_5 (N : Nat) : ∀ (n : Nat) (a0 : Nat) (x1 : Int32) (x2 : Int32) (x3 : Int32) (x4 : Int32) (h : jm_H) (X : jm_X), FX4_more_5 N n a0 x1 x2 x3 x4 h = some X → jm_J M_X4_more 5 [(0, .ref a0), (1, .int x1), (2, .int x2), (3, .int x3), (4, .int x4)] [] h 0 0 X := by
  intro n
  induction n with
  | zero =>
    intro a0 x1 x2 x3 x4 h X hF
    exact nomatch (show (none : Option jm_X) = some X from hF)
  | succ n ih =>
    intro a0 x1 x2 x3 x4 h X hF
    rw [FX4_more_5] at hF
    refine jj_iload (j := 4) (i := 4) (pc' := 7) dX4_more_5 rfl rfl ?_
    refine jj_aload_n (j := 0) (i := 0) (pc' := 8) dX4_more_7 rfl rfl rfl ?_
    refine jj_gR (C := RX4) (T := TX4) (N := 15) (ci := 4) (k := 0) (pc' := 11) dX4_more_8 rfl rfl inX4 (by decide) qw_73 hF (fun r101 hF => ?_)
    refine jj_iconst (v := (2 : Int32)) (pc' := 12) dX4_more_11 rfl rfl ?_
    refine jj_ldI (pc' := 13) dX4_more_12 rfl hF (fun x102 hF => ?_)
    refine jj_icmp_ge (tgt := 57) (pc' := 16) dX4_more_13 rfl rfl (fun hc hF => ?_) (fun hc hF => ?_) hF
    · skip
      refine jj_iload_n (j := 3) (i := 3) (pc' := 58) dX4_more_57 rfl rfl rfl ?_
      exact jj_retI (ty := .int) rfl rfl dX4_more_58 ⟨Nat.le_of_ble_eq_true rfl, Nat.le_of_ble_eq_true rfl⟩ hF
    · skip
      refine jj_iload_n (j := 3) (i := 3) (pc' := 17) dX4_more_16 rfl rfl rfl ?_
      refine jj_aload_n (j := 0) (i := 0) (pc' := 18) dX4_more_17 rfl rfl rfl ?_
      refine jj_iload (j := 4) (i := 4) (pc' := 20) dX4_more_18 rfl rfl ?_
      refine jj_cI (N := M_X4_greets) (kc' := 0) (ks' := 0) (pc' := 23) (jg_V (N := M_X4_greets) (ci := 4) (rest := [.int x3]) (as := [.int x4]) cf_X4_211 dX4_more_20 ⟨rfl, rfl⟩ rfl rfl ⟨Nat.le_of_ble_eq_true rfl, Nat.le_of_ble_eq_true rfl⟩ ⟨Nat.le_of_ble_eq_true rfl, Nat.le_of_ble_eq_true rfl⟩ (Nat.le_of_ble_eq_true rfl) (fun X' hX => KX4_greets hX)) rfl rfl rfl rfl ⟨Nat.le_of_ble_eq_true rfl, Nat.le_of_ble_eq_true rfl⟩ rfl hF (fun x104 h103 hF => ?_)
      refine jj_iconst (v := (-1 : Int32)) (pc' := 24) dX4_more_23 rfl rfl ?_
      refine jj_icmp_ne (tgt := 48) (pc' := 27) dX4_more_24 rfl rfl (fun hc hF => ?_) (fun hc hF => ?_) hF
      · skip
        refine jj_iconst (v := (0 : Int32)) (pc' := 49) dX4_more_48 rfl rfl ?_
        refine jj_iadd (pc' := 50) dX4_more_49 rfl ?_
        refine jj_istore_n (i := 3) (ls' := [(3, .int (x3 + ((0 : Int32)))), (0, .ref a0), (1, .int x1), (2, .int x2), (4, .int x4)]) (pc' := 51) dX4_more_50 rfl (Nat.le_of_ble_eq_true rfl) rfl rfl ?_
        refine jj_iinc (i := 4) (j := 4) (v := x4 + (1 : Int32)) (ls' := [(4, .int (x4 + (1 : Int32))), (3, .int (x3 + ((0 : Int32)))), (0, .ref a0), (1, .int x1), (2, .int x2)]) (pc' := 54) dX4_more_51 rfl rfl (Nat.le_of_ble_eq_true rfl) rfl rfl ?_
        refine jj_goto (tgt := 5) dX4_more_54 rfl ?_
        exact jj_pick [2, 3, 4, 1, 0] rfl (ih a0 x1 x2 (x3 + ((0 : Int32))) (x4 + (1 : Int32)) h103 _ hF)
      · skip
        refine jj_aload_n (j := 0) (i := 0) (pc' := 28) dX4_more_27 rfl rfl rfl ?_
        refine jj_iload (j := 4) (i := 4) (pc' := 30) dX4_more_28 rfl rfl ?_
        refine jj_iload_n (j := 1) (i := 1) (pc' := 31) dX4_more_30 rfl rfl rfl ?_
        refine jj_aload_n (j := 0) (i := 0) (pc' := 32) dX4_more_31 rfl rfl rfl ?_
        refine jj_iload_n (j := 1) (i := 1) (pc' := 33) dX4_more_32 rfl rfl rfl ?_
        refine jj_iload_n (j := 2) (i := 2) (pc' := 34) dX4_more_33 rfl rfl rfl ?_
        refine jj_iconst (v := (0 : Int32)) (pc' := 35) dX4_more_34 rfl rfl ?_
        refine jj_cI (N := M_X4_ends) (kc' := 0) (ks' := 0) (pc' := 38) (jg_V (N := M_X4_ends) (ci := 4) (rest := [.int x1, .int x4, .ref a0, .int x3]) (as := [.int x1, .int x2, .int ((0 : Int32))]) cf_X4_51 dX4_more_35 ⟨rfl, rfl⟩ rfl rfl ⟨Nat.le_of_ble_eq_true rfl, Nat.le_of_ble_eq_true rfl⟩ ⟨Nat.le_of_ble_eq_true rfl, Nat.le_of_ble_eq_true rfl⟩ (Nat.le_of_ble_eq_true rfl) (fun X' hX => KX4_ends hX)) rfl rfl rfl rfl ⟨Nat.le_of_ble_eq_true rfl, Nat.le_of_ble_eq_true rfl⟩ rfl hF (fun x106 h105 hF => ?_)
        refine jj_cI (N := M_X4_canGreet) (kc' := 0) (ks' := 0) (pc' := 41) (jg_V (N := M_X4_canGreet) (ci := 4) (rest := [.int x3]) (as := [.int x4, .int x1, .int x106]) cf_X4_208 dX4_more_38 ⟨rfl, rfl⟩ rfl rfl ⟨Nat.le_of_ble_eq_true rfl, Nat.le_of_ble_eq_true rfl⟩ ⟨Nat.le_of_ble_eq_true rfl, Nat.le_of_ble_eq_true rfl⟩ (Nat.le_of_ble_eq_true rfl) (fun X' hX => KX4_canGreet hX)) rfl rfl rfl rfl ⟨Nat.le_of_ble_eq_true rfl, Nat.le_of_ble_eq_true rfl⟩ rfl hF (fun x108 h107 hF => ?_)
        refine jj_if_eq (tgt := 48) (pc' := 44) dX4_more_41 rfl rfl (fun hc hF => ?_) (fun hc hF => ?_) hF
        · skip
          refine jj_iconst (v := (0 : Int32)) (pc' := 49) dX4_more_48 rfl rfl ?_
          refine jj_iadd (pc' := 50) dX4_more_49 rfl ?_
          refine jj_istore_n (i := 3) (ls' := [(3, .int (x3 + ((0 : Int32)))), (0, .ref a0), (1, .int x1), (2, .int x2), (4, .int x4)]) (pc' := 51) dX4_more_50 rfl (Nat.le_of_ble_eq_true rfl) rfl rfl ?_
          refine jj_iinc (i := 4) (j := 4) (v := x4 + (1 : Int32)) (ls' := [(4, .int (x4 + (1 : Int32))), (3, .int (x3 + ((0 : Int32)))), (0, .ref a0), (1, .int x1), (2, .int x2)]) (pc' := 54) dX4_more_51 rfl rfl (Nat.le_of_ble_eq_true rfl) rfl rfl ?_
          refine jj_goto (tgt := 5) dX4_more_54 rfl ?_
          exact jj_pick [2, 3, 4, 1, 0] rfl (ih a0 x1 x2 (x3 + ((0 : Int32))) (x4 + (1 : Int32)) h107 _ hF)
        · skip
          refine jj_iconst (v := (1 : Int32)) (pc' := 45) dX4_more_44 rfl rfl ?_
          refine jj_goto (tgt := 49) dX4_more_45 rfl ?_
          refine jj_iadd (pc' := 50) dX4_more_49 rfl ?_
          refine jj_istore_n (i := 3) (ls' := [(3, .int (x3 + ((1 : Int32)))), (0, .ref a0), (1, .int x1), (2, .int x2), (4, .int x4)]) (pc' := 51) dX4_more_50 rfl (Nat.le_of_ble_eq_true rfl) rfl rfl ?_
          refine jj_iinc (i := 4) (j := 4) (v := x4 + (1 : Int32)) (ls' := [(4, .int (x4 + (1 : Int32))), (3, .int (x3 + ((1 : Int32)))), (0, .ref a0), (1, .int x1), (2, .int x2)]) (pc' := 54) dX4_more_51 rfl rfl (Nat.le_of_ble_eq_true rfl) rfl rfl ?_
          refine jj_goto (tgt := 5) dX4_more_54 rfl ?_
          exact jj_pick [2, 3, 4, 1, 0] rfl (ih a0 x1 x2 (x3 + ((1 : Int32))) (x4 + (1 : Int32)) h107 _ hF)
set_option maxRecDepth 100000 in
set_option maxHeartbeats 4000000 in
theorem JX4_more {N : Nat} {a0 : Nat} {x1 : Int32} {x2 : Int32} {h : jm_H} {X : jm_X} (hF : FX4_more N a0 x1 x2 h = some X) : jm_J M_X4_more 0 [(0, .ref a0), (1, .int x1), (2, .int x2)] [] h 0 0 X := by
  unfold FX4_more at hF
  refine jj_iconst (v := (0 : Int32)) (pc' := 1) dX4_more_0 rfl rfl ?_
  refine jj_istore_n (i := 3) (ls' := [(3, .int ((0 : Int32))), (0, .ref a0), (1, .int x1), (2, .int x2)]) (pc' := 2) dX4_more_1 rfl (Nat.le_of_ble_eq_true rfl) rfl rfl ?_
  refine jj_iconst (v := (0 : Int32)) (pc' := 3) dX4_more_2 rfl rfl ?_
  refine jj_istore (i := 4) (ls' := [(4, .int ((0 : Int32))), (3, .int ((0 : Int32))), (0, .ref a0), (1, .int x1), (2, .int x2)]) (pc' := 5) dX4_more_3 (Nat.le_of_ble_eq_true rfl) rfl rfl ?_
  exact jj_pick [2, 3, 4, 1, 0] rfl (BX4_more_5 N N a0 x1 x2 ((0 : Int32)) ((0 : Int32)) h _ hF)
theorem KX4_more {N : Nat} {a0 : Nat} {x1 : Int32} {x2 : Int32} {h : jm_H} {X : jm_X} (hF : FX4_more N a0 x1 x2 h = some X) : jm_K M_X4_more [.ref a0, .int x1, .int x2] h X := jk_of rfl (by decide +kernel) rfl rfl (Nat.le_of_ble_eq_true rfl) (JX4_more hF)
set_option maxRecDepth 100000 in
set_option maxHeartbeats 4000000 in
theorem JX4_ifShown {N : Nat} {a0 : Nat} {x1 : Int32} {x2 : Int32} {x3 : Int32} {h : jm_H} {X : jm_X} (hF : FX4_ifShown N a0 x1 x2 x3 h = some X) : jm_J M_X4_ifShown 0 [(0, .ref a0), (1, .int x1), (2, .int x2), (3, .int x3)] [] h 0 0 X := by
  unfold FX4_ifShown at hF
  refine jj_aload_n (j := 0) (i := 0) (pc' := 1) dX4_ifShown_0 rfl rfl rfl ?_
  refine jj_iconst (v := (0 : Int32)) (pc' := 2) dX4_ifShown_1 rfl rfl ?_
  refine jj_p (C := RX4) (T := TX4) (N := 15) (ci := 4) (k := 7) (ty := tyX4) (pc' := 5) dX4_ifShown_2 rfl rfl inX4 tyX4_ok nmX4 (by decide) qw_79 rfl (fun _ => ⟨rfl, rfl⟩) hF (fun h101 hF => ?_)
  refine jj_aload_n (j := 0) (i := 0) (pc' := 6) dX4_ifShown_5 rfl rfl rfl ?_
  refine jj_iload_n (j := 1) (i := 1) (pc' := 7) dX4_ifShown_6 rfl rfl rfl ?_
  refine jj_cI (N := M_X4_isFilm) (kc' := 0) (ks' := 0) (pc' := 10) (jg_V (N := M_X4_isFilm) (ci := 4) (rest := []) (as := [.int x1]) cf_X4_102 dX4_ifShown_7 ⟨rfl, rfl⟩ rfl rfl ⟨Nat.le_of_ble_eq_true rfl, Nat.le_of_ble_eq_true rfl⟩ ⟨Nat.le_of_ble_eq_true rfl, Nat.le_of_ble_eq_true rfl⟩ (Nat.le_of_ble_eq_true rfl) (fun X' hX => KX4_isFilm hX)) rfl rfl rfl rfl ⟨Nat.le_of_ble_eq_true rfl, Nat.le_of_ble_eq_true rfl⟩ rfl hF (fun x103 h102 hF => ?_)
  refine jj_if_eq (tgt := 20) (pc' := 13) dX4_ifShown_10 rfl rfl (fun hc hF => ?_) (fun hc hF => ?_) hF
  · skip
    refine jj_aload_n (j := 0) (i := 0) (pc' := 21) dX4_ifShown_20 rfl rfl rfl ?_
    refine jj_iconst (v := (1 : Int32)) (pc' := 22) dX4_ifShown_21 rfl rfl ?_
    refine jj_cI (N := M_X4_refuses) (kc' := 0) (ks' := 0) (pc' := 25) (jg_V (N := M_X4_refuses) (ci := 4) (rest := []) (as := [.int ((1 : Int32))]) cf_X4_92 dX4_ifShown_22 ⟨rfl, rfl⟩ rfl rfl ⟨Nat.le_of_ble_eq_true rfl, Nat.le_of_ble_eq_true rfl⟩ ⟨Nat.le_of_ble_eq_true rfl, Nat.le_of_ble_eq_true rfl⟩ (Nat.le_of_ble_eq_true rfl) (fun X' hX => KX4_refuses hX)) rfl rfl rfl rfl ⟨Nat.le_of_ble_eq_true rfl, Nat.le_of_ble_eq_true rfl⟩ rfl hF (fun x105 h104 hF => ?_)
    exact jj_retI (ty := .int) rfl rfl dX4_ifShown_25 ⟨Nat.le_of_ble_eq_true rfl, Nat.le_of_ble_eq_true rfl⟩ hF
  · skip
    refine jj_iload_n (j := 2) (i := 2) (pc' := 14) dX4_ifShown_13 rfl rfl rfl ?_
    refine jj_cI (N := M_X4_isScreen) (kc' := 0) (ks' := 0) (pc' := 17) (jg_S (N := M_X4_isScreen) (rest := []) (as := [.int x2]) cf_X4_98 rfl dX4_ifShown_14 rfl rfl ⟨Nat.le_of_ble_eq_true rfl, Nat.le_of_ble_eq_true rfl⟩ ⟨Nat.le_of_ble_eq_true rfl, Nat.le_of_ble_eq_true rfl⟩ (Nat.le_of_ble_eq_true rfl) (fun X' hX => KX4_isScreen hX)) rfl rfl rfl rfl ⟨Nat.le_of_ble_eq_true rfl, Nat.le_of_ble_eq_true rfl⟩ rfl hF (fun x107 h106 hF => ?_)
    refine jj_if_ne (tgt := 26) (pc' := 20) dX4_ifShown_17 rfl rfl (fun hc hF => ?_) (fun hc hF => ?_) hF
    · skip
      refine jj_iload_n (j := 3) (i := 3) (pc' := 27) dX4_ifShown_26 rfl rfl rfl ?_
      refine jj_cI (N := M_X4_isMinute) (kc' := 0) (ks' := 0) (pc' := 30) (jg_S (N := M_X4_isMinute) (rest := []) (as := [.int x3]) cf_X4_105 rfl dX4_ifShown_27 rfl rfl ⟨Nat.le_of_ble_eq_true rfl, Nat.le_of_ble_eq_true rfl⟩ ⟨Nat.le_of_ble_eq_true rfl, Nat.le_of_ble_eq_true rfl⟩ (Nat.le_of_ble_eq_true rfl) (fun X' hX => KX4_isMinute hX)) rfl rfl rfl rfl ⟨Nat.le_of_ble_eq_true rfl, Nat.le_of_ble_eq_true rfl⟩ rfl hF (fun x109 h108 hF => ?_)
      refine jj_if_ne (tgt := 39) (pc' := 33) dX4_ifShown_30 rfl rfl (fun hc hF => ?_) (fun hc hF => ?_) hF
      · skip
        refine jj_aload_n (j := 0) (i := 0) (pc' := 40) dX4_ifShown_39 rfl rfl rfl ?_
        refine jj_iload_n (j := 1) (i := 1) (pc' := 41) dX4_ifShown_40 rfl rfl rfl ?_
        refine jj_iload_n (j := 2) (i := 2) (pc' := 42) dX4_ifShown_41 rfl rfl rfl ?_
        refine jj_iload_n (j := 3) (i := 3) (pc' := 43) dX4_ifShown_42 rfl rfl rfl ?_
        refine jj_iconst (v := (0 : Int32)) (pc' := 44) dX4_ifShown_43 rfl rfl ?_
        refine jj_cI (N := M_X4_reason) (kc' := 0) (ks' := 0) (pc' := 47) (jg_V (N := M_X4_reason) (ci := 4) (rest := []) (as := [.int x1, .int x2, .int x3, .int ((0 : Int32))]) cf_X4_108 dX4_ifShown_44 ⟨rfl, rfl⟩ rfl rfl ⟨Nat.le_of_ble_eq_true rfl, Nat.le_of_ble_eq_true rfl⟩ ⟨Nat.le_of_ble_eq_true rfl, Nat.le_of_ble_eq_true rfl⟩ (Nat.le_of_ble_eq_true rfl) (fun X' hX => KX4_reason hX)) rfl rfl rfl rfl ⟨Nat.le_of_ble_eq_true rfl, Nat.le_of_ble_eq_true rfl⟩ rfl hF (fun x111 h110 hF => ?_)
        refine jj_if_ne (tgt := 59) (pc' := 50) dX4_ifShown_47 rfl rfl (fun hc hF => ?_) (fun hc hF => ?_) hF
        · skip
          refine jj_iconst (v := (-1 : Int32)) (pc' := 60) dX4_ifShown_59 rfl rfl ?_
          exact jj_retI (ty := .int) rfl rfl dX4_ifShown_60 ⟨Nat.le_of_ble_eq_true rfl, Nat.le_of_ble_eq_true rfl⟩ hF
        · skip
          refine jj_aload_n (j := 0) (i := 0) (pc' := 51) dX4_ifShown_50 rfl rfl rfl ?_
          refine jj_iload_n (j := 1) (i := 1) (pc' := 52) dX4_ifShown_51 rfl rfl rfl ?_
          refine jj_iload_n (j := 3) (i := 3) (pc' := 53) dX4_ifShown_52 rfl rfl rfl ?_
          refine jj_cI (N := M_X4_more) (kc' := 0) (ks' := 0) (pc' := 56) (jg_V (N := M_X4_more) (ci := 4) (rest := []) (as := [.int x1, .int x3]) cf_X4_242 dX4_ifShown_53 ⟨rfl, rfl⟩ rfl rfl ⟨Nat.le_of_ble_eq_true rfl, Nat.le_of_ble_eq_true rfl⟩ ⟨Nat.le_of_ble_eq_true rfl, Nat.le_of_ble_eq_true rfl⟩ (Nat.le_of_ble_eq_true rfl) (fun X' hX => KX4_more hX)) rfl rfl rfl rfl ⟨Nat.le_of_ble_eq_true rfl, Nat.le_of_ble_eq_true rfl⟩ rfl hF (fun x113 h112 hF => ?_)
          refine jj_goto (tgt := 60) dX4_ifShown_56 rfl ?_
          exact jj_retI (ty := .int) rfl rfl dX4_ifShown_60 ⟨Nat.le_of_ble_eq_true rfl, Nat.le_of_ble_eq_true rfl⟩ hF
      · skip
        refine jj_aload_n (j := 0) (i := 0) (pc' := 34) dX4_ifShown_33 rfl rfl rfl ?_
        refine jj_iconst (v := (2 : Int32)) (pc' := 35) dX4_ifShown_34 rfl rfl ?_
        refine jj_cI (N := M_X4_refuses) (kc' := 0) (ks' := 0) (pc' := 38) (jg_V (N := M_X4_refuses) (ci := 4) (rest := []) (as := [.int ((2 : Int32))]) cf_X4_92 dX4_ifShown_35 ⟨rfl, rfl⟩ rfl rfl ⟨Nat.le_of_ble_eq_true rfl, Nat.le_of_ble_eq_true rfl⟩ ⟨Nat.le_of_ble_eq_true rfl, Nat.le_of_ble_eq_true rfl⟩ (Nat.le_of_ble_eq_true rfl) (fun X' hX => KX4_refuses hX)) rfl rfl rfl rfl ⟨Nat.le_of_ble_eq_true rfl, Nat.le_of_ble_eq_true rfl⟩ rfl hF (fun x115 h114 hF => ?_)
        exact jj_retI (ty := .int) rfl rfl dX4_ifShown_38 ⟨Nat.le_of_ble_eq_true rfl, Nat.le_of_ble_eq_true rfl⟩ hF
    · skip
      refine jj_aload_n (j := 0) (i := 0) (pc' := 21) dX4_ifShown_20 rfl rfl rfl ?_
      refine jj_iconst (v := (1 : Int32)) (pc' := 22) dX4_ifShown_21 rfl rfl ?_
      refine jj_cI (N := M_X4_refuses) (kc' := 0) (ks' := 0) (pc' := 25) (jg_V (N := M_X4_refuses) (ci := 4) (rest := []) (as := [.int ((1 : Int32))]) cf_X4_92 dX4_ifShown_22 ⟨rfl, rfl⟩ rfl rfl ⟨Nat.le_of_ble_eq_true rfl, Nat.le_of_ble_eq_true rfl⟩ ⟨Nat.le_of_ble_eq_true rfl, Nat.le_of_ble_eq_true rfl⟩ (Nat.le_of_ble_eq_true rfl) (fun X' hX => KX4_refuses hX)) rfl rfl rfl rfl ⟨Nat.le_of_ble_eq_true rfl, Nat.le_of_ble_eq_true rfl⟩ rfl hF (fun x117 h116 hF => ?_)
      exact jj_retI (ty := .int) rfl rfl dX4_ifShown_25 ⟨Nat.le_of_ble_eq_true rfl, Nat.le_of_ble_eq_true rfl⟩ hF
theorem KX4_ifShown {N : Nat} {a0 : Nat} {x1 : Int32} {x2 : Int32} {x3 : Int32} {h : jm_H} {X : jm_X} (hF : FX4_ifShown N a0 x1 x2 x3 h = some X) : jm_K M_X4_ifShown [.ref a0, .int x1, .int x2, .int x3] h X := jk_of rfl (by decide +kernel) rfl rfl (Nat.le_of_ble_eq_true rfl) (JX4_ifShown hF)
set_option maxRecDepth 100000 in
set_option maxHeartbeats 4000000 in
theorem JX4_share {N : Nat} {a0 : Nat} {x1 : Int32} {h : jm_H} {X : jm_X} (hF : FX4_share N a0 x1 h = some X) : jm_J M_X4_share 0 [(0, .ref a0), (1, .int x1)] [] h 0 0 X := by
  unfold FX4_share at hF
  refine jj_aload_n (j := 0) (i := 0) (pc' := 1) dX4_share_0 rfl rfl rfl ?_
  refine jj_iload_n (j := 1) (i := 1) (pc' := 2) dX4_share_1 rfl rfl rfl ?_
  refine jj_cI (N := M_X4_used) (kc' := 0) (ks' := 0) (pc' := 5) (jg_V (N := M_X4_used) (ci := 4) (rest := []) (as := [.int x1]) cf_X4_196 dX4_share_2 ⟨rfl, rfl⟩ rfl rfl ⟨Nat.le_of_ble_eq_true rfl, Nat.le_of_ble_eq_true rfl⟩ ⟨Nat.le_of_ble_eq_true rfl, Nat.le_of_ble_eq_true rfl⟩ (Nat.le_of_ble_eq_true rfl) (fun X' hX => KX4_used hX)) rfl rfl rfl rfl ⟨Nat.le_of_ble_eq_true rfl, Nat.le_of_ble_eq_true rfl⟩ rfl hF (fun x102 h101 hF => ?_)
  refine jj_i2d (pc' := 6) dX4_share_5 rfl ?_
  refine jj_dstore_n (i := 2) (ls' := [(2, .double (FP.i2d x102)), (0, .ref a0), (1, .int x1)]) (pc' := 7) dX4_share_6 rfl (Nat.le_of_ble_eq_true rfl) rfl rfl ?_
  refine jj_dload_n (j := 0) (i := 2) (pc' := 8) dX4_share_7 rfl rfl rfl ?_
  refine jj_ldc2d (v := (4656510908468559872 : UInt64)) (pc' := 11) dX4_share_8 qw_88 rfl ?_
  obtain ⟨hn, hF⟩ := jf_n_inv hF
  refine jj_ddiv (pc' := 12) dX4_share_11 hn rfl ?_
  exact jj_retD rfl dX4_share_12 ⟨Nat.le_of_ble_eq_true rfl, Nat.le_of_ble_eq_true rfl⟩ hF
theorem KX4_share {N : Nat} {a0 : Nat} {x1 : Int32} {h : jm_H} {X : jm_X} (hF : FX4_share N a0 x1 h = some X) : jm_K M_X4_share [.ref a0, .int x1] h X := jk_of rfl (by decide +kernel) rfl rfl (Nat.le_of_ble_eq_true rfl) (JX4_share hF)
set_option maxRecDepth 100000 in
set_option maxHeartbeats 4000000 in
theorem JX4_use {N : Nat} {a0 : Nat} {x1 : Int32} {h : jm_H} {X : jm_X} (hF : FX4_use N a0 x1 h = some X) : jm_J M_X4_use 0 [(0, .ref a0), (1, .int x1)] [] h 0 0 X := by
  unfold FX4_use at hF
  refine jj_aload_n (j := 0) (i := 0) (pc' := 1) dX4_use_0 rfl rfl rfl ?_
  refine jj_iconst (v := (0 : Int32)) (pc' := 2) dX4_use_1 rfl rfl ?_
  refine jj_p (C := RX4) (T := TX4) (N := 15) (ci := 4) (k := 7) (ty := tyX4) (pc' := 5) dX4_use_2 rfl rfl inX4 tyX4_ok nmX4 (by decide) qw_79 rfl (fun _ => ⟨rfl, rfl⟩) hF (fun h101 hF => ?_)
  refine jj_iload_n (j := 1) (i := 1) (pc' := 6) dX4_use_5 rfl rfl rfl ?_
  refine jj_cI (N := M_X4_isScreen) (kc' := 0) (ks' := 0) (pc' := 9) (jg_S (N := M_X4_isScreen) (rest := []) (as := [.int x1]) cf_X4_98 rfl dX4_use_6 rfl rfl ⟨Nat.le_of_ble_eq_true rfl, Nat.le_of_ble_eq_true rfl⟩ ⟨Nat.le_of_ble_eq_true rfl, Nat.le_of_ble_eq_true rfl⟩ (Nat.le_of_ble_eq_true rfl) (fun X' hX => KX4_isScreen hX)) rfl rfl rfl rfl ⟨Nat.le_of_ble_eq_true rfl, Nat.le_of_ble_eq_true rfl⟩ rfl hF (fun x103 h102 hF => ?_)
  refine jj_if_ne (tgt := 19) (pc' := 12) dX4_use_9 rfl rfl (fun hc hF => ?_) (fun hc hF => ?_) hF
  · skip
    refine jj_aload_n (j := 0) (i := 0) (pc' := 20) dX4_use_19 rfl rfl rfl ?_
    refine jj_iload_n (j := 1) (i := 1) (pc' := 21) dX4_use_20 rfl rfl rfl ?_
    refine jj_cD (N := M_X4_share) (kc' := 0) (ks' := 0) (pc' := 24) (jg_V (N := M_X4_share) (ci := 4) (rest := []) (as := [.int x1]) cf_X4_247 dX4_use_21 ⟨rfl, rfl⟩ rfl rfl ⟨Nat.le_of_ble_eq_true rfl, Nat.le_of_ble_eq_true rfl⟩ ⟨Nat.le_of_ble_eq_true rfl, Nat.le_of_ble_eq_true rfl⟩ (Nat.le_of_ble_eq_true rfl) (fun X' hX => KX4_share hX)) rfl rfl rfl rfl ⟨Nat.le_of_ble_eq_true rfl, Nat.le_of_ble_eq_true rfl⟩ rfl hF (fun d105 h104 hF => ?_)
    exact jj_retD rfl dX4_use_24 ⟨Nat.le_of_ble_eq_true rfl, Nat.le_of_ble_eq_true rfl⟩ hF
  · skip
    refine jj_aload_n (j := 0) (i := 0) (pc' := 13) dX4_use_12 rfl rfl rfl ?_
    refine jj_iconst (v := (1 : Int32)) (pc' := 14) dX4_use_13 rfl rfl ?_
    refine jj_p (C := RX4) (T := TX4) (N := 15) (ci := 4) (k := 7) (ty := tyX4) (pc' := 17) dX4_use_14 rfl rfl inX4 tyX4_ok nmX4 (by decide) qw_79 rfl (fun _ => ⟨rfl, rfl⟩) hF (fun h106 hF => ?_)
    refine jj_dconst0 (pc' := 18) dX4_use_17 rfl ?_
    exact jj_retD rfl dX4_use_18 ⟨Nat.le_of_ble_eq_true rfl, Nat.le_of_ble_eq_true rfl⟩ hF
theorem KX4_use {N : Nat} {a0 : Nat} {x1 : Int32} {h : jm_H} {X : jm_X} (hF : FX4_use N a0 x1 h = some X) : jm_K M_X4_use [.ref a0, .int x1] h X := jk_of rfl (by decide +kernel) rfl rfl (Nat.le_of_ble_eq_true rfl) (JX4_use hF)
set_option maxRecDepth 100000 in
set_option maxHeartbeats 4000000 in
theorem JX4_mixes {a0 : Nat} {l1 : Int64} {h : jm_H} {X : jm_X} (hF : FX4_mixes a0 l1 h = some X) : jm_J M_X4_mixes 0 [(0, .ref a0), (1, .long l1)] [] h 0 0 X := by
  unfold FX4_mixes at hF
  refine jj_aload_n (j := 0) (i := 0) (pc' := 1) dX4_mixes_0 rfl rfl rfl ?_
  refine jj_ldc2l (v := (31 : Int64)) (pc' := 4) dX4_mixes_1 qw_89 rfl ?_
  refine jj_aload_n (j := 0) (i := 0) (pc' := 5) dX4_mixes_4 rfl rfl rfl ?_
  refine jj_gL (C := RX4) (T := TX4) (N := 15) (ci := 4) (k := 14) (pc' := 8) dX4_mixes_5 rfl rfl inX4 (by decide) qw_90 hF (fun l101 hF => ?_)
  refine jj_lmul (pc' := 9) dX4_mixes_8 rfl ?_
  refine jj_lload_n (j := 1) (i := 1) (pc' := 10) dX4_mixes_9 rfl rfl rfl ?_
  refine jj_ladd (pc' := 11) dX4_mixes_10 rfl ?_
  refine jj_p (C := RX4) (T := TX4) (N := 15) (ci := 4) (k := 14) (ty := tyX4) (pc' := 14) dX4_mixes_11 rfl rfl inX4 tyX4_ok nmX4 (by decide) qw_90 rfl (fun _ => ⟨rfl, rfl⟩) hF (fun h102 hF => ?_)
  exact jj_retV rfl dX4_mixes_14 ⟨Nat.le_of_ble_eq_true rfl, Nat.le_of_ble_eq_true rfl⟩ hF
theorem KX4_mixes {a0 : Nat} {l1 : Int64} {h : jm_H} {X : jm_X} (hF : FX4_mixes a0 l1 h = some X) : jm_K M_X4_mixes [.ref a0, .long l1] h X := jk_of rfl (by decide +kernel) rfl rfl (Nat.le_of_ble_eq_true rfl) (JX4_mixes hF)
set_option maxRecDepth 100000 in
set_option maxHeartbeats 4000000 in
theorem BX4_mixesFilm_27 (N : Nat) : ∀ (n : Nat) (a0 : Nat) (x1 : Int32) (x2 : Int32) (h : jm_H) (X : jm_X), FX4_mixesFilm_27 N n a0 x1 x2 h = some X → jm_J M_X4_mixesFilm 27 [(0, .ref a0), (1, .int x1), (2, .int x2)] [] h 0 0 X := by
  intro n
  induction n with
  | zero =>
    intro a0 x1 x2 h X hF
    exact nomatch (show (none : Option jm_X) = some X from hF)
  | succ n ih =>
    intro a0 x1 x2 h X hF
    rw [FX4_mixesFilm_27] at hF
    refine jj_iload_n (j := 2) (i := 2) (pc' := 28) dX4_mixesFilm_27 rfl rfl rfl ?_
    refine jj_iconst (v := (3 : Int32)) (pc' := 29) dX4_mixesFilm_28 rfl rfl ?_
    refine jj_icmp_ge (tgt := 50) (pc' := 32) dX4_mixesFilm_29 rfl rfl (fun hc hF => ?_) (fun hc hF => ?_) hF
    · skip
      refine jj_aload_n (j := 0) (i := 0) (pc' := 51) dX4_mixesFilm_50 rfl rfl rfl ?_
      refine jj_aload_n (j := 0) (i := 0) (pc' := 52) dX4_mixesFilm_51 rfl rfl rfl ?_
      refine jj_iload_n (j := 1) (i := 1) (pc' := 53) dX4_mixesFilm_52 rfl rfl rfl ?_
      refine jj_iconst (v := (0 : Int32)) (pc' := 54) dX4_mixesFilm_53 rfl rfl ?_
      refine jj_cI (N := M_X4_best) (kc' := 0) (ks' := 0) (pc' := 57) (jg_V (N := M_X4_best) (ci := 4) (rest := [.ref a0]) (as := [.int x1, .int ((0 : Int32))]) cf_X4_239 dX4_mixesFilm_54 ⟨rfl, rfl⟩ rfl rfl ⟨Nat.le_of_ble_eq_true rfl, Nat.le_of_ble_eq_true rfl⟩ ⟨Nat.le_of_ble_eq_true rfl, Nat.le_of_ble_eq_true rfl⟩ (Nat.le_of_ble_eq_true rfl) (fun X' hX => KX4_best hX)) rfl rfl rfl rfl ⟨Nat.le_of_ble_eq_true rfl, Nat.le_of_ble_eq_true rfl⟩ rfl hF (fun x102 h101 hF => ?_)
      refine jj_i2l (pc' := 58) dX4_mixesFilm_57 rfl ?_
      refine jj_cV (N := M_X4_mixes) (kc' := 0) (ks' := 0) (pc' := 61) (jg_V (N := M_X4_mixes) (ci := 4) (rest := []) (as := [.long x102.toInt64]) cf_X4_257 dX4_mixesFilm_58 ⟨rfl, rfl⟩ rfl rfl ⟨Nat.le_of_ble_eq_true rfl, Nat.le_of_ble_eq_true rfl⟩ ⟨Nat.le_of_ble_eq_true rfl, Nat.le_of_ble_eq_true rfl⟩ (Nat.le_of_ble_eq_true rfl) (fun X' hX => KX4_mixes hX)) rfl rfl rfl rfl ⟨Nat.le_of_ble_eq_true rfl, Nat.le_of_ble_eq_true rfl⟩ rfl hF (fun h103 hF => ?_)
      exact jj_retV rfl dX4_mixesFilm_61 ⟨Nat.le_of_ble_eq_true rfl, Nat.le_of_ble_eq_true rfl⟩ hF
    · skip
      refine jj_aload_n (j := 0) (i := 0) (pc' := 33) dX4_mixesFilm_32 rfl rfl rfl ?_
      refine jj_aload_n (j := 0) (i := 0) (pc' := 34) dX4_mixesFilm_33 rfl rfl rfl ?_
      refine jj_iload_n (j := 1) (i := 1) (pc' := 35) dX4_mixesFilm_34 rfl rfl rfl ?_
      refine jj_iload_n (j := 2) (i := 2) (pc' := 36) dX4_mixesFilm_35 rfl rfl rfl ?_
      refine jj_iconst (v := (0 : Int32)) (pc' := 37) dX4_mixesFilm_36 rfl rfl ?_
      refine jj_cI (N := M_X4_next) (kc' := 0) (ks' := 0) (pc' := 40) (jg_V (N := M_X4_next) (ci := 4) (rest := [.ref a0]) (as := [.int x1, .int x2, .int ((0 : Int32))]) cf_X4_236 dX4_mixesFilm_37 ⟨rfl, rfl⟩ rfl rfl ⟨Nat.le_of_ble_eq_true rfl, Nat.le_of_ble_eq_true rfl⟩ ⟨Nat.le_of_ble_eq_true rfl, Nat.le_of_ble_eq_true rfl⟩ (Nat.le_of_ble_eq_true rfl) (fun X' hX => KX4_next hX)) rfl rfl rfl rfl ⟨Nat.le_of_ble_eq_true rfl, Nat.le_of_ble_eq_true rfl⟩ rfl hF (fun x105 h104 hF => ?_)
      refine jj_i2l (pc' := 41) dX4_mixesFilm_40 rfl ?_
      refine jj_cV (N := M_X4_mixes) (kc' := 0) (ks' := 0) (pc' := 44) (jg_V (N := M_X4_mixes) (ci := 4) (rest := []) (as := [.long x105.toInt64]) cf_X4_257 dX4_mixesFilm_41 ⟨rfl, rfl⟩ rfl rfl ⟨Nat.le_of_ble_eq_true rfl, Nat.le_of_ble_eq_true rfl⟩ ⟨Nat.le_of_ble_eq_true rfl, Nat.le_of_ble_eq_true rfl⟩ (Nat.le_of_ble_eq_true rfl) (fun X' hX => KX4_mixes hX)) rfl rfl rfl rfl ⟨Nat.le_of_ble_eq_true rfl, Nat.le_of_ble_eq_true rfl⟩ rfl hF (fun h106 hF => ?_)
      refine jj_iinc (i := 2) (j := 2) (v := x2 + (1 : Int32)) (ls' := [(2, .int (x2 + (1 : Int32))), (0, .ref a0), (1, .int x1)]) (pc' := 47) dX4_mixesFilm_44 rfl rfl (Nat.le_of_ble_eq_true rfl) rfl rfl ?_
      refine jj_goto (tgt := 27) dX4_mixesFilm_47 rfl ?_
      exact jj_pick [1, 2, 0] rfl (ih a0 x1 (x2 + (1 : Int32)) h106 _ hF)
set_option maxRecDepth 100000 in
set_option maxHeartbeats 4000000 in
theorem BX4_mixesFilm_2 (N : Nat) : ∀ (n : Nat) (a0 : Nat) (x1 : Int32) (x2 : Int32) (h : jm_H) (X : jm_X), FX4_mixesFilm_2 N n a0 x1 x2 h = some X → jm_J M_X4_mixesFilm 2 [(0, .ref a0), (1, .int x1), (2, .int x2)] [] h 0 0 X := by
  intro n
  induction n with
  | zero =>
    intro a0 x1 x2 h X hF
    exact nomatch (show (none : Option jm_X) = some X from hF)
  | succ n ih =>
    intro a0 x1 x2 h X hF
    rw [FX4_mixesFilm_2] at hF
    refine jj_iload_n (j := 2) (i := 2) (pc' := 3) dX4_mixesFilm_2 rfl rfl rfl ?_
    refine jj_bipush (v := (6 : Int32)) (pc' := 5) dX4_mixesFilm_3 rfl rfl ?_
    refine jj_icmp_ge (tgt := 25) (pc' := 8) dX4_mixesFilm_5 rfl rfl (fun hc hF => ?_) (fun hc hF => ?_) hF
    · skip
      refine jj_iconst (v := (0 : Int32)) (pc' := 26) dX4_mixesFilm_25 rfl rfl ?_
      refine jj_istore_n (i := 2) (ls' := [(2, .int ((0 : Int32))), (0, .ref a0), (1, .int x1)]) (pc' := 27) dX4_mixesFilm_26 rfl (Nat.le_of_ble_eq_true rfl) rfl rfl ?_
      exact jj_pick [1, 2, 0] rfl (BX4_mixesFilm_27 N N a0 x1 ((0 : Int32)) h _ hF)
    · skip
      refine jj_aload_n (j := 0) (i := 0) (pc' := 9) dX4_mixesFilm_8 rfl rfl rfl ?_
      refine jj_aload_n (j := 0) (i := 0) (pc' := 10) dX4_mixesFilm_9 rfl rfl rfl ?_
      refine jj_iload_n (j := 1) (i := 1) (pc' := 11) dX4_mixesFilm_10 rfl rfl rfl ?_
      refine jj_iload_n (j := 2) (i := 2) (pc' := 12) dX4_mixesFilm_11 rfl rfl rfl ?_
      refine jj_cI (N := M_X4_aboutFilm) (kc' := 0) (ks' := 0) (pc' := 15) (jg_V (N := M_X4_aboutFilm) (ci := 4) (rest := [.ref a0]) (as := [.int x1, .int x2]) cf_X4_181 dX4_mixesFilm_12 ⟨rfl, rfl⟩ rfl rfl ⟨Nat.le_of_ble_eq_true rfl, Nat.le_of_ble_eq_true rfl⟩ ⟨Nat.le_of_ble_eq_true rfl, Nat.le_of_ble_eq_true rfl⟩ (Nat.le_of_ble_eq_true rfl) (fun X' hX => KX4_aboutFilm hX)) rfl rfl rfl rfl ⟨Nat.le_of_ble_eq_true rfl, Nat.le_of_ble_eq_true rfl⟩ rfl hF (fun x102 h101 hF => ?_)
      refine jj_i2l (pc' := 16) dX4_mixesFilm_15 rfl ?_
      refine jj_cV (N := M_X4_mixes) (kc' := 0) (ks' := 0) (pc' := 19) (jg_V (N := M_X4_mixes) (ci := 4) (rest := []) (as := [.long x102.toInt64]) cf_X4_257 dX4_mixesFilm_16 ⟨rfl, rfl⟩ rfl rfl ⟨Nat.le_of_ble_eq_true rfl, Nat.le_of_ble_eq_true rfl⟩ ⟨Nat.le_of_ble_eq_true rfl, Nat.le_of_ble_eq_true rfl⟩ (Nat.le_of_ble_eq_true rfl) (fun X' hX => KX4_mixes hX)) rfl rfl rfl rfl ⟨Nat.le_of_ble_eq_true rfl, Nat.le_of_ble_eq_true rfl⟩ rfl hF (fun h103 hF => ?_)
      refine jj_iinc (i := 2) (j := 2) (v := x2 + (1 : Int32)) (ls' := [(2, .int (x2 + (1 : Int32))), (0, .ref a0), (1, .int x1)]) (pc' := 22) dX4_mixesFilm_19 rfl rfl (Nat.le_of_ble_eq_true rfl) rfl rfl ?_
      refine jj_goto (tgt := 2) dX4_mixesFilm_22 rfl ?_
      exact jj_pick [1, 2, 0] rfl (ih a0 x1 (x2 + (1 : Int32)) h103 _ hF)
set_option maxRecDepth 100000 in
set_option maxHeartbeats 4000000 in
theorem JX4_mixesFilm {N : Nat} {a0 : Nat} {x1 : Int32} {h : jm_H} {X : jm_X} (hF : FX4_mixesFilm N a0 x1 h = some X) : jm_J M_X4_mixesFilm 0 [(0, .ref a0), (1, .int x1)] [] h 0 0 X := by
  unfold FX4_mixesFilm at hF
  refine jj_iconst (v := (0 : Int32)) (pc' := 1) dX4_mixesFilm_0 rfl rfl ?_
  refine jj_istore_n (i := 2) (ls' := [(2, .int ((0 : Int32))), (0, .ref a0), (1, .int x1)]) (pc' := 2) dX4_mixesFilm_1 rfl (Nat.le_of_ble_eq_true rfl) rfl rfl ?_
  exact jj_pick [1, 2, 0] rfl (BX4_mixesFilm_2 N N a0 x1 ((0 : Int32)) h _ hF)
theorem KX4_mixesFilm {N : Nat} {a0 : Nat} {x1 : Int32} {h : jm_H} {X : jm_X} (hF : FX4_mixesFilm N a0 x1 h = some X) : jm_K M_X4_mixesFilm [.ref a0, .int x1] h X := jk_of rfl (by decide +kernel) rfl rfl (Nat.le_of_ble_eq_true rfl) (JX4_mixesFilm hF)
set_option maxRecDepth 100000 in
set_option maxHeartbeats 4000000 in
theorem BX4_mixesShowing_27 (N : Nat) : ∀ (n : Nat) (a0 : Nat) (x1 : Int32) (x2 : Int32) (h : jm_H) (X : jm_X), FX4_mixesShowing_27 N n a0 x1 x2 h = some X → jm_J M_X4_mixesShowing 27 [(0, .ref a0), (1, .int x1), (2, .int x2)] [] h 0 0 X := by
  intro n
  induction n with
  | zero =>
    intro a0 x1 x2 h X hF
    exact nomatch (show (none : Option jm_X) = some X from hF)
  | succ n ih =>
    intro a0 x1 x2 h X hF
    rw [FX4_mixesShowing_27] at hF
    refine jj_iload_n (j := 2) (i := 2) (pc' := 28) dX4_mixesShowing_27 rfl rfl rfl ?_
    refine jj_bipush (v := (6 : Int32)) (pc' := 30) dX4_mixesShowing_28 rfl rfl ?_
    refine jj_icmp_ge (tgt := 50) (pc' := 33) dX4_mixesShowing_30 rfl rfl (fun hc hF => ?_) (fun hc hF => ?_) hF
    · skip
      exact jj_retV rfl dX4_mixesShowing_50 ⟨Nat.le_of_ble_eq_true rfl, Nat.le_of_ble_eq_true rfl⟩ hF
    · skip
      refine jj_aload_n (j := 0) (i := 0) (pc' := 34) dX4_mixesShowing_33 rfl rfl rfl ?_
      refine jj_aload_n (j := 0) (i := 0) (pc' := 35) dX4_mixesShowing_34 rfl rfl rfl ?_
      refine jj_iload_n (j := 1) (i := 1) (pc' := 36) dX4_mixesShowing_35 rfl rfl rfl ?_
      refine jj_iload_n (j := 2) (i := 2) (pc' := 37) dX4_mixesShowing_36 rfl rfl rfl ?_
      refine jj_cI (N := M_X4_reelAt) (kc' := 0) (ks' := 0) (pc' := 40) (jg_V (N := M_X4_reelAt) (ci := 4) (rest := [.ref a0]) (as := [.int x1, .int x2]) cf_X4_187 dX4_mixesShowing_37 ⟨rfl, rfl⟩ rfl rfl ⟨Nat.le_of_ble_eq_true rfl, Nat.le_of_ble_eq_true rfl⟩ ⟨Nat.le_of_ble_eq_true rfl, Nat.le_of_ble_eq_true rfl⟩ (Nat.le_of_ble_eq_true rfl) (fun X' hX => KX4_reelAt hX)) rfl rfl rfl rfl ⟨Nat.le_of_ble_eq_true rfl, Nat.le_of_ble_eq_true rfl⟩ rfl hF (fun x102 h101 hF => ?_)
      refine jj_i2l (pc' := 41) dX4_mixesShowing_40 rfl ?_
      refine jj_cV (N := M_X4_mixes) (kc' := 0) (ks' := 0) (pc' := 44) (jg_V (N := M_X4_mixes) (ci := 4) (rest := []) (as := [.long x102.toInt64]) cf_X4_257 dX4_mixesShowing_41 ⟨rfl, rfl⟩ rfl rfl ⟨Nat.le_of_ble_eq_true rfl, Nat.le_of_ble_eq_true rfl⟩ ⟨Nat.le_of_ble_eq_true rfl, Nat.le_of_ble_eq_true rfl⟩ (Nat.le_of_ble_eq_true rfl) (fun X' hX => KX4_mixes hX)) rfl rfl rfl rfl ⟨Nat.le_of_ble_eq_true rfl, Nat.le_of_ble_eq_true rfl⟩ rfl hF (fun h103 hF => ?_)
      refine jj_iinc (i := 2) (j := 2) (v := x2 + (1 : Int32)) (ls' := [(2, .int (x2 + (1 : Int32))), (0, .ref a0), (1, .int x1)]) (pc' := 47) dX4_mixesShowing_44 rfl rfl (Nat.le_of_ble_eq_true rfl) rfl rfl ?_
      refine jj_goto (tgt := 27) dX4_mixesShowing_47 rfl ?_
      exact jj_pick [1, 2, 0] rfl (ih a0 x1 (x2 + (1 : Int32)) h103 _ hF)
set_option maxRecDepth 100000 in
set_option maxHeartbeats 4000000 in
theorem BX4_mixesShowing_2 (N : Nat) : ∀ (n : Nat) (a0 : Nat) (x1 : Int32) (x2 : Int32) (h : jm_H) (X : jm_X), FX4_mixesShowing_2 N n a0 x1 x2 h = some X → jm_J M_X4_mixesShowing 2 [(0, .ref a0), (1, .int x1), (2, .int x2)] [] h 0 0 X := by
  intro n
  induction n with
  | zero =>
    intro a0 x1 x2 h X hF
    exact nomatch (show (none : Option jm_X) = some X from hF)
  | succ n ih =>
    intro a0 x1 x2 h X hF
    rw [FX4_mixesShowing_2] at hF
    refine jj_iload_n (j := 2) (i := 2) (pc' := 3) dX4_mixesShowing_2 rfl rfl rfl ?_
    refine jj_bipush (v := (6 : Int32)) (pc' := 5) dX4_mixesShowing_3 rfl rfl ?_
    refine jj_icmp_ge (tgt := 25) (pc' := 8) dX4_mixesShowing_5 rfl rfl (fun hc hF => ?_) (fun hc hF => ?_) hF
    · skip
      refine jj_iconst (v := (0 : Int32)) (pc' := 26) dX4_mixesShowing_25 rfl rfl ?_
      refine jj_istore_n (i := 2) (ls' := [(2, .int ((0 : Int32))), (0, .ref a0), (1, .int x1)]) (pc' := 27) dX4_mixesShowing_26 rfl (Nat.le_of_ble_eq_true rfl) rfl rfl ?_
      exact jj_pick [1, 2, 0] rfl (BX4_mixesShowing_27 N N a0 x1 ((0 : Int32)) h _ hF)
    · skip
      refine jj_aload_n (j := 0) (i := 0) (pc' := 9) dX4_mixesShowing_8 rfl rfl rfl ?_
      refine jj_aload_n (j := 0) (i := 0) (pc' := 10) dX4_mixesShowing_9 rfl rfl rfl ?_
      refine jj_iload_n (j := 1) (i := 1) (pc' := 11) dX4_mixesShowing_10 rfl rfl rfl ?_
      refine jj_iload_n (j := 2) (i := 2) (pc' := 12) dX4_mixesShowing_11 rfl rfl rfl ?_
      refine jj_cI (N := M_X4_aboutShowing) (kc' := 0) (ks' := 0) (pc' := 15) (jg_V (N := M_X4_aboutShowing) (ci := 4) (rest := [.ref a0]) (as := [.int x1, .int x2]) cf_X4_184 dX4_mixesShowing_12 ⟨rfl, rfl⟩ rfl rfl ⟨Nat.le_of_ble_eq_true rfl, Nat.le_of_ble_eq_true rfl⟩ ⟨Nat.le_of_ble_eq_true rfl, Nat.le_of_ble_eq_true rfl⟩ (Nat.le_of_ble_eq_true rfl) (fun X' hX => KX4_aboutShowing hX)) rfl rfl rfl rfl ⟨Nat.le_of_ble_eq_true rfl, Nat.le_of_ble_eq_true rfl⟩ rfl hF (fun x102 h101 hF => ?_)
      refine jj_i2l (pc' := 16) dX4_mixesShowing_15 rfl ?_
      refine jj_cV (N := M_X4_mixes) (kc' := 0) (ks' := 0) (pc' := 19) (jg_V (N := M_X4_mixes) (ci := 4) (rest := []) (as := [.long x102.toInt64]) cf_X4_257 dX4_mixesShowing_16 ⟨rfl, rfl⟩ rfl rfl ⟨Nat.le_of_ble_eq_true rfl, Nat.le_of_ble_eq_true rfl⟩ ⟨Nat.le_of_ble_eq_true rfl, Nat.le_of_ble_eq_true rfl⟩ (Nat.le_of_ble_eq_true rfl) (fun X' hX => KX4_mixes hX)) rfl rfl rfl rfl ⟨Nat.le_of_ble_eq_true rfl, Nat.le_of_ble_eq_true rfl⟩ rfl hF (fun h103 hF => ?_)
      refine jj_iinc (i := 2) (j := 2) (v := x2 + (1 : Int32)) (ls' := [(2, .int (x2 + (1 : Int32))), (0, .ref a0), (1, .int x1)]) (pc' := 22) dX4_mixesShowing_19 rfl rfl (Nat.le_of_ble_eq_true rfl) rfl rfl ?_
      refine jj_goto (tgt := 2) dX4_mixesShowing_22 rfl ?_
      exact jj_pick [1, 2, 0] rfl (ih a0 x1 (x2 + (1 : Int32)) h103 _ hF)
set_option maxRecDepth 100000 in
set_option maxHeartbeats 4000000 in
theorem JX4_mixesShowing {N : Nat} {a0 : Nat} {x1 : Int32} {h : jm_H} {X : jm_X} (hF : FX4_mixesShowing N a0 x1 h = some X) : jm_J M_X4_mixesShowing 0 [(0, .ref a0), (1, .int x1)] [] h 0 0 X := by
  unfold FX4_mixesShowing at hF
  refine jj_iconst (v := (0 : Int32)) (pc' := 1) dX4_mixesShowing_0 rfl rfl ?_
  refine jj_istore_n (i := 2) (ls' := [(2, .int ((0 : Int32))), (0, .ref a0), (1, .int x1)]) (pc' := 2) dX4_mixesShowing_1 rfl (Nat.le_of_ble_eq_true rfl) rfl rfl ?_
  exact jj_pick [1, 2, 0] rfl (BX4_mixesShowing_2 N N a0 x1 ((0 : Int32)) h _ hF)
theorem KX4_mixesShowing {N : Nat} {a0 : Nat} {x1 : Int32} {h : jm_H} {X : jm_X} (hF : FX4_mixesShowing N a0 x1 h = some X) : jm_K M_X4_mixesShowing [.ref a0, .int x1] h X := jk_of rfl (by decide +kernel) rfl rfl (Nat.le_of_ble_eq_true rfl) (JX4_mixesShowing hF)
set_option maxRecDepth 100000 in
set_option maxHeartbeats 4000000 in
theorem JJxe99ae_isNaN_b9ae7 {d0 : UInt64} {h : jm_H} {X : jm_X} (hF : FJxe99ae_isNaN_b9ae7 d0 h = some X) : jm_J M_Jxe99ae_isNaN_b9ae7 0 [(0, .double d0)] [] h 0 0 X := by
  unfold FJxe99ae_isNaN_b9ae7 at hF
  refine jj_dload_n (j := 0) (i := 0) (pc' := 1) dJxe99ae_isNaN_b9ae7_0 rfl rfl rfl ?_
  refine jj_dload_n (j := 0) (i := 0) (pc' := 2) dJxe99ae_isNaN_b9ae7_1 rfl rfl rfl ?_
  refine jj_dcmp (pc' := 3) dJxe99ae_isNaN_b9ae7_2 rfl ?_
  refine jj_if_eq (tgt := 10) (pc' := 6) dJxe99ae_isNaN_b9ae7_3 rfl rfl (fun hc hF => ?_) (fun hc hF => ?_) hF
  · skip
    refine jj_iconst (v := (0 : Int32)) (pc' := 11) dJxe99ae_isNaN_b9ae7_10 rfl rfl ?_
    exact jj_retI (ty := .boolean) rfl rfl dJxe99ae_isNaN_b9ae7_11 ⟨Nat.le_of_ble_eq_true rfl, Nat.le_of_ble_eq_true rfl⟩ hF
  · skip
    refine jj_iconst (v := (1 : Int32)) (pc' := 7) dJxe99ae_isNaN_b9ae7_6 rfl rfl ?_
    refine jj_goto (tgt := 11) dJxe99ae_isNaN_b9ae7_7 rfl ?_
    exact jj_retI (ty := .boolean) rfl rfl dJxe99ae_isNaN_b9ae7_11 ⟨Nat.le_of_ble_eq_true rfl, Nat.le_of_ble_eq_true rfl⟩ hF
theorem KJxe99ae_isNaN_b9ae7 {d0 : UInt64} {h : jm_H} {X : jm_X} (hF : FJxe99ae_isNaN_b9ae7 d0 h = some X) : jm_K M_Jxe99ae_isNaN_b9ae7 [.double d0] h X := jk_of rfl (by decide +kernel) rfl rfl (Nat.le_of_ble_eq_true rfl) (JJxe99ae_isNaN_b9ae7 hF)
set_option maxRecDepth 100000 in
set_option maxHeartbeats 4000000 in
theorem JJxe99ae_doubleToLongBits_ccdee {d0 : UInt64} {h : jm_H} {X : jm_X} (hF : FJxe99ae_doubleToLongBits_ccdee d0 h = some X) : jm_J M_Jxe99ae_doubleToLongBits_ccdee 0 [(0, .double d0)] [] h 0 0 X := by
  unfold FJxe99ae_doubleToLongBits_ccdee at hF
  refine jj_dload_n (j := 0) (i := 0) (pc' := 1) dJxe99ae_doubleToLongBits_ccdee_0 rfl rfl rfl ?_
  refine jj_cI (N := M_Jxe99ae_isNaN_b9ae7) (kc' := 0) (ks' := 0) (pc' := 4) (jg_S (N := M_Jxe99ae_isNaN_b9ae7) (rest := []) (as := [.double d0]) cf_Jxe99ae_122 rfl dJxe99ae_doubleToLongBits_ccdee_1 rfl rfl ⟨Nat.le_of_ble_eq_true rfl, Nat.le_of_ble_eq_true rfl⟩ ⟨Nat.le_of_ble_eq_true rfl, Nat.le_of_ble_eq_true rfl⟩ (Nat.le_of_ble_eq_true rfl) (fun X' hX => KJxe99ae_isNaN_b9ae7 hX)) rfl rfl rfl rfl ⟨Nat.le_of_ble_eq_true rfl, Nat.le_of_ble_eq_true rfl⟩ rfl hF (fun x102 h101 hF => ?_)
  refine jj_if_ne (tgt := 12) (pc' := 7) dJxe99ae_doubleToLongBits_ccdee_4 rfl rfl (fun hc hF => ?_) (fun hc hF => ?_) hF
  · skip
    refine jj_ldc2l (v := (9221120237041090560 : Int64)) (pc' := 15) dJxe99ae_doubleToLongBits_ccdee_12 qw_91 rfl ?_
    exact jj_retL rfl dJxe99ae_doubleToLongBits_ccdee_15 ⟨Nat.le_of_ble_eq_true rfl, Nat.le_of_ble_eq_true rfl⟩ hF
  · skip
    refine jj_dload_n (j := 0) (i := 0) (pc' := 8) dJxe99ae_doubleToLongBits_ccdee_7 rfl rfl rfl ?_
    refine jj_raw (pc' := 11) dJxe99ae_doubleToLongBits_ccdee_8 rfl ⟨qw_92, qw_93, qw_94, qw_95⟩ ⟨Nat.le_of_ble_eq_true rfl, Nat.le_of_ble_eq_true rfl⟩ ?_
    exact jj_retL rfl dJxe99ae_doubleToLongBits_ccdee_11 ⟨Nat.le_of_ble_eq_true rfl, Nat.le_of_ble_eq_true rfl⟩ hF
theorem KJxe99ae_doubleToLongBits_ccdee {d0 : UInt64} {h : jm_H} {X : jm_X} (hF : FJxe99ae_doubleToLongBits_ccdee d0 h = some X) : jm_K M_Jxe99ae_doubleToLongBits_ccdee [.double d0] h X := jk_of rfl (by decide +kernel) rfl rfl (Nat.le_of_ble_eq_true rfl) (JJxe99ae_doubleToLongBits_ccdee hF)

set_option maxRecDepth 100000 in
set_option maxHeartbeats 4000000 in
theorem JX1_advance {a0 : Nat} {x1 : Int32} {x2 : Int32} {h : jm_H} {X : jm_X} (hF : FX1_advance a0 x1 x2 h = some X) : jm_J M_X1_advance 0 [(0, .ref a0), (1, .int x1), (2, .int x2)] [] h 0 0 X := by
  unfold FX1_advance at hF
  refine jj_aload_n (j := 0) (i := 0) (pc' := 1) dX1_advance_0 rfl rfl rfl ?_
  refine jj_iload_n (j := 2) (i := 2) (pc' := 2) dX1_advance_1 rfl rfl rfl ?_
  refine jj_p (C := RX1) (T := TX1) (N := 5) (ci := 1) (k := 4) (ty := tyX1) (pc' := 5) dX1_advance_2 rfl rfl inX1 tyX1_ok nmX1 (by decide) qw_56 rfl (fun _ => ⟨rfl, rfl⟩) hF (fun h101 hF => ?_)
  refine jj_iload_n (j := 1) (i := 1) (pc' := 6) dX1_advance_5 rfl rfl rfl ?_
  exact jj_retZ rfl dX1_advance_6 ⟨Nat.le_of_ble_eq_true rfl, Nat.le_of_ble_eq_true rfl⟩ hF
theorem KX1_advance {a0 : Nat} {x1 : Int32} {x2 : Int32} {h : jm_H} {X : jm_X} (hF : FX1_advance a0 x1 x2 h = some X) : jm_K M_X1_advance [.ref a0, .int x1, .int x2] h X := jk_of rfl (by decide +kernel) rfl rfl (Nat.le_of_ble_eq_true rfl) (JX1_advance hF)
set_option maxRecDepth 100000 in
set_option maxHeartbeats 4000000 in
theorem JX1_isLonger {x0 : Int32} {x1 : Int32} {x2 : Int32} {h : jm_H} {X : jm_X} (hF : FX1_isLonger x0 x1 x2 h = some X) : jm_J M_X1_isLonger 0 [(0, .int x0), (1, .int x1), (2, .int x2)] [] h 0 0 X := by
  unfold FX1_isLonger at hF
  refine jj_iload_n (j := 0) (i := 0) (pc' := 1) dX1_isLonger_0 rfl rfl rfl ?_
  refine jj_if_le (tgt := 28) (pc' := 4) dX1_isLonger_1 rfl rfl (fun hc hF => ?_) (fun hc hF => ?_) hF
  · skip
    refine jj_iconst (v := (0 : Int32)) (pc' := 29) dX1_isLonger_28 rfl rfl ?_
    exact jj_retI (ty := .boolean) rfl rfl dX1_isLonger_29 ⟨Nat.le_of_ble_eq_true rfl, Nat.le_of_ble_eq_true rfl⟩ hF
  · skip
    refine jj_iload_n (j := 1) (i := 1) (pc' := 5) dX1_isLonger_4 rfl rfl rfl ?_
    refine jj_iconst (v := (0 : Int32)) (pc' := 6) dX1_isLonger_5 rfl rfl ?_
    refine jj_bipush (v := (9 : Int32)) (pc' := 8) dX1_isLonger_6 rfl rfl ?_
    refine jj_nS (N := M_X3_isWithin) (as := [.int x1, .int ((0 : Int32)), .int ((9 : Int32))]) (rest := []) (kc' := 0) (ks' := 0) (pc' := 11) cf_X1_21 dX1_isLonger_8 rfl rfl ⟨Nat.le_of_ble_eq_true rfl, Nat.le_of_ble_eq_true rfl⟩ ⟨Nat.le_of_ble_eq_true rfl, Nat.le_of_ble_eq_true rfl⟩ (Nat.le_of_ble_eq_true rfl) (fun X' hX => KX3_isWithin hX) rfl rfl rfl rfl hF (fun x102 h101 hF => ?_)
    refine jj_if_eq (tgt := 28) (pc' := 14) dX1_isLonger_11 rfl rfl (fun hc hF => ?_) (fun hc hF => ?_) hF
    · skip
      refine jj_iconst (v := (0 : Int32)) (pc' := 29) dX1_isLonger_28 rfl rfl ?_
      exact jj_retI (ty := .boolean) rfl rfl dX1_isLonger_29 ⟨Nat.le_of_ble_eq_true rfl, Nat.le_of_ble_eq_true rfl⟩ hF
    · skip
      refine jj_iload_n (j := 0) (i := 0) (pc' := 15) dX1_isLonger_14 rfl rfl rfl ?_
      refine jj_bipush (v := (10 : Int32)) (pc' := 17) dX1_isLonger_15 rfl rfl ?_
      refine jj_imul (pc' := 18) dX1_isLonger_17 rfl ?_
      refine jj_iload_n (j := 1) (i := 1) (pc' := 19) dX1_isLonger_18 rfl rfl rfl ?_
      refine jj_iadd (pc' := 20) dX1_isLonger_19 rfl ?_
      refine jj_iload_n (j := 2) (i := 2) (pc' := 21) dX1_isLonger_20 rfl rfl rfl ?_
      refine jj_icmp_gt (tgt := 28) (pc' := 24) dX1_isLonger_21 rfl rfl (fun hc hF => ?_) (fun hc hF => ?_) hF
      · skip
        refine jj_iconst (v := (0 : Int32)) (pc' := 29) dX1_isLonger_28 rfl rfl ?_
        exact jj_retI (ty := .boolean) rfl rfl dX1_isLonger_29 ⟨Nat.le_of_ble_eq_true rfl, Nat.le_of_ble_eq_true rfl⟩ hF
      · skip
        refine jj_iconst (v := (1 : Int32)) (pc' := 25) dX1_isLonger_24 rfl rfl ?_
        refine jj_goto (tgt := 29) dX1_isLonger_25 rfl ?_
        exact jj_retI (ty := .boolean) rfl rfl dX1_isLonger_29 ⟨Nat.le_of_ble_eq_true rfl, Nat.le_of_ble_eq_true rfl⟩ hF
theorem KX1_isLonger {x0 : Int32} {x1 : Int32} {x2 : Int32} {h : jm_H} {X : jm_X} (hF : FX1_isLonger x0 x1 x2 h = some X) : jm_K M_X1_isLonger [.int x0, .int x1, .int x2] h X := jk_of rfl (by decide +kernel) rfl rfl (Nat.le_of_ble_eq_true rfl) (JX1_isLonger hF)
set_option maxRecDepth 100000 in
set_option maxHeartbeats 4000000 in
theorem JX1_takeBehindStart {a0 : Nat} {x1 : Int32} {x2 : Int32} {h : jm_H} {X : jm_X} (hF : FX1_takeBehindStart a0 x1 x2 h = some X) : jm_J M_X1_takeBehindStart 0 [(0, .ref a0), (1, .int x1), (2, .int x2)] [] h 0 0 X := by
  unfold FX1_takeBehindStart at hF
  refine jj_iload_n (j := 1) (i := 1) (pc' := 1) dX1_takeBehindStart_0 rfl rfl rfl ?_
  refine jj_bipush (v := (43 : Int32)) (pc' := 3) dX1_takeBehindStart_1 rfl rfl ?_
  refine jj_icmp_ne (tgt := 14) (pc' := 6) dX1_takeBehindStart_3 rfl rfl (fun hc hF => ?_) (fun hc hF => ?_) hF
  · skip
    refine jj_iload_n (j := 1) (i := 1) (pc' := 15) dX1_takeBehindStart_14 rfl rfl rfl ?_
    refine jj_bipush (v := (59 : Int32)) (pc' := 17) dX1_takeBehindStart_15 rfl rfl ?_
    refine jj_icmp_ne (tgt := 26) (pc' := 20) dX1_takeBehindStart_17 rfl rfl (fun hc hF => ?_) (fun hc hF => ?_) hF
    · skip
      refine jj_aload_n (j := 0) (i := 0) (pc' := 27) dX1_takeBehindStart_26 rfl rfl rfl ?_
      refine jj_gI (C := RX1) (T := TX1) (N := 5) (ci := 1) (k := 2) (pc' := 30) dX1_takeBehindStart_27 rfl rfl inX1 (by decide) qw_57 hF (fun x101 hF => ?_)
      refine jj_iload_n (j := 2) (i := 2) (pc' := 31) dX1_takeBehindStart_30 rfl rfl rfl ?_
      refine jj_sipush (v := (1999 : Int32)) (pc' := 34) dX1_takeBehindStart_31 rfl rfl ?_
      refine jj_cI (N := M_X1_isLonger) (kc' := 0) (ks' := 0) (pc' := 37) (jg_S (N := M_X1_isLonger) (rest := []) (as := [.int x101, .int x2, .int ((1999 : Int32))]) cf_X1_45 rfl dX1_takeBehindStart_34 rfl rfl ⟨Nat.le_of_ble_eq_true rfl, Nat.le_of_ble_eq_true rfl⟩ ⟨Nat.le_of_ble_eq_true rfl, Nat.le_of_ble_eq_true rfl⟩ (Nat.le_of_ble_eq_true rfl) (fun X' hX => KX1_isLonger hX)) rfl rfl rfl rfl ⟨Nat.le_of_ble_eq_true rfl, Nat.le_of_ble_eq_true rfl⟩ rfl hF (fun x103 h102 hF => ?_)
      refine jj_istore_n (i := 3) (ls' := [(3, .int x103), (0, .ref a0), (1, .int x1), (2, .int x2)]) (pc' := 38) dX1_takeBehindStart_37 rfl (Nat.le_of_ble_eq_true rfl) rfl rfl ?_
      refine jj_aload_n (j := 1) (i := 0) (pc' := 39) dX1_takeBehindStart_38 rfl rfl rfl ?_
      refine jj_aload_n (j := 1) (i := 0) (pc' := 40) dX1_takeBehindStart_39 rfl rfl rfl ?_
      refine jj_gI (C := RX1) (T := TX1) (N := 5) (ci := 1) (k := 2) (pc' := 43) dX1_takeBehindStart_40 rfl rfl inX1 (by decide) qw_57 hF (fun x104 hF => ?_)
      refine jj_bipush (v := (10 : Int32)) (pc' := 45) dX1_takeBehindStart_43 rfl rfl ?_
      refine jj_imul (pc' := 46) dX1_takeBehindStart_45 rfl ?_
      refine jj_iload_n (j := 3) (i := 2) (pc' := 47) dX1_takeBehindStart_46 rfl rfl rfl ?_
      refine jj_iadd (pc' := 48) dX1_takeBehindStart_47 rfl ?_
      refine jj_p (C := RX1) (T := TX1) (N := 5) (ci := 1) (k := 2) (ty := tyX1) (pc' := 51) dX1_takeBehindStart_48 rfl rfl inX1 tyX1_ok nmX1 (by decide) qw_57 rfl (fun _ => ⟨rfl, rfl⟩) hF (fun h105 hF => ?_)
      refine jj_iload_n (j := 0) (i := 3) (pc' := 52) dX1_takeBehindStart_51 rfl rfl rfl ?_
      exact jj_retZ rfl dX1_takeBehindStart_52 ⟨Nat.le_of_ble_eq_true rfl, Nat.le_of_ble_eq_true rfl⟩ hF
    · skip
      refine jj_aload_n (j := 0) (i := 0) (pc' := 21) dX1_takeBehindStart_20 rfl rfl rfl ?_
      refine jj_cV (N := M_X1_startPart) (kc' := 0) (ks' := 0) (pc' := 24) (jg_V (N := M_X1_startPart) (ci := 1) (rest := []) (as := []) cf_X1_42 dX1_takeBehindStart_21 ⟨rfl, rfl⟩ rfl rfl ⟨Nat.le_of_ble_eq_true rfl, Nat.le_of_ble_eq_true rfl⟩ ⟨Nat.le_of_ble_eq_true rfl, Nat.le_of_ble_eq_true rfl⟩ (Nat.le_of_ble_eq_true rfl) (fun X' hX => KX1_startPart hX)) rfl rfl rfl rfl ⟨Nat.le_of_ble_eq_true rfl, Nat.le_of_ble_eq_true rfl⟩ rfl hF (fun h106 hF => ?_)
      refine jj_iconst (v := (1 : Int32)) (pc' := 25) dX1_takeBehindStart_24 rfl rfl ?_
      exact jj_retI (ty := .boolean) rfl rfl dX1_takeBehindStart_25 ⟨Nat.le_of_ble_eq_true rfl, Nat.le_of_ble_eq_true rfl⟩ hF
  · skip
    refine jj_aload_n (j := 0) (i := 0) (pc' := 7) dX1_takeBehindStart_6 rfl rfl rfl ?_
    refine jj_bipush (v := (6 : Int32)) (pc' := 9) dX1_takeBehindStart_7 rfl rfl ?_
    refine jj_p (C := RX1) (T := TX1) (N := 5) (ci := 1) (k := 4) (ty := tyX1) (pc' := 12) dX1_takeBehindStart_9 rfl rfl inX1 tyX1_ok nmX1 (by decide) qw_56 rfl (fun _ => ⟨rfl, rfl⟩) hF (fun h107 hF => ?_)
    refine jj_iconst (v := (1 : Int32)) (pc' := 13) dX1_takeBehindStart_12 rfl rfl ?_
    exact jj_retI (ty := .boolean) rfl rfl dX1_takeBehindStart_13 ⟨Nat.le_of_ble_eq_true rfl, Nat.le_of_ble_eq_true rfl⟩ hF
theorem KX1_takeBehindStart {a0 : Nat} {x1 : Int32} {x2 : Int32} {h : jm_H} {X : jm_X} (hF : FX1_takeBehindStart a0 x1 x2 h = some X) : jm_K M_X1_takeBehindStart [.ref a0, .int x1, .int x2] h X := jk_of rfl (by decide +kernel) rfl rfl (Nat.le_of_ble_eq_true rfl) (JX1_takeBehindStart hF)
set_option maxRecDepth 100000 in
set_option maxHeartbeats 4000000 in
theorem JX1_takeBehindPause {a0 : Nat} {x1 : Int32} {x2 : Int32} {h : jm_H} {X : jm_X} (hF : FX1_takeBehindPause a0 x1 x2 h = some X) : jm_J M_X1_takeBehindPause 0 [(0, .ref a0), (1, .int x1), (2, .int x2)] [] h 0 0 X := by
  unfold FX1_takeBehindPause at hF
  refine jj_iload_n (j := 1) (i := 1) (pc' := 1) dX1_takeBehindPause_0 rfl rfl rfl ?_
  refine jj_bipush (v := (59 : Int32)) (pc' := 3) dX1_takeBehindPause_1 rfl rfl ?_
  refine jj_icmp_ne (tgt := 12) (pc' := 6) dX1_takeBehindPause_3 rfl rfl (fun hc hF => ?_) (fun hc hF => ?_) hF
  · skip
    refine jj_aload_n (j := 0) (i := 0) (pc' := 13) dX1_takeBehindPause_12 rfl rfl rfl ?_
    refine jj_gI (C := RX1) (T := TX1) (N := 5) (ci := 1) (k := 3) (pc' := 16) dX1_takeBehindPause_13 rfl rfl inX1 (by decide) qw_55 hF (fun x101 hF => ?_)
    refine jj_iload_n (j := 2) (i := 2) (pc' := 17) dX1_takeBehindPause_16 rfl rfl rfl ?_
    refine jj_bipush (v := (20 : Int32)) (pc' := 19) dX1_takeBehindPause_17 rfl rfl ?_
    refine jj_cI (N := M_X1_isLonger) (kc' := 0) (ks' := 0) (pc' := 22) (jg_S (N := M_X1_isLonger) (rest := []) (as := [.int x101, .int x2, .int ((20 : Int32))]) cf_X1_45 rfl dX1_takeBehindPause_19 rfl rfl ⟨Nat.le_of_ble_eq_true rfl, Nat.le_of_ble_eq_true rfl⟩ ⟨Nat.le_of_ble_eq_true rfl, Nat.le_of_ble_eq_true rfl⟩ (Nat.le_of_ble_eq_true rfl) (fun X' hX => KX1_isLonger hX)) rfl rfl rfl rfl ⟨Nat.le_of_ble_eq_true rfl, Nat.le_of_ble_eq_true rfl⟩ rfl hF (fun x103 h102 hF => ?_)
    refine jj_istore_n (i := 3) (ls' := [(3, .int x103), (0, .ref a0), (1, .int x1), (2, .int x2)]) (pc' := 23) dX1_takeBehindPause_22 rfl (Nat.le_of_ble_eq_true rfl) rfl rfl ?_
    refine jj_aload_n (j := 1) (i := 0) (pc' := 24) dX1_takeBehindPause_23 rfl rfl rfl ?_
    refine jj_aload_n (j := 1) (i := 0) (pc' := 25) dX1_takeBehindPause_24 rfl rfl rfl ?_
    refine jj_gI (C := RX1) (T := TX1) (N := 5) (ci := 1) (k := 3) (pc' := 28) dX1_takeBehindPause_25 rfl rfl inX1 (by decide) qw_55 hF (fun x104 hF => ?_)
    refine jj_bipush (v := (10 : Int32)) (pc' := 30) dX1_takeBehindPause_28 rfl rfl ?_
    refine jj_imul (pc' := 31) dX1_takeBehindPause_30 rfl ?_
    refine jj_iload_n (j := 3) (i := 2) (pc' := 32) dX1_takeBehindPause_31 rfl rfl rfl ?_
    refine jj_iadd (pc' := 33) dX1_takeBehindPause_32 rfl ?_
    refine jj_p (C := RX1) (T := TX1) (N := 5) (ci := 1) (k := 3) (ty := tyX1) (pc' := 36) dX1_takeBehindPause_33 rfl rfl inX1 tyX1_ok nmX1 (by decide) qw_55 rfl (fun _ => ⟨rfl, rfl⟩) hF (fun h105 hF => ?_)
    refine jj_iload_n (j := 0) (i := 3) (pc' := 37) dX1_takeBehindPause_36 rfl rfl rfl ?_
    exact jj_retZ rfl dX1_takeBehindPause_37 ⟨Nat.le_of_ble_eq_true rfl, Nat.le_of_ble_eq_true rfl⟩ hF
  · skip
    refine jj_aload_n (j := 0) (i := 0) (pc' := 7) dX1_takeBehindPause_6 rfl rfl rfl ?_
    refine jj_cV (N := M_X1_startPart) (kc' := 0) (ks' := 0) (pc' := 10) (jg_V (N := M_X1_startPart) (ci := 1) (rest := []) (as := []) cf_X1_42 dX1_takeBehindPause_7 ⟨rfl, rfl⟩ rfl rfl ⟨Nat.le_of_ble_eq_true rfl, Nat.le_of_ble_eq_true rfl⟩ ⟨Nat.le_of_ble_eq_true rfl, Nat.le_of_ble_eq_true rfl⟩ (Nat.le_of_ble_eq_true rfl) (fun X' hX => KX1_startPart hX)) rfl rfl rfl rfl ⟨Nat.le_of_ble_eq_true rfl, Nat.le_of_ble_eq_true rfl⟩ rfl hF (fun h106 hF => ?_)
    refine jj_iconst (v := (1 : Int32)) (pc' := 11) dX1_takeBehindPause_10 rfl rfl ?_
    exact jj_retI (ty := .boolean) rfl rfl dX1_takeBehindPause_11 ⟨Nat.le_of_ble_eq_true rfl, Nat.le_of_ble_eq_true rfl⟩ hF
theorem KX1_takeBehindPause {a0 : Nat} {x1 : Int32} {x2 : Int32} {h : jm_H} {X : jm_X} (hF : FX1_takeBehindPause a0 x1 x2 h = some X) : jm_K M_X1_takeBehindPause [.ref a0, .int x1, .int x2] h X := jk_of rfl (by decide +kernel) rfl rfl (Nat.le_of_ble_eq_true rfl) (JX1_takeBehindPause hF)
set_option maxRecDepth 100000 in
set_option maxHeartbeats 4000000 in
theorem JX1_takeCode {a0 : Nat} {x1 : Int32} {h : jm_H} {X : jm_X} (hF : FX1_takeCode a0 x1 h = some X) : jm_J M_X1_takeCode 0 [(0, .ref a0), (1, .int x1)] [] h 0 0 X := by
  unfold FX1_takeCode at hF
  refine jj_iload_n (j := 1) (i := 1) (pc' := 1) dX1_takeCode_0 rfl rfl rfl ?_
  refine jj_bipush (v := (48 : Int32)) (pc' := 3) dX1_takeCode_1 rfl rfl ?_
  refine jj_isub (pc' := 4) dX1_takeCode_3 rfl ?_
  refine jj_istore_n (i := 2) (ls' := [(2, .int (x1 - ((48 : Int32)))), (0, .ref a0), (1, .int x1)]) (pc' := 5) dX1_takeCode_4 rfl (Nat.le_of_ble_eq_true rfl) rfl rfl ?_
  refine jj_aload_n (j := 1) (i := 0) (pc' := 6) dX1_takeCode_5 rfl rfl rfl ?_
  refine jj_gI (C := RX1) (T := TX1) (N := 5) (ci := 1) (k := 4) (pc' := 9) dX1_takeCode_6 rfl rfl inX1 (by decide) qw_56 hF (fun x101 hF => ?_)
  refine jj_table (N := 7) (lo := 0) (dt := 165) [52, 70, 87, 104, 121, 139, 146] dX1_takeCode_9 ⟨by decide, by decide⟩ ⟨by decide, by decide, rfl, rfl⟩ (by decide) rfl ?_ (fun hF => ?_) hF
  · intro i b tg hb ht hx hF
    match i, hb, ht with
    | 0, hb, ht =>
      cases hb; cases ht
      refine jj_aload_n (j := 1) (i := 0) (pc' := 53) dX1_takeCode_52 rfl rfl rfl ?_
      refine jj_iload_n (j := 0) (i := 2) (pc' := 54) dX1_takeCode_53 rfl rfl rfl ?_
      refine jj_p (C := RX1) (T := TX1) (N := 5) (ci := 1) (k := 0) (ty := tyX1) (pc' := 57) dX1_takeCode_54 rfl rfl inX1 tyX1_ok nmX1 (by decide) qw_58 rfl (fun _ => ⟨rfl, rfl⟩) hF (fun h102 hF => ?_)
      refine jj_aload_n (j := 1) (i := 0) (pc' := 58) dX1_takeCode_57 rfl rfl rfl ?_
      refine jj_iload_n (j := 0) (i := 2) (pc' := 59) dX1_takeCode_58 rfl rfl rfl ?_
      refine jj_iconst (v := (0 : Int32)) (pc' := 60) dX1_takeCode_59 rfl rfl ?_
      refine jj_bipush (v := (7 : Int32)) (pc' := 62) dX1_takeCode_60 rfl rfl ?_
      refine jj_nS (N := M_X3_isWithin) (as := [.int (x1 - ((48 : Int32))), .int ((0 : Int32)), .int ((7 : Int32))]) (rest := [.ref a0]) (kc' := 0) (ks' := 0) (pc' := 65) cf_X1_21 dX1_takeCode_62 rfl rfl ⟨Nat.le_of_ble_eq_true rfl, Nat.le_of_ble_eq_true rfl⟩ ⟨Nat.le_of_ble_eq_true rfl, Nat.le_of_ble_eq_true rfl⟩ (Nat.le_of_ble_eq_true rfl) (fun X' hX => KX3_isWithin hX) rfl rfl rfl rfl hF (fun x104 h103 hF => ?_)
      refine jj_iconst (v := (1 : Int32)) (pc' := 66) dX1_takeCode_65 rfl rfl ?_
      refine jj_cI (N := M_X1_advance) (kc' := 0) (ks' := 0) (pc' := 69) (jg_V (N := M_X1_advance) (ci := 1) (rest := []) (as := [.int x104, .int ((1 : Int32))]) cf_X1_25 dX1_takeCode_66 ⟨rfl, rfl⟩ rfl rfl ⟨Nat.le_of_ble_eq_true rfl, Nat.le_of_ble_eq_true rfl⟩ ⟨Nat.le_of_ble_eq_true rfl, Nat.le_of_ble_eq_true rfl⟩ (Nat.le_of_ble_eq_true rfl) (fun X' hX => KX1_advance hX)) rfl rfl rfl rfl ⟨Nat.le_of_ble_eq_true rfl, Nat.le_of_ble_eq_true rfl⟩ rfl hF (fun x106 h105 hF => ?_)
      exact jj_retZ rfl dX1_takeCode_69 ⟨Nat.le_of_ble_eq_true rfl, Nat.le_of_ble_eq_true rfl⟩ hF
    | 1, hb, ht =>
      cases hb; cases ht
      refine jj_aload_n (j := 1) (i := 0) (pc' := 71) dX1_takeCode_70 rfl rfl rfl ?_
      refine jj_iload_n (j := 2) (i := 1) (pc' := 72) dX1_takeCode_71 rfl rfl rfl ?_
      refine jj_bipush (v := (47 : Int32)) (pc' := 74) dX1_takeCode_72 rfl rfl ?_
      refine jj_icmp_ne (tgt := 81) (pc' := 77) dX1_takeCode_74 rfl rfl (fun hc hF => ?_) (fun hc hF => ?_) hF
      · skip
        refine jj_iconst (v := (0 : Int32)) (pc' := 82) dX1_takeCode_81 rfl rfl ?_
        refine jj_iconst (v := (2 : Int32)) (pc' := 83) dX1_takeCode_82 rfl rfl ?_
        refine jj_cI (N := M_X1_advance) (kc' := 0) (ks' := 0) (pc' := 86) (jg_V (N := M_X1_advance) (ci := 1) (rest := []) (as := [.int ((0 : Int32)), .int ((2 : Int32))]) cf_X1_25 dX1_takeCode_83 ⟨rfl, rfl⟩ rfl rfl ⟨Nat.le_of_ble_eq_true rfl, Nat.le_of_ble_eq_true rfl⟩ ⟨Nat.le_of_ble_eq_true rfl, Nat.le_of_ble_eq_true rfl⟩ (Nat.le_of_ble_eq_true rfl) (fun X' hX => KX1_advance hX)) rfl rfl rfl rfl ⟨Nat.le_of_ble_eq_true rfl, Nat.le_of_ble_eq_true rfl⟩ rfl hF (fun x108 h107 hF => ?_)
        exact jj_retZ rfl dX1_takeCode_86 ⟨Nat.le_of_ble_eq_true rfl, Nat.le_of_ble_eq_true rfl⟩ hF
      · skip
        refine jj_iconst (v := (1 : Int32)) (pc' := 78) dX1_takeCode_77 rfl rfl ?_
        refine jj_goto (tgt := 82) dX1_takeCode_78 rfl ?_
        refine jj_iconst (v := (2 : Int32)) (pc' := 83) dX1_takeCode_82 rfl rfl ?_
        refine jj_cI (N := M_X1_advance) (kc' := 0) (ks' := 0) (pc' := 86) (jg_V (N := M_X1_advance) (ci := 1) (rest := []) (as := [.int ((1 : Int32)), .int ((2 : Int32))]) cf_X1_25 dX1_takeCode_83 ⟨rfl, rfl⟩ rfl rfl ⟨Nat.le_of_ble_eq_true rfl, Nat.le_of_ble_eq_true rfl⟩ ⟨Nat.le_of_ble_eq_true rfl, Nat.le_of_ble_eq_true rfl⟩ (Nat.le_of_ble_eq_true rfl) (fun X' hX => KX1_advance hX)) rfl rfl rfl rfl ⟨Nat.le_of_ble_eq_true rfl, Nat.le_of_ble_eq_true rfl⟩ rfl hF (fun x110 h109 hF => ?_)
        exact jj_retZ rfl dX1_takeCode_86 ⟨Nat.le_of_ble_eq_true rfl, Nat.le_of_ble_eq_true rfl⟩ hF
    | 2, hb, ht =>
      cases hb; cases ht
      refine jj_aload_n (j := 1) (i := 0) (pc' := 88) dX1_takeCode_87 rfl rfl rfl ?_
      refine jj_iload_n (j := 0) (i := 2) (pc' := 89) dX1_takeCode_88 rfl rfl rfl ?_
      refine jj_p (C := RX1) (T := TX1) (N := 5) (ci := 1) (k := 1) (ty := tyX1) (pc' := 92) dX1_takeCode_89 rfl rfl inX1 tyX1_ok nmX1 (by decide) qw_59 rfl (fun _ => ⟨rfl, rfl⟩) hF (fun h111 hF => ?_)
      refine jj_aload_n (j := 1) (i := 0) (pc' := 93) dX1_takeCode_92 rfl rfl rfl ?_
      refine jj_iload_n (j := 0) (i := 2) (pc' := 94) dX1_takeCode_93 rfl rfl rfl ?_
      refine jj_iconst (v := (0 : Int32)) (pc' := 95) dX1_takeCode_94 rfl rfl ?_
      refine jj_iconst (v := (2 : Int32)) (pc' := 96) dX1_takeCode_95 rfl rfl ?_
      refine jj_nS (N := M_X3_isWithin) (as := [.int (x1 - ((48 : Int32))), .int ((0 : Int32)), .int ((2 : Int32))]) (rest := [.ref a0]) (kc' := 0) (ks' := 0) (pc' := 99) cf_X1_21 dX1_takeCode_96 rfl rfl ⟨Nat.le_of_ble_eq_true rfl, Nat.le_of_ble_eq_true rfl⟩ ⟨Nat.le_of_ble_eq_true rfl, Nat.le_of_ble_eq_true rfl⟩ (Nat.le_of_ble_eq_true rfl) (fun X' hX => KX3_isWithin hX) rfl rfl rfl rfl hF (fun x113 h112 hF => ?_)
      refine jj_iconst (v := (3 : Int32)) (pc' := 100) dX1_takeCode_99 rfl rfl ?_
      refine jj_cI (N := M_X1_advance) (kc' := 0) (ks' := 0) (pc' := 103) (jg_V (N := M_X1_advance) (ci := 1) (rest := []) (as := [.int x113, .int ((3 : Int32))]) cf_X1_25 dX1_takeCode_100 ⟨rfl, rfl⟩ rfl rfl ⟨Nat.le_of_ble_eq_true rfl, Nat.le_of_ble_eq_true rfl⟩ ⟨Nat.le_of_ble_eq_true rfl, Nat.le_of_ble_eq_true rfl⟩ (Nat.le_of_ble_eq_true rfl) (fun X' hX => KX1_advance hX)) rfl rfl rfl rfl ⟨Nat.le_of_ble_eq_true rfl, Nat.le_of_ble_eq_true rfl⟩ rfl hF (fun x115 h114 hF => ?_)
      exact jj_retZ rfl dX1_takeCode_103 ⟨Nat.le_of_ble_eq_true rfl, Nat.le_of_ble_eq_true rfl⟩ hF
    | 3, hb, ht =>
      cases hb; cases ht
      refine jj_aload_n (j := 1) (i := 0) (pc' := 105) dX1_takeCode_104 rfl rfl rfl ?_
      refine jj_iload_n (j := 2) (i := 1) (pc' := 106) dX1_takeCode_105 rfl rfl rfl ?_
      refine jj_bipush (v := (64 : Int32)) (pc' := 108) dX1_takeCode_106 rfl rfl ?_
      refine jj_icmp_ne (tgt := 115) (pc' := 111) dX1_takeCode_108 rfl rfl (fun hc hF => ?_) (fun hc hF => ?_) hF
      · skip
        refine jj_iconst (v := (0 : Int32)) (pc' := 116) dX1_takeCode_115 rfl rfl ?_
        refine jj_iconst (v := (4 : Int32)) (pc' := 117) dX1_takeCode_116 rfl rfl ?_
        refine jj_cI (N := M_X1_advance) (kc' := 0) (ks' := 0) (pc' := 120) (jg_V (N := M_X1_advance) (ci := 1) (rest := []) (as := [.int ((0 : Int32)), .int ((4 : Int32))]) cf_X1_25 dX1_takeCode_117 ⟨rfl, rfl⟩ rfl rfl ⟨Nat.le_of_ble_eq_true rfl, Nat.le_of_ble_eq_true rfl⟩ ⟨Nat.le_of_ble_eq_true rfl, Nat.le_of_ble_eq_true rfl⟩ (Nat.le_of_ble_eq_true rfl) (fun X' hX => KX1_advance hX)) rfl rfl rfl rfl ⟨Nat.le_of_ble_eq_true rfl, Nat.le_of_ble_eq_true rfl⟩ rfl hF (fun x117 h116 hF => ?_)
        exact jj_retZ rfl dX1_takeCode_120 ⟨Nat.le_of_ble_eq_true rfl, Nat.le_of_ble_eq_true rfl⟩ hF
      · skip
        refine jj_iconst (v := (1 : Int32)) (pc' := 112) dX1_takeCode_111 rfl rfl ?_
        refine jj_goto (tgt := 116) dX1_takeCode_112 rfl ?_
        refine jj_iconst (v := (4 : Int32)) (pc' := 117) dX1_takeCode_116 rfl rfl ?_
        refine jj_cI (N := M_X1_advance) (kc' := 0) (ks' := 0) (pc' := 120) (jg_V (N := M_X1_advance) (ci := 1) (rest := []) (as := [.int ((1 : Int32)), .int ((4 : Int32))]) cf_X1_25 dX1_takeCode_117 ⟨rfl, rfl⟩ rfl rfl ⟨Nat.le_of_ble_eq_true rfl, Nat.le_of_ble_eq_true rfl⟩ ⟨Nat.le_of_ble_eq_true rfl, Nat.le_of_ble_eq_true rfl⟩ (Nat.le_of_ble_eq_true rfl) (fun X' hX => KX1_advance hX)) rfl rfl rfl rfl ⟨Nat.le_of_ble_eq_true rfl, Nat.le_of_ble_eq_true rfl⟩ rfl hF (fun x119 h118 hF => ?_)
        exact jj_retZ rfl dX1_takeCode_120 ⟨Nat.le_of_ble_eq_true rfl, Nat.le_of_ble_eq_true rfl⟩ hF
    | 4, hb, ht =>
      cases hb; cases ht
      refine jj_aload_n (j := 1) (i := 0) (pc' := 122) dX1_takeCode_121 rfl rfl rfl ?_
      refine jj_iload_n (j := 0) (i := 2) (pc' := 123) dX1_takeCode_122 rfl rfl rfl ?_
      refine jj_p (C := RX1) (T := TX1) (N := 5) (ci := 1) (k := 2) (ty := tyX1) (pc' := 126) dX1_takeCode_123 rfl rfl inX1 tyX1_ok nmX1 (by decide) qw_57 rfl (fun _ => ⟨rfl, rfl⟩) hF (fun h120 hF => ?_)
      refine jj_aload_n (j := 1) (i := 0) (pc' := 127) dX1_takeCode_126 rfl rfl rfl ?_
      refine jj_iload_n (j := 0) (i := 2) (pc' := 128) dX1_takeCode_127 rfl rfl rfl ?_
      refine jj_iconst (v := (0 : Int32)) (pc' := 129) dX1_takeCode_128 rfl rfl ?_
      refine jj_bipush (v := (9 : Int32)) (pc' := 131) dX1_takeCode_129 rfl rfl ?_
      refine jj_nS (N := M_X3_isWithin) (as := [.int (x1 - ((48 : Int32))), .int ((0 : Int32)), .int ((9 : Int32))]) (rest := [.ref a0]) (kc' := 0) (ks' := 0) (pc' := 134) cf_X1_21 dX1_takeCode_131 rfl rfl ⟨Nat.le_of_ble_eq_true rfl, Nat.le_of_ble_eq_true rfl⟩ ⟨Nat.le_of_ble_eq_true rfl, Nat.le_of_ble_eq_true rfl⟩ (Nat.le_of_ble_eq_true rfl) (fun X' hX => KX3_isWithin hX) rfl rfl rfl rfl hF (fun x122 h121 hF => ?_)
      refine jj_iconst (v := (5 : Int32)) (pc' := 135) dX1_takeCode_134 rfl rfl ?_
      refine jj_cI (N := M_X1_advance) (kc' := 0) (ks' := 0) (pc' := 138) (jg_V (N := M_X1_advance) (ci := 1) (rest := []) (as := [.int x122, .int ((5 : Int32))]) cf_X1_25 dX1_takeCode_135 ⟨rfl, rfl⟩ rfl rfl ⟨Nat.le_of_ble_eq_true rfl, Nat.le_of_ble_eq_true rfl⟩ ⟨Nat.le_of_ble_eq_true rfl, Nat.le_of_ble_eq_true rfl⟩ (Nat.le_of_ble_eq_true rfl) (fun X' hX => KX1_advance hX)) rfl rfl rfl rfl ⟨Nat.le_of_ble_eq_true rfl, Nat.le_of_ble_eq_true rfl⟩ rfl hF (fun x124 h123 hF => ?_)
      exact jj_retZ rfl dX1_takeCode_138 ⟨Nat.le_of_ble_eq_true rfl, Nat.le_of_ble_eq_true rfl⟩ hF
    | 5, hb, ht =>
      cases hb; cases ht
      refine jj_aload_n (j := 1) (i := 0) (pc' := 140) dX1_takeCode_139 rfl rfl rfl ?_
      refine jj_iload_n (j := 2) (i := 1) (pc' := 141) dX1_takeCode_140 rfl rfl rfl ?_
      refine jj_iload_n (j := 0) (i := 2) (pc' := 142) dX1_takeCode_141 rfl rfl rfl ?_
      refine jj_cI (N := M_X1_takeBehindStart) (kc' := 0) (ks' := 0) (pc' := 145) (jg_V (N := M_X1_takeBehindStart) (ci := 1) (rest := []) (as := [.int x1, .int (x1 - ((48 : Int32)))]) cf_X1_35 dX1_takeCode_142 ⟨rfl, rfl⟩ rfl rfl ⟨Nat.le_of_ble_eq_true rfl, Nat.le_of_ble_eq_true rfl⟩ ⟨Nat.le_of_ble_eq_true rfl, Nat.le_of_ble_eq_true rfl⟩ (Nat.le_of_ble_eq_true rfl) (fun X' hX => KX1_takeBehindStart hX)) rfl rfl rfl rfl ⟨Nat.le_of_ble_eq_true rfl, Nat.le_of_ble_eq_true rfl⟩ rfl hF (fun x126 h125 hF => ?_)
      exact jj_retZ rfl dX1_takeCode_145 ⟨Nat.le_of_ble_eq_true rfl, Nat.le_of_ble_eq_true rfl⟩ hF
    | 6, hb, ht =>
      cases hb; cases ht
      refine jj_aload_n (j := 1) (i := 0) (pc' := 147) dX1_takeCode_146 rfl rfl rfl ?_
      refine jj_iload_n (j := 0) (i := 2) (pc' := 148) dX1_takeCode_147 rfl rfl rfl ?_
      refine jj_p (C := RX1) (T := TX1) (N := 5) (ci := 1) (k := 3) (ty := tyX1) (pc' := 151) dX1_takeCode_148 rfl rfl inX1 tyX1_ok nmX1 (by decide) qw_55 rfl (fun _ => ⟨rfl, rfl⟩) hF (fun h127 hF => ?_)
      refine jj_aload_n (j := 1) (i := 0) (pc' := 152) dX1_takeCode_151 rfl rfl rfl ?_
      refine jj_iload_n (j := 0) (i := 2) (pc' := 153) dX1_takeCode_152 rfl rfl rfl ?_
      refine jj_iconst (v := (0 : Int32)) (pc' := 154) dX1_takeCode_153 rfl rfl ?_
      refine jj_bipush (v := (9 : Int32)) (pc' := 156) dX1_takeCode_154 rfl rfl ?_
      refine jj_nS (N := M_X3_isWithin) (as := [.int (x1 - ((48 : Int32))), .int ((0 : Int32)), .int ((9 : Int32))]) (rest := [.ref a0]) (kc' := 0) (ks' := 0) (pc' := 159) cf_X1_21 dX1_takeCode_156 rfl rfl ⟨Nat.le_of_ble_eq_true rfl, Nat.le_of_ble_eq_true rfl⟩ ⟨Nat.le_of_ble_eq_true rfl, Nat.le_of_ble_eq_true rfl⟩ (Nat.le_of_ble_eq_true rfl) (fun X' hX => KX3_isWithin hX) rfl rfl rfl rfl hF (fun x129 h128 hF => ?_)
      refine jj_bipush (v := (7 : Int32)) (pc' := 161) dX1_takeCode_159 rfl rfl ?_
      refine jj_cI (N := M_X1_advance) (kc' := 0) (ks' := 0) (pc' := 164) (jg_V (N := M_X1_advance) (ci := 1) (rest := []) (as := [.int x129, .int ((7 : Int32))]) cf_X1_25 dX1_takeCode_161 ⟨rfl, rfl⟩ rfl rfl ⟨Nat.le_of_ble_eq_true rfl, Nat.le_of_ble_eq_true rfl⟩ ⟨Nat.le_of_ble_eq_true rfl, Nat.le_of_ble_eq_true rfl⟩ (Nat.le_of_ble_eq_true rfl) (fun X' hX => KX1_advance hX)) rfl rfl rfl rfl ⟨Nat.le_of_ble_eq_true rfl, Nat.le_of_ble_eq_true rfl⟩ rfl hF (fun x131 h130 hF => ?_)
      exact jj_retZ rfl dX1_takeCode_164 ⟨Nat.le_of_ble_eq_true rfl, Nat.le_of_ble_eq_true rfl⟩ hF
    | i + 7, hb, ht => exact nomatch (show (none : Option (Option jm_X)) = some b from hb)
  · skip
    refine jj_aload_n (j := 1) (i := 0) (pc' := 166) dX1_takeCode_165 rfl rfl rfl ?_
    refine jj_iload_n (j := 2) (i := 1) (pc' := 167) dX1_takeCode_166 rfl rfl rfl ?_
    refine jj_iload_n (j := 0) (i := 2) (pc' := 168) dX1_takeCode_167 rfl rfl rfl ?_
    refine jj_cI (N := M_X1_takeBehindPause) (kc' := 0) (ks' := 0) (pc' := 171) (jg_V (N := M_X1_takeBehindPause) (ci := 1) (rest := []) (as := [.int x1, .int (x1 - ((48 : Int32)))]) cf_X1_39 dX1_takeCode_168 ⟨rfl, rfl⟩ rfl rfl ⟨Nat.le_of_ble_eq_true rfl, Nat.le_of_ble_eq_true rfl⟩ ⟨Nat.le_of_ble_eq_true rfl, Nat.le_of_ble_eq_true rfl⟩ (Nat.le_of_ble_eq_true rfl) (fun X' hX => KX1_takeBehindPause hX)) rfl rfl rfl rfl ⟨Nat.le_of_ble_eq_true rfl, Nat.le_of_ble_eq_true rfl⟩ rfl hF (fun x133 h132 hF => ?_)
    exact jj_retZ rfl dX1_takeCode_171 ⟨Nat.le_of_ble_eq_true rfl, Nat.le_of_ble_eq_true rfl⟩ hF
theorem KX1_takeCode {a0 : Nat} {x1 : Int32} {h : jm_H} {X : jm_X} (hF : FX1_takeCode a0 x1 h = some X) : jm_K M_X1_takeCode [.ref a0, .int x1] h X := jk_of rfl (by decide +kernel) rfl rfl (Nat.le_of_ble_eq_true rfl) (JX1_takeCode hF)
set_option maxRecDepth 100000 in
set_option maxHeartbeats 4000000 in
theorem BX3_readBuffer_9 (N : Nat) : ∀ (n : Nat) (a0 : Nat) (x1 : Int32) (h : jm_H) (X : jm_X), FX3_readBuffer_9 N n a0 x1 h = some X → jm_J M_X3_readBuffer 9 [(0, .ref a0), (1, .int x1)] [] h 0 0 X := by
  intro n
  induction n with
  | zero =>
    intro a0 x1 h X hF
    exact nomatch (show (none : Option jm_X) = some X from hF)
  | succ n ih =>
    intro a0 x1 h X hF
    rw [FX3_readBuffer_9] at hF
    refine jj_iload_n (j := 1) (i := 1) (pc' := 10) dX3_readBuffer_9 rfl rfl rfl ?_
    refine jj_aload_n (j := 0) (i := 0) (pc' := 11) dX3_readBuffer_10 rfl rfl rfl ?_
    refine jj_gI (C := RX3) (T := TX3) (N := 8) (ci := 3) (k := 7) (pc' := 14) dX3_readBuffer_11 rfl rfl inX3 (by decide) qw_54 hF (fun x101 hF => ?_)
    refine jj_icmp_ge (tgt := 50) (pc' := 17) dX3_readBuffer_14 rfl rfl (fun hc hF => ?_) (fun hc hF => ?_) hF
    · skip
      refine jj_aload_n (j := 0) (i := 0) (pc' := 51) dX3_readBuffer_50 rfl rfl rfl ?_
      refine jj_gI (C := RX3) (T := TX3) (N := 8) (ci := 3) (k := 7) (pc' := 54) dX3_readBuffer_51 rfl rfl inX3 (by decide) qw_54 hF (fun x102 hF => ?_)
      exact jj_retI (ty := .int) rfl rfl dX3_readBuffer_54 ⟨Nat.le_of_ble_eq_true rfl, Nat.le_of_ble_eq_true rfl⟩ hF
    · skip
      refine jj_iload_n (j := 1) (i := 1) (pc' := 18) dX3_readBuffer_17 rfl rfl rfl ?_
      refine jj_aload_n (j := 0) (i := 0) (pc' := 19) dX3_readBuffer_18 rfl rfl rfl ?_
      refine jj_gR (C := RX3) (T := TX3) (N := 8) (ci := 3) (k := 4) (pc' := 22) dX3_readBuffer_19 rfl rfl inX3 (by decide) qw_36 hF (fun r103 hF => ?_)
      refine jj_len (pc' := 23) dX3_readBuffer_22 rfl hF (fun x104 hF => ?_)
      refine jj_icmp_ge (tgt := 50) (pc' := 26) dX3_readBuffer_23 rfl rfl (fun hc hF => ?_) (fun hc hF => ?_) hF
      · skip
        refine jj_aload_n (j := 0) (i := 0) (pc' := 51) dX3_readBuffer_50 rfl rfl rfl ?_
        refine jj_gI (C := RX3) (T := TX3) (N := 8) (ci := 3) (k := 7) (pc' := 54) dX3_readBuffer_51 rfl rfl inX3 (by decide) qw_54 hF (fun x105 hF => ?_)
        exact jj_retI (ty := .int) rfl rfl dX3_readBuffer_54 ⟨Nat.le_of_ble_eq_true rfl, Nat.le_of_ble_eq_true rfl⟩ hF
      · skip
        refine jj_aload_n (j := 0) (i := 0) (pc' := 27) dX3_readBuffer_26 rfl rfl rfl ?_
        refine jj_gR (C := RX3) (T := TX3) (N := 8) (ci := 3) (k := 3) (pc' := 30) dX3_readBuffer_27 rfl rfl inX3 (by decide) qw_35 hF (fun r106 hF => ?_)
        refine jj_aload_n (j := 0) (i := 0) (pc' := 31) dX3_readBuffer_30 rfl rfl rfl ?_
        refine jj_gR (C := RX3) (T := TX3) (N := 8) (ci := 3) (k := 4) (pc' := 34) dX3_readBuffer_31 rfl rfl inX3 (by decide) qw_36 hF (fun r107 hF => ?_)
        refine jj_iload_n (j := 1) (i := 1) (pc' := 35) dX3_readBuffer_34 rfl rfl rfl ?_
        refine jj_ldI (pc' := 36) dX3_readBuffer_35 rfl hF (fun x108 hF => ?_)
        refine jj_cI (N := M_X1_takeCode) (kc' := 0) (ks' := 0) (pc' := 39) (jg_V (N := M_X1_takeCode) (ci := 1) (rest := []) (as := [.int x108]) cf_X3_305 dX3_readBuffer_36 ⟨rfl, rfl⟩ rfl rfl ⟨Nat.le_of_ble_eq_true rfl, Nat.le_of_ble_eq_true rfl⟩ ⟨Nat.le_of_ble_eq_true rfl, Nat.le_of_ble_eq_true rfl⟩ (Nat.le_of_ble_eq_true rfl) (fun X' hX => KX1_takeCode hX)) rfl rfl rfl rfl ⟨Nat.le_of_ble_eq_true rfl, Nat.le_of_ble_eq_true rfl⟩ rfl hF (fun x110 h109 hF => ?_)
        refine jj_if_ne (tgt := 44) (pc' := 42) dX3_readBuffer_39 rfl rfl (fun hc hF => ?_) (fun hc hF => ?_) hF
        · skip
          refine jj_iinc (i := 1) (j := 1) (v := x1 + (1 : Int32)) (ls' := [(1, .int (x1 + (1 : Int32))), (0, .ref a0)]) (pc' := 47) dX3_readBuffer_44 rfl rfl (Nat.le_of_ble_eq_true rfl) rfl rfl ?_
          refine jj_goto (tgt := 9) dX3_readBuffer_47 rfl ?_
          exact jj_pick [1, 0] rfl (ih a0 (x1 + (1 : Int32)) h109 _ hF)
        · skip
          refine jj_iload_n (j := 1) (i := 1) (pc' := 43) dX3_readBuffer_42 rfl rfl rfl ?_
          exact jj_retI (ty := .int) rfl rfl dX3_readBuffer_43 ⟨Nat.le_of_ble_eq_true rfl, Nat.le_of_ble_eq_true rfl⟩ hF
set_option maxRecDepth 100000 in
set_option maxHeartbeats 4000000 in
theorem JX3_readBuffer {N : Nat} {a0 : Nat} {h : jm_H} {X : jm_X} (hF : FX3_readBuffer N a0 h = some X) : jm_J M_X3_readBuffer 0 [(0, .ref a0)] [] h 0 0 X := by
  unfold FX3_readBuffer at hF
  refine jj_aload_n (j := 0) (i := 0) (pc' := 1) dX3_readBuffer_0 rfl rfl rfl ?_
  refine jj_gR (C := RX3) (T := TX3) (N := 8) (ci := 3) (k := 3) (pc' := 4) dX3_readBuffer_1 rfl rfl inX3 (by decide) qw_35 hF (fun r101 hF => ?_)
  refine jj_cV (N := M_X1_startPart) (kc' := 0) (ks' := 0) (pc' := 7) (jg_V (N := M_X1_startPart) (ci := 1) (rest := []) (as := []) cf_X3_302 dX3_readBuffer_4 ⟨rfl, rfl⟩ rfl rfl ⟨Nat.le_of_ble_eq_true rfl, Nat.le_of_ble_eq_true rfl⟩ ⟨Nat.le_of_ble_eq_true rfl, Nat.le_of_ble_eq_true rfl⟩ (Nat.le_of_ble_eq_true rfl) (fun X' hX => KX1_startPart hX)) rfl rfl rfl rfl ⟨Nat.le_of_ble_eq_true rfl, Nat.le_of_ble_eq_true rfl⟩ rfl hF (fun h102 hF => ?_)
  refine jj_iconst (v := (0 : Int32)) (pc' := 8) dX3_readBuffer_7 rfl rfl ?_
  refine jj_istore_n (i := 1) (ls' := [(1, .int ((0 : Int32))), (0, .ref a0)]) (pc' := 9) dX3_readBuffer_8 rfl (Nat.le_of_ble_eq_true rfl) rfl rfl ?_
  exact jj_pick [1, 0] rfl (BX3_readBuffer_9 N N a0 ((0 : Int32)) h102 _ hF)
theorem KX3_readBuffer {N : Nat} {a0 : Nat} {h : jm_H} {X : jm_X} (hF : FX3_readBuffer N a0 h = some X) : jm_K M_X3_readBuffer [.ref a0] h X := jk_of rfl (by decide +kernel) rfl rfl (Nat.le_of_ble_eq_true rfl) (JX3_readBuffer hF)
set_option maxRecDepth 100000 in
set_option maxHeartbeats 4000000 in
theorem JX3_firstError {N : Nat} {a0 : Nat} {h : jm_H} {X : jm_X} (hF : FX3_firstError N a0 h = some X) : jm_J M_X3_firstError 0 [(0, .ref a0)] [] h 0 0 X := by
  unfold FX3_firstError at hF
  refine jj_aload_n (j := 0) (i := 0) (pc' := 1) dX3_firstError_0 rfl rfl rfl ?_
  refine jj_cI (N := M_X3_readBuffer) (kc' := 0) (ks' := 0) (pc' := 4) (jg_V (N := M_X3_readBuffer) (ci := 3) (rest := []) (as := []) cf_X3_160 dX3_firstError_1 ⟨rfl, rfl⟩ rfl rfl ⟨Nat.le_of_ble_eq_true rfl, Nat.le_of_ble_eq_true rfl⟩ ⟨Nat.le_of_ble_eq_true rfl, Nat.le_of_ble_eq_true rfl⟩ (Nat.le_of_ble_eq_true rfl) (fun X' hX => KX3_readBuffer hX)) rfl rfl rfl rfl ⟨Nat.le_of_ble_eq_true rfl, Nat.le_of_ble_eq_true rfl⟩ rfl hF (fun x102 h101 hF => ?_)
  exact jj_retI (ty := .int) rfl rfl dX3_firstError_4 ⟨Nat.le_of_ble_eq_true rfl, Nat.le_of_ble_eq_true rfl⟩ hF
theorem KX3_firstError {N : Nat} {a0 : Nat} {h : jm_H} {X : jm_X} (hF : FX3_firstError N a0 h = some X) : jm_K M_X3_firstError [.ref a0] h X := jk_of rfl (by decide +kernel) rfl rfl (Nat.le_of_ble_eq_true rfl) (JX3_firstError hF)
set_option maxRecDepth 100000 in
set_option maxHeartbeats 4000000 in
theorem JX1_isBehindPart {a0 : Nat} {h : jm_H} {X : jm_X} (hF : FX1_isBehindPart a0 h = some X) : jm_J M_X1_isBehindPart 0 [(0, .ref a0)] [] h 0 0 X := by
  unfold FX1_isBehindPart at hF
  refine jj_aload_n (j := 0) (i := 0) (pc' := 1) dX1_isBehindPart_0 rfl rfl rfl ?_
  refine jj_gI (C := RX1) (T := TX1) (N := 5) (ci := 1) (k := 4) (pc' := 4) dX1_isBehindPart_1 rfl rfl inX1 (by decide) qw_56 hF (fun x101 hF => ?_)
  refine jj_iconst (v := (5 : Int32)) (pc' := 5) dX1_isBehindPart_4 rfl rfl ?_
  refine jj_icmp_eq (tgt := 17) (pc' := 8) dX1_isBehindPart_5 rfl rfl (fun hc hF => ?_) (fun hc hF => ?_) hF
  · skip
    refine jj_iconst (v := (1 : Int32)) (pc' := 18) dX1_isBehindPart_17 rfl rfl ?_
    refine jj_goto (tgt := 22) dX1_isBehindPart_18 rfl ?_
    exact jj_retI (ty := .boolean) rfl rfl dX1_isBehindPart_22 ⟨Nat.le_of_ble_eq_true rfl, Nat.le_of_ble_eq_true rfl⟩ hF
  · skip
    refine jj_aload_n (j := 0) (i := 0) (pc' := 9) dX1_isBehindPart_8 rfl rfl rfl ?_
    refine jj_gI (C := RX1) (T := TX1) (N := 5) (ci := 1) (k := 4) (pc' := 12) dX1_isBehindPart_9 rfl rfl inX1 (by decide) qw_56 hF (fun x102 hF => ?_)
    refine jj_bipush (v := (7 : Int32)) (pc' := 14) dX1_isBehindPart_12 rfl rfl ?_
    refine jj_icmp_ne (tgt := 21) (pc' := 17) dX1_isBehindPart_14 rfl rfl (fun hc hF => ?_) (fun hc hF => ?_) hF
    · skip
      refine jj_iconst (v := (0 : Int32)) (pc' := 22) dX1_isBehindPart_21 rfl rfl ?_
      exact jj_retI (ty := .boolean) rfl rfl dX1_isBehindPart_22 ⟨Nat.le_of_ble_eq_true rfl, Nat.le_of_ble_eq_true rfl⟩ hF
    · skip
      refine jj_iconst (v := (1 : Int32)) (pc' := 18) dX1_isBehindPart_17 rfl rfl ?_
      refine jj_goto (tgt := 22) dX1_isBehindPart_18 rfl ?_
      exact jj_retI (ty := .boolean) rfl rfl dX1_isBehindPart_22 ⟨Nat.le_of_ble_eq_true rfl, Nat.le_of_ble_eq_true rfl⟩ hF
theorem KX1_isBehindPart {a0 : Nat} {h : jm_H} {X : jm_X} (hF : FX1_isBehindPart a0 h = some X) : jm_K M_X1_isBehindPart [.ref a0] h X := jk_of rfl (by decide +kernel) rfl rfl (Nat.le_of_ble_eq_true rfl) (JX1_isBehindPart hF)
set_option maxRecDepth 100000 in
set_option maxHeartbeats 4000000 in
theorem JX0_setStop {a0 : Nat} {x1 : Int32} {x2 : Int32} {x3 : Int32} {h : jm_H} {X : jm_X} (hF : FX0_setStop a0 x1 x2 x3 h = some X) : jm_J M_X0_setStop 0 [(0, .ref a0), (1, .int x1), (2, .int x2), (3, .int x3)] [] h 0 0 X := by
  unfold FX0_setStop at hF
  refine jj_aload_n (j := 0) (i := 0) (pc' := 1) dX0_setStop_0 rfl rfl rfl ?_
  refine jj_iload_n (j := 1) (i := 1) (pc' := 2) dX0_setStop_1 rfl rfl rfl ?_
  refine jj_p (C := RX0) (T := TX0) (N := 10) (ci := 0) (k := 7) (ty := tyX0) (pc' := 5) dX0_setStop_2 rfl rfl inX0 tyX0_ok nmX0 (by decide) qw_21 rfl (fun _ => ⟨rfl, rfl⟩) hF (fun h101 hF => ?_)
  refine jj_aload_n (j := 0) (i := 0) (pc' := 6) dX0_setStop_5 rfl rfl rfl ?_
  refine jj_iload_n (j := 2) (i := 2) (pc' := 7) dX0_setStop_6 rfl rfl rfl ?_
  refine jj_p (C := RX0) (T := TX0) (N := 10) (ci := 0) (k := 8) (ty := tyX0) (pc' := 10) dX0_setStop_7 rfl rfl inX0 tyX0_ok nmX0 (by decide) qw_22 rfl (fun _ => ⟨rfl, rfl⟩) hF (fun h102 hF => ?_)
  refine jj_aload_n (j := 0) (i := 0) (pc' := 11) dX0_setStop_10 rfl rfl rfl ?_
  refine jj_iload_n (j := 3) (i := 3) (pc' := 12) dX0_setStop_11 rfl rfl rfl ?_
  refine jj_p (C := RX0) (T := TX0) (N := 10) (ci := 0) (k := 9) (ty := tyX0) (pc' := 15) dX0_setStop_12 rfl rfl inX0 tyX0_ok nmX0 (by decide) qw_23 rfl (fun _ => ⟨rfl, rfl⟩) hF (fun h103 hF => ?_)
  exact jj_retV rfl dX0_setStop_15 ⟨Nat.le_of_ble_eq_true rfl, Nat.le_of_ble_eq_true rfl⟩ hF
theorem KX0_setStop {a0 : Nat} {x1 : Int32} {x2 : Int32} {x3 : Int32} {h : jm_H} {X : jm_X} (hF : FX0_setStop a0 x1 x2 x3 h = some X) : jm_K M_X0_setStop [.ref a0, .int x1, .int x2, .int x3] h X := jk_of rfl (by decide +kernel) rfl rfl (Nat.le_of_ble_eq_true rfl) (JX0_setStop hF)
set_option maxRecDepth 100000 in
set_option maxHeartbeats 4000000 in
theorem JX0_inWay {N : Nat} {a0 : Nat} {x1 : Int32} {x2 : Int32} {x3 : Int32} {x4 : Int32} {x5 : Int32} {h : jm_H} {X : jm_X} (hF : FX0_inWay N a0 x1 x2 x3 x4 x5 h = some X) : jm_J M_X0_inWay 0 [(0, .ref a0), (1, .int x1), (2, .int x2), (3, .int x3), (4, .int x4), (5, .int x5)] [] h 0 0 X := by
  unfold FX0_inWay at hF
  refine jj_iload (j := 5) (i := 5) (pc' := 2) dX0_inWay_0 rfl rfl ?_
  refine jj_iconst (v := (3 : Int32)) (pc' := 3) dX0_inWay_2 rfl rfl ?_
  refine jj_icmp_ne (tgt := 24) (pc' := 6) dX0_inWay_3 rfl rfl (fun hc hF => ?_) (fun hc hF => ?_) hF
  · skip
    refine jj_iload (j := 5) (i := 5) (pc' := 26) dX0_inWay_24 rfl rfl ?_
    refine jj_iconst (v := (4 : Int32)) (pc' := 27) dX0_inWay_26 rfl rfl ?_
    refine jj_icmp_ne (tgt := 41) (pc' := 30) dX0_inWay_27 rfl rfl (fun hc hF => ?_) (fun hc hF => ?_) hF
    · skip
      refine jj_iconst (v := (-1 : Int32)) (pc' := 42) dX0_inWay_41 rfl rfl ?_
      exact jj_retI (ty := .int) rfl rfl dX0_inWay_42 ⟨Nat.le_of_ble_eq_true rfl, Nat.le_of_ble_eq_true rfl⟩ hF
    · skip
      refine jj_aload_n (j := 0) (i := 0) (pc' := 31) dX0_inWay_30 rfl rfl rfl ?_
      refine jj_iload_n (j := 1) (i := 1) (pc' := 32) dX0_inWay_31 rfl rfl rfl ?_
      refine jj_iload_n (j := 2) (i := 2) (pc' := 33) dX0_inWay_32 rfl rfl rfl ?_
      refine jj_iload_n (j := 3) (i := 3) (pc' := 34) dX0_inWay_33 rfl rfl rfl ?_
      refine jj_iload (j := 4) (i := 4) (pc' := 36) dX0_inWay_34 rfl rfl ?_
      refine jj_iconst (v := (-1 : Int32)) (pc' := 37) dX0_inWay_36 rfl rfl ?_
      refine jj_cI (N := M_X0_takingReel) (kc' := 0) (ks' := 0) (pc' := 40) (jg_V (N := M_X0_takingReel) (ci := 0) (rest := []) (as := [.int x1, .int x2, .int x3, .int x4, .int ((-1 : Int32))]) cf_X0_111 dX0_inWay_37 ⟨rfl, rfl⟩ rfl rfl ⟨Nat.le_of_ble_eq_true rfl, Nat.le_of_ble_eq_true rfl⟩ ⟨Nat.le_of_ble_eq_true rfl, Nat.le_of_ble_eq_true rfl⟩ (Nat.le_of_ble_eq_true rfl) (fun X' hX => KX0_takingReel hX)) rfl rfl rfl rfl ⟨Nat.le_of_ble_eq_true rfl, Nat.le_of_ble_eq_true rfl⟩ rfl hF (fun x102 h101 hF => ?_)
      exact jj_retI (ty := .int) rfl rfl dX0_inWay_40 ⟨Nat.le_of_ble_eq_true rfl, Nat.le_of_ble_eq_true rfl⟩ hF
  · skip
    refine jj_aload_n (j := 0) (i := 0) (pc' := 7) dX0_inWay_6 rfl rfl rfl ?_
    refine jj_iload_n (j := 2) (i := 2) (pc' := 8) dX0_inWay_7 rfl rfl rfl ?_
    refine jj_iload_n (j := 3) (i := 3) (pc' := 9) dX0_inWay_8 rfl rfl rfl ?_
    refine jj_iload_n (j := 3) (i := 3) (pc' := 10) dX0_inWay_9 rfl rfl rfl ?_
    refine jj_aload_n (j := 0) (i := 0) (pc' := 11) dX0_inWay_10 rfl rfl rfl ?_
    refine jj_iload_n (j := 1) (i := 1) (pc' := 12) dX0_inWay_11 rfl rfl rfl ?_
    refine jj_cI (N := M_X0_lengthOf) (kc' := 0) (ks' := 0) (pc' := 15) (jg_V (N := M_X0_lengthOf) (ci := 0) (rest := [.int x3, .int x3, .int x2, .ref a0]) (as := [.int x1]) cf_X0_104 dX0_inWay_12 ⟨rfl, rfl⟩ rfl rfl ⟨Nat.le_of_ble_eq_true rfl, Nat.le_of_ble_eq_true rfl⟩ ⟨Nat.le_of_ble_eq_true rfl, Nat.le_of_ble_eq_true rfl⟩ (Nat.le_of_ble_eq_true rfl) (fun X' hX => KX0_lengthOf hX)) rfl rfl rfl rfl ⟨Nat.le_of_ble_eq_true rfl, Nat.le_of_ble_eq_true rfl⟩ rfl hF (fun x104 h103 hF => ?_)
    refine jj_iadd (pc' := 16) dX0_inWay_15 rfl ?_
    refine jj_iload (j := 4) (i := 4) (pc' := 18) dX0_inWay_16 rfl rfl ?_
    refine jj_iadd (pc' := 19) dX0_inWay_18 rfl ?_
    refine jj_iconst (v := (-1 : Int32)) (pc' := 20) dX0_inWay_19 rfl rfl ?_
    refine jj_cI (N := M_X0_takingScreen) (kc' := 0) (ks' := 0) (pc' := 23) (jg_V (N := M_X0_takingScreen) (ci := 0) (rest := []) (as := [.int x2, .int x3, .int ((x3 + x104) + x4), .int ((-1 : Int32))]) cf_X0_107 dX0_inWay_20 ⟨rfl, rfl⟩ rfl rfl ⟨Nat.le_of_ble_eq_true rfl, Nat.le_of_ble_eq_true rfl⟩ ⟨Nat.le_of_ble_eq_true rfl, Nat.le_of_ble_eq_true rfl⟩ (Nat.le_of_ble_eq_true rfl) (fun X' hX => KX0_takingScreen hX)) rfl rfl rfl rfl ⟨Nat.le_of_ble_eq_true rfl, Nat.le_of_ble_eq_true rfl⟩ rfl hF (fun x106 h105 hF => ?_)
    exact jj_retI (ty := .int) rfl rfl dX0_inWay_23 ⟨Nat.le_of_ble_eq_true rfl, Nat.le_of_ble_eq_true rfl⟩ hF
theorem KX0_inWay {N : Nat} {a0 : Nat} {x1 : Int32} {x2 : Int32} {x3 : Int32} {x4 : Int32} {x5 : Int32} {h : jm_H} {X : jm_X} (hF : FX0_inWay N a0 x1 x2 x3 x4 x5 h = some X) : jm_K M_X0_inWay [.ref a0, .int x1, .int x2, .int x3, .int x4, .int x5] h X := jk_of rfl (by decide +kernel) rfl rfl (Nat.le_of_ble_eq_true rfl) (JX0_inWay hF)
set_option maxRecDepth 100000 in
set_option maxHeartbeats 4000000 in
theorem JX3_makePart {N : Nat} {a0 : Nat} {x1 : Int32} {h : jm_H} {X : jm_X} (hF : FX3_makePart N a0 x1 h = some X) : jm_J M_X3_makePart 0 [(0, .ref a0), (1, .int x1)] [] h 0 0 X := by
  unfold FX3_makePart at hF
  refine jj_aload_n (j := 0) (i := 0) (pc' := 1) dX3_makePart_0 rfl rfl rfl ?_
  refine jj_gR (C := RX3) (T := TX3) (N := 8) (ci := 3) (k := 3) (pc' := 4) dX3_makePart_1 rfl rfl inX3 (by decide) qw_35 hF (fun r101 hF => ?_)
  refine jj_gI (C := RX1) (T := TX1) (N := 5) (ci := 1) (k := 0) (pc' := 7) dX3_makePart_4 rfl rfl inX1 (by decide) qw_60 hF (fun x102 hF => ?_)
  refine jj_aload_n (j := 0) (i := 0) (pc' := 8) dX3_makePart_7 rfl rfl rfl ?_
  refine jj_gR (C := RX3) (T := TX3) (N := 8) (ci := 3) (k := 0) (pc' := 11) dX3_makePart_8 rfl rfl inX3 (by decide) qw_29 hF (fun r103 hF => ?_)
  refine jj_gR (C := RX0) (T := TX0) (N := 10) (ci := 0) (k := 0) (pc' := 14) dX3_makePart_11 rfl rfl inX0 (by decide) qw_43 hF (fun r104 hF => ?_)
  refine jj_gI (C := RX2) (T := TX2) (N := 3) (ci := 2) (k := 2) (pc' := 17) dX3_makePart_14 rfl rfl inX2 (by decide) qw_44 hF (fun x105 hF => ?_)
  refine jj_icmp_lt (tgt := 32) (pc' := 20) dX3_makePart_17 rfl rfl (fun hc hF => ?_) (fun hc hF => ?_) hF
  · skip
    refine jj_aload_n (j := 0) (i := 0) (pc' := 33) dX3_makePart_32 rfl rfl rfl ?_
    refine jj_gR (C := RX3) (T := TX3) (N := 8) (ci := 3) (k := 0) (pc' := 36) dX3_makePart_33 rfl rfl inX3 (by decide) qw_29 hF (fun r106 hF => ?_)
    refine jj_aload_n (j := 0) (i := 0) (pc' := 37) dX3_makePart_36 rfl rfl rfl ?_
    refine jj_gR (C := RX3) (T := TX3) (N := 8) (ci := 3) (k := 3) (pc' := 40) dX3_makePart_37 rfl rfl inX3 (by decide) qw_35 hF (fun r107 hF => ?_)
    refine jj_gI (C := RX1) (T := TX1) (N := 5) (ci := 1) (k := 0) (pc' := 43) dX3_makePart_40 rfl rfl inX1 (by decide) qw_60 hF (fun x108 hF => ?_)
    refine jj_aload_n (j := 0) (i := 0) (pc' := 44) dX3_makePart_43 rfl rfl rfl ?_
    refine jj_gR (C := RX3) (T := TX3) (N := 8) (ci := 3) (k := 3) (pc' := 47) dX3_makePart_44 rfl rfl inX3 (by decide) qw_35 hF (fun r109 hF => ?_)
    refine jj_gI (C := RX1) (T := TX1) (N := 5) (ci := 1) (k := 1) (pc' := 50) dX3_makePart_47 rfl rfl inX1 (by decide) qw_61 hF (fun x110 hF => ?_)
    refine jj_aload_n (j := 0) (i := 0) (pc' := 51) dX3_makePart_50 rfl rfl rfl ?_
    refine jj_gR (C := RX3) (T := TX3) (N := 8) (ci := 3) (k := 3) (pc' := 54) dX3_makePart_51 rfl rfl inX3 (by decide) qw_35 hF (fun r111 hF => ?_)
    refine jj_gI (C := RX1) (T := TX1) (N := 5) (ci := 1) (k := 2) (pc' := 57) dX3_makePart_54 rfl rfl inX1 (by decide) qw_62 hF (fun x112 hF => ?_)
    refine jj_aload_n (j := 0) (i := 0) (pc' := 58) dX3_makePart_57 rfl rfl rfl ?_
    refine jj_gR (C := RX3) (T := TX3) (N := 8) (ci := 3) (k := 3) (pc' := 61) dX3_makePart_58 rfl rfl inX3 (by decide) qw_35 hF (fun r113 hF => ?_)
    refine jj_gI (C := RX1) (T := TX1) (N := 5) (ci := 1) (k := 3) (pc' := 64) dX3_makePart_61 rfl rfl inX1 (by decide) qw_63 hF (fun x114 hF => ?_)
    refine jj_cI (N := M_X0_refusal) (kc' := 0) (ks' := 0) (pc' := 67) (jg_V (N := M_X0_refusal) (ci := 0) (rest := []) (as := [.int x108, .int x110, .int x112, .int x114]) cf_X3_91 dX3_makePart_64 ⟨rfl, rfl⟩ rfl rfl ⟨Nat.le_of_ble_eq_true rfl, Nat.le_of_ble_eq_true rfl⟩ ⟨Nat.le_of_ble_eq_true rfl, Nat.le_of_ble_eq_true rfl⟩ (Nat.le_of_ble_eq_true rfl) (fun X' hX => KX0_refusal hX)) rfl rfl rfl rfl ⟨Nat.le_of_ble_eq_true rfl, Nat.le_of_ble_eq_true rfl⟩ rfl hF (fun x116 h115 hF => ?_)
    refine jj_istore_n (i := 2) (ls' := [(2, .int x116), (0, .ref a0), (1, .int x1)]) (pc' := 68) dX3_makePart_67 rfl (Nat.le_of_ble_eq_true rfl) rfl rfl ?_
    refine jj_iload_n (j := 0) (i := 2) (pc' := 69) dX3_makePart_68 rfl rfl rfl ?_
    refine jj_if_eq (tgt := 119) (pc' := 72) dX3_makePart_69 rfl rfl (fun hc hF => ?_) (fun hc hF => ?_) hF
    · skip
      refine jj_aload_n (j := 1) (i := 0) (pc' := 120) dX3_makePart_119 rfl rfl rfl ?_
      refine jj_gR (C := RX3) (T := TX3) (N := 8) (ci := 3) (k := 0) (pc' := 123) dX3_makePart_120 rfl rfl inX3 (by decide) qw_29 hF (fun r117 hF => ?_)
      refine jj_aload_n (j := 1) (i := 0) (pc' := 124) dX3_makePart_123 rfl rfl rfl ?_
      refine jj_gR (C := RX3) (T := TX3) (N := 8) (ci := 3) (k := 3) (pc' := 127) dX3_makePart_124 rfl rfl inX3 (by decide) qw_35 hF (fun r118 hF => ?_)
      refine jj_gI (C := RX1) (T := TX1) (N := 5) (ci := 1) (k := 0) (pc' := 130) dX3_makePart_127 rfl rfl inX1 (by decide) qw_60 hF (fun x119 hF => ?_)
      refine jj_aload_n (j := 1) (i := 0) (pc' := 131) dX3_makePart_130 rfl rfl rfl ?_
      refine jj_gR (C := RX3) (T := TX3) (N := 8) (ci := 3) (k := 3) (pc' := 134) dX3_makePart_131 rfl rfl inX3 (by decide) qw_35 hF (fun r120 hF => ?_)
      refine jj_gI (C := RX1) (T := TX1) (N := 5) (ci := 1) (k := 1) (pc' := 137) dX3_makePart_134 rfl rfl inX1 (by decide) qw_61 hF (fun x121 hF => ?_)
      refine jj_aload_n (j := 1) (i := 0) (pc' := 138) dX3_makePart_137 rfl rfl rfl ?_
      refine jj_gR (C := RX3) (T := TX3) (N := 8) (ci := 3) (k := 3) (pc' := 141) dX3_makePart_138 rfl rfl inX3 (by decide) qw_35 hF (fun r122 hF => ?_)
      refine jj_gI (C := RX1) (T := TX1) (N := 5) (ci := 1) (k := 2) (pc' := 144) dX3_makePart_141 rfl rfl inX1 (by decide) qw_62 hF (fun x123 hF => ?_)
      refine jj_aload_n (j := 1) (i := 0) (pc' := 145) dX3_makePart_144 rfl rfl rfl ?_
      refine jj_gR (C := RX3) (T := TX3) (N := 8) (ci := 3) (k := 3) (pc' := 148) dX3_makePart_145 rfl rfl inX3 (by decide) qw_35 hF (fun r124 hF => ?_)
      refine jj_gI (C := RX1) (T := TX1) (N := 5) (ci := 1) (k := 3) (pc' := 151) dX3_makePart_148 rfl rfl inX1 (by decide) qw_63 hF (fun x125 hF => ?_)
      refine jj_cI (N := M_X0_addShowing) (kc' := 0) (ks' := 0) (pc' := 154) (jg_V (N := M_X0_addShowing) (ci := 0) (rest := []) (as := [.int x119, .int x121, .int x123, .int x125]) cf_X3_98 dX3_makePart_151 ⟨rfl, rfl⟩ rfl rfl ⟨Nat.le_of_ble_eq_true rfl, Nat.le_of_ble_eq_true rfl⟩ ⟨Nat.le_of_ble_eq_true rfl, Nat.le_of_ble_eq_true rfl⟩ (Nat.le_of_ble_eq_true rfl) (fun X' hX => KX0_addShowing hX)) rfl rfl rfl rfl ⟨Nat.le_of_ble_eq_true rfl, Nat.le_of_ble_eq_true rfl⟩ rfl hF (fun x127 h126 hF => ?_)
      refine jj_pop (pc' := 155) dX3_makePart_154 rfl rfl ?_
      refine jj_iconst (v := (1 : Int32)) (pc' := 156) dX3_makePart_155 rfl rfl ?_
      exact jj_retI (ty := .boolean) rfl rfl dX3_makePart_156 ⟨Nat.le_of_ble_eq_true rfl, Nat.le_of_ble_eq_true rfl⟩ hF
    · skip
      refine jj_aload_n (j := 1) (i := 0) (pc' := 73) dX3_makePart_72 rfl rfl rfl ?_
      refine jj_gR (C := RX3) (T := TX3) (N := 8) (ci := 3) (k := 0) (pc' := 76) dX3_makePart_73 rfl rfl inX3 (by decide) qw_29 hF (fun r128 hF => ?_)
      refine jj_iload_n (j := 2) (i := 1) (pc' := 77) dX3_makePart_76 rfl rfl rfl ?_
      refine jj_iload_n (j := 0) (i := 2) (pc' := 78) dX3_makePart_77 rfl rfl rfl ?_
      refine jj_aload_n (j := 1) (i := 0) (pc' := 79) dX3_makePart_78 rfl rfl rfl ?_
      refine jj_gR (C := RX3) (T := TX3) (N := 8) (ci := 3) (k := 0) (pc' := 82) dX3_makePart_79 rfl rfl inX3 (by decide) qw_29 hF (fun r129 hF => ?_)
      refine jj_aload_n (j := 1) (i := 0) (pc' := 83) dX3_makePart_82 rfl rfl rfl ?_
      refine jj_gR (C := RX3) (T := TX3) (N := 8) (ci := 3) (k := 3) (pc' := 86) dX3_makePart_83 rfl rfl inX3 (by decide) qw_35 hF (fun r130 hF => ?_)
      refine jj_gI (C := RX1) (T := TX1) (N := 5) (ci := 1) (k := 0) (pc' := 89) dX3_makePart_86 rfl rfl inX1 (by decide) qw_60 hF (fun x131 hF => ?_)
      refine jj_aload_n (j := 1) (i := 0) (pc' := 90) dX3_makePart_89 rfl rfl rfl ?_
      refine jj_gR (C := RX3) (T := TX3) (N := 8) (ci := 3) (k := 3) (pc' := 93) dX3_makePart_90 rfl rfl inX3 (by decide) qw_35 hF (fun r132 hF => ?_)
      refine jj_gI (C := RX1) (T := TX1) (N := 5) (ci := 1) (k := 1) (pc' := 96) dX3_makePart_93 rfl rfl inX1 (by decide) qw_61 hF (fun x133 hF => ?_)
      refine jj_aload_n (j := 1) (i := 0) (pc' := 97) dX3_makePart_96 rfl rfl rfl ?_
      refine jj_gR (C := RX3) (T := TX3) (N := 8) (ci := 3) (k := 3) (pc' := 100) dX3_makePart_97 rfl rfl inX3 (by decide) qw_35 hF (fun r134 hF => ?_)
      refine jj_gI (C := RX1) (T := TX1) (N := 5) (ci := 1) (k := 2) (pc' := 103) dX3_makePart_100 rfl rfl inX1 (by decide) qw_62 hF (fun x135 hF => ?_)
      refine jj_aload_n (j := 1) (i := 0) (pc' := 104) dX3_makePart_103 rfl rfl rfl ?_
      refine jj_gR (C := RX3) (T := TX3) (N := 8) (ci := 3) (k := 3) (pc' := 107) dX3_makePart_104 rfl rfl inX3 (by decide) qw_35 hF (fun r136 hF => ?_)
      refine jj_gI (C := RX1) (T := TX1) (N := 5) (ci := 1) (k := 3) (pc' := 110) dX3_makePart_107 rfl rfl inX1 (by decide) qw_63 hF (fun x137 hF => ?_)
      refine jj_iload_n (j := 0) (i := 2) (pc' := 111) dX3_makePart_110 rfl rfl rfl ?_
      refine jj_cI (N := M_X0_inWay) (kc' := 0) (ks' := 0) (pc' := 114) (jg_V (N := M_X0_inWay) (ci := 0) (rest := [.int x116, .int x1, .ref r128]) (as := [.int x131, .int x133, .int x135, .int x137, .int x116]) cf_X3_219 dX3_makePart_111 ⟨rfl, rfl⟩ rfl rfl ⟨Nat.le_of_ble_eq_true rfl, Nat.le_of_ble_eq_true rfl⟩ ⟨Nat.le_of_ble_eq_true rfl, Nat.le_of_ble_eq_true rfl⟩ (Nat.le_of_ble_eq_true rfl) (fun X' hX => KX0_inWay hX)) rfl rfl rfl rfl ⟨Nat.le_of_ble_eq_true rfl, Nat.le_of_ble_eq_true rfl⟩ rfl hF (fun x139 h138 hF => ?_)
      refine jj_cV (N := M_X0_setStop) (kc' := 0) (ks' := 0) (pc' := 117) (jg_V (N := M_X0_setStop) (ci := 0) (rest := []) (as := [.int x1, .int x116, .int x139]) cf_X3_309 dX3_makePart_114 ⟨rfl, rfl⟩ rfl rfl ⟨Nat.le_of_ble_eq_true rfl, Nat.le_of_ble_eq_true rfl⟩ ⟨Nat.le_of_ble_eq_true rfl, Nat.le_of_ble_eq_true rfl⟩ (Nat.le_of_ble_eq_true rfl) (fun X' hX => KX0_setStop hX)) rfl rfl rfl rfl ⟨Nat.le_of_ble_eq_true rfl, Nat.le_of_ble_eq_true rfl⟩ rfl hF (fun h140 hF => ?_)
      refine jj_iconst (v := (0 : Int32)) (pc' := 118) dX3_makePart_117 rfl rfl ?_
      exact jj_retI (ty := .boolean) rfl rfl dX3_makePart_118 ⟨Nat.le_of_ble_eq_true rfl, Nat.le_of_ble_eq_true rfl⟩ hF
  · skip
    refine jj_aload_n (j := 0) (i := 0) (pc' := 21) dX3_makePart_20 rfl rfl rfl ?_
    refine jj_gR (C := RX3) (T := TX3) (N := 8) (ci := 3) (k := 0) (pc' := 24) dX3_makePart_21 rfl rfl inX3 (by decide) qw_29 hF (fun r141 hF => ?_)
    refine jj_iload_n (j := 1) (i := 1) (pc' := 25) dX3_makePart_24 rfl rfl rfl ?_
    refine jj_iconst (v := (5 : Int32)) (pc' := 26) dX3_makePart_25 rfl rfl ?_
    refine jj_iconst (v := (-1 : Int32)) (pc' := 27) dX3_makePart_26 rfl rfl ?_
    refine jj_cV (N := M_X0_setStop) (kc' := 0) (ks' := 0) (pc' := 30) (jg_V (N := M_X0_setStop) (ci := 0) (rest := []) (as := [.int x1, .int ((5 : Int32)), .int ((-1 : Int32))]) cf_X3_309 dX3_makePart_27 ⟨rfl, rfl⟩ rfl rfl ⟨Nat.le_of_ble_eq_true rfl, Nat.le_of_ble_eq_true rfl⟩ ⟨Nat.le_of_ble_eq_true rfl, Nat.le_of_ble_eq_true rfl⟩ (Nat.le_of_ble_eq_true rfl) (fun X' hX => KX0_setStop hX)) rfl rfl rfl rfl ⟨Nat.le_of_ble_eq_true rfl, Nat.le_of_ble_eq_true rfl⟩ rfl hF (fun h142 hF => ?_)
    refine jj_iconst (v := (0 : Int32)) (pc' := 31) dX3_makePart_30 rfl rfl ?_
    exact jj_retI (ty := .boolean) rfl rfl dX3_makePart_31 ⟨Nat.le_of_ble_eq_true rfl, Nat.le_of_ble_eq_true rfl⟩ hF
theorem KX3_makePart {N : Nat} {a0 : Nat} {x1 : Int32} {h : jm_H} {X : jm_X} (hF : FX3_makePart N a0 x1 h = some X) : jm_K M_X3_makePart [.ref a0, .int x1] h X := jk_of rfl (by decide +kernel) rfl rfl (Nat.le_of_ble_eq_true rfl) (JX3_makePart hF)
set_option maxRecDepth 100000 in
set_option maxHeartbeats 4000000 in
theorem BX3_makeShowings_21 (N : Nat) : ∀ (n : Nat) (a0 : Nat) (x1 : Int32) (x2 : Int32) (h : jm_H) (X : jm_X), FX3_makeShowings_21 N n a0 x1 x2 h = some X → jm_J M_X3_makeShowings 21 [(0, .ref a0), (1, .int x1), (2, .int x2)] [] h 0 0 X := by
  intro n
  induction n with
  | zero =>
    intro a0 x1 x2 h X hF
    exact nomatch (show (none : Option jm_X) = some X from hF)
  | succ n ih =>
    intro a0 x1 x2 h X hF
    rw [FX3_makeShowings_21] at hF
    refine jj_iload_n (j := 2) (i := 2) (pc' := 22) dX3_makeShowings_21 rfl rfl rfl ?_
    refine jj_aload_n (j := 0) (i := 0) (pc' := 23) dX3_makeShowings_22 rfl rfl rfl ?_
    refine jj_gI (C := RX3) (T := TX3) (N := 8) (ci := 3) (k := 7) (pc' := 26) dX3_makeShowings_23 rfl rfl inX3 (by decide) qw_54 hF (fun x101 hF => ?_)
    refine jj_icmp_gt (tgt := 113) (pc' := 29) dX3_makeShowings_26 rfl rfl (fun hc hF => ?_) (fun hc hF => ?_) hF
    · skip
      refine jj_iload_n (j := 1) (i := 1) (pc' := 114) dX3_makeShowings_113 rfl rfl rfl ?_
      exact jj_retI (ty := .int) rfl rfl dX3_makeShowings_114 ⟨Nat.le_of_ble_eq_true rfl, Nat.le_of_ble_eq_true rfl⟩ hF
    · skip
      refine jj_iload_n (j := 2) (i := 2) (pc' := 30) dX3_makeShowings_29 rfl rfl rfl ?_
      refine jj_aload_n (j := 0) (i := 0) (pc' := 31) dX3_makeShowings_30 rfl rfl rfl ?_
      refine jj_gR (C := RX3) (T := TX3) (N := 8) (ci := 3) (k := 4) (pc' := 34) dX3_makeShowings_31 rfl rfl inX3 (by decide) qw_36 hF (fun r102 hF => ?_)
      refine jj_len (pc' := 35) dX3_makeShowings_34 rfl hF (fun x103 hF => ?_)
      refine jj_icmp_gt (tgt := 113) (pc' := 38) dX3_makeShowings_35 rfl rfl (fun hc hF => ?_) (fun hc hF => ?_) hF
      · skip
        refine jj_iload_n (j := 1) (i := 1) (pc' := 114) dX3_makeShowings_113 rfl rfl rfl ?_
        exact jj_retI (ty := .int) rfl rfl dX3_makeShowings_114 ⟨Nat.le_of_ble_eq_true rfl, Nat.le_of_ble_eq_true rfl⟩ hF
      · skip
        refine jj_iload_n (j := 2) (i := 2) (pc' := 39) dX3_makeShowings_38 rfl rfl rfl ?_
        refine jj_aload_n (j := 0) (i := 0) (pc' := 40) dX3_makeShowings_39 rfl rfl rfl ?_
        refine jj_gI (C := RX3) (T := TX3) (N := 8) (ci := 3) (k := 7) (pc' := 43) dX3_makeShowings_40 rfl rfl inX3 (by decide) qw_54 hF (fun x104 hF => ?_)
        refine jj_icmp_ge (tgt := 55) (pc' := 46) dX3_makeShowings_43 rfl rfl (fun hc hF => ?_) (fun hc hF => ?_) hF
        · skip
          refine jj_iconst (v := (1 : Int32)) (pc' := 56) dX3_makeShowings_55 rfl rfl ?_
          refine jj_goto (tgt := 60) dX3_makeShowings_56 rfl ?_
          refine jj_istore_n (i := 3) (ls' := [(3, .int ((1 : Int32))), (0, .ref a0), (1, .int x1), (2, .int x2)]) (pc' := 61) dX3_makeShowings_60 rfl (Nat.le_of_ble_eq_true rfl) rfl rfl ?_
          refine jj_iload_n (j := 0) (i := 3) (pc' := 62) dX3_makeShowings_61 rfl rfl rfl ?_
          refine jj_if_ne_t (tgt := 76) dX3_makeShowings_62 rfl (by decide) ?_
          refine jj_aload_n (j := 1) (i := 0) (pc' := 77) dX3_makeShowings_76 rfl rfl rfl ?_
          refine jj_iload_n (j := 2) (i := 1) (pc' := 78) dX3_makeShowings_77 rfl rfl rfl ?_
          refine jj_cI (N := M_X3_makePart) (kc' := 0) (ks' := 0) (pc' := 81) (jg_V (N := M_X3_makePart) (ci := 3) (rest := []) (as := [.int x1]) cf_X3_313 dX3_makeShowings_78 ⟨rfl, rfl⟩ rfl rfl ⟨Nat.le_of_ble_eq_true rfl, Nat.le_of_ble_eq_true rfl⟩ ⟨Nat.le_of_ble_eq_true rfl, Nat.le_of_ble_eq_true rfl⟩ (Nat.le_of_ble_eq_true rfl) (fun X' hX => KX3_makePart hX)) rfl rfl rfl rfl ⟨Nat.le_of_ble_eq_true rfl, Nat.le_of_ble_eq_true rfl⟩ rfl hF (fun x106 h105 hF => ?_)
          refine jj_if_ne (tgt := 86) (pc' := 84) dX3_makeShowings_81 rfl rfl (fun hc hF => ?_) (fun hc hF => ?_) hF
          · skip
            refine jj_iinc (i := 1) (j := 2) (v := x1 + (1 : Int32)) (ls' := [(1, .int (x1 + (1 : Int32))), (3, .int ((1 : Int32))), (0, .ref a0), (2, .int x2)]) (pc' := 89) dX3_makeShowings_86 rfl rfl (Nat.le_of_ble_eq_true rfl) rfl rfl ?_
            refine jj_iload_n (j := 1) (i := 3) (pc' := 90) dX3_makeShowings_89 rfl rfl rfl ?_
            refine jj_if_ne_t (tgt := 107) dX3_makeShowings_90 rfl (by decide) ?_
            refine jj_iinc (i := 2) (j := 3) (v := x2 + (1 : Int32)) (ls' := [(2, .int (x2 + (1 : Int32))), (1, .int (x1 + (1 : Int32))), (3, .int ((1 : Int32))), (0, .ref a0)]) (pc' := 110) dX3_makeShowings_107 rfl rfl (Nat.le_of_ble_eq_true rfl) rfl rfl ?_
            refine jj_goto (tgt := 21) dX3_makeShowings_110 rfl ?_
            exact jj_pick [3, 1, 0] rfl (ih a0 (x1 + (1 : Int32)) (x2 + (1 : Int32)) h105 _ hF)
          · skip
            refine jj_iload_n (j := 2) (i := 1) (pc' := 85) dX3_makeShowings_84 rfl rfl rfl ?_
            exact jj_retI (ty := .int) rfl rfl dX3_makeShowings_85 ⟨Nat.le_of_ble_eq_true rfl, Nat.le_of_ble_eq_true rfl⟩ hF
        · skip
          refine jj_iload_n (j := 2) (i := 2) (pc' := 47) dX3_makeShowings_46 rfl rfl rfl ?_
          refine jj_aload_n (j := 0) (i := 0) (pc' := 48) dX3_makeShowings_47 rfl rfl rfl ?_
          refine jj_gR (C := RX3) (T := TX3) (N := 8) (ci := 3) (k := 4) (pc' := 51) dX3_makeShowings_48 rfl rfl inX3 (by decide) qw_36 hF (fun r107 hF => ?_)
          refine jj_len (pc' := 52) dX3_makeShowings_51 rfl hF (fun x108 hF => ?_)
          refine jj_icmp_lt (tgt := 59) (pc' := 55) dX3_makeShowings_52 rfl rfl (fun hc hF => ?_) (fun hc hF => ?_) hF
          · skip
            refine jj_iconst (v := (0 : Int32)) (pc' := 60) dX3_makeShowings_59 rfl rfl ?_
            refine jj_istore_n (i := 3) (ls' := [(3, .int ((0 : Int32))), (0, .ref a0), (1, .int x1), (2, .int x2)]) (pc' := 61) dX3_makeShowings_60 rfl (Nat.le_of_ble_eq_true rfl) rfl rfl ?_
            refine jj_iload_n (j := 0) (i := 3) (pc' := 62) dX3_makeShowings_61 rfl rfl rfl ?_
            refine jj_if_ne_f (pc' := 65) dX3_makeShowings_62 rfl (by decide) 76 rfl ?_
            refine jj_aload_n (j := 1) (i := 0) (pc' := 66) dX3_makeShowings_65 rfl rfl rfl ?_
            refine jj_gR (C := RX3) (T := TX3) (N := 8) (ci := 3) (k := 4) (pc' := 69) dX3_makeShowings_66 rfl rfl inX3 (by decide) qw_36 hF (fun r109 hF => ?_)
            refine jj_iload_n (j := 3) (i := 2) (pc' := 70) dX3_makeShowings_69 rfl rfl rfl ?_
            refine jj_ldI (pc' := 71) dX3_makeShowings_70 rfl hF (fun x110 hF => ?_)
            refine jj_bipush (v := (59 : Int32)) (pc' := 73) dX3_makeShowings_71 rfl rfl ?_
            refine jj_icmp_ne (tgt := 89) (pc' := 76) dX3_makeShowings_73 rfl rfl (fun hc hF => ?_) (fun hc hF => ?_) hF
            · skip
              refine jj_iload_n (j := 0) (i := 3) (pc' := 90) dX3_makeShowings_89 rfl rfl rfl ?_
              refine jj_if_ne_f (pc' := 93) dX3_makeShowings_90 rfl (by decide) 107 rfl ?_
              refine jj_aload_n (j := 1) (i := 0) (pc' := 94) dX3_makeShowings_93 rfl rfl rfl ?_
              refine jj_gR (C := RX3) (T := TX3) (N := 8) (ci := 3) (k := 3) (pc' := 97) dX3_makeShowings_94 rfl rfl inX3 (by decide) qw_35 hF (fun r111 hF => ?_)
              refine jj_aload_n (j := 1) (i := 0) (pc' := 98) dX3_makeShowings_97 rfl rfl rfl ?_
              refine jj_gR (C := RX3) (T := TX3) (N := 8) (ci := 3) (k := 4) (pc' := 101) dX3_makeShowings_98 rfl rfl inX3 (by decide) qw_36 hF (fun r112 hF => ?_)
              refine jj_iload_n (j := 3) (i := 2) (pc' := 102) dX3_makeShowings_101 rfl rfl rfl ?_
              refine jj_ldI (pc' := 103) dX3_makeShowings_102 rfl hF (fun x113 hF => ?_)
              refine jj_cI (N := M_X1_takeCode) (kc' := 0) (ks' := 0) (pc' := 106) (jg_V (N := M_X1_takeCode) (ci := 1) (rest := []) (as := [.int x113]) cf_X3_305 dX3_makeShowings_103 ⟨rfl, rfl⟩ rfl rfl ⟨Nat.le_of_ble_eq_true rfl, Nat.le_of_ble_eq_true rfl⟩ ⟨Nat.le_of_ble_eq_true rfl, Nat.le_of_ble_eq_true rfl⟩ (Nat.le_of_ble_eq_true rfl) (fun X' hX => KX1_takeCode hX)) rfl rfl rfl rfl ⟨Nat.le_of_ble_eq_true rfl, Nat.le_of_ble_eq_true rfl⟩ rfl hF (fun x115 h114 hF => ?_)
              refine jj_pop (pc' := 107) dX3_makeShowings_106 rfl rfl ?_
              refine jj_iinc (i := 2) (j := 3) (v := x2 + (1 : Int32)) (ls' := [(2, .int (x2 + (1 : Int32))), (3, .int ((0 : Int32))), (0, .ref a0), (1, .int x1)]) (pc' := 110) dX3_makeShowings_107 rfl rfl (Nat.le_of_ble_eq_true rfl) rfl rfl ?_
              refine jj_goto (tgt := 21) dX3_makeShowings_110 rfl ?_
              exact jj_pick [2, 3, 0] rfl (ih a0 x1 (x2 + (1 : Int32)) h114 _ hF)
            · skip
              refine jj_aload_n (j := 1) (i := 0) (pc' := 77) dX3_makeShowings_76 rfl rfl rfl ?_
              refine jj_iload_n (j := 2) (i := 1) (pc' := 78) dX3_makeShowings_77 rfl rfl rfl ?_
              refine jj_cI (N := M_X3_makePart) (kc' := 0) (ks' := 0) (pc' := 81) (jg_V (N := M_X3_makePart) (ci := 3) (rest := []) (as := [.int x1]) cf_X3_313 dX3_makeShowings_78 ⟨rfl, rfl⟩ rfl rfl ⟨Nat.le_of_ble_eq_true rfl, Nat.le_of_ble_eq_true rfl⟩ ⟨Nat.le_of_ble_eq_true rfl, Nat.le_of_ble_eq_true rfl⟩ (Nat.le_of_ble_eq_true rfl) (fun X' hX => KX3_makePart hX)) rfl rfl rfl rfl ⟨Nat.le_of_ble_eq_true rfl, Nat.le_of_ble_eq_true rfl⟩ rfl hF (fun x117 h116 hF => ?_)
              refine jj_if_ne (tgt := 86) (pc' := 84) dX3_makeShowings_81 rfl rfl (fun hc hF => ?_) (fun hc hF => ?_) hF
              · skip
                refine jj_iinc (i := 1) (j := 2) (v := x1 + (1 : Int32)) (ls' := [(1, .int (x1 + (1 : Int32))), (3, .int ((0 : Int32))), (0, .ref a0), (2, .int x2)]) (pc' := 89) dX3_makeShowings_86 rfl rfl (Nat.le_of_ble_eq_true rfl) rfl rfl ?_
                refine jj_iload_n (j := 1) (i := 3) (pc' := 90) dX3_makeShowings_89 rfl rfl rfl ?_
                refine jj_if_ne_f (pc' := 93) dX3_makeShowings_90 rfl (by decide) 107 rfl ?_
                refine jj_aload_n (j := 2) (i := 0) (pc' := 94) dX3_makeShowings_93 rfl rfl rfl ?_
                refine jj_gR (C := RX3) (T := TX3) (N := 8) (ci := 3) (k := 3) (pc' := 97) dX3_makeShowings_94 rfl rfl inX3 (by decide) qw_35 hF (fun r118 hF => ?_)
                refine jj_aload_n (j := 2) (i := 0) (pc' := 98) dX3_makeShowings_97 rfl rfl rfl ?_
                refine jj_gR (C := RX3) (T := TX3) (N := 8) (ci := 3) (k := 4) (pc' := 101) dX3_makeShowings_98 rfl rfl inX3 (by decide) qw_36 hF (fun r119 hF => ?_)
                refine jj_iload_n (j := 3) (i := 2) (pc' := 102) dX3_makeShowings_101 rfl rfl rfl ?_
                refine jj_ldI (pc' := 103) dX3_makeShowings_102 rfl hF (fun x120 hF => ?_)
                refine jj_cI (N := M_X1_takeCode) (kc' := 0) (ks' := 0) (pc' := 106) (jg_V (N := M_X1_takeCode) (ci := 1) (rest := []) (as := [.int x120]) cf_X3_305 dX3_makeShowings_103 ⟨rfl, rfl⟩ rfl rfl ⟨Nat.le_of_ble_eq_true rfl, Nat.le_of_ble_eq_true rfl⟩ ⟨Nat.le_of_ble_eq_true rfl, Nat.le_of_ble_eq_true rfl⟩ (Nat.le_of_ble_eq_true rfl) (fun X' hX => KX1_takeCode hX)) rfl rfl rfl rfl ⟨Nat.le_of_ble_eq_true rfl, Nat.le_of_ble_eq_true rfl⟩ rfl hF (fun x122 h121 hF => ?_)
                refine jj_pop (pc' := 107) dX3_makeShowings_106 rfl rfl ?_
                refine jj_iinc (i := 2) (j := 3) (v := x2 + (1 : Int32)) (ls' := [(2, .int (x2 + (1 : Int32))), (1, .int (x1 + (1 : Int32))), (3, .int ((0 : Int32))), (0, .ref a0)]) (pc' := 110) dX3_makeShowings_107 rfl rfl (Nat.le_of_ble_eq_true rfl) rfl rfl ?_
                refine jj_goto (tgt := 21) dX3_makeShowings_110 rfl ?_
                exact jj_pick [3, 1, 0] rfl (ih a0 (x1 + (1 : Int32)) (x2 + (1 : Int32)) h121 _ hF)
              · skip
                refine jj_iload_n (j := 2) (i := 1) (pc' := 85) dX3_makeShowings_84 rfl rfl rfl ?_
                exact jj_retI (ty := .int) rfl rfl dX3_makeShowings_85 ⟨Nat.le_of_ble_eq_true rfl, Nat.le_of_ble_eq_true rfl⟩ hF
          · skip
            refine jj_iconst (v := (1 : Int32)) (pc' := 56) dX3_makeShowings_55 rfl rfl ?_
            refine jj_goto (tgt := 60) dX3_makeShowings_56 rfl ?_
            refine jj_istore_n (i := 3) (ls' := [(3, .int ((1 : Int32))), (0, .ref a0), (1, .int x1), (2, .int x2)]) (pc' := 61) dX3_makeShowings_60 rfl (Nat.le_of_ble_eq_true rfl) rfl rfl ?_
            refine jj_iload_n (j := 0) (i := 3) (pc' := 62) dX3_makeShowings_61 rfl rfl rfl ?_
            refine jj_if_ne_t (tgt := 76) dX3_makeShowings_62 rfl (by decide) ?_
            refine jj_aload_n (j := 1) (i := 0) (pc' := 77) dX3_makeShowings_76 rfl rfl rfl ?_
            refine jj_iload_n (j := 2) (i := 1) (pc' := 78) dX3_makeShowings_77 rfl rfl rfl ?_
            refine jj_cI (N := M_X3_makePart) (kc' := 0) (ks' := 0) (pc' := 81) (jg_V (N := M_X3_makePart) (ci := 3) (rest := []) (as := [.int x1]) cf_X3_313 dX3_makeShowings_78 ⟨rfl, rfl⟩ rfl rfl ⟨Nat.le_of_ble_eq_true rfl, Nat.le_of_ble_eq_true rfl⟩ ⟨Nat.le_of_ble_eq_true rfl, Nat.le_of_ble_eq_true rfl⟩ (Nat.le_of_ble_eq_true rfl) (fun X' hX => KX3_makePart hX)) rfl rfl rfl rfl ⟨Nat.le_of_ble_eq_true rfl, Nat.le_of_ble_eq_true rfl⟩ rfl hF (fun x124 h123 hF => ?_)
            refine jj_if_ne (tgt := 86) (pc' := 84) dX3_makeShowings_81 rfl rfl (fun hc hF => ?_) (fun hc hF => ?_) hF
            · skip
              refine jj_iinc (i := 1) (j := 2) (v := x1 + (1 : Int32)) (ls' := [(1, .int (x1 + (1 : Int32))), (3, .int ((1 : Int32))), (0, .ref a0), (2, .int x2)]) (pc' := 89) dX3_makeShowings_86 rfl rfl (Nat.le_of_ble_eq_true rfl) rfl rfl ?_
              refine jj_iload_n (j := 1) (i := 3) (pc' := 90) dX3_makeShowings_89 rfl rfl rfl ?_
              refine jj_if_ne_t (tgt := 107) dX3_makeShowings_90 rfl (by decide) ?_
              refine jj_iinc (i := 2) (j := 3) (v := x2 + (1 : Int32)) (ls' := [(2, .int (x2 + (1 : Int32))), (1, .int (x1 + (1 : Int32))), (3, .int ((1 : Int32))), (0, .ref a0)]) (pc' := 110) dX3_makeShowings_107 rfl rfl (Nat.le_of_ble_eq_true rfl) rfl rfl ?_
              refine jj_goto (tgt := 21) dX3_makeShowings_110 rfl ?_
              exact jj_pick [3, 1, 0] rfl (ih a0 (x1 + (1 : Int32)) (x2 + (1 : Int32)) h123 _ hF)
            · skip
              refine jj_iload_n (j := 2) (i := 1) (pc' := 85) dX3_makeShowings_84 rfl rfl rfl ?_
              exact jj_retI (ty := .int) rfl rfl dX3_makeShowings_85 ⟨Nat.le_of_ble_eq_true rfl, Nat.le_of_ble_eq_true rfl⟩ hF
set_option maxRecDepth 100000 in
set_option maxHeartbeats 4000000 in
theorem JX3_makeShowings {N : Nat} {a0 : Nat} {h : jm_H} {X : jm_X} (hF : FX3_makeShowings N a0 h = some X) : jm_J M_X3_makeShowings 0 [(0, .ref a0)] [] h 0 0 X := by
  unfold FX3_makeShowings at hF
  refine jj_aload_n (j := 0) (i := 0) (pc' := 1) dX3_makeShowings_0 rfl rfl rfl ?_
  refine jj_gR (C := RX3) (T := TX3) (N := 8) (ci := 3) (k := 0) (pc' := 4) dX3_makeShowings_1 rfl rfl inX3 (by decide) qw_29 hF (fun r101 hF => ?_)
  refine jj_iconst (v := (-1 : Int32)) (pc' := 5) dX3_makeShowings_4 rfl rfl ?_
  refine jj_iconst (v := (-1 : Int32)) (pc' := 6) dX3_makeShowings_5 rfl rfl ?_
  refine jj_iconst (v := (-1 : Int32)) (pc' := 7) dX3_makeShowings_6 rfl rfl ?_
  refine jj_cV (N := M_X0_setStop) (kc' := 0) (ks' := 0) (pc' := 10) (jg_V (N := M_X0_setStop) (ci := 0) (rest := []) (as := [.int ((-1 : Int32)), .int ((-1 : Int32)), .int ((-1 : Int32))]) cf_X3_309 dX3_makeShowings_7 ⟨rfl, rfl⟩ rfl rfl ⟨Nat.le_of_ble_eq_true rfl, Nat.le_of_ble_eq_true rfl⟩ ⟨Nat.le_of_ble_eq_true rfl, Nat.le_of_ble_eq_true rfl⟩ (Nat.le_of_ble_eq_true rfl) (fun X' hX => KX0_setStop hX)) rfl rfl rfl rfl ⟨Nat.le_of_ble_eq_true rfl, Nat.le_of_ble_eq_true rfl⟩ rfl hF (fun h102 hF => ?_)
  refine jj_aload_n (j := 0) (i := 0) (pc' := 11) dX3_makeShowings_10 rfl rfl rfl ?_
  refine jj_gR (C := RX3) (T := TX3) (N := 8) (ci := 3) (k := 3) (pc' := 14) dX3_makeShowings_11 rfl rfl inX3 (by decide) qw_35 hF (fun r103 hF => ?_)
  refine jj_cV (N := M_X1_startPart) (kc' := 0) (ks' := 0) (pc' := 17) (jg_V (N := M_X1_startPart) (ci := 1) (rest := []) (as := []) cf_X3_302 dX3_makeShowings_14 ⟨rfl, rfl⟩ rfl rfl ⟨Nat.le_of_ble_eq_true rfl, Nat.le_of_ble_eq_true rfl⟩ ⟨Nat.le_of_ble_eq_true rfl, Nat.le_of_ble_eq_true rfl⟩ (Nat.le_of_ble_eq_true rfl) (fun X' hX => KX1_startPart hX)) rfl rfl rfl rfl ⟨Nat.le_of_ble_eq_true rfl, Nat.le_of_ble_eq_true rfl⟩ rfl hF (fun h104 hF => ?_)
  refine jj_iconst (v := (0 : Int32)) (pc' := 18) dX3_makeShowings_17 rfl rfl ?_
  refine jj_istore_n (i := 1) (ls' := [(1, .int ((0 : Int32))), (0, .ref a0)]) (pc' := 19) dX3_makeShowings_18 rfl (Nat.le_of_ble_eq_true rfl) rfl rfl ?_
  refine jj_iconst (v := (0 : Int32)) (pc' := 20) dX3_makeShowings_19 rfl rfl ?_
  refine jj_istore_n (i := 2) (ls' := [(2, .int ((0 : Int32))), (1, .int ((0 : Int32))), (0, .ref a0)]) (pc' := 21) dX3_makeShowings_20 rfl (Nat.le_of_ble_eq_true rfl) rfl rfl ?_
  exact jj_pick [2, 1, 0] rfl (BX3_makeShowings_21 N N a0 ((0 : Int32)) ((0 : Int32)) h104 _ hF)
theorem KX3_makeShowings {N : Nat} {a0 : Nat} {h : jm_H} {X : jm_X} (hF : FX3_makeShowings N a0 h = some X) : jm_K M_X3_makeShowings [.ref a0] h X := jk_of rfl (by decide +kernel) rfl rfl (Nat.le_of_ble_eq_true rfl) (JX3_makeShowings hF)
set_option maxRecDepth 100000 in
set_option maxHeartbeats 4000000 in
theorem JX3_program {N : Nat} {a0 : Nat} {h : jm_H} {X : jm_X} (hF : FX3_program N a0 h = some X) : jm_J M_X3_program 0 [(0, .ref a0)] [] h 0 0 X := by
  unfold FX3_program at hF
  refine jj_aload_n (j := 0) (i := 0) (pc' := 1) dX3_program_0 rfl rfl rfl ?_
  refine jj_cI (N := M_X3_readBuffer) (kc' := 0) (ks' := 0) (pc' := 4) (jg_V (N := M_X3_readBuffer) (ci := 3) (rest := []) (as := []) cf_X3_160 dX3_program_1 ⟨rfl, rfl⟩ rfl rfl ⟨Nat.le_of_ble_eq_true rfl, Nat.le_of_ble_eq_true rfl⟩ ⟨Nat.le_of_ble_eq_true rfl, Nat.le_of_ble_eq_true rfl⟩ (Nat.le_of_ble_eq_true rfl) (fun X' hX => KX3_readBuffer hX)) rfl rfl rfl rfl ⟨Nat.le_of_ble_eq_true rfl, Nat.le_of_ble_eq_true rfl⟩ rfl hF (fun x102 h101 hF => ?_)
  refine jj_aload_n (j := 0) (i := 0) (pc' := 5) dX3_program_4 rfl rfl rfl ?_
  refine jj_gI (C := RX3) (T := TX3) (N := 8) (ci := 3) (k := 7) (pc' := 8) dX3_program_5 rfl rfl inX3 (by decide) qw_54 hF (fun x103 hF => ?_)
  refine jj_icmp_ne (tgt := 25) (pc' := 11) dX3_program_8 rfl rfl (fun hc hF => ?_) (fun hc hF => ?_) hF
  · skip
    refine jj_iconst (v := (0 : Int32)) (pc' := 26) dX3_program_25 rfl rfl ?_
    refine jj_cV (N := M_X3_requireArgument) (kc' := 1) (ks' := 6) (pc' := 29) (jg_S (N := M_X3_requireArgument) (rest := []) (as := [.int ((0 : Int32))]) cf_X3_38 rfl dX3_program_26 rfl rfl ⟨Nat.le_of_ble_eq_true rfl, Nat.le_of_ble_eq_true rfl⟩ ⟨Nat.le_of_ble_eq_true rfl, Nat.le_of_ble_eq_true rfl⟩ (Nat.le_of_ble_eq_true rfl) (fun X' hX => KX3_requireArgument hX)) rfl rfl rfl rfl ⟨Nat.le_of_ble_eq_true rfl, Nat.le_of_ble_eq_true rfl⟩ rfl hF (fun h104 hF => ?_)
    refine jj_aload_n (j := 0) (i := 0) (pc' := 30) dX3_program_29 rfl rfl rfl ?_
    refine jj_cV (N := M_X3_save) (kc' := 1) (ks' := 6) (pc' := 33) (jg_V (N := M_X3_save) (ci := 3) (rest := []) (as := []) cf_X3_59 dX3_program_30 ⟨rfl, rfl⟩ rfl rfl ⟨Nat.le_of_ble_eq_true rfl, Nat.le_of_ble_eq_true rfl⟩ ⟨Nat.le_of_ble_eq_true rfl, Nat.le_of_ble_eq_true rfl⟩ (Nat.le_of_ble_eq_true rfl) (fun X' hX => KX3_save hX)) rfl rfl rfl rfl ⟨Nat.le_of_ble_eq_true rfl, Nat.le_of_ble_eq_true rfl⟩ rfl hF (fun h105 hF => ?_)
    refine jj_aload_n (j := 0) (i := 0) (pc' := 34) dX3_program_33 rfl rfl rfl ?_
    refine jj_cI (N := M_X3_makeShowings) (kc' := 1) (ks' := 6) (pc' := 37) (jg_V (N := M_X3_makeShowings) (ci := 3) (rest := []) (as := []) cf_X3_168 dX3_program_34 ⟨rfl, rfl⟩ rfl rfl ⟨Nat.le_of_ble_eq_true rfl, Nat.le_of_ble_eq_true rfl⟩ ⟨Nat.le_of_ble_eq_true rfl, Nat.le_of_ble_eq_true rfl⟩ (Nat.le_of_ble_eq_true rfl) (fun X' hX => KX3_makeShowings hX)) rfl rfl rfl rfl ⟨Nat.le_of_ble_eq_true rfl, Nat.le_of_ble_eq_true rfl⟩ rfl hF (fun x107 h106 hF => ?_)
    refine jj_istore_n (i := 1) (ls' := [(1, .int x107), (0, .ref a0)]) (pc' := 38) dX3_program_37 rfl (Nat.le_of_ble_eq_true rfl) rfl rfl ?_
    refine jj_aload_n (j := 1) (i := 0) (pc' := 39) dX3_program_38 rfl rfl rfl ?_
    refine jj_iconst (v := (0 : Int32)) (pc' := 40) dX3_program_39 rfl rfl ?_
    refine jj_p (C := RX3) (T := TX3) (N := 8) (ci := 3) (k := 7) (ty := tyX3) (pc' := 43) dX3_program_40 rfl rfl inX3 tyX3_ok nmX3 (by decide) qw_54 rfl (fun _ => ⟨rfl, rfl⟩) hF (fun h108 hF => ?_)
    refine jj_iload_n (j := 0) (i := 1) (pc' := 44) dX3_program_43 rfl rfl rfl ?_
    exact jj_retI (ty := .int) rfl rfl dX3_program_44 ⟨Nat.le_of_ble_eq_true rfl, Nat.le_of_ble_eq_true rfl⟩ hF
  · skip
    refine jj_aload_n (j := 0) (i := 0) (pc' := 12) dX3_program_11 rfl rfl rfl ?_
    refine jj_gR (C := RX3) (T := TX3) (N := 8) (ci := 3) (k := 3) (pc' := 15) dX3_program_12 rfl rfl inX3 (by decide) qw_35 hF (fun r109 hF => ?_)
    refine jj_cI (N := M_X1_isBehindPart) (kc' := 0) (ks' := 0) (pc' := 18) (jg_V (N := M_X1_isBehindPart) (ci := 1) (rest := []) (as := []) cf_X3_164 dX3_program_15 ⟨rfl, rfl⟩ rfl rfl ⟨Nat.le_of_ble_eq_true rfl, Nat.le_of_ble_eq_true rfl⟩ ⟨Nat.le_of_ble_eq_true rfl, Nat.le_of_ble_eq_true rfl⟩ (Nat.le_of_ble_eq_true rfl) (fun X' hX => KX1_isBehindPart hX)) rfl rfl rfl rfl ⟨Nat.le_of_ble_eq_true rfl, Nat.le_of_ble_eq_true rfl⟩ rfl hF (fun x111 h110 hF => ?_)
    refine jj_if_eq (tgt := 25) (pc' := 21) dX3_program_18 rfl rfl (fun hc hF => ?_) (fun hc hF => ?_) hF
    · skip
      refine jj_iconst (v := (0 : Int32)) (pc' := 26) dX3_program_25 rfl rfl ?_
      refine jj_cV (N := M_X3_requireArgument) (kc' := 1) (ks' := 6) (pc' := 29) (jg_S (N := M_X3_requireArgument) (rest := []) (as := [.int ((0 : Int32))]) cf_X3_38 rfl dX3_program_26 rfl rfl ⟨Nat.le_of_ble_eq_true rfl, Nat.le_of_ble_eq_true rfl⟩ ⟨Nat.le_of_ble_eq_true rfl, Nat.le_of_ble_eq_true rfl⟩ (Nat.le_of_ble_eq_true rfl) (fun X' hX => KX3_requireArgument hX)) rfl rfl rfl rfl ⟨Nat.le_of_ble_eq_true rfl, Nat.le_of_ble_eq_true rfl⟩ rfl hF (fun h112 hF => ?_)
      refine jj_aload_n (j := 0) (i := 0) (pc' := 30) dX3_program_29 rfl rfl rfl ?_
      refine jj_cV (N := M_X3_save) (kc' := 1) (ks' := 6) (pc' := 33) (jg_V (N := M_X3_save) (ci := 3) (rest := []) (as := []) cf_X3_59 dX3_program_30 ⟨rfl, rfl⟩ rfl rfl ⟨Nat.le_of_ble_eq_true rfl, Nat.le_of_ble_eq_true rfl⟩ ⟨Nat.le_of_ble_eq_true rfl, Nat.le_of_ble_eq_true rfl⟩ (Nat.le_of_ble_eq_true rfl) (fun X' hX => KX3_save hX)) rfl rfl rfl rfl ⟨Nat.le_of_ble_eq_true rfl, Nat.le_of_ble_eq_true rfl⟩ rfl hF (fun h113 hF => ?_)
      refine jj_aload_n (j := 0) (i := 0) (pc' := 34) dX3_program_33 rfl rfl rfl ?_
      refine jj_cI (N := M_X3_makeShowings) (kc' := 1) (ks' := 6) (pc' := 37) (jg_V (N := M_X3_makeShowings) (ci := 3) (rest := []) (as := []) cf_X3_168 dX3_program_34 ⟨rfl, rfl⟩ rfl rfl ⟨Nat.le_of_ble_eq_true rfl, Nat.le_of_ble_eq_true rfl⟩ ⟨Nat.le_of_ble_eq_true rfl, Nat.le_of_ble_eq_true rfl⟩ (Nat.le_of_ble_eq_true rfl) (fun X' hX => KX3_makeShowings hX)) rfl rfl rfl rfl ⟨Nat.le_of_ble_eq_true rfl, Nat.le_of_ble_eq_true rfl⟩ rfl hF (fun x115 h114 hF => ?_)
      refine jj_istore_n (i := 1) (ls' := [(1, .int x115), (0, .ref a0)]) (pc' := 38) dX3_program_37 rfl (Nat.le_of_ble_eq_true rfl) rfl rfl ?_
      refine jj_aload_n (j := 1) (i := 0) (pc' := 39) dX3_program_38 rfl rfl rfl ?_
      refine jj_iconst (v := (0 : Int32)) (pc' := 40) dX3_program_39 rfl rfl ?_
      refine jj_p (C := RX3) (T := TX3) (N := 8) (ci := 3) (k := 7) (ty := tyX3) (pc' := 43) dX3_program_40 rfl rfl inX3 tyX3_ok nmX3 (by decide) qw_54 rfl (fun _ => ⟨rfl, rfl⟩) hF (fun h116 hF => ?_)
      refine jj_iload_n (j := 0) (i := 1) (pc' := 44) dX3_program_43 rfl rfl rfl ?_
      exact jj_retI (ty := .int) rfl rfl dX3_program_44 ⟨Nat.le_of_ble_eq_true rfl, Nat.le_of_ble_eq_true rfl⟩ hF
    · skip
      refine jj_iconst (v := (1 : Int32)) (pc' := 22) dX3_program_21 rfl rfl ?_
      refine jj_goto (tgt := 26) dX3_program_22 rfl ?_
      refine jj_cV (N := M_X3_requireArgument) (kc' := 1) (ks' := 6) (pc' := 29) (jg_S (N := M_X3_requireArgument) (rest := []) (as := [.int ((1 : Int32))]) cf_X3_38 rfl dX3_program_26 rfl rfl ⟨Nat.le_of_ble_eq_true rfl, Nat.le_of_ble_eq_true rfl⟩ ⟨Nat.le_of_ble_eq_true rfl, Nat.le_of_ble_eq_true rfl⟩ (Nat.le_of_ble_eq_true rfl) (fun X' hX => KX3_requireArgument hX)) rfl rfl rfl rfl ⟨Nat.le_of_ble_eq_true rfl, Nat.le_of_ble_eq_true rfl⟩ rfl hF (fun h117 hF => ?_)
      refine jj_aload_n (j := 0) (i := 0) (pc' := 30) dX3_program_29 rfl rfl rfl ?_
      refine jj_cV (N := M_X3_save) (kc' := 1) (ks' := 6) (pc' := 33) (jg_V (N := M_X3_save) (ci := 3) (rest := []) (as := []) cf_X3_59 dX3_program_30 ⟨rfl, rfl⟩ rfl rfl ⟨Nat.le_of_ble_eq_true rfl, Nat.le_of_ble_eq_true rfl⟩ ⟨Nat.le_of_ble_eq_true rfl, Nat.le_of_ble_eq_true rfl⟩ (Nat.le_of_ble_eq_true rfl) (fun X' hX => KX3_save hX)) rfl rfl rfl rfl ⟨Nat.le_of_ble_eq_true rfl, Nat.le_of_ble_eq_true rfl⟩ rfl hF (fun h118 hF => ?_)
      refine jj_aload_n (j := 0) (i := 0) (pc' := 34) dX3_program_33 rfl rfl rfl ?_
      refine jj_cI (N := M_X3_makeShowings) (kc' := 1) (ks' := 6) (pc' := 37) (jg_V (N := M_X3_makeShowings) (ci := 3) (rest := []) (as := []) cf_X3_168 dX3_program_34 ⟨rfl, rfl⟩ rfl rfl ⟨Nat.le_of_ble_eq_true rfl, Nat.le_of_ble_eq_true rfl⟩ ⟨Nat.le_of_ble_eq_true rfl, Nat.le_of_ble_eq_true rfl⟩ (Nat.le_of_ble_eq_true rfl) (fun X' hX => KX3_makeShowings hX)) rfl rfl rfl rfl ⟨Nat.le_of_ble_eq_true rfl, Nat.le_of_ble_eq_true rfl⟩ rfl hF (fun x120 h119 hF => ?_)
      refine jj_istore_n (i := 1) (ls' := [(1, .int x120), (0, .ref a0)]) (pc' := 38) dX3_program_37 rfl (Nat.le_of_ble_eq_true rfl) rfl rfl ?_
      refine jj_aload_n (j := 1) (i := 0) (pc' := 39) dX3_program_38 rfl rfl rfl ?_
      refine jj_iconst (v := (0 : Int32)) (pc' := 40) dX3_program_39 rfl rfl ?_
      refine jj_p (C := RX3) (T := TX3) (N := 8) (ci := 3) (k := 7) (ty := tyX3) (pc' := 43) dX3_program_40 rfl rfl inX3 tyX3_ok nmX3 (by decide) qw_54 rfl (fun _ => ⟨rfl, rfl⟩) hF (fun h121 hF => ?_)
      refine jj_iload_n (j := 0) (i := 1) (pc' := 44) dX3_program_43 rfl rfl rfl ?_
      exact jj_retI (ty := .int) rfl rfl dX3_program_44 ⟨Nat.le_of_ble_eq_true rfl, Nat.le_of_ble_eq_true rfl⟩ hF
theorem KX3_program {N : Nat} {a0 : Nat} {h : jm_H} {X : jm_X} (hF : FX3_program N a0 h = some X) : jm_K M_X3_program [.ref a0] h X := jk_of rfl (by decide +kernel) rfl rfl (Nat.le_of_ble_eq_true rfl) (JX3_program hF)
set_option maxRecDepth 100000 in
set_option maxHeartbeats 4000000 in
theorem JX3_requireWhat {x0 : Int32} {x1 : Int32} {h : jm_H} {X : jm_X} (hF : FX3_requireWhat x0 x1 h = some X) : jm_J M_X3_requireWhat 0 [(0, .int x0), (1, .int x1)] [] h 0 0 X := by
  unfold FX3_requireWhat at hF
  refine jj_iload_n (j := 0) (i := 0) (pc' := 1) dX3_requireWhat_0 rfl rfl rfl ?_
  refine jj_iconst (v := (0 : Int32)) (pc' := 2) dX3_requireWhat_1 rfl rfl ?_
  refine jj_iload_n (j := 1) (i := 1) (pc' := 3) dX3_requireWhat_2 rfl rfl rfl ?_
  refine jj_cI (N := M_X3_isWithin) (kc' := 0) (ks' := 0) (pc' := 6) (jg_S (N := M_X3_isWithin) (rest := []) (as := [.int x0, .int ((0 : Int32)), .int x1]) cf_X3_34 rfl dX3_requireWhat_3 rfl rfl ⟨Nat.le_of_ble_eq_true rfl, Nat.le_of_ble_eq_true rfl⟩ ⟨Nat.le_of_ble_eq_true rfl, Nat.le_of_ble_eq_true rfl⟩ (Nat.le_of_ble_eq_true rfl) (fun X' hX => KX3_isWithin hX)) rfl rfl rfl rfl ⟨Nat.le_of_ble_eq_true rfl, Nat.le_of_ble_eq_true rfl⟩ rfl hF (fun x102 h101 hF => ?_)
  refine jj_cV (N := M_X3_requireArgument) (kc' := 1) (ks' := 6) (pc' := 9) (jg_S (N := M_X3_requireArgument) (rest := []) (as := [.int x102]) cf_X3_38 rfl dX3_requireWhat_6 rfl rfl ⟨Nat.le_of_ble_eq_true rfl, Nat.le_of_ble_eq_true rfl⟩ ⟨Nat.le_of_ble_eq_true rfl, Nat.le_of_ble_eq_true rfl⟩ (Nat.le_of_ble_eq_true rfl) (fun X' hX => KX3_requireArgument hX)) rfl rfl rfl rfl ⟨Nat.le_of_ble_eq_true rfl, Nat.le_of_ble_eq_true rfl⟩ rfl hF (fun h103 hF => ?_)
  exact jj_retV rfl dX3_requireWhat_9 ⟨Nat.le_of_ble_eq_true rfl, Nat.le_of_ble_eq_true rfl⟩ hF
theorem KX3_requireWhat {x0 : Int32} {x1 : Int32} {h : jm_H} {X : jm_X} (hF : FX3_requireWhat x0 x1 h = some X) : jm_K M_X3_requireWhat [.int x0, .int x1] h X := jk_of rfl (by decide +kernel) rfl rfl (Nat.le_of_ble_eq_true rfl) (JX3_requireWhat hF)
set_option maxRecDepth 100000 in
set_option maxHeartbeats 4000000 in
theorem JX0_stopNumber {a0 : Nat} {x1 : Int32} {h : jm_H} {X : jm_X} (hF : FX0_stopNumber a0 x1 h = some X) : jm_J M_X0_stopNumber 0 [(0, .ref a0), (1, .int x1)] [] h 0 0 X := by
  unfold FX0_stopNumber at hF
  refine jj_iload_n (j := 1) (i := 1) (pc' := 1) dX0_stopNumber_0 rfl rfl rfl ?_
  refine jj_lookup2 (t0 := 28) (t1 := 33) (dt := 38) dX0_stopNumber_1 rfl rfl rfl (fun hc hF => ?_) (fun hc hF => ?_) (fun hc hc' hF => ?_) hF
  · skip
    refine jj_aload_n (j := 0) (i := 0) (pc' := 29) dX0_stopNumber_28 rfl rfl rfl ?_
    refine jj_gI (C := RX0) (T := TX0) (N := 10) (ci := 0) (k := 7) (pc' := 32) dX0_stopNumber_29 rfl rfl inX0 (by decide) qw_21 hF (fun x101 hF => ?_)
    exact jj_retI (ty := .int) rfl rfl dX0_stopNumber_32 ⟨Nat.le_of_ble_eq_true rfl, Nat.le_of_ble_eq_true rfl⟩ hF
  · skip
    refine jj_aload_n (j := 0) (i := 0) (pc' := 34) dX0_stopNumber_33 rfl rfl rfl ?_
    refine jj_gI (C := RX0) (T := TX0) (N := 10) (ci := 0) (k := 8) (pc' := 37) dX0_stopNumber_34 rfl rfl inX0 (by decide) qw_22 hF (fun x102 hF => ?_)
    exact jj_retI (ty := .int) rfl rfl dX0_stopNumber_37 ⟨Nat.le_of_ble_eq_true rfl, Nat.le_of_ble_eq_true rfl⟩ hF
  · skip
    refine jj_aload_n (j := 0) (i := 0) (pc' := 39) dX0_stopNumber_38 rfl rfl rfl ?_
    refine jj_gI (C := RX0) (T := TX0) (N := 10) (ci := 0) (k := 9) (pc' := 42) dX0_stopNumber_39 rfl rfl inX0 (by decide) qw_23 hF (fun x103 hF => ?_)
    exact jj_retI (ty := .int) rfl rfl dX0_stopNumber_42 ⟨Nat.le_of_ble_eq_true rfl, Nat.le_of_ble_eq_true rfl⟩ hF
theorem KX0_stopNumber {a0 : Nat} {x1 : Int32} {h : jm_H} {X : jm_X} (hF : FX0_stopNumber a0 x1 h = some X) : jm_K M_X0_stopNumber [.ref a0, .int x1] h X := jk_of rfl (by decide +kernel) rfl rfl (Nat.le_of_ble_eq_true rfl) (JX0_stopNumber hF)
set_option maxRecDepth 100000 in
set_option maxHeartbeats 4000000 in
theorem JX3_stopped {a0 : Nat} {x1 : Int32} {h : jm_H} {X : jm_X} (hF : FX3_stopped a0 x1 h = some X) : jm_J M_X3_stopped 0 [(0, .ref a0), (1, .int x1)] [] h 0 0 X := by
  unfold FX3_stopped at hF
  refine jj_iload_n (j := 1) (i := 1) (pc' := 1) dX3_stopped_0 rfl rfl rfl ?_
  refine jj_iconst (v := (2 : Int32)) (pc' := 2) dX3_stopped_1 rfl rfl ?_
  refine jj_cV (N := M_X3_requireWhat) (kc' := 1) (ks' := 6) (pc' := 5) (jg_S (N := M_X3_requireWhat) (rest := []) (as := [.int x1, .int ((2 : Int32))]) cf_X3_171 rfl dX3_stopped_2 rfl rfl ⟨Nat.le_of_ble_eq_true rfl, Nat.le_of_ble_eq_true rfl⟩ ⟨Nat.le_of_ble_eq_true rfl, Nat.le_of_ble_eq_true rfl⟩ (Nat.le_of_ble_eq_true rfl) (fun X' hX => KX3_requireWhat hX)) rfl rfl rfl rfl ⟨Nat.le_of_ble_eq_true rfl, Nat.le_of_ble_eq_true rfl⟩ rfl hF (fun h101 hF => ?_)
  refine jj_aload_n (j := 0) (i := 0) (pc' := 6) dX3_stopped_5 rfl rfl rfl ?_
  refine jj_gR (C := RX3) (T := TX3) (N := 8) (ci := 3) (k := 0) (pc' := 9) dX3_stopped_6 rfl rfl inX3 (by decide) qw_29 hF (fun r102 hF => ?_)
  refine jj_iload_n (j := 1) (i := 1) (pc' := 10) dX3_stopped_9 rfl rfl rfl ?_
  refine jj_cI (N := M_X0_stopNumber) (kc' := 1) (ks' := 6) (pc' := 13) (jg_V (N := M_X0_stopNumber) (ci := 0) (rest := []) (as := [.int x1]) cf_X3_175 dX3_stopped_10 ⟨rfl, rfl⟩ rfl rfl ⟨Nat.le_of_ble_eq_true rfl, Nat.le_of_ble_eq_true rfl⟩ ⟨Nat.le_of_ble_eq_true rfl, Nat.le_of_ble_eq_true rfl⟩ (Nat.le_of_ble_eq_true rfl) (fun X' hX => KX0_stopNumber hX)) rfl rfl rfl rfl ⟨Nat.le_of_ble_eq_true rfl, Nat.le_of_ble_eq_true rfl⟩ rfl hF (fun x104 h103 hF => ?_)
  exact jj_retI (ty := .int) rfl rfl dX3_stopped_13 ⟨Nat.le_of_ble_eq_true rfl, Nat.le_of_ble_eq_true rfl⟩ hF
theorem KX3_stopped {a0 : Nat} {x1 : Int32} {h : jm_H} {X : jm_X} (hF : FX3_stopped a0 x1 h = some X) : jm_K M_X3_stopped [.ref a0, .int x1] h X := jk_of rfl (by decide +kernel) rfl rfl (Nat.le_of_ble_eq_true rfl) (JX3_stopped hF)
set_option maxRecDepth 100000 in
set_option maxHeartbeats 4000000 in
theorem JX3_undo {a0 : Nat} {h : jm_H} {X : jm_X} (hF : FX3_undo a0 h = some X) : jm_J M_X3_undo 0 [(0, .ref a0)] [] h 0 0 X := by
  unfold FX3_undo at hF
  refine jj_aload_n (j := 0) (i := 0) (pc' := 1) dX3_undo_0 rfl rfl rfl ?_
  refine jj_gI (C := RX3) (T := TX3) (N := 8) (ci := 3) (k := 6) (pc' := 4) dX3_undo_1 rfl rfl inX3 (by decide) qw_37 hF (fun x101 hF => ?_)
  refine jj_if_gt (tgt := 17) (pc' := 7) dX3_undo_4 rfl rfl (fun hc hF => ?_) (fun hc hF => ?_) hF
  · skip
    refine jj_aload_n (j := 0) (i := 0) (pc' := 18) dX3_undo_17 rfl rfl rfl ?_
    refine jj_dup (pc' := 19) dX3_undo_18 rfl rfl ?_
    refine jj_gI (C := RX3) (T := TX3) (N := 8) (ci := 3) (k := 6) (pc' := 22) dX3_undo_19 rfl rfl inX3 (by decide) qw_37 hF (fun x102 hF => ?_)
    refine jj_iconst (v := (1 : Int32)) (pc' := 23) dX3_undo_22 rfl rfl ?_
    refine jj_isub (pc' := 24) dX3_undo_23 rfl ?_
    refine jj_p (C := RX3) (T := TX3) (N := 8) (ci := 3) (k := 6) (ty := tyX3) (pc' := 27) dX3_undo_24 rfl rfl inX3 tyX3_ok nmX3 (by decide) qw_37 rfl (fun _ => ⟨rfl, rfl⟩) hF (fun h103 hF => ?_)
    refine jj_aload_n (j := 0) (i := 0) (pc' := 28) dX3_undo_27 rfl rfl rfl ?_
    refine jj_gI (C := RX3) (T := TX3) (N := 8) (ci := 3) (k := 6) (pc' := 31) dX3_undo_28 rfl rfl inX3 (by decide) qw_37 hF (fun x104 hF => ?_)
    refine jj_aload_n (j := 0) (i := 0) (pc' := 32) dX3_undo_31 rfl rfl rfl ?_
    refine jj_gR (C := RX3) (T := TX3) (N := 8) (ci := 3) (k := 2) (pc' := 35) dX3_undo_32 rfl rfl inX3 (by decide) qw_31 hF (fun r105 hF => ?_)
    refine jj_len (pc' := 36) dX3_undo_35 rfl hF (fun x106 hF => ?_)
    refine jj_icmp_ge (tgt := 55) (pc' := 39) dX3_undo_36 rfl rfl (fun hc hF => ?_) (fun hc hF => ?_) hF
    · skip
      refine jj_aload_n (j := 0) (i := 0) (pc' := 56) dX3_undo_55 rfl rfl rfl ?_
      refine jj_gI (C := RX3) (T := TX3) (N := 8) (ci := 3) (k := 6) (pc' := 59) dX3_undo_56 rfl rfl inX3 (by decide) qw_37 hF (fun x107 hF => ?_)
      exact jj_retI (ty := .int) rfl rfl dX3_undo_59 ⟨Nat.le_of_ble_eq_true rfl, Nat.le_of_ble_eq_true rfl⟩ hF
    · skip
      refine jj_aload_n (j := 0) (i := 0) (pc' := 40) dX3_undo_39 rfl rfl rfl ?_
      refine jj_gR (C := RX3) (T := TX3) (N := 8) (ci := 3) (k := 2) (pc' := 43) dX3_undo_40 rfl rfl inX3 (by decide) qw_31 hF (fun r108 hF => ?_)
      refine jj_aload_n (j := 0) (i := 0) (pc' := 44) dX3_undo_43 rfl rfl rfl ?_
      refine jj_gI (C := RX3) (T := TX3) (N := 8) (ci := 3) (k := 6) (pc' := 47) dX3_undo_44 rfl rfl inX3 (by decide) qw_37 hF (fun x109 hF => ?_)
      refine jj_ldA (pc' := 48) dX3_undo_47 rfl hF (fun r110 hF => ?_)
      refine jj_aload_n (j := 0) (i := 0) (pc' := 49) dX3_undo_48 rfl rfl rfl ?_
      refine jj_gR (C := RX3) (T := TX3) (N := 8) (ci := 3) (k := 0) (pc' := 52) dX3_undo_49 rfl rfl inX3 (by decide) qw_29 hF (fun r111 hF => ?_)
      refine jj_cV (N := M_X3_copyState) (kc' := 0) (ks' := 0) (pc' := 55) (jg_S (N := M_X3_copyState) (rest := []) (as := [.ref r110, .ref r111]) cf_X3_183 rfl dX3_undo_52 rfl rfl ⟨Nat.le_of_ble_eq_true rfl, Nat.le_of_ble_eq_true rfl⟩ ⟨Nat.le_of_ble_eq_true rfl, Nat.le_of_ble_eq_true rfl⟩ (Nat.le_of_ble_eq_true rfl) (fun X' hX => KX3_copyState hX)) rfl rfl rfl rfl ⟨Nat.le_of_ble_eq_true rfl, Nat.le_of_ble_eq_true rfl⟩ rfl hF (fun h112 hF => ?_)
      refine jj_aload_n (j := 0) (i := 0) (pc' := 56) dX3_undo_55 rfl rfl rfl ?_
      refine jj_gI (C := RX3) (T := TX3) (N := 8) (ci := 3) (k := 6) (pc' := 59) dX3_undo_56 rfl rfl inX3 (by decide) qw_37 hF (fun x113 hF => ?_)
      exact jj_retI (ty := .int) rfl rfl dX3_undo_59 ⟨Nat.le_of_ble_eq_true rfl, Nat.le_of_ble_eq_true rfl⟩ hF
  · skip
    exact jj_throw (text := "there is no saved state") tf_X3_52_56 (by decide) dX3_undo_7 dX3_undo_10 dX3_undo_11 dX3_undo_13 dX3_undo_16 rfl ⟨Nat.le_of_ble_eq_true rfl, Nat.le_of_ble_eq_true rfl⟩ ⟨Nat.le_of_ble_eq_true rfl, Nat.le_of_ble_eq_true rfl⟩ hF
theorem KX3_undo {a0 : Nat} {h : jm_H} {X : jm_X} (hF : FX3_undo a0 h = some X) : jm_K M_X3_undo [.ref a0] h X := jk_of rfl (by decide +kernel) rfl rfl (Nat.le_of_ble_eq_true rfl) (JX3_undo hF)
set_option maxRecDepth 100000 in
set_option maxHeartbeats 4000000 in
theorem JX3_keep {a0 : Nat} {h : jm_H} {X : jm_X} (hF : FX3_keep a0 h = some X) : jm_J M_X3_keep 0 [(0, .ref a0)] [] h 0 0 X := by
  unfold FX3_keep at hF
  refine jj_aload_n (j := 0) (i := 0) (pc' := 1) dX3_keep_0 rfl rfl rfl ?_
  refine jj_gR (C := RX3) (T := TX3) (N := 8) (ci := 3) (k := 0) (pc' := 4) dX3_keep_1 rfl rfl inX3 (by decide) qw_29 hF (fun r101 hF => ?_)
  refine jj_aload_n (j := 0) (i := 0) (pc' := 5) dX3_keep_4 rfl rfl rfl ?_
  refine jj_gR (C := RX3) (T := TX3) (N := 8) (ci := 3) (k := 1) (pc' := 8) dX3_keep_5 rfl rfl inX3 (by decide) qw_30 hF (fun r102 hF => ?_)
  refine jj_cV (N := M_X3_copyState) (kc' := 0) (ks' := 0) (pc' := 11) (jg_S (N := M_X3_copyState) (rest := []) (as := [.ref r101, .ref r102]) cf_X3_183 rfl dX3_keep_8 rfl rfl ⟨Nat.le_of_ble_eq_true rfl, Nat.le_of_ble_eq_true rfl⟩ ⟨Nat.le_of_ble_eq_true rfl, Nat.le_of_ble_eq_true rfl⟩ (Nat.le_of_ble_eq_true rfl) (fun X' hX => KX3_copyState hX)) rfl rfl rfl rfl ⟨Nat.le_of_ble_eq_true rfl, Nat.le_of_ble_eq_true rfl⟩ rfl hF (fun h103 hF => ?_)
  refine jj_aload_n (j := 0) (i := 0) (pc' := 12) dX3_keep_11 rfl rfl rfl ?_
  refine jj_iconst (v := (1 : Int32)) (pc' := 13) dX3_keep_12 rfl rfl ?_
  refine jj_p (C := RX3) (T := TX3) (N := 8) (ci := 3) (k := 5) (ty := tyX3) (pc' := 16) dX3_keep_13 rfl rfl inX3 tyX3_ok nmX3 (by decide) qw_64 rfl (fun _ => ⟨rfl, rfl⟩) hF (fun h104 hF => ?_)
  refine jj_aload_n (j := 0) (i := 0) (pc' := 17) dX3_keep_16 rfl rfl rfl ?_
  refine jj_gR (C := RX3) (T := TX3) (N := 8) (ci := 3) (k := 0) (pc' := 20) dX3_keep_17 rfl rfl inX3 (by decide) qw_29 hF (fun r105 hF => ?_)
  refine jj_gR (C := RX0) (T := TX0) (N := 10) (ci := 0) (k := 3) (pc' := 23) dX3_keep_20 rfl rfl inX0 (by decide) qw_48 hF (fun r106 hF => ?_)
  refine jj_gI (C := RX2) (T := TX2) (N := 3) (ci := 2) (k := 2) (pc' := 26) dX3_keep_23 rfl rfl inX2 (by decide) qw_44 hF (fun x107 hF => ?_)
  exact jj_retI (ty := .int) rfl rfl dX3_keep_26 ⟨Nat.le_of_ble_eq_true rfl, Nat.le_of_ble_eq_true rfl⟩ hF
theorem KX3_keep {a0 : Nat} {h : jm_H} {X : jm_X} (hF : FX3_keep a0 h = some X) : jm_K M_X3_keep [.ref a0] h X := jk_of rfl (by decide +kernel) rfl rfl (Nat.le_of_ble_eq_true rfl) (JX3_keep hF)
set_option maxRecDepth 100000 in
set_option maxHeartbeats 4000000 in
theorem JX3_restore {N : Nat} {a0 : Nat} {h : jm_H} {X : jm_X} (hF : FX3_restore N a0 h = some X) : jm_J M_X3_restore 0 [(0, .ref a0)] [] h 0 0 X := by
  unfold FX3_restore at hF
  refine jj_aload_n (j := 0) (i := 0) (pc' := 1) dX3_restore_0 rfl rfl rfl ?_
  refine jj_gI (C := RX3) (T := TX3) (N := 8) (ci := 3) (k := 5) (pc' := 4) dX3_restore_1 rfl rfl inX3 (by decide) qw_64 hF (fun x101 hF => ?_)
  refine jj_if_ne (tgt := 17) (pc' := 7) dX3_restore_4 rfl rfl (fun hc hF => ?_) (fun hc hF => ?_) hF
  · skip
    refine jj_aload_n (j := 0) (i := 0) (pc' := 18) dX3_restore_17 rfl rfl rfl ?_
    refine jj_cV (N := M_X3_save) (kc' := 0) (ks' := 0) (pc' := 21) (jg_V (N := M_X3_save) (ci := 3) (rest := []) (as := []) cf_X3_59 dX3_restore_18 ⟨rfl, rfl⟩ rfl rfl ⟨Nat.le_of_ble_eq_true rfl, Nat.le_of_ble_eq_true rfl⟩ ⟨Nat.le_of_ble_eq_true rfl, Nat.le_of_ble_eq_true rfl⟩ (Nat.le_of_ble_eq_true rfl) (fun X' hX => KX3_save hX)) rfl rfl rfl rfl ⟨Nat.le_of_ble_eq_true rfl, Nat.le_of_ble_eq_true rfl⟩ rfl hF (fun h102 hF => ?_)
    refine jj_aload_n (j := 0) (i := 0) (pc' := 22) dX3_restore_21 rfl rfl rfl ?_
    refine jj_gR (C := RX3) (T := TX3) (N := 8) (ci := 3) (k := 1) (pc' := 25) dX3_restore_22 rfl rfl inX3 (by decide) qw_30 hF (fun r103 hF => ?_)
    refine jj_aload_n (j := 0) (i := 0) (pc' := 26) dX3_restore_25 rfl rfl rfl ?_
    refine jj_gR (C := RX3) (T := TX3) (N := 8) (ci := 3) (k := 0) (pc' := 29) dX3_restore_26 rfl rfl inX3 (by decide) qw_29 hF (fun r104 hF => ?_)
    refine jj_cV (N := M_X3_copyState) (kc' := 0) (ks' := 0) (pc' := 32) (jg_S (N := M_X3_copyState) (rest := []) (as := [.ref r103, .ref r104]) cf_X3_183 rfl dX3_restore_29 rfl rfl ⟨Nat.le_of_ble_eq_true rfl, Nat.le_of_ble_eq_true rfl⟩ ⟨Nat.le_of_ble_eq_true rfl, Nat.le_of_ble_eq_true rfl⟩ (Nat.le_of_ble_eq_true rfl) (fun X' hX => KX3_copyState hX)) rfl rfl rfl rfl ⟨Nat.le_of_ble_eq_true rfl, Nat.le_of_ble_eq_true rfl⟩ rfl hF (fun h105 hF => ?_)
    refine jj_aload_n (j := 0) (i := 0) (pc' := 33) dX3_restore_32 rfl rfl rfl ?_
    refine jj_gR (C := RX3) (T := TX3) (N := 8) (ci := 3) (k := 0) (pc' := 36) dX3_restore_33 rfl rfl inX3 (by decide) qw_29 hF (fun r106 hF => ?_)
    refine jj_gR (C := RX0) (T := TX0) (N := 10) (ci := 0) (k := 3) (pc' := 39) dX3_restore_36 rfl rfl inX0 (by decide) qw_48 hF (fun r107 hF => ?_)
    refine jj_gI (C := RX2) (T := TX2) (N := 3) (ci := 2) (k := 2) (pc' := 42) dX3_restore_39 rfl rfl inX2 (by decide) qw_44 hF (fun x108 hF => ?_)
    exact jj_retI (ty := .int) rfl rfl dX3_restore_42 ⟨Nat.le_of_ble_eq_true rfl, Nat.le_of_ble_eq_true rfl⟩ hF
  · skip
    exact jj_throw (text := "there is no snapshot") tf_X3_52_56 (by decide) dX3_restore_7 dX3_restore_10 dX3_restore_11 dX3_restore_13 dX3_restore_16 rfl ⟨Nat.le_of_ble_eq_true rfl, Nat.le_of_ble_eq_true rfl⟩ ⟨Nat.le_of_ble_eq_true rfl, Nat.le_of_ble_eq_true rfl⟩ hF
theorem KX3_restore {N : Nat} {a0 : Nat} {h : jm_H} {X : jm_X} (hF : FX3_restore N a0 h = some X) : jm_K M_X3_restore [.ref a0] h X := jk_of rfl (by decide +kernel) rfl rfl (Nat.le_of_ble_eq_true rfl) (JX3_restore hF)
set_option maxRecDepth 100000 in
set_option maxHeartbeats 4000000 in
theorem BX0_showingsWith_5 (N : Nat) : ∀ (n : Nat) (a0 : Nat) (x1 : Int32) (x2 : Int32) (x3 : Int32) (x4 : Int32) (h : jm_H) (X : jm_X), FX0_showingsWith_5 N n a0 x1 x2 x3 x4 h = some X → jm_J M_X0_showingsWith 5 [(0, .ref a0), (1, .int x1), (2, .int x2), (3, .int x3), (4, .int x4)] [] h 0 0 X := by
  intro n
  induction n with
  | zero =>
    intro a0 x1 x2 x3 x4 h X hF
    exact nomatch (show (none : Option jm_X) = some X from hF)
  | succ n ih =>
    intro a0 x1 x2 x3 x4 h X hF
    rw [FX0_showingsWith_5] at hF
    refine jj_iload (j := 4) (i := 4) (pc' := 7) dX0_showingsWith_5 rfl rfl ?_
    refine jj_aload_n (j := 0) (i := 0) (pc' := 8) dX0_showingsWith_7 rfl rfl rfl ?_
    refine jj_gR (C := RX0) (T := TX0) (N := 10) (ci := 0) (k := 3) (pc' := 11) dX0_showingsWith_8 rfl rfl inX0 (by decide) qw_18 hF (fun r101 hF => ?_)
    refine jj_gI (C := RX2) (T := TX2) (N := 3) (ci := 2) (k := 2) (pc' := 14) dX0_showingsWith_11 rfl rfl inX2 (by decide) qw_47 hF (fun x102 hF => ?_)
    refine jj_icmp_ge (tgt := 40) (pc' := 17) dX0_showingsWith_14 rfl rfl (fun hc hF => ?_) (fun hc hF => ?_) hF
    · skip
      refine jj_iload_n (j := 3) (i := 3) (pc' := 41) dX0_showingsWith_40 rfl rfl rfl ?_
      exact jj_retI (ty := .int) rfl rfl dX0_showingsWith_41 ⟨Nat.le_of_ble_eq_true rfl, Nat.le_of_ble_eq_true rfl⟩ hF
    · skip
      refine jj_aload_n (j := 0) (i := 0) (pc' := 18) dX0_showingsWith_17 rfl rfl rfl ?_
      refine jj_gR (C := RX0) (T := TX0) (N := 10) (ci := 0) (k := 3) (pc' := 21) dX0_showingsWith_18 rfl rfl inX0 (by decide) qw_18 hF (fun r103 hF => ?_)
      refine jj_iload (j := 4) (i := 4) (pc' := 23) dX0_showingsWith_21 rfl rfl ?_
      refine jj_iload_n (j := 1) (i := 1) (pc' := 24) dX0_showingsWith_23 rfl rfl rfl ?_
      refine jj_cI (N := M_X2_at) (kc' := 0) (ks' := 0) (pc' := 27) (jg_V (N := M_X2_at) (ci := 2) (rest := []) (as := [.int x4, .int x1]) cf_X0_60 dX0_showingsWith_24 ⟨rfl, rfl⟩ rfl rfl ⟨Nat.le_of_ble_eq_true rfl, Nat.le_of_ble_eq_true rfl⟩ ⟨Nat.le_of_ble_eq_true rfl, Nat.le_of_ble_eq_true rfl⟩ (Nat.le_of_ble_eq_true rfl) (fun X' hX => KX2_at hX)) rfl rfl rfl rfl ⟨Nat.le_of_ble_eq_true rfl, Nat.le_of_ble_eq_true rfl⟩ rfl hF (fun x105 h104 hF => ?_)
      refine jj_iload_n (j := 2) (i := 2) (pc' := 28) dX0_showingsWith_27 rfl rfl rfl ?_
      refine jj_icmp_ne (tgt := 34) (pc' := 31) dX0_showingsWith_28 rfl rfl (fun hc hF => ?_) (fun hc hF => ?_) hF
      · skip
        refine jj_iinc (i := 4) (j := 4) (v := x4 + (1 : Int32)) (ls' := [(4, .int (x4 + (1 : Int32))), (0, .ref a0), (1, .int x1), (2, .int x2), (3, .int x3)]) (pc' := 37) dX0_showingsWith_34 rfl rfl (Nat.le_of_ble_eq_true rfl) rfl rfl ?_
        refine jj_goto (tgt := 5) dX0_showingsWith_37 rfl ?_
        exact jj_pick [1, 2, 3, 4, 0] rfl (ih a0 x1 x2 x3 (x4 + (1 : Int32)) h104 _ hF)
      · skip
        refine jj_iinc (i := 3) (j := 3) (v := x3 + (1 : Int32)) (ls' := [(3, .int (x3 + (1 : Int32))), (0, .ref a0), (1, .int x1), (2, .int x2), (4, .int x4)]) (pc' := 34) dX0_showingsWith_31 rfl rfl (Nat.le_of_ble_eq_true rfl) rfl rfl ?_
        refine jj_iinc (i := 4) (j := 4) (v := x4 + (1 : Int32)) (ls' := [(4, .int (x4 + (1 : Int32))), (3, .int (x3 + (1 : Int32))), (0, .ref a0), (1, .int x1), (2, .int x2)]) (pc' := 37) dX0_showingsWith_34 rfl rfl (Nat.le_of_ble_eq_true rfl) rfl rfl ?_
        refine jj_goto (tgt := 5) dX0_showingsWith_37 rfl ?_
        exact jj_pick [2, 3, 4, 1, 0] rfl (ih a0 x1 x2 (x3 + (1 : Int32)) (x4 + (1 : Int32)) h104 _ hF)
set_option maxRecDepth 100000 in
set_option maxHeartbeats 4000000 in
theorem JX0_showingsWith {N : Nat} {a0 : Nat} {x1 : Int32} {x2 : Int32} {h : jm_H} {X : jm_X} (hF : FX0_showingsWith N a0 x1 x2 h = some X) : jm_J M_X0_showingsWith 0 [(0, .ref a0), (1, .int x1), (2, .int x2)] [] h 0 0 X := by
  unfold FX0_showingsWith at hF
  refine jj_iconst (v := (0 : Int32)) (pc' := 1) dX0_showingsWith_0 rfl rfl ?_
  refine jj_istore_n (i := 3) (ls' := [(3, .int ((0 : Int32))), (0, .ref a0), (1, .int x1), (2, .int x2)]) (pc' := 2) dX0_showingsWith_1 rfl (Nat.le_of_ble_eq_true rfl) rfl rfl ?_
  refine jj_iconst (v := (0 : Int32)) (pc' := 3) dX0_showingsWith_2 rfl rfl ?_
  refine jj_istore (i := 4) (ls' := [(4, .int ((0 : Int32))), (3, .int ((0 : Int32))), (0, .ref a0), (1, .int x1), (2, .int x2)]) (pc' := 5) dX0_showingsWith_3 (Nat.le_of_ble_eq_true rfl) rfl rfl ?_
  exact jj_pick [2, 3, 4, 1, 0] rfl (BX0_showingsWith_5 N N a0 x1 x2 ((0 : Int32)) ((0 : Int32)) h _ hF)
theorem KX0_showingsWith {N : Nat} {a0 : Nat} {x1 : Int32} {x2 : Int32} {h : jm_H} {X : jm_X} (hF : FX0_showingsWith N a0 x1 x2 h = some X) : jm_K M_X0_showingsWith [.ref a0, .int x1, .int x2] h X := jk_of rfl (by decide +kernel) rfl rfl (Nat.le_of_ble_eq_true rfl) (JX0_showingsWith hF)
set_option maxRecDepth 100000 in
set_option maxHeartbeats 4000000 in
theorem BX0_seatsFor_4 (N : Nat) : ∀ (n : Nat) (a0 : Nat) (x1 : Int32) (x2 : Int32) (x3 : Int32) (h : jm_H) (X : jm_X), FX0_seatsFor_4 N n a0 x1 x2 x3 h = some X → jm_J M_X0_seatsFor 4 [(0, .ref a0), (1, .int x1), (2, .int x2), (3, .int x3)] [] h 0 0 X := by
  intro n
  induction n with
  | zero =>
    intro a0 x1 x2 x3 h X hF
    exact nomatch (show (none : Option jm_X) = some X from hF)
  | succ n ih =>
    intro a0 x1 x2 x3 h X hF
    rw [FX0_seatsFor_4] at hF
    refine jj_iload_n (j := 3) (i := 3) (pc' := 5) dX0_seatsFor_4 rfl rfl rfl ?_
    refine jj_aload_n (j := 0) (i := 0) (pc' := 6) dX0_seatsFor_5 rfl rfl rfl ?_
    refine jj_gR (C := RX0) (T := TX0) (N := 10) (ci := 0) (k := 3) (pc' := 9) dX0_seatsFor_6 rfl rfl inX0 (by decide) qw_18 hF (fun r101 hF => ?_)
    refine jj_gI (C := RX2) (T := TX2) (N := 3) (ci := 2) (k := 2) (pc' := 12) dX0_seatsFor_9 rfl rfl inX2 (by decide) qw_47 hF (fun x102 hF => ?_)
    refine jj_icmp_ge (tgt := 54) (pc' := 15) dX0_seatsFor_12 rfl rfl (fun hc hF => ?_) (fun hc hF => ?_) hF
    · skip
      refine jj_iload_n (j := 2) (i := 2) (pc' := 55) dX0_seatsFor_54 rfl rfl rfl ?_
      exact jj_retI (ty := .int) rfl rfl dX0_seatsFor_55 ⟨Nat.le_of_ble_eq_true rfl, Nat.le_of_ble_eq_true rfl⟩ hF
    · skip
      refine jj_aload_n (j := 0) (i := 0) (pc' := 16) dX0_seatsFor_15 rfl rfl rfl ?_
      refine jj_gR (C := RX0) (T := TX0) (N := 10) (ci := 0) (k := 3) (pc' := 19) dX0_seatsFor_16 rfl rfl inX0 (by decide) qw_18 hF (fun r103 hF => ?_)
      refine jj_iload_n (j := 3) (i := 3) (pc' := 20) dX0_seatsFor_19 rfl rfl rfl ?_
      refine jj_iconst (v := (0 : Int32)) (pc' := 21) dX0_seatsFor_20 rfl rfl ?_
      refine jj_cI (N := M_X2_at) (kc' := 0) (ks' := 0) (pc' := 24) (jg_V (N := M_X2_at) (ci := 2) (rest := []) (as := [.int x3, .int ((0 : Int32))]) cf_X0_60 dX0_seatsFor_21 ⟨rfl, rfl⟩ rfl rfl ⟨Nat.le_of_ble_eq_true rfl, Nat.le_of_ble_eq_true rfl⟩ ⟨Nat.le_of_ble_eq_true rfl, Nat.le_of_ble_eq_true rfl⟩ (Nat.le_of_ble_eq_true rfl) (fun X' hX => KX2_at hX)) rfl rfl rfl rfl ⟨Nat.le_of_ble_eq_true rfl, Nat.le_of_ble_eq_true rfl⟩ rfl hF (fun x105 h104 hF => ?_)
      refine jj_iload_n (j := 1) (i := 1) (pc' := 25) dX0_seatsFor_24 rfl rfl rfl ?_
      refine jj_icmp_ne (tgt := 48) (pc' := 28) dX0_seatsFor_25 rfl rfl (fun hc hF => ?_) (fun hc hF => ?_) hF
      · skip
        refine jj_iinc (i := 3) (j := 3) (v := x3 + (1 : Int32)) (ls' := [(3, .int (x3 + (1 : Int32))), (0, .ref a0), (1, .int x1), (2, .int x2)]) (pc' := 51) dX0_seatsFor_48 rfl rfl (Nat.le_of_ble_eq_true rfl) rfl rfl ?_
        refine jj_goto (tgt := 4) dX0_seatsFor_51 rfl ?_
        exact jj_pick [1, 2, 3, 0] rfl (ih a0 x1 x2 (x3 + (1 : Int32)) h104 _ hF)
      · skip
        refine jj_iload_n (j := 2) (i := 2) (pc' := 29) dX0_seatsFor_28 rfl rfl rfl ?_
        refine jj_aload_n (j := 0) (i := 0) (pc' := 30) dX0_seatsFor_29 rfl rfl rfl ?_
        refine jj_gR (C := RX0) (T := TX0) (N := 10) (ci := 0) (k := 1) (pc' := 33) dX0_seatsFor_30 rfl rfl inX0 (by decide) qw_16 hF (fun r106 hF => ?_)
        refine jj_aload_n (j := 0) (i := 0) (pc' := 34) dX0_seatsFor_33 rfl rfl rfl ?_
        refine jj_gR (C := RX0) (T := TX0) (N := 10) (ci := 0) (k := 3) (pc' := 37) dX0_seatsFor_34 rfl rfl inX0 (by decide) qw_18 hF (fun r107 hF => ?_)
        refine jj_iload_n (j := 3) (i := 3) (pc' := 38) dX0_seatsFor_37 rfl rfl rfl ?_
        refine jj_iconst (v := (1 : Int32)) (pc' := 39) dX0_seatsFor_38 rfl rfl ?_
        refine jj_cI (N := M_X2_at) (kc' := 0) (ks' := 0) (pc' := 42) (jg_V (N := M_X2_at) (ci := 2) (rest := [.ref r106, .int x2]) (as := [.int x3, .int ((1 : Int32))]) cf_X0_60 dX0_seatsFor_39 ⟨rfl, rfl⟩ rfl rfl ⟨Nat.le_of_ble_eq_true rfl, Nat.le_of_ble_eq_true rfl⟩ ⟨Nat.le_of_ble_eq_true rfl, Nat.le_of_ble_eq_true rfl⟩ (Nat.le_of_ble_eq_true rfl) (fun X' hX => KX2_at hX)) rfl rfl rfl rfl ⟨Nat.le_of_ble_eq_true rfl, Nat.le_of_ble_eq_true rfl⟩ rfl hF (fun x109 h108 hF => ?_)
        refine jj_iconst (v := (0 : Int32)) (pc' := 43) dX0_seatsFor_42 rfl rfl ?_
        refine jj_cI (N := M_X2_at) (kc' := 0) (ks' := 0) (pc' := 46) (jg_V (N := M_X2_at) (ci := 2) (rest := [.int x2]) (as := [.int x109, .int ((0 : Int32))]) cf_X0_60 dX0_seatsFor_43 ⟨rfl, rfl⟩ rfl rfl ⟨Nat.le_of_ble_eq_true rfl, Nat.le_of_ble_eq_true rfl⟩ ⟨Nat.le_of_ble_eq_true rfl, Nat.le_of_ble_eq_true rfl⟩ (Nat.le_of_ble_eq_true rfl) (fun X' hX => KX2_at hX)) rfl rfl rfl rfl ⟨Nat.le_of_ble_eq_true rfl, Nat.le_of_ble_eq_true rfl⟩ rfl hF (fun x111 h110 hF => ?_)
        refine jj_iadd (pc' := 47) dX0_seatsFor_46 rfl ?_
        refine jj_istore_n (i := 2) (ls' := [(2, .int (x2 + x111)), (0, .ref a0), (1, .int x1), (3, .int x3)]) (pc' := 48) dX0_seatsFor_47 rfl (Nat.le_of_ble_eq_true rfl) rfl rfl ?_
        refine jj_iinc (i := 3) (j := 3) (v := x3 + (1 : Int32)) (ls' := [(3, .int (x3 + (1 : Int32))), (2, .int (x2 + x111)), (0, .ref a0), (1, .int x1)]) (pc' := 51) dX0_seatsFor_48 rfl rfl (Nat.le_of_ble_eq_true rfl) rfl rfl ?_
        refine jj_goto (tgt := 4) dX0_seatsFor_51 rfl ?_
        exact jj_pick [2, 3, 1, 0] rfl (ih a0 x1 (x2 + x111) (x3 + (1 : Int32)) h110 _ hF)
set_option maxRecDepth 100000 in
set_option maxHeartbeats 4000000 in
theorem JX0_seatsFor {N : Nat} {a0 : Nat} {x1 : Int32} {h : jm_H} {X : jm_X} (hF : FX0_seatsFor N a0 x1 h = some X) : jm_J M_X0_seatsFor 0 [(0, .ref a0), (1, .int x1)] [] h 0 0 X := by
  unfold FX0_seatsFor at hF
  refine jj_iconst (v := (0 : Int32)) (pc' := 1) dX0_seatsFor_0 rfl rfl ?_
  refine jj_istore_n (i := 2) (ls' := [(2, .int ((0 : Int32))), (0, .ref a0), (1, .int x1)]) (pc' := 2) dX0_seatsFor_1 rfl (Nat.le_of_ble_eq_true rfl) rfl rfl ?_
  refine jj_iconst (v := (0 : Int32)) (pc' := 3) dX0_seatsFor_2 rfl rfl ?_
  refine jj_istore_n (i := 3) (ls' := [(3, .int ((0 : Int32))), (2, .int ((0 : Int32))), (0, .ref a0), (1, .int x1)]) (pc' := 4) dX0_seatsFor_3 rfl (Nat.le_of_ble_eq_true rfl) rfl rfl ?_
  exact jj_pick [2, 3, 1, 0] rfl (BX0_seatsFor_4 N N a0 x1 ((0 : Int32)) ((0 : Int32)) h _ hF)
theorem KX0_seatsFor {N : Nat} {a0 : Nat} {x1 : Int32} {h : jm_H} {X : jm_X} (hF : FX0_seatsFor N a0 x1 h = some X) : jm_K M_X0_seatsFor [.ref a0, .int x1] h X := jk_of rfl (by decide +kernel) rfl rfl (Nat.le_of_ble_eq_true rfl) (JX0_seatsFor hF)
set_option maxRecDepth 100000 in
set_option maxHeartbeats 4000000 in
theorem BX0_pointsOf_11 (N : Nat) : ∀ (n : Nat) (a0 : Nat) (x1 : Int32) (x2 : Int32) (x3 : Int32) (x4 : Int32) (h : jm_H) (X : jm_X), FX0_pointsOf_11 N n a0 x1 x2 x3 x4 h = some X → jm_J M_X0_pointsOf 11 [(0, .ref a0), (1, .int x1), (2, .int x2), (3, .int x3), (4, .int x4)] [] h 0 0 X := by
  intro n
  induction n with
  | zero =>
    intro a0 x1 x2 x3 x4 h X hF
    exact nomatch (show (none : Option jm_X) = some X from hF)
  | succ n ih =>
    intro a0 x1 x2 x3 x4 h X hF
    rw [FX0_pointsOf_11] at hF
    refine jj_iload (j := 4) (i := 4) (pc' := 13) dX0_pointsOf_11 rfl rfl ?_
    refine jj_iconst (v := (3 : Int32)) (pc' := 14) dX0_pointsOf_13 rfl rfl ?_
    refine jj_icmp_ge (tgt := 45) (pc' := 17) dX0_pointsOf_14 rfl rfl (fun hc hF => ?_) (fun hc hF => ?_) hF
    · skip
      refine jj_iload_n (j := 3) (i := 3) (pc' := 46) dX0_pointsOf_45 rfl rfl rfl ?_
      exact jj_retI (ty := .int) rfl rfl dX0_pointsOf_46 ⟨Nat.le_of_ble_eq_true rfl, Nat.le_of_ble_eq_true rfl⟩ hF
    · skip
      refine jj_iload_n (j := 2) (i := 2) (pc' := 18) dX0_pointsOf_17 rfl rfl rfl ?_
      refine jj_iload (j := 4) (i := 4) (pc' := 20) dX0_pointsOf_18 rfl rfl ?_
      refine jj_nS (N := M_X3_hasBit) (as := [.int x2, .int x4]) (rest := []) (kc' := 0) (ks' := 0) (pc' := 23) cf_X0_84 dX0_pointsOf_20 rfl rfl ⟨Nat.le_of_ble_eq_true rfl, Nat.le_of_ble_eq_true rfl⟩ ⟨Nat.le_of_ble_eq_true rfl, Nat.le_of_ble_eq_true rfl⟩ (Nat.le_of_ble_eq_true rfl) (fun X' hX => KX3_hasBit hX) rfl rfl rfl rfl hF (fun x102 h101 hF => ?_)
      refine jj_if_eq (tgt := 39) (pc' := 26) dX0_pointsOf_23 rfl rfl (fun hc hF => ?_) (fun hc hF => ?_) hF
      · skip
        refine jj_iinc (i := 4) (j := 4) (v := x4 + (1 : Int32)) (ls' := [(4, .int (x4 + (1 : Int32))), (0, .ref a0), (1, .int x1), (2, .int x2), (3, .int x3)]) (pc' := 42) dX0_pointsOf_39 rfl rfl (Nat.le_of_ble_eq_true rfl) rfl rfl ?_
        refine jj_goto (tgt := 11) dX0_pointsOf_42 rfl ?_
        exact jj_pick [1, 2, 3, 4, 0] rfl (ih a0 x1 x2 x3 (x4 + (1 : Int32)) h101 _ hF)
      · skip
        refine jj_iload_n (j := 3) (i := 3) (pc' := 27) dX0_pointsOf_26 rfl rfl rfl ?_
        refine jj_aload_n (j := 0) (i := 0) (pc' := 28) dX0_pointsOf_27 rfl rfl rfl ?_
        refine jj_gR (C := RX0) (T := TX0) (N := 10) (ci := 0) (k := 5) (pc' := 31) dX0_pointsOf_28 rfl rfl inX0 (by decide) qw_20 hF (fun r103 hF => ?_)
        refine jj_iload (j := 4) (i := 4) (pc' := 33) dX0_pointsOf_31 rfl rfl ?_
        refine jj_iload_n (j := 1) (i := 1) (pc' := 34) dX0_pointsOf_33 rfl rfl rfl ?_
        refine jj_cI (N := M_X2_at) (kc' := 0) (ks' := 0) (pc' := 37) (jg_V (N := M_X2_at) (ci := 2) (rest := [.int x3]) (as := [.int x4, .int x1]) cf_X0_60 dX0_pointsOf_34 ⟨rfl, rfl⟩ rfl rfl ⟨Nat.le_of_ble_eq_true rfl, Nat.le_of_ble_eq_true rfl⟩ ⟨Nat.le_of_ble_eq_true rfl, Nat.le_of_ble_eq_true rfl⟩ (Nat.le_of_ble_eq_true rfl) (fun X' hX => KX2_at hX)) rfl rfl rfl rfl ⟨Nat.le_of_ble_eq_true rfl, Nat.le_of_ble_eq_true rfl⟩ rfl hF (fun x105 h104 hF => ?_)
        refine jj_iadd (pc' := 38) dX0_pointsOf_37 rfl ?_
        refine jj_istore_n (i := 3) (ls' := [(3, .int (x3 + x105)), (0, .ref a0), (1, .int x1), (2, .int x2), (4, .int x4)]) (pc' := 39) dX0_pointsOf_38 rfl (Nat.le_of_ble_eq_true rfl) rfl rfl ?_
        refine jj_iinc (i := 4) (j := 4) (v := x4 + (1 : Int32)) (ls' := [(4, .int (x4 + (1 : Int32))), (3, .int (x3 + x105)), (0, .ref a0), (1, .int x1), (2, .int x2)]) (pc' := 42) dX0_pointsOf_39 rfl rfl (Nat.le_of_ble_eq_true rfl) rfl rfl ?_
        refine jj_goto (tgt := 11) dX0_pointsOf_42 rfl ?_
        exact jj_pick [2, 3, 4, 1, 0] rfl (ih a0 x1 x2 (x3 + x105) (x4 + (1 : Int32)) h104 _ hF)
set_option maxRecDepth 100000 in
set_option maxHeartbeats 4000000 in
theorem JX0_pointsOf {N : Nat} {a0 : Nat} {x1 : Int32} {h : jm_H} {X : jm_X} (hF : FX0_pointsOf N a0 x1 h = some X) : jm_J M_X0_pointsOf 0 [(0, .ref a0), (1, .int x1)] [] h 0 0 X := by
  unfold FX0_pointsOf at hF
  refine jj_aload_n (j := 0) (i := 0) (pc' := 1) dX0_pointsOf_0 rfl rfl rfl ?_
  refine jj_iload_n (j := 1) (i := 1) (pc' := 2) dX0_pointsOf_1 rfl rfl rfl ?_
  refine jj_cI (N := M_X0_seenBy) (kc' := 0) (ks' := 0) (pc' := 5) (jg_V (N := M_X0_seenBy) (ci := 0) (rest := []) (as := [.int x1]) cf_X0_133 dX0_pointsOf_2 ⟨rfl, rfl⟩ rfl rfl ⟨Nat.le_of_ble_eq_true rfl, Nat.le_of_ble_eq_true rfl⟩ ⟨Nat.le_of_ble_eq_true rfl, Nat.le_of_ble_eq_true rfl⟩ (Nat.le_of_ble_eq_true rfl) (fun X' hX => KX0_seenBy hX)) rfl rfl rfl rfl ⟨Nat.le_of_ble_eq_true rfl, Nat.le_of_ble_eq_true rfl⟩ rfl hF (fun x102 h101 hF => ?_)
  refine jj_istore_n (i := 2) (ls' := [(2, .int x102), (0, .ref a0), (1, .int x1)]) (pc' := 6) dX0_pointsOf_5 rfl (Nat.le_of_ble_eq_true rfl) rfl rfl ?_
  refine jj_iconst (v := (0 : Int32)) (pc' := 7) dX0_pointsOf_6 rfl rfl ?_
  refine jj_istore_n (i := 3) (ls' := [(3, .int ((0 : Int32))), (2, .int x102), (0, .ref a0), (1, .int x1)]) (pc' := 8) dX0_pointsOf_7 rfl (Nat.le_of_ble_eq_true rfl) rfl rfl ?_
  refine jj_iconst (v := (0 : Int32)) (pc' := 9) dX0_pointsOf_8 rfl rfl ?_
  refine jj_istore (i := 4) (ls' := [(4, .int ((0 : Int32))), (3, .int ((0 : Int32))), (2, .int x102), (0, .ref a0), (1, .int x1)]) (pc' := 11) dX0_pointsOf_9 (Nat.le_of_ble_eq_true rfl) rfl rfl ?_
  exact jj_pick [3, 4, 2, 1, 0] rfl (BX0_pointsOf_11 N N a0 x1 x102 ((0 : Int32)) ((0 : Int32)) h101 _ hF)
theorem KX0_pointsOf {N : Nat} {a0 : Nat} {x1 : Int32} {h : jm_H} {X : jm_X} (hF : FX0_pointsOf N a0 x1 h = some X) : jm_K M_X0_pointsOf [.ref a0, .int x1] h X := jk_of rfl (by decide +kernel) rfl rfl (Nat.le_of_ble_eq_true rfl) (JX0_pointsOf hF)
set_option maxRecDepth 100000 in
set_option maxHeartbeats 4000000 in
theorem JX0_filmNumber {N : Nat} {a0 : Nat} {x1 : Int32} {x2 : Int32} {h : jm_H} {X : jm_X} (hF : FX0_filmNumber N a0 x1 x2 h = some X) : jm_J M_X0_filmNumber 0 [(0, .ref a0), (1, .int x1), (2, .int x2)] [] h 0 0 X := by
  unfold FX0_filmNumber at hF
  refine jj_iload_n (j := 2) (i := 2) (pc' := 1) dX0_filmNumber_0 rfl rfl rfl ?_
  refine jj_table (N := 5) (lo := 0) (dt := 75) [36, 46, 56, 63, 69] dX0_filmNumber_1 ⟨by decide, by decide⟩ ⟨by decide, by decide, rfl, rfl⟩ (by decide) rfl ?_ (fun hF => ?_) hF
  · intro i b tg hb ht hx hF
    match i, hb, ht with
    | 0, hb, ht =>
      cases hb; cases ht
      refine jj_aload_n (j := 0) (i := 0) (pc' := 37) dX0_filmNumber_36 rfl rfl rfl ?_
      refine jj_gR (C := RX0) (T := TX0) (N := 10) (ci := 0) (k := 0) (pc' := 40) dX0_filmNumber_37 rfl rfl inX0 (by decide) qw_15 hF (fun r101 hF => ?_)
      refine jj_iload_n (j := 1) (i := 1) (pc' := 41) dX0_filmNumber_40 rfl rfl rfl ?_
      refine jj_iconst (v := (0 : Int32)) (pc' := 42) dX0_filmNumber_41 rfl rfl ?_
      refine jj_cI (N := M_X2_at) (kc' := 0) (ks' := 0) (pc' := 45) (jg_V (N := M_X2_at) (ci := 2) (rest := []) (as := [.int x1, .int ((0 : Int32))]) cf_X0_60 dX0_filmNumber_42 ⟨rfl, rfl⟩ rfl rfl ⟨Nat.le_of_ble_eq_true rfl, Nat.le_of_ble_eq_true rfl⟩ ⟨Nat.le_of_ble_eq_true rfl, Nat.le_of_ble_eq_true rfl⟩ (Nat.le_of_ble_eq_true rfl) (fun X' hX => KX2_at hX)) rfl rfl rfl rfl ⟨Nat.le_of_ble_eq_true rfl, Nat.le_of_ble_eq_true rfl⟩ rfl hF (fun x103 h102 hF => ?_)
      exact jj_retI (ty := .int) rfl rfl dX0_filmNumber_45 ⟨Nat.le_of_ble_eq_true rfl, Nat.le_of_ble_eq_true rfl⟩ hF
    | 1, hb, ht =>
      cases hb; cases ht
      refine jj_aload_n (j := 0) (i := 0) (pc' := 47) dX0_filmNumber_46 rfl rfl rfl ?_
      refine jj_gR (C := RX0) (T := TX0) (N := 10) (ci := 0) (k := 0) (pc' := 50) dX0_filmNumber_47 rfl rfl inX0 (by decide) qw_15 hF (fun r104 hF => ?_)
      refine jj_iload_n (j := 1) (i := 1) (pc' := 51) dX0_filmNumber_50 rfl rfl rfl ?_
      refine jj_iconst (v := (1 : Int32)) (pc' := 52) dX0_filmNumber_51 rfl rfl ?_
      refine jj_cI (N := M_X2_at) (kc' := 0) (ks' := 0) (pc' := 55) (jg_V (N := M_X2_at) (ci := 2) (rest := []) (as := [.int x1, .int ((1 : Int32))]) cf_X0_60 dX0_filmNumber_52 ⟨rfl, rfl⟩ rfl rfl ⟨Nat.le_of_ble_eq_true rfl, Nat.le_of_ble_eq_true rfl⟩ ⟨Nat.le_of_ble_eq_true rfl, Nat.le_of_ble_eq_true rfl⟩ (Nat.le_of_ble_eq_true rfl) (fun X' hX => KX2_at hX)) rfl rfl rfl rfl ⟨Nat.le_of_ble_eq_true rfl, Nat.le_of_ble_eq_true rfl⟩ rfl hF (fun x106 h105 hF => ?_)
      exact jj_retI (ty := .int) rfl rfl dX0_filmNumber_55 ⟨Nat.le_of_ble_eq_true rfl, Nat.le_of_ble_eq_true rfl⟩ hF
    | 2, hb, ht =>
      cases hb; cases ht
      refine jj_aload_n (j := 0) (i := 0) (pc' := 57) dX0_filmNumber_56 rfl rfl rfl ?_
      refine jj_iconst (v := (0 : Int32)) (pc' := 58) dX0_filmNumber_57 rfl rfl ?_
      refine jj_iload_n (j := 1) (i := 1) (pc' := 59) dX0_filmNumber_58 rfl rfl rfl ?_
      refine jj_cI (N := M_X0_showingsWith) (kc' := 0) (ks' := 0) (pc' := 62) (jg_V (N := M_X0_showingsWith) (ci := 0) (rest := []) (as := [.int ((0 : Int32)), .int x1]) cf_X0_139 dX0_filmNumber_59 ⟨rfl, rfl⟩ rfl rfl ⟨Nat.le_of_ble_eq_true rfl, Nat.le_of_ble_eq_true rfl⟩ ⟨Nat.le_of_ble_eq_true rfl, Nat.le_of_ble_eq_true rfl⟩ (Nat.le_of_ble_eq_true rfl) (fun X' hX => KX0_showingsWith hX)) rfl rfl rfl rfl ⟨Nat.le_of_ble_eq_true rfl, Nat.le_of_ble_eq_true rfl⟩ rfl hF (fun x108 h107 hF => ?_)
      exact jj_retI (ty := .int) rfl rfl dX0_filmNumber_62 ⟨Nat.le_of_ble_eq_true rfl, Nat.le_of_ble_eq_true rfl⟩ hF
    | 3, hb, ht =>
      cases hb; cases ht
      refine jj_aload_n (j := 0) (i := 0) (pc' := 64) dX0_filmNumber_63 rfl rfl rfl ?_
      refine jj_iload_n (j := 1) (i := 1) (pc' := 65) dX0_filmNumber_64 rfl rfl rfl ?_
      refine jj_cI (N := M_X0_seatsFor) (kc' := 0) (ks' := 0) (pc' := 68) (jg_V (N := M_X0_seatsFor) (ci := 0) (rest := []) (as := [.int x1]) cf_X0_142 dX0_filmNumber_65 ⟨rfl, rfl⟩ rfl rfl ⟨Nat.le_of_ble_eq_true rfl, Nat.le_of_ble_eq_true rfl⟩ ⟨Nat.le_of_ble_eq_true rfl, Nat.le_of_ble_eq_true rfl⟩ (Nat.le_of_ble_eq_true rfl) (fun X' hX => KX0_seatsFor hX)) rfl rfl rfl rfl ⟨Nat.le_of_ble_eq_true rfl, Nat.le_of_ble_eq_true rfl⟩ rfl hF (fun x110 h109 hF => ?_)
      exact jj_retI (ty := .int) rfl rfl dX0_filmNumber_68 ⟨Nat.le_of_ble_eq_true rfl, Nat.le_of_ble_eq_true rfl⟩ hF
    | 4, hb, ht =>
      cases hb; cases ht
      refine jj_aload_n (j := 0) (i := 0) (pc' := 70) dX0_filmNumber_69 rfl rfl rfl ?_
      refine jj_iload_n (j := 1) (i := 1) (pc' := 71) dX0_filmNumber_70 rfl rfl rfl ?_
      refine jj_cI (N := M_X0_seenBy) (kc' := 0) (ks' := 0) (pc' := 74) (jg_V (N := M_X0_seenBy) (ci := 0) (rest := []) (as := [.int x1]) cf_X0_133 dX0_filmNumber_71 ⟨rfl, rfl⟩ rfl rfl ⟨Nat.le_of_ble_eq_true rfl, Nat.le_of_ble_eq_true rfl⟩ ⟨Nat.le_of_ble_eq_true rfl, Nat.le_of_ble_eq_true rfl⟩ (Nat.le_of_ble_eq_true rfl) (fun X' hX => KX0_seenBy hX)) rfl rfl rfl rfl ⟨Nat.le_of_ble_eq_true rfl, Nat.le_of_ble_eq_true rfl⟩ rfl hF (fun x112 h111 hF => ?_)
      exact jj_retI (ty := .int) rfl rfl dX0_filmNumber_74 ⟨Nat.le_of_ble_eq_true rfl, Nat.le_of_ble_eq_true rfl⟩ hF
    | i + 5, hb, ht => exact nomatch (show (none : Option (Option jm_X)) = some b from hb)
  · skip
    refine jj_aload_n (j := 0) (i := 0) (pc' := 76) dX0_filmNumber_75 rfl rfl rfl ?_
    refine jj_iload_n (j := 1) (i := 1) (pc' := 77) dX0_filmNumber_76 rfl rfl rfl ?_
    refine jj_cI (N := M_X0_pointsOf) (kc' := 0) (ks' := 0) (pc' := 80) (jg_V (N := M_X0_pointsOf) (ci := 0) (rest := []) (as := [.int x1]) cf_X0_136 dX0_filmNumber_77 ⟨rfl, rfl⟩ rfl rfl ⟨Nat.le_of_ble_eq_true rfl, Nat.le_of_ble_eq_true rfl⟩ ⟨Nat.le_of_ble_eq_true rfl, Nat.le_of_ble_eq_true rfl⟩ (Nat.le_of_ble_eq_true rfl) (fun X' hX => KX0_pointsOf hX)) rfl rfl rfl rfl ⟨Nat.le_of_ble_eq_true rfl, Nat.le_of_ble_eq_true rfl⟩ rfl hF (fun x114 h113 hF => ?_)
    exact jj_retI (ty := .int) rfl rfl dX0_filmNumber_80 ⟨Nat.le_of_ble_eq_true rfl, Nat.le_of_ble_eq_true rfl⟩ hF
theorem KX0_filmNumber {N : Nat} {a0 : Nat} {x1 : Int32} {x2 : Int32} {h : jm_H} {X : jm_X} (hF : FX0_filmNumber N a0 x1 x2 h = some X) : jm_K M_X0_filmNumber [.ref a0, .int x1, .int x2] h X := jk_of rfl (by decide +kernel) rfl rfl (Nat.le_of_ble_eq_true rfl) (JX0_filmNumber hF)
set_option maxRecDepth 100000 in
set_option maxHeartbeats 4000000 in
theorem JX3_filmOf {N : Nat} {a0 : Nat} {x1 : Int32} {x2 : Int32} {h : jm_H} {X : jm_X} (hF : FX3_filmOf N a0 x1 x2 h = some X) : jm_J M_X3_filmOf 0 [(0, .ref a0), (1, .int x1), (2, .int x2)] [] h 0 0 X := by
  unfold FX3_filmOf at hF
  refine jj_aload_n (j := 0) (i := 0) (pc' := 1) dX3_filmOf_0 rfl rfl rfl ?_
  refine jj_iload_n (j := 1) (i := 1) (pc' := 2) dX3_filmOf_1 rfl rfl rfl ?_
  refine jj_cV (N := M_X3_requireFilm) (kc' := 1) (ks' := 6) (pc' := 5) (jg_V (N := M_X3_requireFilm) (ci := 3) (rest := []) (as := [.int x1]) cf_X3_85 dX3_filmOf_2 ⟨rfl, rfl⟩ rfl rfl ⟨Nat.le_of_ble_eq_true rfl, Nat.le_of_ble_eq_true rfl⟩ ⟨Nat.le_of_ble_eq_true rfl, Nat.le_of_ble_eq_true rfl⟩ (Nat.le_of_ble_eq_true rfl) (fun X' hX => KX3_requireFilm hX)) rfl rfl rfl rfl ⟨Nat.le_of_ble_eq_true rfl, Nat.le_of_ble_eq_true rfl⟩ rfl hF (fun h101 hF => ?_)
  refine jj_iload_n (j := 2) (i := 2) (pc' := 6) dX3_filmOf_5 rfl rfl rfl ?_
  refine jj_iconst (v := (5 : Int32)) (pc' := 7) dX3_filmOf_6 rfl rfl ?_
  refine jj_cV (N := M_X3_requireWhat) (kc' := 2) (ks' := 12) (pc' := 10) (jg_S (N := M_X3_requireWhat) (rest := []) (as := [.int x2, .int ((5 : Int32))]) cf_X3_171 rfl dX3_filmOf_7 rfl rfl ⟨Nat.le_of_ble_eq_true rfl, Nat.le_of_ble_eq_true rfl⟩ ⟨Nat.le_of_ble_eq_true rfl, Nat.le_of_ble_eq_true rfl⟩ (Nat.le_of_ble_eq_true rfl) (fun X' hX => KX3_requireWhat hX)) rfl rfl rfl rfl ⟨Nat.le_of_ble_eq_true rfl, Nat.le_of_ble_eq_true rfl⟩ rfl hF (fun h102 hF => ?_)
  refine jj_aload_n (j := 0) (i := 0) (pc' := 11) dX3_filmOf_10 rfl rfl rfl ?_
  refine jj_gR (C := RX3) (T := TX3) (N := 8) (ci := 3) (k := 0) (pc' := 14) dX3_filmOf_11 rfl rfl inX3 (by decide) qw_29 hF (fun r103 hF => ?_)
  refine jj_iload_n (j := 1) (i := 1) (pc' := 15) dX3_filmOf_14 rfl rfl rfl ?_
  refine jj_iload_n (j := 2) (i := 2) (pc' := 16) dX3_filmOf_15 rfl rfl rfl ?_
  refine jj_cI (N := M_X0_filmNumber) (kc' := 2) (ks' := 12) (pc' := 19) (jg_V (N := M_X0_filmNumber) (ci := 0) (rest := []) (as := [.int x1, .int x2]) cf_X3_193 dX3_filmOf_16 ⟨rfl, rfl⟩ rfl rfl ⟨Nat.le_of_ble_eq_true rfl, Nat.le_of_ble_eq_true rfl⟩ ⟨Nat.le_of_ble_eq_true rfl, Nat.le_of_ble_eq_true rfl⟩ (Nat.le_of_ble_eq_true rfl) (fun X' hX => KX0_filmNumber hX)) rfl rfl rfl rfl ⟨Nat.le_of_ble_eq_true rfl, Nat.le_of_ble_eq_true rfl⟩ rfl hF (fun x105 h104 hF => ?_)
  exact jj_retI (ty := .int) rfl rfl dX3_filmOf_19 ⟨Nat.le_of_ble_eq_true rfl, Nat.le_of_ble_eq_true rfl⟩ hF
theorem KX3_filmOf {N : Nat} {a0 : Nat} {x1 : Int32} {x2 : Int32} {h : jm_H} {X : jm_X} (hF : FX3_filmOf N a0 x1 x2 h = some X) : jm_K M_X3_filmOf [.ref a0, .int x1, .int x2] h X := jk_of rfl (by decide +kernel) rfl rfl (Nat.le_of_ble_eq_true rfl) (JX3_filmOf hF)
set_option maxRecDepth 100000 in
set_option maxHeartbeats 4000000 in
theorem JX0_showingNumber {a0 : Nat} {x1 : Int32} {x2 : Int32} {h : jm_H} {X : jm_X} (hF : FX0_showingNumber a0 x1 x2 h = some X) : jm_J M_X0_showingNumber 0 [(0, .ref a0), (1, .int x1), (2, .int x2)] [] h 0 0 X := by
  unfold FX0_showingNumber at hF
  refine jj_iload_n (j := 2) (i := 2) (pc' := 1) dX0_showingNumber_0 rfl rfl rfl ?_
  refine jj_table (N := 5) (lo := 0) (dt := 82) [36, 46, 56, 66, 72] dX0_showingNumber_1 ⟨by decide, by decide⟩ ⟨by decide, by decide, rfl, rfl⟩ (by decide) rfl ?_ (fun hF => ?_) hF
  · intro i b tg hb ht hx hF
    match i, hb, ht with
    | 0, hb, ht =>
      cases hb; cases ht
      refine jj_aload_n (j := 0) (i := 0) (pc' := 37) dX0_showingNumber_36 rfl rfl rfl ?_
      refine jj_gR (C := RX0) (T := TX0) (N := 10) (ci := 0) (k := 3) (pc' := 40) dX0_showingNumber_37 rfl rfl inX0 (by decide) qw_18 hF (fun r101 hF => ?_)
      refine jj_iload_n (j := 1) (i := 1) (pc' := 41) dX0_showingNumber_40 rfl rfl rfl ?_
      refine jj_iconst (v := (0 : Int32)) (pc' := 42) dX0_showingNumber_41 rfl rfl ?_
      refine jj_cI (N := M_X2_at) (kc' := 0) (ks' := 0) (pc' := 45) (jg_V (N := M_X2_at) (ci := 2) (rest := []) (as := [.int x1, .int ((0 : Int32))]) cf_X0_60 dX0_showingNumber_42 ⟨rfl, rfl⟩ rfl rfl ⟨Nat.le_of_ble_eq_true rfl, Nat.le_of_ble_eq_true rfl⟩ ⟨Nat.le_of_ble_eq_true rfl, Nat.le_of_ble_eq_true rfl⟩ (Nat.le_of_ble_eq_true rfl) (fun X' hX => KX2_at hX)) rfl rfl rfl rfl ⟨Nat.le_of_ble_eq_true rfl, Nat.le_of_ble_eq_true rfl⟩ rfl hF (fun x103 h102 hF => ?_)
      exact jj_retI (ty := .int) rfl rfl dX0_showingNumber_45 ⟨Nat.le_of_ble_eq_true rfl, Nat.le_of_ble_eq_true rfl⟩ hF
    | 1, hb, ht =>
      cases hb; cases ht
      refine jj_aload_n (j := 0) (i := 0) (pc' := 47) dX0_showingNumber_46 rfl rfl rfl ?_
      refine jj_gR (C := RX0) (T := TX0) (N := 10) (ci := 0) (k := 3) (pc' := 50) dX0_showingNumber_47 rfl rfl inX0 (by decide) qw_18 hF (fun r104 hF => ?_)
      refine jj_iload_n (j := 1) (i := 1) (pc' := 51) dX0_showingNumber_50 rfl rfl rfl ?_
      refine jj_iconst (v := (1 : Int32)) (pc' := 52) dX0_showingNumber_51 rfl rfl ?_
      refine jj_cI (N := M_X2_at) (kc' := 0) (ks' := 0) (pc' := 55) (jg_V (N := M_X2_at) (ci := 2) (rest := []) (as := [.int x1, .int ((1 : Int32))]) cf_X0_60 dX0_showingNumber_52 ⟨rfl, rfl⟩ rfl rfl ⟨Nat.le_of_ble_eq_true rfl, Nat.le_of_ble_eq_true rfl⟩ ⟨Nat.le_of_ble_eq_true rfl, Nat.le_of_ble_eq_true rfl⟩ (Nat.le_of_ble_eq_true rfl) (fun X' hX => KX2_at hX)) rfl rfl rfl rfl ⟨Nat.le_of_ble_eq_true rfl, Nat.le_of_ble_eq_true rfl⟩ rfl hF (fun x106 h105 hF => ?_)
      exact jj_retI (ty := .int) rfl rfl dX0_showingNumber_55 ⟨Nat.le_of_ble_eq_true rfl, Nat.le_of_ble_eq_true rfl⟩ hF
    | 2, hb, ht =>
      cases hb; cases ht
      refine jj_aload_n (j := 0) (i := 0) (pc' := 57) dX0_showingNumber_56 rfl rfl rfl ?_
      refine jj_gR (C := RX0) (T := TX0) (N := 10) (ci := 0) (k := 3) (pc' := 60) dX0_showingNumber_57 rfl rfl inX0 (by decide) qw_18 hF (fun r107 hF => ?_)
      refine jj_iload_n (j := 1) (i := 1) (pc' := 61) dX0_showingNumber_60 rfl rfl rfl ?_
      refine jj_iconst (v := (2 : Int32)) (pc' := 62) dX0_showingNumber_61 rfl rfl ?_
      refine jj_cI (N := M_X2_at) (kc' := 0) (ks' := 0) (pc' := 65) (jg_V (N := M_X2_at) (ci := 2) (rest := []) (as := [.int x1, .int ((2 : Int32))]) cf_X0_60 dX0_showingNumber_62 ⟨rfl, rfl⟩ rfl rfl ⟨Nat.le_of_ble_eq_true rfl, Nat.le_of_ble_eq_true rfl⟩ ⟨Nat.le_of_ble_eq_true rfl, Nat.le_of_ble_eq_true rfl⟩ (Nat.le_of_ble_eq_true rfl) (fun X' hX => KX2_at hX)) rfl rfl rfl rfl ⟨Nat.le_of_ble_eq_true rfl, Nat.le_of_ble_eq_true rfl⟩ rfl hF (fun x109 h108 hF => ?_)
      exact jj_retI (ty := .int) rfl rfl dX0_showingNumber_65 ⟨Nat.le_of_ble_eq_true rfl, Nat.le_of_ble_eq_true rfl⟩ hF
    | 3, hb, ht =>
      cases hb; cases ht
      refine jj_aload_n (j := 0) (i := 0) (pc' := 67) dX0_showingNumber_66 rfl rfl rfl ?_
      refine jj_iload_n (j := 1) (i := 1) (pc' := 68) dX0_showingNumber_67 rfl rfl rfl ?_
      refine jj_cI (N := M_X0_endOf) (kc' := 0) (ks' := 0) (pc' := 71) (jg_V (N := M_X0_endOf) (ci := 0) (rest := []) (as := [.int x1]) cf_X0_87 dX0_showingNumber_68 ⟨rfl, rfl⟩ rfl rfl ⟨Nat.le_of_ble_eq_true rfl, Nat.le_of_ble_eq_true rfl⟩ ⟨Nat.le_of_ble_eq_true rfl, Nat.le_of_ble_eq_true rfl⟩ (Nat.le_of_ble_eq_true rfl) (fun X' hX => KX0_endOf hX)) rfl rfl rfl rfl ⟨Nat.le_of_ble_eq_true rfl, Nat.le_of_ble_eq_true rfl⟩ rfl hF (fun x111 h110 hF => ?_)
      exact jj_retI (ty := .int) rfl rfl dX0_showingNumber_71 ⟨Nat.le_of_ble_eq_true rfl, Nat.le_of_ble_eq_true rfl⟩ hF
    | 4, hb, ht =>
      cases hb; cases ht
      refine jj_aload_n (j := 0) (i := 0) (pc' := 73) dX0_showingNumber_72 rfl rfl rfl ?_
      refine jj_gR (C := RX0) (T := TX0) (N := 10) (ci := 0) (k := 3) (pc' := 76) dX0_showingNumber_73 rfl rfl inX0 (by decide) qw_18 hF (fun r112 hF => ?_)
      refine jj_iload_n (j := 1) (i := 1) (pc' := 77) dX0_showingNumber_76 rfl rfl rfl ?_
      refine jj_iconst (v := (3 : Int32)) (pc' := 78) dX0_showingNumber_77 rfl rfl ?_
      refine jj_cI (N := M_X2_at) (kc' := 0) (ks' := 0) (pc' := 81) (jg_V (N := M_X2_at) (ci := 2) (rest := []) (as := [.int x1, .int ((3 : Int32))]) cf_X0_60 dX0_showingNumber_78 ⟨rfl, rfl⟩ rfl rfl ⟨Nat.le_of_ble_eq_true rfl, Nat.le_of_ble_eq_true rfl⟩ ⟨Nat.le_of_ble_eq_true rfl, Nat.le_of_ble_eq_true rfl⟩ (Nat.le_of_ble_eq_true rfl) (fun X' hX => KX2_at hX)) rfl rfl rfl rfl ⟨Nat.le_of_ble_eq_true rfl, Nat.le_of_ble_eq_true rfl⟩ rfl hF (fun x114 h113 hF => ?_)
      exact jj_retI (ty := .int) rfl rfl dX0_showingNumber_81 ⟨Nat.le_of_ble_eq_true rfl, Nat.le_of_ble_eq_true rfl⟩ hF
    | i + 5, hb, ht => exact nomatch (show (none : Option (Option jm_X)) = some b from hb)
  · skip
    refine jj_aload_n (j := 0) (i := 0) (pc' := 83) dX0_showingNumber_82 rfl rfl rfl ?_
    refine jj_gR (C := RX0) (T := TX0) (N := 10) (ci := 0) (k := 3) (pc' := 86) dX0_showingNumber_83 rfl rfl inX0 (by decide) qw_18 hF (fun r115 hF => ?_)
    refine jj_iload_n (j := 1) (i := 1) (pc' := 87) dX0_showingNumber_86 rfl rfl rfl ?_
    refine jj_iconst (v := (4 : Int32)) (pc' := 88) dX0_showingNumber_87 rfl rfl ?_
    refine jj_cI (N := M_X2_at) (kc' := 0) (ks' := 0) (pc' := 91) (jg_V (N := M_X2_at) (ci := 2) (rest := []) (as := [.int x1, .int ((4 : Int32))]) cf_X0_60 dX0_showingNumber_88 ⟨rfl, rfl⟩ rfl rfl ⟨Nat.le_of_ble_eq_true rfl, Nat.le_of_ble_eq_true rfl⟩ ⟨Nat.le_of_ble_eq_true rfl, Nat.le_of_ble_eq_true rfl⟩ (Nat.le_of_ble_eq_true rfl) (fun X' hX => KX2_at hX)) rfl rfl rfl rfl ⟨Nat.le_of_ble_eq_true rfl, Nat.le_of_ble_eq_true rfl⟩ rfl hF (fun x117 h116 hF => ?_)
    exact jj_retI (ty := .int) rfl rfl dX0_showingNumber_91 ⟨Nat.le_of_ble_eq_true rfl, Nat.le_of_ble_eq_true rfl⟩ hF
theorem KX0_showingNumber {a0 : Nat} {x1 : Int32} {x2 : Int32} {h : jm_H} {X : jm_X} (hF : FX0_showingNumber a0 x1 x2 h = some X) : jm_K M_X0_showingNumber [.ref a0, .int x1, .int x2] h X := jk_of rfl (by decide +kernel) rfl rfl (Nat.le_of_ble_eq_true rfl) (JX0_showingNumber hF)
set_option maxRecDepth 100000 in
set_option maxHeartbeats 4000000 in
theorem JX3_showing {a0 : Nat} {x1 : Int32} {x2 : Int32} {h : jm_H} {X : jm_X} (hF : FX3_showing a0 x1 x2 h = some X) : jm_J M_X3_showing 0 [(0, .ref a0), (1, .int x1), (2, .int x2)] [] h 0 0 X := by
  unfold FX3_showing at hF
  refine jj_aload_n (j := 0) (i := 0) (pc' := 1) dX3_showing_0 rfl rfl rfl ?_
  refine jj_iload_n (j := 1) (i := 1) (pc' := 2) dX3_showing_1 rfl rfl rfl ?_
  refine jj_cV (N := M_X3_requireShowing) (kc' := 1) (ks' := 6) (pc' := 5) (jg_V (N := M_X3_requireShowing) (ci := 3) (rest := []) (as := [.int x1]) cf_X3_101 dX3_showing_2 ⟨rfl, rfl⟩ rfl rfl ⟨Nat.le_of_ble_eq_true rfl, Nat.le_of_ble_eq_true rfl⟩ ⟨Nat.le_of_ble_eq_true rfl, Nat.le_of_ble_eq_true rfl⟩ (Nat.le_of_ble_eq_true rfl) (fun X' hX => KX3_requireShowing hX)) rfl rfl rfl rfl ⟨Nat.le_of_ble_eq_true rfl, Nat.le_of_ble_eq_true rfl⟩ rfl hF (fun h101 hF => ?_)
  refine jj_iload_n (j := 2) (i := 2) (pc' := 6) dX3_showing_5 rfl rfl rfl ?_
  refine jj_iconst (v := (5 : Int32)) (pc' := 7) dX3_showing_6 rfl rfl ?_
  refine jj_cV (N := M_X3_requireWhat) (kc' := 2) (ks' := 12) (pc' := 10) (jg_S (N := M_X3_requireWhat) (rest := []) (as := [.int x2, .int ((5 : Int32))]) cf_X3_171 rfl dX3_showing_7 rfl rfl ⟨Nat.le_of_ble_eq_true rfl, Nat.le_of_ble_eq_true rfl⟩ ⟨Nat.le_of_ble_eq_true rfl, Nat.le_of_ble_eq_true rfl⟩ (Nat.le_of_ble_eq_true rfl) (fun X' hX => KX3_requireWhat hX)) rfl rfl rfl rfl ⟨Nat.le_of_ble_eq_true rfl, Nat.le_of_ble_eq_true rfl⟩ rfl hF (fun h102 hF => ?_)
  refine jj_aload_n (j := 0) (i := 0) (pc' := 11) dX3_showing_10 rfl rfl rfl ?_
  refine jj_gR (C := RX3) (T := TX3) (N := 8) (ci := 3) (k := 0) (pc' := 14) dX3_showing_11 rfl rfl inX3 (by decide) qw_29 hF (fun r103 hF => ?_)
  refine jj_iload_n (j := 1) (i := 1) (pc' := 15) dX3_showing_14 rfl rfl rfl ?_
  refine jj_iload_n (j := 2) (i := 2) (pc' := 16) dX3_showing_15 rfl rfl rfl ?_
  refine jj_cI (N := M_X0_showingNumber) (kc' := 2) (ks' := 12) (pc' := 19) (jg_V (N := M_X0_showingNumber) (ci := 0) (rest := []) (as := [.int x1, .int x2]) cf_X3_196 dX3_showing_16 ⟨rfl, rfl⟩ rfl rfl ⟨Nat.le_of_ble_eq_true rfl, Nat.le_of_ble_eq_true rfl⟩ ⟨Nat.le_of_ble_eq_true rfl, Nat.le_of_ble_eq_true rfl⟩ (Nat.le_of_ble_eq_true rfl) (fun X' hX => KX0_showingNumber hX)) rfl rfl rfl rfl ⟨Nat.le_of_ble_eq_true rfl, Nat.le_of_ble_eq_true rfl⟩ rfl hF (fun x105 h104 hF => ?_)
  exact jj_retI (ty := .int) rfl rfl dX3_showing_19 ⟨Nat.le_of_ble_eq_true rfl, Nat.le_of_ble_eq_true rfl⟩ hF
theorem KX3_showing {a0 : Nat} {x1 : Int32} {x2 : Int32} {h : jm_H} {X : jm_X} (hF : FX3_showing a0 x1 x2 h = some X) : jm_K M_X3_showing [.ref a0, .int x1, .int x2] h X := jk_of rfl (by decide +kernel) rfl rfl (Nat.le_of_ble_eq_true rfl) (JX3_showing hF)
set_option maxRecDepth 100000 in
set_option maxHeartbeats 4000000 in
theorem JX0_reelBegin {a0 : Nat} {x1 : Int32} {x2 : Int32} {h : jm_H} {X : jm_X} (hF : FX0_reelBegin a0 x1 x2 h = some X) : jm_J M_X0_reelBegin 0 [(0, .ref a0), (1, .int x1), (2, .int x2)] [] h 0 0 X := by
  unfold FX0_reelBegin at hF
  refine jj_aload_n (j := 0) (i := 0) (pc' := 1) dX0_reelBegin_0 rfl rfl rfl ?_
  refine jj_gR (C := RX0) (T := TX0) (N := 10) (ci := 0) (k := 3) (pc' := 4) dX0_reelBegin_1 rfl rfl inX0 (by decide) qw_18 hF (fun r101 hF => ?_)
  refine jj_iload_n (j := 1) (i := 1) (pc' := 5) dX0_reelBegin_4 rfl rfl rfl ?_
  refine jj_iconst (v := (0 : Int32)) (pc' := 6) dX0_reelBegin_5 rfl rfl ?_
  refine jj_cI (N := M_X2_at) (kc' := 0) (ks' := 0) (pc' := 9) (jg_V (N := M_X2_at) (ci := 2) (rest := []) (as := [.int x1, .int ((0 : Int32))]) cf_X0_60 dX0_reelBegin_6 ⟨rfl, rfl⟩ rfl rfl ⟨Nat.le_of_ble_eq_true rfl, Nat.le_of_ble_eq_true rfl⟩ ⟨Nat.le_of_ble_eq_true rfl, Nat.le_of_ble_eq_true rfl⟩ (Nat.le_of_ble_eq_true rfl) (fun X' hX => KX2_at hX)) rfl rfl rfl rfl ⟨Nat.le_of_ble_eq_true rfl, Nat.le_of_ble_eq_true rfl⟩ rfl hF (fun x103 h102 hF => ?_)
  refine jj_istore_n (i := 3) (ls' := [(3, .int x103), (0, .ref a0), (1, .int x1), (2, .int x2)]) (pc' := 10) dX0_reelBegin_9 rfl (Nat.le_of_ble_eq_true rfl) rfl rfl ?_
  refine jj_aload_n (j := 1) (i := 0) (pc' := 11) dX0_reelBegin_10 rfl rfl rfl ?_
  refine jj_gR (C := RX0) (T := TX0) (N := 10) (ci := 0) (k := 0) (pc' := 14) dX0_reelBegin_11 rfl rfl inX0 (by decide) qw_15 hF (fun r104 hF => ?_)
  refine jj_iload_n (j := 0) (i := 3) (pc' := 15) dX0_reelBegin_14 rfl rfl rfl ?_
  refine jj_iconst (v := (0 : Int32)) (pc' := 16) dX0_reelBegin_15 rfl rfl ?_
  refine jj_cI (N := M_X2_at) (kc' := 0) (ks' := 0) (pc' := 19) (jg_V (N := M_X2_at) (ci := 2) (rest := []) (as := [.int x103, .int ((0 : Int32))]) cf_X0_60 dX0_reelBegin_16 ⟨rfl, rfl⟩ rfl rfl ⟨Nat.le_of_ble_eq_true rfl, Nat.le_of_ble_eq_true rfl⟩ ⟨Nat.le_of_ble_eq_true rfl, Nat.le_of_ble_eq_true rfl⟩ (Nat.le_of_ble_eq_true rfl) (fun X' hX => KX2_at hX)) rfl rfl rfl rfl ⟨Nat.le_of_ble_eq_true rfl, Nat.le_of_ble_eq_true rfl⟩ rfl hF (fun x106 h105 hF => ?_)
  refine jj_istore (i := 4) (ls' := [(4, .int x106), (3, .int x103), (0, .ref a0), (1, .int x1), (2, .int x2)]) (pc' := 21) dX0_reelBegin_19 (Nat.le_of_ble_eq_true rfl) rfl rfl ?_
  refine jj_iload_n (j := 4) (i := 2) (pc' := 22) dX0_reelBegin_21 rfl rfl rfl ?_
  refine jj_iload (j := 0) (i := 4) (pc' := 24) dX0_reelBegin_22 rfl rfl ?_
  refine jj_icmp_lt (tgt := 29) (pc' := 27) dX0_reelBegin_24 rfl rfl (fun hc hF => ?_) (fun hc hF => ?_) hF
  · skip
    refine jj_aload_n (j := 2) (i := 0) (pc' := 30) dX0_reelBegin_29 rfl rfl rfl ?_
    refine jj_gR (C := RX0) (T := TX0) (N := 10) (ci := 0) (k := 3) (pc' := 33) dX0_reelBegin_30 rfl rfl inX0 (by decide) qw_18 hF (fun r107 hF => ?_)
    refine jj_iload_n (j := 3) (i := 1) (pc' := 34) dX0_reelBegin_33 rfl rfl rfl ?_
    refine jj_iconst (v := (2 : Int32)) (pc' := 35) dX0_reelBegin_34 rfl rfl ?_
    refine jj_cI (N := M_X2_at) (kc' := 0) (ks' := 0) (pc' := 38) (jg_V (N := M_X2_at) (ci := 2) (rest := []) (as := [.int x1, .int ((2 : Int32))]) cf_X0_60 dX0_reelBegin_35 ⟨rfl, rfl⟩ rfl rfl ⟨Nat.le_of_ble_eq_true rfl, Nat.le_of_ble_eq_true rfl⟩ ⟨Nat.le_of_ble_eq_true rfl, Nat.le_of_ble_eq_true rfl⟩ (Nat.le_of_ble_eq_true rfl) (fun X' hX => KX2_at hX)) rfl rfl rfl rfl ⟨Nat.le_of_ble_eq_true rfl, Nat.le_of_ble_eq_true rfl⟩ rfl hF (fun x109 h108 hF => ?_)
    refine jj_aload_n (j := 2) (i := 0) (pc' := 39) dX0_reelBegin_38 rfl rfl rfl ?_
    refine jj_gR (C := RX0) (T := TX0) (N := 10) (ci := 0) (k := 3) (pc' := 42) dX0_reelBegin_39 rfl rfl inX0 (by decide) qw_18 hF (fun r110 hF => ?_)
    refine jj_iload_n (j := 3) (i := 1) (pc' := 43) dX0_reelBegin_42 rfl rfl rfl ?_
    refine jj_iconst (v := (3 : Int32)) (pc' := 44) dX0_reelBegin_43 rfl rfl ?_
    refine jj_cI (N := M_X2_at) (kc' := 0) (ks' := 0) (pc' := 47) (jg_V (N := M_X2_at) (ci := 2) (rest := [.int x109]) (as := [.int x1, .int ((3 : Int32))]) cf_X0_60 dX0_reelBegin_44 ⟨rfl, rfl⟩ rfl rfl ⟨Nat.le_of_ble_eq_true rfl, Nat.le_of_ble_eq_true rfl⟩ ⟨Nat.le_of_ble_eq_true rfl, Nat.le_of_ble_eq_true rfl⟩ (Nat.le_of_ble_eq_true rfl) (fun X' hX => KX2_at hX)) rfl rfl rfl rfl ⟨Nat.le_of_ble_eq_true rfl, Nat.le_of_ble_eq_true rfl⟩ rfl hF (fun x112 h111 hF => ?_)
    refine jj_iload (j := 0) (i := 4) (pc' := 49) dX0_reelBegin_47 rfl rfl ?_
    refine jj_aload_n (j := 2) (i := 0) (pc' := 50) dX0_reelBegin_49 rfl rfl rfl ?_
    refine jj_gR (C := RX0) (T := TX0) (N := 10) (ci := 0) (k := 0) (pc' := 53) dX0_reelBegin_50 rfl rfl inX0 (by decide) qw_15 hF (fun r113 hF => ?_)
    refine jj_iload_n (j := 1) (i := 3) (pc' := 54) dX0_reelBegin_53 rfl rfl rfl ?_
    refine jj_iconst (v := (1 : Int32)) (pc' := 55) dX0_reelBegin_54 rfl rfl ?_
    refine jj_cI (N := M_X2_at) (kc' := 0) (ks' := 0) (pc' := 58) (jg_V (N := M_X2_at) (ci := 2) (rest := [.int x106, .int x112, .int x109]) (as := [.int x103, .int ((1 : Int32))]) cf_X0_60 dX0_reelBegin_55 ⟨rfl, rfl⟩ rfl rfl ⟨Nat.le_of_ble_eq_true rfl, Nat.le_of_ble_eq_true rfl⟩ ⟨Nat.le_of_ble_eq_true rfl, Nat.le_of_ble_eq_true rfl⟩ (Nat.le_of_ble_eq_true rfl) (fun X' hX => KX2_at hX)) rfl rfl rfl rfl ⟨Nat.le_of_ble_eq_true rfl, Nat.le_of_ble_eq_true rfl⟩ rfl hF (fun x115 h114 hF => ?_)
    refine jj_iload_n (j := 4) (i := 2) (pc' := 59) dX0_reelBegin_58 rfl rfl rfl ?_
    refine jj_cI (N := M_X0_beginIn) (kc' := 0) (ks' := 0) (pc' := 62) (jg_S (N := M_X0_beginIn) (rest := []) (as := [.int x109, .int x112, .int x106, .int x115, .int x2]) cf_X0_97 rfl dX0_reelBegin_59 rfl rfl ⟨Nat.le_of_ble_eq_true rfl, Nat.le_of_ble_eq_true rfl⟩ ⟨Nat.le_of_ble_eq_true rfl, Nat.le_of_ble_eq_true rfl⟩ (Nat.le_of_ble_eq_true rfl) (fun X' hX => KX0_beginIn hX)) rfl rfl rfl rfl ⟨Nat.le_of_ble_eq_true rfl, Nat.le_of_ble_eq_true rfl⟩ rfl hF (fun x117 h116 hF => ?_)
    exact jj_retI (ty := .int) rfl rfl dX0_reelBegin_62 ⟨Nat.le_of_ble_eq_true rfl, Nat.le_of_ble_eq_true rfl⟩ hF
  · skip
    refine jj_iconst (v := (-1 : Int32)) (pc' := 28) dX0_reelBegin_27 rfl rfl ?_
    exact jj_retI (ty := .int) rfl rfl dX0_reelBegin_28 ⟨Nat.le_of_ble_eq_true rfl, Nat.le_of_ble_eq_true rfl⟩ hF
theorem KX0_reelBegin {a0 : Nat} {x1 : Int32} {x2 : Int32} {h : jm_H} {X : jm_X} (hF : FX0_reelBegin a0 x1 x2 h = some X) : jm_K M_X0_reelBegin [.ref a0, .int x1, .int x2] h X := jk_of rfl (by decide +kernel) rfl rfl (Nat.le_of_ble_eq_true rfl) (JX0_reelBegin hF)
set_option maxRecDepth 100000 in
set_option maxHeartbeats 4000000 in
theorem JX3_reel {a0 : Nat} {x1 : Int32} {x2 : Int32} {h : jm_H} {X : jm_X} (hF : FX3_reel a0 x1 x2 h = some X) : jm_J M_X3_reel 0 [(0, .ref a0), (1, .int x1), (2, .int x2)] [] h 0 0 X := by
  unfold FX3_reel at hF
  refine jj_aload_n (j := 0) (i := 0) (pc' := 1) dX3_reel_0 rfl rfl rfl ?_
  refine jj_iload_n (j := 1) (i := 1) (pc' := 2) dX3_reel_1 rfl rfl rfl ?_
  refine jj_cV (N := M_X3_requireShowing) (kc' := 1) (ks' := 6) (pc' := 5) (jg_V (N := M_X3_requireShowing) (ci := 3) (rest := []) (as := [.int x1]) cf_X3_101 dX3_reel_2 ⟨rfl, rfl⟩ rfl rfl ⟨Nat.le_of_ble_eq_true rfl, Nat.le_of_ble_eq_true rfl⟩ ⟨Nat.le_of_ble_eq_true rfl, Nat.le_of_ble_eq_true rfl⟩ (Nat.le_of_ble_eq_true rfl) (fun X' hX => KX3_requireShowing hX)) rfl rfl rfl rfl ⟨Nat.le_of_ble_eq_true rfl, Nat.le_of_ble_eq_true rfl⟩ rfl hF (fun h101 hF => ?_)
  refine jj_iload_n (j := 2) (i := 2) (pc' := 6) dX3_reel_5 rfl rfl rfl ?_
  refine jj_iconst (v := (0 : Int32)) (pc' := 7) dX3_reel_6 rfl rfl ?_
  refine jj_iconst (v := (5 : Int32)) (pc' := 8) dX3_reel_7 rfl rfl ?_
  refine jj_cI (N := M_X3_isWithin) (kc' := 1) (ks' := 6) (pc' := 11) (jg_S (N := M_X3_isWithin) (rest := []) (as := [.int x2, .int ((0 : Int32)), .int ((5 : Int32))]) cf_X3_34 rfl dX3_reel_8 rfl rfl ⟨Nat.le_of_ble_eq_true rfl, Nat.le_of_ble_eq_true rfl⟩ ⟨Nat.le_of_ble_eq_true rfl, Nat.le_of_ble_eq_true rfl⟩ (Nat.le_of_ble_eq_true rfl) (fun X' hX => KX3_isWithin hX)) rfl rfl rfl rfl ⟨Nat.le_of_ble_eq_true rfl, Nat.le_of_ble_eq_true rfl⟩ rfl hF (fun x103 h102 hF => ?_)
  refine jj_cV (N := M_X3_requireArgument) (kc' := 2) (ks' := 12) (pc' := 14) (jg_S (N := M_X3_requireArgument) (rest := []) (as := [.int x103]) cf_X3_38 rfl dX3_reel_11 rfl rfl ⟨Nat.le_of_ble_eq_true rfl, Nat.le_of_ble_eq_true rfl⟩ ⟨Nat.le_of_ble_eq_true rfl, Nat.le_of_ble_eq_true rfl⟩ (Nat.le_of_ble_eq_true rfl) (fun X' hX => KX3_requireArgument hX)) rfl rfl rfl rfl ⟨Nat.le_of_ble_eq_true rfl, Nat.le_of_ble_eq_true rfl⟩ rfl hF (fun h104 hF => ?_)
  refine jj_aload_n (j := 0) (i := 0) (pc' := 15) dX3_reel_14 rfl rfl rfl ?_
  refine jj_gR (C := RX3) (T := TX3) (N := 8) (ci := 3) (k := 0) (pc' := 18) dX3_reel_15 rfl rfl inX3 (by decide) qw_29 hF (fun r105 hF => ?_)
  refine jj_iload_n (j := 1) (i := 1) (pc' := 19) dX3_reel_18 rfl rfl rfl ?_
  refine jj_iload_n (j := 2) (i := 2) (pc' := 20) dX3_reel_19 rfl rfl rfl ?_
  refine jj_cI (N := M_X0_reelBegin) (kc' := 2) (ks' := 12) (pc' := 23) (jg_V (N := M_X0_reelBegin) (ci := 0) (rest := []) (as := [.int x1, .int x2]) cf_X3_199 dX3_reel_20 ⟨rfl, rfl⟩ rfl rfl ⟨Nat.le_of_ble_eq_true rfl, Nat.le_of_ble_eq_true rfl⟩ ⟨Nat.le_of_ble_eq_true rfl, Nat.le_of_ble_eq_true rfl⟩ (Nat.le_of_ble_eq_true rfl) (fun X' hX => KX0_reelBegin hX)) rfl rfl rfl rfl ⟨Nat.le_of_ble_eq_true rfl, Nat.le_of_ble_eq_true rfl⟩ rfl hF (fun x107 h106 hF => ?_)
  exact jj_retI (ty := .int) rfl rfl dX3_reel_23 ⟨Nat.le_of_ble_eq_true rfl, Nat.le_of_ble_eq_true rfl⟩ hF
theorem KX3_reel {a0 : Nat} {x1 : Int32} {x2 : Int32} {h : jm_H} {X : jm_X} (hF : FX3_reel a0 x1 x2 h = some X) : jm_K M_X3_reel [.ref a0, .int x1, .int x2] h X := jk_of rfl (by decide +kernel) rfl rfl (Nat.le_of_ble_eq_true rfl) (JX3_reel hF)

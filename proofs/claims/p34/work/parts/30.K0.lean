set_option maxRecDepth 100000 in
set_option maxHeartbeats 4000000 in
theorem JX2_init {a0 : Nat} {x1 : Int32} {x2 : Int32} {h : jm_H} {X : jm_X} (hF : FX2_init a0 x1 x2 h = some X) : jm_J M_X2_init 0 [(0, .ref a0), (1, .int x1), (2, .int x2)] [] h 0 0 X := by
  unfold FX2_init at hF
  refine jj_aload_n (j := 0) (i := 0) (pc' := 1) dX2_init_0 rfl rfl rfl ?_
  refine jj_obj (pc' := 4) dX2_init_1 rfl ⟨qw_0, qw_1, qw_2⟩ ⟨Nat.le_of_ble_eq_true rfl, Nat.le_of_ble_eq_true rfl⟩ ?_
  refine jj_aload_n (j := 0) (i := 0) (pc' := 5) dX2_init_4 rfl rfl rfl ?_
  refine jj_iload_n (j := 2) (i := 2) (pc' := 6) dX2_init_5 rfl rfl rfl ?_
  refine jj_pF (C := RX2) (T := TX2) (N := 3) (ci := 2) (k := 0) (ty := tyX2) (pc' := 9) dX2_init_6 rfl rfl inX2 tyX2_ok nmX2 (by decide) qw_3 rfl rfl rfl (fun _ => ⟨rfl, rfl⟩) hF (fun h101 hF => ?_)
  refine jj_aload_n (j := 0) (i := 0) (pc' := 10) dX2_init_9 rfl rfl rfl ?_
  refine jj_iconst (v := (0 : Int32)) (pc' := 11) dX2_init_10 rfl rfl ?_
  refine jj_iload_n (j := 1) (i := 1) (pc' := 12) dX2_init_11 rfl rfl rfl ?_
  refine jj_iload_n (j := 2) (i := 2) (pc' := 13) dX2_init_12 rfl rfl rfl ?_
  refine jj_imul (pc' := 14) dX2_init_13 rfl ?_
  refine jj_max (pc' := 17) dX2_init_14 rfl ⟨qw_4, qw_5, qw_6, qw_7⟩ ⟨Nat.le_of_ble_eq_true rfl, Nat.le_of_ble_eq_true rfl⟩ ⟨Nat.le_of_ble_eq_true rfl, Nat.le_of_ble_eq_true rfl⟩ ?_
  refine jj_naB (B := 60) (lv := [a0, a0]) (kc' := 1) (ks' := 60) (pc' := 19) dX2_init_17 rfl qw_8 (by decide) rfl (jm_live rfl) rfl rfl ⟨Nat.le_of_ble_eq_true rfl, Nat.le_of_ble_eq_true rfl⟩ hF (fun o102 h103 hF => ?_)
  refine jj_pF (C := RX2) (T := TX2) (N := 3) (ci := 2) (k := 1) (ty := tyX2) (pc' := 22) dX2_init_19 rfl rfl inX2 tyX2_ok nmX2 (by decide) qw_9 rfl rfl rfl (fun _ => ⟨rfl, rfl⟩) hF (fun h104 hF => ?_)
  exact jj_retV rfl dX2_init_22 ⟨Nat.le_of_ble_eq_true rfl, Nat.le_of_ble_eq_true rfl⟩ hF
theorem KX2_init {a0 : Nat} {x1 : Int32} {x2 : Int32} {h : jm_H} {X : jm_X} (hF : FX2_init a0 x1 x2 h = some X) : jm_K M_X2_init [.ref a0, .int x1, .int x2] h X := jk_of rfl (by decide +kernel) rfl rfl (Nat.le_of_ble_eq_true rfl) (JX2_init hF)
set_option maxRecDepth 100000 in
set_option maxHeartbeats 4000000 in
theorem JX2_addRow {a0 : Nat} {h : jm_H} {X : jm_X} (hF : FX2_addRow a0 h = some X) : jm_J M_X2_addRow 0 [(0, .ref a0)] [] h 0 0 X := by
  unfold FX2_addRow at hF
  refine jj_aload_n (j := 0) (i := 0) (pc' := 1) dX2_addRow_0 rfl rfl rfl ?_
  refine jj_gI (C := RX2) (T := TX2) (N := 3) (ci := 2) (k := 2) (pc' := 4) dX2_addRow_1 rfl rfl inX2 (by decide) qw_10 hF (fun x101 hF => ?_)
  refine jj_iconst (v := (1 : Int32)) (pc' := 5) dX2_addRow_4 rfl rfl ?_
  refine jj_iadd (pc' := 6) dX2_addRow_5 rfl ?_
  refine jj_aload_n (j := 0) (i := 0) (pc' := 7) dX2_addRow_6 rfl rfl rfl ?_
  refine jj_gI (C := RX2) (T := TX2) (N := 3) (ci := 2) (k := 0) (pc' := 10) dX2_addRow_7 rfl rfl inX2 (by decide) qw_3 hF (fun x102 hF => ?_)
  refine jj_imul (pc' := 11) dX2_addRow_10 rfl ?_
  refine jj_aload_n (j := 0) (i := 0) (pc' := 12) dX2_addRow_11 rfl rfl rfl ?_
  refine jj_gR (C := RX2) (T := TX2) (N := 3) (ci := 2) (k := 1) (pc' := 15) dX2_addRow_12 rfl rfl inX2 (by decide) qw_9 hF (fun r103 hF => ?_)
  refine jj_len (pc' := 16) dX2_addRow_15 rfl hF (fun x104 hF => ?_)
  refine jj_icmp_le (tgt := 21) (pc' := 19) dX2_addRow_16 rfl rfl (fun hc hF => ?_) (fun hc hF => ?_) hF
  · skip
    refine jj_aload_n (j := 0) (i := 0) (pc' := 22) dX2_addRow_21 rfl rfl rfl ?_
    refine jj_dup (pc' := 23) dX2_addRow_22 rfl rfl ?_
    refine jj_gI (C := RX2) (T := TX2) (N := 3) (ci := 2) (k := 2) (pc' := 26) dX2_addRow_23 rfl rfl inX2 (by decide) qw_10 hF (fun x105 hF => ?_)
    refine jj_iconst (v := (1 : Int32)) (pc' := 27) dX2_addRow_26 rfl rfl ?_
    refine jj_iadd (pc' := 28) dX2_addRow_27 rfl ?_
    refine jj_p (C := RX2) (T := TX2) (N := 3) (ci := 2) (k := 2) (ty := tyX2) (pc' := 31) dX2_addRow_28 rfl rfl inX2 tyX2_ok nmX2 (by decide) qw_10 rfl (fun _ => ⟨rfl, rfl⟩) hF (fun h106 hF => ?_)
    refine jj_aload_n (j := 0) (i := 0) (pc' := 32) dX2_addRow_31 rfl rfl rfl ?_
    refine jj_gI (C := RX2) (T := TX2) (N := 3) (ci := 2) (k := 2) (pc' := 35) dX2_addRow_32 rfl rfl inX2 (by decide) qw_10 hF (fun x107 hF => ?_)
    refine jj_iconst (v := (1 : Int32)) (pc' := 36) dX2_addRow_35 rfl rfl ?_
    refine jj_isub (pc' := 37) dX2_addRow_36 rfl ?_
    exact jj_retI (ty := .int) rfl rfl dX2_addRow_37 ⟨Nat.le_of_ble_eq_true rfl, Nat.le_of_ble_eq_true rfl⟩ hF
  · skip
    refine jj_iconst (v := (-1 : Int32)) (pc' := 20) dX2_addRow_19 rfl rfl ?_
    exact jj_retI (ty := .int) rfl rfl dX2_addRow_20 ⟨Nat.le_of_ble_eq_true rfl, Nat.le_of_ble_eq_true rfl⟩ hF
theorem KX2_addRow {a0 : Nat} {h : jm_H} {X : jm_X} (hF : FX2_addRow a0 h = some X) : jm_K M_X2_addRow [.ref a0] h X := jk_of rfl (by decide +kernel) rfl rfl (Nat.le_of_ble_eq_true rfl) (JX2_addRow hF)
set_option maxRecDepth 100000 in
set_option maxHeartbeats 4000000 in
theorem JX2_put {a0 : Nat} {x1 : Int32} {x2 : Int32} {x3 : Int32} {h : jm_H} {X : jm_X} (hF : FX2_put a0 x1 x2 x3 h = some X) : jm_J M_X2_put 0 [(0, .ref a0), (1, .int x1), (2, .int x2), (3, .int x3)] [] h 0 0 X := by
  unfold FX2_put at hF
  refine jj_iload_n (j := 1) (i := 1) (pc' := 1) dX2_put_0 rfl rfl rfl ?_
  refine jj_if_lt (tgt := 24) (pc' := 4) dX2_put_1 rfl rfl (fun hc hF => ?_) (fun hc hF => ?_) hF
  · skip
    exact jj_retV rfl dX2_put_24 ⟨Nat.le_of_ble_eq_true rfl, Nat.le_of_ble_eq_true rfl⟩ hF
  · skip
    refine jj_iload_n (j := 1) (i := 1) (pc' := 5) dX2_put_4 rfl rfl rfl ?_
    refine jj_aload_n (j := 0) (i := 0) (pc' := 6) dX2_put_5 rfl rfl rfl ?_
    refine jj_gI (C := RX2) (T := TX2) (N := 3) (ci := 2) (k := 2) (pc' := 9) dX2_put_6 rfl rfl inX2 (by decide) qw_10 hF (fun x101 hF => ?_)
    refine jj_icmp_ge (tgt := 24) (pc' := 12) dX2_put_9 rfl rfl (fun hc hF => ?_) (fun hc hF => ?_) hF
    · skip
      exact jj_retV rfl dX2_put_24 ⟨Nat.le_of_ble_eq_true rfl, Nat.le_of_ble_eq_true rfl⟩ hF
    · skip
      refine jj_iload_n (j := 2) (i := 2) (pc' := 13) dX2_put_12 rfl rfl rfl ?_
      refine jj_if_lt (tgt := 24) (pc' := 16) dX2_put_13 rfl rfl (fun hc hF => ?_) (fun hc hF => ?_) hF
      · skip
        exact jj_retV rfl dX2_put_24 ⟨Nat.le_of_ble_eq_true rfl, Nat.le_of_ble_eq_true rfl⟩ hF
      · skip
        refine jj_iload_n (j := 2) (i := 2) (pc' := 17) dX2_put_16 rfl rfl rfl ?_
        refine jj_aload_n (j := 0) (i := 0) (pc' := 18) dX2_put_17 rfl rfl rfl ?_
        refine jj_gI (C := RX2) (T := TX2) (N := 3) (ci := 2) (k := 0) (pc' := 21) dX2_put_18 rfl rfl inX2 (by decide) qw_3 hF (fun x102 hF => ?_)
        refine jj_icmp_lt (tgt := 25) (pc' := 24) dX2_put_21 rfl rfl (fun hc hF => ?_) (fun hc hF => ?_) hF
        · skip
          refine jj_iload_n (j := 1) (i := 1) (pc' := 26) dX2_put_25 rfl rfl rfl ?_
          refine jj_aload_n (j := 0) (i := 0) (pc' := 27) dX2_put_26 rfl rfl rfl ?_
          refine jj_gI (C := RX2) (T := TX2) (N := 3) (ci := 2) (k := 0) (pc' := 30) dX2_put_27 rfl rfl inX2 (by decide) qw_3 hF (fun x103 hF => ?_)
          refine jj_imul (pc' := 31) dX2_put_30 rfl ?_
          refine jj_iload_n (j := 2) (i := 2) (pc' := 32) dX2_put_31 rfl rfl rfl ?_
          refine jj_iadd (pc' := 33) dX2_put_32 rfl ?_
          refine jj_istore (i := 4) (ls' := [(4, .int ((x1 * x103) + x2)), (0, .ref a0), (1, .int x1), (2, .int x2), (3, .int x3)]) (pc' := 35) dX2_put_33 (Nat.le_of_ble_eq_true rfl) rfl rfl ?_
          refine jj_iload (j := 0) (i := 4) (pc' := 37) dX2_put_35 rfl rfl ?_
          refine jj_if_lt (tgt := 58) (pc' := 40) dX2_put_37 rfl rfl (fun hc hF => ?_) (fun hc hF => ?_) hF
          · skip
            exact jj_retV rfl dX2_put_58 ⟨Nat.le_of_ble_eq_true rfl, Nat.le_of_ble_eq_true rfl⟩ hF
          · skip
            refine jj_iload (j := 0) (i := 4) (pc' := 42) dX2_put_40 rfl rfl ?_
            refine jj_aload_n (j := 1) (i := 0) (pc' := 43) dX2_put_42 rfl rfl rfl ?_
            refine jj_gR (C := RX2) (T := TX2) (N := 3) (ci := 2) (k := 1) (pc' := 46) dX2_put_43 rfl rfl inX2 (by decide) qw_9 hF (fun r104 hF => ?_)
            refine jj_len (pc' := 47) dX2_put_46 rfl hF (fun x105 hF => ?_)
            refine jj_icmp_ge (tgt := 58) (pc' := 50) dX2_put_47 rfl rfl (fun hc hF => ?_) (fun hc hF => ?_) hF
            · skip
              exact jj_retV rfl dX2_put_58 ⟨Nat.le_of_ble_eq_true rfl, Nat.le_of_ble_eq_true rfl⟩ hF
            · skip
              refine jj_aload_n (j := 1) (i := 0) (pc' := 51) dX2_put_50 rfl rfl rfl ?_
              refine jj_gR (C := RX2) (T := TX2) (N := 3) (ci := 2) (k := 1) (pc' := 54) dX2_put_51 rfl rfl inX2 (by decide) qw_9 hF (fun r106 hF => ?_)
              refine jj_iload (j := 0) (i := 4) (pc' := 56) dX2_put_54 rfl rfl ?_
              refine jj_iload_n (j := 4) (i := 3) (pc' := 57) dX2_put_56 rfl rfl rfl ?_
              refine jj_stI (pc' := 58) dX2_put_57 rfl hF (fun h107 hF => ?_)
              exact jj_retV rfl dX2_put_58 ⟨Nat.le_of_ble_eq_true rfl, Nat.le_of_ble_eq_true rfl⟩ hF
        · skip
          exact jj_retV rfl dX2_put_24 ⟨Nat.le_of_ble_eq_true rfl, Nat.le_of_ble_eq_true rfl⟩ hF
theorem KX2_put {a0 : Nat} {x1 : Int32} {x2 : Int32} {x3 : Int32} {h : jm_H} {X : jm_X} (hF : FX2_put a0 x1 x2 x3 h = some X) : jm_K M_X2_put [.ref a0, .int x1, .int x2, .int x3] h X := jk_of rfl (by decide +kernel) rfl rfl (Nat.le_of_ble_eq_true rfl) (JX2_put hF)
set_option maxRecDepth 100000 in
set_option maxHeartbeats 4000000 in
theorem BX0_init_158 (N : Nat) : ∀ (n : Nat) (kc : Nat) (ks : Nat) (a0 : Nat) (x1 : Int32) (h : jm_H) (X : jm_X), FX0_init_158 N n kc ks a0 x1 h = some X → jm_J M_X0_init 158 [(0, .ref a0), (1, .int x1)] [] h kc ks X := by
  intro n
  induction n with
  | zero =>
    intro kc ks a0 x1 h X hF
    exact nomatch (show (none : Option jm_X) = some X from hF)
  | succ n ih =>
    intro kc ks a0 x1 h X hF
    rw [FX0_init_158] at hF
    obtain ⟨hk, hF⟩ := jf_k_inv hF
    refine jj_iload_n (j := 1) (i := 1) (pc' := 159) dX0_init_158 rfl rfl rfl ?_
    refine jj_iconst (v := (4 : Int32)) (pc' := 160) dX0_init_159 rfl rfl ?_
    refine jj_icmp_ge (tgt := 177) (pc' := 163) dX0_init_160 rfl rfl (fun hc hF => ?_) (fun hc hF => ?_) hF
    · skip
      refine jj_aload_n (j := 0) (i := 0) (pc' := 178) dX0_init_177 rfl rfl rfl ?_
      refine jj_gR (C := RX0) (T := TX0) (N := 10) (ci := 0) (k := 2) (pc' := 181) dX0_init_178 rfl rfl inX0 (by decide) qw_17 hF (fun r101 hF => ?_)
      refine jj_iconst (v := (0 : Int32)) (pc' := 182) dX0_init_181 rfl rfl ?_
      refine jj_iconst (v := (0 : Int32)) (pc' := 183) dX0_init_182 rfl rfl ?_
      refine jj_bipush (v := (10 : Int32)) (pc' := 185) dX0_init_183 rfl rfl ?_
      refine jj_cV (N := M_X2_put) (kc' := kc) (ks' := ks) (pc' := 188) (jg_V (N := M_X2_put) (ci := 2) (rest := []) (as := [.int ((0 : Int32)), .int ((0 : Int32)), .int ((10 : Int32))]) cf_X0_49 dX0_init_185 ⟨rfl, rfl⟩ rfl rfl ⟨Nat.le_of_ble_eq_true rfl, Nat.le_of_ble_eq_true rfl⟩ ⟨hk.1, hk.2⟩ (Nat.le_of_ble_eq_true rfl) (fun X' hX => KX2_put hX)) rfl rfl rfl rfl ⟨hk.1, hk.2⟩ rfl hF (fun h102 hF => ?_)
      refine jj_aload_n (j := 0) (i := 0) (pc' := 189) dX0_init_188 rfl rfl rfl ?_
      refine jj_gR (C := RX0) (T := TX0) (N := 10) (ci := 0) (k := 2) (pc' := 192) dX0_init_189 rfl rfl inX0 (by decide) qw_17 hF (fun r103 hF => ?_)
      refine jj_iconst (v := (1 : Int32)) (pc' := 193) dX0_init_192 rfl rfl ?_
      refine jj_iconst (v := (0 : Int32)) (pc' := 194) dX0_init_193 rfl rfl ?_
      refine jj_bipush (v := (15 : Int32)) (pc' := 196) dX0_init_194 rfl rfl ?_
      refine jj_cV (N := M_X2_put) (kc' := kc) (ks' := ks) (pc' := 199) (jg_V (N := M_X2_put) (ci := 2) (rest := []) (as := [.int ((1 : Int32)), .int ((0 : Int32)), .int ((15 : Int32))]) cf_X0_49 dX0_init_196 ⟨rfl, rfl⟩ rfl rfl ⟨Nat.le_of_ble_eq_true rfl, Nat.le_of_ble_eq_true rfl⟩ ⟨hk.1, hk.2⟩ (Nat.le_of_ble_eq_true rfl) (fun X' hX => KX2_put hX)) rfl rfl rfl rfl ⟨hk.1, hk.2⟩ rfl hF (fun h104 hF => ?_)
      refine jj_aload_n (j := 0) (i := 0) (pc' := 200) dX0_init_199 rfl rfl rfl ?_
      refine jj_gR (C := RX0) (T := TX0) (N := 10) (ci := 0) (k := 2) (pc' := 203) dX0_init_200 rfl rfl inX0 (by decide) qw_17 hF (fun r105 hF => ?_)
      refine jj_iconst (v := (2 : Int32)) (pc' := 204) dX0_init_203 rfl rfl ?_
      refine jj_iconst (v := (0 : Int32)) (pc' := 205) dX0_init_204 rfl rfl ?_
      refine jj_bipush (v := (10 : Int32)) (pc' := 207) dX0_init_205 rfl rfl ?_
      refine jj_cV (N := M_X2_put) (kc' := kc) (ks' := ks) (pc' := 210) (jg_V (N := M_X2_put) (ci := 2) (rest := []) (as := [.int ((2 : Int32)), .int ((0 : Int32)), .int ((10 : Int32))]) cf_X0_49 dX0_init_207 ⟨rfl, rfl⟩ rfl rfl ⟨Nat.le_of_ble_eq_true rfl, Nat.le_of_ble_eq_true rfl⟩ ⟨hk.1, hk.2⟩ (Nat.le_of_ble_eq_true rfl) (fun X' hX => KX2_put hX)) rfl rfl rfl rfl ⟨hk.1, hk.2⟩ rfl hF (fun h106 hF => ?_)
      refine jj_aload_n (j := 0) (i := 0) (pc' := 211) dX0_init_210 rfl rfl rfl ?_
      refine jj_gR (C := RX0) (T := TX0) (N := 10) (ci := 0) (k := 2) (pc' := 214) dX0_init_211 rfl rfl inX0 (by decide) qw_17 hF (fun r107 hF => ?_)
      refine jj_iconst (v := (3 : Int32)) (pc' := 215) dX0_init_214 rfl rfl ?_
      refine jj_iconst (v := (0 : Int32)) (pc' := 216) dX0_init_215 rfl rfl ?_
      refine jj_iconst (v := (5 : Int32)) (pc' := 217) dX0_init_216 rfl rfl ?_
      refine jj_cV (N := M_X2_put) (kc' := kc) (ks' := ks) (pc' := 220) (jg_V (N := M_X2_put) (ci := 2) (rest := []) (as := [.int ((3 : Int32)), .int ((0 : Int32)), .int ((5 : Int32))]) cf_X0_49 dX0_init_217 ⟨rfl, rfl⟩ rfl rfl ⟨Nat.le_of_ble_eq_true rfl, Nat.le_of_ble_eq_true rfl⟩ ⟨hk.1, hk.2⟩ (Nat.le_of_ble_eq_true rfl) (fun X' hX => KX2_put hX)) rfl rfl rfl rfl ⟨hk.1, hk.2⟩ rfl hF (fun h108 hF => ?_)
      exact jj_retV rfl dX0_init_220 ⟨hk.1, hk.2⟩ hF
    · skip
      refine jj_aload_n (j := 0) (i := 0) (pc' := 164) dX0_init_163 rfl rfl rfl ?_
      refine jj_gR (C := RX0) (T := TX0) (N := 10) (ci := 0) (k := 2) (pc' := 167) dX0_init_164 rfl rfl inX0 (by decide) qw_17 hF (fun r109 hF => ?_)
      refine jj_cI (N := M_X2_addRow) (kc' := kc) (ks' := ks) (pc' := 170) (jg_V (N := M_X2_addRow) (ci := 2) (rest := []) (as := []) cf_X0_45 dX0_init_167 ⟨rfl, rfl⟩ rfl rfl ⟨Nat.le_of_ble_eq_true rfl, Nat.le_of_ble_eq_true rfl⟩ ⟨hk.1, hk.2⟩ (Nat.le_of_ble_eq_true rfl) (fun X' hX => KX2_addRow hX)) rfl rfl rfl rfl ⟨hk.1, hk.2⟩ rfl hF (fun x111 h110 hF => ?_)
      refine jj_pop (pc' := 171) dX0_init_170 rfl rfl ?_
      refine jj_iinc (i := 1) (j := 1) (v := x1 + (1 : Int32)) (ls' := [(1, .int (x1 + (1 : Int32))), (0, .ref a0)]) (pc' := 174) dX0_init_171 rfl rfl (Nat.le_of_ble_eq_true rfl) rfl rfl ?_
      refine jj_goto (tgt := 158) dX0_init_174 rfl ?_
      exact jj_pick [1, 0] rfl (ih kc ks a0 (x1 + (1 : Int32)) h110 _ hF)
set_option maxRecDepth 100000 in
set_option maxHeartbeats 4000000 in
theorem BX0_init_137 (N : Nat) : ∀ (n : Nat) (kc : Nat) (ks : Nat) (a0 : Nat) (x1 : Int32) (h : jm_H) (X : jm_X), FX0_init_137 N n kc ks a0 x1 h = some X → jm_J M_X0_init 137 [(0, .ref a0), (1, .int x1)] [] h kc ks X := by
  intro n
  induction n with
  | zero =>
    intro kc ks a0 x1 h X hF
    exact nomatch (show (none : Option jm_X) = some X from hF)
  | succ n ih =>
    intro kc ks a0 x1 h X hF
    rw [FX0_init_137] at hF
    obtain ⟨hk, hF⟩ := jf_k_inv hF
    refine jj_iload_n (j := 1) (i := 1) (pc' := 138) dX0_init_137 rfl rfl rfl ?_
    refine jj_iconst (v := (3 : Int32)) (pc' := 139) dX0_init_138 rfl rfl ?_
    refine jj_icmp_ge (tgt := 156) (pc' := 142) dX0_init_139 rfl rfl (fun hc hF => ?_) (fun hc hF => ?_) hF
    · skip
      refine jj_iconst (v := (0 : Int32)) (pc' := 157) dX0_init_156 rfl rfl ?_
      refine jj_istore_n (i := 1) (ls' := [(1, .int ((0 : Int32))), (0, .ref a0)]) (pc' := 158) dX0_init_157 rfl (Nat.le_of_ble_eq_true rfl) rfl rfl ?_
      exact jj_pick [1, 0] rfl (BX0_init_158 N N kc ks a0 ((0 : Int32)) h _ hF)
    · skip
      refine jj_aload_n (j := 0) (i := 0) (pc' := 143) dX0_init_142 rfl rfl rfl ?_
      refine jj_gR (C := RX0) (T := TX0) (N := 10) (ci := 0) (k := 5) (pc' := 146) dX0_init_143 rfl rfl inX0 (by decide) qw_20 hF (fun r101 hF => ?_)
      refine jj_cI (N := M_X2_addRow) (kc' := kc) (ks' := ks) (pc' := 149) (jg_V (N := M_X2_addRow) (ci := 2) (rest := []) (as := []) cf_X0_45 dX0_init_146 ⟨rfl, rfl⟩ rfl rfl ⟨Nat.le_of_ble_eq_true rfl, Nat.le_of_ble_eq_true rfl⟩ ⟨hk.1, hk.2⟩ (Nat.le_of_ble_eq_true rfl) (fun X' hX => KX2_addRow hX)) rfl rfl rfl rfl ⟨hk.1, hk.2⟩ rfl hF (fun x103 h102 hF => ?_)
      refine jj_pop (pc' := 150) dX0_init_149 rfl rfl ?_
      refine jj_iinc (i := 1) (j := 1) (v := x1 + (1 : Int32)) (ls' := [(1, .int (x1 + (1 : Int32))), (0, .ref a0)]) (pc' := 153) dX0_init_150 rfl rfl (Nat.le_of_ble_eq_true rfl) rfl rfl ?_
      refine jj_goto (tgt := 137) dX0_init_153 rfl ?_
      exact jj_pick [1, 0] rfl (ih kc ks a0 (x1 + (1 : Int32)) h102 _ hF)
set_option maxRecDepth 100000 in
set_option maxHeartbeats 4000000 in
theorem BX0_init_103 (N : Nat) : ∀ (n : Nat) (kc : Nat) (ks : Nat) (a0 : Nat) (x1 : Int32) (h : jm_H) (X : jm_X), FX0_init_103 N n kc ks a0 x1 h = some X → jm_J M_X0_init 103 [(0, .ref a0), (1, .int x1)] [] h kc ks X := by
  intro n
  induction n with
  | zero =>
    intro kc ks a0 x1 h X hF
    exact nomatch (show (none : Option jm_X) = some X from hF)
  | succ n ih =>
    intro kc ks a0 x1 h X hF
    rw [FX0_init_103] at hF
    obtain ⟨hk, hF⟩ := jf_k_inv hF
    refine jj_iload_n (j := 1) (i := 1) (pc' := 104) dX0_init_103 rfl rfl rfl ?_
    refine jj_iconst (v := (3 : Int32)) (pc' := 105) dX0_init_104 rfl rfl ?_
    refine jj_icmp_ge (tgt := 135) (pc' := 108) dX0_init_105 rfl rfl (fun hc hF => ?_) (fun hc hF => ?_) hF
    · skip
      refine jj_iconst (v := (0 : Int32)) (pc' := 136) dX0_init_135 rfl rfl ?_
      refine jj_istore_n (i := 1) (ls' := [(1, .int ((0 : Int32))), (0, .ref a0)]) (pc' := 137) dX0_init_136 rfl (Nat.le_of_ble_eq_true rfl) rfl rfl ?_
      exact jj_pick [1, 0] rfl (BX0_init_137 N N kc ks a0 ((0 : Int32)) h _ hF)
    · skip
      refine jj_aload_n (j := 0) (i := 0) (pc' := 109) dX0_init_108 rfl rfl rfl ?_
      refine jj_gR (C := RX0) (T := TX0) (N := 10) (ci := 0) (k := 1) (pc' := 112) dX0_init_109 rfl rfl inX0 (by decide) qw_16 hF (fun r101 hF => ?_)
      refine jj_aload_n (j := 0) (i := 0) (pc' := 113) dX0_init_112 rfl rfl rfl ?_
      refine jj_gR (C := RX0) (T := TX0) (N := 10) (ci := 0) (k := 1) (pc' := 116) dX0_init_113 rfl rfl inX0 (by decide) qw_16 hF (fun r102 hF => ?_)
      refine jj_cI (N := M_X2_addRow) (kc' := kc) (ks' := ks) (pc' := 119) (jg_V (N := M_X2_addRow) (ci := 2) (rest := [.ref r101]) (as := []) cf_X0_45 dX0_init_116 ⟨rfl, rfl⟩ rfl rfl ⟨Nat.le_of_ble_eq_true rfl, Nat.le_of_ble_eq_true rfl⟩ ⟨hk.1, hk.2⟩ (Nat.le_of_ble_eq_true rfl) (fun X' hX => KX2_addRow hX)) rfl rfl rfl rfl ⟨hk.1, hk.2⟩ rfl hF (fun x104 h103 hF => ?_)
      refine jj_iconst (v := (0 : Int32)) (pc' := 120) dX0_init_119 rfl rfl ?_
      refine jj_bipush (v := (100 : Int32)) (pc' := 122) dX0_init_120 rfl rfl ?_
      refine jj_iload_n (j := 1) (i := 1) (pc' := 123) dX0_init_122 rfl rfl rfl ?_
      refine jj_iconst (v := (1 : Int32)) (pc' := 124) dX0_init_123 rfl rfl ?_
      refine jj_iadd (pc' := 125) dX0_init_124 rfl ?_
      refine jj_imul (pc' := 126) dX0_init_125 rfl ?_
      refine jj_cV (N := M_X2_put) (kc' := kc) (ks' := ks) (pc' := 129) (jg_V (N := M_X2_put) (ci := 2) (rest := []) (as := [.int x104, .int ((0 : Int32)), .int (((100 : Int32)) * (x1 + ((1 : Int32))))]) cf_X0_49 dX0_init_126 ⟨rfl, rfl⟩ rfl rfl ⟨Nat.le_of_ble_eq_true rfl, Nat.le_of_ble_eq_true rfl⟩ ⟨hk.1, hk.2⟩ (Nat.le_of_ble_eq_true rfl) (fun X' hX => KX2_put hX)) rfl rfl rfl rfl ⟨hk.1, hk.2⟩ rfl hF (fun h105 hF => ?_)
      refine jj_iinc (i := 1) (j := 1) (v := x1 + (1 : Int32)) (ls' := [(1, .int (x1 + (1 : Int32))), (0, .ref a0)]) (pc' := 132) dX0_init_129 rfl rfl (Nat.le_of_ble_eq_true rfl) rfl rfl ?_
      refine jj_goto (tgt := 103) dX0_init_132 rfl ?_
      exact jj_pick [1, 0] rfl (ih kc ks a0 (x1 + (1 : Int32)) h105 _ hF)
set_option maxRecDepth 100000 in
set_option maxHeartbeats 4000000 in
theorem JX0_init {N : Nat} {a0 : Nat} {h : jm_H} {X : jm_X} (hF : FX0_init N a0 h = some X) : jm_J M_X0_init 0 [(0, .ref a0)] [] h 0 0 X := by
  unfold FX0_init at hF
  refine jj_aload_n (j := 0) (i := 0) (pc' := 1) dX0_init_0 rfl rfl rfl ?_
  refine jj_obj (pc' := 4) dX0_init_1 rfl ⟨qw_11, qw_1, qw_2⟩ ⟨Nat.le_of_ble_eq_true rfl, Nat.le_of_ble_eq_true rfl⟩ ?_
  refine jj_aload_n (j := 0) (i := 0) (pc' := 5) dX0_init_4 rfl rfl rfl ?_
  refine jj_new (C := RX2) (T := TX2) (N := 3) (ci := 2) (fs := [.int 0, .null, .int 0]) (ty := tyX2) (lv := [a0, a0]) (kc' := 1) (ks' := 3) (pc' := 8) dX0_init_5 rfl rfl inX2 tyX2_ok ⟨qw_12, qw_13, qw_14⟩ (by decide) (by simp) rfl (jm_live rfl) rfl rfl ⟨Nat.le_of_ble_eq_true rfl, Nat.le_of_ble_eq_true rfl⟩ hF (fun o101 h102 hF => ?_)
  refine jj_dup (pc' := 9) dX0_init_8 rfl rfl ?_
  refine jj_bipush (v := (8 : Int32)) (pc' := 11) dX0_init_9 rfl rfl ?_
  refine jj_iconst (v := (2 : Int32)) (pc' := 12) dX0_init_11 rfl rfl ?_
  refine jj_ini (N := M_X2_init) (as := [.int ((8 : Int32)), .int ((2 : Int32))]) (rest := [.ref o101, .ref a0]) (lv := [a0, o101, a0]) (kc' := 2) (ks' := 63) (pc' := 15) cf_X0_11 dX0_init_12 rfl rfl ⟨Nat.le_of_ble_eq_true rfl, Nat.le_of_ble_eq_true rfl⟩ ⟨Nat.le_of_ble_eq_true rfl, Nat.le_of_ble_eq_true rfl⟩ (Nat.le_of_ble_eq_true rfl) (fun X' hX => KX2_init hX) rfl (jm_live rfl) rfl rfl rfl hF (fun h103 hF => ?_)
  refine jj_pF (C := RX0) (T := TX0) (N := 10) (ci := 0) (k := 0) (ty := tyX0) (pc' := 18) dX0_init_15 rfl rfl inX0 tyX0_ok nmX0 (by decide) qw_15 rfl rfl rfl (fun _ => ⟨rfl, rfl⟩) hF (fun h104 hF => ?_)
  refine jj_aload_n (j := 0) (i := 0) (pc' := 19) dX0_init_18 rfl rfl rfl ?_
  refine jj_new (C := RX2) (T := TX2) (N := 3) (ci := 2) (fs := [.int 0, .null, .int 0]) (ty := tyX2) (lv := [a0, a0]) (kc' := 3) (ks' := 66) (pc' := 22) dX0_init_19 rfl rfl inX2 tyX2_ok ⟨qw_12, qw_13, qw_14⟩ (by decide) (by simp) rfl (jm_live rfl) rfl rfl ⟨Nat.le_of_ble_eq_true rfl, Nat.le_of_ble_eq_true rfl⟩ hF (fun o105 h106 hF => ?_)
  refine jj_dup (pc' := 23) dX0_init_22 rfl rfl ?_
  refine jj_iconst (v := (3 : Int32)) (pc' := 24) dX0_init_23 rfl rfl ?_
  refine jj_iconst (v := (1 : Int32)) (pc' := 25) dX0_init_24 rfl rfl ?_
  refine jj_ini (N := M_X2_init) (as := [.int ((3 : Int32)), .int ((1 : Int32))]) (rest := [.ref o105, .ref a0]) (lv := [a0, o105, a0]) (kc' := 4) (ks' := 126) (pc' := 28) cf_X0_11 dX0_init_25 rfl rfl ⟨Nat.le_of_ble_eq_true rfl, Nat.le_of_ble_eq_true rfl⟩ ⟨Nat.le_of_ble_eq_true rfl, Nat.le_of_ble_eq_true rfl⟩ (Nat.le_of_ble_eq_true rfl) (fun X' hX => KX2_init hX) rfl (jm_live rfl) rfl rfl rfl hF (fun h107 hF => ?_)
  refine jj_pF (C := RX0) (T := TX0) (N := 10) (ci := 0) (k := 1) (ty := tyX0) (pc' := 31) dX0_init_28 rfl rfl inX0 tyX0_ok nmX0 (by decide) qw_16 rfl rfl rfl (fun _ => ⟨rfl, rfl⟩) hF (fun h108 hF => ?_)
  refine jj_aload_n (j := 0) (i := 0) (pc' := 32) dX0_init_31 rfl rfl rfl ?_
  refine jj_new (C := RX2) (T := TX2) (N := 3) (ci := 2) (fs := [.int 0, .null, .int 0]) (ty := tyX2) (lv := [a0, a0]) (kc' := 5) (ks' := 129) (pc' := 35) dX0_init_32 rfl rfl inX2 tyX2_ok ⟨qw_12, qw_13, qw_14⟩ (by decide) (by simp) rfl (jm_live rfl) rfl rfl ⟨Nat.le_of_ble_eq_true rfl, Nat.le_of_ble_eq_true rfl⟩ hF (fun o109 h110 hF => ?_)
  refine jj_dup (pc' := 36) dX0_init_35 rfl rfl ?_
  refine jj_iconst (v := (4 : Int32)) (pc' := 37) dX0_init_36 rfl rfl ?_
  refine jj_iconst (v := (1 : Int32)) (pc' := 38) dX0_init_37 rfl rfl ?_
  refine jj_ini (N := M_X2_init) (as := [.int ((4 : Int32)), .int ((1 : Int32))]) (rest := [.ref o109, .ref a0]) (lv := [a0, o109, a0]) (kc' := 6) (ks' := 189) (pc' := 41) cf_X0_11 dX0_init_38 rfl rfl ⟨Nat.le_of_ble_eq_true rfl, Nat.le_of_ble_eq_true rfl⟩ ⟨Nat.le_of_ble_eq_true rfl, Nat.le_of_ble_eq_true rfl⟩ (Nat.le_of_ble_eq_true rfl) (fun X' hX => KX2_init hX) rfl (jm_live rfl) rfl rfl rfl hF (fun h111 hF => ?_)
  refine jj_pF (C := RX0) (T := TX0) (N := 10) (ci := 0) (k := 2) (ty := tyX0) (pc' := 44) dX0_init_41 rfl rfl inX0 tyX0_ok nmX0 (by decide) qw_17 rfl rfl rfl (fun _ => ⟨rfl, rfl⟩) hF (fun h112 hF => ?_)
  refine jj_aload_n (j := 0) (i := 0) (pc' := 45) dX0_init_44 rfl rfl rfl ?_
  refine jj_new (C := RX2) (T := TX2) (N := 3) (ci := 2) (fs := [.int 0, .null, .int 0]) (ty := tyX2) (lv := [a0, a0]) (kc' := 7) (ks' := 192) (pc' := 48) dX0_init_45 rfl rfl inX2 tyX2_ok ⟨qw_12, qw_13, qw_14⟩ (by decide) (by simp) rfl (jm_live rfl) rfl rfl ⟨Nat.le_of_ble_eq_true rfl, Nat.le_of_ble_eq_true rfl⟩ hF (fun o113 h114 hF => ?_)
  refine jj_dup (pc' := 49) dX0_init_48 rfl rfl ?_
  refine jj_bipush (v := (12 : Int32)) (pc' := 51) dX0_init_49 rfl rfl ?_
  refine jj_iconst (v := (5 : Int32)) (pc' := 52) dX0_init_51 rfl rfl ?_
  refine jj_ini (N := M_X2_init) (as := [.int ((12 : Int32)), .int ((5 : Int32))]) (rest := [.ref o113, .ref a0]) (lv := [a0, o113, a0]) (kc' := 8) (ks' := 252) (pc' := 55) cf_X0_11 dX0_init_52 rfl rfl ⟨Nat.le_of_ble_eq_true rfl, Nat.le_of_ble_eq_true rfl⟩ ⟨Nat.le_of_ble_eq_true rfl, Nat.le_of_ble_eq_true rfl⟩ (Nat.le_of_ble_eq_true rfl) (fun X' hX => KX2_init hX) rfl (jm_live rfl) rfl rfl rfl hF (fun h115 hF => ?_)
  refine jj_pF (C := RX0) (T := TX0) (N := 10) (ci := 0) (k := 3) (ty := tyX0) (pc' := 58) dX0_init_55 rfl rfl inX0 tyX0_ok nmX0 (by decide) qw_18 rfl rfl rfl (fun _ => ⟨rfl, rfl⟩) hF (fun h116 hF => ?_)
  refine jj_aload_n (j := 0) (i := 0) (pc' := 59) dX0_init_58 rfl rfl rfl ?_
  refine jj_new (C := RX2) (T := TX2) (N := 3) (ci := 2) (fs := [.int 0, .null, .int 0]) (ty := tyX2) (lv := [a0, a0]) (kc' := 9) (ks' := 255) (pc' := 62) dX0_init_59 rfl rfl inX2 tyX2_ok ⟨qw_12, qw_13, qw_14⟩ (by decide) (by simp) rfl (jm_live rfl) rfl rfl ⟨Nat.le_of_ble_eq_true rfl, Nat.le_of_ble_eq_true rfl⟩ hF (fun o117 h118 hF => ?_)
  refine jj_dup (pc' := 63) dX0_init_62 rfl rfl ?_
  refine jj_bipush (v := (6 : Int32)) (pc' := 65) dX0_init_63 rfl rfl ?_
  refine jj_iconst (v := (3 : Int32)) (pc' := 66) dX0_init_65 rfl rfl ?_
  refine jj_ini (N := M_X2_init) (as := [.int ((6 : Int32)), .int ((3 : Int32))]) (rest := [.ref o117, .ref a0]) (lv := [a0, o117, a0]) (kc' := 10) (ks' := 315) (pc' := 69) cf_X0_11 dX0_init_66 rfl rfl ⟨Nat.le_of_ble_eq_true rfl, Nat.le_of_ble_eq_true rfl⟩ ⟨Nat.le_of_ble_eq_true rfl, Nat.le_of_ble_eq_true rfl⟩ (Nat.le_of_ble_eq_true rfl) (fun X' hX => KX2_init hX) rfl (jm_live rfl) rfl rfl rfl hF (fun h119 hF => ?_)
  refine jj_pF (C := RX0) (T := TX0) (N := 10) (ci := 0) (k := 4) (ty := tyX0) (pc' := 72) dX0_init_69 rfl rfl inX0 tyX0_ok nmX0 (by decide) qw_19 rfl rfl rfl (fun _ => ⟨rfl, rfl⟩) hF (fun h120 hF => ?_)
  refine jj_aload_n (j := 0) (i := 0) (pc' := 73) dX0_init_72 rfl rfl rfl ?_
  refine jj_new (C := RX2) (T := TX2) (N := 3) (ci := 2) (fs := [.int 0, .null, .int 0]) (ty := tyX2) (lv := [a0, a0]) (kc' := 11) (ks' := 318) (pc' := 76) dX0_init_73 rfl rfl inX2 tyX2_ok ⟨qw_12, qw_13, qw_14⟩ (by decide) (by simp) rfl (jm_live rfl) rfl rfl ⟨Nat.le_of_ble_eq_true rfl, Nat.le_of_ble_eq_true rfl⟩ hF (fun o121 h122 hF => ?_)
  refine jj_dup (pc' := 77) dX0_init_76 rfl rfl ?_
  refine jj_iconst (v := (3 : Int32)) (pc' := 78) dX0_init_77 rfl rfl ?_
  refine jj_bipush (v := (8 : Int32)) (pc' := 80) dX0_init_78 rfl rfl ?_
  refine jj_ini (N := M_X2_init) (as := [.int ((3 : Int32)), .int ((8 : Int32))]) (rest := [.ref o121, .ref a0]) (lv := [a0, o121, a0]) (kc' := 12) (ks' := 378) (pc' := 83) cf_X0_11 dX0_init_80 rfl rfl ⟨Nat.le_of_ble_eq_true rfl, Nat.le_of_ble_eq_true rfl⟩ ⟨Nat.le_of_ble_eq_true rfl, Nat.le_of_ble_eq_true rfl⟩ (Nat.le_of_ble_eq_true rfl) (fun X' hX => KX2_init hX) rfl (jm_live rfl) rfl rfl rfl hF (fun h123 hF => ?_)
  refine jj_pF (C := RX0) (T := TX0) (N := 10) (ci := 0) (k := 5) (ty := tyX0) (pc' := 86) dX0_init_83 rfl rfl inX0 tyX0_ok nmX0 (by decide) qw_20 rfl rfl rfl (fun _ => ⟨rfl, rfl⟩) hF (fun h124 hF => ?_)
  refine jj_aload_n (j := 0) (i := 0) (pc' := 87) dX0_init_86 rfl rfl rfl ?_
  refine jj_iconst (v := (-1 : Int32)) (pc' := 88) dX0_init_87 rfl rfl ?_
  refine jj_p (C := RX0) (T := TX0) (N := 10) (ci := 0) (k := 7) (ty := tyX0) (pc' := 91) dX0_init_88 rfl rfl inX0 tyX0_ok nmX0 (by decide) qw_21 rfl (fun _ => ⟨rfl, rfl⟩) hF (fun h125 hF => ?_)
  refine jj_aload_n (j := 0) (i := 0) (pc' := 92) dX0_init_91 rfl rfl rfl ?_
  refine jj_iconst (v := (-1 : Int32)) (pc' := 93) dX0_init_92 rfl rfl ?_
  refine jj_p (C := RX0) (T := TX0) (N := 10) (ci := 0) (k := 8) (ty := tyX0) (pc' := 96) dX0_init_93 rfl rfl inX0 tyX0_ok nmX0 (by decide) qw_22 rfl (fun _ => ⟨rfl, rfl⟩) hF (fun h126 hF => ?_)
  refine jj_aload_n (j := 0) (i := 0) (pc' := 97) dX0_init_96 rfl rfl rfl ?_
  refine jj_iconst (v := (-1 : Int32)) (pc' := 98) dX0_init_97 rfl rfl ?_
  refine jj_p (C := RX0) (T := TX0) (N := 10) (ci := 0) (k := 9) (ty := tyX0) (pc' := 101) dX0_init_98 rfl rfl inX0 tyX0_ok nmX0 (by decide) qw_23 rfl (fun _ => ⟨rfl, rfl⟩) hF (fun h127 hF => ?_)
  refine jj_iconst (v := (0 : Int32)) (pc' := 102) dX0_init_101 rfl rfl ?_
  refine jj_istore_n (i := 1) (ls' := [(1, .int ((0 : Int32))), (0, .ref a0)]) (pc' := 103) dX0_init_102 rfl (Nat.le_of_ble_eq_true rfl) rfl rfl ?_
  exact jj_pick [1, 0] rfl (BX0_init_103 N N 12 378 a0 ((0 : Int32)) h127 _ hF)
theorem KX0_init {N : Nat} {a0 : Nat} {h : jm_H} {X : jm_X} (hF : FX0_init N a0 h = some X) : jm_K M_X0_init [.ref a0] h X := jk_of rfl (by decide +kernel) rfl rfl (Nat.le_of_ble_eq_true rfl) (JX0_init hF)
set_option maxRecDepth 100000 in
set_option maxHeartbeats 4000000 in
theorem JX1_init {a0 : Nat} {h : jm_H} {X : jm_X} (hF : FX1_init a0 h = some X) : jm_J M_X1_init 0 [(0, .ref a0)] [] h 0 0 X := by
  unfold FX1_init at hF
  refine jj_aload_n (j := 0) (i := 0) (pc' := 1) dX1_init_0 rfl rfl rfl ?_
  refine jj_obj (pc' := 4) dX1_init_1 rfl ⟨qw_24, qw_1, qw_2⟩ ⟨Nat.le_of_ble_eq_true rfl, Nat.le_of_ble_eq_true rfl⟩ ?_
  exact jj_retV rfl dX1_init_4 ⟨Nat.le_of_ble_eq_true rfl, Nat.le_of_ble_eq_true rfl⟩ hF
theorem KX1_init {a0 : Nat} {h : jm_H} {X : jm_X} (hF : FX1_init a0 h = some X) : jm_K M_X1_init [.ref a0] h X := jk_of rfl (by decide +kernel) rfl rfl (Nat.le_of_ble_eq_true rfl) (JX1_init hF)
set_option maxRecDepth 100000 in
set_option maxHeartbeats 4000000 in
theorem BX3_init_37 (N : Nat) : ∀ (n : Nat) (kc : Nat) (ks : Nat) (a0 : Nat) (x1 : Int32) (h : jm_H) (X : jm_X), FX3_init_37 N n kc ks a0 x1 h = some X → jm_J M_X3_init 37 [(0, .ref a0), (1, .int x1)] [] h kc ks X := by
  intro n
  induction n with
  | zero =>
    intro kc ks a0 x1 h X hF
    exact nomatch (show (none : Option jm_X) = some X from hF)
  | succ n ih =>
    intro kc ks a0 x1 h X hF
    rw [FX3_init_37] at hF
    obtain ⟨hk, hF⟩ := jf_k_inv hF
    refine jj_iload_n (j := 1) (i := 1) (pc' := 38) dX3_init_37 rfl rfl rfl ?_
    refine jj_aload_n (j := 0) (i := 0) (pc' := 39) dX3_init_38 rfl rfl rfl ?_
    refine jj_gR (C := RX3) (T := TX3) (N := 8) (ci := 3) (k := 2) (pc' := 42) dX3_init_39 rfl rfl inX3 (by decide) qw_31 hF (fun r101 hF => ?_)
    refine jj_len (pc' := 43) dX3_init_42 rfl hF (fun x102 hF => ?_)
    refine jj_icmp_ge (tgt := 65) (pc' := 46) dX3_init_43 rfl rfl (fun hc hF => ?_) (fun hc hF => ?_) hF
    · skip
      refine jj_aload_n (j := 0) (i := 0) (pc' := 66) dX3_init_65 rfl rfl rfl ?_
      obtain ⟨hk, hF⟩ := jf_k_inv hF
      refine jj_new (C := RX1) (T := TX1) (N := 5) (ci := 1) (fs := [.int 0, .int 0, .int 0, .int 0, .int 0]) (ty := tyX1) (lv := [a0, a0]) (kc' := (kc + 1)) (ks' := (ks + 5)) (pc' := 69) dX3_init_66 rfl rfl inX1 tyX1_ok ⟨qw_32, qw_33, qw_34⟩ (by decide) (by simp) rfl (jm_live rfl) rfl rfl hk hF (fun o103 h104 hF => ?_)
      refine jj_dup (pc' := 70) dX3_init_69 rfl rfl ?_
      refine jj_iniN (N := M_X1_init) (as := []) (rest := [.ref o103, .ref a0]) (lv := [a0, o103, a0]) (kc' := (kc + 1)) (ks' := (ks + 5)) (pc' := 73) cf_X3_25 rfl rfl dX3_init_70 rfl rfl ⟨Nat.le_of_ble_eq_true rfl, Nat.le_of_ble_eq_true rfl⟩ ⟨hk.1, hk.2⟩ (Nat.le_of_ble_eq_true rfl) (fun X' hX => KX1_init hX) rfl (jm_live rfl) rfl rfl rfl hF (fun h105 hF => ?_)
      refine jj_pF (C := RX3) (T := TX3) (N := 8) (ci := 3) (k := 3) (ty := tyX3) (pc' := 76) dX3_init_73 rfl rfl inX3 tyX3_ok nmX3 (by decide) qw_35 rfl rfl rfl (fun _ => ⟨rfl, rfl⟩) hF (fun h106 hF => ?_)
      refine jj_aload_n (j := 0) (i := 0) (pc' := 77) dX3_init_76 rfl rfl rfl ?_
      refine jj_bipush (v := (60 : Int32)) (pc' := 79) dX3_init_77 rfl rfl ?_
      obtain ⟨hk, hF⟩ := jf_k_inv hF
      refine jj_na (atype := .int) (ty := .int) (t := 0) (n := 60) (a0 := (60, .inl (fun _ => 0))) (lv := [a0, a0]) (kc' := (kc + 2)) (ks' := (ks + 65)) (pc' := 81) dX3_init_79 rfl rfl qw_8 (fun _ => rfl) (fun _ => rfl) ⟨fun _ => rfl, fun _ => trivial⟩ ⟨by decide, by decide, by decide⟩ rfl (jm_live rfl) rfl rfl hk hF (fun o107 h108 hF => ?_)
      refine jj_pF (C := RX3) (T := TX3) (N := 8) (ci := 3) (k := 4) (ty := tyX3) (pc' := 84) dX3_init_81 rfl rfl inX3 tyX3_ok nmX3 (by decide) qw_36 rfl rfl rfl (fun _ => ⟨rfl, rfl⟩) hF (fun h109 hF => ?_)
      exact jj_retV rfl dX3_init_84 ⟨hk.1, hk.2⟩ hF
    · skip
      refine jj_aload_n (j := 0) (i := 0) (pc' := 47) dX3_init_46 rfl rfl rfl ?_
      refine jj_gR (C := RX3) (T := TX3) (N := 8) (ci := 3) (k := 2) (pc' := 50) dX3_init_47 rfl rfl inX3 (by decide) qw_31 hF (fun r110 hF => ?_)
      refine jj_iload_n (j := 1) (i := 1) (pc' := 51) dX3_init_50 rfl rfl rfl ?_
      obtain ⟨hk, hF⟩ := jf_k_inv hF
      refine jj_new (C := RX0) (T := TX0) (N := 10) (ci := 0) (fs := [.null, .null, .null, .null, .null, .null, .int 0, .int 0, .int 0, .int 0]) (ty := tyX0) (lv := [a0, r110]) (kc' := (kc + 1)) (ks' := (ks + 10)) (pc' := 54) dX3_init_51 rfl rfl inX0 tyX0_ok ⟨qw_26, qw_27, qw_28⟩ (by decide) (by simp) rfl (jm_live rfl) rfl rfl hk hF (fun o111 h112 hF => ?_)
      refine jj_dup (pc' := 55) dX3_init_54 rfl rfl ?_
      obtain ⟨hk, hF⟩ := jf_k_inv hF
      refine jj_ini (N := M_X0_init) (as := []) (rest := [.ref o111, .int x1, .ref r110]) (lv := [a0, o111, r110]) (kc' := (kc + 13)) (ks' := (ks + 388)) (pc' := 58) cf_X3_9 dX3_init_55 rfl rfl ⟨Nat.le_of_ble_eq_true rfl, Nat.le_of_ble_eq_true rfl⟩ ⟨hk.1, hk.2⟩ (Nat.le_of_ble_eq_true rfl) (fun X' hX => KX0_init hX) rfl (jm_live rfl) rfl rfl rfl hF (fun h113 hF => ?_)
      refine jj_stA (pc' := 59) dX3_init_58 rfl hF (fun h114 hF => ?_)
      refine jj_iinc (i := 1) (j := 1) (v := x1 + (1 : Int32)) (ls' := [(1, .int (x1 + (1 : Int32))), (0, .ref a0)]) (pc' := 62) dX3_init_59 rfl rfl (Nat.le_of_ble_eq_true rfl) rfl rfl ?_
      refine jj_goto (tgt := 37) dX3_init_62 rfl ?_
      exact jj_pick [1, 0] rfl (ih (kc + 13) (ks + 388) a0 (x1 + (1 : Int32)) h114 _ hF)
set_option maxRecDepth 100000 in
set_option maxHeartbeats 4000000 in
theorem JX3_init {N : Nat} {a0 : Nat} {h : jm_H} {X : jm_X} (hF : FX3_init N a0 h = some X) : jm_J M_X3_init 0 [(0, .ref a0)] [] h 0 0 X := by
  unfold FX3_init at hF
  refine jj_aload_n (j := 0) (i := 0) (pc' := 1) dX3_init_0 rfl rfl rfl ?_
  refine jj_obj (pc' := 4) dX3_init_1 rfl ⟨qw_25, qw_1, qw_2⟩ ⟨Nat.le_of_ble_eq_true rfl, Nat.le_of_ble_eq_true rfl⟩ ?_
  refine jj_aload_n (j := 0) (i := 0) (pc' := 5) dX3_init_4 rfl rfl rfl ?_
  refine jj_new (C := RX0) (T := TX0) (N := 10) (ci := 0) (fs := [.null, .null, .null, .null, .null, .null, .int 0, .int 0, .int 0, .int 0]) (ty := tyX0) (lv := [a0, a0]) (kc' := 1) (ks' := 10) (pc' := 8) dX3_init_5 rfl rfl inX0 tyX0_ok ⟨qw_26, qw_27, qw_28⟩ (by decide) (by simp) rfl (jm_live rfl) rfl rfl ⟨Nat.le_of_ble_eq_true rfl, Nat.le_of_ble_eq_true rfl⟩ hF (fun o101 h102 hF => ?_)
  refine jj_dup (pc' := 9) dX3_init_8 rfl rfl ?_
  refine jj_ini (N := M_X0_init) (as := []) (rest := [.ref o101, .ref a0]) (lv := [a0, o101, a0]) (kc' := 13) (ks' := 388) (pc' := 12) cf_X3_9 dX3_init_9 rfl rfl ⟨Nat.le_of_ble_eq_true rfl, Nat.le_of_ble_eq_true rfl⟩ ⟨Nat.le_of_ble_eq_true rfl, Nat.le_of_ble_eq_true rfl⟩ (Nat.le_of_ble_eq_true rfl) (fun X' hX => KX0_init hX) rfl (jm_live rfl) rfl rfl rfl hF (fun h103 hF => ?_)
  refine jj_pF (C := RX3) (T := TX3) (N := 8) (ci := 3) (k := 0) (ty := tyX3) (pc' := 15) dX3_init_12 rfl rfl inX3 tyX3_ok nmX3 (by decide) qw_29 rfl rfl rfl (fun _ => ⟨rfl, rfl⟩) hF (fun h104 hF => ?_)
  refine jj_aload_n (j := 0) (i := 0) (pc' := 16) dX3_init_15 rfl rfl rfl ?_
  refine jj_new (C := RX0) (T := TX0) (N := 10) (ci := 0) (fs := [.null, .null, .null, .null, .null, .null, .int 0, .int 0, .int 0, .int 0]) (ty := tyX0) (lv := [a0, a0]) (kc' := 14) (ks' := 398) (pc' := 19) dX3_init_16 rfl rfl inX0 tyX0_ok ⟨qw_26, qw_27, qw_28⟩ (by decide) (by simp) rfl (jm_live rfl) rfl rfl ⟨Nat.le_of_ble_eq_true rfl, Nat.le_of_ble_eq_true rfl⟩ hF (fun o105 h106 hF => ?_)
  refine jj_dup (pc' := 20) dX3_init_19 rfl rfl ?_
  refine jj_ini (N := M_X0_init) (as := []) (rest := [.ref o105, .ref a0]) (lv := [a0, o105, a0]) (kc' := 26) (ks' := 776) (pc' := 23) cf_X3_9 dX3_init_20 rfl rfl ⟨Nat.le_of_ble_eq_true rfl, Nat.le_of_ble_eq_true rfl⟩ ⟨Nat.le_of_ble_eq_true rfl, Nat.le_of_ble_eq_true rfl⟩ (Nat.le_of_ble_eq_true rfl) (fun X' hX => KX0_init hX) rfl (jm_live rfl) rfl rfl rfl hF (fun h107 hF => ?_)
  refine jj_pF (C := RX3) (T := TX3) (N := 8) (ci := 3) (k := 1) (ty := tyX3) (pc' := 26) dX3_init_23 rfl rfl inX3 tyX3_ok nmX3 (by decide) qw_30 rfl rfl rfl (fun _ => ⟨rfl, rfl⟩) hF (fun h108 hF => ?_)
  refine jj_aload_n (j := 0) (i := 0) (pc' := 27) dX3_init_26 rfl rfl rfl ?_
  refine jj_bipush (v := (6 : Int32)) (pc' := 29) dX3_init_27 rfl rfl ?_
  refine jj_nq (n := 6) (lv := [a0, a0]) (kc' := 27) (ks' := 782) (pc' := 32) dX3_init_29 rfl qw_26 ⟨by decide, by decide, by decide⟩ rfl (jm_live rfl) rfl rfl ⟨Nat.le_of_ble_eq_true rfl, Nat.le_of_ble_eq_true rfl⟩ hF (fun o109 h110 hF => ?_)
  refine jj_pF (C := RX3) (T := TX3) (N := 8) (ci := 3) (k := 2) (ty := tyX3) (pc' := 35) dX3_init_32 rfl rfl inX3 tyX3_ok nmX3 (by decide) qw_31 rfl rfl rfl (fun _ => ⟨rfl, rfl⟩) hF (fun h111 hF => ?_)
  refine jj_iconst (v := (0 : Int32)) (pc' := 36) dX3_init_35 rfl rfl ?_
  refine jj_istore_n (i := 1) (ls' := [(1, .int ((0 : Int32))), (0, .ref a0)]) (pc' := 37) dX3_init_36 rfl (Nat.le_of_ble_eq_true rfl) rfl rfl ?_
  exact jj_pick [1, 0] rfl (BX3_init_37 N N 27 782 a0 ((0 : Int32)) h111 _ hF)
theorem KX3_init {N : Nat} {a0 : Nat} {h : jm_H} {X : jm_X} (hF : FX3_init N a0 h = some X) : jm_K M_X3_init [.ref a0] h X := jk_of rfl (by decide +kernel) rfl rfl (Nat.le_of_ble_eq_true rfl) (JX3_init hF)
set_option maxRecDepth 100000 in
set_option maxHeartbeats 4000000 in
theorem JX3_isWithin {x0 : Int32} {x1 : Int32} {x2 : Int32} {h : jm_H} {X : jm_X} (hF : FX3_isWithin x0 x1 x2 h = some X) : jm_J M_X3_isWithin 0 [(0, .int x0), (1, .int x1), (2, .int x2)] [] h 0 0 X := by
  unfold FX3_isWithin at hF
  refine jj_iload_n (j := 0) (i := 0) (pc' := 1) dX3_isWithin_0 rfl rfl rfl ?_
  refine jj_iload_n (j := 1) (i := 1) (pc' := 2) dX3_isWithin_1 rfl rfl rfl ?_
  refine jj_icmp_lt (tgt := 14) (pc' := 5) dX3_isWithin_2 rfl rfl (fun hc hF => ?_) (fun hc hF => ?_) hF
  · skip
    refine jj_iconst (v := (0 : Int32)) (pc' := 15) dX3_isWithin_14 rfl rfl ?_
    exact jj_retI (ty := .boolean) rfl rfl dX3_isWithin_15 ⟨Nat.le_of_ble_eq_true rfl, Nat.le_of_ble_eq_true rfl⟩ hF
  · skip
    refine jj_iload_n (j := 0) (i := 0) (pc' := 6) dX3_isWithin_5 rfl rfl rfl ?_
    refine jj_iload_n (j := 2) (i := 2) (pc' := 7) dX3_isWithin_6 rfl rfl rfl ?_
    refine jj_icmp_gt (tgt := 14) (pc' := 10) dX3_isWithin_7 rfl rfl (fun hc hF => ?_) (fun hc hF => ?_) hF
    · skip
      refine jj_iconst (v := (0 : Int32)) (pc' := 15) dX3_isWithin_14 rfl rfl ?_
      exact jj_retI (ty := .boolean) rfl rfl dX3_isWithin_15 ⟨Nat.le_of_ble_eq_true rfl, Nat.le_of_ble_eq_true rfl⟩ hF
    · skip
      refine jj_iconst (v := (1 : Int32)) (pc' := 11) dX3_isWithin_10 rfl rfl ?_
      refine jj_goto (tgt := 15) dX3_isWithin_11 rfl ?_
      exact jj_retI (ty := .boolean) rfl rfl dX3_isWithin_15 ⟨Nat.le_of_ble_eq_true rfl, Nat.le_of_ble_eq_true rfl⟩ hF
theorem KX3_isWithin {x0 : Int32} {x1 : Int32} {x2 : Int32} {h : jm_H} {X : jm_X} (hF : FX3_isWithin x0 x1 x2 h = some X) : jm_K M_X3_isWithin [.int x0, .int x1, .int x2] h X := jk_of rfl (by decide +kernel) rfl rfl (Nat.le_of_ble_eq_true rfl) (JX3_isWithin hF)
set_option maxRecDepth 100000 in
set_option maxHeartbeats 4000000 in
theorem JX3_requireArgument {x0 : Int32} {h : jm_H} {X : jm_X} (hF : FX3_requireArgument x0 h = some X) : jm_J M_X3_requireArgument 0 [(0, .int x0)] [] h 0 0 X := by
  unfold FX3_requireArgument at hF
  refine jj_iload_n (j := 0) (i := 0) (pc' := 1) dX3_requireArgument_0 rfl rfl rfl ?_
  refine jj_if_ne (tgt := 15) (pc' := 4) dX3_requireArgument_1 rfl rfl (fun hc hF => ?_) (fun hc hF => ?_) hF
  · skip
    exact jj_retV rfl dX3_requireArgument_15 ⟨Nat.le_of_ble_eq_true rfl, Nat.le_of_ble_eq_true rfl⟩ hF
  · skip
    exact jj_throwW (text := "an argument is out of range") tf_X3_288_292 (by decide) dX3_requireArgument_4 dX3_requireArgument_7 dX3_requireArgument_8 dX3_requireArgument_11 dX3_requireArgument_14 rfl ⟨Nat.le_of_ble_eq_true rfl, Nat.le_of_ble_eq_true rfl⟩ ⟨Nat.le_of_ble_eq_true rfl, Nat.le_of_ble_eq_true rfl⟩ hF
theorem KX3_requireArgument {x0 : Int32} {h : jm_H} {X : jm_X} (hF : FX3_requireArgument x0 h = some X) : jm_K M_X3_requireArgument [.int x0] h X := jk_of rfl (by decide +kernel) rfl rfl (Nat.le_of_ble_eq_true rfl) (JX3_requireArgument hF)
set_option maxRecDepth 100000 in
set_option maxHeartbeats 4000000 in
theorem BX3_dropOldest_18 (N : Nat) : ∀ (n : Nat) (a0 : Nat) (a1 : Nat) (x2 : Int32) (h : jm_H) (X : jm_X), FX3_dropOldest_18 N n a0 a1 x2 h = some X → jm_J M_X3_dropOldest 18 [(0, .ref a0), (1, .ref a1), (2, .int x2)] [] h 0 0 X := by
  intro n
  induction n with
  | zero =>
    intro a0 a1 x2 h X hF
    exact nomatch (show (none : Option jm_X) = some X from hF)
  | succ n ih =>
    intro a0 a1 x2 h X hF
    rw [FX3_dropOldest_18] at hF
    refine jj_iload_n (j := 2) (i := 2) (pc' := 19) dX3_dropOldest_18 rfl rfl rfl ?_
    refine jj_aload_n (j := 0) (i := 0) (pc' := 20) dX3_dropOldest_19 rfl rfl rfl ?_
    refine jj_gR (C := RX3) (T := TX3) (N := 8) (ci := 3) (k := 2) (pc' := 23) dX3_dropOldest_20 rfl rfl inX3 (by decide) qw_31 hF (fun r101 hF => ?_)
    refine jj_len (pc' := 24) dX3_dropOldest_23 rfl hF (fun x102 hF => ?_)
    refine jj_icmp_ge (tgt := 47) (pc' := 27) dX3_dropOldest_24 rfl rfl (fun hc hF => ?_) (fun hc hF => ?_) hF
    · skip
      refine jj_aload_n (j := 0) (i := 0) (pc' := 48) dX3_dropOldest_47 rfl rfl rfl ?_
      refine jj_gR (C := RX3) (T := TX3) (N := 8) (ci := 3) (k := 2) (pc' := 51) dX3_dropOldest_48 rfl rfl inX3 (by decide) qw_31 hF (fun r103 hF => ?_)
      refine jj_aload_n (j := 0) (i := 0) (pc' := 52) dX3_dropOldest_51 rfl rfl rfl ?_
      refine jj_gR (C := RX3) (T := TX3) (N := 8) (ci := 3) (k := 2) (pc' := 55) dX3_dropOldest_52 rfl rfl inX3 (by decide) qw_31 hF (fun r104 hF => ?_)
      refine jj_len (pc' := 56) dX3_dropOldest_55 rfl hF (fun x105 hF => ?_)
      refine jj_iconst (v := (1 : Int32)) (pc' := 57) dX3_dropOldest_56 rfl rfl ?_
      refine jj_isub (pc' := 58) dX3_dropOldest_57 rfl ?_
      refine jj_aload_n (j := 1) (i := 1) (pc' := 59) dX3_dropOldest_58 rfl rfl rfl ?_
      refine jj_stA (pc' := 60) dX3_dropOldest_59 rfl hF (fun h106 hF => ?_)
      refine jj_aload_n (j := 0) (i := 0) (pc' := 61) dX3_dropOldest_60 rfl rfl rfl ?_
      refine jj_aload_n (j := 0) (i := 0) (pc' := 62) dX3_dropOldest_61 rfl rfl rfl ?_
      refine jj_gR (C := RX3) (T := TX3) (N := 8) (ci := 3) (k := 2) (pc' := 65) dX3_dropOldest_62 rfl rfl inX3 (by decide) qw_31 hF (fun r107 hF => ?_)
      refine jj_len (pc' := 66) dX3_dropOldest_65 rfl hF (fun x108 hF => ?_)
      refine jj_iconst (v := (1 : Int32)) (pc' := 67) dX3_dropOldest_66 rfl rfl ?_
      refine jj_isub (pc' := 68) dX3_dropOldest_67 rfl ?_
      refine jj_p (C := RX3) (T := TX3) (N := 8) (ci := 3) (k := 6) (ty := tyX3) (pc' := 71) dX3_dropOldest_68 rfl rfl inX3 tyX3_ok nmX3 (by decide) qw_37 rfl (fun _ => ⟨rfl, rfl⟩) hF (fun h109 hF => ?_)
      exact jj_retV rfl dX3_dropOldest_71 ⟨Nat.le_of_ble_eq_true rfl, Nat.le_of_ble_eq_true rfl⟩ hF
    · skip
      refine jj_aload_n (j := 0) (i := 0) (pc' := 28) dX3_dropOldest_27 rfl rfl rfl ?_
      refine jj_gR (C := RX3) (T := TX3) (N := 8) (ci := 3) (k := 2) (pc' := 31) dX3_dropOldest_28 rfl rfl inX3 (by decide) qw_31 hF (fun r110 hF => ?_)
      refine jj_iload_n (j := 2) (i := 2) (pc' := 32) dX3_dropOldest_31 rfl rfl rfl ?_
      refine jj_iconst (v := (1 : Int32)) (pc' := 33) dX3_dropOldest_32 rfl rfl ?_
      refine jj_isub (pc' := 34) dX3_dropOldest_33 rfl ?_
      refine jj_aload_n (j := 0) (i := 0) (pc' := 35) dX3_dropOldest_34 rfl rfl rfl ?_
      refine jj_gR (C := RX3) (T := TX3) (N := 8) (ci := 3) (k := 2) (pc' := 38) dX3_dropOldest_35 rfl rfl inX3 (by decide) qw_31 hF (fun r111 hF => ?_)
      refine jj_iload_n (j := 2) (i := 2) (pc' := 39) dX3_dropOldest_38 rfl rfl rfl ?_
      refine jj_ldA (pc' := 40) dX3_dropOldest_39 rfl hF (fun r112 hF => ?_)
      refine jj_stA (pc' := 41) dX3_dropOldest_40 rfl hF (fun h113 hF => ?_)
      refine jj_iinc (i := 2) (j := 2) (v := x2 + (1 : Int32)) (ls' := [(2, .int (x2 + (1 : Int32))), (0, .ref a0), (1, .ref a1)]) (pc' := 44) dX3_dropOldest_41 rfl rfl (Nat.le_of_ble_eq_true rfl) rfl rfl ?_
      refine jj_goto (tgt := 18) dX3_dropOldest_44 rfl ?_
      exact jj_pick [1, 2, 0] rfl (ih a0 a1 (x2 + (1 : Int32)) h113 _ hF)
set_option maxRecDepth 100000 in
set_option maxHeartbeats 4000000 in
theorem JX3_dropOldest {N : Nat} {a0 : Nat} {h : jm_H} {X : jm_X} (hF : FX3_dropOldest N a0 h = some X) : jm_J M_X3_dropOldest 0 [(0, .ref a0)] [] h 0 0 X := by
  unfold FX3_dropOldest at hF
  refine jj_aload_n (j := 0) (i := 0) (pc' := 1) dX3_dropOldest_0 rfl rfl rfl ?_
  refine jj_gR (C := RX3) (T := TX3) (N := 8) (ci := 3) (k := 2) (pc' := 4) dX3_dropOldest_1 rfl rfl inX3 (by decide) qw_31 hF (fun r101 hF => ?_)
  refine jj_len (pc' := 5) dX3_dropOldest_4 rfl hF (fun x102 hF => ?_)
  refine jj_if_ne (tgt := 9) (pc' := 8) dX3_dropOldest_5 rfl rfl (fun hc hF => ?_) (fun hc hF => ?_) hF
  · skip
    refine jj_aload_n (j := 0) (i := 0) (pc' := 10) dX3_dropOldest_9 rfl rfl rfl ?_
    refine jj_gR (C := RX3) (T := TX3) (N := 8) (ci := 3) (k := 2) (pc' := 13) dX3_dropOldest_10 rfl rfl inX3 (by decide) qw_31 hF (fun r103 hF => ?_)
    refine jj_iconst (v := (0 : Int32)) (pc' := 14) dX3_dropOldest_13 rfl rfl ?_
    refine jj_ldA (pc' := 15) dX3_dropOldest_14 rfl hF (fun r104 hF => ?_)
    refine jj_astore_n (i := 1) (ls' := [(1, .ref r104), (0, .ref a0)]) (pc' := 16) dX3_dropOldest_15 rfl (Nat.le_of_ble_eq_true rfl) rfl rfl ?_
    refine jj_iconst (v := (1 : Int32)) (pc' := 17) dX3_dropOldest_16 rfl rfl ?_
    refine jj_istore_n (i := 2) (ls' := [(2, .int ((1 : Int32))), (1, .ref r104), (0, .ref a0)]) (pc' := 18) dX3_dropOldest_17 rfl (Nat.le_of_ble_eq_true rfl) rfl rfl ?_
    exact jj_pick [2, 1, 0] rfl (BX3_dropOldest_18 N N a0 r104 ((1 : Int32)) h _ hF)
  · skip
    exact jj_retV rfl dX3_dropOldest_8 ⟨Nat.le_of_ble_eq_true rfl, Nat.le_of_ble_eq_true rfl⟩ hF
theorem KX3_dropOldest {N : Nat} {a0 : Nat} {h : jm_H} {X : jm_X} (hF : FX3_dropOldest N a0 h = some X) : jm_K M_X3_dropOldest [.ref a0] h X := jk_of rfl (by decide +kernel) rfl rfl (Nat.le_of_ble_eq_true rfl) (JX3_dropOldest hF)
set_option maxRecDepth 100000 in
set_option maxHeartbeats 4000000 in
theorem JX2_takeRows {a0 : Nat} {a1 : Nat} {h : jm_H} {X : jm_X} (hF : FX2_takeRows a0 a1 h = some X) : jm_J M_X2_takeRows 0 [(0, .ref a0), (1, .ref a1)] [] h 0 0 X := by
  unfold FX2_takeRows at hF
  refine jj_aload_n (j := 1) (i := 1) (pc' := 1) dX2_takeRows_0 rfl rfl rfl ?_
  refine jj_gR (C := RX2) (T := TX2) (N := 3) (ci := 2) (k := 1) (pc' := 4) dX2_takeRows_1 rfl rfl inX2 (by decide) qw_9 hF (fun r101 hF => ?_)
  refine jj_len (pc' := 5) dX2_takeRows_4 rfl hF (fun x102 hF => ?_)
  refine jj_aload_n (j := 0) (i := 0) (pc' := 6) dX2_takeRows_5 rfl rfl rfl ?_
  refine jj_gR (C := RX2) (T := TX2) (N := 3) (ci := 2) (k := 1) (pc' := 9) dX2_takeRows_6 rfl rfl inX2 (by decide) qw_9 hF (fun r103 hF => ?_)
  refine jj_len (pc' := 10) dX2_takeRows_9 rfl hF (fun x104 hF => ?_)
  refine jj_icmp_ne (tgt := 39) (pc' := 13) dX2_takeRows_10 rfl rfl (fun hc hF => ?_) (fun hc hF => ?_) hF
  · skip
    exact jj_retV rfl dX2_takeRows_39 ⟨Nat.le_of_ble_eq_true rfl, Nat.le_of_ble_eq_true rfl⟩ hF
  · skip
    refine jj_aload_n (j := 1) (i := 1) (pc' := 14) dX2_takeRows_13 rfl rfl rfl ?_
    refine jj_gR (C := RX2) (T := TX2) (N := 3) (ci := 2) (k := 1) (pc' := 17) dX2_takeRows_14 rfl rfl inX2 (by decide) qw_9 hF (fun r105 hF => ?_)
    refine jj_iconst (v := (0 : Int32)) (pc' := 18) dX2_takeRows_17 rfl rfl ?_
    refine jj_aload_n (j := 0) (i := 0) (pc' := 19) dX2_takeRows_18 rfl rfl rfl ?_
    refine jj_gR (C := RX2) (T := TX2) (N := 3) (ci := 2) (k := 1) (pc' := 22) dX2_takeRows_19 rfl rfl inX2 (by decide) qw_9 hF (fun r106 hF => ?_)
    refine jj_iconst (v := (0 : Int32)) (pc' := 23) dX2_takeRows_22 rfl rfl ?_
    refine jj_aload_n (j := 0) (i := 0) (pc' := 24) dX2_takeRows_23 rfl rfl rfl ?_
    refine jj_gR (C := RX2) (T := TX2) (N := 3) (ci := 2) (k := 1) (pc' := 27) dX2_takeRows_24 rfl rfl inX2 (by decide) qw_9 hF (fun r107 hF => ?_)
    refine jj_len (pc' := 28) dX2_takeRows_27 rfl hF (fun x108 hF => ?_)
    refine jj_cp (pc' := 31) dX2_takeRows_28 rfl ⟨qw_38, qw_39, qw_40, qw_41⟩ ⟨Nat.le_of_ble_eq_true rfl, Nat.le_of_ble_eq_true rfl⟩ hF (fun h109 hF => ?_)
    refine jj_aload_n (j := 0) (i := 0) (pc' := 32) dX2_takeRows_31 rfl rfl rfl ?_
    refine jj_aload_n (j := 1) (i := 1) (pc' := 33) dX2_takeRows_32 rfl rfl rfl ?_
    refine jj_gI (C := RX2) (T := TX2) (N := 3) (ci := 2) (k := 2) (pc' := 36) dX2_takeRows_33 rfl rfl inX2 (by decide) qw_10 hF (fun x110 hF => ?_)
    refine jj_p (C := RX2) (T := TX2) (N := 3) (ci := 2) (k := 2) (ty := tyX2) (pc' := 39) dX2_takeRows_36 rfl rfl inX2 tyX2_ok nmX2 (by decide) qw_10 rfl (fun _ => ⟨rfl, rfl⟩) hF (fun h111 hF => ?_)
    exact jj_retV rfl dX2_takeRows_39 ⟨Nat.le_of_ble_eq_true rfl, Nat.le_of_ble_eq_true rfl⟩ hF
theorem KX2_takeRows {a0 : Nat} {a1 : Nat} {h : jm_H} {X : jm_X} (hF : FX2_takeRows a0 a1 h = some X) : jm_K M_X2_takeRows [.ref a0, .ref a1] h X := jk_of rfl (by decide +kernel) rfl rfl (Nat.le_of_ble_eq_true rfl) (JX2_takeRows hF)
set_option maxRecDepth 100000 in
set_option maxHeartbeats 4000000 in
theorem JX0_take {a0 : Nat} {a1 : Nat} {h : jm_H} {X : jm_X} (hF : FX0_take a0 a1 h = some X) : jm_J M_X0_take 0 [(0, .ref a0), (1, .ref a1)] [] h 0 0 X := by
  unfold FX0_take at hF
  refine jj_aload_n (j := 0) (i := 0) (pc' := 1) dX0_take_0 rfl rfl rfl ?_
  refine jj_gR (C := RX0) (T := TX0) (N := 10) (ci := 0) (k := 0) (pc' := 4) dX0_take_1 rfl rfl inX0 (by decide) qw_15 hF (fun r101 hF => ?_)
  refine jj_aload_n (j := 1) (i := 1) (pc' := 5) dX0_take_4 rfl rfl rfl ?_
  refine jj_gR (C := RX0) (T := TX0) (N := 10) (ci := 0) (k := 0) (pc' := 8) dX0_take_5 rfl rfl inX0 (by decide) qw_15 hF (fun r102 hF => ?_)
  refine jj_cV (N := M_X2_takeRows) (kc' := 0) (ks' := 0) (pc' := 11) (jg_V (N := M_X2_takeRows) (ci := 2) (rest := []) (as := [.ref r102]) cf_X0_53 dX0_take_8 ⟨rfl, rfl⟩ rfl rfl ⟨Nat.le_of_ble_eq_true rfl, Nat.le_of_ble_eq_true rfl⟩ ⟨Nat.le_of_ble_eq_true rfl, Nat.le_of_ble_eq_true rfl⟩ (Nat.le_of_ble_eq_true rfl) (fun X' hX => KX2_takeRows hX)) rfl rfl rfl rfl ⟨Nat.le_of_ble_eq_true rfl, Nat.le_of_ble_eq_true rfl⟩ rfl hF (fun h103 hF => ?_)
  refine jj_aload_n (j := 0) (i := 0) (pc' := 12) dX0_take_11 rfl rfl rfl ?_
  refine jj_gR (C := RX0) (T := TX0) (N := 10) (ci := 0) (k := 1) (pc' := 15) dX0_take_12 rfl rfl inX0 (by decide) qw_16 hF (fun r104 hF => ?_)
  refine jj_aload_n (j := 1) (i := 1) (pc' := 16) dX0_take_15 rfl rfl rfl ?_
  refine jj_gR (C := RX0) (T := TX0) (N := 10) (ci := 0) (k := 1) (pc' := 19) dX0_take_16 rfl rfl inX0 (by decide) qw_16 hF (fun r105 hF => ?_)
  refine jj_cV (N := M_X2_takeRows) (kc' := 0) (ks' := 0) (pc' := 22) (jg_V (N := M_X2_takeRows) (ci := 2) (rest := []) (as := [.ref r105]) cf_X0_53 dX0_take_19 ⟨rfl, rfl⟩ rfl rfl ⟨Nat.le_of_ble_eq_true rfl, Nat.le_of_ble_eq_true rfl⟩ ⟨Nat.le_of_ble_eq_true rfl, Nat.le_of_ble_eq_true rfl⟩ (Nat.le_of_ble_eq_true rfl) (fun X' hX => KX2_takeRows hX)) rfl rfl rfl rfl ⟨Nat.le_of_ble_eq_true rfl, Nat.le_of_ble_eq_true rfl⟩ rfl hF (fun h106 hF => ?_)
  refine jj_aload_n (j := 0) (i := 0) (pc' := 23) dX0_take_22 rfl rfl rfl ?_
  refine jj_gR (C := RX0) (T := TX0) (N := 10) (ci := 0) (k := 2) (pc' := 26) dX0_take_23 rfl rfl inX0 (by decide) qw_17 hF (fun r107 hF => ?_)
  refine jj_aload_n (j := 1) (i := 1) (pc' := 27) dX0_take_26 rfl rfl rfl ?_
  refine jj_gR (C := RX0) (T := TX0) (N := 10) (ci := 0) (k := 2) (pc' := 30) dX0_take_27 rfl rfl inX0 (by decide) qw_17 hF (fun r108 hF => ?_)
  refine jj_cV (N := M_X2_takeRows) (kc' := 0) (ks' := 0) (pc' := 33) (jg_V (N := M_X2_takeRows) (ci := 2) (rest := []) (as := [.ref r108]) cf_X0_53 dX0_take_30 ⟨rfl, rfl⟩ rfl rfl ⟨Nat.le_of_ble_eq_true rfl, Nat.le_of_ble_eq_true rfl⟩ ⟨Nat.le_of_ble_eq_true rfl, Nat.le_of_ble_eq_true rfl⟩ (Nat.le_of_ble_eq_true rfl) (fun X' hX => KX2_takeRows hX)) rfl rfl rfl rfl ⟨Nat.le_of_ble_eq_true rfl, Nat.le_of_ble_eq_true rfl⟩ rfl hF (fun h109 hF => ?_)
  refine jj_aload_n (j := 0) (i := 0) (pc' := 34) dX0_take_33 rfl rfl rfl ?_
  refine jj_gR (C := RX0) (T := TX0) (N := 10) (ci := 0) (k := 3) (pc' := 37) dX0_take_34 rfl rfl inX0 (by decide) qw_18 hF (fun r110 hF => ?_)
  refine jj_aload_n (j := 1) (i := 1) (pc' := 38) dX0_take_37 rfl rfl rfl ?_
  refine jj_gR (C := RX0) (T := TX0) (N := 10) (ci := 0) (k := 3) (pc' := 41) dX0_take_38 rfl rfl inX0 (by decide) qw_18 hF (fun r111 hF => ?_)
  refine jj_cV (N := M_X2_takeRows) (kc' := 0) (ks' := 0) (pc' := 44) (jg_V (N := M_X2_takeRows) (ci := 2) (rest := []) (as := [.ref r111]) cf_X0_53 dX0_take_41 ⟨rfl, rfl⟩ rfl rfl ⟨Nat.le_of_ble_eq_true rfl, Nat.le_of_ble_eq_true rfl⟩ ⟨Nat.le_of_ble_eq_true rfl, Nat.le_of_ble_eq_true rfl⟩ (Nat.le_of_ble_eq_true rfl) (fun X' hX => KX2_takeRows hX)) rfl rfl rfl rfl ⟨Nat.le_of_ble_eq_true rfl, Nat.le_of_ble_eq_true rfl⟩ rfl hF (fun h112 hF => ?_)
  refine jj_aload_n (j := 0) (i := 0) (pc' := 45) dX0_take_44 rfl rfl rfl ?_
  refine jj_gR (C := RX0) (T := TX0) (N := 10) (ci := 0) (k := 4) (pc' := 48) dX0_take_45 rfl rfl inX0 (by decide) qw_19 hF (fun r113 hF => ?_)
  refine jj_aload_n (j := 1) (i := 1) (pc' := 49) dX0_take_48 rfl rfl rfl ?_
  refine jj_gR (C := RX0) (T := TX0) (N := 10) (ci := 0) (k := 4) (pc' := 52) dX0_take_49 rfl rfl inX0 (by decide) qw_19 hF (fun r114 hF => ?_)
  refine jj_cV (N := M_X2_takeRows) (kc' := 0) (ks' := 0) (pc' := 55) (jg_V (N := M_X2_takeRows) (ci := 2) (rest := []) (as := [.ref r114]) cf_X0_53 dX0_take_52 ⟨rfl, rfl⟩ rfl rfl ⟨Nat.le_of_ble_eq_true rfl, Nat.le_of_ble_eq_true rfl⟩ ⟨Nat.le_of_ble_eq_true rfl, Nat.le_of_ble_eq_true rfl⟩ (Nat.le_of_ble_eq_true rfl) (fun X' hX => KX2_takeRows hX)) rfl rfl rfl rfl ⟨Nat.le_of_ble_eq_true rfl, Nat.le_of_ble_eq_true rfl⟩ rfl hF (fun h115 hF => ?_)
  refine jj_aload_n (j := 0) (i := 0) (pc' := 56) dX0_take_55 rfl rfl rfl ?_
  refine jj_gR (C := RX0) (T := TX0) (N := 10) (ci := 0) (k := 5) (pc' := 59) dX0_take_56 rfl rfl inX0 (by decide) qw_20 hF (fun r116 hF => ?_)
  refine jj_aload_n (j := 1) (i := 1) (pc' := 60) dX0_take_59 rfl rfl rfl ?_
  refine jj_gR (C := RX0) (T := TX0) (N := 10) (ci := 0) (k := 5) (pc' := 63) dX0_take_60 rfl rfl inX0 (by decide) qw_20 hF (fun r117 hF => ?_)
  refine jj_cV (N := M_X2_takeRows) (kc' := 0) (ks' := 0) (pc' := 66) (jg_V (N := M_X2_takeRows) (ci := 2) (rest := []) (as := [.ref r117]) cf_X0_53 dX0_take_63 ⟨rfl, rfl⟩ rfl rfl ⟨Nat.le_of_ble_eq_true rfl, Nat.le_of_ble_eq_true rfl⟩ ⟨Nat.le_of_ble_eq_true rfl, Nat.le_of_ble_eq_true rfl⟩ (Nat.le_of_ble_eq_true rfl) (fun X' hX => KX2_takeRows hX)) rfl rfl rfl rfl ⟨Nat.le_of_ble_eq_true rfl, Nat.le_of_ble_eq_true rfl⟩ rfl hF (fun h118 hF => ?_)
  refine jj_aload_n (j := 0) (i := 0) (pc' := 67) dX0_take_66 rfl rfl rfl ?_
  refine jj_aload_n (j := 1) (i := 1) (pc' := 68) dX0_take_67 rfl rfl rfl ?_
  refine jj_gI (C := RX0) (T := TX0) (N := 10) (ci := 0) (k := 6) (pc' := 71) dX0_take_68 rfl rfl inX0 (by decide) qw_42 hF (fun x119 hF => ?_)
  refine jj_p (C := RX0) (T := TX0) (N := 10) (ci := 0) (k := 6) (ty := tyX0) (pc' := 74) dX0_take_71 rfl rfl inX0 tyX0_ok nmX0 (by decide) qw_42 rfl (fun _ => ⟨rfl, rfl⟩) hF (fun h120 hF => ?_)
  refine jj_aload_n (j := 0) (i := 0) (pc' := 75) dX0_take_74 rfl rfl rfl ?_
  refine jj_aload_n (j := 1) (i := 1) (pc' := 76) dX0_take_75 rfl rfl rfl ?_
  refine jj_gI (C := RX0) (T := TX0) (N := 10) (ci := 0) (k := 7) (pc' := 79) dX0_take_76 rfl rfl inX0 (by decide) qw_21 hF (fun x121 hF => ?_)
  refine jj_p (C := RX0) (T := TX0) (N := 10) (ci := 0) (k := 7) (ty := tyX0) (pc' := 82) dX0_take_79 rfl rfl inX0 tyX0_ok nmX0 (by decide) qw_21 rfl (fun _ => ⟨rfl, rfl⟩) hF (fun h122 hF => ?_)
  refine jj_aload_n (j := 0) (i := 0) (pc' := 83) dX0_take_82 rfl rfl rfl ?_
  refine jj_aload_n (j := 1) (i := 1) (pc' := 84) dX0_take_83 rfl rfl rfl ?_
  refine jj_gI (C := RX0) (T := TX0) (N := 10) (ci := 0) (k := 8) (pc' := 87) dX0_take_84 rfl rfl inX0 (by decide) qw_22 hF (fun x123 hF => ?_)
  refine jj_p (C := RX0) (T := TX0) (N := 10) (ci := 0) (k := 8) (ty := tyX0) (pc' := 90) dX0_take_87 rfl rfl inX0 tyX0_ok nmX0 (by decide) qw_22 rfl (fun _ => ⟨rfl, rfl⟩) hF (fun h124 hF => ?_)
  refine jj_aload_n (j := 0) (i := 0) (pc' := 91) dX0_take_90 rfl rfl rfl ?_
  refine jj_aload_n (j := 1) (i := 1) (pc' := 92) dX0_take_91 rfl rfl rfl ?_
  refine jj_gI (C := RX0) (T := TX0) (N := 10) (ci := 0) (k := 9) (pc' := 95) dX0_take_92 rfl rfl inX0 (by decide) qw_23 hF (fun x125 hF => ?_)
  refine jj_p (C := RX0) (T := TX0) (N := 10) (ci := 0) (k := 9) (ty := tyX0) (pc' := 98) dX0_take_95 rfl rfl inX0 tyX0_ok nmX0 (by decide) qw_23 rfl (fun _ => ⟨rfl, rfl⟩) hF (fun h126 hF => ?_)
  exact jj_retV rfl dX0_take_98 ⟨Nat.le_of_ble_eq_true rfl, Nat.le_of_ble_eq_true rfl⟩ hF
theorem KX0_take {a0 : Nat} {a1 : Nat} {h : jm_H} {X : jm_X} (hF : FX0_take a0 a1 h = some X) : jm_K M_X0_take [.ref a0, .ref a1] h X := jk_of rfl (by decide +kernel) rfl rfl (Nat.le_of_ble_eq_true rfl) (JX0_take hF)
set_option maxRecDepth 100000 in
set_option maxHeartbeats 4000000 in
theorem JX3_copyState {a0 : Nat} {a1 : Nat} {h : jm_H} {X : jm_X} (hF : FX3_copyState a0 a1 h = some X) : jm_J M_X3_copyState 0 [(0, .ref a0), (1, .ref a1)] [] h 0 0 X := by
  unfold FX3_copyState at hF
  refine jj_aload_n (j := 0) (i := 0) (pc' := 1) dX3_copyState_0 rfl rfl rfl ?_
  refine jj_ifnull (pc' := 4) dX3_copyState_1 rfl ?_
  refine jj_aload_n (j := 1) (i := 1) (pc' := 5) dX3_copyState_4 rfl rfl rfl ?_
  refine jj_ifnull (pc' := 8) dX3_copyState_5 rfl ?_
  refine jj_aload_n (j := 1) (i := 1) (pc' := 9) dX3_copyState_8 rfl rfl rfl ?_
  refine jj_aload_n (j := 0) (i := 0) (pc' := 10) dX3_copyState_9 rfl rfl rfl ?_
  refine jj_cV (N := M_X0_take) (kc' := 0) (ks' := 0) (pc' := 13) (jg_V (N := M_X0_take) (ci := 0) (rest := []) (as := [.ref a0]) cf_X3_298 dX3_copyState_10 ⟨rfl, rfl⟩ rfl rfl ⟨Nat.le_of_ble_eq_true rfl, Nat.le_of_ble_eq_true rfl⟩ ⟨Nat.le_of_ble_eq_true rfl, Nat.le_of_ble_eq_true rfl⟩ (Nat.le_of_ble_eq_true rfl) (fun X' hX => KX0_take hX)) rfl rfl rfl rfl ⟨Nat.le_of_ble_eq_true rfl, Nat.le_of_ble_eq_true rfl⟩ rfl hF (fun h101 hF => ?_)
  exact jj_retV rfl dX3_copyState_13 ⟨Nat.le_of_ble_eq_true rfl, Nat.le_of_ble_eq_true rfl⟩ hF
theorem KX3_copyState {a0 : Nat} {a1 : Nat} {h : jm_H} {X : jm_X} (hF : FX3_copyState a0 a1 h = some X) : jm_K M_X3_copyState [.ref a0, .ref a1] h X := jk_of rfl (by decide +kernel) rfl rfl (Nat.le_of_ble_eq_true rfl) (JX3_copyState hF)
set_option maxRecDepth 100000 in
set_option maxHeartbeats 4000000 in
theorem JX3_save {N : Nat} {a0 : Nat} {h : jm_H} {X : jm_X} (hF : FX3_save N a0 h = some X) : jm_J M_X3_save 0 [(0, .ref a0)] [] h 0 0 X := by
  unfold FX3_save at hF
  refine jj_aload_n (j := 0) (i := 0) (pc' := 1) dX3_save_0 rfl rfl rfl ?_
  refine jj_gI (C := RX3) (T := TX3) (N := 8) (ci := 3) (k := 6) (pc' := 4) dX3_save_1 rfl rfl inX3 (by decide) qw_37 hF (fun x101 hF => ?_)
  refine jj_aload_n (j := 0) (i := 0) (pc' := 5) dX3_save_4 rfl rfl rfl ?_
  refine jj_gR (C := RX3) (T := TX3) (N := 8) (ci := 3) (k := 2) (pc' := 8) dX3_save_5 rfl rfl inX3 (by decide) qw_31 hF (fun r102 hF => ?_)
  refine jj_len (pc' := 9) dX3_save_8 rfl hF (fun x103 hF => ?_)
  refine jj_icmp_lt (tgt := 16) (pc' := 12) dX3_save_9 rfl rfl (fun hc hF => ?_) (fun hc hF => ?_) hF
  · skip
    refine jj_aload_n (j := 0) (i := 0) (pc' := 17) dX3_save_16 rfl rfl rfl ?_
    refine jj_gI (C := RX3) (T := TX3) (N := 8) (ci := 3) (k := 6) (pc' := 20) dX3_save_17 rfl rfl inX3 (by decide) qw_37 hF (fun x104 hF => ?_)
    refine jj_if_lt (tgt := 61) (pc' := 23) dX3_save_20 rfl rfl (fun hc hF => ?_) (fun hc hF => ?_) hF
    · skip
      exact jj_retV rfl dX3_save_61 ⟨Nat.le_of_ble_eq_true rfl, Nat.le_of_ble_eq_true rfl⟩ hF
    · skip
      refine jj_aload_n (j := 0) (i := 0) (pc' := 24) dX3_save_23 rfl rfl rfl ?_
      refine jj_gI (C := RX3) (T := TX3) (N := 8) (ci := 3) (k := 6) (pc' := 27) dX3_save_24 rfl rfl inX3 (by decide) qw_37 hF (fun x105 hF => ?_)
      refine jj_aload_n (j := 0) (i := 0) (pc' := 28) dX3_save_27 rfl rfl rfl ?_
      refine jj_gR (C := RX3) (T := TX3) (N := 8) (ci := 3) (k := 2) (pc' := 31) dX3_save_28 rfl rfl inX3 (by decide) qw_31 hF (fun r106 hF => ?_)
      refine jj_len (pc' := 32) dX3_save_31 rfl hF (fun x107 hF => ?_)
      refine jj_icmp_ge (tgt := 61) (pc' := 35) dX3_save_32 rfl rfl (fun hc hF => ?_) (fun hc hF => ?_) hF
      · skip
        exact jj_retV rfl dX3_save_61 ⟨Nat.le_of_ble_eq_true rfl, Nat.le_of_ble_eq_true rfl⟩ hF
      · skip
        refine jj_aload_n (j := 0) (i := 0) (pc' := 36) dX3_save_35 rfl rfl rfl ?_
        refine jj_gR (C := RX3) (T := TX3) (N := 8) (ci := 3) (k := 0) (pc' := 39) dX3_save_36 rfl rfl inX3 (by decide) qw_29 hF (fun r108 hF => ?_)
        refine jj_aload_n (j := 0) (i := 0) (pc' := 40) dX3_save_39 rfl rfl rfl ?_
        refine jj_gR (C := RX3) (T := TX3) (N := 8) (ci := 3) (k := 2) (pc' := 43) dX3_save_40 rfl rfl inX3 (by decide) qw_31 hF (fun r109 hF => ?_)
        refine jj_aload_n (j := 0) (i := 0) (pc' := 44) dX3_save_43 rfl rfl rfl ?_
        refine jj_gI (C := RX3) (T := TX3) (N := 8) (ci := 3) (k := 6) (pc' := 47) dX3_save_44 rfl rfl inX3 (by decide) qw_37 hF (fun x110 hF => ?_)
        refine jj_ldA (pc' := 48) dX3_save_47 rfl hF (fun r111 hF => ?_)
        refine jj_cV (N := M_X3_copyState) (kc' := 0) (ks' := 0) (pc' := 51) (jg_S (N := M_X3_copyState) (rest := []) (as := [.ref r108, .ref r111]) cf_X3_183 rfl dX3_save_48 rfl rfl ⟨Nat.le_of_ble_eq_true rfl, Nat.le_of_ble_eq_true rfl⟩ ⟨Nat.le_of_ble_eq_true rfl, Nat.le_of_ble_eq_true rfl⟩ (Nat.le_of_ble_eq_true rfl) (fun X' hX => KX3_copyState hX)) rfl rfl rfl rfl ⟨Nat.le_of_ble_eq_true rfl, Nat.le_of_ble_eq_true rfl⟩ rfl hF (fun h112 hF => ?_)
        refine jj_aload_n (j := 0) (i := 0) (pc' := 52) dX3_save_51 rfl rfl rfl ?_
        refine jj_dup (pc' := 53) dX3_save_52 rfl rfl ?_
        refine jj_gI (C := RX3) (T := TX3) (N := 8) (ci := 3) (k := 6) (pc' := 56) dX3_save_53 rfl rfl inX3 (by decide) qw_37 hF (fun x113 hF => ?_)
        refine jj_iconst (v := (1 : Int32)) (pc' := 57) dX3_save_56 rfl rfl ?_
        refine jj_iadd (pc' := 58) dX3_save_57 rfl ?_
        refine jj_p (C := RX3) (T := TX3) (N := 8) (ci := 3) (k := 6) (ty := tyX3) (pc' := 61) dX3_save_58 rfl rfl inX3 tyX3_ok nmX3 (by decide) qw_37 rfl (fun _ => ⟨rfl, rfl⟩) hF (fun h114 hF => ?_)
        exact jj_retV rfl dX3_save_61 ⟨Nat.le_of_ble_eq_true rfl, Nat.le_of_ble_eq_true rfl⟩ hF
  · skip
    refine jj_aload_n (j := 0) (i := 0) (pc' := 13) dX3_save_12 rfl rfl rfl ?_
    refine jj_cV (N := M_X3_dropOldest) (kc' := 0) (ks' := 0) (pc' := 16) (jg_V (N := M_X3_dropOldest) (ci := 3) (rest := []) (as := []) cf_X3_295 dX3_save_13 ⟨rfl, rfl⟩ rfl rfl ⟨Nat.le_of_ble_eq_true rfl, Nat.le_of_ble_eq_true rfl⟩ ⟨Nat.le_of_ble_eq_true rfl, Nat.le_of_ble_eq_true rfl⟩ (Nat.le_of_ble_eq_true rfl) (fun X' hX => KX3_dropOldest hX)) rfl rfl rfl rfl ⟨Nat.le_of_ble_eq_true rfl, Nat.le_of_ble_eq_true rfl⟩ rfl hF (fun h115 hF => ?_)
    refine jj_aload_n (j := 0) (i := 0) (pc' := 17) dX3_save_16 rfl rfl rfl ?_
    refine jj_gI (C := RX3) (T := TX3) (N := 8) (ci := 3) (k := 6) (pc' := 20) dX3_save_17 rfl rfl inX3 (by decide) qw_37 hF (fun x116 hF => ?_)
    refine jj_if_lt (tgt := 61) (pc' := 23) dX3_save_20 rfl rfl (fun hc hF => ?_) (fun hc hF => ?_) hF
    · skip
      exact jj_retV rfl dX3_save_61 ⟨Nat.le_of_ble_eq_true rfl, Nat.le_of_ble_eq_true rfl⟩ hF
    · skip
      refine jj_aload_n (j := 0) (i := 0) (pc' := 24) dX3_save_23 rfl rfl rfl ?_
      refine jj_gI (C := RX3) (T := TX3) (N := 8) (ci := 3) (k := 6) (pc' := 27) dX3_save_24 rfl rfl inX3 (by decide) qw_37 hF (fun x117 hF => ?_)
      refine jj_aload_n (j := 0) (i := 0) (pc' := 28) dX3_save_27 rfl rfl rfl ?_
      refine jj_gR (C := RX3) (T := TX3) (N := 8) (ci := 3) (k := 2) (pc' := 31) dX3_save_28 rfl rfl inX3 (by decide) qw_31 hF (fun r118 hF => ?_)
      refine jj_len (pc' := 32) dX3_save_31 rfl hF (fun x119 hF => ?_)
      refine jj_icmp_ge (tgt := 61) (pc' := 35) dX3_save_32 rfl rfl (fun hc hF => ?_) (fun hc hF => ?_) hF
      · skip
        exact jj_retV rfl dX3_save_61 ⟨Nat.le_of_ble_eq_true rfl, Nat.le_of_ble_eq_true rfl⟩ hF
      · skip
        refine jj_aload_n (j := 0) (i := 0) (pc' := 36) dX3_save_35 rfl rfl rfl ?_
        refine jj_gR (C := RX3) (T := TX3) (N := 8) (ci := 3) (k := 0) (pc' := 39) dX3_save_36 rfl rfl inX3 (by decide) qw_29 hF (fun r120 hF => ?_)
        refine jj_aload_n (j := 0) (i := 0) (pc' := 40) dX3_save_39 rfl rfl rfl ?_
        refine jj_gR (C := RX3) (T := TX3) (N := 8) (ci := 3) (k := 2) (pc' := 43) dX3_save_40 rfl rfl inX3 (by decide) qw_31 hF (fun r121 hF => ?_)
        refine jj_aload_n (j := 0) (i := 0) (pc' := 44) dX3_save_43 rfl rfl rfl ?_
        refine jj_gI (C := RX3) (T := TX3) (N := 8) (ci := 3) (k := 6) (pc' := 47) dX3_save_44 rfl rfl inX3 (by decide) qw_37 hF (fun x122 hF => ?_)
        refine jj_ldA (pc' := 48) dX3_save_47 rfl hF (fun r123 hF => ?_)
        refine jj_cV (N := M_X3_copyState) (kc' := 0) (ks' := 0) (pc' := 51) (jg_S (N := M_X3_copyState) (rest := []) (as := [.ref r120, .ref r123]) cf_X3_183 rfl dX3_save_48 rfl rfl ⟨Nat.le_of_ble_eq_true rfl, Nat.le_of_ble_eq_true rfl⟩ ⟨Nat.le_of_ble_eq_true rfl, Nat.le_of_ble_eq_true rfl⟩ (Nat.le_of_ble_eq_true rfl) (fun X' hX => KX3_copyState hX)) rfl rfl rfl rfl ⟨Nat.le_of_ble_eq_true rfl, Nat.le_of_ble_eq_true rfl⟩ rfl hF (fun h124 hF => ?_)
        refine jj_aload_n (j := 0) (i := 0) (pc' := 52) dX3_save_51 rfl rfl rfl ?_
        refine jj_dup (pc' := 53) dX3_save_52 rfl rfl ?_
        refine jj_gI (C := RX3) (T := TX3) (N := 8) (ci := 3) (k := 6) (pc' := 56) dX3_save_53 rfl rfl inX3 (by decide) qw_37 hF (fun x125 hF => ?_)
        refine jj_iconst (v := (1 : Int32)) (pc' := 57) dX3_save_56 rfl rfl ?_
        refine jj_iadd (pc' := 58) dX3_save_57 rfl ?_
        refine jj_p (C := RX3) (T := TX3) (N := 8) (ci := 3) (k := 6) (ty := tyX3) (pc' := 61) dX3_save_58 rfl rfl inX3 tyX3_ok nmX3 (by decide) qw_37 rfl (fun _ => ⟨rfl, rfl⟩) hF (fun h126 hF => ?_)
        exact jj_retV rfl dX3_save_61 ⟨Nat.le_of_ble_eq_true rfl, Nat.le_of_ble_eq_true rfl⟩ hF
theorem KX3_save {N : Nat} {a0 : Nat} {h : jm_H} {X : jm_X} (hF : FX3_save N a0 h = some X) : jm_K M_X3_save [.ref a0] h X := jk_of rfl (by decide +kernel) rfl rfl (Nat.le_of_ble_eq_true rfl) (JX3_save hF)
set_option maxRecDepth 100000 in
set_option maxHeartbeats 4000000 in
theorem JX0_addFilm {a0 : Nat} {x1 : Int32} {x2 : Int32} {h : jm_H} {X : jm_X} (hF : FX0_addFilm a0 x1 x2 h = some X) : jm_J M_X0_addFilm 0 [(0, .ref a0), (1, .int x1), (2, .int x2)] [] h 0 0 X := by
  unfold FX0_addFilm at hF
  refine jj_aload_n (j := 0) (i := 0) (pc' := 1) dX0_addFilm_0 rfl rfl rfl ?_
  refine jj_gR (C := RX0) (T := TX0) (N := 10) (ci := 0) (k := 0) (pc' := 4) dX0_addFilm_1 rfl rfl inX0 (by decide) qw_15 hF (fun r101 hF => ?_)
  refine jj_cI (N := M_X2_addRow) (kc' := 0) (ks' := 0) (pc' := 7) (jg_V (N := M_X2_addRow) (ci := 2) (rest := []) (as := []) cf_X0_45 dX0_addFilm_4 ⟨rfl, rfl⟩ rfl rfl ⟨Nat.le_of_ble_eq_true rfl, Nat.le_of_ble_eq_true rfl⟩ ⟨Nat.le_of_ble_eq_true rfl, Nat.le_of_ble_eq_true rfl⟩ (Nat.le_of_ble_eq_true rfl) (fun X' hX => KX2_addRow hX)) rfl rfl rfl rfl ⟨Nat.le_of_ble_eq_true rfl, Nat.le_of_ble_eq_true rfl⟩ rfl hF (fun x103 h102 hF => ?_)
  refine jj_istore_n (i := 3) (ls' := [(3, .int x103), (0, .ref a0), (1, .int x1), (2, .int x2)]) (pc' := 8) dX0_addFilm_7 rfl (Nat.le_of_ble_eq_true rfl) rfl rfl ?_
  refine jj_aload_n (j := 1) (i := 0) (pc' := 9) dX0_addFilm_8 rfl rfl rfl ?_
  refine jj_gR (C := RX0) (T := TX0) (N := 10) (ci := 0) (k := 0) (pc' := 12) dX0_addFilm_9 rfl rfl inX0 (by decide) qw_15 hF (fun r104 hF => ?_)
  refine jj_iload_n (j := 0) (i := 3) (pc' := 13) dX0_addFilm_12 rfl rfl rfl ?_
  refine jj_iconst (v := (0 : Int32)) (pc' := 14) dX0_addFilm_13 rfl rfl ?_
  refine jj_iload_n (j := 2) (i := 1) (pc' := 15) dX0_addFilm_14 rfl rfl rfl ?_
  refine jj_cV (N := M_X2_put) (kc' := 0) (ks' := 0) (pc' := 18) (jg_V (N := M_X2_put) (ci := 2) (rest := []) (as := [.int x103, .int ((0 : Int32)), .int x1]) cf_X0_49 dX0_addFilm_15 ⟨rfl, rfl⟩ rfl rfl ⟨Nat.le_of_ble_eq_true rfl, Nat.le_of_ble_eq_true rfl⟩ ⟨Nat.le_of_ble_eq_true rfl, Nat.le_of_ble_eq_true rfl⟩ (Nat.le_of_ble_eq_true rfl) (fun X' hX => KX2_put hX)) rfl rfl rfl rfl ⟨Nat.le_of_ble_eq_true rfl, Nat.le_of_ble_eq_true rfl⟩ rfl hF (fun h105 hF => ?_)
  refine jj_aload_n (j := 1) (i := 0) (pc' := 19) dX0_addFilm_18 rfl rfl rfl ?_
  refine jj_gR (C := RX0) (T := TX0) (N := 10) (ci := 0) (k := 0) (pc' := 22) dX0_addFilm_19 rfl rfl inX0 (by decide) qw_15 hF (fun r106 hF => ?_)
  refine jj_iload_n (j := 0) (i := 3) (pc' := 23) dX0_addFilm_22 rfl rfl rfl ?_
  refine jj_iconst (v := (1 : Int32)) (pc' := 24) dX0_addFilm_23 rfl rfl ?_
  refine jj_iload_n (j := 3) (i := 2) (pc' := 25) dX0_addFilm_24 rfl rfl rfl ?_
  refine jj_cV (N := M_X2_put) (kc' := 0) (ks' := 0) (pc' := 28) (jg_V (N := M_X2_put) (ci := 2) (rest := []) (as := [.int x103, .int ((1 : Int32)), .int x2]) cf_X0_49 dX0_addFilm_25 ⟨rfl, rfl⟩ rfl rfl ⟨Nat.le_of_ble_eq_true rfl, Nat.le_of_ble_eq_true rfl⟩ ⟨Nat.le_of_ble_eq_true rfl, Nat.le_of_ble_eq_true rfl⟩ (Nat.le_of_ble_eq_true rfl) (fun X' hX => KX2_put hX)) rfl rfl rfl rfl ⟨Nat.le_of_ble_eq_true rfl, Nat.le_of_ble_eq_true rfl⟩ rfl hF (fun h107 hF => ?_)
  refine jj_iload_n (j := 0) (i := 3) (pc' := 29) dX0_addFilm_28 rfl rfl rfl ?_
  exact jj_retI (ty := .int) rfl rfl dX0_addFilm_29 ⟨Nat.le_of_ble_eq_true rfl, Nat.le_of_ble_eq_true rfl⟩ hF
theorem KX0_addFilm {a0 : Nat} {x1 : Int32} {x2 : Int32} {h : jm_H} {X : jm_X} (hF : FX0_addFilm a0 x1 x2 h = some X) : jm_K M_X0_addFilm [.ref a0, .int x1, .int x2] h X := jk_of rfl (by decide +kernel) rfl rfl (Nat.le_of_ble_eq_true rfl) (JX0_addFilm hF)
set_option maxRecDepth 100000 in
set_option maxHeartbeats 4000000 in
theorem JX3_film {N : Nat} {a0 : Nat} {x1 : Int32} {x2 : Int32} {h : jm_H} {X : jm_X} (hF : FX3_film N a0 x1 x2 h = some X) : jm_J M_X3_film 0 [(0, .ref a0), (1, .int x1), (2, .int x2)] [] h 0 0 X := by
  unfold FX3_film at hF
  refine jj_iload_n (j := 1) (i := 1) (pc' := 1) dX3_film_0 rfl rfl rfl ?_
  refine jj_iconst (v := (1 : Int32)) (pc' := 2) dX3_film_1 rfl rfl ?_
  refine jj_bipush (v := (6 : Int32)) (pc' := 4) dX3_film_2 rfl rfl ?_
  refine jj_cI (N := M_X3_isWithin) (kc' := 0) (ks' := 0) (pc' := 7) (jg_S (N := M_X3_isWithin) (rest := []) (as := [.int x1, .int ((1 : Int32)), .int ((6 : Int32))]) cf_X3_34 rfl dX3_film_4 rfl rfl ⟨Nat.le_of_ble_eq_true rfl, Nat.le_of_ble_eq_true rfl⟩ ⟨Nat.le_of_ble_eq_true rfl, Nat.le_of_ble_eq_true rfl⟩ (Nat.le_of_ble_eq_true rfl) (fun X' hX => KX3_isWithin hX)) rfl rfl rfl rfl ⟨Nat.le_of_ble_eq_true rfl, Nat.le_of_ble_eq_true rfl⟩ rfl hF (fun x102 h101 hF => ?_)
  refine jj_if_eq (tgt := 25) (pc' := 10) dX3_film_7 rfl rfl (fun hc hF => ?_) (fun hc hF => ?_) hF
  · skip
    refine jj_iconst (v := (0 : Int32)) (pc' := 26) dX3_film_25 rfl rfl ?_
    refine jj_cV (N := M_X3_requireArgument) (kc' := 1) (ks' := 6) (pc' := 29) (jg_S (N := M_X3_requireArgument) (rest := []) (as := [.int ((0 : Int32))]) cf_X3_38 rfl dX3_film_26 rfl rfl ⟨Nat.le_of_ble_eq_true rfl, Nat.le_of_ble_eq_true rfl⟩ ⟨Nat.le_of_ble_eq_true rfl, Nat.le_of_ble_eq_true rfl⟩ (Nat.le_of_ble_eq_true rfl) (fun X' hX => KX3_requireArgument hX)) rfl rfl rfl rfl ⟨Nat.le_of_ble_eq_true rfl, Nat.le_of_ble_eq_true rfl⟩ rfl hF (fun h103 hF => ?_)
    refine jj_aload_n (j := 0) (i := 0) (pc' := 30) dX3_film_29 rfl rfl rfl ?_
    refine jj_gR (C := RX3) (T := TX3) (N := 8) (ci := 3) (k := 0) (pc' := 33) dX3_film_30 rfl rfl inX3 (by decide) qw_29 hF (fun r104 hF => ?_)
    refine jj_gR (C := RX0) (T := TX0) (N := 10) (ci := 0) (k := 0) (pc' := 36) dX3_film_33 rfl rfl inX0 (by decide) qw_43 hF (fun r105 hF => ?_)
    refine jj_gI (C := RX2) (T := TX2) (N := 3) (ci := 2) (k := 2) (pc' := 39) dX3_film_36 rfl rfl inX2 (by decide) qw_44 hF (fun x106 hF => ?_)
    refine jj_bipush (v := (8 : Int32)) (pc' := 41) dX3_film_39 rfl rfl ?_
    refine jj_icmp_lt (tgt := 54) (pc' := 44) dX3_film_41 rfl rfl (fun hc hF => ?_) (fun hc hF => ?_) hF
    · skip
      refine jj_aload_n (j := 0) (i := 0) (pc' := 55) dX3_film_54 rfl rfl rfl ?_
      refine jj_cV (N := M_X3_save) (kc' := 1) (ks' := 6) (pc' := 58) (jg_V (N := M_X3_save) (ci := 3) (rest := []) (as := []) cf_X3_59 dX3_film_55 ⟨rfl, rfl⟩ rfl rfl ⟨Nat.le_of_ble_eq_true rfl, Nat.le_of_ble_eq_true rfl⟩ ⟨Nat.le_of_ble_eq_true rfl, Nat.le_of_ble_eq_true rfl⟩ (Nat.le_of_ble_eq_true rfl) (fun X' hX => KX3_save hX)) rfl rfl rfl rfl ⟨Nat.le_of_ble_eq_true rfl, Nat.le_of_ble_eq_true rfl⟩ rfl hF (fun h107 hF => ?_)
      refine jj_aload_n (j := 0) (i := 0) (pc' := 59) dX3_film_58 rfl rfl rfl ?_
      refine jj_gR (C := RX3) (T := TX3) (N := 8) (ci := 3) (k := 0) (pc' := 62) dX3_film_59 rfl rfl inX3 (by decide) qw_29 hF (fun r108 hF => ?_)
      refine jj_iload_n (j := 1) (i := 1) (pc' := 63) dX3_film_62 rfl rfl rfl ?_
      refine jj_iload_n (j := 2) (i := 2) (pc' := 64) dX3_film_63 rfl rfl rfl ?_
      refine jj_cI (N := M_X0_addFilm) (kc' := 1) (ks' := 6) (pc' := 67) (jg_V (N := M_X0_addFilm) (ci := 0) (rest := []) (as := [.int x1, .int x2]) cf_X3_62 dX3_film_64 ⟨rfl, rfl⟩ rfl rfl ⟨Nat.le_of_ble_eq_true rfl, Nat.le_of_ble_eq_true rfl⟩ ⟨Nat.le_of_ble_eq_true rfl, Nat.le_of_ble_eq_true rfl⟩ (Nat.le_of_ble_eq_true rfl) (fun X' hX => KX0_addFilm hX)) rfl rfl rfl rfl ⟨Nat.le_of_ble_eq_true rfl, Nat.le_of_ble_eq_true rfl⟩ rfl hF (fun x110 h109 hF => ?_)
      exact jj_retI (ty := .int) rfl rfl dX3_film_67 ⟨Nat.le_of_ble_eq_true rfl, Nat.le_of_ble_eq_true rfl⟩ hF
    · skip
      exact jj_throw (text := "there are 8 films") tf_X3_52_56 (by decide) dX3_film_44 dX3_film_47 dX3_film_48 dX3_film_50 dX3_film_53 rfl ⟨Nat.le_of_ble_eq_true rfl, Nat.le_of_ble_eq_true rfl⟩ ⟨Nat.le_of_ble_eq_true rfl, Nat.le_of_ble_eq_true rfl⟩ hF
  · skip
    refine jj_iload_n (j := 2) (i := 2) (pc' := 11) dX3_film_10 rfl rfl rfl ?_
    refine jj_bipush (v := (10 : Int32)) (pc' := 13) dX3_film_11 rfl rfl ?_
    refine jj_bipush (v := (25 : Int32)) (pc' := 15) dX3_film_13 rfl rfl ?_
    refine jj_cI (N := M_X3_isWithin) (kc' := 0) (ks' := 0) (pc' := 18) (jg_S (N := M_X3_isWithin) (rest := []) (as := [.int x2, .int ((10 : Int32)), .int ((25 : Int32))]) cf_X3_34 rfl dX3_film_15 rfl rfl ⟨Nat.le_of_ble_eq_true rfl, Nat.le_of_ble_eq_true rfl⟩ ⟨Nat.le_of_ble_eq_true rfl, Nat.le_of_ble_eq_true rfl⟩ (Nat.le_of_ble_eq_true rfl) (fun X' hX => KX3_isWithin hX)) rfl rfl rfl rfl ⟨Nat.le_of_ble_eq_true rfl, Nat.le_of_ble_eq_true rfl⟩ rfl hF (fun x112 h111 hF => ?_)
    refine jj_if_eq (tgt := 25) (pc' := 21) dX3_film_18 rfl rfl (fun hc hF => ?_) (fun hc hF => ?_) hF
    · skip
      refine jj_iconst (v := (0 : Int32)) (pc' := 26) dX3_film_25 rfl rfl ?_
      refine jj_cV (N := M_X3_requireArgument) (kc' := 1) (ks' := 6) (pc' := 29) (jg_S (N := M_X3_requireArgument) (rest := []) (as := [.int ((0 : Int32))]) cf_X3_38 rfl dX3_film_26 rfl rfl ⟨Nat.le_of_ble_eq_true rfl, Nat.le_of_ble_eq_true rfl⟩ ⟨Nat.le_of_ble_eq_true rfl, Nat.le_of_ble_eq_true rfl⟩ (Nat.le_of_ble_eq_true rfl) (fun X' hX => KX3_requireArgument hX)) rfl rfl rfl rfl ⟨Nat.le_of_ble_eq_true rfl, Nat.le_of_ble_eq_true rfl⟩ rfl hF (fun h113 hF => ?_)
      refine jj_aload_n (j := 0) (i := 0) (pc' := 30) dX3_film_29 rfl rfl rfl ?_
      refine jj_gR (C := RX3) (T := TX3) (N := 8) (ci := 3) (k := 0) (pc' := 33) dX3_film_30 rfl rfl inX3 (by decide) qw_29 hF (fun r114 hF => ?_)
      refine jj_gR (C := RX0) (T := TX0) (N := 10) (ci := 0) (k := 0) (pc' := 36) dX3_film_33 rfl rfl inX0 (by decide) qw_43 hF (fun r115 hF => ?_)
      refine jj_gI (C := RX2) (T := TX2) (N := 3) (ci := 2) (k := 2) (pc' := 39) dX3_film_36 rfl rfl inX2 (by decide) qw_44 hF (fun x116 hF => ?_)
      refine jj_bipush (v := (8 : Int32)) (pc' := 41) dX3_film_39 rfl rfl ?_
      refine jj_icmp_lt (tgt := 54) (pc' := 44) dX3_film_41 rfl rfl (fun hc hF => ?_) (fun hc hF => ?_) hF
      · skip
        refine jj_aload_n (j := 0) (i := 0) (pc' := 55) dX3_film_54 rfl rfl rfl ?_
        refine jj_cV (N := M_X3_save) (kc' := 1) (ks' := 6) (pc' := 58) (jg_V (N := M_X3_save) (ci := 3) (rest := []) (as := []) cf_X3_59 dX3_film_55 ⟨rfl, rfl⟩ rfl rfl ⟨Nat.le_of_ble_eq_true rfl, Nat.le_of_ble_eq_true rfl⟩ ⟨Nat.le_of_ble_eq_true rfl, Nat.le_of_ble_eq_true rfl⟩ (Nat.le_of_ble_eq_true rfl) (fun X' hX => KX3_save hX)) rfl rfl rfl rfl ⟨Nat.le_of_ble_eq_true rfl, Nat.le_of_ble_eq_true rfl⟩ rfl hF (fun h117 hF => ?_)
        refine jj_aload_n (j := 0) (i := 0) (pc' := 59) dX3_film_58 rfl rfl rfl ?_
        refine jj_gR (C := RX3) (T := TX3) (N := 8) (ci := 3) (k := 0) (pc' := 62) dX3_film_59 rfl rfl inX3 (by decide) qw_29 hF (fun r118 hF => ?_)
        refine jj_iload_n (j := 1) (i := 1) (pc' := 63) dX3_film_62 rfl rfl rfl ?_
        refine jj_iload_n (j := 2) (i := 2) (pc' := 64) dX3_film_63 rfl rfl rfl ?_
        refine jj_cI (N := M_X0_addFilm) (kc' := 1) (ks' := 6) (pc' := 67) (jg_V (N := M_X0_addFilm) (ci := 0) (rest := []) (as := [.int x1, .int x2]) cf_X3_62 dX3_film_64 ⟨rfl, rfl⟩ rfl rfl ⟨Nat.le_of_ble_eq_true rfl, Nat.le_of_ble_eq_true rfl⟩ ⟨Nat.le_of_ble_eq_true rfl, Nat.le_of_ble_eq_true rfl⟩ (Nat.le_of_ble_eq_true rfl) (fun X' hX => KX0_addFilm hX)) rfl rfl rfl rfl ⟨Nat.le_of_ble_eq_true rfl, Nat.le_of_ble_eq_true rfl⟩ rfl hF (fun x120 h119 hF => ?_)
        exact jj_retI (ty := .int) rfl rfl dX3_film_67 ⟨Nat.le_of_ble_eq_true rfl, Nat.le_of_ble_eq_true rfl⟩ hF
      · skip
        exact jj_throw (text := "there are 8 films") tf_X3_52_56 (by decide) dX3_film_44 dX3_film_47 dX3_film_48 dX3_film_50 dX3_film_53 rfl ⟨Nat.le_of_ble_eq_true rfl, Nat.le_of_ble_eq_true rfl⟩ ⟨Nat.le_of_ble_eq_true rfl, Nat.le_of_ble_eq_true rfl⟩ hF
    · skip
      refine jj_iconst (v := (1 : Int32)) (pc' := 22) dX3_film_21 rfl rfl ?_
      refine jj_goto (tgt := 26) dX3_film_22 rfl ?_
      refine jj_cV (N := M_X3_requireArgument) (kc' := 1) (ks' := 6) (pc' := 29) (jg_S (N := M_X3_requireArgument) (rest := []) (as := [.int ((1 : Int32))]) cf_X3_38 rfl dX3_film_26 rfl rfl ⟨Nat.le_of_ble_eq_true rfl, Nat.le_of_ble_eq_true rfl⟩ ⟨Nat.le_of_ble_eq_true rfl, Nat.le_of_ble_eq_true rfl⟩ (Nat.le_of_ble_eq_true rfl) (fun X' hX => KX3_requireArgument hX)) rfl rfl rfl rfl ⟨Nat.le_of_ble_eq_true rfl, Nat.le_of_ble_eq_true rfl⟩ rfl hF (fun h121 hF => ?_)
      refine jj_aload_n (j := 0) (i := 0) (pc' := 30) dX3_film_29 rfl rfl rfl ?_
      refine jj_gR (C := RX3) (T := TX3) (N := 8) (ci := 3) (k := 0) (pc' := 33) dX3_film_30 rfl rfl inX3 (by decide) qw_29 hF (fun r122 hF => ?_)
      refine jj_gR (C := RX0) (T := TX0) (N := 10) (ci := 0) (k := 0) (pc' := 36) dX3_film_33 rfl rfl inX0 (by decide) qw_43 hF (fun r123 hF => ?_)
      refine jj_gI (C := RX2) (T := TX2) (N := 3) (ci := 2) (k := 2) (pc' := 39) dX3_film_36 rfl rfl inX2 (by decide) qw_44 hF (fun x124 hF => ?_)
      refine jj_bipush (v := (8 : Int32)) (pc' := 41) dX3_film_39 rfl rfl ?_
      refine jj_icmp_lt (tgt := 54) (pc' := 44) dX3_film_41 rfl rfl (fun hc hF => ?_) (fun hc hF => ?_) hF
      · skip
        refine jj_aload_n (j := 0) (i := 0) (pc' := 55) dX3_film_54 rfl rfl rfl ?_
        refine jj_cV (N := M_X3_save) (kc' := 1) (ks' := 6) (pc' := 58) (jg_V (N := M_X3_save) (ci := 3) (rest := []) (as := []) cf_X3_59 dX3_film_55 ⟨rfl, rfl⟩ rfl rfl ⟨Nat.le_of_ble_eq_true rfl, Nat.le_of_ble_eq_true rfl⟩ ⟨Nat.le_of_ble_eq_true rfl, Nat.le_of_ble_eq_true rfl⟩ (Nat.le_of_ble_eq_true rfl) (fun X' hX => KX3_save hX)) rfl rfl rfl rfl ⟨Nat.le_of_ble_eq_true rfl, Nat.le_of_ble_eq_true rfl⟩ rfl hF (fun h125 hF => ?_)
        refine jj_aload_n (j := 0) (i := 0) (pc' := 59) dX3_film_58 rfl rfl rfl ?_
        refine jj_gR (C := RX3) (T := TX3) (N := 8) (ci := 3) (k := 0) (pc' := 62) dX3_film_59 rfl rfl inX3 (by decide) qw_29 hF (fun r126 hF => ?_)
        refine jj_iload_n (j := 1) (i := 1) (pc' := 63) dX3_film_62 rfl rfl rfl ?_
        refine jj_iload_n (j := 2) (i := 2) (pc' := 64) dX3_film_63 rfl rfl rfl ?_
        refine jj_cI (N := M_X0_addFilm) (kc' := 1) (ks' := 6) (pc' := 67) (jg_V (N := M_X0_addFilm) (ci := 0) (rest := []) (as := [.int x1, .int x2]) cf_X3_62 dX3_film_64 ⟨rfl, rfl⟩ rfl rfl ⟨Nat.le_of_ble_eq_true rfl, Nat.le_of_ble_eq_true rfl⟩ ⟨Nat.le_of_ble_eq_true rfl, Nat.le_of_ble_eq_true rfl⟩ (Nat.le_of_ble_eq_true rfl) (fun X' hX => KX0_addFilm hX)) rfl rfl rfl rfl ⟨Nat.le_of_ble_eq_true rfl, Nat.le_of_ble_eq_true rfl⟩ rfl hF (fun x128 h127 hF => ?_)
        exact jj_retI (ty := .int) rfl rfl dX3_film_67 ⟨Nat.le_of_ble_eq_true rfl, Nat.le_of_ble_eq_true rfl⟩ hF
      · skip
        exact jj_throw (text := "there are 8 films") tf_X3_52_56 (by decide) dX3_film_44 dX3_film_47 dX3_film_48 dX3_film_50 dX3_film_53 rfl ⟨Nat.le_of_ble_eq_true rfl, Nat.le_of_ble_eq_true rfl⟩ ⟨Nat.le_of_ble_eq_true rfl, Nat.le_of_ble_eq_true rfl⟩ hF
theorem KX3_film {N : Nat} {a0 : Nat} {x1 : Int32} {x2 : Int32} {h : jm_H} {X : jm_X} (hF : FX3_film N a0 x1 x2 h = some X) : jm_K M_X3_film [.ref a0, .int x1, .int x2] h X := jk_of rfl (by decide +kernel) rfl rfl (Nat.le_of_ble_eq_true rfl) (JX3_film hF)
set_option maxRecDepth 100000 in
set_option maxHeartbeats 4000000 in
theorem JX3_requireScreen {x0 : Int32} {h : jm_H} {X : jm_X} (hF : FX3_requireScreen x0 h = some X) : jm_J M_X3_requireScreen 0 [(0, .int x0)] [] h 0 0 X := by
  unfold FX3_requireScreen at hF
  refine jj_iload_n (j := 0) (i := 0) (pc' := 1) dX3_requireScreen_0 rfl rfl rfl ?_
  refine jj_iconst (v := (0 : Int32)) (pc' := 2) dX3_requireScreen_1 rfl rfl ?_
  refine jj_iconst (v := (2 : Int32)) (pc' := 3) dX3_requireScreen_2 rfl rfl ?_
  refine jj_cI (N := M_X3_isWithin) (kc' := 0) (ks' := 0) (pc' := 6) (jg_S (N := M_X3_isWithin) (rest := []) (as := [.int x0, .int ((0 : Int32)), .int ((2 : Int32))]) cf_X3_34 rfl dX3_requireScreen_3 rfl rfl ⟨Nat.le_of_ble_eq_true rfl, Nat.le_of_ble_eq_true rfl⟩ ⟨Nat.le_of_ble_eq_true rfl, Nat.le_of_ble_eq_true rfl⟩ (Nat.le_of_ble_eq_true rfl) (fun X' hX => KX3_isWithin hX)) rfl rfl rfl rfl ⟨Nat.le_of_ble_eq_true rfl, Nat.le_of_ble_eq_true rfl⟩ rfl hF (fun x102 h101 hF => ?_)
  refine jj_if_ne (tgt := 20) (pc' := 9) dX3_requireScreen_6 rfl rfl (fun hc hF => ?_) (fun hc hF => ?_) hF
  · skip
    exact jj_retV rfl dX3_requireScreen_20 ⟨Nat.le_of_ble_eq_true rfl, Nat.le_of_ble_eq_true rfl⟩ hF
  · skip
    exact jj_throwW (text := "there is no such screen") tf_X3_77_81 (by decide) dX3_requireScreen_9 dX3_requireScreen_12 dX3_requireScreen_13 dX3_requireScreen_16 dX3_requireScreen_19 rfl ⟨Nat.le_of_ble_eq_true rfl, Nat.le_of_ble_eq_true rfl⟩ ⟨Nat.le_of_ble_eq_true rfl, Nat.le_of_ble_eq_true rfl⟩ hF
theorem KX3_requireScreen {x0 : Int32} {h : jm_H} {X : jm_X} (hF : FX3_requireScreen x0 h = some X) : jm_K M_X3_requireScreen [.int x0] h X := jk_of rfl (by decide +kernel) rfl rfl (Nat.le_of_ble_eq_true rfl) (JX3_requireScreen hF)
set_option maxRecDepth 100000 in
set_option maxHeartbeats 4000000 in
theorem JX2_at {a0 : Nat} {x1 : Int32} {x2 : Int32} {h : jm_H} {X : jm_X} (hF : FX2_at a0 x1 x2 h = some X) : jm_J M_X2_at 0 [(0, .ref a0), (1, .int x1), (2, .int x2)] [] h 0 0 X := by
  unfold FX2_at at hF
  refine jj_iload_n (j := 1) (i := 1) (pc' := 1) dX2_at_0 rfl rfl rfl ?_
  refine jj_if_lt (tgt := 24) (pc' := 4) dX2_at_1 rfl rfl (fun hc hF => ?_) (fun hc hF => ?_) hF
  · skip
    refine jj_iconst (v := (0 : Int32)) (pc' := 25) dX2_at_24 rfl rfl ?_
    exact jj_retI (ty := .int) rfl rfl dX2_at_25 ⟨Nat.le_of_ble_eq_true rfl, Nat.le_of_ble_eq_true rfl⟩ hF
  · skip
    refine jj_iload_n (j := 1) (i := 1) (pc' := 5) dX2_at_4 rfl rfl rfl ?_
    refine jj_aload_n (j := 0) (i := 0) (pc' := 6) dX2_at_5 rfl rfl rfl ?_
    refine jj_gI (C := RX2) (T := TX2) (N := 3) (ci := 2) (k := 2) (pc' := 9) dX2_at_6 rfl rfl inX2 (by decide) qw_10 hF (fun x101 hF => ?_)
    refine jj_icmp_ge (tgt := 24) (pc' := 12) dX2_at_9 rfl rfl (fun hc hF => ?_) (fun hc hF => ?_) hF
    · skip
      refine jj_iconst (v := (0 : Int32)) (pc' := 25) dX2_at_24 rfl rfl ?_
      exact jj_retI (ty := .int) rfl rfl dX2_at_25 ⟨Nat.le_of_ble_eq_true rfl, Nat.le_of_ble_eq_true rfl⟩ hF
    · skip
      refine jj_iload_n (j := 2) (i := 2) (pc' := 13) dX2_at_12 rfl rfl rfl ?_
      refine jj_if_lt (tgt := 24) (pc' := 16) dX2_at_13 rfl rfl (fun hc hF => ?_) (fun hc hF => ?_) hF
      · skip
        refine jj_iconst (v := (0 : Int32)) (pc' := 25) dX2_at_24 rfl rfl ?_
        exact jj_retI (ty := .int) rfl rfl dX2_at_25 ⟨Nat.le_of_ble_eq_true rfl, Nat.le_of_ble_eq_true rfl⟩ hF
      · skip
        refine jj_iload_n (j := 2) (i := 2) (pc' := 17) dX2_at_16 rfl rfl rfl ?_
        refine jj_aload_n (j := 0) (i := 0) (pc' := 18) dX2_at_17 rfl rfl rfl ?_
        refine jj_gI (C := RX2) (T := TX2) (N := 3) (ci := 2) (k := 0) (pc' := 21) dX2_at_18 rfl rfl inX2 (by decide) qw_3 hF (fun x102 hF => ?_)
        refine jj_icmp_lt (tgt := 26) (pc' := 24) dX2_at_21 rfl rfl (fun hc hF => ?_) (fun hc hF => ?_) hF
        · skip
          refine jj_iload_n (j := 1) (i := 1) (pc' := 27) dX2_at_26 rfl rfl rfl ?_
          refine jj_aload_n (j := 0) (i := 0) (pc' := 28) dX2_at_27 rfl rfl rfl ?_
          refine jj_gI (C := RX2) (T := TX2) (N := 3) (ci := 2) (k := 0) (pc' := 31) dX2_at_28 rfl rfl inX2 (by decide) qw_3 hF (fun x103 hF => ?_)
          refine jj_imul (pc' := 32) dX2_at_31 rfl ?_
          refine jj_iload_n (j := 2) (i := 2) (pc' := 33) dX2_at_32 rfl rfl rfl ?_
          refine jj_iadd (pc' := 34) dX2_at_33 rfl ?_
          refine jj_istore_n (i := 3) (ls' := [(3, .int ((x1 * x103) + x2)), (0, .ref a0), (1, .int x1), (2, .int x2)]) (pc' := 35) dX2_at_34 rfl (Nat.le_of_ble_eq_true rfl) rfl rfl ?_
          refine jj_iload_n (j := 0) (i := 3) (pc' := 36) dX2_at_35 rfl rfl rfl ?_
          refine jj_if_lt (tgt := 57) (pc' := 39) dX2_at_36 rfl rfl (fun hc hF => ?_) (fun hc hF => ?_) hF
          · skip
            refine jj_iconst (v := (0 : Int32)) (pc' := 58) dX2_at_57 rfl rfl ?_
            exact jj_retI (ty := .int) rfl rfl dX2_at_58 ⟨Nat.le_of_ble_eq_true rfl, Nat.le_of_ble_eq_true rfl⟩ hF
          · skip
            refine jj_iload_n (j := 0) (i := 3) (pc' := 40) dX2_at_39 rfl rfl rfl ?_
            refine jj_aload_n (j := 1) (i := 0) (pc' := 41) dX2_at_40 rfl rfl rfl ?_
            refine jj_gR (C := RX2) (T := TX2) (N := 3) (ci := 2) (k := 1) (pc' := 44) dX2_at_41 rfl rfl inX2 (by decide) qw_9 hF (fun r104 hF => ?_)
            refine jj_len (pc' := 45) dX2_at_44 rfl hF (fun x105 hF => ?_)
            refine jj_icmp_ge (tgt := 57) (pc' := 48) dX2_at_45 rfl rfl (fun hc hF => ?_) (fun hc hF => ?_) hF
            · skip
              refine jj_iconst (v := (0 : Int32)) (pc' := 58) dX2_at_57 rfl rfl ?_
              exact jj_retI (ty := .int) rfl rfl dX2_at_58 ⟨Nat.le_of_ble_eq_true rfl, Nat.le_of_ble_eq_true rfl⟩ hF
            · skip
              refine jj_aload_n (j := 1) (i := 0) (pc' := 49) dX2_at_48 rfl rfl rfl ?_
              refine jj_gR (C := RX2) (T := TX2) (N := 3) (ci := 2) (k := 1) (pc' := 52) dX2_at_49 rfl rfl inX2 (by decide) qw_9 hF (fun r106 hF => ?_)
              refine jj_iload_n (j := 0) (i := 3) (pc' := 53) dX2_at_52 rfl rfl rfl ?_
              refine jj_ldI (pc' := 54) dX2_at_53 rfl hF (fun x107 hF => ?_)
              refine jj_goto (tgt := 58) dX2_at_54 rfl ?_
              exact jj_retI (ty := .int) rfl rfl dX2_at_58 ⟨Nat.le_of_ble_eq_true rfl, Nat.le_of_ble_eq_true rfl⟩ hF
        · skip
          refine jj_iconst (v := (0 : Int32)) (pc' := 25) dX2_at_24 rfl rfl ?_
          exact jj_retI (ty := .int) rfl rfl dX2_at_25 ⟨Nat.le_of_ble_eq_true rfl, Nat.le_of_ble_eq_true rfl⟩ hF
theorem KX2_at {a0 : Nat} {x1 : Int32} {x2 : Int32} {h : jm_H} {X : jm_X} (hF : FX2_at a0 x1 x2 h = some X) : jm_K M_X2_at [.ref a0, .int x1, .int x2] h X := jk_of rfl (by decide +kernel) rfl rfl (Nat.le_of_ble_eq_true rfl) (JX2_at hF)
set_option maxRecDepth 100000 in
set_option maxHeartbeats 4000000 in
theorem JX2_exchange {a0 : Nat} {x1 : Int32} {x2 : Int32} {x3 : Int32} {h : jm_H} {X : jm_X} (hF : FX2_exchange a0 x1 x2 x3 h = some X) : jm_J M_X2_exchange 0 [(0, .ref a0), (1, .int x1), (2, .int x2), (3, .int x3)] [] h 0 0 X := by
  unfold FX2_exchange at hF
  refine jj_aload_n (j := 0) (i := 0) (pc' := 1) dX2_exchange_0 rfl rfl rfl ?_
  refine jj_iload_n (j := 1) (i := 1) (pc' := 2) dX2_exchange_1 rfl rfl rfl ?_
  refine jj_iload_n (j := 2) (i := 2) (pc' := 3) dX2_exchange_2 rfl rfl rfl ?_
  refine jj_cI (N := M_X2_at) (kc' := 0) (ks' := 0) (pc' := 6) (jg_V (N := M_X2_at) (ci := 2) (rest := []) (as := [.int x1, .int x2]) cf_X2_28 dX2_exchange_3 ⟨rfl, rfl⟩ rfl rfl ⟨Nat.le_of_ble_eq_true rfl, Nat.le_of_ble_eq_true rfl⟩ ⟨Nat.le_of_ble_eq_true rfl, Nat.le_of_ble_eq_true rfl⟩ (Nat.le_of_ble_eq_true rfl) (fun X' hX => KX2_at hX)) rfl rfl rfl rfl ⟨Nat.le_of_ble_eq_true rfl, Nat.le_of_ble_eq_true rfl⟩ rfl hF (fun x102 h101 hF => ?_)
  refine jj_istore (i := 4) (ls' := [(4, .int x102), (0, .ref a0), (1, .int x1), (2, .int x2), (3, .int x3)]) (pc' := 8) dX2_exchange_6 (Nat.le_of_ble_eq_true rfl) rfl rfl ?_
  refine jj_aload_n (j := 1) (i := 0) (pc' := 9) dX2_exchange_8 rfl rfl rfl ?_
  refine jj_iload_n (j := 2) (i := 1) (pc' := 10) dX2_exchange_9 rfl rfl rfl ?_
  refine jj_iload_n (j := 3) (i := 2) (pc' := 11) dX2_exchange_10 rfl rfl rfl ?_
  refine jj_iload_n (j := 4) (i := 3) (pc' := 12) dX2_exchange_11 rfl rfl rfl ?_
  refine jj_cV (N := M_X2_put) (kc' := 0) (ks' := 0) (pc' := 15) (jg_V (N := M_X2_put) (ci := 2) (rest := []) (as := [.int x1, .int x2, .int x3]) cf_X2_31 dX2_exchange_12 ⟨rfl, rfl⟩ rfl rfl ⟨Nat.le_of_ble_eq_true rfl, Nat.le_of_ble_eq_true rfl⟩ ⟨Nat.le_of_ble_eq_true rfl, Nat.le_of_ble_eq_true rfl⟩ (Nat.le_of_ble_eq_true rfl) (fun X' hX => KX2_put hX)) rfl rfl rfl rfl ⟨Nat.le_of_ble_eq_true rfl, Nat.le_of_ble_eq_true rfl⟩ rfl hF (fun h103 hF => ?_)
  refine jj_iload (j := 0) (i := 4) (pc' := 17) dX2_exchange_15 rfl rfl ?_
  exact jj_retI (ty := .int) rfl rfl dX2_exchange_17 ⟨Nat.le_of_ble_eq_true rfl, Nat.le_of_ble_eq_true rfl⟩ hF
theorem KX2_exchange {a0 : Nat} {x1 : Int32} {x2 : Int32} {x3 : Int32} {h : jm_H} {X : jm_X} (hF : FX2_exchange a0 x1 x2 x3 h = some X) : jm_K M_X2_exchange [.ref a0, .int x1, .int x2, .int x3] h X := jk_of rfl (by decide +kernel) rfl rfl (Nat.le_of_ble_eq_true rfl) (JX2_exchange hF)
set_option maxRecDepth 100000 in
set_option maxHeartbeats 4000000 in
theorem JX3_seats {N : Nat} {a0 : Nat} {x1 : Int32} {x2 : Int32} {h : jm_H} {X : jm_X} (hF : FX3_seats N a0 x1 x2 h = some X) : jm_J M_X3_seats 0 [(0, .ref a0), (1, .int x1), (2, .int x2)] [] h 0 0 X := by
  unfold FX3_seats at hF
  refine jj_iload_n (j := 1) (i := 1) (pc' := 1) dX3_seats_0 rfl rfl rfl ?_
  refine jj_cV (N := M_X3_requireScreen) (kc' := 1) (ks' := 6) (pc' := 4) (jg_S (N := M_X3_requireScreen) (rest := []) (as := [.int x1]) cf_X3_66 rfl dX3_seats_1 rfl rfl ⟨Nat.le_of_ble_eq_true rfl, Nat.le_of_ble_eq_true rfl⟩ ⟨Nat.le_of_ble_eq_true rfl, Nat.le_of_ble_eq_true rfl⟩ (Nat.le_of_ble_eq_true rfl) (fun X' hX => KX3_requireScreen hX)) rfl rfl rfl rfl ⟨Nat.le_of_ble_eq_true rfl, Nat.le_of_ble_eq_true rfl⟩ rfl hF (fun h101 hF => ?_)
  refine jj_iload_n (j := 2) (i := 2) (pc' := 5) dX3_seats_4 rfl rfl rfl ?_
  refine jj_bipush (v := (50 : Int32)) (pc' := 7) dX3_seats_5 rfl rfl ?_
  refine jj_sipush (v := (400 : Int32)) (pc' := 10) dX3_seats_7 rfl rfl ?_
  refine jj_cI (N := M_X3_isWithin) (kc' := 1) (ks' := 6) (pc' := 13) (jg_S (N := M_X3_isWithin) (rest := []) (as := [.int x2, .int ((50 : Int32)), .int ((400 : Int32))]) cf_X3_34 rfl dX3_seats_10 rfl rfl ⟨Nat.le_of_ble_eq_true rfl, Nat.le_of_ble_eq_true rfl⟩ ⟨Nat.le_of_ble_eq_true rfl, Nat.le_of_ble_eq_true rfl⟩ (Nat.le_of_ble_eq_true rfl) (fun X' hX => KX3_isWithin hX)) rfl rfl rfl rfl ⟨Nat.le_of_ble_eq_true rfl, Nat.le_of_ble_eq_true rfl⟩ rfl hF (fun x103 h102 hF => ?_)
  refine jj_cV (N := M_X3_requireArgument) (kc' := 2) (ks' := 12) (pc' := 16) (jg_S (N := M_X3_requireArgument) (rest := []) (as := [.int x103]) cf_X3_38 rfl dX3_seats_13 rfl rfl ⟨Nat.le_of_ble_eq_true rfl, Nat.le_of_ble_eq_true rfl⟩ ⟨Nat.le_of_ble_eq_true rfl, Nat.le_of_ble_eq_true rfl⟩ (Nat.le_of_ble_eq_true rfl) (fun X' hX => KX3_requireArgument hX)) rfl rfl rfl rfl ⟨Nat.le_of_ble_eq_true rfl, Nat.le_of_ble_eq_true rfl⟩ rfl hF (fun h104 hF => ?_)
  refine jj_aload_n (j := 0) (i := 0) (pc' := 17) dX3_seats_16 rfl rfl rfl ?_
  refine jj_cV (N := M_X3_save) (kc' := 2) (ks' := 12) (pc' := 20) (jg_V (N := M_X3_save) (ci := 3) (rest := []) (as := []) cf_X3_59 dX3_seats_17 ⟨rfl, rfl⟩ rfl rfl ⟨Nat.le_of_ble_eq_true rfl, Nat.le_of_ble_eq_true rfl⟩ ⟨Nat.le_of_ble_eq_true rfl, Nat.le_of_ble_eq_true rfl⟩ (Nat.le_of_ble_eq_true rfl) (fun X' hX => KX3_save hX)) rfl rfl rfl rfl ⟨Nat.le_of_ble_eq_true rfl, Nat.le_of_ble_eq_true rfl⟩ rfl hF (fun h105 hF => ?_)
  refine jj_aload_n (j := 0) (i := 0) (pc' := 21) dX3_seats_20 rfl rfl rfl ?_
  refine jj_gR (C := RX3) (T := TX3) (N := 8) (ci := 3) (k := 0) (pc' := 24) dX3_seats_21 rfl rfl inX3 (by decide) qw_29 hF (fun r106 hF => ?_)
  refine jj_gR (C := RX0) (T := TX0) (N := 10) (ci := 0) (k := 1) (pc' := 27) dX3_seats_24 rfl rfl inX0 (by decide) qw_45 hF (fun r107 hF => ?_)
  refine jj_iload_n (j := 1) (i := 1) (pc' := 28) dX3_seats_27 rfl rfl rfl ?_
  refine jj_iconst (v := (0 : Int32)) (pc' := 29) dX3_seats_28 rfl rfl ?_
  refine jj_iload_n (j := 2) (i := 2) (pc' := 30) dX3_seats_29 rfl rfl rfl ?_
  refine jj_cI (N := M_X2_exchange) (kc' := 2) (ks' := 12) (pc' := 33) (jg_V (N := M_X2_exchange) (ci := 2) (rest := []) (as := [.int x1, .int ((0 : Int32)), .int x2]) cf_X3_73 dX3_seats_30 ⟨rfl, rfl⟩ rfl rfl ⟨Nat.le_of_ble_eq_true rfl, Nat.le_of_ble_eq_true rfl⟩ ⟨Nat.le_of_ble_eq_true rfl, Nat.le_of_ble_eq_true rfl⟩ (Nat.le_of_ble_eq_true rfl) (fun X' hX => KX2_exchange hX)) rfl rfl rfl rfl ⟨Nat.le_of_ble_eq_true rfl, Nat.le_of_ble_eq_true rfl⟩ rfl hF (fun x109 h108 hF => ?_)
  exact jj_retI (ty := .int) rfl rfl dX3_seats_33 ⟨Nat.le_of_ble_eq_true rfl, Nat.le_of_ble_eq_true rfl⟩ hF
theorem KX3_seats {N : Nat} {a0 : Nat} {x1 : Int32} {x2 : Int32} {h : jm_H} {X : jm_X} (hF : FX3_seats N a0 x1 x2 h = some X) : jm_K M_X3_seats [.ref a0, .int x1, .int x2] h X := jk_of rfl (by decide +kernel) rfl rfl (Nat.le_of_ble_eq_true rfl) (JX3_seats hF)
set_option maxRecDepth 100000 in
set_option maxHeartbeats 4000000 in
theorem JX3_set {N : Nat} {a0 : Nat} {x1 : Int32} {x2 : Int32} {h : jm_H} {X : jm_X} (hF : FX3_set N a0 x1 x2 h = some X) : jm_J M_X3_set 0 [(0, .ref a0), (1, .int x1), (2, .int x2)] [] h 0 0 X := by
  unfold FX3_set at hF
  refine jj_iload_n (j := 1) (i := 1) (pc' := 1) dX3_set_0 rfl rfl rfl ?_
  refine jj_iconst (v := (0 : Int32)) (pc' := 2) dX3_set_1 rfl rfl ?_
  refine jj_iconst (v := (3 : Int32)) (pc' := 3) dX3_set_2 rfl rfl ?_
  refine jj_cI (N := M_X3_isWithin) (kc' := 0) (ks' := 0) (pc' := 6) (jg_S (N := M_X3_isWithin) (rest := []) (as := [.int x1, .int ((0 : Int32)), .int ((3 : Int32))]) cf_X3_34 rfl dX3_set_3 rfl rfl ⟨Nat.le_of_ble_eq_true rfl, Nat.le_of_ble_eq_true rfl⟩ ⟨Nat.le_of_ble_eq_true rfl, Nat.le_of_ble_eq_true rfl⟩ (Nat.le_of_ble_eq_true rfl) (fun X' hX => KX3_isWithin hX)) rfl rfl rfl rfl ⟨Nat.le_of_ble_eq_true rfl, Nat.le_of_ble_eq_true rfl⟩ rfl hF (fun x102 h101 hF => ?_)
  refine jj_if_ne (tgt := 19) (pc' := 9) dX3_set_6 rfl rfl (fun hc hF => ?_) (fun hc hF => ?_) hF
  · skip
    refine jj_iload_n (j := 2) (i := 2) (pc' := 20) dX3_set_19 rfl rfl rfl ?_
    refine jj_iconst (v := (0 : Int32)) (pc' := 21) dX3_set_20 rfl rfl ?_
    refine jj_bipush (v := (60 : Int32)) (pc' := 23) dX3_set_21 rfl rfl ?_
    refine jj_cI (N := M_X3_isWithin) (kc' := 0) (ks' := 0) (pc' := 26) (jg_S (N := M_X3_isWithin) (rest := []) (as := [.int x2, .int ((0 : Int32)), .int ((60 : Int32))]) cf_X3_34 rfl dX3_set_23 rfl rfl ⟨Nat.le_of_ble_eq_true rfl, Nat.le_of_ble_eq_true rfl⟩ ⟨Nat.le_of_ble_eq_true rfl, Nat.le_of_ble_eq_true rfl⟩ (Nat.le_of_ble_eq_true rfl) (fun X' hX => KX3_isWithin hX)) rfl rfl rfl rfl ⟨Nat.le_of_ble_eq_true rfl, Nat.le_of_ble_eq_true rfl⟩ rfl hF (fun x104 h103 hF => ?_)
    refine jj_cV (N := M_X3_requireArgument) (kc' := 1) (ks' := 6) (pc' := 29) (jg_S (N := M_X3_requireArgument) (rest := []) (as := [.int x104]) cf_X3_38 rfl dX3_set_26 rfl rfl ⟨Nat.le_of_ble_eq_true rfl, Nat.le_of_ble_eq_true rfl⟩ ⟨Nat.le_of_ble_eq_true rfl, Nat.le_of_ble_eq_true rfl⟩ (Nat.le_of_ble_eq_true rfl) (fun X' hX => KX3_requireArgument hX)) rfl rfl rfl rfl ⟨Nat.le_of_ble_eq_true rfl, Nat.le_of_ble_eq_true rfl⟩ rfl hF (fun h105 hF => ?_)
    refine jj_aload_n (j := 0) (i := 0) (pc' := 30) dX3_set_29 rfl rfl rfl ?_
    refine jj_cV (N := M_X3_save) (kc' := 1) (ks' := 6) (pc' := 33) (jg_V (N := M_X3_save) (ci := 3) (rest := []) (as := []) cf_X3_59 dX3_set_30 ⟨rfl, rfl⟩ rfl rfl ⟨Nat.le_of_ble_eq_true rfl, Nat.le_of_ble_eq_true rfl⟩ ⟨Nat.le_of_ble_eq_true rfl, Nat.le_of_ble_eq_true rfl⟩ (Nat.le_of_ble_eq_true rfl) (fun X' hX => KX3_save hX)) rfl rfl rfl rfl ⟨Nat.le_of_ble_eq_true rfl, Nat.le_of_ble_eq_true rfl⟩ rfl hF (fun h106 hF => ?_)
    refine jj_aload_n (j := 0) (i := 0) (pc' := 34) dX3_set_33 rfl rfl rfl ?_
    refine jj_gR (C := RX3) (T := TX3) (N := 8) (ci := 3) (k := 0) (pc' := 37) dX3_set_34 rfl rfl inX3 (by decide) qw_29 hF (fun r107 hF => ?_)
    refine jj_gR (C := RX0) (T := TX0) (N := 10) (ci := 0) (k := 2) (pc' := 40) dX3_set_37 rfl rfl inX0 (by decide) qw_46 hF (fun r108 hF => ?_)
    refine jj_iload_n (j := 1) (i := 1) (pc' := 41) dX3_set_40 rfl rfl rfl ?_
    refine jj_iconst (v := (0 : Int32)) (pc' := 42) dX3_set_41 rfl rfl ?_
    refine jj_iload_n (j := 2) (i := 2) (pc' := 43) dX3_set_42 rfl rfl rfl ?_
    refine jj_cI (N := M_X2_exchange) (kc' := 1) (ks' := 6) (pc' := 46) (jg_V (N := M_X2_exchange) (ci := 2) (rest := []) (as := [.int x1, .int ((0 : Int32)), .int x2]) cf_X3_73 dX3_set_43 ⟨rfl, rfl⟩ rfl rfl ⟨Nat.le_of_ble_eq_true rfl, Nat.le_of_ble_eq_true rfl⟩ ⟨Nat.le_of_ble_eq_true rfl, Nat.le_of_ble_eq_true rfl⟩ (Nat.le_of_ble_eq_true rfl) (fun X' hX => KX2_exchange hX)) rfl rfl rfl rfl ⟨Nat.le_of_ble_eq_true rfl, Nat.le_of_ble_eq_true rfl⟩ rfl hF (fun x110 h109 hF => ?_)
    exact jj_retI (ty := .int) rfl rfl dX3_set_46 ⟨Nat.le_of_ble_eq_true rfl, Nat.le_of_ble_eq_true rfl⟩ hF
  · skip
    exact jj_throw (text := "there is no such setting") tf_X3_77_81 (by decide) dX3_set_9 dX3_set_12 dX3_set_13 dX3_set_15 dX3_set_18 rfl ⟨Nat.le_of_ble_eq_true rfl, Nat.le_of_ble_eq_true rfl⟩ ⟨Nat.le_of_ble_eq_true rfl, Nat.le_of_ble_eq_true rfl⟩ hF
theorem KX3_set {N : Nat} {a0 : Nat} {x1 : Int32} {x2 : Int32} {h : jm_H} {X : jm_X} (hF : FX3_set N a0 x1 x2 h = some X) : jm_K M_X3_set [.ref a0, .int x1, .int x2] h X := jk_of rfl (by decide +kernel) rfl rfl (Nat.le_of_ble_eq_true rfl) (JX3_set hF)
set_option maxRecDepth 100000 in
set_option maxHeartbeats 4000000 in
theorem JX3_requireFilm {a0 : Nat} {x1 : Int32} {h : jm_H} {X : jm_X} (hF : FX3_requireFilm a0 x1 h = some X) : jm_J M_X3_requireFilm 0 [(0, .ref a0), (1, .int x1)] [] h 0 0 X := by
  unfold FX3_requireFilm at hF
  refine jj_iload_n (j := 1) (i := 1) (pc' := 1) dX3_requireFilm_0 rfl rfl rfl ?_
  refine jj_iconst (v := (0 : Int32)) (pc' := 2) dX3_requireFilm_1 rfl rfl ?_
  refine jj_aload_n (j := 0) (i := 0) (pc' := 3) dX3_requireFilm_2 rfl rfl rfl ?_
  refine jj_gR (C := RX3) (T := TX3) (N := 8) (ci := 3) (k := 0) (pc' := 6) dX3_requireFilm_3 rfl rfl inX3 (by decide) qw_29 hF (fun r101 hF => ?_)
  refine jj_gR (C := RX0) (T := TX0) (N := 10) (ci := 0) (k := 0) (pc' := 9) dX3_requireFilm_6 rfl rfl inX0 (by decide) qw_43 hF (fun r102 hF => ?_)
  refine jj_gI (C := RX2) (T := TX2) (N := 3) (ci := 2) (k := 2) (pc' := 12) dX3_requireFilm_9 rfl rfl inX2 (by decide) qw_44 hF (fun x103 hF => ?_)
  refine jj_iconst (v := (1 : Int32)) (pc' := 13) dX3_requireFilm_12 rfl rfl ?_
  refine jj_isub (pc' := 14) dX3_requireFilm_13 rfl ?_
  refine jj_cI (N := M_X3_isWithin) (kc' := 0) (ks' := 0) (pc' := 17) (jg_S (N := M_X3_isWithin) (rest := []) (as := [.int x1, .int ((0 : Int32)), .int (x103 - ((1 : Int32)))]) cf_X3_34 rfl dX3_requireFilm_14 rfl rfl ⟨Nat.le_of_ble_eq_true rfl, Nat.le_of_ble_eq_true rfl⟩ ⟨Nat.le_of_ble_eq_true rfl, Nat.le_of_ble_eq_true rfl⟩ (Nat.le_of_ble_eq_true rfl) (fun X' hX => KX3_isWithin hX)) rfl rfl rfl rfl ⟨Nat.le_of_ble_eq_true rfl, Nat.le_of_ble_eq_true rfl⟩ rfl hF (fun x105 h104 hF => ?_)
  refine jj_if_ne (tgt := 31) (pc' := 20) dX3_requireFilm_17 rfl rfl (fun hc hF => ?_) (fun hc hF => ?_) hF
  · skip
    exact jj_retV rfl dX3_requireFilm_31 ⟨Nat.le_of_ble_eq_true rfl, Nat.le_of_ble_eq_true rfl⟩ hF
  · skip
    exact jj_throwW (text := "there is no such film") tf_X3_77_81 (by decide) dX3_requireFilm_20 dX3_requireFilm_23 dX3_requireFilm_24 dX3_requireFilm_27 dX3_requireFilm_30 rfl ⟨Nat.le_of_ble_eq_true rfl, Nat.le_of_ble_eq_true rfl⟩ ⟨Nat.le_of_ble_eq_true rfl, Nat.le_of_ble_eq_true rfl⟩ hF
theorem KX3_requireFilm {a0 : Nat} {x1 : Int32} {h : jm_H} {X : jm_X} (hF : FX3_requireFilm a0 x1 h = some X) : jm_K M_X3_requireFilm [.ref a0, .int x1] h X := jk_of rfl (by decide +kernel) rfl rfl (Nat.le_of_ble_eq_true rfl) (JX3_requireFilm hF)
set_option maxRecDepth 100000 in
set_option maxHeartbeats 4000000 in
theorem JX3_requireMinute {x0 : Int32} {h : jm_H} {X : jm_X} (hF : FX3_requireMinute x0 h = some X) : jm_J M_X3_requireMinute 0 [(0, .int x0)] [] h 0 0 X := by
  unfold FX3_requireMinute at hF
  refine jj_iload_n (j := 0) (i := 0) (pc' := 1) dX3_requireMinute_0 rfl rfl rfl ?_
  refine jj_iconst (v := (0 : Int32)) (pc' := 2) dX3_requireMinute_1 rfl rfl ?_
  refine jj_sipush (v := (1999 : Int32)) (pc' := 5) dX3_requireMinute_2 rfl rfl ?_
  refine jj_cI (N := M_X3_isWithin) (kc' := 0) (ks' := 0) (pc' := 8) (jg_S (N := M_X3_isWithin) (rest := []) (as := [.int x0, .int ((0 : Int32)), .int ((1999 : Int32))]) cf_X3_34 rfl dX3_requireMinute_5 rfl rfl ⟨Nat.le_of_ble_eq_true rfl, Nat.le_of_ble_eq_true rfl⟩ ⟨Nat.le_of_ble_eq_true rfl, Nat.le_of_ble_eq_true rfl⟩ (Nat.le_of_ble_eq_true rfl) (fun X' hX => KX3_isWithin hX)) rfl rfl rfl rfl ⟨Nat.le_of_ble_eq_true rfl, Nat.le_of_ble_eq_true rfl⟩ rfl hF (fun x102 h101 hF => ?_)
  refine jj_cV (N := M_X3_requireArgument) (kc' := 1) (ks' := 6) (pc' := 11) (jg_S (N := M_X3_requireArgument) (rest := []) (as := [.int x102]) cf_X3_38 rfl dX3_requireMinute_8 rfl rfl ⟨Nat.le_of_ble_eq_true rfl, Nat.le_of_ble_eq_true rfl⟩ ⟨Nat.le_of_ble_eq_true rfl, Nat.le_of_ble_eq_true rfl⟩ (Nat.le_of_ble_eq_true rfl) (fun X' hX => KX3_requireArgument hX)) rfl rfl rfl rfl ⟨Nat.le_of_ble_eq_true rfl, Nat.le_of_ble_eq_true rfl⟩ rfl hF (fun h103 hF => ?_)
  exact jj_retV rfl dX3_requireMinute_11 ⟨Nat.le_of_ble_eq_true rfl, Nat.le_of_ble_eq_true rfl⟩ hF
theorem KX3_requireMinute {x0 : Int32} {h : jm_H} {X : jm_X} (hF : FX3_requireMinute x0 h = some X) : jm_K M_X3_requireMinute [.int x0] h X := jk_of rfl (by decide +kernel) rfl rfl (Nat.le_of_ble_eq_true rfl) (JX3_requireMinute hF)
set_option maxRecDepth 100000 in
set_option maxHeartbeats 4000000 in
theorem JX0_lengthOf {a0 : Nat} {x1 : Int32} {h : jm_H} {X : jm_X} (hF : FX0_lengthOf a0 x1 h = some X) : jm_J M_X0_lengthOf 0 [(0, .ref a0), (1, .int x1)] [] h 0 0 X := by
  unfold FX0_lengthOf at hF
  refine jj_aload_n (j := 0) (i := 0) (pc' := 1) dX0_lengthOf_0 rfl rfl rfl ?_
  refine jj_gR (C := RX0) (T := TX0) (N := 10) (ci := 0) (k := 0) (pc' := 4) dX0_lengthOf_1 rfl rfl inX0 (by decide) qw_15 hF (fun r101 hF => ?_)
  refine jj_iload_n (j := 1) (i := 1) (pc' := 5) dX0_lengthOf_4 rfl rfl rfl ?_
  refine jj_iconst (v := (0 : Int32)) (pc' := 6) dX0_lengthOf_5 rfl rfl ?_
  refine jj_cI (N := M_X2_at) (kc' := 0) (ks' := 0) (pc' := 9) (jg_V (N := M_X2_at) (ci := 2) (rest := []) (as := [.int x1, .int ((0 : Int32))]) cf_X0_60 dX0_lengthOf_6 ⟨rfl, rfl⟩ rfl rfl ⟨Nat.le_of_ble_eq_true rfl, Nat.le_of_ble_eq_true rfl⟩ ⟨Nat.le_of_ble_eq_true rfl, Nat.le_of_ble_eq_true rfl⟩ (Nat.le_of_ble_eq_true rfl) (fun X' hX => KX2_at hX)) rfl rfl rfl rfl ⟨Nat.le_of_ble_eq_true rfl, Nat.le_of_ble_eq_true rfl⟩ rfl hF (fun x103 h102 hF => ?_)
  refine jj_aload_n (j := 0) (i := 0) (pc' := 10) dX0_lengthOf_9 rfl rfl rfl ?_
  refine jj_gR (C := RX0) (T := TX0) (N := 10) (ci := 0) (k := 0) (pc' := 13) dX0_lengthOf_10 rfl rfl inX0 (by decide) qw_15 hF (fun r104 hF => ?_)
  refine jj_iload_n (j := 1) (i := 1) (pc' := 14) dX0_lengthOf_13 rfl rfl rfl ?_
  refine jj_iconst (v := (1 : Int32)) (pc' := 15) dX0_lengthOf_14 rfl rfl ?_
  refine jj_cI (N := M_X2_at) (kc' := 0) (ks' := 0) (pc' := 18) (jg_V (N := M_X2_at) (ci := 2) (rest := [.int x103]) (as := [.int x1, .int ((1 : Int32))]) cf_X0_60 dX0_lengthOf_15 ⟨rfl, rfl⟩ rfl rfl ⟨Nat.le_of_ble_eq_true rfl, Nat.le_of_ble_eq_true rfl⟩ ⟨Nat.le_of_ble_eq_true rfl, Nat.le_of_ble_eq_true rfl⟩ (Nat.le_of_ble_eq_true rfl) (fun X' hX => KX2_at hX)) rfl rfl rfl rfl ⟨Nat.le_of_ble_eq_true rfl, Nat.le_of_ble_eq_true rfl⟩ rfl hF (fun x106 h105 hF => ?_)
  refine jj_imul (pc' := 19) dX0_lengthOf_18 rfl ?_
  exact jj_retI (ty := .int) rfl rfl dX0_lengthOf_19 ⟨Nat.le_of_ble_eq_true rfl, Nat.le_of_ble_eq_true rfl⟩ hF
theorem KX0_lengthOf {a0 : Nat} {x1 : Int32} {h : jm_H} {X : jm_X} (hF : FX0_lengthOf a0 x1 h = some X) : jm_K M_X0_lengthOf [.ref a0, .int x1] h X := jk_of rfl (by decide +kernel) rfl rfl (Nat.le_of_ble_eq_true rfl) (JX0_lengthOf hF)
set_option maxRecDepth 100000 in
set_option maxHeartbeats 4000000 in
theorem JX0_endOf {a0 : Nat} {x1 : Int32} {h : jm_H} {X : jm_X} (hF : FX0_endOf a0 x1 h = some X) : jm_J M_X0_endOf 0 [(0, .ref a0), (1, .int x1)] [] h 0 0 X := by
  unfold FX0_endOf at hF
  refine jj_aload_n (j := 0) (i := 0) (pc' := 1) dX0_endOf_0 rfl rfl rfl ?_
  refine jj_gR (C := RX0) (T := TX0) (N := 10) (ci := 0) (k := 3) (pc' := 4) dX0_endOf_1 rfl rfl inX0 (by decide) qw_18 hF (fun r101 hF => ?_)
  refine jj_iload_n (j := 1) (i := 1) (pc' := 5) dX0_endOf_4 rfl rfl rfl ?_
  refine jj_iconst (v := (0 : Int32)) (pc' := 6) dX0_endOf_5 rfl rfl ?_
  refine jj_cI (N := M_X2_at) (kc' := 0) (ks' := 0) (pc' := 9) (jg_V (N := M_X2_at) (ci := 2) (rest := []) (as := [.int x1, .int ((0 : Int32))]) cf_X0_60 dX0_endOf_6 ⟨rfl, rfl⟩ rfl rfl ⟨Nat.le_of_ble_eq_true rfl, Nat.le_of_ble_eq_true rfl⟩ ⟨Nat.le_of_ble_eq_true rfl, Nat.le_of_ble_eq_true rfl⟩ (Nat.le_of_ble_eq_true rfl) (fun X' hX => KX2_at hX)) rfl rfl rfl rfl ⟨Nat.le_of_ble_eq_true rfl, Nat.le_of_ble_eq_true rfl⟩ rfl hF (fun x103 h102 hF => ?_)
  refine jj_istore_n (i := 2) (ls' := [(2, .int x103), (0, .ref a0), (1, .int x1)]) (pc' := 10) dX0_endOf_9 rfl (Nat.le_of_ble_eq_true rfl) rfl rfl ?_
  refine jj_aload_n (j := 1) (i := 0) (pc' := 11) dX0_endOf_10 rfl rfl rfl ?_
  refine jj_gR (C := RX0) (T := TX0) (N := 10) (ci := 0) (k := 3) (pc' := 14) dX0_endOf_11 rfl rfl inX0 (by decide) qw_18 hF (fun r104 hF => ?_)
  refine jj_iload_n (j := 2) (i := 1) (pc' := 15) dX0_endOf_14 rfl rfl rfl ?_
  refine jj_iconst (v := (2 : Int32)) (pc' := 16) dX0_endOf_15 rfl rfl ?_
  refine jj_cI (N := M_X2_at) (kc' := 0) (ks' := 0) (pc' := 19) (jg_V (N := M_X2_at) (ci := 2) (rest := []) (as := [.int x1, .int ((2 : Int32))]) cf_X0_60 dX0_endOf_16 ⟨rfl, rfl⟩ rfl rfl ⟨Nat.le_of_ble_eq_true rfl, Nat.le_of_ble_eq_true rfl⟩ ⟨Nat.le_of_ble_eq_true rfl, Nat.le_of_ble_eq_true rfl⟩ (Nat.le_of_ble_eq_true rfl) (fun X' hX => KX2_at hX)) rfl rfl rfl rfl ⟨Nat.le_of_ble_eq_true rfl, Nat.le_of_ble_eq_true rfl⟩ rfl hF (fun x106 h105 hF => ?_)
  refine jj_aload_n (j := 1) (i := 0) (pc' := 20) dX0_endOf_19 rfl rfl rfl ?_
  refine jj_gR (C := RX0) (T := TX0) (N := 10) (ci := 0) (k := 0) (pc' := 23) dX0_endOf_20 rfl rfl inX0 (by decide) qw_15 hF (fun r107 hF => ?_)
  refine jj_iload_n (j := 0) (i := 2) (pc' := 24) dX0_endOf_23 rfl rfl rfl ?_
  refine jj_iconst (v := (0 : Int32)) (pc' := 25) dX0_endOf_24 rfl rfl ?_
  refine jj_cI (N := M_X2_at) (kc' := 0) (ks' := 0) (pc' := 28) (jg_V (N := M_X2_at) (ci := 2) (rest := [.int x106]) (as := [.int x103, .int ((0 : Int32))]) cf_X0_60 dX0_endOf_25 ⟨rfl, rfl⟩ rfl rfl ⟨Nat.le_of_ble_eq_true rfl, Nat.le_of_ble_eq_true rfl⟩ ⟨Nat.le_of_ble_eq_true rfl, Nat.le_of_ble_eq_true rfl⟩ (Nat.le_of_ble_eq_true rfl) (fun X' hX => KX2_at hX)) rfl rfl rfl rfl ⟨Nat.le_of_ble_eq_true rfl, Nat.le_of_ble_eq_true rfl⟩ rfl hF (fun x109 h108 hF => ?_)
  refine jj_aload_n (j := 1) (i := 0) (pc' := 29) dX0_endOf_28 rfl rfl rfl ?_
  refine jj_gR (C := RX0) (T := TX0) (N := 10) (ci := 0) (k := 0) (pc' := 32) dX0_endOf_29 rfl rfl inX0 (by decide) qw_15 hF (fun r110 hF => ?_)
  refine jj_iload_n (j := 0) (i := 2) (pc' := 33) dX0_endOf_32 rfl rfl rfl ?_
  refine jj_iconst (v := (1 : Int32)) (pc' := 34) dX0_endOf_33 rfl rfl ?_
  refine jj_cI (N := M_X2_at) (kc' := 0) (ks' := 0) (pc' := 37) (jg_V (N := M_X2_at) (ci := 2) (rest := [.int x109, .int x106]) (as := [.int x103, .int ((1 : Int32))]) cf_X0_60 dX0_endOf_34 ⟨rfl, rfl⟩ rfl rfl ⟨Nat.le_of_ble_eq_true rfl, Nat.le_of_ble_eq_true rfl⟩ ⟨Nat.le_of_ble_eq_true rfl, Nat.le_of_ble_eq_true rfl⟩ (Nat.le_of_ble_eq_true rfl) (fun X' hX => KX2_at hX)) rfl rfl rfl rfl ⟨Nat.le_of_ble_eq_true rfl, Nat.le_of_ble_eq_true rfl⟩ rfl hF (fun x112 h111 hF => ?_)
  refine jj_imul (pc' := 38) dX0_endOf_37 rfl ?_
  refine jj_iadd (pc' := 39) dX0_endOf_38 rfl ?_
  refine jj_aload_n (j := 1) (i := 0) (pc' := 40) dX0_endOf_39 rfl rfl rfl ?_
  refine jj_gR (C := RX0) (T := TX0) (N := 10) (ci := 0) (k := 3) (pc' := 43) dX0_endOf_40 rfl rfl inX0 (by decide) qw_18 hF (fun r113 hF => ?_)
  refine jj_iload_n (j := 2) (i := 1) (pc' := 44) dX0_endOf_43 rfl rfl rfl ?_
  refine jj_iconst (v := (3 : Int32)) (pc' := 45) dX0_endOf_44 rfl rfl ?_
  refine jj_cI (N := M_X2_at) (kc' := 0) (ks' := 0) (pc' := 48) (jg_V (N := M_X2_at) (ci := 2) (rest := [.int (x106 + (x109 * x112))]) (as := [.int x1, .int ((3 : Int32))]) cf_X0_60 dX0_endOf_45 ⟨rfl, rfl⟩ rfl rfl ⟨Nat.le_of_ble_eq_true rfl, Nat.le_of_ble_eq_true rfl⟩ ⟨Nat.le_of_ble_eq_true rfl, Nat.le_of_ble_eq_true rfl⟩ (Nat.le_of_ble_eq_true rfl) (fun X' hX => KX2_at hX)) rfl rfl rfl rfl ⟨Nat.le_of_ble_eq_true rfl, Nat.le_of_ble_eq_true rfl⟩ rfl hF (fun x115 h114 hF => ?_)
  refine jj_iadd (pc' := 49) dX0_endOf_48 rfl ?_
  exact jj_retI (ty := .int) rfl rfl dX0_endOf_49 ⟨Nat.le_of_ble_eq_true rfl, Nat.le_of_ble_eq_true rfl⟩ hF
theorem KX0_endOf {a0 : Nat} {x1 : Int32} {h : jm_H} {X : jm_X} (hF : FX0_endOf a0 x1 h = some X) : jm_K M_X0_endOf [.ref a0, .int x1] h X := jk_of rfl (by decide +kernel) rfl rfl (Nat.le_of_ble_eq_true rfl) (JX0_endOf hF)
set_option maxRecDepth 100000 in
set_option maxHeartbeats 4000000 in
theorem JX0_areTooClose {x0 : Int32} {x1 : Int32} {x2 : Int32} {x3 : Int32} {x4 : Int32} {h : jm_H} {X : jm_X} (hF : FX0_areTooClose x0 x1 x2 x3 x4 h = some X) : jm_J M_X0_areTooClose 0 [(0, .int x0), (1, .int x1), (2, .int x2), (3, .int x3), (4, .int x4)] [] h 0 0 X := by
  unfold FX0_areTooClose at hF
  refine jj_iload_n (j := 0) (i := 0) (pc' := 1) dX0_areTooClose_0 rfl rfl rfl ?_
  refine jj_iload_n (j := 3) (i := 3) (pc' := 2) dX0_areTooClose_1 rfl rfl rfl ?_
  refine jj_iload (j := 4) (i := 4) (pc' := 4) dX0_areTooClose_2 rfl rfl ?_
  refine jj_iadd (pc' := 5) dX0_areTooClose_4 rfl ?_
  refine jj_icmp_ge (tgt := 20) (pc' := 8) dX0_areTooClose_5 rfl rfl (fun hc hF => ?_) (fun hc hF => ?_) hF
  · skip
    refine jj_iconst (v := (0 : Int32)) (pc' := 21) dX0_areTooClose_20 rfl rfl ?_
    exact jj_retI (ty := .boolean) rfl rfl dX0_areTooClose_21 ⟨Nat.le_of_ble_eq_true rfl, Nat.le_of_ble_eq_true rfl⟩ hF
  · skip
    refine jj_iload_n (j := 2) (i := 2) (pc' := 9) dX0_areTooClose_8 rfl rfl rfl ?_
    refine jj_iload_n (j := 1) (i := 1) (pc' := 10) dX0_areTooClose_9 rfl rfl rfl ?_
    refine jj_iload (j := 4) (i := 4) (pc' := 12) dX0_areTooClose_10 rfl rfl ?_
    refine jj_iadd (pc' := 13) dX0_areTooClose_12 rfl ?_
    refine jj_icmp_ge (tgt := 20) (pc' := 16) dX0_areTooClose_13 rfl rfl (fun hc hF => ?_) (fun hc hF => ?_) hF
    · skip
      refine jj_iconst (v := (0 : Int32)) (pc' := 21) dX0_areTooClose_20 rfl rfl ?_
      exact jj_retI (ty := .boolean) rfl rfl dX0_areTooClose_21 ⟨Nat.le_of_ble_eq_true rfl, Nat.le_of_ble_eq_true rfl⟩ hF
    · skip
      refine jj_iconst (v := (1 : Int32)) (pc' := 17) dX0_areTooClose_16 rfl rfl ?_
      refine jj_goto (tgt := 21) dX0_areTooClose_17 rfl ?_
      exact jj_retI (ty := .boolean) rfl rfl dX0_areTooClose_21 ⟨Nat.le_of_ble_eq_true rfl, Nat.le_of_ble_eq_true rfl⟩ hF
theorem KX0_areTooClose {x0 : Int32} {x1 : Int32} {x2 : Int32} {x3 : Int32} {x4 : Int32} {h : jm_H} {X : jm_X} (hF : FX0_areTooClose x0 x1 x2 x3 x4 h = some X) : jm_K M_X0_areTooClose [.int x0, .int x1, .int x2, .int x3, .int x4] h X := jk_of rfl (by decide +kernel) rfl rfl (Nat.le_of_ble_eq_true rfl) (JX0_areTooClose hF)
set_option maxRecDepth 100000 in
set_option maxHeartbeats 4000000 in
theorem BX0_takingScreen_14 (N : Nat) : ∀ (n : Nat) (a0 : Nat) (x1 : Int32) (x2 : Int32) (x3 : Int32) (x4 : Int32) (x5 : Int32) (x6 : Int32) (h : jm_H) (X : jm_X), FX0_takingScreen_14 N n a0 x1 x2 x3 x4 x5 x6 h = some X → jm_J M_X0_takingScreen 14 [(0, .ref a0), (1, .int x1), (2, .int x2), (3, .int x3), (4, .int x4), (5, .int x5), (6, .int x6)] [] h 0 0 X := by
  intro n
  induction n with
  | zero =>
    intro a0 x1 x2 x3 x4 x5 x6 h X hF
    exact nomatch (show (none : Option jm_X) = some X from hF)
  | succ n ih =>
    intro a0 x1 x2 x3 x4 x5 x6 h X hF
    rw [FX0_takingScreen_14] at hF
    refine jj_iload (j := 6) (i := 6) (pc' := 16) dX0_takingScreen_14 rfl rfl ?_
    refine jj_aload_n (j := 0) (i := 0) (pc' := 17) dX0_takingScreen_16 rfl rfl rfl ?_
    refine jj_gR (C := RX0) (T := TX0) (N := 10) (ci := 0) (k := 3) (pc' := 20) dX0_takingScreen_17 rfl rfl inX0 (by decide) qw_18 hF (fun r101 hF => ?_)
    refine jj_gI (C := RX2) (T := TX2) (N := 3) (ci := 2) (k := 2) (pc' := 23) dX0_takingScreen_20 rfl rfl inX2 (by decide) qw_47 hF (fun x102 hF => ?_)
    refine jj_icmp_ge (tgt := 82) (pc' := 26) dX0_takingScreen_23 rfl rfl (fun hc hF => ?_) (fun hc hF => ?_) hF
    · skip
      refine jj_iconst (v := (-1 : Int32)) (pc' := 83) dX0_takingScreen_82 rfl rfl ?_
      exact jj_retI (ty := .int) rfl rfl dX0_takingScreen_83 ⟨Nat.le_of_ble_eq_true rfl, Nat.le_of_ble_eq_true rfl⟩ hF
    · skip
      refine jj_iload (j := 6) (i := 6) (pc' := 28) dX0_takingScreen_26 rfl rfl ?_
      refine jj_iload (j := 4) (i := 4) (pc' := 30) dX0_takingScreen_28 rfl rfl ?_
      refine jj_icmp_eq (tgt := 76) (pc' := 33) dX0_takingScreen_30 rfl rfl (fun hc hF => ?_) (fun hc hF => ?_) hF
      · skip
        refine jj_iinc (i := 6) (j := 6) (v := x6 + (1 : Int32)) (ls' := [(6, .int (x6 + (1 : Int32))), (0, .ref a0), (1, .int x1), (2, .int x2), (3, .int x3), (4, .int x4), (5, .int x5)]) (pc' := 79) dX0_takingScreen_76 rfl rfl (Nat.le_of_ble_eq_true rfl) rfl rfl ?_
        refine jj_goto (tgt := 14) dX0_takingScreen_79 rfl ?_
        exact jj_pick [1, 2, 3, 4, 5, 6, 0] rfl (ih a0 x1 x2 x3 x4 x5 (x6 + (1 : Int32)) h _ hF)
      · skip
        refine jj_aload_n (j := 0) (i := 0) (pc' := 34) dX0_takingScreen_33 rfl rfl rfl ?_
        refine jj_gR (C := RX0) (T := TX0) (N := 10) (ci := 0) (k := 3) (pc' := 37) dX0_takingScreen_34 rfl rfl inX0 (by decide) qw_18 hF (fun r103 hF => ?_)
        refine jj_iload (j := 6) (i := 6) (pc' := 39) dX0_takingScreen_37 rfl rfl ?_
        refine jj_iconst (v := (1 : Int32)) (pc' := 40) dX0_takingScreen_39 rfl rfl ?_
        refine jj_cI (N := M_X2_at) (kc' := 0) (ks' := 0) (pc' := 43) (jg_V (N := M_X2_at) (ci := 2) (rest := []) (as := [.int x6, .int ((1 : Int32))]) cf_X0_60 dX0_takingScreen_40 ⟨rfl, rfl⟩ rfl rfl ⟨Nat.le_of_ble_eq_true rfl, Nat.le_of_ble_eq_true rfl⟩ ⟨Nat.le_of_ble_eq_true rfl, Nat.le_of_ble_eq_true rfl⟩ (Nat.le_of_ble_eq_true rfl) (fun X' hX => KX2_at hX)) rfl rfl rfl rfl ⟨Nat.le_of_ble_eq_true rfl, Nat.le_of_ble_eq_true rfl⟩ rfl hF (fun x105 h104 hF => ?_)
        refine jj_iload_n (j := 1) (i := 1) (pc' := 44) dX0_takingScreen_43 rfl rfl rfl ?_
        refine jj_icmp_ne (tgt := 76) (pc' := 47) dX0_takingScreen_44 rfl rfl (fun hc hF => ?_) (fun hc hF => ?_) hF
        · skip
          refine jj_iinc (i := 6) (j := 6) (v := x6 + (1 : Int32)) (ls' := [(6, .int (x6 + (1 : Int32))), (0, .ref a0), (1, .int x1), (2, .int x2), (3, .int x3), (4, .int x4), (5, .int x5)]) (pc' := 79) dX0_takingScreen_76 rfl rfl (Nat.le_of_ble_eq_true rfl) rfl rfl ?_
          refine jj_goto (tgt := 14) dX0_takingScreen_79 rfl ?_
          exact jj_pick [1, 2, 3, 4, 5, 6, 0] rfl (ih a0 x1 x2 x3 x4 x5 (x6 + (1 : Int32)) h104 _ hF)
        · skip
          refine jj_iload_n (j := 2) (i := 2) (pc' := 48) dX0_takingScreen_47 rfl rfl rfl ?_
          refine jj_iload_n (j := 3) (i := 3) (pc' := 49) dX0_takingScreen_48 rfl rfl rfl ?_
          refine jj_aload_n (j := 0) (i := 0) (pc' := 50) dX0_takingScreen_49 rfl rfl rfl ?_
          refine jj_gR (C := RX0) (T := TX0) (N := 10) (ci := 0) (k := 3) (pc' := 53) dX0_takingScreen_50 rfl rfl inX0 (by decide) qw_18 hF (fun r106 hF => ?_)
          refine jj_iload (j := 6) (i := 6) (pc' := 55) dX0_takingScreen_53 rfl rfl ?_
          refine jj_iconst (v := (2 : Int32)) (pc' := 56) dX0_takingScreen_55 rfl rfl ?_
          refine jj_cI (N := M_X2_at) (kc' := 0) (ks' := 0) (pc' := 59) (jg_V (N := M_X2_at) (ci := 2) (rest := [.int x3, .int x2]) (as := [.int x6, .int ((2 : Int32))]) cf_X0_60 dX0_takingScreen_56 ⟨rfl, rfl⟩ rfl rfl ⟨Nat.le_of_ble_eq_true rfl, Nat.le_of_ble_eq_true rfl⟩ ⟨Nat.le_of_ble_eq_true rfl, Nat.le_of_ble_eq_true rfl⟩ (Nat.le_of_ble_eq_true rfl) (fun X' hX => KX2_at hX)) rfl rfl rfl rfl ⟨Nat.le_of_ble_eq_true rfl, Nat.le_of_ble_eq_true rfl⟩ rfl hF (fun x108 h107 hF => ?_)
          refine jj_aload_n (j := 0) (i := 0) (pc' := 60) dX0_takingScreen_59 rfl rfl rfl ?_
          refine jj_iload (j := 6) (i := 6) (pc' := 62) dX0_takingScreen_60 rfl rfl ?_
          refine jj_cI (N := M_X0_endOf) (kc' := 0) (ks' := 0) (pc' := 65) (jg_V (N := M_X0_endOf) (ci := 0) (rest := [.int x108, .int x3, .int x2]) (as := [.int x6]) cf_X0_87 dX0_takingScreen_62 ⟨rfl, rfl⟩ rfl rfl ⟨Nat.le_of_ble_eq_true rfl, Nat.le_of_ble_eq_true rfl⟩ ⟨Nat.le_of_ble_eq_true rfl, Nat.le_of_ble_eq_true rfl⟩ (Nat.le_of_ble_eq_true rfl) (fun X' hX => KX0_endOf hX)) rfl rfl rfl rfl ⟨Nat.le_of_ble_eq_true rfl, Nat.le_of_ble_eq_true rfl⟩ rfl hF (fun x110 h109 hF => ?_)
          refine jj_iload (j := 5) (i := 5) (pc' := 67) dX0_takingScreen_65 rfl rfl ?_
          refine jj_cI (N := M_X0_areTooClose) (kc' := 0) (ks' := 0) (pc' := 70) (jg_S (N := M_X0_areTooClose) (rest := []) (as := [.int x2, .int x3, .int x108, .int x110, .int x5]) cf_X0_93 rfl dX0_takingScreen_67 rfl rfl ⟨Nat.le_of_ble_eq_true rfl, Nat.le_of_ble_eq_true rfl⟩ ⟨Nat.le_of_ble_eq_true rfl, Nat.le_of_ble_eq_true rfl⟩ (Nat.le_of_ble_eq_true rfl) (fun X' hX => KX0_areTooClose hX)) rfl rfl rfl rfl ⟨Nat.le_of_ble_eq_true rfl, Nat.le_of_ble_eq_true rfl⟩ rfl hF (fun x112 h111 hF => ?_)
          refine jj_if_eq (tgt := 76) (pc' := 73) dX0_takingScreen_70 rfl rfl (fun hc hF => ?_) (fun hc hF => ?_) hF
          · skip
            refine jj_iinc (i := 6) (j := 6) (v := x6 + (1 : Int32)) (ls' := [(6, .int (x6 + (1 : Int32))), (0, .ref a0), (1, .int x1), (2, .int x2), (3, .int x3), (4, .int x4), (5, .int x5)]) (pc' := 79) dX0_takingScreen_76 rfl rfl (Nat.le_of_ble_eq_true rfl) rfl rfl ?_
            refine jj_goto (tgt := 14) dX0_takingScreen_79 rfl ?_
            exact jj_pick [1, 2, 3, 4, 5, 6, 0] rfl (ih a0 x1 x2 x3 x4 x5 (x6 + (1 : Int32)) h111 _ hF)
          · skip
            refine jj_iload (j := 6) (i := 6) (pc' := 75) dX0_takingScreen_73 rfl rfl ?_
            exact jj_retI (ty := .int) rfl rfl dX0_takingScreen_75 ⟨Nat.le_of_ble_eq_true rfl, Nat.le_of_ble_eq_true rfl⟩ hF
set_option maxRecDepth 100000 in
set_option maxHeartbeats 4000000 in
theorem JX0_takingScreen {N : Nat} {a0 : Nat} {x1 : Int32} {x2 : Int32} {x3 : Int32} {x4 : Int32} {h : jm_H} {X : jm_X} (hF : FX0_takingScreen N a0 x1 x2 x3 x4 h = some X) : jm_J M_X0_takingScreen 0 [(0, .ref a0), (1, .int x1), (2, .int x2), (3, .int x3), (4, .int x4)] [] h 0 0 X := by
  unfold FX0_takingScreen at hF
  refine jj_aload_n (j := 0) (i := 0) (pc' := 1) dX0_takingScreen_0 rfl rfl rfl ?_
  refine jj_gR (C := RX0) (T := TX0) (N := 10) (ci := 0) (k := 2) (pc' := 4) dX0_takingScreen_1 rfl rfl inX0 (by decide) qw_17 hF (fun r101 hF => ?_)
  refine jj_iconst (v := (1 : Int32)) (pc' := 5) dX0_takingScreen_4 rfl rfl ?_
  refine jj_iconst (v := (0 : Int32)) (pc' := 6) dX0_takingScreen_5 rfl rfl ?_
  refine jj_cI (N := M_X2_at) (kc' := 0) (ks' := 0) (pc' := 9) (jg_V (N := M_X2_at) (ci := 2) (rest := []) (as := [.int ((1 : Int32)), .int ((0 : Int32))]) cf_X0_60 dX0_takingScreen_6 ⟨rfl, rfl⟩ rfl rfl ⟨Nat.le_of_ble_eq_true rfl, Nat.le_of_ble_eq_true rfl⟩ ⟨Nat.le_of_ble_eq_true rfl, Nat.le_of_ble_eq_true rfl⟩ (Nat.le_of_ble_eq_true rfl) (fun X' hX => KX2_at hX)) rfl rfl rfl rfl ⟨Nat.le_of_ble_eq_true rfl, Nat.le_of_ble_eq_true rfl⟩ rfl hF (fun x103 h102 hF => ?_)
  refine jj_istore (i := 5) (ls' := [(5, .int x103), (0, .ref a0), (1, .int x1), (2, .int x2), (3, .int x3), (4, .int x4)]) (pc' := 11) dX0_takingScreen_9 (Nat.le_of_ble_eq_true rfl) rfl rfl ?_
  refine jj_iconst (v := (0 : Int32)) (pc' := 12) dX0_takingScreen_11 rfl rfl ?_
  refine jj_istore (i := 6) (ls' := [(6, .int ((0 : Int32))), (5, .int x103), (0, .ref a0), (1, .int x1), (2, .int x2), (3, .int x3), (4, .int x4)]) (pc' := 14) dX0_takingScreen_12 (Nat.le_of_ble_eq_true rfl) rfl rfl ?_
  exact jj_pick [2, 3, 4, 5, 6, 1, 0] rfl (BX0_takingScreen_14 N N a0 x1 x2 x3 x4 x103 ((0 : Int32)) h102 _ hF)
theorem KX0_takingScreen {N : Nat} {a0 : Nat} {x1 : Int32} {x2 : Int32} {x3 : Int32} {x4 : Int32} {h : jm_H} {X : jm_X} (hF : FX0_takingScreen N a0 x1 x2 x3 x4 h = some X) : jm_K M_X0_takingScreen [.ref a0, .int x1, .int x2, .int x3, .int x4] h X := jk_of rfl (by decide +kernel) rfl rfl (Nat.le_of_ble_eq_true rfl) (JX0_takingScreen hF)
set_option maxRecDepth 100000 in
set_option maxHeartbeats 4000000 in
theorem JX0_beginIn {x0 : Int32} {x1 : Int32} {x2 : Int32} {x3 : Int32} {x4 : Int32} {h : jm_H} {X : jm_X} (hF : FX0_beginIn x0 x1 x2 x3 x4 h = some X) : jm_J M_X0_beginIn 0 [(0, .int x0), (1, .int x1), (2, .int x2), (3, .int x3), (4, .int x4)] [] h 0 0 X := by
  unfold FX0_beginIn at hF
  refine jj_iload_n (j := 0) (i := 0) (pc' := 1) dX0_beginIn_0 rfl rfl rfl ?_
  refine jj_iload (j := 4) (i := 4) (pc' := 3) dX0_beginIn_1 rfl rfl ?_
  refine jj_iload_n (j := 3) (i := 3) (pc' := 4) dX0_beginIn_3 rfl rfl rfl ?_
  refine jj_imul (pc' := 5) dX0_beginIn_4 rfl ?_
  refine jj_iadd (pc' := 6) dX0_beginIn_5 rfl ?_
  refine jj_istore (i := 5) (ls' := [(5, .int (x0 + (x4 * x3))), (0, .int x0), (1, .int x1), (2, .int x2), (3, .int x3), (4, .int x4)]) (pc' := 8) dX0_beginIn_6 (Nat.le_of_ble_eq_true rfl) rfl rfl ?_
  refine jj_iload (j := 5) (i := 4) (pc' := 10) dX0_beginIn_8 rfl rfl ?_
  refine jj_iload_n (j := 3) (i := 2) (pc' := 11) dX0_beginIn_10 rfl rfl rfl ?_
  refine jj_iconst (v := (1 : Int32)) (pc' := 12) dX0_beginIn_11 rfl rfl ?_
  refine jj_iadd (pc' := 13) dX0_beginIn_12 rfl ?_
  refine jj_iconst (v := (2 : Int32)) (pc' := 14) dX0_beginIn_13 rfl rfl ?_
  refine jj_idiv (pc' := 15) dX0_beginIn_14 (by decide) rfl ?_
  refine jj_icmp_ge (tgt := 23) (pc' := 18) dX0_beginIn_15 rfl rfl (fun hc hF => ?_) (fun hc hF => ?_) hF
  · skip
    refine jj_iload (j := 0) (i := 5) (pc' := 25) dX0_beginIn_23 rfl rfl ?_
    refine jj_iload_n (j := 2) (i := 1) (pc' := 26) dX0_beginIn_25 rfl rfl rfl ?_
    refine jj_iadd (pc' := 27) dX0_beginIn_26 rfl ?_
    exact jj_retI (ty := .int) rfl rfl dX0_beginIn_27 ⟨Nat.le_of_ble_eq_true rfl, Nat.le_of_ble_eq_true rfl⟩ hF
  · skip
    refine jj_iload (j := 0) (i := 5) (pc' := 20) dX0_beginIn_18 rfl rfl ?_
    refine jj_goto (tgt := 27) dX0_beginIn_20 rfl ?_
    exact jj_retI (ty := .int) rfl rfl dX0_beginIn_27 ⟨Nat.le_of_ble_eq_true rfl, Nat.le_of_ble_eq_true rfl⟩ hF
theorem KX0_beginIn {x0 : Int32} {x1 : Int32} {x2 : Int32} {x3 : Int32} {x4 : Int32} {h : jm_H} {X : jm_X} (hF : FX0_beginIn x0 x1 x2 x3 x4 h = some X) : jm_K M_X0_beginIn [.int x0, .int x1, .int x2, .int x3, .int x4] h X := jk_of rfl (by decide +kernel) rfl rfl (Nat.le_of_ble_eq_true rfl) (JX0_beginIn hF)
set_option maxRecDepth 100000 in
set_option maxHeartbeats 4000000 in
theorem BX0_clashingReel_60 (N : Nat) : ∀ (n : Nat) (x2 : Int32) (x3 : Int32) (x5 : Int32) (x6 : Int32) (x7 : Int32) (x8 : Int32) (x9 : Int32) (x10 : Int32) (h : jm_H) (X : jm_X), FX0_clashingReel_60 N n x2 x3 x5 x6 x7 x8 x9 x10 h = some X → jm_J M_X0_clashingReel 60 [(2, .int x2), (3, .int x3), (5, .int x5), (6, .int x6), (7, .int x7), (8, .int x8), (9, .int x9), (10, .int x10)] [] h 0 0 X := by
  intro n
  induction n with
  | zero =>
    intro x2 x3 x5 x6 x7 x8 x9 x10 h X hF
    exact nomatch (show (none : Option jm_X) = some X from hF)
  | succ n ih =>
    intro x2 x3 x5 x6 x7 x8 x9 x10 h X hF
    rw [FX0_clashingReel_60] at hF
    refine jj_iload (j := 7) (i := 10) (pc' := 62) dX0_clashingReel_60 rfl rfl ?_
    refine jj_iload (j := 2) (i := 5) (pc' := 64) dX0_clashingReel_62 rfl rfl ?_
    refine jj_icmp_ge (tgt := 126) (pc' := 67) dX0_clashingReel_64 rfl rfl (fun hc hF => ?_) (fun hc hF => ?_) hF
    · skip
      refine jj_iconst (v := (-1 : Int32)) (pc' := 127) dX0_clashingReel_126 rfl rfl ?_
      exact jj_retI (ty := .int) rfl rfl dX0_clashingReel_127 ⟨Nat.le_of_ble_eq_true rfl, Nat.le_of_ble_eq_true rfl⟩ hF
    · skip
      refine jj_iload_n (j := 0) (i := 2) (pc' := 68) dX0_clashingReel_67 rfl rfl rfl ?_
      refine jj_iload_n (j := 1) (i := 3) (pc' := 69) dX0_clashingReel_68 rfl rfl rfl ?_
      refine jj_iload (j := 2) (i := 5) (pc' := 71) dX0_clashingReel_69 rfl rfl ?_
      refine jj_iload (j := 3) (i := 6) (pc' := 73) dX0_clashingReel_71 rfl rfl ?_
      refine jj_iload (j := 7) (i := 10) (pc' := 75) dX0_clashingReel_73 rfl rfl ?_
      refine jj_cI (N := M_X0_beginIn) (kc' := 0) (ks' := 0) (pc' := 78) (jg_S (N := M_X0_beginIn) (rest := []) (as := [.int x2, .int x3, .int x5, .int x6, .int x10]) cf_X0_97 rfl dX0_clashingReel_75 rfl rfl ⟨Nat.le_of_ble_eq_true rfl, Nat.le_of_ble_eq_true rfl⟩ ⟨Nat.le_of_ble_eq_true rfl, Nat.le_of_ble_eq_true rfl⟩ (Nat.le_of_ble_eq_true rfl) (fun X' hX => KX0_beginIn hX)) rfl rfl rfl rfl ⟨Nat.le_of_ble_eq_true rfl, Nat.le_of_ble_eq_true rfl⟩ rfl hF (fun x102 h101 hF => ?_)
      refine jj_istore (i := 11) (ls' := [(11, .int x102), (2, .int x2), (3, .int x3), (5, .int x5), (6, .int x6), (7, .int x7), (8, .int x8), (9, .int x9), (10, .int x10)]) (pc' := 80) dX0_clashingReel_78 (Nat.le_of_ble_eq_true rfl) rfl rfl ?_
      refine jj_iload (j := 5) (i := 7) (pc' := 82) dX0_clashingReel_80 rfl rfl ?_
      refine jj_iload (j := 6) (i := 8) (pc' := 84) dX0_clashingReel_82 rfl rfl ?_
      refine jj_iload (j := 3) (i := 5) (pc' := 86) dX0_clashingReel_84 rfl rfl ?_
      refine jj_iload (j := 4) (i := 6) (pc' := 88) dX0_clashingReel_86 rfl rfl ?_
      refine jj_iload (j := 8) (i := 10) (pc' := 90) dX0_clashingReel_88 rfl rfl ?_
      refine jj_cI (N := M_X0_beginIn) (kc' := 0) (ks' := 0) (pc' := 93) (jg_S (N := M_X0_beginIn) (rest := []) (as := [.int x7, .int x8, .int x5, .int x6, .int x10]) cf_X0_97 rfl dX0_clashingReel_90 rfl rfl ⟨Nat.le_of_ble_eq_true rfl, Nat.le_of_ble_eq_true rfl⟩ ⟨Nat.le_of_ble_eq_true rfl, Nat.le_of_ble_eq_true rfl⟩ (Nat.le_of_ble_eq_true rfl) (fun X' hX => KX0_beginIn hX)) rfl rfl rfl rfl ⟨Nat.le_of_ble_eq_true rfl, Nat.le_of_ble_eq_true rfl⟩ rfl hF (fun x104 h103 hF => ?_)
      refine jj_istore (i := 12) (ls' := [(12, .int x104), (11, .int x102), (2, .int x2), (3, .int x3), (5, .int x5), (6, .int x6), (7, .int x7), (8, .int x8), (9, .int x9), (10, .int x10)]) (pc' := 95) dX0_clashingReel_93 (Nat.le_of_ble_eq_true rfl) rfl rfl ?_
      refine jj_iload (j := 1) (i := 11) (pc' := 97) dX0_clashingReel_95 rfl rfl ?_
      refine jj_iload (j := 1) (i := 11) (pc' := 99) dX0_clashingReel_97 rfl rfl ?_
      refine jj_iload (j := 5) (i := 6) (pc' := 101) dX0_clashingReel_99 rfl rfl ?_
      refine jj_iadd (pc' := 102) dX0_clashingReel_101 rfl ?_
      refine jj_iload (j := 0) (i := 12) (pc' := 104) dX0_clashingReel_102 rfl rfl ?_
      refine jj_iload (j := 0) (i := 12) (pc' := 106) dX0_clashingReel_104 rfl rfl ?_
      refine jj_iload (j := 5) (i := 6) (pc' := 108) dX0_clashingReel_106 rfl rfl ?_
      refine jj_iadd (pc' := 109) dX0_clashingReel_108 rfl ?_
      refine jj_iload (j := 8) (i := 9) (pc' := 111) dX0_clashingReel_109 rfl rfl ?_
      refine jj_cI (N := M_X0_areTooClose) (kc' := 0) (ks' := 0) (pc' := 114) (jg_S (N := M_X0_areTooClose) (rest := []) (as := [.int x102, .int (x102 + x6), .int x104, .int (x104 + x6), .int x9]) cf_X0_93 rfl dX0_clashingReel_111 rfl rfl ⟨Nat.le_of_ble_eq_true rfl, Nat.le_of_ble_eq_true rfl⟩ ⟨Nat.le_of_ble_eq_true rfl, Nat.le_of_ble_eq_true rfl⟩ (Nat.le_of_ble_eq_true rfl) (fun X' hX => KX0_areTooClose hX)) rfl rfl rfl rfl ⟨Nat.le_of_ble_eq_true rfl, Nat.le_of_ble_eq_true rfl⟩ rfl hF (fun x106 h105 hF => ?_)
      refine jj_if_eq (tgt := 120) (pc' := 117) dX0_clashingReel_114 rfl rfl (fun hc hF => ?_) (fun hc hF => ?_) hF
      · skip
        refine jj_iinc (i := 10) (j := 9) (v := x10 + (1 : Int32)) (ls' := [(10, .int (x10 + (1 : Int32))), (12, .int x104), (11, .int x102), (2, .int x2), (3, .int x3), (5, .int x5), (6, .int x6), (7, .int x7), (8, .int x8), (9, .int x9)]) (pc' := 123) dX0_clashingReel_120 rfl rfl (Nat.le_of_ble_eq_true rfl) rfl rfl ?_
        refine jj_goto (tgt := 60) dX0_clashingReel_123 rfl ?_
        exact jj_pick [3, 4, 5, 6, 7, 8, 9, 0] rfl (ih x2 x3 x5 x6 x7 x8 x9 (x10 + (1 : Int32)) h105 _ hF)
      · skip
        refine jj_iload (j := 9) (i := 10) (pc' := 119) dX0_clashingReel_117 rfl rfl ?_
        exact jj_retI (ty := .int) rfl rfl dX0_clashingReel_119 ⟨Nat.le_of_ble_eq_true rfl, Nat.le_of_ble_eq_true rfl⟩ hF
set_option maxRecDepth 100000 in
set_option maxHeartbeats 4000000 in
theorem JX0_clashingReel {N : Nat} {a0 : Nat} {x1 : Int32} {x2 : Int32} {x3 : Int32} {x4 : Int32} {h : jm_H} {X : jm_X} (hF : FX0_clashingReel N a0 x1 x2 x3 x4 h = some X) : jm_J M_X0_clashingReel 0 [(0, .ref a0), (1, .int x1), (2, .int x2), (3, .int x3), (4, .int x4)] [] h 0 0 X := by
  unfold FX0_clashingReel at hF
  refine jj_aload_n (j := 0) (i := 0) (pc' := 1) dX0_clashingReel_0 rfl rfl rfl ?_
  refine jj_gR (C := RX0) (T := TX0) (N := 10) (ci := 0) (k := 0) (pc' := 4) dX0_clashingReel_1 rfl rfl inX0 (by decide) qw_15 hF (fun r101 hF => ?_)
  refine jj_iload_n (j := 1) (i := 1) (pc' := 5) dX0_clashingReel_4 rfl rfl rfl ?_
  refine jj_iconst (v := (0 : Int32)) (pc' := 6) dX0_clashingReel_5 rfl rfl ?_
  refine jj_cI (N := M_X2_at) (kc' := 0) (ks' := 0) (pc' := 9) (jg_V (N := M_X2_at) (ci := 2) (rest := []) (as := [.int x1, .int ((0 : Int32))]) cf_X0_60 dX0_clashingReel_6 ⟨rfl, rfl⟩ rfl rfl ⟨Nat.le_of_ble_eq_true rfl, Nat.le_of_ble_eq_true rfl⟩ ⟨Nat.le_of_ble_eq_true rfl, Nat.le_of_ble_eq_true rfl⟩ (Nat.le_of_ble_eq_true rfl) (fun X' hX => KX2_at hX)) rfl rfl rfl rfl ⟨Nat.le_of_ble_eq_true rfl, Nat.le_of_ble_eq_true rfl⟩ rfl hF (fun x103 h102 hF => ?_)
  refine jj_istore (i := 5) (ls' := [(5, .int x103), (0, .ref a0), (1, .int x1), (2, .int x2), (3, .int x3), (4, .int x4)]) (pc' := 11) dX0_clashingReel_9 (Nat.le_of_ble_eq_true rfl) rfl rfl ?_
  refine jj_aload_n (j := 1) (i := 0) (pc' := 12) dX0_clashingReel_11 rfl rfl rfl ?_
  refine jj_gR (C := RX0) (T := TX0) (N := 10) (ci := 0) (k := 0) (pc' := 15) dX0_clashingReel_12 rfl rfl inX0 (by decide) qw_15 hF (fun r104 hF => ?_)
  refine jj_iload_n (j := 2) (i := 1) (pc' := 16) dX0_clashingReel_15 rfl rfl rfl ?_
  refine jj_iconst (v := (1 : Int32)) (pc' := 17) dX0_clashingReel_16 rfl rfl ?_
  refine jj_cI (N := M_X2_at) (kc' := 0) (ks' := 0) (pc' := 20) (jg_V (N := M_X2_at) (ci := 2) (rest := []) (as := [.int x1, .int ((1 : Int32))]) cf_X0_60 dX0_clashingReel_17 ⟨rfl, rfl⟩ rfl rfl ⟨Nat.le_of_ble_eq_true rfl, Nat.le_of_ble_eq_true rfl⟩ ⟨Nat.le_of_ble_eq_true rfl, Nat.le_of_ble_eq_true rfl⟩ (Nat.le_of_ble_eq_true rfl) (fun X' hX => KX2_at hX)) rfl rfl rfl rfl ⟨Nat.le_of_ble_eq_true rfl, Nat.le_of_ble_eq_true rfl⟩ rfl hF (fun x106 h105 hF => ?_)
  refine jj_istore (i := 6) (ls' := [(6, .int x106), (5, .int x103), (0, .ref a0), (1, .int x1), (2, .int x2), (3, .int x3), (4, .int x4)]) (pc' := 22) dX0_clashingReel_20 (Nat.le_of_ble_eq_true rfl) rfl rfl ?_
  refine jj_aload_n (j := 2) (i := 0) (pc' := 23) dX0_clashingReel_22 rfl rfl rfl ?_
  refine jj_gR (C := RX0) (T := TX0) (N := 10) (ci := 0) (k := 3) (pc' := 26) dX0_clashingReel_23 rfl rfl inX0 (by decide) qw_18 hF (fun r107 hF => ?_)
  refine jj_iload (j := 6) (i := 4) (pc' := 28) dX0_clashingReel_26 rfl rfl ?_
  refine jj_iconst (v := (2 : Int32)) (pc' := 29) dX0_clashingReel_28 rfl rfl ?_
  refine jj_cI (N := M_X2_at) (kc' := 0) (ks' := 0) (pc' := 32) (jg_V (N := M_X2_at) (ci := 2) (rest := []) (as := [.int x4, .int ((2 : Int32))]) cf_X0_60 dX0_clashingReel_29 ⟨rfl, rfl⟩ rfl rfl ⟨Nat.le_of_ble_eq_true rfl, Nat.le_of_ble_eq_true rfl⟩ ⟨Nat.le_of_ble_eq_true rfl, Nat.le_of_ble_eq_true rfl⟩ (Nat.le_of_ble_eq_true rfl) (fun X' hX => KX2_at hX)) rfl rfl rfl rfl ⟨Nat.le_of_ble_eq_true rfl, Nat.le_of_ble_eq_true rfl⟩ rfl hF (fun x109 h108 hF => ?_)
  refine jj_istore (i := 7) (ls' := [(7, .int x109), (6, .int x106), (5, .int x103), (0, .ref a0), (1, .int x1), (2, .int x2), (3, .int x3), (4, .int x4)]) (pc' := 34) dX0_clashingReel_32 (Nat.le_of_ble_eq_true rfl) rfl rfl ?_
  refine jj_aload_n (j := 3) (i := 0) (pc' := 35) dX0_clashingReel_34 rfl rfl rfl ?_
  refine jj_gR (C := RX0) (T := TX0) (N := 10) (ci := 0) (k := 3) (pc' := 38) dX0_clashingReel_35 rfl rfl inX0 (by decide) qw_18 hF (fun r110 hF => ?_)
  refine jj_iload (j := 7) (i := 4) (pc' := 40) dX0_clashingReel_38 rfl rfl ?_
  refine jj_iconst (v := (3 : Int32)) (pc' := 41) dX0_clashingReel_40 rfl rfl ?_
  refine jj_cI (N := M_X2_at) (kc' := 0) (ks' := 0) (pc' := 44) (jg_V (N := M_X2_at) (ci := 2) (rest := []) (as := [.int x4, .int ((3 : Int32))]) cf_X0_60 dX0_clashingReel_41 ⟨rfl, rfl⟩ rfl rfl ⟨Nat.le_of_ble_eq_true rfl, Nat.le_of_ble_eq_true rfl⟩ ⟨Nat.le_of_ble_eq_true rfl, Nat.le_of_ble_eq_true rfl⟩ (Nat.le_of_ble_eq_true rfl) (fun X' hX => KX2_at hX)) rfl rfl rfl rfl ⟨Nat.le_of_ble_eq_true rfl, Nat.le_of_ble_eq_true rfl⟩ rfl hF (fun x112 h111 hF => ?_)
  refine jj_istore (i := 8) (ls' := [(8, .int x112), (7, .int x109), (6, .int x106), (5, .int x103), (0, .ref a0), (1, .int x1), (2, .int x2), (3, .int x3), (4, .int x4)]) (pc' := 46) dX0_clashingReel_44 (Nat.le_of_ble_eq_true rfl) rfl rfl ?_
  refine jj_aload_n (j := 4) (i := 0) (pc' := 47) dX0_clashingReel_46 rfl rfl rfl ?_
  refine jj_gR (C := RX0) (T := TX0) (N := 10) (ci := 0) (k := 2) (pc' := 50) dX0_clashingReel_47 rfl rfl inX0 (by decide) qw_17 hF (fun r113 hF => ?_)
  refine jj_iconst (v := (0 : Int32)) (pc' := 51) dX0_clashingReel_50 rfl rfl ?_
  refine jj_iconst (v := (0 : Int32)) (pc' := 52) dX0_clashingReel_51 rfl rfl ?_
  refine jj_cI (N := M_X2_at) (kc' := 0) (ks' := 0) (pc' := 55) (jg_V (N := M_X2_at) (ci := 2) (rest := []) (as := [.int ((0 : Int32)), .int ((0 : Int32))]) cf_X0_60 dX0_clashingReel_52 ⟨rfl, rfl⟩ rfl rfl ⟨Nat.le_of_ble_eq_true rfl, Nat.le_of_ble_eq_true rfl⟩ ⟨Nat.le_of_ble_eq_true rfl, Nat.le_of_ble_eq_true rfl⟩ (Nat.le_of_ble_eq_true rfl) (fun X' hX => KX2_at hX)) rfl rfl rfl rfl ⟨Nat.le_of_ble_eq_true rfl, Nat.le_of_ble_eq_true rfl⟩ rfl hF (fun x115 h114 hF => ?_)
  refine jj_istore (i := 9) (ls' := [(9, .int x115), (8, .int x112), (7, .int x109), (6, .int x106), (5, .int x103), (0, .ref a0), (1, .int x1), (2, .int x2), (3, .int x3), (4, .int x4)]) (pc' := 57) dX0_clashingReel_55 (Nat.le_of_ble_eq_true rfl) rfl rfl ?_
  refine jj_iconst (v := (0 : Int32)) (pc' := 58) dX0_clashingReel_57 rfl rfl ?_
  refine jj_istore (i := 10) (ls' := [(10, .int ((0 : Int32))), (9, .int x115), (8, .int x112), (7, .int x109), (6, .int x106), (5, .int x103), (0, .ref a0), (1, .int x1), (2, .int x2), (3, .int x3), (4, .int x4)]) (pc' := 60) dX0_clashingReel_58 (Nat.le_of_ble_eq_true rfl) rfl rfl ?_
  exact jj_pick [8, 9, 5, 4, 3, 2, 1, 0] rfl (BX0_clashingReel_60 N N x2 x3 x103 x106 x109 x112 x115 ((0 : Int32)) h114 _ hF)
theorem KX0_clashingReel {N : Nat} {a0 : Nat} {x1 : Int32} {x2 : Int32} {x3 : Int32} {x4 : Int32} {h : jm_H} {X : jm_X} (hF : FX0_clashingReel N a0 x1 x2 x3 x4 h = some X) : jm_K M_X0_clashingReel [.ref a0, .int x1, .int x2, .int x3, .int x4] h X := jk_of rfl (by decide +kernel) rfl rfl (Nat.le_of_ble_eq_true rfl) (JX0_clashingReel hF)

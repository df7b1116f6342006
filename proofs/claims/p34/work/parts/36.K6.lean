set_option maxRecDepth 100000 in
set_option maxHeartbeats 4000000 in
theorem BL_seen_198 (N : Nat) : ∀ (n : Nat) (kc : Nat) (ks : Nat) (a0 : Nat) (l1 : Int64) (x3 : Int32) (h : jm_H) (X : jm_X), FL_seen_198 N n kc ks a0 l1 x3 h = some X → jm_J M_L_seen 198 [(0, .ref a0), (1, .long l1), (3, .int x3)] [] h kc ks X := by
  intro n
  induction n with
  | zero =>
    intro kc ks a0 l1 x3 h X hF
    exact nomatch (show (none : Option jm_X) = some X from hF)
  | succ n ih =>
    intro kc ks a0 l1 x3 h X hF
    rw [FL_seen_198] at hF
    obtain ⟨hk, hF⟩ := jf_k_inv hF
    refine jj_iload_n (j := 2) (i := 3) (pc' := 199) dL_seen_198 rfl rfl rfl ?_
    refine jj_iconst (v := (3 : Int32)) (pc' := 200) dL_seen_199 rfl rfl ?_
    refine jj_icmp_ge (tgt := 222) (pc' := 203) dL_seen_200 rfl rfl (fun hc hF => ?_) (fun hc hF => ?_) hF
    · skip
      obtain ⟨hw, hF⟩ := jf_w_inv hF
      refine jj_wide hw.1 hw.2 ?_
      refine jj_lload_n (j := 1) (i := 1) (pc' := 223) dL_seen_222 rfl rfl rfl ?_
      exact jj_retL rfl dL_seen_223 ⟨Nat.le_of_ble_eq_true rfl, Nat.le_of_ble_eq_true rfl⟩ hF
    · skip
      refine jj_ldc2l (v := (31 : Int64)) (pc' := 206) dL_seen_203 qw_75 rfl ?_
      refine jj_lload_n (j := 1) (i := 1) (pc' := 207) dL_seen_206 rfl rfl rfl ?_
      refine jj_lmul (pc' := 208) dL_seen_207 rfl ?_
      refine jj_aload_n (j := 0) (i := 0) (pc' := 209) dL_seen_208 rfl rfl rfl ?_
      refine jj_iload_n (j := 2) (i := 3) (pc' := 210) dL_seen_209 rfl rfl rfl ?_
      obtain ⟨hk, hF⟩ := jf_k_inv hF
      refine jj_cI (N := M_X3_stopped) (kc' := (kc + 1)) (ks' := (ks + 6)) (pc' := 213) (jg_V (N := M_X3_stopped) (ci := 3) (rest := [.long (((31 : Int64)) * l1)]) (as := [.int x3]) cf_L_51 dL_seen_210 ⟨rfl, rfl⟩ rfl rfl ⟨Nat.le_of_ble_eq_true rfl, Nat.le_of_ble_eq_true rfl⟩ ⟨hk.1, hk.2⟩ (Nat.le_of_ble_eq_true rfl) (fun X' hX => KX3_stopped hX)) rfl rfl rfl rfl ⟨hk.1, hk.2⟩ rfl hF (fun x102 h101 hF => ?_)
      refine jj_i2l (pc' := 214) dL_seen_213 rfl ?_
      refine jj_ladd (pc' := 215) dL_seen_214 rfl ?_
      refine jj_lstore_n (i := 1) (ls' := [(1, .long ((((31 : Int64)) * l1) + x102.toInt64)), (0, .ref a0), (3, .int x3)]) (pc' := 216) dL_seen_215 rfl (Nat.le_of_ble_eq_true rfl) rfl rfl ?_
      refine jj_iinc (i := 3) (j := 2) (v := x3 + (1 : Int32)) (ls' := [(3, .int (x3 + (1 : Int32))), (1, .long ((((31 : Int64)) * l1) + x102.toInt64)), (0, .ref a0)]) (pc' := 219) dL_seen_216 rfl rfl (Nat.le_of_ble_eq_true rfl) rfl rfl ?_
      refine jj_goto (tgt := 198) dL_seen_219 rfl ?_
      exact jj_pick [2, 1, 0] rfl (ih (kc + 1) (ks + 6) a0 ((((31 : Int64)) * l1) + x102.toInt64) (x3 + (1 : Int32)) h101 _ hF)
set_option maxRecDepth 100000 in
set_option maxHeartbeats 4000000 in
theorem BL_seen_150 (N : Nat) : ∀ (n : Nat) (kc : Nat) (ks : Nat) (a0 : Nat) (l1 : Int64) (x3 : Int32) (h : jm_H) (X : jm_X), FL_seen_150 N n kc ks a0 l1 x3 h = some X → jm_J M_L_seen 150 [(0, .ref a0), (1, .long l1), (3, .int x3)] [] h kc ks X := by
  intro n
  induction n with
  | zero =>
    intro kc ks a0 l1 x3 h X hF
    exact nomatch (show (none : Option jm_X) = some X from hF)
  | succ n ih =>
    intro kc ks a0 l1 x3 h X hF
    rw [FL_seen_150] at hF
    obtain ⟨hk, hF⟩ := jf_k_inv hF
    refine jj_iload_n (j := 2) (i := 3) (pc' := 151) dL_seen_150 rfl rfl rfl ?_
    refine jj_bipush (v := (9 : Int32)) (pc' := 153) dL_seen_151 rfl rfl ?_
    refine jj_icmp_ge (tgt := 196) (pc' := 156) dL_seen_153 rfl rfl (fun hc hF => ?_) (fun hc hF => ?_) hF
    · skip
      obtain ⟨hw, hF⟩ := jf_w_inv hF
      refine jj_wide hw.1 hw.2 ?_
      refine jj_iconst (v := (0 : Int32)) (pc' := 197) dL_seen_196 rfl rfl ?_
      refine jj_istore_n (i := 3) (ls' := [(3, .int ((0 : Int32))), (0, .ref a0), (1, .long l1)]) (pc' := 198) dL_seen_197 rfl (Nat.le_of_ble_eq_true rfl) rfl rfl ?_
      exact jj_pick [1, 2, 0] rfl (BL_seen_198 N N 488 2928 a0 l1 ((0 : Int32)) h _ hF)
    · skip
      refine jj_ldc2l (v := (31 : Int64)) (pc' := 159) dL_seen_156 qw_75 rfl ?_
      refine jj_lload_n (j := 1) (i := 1) (pc' := 160) dL_seen_159 rfl rfl rfl ?_
      refine jj_lmul (pc' := 161) dL_seen_160 rfl ?_
      refine jj_ldc2l (v := (7 : Int64)) (pc' := 164) dL_seen_161 qw_76 rfl ?_
      refine jj_aload_n (j := 0) (i := 0) (pc' := 165) dL_seen_164 rfl rfl rfl ?_
      refine jj_iload_n (j := 2) (i := 3) (pc' := 166) dL_seen_165 rfl rfl rfl ?_
      refine jj_iconst (v := (3 : Int32)) (pc' := 167) dL_seen_166 rfl rfl ?_
      refine jj_idiv (pc' := 168) dL_seen_167 (by decide) rfl ?_
      refine jj_iload_n (j := 2) (i := 3) (pc' := 169) dL_seen_168 rfl rfl rfl ?_
      refine jj_iconst (v := (3 : Int32)) (pc' := 170) dL_seen_169 rfl rfl ?_
      refine jj_irem (pc' := 171) dL_seen_170 (by decide) rfl ?_
      obtain ⟨hk, hF⟩ := jf_k_inv hF
      refine jj_cI (N := M_X3_juror) (kc' := (kc + 2)) (ks' := (ks + 12)) (pc' := 174) (jg_V (N := M_X3_juror) (ci := 3) (rest := [.long ((7 : Int64)), .long (((31 : Int64)) * l1)]) (as := [.int (x3 / ((3 : Int32))), .int (x3 - x3 / ((3 : Int32)) * ((3 : Int32)))]) cf_L_78 dL_seen_171 ⟨rfl, rfl⟩ rfl rfl ⟨Nat.le_of_ble_eq_true rfl, Nat.le_of_ble_eq_true rfl⟩ ⟨hk.1, hk.2⟩ (Nat.le_of_ble_eq_true rfl) (fun X' hX => KX3_juror hX)) rfl rfl rfl rfl ⟨hk.1, hk.2⟩ rfl hF (fun x102 h101 hF => ?_)
      refine jj_i2l (pc' := 175) dL_seen_174 rfl ?_
      refine jj_lmul (pc' := 176) dL_seen_175 rfl ?_
      refine jj_ladd (pc' := 177) dL_seen_176 rfl ?_
      refine jj_aload_n (j := 0) (i := 0) (pc' := 178) dL_seen_177 rfl rfl rfl ?_
      refine jj_iload_n (j := 2) (i := 3) (pc' := 179) dL_seen_178 rfl rfl rfl ?_
      refine jj_iconst (v := (3 : Int32)) (pc' := 180) dL_seen_179 rfl rfl ?_
      refine jj_idiv (pc' := 181) dL_seen_180 (by decide) rfl ?_
      refine jj_iload_n (j := 2) (i := 3) (pc' := 182) dL_seen_181 rfl rfl rfl ?_
      refine jj_iconst (v := (3 : Int32)) (pc' := 183) dL_seen_182 rfl rfl ?_
      refine jj_irem (pc' := 184) dL_seen_183 (by decide) rfl ?_
      obtain ⟨hk, hF⟩ := jf_k_inv hF
      refine jj_cI (N := M_X3_screen) (kc' := (kc + 4)) (ks' := (ks + 24)) (pc' := 187) (jg_V (N := M_X3_screen) (ci := 3) (rest := [.long ((((31 : Int64)) * l1) + (((7 : Int64)) * x102.toInt64))]) (as := [.int (x3 / ((3 : Int32))), .int (x3 - x3 / ((3 : Int32)) * ((3 : Int32)))]) cf_L_72 dL_seen_184 ⟨rfl, rfl⟩ rfl rfl ⟨Nat.le_of_ble_eq_true rfl, Nat.le_of_ble_eq_true rfl⟩ ⟨hk.1, hk.2⟩ (Nat.le_of_ble_eq_true rfl) (fun X' hX => KX3_screen hX)) rfl rfl rfl rfl ⟨hk.1, hk.2⟩ rfl hF (fun x104 h103 hF => ?_)
      refine jj_i2l (pc' := 188) dL_seen_187 rfl ?_
      refine jj_ladd (pc' := 189) dL_seen_188 rfl ?_
      refine jj_lstore_n (i := 1) (ls' := [(1, .long (((((31 : Int64)) * l1) + (((7 : Int64)) * x102.toInt64)) + x104.toInt64)), (0, .ref a0), (3, .int x3)]) (pc' := 190) dL_seen_189 rfl (Nat.le_of_ble_eq_true rfl) rfl rfl ?_
      refine jj_iinc (i := 3) (j := 2) (v := x3 + (1 : Int32)) (ls' := [(3, .int (x3 + (1 : Int32))), (1, .long (((((31 : Int64)) * l1) + (((7 : Int64)) * x102.toInt64)) + x104.toInt64)), (0, .ref a0)]) (pc' := 193) dL_seen_190 rfl rfl (Nat.le_of_ble_eq_true rfl) rfl rfl ?_
      refine jj_goto (tgt := 150) dL_seen_193 rfl ?_
      exact jj_pick [2, 1, 0] rfl (ih (kc + 4) (ks + 24) a0 (((((31 : Int64)) * l1) + (((7 : Int64)) * x102.toInt64)) + x104.toInt64) (x3 + (1 : Int32)) h103 _ hF)
set_option maxRecDepth 100000 in
set_option maxHeartbeats 4000000 in
theorem BL_seen_113 (N : Nat) : ∀ (n : Nat) (kc : Nat) (ks : Nat) (a0 : Nat) (l1 : Int64) (x3 : Int32) (h : jm_H) (X : jm_X), FL_seen_113 N n kc ks a0 l1 x3 h = some X → jm_J M_L_seen 113 [(0, .ref a0), (1, .long l1), (3, .int x3)] [] h kc ks X := by
  intro n
  induction n with
  | zero =>
    intro kc ks a0 l1 x3 h X hF
    exact nomatch (show (none : Option jm_X) = some X from hF)
  | succ n ih =>
    intro kc ks a0 l1 x3 h X hF
    rw [FL_seen_113] at hF
    obtain ⟨hk, hF⟩ := jf_k_inv hF
    refine jj_iload_n (j := 2) (i := 3) (pc' := 114) dL_seen_113 rfl rfl rfl ?_
    refine jj_iconst (v := (4 : Int32)) (pc' := 115) dL_seen_114 rfl rfl ?_
    refine jj_aload_n (j := 0) (i := 0) (pc' := 116) dL_seen_115 rfl rfl rfl ?_
    refine jj_iconst (v := (2 : Int32)) (pc' := 117) dL_seen_116 rfl rfl ?_
    obtain ⟨hk, hF⟩ := jf_k_inv hF
    refine jj_cI (N := M_X3_count) (kc' := (kc + 1)) (ks' := (ks + 6)) (pc' := 120) (jg_V (N := M_X3_count) (ci := 3) (rest := [.int ((4 : Int32)), .int x3]) (as := [.int ((2 : Int32))]) cf_L_81 dL_seen_117 ⟨rfl, rfl⟩ rfl rfl ⟨Nat.le_of_ble_eq_true rfl, Nat.le_of_ble_eq_true rfl⟩ ⟨hk.1, hk.2⟩ (Nat.le_of_ble_eq_true rfl) (fun X' hX => KX3_count hX)) rfl rfl rfl rfl ⟨hk.1, hk.2⟩ rfl hF (fun x102 h101 hF => ?_)
    refine jj_imul (pc' := 121) dL_seen_120 rfl ?_
    refine jj_icmp_ge (tgt := 148) (pc' := 124) dL_seen_121 rfl rfl (fun hc hF => ?_) (fun hc hF => ?_) hF
    · skip
      obtain ⟨hw, hF⟩ := jf_w_inv hF
      refine jj_wide hw.1 hw.2 ?_
      refine jj_iconst (v := (0 : Int32)) (pc' := 149) dL_seen_148 rfl rfl ?_
      refine jj_istore_n (i := 3) (ls' := [(3, .int ((0 : Int32))), (0, .ref a0), (1, .long l1)]) (pc' := 150) dL_seen_149 rfl (Nat.le_of_ble_eq_true rfl) rfl rfl ?_
      exact jj_pick [1, 2, 0] rfl (BL_seen_150 N N 452 2712 a0 l1 ((0 : Int32)) h101 _ hF)
    · skip
      refine jj_ldc2l (v := (31 : Int64)) (pc' := 127) dL_seen_124 qw_75 rfl ?_
      refine jj_lload_n (j := 1) (i := 1) (pc' := 128) dL_seen_127 rfl rfl rfl ?_
      refine jj_lmul (pc' := 129) dL_seen_128 rfl ?_
      refine jj_aload_n (j := 0) (i := 0) (pc' := 130) dL_seen_129 rfl rfl rfl ?_
      refine jj_iload_n (j := 2) (i := 3) (pc' := 131) dL_seen_130 rfl rfl rfl ?_
      refine jj_iconst (v := (4 : Int32)) (pc' := 132) dL_seen_131 rfl rfl ?_
      refine jj_idiv (pc' := 133) dL_seen_132 (by decide) rfl ?_
      refine jj_iload_n (j := 2) (i := 3) (pc' := 134) dL_seen_133 rfl rfl rfl ?_
      refine jj_iconst (v := (4 : Int32)) (pc' := 135) dL_seen_134 rfl rfl ?_
      refine jj_irem (pc' := 136) dL_seen_135 (by decide) rfl ?_
      obtain ⟨hk, hF⟩ := jf_k_inv hF
      refine jj_cI (N := M_X3_guestOf) (kc' := (kc + 3)) (ks' := (ks + 18)) (pc' := 139) (jg_V (N := M_X3_guestOf) (ci := 3) (rest := [.long (((31 : Int64)) * l1)]) (as := [.int (x3 / ((4 : Int32))), .int (x3 - x3 / ((4 : Int32)) * ((4 : Int32)))]) cf_L_75 dL_seen_136 ⟨rfl, rfl⟩ rfl rfl ⟨Nat.le_of_ble_eq_true rfl, Nat.le_of_ble_eq_true rfl⟩ ⟨hk.1, hk.2⟩ (Nat.le_of_ble_eq_true rfl) (fun X' hX => KX3_guestOf hX)) rfl rfl rfl rfl ⟨hk.1, hk.2⟩ rfl hF (fun x104 h103 hF => ?_)
      refine jj_i2l (pc' := 140) dL_seen_139 rfl ?_
      refine jj_ladd (pc' := 141) dL_seen_140 rfl ?_
      refine jj_lstore_n (i := 1) (ls' := [(1, .long ((((31 : Int64)) * l1) + x104.toInt64)), (0, .ref a0), (3, .int x3)]) (pc' := 142) dL_seen_141 rfl (Nat.le_of_ble_eq_true rfl) rfl rfl ?_
      refine jj_iinc (i := 3) (j := 2) (v := x3 + (1 : Int32)) (ls' := [(3, .int (x3 + (1 : Int32))), (1, .long ((((31 : Int64)) * l1) + x104.toInt64)), (0, .ref a0)]) (pc' := 145) dL_seen_142 rfl rfl (Nat.le_of_ble_eq_true rfl) rfl rfl ?_
      refine jj_goto (tgt := 113) dL_seen_145 rfl ?_
      exact jj_pick [2, 1, 0] rfl (ih (kc + 3) (ks + 18) a0 ((((31 : Int64)) * l1) + x104.toInt64) (x3 + (1 : Int32)) h103 _ hF)
set_option maxRecDepth 100000 in
set_option maxHeartbeats 4000000 in
theorem BL_seen_73 (N : Nat) : ∀ (n : Nat) (kc : Nat) (ks : Nat) (a0 : Nat) (l1 : Int64) (x3 : Int32) (h : jm_H) (X : jm_X), FL_seen_73 N n kc ks a0 l1 x3 h = some X → jm_J M_L_seen 73 [(0, .ref a0), (1, .long l1), (3, .int x3)] [] h kc ks X := by
  intro n
  induction n with
  | zero =>
    intro kc ks a0 l1 x3 h X hF
    exact nomatch (show (none : Option jm_X) = some X from hF)
  | succ n ih =>
    intro kc ks a0 l1 x3 h X hF
    rw [FL_seen_73] at hF
    obtain ⟨hk, hF⟩ := jf_k_inv hF
    refine jj_iload_n (j := 2) (i := 3) (pc' := 74) dL_seen_73 rfl rfl rfl ?_
    refine jj_bipush (v := (6 : Int32)) (pc' := 76) dL_seen_74 rfl rfl ?_
    refine jj_aload_n (j := 0) (i := 0) (pc' := 77) dL_seen_76 rfl rfl rfl ?_
    refine jj_iconst (v := (0 : Int32)) (pc' := 78) dL_seen_77 rfl rfl ?_
    obtain ⟨hk, hF⟩ := jf_k_inv hF
    refine jj_cI (N := M_X3_count) (kc' := (kc + 1)) (ks' := (ks + 6)) (pc' := 81) (jg_V (N := M_X3_count) (ci := 3) (rest := [.int ((6 : Int32)), .int x3]) (as := [.int ((0 : Int32))]) cf_L_81 dL_seen_78 ⟨rfl, rfl⟩ rfl rfl ⟨Nat.le_of_ble_eq_true rfl, Nat.le_of_ble_eq_true rfl⟩ ⟨hk.1, hk.2⟩ (Nat.le_of_ble_eq_true rfl) (fun X' hX => KX3_count hX)) rfl rfl rfl rfl ⟨hk.1, hk.2⟩ rfl hF (fun x102 h101 hF => ?_)
    refine jj_imul (pc' := 82) dL_seen_81 rfl ?_
    refine jj_icmp_ge (tgt := 111) (pc' := 85) dL_seen_82 rfl rfl (fun hc hF => ?_) (fun hc hF => ?_) hF
    · skip
      obtain ⟨hw, hF⟩ := jf_w_inv hF
      refine jj_wide hw.1 hw.2 ?_
      refine jj_iconst (v := (0 : Int32)) (pc' := 112) dL_seen_111 rfl rfl ?_
      refine jj_istore_n (i := 3) (ls' := [(3, .int ((0 : Int32))), (0, .ref a0), (1, .long l1)]) (pc' := 113) dL_seen_112 rfl (Nat.le_of_ble_eq_true rfl) rfl rfl ?_
      exact jj_pick [1, 2, 0] rfl (BL_seen_113 N N 377 2262 a0 l1 ((0 : Int32)) h101 _ hF)
    · skip
      refine jj_ldc2l (v := (31 : Int64)) (pc' := 88) dL_seen_85 qw_75 rfl ?_
      refine jj_lload_n (j := 1) (i := 1) (pc' := 89) dL_seen_88 rfl rfl rfl ?_
      refine jj_lmul (pc' := 90) dL_seen_89 rfl ?_
      refine jj_aload_n (j := 0) (i := 0) (pc' := 91) dL_seen_90 rfl rfl rfl ?_
      refine jj_iload_n (j := 2) (i := 3) (pc' := 92) dL_seen_91 rfl rfl rfl ?_
      refine jj_bipush (v := (6 : Int32)) (pc' := 94) dL_seen_92 rfl rfl ?_
      refine jj_idiv (pc' := 95) dL_seen_94 (by decide) rfl ?_
      refine jj_iload_n (j := 2) (i := 3) (pc' := 96) dL_seen_95 rfl rfl rfl ?_
      refine jj_bipush (v := (6 : Int32)) (pc' := 98) dL_seen_96 rfl rfl ?_
      refine jj_irem (pc' := 99) dL_seen_98 (by decide) rfl ?_
      obtain ⟨hk, hF⟩ := jf_k_inv hF
      refine jj_cI (N := M_X3_filmOf) (kc' := (kc + 3)) (ks' := (ks + 18)) (pc' := 102) (jg_V (N := M_X3_filmOf) (ci := 3) (rest := [.long (((31 : Int64)) * l1)]) (as := [.int (x3 / ((6 : Int32))), .int (x3 - x3 / ((6 : Int32)) * ((6 : Int32)))]) cf_L_60 dL_seen_99 ⟨rfl, rfl⟩ rfl rfl ⟨Nat.le_of_ble_eq_true rfl, Nat.le_of_ble_eq_true rfl⟩ ⟨hk.1, hk.2⟩ (Nat.le_of_ble_eq_true rfl) (fun X' hX => KX3_filmOf hX)) rfl rfl rfl rfl ⟨hk.1, hk.2⟩ rfl hF (fun x104 h103 hF => ?_)
      refine jj_i2l (pc' := 103) dL_seen_102 rfl ?_
      refine jj_ladd (pc' := 104) dL_seen_103 rfl ?_
      refine jj_lstore_n (i := 1) (ls' := [(1, .long ((((31 : Int64)) * l1) + x104.toInt64)), (0, .ref a0), (3, .int x3)]) (pc' := 105) dL_seen_104 rfl (Nat.le_of_ble_eq_true rfl) rfl rfl ?_
      refine jj_iinc (i := 3) (j := 2) (v := x3 + (1 : Int32)) (ls' := [(3, .int (x3 + (1 : Int32))), (1, .long ((((31 : Int64)) * l1) + x104.toInt64)), (0, .ref a0)]) (pc' := 108) dL_seen_105 rfl rfl (Nat.le_of_ble_eq_true rfl) rfl rfl ?_
      refine jj_goto (tgt := 73) dL_seen_108 rfl ?_
      exact jj_pick [2, 1, 0] rfl (ih (kc + 3) (ks + 18) a0 ((((31 : Int64)) * l1) + x104.toInt64) (x3 + (1 : Int32)) h103 _ hF)
set_option maxRecDepth 100000 in
set_option maxHeartbeats 4000000 in
theorem BL_seen_33 (N : Nat) : ∀ (n : Nat) (kc : Nat) (ks : Nat) (a0 : Nat) (l1 : Int64) (x3 : Int32) (h : jm_H) (X : jm_X), FL_seen_33 N n kc ks a0 l1 x3 h = some X → jm_J M_L_seen 33 [(0, .ref a0), (1, .long l1), (3, .int x3)] [] h kc ks X := by
  intro n
  induction n with
  | zero =>
    intro kc ks a0 l1 x3 h X hF
    exact nomatch (show (none : Option jm_X) = some X from hF)
  | succ n ih =>
    intro kc ks a0 l1 x3 h X hF
    rw [FL_seen_33] at hF
    obtain ⟨hk, hF⟩ := jf_k_inv hF
    refine jj_iload_n (j := 2) (i := 3) (pc' := 34) dL_seen_33 rfl rfl rfl ?_
    refine jj_bipush (v := (6 : Int32)) (pc' := 36) dL_seen_34 rfl rfl ?_
    refine jj_aload_n (j := 0) (i := 0) (pc' := 37) dL_seen_36 rfl rfl rfl ?_
    refine jj_iconst (v := (1 : Int32)) (pc' := 38) dL_seen_37 rfl rfl ?_
    obtain ⟨hk, hF⟩ := jf_k_inv hF
    refine jj_cI (N := M_X3_count) (kc' := (kc + 1)) (ks' := (ks + 6)) (pc' := 41) (jg_V (N := M_X3_count) (ci := 3) (rest := [.int ((6 : Int32)), .int x3]) (as := [.int ((1 : Int32))]) cf_L_81 dL_seen_38 ⟨rfl, rfl⟩ rfl rfl ⟨Nat.le_of_ble_eq_true rfl, Nat.le_of_ble_eq_true rfl⟩ ⟨hk.1, hk.2⟩ (Nat.le_of_ble_eq_true rfl) (fun X' hX => KX3_count hX)) rfl rfl rfl rfl ⟨hk.1, hk.2⟩ rfl hF (fun x102 h101 hF => ?_)
    refine jj_imul (pc' := 42) dL_seen_41 rfl ?_
    refine jj_icmp_ge (tgt := 71) (pc' := 45) dL_seen_42 rfl rfl (fun hc hF => ?_) (fun hc hF => ?_) hF
    · skip
      obtain ⟨hw, hF⟩ := jf_w_inv hF
      refine jj_wide hw.1 hw.2 ?_
      refine jj_iconst (v := (0 : Int32)) (pc' := 72) dL_seen_71 rfl rfl ?_
      refine jj_istore_n (i := 3) (ls' := [(3, .int ((0 : Int32))), (0, .ref a0), (1, .long l1)]) (pc' := 73) dL_seen_72 rfl (Nat.le_of_ble_eq_true rfl) rfl rfl ?_
      exact jj_pick [1, 2, 0] rfl (BL_seen_73 N N 230 1380 a0 l1 ((0 : Int32)) h101 _ hF)
    · skip
      refine jj_ldc2l (v := (31 : Int64)) (pc' := 48) dL_seen_45 qw_75 rfl ?_
      refine jj_lload_n (j := 1) (i := 1) (pc' := 49) dL_seen_48 rfl rfl rfl ?_
      refine jj_lmul (pc' := 50) dL_seen_49 rfl ?_
      refine jj_aload_n (j := 0) (i := 0) (pc' := 51) dL_seen_50 rfl rfl rfl ?_
      refine jj_iload_n (j := 2) (i := 3) (pc' := 52) dL_seen_51 rfl rfl rfl ?_
      refine jj_bipush (v := (6 : Int32)) (pc' := 54) dL_seen_52 rfl rfl ?_
      refine jj_idiv (pc' := 55) dL_seen_54 (by decide) rfl ?_
      refine jj_iload_n (j := 2) (i := 3) (pc' := 56) dL_seen_55 rfl rfl rfl ?_
      refine jj_bipush (v := (6 : Int32)) (pc' := 58) dL_seen_56 rfl rfl ?_
      refine jj_irem (pc' := 59) dL_seen_58 (by decide) rfl ?_
      obtain ⟨hk, hF⟩ := jf_k_inv hF
      refine jj_cI (N := M_X3_showing) (kc' := (kc + 3)) (ks' := (ks + 18)) (pc' := 62) (jg_V (N := M_X3_showing) (ci := 3) (rest := [.long (((31 : Int64)) * l1)]) (as := [.int (x3 / ((6 : Int32))), .int (x3 - x3 / ((6 : Int32)) * ((6 : Int32)))]) cf_L_63 dL_seen_59 ⟨rfl, rfl⟩ rfl rfl ⟨Nat.le_of_ble_eq_true rfl, Nat.le_of_ble_eq_true rfl⟩ ⟨hk.1, hk.2⟩ (Nat.le_of_ble_eq_true rfl) (fun X' hX => KX3_showing hX)) rfl rfl rfl rfl ⟨hk.1, hk.2⟩ rfl hF (fun x104 h103 hF => ?_)
      refine jj_i2l (pc' := 63) dL_seen_62 rfl ?_
      refine jj_ladd (pc' := 64) dL_seen_63 rfl ?_
      refine jj_lstore_n (i := 1) (ls' := [(1, .long ((((31 : Int64)) * l1) + x104.toInt64)), (0, .ref a0), (3, .int x3)]) (pc' := 65) dL_seen_64 rfl (Nat.le_of_ble_eq_true rfl) rfl rfl ?_
      refine jj_iinc (i := 3) (j := 2) (v := x3 + (1 : Int32)) (ls' := [(3, .int (x3 + (1 : Int32))), (1, .long ((((31 : Int64)) * l1) + x104.toInt64)), (0, .ref a0)]) (pc' := 68) dL_seen_65 rfl rfl (Nat.le_of_ble_eq_true rfl) rfl rfl ?_
      refine jj_goto (tgt := 33) dL_seen_68 rfl ?_
      exact jj_pick [2, 1, 0] rfl (ih (kc + 3) (ks + 18) a0 ((((31 : Int64)) * l1) + x104.toInt64) (x3 + (1 : Int32)) h103 _ hF)
set_option maxRecDepth 100000 in
set_option maxHeartbeats 4000000 in
theorem BL_seen_6 (N : Nat) : ∀ (n : Nat) (kc : Nat) (ks : Nat) (a0 : Nat) (l1 : Int64) (x3 : Int32) (h : jm_H) (X : jm_X), FL_seen_6 N n kc ks a0 l1 x3 h = some X → jm_J M_L_seen 6 [(0, .ref a0), (1, .long l1), (3, .int x3)] [] h kc ks X := by
  intro n
  induction n with
  | zero =>
    intro kc ks a0 l1 x3 h X hF
    exact nomatch (show (none : Option jm_X) = some X from hF)
  | succ n ih =>
    intro kc ks a0 l1 x3 h X hF
    rw [FL_seen_6] at hF
    obtain ⟨hk, hF⟩ := jf_k_inv hF
    refine jj_iload_n (j := 2) (i := 3) (pc' := 7) dL_seen_6 rfl rfl rfl ?_
    refine jj_bipush (v := (11 : Int32)) (pc' := 9) dL_seen_7 rfl rfl ?_
    refine jj_icmp_ge (tgt := 31) (pc' := 12) dL_seen_9 rfl rfl (fun hc hF => ?_) (fun hc hF => ?_) hF
    · skip
      obtain ⟨hw, hF⟩ := jf_w_inv hF
      refine jj_wide hw.1 hw.2 ?_
      refine jj_iconst (v := (0 : Int32)) (pc' := 32) dL_seen_31 rfl rfl ?_
      refine jj_istore_n (i := 3) (ls' := [(3, .int ((0 : Int32))), (0, .ref a0), (1, .long l1)]) (pc' := 33) dL_seen_32 rfl (Nat.le_of_ble_eq_true rfl) rfl rfl ?_
      exact jj_pick [1, 2, 0] rfl (BL_seen_33 N N 11 66 a0 l1 ((0 : Int32)) h _ hF)
    · skip
      refine jj_ldc2l (v := (31 : Int64)) (pc' := 15) dL_seen_12 qw_75 rfl ?_
      refine jj_lload_n (j := 1) (i := 1) (pc' := 16) dL_seen_15 rfl rfl rfl ?_
      refine jj_lmul (pc' := 17) dL_seen_16 rfl ?_
      refine jj_aload_n (j := 0) (i := 0) (pc' := 18) dL_seen_17 rfl rfl rfl ?_
      refine jj_iload_n (j := 2) (i := 3) (pc' := 19) dL_seen_18 rfl rfl rfl ?_
      obtain ⟨hk, hF⟩ := jf_k_inv hF
      refine jj_cI (N := M_X3_count) (kc' := (kc + 1)) (ks' := (ks + 6)) (pc' := 22) (jg_V (N := M_X3_count) (ci := 3) (rest := [.long (((31 : Int64)) * l1)]) (as := [.int x3]) cf_L_81 dL_seen_19 ⟨rfl, rfl⟩ rfl rfl ⟨Nat.le_of_ble_eq_true rfl, Nat.le_of_ble_eq_true rfl⟩ ⟨hk.1, hk.2⟩ (Nat.le_of_ble_eq_true rfl) (fun X' hX => KX3_count hX)) rfl rfl rfl rfl ⟨hk.1, hk.2⟩ rfl hF (fun x102 h101 hF => ?_)
      refine jj_i2l (pc' := 23) dL_seen_22 rfl ?_
      refine jj_ladd (pc' := 24) dL_seen_23 rfl ?_
      refine jj_lstore_n (i := 1) (ls' := [(1, .long ((((31 : Int64)) * l1) + x102.toInt64)), (0, .ref a0), (3, .int x3)]) (pc' := 25) dL_seen_24 rfl (Nat.le_of_ble_eq_true rfl) rfl rfl ?_
      refine jj_iinc (i := 3) (j := 2) (v := x3 + (1 : Int32)) (ls' := [(3, .int (x3 + (1 : Int32))), (1, .long ((((31 : Int64)) * l1) + x102.toInt64)), (0, .ref a0)]) (pc' := 28) dL_seen_25 rfl rfl (Nat.le_of_ble_eq_true rfl) rfl rfl ?_
      refine jj_goto (tgt := 6) dL_seen_28 rfl ?_
      exact jj_pick [2, 1, 0] rfl (ih (kc + 1) (ks + 6) a0 ((((31 : Int64)) * l1) + x102.toInt64) (x3 + (1 : Int32)) h101 _ hF)
set_option maxRecDepth 100000 in
set_option maxHeartbeats 4000000 in
theorem JL_seen {N : Nat} {a0 : Nat} {h : jm_H} {X : jm_X} (hF : FL_seen N a0 h = some X) : jm_J M_L_seen 0 [(0, .ref a0)] [] h 0 0 X := by
  unfold FL_seen at hF
  refine jj_ldc2l (v := (233 : Int64)) (pc' := 3) dL_seen_0 qw_74 rfl ?_
  refine jj_lstore_n (i := 1) (ls' := [(1, .long ((233 : Int64))), (0, .ref a0)]) (pc' := 4) dL_seen_3 rfl (Nat.le_of_ble_eq_true rfl) rfl rfl ?_
  refine jj_iconst (v := (0 : Int32)) (pc' := 5) dL_seen_4 rfl rfl ?_
  refine jj_istore_n (i := 3) (ls' := [(3, .int ((0 : Int32))), (1, .long ((233 : Int64))), (0, .ref a0)]) (pc' := 6) dL_seen_5 rfl (Nat.le_of_ble_eq_true rfl) rfl rfl ?_
  exact jj_pick [2, 1, 0] rfl (BL_seen_6 N N 0 0 a0 ((233 : Int64)) ((0 : Int32)) h _ hF)
theorem KL_seen {N : Nat} {a0 : Nat} {h : jm_H} {X : jm_X} (hF : FL_seen N a0 h = some X) : jm_K M_L_seen [.ref a0] h X := jk_of rfl (by decide +kernel) rfl rfl (Nat.le_of_ble_eq_true rfl) (JL_seen hF)
set_option maxRecDepth 100000 in
set_option maxHeartbeats 4000000 in
theorem JL_far {x0 : Int32} {x1 : Int32} {x2 : Int32} {h : jm_H} {X : jm_X} (hF : FL_far x0 x1 x2 h = some X) : jm_J M_L_far 0 [(0, .int x0), (1, .int x1), (2, .int x2)] [] h 0 0 X := by
  unfold FL_far at hF
  refine jj_iload_n (j := 0) (i := 0) (pc' := 1) dL_far_0 rfl rfl rfl ?_
  refine jj_if_ne (tgt := 10) (pc' := 4) dL_far_1 rfl rfl (fun hc hF => ?_) (fun hc hF => ?_) hF
  · skip
    refine jj_iload_n (j := 0) (i := 0) (pc' := 11) dL_far_10 rfl rfl rfl ?_
    refine jj_iconst (v := (1 : Int32)) (pc' := 12) dL_far_11 rfl rfl ?_
    refine jj_icmp_ne (tgt := 21) (pc' := 15) dL_far_12 rfl rfl (fun hc hF => ?_) (fun hc hF => ?_) hF
    · skip
      refine jj_iload_n (j := 0) (i := 0) (pc' := 22) dL_far_21 rfl rfl rfl ?_
      refine jj_iconst (v := (2 : Int32)) (pc' := 23) dL_far_22 rfl rfl ?_
      refine jj_icmp_ne (tgt := 31) (pc' := 26) dL_far_23 rfl rfl (fun hc hF => ?_) (fun hc hF => ?_) hF
      · skip
        refine jj_ldc (v := (2147483647 : Int32)) (pc' := 33) dL_far_31 qw_68 rfl ?_
        exact jj_retI (ty := .int) rfl rfl dL_far_33 ⟨Nat.le_of_ble_eq_true rfl, Nat.le_of_ble_eq_true rfl⟩ hF
      · skip
        refine jj_ldc (v := (-2147483648 : Int32)) (pc' := 28) dL_far_26 qw_77 rfl ?_
        refine jj_goto (tgt := 33) dL_far_28 rfl ?_
        exact jj_retI (ty := .int) rfl rfl dL_far_33 ⟨Nat.le_of_ble_eq_true rfl, Nat.le_of_ble_eq_true rfl⟩ hF
    · skip
      refine jj_iload_n (j := 2) (i := 2) (pc' := 16) dL_far_15 rfl rfl rfl ?_
      refine jj_iconst (v := (1 : Int32)) (pc' := 17) dL_far_16 rfl rfl ?_
      refine jj_iadd (pc' := 18) dL_far_17 rfl ?_
      refine jj_goto (tgt := 33) dL_far_18 rfl ?_
      exact jj_retI (ty := .int) rfl rfl dL_far_33 ⟨Nat.le_of_ble_eq_true rfl, Nat.le_of_ble_eq_true rfl⟩ hF
  · skip
    refine jj_iload_n (j := 1) (i := 1) (pc' := 5) dL_far_4 rfl rfl rfl ?_
    refine jj_iconst (v := (1 : Int32)) (pc' := 6) dL_far_5 rfl rfl ?_
    refine jj_isub (pc' := 7) dL_far_6 rfl ?_
    refine jj_goto (tgt := 33) dL_far_7 rfl ?_
    exact jj_retI (ty := .int) rfl rfl dL_far_33 ⟨Nat.le_of_ble_eq_true rfl, Nat.le_of_ble_eq_true rfl⟩ hF
theorem KL_far {x0 : Int32} {x1 : Int32} {x2 : Int32} {h : jm_H} {X : jm_X} (hF : FL_far x0 x1 x2 h = some X) : jm_K M_L_far [.int x0, .int x1, .int x2] h X := jk_of rfl (by decide +kernel) rfl rfl (Nat.le_of_ble_eq_true rfl) (JL_far hF)

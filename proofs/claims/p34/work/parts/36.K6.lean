set_option maxRecDepth 100000 in
set_option maxHeartbeats 4000000 in
theorem BL_seen_198 (N : Nat) : ∀ (n : Nat) (kc : Nat) (ks : Nat) (a0 : Nat) (l1 : Int64) (x3 : Int32) (h : jm_H) (X : jm_X), FL_seen_198 N n kc ks a0 l1 x3 h = some X → jm_J M_L_seen 198 [(0, .ref a0), (1, .long l1), (3, .int x3)] [] h kc ks X := by
  intro n
  induction n with
  | zero =>
    intro kc ks a0 l1 x3 h X hF
    exact nomatch (show (none : Option jm_X) = some X from hF)
  | succ n ih =>
    intro kc ks a0 l1 x3 h X hF
    rw [FL_seen_198] at hF
    obtain ⟨hk, hF⟩ := jf_k_inv hF
    refine jj_iload_n (j := 2) (i := 3) (pc' := 199) dL_seen_198 rfl rfl rfl ?_
    refine jj_iconst (v := (3 : Int32)) (pc' := 200) dL_seen_199 rfl rfl ?_
    refine jj_icmp_ge (tgt := 222) (pc' := 203) dL_seen_200 rfl rfl (fun hc hF => ?_) (fun hc hF => ?_) hF
    · skip
      obtain ⟨hw, hF⟩ := jf_w_inv hF
      refine jj_wide hw.1 hw.2 ?_
      refine jj_lload_n (j := 1) (i := 1) (pc' := 223) dL_seen_222 rfl rfl rfl ?_
      exact jj_retL rfl dL_seen_223 ⟨Nat.le_of_ble_eq_true rfl, Nat.le_of_ble_eq_true rfl⟩ hF
    · skip
      refine jj_ldc2l (v := (31 : Int64)) (pc' := 206) dL_seen_203 qw_75 rfl ?_
      refine jj_lload_n (j := 1) (i := 1) (pc' := 207) dL_seen_206 rfl rfl rfl ?_
      refine jj_lmul (pc' := 208) dL_seen_207 rfl ?_
      refine jj_aload_n (j := 0) (i := 0) (pc' := 209) dL_seen_208 rfl rfl rfl ?_
      refine jj_iload_n (j := 2) (i := 3) (pc' := 210) dL_seen_209 rfl rfl rfl ?_
      obtain ⟨hk, hF⟩ := jf_k_inv hF
      refine jj_cI (N := M_X3_stopped) (kc' := (kc + 1)) (ks' := (ks + 6)) (pc' := 213) (jg_V (N := M_X3_stopped) (ci := 3) (rest := [.long (((31 : Int64)) * l1)]) (as := [.int x3]) cf_L_51 dL_seen_210 ⟨rfl, rfl⟩ rfl rfl ⟨Nat.le_of_ble_eq_true rfl, Nat.le_of_ble_eq_true rfl⟩ ⟨hk.1, hk.2⟩ (Nat.le_of_ble_eq_true rfl) (fun X' hX => KX3_stopped hX)) rfl rfl rfl rfl ⟨hk.1, hk.2⟩ rfl hF (fun x102 h101 hF => ?_)
      refine jj_i2l (pc' := 214) dL_seen_213 rfl ?_
      refine jj_ladd (pc' := 215) dL_seen_214 rfl ?_
      refine jj_lstore_n (i := 1) (ls' := [(1, .long ((((31 : Int64)) * l1) + x102.toInt64)), (0, .ref a0), (3, .int x3)]) (pc' := 216) dL_seen_215 rfl (Nat.le_of_ble_eq_true rfl) rfl rfl ?_
      refine jj_iinc (i := 3) (j := 2) (v := x3 + (1 : Int32)) (ls' := [(3, .int (x3 + (1 : Int32))), (1, .long ((((31 : Int64)) * l1) + x102.toInt64)), (0, .ref a0)]) (pc' := 219) dL_seen_216 rfl rfl (Nat.le_of_ble_eq_true rfl) rfl rfl ?_
      refine jj_goto (tgt := 198) dL_seen_219 rfl ?_
      exact jj_pick [2, 1, 0] rfl (ih (kc + 1) (ks + 6) a0 ((((31 : Int64)) * l1) + x102.toInt64) (x3 + (1 : Int32)) h101 _ hF)
set_option maxRecDepth 100000 in
set_option maxHeartbeats 4000000 in
theorem BL_seen_150 (N : Nat) : ∀ (n : Nat) (kc : Nat) (ks : Nat) (a0 : Nat) (l1 : Int64) (x3 : Int32) (h : jm_H) (X : jm_X), FL_seen_150 N n kc ks a0 l1 x3 h = some X → jm_J M_L_seen 150 [(0, .ref a0), (1, .long l1), (3, .int x3)] [] h kc ks X := by
  intro n
  induction n with
  | zero =>
    intro kc ks a0 l1 x3 h X hF
    exact nomatch (show (none : Option jm_X) = some X from hF)
  | succ n ih =>
    intro kc ks a0 l1 x3 h X hF
    rw [FL_seen_150] at hF
    obtain ⟨hk, hF⟩ := jf_k_inv hF
    refine jj_iload_n (j := 2) (i := 3) (pc' := 151) dL_seen_150 rfl rfl rfl ?_
    refine jj_bipush (v := (9 : Int32)) (pc' := 153) dL_seen_151 rfl rfl ?_
    refine jj_icmp_ge (tgt := 196) (pc' := 156) dL_seen_153 rfl rfl (fun hc hF => ?_) (fun hc hF => ?_) hF
    · skip
      obtain ⟨hw, hF⟩ := jf_w_inv hF
      refine jj_wide hw.1 hw.2 ?_
      refine jj_iconst (v := (0 : Int32)) (pc' := 197) dL_seen_196 rfl rfl ?_
      refine jj_istore_n (i := 3) (ls' := [(3, .int ((0 : Int32))), (0, .ref a0), (1, .long l1)]) (pc' := 198) dL_seen_197 rfl (Nat.le_of_ble_eq_true rfl) rfl rfl ?_
      exact jj_pick [1, 2, 0] rfl (BL_seen_198 N N 488 2928 a0 l1 ((0 : Int32)) h _ hF)
    · skip
      refine jj_ldc2l (v := (31 : Int64)) (pc' := 159) dL_seen_156 qw_75 rfl ?_
      refine jj_lload_n (j := 1) (i := 1) (pc' := 160) dL_seen_159 rfl rfl rfl ?_
      refine jj_lmul (pc' := 161) dL_seen_160 rfl ?_
      refine jj_ldc2l (v := (7 : Int64)) (pc' := 164) dL_seen_161 qw_76 rfl ?_
      refine jj_aload_n (j := 0) (i := 0) (pc' := 165) dL_seen_164 rfl rfl rfl ?_
      refine jj_iload_n (j := 2) (i := 3) (pc' := 166) dL_seen_165 rfl rfl rfl ?_
      refine jj_iconst (v := (3 : Int32)) (pc' := 167) dL_seen_166 rfl rfl ?_
      refine jj_idiv (pc' := 168) dL_seen_167 (by decide) rfl ?_
      refine jj_iload_n (j := 2) (i := 3) (pc' := 169) dL_seen_168 rfl rfl rfl ?_
      refine jj_iconst (v := (3 : Int32)) (pc' := 170) dL_seen_169 rfl rfl ?_
      refine jj_irem (pc' := 171) dL_seen_170 (by decide) rfl ?_
      obtain ⟨hk, hF⟩ := jf_k_inv hF
      refine jj_cI (N := M_X3_juror) (kc' := (kc + 2)) (ks' := (ks + 12)) (pc' := 174) (jg_V (N := M_X3_juror) (ci := 3) (rest := [.long ((7 : Int64)), .long (((31 : Int64)) * l1)]) (as := [.int (x3 / ((3 : Int32))), .int (x3 - x3 / ((3 : Int32)) * ((3 : Int32)))]) cf_L_78 dL_seen_171 ⟨rfl, rfl⟩ rfl rfl ⟨Nat.le_of_ble_eq_true rfl, Nat.le_of_ble_eq_true rfl⟩ ⟨hk.1, hk.2⟩ (Nat.le_of_ble_eq_true rfl) (fun X' hX => KX3_juror hX)) rfl rfl rfl rfl ⟨hk.1, hk.2⟩ rfl hF (fun x102 h101 hF => ?_)
      refine jj_i2l (pc' := 175) dL_seen_174 rfl ?_
      refine jj_lmul (pc' := 176) dL_seen_175 rfl ?_
      refine jj_ladd (pc' := 177) dL_seen_176 rfl ?_
      refine jj_aload_n (j := 0) (i := 0) (pc' := 178) dL_seen_177 rfl rfl rfl ?_
      refine jj_iload_n (j := 2) (i := 3) (pc' := 179) dL_seen_178 rfl rfl rfl ?_
      refine jj_iconst (v := (3 : Int32)) (pc' := 180) dL_seen_179 rfl rfl ?_
      refine jj_idiv (pc' := 181) dL_seen_180 (by decide) rfl ?_
      refine jj_iload_n (j := 2) (i := 3) (pc' := 182) dL_seen_181 rfl rfl rfl ?_
      refine jj_iconst (v := (3 : Int32)) (pc' := 183) dL_seen_182 rfl rfl ?_
      refine jj_irem (pc' := 184) dL_seen_183 (by decide) rfl ?_
      obtain ⟨hk, hF⟩ := jf_k_inv hF
      refine jj_cI (N := M_X3_screen) (kc' := (kc + 4)) (ks' := (ks + 24)) (pc' := 187) (jg_V (N := M_X3_screen) (ci := 3) (rest := [.long ((((31 : Int64)) * l1) + (((7 : Int64)) * x102.toInt64))]) (as := [.int (x3 / ((3 : Int32))), .int (x3 - x3 / ((3 : Int32)) * ((3 : Int32)))]) cf_L_72 dL_seen_184 ⟨rfl, rfl⟩ rfl rfl ⟨Nat.le_of_ble_eq_true rfl, Nat.le_of_ble_eq_true rfl⟩ ⟨hk.1, hk.2⟩ (Nat.le_of_ble_eq_true rfl) (fun X' hX => KX3_screen hX)) rfl rfl rfl rfl ⟨hk.1, hk.2⟩ rfl hF (fun x104 h103 hF => ?_)
      refine jj_i2l (pc' := 188) dL_seen_187 rfl ?_
      refine jj_ladd (pc' := 189) dL_seen_188 rfl ?_
      refine jj_lstore_n (i := 1) (ls' := [(1, .long (((((31 : Int64)) * l1) + (((7 : Int64)) * x102.toInt64)) + x104.toInt64)), (0, .ref a0), (3, .int x3)]) (pc' := 190) dL_seen_189 rfl (Nat.le_of_ble_eq_true rfl) rfl rfl ?_
      refine jj_iinc (i := 3) (j := 2) (v := x3 + (1 : Int32)) (ls' := [(3, .int (x3 + (1 : Int32))), (1, .long (((((31 : Int64)) * l1) + (((7 : Int64)) * x102.toInt64)) + x104.toInt64)), (0, .ref a0)]) (pc' := 193) dL_seen_190 rfl rfl (Nat.le_of_ble_eq_true rfl) rfl rfl ?_
      refine jj_goto (tgt := 150) dL_seen_193 rfl ?_
      exact jj_pick [2, 1, 0] rfl (ih (kc + 4) (ks + 24) a0 (((((31 : Int64)) * l1) + (((7 : Int64)) * x102.toInt64)) + x104.toInt64) (x3 + (1 : Int32)) h103 _ hF)
set_option maxRecDepth 100000 in
set_option maxHeartbeats 4000000 in
theorem BL_seen_113 (N : Nat) : ∀ (n : Nat) (kc : Nat) (ks : Nat) (a0 : Nat) (l1 : Int64) (x3 : Int32) (h : jm_H) (X : jm_X), FL_seen_113 N n kc ks a0 l1 x3 h = some X → jm_J M_L_seen 113 [(0, .ref a0), (1, .long l1), (3, .int x3)] [] h kc ks X := by
  intro n
  induction n with
  | zero =>
    intro kc ks a0 l1 x3 h X hF
    exact nomatch (show (none : Option jm_X) = some X from hF)
  | succ n ih =>
    intro kc ks a0 l1 x3 h X hF
    rw [FL_seen_113] at hF
    obtain ⟨hk, hF⟩ := jf_k_inv hF
    refine jj_iload_n (j := 2) (i := 3) (pc' := 114) dL_seen_113 rfl rfl rfl ?_
    refine jj_iconst (v := (4 : Int32)) (pc' := 115) dL_seen_114 rfl rfl ?_
    refine jj_aload_n (j := 0) (i := 0) (pc' := 116) dL_seen_115 rfl rfl rfl ?_
    refine jj_iconst (v := (2 : Int32)) (pc' := 117) dL_seen_116 rfl rfl ?_
    obtain ⟨hk, hF⟩ := jf_k_inv hF
    refine jj_cI (N := M_X3_count) (kc' := (kc + 1)) (ks' := (ks + 6)) (pc' := 120) (jg_V (N := M_X3_count) (ci := 3) (rest := [.int ((4 : Int32)), .int x3]) (as := [.int ((2 : Int32))]) cf_L_81 dL_seen_117 ⟨rfl, rfl⟩ rfl rfl ⟨Nat.le_of_ble_eq_true rfl, Nat.le_of_ble_eq_true rfl⟩ ⟨hk.1, hk.2⟩ (Nat.le_of_ble_eq_true rfl) (fun X' hX => KX3_count hX)) rfl rfl rfl rfl ⟨hk.1, hk.2⟩ rfl hF (fun x102 h101 hF => ?_)
    refine jj_imul (pc' := 121) dL_seen_120 rfl ?_
    refine jj_icmp_ge (tgt := 148) (pc' := 124) dL_seen_121 rfl rfl (fun hc hF => ?_) (fun hc hF => ?_) hF
    · skip
      obtain ⟨hw, hF⟩ := jf_w_inv hF
      refine jj_wide hw.1 hw.2 ?_
      refine jj_iconst (v := (0 : Int32)) (pc' := 149) dL_seen_148 rfl rfl ?_
      refine jj_istore_n (i := 3) (ls' := [(3, .int ((0 : Int32))), (0, .ref a0), (1, .long l1)]) (pc' := 150) dL_seen_149 rfl (Nat.le_of_ble_eq_true rfl) rfl rfl ?_
      exact jj_pick [1, 2, 0] rfl (BL_seen_150 N N 452 2712 a0 l1 ((0 : Int32)) h101 _ hF)
    · skip
      refine jj_ldc2l (v := (31 : Int64)) (pc' := 127) dL_seen_124 qw_75 rfl ?_
      refine jj_lload_n (j := 1) (i := 1) (pc' := 128) dL_seen_127 rfl rfl rfl ?_
      refine jj_lmul (pc' := 129) dL_seen_128 rfl ?_
      refine jj_aload_n (j := 0) (i := 0) (pc' := 130) dL_seen_129 rfl rfl rfl ?_
      refine jj_iload_n (j := 2) (i := 3) (pc' := 131) dL_seen_130 rfl rfl rfl ?_
      refine jj_iconst (v := (4 : Int32)) (pc' := 132) dL_seen_131 rfl rfl ?_
      refine jj_idiv (pc' := 133) dL_seen_132 (by decide) rfl ?_
      refine jj_iload_n (j := 2) (i := 3) (pc' := 134) dL_seen_133 rfl rfl rfl ?_
      refine jj_iconst (v := (4 : Int32)) (pc' := 135) dL_seen_134 rfl rfl ?_
      refine jj_irem (pc' := 136) dL_seen_135 (by decide) rfl ?_
      obtain ⟨hk, hF⟩ := jf_k_inv hF
      refine jj_cI (N := M_X3_guestOf) (kc' := (kc + 3)) (ks' := (ks + 18)) (pc' := 139) (jg_V (N := M_X3_guestOf) (ci := 3) (rest := [.long (((31 : Int64)) * l1)]) (as := [.int (x3 / ((4 : Int32))), .int (x3 - x3 / ((4 : Int32)) * ((4 : Int32)))]) cf_L_75 dL_seen_136 ⟨rfl, rfl⟩ rfl rfl ⟨Nat.le_of_ble_eq_true rfl, Nat.le_of_ble_eq_true rfl⟩ ⟨hk.1, hk.2⟩ (Nat.le_of_ble_eq_true rfl) (fun X' hX => KX3_guestOf hX)) rfl rfl rfl rfl ⟨hk.1, hk.2⟩ rfl hF (fun x104 h103 hF => ?_)
      refine jj_i2l (pc' := 140) dL_seen_139 rfl ?_
      refine jj_ladd (pc' := 141) dL_seen_140 rfl ?_
      refine jj_lstore_n (i := 1) (ls' := [(1, .long ((((31 : Int64)) * l1) + x104.toInt64)), (0, .ref a0), (3, .int x3)]) (pc' := 142) dL_seen_141 rfl (Nat.le_of_ble_eq_true rfl) rfl rfl ?_
      refine jj_iinc (i := 3) (j := 2) (v := x3 + (1 : Int32)) (ls' := [(3, .int (x3 + (1 : Int32))), (1, .long ((((31 : Int64)) * l1) + x104.toInt64)), (0, .ref a0)]) (pc' := 145) dL_seen_142 rfl rfl (Nat.le_of_ble_eq_true rfl) rfl rfl ?_
      refine jj_goto (tgt := 113) dL_seen_145 rfl ?_
      exact jj_pick [2, 1, 0] rfl (ih (kc + 3) (ks + 18) a0 ((((31 : Int64)) * l1) + x104.toInt64) (x3 + (1 : Int32)) h103 _ hF)
set_option maxRecDepth 100000 in
set_option maxHeartbeats 4000000 in
theorem BL_seen_73 (N : Nat) : ∀ (n : Nat) (kc : Nat) (ks : Nat) (a0 : Nat) (l1 : Int64) (x3 : Int32) (h : jm_H) (X : jm_X), FL_seen_73 N n kc ks a0 l1 x3 h = some X → jm_J M_L_seen 73 [(0, .ref a0), (1, .long l1), (3, .int x3)] [] h kc ks X := by
  intro n
  induction n with
  | zero =>
    intro kc ks a0 l1 x3 h X hF
    exact nomatch (show (none : Option jm_X) = some X from hF)
  | succ n ih =>
    intro kc ks a0 l1 x3 h X hF
    rw [FL_seen_73] at hF
    obtain ⟨hk, hF⟩ := jf_k_inv hF
    refine jj_iload_n (j := 2) (i := 3) (pc' := 74) dL_seen_73 rfl rfl rfl ?_
    refine jj_bipush (v := (6 : Int32)) (pc' := 76) dL_seen_74 rfl rfl ?_
    refine jj_aload_n (j := 0) (i := 0) (pc' := 77) dL_seen_76 rfl rfl rfl ?_
    refine jj_iconst (v := (0 : Int32)) (pc' := 78) dL_seen_77 rfl rfl ?_
    obtain ⟨hk, hF⟩ := jf_k_inv hF
    refine jj_cI (N := M_X3_count) (kc' := (kc + 1)) (ks' := (ks + 6)) (pc' := 81) (jg_V (N := M_X3_count) (ci := 3) (rest := [.int ((6 : Int32)), .int x3]) (as := [.int ((0 : Int32))]) cf_L_81 dL_seen_78 ⟨rfl, rfl⟩ rfl rfl ⟨Nat.le_of_ble_eq_true rfl, Nat.le_of_ble_eq_true rfl⟩ ⟨hk.1, hk.2⟩ (Nat.le_of_ble_eq_true rfl) (fun X' hX => KX3_count hX)) rfl rfl rfl rfl ⟨hk.1, hk.2⟩ rfl hF (fun x102 h101 hF => ?_)
    refine jj_imul (pc' := 82) dL_seen_81 rfl ?_
    refine jj_icmp_ge (tgt := 111) (pc' := 85) dL_seen_82 rfl rfl (fun hc hF => ?_) (fun hc hF => ?_) hF
    · skip
      obtain ⟨hw, hF⟩ := jf_w_inv hF
      refine jj_wide hw.1 hw.2 ?_
      refine jj_iconst (v := (0 : Int32)) (pc' := 112) dL_seen_111 rfl rfl ?_
      refine jj_istore_n (i := 3) (ls' := [(3, .int ((0 : Int32))), (0, .ref a0), (1, .long l1)]) (pc' := 113) dL_seen_112 rfl (Nat.le_of_ble_eq_true rfl) rfl rfl ?_
      exact jj_pick [1, 2, 0] rfl (BL_seen_113 N N 377 2262 a0 l1 ((0 : Int32)) h101 _ hF)
    · skip
      refine jj_ldc2l (v := (31 : Int64)) (pc' := 88) dL_seen_85 qw_75 rfl ?_
      refine jj_lload_n (j := 1) (i := 1) (pc' := 89) dL_seen_88 rfl rfl rfl ?_
      refine jj_lmul (pc' := 90) dL_seen_89 rfl ?_
      refine jj_aload_n (j := 0) (i := 0) (pc' := 91) dL_seen_90 rfl rfl rfl ?_
      refine jj_iload_n (j := 2) (i := 3) (pc' := 92) dL_seen_91 rfl rfl rfl ?_
      refine jj_bipush (v := (6 : Int32)) (pc' := 94) dL_seen_92 rfl rfl ?_
      refine jj_idiv (pc' := 95) dL_seen_94 (by decide) rfl ?_
      refine jj_iload_n (j := 2) (i := 3) (pc' := 96) dL_seen_95 rfl rfl rfl ?_
      refine jj_bipush (v := (6 : Int32)) (pc' := 98) dL_seen_96 rfl rfl ?_
      refine jj_irem (pc' := 99) dL_seen_98 (by decide) rfl ?_
      obtain ⟨hk, hF⟩ := jf_k_inv hF
      refine jj_cI (N := M_X3_filmOf) (kc' := (kc + 3)) (ks' := (ks + 18)) (pc' := 102) (jg_V (N := M_X3_filmOf) (ci := 3) (rest := [.long (((31 : Int64)) * l1)]) (as := [.int (x3 / ((6 : Int32))), .int (x3 - x3 / ((6 : Int32)) * ((6 : Int32)))]) cf_L_60 dL_seen_99 ⟨rfl, rfl⟩ rfl rfl ⟨Nat.le_of_ble_eq_true rfl, Nat.le_of_ble_eq_true rfl⟩ ⟨hk.1, hk.2⟩ (Nat.le_of_ble_eq_true rfl) (fun X' hX => KX3_filmOf hX)) rfl rfl rfl rfl ⟨hk.1, hk.2⟩ rfl hF (fun x104 h103 hF => ?_)
      refine jj_i2l (pc' := 103) dL_seen_102 rfl ?_
      refine jj_ladd (pc' := 104) dL_seen_103 rfl ?_
      refine jj_lstore_n (i := 1) (ls' := [(1, .long ((((31 : Int64)) * l1) + x104.toInt64)), (0, .ref a0), (3, .int x3)]) (pc' := 105) dL_seen_104 rfl (Nat.le_of_ble_eq_true rfl) rfl rfl ?_
      refine jj_iinc (i := 3) (j := 2) (v := x3 + (1 : Int32)) (ls' := [(3, .int (x3 + (1 : Int32))), (1, .long ((((31 : Int64)) * l1) + x104.toInt64)), (0, .ref a0)]) (pc' := 108) dL_seen_105 rfl rfl (Nat.le_of_ble_eq_true rfl) rfl rfl ?_
      refine jj_goto (tgt := 73) dL_seen_108 rfl ?_
      exact jj_pick [2, 1, 0] rfl (ih (kc + 3) (ks + 18) a0 ((((31 : Int64)) * l1) + x104.toInt64) (x3 + (1 : Int32)) h103 _ hF)
set_option maxRecDepth 100000 in
set_option maxHeartbeats 4000000 in
theorem BL_seen_33 (N : Nat) : ∀ (n : Nat) (kc : Nat) (ks : Nat) (a0 : Nat) (l1 : Int64) (x3 : Int32) (h : jm_H) (X : jm_X), FL_seen_33 N n kc ks a0 l1 x3 h = some X → jm_J M_L_seen 33 [(0, .ref a0), (1, .long l1), (3, .int x3)] [] h kc ks X := by
  intro n
  induction n with
  | zero =>
    intro kc ks a0 l1 x3 h X hF
    exact nomatch (show (none : Option jm_X) = some X from hF)
  | succ n ih =>
    intro kc ks a0 l1 x3 h X hF
    rw [FL_seen_33] at hF
    obtain ⟨hk, hF⟩ := jf_k_inv hF
    refine jj_iload_n (j := 2) (i := 3) (pc' := 34) dL_seen_33 rfl rfl rfl ?_
    refine jj_bipush (v := (6 : Int32)) (pc' := 36) dL_seen_34 rfl rfl ?_
    refine jj_aload_n (j := 0) (i := 0) (pc' := 37) dL_seen_36 rfl rfl rfl ?_
    refine jj_iconst (v := (1 : Int32)) (pc' := 38) dL_seen_37 rfl rfl ?_
    obtain ⟨hk, hF⟩ := jf_k_inv hF
    refine jj_cI (N := M_X3_count) (kc' := (kc + 1)) (ks' := (ks + 6)) (pc' := 41) (jg_V (N := M_X3_count) (ci := 3) (rest := [.int ((6 : Int32)), .int x3]) (as := [.int ((1 : Int32))]) cf_L_81 dL_seen_38 ⟨rfl, rfl⟩ rfl rfl ⟨Nat.le_of_ble_eq_true rfl, Nat.le_of_ble_eq_true rfl⟩ ⟨hk.1, hk.2⟩ (Nat.le_of_ble_eq_true rfl) (fun X' hX => KX3_count hX)) rfl rfl rfl rfl ⟨hk.1, hk.2⟩ rfl hF (fun x102 h101 hF => ?_)
    refine jj_imul (pc' := 42) dL_seen_41 rfl ?_
    refine jj_icmp_ge (tgt := 71) (pc' := 45) dL_seen_42 rfl rfl (fun hc hF => ?_) (fun hc hF => ?_) hF
    · skip
      obtain ⟨hw, hF⟩ := jf_w_inv hF
      refine jj_wide hw.1 hw.2 ?_
      refine jj_iconst (v := (0 : Int32)) (pc' := 72) dL_seen_71 rfl rfl ?_
      refine jj_istore_n (i := 3) (ls' := [(3, .int ((0 : Int32))), (0, .ref a0), (1, .long l1)]) (pc' := 73) dL_seen_72 rfl (Nat.le_of_ble_eq_true rfl) rfl rfl ?_
      exact jj_pick [1, 2, 0] rfl (BL_seen_73 N N 230 1380 a0 l1 ((0 : Int32)) h101 _ hF)
    · skip
      refine jj_ldc2l (v := (31 : Int64)) (pc' := 48) dL_seen_45 qw_75 rfl ?_
      refine jj_lload_n (j := 1) (i := 1) (pc' := 49) dL_seen_48 rfl rfl rfl ?_
      refine jj_lmul (pc' := 50) dL_seen_49 rfl ?_
      refine jj_aload_n (j := 0) (i := 0) (pc' := 51) dL_seen_50 rfl rfl rfl ?_
      refine jj_iload_n (j := 2) (i := 3) (pc' := 52) dL_seen_51 rfl rfl rfl ?_
      refine jj_bipush (v := (6 : Int32)) (pc' := 54) dL_seen_52 rfl rfl ?_
      refine jj_idiv (pc' := 55) dL_seen_54 (by decide) rfl ?_
      refine jj_iload_n (j := 2) (i := 3) (pc' := 56) dL_seen_55 rfl rfl rfl ?_
      refine jj_bipush (v := (6 : Int32)) (pc' := 58) dL_seen_56 rfl rfl ?_
      refine jj_irem (pc' := 59) dL_seen_58 (by decide) rfl ?_
      obtain ⟨hk, hF⟩ := jf_k_inv hF
      refine jj_cI (N := M_X3_showing) (kc' := (kc + 3)) (ks' := (ks + 18)) (pc' := 62) (jg_V (N := M_X3_showing) (ci := 3) (rest := [.long (((31 : Int64)) * l1)]) (as := [.int (x3 / ((6 : Int32))), .int (x3 - x3 / ((6 : Int32)) * ((6 : Int32)))]) cf_L_63 dL_seen_59 ⟨rfl, rfl⟩ rfl rfl ⟨Nat.le_of_ble_eq_true rfl, Nat.le_of_ble_eq_true rfl⟩ ⟨hk.1, hk.2⟩ (Nat.le_of_ble_eq_true rfl) (fun X' hX => KX3_showing hX)) rfl rfl rfl rfl ⟨hk.1, hk.2⟩ rfl hF (fun x104 h103 hF => ?_)
      refine jj_i2l (pc' := 63) dL_seen_62 rfl ?_
      refine jj_ladd (pc' := 64) dL_seen_63 rfl ?_
      refine jj_lstore_n (i := 1) (ls' := [(1, .long ((((31 : Int64)) * l1) + x104.toInt64)), (0, .ref a0), (3, .int x3)]) (pc' := 65) dL_seen_64 rfl (Nat.le_of_ble_eq_true rfl) rfl rfl ?_
      refine jj_iinc (i := 3) (j := 2) (v := x3 + (1 : Int32)) (ls' := [(3, .int (x3 + (1 : Int32))), (1, .long ((((31 : Int64)) * l1) + x104.toInt64)), (0, .ref a0)]) (pc' := 68) dL_seen_65 rfl rfl (Nat.le_of_ble_eq_true rfl) rfl rfl ?_
      refine jj_goto (tgt := 33) dL_seen_68 rfl ?_
      exact jj_pick [2, 1, 0] rfl (ih (kc + 3) (ks + 18) a0 ((((31 : Int64)) * l1) + x104.toInt64) (x3 + (1 : Int32)) h103 _ hF)
set_option maxRecDepth 100000 in
set_option maxHeartbeats 4000000 in
theorem BL_seen_6 (N : Nat) : ∀ (n : Nat) (kc : Nat) (ks : Nat) (a0 : Nat) (l1 : Int64) (x3 : Int32) (h : jm_H) (X : jm_X), FL_seen_6 N n kc ks a0 l1 x3 h = some X → jm_J M_L_seen 6 [(0, .ref a0), (1, .long l1), (3, .int x3)] [] h kc ks X := by
  intro n
  induction n with
  | zero =>
    intro kc ks a0 l1 x3 h X hF
    exact nomatch (show (none : Option jm_X) = some X from hF)
  | succ n ih =>
    intro kc ks a0 l1 x3 h X hF
    rw [FL_seen_6] at hF
    obtain ⟨hk, hF⟩ := jf_k_inv hF
    refine jj_iload_n (j := 2) (i := 3) (pc' := 7) dL_seen_6 rfl rfl rfl ?_
    refine jj_bipush (v := (11 : Int32)) (pc' := 9) dL_seen_7 rfl rfl ?_
    refine jj_icmp_ge (tgt := 31) (pc' := 12) dL_seen_9 rfl rfl (fun hc hF => ?_) (fun hc hF => ?_) hF
    · skip
      obtain ⟨hw, hF⟩ := jf_w_inv hF
      refine jj_wide hw.1 hw.2 ?_
      refine jj_iconst (v := (0 : Int32)) (pc' := 32) dL_seen_31 rfl rfl ?_
      refine jj_istore_n (i := 3) (ls' := [(3, .int ((0 : Int32))), (0, .ref a0), (1, .long l1)]) (pc' := 33) dL_seen_32 rfl (Nat.le_of_ble_eq_true rfl) rfl rfl ?_
      exact jj_pick [1, 2, 0] rfl (BL_seen_33 N N 11 66 a0 l1 ((0 : Int32)) h _ hF)
    · skip
      refine jj_ldc2l (v := (31 : Int64)) (pc' := 15) dL_seen_12 qw_75 rfl ?_
      refine jj_lload_n (j := 1) (i := 1) (pc' := 16) dL_seen_15 rfl rfl rfl ?_
      refine jj_lmul (pc' := 17) dL_seen_16 rfl ?_
      refine jj_aload_n (j := 0) (i := 0) (pc' := 18) dL_seen_17 rfl rfl rfl ?_
      refine jj_iload_n (j := 2) (i := 3) (pc' := 19) dL_seen_18 rfl rfl rfl ?_
      obtain ⟨hk, hF⟩ := jf_k_inv hF
      refine jj_cI (N := M_X3_count) (kc' := (kc + 1)) (ks' := (ks + 6)) (pc' := 22) (jg_V (N := M_X3_count) (ci := 3) (rest := [.long (((31 : Int64)) * l1)]) (as := [.int x3]) cf_L_81 dL_seen_19 ⟨rfl, rfl⟩ rfl rfl ⟨Nat.le_of_ble_eq_true rfl, Nat.le_of_ble_eq_true rfl⟩ ⟨hk.1, hk.2⟩ (Nat.le_of_ble_eq_true rfl) (fun X' hX => KX3_count hX)) rfl rfl rfl rfl ⟨hk.1, hk.2⟩ rfl hF (fun x102 h101 hF => ?_)
      refine jj_i2l (pc' := 23) dL_seen_22 rfl ?_
      refine jj_ladd (pc' := 24) dL_seen_23 rfl ?_
      refine jj_lstore_n (i := 1) (ls' := [(1, .long ((((31 : Int64)) * l1) + x102.toInt64)), (0, .ref a0), (3, .int x3)]) (pc' := 25) dL_seen_24 rfl (Nat.le_of_ble_eq_true rfl) rfl rfl ?_
      refine jj_iinc (i := 3) (j := 2) (v := x3 + (1 : Int32)) (ls' := [(3, .int (x3 + (1 : Int32))), (1, .long ((((31 : Int64)) * l1) + x102.toInt64)), (0, .ref a0)]) (pc' := 28) dL_seen_25 rfl rfl (Nat.le_of_ble_eq_true rfl) rfl rfl ?_
      refine jj_goto (tgt := 6) dL_seen_28 rfl ?_
      exact jj_pick [2, 1, 0] rfl (ih (kc + 1) (ks + 6) a0 ((((31 : Int64)) * l1) + x102.toInt64) (x3 + (1 : Int32)) h101 _ hF)
set_option maxRecDepth 100000 in
set_option maxHeartbeats 4000000 in
theorem JL_seen {N : Nat} {a0 : Nat} {h : jm_H} {X : jm_X} (hF : FL_seen N a0 h = some X) : jm_J M_L_seen 0 [(0, .ref a0)] [] h 0 0 X := by
  unfold FL_seen at hF
  refine jj_ldc2l (v := (233 : Int64)) (pc' := 3) dL_seen_0 qw_74 rfl ?_
  refine jj_lstore_n (i := 1) (ls' := [(1, .long ((233 : Int64))), (0, .ref a0)]) (pc' := 4) dL_seen_3 rfl (Nat.le_of_ble_eq_true rfl) rfl rfl ?_
  refine jj_iconst (v := (0 : Int32)) (pc' := 5) dL_seen_4 rfl rfl ?_
  refine jj_istore_n (i := 3) (ls' := [(3, .int ((0 : Int32))), (1, .long ((233 : Int64))), (0, .ref a0)]) (pc' := 6) dL_seen_5 rfl (Nat.le_of_ble_eq_true rfl) rfl rfl ?_
  exact jj_pick [2, 1, 0] rfl (BL_seen_6 N N 0 0 a0 ((233 : Int64)) ((0 : Int32)) h _ hF)
theorem KL_seen {N : Nat} {a0 : Nat} {h : jm_H} {X : jm_X} (hF : FL_seen N a0 h = some X) : jm_K M_L_seen [.ref a0] h X := jk_of rfl (by decide +kernel) rfl rfl (Nat.le_of_ble_eq_true rfl) (JL_seen hF)
set_option maxRecDepth 100000 in
set_option maxHeartbeats 4000000 in
theorem JL_far {x0 : Int32} {x1 : Int32} {x2 : Int32} {h : jm_H} {X : jm_X} (hF : FL_far x0 x1 x2 h = some X) : jm_J M_L_far 0 [(0, .int x0), (1, .int x1), (2, .int x2)] [] h 0 0 X := by
  unfold FL_far at hF
  refine jj_iload_n (j := 0) (i := 0) (pc' := 1) dL_far_0 rfl rfl rfl ?_
  refine jj_if_ne (tgt := 10) (pc' := 4) dL_far_1 rfl rfl (fun hc hF => ?_) (fun hc hF => ?_) hF
  · skip
    refine jj_iload_n (j := 0) (i := 0) (pc' := 11) dL_far_10 rfl rfl rfl ?_
    refine jj_iconst (v := (1 : Int32)) (pc' := 12) dL_far_11 rfl rfl ?_
    refine jj_icmp_ne (tgt := 21) (pc' := 15) dL_far_12 rfl rfl (fun hc hF => ?_) (fun hc hF => ?_) hF
    · skip
      refine jj_iload_n (j := 0) (i := 0) (pc' := 22) dL_far_21 rfl rfl rfl ?_
      refine jj_iconst (v := (2 : Int32)) (pc' := 23) dL_far_22 rfl rfl ?_
      refine jj_icmp_ne (tgt := 31) (pc' := 26) dL_far_23 rfl rfl (fun hc hF => ?_) (fun hc hF => ?_) hF
      · skip
        refine jj_ldc (v := (2147483647 : Int32)) (pc' := 33) dL_far_31 qw_68 rfl ?_
        exact jj_retI (ty := .int) rfl rfl dL_far_33 ⟨Nat.le_of_ble_eq_true rfl, Nat.le_of_ble_eq_true rfl⟩ hF
      · skip
        refine jj_ldc (v := (-2147483648 : Int32)) (pc' := 28) dL_far_26 qw_77 rfl ?_
        refine jj_goto (tgt := 33) dL_far_28 rfl ?_
        exact jj_retI (ty := .int) rfl rfl dL_far_33 ⟨Nat.le_of_ble_eq_true rfl, Nat.le_of_ble_eq_true rfl⟩ hF
    · skip
      refine jj_iload_n (j := 2) (i := 2) (pc' := 16) dL_far_15 rfl rfl rfl ?_
      refine jj_iconst (v := (1 : Int32)) (pc' := 17) dL_far_16 rfl rfl ?_
      refine jj_iadd (pc' := 18) dL_far_17 rfl ?_
      refine jj_goto (tgt := 33) dL_far_18 rfl ?_
      exact jj_retI (ty := .int) rfl rfl dL_far_33 ⟨Nat.le_of_ble_eq_true rfl, Nat.le_of_ble_eq_true rfl⟩ hF
  · skip
    refine jj_iload_n (j := 1) (i := 1) (pc' := 5) dL_far_4 rfl rfl rfl ?_
    refine jj_iconst (v := (1 : Int32)) (pc' := 6) dL_far_5 rfl rfl ?_
    refine jj_isub (pc' := 7) dL_far_6 rfl ?_
    refine jj_goto (tgt := 33) dL_far_7 rfl ?_
    exact jj_retI (ty := .int) rfl rfl dL_far_33 ⟨Nat.le_of_ble_eq_true rfl, Nat.le_of_ble_eq_true rfl⟩ hF
theorem KL_far {x0 : Int32} {x1 : Int32} {x2 : Int32} {h : jm_H} {X : jm_X} (hF : FL_far x0 x1 x2 h = some X) : jm_K M_L_far [.int x0, .int x1, .int x2] h X := jk_of rfl (by decide +kernel) rfl rfl (Nat.le_of_ble_eq_true rfl) (JL_far hF)
set_option maxRecDepth 100000 in
set_option maxHeartbeats 4000000 in
theorem BL_refusesFilms_614 (N : Nat) : ∀ (n : Nat) (a0 : Nat) (x1 : Int32) (x3 : Int32) (x4 : Int32) (h : jm_H) (X : jm_X), FL_refusesFilms_614 N n a0 x1 x3 x4 h = some X → jm_J M_L_refusesFilms 614 [(0, .ref a0), (1, .int x1), (3, .int x3), (4, .int x4)] [] h 1893 11358 X := by
  intro n
  induction n with
  | zero =>
    intro a0 x1 x3 x4 h X hF
    exact nomatch (show (none : Option jm_X) = some X from hF)
  | succ n ih =>
    intro a0 x1 x3 x4 h X hF
    rw [FL_refusesFilms_614] at hF
    refine jj_aload_n (j := 0) (i := 0) (pc' := 615) dL_refusesFilms_614 rfl rfl rfl ?_
    refine jj_bipush (v := (17 : Int32)) (pc' := 617) dL_refusesFilms_615 rfl rfl ?_
    refine jj_iload_n (j := 2) (i := 3) (pc' := 618) dL_refusesFilms_617 rfl rfl rfl ?_
    refine jj_iconst (v := (-1 : Int32)) (pc' := 619) dL_refusesFilms_618 rfl rfl ?_
    refine jj_iconst (v := (0 : Int32)) (pc' := 620) dL_refusesFilms_619 rfl rfl ?_
    refine jj_lconst (v := (0 : Int64)) (pc' := 621) dL_refusesFilms_620 rfl rfl ?_
    refine jj_cI (N := M_L_call) (kc' := 1954) (ks' := 11724) (pc' := 624) (jg_H (N := M_L_call) (rest := []) (as := [.ref a0, .int ((17 : Int32)), .int x3, .int ((-1 : Int32)), .int ((0 : Int32)), .long ((0 : Int64))]) cf_L_119 (by decide) dL_refusesFilms_621 rfl rfl ⟨Nat.le_of_ble_eq_true rfl, Nat.le_of_ble_eq_true rfl⟩ ⟨Nat.le_of_ble_eq_true rfl, Nat.le_of_ble_eq_true rfl⟩ (Nat.le_of_ble_eq_true rfl) (fun X' hX => KL_call hX)) rfl rfl rfl rfl ⟨Nat.le_of_ble_eq_true rfl, Nat.le_of_ble_eq_true rfl⟩ rfl hF (fun x102 h101 hF => ?_)
    refine jj_bipush (v := (-11 : Int32)) (pc' := 626) dL_refusesFilms_624 rfl rfl ?_
    refine jj_icmp_ne (tgt := 721) (pc' := 629) dL_refusesFilms_626 rfl rfl (fun hc hF => ?_) (fun hc hF => ?_) hF
    · skip
      refine jj_iconst (v := (0 : Int32)) (pc' := 722) dL_refusesFilms_721 rfl rfl ?_
      exact jj_retI (ty := .boolean) rfl rfl dL_refusesFilms_722 ⟨Nat.le_of_ble_eq_true rfl, Nat.le_of_ble_eq_true rfl⟩ hF
    · skip
      refine jj_aload_n (j := 0) (i := 0) (pc' := 630) dL_refusesFilms_629 rfl rfl rfl ?_
      refine jj_bipush (v := (17 : Int32)) (pc' := 632) dL_refusesFilms_630 rfl rfl ?_
      refine jj_iconst (v := (2 : Int32)) (pc' := 633) dL_refusesFilms_632 rfl rfl ?_
      refine jj_iload (j := 3) (i := 4) (pc' := 635) dL_refusesFilms_633 rfl rfl ?_
      refine jj_iconst (v := (0 : Int32)) (pc' := 636) dL_refusesFilms_635 rfl rfl ?_
      refine jj_lconst (v := (0 : Int64)) (pc' := 637) dL_refusesFilms_636 rfl rfl ?_
      refine jj_cI (N := M_L_call) (kc' := 2015) (ks' := 12090) (pc' := 640) (jg_H (N := M_L_call) (rest := []) (as := [.ref a0, .int ((17 : Int32)), .int ((2 : Int32)), .int x4, .int ((0 : Int32)), .long ((0 : Int64))]) cf_L_119 (by decide) dL_refusesFilms_637 rfl rfl ⟨Nat.le_of_ble_eq_true rfl, Nat.le_of_ble_eq_true rfl⟩ ⟨Nat.le_of_ble_eq_true rfl, Nat.le_of_ble_eq_true rfl⟩ (Nat.le_of_ble_eq_true rfl) (fun X' hX => KL_call hX)) rfl rfl rfl rfl ⟨Nat.le_of_ble_eq_true rfl, Nat.le_of_ble_eq_true rfl⟩ rfl hF (fun x104 h103 hF => ?_)
      refine jj_bipush (v := (-12 : Int32)) (pc' := 642) dL_refusesFilms_640 rfl rfl ?_
      refine jj_icmp_ne (tgt := 721) (pc' := 645) dL_refusesFilms_642 rfl rfl (fun hc hF => ?_) (fun hc hF => ?_) hF
      · skip
        refine jj_iconst (v := (0 : Int32)) (pc' := 722) dL_refusesFilms_721 rfl rfl ?_
        exact jj_retI (ty := .boolean) rfl rfl dL_refusesFilms_722 ⟨Nat.le_of_ble_eq_true rfl, Nat.le_of_ble_eq_true rfl⟩ hF
      · skip
        refine jj_aload_n (j := 0) (i := 0) (pc' := 646) dL_refusesFilms_645 rfl rfl rfl ?_
        refine jj_bipush (v := (18 : Int32)) (pc' := 648) dL_refusesFilms_646 rfl rfl ?_
        refine jj_iload_n (j := 2) (i := 3) (pc' := 649) dL_refusesFilms_648 rfl rfl rfl ?_
        refine jj_bipush (v := (9 : Int32)) (pc' := 651) dL_refusesFilms_649 rfl rfl ?_
        refine jj_iconst (v := (0 : Int32)) (pc' := 652) dL_refusesFilms_651 rfl rfl ?_
        refine jj_lconst (v := (0 : Int64)) (pc' := 653) dL_refusesFilms_652 rfl rfl ?_
        refine jj_cI (N := M_L_call) (kc' := 2076) (ks' := 12456) (pc' := 656) (jg_H (N := M_L_call) (rest := []) (as := [.ref a0, .int ((18 : Int32)), .int x3, .int ((9 : Int32)), .int ((0 : Int32)), .long ((0 : Int64))]) cf_L_119 (by decide) dL_refusesFilms_653 rfl rfl ⟨Nat.le_of_ble_eq_true rfl, Nat.le_of_ble_eq_true rfl⟩ ⟨Nat.le_of_ble_eq_true rfl, Nat.le_of_ble_eq_true rfl⟩ (Nat.le_of_ble_eq_true rfl) (fun X' hX => KL_call hX)) rfl rfl rfl rfl ⟨Nat.le_of_ble_eq_true rfl, Nat.le_of_ble_eq_true rfl⟩ rfl hF (fun x106 h105 hF => ?_)
        refine jj_bipush (v := (-11 : Int32)) (pc' := 658) dL_refusesFilms_656 rfl rfl ?_
        refine jj_icmp_ne (tgt := 721) (pc' := 661) dL_refusesFilms_658 rfl rfl (fun hc hF => ?_) (fun hc hF => ?_) hF
        · skip
          refine jj_iconst (v := (0 : Int32)) (pc' := 722) dL_refusesFilms_721 rfl rfl ?_
          exact jj_retI (ty := .boolean) rfl rfl dL_refusesFilms_722 ⟨Nat.le_of_ble_eq_true rfl, Nat.le_of_ble_eq_true rfl⟩ hF
        · skip
          refine jj_aload_n (j := 0) (i := 0) (pc' := 662) dL_refusesFilms_661 rfl rfl rfl ?_
          refine jj_bipush (v := (18 : Int32)) (pc' := 664) dL_refusesFilms_662 rfl rfl ?_
          refine jj_iconst (v := (0 : Int32)) (pc' := 665) dL_refusesFilms_664 rfl rfl ?_
          refine jj_iload_n (j := 1) (i := 1) (pc' := 666) dL_refusesFilms_665 rfl rfl rfl ?_
          refine jj_iconst (v := (0 : Int32)) (pc' := 667) dL_refusesFilms_666 rfl rfl ?_
          refine jj_iconst (v := (4 : Int32)) (pc' := 668) dL_refusesFilms_667 rfl rfl ?_
          refine jj_cI (N := M_L_far) (kc' := 2076) (ks' := 12456) (pc' := 671) (jg_S (N := M_L_far) (rest := [.int ((0 : Int32)), .int ((18 : Int32)), .ref a0]) (as := [.int x1, .int ((0 : Int32)), .int ((4 : Int32))]) cf_L_114 rfl dL_refusesFilms_668 rfl rfl ⟨Nat.le_of_ble_eq_true rfl, Nat.le_of_ble_eq_true rfl⟩ ⟨Nat.le_of_ble_eq_true rfl, Nat.le_of_ble_eq_true rfl⟩ (Nat.le_of_ble_eq_true rfl) (fun X' hX => KL_far hX)) rfl rfl rfl rfl ⟨Nat.le_of_ble_eq_true rfl, Nat.le_of_ble_eq_true rfl⟩ rfl hF (fun x108 h107 hF => ?_)
          refine jj_iconst (v := (0 : Int32)) (pc' := 672) dL_refusesFilms_671 rfl rfl ?_
          refine jj_lconst (v := (0 : Int64)) (pc' := 673) dL_refusesFilms_672 rfl rfl ?_
          refine jj_cI (N := M_L_call) (kc' := 2137) (ks' := 12822) (pc' := 676) (jg_H (N := M_L_call) (rest := []) (as := [.ref a0, .int ((18 : Int32)), .int ((0 : Int32)), .int x108, .int ((0 : Int32)), .long ((0 : Int64))]) cf_L_119 (by decide) dL_refusesFilms_673 rfl rfl ⟨Nat.le_of_ble_eq_true rfl, Nat.le_of_ble_eq_true rfl⟩ ⟨Nat.le_of_ble_eq_true rfl, Nat.le_of_ble_eq_true rfl⟩ (Nat.le_of_ble_eq_true rfl) (fun X' hX => KL_call hX)) rfl rfl rfl rfl ⟨Nat.le_of_ble_eq_true rfl, Nat.le_of_ble_eq_true rfl⟩ rfl hF (fun x110 h109 hF => ?_)
          refine jj_bipush (v := (-12 : Int32)) (pc' := 678) dL_refusesFilms_676 rfl rfl ?_
          refine jj_icmp_ne (tgt := 721) (pc' := 681) dL_refusesFilms_678 rfl rfl (fun hc hF => ?_) (fun hc hF => ?_) hF
          · skip
            refine jj_iconst (v := (0 : Int32)) (pc' := 722) dL_refusesFilms_721 rfl rfl ?_
            exact jj_retI (ty := .boolean) rfl rfl dL_refusesFilms_722 ⟨Nat.le_of_ble_eq_true rfl, Nat.le_of_ble_eq_true rfl⟩ hF
          · skip
            refine jj_aload_n (j := 0) (i := 0) (pc' := 682) dL_refusesFilms_681 rfl rfl rfl ?_
            refine jj_bipush (v := (21 : Int32)) (pc' := 684) dL_refusesFilms_682 rfl rfl ?_
            refine jj_iload_n (j := 1) (i := 1) (pc' := 685) dL_refusesFilms_684 rfl rfl rfl ?_
            refine jj_iconst (v := (0 : Int32)) (pc' := 686) dL_refusesFilms_685 rfl rfl ?_
            refine jj_bipush (v := (11 : Int32)) (pc' := 688) dL_refusesFilms_686 rfl rfl ?_
            refine jj_cI (N := M_L_far) (kc' := 2137) (ks' := 12822) (pc' := 691) (jg_S (N := M_L_far) (rest := [.int ((21 : Int32)), .ref a0]) (as := [.int x1, .int ((0 : Int32)), .int ((11 : Int32))]) cf_L_114 rfl dL_refusesFilms_688 rfl rfl ⟨Nat.le_of_ble_eq_true rfl, Nat.le_of_ble_eq_true rfl⟩ ⟨Nat.le_of_ble_eq_true rfl, Nat.le_of_ble_eq_true rfl⟩ (Nat.le_of_ble_eq_true rfl) (fun X' hX => KL_far hX)) rfl rfl rfl rfl ⟨Nat.le_of_ble_eq_true rfl, Nat.le_of_ble_eq_true rfl⟩ rfl hF (fun x112 h111 hF => ?_)
            refine jj_iconst (v := (0 : Int32)) (pc' := 692) dL_refusesFilms_691 rfl rfl ?_
            refine jj_iconst (v := (0 : Int32)) (pc' := 693) dL_refusesFilms_692 rfl rfl ?_
            refine jj_lconst (v := (0 : Int64)) (pc' := 694) dL_refusesFilms_693 rfl rfl ?_
            refine jj_cI (N := M_L_call) (kc' := 2198) (ks' := 13188) (pc' := 697) (jg_H (N := M_L_call) (rest := []) (as := [.ref a0, .int ((21 : Int32)), .int x112, .int ((0 : Int32)), .int ((0 : Int32)), .long ((0 : Int64))]) cf_L_119 (by decide) dL_refusesFilms_694 rfl rfl ⟨Nat.le_of_ble_eq_true rfl, Nat.le_of_ble_eq_true rfl⟩ ⟨Nat.le_of_ble_eq_true rfl, Nat.le_of_ble_eq_true rfl⟩ (Nat.le_of_ble_eq_true rfl) (fun X' hX => KL_call hX)) rfl rfl rfl rfl ⟨Nat.le_of_ble_eq_true rfl, Nat.le_of_ble_eq_true rfl⟩ rfl hF (fun x114 h113 hF => ?_)
            refine jj_bipush (v := (-12 : Int32)) (pc' := 699) dL_refusesFilms_697 rfl rfl ?_
            refine jj_icmp_ne (tgt := 721) (pc' := 702) dL_refusesFilms_699 rfl rfl (fun hc hF => ?_) (fun hc hF => ?_) hF
            · skip
              refine jj_iconst (v := (0 : Int32)) (pc' := 722) dL_refusesFilms_721 rfl rfl ?_
              exact jj_retI (ty := .boolean) rfl rfl dL_refusesFilms_722 ⟨Nat.le_of_ble_eq_true rfl, Nat.le_of_ble_eq_true rfl⟩ hF
            · skip
              refine jj_aload_n (j := 0) (i := 0) (pc' := 703) dL_refusesFilms_702 rfl rfl rfl ?_
              refine jj_bipush (v := (26 : Int32)) (pc' := 705) dL_refusesFilms_703 rfl rfl ?_
              refine jj_iload_n (j := 2) (i := 3) (pc' := 706) dL_refusesFilms_705 rfl rfl rfl ?_
              refine jj_iconst (v := (0 : Int32)) (pc' := 707) dL_refusesFilms_706 rfl rfl ?_
              refine jj_iconst (v := (0 : Int32)) (pc' := 708) dL_refusesFilms_707 rfl rfl ?_
              refine jj_lconst (v := (0 : Int64)) (pc' := 709) dL_refusesFilms_708 rfl rfl ?_
              refine jj_cI (N := M_L_call) (kc' := 2259) (ks' := 13554) (pc' := 712) (jg_H (N := M_L_call) (rest := []) (as := [.ref a0, .int ((26 : Int32)), .int x3, .int ((0 : Int32)), .int ((0 : Int32)), .long ((0 : Int64))]) cf_L_119 (by decide) dL_refusesFilms_709 rfl rfl ⟨Nat.le_of_ble_eq_true rfl, Nat.le_of_ble_eq_true rfl⟩ ⟨Nat.le_of_ble_eq_true rfl, Nat.le_of_ble_eq_true rfl⟩ (Nat.le_of_ble_eq_true rfl) (fun X' hX => KL_call hX)) rfl rfl rfl rfl ⟨Nat.le_of_ble_eq_true rfl, Nat.le_of_ble_eq_true rfl⟩ rfl hF (fun x116 h115 hF => ?_)
              refine jj_bipush (v := (-11 : Int32)) (pc' := 714) dL_refusesFilms_712 rfl rfl ?_
              refine jj_icmp_ne (tgt := 721) (pc' := 717) dL_refusesFilms_714 rfl rfl (fun hc hF => ?_) (fun hc hF => ?_) hF
              · skip
                refine jj_iconst (v := (0 : Int32)) (pc' := 722) dL_refusesFilms_721 rfl rfl ?_
                exact jj_retI (ty := .boolean) rfl rfl dL_refusesFilms_722 ⟨Nat.le_of_ble_eq_true rfl, Nat.le_of_ble_eq_true rfl⟩ hF
              · skip
                refine jj_iconst (v := (1 : Int32)) (pc' := 718) dL_refusesFilms_717 rfl rfl ?_
                refine jj_goto (tgt := 722) dL_refusesFilms_718 rfl ?_
                exact jj_retI (ty := .boolean) rfl rfl dL_refusesFilms_722 ⟨Nat.le_of_ble_eq_true rfl, Nat.le_of_ble_eq_true rfl⟩ hF
set_option maxRecDepth 100000 in
set_option maxHeartbeats 4000000 in
theorem BL_refusesFilms_482 (N : Nat) : ∀ (n : Nat) (a0 : Nat) (x1 : Int32) (x3 : Int32) (x4 : Int32) (h : jm_H) (X : jm_X), FL_refusesFilms_482 N n a0 x1 x3 x4 h = some X → jm_J M_L_refusesFilms 482 [(0, .ref a0), (1, .int x1), (3, .int x3), (4, .int x4)] [] h 1405 8430 X := by
  intro n
  induction n with
  | zero =>
    intro a0 x1 x3 x4 h X hF
    exact nomatch (show (none : Option jm_X) = some X from hF)
  | succ n ih =>
    intro a0 x1 x3 x4 h X hF
    rw [FL_refusesFilms_482] at hF
    refine jj_aload_n (j := 0) (i := 0) (pc' := 483) dL_refusesFilms_482 rfl rfl rfl ?_
    refine jj_bipush (v := (22 : Int32)) (pc' := 485) dL_refusesFilms_483 rfl rfl ?_
    refine jj_iconst (v := (0 : Int32)) (pc' := 486) dL_refusesFilms_485 rfl rfl ?_
    refine jj_iconst (v := (2 : Int32)) (pc' := 487) dL_refusesFilms_486 rfl rfl ?_
    refine jj_iload (j := 3) (i := 4) (pc' := 489) dL_refusesFilms_487 rfl rfl ?_
    refine jj_ldc2l (v := (500 : Int64)) (pc' := 492) dL_refusesFilms_489 qw_78 rfl ?_
    refine jj_cI (N := M_L_call) (kc' := 1466) (ks' := 8796) (pc' := 495) (jg_H (N := M_L_call) (rest := []) (as := [.ref a0, .int ((22 : Int32)), .int ((0 : Int32)), .int ((2 : Int32)), .int x4, .long ((500 : Int64))]) cf_L_119 (by decide) dL_refusesFilms_492 rfl rfl ⟨Nat.le_of_ble_eq_true rfl, Nat.le_of_ble_eq_true rfl⟩ ⟨Nat.le_of_ble_eq_true rfl, Nat.le_of_ble_eq_true rfl⟩ (Nat.le_of_ble_eq_true rfl) (fun X' hX => KL_call hX)) rfl rfl rfl rfl ⟨Nat.le_of_ble_eq_true rfl, Nat.le_of_ble_eq_true rfl⟩ rfl hF (fun x102 h101 hF => ?_)
    refine jj_bipush (v := (-12 : Int32)) (pc' := 497) dL_refusesFilms_495 rfl rfl ?_
    refine jj_icmp_ne (tgt := 612) (pc' := 500) dL_refusesFilms_497 rfl rfl (fun hc hF => ?_) (fun hc hF => ?_) hF
    · skip
      refine jj_iconst (v := (0 : Int32)) (pc' := 613) dL_refusesFilms_612 rfl rfl ?_
      exact jj_retI (ty := .boolean) rfl rfl dL_refusesFilms_613 ⟨Nat.le_of_ble_eq_true rfl, Nat.le_of_ble_eq_true rfl⟩ hF
    · skip
      refine jj_aload_n (j := 0) (i := 0) (pc' := 501) dL_refusesFilms_500 rfl rfl rfl ?_
      refine jj_bipush (v := (22 : Int32)) (pc' := 503) dL_refusesFilms_501 rfl rfl ?_
      refine jj_iconst (v := (0 : Int32)) (pc' := 504) dL_refusesFilms_503 rfl rfl ?_
      refine jj_iconst (v := (2 : Int32)) (pc' := 505) dL_refusesFilms_504 rfl rfl ?_
      refine jj_iconst (v := (0 : Int32)) (pc' := 506) dL_refusesFilms_505 rfl rfl ?_
      refine jj_ldc2l (v := (521 : Int64)) (pc' := 509) dL_refusesFilms_506 qw_79 rfl ?_
      refine jj_cI (N := M_L_call) (kc' := 1527) (ks' := 9162) (pc' := 512) (jg_H (N := M_L_call) (rest := []) (as := [.ref a0, .int ((22 : Int32)), .int ((0 : Int32)), .int ((2 : Int32)), .int ((0 : Int32)), .long ((521 : Int64))]) cf_L_119 (by decide) dL_refusesFilms_509 rfl rfl ⟨Nat.le_of_ble_eq_true rfl, Nat.le_of_ble_eq_true rfl⟩ ⟨Nat.le_of_ble_eq_true rfl, Nat.le_of_ble_eq_true rfl⟩ (Nat.le_of_ble_eq_true rfl) (fun X' hX => KL_call hX)) rfl rfl rfl rfl ⟨Nat.le_of_ble_eq_true rfl, Nat.le_of_ble_eq_true rfl⟩ rfl hF (fun x104 h103 hF => ?_)
      refine jj_bipush (v := (-12 : Int32)) (pc' := 514) dL_refusesFilms_512 rfl rfl ?_
      refine jj_icmp_ne (tgt := 612) (pc' := 517) dL_refusesFilms_514 rfl rfl (fun hc hF => ?_) (fun hc hF => ?_) hF
      · skip
        refine jj_iconst (v := (0 : Int32)) (pc' := 613) dL_refusesFilms_612 rfl rfl ?_
        exact jj_retI (ty := .boolean) rfl rfl dL_refusesFilms_613 ⟨Nat.le_of_ble_eq_true rfl, Nat.le_of_ble_eq_true rfl⟩ hF
      · skip
        refine jj_aload_n (j := 0) (i := 0) (pc' := 518) dL_refusesFilms_517 rfl rfl rfl ?_
        refine jj_bipush (v := (22 : Int32)) (pc' := 520) dL_refusesFilms_518 rfl rfl ?_
        refine jj_iconst (v := (0 : Int32)) (pc' := 521) dL_refusesFilms_520 rfl rfl ?_
        refine jj_iconst (v := (2 : Int32)) (pc' := 522) dL_refusesFilms_521 rfl rfl ?_
        refine jj_iconst (v := (0 : Int32)) (pc' := 523) dL_refusesFilms_522 rfl rfl ?_
        refine jj_ldc2l (v := (3500 : Int64)) (pc' := 526) dL_refusesFilms_523 qw_80 rfl ?_
        refine jj_cI (N := M_L_call) (kc' := 1588) (ks' := 9528) (pc' := 529) (jg_H (N := M_L_call) (rest := []) (as := [.ref a0, .int ((22 : Int32)), .int ((0 : Int32)), .int ((2 : Int32)), .int ((0 : Int32)), .long ((3500 : Int64))]) cf_L_119 (by decide) dL_refusesFilms_526 rfl rfl ⟨Nat.le_of_ble_eq_true rfl, Nat.le_of_ble_eq_true rfl⟩ ⟨Nat.le_of_ble_eq_true rfl, Nat.le_of_ble_eq_true rfl⟩ (Nat.le_of_ble_eq_true rfl) (fun X' hX => KL_call hX)) rfl rfl rfl rfl ⟨Nat.le_of_ble_eq_true rfl, Nat.le_of_ble_eq_true rfl⟩ rfl hF (fun x106 h105 hF => ?_)
        refine jj_bipush (v := (-12 : Int32)) (pc' := 531) dL_refusesFilms_529 rfl rfl ?_
        refine jj_icmp_ne (tgt := 612) (pc' := 534) dL_refusesFilms_531 rfl rfl (fun hc hF => ?_) (fun hc hF => ?_) hF
        · skip
          refine jj_iconst (v := (0 : Int32)) (pc' := 613) dL_refusesFilms_612 rfl rfl ?_
          exact jj_retI (ty := .boolean) rfl rfl dL_refusesFilms_613 ⟨Nat.le_of_ble_eq_true rfl, Nat.le_of_ble_eq_true rfl⟩ hF
        · skip
          refine jj_aload_n (j := 0) (i := 0) (pc' := 535) dL_refusesFilms_534 rfl rfl rfl ?_
          refine jj_bipush (v := (23 : Int32)) (pc' := 537) dL_refusesFilms_535 rfl rfl ?_
          refine jj_iconst (v := (0 : Int32)) (pc' := 538) dL_refusesFilms_537 rfl rfl ?_
          refine jj_iload_n (j := 2) (i := 3) (pc' := 539) dL_refusesFilms_538 rfl rfl rfl ?_
          refine jj_iconst (v := (-1 : Int32)) (pc' := 540) dL_refusesFilms_539 rfl rfl ?_
          refine jj_lconst (v := (0 : Int64)) (pc' := 541) dL_refusesFilms_540 rfl rfl ?_
          refine jj_cI (N := M_L_call) (kc' := 1649) (ks' := 9894) (pc' := 544) (jg_H (N := M_L_call) (rest := []) (as := [.ref a0, .int ((23 : Int32)), .int ((0 : Int32)), .int x3, .int ((-1 : Int32)), .long ((0 : Int64))]) cf_L_119 (by decide) dL_refusesFilms_541 rfl rfl ⟨Nat.le_of_ble_eq_true rfl, Nat.le_of_ble_eq_true rfl⟩ ⟨Nat.le_of_ble_eq_true rfl, Nat.le_of_ble_eq_true rfl⟩ (Nat.le_of_ble_eq_true rfl) (fun X' hX => KL_call hX)) rfl rfl rfl rfl ⟨Nat.le_of_ble_eq_true rfl, Nat.le_of_ble_eq_true rfl⟩ rfl hF (fun x108 h107 hF => ?_)
          refine jj_bipush (v := (-11 : Int32)) (pc' := 546) dL_refusesFilms_544 rfl rfl ?_
          refine jj_icmp_ne (tgt := 612) (pc' := 549) dL_refusesFilms_546 rfl rfl (fun hc hF => ?_) (fun hc hF => ?_) hF
          · skip
            refine jj_iconst (v := (0 : Int32)) (pc' := 613) dL_refusesFilms_612 rfl rfl ?_
            exact jj_retI (ty := .boolean) rfl rfl dL_refusesFilms_613 ⟨Nat.le_of_ble_eq_true rfl, Nat.le_of_ble_eq_true rfl⟩ hF
          · skip
            refine jj_aload_n (j := 0) (i := 0) (pc' := 550) dL_refusesFilms_549 rfl rfl rfl ?_
            refine jj_bipush (v := (23 : Int32)) (pc' := 552) dL_refusesFilms_550 rfl rfl ?_
            refine jj_iconst (v := (0 : Int32)) (pc' := 553) dL_refusesFilms_552 rfl rfl ?_
            refine jj_iconst (v := (0 : Int32)) (pc' := 554) dL_refusesFilms_553 rfl rfl ?_
            refine jj_iload (j := 3) (i := 4) (pc' := 556) dL_refusesFilms_554 rfl rfl ?_
            refine jj_lconst (v := (0 : Int64)) (pc' := 557) dL_refusesFilms_556 rfl rfl ?_
            refine jj_cI (N := M_L_call) (kc' := 1710) (ks' := 10260) (pc' := 560) (jg_H (N := M_L_call) (rest := []) (as := [.ref a0, .int ((23 : Int32)), .int ((0 : Int32)), .int ((0 : Int32)), .int x4, .long ((0 : Int64))]) cf_L_119 (by decide) dL_refusesFilms_557 rfl rfl ⟨Nat.le_of_ble_eq_true rfl, Nat.le_of_ble_eq_true rfl⟩ ⟨Nat.le_of_ble_eq_true rfl, Nat.le_of_ble_eq_true rfl⟩ (Nat.le_of_ble_eq_true rfl) (fun X' hX => KL_call hX)) rfl rfl rfl rfl ⟨Nat.le_of_ble_eq_true rfl, Nat.le_of_ble_eq_true rfl⟩ rfl hF (fun x110 h109 hF => ?_)
            refine jj_bipush (v := (-12 : Int32)) (pc' := 562) dL_refusesFilms_560 rfl rfl ?_
            refine jj_icmp_ne (tgt := 612) (pc' := 565) dL_refusesFilms_562 rfl rfl (fun hc hF => ?_) (fun hc hF => ?_) hF
            · skip
              refine jj_iconst (v := (0 : Int32)) (pc' := 613) dL_refusesFilms_612 rfl rfl ?_
              exact jj_retI (ty := .boolean) rfl rfl dL_refusesFilms_613 ⟨Nat.le_of_ble_eq_true rfl, Nat.le_of_ble_eq_true rfl⟩ hF
            · skip
              refine jj_aload_n (j := 0) (i := 0) (pc' := 566) dL_refusesFilms_565 rfl rfl rfl ?_
              refine jj_bipush (v := (24 : Int32)) (pc' := 568) dL_refusesFilms_566 rfl rfl ?_
              refine jj_iconst (v := (0 : Int32)) (pc' := 569) dL_refusesFilms_568 rfl rfl ?_
              refine jj_iload (j := 3) (i := 4) (pc' := 571) dL_refusesFilms_569 rfl rfl ?_
              refine jj_iconst (v := (0 : Int32)) (pc' := 572) dL_refusesFilms_571 rfl rfl ?_
              refine jj_lconst (v := (0 : Int64)) (pc' := 573) dL_refusesFilms_572 rfl rfl ?_
              refine jj_cI (N := M_L_call) (kc' := 1771) (ks' := 10626) (pc' := 576) (jg_H (N := M_L_call) (rest := []) (as := [.ref a0, .int ((24 : Int32)), .int ((0 : Int32)), .int x4, .int ((0 : Int32)), .long ((0 : Int64))]) cf_L_119 (by decide) dL_refusesFilms_573 rfl rfl ⟨Nat.le_of_ble_eq_true rfl, Nat.le_of_ble_eq_true rfl⟩ ⟨Nat.le_of_ble_eq_true rfl, Nat.le_of_ble_eq_true rfl⟩ (Nat.le_of_ble_eq_true rfl) (fun X' hX => KL_call hX)) rfl rfl rfl rfl ⟨Nat.le_of_ble_eq_true rfl, Nat.le_of_ble_eq_true rfl⟩ rfl hF (fun x112 h111 hF => ?_)
              refine jj_bipush (v := (-12 : Int32)) (pc' := 578) dL_refusesFilms_576 rfl rfl ?_
              refine jj_icmp_ne (tgt := 612) (pc' := 581) dL_refusesFilms_578 rfl rfl (fun hc hF => ?_) (fun hc hF => ?_) hF
              · skip
                refine jj_iconst (v := (0 : Int32)) (pc' := 613) dL_refusesFilms_612 rfl rfl ?_
                exact jj_retI (ty := .boolean) rfl rfl dL_refusesFilms_613 ⟨Nat.le_of_ble_eq_true rfl, Nat.le_of_ble_eq_true rfl⟩ hF
              · skip
                refine jj_aload_n (j := 0) (i := 0) (pc' := 582) dL_refusesFilms_581 rfl rfl rfl ?_
                refine jj_bipush (v := (25 : Int32)) (pc' := 584) dL_refusesFilms_582 rfl rfl ?_
                refine jj_iconst (v := (0 : Int32)) (pc' := 585) dL_refusesFilms_584 rfl rfl ?_
                refine jj_iload_n (j := 2) (i := 3) (pc' := 586) dL_refusesFilms_585 rfl rfl rfl ?_
                refine jj_iconst (v := (-1 : Int32)) (pc' := 587) dL_refusesFilms_586 rfl rfl ?_
                refine jj_lconst (v := (0 : Int64)) (pc' := 588) dL_refusesFilms_587 rfl rfl ?_
                refine jj_cI (N := M_L_call) (kc' := 1832) (ks' := 10992) (pc' := 591) (jg_H (N := M_L_call) (rest := []) (as := [.ref a0, .int ((25 : Int32)), .int ((0 : Int32)), .int x3, .int ((-1 : Int32)), .long ((0 : Int64))]) cf_L_119 (by decide) dL_refusesFilms_588 rfl rfl ⟨Nat.le_of_ble_eq_true rfl, Nat.le_of_ble_eq_true rfl⟩ ⟨Nat.le_of_ble_eq_true rfl, Nat.le_of_ble_eq_true rfl⟩ (Nat.le_of_ble_eq_true rfl) (fun X' hX => KL_call hX)) rfl rfl rfl rfl ⟨Nat.le_of_ble_eq_true rfl, Nat.le_of_ble_eq_true rfl⟩ rfl hF (fun x114 h113 hF => ?_)
                refine jj_bipush (v := (-11 : Int32)) (pc' := 593) dL_refusesFilms_591 rfl rfl ?_
                refine jj_icmp_ne (tgt := 612) (pc' := 596) dL_refusesFilms_593 rfl rfl (fun hc hF => ?_) (fun hc hF => ?_) hF
                · skip
                  refine jj_iconst (v := (0 : Int32)) (pc' := 613) dL_refusesFilms_612 rfl rfl ?_
                  exact jj_retI (ty := .boolean) rfl rfl dL_refusesFilms_613 ⟨Nat.le_of_ble_eq_true rfl, Nat.le_of_ble_eq_true rfl⟩ hF
                · skip
                  refine jj_aload_n (j := 0) (i := 0) (pc' := 597) dL_refusesFilms_596 rfl rfl rfl ?_
                  refine jj_bipush (v := (25 : Int32)) (pc' := 599) dL_refusesFilms_597 rfl rfl ?_
                  refine jj_iconst (v := (0 : Int32)) (pc' := 600) dL_refusesFilms_599 rfl rfl ?_
                  refine jj_iconst (v := (1 : Int32)) (pc' := 601) dL_refusesFilms_600 rfl rfl ?_
                  refine jj_iload (j := 3) (i := 4) (pc' := 603) dL_refusesFilms_601 rfl rfl ?_
                  refine jj_lconst (v := (0 : Int64)) (pc' := 604) dL_refusesFilms_603 rfl rfl ?_
                  refine jj_cI (N := M_L_call) (kc' := 1893) (ks' := 11358) (pc' := 607) (jg_H (N := M_L_call) (rest := []) (as := [.ref a0, .int ((25 : Int32)), .int ((0 : Int32)), .int ((1 : Int32)), .int x4, .long ((0 : Int64))]) cf_L_119 (by decide) dL_refusesFilms_604 rfl rfl ⟨Nat.le_of_ble_eq_true rfl, Nat.le_of_ble_eq_true rfl⟩ ⟨Nat.le_of_ble_eq_true rfl, Nat.le_of_ble_eq_true rfl⟩ (Nat.le_of_ble_eq_true rfl) (fun X' hX => KL_call hX)) rfl rfl rfl rfl ⟨Nat.le_of_ble_eq_true rfl, Nat.le_of_ble_eq_true rfl⟩ rfl hF (fun x116 h115 hF => ?_)
                  refine jj_bipush (v := (-12 : Int32)) (pc' := 609) dL_refusesFilms_607 rfl rfl ?_
                  refine jj_icmp_eq (tgt := 614) (pc' := 612) dL_refusesFilms_609 rfl rfl (fun hc hF => ?_) (fun hc hF => ?_) hF
                  · skip
                    refine jj_wide (kc' := 1893) (ks' := 11358) (Nat.le_of_ble_eq_true rfl) (Nat.le_of_ble_eq_true rfl) ?_
                    exact jj_pick [0, 1, 2, 3] rfl (BL_refusesFilms_614 N N a0 x1 x3 x4 h115 _ hF)
                  · skip
                    refine jj_iconst (v := (0 : Int32)) (pc' := 613) dL_refusesFilms_612 rfl rfl ?_
                    exact jj_retI (ty := .boolean) rfl rfl dL_refusesFilms_613 ⟨Nat.le_of_ble_eq_true rfl, Nat.le_of_ble_eq_true rfl⟩ hF
set_option maxRecDepth 100000 in
set_option maxHeartbeats 4000000 in
theorem BL_refusesFilms_317 (N : Nat) : ∀ (n : Nat) (a0 : Nat) (x1 : Int32) (x3 : Int32) (x4 : Int32) (h : jm_H) (X : jm_X), FL_refusesFilms_317 N n a0 x1 x3 x4 h = some X → jm_J M_L_refusesFilms 317 [(0, .ref a0), (1, .int x1), (3, .int x3), (4, .int x4)] [] h 977 5862 X := by
  intro n
  induction n with
  | zero =>
    intro a0 x1 x3 x4 h X hF
    exact nomatch (show (none : Option jm_X) = some X from hF)
  | succ n ih =>
    intro a0 x1 x3 x4 h X hF
    rw [FL_refusesFilms_317] at hF
    refine jj_aload_n (j := 0) (i := 0) (pc' := 318) dL_refusesFilms_317 rfl rfl rfl ?_
    refine jj_iconst (v := (0 : Int32)) (pc' := 319) dL_refusesFilms_318 rfl rfl ?_
    refine jj_cI (N := M_X3_count) (kc' := 978) (ks' := 5868) (pc' := 322) (jg_V (N := M_X3_count) (ci := 3) (rest := []) (as := [.int ((0 : Int32))]) cf_L_81 dL_refusesFilms_319 ⟨rfl, rfl⟩ rfl rfl ⟨Nat.le_of_ble_eq_true rfl, Nat.le_of_ble_eq_true rfl⟩ ⟨Nat.le_of_ble_eq_true rfl, Nat.le_of_ble_eq_true rfl⟩ (Nat.le_of_ble_eq_true rfl) (fun X' hX => KX3_count hX)) rfl rfl rfl rfl ⟨Nat.le_of_ble_eq_true rfl, Nat.le_of_ble_eq_true rfl⟩ rfl hF (fun x102 h101 hF => ?_)
    refine jj_if_le (tgt := 614) (pc' := 325) dL_refusesFilms_322 rfl rfl (fun hc hF => ?_) (fun hc hF => ?_) hF
    · skip
      refine jj_wide (kc' := 1893) (ks' := 11358) (Nat.le_of_ble_eq_true rfl) (Nat.le_of_ble_eq_true rfl) ?_
      exact jj_pick [0, 1, 2, 3] rfl (BL_refusesFilms_614 N N a0 x1 x3 x4 h101 _ hF)
    · skip
      refine jj_aload_n (j := 0) (i := 0) (pc' := 326) dL_refusesFilms_325 rfl rfl rfl ?_
      refine jj_iconst (v := (3 : Int32)) (pc' := 327) dL_refusesFilms_326 rfl rfl ?_
      refine jj_iconst (v := (0 : Int32)) (pc' := 328) dL_refusesFilms_327 rfl rfl ?_
      refine jj_iload_n (j := 2) (i := 3) (pc' := 329) dL_refusesFilms_328 rfl rfl rfl ?_
      refine jj_iconst (v := (-1 : Int32)) (pc' := 330) dL_refusesFilms_329 rfl rfl ?_
      refine jj_ldc2l (v := (500 : Int64)) (pc' := 333) dL_refusesFilms_330 qw_78 rfl ?_
      refine jj_cI (N := M_L_call) (kc' := 1039) (ks' := 6234) (pc' := 336) (jg_H (N := M_L_call) (rest := []) (as := [.ref a0, .int ((3 : Int32)), .int ((0 : Int32)), .int x3, .int ((-1 : Int32)), .long ((500 : Int64))]) cf_L_119 (by decide) dL_refusesFilms_333 rfl rfl ⟨Nat.le_of_ble_eq_true rfl, Nat.le_of_ble_eq_true rfl⟩ ⟨Nat.le_of_ble_eq_true rfl, Nat.le_of_ble_eq_true rfl⟩ (Nat.le_of_ble_eq_true rfl) (fun X' hX => KL_call hX)) rfl rfl rfl rfl ⟨Nat.le_of_ble_eq_true rfl, Nat.le_of_ble_eq_true rfl⟩ rfl hF (fun x104 h103 hF => ?_)
      refine jj_bipush (v := (-11 : Int32)) (pc' := 338) dL_refusesFilms_336 rfl rfl ?_
      refine jj_icmp_ne (tgt := 612) (pc' := 341) dL_refusesFilms_338 rfl rfl (fun hc hF => ?_) (fun hc hF => ?_) hF
      · skip
        refine jj_iconst (v := (0 : Int32)) (pc' := 613) dL_refusesFilms_612 rfl rfl ?_
        exact jj_retI (ty := .boolean) rfl rfl dL_refusesFilms_613 ⟨Nat.le_of_ble_eq_true rfl, Nat.le_of_ble_eq_true rfl⟩ hF
      · skip
        refine jj_aload_n (j := 0) (i := 0) (pc' := 342) dL_refusesFilms_341 rfl rfl rfl ?_
        refine jj_iconst (v := (3 : Int32)) (pc' := 343) dL_refusesFilms_342 rfl rfl ?_
        refine jj_iconst (v := (0 : Int32)) (pc' := 344) dL_refusesFilms_343 rfl rfl ?_
        refine jj_iconst (v := (0 : Int32)) (pc' := 345) dL_refusesFilms_344 rfl rfl ?_
        refine jj_iload (j := 3) (i := 4) (pc' := 347) dL_refusesFilms_345 rfl rfl ?_
        refine jj_ldc2l (v := (500 : Int64)) (pc' := 350) dL_refusesFilms_347 qw_78 rfl ?_
        refine jj_cI (N := M_L_call) (kc' := 1100) (ks' := 6600) (pc' := 353) (jg_H (N := M_L_call) (rest := []) (as := [.ref a0, .int ((3 : Int32)), .int ((0 : Int32)), .int ((0 : Int32)), .int x4, .long ((500 : Int64))]) cf_L_119 (by decide) dL_refusesFilms_350 rfl rfl ⟨Nat.le_of_ble_eq_true rfl, Nat.le_of_ble_eq_true rfl⟩ ⟨Nat.le_of_ble_eq_true rfl, Nat.le_of_ble_eq_true rfl⟩ (Nat.le_of_ble_eq_true rfl) (fun X' hX => KL_call hX)) rfl rfl rfl rfl ⟨Nat.le_of_ble_eq_true rfl, Nat.le_of_ble_eq_true rfl⟩ rfl hF (fun x106 h105 hF => ?_)
        refine jj_bipush (v := (-12 : Int32)) (pc' := 355) dL_refusesFilms_353 rfl rfl ?_
        refine jj_icmp_ne (tgt := 612) (pc' := 358) dL_refusesFilms_355 rfl rfl (fun hc hF => ?_) (fun hc hF => ?_) hF
        · skip
          refine jj_iconst (v := (0 : Int32)) (pc' := 613) dL_refusesFilms_612 rfl rfl ?_
          exact jj_retI (ty := .boolean) rfl rfl dL_refusesFilms_613 ⟨Nat.le_of_ble_eq_true rfl, Nat.le_of_ble_eq_true rfl⟩ hF
        · skip
          refine jj_aload_n (j := 0) (i := 0) (pc' := 359) dL_refusesFilms_358 rfl rfl rfl ?_
          refine jj_iconst (v := (3 : Int32)) (pc' := 360) dL_refusesFilms_359 rfl rfl ?_
          refine jj_iconst (v := (0 : Int32)) (pc' := 361) dL_refusesFilms_360 rfl rfl ?_
          refine jj_iconst (v := (0 : Int32)) (pc' := 362) dL_refusesFilms_361 rfl rfl ?_
          refine jj_iconst (v := (0 : Int32)) (pc' := 363) dL_refusesFilms_362 rfl rfl ?_
          refine jj_iload_n (j := 1) (i := 1) (pc' := 364) dL_refusesFilms_363 rfl rfl rfl ?_
          refine jj_if_ne (tgt := 373) (pc' := 367) dL_refusesFilms_364 rfl rfl (fun hc hF => ?_) (fun hc hF => ?_) hF
          · skip
            refine jj_ldc2l (v := (521 : Int64)) (pc' := 376) dL_refusesFilms_373 qw_79 rfl ?_
            refine jj_cI (N := M_L_call) (kc' := 1161) (ks' := 6966) (pc' := 379) (jg_H (N := M_L_call) (rest := []) (as := [.ref a0, .int ((3 : Int32)), .int ((0 : Int32)), .int ((0 : Int32)), .int ((0 : Int32)), .long ((521 : Int64))]) cf_L_119 (by decide) dL_refusesFilms_376 rfl rfl ⟨Nat.le_of_ble_eq_true rfl, Nat.le_of_ble_eq_true rfl⟩ ⟨Nat.le_of_ble_eq_true rfl, Nat.le_of_ble_eq_true rfl⟩ (Nat.le_of_ble_eq_true rfl) (fun X' hX => KL_call hX)) rfl rfl rfl rfl ⟨Nat.le_of_ble_eq_true rfl, Nat.le_of_ble_eq_true rfl⟩ rfl hF (fun x108 h107 hF => ?_)
            refine jj_bipush (v := (-12 : Int32)) (pc' := 381) dL_refusesFilms_379 rfl rfl ?_
            refine jj_icmp_ne (tgt := 612) (pc' := 384) dL_refusesFilms_381 rfl rfl (fun hc hF => ?_) (fun hc hF => ?_) hF
            · skip
              refine jj_iconst (v := (0 : Int32)) (pc' := 613) dL_refusesFilms_612 rfl rfl ?_
              exact jj_retI (ty := .boolean) rfl rfl dL_refusesFilms_613 ⟨Nat.le_of_ble_eq_true rfl, Nat.le_of_ble_eq_true rfl⟩ hF
            · skip
              refine jj_aload_n (j := 0) (i := 0) (pc' := 385) dL_refusesFilms_384 rfl rfl rfl ?_
              refine jj_bipush (v := (6 : Int32)) (pc' := 387) dL_refusesFilms_385 rfl rfl ?_
              refine jj_iconst (v := (0 : Int32)) (pc' := 388) dL_refusesFilms_387 rfl rfl ?_
              refine jj_iload (j := 3) (i := 4) (pc' := 390) dL_refusesFilms_388 rfl rfl ?_
              refine jj_sipush (v := (2000 : Int32)) (pc' := 393) dL_refusesFilms_390 rfl rfl ?_
              refine jj_lconst (v := (0 : Int64)) (pc' := 394) dL_refusesFilms_393 rfl rfl ?_
              refine jj_cI (N := M_L_call) (kc' := 1222) (ks' := 7332) (pc' := 397) (jg_H (N := M_L_call) (rest := []) (as := [.ref a0, .int ((6 : Int32)), .int ((0 : Int32)), .int x4, .int ((2000 : Int32)), .long ((0 : Int64))]) cf_L_119 (by decide) dL_refusesFilms_394 rfl rfl ⟨Nat.le_of_ble_eq_true rfl, Nat.le_of_ble_eq_true rfl⟩ ⟨Nat.le_of_ble_eq_true rfl, Nat.le_of_ble_eq_true rfl⟩ (Nat.le_of_ble_eq_true rfl) (fun X' hX => KL_call hX)) rfl rfl rfl rfl ⟨Nat.le_of_ble_eq_true rfl, Nat.le_of_ble_eq_true rfl⟩ rfl hF (fun x110 h109 hF => ?_)
              refine jj_bipush (v := (-12 : Int32)) (pc' := 399) dL_refusesFilms_397 rfl rfl ?_
              refine jj_icmp_ne (tgt := 612) (pc' := 402) dL_refusesFilms_399 rfl rfl (fun hc hF => ?_) (fun hc hF => ?_) hF
              · skip
                refine jj_iconst (v := (0 : Int32)) (pc' := 613) dL_refusesFilms_612 rfl rfl ?_
                exact jj_retI (ty := .boolean) rfl rfl dL_refusesFilms_613 ⟨Nat.le_of_ble_eq_true rfl, Nat.le_of_ble_eq_true rfl⟩ hF
              · skip
                refine jj_aload_n (j := 0) (i := 0) (pc' := 403) dL_refusesFilms_402 rfl rfl rfl ?_
                refine jj_bipush (v := (6 : Int32)) (pc' := 405) dL_refusesFilms_403 rfl rfl ?_
                refine jj_iconst (v := (0 : Int32)) (pc' := 406) dL_refusesFilms_405 rfl rfl ?_
                refine jj_sipush (v := (700 : Int32)) (pc' := 409) dL_refusesFilms_406 rfl rfl ?_
                refine jj_iload_n (j := 1) (i := 1) (pc' := 410) dL_refusesFilms_409 rfl rfl rfl ?_
                refine jj_if_ne (tgt := 419) (pc' := 413) dL_refusesFilms_410 rfl rfl (fun hc hF => ?_) (fun hc hF => ?_) hF
                · skip
                  refine jj_iload_n (j := 1) (i := 1) (pc' := 420) dL_refusesFilms_419 rfl rfl rfl ?_
                  refine jj_iconst (v := (1 : Int32)) (pc' := 421) dL_refusesFilms_420 rfl rfl ?_
                  refine jj_icmp_ne (tgt := 430) (pc' := 424) dL_refusesFilms_421 rfl rfl (fun hc hF => ?_) (fun hc hF => ?_) hF
                  · skip
                    refine jj_iload_n (j := 1) (i := 1) (pc' := 431) dL_refusesFilms_430 rfl rfl rfl ?_
                    refine jj_iconst (v := (0 : Int32)) (pc' := 432) dL_refusesFilms_431 rfl rfl ?_
                    refine jj_iconst (v := (0 : Int32)) (pc' := 433) dL_refusesFilms_432 rfl rfl ?_
                    refine jj_cI (N := M_L_far) (kc' := 1222) (ks' := 7332) (pc' := 436) (jg_S (N := M_L_far) (rest := [.int ((700 : Int32)), .int ((0 : Int32)), .int ((6 : Int32)), .ref a0]) (as := [.int x1, .int ((0 : Int32)), .int ((0 : Int32))]) cf_L_114 rfl dL_refusesFilms_433 rfl rfl ⟨Nat.le_of_ble_eq_true rfl, Nat.le_of_ble_eq_true rfl⟩ ⟨Nat.le_of_ble_eq_true rfl, Nat.le_of_ble_eq_true rfl⟩ (Nat.le_of_ble_eq_true rfl) (fun X' hX => KL_far hX)) rfl rfl rfl rfl ⟨Nat.le_of_ble_eq_true rfl, Nat.le_of_ble_eq_true rfl⟩ rfl hF (fun x112 h111 hF => ?_)
                    refine jj_lconst (v := (0 : Int64)) (pc' := 437) dL_refusesFilms_436 rfl rfl ?_
                    refine jj_cI (N := M_L_call) (kc' := 1283) (ks' := 7698) (pc' := 440) (jg_H (N := M_L_call) (rest := []) (as := [.ref a0, .int ((6 : Int32)), .int ((0 : Int32)), .int ((700 : Int32)), .int x112, .long ((0 : Int64))]) cf_L_119 (by decide) dL_refusesFilms_437 rfl rfl ⟨Nat.le_of_ble_eq_true rfl, Nat.le_of_ble_eq_true rfl⟩ ⟨Nat.le_of_ble_eq_true rfl, Nat.le_of_ble_eq_true rfl⟩ (Nat.le_of_ble_eq_true rfl) (fun X' hX => KL_call hX)) rfl rfl rfl rfl ⟨Nat.le_of_ble_eq_true rfl, Nat.le_of_ble_eq_true rfl⟩ rfl hF (fun x114 h113 hF => ?_)
                    refine jj_bipush (v := (-12 : Int32)) (pc' := 442) dL_refusesFilms_440 rfl rfl ?_
                    refine jj_icmp_ne (tgt := 612) (pc' := 445) dL_refusesFilms_442 rfl rfl (fun hc hF => ?_) (fun hc hF => ?_) hF
                    · skip
                      refine jj_iconst (v := (0 : Int32)) (pc' := 613) dL_refusesFilms_612 rfl rfl ?_
                      exact jj_retI (ty := .boolean) rfl rfl dL_refusesFilms_613 ⟨Nat.le_of_ble_eq_true rfl, Nat.le_of_ble_eq_true rfl⟩ hF
                    · skip
                      refine jj_aload_n (j := 0) (i := 0) (pc' := 446) dL_refusesFilms_445 rfl rfl rfl ?_
                      refine jj_bipush (v := (14 : Int32)) (pc' := 448) dL_refusesFilms_446 rfl rfl ?_
                      refine jj_iconst (v := (0 : Int32)) (pc' := 449) dL_refusesFilms_448 rfl rfl ?_
                      refine jj_iload_n (j := 1) (i := 1) (pc' := 450) dL_refusesFilms_449 rfl rfl rfl ?_
                      refine jj_iconst (v := (0 : Int32)) (pc' := 451) dL_refusesFilms_450 rfl rfl ?_
                      refine jj_iconst (v := (5 : Int32)) (pc' := 452) dL_refusesFilms_451 rfl rfl ?_
                      refine jj_cI (N := M_L_far) (kc' := 1283) (ks' := 7698) (pc' := 455) (jg_S (N := M_L_far) (rest := [.int ((0 : Int32)), .int ((14 : Int32)), .ref a0]) (as := [.int x1, .int ((0 : Int32)), .int ((5 : Int32))]) cf_L_114 rfl dL_refusesFilms_452 rfl rfl ⟨Nat.le_of_ble_eq_true rfl, Nat.le_of_ble_eq_true rfl⟩ ⟨Nat.le_of_ble_eq_true rfl, Nat.le_of_ble_eq_true rfl⟩ (Nat.le_of_ble_eq_true rfl) (fun X' hX => KL_far hX)) rfl rfl rfl rfl ⟨Nat.le_of_ble_eq_true rfl, Nat.le_of_ble_eq_true rfl⟩ rfl hF (fun x116 h115 hF => ?_)
                      refine jj_iconst (v := (0 : Int32)) (pc' := 456) dL_refusesFilms_455 rfl rfl ?_
                      refine jj_lconst (v := (0 : Int64)) (pc' := 457) dL_refusesFilms_456 rfl rfl ?_
                      refine jj_cI (N := M_L_call) (kc' := 1344) (ks' := 8064) (pc' := 460) (jg_H (N := M_L_call) (rest := []) (as := [.ref a0, .int ((14 : Int32)), .int ((0 : Int32)), .int x116, .int ((0 : Int32)), .long ((0 : Int64))]) cf_L_119 (by decide) dL_refusesFilms_457 rfl rfl ⟨Nat.le_of_ble_eq_true rfl, Nat.le_of_ble_eq_true rfl⟩ ⟨Nat.le_of_ble_eq_true rfl, Nat.le_of_ble_eq_true rfl⟩ (Nat.le_of_ble_eq_true rfl) (fun X' hX => KL_call hX)) rfl rfl rfl rfl ⟨Nat.le_of_ble_eq_true rfl, Nat.le_of_ble_eq_true rfl⟩ rfl hF (fun x118 h117 hF => ?_)
                      refine jj_bipush (v := (-12 : Int32)) (pc' := 462) dL_refusesFilms_460 rfl rfl ?_
                      refine jj_icmp_ne (tgt := 612) (pc' := 465) dL_refusesFilms_462 rfl rfl (fun hc hF => ?_) (fun hc hF => ?_) hF
                      · skip
                        refine jj_iconst (v := (0 : Int32)) (pc' := 613) dL_refusesFilms_612 rfl rfl ?_
                        exact jj_retI (ty := .boolean) rfl rfl dL_refusesFilms_613 ⟨Nat.le_of_ble_eq_true rfl, Nat.le_of_ble_eq_true rfl⟩ hF
                      · skip
                        refine jj_aload_n (j := 0) (i := 0) (pc' := 466) dL_refusesFilms_465 rfl rfl rfl ?_
                        refine jj_bipush (v := (22 : Int32)) (pc' := 468) dL_refusesFilms_466 rfl rfl ?_
                        refine jj_iconst (v := (0 : Int32)) (pc' := 469) dL_refusesFilms_468 rfl rfl ?_
                        refine jj_iload_n (j := 2) (i := 3) (pc' := 470) dL_refusesFilms_469 rfl rfl rfl ?_
                        refine jj_iconst (v := (-1 : Int32)) (pc' := 471) dL_refusesFilms_470 rfl rfl ?_
                        refine jj_ldc2l (v := (500 : Int64)) (pc' := 474) dL_refusesFilms_471 qw_78 rfl ?_
                        refine jj_cI (N := M_L_call) (kc' := 1405) (ks' := 8430) (pc' := 477) (jg_H (N := M_L_call) (rest := []) (as := [.ref a0, .int ((22 : Int32)), .int ((0 : Int32)), .int x3, .int ((-1 : Int32)), .long ((500 : Int64))]) cf_L_119 (by decide) dL_refusesFilms_474 rfl rfl ⟨Nat.le_of_ble_eq_true rfl, Nat.le_of_ble_eq_true rfl⟩ ⟨Nat.le_of_ble_eq_true rfl, Nat.le_of_ble_eq_true rfl⟩ (Nat.le_of_ble_eq_true rfl) (fun X' hX => KL_call hX)) rfl rfl rfl rfl ⟨Nat.le_of_ble_eq_true rfl, Nat.le_of_ble_eq_true rfl⟩ rfl hF (fun x120 h119 hF => ?_)
                        refine jj_bipush (v := (-11 : Int32)) (pc' := 479) dL_refusesFilms_477 rfl rfl ?_
                        refine jj_icmp_ne (tgt := 612) (pc' := 482) dL_refusesFilms_479 rfl rfl (fun hc hF => ?_) (fun hc hF => ?_) hF
                        · skip
                          refine jj_iconst (v := (0 : Int32)) (pc' := 613) dL_refusesFilms_612 rfl rfl ?_
                          exact jj_retI (ty := .boolean) rfl rfl dL_refusesFilms_613 ⟨Nat.le_of_ble_eq_true rfl, Nat.le_of_ble_eq_true rfl⟩ hF
                        · skip
                          refine jj_wide (kc' := 1405) (ks' := 8430) (Nat.le_of_ble_eq_true rfl) (Nat.le_of_ble_eq_true rfl) ?_
                          exact jj_pick [0, 1, 2, 3] rfl (BL_refusesFilms_482 N N a0 x1 x3 x4 h119 _ hF)
                  · skip
                    refine jj_sipush (v := (2001 : Int32)) (pc' := 427) dL_refusesFilms_424 rfl rfl ?_
                    refine jj_goto (tgt := 436) dL_refusesFilms_427 rfl ?_
                    refine jj_lconst (v := (0 : Int64)) (pc' := 437) dL_refusesFilms_436 rfl rfl ?_
                    refine jj_cI (N := M_L_call) (kc' := 1283) (ks' := 7698) (pc' := 440) (jg_H (N := M_L_call) (rest := []) (as := [.ref a0, .int ((6 : Int32)), .int ((0 : Int32)), .int ((700 : Int32)), .int ((2001 : Int32)), .long ((0 : Int64))]) cf_L_119 (by decide) dL_refusesFilms_437 rfl rfl ⟨Nat.le_of_ble_eq_true rfl, Nat.le_of_ble_eq_true rfl⟩ ⟨Nat.le_of_ble_eq_true rfl, Nat.le_of_ble_eq_true rfl⟩ (Nat.le_of_ble_eq_true rfl) (fun X' hX => KL_call hX)) rfl rfl rfl rfl ⟨Nat.le_of_ble_eq_true rfl, Nat.le_of_ble_eq_true rfl⟩ rfl hF (fun x122 h121 hF => ?_)
                    refine jj_bipush (v := (-12 : Int32)) (pc' := 442) dL_refusesFilms_440 rfl rfl ?_
                    refine jj_icmp_ne (tgt := 612) (pc' := 445) dL_refusesFilms_442 rfl rfl (fun hc hF => ?_) (fun hc hF => ?_) hF
                    · skip
                      refine jj_iconst (v := (0 : Int32)) (pc' := 613) dL_refusesFilms_612 rfl rfl ?_
                      exact jj_retI (ty := .boolean) rfl rfl dL_refusesFilms_613 ⟨Nat.le_of_ble_eq_true rfl, Nat.le_of_ble_eq_true rfl⟩ hF
                    · skip
                      refine jj_aload_n (j := 0) (i := 0) (pc' := 446) dL_refusesFilms_445 rfl rfl rfl ?_
                      refine jj_bipush (v := (14 : Int32)) (pc' := 448) dL_refusesFilms_446 rfl rfl ?_
                      refine jj_iconst (v := (0 : Int32)) (pc' := 449) dL_refusesFilms_448 rfl rfl ?_
                      refine jj_iload_n (j := 1) (i := 1) (pc' := 450) dL_refusesFilms_449 rfl rfl rfl ?_
                      refine jj_iconst (v := (0 : Int32)) (pc' := 451) dL_refusesFilms_450 rfl rfl ?_
                      refine jj_iconst (v := (5 : Int32)) (pc' := 452) dL_refusesFilms_451 rfl rfl ?_
                      refine jj_cI (N := M_L_far) (kc' := 1283) (ks' := 7698) (pc' := 455) (jg_S (N := M_L_far) (rest := [.int ((0 : Int32)), .int ((14 : Int32)), .ref a0]) (as := [.int x1, .int ((0 : Int32)), .int ((5 : Int32))]) cf_L_114 rfl dL_refusesFilms_452 rfl rfl ⟨Nat.le_of_ble_eq_true rfl, Nat.le_of_ble_eq_true rfl⟩ ⟨Nat.le_of_ble_eq_true rfl, Nat.le_of_ble_eq_true rfl⟩ (Nat.le_of_ble_eq_true rfl) (fun X' hX => KL_far hX)) rfl rfl rfl rfl ⟨Nat.le_of_ble_eq_true rfl, Nat.le_of_ble_eq_true rfl⟩ rfl hF (fun x124 h123 hF => ?_)
                      refine jj_iconst (v := (0 : Int32)) (pc' := 456) dL_refusesFilms_455 rfl rfl ?_
                      refine jj_lconst (v := (0 : Int64)) (pc' := 457) dL_refusesFilms_456 rfl rfl ?_
                      refine jj_cI (N := M_L_call) (kc' := 1344) (ks' := 8064) (pc' := 460) (jg_H (N := M_L_call) (rest := []) (as := [.ref a0, .int ((14 : Int32)), .int ((0 : Int32)), .int x124, .int ((0 : Int32)), .long ((0 : Int64))]) cf_L_119 (by decide) dL_refusesFilms_457 rfl rfl ⟨Nat.le_of_ble_eq_true rfl, Nat.le_of_ble_eq_true rfl⟩ ⟨Nat.le_of_ble_eq_true rfl, Nat.le_of_ble_eq_true rfl⟩ (Nat.le_of_ble_eq_true rfl) (fun X' hX => KL_call hX)) rfl rfl rfl rfl ⟨Nat.le_of_ble_eq_true rfl, Nat.le_of_ble_eq_true rfl⟩ rfl hF (fun x126 h125 hF => ?_)
                      refine jj_bipush (v := (-12 : Int32)) (pc' := 462) dL_refusesFilms_460 rfl rfl ?_
                      refine jj_icmp_ne (tgt := 612) (pc' := 465) dL_refusesFilms_462 rfl rfl (fun hc hF => ?_) (fun hc hF => ?_) hF
                      · skip
                        refine jj_iconst (v := (0 : Int32)) (pc' := 613) dL_refusesFilms_612 rfl rfl ?_
                        exact jj_retI (ty := .boolean) rfl rfl dL_refusesFilms_613 ⟨Nat.le_of_ble_eq_true rfl, Nat.le_of_ble_eq_true rfl⟩ hF
                      · skip
                        refine jj_aload_n (j := 0) (i := 0) (pc' := 466) dL_refusesFilms_465 rfl rfl rfl ?_
                        refine jj_bipush (v := (22 : Int32)) (pc' := 468) dL_refusesFilms_466 rfl rfl ?_
                        refine jj_iconst (v := (0 : Int32)) (pc' := 469) dL_refusesFilms_468 rfl rfl ?_
                        refine jj_iload_n (j := 2) (i := 3) (pc' := 470) dL_refusesFilms_469 rfl rfl rfl ?_
                        refine jj_iconst (v := (-1 : Int32)) (pc' := 471) dL_refusesFilms_470 rfl rfl ?_
                        refine jj_ldc2l (v := (500 : Int64)) (pc' := 474) dL_refusesFilms_471 qw_78 rfl ?_
                        refine jj_cI (N := M_L_call) (kc' := 1405) (ks' := 8430) (pc' := 477) (jg_H (N := M_L_call) (rest := []) (as := [.ref a0, .int ((22 : Int32)), .int ((0 : Int32)), .int x3, .int ((-1 : Int32)), .long ((500 : Int64))]) cf_L_119 (by decide) dL_refusesFilms_474 rfl rfl ⟨Nat.le_of_ble_eq_true rfl, Nat.le_of_ble_eq_true rfl⟩ ⟨Nat.le_of_ble_eq_true rfl, Nat.le_of_ble_eq_true rfl⟩ (Nat.le_of_ble_eq_true rfl) (fun X' hX => KL_call hX)) rfl rfl rfl rfl ⟨Nat.le_of_ble_eq_true rfl, Nat.le_of_ble_eq_true rfl⟩ rfl hF (fun x128 h127 hF => ?_)
                        refine jj_bipush (v := (-11 : Int32)) (pc' := 479) dL_refusesFilms_477 rfl rfl ?_
                        refine jj_icmp_ne (tgt := 612) (pc' := 482) dL_refusesFilms_479 rfl rfl (fun hc hF => ?_) (fun hc hF => ?_) hF
                        · skip
                          refine jj_iconst (v := (0 : Int32)) (pc' := 613) dL_refusesFilms_612 rfl rfl ?_
                          exact jj_retI (ty := .boolean) rfl rfl dL_refusesFilms_613 ⟨Nat.le_of_ble_eq_true rfl, Nat.le_of_ble_eq_true rfl⟩ hF
                        · skip
                          refine jj_wide (kc' := 1405) (ks' := 8430) (Nat.le_of_ble_eq_true rfl) (Nat.le_of_ble_eq_true rfl) ?_
                          exact jj_pick [0, 1, 2, 3] rfl (BL_refusesFilms_482 N N a0 x1 x3 x4 h127 _ hF)
                · skip
                  refine jj_sipush (v := (700 : Int32)) (pc' := 416) dL_refusesFilms_413 rfl rfl ?_
                  refine jj_goto (tgt := 436) dL_refusesFilms_416 rfl ?_
                  refine jj_lconst (v := (0 : Int64)) (pc' := 437) dL_refusesFilms_436 rfl rfl ?_
                  refine jj_cI (N := M_L_call) (kc' := 1283) (ks' := 7698) (pc' := 440) (jg_H (N := M_L_call) (rest := []) (as := [.ref a0, .int ((6 : Int32)), .int ((0 : Int32)), .int ((700 : Int32)), .int ((700 : Int32)), .long ((0 : Int64))]) cf_L_119 (by decide) dL_refusesFilms_437 rfl rfl ⟨Nat.le_of_ble_eq_true rfl, Nat.le_of_ble_eq_true rfl⟩ ⟨Nat.le_of_ble_eq_true rfl, Nat.le_of_ble_eq_true rfl⟩ (Nat.le_of_ble_eq_true rfl) (fun X' hX => KL_call hX)) rfl rfl rfl rfl ⟨Nat.le_of_ble_eq_true rfl, Nat.le_of_ble_eq_true rfl⟩ rfl hF (fun x130 h129 hF => ?_)
                  refine jj_bipush (v := (-12 : Int32)) (pc' := 442) dL_refusesFilms_440 rfl rfl ?_
                  refine jj_icmp_ne (tgt := 612) (pc' := 445) dL_refusesFilms_442 rfl rfl (fun hc hF => ?_) (fun hc hF => ?_) hF
                  · skip
                    refine jj_iconst (v := (0 : Int32)) (pc' := 613) dL_refusesFilms_612 rfl rfl ?_
                    exact jj_retI (ty := .boolean) rfl rfl dL_refusesFilms_613 ⟨Nat.le_of_ble_eq_true rfl, Nat.le_of_ble_eq_true rfl⟩ hF
                  · skip
                    refine jj_aload_n (j := 0) (i := 0) (pc' := 446) dL_refusesFilms_445 rfl rfl rfl ?_
                    refine jj_bipush (v := (14 : Int32)) (pc' := 448) dL_refusesFilms_446 rfl rfl ?_
                    refine jj_iconst (v := (0 : Int32)) (pc' := 449) dL_refusesFilms_448 rfl rfl ?_
                    refine jj_iload_n (j := 1) (i := 1) (pc' := 450) dL_refusesFilms_449 rfl rfl rfl ?_
                    refine jj_iconst (v := (0 : Int32)) (pc' := 451) dL_refusesFilms_450 rfl rfl ?_
                    refine jj_iconst (v := (5 : Int32)) (pc' := 452) dL_refusesFilms_451 rfl rfl ?_
                    refine jj_cI (N := M_L_far) (kc' := 1283) (ks' := 7698) (pc' := 455) (jg_S (N := M_L_far) (rest := [.int ((0 : Int32)), .int ((14 : Int32)), .ref a0]) (as := [.int x1, .int ((0 : Int32)), .int ((5 : Int32))]) cf_L_114 rfl dL_refusesFilms_452 rfl rfl ⟨Nat.le_of_ble_eq_true rfl, Nat.le_of_ble_eq_true rfl⟩ ⟨Nat.le_of_ble_eq_true rfl, Nat.le_of_ble_eq_true rfl⟩ (Nat.le_of_ble_eq_true rfl) (fun X' hX => KL_far hX)) rfl rfl rfl rfl ⟨Nat.le_of_ble_eq_true rfl, Nat.le_of_ble_eq_true rfl⟩ rfl hF (fun x132 h131 hF => ?_)
                    refine jj_iconst (v := (0 : Int32)) (pc' := 456) dL_refusesFilms_455 rfl rfl ?_
                    refine jj_lconst (v := (0 : Int64)) (pc' := 457) dL_refusesFilms_456 rfl rfl ?_
                    refine jj_cI (N := M_L_call) (kc' := 1344) (ks' := 8064) (pc' := 460) (jg_H (N := M_L_call) (rest := []) (as := [.ref a0, .int ((14 : Int32)), .int ((0 : Int32)), .int x132, .int ((0 : Int32)), .long ((0 : Int64))]) cf_L_119 (by decide) dL_refusesFilms_457 rfl rfl ⟨Nat.le_of_ble_eq_true rfl, Nat.le_of_ble_eq_true rfl⟩ ⟨Nat.le_of_ble_eq_true rfl, Nat.le_of_ble_eq_true rfl⟩ (Nat.le_of_ble_eq_true rfl) (fun X' hX => KL_call hX)) rfl rfl rfl rfl ⟨Nat.le_of_ble_eq_true rfl, Nat.le_of_ble_eq_true rfl⟩ rfl hF (fun x134 h133 hF => ?_)
                    refine jj_bipush (v := (-12 : Int32)) (pc' := 462) dL_refusesFilms_460 rfl rfl ?_
                    refine jj_icmp_ne (tgt := 612) (pc' := 465) dL_refusesFilms_462 rfl rfl (fun hc hF => ?_) (fun hc hF => ?_) hF
                    · skip
                      refine jj_iconst (v := (0 : Int32)) (pc' := 613) dL_refusesFilms_612 rfl rfl ?_
                      exact jj_retI (ty := .boolean) rfl rfl dL_refusesFilms_613 ⟨Nat.le_of_ble_eq_true rfl, Nat.le_of_ble_eq_true rfl⟩ hF
                    · skip
                      refine jj_aload_n (j := 0) (i := 0) (pc' := 466) dL_refusesFilms_465 rfl rfl rfl ?_
                      refine jj_bipush (v := (22 : Int32)) (pc' := 468) dL_refusesFilms_466 rfl rfl ?_
                      refine jj_iconst (v := (0 : Int32)) (pc' := 469) dL_refusesFilms_468 rfl rfl ?_
                      refine jj_iload_n (j := 2) (i := 3) (pc' := 470) dL_refusesFilms_469 rfl rfl rfl ?_
                      refine jj_iconst (v := (-1 : Int32)) (pc' := 471) dL_refusesFilms_470 rfl rfl ?_
                      refine jj_ldc2l (v := (500 : Int64)) (pc' := 474) dL_refusesFilms_471 qw_78 rfl ?_
                      refine jj_cI (N := M_L_call) (kc' := 1405) (ks' := 8430) (pc' := 477) (jg_H (N := M_L_call) (rest := []) (as := [.ref a0, .int ((22 : Int32)), .int ((0 : Int32)), .int x3, .int ((-1 : Int32)), .long ((500 : Int64))]) cf_L_119 (by decide) dL_refusesFilms_474 rfl rfl ⟨Nat.le_of_ble_eq_true rfl, Nat.le_of_ble_eq_true rfl⟩ ⟨Nat.le_of_ble_eq_true rfl, Nat.le_of_ble_eq_true rfl⟩ (Nat.le_of_ble_eq_true rfl) (fun X' hX => KL_call hX)) rfl rfl rfl rfl ⟨Nat.le_of_ble_eq_true rfl, Nat.le_of_ble_eq_true rfl⟩ rfl hF (fun x136 h135 hF => ?_)
                      refine jj_bipush (v := (-11 : Int32)) (pc' := 479) dL_refusesFilms_477 rfl rfl ?_
                      refine jj_icmp_ne (tgt := 612) (pc' := 482) dL_refusesFilms_479 rfl rfl (fun hc hF => ?_) (fun hc hF => ?_) hF
                      · skip
                        refine jj_iconst (v := (0 : Int32)) (pc' := 613) dL_refusesFilms_612 rfl rfl ?_
                        exact jj_retI (ty := .boolean) rfl rfl dL_refusesFilms_613 ⟨Nat.le_of_ble_eq_true rfl, Nat.le_of_ble_eq_true rfl⟩ hF
                      · skip
                        refine jj_wide (kc' := 1405) (ks' := 8430) (Nat.le_of_ble_eq_true rfl) (Nat.le_of_ble_eq_true rfl) ?_
                        exact jj_pick [0, 1, 2, 3] rfl (BL_refusesFilms_482 N N a0 x1 x3 x4 h135 _ hF)
          · skip
            refine jj_ldc2l (v := (499 : Int64)) (pc' := 370) dL_refusesFilms_367 qw_81 rfl ?_
            refine jj_goto (tgt := 376) dL_refusesFilms_370 rfl ?_
            refine jj_cI (N := M_L_call) (kc' := 1161) (ks' := 6966) (pc' := 379) (jg_H (N := M_L_call) (rest := []) (as := [.ref a0, .int ((3 : Int32)), .int ((0 : Int32)), .int ((0 : Int32)), .int ((0 : Int32)), .long ((499 : Int64))]) cf_L_119 (by decide) dL_refusesFilms_376 rfl rfl ⟨Nat.le_of_ble_eq_true rfl, Nat.le_of_ble_eq_true rfl⟩ ⟨Nat.le_of_ble_eq_true rfl, Nat.le_of_ble_eq_true rfl⟩ (Nat.le_of_ble_eq_true rfl) (fun X' hX => KL_call hX)) rfl rfl rfl rfl ⟨Nat.le_of_ble_eq_true rfl, Nat.le_of_ble_eq_true rfl⟩ rfl hF (fun x138 h137 hF => ?_)
            refine jj_bipush (v := (-12 : Int32)) (pc' := 381) dL_refusesFilms_379 rfl rfl ?_
            refine jj_icmp_ne (tgt := 612) (pc' := 384) dL_refusesFilms_381 rfl rfl (fun hc hF => ?_) (fun hc hF => ?_) hF
            · skip
              refine jj_iconst (v := (0 : Int32)) (pc' := 613) dL_refusesFilms_612 rfl rfl ?_
              exact jj_retI (ty := .boolean) rfl rfl dL_refusesFilms_613 ⟨Nat.le_of_ble_eq_true rfl, Nat.le_of_ble_eq_true rfl⟩ hF
            · skip
              refine jj_aload_n (j := 0) (i := 0) (pc' := 385) dL_refusesFilms_384 rfl rfl rfl ?_
              refine jj_bipush (v := (6 : Int32)) (pc' := 387) dL_refusesFilms_385 rfl rfl ?_
              refine jj_iconst (v := (0 : Int32)) (pc' := 388) dL_refusesFilms_387 rfl rfl ?_
              refine jj_iload (j := 3) (i := 4) (pc' := 390) dL_refusesFilms_388 rfl rfl ?_
              refine jj_sipush (v := (2000 : Int32)) (pc' := 393) dL_refusesFilms_390 rfl rfl ?_
              refine jj_lconst (v := (0 : Int64)) (pc' := 394) dL_refusesFilms_393 rfl rfl ?_
              refine jj_cI (N := M_L_call) (kc' := 1222) (ks' := 7332) (pc' := 397) (jg_H (N := M_L_call) (rest := []) (as := [.ref a0, .int ((6 : Int32)), .int ((0 : Int32)), .int x4, .int ((2000 : Int32)), .long ((0 : Int64))]) cf_L_119 (by decide) dL_refusesFilms_394 rfl rfl ⟨Nat.le_of_ble_eq_true rfl, Nat.le_of_ble_eq_true rfl⟩ ⟨Nat.le_of_ble_eq_true rfl, Nat.le_of_ble_eq_true rfl⟩ (Nat.le_of_ble_eq_true rfl) (fun X' hX => KL_call hX)) rfl rfl rfl rfl ⟨Nat.le_of_ble_eq_true rfl, Nat.le_of_ble_eq_true rfl⟩ rfl hF (fun x140 h139 hF => ?_)
              refine jj_bipush (v := (-12 : Int32)) (pc' := 399) dL_refusesFilms_397 rfl rfl ?_
              refine jj_icmp_ne (tgt := 612) (pc' := 402) dL_refusesFilms_399 rfl rfl (fun hc hF => ?_) (fun hc hF => ?_) hF
              · skip
                refine jj_iconst (v := (0 : Int32)) (pc' := 613) dL_refusesFilms_612 rfl rfl ?_
                exact jj_retI (ty := .boolean) rfl rfl dL_refusesFilms_613 ⟨Nat.le_of_ble_eq_true rfl, Nat.le_of_ble_eq_true rfl⟩ hF
              · skip
                refine jj_aload_n (j := 0) (i := 0) (pc' := 403) dL_refusesFilms_402 rfl rfl rfl ?_
                refine jj_bipush (v := (6 : Int32)) (pc' := 405) dL_refusesFilms_403 rfl rfl ?_
                refine jj_iconst (v := (0 : Int32)) (pc' := 406) dL_refusesFilms_405 rfl rfl ?_
                refine jj_sipush (v := (700 : Int32)) (pc' := 409) dL_refusesFilms_406 rfl rfl ?_
                refine jj_iload_n (j := 1) (i := 1) (pc' := 410) dL_refusesFilms_409 rfl rfl rfl ?_
                refine jj_if_ne (tgt := 419) (pc' := 413) dL_refusesFilms_410 rfl rfl (fun hc hF => ?_) (fun hc hF => ?_) hF
                · skip
                  refine jj_iload_n (j := 1) (i := 1) (pc' := 420) dL_refusesFilms_419 rfl rfl rfl ?_
                  refine jj_iconst (v := (1 : Int32)) (pc' := 421) dL_refusesFilms_420 rfl rfl ?_
                  refine jj_icmp_ne (tgt := 430) (pc' := 424) dL_refusesFilms_421 rfl rfl (fun hc hF => ?_) (fun hc hF => ?_) hF
                  · skip
                    refine jj_iload_n (j := 1) (i := 1) (pc' := 431) dL_refusesFilms_430 rfl rfl rfl ?_
                    refine jj_iconst (v := (0 : Int32)) (pc' := 432) dL_refusesFilms_431 rfl rfl ?_
                    refine jj_iconst (v := (0 : Int32)) (pc' := 433) dL_refusesFilms_432 rfl rfl ?_
                    refine jj_cI (N := M_L_far) (kc' := 1222) (ks' := 7332) (pc' := 436) (jg_S (N := M_L_far) (rest := [.int ((700 : Int32)), .int ((0 : Int32)), .int ((6 : Int32)), .ref a0]) (as := [.int x1, .int ((0 : Int32)), .int ((0 : Int32))]) cf_L_114 rfl dL_refusesFilms_433 rfl rfl ⟨Nat.le_of_ble_eq_true rfl, Nat.le_of_ble_eq_true rfl⟩ ⟨Nat.le_of_ble_eq_true rfl, Nat.le_of_ble_eq_true rfl⟩ (Nat.le_of_ble_eq_true rfl) (fun X' hX => KL_far hX)) rfl rfl rfl rfl ⟨Nat.le_of_ble_eq_true rfl, Nat.le_of_ble_eq_true rfl⟩ rfl hF (fun x142 h141 hF => ?_)
                    refine jj_lconst (v := (0 : Int64)) (pc' := 437) dL_refusesFilms_436 rfl rfl ?_
                    refine jj_cI (N := M_L_call) (kc' := 1283) (ks' := 7698) (pc' := 440) (jg_H (N := M_L_call) (rest := []) (as := [.ref a0, .int ((6 : Int32)), .int ((0 : Int32)), .int ((700 : Int32)), .int x142, .long ((0 : Int64))]) cf_L_119 (by decide) dL_refusesFilms_437 rfl rfl ⟨Nat.le_of_ble_eq_true rfl, Nat.le_of_ble_eq_true rfl⟩ ⟨Nat.le_of_ble_eq_true rfl, Nat.le_of_ble_eq_true rfl⟩ (Nat.le_of_ble_eq_true rfl) (fun X' hX => KL_call hX)) rfl rfl rfl rfl ⟨Nat.le_of_ble_eq_true rfl, Nat.le_of_ble_eq_true rfl⟩ rfl hF (fun x144 h143 hF => ?_)
                    refine jj_bipush (v := (-12 : Int32)) (pc' := 442) dL_refusesFilms_440 rfl rfl ?_
                    refine jj_icmp_ne (tgt := 612) (pc' := 445) dL_refusesFilms_442 rfl rfl (fun hc hF => ?_) (fun hc hF => ?_) hF
                    · skip
                      refine jj_iconst (v := (0 : Int32)) (pc' := 613) dL_refusesFilms_612 rfl rfl ?_
                      exact jj_retI (ty := .boolean) rfl rfl dL_refusesFilms_613 ⟨Nat.le_of_ble_eq_true rfl, Nat.le_of_ble_eq_true rfl⟩ hF
                    · skip
                      refine jj_aload_n (j := 0) (i := 0) (pc' := 446) dL_refusesFilms_445 rfl rfl rfl ?_
                      refine jj_bipush (v := (14 : Int32)) (pc' := 448) dL_refusesFilms_446 rfl rfl ?_
                      refine jj_iconst (v := (0 : Int32)) (pc' := 449) dL_refusesFilms_448 rfl rfl ?_
                      refine jj_iload_n (j := 1) (i := 1) (pc' := 450) dL_refusesFilms_449 rfl rfl rfl ?_
                      refine jj_iconst (v := (0 : Int32)) (pc' := 451) dL_refusesFilms_450 rfl rfl ?_
                      refine jj_iconst (v := (5 : Int32)) (pc' := 452) dL_refusesFilms_451 rfl rfl ?_
                      refine jj_cI (N := M_L_far) (kc' := 1283) (ks' := 7698) (pc' := 455) (jg_S (N := M_L_far) (rest := [.int ((0 : Int32)), .int ((14 : Int32)), .ref a0]) (as := [.int x1, .int ((0 : Int32)), .int ((5 : Int32))]) cf_L_114 rfl dL_refusesFilms_452 rfl rfl ⟨Nat.le_of_ble_eq_true rfl, Nat.le_of_ble_eq_true rfl⟩ ⟨Nat.le_of_ble_eq_true rfl, Nat.le_of_ble_eq_true rfl⟩ (Nat.le_of_ble_eq_true rfl) (fun X' hX => KL_far hX)) rfl rfl rfl rfl ⟨Nat.le_of_ble_eq_true rfl, Nat.le_of_ble_eq_true rfl⟩ rfl hF (fun x146 h145 hF => ?_)
                      refine jj_iconst (v := (0 : Int32)) (pc' := 456) dL_refusesFilms_455 rfl rfl ?_
                      refine jj_lconst (v := (0 : Int64)) (pc' := 457) dL_refusesFilms_456 rfl rfl ?_
                      refine jj_cI (N := M_L_call) (kc' := 1344) (ks' := 8064) (pc' := 460) (jg_H (N := M_L_call) (rest := []) (as := [.ref a0, .int ((14 : Int32)), .int ((0 : Int32)), .int x146, .int ((0 : Int32)), .long ((0 : Int64))]) cf_L_119 (by decide) dL_refusesFilms_457 rfl rfl ⟨Nat.le_of_ble_eq_true rfl, Nat.le_of_ble_eq_true rfl⟩ ⟨Nat.le_of_ble_eq_true rfl, Nat.le_of_ble_eq_true rfl⟩ (Nat.le_of_ble_eq_true rfl) (fun X' hX => KL_call hX)) rfl rfl rfl rfl ⟨Nat.le_of_ble_eq_true rfl, Nat.le_of_ble_eq_true rfl⟩ rfl hF (fun x148 h147 hF => ?_)
                      refine jj_bipush (v := (-12 : Int32)) (pc' := 462) dL_refusesFilms_460 rfl rfl ?_
                      refine jj_icmp_ne (tgt := 612) (pc' := 465) dL_refusesFilms_462 rfl rfl (fun hc hF => ?_) (fun hc hF => ?_) hF
                      · skip
                        refine jj_iconst (v := (0 : Int32)) (pc' := 613) dL_refusesFilms_612 rfl rfl ?_
                        exact jj_retI (ty := .boolean) rfl rfl dL_refusesFilms_613 ⟨Nat.le_of_ble_eq_true rfl, Nat.le_of_ble_eq_true rfl⟩ hF
                      · skip
                        refine jj_aload_n (j := 0) (i := 0) (pc' := 466) dL_refusesFilms_465 rfl rfl rfl ?_
                        refine jj_bipush (v := (22 : Int32)) (pc' := 468) dL_refusesFilms_466 rfl rfl ?_
                        refine jj_iconst (v := (0 : Int32)) (pc' := 469) dL_refusesFilms_468 rfl rfl ?_
                        refine jj_iload_n (j := 2) (i := 3) (pc' := 470) dL_refusesFilms_469 rfl rfl rfl ?_
                        refine jj_iconst (v := (-1 : Int32)) (pc' := 471) dL_refusesFilms_470 rfl rfl ?_
                        refine jj_ldc2l (v := (500 : Int64)) (pc' := 474) dL_refusesFilms_471 qw_78 rfl ?_
                        refine jj_cI (N := M_L_call) (kc' := 1405) (ks' := 8430) (pc' := 477) (jg_H (N := M_L_call) (rest := []) (as := [.ref a0, .int ((22 : Int32)), .int ((0 : Int32)), .int x3, .int ((-1 : Int32)), .long ((500 : Int64))]) cf_L_119 (by decide) dL_refusesFilms_474 rfl rfl ⟨Nat.le_of_ble_eq_true rfl, Nat.le_of_ble_eq_true rfl⟩ ⟨Nat.le_of_ble_eq_true rfl, Nat.le_of_ble_eq_true rfl⟩ (Nat.le_of_ble_eq_true rfl) (fun X' hX => KL_call hX)) rfl rfl rfl rfl ⟨Nat.le_of_ble_eq_true rfl, Nat.le_of_ble_eq_true rfl⟩ rfl hF (fun x150 h149 hF => ?_)
                        refine jj_bipush (v := (-11 : Int32)) (pc' := 479) dL_refusesFilms_477 rfl rfl ?_
                        refine jj_icmp_ne (tgt := 612) (pc' := 482) dL_refusesFilms_479 rfl rfl (fun hc hF => ?_) (fun hc hF => ?_) hF
                        · skip
                          refine jj_iconst (v := (0 : Int32)) (pc' := 613) dL_refusesFilms_612 rfl rfl ?_
                          exact jj_retI (ty := .boolean) rfl rfl dL_refusesFilms_613 ⟨Nat.le_of_ble_eq_true rfl, Nat.le_of_ble_eq_true rfl⟩ hF
                        · skip
                          refine jj_wide (kc' := 1405) (ks' := 8430) (Nat.le_of_ble_eq_true rfl) (Nat.le_of_ble_eq_true rfl) ?_
                          exact jj_pick [0, 1, 2, 3] rfl (BL_refusesFilms_482 N N a0 x1 x3 x4 h149 _ hF)
                  · skip
                    refine jj_sipush (v := (2001 : Int32)) (pc' := 427) dL_refusesFilms_424 rfl rfl ?_
                    refine jj_goto (tgt := 436) dL_refusesFilms_427 rfl ?_
                    refine jj_lconst (v := (0 : Int64)) (pc' := 437) dL_refusesFilms_436 rfl rfl ?_
                    refine jj_cI (N := M_L_call) (kc' := 1283) (ks' := 7698) (pc' := 440) (jg_H (N := M_L_call) (rest := []) (as := [.ref a0, .int ((6 : Int32)), .int ((0 : Int32)), .int ((700 : Int32)), .int ((2001 : Int32)), .long ((0 : Int64))]) cf_L_119 (by decide) dL_refusesFilms_437 rfl rfl ⟨Nat.le_of_ble_eq_true rfl, Nat.le_of_ble_eq_true rfl⟩ ⟨Nat.le_of_ble_eq_true rfl, Nat.le_of_ble_eq_true rfl⟩ (Nat.le_of_ble_eq_true rfl) (fun X' hX => KL_call hX)) rfl rfl rfl rfl ⟨Nat.le_of_ble_eq_true rfl, Nat.le_of_ble_eq_true rfl⟩ rfl hF (fun x152 h151 hF => ?_)
                    refine jj_bipush (v := (-12 : Int32)) (pc' := 442) dL_refusesFilms_440 rfl rfl ?_
                    refine jj_icmp_ne (tgt := 612) (pc' := 445) dL_refusesFilms_442 rfl rfl (fun hc hF => ?_) (fun hc hF => ?_) hF
                    · skip
                      refine jj_iconst (v := (0 : Int32)) (pc' := 613) dL_refusesFilms_612 rfl rfl ?_
                      exact jj_retI (ty := .boolean) rfl rfl dL_refusesFilms_613 ⟨Nat.le_of_ble_eq_true rfl, Nat.le_of_ble_eq_true rfl⟩ hF
                    · skip
                      refine jj_aload_n (j := 0) (i := 0) (pc' := 446) dL_refusesFilms_445 rfl rfl rfl ?_
                      refine jj_bipush (v := (14 : Int32)) (pc' := 448) dL_refusesFilms_446 rfl rfl ?_
                      refine jj_iconst (v := (0 : Int32)) (pc' := 449) dL_refusesFilms_448 rfl rfl ?_
                      refine jj_iload_n (j := 1) (i := 1) (pc' := 450) dL_refusesFilms_449 rfl rfl rfl ?_
                      refine jj_iconst (v := (0 : Int32)) (pc' := 451) dL_refusesFilms_450 rfl rfl ?_
                      refine jj_iconst (v := (5 : Int32)) (pc' := 452) dL_refusesFilms_451 rfl rfl ?_
                      refine jj_cI (N := M_L_far) (kc' := 1283) (ks' := 7698) (pc' := 455) (jg_S (N := M_L_far) (rest := [.int ((0 : Int32)), .int ((14 : Int32)), .ref a0]) (as := [.int x1, .int ((0 : Int32)), .int ((5 : Int32))]) cf_L_114 rfl dL_refusesFilms_452 rfl rfl ⟨Nat.le_of_ble_eq_true rfl, Nat.le_of_ble_eq_true rfl⟩ ⟨Nat.le_of_ble_eq_true rfl, Nat.le_of_ble_eq_true rfl⟩ (Nat.le_of_ble_eq_true rfl) (fun X' hX => KL_far hX)) rfl rfl rfl rfl ⟨Nat.le_of_ble_eq_true rfl, Nat.le_of_ble_eq_true rfl⟩ rfl hF (fun x154 h153 hF => ?_)
                      refine jj_iconst (v := (0 : Int32)) (pc' := 456) dL_refusesFilms_455 rfl rfl ?_
                      refine jj_lconst (v := (0 : Int64)) (pc' := 457) dL_refusesFilms_456 rfl rfl ?_
                      refine jj_cI (N := M_L_call) (kc' := 1344) (ks' := 8064) (pc' := 460) (jg_H (N := M_L_call) (rest := []) (as := [.ref a0, .int ((14 : Int32)), .int ((0 : Int32)), .int x154, .int ((0 : Int32)), .long ((0 : Int64))]) cf_L_119 (by decide) dL_refusesFilms_457 rfl rfl ⟨Nat.le_of_ble_eq_true rfl, Nat.le_of_ble_eq_true rfl⟩ ⟨Nat.le_of_ble_eq_true rfl, Nat.le_of_ble_eq_true rfl⟩ (Nat.le_of_ble_eq_true rfl) (fun X' hX => KL_call hX)) rfl rfl rfl rfl ⟨Nat.le_of_ble_eq_true rfl, Nat.le_of_ble_eq_true rfl⟩ rfl hF (fun x156 h155 hF => ?_)
                      refine jj_bipush (v := (-12 : Int32)) (pc' := 462) dL_refusesFilms_460 rfl rfl ?_
                      refine jj_icmp_ne (tgt := 612) (pc' := 465) dL_refusesFilms_462 rfl rfl (fun hc hF => ?_) (fun hc hF => ?_) hF
                      · skip
                        refine jj_iconst (v := (0 : Int32)) (pc' := 613) dL_refusesFilms_612 rfl rfl ?_
                        exact jj_retI (ty := .boolean) rfl rfl dL_refusesFilms_613 ⟨Nat.le_of_ble_eq_true rfl, Nat.le_of_ble_eq_true rfl⟩ hF
                      · skip
                        refine jj_aload_n (j := 0) (i := 0) (pc' := 466) dL_refusesFilms_465 rfl rfl rfl ?_
                        refine jj_bipush (v := (22 : Int32)) (pc' := 468) dL_refusesFilms_466 rfl rfl ?_
                        refine jj_iconst (v := (0 : Int32)) (pc' := 469) dL_refusesFilms_468 rfl rfl ?_
                        refine jj_iload_n (j := 2) (i := 3) (pc' := 470) dL_refusesFilms_469 rfl rfl rfl ?_
                        refine jj_iconst (v := (-1 : Int32)) (pc' := 471) dL_refusesFilms_470 rfl rfl ?_
                        refine jj_ldc2l (v := (500 : Int64)) (pc' := 474) dL_refusesFilms_471 qw_78 rfl ?_
                        refine jj_cI (N := M_L_call) (kc' := 1405) (ks' := 8430) (pc' := 477) (jg_H (N := M_L_call) (rest := []) (as := [.ref a0, .int ((22 : Int32)), .int ((0 : Int32)), .int x3, .int ((-1 : Int32)), .long ((500 : Int64))]) cf_L_119 (by decide) dL_refusesFilms_474 rfl rfl ⟨Nat.le_of_ble_eq_true rfl, Nat.le_of_ble_eq_true rfl⟩ ⟨Nat.le_of_ble_eq_true rfl, Nat.le_of_ble_eq_true rfl⟩ (Nat.le_of_ble_eq_true rfl) (fun X' hX => KL_call hX)) rfl rfl rfl rfl ⟨Nat.le_of_ble_eq_true rfl, Nat.le_of_ble_eq_true rfl⟩ rfl hF (fun x158 h157 hF => ?_)
                        refine jj_bipush (v := (-11 : Int32)) (pc' := 479) dL_refusesFilms_477 rfl rfl ?_
                        refine jj_icmp_ne (tgt := 612) (pc' := 482) dL_refusesFilms_479 rfl rfl (fun hc hF => ?_) (fun hc hF => ?_) hF
                        · skip
                          refine jj_iconst (v := (0 : Int32)) (pc' := 613) dL_refusesFilms_612 rfl rfl ?_
                          exact jj_retI (ty := .boolean) rfl rfl dL_refusesFilms_613 ⟨Nat.le_of_ble_eq_true rfl, Nat.le_of_ble_eq_true rfl⟩ hF
                        · skip
                          refine jj_wide (kc' := 1405) (ks' := 8430) (Nat.le_of_ble_eq_true rfl) (Nat.le_of_ble_eq_true rfl) ?_
                          exact jj_pick [0, 1, 2, 3] rfl (BL_refusesFilms_482 N N a0 x1 x3 x4 h157 _ hF)
                · skip
                  refine jj_sipush (v := (700 : Int32)) (pc' := 416) dL_refusesFilms_413 rfl rfl ?_
                  refine jj_goto (tgt := 436) dL_refusesFilms_416 rfl ?_
                  refine jj_lconst (v := (0 : Int64)) (pc' := 437) dL_refusesFilms_436 rfl rfl ?_
                  refine jj_cI (N := M_L_call) (kc' := 1283) (ks' := 7698) (pc' := 440) (jg_H (N := M_L_call) (rest := []) (as := [.ref a0, .int ((6 : Int32)), .int ((0 : Int32)), .int ((700 : Int32)), .int ((700 : Int32)), .long ((0 : Int64))]) cf_L_119 (by decide) dL_refusesFilms_437 rfl rfl ⟨Nat.le_of_ble_eq_true rfl, Nat.le_of_ble_eq_true rfl⟩ ⟨Nat.le_of_ble_eq_true rfl, Nat.le_of_ble_eq_true rfl⟩ (Nat.le_of_ble_eq_true rfl) (fun X' hX => KL_call hX)) rfl rfl rfl rfl ⟨Nat.le_of_ble_eq_true rfl, Nat.le_of_ble_eq_true rfl⟩ rfl hF (fun x160 h159 hF => ?_)
                  refine jj_bipush (v := (-12 : Int32)) (pc' := 442) dL_refusesFilms_440 rfl rfl ?_
                  refine jj_icmp_ne (tgt := 612) (pc' := 445) dL_refusesFilms_442 rfl rfl (fun hc hF => ?_) (fun hc hF => ?_) hF
                  · skip
                    refine jj_iconst (v := (0 : Int32)) (pc' := 613) dL_refusesFilms_612 rfl rfl ?_
                    exact jj_retI (ty := .boolean) rfl rfl dL_refusesFilms_613 ⟨Nat.le_of_ble_eq_true rfl, Nat.le_of_ble_eq_true rfl⟩ hF
                  · skip
                    refine jj_aload_n (j := 0) (i := 0) (pc' := 446) dL_refusesFilms_445 rfl rfl rfl ?_
                    refine jj_bipush (v := (14 : Int32)) (pc' := 448) dL_refusesFilms_446 rfl rfl ?_
                    refine jj_iconst (v := (0 : Int32)) (pc' := 449) dL_refusesFilms_448 rfl rfl ?_
                    refine jj_iload_n (j := 1) (i := 1) (pc' := 450) dL_refusesFilms_449 rfl rfl rfl ?_
                    refine jj_iconst (v := (0 : Int32)) (pc' := 451) dL_refusesFilms_450 rfl rfl ?_
                    refine jj_iconst (v := (5 : Int32)) (pc' := 452) dL_refusesFilms_451 rfl rfl ?_
                    refine jj_cI (N := M_L_far) (kc' := 1283) (ks' := 7698) (pc' := 455) (jg_S (N := M_L_far) (rest := [.int ((0 : Int32)), .int ((14 : Int32)), .ref a0]) (as := [.int x1, .int ((0 : Int32)), .int ((5 : Int32))]) cf_L_114 rfl dL_refusesFilms_452 rfl rfl ⟨Nat.le_of_ble_eq_true rfl, Nat.le_of_ble_eq_true rfl⟩ ⟨Nat.le_of_ble_eq_true rfl, Nat.le_of_ble_eq_true rfl⟩ (Nat.le_of_ble_eq_true rfl) (fun X' hX => KL_far hX)) rfl rfl rfl rfl ⟨Nat.le_of_ble_eq_true rfl, Nat.le_of_ble_eq_true rfl⟩ rfl hF (fun x162 h161 hF => ?_)
                    refine jj_iconst (v := (0 : Int32)) (pc' := 456) dL_refusesFilms_455 rfl rfl ?_
                    refine jj_lconst (v := (0 : Int64)) (pc' := 457) dL_refusesFilms_456 rfl rfl ?_
                    refine jj_cI (N := M_L_call) (kc' := 1344) (ks' := 8064) (pc' := 460) (jg_H (N := M_L_call) (rest := []) (as := [.ref a0, .int ((14 : Int32)), .int ((0 : Int32)), .int x162, .int ((0 : Int32)), .long ((0 : Int64))]) cf_L_119 (by decide) dL_refusesFilms_457 rfl rfl ⟨Nat.le_of_ble_eq_true rfl, Nat.le_of_ble_eq_true rfl⟩ ⟨Nat.le_of_ble_eq_true rfl, Nat.le_of_ble_eq_true rfl⟩ (Nat.le_of_ble_eq_true rfl) (fun X' hX => KL_call hX)) rfl rfl rfl rfl ⟨Nat.le_of_ble_eq_true rfl, Nat.le_of_ble_eq_true rfl⟩ rfl hF (fun x164 h163 hF => ?_)
                    refine jj_bipush (v := (-12 : Int32)) (pc' := 462) dL_refusesFilms_460 rfl rfl ?_
                    refine jj_icmp_ne (tgt := 612) (pc' := 465) dL_refusesFilms_462 rfl rfl (fun hc hF => ?_) (fun hc hF => ?_) hF
                    · skip
                      refine jj_iconst (v := (0 : Int32)) (pc' := 613) dL_refusesFilms_612 rfl rfl ?_
                      exact jj_retI (ty := .boolean) rfl rfl dL_refusesFilms_613 ⟨Nat.le_of_ble_eq_true rfl, Nat.le_of_ble_eq_true rfl⟩ hF
                    · skip
                      refine jj_aload_n (j := 0) (i := 0) (pc' := 466) dL_refusesFilms_465 rfl rfl rfl ?_
                      refine jj_bipush (v := (22 : Int32)) (pc' := 468) dL_refusesFilms_466 rfl rfl ?_
                      refine jj_iconst (v := (0 : Int32)) (pc' := 469) dL_refusesFilms_468 rfl rfl ?_
                      refine jj_iload_n (j := 2) (i := 3) (pc' := 470) dL_refusesFilms_469 rfl rfl rfl ?_
                      refine jj_iconst (v := (-1 : Int32)) (pc' := 471) dL_refusesFilms_470 rfl rfl ?_
                      refine jj_ldc2l (v := (500 : Int64)) (pc' := 474) dL_refusesFilms_471 qw_78 rfl ?_
                      refine jj_cI (N := M_L_call) (kc' := 1405) (ks' := 8430) (pc' := 477) (jg_H (N := M_L_call) (rest := []) (as := [.ref a0, .int ((22 : Int32)), .int ((0 : Int32)), .int x3, .int ((-1 : Int32)), .long ((500 : Int64))]) cf_L_119 (by decide) dL_refusesFilms_474 rfl rfl ⟨Nat.le_of_ble_eq_true rfl, Nat.le_of_ble_eq_true rfl⟩ ⟨Nat.le_of_ble_eq_true rfl, Nat.le_of_ble_eq_true rfl⟩ (Nat.le_of_ble_eq_true rfl) (fun X' hX => KL_call hX)) rfl rfl rfl rfl ⟨Nat.le_of_ble_eq_true rfl, Nat.le_of_ble_eq_true rfl⟩ rfl hF (fun x166 h165 hF => ?_)
                      refine jj_bipush (v := (-11 : Int32)) (pc' := 479) dL_refusesFilms_477 rfl rfl ?_
                      refine jj_icmp_ne (tgt := 612) (pc' := 482) dL_refusesFilms_479 rfl rfl (fun hc hF => ?_) (fun hc hF => ?_) hF
                      · skip
                        refine jj_iconst (v := (0 : Int32)) (pc' := 613) dL_refusesFilms_612 rfl rfl ?_
                        exact jj_retI (ty := .boolean) rfl rfl dL_refusesFilms_613 ⟨Nat.le_of_ble_eq_true rfl, Nat.le_of_ble_eq_true rfl⟩ hF
                      · skip
                        refine jj_wide (kc' := 1405) (ks' := 8430) (Nat.le_of_ble_eq_true rfl) (Nat.le_of_ble_eq_true rfl) ?_
                        exact jj_pick [0, 1, 2, 3] rfl (BL_refusesFilms_482 N N a0 x1 x3 x4 h165 _ hF)
set_option maxRecDepth 100000 in
set_option maxHeartbeats 4000000 in
theorem BL_refusesFilms_237 (N : Nat) : ∀ (n : Nat) (a0 : Nat) (x1 : Int32) (x2 : Int32) (x3 : Int32) (x4 : Int32) (h : jm_H) (X : jm_X), FL_refusesFilms_237 N n a0 x1 x2 x3 x4 h = some X → jm_J M_L_refusesFilms 237 [(0, .ref a0), (1, .int x1), (2, .int x2), (3, .int x3), (4, .int x4)] [] h 672 4032 X := by
  intro n
  induction n with
  | zero =>
    intro a0 x1 x2 x3 x4 h X hF
    exact nomatch (show (none : Option jm_X) = some X from hF)
  | succ n ih =>
    intro a0 x1 x2 x3 x4 h X hF
    rw [FL_refusesFilms_237] at hF
    refine jj_aload_n (j := 0) (i := 0) (pc' := 238) dL_refusesFilms_237 rfl rfl rfl ?_
    refine jj_bipush (v := (14 : Int32)) (pc' := 240) dL_refusesFilms_238 rfl rfl ?_
    refine jj_iload_n (j := 2) (i := 2) (pc' := 241) dL_refusesFilms_240 rfl rfl rfl ?_
    refine jj_bipush (v := (9 : Int32)) (pc' := 243) dL_refusesFilms_241 rfl rfl ?_
    refine jj_iconst (v := (0 : Int32)) (pc' := 244) dL_refusesFilms_243 rfl rfl ?_
    refine jj_lconst (v := (0 : Int64)) (pc' := 245) dL_refusesFilms_244 rfl rfl ?_
    refine jj_cI (N := M_L_call) (kc' := 733) (ks' := 4398) (pc' := 248) (jg_H (N := M_L_call) (rest := []) (as := [.ref a0, .int ((14 : Int32)), .int x2, .int ((9 : Int32)), .int ((0 : Int32)), .long ((0 : Int64))]) cf_L_119 (by decide) dL_refusesFilms_245 rfl rfl ⟨Nat.le_of_ble_eq_true rfl, Nat.le_of_ble_eq_true rfl⟩ ⟨Nat.le_of_ble_eq_true rfl, Nat.le_of_ble_eq_true rfl⟩ (Nat.le_of_ble_eq_true rfl) (fun X' hX => KL_call hX)) rfl rfl rfl rfl ⟨Nat.le_of_ble_eq_true rfl, Nat.le_of_ble_eq_true rfl⟩ rfl hF (fun x102 h101 hF => ?_)
    refine jj_bipush (v := (-11 : Int32)) (pc' := 250) dL_refusesFilms_248 rfl rfl ?_
    refine jj_icmp_ne (tgt := 315) (pc' := 253) dL_refusesFilms_250 rfl rfl (fun hc hF => ?_) (fun hc hF => ?_) hF
    · skip
      refine jj_iconst (v := (0 : Int32)) (pc' := 316) dL_refusesFilms_315 rfl rfl ?_
      exact jj_retI (ty := .boolean) rfl rfl dL_refusesFilms_316 ⟨Nat.le_of_ble_eq_true rfl, Nat.le_of_ble_eq_true rfl⟩ hF
    · skip
      refine jj_aload_n (j := 0) (i := 0) (pc' := 254) dL_refusesFilms_253 rfl rfl rfl ?_
      refine jj_bipush (v := (22 : Int32)) (pc' := 256) dL_refusesFilms_254 rfl rfl ?_
      refine jj_iload_n (j := 2) (i := 2) (pc' := 257) dL_refusesFilms_256 rfl rfl rfl ?_
      refine jj_iconst (v := (0 : Int32)) (pc' := 258) dL_refusesFilms_257 rfl rfl ?_
      refine jj_iconst (v := (-1 : Int32)) (pc' := 259) dL_refusesFilms_258 rfl rfl ?_
      refine jj_ldc2l (v := (500 : Int64)) (pc' := 262) dL_refusesFilms_259 qw_78 rfl ?_
      refine jj_cI (N := M_L_call) (kc' := 794) (ks' := 4764) (pc' := 265) (jg_H (N := M_L_call) (rest := []) (as := [.ref a0, .int ((22 : Int32)), .int x2, .int ((0 : Int32)), .int ((-1 : Int32)), .long ((500 : Int64))]) cf_L_119 (by decide) dL_refusesFilms_262 rfl rfl ⟨Nat.le_of_ble_eq_true rfl, Nat.le_of_ble_eq_true rfl⟩ ⟨Nat.le_of_ble_eq_true rfl, Nat.le_of_ble_eq_true rfl⟩ (Nat.le_of_ble_eq_true rfl) (fun X' hX => KL_call hX)) rfl rfl rfl rfl ⟨Nat.le_of_ble_eq_true rfl, Nat.le_of_ble_eq_true rfl⟩ rfl hF (fun x104 h103 hF => ?_)
      refine jj_bipush (v := (-11 : Int32)) (pc' := 267) dL_refusesFilms_265 rfl rfl ?_
      refine jj_icmp_ne (tgt := 315) (pc' := 270) dL_refusesFilms_267 rfl rfl (fun hc hF => ?_) (fun hc hF => ?_) hF
      · skip
        refine jj_iconst (v := (0 : Int32)) (pc' := 316) dL_refusesFilms_315 rfl rfl ?_
        exact jj_retI (ty := .boolean) rfl rfl dL_refusesFilms_316 ⟨Nat.le_of_ble_eq_true rfl, Nat.le_of_ble_eq_true rfl⟩ hF
      · skip
        refine jj_aload_n (j := 0) (i := 0) (pc' := 271) dL_refusesFilms_270 rfl rfl rfl ?_
        refine jj_bipush (v := (23 : Int32)) (pc' := 273) dL_refusesFilms_271 rfl rfl ?_
        refine jj_iload_n (j := 2) (i := 2) (pc' := 274) dL_refusesFilms_273 rfl rfl rfl ?_
        refine jj_iconst (v := (0 : Int32)) (pc' := 275) dL_refusesFilms_274 rfl rfl ?_
        refine jj_iconst (v := (-1 : Int32)) (pc' := 276) dL_refusesFilms_275 rfl rfl ?_
        refine jj_lconst (v := (0 : Int64)) (pc' := 277) dL_refusesFilms_276 rfl rfl ?_
        refine jj_cI (N := M_L_call) (kc' := 855) (ks' := 5130) (pc' := 280) (jg_H (N := M_L_call) (rest := []) (as := [.ref a0, .int ((23 : Int32)), .int x2, .int ((0 : Int32)), .int ((-1 : Int32)), .long ((0 : Int64))]) cf_L_119 (by decide) dL_refusesFilms_277 rfl rfl ⟨Nat.le_of_ble_eq_true rfl, Nat.le_of_ble_eq_true rfl⟩ ⟨Nat.le_of_ble_eq_true rfl, Nat.le_of_ble_eq_true rfl⟩ (Nat.le_of_ble_eq_true rfl) (fun X' hX => KL_call hX)) rfl rfl rfl rfl ⟨Nat.le_of_ble_eq_true rfl, Nat.le_of_ble_eq_true rfl⟩ rfl hF (fun x106 h105 hF => ?_)
        refine jj_bipush (v := (-11 : Int32)) (pc' := 282) dL_refusesFilms_280 rfl rfl ?_
        refine jj_icmp_ne (tgt := 315) (pc' := 285) dL_refusesFilms_282 rfl rfl (fun hc hF => ?_) (fun hc hF => ?_) hF
        · skip
          refine jj_iconst (v := (0 : Int32)) (pc' := 316) dL_refusesFilms_315 rfl rfl ?_
          exact jj_retI (ty := .boolean) rfl rfl dL_refusesFilms_316 ⟨Nat.le_of_ble_eq_true rfl, Nat.le_of_ble_eq_true rfl⟩ hF
        · skip
          refine jj_aload_n (j := 0) (i := 0) (pc' := 286) dL_refusesFilms_285 rfl rfl rfl ?_
          refine jj_bipush (v := (24 : Int32)) (pc' := 288) dL_refusesFilms_286 rfl rfl ?_
          refine jj_iload_n (j := 2) (i := 2) (pc' := 289) dL_refusesFilms_288 rfl rfl rfl ?_
          refine jj_iconst (v := (-1 : Int32)) (pc' := 290) dL_refusesFilms_289 rfl rfl ?_
          refine jj_iconst (v := (0 : Int32)) (pc' := 291) dL_refusesFilms_290 rfl rfl ?_
          refine jj_lconst (v := (0 : Int64)) (pc' := 292) dL_refusesFilms_291 rfl rfl ?_
          refine jj_cI (N := M_L_call) (kc' := 916) (ks' := 5496) (pc' := 295) (jg_H (N := M_L_call) (rest := []) (as := [.ref a0, .int ((24 : Int32)), .int x2, .int ((-1 : Int32)), .int ((0 : Int32)), .long ((0 : Int64))]) cf_L_119 (by decide) dL_refusesFilms_292 rfl rfl ⟨Nat.le_of_ble_eq_true rfl, Nat.le_of_ble_eq_true rfl⟩ ⟨Nat.le_of_ble_eq_true rfl, Nat.le_of_ble_eq_true rfl⟩ (Nat.le_of_ble_eq_true rfl) (fun X' hX => KL_call hX)) rfl rfl rfl rfl ⟨Nat.le_of_ble_eq_true rfl, Nat.le_of_ble_eq_true rfl⟩ rfl hF (fun x108 h107 hF => ?_)
          refine jj_bipush (v := (-11 : Int32)) (pc' := 297) dL_refusesFilms_295 rfl rfl ?_
          refine jj_icmp_ne (tgt := 315) (pc' := 300) dL_refusesFilms_297 rfl rfl (fun hc hF => ?_) (fun hc hF => ?_) hF
          · skip
            refine jj_iconst (v := (0 : Int32)) (pc' := 316) dL_refusesFilms_315 rfl rfl ?_
            exact jj_retI (ty := .boolean) rfl rfl dL_refusesFilms_316 ⟨Nat.le_of_ble_eq_true rfl, Nat.le_of_ble_eq_true rfl⟩ hF
          · skip
            refine jj_aload_n (j := 0) (i := 0) (pc' := 301) dL_refusesFilms_300 rfl rfl rfl ?_
            refine jj_bipush (v := (25 : Int32)) (pc' := 303) dL_refusesFilms_301 rfl rfl ?_
            refine jj_iload_n (j := 2) (i := 2) (pc' := 304) dL_refusesFilms_303 rfl rfl rfl ?_
            refine jj_iconst (v := (0 : Int32)) (pc' := 305) dL_refusesFilms_304 rfl rfl ?_
            refine jj_iconst (v := (-1 : Int32)) (pc' := 306) dL_refusesFilms_305 rfl rfl ?_
            refine jj_lconst (v := (0 : Int64)) (pc' := 307) dL_refusesFilms_306 rfl rfl ?_
            refine jj_cI (N := M_L_call) (kc' := 977) (ks' := 5862) (pc' := 310) (jg_H (N := M_L_call) (rest := []) (as := [.ref a0, .int ((25 : Int32)), .int x2, .int ((0 : Int32)), .int ((-1 : Int32)), .long ((0 : Int64))]) cf_L_119 (by decide) dL_refusesFilms_307 rfl rfl ⟨Nat.le_of_ble_eq_true rfl, Nat.le_of_ble_eq_true rfl⟩ ⟨Nat.le_of_ble_eq_true rfl, Nat.le_of_ble_eq_true rfl⟩ (Nat.le_of_ble_eq_true rfl) (fun X' hX => KL_call hX)) rfl rfl rfl rfl ⟨Nat.le_of_ble_eq_true rfl, Nat.le_of_ble_eq_true rfl⟩ rfl hF (fun x110 h109 hF => ?_)
            refine jj_bipush (v := (-11 : Int32)) (pc' := 312) dL_refusesFilms_310 rfl rfl ?_
            refine jj_icmp_eq (tgt := 317) (pc' := 315) dL_refusesFilms_312 rfl rfl (fun hc hF => ?_) (fun hc hF => ?_) hF
            · skip
              refine jj_wide (kc' := 977) (ks' := 5862) (Nat.le_of_ble_eq_true rfl) (Nat.le_of_ble_eq_true rfl) ?_
              exact jj_pick [0, 1, 3, 4] rfl (BL_refusesFilms_317 N N a0 x1 x3 x4 h109 _ hF)
            · skip
              refine jj_iconst (v := (0 : Int32)) (pc' := 316) dL_refusesFilms_315 rfl rfl ?_
              exact jj_retI (ty := .boolean) rfl rfl dL_refusesFilms_316 ⟨Nat.le_of_ble_eq_true rfl, Nat.le_of_ble_eq_true rfl⟩ hF
set_option maxRecDepth 100000 in
set_option maxHeartbeats 4000000 in
theorem BL_refusesFilms_109 (N : Nat) : ∀ (n : Nat) (a0 : Nat) (x1 : Int32) (x2 : Int32) (x3 : Int32) (x4 : Int32) (h : jm_H) (X : jm_X), FL_refusesFilms_109 N n a0 x1 x2 x3 x4 h = some X → jm_J M_L_refusesFilms 109 [(0, .ref a0), (1, .int x1), (2, .int x2), (3, .int x3), (4, .int x4)] [] h 245 1470 X := by
  intro n
  induction n with
  | zero =>
    intro a0 x1 x2 x3 x4 h X hF
    exact nomatch (show (none : Option jm_X) = some X from hF)
  | succ n ih =>
    intro a0 x1 x2 x3 x4 h X hF
    rw [FL_refusesFilms_109] at hF
    refine jj_aload_n (j := 0) (i := 0) (pc' := 110) dL_refusesFilms_109 rfl rfl rfl ?_
    refine jj_iconst (v := (2 : Int32)) (pc' := 111) dL_refusesFilms_110 rfl rfl ?_
    refine jj_iload_n (j := 1) (i := 1) (pc' := 112) dL_refusesFilms_111 rfl rfl rfl ?_
    refine jj_iconst (v := (0 : Int32)) (pc' := 113) dL_refusesFilms_112 rfl rfl ?_
    refine jj_iconst (v := (3 : Int32)) (pc' := 114) dL_refusesFilms_113 rfl rfl ?_
    refine jj_cI (N := M_L_far) (kc' := 245) (ks' := 1470) (pc' := 117) (jg_S (N := M_L_far) (rest := [.int ((2 : Int32)), .ref a0]) (as := [.int x1, .int ((0 : Int32)), .int ((3 : Int32))]) cf_L_114 rfl dL_refusesFilms_114 rfl rfl ⟨Nat.le_of_ble_eq_true rfl, Nat.le_of_ble_eq_true rfl⟩ ⟨Nat.le_of_ble_eq_true rfl, Nat.le_of_ble_eq_true rfl⟩ (Nat.le_of_ble_eq_true rfl) (fun X' hX => KL_far hX)) rfl rfl rfl rfl ⟨Nat.le_of_ble_eq_true rfl, Nat.le_of_ble_eq_true rfl⟩ rfl hF (fun x102 h101 hF => ?_)
    refine jj_bipush (v := (99 : Int32)) (pc' := 119) dL_refusesFilms_117 rfl rfl ?_
    refine jj_iconst (v := (0 : Int32)) (pc' := 120) dL_refusesFilms_119 rfl rfl ?_
    refine jj_lconst (v := (0 : Int64)) (pc' := 121) dL_refusesFilms_120 rfl rfl ?_
    refine jj_cI (N := M_L_call) (kc' := 306) (ks' := 1836) (pc' := 124) (jg_H (N := M_L_call) (rest := []) (as := [.ref a0, .int ((2 : Int32)), .int x102, .int ((99 : Int32)), .int ((0 : Int32)), .long ((0 : Int64))]) cf_L_119 (by decide) dL_refusesFilms_121 rfl rfl ⟨Nat.le_of_ble_eq_true rfl, Nat.le_of_ble_eq_true rfl⟩ ⟨Nat.le_of_ble_eq_true rfl, Nat.le_of_ble_eq_true rfl⟩ (Nat.le_of_ble_eq_true rfl) (fun X' hX => KL_call hX)) rfl rfl rfl rfl ⟨Nat.le_of_ble_eq_true rfl, Nat.le_of_ble_eq_true rfl⟩ rfl hF (fun x104 h103 hF => ?_)
    refine jj_bipush (v := (-11 : Int32)) (pc' := 126) dL_refusesFilms_124 rfl rfl ?_
    refine jj_icmp_ne (tgt := 315) (pc' := 129) dL_refusesFilms_126 rfl rfl (fun hc hF => ?_) (fun hc hF => ?_) hF
    · skip
      refine jj_iconst (v := (0 : Int32)) (pc' := 316) dL_refusesFilms_315 rfl rfl ?_
      exact jj_retI (ty := .boolean) rfl rfl dL_refusesFilms_316 ⟨Nat.le_of_ble_eq_true rfl, Nat.le_of_ble_eq_true rfl⟩ hF
    · skip
      refine jj_aload_n (j := 0) (i := 0) (pc' := 130) dL_refusesFilms_129 rfl rfl rfl ?_
      refine jj_iconst (v := (2 : Int32)) (pc' := 131) dL_refusesFilms_130 rfl rfl ?_
      refine jj_iconst (v := (3 : Int32)) (pc' := 132) dL_refusesFilms_131 rfl rfl ?_
      refine jj_iload_n (j := 1) (i := 1) (pc' := 133) dL_refusesFilms_132 rfl rfl rfl ?_
      refine jj_iconst (v := (0 : Int32)) (pc' := 134) dL_refusesFilms_133 rfl rfl ?_
      refine jj_bipush (v := (60 : Int32)) (pc' := 136) dL_refusesFilms_134 rfl rfl ?_
      refine jj_cI (N := M_L_far) (kc' := 306) (ks' := 1836) (pc' := 139) (jg_S (N := M_L_far) (rest := [.int ((3 : Int32)), .int ((2 : Int32)), .ref a0]) (as := [.int x1, .int ((0 : Int32)), .int ((60 : Int32))]) cf_L_114 rfl dL_refusesFilms_136 rfl rfl ⟨Nat.le_of_ble_eq_true rfl, Nat.le_of_ble_eq_true rfl⟩ ⟨Nat.le_of_ble_eq_true rfl, Nat.le_of_ble_eq_true rfl⟩ (Nat.le_of_ble_eq_true rfl) (fun X' hX => KL_far hX)) rfl rfl rfl rfl ⟨Nat.le_of_ble_eq_true rfl, Nat.le_of_ble_eq_true rfl⟩ rfl hF (fun x106 h105 hF => ?_)
      refine jj_iconst (v := (0 : Int32)) (pc' := 140) dL_refusesFilms_139 rfl rfl ?_
      refine jj_lconst (v := (0 : Int64)) (pc' := 141) dL_refusesFilms_140 rfl rfl ?_
      refine jj_cI (N := M_L_call) (kc' := 367) (ks' := 2202) (pc' := 144) (jg_H (N := M_L_call) (rest := []) (as := [.ref a0, .int ((2 : Int32)), .int ((3 : Int32)), .int x106, .int ((0 : Int32)), .long ((0 : Int64))]) cf_L_119 (by decide) dL_refusesFilms_141 rfl rfl ⟨Nat.le_of_ble_eq_true rfl, Nat.le_of_ble_eq_true rfl⟩ ⟨Nat.le_of_ble_eq_true rfl, Nat.le_of_ble_eq_true rfl⟩ (Nat.le_of_ble_eq_true rfl) (fun X' hX => KL_call hX)) rfl rfl rfl rfl ⟨Nat.le_of_ble_eq_true rfl, Nat.le_of_ble_eq_true rfl⟩ rfl hF (fun x108 h107 hF => ?_)
      refine jj_bipush (v := (-12 : Int32)) (pc' := 146) dL_refusesFilms_144 rfl rfl ?_
      refine jj_icmp_ne (tgt := 315) (pc' := 149) dL_refusesFilms_146 rfl rfl (fun hc hF => ?_) (fun hc hF => ?_) hF
      · skip
        refine jj_iconst (v := (0 : Int32)) (pc' := 316) dL_refusesFilms_315 rfl rfl ?_
        exact jj_retI (ty := .boolean) rfl rfl dL_refusesFilms_316 ⟨Nat.le_of_ble_eq_true rfl, Nat.le_of_ble_eq_true rfl⟩ hF
      · skip
        refine jj_aload_n (j := 0) (i := 0) (pc' := 150) dL_refusesFilms_149 rfl rfl rfl ?_
        refine jj_iconst (v := (3 : Int32)) (pc' := 151) dL_refusesFilms_150 rfl rfl ?_
        refine jj_iload_n (j := 2) (i := 2) (pc' := 152) dL_refusesFilms_151 rfl rfl rfl ?_
        refine jj_iconst (v := (0 : Int32)) (pc' := 153) dL_refusesFilms_152 rfl rfl ?_
        refine jj_iconst (v := (-1 : Int32)) (pc' := 154) dL_refusesFilms_153 rfl rfl ?_
        refine jj_ldc2l (v := (500 : Int64)) (pc' := 157) dL_refusesFilms_154 qw_78 rfl ?_
        refine jj_cI (N := M_L_call) (kc' := 428) (ks' := 2568) (pc' := 160) (jg_H (N := M_L_call) (rest := []) (as := [.ref a0, .int ((3 : Int32)), .int x2, .int ((0 : Int32)), .int ((-1 : Int32)), .long ((500 : Int64))]) cf_L_119 (by decide) dL_refusesFilms_157 rfl rfl ⟨Nat.le_of_ble_eq_true rfl, Nat.le_of_ble_eq_true rfl⟩ ⟨Nat.le_of_ble_eq_true rfl, Nat.le_of_ble_eq_true rfl⟩ (Nat.le_of_ble_eq_true rfl) (fun X' hX => KL_call hX)) rfl rfl rfl rfl ⟨Nat.le_of_ble_eq_true rfl, Nat.le_of_ble_eq_true rfl⟩ rfl hF (fun x110 h109 hF => ?_)
        refine jj_bipush (v := (-11 : Int32)) (pc' := 162) dL_refusesFilms_160 rfl rfl ?_
        refine jj_icmp_ne (tgt := 315) (pc' := 165) dL_refusesFilms_162 rfl rfl (fun hc hF => ?_) (fun hc hF => ?_) hF
        · skip
          refine jj_iconst (v := (0 : Int32)) (pc' := 316) dL_refusesFilms_315 rfl rfl ?_
          exact jj_retI (ty := .boolean) rfl rfl dL_refusesFilms_316 ⟨Nat.le_of_ble_eq_true rfl, Nat.le_of_ble_eq_true rfl⟩ hF
        · skip
          refine jj_aload_n (j := 0) (i := 0) (pc' := 166) dL_refusesFilms_165 rfl rfl rfl ?_
          refine jj_bipush (v := (6 : Int32)) (pc' := 168) dL_refusesFilms_166 rfl rfl ?_
          refine jj_iload_n (j := 2) (i := 2) (pc' := 169) dL_refusesFilms_168 rfl rfl rfl ?_
          refine jj_iconst (v := (-1 : Int32)) (pc' := 170) dL_refusesFilms_169 rfl rfl ?_
          refine jj_iconst (v := (0 : Int32)) (pc' := 171) dL_refusesFilms_170 rfl rfl ?_
          refine jj_lconst (v := (0 : Int64)) (pc' := 172) dL_refusesFilms_171 rfl rfl ?_
          refine jj_cI (N := M_L_call) (kc' := 489) (ks' := 2934) (pc' := 175) (jg_H (N := M_L_call) (rest := []) (as := [.ref a0, .int ((6 : Int32)), .int x2, .int ((-1 : Int32)), .int ((0 : Int32)), .long ((0 : Int64))]) cf_L_119 (by decide) dL_refusesFilms_172 rfl rfl ⟨Nat.le_of_ble_eq_true rfl, Nat.le_of_ble_eq_true rfl⟩ ⟨Nat.le_of_ble_eq_true rfl, Nat.le_of_ble_eq_true rfl⟩ (Nat.le_of_ble_eq_true rfl) (fun X' hX => KL_call hX)) rfl rfl rfl rfl ⟨Nat.le_of_ble_eq_true rfl, Nat.le_of_ble_eq_true rfl⟩ rfl hF (fun x112 h111 hF => ?_)
          refine jj_bipush (v := (-11 : Int32)) (pc' := 177) dL_refusesFilms_175 rfl rfl ?_
          refine jj_icmp_ne (tgt := 315) (pc' := 180) dL_refusesFilms_177 rfl rfl (fun hc hF => ?_) (fun hc hF => ?_) hF
          · skip
            refine jj_iconst (v := (0 : Int32)) (pc' := 316) dL_refusesFilms_315 rfl rfl ?_
            exact jj_retI (ty := .boolean) rfl rfl dL_refusesFilms_316 ⟨Nat.le_of_ble_eq_true rfl, Nat.le_of_ble_eq_true rfl⟩ hF
          · skip
            refine jj_aload_n (j := 0) (i := 0) (pc' := 181) dL_refusesFilms_180 rfl rfl rfl ?_
            refine jj_bipush (v := (9 : Int32)) (pc' := 183) dL_refusesFilms_181 rfl rfl ?_
            refine jj_iload_n (j := 1) (i := 1) (pc' := 184) dL_refusesFilms_183 rfl rfl rfl ?_
            refine jj_bipush (v := (33 : Int32)) (pc' := 186) dL_refusesFilms_184 rfl rfl ?_
            refine jj_bipush (v := (126 : Int32)) (pc' := 188) dL_refusesFilms_186 rfl rfl ?_
            refine jj_cI (N := M_L_far) (kc' := 489) (ks' := 2934) (pc' := 191) (jg_S (N := M_L_far) (rest := [.int ((9 : Int32)), .ref a0]) (as := [.int x1, .int ((33 : Int32)), .int ((126 : Int32))]) cf_L_114 rfl dL_refusesFilms_188 rfl rfl ⟨Nat.le_of_ble_eq_true rfl, Nat.le_of_ble_eq_true rfl⟩ ⟨Nat.le_of_ble_eq_true rfl, Nat.le_of_ble_eq_true rfl⟩ (Nat.le_of_ble_eq_true rfl) (fun X' hX => KL_far hX)) rfl rfl rfl rfl ⟨Nat.le_of_ble_eq_true rfl, Nat.le_of_ble_eq_true rfl⟩ rfl hF (fun x114 h113 hF => ?_)
            refine jj_iconst (v := (0 : Int32)) (pc' := 192) dL_refusesFilms_191 rfl rfl ?_
            refine jj_iconst (v := (0 : Int32)) (pc' := 193) dL_refusesFilms_192 rfl rfl ?_
            refine jj_lconst (v := (0 : Int64)) (pc' := 194) dL_refusesFilms_193 rfl rfl ?_
            refine jj_cI (N := M_L_call) (kc' := 550) (ks' := 3300) (pc' := 197) (jg_H (N := M_L_call) (rest := []) (as := [.ref a0, .int ((9 : Int32)), .int x114, .int ((0 : Int32)), .int ((0 : Int32)), .long ((0 : Int64))]) cf_L_119 (by decide) dL_refusesFilms_194 rfl rfl ⟨Nat.le_of_ble_eq_true rfl, Nat.le_of_ble_eq_true rfl⟩ ⟨Nat.le_of_ble_eq_true rfl, Nat.le_of_ble_eq_true rfl⟩ (Nat.le_of_ble_eq_true rfl) (fun X' hX => KL_call hX)) rfl rfl rfl rfl ⟨Nat.le_of_ble_eq_true rfl, Nat.le_of_ble_eq_true rfl⟩ rfl hF (fun x116 h115 hF => ?_)
            refine jj_bipush (v := (-12 : Int32)) (pc' := 199) dL_refusesFilms_197 rfl rfl ?_
            refine jj_icmp_ne (tgt := 315) (pc' := 202) dL_refusesFilms_199 rfl rfl (fun hc hF => ?_) (fun hc hF => ?_) hF
            · skip
              refine jj_iconst (v := (0 : Int32)) (pc' := 316) dL_refusesFilms_315 rfl rfl ?_
              exact jj_retI (ty := .boolean) rfl rfl dL_refusesFilms_316 ⟨Nat.le_of_ble_eq_true rfl, Nat.le_of_ble_eq_true rfl⟩ hF
            · skip
              refine jj_aload_n (j := 0) (i := 0) (pc' := 203) dL_refusesFilms_202 rfl rfl rfl ?_
              refine jj_bipush (v := (10 : Int32)) (pc' := 205) dL_refusesFilms_203 rfl rfl ?_
              refine jj_iconst (v := (0 : Int32)) (pc' := 206) dL_refusesFilms_205 rfl rfl ?_
              refine jj_iconst (v := (0 : Int32)) (pc' := 207) dL_refusesFilms_206 rfl rfl ?_
              refine jj_iconst (v := (0 : Int32)) (pc' := 208) dL_refusesFilms_207 rfl rfl ?_
              refine jj_lconst (v := (0 : Int64)) (pc' := 209) dL_refusesFilms_208 rfl rfl ?_
              refine jj_cI (N := M_L_call) (kc' := 611) (ks' := 3666) (pc' := 212) (jg_H (N := M_L_call) (rest := []) (as := [.ref a0, .int ((10 : Int32)), .int ((0 : Int32)), .int ((0 : Int32)), .int ((0 : Int32)), .long ((0 : Int64))]) cf_L_119 (by decide) dL_refusesFilms_209 rfl rfl ⟨Nat.le_of_ble_eq_true rfl, Nat.le_of_ble_eq_true rfl⟩ ⟨Nat.le_of_ble_eq_true rfl, Nat.le_of_ble_eq_true rfl⟩ (Nat.le_of_ble_eq_true rfl) (fun X' hX => KL_call hX)) rfl rfl rfl rfl ⟨Nat.le_of_ble_eq_true rfl, Nat.le_of_ble_eq_true rfl⟩ rfl hF (fun x118 h117 hF => ?_)
              refine jj_bipush (v := (-12 : Int32)) (pc' := 214) dL_refusesFilms_212 rfl rfl ?_
              refine jj_icmp_ne (tgt := 315) (pc' := 217) dL_refusesFilms_214 rfl rfl (fun hc hF => ?_) (fun hc hF => ?_) hF
              · skip
                refine jj_iconst (v := (0 : Int32)) (pc' := 316) dL_refusesFilms_315 rfl rfl ?_
                exact jj_retI (ty := .boolean) rfl rfl dL_refusesFilms_316 ⟨Nat.le_of_ble_eq_true rfl, Nat.le_of_ble_eq_true rfl⟩ hF
              · skip
                refine jj_aload_n (j := 0) (i := 0) (pc' := 218) dL_refusesFilms_217 rfl rfl rfl ?_
                refine jj_bipush (v := (11 : Int32)) (pc' := 220) dL_refusesFilms_218 rfl rfl ?_
                refine jj_iload_n (j := 1) (i := 1) (pc' := 221) dL_refusesFilms_220 rfl rfl rfl ?_
                refine jj_iconst (v := (0 : Int32)) (pc' := 222) dL_refusesFilms_221 rfl rfl ?_
                refine jj_iconst (v := (2 : Int32)) (pc' := 223) dL_refusesFilms_222 rfl rfl ?_
                refine jj_cI (N := M_L_far) (kc' := 611) (ks' := 3666) (pc' := 226) (jg_S (N := M_L_far) (rest := [.int ((11 : Int32)), .ref a0]) (as := [.int x1, .int ((0 : Int32)), .int ((2 : Int32))]) cf_L_114 rfl dL_refusesFilms_223 rfl rfl ⟨Nat.le_of_ble_eq_true rfl, Nat.le_of_ble_eq_true rfl⟩ ⟨Nat.le_of_ble_eq_true rfl, Nat.le_of_ble_eq_true rfl⟩ (Nat.le_of_ble_eq_true rfl) (fun X' hX => KL_far hX)) rfl rfl rfl rfl ⟨Nat.le_of_ble_eq_true rfl, Nat.le_of_ble_eq_true rfl⟩ rfl hF (fun x120 h119 hF => ?_)
                refine jj_iconst (v := (0 : Int32)) (pc' := 227) dL_refusesFilms_226 rfl rfl ?_
                refine jj_iconst (v := (0 : Int32)) (pc' := 228) dL_refusesFilms_227 rfl rfl ?_
                refine jj_lconst (v := (0 : Int64)) (pc' := 229) dL_refusesFilms_228 rfl rfl ?_
                refine jj_cI (N := M_L_call) (kc' := 672) (ks' := 4032) (pc' := 232) (jg_H (N := M_L_call) (rest := []) (as := [.ref a0, .int ((11 : Int32)), .int x120, .int ((0 : Int32)), .int ((0 : Int32)), .long ((0 : Int64))]) cf_L_119 (by decide) dL_refusesFilms_229 rfl rfl ⟨Nat.le_of_ble_eq_true rfl, Nat.le_of_ble_eq_true rfl⟩ ⟨Nat.le_of_ble_eq_true rfl, Nat.le_of_ble_eq_true rfl⟩ (Nat.le_of_ble_eq_true rfl) (fun X' hX => KL_call hX)) rfl rfl rfl rfl ⟨Nat.le_of_ble_eq_true rfl, Nat.le_of_ble_eq_true rfl⟩ rfl hF (fun x122 h121 hF => ?_)
                refine jj_bipush (v := (-12 : Int32)) (pc' := 234) dL_refusesFilms_232 rfl rfl ?_
                refine jj_icmp_ne (tgt := 315) (pc' := 237) dL_refusesFilms_234 rfl rfl (fun hc hF => ?_) (fun hc hF => ?_) hF
                · skip
                  refine jj_iconst (v := (0 : Int32)) (pc' := 316) dL_refusesFilms_315 rfl rfl ?_
                  exact jj_retI (ty := .boolean) rfl rfl dL_refusesFilms_316 ⟨Nat.le_of_ble_eq_true rfl, Nat.le_of_ble_eq_true rfl⟩ hF
                · skip
                  refine jj_wide (kc' := 672) (ks' := 4032) (Nat.le_of_ble_eq_true rfl) (Nat.le_of_ble_eq_true rfl) ?_
                  exact jj_pick [0, 1, 2, 3, 4] rfl (BL_refusesFilms_237 N N a0 x1 x2 x3 x4 h121 _ hF)
set_option maxRecDepth 100000 in
set_option maxHeartbeats 4000000 in
theorem JL_refusesFilms {N : Nat} {a0 : Nat} {x1 : Int32} {h : jm_H} {X : jm_X} (hF : FL_refusesFilms N a0 x1 h = some X) : jm_J M_L_refusesFilms 0 [(0, .ref a0), (1, .int x1)] [] h 0 0 X := by
  unfold FL_refusesFilms at hF
  refine jj_iload_n (j := 1) (i := 1) (pc' := 1) dL_refusesFilms_0 rfl rfl rfl ?_
  refine jj_iconst (v := (0 : Int32)) (pc' := 2) dL_refusesFilms_1 rfl rfl ?_
  refine jj_aload_n (j := 0) (i := 0) (pc' := 3) dL_refusesFilms_2 rfl rfl rfl ?_
  refine jj_iconst (v := (0 : Int32)) (pc' := 4) dL_refusesFilms_3 rfl rfl ?_
  refine jj_cI (N := M_X3_count) (kc' := 1) (ks' := 6) (pc' := 7) (jg_V (N := M_X3_count) (ci := 3) (rest := [.int ((0 : Int32)), .int x1]) (as := [.int ((0 : Int32))]) cf_L_81 dL_refusesFilms_4 ⟨rfl, rfl⟩ rfl rfl ⟨Nat.le_of_ble_eq_true rfl, Nat.le_of_ble_eq_true rfl⟩ ⟨Nat.le_of_ble_eq_true rfl, Nat.le_of_ble_eq_true rfl⟩ (Nat.le_of_ble_eq_true rfl) (fun X' hX => KX3_count hX)) rfl rfl rfl rfl ⟨Nat.le_of_ble_eq_true rfl, Nat.le_of_ble_eq_true rfl⟩ rfl hF (fun x102 h101 hF => ?_)
  refine jj_iconst (v := (1 : Int32)) (pc' := 8) dL_refusesFilms_7 rfl rfl ?_
  refine jj_isub (pc' := 9) dL_refusesFilms_8 rfl ?_
  refine jj_cI (N := M_L_far) (kc' := 1) (ks' := 6) (pc' := 12) (jg_S (N := M_L_far) (rest := []) (as := [.int x1, .int ((0 : Int32)), .int (x102 - ((1 : Int32)))]) cf_L_114 rfl dL_refusesFilms_9 rfl rfl ⟨Nat.le_of_ble_eq_true rfl, Nat.le_of_ble_eq_true rfl⟩ ⟨Nat.le_of_ble_eq_true rfl, Nat.le_of_ble_eq_true rfl⟩ (Nat.le_of_ble_eq_true rfl) (fun X' hX => KL_far hX)) rfl rfl rfl rfl ⟨Nat.le_of_ble_eq_true rfl, Nat.le_of_ble_eq_true rfl⟩ rfl hF (fun x104 h103 hF => ?_)
  refine jj_istore_n (i := 2) (ls' := [(2, .int x104), (0, .ref a0), (1, .int x1)]) (pc' := 13) dL_refusesFilms_12 rfl (Nat.le_of_ble_eq_true rfl) rfl rfl ?_
  refine jj_iload_n (j := 2) (i := 1) (pc' := 14) dL_refusesFilms_13 rfl rfl rfl ?_
  refine jj_iconst (v := (0 : Int32)) (pc' := 15) dL_refusesFilms_14 rfl rfl ?_
  refine jj_iconst (v := (2 : Int32)) (pc' := 16) dL_refusesFilms_15 rfl rfl ?_
  refine jj_cI (N := M_L_far) (kc' := 1) (ks' := 6) (pc' := 19) (jg_S (N := M_L_far) (rest := []) (as := [.int x1, .int ((0 : Int32)), .int ((2 : Int32))]) cf_L_114 rfl dL_refusesFilms_16 rfl rfl ⟨Nat.le_of_ble_eq_true rfl, Nat.le_of_ble_eq_true rfl⟩ ⟨Nat.le_of_ble_eq_true rfl, Nat.le_of_ble_eq_true rfl⟩ (Nat.le_of_ble_eq_true rfl) (fun X' hX => KL_far hX)) rfl rfl rfl rfl ⟨Nat.le_of_ble_eq_true rfl, Nat.le_of_ble_eq_true rfl⟩ rfl hF (fun x106 h105 hF => ?_)
  refine jj_istore_n (i := 3) (ls' := [(3, .int x106), (2, .int x104), (0, .ref a0), (1, .int x1)]) (pc' := 20) dL_refusesFilms_19 rfl (Nat.le_of_ble_eq_true rfl) rfl rfl ?_
  refine jj_iload_n (j := 3) (i := 1) (pc' := 21) dL_refusesFilms_20 rfl rfl rfl ?_
  refine jj_iconst (v := (0 : Int32)) (pc' := 22) dL_refusesFilms_21 rfl rfl ?_
  refine jj_sipush (v := (1999 : Int32)) (pc' := 25) dL_refusesFilms_22 rfl rfl ?_
  refine jj_cI (N := M_L_far) (kc' := 1) (ks' := 6) (pc' := 28) (jg_S (N := M_L_far) (rest := []) (as := [.int x1, .int ((0 : Int32)), .int ((1999 : Int32))]) cf_L_114 rfl dL_refusesFilms_25 rfl rfl ⟨Nat.le_of_ble_eq_true rfl, Nat.le_of_ble_eq_true rfl⟩ ⟨Nat.le_of_ble_eq_true rfl, Nat.le_of_ble_eq_true rfl⟩ (Nat.le_of_ble_eq_true rfl) (fun X' hX => KL_far hX)) rfl rfl rfl rfl ⟨Nat.le_of_ble_eq_true rfl, Nat.le_of_ble_eq_true rfl⟩ rfl hF (fun x108 h107 hF => ?_)
  refine jj_istore (i := 4) (ls' := [(4, .int x108), (3, .int x106), (2, .int x104), (0, .ref a0), (1, .int x1)]) (pc' := 30) dL_refusesFilms_28 (Nat.le_of_ble_eq_true rfl) rfl rfl ?_
  refine jj_aload_n (j := 3) (i := 0) (pc' := 31) dL_refusesFilms_30 rfl rfl rfl ?_
  refine jj_iconst (v := (0 : Int32)) (pc' := 32) dL_refusesFilms_31 rfl rfl ?_
  refine jj_iload_n (j := 4) (i := 1) (pc' := 33) dL_refusesFilms_32 rfl rfl rfl ?_
  refine jj_iconst (v := (1 : Int32)) (pc' := 34) dL_refusesFilms_33 rfl rfl ?_
  refine jj_bipush (v := (6 : Int32)) (pc' := 36) dL_refusesFilms_34 rfl rfl ?_
  refine jj_cI (N := M_L_far) (kc' := 1) (ks' := 6) (pc' := 39) (jg_S (N := M_L_far) (rest := [.int ((0 : Int32)), .ref a0]) (as := [.int x1, .int ((1 : Int32)), .int ((6 : Int32))]) cf_L_114 rfl dL_refusesFilms_36 rfl rfl ⟨Nat.le_of_ble_eq_true rfl, Nat.le_of_ble_eq_true rfl⟩ ⟨Nat.le_of_ble_eq_true rfl, Nat.le_of_ble_eq_true rfl⟩ (Nat.le_of_ble_eq_true rfl) (fun X' hX => KL_far hX)) rfl rfl rfl rfl ⟨Nat.le_of_ble_eq_true rfl, Nat.le_of_ble_eq_true rfl⟩ rfl hF (fun x110 h109 hF => ?_)
  refine jj_bipush (v := (10 : Int32)) (pc' := 41) dL_refusesFilms_39 rfl rfl ?_
  refine jj_iconst (v := (0 : Int32)) (pc' := 42) dL_refusesFilms_41 rfl rfl ?_
  refine jj_lconst (v := (0 : Int64)) (pc' := 43) dL_refusesFilms_42 rfl rfl ?_
  refine jj_cI (N := M_L_call) (kc' := 62) (ks' := 372) (pc' := 46) (jg_H (N := M_L_call) (rest := []) (as := [.ref a0, .int ((0 : Int32)), .int x110, .int ((10 : Int32)), .int ((0 : Int32)), .long ((0 : Int64))]) cf_L_119 (by decide) dL_refusesFilms_43 rfl rfl ⟨Nat.le_of_ble_eq_true rfl, Nat.le_of_ble_eq_true rfl⟩ ⟨Nat.le_of_ble_eq_true rfl, Nat.le_of_ble_eq_true rfl⟩ (Nat.le_of_ble_eq_true rfl) (fun X' hX => KL_call hX)) rfl rfl rfl rfl ⟨Nat.le_of_ble_eq_true rfl, Nat.le_of_ble_eq_true rfl⟩ rfl hF (fun x112 h111 hF => ?_)
  refine jj_bipush (v := (-12 : Int32)) (pc' := 48) dL_refusesFilms_46 rfl rfl ?_
  refine jj_icmp_ne (tgt := 315) (pc' := 51) dL_refusesFilms_48 rfl rfl (fun hc hF => ?_) (fun hc hF => ?_) hF
  · skip
    refine jj_iconst (v := (0 : Int32)) (pc' := 316) dL_refusesFilms_315 rfl rfl ?_
    exact jj_retI (ty := .boolean) rfl rfl dL_refusesFilms_316 ⟨Nat.le_of_ble_eq_true rfl, Nat.le_of_ble_eq_true rfl⟩ hF
  · skip
    refine jj_aload_n (j := 3) (i := 0) (pc' := 52) dL_refusesFilms_51 rfl rfl rfl ?_
    refine jj_iconst (v := (0 : Int32)) (pc' := 53) dL_refusesFilms_52 rfl rfl ?_
    refine jj_bipush (v := (6 : Int32)) (pc' := 55) dL_refusesFilms_53 rfl rfl ?_
    refine jj_iload_n (j := 4) (i := 1) (pc' := 56) dL_refusesFilms_55 rfl rfl rfl ?_
    refine jj_bipush (v := (10 : Int32)) (pc' := 58) dL_refusesFilms_56 rfl rfl ?_
    refine jj_bipush (v := (25 : Int32)) (pc' := 60) dL_refusesFilms_58 rfl rfl ?_
    refine jj_cI (N := M_L_far) (kc' := 62) (ks' := 372) (pc' := 63) (jg_S (N := M_L_far) (rest := [.int ((6 : Int32)), .int ((0 : Int32)), .ref a0]) (as := [.int x1, .int ((10 : Int32)), .int ((25 : Int32))]) cf_L_114 rfl dL_refusesFilms_60 rfl rfl ⟨Nat.le_of_ble_eq_true rfl, Nat.le_of_ble_eq_true rfl⟩ ⟨Nat.le_of_ble_eq_true rfl, Nat.le_of_ble_eq_true rfl⟩ (Nat.le_of_ble_eq_true rfl) (fun X' hX => KL_far hX)) rfl rfl rfl rfl ⟨Nat.le_of_ble_eq_true rfl, Nat.le_of_ble_eq_true rfl⟩ rfl hF (fun x114 h113 hF => ?_)
    refine jj_iconst (v := (0 : Int32)) (pc' := 64) dL_refusesFilms_63 rfl rfl ?_
    refine jj_lconst (v := (0 : Int64)) (pc' := 65) dL_refusesFilms_64 rfl rfl ?_
    refine jj_cI (N := M_L_call) (kc' := 123) (ks' := 738) (pc' := 68) (jg_H (N := M_L_call) (rest := []) (as := [.ref a0, .int ((0 : Int32)), .int ((6 : Int32)), .int x114, .int ((0 : Int32)), .long ((0 : Int64))]) cf_L_119 (by decide) dL_refusesFilms_65 rfl rfl ⟨Nat.le_of_ble_eq_true rfl, Nat.le_of_ble_eq_true rfl⟩ ⟨Nat.le_of_ble_eq_true rfl, Nat.le_of_ble_eq_true rfl⟩ (Nat.le_of_ble_eq_true rfl) (fun X' hX => KL_call hX)) rfl rfl rfl rfl ⟨Nat.le_of_ble_eq_true rfl, Nat.le_of_ble_eq_true rfl⟩ rfl hF (fun x116 h115 hF => ?_)
    refine jj_bipush (v := (-12 : Int32)) (pc' := 70) dL_refusesFilms_68 rfl rfl ?_
    refine jj_icmp_ne (tgt := 315) (pc' := 73) dL_refusesFilms_70 rfl rfl (fun hc hF => ?_) (fun hc hF => ?_) hF
    · skip
      refine jj_iconst (v := (0 : Int32)) (pc' := 316) dL_refusesFilms_315 rfl rfl ?_
      exact jj_retI (ty := .boolean) rfl rfl dL_refusesFilms_316 ⟨Nat.le_of_ble_eq_true rfl, Nat.le_of_ble_eq_true rfl⟩ hF
    · skip
      refine jj_aload_n (j := 3) (i := 0) (pc' := 74) dL_refusesFilms_73 rfl rfl rfl ?_
      refine jj_iconst (v := (1 : Int32)) (pc' := 75) dL_refusesFilms_74 rfl rfl ?_
      refine jj_iload_n (j := 1) (i := 3) (pc' := 76) dL_refusesFilms_75 rfl rfl rfl ?_
      refine jj_iconst (v := (0 : Int32)) (pc' := 77) dL_refusesFilms_76 rfl rfl ?_
      refine jj_iconst (v := (0 : Int32)) (pc' := 78) dL_refusesFilms_77 rfl rfl ?_
      refine jj_lconst (v := (0 : Int64)) (pc' := 79) dL_refusesFilms_78 rfl rfl ?_
      refine jj_cI (N := M_L_call) (kc' := 184) (ks' := 1104) (pc' := 82) (jg_H (N := M_L_call) (rest := []) (as := [.ref a0, .int ((1 : Int32)), .int x106, .int ((0 : Int32)), .int ((0 : Int32)), .long ((0 : Int64))]) cf_L_119 (by decide) dL_refusesFilms_79 rfl rfl ⟨Nat.le_of_ble_eq_true rfl, Nat.le_of_ble_eq_true rfl⟩ ⟨Nat.le_of_ble_eq_true rfl, Nat.le_of_ble_eq_true rfl⟩ (Nat.le_of_ble_eq_true rfl) (fun X' hX => KL_call hX)) rfl rfl rfl rfl ⟨Nat.le_of_ble_eq_true rfl, Nat.le_of_ble_eq_true rfl⟩ rfl hF (fun x118 h117 hF => ?_)
      refine jj_bipush (v := (-11 : Int32)) (pc' := 84) dL_refusesFilms_82 rfl rfl ?_
      refine jj_icmp_ne (tgt := 315) (pc' := 87) dL_refusesFilms_84 rfl rfl (fun hc hF => ?_) (fun hc hF => ?_) hF
      · skip
        refine jj_iconst (v := (0 : Int32)) (pc' := 316) dL_refusesFilms_315 rfl rfl ?_
        exact jj_retI (ty := .boolean) rfl rfl dL_refusesFilms_316 ⟨Nat.le_of_ble_eq_true rfl, Nat.le_of_ble_eq_true rfl⟩ hF
      · skip
        refine jj_aload_n (j := 3) (i := 0) (pc' := 88) dL_refusesFilms_87 rfl rfl rfl ?_
        refine jj_iconst (v := (1 : Int32)) (pc' := 89) dL_refusesFilms_88 rfl rfl ?_
        refine jj_iconst (v := (2 : Int32)) (pc' := 90) dL_refusesFilms_89 rfl rfl ?_
        refine jj_iload_n (j := 4) (i := 1) (pc' := 91) dL_refusesFilms_90 rfl rfl rfl ?_
        refine jj_bipush (v := (50 : Int32)) (pc' := 93) dL_refusesFilms_91 rfl rfl ?_
        refine jj_sipush (v := (400 : Int32)) (pc' := 96) dL_refusesFilms_93 rfl rfl ?_
        refine jj_cI (N := M_L_far) (kc' := 184) (ks' := 1104) (pc' := 99) (jg_S (N := M_L_far) (rest := [.int ((2 : Int32)), .int ((1 : Int32)), .ref a0]) (as := [.int x1, .int ((50 : Int32)), .int ((400 : Int32))]) cf_L_114 rfl dL_refusesFilms_96 rfl rfl ⟨Nat.le_of_ble_eq_true rfl, Nat.le_of_ble_eq_true rfl⟩ ⟨Nat.le_of_ble_eq_true rfl, Nat.le_of_ble_eq_true rfl⟩ (Nat.le_of_ble_eq_true rfl) (fun X' hX => KL_far hX)) rfl rfl rfl rfl ⟨Nat.le_of_ble_eq_true rfl, Nat.le_of_ble_eq_true rfl⟩ rfl hF (fun x120 h119 hF => ?_)
        refine jj_iconst (v := (0 : Int32)) (pc' := 100) dL_refusesFilms_99 rfl rfl ?_
        refine jj_lconst (v := (0 : Int64)) (pc' := 101) dL_refusesFilms_100 rfl rfl ?_
        refine jj_cI (N := M_L_call) (kc' := 245) (ks' := 1470) (pc' := 104) (jg_H (N := M_L_call) (rest := []) (as := [.ref a0, .int ((1 : Int32)), .int ((2 : Int32)), .int x120, .int ((0 : Int32)), .long ((0 : Int64))]) cf_L_119 (by decide) dL_refusesFilms_101 rfl rfl ⟨Nat.le_of_ble_eq_true rfl, Nat.le_of_ble_eq_true rfl⟩ ⟨Nat.le_of_ble_eq_true rfl, Nat.le_of_ble_eq_true rfl⟩ (Nat.le_of_ble_eq_true rfl) (fun X' hX => KL_call hX)) rfl rfl rfl rfl ⟨Nat.le_of_ble_eq_true rfl, Nat.le_of_ble_eq_true rfl⟩ rfl hF (fun x122 h121 hF => ?_)
        refine jj_bipush (v := (-12 : Int32)) (pc' := 106) dL_refusesFilms_104 rfl rfl ?_
        refine jj_icmp_ne (tgt := 315) (pc' := 109) dL_refusesFilms_106 rfl rfl (fun hc hF => ?_) (fun hc hF => ?_) hF
        · skip
          refine jj_iconst (v := (0 : Int32)) (pc' := 316) dL_refusesFilms_315 rfl rfl ?_
          exact jj_retI (ty := .boolean) rfl rfl dL_refusesFilms_316 ⟨Nat.le_of_ble_eq_true rfl, Nat.le_of_ble_eq_true rfl⟩ hF
        · skip
          refine jj_wide (kc' := 245) (ks' := 1470) (Nat.le_of_ble_eq_true rfl) (Nat.le_of_ble_eq_true rfl) ?_
          exact jj_pick [3, 4, 2, 1, 0] rfl (BL_refusesFilms_109 N N a0 x1 x104 x106 x108 h121 _ hF)
theorem KL_refusesFilms {N : Nat} {a0 : Nat} {x1 : Int32} {h : jm_H} {X : jm_X} (hF : FL_refusesFilms N a0 x1 h = some X) : jm_K M_L_refusesFilms [.ref a0, .int x1] h X := jk_of rfl (by decide +kernel) rfl rfl (Nat.le_of_ble_eq_true rfl) (JL_refusesFilms hF)

set_option maxRecDepth 100000 in
set_option maxHeartbeats 4000000 in
theorem BL_two_1203 (N : Nat) : ∀ (n : Nat) (a0 : Nat) (h : jm_H) (X : jm_X), FL_two_1203 N n a0 h = some X → jm_J M_L_two 1203 [(0, .ref a0)] [] h 28633 174333 X := by
  intro n
  induction n with
  | zero =>
    intro a0 h X hF
    exact nomatch (show (none : Option jm_X) = some X from hF)
  | succ n ih =>
    intro a0 h X hF
    rw [FL_two_1203] at hF
    refine jj_aload_n (j := 0) (i := 0) (pc' := 1204) dL_two_1203 rfl rfl rfl ?_
    refine jj_iconst (v := (0 : Int32)) (pc' := 1205) dL_two_1204 rfl rfl ?_
    refine jj_iconst (v := (0 : Int32)) (pc' := 1206) dL_two_1205 rfl rfl ?_
    refine jj_cI (N := M_X3_attend) (kc' := 28636) (ks' := 174351) (pc' := 1209) (jg_V (N := M_X3_attend) (ci := 3) (rest := []) (as := [.int ((0 : Int32)), .int ((0 : Int32))]) cf_L_38 dL_two_1206 ⟨rfl, rfl⟩ rfl rfl ⟨Nat.le_of_ble_eq_true rfl, Nat.le_of_ble_eq_true rfl⟩ ⟨Nat.le_of_ble_eq_true rfl, Nat.le_of_ble_eq_true rfl⟩ (Nat.le_of_ble_eq_true rfl) (fun X' hX => KX3_attend hX)) rfl rfl rfl rfl ⟨Nat.le_of_ble_eq_true rfl, Nat.le_of_ble_eq_true rfl⟩ rfl hF (fun x102 h101 hF => ?_)
    refine jj_iconst (v := (1 : Int32)) (pc' := 1210) dL_two_1209 rfl rfl ?_
    refine jj_icmp_ne (tgt := 1246) (pc' := 1213) dL_two_1210 rfl rfl (fun hc hF => ?_) (fun hc hF => ?_) hF
    · skip
      refine jj_iconst (v := (0 : Int32)) (pc' := 1247) dL_two_1246 rfl rfl ?_
      exact jj_retI (ty := .boolean) rfl rfl dL_two_1247 ⟨Nat.le_of_ble_eq_true rfl, Nat.le_of_ble_eq_true rfl⟩ hF
    · skip
      refine jj_aload_n (j := 0) (i := 0) (pc' := 1214) dL_two_1213 rfl rfl rfl ?_
      refine jj_iconst (v := (0 : Int32)) (pc' := 1215) dL_two_1214 rfl rfl ?_
      refine jj_iconst (v := (2 : Int32)) (pc' := 1216) dL_two_1215 rfl rfl ?_
      refine jj_cI (N := M_X3_juror) (kc' := 28638) (ks' := 174363) (pc' := 1219) (jg_V (N := M_X3_juror) (ci := 3) (rest := []) (as := [.int ((0 : Int32)), .int ((2 : Int32))]) cf_L_78 dL_two_1216 ⟨rfl, rfl⟩ rfl rfl ⟨Nat.le_of_ble_eq_true rfl, Nat.le_of_ble_eq_true rfl⟩ ⟨Nat.le_of_ble_eq_true rfl, Nat.le_of_ble_eq_true rfl⟩ (Nat.le_of_ble_eq_true rfl) (fun X' hX => KX3_juror hX)) rfl rfl rfl rfl ⟨Nat.le_of_ble_eq_true rfl, Nat.le_of_ble_eq_true rfl⟩ rfl hF (fun x104 h103 hF => ?_)
      refine jj_if_ne (tgt := 1246) (pc' := 1222) dL_two_1219 rfl rfl (fun hc hF => ?_) (fun hc hF => ?_) hF
      · skip
        refine jj_iconst (v := (0 : Int32)) (pc' := 1247) dL_two_1246 rfl rfl ?_
        exact jj_retI (ty := .boolean) rfl rfl dL_two_1247 ⟨Nat.le_of_ble_eq_true rfl, Nat.le_of_ble_eq_true rfl⟩ hF
      · skip
        refine jj_aload_n (j := 0) (i := 0) (pc' := 1223) dL_two_1222 rfl rfl rfl ?_
        refine jj_iconst (v := (0 : Int32)) (pc' := 1224) dL_two_1223 rfl rfl ?_
        refine jj_iconst (v := (0 : Int32)) (pc' := 1225) dL_two_1224 rfl rfl ?_
        refine jj_iconst (v := (3 : Int32)) (pc' := 1226) dL_two_1225 rfl rfl ?_
        refine jj_cI (N := M_X3_vote) (kc' := 28642) (ks' := 174387) (pc' := 1229) (jg_V (N := M_X3_vote) (ci := 3) (rest := []) (as := [.int ((0 : Int32)), .int ((0 : Int32)), .int ((3 : Int32))]) cf_L_41 dL_two_1226 ⟨rfl, rfl⟩ rfl rfl ⟨Nat.le_of_ble_eq_true rfl, Nat.le_of_ble_eq_true rfl⟩ ⟨Nat.le_of_ble_eq_true rfl, Nat.le_of_ble_eq_true rfl⟩ (Nat.le_of_ble_eq_true rfl) (fun X' hX => KX3_vote hX)) rfl rfl rfl rfl ⟨Nat.le_of_ble_eq_true rfl, Nat.le_of_ble_eq_true rfl⟩ rfl hF (fun x106 h105 hF => ?_)
        refine jj_if_ne (tgt := 1246) (pc' := 1232) dL_two_1229 rfl rfl (fun hc hF => ?_) (fun hc hF => ?_) hF
        · skip
          refine jj_iconst (v := (0 : Int32)) (pc' := 1247) dL_two_1246 rfl rfl ?_
          exact jj_retI (ty := .boolean) rfl rfl dL_two_1247 ⟨Nat.le_of_ble_eq_true rfl, Nat.le_of_ble_eq_true rfl⟩ hF
        · skip
          refine jj_aload_n (j := 0) (i := 0) (pc' := 1233) dL_two_1232 rfl rfl rfl ?_
          refine jj_iconst (v := (0 : Int32)) (pc' := 1234) dL_two_1233 rfl rfl ?_
          refine jj_iconst (v := (5 : Int32)) (pc' := 1235) dL_two_1234 rfl rfl ?_
          refine jj_cI (N := M_X3_filmOf) (kc' := 28644) (ks' := 174399) (pc' := 1238) (jg_V (N := M_X3_filmOf) (ci := 3) (rest := []) (as := [.int ((0 : Int32)), .int ((5 : Int32))]) cf_L_60 dL_two_1235 ⟨rfl, rfl⟩ rfl rfl ⟨Nat.le_of_ble_eq_true rfl, Nat.le_of_ble_eq_true rfl⟩ ⟨Nat.le_of_ble_eq_true rfl, Nat.le_of_ble_eq_true rfl⟩ (Nat.le_of_ble_eq_true rfl) (fun X' hX => KX3_filmOf hX)) rfl rfl rfl rfl ⟨Nat.le_of_ble_eq_true rfl, Nat.le_of_ble_eq_true rfl⟩ rfl hF (fun x108 h107 hF => ?_)
          refine jj_iconst (v := (3 : Int32)) (pc' := 1239) dL_two_1238 rfl rfl ?_
          refine jj_icmp_ne (tgt := 1246) (pc' := 1242) dL_two_1239 rfl rfl (fun hc hF => ?_) (fun hc hF => ?_) hF
          · skip
            refine jj_iconst (v := (0 : Int32)) (pc' := 1247) dL_two_1246 rfl rfl ?_
            exact jj_retI (ty := .boolean) rfl rfl dL_two_1247 ⟨Nat.le_of_ble_eq_true rfl, Nat.le_of_ble_eq_true rfl⟩ hF
          · skip
            refine jj_iconst (v := (1 : Int32)) (pc' := 1243) dL_two_1242 rfl rfl ?_
            refine jj_goto (tgt := 1247) dL_two_1243 rfl ?_
            exact jj_retI (ty := .boolean) rfl rfl dL_two_1247 ⟨Nat.le_of_ble_eq_true rfl, Nat.le_of_ble_eq_true rfl⟩ hF
set_option maxRecDepth 100000 in
set_option maxHeartbeats 4000000 in
theorem BL_two_1112 (N : Nat) : ∀ (n : Nat) (a0 : Nat) (h : jm_H) (X : jm_X), FL_two_1112 N n a0 h = some X → jm_J M_L_two 1112 [(0, .ref a0)] [] h 28619 174249 X := by
  intro n
  induction n with
  | zero =>
    intro a0 h X hF
    exact nomatch (show (none : Option jm_X) = some X from hF)
  | succ n ih =>
    intro a0 h X hF
    rw [FL_two_1112] at hF
    refine jj_aload_n (j := 0) (i := 0) (pc' := 1113) dL_two_1112 rfl rfl rfl ?_
    refine jj_iconst (v := (0 : Int32)) (pc' := 1114) dL_two_1113 rfl rfl ?_
    refine jj_cI (N := M_X3_callOff) (kc' := 28620) (ks' := 174255) (pc' := 1117) (jg_V (N := M_X3_callOff) (ci := 3) (rest := []) (as := [.int ((0 : Int32))]) cf_L_27 dL_two_1114 ⟨rfl, rfl⟩ rfl rfl ⟨Nat.le_of_ble_eq_true rfl, Nat.le_of_ble_eq_true rfl⟩ ⟨Nat.le_of_ble_eq_true rfl, Nat.le_of_ble_eq_true rfl⟩ (Nat.le_of_ble_eq_true rfl) (fun X' hX => KX3_callOff hX)) rfl rfl rfl rfl ⟨Nat.le_of_ble_eq_true rfl, Nat.le_of_ble_eq_true rfl⟩ rfl hF (fun x102 h101 hF => ?_)
    refine jj_iconst (v := (2 : Int32)) (pc' := 1118) dL_two_1117 rfl rfl ?_
    refine jj_icmp_ne (tgt := 1201) (pc' := 1121) dL_two_1118 rfl rfl (fun hc hF => ?_) (fun hc hF => ?_) hF
    · skip
      refine jj_iconst (v := (0 : Int32)) (pc' := 1202) dL_two_1201 rfl rfl ?_
      exact jj_retI (ty := .boolean) rfl rfl dL_two_1202 ⟨Nat.le_of_ble_eq_true rfl, Nat.le_of_ble_eq_true rfl⟩ hF
    · skip
      refine jj_aload_n (j := 0) (i := 0) (pc' := 1122) dL_two_1121 rfl rfl rfl ?_
      refine jj_iconst (v := (5 : Int32)) (pc' := 1123) dL_two_1122 rfl rfl ?_
      refine jj_cI (N := M_X3_count) (kc' := 28621) (ks' := 174261) (pc' := 1126) (jg_V (N := M_X3_count) (ci := 3) (rest := []) (as := [.int ((5 : Int32))]) cf_L_81 dL_two_1123 ⟨rfl, rfl⟩ rfl rfl ⟨Nat.le_of_ble_eq_true rfl, Nat.le_of_ble_eq_true rfl⟩ ⟨Nat.le_of_ble_eq_true rfl, Nat.le_of_ble_eq_true rfl⟩ (Nat.le_of_ble_eq_true rfl) (fun X' hX => KX3_count hX)) rfl rfl rfl rfl ⟨Nat.le_of_ble_eq_true rfl, Nat.le_of_ble_eq_true rfl⟩ rfl hF (fun x104 h103 hF => ?_)
      refine jj_iconst (v := (1 : Int32)) (pc' := 1127) dL_two_1126 rfl rfl ?_
      refine jj_icmp_ne (tgt := 1201) (pc' := 1130) dL_two_1127 rfl rfl (fun hc hF => ?_) (fun hc hF => ?_) hF
      · skip
        refine jj_iconst (v := (0 : Int32)) (pc' := 1202) dL_two_1201 rfl rfl ?_
        exact jj_retI (ty := .boolean) rfl rfl dL_two_1202 ⟨Nat.le_of_ble_eq_true rfl, Nat.le_of_ble_eq_true rfl⟩ hF
      · skip
        refine jj_aload_n (j := 0) (i := 0) (pc' := 1131) dL_two_1130 rfl rfl rfl ?_
        refine jj_iconst (v := (0 : Int32)) (pc' := 1132) dL_two_1131 rfl rfl ?_
        refine jj_iconst (v := (0 : Int32)) (pc' := 1133) dL_two_1132 rfl rfl ?_
        refine jj_cI (N := M_X3_showing) (kc' := 28623) (ks' := 174273) (pc' := 1136) (jg_V (N := M_X3_showing) (ci := 3) (rest := []) (as := [.int ((0 : Int32)), .int ((0 : Int32))]) cf_L_63 dL_two_1133 ⟨rfl, rfl⟩ rfl rfl ⟨Nat.le_of_ble_eq_true rfl, Nat.le_of_ble_eq_true rfl⟩ ⟨Nat.le_of_ble_eq_true rfl, Nat.le_of_ble_eq_true rfl⟩ (Nat.le_of_ble_eq_true rfl) (fun X' hX => KX3_showing hX)) rfl rfl rfl rfl ⟨Nat.le_of_ble_eq_true rfl, Nat.le_of_ble_eq_true rfl⟩ rfl hF (fun x106 h105 hF => ?_)
        refine jj_iconst (v := (1 : Int32)) (pc' := 1137) dL_two_1136 rfl rfl ?_
        refine jj_icmp_ne (tgt := 1201) (pc' := 1140) dL_two_1137 rfl rfl (fun hc hF => ?_) (fun hc hF => ?_) hF
        · skip
          refine jj_iconst (v := (0 : Int32)) (pc' := 1202) dL_two_1201 rfl rfl ?_
          exact jj_retI (ty := .boolean) rfl rfl dL_two_1202 ⟨Nat.le_of_ble_eq_true rfl, Nat.le_of_ble_eq_true rfl⟩ hF
        · skip
          refine jj_aload_n (j := 0) (i := 0) (pc' := 1141) dL_two_1140 rfl rfl rfl ?_
          refine jj_iconst (v := (0 : Int32)) (pc' := 1142) dL_two_1141 rfl rfl ?_
          refine jj_iconst (v := (5 : Int32)) (pc' := 1143) dL_two_1142 rfl rfl ?_
          refine jj_cI (N := M_X3_showing) (kc' := 28625) (ks' := 174285) (pc' := 1146) (jg_V (N := M_X3_showing) (ci := 3) (rest := []) (as := [.int ((0 : Int32)), .int ((5 : Int32))]) cf_L_63 dL_two_1143 ⟨rfl, rfl⟩ rfl rfl ⟨Nat.le_of_ble_eq_true rfl, Nat.le_of_ble_eq_true rfl⟩ ⟨Nat.le_of_ble_eq_true rfl, Nat.le_of_ble_eq_true rfl⟩ (Nat.le_of_ble_eq_true rfl) (fun X' hX => KX3_showing hX)) rfl rfl rfl rfl ⟨Nat.le_of_ble_eq_true rfl, Nat.le_of_ble_eq_true rfl⟩ rfl hF (fun x108 h107 hF => ?_)
          refine jj_iconst (v := (1 : Int32)) (pc' := 1147) dL_two_1146 rfl rfl ?_
          refine jj_icmp_ne (tgt := 1201) (pc' := 1150) dL_two_1147 rfl rfl (fun hc hF => ?_) (fun hc hF => ?_) hF
          · skip
            refine jj_iconst (v := (0 : Int32)) (pc' := 1202) dL_two_1201 rfl rfl ?_
            exact jj_retI (ty := .boolean) rfl rfl dL_two_1202 ⟨Nat.le_of_ble_eq_true rfl, Nat.le_of_ble_eq_true rfl⟩ hF
          · skip
            refine jj_aload_n (j := 0) (i := 0) (pc' := 1151) dL_two_1150 rfl rfl rfl ?_
            refine jj_iconst (v := (0 : Int32)) (pc' := 1152) dL_two_1151 rfl rfl ?_
            refine jj_iconst (v := (5 : Int32)) (pc' := 1153) dL_two_1152 rfl rfl ?_
            refine jj_cI (N := M_X3_filmOf) (kc' := 28627) (ks' := 174297) (pc' := 1156) (jg_V (N := M_X3_filmOf) (ci := 3) (rest := []) (as := [.int ((0 : Int32)), .int ((5 : Int32))]) cf_L_60 dL_two_1153 ⟨rfl, rfl⟩ rfl rfl ⟨Nat.le_of_ble_eq_true rfl, Nat.le_of_ble_eq_true rfl⟩ ⟨Nat.le_of_ble_eq_true rfl, Nat.le_of_ble_eq_true rfl⟩ (Nat.le_of_ble_eq_true rfl) (fun X' hX => KX3_filmOf hX)) rfl rfl rfl rfl ⟨Nat.le_of_ble_eq_true rfl, Nat.le_of_ble_eq_true rfl⟩ rfl hF (fun x110 h109 hF => ?_)
            refine jj_if_ne (tgt := 1201) (pc' := 1159) dL_two_1156 rfl rfl (fun hc hF => ?_) (fun hc hF => ?_) hF
            · skip
              refine jj_iconst (v := (0 : Int32)) (pc' := 1202) dL_two_1201 rfl rfl ?_
              exact jj_retI (ty := .boolean) rfl rfl dL_two_1202 ⟨Nat.le_of_ble_eq_true rfl, Nat.le_of_ble_eq_true rfl⟩ hF
            · skip
              refine jj_aload_n (j := 0) (i := 0) (pc' := 1160) dL_two_1159 rfl rfl rfl ?_
              refine jj_iconst (v := (3 : Int32)) (pc' := 1161) dL_two_1160 rfl rfl ?_
              refine jj_cI (N := M_X3_count) (kc' := 28628) (ks' := 174303) (pc' := 1164) (jg_V (N := M_X3_count) (ci := 3) (rest := []) (as := [.int ((3 : Int32))]) cf_L_81 dL_two_1161 ⟨rfl, rfl⟩ rfl rfl ⟨Nat.le_of_ble_eq_true rfl, Nat.le_of_ble_eq_true rfl⟩ ⟨Nat.le_of_ble_eq_true rfl, Nat.le_of_ble_eq_true rfl⟩ (Nat.le_of_ble_eq_true rfl) (fun X' hX => KX3_count hX)) rfl rfl rfl rfl ⟨Nat.le_of_ble_eq_true rfl, Nat.le_of_ble_eq_true rfl⟩ rfl hF (fun x112 h111 hF => ?_)
              refine jj_if_ne (tgt := 1201) (pc' := 1167) dL_two_1164 rfl rfl (fun hc hF => ?_) (fun hc hF => ?_) hF
              · skip
                refine jj_iconst (v := (0 : Int32)) (pc' := 1202) dL_two_1201 rfl rfl ?_
                exact jj_retI (ty := .boolean) rfl rfl dL_two_1202 ⟨Nat.le_of_ble_eq_true rfl, Nat.le_of_ble_eq_true rfl⟩ hF
              · skip
                refine jj_aload_n (j := 0) (i := 0) (pc' := 1168) dL_two_1167 rfl rfl rfl ?_
                refine jj_cI (N := M_X3_undo) (kc' := 28629) (ks' := 174309) (pc' := 1171) (jg_V (N := M_X3_undo) (ci := 3) (rest := []) (as := []) cf_L_54 dL_two_1168 ⟨rfl, rfl⟩ rfl rfl ⟨Nat.le_of_ble_eq_true rfl, Nat.le_of_ble_eq_true rfl⟩ ⟨Nat.le_of_ble_eq_true rfl, Nat.le_of_ble_eq_true rfl⟩ (Nat.le_of_ble_eq_true rfl) (fun X' hX => KX3_undo hX)) rfl rfl rfl rfl ⟨Nat.le_of_ble_eq_true rfl, Nat.le_of_ble_eq_true rfl⟩ rfl hF (fun x114 h113 hF => ?_)
                refine jj_iconst (v := (5 : Int32)) (pc' := 1172) dL_two_1171 rfl rfl ?_
                refine jj_icmp_ne (tgt := 1201) (pc' := 1175) dL_two_1172 rfl rfl (fun hc hF => ?_) (fun hc hF => ?_) hF
                · skip
                  refine jj_iconst (v := (0 : Int32)) (pc' := 1202) dL_two_1201 rfl rfl ?_
                  exact jj_retI (ty := .boolean) rfl rfl dL_two_1202 ⟨Nat.le_of_ble_eq_true rfl, Nat.le_of_ble_eq_true rfl⟩ hF
                · skip
                  refine jj_aload_n (j := 0) (i := 0) (pc' := 1176) dL_two_1175 rfl rfl rfl ?_
                  refine jj_iconst (v := (1 : Int32)) (pc' := 1177) dL_two_1176 rfl rfl ?_
                  refine jj_cI (N := M_X3_count) (kc' := 28630) (ks' := 174315) (pc' := 1180) (jg_V (N := M_X3_count) (ci := 3) (rest := []) (as := [.int ((1 : Int32))]) cf_L_81 dL_two_1177 ⟨rfl, rfl⟩ rfl rfl ⟨Nat.le_of_ble_eq_true rfl, Nat.le_of_ble_eq_true rfl⟩ ⟨Nat.le_of_ble_eq_true rfl, Nat.le_of_ble_eq_true rfl⟩ (Nat.le_of_ble_eq_true rfl) (fun X' hX => KX3_count hX)) rfl rfl rfl rfl ⟨Nat.le_of_ble_eq_true rfl, Nat.le_of_ble_eq_true rfl⟩ rfl hF (fun x116 h115 hF => ?_)
                  refine jj_iconst (v := (2 : Int32)) (pc' := 1181) dL_two_1180 rfl rfl ?_
                  refine jj_icmp_ne (tgt := 1201) (pc' := 1184) dL_two_1181 rfl rfl (fun hc hF => ?_) (fun hc hF => ?_) hF
                  · skip
                    refine jj_iconst (v := (0 : Int32)) (pc' := 1202) dL_two_1201 rfl rfl ?_
                    exact jj_retI (ty := .boolean) rfl rfl dL_two_1202 ⟨Nat.le_of_ble_eq_true rfl, Nat.le_of_ble_eq_true rfl⟩ hF
                  · skip
                    refine jj_aload_n (j := 0) (i := 0) (pc' := 1185) dL_two_1184 rfl rfl rfl ?_
                    refine jj_cI (N := M_X3_restore) (kc' := 28631) (ks' := 174321) (pc' := 1188) (jg_V (N := M_X3_restore) (ci := 3) (rest := []) (as := []) cf_L_57 dL_two_1185 ⟨rfl, rfl⟩ rfl rfl ⟨Nat.le_of_ble_eq_true rfl, Nat.le_of_ble_eq_true rfl⟩ ⟨Nat.le_of_ble_eq_true rfl, Nat.le_of_ble_eq_true rfl⟩ (Nat.le_of_ble_eq_true rfl) (fun X' hX => KX3_restore hX)) rfl rfl rfl rfl ⟨Nat.le_of_ble_eq_true rfl, Nat.le_of_ble_eq_true rfl⟩ rfl hF (fun x118 h117 hF => ?_)
                    refine jj_iconst (v := (2 : Int32)) (pc' := 1189) dL_two_1188 rfl rfl ?_
                    refine jj_icmp_ne (tgt := 1201) (pc' := 1192) dL_two_1189 rfl rfl (fun hc hF => ?_) (fun hc hF => ?_) hF
                    · skip
                      refine jj_iconst (v := (0 : Int32)) (pc' := 1202) dL_two_1201 rfl rfl ?_
                      exact jj_retI (ty := .boolean) rfl rfl dL_two_1202 ⟨Nat.le_of_ble_eq_true rfl, Nat.le_of_ble_eq_true rfl⟩ hF
                    · skip
                      refine jj_aload_n (j := 0) (i := 0) (pc' := 1193) dL_two_1192 rfl rfl rfl ?_
                      refine jj_iconst (v := (0 : Int32)) (pc' := 1194) dL_two_1193 rfl rfl ?_
                      refine jj_iconst (v := (0 : Int32)) (pc' := 1195) dL_two_1194 rfl rfl ?_
                      refine jj_cI (N := M_X3_juror) (kc' := 28633) (ks' := 174333) (pc' := 1198) (jg_V (N := M_X3_juror) (ci := 3) (rest := []) (as := [.int ((0 : Int32)), .int ((0 : Int32))]) cf_L_78 dL_two_1195 ⟨rfl, rfl⟩ rfl rfl ⟨Nat.le_of_ble_eq_true rfl, Nat.le_of_ble_eq_true rfl⟩ ⟨Nat.le_of_ble_eq_true rfl, Nat.le_of_ble_eq_true rfl⟩ (Nat.le_of_ble_eq_true rfl) (fun X' hX => KX3_juror hX)) rfl rfl rfl rfl ⟨Nat.le_of_ble_eq_true rfl, Nat.le_of_ble_eq_true rfl⟩ rfl hF (fun x120 h119 hF => ?_)
                      refine jj_if_eq (tgt := 1203) (pc' := 1201) dL_two_1198 rfl rfl (fun hc hF => ?_) (fun hc hF => ?_) hF
                      · skip
                        refine jj_wide (kc' := 28633) (ks' := 174333) (Nat.le_of_ble_eq_true rfl) (Nat.le_of_ble_eq_true rfl) ?_
                        exact jj_pick [0] rfl (BL_two_1203 N N a0 h119 _ hF)
                      · skip
                        refine jj_iconst (v := (0 : Int32)) (pc' := 1202) dL_two_1201 rfl rfl ?_
                        exact jj_retI (ty := .boolean) rfl rfl dL_two_1202 ⟨Nat.le_of_ble_eq_true rfl, Nat.le_of_ble_eq_true rfl⟩ hF
set_option maxRecDepth 100000 in
set_option maxHeartbeats 4000000 in
theorem BL_two_1007 (N : Nat) : ∀ (n : Nat) (a0 : Nat) (h : jm_H) (X : jm_X), FL_two_1007 N n a0 h = some X → jm_J M_L_two 1007 [(0, .ref a0)] [] h 28539 173769 X := by
  intro n
  induction n with
  | zero =>
    intro a0 h X hF
    exact nomatch (show (none : Option jm_X) = some X from hF)
  | succ n ih =>
    intro a0 h X hF
    rw [FL_two_1007] at hF
    refine jj_aload_n (j := 0) (i := 0) (pc' := 1008) dL_two_1007 rfl rfl rfl ?_
    refine jj_iconst (v := (5 : Int32)) (pc' := 1009) dL_two_1008 rfl rfl ?_
    refine jj_iconst (v := (0 : Int32)) (pc' := 1010) dL_two_1009 rfl rfl ?_
    refine jj_sipush (v := (1990 : Int32)) (pc' := 1013) dL_two_1010 rfl rfl ?_
    refine jj_iconst (v := (0 : Int32)) (pc' := 1014) dL_two_1013 rfl rfl ?_
    refine jj_lconst (v := (0 : Int64)) (pc' := 1015) dL_two_1014 rfl rfl ?_
    refine jj_cI (N := M_L_call) (kc' := 28600) (ks' := 174135) (pc' := 1018) (jg_H (N := M_L_call) (rest := []) (as := [.ref a0, .int ((5 : Int32)), .int ((0 : Int32)), .int ((1990 : Int32)), .int ((0 : Int32)), .long ((0 : Int64))]) cf_L_119 (by decide) dL_two_1015 rfl rfl ⟨Nat.le_of_ble_eq_true rfl, Nat.le_of_ble_eq_true rfl⟩ ⟨Nat.le_of_ble_eq_true rfl, Nat.le_of_ble_eq_true rfl⟩ (Nat.le_of_ble_eq_true rfl) (fun X' hX => KL_call hX)) rfl rfl rfl rfl ⟨Nat.le_of_ble_eq_true rfl, Nat.le_of_ble_eq_true rfl⟩ rfl hF (fun x102 h101 hF => ?_)
    refine jj_bipush (v := (-13 : Int32)) (pc' := 1020) dL_two_1018 rfl rfl ?_
    refine jj_icmp_ne (tgt := 1201) (pc' := 1023) dL_two_1020 rfl rfl (fun hc hF => ?_) (fun hc hF => ?_) hF
    · skip
      refine jj_iconst (v := (0 : Int32)) (pc' := 1202) dL_two_1201 rfl rfl ?_
      exact jj_retI (ty := .boolean) rfl rfl dL_two_1202 ⟨Nat.le_of_ble_eq_true rfl, Nat.le_of_ble_eq_true rfl⟩ hF
    · skip
      refine jj_aload_n (j := 0) (i := 0) (pc' := 1024) dL_two_1023 rfl rfl rfl ?_
      refine jj_iconst (v := (0 : Int32)) (pc' := 1025) dL_two_1024 rfl rfl ?_
      refine jj_bipush (v := (104 : Int32)) (pc' := 1027) dL_two_1025 rfl rfl ?_
      refine jj_cI (N := M_X3_move) (kc' := 28603) (ks' := 174153) (pc' := 1030) (jg_V (N := M_X3_move) (ci := 3) (rest := []) (as := [.int ((0 : Int32)), .int ((104 : Int32))]) cf_L_31 dL_two_1027 ⟨rfl, rfl⟩ rfl rfl ⟨Nat.le_of_ble_eq_true rfl, Nat.le_of_ble_eq_true rfl⟩ ⟨Nat.le_of_ble_eq_true rfl, Nat.le_of_ble_eq_true rfl⟩ (Nat.le_of_ble_eq_true rfl) (fun X' hX => KX3_move hX)) rfl rfl rfl rfl ⟨Nat.le_of_ble_eq_true rfl, Nat.le_of_ble_eq_true rfl⟩ rfl hF (fun x104 h103 hF => ?_)
      refine jj_iconst (v := (1 : Int32)) (pc' := 1031) dL_two_1030 rfl rfl ?_
      refine jj_icmp_ne (tgt := 1201) (pc' := 1034) dL_two_1031 rfl rfl (fun hc hF => ?_) (fun hc hF => ?_) hF
      · skip
        refine jj_iconst (v := (0 : Int32)) (pc' := 1202) dL_two_1201 rfl rfl ?_
        exact jj_retI (ty := .boolean) rfl rfl dL_two_1202 ⟨Nat.le_of_ble_eq_true rfl, Nat.le_of_ble_eq_true rfl⟩ hF
      · skip
        refine jj_aload_n (j := 0) (i := 0) (pc' := 1035) dL_two_1034 rfl rfl rfl ?_
        refine jj_iconst (v := (0 : Int32)) (pc' := 1036) dL_two_1035 rfl rfl ?_
        refine jj_iconst (v := (5 : Int32)) (pc' := 1037) dL_two_1036 rfl rfl ?_
        refine jj_cI (N := M_X3_showing) (kc' := 28605) (ks' := 174165) (pc' := 1040) (jg_V (N := M_X3_showing) (ci := 3) (rest := []) (as := [.int ((0 : Int32)), .int ((5 : Int32))]) cf_L_63 dL_two_1037 ⟨rfl, rfl⟩ rfl rfl ⟨Nat.le_of_ble_eq_true rfl, Nat.le_of_ble_eq_true rfl⟩ ⟨Nat.le_of_ble_eq_true rfl, Nat.le_of_ble_eq_true rfl⟩ (Nat.le_of_ble_eq_true rfl) (fun X' hX => KX3_showing hX)) rfl rfl rfl rfl ⟨Nat.le_of_ble_eq_true rfl, Nat.le_of_ble_eq_true rfl⟩ rfl hF (fun x106 h105 hF => ?_)
        refine jj_iconst (v := (2 : Int32)) (pc' := 1041) dL_two_1040 rfl rfl ?_
        refine jj_icmp_ne (tgt := 1201) (pc' := 1044) dL_two_1041 rfl rfl (fun hc hF => ?_) (fun hc hF => ?_) hF
        · skip
          refine jj_iconst (v := (0 : Int32)) (pc' := 1202) dL_two_1201 rfl rfl ?_
          exact jj_retI (ty := .boolean) rfl rfl dL_two_1202 ⟨Nat.le_of_ble_eq_true rfl, Nat.le_of_ble_eq_true rfl⟩ hF
        · skip
          refine jj_aload_n (j := 0) (i := 0) (pc' := 1045) dL_two_1044 rfl rfl rfl ?_
          refine jj_bipush (v := (6 : Int32)) (pc' := 1047) dL_two_1045 rfl rfl ?_
          refine jj_cI (N := M_X3_count) (kc' := 28606) (ks' := 174171) (pc' := 1050) (jg_V (N := M_X3_count) (ci := 3) (rest := []) (as := [.int ((6 : Int32))]) cf_L_81 dL_two_1047 ⟨rfl, rfl⟩ rfl rfl ⟨Nat.le_of_ble_eq_true rfl, Nat.le_of_ble_eq_true rfl⟩ ⟨Nat.le_of_ble_eq_true rfl, Nat.le_of_ble_eq_true rfl⟩ (Nat.le_of_ble_eq_true rfl) (fun X' hX => KX3_count hX)) rfl rfl rfl rfl ⟨Nat.le_of_ble_eq_true rfl, Nat.le_of_ble_eq_true rfl⟩ rfl hF (fun x108 h107 hF => ?_)
          refine jj_iconst (v := (-1 : Int32)) (pc' := 1051) dL_two_1050 rfl rfl ?_
          refine jj_icmp_ne (tgt := 1201) (pc' := 1054) dL_two_1051 rfl rfl (fun hc hF => ?_) (fun hc hF => ?_) hF
          · skip
            refine jj_iconst (v := (0 : Int32)) (pc' := 1202) dL_two_1201 rfl rfl ?_
            exact jj_retI (ty := .boolean) rfl rfl dL_two_1202 ⟨Nat.le_of_ble_eq_true rfl, Nat.le_of_ble_eq_true rfl⟩ hF
          · skip
            refine jj_aload_n (j := 0) (i := 0) (pc' := 1055) dL_two_1054 rfl rfl rfl ?_
            refine jj_iconst (v := (0 : Int32)) (pc' := 1056) dL_two_1055 rfl rfl ?_
            refine jj_iconst (v := (5 : Int32)) (pc' := 1057) dL_two_1056 rfl rfl ?_
            refine jj_cI (N := M_X3_filmOf) (kc' := 28608) (ks' := 174183) (pc' := 1060) (jg_V (N := M_X3_filmOf) (ci := 3) (rest := []) (as := [.int ((0 : Int32)), .int ((5 : Int32))]) cf_L_60 dL_two_1057 ⟨rfl, rfl⟩ rfl rfl ⟨Nat.le_of_ble_eq_true rfl, Nat.le_of_ble_eq_true rfl⟩ ⟨Nat.le_of_ble_eq_true rfl, Nat.le_of_ble_eq_true rfl⟩ (Nat.le_of_ble_eq_true rfl) (fun X' hX => KX3_filmOf hX)) rfl rfl rfl rfl ⟨Nat.le_of_ble_eq_true rfl, Nat.le_of_ble_eq_true rfl⟩ rfl hF (fun x110 h109 hF => ?_)
            refine jj_iconst (v := (4 : Int32)) (pc' := 1061) dL_two_1060 rfl rfl ?_
            refine jj_icmp_ne (tgt := 1201) (pc' := 1064) dL_two_1061 rfl rfl (fun hc hF => ?_) (fun hc hF => ?_) hF
            · skip
              refine jj_iconst (v := (0 : Int32)) (pc' := 1202) dL_two_1201 rfl rfl ?_
              exact jj_retI (ty := .boolean) rfl rfl dL_two_1202 ⟨Nat.le_of_ble_eq_true rfl, Nat.le_of_ble_eq_true rfl⟩ hF
            · skip
              refine jj_aload_n (j := 0) (i := 0) (pc' := 1065) dL_two_1064 rfl rfl rfl ?_
              refine jj_iconst (v := (0 : Int32)) (pc' := 1066) dL_two_1065 rfl rfl ?_
              refine jj_iconst (v := (3 : Int32)) (pc' := 1067) dL_two_1066 rfl rfl ?_
              refine jj_cI (N := M_X3_guestOf) (kc' := 28610) (ks' := 174195) (pc' := 1070) (jg_V (N := M_X3_guestOf) (ci := 3) (rest := []) (as := [.int ((0 : Int32)), .int ((3 : Int32))]) cf_L_75 dL_two_1067 ⟨rfl, rfl⟩ rfl rfl ⟨Nat.le_of_ble_eq_true rfl, Nat.le_of_ble_eq_true rfl⟩ ⟨Nat.le_of_ble_eq_true rfl, Nat.le_of_ble_eq_true rfl⟩ (Nat.le_of_ble_eq_true rfl) (fun X' hX => KX3_guestOf hX)) rfl rfl rfl rfl ⟨Nat.le_of_ble_eq_true rfl, Nat.le_of_ble_eq_true rfl⟩ rfl hF (fun x112 h111 hF => ?_)
              refine jj_iconst (v := (-1 : Int32)) (pc' := 1071) dL_two_1070 rfl rfl ?_
              refine jj_icmp_ne (tgt := 1201) (pc' := 1074) dL_two_1071 rfl rfl (fun hc hF => ?_) (fun hc hF => ?_) hF
              · skip
                refine jj_iconst (v := (0 : Int32)) (pc' := 1202) dL_two_1201 rfl rfl ?_
                exact jj_retI (ty := .boolean) rfl rfl dL_two_1202 ⟨Nat.le_of_ble_eq_true rfl, Nat.le_of_ble_eq_true rfl⟩ hF
              · skip
                refine jj_aload_n (j := 0) (i := 0) (pc' := 1075) dL_two_1074 rfl rfl rfl ?_
                refine jj_iconst (v := (1 : Int32)) (pc' := 1076) dL_two_1075 rfl rfl ?_
                refine jj_iconst (v := (3 : Int32)) (pc' := 1077) dL_two_1076 rfl rfl ?_
                refine jj_cI (N := M_X3_guestOf) (kc' := 28612) (ks' := 174207) (pc' := 1080) (jg_V (N := M_X3_guestOf) (ci := 3) (rest := []) (as := [.int ((1 : Int32)), .int ((3 : Int32))]) cf_L_75 dL_two_1077 ⟨rfl, rfl⟩ rfl rfl ⟨Nat.le_of_ble_eq_true rfl, Nat.le_of_ble_eq_true rfl⟩ ⟨Nat.le_of_ble_eq_true rfl, Nat.le_of_ble_eq_true rfl⟩ (Nat.le_of_ble_eq_true rfl) (fun X' hX => KX3_guestOf hX)) rfl rfl rfl rfl ⟨Nat.le_of_ble_eq_true rfl, Nat.le_of_ble_eq_true rfl⟩ rfl hF (fun x114 h113 hF => ?_)
                refine jj_if_ne (tgt := 1201) (pc' := 1083) dL_two_1080 rfl rfl (fun hc hF => ?_) (fun hc hF => ?_) hF
                · skip
                  refine jj_iconst (v := (0 : Int32)) (pc' := 1202) dL_two_1201 rfl rfl ?_
                  exact jj_retI (ty := .boolean) rfl rfl dL_two_1202 ⟨Nat.le_of_ble_eq_true rfl, Nat.le_of_ble_eq_true rfl⟩ hF
                · skip
                  refine jj_aload_n (j := 0) (i := 0) (pc' := 1084) dL_two_1083 rfl rfl rfl ?_
                  refine jj_iconst (v := (0 : Int32)) (pc' := 1085) dL_two_1084 rfl rfl ?_
                  refine jj_bipush (v := (100 : Int32)) (pc' := 1087) dL_two_1085 rfl rfl ?_
                  refine jj_cI (N := M_X3_move) (kc' := 28615) (ks' := 174225) (pc' := 1090) (jg_V (N := M_X3_move) (ci := 3) (rest := []) (as := [.int ((0 : Int32)), .int ((100 : Int32))]) cf_L_31 dL_two_1087 ⟨rfl, rfl⟩ rfl rfl ⟨Nat.le_of_ble_eq_true rfl, Nat.le_of_ble_eq_true rfl⟩ ⟨Nat.le_of_ble_eq_true rfl, Nat.le_of_ble_eq_true rfl⟩ (Nat.le_of_ble_eq_true rfl) (fun X' hX => KX3_move hX)) rfl rfl rfl rfl ⟨Nat.le_of_ble_eq_true rfl, Nat.le_of_ble_eq_true rfl⟩ rfl hF (fun x116 h115 hF => ?_)
                  refine jj_if_ne (tgt := 1201) (pc' := 1093) dL_two_1090 rfl rfl (fun hc hF => ?_) (fun hc hF => ?_) hF
                  · skip
                    refine jj_iconst (v := (0 : Int32)) (pc' := 1202) dL_two_1201 rfl rfl ?_
                    exact jj_retI (ty := .boolean) rfl rfl dL_two_1202 ⟨Nat.le_of_ble_eq_true rfl, Nat.le_of_ble_eq_true rfl⟩ hF
                  · skip
                    refine jj_aload_n (j := 0) (i := 0) (pc' := 1094) dL_two_1093 rfl rfl rfl ?_
                    refine jj_iconst (v := (2 : Int32)) (pc' := 1095) dL_two_1094 rfl rfl ?_
                    refine jj_iconst (v := (0 : Int32)) (pc' := 1096) dL_two_1095 rfl rfl ?_
                    refine jj_cI (N := M_X3_attend) (kc' := 28618) (ks' := 174243) (pc' := 1099) (jg_V (N := M_X3_attend) (ci := 3) (rest := []) (as := [.int ((2 : Int32)), .int ((0 : Int32))]) cf_L_38 dL_two_1096 ⟨rfl, rfl⟩ rfl rfl ⟨Nat.le_of_ble_eq_true rfl, Nat.le_of_ble_eq_true rfl⟩ ⟨Nat.le_of_ble_eq_true rfl, Nat.le_of_ble_eq_true rfl⟩ (Nat.le_of_ble_eq_true rfl) (fun X' hX => KX3_attend hX)) rfl rfl rfl rfl ⟨Nat.le_of_ble_eq_true rfl, Nat.le_of_ble_eq_true rfl⟩ rfl hF (fun x118 h117 hF => ?_)
                    refine jj_iconst (v := (1 : Int32)) (pc' := 1100) dL_two_1099 rfl rfl ?_
                    refine jj_icmp_ne (tgt := 1201) (pc' := 1103) dL_two_1100 rfl rfl (fun hc hF => ?_) (fun hc hF => ?_) hF
                    · skip
                      refine jj_iconst (v := (0 : Int32)) (pc' := 1202) dL_two_1201 rfl rfl ?_
                      exact jj_retI (ty := .boolean) rfl rfl dL_two_1202 ⟨Nat.le_of_ble_eq_true rfl, Nat.le_of_ble_eq_true rfl⟩ hF
                    · skip
                      refine jj_aload_n (j := 0) (i := 0) (pc' := 1104) dL_two_1103 rfl rfl rfl ?_
                      refine jj_bipush (v := (6 : Int32)) (pc' := 1106) dL_two_1104 rfl rfl ?_
                      refine jj_cI (N := M_X3_count) (kc' := 28619) (ks' := 174249) (pc' := 1109) (jg_V (N := M_X3_count) (ci := 3) (rest := []) (as := [.int ((6 : Int32))]) cf_L_81 dL_two_1106 ⟨rfl, rfl⟩ rfl rfl ⟨Nat.le_of_ble_eq_true rfl, Nat.le_of_ble_eq_true rfl⟩ ⟨Nat.le_of_ble_eq_true rfl, Nat.le_of_ble_eq_true rfl⟩ (Nat.le_of_ble_eq_true rfl) (fun X' hX => KX3_count hX)) rfl rfl rfl rfl ⟨Nat.le_of_ble_eq_true rfl, Nat.le_of_ble_eq_true rfl⟩ rfl hF (fun x120 h119 hF => ?_)
                      refine jj_if_ne (tgt := 1201) (pc' := 1112) dL_two_1109 rfl rfl (fun hc hF => ?_) (fun hc hF => ?_) hF
                      · skip
                        refine jj_iconst (v := (0 : Int32)) (pc' := 1202) dL_two_1201 rfl rfl ?_
                        exact jj_retI (ty := .boolean) rfl rfl dL_two_1202 ⟨Nat.le_of_ble_eq_true rfl, Nat.le_of_ble_eq_true rfl⟩ hF
                      · skip
                        refine jj_wide (kc' := 28619) (ks' := 174249) (Nat.le_of_ble_eq_true rfl) (Nat.le_of_ble_eq_true rfl) ?_
                        exact jj_pick [0] rfl (BL_two_1112 N N a0 h119 _ hF)
set_option maxRecDepth 100000 in
set_option maxHeartbeats 4000000 in
theorem BL_two_998 (N : Nat) : ∀ (n : Nat) (a0 : Nat) (h : jm_H) (X : jm_X), FL_two_998 N n a0 h = some X → jm_J M_L_two 998 [(0, .ref a0)] [] h 14591 90081 X := by
  intro n
  induction n with
  | zero =>
    intro a0 h X hF
    exact nomatch (show (none : Option jm_X) = some X from hF)
  | succ n ih =>
    intro a0 h X hF
    rw [FL_two_998] at hF
    refine jj_aload_n (j := 0) (i := 0) (pc' := 999) dL_two_998 rfl rfl rfl ?_
    refine jj_cI (N := M_L_refused) (kc' := 28539) (ks' := 173769) (pc' := 1002) (jg_S (N := M_L_refused) (rest := []) (as := [.ref a0]) cf_L_143 rfl dL_two_999 rfl rfl ⟨Nat.le_of_ble_eq_true rfl, Nat.le_of_ble_eq_true rfl⟩ ⟨Nat.le_of_ble_eq_true rfl, Nat.le_of_ble_eq_true rfl⟩ (Nat.le_of_ble_eq_true rfl) (fun X' hX => KL_refused hX)) rfl rfl rfl rfl ⟨Nat.le_of_ble_eq_true rfl, Nat.le_of_ble_eq_true rfl⟩ rfl hF (fun x102 h101 hF => ?_)
    refine jj_if_ne (tgt := 1007) (pc' := 1005) dL_two_1002 rfl rfl (fun hc hF => ?_) (fun hc hF => ?_) hF
    · skip
      refine jj_wide (kc' := 28539) (ks' := 173769) (Nat.le_of_ble_eq_true rfl) (Nat.le_of_ble_eq_true rfl) ?_
      exact jj_pick [0] rfl (BL_two_1007 N N a0 h101 _ hF)
    · skip
      refine jj_iconst (v := (0 : Int32)) (pc' := 1006) dL_two_1005 rfl rfl ?_
      exact jj_retI (ty := .boolean) rfl rfl dL_two_1006 ⟨Nat.le_of_ble_eq_true rfl, Nat.le_of_ble_eq_true rfl⟩ hF
set_option maxRecDepth 100000 in
set_option maxHeartbeats 4000000 in
theorem BL_two_895 (N : Nat) : ∀ (n : Nat) (a0 : Nat) (h : jm_H) (X : jm_X), FL_two_895 N n a0 h = some X → jm_J M_L_two 895 [(0, .ref a0)] [] h 14569 89949 X := by
  intro n
  induction n with
  | zero =>
    intro a0 h X hF
    exact nomatch (show (none : Option jm_X) = some X from hF)
  | succ n ih =>
    intro a0 h X hF
    rw [FL_two_895] at hF
    refine jj_aload_n (j := 0) (i := 0) (pc' := 896) dL_two_895 rfl rfl rfl ?_
    refine jj_iconst (v := (1 : Int32)) (pc' := 897) dL_two_896 rfl rfl ?_
    refine jj_iconst (v := (0 : Int32)) (pc' := 898) dL_two_897 rfl rfl ?_
    refine jj_iconst (v := (4 : Int32)) (pc' := 899) dL_two_898 rfl rfl ?_
    refine jj_cI (N := M_X3_vote) (kc' := 14573) (ks' := 89973) (pc' := 902) (jg_V (N := M_X3_vote) (ci := 3) (rest := []) (as := [.int ((1 : Int32)), .int ((0 : Int32)), .int ((4 : Int32))]) cf_L_41 dL_two_899 ⟨rfl, rfl⟩ rfl rfl ⟨Nat.le_of_ble_eq_true rfl, Nat.le_of_ble_eq_true rfl⟩ ⟨Nat.le_of_ble_eq_true rfl, Nat.le_of_ble_eq_true rfl⟩ (Nat.le_of_ble_eq_true rfl) (fun X' hX => KX3_vote hX)) rfl rfl rfl rfl ⟨Nat.le_of_ble_eq_true rfl, Nat.le_of_ble_eq_true rfl⟩ rfl hF (fun x102 h101 hF => ?_)
    refine jj_if_ne (tgt := 1005) (pc' := 905) dL_two_902 rfl rfl (fun hc hF => ?_) (fun hc hF => ?_) hF
    · skip
      refine jj_iconst (v := (0 : Int32)) (pc' := 1006) dL_two_1005 rfl rfl ?_
      exact jj_retI (ty := .boolean) rfl rfl dL_two_1006 ⟨Nat.le_of_ble_eq_true rfl, Nat.le_of_ble_eq_true rfl⟩ hF
    · skip
      refine jj_aload_n (j := 0) (i := 0) (pc' := 906) dL_two_905 rfl rfl rfl ?_
      refine jj_iconst (v := (0 : Int32)) (pc' := 907) dL_two_906 rfl rfl ?_
      refine jj_iconst (v := (1 : Int32)) (pc' := 908) dL_two_907 rfl rfl ?_
      refine jj_bipush (v := (10 : Int32)) (pc' := 910) dL_two_908 rfl rfl ?_
      refine jj_cI (N := M_X3_vote) (kc' := 14577) (ks' := 89997) (pc' := 913) (jg_V (N := M_X3_vote) (ci := 3) (rest := []) (as := [.int ((0 : Int32)), .int ((1 : Int32)), .int ((10 : Int32))]) cf_L_41 dL_two_910 ⟨rfl, rfl⟩ rfl rfl ⟨Nat.le_of_ble_eq_true rfl, Nat.le_of_ble_eq_true rfl⟩ ⟨Nat.le_of_ble_eq_true rfl, Nat.le_of_ble_eq_true rfl⟩ (Nat.le_of_ble_eq_true rfl) (fun X' hX => KX3_vote hX)) rfl rfl rfl rfl ⟨Nat.le_of_ble_eq_true rfl, Nat.le_of_ble_eq_true rfl⟩ rfl hF (fun x104 h103 hF => ?_)
      refine jj_if_ne (tgt := 1005) (pc' := 916) dL_two_913 rfl rfl (fun hc hF => ?_) (fun hc hF => ?_) hF
      · skip
        refine jj_iconst (v := (0 : Int32)) (pc' := 1006) dL_two_1005 rfl rfl ?_
        exact jj_retI (ty := .boolean) rfl rfl dL_two_1006 ⟨Nat.le_of_ble_eq_true rfl, Nat.le_of_ble_eq_true rfl⟩ hF
      · skip
        refine jj_aload_n (j := 0) (i := 0) (pc' := 917) dL_two_916 rfl rfl rfl ?_
        refine jj_bipush (v := (6 : Int32)) (pc' := 919) dL_two_917 rfl rfl ?_
        refine jj_cI (N := M_X3_count) (kc' := 14578) (ks' := 90003) (pc' := 922) (jg_V (N := M_X3_count) (ci := 3) (rest := []) (as := [.int ((6 : Int32))]) cf_L_81 dL_two_919 ⟨rfl, rfl⟩ rfl rfl ⟨Nat.le_of_ble_eq_true rfl, Nat.le_of_ble_eq_true rfl⟩ ⟨Nat.le_of_ble_eq_true rfl, Nat.le_of_ble_eq_true rfl⟩ (Nat.le_of_ble_eq_true rfl) (fun X' hX => KX3_count hX)) rfl rfl rfl rfl ⟨Nat.le_of_ble_eq_true rfl, Nat.le_of_ble_eq_true rfl⟩ rfl hF (fun x106 h105 hF => ?_)
        refine jj_if_ne (tgt := 1005) (pc' := 925) dL_two_922 rfl rfl (fun hc hF => ?_) (fun hc hF => ?_) hF
        · skip
          refine jj_iconst (v := (0 : Int32)) (pc' := 1006) dL_two_1005 rfl rfl ?_
          exact jj_retI (ty := .boolean) rfl rfl dL_two_1006 ⟨Nat.le_of_ble_eq_true rfl, Nat.le_of_ble_eq_true rfl⟩ hF
        · skip
          refine jj_aload_n (j := 0) (i := 0) (pc' := 926) dL_two_925 rfl rfl rfl ?_
          refine jj_iconst (v := (0 : Int32)) (pc' := 927) dL_two_926 rfl rfl ?_
          refine jj_iconst (v := (5 : Int32)) (pc' := 928) dL_two_927 rfl rfl ?_
          refine jj_cI (N := M_X3_filmOf) (kc' := 14580) (ks' := 90015) (pc' := 931) (jg_V (N := M_X3_filmOf) (ci := 3) (rest := []) (as := [.int ((0 : Int32)), .int ((5 : Int32))]) cf_L_60 dL_two_928 ⟨rfl, rfl⟩ rfl rfl ⟨Nat.le_of_ble_eq_true rfl, Nat.le_of_ble_eq_true rfl⟩ ⟨Nat.le_of_ble_eq_true rfl, Nat.le_of_ble_eq_true rfl⟩ (Nat.le_of_ble_eq_true rfl) (fun X' hX => KX3_filmOf hX)) rfl rfl rfl rfl ⟨Nat.le_of_ble_eq_true rfl, Nat.le_of_ble_eq_true rfl⟩ rfl hF (fun x108 h107 hF => ?_)
          refine jj_bipush (v := (11 : Int32)) (pc' := 933) dL_two_931 rfl rfl ?_
          refine jj_icmp_ne (tgt := 1005) (pc' := 936) dL_two_933 rfl rfl (fun hc hF => ?_) (fun hc hF => ?_) hF
          · skip
            refine jj_iconst (v := (0 : Int32)) (pc' := 1006) dL_two_1005 rfl rfl ?_
            exact jj_retI (ty := .boolean) rfl rfl dL_two_1006 ⟨Nat.le_of_ble_eq_true rfl, Nat.le_of_ble_eq_true rfl⟩ hF
          · skip
            refine jj_aload_n (j := 0) (i := 0) (pc' := 937) dL_two_936 rfl rfl rfl ?_
            refine jj_iconst (v := (0 : Int32)) (pc' := 938) dL_two_937 rfl rfl ?_
            refine jj_iconst (v := (4 : Int32)) (pc' := 939) dL_two_938 rfl rfl ?_
            refine jj_cI (N := M_X3_filmOf) (kc' := 14582) (ks' := 90027) (pc' := 942) (jg_V (N := M_X3_filmOf) (ci := 3) (rest := []) (as := [.int ((0 : Int32)), .int ((4 : Int32))]) cf_L_60 dL_two_939 ⟨rfl, rfl⟩ rfl rfl ⟨Nat.le_of_ble_eq_true rfl, Nat.le_of_ble_eq_true rfl⟩ ⟨Nat.le_of_ble_eq_true rfl, Nat.le_of_ble_eq_true rfl⟩ (Nat.le_of_ble_eq_true rfl) (fun X' hX => KX3_filmOf hX)) rfl rfl rfl rfl ⟨Nat.le_of_ble_eq_true rfl, Nat.le_of_ble_eq_true rfl⟩ rfl hF (fun x110 h109 hF => ?_)
            refine jj_iconst (v := (3 : Int32)) (pc' := 943) dL_two_942 rfl rfl ?_
            refine jj_icmp_ne (tgt := 1005) (pc' := 946) dL_two_943 rfl rfl (fun hc hF => ?_) (fun hc hF => ?_) hF
            · skip
              refine jj_iconst (v := (0 : Int32)) (pc' := 1006) dL_two_1005 rfl rfl ?_
              exact jj_retI (ty := .boolean) rfl rfl dL_two_1006 ⟨Nat.le_of_ble_eq_true rfl, Nat.le_of_ble_eq_true rfl⟩ hF
            · skip
              refine jj_aload_n (j := 0) (i := 0) (pc' := 947) dL_two_946 rfl rfl rfl ?_
              refine jj_iconst (v := (1 : Int32)) (pc' := 948) dL_two_947 rfl rfl ?_
              refine jj_iconst (v := (4 : Int32)) (pc' := 949) dL_two_948 rfl rfl ?_
              refine jj_cI (N := M_X3_filmOf) (kc' := 14584) (ks' := 90039) (pc' := 952) (jg_V (N := M_X3_filmOf) (ci := 3) (rest := []) (as := [.int ((1 : Int32)), .int ((4 : Int32))]) cf_L_60 dL_two_949 ⟨rfl, rfl⟩ rfl rfl ⟨Nat.le_of_ble_eq_true rfl, Nat.le_of_ble_eq_true rfl⟩ ⟨Nat.le_of_ble_eq_true rfl, Nat.le_of_ble_eq_true rfl⟩ (Nat.le_of_ble_eq_true rfl) (fun X' hX => KX3_filmOf hX)) rfl rfl rfl rfl ⟨Nat.le_of_ble_eq_true rfl, Nat.le_of_ble_eq_true rfl⟩ rfl hF (fun x112 h111 hF => ?_)
              refine jj_iconst (v := (1 : Int32)) (pc' := 953) dL_two_952 rfl rfl ?_
              refine jj_icmp_ne (tgt := 1005) (pc' := 956) dL_two_953 rfl rfl (fun hc hF => ?_) (fun hc hF => ?_) hF
              · skip
                refine jj_iconst (v := (0 : Int32)) (pc' := 1006) dL_two_1005 rfl rfl ?_
                exact jj_retI (ty := .boolean) rfl rfl dL_two_1006 ⟨Nat.le_of_ble_eq_true rfl, Nat.le_of_ble_eq_true rfl⟩ hF
              · skip
                refine jj_aload_n (j := 0) (i := 0) (pc' := 957) dL_two_956 rfl rfl rfl ?_
                refine jj_iconst (v := (0 : Int32)) (pc' := 958) dL_two_957 rfl rfl ?_
                refine jj_iconst (v := (2 : Int32)) (pc' := 959) dL_two_958 rfl rfl ?_
                refine jj_cI (N := M_X3_juror) (kc' := 14586) (ks' := 90051) (pc' := 962) (jg_V (N := M_X3_juror) (ci := 3) (rest := []) (as := [.int ((0 : Int32)), .int ((2 : Int32))]) cf_L_78 dL_two_959 ⟨rfl, rfl⟩ rfl rfl ⟨Nat.le_of_ble_eq_true rfl, Nat.le_of_ble_eq_true rfl⟩ ⟨Nat.le_of_ble_eq_true rfl, Nat.le_of_ble_eq_true rfl⟩ (Nat.le_of_ble_eq_true rfl) (fun X' hX => KX3_juror hX)) rfl rfl rfl rfl ⟨Nat.le_of_ble_eq_true rfl, Nat.le_of_ble_eq_true rfl⟩ rfl hF (fun x114 h113 hF => ?_)
                refine jj_bipush (v := (17 : Int32)) (pc' := 964) dL_two_962 rfl rfl ?_
                refine jj_icmp_ne (tgt := 1005) (pc' := 967) dL_two_964 rfl rfl (fun hc hF => ?_) (fun hc hF => ?_) hF
                · skip
                  refine jj_iconst (v := (0 : Int32)) (pc' := 1006) dL_two_1005 rfl rfl ?_
                  exact jj_retI (ty := .boolean) rfl rfl dL_two_1006 ⟨Nat.le_of_ble_eq_true rfl, Nat.le_of_ble_eq_true rfl⟩ hF
                · skip
                  refine jj_aload_n (j := 0) (i := 0) (pc' := 968) dL_two_967 rfl rfl rfl ?_
                  refine jj_iconst (v := (0 : Int32)) (pc' := 969) dL_two_968 rfl rfl ?_
                  refine jj_iconst (v := (1 : Int32)) (pc' := 970) dL_two_969 rfl rfl ?_
                  refine jj_cI (N := M_X3_juror) (kc' := 14588) (ks' := 90063) (pc' := 973) (jg_V (N := M_X3_juror) (ci := 3) (rest := []) (as := [.int ((0 : Int32)), .int ((1 : Int32))]) cf_L_78 dL_two_970 ⟨rfl, rfl⟩ rfl rfl ⟨Nat.le_of_ble_eq_true rfl, Nat.le_of_ble_eq_true rfl⟩ ⟨Nat.le_of_ble_eq_true rfl, Nat.le_of_ble_eq_true rfl⟩ (Nat.le_of_ble_eq_true rfl) (fun X' hX => KX3_juror hX)) rfl rfl rfl rfl ⟨Nat.le_of_ble_eq_true rfl, Nat.le_of_ble_eq_true rfl⟩ rfl hF (fun x116 h115 hF => ?_)
                  refine jj_iconst (v := (3 : Int32)) (pc' := 974) dL_two_973 rfl rfl ?_
                  refine jj_icmp_ne (tgt := 1005) (pc' := 977) dL_two_974 rfl rfl (fun hc hF => ?_) (fun hc hF => ?_) hF
                  · skip
                    refine jj_iconst (v := (0 : Int32)) (pc' := 1006) dL_two_1005 rfl rfl ?_
                    exact jj_retI (ty := .boolean) rfl rfl dL_two_1006 ⟨Nat.le_of_ble_eq_true rfl, Nat.le_of_ble_eq_true rfl⟩ hF
                  · skip
                    refine jj_aload_n (j := 0) (i := 0) (pc' := 978) dL_two_977 rfl rfl rfl ?_
                    refine jj_iconst (v := (0 : Int32)) (pc' := 979) dL_two_978 rfl rfl ?_
                    refine jj_iconst (v := (5 : Int32)) (pc' := 980) dL_two_979 rfl rfl ?_
                    refine jj_cI (N := M_X3_showing) (kc' := 14590) (ks' := 90075) (pc' := 983) (jg_V (N := M_X3_showing) (ci := 3) (rest := []) (as := [.int ((0 : Int32)), .int ((5 : Int32))]) cf_L_63 dL_two_980 ⟨rfl, rfl⟩ rfl rfl ⟨Nat.le_of_ble_eq_true rfl, Nat.le_of_ble_eq_true rfl⟩ ⟨Nat.le_of_ble_eq_true rfl, Nat.le_of_ble_eq_true rfl⟩ (Nat.le_of_ble_eq_true rfl) (fun X' hX => KX3_showing hX)) rfl rfl rfl rfl ⟨Nat.le_of_ble_eq_true rfl, Nat.le_of_ble_eq_true rfl⟩ rfl hF (fun x118 h117 hF => ?_)
                    refine jj_iconst (v := (3 : Int32)) (pc' := 984) dL_two_983 rfl rfl ?_
                    refine jj_icmp_ne (tgt := 1005) (pc' := 987) dL_two_984 rfl rfl (fun hc hF => ?_) (fun hc hF => ?_) hF
                    · skip
                      refine jj_iconst (v := (0 : Int32)) (pc' := 1006) dL_two_1005 rfl rfl ?_
                      exact jj_retI (ty := .boolean) rfl rfl dL_two_1006 ⟨Nat.le_of_ble_eq_true rfl, Nat.le_of_ble_eq_true rfl⟩ hF
                    · skip
                      refine jj_aload_n (j := 0) (i := 0) (pc' := 988) dL_two_987 rfl rfl rfl ?_
                      refine jj_iconst (v := (4 : Int32)) (pc' := 989) dL_two_988 rfl rfl ?_
                      refine jj_cI (N := M_X3_count) (kc' := 14591) (ks' := 90081) (pc' := 992) (jg_V (N := M_X3_count) (ci := 3) (rest := []) (as := [.int ((4 : Int32))]) cf_L_81 dL_two_989 ⟨rfl, rfl⟩ rfl rfl ⟨Nat.le_of_ble_eq_true rfl, Nat.le_of_ble_eq_true rfl⟩ ⟨Nat.le_of_ble_eq_true rfl, Nat.le_of_ble_eq_true rfl⟩ (Nat.le_of_ble_eq_true rfl) (fun X' hX => KX3_count hX)) rfl rfl rfl rfl ⟨Nat.le_of_ble_eq_true rfl, Nat.le_of_ble_eq_true rfl⟩ rfl hF (fun x120 h119 hF => ?_)
                      refine jj_sipush (v := (400 : Int32)) (pc' := 995) dL_two_992 rfl rfl ?_
                      refine jj_icmp_ne (tgt := 1005) (pc' := 998) dL_two_995 rfl rfl (fun hc hF => ?_) (fun hc hF => ?_) hF
                      · skip
                        refine jj_iconst (v := (0 : Int32)) (pc' := 1006) dL_two_1005 rfl rfl ?_
                        exact jj_retI (ty := .boolean) rfl rfl dL_two_1006 ⟨Nat.le_of_ble_eq_true rfl, Nat.le_of_ble_eq_true rfl⟩ hF
                      · skip
                        refine jj_wide (kc' := 14591) (ks' := 90081) (Nat.le_of_ble_eq_true rfl) (Nat.le_of_ble_eq_true rfl) ?_
                        exact jj_pick [0] rfl (BL_two_998 N N a0 h119 _ hF)
set_option maxRecDepth 100000 in
set_option maxHeartbeats 4000000 in
theorem BL_two_776 (N : Nat) : ∀ (n : Nat) (a0 : Nat) (h : jm_H) (X : jm_X), FL_two_776 N n a0 h = some X → jm_J M_L_two 776 [(0, .ref a0)] [] h 14366 88731 X := by
  intro n
  induction n with
  | zero =>
    intro a0 h X hF
    exact nomatch (show (none : Option jm_X) = some X from hF)
  | succ n ih =>
    intro a0 h X hF
    rw [FL_two_776] at hF
    refine jj_aload_n (j := 0) (i := 0) (pc' := 777) dL_two_776 rfl rfl rfl ?_
    refine jj_iconst (v := (1 : Int32)) (pc' := 778) dL_two_777 rfl rfl ?_
    refine jj_iconst (v := (1 : Int32)) (pc' := 779) dL_two_778 rfl rfl ?_
    refine jj_sipush (v := (140 : Int32)) (pc' := 782) dL_two_779 rfl rfl ?_
    refine jj_iconst (v := (0 : Int32)) (pc' := 783) dL_two_782 rfl rfl ?_
    refine jj_cI (N := M_X3_show) (kc' := 14371) (ks' := 88761) (pc' := 786) (jg_V (N := M_X3_show) (ci := 3) (rest := []) (as := [.int ((1 : Int32)), .int ((1 : Int32)), .int ((140 : Int32)), .int ((0 : Int32))]) cf_L_23 dL_two_783 ⟨rfl, rfl⟩ rfl rfl ⟨Nat.le_of_ble_eq_true rfl, Nat.le_of_ble_eq_true rfl⟩ ⟨Nat.le_of_ble_eq_true rfl, Nat.le_of_ble_eq_true rfl⟩ (Nat.le_of_ble_eq_true rfl) (fun X' hX => KX3_show hX)) rfl rfl rfl rfl ⟨Nat.le_of_ble_eq_true rfl, Nat.le_of_ble_eq_true rfl⟩ rfl hF (fun x102 h101 hF => ?_)
    refine jj_iconst (v := (1 : Int32)) (pc' := 787) dL_two_786 rfl rfl ?_
    refine jj_icmp_ne (tgt := 1005) (pc' := 790) dL_two_787 rfl rfl (fun hc hF => ?_) (fun hc hF => ?_) hF
    · skip
      refine jj_iconst (v := (0 : Int32)) (pc' := 1006) dL_two_1005 rfl rfl ?_
      exact jj_retI (ty := .boolean) rfl rfl dL_two_1006 ⟨Nat.le_of_ble_eq_true rfl, Nat.le_of_ble_eq_true rfl⟩ hF
    · skip
      refine jj_aload_n (j := 0) (i := 0) (pc' := 791) dL_two_790 rfl rfl rfl ?_
      refine jj_cI (N := M_X3_keep) (kc' := 14371) (ks' := 88761) (pc' := 794) (jg_V (N := M_X3_keep) (ci := 3) (rest := []) (as := []) cf_L_147 dL_two_791 ⟨rfl, rfl⟩ rfl rfl ⟨Nat.le_of_ble_eq_true rfl, Nat.le_of_ble_eq_true rfl⟩ ⟨Nat.le_of_ble_eq_true rfl, Nat.le_of_ble_eq_true rfl⟩ (Nat.le_of_ble_eq_true rfl) (fun X' hX => KX3_keep hX)) rfl rfl rfl rfl ⟨Nat.le_of_ble_eq_true rfl, Nat.le_of_ble_eq_true rfl⟩ rfl hF (fun x104 h103 hF => ?_)
      refine jj_iconst (v := (2 : Int32)) (pc' := 795) dL_two_794 rfl rfl ?_
      refine jj_icmp_ne (tgt := 1005) (pc' := 798) dL_two_795 rfl rfl (fun hc hF => ?_) (fun hc hF => ?_) hF
      · skip
        refine jj_iconst (v := (0 : Int32)) (pc' := 1006) dL_two_1005 rfl rfl ?_
        exact jj_retI (ty := .boolean) rfl rfl dL_two_1006 ⟨Nat.le_of_ble_eq_true rfl, Nat.le_of_ble_eq_true rfl⟩ hF
      · skip
        refine jj_aload_n (j := 0) (i := 0) (pc' := 799) dL_two_798 rfl rfl rfl ?_
        refine jj_iconst (v := (0 : Int32)) (pc' := 800) dL_two_799 rfl rfl ?_
        refine jj_iconst (v := (0 : Int32)) (pc' := 801) dL_two_800 rfl rfl ?_
        refine jj_cI (N := M_X3_attend) (kc' := 14374) (ks' := 88779) (pc' := 804) (jg_V (N := M_X3_attend) (ci := 3) (rest := []) (as := [.int ((0 : Int32)), .int ((0 : Int32))]) cf_L_38 dL_two_801 ⟨rfl, rfl⟩ rfl rfl ⟨Nat.le_of_ble_eq_true rfl, Nat.le_of_ble_eq_true rfl⟩ ⟨Nat.le_of_ble_eq_true rfl, Nat.le_of_ble_eq_true rfl⟩ (Nat.le_of_ble_eq_true rfl) (fun X' hX => KX3_attend hX)) rfl rfl rfl rfl ⟨Nat.le_of_ble_eq_true rfl, Nat.le_of_ble_eq_true rfl⟩ rfl hF (fun x106 h105 hF => ?_)
        refine jj_iconst (v := (1 : Int32)) (pc' := 805) dL_two_804 rfl rfl ?_
        refine jj_icmp_ne (tgt := 1005) (pc' := 808) dL_two_805 rfl rfl (fun hc hF => ?_) (fun hc hF => ?_) hF
        · skip
          refine jj_iconst (v := (0 : Int32)) (pc' := 1006) dL_two_1005 rfl rfl ?_
          exact jj_retI (ty := .boolean) rfl rfl dL_two_1006 ⟨Nat.le_of_ble_eq_true rfl, Nat.le_of_ble_eq_true rfl⟩ hF
        · skip
          refine jj_aload_n (j := 0) (i := 0) (pc' := 809) dL_two_808 rfl rfl rfl ?_
          refine jj_iconst (v := (0 : Int32)) (pc' := 810) dL_two_809 rfl rfl ?_
          refine jj_iconst (v := (1 : Int32)) (pc' := 811) dL_two_810 rfl rfl ?_
          refine jj_cI (N := M_X3_attend) (kc' := 14377) (ks' := 88797) (pc' := 814) (jg_V (N := M_X3_attend) (ci := 3) (rest := []) (as := [.int ((0 : Int32)), .int ((1 : Int32))]) cf_L_38 dL_two_811 ⟨rfl, rfl⟩ rfl rfl ⟨Nat.le_of_ble_eq_true rfl, Nat.le_of_ble_eq_true rfl⟩ ⟨Nat.le_of_ble_eq_true rfl, Nat.le_of_ble_eq_true rfl⟩ (Nat.le_of_ble_eq_true rfl) (fun X' hX => KX3_attend hX)) rfl rfl rfl rfl ⟨Nat.le_of_ble_eq_true rfl, Nat.le_of_ble_eq_true rfl⟩ rfl hF (fun x108 h107 hF => ?_)
          refine jj_iconst (v := (2 : Int32)) (pc' := 815) dL_two_814 rfl rfl ?_
          refine jj_icmp_ne (tgt := 1005) (pc' := 818) dL_two_815 rfl rfl (fun hc hF => ?_) (fun hc hF => ?_) hF
          · skip
            refine jj_iconst (v := (0 : Int32)) (pc' := 1006) dL_two_1005 rfl rfl ?_
            exact jj_retI (ty := .boolean) rfl rfl dL_two_1006 ⟨Nat.le_of_ble_eq_true rfl, Nat.le_of_ble_eq_true rfl⟩ hF
          · skip
            refine jj_aload_n (j := 0) (i := 0) (pc' := 819) dL_two_818 rfl rfl rfl ?_
            refine jj_bipush (v := (7 : Int32)) (pc' := 821) dL_two_819 rfl rfl ?_
            refine jj_iconst (v := (0 : Int32)) (pc' := 822) dL_two_821 rfl rfl ?_
            refine jj_iconst (v := (1 : Int32)) (pc' := 823) dL_two_822 rfl rfl ?_
            refine jj_iconst (v := (0 : Int32)) (pc' := 824) dL_two_823 rfl rfl ?_
            refine jj_lconst (v := (0 : Int64)) (pc' := 825) dL_two_824 rfl rfl ?_
            refine jj_cI (N := M_L_call) (kc' := 14438) (ks' := 89163) (pc' := 828) (jg_H (N := M_L_call) (rest := []) (as := [.ref a0, .int ((7 : Int32)), .int ((0 : Int32)), .int ((1 : Int32)), .int ((0 : Int32)), .long ((0 : Int64))]) cf_L_119 (by decide) dL_two_825 rfl rfl ⟨Nat.le_of_ble_eq_true rfl, Nat.le_of_ble_eq_true rfl⟩ ⟨Nat.le_of_ble_eq_true rfl, Nat.le_of_ble_eq_true rfl⟩ (Nat.le_of_ble_eq_true rfl) (fun X' hX => KL_call hX)) rfl rfl rfl rfl ⟨Nat.le_of_ble_eq_true rfl, Nat.le_of_ble_eq_true rfl⟩ rfl hF (fun x110 h109 hF => ?_)
            refine jj_bipush (v := (-13 : Int32)) (pc' := 830) dL_two_828 rfl rfl ?_
            refine jj_icmp_ne (tgt := 1005) (pc' := 833) dL_two_830 rfl rfl (fun hc hF => ?_) (fun hc hF => ?_) hF
            · skip
              refine jj_iconst (v := (0 : Int32)) (pc' := 1006) dL_two_1005 rfl rfl ?_
              exact jj_retI (ty := .boolean) rfl rfl dL_two_1006 ⟨Nat.le_of_ble_eq_true rfl, Nat.le_of_ble_eq_true rfl⟩ hF
            · skip
              refine jj_aload_n (j := 0) (i := 0) (pc' := 834) dL_two_833 rfl rfl rfl ?_
              refine jj_iconst (v := (3 : Int32)) (pc' := 835) dL_two_834 rfl rfl ?_
              refine jj_bipush (v := (6 : Int32)) (pc' := 837) dL_two_835 rfl rfl ?_
              refine jj_cI (N := M_X3_set) (kc' := 14440) (ks' := 89175) (pc' := 840) (jg_V (N := M_X3_set) (ci := 3) (rest := []) (as := [.int ((3 : Int32)), .int ((6 : Int32))]) cf_L_20 dL_two_837 ⟨rfl, rfl⟩ rfl rfl ⟨Nat.le_of_ble_eq_true rfl, Nat.le_of_ble_eq_true rfl⟩ ⟨Nat.le_of_ble_eq_true rfl, Nat.le_of_ble_eq_true rfl⟩ (Nat.le_of_ble_eq_true rfl) (fun X' hX => KX3_set hX)) rfl rfl rfl rfl ⟨Nat.le_of_ble_eq_true rfl, Nat.le_of_ble_eq_true rfl⟩ rfl hF (fun x112 h111 hF => ?_)
              refine jj_iconst (v := (5 : Int32)) (pc' := 841) dL_two_840 rfl rfl ?_
              refine jj_icmp_ne (tgt := 1005) (pc' := 844) dL_two_841 rfl rfl (fun hc hF => ?_) (fun hc hF => ?_) hF
              · skip
                refine jj_iconst (v := (0 : Int32)) (pc' := 1006) dL_two_1005 rfl rfl ?_
                exact jj_retI (ty := .boolean) rfl rfl dL_two_1006 ⟨Nat.le_of_ble_eq_true rfl, Nat.le_of_ble_eq_true rfl⟩ hF
              · skip
                refine jj_aload_n (j := 0) (i := 0) (pc' := 845) dL_two_844 rfl rfl rfl ?_
                refine jj_iconst (v := (1 : Int32)) (pc' := 846) dL_two_845 rfl rfl ?_
                refine jj_iconst (v := (0 : Int32)) (pc' := 847) dL_two_846 rfl rfl ?_
                refine jj_cI (N := M_X3_attend) (kc' := 14443) (ks' := 89193) (pc' := 850) (jg_V (N := M_X3_attend) (ci := 3) (rest := []) (as := [.int ((1 : Int32)), .int ((0 : Int32))]) cf_L_38 dL_two_847 ⟨rfl, rfl⟩ rfl rfl ⟨Nat.le_of_ble_eq_true rfl, Nat.le_of_ble_eq_true rfl⟩ ⟨Nat.le_of_ble_eq_true rfl, Nat.le_of_ble_eq_true rfl⟩ (Nat.le_of_ble_eq_true rfl) (fun X' hX => KX3_attend hX)) rfl rfl rfl rfl ⟨Nat.le_of_ble_eq_true rfl, Nat.le_of_ble_eq_true rfl⟩ rfl hF (fun x114 h113 hF => ?_)
                refine jj_iconst (v := (1 : Int32)) (pc' := 851) dL_two_850 rfl rfl ?_
                refine jj_icmp_ne (tgt := 1005) (pc' := 854) dL_two_851 rfl rfl (fun hc hF => ?_) (fun hc hF => ?_) hF
                · skip
                  refine jj_iconst (v := (0 : Int32)) (pc' := 1006) dL_two_1005 rfl rfl ?_
                  exact jj_retI (ty := .boolean) rfl rfl dL_two_1006 ⟨Nat.le_of_ble_eq_true rfl, Nat.le_of_ble_eq_true rfl⟩ hF
                · skip
                  refine jj_aload_n (j := 0) (i := 0) (pc' := 855) dL_two_854 rfl rfl rfl ?_
                  refine jj_bipush (v := (7 : Int32)) (pc' := 857) dL_two_855 rfl rfl ?_
                  refine jj_iconst (v := (1 : Int32)) (pc' := 858) dL_two_857 rfl rfl ?_
                  refine jj_iconst (v := (1 : Int32)) (pc' := 859) dL_two_858 rfl rfl ?_
                  refine jj_iconst (v := (0 : Int32)) (pc' := 860) dL_two_859 rfl rfl ?_
                  refine jj_lconst (v := (0 : Int64)) (pc' := 861) dL_two_860 rfl rfl ?_
                  refine jj_cI (N := M_L_call) (kc' := 14504) (ks' := 89559) (pc' := 864) (jg_H (N := M_L_call) (rest := []) (as := [.ref a0, .int ((7 : Int32)), .int ((1 : Int32)), .int ((1 : Int32)), .int ((0 : Int32)), .long ((0 : Int64))]) cf_L_119 (by decide) dL_two_861 rfl rfl ⟨Nat.le_of_ble_eq_true rfl, Nat.le_of_ble_eq_true rfl⟩ ⟨Nat.le_of_ble_eq_true rfl, Nat.le_of_ble_eq_true rfl⟩ (Nat.le_of_ble_eq_true rfl) (fun X' hX => KL_call hX)) rfl rfl rfl rfl ⟨Nat.le_of_ble_eq_true rfl, Nat.le_of_ble_eq_true rfl⟩ rfl hF (fun x116 h115 hF => ?_)
                  refine jj_bipush (v := (-13 : Int32)) (pc' := 866) dL_two_864 rfl rfl ?_
                  refine jj_icmp_ne (tgt := 1005) (pc' := 869) dL_two_866 rfl rfl (fun hc hF => ?_) (fun hc hF => ?_) hF
                  · skip
                    refine jj_iconst (v := (0 : Int32)) (pc' := 1006) dL_two_1005 rfl rfl ?_
                    exact jj_retI (ty := .boolean) rfl rfl dL_two_1006 ⟨Nat.le_of_ble_eq_true rfl, Nat.le_of_ble_eq_true rfl⟩ hF
                  · skip
                    refine jj_aload_n (j := 0) (i := 0) (pc' := 870) dL_two_869 rfl rfl rfl ?_
                    refine jj_bipush (v := (8 : Int32)) (pc' := 872) dL_two_870 rfl rfl ?_
                    refine jj_iconst (v := (1 : Int32)) (pc' := 873) dL_two_872 rfl rfl ?_
                    refine jj_iconst (v := (1 : Int32)) (pc' := 874) dL_two_873 rfl rfl ?_
                    refine jj_iconst (v := (5 : Int32)) (pc' := 875) dL_two_874 rfl rfl ?_
                    refine jj_lconst (v := (0 : Int64)) (pc' := 876) dL_two_875 rfl rfl ?_
                    refine jj_cI (N := M_L_call) (kc' := 14565) (ks' := 89925) (pc' := 879) (jg_H (N := M_L_call) (rest := []) (as := [.ref a0, .int ((8 : Int32)), .int ((1 : Int32)), .int ((1 : Int32)), .int ((5 : Int32)), .long ((0 : Int64))]) cf_L_119 (by decide) dL_two_876 rfl rfl ⟨Nat.le_of_ble_eq_true rfl, Nat.le_of_ble_eq_true rfl⟩ ⟨Nat.le_of_ble_eq_true rfl, Nat.le_of_ble_eq_true rfl⟩ (Nat.le_of_ble_eq_true rfl) (fun X' hX => KL_call hX)) rfl rfl rfl rfl ⟨Nat.le_of_ble_eq_true rfl, Nat.le_of_ble_eq_true rfl⟩ rfl hF (fun x118 h117 hF => ?_)
                    refine jj_bipush (v := (-13 : Int32)) (pc' := 881) dL_two_879 rfl rfl ?_
                    refine jj_icmp_ne (tgt := 1005) (pc' := 884) dL_two_881 rfl rfl (fun hc hF => ?_) (fun hc hF => ?_) hF
                    · skip
                      refine jj_iconst (v := (0 : Int32)) (pc' := 1006) dL_two_1005 rfl rfl ?_
                      exact jj_retI (ty := .boolean) rfl rfl dL_two_1006 ⟨Nat.le_of_ble_eq_true rfl, Nat.le_of_ble_eq_true rfl⟩ hF
                    · skip
                      refine jj_aload_n (j := 0) (i := 0) (pc' := 885) dL_two_884 rfl rfl rfl ?_
                      refine jj_iconst (v := (0 : Int32)) (pc' := 886) dL_two_885 rfl rfl ?_
                      refine jj_iconst (v := (0 : Int32)) (pc' := 887) dL_two_886 rfl rfl ?_
                      refine jj_bipush (v := (7 : Int32)) (pc' := 889) dL_two_887 rfl rfl ?_
                      refine jj_cI (N := M_X3_vote) (kc' := 14569) (ks' := 89949) (pc' := 892) (jg_V (N := M_X3_vote) (ci := 3) (rest := []) (as := [.int ((0 : Int32)), .int ((0 : Int32)), .int ((7 : Int32))]) cf_L_41 dL_two_889 ⟨rfl, rfl⟩ rfl rfl ⟨Nat.le_of_ble_eq_true rfl, Nat.le_of_ble_eq_true rfl⟩ ⟨Nat.le_of_ble_eq_true rfl, Nat.le_of_ble_eq_true rfl⟩ (Nat.le_of_ble_eq_true rfl) (fun X' hX => KX3_vote hX)) rfl rfl rfl rfl ⟨Nat.le_of_ble_eq_true rfl, Nat.le_of_ble_eq_true rfl⟩ rfl hF (fun x120 h119 hF => ?_)
                      refine jj_if_ne (tgt := 1005) (pc' := 895) dL_two_892 rfl rfl (fun hc hF => ?_) (fun hc hF => ?_) hF
                      · skip
                        refine jj_iconst (v := (0 : Int32)) (pc' := 1006) dL_two_1005 rfl rfl ?_
                        exact jj_retI (ty := .boolean) rfl rfl dL_two_1006 ⟨Nat.le_of_ble_eq_true rfl, Nat.le_of_ble_eq_true rfl⟩ hF
                      · skip
                        refine jj_wide (kc' := 14569) (ks' := 89949) (Nat.le_of_ble_eq_true rfl) (Nat.le_of_ble_eq_true rfl) ?_
                        exact jj_pick [0] rfl (BL_two_895 N N a0 h119 _ hF)
set_option maxRecDepth 100000 in
set_option maxHeartbeats 4000000 in
theorem BL_two_732 (N : Nat) : ∀ (n : Nat) (a0 : Nat) (h : jm_H) (X : jm_X), FL_two_732 N n a0 h = some X → jm_J M_L_two 732 [(0, .ref a0)] [] h 14359 88689 X := by
  intro n
  induction n with
  | zero =>
    intro a0 h X hF
    exact nomatch (show (none : Option jm_X) = some X from hF)
  | succ n ih =>
    intro a0 h X hF
    rw [FL_two_732] at hF
    refine jj_aload_n (j := 0) (i := 0) (pc' := 733) dL_two_732 rfl rfl rfl ?_
    refine jj_iconst (v := (2 : Int32)) (pc' := 734) dL_two_733 rfl rfl ?_
    refine jj_bipush (v := (9 : Int32)) (pc' := 736) dL_two_734 rfl rfl ?_
    refine jj_cI (N := M_X3_set) (kc' := 14361) (ks' := 88701) (pc' := 739) (jg_V (N := M_X3_set) (ci := 3) (rest := []) (as := [.int ((2 : Int32)), .int ((9 : Int32))]) cf_L_20 dL_two_736 ⟨rfl, rfl⟩ rfl rfl ⟨Nat.le_of_ble_eq_true rfl, Nat.le_of_ble_eq_true rfl⟩ ⟨Nat.le_of_ble_eq_true rfl, Nat.le_of_ble_eq_true rfl⟩ (Nat.le_of_ble_eq_true rfl) (fun X' hX => KX3_set hX)) rfl rfl rfl rfl ⟨Nat.le_of_ble_eq_true rfl, Nat.le_of_ble_eq_true rfl⟩ rfl hF (fun x102 h101 hF => ?_)
    refine jj_bipush (v := (10 : Int32)) (pc' := 741) dL_two_739 rfl rfl ?_
    refine jj_icmp_ne (tgt := 774) (pc' := 744) dL_two_741 rfl rfl (fun hc hF => ?_) (fun hc hF => ?_) hF
    · skip
      refine jj_iconst (v := (0 : Int32)) (pc' := 775) dL_two_774 rfl rfl ?_
      exact jj_retI (ty := .boolean) rfl rfl dL_two_775 ⟨Nat.le_of_ble_eq_true rfl, Nat.le_of_ble_eq_true rfl⟩ hF
    · skip
      refine jj_aload_n (j := 0) (i := 0) (pc' := 745) dL_two_744 rfl rfl rfl ?_
      refine jj_iconst (v := (2 : Int32)) (pc' := 746) dL_two_745 rfl rfl ?_
      refine jj_iconst (v := (3 : Int32)) (pc' := 747) dL_two_746 rfl rfl ?_
      refine jj_cI (N := M_X3_guestOf) (kc' := 14363) (ks' := 88713) (pc' := 750) (jg_V (N := M_X3_guestOf) (ci := 3) (rest := []) (as := [.int ((2 : Int32)), .int ((3 : Int32))]) cf_L_75 dL_two_747 ⟨rfl, rfl⟩ rfl rfl ⟨Nat.le_of_ble_eq_true rfl, Nat.le_of_ble_eq_true rfl⟩ ⟨Nat.le_of_ble_eq_true rfl, Nat.le_of_ble_eq_true rfl⟩ (Nat.le_of_ble_eq_true rfl) (fun X' hX => KX3_guestOf hX)) rfl rfl rfl rfl ⟨Nat.le_of_ble_eq_true rfl, Nat.le_of_ble_eq_true rfl⟩ rfl hF (fun x104 h103 hF => ?_)
      refine jj_if_ne (tgt := 774) (pc' := 753) dL_two_750 rfl rfl (fun hc hF => ?_) (fun hc hF => ?_) hF
      · skip
        refine jj_iconst (v := (0 : Int32)) (pc' := 775) dL_two_774 rfl rfl ?_
        exact jj_retI (ty := .boolean) rfl rfl dL_two_775 ⟨Nat.le_of_ble_eq_true rfl, Nat.le_of_ble_eq_true rfl⟩ hF
      · skip
        refine jj_aload_n (j := 0) (i := 0) (pc' := 754) dL_two_753 rfl rfl rfl ?_
        refine jj_iconst (v := (2 : Int32)) (pc' := 755) dL_two_754 rfl rfl ?_
        refine jj_bipush (v := (10 : Int32)) (pc' := 757) dL_two_755 rfl rfl ?_
        refine jj_cI (N := M_X3_set) (kc' := 14365) (ks' := 88725) (pc' := 760) (jg_V (N := M_X3_set) (ci := 3) (rest := []) (as := [.int ((2 : Int32)), .int ((10 : Int32))]) cf_L_20 dL_two_757 ⟨rfl, rfl⟩ rfl rfl ⟨Nat.le_of_ble_eq_true rfl, Nat.le_of_ble_eq_true rfl⟩ ⟨Nat.le_of_ble_eq_true rfl, Nat.le_of_ble_eq_true rfl⟩ (Nat.le_of_ble_eq_true rfl) (fun X' hX => KX3_set hX)) rfl rfl rfl rfl ⟨Nat.le_of_ble_eq_true rfl, Nat.le_of_ble_eq_true rfl⟩ rfl hF (fun x106 h105 hF => ?_)
        refine jj_bipush (v := (9 : Int32)) (pc' := 762) dL_two_760 rfl rfl ?_
        refine jj_icmp_ne (tgt := 774) (pc' := 765) dL_two_762 rfl rfl (fun hc hF => ?_) (fun hc hF => ?_) hF
        · skip
          refine jj_iconst (v := (0 : Int32)) (pc' := 775) dL_two_774 rfl rfl ?_
          exact jj_retI (ty := .boolean) rfl rfl dL_two_775 ⟨Nat.le_of_ble_eq_true rfl, Nat.le_of_ble_eq_true rfl⟩ hF
        · skip
          refine jj_aload_n (j := 0) (i := 0) (pc' := 766) dL_two_765 rfl rfl rfl ?_
          refine jj_iconst (v := (3 : Int32)) (pc' := 767) dL_two_766 rfl rfl ?_
          refine jj_cI (N := M_X3_count) (kc' := 14366) (ks' := 88731) (pc' := 770) (jg_V (N := M_X3_count) (ci := 3) (rest := []) (as := [.int ((3 : Int32))]) cf_L_81 dL_two_767 ⟨rfl, rfl⟩ rfl rfl ⟨Nat.le_of_ble_eq_true rfl, Nat.le_of_ble_eq_true rfl⟩ ⟨Nat.le_of_ble_eq_true rfl, Nat.le_of_ble_eq_true rfl⟩ (Nat.le_of_ble_eq_true rfl) (fun X' hX => KX3_count hX)) rfl rfl rfl rfl ⟨Nat.le_of_ble_eq_true rfl, Nat.le_of_ble_eq_true rfl⟩ rfl hF (fun x108 h107 hF => ?_)
          refine jj_iconst (v := (1 : Int32)) (pc' := 771) dL_two_770 rfl rfl ?_
          refine jj_icmp_eq (tgt := 776) (pc' := 774) dL_two_771 rfl rfl (fun hc hF => ?_) (fun hc hF => ?_) hF
          · skip
            refine jj_wide (kc' := 14366) (ks' := 88731) (Nat.le_of_ble_eq_true rfl) (Nat.le_of_ble_eq_true rfl) ?_
            exact jj_pick [0] rfl (BL_two_776 N N a0 h107 _ hF)
          · skip
            refine jj_iconst (v := (0 : Int32)) (pc' := 775) dL_two_774 rfl rfl ?_
            exact jj_retI (ty := .boolean) rfl rfl dL_two_775 ⟨Nat.le_of_ble_eq_true rfl, Nat.le_of_ble_eq_true rfl⟩ hF
set_option maxRecDepth 100000 in
set_option maxHeartbeats 4000000 in
theorem BL_two_615 (N : Nat) : ∀ (n : Nat) (a0 : Nat) (h : jm_H) (X : jm_X), FL_two_615 N n a0 h = some X → jm_J M_L_two 615 [(0, .ref a0)] [] h 14331 88521 X := by
  intro n
  induction n with
  | zero =>
    intro a0 h X hF
    exact nomatch (show (none : Option jm_X) = some X from hF)
  | succ n ih =>
    intro a0 h X hF
    rw [FL_two_615] at hF
    refine jj_aload_n (j := 0) (i := 0) (pc' := 616) dL_two_615 rfl rfl rfl ?_
    refine jj_iconst (v := (0 : Int32)) (pc' := 617) dL_two_616 rfl rfl ?_
    refine jj_sipush (v := (130 : Int32)) (pc' := 620) dL_two_617 rfl rfl ?_
    refine jj_sipush (v := (145 : Int32)) (pc' := 623) dL_two_620 rfl rfl ?_
    refine jj_cI (N := M_X3_guest) (kc' := 14335) (ks' := 88545) (pc' := 626) (jg_V (N := M_X3_guest) (ci := 3) (rest := []) (as := [.int ((0 : Int32)), .int ((130 : Int32)), .int ((145 : Int32))]) cf_L_34 dL_two_623 ⟨rfl, rfl⟩ rfl rfl ⟨Nat.le_of_ble_eq_true rfl, Nat.le_of_ble_eq_true rfl⟩ ⟨Nat.le_of_ble_eq_true rfl, Nat.le_of_ble_eq_true rfl⟩ (Nat.le_of_ble_eq_true rfl) (fun X' hX => KX3_guest hX)) rfl rfl rfl rfl ⟨Nat.le_of_ble_eq_true rfl, Nat.le_of_ble_eq_true rfl⟩ rfl hF (fun x102 h101 hF => ?_)
    refine jj_if_ne (tgt := 774) (pc' := 629) dL_two_626 rfl rfl (fun hc hF => ?_) (fun hc hF => ?_) hF
    · skip
      refine jj_iconst (v := (0 : Int32)) (pc' := 775) dL_two_774 rfl rfl ?_
      exact jj_retI (ty := .boolean) rfl rfl dL_two_775 ⟨Nat.le_of_ble_eq_true rfl, Nat.le_of_ble_eq_true rfl⟩ hF
    · skip
      refine jj_aload_n (j := 0) (i := 0) (pc' := 630) dL_two_629 rfl rfl rfl ?_
      refine jj_iconst (v := (0 : Int32)) (pc' := 631) dL_two_630 rfl rfl ?_
      refine jj_sipush (v := (136 : Int32)) (pc' := 634) dL_two_631 rfl rfl ?_
      refine jj_sipush (v := (300 : Int32)) (pc' := 637) dL_two_634 rfl rfl ?_
      refine jj_cI (N := M_X3_guest) (kc' := 14339) (ks' := 88569) (pc' := 640) (jg_V (N := M_X3_guest) (ci := 3) (rest := []) (as := [.int ((0 : Int32)), .int ((136 : Int32)), .int ((300 : Int32))]) cf_L_34 dL_two_637 ⟨rfl, rfl⟩ rfl rfl ⟨Nat.le_of_ble_eq_true rfl, Nat.le_of_ble_eq_true rfl⟩ ⟨Nat.le_of_ble_eq_true rfl, Nat.le_of_ble_eq_true rfl⟩ (Nat.le_of_ble_eq_true rfl) (fun X' hX => KX3_guest hX)) rfl rfl rfl rfl ⟨Nat.le_of_ble_eq_true rfl, Nat.le_of_ble_eq_true rfl⟩ rfl hF (fun x104 h103 hF => ?_)
      refine jj_iconst (v := (1 : Int32)) (pc' := 641) dL_two_640 rfl rfl ?_
      refine jj_icmp_ne (tgt := 774) (pc' := 644) dL_two_641 rfl rfl (fun hc hF => ?_) (fun hc hF => ?_) hF
      · skip
        refine jj_iconst (v := (0 : Int32)) (pc' := 775) dL_two_774 rfl rfl ?_
        exact jj_retI (ty := .boolean) rfl rfl dL_two_775 ⟨Nat.le_of_ble_eq_true rfl, Nat.le_of_ble_eq_true rfl⟩ hF
      · skip
        refine jj_aload_n (j := 0) (i := 0) (pc' := 645) dL_two_644 rfl rfl rfl ?_
        refine jj_iconst (v := (0 : Int32)) (pc' := 646) dL_two_645 rfl rfl ?_
        refine jj_sipush (v := (135 : Int32)) (pc' := 649) dL_two_646 rfl rfl ?_
        refine jj_sipush (v := (144 : Int32)) (pc' := 652) dL_two_649 rfl rfl ?_
        refine jj_cI (N := M_X3_guest) (kc' := 14343) (ks' := 88593) (pc' := 655) (jg_V (N := M_X3_guest) (ci := 3) (rest := []) (as := [.int ((0 : Int32)), .int ((135 : Int32)), .int ((144 : Int32))]) cf_L_34 dL_two_652 ⟨rfl, rfl⟩ rfl rfl ⟨Nat.le_of_ble_eq_true rfl, Nat.le_of_ble_eq_true rfl⟩ ⟨Nat.le_of_ble_eq_true rfl, Nat.le_of_ble_eq_true rfl⟩ (Nat.le_of_ble_eq_true rfl) (fun X' hX => KX3_guest hX)) rfl rfl rfl rfl ⟨Nat.le_of_ble_eq_true rfl, Nat.le_of_ble_eq_true rfl⟩ rfl hF (fun x106 h105 hF => ?_)
        refine jj_iconst (v := (2 : Int32)) (pc' := 656) dL_two_655 rfl rfl ?_
        refine jj_icmp_ne (tgt := 774) (pc' := 659) dL_two_656 rfl rfl (fun hc hF => ?_) (fun hc hF => ?_) hF
        · skip
          refine jj_iconst (v := (0 : Int32)) (pc' := 775) dL_two_774 rfl rfl ?_
          exact jj_retI (ty := .boolean) rfl rfl dL_two_775 ⟨Nat.le_of_ble_eq_true rfl, Nat.le_of_ble_eq_true rfl⟩ hF
        · skip
          refine jj_aload_n (j := 0) (i := 0) (pc' := 660) dL_two_659 rfl rfl rfl ?_
          refine jj_iconst (v := (0 : Int32)) (pc' := 661) dL_two_660 rfl rfl ?_
          refine jj_iconst (v := (3 : Int32)) (pc' := 662) dL_two_661 rfl rfl ?_
          refine jj_cI (N := M_X3_guestOf) (kc' := 14345) (ks' := 88605) (pc' := 665) (jg_V (N := M_X3_guestOf) (ci := 3) (rest := []) (as := [.int ((0 : Int32)), .int ((3 : Int32))]) cf_L_75 dL_two_662 ⟨rfl, rfl⟩ rfl rfl ⟨Nat.le_of_ble_eq_true rfl, Nat.le_of_ble_eq_true rfl⟩ ⟨Nat.le_of_ble_eq_true rfl, Nat.le_of_ble_eq_true rfl⟩ (Nat.le_of_ble_eq_true rfl) (fun X' hX => KX3_guestOf hX)) rfl rfl rfl rfl ⟨Nat.le_of_ble_eq_true rfl, Nat.le_of_ble_eq_true rfl⟩ rfl hF (fun x108 h107 hF => ?_)
          refine jj_if_ne (tgt := 774) (pc' := 668) dL_two_665 rfl rfl (fun hc hF => ?_) (fun hc hF => ?_) hF
          · skip
            refine jj_iconst (v := (0 : Int32)) (pc' := 775) dL_two_774 rfl rfl ?_
            exact jj_retI (ty := .boolean) rfl rfl dL_two_775 ⟨Nat.le_of_ble_eq_true rfl, Nat.le_of_ble_eq_true rfl⟩ hF
          · skip
            refine jj_aload_n (j := 0) (i := 0) (pc' := 669) dL_two_668 rfl rfl rfl ?_
            refine jj_iconst (v := (1 : Int32)) (pc' := 670) dL_two_669 rfl rfl ?_
            refine jj_iconst (v := (3 : Int32)) (pc' := 671) dL_two_670 rfl rfl ?_
            refine jj_cI (N := M_X3_guestOf) (kc' := 14347) (ks' := 88617) (pc' := 674) (jg_V (N := M_X3_guestOf) (ci := 3) (rest := []) (as := [.int ((1 : Int32)), .int ((3 : Int32))]) cf_L_75 dL_two_671 ⟨rfl, rfl⟩ rfl rfl ⟨Nat.le_of_ble_eq_true rfl, Nat.le_of_ble_eq_true rfl⟩ ⟨Nat.le_of_ble_eq_true rfl, Nat.le_of_ble_eq_true rfl⟩ (Nat.le_of_ble_eq_true rfl) (fun X' hX => KX3_guestOf hX)) rfl rfl rfl rfl ⟨Nat.le_of_ble_eq_true rfl, Nat.le_of_ble_eq_true rfl⟩ rfl hF (fun x110 h109 hF => ?_)
            refine jj_iconst (v := (-1 : Int32)) (pc' := 675) dL_two_674 rfl rfl ?_
            refine jj_icmp_ne (tgt := 774) (pc' := 678) dL_two_675 rfl rfl (fun hc hF => ?_) (fun hc hF => ?_) hF
            · skip
              refine jj_iconst (v := (0 : Int32)) (pc' := 775) dL_two_774 rfl rfl ?_
              exact jj_retI (ty := .boolean) rfl rfl dL_two_775 ⟨Nat.le_of_ble_eq_true rfl, Nat.le_of_ble_eq_true rfl⟩ hF
            · skip
              refine jj_aload_n (j := 0) (i := 0) (pc' := 679) dL_two_678 rfl rfl rfl ?_
              refine jj_iconst (v := (2 : Int32)) (pc' := 680) dL_two_679 rfl rfl ?_
              refine jj_iconst (v := (3 : Int32)) (pc' := 681) dL_two_680 rfl rfl ?_
              refine jj_cI (N := M_X3_guestOf) (kc' := 14349) (ks' := 88629) (pc' := 684) (jg_V (N := M_X3_guestOf) (ci := 3) (rest := []) (as := [.int ((2 : Int32)), .int ((3 : Int32))]) cf_L_75 dL_two_681 ⟨rfl, rfl⟩ rfl rfl ⟨Nat.le_of_ble_eq_true rfl, Nat.le_of_ble_eq_true rfl⟩ ⟨Nat.le_of_ble_eq_true rfl, Nat.le_of_ble_eq_true rfl⟩ (Nat.le_of_ble_eq_true rfl) (fun X' hX => KX3_guestOf hX)) rfl rfl rfl rfl ⟨Nat.le_of_ble_eq_true rfl, Nat.le_of_ble_eq_true rfl⟩ rfl hF (fun x112 h111 hF => ?_)
              refine jj_iconst (v := (-1 : Int32)) (pc' := 685) dL_two_684 rfl rfl ?_
              refine jj_icmp_ne (tgt := 774) (pc' := 688) dL_two_685 rfl rfl (fun hc hF => ?_) (fun hc hF => ?_) hF
              · skip
                refine jj_iconst (v := (0 : Int32)) (pc' := 775) dL_two_774 rfl rfl ?_
                exact jj_retI (ty := .boolean) rfl rfl dL_two_775 ⟨Nat.le_of_ble_eq_true rfl, Nat.le_of_ble_eq_true rfl⟩ hF
              · skip
                refine jj_aload_n (j := 0) (i := 0) (pc' := 689) dL_two_688 rfl rfl rfl ?_
                refine jj_iconst (v := (3 : Int32)) (pc' := 690) dL_two_689 rfl rfl ?_
                refine jj_cI (N := M_X3_count) (kc' := 14350) (ks' := 88635) (pc' := 693) (jg_V (N := M_X3_count) (ci := 3) (rest := []) (as := [.int ((3 : Int32))]) cf_L_81 dL_two_690 ⟨rfl, rfl⟩ rfl rfl ⟨Nat.le_of_ble_eq_true rfl, Nat.le_of_ble_eq_true rfl⟩ ⟨Nat.le_of_ble_eq_true rfl, Nat.le_of_ble_eq_true rfl⟩ (Nat.le_of_ble_eq_true rfl) (fun X' hX => KX3_count hX)) rfl rfl rfl rfl ⟨Nat.le_of_ble_eq_true rfl, Nat.le_of_ble_eq_true rfl⟩ rfl hF (fun x114 h113 hF => ?_)
                refine jj_iconst (v := (1 : Int32)) (pc' := 694) dL_two_693 rfl rfl ?_
                refine jj_icmp_ne (tgt := 774) (pc' := 697) dL_two_694 rfl rfl (fun hc hF => ?_) (fun hc hF => ?_) hF
                · skip
                  refine jj_iconst (v := (0 : Int32)) (pc' := 775) dL_two_774 rfl rfl ?_
                  exact jj_retI (ty := .boolean) rfl rfl dL_two_775 ⟨Nat.le_of_ble_eq_true rfl, Nat.le_of_ble_eq_true rfl⟩ hF
                · skip
                  refine jj_aload_n (j := 0) (i := 0) (pc' := 698) dL_two_697 rfl rfl rfl ?_
                  refine jj_iconst (v := (0 : Int32)) (pc' := 699) dL_two_698 rfl rfl ?_
                  refine jj_iconst (v := (1 : Int32)) (pc' := 700) dL_two_699 rfl rfl ?_
                  refine jj_bipush (v := (125 : Int32)) (pc' := 702) dL_two_700 rfl rfl ?_
                  refine jj_cI (N := M_X3_ifShown) (kc' := 14353) (ks' := 88653) (pc' := 705) (jg_V (N := M_X3_ifShown) (ci := 3) (rest := []) (as := [.int ((0 : Int32)), .int ((1 : Int32)), .int ((125 : Int32))]) cf_L_94 dL_two_702 ⟨rfl, rfl⟩ rfl rfl ⟨Nat.le_of_ble_eq_true rfl, Nat.le_of_ble_eq_true rfl⟩ ⟨Nat.le_of_ble_eq_true rfl, Nat.le_of_ble_eq_true rfl⟩ (Nat.le_of_ble_eq_true rfl) (fun X' hX => KX3_ifShown hX)) rfl rfl rfl rfl ⟨Nat.le_of_ble_eq_true rfl, Nat.le_of_ble_eq_true rfl⟩ rfl hF (fun x116 h115 hF => ?_)
                  refine jj_iconst (v := (1 : Int32)) (pc' := 706) dL_two_705 rfl rfl ?_
                  refine jj_icmp_ne (tgt := 774) (pc' := 709) dL_two_706 rfl rfl (fun hc hF => ?_) (fun hc hF => ?_) hF
                  · skip
                    refine jj_iconst (v := (0 : Int32)) (pc' := 775) dL_two_774 rfl rfl ?_
                    exact jj_retI (ty := .boolean) rfl rfl dL_two_775 ⟨Nat.le_of_ble_eq_true rfl, Nat.le_of_ble_eq_true rfl⟩ hF
                  · skip
                    refine jj_aload_n (j := 0) (i := 0) (pc' := 710) dL_two_709 rfl rfl rfl ?_
                    refine jj_iconst (v := (0 : Int32)) (pc' := 711) dL_two_710 rfl rfl ?_
                    refine jj_iconst (v := (1 : Int32)) (pc' := 712) dL_two_711 rfl rfl ?_
                    refine jj_bipush (v := (120 : Int32)) (pc' := 714) dL_two_712 rfl rfl ?_
                    refine jj_cI (N := M_X3_ifShown) (kc' := 14356) (ks' := 88671) (pc' := 717) (jg_V (N := M_X3_ifShown) (ci := 3) (rest := []) (as := [.int ((0 : Int32)), .int ((1 : Int32)), .int ((120 : Int32))]) cf_L_94 dL_two_714 ⟨rfl, rfl⟩ rfl rfl ⟨Nat.le_of_ble_eq_true rfl, Nat.le_of_ble_eq_true rfl⟩ ⟨Nat.le_of_ble_eq_true rfl, Nat.le_of_ble_eq_true rfl⟩ (Nat.le_of_ble_eq_true rfl) (fun X' hX => KX3_ifShown hX)) rfl rfl rfl rfl ⟨Nat.le_of_ble_eq_true rfl, Nat.le_of_ble_eq_true rfl⟩ rfl hF (fun x118 h117 hF => ?_)
                    refine jj_iconst (v := (-1 : Int32)) (pc' := 718) dL_two_717 rfl rfl ?_
                    refine jj_icmp_ne (tgt := 774) (pc' := 721) dL_two_718 rfl rfl (fun hc hF => ?_) (fun hc hF => ?_) hF
                    · skip
                      refine jj_iconst (v := (0 : Int32)) (pc' := 775) dL_two_774 rfl rfl ?_
                      exact jj_retI (ty := .boolean) rfl rfl dL_two_775 ⟨Nat.le_of_ble_eq_true rfl, Nat.le_of_ble_eq_true rfl⟩ hF
                    · skip
                      refine jj_aload_n (j := 0) (i := 0) (pc' := 722) dL_two_721 rfl rfl rfl ?_
                      refine jj_iconst (v := (1 : Int32)) (pc' := 723) dL_two_722 rfl rfl ?_
                      refine jj_iconst (v := (1 : Int32)) (pc' := 724) dL_two_723 rfl rfl ?_
                      refine jj_bipush (v := (125 : Int32)) (pc' := 726) dL_two_724 rfl rfl ?_
                      refine jj_cI (N := M_X3_ifShown) (kc' := 14359) (ks' := 88689) (pc' := 729) (jg_V (N := M_X3_ifShown) (ci := 3) (rest := []) (as := [.int ((1 : Int32)), .int ((1 : Int32)), .int ((125 : Int32))]) cf_L_94 dL_two_726 ⟨rfl, rfl⟩ rfl rfl ⟨Nat.le_of_ble_eq_true rfl, Nat.le_of_ble_eq_true rfl⟩ ⟨Nat.le_of_ble_eq_true rfl, Nat.le_of_ble_eq_true rfl⟩ (Nat.le_of_ble_eq_true rfl) (fun X' hX => KX3_ifShown hX)) rfl rfl rfl rfl ⟨Nat.le_of_ble_eq_true rfl, Nat.le_of_ble_eq_true rfl⟩ rfl hF (fun x120 h119 hF => ?_)
                      refine jj_if_ne (tgt := 774) (pc' := 732) dL_two_729 rfl rfl (fun hc hF => ?_) (fun hc hF => ?_) hF
                      · skip
                        refine jj_iconst (v := (0 : Int32)) (pc' := 775) dL_two_774 rfl rfl ?_
                        exact jj_retI (ty := .boolean) rfl rfl dL_two_775 ⟨Nat.le_of_ble_eq_true rfl, Nat.le_of_ble_eq_true rfl⟩ hF
                      · skip
                        refine jj_wide (kc' := 14359) (ks' := 88689) (Nat.le_of_ble_eq_true rfl) (Nat.le_of_ble_eq_true rfl) ?_
                        exact jj_pick [0] rfl (BL_two_732 N N a0 h119 _ hF)
set_option maxRecDepth 100000 in
set_option maxHeartbeats 4000000 in
theorem BL_two_508 (N : Nat) : ∀ (n : Nat) (a0 : Nat) (h : jm_H) (X : jm_X), FL_two_508 N n a0 h = some X → jm_J M_L_two 508 [(0, .ref a0)] [] h 14305 88365 X := by
  intro n
  induction n with
  | zero =>
    intro a0 h X hF
    exact nomatch (show (none : Option jm_X) = some X from hF)
  | succ n ih =>
    intro a0 h X hF
    rw [FL_two_508] at hF
    refine jj_aload_n (j := 0) (i := 0) (pc' := 509) dL_two_508 rfl rfl rfl ?_
    refine jj_iconst (v := (0 : Int32)) (pc' := 510) dL_two_509 rfl rfl ?_
    refine jj_bipush (v := (81 : Int32)) (pc' := 512) dL_two_510 rfl rfl ?_
    refine jj_cI (N := M_X3_bestScreen) (kc' := 14307) (ks' := 88377) (pc' := 515) (jg_V (N := M_X3_bestScreen) (ci := 3) (rest := []) (as := [.int ((0 : Int32)), .int ((81 : Int32))]) cf_L_91 dL_two_512 ⟨rfl, rfl⟩ rfl rfl ⟨Nat.le_of_ble_eq_true rfl, Nat.le_of_ble_eq_true rfl⟩ ⟨Nat.le_of_ble_eq_true rfl, Nat.le_of_ble_eq_true rfl⟩ (Nat.le_of_ble_eq_true rfl) (fun X' hX => KX3_bestScreen hX)) rfl rfl rfl rfl ⟨Nat.le_of_ble_eq_true rfl, Nat.le_of_ble_eq_true rfl⟩ rfl hF (fun x102 h101 hF => ?_)
    refine jj_iconst (v := (2 : Int32)) (pc' := 516) dL_two_515 rfl rfl ?_
    refine jj_icmp_ne (tgt := 613) (pc' := 519) dL_two_516 rfl rfl (fun hc hF => ?_) (fun hc hF => ?_) hF
    · skip
      refine jj_iconst (v := (0 : Int32)) (pc' := 614) dL_two_613 rfl rfl ?_
      exact jj_retI (ty := .boolean) rfl rfl dL_two_614 ⟨Nat.le_of_ble_eq_true rfl, Nat.le_of_ble_eq_true rfl⟩ hF
    · skip
      refine jj_aload_n (j := 0) (i := 0) (pc' := 520) dL_two_519 rfl rfl rfl ?_
      refine jj_iconst (v := (1 : Int32)) (pc' := 521) dL_two_520 rfl rfl ?_
      refine jj_sipush (v := (300 : Int32)) (pc' := 524) dL_two_521 rfl rfl ?_
      refine jj_cI (N := M_X3_seats) (kc' := 14309) (ks' := 88389) (pc' := 527) (jg_V (N := M_X3_seats) (ci := 3) (rest := []) (as := [.int ((1 : Int32)), .int ((300 : Int32))]) cf_L_17 dL_two_524 ⟨rfl, rfl⟩ rfl rfl ⟨Nat.le_of_ble_eq_true rfl, Nat.le_of_ble_eq_true rfl⟩ ⟨Nat.le_of_ble_eq_true rfl, Nat.le_of_ble_eq_true rfl⟩ (Nat.le_of_ble_eq_true rfl) (fun X' hX => KX3_seats hX)) rfl rfl rfl rfl ⟨Nat.le_of_ble_eq_true rfl, Nat.le_of_ble_eq_true rfl⟩ rfl hF (fun x104 h103 hF => ?_)
      refine jj_sipush (v := (200 : Int32)) (pc' := 530) dL_two_527 rfl rfl ?_
      refine jj_icmp_ne (tgt := 613) (pc' := 533) dL_two_530 rfl rfl (fun hc hF => ?_) (fun hc hF => ?_) hF
      · skip
        refine jj_iconst (v := (0 : Int32)) (pc' := 614) dL_two_613 rfl rfl ?_
        exact jj_retI (ty := .boolean) rfl rfl dL_two_614 ⟨Nat.le_of_ble_eq_true rfl, Nat.le_of_ble_eq_true rfl⟩ hF
      · skip
        refine jj_aload_n (j := 0) (i := 0) (pc' := 534) dL_two_533 rfl rfl rfl ?_
        refine jj_iconst (v := (1 : Int32)) (pc' := 535) dL_two_534 rfl rfl ?_
        refine jj_bipush (v := (60 : Int32)) (pc' := 537) dL_two_535 rfl rfl ?_
        refine jj_cI (N := M_X3_bestScreen) (kc' := 14311) (ks' := 88401) (pc' := 540) (jg_V (N := M_X3_bestScreen) (ci := 3) (rest := []) (as := [.int ((1 : Int32)), .int ((60 : Int32))]) cf_L_91 dL_two_537 ⟨rfl, rfl⟩ rfl rfl ⟨Nat.le_of_ble_eq_true rfl, Nat.le_of_ble_eq_true rfl⟩ ⟨Nat.le_of_ble_eq_true rfl, Nat.le_of_ble_eq_true rfl⟩ (Nat.le_of_ble_eq_true rfl) (fun X' hX => KX3_bestScreen hX)) rfl rfl rfl rfl ⟨Nat.le_of_ble_eq_true rfl, Nat.le_of_ble_eq_true rfl⟩ rfl hF (fun x106 h105 hF => ?_)
        refine jj_iconst (v := (1 : Int32)) (pc' := 541) dL_two_540 rfl rfl ?_
        refine jj_icmp_ne (tgt := 613) (pc' := 544) dL_two_541 rfl rfl (fun hc hF => ?_) (fun hc hF => ?_) hF
        · skip
          refine jj_iconst (v := (0 : Int32)) (pc' := 614) dL_two_613 rfl rfl ?_
          exact jj_retI (ty := .boolean) rfl rfl dL_two_614 ⟨Nat.le_of_ble_eq_true rfl, Nat.le_of_ble_eq_true rfl⟩ hF
        · skip
          refine jj_aload_n (j := 0) (i := 0) (pc' := 545) dL_two_544 rfl rfl rfl ?_
          refine jj_iconst (v := (1 : Int32)) (pc' := 546) dL_two_545 rfl rfl ?_
          refine jj_iconst (v := (2 : Int32)) (pc' := 547) dL_two_546 rfl rfl ?_
          refine jj_sipush (v := (1961 : Int32)) (pc' := 550) dL_two_547 rfl rfl ?_
          refine jj_iconst (v := (0 : Int32)) (pc' := 551) dL_two_550 rfl rfl ?_
          refine jj_iconst (v := (0 : Int32)) (pc' := 552) dL_two_551 rfl rfl ?_
          refine jj_cI (N := M_X3_whyNot) (kc' := 14316) (ks' := 88431) (pc' := 555) (jg_V (N := M_X3_whyNot) (ci := 3) (rest := []) (as := [.int ((1 : Int32)), .int ((2 : Int32)), .int ((1961 : Int32)), .int ((0 : Int32)), .int ((0 : Int32))]) cf_L_84 dL_two_552 ⟨rfl, rfl⟩ rfl rfl ⟨Nat.le_of_ble_eq_true rfl, Nat.le_of_ble_eq_true rfl⟩ ⟨Nat.le_of_ble_eq_true rfl, Nat.le_of_ble_eq_true rfl⟩ (Nat.le_of_ble_eq_true rfl) (fun X' hX => KX3_whyNot hX)) rfl rfl rfl rfl ⟨Nat.le_of_ble_eq_true rfl, Nat.le_of_ble_eq_true rfl⟩ rfl hF (fun x108 h107 hF => ?_)
          refine jj_iconst (v := (2 : Int32)) (pc' := 556) dL_two_555 rfl rfl ?_
          refine jj_icmp_ne (tgt := 613) (pc' := 559) dL_two_556 rfl rfl (fun hc hF => ?_) (fun hc hF => ?_) hF
          · skip
            refine jj_iconst (v := (0 : Int32)) (pc' := 614) dL_two_613 rfl rfl ?_
            exact jj_retI (ty := .boolean) rfl rfl dL_two_614 ⟨Nat.le_of_ble_eq_true rfl, Nat.le_of_ble_eq_true rfl⟩ hF
          · skip
            refine jj_aload_n (j := 0) (i := 0) (pc' := 560) dL_two_559 rfl rfl rfl ?_
            refine jj_iconst (v := (1 : Int32)) (pc' := 561) dL_two_560 rfl rfl ?_
            refine jj_iconst (v := (2 : Int32)) (pc' := 562) dL_two_561 rfl rfl ?_
            refine jj_sipush (v := (1960 : Int32)) (pc' := 565) dL_two_562 rfl rfl ?_
            refine jj_iconst (v := (1 : Int32)) (pc' := 566) dL_two_565 rfl rfl ?_
            refine jj_iconst (v := (0 : Int32)) (pc' := 567) dL_two_566 rfl rfl ?_
            refine jj_cI (N := M_X3_whyNot) (kc' := 14321) (ks' := 88461) (pc' := 570) (jg_V (N := M_X3_whyNot) (ci := 3) (rest := []) (as := [.int ((1 : Int32)), .int ((2 : Int32)), .int ((1960 : Int32)), .int ((1 : Int32)), .int ((0 : Int32))]) cf_L_84 dL_two_567 ⟨rfl, rfl⟩ rfl rfl ⟨Nat.le_of_ble_eq_true rfl, Nat.le_of_ble_eq_true rfl⟩ ⟨Nat.le_of_ble_eq_true rfl, Nat.le_of_ble_eq_true rfl⟩ (Nat.le_of_ble_eq_true rfl) (fun X' hX => KX3_whyNot hX)) rfl rfl rfl rfl ⟨Nat.le_of_ble_eq_true rfl, Nat.le_of_ble_eq_true rfl⟩ rfl hF (fun x110 h109 hF => ?_)
            refine jj_iconst (v := (2 : Int32)) (pc' := 571) dL_two_570 rfl rfl ?_
            refine jj_icmp_ne (tgt := 613) (pc' := 574) dL_two_571 rfl rfl (fun hc hF => ?_) (fun hc hF => ?_) hF
            · skip
              refine jj_iconst (v := (0 : Int32)) (pc' := 614) dL_two_613 rfl rfl ?_
              exact jj_retI (ty := .boolean) rfl rfl dL_two_614 ⟨Nat.le_of_ble_eq_true rfl, Nat.le_of_ble_eq_true rfl⟩ hF
            · skip
              refine jj_aload_n (j := 0) (i := 0) (pc' := 575) dL_two_574 rfl rfl rfl ?_
              refine jj_iconst (v := (1 : Int32)) (pc' := 576) dL_two_575 rfl rfl ?_
              refine jj_iconst (v := (2 : Int32)) (pc' := 577) dL_two_576 rfl rfl ?_
              refine jj_sipush (v := (1961 : Int32)) (pc' := 580) dL_two_577 rfl rfl ?_
              refine jj_cI (N := M_X3_nextStart) (kc' := 14324) (ks' := 88479) (pc' := 583) (jg_V (N := M_X3_nextStart) (ci := 3) (rest := []) (as := [.int ((1 : Int32)), .int ((2 : Int32)), .int ((1961 : Int32))]) cf_L_88 dL_two_580 ⟨rfl, rfl⟩ rfl rfl ⟨Nat.le_of_ble_eq_true rfl, Nat.le_of_ble_eq_true rfl⟩ ⟨Nat.le_of_ble_eq_true rfl, Nat.le_of_ble_eq_true rfl⟩ (Nat.le_of_ble_eq_true rfl) (fun X' hX => KX3_nextStart hX)) rfl rfl rfl rfl ⟨Nat.le_of_ble_eq_true rfl, Nat.le_of_ble_eq_true rfl⟩ rfl hF (fun x112 h111 hF => ?_)
              refine jj_iconst (v := (-1 : Int32)) (pc' := 584) dL_two_583 rfl rfl ?_
              refine jj_icmp_ne (tgt := 613) (pc' := 587) dL_two_584 rfl rfl (fun hc hF => ?_) (fun hc hF => ?_) hF
              · skip
                refine jj_iconst (v := (0 : Int32)) (pc' := 614) dL_two_613 rfl rfl ?_
                exact jj_retI (ty := .boolean) rfl rfl dL_two_614 ⟨Nat.le_of_ble_eq_true rfl, Nat.le_of_ble_eq_true rfl⟩ hF
              · skip
                refine jj_aload_n (j := 0) (i := 0) (pc' := 588) dL_two_587 rfl rfl rfl ?_
                refine jj_iconst (v := (1 : Int32)) (pc' := 589) dL_two_588 rfl rfl ?_
                refine jj_sipush (v := (1961 : Int32)) (pc' := 592) dL_two_589 rfl rfl ?_
                refine jj_cI (N := M_X3_bestScreen) (kc' := 14326) (ks' := 88491) (pc' := 595) (jg_V (N := M_X3_bestScreen) (ci := 3) (rest := []) (as := [.int ((1 : Int32)), .int ((1961 : Int32))]) cf_L_91 dL_two_592 ⟨rfl, rfl⟩ rfl rfl ⟨Nat.le_of_ble_eq_true rfl, Nat.le_of_ble_eq_true rfl⟩ ⟨Nat.le_of_ble_eq_true rfl, Nat.le_of_ble_eq_true rfl⟩ (Nat.le_of_ble_eq_true rfl) (fun X' hX => KX3_bestScreen hX)) rfl rfl rfl rfl ⟨Nat.le_of_ble_eq_true rfl, Nat.le_of_ble_eq_true rfl⟩ rfl hF (fun x114 h113 hF => ?_)
                refine jj_iconst (v := (-1 : Int32)) (pc' := 596) dL_two_595 rfl rfl ?_
                refine jj_icmp_ne (tgt := 613) (pc' := 599) dL_two_596 rfl rfl (fun hc hF => ?_) (fun hc hF => ?_) hF
                · skip
                  refine jj_iconst (v := (0 : Int32)) (pc' := 614) dL_two_613 rfl rfl ?_
                  exact jj_retI (ty := .boolean) rfl rfl dL_two_614 ⟨Nat.le_of_ble_eq_true rfl, Nat.le_of_ble_eq_true rfl⟩ hF
                · skip
                  refine jj_aload_n (j := 0) (i := 0) (pc' := 600) dL_two_599 rfl rfl rfl ?_
                  refine jj_iconst (v := (1 : Int32)) (pc' := 601) dL_two_600 rfl rfl ?_
                  refine jj_iconst (v := (2 : Int32)) (pc' := 602) dL_two_601 rfl rfl ?_
                  refine jj_sipush (v := (1960 : Int32)) (pc' := 605) dL_two_602 rfl rfl ?_
                  refine jj_iconst (v := (0 : Int32)) (pc' := 606) dL_two_605 rfl rfl ?_
                  refine jj_iconst (v := (0 : Int32)) (pc' := 607) dL_two_606 rfl rfl ?_
                  refine jj_cI (N := M_X3_whyNot) (kc' := 14331) (ks' := 88521) (pc' := 610) (jg_V (N := M_X3_whyNot) (ci := 3) (rest := []) (as := [.int ((1 : Int32)), .int ((2 : Int32)), .int ((1960 : Int32)), .int ((0 : Int32)), .int ((0 : Int32))]) cf_L_84 dL_two_607 ⟨rfl, rfl⟩ rfl rfl ⟨Nat.le_of_ble_eq_true rfl, Nat.le_of_ble_eq_true rfl⟩ ⟨Nat.le_of_ble_eq_true rfl, Nat.le_of_ble_eq_true rfl⟩ (Nat.le_of_ble_eq_true rfl) (fun X' hX => KX3_whyNot hX)) rfl rfl rfl rfl ⟨Nat.le_of_ble_eq_true rfl, Nat.le_of_ble_eq_true rfl⟩ rfl hF (fun x116 h115 hF => ?_)
                  refine jj_if_eq (tgt := 615) (pc' := 613) dL_two_610 rfl rfl (fun hc hF => ?_) (fun hc hF => ?_) hF
                  · skip
                    refine jj_wide (kc' := 14331) (ks' := 88521) (Nat.le_of_ble_eq_true rfl) (Nat.le_of_ble_eq_true rfl) ?_
                    exact jj_pick [0] rfl (BL_two_615 N N a0 h115 _ hF)
                  · skip
                    refine jj_iconst (v := (0 : Int32)) (pc' := 614) dL_two_613 rfl rfl ?_
                    exact jj_retI (ty := .boolean) rfl rfl dL_two_614 ⟨Nat.le_of_ble_eq_true rfl, Nat.le_of_ble_eq_true rfl⟩ hF
set_option maxRecDepth 100000 in
set_option maxHeartbeats 4000000 in
theorem BL_two_382 (N : Nat) : ∀ (n : Nat) (a0 : Nat) (h : jm_H) (X : jm_X), FL_two_382 N n a0 h = some X → jm_J M_L_two 382 [(0, .ref a0)] [] h 14264 88119 X := by
  intro n
  induction n with
  | zero =>
    intro a0 h X hF
    exact nomatch (show (none : Option jm_X) = some X from hF)
  | succ n ih =>
    intro a0 h X hF
    rw [FL_two_382] at hF
    refine jj_aload_n (j := 0) (i := 0) (pc' := 383) dL_two_382 rfl rfl rfl ?_
    refine jj_iconst (v := (0 : Int32)) (pc' := 384) dL_two_383 rfl rfl ?_
    refine jj_iconst (v := (1 : Int32)) (pc' := 385) dL_two_384 rfl rfl ?_
    refine jj_bipush (v := (119 : Int32)) (pc' := 387) dL_two_385 rfl rfl ?_
    refine jj_iconst (v := (0 : Int32)) (pc' := 388) dL_two_387 rfl rfl ?_
    refine jj_iconst (v := (2 : Int32)) (pc' := 389) dL_two_388 rfl rfl ?_
    refine jj_cI (N := M_X3_whyNot) (kc' := 14269) (ks' := 88149) (pc' := 392) (jg_V (N := M_X3_whyNot) (ci := 3) (rest := []) (as := [.int ((0 : Int32)), .int ((1 : Int32)), .int ((119 : Int32)), .int ((0 : Int32)), .int ((2 : Int32))]) cf_L_84 dL_two_389 ⟨rfl, rfl⟩ rfl rfl ⟨Nat.le_of_ble_eq_true rfl, Nat.le_of_ble_eq_true rfl⟩ ⟨Nat.le_of_ble_eq_true rfl, Nat.le_of_ble_eq_true rfl⟩ (Nat.le_of_ble_eq_true rfl) (fun X' hX => KX3_whyNot hX)) rfl rfl rfl rfl ⟨Nat.le_of_ble_eq_true rfl, Nat.le_of_ble_eq_true rfl⟩ rfl hF (fun x102 h101 hF => ?_)
    refine jj_if_ne (tgt := 613) (pc' := 395) dL_two_392 rfl rfl (fun hc hF => ?_) (fun hc hF => ?_) hF
    · skip
      refine jj_iconst (v := (0 : Int32)) (pc' := 614) dL_two_613 rfl rfl ?_
      exact jj_retI (ty := .boolean) rfl rfl dL_two_614 ⟨Nat.le_of_ble_eq_true rfl, Nat.le_of_ble_eq_true rfl⟩ hF
    · skip
      refine jj_aload_n (j := 0) (i := 0) (pc' := 396) dL_two_395 rfl rfl rfl ?_
      refine jj_iconst (v := (0 : Int32)) (pc' := 397) dL_two_396 rfl rfl ?_
      refine jj_iconst (v := (1 : Int32)) (pc' := 398) dL_two_397 rfl rfl ?_
      refine jj_bipush (v := (125 : Int32)) (pc' := 400) dL_two_398 rfl rfl ?_
      refine jj_iconst (v := (0 : Int32)) (pc' := 401) dL_two_400 rfl rfl ?_
      refine jj_iconst (v := (0 : Int32)) (pc' := 402) dL_two_401 rfl rfl ?_
      refine jj_cI (N := M_X3_whyNot) (kc' := 14274) (ks' := 88179) (pc' := 405) (jg_V (N := M_X3_whyNot) (ci := 3) (rest := []) (as := [.int ((0 : Int32)), .int ((1 : Int32)), .int ((125 : Int32)), .int ((0 : Int32)), .int ((0 : Int32))]) cf_L_84 dL_two_402 ⟨rfl, rfl⟩ rfl rfl ⟨Nat.le_of_ble_eq_true rfl, Nat.le_of_ble_eq_true rfl⟩ ⟨Nat.le_of_ble_eq_true rfl, Nat.le_of_ble_eq_true rfl⟩ (Nat.le_of_ble_eq_true rfl) (fun X' hX => KX3_whyNot hX)) rfl rfl rfl rfl ⟨Nat.le_of_ble_eq_true rfl, Nat.le_of_ble_eq_true rfl⟩ rfl hF (fun x104 h103 hF => ?_)
      refine jj_if_ne (tgt := 613) (pc' := 408) dL_two_405 rfl rfl (fun hc hF => ?_) (fun hc hF => ?_) hF
      · skip
        refine jj_iconst (v := (0 : Int32)) (pc' := 614) dL_two_613 rfl rfl ?_
        exact jj_retI (ty := .boolean) rfl rfl dL_two_614 ⟨Nat.le_of_ble_eq_true rfl, Nat.le_of_ble_eq_true rfl⟩ hF
      · skip
        refine jj_aload_n (j := 0) (i := 0) (pc' := 409) dL_two_408 rfl rfl rfl ?_
        refine jj_iconst (v := (0 : Int32)) (pc' := 410) dL_two_409 rfl rfl ?_
        refine jj_iconst (v := (1 : Int32)) (pc' := 411) dL_two_410 rfl rfl ?_
        refine jj_bipush (v := (120 : Int32)) (pc' := 413) dL_two_411 rfl rfl ?_
        refine jj_iconst (v := (5 : Int32)) (pc' := 414) dL_two_413 rfl rfl ?_
        refine jj_iconst (v := (0 : Int32)) (pc' := 415) dL_two_414 rfl rfl ?_
        refine jj_cI (N := M_X3_whyNot) (kc' := 14279) (ks' := 88209) (pc' := 418) (jg_V (N := M_X3_whyNot) (ci := 3) (rest := []) (as := [.int ((0 : Int32)), .int ((1 : Int32)), .int ((120 : Int32)), .int ((5 : Int32)), .int ((0 : Int32))]) cf_L_84 dL_two_415 ⟨rfl, rfl⟩ rfl rfl ⟨Nat.le_of_ble_eq_true rfl, Nat.le_of_ble_eq_true rfl⟩ ⟨Nat.le_of_ble_eq_true rfl, Nat.le_of_ble_eq_true rfl⟩ (Nat.le_of_ble_eq_true rfl) (fun X' hX => KX3_whyNot hX)) rfl rfl rfl rfl ⟨Nat.le_of_ble_eq_true rfl, Nat.le_of_ble_eq_true rfl⟩ rfl hF (fun x106 h105 hF => ?_)
        refine jj_if_ne (tgt := 613) (pc' := 421) dL_two_418 rfl rfl (fun hc hF => ?_) (fun hc hF => ?_) hF
        · skip
          refine jj_iconst (v := (0 : Int32)) (pc' := 614) dL_two_613 rfl rfl ?_
          exact jj_retI (ty := .boolean) rfl rfl dL_two_614 ⟨Nat.le_of_ble_eq_true rfl, Nat.le_of_ble_eq_true rfl⟩ hF
        · skip
          refine jj_aload_n (j := 0) (i := 0) (pc' := 422) dL_two_421 rfl rfl rfl ?_
          refine jj_iconst (v := (0 : Int32)) (pc' := 423) dL_two_422 rfl rfl ?_
          refine jj_iconst (v := (1 : Int32)) (pc' := 424) dL_two_423 rfl rfl ?_
          refine jj_bipush (v := (80 : Int32)) (pc' := 426) dL_two_424 rfl rfl ?_
          refine jj_iconst (v := (0 : Int32)) (pc' := 427) dL_two_426 rfl rfl ?_
          refine jj_iconst (v := (0 : Int32)) (pc' := 428) dL_two_427 rfl rfl ?_
          refine jj_cI (N := M_X3_whyNot) (kc' := 14284) (ks' := 88239) (pc' := 431) (jg_V (N := M_X3_whyNot) (ci := 3) (rest := []) (as := [.int ((0 : Int32)), .int ((1 : Int32)), .int ((80 : Int32)), .int ((0 : Int32)), .int ((0 : Int32))]) cf_L_84 dL_two_428 ⟨rfl, rfl⟩ rfl rfl ⟨Nat.le_of_ble_eq_true rfl, Nat.le_of_ble_eq_true rfl⟩ ⟨Nat.le_of_ble_eq_true rfl, Nat.le_of_ble_eq_true rfl⟩ (Nat.le_of_ble_eq_true rfl) (fun X' hX => KX3_whyNot hX)) rfl rfl rfl rfl ⟨Nat.le_of_ble_eq_true rfl, Nat.le_of_ble_eq_true rfl⟩ rfl hF (fun x108 h107 hF => ?_)
          refine jj_if_ne (tgt := 613) (pc' := 434) dL_two_431 rfl rfl (fun hc hF => ?_) (fun hc hF => ?_) hF
          · skip
            refine jj_iconst (v := (0 : Int32)) (pc' := 614) dL_two_613 rfl rfl ?_
            exact jj_retI (ty := .boolean) rfl rfl dL_two_614 ⟨Nat.le_of_ble_eq_true rfl, Nat.le_of_ble_eq_true rfl⟩ hF
          · skip
            refine jj_aload_n (j := 0) (i := 0) (pc' := 435) dL_two_434 rfl rfl rfl ?_
            refine jj_iconst (v := (0 : Int32)) (pc' := 436) dL_two_435 rfl rfl ?_
            refine jj_iconst (v := (2 : Int32)) (pc' := 437) dL_two_436 rfl rfl ?_
            refine jj_bipush (v := (81 : Int32)) (pc' := 439) dL_two_437 rfl rfl ?_
            refine jj_iconst (v := (0 : Int32)) (pc' := 440) dL_two_439 rfl rfl ?_
            refine jj_iconst (v := (2 : Int32)) (pc' := 441) dL_two_440 rfl rfl ?_
            refine jj_cI (N := M_X3_whyNot) (kc' := 14289) (ks' := 88269) (pc' := 444) (jg_V (N := M_X3_whyNot) (ci := 3) (rest := []) (as := [.int ((0 : Int32)), .int ((2 : Int32)), .int ((81 : Int32)), .int ((0 : Int32)), .int ((2 : Int32))]) cf_L_84 dL_two_441 ⟨rfl, rfl⟩ rfl rfl ⟨Nat.le_of_ble_eq_true rfl, Nat.le_of_ble_eq_true rfl⟩ ⟨Nat.le_of_ble_eq_true rfl, Nat.le_of_ble_eq_true rfl⟩ (Nat.le_of_ble_eq_true rfl) (fun X' hX => KX3_whyNot hX)) rfl rfl rfl rfl ⟨Nat.le_of_ble_eq_true rfl, Nat.le_of_ble_eq_true rfl⟩ rfl hF (fun x110 h109 hF => ?_)
            refine jj_if_ne (tgt := 613) (pc' := 447) dL_two_444 rfl rfl (fun hc hF => ?_) (fun hc hF => ?_) hF
            · skip
              refine jj_iconst (v := (0 : Int32)) (pc' := 614) dL_two_613 rfl rfl ?_
              exact jj_retI (ty := .boolean) rfl rfl dL_two_614 ⟨Nat.le_of_ble_eq_true rfl, Nat.le_of_ble_eq_true rfl⟩ hF
            · skip
              refine jj_aload_n (j := 0) (i := 0) (pc' := 448) dL_two_447 rfl rfl rfl ?_
              refine jj_iconst (v := (1 : Int32)) (pc' := 449) dL_two_448 rfl rfl ?_
              refine jj_iconst (v := (1 : Int32)) (pc' := 450) dL_two_449 rfl rfl ?_
              refine jj_bipush (v := (100 : Int32)) (pc' := 452) dL_two_450 rfl rfl ?_
              refine jj_iconst (v := (0 : Int32)) (pc' := 453) dL_two_452 rfl rfl ?_
              refine jj_iconst (v := (0 : Int32)) (pc' := 454) dL_two_453 rfl rfl ?_
              refine jj_cI (N := M_X3_whyNot) (kc' := 14294) (ks' := 88299) (pc' := 457) (jg_V (N := M_X3_whyNot) (ci := 3) (rest := []) (as := [.int ((1 : Int32)), .int ((1 : Int32)), .int ((100 : Int32)), .int ((0 : Int32)), .int ((0 : Int32))]) cf_L_84 dL_two_454 ⟨rfl, rfl⟩ rfl rfl ⟨Nat.le_of_ble_eq_true rfl, Nat.le_of_ble_eq_true rfl⟩ ⟨Nat.le_of_ble_eq_true rfl, Nat.le_of_ble_eq_true rfl⟩ (Nat.le_of_ble_eq_true rfl) (fun X' hX => KX3_whyNot hX)) rfl rfl rfl rfl ⟨Nat.le_of_ble_eq_true rfl, Nat.le_of_ble_eq_true rfl⟩ rfl hF (fun x112 h111 hF => ?_)
              refine jj_if_ne (tgt := 613) (pc' := 460) dL_two_457 rfl rfl (fun hc hF => ?_) (fun hc hF => ?_) hF
              · skip
                refine jj_iconst (v := (0 : Int32)) (pc' := 614) dL_two_613 rfl rfl ?_
                exact jj_retI (ty := .boolean) rfl rfl dL_two_614 ⟨Nat.le_of_ble_eq_true rfl, Nat.le_of_ble_eq_true rfl⟩ hF
              · skip
                refine jj_aload_n (j := 0) (i := 0) (pc' := 461) dL_two_460 rfl rfl rfl ?_
                refine jj_iconst (v := (0 : Int32)) (pc' := 462) dL_two_461 rfl rfl ?_
                refine jj_iconst (v := (1 : Int32)) (pc' := 463) dL_two_462 rfl rfl ?_
                refine jj_bipush (v := (81 : Int32)) (pc' := 465) dL_two_463 rfl rfl ?_
                refine jj_cI (N := M_X3_nextStart) (kc' := 14297) (ks' := 88317) (pc' := 468) (jg_V (N := M_X3_nextStart) (ci := 3) (rest := []) (as := [.int ((0 : Int32)), .int ((1 : Int32)), .int ((81 : Int32))]) cf_L_88 dL_two_465 ⟨rfl, rfl⟩ rfl rfl ⟨Nat.le_of_ble_eq_true rfl, Nat.le_of_ble_eq_true rfl⟩ ⟨Nat.le_of_ble_eq_true rfl, Nat.le_of_ble_eq_true rfl⟩ (Nat.le_of_ble_eq_true rfl) (fun X' hX => KX3_nextStart hX)) rfl rfl rfl rfl ⟨Nat.le_of_ble_eq_true rfl, Nat.le_of_ble_eq_true rfl⟩ rfl hF (fun x114 h113 hF => ?_)
                refine jj_bipush (v := (125 : Int32)) (pc' := 470) dL_two_468 rfl rfl ?_
                refine jj_icmp_ne (tgt := 613) (pc' := 473) dL_two_470 rfl rfl (fun hc hF => ?_) (fun hc hF => ?_) hF
                · skip
                  refine jj_iconst (v := (0 : Int32)) (pc' := 614) dL_two_613 rfl rfl ?_
                  exact jj_retI (ty := .boolean) rfl rfl dL_two_614 ⟨Nat.le_of_ble_eq_true rfl, Nat.le_of_ble_eq_true rfl⟩ hF
                · skip
                  refine jj_aload_n (j := 0) (i := 0) (pc' := 474) dL_two_473 rfl rfl rfl ?_
                  refine jj_iconst (v := (0 : Int32)) (pc' := 475) dL_two_474 rfl rfl ?_
                  refine jj_iconst (v := (1 : Int32)) (pc' := 476) dL_two_475 rfl rfl ?_
                  refine jj_iconst (v := (0 : Int32)) (pc' := 477) dL_two_476 rfl rfl ?_
                  refine jj_cI (N := M_X3_nextStart) (kc' := 14300) (ks' := 88335) (pc' := 480) (jg_V (N := M_X3_nextStart) (ci := 3) (rest := []) (as := [.int ((0 : Int32)), .int ((1 : Int32)), .int ((0 : Int32))]) cf_L_88 dL_two_477 ⟨rfl, rfl⟩ rfl rfl ⟨Nat.le_of_ble_eq_true rfl, Nat.le_of_ble_eq_true rfl⟩ ⟨Nat.le_of_ble_eq_true rfl, Nat.le_of_ble_eq_true rfl⟩ (Nat.le_of_ble_eq_true rfl) (fun X' hX => KX3_nextStart hX)) rfl rfl rfl rfl ⟨Nat.le_of_ble_eq_true rfl, Nat.le_of_ble_eq_true rfl⟩ rfl hF (fun x116 h115 hF => ?_)
                  refine jj_if_ne (tgt := 613) (pc' := 483) dL_two_480 rfl rfl (fun hc hF => ?_) (fun hc hF => ?_) hF
                  · skip
                    refine jj_iconst (v := (0 : Int32)) (pc' := 614) dL_two_613 rfl rfl ?_
                    exact jj_retI (ty := .boolean) rfl rfl dL_two_614 ⟨Nat.le_of_ble_eq_true rfl, Nat.le_of_ble_eq_true rfl⟩ hF
                  · skip
                    refine jj_aload_n (j := 0) (i := 0) (pc' := 484) dL_two_483 rfl rfl rfl ?_
                    refine jj_iconst (v := (1 : Int32)) (pc' := 485) dL_two_484 rfl rfl ?_
                    refine jj_iconst (v := (0 : Int32)) (pc' := 486) dL_two_485 rfl rfl ?_
                    refine jj_bipush (v := (60 : Int32)) (pc' := 488) dL_two_486 rfl rfl ?_
                    refine jj_cI (N := M_X3_nextStart) (kc' := 14303) (ks' := 88353) (pc' := 491) (jg_V (N := M_X3_nextStart) (ci := 3) (rest := []) (as := [.int ((1 : Int32)), .int ((0 : Int32)), .int ((60 : Int32))]) cf_L_88 dL_two_488 ⟨rfl, rfl⟩ rfl rfl ⟨Nat.le_of_ble_eq_true rfl, Nat.le_of_ble_eq_true rfl⟩ ⟨Nat.le_of_ble_eq_true rfl, Nat.le_of_ble_eq_true rfl⟩ (Nat.le_of_ble_eq_true rfl) (fun X' hX => KX3_nextStart hX)) rfl rfl rfl rfl ⟨Nat.le_of_ble_eq_true rfl, Nat.le_of_ble_eq_true rfl⟩ rfl hF (fun x118 h117 hF => ?_)
                    refine jj_sipush (v := (150 : Int32)) (pc' := 494) dL_two_491 rfl rfl ?_
                    refine jj_icmp_ne (tgt := 613) (pc' := 497) dL_two_494 rfl rfl (fun hc hF => ?_) (fun hc hF => ?_) hF
                    · skip
                      refine jj_iconst (v := (0 : Int32)) (pc' := 614) dL_two_613 rfl rfl ?_
                      exact jj_retI (ty := .boolean) rfl rfl dL_two_614 ⟨Nat.le_of_ble_eq_true rfl, Nat.le_of_ble_eq_true rfl⟩ hF
                    · skip
                      refine jj_aload_n (j := 0) (i := 0) (pc' := 498) dL_two_497 rfl rfl rfl ?_
                      refine jj_iconst (v := (1 : Int32)) (pc' := 499) dL_two_498 rfl rfl ?_
                      refine jj_bipush (v := (60 : Int32)) (pc' := 501) dL_two_499 rfl rfl ?_
                      refine jj_cI (N := M_X3_bestScreen) (kc' := 14305) (ks' := 88365) (pc' := 504) (jg_V (N := M_X3_bestScreen) (ci := 3) (rest := []) (as := [.int ((1 : Int32)), .int ((60 : Int32))]) cf_L_91 dL_two_501 ⟨rfl, rfl⟩ rfl rfl ⟨Nat.le_of_ble_eq_true rfl, Nat.le_of_ble_eq_true rfl⟩ ⟨Nat.le_of_ble_eq_true rfl, Nat.le_of_ble_eq_true rfl⟩ (Nat.le_of_ble_eq_true rfl) (fun X' hX => KX3_bestScreen hX)) rfl rfl rfl rfl ⟨Nat.le_of_ble_eq_true rfl, Nat.le_of_ble_eq_true rfl⟩ rfl hF (fun x120 h119 hF => ?_)
                      refine jj_iconst (v := (2 : Int32)) (pc' := 505) dL_two_504 rfl rfl ?_
                      refine jj_icmp_ne (tgt := 613) (pc' := 508) dL_two_505 rfl rfl (fun hc hF => ?_) (fun hc hF => ?_) hF
                      · skip
                        refine jj_iconst (v := (0 : Int32)) (pc' := 614) dL_two_613 rfl rfl ?_
                        exact jj_retI (ty := .boolean) rfl rfl dL_two_614 ⟨Nat.le_of_ble_eq_true rfl, Nat.le_of_ble_eq_true rfl⟩ hF
                      · skip
                        refine jj_wide (kc' := 14305) (ks' := 88365) (Nat.le_of_ble_eq_true rfl) (Nat.le_of_ble_eq_true rfl) ?_
                        exact jj_pick [0] rfl (BL_two_508 N N a0 h119 _ hF)
set_option maxRecDepth 100000 in
set_option maxHeartbeats 4000000 in
theorem BL_two_242 (N : Nat) : ∀ (n : Nat) (a0 : Nat) (h : jm_H) (X : jm_X), FL_two_242 N n a0 h = some X → jm_J M_L_two 242 [(0, .ref a0)] [] h 14214 87819 X := by
  intro n
  induction n with
  | zero =>
    intro a0 h X hF
    exact nomatch (show (none : Option jm_X) = some X from hF)
  | succ n ih =>
    intro a0 h X hF
    rw [FL_two_242] at hF
    refine jj_aload_n (j := 0) (i := 0) (pc' := 243) dL_two_242 rfl rfl rfl ?_
    refine jj_iconst (v := (1 : Int32)) (pc' := 244) dL_two_243 rfl rfl ?_
    refine jj_iconst (v := (0 : Int32)) (pc' := 245) dL_two_244 rfl rfl ?_
    refine jj_sipush (v := (149 : Int32)) (pc' := 248) dL_two_245 rfl rfl ?_
    refine jj_iconst (v := (0 : Int32)) (pc' := 249) dL_two_248 rfl rfl ?_
    refine jj_iconst (v := (0 : Int32)) (pc' := 250) dL_two_249 rfl rfl ?_
    refine jj_cI (N := M_X3_whyNot) (kc' := 14219) (ks' := 87849) (pc' := 253) (jg_V (N := M_X3_whyNot) (ci := 3) (rest := []) (as := [.int ((1 : Int32)), .int ((0 : Int32)), .int ((149 : Int32)), .int ((0 : Int32)), .int ((0 : Int32))]) cf_L_84 dL_two_250 ⟨rfl, rfl⟩ rfl rfl ⟨Nat.le_of_ble_eq_true rfl, Nat.le_of_ble_eq_true rfl⟩ ⟨Nat.le_of_ble_eq_true rfl, Nat.le_of_ble_eq_true rfl⟩ (Nat.le_of_ble_eq_true rfl) (fun X' hX => KX3_whyNot hX)) rfl rfl rfl rfl ⟨Nat.le_of_ble_eq_true rfl, Nat.le_of_ble_eq_true rfl⟩ rfl hF (fun x102 h101 hF => ?_)
    refine jj_iconst (v := (3 : Int32)) (pc' := 254) dL_two_253 rfl rfl ?_
    refine jj_icmp_ne (tgt := 613) (pc' := 257) dL_two_254 rfl rfl (fun hc hF => ?_) (fun hc hF => ?_) hF
    · skip
      refine jj_iconst (v := (0 : Int32)) (pc' := 614) dL_two_613 rfl rfl ?_
      exact jj_retI (ty := .boolean) rfl rfl dL_two_614 ⟨Nat.le_of_ble_eq_true rfl, Nat.le_of_ble_eq_true rfl⟩ hF
    · skip
      refine jj_aload_n (j := 0) (i := 0) (pc' := 258) dL_two_257 rfl rfl rfl ?_
      refine jj_iconst (v := (1 : Int32)) (pc' := 259) dL_two_258 rfl rfl ?_
      refine jj_iconst (v := (0 : Int32)) (pc' := 260) dL_two_259 rfl rfl ?_
      refine jj_sipush (v := (149 : Int32)) (pc' := 263) dL_two_260 rfl rfl ?_
      refine jj_iconst (v := (0 : Int32)) (pc' := 264) dL_two_263 rfl rfl ?_
      refine jj_iconst (v := (1 : Int32)) (pc' := 265) dL_two_264 rfl rfl ?_
      refine jj_cI (N := M_X3_whyNot) (kc' := 14224) (ks' := 87879) (pc' := 268) (jg_V (N := M_X3_whyNot) (ci := 3) (rest := []) (as := [.int ((1 : Int32)), .int ((0 : Int32)), .int ((149 : Int32)), .int ((0 : Int32)), .int ((1 : Int32))]) cf_L_84 dL_two_265 ⟨rfl, rfl⟩ rfl rfl ⟨Nat.le_of_ble_eq_true rfl, Nat.le_of_ble_eq_true rfl⟩ ⟨Nat.le_of_ble_eq_true rfl, Nat.le_of_ble_eq_true rfl⟩ (Nat.le_of_ble_eq_true rfl) (fun X' hX => KX3_whyNot hX)) rfl rfl rfl rfl ⟨Nat.le_of_ble_eq_true rfl, Nat.le_of_ble_eq_true rfl⟩ rfl hF (fun x104 h103 hF => ?_)
      refine jj_if_ne (tgt := 613) (pc' := 271) dL_two_268 rfl rfl (fun hc hF => ?_) (fun hc hF => ?_) hF
      · skip
        refine jj_iconst (v := (0 : Int32)) (pc' := 614) dL_two_613 rfl rfl ?_
        exact jj_retI (ty := .boolean) rfl rfl dL_two_614 ⟨Nat.le_of_ble_eq_true rfl, Nat.le_of_ble_eq_true rfl⟩ hF
      · skip
        refine jj_aload_n (j := 0) (i := 0) (pc' := 272) dL_two_271 rfl rfl rfl ?_
        refine jj_iconst (v := (1 : Int32)) (pc' := 273) dL_two_272 rfl rfl ?_
        refine jj_iconst (v := (0 : Int32)) (pc' := 274) dL_two_273 rfl rfl ?_
        refine jj_sipush (v := (149 : Int32)) (pc' := 277) dL_two_274 rfl rfl ?_
        refine jj_iconst (v := (0 : Int32)) (pc' := 278) dL_two_277 rfl rfl ?_
        refine jj_iconst (v := (2 : Int32)) (pc' := 279) dL_two_278 rfl rfl ?_
        refine jj_cI (N := M_X3_whyNot) (kc' := 14229) (ks' := 87909) (pc' := 282) (jg_V (N := M_X3_whyNot) (ci := 3) (rest := []) (as := [.int ((1 : Int32)), .int ((0 : Int32)), .int ((149 : Int32)), .int ((0 : Int32)), .int ((2 : Int32))]) cf_L_84 dL_two_279 ⟨rfl, rfl⟩ rfl rfl ⟨Nat.le_of_ble_eq_true rfl, Nat.le_of_ble_eq_true rfl⟩ ⟨Nat.le_of_ble_eq_true rfl, Nat.le_of_ble_eq_true rfl⟩ (Nat.le_of_ble_eq_true rfl) (fun X' hX => KX3_whyNot hX)) rfl rfl rfl rfl ⟨Nat.le_of_ble_eq_true rfl, Nat.le_of_ble_eq_true rfl⟩ rfl hF (fun x106 h105 hF => ?_)
        refine jj_iconst (v := (-1 : Int32)) (pc' := 283) dL_two_282 rfl rfl ?_
        refine jj_icmp_ne (tgt := 613) (pc' := 286) dL_two_283 rfl rfl (fun hc hF => ?_) (fun hc hF => ?_) hF
        · skip
          refine jj_iconst (v := (0 : Int32)) (pc' := 614) dL_two_613 rfl rfl ?_
          exact jj_retI (ty := .boolean) rfl rfl dL_two_614 ⟨Nat.le_of_ble_eq_true rfl, Nat.le_of_ble_eq_true rfl⟩ hF
        · skip
          refine jj_aload_n (j := 0) (i := 0) (pc' := 287) dL_two_286 rfl rfl rfl ?_
          refine jj_iconst (v := (1 : Int32)) (pc' := 288) dL_two_287 rfl rfl ?_
          refine jj_iconst (v := (0 : Int32)) (pc' := 289) dL_two_288 rfl rfl ?_
          refine jj_sipush (v := (150 : Int32)) (pc' := 292) dL_two_289 rfl rfl ?_
          refine jj_iconst (v := (0 : Int32)) (pc' := 293) dL_two_292 rfl rfl ?_
          refine jj_iconst (v := (0 : Int32)) (pc' := 294) dL_two_293 rfl rfl ?_
          refine jj_cI (N := M_X3_whyNot) (kc' := 14234) (ks' := 87939) (pc' := 297) (jg_V (N := M_X3_whyNot) (ci := 3) (rest := []) (as := [.int ((1 : Int32)), .int ((0 : Int32)), .int ((150 : Int32)), .int ((0 : Int32)), .int ((0 : Int32))]) cf_L_84 dL_two_294 ⟨rfl, rfl⟩ rfl rfl ⟨Nat.le_of_ble_eq_true rfl, Nat.le_of_ble_eq_true rfl⟩ ⟨Nat.le_of_ble_eq_true rfl, Nat.le_of_ble_eq_true rfl⟩ (Nat.le_of_ble_eq_true rfl) (fun X' hX => KX3_whyNot hX)) rfl rfl rfl rfl ⟨Nat.le_of_ble_eq_true rfl, Nat.le_of_ble_eq_true rfl⟩ rfl hF (fun x108 h107 hF => ?_)
          refine jj_if_ne (tgt := 613) (pc' := 300) dL_two_297 rfl rfl (fun hc hF => ?_) (fun hc hF => ?_) hF
          · skip
            refine jj_iconst (v := (0 : Int32)) (pc' := 614) dL_two_613 rfl rfl ?_
            exact jj_retI (ty := .boolean) rfl rfl dL_two_614 ⟨Nat.le_of_ble_eq_true rfl, Nat.le_of_ble_eq_true rfl⟩ hF
          · skip
            refine jj_aload_n (j := 0) (i := 0) (pc' := 301) dL_two_300 rfl rfl rfl ?_
            refine jj_iconst (v := (1 : Int32)) (pc' := 302) dL_two_301 rfl rfl ?_
            refine jj_iconst (v := (0 : Int32)) (pc' := 303) dL_two_302 rfl rfl ?_
            refine jj_bipush (v := (46 : Int32)) (pc' := 305) dL_two_303 rfl rfl ?_
            refine jj_iconst (v := (0 : Int32)) (pc' := 306) dL_two_305 rfl rfl ?_
            refine jj_iconst (v := (0 : Int32)) (pc' := 307) dL_two_306 rfl rfl ?_
            refine jj_cI (N := M_X3_whyNot) (kc' := 14239) (ks' := 87969) (pc' := 310) (jg_V (N := M_X3_whyNot) (ci := 3) (rest := []) (as := [.int ((1 : Int32)), .int ((0 : Int32)), .int ((46 : Int32)), .int ((0 : Int32)), .int ((0 : Int32))]) cf_L_84 dL_two_307 ⟨rfl, rfl⟩ rfl rfl ⟨Nat.le_of_ble_eq_true rfl, Nat.le_of_ble_eq_true rfl⟩ ⟨Nat.le_of_ble_eq_true rfl, Nat.le_of_ble_eq_true rfl⟩ (Nat.le_of_ble_eq_true rfl) (fun X' hX => KX3_whyNot hX)) rfl rfl rfl rfl ⟨Nat.le_of_ble_eq_true rfl, Nat.le_of_ble_eq_true rfl⟩ rfl hF (fun x110 h109 hF => ?_)
            refine jj_iconst (v := (3 : Int32)) (pc' := 311) dL_two_310 rfl rfl ?_
            refine jj_icmp_ne (tgt := 613) (pc' := 314) dL_two_311 rfl rfl (fun hc hF => ?_) (fun hc hF => ?_) hF
            · skip
              refine jj_iconst (v := (0 : Int32)) (pc' := 614) dL_two_613 rfl rfl ?_
              exact jj_retI (ty := .boolean) rfl rfl dL_two_614 ⟨Nat.le_of_ble_eq_true rfl, Nat.le_of_ble_eq_true rfl⟩ hF
            · skip
              refine jj_aload_n (j := 0) (i := 0) (pc' := 315) dL_two_314 rfl rfl rfl ?_
              refine jj_iconst (v := (1 : Int32)) (pc' := 316) dL_two_315 rfl rfl ?_
              refine jj_iconst (v := (0 : Int32)) (pc' := 317) dL_two_316 rfl rfl ?_
              refine jj_bipush (v := (45 : Int32)) (pc' := 319) dL_two_317 rfl rfl ?_
              refine jj_iconst (v := (0 : Int32)) (pc' := 320) dL_two_319 rfl rfl ?_
              refine jj_iconst (v := (0 : Int32)) (pc' := 321) dL_two_320 rfl rfl ?_
              refine jj_cI (N := M_X3_whyNot) (kc' := 14244) (ks' := 87999) (pc' := 324) (jg_V (N := M_X3_whyNot) (ci := 3) (rest := []) (as := [.int ((1 : Int32)), .int ((0 : Int32)), .int ((45 : Int32)), .int ((0 : Int32)), .int ((0 : Int32))]) cf_L_84 dL_two_321 ⟨rfl, rfl⟩ rfl rfl ⟨Nat.le_of_ble_eq_true rfl, Nat.le_of_ble_eq_true rfl⟩ ⟨Nat.le_of_ble_eq_true rfl, Nat.le_of_ble_eq_true rfl⟩ (Nat.le_of_ble_eq_true rfl) (fun X' hX => KX3_whyNot hX)) rfl rfl rfl rfl ⟨Nat.le_of_ble_eq_true rfl, Nat.le_of_ble_eq_true rfl⟩ rfl hF (fun x112 h111 hF => ?_)
              refine jj_if_ne (tgt := 613) (pc' := 327) dL_two_324 rfl rfl (fun hc hF => ?_) (fun hc hF => ?_) hF
              · skip
                refine jj_iconst (v := (0 : Int32)) (pc' := 614) dL_two_613 rfl rfl ?_
                exact jj_retI (ty := .boolean) rfl rfl dL_two_614 ⟨Nat.le_of_ble_eq_true rfl, Nat.le_of_ble_eq_true rfl⟩ hF
              · skip
                refine jj_aload_n (j := 0) (i := 0) (pc' := 328) dL_two_327 rfl rfl rfl ?_
                refine jj_iconst (v := (1 : Int32)) (pc' := 329) dL_two_328 rfl rfl ?_
                refine jj_iconst (v := (0 : Int32)) (pc' := 330) dL_two_329 rfl rfl ?_
                refine jj_bipush (v := (44 : Int32)) (pc' := 332) dL_two_330 rfl rfl ?_
                refine jj_iconst (v := (2 : Int32)) (pc' := 333) dL_two_332 rfl rfl ?_
                refine jj_iconst (v := (0 : Int32)) (pc' := 334) dL_two_333 rfl rfl ?_
                refine jj_cI (N := M_X3_whyNot) (kc' := 14249) (ks' := 88029) (pc' := 337) (jg_V (N := M_X3_whyNot) (ci := 3) (rest := []) (as := [.int ((1 : Int32)), .int ((0 : Int32)), .int ((44 : Int32)), .int ((2 : Int32)), .int ((0 : Int32))]) cf_L_84 dL_two_334 ⟨rfl, rfl⟩ rfl rfl ⟨Nat.le_of_ble_eq_true rfl, Nat.le_of_ble_eq_true rfl⟩ ⟨Nat.le_of_ble_eq_true rfl, Nat.le_of_ble_eq_true rfl⟩ (Nat.le_of_ble_eq_true rfl) (fun X' hX => KX3_whyNot hX)) rfl rfl rfl rfl ⟨Nat.le_of_ble_eq_true rfl, Nat.le_of_ble_eq_true rfl⟩ rfl hF (fun x114 h113 hF => ?_)
                refine jj_iconst (v := (3 : Int32)) (pc' := 338) dL_two_337 rfl rfl ?_
                refine jj_icmp_ne (tgt := 613) (pc' := 341) dL_two_338 rfl rfl (fun hc hF => ?_) (fun hc hF => ?_) hF
                · skip
                  refine jj_iconst (v := (0 : Int32)) (pc' := 614) dL_two_613 rfl rfl ?_
                  exact jj_retI (ty := .boolean) rfl rfl dL_two_614 ⟨Nat.le_of_ble_eq_true rfl, Nat.le_of_ble_eq_true rfl⟩ hF
                · skip
                  refine jj_aload_n (j := 0) (i := 0) (pc' := 342) dL_two_341 rfl rfl rfl ?_
                  refine jj_iconst (v := (0 : Int32)) (pc' := 343) dL_two_342 rfl rfl ?_
                  refine jj_iconst (v := (1 : Int32)) (pc' := 344) dL_two_343 rfl rfl ?_
                  refine jj_bipush (v := (120 : Int32)) (pc' := 346) dL_two_344 rfl rfl ?_
                  refine jj_iconst (v := (0 : Int32)) (pc' := 347) dL_two_346 rfl rfl ?_
                  refine jj_iconst (v := (0 : Int32)) (pc' := 348) dL_two_347 rfl rfl ?_
                  refine jj_cI (N := M_X3_whyNot) (kc' := 14254) (ks' := 88059) (pc' := 351) (jg_V (N := M_X3_whyNot) (ci := 3) (rest := []) (as := [.int ((0 : Int32)), .int ((1 : Int32)), .int ((120 : Int32)), .int ((0 : Int32)), .int ((0 : Int32))]) cf_L_84 dL_two_348 ⟨rfl, rfl⟩ rfl rfl ⟨Nat.le_of_ble_eq_true rfl, Nat.le_of_ble_eq_true rfl⟩ ⟨Nat.le_of_ble_eq_true rfl, Nat.le_of_ble_eq_true rfl⟩ (Nat.le_of_ble_eq_true rfl) (fun X' hX => KX3_whyNot hX)) rfl rfl rfl rfl ⟨Nat.le_of_ble_eq_true rfl, Nat.le_of_ble_eq_true rfl⟩ rfl hF (fun x116 h115 hF => ?_)
                  refine jj_iconst (v := (4 : Int32)) (pc' := 352) dL_two_351 rfl rfl ?_
                  refine jj_icmp_ne (tgt := 613) (pc' := 355) dL_two_352 rfl rfl (fun hc hF => ?_) (fun hc hF => ?_) hF
                  · skip
                    refine jj_iconst (v := (0 : Int32)) (pc' := 614) dL_two_613 rfl rfl ?_
                    exact jj_retI (ty := .boolean) rfl rfl dL_two_614 ⟨Nat.le_of_ble_eq_true rfl, Nat.le_of_ble_eq_true rfl⟩ hF
                  · skip
                    refine jj_aload_n (j := 0) (i := 0) (pc' := 356) dL_two_355 rfl rfl rfl ?_
                    refine jj_iconst (v := (0 : Int32)) (pc' := 357) dL_two_356 rfl rfl ?_
                    refine jj_iconst (v := (1 : Int32)) (pc' := 358) dL_two_357 rfl rfl ?_
                    refine jj_bipush (v := (120 : Int32)) (pc' := 360) dL_two_358 rfl rfl ?_
                    refine jj_iconst (v := (0 : Int32)) (pc' := 361) dL_two_360 rfl rfl ?_
                    refine jj_iconst (v := (1 : Int32)) (pc' := 362) dL_two_361 rfl rfl ?_
                    refine jj_cI (N := M_X3_whyNot) (kc' := 14259) (ks' := 88089) (pc' := 365) (jg_V (N := M_X3_whyNot) (ci := 3) (rest := []) (as := [.int ((0 : Int32)), .int ((1 : Int32)), .int ((120 : Int32)), .int ((0 : Int32)), .int ((1 : Int32))]) cf_L_84 dL_two_362 ⟨rfl, rfl⟩ rfl rfl ⟨Nat.le_of_ble_eq_true rfl, Nat.le_of_ble_eq_true rfl⟩ ⟨Nat.le_of_ble_eq_true rfl, Nat.le_of_ble_eq_true rfl⟩ (Nat.le_of_ble_eq_true rfl) (fun X' hX => KX3_whyNot hX)) rfl rfl rfl rfl ⟨Nat.le_of_ble_eq_true rfl, Nat.le_of_ble_eq_true rfl⟩ rfl hF (fun x118 h117 hF => ?_)
                    refine jj_if_ne (tgt := 613) (pc' := 368) dL_two_365 rfl rfl (fun hc hF => ?_) (fun hc hF => ?_) hF
                    · skip
                      refine jj_iconst (v := (0 : Int32)) (pc' := 614) dL_two_613 rfl rfl ?_
                      exact jj_retI (ty := .boolean) rfl rfl dL_two_614 ⟨Nat.le_of_ble_eq_true rfl, Nat.le_of_ble_eq_true rfl⟩ hF
                    · skip
                      refine jj_aload_n (j := 0) (i := 0) (pc' := 369) dL_two_368 rfl rfl rfl ?_
                      refine jj_iconst (v := (0 : Int32)) (pc' := 370) dL_two_369 rfl rfl ?_
                      refine jj_iconst (v := (1 : Int32)) (pc' := 371) dL_two_370 rfl rfl ?_
                      refine jj_bipush (v := (120 : Int32)) (pc' := 373) dL_two_371 rfl rfl ?_
                      refine jj_iconst (v := (0 : Int32)) (pc' := 374) dL_two_373 rfl rfl ?_
                      refine jj_iconst (v := (2 : Int32)) (pc' := 375) dL_two_374 rfl rfl ?_
                      refine jj_cI (N := M_X3_whyNot) (kc' := 14264) (ks' := 88119) (pc' := 378) (jg_V (N := M_X3_whyNot) (ci := 3) (rest := []) (as := [.int ((0 : Int32)), .int ((1 : Int32)), .int ((120 : Int32)), .int ((0 : Int32)), .int ((2 : Int32))]) cf_L_84 dL_two_375 ⟨rfl, rfl⟩ rfl rfl ⟨Nat.le_of_ble_eq_true rfl, Nat.le_of_ble_eq_true rfl⟩ ⟨Nat.le_of_ble_eq_true rfl, Nat.le_of_ble_eq_true rfl⟩ (Nat.le_of_ble_eq_true rfl) (fun X' hX => KX3_whyNot hX)) rfl rfl rfl rfl ⟨Nat.le_of_ble_eq_true rfl, Nat.le_of_ble_eq_true rfl⟩ rfl hF (fun x120 h119 hF => ?_)
                      refine jj_iconst (v := (2 : Int32)) (pc' := 379) dL_two_378 rfl rfl ?_
                      refine jj_icmp_ne (tgt := 613) (pc' := 382) dL_two_379 rfl rfl (fun hc hF => ?_) (fun hc hF => ?_) hF
                      · skip
                        refine jj_iconst (v := (0 : Int32)) (pc' := 614) dL_two_613 rfl rfl ?_
                        exact jj_retI (ty := .boolean) rfl rfl dL_two_614 ⟨Nat.le_of_ble_eq_true rfl, Nat.le_of_ble_eq_true rfl⟩ hF
                      · skip
                        refine jj_wide (kc' := 14264) (ks' := 88119) (Nat.le_of_ble_eq_true rfl) (Nat.le_of_ble_eq_true rfl) ?_
                        exact jj_pick [0] rfl (BL_two_382 N N a0 h119 _ hF)
set_option maxRecDepth 100000 in
set_option maxHeartbeats 4000000 in
theorem BL_two_217 (N : Nat) : ∀ (n : Nat) (a0 : Nat) (h : jm_H) (X : jm_X), FL_two_217 N n a0 h = some X → jm_J M_L_two 217 [(0, .ref a0)] [] h 14210 87795 X := by
  intro n
  induction n with
  | zero =>
    intro a0 h X hF
    exact nomatch (show (none : Option jm_X) = some X from hF)
  | succ n ih =>
    intro a0 h X hF
    rw [FL_two_217] at hF
    refine jj_aload_n (j := 0) (i := 0) (pc' := 218) dL_two_217 rfl rfl rfl ?_
    refine jj_iconst (v := (0 : Int32)) (pc' := 219) dL_two_218 rfl rfl ?_
    refine jj_sipush (v := (135 : Int32)) (pc' := 222) dL_two_219 rfl rfl ?_
    refine jj_cI (N := M_X3_runs) (kc' := 14212) (ks' := 87807) (pc' := 225) (jg_V (N := M_X3_runs) (ci := 3) (rest := []) (as := [.int ((0 : Int32)), .int ((135 : Int32))]) cf_L_69 dL_two_222 ⟨rfl, rfl⟩ rfl rfl ⟨Nat.le_of_ble_eq_true rfl, Nat.le_of_ble_eq_true rfl⟩ ⟨Nat.le_of_ble_eq_true rfl, Nat.le_of_ble_eq_true rfl⟩ (Nat.le_of_ble_eq_true rfl) (fun X' hX => KX3_runs hX)) rfl rfl rfl rfl ⟨Nat.le_of_ble_eq_true rfl, Nat.le_of_ble_eq_true rfl⟩ rfl hF (fun x102 h101 hF => ?_)
    refine jj_iconst (v := (-1 : Int32)) (pc' := 226) dL_two_225 rfl rfl ?_
    refine jj_icmp_ne (tgt := 240) (pc' := 229) dL_two_226 rfl rfl (fun hc hF => ?_) (fun hc hF => ?_) hF
    · skip
      refine jj_iconst (v := (0 : Int32)) (pc' := 241) dL_two_240 rfl rfl ?_
      exact jj_retI (ty := .boolean) rfl rfl dL_two_241 ⟨Nat.le_of_ble_eq_true rfl, Nat.le_of_ble_eq_true rfl⟩ hF
    · skip
      refine jj_aload_n (j := 0) (i := 0) (pc' := 230) dL_two_229 rfl rfl rfl ?_
      refine jj_iconst (v := (1 : Int32)) (pc' := 231) dL_two_230 rfl rfl ?_
      refine jj_bipush (v := (110 : Int32)) (pc' := 233) dL_two_231 rfl rfl ?_
      refine jj_cI (N := M_X3_runs) (kc' := 14214) (ks' := 87819) (pc' := 236) (jg_V (N := M_X3_runs) (ci := 3) (rest := []) (as := [.int ((1 : Int32)), .int ((110 : Int32))]) cf_L_69 dL_two_233 ⟨rfl, rfl⟩ rfl rfl ⟨Nat.le_of_ble_eq_true rfl, Nat.le_of_ble_eq_true rfl⟩ ⟨Nat.le_of_ble_eq_true rfl, Nat.le_of_ble_eq_true rfl⟩ (Nat.le_of_ble_eq_true rfl) (fun X' hX => KX3_runs hX)) rfl rfl rfl rfl ⟨Nat.le_of_ble_eq_true rfl, Nat.le_of_ble_eq_true rfl⟩ rfl hF (fun x104 h103 hF => ?_)
      refine jj_iconst (v := (-1 : Int32)) (pc' := 237) dL_two_236 rfl rfl ?_
      refine jj_icmp_eq (tgt := 242) (pc' := 240) dL_two_237 rfl rfl (fun hc hF => ?_) (fun hc hF => ?_) hF
      · skip
        refine jj_wide (kc' := 14214) (ks' := 87819) (Nat.le_of_ble_eq_true rfl) (Nat.le_of_ble_eq_true rfl) ?_
        exact jj_pick [0] rfl (BL_two_242 N N a0 h103 _ hF)
      · skip
        refine jj_iconst (v := (0 : Int32)) (pc' := 241) dL_two_240 rfl rfl ?_
        exact jj_retI (ty := .boolean) rfl rfl dL_two_241 ⟨Nat.le_of_ble_eq_true rfl, Nat.le_of_ble_eq_true rfl⟩ hF
set_option maxRecDepth 100000 in
set_option maxHeartbeats 4000000 in
theorem BL_two_105 (N : Nat) : ∀ (n : Nat) (a0 : Nat) (h : jm_H) (X : jm_X), FL_two_105 N n a0 h = some X → jm_J M_L_two 105 [(0, .ref a0)] [] h 14187 87657 X := by
  intro n
  induction n with
  | zero =>
    intro a0 h X hF
    exact nomatch (show (none : Option jm_X) = some X from hF)
  | succ n ih =>
    intro a0 h X hF
    rw [FL_two_105] at hF
    refine jj_aload_n (j := 0) (i := 0) (pc' := 106) dL_two_105 rfl rfl rfl ?_
    refine jj_iconst (v := (0 : Int32)) (pc' := 107) dL_two_106 rfl rfl ?_
    refine jj_iconst (v := (0 : Int32)) (pc' := 108) dL_two_107 rfl rfl ?_
    refine jj_bipush (v := (100 : Int32)) (pc' := 110) dL_two_108 rfl rfl ?_
    refine jj_iconst (v := (5 : Int32)) (pc' := 111) dL_two_110 rfl rfl ?_
    refine jj_cI (N := M_X3_show) (kc' := 14192) (ks' := 87687) (pc' := 114) (jg_V (N := M_X3_show) (ci := 3) (rest := []) (as := [.int ((0 : Int32)), .int ((0 : Int32)), .int ((100 : Int32)), .int ((5 : Int32))]) cf_L_23 dL_two_111 ⟨rfl, rfl⟩ rfl rfl ⟨Nat.le_of_ble_eq_true rfl, Nat.le_of_ble_eq_true rfl⟩ ⟨Nat.le_of_ble_eq_true rfl, Nat.le_of_ble_eq_true rfl⟩ (Nat.le_of_ble_eq_true rfl) (fun X' hX => KX3_show hX)) rfl rfl rfl rfl ⟨Nat.le_of_ble_eq_true rfl, Nat.le_of_ble_eq_true rfl⟩ rfl hF (fun x102 h101 hF => ?_)
    refine jj_if_ne (tgt := 240) (pc' := 117) dL_two_114 rfl rfl (fun hc hF => ?_) (fun hc hF => ?_) hF
    · skip
      refine jj_iconst (v := (0 : Int32)) (pc' := 241) dL_two_240 rfl rfl ?_
      exact jj_retI (ty := .boolean) rfl rfl dL_two_241 ⟨Nat.le_of_ble_eq_true rfl, Nat.le_of_ble_eq_true rfl⟩ hF
    · skip
      refine jj_aload_n (j := 0) (i := 0) (pc' := 118) dL_two_117 rfl rfl rfl ?_
      refine jj_iconst (v := (0 : Int32)) (pc' := 119) dL_two_118 rfl rfl ?_
      refine jj_iconst (v := (3 : Int32)) (pc' := 120) dL_two_119 rfl rfl ?_
      refine jj_cI (N := M_X3_showing) (kc' := 14194) (ks' := 87699) (pc' := 123) (jg_V (N := M_X3_showing) (ci := 3) (rest := []) (as := [.int ((0 : Int32)), .int ((3 : Int32))]) cf_L_63 dL_two_120 ⟨rfl, rfl⟩ rfl rfl ⟨Nat.le_of_ble_eq_true rfl, Nat.le_of_ble_eq_true rfl⟩ ⟨Nat.le_of_ble_eq_true rfl, Nat.le_of_ble_eq_true rfl⟩ (Nat.le_of_ble_eq_true rfl) (fun X' hX => KX3_showing hX)) rfl rfl rfl rfl ⟨Nat.le_of_ble_eq_true rfl, Nat.le_of_ble_eq_true rfl⟩ rfl hF (fun x104 h103 hF => ?_)
      refine jj_sipush (v := (135 : Int32)) (pc' := 126) dL_two_123 rfl rfl ?_
      refine jj_icmp_ne (tgt := 240) (pc' := 129) dL_two_126 rfl rfl (fun hc hF => ?_) (fun hc hF => ?_) hF
      · skip
        refine jj_iconst (v := (0 : Int32)) (pc' := 241) dL_two_240 rfl rfl ?_
        exact jj_retI (ty := .boolean) rfl rfl dL_two_241 ⟨Nat.le_of_ble_eq_true rfl, Nat.le_of_ble_eq_true rfl⟩ hF
      · skip
        refine jj_aload_n (j := 0) (i := 0) (pc' := 130) dL_two_129 rfl rfl rfl ?_
        refine jj_iconst (v := (0 : Int32)) (pc' := 131) dL_two_130 rfl rfl ?_
        refine jj_iconst (v := (1 : Int32)) (pc' := 132) dL_two_131 rfl rfl ?_
        refine jj_cI (N := M_X3_reel) (kc' := 14196) (ks' := 87711) (pc' := 135) (jg_V (N := M_X3_reel) (ci := 3) (rest := []) (as := [.int ((0 : Int32)), .int ((1 : Int32))]) cf_L_66 dL_two_132 ⟨rfl, rfl⟩ rfl rfl ⟨Nat.le_of_ble_eq_true rfl, Nat.le_of_ble_eq_true rfl⟩ ⟨Nat.le_of_ble_eq_true rfl, Nat.le_of_ble_eq_true rfl⟩ (Nat.le_of_ble_eq_true rfl) (fun X' hX => KX3_reel hX)) rfl rfl rfl rfl ⟨Nat.le_of_ble_eq_true rfl, Nat.le_of_ble_eq_true rfl⟩ rfl hF (fun x106 h105 hF => ?_)
        refine jj_bipush (v := (110 : Int32)) (pc' := 137) dL_two_135 rfl rfl ?_
        refine jj_icmp_ne (tgt := 240) (pc' := 140) dL_two_137 rfl rfl (fun hc hF => ?_) (fun hc hF => ?_) hF
        · skip
          refine jj_iconst (v := (0 : Int32)) (pc' := 241) dL_two_240 rfl rfl ?_
          exact jj_retI (ty := .boolean) rfl rfl dL_two_241 ⟨Nat.le_of_ble_eq_true rfl, Nat.le_of_ble_eq_true rfl⟩ hF
        · skip
          refine jj_aload_n (j := 0) (i := 0) (pc' := 141) dL_two_140 rfl rfl rfl ?_
          refine jj_iconst (v := (0 : Int32)) (pc' := 142) dL_two_141 rfl rfl ?_
          refine jj_iconst (v := (2 : Int32)) (pc' := 143) dL_two_142 rfl rfl ?_
          refine jj_cI (N := M_X3_reel) (kc' := 14198) (ks' := 87723) (pc' := 146) (jg_V (N := M_X3_reel) (ci := 3) (rest := []) (as := [.int ((0 : Int32)), .int ((2 : Int32))]) cf_L_66 dL_two_143 ⟨rfl, rfl⟩ rfl rfl ⟨Nat.le_of_ble_eq_true rfl, Nat.le_of_ble_eq_true rfl⟩ ⟨Nat.le_of_ble_eq_true rfl, Nat.le_of_ble_eq_true rfl⟩ (Nat.le_of_ble_eq_true rfl) (fun X' hX => KX3_reel hX)) rfl rfl rfl rfl ⟨Nat.le_of_ble_eq_true rfl, Nat.le_of_ble_eq_true rfl⟩ rfl hF (fun x108 h107 hF => ?_)
          refine jj_bipush (v := (125 : Int32)) (pc' := 148) dL_two_146 rfl rfl ?_
          refine jj_icmp_ne (tgt := 240) (pc' := 151) dL_two_148 rfl rfl (fun hc hF => ?_) (fun hc hF => ?_) hF
          · skip
            refine jj_iconst (v := (0 : Int32)) (pc' := 241) dL_two_240 rfl rfl ?_
            exact jj_retI (ty := .boolean) rfl rfl dL_two_241 ⟨Nat.le_of_ble_eq_true rfl, Nat.le_of_ble_eq_true rfl⟩ hF
          · skip
            refine jj_aload_n (j := 0) (i := 0) (pc' := 152) dL_two_151 rfl rfl rfl ?_
            refine jj_iconst (v := (0 : Int32)) (pc' := 153) dL_two_152 rfl rfl ?_
            refine jj_iconst (v := (3 : Int32)) (pc' := 154) dL_two_153 rfl rfl ?_
            refine jj_cI (N := M_X3_reel) (kc' := 14200) (ks' := 87735) (pc' := 157) (jg_V (N := M_X3_reel) (ci := 3) (rest := []) (as := [.int ((0 : Int32)), .int ((3 : Int32))]) cf_L_66 dL_two_154 ⟨rfl, rfl⟩ rfl rfl ⟨Nat.le_of_ble_eq_true rfl, Nat.le_of_ble_eq_true rfl⟩ ⟨Nat.le_of_ble_eq_true rfl, Nat.le_of_ble_eq_true rfl⟩ (Nat.le_of_ble_eq_true rfl) (fun X' hX => KX3_reel hX)) rfl rfl rfl rfl ⟨Nat.le_of_ble_eq_true rfl, Nat.le_of_ble_eq_true rfl⟩ rfl hF (fun x110 h109 hF => ?_)
            refine jj_iconst (v := (-1 : Int32)) (pc' := 158) dL_two_157 rfl rfl ?_
            refine jj_icmp_ne (tgt := 240) (pc' := 161) dL_two_158 rfl rfl (fun hc hF => ?_) (fun hc hF => ?_) hF
            · skip
              refine jj_iconst (v := (0 : Int32)) (pc' := 241) dL_two_240 rfl rfl ?_
              exact jj_retI (ty := .boolean) rfl rfl dL_two_241 ⟨Nat.le_of_ble_eq_true rfl, Nat.le_of_ble_eq_true rfl⟩ hF
            · skip
              refine jj_aload_n (j := 0) (i := 0) (pc' := 162) dL_two_161 rfl rfl rfl ?_
              refine jj_iconst (v := (0 : Int32)) (pc' := 163) dL_two_162 rfl rfl ?_
              refine jj_bipush (v := (119 : Int32)) (pc' := 165) dL_two_163 rfl rfl ?_
              refine jj_cI (N := M_X3_runs) (kc' := 14202) (ks' := 87747) (pc' := 168) (jg_V (N := M_X3_runs) (ci := 3) (rest := []) (as := [.int ((0 : Int32)), .int ((119 : Int32))]) cf_L_69 dL_two_165 ⟨rfl, rfl⟩ rfl rfl ⟨Nat.le_of_ble_eq_true rfl, Nat.le_of_ble_eq_true rfl⟩ ⟨Nat.le_of_ble_eq_true rfl, Nat.le_of_ble_eq_true rfl⟩ (Nat.le_of_ble_eq_true rfl) (fun X' hX => KX3_runs hX)) rfl rfl rfl rfl ⟨Nat.le_of_ble_eq_true rfl, Nat.le_of_ble_eq_true rfl⟩ rfl hF (fun x112 h111 hF => ?_)
              refine jj_iconst (v := (1 : Int32)) (pc' := 169) dL_two_168 rfl rfl ?_
              refine jj_icmp_ne (tgt := 240) (pc' := 172) dL_two_169 rfl rfl (fun hc hF => ?_) (fun hc hF => ?_) hF
              · skip
                refine jj_iconst (v := (0 : Int32)) (pc' := 241) dL_two_240 rfl rfl ?_
                exact jj_retI (ty := .boolean) rfl rfl dL_two_241 ⟨Nat.le_of_ble_eq_true rfl, Nat.le_of_ble_eq_true rfl⟩ hF
              · skip
                refine jj_aload_n (j := 0) (i := 0) (pc' := 173) dL_two_172 rfl rfl rfl ?_
                refine jj_iconst (v := (0 : Int32)) (pc' := 174) dL_two_173 rfl rfl ?_
                refine jj_bipush (v := (120 : Int32)) (pc' := 176) dL_two_174 rfl rfl ?_
                refine jj_cI (N := M_X3_runs) (kc' := 14204) (ks' := 87759) (pc' := 179) (jg_V (N := M_X3_runs) (ci := 3) (rest := []) (as := [.int ((0 : Int32)), .int ((120 : Int32))]) cf_L_69 dL_two_176 ⟨rfl, rfl⟩ rfl rfl ⟨Nat.le_of_ble_eq_true rfl, Nat.le_of_ble_eq_true rfl⟩ ⟨Nat.le_of_ble_eq_true rfl, Nat.le_of_ble_eq_true rfl⟩ (Nat.le_of_ble_eq_true rfl) (fun X' hX => KX3_runs hX)) rfl rfl rfl rfl ⟨Nat.le_of_ble_eq_true rfl, Nat.le_of_ble_eq_true rfl⟩ rfl hF (fun x114 h113 hF => ?_)
                refine jj_iconst (v := (-1 : Int32)) (pc' := 180) dL_two_179 rfl rfl ?_
                refine jj_icmp_ne (tgt := 240) (pc' := 183) dL_two_180 rfl rfl (fun hc hF => ?_) (fun hc hF => ?_) hF
                · skip
                  refine jj_iconst (v := (0 : Int32)) (pc' := 241) dL_two_240 rfl rfl ?_
                  exact jj_retI (ty := .boolean) rfl rfl dL_two_241 ⟨Nat.le_of_ble_eq_true rfl, Nat.le_of_ble_eq_true rfl⟩ hF
                · skip
                  refine jj_aload_n (j := 0) (i := 0) (pc' := 184) dL_two_183 rfl rfl rfl ?_
                  refine jj_iconst (v := (0 : Int32)) (pc' := 185) dL_two_184 rfl rfl ?_
                  refine jj_bipush (v := (124 : Int32)) (pc' := 187) dL_two_185 rfl rfl ?_
                  refine jj_cI (N := M_X3_runs) (kc' := 14206) (ks' := 87771) (pc' := 190) (jg_V (N := M_X3_runs) (ci := 3) (rest := []) (as := [.int ((0 : Int32)), .int ((124 : Int32))]) cf_L_69 dL_two_187 ⟨rfl, rfl⟩ rfl rfl ⟨Nat.le_of_ble_eq_true rfl, Nat.le_of_ble_eq_true rfl⟩ ⟨Nat.le_of_ble_eq_true rfl, Nat.le_of_ble_eq_true rfl⟩ (Nat.le_of_ble_eq_true rfl) (fun X' hX => KX3_runs hX)) rfl rfl rfl rfl ⟨Nat.le_of_ble_eq_true rfl, Nat.le_of_ble_eq_true rfl⟩ rfl hF (fun x116 h115 hF => ?_)
                  refine jj_iconst (v := (-1 : Int32)) (pc' := 191) dL_two_190 rfl rfl ?_
                  refine jj_icmp_ne (tgt := 240) (pc' := 194) dL_two_191 rfl rfl (fun hc hF => ?_) (fun hc hF => ?_) hF
                  · skip
                    refine jj_iconst (v := (0 : Int32)) (pc' := 241) dL_two_240 rfl rfl ?_
                    exact jj_retI (ty := .boolean) rfl rfl dL_two_241 ⟨Nat.le_of_ble_eq_true rfl, Nat.le_of_ble_eq_true rfl⟩ hF
                  · skip
                    refine jj_aload_n (j := 0) (i := 0) (pc' := 195) dL_two_194 rfl rfl rfl ?_
                    refine jj_iconst (v := (0 : Int32)) (pc' := 196) dL_two_195 rfl rfl ?_
                    refine jj_bipush (v := (125 : Int32)) (pc' := 198) dL_two_196 rfl rfl ?_
                    refine jj_cI (N := M_X3_runs) (kc' := 14208) (ks' := 87783) (pc' := 201) (jg_V (N := M_X3_runs) (ci := 3) (rest := []) (as := [.int ((0 : Int32)), .int ((125 : Int32))]) cf_L_69 dL_two_198 ⟨rfl, rfl⟩ rfl rfl ⟨Nat.le_of_ble_eq_true rfl, Nat.le_of_ble_eq_true rfl⟩ ⟨Nat.le_of_ble_eq_true rfl, Nat.le_of_ble_eq_true rfl⟩ (Nat.le_of_ble_eq_true rfl) (fun X' hX => KX3_runs hX)) rfl rfl rfl rfl ⟨Nat.le_of_ble_eq_true rfl, Nat.le_of_ble_eq_true rfl⟩ rfl hF (fun x118 h117 hF => ?_)
                    refine jj_iconst (v := (2 : Int32)) (pc' := 202) dL_two_201 rfl rfl ?_
                    refine jj_icmp_ne (tgt := 240) (pc' := 205) dL_two_202 rfl rfl (fun hc hF => ?_) (fun hc hF => ?_) hF
                    · skip
                      refine jj_iconst (v := (0 : Int32)) (pc' := 241) dL_two_240 rfl rfl ?_
                      exact jj_retI (ty := .boolean) rfl rfl dL_two_241 ⟨Nat.le_of_ble_eq_true rfl, Nat.le_of_ble_eq_true rfl⟩ hF
                    · skip
                      refine jj_aload_n (j := 0) (i := 0) (pc' := 206) dL_two_205 rfl rfl rfl ?_
                      refine jj_iconst (v := (0 : Int32)) (pc' := 207) dL_two_206 rfl rfl ?_
                      refine jj_sipush (v := (134 : Int32)) (pc' := 210) dL_two_207 rfl rfl ?_
                      refine jj_cI (N := M_X3_runs) (kc' := 14210) (ks' := 87795) (pc' := 213) (jg_V (N := M_X3_runs) (ci := 3) (rest := []) (as := [.int ((0 : Int32)), .int ((134 : Int32))]) cf_L_69 dL_two_210 ⟨rfl, rfl⟩ rfl rfl ⟨Nat.le_of_ble_eq_true rfl, Nat.le_of_ble_eq_true rfl⟩ ⟨Nat.le_of_ble_eq_true rfl, Nat.le_of_ble_eq_true rfl⟩ (Nat.le_of_ble_eq_true rfl) (fun X' hX => KX3_runs hX)) rfl rfl rfl rfl ⟨Nat.le_of_ble_eq_true rfl, Nat.le_of_ble_eq_true rfl⟩ rfl hF (fun x120 h119 hF => ?_)
                      refine jj_iconst (v := (2 : Int32)) (pc' := 214) dL_two_213 rfl rfl ?_
                      refine jj_icmp_ne (tgt := 240) (pc' := 217) dL_two_214 rfl rfl (fun hc hF => ?_) (fun hc hF => ?_) hF
                      · skip
                        refine jj_iconst (v := (0 : Int32)) (pc' := 241) dL_two_240 rfl rfl ?_
                        exact jj_retI (ty := .boolean) rfl rfl dL_two_241 ⟨Nat.le_of_ble_eq_true rfl, Nat.le_of_ble_eq_true rfl⟩ hF
                      · skip
                        refine jj_wide (kc' := 14210) (ks' := 87795) (Nat.le_of_ble_eq_true rfl) (Nat.le_of_ble_eq_true rfl) ?_
                        exact jj_pick [0] rfl (BL_two_217 N N a0 h119 _ hF)
set_option maxRecDepth 100000 in
set_option maxHeartbeats 4000000 in
theorem JL_two {N : Nat} {h : jm_H} {X : jm_X} (hF : FL_two N h = some X) : jm_J M_L_two 0 [] [] h 0 0 X := by
  unfold FL_two at hF
  refine jj_new (C := RX3) (T := TX3) (N := 8) (ci := 3) (fs := [.null, .null, .null, .null, .null, .int 0, .int 0, .int 0]) (ty := tyX3) (lv := []) (kc' := 1) (ks' := 8) (pc' := 3) dL_two_0 rfl rfl inX3 tyX3_ok ⟨qw_82, qw_83, qw_84⟩ (by decide) (by simp) rfl (jm_live rfl) rfl rfl ⟨Nat.le_of_ble_eq_true rfl, Nat.le_of_ble_eq_true rfl⟩ hF (fun o101 h102 hF => ?_)
  refine jj_dup (pc' := 4) dL_two_3 rfl rfl ?_
  refine jj_ini (N := M_X3_init) (as := []) (rest := [.ref o101]) (lv := [o101]) (kc' := 108) (ks' := 3183) (pc' := 7) cf_L_142 dL_two_4 rfl rfl ⟨Nat.le_of_ble_eq_true rfl, Nat.le_of_ble_eq_true rfl⟩ ⟨Nat.le_of_ble_eq_true rfl, Nat.le_of_ble_eq_true rfl⟩ (Nat.le_of_ble_eq_true rfl) (fun X' hX => KX3_init hX) rfl (jm_live rfl) rfl rfl rfl hF (fun h103 hF => ?_)
  refine jj_astore_n (i := 0) (ls' := [(0, .ref o101)]) (pc' := 8) dL_two_7 rfl (Nat.le_of_ble_eq_true rfl) rfl rfl ?_
  refine jj_aload_n (j := 0) (i := 0) (pc' := 9) dL_two_8 rfl rfl rfl ?_
  refine jj_bipush (v := (12 : Int32)) (pc' := 11) dL_two_9 rfl rfl ?_
  refine jj_iconst (v := (0 : Int32)) (pc' := 12) dL_two_11 rfl rfl ?_
  refine jj_iconst (v := (0 : Int32)) (pc' := 13) dL_two_12 rfl rfl ?_
  refine jj_iconst (v := (0 : Int32)) (pc' := 14) dL_two_13 rfl rfl ?_
  refine jj_lconst (v := (0 : Int64)) (pc' := 15) dL_two_14 rfl rfl ?_
  refine jj_cI (N := M_L_call) (kc' := 169) (ks' := 3549) (pc' := 18) (jg_H (N := M_L_call) (rest := []) (as := [.ref o101, .int ((12 : Int32)), .int ((0 : Int32)), .int ((0 : Int32)), .int ((0 : Int32)), .long ((0 : Int64))]) cf_L_119 (by decide) dL_two_15 rfl rfl ⟨Nat.le_of_ble_eq_true rfl, Nat.le_of_ble_eq_true rfl⟩ ⟨Nat.le_of_ble_eq_true rfl, Nat.le_of_ble_eq_true rfl⟩ (Nat.le_of_ble_eq_true rfl) (fun X' hX => KL_call hX)) rfl rfl rfl rfl ⟨Nat.le_of_ble_eq_true rfl, Nat.le_of_ble_eq_true rfl⟩ rfl hF (fun x105 h104 hF => ?_)
  refine jj_bipush (v := (-13 : Int32)) (pc' := 20) dL_two_18 rfl rfl ?_
  refine jj_icmp_ne (tgt := 240) (pc' := 23) dL_two_20 rfl rfl (fun hc hF => ?_) (fun hc hF => ?_) hF
  · skip
    refine jj_iconst (v := (0 : Int32)) (pc' := 241) dL_two_240 rfl rfl ?_
    exact jj_retI (ty := .boolean) rfl rfl dL_two_241 ⟨Nat.le_of_ble_eq_true rfl, Nat.le_of_ble_eq_true rfl⟩ hF
  · skip
    refine jj_aload_n (j := 0) (i := 0) (pc' := 24) dL_two_23 rfl rfl rfl ?_
    refine jj_bipush (v := (13 : Int32)) (pc' := 26) dL_two_24 rfl rfl ?_
    refine jj_iconst (v := (0 : Int32)) (pc' := 27) dL_two_26 rfl rfl ?_
    refine jj_iconst (v := (0 : Int32)) (pc' := 28) dL_two_27 rfl rfl ?_
    refine jj_iconst (v := (0 : Int32)) (pc' := 29) dL_two_28 rfl rfl ?_
    refine jj_lconst (v := (0 : Int64)) (pc' := 30) dL_two_29 rfl rfl ?_
    refine jj_cI (N := M_L_call) (kc' := 230) (ks' := 3915) (pc' := 33) (jg_H (N := M_L_call) (rest := []) (as := [.ref o101, .int ((13 : Int32)), .int ((0 : Int32)), .int ((0 : Int32)), .int ((0 : Int32)), .long ((0 : Int64))]) cf_L_119 (by decide) dL_two_30 rfl rfl ⟨Nat.le_of_ble_eq_true rfl, Nat.le_of_ble_eq_true rfl⟩ ⟨Nat.le_of_ble_eq_true rfl, Nat.le_of_ble_eq_true rfl⟩ (Nat.le_of_ble_eq_true rfl) (fun X' hX => KL_call hX)) rfl rfl rfl rfl ⟨Nat.le_of_ble_eq_true rfl, Nat.le_of_ble_eq_true rfl⟩ rfl hF (fun x107 h106 hF => ?_)
    refine jj_bipush (v := (-13 : Int32)) (pc' := 35) dL_two_33 rfl rfl ?_
    refine jj_icmp_ne (tgt := 240) (pc' := 38) dL_two_35 rfl rfl (fun hc hF => ?_) (fun hc hF => ?_) hF
    · skip
      refine jj_iconst (v := (0 : Int32)) (pc' := 241) dL_two_240 rfl rfl ?_
      exact jj_retI (ty := .boolean) rfl rfl dL_two_241 ⟨Nat.le_of_ble_eq_true rfl, Nat.le_of_ble_eq_true rfl⟩ hF
    · skip
      refine jj_aload_n (j := 0) (i := 0) (pc' := 39) dL_two_38 rfl rfl rfl ?_
      refine jj_bipush (v := (6 : Int32)) (pc' := 41) dL_two_39 rfl rfl ?_
      refine jj_cI (N := M_X3_count) (kc' := 231) (ks' := 3921) (pc' := 44) (jg_V (N := M_X3_count) (ci := 3) (rest := []) (as := [.int ((6 : Int32))]) cf_L_81 dL_two_41 ⟨rfl, rfl⟩ rfl rfl ⟨Nat.le_of_ble_eq_true rfl, Nat.le_of_ble_eq_true rfl⟩ ⟨Nat.le_of_ble_eq_true rfl, Nat.le_of_ble_eq_true rfl⟩ (Nat.le_of_ble_eq_true rfl) (fun X' hX => KX3_count hX)) rfl rfl rfl rfl ⟨Nat.le_of_ble_eq_true rfl, Nat.le_of_ble_eq_true rfl⟩ rfl hF (fun x109 h108 hF => ?_)
      refine jj_iconst (v := (-1 : Int32)) (pc' := 45) dL_two_44 rfl rfl ?_
      refine jj_icmp_ne (tgt := 240) (pc' := 48) dL_two_45 rfl rfl (fun hc hF => ?_) (fun hc hF => ?_) hF
      · skip
        refine jj_iconst (v := (0 : Int32)) (pc' := 241) dL_two_240 rfl rfl ?_
        exact jj_retI (ty := .boolean) rfl rfl dL_two_241 ⟨Nat.le_of_ble_eq_true rfl, Nat.le_of_ble_eq_true rfl⟩ hF
      · skip
        refine jj_aload_n (j := 0) (i := 0) (pc' := 49) dL_two_48 rfl rfl rfl ?_
        refine jj_iconst (v := (0 : Int32)) (pc' := 50) dL_two_49 rfl rfl ?_
        refine jj_cI (N := M_X3_stopped) (kc' := 232) (ks' := 3927) (pc' := 53) (jg_V (N := M_X3_stopped) (ci := 3) (rest := []) (as := [.int ((0 : Int32))]) cf_L_51 dL_two_50 ⟨rfl, rfl⟩ rfl rfl ⟨Nat.le_of_ble_eq_true rfl, Nat.le_of_ble_eq_true rfl⟩ ⟨Nat.le_of_ble_eq_true rfl, Nat.le_of_ble_eq_true rfl⟩ (Nat.le_of_ble_eq_true rfl) (fun X' hX => KX3_stopped hX)) rfl rfl rfl rfl ⟨Nat.le_of_ble_eq_true rfl, Nat.le_of_ble_eq_true rfl⟩ rfl hF (fun x111 h110 hF => ?_)
        refine jj_iconst (v := (-1 : Int32)) (pc' := 54) dL_two_53 rfl rfl ?_
        refine jj_icmp_ne (tgt := 240) (pc' := 57) dL_two_54 rfl rfl (fun hc hF => ?_) (fun hc hF => ?_) hF
        · skip
          refine jj_iconst (v := (0 : Int32)) (pc' := 241) dL_two_240 rfl rfl ?_
          exact jj_retI (ty := .boolean) rfl rfl dL_two_241 ⟨Nat.le_of_ble_eq_true rfl, Nat.le_of_ble_eq_true rfl⟩ hF
        · skip
          refine jj_aload_n (j := 0) (i := 0) (pc' := 58) dL_two_57 rfl rfl rfl ?_
          refine jj_iconst (v := (0 : Int32)) (pc' := 59) dL_two_58 rfl rfl ?_
          refine jj_iconst (v := (4 : Int32)) (pc' := 60) dL_two_59 rfl rfl ?_
          refine jj_cI (N := M_X3_screen) (kc' := 234) (ks' := 3939) (pc' := 63) (jg_V (N := M_X3_screen) (ci := 3) (rest := []) (as := [.int ((0 : Int32)), .int ((4 : Int32))]) cf_L_72 dL_two_60 ⟨rfl, rfl⟩ rfl rfl ⟨Nat.le_of_ble_eq_true rfl, Nat.le_of_ble_eq_true rfl⟩ ⟨Nat.le_of_ble_eq_true rfl, Nat.le_of_ble_eq_true rfl⟩ (Nat.le_of_ble_eq_true rfl) (fun X' hX => KX3_screen hX)) rfl rfl rfl rfl ⟨Nat.le_of_ble_eq_true rfl, Nat.le_of_ble_eq_true rfl⟩ rfl hF (fun x113 h112 hF => ?_)
          refine jj_iconst (v := (-1 : Int32)) (pc' := 64) dL_two_63 rfl rfl ?_
          refine jj_icmp_ne (tgt := 240) (pc' := 67) dL_two_64 rfl rfl (fun hc hF => ?_) (fun hc hF => ?_) hF
          · skip
            refine jj_iconst (v := (0 : Int32)) (pc' := 241) dL_two_240 rfl rfl ?_
            exact jj_retI (ty := .boolean) rfl rfl dL_two_241 ⟨Nat.le_of_ble_eq_true rfl, Nat.le_of_ble_eq_true rfl⟩ hF
          · skip
            refine jj_aload_n (j := 0) (i := 0) (pc' := 68) dL_two_67 rfl rfl rfl ?_
            refine jj_iconst (v := (2 : Int32)) (pc' := 69) dL_two_68 rfl rfl ?_
            refine jj_cD (N := M_X3_use) (kc' := 235) (ks' := 3945) (pc' := 72) (jg_V (N := M_X3_use) (ci := 3) (rest := []) (as := [.int ((2 : Int32))]) cf_L_97 dL_two_69 ⟨rfl, rfl⟩ rfl rfl ⟨Nat.le_of_ble_eq_true rfl, Nat.le_of_ble_eq_true rfl⟩ ⟨Nat.le_of_ble_eq_true rfl, Nat.le_of_ble_eq_true rfl⟩ (Nat.le_of_ble_eq_true rfl) (fun X' hX => KX3_use hX)) rfl rfl rfl rfl ⟨Nat.le_of_ble_eq_true rfl, Nat.le_of_ble_eq_true rfl⟩ rfl hF (fun d115 h114 hF => ?_)
            refine jj_dconst0 (pc' := 73) dL_two_72 rfl ?_
            refine jj_dcmp (pc' := 74) dL_two_73 rfl ?_
            refine jj_if_ne (tgt := 240) (pc' := 77) dL_two_74 rfl rfl (fun hc hF => ?_) (fun hc hF => ?_) hF
            · skip
              refine jj_iconst (v := (0 : Int32)) (pc' := 241) dL_two_240 rfl rfl ?_
              exact jj_retI (ty := .boolean) rfl rfl dL_two_241 ⟨Nat.le_of_ble_eq_true rfl, Nat.le_of_ble_eq_true rfl⟩ hF
            · skip
              refine jj_aload_n (j := 0) (i := 0) (pc' := 78) dL_two_77 rfl rfl rfl ?_
              refine jj_cI (N := M_L_refused) (kc' := 14183) (ks' := 87633) (pc' := 81) (jg_S (N := M_L_refused) (rest := []) (as := [.ref o101]) cf_L_143 rfl dL_two_78 rfl rfl ⟨Nat.le_of_ble_eq_true rfl, Nat.le_of_ble_eq_true rfl⟩ ⟨Nat.le_of_ble_eq_true rfl, Nat.le_of_ble_eq_true rfl⟩ (Nat.le_of_ble_eq_true rfl) (fun X' hX => KL_refused hX)) rfl rfl rfl rfl ⟨Nat.le_of_ble_eq_true rfl, Nat.le_of_ble_eq_true rfl⟩ rfl hF (fun x117 h116 hF => ?_)
              refine jj_if_eq (tgt := 240) (pc' := 84) dL_two_81 rfl rfl (fun hc hF => ?_) (fun hc hF => ?_) hF
              · skip
                refine jj_iconst (v := (0 : Int32)) (pc' := 241) dL_two_240 rfl rfl ?_
                exact jj_retI (ty := .boolean) rfl rfl dL_two_241 ⟨Nat.le_of_ble_eq_true rfl, Nat.le_of_ble_eq_true rfl⟩ hF
              · skip
                refine jj_aload_n (j := 0) (i := 0) (pc' := 85) dL_two_84 rfl rfl rfl ?_
                refine jj_iconst (v := (3 : Int32)) (pc' := 86) dL_two_85 rfl rfl ?_
                refine jj_bipush (v := (10 : Int32)) (pc' := 88) dL_two_86 rfl rfl ?_
                refine jj_cI (N := M_X3_film) (kc' := 14185) (ks' := 87645) (pc' := 91) (jg_V (N := M_X3_film) (ci := 3) (rest := []) (as := [.int ((3 : Int32)), .int ((10 : Int32))]) cf_L_11 dL_two_88 ⟨rfl, rfl⟩ rfl rfl ⟨Nat.le_of_ble_eq_true rfl, Nat.le_of_ble_eq_true rfl⟩ ⟨Nat.le_of_ble_eq_true rfl, Nat.le_of_ble_eq_true rfl⟩ (Nat.le_of_ble_eq_true rfl) (fun X' hX => KX3_film hX)) rfl rfl rfl rfl ⟨Nat.le_of_ble_eq_true rfl, Nat.le_of_ble_eq_true rfl⟩ rfl hF (fun x119 h118 hF => ?_)
                refine jj_if_ne (tgt := 240) (pc' := 94) dL_two_91 rfl rfl (fun hc hF => ?_) (fun hc hF => ?_) hF
                · skip
                  refine jj_iconst (v := (0 : Int32)) (pc' := 241) dL_two_240 rfl rfl ?_
                  exact jj_retI (ty := .boolean) rfl rfl dL_two_241 ⟨Nat.le_of_ble_eq_true rfl, Nat.le_of_ble_eq_true rfl⟩ hF
                · skip
                  refine jj_aload_n (j := 0) (i := 0) (pc' := 95) dL_two_94 rfl rfl rfl ?_
                  refine jj_iconst (v := (2 : Int32)) (pc' := 96) dL_two_95 rfl rfl ?_
                  refine jj_bipush (v := (20 : Int32)) (pc' := 98) dL_two_96 rfl rfl ?_
                  refine jj_cI (N := M_X3_film) (kc' := 14187) (ks' := 87657) (pc' := 101) (jg_V (N := M_X3_film) (ci := 3) (rest := []) (as := [.int ((2 : Int32)), .int ((20 : Int32))]) cf_L_11 dL_two_98 ⟨rfl, rfl⟩ rfl rfl ⟨Nat.le_of_ble_eq_true rfl, Nat.le_of_ble_eq_true rfl⟩ ⟨Nat.le_of_ble_eq_true rfl, Nat.le_of_ble_eq_true rfl⟩ (Nat.le_of_ble_eq_true rfl) (fun X' hX => KX3_film hX)) rfl rfl rfl rfl ⟨Nat.le_of_ble_eq_true rfl, Nat.le_of_ble_eq_true rfl⟩ rfl hF (fun x121 h120 hF => ?_)
                  refine jj_iconst (v := (1 : Int32)) (pc' := 102) dL_two_101 rfl rfl ?_
                  refine jj_icmp_ne (tgt := 240) (pc' := 105) dL_two_102 rfl rfl (fun hc hF => ?_) (fun hc hF => ?_) hF
                  · skip
                    refine jj_iconst (v := (0 : Int32)) (pc' := 241) dL_two_240 rfl rfl ?_
                    exact jj_retI (ty := .boolean) rfl rfl dL_two_241 ⟨Nat.le_of_ble_eq_true rfl, Nat.le_of_ble_eq_true rfl⟩ hF
                  · skip
                    refine jj_wide (kc' := 14187) (ks' := 87657) (Nat.le_of_ble_eq_true rfl) (Nat.le_of_ble_eq_true rfl) ?_
                    exact jj_pick [0] rfl (BL_two_105 N N o101 h120 _ hF)
theorem KL_two {N : Nat} {h : jm_H} {X : jm_X} (hF : FL_two N h = some X) : jm_K M_L_two [] h X := jk_of rfl (by decide +kernel) rfl rfl (Nat.le_of_ble_eq_true rfl) (JL_two hF)

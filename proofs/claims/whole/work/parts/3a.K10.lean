set_option maxRecDepth 100000 in
set_option maxHeartbeats 4000000 in
theorem BL_law_28 (L : Nat) (xs : Nat → Int32) (N : Nat) : ∀ (n : Nat) (kc : Nat) (ks : Nat) (a1 : Nat) (a2 : Nat) (a3 : Nat) (a4 : Nat) (x5 : Int32) (h : jm_H) (X : jm_X), FL_law_28 L xs N n kc ks a1 a2 a3 a4 x5 h = some X → jm_J (M_L_law L xs) 28 [(0, .ref 1000000), (1, .ref a1), (2, .ref a2), (3, .ref a3), (4, .ref a4), (5, .int x5)] [] h kc ks X := by
  intro n
  induction n with
  | zero =>
    intro kc ks a1 a2 a3 a4 x5 h X hF
    exact nomatch (show (none : Option jm_X) = some X from hF)
  | succ n ih =>
    intro kc ks a1 a2 a3 a4 x5 h X hF
    rw [FL_law_28] at hF
    obtain ⟨hk, hF⟩ := jf_k_inv hF
    refine jj_iload (j := 5) (i := 5) (pc' := 30) dL_law_28 rfl rfl ?_
    refine jj_aload_n (j := 0) (i := 0) (pc' := 31) dL_law_30 rfl rfl rfl ?_
    refine jj_slen (pc' := 32) dL_law_31 rfl rfl ?_
    refine jj_bipush (v := (6 : Int32)) (pc' := 34) dL_law_32 rfl rfl ?_
    refine jj_isub (pc' := 35) dL_law_34 rfl ?_
    refine jj_icmp_gt (tgt := 2076) (pc' := 38) dL_law_35 rfl rfl (fun hc hF => ?_) (fun hc hF => ?_) hF
    · skip
      refine jj_iconst (v := (1 : Int32)) (pc' := 2077) dL_law_2076 rfl rfl ?_
      exact jj_retI (ty := .boolean) rfl rfl dL_law_2077 ⟨hk.1, hk.2⟩ hF
    · skip
      refine jj_aload_n (j := 0) (i := 0) (pc' := 39) dL_law_38 rfl rfl rfl ?_
      refine jj_iload (j := 5) (i := 5) (pc' := 41) dL_law_39 rfl rfl ?_
      obtain ⟨hi, hF⟩ := jf_s_inv hF
      refine jj_sld (L := L) (xs := xs) (pc' := 42) dL_law_41 rfl hi rfl ?_
      refine jj_bipush (v := (31 : Int32)) (pc' := 44) dL_law_42 rfl rfl ?_
      refine jj_iand (pc' := 45) dL_law_44 rfl ?_
      refine jj_table (N := 31) (lo := 0) (dt := 2070) [184, 252, 320, 388, 480, 536, 604, 684, 752, 832, 888, 901, 914, 958, 1014, 1058, 1071, 1115, 1183, 1251, 1319, 1387, 1455, 1523, 1591, 1647, 1751, 1831, 1899, 1979, 2056] dL_law_45 ⟨by decide, by decide⟩ ⟨by decide, by decide, rfl, rfl⟩ (by decide) rfl ?_ (fun hF => ?_) hF
      · intro i b tg hb ht hx hF
        match i, hb, ht with
        | 0, hb, ht =>
          cases hb; cases ht
          refine jj_aload_n (j := 1) (i := 1) (pc' := 185) dL_law_184 rfl rfl rfl ?_
          refine jj_aload_n (j := 0) (i := 0) (pc' := 186) dL_law_185 rfl rfl rfl ?_
          refine jj_iload (j := 5) (i := 5) (pc' := 188) dL_law_186 rfl rfl ?_
          refine jj_iconst (v := (1 : Int32)) (pc' := 189) dL_law_188 rfl rfl ?_
          refine jj_iadd (pc' := 190) dL_law_189 rfl ?_
          obtain ⟨hi, hF⟩ := jf_s_inv hF
          refine jj_sld (L := L) (xs := xs) (pc' := 191) dL_law_190 rfl hi rfl ?_
          refine jj_aload_n (j := 0) (i := 0) (pc' := 192) dL_law_191 rfl rfl rfl ?_
          refine jj_iload (j := 5) (i := 5) (pc' := 194) dL_law_192 rfl rfl ?_
          refine jj_iconst (v := (2 : Int32)) (pc' := 195) dL_law_194 rfl rfl ?_
          refine jj_iadd (pc' := 196) dL_law_195 rfl ?_
          obtain ⟨hi, hF⟩ := jf_s_inv hF
          refine jj_sld (L := L) (xs := xs) (pc' := 197) dL_law_196 rfl hi rfl ?_
          refine jj_aload_n (j := 3) (i := 3) (pc' := 198) dL_law_197 rfl rfl rfl ?_
          obtain ⟨hk, hF⟩ := jf_k_inv hF
          refine jj_cI (N := M_L_film) (kc' := (kc + 2)) (ks' := (ks + 12)) (pc' := 201) (jg_H (N := M_L_film) (rest := []) (as := [.ref a1, .int (xs (x5 + ((1 : Int32))).toNatClampNeg), .int (xs (x5 + ((2 : Int32))).toNatClampNeg), .ref a3]) cf_L_107 (by decide) dL_law_198 rfl rfl ⟨Nat.le_of_ble_eq_true rfl, Nat.le_of_ble_eq_true rfl⟩ ⟨hk.1, hk.2⟩ (Nat.le_of_ble_eq_true rfl) (fun X' hX => KL_film hX)) rfl rfl rfl rfl ⟨hk.1, hk.2⟩ rfl hF (fun x102 h101 hF => ?_)
          refine jj_istore (i := 6) (ls' := [(6, .int x102), (0, .ref 1000000), (1, .ref a1), (2, .ref a2), (3, .ref a3), (4, .ref a4), (5, .int x5)]) (pc' := 203) dL_law_201 (Nat.le_of_ble_eq_true rfl) rfl rfl ?_
          refine jj_aload_n (j := 3) (i := 2) (pc' := 204) dL_law_203 rfl rfl rfl ?_
          refine jj_aload_n (j := 1) (i := 0) (pc' := 205) dL_law_204 rfl rfl rfl ?_
          refine jj_iload (j := 6) (i := 5) (pc' := 207) dL_law_205 rfl rfl ?_
          refine jj_iconst (v := (1 : Int32)) (pc' := 208) dL_law_207 rfl rfl ?_
          refine jj_iadd (pc' := 209) dL_law_208 rfl ?_
          obtain ⟨hi, hF⟩ := jf_s_inv hF
          refine jj_sld (L := L) (xs := xs) (pc' := 210) dL_law_209 rfl hi rfl ?_
          refine jj_aload_n (j := 1) (i := 0) (pc' := 211) dL_law_210 rfl rfl rfl ?_
          refine jj_iload (j := 6) (i := 5) (pc' := 213) dL_law_211 rfl rfl ?_
          refine jj_iconst (v := (2 : Int32)) (pc' := 214) dL_law_213 rfl rfl ?_
          refine jj_iadd (pc' := 215) dL_law_214 rfl ?_
          obtain ⟨hi, hF⟩ := jf_s_inv hF
          refine jj_sld (L := L) (xs := xs) (pc' := 216) dL_law_215 rfl hi rfl ?_
          refine jj_cI (N := M_X4_film) (kc' := (kc + 2)) (ks' := (ks + 12)) (pc' := 219) (jg_V (N := M_X4_film) (ci := 4) (rest := []) (as := [.int (xs (x5 + ((1 : Int32))).toNatClampNeg), .int (xs (x5 + ((2 : Int32))).toNatClampNeg)]) cf_L_112 dL_law_216 ⟨rfl, rfl⟩ rfl rfl ⟨Nat.le_of_ble_eq_true rfl, Nat.le_of_ble_eq_true rfl⟩ ⟨hk.1, hk.2⟩ (Nat.le_of_ble_eq_true rfl) (fun X' hX => KX4_film hX)) rfl rfl rfl rfl ⟨hk.1, hk.2⟩ rfl hF (fun x104 h103 hF => ?_)
          refine jj_istore (i := 7) (ls' := [(7, .int x104), (6, .int x102), (0, .ref 1000000), (1, .ref a1), (2, .ref a2), (3, .ref a3), (4, .ref a4), (5, .int x5)]) (pc' := 221) dL_law_219 (Nat.le_of_ble_eq_true rfl) rfl rfl ?_
          refine jj_aload_n (j := 4) (i := 2) (pc' := 222) dL_law_221 rfl rfl rfl ?_
          refine jj_cI (N := M_X4_thrown) (kc' := (kc + 2)) (ks' := (ks + 12)) (pc' := 225) (jg_V (N := M_X4_thrown) (ci := 4) (rest := []) (as := []) cf_L_113 dL_law_222 ⟨rfl, rfl⟩ rfl rfl ⟨Nat.le_of_ble_eq_true rfl, Nat.le_of_ble_eq_true rfl⟩ ⟨hk.1, hk.2⟩ (Nat.le_of_ble_eq_true rfl) (fun X' hX => KX4_thrown hX)) rfl rfl rfl rfl ⟨hk.1, hk.2⟩ rfl hF (fun x106 h105 hF => ?_)
          refine jj_iload (j := 1) (i := 6) (pc' := 227) dL_law_225 rfl rfl ?_
          refine jj_icmp_eq (tgt := 232) (pc' := 230) dL_law_227 rfl rfl (fun hc hF => ?_) (fun hc hF => ?_) hF
          · skip
            refine jj_iload (j := 1) (i := 6) (pc' := 234) dL_law_232 rfl rfl ?_
            refine jj_if_ne (tgt := 249) (pc' := 237) dL_law_234 rfl rfl (fun hc hF => ?_) (fun hc hF => ?_) hF
            · skip
              refine jj_goto (tgt := 2070) dL_law_249 rfl ?_
              refine jj_iinc (i := 5) (j := 7) (v := x5 + (6 : Int32)) (ls' := [(5, .int (x5 + (6 : Int32))), (7, .int x104), (6, .int x102), (0, .ref 1000000), (1, .ref a1), (2, .ref a2), (3, .ref a3), (4, .ref a4)]) (pc' := 2073) dL_law_2070 rfl rfl (Nat.le_of_ble_eq_true rfl) rfl rfl ?_
              refine jj_goto (tgt := 28) dL_law_2073 rfl ?_
              exact jj_pick [3, 4, 5, 6, 7, 0] rfl (ih (kc + 2) (ks + 12) a1 a2 a3 a4 (x5 + (6 : Int32)) h105 _ hF)
            · skip
              refine jj_aload_n (j := 5) (i := 3) (pc' := 238) dL_law_237 rfl rfl rfl ?_
              refine jj_iconst (v := (0 : Int32)) (pc' := 239) dL_law_238 rfl rfl ?_
              refine jj_ldL (pc' := 240) dL_law_239 rfl hF (fun l107 hF => ?_)
              refine jj_iload (j := 0) (i := 7) (pc' := 242) dL_law_240 rfl rfl ?_
              refine jj_i2l (pc' := 243) dL_law_242 rfl ?_
              refine jj_lcmp (pc' := 244) dL_law_243 rfl ?_
              refine jj_if_eq (tgt := 249) (pc' := 247) dL_law_244 rfl rfl (fun hc hF => ?_) (fun hc hF => ?_) hF
              · skip
                refine jj_goto (tgt := 2070) dL_law_249 rfl ?_
                refine jj_iinc (i := 5) (j := 7) (v := x5 + (6 : Int32)) (ls' := [(5, .int (x5 + (6 : Int32))), (7, .int x104), (6, .int x102), (0, .ref 1000000), (1, .ref a1), (2, .ref a2), (3, .ref a3), (4, .ref a4)]) (pc' := 2073) dL_law_2070 rfl rfl (Nat.le_of_ble_eq_true rfl) rfl rfl ?_
                refine jj_goto (tgt := 28) dL_law_2073 rfl ?_
                exact jj_pick [3, 4, 5, 6, 7, 0] rfl (ih (kc + 2) (ks + 12) a1 a2 a3 a4 (x5 + (6 : Int32)) h105 _ hF)
              · skip
                refine jj_iconst (v := (0 : Int32)) (pc' := 248) dL_law_247 rfl rfl ?_
                exact jj_retI (ty := .boolean) rfl rfl dL_law_248 ⟨hk.1, hk.2⟩ hF
          · skip
            refine jj_iconst (v := (0 : Int32)) (pc' := 231) dL_law_230 rfl rfl ?_
            exact jj_retI (ty := .boolean) rfl rfl dL_law_231 ⟨hk.1, hk.2⟩ hF
        | 1, hb, ht =>
          cases hb; cases ht
          refine jj_aload_n (j := 1) (i := 1) (pc' := 253) dL_law_252 rfl rfl rfl ?_
          refine jj_aload_n (j := 0) (i := 0) (pc' := 254) dL_law_253 rfl rfl rfl ?_
          refine jj_iload (j := 5) (i := 5) (pc' := 256) dL_law_254 rfl rfl ?_
          refine jj_iconst (v := (1 : Int32)) (pc' := 257) dL_law_256 rfl rfl ?_
          refine jj_iadd (pc' := 258) dL_law_257 rfl ?_
          obtain ⟨hi, hF⟩ := jf_s_inv hF
          refine jj_sld (L := L) (xs := xs) (pc' := 259) dL_law_258 rfl hi rfl ?_
          refine jj_aload_n (j := 0) (i := 0) (pc' := 260) dL_law_259 rfl rfl rfl ?_
          refine jj_iload (j := 5) (i := 5) (pc' := 262) dL_law_260 rfl rfl ?_
          refine jj_iconst (v := (2 : Int32)) (pc' := 263) dL_law_262 rfl rfl ?_
          refine jj_iadd (pc' := 264) dL_law_263 rfl ?_
          obtain ⟨hi, hF⟩ := jf_s_inv hF
          refine jj_sld (L := L) (xs := xs) (pc' := 265) dL_law_264 rfl hi rfl ?_
          refine jj_aload_n (j := 3) (i := 3) (pc' := 266) dL_law_265 rfl rfl rfl ?_
          obtain ⟨hk, hF⟩ := jf_k_inv hF
          refine jj_cI (N := M_L_seats) (kc' := (kc + 2)) (ks' := (ks + 12)) (pc' := 269) (jg_H (N := M_L_seats) (rest := []) (as := [.ref a1, .int (xs (x5 + ((1 : Int32))).toNatClampNeg), .int (xs (x5 + ((2 : Int32))).toNatClampNeg), .ref a3]) cf_L_116 (by decide) dL_law_266 rfl rfl ⟨Nat.le_of_ble_eq_true rfl, Nat.le_of_ble_eq_true rfl⟩ ⟨hk.1, hk.2⟩ (Nat.le_of_ble_eq_true rfl) (fun X' hX => KL_seats hX)) rfl rfl rfl rfl ⟨hk.1, hk.2⟩ rfl hF (fun x109 h108 hF => ?_)
          refine jj_istore (i := 6) (ls' := [(6, .int x109), (0, .ref 1000000), (1, .ref a1), (2, .ref a2), (3, .ref a3), (4, .ref a4), (5, .int x5)]) (pc' := 271) dL_law_269 (Nat.le_of_ble_eq_true rfl) rfl rfl ?_
          refine jj_aload_n (j := 3) (i := 2) (pc' := 272) dL_law_271 rfl rfl rfl ?_
          refine jj_aload_n (j := 1) (i := 0) (pc' := 273) dL_law_272 rfl rfl rfl ?_
          refine jj_iload (j := 6) (i := 5) (pc' := 275) dL_law_273 rfl rfl ?_
          refine jj_iconst (v := (1 : Int32)) (pc' := 276) dL_law_275 rfl rfl ?_
          refine jj_iadd (pc' := 277) dL_law_276 rfl ?_
          obtain ⟨hi, hF⟩ := jf_s_inv hF
          refine jj_sld (L := L) (xs := xs) (pc' := 278) dL_law_277 rfl hi rfl ?_
          refine jj_aload_n (j := 1) (i := 0) (pc' := 279) dL_law_278 rfl rfl rfl ?_
          refine jj_iload (j := 6) (i := 5) (pc' := 281) dL_law_279 rfl rfl ?_
          refine jj_iconst (v := (2 : Int32)) (pc' := 282) dL_law_281 rfl rfl ?_
          refine jj_iadd (pc' := 283) dL_law_282 rfl ?_
          obtain ⟨hi, hF⟩ := jf_s_inv hF
          refine jj_sld (L := L) (xs := xs) (pc' := 284) dL_law_283 rfl hi rfl ?_
          refine jj_cI (N := M_X4_seats) (kc' := (kc + 2)) (ks' := (ks + 12)) (pc' := 287) (jg_V (N := M_X4_seats) (ci := 4) (rest := []) (as := [.int (xs (x5 + ((1 : Int32))).toNatClampNeg), .int (xs (x5 + ((2 : Int32))).toNatClampNeg)]) cf_L_118 dL_law_284 ⟨rfl, rfl⟩ rfl rfl ⟨Nat.le_of_ble_eq_true rfl, Nat.le_of_ble_eq_true rfl⟩ ⟨hk.1, hk.2⟩ (Nat.le_of_ble_eq_true rfl) (fun X' hX => KX4_seats hX)) rfl rfl rfl rfl ⟨hk.1, hk.2⟩ rfl hF (fun x111 h110 hF => ?_)
          refine jj_istore (i := 7) (ls' := [(7, .int x111), (6, .int x109), (0, .ref 1000000), (1, .ref a1), (2, .ref a2), (3, .ref a3), (4, .ref a4), (5, .int x5)]) (pc' := 289) dL_law_287 (Nat.le_of_ble_eq_true rfl) rfl rfl ?_
          refine jj_aload_n (j := 4) (i := 2) (pc' := 290) dL_law_289 rfl rfl rfl ?_
          refine jj_cI (N := M_X4_thrown) (kc' := (kc + 2)) (ks' := (ks + 12)) (pc' := 293) (jg_V (N := M_X4_thrown) (ci := 4) (rest := []) (as := []) cf_L_113 dL_law_290 ⟨rfl, rfl⟩ rfl rfl ⟨Nat.le_of_ble_eq_true rfl, Nat.le_of_ble_eq_true rfl⟩ ⟨hk.1, hk.2⟩ (Nat.le_of_ble_eq_true rfl) (fun X' hX => KX4_thrown hX)) rfl rfl rfl rfl ⟨hk.1, hk.2⟩ rfl hF (fun x113 h112 hF => ?_)
          refine jj_iload (j := 1) (i := 6) (pc' := 295) dL_law_293 rfl rfl ?_
          refine jj_icmp_eq (tgt := 300) (pc' := 298) dL_law_295 rfl rfl (fun hc hF => ?_) (fun hc hF => ?_) hF
          · skip
            refine jj_iload (j := 1) (i := 6) (pc' := 302) dL_law_300 rfl rfl ?_
            refine jj_if_ne (tgt := 317) (pc' := 305) dL_law_302 rfl rfl (fun hc hF => ?_) (fun hc hF => ?_) hF
            · skip
              refine jj_goto (tgt := 2070) dL_law_317 rfl ?_
              refine jj_iinc (i := 5) (j := 7) (v := x5 + (6 : Int32)) (ls' := [(5, .int (x5 + (6 : Int32))), (7, .int x111), (6, .int x109), (0, .ref 1000000), (1, .ref a1), (2, .ref a2), (3, .ref a3), (4, .ref a4)]) (pc' := 2073) dL_law_2070 rfl rfl (Nat.le_of_ble_eq_true rfl) rfl rfl ?_
              refine jj_goto (tgt := 28) dL_law_2073 rfl ?_
              exact jj_pick [3, 4, 5, 6, 7, 0] rfl (ih (kc + 2) (ks + 12) a1 a2 a3 a4 (x5 + (6 : Int32)) h112 _ hF)
            · skip
              refine jj_aload_n (j := 5) (i := 3) (pc' := 306) dL_law_305 rfl rfl rfl ?_
              refine jj_iconst (v := (0 : Int32)) (pc' := 307) dL_law_306 rfl rfl ?_
              refine jj_ldL (pc' := 308) dL_law_307 rfl hF (fun l114 hF => ?_)
              refine jj_iload (j := 0) (i := 7) (pc' := 310) dL_law_308 rfl rfl ?_
              refine jj_i2l (pc' := 311) dL_law_310 rfl ?_
              refine jj_lcmp (pc' := 312) dL_law_311 rfl ?_
              refine jj_if_eq (tgt := 317) (pc' := 315) dL_law_312 rfl rfl (fun hc hF => ?_) (fun hc hF => ?_) hF
              · skip
                refine jj_goto (tgt := 2070) dL_law_317 rfl ?_
                refine jj_iinc (i := 5) (j := 7) (v := x5 + (6 : Int32)) (ls' := [(5, .int (x5 + (6 : Int32))), (7, .int x111), (6, .int x109), (0, .ref 1000000), (1, .ref a1), (2, .ref a2), (3, .ref a3), (4, .ref a4)]) (pc' := 2073) dL_law_2070 rfl rfl (Nat.le_of_ble_eq_true rfl) rfl rfl ?_
                refine jj_goto (tgt := 28) dL_law_2073 rfl ?_
                exact jj_pick [3, 4, 5, 6, 7, 0] rfl (ih (kc + 2) (ks + 12) a1 a2 a3 a4 (x5 + (6 : Int32)) h112 _ hF)
              · skip
                refine jj_iconst (v := (0 : Int32)) (pc' := 316) dL_law_315 rfl rfl ?_
                exact jj_retI (ty := .boolean) rfl rfl dL_law_316 ⟨hk.1, hk.2⟩ hF
          · skip
            refine jj_iconst (v := (0 : Int32)) (pc' := 299) dL_law_298 rfl rfl ?_
            exact jj_retI (ty := .boolean) rfl rfl dL_law_299 ⟨hk.1, hk.2⟩ hF
        | 2, hb, ht =>
          cases hb; cases ht
          refine jj_aload_n (j := 1) (i := 1) (pc' := 321) dL_law_320 rfl rfl rfl ?_
          refine jj_aload_n (j := 0) (i := 0) (pc' := 322) dL_law_321 rfl rfl rfl ?_
          refine jj_iload (j := 5) (i := 5) (pc' := 324) dL_law_322 rfl rfl ?_
          refine jj_iconst (v := (1 : Int32)) (pc' := 325) dL_law_324 rfl rfl ?_
          refine jj_iadd (pc' := 326) dL_law_325 rfl ?_
          obtain ⟨hi, hF⟩ := jf_s_inv hF
          refine jj_sld (L := L) (xs := xs) (pc' := 327) dL_law_326 rfl hi rfl ?_
          refine jj_aload_n (j := 0) (i := 0) (pc' := 328) dL_law_327 rfl rfl rfl ?_
          refine jj_iload (j := 5) (i := 5) (pc' := 330) dL_law_328 rfl rfl ?_
          refine jj_iconst (v := (2 : Int32)) (pc' := 331) dL_law_330 rfl rfl ?_
          refine jj_iadd (pc' := 332) dL_law_331 rfl ?_
          obtain ⟨hi, hF⟩ := jf_s_inv hF
          refine jj_sld (L := L) (xs := xs) (pc' := 333) dL_law_332 rfl hi rfl ?_
          refine jj_aload_n (j := 3) (i := 3) (pc' := 334) dL_law_333 rfl rfl rfl ?_
          obtain ⟨hk, hF⟩ := jf_k_inv hF
          refine jj_cI (N := M_L_set) (kc' := (kc + 2)) (ks' := (ks + 12)) (pc' := 337) (jg_H (N := M_L_set) (rest := []) (as := [.ref a1, .int (xs (x5 + ((1 : Int32))).toNatClampNeg), .int (xs (x5 + ((2 : Int32))).toNatClampNeg), .ref a3]) cf_L_119 (by decide) dL_law_334 rfl rfl ⟨Nat.le_of_ble_eq_true rfl, Nat.le_of_ble_eq_true rfl⟩ ⟨hk.1, hk.2⟩ (Nat.le_of_ble_eq_true rfl) (fun X' hX => KL_set hX)) rfl rfl rfl rfl ⟨hk.1, hk.2⟩ rfl hF (fun x116 h115 hF => ?_)
          refine jj_istore (i := 6) (ls' := [(6, .int x116), (0, .ref 1000000), (1, .ref a1), (2, .ref a2), (3, .ref a3), (4, .ref a4), (5, .int x5)]) (pc' := 339) dL_law_337 (Nat.le_of_ble_eq_true rfl) rfl rfl ?_
          refine jj_aload_n (j := 3) (i := 2) (pc' := 340) dL_law_339 rfl rfl rfl ?_
          refine jj_aload_n (j := 1) (i := 0) (pc' := 341) dL_law_340 rfl rfl rfl ?_
          refine jj_iload (j := 6) (i := 5) (pc' := 343) dL_law_341 rfl rfl ?_
          refine jj_iconst (v := (1 : Int32)) (pc' := 344) dL_law_343 rfl rfl ?_
          refine jj_iadd (pc' := 345) dL_law_344 rfl ?_
          obtain ⟨hi, hF⟩ := jf_s_inv hF
          refine jj_sld (L := L) (xs := xs) (pc' := 346) dL_law_345 rfl hi rfl ?_
          refine jj_aload_n (j := 1) (i := 0) (pc' := 347) dL_law_346 rfl rfl rfl ?_
          refine jj_iload (j := 6) (i := 5) (pc' := 349) dL_law_347 rfl rfl ?_
          refine jj_iconst (v := (2 : Int32)) (pc' := 350) dL_law_349 rfl rfl ?_
          refine jj_iadd (pc' := 351) dL_law_350 rfl ?_
          obtain ⟨hi, hF⟩ := jf_s_inv hF
          refine jj_sld (L := L) (xs := xs) (pc' := 352) dL_law_351 rfl hi rfl ?_
          refine jj_cI (N := M_X4_set) (kc' := (kc + 2)) (ks' := (ks + 12)) (pc' := 355) (jg_V (N := M_X4_set) (ci := 4) (rest := []) (as := [.int (xs (x5 + ((1 : Int32))).toNatClampNeg), .int (xs (x5 + ((2 : Int32))).toNatClampNeg)]) cf_L_121 dL_law_352 ⟨rfl, rfl⟩ rfl rfl ⟨Nat.le_of_ble_eq_true rfl, Nat.le_of_ble_eq_true rfl⟩ ⟨hk.1, hk.2⟩ (Nat.le_of_ble_eq_true rfl) (fun X' hX => KX4_set hX)) rfl rfl rfl rfl ⟨hk.1, hk.2⟩ rfl hF (fun x118 h117 hF => ?_)
          refine jj_istore (i := 7) (ls' := [(7, .int x118), (6, .int x116), (0, .ref 1000000), (1, .ref a1), (2, .ref a2), (3, .ref a3), (4, .ref a4), (5, .int x5)]) (pc' := 357) dL_law_355 (Nat.le_of_ble_eq_true rfl) rfl rfl ?_
          refine jj_aload_n (j := 4) (i := 2) (pc' := 358) dL_law_357 rfl rfl rfl ?_
          refine jj_cI (N := M_X4_thrown) (kc' := (kc + 2)) (ks' := (ks + 12)) (pc' := 361) (jg_V (N := M_X4_thrown) (ci := 4) (rest := []) (as := []) cf_L_113 dL_law_358 ⟨rfl, rfl⟩ rfl rfl ⟨Nat.le_of_ble_eq_true rfl, Nat.le_of_ble_eq_true rfl⟩ ⟨hk.1, hk.2⟩ (Nat.le_of_ble_eq_true rfl) (fun X' hX => KX4_thrown hX)) rfl rfl rfl rfl ⟨hk.1, hk.2⟩ rfl hF (fun x120 h119 hF => ?_)
          refine jj_iload (j := 1) (i := 6) (pc' := 363) dL_law_361 rfl rfl ?_
          refine jj_icmp_eq (tgt := 368) (pc' := 366) dL_law_363 rfl rfl (fun hc hF => ?_) (fun hc hF => ?_) hF
          · skip
            refine jj_iload (j := 1) (i := 6) (pc' := 370) dL_law_368 rfl rfl ?_
            refine jj_if_ne (tgt := 385) (pc' := 373) dL_law_370 rfl rfl (fun hc hF => ?_) (fun hc hF => ?_) hF
            · skip
              refine jj_goto (tgt := 2070) dL_law_385 rfl ?_
              refine jj_iinc (i := 5) (j := 7) (v := x5 + (6 : Int32)) (ls' := [(5, .int (x5 + (6 : Int32))), (7, .int x118), (6, .int x116), (0, .ref 1000000), (1, .ref a1), (2, .ref a2), (3, .ref a3), (4, .ref a4)]) (pc' := 2073) dL_law_2070 rfl rfl (Nat.le_of_ble_eq_true rfl) rfl rfl ?_
              refine jj_goto (tgt := 28) dL_law_2073 rfl ?_
              exact jj_pick [3, 4, 5, 6, 7, 0] rfl (ih (kc + 2) (ks + 12) a1 a2 a3 a4 (x5 + (6 : Int32)) h119 _ hF)
            · skip
              refine jj_aload_n (j := 5) (i := 3) (pc' := 374) dL_law_373 rfl rfl rfl ?_
              refine jj_iconst (v := (0 : Int32)) (pc' := 375) dL_law_374 rfl rfl ?_
              refine jj_ldL (pc' := 376) dL_law_375 rfl hF (fun l121 hF => ?_)
              refine jj_iload (j := 0) (i := 7) (pc' := 378) dL_law_376 rfl rfl ?_
              refine jj_i2l (pc' := 379) dL_law_378 rfl ?_
              refine jj_lcmp (pc' := 380) dL_law_379 rfl ?_
              refine jj_if_eq (tgt := 385) (pc' := 383) dL_law_380 rfl rfl (fun hc hF => ?_) (fun hc hF => ?_) hF
              · skip
                refine jj_goto (tgt := 2070) dL_law_385 rfl ?_
                refine jj_iinc (i := 5) (j := 7) (v := x5 + (6 : Int32)) (ls' := [(5, .int (x5 + (6 : Int32))), (7, .int x118), (6, .int x116), (0, .ref 1000000), (1, .ref a1), (2, .ref a2), (3, .ref a3), (4, .ref a4)]) (pc' := 2073) dL_law_2070 rfl rfl (Nat.le_of_ble_eq_true rfl) rfl rfl ?_
                refine jj_goto (tgt := 28) dL_law_2073 rfl ?_
                exact jj_pick [3, 4, 5, 6, 7, 0] rfl (ih (kc + 2) (ks + 12) a1 a2 a3 a4 (x5 + (6 : Int32)) h119 _ hF)
              · skip
                refine jj_iconst (v := (0 : Int32)) (pc' := 384) dL_law_383 rfl rfl ?_
                exact jj_retI (ty := .boolean) rfl rfl dL_law_384 ⟨hk.1, hk.2⟩ hF
          · skip
            refine jj_iconst (v := (0 : Int32)) (pc' := 367) dL_law_366 rfl rfl ?_
            exact jj_retI (ty := .boolean) rfl rfl dL_law_367 ⟨hk.1, hk.2⟩ hF
        | 3, hb, ht =>
          cases hb; cases ht
          refine jj_aload_n (j := 1) (i := 1) (pc' := 389) dL_law_388 rfl rfl rfl ?_
          refine jj_aload_n (j := 0) (i := 0) (pc' := 390) dL_law_389 rfl rfl rfl ?_
          refine jj_iload (j := 5) (i := 5) (pc' := 392) dL_law_390 rfl rfl ?_
          refine jj_iconst (v := (1 : Int32)) (pc' := 393) dL_law_392 rfl rfl ?_
          refine jj_iadd (pc' := 394) dL_law_393 rfl ?_
          obtain ⟨hi, hF⟩ := jf_s_inv hF
          refine jj_sld (L := L) (xs := xs) (pc' := 395) dL_law_394 rfl hi rfl ?_
          refine jj_aload_n (j := 0) (i := 0) (pc' := 396) dL_law_395 rfl rfl rfl ?_
          refine jj_iload (j := 5) (i := 5) (pc' := 398) dL_law_396 rfl rfl ?_
          refine jj_iconst (v := (2 : Int32)) (pc' := 399) dL_law_398 rfl rfl ?_
          refine jj_iadd (pc' := 400) dL_law_399 rfl ?_
          obtain ⟨hi, hF⟩ := jf_s_inv hF
          refine jj_sld (L := L) (xs := xs) (pc' := 401) dL_law_400 rfl hi rfl ?_
          refine jj_aload_n (j := 0) (i := 0) (pc' := 402) dL_law_401 rfl rfl rfl ?_
          refine jj_iload (j := 5) (i := 5) (pc' := 404) dL_law_402 rfl rfl ?_
          refine jj_iconst (v := (3 : Int32)) (pc' := 405) dL_law_404 rfl rfl ?_
          refine jj_iadd (pc' := 406) dL_law_405 rfl ?_
          obtain ⟨hi, hF⟩ := jf_s_inv hF
          refine jj_sld (L := L) (xs := xs) (pc' := 407) dL_law_406 rfl hi rfl ?_
          refine jj_aload_n (j := 0) (i := 0) (pc' := 408) dL_law_407 rfl rfl rfl ?_
          refine jj_iload (j := 5) (i := 5) (pc' := 410) dL_law_408 rfl rfl ?_
          refine jj_iconst (v := (4 : Int32)) (pc' := 411) dL_law_410 rfl rfl ?_
          refine jj_iadd (pc' := 412) dL_law_411 rfl ?_
          obtain ⟨hi, hF⟩ := jf_s_inv hF
          refine jj_sld (L := L) (xs := xs) (pc' := 413) dL_law_412 rfl hi rfl ?_
          refine jj_aload_n (j := 3) (i := 3) (pc' := 414) dL_law_413 rfl rfl rfl ?_
          obtain ⟨hk, hF⟩ := jf_k_inv hF
          refine jj_cI (N := M_L_show) (kc' := (kc + 5)) (ks' := (ks + 30)) (pc' := 417) (jg_H (N := M_L_show) (rest := []) (as := [.ref a1, .int (xs (x5 + ((1 : Int32))).toNatClampNeg), .int (xs (x5 + ((2 : Int32))).toNatClampNeg), .int (xs (x5 + ((3 : Int32))).toNatClampNeg), .int (xs (x5 + ((4 : Int32))).toNatClampNeg), .ref a3]) cf_L_122 (by decide) dL_law_414 rfl rfl ⟨Nat.le_of_ble_eq_true rfl, Nat.le_of_ble_eq_true rfl⟩ ⟨hk.1, hk.2⟩ (Nat.le_of_ble_eq_true rfl) (fun X' hX => KL_show hX)) rfl rfl rfl rfl ⟨hk.1, hk.2⟩ rfl hF (fun x123 h122 hF => ?_)
          refine jj_istore (i := 6) (ls' := [(6, .int x123), (0, .ref 1000000), (1, .ref a1), (2, .ref a2), (3, .ref a3), (4, .ref a4), (5, .int x5)]) (pc' := 419) dL_law_417 (Nat.le_of_ble_eq_true rfl) rfl rfl ?_
          refine jj_aload_n (j := 3) (i := 2) (pc' := 420) dL_law_419 rfl rfl rfl ?_
          refine jj_aload_n (j := 1) (i := 0) (pc' := 421) dL_law_420 rfl rfl rfl ?_
          refine jj_iload (j := 6) (i := 5) (pc' := 423) dL_law_421 rfl rfl ?_
          refine jj_iconst (v := (1 : Int32)) (pc' := 424) dL_law_423 rfl rfl ?_
          refine jj_iadd (pc' := 425) dL_law_424 rfl ?_
          obtain ⟨hi, hF⟩ := jf_s_inv hF
          refine jj_sld (L := L) (xs := xs) (pc' := 426) dL_law_425 rfl hi rfl ?_
          refine jj_aload_n (j := 1) (i := 0) (pc' := 427) dL_law_426 rfl rfl rfl ?_
          refine jj_iload (j := 6) (i := 5) (pc' := 429) dL_law_427 rfl rfl ?_
          refine jj_iconst (v := (2 : Int32)) (pc' := 430) dL_law_429 rfl rfl ?_
          refine jj_iadd (pc' := 431) dL_law_430 rfl ?_
          obtain ⟨hi, hF⟩ := jf_s_inv hF
          refine jj_sld (L := L) (xs := xs) (pc' := 432) dL_law_431 rfl hi rfl ?_
          refine jj_aload_n (j := 1) (i := 0) (pc' := 433) dL_law_432 rfl rfl rfl ?_
          refine jj_iload (j := 6) (i := 5) (pc' := 435) dL_law_433 rfl rfl ?_
          refine jj_iconst (v := (3 : Int32)) (pc' := 436) dL_law_435 rfl rfl ?_
          refine jj_iadd (pc' := 437) dL_law_436 rfl ?_
          obtain ⟨hi, hF⟩ := jf_s_inv hF
          refine jj_sld (L := L) (xs := xs) (pc' := 438) dL_law_437 rfl hi rfl ?_
          refine jj_aload_n (j := 1) (i := 0) (pc' := 439) dL_law_438 rfl rfl rfl ?_
          refine jj_iload (j := 6) (i := 5) (pc' := 441) dL_law_439 rfl rfl ?_
          refine jj_iconst (v := (4 : Int32)) (pc' := 442) dL_law_441 rfl rfl ?_
          refine jj_iadd (pc' := 443) dL_law_442 rfl ?_
          obtain ⟨hi, hF⟩ := jf_s_inv hF
          refine jj_sld (L := L) (xs := xs) (pc' := 444) dL_law_443 rfl hi rfl ?_
          refine jj_cI (N := M_X4_show) (kc' := (kc + 5)) (ks' := (ks + 30)) (pc' := 447) (jg_V (N := M_X4_show) (ci := 4) (rest := []) (as := [.int (xs (x5 + ((1 : Int32))).toNatClampNeg), .int (xs (x5 + ((2 : Int32))).toNatClampNeg), .int (xs (x5 + ((3 : Int32))).toNatClampNeg), .int (xs (x5 + ((4 : Int32))).toNatClampNeg)]) cf_L_125 dL_law_444 ⟨rfl, rfl⟩ rfl rfl ⟨Nat.le_of_ble_eq_true rfl, Nat.le_of_ble_eq_true rfl⟩ ⟨hk.1, hk.2⟩ (Nat.le_of_ble_eq_true rfl) (fun X' hX => KX4_show hX)) rfl rfl rfl rfl ⟨hk.1, hk.2⟩ rfl hF (fun x125 h124 hF => ?_)
          refine jj_istore (i := 7) (ls' := [(7, .int x125), (6, .int x123), (0, .ref 1000000), (1, .ref a1), (2, .ref a2), (3, .ref a3), (4, .ref a4), (5, .int x5)]) (pc' := 449) dL_law_447 (Nat.le_of_ble_eq_true rfl) rfl rfl ?_
          refine jj_aload_n (j := 4) (i := 2) (pc' := 450) dL_law_449 rfl rfl rfl ?_
          refine jj_cI (N := M_X4_thrown) (kc' := (kc + 5)) (ks' := (ks + 30)) (pc' := 453) (jg_V (N := M_X4_thrown) (ci := 4) (rest := []) (as := []) cf_L_113 dL_law_450 ⟨rfl, rfl⟩ rfl rfl ⟨Nat.le_of_ble_eq_true rfl, Nat.le_of_ble_eq_true rfl⟩ ⟨hk.1, hk.2⟩ (Nat.le_of_ble_eq_true rfl) (fun X' hX => KX4_thrown hX)) rfl rfl rfl rfl ⟨hk.1, hk.2⟩ rfl hF (fun x127 h126 hF => ?_)
          refine jj_iload (j := 1) (i := 6) (pc' := 455) dL_law_453 rfl rfl ?_
          refine jj_icmp_eq (tgt := 460) (pc' := 458) dL_law_455 rfl rfl (fun hc hF => ?_) (fun hc hF => ?_) hF
          · skip
            refine jj_iload (j := 1) (i := 6) (pc' := 462) dL_law_460 rfl rfl ?_
            refine jj_if_ne (tgt := 477) (pc' := 465) dL_law_462 rfl rfl (fun hc hF => ?_) (fun hc hF => ?_) hF
            · skip
              refine jj_goto (tgt := 2070) dL_law_477 rfl ?_
              refine jj_iinc (i := 5) (j := 7) (v := x5 + (6 : Int32)) (ls' := [(5, .int (x5 + (6 : Int32))), (7, .int x125), (6, .int x123), (0, .ref 1000000), (1, .ref a1), (2, .ref a2), (3, .ref a3), (4, .ref a4)]) (pc' := 2073) dL_law_2070 rfl rfl (Nat.le_of_ble_eq_true rfl) rfl rfl ?_
              refine jj_goto (tgt := 28) dL_law_2073 rfl ?_
              exact jj_pick [3, 4, 5, 6, 7, 0] rfl (ih (kc + 5) (ks + 30) a1 a2 a3 a4 (x5 + (6 : Int32)) h126 _ hF)
            · skip
              refine jj_aload_n (j := 5) (i := 3) (pc' := 466) dL_law_465 rfl rfl rfl ?_
              refine jj_iconst (v := (0 : Int32)) (pc' := 467) dL_law_466 rfl rfl ?_
              refine jj_ldL (pc' := 468) dL_law_467 rfl hF (fun l128 hF => ?_)
              refine jj_iload (j := 0) (i := 7) (pc' := 470) dL_law_468 rfl rfl ?_
              refine jj_i2l (pc' := 471) dL_law_470 rfl ?_
              refine jj_lcmp (pc' := 472) dL_law_471 rfl ?_
              refine jj_if_eq (tgt := 477) (pc' := 475) dL_law_472 rfl rfl (fun hc hF => ?_) (fun hc hF => ?_) hF
              · skip
                refine jj_goto (tgt := 2070) dL_law_477 rfl ?_
                refine jj_iinc (i := 5) (j := 7) (v := x5 + (6 : Int32)) (ls' := [(5, .int (x5 + (6 : Int32))), (7, .int x125), (6, .int x123), (0, .ref 1000000), (1, .ref a1), (2, .ref a2), (3, .ref a3), (4, .ref a4)]) (pc' := 2073) dL_law_2070 rfl rfl (Nat.le_of_ble_eq_true rfl) rfl rfl ?_
                refine jj_goto (tgt := 28) dL_law_2073 rfl ?_
                exact jj_pick [3, 4, 5, 6, 7, 0] rfl (ih (kc + 5) (ks + 30) a1 a2 a3 a4 (x5 + (6 : Int32)) h126 _ hF)
              · skip
                refine jj_iconst (v := (0 : Int32)) (pc' := 476) dL_law_475 rfl rfl ?_
                exact jj_retI (ty := .boolean) rfl rfl dL_law_476 ⟨hk.1, hk.2⟩ hF
          · skip
            refine jj_iconst (v := (0 : Int32)) (pc' := 459) dL_law_458 rfl rfl ?_
            exact jj_retI (ty := .boolean) rfl rfl dL_law_459 ⟨hk.1, hk.2⟩ hF
        | 4, hb, ht =>
          cases hb; cases ht
          refine jj_aload_n (j := 1) (i := 1) (pc' := 481) dL_law_480 rfl rfl rfl ?_
          refine jj_aload_n (j := 0) (i := 0) (pc' := 482) dL_law_481 rfl rfl rfl ?_
          refine jj_iload (j := 5) (i := 5) (pc' := 484) dL_law_482 rfl rfl ?_
          refine jj_iconst (v := (1 : Int32)) (pc' := 485) dL_law_484 rfl rfl ?_
          refine jj_iadd (pc' := 486) dL_law_485 rfl ?_
          obtain ⟨hi, hF⟩ := jf_s_inv hF
          refine jj_sld (L := L) (xs := xs) (pc' := 487) dL_law_486 rfl hi rfl ?_
          refine jj_aload_n (j := 3) (i := 3) (pc' := 488) dL_law_487 rfl rfl rfl ?_
          obtain ⟨hk, hF⟩ := jf_k_inv hF
          refine jj_cI (N := M_L_callOff) (kc' := (kc + 1)) (ks' := (ks + 6)) (pc' := 491) (jg_H (N := M_L_callOff) (rest := []) (as := [.ref a1, .int (xs (x5 + ((1 : Int32))).toNatClampNeg), .ref a3]) cf_L_126 (by decide) dL_law_488 rfl rfl ⟨Nat.le_of_ble_eq_true rfl, Nat.le_of_ble_eq_true rfl⟩ ⟨hk.1, hk.2⟩ (Nat.le_of_ble_eq_true rfl) (fun X' hX => KL_callOff hX)) rfl rfl rfl rfl ⟨hk.1, hk.2⟩ rfl hF (fun x130 h129 hF => ?_)
          refine jj_istore (i := 6) (ls' := [(6, .int x130), (0, .ref 1000000), (1, .ref a1), (2, .ref a2), (3, .ref a3), (4, .ref a4), (5, .int x5)]) (pc' := 493) dL_law_491 (Nat.le_of_ble_eq_true rfl) rfl rfl ?_
          refine jj_aload_n (j := 3) (i := 2) (pc' := 494) dL_law_493 rfl rfl rfl ?_
          refine jj_aload_n (j := 1) (i := 0) (pc' := 495) dL_law_494 rfl rfl rfl ?_
          refine jj_iload (j := 6) (i := 5) (pc' := 497) dL_law_495 rfl rfl ?_
          refine jj_iconst (v := (1 : Int32)) (pc' := 498) dL_law_497 rfl rfl ?_
          refine jj_iadd (pc' := 499) dL_law_498 rfl ?_
          obtain ⟨hi, hF⟩ := jf_s_inv hF
          refine jj_sld (L := L) (xs := xs) (pc' := 500) dL_law_499 rfl hi rfl ?_
          refine jj_cI (N := M_X4_callOff) (kc' := (kc + 1)) (ks' := (ks + 6)) (pc' := 503) (jg_V (N := M_X4_callOff) (ci := 4) (rest := []) (as := [.int (xs (x5 + ((1 : Int32))).toNatClampNeg)]) cf_L_129 dL_law_500 ⟨rfl, rfl⟩ rfl rfl ⟨Nat.le_of_ble_eq_true rfl, Nat.le_of_ble_eq_true rfl⟩ ⟨hk.1, hk.2⟩ (Nat.le_of_ble_eq_true rfl) (fun X' hX => KX4_callOff hX)) rfl rfl rfl rfl ⟨hk.1, hk.2⟩ rfl hF (fun x132 h131 hF => ?_)
          refine jj_istore (i := 7) (ls' := [(7, .int x132), (6, .int x130), (0, .ref 1000000), (1, .ref a1), (2, .ref a2), (3, .ref a3), (4, .ref a4), (5, .int x5)]) (pc' := 505) dL_law_503 (Nat.le_of_ble_eq_true rfl) rfl rfl ?_
          refine jj_aload_n (j := 4) (i := 2) (pc' := 506) dL_law_505 rfl rfl rfl ?_
          refine jj_cI (N := M_X4_thrown) (kc' := (kc + 1)) (ks' := (ks + 6)) (pc' := 509) (jg_V (N := M_X4_thrown) (ci := 4) (rest := []) (as := []) cf_L_113 dL_law_506 ⟨rfl, rfl⟩ rfl rfl ⟨Nat.le_of_ble_eq_true rfl, Nat.le_of_ble_eq_true rfl⟩ ⟨hk.1, hk.2⟩ (Nat.le_of_ble_eq_true rfl) (fun X' hX => KX4_thrown hX)) rfl rfl rfl rfl ⟨hk.1, hk.2⟩ rfl hF (fun x134 h133 hF => ?_)
          refine jj_iload (j := 1) (i := 6) (pc' := 511) dL_law_509 rfl rfl ?_
          refine jj_icmp_eq (tgt := 516) (pc' := 514) dL_law_511 rfl rfl (fun hc hF => ?_) (fun hc hF => ?_) hF
          · skip
            refine jj_iload (j := 1) (i := 6) (pc' := 518) dL_law_516 rfl rfl ?_
            refine jj_if_ne (tgt := 533) (pc' := 521) dL_law_518 rfl rfl (fun hc hF => ?_) (fun hc hF => ?_) hF
            · skip
              refine jj_goto (tgt := 2070) dL_law_533 rfl ?_
              refine jj_iinc (i := 5) (j := 7) (v := x5 + (6 : Int32)) (ls' := [(5, .int (x5 + (6 : Int32))), (7, .int x132), (6, .int x130), (0, .ref 1000000), (1, .ref a1), (2, .ref a2), (3, .ref a3), (4, .ref a4)]) (pc' := 2073) dL_law_2070 rfl rfl (Nat.le_of_ble_eq_true rfl) rfl rfl ?_
              refine jj_goto (tgt := 28) dL_law_2073 rfl ?_
              exact jj_pick [3, 4, 5, 6, 7, 0] rfl (ih (kc + 1) (ks + 6) a1 a2 a3 a4 (x5 + (6 : Int32)) h133 _ hF)
            · skip
              refine jj_aload_n (j := 5) (i := 3) (pc' := 522) dL_law_521 rfl rfl rfl ?_
              refine jj_iconst (v := (0 : Int32)) (pc' := 523) dL_law_522 rfl rfl ?_
              refine jj_ldL (pc' := 524) dL_law_523 rfl hF (fun l135 hF => ?_)
              refine jj_iload (j := 0) (i := 7) (pc' := 526) dL_law_524 rfl rfl ?_
              refine jj_i2l (pc' := 527) dL_law_526 rfl ?_
              refine jj_lcmp (pc' := 528) dL_law_527 rfl ?_
              refine jj_if_eq (tgt := 533) (pc' := 531) dL_law_528 rfl rfl (fun hc hF => ?_) (fun hc hF => ?_) hF
              · skip
                refine jj_goto (tgt := 2070) dL_law_533 rfl ?_
                refine jj_iinc (i := 5) (j := 7) (v := x5 + (6 : Int32)) (ls' := [(5, .int (x5 + (6 : Int32))), (7, .int x132), (6, .int x130), (0, .ref 1000000), (1, .ref a1), (2, .ref a2), (3, .ref a3), (4, .ref a4)]) (pc' := 2073) dL_law_2070 rfl rfl (Nat.le_of_ble_eq_true rfl) rfl rfl ?_
                refine jj_goto (tgt := 28) dL_law_2073 rfl ?_
                exact jj_pick [3, 4, 5, 6, 7, 0] rfl (ih (kc + 1) (ks + 6) a1 a2 a3 a4 (x5 + (6 : Int32)) h133 _ hF)
              · skip
                refine jj_iconst (v := (0 : Int32)) (pc' := 532) dL_law_531 rfl rfl ?_
                exact jj_retI (ty := .boolean) rfl rfl dL_law_532 ⟨hk.1, hk.2⟩ hF
          · skip
            refine jj_iconst (v := (0 : Int32)) (pc' := 515) dL_law_514 rfl rfl ?_
            exact jj_retI (ty := .boolean) rfl rfl dL_law_515 ⟨hk.1, hk.2⟩ hF
        | 5, hb, ht =>
          cases hb; cases ht
          refine jj_aload_n (j := 1) (i := 1) (pc' := 537) dL_law_536 rfl rfl rfl ?_
          refine jj_aload_n (j := 0) (i := 0) (pc' := 538) dL_law_537 rfl rfl rfl ?_
          refine jj_iload (j := 5) (i := 5) (pc' := 540) dL_law_538 rfl rfl ?_
          refine jj_iconst (v := (1 : Int32)) (pc' := 541) dL_law_540 rfl rfl ?_
          refine jj_iadd (pc' := 542) dL_law_541 rfl ?_
          obtain ⟨hi, hF⟩ := jf_s_inv hF
          refine jj_sld (L := L) (xs := xs) (pc' := 543) dL_law_542 rfl hi rfl ?_
          refine jj_aload_n (j := 0) (i := 0) (pc' := 544) dL_law_543 rfl rfl rfl ?_
          refine jj_iload (j := 5) (i := 5) (pc' := 546) dL_law_544 rfl rfl ?_
          refine jj_iconst (v := (2 : Int32)) (pc' := 547) dL_law_546 rfl rfl ?_
          refine jj_iadd (pc' := 548) dL_law_547 rfl ?_
          obtain ⟨hi, hF⟩ := jf_s_inv hF
          refine jj_sld (L := L) (xs := xs) (pc' := 549) dL_law_548 rfl hi rfl ?_
          refine jj_aload_n (j := 3) (i := 3) (pc' := 550) dL_law_549 rfl rfl rfl ?_
          obtain ⟨hk, hF⟩ := jf_k_inv hF
          refine jj_cI (N := M_L_move) (kc' := (kc + 3)) (ks' := (ks + 18)) (pc' := 553) (jg_H (N := M_L_move) (rest := []) (as := [.ref a1, .int (xs (x5 + ((1 : Int32))).toNatClampNeg), .int (xs (x5 + ((2 : Int32))).toNatClampNeg), .ref a3]) cf_L_130 (by decide) dL_law_550 rfl rfl ⟨Nat.le_of_ble_eq_true rfl, Nat.le_of_ble_eq_true rfl⟩ ⟨hk.1, hk.2⟩ (Nat.le_of_ble_eq_true rfl) (fun X' hX => KL_move hX)) rfl rfl rfl rfl ⟨hk.1, hk.2⟩ rfl hF (fun x137 h136 hF => ?_)
          refine jj_istore (i := 6) (ls' := [(6, .int x137), (0, .ref 1000000), (1, .ref a1), (2, .ref a2), (3, .ref a3), (4, .ref a4), (5, .int x5)]) (pc' := 555) dL_law_553 (Nat.le_of_ble_eq_true rfl) rfl rfl ?_
          refine jj_aload_n (j := 3) (i := 2) (pc' := 556) dL_law_555 rfl rfl rfl ?_
          refine jj_aload_n (j := 1) (i := 0) (pc' := 557) dL_law_556 rfl rfl rfl ?_
          refine jj_iload (j := 6) (i := 5) (pc' := 559) dL_law_557 rfl rfl ?_
          refine jj_iconst (v := (1 : Int32)) (pc' := 560) dL_law_559 rfl rfl ?_
          refine jj_iadd (pc' := 561) dL_law_560 rfl ?_
          obtain ⟨hi, hF⟩ := jf_s_inv hF
          refine jj_sld (L := L) (xs := xs) (pc' := 562) dL_law_561 rfl hi rfl ?_
          refine jj_aload_n (j := 1) (i := 0) (pc' := 563) dL_law_562 rfl rfl rfl ?_
          refine jj_iload (j := 6) (i := 5) (pc' := 565) dL_law_563 rfl rfl ?_
          refine jj_iconst (v := (2 : Int32)) (pc' := 566) dL_law_565 rfl rfl ?_
          refine jj_iadd (pc' := 567) dL_law_566 rfl ?_
          obtain ⟨hi, hF⟩ := jf_s_inv hF
          refine jj_sld (L := L) (xs := xs) (pc' := 568) dL_law_567 rfl hi rfl ?_
          refine jj_cI (N := M_X4_move) (kc' := (kc + 3)) (ks' := (ks + 18)) (pc' := 571) (jg_V (N := M_X4_move) (ci := 4) (rest := []) (as := [.int (xs (x5 + ((1 : Int32))).toNatClampNeg), .int (xs (x5 + ((2 : Int32))).toNatClampNeg)]) cf_L_132 dL_law_568 ⟨rfl, rfl⟩ rfl rfl ⟨Nat.le_of_ble_eq_true rfl, Nat.le_of_ble_eq_true rfl⟩ ⟨hk.1, hk.2⟩ (Nat.le_of_ble_eq_true rfl) (fun X' hX => KX4_move hX)) rfl rfl rfl rfl ⟨hk.1, hk.2⟩ rfl hF (fun x139 h138 hF => ?_)
          refine jj_istore (i := 7) (ls' := [(7, .int x139), (6, .int x137), (0, .ref 1000000), (1, .ref a1), (2, .ref a2), (3, .ref a3), (4, .ref a4), (5, .int x5)]) (pc' := 573) dL_law_571 (Nat.le_of_ble_eq_true rfl) rfl rfl ?_
          refine jj_aload_n (j := 4) (i := 2) (pc' := 574) dL_law_573 rfl rfl rfl ?_
          refine jj_cI (N := M_X4_thrown) (kc' := (kc + 3)) (ks' := (ks + 18)) (pc' := 577) (jg_V (N := M_X4_thrown) (ci := 4) (rest := []) (as := []) cf_L_113 dL_law_574 ⟨rfl, rfl⟩ rfl rfl ⟨Nat.le_of_ble_eq_true rfl, Nat.le_of_ble_eq_true rfl⟩ ⟨hk.1, hk.2⟩ (Nat.le_of_ble_eq_true rfl) (fun X' hX => KX4_thrown hX)) rfl rfl rfl rfl ⟨hk.1, hk.2⟩ rfl hF (fun x141 h140 hF => ?_)
          refine jj_iload (j := 1) (i := 6) (pc' := 579) dL_law_577 rfl rfl ?_
          refine jj_icmp_eq (tgt := 584) (pc' := 582) dL_law_579 rfl rfl (fun hc hF => ?_) (fun hc hF => ?_) hF
          · skip
            refine jj_iload (j := 1) (i := 6) (pc' := 586) dL_law_584 rfl rfl ?_
            refine jj_if_ne (tgt := 601) (pc' := 589) dL_law_586 rfl rfl (fun hc hF => ?_) (fun hc hF => ?_) hF
            · skip
              refine jj_goto (tgt := 2070) dL_law_601 rfl ?_
              refine jj_iinc (i := 5) (j := 7) (v := x5 + (6 : Int32)) (ls' := [(5, .int (x5 + (6 : Int32))), (7, .int x139), (6, .int x137), (0, .ref 1000000), (1, .ref a1), (2, .ref a2), (3, .ref a3), (4, .ref a4)]) (pc' := 2073) dL_law_2070 rfl rfl (Nat.le_of_ble_eq_true rfl) rfl rfl ?_
              refine jj_goto (tgt := 28) dL_law_2073 rfl ?_
              exact jj_pick [3, 4, 5, 6, 7, 0] rfl (ih (kc + 3) (ks + 18) a1 a2 a3 a4 (x5 + (6 : Int32)) h140 _ hF)
            · skip
              refine jj_aload_n (j := 5) (i := 3) (pc' := 590) dL_law_589 rfl rfl rfl ?_
              refine jj_iconst (v := (0 : Int32)) (pc' := 591) dL_law_590 rfl rfl ?_
              refine jj_ldL (pc' := 592) dL_law_591 rfl hF (fun l142 hF => ?_)
              refine jj_iload (j := 0) (i := 7) (pc' := 594) dL_law_592 rfl rfl ?_
              refine jj_i2l (pc' := 595) dL_law_594 rfl ?_
              refine jj_lcmp (pc' := 596) dL_law_595 rfl ?_
              refine jj_if_eq (tgt := 601) (pc' := 599) dL_law_596 rfl rfl (fun hc hF => ?_) (fun hc hF => ?_) hF
              · skip
                refine jj_goto (tgt := 2070) dL_law_601 rfl ?_
                refine jj_iinc (i := 5) (j := 7) (v := x5 + (6 : Int32)) (ls' := [(5, .int (x5 + (6 : Int32))), (7, .int x139), (6, .int x137), (0, .ref 1000000), (1, .ref a1), (2, .ref a2), (3, .ref a3), (4, .ref a4)]) (pc' := 2073) dL_law_2070 rfl rfl (Nat.le_of_ble_eq_true rfl) rfl rfl ?_
                refine jj_goto (tgt := 28) dL_law_2073 rfl ?_
                exact jj_pick [3, 4, 5, 6, 7, 0] rfl (ih (kc + 3) (ks + 18) a1 a2 a3 a4 (x5 + (6 : Int32)) h140 _ hF)
              · skip
                refine jj_iconst (v := (0 : Int32)) (pc' := 600) dL_law_599 rfl rfl ?_
                exact jj_retI (ty := .boolean) rfl rfl dL_law_600 ⟨hk.1, hk.2⟩ hF
          · skip
            refine jj_iconst (v := (0 : Int32)) (pc' := 583) dL_law_582 rfl rfl ?_
            exact jj_retI (ty := .boolean) rfl rfl dL_law_583 ⟨hk.1, hk.2⟩ hF
        | 6, hb, ht =>
          cases hb; cases ht
          refine jj_aload_n (j := 1) (i := 1) (pc' := 605) dL_law_604 rfl rfl rfl ?_
          refine jj_aload_n (j := 0) (i := 0) (pc' := 606) dL_law_605 rfl rfl rfl ?_
          refine jj_iload (j := 5) (i := 5) (pc' := 608) dL_law_606 rfl rfl ?_
          refine jj_iconst (v := (1 : Int32)) (pc' := 609) dL_law_608 rfl rfl ?_
          refine jj_iadd (pc' := 610) dL_law_609 rfl ?_
          obtain ⟨hi, hF⟩ := jf_s_inv hF
          refine jj_sld (L := L) (xs := xs) (pc' := 611) dL_law_610 rfl hi rfl ?_
          refine jj_aload_n (j := 0) (i := 0) (pc' := 612) dL_law_611 rfl rfl rfl ?_
          refine jj_iload (j := 5) (i := 5) (pc' := 614) dL_law_612 rfl rfl ?_
          refine jj_iconst (v := (2 : Int32)) (pc' := 615) dL_law_614 rfl rfl ?_
          refine jj_iadd (pc' := 616) dL_law_615 rfl ?_
          obtain ⟨hi, hF⟩ := jf_s_inv hF
          refine jj_sld (L := L) (xs := xs) (pc' := 617) dL_law_616 rfl hi rfl ?_
          refine jj_aload_n (j := 0) (i := 0) (pc' := 618) dL_law_617 rfl rfl rfl ?_
          refine jj_iload (j := 5) (i := 5) (pc' := 620) dL_law_618 rfl rfl ?_
          refine jj_iconst (v := (3 : Int32)) (pc' := 621) dL_law_620 rfl rfl ?_
          refine jj_iadd (pc' := 622) dL_law_621 rfl ?_
          obtain ⟨hi, hF⟩ := jf_s_inv hF
          refine jj_sld (L := L) (xs := xs) (pc' := 623) dL_law_622 rfl hi rfl ?_
          refine jj_aload_n (j := 3) (i := 3) (pc' := 624) dL_law_623 rfl rfl rfl ?_
          obtain ⟨hk, hF⟩ := jf_k_inv hF
          refine jj_cI (N := M_L_guest) (kc' := (kc + 4)) (ks' := (ks + 24)) (pc' := 627) (jg_H (N := M_L_guest) (rest := []) (as := [.ref a1, .int (xs (x5 + ((1 : Int32))).toNatClampNeg), .int (xs (x5 + ((2 : Int32))).toNatClampNeg), .int (xs (x5 + ((3 : Int32))).toNatClampNeg), .ref a3]) cf_L_133 (by decide) dL_law_624 rfl rfl ⟨Nat.le_of_ble_eq_true rfl, Nat.le_of_ble_eq_true rfl⟩ ⟨hk.1, hk.2⟩ (Nat.le_of_ble_eq_true rfl) (fun X' hX => KL_guest hX)) rfl rfl rfl rfl ⟨hk.1, hk.2⟩ rfl hF (fun x144 h143 hF => ?_)
          refine jj_istore (i := 6) (ls' := [(6, .int x144), (0, .ref 1000000), (1, .ref a1), (2, .ref a2), (3, .ref a3), (4, .ref a4), (5, .int x5)]) (pc' := 629) dL_law_627 (Nat.le_of_ble_eq_true rfl) rfl rfl ?_
          refine jj_aload_n (j := 3) (i := 2) (pc' := 630) dL_law_629 rfl rfl rfl ?_
          refine jj_aload_n (j := 1) (i := 0) (pc' := 631) dL_law_630 rfl rfl rfl ?_
          refine jj_iload (j := 6) (i := 5) (pc' := 633) dL_law_631 rfl rfl ?_
          refine jj_iconst (v := (1 : Int32)) (pc' := 634) dL_law_633 rfl rfl ?_
          refine jj_iadd (pc' := 635) dL_law_634 rfl ?_
          obtain ⟨hi, hF⟩ := jf_s_inv hF
          refine jj_sld (L := L) (xs := xs) (pc' := 636) dL_law_635 rfl hi rfl ?_
          refine jj_aload_n (j := 1) (i := 0) (pc' := 637) dL_law_636 rfl rfl rfl ?_
          refine jj_iload (j := 6) (i := 5) (pc' := 639) dL_law_637 rfl rfl ?_
          refine jj_iconst (v := (2 : Int32)) (pc' := 640) dL_law_639 rfl rfl ?_
          refine jj_iadd (pc' := 641) dL_law_640 rfl ?_
          obtain ⟨hi, hF⟩ := jf_s_inv hF
          refine jj_sld (L := L) (xs := xs) (pc' := 642) dL_law_641 rfl hi rfl ?_
          refine jj_aload_n (j := 1) (i := 0) (pc' := 643) dL_law_642 rfl rfl rfl ?_
          refine jj_iload (j := 6) (i := 5) (pc' := 645) dL_law_643 rfl rfl ?_
          refine jj_iconst (v := (3 : Int32)) (pc' := 646) dL_law_645 rfl rfl ?_
          refine jj_iadd (pc' := 647) dL_law_646 rfl ?_
          obtain ⟨hi, hF⟩ := jf_s_inv hF
          refine jj_sld (L := L) (xs := xs) (pc' := 648) dL_law_647 rfl hi rfl ?_
          refine jj_cI (N := M_X4_guest) (kc' := (kc + 4)) (ks' := (ks + 24)) (pc' := 651) (jg_V (N := M_X4_guest) (ci := 4) (rest := []) (as := [.int (xs (x5 + ((1 : Int32))).toNatClampNeg), .int (xs (x5 + ((2 : Int32))).toNatClampNeg), .int (xs (x5 + ((3 : Int32))).toNatClampNeg)]) cf_L_136 dL_law_648 ⟨rfl, rfl⟩ rfl rfl ⟨Nat.le_of_ble_eq_true rfl, Nat.le_of_ble_eq_true rfl⟩ ⟨hk.1, hk.2⟩ (Nat.le_of_ble_eq_true rfl) (fun X' hX => KX4_guest hX)) rfl rfl rfl rfl ⟨hk.1, hk.2⟩ rfl hF (fun x146 h145 hF => ?_)
          refine jj_istore (i := 7) (ls' := [(7, .int x146), (6, .int x144), (0, .ref 1000000), (1, .ref a1), (2, .ref a2), (3, .ref a3), (4, .ref a4), (5, .int x5)]) (pc' := 653) dL_law_651 (Nat.le_of_ble_eq_true rfl) rfl rfl ?_
          refine jj_aload_n (j := 4) (i := 2) (pc' := 654) dL_law_653 rfl rfl rfl ?_
          refine jj_cI (N := M_X4_thrown) (kc' := (kc + 4)) (ks' := (ks + 24)) (pc' := 657) (jg_V (N := M_X4_thrown) (ci := 4) (rest := []) (as := []) cf_L_113 dL_law_654 ⟨rfl, rfl⟩ rfl rfl ⟨Nat.le_of_ble_eq_true rfl, Nat.le_of_ble_eq_true rfl⟩ ⟨hk.1, hk.2⟩ (Nat.le_of_ble_eq_true rfl) (fun X' hX => KX4_thrown hX)) rfl rfl rfl rfl ⟨hk.1, hk.2⟩ rfl hF (fun x148 h147 hF => ?_)
          refine jj_iload (j := 1) (i := 6) (pc' := 659) dL_law_657 rfl rfl ?_
          refine jj_icmp_eq (tgt := 664) (pc' := 662) dL_law_659 rfl rfl (fun hc hF => ?_) (fun hc hF => ?_) hF
          · skip
            refine jj_iload (j := 1) (i := 6) (pc' := 666) dL_law_664 rfl rfl ?_
            refine jj_if_ne (tgt := 681) (pc' := 669) dL_law_666 rfl rfl (fun hc hF => ?_) (fun hc hF => ?_) hF
            · skip
              refine jj_goto (tgt := 2070) dL_law_681 rfl ?_
              refine jj_iinc (i := 5) (j := 7) (v := x5 + (6 : Int32)) (ls' := [(5, .int (x5 + (6 : Int32))), (7, .int x146), (6, .int x144), (0, .ref 1000000), (1, .ref a1), (2, .ref a2), (3, .ref a3), (4, .ref a4)]) (pc' := 2073) dL_law_2070 rfl rfl (Nat.le_of_ble_eq_true rfl) rfl rfl ?_
              refine jj_goto (tgt := 28) dL_law_2073 rfl ?_
              exact jj_pick [3, 4, 5, 6, 7, 0] rfl (ih (kc + 4) (ks + 24) a1 a2 a3 a4 (x5 + (6 : Int32)) h147 _ hF)
            · skip
              refine jj_aload_n (j := 5) (i := 3) (pc' := 670) dL_law_669 rfl rfl rfl ?_
              refine jj_iconst (v := (0 : Int32)) (pc' := 671) dL_law_670 rfl rfl ?_
              refine jj_ldL (pc' := 672) dL_law_671 rfl hF (fun l149 hF => ?_)
              refine jj_iload (j := 0) (i := 7) (pc' := 674) dL_law_672 rfl rfl ?_
              refine jj_i2l (pc' := 675) dL_law_674 rfl ?_
              refine jj_lcmp (pc' := 676) dL_law_675 rfl ?_
              refine jj_if_eq (tgt := 681) (pc' := 679) dL_law_676 rfl rfl (fun hc hF => ?_) (fun hc hF => ?_) hF
              · skip
                refine jj_goto (tgt := 2070) dL_law_681 rfl ?_
                refine jj_iinc (i := 5) (j := 7) (v := x5 + (6 : Int32)) (ls' := [(5, .int (x5 + (6 : Int32))), (7, .int x146), (6, .int x144), (0, .ref 1000000), (1, .ref a1), (2, .ref a2), (3, .ref a3), (4, .ref a4)]) (pc' := 2073) dL_law_2070 rfl rfl (Nat.le_of_ble_eq_true rfl) rfl rfl ?_
                refine jj_goto (tgt := 28) dL_law_2073 rfl ?_
                exact jj_pick [3, 4, 5, 6, 7, 0] rfl (ih (kc + 4) (ks + 24) a1 a2 a3 a4 (x5 + (6 : Int32)) h147 _ hF)
              · skip
                refine jj_iconst (v := (0 : Int32)) (pc' := 680) dL_law_679 rfl rfl ?_
                exact jj_retI (ty := .boolean) rfl rfl dL_law_680 ⟨hk.1, hk.2⟩ hF
          · skip
            refine jj_iconst (v := (0 : Int32)) (pc' := 663) dL_law_662 rfl rfl ?_
            exact jj_retI (ty := .boolean) rfl rfl dL_law_663 ⟨hk.1, hk.2⟩ hF
        | 7, hb, ht =>
          cases hb; cases ht
          refine jj_aload_n (j := 1) (i := 1) (pc' := 685) dL_law_684 rfl rfl rfl ?_
          refine jj_aload_n (j := 0) (i := 0) (pc' := 686) dL_law_685 rfl rfl rfl ?_
          refine jj_iload (j := 5) (i := 5) (pc' := 688) dL_law_686 rfl rfl ?_
          refine jj_iconst (v := (1 : Int32)) (pc' := 689) dL_law_688 rfl rfl ?_
          refine jj_iadd (pc' := 690) dL_law_689 rfl ?_
          obtain ⟨hi, hF⟩ := jf_s_inv hF
          refine jj_sld (L := L) (xs := xs) (pc' := 691) dL_law_690 rfl hi rfl ?_
          refine jj_aload_n (j := 0) (i := 0) (pc' := 692) dL_law_691 rfl rfl rfl ?_
          refine jj_iload (j := 5) (i := 5) (pc' := 694) dL_law_692 rfl rfl ?_
          refine jj_iconst (v := (2 : Int32)) (pc' := 695) dL_law_694 rfl rfl ?_
          refine jj_iadd (pc' := 696) dL_law_695 rfl ?_
          obtain ⟨hi, hF⟩ := jf_s_inv hF
          refine jj_sld (L := L) (xs := xs) (pc' := 697) dL_law_696 rfl hi rfl ?_
          refine jj_aload_n (j := 3) (i := 3) (pc' := 698) dL_law_697 rfl rfl rfl ?_
          obtain ⟨hk, hF⟩ := jf_k_inv hF
          refine jj_cI (N := M_L_attend) (kc' := (kc + 3)) (ks' := (ks + 18)) (pc' := 701) (jg_H (N := M_L_attend) (rest := []) (as := [.ref a1, .int (xs (x5 + ((1 : Int32))).toNatClampNeg), .int (xs (x5 + ((2 : Int32))).toNatClampNeg), .ref a3]) cf_L_137 (by decide) dL_law_698 rfl rfl ⟨Nat.le_of_ble_eq_true rfl, Nat.le_of_ble_eq_true rfl⟩ ⟨hk.1, hk.2⟩ (Nat.le_of_ble_eq_true rfl) (fun X' hX => KL_attend hX)) rfl rfl rfl rfl ⟨hk.1, hk.2⟩ rfl hF (fun x151 h150 hF => ?_)
          refine jj_istore (i := 6) (ls' := [(6, .int x151), (0, .ref 1000000), (1, .ref a1), (2, .ref a2), (3, .ref a3), (4, .ref a4), (5, .int x5)]) (pc' := 703) dL_law_701 (Nat.le_of_ble_eq_true rfl) rfl rfl ?_
          refine jj_aload_n (j := 3) (i := 2) (pc' := 704) dL_law_703 rfl rfl rfl ?_
          refine jj_aload_n (j := 1) (i := 0) (pc' := 705) dL_law_704 rfl rfl rfl ?_
          refine jj_iload (j := 6) (i := 5) (pc' := 707) dL_law_705 rfl rfl ?_
          refine jj_iconst (v := (1 : Int32)) (pc' := 708) dL_law_707 rfl rfl ?_
          refine jj_iadd (pc' := 709) dL_law_708 rfl ?_
          obtain ⟨hi, hF⟩ := jf_s_inv hF
          refine jj_sld (L := L) (xs := xs) (pc' := 710) dL_law_709 rfl hi rfl ?_
          refine jj_aload_n (j := 1) (i := 0) (pc' := 711) dL_law_710 rfl rfl rfl ?_
          refine jj_iload (j := 6) (i := 5) (pc' := 713) dL_law_711 rfl rfl ?_
          refine jj_iconst (v := (2 : Int32)) (pc' := 714) dL_law_713 rfl rfl ?_
          refine jj_iadd (pc' := 715) dL_law_714 rfl ?_
          obtain ⟨hi, hF⟩ := jf_s_inv hF
          refine jj_sld (L := L) (xs := xs) (pc' := 716) dL_law_715 rfl hi rfl ?_
          refine jj_cI (N := M_X4_attend) (kc' := (kc + 3)) (ks' := (ks + 18)) (pc' := 719) (jg_V (N := M_X4_attend) (ci := 4) (rest := []) (as := [.int (xs (x5 + ((1 : Int32))).toNatClampNeg), .int (xs (x5 + ((2 : Int32))).toNatClampNeg)]) cf_L_139 dL_law_716 ⟨rfl, rfl⟩ rfl rfl ⟨Nat.le_of_ble_eq_true rfl, Nat.le_of_ble_eq_true rfl⟩ ⟨hk.1, hk.2⟩ (Nat.le_of_ble_eq_true rfl) (fun X' hX => KX4_attend hX)) rfl rfl rfl rfl ⟨hk.1, hk.2⟩ rfl hF (fun x153 h152 hF => ?_)
          refine jj_istore (i := 7) (ls' := [(7, .int x153), (6, .int x151), (0, .ref 1000000), (1, .ref a1), (2, .ref a2), (3, .ref a3), (4, .ref a4), (5, .int x5)]) (pc' := 721) dL_law_719 (Nat.le_of_ble_eq_true rfl) rfl rfl ?_
          refine jj_aload_n (j := 4) (i := 2) (pc' := 722) dL_law_721 rfl rfl rfl ?_
          refine jj_cI (N := M_X4_thrown) (kc' := (kc + 3)) (ks' := (ks + 18)) (pc' := 725) (jg_V (N := M_X4_thrown) (ci := 4) (rest := []) (as := []) cf_L_113 dL_law_722 ⟨rfl, rfl⟩ rfl rfl ⟨Nat.le_of_ble_eq_true rfl, Nat.le_of_ble_eq_true rfl⟩ ⟨hk.1, hk.2⟩ (Nat.le_of_ble_eq_true rfl) (fun X' hX => KX4_thrown hX)) rfl rfl rfl rfl ⟨hk.1, hk.2⟩ rfl hF (fun x155 h154 hF => ?_)
          refine jj_iload (j := 1) (i := 6) (pc' := 727) dL_law_725 rfl rfl ?_
          refine jj_icmp_eq (tgt := 732) (pc' := 730) dL_law_727 rfl rfl (fun hc hF => ?_) (fun hc hF => ?_) hF
          · skip
            refine jj_iload (j := 1) (i := 6) (pc' := 734) dL_law_732 rfl rfl ?_
            refine jj_if_ne (tgt := 749) (pc' := 737) dL_law_734 rfl rfl (fun hc hF => ?_) (fun hc hF => ?_) hF
            · skip
              refine jj_goto (tgt := 2070) dL_law_749 rfl ?_
              refine jj_iinc (i := 5) (j := 7) (v := x5 + (6 : Int32)) (ls' := [(5, .int (x5 + (6 : Int32))), (7, .int x153), (6, .int x151), (0, .ref 1000000), (1, .ref a1), (2, .ref a2), (3, .ref a3), (4, .ref a4)]) (pc' := 2073) dL_law_2070 rfl rfl (Nat.le_of_ble_eq_true rfl) rfl rfl ?_
              refine jj_goto (tgt := 28) dL_law_2073 rfl ?_
              exact jj_pick [3, 4, 5, 6, 7, 0] rfl (ih (kc + 3) (ks + 18) a1 a2 a3 a4 (x5 + (6 : Int32)) h154 _ hF)
            · skip
              refine jj_aload_n (j := 5) (i := 3) (pc' := 738) dL_law_737 rfl rfl rfl ?_
              refine jj_iconst (v := (0 : Int32)) (pc' := 739) dL_law_738 rfl rfl ?_
              refine jj_ldL (pc' := 740) dL_law_739 rfl hF (fun l156 hF => ?_)
              refine jj_iload (j := 0) (i := 7) (pc' := 742) dL_law_740 rfl rfl ?_
              refine jj_i2l (pc' := 743) dL_law_742 rfl ?_
              refine jj_lcmp (pc' := 744) dL_law_743 rfl ?_
              refine jj_if_eq (tgt := 749) (pc' := 747) dL_law_744 rfl rfl (fun hc hF => ?_) (fun hc hF => ?_) hF
              · skip
                refine jj_goto (tgt := 2070) dL_law_749 rfl ?_
                refine jj_iinc (i := 5) (j := 7) (v := x5 + (6 : Int32)) (ls' := [(5, .int (x5 + (6 : Int32))), (7, .int x153), (6, .int x151), (0, .ref 1000000), (1, .ref a1), (2, .ref a2), (3, .ref a3), (4, .ref a4)]) (pc' := 2073) dL_law_2070 rfl rfl (Nat.le_of_ble_eq_true rfl) rfl rfl ?_
                refine jj_goto (tgt := 28) dL_law_2073 rfl ?_
                exact jj_pick [3, 4, 5, 6, 7, 0] rfl (ih (kc + 3) (ks + 18) a1 a2 a3 a4 (x5 + (6 : Int32)) h154 _ hF)
              · skip
                refine jj_iconst (v := (0 : Int32)) (pc' := 748) dL_law_747 rfl rfl ?_
                exact jj_retI (ty := .boolean) rfl rfl dL_law_748 ⟨hk.1, hk.2⟩ hF
          · skip
            refine jj_iconst (v := (0 : Int32)) (pc' := 731) dL_law_730 rfl rfl ?_
            exact jj_retI (ty := .boolean) rfl rfl dL_law_731 ⟨hk.1, hk.2⟩ hF
        | 8, hb, ht =>
          cases hb; cases ht
          refine jj_aload_n (j := 1) (i := 1) (pc' := 753) dL_law_752 rfl rfl rfl ?_
          refine jj_aload_n (j := 0) (i := 0) (pc' := 754) dL_law_753 rfl rfl rfl ?_
          refine jj_iload (j := 5) (i := 5) (pc' := 756) dL_law_754 rfl rfl ?_
          refine jj_iconst (v := (1 : Int32)) (pc' := 757) dL_law_756 rfl rfl ?_
          refine jj_iadd (pc' := 758) dL_law_757 rfl ?_
          obtain ⟨hi, hF⟩ := jf_s_inv hF
          refine jj_sld (L := L) (xs := xs) (pc' := 759) dL_law_758 rfl hi rfl ?_
          refine jj_aload_n (j := 0) (i := 0) (pc' := 760) dL_law_759 rfl rfl rfl ?_
          refine jj_iload (j := 5) (i := 5) (pc' := 762) dL_law_760 rfl rfl ?_
          refine jj_iconst (v := (2 : Int32)) (pc' := 763) dL_law_762 rfl rfl ?_
          refine jj_iadd (pc' := 764) dL_law_763 rfl ?_
          obtain ⟨hi, hF⟩ := jf_s_inv hF
          refine jj_sld (L := L) (xs := xs) (pc' := 765) dL_law_764 rfl hi rfl ?_
          refine jj_aload_n (j := 0) (i := 0) (pc' := 766) dL_law_765 rfl rfl rfl ?_
          refine jj_iload (j := 5) (i := 5) (pc' := 768) dL_law_766 rfl rfl ?_
          refine jj_iconst (v := (3 : Int32)) (pc' := 769) dL_law_768 rfl rfl ?_
          refine jj_iadd (pc' := 770) dL_law_769 rfl ?_
          obtain ⟨hi, hF⟩ := jf_s_inv hF
          refine jj_sld (L := L) (xs := xs) (pc' := 771) dL_law_770 rfl hi rfl ?_
          refine jj_aload_n (j := 3) (i := 3) (pc' := 772) dL_law_771 rfl rfl rfl ?_
          obtain ⟨hk, hF⟩ := jf_k_inv hF
          refine jj_cI (N := M_L_vote) (kc' := (kc + 4)) (ks' := (ks + 24)) (pc' := 775) (jg_H (N := M_L_vote) (rest := []) (as := [.ref a1, .int (xs (x5 + ((1 : Int32))).toNatClampNeg), .int (xs (x5 + ((2 : Int32))).toNatClampNeg), .int (xs (x5 + ((3 : Int32))).toNatClampNeg), .ref a3]) cf_L_140 (by decide) dL_law_772 rfl rfl ⟨Nat.le_of_ble_eq_true rfl, Nat.le_of_ble_eq_true rfl⟩ ⟨hk.1, hk.2⟩ (Nat.le_of_ble_eq_true rfl) (fun X' hX => KL_vote hX)) rfl rfl rfl rfl ⟨hk.1, hk.2⟩ rfl hF (fun x158 h157 hF => ?_)
          refine jj_istore (i := 6) (ls' := [(6, .int x158), (0, .ref 1000000), (1, .ref a1), (2, .ref a2), (3, .ref a3), (4, .ref a4), (5, .int x5)]) (pc' := 777) dL_law_775 (Nat.le_of_ble_eq_true rfl) rfl rfl ?_
          refine jj_aload_n (j := 3) (i := 2) (pc' := 778) dL_law_777 rfl rfl rfl ?_
          refine jj_aload_n (j := 1) (i := 0) (pc' := 779) dL_law_778 rfl rfl rfl ?_
          refine jj_iload (j := 6) (i := 5) (pc' := 781) dL_law_779 rfl rfl ?_
          refine jj_iconst (v := (1 : Int32)) (pc' := 782) dL_law_781 rfl rfl ?_
          refine jj_iadd (pc' := 783) dL_law_782 rfl ?_
          obtain ⟨hi, hF⟩ := jf_s_inv hF
          refine jj_sld (L := L) (xs := xs) (pc' := 784) dL_law_783 rfl hi rfl ?_
          refine jj_aload_n (j := 1) (i := 0) (pc' := 785) dL_law_784 rfl rfl rfl ?_
          refine jj_iload (j := 6) (i := 5) (pc' := 787) dL_law_785 rfl rfl ?_
          refine jj_iconst (v := (2 : Int32)) (pc' := 788) dL_law_787 rfl rfl ?_
          refine jj_iadd (pc' := 789) dL_law_788 rfl ?_
          obtain ⟨hi, hF⟩ := jf_s_inv hF
          refine jj_sld (L := L) (xs := xs) (pc' := 790) dL_law_789 rfl hi rfl ?_
          refine jj_aload_n (j := 1) (i := 0) (pc' := 791) dL_law_790 rfl rfl rfl ?_
          refine jj_iload (j := 6) (i := 5) (pc' := 793) dL_law_791 rfl rfl ?_
          refine jj_iconst (v := (3 : Int32)) (pc' := 794) dL_law_793 rfl rfl ?_
          refine jj_iadd (pc' := 795) dL_law_794 rfl ?_
          obtain ⟨hi, hF⟩ := jf_s_inv hF
          refine jj_sld (L := L) (xs := xs) (pc' := 796) dL_law_795 rfl hi rfl ?_
          refine jj_cI (N := M_X4_vote) (kc' := (kc + 4)) (ks' := (ks + 24)) (pc' := 799) (jg_V (N := M_X4_vote) (ci := 4) (rest := []) (as := [.int (xs (x5 + ((1 : Int32))).toNatClampNeg), .int (xs (x5 + ((2 : Int32))).toNatClampNeg), .int (xs (x5 + ((3 : Int32))).toNatClampNeg)]) cf_L_142 dL_law_796 ⟨rfl, rfl⟩ rfl rfl ⟨Nat.le_of_ble_eq_true rfl, Nat.le_of_ble_eq_true rfl⟩ ⟨hk.1, hk.2⟩ (Nat.le_of_ble_eq_true rfl) (fun X' hX => KX4_vote hX)) rfl rfl rfl rfl ⟨hk.1, hk.2⟩ rfl hF (fun x160 h159 hF => ?_)
          refine jj_istore (i := 7) (ls' := [(7, .int x160), (6, .int x158), (0, .ref 1000000), (1, .ref a1), (2, .ref a2), (3, .ref a3), (4, .ref a4), (5, .int x5)]) (pc' := 801) dL_law_799 (Nat.le_of_ble_eq_true rfl) rfl rfl ?_
          refine jj_aload_n (j := 4) (i := 2) (pc' := 802) dL_law_801 rfl rfl rfl ?_
          refine jj_cI (N := M_X4_thrown) (kc' := (kc + 4)) (ks' := (ks + 24)) (pc' := 805) (jg_V (N := M_X4_thrown) (ci := 4) (rest := []) (as := []) cf_L_113 dL_law_802 ⟨rfl, rfl⟩ rfl rfl ⟨Nat.le_of_ble_eq_true rfl, Nat.le_of_ble_eq_true rfl⟩ ⟨hk.1, hk.2⟩ (Nat.le_of_ble_eq_true rfl) (fun X' hX => KX4_thrown hX)) rfl rfl rfl rfl ⟨hk.1, hk.2⟩ rfl hF (fun x162 h161 hF => ?_)
          refine jj_iload (j := 1) (i := 6) (pc' := 807) dL_law_805 rfl rfl ?_
          refine jj_icmp_eq (tgt := 812) (pc' := 810) dL_law_807 rfl rfl (fun hc hF => ?_) (fun hc hF => ?_) hF
          · skip
            refine jj_iload (j := 1) (i := 6) (pc' := 814) dL_law_812 rfl rfl ?_
            refine jj_if_ne (tgt := 829) (pc' := 817) dL_law_814 rfl rfl (fun hc hF => ?_) (fun hc hF => ?_) hF
            · skip
              refine jj_goto (tgt := 2070) dL_law_829 rfl ?_
              refine jj_iinc (i := 5) (j := 7) (v := x5 + (6 : Int32)) (ls' := [(5, .int (x5 + (6 : Int32))), (7, .int x160), (6, .int x158), (0, .ref 1000000), (1, .ref a1), (2, .ref a2), (3, .ref a3), (4, .ref a4)]) (pc' := 2073) dL_law_2070 rfl rfl (Nat.le_of_ble_eq_true rfl) rfl rfl ?_
              refine jj_goto (tgt := 28) dL_law_2073 rfl ?_
              exact jj_pick [3, 4, 5, 6, 7, 0] rfl (ih (kc + 4) (ks + 24) a1 a2 a3 a4 (x5 + (6 : Int32)) h161 _ hF)
            · skip
              refine jj_aload_n (j := 5) (i := 3) (pc' := 818) dL_law_817 rfl rfl rfl ?_
              refine jj_iconst (v := (0 : Int32)) (pc' := 819) dL_law_818 rfl rfl ?_
              refine jj_ldL (pc' := 820) dL_law_819 rfl hF (fun l163 hF => ?_)
              refine jj_iload (j := 0) (i := 7) (pc' := 822) dL_law_820 rfl rfl ?_
              refine jj_i2l (pc' := 823) dL_law_822 rfl ?_
              refine jj_lcmp (pc' := 824) dL_law_823 rfl ?_
              refine jj_if_eq (tgt := 829) (pc' := 827) dL_law_824 rfl rfl (fun hc hF => ?_) (fun hc hF => ?_) hF
              · skip
                refine jj_goto (tgt := 2070) dL_law_829 rfl ?_
                refine jj_iinc (i := 5) (j := 7) (v := x5 + (6 : Int32)) (ls' := [(5, .int (x5 + (6 : Int32))), (7, .int x160), (6, .int x158), (0, .ref 1000000), (1, .ref a1), (2, .ref a2), (3, .ref a3), (4, .ref a4)]) (pc' := 2073) dL_law_2070 rfl rfl (Nat.le_of_ble_eq_true rfl) rfl rfl ?_
                refine jj_goto (tgt := 28) dL_law_2073 rfl ?_
                exact jj_pick [3, 4, 5, 6, 7, 0] rfl (ih (kc + 4) (ks + 24) a1 a2 a3 a4 (x5 + (6 : Int32)) h161 _ hF)
              · skip
                refine jj_iconst (v := (0 : Int32)) (pc' := 828) dL_law_827 rfl rfl ?_
                exact jj_retI (ty := .boolean) rfl rfl dL_law_828 ⟨hk.1, hk.2⟩ hF
          · skip
            refine jj_iconst (v := (0 : Int32)) (pc' := 811) dL_law_810 rfl rfl ?_
            exact jj_retI (ty := .boolean) rfl rfl dL_law_811 ⟨hk.1, hk.2⟩ hF
        | 9, hb, ht =>
          cases hb; cases ht
          refine jj_aload_n (j := 1) (i := 1) (pc' := 833) dL_law_832 rfl rfl rfl ?_
          refine jj_aload_n (j := 0) (i := 0) (pc' := 834) dL_law_833 rfl rfl rfl ?_
          refine jj_iload (j := 5) (i := 5) (pc' := 836) dL_law_834 rfl rfl ?_
          refine jj_iconst (v := (1 : Int32)) (pc' := 837) dL_law_836 rfl rfl ?_
          refine jj_iadd (pc' := 838) dL_law_837 rfl ?_
          obtain ⟨hi, hF⟩ := jf_s_inv hF
          refine jj_sld (L := L) (xs := xs) (pc' := 839) dL_law_838 rfl hi rfl ?_
          refine jj_aload_n (j := 3) (i := 3) (pc' := 840) dL_law_839 rfl rfl rfl ?_
          obtain ⟨hk, hF⟩ := jf_k_inv hF
          refine jj_cI (N := M_L_append) (kc' := (kc + 2)) (ks' := (ks + 12)) (pc' := 843) (jg_H (N := M_L_append) (rest := []) (as := [.ref a1, .int (xs (x5 + ((1 : Int32))).toNatClampNeg), .ref a3]) cf_L_143 (by decide) dL_law_840 rfl rfl ⟨Nat.le_of_ble_eq_true rfl, Nat.le_of_ble_eq_true rfl⟩ ⟨hk.1, hk.2⟩ (Nat.le_of_ble_eq_true rfl) (fun X' hX => KL_append hX)) rfl rfl rfl rfl ⟨hk.1, hk.2⟩ rfl hF (fun x165 h164 hF => ?_)
          refine jj_istore (i := 6) (ls' := [(6, .int x165), (0, .ref 1000000), (1, .ref a1), (2, .ref a2), (3, .ref a3), (4, .ref a4), (5, .int x5)]) (pc' := 845) dL_law_843 (Nat.le_of_ble_eq_true rfl) rfl rfl ?_
          refine jj_aload_n (j := 3) (i := 2) (pc' := 846) dL_law_845 rfl rfl rfl ?_
          refine jj_aload_n (j := 1) (i := 0) (pc' := 847) dL_law_846 rfl rfl rfl ?_
          refine jj_iload (j := 6) (i := 5) (pc' := 849) dL_law_847 rfl rfl ?_
          refine jj_iconst (v := (1 : Int32)) (pc' := 850) dL_law_849 rfl rfl ?_
          refine jj_iadd (pc' := 851) dL_law_850 rfl ?_
          obtain ⟨hi, hF⟩ := jf_s_inv hF
          refine jj_sld (L := L) (xs := xs) (pc' := 852) dL_law_851 rfl hi rfl ?_
          refine jj_cI (N := M_X4_append) (kc' := (kc + 2)) (ks' := (ks + 12)) (pc' := 855) (jg_V (N := M_X4_append) (ci := 4) (rest := []) (as := [.int (xs (x5 + ((1 : Int32))).toNatClampNeg)]) cf_L_145 dL_law_852 ⟨rfl, rfl⟩ rfl rfl ⟨Nat.le_of_ble_eq_true rfl, Nat.le_of_ble_eq_true rfl⟩ ⟨hk.1, hk.2⟩ (Nat.le_of_ble_eq_true rfl) (fun X' hX => KX4_append hX)) rfl rfl rfl rfl ⟨hk.1, hk.2⟩ rfl hF (fun x167 h166 hF => ?_)
          refine jj_istore (i := 7) (ls' := [(7, .int x167), (6, .int x165), (0, .ref 1000000), (1, .ref a1), (2, .ref a2), (3, .ref a3), (4, .ref a4), (5, .int x5)]) (pc' := 857) dL_law_855 (Nat.le_of_ble_eq_true rfl) rfl rfl ?_
          refine jj_aload_n (j := 4) (i := 2) (pc' := 858) dL_law_857 rfl rfl rfl ?_
          refine jj_cI (N := M_X4_thrown) (kc' := (kc + 2)) (ks' := (ks + 12)) (pc' := 861) (jg_V (N := M_X4_thrown) (ci := 4) (rest := []) (as := []) cf_L_113 dL_law_858 ⟨rfl, rfl⟩ rfl rfl ⟨Nat.le_of_ble_eq_true rfl, Nat.le_of_ble_eq_true rfl⟩ ⟨hk.1, hk.2⟩ (Nat.le_of_ble_eq_true rfl) (fun X' hX => KX4_thrown hX)) rfl rfl rfl rfl ⟨hk.1, hk.2⟩ rfl hF (fun x169 h168 hF => ?_)
          refine jj_iload (j := 1) (i := 6) (pc' := 863) dL_law_861 rfl rfl ?_
          refine jj_icmp_eq (tgt := 868) (pc' := 866) dL_law_863 rfl rfl (fun hc hF => ?_) (fun hc hF => ?_) hF
          · skip
            refine jj_iload (j := 1) (i := 6) (pc' := 870) dL_law_868 rfl rfl ?_
            refine jj_if_ne (tgt := 885) (pc' := 873) dL_law_870 rfl rfl (fun hc hF => ?_) (fun hc hF => ?_) hF
            · skip
              refine jj_goto (tgt := 2070) dL_law_885 rfl ?_
              refine jj_iinc (i := 5) (j := 7) (v := x5 + (6 : Int32)) (ls' := [(5, .int (x5 + (6 : Int32))), (7, .int x167), (6, .int x165), (0, .ref 1000000), (1, .ref a1), (2, .ref a2), (3, .ref a3), (4, .ref a4)]) (pc' := 2073) dL_law_2070 rfl rfl (Nat.le_of_ble_eq_true rfl) rfl rfl ?_
              refine jj_goto (tgt := 28) dL_law_2073 rfl ?_
              exact jj_pick [3, 4, 5, 6, 7, 0] rfl (ih (kc + 2) (ks + 12) a1 a2 a3 a4 (x5 + (6 : Int32)) h168 _ hF)
            · skip
              refine jj_aload_n (j := 5) (i := 3) (pc' := 874) dL_law_873 rfl rfl rfl ?_
              refine jj_iconst (v := (0 : Int32)) (pc' := 875) dL_law_874 rfl rfl ?_
              refine jj_ldL (pc' := 876) dL_law_875 rfl hF (fun l170 hF => ?_)
              refine jj_iload (j := 0) (i := 7) (pc' := 878) dL_law_876 rfl rfl ?_
              refine jj_i2l (pc' := 879) dL_law_878 rfl ?_
              refine jj_lcmp (pc' := 880) dL_law_879 rfl ?_
              refine jj_if_eq (tgt := 885) (pc' := 883) dL_law_880 rfl rfl (fun hc hF => ?_) (fun hc hF => ?_) hF
              · skip
                refine jj_goto (tgt := 2070) dL_law_885 rfl ?_
                refine jj_iinc (i := 5) (j := 7) (v := x5 + (6 : Int32)) (ls' := [(5, .int (x5 + (6 : Int32))), (7, .int x167), (6, .int x165), (0, .ref 1000000), (1, .ref a1), (2, .ref a2), (3, .ref a3), (4, .ref a4)]) (pc' := 2073) dL_law_2070 rfl rfl (Nat.le_of_ble_eq_true rfl) rfl rfl ?_
                refine jj_goto (tgt := 28) dL_law_2073 rfl ?_
                exact jj_pick [3, 4, 5, 6, 7, 0] rfl (ih (kc + 2) (ks + 12) a1 a2 a3 a4 (x5 + (6 : Int32)) h168 _ hF)
              · skip
                refine jj_iconst (v := (0 : Int32)) (pc' := 884) dL_law_883 rfl rfl ?_
                exact jj_retI (ty := .boolean) rfl rfl dL_law_884 ⟨hk.1, hk.2⟩ hF
          · skip
            refine jj_iconst (v := (0 : Int32)) (pc' := 867) dL_law_866 rfl rfl ?_
            exact jj_retI (ty := .boolean) rfl rfl dL_law_867 ⟨hk.1, hk.2⟩ hF
        | 10, hb, ht =>
          cases hb; cases ht
          refine jj_aload_n (j := 1) (i := 1) (pc' := 889) dL_law_888 rfl rfl rfl ?_
          refine jj_cI (N := M_X3_clearBuffer) (kc' := kc) (ks' := ks) (pc' := 892) (jg_V (N := M_X3_clearBuffer) (ci := 3) (rest := []) (as := []) cf_L_146 dL_law_889 ⟨rfl, rfl⟩ rfl rfl ⟨Nat.le_of_ble_eq_true rfl, Nat.le_of_ble_eq_true rfl⟩ ⟨hk.1, hk.2⟩ (Nat.le_of_ble_eq_true rfl) (fun X' hX => KX3_clearBuffer hX)) rfl rfl rfl rfl ⟨hk.1, hk.2⟩ rfl hF (fun x172 h171 hF => ?_)
          refine jj_aload_n (j := 2) (i := 2) (pc' := 893) dL_law_892 rfl rfl rfl ?_
          refine jj_cI (N := M_X4_clearBuffer) (kc' := kc) (ks' := ks) (pc' := 896) (jg_V (N := M_X4_clearBuffer) (ci := 4) (rest := [.int x172]) (as := []) cf_L_149 dL_law_893 ⟨rfl, rfl⟩ rfl rfl ⟨Nat.le_of_ble_eq_true rfl, Nat.le_of_ble_eq_true rfl⟩ ⟨hk.1, hk.2⟩ (Nat.le_of_ble_eq_true rfl) (fun X' hX => KX4_clearBuffer hX)) rfl rfl rfl rfl ⟨hk.1, hk.2⟩ rfl hF (fun x174 h173 hF => ?_)
          refine jj_icmp_eq (tgt := 2070) (pc' := 899) dL_law_896 rfl rfl (fun hc hF => ?_) (fun hc hF => ?_) hF
          · skip
            refine jj_iinc (i := 5) (j := 5) (v := x5 + (6 : Int32)) (ls' := [(5, .int (x5 + (6 : Int32))), (0, .ref 1000000), (1, .ref a1), (2, .ref a2), (3, .ref a3), (4, .ref a4)]) (pc' := 2073) dL_law_2070 rfl rfl (Nat.le_of_ble_eq_true rfl) rfl rfl ?_
            refine jj_goto (tgt := 28) dL_law_2073 rfl ?_
            exact jj_pick [1, 2, 3, 4, 5, 0] rfl (ih kc ks a1 a2 a3 a4 (x5 + (6 : Int32)) h173 _ hF)
          · skip
            refine jj_iconst (v := (0 : Int32)) (pc' := 900) dL_law_899 rfl rfl ?_
            exact jj_retI (ty := .boolean) rfl rfl dL_law_900 ⟨hk.1, hk.2⟩ hF
        | 11, hb, ht =>
          cases hb; cases ht
          refine jj_aload_n (j := 1) (i := 1) (pc' := 902) dL_law_901 rfl rfl rfl ?_
          refine jj_cI (N := M_X3_firstError) (kc' := kc) (ks' := ks) (pc' := 905) (jg_V (N := M_X3_firstError) (ci := 3) (rest := []) (as := []) cf_L_150 dL_law_902 ⟨rfl, rfl⟩ rfl rfl ⟨Nat.le_of_ble_eq_true rfl, Nat.le_of_ble_eq_true rfl⟩ ⟨hk.1, hk.2⟩ (Nat.le_of_ble_eq_true rfl) (fun X' hX => KX3_firstError hX)) rfl rfl rfl rfl ⟨hk.1, hk.2⟩ rfl hF (fun x176 h175 hF => ?_)
          refine jj_aload_n (j := 2) (i := 2) (pc' := 906) dL_law_905 rfl rfl rfl ?_
          refine jj_cI (N := M_X4_firstError) (kc' := kc) (ks' := ks) (pc' := 909) (jg_V (N := M_X4_firstError) (ci := 4) (rest := [.int x176]) (as := []) cf_L_153 dL_law_906 ⟨rfl, rfl⟩ rfl rfl ⟨Nat.le_of_ble_eq_true rfl, Nat.le_of_ble_eq_true rfl⟩ ⟨hk.1, hk.2⟩ (Nat.le_of_ble_eq_true rfl) (fun X' hX => KX4_firstError hX)) rfl rfl rfl rfl ⟨hk.1, hk.2⟩ rfl hF (fun x178 h177 hF => ?_)
          refine jj_icmp_eq (tgt := 2070) (pc' := 912) dL_law_909 rfl rfl (fun hc hF => ?_) (fun hc hF => ?_) hF
          · skip
            refine jj_iinc (i := 5) (j := 5) (v := x5 + (6 : Int32)) (ls' := [(5, .int (x5 + (6 : Int32))), (0, .ref 1000000), (1, .ref a1), (2, .ref a2), (3, .ref a3), (4, .ref a4)]) (pc' := 2073) dL_law_2070 rfl rfl (Nat.le_of_ble_eq_true rfl) rfl rfl ?_
            refine jj_goto (tgt := 28) dL_law_2073 rfl ?_
            exact jj_pick [1, 2, 3, 4, 5, 0] rfl (ih kc ks a1 a2 a3 a4 (x5 + (6 : Int32)) h177 _ hF)
          · skip
            refine jj_iconst (v := (0 : Int32)) (pc' := 913) dL_law_912 rfl rfl ?_
            exact jj_retI (ty := .boolean) rfl rfl dL_law_913 ⟨hk.1, hk.2⟩ hF
        | 12, hb, ht =>
          cases hb; cases ht
          refine jj_aload_n (j := 1) (i := 1) (pc' := 915) dL_law_914 rfl rfl rfl ?_
          refine jj_aload_n (j := 3) (i := 3) (pc' := 916) dL_law_915 rfl rfl rfl ?_
          obtain ⟨hk, hF⟩ := jf_k_inv hF
          refine jj_cI (N := M_L_program) (kc' := (kc + 1)) (ks' := (ks + 6)) (pc' := 919) (jg_H (N := M_L_program) (rest := []) (as := [.ref a1, .ref a3]) cf_L_154 (by decide) dL_law_916 rfl rfl ⟨Nat.le_of_ble_eq_true rfl, Nat.le_of_ble_eq_true rfl⟩ ⟨hk.1, hk.2⟩ (Nat.le_of_ble_eq_true rfl) (fun X' hX => KL_program hX)) rfl rfl rfl rfl ⟨hk.1, hk.2⟩ rfl hF (fun x180 h179 hF => ?_)
          refine jj_istore (i := 6) (ls' := [(6, .int x180), (0, .ref 1000000), (1, .ref a1), (2, .ref a2), (3, .ref a3), (4, .ref a4), (5, .int x5)]) (pc' := 921) dL_law_919 (Nat.le_of_ble_eq_true rfl) rfl rfl ?_
          refine jj_aload_n (j := 3) (i := 2) (pc' := 922) dL_law_921 rfl rfl rfl ?_
          refine jj_cI (N := M_X4_program) (kc' := (kc + 1)) (ks' := (ks + 6)) (pc' := 925) (jg_V (N := M_X4_program) (ci := 4) (rest := []) (as := []) cf_L_157 dL_law_922 ⟨rfl, rfl⟩ rfl rfl ⟨Nat.le_of_ble_eq_true rfl, Nat.le_of_ble_eq_true rfl⟩ ⟨hk.1, hk.2⟩ (Nat.le_of_ble_eq_true rfl) (fun X' hX => KX4_program hX)) rfl rfl rfl rfl ⟨hk.1, hk.2⟩ rfl hF (fun x182 h181 hF => ?_)
          refine jj_istore (i := 7) (ls' := [(7, .int x182), (6, .int x180), (0, .ref 1000000), (1, .ref a1), (2, .ref a2), (3, .ref a3), (4, .ref a4), (5, .int x5)]) (pc' := 927) dL_law_925 (Nat.le_of_ble_eq_true rfl) rfl rfl ?_
          refine jj_aload_n (j := 4) (i := 2) (pc' := 928) dL_law_927 rfl rfl rfl ?_
          refine jj_cI (N := M_X4_thrown) (kc' := (kc + 1)) (ks' := (ks + 6)) (pc' := 931) (jg_V (N := M_X4_thrown) (ci := 4) (rest := []) (as := []) cf_L_113 dL_law_928 ⟨rfl, rfl⟩ rfl rfl ⟨Nat.le_of_ble_eq_true rfl, Nat.le_of_ble_eq_true rfl⟩ ⟨hk.1, hk.2⟩ (Nat.le_of_ble_eq_true rfl) (fun X' hX => KX4_thrown hX)) rfl rfl rfl rfl ⟨hk.1, hk.2⟩ rfl hF (fun x184 h183 hF => ?_)
          refine jj_iload (j := 1) (i := 6) (pc' := 933) dL_law_931 rfl rfl ?_
          refine jj_icmp_eq (tgt := 938) (pc' := 936) dL_law_933 rfl rfl (fun hc hF => ?_) (fun hc hF => ?_) hF
          · skip
            refine jj_iload (j := 1) (i := 6) (pc' := 940) dL_law_938 rfl rfl ?_
            refine jj_if_ne (tgt := 955) (pc' := 943) dL_law_940 rfl rfl (fun hc hF => ?_) (fun hc hF => ?_) hF
            · skip
              refine jj_goto (tgt := 2070) dL_law_955 rfl ?_
              refine jj_iinc (i := 5) (j := 7) (v := x5 + (6 : Int32)) (ls' := [(5, .int (x5 + (6 : Int32))), (7, .int x182), (6, .int x180), (0, .ref 1000000), (1, .ref a1), (2, .ref a2), (3, .ref a3), (4, .ref a4)]) (pc' := 2073) dL_law_2070 rfl rfl (Nat.le_of_ble_eq_true rfl) rfl rfl ?_
              refine jj_goto (tgt := 28) dL_law_2073 rfl ?_
              exact jj_pick [3, 4, 5, 6, 7, 0] rfl (ih (kc + 1) (ks + 6) a1 a2 a3 a4 (x5 + (6 : Int32)) h183 _ hF)
            · skip
              refine jj_aload_n (j := 5) (i := 3) (pc' := 944) dL_law_943 rfl rfl rfl ?_
              refine jj_iconst (v := (0 : Int32)) (pc' := 945) dL_law_944 rfl rfl ?_
              refine jj_ldL (pc' := 946) dL_law_945 rfl hF (fun l185 hF => ?_)
              refine jj_iload (j := 0) (i := 7) (pc' := 948) dL_law_946 rfl rfl ?_
              refine jj_i2l (pc' := 949) dL_law_948 rfl ?_
              refine jj_lcmp (pc' := 950) dL_law_949 rfl ?_
              refine jj_if_eq (tgt := 955) (pc' := 953) dL_law_950 rfl rfl (fun hc hF => ?_) (fun hc hF => ?_) hF
              · skip
                refine jj_goto (tgt := 2070) dL_law_955 rfl ?_
                refine jj_iinc (i := 5) (j := 7) (v := x5 + (6 : Int32)) (ls' := [(5, .int (x5 + (6 : Int32))), (7, .int x182), (6, .int x180), (0, .ref 1000000), (1, .ref a1), (2, .ref a2), (3, .ref a3), (4, .ref a4)]) (pc' := 2073) dL_law_2070 rfl rfl (Nat.le_of_ble_eq_true rfl) rfl rfl ?_
                refine jj_goto (tgt := 28) dL_law_2073 rfl ?_
                exact jj_pick [3, 4, 5, 6, 7, 0] rfl (ih (kc + 1) (ks + 6) a1 a2 a3 a4 (x5 + (6 : Int32)) h183 _ hF)
              · skip
                refine jj_iconst (v := (0 : Int32)) (pc' := 954) dL_law_953 rfl rfl ?_
                exact jj_retI (ty := .boolean) rfl rfl dL_law_954 ⟨hk.1, hk.2⟩ hF
          · skip
            refine jj_iconst (v := (0 : Int32)) (pc' := 937) dL_law_936 rfl rfl ?_
            exact jj_retI (ty := .boolean) rfl rfl dL_law_937 ⟨hk.1, hk.2⟩ hF
        | 13, hb, ht =>
          cases hb; cases ht
          refine jj_aload_n (j := 1) (i := 1) (pc' := 959) dL_law_958 rfl rfl rfl ?_
          refine jj_aload_n (j := 0) (i := 0) (pc' := 960) dL_law_959 rfl rfl rfl ?_
          refine jj_iload (j := 5) (i := 5) (pc' := 962) dL_law_960 rfl rfl ?_
          refine jj_iconst (v := (1 : Int32)) (pc' := 963) dL_law_962 rfl rfl ?_
          refine jj_iadd (pc' := 964) dL_law_963 rfl ?_
          obtain ⟨hi, hF⟩ := jf_s_inv hF
          refine jj_sld (L := L) (xs := xs) (pc' := 965) dL_law_964 rfl hi rfl ?_
          refine jj_aload_n (j := 3) (i := 3) (pc' := 966) dL_law_965 rfl rfl rfl ?_
          obtain ⟨hk, hF⟩ := jf_k_inv hF
          refine jj_cI (N := M_L_stopped) (kc' := (kc + 1)) (ks' := (ks + 6)) (pc' := 969) (jg_H (N := M_L_stopped) (rest := []) (as := [.ref a1, .int (xs (x5 + ((1 : Int32))).toNatClampNeg), .ref a3]) cf_L_158 (by decide) dL_law_966 rfl rfl ⟨Nat.le_of_ble_eq_true rfl, Nat.le_of_ble_eq_true rfl⟩ ⟨hk.1, hk.2⟩ (Nat.le_of_ble_eq_true rfl) (fun X' hX => KL_stopped hX)) rfl rfl rfl rfl ⟨hk.1, hk.2⟩ rfl hF (fun x187 h186 hF => ?_)
          refine jj_istore (i := 6) (ls' := [(6, .int x187), (0, .ref 1000000), (1, .ref a1), (2, .ref a2), (3, .ref a3), (4, .ref a4), (5, .int x5)]) (pc' := 971) dL_law_969 (Nat.le_of_ble_eq_true rfl) rfl rfl ?_
          refine jj_aload_n (j := 3) (i := 2) (pc' := 972) dL_law_971 rfl rfl rfl ?_
          refine jj_aload_n (j := 1) (i := 0) (pc' := 973) dL_law_972 rfl rfl rfl ?_
          refine jj_iload (j := 6) (i := 5) (pc' := 975) dL_law_973 rfl rfl ?_
          refine jj_iconst (v := (1 : Int32)) (pc' := 976) dL_law_975 rfl rfl ?_
          refine jj_iadd (pc' := 977) dL_law_976 rfl ?_
          obtain ⟨hi, hF⟩ := jf_s_inv hF
          refine jj_sld (L := L) (xs := xs) (pc' := 978) dL_law_977 rfl hi rfl ?_
          refine jj_cI (N := M_X4_stopped) (kc' := (kc + 1)) (ks' := (ks + 6)) (pc' := 981) (jg_V (N := M_X4_stopped) (ci := 4) (rest := []) (as := [.int (xs (x5 + ((1 : Int32))).toNatClampNeg)]) cf_L_160 dL_law_978 ⟨rfl, rfl⟩ rfl rfl ⟨Nat.le_of_ble_eq_true rfl, Nat.le_of_ble_eq_true rfl⟩ ⟨hk.1, hk.2⟩ (Nat.le_of_ble_eq_true rfl) (fun X' hX => KX4_stopped hX)) rfl rfl rfl rfl ⟨hk.1, hk.2⟩ rfl hF (fun x189 h188 hF => ?_)
          refine jj_istore (i := 7) (ls' := [(7, .int x189), (6, .int x187), (0, .ref 1000000), (1, .ref a1), (2, .ref a2), (3, .ref a3), (4, .ref a4), (5, .int x5)]) (pc' := 983) dL_law_981 (Nat.le_of_ble_eq_true rfl) rfl rfl ?_
          refine jj_aload_n (j := 4) (i := 2) (pc' := 984) dL_law_983 rfl rfl rfl ?_
          refine jj_cI (N := M_X4_thrown) (kc' := (kc + 1)) (ks' := (ks + 6)) (pc' := 987) (jg_V (N := M_X4_thrown) (ci := 4) (rest := []) (as := []) cf_L_113 dL_law_984 ⟨rfl, rfl⟩ rfl rfl ⟨Nat.le_of_ble_eq_true rfl, Nat.le_of_ble_eq_true rfl⟩ ⟨hk.1, hk.2⟩ (Nat.le_of_ble_eq_true rfl) (fun X' hX => KX4_thrown hX)) rfl rfl rfl rfl ⟨hk.1, hk.2⟩ rfl hF (fun x191 h190 hF => ?_)
          refine jj_iload (j := 1) (i := 6) (pc' := 989) dL_law_987 rfl rfl ?_
          refine jj_icmp_eq (tgt := 994) (pc' := 992) dL_law_989 rfl rfl (fun hc hF => ?_) (fun hc hF => ?_) hF
          · skip
            refine jj_iload (j := 1) (i := 6) (pc' := 996) dL_law_994 rfl rfl ?_
            refine jj_if_ne (tgt := 1011) (pc' := 999) dL_law_996 rfl rfl (fun hc hF => ?_) (fun hc hF => ?_) hF
            · skip
              refine jj_goto (tgt := 2070) dL_law_1011 rfl ?_
              refine jj_iinc (i := 5) (j := 7) (v := x5 + (6 : Int32)) (ls' := [(5, .int (x5 + (6 : Int32))), (7, .int x189), (6, .int x187), (0, .ref 1000000), (1, .ref a1), (2, .ref a2), (3, .ref a3), (4, .ref a4)]) (pc' := 2073) dL_law_2070 rfl rfl (Nat.le_of_ble_eq_true rfl) rfl rfl ?_
              refine jj_goto (tgt := 28) dL_law_2073 rfl ?_
              exact jj_pick [3, 4, 5, 6, 7, 0] rfl (ih (kc + 1) (ks + 6) a1 a2 a3 a4 (x5 + (6 : Int32)) h190 _ hF)
            · skip
              refine jj_aload_n (j := 5) (i := 3) (pc' := 1000) dL_law_999 rfl rfl rfl ?_
              refine jj_iconst (v := (0 : Int32)) (pc' := 1001) dL_law_1000 rfl rfl ?_
              refine jj_ldL (pc' := 1002) dL_law_1001 rfl hF (fun l192 hF => ?_)
              refine jj_iload (j := 0) (i := 7) (pc' := 1004) dL_law_1002 rfl rfl ?_
              refine jj_i2l (pc' := 1005) dL_law_1004 rfl ?_
              refine jj_lcmp (pc' := 1006) dL_law_1005 rfl ?_
              refine jj_if_eq (tgt := 1011) (pc' := 1009) dL_law_1006 rfl rfl (fun hc hF => ?_) (fun hc hF => ?_) hF
              · skip
                refine jj_goto (tgt := 2070) dL_law_1011 rfl ?_
                refine jj_iinc (i := 5) (j := 7) (v := x5 + (6 : Int32)) (ls' := [(5, .int (x5 + (6 : Int32))), (7, .int x189), (6, .int x187), (0, .ref 1000000), (1, .ref a1), (2, .ref a2), (3, .ref a3), (4, .ref a4)]) (pc' := 2073) dL_law_2070 rfl rfl (Nat.le_of_ble_eq_true rfl) rfl rfl ?_
                refine jj_goto (tgt := 28) dL_law_2073 rfl ?_
                exact jj_pick [3, 4, 5, 6, 7, 0] rfl (ih (kc + 1) (ks + 6) a1 a2 a3 a4 (x5 + (6 : Int32)) h190 _ hF)
              · skip
                refine jj_iconst (v := (0 : Int32)) (pc' := 1010) dL_law_1009 rfl rfl ?_
                exact jj_retI (ty := .boolean) rfl rfl dL_law_1010 ⟨hk.1, hk.2⟩ hF
          · skip
            refine jj_iconst (v := (0 : Int32)) (pc' := 993) dL_law_992 rfl rfl ?_
            exact jj_retI (ty := .boolean) rfl rfl dL_law_993 ⟨hk.1, hk.2⟩ hF
        | 14, hb, ht =>
          cases hb; cases ht
          refine jj_aload_n (j := 1) (i := 1) (pc' := 1015) dL_law_1014 rfl rfl rfl ?_
          refine jj_aload_n (j := 3) (i := 3) (pc' := 1016) dL_law_1015 rfl rfl rfl ?_
          obtain ⟨hk, hF⟩ := jf_k_inv hF
          refine jj_cI (N := M_L_undo) (kc' := (kc + 1)) (ks' := (ks + 6)) (pc' := 1019) (jg_H (N := M_L_undo) (rest := []) (as := [.ref a1, .ref a3]) cf_L_161 (by decide) dL_law_1016 rfl rfl ⟨Nat.le_of_ble_eq_true rfl, Nat.le_of_ble_eq_true rfl⟩ ⟨hk.1, hk.2⟩ (Nat.le_of_ble_eq_true rfl) (fun X' hX => KL_undo hX)) rfl rfl rfl rfl ⟨hk.1, hk.2⟩ rfl hF (fun x194 h193 hF => ?_)
          refine jj_istore (i := 6) (ls' := [(6, .int x194), (0, .ref 1000000), (1, .ref a1), (2, .ref a2), (3, .ref a3), (4, .ref a4), (5, .int x5)]) (pc' := 1021) dL_law_1019 (Nat.le_of_ble_eq_true rfl) rfl rfl ?_
          refine jj_aload_n (j := 3) (i := 2) (pc' := 1022) dL_law_1021 rfl rfl rfl ?_
          refine jj_cI (N := M_X4_undo) (kc' := (kc + 1)) (ks' := (ks + 6)) (pc' := 1025) (jg_V (N := M_X4_undo) (ci := 4) (rest := []) (as := []) cf_L_163 dL_law_1022 ⟨rfl, rfl⟩ rfl rfl ⟨Nat.le_of_ble_eq_true rfl, Nat.le_of_ble_eq_true rfl⟩ ⟨hk.1, hk.2⟩ (Nat.le_of_ble_eq_true rfl) (fun X' hX => KX4_undo hX)) rfl rfl rfl rfl ⟨hk.1, hk.2⟩ rfl hF (fun x196 h195 hF => ?_)
          refine jj_istore (i := 7) (ls' := [(7, .int x196), (6, .int x194), (0, .ref 1000000), (1, .ref a1), (2, .ref a2), (3, .ref a3), (4, .ref a4), (5, .int x5)]) (pc' := 1027) dL_law_1025 (Nat.le_of_ble_eq_true rfl) rfl rfl ?_
          refine jj_aload_n (j := 4) (i := 2) (pc' := 1028) dL_law_1027 rfl rfl rfl ?_
          refine jj_cI (N := M_X4_thrown) (kc' := (kc + 1)) (ks' := (ks + 6)) (pc' := 1031) (jg_V (N := M_X4_thrown) (ci := 4) (rest := []) (as := []) cf_L_113 dL_law_1028 ⟨rfl, rfl⟩ rfl rfl ⟨Nat.le_of_ble_eq_true rfl, Nat.le_of_ble_eq_true rfl⟩ ⟨hk.1, hk.2⟩ (Nat.le_of_ble_eq_true rfl) (fun X' hX => KX4_thrown hX)) rfl rfl rfl rfl ⟨hk.1, hk.2⟩ rfl hF (fun x198 h197 hF => ?_)
          refine jj_iload (j := 1) (i := 6) (pc' := 1033) dL_law_1031 rfl rfl ?_
          refine jj_icmp_eq (tgt := 1038) (pc' := 1036) dL_law_1033 rfl rfl (fun hc hF => ?_) (fun hc hF => ?_) hF
          · skip
            refine jj_iload (j := 1) (i := 6) (pc' := 1040) dL_law_1038 rfl rfl ?_
            refine jj_if_ne (tgt := 1055) (pc' := 1043) dL_law_1040 rfl rfl (fun hc hF => ?_) (fun hc hF => ?_) hF
            · skip
              refine jj_goto (tgt := 2070) dL_law_1055 rfl ?_
              refine jj_iinc (i := 5) (j := 7) (v := x5 + (6 : Int32)) (ls' := [(5, .int (x5 + (6 : Int32))), (7, .int x196), (6, .int x194), (0, .ref 1000000), (1, .ref a1), (2, .ref a2), (3, .ref a3), (4, .ref a4)]) (pc' := 2073) dL_law_2070 rfl rfl (Nat.le_of_ble_eq_true rfl) rfl rfl ?_
              refine jj_goto (tgt := 28) dL_law_2073 rfl ?_
              exact jj_pick [3, 4, 5, 6, 7, 0] rfl (ih (kc + 1) (ks + 6) a1 a2 a3 a4 (x5 + (6 : Int32)) h197 _ hF)
            · skip
              refine jj_aload_n (j := 5) (i := 3) (pc' := 1044) dL_law_1043 rfl rfl rfl ?_
              refine jj_iconst (v := (0 : Int32)) (pc' := 1045) dL_law_1044 rfl rfl ?_
              refine jj_ldL (pc' := 1046) dL_law_1045 rfl hF (fun l199 hF => ?_)
              refine jj_iload (j := 0) (i := 7) (pc' := 1048) dL_law_1046 rfl rfl ?_
              refine jj_i2l (pc' := 1049) dL_law_1048 rfl ?_
              refine jj_lcmp (pc' := 1050) dL_law_1049 rfl ?_
              refine jj_if_eq (tgt := 1055) (pc' := 1053) dL_law_1050 rfl rfl (fun hc hF => ?_) (fun hc hF => ?_) hF
              · skip
                refine jj_goto (tgt := 2070) dL_law_1055 rfl ?_
                refine jj_iinc (i := 5) (j := 7) (v := x5 + (6 : Int32)) (ls' := [(5, .int (x5 + (6 : Int32))), (7, .int x196), (6, .int x194), (0, .ref 1000000), (1, .ref a1), (2, .ref a2), (3, .ref a3), (4, .ref a4)]) (pc' := 2073) dL_law_2070 rfl rfl (Nat.le_of_ble_eq_true rfl) rfl rfl ?_
                refine jj_goto (tgt := 28) dL_law_2073 rfl ?_
                exact jj_pick [3, 4, 5, 6, 7, 0] rfl (ih (kc + 1) (ks + 6) a1 a2 a3 a4 (x5 + (6 : Int32)) h197 _ hF)
              · skip
                refine jj_iconst (v := (0 : Int32)) (pc' := 1054) dL_law_1053 rfl rfl ?_
                exact jj_retI (ty := .boolean) rfl rfl dL_law_1054 ⟨hk.1, hk.2⟩ hF
          · skip
            refine jj_iconst (v := (0 : Int32)) (pc' := 1037) dL_law_1036 rfl rfl ?_
            exact jj_retI (ty := .boolean) rfl rfl dL_law_1037 ⟨hk.1, hk.2⟩ hF
        | 15, hb, ht =>
          cases hb; cases ht
          refine jj_aload_n (j := 1) (i := 1) (pc' := 1059) dL_law_1058 rfl rfl rfl ?_
          refine jj_cI (N := M_X3_keep) (kc' := kc) (ks' := ks) (pc' := 1062) (jg_V (N := M_X3_keep) (ci := 3) (rest := []) (as := []) cf_L_164 dL_law_1059 ⟨rfl, rfl⟩ rfl rfl ⟨Nat.le_of_ble_eq_true rfl, Nat.le_of_ble_eq_true rfl⟩ ⟨hk.1, hk.2⟩ (Nat.le_of_ble_eq_true rfl) (fun X' hX => KX3_keep hX)) rfl rfl rfl rfl ⟨hk.1, hk.2⟩ rfl hF (fun x201 h200 hF => ?_)
          refine jj_aload_n (j := 2) (i := 2) (pc' := 1063) dL_law_1062 rfl rfl rfl ?_
          refine jj_cI (N := M_X4_keep) (kc' := kc) (ks' := ks) (pc' := 1066) (jg_V (N := M_X4_keep) (ci := 4) (rest := [.int x201]) (as := []) cf_L_167 dL_law_1063 ⟨rfl, rfl⟩ rfl rfl ⟨Nat.le_of_ble_eq_true rfl, Nat.le_of_ble_eq_true rfl⟩ ⟨hk.1, hk.2⟩ (Nat.le_of_ble_eq_true rfl) (fun X' hX => KX4_keep hX)) rfl rfl rfl rfl ⟨hk.1, hk.2⟩ rfl hF (fun x203 h202 hF => ?_)
          refine jj_icmp_eq (tgt := 2070) (pc' := 1069) dL_law_1066 rfl rfl (fun hc hF => ?_) (fun hc hF => ?_) hF
          · skip
            refine jj_iinc (i := 5) (j := 5) (v := x5 + (6 : Int32)) (ls' := [(5, .int (x5 + (6 : Int32))), (0, .ref 1000000), (1, .ref a1), (2, .ref a2), (3, .ref a3), (4, .ref a4)]) (pc' := 2073) dL_law_2070 rfl rfl (Nat.le_of_ble_eq_true rfl) rfl rfl ?_
            refine jj_goto (tgt := 28) dL_law_2073 rfl ?_
            exact jj_pick [1, 2, 3, 4, 5, 0] rfl (ih kc ks a1 a2 a3 a4 (x5 + (6 : Int32)) h202 _ hF)
          · skip
            refine jj_iconst (v := (0 : Int32)) (pc' := 1070) dL_law_1069 rfl rfl ?_
            exact jj_retI (ty := .boolean) rfl rfl dL_law_1070 ⟨hk.1, hk.2⟩ hF
        | 16, hb, ht =>
          cases hb; cases ht
          refine jj_aload_n (j := 1) (i := 1) (pc' := 1072) dL_law_1071 rfl rfl rfl ?_
          refine jj_aload_n (j := 3) (i := 3) (pc' := 1073) dL_law_1072 rfl rfl rfl ?_
          obtain ⟨hk, hF⟩ := jf_k_inv hF
          refine jj_cI (N := M_L_restore) (kc' := (kc + 1)) (ks' := (ks + 6)) (pc' := 1076) (jg_H (N := M_L_restore) (rest := []) (as := [.ref a1, .ref a3]) cf_L_168 (by decide) dL_law_1073 rfl rfl ⟨Nat.le_of_ble_eq_true rfl, Nat.le_of_ble_eq_true rfl⟩ ⟨hk.1, hk.2⟩ (Nat.le_of_ble_eq_true rfl) (fun X' hX => KL_restore hX)) rfl rfl rfl rfl ⟨hk.1, hk.2⟩ rfl hF (fun x205 h204 hF => ?_)
          refine jj_istore (i := 6) (ls' := [(6, .int x205), (0, .ref 1000000), (1, .ref a1), (2, .ref a2), (3, .ref a3), (4, .ref a4), (5, .int x5)]) (pc' := 1078) dL_law_1076 (Nat.le_of_ble_eq_true rfl) rfl rfl ?_
          refine jj_aload_n (j := 3) (i := 2) (pc' := 1079) dL_law_1078 rfl rfl rfl ?_
          refine jj_cI (N := M_X4_restore) (kc' := (kc + 1)) (ks' := (ks + 6)) (pc' := 1082) (jg_V (N := M_X4_restore) (ci := 4) (rest := []) (as := []) cf_L_170 dL_law_1079 ⟨rfl, rfl⟩ rfl rfl ⟨Nat.le_of_ble_eq_true rfl, Nat.le_of_ble_eq_true rfl⟩ ⟨hk.1, hk.2⟩ (Nat.le_of_ble_eq_true rfl) (fun X' hX => KX4_restore hX)) rfl rfl rfl rfl ⟨hk.1, hk.2⟩ rfl hF (fun x207 h206 hF => ?_)
          refine jj_istore (i := 7) (ls' := [(7, .int x207), (6, .int x205), (0, .ref 1000000), (1, .ref a1), (2, .ref a2), (3, .ref a3), (4, .ref a4), (5, .int x5)]) (pc' := 1084) dL_law_1082 (Nat.le_of_ble_eq_true rfl) rfl rfl ?_
          refine jj_aload_n (j := 4) (i := 2) (pc' := 1085) dL_law_1084 rfl rfl rfl ?_
          refine jj_cI (N := M_X4_thrown) (kc' := (kc + 1)) (ks' := (ks + 6)) (pc' := 1088) (jg_V (N := M_X4_thrown) (ci := 4) (rest := []) (as := []) cf_L_113 dL_law_1085 ⟨rfl, rfl⟩ rfl rfl ⟨Nat.le_of_ble_eq_true rfl, Nat.le_of_ble_eq_true rfl⟩ ⟨hk.1, hk.2⟩ (Nat.le_of_ble_eq_true rfl) (fun X' hX => KX4_thrown hX)) rfl rfl rfl rfl ⟨hk.1, hk.2⟩ rfl hF (fun x209 h208 hF => ?_)
          refine jj_iload (j := 1) (i := 6) (pc' := 1090) dL_law_1088 rfl rfl ?_
          refine jj_icmp_eq (tgt := 1095) (pc' := 1093) dL_law_1090 rfl rfl (fun hc hF => ?_) (fun hc hF => ?_) hF
          · skip
            refine jj_iload (j := 1) (i := 6) (pc' := 1097) dL_law_1095 rfl rfl ?_
            refine jj_if_ne (tgt := 1112) (pc' := 1100) dL_law_1097 rfl rfl (fun hc hF => ?_) (fun hc hF => ?_) hF
            · skip
              refine jj_goto (tgt := 2070) dL_law_1112 rfl ?_
              refine jj_iinc (i := 5) (j := 7) (v := x5 + (6 : Int32)) (ls' := [(5, .int (x5 + (6 : Int32))), (7, .int x207), (6, .int x205), (0, .ref 1000000), (1, .ref a1), (2, .ref a2), (3, .ref a3), (4, .ref a4)]) (pc' := 2073) dL_law_2070 rfl rfl (Nat.le_of_ble_eq_true rfl) rfl rfl ?_
              refine jj_goto (tgt := 28) dL_law_2073 rfl ?_
              exact jj_pick [3, 4, 5, 6, 7, 0] rfl (ih (kc + 1) (ks + 6) a1 a2 a3 a4 (x5 + (6 : Int32)) h208 _ hF)
            · skip
              refine jj_aload_n (j := 5) (i := 3) (pc' := 1101) dL_law_1100 rfl rfl rfl ?_
              refine jj_iconst (v := (0 : Int32)) (pc' := 1102) dL_law_1101 rfl rfl ?_
              refine jj_ldL (pc' := 1103) dL_law_1102 rfl hF (fun l210 hF => ?_)
              refine jj_iload (j := 0) (i := 7) (pc' := 1105) dL_law_1103 rfl rfl ?_
              refine jj_i2l (pc' := 1106) dL_law_1105 rfl ?_
              refine jj_lcmp (pc' := 1107) dL_law_1106 rfl ?_
              refine jj_if_eq (tgt := 1112) (pc' := 1110) dL_law_1107 rfl rfl (fun hc hF => ?_) (fun hc hF => ?_) hF
              · skip
                refine jj_goto (tgt := 2070) dL_law_1112 rfl ?_
                refine jj_iinc (i := 5) (j := 7) (v := x5 + (6 : Int32)) (ls' := [(5, .int (x5 + (6 : Int32))), (7, .int x207), (6, .int x205), (0, .ref 1000000), (1, .ref a1), (2, .ref a2), (3, .ref a3), (4, .ref a4)]) (pc' := 2073) dL_law_2070 rfl rfl (Nat.le_of_ble_eq_true rfl) rfl rfl ?_
                refine jj_goto (tgt := 28) dL_law_2073 rfl ?_
                exact jj_pick [3, 4, 5, 6, 7, 0] rfl (ih (kc + 1) (ks + 6) a1 a2 a3 a4 (x5 + (6 : Int32)) h208 _ hF)
              · skip
                refine jj_iconst (v := (0 : Int32)) (pc' := 1111) dL_law_1110 rfl rfl ?_
                exact jj_retI (ty := .boolean) rfl rfl dL_law_1111 ⟨hk.1, hk.2⟩ hF
          · skip
            refine jj_iconst (v := (0 : Int32)) (pc' := 1094) dL_law_1093 rfl rfl ?_
            exact jj_retI (ty := .boolean) rfl rfl dL_law_1094 ⟨hk.1, hk.2⟩ hF
        | 17, hb, ht =>
          cases hb; cases ht
          refine jj_aload_n (j := 1) (i := 1) (pc' := 1116) dL_law_1115 rfl rfl rfl ?_
          refine jj_aload_n (j := 0) (i := 0) (pc' := 1117) dL_law_1116 rfl rfl rfl ?_
          refine jj_iload (j := 5) (i := 5) (pc' := 1119) dL_law_1117 rfl rfl ?_
          refine jj_iconst (v := (1 : Int32)) (pc' := 1120) dL_law_1119 rfl rfl ?_
          refine jj_iadd (pc' := 1121) dL_law_1120 rfl ?_
          obtain ⟨hi, hF⟩ := jf_s_inv hF
          refine jj_sld (L := L) (xs := xs) (pc' := 1122) dL_law_1121 rfl hi rfl ?_
          refine jj_aload_n (j := 0) (i := 0) (pc' := 1123) dL_law_1122 rfl rfl rfl ?_
          refine jj_iload (j := 5) (i := 5) (pc' := 1125) dL_law_1123 rfl rfl ?_
          refine jj_iconst (v := (2 : Int32)) (pc' := 1126) dL_law_1125 rfl rfl ?_
          refine jj_iadd (pc' := 1127) dL_law_1126 rfl ?_
          obtain ⟨hi, hF⟩ := jf_s_inv hF
          refine jj_sld (L := L) (xs := xs) (pc' := 1128) dL_law_1127 rfl hi rfl ?_
          refine jj_aload_n (j := 3) (i := 3) (pc' := 1129) dL_law_1128 rfl rfl rfl ?_
          obtain ⟨hk, hF⟩ := jf_k_inv hF
          refine jj_cI (N := M_L_filmOf) (kc' := (kc + 2)) (ks' := (ks + 12)) (pc' := 1132) (jg_H (N := M_L_filmOf) (rest := []) (as := [.ref a1, .int (xs (x5 + ((1 : Int32))).toNatClampNeg), .int (xs (x5 + ((2 : Int32))).toNatClampNeg), .ref a3]) cf_L_171 (by decide) dL_law_1129 rfl rfl ⟨Nat.le_of_ble_eq_true rfl, Nat.le_of_ble_eq_true rfl⟩ ⟨hk.1, hk.2⟩ (Nat.le_of_ble_eq_true rfl) (fun X' hX => KL_filmOf hX)) rfl rfl rfl rfl ⟨hk.1, hk.2⟩ rfl hF (fun x212 h211 hF => ?_)
          refine jj_istore (i := 6) (ls' := [(6, .int x212), (0, .ref 1000000), (1, .ref a1), (2, .ref a2), (3, .ref a3), (4, .ref a4), (5, .int x5)]) (pc' := 1134) dL_law_1132 (Nat.le_of_ble_eq_true rfl) rfl rfl ?_
          refine jj_aload_n (j := 3) (i := 2) (pc' := 1135) dL_law_1134 rfl rfl rfl ?_
          refine jj_aload_n (j := 1) (i := 0) (pc' := 1136) dL_law_1135 rfl rfl rfl ?_
          refine jj_iload (j := 6) (i := 5) (pc' := 1138) dL_law_1136 rfl rfl ?_
          refine jj_iconst (v := (1 : Int32)) (pc' := 1139) dL_law_1138 rfl rfl ?_
          refine jj_iadd (pc' := 1140) dL_law_1139 rfl ?_
          obtain ⟨hi, hF⟩ := jf_s_inv hF
          refine jj_sld (L := L) (xs := xs) (pc' := 1141) dL_law_1140 rfl hi rfl ?_
          refine jj_aload_n (j := 1) (i := 0) (pc' := 1142) dL_law_1141 rfl rfl rfl ?_
          refine jj_iload (j := 6) (i := 5) (pc' := 1144) dL_law_1142 rfl rfl ?_
          refine jj_iconst (v := (2 : Int32)) (pc' := 1145) dL_law_1144 rfl rfl ?_
          refine jj_iadd (pc' := 1146) dL_law_1145 rfl ?_
          obtain ⟨hi, hF⟩ := jf_s_inv hF
          refine jj_sld (L := L) (xs := xs) (pc' := 1147) dL_law_1146 rfl hi rfl ?_
          refine jj_cI (N := M_X4_filmOf) (kc' := (kc + 2)) (ks' := (ks + 12)) (pc' := 1150) (jg_V (N := M_X4_filmOf) (ci := 4) (rest := []) (as := [.int (xs (x5 + ((1 : Int32))).toNatClampNeg), .int (xs (x5 + ((2 : Int32))).toNatClampNeg)]) cf_L_173 dL_law_1147 ⟨rfl, rfl⟩ rfl rfl ⟨Nat.le_of_ble_eq_true rfl, Nat.le_of_ble_eq_true rfl⟩ ⟨hk.1, hk.2⟩ (Nat.le_of_ble_eq_true rfl) (fun X' hX => KX4_filmOf hX)) rfl rfl rfl rfl ⟨hk.1, hk.2⟩ rfl hF (fun x214 h213 hF => ?_)
          refine jj_istore (i := 7) (ls' := [(7, .int x214), (6, .int x212), (0, .ref 1000000), (1, .ref a1), (2, .ref a2), (3, .ref a3), (4, .ref a4), (5, .int x5)]) (pc' := 1152) dL_law_1150 (Nat.le_of_ble_eq_true rfl) rfl rfl ?_
          refine jj_aload_n (j := 4) (i := 2) (pc' := 1153) dL_law_1152 rfl rfl rfl ?_
          refine jj_cI (N := M_X4_thrown) (kc' := (kc + 2)) (ks' := (ks + 12)) (pc' := 1156) (jg_V (N := M_X4_thrown) (ci := 4) (rest := []) (as := []) cf_L_113 dL_law_1153 ⟨rfl, rfl⟩ rfl rfl ⟨Nat.le_of_ble_eq_true rfl, Nat.le_of_ble_eq_true rfl⟩ ⟨hk.1, hk.2⟩ (Nat.le_of_ble_eq_true rfl) (fun X' hX => KX4_thrown hX)) rfl rfl rfl rfl ⟨hk.1, hk.2⟩ rfl hF (fun x216 h215 hF => ?_)
          refine jj_iload (j := 1) (i := 6) (pc' := 1158) dL_law_1156 rfl rfl ?_
          refine jj_icmp_eq (tgt := 1163) (pc' := 1161) dL_law_1158 rfl rfl (fun hc hF => ?_) (fun hc hF => ?_) hF
          · skip
            refine jj_iload (j := 1) (i := 6) (pc' := 1165) dL_law_1163 rfl rfl ?_
            refine jj_if_ne (tgt := 1180) (pc' := 1168) dL_law_1165 rfl rfl (fun hc hF => ?_) (fun hc hF => ?_) hF
            · skip
              refine jj_goto (tgt := 2070) dL_law_1180 rfl ?_
              refine jj_iinc (i := 5) (j := 7) (v := x5 + (6 : Int32)) (ls' := [(5, .int (x5 + (6 : Int32))), (7, .int x214), (6, .int x212), (0, .ref 1000000), (1, .ref a1), (2, .ref a2), (3, .ref a3), (4, .ref a4)]) (pc' := 2073) dL_law_2070 rfl rfl (Nat.le_of_ble_eq_true rfl) rfl rfl ?_
              refine jj_goto (tgt := 28) dL_law_2073 rfl ?_
              exact jj_pick [3, 4, 5, 6, 7, 0] rfl (ih (kc + 2) (ks + 12) a1 a2 a3 a4 (x5 + (6 : Int32)) h215 _ hF)
            · skip
              refine jj_aload_n (j := 5) (i := 3) (pc' := 1169) dL_law_1168 rfl rfl rfl ?_
              refine jj_iconst (v := (0 : Int32)) (pc' := 1170) dL_law_1169 rfl rfl ?_
              refine jj_ldL (pc' := 1171) dL_law_1170 rfl hF (fun l217 hF => ?_)
              refine jj_iload (j := 0) (i := 7) (pc' := 1173) dL_law_1171 rfl rfl ?_
              refine jj_i2l (pc' := 1174) dL_law_1173 rfl ?_
              refine jj_lcmp (pc' := 1175) dL_law_1174 rfl ?_
              refine jj_if_eq (tgt := 1180) (pc' := 1178) dL_law_1175 rfl rfl (fun hc hF => ?_) (fun hc hF => ?_) hF
              · skip
                refine jj_goto (tgt := 2070) dL_law_1180 rfl ?_
                refine jj_iinc (i := 5) (j := 7) (v := x5 + (6 : Int32)) (ls' := [(5, .int (x5 + (6 : Int32))), (7, .int x214), (6, .int x212), (0, .ref 1000000), (1, .ref a1), (2, .ref a2), (3, .ref a3), (4, .ref a4)]) (pc' := 2073) dL_law_2070 rfl rfl (Nat.le_of_ble_eq_true rfl) rfl rfl ?_
                refine jj_goto (tgt := 28) dL_law_2073 rfl ?_
                exact jj_pick [3, 4, 5, 6, 7, 0] rfl (ih (kc + 2) (ks + 12) a1 a2 a3 a4 (x5 + (6 : Int32)) h215 _ hF)
              · skip
                refine jj_iconst (v := (0 : Int32)) (pc' := 1179) dL_law_1178 rfl rfl ?_
                exact jj_retI (ty := .boolean) rfl rfl dL_law_1179 ⟨hk.1, hk.2⟩ hF
          · skip
            refine jj_iconst (v := (0 : Int32)) (pc' := 1162) dL_law_1161 rfl rfl ?_
            exact jj_retI (ty := .boolean) rfl rfl dL_law_1162 ⟨hk.1, hk.2⟩ hF
        | 18, hb, ht =>
          cases hb; cases ht
          refine jj_aload_n (j := 1) (i := 1) (pc' := 1184) dL_law_1183 rfl rfl rfl ?_
          refine jj_aload_n (j := 0) (i := 0) (pc' := 1185) dL_law_1184 rfl rfl rfl ?_
          refine jj_iload (j := 5) (i := 5) (pc' := 1187) dL_law_1185 rfl rfl ?_
          refine jj_iconst (v := (1 : Int32)) (pc' := 1188) dL_law_1187 rfl rfl ?_
          refine jj_iadd (pc' := 1189) dL_law_1188 rfl ?_
          obtain ⟨hi, hF⟩ := jf_s_inv hF
          refine jj_sld (L := L) (xs := xs) (pc' := 1190) dL_law_1189 rfl hi rfl ?_
          refine jj_aload_n (j := 0) (i := 0) (pc' := 1191) dL_law_1190 rfl rfl rfl ?_
          refine jj_iload (j := 5) (i := 5) (pc' := 1193) dL_law_1191 rfl rfl ?_
          refine jj_iconst (v := (2 : Int32)) (pc' := 1194) dL_law_1193 rfl rfl ?_
          refine jj_iadd (pc' := 1195) dL_law_1194 rfl ?_
          obtain ⟨hi, hF⟩ := jf_s_inv hF
          refine jj_sld (L := L) (xs := xs) (pc' := 1196) dL_law_1195 rfl hi rfl ?_
          refine jj_aload_n (j := 3) (i := 3) (pc' := 1197) dL_law_1196 rfl rfl rfl ?_
          obtain ⟨hk, hF⟩ := jf_k_inv hF
          refine jj_cI (N := M_L_showing) (kc' := (kc + 2)) (ks' := (ks + 12)) (pc' := 1200) (jg_H (N := M_L_showing) (rest := []) (as := [.ref a1, .int (xs (x5 + ((1 : Int32))).toNatClampNeg), .int (xs (x5 + ((2 : Int32))).toNatClampNeg), .ref a3]) cf_L_174 (by decide) dL_law_1197 rfl rfl ⟨Nat.le_of_ble_eq_true rfl, Nat.le_of_ble_eq_true rfl⟩ ⟨hk.1, hk.2⟩ (Nat.le_of_ble_eq_true rfl) (fun X' hX => KL_showing hX)) rfl rfl rfl rfl ⟨hk.1, hk.2⟩ rfl hF (fun x219 h218 hF => ?_)
          refine jj_istore (i := 6) (ls' := [(6, .int x219), (0, .ref 1000000), (1, .ref a1), (2, .ref a2), (3, .ref a3), (4, .ref a4), (5, .int x5)]) (pc' := 1202) dL_law_1200 (Nat.le_of_ble_eq_true rfl) rfl rfl ?_
          refine jj_aload_n (j := 3) (i := 2) (pc' := 1203) dL_law_1202 rfl rfl rfl ?_
          refine jj_aload_n (j := 1) (i := 0) (pc' := 1204) dL_law_1203 rfl rfl rfl ?_
          refine jj_iload (j := 6) (i := 5) (pc' := 1206) dL_law_1204 rfl rfl ?_
          refine jj_iconst (v := (1 : Int32)) (pc' := 1207) dL_law_1206 rfl rfl ?_
          refine jj_iadd (pc' := 1208) dL_law_1207 rfl ?_
          obtain ⟨hi, hF⟩ := jf_s_inv hF
          refine jj_sld (L := L) (xs := xs) (pc' := 1209) dL_law_1208 rfl hi rfl ?_
          refine jj_aload_n (j := 1) (i := 0) (pc' := 1210) dL_law_1209 rfl rfl rfl ?_
          refine jj_iload (j := 6) (i := 5) (pc' := 1212) dL_law_1210 rfl rfl ?_
          refine jj_iconst (v := (2 : Int32)) (pc' := 1213) dL_law_1212 rfl rfl ?_
          refine jj_iadd (pc' := 1214) dL_law_1213 rfl ?_
          obtain ⟨hi, hF⟩ := jf_s_inv hF
          refine jj_sld (L := L) (xs := xs) (pc' := 1215) dL_law_1214 rfl hi rfl ?_
          refine jj_cI (N := M_X4_showing) (kc' := (kc + 2)) (ks' := (ks + 12)) (pc' := 1218) (jg_V (N := M_X4_showing) (ci := 4) (rest := []) (as := [.int (xs (x5 + ((1 : Int32))).toNatClampNeg), .int (xs (x5 + ((2 : Int32))).toNatClampNeg)]) cf_L_176 dL_law_1215 ⟨rfl, rfl⟩ rfl rfl ⟨Nat.le_of_ble_eq_true rfl, Nat.le_of_ble_eq_true rfl⟩ ⟨hk.1, hk.2⟩ (Nat.le_of_ble_eq_true rfl) (fun X' hX => KX4_showing hX)) rfl rfl rfl rfl ⟨hk.1, hk.2⟩ rfl hF (fun x221 h220 hF => ?_)
          refine jj_istore (i := 7) (ls' := [(7, .int x221), (6, .int x219), (0, .ref 1000000), (1, .ref a1), (2, .ref a2), (3, .ref a3), (4, .ref a4), (5, .int x5)]) (pc' := 1220) dL_law_1218 (Nat.le_of_ble_eq_true rfl) rfl rfl ?_
          refine jj_aload_n (j := 4) (i := 2) (pc' := 1221) dL_law_1220 rfl rfl rfl ?_
          refine jj_cI (N := M_X4_thrown) (kc' := (kc + 2)) (ks' := (ks + 12)) (pc' := 1224) (jg_V (N := M_X4_thrown) (ci := 4) (rest := []) (as := []) cf_L_113 dL_law_1221 ⟨rfl, rfl⟩ rfl rfl ⟨Nat.le_of_ble_eq_true rfl, Nat.le_of_ble_eq_true rfl⟩ ⟨hk.1, hk.2⟩ (Nat.le_of_ble_eq_true rfl) (fun X' hX => KX4_thrown hX)) rfl rfl rfl rfl ⟨hk.1, hk.2⟩ rfl hF (fun x223 h222 hF => ?_)
          refine jj_iload (j := 1) (i := 6) (pc' := 1226) dL_law_1224 rfl rfl ?_
          refine jj_icmp_eq (tgt := 1231) (pc' := 1229) dL_law_1226 rfl rfl (fun hc hF => ?_) (fun hc hF => ?_) hF
          · skip
            refine jj_iload (j := 1) (i := 6) (pc' := 1233) dL_law_1231 rfl rfl ?_
            refine jj_if_ne (tgt := 1248) (pc' := 1236) dL_law_1233 rfl rfl (fun hc hF => ?_) (fun hc hF => ?_) hF
            · skip
              refine jj_goto (tgt := 2070) dL_law_1248 rfl ?_
              refine jj_iinc (i := 5) (j := 7) (v := x5 + (6 : Int32)) (ls' := [(5, .int (x5 + (6 : Int32))), (7, .int x221), (6, .int x219), (0, .ref 1000000), (1, .ref a1), (2, .ref a2), (3, .ref a3), (4, .ref a4)]) (pc' := 2073) dL_law_2070 rfl rfl (Nat.le_of_ble_eq_true rfl) rfl rfl ?_
              refine jj_goto (tgt := 28) dL_law_2073 rfl ?_
              exact jj_pick [3, 4, 5, 6, 7, 0] rfl (ih (kc + 2) (ks + 12) a1 a2 a3 a4 (x5 + (6 : Int32)) h222 _ hF)
            · skip
              refine jj_aload_n (j := 5) (i := 3) (pc' := 1237) dL_law_1236 rfl rfl rfl ?_
              refine jj_iconst (v := (0 : Int32)) (pc' := 1238) dL_law_1237 rfl rfl ?_
              refine jj_ldL (pc' := 1239) dL_law_1238 rfl hF (fun l224 hF => ?_)
              refine jj_iload (j := 0) (i := 7) (pc' := 1241) dL_law_1239 rfl rfl ?_
              refine jj_i2l (pc' := 1242) dL_law_1241 rfl ?_
              refine jj_lcmp (pc' := 1243) dL_law_1242 rfl ?_
              refine jj_if_eq (tgt := 1248) (pc' := 1246) dL_law_1243 rfl rfl (fun hc hF => ?_) (fun hc hF => ?_) hF
              · skip
                refine jj_goto (tgt := 2070) dL_law_1248 rfl ?_
                refine jj_iinc (i := 5) (j := 7) (v := x5 + (6 : Int32)) (ls' := [(5, .int (x5 + (6 : Int32))), (7, .int x221), (6, .int x219), (0, .ref 1000000), (1, .ref a1), (2, .ref a2), (3, .ref a3), (4, .ref a4)]) (pc' := 2073) dL_law_2070 rfl rfl (Nat.le_of_ble_eq_true rfl) rfl rfl ?_
                refine jj_goto (tgt := 28) dL_law_2073 rfl ?_
                exact jj_pick [3, 4, 5, 6, 7, 0] rfl (ih (kc + 2) (ks + 12) a1 a2 a3 a4 (x5 + (6 : Int32)) h222 _ hF)
              · skip
                refine jj_iconst (v := (0 : Int32)) (pc' := 1247) dL_law_1246 rfl rfl ?_
                exact jj_retI (ty := .boolean) rfl rfl dL_law_1247 ⟨hk.1, hk.2⟩ hF
          · skip
            refine jj_iconst (v := (0 : Int32)) (pc' := 1230) dL_law_1229 rfl rfl ?_
            exact jj_retI (ty := .boolean) rfl rfl dL_law_1230 ⟨hk.1, hk.2⟩ hF
        | 19, hb, ht =>
          cases hb; cases ht
          refine jj_aload_n (j := 1) (i := 1) (pc' := 1252) dL_law_1251 rfl rfl rfl ?_
          refine jj_aload_n (j := 0) (i := 0) (pc' := 1253) dL_law_1252 rfl rfl rfl ?_
          refine jj_iload (j := 5) (i := 5) (pc' := 1255) dL_law_1253 rfl rfl ?_
          refine jj_iconst (v := (1 : Int32)) (pc' := 1256) dL_law_1255 rfl rfl ?_
          refine jj_iadd (pc' := 1257) dL_law_1256 rfl ?_
          obtain ⟨hi, hF⟩ := jf_s_inv hF
          refine jj_sld (L := L) (xs := xs) (pc' := 1258) dL_law_1257 rfl hi rfl ?_
          refine jj_aload_n (j := 0) (i := 0) (pc' := 1259) dL_law_1258 rfl rfl rfl ?_
          refine jj_iload (j := 5) (i := 5) (pc' := 1261) dL_law_1259 rfl rfl ?_
          refine jj_iconst (v := (2 : Int32)) (pc' := 1262) dL_law_1261 rfl rfl ?_
          refine jj_iadd (pc' := 1263) dL_law_1262 rfl ?_
          obtain ⟨hi, hF⟩ := jf_s_inv hF
          refine jj_sld (L := L) (xs := xs) (pc' := 1264) dL_law_1263 rfl hi rfl ?_
          refine jj_aload_n (j := 3) (i := 3) (pc' := 1265) dL_law_1264 rfl rfl rfl ?_
          obtain ⟨hk, hF⟩ := jf_k_inv hF
          refine jj_cI (N := M_L_reel) (kc' := (kc + 2)) (ks' := (ks + 12)) (pc' := 1268) (jg_H (N := M_L_reel) (rest := []) (as := [.ref a1, .int (xs (x5 + ((1 : Int32))).toNatClampNeg), .int (xs (x5 + ((2 : Int32))).toNatClampNeg), .ref a3]) cf_L_177 (by decide) dL_law_1265 rfl rfl ⟨Nat.le_of_ble_eq_true rfl, Nat.le_of_ble_eq_true rfl⟩ ⟨hk.1, hk.2⟩ (Nat.le_of_ble_eq_true rfl) (fun X' hX => KL_reel hX)) rfl rfl rfl rfl ⟨hk.1, hk.2⟩ rfl hF (fun x226 h225 hF => ?_)
          refine jj_istore (i := 6) (ls' := [(6, .int x226), (0, .ref 1000000), (1, .ref a1), (2, .ref a2), (3, .ref a3), (4, .ref a4), (5, .int x5)]) (pc' := 1270) dL_law_1268 (Nat.le_of_ble_eq_true rfl) rfl rfl ?_
          refine jj_aload_n (j := 3) (i := 2) (pc' := 1271) dL_law_1270 rfl rfl rfl ?_
          refine jj_aload_n (j := 1) (i := 0) (pc' := 1272) dL_law_1271 rfl rfl rfl ?_
          refine jj_iload (j := 6) (i := 5) (pc' := 1274) dL_law_1272 rfl rfl ?_
          refine jj_iconst (v := (1 : Int32)) (pc' := 1275) dL_law_1274 rfl rfl ?_
          refine jj_iadd (pc' := 1276) dL_law_1275 rfl ?_
          obtain ⟨hi, hF⟩ := jf_s_inv hF
          refine jj_sld (L := L) (xs := xs) (pc' := 1277) dL_law_1276 rfl hi rfl ?_
          refine jj_aload_n (j := 1) (i := 0) (pc' := 1278) dL_law_1277 rfl rfl rfl ?_
          refine jj_iload (j := 6) (i := 5) (pc' := 1280) dL_law_1278 rfl rfl ?_
          refine jj_iconst (v := (2 : Int32)) (pc' := 1281) dL_law_1280 rfl rfl ?_
          refine jj_iadd (pc' := 1282) dL_law_1281 rfl ?_
          obtain ⟨hi, hF⟩ := jf_s_inv hF
          refine jj_sld (L := L) (xs := xs) (pc' := 1283) dL_law_1282 rfl hi rfl ?_
          refine jj_cI (N := M_X4_reel) (kc' := (kc + 2)) (ks' := (ks + 12)) (pc' := 1286) (jg_V (N := M_X4_reel) (ci := 4) (rest := []) (as := [.int (xs (x5 + ((1 : Int32))).toNatClampNeg), .int (xs (x5 + ((2 : Int32))).toNatClampNeg)]) cf_L_179 dL_law_1283 ⟨rfl, rfl⟩ rfl rfl ⟨Nat.le_of_ble_eq_true rfl, Nat.le_of_ble_eq_true rfl⟩ ⟨hk.1, hk.2⟩ (Nat.le_of_ble_eq_true rfl) (fun X' hX => KX4_reel hX)) rfl rfl rfl rfl ⟨hk.1, hk.2⟩ rfl hF (fun x228 h227 hF => ?_)
          refine jj_istore (i := 7) (ls' := [(7, .int x228), (6, .int x226), (0, .ref 1000000), (1, .ref a1), (2, .ref a2), (3, .ref a3), (4, .ref a4), (5, .int x5)]) (pc' := 1288) dL_law_1286 (Nat.le_of_ble_eq_true rfl) rfl rfl ?_
          refine jj_aload_n (j := 4) (i := 2) (pc' := 1289) dL_law_1288 rfl rfl rfl ?_
          refine jj_cI (N := M_X4_thrown) (kc' := (kc + 2)) (ks' := (ks + 12)) (pc' := 1292) (jg_V (N := M_X4_thrown) (ci := 4) (rest := []) (as := []) cf_L_113 dL_law_1289 ⟨rfl, rfl⟩ rfl rfl ⟨Nat.le_of_ble_eq_true rfl, Nat.le_of_ble_eq_true rfl⟩ ⟨hk.1, hk.2⟩ (Nat.le_of_ble_eq_true rfl) (fun X' hX => KX4_thrown hX)) rfl rfl rfl rfl ⟨hk.1, hk.2⟩ rfl hF (fun x230 h229 hF => ?_)
          refine jj_iload (j := 1) (i := 6) (pc' := 1294) dL_law_1292 rfl rfl ?_
          refine jj_icmp_eq (tgt := 1299) (pc' := 1297) dL_law_1294 rfl rfl (fun hc hF => ?_) (fun hc hF => ?_) hF
          · skip
            refine jj_iload (j := 1) (i := 6) (pc' := 1301) dL_law_1299 rfl rfl ?_
            refine jj_if_ne (tgt := 1316) (pc' := 1304) dL_law_1301 rfl rfl (fun hc hF => ?_) (fun hc hF => ?_) hF
            · skip
              refine jj_goto (tgt := 2070) dL_law_1316 rfl ?_
              refine jj_iinc (i := 5) (j := 7) (v := x5 + (6 : Int32)) (ls' := [(5, .int (x5 + (6 : Int32))), (7, .int x228), (6, .int x226), (0, .ref 1000000), (1, .ref a1), (2, .ref a2), (3, .ref a3), (4, .ref a4)]) (pc' := 2073) dL_law_2070 rfl rfl (Nat.le_of_ble_eq_true rfl) rfl rfl ?_
              refine jj_goto (tgt := 28) dL_law_2073 rfl ?_
              exact jj_pick [3, 4, 5, 6, 7, 0] rfl (ih (kc + 2) (ks + 12) a1 a2 a3 a4 (x5 + (6 : Int32)) h229 _ hF)
            · skip
              refine jj_aload_n (j := 5) (i := 3) (pc' := 1305) dL_law_1304 rfl rfl rfl ?_
              refine jj_iconst (v := (0 : Int32)) (pc' := 1306) dL_law_1305 rfl rfl ?_
              refine jj_ldL (pc' := 1307) dL_law_1306 rfl hF (fun l231 hF => ?_)
              refine jj_iload (j := 0) (i := 7) (pc' := 1309) dL_law_1307 rfl rfl ?_
              refine jj_i2l (pc' := 1310) dL_law_1309 rfl ?_
              refine jj_lcmp (pc' := 1311) dL_law_1310 rfl ?_
              refine jj_if_eq (tgt := 1316) (pc' := 1314) dL_law_1311 rfl rfl (fun hc hF => ?_) (fun hc hF => ?_) hF
              · skip
                refine jj_goto (tgt := 2070) dL_law_1316 rfl ?_
                refine jj_iinc (i := 5) (j := 7) (v := x5 + (6 : Int32)) (ls' := [(5, .int (x5 + (6 : Int32))), (7, .int x228), (6, .int x226), (0, .ref 1000000), (1, .ref a1), (2, .ref a2), (3, .ref a3), (4, .ref a4)]) (pc' := 2073) dL_law_2070 rfl rfl (Nat.le_of_ble_eq_true rfl) rfl rfl ?_
                refine jj_goto (tgt := 28) dL_law_2073 rfl ?_
                exact jj_pick [3, 4, 5, 6, 7, 0] rfl (ih (kc + 2) (ks + 12) a1 a2 a3 a4 (x5 + (6 : Int32)) h229 _ hF)
              · skip
                refine jj_iconst (v := (0 : Int32)) (pc' := 1315) dL_law_1314 rfl rfl ?_
                exact jj_retI (ty := .boolean) rfl rfl dL_law_1315 ⟨hk.1, hk.2⟩ hF
          · skip
            refine jj_iconst (v := (0 : Int32)) (pc' := 1298) dL_law_1297 rfl rfl ?_
            exact jj_retI (ty := .boolean) rfl rfl dL_law_1298 ⟨hk.1, hk.2⟩ hF
        | 20, hb, ht =>
          cases hb; cases ht
          refine jj_aload_n (j := 1) (i := 1) (pc' := 1320) dL_law_1319 rfl rfl rfl ?_
          refine jj_aload_n (j := 0) (i := 0) (pc' := 1321) dL_law_1320 rfl rfl rfl ?_
          refine jj_iload (j := 5) (i := 5) (pc' := 1323) dL_law_1321 rfl rfl ?_
          refine jj_iconst (v := (1 : Int32)) (pc' := 1324) dL_law_1323 rfl rfl ?_
          refine jj_iadd (pc' := 1325) dL_law_1324 rfl ?_
          obtain ⟨hi, hF⟩ := jf_s_inv hF
          refine jj_sld (L := L) (xs := xs) (pc' := 1326) dL_law_1325 rfl hi rfl ?_
          refine jj_aload_n (j := 0) (i := 0) (pc' := 1327) dL_law_1326 rfl rfl rfl ?_
          refine jj_iload (j := 5) (i := 5) (pc' := 1329) dL_law_1327 rfl rfl ?_
          refine jj_iconst (v := (2 : Int32)) (pc' := 1330) dL_law_1329 rfl rfl ?_
          refine jj_iadd (pc' := 1331) dL_law_1330 rfl ?_
          obtain ⟨hi, hF⟩ := jf_s_inv hF
          refine jj_sld (L := L) (xs := xs) (pc' := 1332) dL_law_1331 rfl hi rfl ?_
          refine jj_aload_n (j := 3) (i := 3) (pc' := 1333) dL_law_1332 rfl rfl rfl ?_
          obtain ⟨hk, hF⟩ := jf_k_inv hF
          refine jj_cI (N := M_L_runs) (kc' := (kc + 2)) (ks' := (ks + 12)) (pc' := 1336) (jg_H (N := M_L_runs) (rest := []) (as := [.ref a1, .int (xs (x5 + ((1 : Int32))).toNatClampNeg), .int (xs (x5 + ((2 : Int32))).toNatClampNeg), .ref a3]) cf_L_180 (by decide) dL_law_1333 rfl rfl ⟨Nat.le_of_ble_eq_true rfl, Nat.le_of_ble_eq_true rfl⟩ ⟨hk.1, hk.2⟩ (Nat.le_of_ble_eq_true rfl) (fun X' hX => KL_runs hX)) rfl rfl rfl rfl ⟨hk.1, hk.2⟩ rfl hF (fun x233 h232 hF => ?_)
          refine jj_istore (i := 6) (ls' := [(6, .int x233), (0, .ref 1000000), (1, .ref a1), (2, .ref a2), (3, .ref a3), (4, .ref a4), (5, .int x5)]) (pc' := 1338) dL_law_1336 (Nat.le_of_ble_eq_true rfl) rfl rfl ?_
          refine jj_aload_n (j := 3) (i := 2) (pc' := 1339) dL_law_1338 rfl rfl rfl ?_
          refine jj_aload_n (j := 1) (i := 0) (pc' := 1340) dL_law_1339 rfl rfl rfl ?_
          refine jj_iload (j := 6) (i := 5) (pc' := 1342) dL_law_1340 rfl rfl ?_
          refine jj_iconst (v := (1 : Int32)) (pc' := 1343) dL_law_1342 rfl rfl ?_
          refine jj_iadd (pc' := 1344) dL_law_1343 rfl ?_
          obtain ⟨hi, hF⟩ := jf_s_inv hF
          refine jj_sld (L := L) (xs := xs) (pc' := 1345) dL_law_1344 rfl hi rfl ?_
          refine jj_aload_n (j := 1) (i := 0) (pc' := 1346) dL_law_1345 rfl rfl rfl ?_
          refine jj_iload (j := 6) (i := 5) (pc' := 1348) dL_law_1346 rfl rfl ?_
          refine jj_iconst (v := (2 : Int32)) (pc' := 1349) dL_law_1348 rfl rfl ?_
          refine jj_iadd (pc' := 1350) dL_law_1349 rfl ?_
          obtain ⟨hi, hF⟩ := jf_s_inv hF
          refine jj_sld (L := L) (xs := xs) (pc' := 1351) dL_law_1350 rfl hi rfl ?_
          refine jj_cI (N := M_X4_runs) (kc' := (kc + 2)) (ks' := (ks + 12)) (pc' := 1354) (jg_V (N := M_X4_runs) (ci := 4) (rest := []) (as := [.int (xs (x5 + ((1 : Int32))).toNatClampNeg), .int (xs (x5 + ((2 : Int32))).toNatClampNeg)]) cf_L_182 dL_law_1351 ⟨rfl, rfl⟩ rfl rfl ⟨Nat.le_of_ble_eq_true rfl, Nat.le_of_ble_eq_true rfl⟩ ⟨hk.1, hk.2⟩ (Nat.le_of_ble_eq_true rfl) (fun X' hX => KX4_runs hX)) rfl rfl rfl rfl ⟨hk.1, hk.2⟩ rfl hF (fun x235 h234 hF => ?_)
          refine jj_istore (i := 7) (ls' := [(7, .int x235), (6, .int x233), (0, .ref 1000000), (1, .ref a1), (2, .ref a2), (3, .ref a3), (4, .ref a4), (5, .int x5)]) (pc' := 1356) dL_law_1354 (Nat.le_of_ble_eq_true rfl) rfl rfl ?_
          refine jj_aload_n (j := 4) (i := 2) (pc' := 1357) dL_law_1356 rfl rfl rfl ?_
          refine jj_cI (N := M_X4_thrown) (kc' := (kc + 2)) (ks' := (ks + 12)) (pc' := 1360) (jg_V (N := M_X4_thrown) (ci := 4) (rest := []) (as := []) cf_L_113 dL_law_1357 ⟨rfl, rfl⟩ rfl rfl ⟨Nat.le_of_ble_eq_true rfl, Nat.le_of_ble_eq_true rfl⟩ ⟨hk.1, hk.2⟩ (Nat.le_of_ble_eq_true rfl) (fun X' hX => KX4_thrown hX)) rfl rfl rfl rfl ⟨hk.1, hk.2⟩ rfl hF (fun x237 h236 hF => ?_)
          refine jj_iload (j := 1) (i := 6) (pc' := 1362) dL_law_1360 rfl rfl ?_
          refine jj_icmp_eq (tgt := 1367) (pc' := 1365) dL_law_1362 rfl rfl (fun hc hF => ?_) (fun hc hF => ?_) hF
          · skip
            refine jj_iload (j := 1) (i := 6) (pc' := 1369) dL_law_1367 rfl rfl ?_
            refine jj_if_ne (tgt := 1384) (pc' := 1372) dL_law_1369 rfl rfl (fun hc hF => ?_) (fun hc hF => ?_) hF
            · skip
              refine jj_goto (tgt := 2070) dL_law_1384 rfl ?_
              refine jj_iinc (i := 5) (j := 7) (v := x5 + (6 : Int32)) (ls' := [(5, .int (x5 + (6 : Int32))), (7, .int x235), (6, .int x233), (0, .ref 1000000), (1, .ref a1), (2, .ref a2), (3, .ref a3), (4, .ref a4)]) (pc' := 2073) dL_law_2070 rfl rfl (Nat.le_of_ble_eq_true rfl) rfl rfl ?_
              refine jj_goto (tgt := 28) dL_law_2073 rfl ?_
              exact jj_pick [3, 4, 5, 6, 7, 0] rfl (ih (kc + 2) (ks + 12) a1 a2 a3 a4 (x5 + (6 : Int32)) h236 _ hF)
            · skip
              refine jj_aload_n (j := 5) (i := 3) (pc' := 1373) dL_law_1372 rfl rfl rfl ?_
              refine jj_iconst (v := (0 : Int32)) (pc' := 1374) dL_law_1373 rfl rfl ?_
              refine jj_ldL (pc' := 1375) dL_law_1374 rfl hF (fun l238 hF => ?_)
              refine jj_iload (j := 0) (i := 7) (pc' := 1377) dL_law_1375 rfl rfl ?_
              refine jj_i2l (pc' := 1378) dL_law_1377 rfl ?_
              refine jj_lcmp (pc' := 1379) dL_law_1378 rfl ?_
              refine jj_if_eq (tgt := 1384) (pc' := 1382) dL_law_1379 rfl rfl (fun hc hF => ?_) (fun hc hF => ?_) hF
              · skip
                refine jj_goto (tgt := 2070) dL_law_1384 rfl ?_
                refine jj_iinc (i := 5) (j := 7) (v := x5 + (6 : Int32)) (ls' := [(5, .int (x5 + (6 : Int32))), (7, .int x235), (6, .int x233), (0, .ref 1000000), (1, .ref a1), (2, .ref a2), (3, .ref a3), (4, .ref a4)]) (pc' := 2073) dL_law_2070 rfl rfl (Nat.le_of_ble_eq_true rfl) rfl rfl ?_
                refine jj_goto (tgt := 28) dL_law_2073 rfl ?_
                exact jj_pick [3, 4, 5, 6, 7, 0] rfl (ih (kc + 2) (ks + 12) a1 a2 a3 a4 (x5 + (6 : Int32)) h236 _ hF)
              · skip
                refine jj_iconst (v := (0 : Int32)) (pc' := 1383) dL_law_1382 rfl rfl ?_
                exact jj_retI (ty := .boolean) rfl rfl dL_law_1383 ⟨hk.1, hk.2⟩ hF
          · skip
            refine jj_iconst (v := (0 : Int32)) (pc' := 1366) dL_law_1365 rfl rfl ?_
            exact jj_retI (ty := .boolean) rfl rfl dL_law_1366 ⟨hk.1, hk.2⟩ hF
        | 21, hb, ht =>
          cases hb; cases ht
          refine jj_aload_n (j := 1) (i := 1) (pc' := 1388) dL_law_1387 rfl rfl rfl ?_
          refine jj_aload_n (j := 0) (i := 0) (pc' := 1389) dL_law_1388 rfl rfl rfl ?_
          refine jj_iload (j := 5) (i := 5) (pc' := 1391) dL_law_1389 rfl rfl ?_
          refine jj_iconst (v := (1 : Int32)) (pc' := 1392) dL_law_1391 rfl rfl ?_
          refine jj_iadd (pc' := 1393) dL_law_1392 rfl ?_
          obtain ⟨hi, hF⟩ := jf_s_inv hF
          refine jj_sld (L := L) (xs := xs) (pc' := 1394) dL_law_1393 rfl hi rfl ?_
          refine jj_aload_n (j := 0) (i := 0) (pc' := 1395) dL_law_1394 rfl rfl rfl ?_
          refine jj_iload (j := 5) (i := 5) (pc' := 1397) dL_law_1395 rfl rfl ?_
          refine jj_iconst (v := (2 : Int32)) (pc' := 1398) dL_law_1397 rfl rfl ?_
          refine jj_iadd (pc' := 1399) dL_law_1398 rfl ?_
          obtain ⟨hi, hF⟩ := jf_s_inv hF
          refine jj_sld (L := L) (xs := xs) (pc' := 1400) dL_law_1399 rfl hi rfl ?_
          refine jj_aload_n (j := 3) (i := 3) (pc' := 1401) dL_law_1400 rfl rfl rfl ?_
          obtain ⟨hk, hF⟩ := jf_k_inv hF
          refine jj_cI (N := M_L_screen) (kc' := (kc + 2)) (ks' := (ks + 12)) (pc' := 1404) (jg_H (N := M_L_screen) (rest := []) (as := [.ref a1, .int (xs (x5 + ((1 : Int32))).toNatClampNeg), .int (xs (x5 + ((2 : Int32))).toNatClampNeg), .ref a3]) cf_L_183 (by decide) dL_law_1401 rfl rfl ⟨Nat.le_of_ble_eq_true rfl, Nat.le_of_ble_eq_true rfl⟩ ⟨hk.1, hk.2⟩ (Nat.le_of_ble_eq_true rfl) (fun X' hX => KL_screen hX)) rfl rfl rfl rfl ⟨hk.1, hk.2⟩ rfl hF (fun x240 h239 hF => ?_)
          refine jj_istore (i := 6) (ls' := [(6, .int x240), (0, .ref 1000000), (1, .ref a1), (2, .ref a2), (3, .ref a3), (4, .ref a4), (5, .int x5)]) (pc' := 1406) dL_law_1404 (Nat.le_of_ble_eq_true rfl) rfl rfl ?_
          refine jj_aload_n (j := 3) (i := 2) (pc' := 1407) dL_law_1406 rfl rfl rfl ?_
          refine jj_aload_n (j := 1) (i := 0) (pc' := 1408) dL_law_1407 rfl rfl rfl ?_
          refine jj_iload (j := 6) (i := 5) (pc' := 1410) dL_law_1408 rfl rfl ?_
          refine jj_iconst (v := (1 : Int32)) (pc' := 1411) dL_law_1410 rfl rfl ?_
          refine jj_iadd (pc' := 1412) dL_law_1411 rfl ?_
          obtain ⟨hi, hF⟩ := jf_s_inv hF
          refine jj_sld (L := L) (xs := xs) (pc' := 1413) dL_law_1412 rfl hi rfl ?_
          refine jj_aload_n (j := 1) (i := 0) (pc' := 1414) dL_law_1413 rfl rfl rfl ?_
          refine jj_iload (j := 6) (i := 5) (pc' := 1416) dL_law_1414 rfl rfl ?_
          refine jj_iconst (v := (2 : Int32)) (pc' := 1417) dL_law_1416 rfl rfl ?_
          refine jj_iadd (pc' := 1418) dL_law_1417 rfl ?_
          obtain ⟨hi, hF⟩ := jf_s_inv hF
          refine jj_sld (L := L) (xs := xs) (pc' := 1419) dL_law_1418 rfl hi rfl ?_
          refine jj_cI (N := M_X4_screen) (kc' := (kc + 2)) (ks' := (ks + 12)) (pc' := 1422) (jg_V (N := M_X4_screen) (ci := 4) (rest := []) (as := [.int (xs (x5 + ((1 : Int32))).toNatClampNeg), .int (xs (x5 + ((2 : Int32))).toNatClampNeg)]) cf_L_185 dL_law_1419 ⟨rfl, rfl⟩ rfl rfl ⟨Nat.le_of_ble_eq_true rfl, Nat.le_of_ble_eq_true rfl⟩ ⟨hk.1, hk.2⟩ (Nat.le_of_ble_eq_true rfl) (fun X' hX => KX4_screen hX)) rfl rfl rfl rfl ⟨hk.1, hk.2⟩ rfl hF (fun x242 h241 hF => ?_)
          refine jj_istore (i := 7) (ls' := [(7, .int x242), (6, .int x240), (0, .ref 1000000), (1, .ref a1), (2, .ref a2), (3, .ref a3), (4, .ref a4), (5, .int x5)]) (pc' := 1424) dL_law_1422 (Nat.le_of_ble_eq_true rfl) rfl rfl ?_
          refine jj_aload_n (j := 4) (i := 2) (pc' := 1425) dL_law_1424 rfl rfl rfl ?_
          refine jj_cI (N := M_X4_thrown) (kc' := (kc + 2)) (ks' := (ks + 12)) (pc' := 1428) (jg_V (N := M_X4_thrown) (ci := 4) (rest := []) (as := []) cf_L_113 dL_law_1425 ⟨rfl, rfl⟩ rfl rfl ⟨Nat.le_of_ble_eq_true rfl, Nat.le_of_ble_eq_true rfl⟩ ⟨hk.1, hk.2⟩ (Nat.le_of_ble_eq_true rfl) (fun X' hX => KX4_thrown hX)) rfl rfl rfl rfl ⟨hk.1, hk.2⟩ rfl hF (fun x244 h243 hF => ?_)
          refine jj_iload (j := 1) (i := 6) (pc' := 1430) dL_law_1428 rfl rfl ?_
          refine jj_icmp_eq (tgt := 1435) (pc' := 1433) dL_law_1430 rfl rfl (fun hc hF => ?_) (fun hc hF => ?_) hF
          · skip
            refine jj_iload (j := 1) (i := 6) (pc' := 1437) dL_law_1435 rfl rfl ?_
            refine jj_if_ne (tgt := 1452) (pc' := 1440) dL_law_1437 rfl rfl (fun hc hF => ?_) (fun hc hF => ?_) hF
            · skip
              refine jj_goto (tgt := 2070) dL_law_1452 rfl ?_
              refine jj_iinc (i := 5) (j := 7) (v := x5 + (6 : Int32)) (ls' := [(5, .int (x5 + (6 : Int32))), (7, .int x242), (6, .int x240), (0, .ref 1000000), (1, .ref a1), (2, .ref a2), (3, .ref a3), (4, .ref a4)]) (pc' := 2073) dL_law_2070 rfl rfl (Nat.le_of_ble_eq_true rfl) rfl rfl ?_
              refine jj_goto (tgt := 28) dL_law_2073 rfl ?_
              exact jj_pick [3, 4, 5, 6, 7, 0] rfl (ih (kc + 2) (ks + 12) a1 a2 a3 a4 (x5 + (6 : Int32)) h243 _ hF)
            · skip
              refine jj_aload_n (j := 5) (i := 3) (pc' := 1441) dL_law_1440 rfl rfl rfl ?_
              refine jj_iconst (v := (0 : Int32)) (pc' := 1442) dL_law_1441 rfl rfl ?_
              refine jj_ldL (pc' := 1443) dL_law_1442 rfl hF (fun l245 hF => ?_)
              refine jj_iload (j := 0) (i := 7) (pc' := 1445) dL_law_1443 rfl rfl ?_
              refine jj_i2l (pc' := 1446) dL_law_1445 rfl ?_
              refine jj_lcmp (pc' := 1447) dL_law_1446 rfl ?_
              refine jj_if_eq (tgt := 1452) (pc' := 1450) dL_law_1447 rfl rfl (fun hc hF => ?_) (fun hc hF => ?_) hF
              · skip
                refine jj_goto (tgt := 2070) dL_law_1452 rfl ?_
                refine jj_iinc (i := 5) (j := 7) (v := x5 + (6 : Int32)) (ls' := [(5, .int (x5 + (6 : Int32))), (7, .int x242), (6, .int x240), (0, .ref 1000000), (1, .ref a1), (2, .ref a2), (3, .ref a3), (4, .ref a4)]) (pc' := 2073) dL_law_2070 rfl rfl (Nat.le_of_ble_eq_true rfl) rfl rfl ?_
                refine jj_goto (tgt := 28) dL_law_2073 rfl ?_
                exact jj_pick [3, 4, 5, 6, 7, 0] rfl (ih (kc + 2) (ks + 12) a1 a2 a3 a4 (x5 + (6 : Int32)) h243 _ hF)
              · skip
                refine jj_iconst (v := (0 : Int32)) (pc' := 1451) dL_law_1450 rfl rfl ?_
                exact jj_retI (ty := .boolean) rfl rfl dL_law_1451 ⟨hk.1, hk.2⟩ hF
          · skip
            refine jj_iconst (v := (0 : Int32)) (pc' := 1434) dL_law_1433 rfl rfl ?_
            exact jj_retI (ty := .boolean) rfl rfl dL_law_1434 ⟨hk.1, hk.2⟩ hF
        | 22, hb, ht =>
          cases hb; cases ht
          refine jj_aload_n (j := 1) (i := 1) (pc' := 1456) dL_law_1455 rfl rfl rfl ?_
          refine jj_aload_n (j := 0) (i := 0) (pc' := 1457) dL_law_1456 rfl rfl rfl ?_
          refine jj_iload (j := 5) (i := 5) (pc' := 1459) dL_law_1457 rfl rfl ?_
          refine jj_iconst (v := (1 : Int32)) (pc' := 1460) dL_law_1459 rfl rfl ?_
          refine jj_iadd (pc' := 1461) dL_law_1460 rfl ?_
          obtain ⟨hi, hF⟩ := jf_s_inv hF
          refine jj_sld (L := L) (xs := xs) (pc' := 1462) dL_law_1461 rfl hi rfl ?_
          refine jj_aload_n (j := 0) (i := 0) (pc' := 1463) dL_law_1462 rfl rfl rfl ?_
          refine jj_iload (j := 5) (i := 5) (pc' := 1465) dL_law_1463 rfl rfl ?_
          refine jj_iconst (v := (2 : Int32)) (pc' := 1466) dL_law_1465 rfl rfl ?_
          refine jj_iadd (pc' := 1467) dL_law_1466 rfl ?_
          obtain ⟨hi, hF⟩ := jf_s_inv hF
          refine jj_sld (L := L) (xs := xs) (pc' := 1468) dL_law_1467 rfl hi rfl ?_
          refine jj_aload_n (j := 3) (i := 3) (pc' := 1469) dL_law_1468 rfl rfl rfl ?_
          obtain ⟨hk, hF⟩ := jf_k_inv hF
          refine jj_cI (N := M_L_guestOf) (kc' := (kc + 2)) (ks' := (ks + 12)) (pc' := 1472) (jg_H (N := M_L_guestOf) (rest := []) (as := [.ref a1, .int (xs (x5 + ((1 : Int32))).toNatClampNeg), .int (xs (x5 + ((2 : Int32))).toNatClampNeg), .ref a3]) cf_L_186 (by decide) dL_law_1469 rfl rfl ⟨Nat.le_of_ble_eq_true rfl, Nat.le_of_ble_eq_true rfl⟩ ⟨hk.1, hk.2⟩ (Nat.le_of_ble_eq_true rfl) (fun X' hX => KL_guestOf hX)) rfl rfl rfl rfl ⟨hk.1, hk.2⟩ rfl hF (fun x247 h246 hF => ?_)
          refine jj_istore (i := 6) (ls' := [(6, .int x247), (0, .ref 1000000), (1, .ref a1), (2, .ref a2), (3, .ref a3), (4, .ref a4), (5, .int x5)]) (pc' := 1474) dL_law_1472 (Nat.le_of_ble_eq_true rfl) rfl rfl ?_
          refine jj_aload_n (j := 3) (i := 2) (pc' := 1475) dL_law_1474 rfl rfl rfl ?_
          refine jj_aload_n (j := 1) (i := 0) (pc' := 1476) dL_law_1475 rfl rfl rfl ?_
          refine jj_iload (j := 6) (i := 5) (pc' := 1478) dL_law_1476 rfl rfl ?_
          refine jj_iconst (v := (1 : Int32)) (pc' := 1479) dL_law_1478 rfl rfl ?_
          refine jj_iadd (pc' := 1480) dL_law_1479 rfl ?_
          obtain ⟨hi, hF⟩ := jf_s_inv hF
          refine jj_sld (L := L) (xs := xs) (pc' := 1481) dL_law_1480 rfl hi rfl ?_
          refine jj_aload_n (j := 1) (i := 0) (pc' := 1482) dL_law_1481 rfl rfl rfl ?_
          refine jj_iload (j := 6) (i := 5) (pc' := 1484) dL_law_1482 rfl rfl ?_
          refine jj_iconst (v := (2 : Int32)) (pc' := 1485) dL_law_1484 rfl rfl ?_
          refine jj_iadd (pc' := 1486) dL_law_1485 rfl ?_
          obtain ⟨hi, hF⟩ := jf_s_inv hF
          refine jj_sld (L := L) (xs := xs) (pc' := 1487) dL_law_1486 rfl hi rfl ?_
          refine jj_cI (N := M_X4_guestOf) (kc' := (kc + 2)) (ks' := (ks + 12)) (pc' := 1490) (jg_V (N := M_X4_guestOf) (ci := 4) (rest := []) (as := [.int (xs (x5 + ((1 : Int32))).toNatClampNeg), .int (xs (x5 + ((2 : Int32))).toNatClampNeg)]) cf_L_188 dL_law_1487 ⟨rfl, rfl⟩ rfl rfl ⟨Nat.le_of_ble_eq_true rfl, Nat.le_of_ble_eq_true rfl⟩ ⟨hk.1, hk.2⟩ (Nat.le_of_ble_eq_true rfl) (fun X' hX => KX4_guestOf hX)) rfl rfl rfl rfl ⟨hk.1, hk.2⟩ rfl hF (fun x249 h248 hF => ?_)
          refine jj_istore (i := 7) (ls' := [(7, .int x249), (6, .int x247), (0, .ref 1000000), (1, .ref a1), (2, .ref a2), (3, .ref a3), (4, .ref a4), (5, .int x5)]) (pc' := 1492) dL_law_1490 (Nat.le_of_ble_eq_true rfl) rfl rfl ?_
          refine jj_aload_n (j := 4) (i := 2) (pc' := 1493) dL_law_1492 rfl rfl rfl ?_
          refine jj_cI (N := M_X4_thrown) (kc' := (kc + 2)) (ks' := (ks + 12)) (pc' := 1496) (jg_V (N := M_X4_thrown) (ci := 4) (rest := []) (as := []) cf_L_113 dL_law_1493 ⟨rfl, rfl⟩ rfl rfl ⟨Nat.le_of_ble_eq_true rfl, Nat.le_of_ble_eq_true rfl⟩ ⟨hk.1, hk.2⟩ (Nat.le_of_ble_eq_true rfl) (fun X' hX => KX4_thrown hX)) rfl rfl rfl rfl ⟨hk.1, hk.2⟩ rfl hF (fun x251 h250 hF => ?_)
          refine jj_iload (j := 1) (i := 6) (pc' := 1498) dL_law_1496 rfl rfl ?_
          refine jj_icmp_eq (tgt := 1503) (pc' := 1501) dL_law_1498 rfl rfl (fun hc hF => ?_) (fun hc hF => ?_) hF
          · skip
            refine jj_iload (j := 1) (i := 6) (pc' := 1505) dL_law_1503 rfl rfl ?_
            refine jj_if_ne (tgt := 1520) (pc' := 1508) dL_law_1505 rfl rfl (fun hc hF => ?_) (fun hc hF => ?_) hF
            · skip
              refine jj_goto (tgt := 2070) dL_law_1520 rfl ?_
              refine jj_iinc (i := 5) (j := 7) (v := x5 + (6 : Int32)) (ls' := [(5, .int (x5 + (6 : Int32))), (7, .int x249), (6, .int x247), (0, .ref 1000000), (1, .ref a1), (2, .ref a2), (3, .ref a3), (4, .ref a4)]) (pc' := 2073) dL_law_2070 rfl rfl (Nat.le_of_ble_eq_true rfl) rfl rfl ?_
              refine jj_goto (tgt := 28) dL_law_2073 rfl ?_
              exact jj_pick [3, 4, 5, 6, 7, 0] rfl (ih (kc + 2) (ks + 12) a1 a2 a3 a4 (x5 + (6 : Int32)) h250 _ hF)
            · skip
              refine jj_aload_n (j := 5) (i := 3) (pc' := 1509) dL_law_1508 rfl rfl rfl ?_
              refine jj_iconst (v := (0 : Int32)) (pc' := 1510) dL_law_1509 rfl rfl ?_
              refine jj_ldL (pc' := 1511) dL_law_1510 rfl hF (fun l252 hF => ?_)
              refine jj_iload (j := 0) (i := 7) (pc' := 1513) dL_law_1511 rfl rfl ?_
              refine jj_i2l (pc' := 1514) dL_law_1513 rfl ?_
              refine jj_lcmp (pc' := 1515) dL_law_1514 rfl ?_
              refine jj_if_eq (tgt := 1520) (pc' := 1518) dL_law_1515 rfl rfl (fun hc hF => ?_) (fun hc hF => ?_) hF
              · skip
                refine jj_goto (tgt := 2070) dL_law_1520 rfl ?_
                refine jj_iinc (i := 5) (j := 7) (v := x5 + (6 : Int32)) (ls' := [(5, .int (x5 + (6 : Int32))), (7, .int x249), (6, .int x247), (0, .ref 1000000), (1, .ref a1), (2, .ref a2), (3, .ref a3), (4, .ref a4)]) (pc' := 2073) dL_law_2070 rfl rfl (Nat.le_of_ble_eq_true rfl) rfl rfl ?_
                refine jj_goto (tgt := 28) dL_law_2073 rfl ?_
                exact jj_pick [3, 4, 5, 6, 7, 0] rfl (ih (kc + 2) (ks + 12) a1 a2 a3 a4 (x5 + (6 : Int32)) h250 _ hF)
              · skip
                refine jj_iconst (v := (0 : Int32)) (pc' := 1519) dL_law_1518 rfl rfl ?_
                exact jj_retI (ty := .boolean) rfl rfl dL_law_1519 ⟨hk.1, hk.2⟩ hF
          · skip
            refine jj_iconst (v := (0 : Int32)) (pc' := 1502) dL_law_1501 rfl rfl ?_
            exact jj_retI (ty := .boolean) rfl rfl dL_law_1502 ⟨hk.1, hk.2⟩ hF
        | 23, hb, ht =>
          cases hb; cases ht
          refine jj_aload_n (j := 1) (i := 1) (pc' := 1524) dL_law_1523 rfl rfl rfl ?_
          refine jj_aload_n (j := 0) (i := 0) (pc' := 1525) dL_law_1524 rfl rfl rfl ?_
          refine jj_iload (j := 5) (i := 5) (pc' := 1527) dL_law_1525 rfl rfl ?_
          refine jj_iconst (v := (1 : Int32)) (pc' := 1528) dL_law_1527 rfl rfl ?_
          refine jj_iadd (pc' := 1529) dL_law_1528 rfl ?_
          obtain ⟨hi, hF⟩ := jf_s_inv hF
          refine jj_sld (L := L) (xs := xs) (pc' := 1530) dL_law_1529 rfl hi rfl ?_
          refine jj_aload_n (j := 0) (i := 0) (pc' := 1531) dL_law_1530 rfl rfl rfl ?_
          refine jj_iload (j := 5) (i := 5) (pc' := 1533) dL_law_1531 rfl rfl ?_
          refine jj_iconst (v := (2 : Int32)) (pc' := 1534) dL_law_1533 rfl rfl ?_
          refine jj_iadd (pc' := 1535) dL_law_1534 rfl ?_
          obtain ⟨hi, hF⟩ := jf_s_inv hF
          refine jj_sld (L := L) (xs := xs) (pc' := 1536) dL_law_1535 rfl hi rfl ?_
          refine jj_aload_n (j := 3) (i := 3) (pc' := 1537) dL_law_1536 rfl rfl rfl ?_
          obtain ⟨hk, hF⟩ := jf_k_inv hF
          refine jj_cI (N := M_L_juror) (kc' := (kc + 2)) (ks' := (ks + 12)) (pc' := 1540) (jg_H (N := M_L_juror) (rest := []) (as := [.ref a1, .int (xs (x5 + ((1 : Int32))).toNatClampNeg), .int (xs (x5 + ((2 : Int32))).toNatClampNeg), .ref a3]) cf_L_189 (by decide) dL_law_1537 rfl rfl ⟨Nat.le_of_ble_eq_true rfl, Nat.le_of_ble_eq_true rfl⟩ ⟨hk.1, hk.2⟩ (Nat.le_of_ble_eq_true rfl) (fun X' hX => KL_juror hX)) rfl rfl rfl rfl ⟨hk.1, hk.2⟩ rfl hF (fun x254 h253 hF => ?_)
          refine jj_istore (i := 6) (ls' := [(6, .int x254), (0, .ref 1000000), (1, .ref a1), (2, .ref a2), (3, .ref a3), (4, .ref a4), (5, .int x5)]) (pc' := 1542) dL_law_1540 (Nat.le_of_ble_eq_true rfl) rfl rfl ?_
          refine jj_aload_n (j := 3) (i := 2) (pc' := 1543) dL_law_1542 rfl rfl rfl ?_
          refine jj_aload_n (j := 1) (i := 0) (pc' := 1544) dL_law_1543 rfl rfl rfl ?_
          refine jj_iload (j := 6) (i := 5) (pc' := 1546) dL_law_1544 rfl rfl ?_
          refine jj_iconst (v := (1 : Int32)) (pc' := 1547) dL_law_1546 rfl rfl ?_
          refine jj_iadd (pc' := 1548) dL_law_1547 rfl ?_
          obtain ⟨hi, hF⟩ := jf_s_inv hF
          refine jj_sld (L := L) (xs := xs) (pc' := 1549) dL_law_1548 rfl hi rfl ?_
          refine jj_aload_n (j := 1) (i := 0) (pc' := 1550) dL_law_1549 rfl rfl rfl ?_
          refine jj_iload (j := 6) (i := 5) (pc' := 1552) dL_law_1550 rfl rfl ?_
          refine jj_iconst (v := (2 : Int32)) (pc' := 1553) dL_law_1552 rfl rfl ?_
          refine jj_iadd (pc' := 1554) dL_law_1553 rfl ?_
          obtain ⟨hi, hF⟩ := jf_s_inv hF
          refine jj_sld (L := L) (xs := xs) (pc' := 1555) dL_law_1554 rfl hi rfl ?_
          refine jj_cI (N := M_X4_juror) (kc' := (kc + 2)) (ks' := (ks + 12)) (pc' := 1558) (jg_V (N := M_X4_juror) (ci := 4) (rest := []) (as := [.int (xs (x5 + ((1 : Int32))).toNatClampNeg), .int (xs (x5 + ((2 : Int32))).toNatClampNeg)]) cf_L_191 dL_law_1555 ⟨rfl, rfl⟩ rfl rfl ⟨Nat.le_of_ble_eq_true rfl, Nat.le_of_ble_eq_true rfl⟩ ⟨hk.1, hk.2⟩ (Nat.le_of_ble_eq_true rfl) (fun X' hX => KX4_juror hX)) rfl rfl rfl rfl ⟨hk.1, hk.2⟩ rfl hF (fun x256 h255 hF => ?_)
          refine jj_istore (i := 7) (ls' := [(7, .int x256), (6, .int x254), (0, .ref 1000000), (1, .ref a1), (2, .ref a2), (3, .ref a3), (4, .ref a4), (5, .int x5)]) (pc' := 1560) dL_law_1558 (Nat.le_of_ble_eq_true rfl) rfl rfl ?_
          refine jj_aload_n (j := 4) (i := 2) (pc' := 1561) dL_law_1560 rfl rfl rfl ?_
          refine jj_cI (N := M_X4_thrown) (kc' := (kc + 2)) (ks' := (ks + 12)) (pc' := 1564) (jg_V (N := M_X4_thrown) (ci := 4) (rest := []) (as := []) cf_L_113 dL_law_1561 ⟨rfl, rfl⟩ rfl rfl ⟨Nat.le_of_ble_eq_true rfl, Nat.le_of_ble_eq_true rfl⟩ ⟨hk.1, hk.2⟩ (Nat.le_of_ble_eq_true rfl) (fun X' hX => KX4_thrown hX)) rfl rfl rfl rfl ⟨hk.1, hk.2⟩ rfl hF (fun x258 h257 hF => ?_)
          refine jj_iload (j := 1) (i := 6) (pc' := 1566) dL_law_1564 rfl rfl ?_
          refine jj_icmp_eq (tgt := 1571) (pc' := 1569) dL_law_1566 rfl rfl (fun hc hF => ?_) (fun hc hF => ?_) hF
          · skip
            refine jj_iload (j := 1) (i := 6) (pc' := 1573) dL_law_1571 rfl rfl ?_
            refine jj_if_ne (tgt := 1588) (pc' := 1576) dL_law_1573 rfl rfl (fun hc hF => ?_) (fun hc hF => ?_) hF
            · skip
              refine jj_goto (tgt := 2070) dL_law_1588 rfl ?_
              refine jj_iinc (i := 5) (j := 7) (v := x5 + (6 : Int32)) (ls' := [(5, .int (x5 + (6 : Int32))), (7, .int x256), (6, .int x254), (0, .ref 1000000), (1, .ref a1), (2, .ref a2), (3, .ref a3), (4, .ref a4)]) (pc' := 2073) dL_law_2070 rfl rfl (Nat.le_of_ble_eq_true rfl) rfl rfl ?_
              refine jj_goto (tgt := 28) dL_law_2073 rfl ?_
              exact jj_pick [3, 4, 5, 6, 7, 0] rfl (ih (kc + 2) (ks + 12) a1 a2 a3 a4 (x5 + (6 : Int32)) h257 _ hF)
            · skip
              refine jj_aload_n (j := 5) (i := 3) (pc' := 1577) dL_law_1576 rfl rfl rfl ?_
              refine jj_iconst (v := (0 : Int32)) (pc' := 1578) dL_law_1577 rfl rfl ?_
              refine jj_ldL (pc' := 1579) dL_law_1578 rfl hF (fun l259 hF => ?_)
              refine jj_iload (j := 0) (i := 7) (pc' := 1581) dL_law_1579 rfl rfl ?_
              refine jj_i2l (pc' := 1582) dL_law_1581 rfl ?_
              refine jj_lcmp (pc' := 1583) dL_law_1582 rfl ?_
              refine jj_if_eq (tgt := 1588) (pc' := 1586) dL_law_1583 rfl rfl (fun hc hF => ?_) (fun hc hF => ?_) hF
              · skip
                refine jj_goto (tgt := 2070) dL_law_1588 rfl ?_
                refine jj_iinc (i := 5) (j := 7) (v := x5 + (6 : Int32)) (ls' := [(5, .int (x5 + (6 : Int32))), (7, .int x256), (6, .int x254), (0, .ref 1000000), (1, .ref a1), (2, .ref a2), (3, .ref a3), (4, .ref a4)]) (pc' := 2073) dL_law_2070 rfl rfl (Nat.le_of_ble_eq_true rfl) rfl rfl ?_
                refine jj_goto (tgt := 28) dL_law_2073 rfl ?_
                exact jj_pick [3, 4, 5, 6, 7, 0] rfl (ih (kc + 2) (ks + 12) a1 a2 a3 a4 (x5 + (6 : Int32)) h257 _ hF)
              · skip
                refine jj_iconst (v := (0 : Int32)) (pc' := 1587) dL_law_1586 rfl rfl ?_
                exact jj_retI (ty := .boolean) rfl rfl dL_law_1587 ⟨hk.1, hk.2⟩ hF
          · skip
            refine jj_iconst (v := (0 : Int32)) (pc' := 1570) dL_law_1569 rfl rfl ?_
            exact jj_retI (ty := .boolean) rfl rfl dL_law_1570 ⟨hk.1, hk.2⟩ hF
        | 24, hb, ht =>
          cases hb; cases ht
          refine jj_aload_n (j := 1) (i := 1) (pc' := 1592) dL_law_1591 rfl rfl rfl ?_
          refine jj_aload_n (j := 0) (i := 0) (pc' := 1593) dL_law_1592 rfl rfl rfl ?_
          refine jj_iload (j := 5) (i := 5) (pc' := 1595) dL_law_1593 rfl rfl ?_
          refine jj_iconst (v := (1 : Int32)) (pc' := 1596) dL_law_1595 rfl rfl ?_
          refine jj_iadd (pc' := 1597) dL_law_1596 rfl ?_
          obtain ⟨hi, hF⟩ := jf_s_inv hF
          refine jj_sld (L := L) (xs := xs) (pc' := 1598) dL_law_1597 rfl hi rfl ?_
          refine jj_aload_n (j := 3) (i := 3) (pc' := 1599) dL_law_1598 rfl rfl rfl ?_
          obtain ⟨hk, hF⟩ := jf_k_inv hF
          refine jj_cI (N := M_L_count) (kc' := (kc + 1)) (ks' := (ks + 6)) (pc' := 1602) (jg_H (N := M_L_count) (rest := []) (as := [.ref a1, .int (xs (x5 + ((1 : Int32))).toNatClampNeg), .ref a3]) cf_L_192 (by decide) dL_law_1599 rfl rfl ⟨Nat.le_of_ble_eq_true rfl, Nat.le_of_ble_eq_true rfl⟩ ⟨hk.1, hk.2⟩ (Nat.le_of_ble_eq_true rfl) (fun X' hX => KL_count hX)) rfl rfl rfl rfl ⟨hk.1, hk.2⟩ rfl hF (fun x261 h260 hF => ?_)
          refine jj_istore (i := 6) (ls' := [(6, .int x261), (0, .ref 1000000), (1, .ref a1), (2, .ref a2), (3, .ref a3), (4, .ref a4), (5, .int x5)]) (pc' := 1604) dL_law_1602 (Nat.le_of_ble_eq_true rfl) rfl rfl ?_
          refine jj_aload_n (j := 3) (i := 2) (pc' := 1605) dL_law_1604 rfl rfl rfl ?_
          refine jj_aload_n (j := 1) (i := 0) (pc' := 1606) dL_law_1605 rfl rfl rfl ?_
          refine jj_iload (j := 6) (i := 5) (pc' := 1608) dL_law_1606 rfl rfl ?_
          refine jj_iconst (v := (1 : Int32)) (pc' := 1609) dL_law_1608 rfl rfl ?_
          refine jj_iadd (pc' := 1610) dL_law_1609 rfl ?_
          obtain ⟨hi, hF⟩ := jf_s_inv hF
          refine jj_sld (L := L) (xs := xs) (pc' := 1611) dL_law_1610 rfl hi rfl ?_
          refine jj_cI (N := M_X4_count) (kc' := (kc + 1)) (ks' := (ks + 6)) (pc' := 1614) (jg_V (N := M_X4_count) (ci := 4) (rest := []) (as := [.int (xs (x5 + ((1 : Int32))).toNatClampNeg)]) cf_L_194 dL_law_1611 ⟨rfl, rfl⟩ rfl rfl ⟨Nat.le_of_ble_eq_true rfl, Nat.le_of_ble_eq_true rfl⟩ ⟨hk.1, hk.2⟩ (Nat.le_of_ble_eq_true rfl) (fun X' hX => KX4_count hX)) rfl rfl rfl rfl ⟨hk.1, hk.2⟩ rfl hF (fun x263 h262 hF => ?_)
          refine jj_istore (i := 7) (ls' := [(7, .int x263), (6, .int x261), (0, .ref 1000000), (1, .ref a1), (2, .ref a2), (3, .ref a3), (4, .ref a4), (5, .int x5)]) (pc' := 1616) dL_law_1614 (Nat.le_of_ble_eq_true rfl) rfl rfl ?_
          refine jj_aload_n (j := 4) (i := 2) (pc' := 1617) dL_law_1616 rfl rfl rfl ?_
          refine jj_cI (N := M_X4_thrown) (kc' := (kc + 1)) (ks' := (ks + 6)) (pc' := 1620) (jg_V (N := M_X4_thrown) (ci := 4) (rest := []) (as := []) cf_L_113 dL_law_1617 ⟨rfl, rfl⟩ rfl rfl ⟨Nat.le_of_ble_eq_true rfl, Nat.le_of_ble_eq_true rfl⟩ ⟨hk.1, hk.2⟩ (Nat.le_of_ble_eq_true rfl) (fun X' hX => KX4_thrown hX)) rfl rfl rfl rfl ⟨hk.1, hk.2⟩ rfl hF (fun x265 h264 hF => ?_)
          refine jj_iload (j := 1) (i := 6) (pc' := 1622) dL_law_1620 rfl rfl ?_
          refine jj_icmp_eq (tgt := 1627) (pc' := 1625) dL_law_1622 rfl rfl (fun hc hF => ?_) (fun hc hF => ?_) hF
          · skip
            refine jj_iload (j := 1) (i := 6) (pc' := 1629) dL_law_1627 rfl rfl ?_
            refine jj_if_ne (tgt := 1644) (pc' := 1632) dL_law_1629 rfl rfl (fun hc hF => ?_) (fun hc hF => ?_) hF
            · skip
              refine jj_goto (tgt := 2070) dL_law_1644 rfl ?_
              refine jj_iinc (i := 5) (j := 7) (v := x5 + (6 : Int32)) (ls' := [(5, .int (x5 + (6 : Int32))), (7, .int x263), (6, .int x261), (0, .ref 1000000), (1, .ref a1), (2, .ref a2), (3, .ref a3), (4, .ref a4)]) (pc' := 2073) dL_law_2070 rfl rfl (Nat.le_of_ble_eq_true rfl) rfl rfl ?_
              refine jj_goto (tgt := 28) dL_law_2073 rfl ?_
              exact jj_pick [3, 4, 5, 6, 7, 0] rfl (ih (kc + 1) (ks + 6) a1 a2 a3 a4 (x5 + (6 : Int32)) h264 _ hF)
            · skip
              refine jj_aload_n (j := 5) (i := 3) (pc' := 1633) dL_law_1632 rfl rfl rfl ?_
              refine jj_iconst (v := (0 : Int32)) (pc' := 1634) dL_law_1633 rfl rfl ?_
              refine jj_ldL (pc' := 1635) dL_law_1634 rfl hF (fun l266 hF => ?_)
              refine jj_iload (j := 0) (i := 7) (pc' := 1637) dL_law_1635 rfl rfl ?_
              refine jj_i2l (pc' := 1638) dL_law_1637 rfl ?_
              refine jj_lcmp (pc' := 1639) dL_law_1638 rfl ?_
              refine jj_if_eq (tgt := 1644) (pc' := 1642) dL_law_1639 rfl rfl (fun hc hF => ?_) (fun hc hF => ?_) hF
              · skip
                refine jj_goto (tgt := 2070) dL_law_1644 rfl ?_
                refine jj_iinc (i := 5) (j := 7) (v := x5 + (6 : Int32)) (ls' := [(5, .int (x5 + (6 : Int32))), (7, .int x263), (6, .int x261), (0, .ref 1000000), (1, .ref a1), (2, .ref a2), (3, .ref a3), (4, .ref a4)]) (pc' := 2073) dL_law_2070 rfl rfl (Nat.le_of_ble_eq_true rfl) rfl rfl ?_
                refine jj_goto (tgt := 28) dL_law_2073 rfl ?_
                exact jj_pick [3, 4, 5, 6, 7, 0] rfl (ih (kc + 1) (ks + 6) a1 a2 a3 a4 (x5 + (6 : Int32)) h264 _ hF)
              · skip
                refine jj_iconst (v := (0 : Int32)) (pc' := 1643) dL_law_1642 rfl rfl ?_
                exact jj_retI (ty := .boolean) rfl rfl dL_law_1643 ⟨hk.1, hk.2⟩ hF
          · skip
            refine jj_iconst (v := (0 : Int32)) (pc' := 1626) dL_law_1625 rfl rfl ?_
            exact jj_retI (ty := .boolean) rfl rfl dL_law_1626 ⟨hk.1, hk.2⟩ hF
        | 25, hb, ht =>
          cases hb; cases ht
          refine jj_aload_n (j := 1) (i := 1) (pc' := 1648) dL_law_1647 rfl rfl rfl ?_
          refine jj_aload_n (j := 0) (i := 0) (pc' := 1649) dL_law_1648 rfl rfl rfl ?_
          refine jj_iload (j := 5) (i := 5) (pc' := 1651) dL_law_1649 rfl rfl ?_
          refine jj_iconst (v := (1 : Int32)) (pc' := 1652) dL_law_1651 rfl rfl ?_
          refine jj_iadd (pc' := 1653) dL_law_1652 rfl ?_
          obtain ⟨hi, hF⟩ := jf_s_inv hF
          refine jj_sld (L := L) (xs := xs) (pc' := 1654) dL_law_1653 rfl hi rfl ?_
          refine jj_aload_n (j := 0) (i := 0) (pc' := 1655) dL_law_1654 rfl rfl rfl ?_
          refine jj_iload (j := 5) (i := 5) (pc' := 1657) dL_law_1655 rfl rfl ?_
          refine jj_iconst (v := (2 : Int32)) (pc' := 1658) dL_law_1657 rfl rfl ?_
          refine jj_iadd (pc' := 1659) dL_law_1658 rfl ?_
          obtain ⟨hi, hF⟩ := jf_s_inv hF
          refine jj_sld (L := L) (xs := xs) (pc' := 1660) dL_law_1659 rfl hi rfl ?_
          refine jj_aload_n (j := 0) (i := 0) (pc' := 1661) dL_law_1660 rfl rfl rfl ?_
          refine jj_iload (j := 5) (i := 5) (pc' := 1663) dL_law_1661 rfl rfl ?_
          refine jj_iconst (v := (3 : Int32)) (pc' := 1664) dL_law_1663 rfl rfl ?_
          refine jj_iadd (pc' := 1665) dL_law_1664 rfl ?_
          obtain ⟨hi, hF⟩ := jf_s_inv hF
          refine jj_sld (L := L) (xs := xs) (pc' := 1666) dL_law_1665 rfl hi rfl ?_
          refine jj_aload_n (j := 0) (i := 0) (pc' := 1667) dL_law_1666 rfl rfl rfl ?_
          refine jj_iload (j := 5) (i := 5) (pc' := 1669) dL_law_1667 rfl rfl ?_
          refine jj_iconst (v := (4 : Int32)) (pc' := 1670) dL_law_1669 rfl rfl ?_
          refine jj_iadd (pc' := 1671) dL_law_1670 rfl ?_
          obtain ⟨hi, hF⟩ := jf_s_inv hF
          refine jj_sld (L := L) (xs := xs) (pc' := 1672) dL_law_1671 rfl hi rfl ?_
          refine jj_aload_n (j := 0) (i := 0) (pc' := 1673) dL_law_1672 rfl rfl rfl ?_
          refine jj_iload (j := 5) (i := 5) (pc' := 1675) dL_law_1673 rfl rfl ?_
          refine jj_iconst (v := (5 : Int32)) (pc' := 1676) dL_law_1675 rfl rfl ?_
          refine jj_iadd (pc' := 1677) dL_law_1676 rfl ?_
          obtain ⟨hi, hF⟩ := jf_s_inv hF
          refine jj_sld (L := L) (xs := xs) (pc' := 1678) dL_law_1677 rfl hi rfl ?_
          refine jj_aload_n (j := 3) (i := 3) (pc' := 1679) dL_law_1678 rfl rfl rfl ?_
          obtain ⟨hk, hF⟩ := jf_k_inv hF
          refine jj_cI (N := M_L_whyNot) (kc' := (kc + 5)) (ks' := (ks + 30)) (pc' := 1682) (jg_H (N := M_L_whyNot) (rest := []) (as := [.ref a1, .int (xs (x5 + ((1 : Int32))).toNatClampNeg), .int (xs (x5 + ((2 : Int32))).toNatClampNeg), .int (xs (x5 + ((3 : Int32))).toNatClampNeg), .int (xs (x5 + ((4 : Int32))).toNatClampNeg), .int (xs (x5 + ((5 : Int32))).toNatClampNeg), .ref a3]) cf_L_195 (by decide) dL_law_1679 rfl rfl ⟨Nat.le_of_ble_eq_true rfl, Nat.le_of_ble_eq_true rfl⟩ ⟨hk.1, hk.2⟩ (Nat.le_of_ble_eq_true rfl) (fun X' hX => KL_whyNot hX)) rfl rfl rfl rfl ⟨hk.1, hk.2⟩ rfl hF (fun x268 h267 hF => ?_)
          refine jj_istore (i := 6) (ls' := [(6, .int x268), (0, .ref 1000000), (1, .ref a1), (2, .ref a2), (3, .ref a3), (4, .ref a4), (5, .int x5)]) (pc' := 1684) dL_law_1682 (Nat.le_of_ble_eq_true rfl) rfl rfl ?_
          refine jj_aload_n (j := 3) (i := 2) (pc' := 1685) dL_law_1684 rfl rfl rfl ?_
          refine jj_aload_n (j := 1) (i := 0) (pc' := 1686) dL_law_1685 rfl rfl rfl ?_
          refine jj_iload (j := 6) (i := 5) (pc' := 1688) dL_law_1686 rfl rfl ?_
          refine jj_iconst (v := (1 : Int32)) (pc' := 1689) dL_law_1688 rfl rfl ?_
          refine jj_iadd (pc' := 1690) dL_law_1689 rfl ?_
          obtain ⟨hi, hF⟩ := jf_s_inv hF
          refine jj_sld (L := L) (xs := xs) (pc' := 1691) dL_law_1690 rfl hi rfl ?_
          refine jj_aload_n (j := 1) (i := 0) (pc' := 1692) dL_law_1691 rfl rfl rfl ?_
          refine jj_iload (j := 6) (i := 5) (pc' := 1694) dL_law_1692 rfl rfl ?_
          refine jj_iconst (v := (2 : Int32)) (pc' := 1695) dL_law_1694 rfl rfl ?_
          refine jj_iadd (pc' := 1696) dL_law_1695 rfl ?_
          obtain ⟨hi, hF⟩ := jf_s_inv hF
          refine jj_sld (L := L) (xs := xs) (pc' := 1697) dL_law_1696 rfl hi rfl ?_
          refine jj_aload_n (j := 1) (i := 0) (pc' := 1698) dL_law_1697 rfl rfl rfl ?_
          refine jj_iload (j := 6) (i := 5) (pc' := 1700) dL_law_1698 rfl rfl ?_
          refine jj_iconst (v := (3 : Int32)) (pc' := 1701) dL_law_1700 rfl rfl ?_
          refine jj_iadd (pc' := 1702) dL_law_1701 rfl ?_
          obtain ⟨hi, hF⟩ := jf_s_inv hF
          refine jj_sld (L := L) (xs := xs) (pc' := 1703) dL_law_1702 rfl hi rfl ?_
          refine jj_aload_n (j := 1) (i := 0) (pc' := 1704) dL_law_1703 rfl rfl rfl ?_
          refine jj_iload (j := 6) (i := 5) (pc' := 1706) dL_law_1704 rfl rfl ?_
          refine jj_iconst (v := (4 : Int32)) (pc' := 1707) dL_law_1706 rfl rfl ?_
          refine jj_iadd (pc' := 1708) dL_law_1707 rfl ?_
          obtain ⟨hi, hF⟩ := jf_s_inv hF
          refine jj_sld (L := L) (xs := xs) (pc' := 1709) dL_law_1708 rfl hi rfl ?_
          refine jj_aload_n (j := 1) (i := 0) (pc' := 1710) dL_law_1709 rfl rfl rfl ?_
          refine jj_iload (j := 6) (i := 5) (pc' := 1712) dL_law_1710 rfl rfl ?_
          refine jj_iconst (v := (5 : Int32)) (pc' := 1713) dL_law_1712 rfl rfl ?_
          refine jj_iadd (pc' := 1714) dL_law_1713 rfl ?_
          obtain ⟨hi, hF⟩ := jf_s_inv hF
          refine jj_sld (L := L) (xs := xs) (pc' := 1715) dL_law_1714 rfl hi rfl ?_
          refine jj_cI (N := M_X4_whyNot) (kc' := (kc + 5)) (ks' := (ks + 30)) (pc' := 1718) (jg_V (N := M_X4_whyNot) (ci := 4) (rest := []) (as := [.int (xs (x5 + ((1 : Int32))).toNatClampNeg), .int (xs (x5 + ((2 : Int32))).toNatClampNeg), .int (xs (x5 + ((3 : Int32))).toNatClampNeg), .int (xs (x5 + ((4 : Int32))).toNatClampNeg), .int (xs (x5 + ((5 : Int32))).toNatClampNeg)]) cf_L_198 dL_law_1715 ⟨rfl, rfl⟩ rfl rfl ⟨Nat.le_of_ble_eq_true rfl, Nat.le_of_ble_eq_true rfl⟩ ⟨hk.1, hk.2⟩ (Nat.le_of_ble_eq_true rfl) (fun X' hX => KX4_whyNot hX)) rfl rfl rfl rfl ⟨hk.1, hk.2⟩ rfl hF (fun x270 h269 hF => ?_)
          refine jj_istore (i := 7) (ls' := [(7, .int x270), (6, .int x268), (0, .ref 1000000), (1, .ref a1), (2, .ref a2), (3, .ref a3), (4, .ref a4), (5, .int x5)]) (pc' := 1720) dL_law_1718 (Nat.le_of_ble_eq_true rfl) rfl rfl ?_
          refine jj_aload_n (j := 4) (i := 2) (pc' := 1721) dL_law_1720 rfl rfl rfl ?_
          refine jj_cI (N := M_X4_thrown) (kc' := (kc + 5)) (ks' := (ks + 30)) (pc' := 1724) (jg_V (N := M_X4_thrown) (ci := 4) (rest := []) (as := []) cf_L_113 dL_law_1721 ⟨rfl, rfl⟩ rfl rfl ⟨Nat.le_of_ble_eq_true rfl, Nat.le_of_ble_eq_true rfl⟩ ⟨hk.1, hk.2⟩ (Nat.le_of_ble_eq_true rfl) (fun X' hX => KX4_thrown hX)) rfl rfl rfl rfl ⟨hk.1, hk.2⟩ rfl hF (fun x272 h271 hF => ?_)
          refine jj_iload (j := 1) (i := 6) (pc' := 1726) dL_law_1724 rfl rfl ?_
          refine jj_icmp_eq (tgt := 1731) (pc' := 1729) dL_law_1726 rfl rfl (fun hc hF => ?_) (fun hc hF => ?_) hF
          · skip
            refine jj_iload (j := 1) (i := 6) (pc' := 1733) dL_law_1731 rfl rfl ?_
            refine jj_if_ne (tgt := 1748) (pc' := 1736) dL_law_1733 rfl rfl (fun hc hF => ?_) (fun hc hF => ?_) hF
            · skip
              refine jj_goto (tgt := 2070) dL_law_1748 rfl ?_
              refine jj_iinc (i := 5) (j := 7) (v := x5 + (6 : Int32)) (ls' := [(5, .int (x5 + (6 : Int32))), (7, .int x270), (6, .int x268), (0, .ref 1000000), (1, .ref a1), (2, .ref a2), (3, .ref a3), (4, .ref a4)]) (pc' := 2073) dL_law_2070 rfl rfl (Nat.le_of_ble_eq_true rfl) rfl rfl ?_
              refine jj_goto (tgt := 28) dL_law_2073 rfl ?_
              exact jj_pick [3, 4, 5, 6, 7, 0] rfl (ih (kc + 5) (ks + 30) a1 a2 a3 a4 (x5 + (6 : Int32)) h271 _ hF)
            · skip
              refine jj_aload_n (j := 5) (i := 3) (pc' := 1737) dL_law_1736 rfl rfl rfl ?_
              refine jj_iconst (v := (0 : Int32)) (pc' := 1738) dL_law_1737 rfl rfl ?_
              refine jj_ldL (pc' := 1739) dL_law_1738 rfl hF (fun l273 hF => ?_)
              refine jj_iload (j := 0) (i := 7) (pc' := 1741) dL_law_1739 rfl rfl ?_
              refine jj_i2l (pc' := 1742) dL_law_1741 rfl ?_
              refine jj_lcmp (pc' := 1743) dL_law_1742 rfl ?_
              refine jj_if_eq (tgt := 1748) (pc' := 1746) dL_law_1743 rfl rfl (fun hc hF => ?_) (fun hc hF => ?_) hF
              · skip
                refine jj_goto (tgt := 2070) dL_law_1748 rfl ?_
                refine jj_iinc (i := 5) (j := 7) (v := x5 + (6 : Int32)) (ls' := [(5, .int (x5 + (6 : Int32))), (7, .int x270), (6, .int x268), (0, .ref 1000000), (1, .ref a1), (2, .ref a2), (3, .ref a3), (4, .ref a4)]) (pc' := 2073) dL_law_2070 rfl rfl (Nat.le_of_ble_eq_true rfl) rfl rfl ?_
                refine jj_goto (tgt := 28) dL_law_2073 rfl ?_
                exact jj_pick [3, 4, 5, 6, 7, 0] rfl (ih (kc + 5) (ks + 30) a1 a2 a3 a4 (x5 + (6 : Int32)) h271 _ hF)
              · skip
                refine jj_iconst (v := (0 : Int32)) (pc' := 1747) dL_law_1746 rfl rfl ?_
                exact jj_retI (ty := .boolean) rfl rfl dL_law_1747 ⟨hk.1, hk.2⟩ hF
          · skip
            refine jj_iconst (v := (0 : Int32)) (pc' := 1730) dL_law_1729 rfl rfl ?_
            exact jj_retI (ty := .boolean) rfl rfl dL_law_1730 ⟨hk.1, hk.2⟩ hF
        | 26, hb, ht =>
          cases hb; cases ht
          refine jj_aload_n (j := 1) (i := 1) (pc' := 1752) dL_law_1751 rfl rfl rfl ?_
          refine jj_aload_n (j := 0) (i := 0) (pc' := 1753) dL_law_1752 rfl rfl rfl ?_
          refine jj_iload (j := 5) (i := 5) (pc' := 1755) dL_law_1753 rfl rfl ?_
          refine jj_iconst (v := (1 : Int32)) (pc' := 1756) dL_law_1755 rfl rfl ?_
          refine jj_iadd (pc' := 1757) dL_law_1756 rfl ?_
          obtain ⟨hi, hF⟩ := jf_s_inv hF
          refine jj_sld (L := L) (xs := xs) (pc' := 1758) dL_law_1757 rfl hi rfl ?_
          refine jj_aload_n (j := 0) (i := 0) (pc' := 1759) dL_law_1758 rfl rfl rfl ?_
          refine jj_iload (j := 5) (i := 5) (pc' := 1761) dL_law_1759 rfl rfl ?_
          refine jj_iconst (v := (2 : Int32)) (pc' := 1762) dL_law_1761 rfl rfl ?_
          refine jj_iadd (pc' := 1763) dL_law_1762 rfl ?_
          obtain ⟨hi, hF⟩ := jf_s_inv hF
          refine jj_sld (L := L) (xs := xs) (pc' := 1764) dL_law_1763 rfl hi rfl ?_
          refine jj_aload_n (j := 0) (i := 0) (pc' := 1765) dL_law_1764 rfl rfl rfl ?_
          refine jj_iload (j := 5) (i := 5) (pc' := 1767) dL_law_1765 rfl rfl ?_
          refine jj_iconst (v := (3 : Int32)) (pc' := 1768) dL_law_1767 rfl rfl ?_
          refine jj_iadd (pc' := 1769) dL_law_1768 rfl ?_
          obtain ⟨hi, hF⟩ := jf_s_inv hF
          refine jj_sld (L := L) (xs := xs) (pc' := 1770) dL_law_1769 rfl hi rfl ?_
          refine jj_aload_n (j := 3) (i := 3) (pc' := 1771) dL_law_1770 rfl rfl rfl ?_
          obtain ⟨hk, hF⟩ := jf_k_inv hF
          refine jj_cI (N := M_L_nextStart) (kc' := (kc + 3)) (ks' := (ks + 18)) (pc' := 1774) (jg_H (N := M_L_nextStart) (rest := []) (as := [.ref a1, .int (xs (x5 + ((1 : Int32))).toNatClampNeg), .int (xs (x5 + ((2 : Int32))).toNatClampNeg), .int (xs (x5 + ((3 : Int32))).toNatClampNeg), .ref a3]) cf_L_199 (by decide) dL_law_1771 rfl rfl ⟨Nat.le_of_ble_eq_true rfl, Nat.le_of_ble_eq_true rfl⟩ ⟨hk.1, hk.2⟩ (Nat.le_of_ble_eq_true rfl) (fun X' hX => KL_nextStart hX)) rfl rfl rfl rfl ⟨hk.1, hk.2⟩ rfl hF (fun x275 h274 hF => ?_)
          refine jj_istore (i := 6) (ls' := [(6, .int x275), (0, .ref 1000000), (1, .ref a1), (2, .ref a2), (3, .ref a3), (4, .ref a4), (5, .int x5)]) (pc' := 1776) dL_law_1774 (Nat.le_of_ble_eq_true rfl) rfl rfl ?_
          refine jj_aload_n (j := 3) (i := 2) (pc' := 1777) dL_law_1776 rfl rfl rfl ?_
          refine jj_aload_n (j := 1) (i := 0) (pc' := 1778) dL_law_1777 rfl rfl rfl ?_
          refine jj_iload (j := 6) (i := 5) (pc' := 1780) dL_law_1778 rfl rfl ?_
          refine jj_iconst (v := (1 : Int32)) (pc' := 1781) dL_law_1780 rfl rfl ?_
          refine jj_iadd (pc' := 1782) dL_law_1781 rfl ?_
          obtain ⟨hi, hF⟩ := jf_s_inv hF
          refine jj_sld (L := L) (xs := xs) (pc' := 1783) dL_law_1782 rfl hi rfl ?_
          refine jj_aload_n (j := 1) (i := 0) (pc' := 1784) dL_law_1783 rfl rfl rfl ?_
          refine jj_iload (j := 6) (i := 5) (pc' := 1786) dL_law_1784 rfl rfl ?_
          refine jj_iconst (v := (2 : Int32)) (pc' := 1787) dL_law_1786 rfl rfl ?_
          refine jj_iadd (pc' := 1788) dL_law_1787 rfl ?_
          obtain ⟨hi, hF⟩ := jf_s_inv hF
          refine jj_sld (L := L) (xs := xs) (pc' := 1789) dL_law_1788 rfl hi rfl ?_
          refine jj_aload_n (j := 1) (i := 0) (pc' := 1790) dL_law_1789 rfl rfl rfl ?_
          refine jj_iload (j := 6) (i := 5) (pc' := 1792) dL_law_1790 rfl rfl ?_
          refine jj_iconst (v := (3 : Int32)) (pc' := 1793) dL_law_1792 rfl rfl ?_
          refine jj_iadd (pc' := 1794) dL_law_1793 rfl ?_
          obtain ⟨hi, hF⟩ := jf_s_inv hF
          refine jj_sld (L := L) (xs := xs) (pc' := 1795) dL_law_1794 rfl hi rfl ?_
          refine jj_cI (N := M_X4_nextStart) (kc' := (kc + 3)) (ks' := (ks + 18)) (pc' := 1798) (jg_V (N := M_X4_nextStart) (ci := 4) (rest := []) (as := [.int (xs (x5 + ((1 : Int32))).toNatClampNeg), .int (xs (x5 + ((2 : Int32))).toNatClampNeg), .int (xs (x5 + ((3 : Int32))).toNatClampNeg)]) cf_L_201 dL_law_1795 ⟨rfl, rfl⟩ rfl rfl ⟨Nat.le_of_ble_eq_true rfl, Nat.le_of_ble_eq_true rfl⟩ ⟨hk.1, hk.2⟩ (Nat.le_of_ble_eq_true rfl) (fun X' hX => KX4_nextStart hX)) rfl rfl rfl rfl ⟨hk.1, hk.2⟩ rfl hF (fun x277 h276 hF => ?_)
          refine jj_istore (i := 7) (ls' := [(7, .int x277), (6, .int x275), (0, .ref 1000000), (1, .ref a1), (2, .ref a2), (3, .ref a3), (4, .ref a4), (5, .int x5)]) (pc' := 1800) dL_law_1798 (Nat.le_of_ble_eq_true rfl) rfl rfl ?_
          refine jj_aload_n (j := 4) (i := 2) (pc' := 1801) dL_law_1800 rfl rfl rfl ?_
          refine jj_cI (N := M_X4_thrown) (kc' := (kc + 3)) (ks' := (ks + 18)) (pc' := 1804) (jg_V (N := M_X4_thrown) (ci := 4) (rest := []) (as := []) cf_L_113 dL_law_1801 ⟨rfl, rfl⟩ rfl rfl ⟨Nat.le_of_ble_eq_true rfl, Nat.le_of_ble_eq_true rfl⟩ ⟨hk.1, hk.2⟩ (Nat.le_of_ble_eq_true rfl) (fun X' hX => KX4_thrown hX)) rfl rfl rfl rfl ⟨hk.1, hk.2⟩ rfl hF (fun x279 h278 hF => ?_)
          refine jj_iload (j := 1) (i := 6) (pc' := 1806) dL_law_1804 rfl rfl ?_
          refine jj_icmp_eq (tgt := 1811) (pc' := 1809) dL_law_1806 rfl rfl (fun hc hF => ?_) (fun hc hF => ?_) hF
          · skip
            refine jj_iload (j := 1) (i := 6) (pc' := 1813) dL_law_1811 rfl rfl ?_
            refine jj_if_ne (tgt := 1828) (pc' := 1816) dL_law_1813 rfl rfl (fun hc hF => ?_) (fun hc hF => ?_) hF
            · skip
              refine jj_goto (tgt := 2070) dL_law_1828 rfl ?_
              refine jj_iinc (i := 5) (j := 7) (v := x5 + (6 : Int32)) (ls' := [(5, .int (x5 + (6 : Int32))), (7, .int x277), (6, .int x275), (0, .ref 1000000), (1, .ref a1), (2, .ref a2), (3, .ref a3), (4, .ref a4)]) (pc' := 2073) dL_law_2070 rfl rfl (Nat.le_of_ble_eq_true rfl) rfl rfl ?_
              refine jj_goto (tgt := 28) dL_law_2073 rfl ?_
              exact jj_pick [3, 4, 5, 6, 7, 0] rfl (ih (kc + 3) (ks + 18) a1 a2 a3 a4 (x5 + (6 : Int32)) h278 _ hF)
            · skip
              refine jj_aload_n (j := 5) (i := 3) (pc' := 1817) dL_law_1816 rfl rfl rfl ?_
              refine jj_iconst (v := (0 : Int32)) (pc' := 1818) dL_law_1817 rfl rfl ?_
              refine jj_ldL (pc' := 1819) dL_law_1818 rfl hF (fun l280 hF => ?_)
              refine jj_iload (j := 0) (i := 7) (pc' := 1821) dL_law_1819 rfl rfl ?_
              refine jj_i2l (pc' := 1822) dL_law_1821 rfl ?_
              refine jj_lcmp (pc' := 1823) dL_law_1822 rfl ?_
              refine jj_if_eq (tgt := 1828) (pc' := 1826) dL_law_1823 rfl rfl (fun hc hF => ?_) (fun hc hF => ?_) hF
              · skip
                refine jj_goto (tgt := 2070) dL_law_1828 rfl ?_
                refine jj_iinc (i := 5) (j := 7) (v := x5 + (6 : Int32)) (ls' := [(5, .int (x5 + (6 : Int32))), (7, .int x277), (6, .int x275), (0, .ref 1000000), (1, .ref a1), (2, .ref a2), (3, .ref a3), (4, .ref a4)]) (pc' := 2073) dL_law_2070 rfl rfl (Nat.le_of_ble_eq_true rfl) rfl rfl ?_
                refine jj_goto (tgt := 28) dL_law_2073 rfl ?_
                exact jj_pick [3, 4, 5, 6, 7, 0] rfl (ih (kc + 3) (ks + 18) a1 a2 a3 a4 (x5 + (6 : Int32)) h278 _ hF)
              · skip
                refine jj_iconst (v := (0 : Int32)) (pc' := 1827) dL_law_1826 rfl rfl ?_
                exact jj_retI (ty := .boolean) rfl rfl dL_law_1827 ⟨hk.1, hk.2⟩ hF
          · skip
            refine jj_iconst (v := (0 : Int32)) (pc' := 1810) dL_law_1809 rfl rfl ?_
            exact jj_retI (ty := .boolean) rfl rfl dL_law_1810 ⟨hk.1, hk.2⟩ hF
        | 27, hb, ht =>
          cases hb; cases ht
          refine jj_aload_n (j := 1) (i := 1) (pc' := 1832) dL_law_1831 rfl rfl rfl ?_
          refine jj_aload_n (j := 0) (i := 0) (pc' := 1833) dL_law_1832 rfl rfl rfl ?_
          refine jj_iload (j := 5) (i := 5) (pc' := 1835) dL_law_1833 rfl rfl ?_
          refine jj_iconst (v := (1 : Int32)) (pc' := 1836) dL_law_1835 rfl rfl ?_
          refine jj_iadd (pc' := 1837) dL_law_1836 rfl ?_
          obtain ⟨hi, hF⟩ := jf_s_inv hF
          refine jj_sld (L := L) (xs := xs) (pc' := 1838) dL_law_1837 rfl hi rfl ?_
          refine jj_aload_n (j := 0) (i := 0) (pc' := 1839) dL_law_1838 rfl rfl rfl ?_
          refine jj_iload (j := 5) (i := 5) (pc' := 1841) dL_law_1839 rfl rfl ?_
          refine jj_iconst (v := (2 : Int32)) (pc' := 1842) dL_law_1841 rfl rfl ?_
          refine jj_iadd (pc' := 1843) dL_law_1842 rfl ?_
          obtain ⟨hi, hF⟩ := jf_s_inv hF
          refine jj_sld (L := L) (xs := xs) (pc' := 1844) dL_law_1843 rfl hi rfl ?_
          refine jj_aload_n (j := 3) (i := 3) (pc' := 1845) dL_law_1844 rfl rfl rfl ?_
          obtain ⟨hk, hF⟩ := jf_k_inv hF
          refine jj_cI (N := M_L_bestScreen) (kc' := (kc + 2)) (ks' := (ks + 12)) (pc' := 1848) (jg_H (N := M_L_bestScreen) (rest := []) (as := [.ref a1, .int (xs (x5 + ((1 : Int32))).toNatClampNeg), .int (xs (x5 + ((2 : Int32))).toNatClampNeg), .ref a3]) cf_L_202 (by decide) dL_law_1845 rfl rfl ⟨Nat.le_of_ble_eq_true rfl, Nat.le_of_ble_eq_true rfl⟩ ⟨hk.1, hk.2⟩ (Nat.le_of_ble_eq_true rfl) (fun X' hX => KL_bestScreen hX)) rfl rfl rfl rfl ⟨hk.1, hk.2⟩ rfl hF (fun x282 h281 hF => ?_)
          refine jj_istore (i := 6) (ls' := [(6, .int x282), (0, .ref 1000000), (1, .ref a1), (2, .ref a2), (3, .ref a3), (4, .ref a4), (5, .int x5)]) (pc' := 1850) dL_law_1848 (Nat.le_of_ble_eq_true rfl) rfl rfl ?_
          refine jj_aload_n (j := 3) (i := 2) (pc' := 1851) dL_law_1850 rfl rfl rfl ?_
          refine jj_aload_n (j := 1) (i := 0) (pc' := 1852) dL_law_1851 rfl rfl rfl ?_
          refine jj_iload (j := 6) (i := 5) (pc' := 1854) dL_law_1852 rfl rfl ?_
          refine jj_iconst (v := (1 : Int32)) (pc' := 1855) dL_law_1854 rfl rfl ?_
          refine jj_iadd (pc' := 1856) dL_law_1855 rfl ?_
          obtain ⟨hi, hF⟩ := jf_s_inv hF
          refine jj_sld (L := L) (xs := xs) (pc' := 1857) dL_law_1856 rfl hi rfl ?_
          refine jj_aload_n (j := 1) (i := 0) (pc' := 1858) dL_law_1857 rfl rfl rfl ?_
          refine jj_iload (j := 6) (i := 5) (pc' := 1860) dL_law_1858 rfl rfl ?_
          refine jj_iconst (v := (2 : Int32)) (pc' := 1861) dL_law_1860 rfl rfl ?_
          refine jj_iadd (pc' := 1862) dL_law_1861 rfl ?_
          obtain ⟨hi, hF⟩ := jf_s_inv hF
          refine jj_sld (L := L) (xs := xs) (pc' := 1863) dL_law_1862 rfl hi rfl ?_
          refine jj_cI (N := M_X4_bestScreen) (kc' := (kc + 2)) (ks' := (ks + 12)) (pc' := 1866) (jg_V (N := M_X4_bestScreen) (ci := 4) (rest := []) (as := [.int (xs (x5 + ((1 : Int32))).toNatClampNeg), .int (xs (x5 + ((2 : Int32))).toNatClampNeg)]) cf_L_204 dL_law_1863 ⟨rfl, rfl⟩ rfl rfl ⟨Nat.le_of_ble_eq_true rfl, Nat.le_of_ble_eq_true rfl⟩ ⟨hk.1, hk.2⟩ (Nat.le_of_ble_eq_true rfl) (fun X' hX => KX4_bestScreen hX)) rfl rfl rfl rfl ⟨hk.1, hk.2⟩ rfl hF (fun x284 h283 hF => ?_)
          refine jj_istore (i := 7) (ls' := [(7, .int x284), (6, .int x282), (0, .ref 1000000), (1, .ref a1), (2, .ref a2), (3, .ref a3), (4, .ref a4), (5, .int x5)]) (pc' := 1868) dL_law_1866 (Nat.le_of_ble_eq_true rfl) rfl rfl ?_
          refine jj_aload_n (j := 4) (i := 2) (pc' := 1869) dL_law_1868 rfl rfl rfl ?_
          refine jj_cI (N := M_X4_thrown) (kc' := (kc + 2)) (ks' := (ks + 12)) (pc' := 1872) (jg_V (N := M_X4_thrown) (ci := 4) (rest := []) (as := []) cf_L_113 dL_law_1869 ⟨rfl, rfl⟩ rfl rfl ⟨Nat.le_of_ble_eq_true rfl, Nat.le_of_ble_eq_true rfl⟩ ⟨hk.1, hk.2⟩ (Nat.le_of_ble_eq_true rfl) (fun X' hX => KX4_thrown hX)) rfl rfl rfl rfl ⟨hk.1, hk.2⟩ rfl hF (fun x286 h285 hF => ?_)
          refine jj_iload (j := 1) (i := 6) (pc' := 1874) dL_law_1872 rfl rfl ?_
          refine jj_icmp_eq (tgt := 1879) (pc' := 1877) dL_law_1874 rfl rfl (fun hc hF => ?_) (fun hc hF => ?_) hF
          · skip
            refine jj_iload (j := 1) (i := 6) (pc' := 1881) dL_law_1879 rfl rfl ?_
            refine jj_if_ne (tgt := 1896) (pc' := 1884) dL_law_1881 rfl rfl (fun hc hF => ?_) (fun hc hF => ?_) hF
            · skip
              refine jj_goto (tgt := 2070) dL_law_1896 rfl ?_
              refine jj_iinc (i := 5) (j := 7) (v := x5 + (6 : Int32)) (ls' := [(5, .int (x5 + (6 : Int32))), (7, .int x284), (6, .int x282), (0, .ref 1000000), (1, .ref a1), (2, .ref a2), (3, .ref a3), (4, .ref a4)]) (pc' := 2073) dL_law_2070 rfl rfl (Nat.le_of_ble_eq_true rfl) rfl rfl ?_
              refine jj_goto (tgt := 28) dL_law_2073 rfl ?_
              exact jj_pick [3, 4, 5, 6, 7, 0] rfl (ih (kc + 2) (ks + 12) a1 a2 a3 a4 (x5 + (6 : Int32)) h285 _ hF)
            · skip
              refine jj_aload_n (j := 5) (i := 3) (pc' := 1885) dL_law_1884 rfl rfl rfl ?_
              refine jj_iconst (v := (0 : Int32)) (pc' := 1886) dL_law_1885 rfl rfl ?_
              refine jj_ldL (pc' := 1887) dL_law_1886 rfl hF (fun l287 hF => ?_)
              refine jj_iload (j := 0) (i := 7) (pc' := 1889) dL_law_1887 rfl rfl ?_
              refine jj_i2l (pc' := 1890) dL_law_1889 rfl ?_
              refine jj_lcmp (pc' := 1891) dL_law_1890 rfl ?_
              refine jj_if_eq (tgt := 1896) (pc' := 1894) dL_law_1891 rfl rfl (fun hc hF => ?_) (fun hc hF => ?_) hF
              · skip
                refine jj_goto (tgt := 2070) dL_law_1896 rfl ?_
                refine jj_iinc (i := 5) (j := 7) (v := x5 + (6 : Int32)) (ls' := [(5, .int (x5 + (6 : Int32))), (7, .int x284), (6, .int x282), (0, .ref 1000000), (1, .ref a1), (2, .ref a2), (3, .ref a3), (4, .ref a4)]) (pc' := 2073) dL_law_2070 rfl rfl (Nat.le_of_ble_eq_true rfl) rfl rfl ?_
                refine jj_goto (tgt := 28) dL_law_2073 rfl ?_
                exact jj_pick [3, 4, 5, 6, 7, 0] rfl (ih (kc + 2) (ks + 12) a1 a2 a3 a4 (x5 + (6 : Int32)) h285 _ hF)
              · skip
                refine jj_iconst (v := (0 : Int32)) (pc' := 1895) dL_law_1894 rfl rfl ?_
                exact jj_retI (ty := .boolean) rfl rfl dL_law_1895 ⟨hk.1, hk.2⟩ hF
          · skip
            refine jj_iconst (v := (0 : Int32)) (pc' := 1878) dL_law_1877 rfl rfl ?_
            exact jj_retI (ty := .boolean) rfl rfl dL_law_1878 ⟨hk.1, hk.2⟩ hF
        | 28, hb, ht =>
          cases hb; cases ht
          refine jj_aload_n (j := 1) (i := 1) (pc' := 1900) dL_law_1899 rfl rfl rfl ?_
          refine jj_aload_n (j := 0) (i := 0) (pc' := 1901) dL_law_1900 rfl rfl rfl ?_
          refine jj_iload (j := 5) (i := 5) (pc' := 1903) dL_law_1901 rfl rfl ?_
          refine jj_iconst (v := (1 : Int32)) (pc' := 1904) dL_law_1903 rfl rfl ?_
          refine jj_iadd (pc' := 1905) dL_law_1904 rfl ?_
          obtain ⟨hi, hF⟩ := jf_s_inv hF
          refine jj_sld (L := L) (xs := xs) (pc' := 1906) dL_law_1905 rfl hi rfl ?_
          refine jj_aload_n (j := 0) (i := 0) (pc' := 1907) dL_law_1906 rfl rfl rfl ?_
          refine jj_iload (j := 5) (i := 5) (pc' := 1909) dL_law_1907 rfl rfl ?_
          refine jj_iconst (v := (2 : Int32)) (pc' := 1910) dL_law_1909 rfl rfl ?_
          refine jj_iadd (pc' := 1911) dL_law_1910 rfl ?_
          obtain ⟨hi, hF⟩ := jf_s_inv hF
          refine jj_sld (L := L) (xs := xs) (pc' := 1912) dL_law_1911 rfl hi rfl ?_
          refine jj_aload_n (j := 0) (i := 0) (pc' := 1913) dL_law_1912 rfl rfl rfl ?_
          refine jj_iload (j := 5) (i := 5) (pc' := 1915) dL_law_1913 rfl rfl ?_
          refine jj_iconst (v := (3 : Int32)) (pc' := 1916) dL_law_1915 rfl rfl ?_
          refine jj_iadd (pc' := 1917) dL_law_1916 rfl ?_
          obtain ⟨hi, hF⟩ := jf_s_inv hF
          refine jj_sld (L := L) (xs := xs) (pc' := 1918) dL_law_1917 rfl hi rfl ?_
          refine jj_aload_n (j := 3) (i := 3) (pc' := 1919) dL_law_1918 rfl rfl rfl ?_
          obtain ⟨hk, hF⟩ := jf_k_inv hF
          refine jj_cI (N := M_L_ifShown) (kc' := (kc + 3)) (ks' := (ks + 18)) (pc' := 1922) (jg_H (N := M_L_ifShown) (rest := []) (as := [.ref a1, .int (xs (x5 + ((1 : Int32))).toNatClampNeg), .int (xs (x5 + ((2 : Int32))).toNatClampNeg), .int (xs (x5 + ((3 : Int32))).toNatClampNeg), .ref a3]) cf_L_205 (by decide) dL_law_1919 rfl rfl ⟨Nat.le_of_ble_eq_true rfl, Nat.le_of_ble_eq_true rfl⟩ ⟨hk.1, hk.2⟩ (Nat.le_of_ble_eq_true rfl) (fun X' hX => KL_ifShown hX)) rfl rfl rfl rfl ⟨hk.1, hk.2⟩ rfl hF (fun x289 h288 hF => ?_)
          refine jj_istore (i := 6) (ls' := [(6, .int x289), (0, .ref 1000000), (1, .ref a1), (2, .ref a2), (3, .ref a3), (4, .ref a4), (5, .int x5)]) (pc' := 1924) dL_law_1922 (Nat.le_of_ble_eq_true rfl) rfl rfl ?_
          refine jj_aload_n (j := 3) (i := 2) (pc' := 1925) dL_law_1924 rfl rfl rfl ?_
          refine jj_aload_n (j := 1) (i := 0) (pc' := 1926) dL_law_1925 rfl rfl rfl ?_
          refine jj_iload (j := 6) (i := 5) (pc' := 1928) dL_law_1926 rfl rfl ?_
          refine jj_iconst (v := (1 : Int32)) (pc' := 1929) dL_law_1928 rfl rfl ?_
          refine jj_iadd (pc' := 1930) dL_law_1929 rfl ?_
          obtain ⟨hi, hF⟩ := jf_s_inv hF
          refine jj_sld (L := L) (xs := xs) (pc' := 1931) dL_law_1930 rfl hi rfl ?_
          refine jj_aload_n (j := 1) (i := 0) (pc' := 1932) dL_law_1931 rfl rfl rfl ?_
          refine jj_iload (j := 6) (i := 5) (pc' := 1934) dL_law_1932 rfl rfl ?_
          refine jj_iconst (v := (2 : Int32)) (pc' := 1935) dL_law_1934 rfl rfl ?_
          refine jj_iadd (pc' := 1936) dL_law_1935 rfl ?_
          obtain ⟨hi, hF⟩ := jf_s_inv hF
          refine jj_sld (L := L) (xs := xs) (pc' := 1937) dL_law_1936 rfl hi rfl ?_
          refine jj_aload_n (j := 1) (i := 0) (pc' := 1938) dL_law_1937 rfl rfl rfl ?_
          refine jj_iload (j := 6) (i := 5) (pc' := 1940) dL_law_1938 rfl rfl ?_
          refine jj_iconst (v := (3 : Int32)) (pc' := 1941) dL_law_1940 rfl rfl ?_
          refine jj_iadd (pc' := 1942) dL_law_1941 rfl ?_
          obtain ⟨hi, hF⟩ := jf_s_inv hF
          refine jj_sld (L := L) (xs := xs) (pc' := 1943) dL_law_1942 rfl hi rfl ?_
          refine jj_cI (N := M_X4_ifShown) (kc' := (kc + 3)) (ks' := (ks + 18)) (pc' := 1946) (jg_V (N := M_X4_ifShown) (ci := 4) (rest := []) (as := [.int (xs (x5 + ((1 : Int32))).toNatClampNeg), .int (xs (x5 + ((2 : Int32))).toNatClampNeg), .int (xs (x5 + ((3 : Int32))).toNatClampNeg)]) cf_L_207 dL_law_1943 ⟨rfl, rfl⟩ rfl rfl ⟨Nat.le_of_ble_eq_true rfl, Nat.le_of_ble_eq_true rfl⟩ ⟨hk.1, hk.2⟩ (Nat.le_of_ble_eq_true rfl) (fun X' hX => KX4_ifShown hX)) rfl rfl rfl rfl ⟨hk.1, hk.2⟩ rfl hF (fun x291 h290 hF => ?_)
          refine jj_istore (i := 7) (ls' := [(7, .int x291), (6, .int x289), (0, .ref 1000000), (1, .ref a1), (2, .ref a2), (3, .ref a3), (4, .ref a4), (5, .int x5)]) (pc' := 1948) dL_law_1946 (Nat.le_of_ble_eq_true rfl) rfl rfl ?_
          refine jj_aload_n (j := 4) (i := 2) (pc' := 1949) dL_law_1948 rfl rfl rfl ?_
          refine jj_cI (N := M_X4_thrown) (kc' := (kc + 3)) (ks' := (ks + 18)) (pc' := 1952) (jg_V (N := M_X4_thrown) (ci := 4) (rest := []) (as := []) cf_L_113 dL_law_1949 ⟨rfl, rfl⟩ rfl rfl ⟨Nat.le_of_ble_eq_true rfl, Nat.le_of_ble_eq_true rfl⟩ ⟨hk.1, hk.2⟩ (Nat.le_of_ble_eq_true rfl) (fun X' hX => KX4_thrown hX)) rfl rfl rfl rfl ⟨hk.1, hk.2⟩ rfl hF (fun x293 h292 hF => ?_)
          refine jj_iload (j := 1) (i := 6) (pc' := 1954) dL_law_1952 rfl rfl ?_
          refine jj_icmp_eq (tgt := 1959) (pc' := 1957) dL_law_1954 rfl rfl (fun hc hF => ?_) (fun hc hF => ?_) hF
          · skip
            refine jj_iload (j := 1) (i := 6) (pc' := 1961) dL_law_1959 rfl rfl ?_
            refine jj_if_ne (tgt := 1976) (pc' := 1964) dL_law_1961 rfl rfl (fun hc hF => ?_) (fun hc hF => ?_) hF
            · skip
              refine jj_goto (tgt := 2070) dL_law_1976 rfl ?_
              refine jj_iinc (i := 5) (j := 7) (v := x5 + (6 : Int32)) (ls' := [(5, .int (x5 + (6 : Int32))), (7, .int x291), (6, .int x289), (0, .ref 1000000), (1, .ref a1), (2, .ref a2), (3, .ref a3), (4, .ref a4)]) (pc' := 2073) dL_law_2070 rfl rfl (Nat.le_of_ble_eq_true rfl) rfl rfl ?_
              refine jj_goto (tgt := 28) dL_law_2073 rfl ?_
              exact jj_pick [3, 4, 5, 6, 7, 0] rfl (ih (kc + 3) (ks + 18) a1 a2 a3 a4 (x5 + (6 : Int32)) h292 _ hF)
            · skip
              refine jj_aload_n (j := 5) (i := 3) (pc' := 1965) dL_law_1964 rfl rfl rfl ?_
              refine jj_iconst (v := (0 : Int32)) (pc' := 1966) dL_law_1965 rfl rfl ?_
              refine jj_ldL (pc' := 1967) dL_law_1966 rfl hF (fun l294 hF => ?_)
              refine jj_iload (j := 0) (i := 7) (pc' := 1969) dL_law_1967 rfl rfl ?_
              refine jj_i2l (pc' := 1970) dL_law_1969 rfl ?_
              refine jj_lcmp (pc' := 1971) dL_law_1970 rfl ?_
              refine jj_if_eq (tgt := 1976) (pc' := 1974) dL_law_1971 rfl rfl (fun hc hF => ?_) (fun hc hF => ?_) hF
              · skip
                refine jj_goto (tgt := 2070) dL_law_1976 rfl ?_
                refine jj_iinc (i := 5) (j := 7) (v := x5 + (6 : Int32)) (ls' := [(5, .int (x5 + (6 : Int32))), (7, .int x291), (6, .int x289), (0, .ref 1000000), (1, .ref a1), (2, .ref a2), (3, .ref a3), (4, .ref a4)]) (pc' := 2073) dL_law_2070 rfl rfl (Nat.le_of_ble_eq_true rfl) rfl rfl ?_
                refine jj_goto (tgt := 28) dL_law_2073 rfl ?_
                exact jj_pick [3, 4, 5, 6, 7, 0] rfl (ih (kc + 3) (ks + 18) a1 a2 a3 a4 (x5 + (6 : Int32)) h292 _ hF)
              · skip
                refine jj_iconst (v := (0 : Int32)) (pc' := 1975) dL_law_1974 rfl rfl ?_
                exact jj_retI (ty := .boolean) rfl rfl dL_law_1975 ⟨hk.1, hk.2⟩ hF
          · skip
            refine jj_iconst (v := (0 : Int32)) (pc' := 1958) dL_law_1957 rfl rfl ?_
            exact jj_retI (ty := .boolean) rfl rfl dL_law_1958 ⟨hk.1, hk.2⟩ hF
        | 29, hb, ht =>
          cases hb; cases ht
          refine jj_aload_n (j := 1) (i := 1) (pc' := 1980) dL_law_1979 rfl rfl rfl ?_
          refine jj_aload_n (j := 0) (i := 0) (pc' := 1981) dL_law_1980 rfl rfl rfl ?_
          refine jj_iload (j := 5) (i := 5) (pc' := 1983) dL_law_1981 rfl rfl ?_
          refine jj_iconst (v := (1 : Int32)) (pc' := 1984) dL_law_1983 rfl rfl ?_
          refine jj_iadd (pc' := 1985) dL_law_1984 rfl ?_
          obtain ⟨hi, hF⟩ := jf_s_inv hF
          refine jj_sld (L := L) (xs := xs) (pc' := 1986) dL_law_1985 rfl hi rfl ?_
          refine jj_aload (j := 4) (i := 4) (pc' := 1988) dL_law_1986 rfl rfl ?_
          obtain ⟨hk, hF⟩ := jf_k_inv hF
          refine jj_cI (N := M_L_use) (kc' := (kc + 1)) (ks' := (ks + 6)) (pc' := 1991) (jg_H (N := M_L_use) (rest := []) (as := [.ref a1, .int (xs (x5 + ((1 : Int32))).toNatClampNeg), .ref a4]) cf_L_208 (by decide) dL_law_1988 rfl rfl ⟨Nat.le_of_ble_eq_true rfl, Nat.le_of_ble_eq_true rfl⟩ ⟨hk.1, hk.2⟩ (Nat.le_of_ble_eq_true rfl) (fun X' hX => KL_use hX)) rfl rfl rfl rfl ⟨hk.1, hk.2⟩ rfl hF (fun x296 h295 hF => ?_)
          refine jj_istore (i := 6) (ls' := [(6, .int x296), (0, .ref 1000000), (1, .ref a1), (2, .ref a2), (3, .ref a3), (4, .ref a4), (5, .int x5)]) (pc' := 1993) dL_law_1991 (Nat.le_of_ble_eq_true rfl) rfl rfl ?_
          refine jj_aload_n (j := 3) (i := 2) (pc' := 1994) dL_law_1993 rfl rfl rfl ?_
          refine jj_aload_n (j := 1) (i := 0) (pc' := 1995) dL_law_1994 rfl rfl rfl ?_
          refine jj_iload (j := 6) (i := 5) (pc' := 1997) dL_law_1995 rfl rfl ?_
          refine jj_iconst (v := (1 : Int32)) (pc' := 1998) dL_law_1997 rfl rfl ?_
          refine jj_iadd (pc' := 1999) dL_law_1998 rfl ?_
          obtain ⟨hi, hF⟩ := jf_s_inv hF
          refine jj_sld (L := L) (xs := xs) (pc' := 2000) dL_law_1999 rfl hi rfl ?_
          refine jj_cD (N := M_X4_use) (kc' := (kc + 1)) (ks' := (ks + 6)) (pc' := 2003) (jg_V (N := M_X4_use) (ci := 4) (rest := []) (as := [.int (xs (x5 + ((1 : Int32))).toNatClampNeg)]) cf_L_211 dL_law_2000 ⟨rfl, rfl⟩ rfl rfl ⟨Nat.le_of_ble_eq_true rfl, Nat.le_of_ble_eq_true rfl⟩ ⟨hk.1, hk.2⟩ (Nat.le_of_ble_eq_true rfl) (fun X' hX => KX4_use hX)) rfl rfl rfl rfl ⟨hk.1, hk.2⟩ rfl hF (fun d298 h297 hF => ?_)
          refine jj_dstore (i := 7) (ls' := [(7, .double d298), (6, .int x296), (0, .ref 1000000), (1, .ref a1), (2, .ref a2), (3, .ref a3), (4, .ref a4), (5, .int x5)]) (pc' := 2005) dL_law_2003 (Nat.le_of_ble_eq_true rfl) rfl rfl ?_
          refine jj_aload_n (j := 4) (i := 2) (pc' := 2006) dL_law_2005 rfl rfl rfl ?_
          refine jj_cI (N := M_X4_thrown) (kc' := (kc + 1)) (ks' := (ks + 6)) (pc' := 2009) (jg_V (N := M_X4_thrown) (ci := 4) (rest := []) (as := []) cf_L_113 dL_law_2006 ⟨rfl, rfl⟩ rfl rfl ⟨Nat.le_of_ble_eq_true rfl, Nat.le_of_ble_eq_true rfl⟩ ⟨hk.1, hk.2⟩ (Nat.le_of_ble_eq_true rfl) (fun X' hX => KX4_thrown hX)) rfl rfl rfl rfl ⟨hk.1, hk.2⟩ rfl hF (fun x300 h299 hF => ?_)
          refine jj_iload (j := 1) (i := 6) (pc' := 2011) dL_law_2009 rfl rfl ?_
          refine jj_icmp_eq (tgt := 2016) (pc' := 2014) dL_law_2011 rfl rfl (fun hc hF => ?_) (fun hc hF => ?_) hF
          · skip
            refine jj_iload (j := 1) (i := 6) (pc' := 2018) dL_law_2016 rfl rfl ?_
            refine jj_if_ne (tgt := 2053) (pc' := 2021) dL_law_2018 rfl rfl (fun hc hF => ?_) (fun hc hF => ?_) hF
            · skip
              refine jj_goto (tgt := 2070) dL_law_2053 rfl ?_
              refine jj_iinc (i := 5) (j := 7) (v := x5 + (6 : Int32)) (ls' := [(5, .int (x5 + (6 : Int32))), (7, .double d298), (6, .int x296), (0, .ref 1000000), (1, .ref a1), (2, .ref a2), (3, .ref a3), (4, .ref a4)]) (pc' := 2073) dL_law_2070 rfl rfl (Nat.le_of_ble_eq_true rfl) rfl rfl ?_
              refine jj_goto (tgt := 28) dL_law_2073 rfl ?_
              exact jj_pick [3, 4, 5, 6, 7, 0] rfl (ih (kc + 1) (ks + 6) a1 a2 a3 a4 (x5 + (6 : Int32)) h299 _ hF)
            · skip
              refine jj_aload (j := 6) (i := 4) (pc' := 2023) dL_law_2021 rfl rfl ?_
              refine jj_iconst (v := (0 : Int32)) (pc' := 2024) dL_law_2023 rfl rfl ?_
              refine jj_ldD (pc' := 2025) dL_law_2024 rfl hF (fun d301 hF => ?_)
              refine jj_dload (j := 0) (i := 7) (pc' := 2027) dL_law_2025 rfl rfl ?_
              refine jj_dcmp (pc' := 2028) dL_law_2027 rfl ?_
              refine jj_if_eq (tgt := 2053) (pc' := 2031) dL_law_2028 rfl rfl (fun hc hF => ?_) (fun hc hF => ?_) hF
              · skip
                refine jj_goto (tgt := 2070) dL_law_2053 rfl ?_
                refine jj_iinc (i := 5) (j := 7) (v := x5 + (6 : Int32)) (ls' := [(5, .int (x5 + (6 : Int32))), (7, .double d298), (6, .int x296), (0, .ref 1000000), (1, .ref a1), (2, .ref a2), (3, .ref a3), (4, .ref a4)]) (pc' := 2073) dL_law_2070 rfl rfl (Nat.le_of_ble_eq_true rfl) rfl rfl ?_
                refine jj_goto (tgt := 28) dL_law_2073 rfl ?_
                exact jj_pick [3, 4, 5, 6, 7, 0] rfl (ih (kc + 1) (ks + 6) a1 a2 a3 a4 (x5 + (6 : Int32)) h299 _ hF)
              · skip
                refine jj_aload (j := 6) (i := 4) (pc' := 2033) dL_law_2031 rfl rfl ?_
                refine jj_iconst (v := (0 : Int32)) (pc' := 2034) dL_law_2033 rfl rfl ?_
                refine jj_ldD (pc' := 2035) dL_law_2034 rfl hF (fun d302 hF => ?_)
                refine jj_aload (j := 6) (i := 4) (pc' := 2037) dL_law_2035 rfl rfl ?_
                refine jj_iconst (v := (0 : Int32)) (pc' := 2038) dL_law_2037 rfl rfl ?_
                refine jj_ldD (pc' := 2039) dL_law_2038 rfl hF (fun d303 hF => ?_)
                refine jj_dcmp (pc' := 2040) dL_law_2039 rfl ?_
                refine jj_if_eq (tgt := 2051) (pc' := 2043) dL_law_2040 rfl rfl (fun hc hF => ?_) (fun hc hF => ?_) hF
                · skip
                  refine jj_iconst (v := (0 : Int32)) (pc' := 2052) dL_law_2051 rfl rfl ?_
                  exact jj_retI (ty := .boolean) rfl rfl dL_law_2052 ⟨hk.1, hk.2⟩ hF
                · skip
                  refine jj_dload (j := 0) (i := 7) (pc' := 2045) dL_law_2043 rfl rfl ?_
                  refine jj_dload (j := 0) (i := 7) (pc' := 2047) dL_law_2045 rfl rfl ?_
                  refine jj_dcmp (pc' := 2048) dL_law_2047 rfl ?_
                  refine jj_if_ne (tgt := 2053) (pc' := 2051) dL_law_2048 rfl rfl (fun hc hF => ?_) (fun hc hF => ?_) hF
                  · skip
                    refine jj_goto (tgt := 2070) dL_law_2053 rfl ?_
                    refine jj_iinc (i := 5) (j := 7) (v := x5 + (6 : Int32)) (ls' := [(5, .int (x5 + (6 : Int32))), (7, .double d298), (6, .int x296), (0, .ref 1000000), (1, .ref a1), (2, .ref a2), (3, .ref a3), (4, .ref a4)]) (pc' := 2073) dL_law_2070 rfl rfl (Nat.le_of_ble_eq_true rfl) rfl rfl ?_
                    refine jj_goto (tgt := 28) dL_law_2073 rfl ?_
                    exact jj_pick [3, 4, 5, 6, 7, 0] rfl (ih (kc + 1) (ks + 6) a1 a2 a3 a4 (x5 + (6 : Int32)) h299 _ hF)
                  · skip
                    refine jj_iconst (v := (0 : Int32)) (pc' := 2052) dL_law_2051 rfl rfl ?_
                    exact jj_retI (ty := .boolean) rfl rfl dL_law_2052 ⟨hk.1, hk.2⟩ hF
          · skip
            refine jj_iconst (v := (0 : Int32)) (pc' := 2015) dL_law_2014 rfl rfl ?_
            exact jj_retI (ty := .boolean) rfl rfl dL_law_2015 ⟨hk.1, hk.2⟩ hF
        | 30, hb, ht =>
          cases hb; cases ht
          refine jj_aload_n (j := 1) (i := 1) (pc' := 2057) dL_law_2056 rfl rfl rfl ?_
          refine jj_cL (N := M_X3_digest) (kc' := kc) (ks' := ks) (pc' := 2060) (jg_V (N := M_X3_digest) (ci := 3) (rest := []) (as := []) cf_L_212 dL_law_2057 ⟨rfl, rfl⟩ rfl rfl ⟨Nat.le_of_ble_eq_true rfl, Nat.le_of_ble_eq_true rfl⟩ ⟨hk.1, hk.2⟩ (Nat.le_of_ble_eq_true rfl) (fun X' hX => KX3_digest hX)) rfl rfl rfl rfl ⟨hk.1, hk.2⟩ rfl hF (fun l305 h304 hF => ?_)
          refine jj_aload_n (j := 2) (i := 2) (pc' := 2061) dL_law_2060 rfl rfl rfl ?_
          refine jj_cL (N := M_X4_digest) (kc' := kc) (ks' := ks) (pc' := 2064) (jg_V (N := M_X4_digest) (ci := 4) (rest := [.long l305]) (as := []) cf_L_216 dL_law_2061 ⟨rfl, rfl⟩ rfl rfl ⟨Nat.le_of_ble_eq_true rfl, Nat.le_of_ble_eq_true rfl⟩ ⟨hk.1, hk.2⟩ (Nat.le_of_ble_eq_true rfl) (fun X' hX => KX4_digest hX)) rfl rfl rfl rfl ⟨hk.1, hk.2⟩ rfl hF (fun l307 h306 hF => ?_)
          refine jj_lcmp (pc' := 2065) dL_law_2064 rfl ?_
          refine jj_if_eq (tgt := 2070) (pc' := 2068) dL_law_2065 rfl rfl (fun hc hF => ?_) (fun hc hF => ?_) hF
          · skip
            refine jj_iinc (i := 5) (j := 5) (v := x5 + (6 : Int32)) (ls' := [(5, .int (x5 + (6 : Int32))), (0, .ref 1000000), (1, .ref a1), (2, .ref a2), (3, .ref a3), (4, .ref a4)]) (pc' := 2073) dL_law_2070 rfl rfl (Nat.le_of_ble_eq_true rfl) rfl rfl ?_
            refine jj_goto (tgt := 28) dL_law_2073 rfl ?_
            exact jj_pick [1, 2, 3, 4, 5, 0] rfl (ih kc ks a1 a2 a3 a4 (x5 + (6 : Int32)) h306 _ hF)
          · skip
            refine jj_iconst (v := (0 : Int32)) (pc' := 2069) dL_law_2068 rfl rfl ?_
            exact jj_retI (ty := .boolean) rfl rfl dL_law_2069 ⟨hk.1, hk.2⟩ hF
        | i + 31, hb, ht => exact nomatch (show (none : Option (Option jm_X)) = some b from hb)
      · skip
        refine jj_iinc (i := 5) (j := 5) (v := x5 + (6 : Int32)) (ls' := [(5, .int (x5 + (6 : Int32))), (0, .ref 1000000), (1, .ref a1), (2, .ref a2), (3, .ref a3), (4, .ref a4)]) (pc' := 2073) dL_law_2070 rfl rfl (Nat.le_of_ble_eq_true rfl) rfl rfl ?_
        refine jj_goto (tgt := 28) dL_law_2073 rfl ?_
        exact jj_pick [1, 2, 3, 4, 5, 0] rfl (ih kc ks a1 a2 a3 a4 (x5 + (6 : Int32)) h _ hF)
set_option maxRecDepth 100000 in
set_option maxHeartbeats 4000000 in
theorem JL_law {L : Nat} {xs : Nat → Int32} {N : Nat} {h : jm_H} {X : jm_X} (hF : FL_law L xs N h = some X) : jm_J (M_L_law L xs) 0 [(0, .ref 1000000)] [] h 0 0 X := by
  unfold FL_law at hF
  refine jj_new (C := RX3) (T := TX3) (N := 8) (ci := 3) (fs := [.null, .null, .null, .null, .null, .int 0, .int 0, .int 0]) (ty := tyX3) (lv := [1000000]) (kc' := 1) (ks' := 8) (pc' := 3) dL_law_0 rfl rfl inX3 tyX3_ok ⟨qw_100, qw_101, qw_102⟩ (by decide) (by simp) rfl (jm_live rfl) rfl rfl ⟨Nat.le_of_ble_eq_true rfl, Nat.le_of_ble_eq_true rfl⟩ hF (fun o101 h102 hF => ?_)
  refine jj_dup (pc' := 4) dL_law_3 rfl rfl ?_
  refine jj_ini (N := M_X3_init) (as := []) (rest := [.ref o101]) (lv := [1000000, o101]) (kc' := 108) (ks' := 3183) (pc' := 7) cf_L_103 dL_law_4 rfl rfl ⟨Nat.le_of_ble_eq_true rfl, Nat.le_of_ble_eq_true rfl⟩ ⟨Nat.le_of_ble_eq_true rfl, Nat.le_of_ble_eq_true rfl⟩ (Nat.le_of_ble_eq_true rfl) (fun X' hX => KX3_init hX) rfl (jm_live rfl) rfl rfl rfl hF (fun h103 hF => ?_)
  refine jj_astore_n (i := 1) (ls' := [(1, .ref o101), (0, .ref 1000000)]) (pc' := 8) dL_law_7 rfl (Nat.le_of_ble_eq_true rfl) rfl rfl ?_
  refine jj_new (C := RX4) (T := TX4) (N := 15) (ci := 4) (fs := [.null, .null, .int 0, .null, .int 0, .null, .int 0, .int 0, .int 0, .int 0, .int 0, .int 0, .null, .int 0, .long 0]) (ty := tyX4) (lv := [o101, 1000000]) (kc' := 109) (ks' := 3198) (pc' := 11) dL_law_8 rfl rfl inX4 tyX4_ok ⟨qw_103, qw_104, qw_105⟩ (by decide) (by simp) rfl (jm_live rfl) rfl rfl ⟨Nat.le_of_ble_eq_true rfl, Nat.le_of_ble_eq_true rfl⟩ hF (fun o104 h105 hF => ?_)
  refine jj_dup (pc' := 12) dL_law_11 rfl rfl ?_
  refine jj_ini (N := M_X4_init) (as := []) (rest := [.ref o104]) (lv := [o101, 1000000, o104]) (kc' := 114) (ks' := 4362) (pc' := 15) cf_L_106 dL_law_12 rfl rfl ⟨Nat.le_of_ble_eq_true rfl, Nat.le_of_ble_eq_true rfl⟩ ⟨Nat.le_of_ble_eq_true rfl, Nat.le_of_ble_eq_true rfl⟩ (Nat.le_of_ble_eq_true rfl) (fun X' hX => KX4_init hX) rfl (jm_live rfl) rfl rfl rfl hF (fun h106 hF => ?_)
  refine jj_astore_n (i := 2) (ls' := [(2, .ref o104), (1, .ref o101), (0, .ref 1000000)]) (pc' := 16) dL_law_15 rfl (Nat.le_of_ble_eq_true rfl) rfl rfl ?_
  refine jj_iconst (v := (1 : Int32)) (pc' := 17) dL_law_16 rfl rfl ?_
  refine jj_na (atype := .long) (ty := .long) (t := 1) (n := 1) (a0 := (1, .inr (.inl (fun _ => 0)))) (lv := [o104, o101, 1000000]) (kc' := 115) (ks' := 4363) (pc' := 19) dL_law_17 rfl rfl qw_106 (fun _ => rfl) (fun _ => rfl) ⟨fun _ => rfl, fun _ => trivial⟩ ⟨by decide, by decide, by decide⟩ rfl (jm_live rfl) rfl rfl ⟨Nat.le_of_ble_eq_true rfl, Nat.le_of_ble_eq_true rfl⟩ hF (fun o107 h108 hF => ?_)
  refine jj_astore_n (i := 3) (ls' := [(3, .ref o107), (2, .ref o104), (1, .ref o101), (0, .ref 1000000)]) (pc' := 20) dL_law_19 rfl (Nat.le_of_ble_eq_true rfl) rfl rfl ?_
  refine jj_iconst (v := (1 : Int32)) (pc' := 21) dL_law_20 rfl rfl ?_
  refine jj_na (atype := .double) (ty := .double) (t := 2) (n := 1) (a0 := (1, .inr (.inr (.inr (.inl (fun _ => 0)))))) (lv := [o107, o104, o101, 1000000]) (kc' := 116) (ks' := 4364) (pc' := 23) dL_law_21 rfl rfl qw_107 (fun _ => rfl) (fun _ => rfl) ⟨fun _ => rfl, fun _ => trivial⟩ ⟨by decide, by decide, by decide⟩ rfl (jm_live rfl) rfl rfl ⟨Nat.le_of_ble_eq_true rfl, Nat.le_of_ble_eq_true rfl⟩ hF (fun o109 h110 hF => ?_)
  refine jj_astore (i := 4) (ls' := [(4, .ref o109), (3, .ref o107), (2, .ref o104), (1, .ref o101), (0, .ref 1000000)]) (pc' := 25) dL_law_23 (Nat.le_of_ble_eq_true rfl) rfl rfl ?_
  refine jj_iconst (v := (0 : Int32)) (pc' := 26) dL_law_25 rfl rfl ?_
  refine jj_istore (i := 5) (ls' := [(5, .int ((0 : Int32))), (4, .ref o109), (3, .ref o107), (2, .ref o104), (1, .ref o101), (0, .ref 1000000)]) (pc' := 28) dL_law_26 (Nat.le_of_ble_eq_true rfl) rfl rfl ?_
  exact jj_pick [5, 4, 3, 2, 1, 0] rfl (BL_law_28 L xs N N 116 4364 o101 o104 o107 o109 ((0 : Int32)) h110 _ hF)

set_option maxRecDepth 100000 in
set_option maxHeartbeats 4000000 in
theorem JL_call {N : Nat} {a0 : Nat} {x1 : Int32} {x2 : Int32} {x3 : Int32} {x4 : Int32} {l5 : Int64} {h : jm_H} {X : jm_X} (hF : FL_call N a0 x1 x2 x3 x4 l5 h = some X) : jm_J M_L_call 0 [(0, .ref a0), (1, .int x1), (2, .int x2), (3, .int x3), (4, .int x4), (5, .long l5)] [] h 0 0 X := by
  unfold FL_call at hF
  refine jj_lload (j := 5) (i := 5) (pc' := 2) dL_call_0 rfl rfl ?_
  refine jj_ldc2l (v := (1000 : Int64)) (pc' := 5) dL_call_2 qw_70 rfl ?_
  refine jj_ldiv (pc' := 6) dL_call_5 (by decide) rfl ?_
  refine jj_ldc2l (v := (1000 : Int64)) (pc' := 9) dL_call_6 qw_70 rfl ?_
  refine jj_lrem (pc' := 10) dL_call_9 (by decide) rfl ?_
  refine jj_l2i (pc' := 11) dL_call_10 rfl ?_
  refine jj_istore (i := 7) (ls' := [(7, .int (((l5 / ((1000 : Int64))) - (l5 / ((1000 : Int64))) / ((1000 : Int64)) * ((1000 : Int64))).toInt32)), (0, .ref a0), (1, .int x1), (2, .int x2), (3, .int x3), (4, .int x4), (5, .long l5)]) (pc' := 13) dL_call_11 (Nat.le_of_ble_eq_true rfl) rfl rfl ?_
  refine jj_lload (j := 6) (i := 5) (pc' := 15) dL_call_13 rfl rfl ?_
  refine jj_ldc2l (v := (1000 : Int64)) (pc' := 18) dL_call_15 qw_70 rfl ?_
  refine jj_lrem (pc' := 19) dL_call_18 (by decide) rfl ?_
  refine jj_l2i (pc' := 20) dL_call_19 rfl ?_
  refine jj_sipush (v := (500 : Int32)) (pc' := 23) dL_call_20 rfl rfl ?_
  refine jj_isub (pc' := 24) dL_call_23 rfl ?_
  refine jj_istore (i := 8) (ls' := [(8, .int (((l5 - l5 / ((1000 : Int64)) * ((1000 : Int64))).toInt32) - ((500 : Int32)))), (7, .int (((l5 / ((1000 : Int64))) - (l5 / ((1000 : Int64))) / ((1000 : Int64)) * ((1000 : Int64))).toInt32)), (0, .ref a0), (1, .int x1), (2, .int x2), (3, .int x3), (4, .int x4), (5, .long l5)]) (pc' := 26) dL_call_24 (Nat.le_of_ble_eq_true rfl) rfl rfl ?_
  refine jj_iload_n (j := 3) (i := 1) (pc' := 27) dL_call_26 rfl rfl rfl ?_
  refine jj_if_ne (tgt := 39) (pc' := 30) dL_call_27 rfl rfl (fun hc hF => ?_) (fun hc hF => ?_) hF
  · skip
    refine jj_iload_n (j := 3) (i := 1) (pc' := 40) dL_call_39 rfl rfl rfl ?_
    refine jj_iconst (v := (1 : Int32)) (pc' := 41) dL_call_40 rfl rfl ?_
    refine jj_icmp_ne (tgt := 53) (pc' := 44) dL_call_41 rfl rfl (fun hc hF => ?_) (fun hc hF => ?_) hF
    · skip
      refine jj_iload_n (j := 3) (i := 1) (pc' := 54) dL_call_53 rfl rfl rfl ?_
      refine jj_iconst (v := (2 : Int32)) (pc' := 55) dL_call_54 rfl rfl ?_
      refine jj_icmp_ne (tgt := 67) (pc' := 58) dL_call_55 rfl rfl (fun hc hF => ?_) (fun hc hF => ?_) hF
      · skip
        refine jj_iload_n (j := 3) (i := 1) (pc' := 68) dL_call_67 rfl rfl rfl ?_
        refine jj_iconst (v := (3 : Int32)) (pc' := 69) dL_call_68 rfl rfl ?_
        refine jj_icmp_ne (tgt := 85) (pc' := 72) dL_call_69 rfl rfl (fun hc hF => ?_) (fun hc hF => ?_) hF
        · skip
          refine jj_iload_n (j := 3) (i := 1) (pc' := 86) dL_call_85 rfl rfl rfl ?_
          refine jj_iconst (v := (4 : Int32)) (pc' := 87) dL_call_86 rfl rfl ?_
          refine jj_icmp_ne (tgt := 98) (pc' := 90) dL_call_87 rfl rfl (fun hc hF => ?_) (fun hc hF => ?_) hF
          · skip
            refine jj_iload_n (j := 3) (i := 1) (pc' := 99) dL_call_98 rfl rfl rfl ?_
            refine jj_iconst (v := (5 : Int32)) (pc' := 100) dL_call_99 rfl rfl ?_
            refine jj_icmp_ne (tgt := 112) (pc' := 103) dL_call_100 rfl rfl (fun hc hF => ?_) (fun hc hF => ?_) hF
            · skip
              refine jj_iload_n (j := 3) (i := 1) (pc' := 113) dL_call_112 rfl rfl rfl ?_
              refine jj_bipush (v := (6 : Int32)) (pc' := 115) dL_call_113 rfl rfl ?_
              refine jj_icmp_ne (tgt := 129) (pc' := 118) dL_call_115 rfl rfl (fun hc hF => ?_) (fun hc hF => ?_) hF
              · skip
                refine jj_iload_n (j := 3) (i := 1) (pc' := 130) dL_call_129 rfl rfl rfl ?_
                refine jj_bipush (v := (7 : Int32)) (pc' := 132) dL_call_130 rfl rfl ?_
                refine jj_icmp_ne (tgt := 144) (pc' := 135) dL_call_132 rfl rfl (fun hc hF => ?_) (fun hc hF => ?_) hF
                · skip
                  refine jj_iload_n (j := 3) (i := 1) (pc' := 145) dL_call_144 rfl rfl rfl ?_
                  refine jj_bipush (v := (8 : Int32)) (pc' := 147) dL_call_145 rfl rfl ?_
                  refine jj_icmp_ne (tgt := 161) (pc' := 150) dL_call_147 rfl rfl (fun hc hF => ?_) (fun hc hF => ?_) hF
                  · skip
                    refine jj_iload_n (j := 3) (i := 1) (pc' := 162) dL_call_161 rfl rfl rfl ?_
                    refine jj_bipush (v := (9 : Int32)) (pc' := 164) dL_call_162 rfl rfl ?_
                    refine jj_icmp_ne (tgt := 175) (pc' := 167) dL_call_164 rfl rfl (fun hc hF => ?_) (fun hc hF => ?_) hF
                    · skip
                      refine jj_iload_n (j := 3) (i := 1) (pc' := 176) dL_call_175 rfl rfl rfl ?_
                      refine jj_bipush (v := (10 : Int32)) (pc' := 178) dL_call_176 rfl rfl ?_
                      refine jj_icmp_ne (tgt := 188) (pc' := 181) dL_call_178 rfl rfl (fun hc hF => ?_) (fun hc hF => ?_) hF
                      · skip
                        refine jj_iload_n (j := 3) (i := 1) (pc' := 189) dL_call_188 rfl rfl rfl ?_
                        refine jj_bipush (v := (11 : Int32)) (pc' := 191) dL_call_189 rfl rfl ?_
                        refine jj_icmp_ne (tgt := 202) (pc' := 194) dL_call_191 rfl rfl (fun hc hF => ?_) (fun hc hF => ?_) hF
                        · skip
                          refine jj_iload_n (j := 3) (i := 1) (pc' := 203) dL_call_202 rfl rfl rfl ?_
                          refine jj_bipush (v := (12 : Int32)) (pc' := 205) dL_call_203 rfl rfl ?_
                          refine jj_icmp_ne (tgt := 215) (pc' := 208) dL_call_205 rfl rfl (fun hc hF => ?_) (fun hc hF => ?_) hF
                          · skip
                            refine jj_iload_n (j := 3) (i := 1) (pc' := 216) dL_call_215 rfl rfl rfl ?_
                            refine jj_bipush (v := (13 : Int32)) (pc' := 218) dL_call_216 rfl rfl ?_
                            refine jj_icmp_ne (tgt := 228) (pc' := 221) dL_call_218 rfl rfl (fun hc hF => ?_) (fun hc hF => ?_) hF
                            · skip
                              refine jj_iload_n (j := 3) (i := 1) (pc' := 229) dL_call_228 rfl rfl rfl ?_
                              refine jj_bipush (v := (14 : Int32)) (pc' := 231) dL_call_229 rfl rfl ?_
                              refine jj_icmp_ne (tgt := 243) (pc' := 234) dL_call_231 rfl rfl (fun hc hF => ?_) (fun hc hF => ?_) hF
                              · skip
                                refine jj_iload_n (j := 3) (i := 1) (pc' := 244) dL_call_243 rfl rfl rfl ?_
                                refine jj_bipush (v := (15 : Int32)) (pc' := 246) dL_call_244 rfl rfl ?_
                                refine jj_icmp_ne (tgt := 258) (pc' := 249) dL_call_246 rfl rfl (fun hc hF => ?_) (fun hc hF => ?_) hF
                                · skip
                                  refine jj_iload_n (j := 3) (i := 1) (pc' := 259) dL_call_258 rfl rfl rfl ?_
                                  refine jj_bipush (v := (16 : Int32)) (pc' := 261) dL_call_259 rfl rfl ?_
                                  refine jj_icmp_ne (tgt := 273) (pc' := 264) dL_call_261 rfl rfl (fun hc hF => ?_) (fun hc hF => ?_) hF
                                  · skip
                                    refine jj_iload_n (j := 3) (i := 1) (pc' := 274) dL_call_273 rfl rfl rfl ?_
                                    refine jj_bipush (v := (17 : Int32)) (pc' := 276) dL_call_274 rfl rfl ?_
                                    refine jj_icmp_ne (tgt := 288) (pc' := 279) dL_call_276 rfl rfl (fun hc hF => ?_) (fun hc hF => ?_) hF
                                    · skip
                                      refine jj_iload_n (j := 3) (i := 1) (pc' := 289) dL_call_288 rfl rfl rfl ?_
                                      refine jj_bipush (v := (18 : Int32)) (pc' := 291) dL_call_289 rfl rfl ?_
                                      refine jj_icmp_ne (tgt := 303) (pc' := 294) dL_call_291 rfl rfl (fun hc hF => ?_) (fun hc hF => ?_) hF
                                      · skip
                                        refine jj_iload_n (j := 3) (i := 1) (pc' := 304) dL_call_303 rfl rfl rfl ?_
                                        refine jj_bipush (v := (19 : Int32)) (pc' := 306) dL_call_304 rfl rfl ?_
                                        refine jj_icmp_ne (tgt := 318) (pc' := 309) dL_call_306 rfl rfl (fun hc hF => ?_) (fun hc hF => ?_) hF
                                        · skip
                                          refine jj_iload_n (j := 3) (i := 1) (pc' := 319) dL_call_318 rfl rfl rfl ?_
                                          refine jj_bipush (v := (20 : Int32)) (pc' := 321) dL_call_319 rfl rfl ?_
                                          refine jj_icmp_ne (tgt := 333) (pc' := 324) dL_call_321 rfl rfl (fun hc hF => ?_) (fun hc hF => ?_) hF
                                          · skip
                                            refine jj_iload_n (j := 3) (i := 1) (pc' := 334) dL_call_333 rfl rfl rfl ?_
                                            refine jj_bipush (v := (21 : Int32)) (pc' := 336) dL_call_334 rfl rfl ?_
                                            refine jj_icmp_ne (tgt := 347) (pc' := 339) dL_call_336 rfl rfl (fun hc hF => ?_) (fun hc hF => ?_) hF
                                            · skip
                                              refine jj_iload_n (j := 3) (i := 1) (pc' := 348) dL_call_347 rfl rfl rfl ?_
                                              refine jj_bipush (v := (22 : Int32)) (pc' := 350) dL_call_348 rfl rfl ?_
                                              refine jj_icmp_ne (tgt := 368) (pc' := 353) dL_call_350 rfl rfl (fun hc hF => ?_) (fun hc hF => ?_) hF
                                              · skip
                                                refine jj_iload_n (j := 3) (i := 1) (pc' := 369) dL_call_368 rfl rfl rfl ?_
                                                refine jj_bipush (v := (23 : Int32)) (pc' := 371) dL_call_369 rfl rfl ?_
                                                refine jj_icmp_ne (tgt := 385) (pc' := 374) dL_call_371 rfl rfl (fun hc hF => ?_) (fun hc hF => ?_) hF
                                                · skip
                                                  refine jj_iload_n (j := 3) (i := 1) (pc' := 386) dL_call_385 rfl rfl rfl ?_
                                                  refine jj_bipush (v := (24 : Int32)) (pc' := 388) dL_call_386 rfl rfl ?_
                                                  refine jj_icmp_ne (tgt := 400) (pc' := 391) dL_call_388 rfl rfl (fun hc hF => ?_) (fun hc hF => ?_) hF
                                                  · skip
                                                    refine jj_iload_n (j := 3) (i := 1) (pc' := 401) dL_call_400 rfl rfl rfl ?_
                                                    refine jj_bipush (v := (25 : Int32)) (pc' := 403) dL_call_401 rfl rfl ?_
                                                    refine jj_icmp_ne (tgt := 417) (pc' := 406) dL_call_403 rfl rfl (fun hc hF => ?_) (fun hc hF => ?_) hF
                                                    · skip
                                                      refine jj_aload_n (j := 2) (i := 0) (pc' := 418) dL_call_417 rfl rfl rfl ?_
                                                      refine jj_iload_n (j := 4) (i := 2) (pc' := 419) dL_call_418 rfl rfl rfl ?_
                                                      refine jj_tD (N := M_X3_use) (kc' := 1) (ks' := 6) (pc' := 422) (jg_V (N := M_X3_use) (ci := 3) (rest := []) (as := [.int x2]) cf_L_97 dL_call_419 ⟨rfl, rfl⟩ rfl rfl ⟨Nat.le_of_ble_eq_true rfl, Nat.le_of_ble_eq_true rfl⟩ ⟨Nat.le_of_ble_eq_true rfl, Nat.le_of_ble_eq_true rfl⟩ (Nat.le_of_ble_eq_true rfl) (fun X' hX => KX3_use hX)) rfl rfl rfl rfl hF ?_ (fun d102 h101 hF => ?_)
                                                      · intro E h9 hF
                                                        by_cases hE0 : E = "java/lang/IndexOutOfBoundsException"
                                                        · rw [if_pos hE0] at hF
                                                          subst hE0
                                                          refine jx_h (i := 9) (len := 2) (pc2 := 426) (ls' := [(8, .int (((l5 - l5 / ((1000 : Int64)) * ((1000 : Int64))).toInt32) - ((500 : Int32)))), (7, .int (((l5 / ((1000 : Int64))) - (l5 / ((1000 : Int64))) / ((1000 : Int64)) * ((1000 : Int64))).toInt32)), (0, .ref a0), (1, .int x1), (2, .int x2), (3, .int x3), (4, .int x4), (5, .long l5)]) [] [⟨26, 423, 429, 103⟩, ⟨26, 423, 434, 105⟩] ⟨26, 423, 424, 101⟩ (.astore 9) (by decide) rfl (fun z hz => nomatch hz) rfl (by decide) qw_71 (by decide) dL_call_424 (Or.inr ⟨rfl, rfl⟩) (by decide) rfl rfl ?_
                                                          refine jj_bipush (v := (-11 : Int32)) (pc' := 428) dL_call_426 rfl rfl ?_
                                                          exact jj_retI (ty := .int) rfl rfl dL_call_428 ⟨Nat.le_of_ble_eq_true rfl, Nat.le_of_ble_eq_true rfl⟩ hF
                                                        rw [if_neg hE0] at hF
                                                        by_cases hE1 : E = "java/lang/IllegalArgumentException"
                                                        · rw [if_pos hE1] at hF
                                                          subst hE1
                                                          refine jx_h (i := 9) (len := 2) (pc2 := 431) (ls' := [(8, .int (((l5 - l5 / ((1000 : Int64)) * ((1000 : Int64))).toInt32) - ((500 : Int32)))), (7, .int (((l5 / ((1000 : Int64))) - (l5 / ((1000 : Int64))) / ((1000 : Int64)) * ((1000 : Int64))).toInt32)), (0, .ref a0), (1, .int x1), (2, .int x2), (3, .int x3), (4, .int x4), (5, .long l5)]) [⟨26, 423, 424, 101⟩] [⟨26, 423, 434, 105⟩] ⟨26, 423, 429, 103⟩ (.astore 9) (by decide) rfl (fun z hz => by simp only [List.mem_cons, List.not_mem_nil, or_false] at hz; subst hz; exact ⟨by decide, "java/lang/IndexOutOfBoundsException", qw_71, by decide, by decide⟩) rfl (by decide) qw_72 (by decide) dL_call_429 (Or.inr ⟨rfl, rfl⟩) (by decide) rfl rfl ?_
                                                          refine jj_bipush (v := (-12 : Int32)) (pc' := 433) dL_call_431 rfl rfl ?_
                                                          exact jj_retI (ty := .int) rfl rfl dL_call_433 ⟨Nat.le_of_ble_eq_true rfl, Nat.le_of_ble_eq_true rfl⟩ hF
                                                        rw [if_neg hE1] at hF
                                                        by_cases hE2 : E = "java/lang/IllegalStateException"
                                                        · rw [if_pos hE2] at hF
                                                          subst hE2
                                                          refine jx_h (i := 9) (len := 2) (pc2 := 436) (ls' := [(8, .int (((l5 - l5 / ((1000 : Int64)) * ((1000 : Int64))).toInt32) - ((500 : Int32)))), (7, .int (((l5 / ((1000 : Int64))) - (l5 / ((1000 : Int64))) / ((1000 : Int64)) * ((1000 : Int64))).toInt32)), (0, .ref a0), (1, .int x1), (2, .int x2), (3, .int x3), (4, .int x4), (5, .long l5)]) [⟨26, 423, 424, 101⟩, ⟨26, 423, 429, 103⟩] [] ⟨26, 423, 434, 105⟩ (.astore 9) (by decide) rfl (fun z hz => by
                                                                simp only [List.mem_cons, List.not_mem_nil, or_false] at hz
                                                                rcases hz with rfl | rfl
                                                                · exact ⟨by decide, "java/lang/IndexOutOfBoundsException", qw_71, by decide, by decide⟩
                                                                · exact ⟨by decide, "java/lang/IllegalArgumentException", qw_72, by decide, by decide⟩) rfl (by decide) qw_73 (by decide) dL_call_434 (Or.inr ⟨rfl, rfl⟩) (by decide) rfl rfl ?_
                                                          refine jj_bipush (v := (-13 : Int32)) (pc' := 438) dL_call_436 rfl rfl ?_
                                                          exact jj_retI (ty := .int) rfl rfl dL_call_438 ⟨Nat.le_of_ble_eq_true rfl, Nat.le_of_ble_eq_true rfl⟩ hF
                                                        rw [if_neg hE2] at hF
                                                        cases hF
                                                      refine jj_d2i (pc' := 423) dL_call_422 rfl ?_
                                                      exact jj_retI (ty := .int) rfl rfl dL_call_423 ⟨Nat.le_of_ble_eq_true rfl, Nat.le_of_ble_eq_true rfl⟩ hF
                                                    · skip
                                                      refine jj_aload_n (j := 2) (i := 0) (pc' := 407) dL_call_406 rfl rfl rfl ?_
                                                      refine jj_iload_n (j := 4) (i := 2) (pc' := 408) dL_call_407 rfl rfl rfl ?_
                                                      refine jj_iload_n (j := 5) (i := 3) (pc' := 409) dL_call_408 rfl rfl rfl ?_
                                                      refine jj_iload (j := 6) (i := 4) (pc' := 411) dL_call_409 rfl rfl ?_
                                                      refine jj_tI (N := M_X3_ifShown) (kc' := 3) (ks' := 18) (pc' := 414) (jg_V (N := M_X3_ifShown) (ci := 3) (rest := []) (as := [.int x2, .int x3, .int x4]) cf_L_94 dL_call_411 ⟨rfl, rfl⟩ rfl rfl ⟨Nat.le_of_ble_eq_true rfl, Nat.le_of_ble_eq_true rfl⟩ ⟨Nat.le_of_ble_eq_true rfl, Nat.le_of_ble_eq_true rfl⟩ (Nat.le_of_ble_eq_true rfl) (fun X' hX => KX3_ifShown hX)) rfl rfl rfl rfl hF ?_ (fun x107 h106 hF => ?_)
                                                      · intro E h9 hF
                                                        by_cases hE0 : E = "java/lang/IndexOutOfBoundsException"
                                                        · rw [if_pos hE0] at hF
                                                          subst hE0
                                                          refine jx_h (i := 9) (len := 2) (pc2 := 426) (ls' := [(8, .int (((l5 - l5 / ((1000 : Int64)) * ((1000 : Int64))).toInt32) - ((500 : Int32)))), (7, .int (((l5 / ((1000 : Int64))) - (l5 / ((1000 : Int64))) / ((1000 : Int64)) * ((1000 : Int64))).toInt32)), (0, .ref a0), (1, .int x1), (2, .int x2), (3, .int x3), (4, .int x4), (5, .long l5)]) [] [⟨26, 423, 429, 103⟩, ⟨26, 423, 434, 105⟩] ⟨26, 423, 424, 101⟩ (.astore 9) (by decide) rfl (fun z hz => nomatch hz) rfl (by decide) qw_71 (by decide) dL_call_424 (Or.inr ⟨rfl, rfl⟩) (by decide) rfl rfl ?_
                                                          refine jj_bipush (v := (-11 : Int32)) (pc' := 428) dL_call_426 rfl rfl ?_
                                                          exact jj_retI (ty := .int) rfl rfl dL_call_428 ⟨Nat.le_of_ble_eq_true rfl, Nat.le_of_ble_eq_true rfl⟩ hF
                                                        rw [if_neg hE0] at hF
                                                        by_cases hE1 : E = "java/lang/IllegalArgumentException"
                                                        · rw [if_pos hE1] at hF
                                                          subst hE1
                                                          refine jx_h (i := 9) (len := 2) (pc2 := 431) (ls' := [(8, .int (((l5 - l5 / ((1000 : Int64)) * ((1000 : Int64))).toInt32) - ((500 : Int32)))), (7, .int (((l5 / ((1000 : Int64))) - (l5 / ((1000 : Int64))) / ((1000 : Int64)) * ((1000 : Int64))).toInt32)), (0, .ref a0), (1, .int x1), (2, .int x2), (3, .int x3), (4, .int x4), (5, .long l5)]) [⟨26, 423, 424, 101⟩] [⟨26, 423, 434, 105⟩] ⟨26, 423, 429, 103⟩ (.astore 9) (by decide) rfl (fun z hz => by simp only [List.mem_cons, List.not_mem_nil, or_false] at hz; subst hz; exact ⟨by decide, "java/lang/IndexOutOfBoundsException", qw_71, by decide, by decide⟩) rfl (by decide) qw_72 (by decide) dL_call_429 (Or.inr ⟨rfl, rfl⟩) (by decide) rfl rfl ?_
                                                          refine jj_bipush (v := (-12 : Int32)) (pc' := 433) dL_call_431 rfl rfl ?_
                                                          exact jj_retI (ty := .int) rfl rfl dL_call_433 ⟨Nat.le_of_ble_eq_true rfl, Nat.le_of_ble_eq_true rfl⟩ hF
                                                        rw [if_neg hE1] at hF
                                                        by_cases hE2 : E = "java/lang/IllegalStateException"
                                                        · rw [if_pos hE2] at hF
                                                          subst hE2
                                                          refine jx_h (i := 9) (len := 2) (pc2 := 436) (ls' := [(8, .int (((l5 - l5 / ((1000 : Int64)) * ((1000 : Int64))).toInt32) - ((500 : Int32)))), (7, .int (((l5 / ((1000 : Int64))) - (l5 / ((1000 : Int64))) / ((1000 : Int64)) * ((1000 : Int64))).toInt32)), (0, .ref a0), (1, .int x1), (2, .int x2), (3, .int x3), (4, .int x4), (5, .long l5)]) [⟨26, 423, 424, 101⟩, ⟨26, 423, 429, 103⟩] [] ⟨26, 423, 434, 105⟩ (.astore 9) (by decide) rfl (fun z hz => by
                                                                simp only [List.mem_cons, List.not_mem_nil, or_false] at hz
                                                                rcases hz with rfl | rfl
                                                                · exact ⟨by decide, "java/lang/IndexOutOfBoundsException", qw_71, by decide, by decide⟩
                                                                · exact ⟨by decide, "java/lang/IllegalArgumentException", qw_72, by decide, by decide⟩) rfl (by decide) qw_73 (by decide) dL_call_434 (Or.inr ⟨rfl, rfl⟩) (by decide) rfl rfl ?_
                                                          refine jj_bipush (v := (-13 : Int32)) (pc' := 438) dL_call_436 rfl rfl ?_
                                                          exact jj_retI (ty := .int) rfl rfl dL_call_438 ⟨Nat.le_of_ble_eq_true rfl, Nat.le_of_ble_eq_true rfl⟩ hF
                                                        rw [if_neg hE2] at hF
                                                        cases hF
                                                      refine jj_goto (tgt := 423) dL_call_414 rfl ?_
                                                      exact jj_retI (ty := .int) rfl rfl dL_call_423 ⟨Nat.le_of_ble_eq_true rfl, Nat.le_of_ble_eq_true rfl⟩ hF
                                                  · skip
                                                    refine jj_aload_n (j := 2) (i := 0) (pc' := 392) dL_call_391 rfl rfl rfl ?_
                                                    refine jj_iload_n (j := 4) (i := 2) (pc' := 393) dL_call_392 rfl rfl rfl ?_
                                                    refine jj_iload_n (j := 5) (i := 3) (pc' := 394) dL_call_393 rfl rfl rfl ?_
                                                    refine jj_tI (N := M_X3_bestScreen) (kc' := 2) (ks' := 12) (pc' := 397) (jg_V (N := M_X3_bestScreen) (ci := 3) (rest := []) (as := [.int x2, .int x3]) cf_L_91 dL_call_394 ⟨rfl, rfl⟩ rfl rfl ⟨Nat.le_of_ble_eq_true rfl, Nat.le_of_ble_eq_true rfl⟩ ⟨Nat.le_of_ble_eq_true rfl, Nat.le_of_ble_eq_true rfl⟩ (Nat.le_of_ble_eq_true rfl) (fun X' hX => KX3_bestScreen hX)) rfl rfl rfl rfl hF ?_ (fun x112 h111 hF => ?_)
                                                    · intro E h9 hF
                                                      by_cases hE0 : E = "java/lang/IndexOutOfBoundsException"
                                                      · rw [if_pos hE0] at hF
                                                        subst hE0
                                                        refine jx_h (i := 9) (len := 2) (pc2 := 426) (ls' := [(8, .int (((l5 - l5 / ((1000 : Int64)) * ((1000 : Int64))).toInt32) - ((500 : Int32)))), (7, .int (((l5 / ((1000 : Int64))) - (l5 / ((1000 : Int64))) / ((1000 : Int64)) * ((1000 : Int64))).toInt32)), (0, .ref a0), (1, .int x1), (2, .int x2), (3, .int x3), (4, .int x4), (5, .long l5)]) [] [⟨26, 423, 429, 103⟩, ⟨26, 423, 434, 105⟩] ⟨26, 423, 424, 101⟩ (.astore 9) (by decide) rfl (fun z hz => nomatch hz) rfl (by decide) qw_71 (by decide) dL_call_424 (Or.inr ⟨rfl, rfl⟩) (by decide) rfl rfl ?_
                                                        refine jj_bipush (v := (-11 : Int32)) (pc' := 428) dL_call_426 rfl rfl ?_
                                                        exact jj_retI (ty := .int) rfl rfl dL_call_428 ⟨Nat.le_of_ble_eq_true rfl, Nat.le_of_ble_eq_true rfl⟩ hF
                                                      rw [if_neg hE0] at hF
                                                      by_cases hE1 : E = "java/lang/IllegalArgumentException"
                                                      · rw [if_pos hE1] at hF
                                                        subst hE1
                                                        refine jx_h (i := 9) (len := 2) (pc2 := 431) (ls' := [(8, .int (((l5 - l5 / ((1000 : Int64)) * ((1000 : Int64))).toInt32) - ((500 : Int32)))), (7, .int (((l5 / ((1000 : Int64))) - (l5 / ((1000 : Int64))) / ((1000 : Int64)) * ((1000 : Int64))).toInt32)), (0, .ref a0), (1, .int x1), (2, .int x2), (3, .int x3), (4, .int x4), (5, .long l5)]) [⟨26, 423, 424, 101⟩] [⟨26, 423, 434, 105⟩] ⟨26, 423, 429, 103⟩ (.astore 9) (by decide) rfl (fun z hz => by simp only [List.mem_cons, List.not_mem_nil, or_false] at hz; subst hz; exact ⟨by decide, "java/lang/IndexOutOfBoundsException", qw_71, by decide, by decide⟩) rfl (by decide) qw_72 (by decide) dL_call_429 (Or.inr ⟨rfl, rfl⟩) (by decide) rfl rfl ?_
                                                        refine jj_bipush (v := (-12 : Int32)) (pc' := 433) dL_call_431 rfl rfl ?_
                                                        exact jj_retI (ty := .int) rfl rfl dL_call_433 ⟨Nat.le_of_ble_eq_true rfl, Nat.le_of_ble_eq_true rfl⟩ hF
                                                      rw [if_neg hE1] at hF
                                                      by_cases hE2 : E = "java/lang/IllegalStateException"
                                                      · rw [if_pos hE2] at hF
                                                        subst hE2
                                                        refine jx_h (i := 9) (len := 2) (pc2 := 436) (ls' := [(8, .int (((l5 - l5 / ((1000 : Int64)) * ((1000 : Int64))).toInt32) - ((500 : Int32)))), (7, .int (((l5 / ((1000 : Int64))) - (l5 / ((1000 : Int64))) / ((1000 : Int64)) * ((1000 : Int64))).toInt32)), (0, .ref a0), (1, .int x1), (2, .int x2), (3, .int x3), (4, .int x4), (5, .long l5)]) [⟨26, 423, 424, 101⟩, ⟨26, 423, 429, 103⟩] [] ⟨26, 423, 434, 105⟩ (.astore 9) (by decide) rfl (fun z hz => by
                                                              simp only [List.mem_cons, List.not_mem_nil, or_false] at hz
                                                              rcases hz with rfl | rfl
                                                              · exact ⟨by decide, "java/lang/IndexOutOfBoundsException", qw_71, by decide, by decide⟩
                                                              · exact ⟨by decide, "java/lang/IllegalArgumentException", qw_72, by decide, by decide⟩) rfl (by decide) qw_73 (by decide) dL_call_434 (Or.inr ⟨rfl, rfl⟩) (by decide) rfl rfl ?_
                                                        refine jj_bipush (v := (-13 : Int32)) (pc' := 438) dL_call_436 rfl rfl ?_
                                                        exact jj_retI (ty := .int) rfl rfl dL_call_438 ⟨Nat.le_of_ble_eq_true rfl, Nat.le_of_ble_eq_true rfl⟩ hF
                                                      rw [if_neg hE2] at hF
                                                      cases hF
                                                    refine jj_goto (tgt := 423) dL_call_397 rfl ?_
                                                    exact jj_retI (ty := .int) rfl rfl dL_call_423 ⟨Nat.le_of_ble_eq_true rfl, Nat.le_of_ble_eq_true rfl⟩ hF
                                                · skip
                                                  refine jj_aload_n (j := 2) (i := 0) (pc' := 375) dL_call_374 rfl rfl rfl ?_
                                                  refine jj_iload_n (j := 4) (i := 2) (pc' := 376) dL_call_375 rfl rfl rfl ?_
                                                  refine jj_iload_n (j := 5) (i := 3) (pc' := 377) dL_call_376 rfl rfl rfl ?_
                                                  refine jj_iload (j := 6) (i := 4) (pc' := 379) dL_call_377 rfl rfl ?_
                                                  refine jj_tI (N := M_X3_nextStart) (kc' := 3) (ks' := 18) (pc' := 382) (jg_V (N := M_X3_nextStart) (ci := 3) (rest := []) (as := [.int x2, .int x3, .int x4]) cf_L_88 dL_call_379 ⟨rfl, rfl⟩ rfl rfl ⟨Nat.le_of_ble_eq_true rfl, Nat.le_of_ble_eq_true rfl⟩ ⟨Nat.le_of_ble_eq_true rfl, Nat.le_of_ble_eq_true rfl⟩ (Nat.le_of_ble_eq_true rfl) (fun X' hX => KX3_nextStart hX)) rfl rfl rfl rfl hF ?_ (fun x117 h116 hF => ?_)
                                                  · intro E h9 hF
                                                    by_cases hE0 : E = "java/lang/IndexOutOfBoundsException"
                                                    · rw [if_pos hE0] at hF
                                                      subst hE0
                                                      refine jx_h (i := 9) (len := 2) (pc2 := 426) (ls' := [(8, .int (((l5 - l5 / ((1000 : Int64)) * ((1000 : Int64))).toInt32) - ((500 : Int32)))), (7, .int (((l5 / ((1000 : Int64))) - (l5 / ((1000 : Int64))) / ((1000 : Int64)) * ((1000 : Int64))).toInt32)), (0, .ref a0), (1, .int x1), (2, .int x2), (3, .int x3), (4, .int x4), (5, .long l5)]) [] [⟨26, 423, 429, 103⟩, ⟨26, 423, 434, 105⟩] ⟨26, 423, 424, 101⟩ (.astore 9) (by decide) rfl (fun z hz => nomatch hz) rfl (by decide) qw_71 (by decide) dL_call_424 (Or.inr ⟨rfl, rfl⟩) (by decide) rfl rfl ?_
                                                      refine jj_bipush (v := (-11 : Int32)) (pc' := 428) dL_call_426 rfl rfl ?_
                                                      exact jj_retI (ty := .int) rfl rfl dL_call_428 ⟨Nat.le_of_ble_eq_true rfl, Nat.le_of_ble_eq_true rfl⟩ hF
                                                    rw [if_neg hE0] at hF
                                                    by_cases hE1 : E = "java/lang/IllegalArgumentException"
                                                    · rw [if_pos hE1] at hF
                                                      subst hE1
                                                      refine jx_h (i := 9) (len := 2) (pc2 := 431) (ls' := [(8, .int (((l5 - l5 / ((1000 : Int64)) * ((1000 : Int64))).toInt32) - ((500 : Int32)))), (7, .int (((l5 / ((1000 : Int64))) - (l5 / ((1000 : Int64))) / ((1000 : Int64)) * ((1000 : Int64))).toInt32)), (0, .ref a0), (1, .int x1), (2, .int x2), (3, .int x3), (4, .int x4), (5, .long l5)]) [⟨26, 423, 424, 101⟩] [⟨26, 423, 434, 105⟩] ⟨26, 423, 429, 103⟩ (.astore 9) (by decide) rfl (fun z hz => by simp only [List.mem_cons, List.not_mem_nil, or_false] at hz; subst hz; exact ⟨by decide, "java/lang/IndexOutOfBoundsException", qw_71, by decide, by decide⟩) rfl (by decide) qw_72 (by decide) dL_call_429 (Or.inr ⟨rfl, rfl⟩) (by decide) rfl rfl ?_
                                                      refine jj_bipush (v := (-12 : Int32)) (pc' := 433) dL_call_431 rfl rfl ?_
                                                      exact jj_retI (ty := .int) rfl rfl dL_call_433 ⟨Nat.le_of_ble_eq_true rfl, Nat.le_of_ble_eq_true rfl⟩ hF
                                                    rw [if_neg hE1] at hF
                                                    by_cases hE2 : E = "java/lang/IllegalStateException"
                                                    · rw [if_pos hE2] at hF
                                                      subst hE2
                                                      refine jx_h (i := 9) (len := 2) (pc2 := 436) (ls' := [(8, .int (((l5 - l5 / ((1000 : Int64)) * ((1000 : Int64))).toInt32) - ((500 : Int32)))), (7, .int (((l5 / ((1000 : Int64))) - (l5 / ((1000 : Int64))) / ((1000 : Int64)) * ((1000 : Int64))).toInt32)), (0, .ref a0), (1, .int x1), (2, .int x2), (3, .int x3), (4, .int x4), (5, .long l5)]) [⟨26, 423, 424, 101⟩, ⟨26, 423, 429, 103⟩] [] ⟨26, 423, 434, 105⟩ (.astore 9) (by decide) rfl (fun z hz => by
                                                            simp only [List.mem_cons, List.not_mem_nil, or_false] at hz
                                                            rcases hz with rfl | rfl
                                                            · exact ⟨by decide, "java/lang/IndexOutOfBoundsException", qw_71, by decide, by decide⟩
                                                            · exact ⟨by decide, "java/lang/IllegalArgumentException", qw_72, by decide, by decide⟩) rfl (by decide) qw_73 (by decide) dL_call_434 (Or.inr ⟨rfl, rfl⟩) (by decide) rfl rfl ?_
                                                      refine jj_bipush (v := (-13 : Int32)) (pc' := 438) dL_call_436 rfl rfl ?_
                                                      exact jj_retI (ty := .int) rfl rfl dL_call_438 ⟨Nat.le_of_ble_eq_true rfl, Nat.le_of_ble_eq_true rfl⟩ hF
                                                    rw [if_neg hE2] at hF
                                                    cases hF
                                                  refine jj_goto (tgt := 423) dL_call_382 rfl ?_
                                                  exact jj_retI (ty := .int) rfl rfl dL_call_423 ⟨Nat.le_of_ble_eq_true rfl, Nat.le_of_ble_eq_true rfl⟩ hF
                                              · skip
                                                refine jj_aload_n (j := 2) (i := 0) (pc' := 354) dL_call_353 rfl rfl rfl ?_
                                                refine jj_iload_n (j := 4) (i := 2) (pc' := 355) dL_call_354 rfl rfl rfl ?_
                                                refine jj_iload_n (j := 5) (i := 3) (pc' := 356) dL_call_355 rfl rfl rfl ?_
                                                refine jj_iload (j := 6) (i := 4) (pc' := 358) dL_call_356 rfl rfl ?_
                                                refine jj_iload (j := 0) (i := 8) (pc' := 360) dL_call_358 rfl rfl ?_
                                                refine jj_iload (j := 1) (i := 7) (pc' := 362) dL_call_360 rfl rfl ?_
                                                refine jj_tI (N := M_X3_whyNot) (kc' := 5) (ks' := 30) (pc' := 365) (jg_V (N := M_X3_whyNot) (ci := 3) (rest := []) (as := [.int x2, .int x3, .int x4, .int (((l5 - l5 / ((1000 : Int64)) * ((1000 : Int64))).toInt32) - ((500 : Int32))), .int (((l5 / ((1000 : Int64))) - (l5 / ((1000 : Int64))) / ((1000 : Int64)) * ((1000 : Int64))).toInt32)]) cf_L_84 dL_call_362 ⟨rfl, rfl⟩ rfl rfl ⟨Nat.le_of_ble_eq_true rfl, Nat.le_of_ble_eq_true rfl⟩ ⟨Nat.le_of_ble_eq_true rfl, Nat.le_of_ble_eq_true rfl⟩ (Nat.le_of_ble_eq_true rfl) (fun X' hX => KX3_whyNot hX)) rfl rfl rfl rfl hF ?_ (fun x122 h121 hF => ?_)
                                                · intro E h9 hF
                                                  by_cases hE0 : E = "java/lang/IndexOutOfBoundsException"
                                                  · rw [if_pos hE0] at hF
                                                    subst hE0
                                                    refine jx_h (i := 9) (len := 2) (pc2 := 426) (ls' := [(8, .int (((l5 - l5 / ((1000 : Int64)) * ((1000 : Int64))).toInt32) - ((500 : Int32)))), (7, .int (((l5 / ((1000 : Int64))) - (l5 / ((1000 : Int64))) / ((1000 : Int64)) * ((1000 : Int64))).toInt32)), (0, .ref a0), (1, .int x1), (2, .int x2), (3, .int x3), (4, .int x4), (5, .long l5)]) [] [⟨26, 423, 429, 103⟩, ⟨26, 423, 434, 105⟩] ⟨26, 423, 424, 101⟩ (.astore 9) (by decide) rfl (fun z hz => nomatch hz) rfl (by decide) qw_71 (by decide) dL_call_424 (Or.inr ⟨rfl, rfl⟩) (by decide) rfl rfl ?_
                                                    refine jj_bipush (v := (-11 : Int32)) (pc' := 428) dL_call_426 rfl rfl ?_
                                                    exact jj_retI (ty := .int) rfl rfl dL_call_428 ⟨Nat.le_of_ble_eq_true rfl, Nat.le_of_ble_eq_true rfl⟩ hF
                                                  rw [if_neg hE0] at hF
                                                  by_cases hE1 : E = "java/lang/IllegalArgumentException"
                                                  · rw [if_pos hE1] at hF
                                                    subst hE1
                                                    refine jx_h (i := 9) (len := 2) (pc2 := 431) (ls' := [(8, .int (((l5 - l5 / ((1000 : Int64)) * ((1000 : Int64))).toInt32) - ((500 : Int32)))), (7, .int (((l5 / ((1000 : Int64))) - (l5 / ((1000 : Int64))) / ((1000 : Int64)) * ((1000 : Int64))).toInt32)), (0, .ref a0), (1, .int x1), (2, .int x2), (3, .int x3), (4, .int x4), (5, .long l5)]) [⟨26, 423, 424, 101⟩] [⟨26, 423, 434, 105⟩] ⟨26, 423, 429, 103⟩ (.astore 9) (by decide) rfl (fun z hz => by simp only [List.mem_cons, List.not_mem_nil, or_false] at hz; subst hz; exact ⟨by decide, "java/lang/IndexOutOfBoundsException", qw_71, by decide, by decide⟩) rfl (by decide) qw_72 (by decide) dL_call_429 (Or.inr ⟨rfl, rfl⟩) (by decide) rfl rfl ?_
                                                    refine jj_bipush (v := (-12 : Int32)) (pc' := 433) dL_call_431 rfl rfl ?_
                                                    exact jj_retI (ty := .int) rfl rfl dL_call_433 ⟨Nat.le_of_ble_eq_true rfl, Nat.le_of_ble_eq_true rfl⟩ hF
                                                  rw [if_neg hE1] at hF
                                                  by_cases hE2 : E = "java/lang/IllegalStateException"
                                                  · rw [if_pos hE2] at hF
                                                    subst hE2
                                                    refine jx_h (i := 9) (len := 2) (pc2 := 436) (ls' := [(8, .int (((l5 - l5 / ((1000 : Int64)) * ((1000 : Int64))).toInt32) - ((500 : Int32)))), (7, .int (((l5 / ((1000 : Int64))) - (l5 / ((1000 : Int64))) / ((1000 : Int64)) * ((1000 : Int64))).toInt32)), (0, .ref a0), (1, .int x1), (2, .int x2), (3, .int x3), (4, .int x4), (5, .long l5)]) [⟨26, 423, 424, 101⟩, ⟨26, 423, 429, 103⟩] [] ⟨26, 423, 434, 105⟩ (.astore 9) (by decide) rfl (fun z hz => by
                                                          simp only [List.mem_cons, List.not_mem_nil, or_false] at hz
                                                          rcases hz with rfl | rfl
                                                          · exact ⟨by decide, "java/lang/IndexOutOfBoundsException", qw_71, by decide, by decide⟩
                                                          · exact ⟨by decide, "java/lang/IllegalArgumentException", qw_72, by decide, by decide⟩) rfl (by decide) qw_73 (by decide) dL_call_434 (Or.inr ⟨rfl, rfl⟩) (by decide) rfl rfl ?_
                                                    refine jj_bipush (v := (-13 : Int32)) (pc' := 438) dL_call_436 rfl rfl ?_
                                                    exact jj_retI (ty := .int) rfl rfl dL_call_438 ⟨Nat.le_of_ble_eq_true rfl, Nat.le_of_ble_eq_true rfl⟩ hF
                                                  rw [if_neg hE2] at hF
                                                  cases hF
                                                refine jj_goto (tgt := 423) dL_call_365 rfl ?_
                                                exact jj_retI (ty := .int) rfl rfl dL_call_423 ⟨Nat.le_of_ble_eq_true rfl, Nat.le_of_ble_eq_true rfl⟩ hF
                                            · skip
                                              refine jj_aload_n (j := 2) (i := 0) (pc' := 340) dL_call_339 rfl rfl rfl ?_
                                              refine jj_iload_n (j := 4) (i := 2) (pc' := 341) dL_call_340 rfl rfl rfl ?_
                                              refine jj_tI (N := M_X3_count) (kc' := 1) (ks' := 6) (pc' := 344) (jg_V (N := M_X3_count) (ci := 3) (rest := []) (as := [.int x2]) cf_L_81 dL_call_341 ⟨rfl, rfl⟩ rfl rfl ⟨Nat.le_of_ble_eq_true rfl, Nat.le_of_ble_eq_true rfl⟩ ⟨Nat.le_of_ble_eq_true rfl, Nat.le_of_ble_eq_true rfl⟩ (Nat.le_of_ble_eq_true rfl) (fun X' hX => KX3_count hX)) rfl rfl rfl rfl hF ?_ (fun x127 h126 hF => ?_)
                                              · intro E h9 hF
                                                by_cases hE0 : E = "java/lang/IndexOutOfBoundsException"
                                                · rw [if_pos hE0] at hF
                                                  subst hE0
                                                  refine jx_h (i := 9) (len := 2) (pc2 := 426) (ls' := [(8, .int (((l5 - l5 / ((1000 : Int64)) * ((1000 : Int64))).toInt32) - ((500 : Int32)))), (7, .int (((l5 / ((1000 : Int64))) - (l5 / ((1000 : Int64))) / ((1000 : Int64)) * ((1000 : Int64))).toInt32)), (0, .ref a0), (1, .int x1), (2, .int x2), (3, .int x3), (4, .int x4), (5, .long l5)]) [] [⟨26, 423, 429, 103⟩, ⟨26, 423, 434, 105⟩] ⟨26, 423, 424, 101⟩ (.astore 9) (by decide) rfl (fun z hz => nomatch hz) rfl (by decide) qw_71 (by decide) dL_call_424 (Or.inr ⟨rfl, rfl⟩) (by decide) rfl rfl ?_
                                                  refine jj_bipush (v := (-11 : Int32)) (pc' := 428) dL_call_426 rfl rfl ?_
                                                  exact jj_retI (ty := .int) rfl rfl dL_call_428 ⟨Nat.le_of_ble_eq_true rfl, Nat.le_of_ble_eq_true rfl⟩ hF
                                                rw [if_neg hE0] at hF
                                                by_cases hE1 : E = "java/lang/IllegalArgumentException"
                                                · rw [if_pos hE1] at hF
                                                  subst hE1
                                                  refine jx_h (i := 9) (len := 2) (pc2 := 431) (ls' := [(8, .int (((l5 - l5 / ((1000 : Int64)) * ((1000 : Int64))).toInt32) - ((500 : Int32)))), (7, .int (((l5 / ((1000 : Int64))) - (l5 / ((1000 : Int64))) / ((1000 : Int64)) * ((1000 : Int64))).toInt32)), (0, .ref a0), (1, .int x1), (2, .int x2), (3, .int x3), (4, .int x4), (5, .long l5)]) [⟨26, 423, 424, 101⟩] [⟨26, 423, 434, 105⟩] ⟨26, 423, 429, 103⟩ (.astore 9) (by decide) rfl (fun z hz => by simp only [List.mem_cons, List.not_mem_nil, or_false] at hz; subst hz; exact ⟨by decide, "java/lang/IndexOutOfBoundsException", qw_71, by decide, by decide⟩) rfl (by decide) qw_72 (by decide) dL_call_429 (Or.inr ⟨rfl, rfl⟩) (by decide) rfl rfl ?_
                                                  refine jj_bipush (v := (-12 : Int32)) (pc' := 433) dL_call_431 rfl rfl ?_
                                                  exact jj_retI (ty := .int) rfl rfl dL_call_433 ⟨Nat.le_of_ble_eq_true rfl, Nat.le_of_ble_eq_true rfl⟩ hF
                                                rw [if_neg hE1] at hF
                                                by_cases hE2 : E = "java/lang/IllegalStateException"
                                                · rw [if_pos hE2] at hF
                                                  subst hE2
                                                  refine jx_h (i := 9) (len := 2) (pc2 := 436) (ls' := [(8, .int (((l5 - l5 / ((1000 : Int64)) * ((1000 : Int64))).toInt32) - ((500 : Int32)))), (7, .int (((l5 / ((1000 : Int64))) - (l5 / ((1000 : Int64))) / ((1000 : Int64)) * ((1000 : Int64))).toInt32)), (0, .ref a0), (1, .int x1), (2, .int x2), (3, .int x3), (4, .int x4), (5, .long l5)]) [⟨26, 423, 424, 101⟩, ⟨26, 423, 429, 103⟩] [] ⟨26, 423, 434, 105⟩ (.astore 9) (by decide) rfl (fun z hz => by
                                                        simp only [List.mem_cons, List.not_mem_nil, or_false] at hz
                                                        rcases hz with rfl | rfl
                                                        · exact ⟨by decide, "java/lang/IndexOutOfBoundsException", qw_71, by decide, by decide⟩
                                                        · exact ⟨by decide, "java/lang/IllegalArgumentException", qw_72, by decide, by decide⟩) rfl (by decide) qw_73 (by decide) dL_call_434 (Or.inr ⟨rfl, rfl⟩) (by decide) rfl rfl ?_
                                                  refine jj_bipush (v := (-13 : Int32)) (pc' := 438) dL_call_436 rfl rfl ?_
                                                  exact jj_retI (ty := .int) rfl rfl dL_call_438 ⟨Nat.le_of_ble_eq_true rfl, Nat.le_of_ble_eq_true rfl⟩ hF
                                                rw [if_neg hE2] at hF
                                                cases hF
                                              refine jj_goto (tgt := 423) dL_call_344 rfl ?_
                                              exact jj_retI (ty := .int) rfl rfl dL_call_423 ⟨Nat.le_of_ble_eq_true rfl, Nat.le_of_ble_eq_true rfl⟩ hF
                                          · skip
                                            refine jj_aload_n (j := 2) (i := 0) (pc' := 325) dL_call_324 rfl rfl rfl ?_
                                            refine jj_iload_n (j := 4) (i := 2) (pc' := 326) dL_call_325 rfl rfl rfl ?_
                                            refine jj_iload_n (j := 5) (i := 3) (pc' := 327) dL_call_326 rfl rfl rfl ?_
                                            refine jj_tI (N := M_X3_juror) (kc' := 2) (ks' := 12) (pc' := 330) (jg_V (N := M_X3_juror) (ci := 3) (rest := []) (as := [.int x2, .int x3]) cf_L_78 dL_call_327 ⟨rfl, rfl⟩ rfl rfl ⟨Nat.le_of_ble_eq_true rfl, Nat.le_of_ble_eq_true rfl⟩ ⟨Nat.le_of_ble_eq_true rfl, Nat.le_of_ble_eq_true rfl⟩ (Nat.le_of_ble_eq_true rfl) (fun X' hX => KX3_juror hX)) rfl rfl rfl rfl hF ?_ (fun x132 h131 hF => ?_)
                                            · intro E h9 hF
                                              by_cases hE0 : E = "java/lang/IndexOutOfBoundsException"
                                              · rw [if_pos hE0] at hF
                                                subst hE0
                                                refine jx_h (i := 9) (len := 2) (pc2 := 426) (ls' := [(8, .int (((l5 - l5 / ((1000 : Int64)) * ((1000 : Int64))).toInt32) - ((500 : Int32)))), (7, .int (((l5 / ((1000 : Int64))) - (l5 / ((1000 : Int64))) / ((1000 : Int64)) * ((1000 : Int64))).toInt32)), (0, .ref a0), (1, .int x1), (2, .int x2), (3, .int x3), (4, .int x4), (5, .long l5)]) [] [⟨26, 423, 429, 103⟩, ⟨26, 423, 434, 105⟩] ⟨26, 423, 424, 101⟩ (.astore 9) (by decide) rfl (fun z hz => nomatch hz) rfl (by decide) qw_71 (by decide) dL_call_424 (Or.inr ⟨rfl, rfl⟩) (by decide) rfl rfl ?_
                                                refine jj_bipush (v := (-11 : Int32)) (pc' := 428) dL_call_426 rfl rfl ?_
                                                exact jj_retI (ty := .int) rfl rfl dL_call_428 ⟨Nat.le_of_ble_eq_true rfl, Nat.le_of_ble_eq_true rfl⟩ hF
                                              rw [if_neg hE0] at hF
                                              by_cases hE1 : E = "java/lang/IllegalArgumentException"
                                              · rw [if_pos hE1] at hF
                                                subst hE1
                                                refine jx_h (i := 9) (len := 2) (pc2 := 431) (ls' := [(8, .int (((l5 - l5 / ((1000 : Int64)) * ((1000 : Int64))).toInt32) - ((500 : Int32)))), (7, .int (((l5 / ((1000 : Int64))) - (l5 / ((1000 : Int64))) / ((1000 : Int64)) * ((1000 : Int64))).toInt32)), (0, .ref a0), (1, .int x1), (2, .int x2), (3, .int x3), (4, .int x4), (5, .long l5)]) [⟨26, 423, 424, 101⟩] [⟨26, 423, 434, 105⟩] ⟨26, 423, 429, 103⟩ (.astore 9) (by decide) rfl (fun z hz => by simp only [List.mem_cons, List.not_mem_nil, or_false] at hz; subst hz; exact ⟨by decide, "java/lang/IndexOutOfBoundsException", qw_71, by decide, by decide⟩) rfl (by decide) qw_72 (by decide) dL_call_429 (Or.inr ⟨rfl, rfl⟩) (by decide) rfl rfl ?_
                                                refine jj_bipush (v := (-12 : Int32)) (pc' := 433) dL_call_431 rfl rfl ?_
                                                exact jj_retI (ty := .int) rfl rfl dL_call_433 ⟨Nat.le_of_ble_eq_true rfl, Nat.le_of_ble_eq_true rfl⟩ hF
                                              rw [if_neg hE1] at hF
                                              by_cases hE2 : E = "java/lang/IllegalStateException"
                                              · rw [if_pos hE2] at hF
                                                subst hE2
                                                refine jx_h (i := 9) (len := 2) (pc2 := 436) (ls' := [(8, .int (((l5 - l5 / ((1000 : Int64)) * ((1000 : Int64))).toInt32) - ((500 : Int32)))), (7, .int (((l5 / ((1000 : Int64))) - (l5 / ((1000 : Int64))) / ((1000 : Int64)) * ((1000 : Int64))).toInt32)), (0, .ref a0), (1, .int x1), (2, .int x2), (3, .int x3), (4, .int x4), (5, .long l5)]) [⟨26, 423, 424, 101⟩, ⟨26, 423, 429, 103⟩] [] ⟨26, 423, 434, 105⟩ (.astore 9) (by decide) rfl (fun z hz => by
                                                      simp only [List.mem_cons, List.not_mem_nil, or_false] at hz
                                                      rcases hz with rfl | rfl
                                                      · exact ⟨by decide, "java/lang/IndexOutOfBoundsException", qw_71, by decide, by decide⟩
                                                      · exact ⟨by decide, "java/lang/IllegalArgumentException", qw_72, by decide, by decide⟩) rfl (by decide) qw_73 (by decide) dL_call_434 (Or.inr ⟨rfl, rfl⟩) (by decide) rfl rfl ?_
                                                refine jj_bipush (v := (-13 : Int32)) (pc' := 438) dL_call_436 rfl rfl ?_
                                                exact jj_retI (ty := .int) rfl rfl dL_call_438 ⟨Nat.le_of_ble_eq_true rfl, Nat.le_of_ble_eq_true rfl⟩ hF
                                              rw [if_neg hE2] at hF
                                              cases hF
                                            refine jj_goto (tgt := 423) dL_call_330 rfl ?_
                                            exact jj_retI (ty := .int) rfl rfl dL_call_423 ⟨Nat.le_of_ble_eq_true rfl, Nat.le_of_ble_eq_true rfl⟩ hF
                                        · skip
                                          refine jj_aload_n (j := 2) (i := 0) (pc' := 310) dL_call_309 rfl rfl rfl ?_
                                          refine jj_iload_n (j := 4) (i := 2) (pc' := 311) dL_call_310 rfl rfl rfl ?_
                                          refine jj_iload_n (j := 5) (i := 3) (pc' := 312) dL_call_311 rfl rfl rfl ?_
                                          refine jj_tI (N := M_X3_guestOf) (kc' := 2) (ks' := 12) (pc' := 315) (jg_V (N := M_X3_guestOf) (ci := 3) (rest := []) (as := [.int x2, .int x3]) cf_L_75 dL_call_312 ⟨rfl, rfl⟩ rfl rfl ⟨Nat.le_of_ble_eq_true rfl, Nat.le_of_ble_eq_true rfl⟩ ⟨Nat.le_of_ble_eq_true rfl, Nat.le_of_ble_eq_true rfl⟩ (Nat.le_of_ble_eq_true rfl) (fun X' hX => KX3_guestOf hX)) rfl rfl rfl rfl hF ?_ (fun x137 h136 hF => ?_)
                                          · intro E h9 hF
                                            by_cases hE0 : E = "java/lang/IndexOutOfBoundsException"
                                            · rw [if_pos hE0] at hF
                                              subst hE0
                                              refine jx_h (i := 9) (len := 2) (pc2 := 426) (ls' := [(8, .int (((l5 - l5 / ((1000 : Int64)) * ((1000 : Int64))).toInt32) - ((500 : Int32)))), (7, .int (((l5 / ((1000 : Int64))) - (l5 / ((1000 : Int64))) / ((1000 : Int64)) * ((1000 : Int64))).toInt32)), (0, .ref a0), (1, .int x1), (2, .int x2), (3, .int x3), (4, .int x4), (5, .long l5)]) [] [⟨26, 423, 429, 103⟩, ⟨26, 423, 434, 105⟩] ⟨26, 423, 424, 101⟩ (.astore 9) (by decide) rfl (fun z hz => nomatch hz) rfl (by decide) qw_71 (by decide) dL_call_424 (Or.inr ⟨rfl, rfl⟩) (by decide) rfl rfl ?_
                                              refine jj_bipush (v := (-11 : Int32)) (pc' := 428) dL_call_426 rfl rfl ?_
                                              exact jj_retI (ty := .int) rfl rfl dL_call_428 ⟨Nat.le_of_ble_eq_true rfl, Nat.le_of_ble_eq_true rfl⟩ hF
                                            rw [if_neg hE0] at hF
                                            by_cases hE1 : E = "java/lang/IllegalArgumentException"
                                            · rw [if_pos hE1] at hF
                                              subst hE1
                                              refine jx_h (i := 9) (len := 2) (pc2 := 431) (ls' := [(8, .int (((l5 - l5 / ((1000 : Int64)) * ((1000 : Int64))).toInt32) - ((500 : Int32)))), (7, .int (((l5 / ((1000 : Int64))) - (l5 / ((1000 : Int64))) / ((1000 : Int64)) * ((1000 : Int64))).toInt32)), (0, .ref a0), (1, .int x1), (2, .int x2), (3, .int x3), (4, .int x4), (5, .long l5)]) [⟨26, 423, 424, 101⟩] [⟨26, 423, 434, 105⟩] ⟨26, 423, 429, 103⟩ (.astore 9) (by decide) rfl (fun z hz => by simp only [List.mem_cons, List.not_mem_nil, or_false] at hz; subst hz; exact ⟨by decide, "java/lang/IndexOutOfBoundsException", qw_71, by decide, by decide⟩) rfl (by decide) qw_72 (by decide) dL_call_429 (Or.inr ⟨rfl, rfl⟩) (by decide) rfl rfl ?_
                                              refine jj_bipush (v := (-12 : Int32)) (pc' := 433) dL_call_431 rfl rfl ?_
                                              exact jj_retI (ty := .int) rfl rfl dL_call_433 ⟨Nat.le_of_ble_eq_true rfl, Nat.le_of_ble_eq_true rfl⟩ hF
                                            rw [if_neg hE1] at hF
                                            by_cases hE2 : E = "java/lang/IllegalStateException"
                                            · rw [if_pos hE2] at hF
                                              subst hE2
                                              refine jx_h (i := 9) (len := 2) (pc2 := 436) (ls' := [(8, .int (((l5 - l5 / ((1000 : Int64)) * ((1000 : Int64))).toInt32) - ((500 : Int32)))), (7, .int (((l5 / ((1000 : Int64))) - (l5 / ((1000 : Int64))) / ((1000 : Int64)) * ((1000 : Int64))).toInt32)), (0, .ref a0), (1, .int x1), (2, .int x2), (3, .int x3), (4, .int x4), (5, .long l5)]) [⟨26, 423, 424, 101⟩, ⟨26, 423, 429, 103⟩] [] ⟨26, 423, 434, 105⟩ (.astore 9) (by decide) rfl (fun z hz => by
                                                    simp only [List.mem_cons, List.not_mem_nil, or_false] at hz
                                                    rcases hz with rfl | rfl
                                                    · exact ⟨by decide, "java/lang/IndexOutOfBoundsException", qw_71, by decide, by decide⟩
                                                    · exact ⟨by decide, "java/lang/IllegalArgumentException", qw_72, by decide, by decide⟩) rfl (by decide) qw_73 (by decide) dL_call_434 (Or.inr ⟨rfl, rfl⟩) (by decide) rfl rfl ?_
                                              refine jj_bipush (v := (-13 : Int32)) (pc' := 438) dL_call_436 rfl rfl ?_
                                              exact jj_retI (ty := .int) rfl rfl dL_call_438 ⟨Nat.le_of_ble_eq_true rfl, Nat.le_of_ble_eq_true rfl⟩ hF
                                            rw [if_neg hE2] at hF
                                            cases hF
                                          refine jj_goto (tgt := 423) dL_call_315 rfl ?_
                                          exact jj_retI (ty := .int) rfl rfl dL_call_423 ⟨Nat.le_of_ble_eq_true rfl, Nat.le_of_ble_eq_true rfl⟩ hF
                                      · skip
                                        refine jj_aload_n (j := 2) (i := 0) (pc' := 295) dL_call_294 rfl rfl rfl ?_
                                        refine jj_iload_n (j := 4) (i := 2) (pc' := 296) dL_call_295 rfl rfl rfl ?_
                                        refine jj_iload_n (j := 5) (i := 3) (pc' := 297) dL_call_296 rfl rfl rfl ?_
                                        refine jj_tI (N := M_X3_screen) (kc' := 2) (ks' := 12) (pc' := 300) (jg_V (N := M_X3_screen) (ci := 3) (rest := []) (as := [.int x2, .int x3]) cf_L_72 dL_call_297 ⟨rfl, rfl⟩ rfl rfl ⟨Nat.le_of_ble_eq_true rfl, Nat.le_of_ble_eq_true rfl⟩ ⟨Nat.le_of_ble_eq_true rfl, Nat.le_of_ble_eq_true rfl⟩ (Nat.le_of_ble_eq_true rfl) (fun X' hX => KX3_screen hX)) rfl rfl rfl rfl hF ?_ (fun x142 h141 hF => ?_)
                                        · intro E h9 hF
                                          by_cases hE0 : E = "java/lang/IndexOutOfBoundsException"
                                          · rw [if_pos hE0] at hF
                                            subst hE0
                                            refine jx_h (i := 9) (len := 2) (pc2 := 426) (ls' := [(8, .int (((l5 - l5 / ((1000 : Int64)) * ((1000 : Int64))).toInt32) - ((500 : Int32)))), (7, .int (((l5 / ((1000 : Int64))) - (l5 / ((1000 : Int64))) / ((1000 : Int64)) * ((1000 : Int64))).toInt32)), (0, .ref a0), (1, .int x1), (2, .int x2), (3, .int x3), (4, .int x4), (5, .long l5)]) [] [⟨26, 423, 429, 103⟩, ⟨26, 423, 434, 105⟩] ⟨26, 423, 424, 101⟩ (.astore 9) (by decide) rfl (fun z hz => nomatch hz) rfl (by decide) qw_71 (by decide) dL_call_424 (Or.inr ⟨rfl, rfl⟩) (by decide) rfl rfl ?_
                                            refine jj_bipush (v := (-11 : Int32)) (pc' := 428) dL_call_426 rfl rfl ?_
                                            exact jj_retI (ty := .int) rfl rfl dL_call_428 ⟨Nat.le_of_ble_eq_true rfl, Nat.le_of_ble_eq_true rfl⟩ hF
                                          rw [if_neg hE0] at hF
                                          by_cases hE1 : E = "java/lang/IllegalArgumentException"
                                          · rw [if_pos hE1] at hF
                                            subst hE1
                                            refine jx_h (i := 9) (len := 2) (pc2 := 431) (ls' := [(8, .int (((l5 - l5 / ((1000 : Int64)) * ((1000 : Int64))).toInt32) - ((500 : Int32)))), (7, .int (((l5 / ((1000 : Int64))) - (l5 / ((1000 : Int64))) / ((1000 : Int64)) * ((1000 : Int64))).toInt32)), (0, .ref a0), (1, .int x1), (2, .int x2), (3, .int x3), (4, .int x4), (5, .long l5)]) [⟨26, 423, 424, 101⟩] [⟨26, 423, 434, 105⟩] ⟨26, 423, 429, 103⟩ (.astore 9) (by decide) rfl (fun z hz => by simp only [List.mem_cons, List.not_mem_nil, or_false] at hz; subst hz; exact ⟨by decide, "java/lang/IndexOutOfBoundsException", qw_71, by decide, by decide⟩) rfl (by decide) qw_72 (by decide) dL_call_429 (Or.inr ⟨rfl, rfl⟩) (by decide) rfl rfl ?_
                                            refine jj_bipush (v := (-12 : Int32)) (pc' := 433) dL_call_431 rfl rfl ?_
                                            exact jj_retI (ty := .int) rfl rfl dL_call_433 ⟨Nat.le_of_ble_eq_true rfl, Nat.le_of_ble_eq_true rfl⟩ hF
                                          rw [if_neg hE1] at hF
                                          by_cases hE2 : E = "java/lang/IllegalStateException"
                                          · rw [if_pos hE2] at hF
                                            subst hE2
                                            refine jx_h (i := 9) (len := 2) (pc2 := 436) (ls' := [(8, .int (((l5 - l5 / ((1000 : Int64)) * ((1000 : Int64))).toInt32) - ((500 : Int32)))), (7, .int (((l5 / ((1000 : Int64))) - (l5 / ((1000 : Int64))) / ((1000 : Int64)) * ((1000 : Int64))).toInt32)), (0, .ref a0), (1, .int x1), (2, .int x2), (3, .int x3), (4, .int x4), (5, .long l5)]) [⟨26, 423, 424, 101⟩, ⟨26, 423, 429, 103⟩] [] ⟨26, 423, 434, 105⟩ (.astore 9) (by decide) rfl (fun z hz => by
                                                  simp only [List.mem_cons, List.not_mem_nil, or_false] at hz
                                                  rcases hz with rfl | rfl
                                                  · exact ⟨by decide, "java/lang/IndexOutOfBoundsException", qw_71, by decide, by decide⟩
                                                  · exact ⟨by decide, "java/lang/IllegalArgumentException", qw_72, by decide, by decide⟩) rfl (by decide) qw_73 (by decide) dL_call_434 (Or.inr ⟨rfl, rfl⟩) (by decide) rfl rfl ?_
                                            refine jj_bipush (v := (-13 : Int32)) (pc' := 438) dL_call_436 rfl rfl ?_
                                            exact jj_retI (ty := .int) rfl rfl dL_call_438 ⟨Nat.le_of_ble_eq_true rfl, Nat.le_of_ble_eq_true rfl⟩ hF
                                          rw [if_neg hE2] at hF
                                          cases hF
                                        refine jj_goto (tgt := 423) dL_call_300 rfl ?_
                                        exact jj_retI (ty := .int) rfl rfl dL_call_423 ⟨Nat.le_of_ble_eq_true rfl, Nat.le_of_ble_eq_true rfl⟩ hF
                                    · skip
                                      refine jj_aload_n (j := 2) (i := 0) (pc' := 280) dL_call_279 rfl rfl rfl ?_
                                      refine jj_iload_n (j := 4) (i := 2) (pc' := 281) dL_call_280 rfl rfl rfl ?_
                                      refine jj_iload_n (j := 5) (i := 3) (pc' := 282) dL_call_281 rfl rfl rfl ?_
                                      refine jj_tI (N := M_X3_runs) (kc' := 2) (ks' := 12) (pc' := 285) (jg_V (N := M_X3_runs) (ci := 3) (rest := []) (as := [.int x2, .int x3]) cf_L_69 dL_call_282 ⟨rfl, rfl⟩ rfl rfl ⟨Nat.le_of_ble_eq_true rfl, Nat.le_of_ble_eq_true rfl⟩ ⟨Nat.le_of_ble_eq_true rfl, Nat.le_of_ble_eq_true rfl⟩ (Nat.le_of_ble_eq_true rfl) (fun X' hX => KX3_runs hX)) rfl rfl rfl rfl hF ?_ (fun x147 h146 hF => ?_)
                                      · intro E h9 hF
                                        by_cases hE0 : E = "java/lang/IndexOutOfBoundsException"
                                        · rw [if_pos hE0] at hF
                                          subst hE0
                                          refine jx_h (i := 9) (len := 2) (pc2 := 426) (ls' := [(8, .int (((l5 - l5 / ((1000 : Int64)) * ((1000 : Int64))).toInt32) - ((500 : Int32)))), (7, .int (((l5 / ((1000 : Int64))) - (l5 / ((1000 : Int64))) / ((1000 : Int64)) * ((1000 : Int64))).toInt32)), (0, .ref a0), (1, .int x1), (2, .int x2), (3, .int x3), (4, .int x4), (5, .long l5)]) [] [⟨26, 423, 429, 103⟩, ⟨26, 423, 434, 105⟩] ⟨26, 423, 424, 101⟩ (.astore 9) (by decide) rfl (fun z hz => nomatch hz) rfl (by decide) qw_71 (by decide) dL_call_424 (Or.inr ⟨rfl, rfl⟩) (by decide) rfl rfl ?_
                                          refine jj_bipush (v := (-11 : Int32)) (pc' := 428) dL_call_426 rfl rfl ?_
                                          exact jj_retI (ty := .int) rfl rfl dL_call_428 ⟨Nat.le_of_ble_eq_true rfl, Nat.le_of_ble_eq_true rfl⟩ hF
                                        rw [if_neg hE0] at hF
                                        by_cases hE1 : E = "java/lang/IllegalArgumentException"
                                        · rw [if_pos hE1] at hF
                                          subst hE1
                                          refine jx_h (i := 9) (len := 2) (pc2 := 431) (ls' := [(8, .int (((l5 - l5 / ((1000 : Int64)) * ((1000 : Int64))).toInt32) - ((500 : Int32)))), (7, .int (((l5 / ((1000 : Int64))) - (l5 / ((1000 : Int64))) / ((1000 : Int64)) * ((1000 : Int64))).toInt32)), (0, .ref a0), (1, .int x1), (2, .int x2), (3, .int x3), (4, .int x4), (5, .long l5)]) [⟨26, 423, 424, 101⟩] [⟨26, 423, 434, 105⟩] ⟨26, 423, 429, 103⟩ (.astore 9) (by decide) rfl (fun z hz => by simp only [List.mem_cons, List.not_mem_nil, or_false] at hz; subst hz; exact ⟨by decide, "java/lang/IndexOutOfBoundsException", qw_71, by decide, by decide⟩) rfl (by decide) qw_72 (by decide) dL_call_429 (Or.inr ⟨rfl, rfl⟩) (by decide) rfl rfl ?_
                                          refine jj_bipush (v := (-12 : Int32)) (pc' := 433) dL_call_431 rfl rfl ?_
                                          exact jj_retI (ty := .int) rfl rfl dL_call_433 ⟨Nat.le_of_ble_eq_true rfl, Nat.le_of_ble_eq_true rfl⟩ hF
                                        rw [if_neg hE1] at hF
                                        by_cases hE2 : E = "java/lang/IllegalStateException"
                                        · rw [if_pos hE2] at hF
                                          subst hE2
                                          refine jx_h (i := 9) (len := 2) (pc2 := 436) (ls' := [(8, .int (((l5 - l5 / ((1000 : Int64)) * ((1000 : Int64))).toInt32) - ((500 : Int32)))), (7, .int (((l5 / ((1000 : Int64))) - (l5 / ((1000 : Int64))) / ((1000 : Int64)) * ((1000 : Int64))).toInt32)), (0, .ref a0), (1, .int x1), (2, .int x2), (3, .int x3), (4, .int x4), (5, .long l5)]) [⟨26, 423, 424, 101⟩, ⟨26, 423, 429, 103⟩] [] ⟨26, 423, 434, 105⟩ (.astore 9) (by decide) rfl (fun z hz => by
                                                simp only [List.mem_cons, List.not_mem_nil, or_false] at hz
                                                rcases hz with rfl | rfl
                                                · exact ⟨by decide, "java/lang/IndexOutOfBoundsException", qw_71, by decide, by decide⟩
                                                · exact ⟨by decide, "java/lang/IllegalArgumentException", qw_72, by decide, by decide⟩) rfl (by decide) qw_73 (by decide) dL_call_434 (Or.inr ⟨rfl, rfl⟩) (by decide) rfl rfl ?_
                                          refine jj_bipush (v := (-13 : Int32)) (pc' := 438) dL_call_436 rfl rfl ?_
                                          exact jj_retI (ty := .int) rfl rfl dL_call_438 ⟨Nat.le_of_ble_eq_true rfl, Nat.le_of_ble_eq_true rfl⟩ hF
                                        rw [if_neg hE2] at hF
                                        cases hF
                                      refine jj_goto (tgt := 423) dL_call_285 rfl ?_
                                      exact jj_retI (ty := .int) rfl rfl dL_call_423 ⟨Nat.le_of_ble_eq_true rfl, Nat.le_of_ble_eq_true rfl⟩ hF
                                  · skip
                                    refine jj_aload_n (j := 2) (i := 0) (pc' := 265) dL_call_264 rfl rfl rfl ?_
                                    refine jj_iload_n (j := 4) (i := 2) (pc' := 266) dL_call_265 rfl rfl rfl ?_
                                    refine jj_iload_n (j := 5) (i := 3) (pc' := 267) dL_call_266 rfl rfl rfl ?_
                                    refine jj_tI (N := M_X3_reel) (kc' := 2) (ks' := 12) (pc' := 270) (jg_V (N := M_X3_reel) (ci := 3) (rest := []) (as := [.int x2, .int x3]) cf_L_66 dL_call_267 ⟨rfl, rfl⟩ rfl rfl ⟨Nat.le_of_ble_eq_true rfl, Nat.le_of_ble_eq_true rfl⟩ ⟨Nat.le_of_ble_eq_true rfl, Nat.le_of_ble_eq_true rfl⟩ (Nat.le_of_ble_eq_true rfl) (fun X' hX => KX3_reel hX)) rfl rfl rfl rfl hF ?_ (fun x152 h151 hF => ?_)
                                    · intro E h9 hF
                                      by_cases hE0 : E = "java/lang/IndexOutOfBoundsException"
                                      · rw [if_pos hE0] at hF
                                        subst hE0
                                        refine jx_h (i := 9) (len := 2) (pc2 := 426) (ls' := [(8, .int (((l5 - l5 / ((1000 : Int64)) * ((1000 : Int64))).toInt32) - ((500 : Int32)))), (7, .int (((l5 / ((1000 : Int64))) - (l5 / ((1000 : Int64))) / ((1000 : Int64)) * ((1000 : Int64))).toInt32)), (0, .ref a0), (1, .int x1), (2, .int x2), (3, .int x3), (4, .int x4), (5, .long l5)]) [] [⟨26, 423, 429, 103⟩, ⟨26, 423, 434, 105⟩] ⟨26, 423, 424, 101⟩ (.astore 9) (by decide) rfl (fun z hz => nomatch hz) rfl (by decide) qw_71 (by decide) dL_call_424 (Or.inr ⟨rfl, rfl⟩) (by decide) rfl rfl ?_
                                        refine jj_bipush (v := (-11 : Int32)) (pc' := 428) dL_call_426 rfl rfl ?_
                                        exact jj_retI (ty := .int) rfl rfl dL_call_428 ⟨Nat.le_of_ble_eq_true rfl, Nat.le_of_ble_eq_true rfl⟩ hF
                                      rw [if_neg hE0] at hF
                                      by_cases hE1 : E = "java/lang/IllegalArgumentException"
                                      · rw [if_pos hE1] at hF
                                        subst hE1
                                        refine jx_h (i := 9) (len := 2) (pc2 := 431) (ls' := [(8, .int (((l5 - l5 / ((1000 : Int64)) * ((1000 : Int64))).toInt32) - ((500 : Int32)))), (7, .int (((l5 / ((1000 : Int64))) - (l5 / ((1000 : Int64))) / ((1000 : Int64)) * ((1000 : Int64))).toInt32)), (0, .ref a0), (1, .int x1), (2, .int x2), (3, .int x3), (4, .int x4), (5, .long l5)]) [⟨26, 423, 424, 101⟩] [⟨26, 423, 434, 105⟩] ⟨26, 423, 429, 103⟩ (.astore 9) (by decide) rfl (fun z hz => by simp only [List.mem_cons, List.not_mem_nil, or_false] at hz; subst hz; exact ⟨by decide, "java/lang/IndexOutOfBoundsException", qw_71, by decide, by decide⟩) rfl (by decide) qw_72 (by decide) dL_call_429 (Or.inr ⟨rfl, rfl⟩) (by decide) rfl rfl ?_
                                        refine jj_bipush (v := (-12 : Int32)) (pc' := 433) dL_call_431 rfl rfl ?_
                                        exact jj_retI (ty := .int) rfl rfl dL_call_433 ⟨Nat.le_of_ble_eq_true rfl, Nat.le_of_ble_eq_true rfl⟩ hF
                                      rw [if_neg hE1] at hF
                                      by_cases hE2 : E = "java/lang/IllegalStateException"
                                      · rw [if_pos hE2] at hF
                                        subst hE2
                                        refine jx_h (i := 9) (len := 2) (pc2 := 436) (ls' := [(8, .int (((l5 - l5 / ((1000 : Int64)) * ((1000 : Int64))).toInt32) - ((500 : Int32)))), (7, .int (((l5 / ((1000 : Int64))) - (l5 / ((1000 : Int64))) / ((1000 : Int64)) * ((1000 : Int64))).toInt32)), (0, .ref a0), (1, .int x1), (2, .int x2), (3, .int x3), (4, .int x4), (5, .long l5)]) [⟨26, 423, 424, 101⟩, ⟨26, 423, 429, 103⟩] [] ⟨26, 423, 434, 105⟩ (.astore 9) (by decide) rfl (fun z hz => by
                                              simp only [List.mem_cons, List.not_mem_nil, or_false] at hz
                                              rcases hz with rfl | rfl
                                              · exact ⟨by decide, "java/lang/IndexOutOfBoundsException", qw_71, by decide, by decide⟩
                                              · exact ⟨by decide, "java/lang/IllegalArgumentException", qw_72, by decide, by decide⟩) rfl (by decide) qw_73 (by decide) dL_call_434 (Or.inr ⟨rfl, rfl⟩) (by decide) rfl rfl ?_
                                        refine jj_bipush (v := (-13 : Int32)) (pc' := 438) dL_call_436 rfl rfl ?_
                                        exact jj_retI (ty := .int) rfl rfl dL_call_438 ⟨Nat.le_of_ble_eq_true rfl, Nat.le_of_ble_eq_true rfl⟩ hF
                                      rw [if_neg hE2] at hF
                                      cases hF
                                    refine jj_goto (tgt := 423) dL_call_270 rfl ?_
                                    exact jj_retI (ty := .int) rfl rfl dL_call_423 ⟨Nat.le_of_ble_eq_true rfl, Nat.le_of_ble_eq_true rfl⟩ hF
                                · skip
                                  refine jj_aload_n (j := 2) (i := 0) (pc' := 250) dL_call_249 rfl rfl rfl ?_
                                  refine jj_iload_n (j := 4) (i := 2) (pc' := 251) dL_call_250 rfl rfl rfl ?_
                                  refine jj_iload_n (j := 5) (i := 3) (pc' := 252) dL_call_251 rfl rfl rfl ?_
                                  refine jj_tI (N := M_X3_showing) (kc' := 2) (ks' := 12) (pc' := 255) (jg_V (N := M_X3_showing) (ci := 3) (rest := []) (as := [.int x2, .int x3]) cf_L_63 dL_call_252 ⟨rfl, rfl⟩ rfl rfl ⟨Nat.le_of_ble_eq_true rfl, Nat.le_of_ble_eq_true rfl⟩ ⟨Nat.le_of_ble_eq_true rfl, Nat.le_of_ble_eq_true rfl⟩ (Nat.le_of_ble_eq_true rfl) (fun X' hX => KX3_showing hX)) rfl rfl rfl rfl hF ?_ (fun x157 h156 hF => ?_)
                                  · intro E h9 hF
                                    by_cases hE0 : E = "java/lang/IndexOutOfBoundsException"
                                    · rw [if_pos hE0] at hF
                                      subst hE0
                                      refine jx_h (i := 9) (len := 2) (pc2 := 426) (ls' := [(8, .int (((l5 - l5 / ((1000 : Int64)) * ((1000 : Int64))).toInt32) - ((500 : Int32)))), (7, .int (((l5 / ((1000 : Int64))) - (l5 / ((1000 : Int64))) / ((1000 : Int64)) * ((1000 : Int64))).toInt32)), (0, .ref a0), (1, .int x1), (2, .int x2), (3, .int x3), (4, .int x4), (5, .long l5)]) [] [⟨26, 423, 429, 103⟩, ⟨26, 423, 434, 105⟩] ⟨26, 423, 424, 101⟩ (.astore 9) (by decide) rfl (fun z hz => nomatch hz) rfl (by decide) qw_71 (by decide) dL_call_424 (Or.inr ⟨rfl, rfl⟩) (by decide) rfl rfl ?_
                                      refine jj_bipush (v := (-11 : Int32)) (pc' := 428) dL_call_426 rfl rfl ?_
                                      exact jj_retI (ty := .int) rfl rfl dL_call_428 ⟨Nat.le_of_ble_eq_true rfl, Nat.le_of_ble_eq_true rfl⟩ hF
                                    rw [if_neg hE0] at hF
                                    by_cases hE1 : E = "java/lang/IllegalArgumentException"
                                    · rw [if_pos hE1] at hF
                                      subst hE1
                                      refine jx_h (i := 9) (len := 2) (pc2 := 431) (ls' := [(8, .int (((l5 - l5 / ((1000 : Int64)) * ((1000 : Int64))).toInt32) - ((500 : Int32)))), (7, .int (((l5 / ((1000 : Int64))) - (l5 / ((1000 : Int64))) / ((1000 : Int64)) * ((1000 : Int64))).toInt32)), (0, .ref a0), (1, .int x1), (2, .int x2), (3, .int x3), (4, .int x4), (5, .long l5)]) [⟨26, 423, 424, 101⟩] [⟨26, 423, 434, 105⟩] ⟨26, 423, 429, 103⟩ (.astore 9) (by decide) rfl (fun z hz => by simp only [List.mem_cons, List.not_mem_nil, or_false] at hz; subst hz; exact ⟨by decide, "java/lang/IndexOutOfBoundsException", qw_71, by decide, by decide⟩) rfl (by decide) qw_72 (by decide) dL_call_429 (Or.inr ⟨rfl, rfl⟩) (by decide) rfl rfl ?_
                                      refine jj_bipush (v := (-12 : Int32)) (pc' := 433) dL_call_431 rfl rfl ?_
                                      exact jj_retI (ty := .int) rfl rfl dL_call_433 ⟨Nat.le_of_ble_eq_true rfl, Nat.le_of_ble_eq_true rfl⟩ hF
                                    rw [if_neg hE1] at hF
                                    by_cases hE2 : E = "java/lang/IllegalStateException"
                                    · rw [if_pos hE2] at hF
                                      subst hE2
                                      refine jx_h (i := 9) (len := 2) (pc2 := 436) (ls' := [(8, .int (((l5 - l5 / ((1000 : Int64)) * ((1000 : Int64))).toInt32) - ((500 : Int32)))), (7, .int (((l5 / ((1000 : Int64))) - (l5 / ((1000 : Int64))) / ((1000 : Int64)) * ((1000 : Int64))).toInt32)), (0, .ref a0), (1, .int x1), (2, .int x2), (3, .int x3), (4, .int x4), (5, .long l5)]) [⟨26, 423, 424, 101⟩, ⟨26, 423, 429, 103⟩] [] ⟨26, 423, 434, 105⟩ (.astore 9) (by decide) rfl (fun z hz => by
                                            simp only [List.mem_cons, List.not_mem_nil, or_false] at hz
                                            rcases hz with rfl | rfl
                                            · exact ⟨by decide, "java/lang/IndexOutOfBoundsException", qw_71, by decide, by decide⟩
                                            · exact ⟨by decide, "java/lang/IllegalArgumentException", qw_72, by decide, by decide⟩) rfl (by decide) qw_73 (by decide) dL_call_434 (Or.inr ⟨rfl, rfl⟩) (by decide) rfl rfl ?_
                                      refine jj_bipush (v := (-13 : Int32)) (pc' := 438) dL_call_436 rfl rfl ?_
                                      exact jj_retI (ty := .int) rfl rfl dL_call_438 ⟨Nat.le_of_ble_eq_true rfl, Nat.le_of_ble_eq_true rfl⟩ hF
                                    rw [if_neg hE2] at hF
                                    cases hF
                                  refine jj_goto (tgt := 423) dL_call_255 rfl ?_
                                  exact jj_retI (ty := .int) rfl rfl dL_call_423 ⟨Nat.le_of_ble_eq_true rfl, Nat.le_of_ble_eq_true rfl⟩ hF
                              · skip
                                refine jj_aload_n (j := 2) (i := 0) (pc' := 235) dL_call_234 rfl rfl rfl ?_
                                refine jj_iload_n (j := 4) (i := 2) (pc' := 236) dL_call_235 rfl rfl rfl ?_
                                refine jj_iload_n (j := 5) (i := 3) (pc' := 237) dL_call_236 rfl rfl rfl ?_
                                refine jj_tI (N := M_X3_filmOf) (kc' := 2) (ks' := 12) (pc' := 240) (jg_V (N := M_X3_filmOf) (ci := 3) (rest := []) (as := [.int x2, .int x3]) cf_L_60 dL_call_237 ⟨rfl, rfl⟩ rfl rfl ⟨Nat.le_of_ble_eq_true rfl, Nat.le_of_ble_eq_true rfl⟩ ⟨Nat.le_of_ble_eq_true rfl, Nat.le_of_ble_eq_true rfl⟩ (Nat.le_of_ble_eq_true rfl) (fun X' hX => KX3_filmOf hX)) rfl rfl rfl rfl hF ?_ (fun x162 h161 hF => ?_)
                                · intro E h9 hF
                                  by_cases hE0 : E = "java/lang/IndexOutOfBoundsException"
                                  · rw [if_pos hE0] at hF
                                    subst hE0
                                    refine jx_h (i := 9) (len := 2) (pc2 := 426) (ls' := [(8, .int (((l5 - l5 / ((1000 : Int64)) * ((1000 : Int64))).toInt32) - ((500 : Int32)))), (7, .int (((l5 / ((1000 : Int64))) - (l5 / ((1000 : Int64))) / ((1000 : Int64)) * ((1000 : Int64))).toInt32)), (0, .ref a0), (1, .int x1), (2, .int x2), (3, .int x3), (4, .int x4), (5, .long l5)]) [] [⟨26, 423, 429, 103⟩, ⟨26, 423, 434, 105⟩] ⟨26, 423, 424, 101⟩ (.astore 9) (by decide) rfl (fun z hz => nomatch hz) rfl (by decide) qw_71 (by decide) dL_call_424 (Or.inr ⟨rfl, rfl⟩) (by decide) rfl rfl ?_
                                    refine jj_bipush (v := (-11 : Int32)) (pc' := 428) dL_call_426 rfl rfl ?_
                                    exact jj_retI (ty := .int) rfl rfl dL_call_428 ⟨Nat.le_of_ble_eq_true rfl, Nat.le_of_ble_eq_true rfl⟩ hF
                                  rw [if_neg hE0] at hF
                                  by_cases hE1 : E = "java/lang/IllegalArgumentException"
                                  · rw [if_pos hE1] at hF
                                    subst hE1
                                    refine jx_h (i := 9) (len := 2) (pc2 := 431) (ls' := [(8, .int (((l5 - l5 / ((1000 : Int64)) * ((1000 : Int64))).toInt32) - ((500 : Int32)))), (7, .int (((l5 / ((1000 : Int64))) - (l5 / ((1000 : Int64))) / ((1000 : Int64)) * ((1000 : Int64))).toInt32)), (0, .ref a0), (1, .int x1), (2, .int x2), (3, .int x3), (4, .int x4), (5, .long l5)]) [⟨26, 423, 424, 101⟩] [⟨26, 423, 434, 105⟩] ⟨26, 423, 429, 103⟩ (.astore 9) (by decide) rfl (fun z hz => by simp only [List.mem_cons, List.not_mem_nil, or_false] at hz; subst hz; exact ⟨by decide, "java/lang/IndexOutOfBoundsException", qw_71, by decide, by decide⟩) rfl (by decide) qw_72 (by decide) dL_call_429 (Or.inr ⟨rfl, rfl⟩) (by decide) rfl rfl ?_
                                    refine jj_bipush (v := (-12 : Int32)) (pc' := 433) dL_call_431 rfl rfl ?_
                                    exact jj_retI (ty := .int) rfl rfl dL_call_433 ⟨Nat.le_of_ble_eq_true rfl, Nat.le_of_ble_eq_true rfl⟩ hF
                                  rw [if_neg hE1] at hF
                                  by_cases hE2 : E = "java/lang/IllegalStateException"
                                  · rw [if_pos hE2] at hF
                                    subst hE2
                                    refine jx_h (i := 9) (len := 2) (pc2 := 436) (ls' := [(8, .int (((l5 - l5 / ((1000 : Int64)) * ((1000 : Int64))).toInt32) - ((500 : Int32)))), (7, .int (((l5 / ((1000 : Int64))) - (l5 / ((1000 : Int64))) / ((1000 : Int64)) * ((1000 : Int64))).toInt32)), (0, .ref a0), (1, .int x1), (2, .int x2), (3, .int x3), (4, .int x4), (5, .long l5)]) [⟨26, 423, 424, 101⟩, ⟨26, 423, 429, 103⟩] [] ⟨26, 423, 434, 105⟩ (.astore 9) (by decide) rfl (fun z hz => by
                                          simp only [List.mem_cons, List.not_mem_nil, or_false] at hz
                                          rcases hz with rfl | rfl
                                          · exact ⟨by decide, "java/lang/IndexOutOfBoundsException", qw_71, by decide, by decide⟩
                                          · exact ⟨by decide, "java/lang/IllegalArgumentException", qw_72, by decide, by decide⟩) rfl (by decide) qw_73 (by decide) dL_call_434 (Or.inr ⟨rfl, rfl⟩) (by decide) rfl rfl ?_
                                    refine jj_bipush (v := (-13 : Int32)) (pc' := 438) dL_call_436 rfl rfl ?_
                                    exact jj_retI (ty := .int) rfl rfl dL_call_438 ⟨Nat.le_of_ble_eq_true rfl, Nat.le_of_ble_eq_true rfl⟩ hF
                                  rw [if_neg hE2] at hF
                                  cases hF
                                refine jj_goto (tgt := 423) dL_call_240 rfl ?_
                                exact jj_retI (ty := .int) rfl rfl dL_call_423 ⟨Nat.le_of_ble_eq_true rfl, Nat.le_of_ble_eq_true rfl⟩ hF
                            · skip
                              refine jj_aload_n (j := 2) (i := 0) (pc' := 222) dL_call_221 rfl rfl rfl ?_
                              refine jj_tI (N := M_X3_restore) (kc' := 1) (ks' := 6) (pc' := 225) (jg_V (N := M_X3_restore) (ci := 3) (rest := []) (as := []) cf_L_57 dL_call_222 ⟨rfl, rfl⟩ rfl rfl ⟨Nat.le_of_ble_eq_true rfl, Nat.le_of_ble_eq_true rfl⟩ ⟨Nat.le_of_ble_eq_true rfl, Nat.le_of_ble_eq_true rfl⟩ (Nat.le_of_ble_eq_true rfl) (fun X' hX => KX3_restore hX)) rfl rfl rfl rfl hF ?_ (fun x167 h166 hF => ?_)
                              · intro E h9 hF
                                by_cases hE0 : E = "java/lang/IndexOutOfBoundsException"
                                · rw [if_pos hE0] at hF
                                  subst hE0
                                  refine jx_h (i := 9) (len := 2) (pc2 := 426) (ls' := [(8, .int (((l5 - l5 / ((1000 : Int64)) * ((1000 : Int64))).toInt32) - ((500 : Int32)))), (7, .int (((l5 / ((1000 : Int64))) - (l5 / ((1000 : Int64))) / ((1000 : Int64)) * ((1000 : Int64))).toInt32)), (0, .ref a0), (1, .int x1), (2, .int x2), (3, .int x3), (4, .int x4), (5, .long l5)]) [] [⟨26, 423, 429, 103⟩, ⟨26, 423, 434, 105⟩] ⟨26, 423, 424, 101⟩ (.astore 9) (by decide) rfl (fun z hz => nomatch hz) rfl (by decide) qw_71 (by decide) dL_call_424 (Or.inr ⟨rfl, rfl⟩) (by decide) rfl rfl ?_
                                  refine jj_bipush (v := (-11 : Int32)) (pc' := 428) dL_call_426 rfl rfl ?_
                                  exact jj_retI (ty := .int) rfl rfl dL_call_428 ⟨Nat.le_of_ble_eq_true rfl, Nat.le_of_ble_eq_true rfl⟩ hF
                                rw [if_neg hE0] at hF
                                by_cases hE1 : E = "java/lang/IllegalArgumentException"
                                · rw [if_pos hE1] at hF
                                  subst hE1
                                  refine jx_h (i := 9) (len := 2) (pc2 := 431) (ls' := [(8, .int (((l5 - l5 / ((1000 : Int64)) * ((1000 : Int64))).toInt32) - ((500 : Int32)))), (7, .int (((l5 / ((1000 : Int64))) - (l5 / ((1000 : Int64))) / ((1000 : Int64)) * ((1000 : Int64))).toInt32)), (0, .ref a0), (1, .int x1), (2, .int x2), (3, .int x3), (4, .int x4), (5, .long l5)]) [⟨26, 423, 424, 101⟩] [⟨26, 423, 434, 105⟩] ⟨26, 423, 429, 103⟩ (.astore 9) (by decide) rfl (fun z hz => by simp only [List.mem_cons, List.not_mem_nil, or_false] at hz; subst hz; exact ⟨by decide, "java/lang/IndexOutOfBoundsException", qw_71, by decide, by decide⟩) rfl (by decide) qw_72 (by decide) dL_call_429 (Or.inr ⟨rfl, rfl⟩) (by decide) rfl rfl ?_
                                  refine jj_bipush (v := (-12 : Int32)) (pc' := 433) dL_call_431 rfl rfl ?_
                                  exact jj_retI (ty := .int) rfl rfl dL_call_433 ⟨Nat.le_of_ble_eq_true rfl, Nat.le_of_ble_eq_true rfl⟩ hF
                                rw [if_neg hE1] at hF
                                by_cases hE2 : E = "java/lang/IllegalStateException"
                                · rw [if_pos hE2] at hF
                                  subst hE2
                                  refine jx_h (i := 9) (len := 2) (pc2 := 436) (ls' := [(8, .int (((l5 - l5 / ((1000 : Int64)) * ((1000 : Int64))).toInt32) - ((500 : Int32)))), (7, .int (((l5 / ((1000 : Int64))) - (l5 / ((1000 : Int64))) / ((1000 : Int64)) * ((1000 : Int64))).toInt32)), (0, .ref a0), (1, .int x1), (2, .int x2), (3, .int x3), (4, .int x4), (5, .long l5)]) [⟨26, 423, 424, 101⟩, ⟨26, 423, 429, 103⟩] [] ⟨26, 423, 434, 105⟩ (.astore 9) (by decide) rfl (fun z hz => by
                                        simp only [List.mem_cons, List.not_mem_nil, or_false] at hz
                                        rcases hz with rfl | rfl
                                        · exact ⟨by decide, "java/lang/IndexOutOfBoundsException", qw_71, by decide, by decide⟩
                                        · exact ⟨by decide, "java/lang/IllegalArgumentException", qw_72, by decide, by decide⟩) rfl (by decide) qw_73 (by decide) dL_call_434 (Or.inr ⟨rfl, rfl⟩) (by decide) rfl rfl ?_
                                  refine jj_bipush (v := (-13 : Int32)) (pc' := 438) dL_call_436 rfl rfl ?_
                                  exact jj_retI (ty := .int) rfl rfl dL_call_438 ⟨Nat.le_of_ble_eq_true rfl, Nat.le_of_ble_eq_true rfl⟩ hF
                                rw [if_neg hE2] at hF
                                cases hF
                              refine jj_goto (tgt := 423) dL_call_225 rfl ?_
                              exact jj_retI (ty := .int) rfl rfl dL_call_423 ⟨Nat.le_of_ble_eq_true rfl, Nat.le_of_ble_eq_true rfl⟩ hF
                          · skip
                            refine jj_aload_n (j := 2) (i := 0) (pc' := 209) dL_call_208 rfl rfl rfl ?_
                            refine jj_tI (N := M_X3_undo) (kc' := 1) (ks' := 6) (pc' := 212) (jg_V (N := M_X3_undo) (ci := 3) (rest := []) (as := []) cf_L_54 dL_call_209 ⟨rfl, rfl⟩ rfl rfl ⟨Nat.le_of_ble_eq_true rfl, Nat.le_of_ble_eq_true rfl⟩ ⟨Nat.le_of_ble_eq_true rfl, Nat.le_of_ble_eq_true rfl⟩ (Nat.le_of_ble_eq_true rfl) (fun X' hX => KX3_undo hX)) rfl rfl rfl rfl hF ?_ (fun x172 h171 hF => ?_)
                            · intro E h9 hF
                              by_cases hE0 : E = "java/lang/IndexOutOfBoundsException"
                              · rw [if_pos hE0] at hF
                                subst hE0
                                refine jx_h (i := 9) (len := 2) (pc2 := 426) (ls' := [(8, .int (((l5 - l5 / ((1000 : Int64)) * ((1000 : Int64))).toInt32) - ((500 : Int32)))), (7, .int (((l5 / ((1000 : Int64))) - (l5 / ((1000 : Int64))) / ((1000 : Int64)) * ((1000 : Int64))).toInt32)), (0, .ref a0), (1, .int x1), (2, .int x2), (3, .int x3), (4, .int x4), (5, .long l5)]) [] [⟨26, 423, 429, 103⟩, ⟨26, 423, 434, 105⟩] ⟨26, 423, 424, 101⟩ (.astore 9) (by decide) rfl (fun z hz => nomatch hz) rfl (by decide) qw_71 (by decide) dL_call_424 (Or.inr ⟨rfl, rfl⟩) (by decide) rfl rfl ?_
                                refine jj_bipush (v := (-11 : Int32)) (pc' := 428) dL_call_426 rfl rfl ?_
                                exact jj_retI (ty := .int) rfl rfl dL_call_428 ⟨Nat.le_of_ble_eq_true rfl, Nat.le_of_ble_eq_true rfl⟩ hF
                              rw [if_neg hE0] at hF
                              by_cases hE1 : E = "java/lang/IllegalArgumentException"
                              · rw [if_pos hE1] at hF
                                subst hE1
                                refine jx_h (i := 9) (len := 2) (pc2 := 431) (ls' := [(8, .int (((l5 - l5 / ((1000 : Int64)) * ((1000 : Int64))).toInt32) - ((500 : Int32)))), (7, .int (((l5 / ((1000 : Int64))) - (l5 / ((1000 : Int64))) / ((1000 : Int64)) * ((1000 : Int64))).toInt32)), (0, .ref a0), (1, .int x1), (2, .int x2), (3, .int x3), (4, .int x4), (5, .long l5)]) [⟨26, 423, 424, 101⟩] [⟨26, 423, 434, 105⟩] ⟨26, 423, 429, 103⟩ (.astore 9) (by decide) rfl (fun z hz => by simp only [List.mem_cons, List.not_mem_nil, or_false] at hz; subst hz; exact ⟨by decide, "java/lang/IndexOutOfBoundsException", qw_71, by decide, by decide⟩) rfl (by decide) qw_72 (by decide) dL_call_429 (Or.inr ⟨rfl, rfl⟩) (by decide) rfl rfl ?_
                                refine jj_bipush (v := (-12 : Int32)) (pc' := 433) dL_call_431 rfl rfl ?_
                                exact jj_retI (ty := .int) rfl rfl dL_call_433 ⟨Nat.le_of_ble_eq_true rfl, Nat.le_of_ble_eq_true rfl⟩ hF
                              rw [if_neg hE1] at hF
                              by_cases hE2 : E = "java/lang/IllegalStateException"
                              · rw [if_pos hE2] at hF
                                subst hE2
                                refine jx_h (i := 9) (len := 2) (pc2 := 436) (ls' := [(8, .int (((l5 - l5 / ((1000 : Int64)) * ((1000 : Int64))).toInt32) - ((500 : Int32)))), (7, .int (((l5 / ((1000 : Int64))) - (l5 / ((1000 : Int64))) / ((1000 : Int64)) * ((1000 : Int64))).toInt32)), (0, .ref a0), (1, .int x1), (2, .int x2), (3, .int x3), (4, .int x4), (5, .long l5)]) [⟨26, 423, 424, 101⟩, ⟨26, 423, 429, 103⟩] [] ⟨26, 423, 434, 105⟩ (.astore 9) (by decide) rfl (fun z hz => by
                                      simp only [List.mem_cons, List.not_mem_nil, or_false] at hz
                                      rcases hz with rfl | rfl
                                      · exact ⟨by decide, "java/lang/IndexOutOfBoundsException", qw_71, by decide, by decide⟩
                                      · exact ⟨by decide, "java/lang/IllegalArgumentException", qw_72, by decide, by decide⟩) rfl (by decide) qw_73 (by decide) dL_call_434 (Or.inr ⟨rfl, rfl⟩) (by decide) rfl rfl ?_
                                refine jj_bipush (v := (-13 : Int32)) (pc' := 438) dL_call_436 rfl rfl ?_
                                exact jj_retI (ty := .int) rfl rfl dL_call_438 ⟨Nat.le_of_ble_eq_true rfl, Nat.le_of_ble_eq_true rfl⟩ hF
                              rw [if_neg hE2] at hF
                              cases hF
                            refine jj_goto (tgt := 423) dL_call_212 rfl ?_
                            exact jj_retI (ty := .int) rfl rfl dL_call_423 ⟨Nat.le_of_ble_eq_true rfl, Nat.le_of_ble_eq_true rfl⟩ hF
                        · skip
                          refine jj_aload_n (j := 2) (i := 0) (pc' := 195) dL_call_194 rfl rfl rfl ?_
                          refine jj_iload_n (j := 4) (i := 2) (pc' := 196) dL_call_195 rfl rfl rfl ?_
                          refine jj_tI (N := M_X3_stopped) (kc' := 1) (ks' := 6) (pc' := 199) (jg_V (N := M_X3_stopped) (ci := 3) (rest := []) (as := [.int x2]) cf_L_51 dL_call_196 ⟨rfl, rfl⟩ rfl rfl ⟨Nat.le_of_ble_eq_true rfl, Nat.le_of_ble_eq_true rfl⟩ ⟨Nat.le_of_ble_eq_true rfl, Nat.le_of_ble_eq_true rfl⟩ (Nat.le_of_ble_eq_true rfl) (fun X' hX => KX3_stopped hX)) rfl rfl rfl rfl hF ?_ (fun x177 h176 hF => ?_)
                          · intro E h9 hF
                            by_cases hE0 : E = "java/lang/IndexOutOfBoundsException"
                            · rw [if_pos hE0] at hF
                              subst hE0
                              refine jx_h (i := 9) (len := 2) (pc2 := 426) (ls' := [(8, .int (((l5 - l5 / ((1000 : Int64)) * ((1000 : Int64))).toInt32) - ((500 : Int32)))), (7, .int (((l5 / ((1000 : Int64))) - (l5 / ((1000 : Int64))) / ((1000 : Int64)) * ((1000 : Int64))).toInt32)), (0, .ref a0), (1, .int x1), (2, .int x2), (3, .int x3), (4, .int x4), (5, .long l5)]) [] [⟨26, 423, 429, 103⟩, ⟨26, 423, 434, 105⟩] ⟨26, 423, 424, 101⟩ (.astore 9) (by decide) rfl (fun z hz => nomatch hz) rfl (by decide) qw_71 (by decide) dL_call_424 (Or.inr ⟨rfl, rfl⟩) (by decide) rfl rfl ?_
                              refine jj_bipush (v := (-11 : Int32)) (pc' := 428) dL_call_426 rfl rfl ?_
                              exact jj_retI (ty := .int) rfl rfl dL_call_428 ⟨Nat.le_of_ble_eq_true rfl, Nat.le_of_ble_eq_true rfl⟩ hF
                            rw [if_neg hE0] at hF
                            by_cases hE1 : E = "java/lang/IllegalArgumentException"
                            · rw [if_pos hE1] at hF
                              subst hE1
                              refine jx_h (i := 9) (len := 2) (pc2 := 431) (ls' := [(8, .int (((l5 - l5 / ((1000 : Int64)) * ((1000 : Int64))).toInt32) - ((500 : Int32)))), (7, .int (((l5 / ((1000 : Int64))) - (l5 / ((1000 : Int64))) / ((1000 : Int64)) * ((1000 : Int64))).toInt32)), (0, .ref a0), (1, .int x1), (2, .int x2), (3, .int x3), (4, .int x4), (5, .long l5)]) [⟨26, 423, 424, 101⟩] [⟨26, 423, 434, 105⟩] ⟨26, 423, 429, 103⟩ (.astore 9) (by decide) rfl (fun z hz => by simp only [List.mem_cons, List.not_mem_nil, or_false] at hz; subst hz; exact ⟨by decide, "java/lang/IndexOutOfBoundsException", qw_71, by decide, by decide⟩) rfl (by decide) qw_72 (by decide) dL_call_429 (Or.inr ⟨rfl, rfl⟩) (by decide) rfl rfl ?_
                              refine jj_bipush (v := (-12 : Int32)) (pc' := 433) dL_call_431 rfl rfl ?_
                              exact jj_retI (ty := .int) rfl rfl dL_call_433 ⟨Nat.le_of_ble_eq_true rfl, Nat.le_of_ble_eq_true rfl⟩ hF
                            rw [if_neg hE1] at hF
                            by_cases hE2 : E = "java/lang/IllegalStateException"
                            · rw [if_pos hE2] at hF
                              subst hE2
                              refine jx_h (i := 9) (len := 2) (pc2 := 436) (ls' := [(8, .int (((l5 - l5 / ((1000 : Int64)) * ((1000 : Int64))).toInt32) - ((500 : Int32)))), (7, .int (((l5 / ((1000 : Int64))) - (l5 / ((1000 : Int64))) / ((1000 : Int64)) * ((1000 : Int64))).toInt32)), (0, .ref a0), (1, .int x1), (2, .int x2), (3, .int x3), (4, .int x4), (5, .long l5)]) [⟨26, 423, 424, 101⟩, ⟨26, 423, 429, 103⟩] [] ⟨26, 423, 434, 105⟩ (.astore 9) (by decide) rfl (fun z hz => by
                                    simp only [List.mem_cons, List.not_mem_nil, or_false] at hz
                                    rcases hz with rfl | rfl
                                    · exact ⟨by decide, "java/lang/IndexOutOfBoundsException", qw_71, by decide, by decide⟩
                                    · exact ⟨by decide, "java/lang/IllegalArgumentException", qw_72, by decide, by decide⟩) rfl (by decide) qw_73 (by decide) dL_call_434 (Or.inr ⟨rfl, rfl⟩) (by decide) rfl rfl ?_
                              refine jj_bipush (v := (-13 : Int32)) (pc' := 438) dL_call_436 rfl rfl ?_
                              exact jj_retI (ty := .int) rfl rfl dL_call_438 ⟨Nat.le_of_ble_eq_true rfl, Nat.le_of_ble_eq_true rfl⟩ hF
                            rw [if_neg hE2] at hF
                            cases hF
                          refine jj_goto (tgt := 423) dL_call_199 rfl ?_
                          exact jj_retI (ty := .int) rfl rfl dL_call_423 ⟨Nat.le_of_ble_eq_true rfl, Nat.le_of_ble_eq_true rfl⟩ hF
                      · skip
                        refine jj_aload_n (j := 2) (i := 0) (pc' := 182) dL_call_181 rfl rfl rfl ?_
                        refine jj_tI (N := M_X3_program) (kc' := 1) (ks' := 6) (pc' := 185) (jg_V (N := M_X3_program) (ci := 3) (rest := []) (as := []) cf_L_47 dL_call_182 ⟨rfl, rfl⟩ rfl rfl ⟨Nat.le_of_ble_eq_true rfl, Nat.le_of_ble_eq_true rfl⟩ ⟨Nat.le_of_ble_eq_true rfl, Nat.le_of_ble_eq_true rfl⟩ (Nat.le_of_ble_eq_true rfl) (fun X' hX => KX3_program hX)) rfl rfl rfl rfl hF ?_ (fun x182 h181 hF => ?_)
                        · intro E h9 hF
                          by_cases hE0 : E = "java/lang/IndexOutOfBoundsException"
                          · rw [if_pos hE0] at hF
                            subst hE0
                            refine jx_h (i := 9) (len := 2) (pc2 := 426) (ls' := [(8, .int (((l5 - l5 / ((1000 : Int64)) * ((1000 : Int64))).toInt32) - ((500 : Int32)))), (7, .int (((l5 / ((1000 : Int64))) - (l5 / ((1000 : Int64))) / ((1000 : Int64)) * ((1000 : Int64))).toInt32)), (0, .ref a0), (1, .int x1), (2, .int x2), (3, .int x3), (4, .int x4), (5, .long l5)]) [] [⟨26, 423, 429, 103⟩, ⟨26, 423, 434, 105⟩] ⟨26, 423, 424, 101⟩ (.astore 9) (by decide) rfl (fun z hz => nomatch hz) rfl (by decide) qw_71 (by decide) dL_call_424 (Or.inr ⟨rfl, rfl⟩) (by decide) rfl rfl ?_
                            refine jj_bipush (v := (-11 : Int32)) (pc' := 428) dL_call_426 rfl rfl ?_
                            exact jj_retI (ty := .int) rfl rfl dL_call_428 ⟨Nat.le_of_ble_eq_true rfl, Nat.le_of_ble_eq_true rfl⟩ hF
                          rw [if_neg hE0] at hF
                          by_cases hE1 : E = "java/lang/IllegalArgumentException"
                          · rw [if_pos hE1] at hF
                            subst hE1
                            refine jx_h (i := 9) (len := 2) (pc2 := 431) (ls' := [(8, .int (((l5 - l5 / ((1000 : Int64)) * ((1000 : Int64))).toInt32) - ((500 : Int32)))), (7, .int (((l5 / ((1000 : Int64))) - (l5 / ((1000 : Int64))) / ((1000 : Int64)) * ((1000 : Int64))).toInt32)), (0, .ref a0), (1, .int x1), (2, .int x2), (3, .int x3), (4, .int x4), (5, .long l5)]) [⟨26, 423, 424, 101⟩] [⟨26, 423, 434, 105⟩] ⟨26, 423, 429, 103⟩ (.astore 9) (by decide) rfl (fun z hz => by simp only [List.mem_cons, List.not_mem_nil, or_false] at hz; subst hz; exact ⟨by decide, "java/lang/IndexOutOfBoundsException", qw_71, by decide, by decide⟩) rfl (by decide) qw_72 (by decide) dL_call_429 (Or.inr ⟨rfl, rfl⟩) (by decide) rfl rfl ?_
                            refine jj_bipush (v := (-12 : Int32)) (pc' := 433) dL_call_431 rfl rfl ?_
                            exact jj_retI (ty := .int) rfl rfl dL_call_433 ⟨Nat.le_of_ble_eq_true rfl, Nat.le_of_ble_eq_true rfl⟩ hF
                          rw [if_neg hE1] at hF
                          by_cases hE2 : E = "java/lang/IllegalStateException"
                          · rw [if_pos hE2] at hF
                            subst hE2
                            refine jx_h (i := 9) (len := 2) (pc2 := 436) (ls' := [(8, .int (((l5 - l5 / ((1000 : Int64)) * ((1000 : Int64))).toInt32) - ((500 : Int32)))), (7, .int (((l5 / ((1000 : Int64))) - (l5 / ((1000 : Int64))) / ((1000 : Int64)) * ((1000 : Int64))).toInt32)), (0, .ref a0), (1, .int x1), (2, .int x2), (3, .int x3), (4, .int x4), (5, .long l5)]) [⟨26, 423, 424, 101⟩, ⟨26, 423, 429, 103⟩] [] ⟨26, 423, 434, 105⟩ (.astore 9) (by decide) rfl (fun z hz => by
                                  simp only [List.mem_cons, List.not_mem_nil, or_false] at hz
                                  rcases hz with rfl | rfl
                                  · exact ⟨by decide, "java/lang/IndexOutOfBoundsException", qw_71, by decide, by decide⟩
                                  · exact ⟨by decide, "java/lang/IllegalArgumentException", qw_72, by decide, by decide⟩) rfl (by decide) qw_73 (by decide) dL_call_434 (Or.inr ⟨rfl, rfl⟩) (by decide) rfl rfl ?_
                            refine jj_bipush (v := (-13 : Int32)) (pc' := 438) dL_call_436 rfl rfl ?_
                            exact jj_retI (ty := .int) rfl rfl dL_call_438 ⟨Nat.le_of_ble_eq_true rfl, Nat.le_of_ble_eq_true rfl⟩ hF
                          rw [if_neg hE2] at hF
                          cases hF
                        refine jj_goto (tgt := 423) dL_call_185 rfl ?_
                        exact jj_retI (ty := .int) rfl rfl dL_call_423 ⟨Nat.le_of_ble_eq_true rfl, Nat.le_of_ble_eq_true rfl⟩ hF
                    · skip
                      refine jj_aload_n (j := 2) (i := 0) (pc' := 168) dL_call_167 rfl rfl rfl ?_
                      refine jj_iload_n (j := 4) (i := 2) (pc' := 169) dL_call_168 rfl rfl rfl ?_
                      refine jj_tI (N := M_X3_append) (kc' := 2) (ks' := 12) (pc' := 172) (jg_V (N := M_X3_append) (ci := 3) (rest := []) (as := [.int x2]) cf_L_44 dL_call_169 ⟨rfl, rfl⟩ rfl rfl ⟨Nat.le_of_ble_eq_true rfl, Nat.le_of_ble_eq_true rfl⟩ ⟨Nat.le_of_ble_eq_true rfl, Nat.le_of_ble_eq_true rfl⟩ (Nat.le_of_ble_eq_true rfl) (fun X' hX => KX3_append hX)) rfl rfl rfl rfl hF ?_ (fun x187 h186 hF => ?_)
                      · intro E h9 hF
                        by_cases hE0 : E = "java/lang/IndexOutOfBoundsException"
                        · rw [if_pos hE0] at hF
                          subst hE0
                          refine jx_h (i := 9) (len := 2) (pc2 := 426) (ls' := [(8, .int (((l5 - l5 / ((1000 : Int64)) * ((1000 : Int64))).toInt32) - ((500 : Int32)))), (7, .int (((l5 / ((1000 : Int64))) - (l5 / ((1000 : Int64))) / ((1000 : Int64)) * ((1000 : Int64))).toInt32)), (0, .ref a0), (1, .int x1), (2, .int x2), (3, .int x3), (4, .int x4), (5, .long l5)]) [] [⟨26, 423, 429, 103⟩, ⟨26, 423, 434, 105⟩] ⟨26, 423, 424, 101⟩ (.astore 9) (by decide) rfl (fun z hz => nomatch hz) rfl (by decide) qw_71 (by decide) dL_call_424 (Or.inr ⟨rfl, rfl⟩) (by decide) rfl rfl ?_
                          refine jj_bipush (v := (-11 : Int32)) (pc' := 428) dL_call_426 rfl rfl ?_
                          exact jj_retI (ty := .int) rfl rfl dL_call_428 ⟨Nat.le_of_ble_eq_true rfl, Nat.le_of_ble_eq_true rfl⟩ hF
                        rw [if_neg hE0] at hF
                        by_cases hE1 : E = "java/lang/IllegalArgumentException"
                        · rw [if_pos hE1] at hF
                          subst hE1
                          refine jx_h (i := 9) (len := 2) (pc2 := 431) (ls' := [(8, .int (((l5 - l5 / ((1000 : Int64)) * ((1000 : Int64))).toInt32) - ((500 : Int32)))), (7, .int (((l5 / ((1000 : Int64))) - (l5 / ((1000 : Int64))) / ((1000 : Int64)) * ((1000 : Int64))).toInt32)), (0, .ref a0), (1, .int x1), (2, .int x2), (3, .int x3), (4, .int x4), (5, .long l5)]) [⟨26, 423, 424, 101⟩] [⟨26, 423, 434, 105⟩] ⟨26, 423, 429, 103⟩ (.astore 9) (by decide) rfl (fun z hz => by simp only [List.mem_cons, List.not_mem_nil, or_false] at hz; subst hz; exact ⟨by decide, "java/lang/IndexOutOfBoundsException", qw_71, by decide, by decide⟩) rfl (by decide) qw_72 (by decide) dL_call_429 (Or.inr ⟨rfl, rfl⟩) (by decide) rfl rfl ?_
                          refine jj_bipush (v := (-12 : Int32)) (pc' := 433) dL_call_431 rfl rfl ?_
                          exact jj_retI (ty := .int) rfl rfl dL_call_433 ⟨Nat.le_of_ble_eq_true rfl, Nat.le_of_ble_eq_true rfl⟩ hF
                        rw [if_neg hE1] at hF
                        by_cases hE2 : E = "java/lang/IllegalStateException"
                        · rw [if_pos hE2] at hF
                          subst hE2
                          refine jx_h (i := 9) (len := 2) (pc2 := 436) (ls' := [(8, .int (((l5 - l5 / ((1000 : Int64)) * ((1000 : Int64))).toInt32) - ((500 : Int32)))), (7, .int (((l5 / ((1000 : Int64))) - (l5 / ((1000 : Int64))) / ((1000 : Int64)) * ((1000 : Int64))).toInt32)), (0, .ref a0), (1, .int x1), (2, .int x2), (3, .int x3), (4, .int x4), (5, .long l5)]) [⟨26, 423, 424, 101⟩, ⟨26, 423, 429, 103⟩] [] ⟨26, 423, 434, 105⟩ (.astore 9) (by decide) rfl (fun z hz => by
                                simp only [List.mem_cons, List.not_mem_nil, or_false] at hz
                                rcases hz with rfl | rfl
                                · exact ⟨by decide, "java/lang/IndexOutOfBoundsException", qw_71, by decide, by decide⟩
                                · exact ⟨by decide, "java/lang/IllegalArgumentException", qw_72, by decide, by decide⟩) rfl (by decide) qw_73 (by decide) dL_call_434 (Or.inr ⟨rfl, rfl⟩) (by decide) rfl rfl ?_
                          refine jj_bipush (v := (-13 : Int32)) (pc' := 438) dL_call_436 rfl rfl ?_
                          exact jj_retI (ty := .int) rfl rfl dL_call_438 ⟨Nat.le_of_ble_eq_true rfl, Nat.le_of_ble_eq_true rfl⟩ hF
                        rw [if_neg hE2] at hF
                        cases hF
                      refine jj_goto (tgt := 423) dL_call_172 rfl ?_
                      exact jj_retI (ty := .int) rfl rfl dL_call_423 ⟨Nat.le_of_ble_eq_true rfl, Nat.le_of_ble_eq_true rfl⟩ hF
                  · skip
                    refine jj_aload_n (j := 2) (i := 0) (pc' := 151) dL_call_150 rfl rfl rfl ?_
                    refine jj_iload_n (j := 4) (i := 2) (pc' := 152) dL_call_151 rfl rfl rfl ?_
                    refine jj_iload_n (j := 5) (i := 3) (pc' := 153) dL_call_152 rfl rfl rfl ?_
                    refine jj_iload (j := 6) (i := 4) (pc' := 155) dL_call_153 rfl rfl ?_
                    refine jj_tI (N := M_X3_vote) (kc' := 4) (ks' := 24) (pc' := 158) (jg_V (N := M_X3_vote) (ci := 3) (rest := []) (as := [.int x2, .int x3, .int x4]) cf_L_41 dL_call_155 ⟨rfl, rfl⟩ rfl rfl ⟨Nat.le_of_ble_eq_true rfl, Nat.le_of_ble_eq_true rfl⟩ ⟨Nat.le_of_ble_eq_true rfl, Nat.le_of_ble_eq_true rfl⟩ (Nat.le_of_ble_eq_true rfl) (fun X' hX => KX3_vote hX)) rfl rfl rfl rfl hF ?_ (fun x192 h191 hF => ?_)
                    · intro E h9 hF
                      by_cases hE0 : E = "java/lang/IndexOutOfBoundsException"
                      · rw [if_pos hE0] at hF
                        subst hE0
                        refine jx_h (i := 9) (len := 2) (pc2 := 426) (ls' := [(8, .int (((l5 - l5 / ((1000 : Int64)) * ((1000 : Int64))).toInt32) - ((500 : Int32)))), (7, .int (((l5 / ((1000 : Int64))) - (l5 / ((1000 : Int64))) / ((1000 : Int64)) * ((1000 : Int64))).toInt32)), (0, .ref a0), (1, .int x1), (2, .int x2), (3, .int x3), (4, .int x4), (5, .long l5)]) [] [⟨26, 423, 429, 103⟩, ⟨26, 423, 434, 105⟩] ⟨26, 423, 424, 101⟩ (.astore 9) (by decide) rfl (fun z hz => nomatch hz) rfl (by decide) qw_71 (by decide) dL_call_424 (Or.inr ⟨rfl, rfl⟩) (by decide) rfl rfl ?_
                        refine jj_bipush (v := (-11 : Int32)) (pc' := 428) dL_call_426 rfl rfl ?_
                        exact jj_retI (ty := .int) rfl rfl dL_call_428 ⟨Nat.le_of_ble_eq_true rfl, Nat.le_of_ble_eq_true rfl⟩ hF
                      rw [if_neg hE0] at hF
                      by_cases hE1 : E = "java/lang/IllegalArgumentException"
                      · rw [if_pos hE1] at hF
                        subst hE1
                        refine jx_h (i := 9) (len := 2) (pc2 := 431) (ls' := [(8, .int (((l5 - l5 / ((1000 : Int64)) * ((1000 : Int64))).toInt32) - ((500 : Int32)))), (7, .int (((l5 / ((1000 : Int64))) - (l5 / ((1000 : Int64))) / ((1000 : Int64)) * ((1000 : Int64))).toInt32)), (0, .ref a0), (1, .int x1), (2, .int x2), (3, .int x3), (4, .int x4), (5, .long l5)]) [⟨26, 423, 424, 101⟩] [⟨26, 423, 434, 105⟩] ⟨26, 423, 429, 103⟩ (.astore 9) (by decide) rfl (fun z hz => by simp only [List.mem_cons, List.not_mem_nil, or_false] at hz; subst hz; exact ⟨by decide, "java/lang/IndexOutOfBoundsException", qw_71, by decide, by decide⟩) rfl (by decide) qw_72 (by decide) dL_call_429 (Or.inr ⟨rfl, rfl⟩) (by decide) rfl rfl ?_
                        refine jj_bipush (v := (-12 : Int32)) (pc' := 433) dL_call_431 rfl rfl ?_
                        exact jj_retI (ty := .int) rfl rfl dL_call_433 ⟨Nat.le_of_ble_eq_true rfl, Nat.le_of_ble_eq_true rfl⟩ hF
                      rw [if_neg hE1] at hF
                      by_cases hE2 : E = "java/lang/IllegalStateException"
                      · rw [if_pos hE2] at hF
                        subst hE2
                        refine jx_h (i := 9) (len := 2) (pc2 := 436) (ls' := [(8, .int (((l5 - l5 / ((1000 : Int64)) * ((1000 : Int64))).toInt32) - ((500 : Int32)))), (7, .int (((l5 / ((1000 : Int64))) - (l5 / ((1000 : Int64))) / ((1000 : Int64)) * ((1000 : Int64))).toInt32)), (0, .ref a0), (1, .int x1), (2, .int x2), (3, .int x3), (4, .int x4), (5, .long l5)]) [⟨26, 423, 424, 101⟩, ⟨26, 423, 429, 103⟩] [] ⟨26, 423, 434, 105⟩ (.astore 9) (by decide) rfl (fun z hz => by
                              simp only [List.mem_cons, List.not_mem_nil, or_false] at hz
                              rcases hz with rfl | rfl
                              · exact ⟨by decide, "java/lang/IndexOutOfBoundsException", qw_71, by decide, by decide⟩
                              · exact ⟨by decide, "java/lang/IllegalArgumentException", qw_72, by decide, by decide⟩) rfl (by decide) qw_73 (by decide) dL_call_434 (Or.inr ⟨rfl, rfl⟩) (by decide) rfl rfl ?_
                        refine jj_bipush (v := (-13 : Int32)) (pc' := 438) dL_call_436 rfl rfl ?_
                        exact jj_retI (ty := .int) rfl rfl dL_call_438 ⟨Nat.le_of_ble_eq_true rfl, Nat.le_of_ble_eq_true rfl⟩ hF
                      rw [if_neg hE2] at hF
                      cases hF
                    refine jj_goto (tgt := 423) dL_call_158 rfl ?_
                    exact jj_retI (ty := .int) rfl rfl dL_call_423 ⟨Nat.le_of_ble_eq_true rfl, Nat.le_of_ble_eq_true rfl⟩ hF
                · skip
                  refine jj_aload_n (j := 2) (i := 0) (pc' := 136) dL_call_135 rfl rfl rfl ?_
                  refine jj_iload_n (j := 4) (i := 2) (pc' := 137) dL_call_136 rfl rfl rfl ?_
                  refine jj_iload_n (j := 5) (i := 3) (pc' := 138) dL_call_137 rfl rfl rfl ?_
                  refine jj_tI (N := M_X3_attend) (kc' := 3) (ks' := 18) (pc' := 141) (jg_V (N := M_X3_attend) (ci := 3) (rest := []) (as := [.int x2, .int x3]) cf_L_38 dL_call_138 ⟨rfl, rfl⟩ rfl rfl ⟨Nat.le_of_ble_eq_true rfl, Nat.le_of_ble_eq_true rfl⟩ ⟨Nat.le_of_ble_eq_true rfl, Nat.le_of_ble_eq_true rfl⟩ (Nat.le_of_ble_eq_true rfl) (fun X' hX => KX3_attend hX)) rfl rfl rfl rfl hF ?_ (fun x197 h196 hF => ?_)
                  · intro E h9 hF
                    by_cases hE0 : E = "java/lang/IndexOutOfBoundsException"
                    · rw [if_pos hE0] at hF
                      subst hE0
                      refine jx_h (i := 9) (len := 2) (pc2 := 426) (ls' := [(8, .int (((l5 - l5 / ((1000 : Int64)) * ((1000 : Int64))).toInt32) - ((500 : Int32)))), (7, .int (((l5 / ((1000 : Int64))) - (l5 / ((1000 : Int64))) / ((1000 : Int64)) * ((1000 : Int64))).toInt32)), (0, .ref a0), (1, .int x1), (2, .int x2), (3, .int x3), (4, .int x4), (5, .long l5)]) [] [⟨26, 423, 429, 103⟩, ⟨26, 423, 434, 105⟩] ⟨26, 423, 424, 101⟩ (.astore 9) (by decide) rfl (fun z hz => nomatch hz) rfl (by decide) qw_71 (by decide) dL_call_424 (Or.inr ⟨rfl, rfl⟩) (by decide) rfl rfl ?_
                      refine jj_bipush (v := (-11 : Int32)) (pc' := 428) dL_call_426 rfl rfl ?_
                      exact jj_retI (ty := .int) rfl rfl dL_call_428 ⟨Nat.le_of_ble_eq_true rfl, Nat.le_of_ble_eq_true rfl⟩ hF
                    rw [if_neg hE0] at hF
                    by_cases hE1 : E = "java/lang/IllegalArgumentException"
                    · rw [if_pos hE1] at hF
                      subst hE1
                      refine jx_h (i := 9) (len := 2) (pc2 := 431) (ls' := [(8, .int (((l5 - l5 / ((1000 : Int64)) * ((1000 : Int64))).toInt32) - ((500 : Int32)))), (7, .int (((l5 / ((1000 : Int64))) - (l5 / ((1000 : Int64))) / ((1000 : Int64)) * ((1000 : Int64))).toInt32)), (0, .ref a0), (1, .int x1), (2, .int x2), (3, .int x3), (4, .int x4), (5, .long l5)]) [⟨26, 423, 424, 101⟩] [⟨26, 423, 434, 105⟩] ⟨26, 423, 429, 103⟩ (.astore 9) (by decide) rfl (fun z hz => by simp only [List.mem_cons, List.not_mem_nil, or_false] at hz; subst hz; exact ⟨by decide, "java/lang/IndexOutOfBoundsException", qw_71, by decide, by decide⟩) rfl (by decide) qw_72 (by decide) dL_call_429 (Or.inr ⟨rfl, rfl⟩) (by decide) rfl rfl ?_
                      refine jj_bipush (v := (-12 : Int32)) (pc' := 433) dL_call_431 rfl rfl ?_
                      exact jj_retI (ty := .int) rfl rfl dL_call_433 ⟨Nat.le_of_ble_eq_true rfl, Nat.le_of_ble_eq_true rfl⟩ hF
                    rw [if_neg hE1] at hF
                    by_cases hE2 : E = "java/lang/IllegalStateException"
                    · rw [if_pos hE2] at hF
                      subst hE2
                      refine jx_h (i := 9) (len := 2) (pc2 := 436) (ls' := [(8, .int (((l5 - l5 / ((1000 : Int64)) * ((1000 : Int64))).toInt32) - ((500 : Int32)))), (7, .int (((l5 / ((1000 : Int64))) - (l5 / ((1000 : Int64))) / ((1000 : Int64)) * ((1000 : Int64))).toInt32)), (0, .ref a0), (1, .int x1), (2, .int x2), (3, .int x3), (4, .int x4), (5, .long l5)]) [⟨26, 423, 424, 101⟩, ⟨26, 423, 429, 103⟩] [] ⟨26, 423, 434, 105⟩ (.astore 9) (by decide) rfl (fun z hz => by
                            simp only [List.mem_cons, List.not_mem_nil, or_false] at hz
                            rcases hz with rfl | rfl
                            · exact ⟨by decide, "java/lang/IndexOutOfBoundsException", qw_71, by decide, by decide⟩
                            · exact ⟨by decide, "java/lang/IllegalArgumentException", qw_72, by decide, by decide⟩) rfl (by decide) qw_73 (by decide) dL_call_434 (Or.inr ⟨rfl, rfl⟩) (by decide) rfl rfl ?_
                      refine jj_bipush (v := (-13 : Int32)) (pc' := 438) dL_call_436 rfl rfl ?_
                      exact jj_retI (ty := .int) rfl rfl dL_call_438 ⟨Nat.le_of_ble_eq_true rfl, Nat.le_of_ble_eq_true rfl⟩ hF
                    rw [if_neg hE2] at hF
                    cases hF
                  refine jj_goto (tgt := 423) dL_call_141 rfl ?_
                  exact jj_retI (ty := .int) rfl rfl dL_call_423 ⟨Nat.le_of_ble_eq_true rfl, Nat.le_of_ble_eq_true rfl⟩ hF
              · skip
                refine jj_aload_n (j := 2) (i := 0) (pc' := 119) dL_call_118 rfl rfl rfl ?_
                refine jj_iload_n (j := 4) (i := 2) (pc' := 120) dL_call_119 rfl rfl rfl ?_
                refine jj_iload_n (j := 5) (i := 3) (pc' := 121) dL_call_120 rfl rfl rfl ?_
                refine jj_iload (j := 6) (i := 4) (pc' := 123) dL_call_121 rfl rfl ?_
                refine jj_tI (N := M_X3_guest) (kc' := 4) (ks' := 24) (pc' := 126) (jg_V (N := M_X3_guest) (ci := 3) (rest := []) (as := [.int x2, .int x3, .int x4]) cf_L_34 dL_call_123 ⟨rfl, rfl⟩ rfl rfl ⟨Nat.le_of_ble_eq_true rfl, Nat.le_of_ble_eq_true rfl⟩ ⟨Nat.le_of_ble_eq_true rfl, Nat.le_of_ble_eq_true rfl⟩ (Nat.le_of_ble_eq_true rfl) (fun X' hX => KX3_guest hX)) rfl rfl rfl rfl hF ?_ (fun x202 h201 hF => ?_)
                · intro E h9 hF
                  by_cases hE0 : E = "java/lang/IndexOutOfBoundsException"
                  · rw [if_pos hE0] at hF
                    subst hE0
                    refine jx_h (i := 9) (len := 2) (pc2 := 426) (ls' := [(8, .int (((l5 - l5 / ((1000 : Int64)) * ((1000 : Int64))).toInt32) - ((500 : Int32)))), (7, .int (((l5 / ((1000 : Int64))) - (l5 / ((1000 : Int64))) / ((1000 : Int64)) * ((1000 : Int64))).toInt32)), (0, .ref a0), (1, .int x1), (2, .int x2), (3, .int x3), (4, .int x4), (5, .long l5)]) [] [⟨26, 423, 429, 103⟩, ⟨26, 423, 434, 105⟩] ⟨26, 423, 424, 101⟩ (.astore 9) (by decide) rfl (fun z hz => nomatch hz) rfl (by decide) qw_71 (by decide) dL_call_424 (Or.inr ⟨rfl, rfl⟩) (by decide) rfl rfl ?_
                    refine jj_bipush (v := (-11 : Int32)) (pc' := 428) dL_call_426 rfl rfl ?_
                    exact jj_retI (ty := .int) rfl rfl dL_call_428 ⟨Nat.le_of_ble_eq_true rfl, Nat.le_of_ble_eq_true rfl⟩ hF
                  rw [if_neg hE0] at hF
                  by_cases hE1 : E = "java/lang/IllegalArgumentException"
                  · rw [if_pos hE1] at hF
                    subst hE1
                    refine jx_h (i := 9) (len := 2) (pc2 := 431) (ls' := [(8, .int (((l5 - l5 / ((1000 : Int64)) * ((1000 : Int64))).toInt32) - ((500 : Int32)))), (7, .int (((l5 / ((1000 : Int64))) - (l5 / ((1000 : Int64))) / ((1000 : Int64)) * ((1000 : Int64))).toInt32)), (0, .ref a0), (1, .int x1), (2, .int x2), (3, .int x3), (4, .int x4), (5, .long l5)]) [⟨26, 423, 424, 101⟩] [⟨26, 423, 434, 105⟩] ⟨26, 423, 429, 103⟩ (.astore 9) (by decide) rfl (fun z hz => by simp only [List.mem_cons, List.not_mem_nil, or_false] at hz; subst hz; exact ⟨by decide, "java/lang/IndexOutOfBoundsException", qw_71, by decide, by decide⟩) rfl (by decide) qw_72 (by decide) dL_call_429 (Or.inr ⟨rfl, rfl⟩) (by decide) rfl rfl ?_
                    refine jj_bipush (v := (-12 : Int32)) (pc' := 433) dL_call_431 rfl rfl ?_
                    exact jj_retI (ty := .int) rfl rfl dL_call_433 ⟨Nat.le_of_ble_eq_true rfl, Nat.le_of_ble_eq_true rfl⟩ hF
                  rw [if_neg hE1] at hF
                  by_cases hE2 : E = "java/lang/IllegalStateException"
                  · rw [if_pos hE2] at hF
                    subst hE2
                    refine jx_h (i := 9) (len := 2) (pc2 := 436) (ls' := [(8, .int (((l5 - l5 / ((1000 : Int64)) * ((1000 : Int64))).toInt32) - ((500 : Int32)))), (7, .int (((l5 / ((1000 : Int64))) - (l5 / ((1000 : Int64))) / ((1000 : Int64)) * ((1000 : Int64))).toInt32)), (0, .ref a0), (1, .int x1), (2, .int x2), (3, .int x3), (4, .int x4), (5, .long l5)]) [⟨26, 423, 424, 101⟩, ⟨26, 423, 429, 103⟩] [] ⟨26, 423, 434, 105⟩ (.astore 9) (by decide) rfl (fun z hz => by
                          simp only [List.mem_cons, List.not_mem_nil, or_false] at hz
                          rcases hz with rfl | rfl
                          · exact ⟨by decide, "java/lang/IndexOutOfBoundsException", qw_71, by decide, by decide⟩
                          · exact ⟨by decide, "java/lang/IllegalArgumentException", qw_72, by decide, by decide⟩) rfl (by decide) qw_73 (by decide) dL_call_434 (Or.inr ⟨rfl, rfl⟩) (by decide) rfl rfl ?_
                    refine jj_bipush (v := (-13 : Int32)) (pc' := 438) dL_call_436 rfl rfl ?_
                    exact jj_retI (ty := .int) rfl rfl dL_call_438 ⟨Nat.le_of_ble_eq_true rfl, Nat.le_of_ble_eq_true rfl⟩ hF
                  rw [if_neg hE2] at hF
                  cases hF
                refine jj_goto (tgt := 423) dL_call_126 rfl ?_
                exact jj_retI (ty := .int) rfl rfl dL_call_423 ⟨Nat.le_of_ble_eq_true rfl, Nat.le_of_ble_eq_true rfl⟩ hF
            · skip
              refine jj_aload_n (j := 2) (i := 0) (pc' := 104) dL_call_103 rfl rfl rfl ?_
              refine jj_iload_n (j := 4) (i := 2) (pc' := 105) dL_call_104 rfl rfl rfl ?_
              refine jj_iload_n (j := 5) (i := 3) (pc' := 106) dL_call_105 rfl rfl rfl ?_
              refine jj_tI (N := M_X3_move) (kc' := 3) (ks' := 18) (pc' := 109) (jg_V (N := M_X3_move) (ci := 3) (rest := []) (as := [.int x2, .int x3]) cf_L_31 dL_call_106 ⟨rfl, rfl⟩ rfl rfl ⟨Nat.le_of_ble_eq_true rfl, Nat.le_of_ble_eq_true rfl⟩ ⟨Nat.le_of_ble_eq_true rfl, Nat.le_of_ble_eq_true rfl⟩ (Nat.le_of_ble_eq_true rfl) (fun X' hX => KX3_move hX)) rfl rfl rfl rfl hF ?_ (fun x207 h206 hF => ?_)
              · intro E h9 hF
                by_cases hE0 : E = "java/lang/IndexOutOfBoundsException"
                · rw [if_pos hE0] at hF
                  subst hE0
                  refine jx_h (i := 9) (len := 2) (pc2 := 426) (ls' := [(8, .int (((l5 - l5 / ((1000 : Int64)) * ((1000 : Int64))).toInt32) - ((500 : Int32)))), (7, .int (((l5 / ((1000 : Int64))) - (l5 / ((1000 : Int64))) / ((1000 : Int64)) * ((1000 : Int64))).toInt32)), (0, .ref a0), (1, .int x1), (2, .int x2), (3, .int x3), (4, .int x4), (5, .long l5)]) [] [⟨26, 423, 429, 103⟩, ⟨26, 423, 434, 105⟩] ⟨26, 423, 424, 101⟩ (.astore 9) (by decide) rfl (fun z hz => nomatch hz) rfl (by decide) qw_71 (by decide) dL_call_424 (Or.inr ⟨rfl, rfl⟩) (by decide) rfl rfl ?_
                  refine jj_bipush (v := (-11 : Int32)) (pc' := 428) dL_call_426 rfl rfl ?_
                  exact jj_retI (ty := .int) rfl rfl dL_call_428 ⟨Nat.le_of_ble_eq_true rfl, Nat.le_of_ble_eq_true rfl⟩ hF
                rw [if_neg hE0] at hF
                by_cases hE1 : E = "java/lang/IllegalArgumentException"
                · rw [if_pos hE1] at hF
                  subst hE1
                  refine jx_h (i := 9) (len := 2) (pc2 := 431) (ls' := [(8, .int (((l5 - l5 / ((1000 : Int64)) * ((1000 : Int64))).toInt32) - ((500 : Int32)))), (7, .int (((l5 / ((1000 : Int64))) - (l5 / ((1000 : Int64))) / ((1000 : Int64)) * ((1000 : Int64))).toInt32)), (0, .ref a0), (1, .int x1), (2, .int x2), (3, .int x3), (4, .int x4), (5, .long l5)]) [⟨26, 423, 424, 101⟩] [⟨26, 423, 434, 105⟩] ⟨26, 423, 429, 103⟩ (.astore 9) (by decide) rfl (fun z hz => by simp only [List.mem_cons, List.not_mem_nil, or_false] at hz; subst hz; exact ⟨by decide, "java/lang/IndexOutOfBoundsException", qw_71, by decide, by decide⟩) rfl (by decide) qw_72 (by decide) dL_call_429 (Or.inr ⟨rfl, rfl⟩) (by decide) rfl rfl ?_
                  refine jj_bipush (v := (-12 : Int32)) (pc' := 433) dL_call_431 rfl rfl ?_
                  exact jj_retI (ty := .int) rfl rfl dL_call_433 ⟨Nat.le_of_ble_eq_true rfl, Nat.le_of_ble_eq_true rfl⟩ hF
                rw [if_neg hE1] at hF
                by_cases hE2 : E = "java/lang/IllegalStateException"
                · rw [if_pos hE2] at hF
                  subst hE2
                  refine jx_h (i := 9) (len := 2) (pc2 := 436) (ls' := [(8, .int (((l5 - l5 / ((1000 : Int64)) * ((1000 : Int64))).toInt32) - ((500 : Int32)))), (7, .int (((l5 / ((1000 : Int64))) - (l5 / ((1000 : Int64))) / ((1000 : Int64)) * ((1000 : Int64))).toInt32)), (0, .ref a0), (1, .int x1), (2, .int x2), (3, .int x3), (4, .int x4), (5, .long l5)]) [⟨26, 423, 424, 101⟩, ⟨26, 423, 429, 103⟩] [] ⟨26, 423, 434, 105⟩ (.astore 9) (by decide) rfl (fun z hz => by
                        simp only [List.mem_cons, List.not_mem_nil, or_false] at hz
                        rcases hz with rfl | rfl
                        · exact ⟨by decide, "java/lang/IndexOutOfBoundsException", qw_71, by decide, by decide⟩
                        · exact ⟨by decide, "java/lang/IllegalArgumentException", qw_72, by decide, by decide⟩) rfl (by decide) qw_73 (by decide) dL_call_434 (Or.inr ⟨rfl, rfl⟩) (by decide) rfl rfl ?_
                  refine jj_bipush (v := (-13 : Int32)) (pc' := 438) dL_call_436 rfl rfl ?_
                  exact jj_retI (ty := .int) rfl rfl dL_call_438 ⟨Nat.le_of_ble_eq_true rfl, Nat.le_of_ble_eq_true rfl⟩ hF
                rw [if_neg hE2] at hF
                cases hF
              refine jj_goto (tgt := 423) dL_call_109 rfl ?_
              exact jj_retI (ty := .int) rfl rfl dL_call_423 ⟨Nat.le_of_ble_eq_true rfl, Nat.le_of_ble_eq_true rfl⟩ hF
          · skip
            refine jj_aload_n (j := 2) (i := 0) (pc' := 91) dL_call_90 rfl rfl rfl ?_
            refine jj_iload_n (j := 4) (i := 2) (pc' := 92) dL_call_91 rfl rfl rfl ?_
            refine jj_tI (N := M_X3_callOff) (kc' := 1) (ks' := 6) (pc' := 95) (jg_V (N := M_X3_callOff) (ci := 3) (rest := []) (as := [.int x2]) cf_L_27 dL_call_92 ⟨rfl, rfl⟩ rfl rfl ⟨Nat.le_of_ble_eq_true rfl, Nat.le_of_ble_eq_true rfl⟩ ⟨Nat.le_of_ble_eq_true rfl, Nat.le_of_ble_eq_true rfl⟩ (Nat.le_of_ble_eq_true rfl) (fun X' hX => KX3_callOff hX)) rfl rfl rfl rfl hF ?_ (fun x212 h211 hF => ?_)
            · intro E h9 hF
              by_cases hE0 : E = "java/lang/IndexOutOfBoundsException"
              · rw [if_pos hE0] at hF
                subst hE0
                refine jx_h (i := 9) (len := 2) (pc2 := 426) (ls' := [(8, .int (((l5 - l5 / ((1000 : Int64)) * ((1000 : Int64))).toInt32) - ((500 : Int32)))), (7, .int (((l5 / ((1000 : Int64))) - (l5 / ((1000 : Int64))) / ((1000 : Int64)) * ((1000 : Int64))).toInt32)), (0, .ref a0), (1, .int x1), (2, .int x2), (3, .int x3), (4, .int x4), (5, .long l5)]) [] [⟨26, 423, 429, 103⟩, ⟨26, 423, 434, 105⟩] ⟨26, 423, 424, 101⟩ (.astore 9) (by decide) rfl (fun z hz => nomatch hz) rfl (by decide) qw_71 (by decide) dL_call_424 (Or.inr ⟨rfl, rfl⟩) (by decide) rfl rfl ?_
                refine jj_bipush (v := (-11 : Int32)) (pc' := 428) dL_call_426 rfl rfl ?_
                exact jj_retI (ty := .int) rfl rfl dL_call_428 ⟨Nat.le_of_ble_eq_true rfl, Nat.le_of_ble_eq_true rfl⟩ hF
              rw [if_neg hE0] at hF
              by_cases hE1 : E = "java/lang/IllegalArgumentException"
              · rw [if_pos hE1] at hF
                subst hE1
                refine jx_h (i := 9) (len := 2) (pc2 := 431) (ls' := [(8, .int (((l5 - l5 / ((1000 : Int64)) * ((1000 : Int64))).toInt32) - ((500 : Int32)))), (7, .int (((l5 / ((1000 : Int64))) - (l5 / ((1000 : Int64))) / ((1000 : Int64)) * ((1000 : Int64))).toInt32)), (0, .ref a0), (1, .int x1), (2, .int x2), (3, .int x3), (4, .int x4), (5, .long l5)]) [⟨26, 423, 424, 101⟩] [⟨26, 423, 434, 105⟩] ⟨26, 423, 429, 103⟩ (.astore 9) (by decide) rfl (fun z hz => by simp only [List.mem_cons, List.not_mem_nil, or_false] at hz; subst hz; exact ⟨by decide, "java/lang/IndexOutOfBoundsException", qw_71, by decide, by decide⟩) rfl (by decide) qw_72 (by decide) dL_call_429 (Or.inr ⟨rfl, rfl⟩) (by decide) rfl rfl ?_
                refine jj_bipush (v := (-12 : Int32)) (pc' := 433) dL_call_431 rfl rfl ?_
                exact jj_retI (ty := .int) rfl rfl dL_call_433 ⟨Nat.le_of_ble_eq_true rfl, Nat.le_of_ble_eq_true rfl⟩ hF
              rw [if_neg hE1] at hF
              by_cases hE2 : E = "java/lang/IllegalStateException"
              · rw [if_pos hE2] at hF
                subst hE2
                refine jx_h (i := 9) (len := 2) (pc2 := 436) (ls' := [(8, .int (((l5 - l5 / ((1000 : Int64)) * ((1000 : Int64))).toInt32) - ((500 : Int32)))), (7, .int (((l5 / ((1000 : Int64))) - (l5 / ((1000 : Int64))) / ((1000 : Int64)) * ((1000 : Int64))).toInt32)), (0, .ref a0), (1, .int x1), (2, .int x2), (3, .int x3), (4, .int x4), (5, .long l5)]) [⟨26, 423, 424, 101⟩, ⟨26, 423, 429, 103⟩] [] ⟨26, 423, 434, 105⟩ (.astore 9) (by decide) rfl (fun z hz => by
                      simp only [List.mem_cons, List.not_mem_nil, or_false] at hz
                      rcases hz with rfl | rfl
                      · exact ⟨by decide, "java/lang/IndexOutOfBoundsException", qw_71, by decide, by decide⟩
                      · exact ⟨by decide, "java/lang/IllegalArgumentException", qw_72, by decide, by decide⟩) rfl (by decide) qw_73 (by decide) dL_call_434 (Or.inr ⟨rfl, rfl⟩) (by decide) rfl rfl ?_
                refine jj_bipush (v := (-13 : Int32)) (pc' := 438) dL_call_436 rfl rfl ?_
                exact jj_retI (ty := .int) rfl rfl dL_call_438 ⟨Nat.le_of_ble_eq_true rfl, Nat.le_of_ble_eq_true rfl⟩ hF
              rw [if_neg hE2] at hF
              cases hF
            refine jj_goto (tgt := 423) dL_call_95 rfl ?_
            exact jj_retI (ty := .int) rfl rfl dL_call_423 ⟨Nat.le_of_ble_eq_true rfl, Nat.le_of_ble_eq_true rfl⟩ hF
        · skip
          refine jj_aload_n (j := 2) (i := 0) (pc' := 73) dL_call_72 rfl rfl rfl ?_
          refine jj_iload_n (j := 4) (i := 2) (pc' := 74) dL_call_73 rfl rfl rfl ?_
          refine jj_iload_n (j := 5) (i := 3) (pc' := 75) dL_call_74 rfl rfl rfl ?_
          refine jj_iload (j := 6) (i := 4) (pc' := 77) dL_call_75 rfl rfl ?_
          refine jj_iload (j := 0) (i := 8) (pc' := 79) dL_call_77 rfl rfl ?_
          refine jj_tI (N := M_X3_show) (kc' := 5) (ks' := 30) (pc' := 82) (jg_V (N := M_X3_show) (ci := 3) (rest := []) (as := [.int x2, .int x3, .int x4, .int (((l5 - l5 / ((1000 : Int64)) * ((1000 : Int64))).toInt32) - ((500 : Int32)))]) cf_L_23 dL_call_79 ⟨rfl, rfl⟩ rfl rfl ⟨Nat.le_of_ble_eq_true rfl, Nat.le_of_ble_eq_true rfl⟩ ⟨Nat.le_of_ble_eq_true rfl, Nat.le_of_ble_eq_true rfl⟩ (Nat.le_of_ble_eq_true rfl) (fun X' hX => KX3_show hX)) rfl rfl rfl rfl hF ?_ (fun x217 h216 hF => ?_)
          · intro E h9 hF
            by_cases hE0 : E = "java/lang/IndexOutOfBoundsException"
            · rw [if_pos hE0] at hF
              subst hE0
              refine jx_h (i := 9) (len := 2) (pc2 := 426) (ls' := [(8, .int (((l5 - l5 / ((1000 : Int64)) * ((1000 : Int64))).toInt32) - ((500 : Int32)))), (7, .int (((l5 / ((1000 : Int64))) - (l5 / ((1000 : Int64))) / ((1000 : Int64)) * ((1000 : Int64))).toInt32)), (0, .ref a0), (1, .int x1), (2, .int x2), (3, .int x3), (4, .int x4), (5, .long l5)]) [] [⟨26, 423, 429, 103⟩, ⟨26, 423, 434, 105⟩] ⟨26, 423, 424, 101⟩ (.astore 9) (by decide) rfl (fun z hz => nomatch hz) rfl (by decide) qw_71 (by decide) dL_call_424 (Or.inr ⟨rfl, rfl⟩) (by decide) rfl rfl ?_
              refine jj_bipush (v := (-11 : Int32)) (pc' := 428) dL_call_426 rfl rfl ?_
              exact jj_retI (ty := .int) rfl rfl dL_call_428 ⟨Nat.le_of_ble_eq_true rfl, Nat.le_of_ble_eq_true rfl⟩ hF
            rw [if_neg hE0] at hF
            by_cases hE1 : E = "java/lang/IllegalArgumentException"
            · rw [if_pos hE1] at hF
              subst hE1
              refine jx_h (i := 9) (len := 2) (pc2 := 431) (ls' := [(8, .int (((l5 - l5 / ((1000 : Int64)) * ((1000 : Int64))).toInt32) - ((500 : Int32)))), (7, .int (((l5 / ((1000 : Int64))) - (l5 / ((1000 : Int64))) / ((1000 : Int64)) * ((1000 : Int64))).toInt32)), (0, .ref a0), (1, .int x1), (2, .int x2), (3, .int x3), (4, .int x4), (5, .long l5)]) [⟨26, 423, 424, 101⟩] [⟨26, 423, 434, 105⟩] ⟨26, 423, 429, 103⟩ (.astore 9) (by decide) rfl (fun z hz => by simp only [List.mem_cons, List.not_mem_nil, or_false] at hz; subst hz; exact ⟨by decide, "java/lang/IndexOutOfBoundsException", qw_71, by decide, by decide⟩) rfl (by decide) qw_72 (by decide) dL_call_429 (Or.inr ⟨rfl, rfl⟩) (by decide) rfl rfl ?_
              refine jj_bipush (v := (-12 : Int32)) (pc' := 433) dL_call_431 rfl rfl ?_
              exact jj_retI (ty := .int) rfl rfl dL_call_433 ⟨Nat.le_of_ble_eq_true rfl, Nat.le_of_ble_eq_true rfl⟩ hF
            rw [if_neg hE1] at hF
            by_cases hE2 : E = "java/lang/IllegalStateException"
            · rw [if_pos hE2] at hF
              subst hE2
              refine jx_h (i := 9) (len := 2) (pc2 := 436) (ls' := [(8, .int (((l5 - l5 / ((1000 : Int64)) * ((1000 : Int64))).toInt32) - ((500 : Int32)))), (7, .int (((l5 / ((1000 : Int64))) - (l5 / ((1000 : Int64))) / ((1000 : Int64)) * ((1000 : Int64))).toInt32)), (0, .ref a0), (1, .int x1), (2, .int x2), (3, .int x3), (4, .int x4), (5, .long l5)]) [⟨26, 423, 424, 101⟩, ⟨26, 423, 429, 103⟩] [] ⟨26, 423, 434, 105⟩ (.astore 9) (by decide) rfl (fun z hz => by
                    simp only [List.mem_cons, List.not_mem_nil, or_false] at hz
                    rcases hz with rfl | rfl
                    · exact ⟨by decide, "java/lang/IndexOutOfBoundsException", qw_71, by decide, by decide⟩
                    · exact ⟨by decide, "java/lang/IllegalArgumentException", qw_72, by decide, by decide⟩) rfl (by decide) qw_73 (by decide) dL_call_434 (Or.inr ⟨rfl, rfl⟩) (by decide) rfl rfl ?_
              refine jj_bipush (v := (-13 : Int32)) (pc' := 438) dL_call_436 rfl rfl ?_
              exact jj_retI (ty := .int) rfl rfl dL_call_438 ⟨Nat.le_of_ble_eq_true rfl, Nat.le_of_ble_eq_true rfl⟩ hF
            rw [if_neg hE2] at hF
            cases hF
          refine jj_goto (tgt := 423) dL_call_82 rfl ?_
          exact jj_retI (ty := .int) rfl rfl dL_call_423 ⟨Nat.le_of_ble_eq_true rfl, Nat.le_of_ble_eq_true rfl⟩ hF
      · skip
        refine jj_aload_n (j := 2) (i := 0) (pc' := 59) dL_call_58 rfl rfl rfl ?_
        refine jj_iload_n (j := 4) (i := 2) (pc' := 60) dL_call_59 rfl rfl rfl ?_
        refine jj_iload_n (j := 5) (i := 3) (pc' := 61) dL_call_60 rfl rfl rfl ?_
        refine jj_tI (N := M_X3_set) (kc' := 2) (ks' := 12) (pc' := 64) (jg_V (N := M_X3_set) (ci := 3) (rest := []) (as := [.int x2, .int x3]) cf_L_20 dL_call_61 ⟨rfl, rfl⟩ rfl rfl ⟨Nat.le_of_ble_eq_true rfl, Nat.le_of_ble_eq_true rfl⟩ ⟨Nat.le_of_ble_eq_true rfl, Nat.le_of_ble_eq_true rfl⟩ (Nat.le_of_ble_eq_true rfl) (fun X' hX => KX3_set hX)) rfl rfl rfl rfl hF ?_ (fun x222 h221 hF => ?_)
        · intro E h9 hF
          by_cases hE0 : E = "java/lang/IndexOutOfBoundsException"
          · rw [if_pos hE0] at hF
            subst hE0
            refine jx_h (i := 9) (len := 2) (pc2 := 426) (ls' := [(8, .int (((l5 - l5 / ((1000 : Int64)) * ((1000 : Int64))).toInt32) - ((500 : Int32)))), (7, .int (((l5 / ((1000 : Int64))) - (l5 / ((1000 : Int64))) / ((1000 : Int64)) * ((1000 : Int64))).toInt32)), (0, .ref a0), (1, .int x1), (2, .int x2), (3, .int x3), (4, .int x4), (5, .long l5)]) [] [⟨26, 423, 429, 103⟩, ⟨26, 423, 434, 105⟩] ⟨26, 423, 424, 101⟩ (.astore 9) (by decide) rfl (fun z hz => nomatch hz) rfl (by decide) qw_71 (by decide) dL_call_424 (Or.inr ⟨rfl, rfl⟩) (by decide) rfl rfl ?_
            refine jj_bipush (v := (-11 : Int32)) (pc' := 428) dL_call_426 rfl rfl ?_
            exact jj_retI (ty := .int) rfl rfl dL_call_428 ⟨Nat.le_of_ble_eq_true rfl, Nat.le_of_ble_eq_true rfl⟩ hF
          rw [if_neg hE0] at hF
          by_cases hE1 : E = "java/lang/IllegalArgumentException"
          · rw [if_pos hE1] at hF
            subst hE1
            refine jx_h (i := 9) (len := 2) (pc2 := 431) (ls' := [(8, .int (((l5 - l5 / ((1000 : Int64)) * ((1000 : Int64))).toInt32) - ((500 : Int32)))), (7, .int (((l5 / ((1000 : Int64))) - (l5 / ((1000 : Int64))) / ((1000 : Int64)) * ((1000 : Int64))).toInt32)), (0, .ref a0), (1, .int x1), (2, .int x2), (3, .int x3), (4, .int x4), (5, .long l5)]) [⟨26, 423, 424, 101⟩] [⟨26, 423, 434, 105⟩] ⟨26, 423, 429, 103⟩ (.astore 9) (by decide) rfl (fun z hz => by simp only [List.mem_cons, List.not_mem_nil, or_false] at hz; subst hz; exact ⟨by decide, "java/lang/IndexOutOfBoundsException", qw_71, by decide, by decide⟩) rfl (by decide) qw_72 (by decide) dL_call_429 (Or.inr ⟨rfl, rfl⟩) (by decide) rfl rfl ?_
            refine jj_bipush (v := (-12 : Int32)) (pc' := 433) dL_call_431 rfl rfl ?_
            exact jj_retI (ty := .int) rfl rfl dL_call_433 ⟨Nat.le_of_ble_eq_true rfl, Nat.le_of_ble_eq_true rfl⟩ hF
          rw [if_neg hE1] at hF
          by_cases hE2 : E = "java/lang/IllegalStateException"
          · rw [if_pos hE2] at hF
            subst hE2
            refine jx_h (i := 9) (len := 2) (pc2 := 436) (ls' := [(8, .int (((l5 - l5 / ((1000 : Int64)) * ((1000 : Int64))).toInt32) - ((500 : Int32)))), (7, .int (((l5 / ((1000 : Int64))) - (l5 / ((1000 : Int64))) / ((1000 : Int64)) * ((1000 : Int64))).toInt32)), (0, .ref a0), (1, .int x1), (2, .int x2), (3, .int x3), (4, .int x4), (5, .long l5)]) [⟨26, 423, 424, 101⟩, ⟨26, 423, 429, 103⟩] [] ⟨26, 423, 434, 105⟩ (.astore 9) (by decide) rfl (fun z hz => by
                  simp only [List.mem_cons, List.not_mem_nil, or_false] at hz
                  rcases hz with rfl | rfl
                  · exact ⟨by decide, "java/lang/IndexOutOfBoundsException", qw_71, by decide, by decide⟩
                  · exact ⟨by decide, "java/lang/IllegalArgumentException", qw_72, by decide, by decide⟩) rfl (by decide) qw_73 (by decide) dL_call_434 (Or.inr ⟨rfl, rfl⟩) (by decide) rfl rfl ?_
            refine jj_bipush (v := (-13 : Int32)) (pc' := 438) dL_call_436 rfl rfl ?_
            exact jj_retI (ty := .int) rfl rfl dL_call_438 ⟨Nat.le_of_ble_eq_true rfl, Nat.le_of_ble_eq_true rfl⟩ hF
          rw [if_neg hE2] at hF
          cases hF
        refine jj_goto (tgt := 423) dL_call_64 rfl ?_
        exact jj_retI (ty := .int) rfl rfl dL_call_423 ⟨Nat.le_of_ble_eq_true rfl, Nat.le_of_ble_eq_true rfl⟩ hF
    · skip
      refine jj_aload_n (j := 2) (i := 0) (pc' := 45) dL_call_44 rfl rfl rfl ?_
      refine jj_iload_n (j := 4) (i := 2) (pc' := 46) dL_call_45 rfl rfl rfl ?_
      refine jj_iload_n (j := 5) (i := 3) (pc' := 47) dL_call_46 rfl rfl rfl ?_
      refine jj_tI (N := M_X3_seats) (kc' := 2) (ks' := 12) (pc' := 50) (jg_V (N := M_X3_seats) (ci := 3) (rest := []) (as := [.int x2, .int x3]) cf_L_17 dL_call_47 ⟨rfl, rfl⟩ rfl rfl ⟨Nat.le_of_ble_eq_true rfl, Nat.le_of_ble_eq_true rfl⟩ ⟨Nat.le_of_ble_eq_true rfl, Nat.le_of_ble_eq_true rfl⟩ (Nat.le_of_ble_eq_true rfl) (fun X' hX => KX3_seats hX)) rfl rfl rfl rfl hF ?_ (fun x227 h226 hF => ?_)
      · intro E h9 hF
        by_cases hE0 : E = "java/lang/IndexOutOfBoundsException"
        · rw [if_pos hE0] at hF
          subst hE0
          refine jx_h (i := 9) (len := 2) (pc2 := 426) (ls' := [(8, .int (((l5 - l5 / ((1000 : Int64)) * ((1000 : Int64))).toInt32) - ((500 : Int32)))), (7, .int (((l5 / ((1000 : Int64))) - (l5 / ((1000 : Int64))) / ((1000 : Int64)) * ((1000 : Int64))).toInt32)), (0, .ref a0), (1, .int x1), (2, .int x2), (3, .int x3), (4, .int x4), (5, .long l5)]) [] [⟨26, 423, 429, 103⟩, ⟨26, 423, 434, 105⟩] ⟨26, 423, 424, 101⟩ (.astore 9) (by decide) rfl (fun z hz => nomatch hz) rfl (by decide) qw_71 (by decide) dL_call_424 (Or.inr ⟨rfl, rfl⟩) (by decide) rfl rfl ?_
          refine jj_bipush (v := (-11 : Int32)) (pc' := 428) dL_call_426 rfl rfl ?_
          exact jj_retI (ty := .int) rfl rfl dL_call_428 ⟨Nat.le_of_ble_eq_true rfl, Nat.le_of_ble_eq_true rfl⟩ hF
        rw [if_neg hE0] at hF
        by_cases hE1 : E = "java/lang/IllegalArgumentException"
        · rw [if_pos hE1] at hF
          subst hE1
          refine jx_h (i := 9) (len := 2) (pc2 := 431) (ls' := [(8, .int (((l5 - l5 / ((1000 : Int64)) * ((1000 : Int64))).toInt32) - ((500 : Int32)))), (7, .int (((l5 / ((1000 : Int64))) - (l5 / ((1000 : Int64))) / ((1000 : Int64)) * ((1000 : Int64))).toInt32)), (0, .ref a0), (1, .int x1), (2, .int x2), (3, .int x3), (4, .int x4), (5, .long l5)]) [⟨26, 423, 424, 101⟩] [⟨26, 423, 434, 105⟩] ⟨26, 423, 429, 103⟩ (.astore 9) (by decide) rfl (fun z hz => by simp only [List.mem_cons, List.not_mem_nil, or_false] at hz; subst hz; exact ⟨by decide, "java/lang/IndexOutOfBoundsException", qw_71, by decide, by decide⟩) rfl (by decide) qw_72 (by decide) dL_call_429 (Or.inr ⟨rfl, rfl⟩) (by decide) rfl rfl ?_
          refine jj_bipush (v := (-12 : Int32)) (pc' := 433) dL_call_431 rfl rfl ?_
          exact jj_retI (ty := .int) rfl rfl dL_call_433 ⟨Nat.le_of_ble_eq_true rfl, Nat.le_of_ble_eq_true rfl⟩ hF
        rw [if_neg hE1] at hF
        by_cases hE2 : E = "java/lang/IllegalStateException"
        · rw [if_pos hE2] at hF
          subst hE2
          refine jx_h (i := 9) (len := 2) (pc2 := 436) (ls' := [(8, .int (((l5 - l5 / ((1000 : Int64)) * ((1000 : Int64))).toInt32) - ((500 : Int32)))), (7, .int (((l5 / ((1000 : Int64))) - (l5 / ((1000 : Int64))) / ((1000 : Int64)) * ((1000 : Int64))).toInt32)), (0, .ref a0), (1, .int x1), (2, .int x2), (3, .int x3), (4, .int x4), (5, .long l5)]) [⟨26, 423, 424, 101⟩, ⟨26, 423, 429, 103⟩] [] ⟨26, 423, 434, 105⟩ (.astore 9) (by decide) rfl (fun z hz => by
                simp only [List.mem_cons, List.not_mem_nil, or_false] at hz
                rcases hz with rfl | rfl
                · exact ⟨by decide, "java/lang/IndexOutOfBoundsException", qw_71, by decide, by decide⟩
                · exact ⟨by decide, "java/lang/IllegalArgumentException", qw_72, by decide, by decide⟩) rfl (by decide) qw_73 (by decide) dL_call_434 (Or.inr ⟨rfl, rfl⟩) (by decide) rfl rfl ?_
          refine jj_bipush (v := (-13 : Int32)) (pc' := 438) dL_call_436 rfl rfl ?_
          exact jj_retI (ty := .int) rfl rfl dL_call_438 ⟨Nat.le_of_ble_eq_true rfl, Nat.le_of_ble_eq_true rfl⟩ hF
        rw [if_neg hE2] at hF
        cases hF
      refine jj_goto (tgt := 423) dL_call_50 rfl ?_
      exact jj_retI (ty := .int) rfl rfl dL_call_423 ⟨Nat.le_of_ble_eq_true rfl, Nat.le_of_ble_eq_true rfl⟩ hF
  · skip
    refine jj_aload_n (j := 2) (i := 0) (pc' := 31) dL_call_30 rfl rfl rfl ?_
    refine jj_iload_n (j := 4) (i := 2) (pc' := 32) dL_call_31 rfl rfl rfl ?_
    refine jj_iload_n (j := 5) (i := 3) (pc' := 33) dL_call_32 rfl rfl rfl ?_
    refine jj_tI (N := M_X3_film) (kc' := 2) (ks' := 12) (pc' := 36) (jg_V (N := M_X3_film) (ci := 3) (rest := []) (as := [.int x2, .int x3]) cf_L_11 dL_call_33 ⟨rfl, rfl⟩ rfl rfl ⟨Nat.le_of_ble_eq_true rfl, Nat.le_of_ble_eq_true rfl⟩ ⟨Nat.le_of_ble_eq_true rfl, Nat.le_of_ble_eq_true rfl⟩ (Nat.le_of_ble_eq_true rfl) (fun X' hX => KX3_film hX)) rfl rfl rfl rfl hF ?_ (fun x232 h231 hF => ?_)
    · intro E h9 hF
      by_cases hE0 : E = "java/lang/IndexOutOfBoundsException"
      · rw [if_pos hE0] at hF
        subst hE0
        refine jx_h (i := 9) (len := 2) (pc2 := 426) (ls' := [(8, .int (((l5 - l5 / ((1000 : Int64)) * ((1000 : Int64))).toInt32) - ((500 : Int32)))), (7, .int (((l5 / ((1000 : Int64))) - (l5 / ((1000 : Int64))) / ((1000 : Int64)) * ((1000 : Int64))).toInt32)), (0, .ref a0), (1, .int x1), (2, .int x2), (3, .int x3), (4, .int x4), (5, .long l5)]) [] [⟨26, 423, 429, 103⟩, ⟨26, 423, 434, 105⟩] ⟨26, 423, 424, 101⟩ (.astore 9) (by decide) rfl (fun z hz => nomatch hz) rfl (by decide) qw_71 (by decide) dL_call_424 (Or.inr ⟨rfl, rfl⟩) (by decide) rfl rfl ?_
        refine jj_bipush (v := (-11 : Int32)) (pc' := 428) dL_call_426 rfl rfl ?_
        exact jj_retI (ty := .int) rfl rfl dL_call_428 ⟨Nat.le_of_ble_eq_true rfl, Nat.le_of_ble_eq_true rfl⟩ hF
      rw [if_neg hE0] at hF
      by_cases hE1 : E = "java/lang/IllegalArgumentException"
      · rw [if_pos hE1] at hF
        subst hE1
        refine jx_h (i := 9) (len := 2) (pc2 := 431) (ls' := [(8, .int (((l5 - l5 / ((1000 : Int64)) * ((1000 : Int64))).toInt32) - ((500 : Int32)))), (7, .int (((l5 / ((1000 : Int64))) - (l5 / ((1000 : Int64))) / ((1000 : Int64)) * ((1000 : Int64))).toInt32)), (0, .ref a0), (1, .int x1), (2, .int x2), (3, .int x3), (4, .int x4), (5, .long l5)]) [⟨26, 423, 424, 101⟩] [⟨26, 423, 434, 105⟩] ⟨26, 423, 429, 103⟩ (.astore 9) (by decide) rfl (fun z hz => by simp only [List.mem_cons, List.not_mem_nil, or_false] at hz; subst hz; exact ⟨by decide, "java/lang/IndexOutOfBoundsException", qw_71, by decide, by decide⟩) rfl (by decide) qw_72 (by decide) dL_call_429 (Or.inr ⟨rfl, rfl⟩) (by decide) rfl rfl ?_
        refine jj_bipush (v := (-12 : Int32)) (pc' := 433) dL_call_431 rfl rfl ?_
        exact jj_retI (ty := .int) rfl rfl dL_call_433 ⟨Nat.le_of_ble_eq_true rfl, Nat.le_of_ble_eq_true rfl⟩ hF
      rw [if_neg hE1] at hF
      by_cases hE2 : E = "java/lang/IllegalStateException"
      · rw [if_pos hE2] at hF
        subst hE2
        refine jx_h (i := 9) (len := 2) (pc2 := 436) (ls' := [(8, .int (((l5 - l5 / ((1000 : Int64)) * ((1000 : Int64))).toInt32) - ((500 : Int32)))), (7, .int (((l5 / ((1000 : Int64))) - (l5 / ((1000 : Int64))) / ((1000 : Int64)) * ((1000 : Int64))).toInt32)), (0, .ref a0), (1, .int x1), (2, .int x2), (3, .int x3), (4, .int x4), (5, .long l5)]) [⟨26, 423, 424, 101⟩, ⟨26, 423, 429, 103⟩] [] ⟨26, 423, 434, 105⟩ (.astore 9) (by decide) rfl (fun z hz => by
              simp only [List.mem_cons, List.not_mem_nil, or_false] at hz
              rcases hz with rfl | rfl
              · exact ⟨by decide, "java/lang/IndexOutOfBoundsException", qw_71, by decide, by decide⟩
              · exact ⟨by decide, "java/lang/IllegalArgumentException", qw_72, by decide, by decide⟩) rfl (by decide) qw_73 (by decide) dL_call_434 (Or.inr ⟨rfl, rfl⟩) (by decide) rfl rfl ?_
        refine jj_bipush (v := (-13 : Int32)) (pc' := 438) dL_call_436 rfl rfl ?_
        exact jj_retI (ty := .int) rfl rfl dL_call_438 ⟨Nat.le_of_ble_eq_true rfl, Nat.le_of_ble_eq_true rfl⟩ hF
      rw [if_neg hE2] at hF
      cases hF
    refine jj_goto (tgt := 423) dL_call_36 rfl ?_
    exact jj_retI (ty := .int) rfl rfl dL_call_423 ⟨Nat.le_of_ble_eq_true rfl, Nat.le_of_ble_eq_true rfl⟩ hF
theorem KL_call {N : Nat} {a0 : Nat} {x1 : Int32} {x2 : Int32} {x3 : Int32} {x4 : Int32} {l5 : Int64} {h : jm_H} {X : jm_X} (hF : FL_call N a0 x1 x2 x3 x4 l5 h = some X) : jm_K M_L_call [.ref a0, .int x1, .int x2, .int x3, .int x4, .long l5] h X := jk_ofH rfl (by decide +kernel) (by decide) rfl (Nat.le_of_ble_eq_true rfl) (JL_call hF)

set_option maxRecDepth 100000 in
set_option maxHeartbeats 4000000 in
theorem BL_refusesShown_277 (N : Nat) : ∀ (n : Nat) (a0 : Nat) (x1 : Int32) (h : jm_H) (X : jm_X), FL_refusesShown_277 N n a0 x1 h = some X → jm_J M_L_refusesShown 277 [(0, .ref a0), (1, .int x1)] [] h 798 4788 X := by
  intro n
  induction n with
  | zero =>
    intro a0 x1 h X hF
    exact nomatch (show (none : Option jm_X) = some X from hF)
  | succ n ih =>
    intro a0 x1 h X hF
    rw [FL_refusesShown_277] at hF
    refine jj_aload_n (j := 0) (i := 0) (pc' := 278) dL_refusesShown_277 rfl rfl rfl ?_
    refine jj_iconst (v := (1 : Int32)) (pc' := 279) dL_refusesShown_278 rfl rfl ?_
    refine jj_cI (N := M_X3_count) (kc' := 799) (ks' := 4794) (pc' := 282) (jg_V (N := M_X3_count) (ci := 3) (rest := []) (as := [.int ((1 : Int32))]) cf_L_81 dL_refusesShown_279 ⟨rfl, rfl⟩ rfl rfl ⟨Nat.le_of_ble_eq_true rfl, Nat.le_of_ble_eq_true rfl⟩ ⟨Nat.le_of_ble_eq_true rfl, Nat.le_of_ble_eq_true rfl⟩ (Nat.le_of_ble_eq_true rfl) (fun X' hX => KX3_count hX)) rfl rfl rfl rfl ⟨Nat.le_of_ble_eq_true rfl, Nat.le_of_ble_eq_true rfl⟩ rfl hF (fun x102 h101 hF => ?_)
    refine jj_if_eq (tgt := 346) (pc' := 285) dL_refusesShown_282 rfl rfl (fun hc hF => ?_) (fun hc hF => ?_) hF
    · skip
      refine jj_iconst (v := (1 : Int32)) (pc' := 347) dL_refusesShown_346 rfl rfl ?_
      refine jj_goto (tgt := 351) dL_refusesShown_347 rfl ?_
      exact jj_retI (ty := .boolean) rfl rfl dL_refusesShown_351 ⟨Nat.le_of_ble_eq_true rfl, Nat.le_of_ble_eq_true rfl⟩ hF
    · skip
      refine jj_aload_n (j := 0) (i := 0) (pc' := 286) dL_refusesShown_285 rfl rfl rfl ?_
      refine jj_iconst (v := (5 : Int32)) (pc' := 287) dL_refusesShown_286 rfl rfl ?_
      refine jj_iconst (v := (0 : Int32)) (pc' := 288) dL_refusesShown_287 rfl rfl ?_
      refine jj_iload_n (j := 1) (i := 1) (pc' := 289) dL_refusesShown_288 rfl rfl rfl ?_
      refine jj_iconst (v := (0 : Int32)) (pc' := 290) dL_refusesShown_289 rfl rfl ?_
      refine jj_sipush (v := (1999 : Int32)) (pc' := 293) dL_refusesShown_290 rfl rfl ?_
      refine jj_cI (N := M_L_far) (kc' := 799) (ks' := 4794) (pc' := 296) (jg_S (N := M_L_far) (rest := [.int ((0 : Int32)), .int ((5 : Int32)), .ref a0]) (as := [.int x1, .int ((0 : Int32)), .int ((1999 : Int32))]) cf_L_114 rfl dL_refusesShown_293 rfl rfl ⟨Nat.le_of_ble_eq_true rfl, Nat.le_of_ble_eq_true rfl⟩ ⟨Nat.le_of_ble_eq_true rfl, Nat.le_of_ble_eq_true rfl⟩ (Nat.le_of_ble_eq_true rfl) (fun X' hX => KL_far hX)) rfl rfl rfl rfl ⟨Nat.le_of_ble_eq_true rfl, Nat.le_of_ble_eq_true rfl⟩ rfl hF (fun x104 h103 hF => ?_)
      refine jj_iconst (v := (0 : Int32)) (pc' := 297) dL_refusesShown_296 rfl rfl ?_
      refine jj_lconst (v := (0 : Int64)) (pc' := 298) dL_refusesShown_297 rfl rfl ?_
      refine jj_cI (N := M_L_call) (kc' := 860) (ks' := 5160) (pc' := 301) (jg_H (N := M_L_call) (rest := []) (as := [.ref a0, .int ((5 : Int32)), .int ((0 : Int32)), .int x104, .int ((0 : Int32)), .long ((0 : Int64))]) cf_L_119 (by decide) dL_refusesShown_298 rfl rfl ⟨Nat.le_of_ble_eq_true rfl, Nat.le_of_ble_eq_true rfl⟩ ⟨Nat.le_of_ble_eq_true rfl, Nat.le_of_ble_eq_true rfl⟩ (Nat.le_of_ble_eq_true rfl) (fun X' hX => KL_call hX)) rfl rfl rfl rfl ⟨Nat.le_of_ble_eq_true rfl, Nat.le_of_ble_eq_true rfl⟩ rfl hF (fun x106 h105 hF => ?_)
      refine jj_bipush (v := (-12 : Int32)) (pc' := 303) dL_refusesShown_301 rfl rfl ?_
      refine jj_icmp_ne (tgt := 350) (pc' := 306) dL_refusesShown_303 rfl rfl (fun hc hF => ?_) (fun hc hF => ?_) hF
      · skip
        refine jj_iconst (v := (0 : Int32)) (pc' := 351) dL_refusesShown_350 rfl rfl ?_
        exact jj_retI (ty := .boolean) rfl rfl dL_refusesShown_351 ⟨Nat.le_of_ble_eq_true rfl, Nat.le_of_ble_eq_true rfl⟩ hF
      · skip
        refine jj_aload_n (j := 0) (i := 0) (pc' := 307) dL_refusesShown_306 rfl rfl rfl ?_
        refine jj_bipush (v := (15 : Int32)) (pc' := 309) dL_refusesShown_307 rfl rfl ?_
        refine jj_iconst (v := (0 : Int32)) (pc' := 310) dL_refusesShown_309 rfl rfl ?_
        refine jj_iload_n (j := 1) (i := 1) (pc' := 311) dL_refusesShown_310 rfl rfl rfl ?_
        refine jj_iconst (v := (0 : Int32)) (pc' := 312) dL_refusesShown_311 rfl rfl ?_
        refine jj_iconst (v := (5 : Int32)) (pc' := 313) dL_refusesShown_312 rfl rfl ?_
        refine jj_cI (N := M_L_far) (kc' := 860) (ks' := 5160) (pc' := 316) (jg_S (N := M_L_far) (rest := [.int ((0 : Int32)), .int ((15 : Int32)), .ref a0]) (as := [.int x1, .int ((0 : Int32)), .int ((5 : Int32))]) cf_L_114 rfl dL_refusesShown_313 rfl rfl ⟨Nat.le_of_ble_eq_true rfl, Nat.le_of_ble_eq_true rfl⟩ ⟨Nat.le_of_ble_eq_true rfl, Nat.le_of_ble_eq_true rfl⟩ (Nat.le_of_ble_eq_true rfl) (fun X' hX => KL_far hX)) rfl rfl rfl rfl ⟨Nat.le_of_ble_eq_true rfl, Nat.le_of_ble_eq_true rfl⟩ rfl hF (fun x108 h107 hF => ?_)
        refine jj_iconst (v := (0 : Int32)) (pc' := 317) dL_refusesShown_316 rfl rfl ?_
        refine jj_lconst (v := (0 : Int64)) (pc' := 318) dL_refusesShown_317 rfl rfl ?_
        refine jj_cI (N := M_L_call) (kc' := 921) (ks' := 5526) (pc' := 321) (jg_H (N := M_L_call) (rest := []) (as := [.ref a0, .int ((15 : Int32)), .int ((0 : Int32)), .int x108, .int ((0 : Int32)), .long ((0 : Int64))]) cf_L_119 (by decide) dL_refusesShown_318 rfl rfl ⟨Nat.le_of_ble_eq_true rfl, Nat.le_of_ble_eq_true rfl⟩ ⟨Nat.le_of_ble_eq_true rfl, Nat.le_of_ble_eq_true rfl⟩ (Nat.le_of_ble_eq_true rfl) (fun X' hX => KL_call hX)) rfl rfl rfl rfl ⟨Nat.le_of_ble_eq_true rfl, Nat.le_of_ble_eq_true rfl⟩ rfl hF (fun x110 h109 hF => ?_)
        refine jj_bipush (v := (-12 : Int32)) (pc' := 323) dL_refusesShown_321 rfl rfl ?_
        refine jj_icmp_ne (tgt := 350) (pc' := 326) dL_refusesShown_323 rfl rfl (fun hc hF => ?_) (fun hc hF => ?_) hF
        · skip
          refine jj_iconst (v := (0 : Int32)) (pc' := 351) dL_refusesShown_350 rfl rfl ?_
          exact jj_retI (ty := .boolean) rfl rfl dL_refusesShown_351 ⟨Nat.le_of_ble_eq_true rfl, Nat.le_of_ble_eq_true rfl⟩ hF
        · skip
          refine jj_aload_n (j := 0) (i := 0) (pc' := 327) dL_refusesShown_326 rfl rfl rfl ?_
          refine jj_bipush (v := (16 : Int32)) (pc' := 329) dL_refusesShown_327 rfl rfl ?_
          refine jj_iconst (v := (0 : Int32)) (pc' := 330) dL_refusesShown_329 rfl rfl ?_
          refine jj_iload_n (j := 1) (i := 1) (pc' := 331) dL_refusesShown_330 rfl rfl rfl ?_
          refine jj_iconst (v := (0 : Int32)) (pc' := 332) dL_refusesShown_331 rfl rfl ?_
          refine jj_iconst (v := (5 : Int32)) (pc' := 333) dL_refusesShown_332 rfl rfl ?_
          refine jj_cI (N := M_L_far) (kc' := 921) (ks' := 5526) (pc' := 336) (jg_S (N := M_L_far) (rest := [.int ((0 : Int32)), .int ((16 : Int32)), .ref a0]) (as := [.int x1, .int ((0 : Int32)), .int ((5 : Int32))]) cf_L_114 rfl dL_refusesShown_333 rfl rfl ⟨Nat.le_of_ble_eq_true rfl, Nat.le_of_ble_eq_true rfl⟩ ⟨Nat.le_of_ble_eq_true rfl, Nat.le_of_ble_eq_true rfl⟩ (Nat.le_of_ble_eq_true rfl) (fun X' hX => KL_far hX)) rfl rfl rfl rfl ⟨Nat.le_of_ble_eq_true rfl, Nat.le_of_ble_eq_true rfl⟩ rfl hF (fun x112 h111 hF => ?_)
          refine jj_iconst (v := (0 : Int32)) (pc' := 337) dL_refusesShown_336 rfl rfl ?_
          refine jj_lconst (v := (0 : Int64)) (pc' := 338) dL_refusesShown_337 rfl rfl ?_
          refine jj_cI (N := M_L_call) (kc' := 982) (ks' := 5892) (pc' := 341) (jg_H (N := M_L_call) (rest := []) (as := [.ref a0, .int ((16 : Int32)), .int ((0 : Int32)), .int x112, .int ((0 : Int32)), .long ((0 : Int64))]) cf_L_119 (by decide) dL_refusesShown_338 rfl rfl ⟨Nat.le_of_ble_eq_true rfl, Nat.le_of_ble_eq_true rfl⟩ ⟨Nat.le_of_ble_eq_true rfl, Nat.le_of_ble_eq_true rfl⟩ (Nat.le_of_ble_eq_true rfl) (fun X' hX => KL_call hX)) rfl rfl rfl rfl ⟨Nat.le_of_ble_eq_true rfl, Nat.le_of_ble_eq_true rfl⟩ rfl hF (fun x114 h113 hF => ?_)
          refine jj_bipush (v := (-12 : Int32)) (pc' := 343) dL_refusesShown_341 rfl rfl ?_
          refine jj_icmp_ne (tgt := 350) (pc' := 346) dL_refusesShown_343 rfl rfl (fun hc hF => ?_) (fun hc hF => ?_) hF
          · skip
            refine jj_iconst (v := (0 : Int32)) (pc' := 351) dL_refusesShown_350 rfl rfl ?_
            exact jj_retI (ty := .boolean) rfl rfl dL_refusesShown_351 ⟨Nat.le_of_ble_eq_true rfl, Nat.le_of_ble_eq_true rfl⟩ hF
          · skip
            refine jj_iconst (v := (1 : Int32)) (pc' := 347) dL_refusesShown_346 rfl rfl ?_
            refine jj_goto (tgt := 351) dL_refusesShown_347 rfl ?_
            exact jj_retI (ty := .boolean) rfl rfl dL_refusesShown_351 ⟨Nat.le_of_ble_eq_true rfl, Nat.le_of_ble_eq_true rfl⟩ hF
set_option maxRecDepth 100000 in
set_option maxHeartbeats 4000000 in
theorem BL_refusesShown_218 (N : Nat) : ∀ (n : Nat) (a0 : Nat) (x1 : Int32) (h : jm_H) (X : jm_X), FL_refusesShown_218 N n a0 x1 h = some X → jm_J M_L_refusesShown 218 [(0, .ref a0), (1, .int x1)] [] h 674 4044 X := by
  intro n
  induction n with
  | zero =>
    intro a0 x1 h X hF
    exact nomatch (show (none : Option jm_X) = some X from hF)
  | succ n ih =>
    intro a0 x1 h X hF
    rw [FL_refusesShown_218] at hF
    refine jj_aload_n (j := 0) (i := 0) (pc' := 219) dL_refusesShown_218 rfl rfl rfl ?_
    refine jj_iconst (v := (0 : Int32)) (pc' := 220) dL_refusesShown_219 rfl rfl ?_
    refine jj_cI (N := M_X3_count) (kc' := 675) (ks' := 4050) (pc' := 223) (jg_V (N := M_X3_count) (ci := 3) (rest := []) (as := [.int ((0 : Int32))]) cf_L_81 dL_refusesShown_220 ⟨rfl, rfl⟩ rfl rfl ⟨Nat.le_of_ble_eq_true rfl, Nat.le_of_ble_eq_true rfl⟩ ⟨Nat.le_of_ble_eq_true rfl, Nat.le_of_ble_eq_true rfl⟩ (Nat.le_of_ble_eq_true rfl) (fun X' hX => KX3_count hX)) rfl rfl rfl rfl ⟨Nat.le_of_ble_eq_true rfl, Nat.le_of_ble_eq_true rfl⟩ rfl hF (fun x102 h101 hF => ?_)
    refine jj_if_le (tgt := 247) (pc' := 226) dL_refusesShown_223 rfl rfl (fun hc hF => ?_) (fun hc hF => ?_) hF
    · skip
      refine jj_aload_n (j := 0) (i := 0) (pc' := 248) dL_refusesShown_247 rfl rfl rfl ?_
      refine jj_iconst (v := (2 : Int32)) (pc' := 249) dL_refusesShown_248 rfl rfl ?_
      refine jj_cI (N := M_X3_count) (kc' := 676) (ks' := 4056) (pc' := 252) (jg_V (N := M_X3_count) (ci := 3) (rest := []) (as := [.int ((2 : Int32))]) cf_L_81 dL_refusesShown_249 ⟨rfl, rfl⟩ rfl rfl ⟨Nat.le_of_ble_eq_true rfl, Nat.le_of_ble_eq_true rfl⟩ ⟨Nat.le_of_ble_eq_true rfl, Nat.le_of_ble_eq_true rfl⟩ (Nat.le_of_ble_eq_true rfl) (fun X' hX => KX3_count hX)) rfl rfl rfl rfl ⟨Nat.le_of_ble_eq_true rfl, Nat.le_of_ble_eq_true rfl⟩ rfl hF (fun x104 h103 hF => ?_)
      refine jj_if_le (tgt := 277) (pc' := 255) dL_refusesShown_252 rfl rfl (fun hc hF => ?_) (fun hc hF => ?_) hF
      · skip
        refine jj_wide (kc' := 798) (ks' := 4788) (Nat.le_of_ble_eq_true rfl) (Nat.le_of_ble_eq_true rfl) ?_
        exact jj_pick [0, 1] rfl (BL_refusesShown_277 N N a0 x1 h103 _ hF)
      · skip
        refine jj_aload_n (j := 0) (i := 0) (pc' := 256) dL_refusesShown_255 rfl rfl rfl ?_
        refine jj_bipush (v := (19 : Int32)) (pc' := 258) dL_refusesShown_256 rfl rfl ?_
        refine jj_iconst (v := (0 : Int32)) (pc' := 259) dL_refusesShown_258 rfl rfl ?_
        refine jj_iload_n (j := 1) (i := 1) (pc' := 260) dL_refusesShown_259 rfl rfl rfl ?_
        refine jj_iconst (v := (0 : Int32)) (pc' := 261) dL_refusesShown_260 rfl rfl ?_
        refine jj_iconst (v := (3 : Int32)) (pc' := 262) dL_refusesShown_261 rfl rfl ?_
        refine jj_cI (N := M_L_far) (kc' := 676) (ks' := 4056) (pc' := 265) (jg_S (N := M_L_far) (rest := [.int ((0 : Int32)), .int ((19 : Int32)), .ref a0]) (as := [.int x1, .int ((0 : Int32)), .int ((3 : Int32))]) cf_L_114 rfl dL_refusesShown_262 rfl rfl ⟨Nat.le_of_ble_eq_true rfl, Nat.le_of_ble_eq_true rfl⟩ ⟨Nat.le_of_ble_eq_true rfl, Nat.le_of_ble_eq_true rfl⟩ (Nat.le_of_ble_eq_true rfl) (fun X' hX => KL_far hX)) rfl rfl rfl rfl ⟨Nat.le_of_ble_eq_true rfl, Nat.le_of_ble_eq_true rfl⟩ rfl hF (fun x106 h105 hF => ?_)
        refine jj_iconst (v := (0 : Int32)) (pc' := 266) dL_refusesShown_265 rfl rfl ?_
        refine jj_lconst (v := (0 : Int64)) (pc' := 267) dL_refusesShown_266 rfl rfl ?_
        refine jj_cI (N := M_L_call) (kc' := 737) (ks' := 4422) (pc' := 270) (jg_H (N := M_L_call) (rest := []) (as := [.ref a0, .int ((19 : Int32)), .int ((0 : Int32)), .int x106, .int ((0 : Int32)), .long ((0 : Int64))]) cf_L_119 (by decide) dL_refusesShown_267 rfl rfl ⟨Nat.le_of_ble_eq_true rfl, Nat.le_of_ble_eq_true rfl⟩ ⟨Nat.le_of_ble_eq_true rfl, Nat.le_of_ble_eq_true rfl⟩ (Nat.le_of_ble_eq_true rfl) (fun X' hX => KL_call hX)) rfl rfl rfl rfl ⟨Nat.le_of_ble_eq_true rfl, Nat.le_of_ble_eq_true rfl⟩ rfl hF (fun x108 h107 hF => ?_)
        refine jj_bipush (v := (-12 : Int32)) (pc' := 272) dL_refusesShown_270 rfl rfl ?_
        refine jj_icmp_eq (tgt := 277) (pc' := 275) dL_refusesShown_272 rfl rfl (fun hc hF => ?_) (fun hc hF => ?_) hF
        · skip
          refine jj_wide (kc' := 798) (ks' := 4788) (Nat.le_of_ble_eq_true rfl) (Nat.le_of_ble_eq_true rfl) ?_
          exact jj_pick [0, 1] rfl (BL_refusesShown_277 N N a0 x1 h107 _ hF)
        · skip
          refine jj_iconst (v := (0 : Int32)) (pc' := 276) dL_refusesShown_275 rfl rfl ?_
          exact jj_retI (ty := .boolean) rfl rfl dL_refusesShown_276 ⟨Nat.le_of_ble_eq_true rfl, Nat.le_of_ble_eq_true rfl⟩ hF
    · skip
      refine jj_aload_n (j := 0) (i := 0) (pc' := 227) dL_refusesShown_226 rfl rfl rfl ?_
      refine jj_bipush (v := (8 : Int32)) (pc' := 229) dL_refusesShown_227 rfl rfl ?_
      refine jj_iconst (v := (0 : Int32)) (pc' := 230) dL_refusesShown_229 rfl rfl ?_
      refine jj_iconst (v := (0 : Int32)) (pc' := 231) dL_refusesShown_230 rfl rfl ?_
      refine jj_iload_n (j := 1) (i := 1) (pc' := 232) dL_refusesShown_231 rfl rfl rfl ?_
      refine jj_iconst (v := (0 : Int32)) (pc' := 233) dL_refusesShown_232 rfl rfl ?_
      refine jj_bipush (v := (10 : Int32)) (pc' := 235) dL_refusesShown_233 rfl rfl ?_
      refine jj_cI (N := M_L_far) (kc' := 675) (ks' := 4050) (pc' := 238) (jg_S (N := M_L_far) (rest := [.int ((0 : Int32)), .int ((0 : Int32)), .int ((8 : Int32)), .ref a0]) (as := [.int x1, .int ((0 : Int32)), .int ((10 : Int32))]) cf_L_114 rfl dL_refusesShown_235 rfl rfl ⟨Nat.le_of_ble_eq_true rfl, Nat.le_of_ble_eq_true rfl⟩ ⟨Nat.le_of_ble_eq_true rfl, Nat.le_of_ble_eq_true rfl⟩ (Nat.le_of_ble_eq_true rfl) (fun X' hX => KL_far hX)) rfl rfl rfl rfl ⟨Nat.le_of_ble_eq_true rfl, Nat.le_of_ble_eq_true rfl⟩ rfl hF (fun x110 h109 hF => ?_)
      refine jj_lconst (v := (0 : Int64)) (pc' := 239) dL_refusesShown_238 rfl rfl ?_
      refine jj_cI (N := M_L_call) (kc' := 736) (ks' := 4416) (pc' := 242) (jg_H (N := M_L_call) (rest := []) (as := [.ref a0, .int ((8 : Int32)), .int ((0 : Int32)), .int ((0 : Int32)), .int x110, .long ((0 : Int64))]) cf_L_119 (by decide) dL_refusesShown_239 rfl rfl ⟨Nat.le_of_ble_eq_true rfl, Nat.le_of_ble_eq_true rfl⟩ ⟨Nat.le_of_ble_eq_true rfl, Nat.le_of_ble_eq_true rfl⟩ (Nat.le_of_ble_eq_true rfl) (fun X' hX => KL_call hX)) rfl rfl rfl rfl ⟨Nat.le_of_ble_eq_true rfl, Nat.le_of_ble_eq_true rfl⟩ rfl hF (fun x112 h111 hF => ?_)
      refine jj_bipush (v := (-12 : Int32)) (pc' := 244) dL_refusesShown_242 rfl rfl ?_
      refine jj_icmp_ne (tgt := 275) (pc' := 247) dL_refusesShown_244 rfl rfl (fun hc hF => ?_) (fun hc hF => ?_) hF
      · skip
        refine jj_iconst (v := (0 : Int32)) (pc' := 276) dL_refusesShown_275 rfl rfl ?_
        exact jj_retI (ty := .boolean) rfl rfl dL_refusesShown_276 ⟨Nat.le_of_ble_eq_true rfl, Nat.le_of_ble_eq_true rfl⟩ hF
      · skip
        refine jj_aload_n (j := 0) (i := 0) (pc' := 248) dL_refusesShown_247 rfl rfl rfl ?_
        refine jj_iconst (v := (2 : Int32)) (pc' := 249) dL_refusesShown_248 rfl rfl ?_
        refine jj_cI (N := M_X3_count) (kc' := 737) (ks' := 4422) (pc' := 252) (jg_V (N := M_X3_count) (ci := 3) (rest := []) (as := [.int ((2 : Int32))]) cf_L_81 dL_refusesShown_249 ⟨rfl, rfl⟩ rfl rfl ⟨Nat.le_of_ble_eq_true rfl, Nat.le_of_ble_eq_true rfl⟩ ⟨Nat.le_of_ble_eq_true rfl, Nat.le_of_ble_eq_true rfl⟩ (Nat.le_of_ble_eq_true rfl) (fun X' hX => KX3_count hX)) rfl rfl rfl rfl ⟨Nat.le_of_ble_eq_true rfl, Nat.le_of_ble_eq_true rfl⟩ rfl hF (fun x114 h113 hF => ?_)
        refine jj_if_le (tgt := 277) (pc' := 255) dL_refusesShown_252 rfl rfl (fun hc hF => ?_) (fun hc hF => ?_) hF
        · skip
          refine jj_wide (kc' := 798) (ks' := 4788) (Nat.le_of_ble_eq_true rfl) (Nat.le_of_ble_eq_true rfl) ?_
          exact jj_pick [0, 1] rfl (BL_refusesShown_277 N N a0 x1 h113 _ hF)
        · skip
          refine jj_aload_n (j := 0) (i := 0) (pc' := 256) dL_refusesShown_255 rfl rfl rfl ?_
          refine jj_bipush (v := (19 : Int32)) (pc' := 258) dL_refusesShown_256 rfl rfl ?_
          refine jj_iconst (v := (0 : Int32)) (pc' := 259) dL_refusesShown_258 rfl rfl ?_
          refine jj_iload_n (j := 1) (i := 1) (pc' := 260) dL_refusesShown_259 rfl rfl rfl ?_
          refine jj_iconst (v := (0 : Int32)) (pc' := 261) dL_refusesShown_260 rfl rfl ?_
          refine jj_iconst (v := (3 : Int32)) (pc' := 262) dL_refusesShown_261 rfl rfl ?_
          refine jj_cI (N := M_L_far) (kc' := 737) (ks' := 4422) (pc' := 265) (jg_S (N := M_L_far) (rest := [.int ((0 : Int32)), .int ((19 : Int32)), .ref a0]) (as := [.int x1, .int ((0 : Int32)), .int ((3 : Int32))]) cf_L_114 rfl dL_refusesShown_262 rfl rfl ⟨Nat.le_of_ble_eq_true rfl, Nat.le_of_ble_eq_true rfl⟩ ⟨Nat.le_of_ble_eq_true rfl, Nat.le_of_ble_eq_true rfl⟩ (Nat.le_of_ble_eq_true rfl) (fun X' hX => KL_far hX)) rfl rfl rfl rfl ⟨Nat.le_of_ble_eq_true rfl, Nat.le_of_ble_eq_true rfl⟩ rfl hF (fun x116 h115 hF => ?_)
          refine jj_iconst (v := (0 : Int32)) (pc' := 266) dL_refusesShown_265 rfl rfl ?_
          refine jj_lconst (v := (0 : Int64)) (pc' := 267) dL_refusesShown_266 rfl rfl ?_
          refine jj_cI (N := M_L_call) (kc' := 798) (ks' := 4788) (pc' := 270) (jg_H (N := M_L_call) (rest := []) (as := [.ref a0, .int ((19 : Int32)), .int ((0 : Int32)), .int x116, .int ((0 : Int32)), .long ((0 : Int64))]) cf_L_119 (by decide) dL_refusesShown_267 rfl rfl ⟨Nat.le_of_ble_eq_true rfl, Nat.le_of_ble_eq_true rfl⟩ ⟨Nat.le_of_ble_eq_true rfl, Nat.le_of_ble_eq_true rfl⟩ (Nat.le_of_ble_eq_true rfl) (fun X' hX => KL_call hX)) rfl rfl rfl rfl ⟨Nat.le_of_ble_eq_true rfl, Nat.le_of_ble_eq_true rfl⟩ rfl hF (fun x118 h117 hF => ?_)
          refine jj_bipush (v := (-12 : Int32)) (pc' := 272) dL_refusesShown_270 rfl rfl ?_
          refine jj_icmp_eq (tgt := 277) (pc' := 275) dL_refusesShown_272 rfl rfl (fun hc hF => ?_) (fun hc hF => ?_) hF
          · skip
            refine jj_wide (kc' := 798) (ks' := 4788) (Nat.le_of_ble_eq_true rfl) (Nat.le_of_ble_eq_true rfl) ?_
            exact jj_pick [0, 1] rfl (BL_refusesShown_277 N N a0 x1 h117 _ hF)
          · skip
            refine jj_iconst (v := (0 : Int32)) (pc' := 276) dL_refusesShown_275 rfl rfl ?_
            exact jj_retI (ty := .boolean) rfl rfl dL_refusesShown_276 ⟨Nat.le_of_ble_eq_true rfl, Nat.le_of_ble_eq_true rfl⟩ hF
set_option maxRecDepth 100000 in
set_option maxHeartbeats 4000000 in
theorem BL_refusesShown_121 (N : Nat) : ∀ (n : Nat) (a0 : Nat) (x1 : Int32) (x2 : Int32) (x3 : Int32) (h : jm_H) (X : jm_X), FL_refusesShown_121 N n a0 x1 x2 x3 h = some X → jm_J M_L_refusesShown 121 [(0, .ref a0), (1, .int x1), (2, .int x2), (3, .int x3)] [] h 368 2208 X := by
  intro n
  induction n with
  | zero =>
    intro a0 x1 x2 x3 h X hF
    exact nomatch (show (none : Option jm_X) = some X from hF)
  | succ n ih =>
    intro a0 x1 x2 x3 h X hF
    rw [FL_refusesShown_121] at hF
    refine jj_aload_n (j := 0) (i := 0) (pc' := 122) dL_refusesShown_121 rfl rfl rfl ?_
    refine jj_bipush (v := (15 : Int32)) (pc' := 124) dL_refusesShown_122 rfl rfl ?_
    refine jj_iload_n (j := 2) (i := 2) (pc' := 125) dL_refusesShown_124 rfl rfl rfl ?_
    refine jj_bipush (v := (9 : Int32)) (pc' := 127) dL_refusesShown_125 rfl rfl ?_
    refine jj_iconst (v := (0 : Int32)) (pc' := 128) dL_refusesShown_127 rfl rfl ?_
    refine jj_lconst (v := (0 : Int64)) (pc' := 129) dL_refusesShown_128 rfl rfl ?_
    refine jj_cI (N := M_L_call) (kc' := 429) (ks' := 2574) (pc' := 132) (jg_H (N := M_L_call) (rest := []) (as := [.ref a0, .int ((15 : Int32)), .int x2, .int ((9 : Int32)), .int ((0 : Int32)), .long ((0 : Int64))]) cf_L_119 (by decide) dL_refusesShown_129 rfl rfl ⟨Nat.le_of_ble_eq_true rfl, Nat.le_of_ble_eq_true rfl⟩ ⟨Nat.le_of_ble_eq_true rfl, Nat.le_of_ble_eq_true rfl⟩ (Nat.le_of_ble_eq_true rfl) (fun X' hX => KL_call hX)) rfl rfl rfl rfl ⟨Nat.le_of_ble_eq_true rfl, Nat.le_of_ble_eq_true rfl⟩ rfl hF (fun x102 h101 hF => ?_)
    refine jj_bipush (v := (-11 : Int32)) (pc' := 134) dL_refusesShown_132 rfl rfl ?_
    refine jj_icmp_ne (tgt := 216) (pc' := 137) dL_refusesShown_134 rfl rfl (fun hc hF => ?_) (fun hc hF => ?_) hF
    · skip
      refine jj_iconst (v := (0 : Int32)) (pc' := 217) dL_refusesShown_216 rfl rfl ?_
      exact jj_retI (ty := .boolean) rfl rfl dL_refusesShown_217 ⟨Nat.le_of_ble_eq_true rfl, Nat.le_of_ble_eq_true rfl⟩ hF
    · skip
      refine jj_aload_n (j := 0) (i := 0) (pc' := 138) dL_refusesShown_137 rfl rfl rfl ?_
      refine jj_bipush (v := (16 : Int32)) (pc' := 140) dL_refusesShown_138 rfl rfl ?_
      refine jj_iload_n (j := 2) (i := 2) (pc' := 141) dL_refusesShown_140 rfl rfl rfl ?_
      refine jj_bipush (v := (9 : Int32)) (pc' := 143) dL_refusesShown_141 rfl rfl ?_
      refine jj_iconst (v := (0 : Int32)) (pc' := 144) dL_refusesShown_143 rfl rfl ?_
      refine jj_lconst (v := (0 : Int64)) (pc' := 145) dL_refusesShown_144 rfl rfl ?_
      refine jj_cI (N := M_L_call) (kc' := 490) (ks' := 2940) (pc' := 148) (jg_H (N := M_L_call) (rest := []) (as := [.ref a0, .int ((16 : Int32)), .int x2, .int ((9 : Int32)), .int ((0 : Int32)), .long ((0 : Int64))]) cf_L_119 (by decide) dL_refusesShown_145 rfl rfl ⟨Nat.le_of_ble_eq_true rfl, Nat.le_of_ble_eq_true rfl⟩ ⟨Nat.le_of_ble_eq_true rfl, Nat.le_of_ble_eq_true rfl⟩ (Nat.le_of_ble_eq_true rfl) (fun X' hX => KL_call hX)) rfl rfl rfl rfl ⟨Nat.le_of_ble_eq_true rfl, Nat.le_of_ble_eq_true rfl⟩ rfl hF (fun x104 h103 hF => ?_)
      refine jj_bipush (v := (-11 : Int32)) (pc' := 150) dL_refusesShown_148 rfl rfl ?_
      refine jj_icmp_ne (tgt := 216) (pc' := 153) dL_refusesShown_150 rfl rfl (fun hc hF => ?_) (fun hc hF => ?_) hF
      · skip
        refine jj_iconst (v := (0 : Int32)) (pc' := 217) dL_refusesShown_216 rfl rfl ?_
        exact jj_retI (ty := .boolean) rfl rfl dL_refusesShown_217 ⟨Nat.le_of_ble_eq_true rfl, Nat.le_of_ble_eq_true rfl⟩ hF
      · skip
        refine jj_aload_n (j := 0) (i := 0) (pc' := 154) dL_refusesShown_153 rfl rfl rfl ?_
        refine jj_bipush (v := (19 : Int32)) (pc' := 156) dL_refusesShown_154 rfl rfl ?_
        refine jj_iload_n (j := 1) (i := 1) (pc' := 157) dL_refusesShown_156 rfl rfl rfl ?_
        refine jj_iconst (v := (0 : Int32)) (pc' := 158) dL_refusesShown_157 rfl rfl ?_
        refine jj_aload_n (j := 0) (i := 0) (pc' := 159) dL_refusesShown_158 rfl rfl rfl ?_
        refine jj_iconst (v := (2 : Int32)) (pc' := 160) dL_refusesShown_159 rfl rfl ?_
        refine jj_cI (N := M_X3_count) (kc' := 491) (ks' := 2946) (pc' := 163) (jg_V (N := M_X3_count) (ci := 3) (rest := [.int ((0 : Int32)), .int x1, .int ((19 : Int32)), .ref a0]) (as := [.int ((2 : Int32))]) cf_L_81 dL_refusesShown_160 ⟨rfl, rfl⟩ rfl rfl ⟨Nat.le_of_ble_eq_true rfl, Nat.le_of_ble_eq_true rfl⟩ ⟨Nat.le_of_ble_eq_true rfl, Nat.le_of_ble_eq_true rfl⟩ (Nat.le_of_ble_eq_true rfl) (fun X' hX => KX3_count hX)) rfl rfl rfl rfl ⟨Nat.le_of_ble_eq_true rfl, Nat.le_of_ble_eq_true rfl⟩ rfl hF (fun x106 h105 hF => ?_)
        refine jj_iconst (v := (1 : Int32)) (pc' := 164) dL_refusesShown_163 rfl rfl ?_
        refine jj_isub (pc' := 165) dL_refusesShown_164 rfl ?_
        refine jj_cI (N := M_L_far) (kc' := 491) (ks' := 2946) (pc' := 168) (jg_S (N := M_L_far) (rest := [.int ((19 : Int32)), .ref a0]) (as := [.int x1, .int ((0 : Int32)), .int (x106 - ((1 : Int32)))]) cf_L_114 rfl dL_refusesShown_165 rfl rfl ⟨Nat.le_of_ble_eq_true rfl, Nat.le_of_ble_eq_true rfl⟩ ⟨Nat.le_of_ble_eq_true rfl, Nat.le_of_ble_eq_true rfl⟩ (Nat.le_of_ble_eq_true rfl) (fun X' hX => KL_far hX)) rfl rfl rfl rfl ⟨Nat.le_of_ble_eq_true rfl, Nat.le_of_ble_eq_true rfl⟩ rfl hF (fun x108 h107 hF => ?_)
        refine jj_bipush (v := (9 : Int32)) (pc' := 170) dL_refusesShown_168 rfl rfl ?_
        refine jj_iconst (v := (0 : Int32)) (pc' := 171) dL_refusesShown_170 rfl rfl ?_
        refine jj_lconst (v := (0 : Int64)) (pc' := 172) dL_refusesShown_171 rfl rfl ?_
        refine jj_cI (N := M_L_call) (kc' := 552) (ks' := 3312) (pc' := 175) (jg_H (N := M_L_call) (rest := []) (as := [.ref a0, .int ((19 : Int32)), .int x108, .int ((9 : Int32)), .int ((0 : Int32)), .long ((0 : Int64))]) cf_L_119 (by decide) dL_refusesShown_172 rfl rfl ⟨Nat.le_of_ble_eq_true rfl, Nat.le_of_ble_eq_true rfl⟩ ⟨Nat.le_of_ble_eq_true rfl, Nat.le_of_ble_eq_true rfl⟩ (Nat.le_of_ble_eq_true rfl) (fun X' hX => KL_call hX)) rfl rfl rfl rfl ⟨Nat.le_of_ble_eq_true rfl, Nat.le_of_ble_eq_true rfl⟩ rfl hF (fun x110 h109 hF => ?_)
        refine jj_bipush (v := (-11 : Int32)) (pc' := 177) dL_refusesShown_175 rfl rfl ?_
        refine jj_icmp_ne (tgt := 216) (pc' := 180) dL_refusesShown_177 rfl rfl (fun hc hF => ?_) (fun hc hF => ?_) hF
        · skip
          refine jj_iconst (v := (0 : Int32)) (pc' := 217) dL_refusesShown_216 rfl rfl ?_
          exact jj_retI (ty := .boolean) rfl rfl dL_refusesShown_217 ⟨Nat.le_of_ble_eq_true rfl, Nat.le_of_ble_eq_true rfl⟩ hF
        · skip
          refine jj_aload_n (j := 0) (i := 0) (pc' := 181) dL_refusesShown_180 rfl rfl rfl ?_
          refine jj_bipush (v := (20 : Int32)) (pc' := 183) dL_refusesShown_181 rfl rfl ?_
          refine jj_iload_n (j := 3) (i := 3) (pc' := 184) dL_refusesShown_183 rfl rfl rfl ?_
          refine jj_bipush (v := (9 : Int32)) (pc' := 186) dL_refusesShown_184 rfl rfl ?_
          refine jj_iconst (v := (0 : Int32)) (pc' := 187) dL_refusesShown_186 rfl rfl ?_
          refine jj_lconst (v := (0 : Int64)) (pc' := 188) dL_refusesShown_187 rfl rfl ?_
          refine jj_cI (N := M_L_call) (kc' := 613) (ks' := 3678) (pc' := 191) (jg_H (N := M_L_call) (rest := []) (as := [.ref a0, .int ((20 : Int32)), .int x3, .int ((9 : Int32)), .int ((0 : Int32)), .long ((0 : Int64))]) cf_L_119 (by decide) dL_refusesShown_188 rfl rfl ⟨Nat.le_of_ble_eq_true rfl, Nat.le_of_ble_eq_true rfl⟩ ⟨Nat.le_of_ble_eq_true rfl, Nat.le_of_ble_eq_true rfl⟩ (Nat.le_of_ble_eq_true rfl) (fun X' hX => KL_call hX)) rfl rfl rfl rfl ⟨Nat.le_of_ble_eq_true rfl, Nat.le_of_ble_eq_true rfl⟩ rfl hF (fun x112 h111 hF => ?_)
          refine jj_bipush (v := (-11 : Int32)) (pc' := 193) dL_refusesShown_191 rfl rfl ?_
          refine jj_icmp_ne (tgt := 216) (pc' := 196) dL_refusesShown_193 rfl rfl (fun hc hF => ?_) (fun hc hF => ?_) hF
          · skip
            refine jj_iconst (v := (0 : Int32)) (pc' := 217) dL_refusesShown_216 rfl rfl ?_
            exact jj_retI (ty := .boolean) rfl rfl dL_refusesShown_217 ⟨Nat.le_of_ble_eq_true rfl, Nat.le_of_ble_eq_true rfl⟩ hF
          · skip
            refine jj_aload_n (j := 0) (i := 0) (pc' := 197) dL_refusesShown_196 rfl rfl rfl ?_
            refine jj_bipush (v := (20 : Int32)) (pc' := 199) dL_refusesShown_197 rfl rfl ?_
            refine jj_iconst (v := (2 : Int32)) (pc' := 200) dL_refusesShown_199 rfl rfl ?_
            refine jj_iload_n (j := 1) (i := 1) (pc' := 201) dL_refusesShown_200 rfl rfl rfl ?_
            refine jj_iconst (v := (0 : Int32)) (pc' := 202) dL_refusesShown_201 rfl rfl ?_
            refine jj_iconst (v := (2 : Int32)) (pc' := 203) dL_refusesShown_202 rfl rfl ?_
            refine jj_cI (N := M_L_far) (kc' := 613) (ks' := 3678) (pc' := 206) (jg_S (N := M_L_far) (rest := [.int ((2 : Int32)), .int ((20 : Int32)), .ref a0]) (as := [.int x1, .int ((0 : Int32)), .int ((2 : Int32))]) cf_L_114 rfl dL_refusesShown_203 rfl rfl ⟨Nat.le_of_ble_eq_true rfl, Nat.le_of_ble_eq_true rfl⟩ ⟨Nat.le_of_ble_eq_true rfl, Nat.le_of_ble_eq_true rfl⟩ (Nat.le_of_ble_eq_true rfl) (fun X' hX => KL_far hX)) rfl rfl rfl rfl ⟨Nat.le_of_ble_eq_true rfl, Nat.le_of_ble_eq_true rfl⟩ rfl hF (fun x114 h113 hF => ?_)
            refine jj_iconst (v := (0 : Int32)) (pc' := 207) dL_refusesShown_206 rfl rfl ?_
            refine jj_lconst (v := (0 : Int64)) (pc' := 208) dL_refusesShown_207 rfl rfl ?_
            refine jj_cI (N := M_L_call) (kc' := 674) (ks' := 4044) (pc' := 211) (jg_H (N := M_L_call) (rest := []) (as := [.ref a0, .int ((20 : Int32)), .int ((2 : Int32)), .int x114, .int ((0 : Int32)), .long ((0 : Int64))]) cf_L_119 (by decide) dL_refusesShown_208 rfl rfl ⟨Nat.le_of_ble_eq_true rfl, Nat.le_of_ble_eq_true rfl⟩ ⟨Nat.le_of_ble_eq_true rfl, Nat.le_of_ble_eq_true rfl⟩ (Nat.le_of_ble_eq_true rfl) (fun X' hX => KL_call hX)) rfl rfl rfl rfl ⟨Nat.le_of_ble_eq_true rfl, Nat.le_of_ble_eq_true rfl⟩ rfl hF (fun x116 h115 hF => ?_)
            refine jj_bipush (v := (-12 : Int32)) (pc' := 213) dL_refusesShown_211 rfl rfl ?_
            refine jj_icmp_eq (tgt := 218) (pc' := 216) dL_refusesShown_213 rfl rfl (fun hc hF => ?_) (fun hc hF => ?_) hF
            · skip
              refine jj_wide (kc' := 674) (ks' := 4044) (Nat.le_of_ble_eq_true rfl) (Nat.le_of_ble_eq_true rfl) ?_
              exact jj_pick [0, 1] rfl (BL_refusesShown_218 N N a0 x1 h115 _ hF)
            · skip
              refine jj_iconst (v := (0 : Int32)) (pc' := 217) dL_refusesShown_216 rfl rfl ?_
              exact jj_retI (ty := .boolean) rfl rfl dL_refusesShown_217 ⟨Nat.le_of_ble_eq_true rfl, Nat.le_of_ble_eq_true rfl⟩ hF
set_option maxRecDepth 100000 in
set_option maxHeartbeats 4000000 in
theorem JL_refusesShown {N : Nat} {a0 : Nat} {x1 : Int32} {h : jm_H} {X : jm_X} (hF : FL_refusesShown N a0 x1 h = some X) : jm_J M_L_refusesShown 0 [(0, .ref a0), (1, .int x1)] [] h 0 0 X := by
  unfold FL_refusesShown at hF
  refine jj_iload_n (j := 1) (i := 1) (pc' := 1) dL_refusesShown_0 rfl rfl rfl ?_
  refine jj_iconst (v := (0 : Int32)) (pc' := 2) dL_refusesShown_1 rfl rfl ?_
  refine jj_aload_n (j := 0) (i := 0) (pc' := 3) dL_refusesShown_2 rfl rfl rfl ?_
  refine jj_iconst (v := (1 : Int32)) (pc' := 4) dL_refusesShown_3 rfl rfl ?_
  refine jj_cI (N := M_X3_count) (kc' := 1) (ks' := 6) (pc' := 7) (jg_V (N := M_X3_count) (ci := 3) (rest := [.int ((0 : Int32)), .int x1]) (as := [.int ((1 : Int32))]) cf_L_81 dL_refusesShown_4 ⟨rfl, rfl⟩ rfl rfl ⟨Nat.le_of_ble_eq_true rfl, Nat.le_of_ble_eq_true rfl⟩ ⟨Nat.le_of_ble_eq_true rfl, Nat.le_of_ble_eq_true rfl⟩ (Nat.le_of_ble_eq_true rfl) (fun X' hX => KX3_count hX)) rfl rfl rfl rfl ⟨Nat.le_of_ble_eq_true rfl, Nat.le_of_ble_eq_true rfl⟩ rfl hF (fun x102 h101 hF => ?_)
  refine jj_iconst (v := (1 : Int32)) (pc' := 8) dL_refusesShown_7 rfl rfl ?_
  refine jj_isub (pc' := 9) dL_refusesShown_8 rfl ?_
  refine jj_cI (N := M_L_far) (kc' := 1) (ks' := 6) (pc' := 12) (jg_S (N := M_L_far) (rest := []) (as := [.int x1, .int ((0 : Int32)), .int (x102 - ((1 : Int32)))]) cf_L_114 rfl dL_refusesShown_9 rfl rfl ⟨Nat.le_of_ble_eq_true rfl, Nat.le_of_ble_eq_true rfl⟩ ⟨Nat.le_of_ble_eq_true rfl, Nat.le_of_ble_eq_true rfl⟩ (Nat.le_of_ble_eq_true rfl) (fun X' hX => KL_far hX)) rfl rfl rfl rfl ⟨Nat.le_of_ble_eq_true rfl, Nat.le_of_ble_eq_true rfl⟩ rfl hF (fun x104 h103 hF => ?_)
  refine jj_istore_n (i := 2) (ls' := [(2, .int x104), (0, .ref a0), (1, .int x1)]) (pc' := 13) dL_refusesShown_12 rfl (Nat.le_of_ble_eq_true rfl) rfl rfl ?_
  refine jj_iload_n (j := 2) (i := 1) (pc' := 14) dL_refusesShown_13 rfl rfl rfl ?_
  refine jj_iconst (v := (0 : Int32)) (pc' := 15) dL_refusesShown_14 rfl rfl ?_
  refine jj_iconst (v := (2 : Int32)) (pc' := 16) dL_refusesShown_15 rfl rfl ?_
  refine jj_cI (N := M_L_far) (kc' := 1) (ks' := 6) (pc' := 19) (jg_S (N := M_L_far) (rest := []) (as := [.int x1, .int ((0 : Int32)), .int ((2 : Int32))]) cf_L_114 rfl dL_refusesShown_16 rfl rfl ⟨Nat.le_of_ble_eq_true rfl, Nat.le_of_ble_eq_true rfl⟩ ⟨Nat.le_of_ble_eq_true rfl, Nat.le_of_ble_eq_true rfl⟩ (Nat.le_of_ble_eq_true rfl) (fun X' hX => KL_far hX)) rfl rfl rfl rfl ⟨Nat.le_of_ble_eq_true rfl, Nat.le_of_ble_eq_true rfl⟩ rfl hF (fun x106 h105 hF => ?_)
  refine jj_istore_n (i := 3) (ls' := [(3, .int x106), (2, .int x104), (0, .ref a0), (1, .int x1)]) (pc' := 20) dL_refusesShown_19 rfl (Nat.le_of_ble_eq_true rfl) rfl rfl ?_
  refine jj_aload_n (j := 2) (i := 0) (pc' := 21) dL_refusesShown_20 rfl rfl rfl ?_
  refine jj_iconst (v := (4 : Int32)) (pc' := 22) dL_refusesShown_21 rfl rfl ?_
  refine jj_iload_n (j := 1) (i := 2) (pc' := 23) dL_refusesShown_22 rfl rfl rfl ?_
  refine jj_iconst (v := (0 : Int32)) (pc' := 24) dL_refusesShown_23 rfl rfl ?_
  refine jj_iconst (v := (0 : Int32)) (pc' := 25) dL_refusesShown_24 rfl rfl ?_
  refine jj_lconst (v := (0 : Int64)) (pc' := 26) dL_refusesShown_25 rfl rfl ?_
  refine jj_cI (N := M_L_call) (kc' := 62) (ks' := 372) (pc' := 29) (jg_H (N := M_L_call) (rest := []) (as := [.ref a0, .int ((4 : Int32)), .int x104, .int ((0 : Int32)), .int ((0 : Int32)), .long ((0 : Int64))]) cf_L_119 (by decide) dL_refusesShown_26 rfl rfl ⟨Nat.le_of_ble_eq_true rfl, Nat.le_of_ble_eq_true rfl⟩ ⟨Nat.le_of_ble_eq_true rfl, Nat.le_of_ble_eq_true rfl⟩ (Nat.le_of_ble_eq_true rfl) (fun X' hX => KL_call hX)) rfl rfl rfl rfl ⟨Nat.le_of_ble_eq_true rfl, Nat.le_of_ble_eq_true rfl⟩ rfl hF (fun x108 h107 hF => ?_)
  refine jj_bipush (v := (-11 : Int32)) (pc' := 31) dL_refusesShown_29 rfl rfl ?_
  refine jj_icmp_ne (tgt := 216) (pc' := 34) dL_refusesShown_31 rfl rfl (fun hc hF => ?_) (fun hc hF => ?_) hF
  · skip
    refine jj_iconst (v := (0 : Int32)) (pc' := 217) dL_refusesShown_216 rfl rfl ?_
    exact jj_retI (ty := .boolean) rfl rfl dL_refusesShown_217 ⟨Nat.le_of_ble_eq_true rfl, Nat.le_of_ble_eq_true rfl⟩ hF
  · skip
    refine jj_aload_n (j := 2) (i := 0) (pc' := 35) dL_refusesShown_34 rfl rfl rfl ?_
    refine jj_iconst (v := (5 : Int32)) (pc' := 36) dL_refusesShown_35 rfl rfl ?_
    refine jj_iload_n (j := 1) (i := 2) (pc' := 37) dL_refusesShown_36 rfl rfl rfl ?_
    refine jj_iconst (v := (-1 : Int32)) (pc' := 38) dL_refusesShown_37 rfl rfl ?_
    refine jj_iconst (v := (0 : Int32)) (pc' := 39) dL_refusesShown_38 rfl rfl ?_
    refine jj_lconst (v := (0 : Int64)) (pc' := 40) dL_refusesShown_39 rfl rfl ?_
    refine jj_cI (N := M_L_call) (kc' := 123) (ks' := 738) (pc' := 43) (jg_H (N := M_L_call) (rest := []) (as := [.ref a0, .int ((5 : Int32)), .int x104, .int ((-1 : Int32)), .int ((0 : Int32)), .long ((0 : Int64))]) cf_L_119 (by decide) dL_refusesShown_40 rfl rfl ⟨Nat.le_of_ble_eq_true rfl, Nat.le_of_ble_eq_true rfl⟩ ⟨Nat.le_of_ble_eq_true rfl, Nat.le_of_ble_eq_true rfl⟩ (Nat.le_of_ble_eq_true rfl) (fun X' hX => KL_call hX)) rfl rfl rfl rfl ⟨Nat.le_of_ble_eq_true rfl, Nat.le_of_ble_eq_true rfl⟩ rfl hF (fun x110 h109 hF => ?_)
    refine jj_bipush (v := (-11 : Int32)) (pc' := 45) dL_refusesShown_43 rfl rfl ?_
    refine jj_icmp_ne (tgt := 216) (pc' := 48) dL_refusesShown_45 rfl rfl (fun hc hF => ?_) (fun hc hF => ?_) hF
    · skip
      refine jj_iconst (v := (0 : Int32)) (pc' := 217) dL_refusesShown_216 rfl rfl ?_
      exact jj_retI (ty := .boolean) rfl rfl dL_refusesShown_217 ⟨Nat.le_of_ble_eq_true rfl, Nat.le_of_ble_eq_true rfl⟩ hF
    · skip
      refine jj_aload_n (j := 2) (i := 0) (pc' := 49) dL_refusesShown_48 rfl rfl rfl ?_
      refine jj_bipush (v := (7 : Int32)) (pc' := 51) dL_refusesShown_49 rfl rfl ?_
      refine jj_iload_n (j := 0) (i := 3) (pc' := 52) dL_refusesShown_51 rfl rfl rfl ?_
      refine jj_iconst (v := (0 : Int32)) (pc' := 53) dL_refusesShown_52 rfl rfl ?_
      refine jj_iconst (v := (0 : Int32)) (pc' := 54) dL_refusesShown_53 rfl rfl ?_
      refine jj_lconst (v := (0 : Int64)) (pc' := 55) dL_refusesShown_54 rfl rfl ?_
      refine jj_cI (N := M_L_call) (kc' := 184) (ks' := 1104) (pc' := 58) (jg_H (N := M_L_call) (rest := []) (as := [.ref a0, .int ((7 : Int32)), .int x106, .int ((0 : Int32)), .int ((0 : Int32)), .long ((0 : Int64))]) cf_L_119 (by decide) dL_refusesShown_55 rfl rfl ⟨Nat.le_of_ble_eq_true rfl, Nat.le_of_ble_eq_true rfl⟩ ⟨Nat.le_of_ble_eq_true rfl, Nat.le_of_ble_eq_true rfl⟩ (Nat.le_of_ble_eq_true rfl) (fun X' hX => KL_call hX)) rfl rfl rfl rfl ⟨Nat.le_of_ble_eq_true rfl, Nat.le_of_ble_eq_true rfl⟩ rfl hF (fun x112 h111 hF => ?_)
      refine jj_bipush (v := (-11 : Int32)) (pc' := 60) dL_refusesShown_58 rfl rfl ?_
      refine jj_icmp_ne (tgt := 216) (pc' := 63) dL_refusesShown_60 rfl rfl (fun hc hF => ?_) (fun hc hF => ?_) hF
      · skip
        refine jj_iconst (v := (0 : Int32)) (pc' := 217) dL_refusesShown_216 rfl rfl ?_
        exact jj_retI (ty := .boolean) rfl rfl dL_refusesShown_217 ⟨Nat.le_of_ble_eq_true rfl, Nat.le_of_ble_eq_true rfl⟩ hF
      · skip
        refine jj_aload_n (j := 2) (i := 0) (pc' := 64) dL_refusesShown_63 rfl rfl rfl ?_
        refine jj_bipush (v := (7 : Int32)) (pc' := 66) dL_refusesShown_64 rfl rfl ?_
        refine jj_iconst (v := (0 : Int32)) (pc' := 67) dL_refusesShown_66 rfl rfl ?_
        refine jj_iload_n (j := 1) (i := 2) (pc' := 68) dL_refusesShown_67 rfl rfl rfl ?_
        refine jj_iconst (v := (0 : Int32)) (pc' := 69) dL_refusesShown_68 rfl rfl ?_
        refine jj_lconst (v := (0 : Int64)) (pc' := 70) dL_refusesShown_69 rfl rfl ?_
        refine jj_cI (N := M_L_call) (kc' := 245) (ks' := 1470) (pc' := 73) (jg_H (N := M_L_call) (rest := []) (as := [.ref a0, .int ((7 : Int32)), .int ((0 : Int32)), .int x104, .int ((0 : Int32)), .long ((0 : Int64))]) cf_L_119 (by decide) dL_refusesShown_70 rfl rfl ⟨Nat.le_of_ble_eq_true rfl, Nat.le_of_ble_eq_true rfl⟩ ⟨Nat.le_of_ble_eq_true rfl, Nat.le_of_ble_eq_true rfl⟩ (Nat.le_of_ble_eq_true rfl) (fun X' hX => KL_call hX)) rfl rfl rfl rfl ⟨Nat.le_of_ble_eq_true rfl, Nat.le_of_ble_eq_true rfl⟩ rfl hF (fun x114 h113 hF => ?_)
        refine jj_bipush (v := (-11 : Int32)) (pc' := 75) dL_refusesShown_73 rfl rfl ?_
        refine jj_icmp_ne (tgt := 216) (pc' := 78) dL_refusesShown_75 rfl rfl (fun hc hF => ?_) (fun hc hF => ?_) hF
        · skip
          refine jj_iconst (v := (0 : Int32)) (pc' := 217) dL_refusesShown_216 rfl rfl ?_
          exact jj_retI (ty := .boolean) rfl rfl dL_refusesShown_217 ⟨Nat.le_of_ble_eq_true rfl, Nat.le_of_ble_eq_true rfl⟩ hF
        · skip
          refine jj_aload_n (j := 2) (i := 0) (pc' := 79) dL_refusesShown_78 rfl rfl rfl ?_
          refine jj_bipush (v := (8 : Int32)) (pc' := 81) dL_refusesShown_79 rfl rfl ?_
          refine jj_iload_n (j := 0) (i := 3) (pc' := 82) dL_refusesShown_81 rfl rfl rfl ?_
          refine jj_iconst (v := (0 : Int32)) (pc' := 83) dL_refusesShown_82 rfl rfl ?_
          refine jj_bipush (v := (99 : Int32)) (pc' := 85) dL_refusesShown_83 rfl rfl ?_
          refine jj_lconst (v := (0 : Int64)) (pc' := 86) dL_refusesShown_85 rfl rfl ?_
          refine jj_cI (N := M_L_call) (kc' := 306) (ks' := 1836) (pc' := 89) (jg_H (N := M_L_call) (rest := []) (as := [.ref a0, .int ((8 : Int32)), .int x106, .int ((0 : Int32)), .int ((99 : Int32)), .long ((0 : Int64))]) cf_L_119 (by decide) dL_refusesShown_86 rfl rfl ⟨Nat.le_of_ble_eq_true rfl, Nat.le_of_ble_eq_true rfl⟩ ⟨Nat.le_of_ble_eq_true rfl, Nat.le_of_ble_eq_true rfl⟩ (Nat.le_of_ble_eq_true rfl) (fun X' hX => KL_call hX)) rfl rfl rfl rfl ⟨Nat.le_of_ble_eq_true rfl, Nat.le_of_ble_eq_true rfl⟩ rfl hF (fun x116 h115 hF => ?_)
          refine jj_bipush (v := (-11 : Int32)) (pc' := 91) dL_refusesShown_89 rfl rfl ?_
          refine jj_icmp_ne (tgt := 216) (pc' := 94) dL_refusesShown_91 rfl rfl (fun hc hF => ?_) (fun hc hF => ?_) hF
          · skip
            refine jj_iconst (v := (0 : Int32)) (pc' := 217) dL_refusesShown_216 rfl rfl ?_
            exact jj_retI (ty := .boolean) rfl rfl dL_refusesShown_217 ⟨Nat.le_of_ble_eq_true rfl, Nat.le_of_ble_eq_true rfl⟩ hF
          · skip
            refine jj_aload_n (j := 2) (i := 0) (pc' := 95) dL_refusesShown_94 rfl rfl rfl ?_
            refine jj_bipush (v := (8 : Int32)) (pc' := 97) dL_refusesShown_95 rfl rfl ?_
            refine jj_iconst (v := (0 : Int32)) (pc' := 98) dL_refusesShown_97 rfl rfl ?_
            refine jj_iload_n (j := 3) (i := 1) (pc' := 99) dL_refusesShown_98 rfl rfl rfl ?_
            refine jj_iconst (v := (0 : Int32)) (pc' := 100) dL_refusesShown_99 rfl rfl ?_
            refine jj_aload_n (j := 2) (i := 0) (pc' := 101) dL_refusesShown_100 rfl rfl rfl ?_
            refine jj_iconst (v := (0 : Int32)) (pc' := 102) dL_refusesShown_101 rfl rfl ?_
            refine jj_cI (N := M_X3_count) (kc' := 307) (ks' := 1842) (pc' := 105) (jg_V (N := M_X3_count) (ci := 3) (rest := [.int ((0 : Int32)), .int x1, .int ((0 : Int32)), .int ((8 : Int32)), .ref a0]) (as := [.int ((0 : Int32))]) cf_L_81 dL_refusesShown_102 ⟨rfl, rfl⟩ rfl rfl ⟨Nat.le_of_ble_eq_true rfl, Nat.le_of_ble_eq_true rfl⟩ ⟨Nat.le_of_ble_eq_true rfl, Nat.le_of_ble_eq_true rfl⟩ (Nat.le_of_ble_eq_true rfl) (fun X' hX => KX3_count hX)) rfl rfl rfl rfl ⟨Nat.le_of_ble_eq_true rfl, Nat.le_of_ble_eq_true rfl⟩ rfl hF (fun x118 h117 hF => ?_)
            refine jj_iconst (v := (1 : Int32)) (pc' := 106) dL_refusesShown_105 rfl rfl ?_
            refine jj_isub (pc' := 107) dL_refusesShown_106 rfl ?_
            refine jj_cI (N := M_L_far) (kc' := 307) (ks' := 1842) (pc' := 110) (jg_S (N := M_L_far) (rest := [.int ((0 : Int32)), .int ((8 : Int32)), .ref a0]) (as := [.int x1, .int ((0 : Int32)), .int (x118 - ((1 : Int32)))]) cf_L_114 rfl dL_refusesShown_107 rfl rfl ⟨Nat.le_of_ble_eq_true rfl, Nat.le_of_ble_eq_true rfl⟩ ⟨Nat.le_of_ble_eq_true rfl, Nat.le_of_ble_eq_true rfl⟩ (Nat.le_of_ble_eq_true rfl) (fun X' hX => KL_far hX)) rfl rfl rfl rfl ⟨Nat.le_of_ble_eq_true rfl, Nat.le_of_ble_eq_true rfl⟩ rfl hF (fun x120 h119 hF => ?_)
            refine jj_bipush (v := (99 : Int32)) (pc' := 112) dL_refusesShown_110 rfl rfl ?_
            refine jj_lconst (v := (0 : Int64)) (pc' := 113) dL_refusesShown_112 rfl rfl ?_
            refine jj_cI (N := M_L_call) (kc' := 368) (ks' := 2208) (pc' := 116) (jg_H (N := M_L_call) (rest := []) (as := [.ref a0, .int ((8 : Int32)), .int ((0 : Int32)), .int x120, .int ((99 : Int32)), .long ((0 : Int64))]) cf_L_119 (by decide) dL_refusesShown_113 rfl rfl ⟨Nat.le_of_ble_eq_true rfl, Nat.le_of_ble_eq_true rfl⟩ ⟨Nat.le_of_ble_eq_true rfl, Nat.le_of_ble_eq_true rfl⟩ (Nat.le_of_ble_eq_true rfl) (fun X' hX => KL_call hX)) rfl rfl rfl rfl ⟨Nat.le_of_ble_eq_true rfl, Nat.le_of_ble_eq_true rfl⟩ rfl hF (fun x122 h121 hF => ?_)
            refine jj_bipush (v := (-11 : Int32)) (pc' := 118) dL_refusesShown_116 rfl rfl ?_
            refine jj_icmp_ne (tgt := 216) (pc' := 121) dL_refusesShown_118 rfl rfl (fun hc hF => ?_) (fun hc hF => ?_) hF
            · skip
              refine jj_iconst (v := (0 : Int32)) (pc' := 217) dL_refusesShown_216 rfl rfl ?_
              exact jj_retI (ty := .boolean) rfl rfl dL_refusesShown_217 ⟨Nat.le_of_ble_eq_true rfl, Nat.le_of_ble_eq_true rfl⟩ hF
            · skip
              refine jj_wide (kc' := 368) (ks' := 2208) (Nat.le_of_ble_eq_true rfl) (Nat.le_of_ble_eq_true rfl) ?_
              exact jj_pick [2, 3, 1, 0] rfl (BL_refusesShown_121 N N a0 x1 x104 x106 h121 _ hF)
theorem KL_refusesShown {N : Nat} {a0 : Nat} {x1 : Int32} {h : jm_H} {X : jm_X} (hF : FL_refusesShown N a0 x1 h = some X) : jm_K M_L_refusesShown [.ref a0, .int x1] h X := jk_of rfl (by decide +kernel) rfl rfl (Nat.le_of_ble_eq_true rfl) (JL_refusesShown hF)
set_option maxRecDepth 100000 in
set_option maxHeartbeats 4000000 in
theorem BL_refused_15 (N : Nat) : ∀ (n : Nat) (kc : Nat) (ks : Nat) (a0 : Nat) (l1 : Int64) (x3 : Int32) (x4 : Int32) (h : jm_H) (X : jm_X), FL_refused_15 N n kc ks a0 l1 x3 x4 h = some X → jm_J M_L_refused 15 [(0, .ref a0), (1, .long l1), (3, .int x3), (4, .int x4)] [] h kc ks X := by
  intro n
  induction n with
  | zero =>
    intro kc ks a0 l1 x3 x4 h X hF
    exact nomatch (show (none : Option jm_X) = some X from hF)
  | succ n ih =>
    intro kc ks a0 l1 x3 x4 h X hF
    rw [FL_refused_15] at hF
    obtain ⟨hk, hF⟩ := jf_k_inv hF
    refine jj_iload (j := 3) (i := 4) (pc' := 17) dL_refused_15 rfl rfl ?_
    refine jj_iconst (v := (4 : Int32)) (pc' := 18) dL_refused_17 rfl rfl ?_
    refine jj_icmp_ge (tgt := 47) (pc' := 21) dL_refused_18 rfl rfl (fun hc hF => ?_) (fun hc hF => ?_) hF
    · skip
      obtain ⟨hw, hF⟩ := jf_w_inv hF
      refine jj_wide hw.1 hw.2 ?_
      refine jj_aload_n (j := 0) (i := 0) (pc' := 48) dL_refused_47 rfl rfl rfl ?_
      refine jj_cL (N := M_L_seen) (kc' := 13947) (ks' := 83682) (pc' := 51) (jg_S (N := M_L_seen) (rest := []) (as := [.ref a0]) cf_L_131 rfl dL_refused_48 rfl rfl ⟨Nat.le_of_ble_eq_true rfl, Nat.le_of_ble_eq_true rfl⟩ ⟨Nat.le_of_ble_eq_true rfl, Nat.le_of_ble_eq_true rfl⟩ (Nat.le_of_ble_eq_true rfl) (fun X' hX => KL_seen hX)) rfl rfl rfl rfl ⟨Nat.le_of_ble_eq_true rfl, Nat.le_of_ble_eq_true rfl⟩ rfl hF (fun l102 h101 hF => ?_)
      refine jj_lload_n (j := 1) (i := 1) (pc' := 52) dL_refused_51 rfl rfl rfl ?_
      refine jj_lcmp (pc' := 53) dL_refused_52 rfl ?_
      refine jj_if_ne (tgt := 70) (pc' := 56) dL_refused_53 rfl rfl (fun hc hF => ?_) (fun hc hF => ?_) hF
      · skip
        refine jj_iconst (v := (0 : Int32)) (pc' := 71) dL_refused_70 rfl rfl ?_
        exact jj_retI (ty := .boolean) rfl rfl dL_refused_71 ⟨Nat.le_of_ble_eq_true rfl, Nat.le_of_ble_eq_true rfl⟩ hF
      · skip
        refine jj_aload_n (j := 0) (i := 0) (pc' := 57) dL_refused_56 rfl rfl rfl ?_
        refine jj_bipush (v := (11 : Int32)) (pc' := 59) dL_refused_57 rfl rfl ?_
        refine jj_cI (N := M_X3_count) (kc' := 13948) (ks' := 83688) (pc' := 62) (jg_V (N := M_X3_count) (ci := 3) (rest := []) (as := [.int ((11 : Int32))]) cf_L_81 dL_refused_59 ⟨rfl, rfl⟩ rfl rfl ⟨Nat.le_of_ble_eq_true rfl, Nat.le_of_ble_eq_true rfl⟩ ⟨Nat.le_of_ble_eq_true rfl, Nat.le_of_ble_eq_true rfl⟩ (Nat.le_of_ble_eq_true rfl) (fun X' hX => KX3_count hX)) rfl rfl rfl rfl ⟨Nat.le_of_ble_eq_true rfl, Nat.le_of_ble_eq_true rfl⟩ rfl hF (fun x104 h103 hF => ?_)
        refine jj_iload_n (j := 2) (i := 3) (pc' := 63) dL_refused_62 rfl rfl rfl ?_
        refine jj_icmp_ne (tgt := 70) (pc' := 66) dL_refused_63 rfl rfl (fun hc hF => ?_) (fun hc hF => ?_) hF
        · skip
          refine jj_iconst (v := (0 : Int32)) (pc' := 71) dL_refused_70 rfl rfl ?_
          exact jj_retI (ty := .boolean) rfl rfl dL_refused_71 ⟨Nat.le_of_ble_eq_true rfl, Nat.le_of_ble_eq_true rfl⟩ hF
        · skip
          refine jj_iconst (v := (1 : Int32)) (pc' := 67) dL_refused_66 rfl rfl ?_
          refine jj_goto (tgt := 71) dL_refused_67 rfl ?_
          exact jj_retI (ty := .boolean) rfl rfl dL_refused_71 ⟨Nat.le_of_ble_eq_true rfl, Nat.le_of_ble_eq_true rfl⟩ hF
    · skip
      refine jj_aload_n (j := 0) (i := 0) (pc' := 22) dL_refused_21 rfl rfl rfl ?_
      refine jj_iload (j := 3) (i := 4) (pc' := 24) dL_refused_22 rfl rfl ?_
      obtain ⟨hk, hF⟩ := jf_k_inv hF
      refine jj_cI (N := M_L_refusesFilms) (kc' := (kc + 2259)) (ks' := (ks + 13554)) (pc' := 27) (jg_S (N := M_L_refusesFilms) (rest := []) (as := [.ref a0, .int x4]) cf_L_135 rfl dL_refused_24 rfl rfl ⟨Nat.le_of_ble_eq_true rfl, Nat.le_of_ble_eq_true rfl⟩ ⟨hk.1, hk.2⟩ (Nat.le_of_ble_eq_true rfl) (fun X' hX => KL_refusesFilms hX)) rfl rfl rfl rfl ⟨hk.1, hk.2⟩ rfl hF (fun x106 h105 hF => ?_)
      refine jj_if_eq (tgt := 39) (pc' := 30) dL_refused_27 rfl rfl (fun hc hF => ?_) (fun hc hF => ?_) hF
      · skip
        refine jj_iconst (v := (0 : Int32)) (pc' := 40) dL_refused_39 rfl rfl ?_
        obtain ⟨hw, hF⟩ := jf_w_inv hF
        refine jj_wide hw.1 hw.2 ?_
        exact jj_retI (ty := .boolean) rfl rfl dL_refused_40 ⟨Nat.le_of_ble_eq_true rfl, Nat.le_of_ble_eq_true rfl⟩ hF
      · skip
        refine jj_aload_n (j := 0) (i := 0) (pc' := 31) dL_refused_30 rfl rfl rfl ?_
        refine jj_iload (j := 3) (i := 4) (pc' := 33) dL_refused_31 rfl rfl ?_
        obtain ⟨hk, hF⟩ := jf_k_inv hF
        refine jj_cI (N := M_L_refusesShown) (kc' := (kc + 3241)) (ks' := (ks + 19446)) (pc' := 36) (jg_S (N := M_L_refusesShown) (rest := []) (as := [.ref a0, .int x4]) cf_L_139 rfl dL_refused_33 rfl rfl ⟨Nat.le_of_ble_eq_true rfl, Nat.le_of_ble_eq_true rfl⟩ ⟨hk.1, hk.2⟩ (Nat.le_of_ble_eq_true rfl) (fun X' hX => KL_refusesShown hX)) rfl rfl rfl rfl ⟨hk.1, hk.2⟩ rfl hF (fun x108 h107 hF => ?_)
        refine jj_if_ne (tgt := 41) (pc' := 39) dL_refused_36 rfl rfl (fun hc hF => ?_) (fun hc hF => ?_) hF
        · skip
          refine jj_iinc (i := 4) (j := 3) (v := x4 + (1 : Int32)) (ls' := [(4, .int (x4 + (1 : Int32))), (0, .ref a0), (1, .long l1), (3, .int x3)]) (pc' := 44) dL_refused_41 rfl rfl (Nat.le_of_ble_eq_true rfl) rfl rfl ?_
          refine jj_goto (tgt := 15) dL_refused_44 rfl ?_
          exact jj_pick [1, 2, 3, 0] rfl (ih (kc + 3241) (ks + 19446) a0 l1 x3 (x4 + (1 : Int32)) h107 _ hF)
        · skip
          refine jj_iconst (v := (0 : Int32)) (pc' := 40) dL_refused_39 rfl rfl ?_
          obtain ⟨hw, hF⟩ := jf_w_inv hF
          refine jj_wide hw.1 hw.2 ?_
          exact jj_retI (ty := .boolean) rfl rfl dL_refused_40 ⟨Nat.le_of_ble_eq_true rfl, Nat.le_of_ble_eq_true rfl⟩ hF
set_option maxRecDepth 100000 in
set_option maxHeartbeats 4000000 in
theorem JL_refused {N : Nat} {a0 : Nat} {h : jm_H} {X : jm_X} (hF : FL_refused N a0 h = some X) : jm_J M_L_refused 0 [(0, .ref a0)] [] h 0 0 X := by
  unfold FL_refused at hF
  refine jj_aload_n (j := 0) (i := 0) (pc' := 1) dL_refused_0 rfl rfl rfl ?_
  refine jj_cL (N := M_L_seen) (kc' := 491) (ks' := 2946) (pc' := 4) (jg_S (N := M_L_seen) (rest := []) (as := [.ref a0]) cf_L_131 rfl dL_refused_1 rfl rfl ⟨Nat.le_of_ble_eq_true rfl, Nat.le_of_ble_eq_true rfl⟩ ⟨Nat.le_of_ble_eq_true rfl, Nat.le_of_ble_eq_true rfl⟩ (Nat.le_of_ble_eq_true rfl) (fun X' hX => KL_seen hX)) rfl rfl rfl rfl ⟨Nat.le_of_ble_eq_true rfl, Nat.le_of_ble_eq_true rfl⟩ rfl hF (fun l102 h101 hF => ?_)
  refine jj_lstore_n (i := 1) (ls' := [(1, .long l102), (0, .ref a0)]) (pc' := 5) dL_refused_4 rfl (Nat.le_of_ble_eq_true rfl) rfl rfl ?_
  refine jj_aload_n (j := 1) (i := 0) (pc' := 6) dL_refused_5 rfl rfl rfl ?_
  refine jj_bipush (v := (11 : Int32)) (pc' := 8) dL_refused_6 rfl rfl ?_
  refine jj_cI (N := M_X3_count) (kc' := 492) (ks' := 2952) (pc' := 11) (jg_V (N := M_X3_count) (ci := 3) (rest := []) (as := [.int ((11 : Int32))]) cf_L_81 dL_refused_8 ⟨rfl, rfl⟩ rfl rfl ⟨Nat.le_of_ble_eq_true rfl, Nat.le_of_ble_eq_true rfl⟩ ⟨Nat.le_of_ble_eq_true rfl, Nat.le_of_ble_eq_true rfl⟩ (Nat.le_of_ble_eq_true rfl) (fun X' hX => KX3_count hX)) rfl rfl rfl rfl ⟨Nat.le_of_ble_eq_true rfl, Nat.le_of_ble_eq_true rfl⟩ rfl hF (fun x104 h103 hF => ?_)
  refine jj_istore_n (i := 3) (ls' := [(3, .int x104), (1, .long l102), (0, .ref a0)]) (pc' := 12) dL_refused_11 rfl (Nat.le_of_ble_eq_true rfl) rfl rfl ?_
  refine jj_iconst (v := (0 : Int32)) (pc' := 13) dL_refused_12 rfl rfl ?_
  refine jj_istore (i := 4) (ls' := [(4, .int ((0 : Int32))), (3, .int x104), (1, .long l102), (0, .ref a0)]) (pc' := 15) dL_refused_13 (Nat.le_of_ble_eq_true rfl) rfl rfl ?_
  exact jj_pick [3, 2, 1, 0] rfl (BL_refused_15 N N 492 2952 a0 l102 x104 ((0 : Int32)) h103 _ hF)
theorem KL_refused {N : Nat} {a0 : Nat} {h : jm_H} {X : jm_X} (hF : FL_refused N a0 h = some X) : jm_K M_L_refused [.ref a0] h X := jk_of rfl (by decide +kernel) rfl rfl (Nat.le_of_ble_eq_true rfl) (JL_refused hF)

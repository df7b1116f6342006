set_option maxRecDepth 100000 in
set_option maxHeartbeats 4000000 in
theorem BL_many_518 (N : Nat) : ∀ (n : Nat) (a0 : Nat) (h : jm_H) (X : jm_X), FL_many_518 N n a0 h = some X → jm_J M_L_many 518 [(0, .ref a0)] [] h 517 5637 X := by
  intro n
  induction n with
  | zero =>
    intro a0 h X hF
    exact nomatch (show (none : Option jm_X) = some X from hF)
  | succ n ih =>
    intro a0 h X hF
    rw [FL_many_518] at hF
    refine jj_aload_n (j := 0) (i := 0) (pc' := 519) dL_many_518 rfl rfl rfl ?_
    refine jj_iconst (v := (1 : Int32)) (pc' := 520) dL_many_519 rfl rfl ?_
    refine jj_iconst (v := (3 : Int32)) (pc' := 521) dL_many_520 rfl rfl ?_
    refine jj_cI (N := M_X3_guestOf) (kc' := 519) (ks' := 5649) (pc' := 524) (jg_V (N := M_X3_guestOf) (ci := 3) (rest := []) (as := [.int ((1 : Int32)), .int ((3 : Int32))]) cf_L_75 dL_many_521 ⟨rfl, rfl⟩ rfl rfl ⟨Nat.le_of_ble_eq_true rfl, Nat.le_of_ble_eq_true rfl⟩ ⟨Nat.le_of_ble_eq_true rfl, Nat.le_of_ble_eq_true rfl⟩ (Nat.le_of_ble_eq_true rfl) (fun X' hX => KX3_guestOf hX)) rfl rfl rfl rfl ⟨Nat.le_of_ble_eq_true rfl, Nat.le_of_ble_eq_true rfl⟩ rfl hF (fun x102 h101 hF => ?_)
    refine jj_if_ne (tgt := 531) (pc' := 527) dL_many_524 rfl rfl (fun hc hF => ?_) (fun hc hF => ?_) hF
    · skip
      refine jj_iconst (v := (0 : Int32)) (pc' := 532) dL_many_531 rfl rfl ?_
      exact jj_retI (ty := .boolean) rfl rfl dL_many_532 ⟨Nat.le_of_ble_eq_true rfl, Nat.le_of_ble_eq_true rfl⟩ hF
    · skip
      refine jj_iconst (v := (1 : Int32)) (pc' := 528) dL_many_527 rfl rfl ?_
      refine jj_goto (tgt := 532) dL_many_528 rfl ?_
      exact jj_retI (ty := .boolean) rfl rfl dL_many_532 ⟨Nat.le_of_ble_eq_true rfl, Nat.le_of_ble_eq_true rfl⟩ hF
set_option maxRecDepth 100000 in
set_option maxHeartbeats 4000000 in
theorem BL_many_393 (N : Nat) : ∀ (n : Nat) (a0 : Nat) (h : jm_H) (X : jm_X), FL_many_393 N n a0 h = some X → jm_J M_L_many 393 [(0, .ref a0)] [] h 486 5451 X := by
  intro n
  induction n with
  | zero =>
    intro a0 h X hF
    exact nomatch (show (none : Option jm_X) = some X from hF)
  | succ n ih =>
    intro a0 h X hF
    rw [FL_many_393] at hF
    refine jj_aload_n (j := 0) (i := 0) (pc' := 394) dL_many_393 rfl rfl rfl ?_
    refine jj_iconst (v := (0 : Int32)) (pc' := 395) dL_many_394 rfl rfl ?_
    refine jj_bipush (v := (60 : Int32)) (pc' := 397) dL_many_395 rfl rfl ?_
    refine jj_cI (N := M_X3_set) (kc' := 488) (ks' := 5463) (pc' := 400) (jg_V (N := M_X3_set) (ci := 3) (rest := []) (as := [.int ((0 : Int32)), .int ((60 : Int32))]) cf_L_20 dL_many_397 ⟨rfl, rfl⟩ rfl rfl ⟨Nat.le_of_ble_eq_true rfl, Nat.le_of_ble_eq_true rfl⟩ ⟨Nat.le_of_ble_eq_true rfl, Nat.le_of_ble_eq_true rfl⟩ (Nat.le_of_ble_eq_true rfl) (fun X' hX => KX3_set hX)) rfl rfl rfl rfl ⟨Nat.le_of_ble_eq_true rfl, Nat.le_of_ble_eq_true rfl⟩ rfl hF (fun x102 h101 hF => ?_)
    refine jj_if_ne (tgt := 531) (pc' := 403) dL_many_400 rfl rfl (fun hc hF => ?_) (fun hc hF => ?_) hF
    · skip
      refine jj_iconst (v := (0 : Int32)) (pc' := 532) dL_many_531 rfl rfl ?_
      exact jj_retI (ty := .boolean) rfl rfl dL_many_532 ⟨Nat.le_of_ble_eq_true rfl, Nat.le_of_ble_eq_true rfl⟩ hF
    · skip
      refine jj_aload_n (j := 0) (i := 0) (pc' := 404) dL_many_403 rfl rfl rfl ?_
      refine jj_iconst (v := (0 : Int32)) (pc' := 405) dL_many_404 rfl rfl ?_
      refine jj_iconst (v := (2 : Int32)) (pc' := 406) dL_many_405 rfl rfl ?_
      refine jj_sipush (v := (500 : Int32)) (pc' := 409) dL_many_406 rfl rfl ?_
      refine jj_bipush (v := (20 : Int32)) (pc' := 411) dL_many_409 rfl rfl ?_
      refine jj_iconst (v := (0 : Int32)) (pc' := 412) dL_many_411 rfl rfl ?_
      refine jj_cI (N := M_X3_whyNot) (kc' := 493) (ks' := 5493) (pc' := 415) (jg_V (N := M_X3_whyNot) (ci := 3) (rest := []) (as := [.int ((0 : Int32)), .int ((2 : Int32)), .int ((500 : Int32)), .int ((20 : Int32)), .int ((0 : Int32))]) cf_L_84 dL_many_412 ⟨rfl, rfl⟩ rfl rfl ⟨Nat.le_of_ble_eq_true rfl, Nat.le_of_ble_eq_true rfl⟩ ⟨Nat.le_of_ble_eq_true rfl, Nat.le_of_ble_eq_true rfl⟩ (Nat.le_of_ble_eq_true rfl) (fun X' hX => KX3_whyNot hX)) rfl rfl rfl rfl ⟨Nat.le_of_ble_eq_true rfl, Nat.le_of_ble_eq_true rfl⟩ rfl hF (fun x104 h103 hF => ?_)
      refine jj_if_ne (tgt := 531) (pc' := 418) dL_many_415 rfl rfl (fun hc hF => ?_) (fun hc hF => ?_) hF
      · skip
        refine jj_iconst (v := (0 : Int32)) (pc' := 532) dL_many_531 rfl rfl ?_
        exact jj_retI (ty := .boolean) rfl rfl dL_many_532 ⟨Nat.le_of_ble_eq_true rfl, Nat.le_of_ble_eq_true rfl⟩ hF
      · skip
        refine jj_aload_n (j := 0) (i := 0) (pc' := 419) dL_many_418 rfl rfl rfl ?_
        refine jj_iconst (v := (0 : Int32)) (pc' := 420) dL_many_419 rfl rfl ?_
        refine jj_iconst (v := (1 : Int32)) (pc' := 421) dL_many_420 rfl rfl ?_
        refine jj_iconst (v := (0 : Int32)) (pc' := 422) dL_many_421 rfl rfl ?_
        refine jj_cI (N := M_X3_nextStart) (kc' := 496) (ks' := 5511) (pc' := 425) (jg_V (N := M_X3_nextStart) (ci := 3) (rest := []) (as := [.int ((0 : Int32)), .int ((1 : Int32)), .int ((0 : Int32))]) cf_L_88 dL_many_422 ⟨rfl, rfl⟩ rfl rfl ⟨Nat.le_of_ble_eq_true rfl, Nat.le_of_ble_eq_true rfl⟩ ⟨Nat.le_of_ble_eq_true rfl, Nat.le_of_ble_eq_true rfl⟩ (Nat.le_of_ble_eq_true rfl) (fun X' hX => KX3_nextStart hX)) rfl rfl rfl rfl ⟨Nat.le_of_ble_eq_true rfl, Nat.le_of_ble_eq_true rfl⟩ rfl hF (fun x106 h105 hF => ?_)
        refine jj_sipush (v := (160 : Int32)) (pc' := 428) dL_many_425 rfl rfl ?_
        refine jj_icmp_ne (tgt := 531) (pc' := 431) dL_many_428 rfl rfl (fun hc hF => ?_) (fun hc hF => ?_) hF
        · skip
          refine jj_iconst (v := (0 : Int32)) (pc' := 532) dL_many_531 rfl rfl ?_
          exact jj_retI (ty := .boolean) rfl rfl dL_many_532 ⟨Nat.le_of_ble_eq_true rfl, Nat.le_of_ble_eq_true rfl⟩ hF
        · skip
          refine jj_aload_n (j := 0) (i := 0) (pc' := 432) dL_many_431 rfl rfl rfl ?_
          refine jj_iconst (v := (0 : Int32)) (pc' := 433) dL_many_432 rfl rfl ?_
          refine jj_iconst (v := (1 : Int32)) (pc' := 434) dL_many_433 rfl rfl ?_
          refine jj_sipush (v := (160 : Int32)) (pc' := 437) dL_many_434 rfl rfl ?_
          refine jj_bipush (v := (20 : Int32)) (pc' := 439) dL_many_437 rfl rfl ?_
          refine jj_cI (N := M_X3_show) (kc' := 501) (ks' := 5541) (pc' := 442) (jg_V (N := M_X3_show) (ci := 3) (rest := []) (as := [.int ((0 : Int32)), .int ((1 : Int32)), .int ((160 : Int32)), .int ((20 : Int32))]) cf_L_23 dL_many_439 ⟨rfl, rfl⟩ rfl rfl ⟨Nat.le_of_ble_eq_true rfl, Nat.le_of_ble_eq_true rfl⟩ ⟨Nat.le_of_ble_eq_true rfl, Nat.le_of_ble_eq_true rfl⟩ (Nat.le_of_ble_eq_true rfl) (fun X' hX => KX3_show hX)) rfl rfl rfl rfl ⟨Nat.le_of_ble_eq_true rfl, Nat.le_of_ble_eq_true rfl⟩ rfl hF (fun x108 h107 hF => ?_)
          refine jj_bipush (v := (11 : Int32)) (pc' := 444) dL_many_442 rfl rfl ?_
          refine jj_icmp_ne (tgt := 531) (pc' := 447) dL_many_444 rfl rfl (fun hc hF => ?_) (fun hc hF => ?_) hF
          · skip
            refine jj_iconst (v := (0 : Int32)) (pc' := 532) dL_many_531 rfl rfl ?_
            exact jj_retI (ty := .boolean) rfl rfl dL_many_532 ⟨Nat.le_of_ble_eq_true rfl, Nat.le_of_ble_eq_true rfl⟩ hF
          · skip
            refine jj_aload_n (j := 0) (i := 0) (pc' := 448) dL_many_447 rfl rfl rfl ?_
            refine jj_bipush (v := (11 : Int32)) (pc' := 450) dL_many_448 rfl rfl ?_
            refine jj_iconst (v := (3 : Int32)) (pc' := 451) dL_many_450 rfl rfl ?_
            refine jj_cI (N := M_X3_showing) (kc' := 503) (ks' := 5553) (pc' := 454) (jg_V (N := M_X3_showing) (ci := 3) (rest := []) (as := [.int ((11 : Int32)), .int ((3 : Int32))]) cf_L_63 dL_many_451 ⟨rfl, rfl⟩ rfl rfl ⟨Nat.le_of_ble_eq_true rfl, Nat.le_of_ble_eq_true rfl⟩ ⟨Nat.le_of_ble_eq_true rfl, Nat.le_of_ble_eq_true rfl⟩ (Nat.le_of_ble_eq_true rfl) (fun X' hX => KX3_showing hX)) rfl rfl rfl rfl ⟨Nat.le_of_ble_eq_true rfl, Nat.le_of_ble_eq_true rfl⟩ rfl hF (fun x110 h109 hF => ?_)
            refine jj_sipush (v := (190 : Int32)) (pc' := 457) dL_many_454 rfl rfl ?_
            refine jj_icmp_ne (tgt := 531) (pc' := 460) dL_many_457 rfl rfl (fun hc hF => ?_) (fun hc hF => ?_) hF
            · skip
              refine jj_iconst (v := (0 : Int32)) (pc' := 532) dL_many_531 rfl rfl ?_
              exact jj_retI (ty := .boolean) rfl rfl dL_many_532 ⟨Nat.le_of_ble_eq_true rfl, Nat.le_of_ble_eq_true rfl⟩ hF
            · skip
              refine jj_aload_n (j := 0) (i := 0) (pc' := 461) dL_many_460 rfl rfl rfl ?_
              refine jj_iconst (v := (1 : Int32)) (pc' := 462) dL_many_461 rfl rfl ?_
              refine jj_bipush (v := (60 : Int32)) (pc' := 464) dL_many_462 rfl rfl ?_
              refine jj_cI (N := M_X3_set) (kc' := 505) (ks' := 5565) (pc' := 467) (jg_V (N := M_X3_set) (ci := 3) (rest := []) (as := [.int ((1 : Int32)), .int ((60 : Int32))]) cf_L_20 dL_many_464 ⟨rfl, rfl⟩ rfl rfl ⟨Nat.le_of_ble_eq_true rfl, Nat.le_of_ble_eq_true rfl⟩ ⟨Nat.le_of_ble_eq_true rfl, Nat.le_of_ble_eq_true rfl⟩ (Nat.le_of_ble_eq_true rfl) (fun X' hX => KX3_set hX)) rfl rfl rfl rfl ⟨Nat.le_of_ble_eq_true rfl, Nat.le_of_ble_eq_true rfl⟩ rfl hF (fun x112 h111 hF => ?_)
              refine jj_if_ne (tgt := 531) (pc' := 470) dL_many_467 rfl rfl (fun hc hF => ?_) (fun hc hF => ?_) hF
              · skip
                refine jj_iconst (v := (0 : Int32)) (pc' := 532) dL_many_531 rfl rfl ?_
                exact jj_retI (ty := .boolean) rfl rfl dL_many_532 ⟨Nat.le_of_ble_eq_true rfl, Nat.le_of_ble_eq_true rfl⟩ hF
              · skip
                refine jj_aload_n (j := 0) (i := 0) (pc' := 471) dL_many_470 rfl rfl rfl ?_
                refine jj_iconst (v := (0 : Int32)) (pc' := 472) dL_many_471 rfl rfl ?_
                refine jj_sipush (v := (1999 : Int32)) (pc' := 475) dL_many_472 rfl rfl ?_
                refine jj_sipush (v := (2000 : Int32)) (pc' := 478) dL_many_475 rfl rfl ?_
                refine jj_cI (N := M_X3_guest) (kc' := 509) (ks' := 5589) (pc' := 481) (jg_V (N := M_X3_guest) (ci := 3) (rest := []) (as := [.int ((0 : Int32)), .int ((1999 : Int32)), .int ((2000 : Int32))]) cf_L_34 dL_many_478 ⟨rfl, rfl⟩ rfl rfl ⟨Nat.le_of_ble_eq_true rfl, Nat.le_of_ble_eq_true rfl⟩ ⟨Nat.le_of_ble_eq_true rfl, Nat.le_of_ble_eq_true rfl⟩ (Nat.le_of_ble_eq_true rfl) (fun X' hX => KX3_guest hX)) rfl rfl rfl rfl ⟨Nat.le_of_ble_eq_true rfl, Nat.le_of_ble_eq_true rfl⟩ rfl hF (fun x114 h113 hF => ?_)
                refine jj_if_ne (tgt := 531) (pc' := 484) dL_many_481 rfl rfl (fun hc hF => ?_) (fun hc hF => ?_) hF
                · skip
                  refine jj_iconst (v := (0 : Int32)) (pc' := 532) dL_many_531 rfl rfl ?_
                  exact jj_retI (ty := .boolean) rfl rfl dL_many_532 ⟨Nat.le_of_ble_eq_true rfl, Nat.le_of_ble_eq_true rfl⟩ hF
                · skip
                  refine jj_aload_n (j := 0) (i := 0) (pc' := 485) dL_many_484 rfl rfl rfl ?_
                  refine jj_iconst (v := (2 : Int32)) (pc' := 486) dL_many_485 rfl rfl ?_
                  refine jj_iconst (v := (0 : Int32)) (pc' := 487) dL_many_486 rfl rfl ?_
                  refine jj_cI (N := M_X3_set) (kc' := 511) (ks' := 5601) (pc' := 490) (jg_V (N := M_X3_set) (ci := 3) (rest := []) (as := [.int ((2 : Int32)), .int ((0 : Int32))]) cf_L_20 dL_many_487 ⟨rfl, rfl⟩ rfl rfl ⟨Nat.le_of_ble_eq_true rfl, Nat.le_of_ble_eq_true rfl⟩ ⟨Nat.le_of_ble_eq_true rfl, Nat.le_of_ble_eq_true rfl⟩ (Nat.le_of_ble_eq_true rfl) (fun X' hX => KX3_set hX)) rfl rfl rfl rfl ⟨Nat.le_of_ble_eq_true rfl, Nat.le_of_ble_eq_true rfl⟩ rfl hF (fun x116 h115 hF => ?_)
                  refine jj_bipush (v := (10 : Int32)) (pc' := 492) dL_many_490 rfl rfl ?_
                  refine jj_icmp_ne (tgt := 531) (pc' := 495) dL_many_492 rfl rfl (fun hc hF => ?_) (fun hc hF => ?_) hF
                  · skip
                    refine jj_iconst (v := (0 : Int32)) (pc' := 532) dL_many_531 rfl rfl ?_
                    exact jj_retI (ty := .boolean) rfl rfl dL_many_532 ⟨Nat.le_of_ble_eq_true rfl, Nat.le_of_ble_eq_true rfl⟩ hF
                  · skip
                    refine jj_aload_n (j := 0) (i := 0) (pc' := 496) dL_many_495 rfl rfl rfl ?_
                    refine jj_iconst (v := (0 : Int32)) (pc' := 497) dL_many_496 rfl rfl ?_
                    refine jj_iconst (v := (3 : Int32)) (pc' := 498) dL_many_497 rfl rfl ?_
                    refine jj_cI (N := M_X3_guestOf) (kc' := 513) (ks' := 5613) (pc' := 501) (jg_V (N := M_X3_guestOf) (ci := 3) (rest := []) (as := [.int ((0 : Int32)), .int ((3 : Int32))]) cf_L_75 dL_many_498 ⟨rfl, rfl⟩ rfl rfl ⟨Nat.le_of_ble_eq_true rfl, Nat.le_of_ble_eq_true rfl⟩ ⟨Nat.le_of_ble_eq_true rfl, Nat.le_of_ble_eq_true rfl⟩ (Nat.le_of_ble_eq_true rfl) (fun X' hX => KX3_guestOf hX)) rfl rfl rfl rfl ⟨Nat.le_of_ble_eq_true rfl, Nat.le_of_ble_eq_true rfl⟩ rfl hF (fun x118 h117 hF => ?_)
                    refine jj_bipush (v := (10 : Int32)) (pc' := 503) dL_many_501 rfl rfl ?_
                    refine jj_icmp_ne (tgt := 531) (pc' := 506) dL_many_503 rfl rfl (fun hc hF => ?_) (fun hc hF => ?_) hF
                    · skip
                      refine jj_iconst (v := (0 : Int32)) (pc' := 532) dL_many_531 rfl rfl ?_
                      exact jj_retI (ty := .boolean) rfl rfl dL_many_532 ⟨Nat.le_of_ble_eq_true rfl, Nat.le_of_ble_eq_true rfl⟩ hF
                    · skip
                      refine jj_aload_n (j := 0) (i := 0) (pc' := 507) dL_many_506 rfl rfl rfl ?_
                      refine jj_iconst (v := (0 : Int32)) (pc' := 508) dL_many_507 rfl rfl ?_
                      refine jj_iconst (v := (0 : Int32)) (pc' := 509) dL_many_508 rfl rfl ?_
                      refine jj_bipush (v := (20 : Int32)) (pc' := 511) dL_many_509 rfl rfl ?_
                      refine jj_cI (N := M_X3_guest) (kc' := 517) (ks' := 5637) (pc' := 514) (jg_V (N := M_X3_guest) (ci := 3) (rest := []) (as := [.int ((0 : Int32)), .int ((0 : Int32)), .int ((20 : Int32))]) cf_L_34 dL_many_511 ⟨rfl, rfl⟩ rfl rfl ⟨Nat.le_of_ble_eq_true rfl, Nat.le_of_ble_eq_true rfl⟩ ⟨Nat.le_of_ble_eq_true rfl, Nat.le_of_ble_eq_true rfl⟩ (Nat.le_of_ble_eq_true rfl) (fun X' hX => KX3_guest hX)) rfl rfl rfl rfl ⟨Nat.le_of_ble_eq_true rfl, Nat.le_of_ble_eq_true rfl⟩ rfl hF (fun x120 h119 hF => ?_)
                      refine jj_iconst (v := (1 : Int32)) (pc' := 515) dL_many_514 rfl rfl ?_
                      refine jj_icmp_ne (tgt := 531) (pc' := 518) dL_many_515 rfl rfl (fun hc hF => ?_) (fun hc hF => ?_) hF
                      · skip
                        refine jj_iconst (v := (0 : Int32)) (pc' := 532) dL_many_531 rfl rfl ?_
                        exact jj_retI (ty := .boolean) rfl rfl dL_many_532 ⟨Nat.le_of_ble_eq_true rfl, Nat.le_of_ble_eq_true rfl⟩ hF
                      · skip
                        refine jj_wide (kc' := 517) (ks' := 5637) (Nat.le_of_ble_eq_true rfl) (Nat.le_of_ble_eq_true rfl) ?_
                        exact jj_pick [0] rfl (BL_many_518 N N a0 h119 _ hF)
set_option maxRecDepth 100000 in
set_option maxHeartbeats 4000000 in
theorem BL_many_379 (N : Nat) : ∀ (n : Nat) (a0 : Nat) (h : jm_H) (X : jm_X), FL_many_379 N n a0 h = some X → jm_J M_L_many 379 [(0, .ref a0)] [] h 481 5421 X := by
  intro n
  induction n with
  | zero =>
    intro a0 h X hF
    exact nomatch (show (none : Option jm_X) = some X from hF)
  | succ n ih =>
    intro a0 h X hF
    rw [FL_many_379] at hF
    refine jj_aload_n (j := 0) (i := 0) (pc' := 380) dL_many_379 rfl rfl rfl ?_
    refine jj_iconst (v := (0 : Int32)) (pc' := 381) dL_many_380 rfl rfl ?_
    refine jj_iconst (v := (0 : Int32)) (pc' := 382) dL_many_381 rfl rfl ?_
    refine jj_iconst (v := (0 : Int32)) (pc' := 383) dL_many_382 rfl rfl ?_
    refine jj_iconst (v := (0 : Int32)) (pc' := 384) dL_many_383 rfl rfl ?_
    refine jj_iconst (v := (1 : Int32)) (pc' := 385) dL_many_384 rfl rfl ?_
    refine jj_cI (N := M_X3_whyNot) (kc' := 486) (ks' := 5451) (pc' := 388) (jg_V (N := M_X3_whyNot) (ci := 3) (rest := []) (as := [.int ((0 : Int32)), .int ((0 : Int32)), .int ((0 : Int32)), .int ((0 : Int32)), .int ((1 : Int32))]) cf_L_84 dL_many_385 ⟨rfl, rfl⟩ rfl rfl ⟨Nat.le_of_ble_eq_true rfl, Nat.le_of_ble_eq_true rfl⟩ ⟨Nat.le_of_ble_eq_true rfl, Nat.le_of_ble_eq_true rfl⟩ (Nat.le_of_ble_eq_true rfl) (fun X' hX => KX3_whyNot hX)) rfl rfl rfl rfl ⟨Nat.le_of_ble_eq_true rfl, Nat.le_of_ble_eq_true rfl⟩ rfl hF (fun x102 h101 hF => ?_)
    refine jj_if_eq (tgt := 393) (pc' := 391) dL_many_388 rfl rfl (fun hc hF => ?_) (fun hc hF => ?_) hF
    · skip
      refine jj_wide (kc' := 486) (ks' := 5451) (Nat.le_of_ble_eq_true rfl) (Nat.le_of_ble_eq_true rfl) ?_
      exact jj_pick [0] rfl (BL_many_393 N N a0 h101 _ hF)
    · skip
      refine jj_iconst (v := (0 : Int32)) (pc' := 392) dL_many_391 rfl rfl ?_
      exact jj_retI (ty := .boolean) rfl rfl dL_many_392 ⟨Nat.le_of_ble_eq_true rfl, Nat.le_of_ble_eq_true rfl⟩ hF
set_option maxRecDepth 100000 in
set_option maxHeartbeats 4000000 in
theorem BL_many_266 (N : Nat) : ∀ (n : Nat) (a0 : Nat) (h : jm_H) (X : jm_X), FL_many_266 N n a0 h = some X → jm_J M_L_many 266 [(0, .ref a0)] [] h 338 4563 X := by
  intro n
  induction n with
  | zero =>
    intro a0 h X hF
    exact nomatch (show (none : Option jm_X) = some X from hF)
  | succ n ih =>
    intro a0 h X hF
    rw [FL_many_266] at hF
    refine jj_aload_n (j := 0) (i := 0) (pc' := 267) dL_many_266 rfl rfl rfl ?_
    refine jj_iconst (v := (5 : Int32)) (pc' := 268) dL_many_267 rfl rfl ?_
    refine jj_iconst (v := (4 : Int32)) (pc' := 269) dL_many_268 rfl rfl ?_
    refine jj_bipush (v := (41 : Int32)) (pc' := 271) dL_many_269 rfl rfl ?_
    refine jj_iconst (v := (0 : Int32)) (pc' := 272) dL_many_271 rfl rfl ?_
    refine jj_lconst (v := (0 : Int64)) (pc' := 273) dL_many_272 rfl rfl ?_
    refine jj_cI (N := M_L_call) (kc' := 399) (ks' := 4929) (pc' := 276) (jg_H (N := M_L_call) (rest := []) (as := [.ref a0, .int ((5 : Int32)), .int ((4 : Int32)), .int ((41 : Int32)), .int ((0 : Int32)), .long ((0 : Int64))]) cf_L_119 (by decide) dL_many_273 rfl rfl ⟨Nat.le_of_ble_eq_true rfl, Nat.le_of_ble_eq_true rfl⟩ ⟨Nat.le_of_ble_eq_true rfl, Nat.le_of_ble_eq_true rfl⟩ (Nat.le_of_ble_eq_true rfl) (fun X' hX => KL_call hX)) rfl rfl rfl rfl ⟨Nat.le_of_ble_eq_true rfl, Nat.le_of_ble_eq_true rfl⟩ rfl hF (fun x102 h101 hF => ?_)
    refine jj_bipush (v := (-13 : Int32)) (pc' := 278) dL_many_276 rfl rfl ?_
    refine jj_icmp_ne (tgt := 391) (pc' := 281) dL_many_278 rfl rfl (fun hc hF => ?_) (fun hc hF => ?_) hF
    · skip
      refine jj_iconst (v := (0 : Int32)) (pc' := 392) dL_many_391 rfl rfl ?_
      exact jj_retI (ty := .boolean) rfl rfl dL_many_392 ⟨Nat.le_of_ble_eq_true rfl, Nat.le_of_ble_eq_true rfl⟩ hF
    · skip
      refine jj_aload_n (j := 0) (i := 0) (pc' := 282) dL_many_281 rfl rfl rfl ?_
      refine jj_iconst (v := (5 : Int32)) (pc' := 283) dL_many_282 rfl rfl ?_
      refine jj_iconst (v := (4 : Int32)) (pc' := 284) dL_many_283 rfl rfl ?_
      refine jj_bipush (v := (39 : Int32)) (pc' := 286) dL_many_284 rfl rfl ?_
      refine jj_iconst (v := (0 : Int32)) (pc' := 287) dL_many_286 rfl rfl ?_
      refine jj_lconst (v := (0 : Int64)) (pc' := 288) dL_many_287 rfl rfl ?_
      refine jj_cI (N := M_L_call) (kc' := 460) (ks' := 5295) (pc' := 291) (jg_H (N := M_L_call) (rest := []) (as := [.ref a0, .int ((5 : Int32)), .int ((4 : Int32)), .int ((39 : Int32)), .int ((0 : Int32)), .long ((0 : Int64))]) cf_L_119 (by decide) dL_many_288 rfl rfl ⟨Nat.le_of_ble_eq_true rfl, Nat.le_of_ble_eq_true rfl⟩ ⟨Nat.le_of_ble_eq_true rfl, Nat.le_of_ble_eq_true rfl⟩ (Nat.le_of_ble_eq_true rfl) (fun X' hX => KL_call hX)) rfl rfl rfl rfl ⟨Nat.le_of_ble_eq_true rfl, Nat.le_of_ble_eq_true rfl⟩ rfl hF (fun x104 h103 hF => ?_)
      refine jj_bipush (v := (-13 : Int32)) (pc' := 293) dL_many_291 rfl rfl ?_
      refine jj_icmp_ne (tgt := 391) (pc' := 296) dL_many_293 rfl rfl (fun hc hF => ?_) (fun hc hF => ?_) hF
      · skip
        refine jj_iconst (v := (0 : Int32)) (pc' := 392) dL_many_391 rfl rfl ?_
        exact jj_retI (ty := .boolean) rfl rfl dL_many_392 ⟨Nat.le_of_ble_eq_true rfl, Nat.le_of_ble_eq_true rfl⟩ hF
      · skip
        refine jj_aload_n (j := 0) (i := 0) (pc' := 297) dL_many_296 rfl rfl rfl ?_
        refine jj_iconst (v := (4 : Int32)) (pc' := 298) dL_many_297 rfl rfl ?_
        refine jj_bipush (v := (40 : Int32)) (pc' := 300) dL_many_298 rfl rfl ?_
        refine jj_cI (N := M_X3_move) (kc' := 463) (ks' := 5313) (pc' := 303) (jg_V (N := M_X3_move) (ci := 3) (rest := []) (as := [.int ((4 : Int32)), .int ((40 : Int32))]) cf_L_31 dL_many_300 ⟨rfl, rfl⟩ rfl rfl ⟨Nat.le_of_ble_eq_true rfl, Nat.le_of_ble_eq_true rfl⟩ ⟨Nat.le_of_ble_eq_true rfl, Nat.le_of_ble_eq_true rfl⟩ (Nat.le_of_ble_eq_true rfl) (fun X' hX => KX3_move hX)) rfl rfl rfl rfl ⟨Nat.le_of_ble_eq_true rfl, Nat.le_of_ble_eq_true rfl⟩ rfl hF (fun x106 h105 hF => ?_)
        refine jj_if_ne (tgt := 391) (pc' := 306) dL_many_303 rfl rfl (fun hc hF => ?_) (fun hc hF => ?_) hF
        · skip
          refine jj_iconst (v := (0 : Int32)) (pc' := 392) dL_many_391 rfl rfl ?_
          exact jj_retI (ty := .boolean) rfl rfl dL_many_392 ⟨Nat.le_of_ble_eq_true rfl, Nat.le_of_ble_eq_true rfl⟩ hF
        · skip
          refine jj_aload_n (j := 0) (i := 0) (pc' := 307) dL_many_306 rfl rfl rfl ?_
          refine jj_bipush (v := (11 : Int32)) (pc' := 309) dL_many_307 rfl rfl ?_
          refine jj_sipush (v := (1990 : Int32)) (pc' := 312) dL_many_309 rfl rfl ?_
          refine jj_cI (N := M_X3_move) (kc' := 466) (ks' := 5331) (pc' := 315) (jg_V (N := M_X3_move) (ci := 3) (rest := []) (as := [.int ((11 : Int32)), .int ((1990 : Int32))]) cf_L_31 dL_many_312 ⟨rfl, rfl⟩ rfl rfl ⟨Nat.le_of_ble_eq_true rfl, Nat.le_of_ble_eq_true rfl⟩ ⟨Nat.le_of_ble_eq_true rfl, Nat.le_of_ble_eq_true rfl⟩ (Nat.le_of_ble_eq_true rfl) (fun X' hX => KX3_move hX)) rfl rfl rfl rfl ⟨Nat.le_of_ble_eq_true rfl, Nat.le_of_ble_eq_true rfl⟩ rfl hF (fun x108 h107 hF => ?_)
          refine jj_if_ne (tgt := 391) (pc' := 318) dL_many_315 rfl rfl (fun hc hF => ?_) (fun hc hF => ?_) hF
          · skip
            refine jj_iconst (v := (0 : Int32)) (pc' := 392) dL_many_391 rfl rfl ?_
            exact jj_retI (ty := .boolean) rfl rfl dL_many_392 ⟨Nat.le_of_ble_eq_true rfl, Nat.le_of_ble_eq_true rfl⟩ hF
          · skip
            refine jj_aload_n (j := 0) (i := 0) (pc' := 319) dL_many_318 rfl rfl rfl ?_
            refine jj_iconst (v := (0 : Int32)) (pc' := 320) dL_many_319 rfl rfl ?_
            refine jj_cI (N := M_X3_callOff) (kc' := 467) (ks' := 5337) (pc' := 323) (jg_V (N := M_X3_callOff) (ci := 3) (rest := []) (as := [.int ((0 : Int32))]) cf_L_27 dL_many_320 ⟨rfl, rfl⟩ rfl rfl ⟨Nat.le_of_ble_eq_true rfl, Nat.le_of_ble_eq_true rfl⟩ ⟨Nat.le_of_ble_eq_true rfl, Nat.le_of_ble_eq_true rfl⟩ (Nat.le_of_ble_eq_true rfl) (fun X' hX => KX3_callOff hX)) rfl rfl rfl rfl ⟨Nat.le_of_ble_eq_true rfl, Nat.le_of_ble_eq_true rfl⟩ rfl hF (fun x110 h109 hF => ?_)
            refine jj_if_ne (tgt := 391) (pc' := 326) dL_many_323 rfl rfl (fun hc hF => ?_) (fun hc hF => ?_) hF
            · skip
              refine jj_iconst (v := (0 : Int32)) (pc' := 392) dL_many_391 rfl rfl ?_
              exact jj_retI (ty := .boolean) rfl rfl dL_many_392 ⟨Nat.le_of_ble_eq_true rfl, Nat.le_of_ble_eq_true rfl⟩ hF
            · skip
              refine jj_aload_n (j := 0) (i := 0) (pc' := 327) dL_many_326 rfl rfl rfl ?_
              refine jj_iconst (v := (1 : Int32)) (pc' := 328) dL_many_327 rfl rfl ?_
              refine jj_cI (N := M_X3_count) (kc' := 468) (ks' := 5343) (pc' := 331) (jg_V (N := M_X3_count) (ci := 3) (rest := []) (as := [.int ((1 : Int32))]) cf_L_81 dL_many_328 ⟨rfl, rfl⟩ rfl rfl ⟨Nat.le_of_ble_eq_true rfl, Nat.le_of_ble_eq_true rfl⟩ ⟨Nat.le_of_ble_eq_true rfl, Nat.le_of_ble_eq_true rfl⟩ (Nat.le_of_ble_eq_true rfl) (fun X' hX => KX3_count hX)) rfl rfl rfl rfl ⟨Nat.le_of_ble_eq_true rfl, Nat.le_of_ble_eq_true rfl⟩ rfl hF (fun x112 h111 hF => ?_)
              refine jj_bipush (v := (11 : Int32)) (pc' := 333) dL_many_331 rfl rfl ?_
              refine jj_icmp_ne (tgt := 391) (pc' := 336) dL_many_333 rfl rfl (fun hc hF => ?_) (fun hc hF => ?_) hF
              · skip
                refine jj_iconst (v := (0 : Int32)) (pc' := 392) dL_many_391 rfl rfl ?_
                exact jj_retI (ty := .boolean) rfl rfl dL_many_392 ⟨Nat.le_of_ble_eq_true rfl, Nat.le_of_ble_eq_true rfl⟩ hF
              · skip
                refine jj_aload_n (j := 0) (i := 0) (pc' := 337) dL_many_336 rfl rfl rfl ?_
                refine jj_iconst (v := (0 : Int32)) (pc' := 338) dL_many_337 rfl rfl ?_
                refine jj_iconst (v := (0 : Int32)) (pc' := 339) dL_many_338 rfl rfl ?_
                refine jj_cI (N := M_X3_move) (kc' := 471) (ks' := 5361) (pc' := 342) (jg_V (N := M_X3_move) (ci := 3) (rest := []) (as := [.int ((0 : Int32)), .int ((0 : Int32))]) cf_L_31 dL_many_339 ⟨rfl, rfl⟩ rfl rfl ⟨Nat.le_of_ble_eq_true rfl, Nat.le_of_ble_eq_true rfl⟩ ⟨Nat.le_of_ble_eq_true rfl, Nat.le_of_ble_eq_true rfl⟩ (Nat.le_of_ble_eq_true rfl) (fun X' hX => KX3_move hX)) rfl rfl rfl rfl ⟨Nat.le_of_ble_eq_true rfl, Nat.le_of_ble_eq_true rfl⟩ rfl hF (fun x114 h113 hF => ?_)
                refine jj_if_ne (tgt := 391) (pc' := 345) dL_many_342 rfl rfl (fun hc hF => ?_) (fun hc hF => ?_) hF
                · skip
                  refine jj_iconst (v := (0 : Int32)) (pc' := 392) dL_many_391 rfl rfl ?_
                  exact jj_retI (ty := .boolean) rfl rfl dL_many_392 ⟨Nat.le_of_ble_eq_true rfl, Nat.le_of_ble_eq_true rfl⟩ hF
                · skip
                  refine jj_aload_n (j := 0) (i := 0) (pc' := 346) dL_many_345 rfl rfl rfl ?_
                  refine jj_iconst (v := (0 : Int32)) (pc' := 347) dL_many_346 rfl rfl ?_
                  refine jj_iconst (v := (2 : Int32)) (pc' := 348) dL_many_347 rfl rfl ?_
                  refine jj_cI (N := M_X3_showing) (kc' := 473) (ks' := 5373) (pc' := 351) (jg_V (N := M_X3_showing) (ci := 3) (rest := []) (as := [.int ((0 : Int32)), .int ((2 : Int32))]) cf_L_63 dL_many_348 ⟨rfl, rfl⟩ rfl rfl ⟨Nat.le_of_ble_eq_true rfl, Nat.le_of_ble_eq_true rfl⟩ ⟨Nat.le_of_ble_eq_true rfl, Nat.le_of_ble_eq_true rfl⟩ (Nat.le_of_ble_eq_true rfl) (fun X' hX => KX3_showing hX)) rfl rfl rfl rfl ⟨Nat.le_of_ble_eq_true rfl, Nat.le_of_ble_eq_true rfl⟩ rfl hF (fun x116 h115 hF => ?_)
                  refine jj_if_ne (tgt := 391) (pc' := 354) dL_many_351 rfl rfl (fun hc hF => ?_) (fun hc hF => ?_) hF
                  · skip
                    refine jj_iconst (v := (0 : Int32)) (pc' := 392) dL_many_391 rfl rfl ?_
                    exact jj_retI (ty := .boolean) rfl rfl dL_many_392 ⟨Nat.le_of_ble_eq_true rfl, Nat.le_of_ble_eq_true rfl⟩ hF
                  · skip
                    refine jj_aload_n (j := 0) (i := 0) (pc' := 355) dL_many_354 rfl rfl rfl ?_
                    refine jj_iconst (v := (0 : Int32)) (pc' := 356) dL_many_355 rfl rfl ?_
                    refine jj_iconst (v := (0 : Int32)) (pc' := 357) dL_many_356 rfl rfl ?_
                    refine jj_iconst (v := (0 : Int32)) (pc' := 358) dL_many_357 rfl rfl ?_
                    refine jj_cI (N := M_X3_nextStart) (kc' := 476) (ks' := 5391) (pc' := 361) (jg_V (N := M_X3_nextStart) (ci := 3) (rest := []) (as := [.int ((0 : Int32)), .int ((0 : Int32)), .int ((0 : Int32))]) cf_L_88 dL_many_358 ⟨rfl, rfl⟩ rfl rfl ⟨Nat.le_of_ble_eq_true rfl, Nat.le_of_ble_eq_true rfl⟩ ⟨Nat.le_of_ble_eq_true rfl, Nat.le_of_ble_eq_true rfl⟩ (Nat.le_of_ble_eq_true rfl) (fun X' hX => KX3_nextStart hX)) rfl rfl rfl rfl ⟨Nat.le_of_ble_eq_true rfl, Nat.le_of_ble_eq_true rfl⟩ rfl hF (fun x118 h117 hF => ?_)
                    refine jj_bipush (v := (10 : Int32)) (pc' := 363) dL_many_361 rfl rfl ?_
                    refine jj_icmp_ne (tgt := 391) (pc' := 366) dL_many_363 rfl rfl (fun hc hF => ?_) (fun hc hF => ?_) hF
                    · skip
                      refine jj_iconst (v := (0 : Int32)) (pc' := 392) dL_many_391 rfl rfl ?_
                      exact jj_retI (ty := .boolean) rfl rfl dL_many_392 ⟨Nat.le_of_ble_eq_true rfl, Nat.le_of_ble_eq_true rfl⟩ hF
                    · skip
                      refine jj_aload_n (j := 0) (i := 0) (pc' := 367) dL_many_366 rfl rfl rfl ?_
                      refine jj_iconst (v := (0 : Int32)) (pc' := 368) dL_many_367 rfl rfl ?_
                      refine jj_iconst (v := (0 : Int32)) (pc' := 369) dL_many_368 rfl rfl ?_
                      refine jj_iconst (v := (0 : Int32)) (pc' := 370) dL_many_369 rfl rfl ?_
                      refine jj_iconst (v := (0 : Int32)) (pc' := 371) dL_many_370 rfl rfl ?_
                      refine jj_iconst (v := (0 : Int32)) (pc' := 372) dL_many_371 rfl rfl ?_
                      refine jj_cI (N := M_X3_whyNot) (kc' := 481) (ks' := 5421) (pc' := 375) (jg_V (N := M_X3_whyNot) (ci := 3) (rest := []) (as := [.int ((0 : Int32)), .int ((0 : Int32)), .int ((0 : Int32)), .int ((0 : Int32)), .int ((0 : Int32))]) cf_L_84 dL_many_372 ⟨rfl, rfl⟩ rfl rfl ⟨Nat.le_of_ble_eq_true rfl, Nat.le_of_ble_eq_true rfl⟩ ⟨Nat.le_of_ble_eq_true rfl, Nat.le_of_ble_eq_true rfl⟩ (Nat.le_of_ble_eq_true rfl) (fun X' hX => KX3_whyNot hX)) rfl rfl rfl rfl ⟨Nat.le_of_ble_eq_true rfl, Nat.le_of_ble_eq_true rfl⟩ rfl hF (fun x120 h119 hF => ?_)
                      refine jj_iconst (v := (4 : Int32)) (pc' := 376) dL_many_375 rfl rfl ?_
                      refine jj_icmp_ne (tgt := 391) (pc' := 379) dL_many_376 rfl rfl (fun hc hF => ?_) (fun hc hF => ?_) hF
                      · skip
                        refine jj_iconst (v := (0 : Int32)) (pc' := 392) dL_many_391 rfl rfl ?_
                        exact jj_retI (ty := .boolean) rfl rfl dL_many_392 ⟨Nat.le_of_ble_eq_true rfl, Nat.le_of_ble_eq_true rfl⟩ hF
                      · skip
                        refine jj_wide (kc' := 481) (ks' := 5421) (Nat.le_of_ble_eq_true rfl) (Nat.le_of_ble_eq_true rfl) ?_
                        exact jj_pick [0] rfl (BL_many_379 N N a0 h119 _ hF)
set_option maxRecDepth 100000 in
set_option maxHeartbeats 4000000 in
theorem BL_many_241 (N : Nat) : ∀ (n : Nat) (a0 : Nat) (h : jm_H) (X : jm_X), FL_many_241 N n a0 h = some X → jm_J M_L_many 241 [(0, .ref a0)] [] h 335 4545 X := by
  intro n
  induction n with
  | zero =>
    intro a0 h X hF
    exact nomatch (show (none : Option jm_X) = some X from hF)
  | succ n ih =>
    intro a0 h X hF
    rw [FL_many_241] at hF
    refine jj_aload_n (j := 0) (i := 0) (pc' := 242) dL_many_241 rfl rfl rfl ?_
    refine jj_iconst (v := (0 : Int32)) (pc' := 243) dL_many_242 rfl rfl ?_
    refine jj_iconst (v := (3 : Int32)) (pc' := 244) dL_many_243 rfl rfl ?_
    refine jj_cI (N := M_X3_filmOf) (kc' := 337) (ks' := 4557) (pc' := 247) (jg_V (N := M_X3_filmOf) (ci := 3) (rest := []) (as := [.int ((0 : Int32)), .int ((3 : Int32))]) cf_L_60 dL_many_244 ⟨rfl, rfl⟩ rfl rfl ⟨Nat.le_of_ble_eq_true rfl, Nat.le_of_ble_eq_true rfl⟩ ⟨Nat.le_of_ble_eq_true rfl, Nat.le_of_ble_eq_true rfl⟩ (Nat.le_of_ble_eq_true rfl) (fun X' hX => KX3_filmOf hX)) rfl rfl rfl rfl ⟨Nat.le_of_ble_eq_true rfl, Nat.le_of_ble_eq_true rfl⟩ rfl hF (fun x102 h101 hF => ?_)
    refine jj_sipush (v := (2400 : Int32)) (pc' := 250) dL_many_247 rfl rfl ?_
    refine jj_icmp_ne (tgt := 264) (pc' := 253) dL_many_250 rfl rfl (fun hc hF => ?_) (fun hc hF => ?_) hF
    · skip
      refine jj_iconst (v := (0 : Int32)) (pc' := 265) dL_many_264 rfl rfl ?_
      exact jj_retI (ty := .boolean) rfl rfl dL_many_265 ⟨Nat.le_of_ble_eq_true rfl, Nat.le_of_ble_eq_true rfl⟩ hF
    · skip
      refine jj_aload_n (j := 0) (i := 0) (pc' := 254) dL_many_253 rfl rfl rfl ?_
      refine jj_iconst (v := (4 : Int32)) (pc' := 255) dL_many_254 rfl rfl ?_
      refine jj_cI (N := M_X3_count) (kc' := 338) (ks' := 4563) (pc' := 258) (jg_V (N := M_X3_count) (ci := 3) (rest := []) (as := [.int ((4 : Int32))]) cf_L_81 dL_many_255 ⟨rfl, rfl⟩ rfl rfl ⟨Nat.le_of_ble_eq_true rfl, Nat.le_of_ble_eq_true rfl⟩ ⟨Nat.le_of_ble_eq_true rfl, Nat.le_of_ble_eq_true rfl⟩ (Nat.le_of_ble_eq_true rfl) (fun X' hX => KX3_count hX)) rfl rfl rfl rfl ⟨Nat.le_of_ble_eq_true rfl, Nat.le_of_ble_eq_true rfl⟩ rfl hF (fun x104 h103 hF => ?_)
      refine jj_sipush (v := (2400 : Int32)) (pc' := 261) dL_many_258 rfl rfl ?_
      refine jj_icmp_eq (tgt := 266) (pc' := 264) dL_many_261 rfl rfl (fun hc hF => ?_) (fun hc hF => ?_) hF
      · skip
        refine jj_wide (kc' := 338) (ks' := 4563) (Nat.le_of_ble_eq_true rfl) (Nat.le_of_ble_eq_true rfl) ?_
        exact jj_pick [0] rfl (BL_many_266 N N a0 h103 _ hF)
      · skip
        refine jj_iconst (v := (0 : Int32)) (pc' := 265) dL_many_264 rfl rfl ?_
        exact jj_retI (ty := .boolean) rfl rfl dL_many_265 ⟨Nat.le_of_ble_eq_true rfl, Nat.le_of_ble_eq_true rfl⟩ hF
set_option maxRecDepth 100000 in
set_option maxHeartbeats 4000000 in
theorem BL_many_83 (N : Nat) : ∀ (n : Nat) (kc : Nat) (ks : Nat) (a0 : Nat) (x1 : Int32) (h : jm_H) (X : jm_X), FL_many_83 N n kc ks a0 x1 h = some X → jm_J M_L_many 83 [(0, .ref a0), (1, .int x1)] [] h kc ks X := by
  intro n
  induction n with
  | zero =>
    intro kc ks a0 x1 h X hF
    exact nomatch (show (none : Option jm_X) = some X from hF)
  | succ n ih =>
    intro kc ks a0 x1 h X hF
    rw [FL_many_83] at hF
    obtain ⟨hk, hF⟩ := jf_k_inv hF
    refine jj_iload_n (j := 1) (i := 1) (pc' := 84) dL_many_83 rfl rfl rfl ?_
    refine jj_bipush (v := (12 : Int32)) (pc' := 86) dL_many_84 rfl rfl ?_
    refine jj_icmp_ge (tgt := 114) (pc' := 89) dL_many_86 rfl rfl (fun hc hF => ?_) (fun hc hF => ?_) hF
    · skip
      obtain ⟨hw, hF⟩ := jf_w_inv hF
      refine jj_wide hw.1 hw.2 ?_
      refine jj_aload_n (j := 0) (i := 0) (pc' := 115) dL_many_114 rfl rfl rfl ?_
      refine jj_bipush (v := (7 : Int32)) (pc' := 117) dL_many_115 rfl rfl ?_
      refine jj_iconst (v := (2 : Int32)) (pc' := 118) dL_many_117 rfl rfl ?_
      refine jj_sipush (v := (1999 : Int32)) (pc' := 121) dL_many_118 rfl rfl ?_
      refine jj_bipush (v := (20 : Int32)) (pc' := 123) dL_many_121 rfl rfl ?_
      refine jj_iconst (v := (0 : Int32)) (pc' := 124) dL_many_123 rfl rfl ?_
      refine jj_cI (N := M_X3_whyNot) (kc' := 254) (ks' := 4059) (pc' := 127) (jg_V (N := M_X3_whyNot) (ci := 3) (rest := []) (as := [.int ((7 : Int32)), .int ((2 : Int32)), .int ((1999 : Int32)), .int ((20 : Int32)), .int ((0 : Int32))]) cf_L_84 dL_many_124 ⟨rfl, rfl⟩ rfl rfl ⟨Nat.le_of_ble_eq_true rfl, Nat.le_of_ble_eq_true rfl⟩ ⟨Nat.le_of_ble_eq_true rfl, Nat.le_of_ble_eq_true rfl⟩ (Nat.le_of_ble_eq_true rfl) (fun X' hX => KX3_whyNot hX)) rfl rfl rfl rfl ⟨Nat.le_of_ble_eq_true rfl, Nat.le_of_ble_eq_true rfl⟩ rfl hF (fun x102 h101 hF => ?_)
      refine jj_iconst (v := (1 : Int32)) (pc' := 128) dL_many_127 rfl rfl ?_
      refine jj_icmp_ne (tgt := 264) (pc' := 131) dL_many_128 rfl rfl (fun hc hF => ?_) (fun hc hF => ?_) hF
      · skip
        refine jj_iconst (v := (0 : Int32)) (pc' := 265) dL_many_264 rfl rfl ?_
        exact jj_retI (ty := .boolean) rfl rfl dL_many_265 ⟨Nat.le_of_ble_eq_true rfl, Nat.le_of_ble_eq_true rfl⟩ hF
      · skip
        refine jj_aload_n (j := 0) (i := 0) (pc' := 132) dL_many_131 rfl rfl rfl ?_
        refine jj_bipush (v := (7 : Int32)) (pc' := 134) dL_many_132 rfl rfl ?_
        refine jj_iconst (v := (2 : Int32)) (pc' := 135) dL_many_134 rfl rfl ?_
        refine jj_sipush (v := (1999 : Int32)) (pc' := 138) dL_many_135 rfl rfl ?_
        refine jj_bipush (v := (20 : Int32)) (pc' := 140) dL_many_138 rfl rfl ?_
        refine jj_iconst (v := (1 : Int32)) (pc' := 141) dL_many_140 rfl rfl ?_
        refine jj_cI (N := M_X3_whyNot) (kc' := 259) (ks' := 4089) (pc' := 144) (jg_V (N := M_X3_whyNot) (ci := 3) (rest := []) (as := [.int ((7 : Int32)), .int ((2 : Int32)), .int ((1999 : Int32)), .int ((20 : Int32)), .int ((1 : Int32))]) cf_L_84 dL_many_141 ⟨rfl, rfl⟩ rfl rfl ⟨Nat.le_of_ble_eq_true rfl, Nat.le_of_ble_eq_true rfl⟩ ⟨Nat.le_of_ble_eq_true rfl, Nat.le_of_ble_eq_true rfl⟩ (Nat.le_of_ble_eq_true rfl) (fun X' hX => KX3_whyNot hX)) rfl rfl rfl rfl ⟨Nat.le_of_ble_eq_true rfl, Nat.le_of_ble_eq_true rfl⟩ rfl hF (fun x104 h103 hF => ?_)
        refine jj_iconst (v := (-1 : Int32)) (pc' := 145) dL_many_144 rfl rfl ?_
        refine jj_icmp_ne (tgt := 264) (pc' := 148) dL_many_145 rfl rfl (fun hc hF => ?_) (fun hc hF => ?_) hF
        · skip
          refine jj_iconst (v := (0 : Int32)) (pc' := 265) dL_many_264 rfl rfl ?_
          exact jj_retI (ty := .boolean) rfl rfl dL_many_265 ⟨Nat.le_of_ble_eq_true rfl, Nat.le_of_ble_eq_true rfl⟩ hF
        · skip
          refine jj_aload_n (j := 0) (i := 0) (pc' := 149) dL_many_148 rfl rfl rfl ?_
          refine jj_iconst (v := (0 : Int32)) (pc' := 150) dL_many_149 rfl rfl ?_
          refine jj_iconst (v := (0 : Int32)) (pc' := 151) dL_many_150 rfl rfl ?_
          refine jj_iconst (v := (0 : Int32)) (pc' := 152) dL_many_151 rfl rfl ?_
          refine jj_cI (N := M_X3_nextStart) (kc' := 262) (ks' := 4107) (pc' := 155) (jg_V (N := M_X3_nextStart) (ci := 3) (rest := []) (as := [.int ((0 : Int32)), .int ((0 : Int32)), .int ((0 : Int32))]) cf_L_88 dL_many_152 ⟨rfl, rfl⟩ rfl rfl ⟨Nat.le_of_ble_eq_true rfl, Nat.le_of_ble_eq_true rfl⟩ ⟨Nat.le_of_ble_eq_true rfl, Nat.le_of_ble_eq_true rfl⟩ (Nat.le_of_ble_eq_true rfl) (fun X' hX => KX3_nextStart hX)) rfl rfl rfl rfl ⟨Nat.le_of_ble_eq_true rfl, Nat.le_of_ble_eq_true rfl⟩ rfl hF (fun x106 h105 hF => ?_)
          refine jj_iconst (v := (-1 : Int32)) (pc' := 156) dL_many_155 rfl rfl ?_
          refine jj_icmp_ne (tgt := 264) (pc' := 159) dL_many_156 rfl rfl (fun hc hF => ?_) (fun hc hF => ?_) hF
          · skip
            refine jj_iconst (v := (0 : Int32)) (pc' := 265) dL_many_264 rfl rfl ?_
            exact jj_retI (ty := .boolean) rfl rfl dL_many_265 ⟨Nat.le_of_ble_eq_true rfl, Nat.le_of_ble_eq_true rfl⟩ hF
          · skip
            refine jj_aload_n (j := 0) (i := 0) (pc' := 160) dL_many_159 rfl rfl rfl ?_
            refine jj_iconst (v := (0 : Int32)) (pc' := 161) dL_many_160 rfl rfl ?_
            refine jj_iconst (v := (0 : Int32)) (pc' := 162) dL_many_161 rfl rfl ?_
            refine jj_cI (N := M_X3_bestScreen) (kc' := 264) (ks' := 4119) (pc' := 165) (jg_V (N := M_X3_bestScreen) (ci := 3) (rest := []) (as := [.int ((0 : Int32)), .int ((0 : Int32))]) cf_L_91 dL_many_162 ⟨rfl, rfl⟩ rfl rfl ⟨Nat.le_of_ble_eq_true rfl, Nat.le_of_ble_eq_true rfl⟩ ⟨Nat.le_of_ble_eq_true rfl, Nat.le_of_ble_eq_true rfl⟩ (Nat.le_of_ble_eq_true rfl) (fun X' hX => KX3_bestScreen hX)) rfl rfl rfl rfl ⟨Nat.le_of_ble_eq_true rfl, Nat.le_of_ble_eq_true rfl⟩ rfl hF (fun x108 h107 hF => ?_)
            refine jj_iconst (v := (-1 : Int32)) (pc' := 166) dL_many_165 rfl rfl ?_
            refine jj_icmp_ne (tgt := 264) (pc' := 169) dL_many_166 rfl rfl (fun hc hF => ?_) (fun hc hF => ?_) hF
            · skip
              refine jj_iconst (v := (0 : Int32)) (pc' := 265) dL_many_264 rfl rfl ?_
              exact jj_retI (ty := .boolean) rfl rfl dL_many_265 ⟨Nat.le_of_ble_eq_true rfl, Nat.le_of_ble_eq_true rfl⟩ hF
            · skip
              refine jj_aload_n (j := 0) (i := 0) (pc' := 170) dL_many_169 rfl rfl rfl ?_
              refine jj_iconst (v := (3 : Int32)) (pc' := 171) dL_many_170 rfl rfl ?_
              refine jj_iconst (v := (0 : Int32)) (pc' := 172) dL_many_171 rfl rfl ?_
              refine jj_iconst (v := (0 : Int32)) (pc' := 173) dL_many_172 rfl rfl ?_
              refine jj_sipush (v := (500 : Int32)) (pc' := 176) dL_many_173 rfl rfl ?_
              refine jj_ldc2l (v := (500 : Int64)) (pc' := 179) dL_many_176 qw_78 rfl ?_
              refine jj_cI (N := M_L_call) (kc' := 325) (ks' := 4485) (pc' := 182) (jg_H (N := M_L_call) (rest := []) (as := [.ref a0, .int ((3 : Int32)), .int ((0 : Int32)), .int ((0 : Int32)), .int ((500 : Int32)), .long ((500 : Int64))]) cf_L_119 (by decide) dL_many_179 rfl rfl ⟨Nat.le_of_ble_eq_true rfl, Nat.le_of_ble_eq_true rfl⟩ ⟨Nat.le_of_ble_eq_true rfl, Nat.le_of_ble_eq_true rfl⟩ (Nat.le_of_ble_eq_true rfl) (fun X' hX => KL_call hX)) rfl rfl rfl rfl ⟨Nat.le_of_ble_eq_true rfl, Nat.le_of_ble_eq_true rfl⟩ rfl hF (fun x110 h109 hF => ?_)
              refine jj_bipush (v := (-13 : Int32)) (pc' := 184) dL_many_182 rfl rfl ?_
              refine jj_icmp_ne (tgt := 264) (pc' := 187) dL_many_184 rfl rfl (fun hc hF => ?_) (fun hc hF => ?_) hF
              · skip
                refine jj_iconst (v := (0 : Int32)) (pc' := 265) dL_many_264 rfl rfl ?_
                exact jj_retI (ty := .boolean) rfl rfl dL_many_265 ⟨Nat.le_of_ble_eq_true rfl, Nat.le_of_ble_eq_true rfl⟩ hF
              · skip
                refine jj_aload_n (j := 0) (i := 0) (pc' := 188) dL_many_187 rfl rfl rfl ?_
                refine jj_iconst (v := (1 : Int32)) (pc' := 189) dL_many_188 rfl rfl ?_
                refine jj_iconst (v := (1 : Int32)) (pc' := 190) dL_many_189 rfl rfl ?_
                refine jj_cI (N := M_X3_screen) (kc' := 327) (ks' := 4497) (pc' := 193) (jg_V (N := M_X3_screen) (ci := 3) (rest := []) (as := [.int ((1 : Int32)), .int ((1 : Int32))]) cf_L_72 dL_many_190 ⟨rfl, rfl⟩ rfl rfl ⟨Nat.le_of_ble_eq_true rfl, Nat.le_of_ble_eq_true rfl⟩ ⟨Nat.le_of_ble_eq_true rfl, Nat.le_of_ble_eq_true rfl⟩ (Nat.le_of_ble_eq_true rfl) (fun X' hX => KX3_screen hX)) rfl rfl rfl rfl ⟨Nat.le_of_ble_eq_true rfl, Nat.le_of_ble_eq_true rfl⟩ rfl hF (fun x112 h111 hF => ?_)
                refine jj_iconst (v := (4 : Int32)) (pc' := 194) dL_many_193 rfl rfl ?_
                refine jj_icmp_ne (tgt := 264) (pc' := 197) dL_many_194 rfl rfl (fun hc hF => ?_) (fun hc hF => ?_) hF
                · skip
                  refine jj_iconst (v := (0 : Int32)) (pc' := 265) dL_many_264 rfl rfl ?_
                  exact jj_retI (ty := .boolean) rfl rfl dL_many_265 ⟨Nat.le_of_ble_eq_true rfl, Nat.le_of_ble_eq_true rfl⟩ hF
                · skip
                  refine jj_aload_n (j := 0) (i := 0) (pc' := 198) dL_many_197 rfl rfl rfl ?_
                  refine jj_iconst (v := (1 : Int32)) (pc' := 199) dL_many_198 rfl rfl ?_
                  refine jj_iconst (v := (2 : Int32)) (pc' := 200) dL_many_199 rfl rfl ?_
                  refine jj_cI (N := M_X3_screen) (kc' := 329) (ks' := 4509) (pc' := 203) (jg_V (N := M_X3_screen) (ci := 3) (rest := []) (as := [.int ((1 : Int32)), .int ((2 : Int32))]) cf_L_72 dL_many_200 ⟨rfl, rfl⟩ rfl rfl ⟨Nat.le_of_ble_eq_true rfl, Nat.le_of_ble_eq_true rfl⟩ ⟨Nat.le_of_ble_eq_true rfl, Nat.le_of_ble_eq_true rfl⟩ (Nat.le_of_ble_eq_true rfl) (fun X' hX => KX3_screen hX)) rfl rfl rfl rfl ⟨Nat.le_of_ble_eq_true rfl, Nat.le_of_ble_eq_true rfl⟩ rfl hF (fun x114 h113 hF => ?_)
                  refine jj_bipush (v := (40 : Int32)) (pc' := 205) dL_many_203 rfl rfl ?_
                  refine jj_icmp_ne (tgt := 264) (pc' := 208) dL_many_205 rfl rfl (fun hc hF => ?_) (fun hc hF => ?_) hF
                  · skip
                    refine jj_iconst (v := (0 : Int32)) (pc' := 265) dL_many_264 rfl rfl ?_
                    exact jj_retI (ty := .boolean) rfl rfl dL_many_265 ⟨Nat.le_of_ble_eq_true rfl, Nat.le_of_ble_eq_true rfl⟩ hF
                  · skip
                    refine jj_aload_n (j := 0) (i := 0) (pc' := 209) dL_many_208 rfl rfl rfl ?_
                    refine jj_iconst (v := (1 : Int32)) (pc' := 210) dL_many_209 rfl rfl ?_
                    refine jj_iconst (v := (3 : Int32)) (pc' := 211) dL_many_210 rfl rfl ?_
                    refine jj_cI (N := M_X3_screen) (kc' := 331) (ks' := 4521) (pc' := 214) (jg_V (N := M_X3_screen) (ci := 3) (rest := []) (as := [.int ((1 : Int32)), .int ((3 : Int32))]) cf_L_72 dL_many_211 ⟨rfl, rfl⟩ rfl rfl ⟨Nat.le_of_ble_eq_true rfl, Nat.le_of_ble_eq_true rfl⟩ ⟨Nat.le_of_ble_eq_true rfl, Nat.le_of_ble_eq_true rfl⟩ (Nat.le_of_ble_eq_true rfl) (fun X' hX => KX3_screen hX)) rfl rfl rfl rfl ⟨Nat.le_of_ble_eq_true rfl, Nat.le_of_ble_eq_true rfl⟩ rfl hF (fun x116 h115 hF => ?_)
                    refine jj_bipush (v := (40 : Int32)) (pc' := 216) dL_many_214 rfl rfl ?_
                    refine jj_icmp_ne (tgt := 264) (pc' := 219) dL_many_216 rfl rfl (fun hc hF => ?_) (fun hc hF => ?_) hF
                    · skip
                      refine jj_iconst (v := (0 : Int32)) (pc' := 265) dL_many_264 rfl rfl ?_
                      exact jj_retI (ty := .boolean) rfl rfl dL_many_265 ⟨Nat.le_of_ble_eq_true rfl, Nat.le_of_ble_eq_true rfl⟩ hF
                    · skip
                      refine jj_aload_n (j := 0) (i := 0) (pc' := 220) dL_many_219 rfl rfl rfl ?_
                      refine jj_iconst (v := (1 : Int32)) (pc' := 221) dL_many_220 rfl rfl ?_
                      refine jj_iconst (v := (4 : Int32)) (pc' := 222) dL_many_221 rfl rfl ?_
                      refine jj_cI (N := M_X3_screen) (kc' := 333) (ks' := 4533) (pc' := 225) (jg_V (N := M_X3_screen) (ci := 3) (rest := []) (as := [.int ((1 : Int32)), .int ((4 : Int32))]) cf_L_72 dL_many_222 ⟨rfl, rfl⟩ rfl rfl ⟨Nat.le_of_ble_eq_true rfl, Nat.le_of_ble_eq_true rfl⟩ ⟨Nat.le_of_ble_eq_true rfl, Nat.le_of_ble_eq_true rfl⟩ (Nat.le_of_ble_eq_true rfl) (fun X' hX => KX3_screen hX)) rfl rfl rfl rfl ⟨Nat.le_of_ble_eq_true rfl, Nat.le_of_ble_eq_true rfl⟩ rfl hF (fun x118 h117 hF => ?_)
                      refine jj_bipush (v := (110 : Int32)) (pc' := 227) dL_many_225 rfl rfl ?_
                      refine jj_icmp_ne (tgt := 264) (pc' := 230) dL_many_227 rfl rfl (fun hc hF => ?_) (fun hc hF => ?_) hF
                      · skip
                        refine jj_iconst (v := (0 : Int32)) (pc' := 265) dL_many_264 rfl rfl ?_
                        exact jj_retI (ty := .boolean) rfl rfl dL_many_265 ⟨Nat.le_of_ble_eq_true rfl, Nat.le_of_ble_eq_true rfl⟩ hF
                      · skip
                        refine jj_aload_n (j := 0) (i := 0) (pc' := 231) dL_many_230 rfl rfl rfl ?_
                        refine jj_iconst (v := (0 : Int32)) (pc' := 232) dL_many_231 rfl rfl ?_
                        refine jj_iconst (v := (2 : Int32)) (pc' := 233) dL_many_232 rfl rfl ?_
                        refine jj_cI (N := M_X3_filmOf) (kc' := 335) (ks' := 4545) (pc' := 236) (jg_V (N := M_X3_filmOf) (ci := 3) (rest := []) (as := [.int ((0 : Int32)), .int ((2 : Int32))]) cf_L_60 dL_many_233 ⟨rfl, rfl⟩ rfl rfl ⟨Nat.le_of_ble_eq_true rfl, Nat.le_of_ble_eq_true rfl⟩ ⟨Nat.le_of_ble_eq_true rfl, Nat.le_of_ble_eq_true rfl⟩ (Nat.le_of_ble_eq_true rfl) (fun X' hX => KX3_filmOf hX)) rfl rfl rfl rfl ⟨Nat.le_of_ble_eq_true rfl, Nat.le_of_ble_eq_true rfl⟩ rfl hF (fun x120 h119 hF => ?_)
                        refine jj_bipush (v := (12 : Int32)) (pc' := 238) dL_many_236 rfl rfl ?_
                        refine jj_icmp_ne (tgt := 264) (pc' := 241) dL_many_238 rfl rfl (fun hc hF => ?_) (fun hc hF => ?_) hF
                        · skip
                          refine jj_iconst (v := (0 : Int32)) (pc' := 265) dL_many_264 rfl rfl ?_
                          exact jj_retI (ty := .boolean) rfl rfl dL_many_265 ⟨Nat.le_of_ble_eq_true rfl, Nat.le_of_ble_eq_true rfl⟩ hF
                        · skip
                          refine jj_wide (kc' := 335) (ks' := 4545) (Nat.le_of_ble_eq_true rfl) (Nat.le_of_ble_eq_true rfl) ?_
                          exact jj_pick [0] rfl (BL_many_241 N N a0 h119 _ hF)
    · skip
      refine jj_aload_n (j := 0) (i := 0) (pc' := 90) dL_many_89 rfl rfl rfl ?_
      refine jj_iconst (v := (0 : Int32)) (pc' := 91) dL_many_90 rfl rfl ?_
      refine jj_iload_n (j := 1) (i := 1) (pc' := 92) dL_many_91 rfl rfl rfl ?_
      refine jj_iconst (v := (3 : Int32)) (pc' := 93) dL_many_92 rfl rfl ?_
      refine jj_irem (pc' := 94) dL_many_93 (by decide) rfl ?_
      refine jj_bipush (v := (10 : Int32)) (pc' := 96) dL_many_94 rfl rfl ?_
      refine jj_iload_n (j := 1) (i := 1) (pc' := 97) dL_many_96 rfl rfl rfl ?_
      refine jj_imul (pc' := 98) dL_many_97 rfl ?_
      refine jj_iconst (v := (0 : Int32)) (pc' := 99) dL_many_98 rfl rfl ?_
      obtain ⟨hk, hF⟩ := jf_k_inv hF
      refine jj_cI (N := M_X3_show) (kc' := (kc + 5)) (ks' := (ks + 30)) (pc' := 102) (jg_V (N := M_X3_show) (ci := 3) (rest := []) (as := [.int ((0 : Int32)), .int (x1 - x1 / ((3 : Int32)) * ((3 : Int32))), .int (((10 : Int32)) * x1), .int ((0 : Int32))]) cf_L_23 dL_many_99 ⟨rfl, rfl⟩ rfl rfl ⟨Nat.le_of_ble_eq_true rfl, Nat.le_of_ble_eq_true rfl⟩ ⟨hk.1, hk.2⟩ (Nat.le_of_ble_eq_true rfl) (fun X' hX => KX3_show hX)) rfl rfl rfl rfl ⟨hk.1, hk.2⟩ rfl hF (fun x122 h121 hF => ?_)
      refine jj_iload_n (j := 1) (i := 1) (pc' := 103) dL_many_102 rfl rfl rfl ?_
      refine jj_icmp_eq (tgt := 108) (pc' := 106) dL_many_103 rfl rfl (fun hc hF => ?_) (fun hc hF => ?_) hF
      · skip
        refine jj_iinc (i := 1) (j := 1) (v := x1 + (1 : Int32)) (ls' := [(1, .int (x1 + (1 : Int32))), (0, .ref a0)]) (pc' := 111) dL_many_108 rfl rfl (Nat.le_of_ble_eq_true rfl) rfl rfl ?_
        refine jj_goto (tgt := 83) dL_many_111 rfl ?_
        exact jj_pick [1, 0] rfl (ih (kc + 5) (ks + 30) a0 (x1 + (1 : Int32)) h121 _ hF)
      · skip
        refine jj_iconst (v := (0 : Int32)) (pc' := 107) dL_many_106 rfl rfl ?_
        obtain ⟨hw, hF⟩ := jf_w_inv hF
        refine jj_wide hw.1 hw.2 ?_
        exact jj_retI (ty := .boolean) rfl rfl dL_many_107 ⟨Nat.le_of_ble_eq_true rfl, Nat.le_of_ble_eq_true rfl⟩ hF
set_option maxRecDepth 100000 in
set_option maxHeartbeats 4000000 in
theorem BL_many_10 (N : Nat) : ∀ (n : Nat) (kc : Nat) (ks : Nat) (a0 : Nat) (x1 : Int32) (h : jm_H) (X : jm_X), FL_many_10 N n kc ks a0 x1 h = some X → jm_J M_L_many 10 [(0, .ref a0), (1, .int x1)] [] h kc ks X := by
  intro n
  induction n with
  | zero =>
    intro kc ks a0 x1 h X hF
    exact nomatch (show (none : Option jm_X) = some X from hF)
  | succ n ih =>
    intro kc ks a0 x1 h X hF
    rw [FL_many_10] at hF
    obtain ⟨hk, hF⟩ := jf_k_inv hF
    refine jj_iload_n (j := 1) (i := 1) (pc' := 11) dL_many_10 rfl rfl rfl ?_
    refine jj_bipush (v := (8 : Int32)) (pc' := 13) dL_many_11 rfl rfl ?_
    refine jj_icmp_ge (tgt := 42) (pc' := 16) dL_many_13 rfl rfl (fun hc hF => ?_) (fun hc hF => ?_) hF
    · skip
      obtain ⟨hw, hF⟩ := jf_w_inv hF
      refine jj_wide hw.1 hw.2 ?_
      refine jj_aload_n (j := 0) (i := 0) (pc' := 43) dL_many_42 rfl rfl rfl ?_
      refine jj_iconst (v := (0 : Int32)) (pc' := 44) dL_many_43 rfl rfl ?_
      refine jj_iconst (v := (1 : Int32)) (pc' := 45) dL_many_44 rfl rfl ?_
      refine jj_bipush (v := (10 : Int32)) (pc' := 47) dL_many_45 rfl rfl ?_
      refine jj_iconst (v := (0 : Int32)) (pc' := 48) dL_many_47 rfl rfl ?_
      refine jj_lconst (v := (0 : Int64)) (pc' := 49) dL_many_48 rfl rfl ?_
      refine jj_cI (N := M_L_call) (kc' := 185) (ks' := 3645) (pc' := 52) (jg_H (N := M_L_call) (rest := []) (as := [.ref a0, .int ((0 : Int32)), .int ((1 : Int32)), .int ((10 : Int32)), .int ((0 : Int32)), .long ((0 : Int64))]) cf_L_119 (by decide) dL_many_49 rfl rfl ⟨Nat.le_of_ble_eq_true rfl, Nat.le_of_ble_eq_true rfl⟩ ⟨Nat.le_of_ble_eq_true rfl, Nat.le_of_ble_eq_true rfl⟩ (Nat.le_of_ble_eq_true rfl) (fun X' hX => KL_call hX)) rfl rfl rfl rfl ⟨Nat.le_of_ble_eq_true rfl, Nat.le_of_ble_eq_true rfl⟩ rfl hF (fun x102 h101 hF => ?_)
      refine jj_bipush (v := (-13 : Int32)) (pc' := 54) dL_many_52 rfl rfl ?_
      refine jj_icmp_ne (tgt := 79) (pc' := 57) dL_many_54 rfl rfl (fun hc hF => ?_) (fun hc hF => ?_) hF
      · skip
        refine jj_iconst (v := (0 : Int32)) (pc' := 80) dL_many_79 rfl rfl ?_
        exact jj_retI (ty := .boolean) rfl rfl dL_many_80 ⟨Nat.le_of_ble_eq_true rfl, Nat.le_of_ble_eq_true rfl⟩ hF
      · skip
        refine jj_aload_n (j := 0) (i := 0) (pc' := 58) dL_many_57 rfl rfl rfl ?_
        refine jj_iconst (v := (0 : Int32)) (pc' := 59) dL_many_58 rfl rfl ?_
        refine jj_iconst (v := (0 : Int32)) (pc' := 60) dL_many_59 rfl rfl ?_
        refine jj_cI (N := M_X3_set) (kc' := 187) (ks' := 3657) (pc' := 63) (jg_V (N := M_X3_set) (ci := 3) (rest := []) (as := [.int ((0 : Int32)), .int ((0 : Int32))]) cf_L_20 dL_many_60 ⟨rfl, rfl⟩ rfl rfl ⟨Nat.le_of_ble_eq_true rfl, Nat.le_of_ble_eq_true rfl⟩ ⟨Nat.le_of_ble_eq_true rfl, Nat.le_of_ble_eq_true rfl⟩ (Nat.le_of_ble_eq_true rfl) (fun X' hX => KX3_set hX)) rfl rfl rfl rfl ⟨Nat.le_of_ble_eq_true rfl, Nat.le_of_ble_eq_true rfl⟩ rfl hF (fun x104 h103 hF => ?_)
        refine jj_bipush (v := (10 : Int32)) (pc' := 65) dL_many_63 rfl rfl ?_
        refine jj_icmp_ne (tgt := 79) (pc' := 68) dL_many_65 rfl rfl (fun hc hF => ?_) (fun hc hF => ?_) hF
        · skip
          refine jj_iconst (v := (0 : Int32)) (pc' := 80) dL_many_79 rfl rfl ?_
          exact jj_retI (ty := .boolean) rfl rfl dL_many_80 ⟨Nat.le_of_ble_eq_true rfl, Nat.le_of_ble_eq_true rfl⟩ hF
        · skip
          refine jj_aload_n (j := 0) (i := 0) (pc' := 69) dL_many_68 rfl rfl rfl ?_
          refine jj_iconst (v := (1 : Int32)) (pc' := 70) dL_many_69 rfl rfl ?_
          refine jj_iconst (v := (0 : Int32)) (pc' := 71) dL_many_70 rfl rfl ?_
          refine jj_cI (N := M_X3_set) (kc' := 189) (ks' := 3669) (pc' := 74) (jg_V (N := M_X3_set) (ci := 3) (rest := []) (as := [.int ((1 : Int32)), .int ((0 : Int32))]) cf_L_20 dL_many_71 ⟨rfl, rfl⟩ rfl rfl ⟨Nat.le_of_ble_eq_true rfl, Nat.le_of_ble_eq_true rfl⟩ ⟨Nat.le_of_ble_eq_true rfl, Nat.le_of_ble_eq_true rfl⟩ (Nat.le_of_ble_eq_true rfl) (fun X' hX => KX3_set hX)) rfl rfl rfl rfl ⟨Nat.le_of_ble_eq_true rfl, Nat.le_of_ble_eq_true rfl⟩ rfl hF (fun x106 h105 hF => ?_)
          refine jj_bipush (v := (15 : Int32)) (pc' := 76) dL_many_74 rfl rfl ?_
          refine jj_icmp_eq (tgt := 81) (pc' := 79) dL_many_76 rfl rfl (fun hc hF => ?_) (fun hc hF => ?_) hF
          · skip
            refine jj_iconst (v := (0 : Int32)) (pc' := 82) dL_many_81 rfl rfl ?_
            refine jj_istore_n (i := 1) (ls' := [(1, .int ((0 : Int32))), (0, .ref a0)]) (pc' := 83) dL_many_82 rfl (Nat.le_of_ble_eq_true rfl) rfl rfl ?_
            exact jj_pick [1, 0] rfl (BL_many_83 N N 189 3669 a0 ((0 : Int32)) h105 _ hF)
          · skip
            refine jj_iconst (v := (0 : Int32)) (pc' := 80) dL_many_79 rfl rfl ?_
            exact jj_retI (ty := .boolean) rfl rfl dL_many_80 ⟨Nat.le_of_ble_eq_true rfl, Nat.le_of_ble_eq_true rfl⟩ hF
    · skip
      refine jj_aload_n (j := 0) (i := 0) (pc' := 17) dL_many_16 rfl rfl rfl ?_
      refine jj_iconst (v := (1 : Int32)) (pc' := 18) dL_many_17 rfl rfl ?_
      refine jj_iload_n (j := 1) (i := 1) (pc' := 19) dL_many_18 rfl rfl rfl ?_
      refine jj_bipush (v := (6 : Int32)) (pc' := 21) dL_many_19 rfl rfl ?_
      refine jj_irem (pc' := 22) dL_many_21 (by decide) rfl ?_
      refine jj_iadd (pc' := 23) dL_many_22 rfl ?_
      refine jj_bipush (v := (10 : Int32)) (pc' := 25) dL_many_23 rfl rfl ?_
      refine jj_iload_n (j := 1) (i := 1) (pc' := 26) dL_many_25 rfl rfl rfl ?_
      refine jj_iadd (pc' := 27) dL_many_26 rfl ?_
      obtain ⟨hk, hF⟩ := jf_k_inv hF
      refine jj_cI (N := M_X3_film) (kc' := (kc + 2)) (ks' := (ks + 12)) (pc' := 30) (jg_V (N := M_X3_film) (ci := 3) (rest := []) (as := [.int (((1 : Int32)) + (x1 - x1 / ((6 : Int32)) * ((6 : Int32)))), .int (((10 : Int32)) + x1)]) cf_L_11 dL_many_27 ⟨rfl, rfl⟩ rfl rfl ⟨Nat.le_of_ble_eq_true rfl, Nat.le_of_ble_eq_true rfl⟩ ⟨hk.1, hk.2⟩ (Nat.le_of_ble_eq_true rfl) (fun X' hX => KX3_film hX)) rfl rfl rfl rfl ⟨hk.1, hk.2⟩ rfl hF (fun x108 h107 hF => ?_)
      refine jj_iload_n (j := 1) (i := 1) (pc' := 31) dL_many_30 rfl rfl rfl ?_
      refine jj_icmp_eq (tgt := 36) (pc' := 34) dL_many_31 rfl rfl (fun hc hF => ?_) (fun hc hF => ?_) hF
      · skip
        refine jj_iinc (i := 1) (j := 1) (v := x1 + (1 : Int32)) (ls' := [(1, .int (x1 + (1 : Int32))), (0, .ref a0)]) (pc' := 39) dL_many_36 rfl rfl (Nat.le_of_ble_eq_true rfl) rfl rfl ?_
        refine jj_goto (tgt := 10) dL_many_39 rfl ?_
        exact jj_pick [1, 0] rfl (ih (kc + 2) (ks + 12) a0 (x1 + (1 : Int32)) h107 _ hF)
      · skip
        refine jj_iconst (v := (0 : Int32)) (pc' := 35) dL_many_34 rfl rfl ?_
        obtain ⟨hw, hF⟩ := jf_w_inv hF
        refine jj_wide hw.1 hw.2 ?_
        exact jj_retI (ty := .boolean) rfl rfl dL_many_35 ⟨Nat.le_of_ble_eq_true rfl, Nat.le_of_ble_eq_true rfl⟩ hF
set_option maxRecDepth 100000 in
set_option maxHeartbeats 4000000 in
theorem JL_many {N : Nat} {h : jm_H} {X : jm_X} (hF : FL_many N h = some X) : jm_J M_L_many 0 [] [] h 0 0 X := by
  unfold FL_many at hF
  refine jj_new (C := RX3) (T := TX3) (N := 8) (ci := 3) (fs := [.null, .null, .null, .null, .null, .int 0, .int 0, .int 0]) (ty := tyX3) (lv := []) (kc' := 1) (ks' := 8) (pc' := 3) dL_many_0 rfl rfl inX3 tyX3_ok ⟨qw_82, qw_83, qw_84⟩ (by decide) (by simp) rfl (jm_live rfl) rfl rfl ⟨Nat.le_of_ble_eq_true rfl, Nat.le_of_ble_eq_true rfl⟩ hF (fun o101 h102 hF => ?_)
  refine jj_dup (pc' := 4) dL_many_3 rfl rfl ?_
  refine jj_ini (N := M_X3_init) (as := []) (rest := [.ref o101]) (lv := [o101]) (kc' := 108) (ks' := 3183) (pc' := 7) cf_L_142 dL_many_4 rfl rfl ⟨Nat.le_of_ble_eq_true rfl, Nat.le_of_ble_eq_true rfl⟩ ⟨Nat.le_of_ble_eq_true rfl, Nat.le_of_ble_eq_true rfl⟩ (Nat.le_of_ble_eq_true rfl) (fun X' hX => KX3_init hX) rfl (jm_live rfl) rfl rfl rfl hF (fun h103 hF => ?_)
  refine jj_astore_n (i := 0) (ls' := [(0, .ref o101)]) (pc' := 8) dL_many_7 rfl (Nat.le_of_ble_eq_true rfl) rfl rfl ?_
  refine jj_iconst (v := (0 : Int32)) (pc' := 9) dL_many_8 rfl rfl ?_
  refine jj_istore_n (i := 1) (ls' := [(1, .int ((0 : Int32))), (0, .ref o101)]) (pc' := 10) dL_many_9 rfl (Nat.le_of_ble_eq_true rfl) rfl rfl ?_
  exact jj_pick [1, 0] rfl (BL_many_10 N N 108 3183 o101 ((0 : Int32)) h103 _ hF)
theorem KL_many {N : Nat} {h : jm_H} {X : jm_X} (hF : FL_many N h = some X) : jm_K M_L_many [] h X := jk_of rfl (by decide +kernel) rfl rfl (Nat.le_of_ble_eq_true rfl) (JL_many hF)
set_option maxRecDepth 100000 in
set_option maxHeartbeats 4000000 in
theorem BL_types_6 (N : Nat) : ∀ (n : Nat) (kc : Nat) (ks : Nat) (a0 : Nat) (l1 : Int64) (x3 : Int32) (x4 : Int32) (h : jm_H) (X : jm_X), FL_types_6 N n kc ks a0 l1 x3 x4 h = some X → jm_J M_L_types 6 [(0, .ref a0), (1, .long l1), (3, .int x3), (4, .int x4)] [] h kc ks X := by
  intro n
  induction n with
  | zero =>
    intro kc ks a0 l1 x3 x4 h X hF
    exact nomatch (show (none : Option jm_X) = some X from hF)
  | succ n ih =>
    intro kc ks a0 l1 x3 x4 h X hF
    rw [FL_types_6] at hF
    obtain ⟨hk, hF⟩ := jf_k_inv hF
    refine jj_iload (j := 3) (i := 4) (pc' := 8) dL_types_6 rfl rfl ?_
    refine jj_if_lt (tgt := 52) (pc' := 11) dL_types_8 rfl rfl (fun hc hF => ?_) (fun hc hF => ?_) hF
    · skip
      obtain ⟨hw, hF⟩ := jf_w_inv hF
      refine jj_wide hw.1 hw.2 ?_
      refine jj_iload_n (j := 2) (i := 3) (pc' := 53) dL_types_52 rfl rfl rfl ?_
      exact jj_retZ rfl dL_types_53 ⟨Nat.le_of_ble_eq_true rfl, Nat.le_of_ble_eq_true rfl⟩ hF
    · skip
      refine jj_lload_n (j := 1) (i := 1) (pc' := 12) dL_types_11 rfl rfl rfl ?_
      refine jj_iload (j := 3) (i := 4) (pc' := 14) dL_types_12 rfl rfl ?_
      refine jj_lshr (pc' := 15) dL_types_14 rfl ?_
      refine jj_ldc2l (v := (255 : Int64)) (pc' := 18) dL_types_15 qw_85 rfl ?_
      refine jj_land (pc' := 19) dL_types_18 rfl ?_
      refine jj_l2i (pc' := 20) dL_types_19 rfl ?_
      refine jj_istore (i := 5) (ls' := [(5, .int (((l1 >>> ((x4).toInt64 &&& 63)) &&& ((255 : Int64))).toInt32)), (0, .ref a0), (1, .long l1), (3, .int x3), (4, .int x4)]) (pc' := 22) dL_types_20 (Nat.le_of_ble_eq_true rfl) rfl rfl ?_
      refine jj_iload_n (j := 3) (i := 3) (pc' := 23) dL_types_22 rfl rfl rfl ?_
      refine jj_if_eq (tgt := 44) (pc' := 26) dL_types_23 rfl rfl (fun hc hF => ?_) (fun hc hF => ?_) hF
      · skip
        refine jj_iconst (v := (0 : Int32)) (pc' := 45) dL_types_44 rfl rfl ?_
        refine jj_istore_n (i := 3) (ls' := [(3, .int ((0 : Int32))), (5, .int (((l1 >>> ((x4).toInt64 &&& 63)) &&& ((255 : Int64))).toInt32)), (0, .ref a0), (1, .long l1), (4, .int x4)]) (pc' := 46) dL_types_45 rfl (Nat.le_of_ble_eq_true rfl) rfl rfl ?_
        refine jj_iinc (i := 4) (j := 4) (v := x4 + (-8 : Int32)) (ls' := [(4, .int (x4 + (-8 : Int32))), (3, .int ((0 : Int32))), (5, .int (((l1 >>> ((x4).toInt64 &&& 63)) &&& ((255 : Int64))).toInt32)), (0, .ref a0), (1, .long l1)]) (pc' := 49) dL_types_46 rfl rfl (Nat.le_of_ble_eq_true rfl) rfl rfl ?_
        refine jj_goto (tgt := 6) dL_types_49 rfl ?_
        exact jj_pick [3, 4, 1, 0] rfl (ih kc ks a0 l1 ((0 : Int32)) (x4 + (-8 : Int32)) h _ hF)
      · skip
        refine jj_iload (j := 0) (i := 5) (pc' := 28) dL_types_26 rfl rfl ?_
        refine jj_if_eq (tgt := 40) (pc' := 31) dL_types_28 rfl rfl (fun hc hF => ?_) (fun hc hF => ?_) hF
        · skip
          refine jj_iconst (v := (1 : Int32)) (pc' := 41) dL_types_40 rfl rfl ?_
          refine jj_goto (tgt := 45) dL_types_41 rfl ?_
          refine jj_istore_n (i := 3) (ls' := [(3, .int ((1 : Int32))), (5, .int (((l1 >>> ((x4).toInt64 &&& 63)) &&& ((255 : Int64))).toInt32)), (0, .ref a0), (1, .long l1), (4, .int x4)]) (pc' := 46) dL_types_45 rfl (Nat.le_of_ble_eq_true rfl) rfl rfl ?_
          refine jj_iinc (i := 4) (j := 4) (v := x4 + (-8 : Int32)) (ls' := [(4, .int (x4 + (-8 : Int32))), (3, .int ((1 : Int32))), (5, .int (((l1 >>> ((x4).toInt64 &&& 63)) &&& ((255 : Int64))).toInt32)), (0, .ref a0), (1, .long l1)]) (pc' := 49) dL_types_46 rfl rfl (Nat.le_of_ble_eq_true rfl) rfl rfl ?_
          refine jj_goto (tgt := 6) dL_types_49 rfl ?_
          exact jj_pick [3, 4, 1, 0] rfl (ih kc ks a0 l1 ((1 : Int32)) (x4 + (-8 : Int32)) h _ hF)
        · skip
          refine jj_aload_n (j := 1) (i := 0) (pc' := 32) dL_types_31 rfl rfl rfl ?_
          refine jj_iload (j := 0) (i := 5) (pc' := 34) dL_types_32 rfl rfl ?_
          obtain ⟨hk, hF⟩ := jf_k_inv hF
          refine jj_cI (N := M_X3_append) (kc' := (kc + 2)) (ks' := (ks + 12)) (pc' := 37) (jg_V (N := M_X3_append) (ci := 3) (rest := []) (as := [.int (((l1 >>> ((x4).toInt64 &&& 63)) &&& ((255 : Int64))).toInt32)]) cf_L_44 dL_types_34 ⟨rfl, rfl⟩ rfl rfl ⟨Nat.le_of_ble_eq_true rfl, Nat.le_of_ble_eq_true rfl⟩ ⟨hk.1, hk.2⟩ (Nat.le_of_ble_eq_true rfl) (fun X' hX => KX3_append hX)) rfl rfl rfl rfl ⟨hk.1, hk.2⟩ rfl hF (fun x102 h101 hF => ?_)
          refine jj_if_le (tgt := 44) (pc' := 40) dL_types_37 rfl rfl (fun hc hF => ?_) (fun hc hF => ?_) hF
          · skip
            refine jj_iconst (v := (0 : Int32)) (pc' := 45) dL_types_44 rfl rfl ?_
            refine jj_istore_n (i := 3) (ls' := [(3, .int ((0 : Int32))), (5, .int (((l1 >>> ((x4).toInt64 &&& 63)) &&& ((255 : Int64))).toInt32)), (0, .ref a0), (1, .long l1), (4, .int x4)]) (pc' := 46) dL_types_45 rfl (Nat.le_of_ble_eq_true rfl) rfl rfl ?_
            refine jj_iinc (i := 4) (j := 4) (v := x4 + (-8 : Int32)) (ls' := [(4, .int (x4 + (-8 : Int32))), (3, .int ((0 : Int32))), (5, .int (((l1 >>> ((x4).toInt64 &&& 63)) &&& ((255 : Int64))).toInt32)), (0, .ref a0), (1, .long l1)]) (pc' := 49) dL_types_46 rfl rfl (Nat.le_of_ble_eq_true rfl) rfl rfl ?_
            refine jj_goto (tgt := 6) dL_types_49 rfl ?_
            exact jj_pick [3, 4, 1, 0] rfl (ih (kc + 2) (ks + 12) a0 l1 ((0 : Int32)) (x4 + (-8 : Int32)) h101 _ hF)
          · skip
            refine jj_iconst (v := (1 : Int32)) (pc' := 41) dL_types_40 rfl rfl ?_
            refine jj_goto (tgt := 45) dL_types_41 rfl ?_
            refine jj_istore_n (i := 3) (ls' := [(3, .int ((1 : Int32))), (5, .int (((l1 >>> ((x4).toInt64 &&& 63)) &&& ((255 : Int64))).toInt32)), (0, .ref a0), (1, .long l1), (4, .int x4)]) (pc' := 46) dL_types_45 rfl (Nat.le_of_ble_eq_true rfl) rfl rfl ?_
            refine jj_iinc (i := 4) (j := 4) (v := x4 + (-8 : Int32)) (ls' := [(4, .int (x4 + (-8 : Int32))), (3, .int ((1 : Int32))), (5, .int (((l1 >>> ((x4).toInt64 &&& 63)) &&& ((255 : Int64))).toInt32)), (0, .ref a0), (1, .long l1)]) (pc' := 49) dL_types_46 rfl rfl (Nat.le_of_ble_eq_true rfl) rfl rfl ?_
            refine jj_goto (tgt := 6) dL_types_49 rfl ?_
            exact jj_pick [3, 4, 1, 0] rfl (ih (kc + 2) (ks + 12) a0 l1 ((1 : Int32)) (x4 + (-8 : Int32)) h101 _ hF)
set_option maxRecDepth 100000 in
set_option maxHeartbeats 4000000 in
theorem JL_types {N : Nat} {a0 : Nat} {l1 : Int64} {h : jm_H} {X : jm_X} (hF : FL_types N a0 l1 h = some X) : jm_J M_L_types 0 [(0, .ref a0), (1, .long l1)] [] h 0 0 X := by
  unfold FL_types at hF
  refine jj_iconst (v := (1 : Int32)) (pc' := 1) dL_types_0 rfl rfl ?_
  refine jj_istore_n (i := 3) (ls' := [(3, .int ((1 : Int32))), (0, .ref a0), (1, .long l1)]) (pc' := 2) dL_types_1 rfl (Nat.le_of_ble_eq_true rfl) rfl rfl ?_
  refine jj_bipush (v := (56 : Int32)) (pc' := 4) dL_types_2 rfl rfl ?_
  refine jj_istore (i := 4) (ls' := [(4, .int ((56 : Int32))), (3, .int ((1 : Int32))), (0, .ref a0), (1, .long l1)]) (pc' := 6) dL_types_4 (Nat.le_of_ble_eq_true rfl) rfl rfl ?_
  exact jj_pick [2, 3, 1, 0] rfl (BL_types_6 N N 0 0 a0 l1 ((1 : Int32)) ((56 : Int32)) h _ hF)
theorem KL_types {N : Nat} {a0 : Nat} {l1 : Int64} {h : jm_H} {X : jm_X} (hF : FL_types N a0 l1 h = some X) : jm_K M_L_types [.ref a0, .long l1] h X := jk_of rfl (by decide +kernel) rfl rfl (Nat.le_of_ble_eq_true rfl) (JL_types hF)
set_option maxRecDepth 100000 in
set_option maxHeartbeats 4000000 in
theorem JL_isError {N : Nat} {a0 : Nat} {l1 : Int64} {l3 : Int64} {x5 : Int32} {h : jm_H} {X : jm_X} (hF : FL_isError N a0 l1 l3 x5 h = some X) : jm_J M_L_isError 0 [(0, .ref a0), (1, .long l1), (3, .long l3), (5, .int x5)] [] h 0 0 X := by
  unfold FL_isError at hF
  refine jj_aload_n (j := 0) (i := 0) (pc' := 1) dL_isError_0 rfl rfl rfl ?_
  refine jj_cI (N := M_X3_clearBuffer) (kc' := 0) (ks' := 0) (pc' := 4) (jg_V (N := M_X3_clearBuffer) (ci := 3) (rest := []) (as := []) cf_L_152 dL_isError_1 ⟨rfl, rfl⟩ rfl rfl ⟨Nat.le_of_ble_eq_true rfl, Nat.le_of_ble_eq_true rfl⟩ ⟨Nat.le_of_ble_eq_true rfl, Nat.le_of_ble_eq_true rfl⟩ (Nat.le_of_ble_eq_true rfl) (fun X' hX => KX3_clearBuffer hX)) rfl rfl rfl rfl ⟨Nat.le_of_ble_eq_true rfl, Nat.le_of_ble_eq_true rfl⟩ rfl hF (fun x102 h101 hF => ?_)
  refine jj_if_lt (tgt := 36) (pc' := 7) dL_isError_4 rfl rfl (fun hc hF => ?_) (fun hc hF => ?_) hF
  · skip
    refine jj_iconst (v := (0 : Int32)) (pc' := 37) dL_isError_36 rfl rfl ?_
    exact jj_retI (ty := .boolean) rfl rfl dL_isError_37 ⟨Nat.le_of_ble_eq_true rfl, Nat.le_of_ble_eq_true rfl⟩ hF
  · skip
    refine jj_aload_n (j := 0) (i := 0) (pc' := 8) dL_isError_7 rfl rfl rfl ?_
    refine jj_lload_n (j := 1) (i := 1) (pc' := 9) dL_isError_8 rfl rfl rfl ?_
    refine jj_cI (N := M_L_types) (kc' := 16) (ks' := 96) (pc' := 12) (jg_S (N := M_L_types) (rest := []) (as := [.ref a0, .long l1]) cf_L_155 rfl dL_isError_9 rfl rfl ⟨Nat.le_of_ble_eq_true rfl, Nat.le_of_ble_eq_true rfl⟩ ⟨Nat.le_of_ble_eq_true rfl, Nat.le_of_ble_eq_true rfl⟩ (Nat.le_of_ble_eq_true rfl) (fun X' hX => KL_types hX)) rfl rfl rfl rfl ⟨Nat.le_of_ble_eq_true rfl, Nat.le_of_ble_eq_true rfl⟩ rfl hF (fun x104 h103 hF => ?_)
    refine jj_if_eq (tgt := 36) (pc' := 15) dL_isError_12 rfl rfl (fun hc hF => ?_) (fun hc hF => ?_) hF
    · skip
      refine jj_iconst (v := (0 : Int32)) (pc' := 37) dL_isError_36 rfl rfl ?_
      exact jj_retI (ty := .boolean) rfl rfl dL_isError_37 ⟨Nat.le_of_ble_eq_true rfl, Nat.le_of_ble_eq_true rfl⟩ hF
    · skip
      refine jj_aload_n (j := 0) (i := 0) (pc' := 16) dL_isError_15 rfl rfl rfl ?_
      refine jj_lload_n (j := 2) (i := 3) (pc' := 17) dL_isError_16 rfl rfl rfl ?_
      refine jj_cI (N := M_L_types) (kc' := 32) (ks' := 192) (pc' := 20) (jg_S (N := M_L_types) (rest := []) (as := [.ref a0, .long l3]) cf_L_155 rfl dL_isError_17 rfl rfl ⟨Nat.le_of_ble_eq_true rfl, Nat.le_of_ble_eq_true rfl⟩ ⟨Nat.le_of_ble_eq_true rfl, Nat.le_of_ble_eq_true rfl⟩ (Nat.le_of_ble_eq_true rfl) (fun X' hX => KL_types hX)) rfl rfl rfl rfl ⟨Nat.le_of_ble_eq_true rfl, Nat.le_of_ble_eq_true rfl⟩ rfl hF (fun x106 h105 hF => ?_)
      refine jj_if_eq (tgt := 36) (pc' := 23) dL_isError_20 rfl rfl (fun hc hF => ?_) (fun hc hF => ?_) hF
      · skip
        refine jj_iconst (v := (0 : Int32)) (pc' := 37) dL_isError_36 rfl rfl ?_
        exact jj_retI (ty := .boolean) rfl rfl dL_isError_37 ⟨Nat.le_of_ble_eq_true rfl, Nat.le_of_ble_eq_true rfl⟩ hF
      · skip
        refine jj_aload_n (j := 0) (i := 0) (pc' := 24) dL_isError_23 rfl rfl rfl ?_
        refine jj_cI (N := M_X3_firstError) (kc' := 32) (ks' := 192) (pc' := 27) (jg_V (N := M_X3_firstError) (ci := 3) (rest := []) (as := []) cf_L_159 dL_isError_24 ⟨rfl, rfl⟩ rfl rfl ⟨Nat.le_of_ble_eq_true rfl, Nat.le_of_ble_eq_true rfl⟩ ⟨Nat.le_of_ble_eq_true rfl, Nat.le_of_ble_eq_true rfl⟩ (Nat.le_of_ble_eq_true rfl) (fun X' hX => KX3_firstError hX)) rfl rfl rfl rfl ⟨Nat.le_of_ble_eq_true rfl, Nat.le_of_ble_eq_true rfl⟩ rfl hF (fun x108 h107 hF => ?_)
        refine jj_iload (j := 3) (i := 5) (pc' := 29) dL_isError_27 rfl rfl ?_
        refine jj_icmp_ne (tgt := 36) (pc' := 32) dL_isError_29 rfl rfl (fun hc hF => ?_) (fun hc hF => ?_) hF
        · skip
          refine jj_iconst (v := (0 : Int32)) (pc' := 37) dL_isError_36 rfl rfl ?_
          exact jj_retI (ty := .boolean) rfl rfl dL_isError_37 ⟨Nat.le_of_ble_eq_true rfl, Nat.le_of_ble_eq_true rfl⟩ hF
        · skip
          refine jj_iconst (v := (1 : Int32)) (pc' := 33) dL_isError_32 rfl rfl ?_
          refine jj_goto (tgt := 37) dL_isError_33 rfl ?_
          exact jj_retI (ty := .boolean) rfl rfl dL_isError_37 ⟨Nat.le_of_ble_eq_true rfl, Nat.le_of_ble_eq_true rfl⟩ hF
theorem KL_isError {N : Nat} {a0 : Nat} {l1 : Int64} {l3 : Int64} {x5 : Int32} {h : jm_H} {X : jm_X} (hF : FL_isError N a0 l1 l3 x5 h = some X) : jm_K M_L_isError [.ref a0, .long l1, .long l3, .int x5] h X := jk_of rfl (by decide +kernel) rfl rfl (Nat.le_of_ble_eq_true rfl) (JL_isError hF)
set_option maxRecDepth 100000 in
set_option maxHeartbeats 4000000 in
theorem BL_texts_543 (N : Nat) : ∀ (n : Nat) (kc : Nat) (ks : Nat) (a0 : Nat) (x1 : Int32) (h : jm_H) (X : jm_X), FL_texts_543 N n kc ks a0 x1 h = some X → jm_J M_L_texts 543 [(0, .ref a0), (1, .int x1)] [] h kc ks X := by
  intro n
  induction n with
  | zero =>
    intro kc ks a0 x1 h X hF
    exact nomatch (show (none : Option jm_X) = some X from hF)
  | succ n ih =>
    intro kc ks a0 x1 h X hF
    rw [FL_texts_543] at hF
    obtain ⟨hk, hF⟩ := jf_k_inv hF
    refine jj_iload_n (j := 1) (i := 1) (pc' := 544) dL_texts_543 rfl rfl rfl ?_
    refine jj_bipush (v := (60 : Int32)) (pc' := 546) dL_texts_544 rfl rfl ?_
    refine jj_icmp_ge (tgt := 577) (pc' := 549) dL_texts_546 rfl rfl (fun hc hF => ?_) (fun hc hF => ?_) hF
    · skip
      obtain ⟨hw, hF⟩ := jf_w_inv hF
      refine jj_wide hw.1 hw.2 ?_
      refine jj_aload_n (j := 0) (i := 0) (pc' := 578) dL_texts_577 rfl rfl rfl ?_
      refine jj_bipush (v := (9 : Int32)) (pc' := 580) dL_texts_578 rfl rfl ?_
      refine jj_bipush (v := (59 : Int32)) (pc' := 582) dL_texts_580 rfl rfl ?_
      refine jj_iconst (v := (0 : Int32)) (pc' := 583) dL_texts_582 rfl rfl ?_
      refine jj_iconst (v := (0 : Int32)) (pc' := 584) dL_texts_583 rfl rfl ?_
      refine jj_lconst (v := (0 : Int64)) (pc' := 585) dL_texts_584 rfl rfl ?_
      refine jj_cI (N := M_L_call) (kc' := 1063) (ks' := 8913) (pc' := 588) (jg_H (N := M_L_call) (rest := []) (as := [.ref a0, .int ((9 : Int32)), .int ((59 : Int32)), .int ((0 : Int32)), .int ((0 : Int32)), .long ((0 : Int64))]) cf_L_119 (by decide) dL_texts_585 rfl rfl ⟨Nat.le_of_ble_eq_true rfl, Nat.le_of_ble_eq_true rfl⟩ ⟨Nat.le_of_ble_eq_true rfl, Nat.le_of_ble_eq_true rfl⟩ (Nat.le_of_ble_eq_true rfl) (fun X' hX => KL_call hX)) rfl rfl rfl rfl ⟨Nat.le_of_ble_eq_true rfl, Nat.le_of_ble_eq_true rfl⟩ rfl hF (fun x102 h101 hF => ?_)
      refine jj_bipush (v := (-13 : Int32)) (pc' := 590) dL_texts_588 rfl rfl ?_
      refine jj_icmp_ne (tgt := 621) (pc' := 593) dL_texts_590 rfl rfl (fun hc hF => ?_) (fun hc hF => ?_) hF
      · skip
        refine jj_iconst (v := (0 : Int32)) (pc' := 622) dL_texts_621 rfl rfl ?_
        exact jj_retI (ty := .boolean) rfl rfl dL_texts_622 ⟨Nat.le_of_ble_eq_true rfl, Nat.le_of_ble_eq_true rfl⟩ hF
      · skip
        refine jj_aload_n (j := 0) (i := 0) (pc' := 594) dL_texts_593 rfl rfl rfl ?_
        refine jj_bipush (v := (10 : Int32)) (pc' := 596) dL_texts_594 rfl rfl ?_
        refine jj_iconst (v := (0 : Int32)) (pc' := 597) dL_texts_596 rfl rfl ?_
        refine jj_iconst (v := (0 : Int32)) (pc' := 598) dL_texts_597 rfl rfl ?_
        refine jj_iconst (v := (0 : Int32)) (pc' := 599) dL_texts_598 rfl rfl ?_
        refine jj_lconst (v := (0 : Int64)) (pc' := 600) dL_texts_599 rfl rfl ?_
        refine jj_cI (N := M_L_call) (kc' := 1124) (ks' := 9279) (pc' := 603) (jg_H (N := M_L_call) (rest := []) (as := [.ref a0, .int ((10 : Int32)), .int ((0 : Int32)), .int ((0 : Int32)), .int ((0 : Int32)), .long ((0 : Int64))]) cf_L_119 (by decide) dL_texts_600 rfl rfl ⟨Nat.le_of_ble_eq_true rfl, Nat.le_of_ble_eq_true rfl⟩ ⟨Nat.le_of_ble_eq_true rfl, Nat.le_of_ble_eq_true rfl⟩ (Nat.le_of_ble_eq_true rfl) (fun X' hX => KL_call hX)) rfl rfl rfl rfl ⟨Nat.le_of_ble_eq_true rfl, Nat.le_of_ble_eq_true rfl⟩ rfl hF (fun x104 h103 hF => ?_)
        refine jj_bipush (v := (-12 : Int32)) (pc' := 605) dL_texts_603 rfl rfl ?_
        refine jj_icmp_ne (tgt := 621) (pc' := 608) dL_texts_605 rfl rfl (fun hc hF => ?_) (fun hc hF => ?_) hF
        · skip
          refine jj_iconst (v := (0 : Int32)) (pc' := 622) dL_texts_621 rfl rfl ?_
          exact jj_retI (ty := .boolean) rfl rfl dL_texts_622 ⟨Nat.le_of_ble_eq_true rfl, Nat.le_of_ble_eq_true rfl⟩ hF
        · skip
          refine jj_aload_n (j := 0) (i := 0) (pc' := 609) dL_texts_608 rfl rfl rfl ?_
          refine jj_cI (N := M_X3_clearBuffer) (kc' := 1124) (ks' := 9279) (pc' := 612) (jg_V (N := M_X3_clearBuffer) (ci := 3) (rest := []) (as := []) cf_L_152 dL_texts_609 ⟨rfl, rfl⟩ rfl rfl ⟨Nat.le_of_ble_eq_true rfl, Nat.le_of_ble_eq_true rfl⟩ ⟨Nat.le_of_ble_eq_true rfl, Nat.le_of_ble_eq_true rfl⟩ (Nat.le_of_ble_eq_true rfl) (fun X' hX => KX3_clearBuffer hX)) rfl rfl rfl rfl ⟨Nat.le_of_ble_eq_true rfl, Nat.le_of_ble_eq_true rfl⟩ rfl hF (fun x106 h105 hF => ?_)
          refine jj_bipush (v := (60 : Int32)) (pc' := 614) dL_texts_612 rfl rfl ?_
          refine jj_icmp_ne (tgt := 621) (pc' := 617) dL_texts_614 rfl rfl (fun hc hF => ?_) (fun hc hF => ?_) hF
          · skip
            refine jj_iconst (v := (0 : Int32)) (pc' := 622) dL_texts_621 rfl rfl ?_
            exact jj_retI (ty := .boolean) rfl rfl dL_texts_622 ⟨Nat.le_of_ble_eq_true rfl, Nat.le_of_ble_eq_true rfl⟩ hF
          · skip
            refine jj_iconst (v := (1 : Int32)) (pc' := 618) dL_texts_617 rfl rfl ?_
            refine jj_goto (tgt := 622) dL_texts_618 rfl ?_
            exact jj_retI (ty := .boolean) rfl rfl dL_texts_622 ⟨Nat.le_of_ble_eq_true rfl, Nat.le_of_ble_eq_true rfl⟩ hF
    · skip
      refine jj_aload_n (j := 0) (i := 0) (pc' := 550) dL_texts_549 rfl rfl rfl ?_
      refine jj_bipush (v := (55 : Int32)) (pc' := 552) dL_texts_550 rfl rfl ?_
      obtain ⟨hk, hF⟩ := jf_k_inv hF
      refine jj_cI (N := M_X3_append) (kc' := (kc + 2)) (ks' := (ks + 12)) (pc' := 555) (jg_V (N := M_X3_append) (ci := 3) (rest := []) (as := [.int ((55 : Int32))]) cf_L_44 dL_texts_552 ⟨rfl, rfl⟩ rfl rfl ⟨Nat.le_of_ble_eq_true rfl, Nat.le_of_ble_eq_true rfl⟩ ⟨hk.1, hk.2⟩ (Nat.le_of_ble_eq_true rfl) (fun X' hX => KX3_append hX)) rfl rfl rfl rfl ⟨hk.1, hk.2⟩ rfl hF (fun x108 h107 hF => ?_)
      refine jj_iload_n (j := 1) (i := 1) (pc' := 556) dL_texts_555 rfl rfl rfl ?_
      refine jj_iconst (v := (1 : Int32)) (pc' := 557) dL_texts_556 rfl rfl ?_
      refine jj_iadd (pc' := 558) dL_texts_557 rfl ?_
      refine jj_icmp_ne (tgt := 569) (pc' := 561) dL_texts_558 rfl rfl (fun hc hF => ?_) (fun hc hF => ?_) hF
      · skip
        refine jj_iconst (v := (0 : Int32)) (pc' := 570) dL_texts_569 rfl rfl ?_
        obtain ⟨hw, hF⟩ := jf_w_inv hF
        refine jj_wide hw.1 hw.2 ?_
        exact jj_retI (ty := .boolean) rfl rfl dL_texts_570 ⟨Nat.le_of_ble_eq_true rfl, Nat.le_of_ble_eq_true rfl⟩ hF
      · skip
        refine jj_aload_n (j := 0) (i := 0) (pc' := 562) dL_texts_561 rfl rfl rfl ?_
        refine jj_cI (N := M_X3_firstError) (kc' := (kc + 2)) (ks' := (ks + 12)) (pc' := 565) (jg_V (N := M_X3_firstError) (ci := 3) (rest := []) (as := []) cf_L_159 dL_texts_562 ⟨rfl, rfl⟩ rfl rfl ⟨Nat.le_of_ble_eq_true rfl, Nat.le_of_ble_eq_true rfl⟩ ⟨hk.1, hk.2⟩ (Nat.le_of_ble_eq_true rfl) (fun X' hX => KX3_firstError hX)) rfl rfl rfl rfl ⟨hk.1, hk.2⟩ rfl hF (fun x110 h109 hF => ?_)
        refine jj_iconst (v := (1 : Int32)) (pc' := 566) dL_texts_565 rfl rfl ?_
        refine jj_icmp_eq (tgt := 571) (pc' := 569) dL_texts_566 rfl rfl (fun hc hF => ?_) (fun hc hF => ?_) hF
        · skip
          refine jj_iinc (i := 1) (j := 1) (v := x1 + (1 : Int32)) (ls' := [(1, .int (x1 + (1 : Int32))), (0, .ref a0)]) (pc' := 574) dL_texts_571 rfl rfl (Nat.le_of_ble_eq_true rfl) rfl rfl ?_
          refine jj_goto (tgt := 543) dL_texts_574 rfl ?_
          exact jj_pick [1, 0] rfl (ih (kc + 2) (ks + 12) a0 (x1 + (1 : Int32)) h109 _ hF)
        · skip
          refine jj_iconst (v := (0 : Int32)) (pc' := 570) dL_texts_569 rfl rfl ?_
          obtain ⟨hw, hF⟩ := jf_w_inv hF
          refine jj_wide hw.1 hw.2 ?_
          exact jj_retI (ty := .boolean) rfl rfl dL_texts_570 ⟨Nat.le_of_ble_eq_true rfl, Nat.le_of_ble_eq_true rfl⟩ hF
set_option maxRecDepth 100000 in
set_option maxHeartbeats 4000000 in
theorem BL_texts_521 (N : Nat) : ∀ (n : Nat) (a0 : Nat) (h : jm_H) (X : jm_X), FL_texts_521 N n a0 h = some X → jm_J M_L_texts 521 [(0, .ref a0)] [] h 880 7815 X := by
  intro n
  induction n with
  | zero =>
    intro a0 h X hF
    exact nomatch (show (none : Option jm_X) = some X from hF)
  | succ n ih =>
    intro a0 h X hF
    rw [FL_texts_521] at hF
    refine jj_aload_n (j := 0) (i := 0) (pc' := 522) dL_texts_521 rfl rfl rfl ?_
    refine jj_iconst (v := (1 : Int32)) (pc' := 523) dL_texts_522 rfl rfl ?_
    refine jj_cI (N := M_X3_stopped) (kc' := 881) (ks' := 7821) (pc' := 526) (jg_V (N := M_X3_stopped) (ci := 3) (rest := []) (as := [.int ((1 : Int32))]) cf_L_51 dL_texts_523 ⟨rfl, rfl⟩ rfl rfl ⟨Nat.le_of_ble_eq_true rfl, Nat.le_of_ble_eq_true rfl⟩ ⟨Nat.le_of_ble_eq_true rfl, Nat.le_of_ble_eq_true rfl⟩ (Nat.le_of_ble_eq_true rfl) (fun X' hX => KX3_stopped hX)) rfl rfl rfl rfl ⟨Nat.le_of_ble_eq_true rfl, Nat.le_of_ble_eq_true rfl⟩ rfl hF (fun x102 h101 hF => ?_)
    refine jj_iconst (v := (3 : Int32)) (pc' := 527) dL_texts_526 rfl rfl ?_
    refine jj_icmp_ne (tgt := 539) (pc' := 530) dL_texts_527 rfl rfl (fun hc hF => ?_) (fun hc hF => ?_) hF
    · skip
      refine jj_iconst (v := (0 : Int32)) (pc' := 540) dL_texts_539 rfl rfl ?_
      exact jj_retI (ty := .boolean) rfl rfl dL_texts_540 ⟨Nat.le_of_ble_eq_true rfl, Nat.le_of_ble_eq_true rfl⟩ hF
    · skip
      refine jj_aload_n (j := 0) (i := 0) (pc' := 531) dL_texts_530 rfl rfl rfl ?_
      refine jj_iconst (v := (2 : Int32)) (pc' := 532) dL_texts_531 rfl rfl ?_
      refine jj_cI (N := M_X3_stopped) (kc' := 882) (ks' := 7827) (pc' := 535) (jg_V (N := M_X3_stopped) (ci := 3) (rest := []) (as := [.int ((2 : Int32))]) cf_L_51 dL_texts_532 ⟨rfl, rfl⟩ rfl rfl ⟨Nat.le_of_ble_eq_true rfl, Nat.le_of_ble_eq_true rfl⟩ ⟨Nat.le_of_ble_eq_true rfl, Nat.le_of_ble_eq_true rfl⟩ (Nat.le_of_ble_eq_true rfl) (fun X' hX => KX3_stopped hX)) rfl rfl rfl rfl ⟨Nat.le_of_ble_eq_true rfl, Nat.le_of_ble_eq_true rfl⟩ rfl hF (fun x104 h103 hF => ?_)
      refine jj_iconst (v := (1 : Int32)) (pc' := 536) dL_texts_535 rfl rfl ?_
      refine jj_icmp_eq (tgt := 541) (pc' := 539) dL_texts_536 rfl rfl (fun hc hF => ?_) (fun hc hF => ?_) hF
      · skip
        refine jj_iconst (v := (0 : Int32)) (pc' := 542) dL_texts_541 rfl rfl ?_
        refine jj_istore_n (i := 1) (ls' := [(1, .int ((0 : Int32))), (0, .ref a0)]) (pc' := 543) dL_texts_542 rfl (Nat.le_of_ble_eq_true rfl) rfl rfl ?_
        exact jj_pick [1, 0] rfl (BL_texts_543 N N 882 7827 a0 ((0 : Int32)) h103 _ hF)
      · skip
        refine jj_iconst (v := (0 : Int32)) (pc' := 540) dL_texts_539 rfl rfl ?_
        exact jj_retI (ty := .boolean) rfl rfl dL_texts_540 ⟨Nat.le_of_ble_eq_true rfl, Nat.le_of_ble_eq_true rfl⟩ hF
set_option maxRecDepth 100000 in
set_option maxHeartbeats 4000000 in
theorem BL_texts_435 (N : Nat) : ∀ (n : Nat) (a0 : Nat) (h : jm_H) (X : jm_X), FL_texts_435 N n a0 h = some X → jm_J M_L_texts 435 [(0, .ref a0)] [] h 840 7575 X := by
  intro n
  induction n with
  | zero =>
    intro a0 h X hF
    exact nomatch (show (none : Option jm_X) = some X from hF)
  | succ n ih =>
    intro a0 h X hF
    rw [FL_texts_435] at hF
    refine jj_aload_n (j := 0) (i := 0) (pc' := 436) dL_texts_435 rfl rfl rfl ?_
    refine jj_iconst (v := (2 : Int32)) (pc' := 437) dL_texts_436 rfl rfl ?_
    refine jj_cI (N := M_X3_stopped) (kc' := 841) (ks' := 7581) (pc' := 440) (jg_V (N := M_X3_stopped) (ci := 3) (rest := []) (as := [.int ((2 : Int32))]) cf_L_51 dL_texts_437 ⟨rfl, rfl⟩ rfl rfl ⟨Nat.le_of_ble_eq_true rfl, Nat.le_of_ble_eq_true rfl⟩ ⟨Nat.le_of_ble_eq_true rfl, Nat.le_of_ble_eq_true rfl⟩ (Nat.le_of_ble_eq_true rfl) (fun X' hX => KX3_stopped hX)) rfl rfl rfl rfl ⟨Nat.le_of_ble_eq_true rfl, Nat.le_of_ble_eq_true rfl⟩ rfl hF (fun x102 h101 hF => ?_)
    refine jj_iconst (v := (-1 : Int32)) (pc' := 441) dL_texts_440 rfl rfl ?_
    refine jj_icmp_ne (tgt := 539) (pc' := 444) dL_texts_441 rfl rfl (fun hc hF => ?_) (fun hc hF => ?_) hF
    · skip
      refine jj_iconst (v := (0 : Int32)) (pc' := 540) dL_texts_539 rfl rfl ?_
      exact jj_retI (ty := .boolean) rfl rfl dL_texts_540 ⟨Nat.le_of_ble_eq_true rfl, Nat.le_of_ble_eq_true rfl⟩ hF
    · skip
      refine jj_aload_n (j := 0) (i := 0) (pc' := 445) dL_texts_444 rfl rfl rfl ?_
      refine jj_iconst (v := (1 : Int32)) (pc' := 446) dL_texts_445 rfl rfl ?_
      refine jj_cI (N := M_X3_count) (kc' := 842) (ks' := 7587) (pc' := 449) (jg_V (N := M_X3_count) (ci := 3) (rest := []) (as := [.int ((1 : Int32))]) cf_L_81 dL_texts_446 ⟨rfl, rfl⟩ rfl rfl ⟨Nat.le_of_ble_eq_true rfl, Nat.le_of_ble_eq_true rfl⟩ ⟨Nat.le_of_ble_eq_true rfl, Nat.le_of_ble_eq_true rfl⟩ (Nat.le_of_ble_eq_true rfl) (fun X' hX => KX3_count hX)) rfl rfl rfl rfl ⟨Nat.le_of_ble_eq_true rfl, Nat.le_of_ble_eq_true rfl⟩ rfl hF (fun x104 h103 hF => ?_)
      refine jj_iconst (v := (3 : Int32)) (pc' := 450) dL_texts_449 rfl rfl ?_
      refine jj_icmp_ne (tgt := 539) (pc' := 453) dL_texts_450 rfl rfl (fun hc hF => ?_) (fun hc hF => ?_) hF
      · skip
        refine jj_iconst (v := (0 : Int32)) (pc' := 540) dL_texts_539 rfl rfl ?_
        exact jj_retI (ty := .boolean) rfl rfl dL_texts_540 ⟨Nat.le_of_ble_eq_true rfl, Nat.le_of_ble_eq_true rfl⟩ hF
      · skip
        refine jj_aload_n (j := 0) (i := 0) (pc' := 454) dL_texts_453 rfl rfl rfl ?_
        refine jj_cI (N := M_X3_undo) (kc' := 843) (ks' := 7593) (pc' := 457) (jg_V (N := M_X3_undo) (ci := 3) (rest := []) (as := []) cf_L_54 dL_texts_454 ⟨rfl, rfl⟩ rfl rfl ⟨Nat.le_of_ble_eq_true rfl, Nat.le_of_ble_eq_true rfl⟩ ⟨Nat.le_of_ble_eq_true rfl, Nat.le_of_ble_eq_true rfl⟩ (Nat.le_of_ble_eq_true rfl) (fun X' hX => KX3_undo hX)) rfl rfl rfl rfl ⟨Nat.le_of_ble_eq_true rfl, Nat.le_of_ble_eq_true rfl⟩ rfl hF (fun x106 h105 hF => ?_)
        refine jj_iconst (v := (3 : Int32)) (pc' := 458) dL_texts_457 rfl rfl ?_
        refine jj_icmp_ne (tgt := 539) (pc' := 461) dL_texts_458 rfl rfl (fun hc hF => ?_) (fun hc hF => ?_) hF
        · skip
          refine jj_iconst (v := (0 : Int32)) (pc' := 540) dL_texts_539 rfl rfl ?_
          exact jj_retI (ty := .boolean) rfl rfl dL_texts_540 ⟨Nat.le_of_ble_eq_true rfl, Nat.le_of_ble_eq_true rfl⟩ hF
        · skip
          refine jj_aload_n (j := 0) (i := 0) (pc' := 462) dL_texts_461 rfl rfl rfl ?_
          refine jj_iconst (v := (1 : Int32)) (pc' := 463) dL_texts_462 rfl rfl ?_
          refine jj_cI (N := M_X3_stopped) (kc' := 844) (ks' := 7599) (pc' := 466) (jg_V (N := M_X3_stopped) (ci := 3) (rest := []) (as := [.int ((1 : Int32))]) cf_L_51 dL_texts_463 ⟨rfl, rfl⟩ rfl rfl ⟨Nat.le_of_ble_eq_true rfl, Nat.le_of_ble_eq_true rfl⟩ ⟨Nat.le_of_ble_eq_true rfl, Nat.le_of_ble_eq_true rfl⟩ (Nat.le_of_ble_eq_true rfl) (fun X' hX => KX3_stopped hX)) rfl rfl rfl rfl ⟨Nat.le_of_ble_eq_true rfl, Nat.le_of_ble_eq_true rfl⟩ rfl hF (fun x108 h107 hF => ?_)
          refine jj_iconst (v := (5 : Int32)) (pc' := 467) dL_texts_466 rfl rfl ?_
          refine jj_icmp_ne (tgt := 539) (pc' := 470) dL_texts_467 rfl rfl (fun hc hF => ?_) (fun hc hF => ?_) hF
          · skip
            refine jj_iconst (v := (0 : Int32)) (pc' := 540) dL_texts_539 rfl rfl ?_
            exact jj_retI (ty := .boolean) rfl rfl dL_texts_540 ⟨Nat.le_of_ble_eq_true rfl, Nat.le_of_ble_eq_true rfl⟩ hF
          · skip
            refine jj_aload_n (j := 0) (i := 0) (pc' := 471) dL_texts_470 rfl rfl rfl ?_
            refine jj_ldc2l (v := (3472049089011070513 : Int64)) (pc' := 474) dL_texts_471 qw_113 rfl ?_
            refine jj_cI (N := M_L_types) (kc' := 860) (ks' := 7695) (pc' := 477) (jg_S (N := M_L_types) (rest := []) (as := [.ref a0, .long ((3472049089011070513 : Int64))]) cf_L_155 rfl dL_texts_474 rfl rfl ⟨Nat.le_of_ble_eq_true rfl, Nat.le_of_ble_eq_true rfl⟩ ⟨Nat.le_of_ble_eq_true rfl, Nat.le_of_ble_eq_true rfl⟩ (Nat.le_of_ble_eq_true rfl) (fun X' hX => KL_types hX)) rfl rfl rfl rfl ⟨Nat.le_of_ble_eq_true rfl, Nat.le_of_ble_eq_true rfl⟩ rfl hF (fun x110 h109 hF => ?_)
            refine jj_if_eq (tgt := 539) (pc' := 480) dL_texts_477 rfl rfl (fun hc hF => ?_) (fun hc hF => ?_) hF
            · skip
              refine jj_iconst (v := (0 : Int32)) (pc' := 540) dL_texts_539 rfl rfl ?_
              exact jj_retI (ty := .boolean) rfl rfl dL_texts_540 ⟨Nat.le_of_ble_eq_true rfl, Nat.le_of_ble_eq_true rfl⟩ hF
            · skip
              refine jj_aload_n (j := 0) (i := 0) (pc' := 481) dL_texts_480 rfl rfl rfl ?_
              refine jj_cI (N := M_X3_program) (kc' := 861) (ks' := 7701) (pc' := 484) (jg_V (N := M_X3_program) (ci := 3) (rest := []) (as := []) cf_L_47 dL_texts_481 ⟨rfl, rfl⟩ rfl rfl ⟨Nat.le_of_ble_eq_true rfl, Nat.le_of_ble_eq_true rfl⟩ ⟨Nat.le_of_ble_eq_true rfl, Nat.le_of_ble_eq_true rfl⟩ (Nat.le_of_ble_eq_true rfl) (fun X' hX => KX3_program hX)) rfl rfl rfl rfl ⟨Nat.le_of_ble_eq_true rfl, Nat.le_of_ble_eq_true rfl⟩ rfl hF (fun x112 h111 hF => ?_)
              refine jj_if_ne (tgt := 539) (pc' := 487) dL_texts_484 rfl rfl (fun hc hF => ?_) (fun hc hF => ?_) hF
              · skip
                refine jj_iconst (v := (0 : Int32)) (pc' := 540) dL_texts_539 rfl rfl ?_
                exact jj_retI (ty := .boolean) rfl rfl dL_texts_540 ⟨Nat.le_of_ble_eq_true rfl, Nat.le_of_ble_eq_true rfl⟩ hF
              · skip
                refine jj_aload_n (j := 0) (i := 0) (pc' := 488) dL_texts_487 rfl rfl rfl ?_
                refine jj_iconst (v := (1 : Int32)) (pc' := 489) dL_texts_488 rfl rfl ?_
                refine jj_cI (N := M_X3_stopped) (kc' := 862) (ks' := 7707) (pc' := 492) (jg_V (N := M_X3_stopped) (ci := 3) (rest := []) (as := [.int ((1 : Int32))]) cf_L_51 dL_texts_489 ⟨rfl, rfl⟩ rfl rfl ⟨Nat.le_of_ble_eq_true rfl, Nat.le_of_ble_eq_true rfl⟩ ⟨Nat.le_of_ble_eq_true rfl, Nat.le_of_ble_eq_true rfl⟩ (Nat.le_of_ble_eq_true rfl) (fun X' hX => KX3_stopped hX)) rfl rfl rfl rfl ⟨Nat.le_of_ble_eq_true rfl, Nat.le_of_ble_eq_true rfl⟩ rfl hF (fun x114 h113 hF => ?_)
                refine jj_iconst (v := (2 : Int32)) (pc' := 493) dL_texts_492 rfl rfl ?_
                refine jj_icmp_ne (tgt := 539) (pc' := 496) dL_texts_493 rfl rfl (fun hc hF => ?_) (fun hc hF => ?_) hF
                · skip
                  refine jj_iconst (v := (0 : Int32)) (pc' := 540) dL_texts_539 rfl rfl ?_
                  exact jj_retI (ty := .boolean) rfl rfl dL_texts_540 ⟨Nat.le_of_ble_eq_true rfl, Nat.le_of_ble_eq_true rfl⟩ hF
                · skip
                  refine jj_aload_n (j := 0) (i := 0) (pc' := 497) dL_texts_496 rfl rfl rfl ?_
                  refine jj_iconst (v := (0 : Int32)) (pc' := 498) dL_texts_497 rfl rfl ?_
                  refine jj_cI (N := M_X3_stopped) (kc' := 863) (ks' := 7713) (pc' := 501) (jg_V (N := M_X3_stopped) (ci := 3) (rest := []) (as := [.int ((0 : Int32))]) cf_L_51 dL_texts_498 ⟨rfl, rfl⟩ rfl rfl ⟨Nat.le_of_ble_eq_true rfl, Nat.le_of_ble_eq_true rfl⟩ ⟨Nat.le_of_ble_eq_true rfl, Nat.le_of_ble_eq_true rfl⟩ (Nat.le_of_ble_eq_true rfl) (fun X' hX => KX3_stopped hX)) rfl rfl rfl rfl ⟨Nat.le_of_ble_eq_true rfl, Nat.le_of_ble_eq_true rfl⟩ rfl hF (fun x116 h115 hF => ?_)
                  refine jj_if_ne (tgt := 539) (pc' := 504) dL_texts_501 rfl rfl (fun hc hF => ?_) (fun hc hF => ?_) hF
                  · skip
                    refine jj_iconst (v := (0 : Int32)) (pc' := 540) dL_texts_539 rfl rfl ?_
                    exact jj_retI (ty := .boolean) rfl rfl dL_texts_540 ⟨Nat.le_of_ble_eq_true rfl, Nat.le_of_ble_eq_true rfl⟩ hF
                  · skip
                    refine jj_aload_n (j := 0) (i := 0) (pc' := 505) dL_texts_504 rfl rfl rfl ?_
                    refine jj_ldc2l (v := (13562687459046201 : Int64)) (pc' := 508) dL_texts_505 qw_114 rfl ?_
                    refine jj_cI (N := M_L_types) (kc' := 879) (ks' := 7809) (pc' := 511) (jg_S (N := M_L_types) (rest := []) (as := [.ref a0, .long ((13562687459046201 : Int64))]) cf_L_155 rfl dL_texts_508 rfl rfl ⟨Nat.le_of_ble_eq_true rfl, Nat.le_of_ble_eq_true rfl⟩ ⟨Nat.le_of_ble_eq_true rfl, Nat.le_of_ble_eq_true rfl⟩ (Nat.le_of_ble_eq_true rfl) (fun X' hX => KL_types hX)) rfl rfl rfl rfl ⟨Nat.le_of_ble_eq_true rfl, Nat.le_of_ble_eq_true rfl⟩ rfl hF (fun x118 h117 hF => ?_)
                    refine jj_if_eq (tgt := 539) (pc' := 514) dL_texts_511 rfl rfl (fun hc hF => ?_) (fun hc hF => ?_) hF
                    · skip
                      refine jj_iconst (v := (0 : Int32)) (pc' := 540) dL_texts_539 rfl rfl ?_
                      exact jj_retI (ty := .boolean) rfl rfl dL_texts_540 ⟨Nat.le_of_ble_eq_true rfl, Nat.le_of_ble_eq_true rfl⟩ hF
                    · skip
                      refine jj_aload_n (j := 0) (i := 0) (pc' := 515) dL_texts_514 rfl rfl rfl ?_
                      refine jj_cI (N := M_X3_program) (kc' := 880) (ks' := 7815) (pc' := 518) (jg_V (N := M_X3_program) (ci := 3) (rest := []) (as := []) cf_L_47 dL_texts_515 ⟨rfl, rfl⟩ rfl rfl ⟨Nat.le_of_ble_eq_true rfl, Nat.le_of_ble_eq_true rfl⟩ ⟨Nat.le_of_ble_eq_true rfl, Nat.le_of_ble_eq_true rfl⟩ (Nat.le_of_ble_eq_true rfl) (fun X' hX => KX3_program hX)) rfl rfl rfl rfl ⟨Nat.le_of_ble_eq_true rfl, Nat.le_of_ble_eq_true rfl⟩ rfl hF (fun x120 h119 hF => ?_)
                      refine jj_if_ne (tgt := 539) (pc' := 521) dL_texts_518 rfl rfl (fun hc hF => ?_) (fun hc hF => ?_) hF
                      · skip
                        refine jj_iconst (v := (0 : Int32)) (pc' := 540) dL_texts_539 rfl rfl ?_
                        exact jj_retI (ty := .boolean) rfl rfl dL_texts_540 ⟨Nat.le_of_ble_eq_true rfl, Nat.le_of_ble_eq_true rfl⟩ hF
                      · skip
                        refine jj_wide (kc' := 880) (ks' := 7815) (Nat.le_of_ble_eq_true rfl) (Nat.le_of_ble_eq_true rfl) ?_
                        exact jj_pick [0] rfl (BL_texts_521 N N a0 h119 _ hF)
set_option maxRecDepth 100000 in
set_option maxHeartbeats 4000000 in
theorem BL_texts_345 (N : Nat) : ∀ (n : Nat) (a0 : Nat) (h : jm_H) (X : jm_X), FL_texts_345 N n a0 h = some X → jm_J M_L_texts 345 [(0, .ref a0)] [] h 785 7245 X := by
  intro n
  induction n with
  | zero =>
    intro a0 h X hF
    exact nomatch (show (none : Option jm_X) = some X from hF)
  | succ n ih =>
    intro a0 h X hF
    rw [FL_texts_345] at hF
    refine jj_aload_n (j := 0) (i := 0) (pc' := 346) dL_texts_345 rfl rfl rfl ?_
    refine jj_iconst (v := (2 : Int32)) (pc' := 347) dL_texts_346 rfl rfl ?_
    refine jj_cI (N := M_X3_stopped) (kc' := 786) (ks' := 7251) (pc' := 350) (jg_V (N := M_X3_stopped) (ci := 3) (rest := []) (as := [.int ((2 : Int32))]) cf_L_51 dL_texts_347 ⟨rfl, rfl⟩ rfl rfl ⟨Nat.le_of_ble_eq_true rfl, Nat.le_of_ble_eq_true rfl⟩ ⟨Nat.le_of_ble_eq_true rfl, Nat.le_of_ble_eq_true rfl⟩ (Nat.le_of_ble_eq_true rfl) (fun X' hX => KX3_stopped hX)) rfl rfl rfl rfl ⟨Nat.le_of_ble_eq_true rfl, Nat.le_of_ble_eq_true rfl⟩ rfl hF (fun x102 h101 hF => ?_)
    refine jj_if_ne (tgt := 539) (pc' := 353) dL_texts_350 rfl rfl (fun hc hF => ?_) (fun hc hF => ?_) hF
    · skip
      refine jj_iconst (v := (0 : Int32)) (pc' := 540) dL_texts_539 rfl rfl ?_
      exact jj_retI (ty := .boolean) rfl rfl dL_texts_540 ⟨Nat.le_of_ble_eq_true rfl, Nat.le_of_ble_eq_true rfl⟩ hF
    · skip
      refine jj_aload_n (j := 0) (i := 0) (pc' := 354) dL_texts_353 rfl rfl rfl ?_
      refine jj_ldc2l (v := (3472047989515628603 : Int64)) (pc' := 357) dL_texts_354 qw_110 rfl ?_
      refine jj_cI (N := M_L_types) (kc' := 802) (ks' := 7347) (pc' := 360) (jg_S (N := M_L_types) (rest := []) (as := [.ref a0, .long ((3472047989515628603 : Int64))]) cf_L_155 rfl dL_texts_357 rfl rfl ⟨Nat.le_of_ble_eq_true rfl, Nat.le_of_ble_eq_true rfl⟩ ⟨Nat.le_of_ble_eq_true rfl, Nat.le_of_ble_eq_true rfl⟩ (Nat.le_of_ble_eq_true rfl) (fun X' hX => KL_types hX)) rfl rfl rfl rfl ⟨Nat.le_of_ble_eq_true rfl, Nat.le_of_ble_eq_true rfl⟩ rfl hF (fun x104 h103 hF => ?_)
      refine jj_if_eq (tgt := 539) (pc' := 363) dL_texts_360 rfl rfl (fun hc hF => ?_) (fun hc hF => ?_) hF
      · skip
        refine jj_iconst (v := (0 : Int32)) (pc' := 540) dL_texts_539 rfl rfl ?_
        exact jj_retI (ty := .boolean) rfl rfl dL_texts_540 ⟨Nat.le_of_ble_eq_true rfl, Nat.le_of_ble_eq_true rfl⟩ hF
      · skip
        refine jj_aload_n (j := 0) (i := 0) (pc' := 364) dL_texts_363 rfl rfl rfl ?_
        refine jj_ldc2l (v := (13844166730919984 : Int64)) (pc' := 367) dL_texts_364 qw_111 rfl ?_
        refine jj_cI (N := M_L_types) (kc' := 818) (ks' := 7443) (pc' := 370) (jg_S (N := M_L_types) (rest := []) (as := [.ref a0, .long ((13844166730919984 : Int64))]) cf_L_155 rfl dL_texts_367 rfl rfl ⟨Nat.le_of_ble_eq_true rfl, Nat.le_of_ble_eq_true rfl⟩ ⟨Nat.le_of_ble_eq_true rfl, Nat.le_of_ble_eq_true rfl⟩ (Nat.le_of_ble_eq_true rfl) (fun X' hX => KL_types hX)) rfl rfl rfl rfl ⟨Nat.le_of_ble_eq_true rfl, Nat.le_of_ble_eq_true rfl⟩ rfl hF (fun x106 h105 hF => ?_)
        refine jj_if_eq (tgt := 539) (pc' := 373) dL_texts_370 rfl rfl (fun hc hF => ?_) (fun hc hF => ?_) hF
        · skip
          refine jj_iconst (v := (0 : Int32)) (pc' := 540) dL_texts_539 rfl rfl ?_
          exact jj_retI (ty := .boolean) rfl rfl dL_texts_540 ⟨Nat.le_of_ble_eq_true rfl, Nat.le_of_ble_eq_true rfl⟩ hF
        · skip
          refine jj_aload_n (j := 0) (i := 0) (pc' := 374) dL_texts_373 rfl rfl rfl ?_
          refine jj_cI (N := M_X3_program) (kc' := 819) (ks' := 7449) (pc' := 377) (jg_V (N := M_X3_program) (ci := 3) (rest := []) (as := []) cf_L_47 dL_texts_374 ⟨rfl, rfl⟩ rfl rfl ⟨Nat.le_of_ble_eq_true rfl, Nat.le_of_ble_eq_true rfl⟩ ⟨Nat.le_of_ble_eq_true rfl, Nat.le_of_ble_eq_true rfl⟩ (Nat.le_of_ble_eq_true rfl) (fun X' hX => KX3_program hX)) rfl rfl rfl rfl ⟨Nat.le_of_ble_eq_true rfl, Nat.le_of_ble_eq_true rfl⟩ rfl hF (fun x108 h107 hF => ?_)
          refine jj_iconst (v := (1 : Int32)) (pc' := 378) dL_texts_377 rfl rfl ?_
          refine jj_icmp_ne (tgt := 539) (pc' := 381) dL_texts_378 rfl rfl (fun hc hF => ?_) (fun hc hF => ?_) hF
          · skip
            refine jj_iconst (v := (0 : Int32)) (pc' := 540) dL_texts_539 rfl rfl ?_
            exact jj_retI (ty := .boolean) rfl rfl dL_texts_540 ⟨Nat.le_of_ble_eq_true rfl, Nat.le_of_ble_eq_true rfl⟩ hF
          · skip
            refine jj_aload_n (j := 0) (i := 0) (pc' := 382) dL_texts_381 rfl rfl rfl ?_
            refine jj_iconst (v := (0 : Int32)) (pc' := 383) dL_texts_382 rfl rfl ?_
            refine jj_cI (N := M_X3_stopped) (kc' := 820) (ks' := 7455) (pc' := 386) (jg_V (N := M_X3_stopped) (ci := 3) (rest := []) (as := [.int ((0 : Int32))]) cf_L_51 dL_texts_383 ⟨rfl, rfl⟩ rfl rfl ⟨Nat.le_of_ble_eq_true rfl, Nat.le_of_ble_eq_true rfl⟩ ⟨Nat.le_of_ble_eq_true rfl, Nat.le_of_ble_eq_true rfl⟩ (Nat.le_of_ble_eq_true rfl) (fun X' hX => KX3_stopped hX)) rfl rfl rfl rfl ⟨Nat.le_of_ble_eq_true rfl, Nat.le_of_ble_eq_true rfl⟩ rfl hF (fun x110 h109 hF => ?_)
            refine jj_iconst (v := (1 : Int32)) (pc' := 387) dL_texts_386 rfl rfl ?_
            refine jj_icmp_ne (tgt := 539) (pc' := 390) dL_texts_387 rfl rfl (fun hc hF => ?_) (fun hc hF => ?_) hF
            · skip
              refine jj_iconst (v := (0 : Int32)) (pc' := 540) dL_texts_539 rfl rfl ?_
              exact jj_retI (ty := .boolean) rfl rfl dL_texts_540 ⟨Nat.le_of_ble_eq_true rfl, Nat.le_of_ble_eq_true rfl⟩ hF
            · skip
              refine jj_aload_n (j := 0) (i := 0) (pc' := 391) dL_texts_390 rfl rfl rfl ?_
              refine jj_iconst (v := (1 : Int32)) (pc' := 392) dL_texts_391 rfl rfl ?_
              refine jj_cI (N := M_X3_stopped) (kc' := 821) (ks' := 7461) (pc' := 395) (jg_V (N := M_X3_stopped) (ci := 3) (rest := []) (as := [.int ((1 : Int32))]) cf_L_51 dL_texts_392 ⟨rfl, rfl⟩ rfl rfl ⟨Nat.le_of_ble_eq_true rfl, Nat.le_of_ble_eq_true rfl⟩ ⟨Nat.le_of_ble_eq_true rfl, Nat.le_of_ble_eq_true rfl⟩ (Nat.le_of_ble_eq_true rfl) (fun X' hX => KX3_stopped hX)) rfl rfl rfl rfl ⟨Nat.le_of_ble_eq_true rfl, Nat.le_of_ble_eq_true rfl⟩ rfl hF (fun x112 h111 hF => ?_)
              refine jj_iconst (v := (5 : Int32)) (pc' := 396) dL_texts_395 rfl rfl ?_
              refine jj_icmp_ne (tgt := 539) (pc' := 399) dL_texts_396 rfl rfl (fun hc hF => ?_) (fun hc hF => ?_) hF
              · skip
                refine jj_iconst (v := (0 : Int32)) (pc' := 540) dL_texts_539 rfl rfl ?_
                exact jj_retI (ty := .boolean) rfl rfl dL_texts_540 ⟨Nat.le_of_ble_eq_true rfl, Nat.le_of_ble_eq_true rfl⟩ hF
              · skip
                refine jj_aload_n (j := 0) (i := 0) (pc' := 400) dL_texts_399 rfl rfl rfl ?_
                refine jj_iconst (v := (2 : Int32)) (pc' := 401) dL_texts_400 rfl rfl ?_
                refine jj_cI (N := M_X3_stopped) (kc' := 822) (ks' := 7467) (pc' := 404) (jg_V (N := M_X3_stopped) (ci := 3) (rest := []) (as := [.int ((2 : Int32))]) cf_L_51 dL_texts_401 ⟨rfl, rfl⟩ rfl rfl ⟨Nat.le_of_ble_eq_true rfl, Nat.le_of_ble_eq_true rfl⟩ ⟨Nat.le_of_ble_eq_true rfl, Nat.le_of_ble_eq_true rfl⟩ (Nat.le_of_ble_eq_true rfl) (fun X' hX => KX3_stopped hX)) rfl rfl rfl rfl ⟨Nat.le_of_ble_eq_true rfl, Nat.le_of_ble_eq_true rfl⟩ rfl hF (fun x114 h113 hF => ?_)
                refine jj_iconst (v := (-1 : Int32)) (pc' := 405) dL_texts_404 rfl rfl ?_
                refine jj_icmp_ne (tgt := 539) (pc' := 408) dL_texts_405 rfl rfl (fun hc hF => ?_) (fun hc hF => ?_) hF
                · skip
                  refine jj_iconst (v := (0 : Int32)) (pc' := 540) dL_texts_539 rfl rfl ?_
                  exact jj_retI (ty := .boolean) rfl rfl dL_texts_540 ⟨Nat.le_of_ble_eq_true rfl, Nat.le_of_ble_eq_true rfl⟩ hF
                · skip
                  refine jj_aload_n (j := 0) (i := 0) (pc' := 409) dL_texts_408 rfl rfl rfl ?_
                  refine jj_ldc2l (v := (13562691754078256 : Int64)) (pc' := 412) dL_texts_409 qw_112 rfl ?_
                  refine jj_cI (N := M_L_types) (kc' := 838) (ks' := 7563) (pc' := 415) (jg_S (N := M_L_types) (rest := []) (as := [.ref a0, .long ((13562691754078256 : Int64))]) cf_L_155 rfl dL_texts_412 rfl rfl ⟨Nat.le_of_ble_eq_true rfl, Nat.le_of_ble_eq_true rfl⟩ ⟨Nat.le_of_ble_eq_true rfl, Nat.le_of_ble_eq_true rfl⟩ (Nat.le_of_ble_eq_true rfl) (fun X' hX => KL_types hX)) rfl rfl rfl rfl ⟨Nat.le_of_ble_eq_true rfl, Nat.le_of_ble_eq_true rfl⟩ rfl hF (fun x116 h115 hF => ?_)
                  refine jj_if_eq (tgt := 539) (pc' := 418) dL_texts_415 rfl rfl (fun hc hF => ?_) (fun hc hF => ?_) hF
                  · skip
                    refine jj_iconst (v := (0 : Int32)) (pc' := 540) dL_texts_539 rfl rfl ?_
                    exact jj_retI (ty := .boolean) rfl rfl dL_texts_540 ⟨Nat.le_of_ble_eq_true rfl, Nat.le_of_ble_eq_true rfl⟩ hF
                  · skip
                    refine jj_aload_n (j := 0) (i := 0) (pc' := 419) dL_texts_418 rfl rfl rfl ?_
                    refine jj_cI (N := M_X3_program) (kc' := 839) (ks' := 7569) (pc' := 422) (jg_V (N := M_X3_program) (ci := 3) (rest := []) (as := []) cf_L_47 dL_texts_419 ⟨rfl, rfl⟩ rfl rfl ⟨Nat.le_of_ble_eq_true rfl, Nat.le_of_ble_eq_true rfl⟩ ⟨Nat.le_of_ble_eq_true rfl, Nat.le_of_ble_eq_true rfl⟩ (Nat.le_of_ble_eq_true rfl) (fun X' hX => KX3_program hX)) rfl rfl rfl rfl ⟨Nat.le_of_ble_eq_true rfl, Nat.le_of_ble_eq_true rfl⟩ rfl hF (fun x118 h117 hF => ?_)
                    refine jj_iconst (v := (1 : Int32)) (pc' := 423) dL_texts_422 rfl rfl ?_
                    refine jj_icmp_ne (tgt := 539) (pc' := 426) dL_texts_423 rfl rfl (fun hc hF => ?_) (fun hc hF => ?_) hF
                    · skip
                      refine jj_iconst (v := (0 : Int32)) (pc' := 540) dL_texts_539 rfl rfl ?_
                      exact jj_retI (ty := .boolean) rfl rfl dL_texts_540 ⟨Nat.le_of_ble_eq_true rfl, Nat.le_of_ble_eq_true rfl⟩ hF
                    · skip
                      refine jj_aload_n (j := 0) (i := 0) (pc' := 427) dL_texts_426 rfl rfl rfl ?_
                      refine jj_iconst (v := (0 : Int32)) (pc' := 428) dL_texts_427 rfl rfl ?_
                      refine jj_cI (N := M_X3_stopped) (kc' := 840) (ks' := 7575) (pc' := 431) (jg_V (N := M_X3_stopped) (ci := 3) (rest := []) (as := [.int ((0 : Int32))]) cf_L_51 dL_texts_428 ⟨rfl, rfl⟩ rfl rfl ⟨Nat.le_of_ble_eq_true rfl, Nat.le_of_ble_eq_true rfl⟩ ⟨Nat.le_of_ble_eq_true rfl, Nat.le_of_ble_eq_true rfl⟩ (Nat.le_of_ble_eq_true rfl) (fun X' hX => KX3_stopped hX)) rfl rfl rfl rfl ⟨Nat.le_of_ble_eq_true rfl, Nat.le_of_ble_eq_true rfl⟩ rfl hF (fun x120 h119 hF => ?_)
                      refine jj_iconst (v := (-1 : Int32)) (pc' := 432) dL_texts_431 rfl rfl ?_
                      refine jj_icmp_ne (tgt := 539) (pc' := 435) dL_texts_432 rfl rfl (fun hc hF => ?_) (fun hc hF => ?_) hF
                      · skip
                        refine jj_iconst (v := (0 : Int32)) (pc' := 540) dL_texts_539 rfl rfl ?_
                        exact jj_retI (ty := .boolean) rfl rfl dL_texts_540 ⟨Nat.le_of_ble_eq_true rfl, Nat.le_of_ble_eq_true rfl⟩ hF
                      · skip
                        refine jj_wide (kc' := 840) (ks' := 7575) (Nat.le_of_ble_eq_true rfl) (Nat.le_of_ble_eq_true rfl) ?_
                        exact jj_pick [0] rfl (BL_texts_435 N N a0 h119 _ hF)
set_option maxRecDepth 100000 in
set_option maxHeartbeats 4000000 in
theorem BL_texts_254 (N : Nat) : ∀ (n : Nat) (a0 : Nat) (h : jm_H) (X : jm_X), FL_texts_254 N n a0 h = some X → jm_J M_L_texts 254 [(0, .ref a0)] [] h 716 6831 X := by
  intro n
  induction n with
  | zero =>
    intro a0 h X hF
    exact nomatch (show (none : Option jm_X) = some X from hF)
  | succ n ih =>
    intro a0 h X hF
    rw [FL_texts_254] at hF
    refine jj_aload_n (j := 0) (i := 0) (pc' := 255) dL_texts_254 rfl rfl rfl ?_
    refine jj_cI (N := M_X3_clearBuffer) (kc' := 716) (ks' := 6831) (pc' := 258) (jg_V (N := M_X3_clearBuffer) (ci := 3) (rest := []) (as := []) cf_L_152 dL_texts_255 ⟨rfl, rfl⟩ rfl rfl ⟨Nat.le_of_ble_eq_true rfl, Nat.le_of_ble_eq_true rfl⟩ ⟨Nat.le_of_ble_eq_true rfl, Nat.le_of_ble_eq_true rfl⟩ (Nat.le_of_ble_eq_true rfl) (fun X' hX => KX3_clearBuffer hX)) rfl rfl rfl rfl ⟨Nat.le_of_ble_eq_true rfl, Nat.le_of_ble_eq_true rfl⟩ rfl hF (fun x102 h101 hF => ?_)
    refine jj_iconst (v := (1 : Int32)) (pc' := 259) dL_texts_258 rfl rfl ?_
    refine jj_icmp_ne (tgt := 539) (pc' := 262) dL_texts_259 rfl rfl (fun hc hF => ?_) (fun hc hF => ?_) hF
    · skip
      refine jj_iconst (v := (0 : Int32)) (pc' := 540) dL_texts_539 rfl rfl ?_
      exact jj_retI (ty := .boolean) rfl rfl dL_texts_540 ⟨Nat.le_of_ble_eq_true rfl, Nat.le_of_ble_eq_true rfl⟩ hF
    · skip
      refine jj_aload_n (j := 0) (i := 0) (pc' := 263) dL_texts_262 rfl rfl rfl ?_
      refine jj_iconst (v := (2 : Int32)) (pc' := 264) dL_texts_263 rfl rfl ?_
      refine jj_bipush (v := (20 : Int32)) (pc' := 266) dL_texts_264 rfl rfl ?_
      refine jj_cI (N := M_X3_film) (kc' := 718) (ks' := 6843) (pc' := 269) (jg_V (N := M_X3_film) (ci := 3) (rest := []) (as := [.int ((2 : Int32)), .int ((20 : Int32))]) cf_L_11 dL_texts_266 ⟨rfl, rfl⟩ rfl rfl ⟨Nat.le_of_ble_eq_true rfl, Nat.le_of_ble_eq_true rfl⟩ ⟨Nat.le_of_ble_eq_true rfl, Nat.le_of_ble_eq_true rfl⟩ (Nat.le_of_ble_eq_true rfl) (fun X' hX => KX3_film hX)) rfl rfl rfl rfl ⟨Nat.le_of_ble_eq_true rfl, Nat.le_of_ble_eq_true rfl⟩ rfl hF (fun x104 h103 hF => ?_)
      refine jj_if_ne (tgt := 539) (pc' := 272) dL_texts_269 rfl rfl (fun hc hF => ?_) (fun hc hF => ?_) hF
      · skip
        refine jj_iconst (v := (0 : Int32)) (pc' := 540) dL_texts_539 rfl rfl ?_
        exact jj_retI (ty := .boolean) rfl rfl dL_texts_540 ⟨Nat.le_of_ble_eq_true rfl, Nat.le_of_ble_eq_true rfl⟩ hF
      · skip
        refine jj_aload_n (j := 0) (i := 0) (pc' := 273) dL_texts_272 rfl rfl rfl ?_
        refine jj_ldc2l (v := (3472046889987223611 : Int64)) (pc' := 276) dL_texts_273 qw_106 rfl ?_
        refine jj_cI (N := M_L_types) (kc' := 734) (ks' := 6939) (pc' := 279) (jg_S (N := M_L_types) (rest := []) (as := [.ref a0, .long ((3472046889987223611 : Int64))]) cf_L_155 rfl dL_texts_276 rfl rfl ⟨Nat.le_of_ble_eq_true rfl, Nat.le_of_ble_eq_true rfl⟩ ⟨Nat.le_of_ble_eq_true rfl, Nat.le_of_ble_eq_true rfl⟩ (Nat.le_of_ble_eq_true rfl) (fun X' hX => KL_types hX)) rfl rfl rfl rfl ⟨Nat.le_of_ble_eq_true rfl, Nat.le_of_ble_eq_true rfl⟩ rfl hF (fun x106 h105 hF => ?_)
        refine jj_if_eq (tgt := 539) (pc' := 282) dL_texts_279 rfl rfl (fun hc hF => ?_) (fun hc hF => ?_) hF
        · skip
          refine jj_iconst (v := (0 : Int32)) (pc' := 540) dL_texts_539 rfl rfl ?_
          exact jj_retI (ty := .boolean) rfl rfl dL_texts_540 ⟨Nat.le_of_ble_eq_true rfl, Nat.le_of_ble_eq_true rfl⟩ hF
        · skip
          refine jj_aload_n (j := 0) (i := 0) (pc' := 283) dL_texts_282 rfl rfl rfl ?_
          refine jj_ldc2l (v := (3472047989498852651 : Int64)) (pc' := 286) dL_texts_283 qw_107 rfl ?_
          refine jj_cI (N := M_L_types) (kc' := 750) (ks' := 7035) (pc' := 289) (jg_S (N := M_L_types) (rest := []) (as := [.ref a0, .long ((3472047989498852651 : Int64))]) cf_L_155 rfl dL_texts_286 rfl rfl ⟨Nat.le_of_ble_eq_true rfl, Nat.le_of_ble_eq_true rfl⟩ ⟨Nat.le_of_ble_eq_true rfl, Nat.le_of_ble_eq_true rfl⟩ (Nat.le_of_ble_eq_true rfl) (fun X' hX => KL_types hX)) rfl rfl rfl rfl ⟨Nat.le_of_ble_eq_true rfl, Nat.le_of_ble_eq_true rfl⟩ rfl hF (fun x108 h107 hF => ?_)
          refine jj_if_eq (tgt := 539) (pc' := 292) dL_texts_289 rfl rfl (fun hc hF => ?_) (fun hc hF => ?_) hF
          · skip
            refine jj_iconst (v := (0 : Int32)) (pc' := 540) dL_texts_539 rfl rfl ?_
            exact jj_retI (ty := .boolean) rfl rfl dL_texts_540 ⟨Nat.le_of_ble_eq_true rfl, Nat.le_of_ble_eq_true rfl⟩ hF
          · skip
            refine jj_aload_n (j := 0) (i := 0) (pc' := 293) dL_texts_292 rfl rfl rfl ?_
            refine jj_ldc2l (v := (4123942863035707696 : Int64)) (pc' := 296) dL_texts_293 qw_108 rfl ?_
            refine jj_cI (N := M_L_types) (kc' := 766) (ks' := 7131) (pc' := 299) (jg_S (N := M_L_types) (rest := []) (as := [.ref a0, .long ((4123942863035707696 : Int64))]) cf_L_155 rfl dL_texts_296 rfl rfl ⟨Nat.le_of_ble_eq_true rfl, Nat.le_of_ble_eq_true rfl⟩ ⟨Nat.le_of_ble_eq_true rfl, Nat.le_of_ble_eq_true rfl⟩ (Nat.le_of_ble_eq_true rfl) (fun X' hX => KL_types hX)) rfl rfl rfl rfl ⟨Nat.le_of_ble_eq_true rfl, Nat.le_of_ble_eq_true rfl⟩ rfl hF (fun x110 h109 hF => ?_)
            refine jj_if_eq (tgt := 539) (pc' := 302) dL_texts_299 rfl rfl (fun hc hF => ?_) (fun hc hF => ?_) hF
            · skip
              refine jj_iconst (v := (0 : Int32)) (pc' := 540) dL_texts_539 rfl rfl ?_
              exact jj_retI (ty := .boolean) rfl rfl dL_texts_540 ⟨Nat.le_of_ble_eq_true rfl, Nat.le_of_ble_eq_true rfl⟩ hF
            · skip
              refine jj_aload_n (j := 0) (i := 0) (pc' := 303) dL_texts_302 rfl rfl rfl ?_
              refine jj_ldc2l (v := (53 : Int64)) (pc' := 306) dL_texts_303 qw_109 rfl ?_
              refine jj_cI (N := M_L_types) (kc' := 782) (ks' := 7227) (pc' := 309) (jg_S (N := M_L_types) (rest := []) (as := [.ref a0, .long ((53 : Int64))]) cf_L_155 rfl dL_texts_306 rfl rfl ⟨Nat.le_of_ble_eq_true rfl, Nat.le_of_ble_eq_true rfl⟩ ⟨Nat.le_of_ble_eq_true rfl, Nat.le_of_ble_eq_true rfl⟩ (Nat.le_of_ble_eq_true rfl) (fun X' hX => KL_types hX)) rfl rfl rfl rfl ⟨Nat.le_of_ble_eq_true rfl, Nat.le_of_ble_eq_true rfl⟩ rfl hF (fun x112 h111 hF => ?_)
              refine jj_if_eq (tgt := 539) (pc' := 312) dL_texts_309 rfl rfl (fun hc hF => ?_) (fun hc hF => ?_) hF
              · skip
                refine jj_iconst (v := (0 : Int32)) (pc' := 540) dL_texts_539 rfl rfl ?_
                exact jj_retI (ty := .boolean) rfl rfl dL_texts_540 ⟨Nat.le_of_ble_eq_true rfl, Nat.le_of_ble_eq_true rfl⟩ hF
              · skip
                refine jj_aload_n (j := 0) (i := 0) (pc' := 313) dL_texts_312 rfl rfl rfl ?_
                refine jj_cI (N := M_X3_program) (kc' := 783) (ks' := 7233) (pc' := 316) (jg_V (N := M_X3_program) (ci := 3) (rest := []) (as := []) cf_L_47 dL_texts_313 ⟨rfl, rfl⟩ rfl rfl ⟨Nat.le_of_ble_eq_true rfl, Nat.le_of_ble_eq_true rfl⟩ ⟨Nat.le_of_ble_eq_true rfl, Nat.le_of_ble_eq_true rfl⟩ (Nat.le_of_ble_eq_true rfl) (fun X' hX => KX3_program hX)) rfl rfl rfl rfl ⟨Nat.le_of_ble_eq_true rfl, Nat.le_of_ble_eq_true rfl⟩ rfl hF (fun x114 h113 hF => ?_)
                refine jj_iconst (v := (1 : Int32)) (pc' := 317) dL_texts_316 rfl rfl ?_
                refine jj_icmp_ne (tgt := 539) (pc' := 320) dL_texts_317 rfl rfl (fun hc hF => ?_) (fun hc hF => ?_) hF
                · skip
                  refine jj_iconst (v := (0 : Int32)) (pc' := 540) dL_texts_539 rfl rfl ?_
                  exact jj_retI (ty := .boolean) rfl rfl dL_texts_540 ⟨Nat.le_of_ble_eq_true rfl, Nat.le_of_ble_eq_true rfl⟩ hF
                · skip
                  refine jj_aload_n (j := 0) (i := 0) (pc' := 321) dL_texts_320 rfl rfl rfl ?_
                  refine jj_cI (N := M_X3_clearBuffer) (kc' := 783) (ks' := 7233) (pc' := 324) (jg_V (N := M_X3_clearBuffer) (ci := 3) (rest := []) (as := []) cf_L_152 dL_texts_321 ⟨rfl, rfl⟩ rfl rfl ⟨Nat.le_of_ble_eq_true rfl, Nat.le_of_ble_eq_true rfl⟩ ⟨Nat.le_of_ble_eq_true rfl, Nat.le_of_ble_eq_true rfl⟩ (Nat.le_of_ble_eq_true rfl) (fun X' hX => KX3_clearBuffer hX)) rfl rfl rfl rfl ⟨Nat.le_of_ble_eq_true rfl, Nat.le_of_ble_eq_true rfl⟩ rfl hF (fun x116 h115 hF => ?_)
                  refine jj_if_ne (tgt := 539) (pc' := 327) dL_texts_324 rfl rfl (fun hc hF => ?_) (fun hc hF => ?_) hF
                  · skip
                    refine jj_iconst (v := (0 : Int32)) (pc' := 540) dL_texts_539 rfl rfl ?_
                    exact jj_retI (ty := .boolean) rfl rfl dL_texts_540 ⟨Nat.le_of_ble_eq_true rfl, Nat.le_of_ble_eq_true rfl⟩ hF
                  · skip
                    refine jj_aload_n (j := 0) (i := 0) (pc' := 328) dL_texts_327 rfl rfl rfl ?_
                    refine jj_iconst (v := (0 : Int32)) (pc' := 329) dL_texts_328 rfl rfl ?_
                    refine jj_cI (N := M_X3_stopped) (kc' := 784) (ks' := 7239) (pc' := 332) (jg_V (N := M_X3_stopped) (ci := 3) (rest := []) (as := [.int ((0 : Int32))]) cf_L_51 dL_texts_329 ⟨rfl, rfl⟩ rfl rfl ⟨Nat.le_of_ble_eq_true rfl, Nat.le_of_ble_eq_true rfl⟩ ⟨Nat.le_of_ble_eq_true rfl, Nat.le_of_ble_eq_true rfl⟩ (Nat.le_of_ble_eq_true rfl) (fun X' hX => KX3_stopped hX)) rfl rfl rfl rfl ⟨Nat.le_of_ble_eq_true rfl, Nat.le_of_ble_eq_true rfl⟩ rfl hF (fun x118 h117 hF => ?_)
                    refine jj_iconst (v := (1 : Int32)) (pc' := 333) dL_texts_332 rfl rfl ?_
                    refine jj_icmp_ne (tgt := 539) (pc' := 336) dL_texts_333 rfl rfl (fun hc hF => ?_) (fun hc hF => ?_) hF
                    · skip
                      refine jj_iconst (v := (0 : Int32)) (pc' := 540) dL_texts_539 rfl rfl ?_
                      exact jj_retI (ty := .boolean) rfl rfl dL_texts_540 ⟨Nat.le_of_ble_eq_true rfl, Nat.le_of_ble_eq_true rfl⟩ hF
                    · skip
                      refine jj_aload_n (j := 0) (i := 0) (pc' := 337) dL_texts_336 rfl rfl rfl ?_
                      refine jj_iconst (v := (1 : Int32)) (pc' := 338) dL_texts_337 rfl rfl ?_
                      refine jj_cI (N := M_X3_stopped) (kc' := 785) (ks' := 7245) (pc' := 341) (jg_V (N := M_X3_stopped) (ci := 3) (rest := []) (as := [.int ((1 : Int32))]) cf_L_51 dL_texts_338 ⟨rfl, rfl⟩ rfl rfl ⟨Nat.le_of_ble_eq_true rfl, Nat.le_of_ble_eq_true rfl⟩ ⟨Nat.le_of_ble_eq_true rfl, Nat.le_of_ble_eq_true rfl⟩ (Nat.le_of_ble_eq_true rfl) (fun X' hX => KX3_stopped hX)) rfl rfl rfl rfl ⟨Nat.le_of_ble_eq_true rfl, Nat.le_of_ble_eq_true rfl⟩ rfl hF (fun x120 h119 hF => ?_)
                      refine jj_iconst (v := (4 : Int32)) (pc' := 342) dL_texts_341 rfl rfl ?_
                      refine jj_icmp_ne (tgt := 539) (pc' := 345) dL_texts_342 rfl rfl (fun hc hF => ?_) (fun hc hF => ?_) hF
                      · skip
                        refine jj_iconst (v := (0 : Int32)) (pc' := 540) dL_texts_539 rfl rfl ?_
                        exact jj_retI (ty := .boolean) rfl rfl dL_texts_540 ⟨Nat.le_of_ble_eq_true rfl, Nat.le_of_ble_eq_true rfl⟩ hF
                      · skip
                        refine jj_wide (kc' := 785) (ks' := 7245) (Nat.le_of_ble_eq_true rfl) (Nat.le_of_ble_eq_true rfl) ?_
                        exact jj_pick [0] rfl (BL_texts_345 N N a0 h119 _ hF)
set_option maxRecDepth 100000 in
set_option maxHeartbeats 4000000 in
theorem BL_texts_135 (N : Nat) : ∀ (n : Nat) (a0 : Nat) (h : jm_H) (X : jm_X), FL_texts_135 N n a0 h = some X → jm_J M_L_texts 135 [(0, .ref a0)] [] h 428 5103 X := by
  intro n
  induction n with
  | zero =>
    intro a0 h X hF
    exact nomatch (show (none : Option jm_X) = some X from hF)
  | succ n ih =>
    intro a0 h X hF
    rw [FL_texts_135] at hF
    refine jj_aload_n (j := 0) (i := 0) (pc' := 136) dL_texts_135 rfl rfl rfl ?_
    refine jj_ldc2l (v := (3472046889970119217 : Int64)) (pc' := 139) dL_texts_136 qw_89 rfl ?_
    refine jj_ldc2l (v := (48 : Int64)) (pc' := 142) dL_texts_139 qw_96 rfl ?_
    refine jj_bipush (v := (7 : Int32)) (pc' := 144) dL_texts_142 rfl rfl ?_
    refine jj_cI (N := M_L_isError) (kc' := 460) (ks' := 5295) (pc' := 147) (jg_S (N := M_L_isError) (rest := []) (as := [.ref a0, .long ((3472046889970119217 : Int64)), .long ((48 : Int64)), .int ((7 : Int32))]) cf_L_164 rfl dL_texts_144 rfl rfl ⟨Nat.le_of_ble_eq_true rfl, Nat.le_of_ble_eq_true rfl⟩ ⟨Nat.le_of_ble_eq_true rfl, Nat.le_of_ble_eq_true rfl⟩ (Nat.le_of_ble_eq_true rfl) (fun X' hX => KL_isError hX)) rfl rfl rfl rfl ⟨Nat.le_of_ble_eq_true rfl, Nat.le_of_ble_eq_true rfl⟩ rfl hF (fun x102 h101 hF => ?_)
    refine jj_if_eq (tgt := 252) (pc' := 150) dL_texts_147 rfl rfl (fun hc hF => ?_) (fun hc hF => ?_) hF
    · skip
      refine jj_iconst (v := (0 : Int32)) (pc' := 253) dL_texts_252 rfl rfl ?_
      exact jj_retI (ty := .boolean) rfl rfl dL_texts_253 ⟨Nat.le_of_ble_eq_true rfl, Nat.le_of_ble_eq_true rfl⟩ hF
    · skip
      refine jj_aload_n (j := 0) (i := 0) (pc' := 151) dL_texts_150 rfl rfl rfl ?_
      refine jj_ldc2l (v := (12336 : Int64)) (pc' := 154) dL_texts_151 qw_97 rfl ?_
      refine jj_lconst (v := (0 : Int64)) (pc' := 155) dL_texts_154 rfl rfl ?_
      refine jj_iconst (v := (1 : Int32)) (pc' := 156) dL_texts_155 rfl rfl ?_
      refine jj_cI (N := M_L_isError) (kc' := 492) (ks' := 5487) (pc' := 159) (jg_S (N := M_L_isError) (rest := []) (as := [.ref a0, .long ((12336 : Int64)), .long ((0 : Int64)), .int ((1 : Int32))]) cf_L_164 rfl dL_texts_156 rfl rfl ⟨Nat.le_of_ble_eq_true rfl, Nat.le_of_ble_eq_true rfl⟩ ⟨Nat.le_of_ble_eq_true rfl, Nat.le_of_ble_eq_true rfl⟩ (Nat.le_of_ble_eq_true rfl) (fun X' hX => KL_isError hX)) rfl rfl rfl rfl ⟨Nat.le_of_ble_eq_true rfl, Nat.le_of_ble_eq_true rfl⟩ rfl hF (fun x104 h103 hF => ?_)
      refine jj_if_eq (tgt := 252) (pc' := 162) dL_texts_159 rfl rfl (fun hc hF => ?_) (fun hc hF => ?_) hF
      · skip
        refine jj_iconst (v := (0 : Int32)) (pc' := 253) dL_texts_252 rfl rfl ?_
        exact jj_retI (ty := .boolean) rfl rfl dL_texts_253 ⟨Nat.le_of_ble_eq_true rfl, Nat.le_of_ble_eq_true rfl⟩ hF
      · skip
        refine jj_aload_n (j := 0) (i := 0) (pc' := 163) dL_texts_162 rfl rfl rfl ?_
        refine jj_ldc2l (v := (206950121592 : Int64)) (pc' := 166) dL_texts_163 qw_98 rfl ?_
        refine jj_lconst (v := (0 : Int64)) (pc' := 167) dL_texts_166 rfl rfl ?_
        refine jj_iconst (v := (4 : Int32)) (pc' := 168) dL_texts_167 rfl rfl ?_
        refine jj_cI (N := M_L_isError) (kc' := 524) (ks' := 5679) (pc' := 171) (jg_S (N := M_L_isError) (rest := []) (as := [.ref a0, .long ((206950121592 : Int64)), .long ((0 : Int64)), .int ((4 : Int32))]) cf_L_164 rfl dL_texts_168 rfl rfl ⟨Nat.le_of_ble_eq_true rfl, Nat.le_of_ble_eq_true rfl⟩ ⟨Nat.le_of_ble_eq_true rfl, Nat.le_of_ble_eq_true rfl⟩ (Nat.le_of_ble_eq_true rfl) (fun X' hX => KL_isError hX)) rfl rfl rfl rfl ⟨Nat.le_of_ble_eq_true rfl, Nat.le_of_ble_eq_true rfl⟩ rfl hF (fun x106 h105 hF => ?_)
        refine jj_if_eq (tgt := 252) (pc' := 174) dL_texts_171 rfl rfl (fun hc hF => ?_) (fun hc hF => ?_) hF
        · skip
          refine jj_iconst (v := (0 : Int32)) (pc' := 253) dL_texts_252 rfl rfl ?_
          exact jj_retI (ty := .boolean) rfl rfl dL_texts_253 ⟨Nat.le_of_ble_eq_true rfl, Nat.le_of_ble_eq_true rfl⟩ hF
        · skip
          refine jj_aload_n (j := 0) (i := 0) (pc' := 175) dL_texts_174 rfl rfl rfl ?_
          refine jj_ldc2l (v := (808398896 : Int64)) (pc' := 178) dL_texts_175 qw_99 rfl ?_
          refine jj_lconst (v := (0 : Int64)) (pc' := 179) dL_texts_178 rfl rfl ?_
          refine jj_iconst (v := (3 : Int32)) (pc' := 180) dL_texts_179 rfl rfl ?_
          refine jj_cI (N := M_L_isError) (kc' := 556) (ks' := 5871) (pc' := 183) (jg_S (N := M_L_isError) (rest := []) (as := [.ref a0, .long ((808398896 : Int64)), .long ((0 : Int64)), .int ((3 : Int32))]) cf_L_164 rfl dL_texts_180 rfl rfl ⟨Nat.le_of_ble_eq_true rfl, Nat.le_of_ble_eq_true rfl⟩ ⟨Nat.le_of_ble_eq_true rfl, Nat.le_of_ble_eq_true rfl⟩ (Nat.le_of_ble_eq_true rfl) (fun X' hX => KL_isError hX)) rfl rfl rfl rfl ⟨Nat.le_of_ble_eq_true rfl, Nat.le_of_ble_eq_true rfl⟩ rfl hF (fun x108 h107 hF => ?_)
          refine jj_if_eq (tgt := 252) (pc' := 186) dL_texts_183 rfl rfl (fun hc hF => ?_) (fun hc hF => ?_) hF
          · skip
            refine jj_iconst (v := (0 : Int32)) (pc' := 253) dL_texts_252 rfl rfl ?_
            exact jj_retI (ty := .boolean) rfl rfl dL_texts_253 ⟨Nat.le_of_ble_eq_true rfl, Nat.le_of_ble_eq_true rfl⟩ hF
          · skip
            refine jj_aload_n (j := 0) (i := 0) (pc' := 187) dL_texts_186 rfl rfl rfl ?_
            refine jj_ldc2l (v := (13562683164273451 : Int64)) (pc' := 190) dL_texts_187 qw_100 rfl ?_
            refine jj_lconst (v := (0 : Int64)) (pc' := 191) dL_texts_190 rfl rfl ?_
            refine jj_bipush (v := (6 : Int32)) (pc' := 193) dL_texts_191 rfl rfl ?_
            refine jj_cI (N := M_L_isError) (kc' := 588) (ks' := 6063) (pc' := 196) (jg_S (N := M_L_isError) (rest := []) (as := [.ref a0, .long ((13562683164273451 : Int64)), .long ((0 : Int64)), .int ((6 : Int32))]) cf_L_164 rfl dL_texts_193 rfl rfl ⟨Nat.le_of_ble_eq_true rfl, Nat.le_of_ble_eq_true rfl⟩ ⟨Nat.le_of_ble_eq_true rfl, Nat.le_of_ble_eq_true rfl⟩ (Nat.le_of_ble_eq_true rfl) (fun X' hX => KL_isError hX)) rfl rfl rfl rfl ⟨Nat.le_of_ble_eq_true rfl, Nat.le_of_ble_eq_true rfl⟩ rfl hF (fun x110 h109 hF => ?_)
            refine jj_if_eq (tgt := 252) (pc' := 199) dL_texts_196 rfl rfl (fun hc hF => ?_) (fun hc hF => ?_) hF
            · skip
              refine jj_iconst (v := (0 : Int32)) (pc' := 253) dL_texts_252 rfl rfl ?_
              exact jj_retI (ty := .boolean) rfl rfl dL_texts_253 ⟨Nat.le_of_ble_eq_true rfl, Nat.le_of_ble_eq_true rfl⟩ hF
            · skip
              refine jj_aload_n (j := 0) (i := 0) (pc' := 200) dL_texts_199 rfl rfl rfl ?_
              refine jj_ldc2l (v := (13562683164277563 : Int64)) (pc' := 203) dL_texts_200 qw_101 rfl ?_
              refine jj_lconst (v := (0 : Int64)) (pc' := 204) dL_texts_203 rfl rfl ?_
              refine jj_bipush (v := (6 : Int32)) (pc' := 206) dL_texts_204 rfl rfl ?_
              refine jj_cI (N := M_L_isError) (kc' := 620) (ks' := 6255) (pc' := 209) (jg_S (N := M_L_isError) (rest := []) (as := [.ref a0, .long ((13562683164277563 : Int64)), .long ((0 : Int64)), .int ((6 : Int32))]) cf_L_164 rfl dL_texts_206 rfl rfl ⟨Nat.le_of_ble_eq_true rfl, Nat.le_of_ble_eq_true rfl⟩ ⟨Nat.le_of_ble_eq_true rfl, Nat.le_of_ble_eq_true rfl⟩ (Nat.le_of_ble_eq_true rfl) (fun X' hX => KL_isError hX)) rfl rfl rfl rfl ⟨Nat.le_of_ble_eq_true rfl, Nat.le_of_ble_eq_true rfl⟩ rfl hF (fun x112 h111 hF => ?_)
              refine jj_if_eq (tgt := 252) (pc' := 212) dL_texts_209 rfl rfl (fun hc hF => ?_) (fun hc hF => ?_) hF
              · skip
                refine jj_iconst (v := (0 : Int32)) (pc' := 253) dL_texts_252 rfl rfl ?_
                exact jj_retI (ty := .boolean) rfl rfl dL_texts_253 ⟨Nat.le_of_ble_eq_true rfl, Nat.le_of_ble_eq_true rfl⟩ hF
              · skip
                refine jj_aload_n (j := 0) (i := 0) (pc' := 213) dL_texts_212 rfl rfl rfl ?_
                refine jj_ldc2l (v := (3472046890054004789 : Int64)) (pc' := 216) dL_texts_213 qw_102 rfl ?_
                refine jj_lconst (v := (0 : Int64)) (pc' := 217) dL_texts_216 rfl rfl ?_
                refine jj_bipush (v := (7 : Int32)) (pc' := 219) dL_texts_217 rfl rfl ?_
                refine jj_cI (N := M_L_isError) (kc' := 652) (ks' := 6447) (pc' := 222) (jg_S (N := M_L_isError) (rest := []) (as := [.ref a0, .long ((3472046890054004789 : Int64)), .long ((0 : Int64)), .int ((7 : Int32))]) cf_L_164 rfl dL_texts_219 rfl rfl ⟨Nat.le_of_ble_eq_true rfl, Nat.le_of_ble_eq_true rfl⟩ ⟨Nat.le_of_ble_eq_true rfl, Nat.le_of_ble_eq_true rfl⟩ (Nat.le_of_ble_eq_true rfl) (fun X' hX => KL_isError hX)) rfl rfl rfl rfl ⟨Nat.le_of_ble_eq_true rfl, Nat.le_of_ble_eq_true rfl⟩ rfl hF (fun x114 h113 hF => ?_)
                refine jj_if_eq (tgt := 252) (pc' := 225) dL_texts_222 rfl rfl (fun hc hF => ?_) (fun hc hF => ?_) hF
                · skip
                  refine jj_iconst (v := (0 : Int32)) (pc' := 253) dL_texts_252 rfl rfl ?_
                  exact jj_retI (ty := .boolean) rfl rfl dL_texts_253 ⟨Nat.le_of_ble_eq_true rfl, Nat.le_of_ble_eq_true rfl⟩ hF
                · skip
                  refine jj_aload_n (j := 0) (i := 0) (pc' := 226) dL_texts_225 rfl rfl rfl ?_
                  refine jj_ldc2l (v := (3544105583536779307 : Int64)) (pc' := 229) dL_texts_226 qw_103 rfl ?_
                  refine jj_ldc2l (v := (228626345778 : Int64)) (pc' := 232) dL_texts_229 qw_104 rfl ?_
                  refine jj_bipush (v := (13 : Int32)) (pc' := 234) dL_texts_232 rfl rfl ?_
                  refine jj_cI (N := M_L_isError) (kc' := 684) (ks' := 6639) (pc' := 237) (jg_S (N := M_L_isError) (rest := []) (as := [.ref a0, .long ((3544105583536779307 : Int64)), .long ((228626345778 : Int64)), .int ((13 : Int32))]) cf_L_164 rfl dL_texts_234 rfl rfl ⟨Nat.le_of_ble_eq_true rfl, Nat.le_of_ble_eq_true rfl⟩ ⟨Nat.le_of_ble_eq_true rfl, Nat.le_of_ble_eq_true rfl⟩ (Nat.le_of_ble_eq_true rfl) (fun X' hX => KL_isError hX)) rfl rfl rfl rfl ⟨Nat.le_of_ble_eq_true rfl, Nat.le_of_ble_eq_true rfl⟩ rfl hF (fun x116 h115 hF => ?_)
                  refine jj_if_eq (tgt := 252) (pc' := 240) dL_texts_237 rfl rfl (fun hc hF => ?_) (fun hc hF => ?_) hF
                  · skip
                    refine jj_iconst (v := (0 : Int32)) (pc' := 253) dL_texts_252 rfl rfl ?_
                    exact jj_retI (ty := .boolean) rfl rfl dL_texts_253 ⟨Nat.le_of_ble_eq_true rfl, Nat.le_of_ble_eq_true rfl⟩ hF
                  · skip
                    refine jj_aload_n (j := 0) (i := 0) (pc' := 241) dL_texts_240 rfl rfl rfl ?_
                    refine jj_ldc2l (v := (97 : Int64)) (pc' := 244) dL_texts_241 qw_105 rfl ?_
                    refine jj_lconst (v := (0 : Int64)) (pc' := 245) dL_texts_244 rfl rfl ?_
                    refine jj_iconst (v := (0 : Int32)) (pc' := 246) dL_texts_245 rfl rfl ?_
                    refine jj_cI (N := M_L_isError) (kc' := 716) (ks' := 6831) (pc' := 249) (jg_S (N := M_L_isError) (rest := []) (as := [.ref a0, .long ((97 : Int64)), .long ((0 : Int64)), .int ((0 : Int32))]) cf_L_164 rfl dL_texts_246 rfl rfl ⟨Nat.le_of_ble_eq_true rfl, Nat.le_of_ble_eq_true rfl⟩ ⟨Nat.le_of_ble_eq_true rfl, Nat.le_of_ble_eq_true rfl⟩ (Nat.le_of_ble_eq_true rfl) (fun X' hX => KL_isError hX)) rfl rfl rfl rfl ⟨Nat.le_of_ble_eq_true rfl, Nat.le_of_ble_eq_true rfl⟩ rfl hF (fun x118 h117 hF => ?_)
                    refine jj_if_ne (tgt := 254) (pc' := 252) dL_texts_249 rfl rfl (fun hc hF => ?_) (fun hc hF => ?_) hF
                    · skip
                      refine jj_wide (kc' := 716) (ks' := 6831) (Nat.le_of_ble_eq_true rfl) (Nat.le_of_ble_eq_true rfl) ?_
                      exact jj_pick [0] rfl (BL_texts_254 N N a0 h117 _ hF)
                    · skip
                      refine jj_iconst (v := (0 : Int32)) (pc' := 253) dL_texts_252 rfl rfl ?_
                      exact jj_retI (ty := .boolean) rfl rfl dL_texts_253 ⟨Nat.le_of_ble_eq_true rfl, Nat.le_of_ble_eq_true rfl⟩ hF
set_option maxRecDepth 100000 in
set_option maxHeartbeats 4000000 in
theorem BL_texts_118 (N : Nat) : ∀ (n : Nat) (a0 : Nat) (h : jm_H) (X : jm_X), FL_texts_118 N n a0 h = some X → jm_J M_L_texts 118 [(0, .ref a0)] [] h 396 4911 X := by
  intro n
  induction n with
  | zero =>
    intro a0 h X hF
    exact nomatch (show (none : Option jm_X) = some X from hF)
  | succ n ih =>
    intro a0 h X hF
    rw [FL_texts_118] at hF
    refine jj_aload_n (j := 0) (i := 0) (pc' := 119) dL_texts_118 rfl rfl rfl ?_
    refine jj_ldc2l (v := (3976452247276566841 : Int64)) (pc' := 122) dL_texts_119 qw_94 rfl ?_
    refine jj_ldc2l (v := (2830896 : Int64)) (pc' := 125) dL_texts_122 qw_95 rfl ?_
    refine jj_bipush (v := (11 : Int32)) (pc' := 127) dL_texts_125 rfl rfl ?_
    refine jj_cI (N := M_L_isError) (kc' := 428) (ks' := 5103) (pc' := 130) (jg_S (N := M_L_isError) (rest := []) (as := [.ref a0, .long ((3976452247276566841 : Int64)), .long ((2830896 : Int64)), .int ((11 : Int32))]) cf_L_164 rfl dL_texts_127 rfl rfl ⟨Nat.le_of_ble_eq_true rfl, Nat.le_of_ble_eq_true rfl⟩ ⟨Nat.le_of_ble_eq_true rfl, Nat.le_of_ble_eq_true rfl⟩ (Nat.le_of_ble_eq_true rfl) (fun X' hX => KL_isError hX)) rfl rfl rfl rfl ⟨Nat.le_of_ble_eq_true rfl, Nat.le_of_ble_eq_true rfl⟩ rfl hF (fun x102 h101 hF => ?_)
    refine jj_if_ne (tgt := 135) (pc' := 133) dL_texts_130 rfl rfl (fun hc hF => ?_) (fun hc hF => ?_) hF
    · skip
      refine jj_wide (kc' := 428) (ks' := 5103) (Nat.le_of_ble_eq_true rfl) (Nat.le_of_ble_eq_true rfl) ?_
      exact jj_pick [0] rfl (BL_texts_135 N N a0 h101 _ hF)
    · skip
      refine jj_iconst (v := (0 : Int32)) (pc' := 134) dL_texts_133 rfl rfl ?_
      exact jj_retI (ty := .boolean) rfl rfl dL_texts_134 ⟨Nat.le_of_ble_eq_true rfl, Nat.le_of_ble_eq_true rfl⟩ hF
set_option maxRecDepth 100000 in
set_option maxHeartbeats 4000000 in
theorem JL_texts {N : Nat} {h : jm_H} {X : jm_X} (hF : FL_texts N h = some X) : jm_J M_L_texts 0 [] [] h 0 0 X := by
  unfold FL_texts at hF
  refine jj_new (C := RX3) (T := TX3) (N := 8) (ci := 3) (fs := [.null, .null, .null, .null, .null, .int 0, .int 0, .int 0]) (ty := tyX3) (lv := []) (kc' := 1) (ks' := 8) (pc' := 3) dL_texts_0 rfl rfl inX3 tyX3_ok ⟨qw_82, qw_83, qw_84⟩ (by decide) (by simp) rfl (jm_live rfl) rfl rfl ⟨Nat.le_of_ble_eq_true rfl, Nat.le_of_ble_eq_true rfl⟩ hF (fun o101 h102 hF => ?_)
  refine jj_dup (pc' := 4) dL_texts_3 rfl rfl ?_
  refine jj_ini (N := M_X3_init) (as := []) (rest := [.ref o101]) (lv := [o101]) (kc' := 108) (ks' := 3183) (pc' := 7) cf_L_142 dL_texts_4 rfl rfl ⟨Nat.le_of_ble_eq_true rfl, Nat.le_of_ble_eq_true rfl⟩ ⟨Nat.le_of_ble_eq_true rfl, Nat.le_of_ble_eq_true rfl⟩ (Nat.le_of_ble_eq_true rfl) (fun X' hX => KX3_init hX) rfl (jm_live rfl) rfl rfl rfl hF (fun h103 hF => ?_)
  refine jj_astore_n (i := 0) (ls' := [(0, .ref o101)]) (pc' := 8) dL_texts_7 rfl (Nat.le_of_ble_eq_true rfl) rfl rfl ?_
  refine jj_aload_n (j := 0) (i := 0) (pc' := 9) dL_texts_8 rfl rfl rfl ?_
  refine jj_ldc2l (v := (56 : Int64)) (pc' := 12) dL_texts_9 qw_86 rfl ?_
  refine jj_lconst (v := (0 : Int64)) (pc' := 13) dL_texts_12 rfl rfl ?_
  refine jj_iconst (v := (0 : Int32)) (pc' := 14) dL_texts_13 rfl rfl ?_
  refine jj_cI (N := M_L_isError) (kc' := 140) (ks' := 3375) (pc' := 17) (jg_S (N := M_L_isError) (rest := []) (as := [.ref o101, .long ((56 : Int64)), .long ((0 : Int64)), .int ((0 : Int32))]) cf_L_164 rfl dL_texts_14 rfl rfl ⟨Nat.le_of_ble_eq_true rfl, Nat.le_of_ble_eq_true rfl⟩ ⟨Nat.le_of_ble_eq_true rfl, Nat.le_of_ble_eq_true rfl⟩ (Nat.le_of_ble_eq_true rfl) (fun X' hX => KL_isError hX)) rfl rfl rfl rfl ⟨Nat.le_of_ble_eq_true rfl, Nat.le_of_ble_eq_true rfl⟩ rfl hF (fun x105 h104 hF => ?_)
  refine jj_if_eq (tgt := 133) (pc' := 20) dL_texts_17 rfl rfl (fun hc hF => ?_) (fun hc hF => ?_) hF
  · skip
    refine jj_iconst (v := (0 : Int32)) (pc' := 134) dL_texts_133 rfl rfl ?_
    exact jj_retI (ty := .boolean) rfl rfl dL_texts_134 ⟨Nat.le_of_ble_eq_true rfl, Nat.le_of_ble_eq_true rfl⟩ hF
  · skip
    refine jj_aload_n (j := 0) (i := 0) (pc' := 21) dL_texts_20 rfl rfl rfl ?_
    refine jj_ldc2l (v := (3157811 : Int64)) (pc' := 24) dL_texts_21 qw_87 rfl ?_
    refine jj_lconst (v := (0 : Int64)) (pc' := 25) dL_texts_24 rfl rfl ?_
    refine jj_iconst (v := (2 : Int32)) (pc' := 26) dL_texts_25 rfl rfl ?_
    refine jj_cI (N := M_L_isError) (kc' := 172) (ks' := 3567) (pc' := 29) (jg_S (N := M_L_isError) (rest := []) (as := [.ref o101, .long ((3157811 : Int64)), .long ((0 : Int64)), .int ((2 : Int32))]) cf_L_164 rfl dL_texts_26 rfl rfl ⟨Nat.le_of_ble_eq_true rfl, Nat.le_of_ble_eq_true rfl⟩ ⟨Nat.le_of_ble_eq_true rfl, Nat.le_of_ble_eq_true rfl⟩ (Nat.le_of_ble_eq_true rfl) (fun X' hX => KL_isError hX)) rfl rfl rfl rfl ⟨Nat.le_of_ble_eq_true rfl, Nat.le_of_ble_eq_true rfl⟩ rfl hF (fun x107 h106 hF => ?_)
    refine jj_if_eq (tgt := 133) (pc' := 32) dL_texts_29 rfl rfl (fun hc hF => ?_) (fun hc hF => ?_) hF
    · skip
      refine jj_iconst (v := (0 : Int32)) (pc' := 134) dL_texts_133 rfl rfl ?_
      exact jj_retI (ty := .boolean) rfl rfl dL_texts_134 ⟨Nat.le_of_ble_eq_true rfl, Nat.le_of_ble_eq_true rfl⟩ hF
    · skip
      refine jj_aload_n (j := 0) (i := 0) (pc' := 33) dL_texts_32 rfl rfl rfl ?_
      refine jj_ldc2l (v := (3472046890004000816 : Int64)) (pc' := 36) dL_texts_33 qw_88 rfl ?_
      refine jj_lconst (v := (0 : Int64)) (pc' := 37) dL_texts_36 rfl rfl ?_
      refine jj_bipush (v := (7 : Int32)) (pc' := 39) dL_texts_37 rfl rfl ?_
      refine jj_cI (N := M_L_isError) (kc' := 204) (ks' := 3759) (pc' := 42) (jg_S (N := M_L_isError) (rest := []) (as := [.ref o101, .long ((3472046890004000816 : Int64)), .long ((0 : Int64)), .int ((7 : Int32))]) cf_L_164 rfl dL_texts_39 rfl rfl ⟨Nat.le_of_ble_eq_true rfl, Nat.le_of_ble_eq_true rfl⟩ ⟨Nat.le_of_ble_eq_true rfl, Nat.le_of_ble_eq_true rfl⟩ (Nat.le_of_ble_eq_true rfl) (fun X' hX => KL_isError hX)) rfl rfl rfl rfl ⟨Nat.le_of_ble_eq_true rfl, Nat.le_of_ble_eq_true rfl⟩ rfl hF (fun x109 h108 hF => ?_)
      refine jj_if_eq (tgt := 133) (pc' := 45) dL_texts_42 rfl rfl (fun hc hF => ?_) (fun hc hF => ?_) hF
      · skip
        refine jj_iconst (v := (0 : Int32)) (pc' := 134) dL_texts_133 rfl rfl ?_
        exact jj_retI (ty := .boolean) rfl rfl dL_texts_134 ⟨Nat.le_of_ble_eq_true rfl, Nat.le_of_ble_eq_true rfl⟩ hF
      · skip
        refine jj_aload_n (j := 0) (i := 0) (pc' := 46) dL_texts_45 rfl rfl rfl ?_
        refine jj_ldc2l (v := (3472046889970119217 : Int64)) (pc' := 49) dL_texts_46 qw_89 rfl ?_
        refine jj_lconst (v := (0 : Int64)) (pc' := 50) dL_texts_49 rfl rfl ?_
        refine jj_bipush (v := (7 : Int32)) (pc' := 52) dL_texts_50 rfl rfl ?_
        refine jj_cI (N := M_L_isError) (kc' := 236) (ks' := 3951) (pc' := 55) (jg_S (N := M_L_isError) (rest := []) (as := [.ref o101, .long ((3472046889970119217 : Int64)), .long ((0 : Int64)), .int ((7 : Int32))]) cf_L_164 rfl dL_texts_52 rfl rfl ⟨Nat.le_of_ble_eq_true rfl, Nat.le_of_ble_eq_true rfl⟩ ⟨Nat.le_of_ble_eq_true rfl, Nat.le_of_ble_eq_true rfl⟩ (Nat.le_of_ble_eq_true rfl) (fun X' hX => KL_isError hX)) rfl rfl rfl rfl ⟨Nat.le_of_ble_eq_true rfl, Nat.le_of_ble_eq_true rfl⟩ rfl hF (fun x111 h110 hF => ?_)
        refine jj_if_eq (tgt := 133) (pc' := 58) dL_texts_55 rfl rfl (fun hc hF => ?_) (fun hc hF => ?_) hF
        · skip
          refine jj_iconst (v := (0 : Int32)) (pc' := 134) dL_texts_133 rfl rfl ?_
          exact jj_retI (ty := .boolean) rfl rfl dL_texts_134 ⟨Nat.le_of_ble_eq_true rfl, Nat.le_of_ble_eq_true rfl⟩ hF
        · skip
          refine jj_aload_n (j := 0) (i := 0) (pc' := 59) dL_texts_58 rfl rfl rfl ?_
          refine jj_ldc2l (v := (52979231109169 : Int64)) (pc' := 62) dL_texts_59 qw_90 rfl ?_
          refine jj_lconst (v := (0 : Int64)) (pc' := 63) dL_texts_62 rfl rfl ?_
          refine jj_iconst (v := (5 : Int32)) (pc' := 64) dL_texts_63 rfl rfl ?_
          refine jj_cI (N := M_L_isError) (kc' := 268) (ks' := 4143) (pc' := 67) (jg_S (N := M_L_isError) (rest := []) (as := [.ref o101, .long ((52979231109169 : Int64)), .long ((0 : Int64)), .int ((5 : Int32))]) cf_L_164 rfl dL_texts_64 rfl rfl ⟨Nat.le_of_ble_eq_true rfl, Nat.le_of_ble_eq_true rfl⟩ ⟨Nat.le_of_ble_eq_true rfl, Nat.le_of_ble_eq_true rfl⟩ (Nat.le_of_ble_eq_true rfl) (fun X' hX => KL_isError hX)) rfl rfl rfl rfl ⟨Nat.le_of_ble_eq_true rfl, Nat.le_of_ble_eq_true rfl⟩ rfl hF (fun x113 h112 hF => ?_)
          refine jj_if_eq (tgt := 133) (pc' := 70) dL_texts_67 rfl rfl (fun hc hF => ?_) (fun hc hF => ?_) hF
          · skip
            refine jj_iconst (v := (0 : Int32)) (pc' := 134) dL_texts_133 rfl rfl ?_
            exact jj_retI (ty := .boolean) rfl rfl dL_texts_134 ⟨Nat.le_of_ble_eq_true rfl, Nat.le_of_ble_eq_true rfl⟩ hF
          · skip
            refine jj_aload_n (j := 0) (i := 0) (pc' := 71) dL_texts_70 rfl rfl rfl ?_
            refine jj_ldc2l (v := (52979231110459 : Int64)) (pc' := 74) dL_texts_71 qw_91 rfl ?_
            refine jj_lconst (v := (0 : Int64)) (pc' := 75) dL_texts_74 rfl rfl ?_
            refine jj_bipush (v := (6 : Int32)) (pc' := 77) dL_texts_75 rfl rfl ?_
            refine jj_cI (N := M_L_isError) (kc' := 300) (ks' := 4335) (pc' := 80) (jg_S (N := M_L_isError) (rest := []) (as := [.ref o101, .long ((52979231110459 : Int64)), .long ((0 : Int64)), .int ((6 : Int32))]) cf_L_164 rfl dL_texts_77 rfl rfl ⟨Nat.le_of_ble_eq_true rfl, Nat.le_of_ble_eq_true rfl⟩ ⟨Nat.le_of_ble_eq_true rfl, Nat.le_of_ble_eq_true rfl⟩ (Nat.le_of_ble_eq_true rfl) (fun X' hX => KL_isError hX)) rfl rfl rfl rfl ⟨Nat.le_of_ble_eq_true rfl, Nat.le_of_ble_eq_true rfl⟩ rfl hF (fun x115 h114 hF => ?_)
            refine jj_if_eq (tgt := 133) (pc' := 83) dL_texts_80 rfl rfl (fun hc hF => ?_) (fun hc hF => ?_) hF
            · skip
              refine jj_iconst (v := (0 : Int32)) (pc' := 134) dL_texts_133 rfl rfl ?_
              exact jj_retI (ty := .boolean) rfl rfl dL_texts_134 ⟨Nat.le_of_ble_eq_true rfl, Nat.le_of_ble_eq_true rfl⟩ hF
            · skip
              refine jj_aload_n (j := 0) (i := 0) (pc' := 84) dL_texts_83 rfl rfl rfl ?_
              refine jj_ldc2l (v := (52979231110443 : Int64)) (pc' := 87) dL_texts_84 qw_92 rfl ?_
              refine jj_lconst (v := (0 : Int64)) (pc' := 88) dL_texts_87 rfl rfl ?_
              refine jj_bipush (v := (6 : Int32)) (pc' := 90) dL_texts_88 rfl rfl ?_
              refine jj_cI (N := M_L_isError) (kc' := 332) (ks' := 4527) (pc' := 93) (jg_S (N := M_L_isError) (rest := []) (as := [.ref o101, .long ((52979231110443 : Int64)), .long ((0 : Int64)), .int ((6 : Int32))]) cf_L_164 rfl dL_texts_90 rfl rfl ⟨Nat.le_of_ble_eq_true rfl, Nat.le_of_ble_eq_true rfl⟩ ⟨Nat.le_of_ble_eq_true rfl, Nat.le_of_ble_eq_true rfl⟩ (Nat.le_of_ble_eq_true rfl) (fun X' hX => KL_isError hX)) rfl rfl rfl rfl ⟨Nat.le_of_ble_eq_true rfl, Nat.le_of_ble_eq_true rfl⟩ rfl hF (fun x117 h116 hF => ?_)
              refine jj_if_eq (tgt := 133) (pc' := 96) dL_texts_93 rfl rfl (fun hc hF => ?_) (fun hc hF => ?_) hF
              · skip
                refine jj_iconst (v := (0 : Int32)) (pc' := 134) dL_texts_133 rfl rfl ?_
                exact jj_retI (ty := .boolean) rfl rfl dL_texts_134 ⟨Nat.le_of_ble_eq_true rfl, Nat.le_of_ble_eq_true rfl⟩ hF
              · skip
                refine jj_aload_n (j := 0) (i := 0) (pc' := 97) dL_texts_96 rfl rfl rfl ?_
                refine jj_ldc2l (v := (206950121525 : Int64)) (pc' := 100) dL_texts_97 qw_93 rfl ?_
                refine jj_lconst (v := (0 : Int64)) (pc' := 101) dL_texts_100 rfl rfl ?_
                refine jj_iconst (v := (5 : Int32)) (pc' := 102) dL_texts_101 rfl rfl ?_
                refine jj_cI (N := M_L_isError) (kc' := 364) (ks' := 4719) (pc' := 105) (jg_S (N := M_L_isError) (rest := []) (as := [.ref o101, .long ((206950121525 : Int64)), .long ((0 : Int64)), .int ((5 : Int32))]) cf_L_164 rfl dL_texts_102 rfl rfl ⟨Nat.le_of_ble_eq_true rfl, Nat.le_of_ble_eq_true rfl⟩ ⟨Nat.le_of_ble_eq_true rfl, Nat.le_of_ble_eq_true rfl⟩ (Nat.le_of_ble_eq_true rfl) (fun X' hX => KL_isError hX)) rfl rfl rfl rfl ⟨Nat.le_of_ble_eq_true rfl, Nat.le_of_ble_eq_true rfl⟩ rfl hF (fun x119 h118 hF => ?_)
                refine jj_if_eq (tgt := 133) (pc' := 108) dL_texts_105 rfl rfl (fun hc hF => ?_) (fun hc hF => ?_) hF
                · skip
                  refine jj_iconst (v := (0 : Int32)) (pc' := 134) dL_texts_133 rfl rfl ?_
                  exact jj_retI (ty := .boolean) rfl rfl dL_texts_134 ⟨Nat.le_of_ble_eq_true rfl, Nat.le_of_ble_eq_true rfl⟩ hF
                · skip
                  refine jj_aload_n (j := 0) (i := 0) (pc' := 109) dL_texts_108 rfl rfl rfl ?_
                  refine jj_lconst (v := (0 : Int64)) (pc' := 110) dL_texts_109 rfl rfl ?_
                  refine jj_lconst (v := (0 : Int64)) (pc' := 111) dL_texts_110 rfl rfl ?_
                  refine jj_iconst (v := (0 : Int32)) (pc' := 112) dL_texts_111 rfl rfl ?_
                  refine jj_cI (N := M_L_isError) (kc' := 396) (ks' := 4911) (pc' := 115) (jg_S (N := M_L_isError) (rest := []) (as := [.ref o101, .long ((0 : Int64)), .long ((0 : Int64)), .int ((0 : Int32))]) cf_L_164 rfl dL_texts_112 rfl rfl ⟨Nat.le_of_ble_eq_true rfl, Nat.le_of_ble_eq_true rfl⟩ ⟨Nat.le_of_ble_eq_true rfl, Nat.le_of_ble_eq_true rfl⟩ (Nat.le_of_ble_eq_true rfl) (fun X' hX => KL_isError hX)) rfl rfl rfl rfl ⟨Nat.le_of_ble_eq_true rfl, Nat.le_of_ble_eq_true rfl⟩ rfl hF (fun x121 h120 hF => ?_)
                  refine jj_if_eq (tgt := 133) (pc' := 118) dL_texts_115 rfl rfl (fun hc hF => ?_) (fun hc hF => ?_) hF
                  · skip
                    refine jj_iconst (v := (0 : Int32)) (pc' := 134) dL_texts_133 rfl rfl ?_
                    exact jj_retI (ty := .boolean) rfl rfl dL_texts_134 ⟨Nat.le_of_ble_eq_true rfl, Nat.le_of_ble_eq_true rfl⟩ hF
                  · skip
                    refine jj_wide (kc' := 396) (ks' := 4911) (Nat.le_of_ble_eq_true rfl) (Nat.le_of_ble_eq_true rfl) ?_
                    exact jj_pick [0] rfl (BL_texts_118 N N o101 h120 _ hF)
theorem KL_texts {N : Nat} {h : jm_H} {X : jm_X} (hF : FL_texts N h = some X) : jm_K M_L_texts [] h X := jk_of rfl (by decide +kernel) rfl rfl (Nat.le_of_ble_eq_true rfl) (JL_texts hF)

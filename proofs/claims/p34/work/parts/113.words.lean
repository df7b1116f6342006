/-! words by their places -/
set_option maxRecDepth 100000 in
theorem qw_400 : Cond.selects RX0 yX0_pointsFrom yX0_pointsFrom ∈ jm_WS := jm_in (List.mem_of_getElem? (i := 25) rfl) (by decide +kernel)
set_option maxRecDepth 100000 in
theorem qw_401 : jm_cd M_X0_jurorNumber ∈ jm_WS := jm_in (List.mem_of_getElem? (i := 680) rfl) (by decide +kernel)
set_option maxRecDepth 100000 in
theorem qw_402 : Cond.methodLink RX3 213 yX0_jurorNumber ∈ jm_WS := jm_in (List.mem_of_getElem? (i := 677) rfl) (by decide +kernel)
set_option maxRecDepth 100000 in
theorem qw_403 : Cond.instanceMethod yX0_jurorNumber ∈ jm_WS := jm_in (List.mem_of_getElem? (i := 678) rfl) (by decide +kernel)
set_option maxRecDepth 100000 in
theorem qw_404 : Cond.selects RX0 yX0_jurorNumber yX0_jurorNumber ∈ jm_WS := jm_in (List.mem_of_getElem? (i := 679) rfl) (by decide +kernel)
set_option maxRecDepth 100000 in
theorem qw_405 : jm_cd M_X0_greeters ∈ jm_WS := jm_in (List.mem_of_getElem? (i := 433) rfl) (by decide +kernel)
set_option maxRecDepth 100000 in
theorem qw_406 : Cond.methodLink RX3 268 yX0_greeters ∈ jm_WS := jm_in (List.mem_of_getElem? (i := 430) rfl) (by decide +kernel)
set_option maxRecDepth 100000 in
theorem qw_407 : Cond.instanceMethod yX0_greeters ∈ jm_WS := jm_in (List.mem_of_getElem? (i := 431) rfl) (by decide +kernel)
set_option maxRecDepth 100000 in
theorem qw_408 : Cond.selects RX0 yX0_greeters yX0_greeters ∈ jm_WS := jm_in (List.mem_of_getElem? (i := 432) rfl) (by decide +kernel)
set_option maxRecDepth 100000 in
theorem qw_409 : jm_cd M_X0_allSeats ∈ jm_WS := jm_in (List.mem_of_getElem? (i := 445) rfl) (by decide +kernel)
set_option maxRecDepth 100000 in
theorem qw_410 : Cond.methodLink RX3 271 yX0_allSeats ∈ jm_WS := jm_in (List.mem_of_getElem? (i := 442) rfl) (by decide +kernel)
set_option maxRecDepth 100000 in
theorem qw_411 : Cond.instanceMethod yX0_allSeats ∈ jm_WS := jm_in (List.mem_of_getElem? (i := 443) rfl) (by decide +kernel)
set_option maxRecDepth 100000 in
theorem qw_412 : Cond.selects RX0 yX0_allSeats yX0_allSeats ∈ jm_WS := jm_in (List.mem_of_getElem? (i := 444) rfl) (by decide +kernel)
set_option maxRecDepth 100000 in
theorem qw_413 : jm_cd M_X0_prize ∈ jm_WS := jm_in (List.mem_of_getElem? (i := 449) rfl) (by decide +kernel)
set_option maxRecDepth 100000 in
theorem qw_414 : Cond.methodLink RX3 277 yX0_prize ∈ jm_WS := jm_in (List.mem_of_getElem? (i := 446) rfl) (by decide +kernel)
set_option maxRecDepth 100000 in
theorem qw_415 : Cond.instanceMethod yX0_prize ∈ jm_WS := jm_in (List.mem_of_getElem? (i := 447) rfl) (by decide +kernel)
set_option maxRecDepth 100000 in
theorem qw_416 : Cond.selects RX0 yX0_prize yX0_prize ∈ jm_WS := jm_in (List.mem_of_getElem? (i := 448) rfl) (by decide +kernel)
set_option maxRecDepth 100000 in
theorem qw_417 : jm_cd M_X3_countNumber ∈ jm_WS := jm_in (List.mem_of_getElem? (i := 429) rfl) (by decide +kernel)
set_option maxRecDepth 100000 in
theorem qw_418 : Cond.methodLink RX3 216 yX3_countNumber ∈ jm_WS := jm_in (List.mem_of_getElem? (i := 426) rfl) (by decide +kernel)
set_option maxRecDepth 100000 in
theorem qw_419 : Cond.instanceMethod yX3_countNumber ∈ jm_WS := jm_in (List.mem_of_getElem? (i := 428) rfl) (by decide +kernel)
set_option maxRecDepth 100000 in
theorem qw_420 : Cond.selects RX3 yX3_countNumber yX3_countNumber ∈ jm_WS := jm_in (List.mem_of_getElem? (i := 8) rfl) (by decide +kernel)
set_option maxRecDepth 100000 in
theorem qw_421 : Cond.methodLink RX3 222 yX0_clashingReel ∈ jm_WS := jm_in (List.mem_of_getElem? (i := 693) rfl) (by decide +kernel)
set_option maxRecDepth 100000 in
theorem qw_422 : Cond.methodLink RX0 117 yX0_reelBegin ∈ jm_WS := jm_in (List.mem_of_getElem? (i := 702) rfl) (by decide +kernel)
set_option maxRecDepth 100000 in
theorem qw_423 : jm_cd M_X0_nextFrom ∈ jm_WS := jm_in (List.mem_of_getElem? (i := 701) rfl) (by decide +kernel)
set_option maxRecDepth 100000 in
theorem qw_424 : Cond.methodLink RX3 225 yX0_nextFrom ∈ jm_WS := jm_in (List.mem_of_getElem? (i := 698) rfl) (by decide +kernel)
set_option maxRecDepth 100000 in
theorem qw_425 : Cond.instanceMethod yX0_nextFrom ∈ jm_WS := jm_in (List.mem_of_getElem? (i := 699) rfl) (by decide +kernel)
set_option maxRecDepth 100000 in
theorem qw_426 : Cond.selects RX0 yX0_nextFrom yX0_nextFrom ∈ jm_WS := jm_in (List.mem_of_getElem? (i := 700) rfl) (by decide +kernel)
set_option maxRecDepth 100000 in
theorem qw_427 : Cond.methodLink RX0 120 yX0_nextFrom ∈ jm_WS := jm_in (List.mem_of_getElem? (i := 711) rfl) (by decide +kernel)
set_option maxRecDepth 100000 in
theorem qw_428 : jm_cd M_X0_bestFrom ∈ jm_WS := jm_in (List.mem_of_getElem? (i := 710) rfl) (by decide +kernel)
set_option maxRecDepth 100000 in
theorem qw_429 : Cond.methodLink RX3 228 yX0_bestFrom ∈ jm_WS := jm_in (List.mem_of_getElem? (i := 707) rfl) (by decide +kernel)
set_option maxRecDepth 100000 in
theorem qw_430 : Cond.instanceMethod yX0_bestFrom ∈ jm_WS := jm_in (List.mem_of_getElem? (i := 708) rfl) (by decide +kernel)
set_option maxRecDepth 100000 in
theorem qw_431 : Cond.selects RX0 yX0_bestFrom yX0_bestFrom ∈ jm_WS := jm_in (List.mem_of_getElem? (i := 709) rfl) (by decide +kernel)
set_option maxRecDepth 100000 in
theorem qw_432 : Cond.methodLink RX0 124 yX0_refusal ∈ jm_WS := jm_in (List.mem_of_getElem? (i := 720) rfl) (by decide +kernel)
set_option maxRecDepth 100000 in
theorem qw_433 : jm_cd M_X0_moreGreeters ∈ jm_WS := jm_in (List.mem_of_getElem? (i := 719) rfl) (by decide +kernel)
set_option maxRecDepth 100000 in
theorem qw_434 : Cond.methodLink RX3 231 yX0_moreGreeters ∈ jm_WS := jm_in (List.mem_of_getElem? (i := 716) rfl) (by decide +kernel)
set_option maxRecDepth 100000 in
theorem qw_435 : Cond.instanceMethod yX0_moreGreeters ∈ jm_WS := jm_in (List.mem_of_getElem? (i := 717) rfl) (by decide +kernel)
set_option maxRecDepth 100000 in
theorem qw_436 : Cond.selects RX0 yX0_moreGreeters yX0_moreGreeters ∈ jm_WS := jm_in (List.mem_of_getElem? (i := 718) rfl) (by decide +kernel)
set_option maxRecDepth 100000 in
theorem qw_437 : jm_cd M_X0_share ∈ jm_WS := jm_in (List.mem_of_getElem? (i := 728) rfl) (by decide +kernel)
set_option maxRecDepth 100000 in
theorem qw_438 : Cond.methodLink RX3 234 yX0_share ∈ jm_WS := jm_in (List.mem_of_getElem? (i := 725) rfl) (by decide +kernel)
set_option maxRecDepth 100000 in
theorem qw_439 : Cond.instanceMethod yX0_share ∈ jm_WS := jm_in (List.mem_of_getElem? (i := 726) rfl) (by decide +kernel)
set_option maxRecDepth 100000 in
theorem qw_440 : Cond.selects RX0 yX0_share yX0_share ∈ jm_WS := jm_in (List.mem_of_getElem? (i := 727) rfl) (by decide +kernel)
set_option maxRecDepth 100000 in
theorem qw_441 : jm_cd M_X3_use ∈ jm_WS := jm_in (List.mem_of_getElem? (i := 724) rfl) (by decide +kernel)
set_option maxRecDepth 100000 in
theorem qw_442 : Cond.methodLink RL 97 yX3_use ∈ jm_WS := jm_in (List.mem_of_getElem? (i := 721) rfl) (by decide +kernel)
set_option maxRecDepth 100000 in
theorem qw_443 : Cond.instanceMethod yX3_use ∈ jm_WS := jm_in (List.mem_of_getElem? (i := 722) rfl) (by decide +kernel)
set_option maxRecDepth 100000 in
theorem qw_444 : Cond.selects RX3 yX3_use yX3_use ∈ jm_WS := jm_in (List.mem_of_getElem? (i := 723) rfl) (by decide +kernel)
set_option maxRecDepth 100000 in
theorem qw_445 : jm_cd M_X3_ifShown ∈ jm_WS := jm_in (List.mem_of_getElem? (i := 715) rfl) (by decide +kernel)
set_option maxRecDepth 100000 in
theorem qw_446 : Cond.methodLink RL 94 yX3_ifShown ∈ jm_WS := jm_in (List.mem_of_getElem? (i := 712) rfl) (by decide +kernel)
set_option maxRecDepth 100000 in
theorem qw_447 : Cond.instanceMethod yX3_ifShown ∈ jm_WS := jm_in (List.mem_of_getElem? (i := 713) rfl) (by decide +kernel)
set_option maxRecDepth 100000 in
theorem qw_448 : Cond.selects RX3 yX3_ifShown yX3_ifShown ∈ jm_WS := jm_in (List.mem_of_getElem? (i := 714) rfl) (by decide +kernel)
set_option maxRecDepth 100000 in
theorem qw_449 : jm_cd M_X3_bestScreen ∈ jm_WS := jm_in (List.mem_of_getElem? (i := 706) rfl) (by decide +kernel)
set_option maxRecDepth 100000 in
theorem qw_450 : Cond.methodLink RL 91 yX3_bestScreen ∈ jm_WS := jm_in (List.mem_of_getElem? (i := 703) rfl) (by decide +kernel)
set_option maxRecDepth 100000 in
theorem qw_451 : Cond.instanceMethod yX3_bestScreen ∈ jm_WS := jm_in (List.mem_of_getElem? (i := 704) rfl) (by decide +kernel)
set_option maxRecDepth 100000 in
theorem qw_452 : Cond.selects RX3 yX3_bestScreen yX3_bestScreen ∈ jm_WS := jm_in (List.mem_of_getElem? (i := 705) rfl) (by decide +kernel)
set_option maxRecDepth 100000 in
theorem qw_453 : jm_cd M_X3_nextStart ∈ jm_WS := jm_in (List.mem_of_getElem? (i := 697) rfl) (by decide +kernel)
set_option maxRecDepth 100000 in
theorem qw_454 : Cond.methodLink RL 88 yX3_nextStart ∈ jm_WS := jm_in (List.mem_of_getElem? (i := 694) rfl) (by decide +kernel)
set_option maxRecDepth 100000 in
theorem qw_455 : Cond.instanceMethod yX3_nextStart ∈ jm_WS := jm_in (List.mem_of_getElem? (i := 695) rfl) (by decide +kernel)
set_option maxRecDepth 100000 in
theorem qw_456 : Cond.selects RX3 yX3_nextStart yX3_nextStart ∈ jm_WS := jm_in (List.mem_of_getElem? (i := 696) rfl) (by decide +kernel)
set_option maxRecDepth 100000 in
theorem qw_457 : jm_cd M_X3_whyNot ∈ jm_WS := jm_in (List.mem_of_getElem? (i := 692) rfl) (by decide +kernel)
set_option maxRecDepth 100000 in
theorem qw_458 : Cond.methodLink RL 84 yX3_whyNot ∈ jm_WS := jm_in (List.mem_of_getElem? (i := 689) rfl) (by decide +kernel)
set_option maxRecDepth 100000 in
theorem qw_459 : Cond.instanceMethod yX3_whyNot ∈ jm_WS := jm_in (List.mem_of_getElem? (i := 690) rfl) (by decide +kernel)
set_option maxRecDepth 100000 in
theorem qw_460 : Cond.selects RX3 yX3_whyNot yX3_whyNot ∈ jm_WS := jm_in (List.mem_of_getElem? (i := 691) rfl) (by decide +kernel)
set_option maxRecDepth 100000 in
theorem qw_461 : jm_cd M_X3_count ∈ jm_WS := jm_in (List.mem_of_getElem? (i := 422) rfl) (by decide +kernel)
set_option maxRecDepth 100000 in
theorem qw_462 : Cond.methodLink RL 81 yX3_count ∈ jm_WS := jm_in (List.mem_of_getElem? (i := 419) rfl) (by decide +kernel)
set_option maxRecDepth 100000 in
theorem qw_463 : Cond.instanceMethod yX3_count ∈ jm_WS := jm_in (List.mem_of_getElem? (i := 420) rfl) (by decide +kernel)
set_option maxRecDepth 100000 in
theorem qw_464 : Cond.selects RX3 yX3_count yX3_count ∈ jm_WS := jm_in (List.mem_of_getElem? (i := 421) rfl) (by decide +kernel)
set_option maxRecDepth 100000 in
theorem qw_465 : jm_cd M_X3_juror ∈ jm_WS := jm_in (List.mem_of_getElem? (i := 676) rfl) (by decide +kernel)
set_option maxRecDepth 100000 in
theorem qw_466 : Cond.methodLink RL 78 yX3_juror ∈ jm_WS := jm_in (List.mem_of_getElem? (i := 673) rfl) (by decide +kernel)
set_option maxRecDepth 100000 in
theorem qw_467 : Cond.instanceMethod yX3_juror ∈ jm_WS := jm_in (List.mem_of_getElem? (i := 674) rfl) (by decide +kernel)
set_option maxRecDepth 100000 in
theorem qw_468 : Cond.selects RX3 yX3_juror yX3_juror ∈ jm_WS := jm_in (List.mem_of_getElem? (i := 675) rfl) (by decide +kernel)
set_option maxRecDepth 100000 in
theorem qw_469 : jm_cd M_X3_guestOf ∈ jm_WS := jm_in (List.mem_of_getElem? (i := 667) rfl) (by decide +kernel)
set_option maxRecDepth 100000 in
theorem qw_470 : Cond.methodLink RL 75 yX3_guestOf ∈ jm_WS := jm_in (List.mem_of_getElem? (i := 664) rfl) (by decide +kernel)
set_option maxRecDepth 100000 in
theorem qw_471 : Cond.instanceMethod yX3_guestOf ∈ jm_WS := jm_in (List.mem_of_getElem? (i := 665) rfl) (by decide +kernel)
set_option maxRecDepth 100000 in
theorem qw_472 : Cond.selects RX3 yX3_guestOf yX3_guestOf ∈ jm_WS := jm_in (List.mem_of_getElem? (i := 666) rfl) (by decide +kernel)
set_option maxRecDepth 100000 in
theorem qw_473 : jm_cd M_X3_screen ∈ jm_WS := jm_in (List.mem_of_getElem? (i := 646) rfl) (by decide +kernel)
set_option maxRecDepth 100000 in
theorem qw_474 : Cond.methodLink RL 72 yX3_screen ∈ jm_WS := jm_in (List.mem_of_getElem? (i := 643) rfl) (by decide +kernel)
set_option maxRecDepth 100000 in
theorem qw_475 : Cond.instanceMethod yX3_screen ∈ jm_WS := jm_in (List.mem_of_getElem? (i := 644) rfl) (by decide +kernel)
set_option maxRecDepth 100000 in
theorem qw_476 : Cond.selects RX3 yX3_screen yX3_screen ∈ jm_WS := jm_in (List.mem_of_getElem? (i := 645) rfl) (by decide +kernel)
set_option maxRecDepth 100000 in
theorem qw_477 : jm_cd M_X3_runs ∈ jm_WS := jm_in (List.mem_of_getElem? (i := 634) rfl) (by decide +kernel)
set_option maxRecDepth 100000 in
theorem qw_478 : Cond.methodLink RL 69 yX3_runs ∈ jm_WS := jm_in (List.mem_of_getElem? (i := 631) rfl) (by decide +kernel)
set_option maxRecDepth 100000 in
theorem qw_479 : Cond.instanceMethod yX3_runs ∈ jm_WS := jm_in (List.mem_of_getElem? (i := 632) rfl) (by decide +kernel)
set_option maxRecDepth 100000 in
theorem qw_480 : Cond.selects RX3 yX3_runs yX3_runs ∈ jm_WS := jm_in (List.mem_of_getElem? (i := 633) rfl) (by decide +kernel)
set_option maxRecDepth 100000 in
theorem qw_481 : jm_cd M_X3_reel ∈ jm_WS := jm_in (List.mem_of_getElem? (i := 626) rfl) (by decide +kernel)
set_option maxRecDepth 100000 in
theorem qw_482 : Cond.methodLink RL 66 yX3_reel ∈ jm_WS := jm_in (List.mem_of_getElem? (i := 623) rfl) (by decide +kernel)
set_option maxRecDepth 100000 in
theorem qw_483 : Cond.instanceMethod yX3_reel ∈ jm_WS := jm_in (List.mem_of_getElem? (i := 624) rfl) (by decide +kernel)
set_option maxRecDepth 100000 in
theorem qw_484 : Cond.selects RX3 yX3_reel yX3_reel ∈ jm_WS := jm_in (List.mem_of_getElem? (i := 625) rfl) (by decide +kernel)
set_option maxRecDepth 100000 in
theorem qw_485 : jm_cd M_X3_showing ∈ jm_WS := jm_in (List.mem_of_getElem? (i := 618) rfl) (by decide +kernel)
set_option maxRecDepth 100000 in
theorem qw_486 : Cond.methodLink RL 63 yX3_showing ∈ jm_WS := jm_in (List.mem_of_getElem? (i := 615) rfl) (by decide +kernel)
set_option maxRecDepth 100000 in
theorem qw_487 : Cond.instanceMethod yX3_showing ∈ jm_WS := jm_in (List.mem_of_getElem? (i := 616) rfl) (by decide +kernel)
set_option maxRecDepth 100000 in
theorem qw_488 : Cond.selects RX3 yX3_showing yX3_showing ∈ jm_WS := jm_in (List.mem_of_getElem? (i := 617) rfl) (by decide +kernel)
set_option maxRecDepth 100000 in
theorem qw_489 : jm_cd M_X3_filmOf ∈ jm_WS := jm_in (List.mem_of_getElem? (i := 602) rfl) (by decide +kernel)
set_option maxRecDepth 100000 in
theorem qw_490 : Cond.methodLink RL 60 yX3_filmOf ∈ jm_WS := jm_in (List.mem_of_getElem? (i := 599) rfl) (by decide +kernel)
set_option maxRecDepth 100000 in
theorem qw_491 : Cond.instanceMethod yX3_filmOf ∈ jm_WS := jm_in (List.mem_of_getElem? (i := 600) rfl) (by decide +kernel)
set_option maxRecDepth 100000 in
theorem qw_492 : Cond.selects RX3 yX3_filmOf yX3_filmOf ∈ jm_WS := jm_in (List.mem_of_getElem? (i := 601) rfl) (by decide +kernel)
set_option maxRecDepth 100000 in
theorem qw_493 : jm_cd M_X3_restore ∈ jm_WS := jm_in (List.mem_of_getElem? (i := 417) rfl) (by decide +kernel)
set_option maxRecDepth 100000 in
theorem qw_494 : Cond.methodLink RL 57 yX3_restore ∈ jm_WS := jm_in (List.mem_of_getElem? (i := 414) rfl) (by decide +kernel)
set_option maxRecDepth 100000 in
theorem qw_495 : Cond.instanceMethod yX3_restore ∈ jm_WS := jm_in (List.mem_of_getElem? (i := 415) rfl) (by decide +kernel)
set_option maxRecDepth 100000 in
theorem qw_496 : Cond.selects RX3 yX3_restore yX3_restore ∈ jm_WS := jm_in (List.mem_of_getElem? (i := 416) rfl) (by decide +kernel)
set_option maxRecDepth 100000 in
theorem qw_497 : jm_cd M_X3_undo ∈ jm_WS := jm_in (List.mem_of_getElem? (i := 408) rfl) (by decide +kernel)
set_option maxRecDepth 100000 in
theorem qw_498 : Cond.methodLink RL 54 yX3_undo ∈ jm_WS := jm_in (List.mem_of_getElem? (i := 405) rfl) (by decide +kernel)
set_option maxRecDepth 100000 in
theorem qw_499 : Cond.instanceMethod yX3_undo ∈ jm_WS := jm_in (List.mem_of_getElem? (i := 406) rfl) (by decide +kernel)
set_option maxRecDepth 100000 in
theorem qw_500 : Cond.selects RX3 yX3_undo yX3_undo ∈ jm_WS := jm_in (List.mem_of_getElem? (i := 407) rfl) (by decide +kernel)
set_option maxRecDepth 100000 in
theorem qw_501 : jm_cd M_X3_stopped ∈ jm_WS := jm_in (List.mem_of_getElem? (i := 594) rfl) (by decide +kernel)
set_option maxRecDepth 100000 in
theorem qw_502 : Cond.methodLink RL 51 yX3_stopped ∈ jm_WS := jm_in (List.mem_of_getElem? (i := 591) rfl) (by decide +kernel)
set_option maxRecDepth 100000 in
theorem qw_503 : Cond.instanceMethod yX3_stopped ∈ jm_WS := jm_in (List.mem_of_getElem? (i := 592) rfl) (by decide +kernel)
set_option maxRecDepth 100000 in
theorem qw_504 : Cond.selects RX3 yX3_stopped yX3_stopped ∈ jm_WS := jm_in (List.mem_of_getElem? (i := 593) rfl) (by decide +kernel)
set_option maxRecDepth 100000 in
theorem qw_505 : jm_cd M_X3_program ∈ jm_WS := jm_in (List.mem_of_getElem? (i := 541) rfl) (by decide +kernel)
set_option maxRecDepth 100000 in
theorem qw_506 : Cond.methodLink RL 47 yX3_program ∈ jm_WS := jm_in (List.mem_of_getElem? (i := 538) rfl) (by decide +kernel)
set_option maxRecDepth 100000 in
theorem qw_507 : Cond.instanceMethod yX3_program ∈ jm_WS := jm_in (List.mem_of_getElem? (i := 539) rfl) (by decide +kernel)
set_option maxRecDepth 100000 in
theorem qw_508 : Cond.selects RX3 yX3_program yX3_program ∈ jm_WS := jm_in (List.mem_of_getElem? (i := 540) rfl) (by decide +kernel)
set_option maxRecDepth 100000 in
theorem qw_509 : jm_cd M_X3_append ∈ jm_WS := jm_in (List.mem_of_getElem? (i := 536) rfl) (by decide +kernel)
set_option maxRecDepth 100000 in
theorem qw_510 : Cond.methodLink RL 44 yX3_append ∈ jm_WS := jm_in (List.mem_of_getElem? (i := 533) rfl) (by decide +kernel)
set_option maxRecDepth 100000 in
theorem qw_511 : Cond.instanceMethod yX3_append ∈ jm_WS := jm_in (List.mem_of_getElem? (i := 534) rfl) (by decide +kernel)
set_option maxRecDepth 100000 in
theorem qw_512 : Cond.selects RX3 yX3_append yX3_append ∈ jm_WS := jm_in (List.mem_of_getElem? (i := 535) rfl) (by decide +kernel)
set_option maxRecDepth 100000 in
theorem qw_513 : jm_cd M_X3_vote ∈ jm_WS := jm_in (List.mem_of_getElem? (i := 529) rfl) (by decide +kernel)
set_option maxRecDepth 100000 in
theorem qw_514 : Cond.methodLink RL 41 yX3_vote ∈ jm_WS := jm_in (List.mem_of_getElem? (i := 526) rfl) (by decide +kernel)
set_option maxRecDepth 100000 in
theorem qw_515 : Cond.instanceMethod yX3_vote ∈ jm_WS := jm_in (List.mem_of_getElem? (i := 527) rfl) (by decide +kernel)
set_option maxRecDepth 100000 in
theorem qw_516 : Cond.selects RX3 yX3_vote yX3_vote ∈ jm_WS := jm_in (List.mem_of_getElem? (i := 528) rfl) (by decide +kernel)
set_option maxRecDepth 100000 in
theorem qw_517 : jm_cd M_X3_attend ∈ jm_WS := jm_in (List.mem_of_getElem? (i := 374) rfl) (by decide +kernel)
set_option maxRecDepth 100000 in
theorem qw_518 : Cond.methodLink RL 38 yX3_attend ∈ jm_WS := jm_in (List.mem_of_getElem? (i := 371) rfl) (by decide +kernel)
set_option maxRecDepth 100000 in
theorem qw_519 : Cond.instanceMethod yX3_attend ∈ jm_WS := jm_in (List.mem_of_getElem? (i := 372) rfl) (by decide +kernel)
set_option maxRecDepth 100000 in
theorem qw_520 : Cond.selects RX3 yX3_attend yX3_attend ∈ jm_WS := jm_in (List.mem_of_getElem? (i := 373) rfl) (by decide +kernel)
set_option maxRecDepth 100000 in
theorem qw_521 : jm_cd M_X3_guest ∈ jm_WS := jm_in (List.mem_of_getElem? (i := 520) rfl) (by decide +kernel)
set_option maxRecDepth 100000 in
theorem qw_522 : Cond.methodLink RL 34 yX3_guest ∈ jm_WS := jm_in (List.mem_of_getElem? (i := 517) rfl) (by decide +kernel)
set_option maxRecDepth 100000 in
theorem qw_523 : Cond.instanceMethod yX3_guest ∈ jm_WS := jm_in (List.mem_of_getElem? (i := 518) rfl) (by decide +kernel)
set_option maxRecDepth 100000 in
theorem qw_524 : Cond.selects RX3 yX3_guest yX3_guest ∈ jm_WS := jm_in (List.mem_of_getElem? (i := 519) rfl) (by decide +kernel)
set_option maxRecDepth 100000 in
theorem qw_525 : jm_cd M_X3_move ∈ jm_WS := jm_in (List.mem_of_getElem? (i := 510) rfl) (by decide +kernel)
set_option maxRecDepth 100000 in
theorem qw_526 : Cond.methodLink RL 31 yX3_move ∈ jm_WS := jm_in (List.mem_of_getElem? (i := 507) rfl) (by decide +kernel)
set_option maxRecDepth 100000 in
theorem qw_527 : Cond.instanceMethod yX3_move ∈ jm_WS := jm_in (List.mem_of_getElem? (i := 508) rfl) (by decide +kernel)
set_option maxRecDepth 100000 in
theorem qw_528 : Cond.selects RX3 yX3_move yX3_move ∈ jm_WS := jm_in (List.mem_of_getElem? (i := 509) rfl) (by decide +kernel)
set_option maxRecDepth 100000 in
theorem qw_529 : jm_cd M_X3_callOff ∈ jm_WS := jm_in (List.mem_of_getElem? (i := 498) rfl) (by decide +kernel)
set_option maxRecDepth 100000 in
theorem qw_530 : Cond.methodLink RL 27 yX3_callOff ∈ jm_WS := jm_in (List.mem_of_getElem? (i := 495) rfl) (by decide +kernel)
set_option maxRecDepth 100000 in
theorem qw_531 : Cond.instanceMethod yX3_callOff ∈ jm_WS := jm_in (List.mem_of_getElem? (i := 496) rfl) (by decide +kernel)
set_option maxRecDepth 100000 in
theorem qw_532 : Cond.selects RX3 yX3_callOff yX3_callOff ∈ jm_WS := jm_in (List.mem_of_getElem? (i := 497) rfl) (by decide +kernel)
set_option maxRecDepth 100000 in
theorem qw_533 : jm_cd M_X3_show ∈ jm_WS := jm_in (List.mem_of_getElem? (i := 297) rfl) (by decide +kernel)
set_option maxRecDepth 100000 in
theorem qw_534 : Cond.methodLink RL 23 yX3_show ∈ jm_WS := jm_in (List.mem_of_getElem? (i := 294) rfl) (by decide +kernel)
set_option maxRecDepth 100000 in
theorem qw_535 : Cond.instanceMethod yX3_show ∈ jm_WS := jm_in (List.mem_of_getElem? (i := 295) rfl) (by decide +kernel)
set_option maxRecDepth 100000 in
theorem qw_536 : Cond.selects RX3 yX3_show yX3_show ∈ jm_WS := jm_in (List.mem_of_getElem? (i := 296) rfl) (by decide +kernel)
set_option maxRecDepth 100000 in
theorem qw_537 : jm_cd M_X3_set ∈ jm_WS := jm_in (List.mem_of_getElem? (i := 493) rfl) (by decide +kernel)
set_option maxRecDepth 100000 in
theorem qw_538 : Cond.methodLink RL 20 yX3_set ∈ jm_WS := jm_in (List.mem_of_getElem? (i := 490) rfl) (by decide +kernel)
set_option maxRecDepth 100000 in
theorem qw_539 : Cond.instanceMethod yX3_set ∈ jm_WS := jm_in (List.mem_of_getElem? (i := 491) rfl) (by decide +kernel)
set_option maxRecDepth 100000 in
theorem qw_540 : Cond.selects RX3 yX3_set yX3_set ∈ jm_WS := jm_in (List.mem_of_getElem? (i := 492) rfl) (by decide +kernel)
set_option maxRecDepth 100000 in
theorem qw_541 : jm_cd M_X3_seats ∈ jm_WS := jm_in (List.mem_of_getElem? (i := 483) rfl) (by decide +kernel)
set_option maxRecDepth 100000 in
theorem qw_542 : Cond.methodLink RL 17 yX3_seats ∈ jm_WS := jm_in (List.mem_of_getElem? (i := 480) rfl) (by decide +kernel)
set_option maxRecDepth 100000 in
theorem qw_543 : Cond.instanceMethod yX3_seats ∈ jm_WS := jm_in (List.mem_of_getElem? (i := 481) rfl) (by decide +kernel)
set_option maxRecDepth 100000 in
theorem qw_544 : Cond.selects RX3 yX3_seats yX3_seats ∈ jm_WS := jm_in (List.mem_of_getElem? (i := 482) rfl) (by decide +kernel)
set_option maxRecDepth 100000 in
theorem qw_545 : jm_cd M_X3_film ∈ jm_WS := jm_in (List.mem_of_getElem? (i := 177) rfl) (by decide +kernel)
set_option maxRecDepth 100000 in
theorem qw_546 : Cond.methodLink RL 11 yX3_film ∈ jm_WS := jm_in (List.mem_of_getElem? (i := 174) rfl) (by decide +kernel)
set_option maxRecDepth 100000 in
theorem qw_547 : Cond.instanceMethod yX3_film ∈ jm_WS := jm_in (List.mem_of_getElem? (i := 175) rfl) (by decide +kernel)
set_option maxRecDepth 100000 in
theorem qw_548 : Cond.selects RX3 yX3_film yX3_film ∈ jm_WS := jm_in (List.mem_of_getElem? (i := 176) rfl) (by decide +kernel)
set_option maxRecDepth 100000 in
theorem qw_549 : jm_cd M_L_far ∈ jm_WS := jm_in (List.mem_of_getElem? (i := 744) rfl) (by decide +kernel)
set_option maxRecDepth 100000 in
theorem qw_550 : Cond.methodLink RL 114 yL_far ∈ jm_WS := jm_in (List.mem_of_getElem? (i := 742) rfl) (by decide +kernel)
set_option maxRecDepth 100000 in
theorem qw_551 : Cond.static yL_far ∈ jm_WS := jm_in (List.mem_of_getElem? (i := 743) rfl) (by decide +kernel)
set_option maxRecDepth 100000 in
theorem qw_552 : Cond.initialized RL ∈ jm_WS := jm_in (List.mem_of_getElem? (i := 26) rfl) (by decide +kernel)
set_option maxRecDepth 100000 in
theorem qw_554 : Cond.methodLink RL 119 yL_call ∈ jm_WS := jm_in (List.mem_of_getElem? (i := 473) rfl) (by decide +kernel)
set_option maxRecDepth 100000 in
theorem qw_555 : Cond.static yL_call ∈ jm_WS := jm_in (List.mem_of_getElem? (i := 474) rfl) (by decide +kernel)
set_option maxRecDepth 100000 in
theorem qw_557 : Cond.methodLink RL 131 yL_seen ∈ jm_WS := jm_in (List.mem_of_getElem? (i := 730) rfl) (by decide +kernel)
set_option maxRecDepth 100000 in
theorem qw_558 : Cond.static yL_seen ∈ jm_WS := jm_in (List.mem_of_getElem? (i := 731) rfl) (by decide +kernel)
set_option maxRecDepth 100000 in
theorem qw_560 : Cond.methodLink RL 135 yL_refusesFilms ∈ jm_WS := jm_in (List.mem_of_getElem? (i := 739) rfl) (by decide +kernel)
set_option maxRecDepth 100000 in
theorem qw_561 : Cond.static yL_refusesFilms ∈ jm_WS := jm_in (List.mem_of_getElem? (i := 740) rfl) (by decide +kernel)
set_option maxRecDepth 100000 in
theorem qw_563 : Cond.methodLink RL 139 yL_refusesShown ∈ jm_WS := jm_in (List.mem_of_getElem? (i := 750) rfl) (by decide +kernel)
set_option maxRecDepth 100000 in
theorem qw_564 : Cond.static yL_refusesShown ∈ jm_WS := jm_in (List.mem_of_getElem? (i := 751) rfl) (by decide +kernel)
set_option maxRecDepth 100000 in
theorem qw_565 : jm_cd M_X3_init ∈ jm_WS := jm_in (List.mem_of_getElem? (i := 44) rfl) (by decide +kernel)
set_option maxRecDepth 100000 in
theorem qw_566 : Cond.methodLink RL 142 yX3_init ∈ jm_WS := jm_in (List.mem_of_getElem? (i := 42) rfl) (by decide +kernel)
set_option maxRecDepth 100000 in
theorem qw_567 : Cond.instanceMethod yX3_init ∈ jm_WS := jm_in (List.mem_of_getElem? (i := 43) rfl) (by decide +kernel)
set_option maxRecDepth 100000 in
theorem qw_569 : Cond.methodLink RL 143 yL_refused ∈ jm_WS := jm_in (List.mem_of_getElem? (i := 736) rfl) (by decide +kernel)
set_option maxRecDepth 100000 in
theorem qw_570 : Cond.static yL_refused ∈ jm_WS := jm_in (List.mem_of_getElem? (i := 737) rfl) (by decide +kernel)
set_option maxRecDepth 100000 in
theorem qw_571 : jm_cd M_X3_keep ∈ jm_WS := jm_in (List.mem_of_getElem? (i := 413) rfl) (by decide +kernel)
set_option maxRecDepth 100000 in
theorem qw_572 : Cond.methodLink RL 147 yX3_keep ∈ jm_WS := jm_in (List.mem_of_getElem? (i := 410) rfl) (by decide +kernel)
set_option maxRecDepth 100000 in
theorem qw_573 : Cond.instanceMethod yX3_keep ∈ jm_WS := jm_in (List.mem_of_getElem? (i := 411) rfl) (by decide +kernel)
set_option maxRecDepth 100000 in
theorem qw_574 : Cond.selects RX3 yX3_keep yX3_keep ∈ jm_WS := jm_in (List.mem_of_getElem? (i := 412) rfl) (by decide +kernel)
set_option maxRecDepth 100000 in
theorem qw_575 : jm_cd M_X3_clearBuffer ∈ jm_WS := jm_in (List.mem_of_getElem? (i := 769) rfl) (by decide +kernel)
set_option maxRecDepth 100000 in
theorem qw_576 : Cond.methodLink RL 152 yX3_clearBuffer ∈ jm_WS := jm_in (List.mem_of_getElem? (i := 766) rfl) (by decide +kernel)
set_option maxRecDepth 100000 in
theorem qw_577 : Cond.instanceMethod yX3_clearBuffer ∈ jm_WS := jm_in (List.mem_of_getElem? (i := 767) rfl) (by decide +kernel)
set_option maxRecDepth 100000 in
theorem qw_578 : Cond.selects RX3 yX3_clearBuffer yX3_clearBuffer ∈ jm_WS := jm_in (List.mem_of_getElem? (i := 768) rfl) (by decide +kernel)
set_option maxRecDepth 100000 in
theorem qw_580 : Cond.methodLink RL 155 yL_types ∈ jm_WS := jm_in (List.mem_of_getElem? (i := 770) rfl) (by decide +kernel)
set_option maxRecDepth 100000 in
theorem qw_581 : Cond.static yL_types ∈ jm_WS := jm_in (List.mem_of_getElem? (i := 771) rfl) (by decide +kernel)
set_option maxRecDepth 100000 in
theorem qw_582 : jm_cd M_X3_firstError ∈ jm_WS := jm_in (List.mem_of_getElem? (i := 777) rfl) (by decide +kernel)
set_option maxRecDepth 100000 in
theorem qw_583 : Cond.methodLink RL 159 yX3_firstError ∈ jm_WS := jm_in (List.mem_of_getElem? (i := 774) rfl) (by decide +kernel)
set_option maxRecDepth 100000 in
theorem qw_584 : Cond.instanceMethod yX3_firstError ∈ jm_WS := jm_in (List.mem_of_getElem? (i := 775) rfl) (by decide +kernel)
set_option maxRecDepth 100000 in
theorem qw_585 : Cond.selects RX3 yX3_firstError yX3_firstError ∈ jm_WS := jm_in (List.mem_of_getElem? (i := 776) rfl) (by decide +kernel)
set_option maxRecDepth 100000 in
theorem qw_586 : jm_cd M_L_isError ∈ jm_WS := jm_in (List.mem_of_getElem? (i := 765) rfl) (by decide +kernel)
set_option maxRecDepth 100000 in
theorem qw_587 : Cond.methodLink RL 164 yL_isError ∈ jm_WS := jm_in (List.mem_of_getElem? (i := 763) rfl) (by decide +kernel)
set_option maxRecDepth 100000 in
theorem qw_588 : Cond.static yL_isError ∈ jm_WS := jm_in (List.mem_of_getElem? (i := 764) rfl) (by decide +kernel)
set_option maxRecDepth 100000 in
theorem qw_590 : Cond.methodLink RL 224 yL_two ∈ jm_WS := jm_in (List.mem_of_getElem? (i := 753) rfl) (by decide +kernel)
set_option maxRecDepth 100000 in
theorem qw_591 : Cond.static yL_two ∈ jm_WS := jm_in (List.mem_of_getElem? (i := 754) rfl) (by decide +kernel)
set_option maxRecDepth 100000 in
theorem qw_593 : Cond.methodLink RL 228 yL_many ∈ jm_WS := jm_in (List.mem_of_getElem? (i := 756) rfl) (by decide +kernel)
set_option maxRecDepth 100000 in
theorem qw_594 : Cond.static yL_many ∈ jm_WS := jm_in (List.mem_of_getElem? (i := 757) rfl) (by decide +kernel)
set_option maxRecDepth 100000 in
theorem qw_596 : Cond.methodLink RL 231 yL_texts ∈ jm_WS := jm_in (List.mem_of_getElem? (i := 759) rfl) (by decide +kernel)
set_option maxRecDepth 100000 in
theorem qw_597 : Cond.static yL_texts ∈ jm_WS := jm_in (List.mem_of_getElem? (i := 760) rfl) (by decide +kernel)
set_option maxRecDepth 100000 in
theorem qw_599 : Cond.methodLink RL 234 yL_drawn ∈ jm_WS := jm_in (List.mem_of_getElem? (i := 469) rfl) (by decide +kernel)
set_option maxRecDepth 100000 in
theorem qw_600 : Cond.static yL_drawn ∈ jm_WS := jm_in (List.mem_of_getElem? (i := 470) rfl) (by decide +kernel)
set_option maxRecDepth 100000 in
theorem qw_601 : jm_cd M_L_part ∈ jm_WS := jm_in (List.mem_of_getElem? (i := 467) rfl) (by decide +kernel)
set_option maxRecDepth 100000 in
theorem qw_602 : Cond.methodLink RL 238 yL_part ∈ jm_WS := jm_in (List.mem_of_getElem? (i := 465) rfl) (by decide +kernel)
set_option maxRecDepth 100000 in
theorem qw_603 : Cond.static yL_part ∈ jm_WS := jm_in (List.mem_of_getElem? (i := 466) rfl) (by decide +kernel)
set_option maxRecDepth 100000 in
theorem qw_604 : Cond.classLink RX3 288 "java/lang/IllegalArgumentException" ∈ jm_WS := jm_in (List.mem_of_getElem? (i := 184) rfl) (by decide +kernel)
set_option maxRecDepth 100000 in
theorem qw_605 : Cond.initialized "java/lang/IllegalArgumentException" ∈ jm_WS := jm_in (List.mem_of_getElem? (i := 35) rfl) (by decide +kernel)
set_option maxRecDepth 100000 in
theorem qw_606 : Cond.classLink RX3 52 "java/lang/IllegalStateException" ∈ jm_WS := jm_in (List.mem_of_getElem? (i := 252) rfl) (by decide +kernel)
set_option maxRecDepth 100000 in
theorem qw_607 : Cond.initialized "java/lang/IllegalStateException" ∈ jm_WS := jm_in (List.mem_of_getElem? (i := 36) rfl) (by decide +kernel)
set_option maxRecDepth 100000 in
theorem qw_608 : Cond.classLink RX3 77 "java/lang/IndexOutOfBoundsException" ∈ jm_WS := jm_in (List.mem_of_getElem? (i := 302) rfl) (by decide +kernel)
set_option maxRecDepth 100000 in
theorem qw_609 : Cond.initialized "java/lang/IndexOutOfBoundsException" ∈ jm_WS := jm_in (List.mem_of_getElem? (i := 38) rfl) (by decide +kernel)

/-! words by their places -/
set_option maxRecDepth 100000 in
theorem qw_0 : Cond.methodLink RX2 3 objectInit ∈ jm_WS := jm_in (List.mem_of_getElem? (i := 59) (by decide +kernel)) (by decide +kernel)
set_option maxRecDepth 100000 in
theorem qw_1 : Cond.instanceMethod objectInit ∈ jm_WS := jm_in (List.mem_of_getElem? (i := 46) (by decide +kernel)) (by decide +kernel)
set_option maxRecDepth 100000 in
theorem qw_2 : Cond.code objectInit ⟨#[0xb1]⟩ 1 none ∈ jm_WS := jm_in (List.mem_of_getElem? (i := 47) (by decide +kernel)) (by decide +kernel)
set_option maxRecDepth 100000 in
theorem qw_3 : Cond.fieldLink RX2 9 (TX2 0).1 (TX2 0).2.1 (TX2 0).2.2.1 ∈ jm_WS := jm_in (List.mem_of_getElem? (i := 63) (by decide +kernel)) (by decide +kernel)
set_option maxRecDepth 100000 in
theorem qw_4 : Cond.methodLink RX2 15 Lib.Math.max.name ∈ jm_WS := jm_in (List.mem_of_getElem? (i := 60) (by decide +kernel)) (by decide +kernel)
set_option maxRecDepth 100000 in
theorem qw_5 : Cond.static Lib.Math.max.name ∈ jm_WS := jm_in (List.mem_of_getElem? (i := 61) (by decide +kernel)) (by decide +kernel)
set_option maxRecDepth 100000 in
theorem qw_6 : Cond.initialized RJ9 ∈ jm_WS := jm_in (List.mem_of_getElem? (i := 30) (by decide +kernel)) (by decide +kernel)
set_option maxRecDepth 100000 in
theorem qw_7 : Cond.code Lib.Math.max.name Lib.Math.max.code 2 (some .int) ∈ jm_WS := jm_in (List.mem_of_getElem? (i := 62) (by decide +kernel)) (by decide +kernel)
set_option maxRecDepth 100000 in
theorem qw_8 : Cond.arrayClass .int ∈ jm_WS := jm_in (List.mem_of_getElem? (i := 75) (by decide +kernel)) (by decide +kernel)
set_option maxRecDepth 100000 in
theorem qw_9 : Cond.fieldLink RX2 21 (TX2 1).1 (TX2 1).2.1 (TX2 1).2.2.1 ∈ jm_WS := jm_in (List.mem_of_getElem? (i := 64) (by decide +kernel)) (by decide +kernel)
set_option maxRecDepth 100000 in
theorem qw_10 : Cond.fieldLink RX2 25 (TX2 2).1 (TX2 2).2.1 (TX2 2).2.2.1 ∈ jm_WS := jm_in (List.mem_of_getElem? (i := 65) (by decide +kernel)) (by decide +kernel)
set_option maxRecDepth 100000 in
theorem qw_11 : Cond.methodLink RX0 3 objectInit ∈ jm_WS := jm_in (List.mem_of_getElem? (i := 53) (by decide +kernel)) (by decide +kernel)
set_option maxRecDepth 100000 in
theorem qw_12 : Cond.classLink RX0 9 RX2 ∈ jm_WS := jm_in (List.mem_of_getElem? (i := 54) (by decide +kernel)) (by decide +kernel)
set_option maxRecDepth 100000 in
theorem qw_13 : Cond.instantiable RX2 3 ∈ jm_WS := jm_in (List.mem_of_getElem? (i := 55) (by decide +kernel)) (by decide +kernel)
set_option maxRecDepth 100000 in
theorem qw_14 : Cond.initialized RX2 ∈ jm_WS := jm_in (List.mem_of_getElem? (i := 29) (by decide +kernel)) (by decide +kernel)
set_option maxRecDepth 100000 in
theorem qw_15 : Cond.fieldLink RX0 14 (TX0 0).1 (TX0 0).2.1 (TX0 0).2.2.1 ∈ jm_WS := jm_in (List.mem_of_getElem? (i := 84) (by decide +kernel)) (by decide +kernel)
set_option maxRecDepth 100000 in
theorem qw_16 : Cond.fieldLink RX0 20 (TX0 1).1 (TX0 1).2.1 (TX0 1).2.2.1 ∈ jm_WS := jm_in (List.mem_of_getElem? (i := 86) (by decide +kernel)) (by decide +kernel)
set_option maxRecDepth 100000 in
theorem qw_17 : Cond.fieldLink RX0 23 (TX0 2).1 (TX0 2).2.1 (TX0 2).2.2.1 ∈ jm_WS := jm_in (List.mem_of_getElem? (i := 88) (by decide +kernel)) (by decide +kernel)
set_option maxRecDepth 100000 in
theorem qw_18 : Cond.fieldLink RX0 26 (TX0 3).1 (TX0 3).2.1 (TX0 3).2.2.1 ∈ jm_WS := jm_in (List.mem_of_getElem? (i := 90) (by decide +kernel)) (by decide +kernel)
set_option maxRecDepth 100000 in
theorem qw_19 : Cond.fieldLink RX0 29 (TX0 4).1 (TX0 4).2.1 (TX0 4).2.2.1 ∈ jm_WS := jm_in (List.mem_of_getElem? (i := 92) (by decide +kernel)) (by decide +kernel)
set_option maxRecDepth 100000 in
theorem qw_20 : Cond.fieldLink RX0 32 (TX0 5).1 (TX0 5).2.1 (TX0 5).2.2.1 ∈ jm_WS := jm_in (List.mem_of_getElem? (i := 94) (by decide +kernel)) (by decide +kernel)
set_option maxRecDepth 100000 in
theorem qw_21 : Cond.fieldLink RX0 35 (TX0 7).1 (TX0 7).2.1 (TX0 7).2.2.1 ∈ jm_WS := jm_in (List.mem_of_getElem? (i := 98) (by decide +kernel)) (by decide +kernel)
set_option maxRecDepth 100000 in
theorem qw_22 : Cond.fieldLink RX0 39 (TX0 8).1 (TX0 8).2.1 (TX0 8).2.2.1 ∈ jm_WS := jm_in (List.mem_of_getElem? (i := 99) (by decide +kernel)) (by decide +kernel)
set_option maxRecDepth 100000 in
theorem qw_23 : Cond.fieldLink RX0 42 (TX0 9).1 (TX0 9).2.1 (TX0 9).2.2.1 ∈ jm_WS := jm_in (List.mem_of_getElem? (i := 100) (by decide +kernel)) (by decide +kernel)
set_option maxRecDepth 100000 in
theorem qw_24 : Cond.methodLink RX1 3 objectInit ∈ jm_WS := jm_in (List.mem_of_getElem? (i := 128) (by decide +kernel)) (by decide +kernel)
set_option maxRecDepth 100000 in
theorem qw_25 : Cond.methodLink RX3 1 objectInit ∈ jm_WS := jm_in (List.mem_of_getElem? (i := 45) (by decide +kernel)) (by decide +kernel)
set_option maxRecDepth 100000 in
theorem qw_26 : Cond.classLink RX3 7 RX0 ∈ jm_WS := jm_in (List.mem_of_getElem? (i := 48) (by decide +kernel)) (by decide +kernel)
set_option maxRecDepth 100000 in
theorem qw_27 : Cond.instantiable RX0 10 ∈ jm_WS := jm_in (List.mem_of_getElem? (i := 49) (by decide +kernel)) (by decide +kernel)
set_option maxRecDepth 100000 in
theorem qw_28 : Cond.initialized RX0 ∈ jm_WS := jm_in (List.mem_of_getElem? (i := 28) (by decide +kernel)) (by decide +kernel)
set_option maxRecDepth 100000 in
theorem qw_29 : Cond.fieldLink RX3 10 (TX3 0).1 (TX3 0).2.1 (TX3 0).2.2.1 ∈ jm_WS := jm_in (List.mem_of_getElem? (i := 149) (by decide +kernel)) (by decide +kernel)
set_option maxRecDepth 100000 in
theorem qw_30 : Cond.fieldLink RX3 16 (TX3 1).1 (TX3 1).2.1 (TX3 1).2.2.1 ∈ jm_WS := jm_in (List.mem_of_getElem? (i := 150) (by decide +kernel)) (by decide +kernel)
set_option maxRecDepth 100000 in
theorem qw_31 : Cond.fieldLink RX3 19 (TX3 2).1 (TX3 2).2.1 (TX3 2).2.2.1 ∈ jm_WS := jm_in (List.mem_of_getElem? (i := 151) (by decide +kernel)) (by decide +kernel)
set_option maxRecDepth 100000 in
theorem qw_32 : Cond.classLink RX3 23 RX1 ∈ jm_WS := jm_in (List.mem_of_getElem? (i := 123) (by decide +kernel)) (by decide +kernel)
set_option maxRecDepth 100000 in
theorem qw_33 : Cond.instantiable RX1 5 ∈ jm_WS := jm_in (List.mem_of_getElem? (i := 124) (by decide +kernel)) (by decide +kernel)
set_option maxRecDepth 100000 in
theorem qw_34 : Cond.initialized RX1 ∈ jm_WS := jm_in (List.mem_of_getElem? (i := 31) (by decide +kernel)) (by decide +kernel)
set_option maxRecDepth 100000 in
theorem qw_35 : Cond.fieldLink RX3 26 (TX3 3).1 (TX3 3).2.1 (TX3 3).2.2.1 ∈ jm_WS := jm_in (List.mem_of_getElem? (i := 152) (by decide +kernel)) (by decide +kernel)
set_option maxRecDepth 100000 in
theorem qw_36 : Cond.fieldLink RX3 30 (TX3 4).1 (TX3 4).2.1 (TX3 4).2.2.1 ∈ jm_WS := jm_in (List.mem_of_getElem? (i := 153) (by decide +kernel)) (by decide +kernel)
set_option maxRecDepth 100000 in
theorem qw_37 : Cond.fieldLink RX3 178 (TX3 6).1 (TX3 6).2.1 (TX3 6).2.2.1 ∈ jm_WS := jm_in (List.mem_of_getElem? (i := 155) (by decide +kernel)) (by decide +kernel)
set_option maxRecDepth 100000 in
theorem qw_38 : Cond.methodLink RX2 35 arraycopyName ∈ jm_WS := jm_in (List.mem_of_getElem? (i := 287) (by decide +kernel)) (by decide +kernel)
set_option maxRecDepth 100000 in
theorem qw_39 : Cond.native arraycopyName ∈ jm_WS := jm_in (List.mem_of_getElem? (i := 289) (by decide +kernel)) (by decide +kernel)
set_option maxRecDepth 100000 in
theorem qw_40 : Cond.static arraycopyName ∈ jm_WS := jm_in (List.mem_of_getElem? (i := 288) (by decide +kernel)) (by decide +kernel)
set_option maxRecDepth 100000 in
theorem qw_41 : Cond.initialized RJ10 ∈ jm_WS := jm_in (List.mem_of_getElem? (i := 37) (by decide +kernel)) (by decide +kernel)
set_option maxRecDepth 100000 in
theorem qw_42 : Cond.fieldLink RX0 57 (TX0 6).1 (TX0 6).2.1 (TX0 6).2.2.1 ∈ jm_WS := jm_in (List.mem_of_getElem? (i := 96) (by decide +kernel)) (by decide +kernel)
set_option maxRecDepth 100000 in
theorem qw_43 : Cond.fieldLink RX3 42 (TX0 0).1 (TX0 0).2.1 (TX0 0).2.2.1 ∈ jm_WS := jm_in (List.mem_of_getElem? (i := 85) (by decide +kernel)) (by decide +kernel)
set_option maxRecDepth 100000 in
theorem qw_44 : Cond.fieldLink RX3 46 (TX2 2).1 (TX2 2).2.1 (TX2 2).2.2.1 ∈ jm_WS := jm_in (List.mem_of_getElem? (i := 66) (by decide +kernel)) (by decide +kernel)
set_option maxRecDepth 100000 in
theorem qw_45 : Cond.fieldLink RX3 70 (TX0 1).1 (TX0 1).2.1 (TX0 1).2.2.1 ∈ jm_WS := jm_in (List.mem_of_getElem? (i := 87) (by decide +kernel)) (by decide +kernel)
set_option maxRecDepth 100000 in
theorem qw_46 : Cond.fieldLink RX3 82 (TX0 2).1 (TX0 2).2.1 (TX0 2).2.2.1 ∈ jm_WS := jm_in (List.mem_of_getElem? (i := 89) (by decide +kernel)) (by decide +kernel)
set_option maxRecDepth 100000 in
theorem qw_47 : Cond.fieldLink RX0 90 (TX2 2).1 (TX2 2).2.1 (TX2 2).2.2.1 ∈ jm_WS := jm_in (List.mem_of_getElem? (i := 67) (by decide +kernel)) (by decide +kernel)
set_option maxRecDepth 100000 in
theorem qw_48 : Cond.fieldLink RX3 108 (TX0 3).1 (TX0 3).2.1 (TX0 3).2.2.1 ∈ jm_WS := jm_in (List.mem_of_getElem? (i := 91) (by decide +kernel)) (by decide +kernel)
set_option maxRecDepth 100000 in
theorem qw_49 : Cond.constant RJ6 265 (1431655765 : Int32) ∈ jm_WS := jm_in (List.mem_of_getElem? (i := 457) (by decide +kernel)) (by decide +kernel)
set_option maxRecDepth 100000 in
theorem qw_50 : Cond.constant RJ6 266 (858993459 : Int32) ∈ jm_WS := jm_in (List.mem_of_getElem? (i := 458) (by decide +kernel)) (by decide +kernel)
set_option maxRecDepth 100000 in
theorem qw_51 : Cond.constant RJ6 267 (252645135 : Int32) ∈ jm_WS := jm_in (List.mem_of_getElem? (i := 459) (by decide +kernel)) (by decide +kernel)
set_option maxRecDepth 100000 in
theorem qw_52 : Cond.fieldLink RX3 121 (TX0 4).1 (TX0 4).2.1 (TX0 4).2.2.1 ∈ jm_WS := jm_in (List.mem_of_getElem? (i := 93) (by decide +kernel)) (by decide +kernel)
set_option maxRecDepth 100000 in
theorem qw_53 : Cond.fieldLink RX3 152 (TX0 5).1 (TX0 5).2.1 (TX0 5).2.2.1 ∈ jm_WS := jm_in (List.mem_of_getElem? (i := 95) (by decide +kernel)) (by decide +kernel)
set_option maxRecDepth 100000 in
theorem qw_54 : Cond.fieldLink RX3 155 (TX3 7).1 (TX3 7).2.1 (TX3 7).2.2.1 ∈ jm_WS := jm_in (List.mem_of_getElem? (i := 156) (by decide +kernel)) (by decide +kernel)
set_option maxRecDepth 100000 in
theorem qw_55 : Cond.fieldLink RX1 9 (TX1 3).1 (TX1 3).2.1 (TX1 3).2.2.1 ∈ jm_WS := jm_in (List.mem_of_getElem? (i := 135) (by decide +kernel)) (by decide +kernel)
set_option maxRecDepth 100000 in
theorem qw_56 : Cond.fieldLink RX1 15 (TX1 4).1 (TX1 4).2.1 (TX1 4).2.2.1 ∈ jm_WS := jm_in (List.mem_of_getElem? (i := 137) (by decide +kernel)) (by decide +kernel)
set_option maxRecDepth 100000 in
theorem qw_57 : Cond.fieldLink RX1 32 (TX1 2).1 (TX1 2).2.1 (TX1 2).2.2.1 ∈ jm_WS := jm_in (List.mem_of_getElem? (i := 133) (by decide +kernel)) (by decide +kernel)
set_option maxRecDepth 100000 in
theorem qw_58 : Cond.fieldLink RX1 18 (TX1 0).1 (TX1 0).2.1 (TX1 0).2.2.1 ∈ jm_WS := jm_in (List.mem_of_getElem? (i := 129) (by decide +kernel)) (by decide +kernel)
set_option maxRecDepth 100000 in
theorem qw_59 : Cond.fieldLink RX1 29 (TX1 1).1 (TX1 1).2.1 (TX1 1).2.2.1 ∈ jm_WS := jm_in (List.mem_of_getElem? (i := 131) (by decide +kernel)) (by decide +kernel)
set_option maxRecDepth 100000 in
theorem qw_60 : Cond.fieldLink RX3 316 (TX1 0).1 (TX1 0).2.1 (TX1 0).2.2.1 ∈ jm_WS := jm_in (List.mem_of_getElem? (i := 130) (by decide +kernel)) (by decide +kernel)
set_option maxRecDepth 100000 in
theorem qw_61 : Cond.fieldLink RX3 319 (TX1 1).1 (TX1 1).2.1 (TX1 1).2.2.1 ∈ jm_WS := jm_in (List.mem_of_getElem? (i := 132) (by decide +kernel)) (by decide +kernel)
set_option maxRecDepth 100000 in
theorem qw_62 : Cond.fieldLink RX3 322 (TX1 2).1 (TX1 2).2.1 (TX1 2).2.2.1 ∈ jm_WS := jm_in (List.mem_of_getElem? (i := 134) (by decide +kernel)) (by decide +kernel)
set_option maxRecDepth 100000 in
theorem qw_63 : Cond.fieldLink RX3 325 (TX1 3).1 (TX1 3).2.1 (TX1 3).2.2.1 ∈ jm_WS := jm_in (List.mem_of_getElem? (i := 136) (by decide +kernel)) (by decide +kernel)
set_option maxRecDepth 100000 in
theorem qw_64 : Cond.fieldLink RX3 187 (TX3 5).1 (TX3 5).2.1 (TX3 5).2.2.1 ∈ jm_WS := jm_in (List.mem_of_getElem? (i := 154) (by decide +kernel)) (by decide +kernel)
set_option maxRecDepth 100000 in
theorem qw_65 : Cond.methodLink RX0 157 Lib.Math.max.name ∈ jm_WS := jm_in (List.mem_of_getElem? (i := 663) (by decide +kernel)) (by decide +kernel)
set_option maxRecDepth 100000 in
theorem qw_66 : Cond.fieldLink RX3 274 (TX0 6).1 (TX0 6).2.1 (TX0 6).2.2.1 ∈ jm_WS := jm_in (List.mem_of_getElem? (i := 97) (by decide +kernel)) (by decide +kernel)
set_option maxRecDepth 100000 in
theorem qw_67 : Cond.constantDouble RX0 162 (4656510908468559872 : UInt64) ∈ jm_WS := jm_in (List.mem_of_getElem? (i := 729) (by decide +kernel)) (by decide +kernel)
set_option maxRecDepth 100000 in
theorem qw_68 : Cond.constant RL 7 (2147483647 : Int32) ∈ jm_WS := jm_in (List.mem_of_getElem? (i := 468) (by decide +kernel)) (by decide +kernel)
set_option maxRecDepth 100000 in
theorem qw_69 : Cond.constant RL 8 (2654435 : Int32) ∈ jm_WS := jm_in (List.mem_of_getElem? (i := 472) (by decide +kernel)) (by decide +kernel)
set_option maxRecDepth 100000 in
theorem qw_70 : Cond.constantLong RL 9 (1000 : Int64) ∈ jm_WS := jm_in (List.mem_of_getElem? (i := 479) (by decide +kernel)) (by decide +kernel)
set_option maxRecDepth 100000 in
theorem qw_71 : Cond.classLink RL 101 "java/lang/IndexOutOfBoundsException" ∈ jm_WS := jm_in (List.mem_of_getElem? (i := 476) (by decide +kernel)) (by decide +kernel)
set_option maxRecDepth 100000 in
theorem qw_72 : Cond.classLink RL 103 "java/lang/IllegalArgumentException" ∈ jm_WS := jm_in (List.mem_of_getElem? (i := 477) (by decide +kernel)) (by decide +kernel)
set_option maxRecDepth 100000 in
theorem qw_73 : Cond.classLink RL 105 "java/lang/IllegalStateException" ∈ jm_WS := jm_in (List.mem_of_getElem? (i := 478) (by decide +kernel)) (by decide +kernel)
set_option maxRecDepth 100000 in
theorem qw_74 : Cond.constantLong RL 107 (233 : Int64) ∈ jm_WS := jm_in (List.mem_of_getElem? (i := 733) (by decide +kernel)) (by decide +kernel)
set_option maxRecDepth 100000 in
theorem qw_75 : Cond.constantLong RL 109 (31 : Int64) ∈ jm_WS := jm_in (List.mem_of_getElem? (i := 734) (by decide +kernel)) (by decide +kernel)
set_option maxRecDepth 100000 in
theorem qw_76 : Cond.constantLong RL 111 (7 : Int64) ∈ jm_WS := jm_in (List.mem_of_getElem? (i := 735) (by decide +kernel)) (by decide +kernel)
set_option maxRecDepth 100000 in
theorem qw_77 : Cond.constant RL 113 (-2147483648 : Int32) ∈ jm_WS := jm_in (List.mem_of_getElem? (i := 745) (by decide +kernel)) (by decide +kernel)
set_option maxRecDepth 100000 in
theorem qw_78 : Cond.constantLong RL 123 (500 : Int64) ∈ jm_WS := jm_in (List.mem_of_getElem? (i := 746) (by decide +kernel)) (by decide +kernel)
set_option maxRecDepth 100000 in
theorem qw_79 : Cond.constantLong RL 127 (521 : Int64) ∈ jm_WS := jm_in (List.mem_of_getElem? (i := 748) (by decide +kernel)) (by decide +kernel)
set_option maxRecDepth 100000 in
theorem qw_80 : Cond.constantLong RL 129 (3500 : Int64) ∈ jm_WS := jm_in (List.mem_of_getElem? (i := 749) (by decide +kernel)) (by decide +kernel)
set_option maxRecDepth 100000 in
theorem qw_81 : Cond.constantLong RL 125 (499 : Int64) ∈ jm_WS := jm_in (List.mem_of_getElem? (i := 747) (by decide +kernel)) (by decide +kernel)
set_option maxRecDepth 100000 in
theorem qw_82 : Cond.classLink RL 12 RX3 ∈ jm_WS := jm_in (List.mem_of_getElem? (i := 40) (by decide +kernel)) (by decide +kernel)
set_option maxRecDepth 100000 in
theorem qw_83 : Cond.instantiable RX3 8 ∈ jm_WS := jm_in (List.mem_of_getElem? (i := 41) (by decide +kernel)) (by decide +kernel)
set_option maxRecDepth 100000 in
theorem qw_84 : Cond.initialized RX3 ∈ jm_WS := jm_in (List.mem_of_getElem? (i := 27) (by decide +kernel)) (by decide +kernel)
set_option maxRecDepth 100000 in
theorem qw_85 : Cond.constantLong RL 150 (255 : Int64) ∈ jm_WS := jm_in (List.mem_of_getElem? (i := 773) (by decide +kernel)) (by decide +kernel)
set_option maxRecDepth 100000 in
theorem qw_86 : Cond.constantLong RL 162 (56 : Int64) ∈ jm_WS := jm_in (List.mem_of_getElem? (i := 762) (by decide +kernel)) (by decide +kernel)
set_option maxRecDepth 100000 in
theorem qw_87 : Cond.constantLong RL 168 (3157811 : Int64) ∈ jm_WS := jm_in (List.mem_of_getElem? (i := 778) (by decide +kernel)) (by decide +kernel)
set_option maxRecDepth 100000 in
theorem qw_88 : Cond.constantLong RL 170 (3472046890004000816 : Int64) ∈ jm_WS := jm_in (List.mem_of_getElem? (i := 779) (by decide +kernel)) (by decide +kernel)
set_option maxRecDepth 100000 in
theorem qw_89 : Cond.constantLong RL 172 (3472046889970119217 : Int64) ∈ jm_WS := jm_in (List.mem_of_getElem? (i := 780) (by decide +kernel)) (by decide +kernel)
set_option maxRecDepth 100000 in
theorem qw_90 : Cond.constantLong RL 174 (52979231109169 : Int64) ∈ jm_WS := jm_in (List.mem_of_getElem? (i := 781) (by decide +kernel)) (by decide +kernel)
set_option maxRecDepth 100000 in
theorem qw_91 : Cond.constantLong RL 176 (52979231110459 : Int64) ∈ jm_WS := jm_in (List.mem_of_getElem? (i := 782) (by decide +kernel)) (by decide +kernel)
set_option maxRecDepth 100000 in
theorem qw_92 : Cond.constantLong RL 178 (52979231110443 : Int64) ∈ jm_WS := jm_in (List.mem_of_getElem? (i := 783) (by decide +kernel)) (by decide +kernel)
set_option maxRecDepth 100000 in
theorem qw_93 : Cond.constantLong RL 180 (206950121525 : Int64) ∈ jm_WS := jm_in (List.mem_of_getElem? (i := 784) (by decide +kernel)) (by decide +kernel)
set_option maxRecDepth 100000 in
theorem qw_94 : Cond.constantLong RL 182 (3976452247276566841 : Int64) ∈ jm_WS := jm_in (List.mem_of_getElem? (i := 785) (by decide +kernel)) (by decide +kernel)
set_option maxRecDepth 100000 in
theorem qw_95 : Cond.constantLong RL 184 (2830896 : Int64) ∈ jm_WS := jm_in (List.mem_of_getElem? (i := 786) (by decide +kernel)) (by decide +kernel)
set_option maxRecDepth 100000 in
theorem qw_96 : Cond.constantLong RL 186 (48 : Int64) ∈ jm_WS := jm_in (List.mem_of_getElem? (i := 787) (by decide +kernel)) (by decide +kernel)
set_option maxRecDepth 100000 in
theorem qw_97 : Cond.constantLong RL 188 (12336 : Int64) ∈ jm_WS := jm_in (List.mem_of_getElem? (i := 788) (by decide +kernel)) (by decide +kernel)
set_option maxRecDepth 100000 in
theorem qw_98 : Cond.constantLong RL 190 (206950121592 : Int64) ∈ jm_WS := jm_in (List.mem_of_getElem? (i := 789) (by decide +kernel)) (by decide +kernel)
set_option maxRecDepth 100000 in
theorem qw_99 : Cond.constantLong RL 192 (808398896 : Int64) ∈ jm_WS := jm_in (List.mem_of_getElem? (i := 790) (by decide +kernel)) (by decide +kernel)
set_option maxRecDepth 100000 in
theorem qw_100 : Cond.constantLong RL 194 (13562683164273451 : Int64) ∈ jm_WS := jm_in (List.mem_of_getElem? (i := 791) (by decide +kernel)) (by decide +kernel)
set_option maxRecDepth 100000 in
theorem qw_101 : Cond.constantLong RL 196 (13562683164277563 : Int64) ∈ jm_WS := jm_in (List.mem_of_getElem? (i := 792) (by decide +kernel)) (by decide +kernel)
set_option maxRecDepth 100000 in
theorem qw_102 : Cond.constantLong RL 198 (3472046890054004789 : Int64) ∈ jm_WS := jm_in (List.mem_of_getElem? (i := 793) (by decide +kernel)) (by decide +kernel)
set_option maxRecDepth 100000 in
theorem qw_103 : Cond.constantLong RL 200 (3544105583536779307 : Int64) ∈ jm_WS := jm_in (List.mem_of_getElem? (i := 794) (by decide +kernel)) (by decide +kernel)
set_option maxRecDepth 100000 in
theorem qw_104 : Cond.constantLong RL 202 (228626345778 : Int64) ∈ jm_WS := jm_in (List.mem_of_getElem? (i := 795) (by decide +kernel)) (by decide +kernel)
set_option maxRecDepth 100000 in
theorem qw_105 : Cond.constantLong RL 204 (97 : Int64) ∈ jm_WS := jm_in (List.mem_of_getElem? (i := 796) (by decide +kernel)) (by decide +kernel)
set_option maxRecDepth 100000 in
theorem qw_106 : Cond.constantLong RL 206 (3472046889987223611 : Int64) ∈ jm_WS := jm_in (List.mem_of_getElem? (i := 797) (by decide +kernel)) (by decide +kernel)
set_option maxRecDepth 100000 in
theorem qw_107 : Cond.constantLong RL 208 (3472047989498852651 : Int64) ∈ jm_WS := jm_in (List.mem_of_getElem? (i := 798) (by decide +kernel)) (by decide +kernel)
set_option maxRecDepth 100000 in
theorem qw_108 : Cond.constantLong RL 210 (4123942863035707696 : Int64) ∈ jm_WS := jm_in (List.mem_of_getElem? (i := 799) (by decide +kernel)) (by decide +kernel)
set_option maxRecDepth 100000 in
theorem qw_109 : Cond.constantLong RL 212 (53 : Int64) ∈ jm_WS := jm_in (List.mem_of_getElem? (i := 800) (by decide +kernel)) (by decide +kernel)
set_option maxRecDepth 100000 in
theorem qw_110 : Cond.constantLong RL 214 (3472047989515628603 : Int64) ∈ jm_WS := jm_in (List.mem_of_getElem? (i := 801) (by decide +kernel)) (by decide +kernel)
set_option maxRecDepth 100000 in
theorem qw_111 : Cond.constantLong RL 216 (13844166730919984 : Int64) ∈ jm_WS := jm_in (List.mem_of_getElem? (i := 802) (by decide +kernel)) (by decide +kernel)
set_option maxRecDepth 100000 in
theorem qw_112 : Cond.constantLong RL 218 (13562691754078256 : Int64) ∈ jm_WS := jm_in (List.mem_of_getElem? (i := 803) (by decide +kernel)) (by decide +kernel)
set_option maxRecDepth 100000 in
theorem qw_113 : Cond.constantLong RL 220 (3472049089011070513 : Int64) ∈ jm_WS := jm_in (List.mem_of_getElem? (i := 804) (by decide +kernel)) (by decide +kernel)
set_option maxRecDepth 100000 in
theorem qw_114 : Cond.constantLong RL 222 (13562687459046201 : Int64) ∈ jm_WS := jm_in (List.mem_of_getElem? (i := 805) (by decide +kernel)) (by decide +kernel)
set_option maxRecDepth 100000 in
theorem qw_115 : Cond.arrayClass .long ∈ jm_WS := jm_in (List.mem_of_getElem? (i := 807) (by decide +kernel)) (by decide +kernel)
set_option maxRecDepth 100000 in
theorem qw_116 : Cond.constantLong RL 241 (495 : Int64) ∈ jm_WS := jm_in (List.mem_of_getElem? (i := 806) (by decide +kernel)) (by decide +kernel)
set_option maxRecDepth 100000 in
theorem qw_117 : jm_cd M_X2_init ∈ jm_WS := jm_in (List.mem_of_getElem? (i := 58) (by decide +kernel)) (by decide +kernel)
set_option maxRecDepth 100000 in
theorem qw_118 : Cond.methodLink RX0 11 yX2_init ∈ jm_WS := jm_in (List.mem_of_getElem? (i := 56) (by decide +kernel)) (by decide +kernel)
set_option maxRecDepth 100000 in
theorem qw_119 : Cond.instanceMethod yX2_init ∈ jm_WS := jm_in (List.mem_of_getElem? (i := 57) (by decide +kernel)) (by decide +kernel)
set_option maxRecDepth 100000 in
theorem qw_120 : jm_cd M_X2_put ∈ jm_WS := jm_in (List.mem_of_getElem? (i := 83) (by decide +kernel)) (by decide +kernel)
set_option maxRecDepth 100000 in
theorem qw_121 : Cond.methodLink RX0 49 yX2_put ∈ jm_WS := jm_in (List.mem_of_getElem? (i := 80) (by decide +kernel)) (by decide +kernel)
set_option maxRecDepth 100000 in
theorem qw_122 : Cond.instanceMethod yX2_put ∈ jm_WS := jm_in (List.mem_of_getElem? (i := 81) (by decide +kernel)) (by decide +kernel)
set_option maxRecDepth 100000 in
theorem qw_123 : Cond.selects RX2 yX2_put yX2_put ∈ jm_WS := jm_in (List.mem_of_getElem? (i := 82) (by decide +kernel)) (by decide +kernel)
set_option maxRecDepth 100000 in
theorem qw_124 : jm_cd M_X2_addRow ∈ jm_WS := jm_in (List.mem_of_getElem? (i := 79) (by decide +kernel)) (by decide +kernel)
set_option maxRecDepth 100000 in
theorem qw_125 : Cond.methodLink RX0 45 yX2_addRow ∈ jm_WS := jm_in (List.mem_of_getElem? (i := 76) (by decide +kernel)) (by decide +kernel)
set_option maxRecDepth 100000 in
theorem qw_126 : Cond.instanceMethod yX2_addRow ∈ jm_WS := jm_in (List.mem_of_getElem? (i := 77) (by decide +kernel)) (by decide +kernel)
set_option maxRecDepth 100000 in
theorem qw_127 : Cond.selects RX2 yX2_addRow yX2_addRow ∈ jm_WS := jm_in (List.mem_of_getElem? (i := 78) (by decide +kernel)) (by decide +kernel)
set_option maxRecDepth 100000 in
theorem qw_128 : jm_cd M_X0_init ∈ jm_WS := jm_in (List.mem_of_getElem? (i := 52) (by decide +kernel)) (by decide +kernel)
set_option maxRecDepth 100000 in
theorem qw_129 : Cond.methodLink RX3 9 yX0_init ∈ jm_WS := jm_in (List.mem_of_getElem? (i := 50) (by decide +kernel)) (by decide +kernel)
set_option maxRecDepth 100000 in
theorem qw_130 : Cond.instanceMethod yX0_init ∈ jm_WS := jm_in (List.mem_of_getElem? (i := 51) (by decide +kernel)) (by decide +kernel)
set_option maxRecDepth 100000 in
theorem qw_131 : jm_cd M_X1_init ∈ jm_WS := jm_in (List.mem_of_getElem? (i := 127) (by decide +kernel)) (by decide +kernel)
set_option maxRecDepth 100000 in
theorem qw_132 : Cond.instanceMethod yX1_init ∈ jm_WS := jm_in (List.mem_of_getElem? (i := 126) (by decide +kernel)) (by decide +kernel)
set_option maxRecDepth 100000 in
theorem qw_133 : jm_cd M_X2_takeRows ∈ jm_WS := jm_in (List.mem_of_getElem? (i := 286) (by decide +kernel)) (by decide +kernel)
set_option maxRecDepth 100000 in
theorem qw_134 : Cond.methodLink RX0 53 yX2_takeRows ∈ jm_WS := jm_in (List.mem_of_getElem? (i := 283) (by decide +kernel)) (by decide +kernel)
set_option maxRecDepth 100000 in
theorem qw_135 : Cond.instanceMethod yX2_takeRows ∈ jm_WS := jm_in (List.mem_of_getElem? (i := 284) (by decide +kernel)) (by decide +kernel)
set_option maxRecDepth 100000 in
theorem qw_136 : Cond.selects RX2 yX2_takeRows yX2_takeRows ∈ jm_WS := jm_in (List.mem_of_getElem? (i := 285) (by decide +kernel)) (by decide +kernel)
set_option maxRecDepth 100000 in
theorem qw_137 : jm_cd M_X0_take ∈ jm_WS := jm_in (List.mem_of_getElem? (i := 282) (by decide +kernel)) (by decide +kernel)
set_option maxRecDepth 100000 in
theorem qw_138 : Cond.methodLink RX3 298 yX0_take ∈ jm_WS := jm_in (List.mem_of_getElem? (i := 279) (by decide +kernel)) (by decide +kernel)
set_option maxRecDepth 100000 in
theorem qw_139 : Cond.instanceMethod yX0_take ∈ jm_WS := jm_in (List.mem_of_getElem? (i := 280) (by decide +kernel)) (by decide +kernel)
set_option maxRecDepth 100000 in
theorem qw_140 : Cond.selects RX0 yX0_take yX0_take ∈ jm_WS := jm_in (List.mem_of_getElem? (i := 281) (by decide +kernel)) (by decide +kernel)
set_option maxRecDepth 100000 in
theorem qw_141 : jm_cd M_X3_copyState ∈ jm_WS := jm_in (List.mem_of_getElem? (i := 278) (by decide +kernel)) (by decide +kernel)
set_option maxRecDepth 100000 in
theorem qw_142 : Cond.methodLink RX3 183 yX3_copyState ∈ jm_WS := jm_in (List.mem_of_getElem? (i := 276) (by decide +kernel)) (by decide +kernel)
set_option maxRecDepth 100000 in
theorem qw_143 : Cond.static yX3_copyState ∈ jm_WS := jm_in (List.mem_of_getElem? (i := 277) (by decide +kernel)) (by decide +kernel)
set_option maxRecDepth 100000 in
theorem qw_144 : jm_cd M_X3_dropOldest ∈ jm_WS := jm_in (List.mem_of_getElem? (i := 275) (by decide +kernel)) (by decide +kernel)
set_option maxRecDepth 100000 in
theorem qw_145 : Cond.methodLink RX3 295 yX3_dropOldest ∈ jm_WS := jm_in (List.mem_of_getElem? (i := 272) (by decide +kernel)) (by decide +kernel)
set_option maxRecDepth 100000 in
theorem qw_146 : Cond.instanceMethod yX3_dropOldest ∈ jm_WS := jm_in (List.mem_of_getElem? (i := 274) (by decide +kernel)) (by decide +kernel)
set_option maxRecDepth 100000 in
theorem qw_147 : Cond.selects RX3 yX3_dropOldest yX3_dropOldest ∈ jm_WS := jm_in (List.mem_of_getElem? (i := 2) (by decide +kernel)) (by decide +kernel)
set_option maxRecDepth 100000 in
theorem qw_148 : jm_cd M_X3_isWithin ∈ jm_WS := jm_in (List.mem_of_getElem? (i := 180) (by decide +kernel)) (by decide +kernel)
set_option maxRecDepth 100000 in
theorem qw_149 : Cond.methodLink RX3 34 yX3_isWithin ∈ jm_WS := jm_in (List.mem_of_getElem? (i := 178) (by decide +kernel)) (by decide +kernel)
set_option maxRecDepth 100000 in
theorem qw_150 : Cond.static yX3_isWithin ∈ jm_WS := jm_in (List.mem_of_getElem? (i := 179) (by decide +kernel)) (by decide +kernel)
set_option maxRecDepth 100000 in
theorem qw_151 : jm_cd M_X3_requireArgument ∈ jm_WS := jm_in (List.mem_of_getElem? (i := 183) (by decide +kernel)) (by decide +kernel)
set_option maxRecDepth 100000 in
theorem qw_152 : Cond.methodLink RX3 38 yX3_requireArgument ∈ jm_WS := jm_in (List.mem_of_getElem? (i := 181) (by decide +kernel)) (by decide +kernel)
set_option maxRecDepth 100000 in
theorem qw_153 : Cond.static yX3_requireArgument ∈ jm_WS := jm_in (List.mem_of_getElem? (i := 182) (by decide +kernel)) (by decide +kernel)
set_option maxRecDepth 100000 in
theorem qw_154 : jm_cd M_X3_save ∈ jm_WS := jm_in (List.mem_of_getElem? (i := 271) (by decide +kernel)) (by decide +kernel)
set_option maxRecDepth 100000 in
theorem qw_155 : Cond.methodLink RX3 59 yX3_save ∈ jm_WS := jm_in (List.mem_of_getElem? (i := 268) (by decide +kernel)) (by decide +kernel)
set_option maxRecDepth 100000 in
theorem qw_156 : Cond.instanceMethod yX3_save ∈ jm_WS := jm_in (List.mem_of_getElem? (i := 270) (by decide +kernel)) (by decide +kernel)
set_option maxRecDepth 100000 in
theorem qw_157 : Cond.selects RX3 yX3_save yX3_save ∈ jm_WS := jm_in (List.mem_of_getElem? (i := 1) (by decide +kernel)) (by decide +kernel)
set_option maxRecDepth 100000 in
theorem qw_158 : jm_cd M_X0_addFilm ∈ jm_WS := jm_in (List.mem_of_getElem? (i := 293) (by decide +kernel)) (by decide +kernel)
set_option maxRecDepth 100000 in
theorem qw_159 : Cond.methodLink RX3 62 yX0_addFilm ∈ jm_WS := jm_in (List.mem_of_getElem? (i := 290) (by decide +kernel)) (by decide +kernel)
set_option maxRecDepth 100000 in
theorem qw_160 : Cond.instanceMethod yX0_addFilm ∈ jm_WS := jm_in (List.mem_of_getElem? (i := 291) (by decide +kernel)) (by decide +kernel)
set_option maxRecDepth 100000 in
theorem qw_161 : Cond.selects RX0 yX0_addFilm yX0_addFilm ∈ jm_WS := jm_in (List.mem_of_getElem? (i := 292) (by decide +kernel)) (by decide +kernel)
set_option maxRecDepth 100000 in
theorem qw_162 : jm_cd M_X2_at ∈ jm_WS := jm_in (List.mem_of_getElem? (i := 340) (by decide +kernel)) (by decide +kernel)
set_option maxRecDepth 100000 in
theorem qw_163 : Cond.methodLink RX2 28 yX2_at ∈ jm_WS := jm_in (List.mem_of_getElem? (i := 488) (by decide +kernel)) (by decide +kernel)
set_option maxRecDepth 100000 in
theorem qw_164 : Cond.instanceMethod yX2_at ∈ jm_WS := jm_in (List.mem_of_getElem? (i := 338) (by decide +kernel)) (by decide +kernel)
set_option maxRecDepth 100000 in
theorem qw_165 : Cond.selects RX2 yX2_at yX2_at ∈ jm_WS := jm_in (List.mem_of_getElem? (i := 339) (by decide +kernel)) (by decide +kernel)
set_option maxRecDepth 100000 in
theorem qw_166 : Cond.methodLink RX2 31 yX2_put ∈ jm_WS := jm_in (List.mem_of_getElem? (i := 489) (by decide +kernel)) (by decide +kernel)
set_option maxRecDepth 100000 in
theorem qw_167 : jm_cd M_X3_requireScreen ∈ jm_WS := jm_in (List.mem_of_getElem? (i := 320) (by decide +kernel)) (by decide +kernel)
set_option maxRecDepth 100000 in
theorem qw_168 : Cond.methodLink RX3 66 yX3_requireScreen ∈ jm_WS := jm_in (List.mem_of_getElem? (i := 318) (by decide +kernel)) (by decide +kernel)
set_option maxRecDepth 100000 in
theorem qw_169 : Cond.static yX3_requireScreen ∈ jm_WS := jm_in (List.mem_of_getElem? (i := 319) (by decide +kernel)) (by decide +kernel)
set_option maxRecDepth 100000 in
theorem qw_170 : jm_cd M_X2_exchange ∈ jm_WS := jm_in (List.mem_of_getElem? (i := 487) (by decide +kernel)) (by decide +kernel)
set_option maxRecDepth 100000 in
theorem qw_171 : Cond.methodLink RX3 73 yX2_exchange ∈ jm_WS := jm_in (List.mem_of_getElem? (i := 484) (by decide +kernel)) (by decide +kernel)
set_option maxRecDepth 100000 in
theorem qw_172 : Cond.instanceMethod yX2_exchange ∈ jm_WS := jm_in (List.mem_of_getElem? (i := 485) (by decide +kernel)) (by decide +kernel)
set_option maxRecDepth 100000 in
theorem qw_173 : Cond.selects RX2 yX2_exchange yX2_exchange ∈ jm_WS := jm_in (List.mem_of_getElem? (i := 486) (by decide +kernel)) (by decide +kernel)
set_option maxRecDepth 100000 in
theorem qw_174 : Cond.methodLink RX0 60 yX2_at ∈ jm_WS := jm_in (List.mem_of_getElem? (i := 337) (by decide +kernel)) (by decide +kernel)
set_option maxRecDepth 100000 in
theorem qw_175 : jm_cd M_X0_endOf ∈ jm_WS := jm_in (List.mem_of_getElem? (i := 348) (by decide +kernel)) (by decide +kernel)
set_option maxRecDepth 100000 in
theorem qw_176 : Cond.methodLink RX0 87 yX0_endOf ∈ jm_WS := jm_in (List.mem_of_getElem? (i := 345) (by decide +kernel)) (by decide +kernel)
set_option maxRecDepth 100000 in
theorem qw_177 : Cond.instanceMethod yX0_endOf ∈ jm_WS := jm_in (List.mem_of_getElem? (i := 346) (by decide +kernel)) (by decide +kernel)
set_option maxRecDepth 100000 in
theorem qw_178 : Cond.selects RX0 yX0_endOf yX0_endOf ∈ jm_WS := jm_in (List.mem_of_getElem? (i := 347) (by decide +kernel)) (by decide +kernel)
set_option maxRecDepth 100000 in
theorem qw_179 : jm_cd M_X0_areTooClose ∈ jm_WS := jm_in (List.mem_of_getElem? (i := 351) (by decide +kernel)) (by decide +kernel)
set_option maxRecDepth 100000 in
theorem qw_180 : Cond.methodLink RX0 93 yX0_areTooClose ∈ jm_WS := jm_in (List.mem_of_getElem? (i := 349) (by decide +kernel)) (by decide +kernel)
set_option maxRecDepth 100000 in
theorem qw_181 : Cond.static yX0_areTooClose ∈ jm_WS := jm_in (List.mem_of_getElem? (i := 350) (by decide +kernel)) (by decide +kernel)
set_option maxRecDepth 100000 in
theorem qw_182 : jm_cd M_X0_beginIn ∈ jm_WS := jm_in (List.mem_of_getElem? (i := 362) (by decide +kernel)) (by decide +kernel)
set_option maxRecDepth 100000 in
theorem qw_183 : Cond.methodLink RX0 97 yX0_beginIn ∈ jm_WS := jm_in (List.mem_of_getElem? (i := 360) (by decide +kernel)) (by decide +kernel)
set_option maxRecDepth 100000 in
theorem qw_184 : Cond.static yX0_beginIn ∈ jm_WS := jm_in (List.mem_of_getElem? (i := 361) (by decide +kernel)) (by decide +kernel)
set_option maxRecDepth 100000 in
theorem qw_185 : jm_cd M_X0_clashingReel ∈ jm_WS := jm_in (List.mem_of_getElem? (i := 359) (by decide +kernel)) (by decide +kernel)
set_option maxRecDepth 100000 in
theorem qw_186 : Cond.methodLink RX0 114 yX0_clashingReel ∈ jm_WS := jm_in (List.mem_of_getElem? (i := 356) (by decide +kernel)) (by decide +kernel)
set_option maxRecDepth 100000 in
theorem qw_187 : Cond.instanceMethod yX0_clashingReel ∈ jm_WS := jm_in (List.mem_of_getElem? (i := 357) (by decide +kernel)) (by decide +kernel)
set_option maxRecDepth 100000 in
theorem qw_188 : Cond.selects RX0 yX0_clashingReel yX0_clashingReel ∈ jm_WS := jm_in (List.mem_of_getElem? (i := 358) (by decide +kernel)) (by decide +kernel)
set_option maxRecDepth 100000 in
theorem qw_189 : jm_cd M_X0_lengthOf ∈ jm_WS := jm_in (List.mem_of_getElem? (i := 336) (by decide +kernel)) (by decide +kernel)
set_option maxRecDepth 100000 in
theorem qw_190 : Cond.methodLink RX0 104 yX0_lengthOf ∈ jm_WS := jm_in (List.mem_of_getElem? (i := 333) (by decide +kernel)) (by decide +kernel)
set_option maxRecDepth 100000 in
theorem qw_191 : Cond.instanceMethod yX0_lengthOf ∈ jm_WS := jm_in (List.mem_of_getElem? (i := 334) (by decide +kernel)) (by decide +kernel)
set_option maxRecDepth 100000 in
theorem qw_192 : Cond.selects RX0 yX0_lengthOf yX0_lengthOf ∈ jm_WS := jm_in (List.mem_of_getElem? (i := 335) (by decide +kernel)) (by decide +kernel)
set_option maxRecDepth 100000 in
theorem qw_193 : jm_cd M_X0_takingScreen ∈ jm_WS := jm_in (List.mem_of_getElem? (i := 344) (by decide +kernel)) (by decide +kernel)
set_option maxRecDepth 100000 in
theorem qw_194 : Cond.methodLink RX0 107 yX0_takingScreen ∈ jm_WS := jm_in (List.mem_of_getElem? (i := 341) (by decide +kernel)) (by decide +kernel)
set_option maxRecDepth 100000 in
theorem qw_195 : Cond.instanceMethod yX0_takingScreen ∈ jm_WS := jm_in (List.mem_of_getElem? (i := 343) (by decide +kernel)) (by decide +kernel)
set_option maxRecDepth 100000 in
theorem qw_196 : Cond.selects RX0 yX0_takingScreen yX0_takingScreen ∈ jm_WS := jm_in (List.mem_of_getElem? (i := 4) (by decide +kernel)) (by decide +kernel)
set_option maxRecDepth 100000 in
theorem qw_197 : jm_cd M_X0_takingReel ∈ jm_WS := jm_in (List.mem_of_getElem? (i := 355) (by decide +kernel)) (by decide +kernel)
set_option maxRecDepth 100000 in
theorem qw_198 : Cond.methodLink RX0 111 yX0_takingReel ∈ jm_WS := jm_in (List.mem_of_getElem? (i := 352) (by decide +kernel)) (by decide +kernel)
set_option maxRecDepth 100000 in
theorem qw_199 : Cond.instanceMethod yX0_takingReel ∈ jm_WS := jm_in (List.mem_of_getElem? (i := 354) (by decide +kernel)) (by decide +kernel)
set_option maxRecDepth 100000 in
theorem qw_200 : Cond.selects RX0 yX0_takingReel yX0_takingReel ∈ jm_WS := jm_in (List.mem_of_getElem? (i := 5) (by decide +kernel)) (by decide +kernel)
set_option maxRecDepth 100000 in
theorem qw_201 : jm_cd M_X0_refusalBeside ∈ jm_WS := jm_in (List.mem_of_getElem? (i := 332) (by decide +kernel)) (by decide +kernel)
set_option maxRecDepth 100000 in
theorem qw_202 : Cond.methodLink RX0 101 yX0_refusalBeside ∈ jm_WS := jm_in (List.mem_of_getElem? (i := 329) (by decide +kernel)) (by decide +kernel)
set_option maxRecDepth 100000 in
theorem qw_203 : Cond.instanceMethod yX0_refusalBeside ∈ jm_WS := jm_in (List.mem_of_getElem? (i := 330) (by decide +kernel)) (by decide +kernel)
set_option maxRecDepth 100000 in
theorem qw_204 : Cond.selects RX0 yX0_refusalBeside yX0_refusalBeside ∈ jm_WS := jm_in (List.mem_of_getElem? (i := 331) (by decide +kernel)) (by decide +kernel)
set_option maxRecDepth 100000 in
theorem qw_205 : jm_cd M_X3_requireFilm ∈ jm_WS := jm_in (List.mem_of_getElem? (i := 301) (by decide +kernel)) (by decide +kernel)
set_option maxRecDepth 100000 in
theorem qw_206 : Cond.methodLink RX3 85 yX3_requireFilm ∈ jm_WS := jm_in (List.mem_of_getElem? (i := 298) (by decide +kernel)) (by decide +kernel)
set_option maxRecDepth 100000 in
theorem qw_207 : Cond.instanceMethod yX3_requireFilm ∈ jm_WS := jm_in (List.mem_of_getElem? (i := 300) (by decide +kernel)) (by decide +kernel)
set_option maxRecDepth 100000 in
theorem qw_208 : Cond.selects RX3 yX3_requireFilm yX3_requireFilm ∈ jm_WS := jm_in (List.mem_of_getElem? (i := 3) (by decide +kernel)) (by decide +kernel)
set_option maxRecDepth 100000 in
theorem qw_209 : jm_cd M_X3_requireMinute ∈ jm_WS := jm_in (List.mem_of_getElem? (i := 324) (by decide +kernel)) (by decide +kernel)
set_option maxRecDepth 100000 in
theorem qw_210 : Cond.methodLink RX3 88 yX3_requireMinute ∈ jm_WS := jm_in (List.mem_of_getElem? (i := 322) (by decide +kernel)) (by decide +kernel)
set_option maxRecDepth 100000 in
theorem qw_211 : Cond.static yX3_requireMinute ∈ jm_WS := jm_in (List.mem_of_getElem? (i := 323) (by decide +kernel)) (by decide +kernel)
set_option maxRecDepth 100000 in
theorem qw_212 : jm_cd M_X0_refusal ∈ jm_WS := jm_in (List.mem_of_getElem? (i := 328) (by decide +kernel)) (by decide +kernel)
set_option maxRecDepth 100000 in
theorem qw_213 : Cond.methodLink RX3 91 yX0_refusal ∈ jm_WS := jm_in (List.mem_of_getElem? (i := 325) (by decide +kernel)) (by decide +kernel)
set_option maxRecDepth 100000 in
theorem qw_214 : Cond.instanceMethod yX0_refusal ∈ jm_WS := jm_in (List.mem_of_getElem? (i := 326) (by decide +kernel)) (by decide +kernel)
set_option maxRecDepth 100000 in
theorem qw_215 : Cond.selects RX0 yX0_refusal yX0_refusal ∈ jm_WS := jm_in (List.mem_of_getElem? (i := 327) (by decide +kernel)) (by decide +kernel)
set_option maxRecDepth 100000 in
theorem qw_216 : jm_cd M_X3_requireNotRefused ∈ jm_WS := jm_in (List.mem_of_getElem? (i := 365) (by decide +kernel)) (by decide +kernel)
set_option maxRecDepth 100000 in
theorem qw_217 : Cond.methodLink RX3 95 yX3_requireNotRefused ∈ jm_WS := jm_in (List.mem_of_getElem? (i := 363) (by decide +kernel)) (by decide +kernel)
set_option maxRecDepth 100000 in
theorem qw_218 : Cond.static yX3_requireNotRefused ∈ jm_WS := jm_in (List.mem_of_getElem? (i := 364) (by decide +kernel)) (by decide +kernel)
set_option maxRecDepth 100000 in
theorem qw_219 : jm_cd M_X0_addShowing ∈ jm_WS := jm_in (List.mem_of_getElem? (i := 370) (by decide +kernel)) (by decide +kernel)
set_option maxRecDepth 100000 in
theorem qw_220 : Cond.methodLink RX3 98 yX0_addShowing ∈ jm_WS := jm_in (List.mem_of_getElem? (i := 367) (by decide +kernel)) (by decide +kernel)
set_option maxRecDepth 100000 in
theorem qw_221 : Cond.instanceMethod yX0_addShowing ∈ jm_WS := jm_in (List.mem_of_getElem? (i := 368) (by decide +kernel)) (by decide +kernel)
set_option maxRecDepth 100000 in
theorem qw_222 : Cond.selects RX0 yX0_addShowing yX0_addShowing ∈ jm_WS := jm_in (List.mem_of_getElem? (i := 369) (by decide +kernel)) (by decide +kernel)
set_option maxRecDepth 100000 in
theorem qw_223 : jm_cd M_J6_bitCount_0f7a4 ∈ jm_WS := jm_in (List.mem_of_getElem? (i := 456) (by decide +kernel)) (by decide +kernel)
set_option maxRecDepth 100000 in
theorem qw_224 : Cond.methodLink RX0 64 yJ6_bitCount_0f7a4 ∈ jm_WS := jm_in (List.mem_of_getElem? (i := 454) (by decide +kernel)) (by decide +kernel)
set_option maxRecDepth 100000 in
theorem qw_225 : Cond.static yJ6_bitCount_0f7a4 ∈ jm_WS := jm_in (List.mem_of_getElem? (i := 455) (by decide +kernel)) (by decide +kernel)
set_option maxRecDepth 100000 in
theorem qw_226 : Cond.initialized RJ6 ∈ jm_WS := jm_in (List.mem_of_getElem? (i := 39) (by decide +kernel)) (by decide +kernel)
set_option maxRecDepth 100000 in
theorem qw_227 : jm_cd M_X2_dropRow ∈ jm_WS := jm_in (List.mem_of_getElem? (i := 506) (by decide +kernel)) (by decide +kernel)
set_option maxRecDepth 100000 in
theorem qw_228 : Cond.methodLink RX0 70 yX2_dropRow ∈ jm_WS := jm_in (List.mem_of_getElem? (i := 503) (by decide +kernel)) (by decide +kernel)
set_option maxRecDepth 100000 in
theorem qw_229 : Cond.instanceMethod yX2_dropRow ∈ jm_WS := jm_in (List.mem_of_getElem? (i := 504) (by decide +kernel)) (by decide +kernel)
set_option maxRecDepth 100000 in
theorem qw_230 : Cond.selects RX2 yX2_dropRow yX2_dropRow ∈ jm_WS := jm_in (List.mem_of_getElem? (i := 505) (by decide +kernel)) (by decide +kernel)
set_option maxRecDepth 100000 in
theorem qw_231 : jm_cd M_X3_requireShowing ∈ jm_WS := jm_in (List.mem_of_getElem? (i := 382) (by decide +kernel)) (by decide +kernel)
set_option maxRecDepth 100000 in
theorem qw_232 : Cond.methodLink RX3 101 yX3_requireShowing ∈ jm_WS := jm_in (List.mem_of_getElem? (i := 379) (by decide +kernel)) (by decide +kernel)
set_option maxRecDepth 100000 in
theorem qw_233 : Cond.instanceMethod yX3_requireShowing ∈ jm_WS := jm_in (List.mem_of_getElem? (i := 381) (by decide +kernel)) (by decide +kernel)
set_option maxRecDepth 100000 in
theorem qw_234 : Cond.selects RX3 yX3_requireShowing yX3_requireShowing ∈ jm_WS := jm_in (List.mem_of_getElem? (i := 6) (by decide +kernel)) (by decide +kernel)
set_option maxRecDepth 100000 in
theorem qw_235 : jm_cd M_X0_dropShowing ∈ jm_WS := jm_in (List.mem_of_getElem? (i := 502) (by decide +kernel)) (by decide +kernel)
set_option maxRecDepth 100000 in
theorem qw_236 : Cond.methodLink RX3 104 yX0_dropShowing ∈ jm_WS := jm_in (List.mem_of_getElem? (i := 499) (by decide +kernel)) (by decide +kernel)
set_option maxRecDepth 100000 in
theorem qw_237 : Cond.instanceMethod yX0_dropShowing ∈ jm_WS := jm_in (List.mem_of_getElem? (i := 500) (by decide +kernel)) (by decide +kernel)
set_option maxRecDepth 100000 in
theorem qw_238 : Cond.selects RX0 yX0_dropShowing yX0_dropShowing ∈ jm_WS := jm_in (List.mem_of_getElem? (i := 501) (by decide +kernel)) (by decide +kernel)
set_option maxRecDepth 100000 in
theorem qw_239 : jm_cd M_X3_hasBit ∈ jm_WS := jm_in (List.mem_of_getElem? (i := 390) (by decide +kernel)) (by decide +kernel)
set_option maxRecDepth 100000 in
theorem qw_240 : Cond.static yX3_hasBit ∈ jm_WS := jm_in (List.mem_of_getElem? (i := 389) (by decide +kernel)) (by decide +kernel)
set_option maxRecDepth 100000 in
theorem qw_241 : jm_cd M_X0_goes ∈ jm_WS := jm_in (List.mem_of_getElem? (i := 387) (by decide +kernel)) (by decide +kernel)
set_option maxRecDepth 100000 in
theorem qw_242 : Cond.methodLink RX0 74 yX0_goes ∈ jm_WS := jm_in (List.mem_of_getElem? (i := 395) (by decide +kernel)) (by decide +kernel)
set_option maxRecDepth 100000 in
theorem qw_243 : Cond.instanceMethod yX0_goes ∈ jm_WS := jm_in (List.mem_of_getElem? (i := 385) (by decide +kernel)) (by decide +kernel)
set_option maxRecDepth 100000 in
theorem qw_244 : Cond.selects RX0 yX0_goes yX0_goes ∈ jm_WS := jm_in (List.mem_of_getElem? (i := 386) (by decide +kernel)) (by decide +kernel)
set_option maxRecDepth 100000 in
theorem qw_245 : jm_cd M_X0_canGo ∈ jm_WS := jm_in (List.mem_of_getElem? (i := 394) (by decide +kernel)) (by decide +kernel)
set_option maxRecDepth 100000 in
theorem qw_246 : Cond.methodLink RX0 78 yX0_canGo ∈ jm_WS := jm_in (List.mem_of_getElem? (i := 516) (by decide +kernel)) (by decide +kernel)
set_option maxRecDepth 100000 in
theorem qw_247 : Cond.instanceMethod yX0_canGo ∈ jm_WS := jm_in (List.mem_of_getElem? (i := 392) (by decide +kernel)) (by decide +kernel)
set_option maxRecDepth 100000 in
theorem qw_248 : Cond.selects RX0 yX0_canGo yX0_canGo ∈ jm_WS := jm_in (List.mem_of_getElem? (i := 393) (by decide +kernel)) (by decide +kernel)
set_option maxRecDepth 100000 in
theorem qw_249 : Cond.methodLink RX3 111 yX2_at ∈ jm_WS := jm_in (List.mem_of_getElem? (i := 464) (by decide +kernel)) (by decide +kernel)
set_option maxRecDepth 100000 in
theorem qw_250 : Cond.methodLink RX3 114 yX0_refusalBeside ∈ jm_WS := jm_in (List.mem_of_getElem? (i := 511) (by decide +kernel)) (by decide +kernel)
set_option maxRecDepth 100000 in
theorem qw_251 : jm_cd M_X0_shift ∈ jm_WS := jm_in (List.mem_of_getElem? (i := 515) (by decide +kernel)) (by decide +kernel)
set_option maxRecDepth 100000 in
theorem qw_252 : Cond.methodLink RX3 118 yX0_shift ∈ jm_WS := jm_in (List.mem_of_getElem? (i := 512) (by decide +kernel)) (by decide +kernel)
set_option maxRecDepth 100000 in
theorem qw_253 : Cond.instanceMethod yX0_shift ∈ jm_WS := jm_in (List.mem_of_getElem? (i := 513) (by decide +kernel)) (by decide +kernel)
set_option maxRecDepth 100000 in
theorem qw_254 : Cond.selects RX0 yX0_shift yX0_shift ∈ jm_WS := jm_in (List.mem_of_getElem? (i := 514) (by decide +kernel)) (by decide +kernel)
set_option maxRecDepth 100000 in
theorem qw_255 : jm_cd M_X0_addGuest ∈ jm_WS := jm_in (List.mem_of_getElem? (i := 525) (by decide +kernel)) (by decide +kernel)
set_option maxRecDepth 100000 in
theorem qw_256 : Cond.methodLink RX3 126 yX0_addGuest ∈ jm_WS := jm_in (List.mem_of_getElem? (i := 522) (by decide +kernel)) (by decide +kernel)
set_option maxRecDepth 100000 in
theorem qw_257 : Cond.instanceMethod yX0_addGuest ∈ jm_WS := jm_in (List.mem_of_getElem? (i := 523) (by decide +kernel)) (by decide +kernel)
set_option maxRecDepth 100000 in
theorem qw_258 : Cond.selects RX0 yX0_addGuest yX0_addGuest ∈ jm_WS := jm_in (List.mem_of_getElem? (i := 524) (by decide +kernel)) (by decide +kernel)
set_option maxRecDepth 100000 in
theorem qw_259 : jm_cd M_X0_visitsOf ∈ jm_WS := jm_in (List.mem_of_getElem? (i := 404) (by decide +kernel)) (by decide +kernel)
set_option maxRecDepth 100000 in
theorem qw_260 : Cond.methodLink RX0 81 yX0_visitsOf ∈ jm_WS := jm_in (List.mem_of_getElem? (i := 401) (by decide +kernel)) (by decide +kernel)
set_option maxRecDepth 100000 in
theorem qw_261 : Cond.instanceMethod yX0_visitsOf ∈ jm_WS := jm_in (List.mem_of_getElem? (i := 403) (by decide +kernel)) (by decide +kernel)
set_option maxRecDepth 100000 in
theorem qw_262 : Cond.selects RX0 yX0_visitsOf yX0_visitsOf ∈ jm_WS := jm_in (List.mem_of_getElem? (i := 7) (by decide +kernel)) (by decide +kernel)
set_option maxRecDepth 100000 in
theorem qw_263 : jm_cd M_X3_requireJuror ∈ jm_WS := jm_in (List.mem_of_getElem? (i := 377) (by decide +kernel)) (by decide +kernel)
set_option maxRecDepth 100000 in
theorem qw_264 : Cond.methodLink RX3 129 yX3_requireJuror ∈ jm_WS := jm_in (List.mem_of_getElem? (i := 375) (by decide +kernel)) (by decide +kernel)
set_option maxRecDepth 100000 in
theorem qw_265 : Cond.static yX3_requireJuror ∈ jm_WS := jm_in (List.mem_of_getElem? (i := 376) (by decide +kernel)) (by decide +kernel)
set_option maxRecDepth 100000 in
theorem qw_266 : Cond.methodLink RX3 132 yX0_goes ∈ jm_WS := jm_in (List.mem_of_getElem? (i := 384) (by decide +kernel)) (by decide +kernel)
set_option maxRecDepth 100000 in
theorem qw_267 : Cond.methodLink RX3 136 yX0_canGo ∈ jm_WS := jm_in (List.mem_of_getElem? (i := 391) (by decide +kernel)) (by decide +kernel)
set_option maxRecDepth 100000 in
theorem qw_268 : jm_cd M_X0_addGoer ∈ jm_WS := jm_in (List.mem_of_getElem? (i := 400) (by decide +kernel)) (by decide +kernel)
set_option maxRecDepth 100000 in
theorem qw_269 : Cond.methodLink RX3 141 yX0_addGoer ∈ jm_WS := jm_in (List.mem_of_getElem? (i := 397) (by decide +kernel)) (by decide +kernel)
set_option maxRecDepth 100000 in
theorem qw_270 : Cond.instanceMethod yX0_addGoer ∈ jm_WS := jm_in (List.mem_of_getElem? (i := 398) (by decide +kernel)) (by decide +kernel)
set_option maxRecDepth 100000 in
theorem qw_271 : Cond.selects RX0 yX0_addGoer yX0_addGoer ∈ jm_WS := jm_in (List.mem_of_getElem? (i := 399) (by decide +kernel)) (by decide +kernel)
set_option maxRecDepth 100000 in
theorem qw_272 : jm_cd M_X0_seenBy ∈ jm_WS := jm_in (List.mem_of_getElem? (i := 453) (by decide +kernel)) (by decide +kernel)
set_option maxRecDepth 100000 in
theorem qw_273 : Cond.methodLink RX3 144 yX0_seenBy ∈ jm_WS := jm_in (List.mem_of_getElem? (i := 530) (by decide +kernel)) (by decide +kernel)
set_option maxRecDepth 100000 in
theorem qw_274 : Cond.instanceMethod yX0_seenBy ∈ jm_WS := jm_in (List.mem_of_getElem? (i := 451) (by decide +kernel)) (by decide +kernel)
set_option maxRecDepth 100000 in
theorem qw_275 : Cond.selects RX0 yX0_seenBy yX0_seenBy ∈ jm_WS := jm_in (List.mem_of_getElem? (i := 452) (by decide +kernel)) (by decide +kernel)
set_option maxRecDepth 100000 in
theorem qw_276 : Cond.methodLink RX3 147 yX3_hasBit ∈ jm_WS := jm_in (List.mem_of_getElem? (i := 531) (by decide +kernel)) (by decide +kernel)
set_option maxRecDepth 100000 in
theorem qw_277 : jm_cd M_X1_isLonger ∈ jm_WS := jm_in (List.mem_of_getElem? (i := 566) (by decide +kernel)) (by decide +kernel)
set_option maxRecDepth 100000 in
theorem qw_278 : Cond.methodLink RX1 45 yX1_isLonger ∈ jm_WS := jm_in (List.mem_of_getElem? (i := 564) (by decide +kernel)) (by decide +kernel)
set_option maxRecDepth 100000 in
theorem qw_279 : Cond.static yX1_isLonger ∈ jm_WS := jm_in (List.mem_of_getElem? (i := 565) (by decide +kernel)) (by decide +kernel)
set_option maxRecDepth 100000 in
theorem qw_280 : jm_cd M_X1_startPart ∈ jm_WS := jm_in (List.mem_of_getElem? (i := 549) (by decide +kernel)) (by decide +kernel)
set_option maxRecDepth 100000 in
theorem qw_281 : Cond.methodLink RX1 42 yX1_startPart ∈ jm_WS := jm_in (List.mem_of_getElem? (i := 563) (by decide +kernel)) (by decide +kernel)
set_option maxRecDepth 100000 in
theorem qw_282 : Cond.instanceMethod yX1_startPart ∈ jm_WS := jm_in (List.mem_of_getElem? (i := 547) (by decide +kernel)) (by decide +kernel)
set_option maxRecDepth 100000 in
theorem qw_283 : Cond.selects RX1 yX1_startPart yX1_startPart ∈ jm_WS := jm_in (List.mem_of_getElem? (i := 548) (by decide +kernel)) (by decide +kernel)
set_option maxRecDepth 100000 in
theorem qw_284 : jm_cd M_X1_advance ∈ jm_WS := jm_in (List.mem_of_getElem? (i := 558) (by decide +kernel)) (by decide +kernel)
set_option maxRecDepth 100000 in
theorem qw_285 : Cond.methodLink RX1 25 yX1_advance ∈ jm_WS := jm_in (List.mem_of_getElem? (i := 555) (by decide +kernel)) (by decide +kernel)
set_option maxRecDepth 100000 in
theorem qw_286 : Cond.instanceMethod yX1_advance ∈ jm_WS := jm_in (List.mem_of_getElem? (i := 557) (by decide +kernel)) (by decide +kernel)
set_option maxRecDepth 100000 in
theorem qw_287 : Cond.selects RX1 yX1_advance yX1_advance ∈ jm_WS := jm_in (List.mem_of_getElem? (i := 13) (by decide +kernel)) (by decide +kernel)
set_option maxRecDepth 100000 in
theorem qw_288 : jm_cd M_X1_takeBehindStart ∈ jm_WS := jm_in (List.mem_of_getElem? (i := 562) (by decide +kernel)) (by decide +kernel)
set_option maxRecDepth 100000 in
theorem qw_289 : Cond.methodLink RX1 35 yX1_takeBehindStart ∈ jm_WS := jm_in (List.mem_of_getElem? (i := 559) (by decide +kernel)) (by decide +kernel)
set_option maxRecDepth 100000 in
theorem qw_290 : Cond.instanceMethod yX1_takeBehindStart ∈ jm_WS := jm_in (List.mem_of_getElem? (i := 561) (by decide +kernel)) (by decide +kernel)
set_option maxRecDepth 100000 in
theorem qw_291 : Cond.selects RX1 yX1_takeBehindStart yX1_takeBehindStart ∈ jm_WS := jm_in (List.mem_of_getElem? (i := 14) (by decide +kernel)) (by decide +kernel)
set_option maxRecDepth 100000 in
theorem qw_292 : jm_cd M_X1_takeBehindPause ∈ jm_WS := jm_in (List.mem_of_getElem? (i := 570) (by decide +kernel)) (by decide +kernel)
set_option maxRecDepth 100000 in
theorem qw_293 : Cond.methodLink RX1 39 yX1_takeBehindPause ∈ jm_WS := jm_in (List.mem_of_getElem? (i := 567) (by decide +kernel)) (by decide +kernel)
set_option maxRecDepth 100000 in
theorem qw_294 : Cond.instanceMethod yX1_takeBehindPause ∈ jm_WS := jm_in (List.mem_of_getElem? (i := 569) (by decide +kernel)) (by decide +kernel)
set_option maxRecDepth 100000 in
theorem qw_295 : Cond.selects RX1 yX1_takeBehindPause yX1_takeBehindPause ∈ jm_WS := jm_in (List.mem_of_getElem? (i := 15) (by decide +kernel)) (by decide +kernel)
set_option maxRecDepth 100000 in
theorem qw_296 : Cond.methodLink RX3 302 yX1_startPart ∈ jm_WS := jm_in (List.mem_of_getElem? (i := 546) (by decide +kernel)) (by decide +kernel)
set_option maxRecDepth 100000 in
theorem qw_297 : jm_cd M_X1_takeCode ∈ jm_WS := jm_in (List.mem_of_getElem? (i := 553) (by decide +kernel)) (by decide +kernel)
set_option maxRecDepth 100000 in
theorem qw_298 : Cond.methodLink RX3 305 yX1_takeCode ∈ jm_WS := jm_in (List.mem_of_getElem? (i := 550) (by decide +kernel)) (by decide +kernel)
set_option maxRecDepth 100000 in
theorem qw_299 : Cond.instanceMethod yX1_takeCode ∈ jm_WS := jm_in (List.mem_of_getElem? (i := 551) (by decide +kernel)) (by decide +kernel)
set_option maxRecDepth 100000 in
theorem qw_300 : Cond.selects RX1 yX1_takeCode yX1_takeCode ∈ jm_WS := jm_in (List.mem_of_getElem? (i := 552) (by decide +kernel)) (by decide +kernel)
set_option maxRecDepth 100000 in
theorem qw_301 : jm_cd M_X3_readBuffer ∈ jm_WS := jm_in (List.mem_of_getElem? (i := 545) (by decide +kernel)) (by decide +kernel)
set_option maxRecDepth 100000 in
theorem qw_302 : Cond.methodLink RX3 160 yX3_readBuffer ∈ jm_WS := jm_in (List.mem_of_getElem? (i := 542) (by decide +kernel)) (by decide +kernel)
set_option maxRecDepth 100000 in
theorem qw_303 : Cond.instanceMethod yX3_readBuffer ∈ jm_WS := jm_in (List.mem_of_getElem? (i := 544) (by decide +kernel)) (by decide +kernel)
set_option maxRecDepth 100000 in
theorem qw_304 : Cond.selects RX3 yX3_readBuffer yX3_readBuffer ∈ jm_WS := jm_in (List.mem_of_getElem? (i := 12) (by decide +kernel)) (by decide +kernel)
set_option maxRecDepth 100000 in
theorem qw_305 : jm_cd M_X0_inWay ∈ jm_WS := jm_in (List.mem_of_getElem? (i := 590) (by decide +kernel)) (by decide +kernel)
set_option maxRecDepth 100000 in
theorem qw_306 : Cond.methodLink RX3 219 yX0_inWay ∈ jm_WS := jm_in (List.mem_of_getElem? (i := 587) (by decide +kernel)) (by decide +kernel)
set_option maxRecDepth 100000 in
theorem qw_307 : Cond.instanceMethod yX0_inWay ∈ jm_WS := jm_in (List.mem_of_getElem? (i := 588) (by decide +kernel)) (by decide +kernel)
set_option maxRecDepth 100000 in
theorem qw_308 : Cond.selects RX0 yX0_inWay yX0_inWay ∈ jm_WS := jm_in (List.mem_of_getElem? (i := 589) (by decide +kernel)) (by decide +kernel)
set_option maxRecDepth 100000 in
theorem qw_309 : jm_cd M_X0_setStop ∈ jm_WS := jm_in (List.mem_of_getElem? (i := 582) (by decide +kernel)) (by decide +kernel)
set_option maxRecDepth 100000 in
theorem qw_310 : Cond.methodLink RX3 309 yX0_setStop ∈ jm_WS := jm_in (List.mem_of_getElem? (i := 579) (by decide +kernel)) (by decide +kernel)
set_option maxRecDepth 100000 in
theorem qw_311 : Cond.instanceMethod yX0_setStop ∈ jm_WS := jm_in (List.mem_of_getElem? (i := 580) (by decide +kernel)) (by decide +kernel)
set_option maxRecDepth 100000 in
theorem qw_312 : Cond.selects RX0 yX0_setStop yX0_setStop ∈ jm_WS := jm_in (List.mem_of_getElem? (i := 581) (by decide +kernel)) (by decide +kernel)
set_option maxRecDepth 100000 in
theorem qw_313 : jm_cd M_X3_makePart ∈ jm_WS := jm_in (List.mem_of_getElem? (i := 586) (by decide +kernel)) (by decide +kernel)
set_option maxRecDepth 100000 in
theorem qw_314 : Cond.methodLink RX3 313 yX3_makePart ∈ jm_WS := jm_in (List.mem_of_getElem? (i := 583) (by decide +kernel)) (by decide +kernel)
set_option maxRecDepth 100000 in
theorem qw_315 : Cond.instanceMethod yX3_makePart ∈ jm_WS := jm_in (List.mem_of_getElem? (i := 585) (by decide +kernel)) (by decide +kernel)
set_option maxRecDepth 100000 in
theorem qw_316 : Cond.selects RX3 yX3_makePart yX3_makePart ∈ jm_WS := jm_in (List.mem_of_getElem? (i := 17) (by decide +kernel)) (by decide +kernel)
set_option maxRecDepth 100000 in
theorem qw_317 : jm_cd M_X3_makeShowings ∈ jm_WS := jm_in (List.mem_of_getElem? (i := 578) (by decide +kernel)) (by decide +kernel)
set_option maxRecDepth 100000 in
theorem qw_318 : Cond.methodLink RX3 168 yX3_makeShowings ∈ jm_WS := jm_in (List.mem_of_getElem? (i := 575) (by decide +kernel)) (by decide +kernel)
set_option maxRecDepth 100000 in
theorem qw_319 : Cond.instanceMethod yX3_makeShowings ∈ jm_WS := jm_in (List.mem_of_getElem? (i := 577) (by decide +kernel)) (by decide +kernel)
set_option maxRecDepth 100000 in
theorem qw_320 : Cond.selects RX3 yX3_makeShowings yX3_makeShowings ∈ jm_WS := jm_in (List.mem_of_getElem? (i := 16) (by decide +kernel)) (by decide +kernel)
set_option maxRecDepth 100000 in
theorem qw_321 : jm_cd M_X1_isBehindPart ∈ jm_WS := jm_in (List.mem_of_getElem? (i := 574) (by decide +kernel)) (by decide +kernel)
set_option maxRecDepth 100000 in
theorem qw_322 : Cond.methodLink RX3 164 yX1_isBehindPart ∈ jm_WS := jm_in (List.mem_of_getElem? (i := 571) (by decide +kernel)) (by decide +kernel)
set_option maxRecDepth 100000 in
theorem qw_323 : Cond.instanceMethod yX1_isBehindPart ∈ jm_WS := jm_in (List.mem_of_getElem? (i := 572) (by decide +kernel)) (by decide +kernel)
set_option maxRecDepth 100000 in
theorem qw_324 : Cond.selects RX1 yX1_isBehindPart yX1_isBehindPart ∈ jm_WS := jm_in (List.mem_of_getElem? (i := 573) (by decide +kernel)) (by decide +kernel)
set_option maxRecDepth 100000 in
theorem qw_325 : jm_cd M_X3_requireWhat ∈ jm_WS := jm_in (List.mem_of_getElem? (i := 425) (by decide +kernel)) (by decide +kernel)
set_option maxRecDepth 100000 in
theorem qw_326 : Cond.methodLink RX3 171 yX3_requireWhat ∈ jm_WS := jm_in (List.mem_of_getElem? (i := 423) (by decide +kernel)) (by decide +kernel)
set_option maxRecDepth 100000 in
theorem qw_327 : Cond.static yX3_requireWhat ∈ jm_WS := jm_in (List.mem_of_getElem? (i := 424) (by decide +kernel)) (by decide +kernel)
set_option maxRecDepth 100000 in
theorem qw_328 : jm_cd M_X0_stopNumber ∈ jm_WS := jm_in (List.mem_of_getElem? (i := 598) (by decide +kernel)) (by decide +kernel)
set_option maxRecDepth 100000 in
theorem qw_329 : Cond.methodLink RX3 175 yX0_stopNumber ∈ jm_WS := jm_in (List.mem_of_getElem? (i := 595) (by decide +kernel)) (by decide +kernel)
set_option maxRecDepth 100000 in
theorem qw_330 : Cond.instanceMethod yX0_stopNumber ∈ jm_WS := jm_in (List.mem_of_getElem? (i := 596) (by decide +kernel)) (by decide +kernel)
set_option maxRecDepth 100000 in
theorem qw_331 : Cond.selects RX0 yX0_stopNumber yX0_stopNumber ∈ jm_WS := jm_in (List.mem_of_getElem? (i := 597) (by decide +kernel)) (by decide +kernel)
set_option maxRecDepth 100000 in
theorem qw_332 : Cond.methodLink RX0 133 yX0_seenBy ∈ jm_WS := jm_in (List.mem_of_getElem? (i := 450) (by decide +kernel)) (by decide +kernel)
set_option maxRecDepth 100000 in
theorem qw_333 : jm_cd M_X0_showingsWith ∈ jm_WS := jm_in (List.mem_of_getElem? (i := 610) (by decide +kernel)) (by decide +kernel)
set_option maxRecDepth 100000 in
theorem qw_334 : Cond.methodLink RX0 139 yX0_showingsWith ∈ jm_WS := jm_in (List.mem_of_getElem? (i := 607) (by decide +kernel)) (by decide +kernel)
set_option maxRecDepth 100000 in
theorem qw_335 : Cond.instanceMethod yX0_showingsWith ∈ jm_WS := jm_in (List.mem_of_getElem? (i := 609) (by decide +kernel)) (by decide +kernel)
set_option maxRecDepth 100000 in
theorem qw_336 : Cond.selects RX0 yX0_showingsWith yX0_showingsWith ∈ jm_WS := jm_in (List.mem_of_getElem? (i := 18) (by decide +kernel)) (by decide +kernel)
set_option maxRecDepth 100000 in
theorem qw_337 : jm_cd M_X0_seatsFor ∈ jm_WS := jm_in (List.mem_of_getElem? (i := 614) (by decide +kernel)) (by decide +kernel)
set_option maxRecDepth 100000 in
theorem qw_338 : Cond.methodLink RX0 142 yX0_seatsFor ∈ jm_WS := jm_in (List.mem_of_getElem? (i := 611) (by decide +kernel)) (by decide +kernel)
set_option maxRecDepth 100000 in
theorem qw_339 : Cond.instanceMethod yX0_seatsFor ∈ jm_WS := jm_in (List.mem_of_getElem? (i := 613) (by decide +kernel)) (by decide +kernel)
set_option maxRecDepth 100000 in
theorem qw_340 : Cond.selects RX0 yX0_seatsFor yX0_seatsFor ∈ jm_WS := jm_in (List.mem_of_getElem? (i := 19) (by decide +kernel)) (by decide +kernel)
set_option maxRecDepth 100000 in
theorem qw_341 : jm_cd M_X0_pointsOf ∈ jm_WS := jm_in (List.mem_of_getElem? (i := 463) (by decide +kernel)) (by decide +kernel)
set_option maxRecDepth 100000 in
theorem qw_342 : Cond.methodLink RX0 136 yX0_pointsOf ∈ jm_WS := jm_in (List.mem_of_getElem? (i := 460) (by decide +kernel)) (by decide +kernel)
set_option maxRecDepth 100000 in
theorem qw_343 : Cond.instanceMethod yX0_pointsOf ∈ jm_WS := jm_in (List.mem_of_getElem? (i := 462) (by decide +kernel)) (by decide +kernel)
set_option maxRecDepth 100000 in
theorem qw_344 : Cond.selects RX0 yX0_pointsOf yX0_pointsOf ∈ jm_WS := jm_in (List.mem_of_getElem? (i := 11) (by decide +kernel)) (by decide +kernel)
set_option maxRecDepth 100000 in
theorem qw_345 : jm_cd M_X0_filmNumber ∈ jm_WS := jm_in (List.mem_of_getElem? (i := 606) (by decide +kernel)) (by decide +kernel)
set_option maxRecDepth 100000 in
theorem qw_346 : Cond.methodLink RX3 193 yX0_filmNumber ∈ jm_WS := jm_in (List.mem_of_getElem? (i := 603) (by decide +kernel)) (by decide +kernel)
set_option maxRecDepth 100000 in
theorem qw_347 : Cond.instanceMethod yX0_filmNumber ∈ jm_WS := jm_in (List.mem_of_getElem? (i := 604) (by decide +kernel)) (by decide +kernel)
set_option maxRecDepth 100000 in
theorem qw_348 : Cond.selects RX0 yX0_filmNumber yX0_filmNumber ∈ jm_WS := jm_in (List.mem_of_getElem? (i := 605) (by decide +kernel)) (by decide +kernel)
set_option maxRecDepth 100000 in
theorem qw_349 : jm_cd M_X0_showingNumber ∈ jm_WS := jm_in (List.mem_of_getElem? (i := 622) (by decide +kernel)) (by decide +kernel)
set_option maxRecDepth 100000 in
theorem qw_350 : Cond.methodLink RX3 196 yX0_showingNumber ∈ jm_WS := jm_in (List.mem_of_getElem? (i := 619) (by decide +kernel)) (by decide +kernel)
set_option maxRecDepth 100000 in
theorem qw_351 : Cond.instanceMethod yX0_showingNumber ∈ jm_WS := jm_in (List.mem_of_getElem? (i := 620) (by decide +kernel)) (by decide +kernel)
set_option maxRecDepth 100000 in
theorem qw_352 : Cond.selects RX0 yX0_showingNumber yX0_showingNumber ∈ jm_WS := jm_in (List.mem_of_getElem? (i := 621) (by decide +kernel)) (by decide +kernel)
set_option maxRecDepth 100000 in
theorem qw_353 : jm_cd M_X0_reelBegin ∈ jm_WS := jm_in (List.mem_of_getElem? (i := 630) (by decide +kernel)) (by decide +kernel)
set_option maxRecDepth 100000 in
theorem qw_354 : Cond.methodLink RX3 199 yX0_reelBegin ∈ jm_WS := jm_in (List.mem_of_getElem? (i := 627) (by decide +kernel)) (by decide +kernel)
set_option maxRecDepth 100000 in
theorem qw_355 : Cond.instanceMethod yX0_reelBegin ∈ jm_WS := jm_in (List.mem_of_getElem? (i := 628) (by decide +kernel)) (by decide +kernel)
set_option maxRecDepth 100000 in
theorem qw_356 : Cond.selects RX0 yX0_reelBegin yX0_reelBegin ∈ jm_WS := jm_in (List.mem_of_getElem? (i := 629) (by decide +kernel)) (by decide +kernel)
set_option maxRecDepth 100000 in
theorem qw_357 : jm_cd M_X0_reelAt ∈ jm_WS := jm_in (List.mem_of_getElem? (i := 642) (by decide +kernel)) (by decide +kernel)
set_option maxRecDepth 100000 in
theorem qw_358 : Cond.methodLink RX0 145 yX0_reelAt ∈ jm_WS := jm_in (List.mem_of_getElem? (i := 639) (by decide +kernel)) (by decide +kernel)
set_option maxRecDepth 100000 in
theorem qw_359 : Cond.instanceMethod yX0_reelAt ∈ jm_WS := jm_in (List.mem_of_getElem? (i := 641) (by decide +kernel)) (by decide +kernel)
set_option maxRecDepth 100000 in
theorem qw_360 : Cond.selects RX0 yX0_reelAt yX0_reelAt ∈ jm_WS := jm_in (List.mem_of_getElem? (i := 20) (by decide +kernel)) (by decide +kernel)
set_option maxRecDepth 100000 in
theorem qw_361 : jm_cd M_X0_runningOn ∈ jm_WS := jm_in (List.mem_of_getElem? (i := 638) (by decide +kernel)) (by decide +kernel)
set_option maxRecDepth 100000 in
theorem qw_362 : Cond.methodLink RX3 202 yX0_runningOn ∈ jm_WS := jm_in (List.mem_of_getElem? (i := 635) (by decide +kernel)) (by decide +kernel)
set_option maxRecDepth 100000 in
theorem qw_363 : Cond.instanceMethod yX0_runningOn ∈ jm_WS := jm_in (List.mem_of_getElem? (i := 636) (by decide +kernel)) (by decide +kernel)
set_option maxRecDepth 100000 in
theorem qw_364 : Cond.selects RX0 yX0_runningOn yX0_runningOn ∈ jm_WS := jm_in (List.mem_of_getElem? (i := 637) (by decide +kernel)) (by decide +kernel)
set_option maxRecDepth 100000 in
theorem qw_365 : jm_cd M_X0_reckonedMinutes ∈ jm_WS := jm_in (List.mem_of_getElem? (i := 654) (by decide +kernel)) (by decide +kernel)
set_option maxRecDepth 100000 in
theorem qw_366 : Cond.methodLink RX0 148 yX0_reckonedMinutes ∈ jm_WS := jm_in (List.mem_of_getElem? (i := 651) (by decide +kernel)) (by decide +kernel)
set_option maxRecDepth 100000 in
theorem qw_367 : Cond.instanceMethod yX0_reckonedMinutes ∈ jm_WS := jm_in (List.mem_of_getElem? (i := 653) (by decide +kernel)) (by decide +kernel)
set_option maxRecDepth 100000 in
theorem qw_368 : Cond.selects RX0 yX0_reckonedMinutes yX0_reckonedMinutes ∈ jm_WS := jm_in (List.mem_of_getElem? (i := 21) (by decide +kernel)) (by decide +kernel)
set_option maxRecDepth 100000 in
theorem qw_369 : jm_cd M_X0_countedMinutes ∈ jm_WS := jm_in (List.mem_of_getElem? (i := 658) (by decide +kernel)) (by decide +kernel)
set_option maxRecDepth 100000 in
theorem qw_370 : Cond.methodLink RX0 151 yX0_countedMinutes ∈ jm_WS := jm_in (List.mem_of_getElem? (i := 655) (by decide +kernel)) (by decide +kernel)
set_option maxRecDepth 100000 in
theorem qw_371 : Cond.instanceMethod yX0_countedMinutes ∈ jm_WS := jm_in (List.mem_of_getElem? (i := 657) (by decide +kernel)) (by decide +kernel)
set_option maxRecDepth 100000 in
theorem qw_372 : Cond.selects RX0 yX0_countedMinutes yX0_countedMinutes ∈ jm_WS := jm_in (List.mem_of_getElem? (i := 22) (by decide +kernel)) (by decide +kernel)
set_option maxRecDepth 100000 in
theorem qw_373 : jm_cd M_X0_lastEnd ∈ jm_WS := jm_in (List.mem_of_getElem? (i := 662) (by decide +kernel)) (by decide +kernel)
set_option maxRecDepth 100000 in
theorem qw_374 : Cond.methodLink RX0 154 yX0_lastEnd ∈ jm_WS := jm_in (List.mem_of_getElem? (i := 659) (by decide +kernel)) (by decide +kernel)
set_option maxRecDepth 100000 in
theorem qw_375 : Cond.instanceMethod yX0_lastEnd ∈ jm_WS := jm_in (List.mem_of_getElem? (i := 661) (by decide +kernel)) (by decide +kernel)
set_option maxRecDepth 100000 in
theorem qw_376 : Cond.selects RX0 yX0_lastEnd yX0_lastEnd ∈ jm_WS := jm_in (List.mem_of_getElem? (i := 23) (by decide +kernel)) (by decide +kernel)
set_option maxRecDepth 100000 in
theorem qw_377 : jm_cd M_X0_screenNumber ∈ jm_WS := jm_in (List.mem_of_getElem? (i := 650) (by decide +kernel)) (by decide +kernel)
set_option maxRecDepth 100000 in
theorem qw_378 : Cond.methodLink RX3 205 yX0_screenNumber ∈ jm_WS := jm_in (List.mem_of_getElem? (i := 647) (by decide +kernel)) (by decide +kernel)
set_option maxRecDepth 100000 in
theorem qw_379 : Cond.instanceMethod yX0_screenNumber ∈ jm_WS := jm_in (List.mem_of_getElem? (i := 648) (by decide +kernel)) (by decide +kernel)
set_option maxRecDepth 100000 in
theorem qw_380 : Cond.selects RX0 yX0_screenNumber yX0_screenNumber ∈ jm_WS := jm_in (List.mem_of_getElem? (i := 649) (by decide +kernel)) (by decide +kernel)
set_option maxRecDepth 100000 in
theorem qw_381 : jm_cd M_X0_fits ∈ jm_WS := jm_in (List.mem_of_getElem? (i := 441) (by decide +kernel)) (by decide +kernel)
set_option maxRecDepth 100000 in
theorem qw_382 : Cond.methodLink RX0 127 yX0_fits ∈ jm_WS := jm_in (List.mem_of_getElem? (i := 438) (by decide +kernel)) (by decide +kernel)
set_option maxRecDepth 100000 in
theorem qw_383 : Cond.instanceMethod yX0_fits ∈ jm_WS := jm_in (List.mem_of_getElem? (i := 440) (by decide +kernel)) (by decide +kernel)
set_option maxRecDepth 100000 in
theorem qw_384 : Cond.selects RX0 yX0_fits yX0_fits ∈ jm_WS := jm_in (List.mem_of_getElem? (i := 10) (by decide +kernel)) (by decide +kernel)
set_option maxRecDepth 100000 in
theorem qw_385 : jm_cd M_X0_greetedBy ∈ jm_WS := jm_in (List.mem_of_getElem? (i := 437) (by decide +kernel)) (by decide +kernel)
set_option maxRecDepth 100000 in
theorem qw_386 : Cond.methodLink RX0 130 yX0_greetedBy ∈ jm_WS := jm_in (List.mem_of_getElem? (i := 434) (by decide +kernel)) (by decide +kernel)
set_option maxRecDepth 100000 in
theorem qw_387 : Cond.instanceMethod yX0_greetedBy ∈ jm_WS := jm_in (List.mem_of_getElem? (i := 436) (by decide +kernel)) (by decide +kernel)
set_option maxRecDepth 100000 in
theorem qw_388 : Cond.selects RX0 yX0_greetedBy yX0_greetedBy ∈ jm_WS := jm_in (List.mem_of_getElem? (i := 9) (by decide +kernel)) (by decide +kernel)
set_option maxRecDepth 100000 in
theorem qw_389 : jm_cd M_X0_guestNumber ∈ jm_WS := jm_in (List.mem_of_getElem? (i := 672) (by decide +kernel)) (by decide +kernel)
set_option maxRecDepth 100000 in
theorem qw_390 : Cond.methodLink RX3 210 yX0_guestNumber ∈ jm_WS := jm_in (List.mem_of_getElem? (i := 669) (by decide +kernel)) (by decide +kernel)
set_option maxRecDepth 100000 in
theorem qw_391 : Cond.instanceMethod yX0_guestNumber ∈ jm_WS := jm_in (List.mem_of_getElem? (i := 670) (by decide +kernel)) (by decide +kernel)
set_option maxRecDepth 100000 in
theorem qw_392 : Cond.selects RX0 yX0_guestNumber yX0_guestNumber ∈ jm_WS := jm_in (List.mem_of_getElem? (i := 671) (by decide +kernel)) (by decide +kernel)
set_option maxRecDepth 100000 in
theorem qw_393 : jm_cd M_X0_seenMask ∈ jm_WS := jm_in (List.mem_of_getElem? (i := 684) (by decide +kernel)) (by decide +kernel)
set_option maxRecDepth 100000 in
theorem qw_394 : Cond.methodLink RX0 164 yX0_seenMask ∈ jm_WS := jm_in (List.mem_of_getElem? (i := 681) (by decide +kernel)) (by decide +kernel)
set_option maxRecDepth 100000 in
theorem qw_395 : Cond.instanceMethod yX0_seenMask ∈ jm_WS := jm_in (List.mem_of_getElem? (i := 683) (by decide +kernel)) (by decide +kernel)
set_option maxRecDepth 100000 in
theorem qw_396 : Cond.selects RX0 yX0_seenMask yX0_seenMask ∈ jm_WS := jm_in (List.mem_of_getElem? (i := 24) (by decide +kernel)) (by decide +kernel)
set_option maxRecDepth 100000 in
theorem qw_397 : jm_cd M_X0_pointsFrom ∈ jm_WS := jm_in (List.mem_of_getElem? (i := 688) (by decide +kernel)) (by decide +kernel)
set_option maxRecDepth 100000 in
theorem qw_398 : Cond.methodLink RX0 167 yX0_pointsFrom ∈ jm_WS := jm_in (List.mem_of_getElem? (i := 685) (by decide +kernel)) (by decide +kernel)
set_option maxRecDepth 100000 in
theorem qw_399 : Cond.instanceMethod yX0_pointsFrom ∈ jm_WS := jm_in (List.mem_of_getElem? (i := 687) (by decide +kernel)) (by decide +kernel)
set_option maxRecDepth 100000 in
theorem qw_400 : Cond.selects RX0 yX0_pointsFrom yX0_pointsFrom ∈ jm_WS := jm_in (List.mem_of_getElem? (i := 25) (by decide +kernel)) (by decide +kernel)
set_option maxRecDepth 100000 in
theorem qw_401 : jm_cd M_X0_jurorNumber ∈ jm_WS := jm_in (List.mem_of_getElem? (i := 680) (by decide +kernel)) (by decide +kernel)
set_option maxRecDepth 100000 in
theorem qw_402 : Cond.methodLink RX3 213 yX0_jurorNumber ∈ jm_WS := jm_in (List.mem_of_getElem? (i := 677) (by decide +kernel)) (by decide +kernel)
set_option maxRecDepth 100000 in
theorem qw_403 : Cond.instanceMethod yX0_jurorNumber ∈ jm_WS := jm_in (List.mem_of_getElem? (i := 678) (by decide +kernel)) (by decide +kernel)
set_option maxRecDepth 100000 in
theorem qw_404 : Cond.selects RX0 yX0_jurorNumber yX0_jurorNumber ∈ jm_WS := jm_in (List.mem_of_getElem? (i := 679) (by decide +kernel)) (by decide +kernel)
set_option maxRecDepth 100000 in
theorem qw_405 : jm_cd M_X0_greeters ∈ jm_WS := jm_in (List.mem_of_getElem? (i := 433) (by decide +kernel)) (by decide +kernel)
set_option maxRecDepth 100000 in
theorem qw_406 : Cond.methodLink RX3 268 yX0_greeters ∈ jm_WS := jm_in (List.mem_of_getElem? (i := 430) (by decide +kernel)) (by decide +kernel)
set_option maxRecDepth 100000 in
theorem qw_407 : Cond.instanceMethod yX0_greeters ∈ jm_WS := jm_in (List.mem_of_getElem? (i := 431) (by decide +kernel)) (by decide +kernel)
set_option maxRecDepth 100000 in
theorem qw_408 : Cond.selects RX0 yX0_greeters yX0_greeters ∈ jm_WS := jm_in (List.mem_of_getElem? (i := 432) (by decide +kernel)) (by decide +kernel)
set_option maxRecDepth 100000 in
theorem qw_409 : jm_cd M_X0_allSeats ∈ jm_WS := jm_in (List.mem_of_getElem? (i := 445) (by decide +kernel)) (by decide +kernel)
set_option maxRecDepth 100000 in
theorem qw_410 : Cond.methodLink RX3 271 yX0_allSeats ∈ jm_WS := jm_in (List.mem_of_getElem? (i := 442) (by decide +kernel)) (by decide +kernel)
set_option maxRecDepth 100000 in
theorem qw_411 : Cond.instanceMethod yX0_allSeats ∈ jm_WS := jm_in (List.mem_of_getElem? (i := 443) (by decide +kernel)) (by decide +kernel)
set_option maxRecDepth 100000 in
theorem qw_412 : Cond.selects RX0 yX0_allSeats yX0_allSeats ∈ jm_WS := jm_in (List.mem_of_getElem? (i := 444) (by decide +kernel)) (by decide +kernel)
set_option maxRecDepth 100000 in
theorem qw_413 : jm_cd M_X0_prize ∈ jm_WS := jm_in (List.mem_of_getElem? (i := 449) (by decide +kernel)) (by decide +kernel)
set_option maxRecDepth 100000 in
theorem qw_414 : Cond.methodLink RX3 277 yX0_prize ∈ jm_WS := jm_in (List.mem_of_getElem? (i := 446) (by decide +kernel)) (by decide +kernel)
set_option maxRecDepth 100000 in
theorem qw_415 : Cond.instanceMethod yX0_prize ∈ jm_WS := jm_in (List.mem_of_getElem? (i := 447) (by decide +kernel)) (by decide +kernel)
set_option maxRecDepth 100000 in
theorem qw_416 : Cond.selects RX0 yX0_prize yX0_prize ∈ jm_WS := jm_in (List.mem_of_getElem? (i := 448) (by decide +kernel)) (by decide +kernel)
set_option maxRecDepth 100000 in
theorem qw_417 : jm_cd M_X3_countNumber ∈ jm_WS := jm_in (List.mem_of_getElem? (i := 429) (by decide +kernel)) (by decide +kernel)
set_option maxRecDepth 100000 in
theorem qw_418 : Cond.methodLink RX3 216 yX3_countNumber ∈ jm_WS := jm_in (List.mem_of_getElem? (i := 426) (by decide +kernel)) (by decide +kernel)
set_option maxRecDepth 100000 in
theorem qw_419 : Cond.instanceMethod yX3_countNumber ∈ jm_WS := jm_in (List.mem_of_getElem? (i := 428) (by decide +kernel)) (by decide +kernel)
set_option maxRecDepth 100000 in
theorem qw_420 : Cond.selects RX3 yX3_countNumber yX3_countNumber ∈ jm_WS := jm_in (List.mem_of_getElem? (i := 8) (by decide +kernel)) (by decide +kernel)
set_option maxRecDepth 100000 in
theorem qw_421 : Cond.methodLink RX3 222 yX0_clashingReel ∈ jm_WS := jm_in (List.mem_of_getElem? (i := 693) (by decide +kernel)) (by decide +kernel)
set_option maxRecDepth 100000 in
theorem qw_422 : Cond.methodLink RX0 117 yX0_reelBegin ∈ jm_WS := jm_in (List.mem_of_getElem? (i := 702) (by decide +kernel)) (by decide +kernel)
set_option maxRecDepth 100000 in
theorem qw_423 : jm_cd M_X0_nextFrom ∈ jm_WS := jm_in (List.mem_of_getElem? (i := 701) (by decide +kernel)) (by decide +kernel)
set_option maxRecDepth 100000 in
theorem qw_424 : Cond.methodLink RX3 225 yX0_nextFrom ∈ jm_WS := jm_in (List.mem_of_getElem? (i := 698) (by decide +kernel)) (by decide +kernel)
set_option maxRecDepth 100000 in
theorem qw_425 : Cond.instanceMethod yX0_nextFrom ∈ jm_WS := jm_in (List.mem_of_getElem? (i := 699) (by decide +kernel)) (by decide +kernel)
set_option maxRecDepth 100000 in
theorem qw_426 : Cond.selects RX0 yX0_nextFrom yX0_nextFrom ∈ jm_WS := jm_in (List.mem_of_getElem? (i := 700) (by decide +kernel)) (by decide +kernel)
set_option maxRecDepth 100000 in
theorem qw_427 : Cond.methodLink RX0 120 yX0_nextFrom ∈ jm_WS := jm_in (List.mem_of_getElem? (i := 711) (by decide +kernel)) (by decide +kernel)
set_option maxRecDepth 100000 in
theorem qw_428 : jm_cd M_X0_bestFrom ∈ jm_WS := jm_in (List.mem_of_getElem? (i := 710) (by decide +kernel)) (by decide +kernel)
set_option maxRecDepth 100000 in
theorem qw_429 : Cond.methodLink RX3 228 yX0_bestFrom ∈ jm_WS := jm_in (List.mem_of_getElem? (i := 707) (by decide +kernel)) (by decide +kernel)
set_option maxRecDepth 100000 in
theorem qw_430 : Cond.instanceMethod yX0_bestFrom ∈ jm_WS := jm_in (List.mem_of_getElem? (i := 708) (by decide +kernel)) (by decide +kernel)
set_option maxRecDepth 100000 in
theorem qw_431 : Cond.selects RX0 yX0_bestFrom yX0_bestFrom ∈ jm_WS := jm_in (List.mem_of_getElem? (i := 709) (by decide +kernel)) (by decide +kernel)
set_option maxRecDepth 100000 in
theorem qw_432 : Cond.methodLink RX0 124 yX0_refusal ∈ jm_WS := jm_in (List.mem_of_getElem? (i := 720) (by decide +kernel)) (by decide +kernel)
set_option maxRecDepth 100000 in
theorem qw_433 : jm_cd M_X0_moreGreeters ∈ jm_WS := jm_in (List.mem_of_getElem? (i := 719) (by decide +kernel)) (by decide +kernel)
set_option maxRecDepth 100000 in
theorem qw_434 : Cond.methodLink RX3 231 yX0_moreGreeters ∈ jm_WS := jm_in (List.mem_of_getElem? (i := 716) (by decide +kernel)) (by decide +kernel)
set_option maxRecDepth 100000 in
theorem qw_435 : Cond.instanceMethod yX0_moreGreeters ∈ jm_WS := jm_in (List.mem_of_getElem? (i := 717) (by decide +kernel)) (by decide +kernel)
set_option maxRecDepth 100000 in
theorem qw_436 : Cond.selects RX0 yX0_moreGreeters yX0_moreGreeters ∈ jm_WS := jm_in (List.mem_of_getElem? (i := 718) (by decide +kernel)) (by decide +kernel)
set_option maxRecDepth 100000 in
theorem qw_437 : jm_cd M_X0_share ∈ jm_WS := jm_in (List.mem_of_getElem? (i := 728) (by decide +kernel)) (by decide +kernel)
set_option maxRecDepth 100000 in
theorem qw_438 : Cond.methodLink RX3 234 yX0_share ∈ jm_WS := jm_in (List.mem_of_getElem? (i := 725) (by decide +kernel)) (by decide +kernel)
set_option maxRecDepth 100000 in
theorem qw_439 : Cond.instanceMethod yX0_share ∈ jm_WS := jm_in (List.mem_of_getElem? (i := 726) (by decide +kernel)) (by decide +kernel)
set_option maxRecDepth 100000 in
theorem qw_440 : Cond.selects RX0 yX0_share yX0_share ∈ jm_WS := jm_in (List.mem_of_getElem? (i := 727) (by decide +kernel)) (by decide +kernel)
set_option maxRecDepth 100000 in
theorem qw_441 : jm_cd M_X3_use ∈ jm_WS := jm_in (List.mem_of_getElem? (i := 724) (by decide +kernel)) (by decide +kernel)
set_option maxRecDepth 100000 in
theorem qw_442 : Cond.methodLink RL 97 yX3_use ∈ jm_WS := jm_in (List.mem_of_getElem? (i := 721) (by decide +kernel)) (by decide +kernel)
set_option maxRecDepth 100000 in
theorem qw_443 : Cond.instanceMethod yX3_use ∈ jm_WS := jm_in (List.mem_of_getElem? (i := 722) (by decide +kernel)) (by decide +kernel)
set_option maxRecDepth 100000 in
theorem qw_444 : Cond.selects RX3 yX3_use yX3_use ∈ jm_WS := jm_in (List.mem_of_getElem? (i := 723) (by decide +kernel)) (by decide +kernel)
set_option maxRecDepth 100000 in
theorem qw_445 : jm_cd M_X3_ifShown ∈ jm_WS := jm_in (List.mem_of_getElem? (i := 715) (by decide +kernel)) (by decide +kernel)
set_option maxRecDepth 100000 in
theorem qw_446 : Cond.methodLink RL 94 yX3_ifShown ∈ jm_WS := jm_in (List.mem_of_getElem? (i := 712) (by decide +kernel)) (by decide +kernel)
set_option maxRecDepth 100000 in
theorem qw_447 : Cond.instanceMethod yX3_ifShown ∈ jm_WS := jm_in (List.mem_of_getElem? (i := 713) (by decide +kernel)) (by decide +kernel)
set_option maxRecDepth 100000 in
theorem qw_448 : Cond.selects RX3 yX3_ifShown yX3_ifShown ∈ jm_WS := jm_in (List.mem_of_getElem? (i := 714) (by decide +kernel)) (by decide +kernel)
set_option maxRecDepth 100000 in
theorem qw_449 : jm_cd M_X3_bestScreen ∈ jm_WS := jm_in (List.mem_of_getElem? (i := 706) (by decide +kernel)) (by decide +kernel)
set_option maxRecDepth 100000 in
theorem qw_450 : Cond.methodLink RL 91 yX3_bestScreen ∈ jm_WS := jm_in (List.mem_of_getElem? (i := 703) (by decide +kernel)) (by decide +kernel)
set_option maxRecDepth 100000 in
theorem qw_451 : Cond.instanceMethod yX3_bestScreen ∈ jm_WS := jm_in (List.mem_of_getElem? (i := 704) (by decide +kernel)) (by decide +kernel)
set_option maxRecDepth 100000 in
theorem qw_452 : Cond.selects RX3 yX3_bestScreen yX3_bestScreen ∈ jm_WS := jm_in (List.mem_of_getElem? (i := 705) (by decide +kernel)) (by decide +kernel)
set_option maxRecDepth 100000 in
theorem qw_453 : jm_cd M_X3_nextStart ∈ jm_WS := jm_in (List.mem_of_getElem? (i := 697) (by decide +kernel)) (by decide +kernel)
set_option maxRecDepth 100000 in
theorem qw_454 : Cond.methodLink RL 88 yX3_nextStart ∈ jm_WS := jm_in (List.mem_of_getElem? (i := 694) (by decide +kernel)) (by decide +kernel)
set_option maxRecDepth 100000 in
theorem qw_455 : Cond.instanceMethod yX3_nextStart ∈ jm_WS := jm_in (List.mem_of_getElem? (i := 695) (by decide +kernel)) (by decide +kernel)
set_option maxRecDepth 100000 in
theorem qw_456 : Cond.selects RX3 yX3_nextStart yX3_nextStart ∈ jm_WS := jm_in (List.mem_of_getElem? (i := 696) (by decide +kernel)) (by decide +kernel)
set_option maxRecDepth 100000 in
theorem qw_457 : jm_cd M_X3_whyNot ∈ jm_WS := jm_in (List.mem_of_getElem? (i := 692) (by decide +kernel)) (by decide +kernel)
set_option maxRecDepth 100000 in
theorem qw_458 : Cond.methodLink RL 84 yX3_whyNot ∈ jm_WS := jm_in (List.mem_of_getElem? (i := 689) (by decide +kernel)) (by decide +kernel)
set_option maxRecDepth 100000 in
theorem qw_459 : Cond.instanceMethod yX3_whyNot ∈ jm_WS := jm_in (List.mem_of_getElem? (i := 690) (by decide +kernel)) (by decide +kernel)
set_option maxRecDepth 100000 in
theorem qw_460 : Cond.selects RX3 yX3_whyNot yX3_whyNot ∈ jm_WS := jm_in (List.mem_of_getElem? (i := 691) (by decide +kernel)) (by decide +kernel)
set_option maxRecDepth 100000 in
theorem qw_461 : jm_cd M_X3_count ∈ jm_WS := jm_in (List.mem_of_getElem? (i := 422) (by decide +kernel)) (by decide +kernel)
set_option maxRecDepth 100000 in
theorem qw_462 : Cond.methodLink RL 81 yX3_count ∈ jm_WS := jm_in (List.mem_of_getElem? (i := 419) (by decide +kernel)) (by decide +kernel)
set_option maxRecDepth 100000 in
theorem qw_463 : Cond.instanceMethod yX3_count ∈ jm_WS := jm_in (List.mem_of_getElem? (i := 420) (by decide +kernel)) (by decide +kernel)
set_option maxRecDepth 100000 in
theorem qw_464 : Cond.selects RX3 yX3_count yX3_count ∈ jm_WS := jm_in (List.mem_of_getElem? (i := 421) (by decide +kernel)) (by decide +kernel)
set_option maxRecDepth 100000 in
theorem qw_465 : jm_cd M_X3_juror ∈ jm_WS := jm_in (List.mem_of_getElem? (i := 676) (by decide +kernel)) (by decide +kernel)
set_option maxRecDepth 100000 in
theorem qw_466 : Cond.methodLink RL 78 yX3_juror ∈ jm_WS := jm_in (List.mem_of_getElem? (i := 673) (by decide +kernel)) (by decide +kernel)
set_option maxRecDepth 100000 in
theorem qw_467 : Cond.instanceMethod yX3_juror ∈ jm_WS := jm_in (List.mem_of_getElem? (i := 674) (by decide +kernel)) (by decide +kernel)
set_option maxRecDepth 100000 in
theorem qw_468 : Cond.selects RX3 yX3_juror yX3_juror ∈ jm_WS := jm_in (List.mem_of_getElem? (i := 675) (by decide +kernel)) (by decide +kernel)
set_option maxRecDepth 100000 in
theorem qw_469 : jm_cd M_X3_guestOf ∈ jm_WS := jm_in (List.mem_of_getElem? (i := 667) (by decide +kernel)) (by decide +kernel)
set_option maxRecDepth 100000 in
theorem qw_470 : Cond.methodLink RL 75 yX3_guestOf ∈ jm_WS := jm_in (List.mem_of_getElem? (i := 664) (by decide +kernel)) (by decide +kernel)
set_option maxRecDepth 100000 in
theorem qw_471 : Cond.instanceMethod yX3_guestOf ∈ jm_WS := jm_in (List.mem_of_getElem? (i := 665) (by decide +kernel)) (by decide +kernel)
set_option maxRecDepth 100000 in
theorem qw_472 : Cond.selects RX3 yX3_guestOf yX3_guestOf ∈ jm_WS := jm_in (List.mem_of_getElem? (i := 666) (by decide +kernel)) (by decide +kernel)
set_option maxRecDepth 100000 in
theorem qw_473 : jm_cd M_X3_screen ∈ jm_WS := jm_in (List.mem_of_getElem? (i := 646) (by decide +kernel)) (by decide +kernel)
set_option maxRecDepth 100000 in
theorem qw_474 : Cond.methodLink RL 72 yX3_screen ∈ jm_WS := jm_in (List.mem_of_getElem? (i := 643) (by decide +kernel)) (by decide +kernel)
set_option maxRecDepth 100000 in
theorem qw_475 : Cond.instanceMethod yX3_screen ∈ jm_WS := jm_in (List.mem_of_getElem? (i := 644) (by decide +kernel)) (by decide +kernel)
set_option maxRecDepth 100000 in
theorem qw_476 : Cond.selects RX3 yX3_screen yX3_screen ∈ jm_WS := jm_in (List.mem_of_getElem? (i := 645) (by decide +kernel)) (by decide +kernel)
set_option maxRecDepth 100000 in
theorem qw_477 : jm_cd M_X3_runs ∈ jm_WS := jm_in (List.mem_of_getElem? (i := 634) (by decide +kernel)) (by decide +kernel)
set_option maxRecDepth 100000 in
theorem qw_478 : Cond.methodLink RL 69 yX3_runs ∈ jm_WS := jm_in (List.mem_of_getElem? (i := 631) (by decide +kernel)) (by decide +kernel)
set_option maxRecDepth 100000 in
theorem qw_479 : Cond.instanceMethod yX3_runs ∈ jm_WS := jm_in (List.mem_of_getElem? (i := 632) (by decide +kernel)) (by decide +kernel)
set_option maxRecDepth 100000 in
theorem qw_480 : Cond.selects RX3 yX3_runs yX3_runs ∈ jm_WS := jm_in (List.mem_of_getElem? (i := 633) (by decide +kernel)) (by decide +kernel)
set_option maxRecDepth 100000 in
theorem qw_481 : jm_cd M_X3_reel ∈ jm_WS := jm_in (List.mem_of_getElem? (i := 626) (by decide +kernel)) (by decide +kernel)
set_option maxRecDepth 100000 in
theorem qw_482 : Cond.methodLink RL 66 yX3_reel ∈ jm_WS := jm_in (List.mem_of_getElem? (i := 623) (by decide +kernel)) (by decide +kernel)
set_option maxRecDepth 100000 in
theorem qw_483 : Cond.instanceMethod yX3_reel ∈ jm_WS := jm_in (List.mem_of_getElem? (i := 624) (by decide +kernel)) (by decide +kernel)
set_option maxRecDepth 100000 in
theorem qw_484 : Cond.selects RX3 yX3_reel yX3_reel ∈ jm_WS := jm_in (List.mem_of_getElem? (i := 625) (by decide +kernel)) (by decide +kernel)
set_option maxRecDepth 100000 in
theorem qw_485 : jm_cd M_X3_showing ∈ jm_WS := jm_in (List.mem_of_getElem? (i := 618) (by decide +kernel)) (by decide +kernel)
set_option maxRecDepth 100000 in
theorem qw_486 : Cond.methodLink RL 63 yX3_showing ∈ jm_WS := jm_in (List.mem_of_getElem? (i := 615) (by decide +kernel)) (by decide +kernel)
set_option maxRecDepth 100000 in
theorem qw_487 : Cond.instanceMethod yX3_showing ∈ jm_WS := jm_in (List.mem_of_getElem? (i := 616) (by decide +kernel)) (by decide +kernel)
set_option maxRecDepth 100000 in
theorem qw_488 : Cond.selects RX3 yX3_showing yX3_showing ∈ jm_WS := jm_in (List.mem_of_getElem? (i := 617) (by decide +kernel)) (by decide +kernel)
set_option maxRecDepth 100000 in
theorem qw_489 : jm_cd M_X3_filmOf ∈ jm_WS := jm_in (List.mem_of_getElem? (i := 602) (by decide +kernel)) (by decide +kernel)
set_option maxRecDepth 100000 in
theorem qw_490 : Cond.methodLink RL 60 yX3_filmOf ∈ jm_WS := jm_in (List.mem_of_getElem? (i := 599) (by decide +kernel)) (by decide +kernel)
set_option maxRecDepth 100000 in
theorem qw_491 : Cond.instanceMethod yX3_filmOf ∈ jm_WS := jm_in (List.mem_of_getElem? (i := 600) (by decide +kernel)) (by decide +kernel)
set_option maxRecDepth 100000 in
theorem qw_492 : Cond.selects RX3 yX3_filmOf yX3_filmOf ∈ jm_WS := jm_in (List.mem_of_getElem? (i := 601) (by decide +kernel)) (by decide +kernel)
set_option maxRecDepth 100000 in
theorem qw_493 : jm_cd M_X3_restore ∈ jm_WS := jm_in (List.mem_of_getElem? (i := 417) (by decide +kernel)) (by decide +kernel)
set_option maxRecDepth 100000 in
theorem qw_494 : Cond.methodLink RL 57 yX3_restore ∈ jm_WS := jm_in (List.mem_of_getElem? (i := 414) (by decide +kernel)) (by decide +kernel)
set_option maxRecDepth 100000 in
theorem qw_495 : Cond.instanceMethod yX3_restore ∈ jm_WS := jm_in (List.mem_of_getElem? (i := 415) (by decide +kernel)) (by decide +kernel)
set_option maxRecDepth 100000 in
theorem qw_496 : Cond.selects RX3 yX3_restore yX3_restore ∈ jm_WS := jm_in (List.mem_of_getElem? (i := 416) (by decide +kernel)) (by decide +kernel)
set_option maxRecDepth 100000 in
theorem qw_497 : jm_cd M_X3_undo ∈ jm_WS := jm_in (List.mem_of_getElem? (i := 408) (by decide +kernel)) (by decide +kernel)
set_option maxRecDepth 100000 in
theorem qw_498 : Cond.methodLink RL 54 yX3_undo ∈ jm_WS := jm_in (List.mem_of_getElem? (i := 405) (by decide +kernel)) (by decide +kernel)
set_option maxRecDepth 100000 in
theorem qw_499 : Cond.instanceMethod yX3_undo ∈ jm_WS := jm_in (List.mem_of_getElem? (i := 406) (by decide +kernel)) (by decide +kernel)
set_option maxRecDepth 100000 in
theorem qw_500 : Cond.selects RX3 yX3_undo yX3_undo ∈ jm_WS := jm_in (List.mem_of_getElem? (i := 407) (by decide +kernel)) (by decide +kernel)
set_option maxRecDepth 100000 in
theorem qw_501 : jm_cd M_X3_stopped ∈ jm_WS := jm_in (List.mem_of_getElem? (i := 594) (by decide +kernel)) (by decide +kernel)
set_option maxRecDepth 100000 in
theorem qw_502 : Cond.methodLink RL 51 yX3_stopped ∈ jm_WS := jm_in (List.mem_of_getElem? (i := 591) (by decide +kernel)) (by decide +kernel)
set_option maxRecDepth 100000 in
theorem qw_503 : Cond.instanceMethod yX3_stopped ∈ jm_WS := jm_in (List.mem_of_getElem? (i := 592) (by decide +kernel)) (by decide +kernel)
set_option maxRecDepth 100000 in
theorem qw_504 : Cond.selects RX3 yX3_stopped yX3_stopped ∈ jm_WS := jm_in (List.mem_of_getElem? (i := 593) (by decide +kernel)) (by decide +kernel)
set_option maxRecDepth 100000 in
theorem qw_505 : jm_cd M_X3_program ∈ jm_WS := jm_in (List.mem_of_getElem? (i := 541) (by decide +kernel)) (by decide +kernel)
set_option maxRecDepth 100000 in
theorem qw_506 : Cond.methodLink RL 47 yX3_program ∈ jm_WS := jm_in (List.mem_of_getElem? (i := 538) (by decide +kernel)) (by decide +kernel)
set_option maxRecDepth 100000 in
theorem qw_507 : Cond.instanceMethod yX3_program ∈ jm_WS := jm_in (List.mem_of_getElem? (i := 539) (by decide +kernel)) (by decide +kernel)
set_option maxRecDepth 100000 in
theorem qw_508 : Cond.selects RX3 yX3_program yX3_program ∈ jm_WS := jm_in (List.mem_of_getElem? (i := 540) (by decide +kernel)) (by decide +kernel)
set_option maxRecDepth 100000 in
theorem qw_509 : jm_cd M_X3_append ∈ jm_WS := jm_in (List.mem_of_getElem? (i := 536) (by decide +kernel)) (by decide +kernel)
set_option maxRecDepth 100000 in
theorem qw_510 : Cond.methodLink RL 44 yX3_append ∈ jm_WS := jm_in (List.mem_of_getElem? (i := 533) (by decide +kernel)) (by decide +kernel)
set_option maxRecDepth 100000 in
theorem qw_511 : Cond.instanceMethod yX3_append ∈ jm_WS := jm_in (List.mem_of_getElem? (i := 534) (by decide +kernel)) (by decide +kernel)
set_option maxRecDepth 100000 in
theorem qw_512 : Cond.selects RX3 yX3_append yX3_append ∈ jm_WS := jm_in (List.mem_of_getElem? (i := 535) (by decide +kernel)) (by decide +kernel)
set_option maxRecDepth 100000 in
theorem qw_513 : jm_cd M_X3_vote ∈ jm_WS := jm_in (List.mem_of_getElem? (i := 529) (by decide +kernel)) (by decide +kernel)
set_option maxRecDepth 100000 in
theorem qw_514 : Cond.methodLink RL 41 yX3_vote ∈ jm_WS := jm_in (List.mem_of_getElem? (i := 526) (by decide +kernel)) (by decide +kernel)
set_option maxRecDepth 100000 in
theorem qw_515 : Cond.instanceMethod yX3_vote ∈ jm_WS := jm_in (List.mem_of_getElem? (i := 527) (by decide +kernel)) (by decide +kernel)
set_option maxRecDepth 100000 in
theorem qw_516 : Cond.selects RX3 yX3_vote yX3_vote ∈ jm_WS := jm_in (List.mem_of_getElem? (i := 528) (by decide +kernel)) (by decide +kernel)
set_option maxRecDepth 100000 in
theorem qw_517 : jm_cd M_X3_attend ∈ jm_WS := jm_in (List.mem_of_getElem? (i := 374) (by decide +kernel)) (by decide +kernel)
set_option maxRecDepth 100000 in
theorem qw_518 : Cond.methodLink RL 38 yX3_attend ∈ jm_WS := jm_in (List.mem_of_getElem? (i := 371) (by decide +kernel)) (by decide +kernel)
set_option maxRecDepth 100000 in
theorem qw_519 : Cond.instanceMethod yX3_attend ∈ jm_WS := jm_in (List.mem_of_getElem? (i := 372) (by decide +kernel)) (by decide +kernel)
set_option maxRecDepth 100000 in
theorem qw_520 : Cond.selects RX3 yX3_attend yX3_attend ∈ jm_WS := jm_in (List.mem_of_getElem? (i := 373) (by decide +kernel)) (by decide +kernel)
set_option maxRecDepth 100000 in
theorem qw_521 : jm_cd M_X3_guest ∈ jm_WS := jm_in (List.mem_of_getElem? (i := 520) (by decide +kernel)) (by decide +kernel)
set_option maxRecDepth 100000 in
theorem qw_522 : Cond.methodLink RL 34 yX3_guest ∈ jm_WS := jm_in (List.mem_of_getElem? (i := 517) (by decide +kernel)) (by decide +kernel)
set_option maxRecDepth 100000 in
theorem qw_523 : Cond.instanceMethod yX3_guest ∈ jm_WS := jm_in (List.mem_of_getElem? (i := 518) (by decide +kernel)) (by decide +kernel)
set_option maxRecDepth 100000 in
theorem qw_524 : Cond.selects RX3 yX3_guest yX3_guest ∈ jm_WS := jm_in (List.mem_of_getElem? (i := 519) (by decide +kernel)) (by decide +kernel)
set_option maxRecDepth 100000 in
theorem qw_525 : jm_cd M_X3_move ∈ jm_WS := jm_in (List.mem_of_getElem? (i := 510) (by decide +kernel)) (by decide +kernel)
set_option maxRecDepth 100000 in
theorem qw_526 : Cond.methodLink RL 31 yX3_move ∈ jm_WS := jm_in (List.mem_of_getElem? (i := 507) (by decide +kernel)) (by decide +kernel)
set_option maxRecDepth 100000 in
theorem qw_527 : Cond.instanceMethod yX3_move ∈ jm_WS := jm_in (List.mem_of_getElem? (i := 508) (by decide +kernel)) (by decide +kernel)
set_option maxRecDepth 100000 in
theorem qw_528 : Cond.selects RX3 yX3_move yX3_move ∈ jm_WS := jm_in (List.mem_of_getElem? (i := 509) (by decide +kernel)) (by decide +kernel)
set_option maxRecDepth 100000 in
theorem qw_529 : jm_cd M_X3_callOff ∈ jm_WS := jm_in (List.mem_of_getElem? (i := 498) (by decide +kernel)) (by decide +kernel)
set_option maxRecDepth 100000 in
theorem qw_530 : Cond.methodLink RL 27 yX3_callOff ∈ jm_WS := jm_in (List.mem_of_getElem? (i := 495) (by decide +kernel)) (by decide +kernel)
set_option maxRecDepth 100000 in
theorem qw_531 : Cond.instanceMethod yX3_callOff ∈ jm_WS := jm_in (List.mem_of_getElem? (i := 496) (by decide +kernel)) (by decide +kernel)
set_option maxRecDepth 100000 in
theorem qw_532 : Cond.selects RX3 yX3_callOff yX3_callOff ∈ jm_WS := jm_in (List.mem_of_getElem? (i := 497) (by decide +kernel)) (by decide +kernel)
set_option maxRecDepth 100000 in
theorem qw_533 : jm_cd M_X3_show ∈ jm_WS := jm_in (List.mem_of_getElem? (i := 297) (by decide +kernel)) (by decide +kernel)
set_option maxRecDepth 100000 in
theorem qw_534 : Cond.methodLink RL 23 yX3_show ∈ jm_WS := jm_in (List.mem_of_getElem? (i := 294) (by decide +kernel)) (by decide +kernel)
set_option maxRecDepth 100000 in
theorem qw_535 : Cond.instanceMethod yX3_show ∈ jm_WS := jm_in (List.mem_of_getElem? (i := 295) (by decide +kernel)) (by decide +kernel)
set_option maxRecDepth 100000 in
theorem qw_536 : Cond.selects RX3 yX3_show yX3_show ∈ jm_WS := jm_in (List.mem_of_getElem? (i := 296) (by decide +kernel)) (by decide +kernel)
set_option maxRecDepth 100000 in
theorem qw_537 : jm_cd M_X3_set ∈ jm_WS := jm_in (List.mem_of_getElem? (i := 493) (by decide +kernel)) (by decide +kernel)
set_option maxRecDepth 100000 in
theorem qw_538 : Cond.methodLink RL 20 yX3_set ∈ jm_WS := jm_in (List.mem_of_getElem? (i := 490) (by decide +kernel)) (by decide +kernel)
set_option maxRecDepth 100000 in
theorem qw_539 : Cond.instanceMethod yX3_set ∈ jm_WS := jm_in (List.mem_of_getElem? (i := 491) (by decide +kernel)) (by decide +kernel)
set_option maxRecDepth 100000 in
theorem qw_540 : Cond.selects RX3 yX3_set yX3_set ∈ jm_WS := jm_in (List.mem_of_getElem? (i := 492) (by decide +kernel)) (by decide +kernel)
set_option maxRecDepth 100000 in
theorem qw_541 : jm_cd M_X3_seats ∈ jm_WS := jm_in (List.mem_of_getElem? (i := 483) (by decide +kernel)) (by decide +kernel)
set_option maxRecDepth 100000 in
theorem qw_542 : Cond.methodLink RL 17 yX3_seats ∈ jm_WS := jm_in (List.mem_of_getElem? (i := 480) (by decide +kernel)) (by decide +kernel)
set_option maxRecDepth 100000 in
theorem qw_543 : Cond.instanceMethod yX3_seats ∈ jm_WS := jm_in (List.mem_of_getElem? (i := 481) (by decide +kernel)) (by decide +kernel)
set_option maxRecDepth 100000 in
theorem qw_544 : Cond.selects RX3 yX3_seats yX3_seats ∈ jm_WS := jm_in (List.mem_of_getElem? (i := 482) (by decide +kernel)) (by decide +kernel)
set_option maxRecDepth 100000 in
theorem qw_545 : jm_cd M_X3_film ∈ jm_WS := jm_in (List.mem_of_getElem? (i := 177) (by decide +kernel)) (by decide +kernel)
set_option maxRecDepth 100000 in
theorem qw_546 : Cond.methodLink RL 11 yX3_film ∈ jm_WS := jm_in (List.mem_of_getElem? (i := 174) (by decide +kernel)) (by decide +kernel)
set_option maxRecDepth 100000 in
theorem qw_547 : Cond.instanceMethod yX3_film ∈ jm_WS := jm_in (List.mem_of_getElem? (i := 175) (by decide +kernel)) (by decide +kernel)
set_option maxRecDepth 100000 in
theorem qw_548 : Cond.selects RX3 yX3_film yX3_film ∈ jm_WS := jm_in (List.mem_of_getElem? (i := 176) (by decide +kernel)) (by decide +kernel)
set_option maxRecDepth 100000 in
theorem qw_549 : jm_cd M_L_far ∈ jm_WS := jm_in (List.mem_of_getElem? (i := 744) (by decide +kernel)) (by decide +kernel)
set_option maxRecDepth 100000 in
theorem qw_550 : Cond.methodLink RL 114 yL_far ∈ jm_WS := jm_in (List.mem_of_getElem? (i := 742) (by decide +kernel)) (by decide +kernel)
set_option maxRecDepth 100000 in
theorem qw_551 : Cond.static yL_far ∈ jm_WS := jm_in (List.mem_of_getElem? (i := 743) (by decide +kernel)) (by decide +kernel)
set_option maxRecDepth 100000 in
theorem qw_552 : Cond.initialized RL ∈ jm_WS := jm_in (List.mem_of_getElem? (i := 26) (by decide +kernel)) (by decide +kernel)
set_option maxRecDepth 100000 in
theorem qw_553 : jm_cd M_L_call ∈ jm_WS := jm_in (List.mem_of_getElem? (i := 475) (by decide +kernel)) (by decide +kernel)
set_option maxRecDepth 100000 in
theorem qw_554 : Cond.methodLink RL 119 yL_call ∈ jm_WS := jm_in (List.mem_of_getElem? (i := 473) (by decide +kernel)) (by decide +kernel)
set_option maxRecDepth 100000 in
theorem qw_555 : Cond.static yL_call ∈ jm_WS := jm_in (List.mem_of_getElem? (i := 474) (by decide +kernel)) (by decide +kernel)
set_option maxRecDepth 100000 in
theorem qw_556 : jm_cd M_L_seen ∈ jm_WS := jm_in (List.mem_of_getElem? (i := 732) (by decide +kernel)) (by decide +kernel)
set_option maxRecDepth 100000 in
theorem qw_557 : Cond.methodLink RL 131 yL_seen ∈ jm_WS := jm_in (List.mem_of_getElem? (i := 730) (by decide +kernel)) (by decide +kernel)
set_option maxRecDepth 100000 in
theorem qw_558 : Cond.static yL_seen ∈ jm_WS := jm_in (List.mem_of_getElem? (i := 731) (by decide +kernel)) (by decide +kernel)
set_option maxRecDepth 100000 in
theorem qw_559 : jm_cd M_L_refusesFilms ∈ jm_WS := jm_in (List.mem_of_getElem? (i := 741) (by decide +kernel)) (by decide +kernel)
set_option maxRecDepth 100000 in
theorem qw_560 : Cond.methodLink RL 135 yL_refusesFilms ∈ jm_WS := jm_in (List.mem_of_getElem? (i := 739) (by decide +kernel)) (by decide +kernel)
set_option maxRecDepth 100000 in
theorem qw_561 : Cond.static yL_refusesFilms ∈ jm_WS := jm_in (List.mem_of_getElem? (i := 740) (by decide +kernel)) (by decide +kernel)
set_option maxRecDepth 100000 in
theorem qw_562 : jm_cd M_L_refusesShown ∈ jm_WS := jm_in (List.mem_of_getElem? (i := 752) (by decide +kernel)) (by decide +kernel)
set_option maxRecDepth 100000 in
theorem qw_563 : Cond.methodLink RL 139 yL_refusesShown ∈ jm_WS := jm_in (List.mem_of_getElem? (i := 750) (by decide +kernel)) (by decide +kernel)
set_option maxRecDepth 100000 in
theorem qw_564 : Cond.static yL_refusesShown ∈ jm_WS := jm_in (List.mem_of_getElem? (i := 751) (by decide +kernel)) (by decide +kernel)
set_option maxRecDepth 100000 in
theorem qw_565 : jm_cd M_X3_init ∈ jm_WS := jm_in (List.mem_of_getElem? (i := 44) (by decide +kernel)) (by decide +kernel)
set_option maxRecDepth 100000 in
theorem qw_566 : Cond.methodLink RL 142 yX3_init ∈ jm_WS := jm_in (List.mem_of_getElem? (i := 42) (by decide +kernel)) (by decide +kernel)
set_option maxRecDepth 100000 in
theorem qw_567 : Cond.instanceMethod yX3_init ∈ jm_WS := jm_in (List.mem_of_getElem? (i := 43) (by decide +kernel)) (by decide +kernel)
set_option maxRecDepth 100000 in
theorem qw_568 : jm_cd M_L_refused ∈ jm_WS := jm_in (List.mem_of_getElem? (i := 738) (by decide +kernel)) (by decide +kernel)
set_option maxRecDepth 100000 in
theorem qw_569 : Cond.methodLink RL 143 yL_refused ∈ jm_WS := jm_in (List.mem_of_getElem? (i := 736) (by decide +kernel)) (by decide +kernel)
set_option maxRecDepth 100000 in
theorem qw_570 : Cond.static yL_refused ∈ jm_WS := jm_in (List.mem_of_getElem? (i := 737) (by decide +kernel)) (by decide +kernel)
set_option maxRecDepth 100000 in
theorem qw_571 : jm_cd M_X3_keep ∈ jm_WS := jm_in (List.mem_of_getElem? (i := 413) (by decide +kernel)) (by decide +kernel)
set_option maxRecDepth 100000 in
theorem qw_572 : Cond.methodLink RL 147 yX3_keep ∈ jm_WS := jm_in (List.mem_of_getElem? (i := 410) (by decide +kernel)) (by decide +kernel)
set_option maxRecDepth 100000 in
theorem qw_573 : Cond.instanceMethod yX3_keep ∈ jm_WS := jm_in (List.mem_of_getElem? (i := 411) (by decide +kernel)) (by decide +kernel)
set_option maxRecDepth 100000 in
theorem qw_574 : Cond.selects RX3 yX3_keep yX3_keep ∈ jm_WS := jm_in (List.mem_of_getElem? (i := 412) (by decide +kernel)) (by decide +kernel)
set_option maxRecDepth 100000 in
theorem qw_575 : jm_cd M_X3_clearBuffer ∈ jm_WS := jm_in (List.mem_of_getElem? (i := 769) (by decide +kernel)) (by decide +kernel)
set_option maxRecDepth 100000 in
theorem qw_576 : Cond.methodLink RL 152 yX3_clearBuffer ∈ jm_WS := jm_in (List.mem_of_getElem? (i := 766) (by decide +kernel)) (by decide +kernel)
set_option maxRecDepth 100000 in
theorem qw_577 : Cond.instanceMethod yX3_clearBuffer ∈ jm_WS := jm_in (List.mem_of_getElem? (i := 767) (by decide +kernel)) (by decide +kernel)
set_option maxRecDepth 100000 in
theorem qw_578 : Cond.selects RX3 yX3_clearBuffer yX3_clearBuffer ∈ jm_WS := jm_in (List.mem_of_getElem? (i := 768) (by decide +kernel)) (by decide +kernel)
set_option maxRecDepth 100000 in
theorem qw_579 : jm_cd M_L_types ∈ jm_WS := jm_in (List.mem_of_getElem? (i := 772) (by decide +kernel)) (by decide +kernel)
set_option maxRecDepth 100000 in
theorem qw_580 : Cond.methodLink RL 155 yL_types ∈ jm_WS := jm_in (List.mem_of_getElem? (i := 770) (by decide +kernel)) (by decide +kernel)
set_option maxRecDepth 100000 in
theorem qw_581 : Cond.static yL_types ∈ jm_WS := jm_in (List.mem_of_getElem? (i := 771) (by decide +kernel)) (by decide +kernel)
set_option maxRecDepth 100000 in
theorem qw_582 : jm_cd M_X3_firstError ∈ jm_WS := jm_in (List.mem_of_getElem? (i := 777) (by decide +kernel)) (by decide +kernel)
set_option maxRecDepth 100000 in
theorem qw_583 : Cond.methodLink RL 159 yX3_firstError ∈ jm_WS := jm_in (List.mem_of_getElem? (i := 774) (by decide +kernel)) (by decide +kernel)
set_option maxRecDepth 100000 in
theorem qw_584 : Cond.instanceMethod yX3_firstError ∈ jm_WS := jm_in (List.mem_of_getElem? (i := 775) (by decide +kernel)) (by decide +kernel)
set_option maxRecDepth 100000 in
theorem qw_585 : Cond.selects RX3 yX3_firstError yX3_firstError ∈ jm_WS := jm_in (List.mem_of_getElem? (i := 776) (by decide +kernel)) (by decide +kernel)
set_option maxRecDepth 100000 in
theorem qw_586 : jm_cd M_L_isError ∈ jm_WS := jm_in (List.mem_of_getElem? (i := 765) (by decide +kernel)) (by decide +kernel)
set_option maxRecDepth 100000 in
theorem qw_587 : Cond.methodLink RL 164 yL_isError ∈ jm_WS := jm_in (List.mem_of_getElem? (i := 763) (by decide +kernel)) (by decide +kernel)
set_option maxRecDepth 100000 in
theorem qw_588 : Cond.static yL_isError ∈ jm_WS := jm_in (List.mem_of_getElem? (i := 764) (by decide +kernel)) (by decide +kernel)
set_option maxRecDepth 100000 in
theorem qw_589 : jm_cd M_L_two ∈ jm_WS := jm_in (List.mem_of_getElem? (i := 755) (by decide +kernel)) (by decide +kernel)
set_option maxRecDepth 100000 in
theorem qw_590 : Cond.methodLink RL 224 yL_two ∈ jm_WS := jm_in (List.mem_of_getElem? (i := 753) (by decide +kernel)) (by decide +kernel)
set_option maxRecDepth 100000 in
theorem qw_591 : Cond.static yL_two ∈ jm_WS := jm_in (List.mem_of_getElem? (i := 754) (by decide +kernel)) (by decide +kernel)
set_option maxRecDepth 100000 in
theorem qw_592 : jm_cd M_L_many ∈ jm_WS := jm_in (List.mem_of_getElem? (i := 758) (by decide +kernel)) (by decide +kernel)
set_option maxRecDepth 100000 in
theorem qw_593 : Cond.methodLink RL 228 yL_many ∈ jm_WS := jm_in (List.mem_of_getElem? (i := 756) (by decide +kernel)) (by decide +kernel)
set_option maxRecDepth 100000 in
theorem qw_594 : Cond.static yL_many ∈ jm_WS := jm_in (List.mem_of_getElem? (i := 757) (by decide +kernel)) (by decide +kernel)
set_option maxRecDepth 100000 in
theorem qw_595 : jm_cd M_L_texts ∈ jm_WS := jm_in (List.mem_of_getElem? (i := 761) (by decide +kernel)) (by decide +kernel)
set_option maxRecDepth 100000 in
theorem qw_596 : Cond.methodLink RL 231 yL_texts ∈ jm_WS := jm_in (List.mem_of_getElem? (i := 759) (by decide +kernel)) (by decide +kernel)
set_option maxRecDepth 100000 in
theorem qw_597 : Cond.static yL_texts ∈ jm_WS := jm_in (List.mem_of_getElem? (i := 760) (by decide +kernel)) (by decide +kernel)
set_option maxRecDepth 100000 in
theorem qw_598 : Cond.code yL_drawn cL_drawn 2 (some .int) ∈ jm_WS := jm_in (List.mem_of_getElem? (i := 471) (by decide +kernel)) (by decide +kernel)
set_option maxRecDepth 100000 in
theorem qw_599 : Cond.methodLink RL 234 yL_drawn ∈ jm_WS := jm_in (List.mem_of_getElem? (i := 469) (by decide +kernel)) (by decide +kernel)
set_option maxRecDepth 100000 in
theorem qw_600 : Cond.static yL_drawn ∈ jm_WS := jm_in (List.mem_of_getElem? (i := 470) (by decide +kernel)) (by decide +kernel)
set_option maxRecDepth 100000 in
theorem qw_601 : jm_cd M_L_part ∈ jm_WS := jm_in (List.mem_of_getElem? (i := 467) (by decide +kernel)) (by decide +kernel)
set_option maxRecDepth 100000 in
theorem qw_602 : Cond.methodLink RL 238 yL_part ∈ jm_WS := jm_in (List.mem_of_getElem? (i := 465) (by decide +kernel)) (by decide +kernel)
set_option maxRecDepth 100000 in
theorem qw_603 : Cond.static yL_part ∈ jm_WS := jm_in (List.mem_of_getElem? (i := 466) (by decide +kernel)) (by decide +kernel)
set_option maxRecDepth 100000 in
theorem qw_604 : Cond.classLink RX3 288 "java/lang/IllegalArgumentException" ∈ jm_WS := jm_in (List.mem_of_getElem? (i := 184) (by decide +kernel)) (by decide +kernel)
set_option maxRecDepth 100000 in
theorem qw_605 : Cond.initialized "java/lang/IllegalArgumentException" ∈ jm_WS := jm_in (List.mem_of_getElem? (i := 35) (by decide +kernel)) (by decide +kernel)
set_option maxRecDepth 100000 in
theorem qw_606 : Cond.classLink RX3 52 "java/lang/IllegalStateException" ∈ jm_WS := jm_in (List.mem_of_getElem? (i := 252) (by decide +kernel)) (by decide +kernel)
set_option maxRecDepth 100000 in
theorem qw_607 : Cond.initialized "java/lang/IllegalStateException" ∈ jm_WS := jm_in (List.mem_of_getElem? (i := 36) (by decide +kernel)) (by decide +kernel)
set_option maxRecDepth 100000 in
theorem qw_608 : Cond.classLink RX3 77 "java/lang/IndexOutOfBoundsException" ∈ jm_WS := jm_in (List.mem_of_getElem? (i := 302) (by decide +kernel)) (by decide +kernel)
set_option maxRecDepth 100000 in
theorem qw_609 : Cond.initialized "java/lang/IndexOutOfBoundsException" ∈ jm_WS := jm_in (List.mem_of_getElem? (i := 38) (by decide +kernel)) (by decide +kernel)
set_option maxRecDepth 100000 in
theorem qw_610 : u_lay RX0 TX0 0 ∈ jm_WS := jm_in (List.mem_of_getElem? (i := 101) (by decide +kernel)) (by decide +kernel)
set_option maxRecDepth 100000 in
theorem qw_611 : u_lay RX0 TX0 1 ∈ jm_WS := jm_in (List.mem_of_getElem? (i := 103) (by decide +kernel)) (by decide +kernel)
set_option maxRecDepth 100000 in
theorem qw_612 : u_lay RX0 TX0 2 ∈ jm_WS := jm_in (List.mem_of_getElem? (i := 105) (by decide +kernel)) (by decide +kernel)
set_option maxRecDepth 100000 in
theorem qw_613 : u_lay RX0 TX0 3 ∈ jm_WS := jm_in (List.mem_of_getElem? (i := 107) (by decide +kernel)) (by decide +kernel)
set_option maxRecDepth 100000 in
theorem qw_614 : u_lay RX0 TX0 4 ∈ jm_WS := jm_in (List.mem_of_getElem? (i := 109) (by decide +kernel)) (by decide +kernel)
set_option maxRecDepth 100000 in
theorem qw_615 : u_lay RX0 TX0 5 ∈ jm_WS := jm_in (List.mem_of_getElem? (i := 111) (by decide +kernel)) (by decide +kernel)
set_option maxRecDepth 100000 in
theorem qw_616 : u_lay RX0 TX0 6 ∈ jm_WS := jm_in (List.mem_of_getElem? (i := 113) (by decide +kernel)) (by decide +kernel)
set_option maxRecDepth 100000 in
theorem qw_617 : u_lay RX0 TX0 7 ∈ jm_WS := jm_in (List.mem_of_getElem? (i := 115) (by decide +kernel)) (by decide +kernel)
set_option maxRecDepth 100000 in
theorem qw_618 : u_lay RX0 TX0 8 ∈ jm_WS := jm_in (List.mem_of_getElem? (i := 117) (by decide +kernel)) (by decide +kernel)
set_option maxRecDepth 100000 in
theorem qw_619 : u_lay RX0 TX0 9 ∈ jm_WS := jm_in (List.mem_of_getElem? (i := 119) (by decide +kernel)) (by decide +kernel)
set_option maxRecDepth 100000 in
theorem qw_620 : u_lay RX1 TX1 0 ∈ jm_WS := jm_in (List.mem_of_getElem? (i := 138) (by decide +kernel)) (by decide +kernel)
set_option maxRecDepth 100000 in
theorem qw_621 : u_lay RX1 TX1 1 ∈ jm_WS := jm_in (List.mem_of_getElem? (i := 140) (by decide +kernel)) (by decide +kernel)
set_option maxRecDepth 100000 in
theorem qw_622 : u_lay RX1 TX1 2 ∈ jm_WS := jm_in (List.mem_of_getElem? (i := 142) (by decide +kernel)) (by decide +kernel)
set_option maxRecDepth 100000 in
theorem qw_623 : u_lay RX1 TX1 3 ∈ jm_WS := jm_in (List.mem_of_getElem? (i := 144) (by decide +kernel)) (by decide +kernel)
set_option maxRecDepth 100000 in
theorem qw_624 : u_lay RX1 TX1 4 ∈ jm_WS := jm_in (List.mem_of_getElem? (i := 146) (by decide +kernel)) (by decide +kernel)
set_option maxRecDepth 100000 in
theorem qw_625 : u_lay RX2 TX2 0 ∈ jm_WS := jm_in (List.mem_of_getElem? (i := 68) (by decide +kernel)) (by decide +kernel)
set_option maxRecDepth 100000 in
theorem qw_626 : u_lay RX2 TX2 1 ∈ jm_WS := jm_in (List.mem_of_getElem? (i := 70) (by decide +kernel)) (by decide +kernel)
set_option maxRecDepth 100000 in
theorem qw_627 : u_lay RX2 TX2 2 ∈ jm_WS := jm_in (List.mem_of_getElem? (i := 72) (by decide +kernel)) (by decide +kernel)
set_option maxRecDepth 100000 in
theorem qw_628 : u_lay RX3 TX3 0 ∈ jm_WS := jm_in (List.mem_of_getElem? (i := 157) (by decide +kernel)) (by decide +kernel)
set_option maxRecDepth 100000 in
theorem qw_629 : u_lay RX3 TX3 1 ∈ jm_WS := jm_in (List.mem_of_getElem? (i := 159) (by decide +kernel)) (by decide +kernel)
set_option maxRecDepth 100000 in
theorem qw_630 : u_lay RX3 TX3 2 ∈ jm_WS := jm_in (List.mem_of_getElem? (i := 161) (by decide +kernel)) (by decide +kernel)
set_option maxRecDepth 100000 in
theorem qw_631 : u_lay RX3 TX3 3 ∈ jm_WS := jm_in (List.mem_of_getElem? (i := 163) (by decide +kernel)) (by decide +kernel)
set_option maxRecDepth 100000 in
theorem qw_632 : u_lay RX3 TX3 4 ∈ jm_WS := jm_in (List.mem_of_getElem? (i := 165) (by decide +kernel)) (by decide +kernel)
set_option maxRecDepth 100000 in
theorem qw_633 : u_lay RX3 TX3 5 ∈ jm_WS := jm_in (List.mem_of_getElem? (i := 167) (by decide +kernel)) (by decide +kernel)
set_option maxRecDepth 100000 in
theorem qw_634 : u_lay RX3 TX3 6 ∈ jm_WS := jm_in (List.mem_of_getElem? (i := 169) (by decide +kernel)) (by decide +kernel)
set_option maxRecDepth 100000 in
theorem qw_635 : u_lay RX3 TX3 7 ∈ jm_WS := jm_in (List.mem_of_getElem? (i := 171) (by decide +kernel)) (by decide +kernel)

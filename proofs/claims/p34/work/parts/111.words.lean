/-! words by their places -/
set_option maxRecDepth 100000 in
theorem qw_0 : Cond.methodLink RX2 3 objectInit ∈ jm_WS := jm_in (List.mem_of_getElem? (i := 59) rfl) (by decide +kernel)
set_option maxRecDepth 100000 in
theorem qw_1 : Cond.instanceMethod objectInit ∈ jm_WS := jm_in (List.mem_of_getElem? (i := 46) rfl) (by decide +kernel)
set_option maxRecDepth 100000 in
theorem qw_2 : Cond.code objectInit ⟨#[0xb1]⟩ 1 none ∈ jm_WS := jm_in (List.mem_of_getElem? (i := 47) rfl) (by decide +kernel)
set_option maxRecDepth 100000 in
theorem qw_3 : Cond.fieldLink RX2 9 (TX2 0).1 (TX2 0).2.1 (TX2 0).2.2.1 ∈ jm_WS := jm_in (List.mem_of_getElem? (i := 63) rfl) (by decide +kernel)
set_option maxRecDepth 100000 in
theorem qw_4 : Cond.methodLink RX2 15 Lib.Math.max.name ∈ jm_WS := jm_in (List.mem_of_getElem? (i := 60) rfl) (by decide +kernel)
set_option maxRecDepth 100000 in
theorem qw_5 : Cond.static Lib.Math.max.name ∈ jm_WS := jm_in (List.mem_of_getElem? (i := 61) rfl) (by decide +kernel)
set_option maxRecDepth 100000 in
theorem qw_6 : Cond.initialized RJ9 ∈ jm_WS := jm_in (List.mem_of_getElem? (i := 30) rfl) (by decide +kernel)
set_option maxRecDepth 100000 in
theorem qw_7 : Cond.code Lib.Math.max.name Lib.Math.max.code 2 (some .int) ∈ jm_WS := jm_in (List.mem_of_getElem? (i := 62) rfl) (by decide +kernel)
set_option maxRecDepth 100000 in
theorem qw_8 : Cond.arrayClass .int ∈ jm_WS := jm_in (List.mem_of_getElem? (i := 75) rfl) (by decide +kernel)
set_option maxRecDepth 100000 in
theorem qw_9 : Cond.fieldLink RX2 21 (TX2 1).1 (TX2 1).2.1 (TX2 1).2.2.1 ∈ jm_WS := jm_in (List.mem_of_getElem? (i := 64) rfl) (by decide +kernel)
set_option maxRecDepth 100000 in
theorem qw_10 : Cond.fieldLink RX2 25 (TX2 2).1 (TX2 2).2.1 (TX2 2).2.2.1 ∈ jm_WS := jm_in (List.mem_of_getElem? (i := 65) rfl) (by decide +kernel)
set_option maxRecDepth 100000 in
theorem qw_11 : Cond.methodLink RX0 3 objectInit ∈ jm_WS := jm_in (List.mem_of_getElem? (i := 53) rfl) (by decide +kernel)
set_option maxRecDepth 100000 in
theorem qw_12 : Cond.classLink RX0 9 RX2 ∈ jm_WS := jm_in (List.mem_of_getElem? (i := 54) rfl) (by decide +kernel)
set_option maxRecDepth 100000 in
theorem qw_13 : Cond.instantiable RX2 3 ∈ jm_WS := jm_in (List.mem_of_getElem? (i := 55) rfl) (by decide +kernel)
set_option maxRecDepth 100000 in
theorem qw_14 : Cond.initialized RX2 ∈ jm_WS := jm_in (List.mem_of_getElem? (i := 29) rfl) (by decide +kernel)
set_option maxRecDepth 100000 in
theorem qw_15 : Cond.fieldLink RX0 14 (TX0 0).1 (TX0 0).2.1 (TX0 0).2.2.1 ∈ jm_WS := jm_in (List.mem_of_getElem? (i := 84) rfl) (by decide +kernel)
set_option maxRecDepth 100000 in
theorem qw_16 : Cond.fieldLink RX0 20 (TX0 1).1 (TX0 1).2.1 (TX0 1).2.2.1 ∈ jm_WS := jm_in (List.mem_of_getElem? (i := 86) rfl) (by decide +kernel)
set_option maxRecDepth 100000 in
theorem qw_17 : Cond.fieldLink RX0 23 (TX0 2).1 (TX0 2).2.1 (TX0 2).2.2.1 ∈ jm_WS := jm_in (List.mem_of_getElem? (i := 88) rfl) (by decide +kernel)
set_option maxRecDepth 100000 in
theorem qw_18 : Cond.fieldLink RX0 26 (TX0 3).1 (TX0 3).2.1 (TX0 3).2.2.1 ∈ jm_WS := jm_in (List.mem_of_getElem? (i := 90) rfl) (by decide +kernel)
set_option maxRecDepth 100000 in
theorem qw_19 : Cond.fieldLink RX0 29 (TX0 4).1 (TX0 4).2.1 (TX0 4).2.2.1 ∈ jm_WS := jm_in (List.mem_of_getElem? (i := 92) rfl) (by decide +kernel)
set_option maxRecDepth 100000 in
theorem qw_20 : Cond.fieldLink RX0 32 (TX0 5).1 (TX0 5).2.1 (TX0 5).2.2.1 ∈ jm_WS := jm_in (List.mem_of_getElem? (i := 94) rfl) (by decide +kernel)
set_option maxRecDepth 100000 in
theorem qw_21 : Cond.fieldLink RX0 35 (TX0 7).1 (TX0 7).2.1 (TX0 7).2.2.1 ∈ jm_WS := jm_in (List.mem_of_getElem? (i := 98) rfl) (by decide +kernel)
set_option maxRecDepth 100000 in
theorem qw_22 : Cond.fieldLink RX0 39 (TX0 8).1 (TX0 8).2.1 (TX0 8).2.2.1 ∈ jm_WS := jm_in (List.mem_of_getElem? (i := 99) rfl) (by decide +kernel)
set_option maxRecDepth 100000 in
theorem qw_23 : Cond.fieldLink RX0 42 (TX0 9).1 (TX0 9).2.1 (TX0 9).2.2.1 ∈ jm_WS := jm_in (List.mem_of_getElem? (i := 100) rfl) (by decide +kernel)
set_option maxRecDepth 100000 in
theorem qw_24 : Cond.methodLink RX1 3 objectInit ∈ jm_WS := jm_in (List.mem_of_getElem? (i := 128) rfl) (by decide +kernel)
set_option maxRecDepth 100000 in
theorem qw_25 : Cond.methodLink RX3 1 objectInit ∈ jm_WS := jm_in (List.mem_of_getElem? (i := 45) rfl) (by decide +kernel)
set_option maxRecDepth 100000 in
theorem qw_26 : Cond.classLink RX3 7 RX0 ∈ jm_WS := jm_in (List.mem_of_getElem? (i := 48) rfl) (by decide +kernel)
set_option maxRecDepth 100000 in
theorem qw_27 : Cond.instantiable RX0 10 ∈ jm_WS := jm_in (List.mem_of_getElem? (i := 49) rfl) (by decide +kernel)
set_option maxRecDepth 100000 in
theorem qw_28 : Cond.initialized RX0 ∈ jm_WS := jm_in (List.mem_of_getElem? (i := 28) rfl) (by decide +kernel)
set_option maxRecDepth 100000 in
theorem qw_29 : Cond.fieldLink RX3 10 (TX3 0).1 (TX3 0).2.1 (TX3 0).2.2.1 ∈ jm_WS := jm_in (List.mem_of_getElem? (i := 149) rfl) (by decide +kernel)
set_option maxRecDepth 100000 in
theorem qw_30 : Cond.fieldLink RX3 16 (TX3 1).1 (TX3 1).2.1 (TX3 1).2.2.1 ∈ jm_WS := jm_in (List.mem_of_getElem? (i := 150) rfl) (by decide +kernel)
set_option maxRecDepth 100000 in
theorem qw_31 : Cond.fieldLink RX3 19 (TX3 2).1 (TX3 2).2.1 (TX3 2).2.2.1 ∈ jm_WS := jm_in (List.mem_of_getElem? (i := 151) rfl) (by decide +kernel)
set_option maxRecDepth 100000 in
theorem qw_32 : Cond.classLink RX3 23 RX1 ∈ jm_WS := jm_in (List.mem_of_getElem? (i := 123) rfl) (by decide +kernel)
set_option maxRecDepth 100000 in
theorem qw_33 : Cond.instantiable RX1 5 ∈ jm_WS := jm_in (List.mem_of_getElem? (i := 124) rfl) (by decide +kernel)
set_option maxRecDepth 100000 in
theorem qw_34 : Cond.initialized RX1 ∈ jm_WS := jm_in (List.mem_of_getElem? (i := 31) rfl) (by decide +kernel)
set_option maxRecDepth 100000 in
theorem qw_35 : Cond.fieldLink RX3 26 (TX3 3).1 (TX3 3).2.1 (TX3 3).2.2.1 ∈ jm_WS := jm_in (List.mem_of_getElem? (i := 152) rfl) (by decide +kernel)
set_option maxRecDepth 100000 in
theorem qw_36 : Cond.fieldLink RX3 30 (TX3 4).1 (TX3 4).2.1 (TX3 4).2.2.1 ∈ jm_WS := jm_in (List.mem_of_getElem? (i := 153) rfl) (by decide +kernel)
set_option maxRecDepth 100000 in
theorem qw_37 : Cond.fieldLink RX3 178 (TX3 6).1 (TX3 6).2.1 (TX3 6).2.2.1 ∈ jm_WS := jm_in (List.mem_of_getElem? (i := 155) rfl) (by decide +kernel)
set_option maxRecDepth 100000 in
theorem qw_38 : Cond.methodLink RX2 35 arraycopyName ∈ jm_WS := jm_in (List.mem_of_getElem? (i := 287) rfl) (by decide +kernel)
set_option maxRecDepth 100000 in
theorem qw_39 : Cond.native arraycopyName ∈ jm_WS := jm_in (List.mem_of_getElem? (i := 289) rfl) (by decide +kernel)
set_option maxRecDepth 100000 in
theorem qw_40 : Cond.static arraycopyName ∈ jm_WS := jm_in (List.mem_of_getElem? (i := 288) rfl) (by decide +kernel)
set_option maxRecDepth 100000 in
theorem qw_41 : Cond.initialized RJ10 ∈ jm_WS := jm_in (List.mem_of_getElem? (i := 37) rfl) (by decide +kernel)
set_option maxRecDepth 100000 in
theorem qw_42 : Cond.fieldLink RX0 57 (TX0 6).1 (TX0 6).2.1 (TX0 6).2.2.1 ∈ jm_WS := jm_in (List.mem_of_getElem? (i := 96) rfl) (by decide +kernel)
set_option maxRecDepth 100000 in
theorem qw_43 : Cond.fieldLink RX3 42 (TX0 0).1 (TX0 0).2.1 (TX0 0).2.2.1 ∈ jm_WS := jm_in (List.mem_of_getElem? (i := 85) rfl) (by decide +kernel)
set_option maxRecDepth 100000 in
theorem qw_44 : Cond.fieldLink RX3 46 (TX2 2).1 (TX2 2).2.1 (TX2 2).2.2.1 ∈ jm_WS := jm_in (List.mem_of_getElem? (i := 66) rfl) (by decide +kernel)
set_option maxRecDepth 100000 in
theorem qw_45 : Cond.fieldLink RX3 70 (TX0 1).1 (TX0 1).2.1 (TX0 1).2.2.1 ∈ jm_WS := jm_in (List.mem_of_getElem? (i := 87) rfl) (by decide +kernel)
set_option maxRecDepth 100000 in
theorem qw_46 : Cond.fieldLink RX3 82 (TX0 2).1 (TX0 2).2.1 (TX0 2).2.2.1 ∈ jm_WS := jm_in (List.mem_of_getElem? (i := 89) rfl) (by decide +kernel)
set_option maxRecDepth 100000 in
theorem qw_47 : Cond.fieldLink RX0 90 (TX2 2).1 (TX2 2).2.1 (TX2 2).2.2.1 ∈ jm_WS := jm_in (List.mem_of_getElem? (i := 67) rfl) (by decide +kernel)
set_option maxRecDepth 100000 in
theorem qw_48 : Cond.fieldLink RX3 108 (TX0 3).1 (TX0 3).2.1 (TX0 3).2.2.1 ∈ jm_WS := jm_in (List.mem_of_getElem? (i := 91) rfl) (by decide +kernel)
set_option maxRecDepth 100000 in
theorem qw_49 : Cond.constant RJ6 265 (1431655765 : Int32) ∈ jm_WS := jm_in (List.mem_of_getElem? (i := 457) rfl) (by decide +kernel)
set_option maxRecDepth 100000 in
theorem qw_50 : Cond.constant RJ6 266 (858993459 : Int32) ∈ jm_WS := jm_in (List.mem_of_getElem? (i := 458) rfl) (by decide +kernel)
set_option maxRecDepth 100000 in
theorem qw_51 : Cond.constant RJ6 267 (252645135 : Int32) ∈ jm_WS := jm_in (List.mem_of_getElem? (i := 459) rfl) (by decide +kernel)
set_option maxRecDepth 100000 in
theorem qw_52 : Cond.fieldLink RX3 121 (TX0 4).1 (TX0 4).2.1 (TX0 4).2.2.1 ∈ jm_WS := jm_in (List.mem_of_getElem? (i := 93) rfl) (by decide +kernel)
set_option maxRecDepth 100000 in
theorem qw_53 : Cond.fieldLink RX3 152 (TX0 5).1 (TX0 5).2.1 (TX0 5).2.2.1 ∈ jm_WS := jm_in (List.mem_of_getElem? (i := 95) rfl) (by decide +kernel)
set_option maxRecDepth 100000 in
theorem qw_54 : Cond.fieldLink RX3 155 (TX3 7).1 (TX3 7).2.1 (TX3 7).2.2.1 ∈ jm_WS := jm_in (List.mem_of_getElem? (i := 156) rfl) (by decide +kernel)
set_option maxRecDepth 100000 in
theorem qw_55 : Cond.fieldLink RX1 9 (TX1 3).1 (TX1 3).2.1 (TX1 3).2.2.1 ∈ jm_WS := jm_in (List.mem_of_getElem? (i := 135) rfl) (by decide +kernel)
set_option maxRecDepth 100000 in
theorem qw_56 : Cond.fieldLink RX1 15 (TX1 4).1 (TX1 4).2.1 (TX1 4).2.2.1 ∈ jm_WS := jm_in (List.mem_of_getElem? (i := 137) rfl) (by decide +kernel)
set_option maxRecDepth 100000 in
theorem qw_57 : Cond.fieldLink RX1 32 (TX1 2).1 (TX1 2).2.1 (TX1 2).2.2.1 ∈ jm_WS := jm_in (List.mem_of_getElem? (i := 133) rfl) (by decide +kernel)
set_option maxRecDepth 100000 in
theorem qw_58 : Cond.fieldLink RX1 18 (TX1 0).1 (TX1 0).2.1 (TX1 0).2.2.1 ∈ jm_WS := jm_in (List.mem_of_getElem? (i := 129) rfl) (by decide +kernel)
set_option maxRecDepth 100000 in
theorem qw_59 : Cond.fieldLink RX1 29 (TX1 1).1 (TX1 1).2.1 (TX1 1).2.2.1 ∈ jm_WS := jm_in (List.mem_of_getElem? (i := 131) rfl) (by decide +kernel)
set_option maxRecDepth 100000 in
theorem qw_60 : Cond.fieldLink RX3 316 (TX1 0).1 (TX1 0).2.1 (TX1 0).2.2.1 ∈ jm_WS := jm_in (List.mem_of_getElem? (i := 130) rfl) (by decide +kernel)
set_option maxRecDepth 100000 in
theorem qw_61 : Cond.fieldLink RX3 319 (TX1 1).1 (TX1 1).2.1 (TX1 1).2.2.1 ∈ jm_WS := jm_in (List.mem_of_getElem? (i := 132) rfl) (by decide +kernel)
set_option maxRecDepth 100000 in
theorem qw_62 : Cond.fieldLink RX3 322 (TX1 2).1 (TX1 2).2.1 (TX1 2).2.2.1 ∈ jm_WS := jm_in (List.mem_of_getElem? (i := 134) rfl) (by decide +kernel)
set_option maxRecDepth 100000 in
theorem qw_63 : Cond.fieldLink RX3 325 (TX1 3).1 (TX1 3).2.1 (TX1 3).2.2.1 ∈ jm_WS := jm_in (List.mem_of_getElem? (i := 136) rfl) (by decide +kernel)
set_option maxRecDepth 100000 in
theorem qw_64 : Cond.fieldLink RX3 187 (TX3 5).1 (TX3 5).2.1 (TX3 5).2.2.1 ∈ jm_WS := jm_in (List.mem_of_getElem? (i := 154) rfl) (by decide +kernel)
set_option maxRecDepth 100000 in
theorem qw_65 : Cond.methodLink RX0 157 Lib.Math.max.name ∈ jm_WS := jm_in (List.mem_of_getElem? (i := 663) rfl) (by decide +kernel)
set_option maxRecDepth 100000 in
theorem qw_66 : Cond.fieldLink RX3 274 (TX0 6).1 (TX0 6).2.1 (TX0 6).2.2.1 ∈ jm_WS := jm_in (List.mem_of_getElem? (i := 97) rfl) (by decide +kernel)
set_option maxRecDepth 100000 in
theorem qw_67 : Cond.constantDouble RX0 162 (4656510908468559872 : UInt64) ∈ jm_WS := jm_in (List.mem_of_getElem? (i := 729) rfl) (by decide +kernel)
set_option maxRecDepth 100000 in
theorem qw_68 : Cond.constant RL 7 (2147483647 : Int32) ∈ jm_WS := jm_in (List.mem_of_getElem? (i := 468) rfl) (by decide +kernel)
set_option maxRecDepth 100000 in
theorem qw_69 : Cond.constant RL 8 (2654435 : Int32) ∈ jm_WS := jm_in (List.mem_of_getElem? (i := 472) rfl) (by decide +kernel)
set_option maxRecDepth 100000 in
theorem qw_70 : Cond.constantLong RL 9 (1000 : Int64) ∈ jm_WS := jm_in (List.mem_of_getElem? (i := 479) rfl) (by decide +kernel)
set_option maxRecDepth 100000 in
theorem qw_71 : Cond.classLink RL 101 "java/lang/IndexOutOfBoundsException" ∈ jm_WS := jm_in (List.mem_of_getElem? (i := 476) rfl) (by decide +kernel)
set_option maxRecDepth 100000 in
theorem qw_72 : Cond.classLink RL 103 "java/lang/IllegalArgumentException" ∈ jm_WS := jm_in (List.mem_of_getElem? (i := 477) rfl) (by decide +kernel)
set_option maxRecDepth 100000 in
theorem qw_73 : Cond.classLink RL 105 "java/lang/IllegalStateException" ∈ jm_WS := jm_in (List.mem_of_getElem? (i := 478) rfl) (by decide +kernel)
set_option maxRecDepth 100000 in
theorem qw_74 : Cond.constantLong RL 107 (233 : Int64) ∈ jm_WS := jm_in (List.mem_of_getElem? (i := 733) rfl) (by decide +kernel)
set_option maxRecDepth 100000 in
theorem qw_75 : Cond.constantLong RL 109 (31 : Int64) ∈ jm_WS := jm_in (List.mem_of_getElem? (i := 734) rfl) (by decide +kernel)
set_option maxRecDepth 100000 in
theorem qw_76 : Cond.constantLong RL 111 (7 : Int64) ∈ jm_WS := jm_in (List.mem_of_getElem? (i := 735) rfl) (by decide +kernel)
set_option maxRecDepth 100000 in
theorem qw_77 : Cond.constant RL 113 (-2147483648 : Int32) ∈ jm_WS := jm_in (List.mem_of_getElem? (i := 745) rfl) (by decide +kernel)
set_option maxRecDepth 100000 in
theorem qw_78 : Cond.constantLong RL 123 (500 : Int64) ∈ jm_WS := jm_in (List.mem_of_getElem? (i := 746) rfl) (by decide +kernel)
set_option maxRecDepth 100000 in
theorem qw_79 : Cond.constantLong RL 127 (521 : Int64) ∈ jm_WS := jm_in (List.mem_of_getElem? (i := 748) rfl) (by decide +kernel)
set_option maxRecDepth 100000 in
theorem qw_80 : Cond.constantLong RL 129 (3500 : Int64) ∈ jm_WS := jm_in (List.mem_of_getElem? (i := 749) rfl) (by decide +kernel)
set_option maxRecDepth 100000 in
theorem qw_81 : Cond.constantLong RL 125 (499 : Int64) ∈ jm_WS := jm_in (List.mem_of_getElem? (i := 747) rfl) (by decide +kernel)
set_option maxRecDepth 100000 in
theorem qw_82 : Cond.classLink RL 12 RX3 ∈ jm_WS := jm_in (List.mem_of_getElem? (i := 40) rfl) (by decide +kernel)
set_option maxRecDepth 100000 in
theorem qw_83 : Cond.instantiable RX3 8 ∈ jm_WS := jm_in (List.mem_of_getElem? (i := 41) rfl) (by decide +kernel)
set_option maxRecDepth 100000 in
theorem qw_84 : Cond.initialized RX3 ∈ jm_WS := jm_in (List.mem_of_getElem? (i := 27) rfl) (by decide +kernel)
set_option maxRecDepth 100000 in
theorem qw_85 : Cond.constantLong RL 150 (255 : Int64) ∈ jm_WS := jm_in (List.mem_of_getElem? (i := 773) rfl) (by decide +kernel)
set_option maxRecDepth 100000 in
theorem qw_86 : Cond.constantLong RL 162 (56 : Int64) ∈ jm_WS := jm_in (List.mem_of_getElem? (i := 762) rfl) (by decide +kernel)
set_option maxRecDepth 100000 in
theorem qw_87 : Cond.constantLong RL 168 (3157811 : Int64) ∈ jm_WS := jm_in (List.mem_of_getElem? (i := 778) rfl) (by decide +kernel)
set_option maxRecDepth 100000 in
theorem qw_88 : Cond.constantLong RL 170 (3472046890004000816 : Int64) ∈ jm_WS := jm_in (List.mem_of_getElem? (i := 779) rfl) (by decide +kernel)
set_option maxRecDepth 100000 in
theorem qw_89 : Cond.constantLong RL 172 (3472046889970119217 : Int64) ∈ jm_WS := jm_in (List.mem_of_getElem? (i := 780) rfl) (by decide +kernel)
set_option maxRecDepth 100000 in
theorem qw_90 : Cond.constantLong RL 174 (52979231109169 : Int64) ∈ jm_WS := jm_in (List.mem_of_getElem? (i := 781) rfl) (by decide +kernel)
set_option maxRecDepth 100000 in
theorem qw_91 : Cond.constantLong RL 176 (52979231110459 : Int64) ∈ jm_WS := jm_in (List.mem_of_getElem? (i := 782) rfl) (by decide +kernel)
set_option maxRecDepth 100000 in
theorem qw_92 : Cond.constantLong RL 178 (52979231110443 : Int64) ∈ jm_WS := jm_in (List.mem_of_getElem? (i := 783) rfl) (by decide +kernel)
set_option maxRecDepth 100000 in
theorem qw_93 : Cond.constantLong RL 180 (206950121525 : Int64) ∈ jm_WS := jm_in (List.mem_of_getElem? (i := 784) rfl) (by decide +kernel)
set_option maxRecDepth 100000 in
theorem qw_94 : Cond.constantLong RL 182 (3976452247276566841 : Int64) ∈ jm_WS := jm_in (List.mem_of_getElem? (i := 785) rfl) (by decide +kernel)
set_option maxRecDepth 100000 in
theorem qw_95 : Cond.constantLong RL 184 (2830896 : Int64) ∈ jm_WS := jm_in (List.mem_of_getElem? (i := 786) rfl) (by decide +kernel)
set_option maxRecDepth 100000 in
theorem qw_96 : Cond.constantLong RL 186 (48 : Int64) ∈ jm_WS := jm_in (List.mem_of_getElem? (i := 787) rfl) (by decide +kernel)
set_option maxRecDepth 100000 in
theorem qw_97 : Cond.constantLong RL 188 (12336 : Int64) ∈ jm_WS := jm_in (List.mem_of_getElem? (i := 788) rfl) (by decide +kernel)
set_option maxRecDepth 100000 in
theorem qw_98 : Cond.constantLong RL 190 (206950121592 : Int64) ∈ jm_WS := jm_in (List.mem_of_getElem? (i := 789) rfl) (by decide +kernel)
set_option maxRecDepth 100000 in
theorem qw_99 : Cond.constantLong RL 192 (808398896 : Int64) ∈ jm_WS := jm_in (List.mem_of_getElem? (i := 790) rfl) (by decide +kernel)
set_option maxRecDepth 100000 in
theorem qw_100 : Cond.constantLong RL 194 (13562683164273451 : Int64) ∈ jm_WS := jm_in (List.mem_of_getElem? (i := 791) rfl) (by decide +kernel)
set_option maxRecDepth 100000 in
theorem qw_101 : Cond.constantLong RL 196 (13562683164277563 : Int64) ∈ jm_WS := jm_in (List.mem_of_getElem? (i := 792) rfl) (by decide +kernel)
set_option maxRecDepth 100000 in
theorem qw_102 : Cond.constantLong RL 198 (3472046890054004789 : Int64) ∈ jm_WS := jm_in (List.mem_of_getElem? (i := 793) rfl) (by decide +kernel)
set_option maxRecDepth 100000 in
theorem qw_103 : Cond.constantLong RL 200 (3544105583536779307 : Int64) ∈ jm_WS := jm_in (List.mem_of_getElem? (i := 794) rfl) (by decide +kernel)
set_option maxRecDepth 100000 in
theorem qw_104 : Cond.constantLong RL 202 (228626345778 : Int64) ∈ jm_WS := jm_in (List.mem_of_getElem? (i := 795) rfl) (by decide +kernel)
set_option maxRecDepth 100000 in
theorem qw_105 : Cond.constantLong RL 204 (97 : Int64) ∈ jm_WS := jm_in (List.mem_of_getElem? (i := 796) rfl) (by decide +kernel)
set_option maxRecDepth 100000 in
theorem qw_106 : Cond.constantLong RL 206 (3472046889987223611 : Int64) ∈ jm_WS := jm_in (List.mem_of_getElem? (i := 797) rfl) (by decide +kernel)
set_option maxRecDepth 100000 in
theorem qw_107 : Cond.constantLong RL 208 (3472047989498852651 : Int64) ∈ jm_WS := jm_in (List.mem_of_getElem? (i := 798) rfl) (by decide +kernel)
set_option maxRecDepth 100000 in
theorem qw_108 : Cond.constantLong RL 210 (4123942863035707696 : Int64) ∈ jm_WS := jm_in (List.mem_of_getElem? (i := 799) rfl) (by decide +kernel)
set_option maxRecDepth 100000 in
theorem qw_109 : Cond.constantLong RL 212 (53 : Int64) ∈ jm_WS := jm_in (List.mem_of_getElem? (i := 800) rfl) (by decide +kernel)
set_option maxRecDepth 100000 in
theorem qw_110 : Cond.constantLong RL 214 (3472047989515628603 : Int64) ∈ jm_WS := jm_in (List.mem_of_getElem? (i := 801) rfl) (by decide +kernel)
set_option maxRecDepth 100000 in
theorem qw_111 : Cond.constantLong RL 216 (13844166730919984 : Int64) ∈ jm_WS := jm_in (List.mem_of_getElem? (i := 802) rfl) (by decide +kernel)
set_option maxRecDepth 100000 in
theorem qw_112 : Cond.constantLong RL 218 (13562691754078256 : Int64) ∈ jm_WS := jm_in (List.mem_of_getElem? (i := 803) rfl) (by decide +kernel)
set_option maxRecDepth 100000 in
theorem qw_113 : Cond.constantLong RL 220 (3472049089011070513 : Int64) ∈ jm_WS := jm_in (List.mem_of_getElem? (i := 804) rfl) (by decide +kernel)
set_option maxRecDepth 100000 in
theorem qw_114 : Cond.constantLong RL 222 (13562687459046201 : Int64) ∈ jm_WS := jm_in (List.mem_of_getElem? (i := 805) rfl) (by decide +kernel)
set_option maxRecDepth 100000 in
theorem qw_115 : Cond.arrayClass .long ∈ jm_WS := jm_in (List.mem_of_getElem? (i := 807) rfl) (by decide +kernel)
set_option maxRecDepth 100000 in
theorem qw_116 : Cond.constantLong RL 241 (495 : Int64) ∈ jm_WS := jm_in (List.mem_of_getElem? (i := 806) rfl) (by decide +kernel)
set_option maxRecDepth 100000 in
theorem qw_117 : jm_cd M_X2_init ∈ jm_WS := jm_in (List.mem_of_getElem? (i := 58) rfl) (by decide +kernel)
set_option maxRecDepth 100000 in
theorem qw_118 : Cond.methodLink RX0 11 yX2_init ∈ jm_WS := jm_in (List.mem_of_getElem? (i := 56) rfl) (by decide +kernel)
set_option maxRecDepth 100000 in
theorem qw_119 : Cond.instanceMethod yX2_init ∈ jm_WS := jm_in (List.mem_of_getElem? (i := 57) rfl) (by decide +kernel)
set_option maxRecDepth 100000 in
theorem qw_120 : jm_cd M_X2_put ∈ jm_WS := jm_in (List.mem_of_getElem? (i := 83) rfl) (by decide +kernel)
set_option maxRecDepth 100000 in
theorem qw_121 : Cond.methodLink RX0 49 yX2_put ∈ jm_WS := jm_in (List.mem_of_getElem? (i := 80) rfl) (by decide +kernel)
set_option maxRecDepth 100000 in
theorem qw_122 : Cond.instanceMethod yX2_put ∈ jm_WS := jm_in (List.mem_of_getElem? (i := 81) rfl) (by decide +kernel)
set_option maxRecDepth 100000 in
theorem qw_123 : Cond.selects RX2 yX2_put yX2_put ∈ jm_WS := jm_in (List.mem_of_getElem? (i := 82) rfl) (by decide +kernel)
set_option maxRecDepth 100000 in
theorem qw_124 : jm_cd M_X2_addRow ∈ jm_WS := jm_in (List.mem_of_getElem? (i := 79) rfl) (by decide +kernel)
set_option maxRecDepth 100000 in
theorem qw_125 : Cond.methodLink RX0 45 yX2_addRow ∈ jm_WS := jm_in (List.mem_of_getElem? (i := 76) rfl) (by decide +kernel)
set_option maxRecDepth 100000 in
theorem qw_126 : Cond.instanceMethod yX2_addRow ∈ jm_WS := jm_in (List.mem_of_getElem? (i := 77) rfl) (by decide +kernel)
set_option maxRecDepth 100000 in
theorem qw_127 : Cond.selects RX2 yX2_addRow yX2_addRow ∈ jm_WS := jm_in (List.mem_of_getElem? (i := 78) rfl) (by decide +kernel)
set_option maxRecDepth 100000 in
theorem qw_128 : jm_cd M_X0_init ∈ jm_WS := jm_in (List.mem_of_getElem? (i := 52) rfl) (by decide +kernel)
set_option maxRecDepth 100000 in
theorem qw_129 : Cond.methodLink RX3 9 yX0_init ∈ jm_WS := jm_in (List.mem_of_getElem? (i := 50) rfl) (by decide +kernel)
set_option maxRecDepth 100000 in
theorem qw_130 : Cond.instanceMethod yX0_init ∈ jm_WS := jm_in (List.mem_of_getElem? (i := 51) rfl) (by decide +kernel)
set_option maxRecDepth 100000 in
theorem qw_131 : jm_cd M_X1_init ∈ jm_WS := jm_in (List.mem_of_getElem? (i := 127) rfl) (by decide +kernel)
set_option maxRecDepth 100000 in
theorem qw_132 : Cond.instanceMethod yX1_init ∈ jm_WS := jm_in (List.mem_of_getElem? (i := 126) rfl) (by decide +kernel)
set_option maxRecDepth 100000 in
theorem qw_133 : jm_cd M_X2_takeRows ∈ jm_WS := jm_in (List.mem_of_getElem? (i := 286) rfl) (by decide +kernel)
set_option maxRecDepth 100000 in
theorem qw_134 : Cond.methodLink RX0 53 yX2_takeRows ∈ jm_WS := jm_in (List.mem_of_getElem? (i := 283) rfl) (by decide +kernel)
set_option maxRecDepth 100000 in
theorem qw_135 : Cond.instanceMethod yX2_takeRows ∈ jm_WS := jm_in (List.mem_of_getElem? (i := 284) rfl) (by decide +kernel)
set_option maxRecDepth 100000 in
theorem qw_136 : Cond.selects RX2 yX2_takeRows yX2_takeRows ∈ jm_WS := jm_in (List.mem_of_getElem? (i := 285) rfl) (by decide +kernel)
set_option maxRecDepth 100000 in
theorem qw_137 : jm_cd M_X0_take ∈ jm_WS := jm_in (List.mem_of_getElem? (i := 282) rfl) (by decide +kernel)
set_option maxRecDepth 100000 in
theorem qw_138 : Cond.methodLink RX3 298 yX0_take ∈ jm_WS := jm_in (List.mem_of_getElem? (i := 279) rfl) (by decide +kernel)
set_option maxRecDepth 100000 in
theorem qw_139 : Cond.instanceMethod yX0_take ∈ jm_WS := jm_in (List.mem_of_getElem? (i := 280) rfl) (by decide +kernel)
set_option maxRecDepth 100000 in
theorem qw_140 : Cond.selects RX0 yX0_take yX0_take ∈ jm_WS := jm_in (List.mem_of_getElem? (i := 281) rfl) (by decide +kernel)
set_option maxRecDepth 100000 in
theorem qw_141 : jm_cd M_X3_copyState ∈ jm_WS := jm_in (List.mem_of_getElem? (i := 278) rfl) (by decide +kernel)
set_option maxRecDepth 100000 in
theorem qw_142 : Cond.methodLink RX3 183 yX3_copyState ∈ jm_WS := jm_in (List.mem_of_getElem? (i := 276) rfl) (by decide +kernel)
set_option maxRecDepth 100000 in
theorem qw_143 : Cond.static yX3_copyState ∈ jm_WS := jm_in (List.mem_of_getElem? (i := 277) rfl) (by decide +kernel)
set_option maxRecDepth 100000 in
theorem qw_144 : jm_cd M_X3_dropOldest ∈ jm_WS := jm_in (List.mem_of_getElem? (i := 275) rfl) (by decide +kernel)
set_option maxRecDepth 100000 in
theorem qw_145 : Cond.methodLink RX3 295 yX3_dropOldest ∈ jm_WS := jm_in (List.mem_of_getElem? (i := 272) rfl) (by decide +kernel)
set_option maxRecDepth 100000 in
theorem qw_146 : Cond.instanceMethod yX3_dropOldest ∈ jm_WS := jm_in (List.mem_of_getElem? (i := 274) rfl) (by decide +kernel)
set_option maxRecDepth 100000 in
theorem qw_147 : Cond.selects RX3 yX3_dropOldest yX3_dropOldest ∈ jm_WS := jm_in (List.mem_of_getElem? (i := 2) rfl) (by decide +kernel)
set_option maxRecDepth 100000 in
theorem qw_148 : jm_cd M_X3_isWithin ∈ jm_WS := jm_in (List.mem_of_getElem? (i := 180) rfl) (by decide +kernel)
set_option maxRecDepth 100000 in
theorem qw_149 : Cond.methodLink RX3 34 yX3_isWithin ∈ jm_WS := jm_in (List.mem_of_getElem? (i := 178) rfl) (by decide +kernel)
set_option maxRecDepth 100000 in
theorem qw_150 : Cond.static yX3_isWithin ∈ jm_WS := jm_in (List.mem_of_getElem? (i := 179) rfl) (by decide +kernel)
set_option maxRecDepth 100000 in
theorem qw_151 : jm_cd M_X3_requireArgument ∈ jm_WS := jm_in (List.mem_of_getElem? (i := 183) rfl) (by decide +kernel)
set_option maxRecDepth 100000 in
theorem qw_152 : Cond.methodLink RX3 38 yX3_requireArgument ∈ jm_WS := jm_in (List.mem_of_getElem? (i := 181) rfl) (by decide +kernel)
set_option maxRecDepth 100000 in
theorem qw_153 : Cond.static yX3_requireArgument ∈ jm_WS := jm_in (List.mem_of_getElem? (i := 182) rfl) (by decide +kernel)
set_option maxRecDepth 100000 in
theorem qw_154 : jm_cd M_X3_save ∈ jm_WS := jm_in (List.mem_of_getElem? (i := 271) rfl) (by decide +kernel)
set_option maxRecDepth 100000 in
theorem qw_155 : Cond.methodLink RX3 59 yX3_save ∈ jm_WS := jm_in (List.mem_of_getElem? (i := 268) rfl) (by decide +kernel)
set_option maxRecDepth 100000 in
theorem qw_156 : Cond.instanceMethod yX3_save ∈ jm_WS := jm_in (List.mem_of_getElem? (i := 270) rfl) (by decide +kernel)
set_option maxRecDepth 100000 in
theorem qw_157 : Cond.selects RX3 yX3_save yX3_save ∈ jm_WS := jm_in (List.mem_of_getElem? (i := 1) rfl) (by decide +kernel)
set_option maxRecDepth 100000 in
theorem qw_158 : jm_cd M_X0_addFilm ∈ jm_WS := jm_in (List.mem_of_getElem? (i := 293) rfl) (by decide +kernel)
set_option maxRecDepth 100000 in
theorem qw_159 : Cond.methodLink RX3 62 yX0_addFilm ∈ jm_WS := jm_in (List.mem_of_getElem? (i := 290) rfl) (by decide +kernel)
set_option maxRecDepth 100000 in
theorem qw_160 : Cond.instanceMethod yX0_addFilm ∈ jm_WS := jm_in (List.mem_of_getElem? (i := 291) rfl) (by decide +kernel)
set_option maxRecDepth 100000 in
theorem qw_161 : Cond.selects RX0 yX0_addFilm yX0_addFilm ∈ jm_WS := jm_in (List.mem_of_getElem? (i := 292) rfl) (by decide +kernel)
set_option maxRecDepth 100000 in
theorem qw_162 : jm_cd M_X2_at ∈ jm_WS := jm_in (List.mem_of_getElem? (i := 340) rfl) (by decide +kernel)
set_option maxRecDepth 100000 in
theorem qw_163 : Cond.methodLink RX2 28 yX2_at ∈ jm_WS := jm_in (List.mem_of_getElem? (i := 488) rfl) (by decide +kernel)
set_option maxRecDepth 100000 in
theorem qw_164 : Cond.instanceMethod yX2_at ∈ jm_WS := jm_in (List.mem_of_getElem? (i := 338) rfl) (by decide +kernel)
set_option maxRecDepth 100000 in
theorem qw_165 : Cond.selects RX2 yX2_at yX2_at ∈ jm_WS := jm_in (List.mem_of_getElem? (i := 339) rfl) (by decide +kernel)
set_option maxRecDepth 100000 in
theorem qw_166 : Cond.methodLink RX2 31 yX2_put ∈ jm_WS := jm_in (List.mem_of_getElem? (i := 489) rfl) (by decide +kernel)
set_option maxRecDepth 100000 in
theorem qw_167 : jm_cd M_X3_requireScreen ∈ jm_WS := jm_in (List.mem_of_getElem? (i := 320) rfl) (by decide +kernel)
set_option maxRecDepth 100000 in
theorem qw_168 : Cond.methodLink RX3 66 yX3_requireScreen ∈ jm_WS := jm_in (List.mem_of_getElem? (i := 318) rfl) (by decide +kernel)
set_option maxRecDepth 100000 in
theorem qw_169 : Cond.static yX3_requireScreen ∈ jm_WS := jm_in (List.mem_of_getElem? (i := 319) rfl) (by decide +kernel)
set_option maxRecDepth 100000 in
theorem qw_170 : jm_cd M_X2_exchange ∈ jm_WS := jm_in (List.mem_of_getElem? (i := 487) rfl) (by decide +kernel)
set_option maxRecDepth 100000 in
theorem qw_171 : Cond.methodLink RX3 73 yX2_exchange ∈ jm_WS := jm_in (List.mem_of_getElem? (i := 484) rfl) (by decide +kernel)
set_option maxRecDepth 100000 in
theorem qw_172 : Cond.instanceMethod yX2_exchange ∈ jm_WS := jm_in (List.mem_of_getElem? (i := 485) rfl) (by decide +kernel)
set_option maxRecDepth 100000 in
theorem qw_173 : Cond.selects RX2 yX2_exchange yX2_exchange ∈ jm_WS := jm_in (List.mem_of_getElem? (i := 486) rfl) (by decide +kernel)
set_option maxRecDepth 100000 in
theorem qw_174 : Cond.methodLink RX0 60 yX2_at ∈ jm_WS := jm_in (List.mem_of_getElem? (i := 337) rfl) (by decide +kernel)
set_option maxRecDepth 100000 in
theorem qw_175 : jm_cd M_X0_endOf ∈ jm_WS := jm_in (List.mem_of_getElem? (i := 348) rfl) (by decide +kernel)
set_option maxRecDepth 100000 in
theorem qw_176 : Cond.methodLink RX0 87 yX0_endOf ∈ jm_WS := jm_in (List.mem_of_getElem? (i := 345) rfl) (by decide +kernel)
set_option maxRecDepth 100000 in
theorem qw_177 : Cond.instanceMethod yX0_endOf ∈ jm_WS := jm_in (List.mem_of_getElem? (i := 346) rfl) (by decide +kernel)
set_option maxRecDepth 100000 in
theorem qw_178 : Cond.selects RX0 yX0_endOf yX0_endOf ∈ jm_WS := jm_in (List.mem_of_getElem? (i := 347) rfl) (by decide +kernel)
set_option maxRecDepth 100000 in
theorem qw_179 : jm_cd M_X0_areTooClose ∈ jm_WS := jm_in (List.mem_of_getElem? (i := 351) rfl) (by decide +kernel)
set_option maxRecDepth 100000 in
theorem qw_180 : Cond.methodLink RX0 93 yX0_areTooClose ∈ jm_WS := jm_in (List.mem_of_getElem? (i := 349) rfl) (by decide +kernel)
set_option maxRecDepth 100000 in
theorem qw_181 : Cond.static yX0_areTooClose ∈ jm_WS := jm_in (List.mem_of_getElem? (i := 350) rfl) (by decide +kernel)
set_option maxRecDepth 100000 in
theorem qw_182 : jm_cd M_X0_beginIn ∈ jm_WS := jm_in (List.mem_of_getElem? (i := 362) rfl) (by decide +kernel)
set_option maxRecDepth 100000 in
theorem qw_183 : Cond.methodLink RX0 97 yX0_beginIn ∈ jm_WS := jm_in (List.mem_of_getElem? (i := 360) rfl) (by decide +kernel)
set_option maxRecDepth 100000 in
theorem qw_184 : Cond.static yX0_beginIn ∈ jm_WS := jm_in (List.mem_of_getElem? (i := 361) rfl) (by decide +kernel)
set_option maxRecDepth 100000 in
theorem qw_185 : jm_cd M_X0_clashingReel ∈ jm_WS := jm_in (List.mem_of_getElem? (i := 359) rfl) (by decide +kernel)
set_option maxRecDepth 100000 in
theorem qw_186 : Cond.methodLink RX0 114 yX0_clashingReel ∈ jm_WS := jm_in (List.mem_of_getElem? (i := 356) rfl) (by decide +kernel)
set_option maxRecDepth 100000 in
theorem qw_187 : Cond.instanceMethod yX0_clashingReel ∈ jm_WS := jm_in (List.mem_of_getElem? (i := 357) rfl) (by decide +kernel)
set_option maxRecDepth 100000 in
theorem qw_188 : Cond.selects RX0 yX0_clashingReel yX0_clashingReel ∈ jm_WS := jm_in (List.mem_of_getElem? (i := 358) rfl) (by decide +kernel)
set_option maxRecDepth 100000 in
theorem qw_189 : jm_cd M_X0_lengthOf ∈ jm_WS := jm_in (List.mem_of_getElem? (i := 336) rfl) (by decide +kernel)
set_option maxRecDepth 100000 in
theorem qw_190 : Cond.methodLink RX0 104 yX0_lengthOf ∈ jm_WS := jm_in (List.mem_of_getElem? (i := 333) rfl) (by decide +kernel)
set_option maxRecDepth 100000 in
theorem qw_191 : Cond.instanceMethod yX0_lengthOf ∈ jm_WS := jm_in (List.mem_of_getElem? (i := 334) rfl) (by decide +kernel)
set_option maxRecDepth 100000 in
theorem qw_192 : Cond.selects RX0 yX0_lengthOf yX0_lengthOf ∈ jm_WS := jm_in (List.mem_of_getElem? (i := 335) rfl) (by decide +kernel)
set_option maxRecDepth 100000 in
theorem qw_193 : jm_cd M_X0_takingScreen ∈ jm_WS := jm_in (List.mem_of_getElem? (i := 344) rfl) (by decide +kernel)
set_option maxRecDepth 100000 in
theorem qw_194 : Cond.methodLink RX0 107 yX0_takingScreen ∈ jm_WS := jm_in (List.mem_of_getElem? (i := 341) rfl) (by decide +kernel)
set_option maxRecDepth 100000 in
theorem qw_195 : Cond.instanceMethod yX0_takingScreen ∈ jm_WS := jm_in (List.mem_of_getElem? (i := 343) rfl) (by decide +kernel)
set_option maxRecDepth 100000 in
theorem qw_196 : Cond.selects RX0 yX0_takingScreen yX0_takingScreen ∈ jm_WS := jm_in (List.mem_of_getElem? (i := 4) rfl) (by decide +kernel)
set_option maxRecDepth 100000 in
theorem qw_197 : jm_cd M_X0_takingReel ∈ jm_WS := jm_in (List.mem_of_getElem? (i := 355) rfl) (by decide +kernel)
set_option maxRecDepth 100000 in
theorem qw_198 : Cond.methodLink RX0 111 yX0_takingReel ∈ jm_WS := jm_in (List.mem_of_getElem? (i := 352) rfl) (by decide +kernel)
set_option maxRecDepth 100000 in
theorem qw_199 : Cond.instanceMethod yX0_takingReel ∈ jm_WS := jm_in (List.mem_of_getElem? (i := 354) rfl) (by decide +kernel)

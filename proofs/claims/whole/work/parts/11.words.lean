/-! words by their places -/
set_option maxRecDepth 100000 in
theorem qw_0 : Cond.methodLink RX2 3 objectInit ∈ jm_WS := jm_in (List.mem_of_getElem? (i := 124) (by decide +kernel)) (by decide +kernel)
set_option maxRecDepth 100000 in
theorem qw_1 : Cond.instanceMethod objectInit ∈ jm_WS := jm_in (List.mem_of_getElem? (i := 111) (by decide +kernel)) (by decide +kernel)
set_option maxRecDepth 100000 in
theorem qw_2 : Cond.code objectInit ⟨#[0xb1]⟩ 1 none ∈ jm_WS := jm_in (List.mem_of_getElem? (i := 112) (by decide +kernel)) (by decide +kernel)
set_option maxRecDepth 100000 in
theorem qw_3 : Cond.fieldLink RX2 9 (TX2 0).1 (TX2 0).2.1 (TX2 0).2.2.1 ∈ jm_WS := jm_in (List.mem_of_getElem? (i := 128) (by decide +kernel)) (by decide +kernel)
set_option maxRecDepth 100000 in
theorem qw_4 : Cond.methodLink RX2 15 Lib.Math.max.name ∈ jm_WS := jm_in (List.mem_of_getElem? (i := 125) (by decide +kernel)) (by decide +kernel)
set_option maxRecDepth 100000 in
theorem qw_5 : Cond.static Lib.Math.max.name ∈ jm_WS := jm_in (List.mem_of_getElem? (i := 126) (by decide +kernel)) (by decide +kernel)
set_option maxRecDepth 100000 in
theorem qw_6 : Cond.initialized RJ9 ∈ jm_WS := jm_in (List.mem_of_getElem? (i := 93) (by decide +kernel)) (by decide +kernel)
set_option maxRecDepth 100000 in
theorem qw_7 : Cond.code Lib.Math.max.name Lib.Math.max.code 2 (some .int) ∈ jm_WS := jm_in (List.mem_of_getElem? (i := 127) (by decide +kernel)) (by decide +kernel)
set_option maxRecDepth 100000 in
theorem qw_8 : Cond.arrayClass .int ∈ jm_WS := jm_in (List.mem_of_getElem? (i := 140) (by decide +kernel)) (by decide +kernel)
set_option maxRecDepth 100000 in
theorem qw_9 : Cond.fieldLink RX2 21 (TX2 1).1 (TX2 1).2.1 (TX2 1).2.2.1 ∈ jm_WS := jm_in (List.mem_of_getElem? (i := 129) (by decide +kernel)) (by decide +kernel)
set_option maxRecDepth 100000 in
theorem qw_10 : Cond.fieldLink RX2 25 (TX2 2).1 (TX2 2).2.1 (TX2 2).2.2.1 ∈ jm_WS := jm_in (List.mem_of_getElem? (i := 130) (by decide +kernel)) (by decide +kernel)
set_option maxRecDepth 100000 in
theorem qw_11 : Cond.methodLink RX0 3 objectInit ∈ jm_WS := jm_in (List.mem_of_getElem? (i := 118) (by decide +kernel)) (by decide +kernel)
set_option maxRecDepth 100000 in
theorem qw_12 : Cond.classLink RX0 9 RX2 ∈ jm_WS := jm_in (List.mem_of_getElem? (i := 119) (by decide +kernel)) (by decide +kernel)
set_option maxRecDepth 100000 in
theorem qw_13 : Cond.instantiable RX2 3 ∈ jm_WS := jm_in (List.mem_of_getElem? (i := 120) (by decide +kernel)) (by decide +kernel)
set_option maxRecDepth 100000 in
theorem qw_14 : Cond.initialized RX2 ∈ jm_WS := jm_in (List.mem_of_getElem? (i := 92) (by decide +kernel)) (by decide +kernel)
set_option maxRecDepth 100000 in
theorem qw_15 : Cond.fieldLink RX0 14 (TX0 0).1 (TX0 0).2.1 (TX0 0).2.2.1 ∈ jm_WS := jm_in (List.mem_of_getElem? (i := 149) (by decide +kernel)) (by decide +kernel)
set_option maxRecDepth 100000 in
theorem qw_16 : Cond.fieldLink RX0 20 (TX0 1).1 (TX0 1).2.1 (TX0 1).2.2.1 ∈ jm_WS := jm_in (List.mem_of_getElem? (i := 151) (by decide +kernel)) (by decide +kernel)
set_option maxRecDepth 100000 in
theorem qw_17 : Cond.fieldLink RX0 23 (TX0 2).1 (TX0 2).2.1 (TX0 2).2.2.1 ∈ jm_WS := jm_in (List.mem_of_getElem? (i := 153) (by decide +kernel)) (by decide +kernel)
set_option maxRecDepth 100000 in
theorem qw_18 : Cond.fieldLink RX0 26 (TX0 3).1 (TX0 3).2.1 (TX0 3).2.2.1 ∈ jm_WS := jm_in (List.mem_of_getElem? (i := 155) (by decide +kernel)) (by decide +kernel)
set_option maxRecDepth 100000 in
theorem qw_19 : Cond.fieldLink RX0 29 (TX0 4).1 (TX0 4).2.1 (TX0 4).2.2.1 ∈ jm_WS := jm_in (List.mem_of_getElem? (i := 157) (by decide +kernel)) (by decide +kernel)
set_option maxRecDepth 100000 in
theorem qw_20 : Cond.fieldLink RX0 32 (TX0 5).1 (TX0 5).2.1 (TX0 5).2.2.1 ∈ jm_WS := jm_in (List.mem_of_getElem? (i := 159) (by decide +kernel)) (by decide +kernel)
set_option maxRecDepth 100000 in
theorem qw_21 : Cond.fieldLink RX0 35 (TX0 7).1 (TX0 7).2.1 (TX0 7).2.2.1 ∈ jm_WS := jm_in (List.mem_of_getElem? (i := 163) (by decide +kernel)) (by decide +kernel)
set_option maxRecDepth 100000 in
theorem qw_22 : Cond.fieldLink RX0 39 (TX0 8).1 (TX0 8).2.1 (TX0 8).2.2.1 ∈ jm_WS := jm_in (List.mem_of_getElem? (i := 164) (by decide +kernel)) (by decide +kernel)
set_option maxRecDepth 100000 in
theorem qw_23 : Cond.fieldLink RX0 42 (TX0 9).1 (TX0 9).2.1 (TX0 9).2.2.1 ∈ jm_WS := jm_in (List.mem_of_getElem? (i := 165) (by decide +kernel)) (by decide +kernel)
set_option maxRecDepth 100000 in
theorem qw_24 : Cond.methodLink RX1 3 objectInit ∈ jm_WS := jm_in (List.mem_of_getElem? (i := 193) (by decide +kernel)) (by decide +kernel)
set_option maxRecDepth 100000 in
theorem qw_25 : Cond.methodLink RX3 1 objectInit ∈ jm_WS := jm_in (List.mem_of_getElem? (i := 110) (by decide +kernel)) (by decide +kernel)
set_option maxRecDepth 100000 in
theorem qw_26 : Cond.classLink RX3 7 RX0 ∈ jm_WS := jm_in (List.mem_of_getElem? (i := 113) (by decide +kernel)) (by decide +kernel)
set_option maxRecDepth 100000 in
theorem qw_27 : Cond.instantiable RX0 10 ∈ jm_WS := jm_in (List.mem_of_getElem? (i := 114) (by decide +kernel)) (by decide +kernel)
set_option maxRecDepth 100000 in
theorem qw_28 : Cond.initialized RX0 ∈ jm_WS := jm_in (List.mem_of_getElem? (i := 91) (by decide +kernel)) (by decide +kernel)
set_option maxRecDepth 100000 in
theorem qw_29 : Cond.fieldLink RX3 10 (TX3 0).1 (TX3 0).2.1 (TX3 0).2.2.1 ∈ jm_WS := jm_in (List.mem_of_getElem? (i := 214) (by decide +kernel)) (by decide +kernel)
set_option maxRecDepth 100000 in
theorem qw_30 : Cond.fieldLink RX3 16 (TX3 1).1 (TX3 1).2.1 (TX3 1).2.2.1 ∈ jm_WS := jm_in (List.mem_of_getElem? (i := 215) (by decide +kernel)) (by decide +kernel)
set_option maxRecDepth 100000 in
theorem qw_31 : Cond.fieldLink RX3 19 (TX3 2).1 (TX3 2).2.1 (TX3 2).2.2.1 ∈ jm_WS := jm_in (List.mem_of_getElem? (i := 216) (by decide +kernel)) (by decide +kernel)
set_option maxRecDepth 100000 in
theorem qw_32 : Cond.classLink RX3 23 RX1 ∈ jm_WS := jm_in (List.mem_of_getElem? (i := 188) (by decide +kernel)) (by decide +kernel)
set_option maxRecDepth 100000 in
theorem qw_33 : Cond.instantiable RX1 5 ∈ jm_WS := jm_in (List.mem_of_getElem? (i := 189) (by decide +kernel)) (by decide +kernel)
set_option maxRecDepth 100000 in
theorem qw_34 : Cond.initialized RX1 ∈ jm_WS := jm_in (List.mem_of_getElem? (i := 94) (by decide +kernel)) (by decide +kernel)
set_option maxRecDepth 100000 in
theorem qw_35 : Cond.fieldLink RX3 26 (TX3 3).1 (TX3 3).2.1 (TX3 3).2.2.1 ∈ jm_WS := jm_in (List.mem_of_getElem? (i := 217) (by decide +kernel)) (by decide +kernel)
set_option maxRecDepth 100000 in
theorem qw_36 : Cond.fieldLink RX3 30 (TX3 4).1 (TX3 4).2.1 (TX3 4).2.2.1 ∈ jm_WS := jm_in (List.mem_of_getElem? (i := 218) (by decide +kernel)) (by decide +kernel)
set_option maxRecDepth 100000 in
theorem qw_37 : Cond.fieldLink RX3 178 (TX3 6).1 (TX3 6).2.1 (TX3 6).2.2.1 ∈ jm_WS := jm_in (List.mem_of_getElem? (i := 220) (by decide +kernel)) (by decide +kernel)
set_option maxRecDepth 100000 in
theorem qw_38 : Cond.methodLink RX2 35 arraycopyName ∈ jm_WS := jm_in (List.mem_of_getElem? (i := 293) (by decide +kernel)) (by decide +kernel)
set_option maxRecDepth 100000 in
theorem qw_39 : Cond.native arraycopyName ∈ jm_WS := jm_in (List.mem_of_getElem? (i := 295) (by decide +kernel)) (by decide +kernel)
set_option maxRecDepth 100000 in
theorem qw_40 : Cond.static arraycopyName ∈ jm_WS := jm_in (List.mem_of_getElem? (i := 294) (by decide +kernel)) (by decide +kernel)
set_option maxRecDepth 100000 in
theorem qw_41 : Cond.initialized RJ10 ∈ jm_WS := jm_in (List.mem_of_getElem? (i := 101) (by decide +kernel)) (by decide +kernel)
set_option maxRecDepth 100000 in
theorem qw_42 : Cond.fieldLink RX0 57 (TX0 6).1 (TX0 6).2.1 (TX0 6).2.2.1 ∈ jm_WS := jm_in (List.mem_of_getElem? (i := 161) (by decide +kernel)) (by decide +kernel)
set_option maxRecDepth 100000 in
theorem qw_43 : Cond.fieldLink RX3 42 (TX0 0).1 (TX0 0).2.1 (TX0 0).2.2.1 ∈ jm_WS := jm_in (List.mem_of_getElem? (i := 150) (by decide +kernel)) (by decide +kernel)
set_option maxRecDepth 100000 in
theorem qw_44 : Cond.fieldLink RX3 46 (TX2 2).1 (TX2 2).2.1 (TX2 2).2.2.1 ∈ jm_WS := jm_in (List.mem_of_getElem? (i := 131) (by decide +kernel)) (by decide +kernel)
set_option maxRecDepth 100000 in
theorem qw_45 : Cond.fieldLink RX3 70 (TX0 1).1 (TX0 1).2.1 (TX0 1).2.2.1 ∈ jm_WS := jm_in (List.mem_of_getElem? (i := 152) (by decide +kernel)) (by decide +kernel)
set_option maxRecDepth 100000 in
theorem qw_46 : Cond.fieldLink RX3 82 (TX0 2).1 (TX0 2).2.1 (TX0 2).2.2.1 ∈ jm_WS := jm_in (List.mem_of_getElem? (i := 154) (by decide +kernel)) (by decide +kernel)
set_option maxRecDepth 100000 in
theorem qw_47 : Cond.fieldLink RX0 90 (TX2 2).1 (TX2 2).2.1 (TX2 2).2.2.1 ∈ jm_WS := jm_in (List.mem_of_getElem? (i := 132) (by decide +kernel)) (by decide +kernel)
set_option maxRecDepth 100000 in
theorem qw_48 : Cond.fieldLink RX3 108 (TX0 3).1 (TX0 3).2.1 (TX0 3).2.2.1 ∈ jm_WS := jm_in (List.mem_of_getElem? (i := 156) (by decide +kernel)) (by decide +kernel)
set_option maxRecDepth 100000 in
theorem qw_49 : Cond.constant RJ6 265 (1431655765 : Int32) ∈ jm_WS := jm_in (List.mem_of_getElem? (i := 341) (by decide +kernel)) (by decide +kernel)
set_option maxRecDepth 100000 in
theorem qw_50 : Cond.constant RJ6 266 (858993459 : Int32) ∈ jm_WS := jm_in (List.mem_of_getElem? (i := 342) (by decide +kernel)) (by decide +kernel)
set_option maxRecDepth 100000 in
theorem qw_51 : Cond.constant RJ6 267 (252645135 : Int32) ∈ jm_WS := jm_in (List.mem_of_getElem? (i := 343) (by decide +kernel)) (by decide +kernel)
set_option maxRecDepth 100000 in
theorem qw_52 : Cond.fieldLink RX3 121 (TX0 4).1 (TX0 4).2.1 (TX0 4).2.2.1 ∈ jm_WS := jm_in (List.mem_of_getElem? (i := 158) (by decide +kernel)) (by decide +kernel)
set_option maxRecDepth 100000 in
theorem qw_53 : Cond.fieldLink RX3 152 (TX0 5).1 (TX0 5).2.1 (TX0 5).2.2.1 ∈ jm_WS := jm_in (List.mem_of_getElem? (i := 160) (by decide +kernel)) (by decide +kernel)
set_option maxRecDepth 100000 in
theorem qw_54 : Cond.fieldLink RX3 155 (TX3 7).1 (TX3 7).2.1 (TX3 7).2.2.1 ∈ jm_WS := jm_in (List.mem_of_getElem? (i := 221) (by decide +kernel)) (by decide +kernel)
set_option maxRecDepth 100000 in
theorem qw_55 : Cond.fieldLink RX1 9 (TX1 3).1 (TX1 3).2.1 (TX1 3).2.2.1 ∈ jm_WS := jm_in (List.mem_of_getElem? (i := 200) (by decide +kernel)) (by decide +kernel)
set_option maxRecDepth 100000 in
theorem qw_56 : Cond.fieldLink RX1 15 (TX1 4).1 (TX1 4).2.1 (TX1 4).2.2.1 ∈ jm_WS := jm_in (List.mem_of_getElem? (i := 202) (by decide +kernel)) (by decide +kernel)
set_option maxRecDepth 100000 in
theorem qw_57 : Cond.fieldLink RX1 32 (TX1 2).1 (TX1 2).2.1 (TX1 2).2.2.1 ∈ jm_WS := jm_in (List.mem_of_getElem? (i := 198) (by decide +kernel)) (by decide +kernel)
set_option maxRecDepth 100000 in
theorem qw_58 : Cond.fieldLink RX1 18 (TX1 0).1 (TX1 0).2.1 (TX1 0).2.2.1 ∈ jm_WS := jm_in (List.mem_of_getElem? (i := 194) (by decide +kernel)) (by decide +kernel)
set_option maxRecDepth 100000 in
theorem qw_59 : Cond.fieldLink RX1 29 (TX1 1).1 (TX1 1).2.1 (TX1 1).2.2.1 ∈ jm_WS := jm_in (List.mem_of_getElem? (i := 196) (by decide +kernel)) (by decide +kernel)
set_option maxRecDepth 100000 in
theorem qw_60 : Cond.fieldLink RX3 316 (TX1 0).1 (TX1 0).2.1 (TX1 0).2.2.1 ∈ jm_WS := jm_in (List.mem_of_getElem? (i := 195) (by decide +kernel)) (by decide +kernel)
set_option maxRecDepth 100000 in
theorem qw_61 : Cond.fieldLink RX3 319 (TX1 1).1 (TX1 1).2.1 (TX1 1).2.2.1 ∈ jm_WS := jm_in (List.mem_of_getElem? (i := 197) (by decide +kernel)) (by decide +kernel)
set_option maxRecDepth 100000 in
theorem qw_62 : Cond.fieldLink RX3 322 (TX1 2).1 (TX1 2).2.1 (TX1 2).2.2.1 ∈ jm_WS := jm_in (List.mem_of_getElem? (i := 199) (by decide +kernel)) (by decide +kernel)
set_option maxRecDepth 100000 in
theorem qw_63 : Cond.fieldLink RX3 325 (TX1 3).1 (TX1 3).2.1 (TX1 3).2.2.1 ∈ jm_WS := jm_in (List.mem_of_getElem? (i := 201) (by decide +kernel)) (by decide +kernel)
set_option maxRecDepth 100000 in
theorem qw_64 : Cond.fieldLink RX3 187 (TX3 5).1 (TX3 5).2.1 (TX3 5).2.2.1 ∈ jm_WS := jm_in (List.mem_of_getElem? (i := 219) (by decide +kernel)) (by decide +kernel)
set_option maxRecDepth 100000 in
theorem qw_65 : Cond.methodLink RX0 157 Lib.Math.max.name ∈ jm_WS := jm_in (List.mem_of_getElem? (i := 436) (by decide +kernel)) (by decide +kernel)
set_option maxRecDepth 100000 in
theorem qw_66 : Cond.fieldLink RX3 274 (TX0 6).1 (TX0 6).2.1 (TX0 6).2.2.1 ∈ jm_WS := jm_in (List.mem_of_getElem? (i := 162) (by decide +kernel)) (by decide +kernel)
set_option maxRecDepth 100000 in
theorem qw_67 : Cond.constantDouble RX0 162 (4656510908468559872 : UInt64) ∈ jm_WS := jm_in (List.mem_of_getElem? (i := 445) (by decide +kernel)) (by decide +kernel)
set_option maxRecDepth 100000 in
theorem qw_68 : Cond.constantLong RX3 240 (31 : Int64) ∈ jm_WS := jm_in (List.mem_of_getElem? (i := 301) (by decide +kernel)) (by decide +kernel)
set_option maxRecDepth 100000 in
theorem qw_69 : Cond.constantLong RX3 262 (1023 : Int64) ∈ jm_WS := jm_in (List.mem_of_getElem? (i := 449) (by decide +kernel)) (by decide +kernel)
set_option maxRecDepth 100000 in
theorem qw_70 : Cond.constantDouble RX3 266 (4841369599423283200 : UInt64) ∈ jm_WS := jm_in (List.mem_of_getElem? (i := 451) (by decide +kernel)) (by decide +kernel)
set_option maxRecDepth 100000 in
theorem qw_71 : Cond.constantDouble RX3 264 (4611686018427387904 : UInt64) ∈ jm_WS := jm_in (List.mem_of_getElem? (i := 450) (by decide +kernel)) (by decide +kernel)
set_option maxRecDepth 100000 in
theorem qw_72 : Cond.constantLong RX3 238 (3727 : Int64) ∈ jm_WS := jm_in (List.mem_of_getElem? (i := 300) (by decide +kernel)) (by decide +kernel)
set_option maxRecDepth 100000 in
theorem qw_73 : Cond.fieldLink RX4 7 (TX4 0).1 (TX4 0).2.1 (TX4 0).2.2.1 ∈ jm_WS := jm_in (List.mem_of_getElem? (i := 914) (by decide +kernel)) (by decide +kernel)
set_option maxRecDepth 100000 in
theorem qw_74 : Cond.methodLink RX4 1 objectInit ∈ jm_WS := jm_in (List.mem_of_getElem? (i := 909) (by decide +kernel)) (by decide +kernel)
set_option maxRecDepth 100000 in
theorem qw_75 : Cond.fieldLink RX4 13 (TX4 1).1 (TX4 1).2.1 (TX4 1).2.2.1 ∈ jm_WS := jm_in (List.mem_of_getElem? (i := 915) (by decide +kernel)) (by decide +kernel)
set_option maxRecDepth 100000 in
theorem qw_76 : Cond.fieldLink RX4 16 (TX4 3).1 (TX4 3).2.1 (TX4 3).2.2.1 ∈ jm_WS := jm_in (List.mem_of_getElem? (i := 917) (by decide +kernel)) (by decide +kernel)
set_option maxRecDepth 100000 in
theorem qw_77 : Cond.fieldLink RX4 19 (TX4 5).1 (TX4 5).2.1 (TX4 5).2.2.1 ∈ jm_WS := jm_in (List.mem_of_getElem? (i := 919) (by decide +kernel)) (by decide +kernel)
set_option maxRecDepth 100000 in
theorem qw_78 : Cond.fieldLink RX4 22 (TX4 12).1 (TX4 12).2.1 (TX4 12).2.2.1 ∈ jm_WS := jm_in (List.mem_of_getElem? (i := 926) (by decide +kernel)) (by decide +kernel)
set_option maxRecDepth 100000 in
theorem qw_79 : Cond.fieldLink RX4 29 (TX4 7).1 (TX4 7).2.1 (TX4 7).2.2.1 ∈ jm_WS := jm_in (List.mem_of_getElem? (i := 921) (by decide +kernel)) (by decide +kernel)
set_option maxRecDepth 100000 in
theorem qw_80 : Cond.fieldLink RX4 33 (TX4 2).1 (TX4 2).2.1 (TX4 2).2.2.1 ∈ jm_WS := jm_in (List.mem_of_getElem? (i := 916) (by decide +kernel)) (by decide +kernel)
set_option maxRecDepth 100000 in
theorem qw_81 : Cond.fieldLink RX4 55 (TX4 8).1 (TX4 8).2.1 (TX4 8).2.2.1 ∈ jm_WS := jm_in (List.mem_of_getElem? (i := 922) (by decide +kernel)) (by decide +kernel)
set_option maxRecDepth 100000 in
theorem qw_82 : Cond.fieldLink RX4 58 (TX4 9).1 (TX4 9).2.1 (TX4 9).2.2.1 ∈ jm_WS := jm_in (List.mem_of_getElem? (i := 923) (by decide +kernel)) (by decide +kernel)
set_option maxRecDepth 100000 in
theorem qw_83 : Cond.fieldLink RX4 61 (TX4 10).1 (TX4 10).2.1 (TX4 10).2.2.1 ∈ jm_WS := jm_in (List.mem_of_getElem? (i := 924) (by decide +kernel)) (by decide +kernel)
set_option maxRecDepth 100000 in
theorem qw_84 : Cond.fieldLink RX4 137 (TX4 6).1 (TX4 6).2.1 (TX4 6).2.2.1 ∈ jm_WS := jm_in (List.mem_of_getElem? (i := 920) (by decide +kernel)) (by decide +kernel)
set_option maxRecDepth 100000 in
theorem qw_85 : Cond.fieldLink RX4 140 (TX4 11).1 (TX4 11).2.1 (TX4 11).2.2.1 ∈ jm_WS := jm_in (List.mem_of_getElem? (i := 925) (by decide +kernel)) (by decide +kernel)
set_option maxRecDepth 100000 in
theorem qw_86 : Cond.fieldLink RX4 146 (TX4 13).1 (TX4 13).2.1 (TX4 13).2.2.1 ∈ jm_WS := jm_in (List.mem_of_getElem? (i := 927) (by decide +kernel)) (by decide +kernel)
set_option maxRecDepth 100000 in
theorem qw_87 : Cond.fieldLink RX4 165 (TX4 4).1 (TX4 4).2.1 (TX4 4).2.2.1 ∈ jm_WS := jm_in (List.mem_of_getElem? (i := 918) (by decide +kernel)) (by decide +kernel)
set_option maxRecDepth 100000 in
theorem qw_88 : Cond.constantDouble RX4 245 (4656510908468559872 : UInt64) ∈ jm_WS := jm_in (List.mem_of_getElem? (i := 1313) (by decide +kernel)) (by decide +kernel)
set_option maxRecDepth 100000 in
theorem qw_89 : Cond.constantLong RX4 251 (31 : Int64) ∈ jm_WS := jm_in (List.mem_of_getElem? (i := 1323) (by decide +kernel)) (by decide +kernel)
set_option maxRecDepth 100000 in
theorem qw_90 : Cond.fieldLink RX4 253 (TX4 14).1 (TX4 14).2.1 (TX4 14).2.2.1 ∈ jm_WS := jm_in (List.mem_of_getElem? (i := 928) (by decide +kernel)) (by decide +kernel)
set_option maxRecDepth 100000 in
theorem qw_91 : Cond.constantLong RJxe99ae 137 (9221120237041090560 : Int64) ∈ jm_WS := jm_in (List.mem_of_getElem? (i := 1349) (by decide +kernel)) (by decide +kernel)
set_option maxRecDepth 100000 in
theorem qw_92 : Cond.methodLink RJxe99ae 134 ⟨"java/lang/Double", "doubleToRawLongBits", "(D)J"⟩ ∈ jm_WS := jm_in (List.mem_of_getElem? (i := 1346) (by decide +kernel)) (by decide +kernel)
set_option maxRecDepth 100000 in
theorem qw_93 : Cond.native ⟨"java/lang/Double", "doubleToRawLongBits", "(D)J"⟩ ∈ jm_WS := jm_in (List.mem_of_getElem? (i := 1348) (by decide +kernel)) (by decide +kernel)
set_option maxRecDepth 100000 in
theorem qw_94 : Cond.static ⟨"java/lang/Double", "doubleToRawLongBits", "(D)J"⟩ ∈ jm_WS := jm_in (List.mem_of_getElem? (i := 1347) (by decide +kernel)) (by decide +kernel)
set_option maxRecDepth 100000 in
theorem qw_95 : Cond.initialized RJxe99ae ∈ jm_WS := jm_in (List.mem_of_getElem? (i := 104) (by decide +kernel)) (by decide +kernel)
set_option maxRecDepth 100000 in
theorem qw_96 : Cond.constantLong RX4 277 (3727 : Int64) ∈ jm_WS := jm_in (List.mem_of_getElem? (i := 1318) (by decide +kernel)) (by decide +kernel)
set_option maxRecDepth 100000 in
theorem qw_97 : Cond.classLink RL 13 "java/lang/IllegalArgumentException" ∈ jm_WS := jm_in (List.mem_of_getElem? (i := 491) (by decide +kernel)) (by decide +kernel)
set_option maxRecDepth 100000 in
theorem qw_98 : Cond.classLink RL 15 "java/lang/IllegalStateException" ∈ jm_WS := jm_in (List.mem_of_getElem? (i := 492) (by decide +kernel)) (by decide +kernel)
set_option maxRecDepth 100000 in
theorem qw_99 : Cond.classLink RL 20 "java/lang/IndexOutOfBoundsException" ∈ jm_WS := jm_in (List.mem_of_getElem? (i := 600) (by decide +kernel)) (by decide +kernel)
set_option maxRecDepth 100000 in
theorem qw_100 : Cond.classLink RL 8 RX3 ∈ jm_WS := jm_in (List.mem_of_getElem? (i := 105) (by decide +kernel)) (by decide +kernel)
set_option maxRecDepth 100000 in
theorem qw_101 : Cond.instantiable RX3 8 ∈ jm_WS := jm_in (List.mem_of_getElem? (i := 106) (by decide +kernel)) (by decide +kernel)
set_option maxRecDepth 100000 in
theorem qw_102 : Cond.initialized RX3 ∈ jm_WS := jm_in (List.mem_of_getElem? (i := 90) (by decide +kernel)) (by decide +kernel)
set_option maxRecDepth 100000 in
theorem qw_103 : Cond.classLink RL 104 RX4 ∈ jm_WS := jm_in (List.mem_of_getElem? (i := 904) (by decide +kernel)) (by decide +kernel)
set_option maxRecDepth 100000 in
theorem qw_104 : Cond.instantiable RX4 15 ∈ jm_WS := jm_in (List.mem_of_getElem? (i := 905) (by decide +kernel)) (by decide +kernel)
set_option maxRecDepth 100000 in
theorem qw_105 : Cond.initialized RX4 ∈ jm_WS := jm_in (List.mem_of_getElem? (i := 95) (by decide +kernel)) (by decide +kernel)
set_option maxRecDepth 100000 in
theorem qw_106 : Cond.arrayClass .long ∈ jm_WS := jm_in (List.mem_of_getElem? (i := 1350) (by decide +kernel)) (by decide +kernel)
set_option maxRecDepth 100000 in
theorem qw_107 : Cond.arrayClass .double ∈ jm_WS := jm_in (List.mem_of_getElem? (i := 1351) (by decide +kernel)) (by decide +kernel)
set_option maxRecDepth 100000 in
theorem qw_108 : jm_cd M_X2_init ∈ jm_WS := jm_in (List.mem_of_getElem? (i := 123) (by decide +kernel)) (by decide +kernel)
set_option maxRecDepth 100000 in
theorem qw_109 : Cond.methodLink RX0 11 yX2_init ∈ jm_WS := jm_in (List.mem_of_getElem? (i := 121) (by decide +kernel)) (by decide +kernel)
set_option maxRecDepth 100000 in
theorem qw_110 : Cond.instanceMethod yX2_init ∈ jm_WS := jm_in (List.mem_of_getElem? (i := 122) (by decide +kernel)) (by decide +kernel)
set_option maxRecDepth 100000 in
theorem qw_111 : jm_cd M_X2_put ∈ jm_WS := jm_in (List.mem_of_getElem? (i := 148) (by decide +kernel)) (by decide +kernel)
set_option maxRecDepth 100000 in
theorem qw_112 : Cond.methodLink RX0 49 yX2_put ∈ jm_WS := jm_in (List.mem_of_getElem? (i := 145) (by decide +kernel)) (by decide +kernel)
set_option maxRecDepth 100000 in
theorem qw_113 : Cond.instanceMethod yX2_put ∈ jm_WS := jm_in (List.mem_of_getElem? (i := 146) (by decide +kernel)) (by decide +kernel)
set_option maxRecDepth 100000 in
theorem qw_114 : Cond.selects RX2 yX2_put yX2_put ∈ jm_WS := jm_in (List.mem_of_getElem? (i := 147) (by decide +kernel)) (by decide +kernel)
set_option maxRecDepth 100000 in
theorem qw_115 : jm_cd M_X2_addRow ∈ jm_WS := jm_in (List.mem_of_getElem? (i := 144) (by decide +kernel)) (by decide +kernel)
set_option maxRecDepth 100000 in
theorem qw_116 : Cond.methodLink RX0 45 yX2_addRow ∈ jm_WS := jm_in (List.mem_of_getElem? (i := 141) (by decide +kernel)) (by decide +kernel)
set_option maxRecDepth 100000 in
theorem qw_117 : Cond.instanceMethod yX2_addRow ∈ jm_WS := jm_in (List.mem_of_getElem? (i := 142) (by decide +kernel)) (by decide +kernel)
set_option maxRecDepth 100000 in
theorem qw_118 : Cond.selects RX2 yX2_addRow yX2_addRow ∈ jm_WS := jm_in (List.mem_of_getElem? (i := 143) (by decide +kernel)) (by decide +kernel)
set_option maxRecDepth 100000 in
theorem qw_119 : jm_cd M_X0_init ∈ jm_WS := jm_in (List.mem_of_getElem? (i := 117) (by decide +kernel)) (by decide +kernel)
set_option maxRecDepth 100000 in
theorem qw_120 : Cond.methodLink RX3 9 yX0_init ∈ jm_WS := jm_in (List.mem_of_getElem? (i := 115) (by decide +kernel)) (by decide +kernel)
set_option maxRecDepth 100000 in
theorem qw_121 : Cond.instanceMethod yX0_init ∈ jm_WS := jm_in (List.mem_of_getElem? (i := 116) (by decide +kernel)) (by decide +kernel)
set_option maxRecDepth 100000 in
theorem qw_122 : jm_cd M_X1_init ∈ jm_WS := jm_in (List.mem_of_getElem? (i := 192) (by decide +kernel)) (by decide +kernel)
set_option maxRecDepth 100000 in
theorem qw_123 : Cond.instanceMethod yX1_init ∈ jm_WS := jm_in (List.mem_of_getElem? (i := 191) (by decide +kernel)) (by decide +kernel)
set_option maxRecDepth 100000 in
theorem qw_124 : jm_cd M_X2_takeRows ∈ jm_WS := jm_in (List.mem_of_getElem? (i := 292) (by decide +kernel)) (by decide +kernel)
set_option maxRecDepth 100000 in
theorem qw_125 : Cond.methodLink RX0 53 yX2_takeRows ∈ jm_WS := jm_in (List.mem_of_getElem? (i := 289) (by decide +kernel)) (by decide +kernel)
set_option maxRecDepth 100000 in
theorem qw_126 : Cond.instanceMethod yX2_takeRows ∈ jm_WS := jm_in (List.mem_of_getElem? (i := 290) (by decide +kernel)) (by decide +kernel)
set_option maxRecDepth 100000 in
theorem qw_127 : Cond.selects RX2 yX2_takeRows yX2_takeRows ∈ jm_WS := jm_in (List.mem_of_getElem? (i := 291) (by decide +kernel)) (by decide +kernel)
set_option maxRecDepth 100000 in
theorem qw_128 : jm_cd M_X0_take ∈ jm_WS := jm_in (List.mem_of_getElem? (i := 288) (by decide +kernel)) (by decide +kernel)
set_option maxRecDepth 100000 in
theorem qw_129 : Cond.methodLink RX3 298 yX0_take ∈ jm_WS := jm_in (List.mem_of_getElem? (i := 285) (by decide +kernel)) (by decide +kernel)
set_option maxRecDepth 100000 in
theorem qw_130 : Cond.instanceMethod yX0_take ∈ jm_WS := jm_in (List.mem_of_getElem? (i := 286) (by decide +kernel)) (by decide +kernel)
set_option maxRecDepth 100000 in
theorem qw_131 : Cond.selects RX0 yX0_take yX0_take ∈ jm_WS := jm_in (List.mem_of_getElem? (i := 287) (by decide +kernel)) (by decide +kernel)
set_option maxRecDepth 100000 in
theorem qw_132 : jm_cd M_X3_copyState ∈ jm_WS := jm_in (List.mem_of_getElem? (i := 284) (by decide +kernel)) (by decide +kernel)
set_option maxRecDepth 100000 in
theorem qw_133 : Cond.methodLink RX3 183 yX3_copyState ∈ jm_WS := jm_in (List.mem_of_getElem? (i := 282) (by decide +kernel)) (by decide +kernel)
set_option maxRecDepth 100000 in
theorem qw_134 : Cond.static yX3_copyState ∈ jm_WS := jm_in (List.mem_of_getElem? (i := 283) (by decide +kernel)) (by decide +kernel)
set_option maxRecDepth 100000 in
theorem qw_135 : jm_cd M_X3_dropOldest ∈ jm_WS := jm_in (List.mem_of_getElem? (i := 592) (by decide +kernel)) (by decide +kernel)
set_option maxRecDepth 100000 in
theorem qw_136 : Cond.methodLink RX3 295 yX3_dropOldest ∈ jm_WS := jm_in (List.mem_of_getElem? (i := 589) (by decide +kernel)) (by decide +kernel)
set_option maxRecDepth 100000 in
theorem qw_137 : Cond.instanceMethod yX3_dropOldest ∈ jm_WS := jm_in (List.mem_of_getElem? (i := 591) (by decide +kernel)) (by decide +kernel)
set_option maxRecDepth 100000 in
theorem qw_138 : Cond.selects RX3 yX3_dropOldest yX3_dropOldest ∈ jm_WS := jm_in (List.mem_of_getElem? (i := 26) (by decide +kernel)) (by decide +kernel)
set_option maxRecDepth 100000 in
theorem qw_139 : jm_cd M_X3_isWithin ∈ jm_WS := jm_in (List.mem_of_getElem? (i := 261) (by decide +kernel)) (by decide +kernel)
set_option maxRecDepth 100000 in
theorem qw_140 : Cond.methodLink RX3 34 yX3_isWithin ∈ jm_WS := jm_in (List.mem_of_getElem? (i := 497) (by decide +kernel)) (by decide +kernel)
set_option maxRecDepth 100000 in
theorem qw_141 : Cond.static yX3_isWithin ∈ jm_WS := jm_in (List.mem_of_getElem? (i := 260) (by decide +kernel)) (by decide +kernel)
set_option maxRecDepth 100000 in
theorem qw_142 : jm_cd M_X3_requireArgument ∈ jm_WS := jm_in (List.mem_of_getElem? (i := 500) (by decide +kernel)) (by decide +kernel)
set_option maxRecDepth 100000 in
theorem qw_143 : Cond.methodLink RX3 38 yX3_requireArgument ∈ jm_WS := jm_in (List.mem_of_getElem? (i := 498) (by decide +kernel)) (by decide +kernel)
set_option maxRecDepth 100000 in
theorem qw_144 : Cond.static yX3_requireArgument ∈ jm_WS := jm_in (List.mem_of_getElem? (i := 499) (by decide +kernel)) (by decide +kernel)
set_option maxRecDepth 100000 in
theorem qw_145 : jm_cd M_X3_save ∈ jm_WS := jm_in (List.mem_of_getElem? (i := 588) (by decide +kernel)) (by decide +kernel)
set_option maxRecDepth 100000 in
theorem qw_146 : Cond.methodLink RX3 59 yX3_save ∈ jm_WS := jm_in (List.mem_of_getElem? (i := 585) (by decide +kernel)) (by decide +kernel)
set_option maxRecDepth 100000 in
theorem qw_147 : Cond.instanceMethod yX3_save ∈ jm_WS := jm_in (List.mem_of_getElem? (i := 587) (by decide +kernel)) (by decide +kernel)
set_option maxRecDepth 100000 in
theorem qw_148 : Cond.selects RX3 yX3_save yX3_save ∈ jm_WS := jm_in (List.mem_of_getElem? (i := 25) (by decide +kernel)) (by decide +kernel)
set_option maxRecDepth 100000 in
theorem qw_149 : jm_cd M_X0_addFilm ∈ jm_WS := jm_in (List.mem_of_getElem? (i := 596) (by decide +kernel)) (by decide +kernel)
set_option maxRecDepth 100000 in
theorem qw_150 : Cond.methodLink RX3 62 yX0_addFilm ∈ jm_WS := jm_in (List.mem_of_getElem? (i := 593) (by decide +kernel)) (by decide +kernel)
set_option maxRecDepth 100000 in
theorem qw_151 : Cond.instanceMethod yX0_addFilm ∈ jm_WS := jm_in (List.mem_of_getElem? (i := 594) (by decide +kernel)) (by decide +kernel)
set_option maxRecDepth 100000 in
theorem qw_152 : Cond.selects RX0 yX0_addFilm yX0_addFilm ∈ jm_WS := jm_in (List.mem_of_getElem? (i := 595) (by decide +kernel)) (by decide +kernel)
set_option maxRecDepth 100000 in
theorem qw_153 : jm_cd M_X2_at ∈ jm_WS := jm_in (List.mem_of_getElem? (i := 321) (by decide +kernel)) (by decide +kernel)
set_option maxRecDepth 100000 in
theorem qw_154 : Cond.methodLink RX2 28 yX2_at ∈ jm_WS := jm_in (List.mem_of_getElem? (i := 628) (by decide +kernel)) (by decide +kernel)
set_option maxRecDepth 100000 in
theorem qw_155 : Cond.instanceMethod yX2_at ∈ jm_WS := jm_in (List.mem_of_getElem? (i := 319) (by decide +kernel)) (by decide +kernel)
set_option maxRecDepth 100000 in
theorem qw_156 : Cond.selects RX2 yX2_at yX2_at ∈ jm_WS := jm_in (List.mem_of_getElem? (i := 320) (by decide +kernel)) (by decide +kernel)
set_option maxRecDepth 100000 in
theorem qw_157 : Cond.methodLink RX2 31 yX2_put ∈ jm_WS := jm_in (List.mem_of_getElem? (i := 629) (by decide +kernel)) (by decide +kernel)
set_option maxRecDepth 100000 in
theorem qw_158 : jm_cd M_X3_requireScreen ∈ jm_WS := jm_in (List.mem_of_getElem? (i := 607) (by decide +kernel)) (by decide +kernel)
set_option maxRecDepth 100000 in
theorem qw_159 : Cond.methodLink RX3 66 yX3_requireScreen ∈ jm_WS := jm_in (List.mem_of_getElem? (i := 605) (by decide +kernel)) (by decide +kernel)
set_option maxRecDepth 100000 in
theorem qw_160 : Cond.static yX3_requireScreen ∈ jm_WS := jm_in (List.mem_of_getElem? (i := 606) (by decide +kernel)) (by decide +kernel)
set_option maxRecDepth 100000 in
theorem qw_161 : jm_cd M_X2_exchange ∈ jm_WS := jm_in (List.mem_of_getElem? (i := 627) (by decide +kernel)) (by decide +kernel)
set_option maxRecDepth 100000 in
theorem qw_162 : Cond.methodLink RX3 73 yX2_exchange ∈ jm_WS := jm_in (List.mem_of_getElem? (i := 624) (by decide +kernel)) (by decide +kernel)
set_option maxRecDepth 100000 in
theorem qw_163 : Cond.instanceMethod yX2_exchange ∈ jm_WS := jm_in (List.mem_of_getElem? (i := 625) (by decide +kernel)) (by decide +kernel)
set_option maxRecDepth 100000 in
theorem qw_164 : Cond.selects RX2 yX2_exchange yX2_exchange ∈ jm_WS := jm_in (List.mem_of_getElem? (i := 626) (by decide +kernel)) (by decide +kernel)
set_option maxRecDepth 100000 in
theorem qw_165 : Cond.methodLink RX0 60 yX2_at ∈ jm_WS := jm_in (List.mem_of_getElem? (i := 318) (by decide +kernel)) (by decide +kernel)
set_option maxRecDepth 100000 in
theorem qw_166 : jm_cd M_X0_endOf ∈ jm_WS := jm_in (List.mem_of_getElem? (i := 317) (by decide +kernel)) (by decide +kernel)
set_option maxRecDepth 100000 in
theorem qw_167 : Cond.methodLink RX0 87 yX0_endOf ∈ jm_WS := jm_in (List.mem_of_getElem? (i := 314) (by decide +kernel)) (by decide +kernel)
set_option maxRecDepth 100000 in
theorem qw_168 : Cond.instanceMethod yX0_endOf ∈ jm_WS := jm_in (List.mem_of_getElem? (i := 315) (by decide +kernel)) (by decide +kernel)
set_option maxRecDepth 100000 in
theorem qw_169 : Cond.selects RX0 yX0_endOf yX0_endOf ∈ jm_WS := jm_in (List.mem_of_getElem? (i := 316) (by decide +kernel)) (by decide +kernel)
set_option maxRecDepth 100000 in
theorem qw_170 : jm_cd M_X0_areTooClose ∈ jm_WS := jm_in (List.mem_of_getElem? (i := 382) (by decide +kernel)) (by decide +kernel)
set_option maxRecDepth 100000 in
theorem qw_171 : Cond.methodLink RX0 93 yX0_areTooClose ∈ jm_WS := jm_in (List.mem_of_getElem? (i := 380) (by decide +kernel)) (by decide +kernel)
set_option maxRecDepth 100000 in
theorem qw_172 : Cond.static yX0_areTooClose ∈ jm_WS := jm_in (List.mem_of_getElem? (i := 381) (by decide +kernel)) (by decide +kernel)
set_option maxRecDepth 100000 in
theorem qw_173 : jm_cd M_X0_beginIn ∈ jm_WS := jm_in (List.mem_of_getElem? (i := 393) (by decide +kernel)) (by decide +kernel)
set_option maxRecDepth 100000 in
theorem qw_174 : Cond.methodLink RX0 97 yX0_beginIn ∈ jm_WS := jm_in (List.mem_of_getElem? (i := 391) (by decide +kernel)) (by decide +kernel)
set_option maxRecDepth 100000 in
theorem qw_175 : Cond.static yX0_beginIn ∈ jm_WS := jm_in (List.mem_of_getElem? (i := 392) (by decide +kernel)) (by decide +kernel)
set_option maxRecDepth 100000 in
theorem qw_176 : jm_cd M_X0_clashingReel ∈ jm_WS := jm_in (List.mem_of_getElem? (i := 390) (by decide +kernel)) (by decide +kernel)
set_option maxRecDepth 100000 in
theorem qw_177 : Cond.methodLink RX0 114 yX0_clashingReel ∈ jm_WS := jm_in (List.mem_of_getElem? (i := 387) (by decide +kernel)) (by decide +kernel)
set_option maxRecDepth 100000 in
theorem qw_178 : Cond.instanceMethod yX0_clashingReel ∈ jm_WS := jm_in (List.mem_of_getElem? (i := 388) (by decide +kernel)) (by decide +kernel)
set_option maxRecDepth 100000 in
theorem qw_179 : Cond.selects RX0 yX0_clashingReel yX0_clashingReel ∈ jm_WS := jm_in (List.mem_of_getElem? (i := 389) (by decide +kernel)) (by decide +kernel)
set_option maxRecDepth 100000 in
theorem qw_180 : jm_cd M_X0_lengthOf ∈ jm_WS := jm_in (List.mem_of_getElem? (i := 375) (by decide +kernel)) (by decide +kernel)
set_option maxRecDepth 100000 in
theorem qw_181 : Cond.methodLink RX0 104 yX0_lengthOf ∈ jm_WS := jm_in (List.mem_of_getElem? (i := 372) (by decide +kernel)) (by decide +kernel)
set_option maxRecDepth 100000 in
theorem qw_182 : Cond.instanceMethod yX0_lengthOf ∈ jm_WS := jm_in (List.mem_of_getElem? (i := 373) (by decide +kernel)) (by decide +kernel)
set_option maxRecDepth 100000 in
theorem qw_183 : Cond.selects RX0 yX0_lengthOf yX0_lengthOf ∈ jm_WS := jm_in (List.mem_of_getElem? (i := 374) (by decide +kernel)) (by decide +kernel)
set_option maxRecDepth 100000 in
theorem qw_184 : jm_cd M_X0_takingScreen ∈ jm_WS := jm_in (List.mem_of_getElem? (i := 379) (by decide +kernel)) (by decide +kernel)
set_option maxRecDepth 100000 in
theorem qw_185 : Cond.methodLink RX0 107 yX0_takingScreen ∈ jm_WS := jm_in (List.mem_of_getElem? (i := 376) (by decide +kernel)) (by decide +kernel)
set_option maxRecDepth 100000 in
theorem qw_186 : Cond.instanceMethod yX0_takingScreen ∈ jm_WS := jm_in (List.mem_of_getElem? (i := 378) (by decide +kernel)) (by decide +kernel)
set_option maxRecDepth 100000 in
theorem qw_187 : Cond.selects RX0 yX0_takingScreen yX0_takingScreen ∈ jm_WS := jm_in (List.mem_of_getElem? (i := 11) (by decide +kernel)) (by decide +kernel)
set_option maxRecDepth 100000 in
theorem qw_188 : jm_cd M_X0_takingReel ∈ jm_WS := jm_in (List.mem_of_getElem? (i := 386) (by decide +kernel)) (by decide +kernel)
set_option maxRecDepth 100000 in
theorem qw_189 : Cond.methodLink RX0 111 yX0_takingReel ∈ jm_WS := jm_in (List.mem_of_getElem? (i := 383) (by decide +kernel)) (by decide +kernel)
set_option maxRecDepth 100000 in
theorem qw_190 : Cond.instanceMethod yX0_takingReel ∈ jm_WS := jm_in (List.mem_of_getElem? (i := 385) (by decide +kernel)) (by decide +kernel)
set_option maxRecDepth 100000 in
theorem qw_191 : Cond.selects RX0 yX0_takingReel yX0_takingReel ∈ jm_WS := jm_in (List.mem_of_getElem? (i := 12) (by decide +kernel)) (by decide +kernel)
set_option maxRecDepth 100000 in
theorem qw_192 : jm_cd M_X0_refusalBeside ∈ jm_WS := jm_in (List.mem_of_getElem? (i := 660) (by decide +kernel)) (by decide +kernel)
set_option maxRecDepth 100000 in
theorem qw_193 : Cond.methodLink RX0 101 yX0_refusalBeside ∈ jm_WS := jm_in (List.mem_of_getElem? (i := 657) (by decide +kernel)) (by decide +kernel)
set_option maxRecDepth 100000 in
theorem qw_194 : Cond.instanceMethod yX0_refusalBeside ∈ jm_WS := jm_in (List.mem_of_getElem? (i := 658) (by decide +kernel)) (by decide +kernel)
set_option maxRecDepth 100000 in
theorem qw_195 : Cond.selects RX0 yX0_refusalBeside yX0_refusalBeside ∈ jm_WS := jm_in (List.mem_of_getElem? (i := 659) (by decide +kernel)) (by decide +kernel)
set_option maxRecDepth 100000 in
theorem qw_196 : jm_cd M_X3_requireFilm ∈ jm_WS := jm_in (List.mem_of_getElem? (i := 648) (by decide +kernel)) (by decide +kernel)
set_option maxRecDepth 100000 in
theorem qw_197 : Cond.methodLink RX3 85 yX3_requireFilm ∈ jm_WS := jm_in (List.mem_of_getElem? (i := 645) (by decide +kernel)) (by decide +kernel)
set_option maxRecDepth 100000 in
theorem qw_198 : Cond.instanceMethod yX3_requireFilm ∈ jm_WS := jm_in (List.mem_of_getElem? (i := 647) (by decide +kernel)) (by decide +kernel)
set_option maxRecDepth 100000 in
theorem qw_199 : Cond.selects RX3 yX3_requireFilm yX3_requireFilm ∈ jm_WS := jm_in (List.mem_of_getElem? (i := 27) (by decide +kernel)) (by decide +kernel)
set_option maxRecDepth 100000 in
theorem qw_200 : jm_cd M_X3_requireMinute ∈ jm_WS := jm_in (List.mem_of_getElem? (i := 652) (by decide +kernel)) (by decide +kernel)
set_option maxRecDepth 100000 in
theorem qw_201 : Cond.methodLink RX3 88 yX3_requireMinute ∈ jm_WS := jm_in (List.mem_of_getElem? (i := 650) (by decide +kernel)) (by decide +kernel)
set_option maxRecDepth 100000 in
theorem qw_202 : Cond.static yX3_requireMinute ∈ jm_WS := jm_in (List.mem_of_getElem? (i := 651) (by decide +kernel)) (by decide +kernel)
set_option maxRecDepth 100000 in
theorem qw_203 : jm_cd M_X0_refusal ∈ jm_WS := jm_in (List.mem_of_getElem? (i := 656) (by decide +kernel)) (by decide +kernel)
set_option maxRecDepth 100000 in
theorem qw_204 : Cond.methodLink RX3 91 yX0_refusal ∈ jm_WS := jm_in (List.mem_of_getElem? (i := 653) (by decide +kernel)) (by decide +kernel)
set_option maxRecDepth 100000 in
theorem qw_205 : Cond.instanceMethod yX0_refusal ∈ jm_WS := jm_in (List.mem_of_getElem? (i := 654) (by decide +kernel)) (by decide +kernel)
set_option maxRecDepth 100000 in
theorem qw_206 : Cond.selects RX0 yX0_refusal yX0_refusal ∈ jm_WS := jm_in (List.mem_of_getElem? (i := 655) (by decide +kernel)) (by decide +kernel)
set_option maxRecDepth 100000 in
theorem qw_207 : jm_cd M_X3_requireNotRefused ∈ jm_WS := jm_in (List.mem_of_getElem? (i := 663) (by decide +kernel)) (by decide +kernel)
set_option maxRecDepth 100000 in
theorem qw_208 : Cond.methodLink RX3 95 yX3_requireNotRefused ∈ jm_WS := jm_in (List.mem_of_getElem? (i := 661) (by decide +kernel)) (by decide +kernel)
set_option maxRecDepth 100000 in
theorem qw_209 : Cond.static yX3_requireNotRefused ∈ jm_WS := jm_in (List.mem_of_getElem? (i := 662) (by decide +kernel)) (by decide +kernel)
set_option maxRecDepth 100000 in
theorem qw_210 : jm_cd M_X0_addShowing ∈ jm_WS := jm_in (List.mem_of_getElem? (i := 668) (by decide +kernel)) (by decide +kernel)
set_option maxRecDepth 100000 in
theorem qw_211 : Cond.methodLink RX3 98 yX0_addShowing ∈ jm_WS := jm_in (List.mem_of_getElem? (i := 665) (by decide +kernel)) (by decide +kernel)
set_option maxRecDepth 100000 in
theorem qw_212 : Cond.instanceMethod yX0_addShowing ∈ jm_WS := jm_in (List.mem_of_getElem? (i := 666) (by decide +kernel)) (by decide +kernel)
set_option maxRecDepth 100000 in
theorem qw_213 : Cond.selects RX0 yX0_addShowing yX0_addShowing ∈ jm_WS := jm_in (List.mem_of_getElem? (i := 667) (by decide +kernel)) (by decide +kernel)
set_option maxRecDepth 100000 in
theorem qw_214 : jm_cd M_J6_bitCount_0f7a4 ∈ jm_WS := jm_in (List.mem_of_getElem? (i := 340) (by decide +kernel)) (by decide +kernel)
set_option maxRecDepth 100000 in
theorem qw_215 : Cond.methodLink RX0 64 yJ6_bitCount_0f7a4 ∈ jm_WS := jm_in (List.mem_of_getElem? (i := 338) (by decide +kernel)) (by decide +kernel)
set_option maxRecDepth 100000 in
theorem qw_216 : Cond.static yJ6_bitCount_0f7a4 ∈ jm_WS := jm_in (List.mem_of_getElem? (i := 339) (by decide +kernel)) (by decide +kernel)
set_option maxRecDepth 100000 in
theorem qw_217 : Cond.initialized RJ6 ∈ jm_WS := jm_in (List.mem_of_getElem? (i := 103) (by decide +kernel)) (by decide +kernel)
set_option maxRecDepth 100000 in
theorem qw_218 : jm_cd M_X2_dropRow ∈ jm_WS := jm_in (List.mem_of_getElem? (i := 688) (by decide +kernel)) (by decide +kernel)
set_option maxRecDepth 100000 in
theorem qw_219 : Cond.methodLink RX0 70 yX2_dropRow ∈ jm_WS := jm_in (List.mem_of_getElem? (i := 685) (by decide +kernel)) (by decide +kernel)
set_option maxRecDepth 100000 in
theorem qw_220 : Cond.instanceMethod yX2_dropRow ∈ jm_WS := jm_in (List.mem_of_getElem? (i := 686) (by decide +kernel)) (by decide +kernel)
set_option maxRecDepth 100000 in
theorem qw_221 : Cond.selects RX2 yX2_dropRow yX2_dropRow ∈ jm_WS := jm_in (List.mem_of_getElem? (i := 687) (by decide +kernel)) (by decide +kernel)
set_option maxRecDepth 100000 in
theorem qw_222 : jm_cd M_X3_requireShowing ∈ jm_WS := jm_in (List.mem_of_getElem? (i := 679) (by decide +kernel)) (by decide +kernel)
set_option maxRecDepth 100000 in
theorem qw_223 : Cond.methodLink RX3 101 yX3_requireShowing ∈ jm_WS := jm_in (List.mem_of_getElem? (i := 676) (by decide +kernel)) (by decide +kernel)
set_option maxRecDepth 100000 in
theorem qw_224 : Cond.instanceMethod yX3_requireShowing ∈ jm_WS := jm_in (List.mem_of_getElem? (i := 678) (by decide +kernel)) (by decide +kernel)
set_option maxRecDepth 100000 in
theorem qw_225 : Cond.selects RX3 yX3_requireShowing yX3_requireShowing ∈ jm_WS := jm_in (List.mem_of_getElem? (i := 28) (by decide +kernel)) (by decide +kernel)
set_option maxRecDepth 100000 in
theorem qw_226 : jm_cd M_X0_dropShowing ∈ jm_WS := jm_in (List.mem_of_getElem? (i := 684) (by decide +kernel)) (by decide +kernel)
set_option maxRecDepth 100000 in
theorem qw_227 : Cond.methodLink RX3 104 yX0_dropShowing ∈ jm_WS := jm_in (List.mem_of_getElem? (i := 681) (by decide +kernel)) (by decide +kernel)
set_option maxRecDepth 100000 in
theorem qw_228 : Cond.instanceMethod yX0_dropShowing ∈ jm_WS := jm_in (List.mem_of_getElem? (i := 682) (by decide +kernel)) (by decide +kernel)
set_option maxRecDepth 100000 in
theorem qw_229 : Cond.selects RX0 yX0_dropShowing yX0_dropShowing ∈ jm_WS := jm_in (List.mem_of_getElem? (i := 683) (by decide +kernel)) (by decide +kernel)
set_option maxRecDepth 100000 in
theorem qw_230 : jm_cd M_X3_hasBit ∈ jm_WS := jm_in (List.mem_of_getElem? (i := 350) (by decide +kernel)) (by decide +kernel)
set_option maxRecDepth 100000 in
theorem qw_231 : Cond.static yX3_hasBit ∈ jm_WS := jm_in (List.mem_of_getElem? (i := 349) (by decide +kernel)) (by decide +kernel)
set_option maxRecDepth 100000 in
theorem qw_232 : jm_cd M_X0_goes ∈ jm_WS := jm_in (List.mem_of_getElem? (i := 471) (by decide +kernel)) (by decide +kernel)
set_option maxRecDepth 100000 in
theorem qw_233 : Cond.methodLink RX0 74 yX0_goes ∈ jm_WS := jm_in (List.mem_of_getElem? (i := 468) (by decide +kernel)) (by decide +kernel)
set_option maxRecDepth 100000 in
theorem qw_234 : Cond.instanceMethod yX0_goes ∈ jm_WS := jm_in (List.mem_of_getElem? (i := 469) (by decide +kernel)) (by decide +kernel)
set_option maxRecDepth 100000 in
theorem qw_235 : Cond.selects RX0 yX0_goes yX0_goes ∈ jm_WS := jm_in (List.mem_of_getElem? (i := 470) (by decide +kernel)) (by decide +kernel)
set_option maxRecDepth 100000 in
theorem qw_236 : jm_cd M_X0_canGo ∈ jm_WS := jm_in (List.mem_of_getElem? (i := 704) (by decide +kernel)) (by decide +kernel)
set_option maxRecDepth 100000 in
theorem qw_237 : Cond.methodLink RX0 78 yX0_canGo ∈ jm_WS := jm_in (List.mem_of_getElem? (i := 701) (by decide +kernel)) (by decide +kernel)
set_option maxRecDepth 100000 in
theorem qw_238 : Cond.instanceMethod yX0_canGo ∈ jm_WS := jm_in (List.mem_of_getElem? (i := 702) (by decide +kernel)) (by decide +kernel)
set_option maxRecDepth 100000 in
theorem qw_239 : Cond.selects RX0 yX0_canGo yX0_canGo ∈ jm_WS := jm_in (List.mem_of_getElem? (i := 703) (by decide +kernel)) (by decide +kernel)
set_option maxRecDepth 100000 in
theorem qw_240 : Cond.methodLink RX3 111 yX2_at ∈ jm_WS := jm_in (List.mem_of_getElem? (i := 351) (by decide +kernel)) (by decide +kernel)
set_option maxRecDepth 100000 in
theorem qw_241 : Cond.methodLink RX3 114 yX0_refusalBeside ∈ jm_WS := jm_in (List.mem_of_getElem? (i := 696) (by decide +kernel)) (by decide +kernel)
set_option maxRecDepth 100000 in
theorem qw_242 : jm_cd M_X0_shift ∈ jm_WS := jm_in (List.mem_of_getElem? (i := 700) (by decide +kernel)) (by decide +kernel)
set_option maxRecDepth 100000 in
theorem qw_243 : Cond.methodLink RX3 118 yX0_shift ∈ jm_WS := jm_in (List.mem_of_getElem? (i := 697) (by decide +kernel)) (by decide +kernel)
set_option maxRecDepth 100000 in
theorem qw_244 : Cond.instanceMethod yX0_shift ∈ jm_WS := jm_in (List.mem_of_getElem? (i := 698) (by decide +kernel)) (by decide +kernel)
set_option maxRecDepth 100000 in
theorem qw_245 : Cond.selects RX0 yX0_shift yX0_shift ∈ jm_WS := jm_in (List.mem_of_getElem? (i := 699) (by decide +kernel)) (by decide +kernel)
set_option maxRecDepth 100000 in
theorem qw_246 : jm_cd M_X0_addGuest ∈ jm_WS := jm_in (List.mem_of_getElem? (i := 716) (by decide +kernel)) (by decide +kernel)
set_option maxRecDepth 100000 in
theorem qw_247 : Cond.methodLink RX3 126 yX0_addGuest ∈ jm_WS := jm_in (List.mem_of_getElem? (i := 713) (by decide +kernel)) (by decide +kernel)
set_option maxRecDepth 100000 in
theorem qw_248 : Cond.instanceMethod yX0_addGuest ∈ jm_WS := jm_in (List.mem_of_getElem? (i := 714) (by decide +kernel)) (by decide +kernel)
set_option maxRecDepth 100000 in
theorem qw_249 : Cond.selects RX0 yX0_addGuest yX0_addGuest ∈ jm_WS := jm_in (List.mem_of_getElem? (i := 715) (by decide +kernel)) (by decide +kernel)
set_option maxRecDepth 100000 in
theorem qw_250 : jm_cd M_X0_visitsOf ∈ jm_WS := jm_in (List.mem_of_getElem? (i := 467) (by decide +kernel)) (by decide +kernel)
set_option maxRecDepth 100000 in
theorem qw_251 : Cond.methodLink RX0 81 yX0_visitsOf ∈ jm_WS := jm_in (List.mem_of_getElem? (i := 464) (by decide +kernel)) (by decide +kernel)
set_option maxRecDepth 100000 in
theorem qw_252 : Cond.instanceMethod yX0_visitsOf ∈ jm_WS := jm_in (List.mem_of_getElem? (i := 466) (by decide +kernel)) (by decide +kernel)
set_option maxRecDepth 100000 in
theorem qw_253 : Cond.selects RX0 yX0_visitsOf yX0_visitsOf ∈ jm_WS := jm_in (List.mem_of_getElem? (i := 20) (by decide +kernel)) (by decide +kernel)
set_option maxRecDepth 100000 in
theorem qw_254 : jm_cd M_X3_requireJuror ∈ jm_WS := jm_in (List.mem_of_getElem? (i := 726) (by decide +kernel)) (by decide +kernel)
set_option maxRecDepth 100000 in
theorem qw_255 : Cond.methodLink RX3 129 yX3_requireJuror ∈ jm_WS := jm_in (List.mem_of_getElem? (i := 724) (by decide +kernel)) (by decide +kernel)
set_option maxRecDepth 100000 in
theorem qw_256 : Cond.static yX3_requireJuror ∈ jm_WS := jm_in (List.mem_of_getElem? (i := 725) (by decide +kernel)) (by decide +kernel)
set_option maxRecDepth 100000 in
theorem qw_257 : Cond.methodLink RX3 132 yX0_goes ∈ jm_WS := jm_in (List.mem_of_getElem? (i := 728) (by decide +kernel)) (by decide +kernel)
set_option maxRecDepth 100000 in
theorem qw_258 : Cond.methodLink RX3 136 yX0_canGo ∈ jm_WS := jm_in (List.mem_of_getElem? (i := 729) (by decide +kernel)) (by decide +kernel)
set_option maxRecDepth 100000 in
theorem qw_259 : jm_cd M_X0_addGoer ∈ jm_WS := jm_in (List.mem_of_getElem? (i := 734) (by decide +kernel)) (by decide +kernel)
set_option maxRecDepth 100000 in
theorem qw_260 : Cond.methodLink RX3 141 yX0_addGoer ∈ jm_WS := jm_in (List.mem_of_getElem? (i := 731) (by decide +kernel)) (by decide +kernel)
set_option maxRecDepth 100000 in
theorem qw_261 : Cond.instanceMethod yX0_addGoer ∈ jm_WS := jm_in (List.mem_of_getElem? (i := 732) (by decide +kernel)) (by decide +kernel)
set_option maxRecDepth 100000 in
theorem qw_262 : Cond.selects RX0 yX0_addGoer yX0_addGoer ∈ jm_WS := jm_in (List.mem_of_getElem? (i := 733) (by decide +kernel)) (by decide +kernel)
set_option maxRecDepth 100000 in
theorem qw_263 : jm_cd M_X0_seenBy ∈ jm_WS := jm_in (List.mem_of_getElem? (i := 337) (by decide +kernel)) (by decide +kernel)
set_option maxRecDepth 100000 in
theorem qw_264 : Cond.methodLink RX3 144 yX0_seenBy ∈ jm_WS := jm_in (List.mem_of_getElem? (i := 742) (by decide +kernel)) (by decide +kernel)
set_option maxRecDepth 100000 in
theorem qw_265 : Cond.instanceMethod yX0_seenBy ∈ jm_WS := jm_in (List.mem_of_getElem? (i := 335) (by decide +kernel)) (by decide +kernel)
set_option maxRecDepth 100000 in
theorem qw_266 : Cond.selects RX0 yX0_seenBy yX0_seenBy ∈ jm_WS := jm_in (List.mem_of_getElem? (i := 336) (by decide +kernel)) (by decide +kernel)
set_option maxRecDepth 100000 in
theorem qw_267 : Cond.methodLink RX3 147 yX3_hasBit ∈ jm_WS := jm_in (List.mem_of_getElem? (i := 743) (by decide +kernel)) (by decide +kernel)
set_option maxRecDepth 100000 in
theorem qw_268 : jm_cd M_X1_isLonger ∈ jm_WS := jm_in (List.mem_of_getElem? (i := 273) (by decide +kernel)) (by decide +kernel)
set_option maxRecDepth 100000 in
theorem qw_269 : Cond.methodLink RX1 45 yX1_isLonger ∈ jm_WS := jm_in (List.mem_of_getElem? (i := 271) (by decide +kernel)) (by decide +kernel)
set_option maxRecDepth 100000 in
theorem qw_270 : Cond.static yX1_isLonger ∈ jm_WS := jm_in (List.mem_of_getElem? (i := 272) (by decide +kernel)) (by decide +kernel)
set_option maxRecDepth 100000 in
theorem qw_271 : jm_cd M_X1_startPart ∈ jm_WS := jm_in (List.mem_of_getElem? (i := 254) (by decide +kernel)) (by decide +kernel)
set_option maxRecDepth 100000 in
theorem qw_272 : Cond.methodLink RX1 42 yX1_startPart ∈ jm_WS := jm_in (List.mem_of_getElem? (i := 270) (by decide +kernel)) (by decide +kernel)
set_option maxRecDepth 100000 in
theorem qw_273 : Cond.instanceMethod yX1_startPart ∈ jm_WS := jm_in (List.mem_of_getElem? (i := 252) (by decide +kernel)) (by decide +kernel)
set_option maxRecDepth 100000 in
theorem qw_274 : Cond.selects RX1 yX1_startPart yX1_startPart ∈ jm_WS := jm_in (List.mem_of_getElem? (i := 253) (by decide +kernel)) (by decide +kernel)
set_option maxRecDepth 100000 in
theorem qw_275 : jm_cd M_X1_advance ∈ jm_WS := jm_in (List.mem_of_getElem? (i := 265) (by decide +kernel)) (by decide +kernel)
set_option maxRecDepth 100000 in
theorem qw_276 : Cond.methodLink RX1 25 yX1_advance ∈ jm_WS := jm_in (List.mem_of_getElem? (i := 262) (by decide +kernel)) (by decide +kernel)
set_option maxRecDepth 100000 in
theorem qw_277 : Cond.instanceMethod yX1_advance ∈ jm_WS := jm_in (List.mem_of_getElem? (i := 264) (by decide +kernel)) (by decide +kernel)
set_option maxRecDepth 100000 in
theorem qw_278 : Cond.selects RX1 yX1_advance yX1_advance ∈ jm_WS := jm_in (List.mem_of_getElem? (i := 1) (by decide +kernel)) (by decide +kernel)
set_option maxRecDepth 100000 in
theorem qw_279 : jm_cd M_X1_takeBehindStart ∈ jm_WS := jm_in (List.mem_of_getElem? (i := 269) (by decide +kernel)) (by decide +kernel)
set_option maxRecDepth 100000 in
theorem qw_280 : Cond.methodLink RX1 35 yX1_takeBehindStart ∈ jm_WS := jm_in (List.mem_of_getElem? (i := 266) (by decide +kernel)) (by decide +kernel)
set_option maxRecDepth 100000 in
theorem qw_281 : Cond.instanceMethod yX1_takeBehindStart ∈ jm_WS := jm_in (List.mem_of_getElem? (i := 268) (by decide +kernel)) (by decide +kernel)
set_option maxRecDepth 100000 in
theorem qw_282 : Cond.selects RX1 yX1_takeBehindStart yX1_takeBehindStart ∈ jm_WS := jm_in (List.mem_of_getElem? (i := 2) (by decide +kernel)) (by decide +kernel)
set_option maxRecDepth 100000 in
theorem qw_283 : jm_cd M_X1_takeBehindPause ∈ jm_WS := jm_in (List.mem_of_getElem? (i := 277) (by decide +kernel)) (by decide +kernel)
set_option maxRecDepth 100000 in
theorem qw_284 : Cond.methodLink RX1 39 yX1_takeBehindPause ∈ jm_WS := jm_in (List.mem_of_getElem? (i := 274) (by decide +kernel)) (by decide +kernel)
set_option maxRecDepth 100000 in
theorem qw_285 : Cond.instanceMethod yX1_takeBehindPause ∈ jm_WS := jm_in (List.mem_of_getElem? (i := 276) (by decide +kernel)) (by decide +kernel)
set_option maxRecDepth 100000 in
theorem qw_286 : Cond.selects RX1 yX1_takeBehindPause yX1_takeBehindPause ∈ jm_WS := jm_in (List.mem_of_getElem? (i := 3) (by decide +kernel)) (by decide +kernel)
set_option maxRecDepth 100000 in
theorem qw_287 : Cond.methodLink RX3 302 yX1_startPart ∈ jm_WS := jm_in (List.mem_of_getElem? (i := 251) (by decide +kernel)) (by decide +kernel)
set_option maxRecDepth 100000 in
theorem qw_288 : jm_cd M_X1_takeCode ∈ jm_WS := jm_in (List.mem_of_getElem? (i := 258) (by decide +kernel)) (by decide +kernel)
set_option maxRecDepth 100000 in
theorem qw_289 : Cond.methodLink RX3 305 yX1_takeCode ∈ jm_WS := jm_in (List.mem_of_getElem? (i := 255) (by decide +kernel)) (by decide +kernel)
set_option maxRecDepth 100000 in
theorem qw_290 : Cond.instanceMethod yX1_takeCode ∈ jm_WS := jm_in (List.mem_of_getElem? (i := 256) (by decide +kernel)) (by decide +kernel)
set_option maxRecDepth 100000 in
theorem qw_291 : Cond.selects RX1 yX1_takeCode yX1_takeCode ∈ jm_WS := jm_in (List.mem_of_getElem? (i := 257) (by decide +kernel)) (by decide +kernel)
set_option maxRecDepth 100000 in
theorem qw_292 : jm_cd M_X3_readBuffer ∈ jm_WS := jm_in (List.mem_of_getElem? (i := 250) (by decide +kernel)) (by decide +kernel)
set_option maxRecDepth 100000 in
theorem qw_293 : Cond.methodLink RX3 160 yX3_readBuffer ∈ jm_WS := jm_in (List.mem_of_getElem? (i := 247) (by decide +kernel)) (by decide +kernel)
set_option maxRecDepth 100000 in
theorem qw_294 : Cond.instanceMethod yX3_readBuffer ∈ jm_WS := jm_in (List.mem_of_getElem? (i := 249) (by decide +kernel)) (by decide +kernel)
set_option maxRecDepth 100000 in
theorem qw_295 : Cond.selects RX3 yX3_readBuffer yX3_readBuffer ∈ jm_WS := jm_in (List.mem_of_getElem? (i := 0) (by decide +kernel)) (by decide +kernel)
set_option maxRecDepth 100000 in
theorem qw_296 : jm_cd M_X0_inWay ∈ jm_WS := jm_in (List.mem_of_getElem? (i := 779) (by decide +kernel)) (by decide +kernel)
set_option maxRecDepth 100000 in
theorem qw_297 : Cond.methodLink RX3 219 yX0_inWay ∈ jm_WS := jm_in (List.mem_of_getElem? (i := 776) (by decide +kernel)) (by decide +kernel)
set_option maxRecDepth 100000 in
theorem qw_298 : Cond.instanceMethod yX0_inWay ∈ jm_WS := jm_in (List.mem_of_getElem? (i := 777) (by decide +kernel)) (by decide +kernel)
set_option maxRecDepth 100000 in
theorem qw_299 : Cond.selects RX0 yX0_inWay yX0_inWay ∈ jm_WS := jm_in (List.mem_of_getElem? (i := 778) (by decide +kernel)) (by decide +kernel)
set_option maxRecDepth 100000 in
theorem qw_300 : jm_cd M_X0_setStop ∈ jm_WS := jm_in (List.mem_of_getElem? (i := 771) (by decide +kernel)) (by decide +kernel)
set_option maxRecDepth 100000 in
theorem qw_301 : Cond.methodLink RX3 309 yX0_setStop ∈ jm_WS := jm_in (List.mem_of_getElem? (i := 768) (by decide +kernel)) (by decide +kernel)
set_option maxRecDepth 100000 in
theorem qw_302 : Cond.instanceMethod yX0_setStop ∈ jm_WS := jm_in (List.mem_of_getElem? (i := 769) (by decide +kernel)) (by decide +kernel)
set_option maxRecDepth 100000 in
theorem qw_303 : Cond.selects RX0 yX0_setStop yX0_setStop ∈ jm_WS := jm_in (List.mem_of_getElem? (i := 770) (by decide +kernel)) (by decide +kernel)
set_option maxRecDepth 100000 in
theorem qw_304 : jm_cd M_X3_makePart ∈ jm_WS := jm_in (List.mem_of_getElem? (i := 775) (by decide +kernel)) (by decide +kernel)
set_option maxRecDepth 100000 in
theorem qw_305 : Cond.methodLink RX3 313 yX3_makePart ∈ jm_WS := jm_in (List.mem_of_getElem? (i := 772) (by decide +kernel)) (by decide +kernel)
set_option maxRecDepth 100000 in
theorem qw_306 : Cond.instanceMethod yX3_makePart ∈ jm_WS := jm_in (List.mem_of_getElem? (i := 774) (by decide +kernel)) (by decide +kernel)
set_option maxRecDepth 100000 in
theorem qw_307 : Cond.selects RX3 yX3_makePart yX3_makePart ∈ jm_WS := jm_in (List.mem_of_getElem? (i := 30) (by decide +kernel)) (by decide +kernel)
set_option maxRecDepth 100000 in
theorem qw_308 : jm_cd M_X3_makeShowings ∈ jm_WS := jm_in (List.mem_of_getElem? (i := 767) (by decide +kernel)) (by decide +kernel)
set_option maxRecDepth 100000 in
theorem qw_309 : Cond.methodLink RX3 168 yX3_makeShowings ∈ jm_WS := jm_in (List.mem_of_getElem? (i := 764) (by decide +kernel)) (by decide +kernel)
set_option maxRecDepth 100000 in
theorem qw_310 : Cond.instanceMethod yX3_makeShowings ∈ jm_WS := jm_in (List.mem_of_getElem? (i := 766) (by decide +kernel)) (by decide +kernel)
set_option maxRecDepth 100000 in
theorem qw_311 : Cond.selects RX3 yX3_makeShowings yX3_makeShowings ∈ jm_WS := jm_in (List.mem_of_getElem? (i := 29) (by decide +kernel)) (by decide +kernel)
set_option maxRecDepth 100000 in
theorem qw_312 : jm_cd M_X1_isBehindPart ∈ jm_WS := jm_in (List.mem_of_getElem? (i := 763) (by decide +kernel)) (by decide +kernel)
set_option maxRecDepth 100000 in
theorem qw_313 : Cond.methodLink RX3 164 yX1_isBehindPart ∈ jm_WS := jm_in (List.mem_of_getElem? (i := 760) (by decide +kernel)) (by decide +kernel)
set_option maxRecDepth 100000 in
theorem qw_314 : Cond.instanceMethod yX1_isBehindPart ∈ jm_WS := jm_in (List.mem_of_getElem? (i := 761) (by decide +kernel)) (by decide +kernel)
set_option maxRecDepth 100000 in
theorem qw_315 : Cond.selects RX1 yX1_isBehindPart yX1_isBehindPart ∈ jm_WS := jm_in (List.mem_of_getElem? (i := 762) (by decide +kernel)) (by decide +kernel)
set_option maxRecDepth 100000 in
theorem qw_316 : jm_cd M_X3_requireWhat ∈ jm_WS := jm_in (List.mem_of_getElem? (i := 789) (by decide +kernel)) (by decide +kernel)
set_option maxRecDepth 100000 in
theorem qw_317 : Cond.methodLink RX3 171 yX3_requireWhat ∈ jm_WS := jm_in (List.mem_of_getElem? (i := 787) (by decide +kernel)) (by decide +kernel)
set_option maxRecDepth 100000 in
theorem qw_318 : Cond.static yX3_requireWhat ∈ jm_WS := jm_in (List.mem_of_getElem? (i := 788) (by decide +kernel)) (by decide +kernel)
set_option maxRecDepth 100000 in
theorem qw_319 : jm_cd M_X0_stopNumber ∈ jm_WS := jm_in (List.mem_of_getElem? (i := 487) (by decide +kernel)) (by decide +kernel)
set_option maxRecDepth 100000 in
theorem qw_320 : Cond.methodLink RX3 175 yX0_stopNumber ∈ jm_WS := jm_in (List.mem_of_getElem? (i := 484) (by decide +kernel)) (by decide +kernel)
set_option maxRecDepth 100000 in
theorem qw_321 : Cond.instanceMethod yX0_stopNumber ∈ jm_WS := jm_in (List.mem_of_getElem? (i := 485) (by decide +kernel)) (by decide +kernel)
set_option maxRecDepth 100000 in
theorem qw_322 : Cond.selects RX0 yX0_stopNumber yX0_stopNumber ∈ jm_WS := jm_in (List.mem_of_getElem? (i := 486) (by decide +kernel)) (by decide +kernel)
set_option maxRecDepth 100000 in
theorem qw_323 : Cond.methodLink RX0 133 yX0_seenBy ∈ jm_WS := jm_in (List.mem_of_getElem? (i := 334) (by decide +kernel)) (by decide +kernel)
set_option maxRecDepth 100000 in
theorem qw_324 : jm_cd M_X0_showingsWith ∈ jm_WS := jm_in (List.mem_of_getElem? (i := 363) (by decide +kernel)) (by decide +kernel)
set_option maxRecDepth 100000 in
theorem qw_325 : Cond.methodLink RX0 139 yX0_showingsWith ∈ jm_WS := jm_in (List.mem_of_getElem? (i := 360) (by decide +kernel)) (by decide +kernel)
set_option maxRecDepth 100000 in
theorem qw_326 : Cond.instanceMethod yX0_showingsWith ∈ jm_WS := jm_in (List.mem_of_getElem? (i := 362) (by decide +kernel)) (by decide +kernel)
set_option maxRecDepth 100000 in
theorem qw_327 : Cond.selects RX0 yX0_showingsWith yX0_showingsWith ∈ jm_WS := jm_in (List.mem_of_getElem? (i := 9) (by decide +kernel)) (by decide +kernel)
set_option maxRecDepth 100000 in
theorem qw_328 : jm_cd M_X0_seatsFor ∈ jm_WS := jm_in (List.mem_of_getElem? (i := 367) (by decide +kernel)) (by decide +kernel)
set_option maxRecDepth 100000 in
theorem qw_329 : Cond.methodLink RX0 142 yX0_seatsFor ∈ jm_WS := jm_in (List.mem_of_getElem? (i := 364) (by decide +kernel)) (by decide +kernel)
set_option maxRecDepth 100000 in
theorem qw_330 : Cond.instanceMethod yX0_seatsFor ∈ jm_WS := jm_in (List.mem_of_getElem? (i := 366) (by decide +kernel)) (by decide +kernel)
set_option maxRecDepth 100000 in
theorem qw_331 : Cond.selects RX0 yX0_seatsFor yX0_seatsFor ∈ jm_WS := jm_in (List.mem_of_getElem? (i := 10) (by decide +kernel)) (by decide +kernel)
set_option maxRecDepth 100000 in
theorem qw_332 : jm_cd M_X0_pointsOf ∈ jm_WS := jm_in (List.mem_of_getElem? (i := 347) (by decide +kernel)) (by decide +kernel)
set_option maxRecDepth 100000 in
theorem qw_333 : Cond.methodLink RX0 136 yX0_pointsOf ∈ jm_WS := jm_in (List.mem_of_getElem? (i := 344) (by decide +kernel)) (by decide +kernel)
set_option maxRecDepth 100000 in
theorem qw_334 : Cond.instanceMethod yX0_pointsOf ∈ jm_WS := jm_in (List.mem_of_getElem? (i := 346) (by decide +kernel)) (by decide +kernel)
set_option maxRecDepth 100000 in
theorem qw_335 : Cond.selects RX0 yX0_pointsOf yX0_pointsOf ∈ jm_WS := jm_in (List.mem_of_getElem? (i := 7) (by decide +kernel)) (by decide +kernel)
set_option maxRecDepth 100000 in
theorem qw_336 : jm_cd M_X0_filmNumber ∈ jm_WS := jm_in (List.mem_of_getElem? (i := 359) (by decide +kernel)) (by decide +kernel)
set_option maxRecDepth 100000 in
theorem qw_337 : Cond.methodLink RX3 193 yX0_filmNumber ∈ jm_WS := jm_in (List.mem_of_getElem? (i := 356) (by decide +kernel)) (by decide +kernel)
set_option maxRecDepth 100000 in
theorem qw_338 : Cond.instanceMethod yX0_filmNumber ∈ jm_WS := jm_in (List.mem_of_getElem? (i := 357) (by decide +kernel)) (by decide +kernel)
set_option maxRecDepth 100000 in
theorem qw_339 : Cond.selects RX0 yX0_filmNumber yX0_filmNumber ∈ jm_WS := jm_in (List.mem_of_getElem? (i := 358) (by decide +kernel)) (by decide +kernel)
set_option maxRecDepth 100000 in
theorem qw_340 : jm_cd M_X0_showingNumber ∈ jm_WS := jm_in (List.mem_of_getElem? (i := 410) (by decide +kernel)) (by decide +kernel)
set_option maxRecDepth 100000 in
theorem qw_341 : Cond.methodLink RX3 196 yX0_showingNumber ∈ jm_WS := jm_in (List.mem_of_getElem? (i := 407) (by decide +kernel)) (by decide +kernel)
set_option maxRecDepth 100000 in
theorem qw_342 : Cond.instanceMethod yX0_showingNumber ∈ jm_WS := jm_in (List.mem_of_getElem? (i := 408) (by decide +kernel)) (by decide +kernel)
set_option maxRecDepth 100000 in
theorem qw_343 : Cond.selects RX0 yX0_showingNumber yX0_showingNumber ∈ jm_WS := jm_in (List.mem_of_getElem? (i := 409) (by decide +kernel)) (by decide +kernel)
set_option maxRecDepth 100000 in
theorem qw_344 : jm_cd M_X0_reelBegin ∈ jm_WS := jm_in (List.mem_of_getElem? (i := 397) (by decide +kernel)) (by decide +kernel)
set_option maxRecDepth 100000 in
theorem qw_345 : Cond.methodLink RX3 199 yX0_reelBegin ∈ jm_WS := jm_in (List.mem_of_getElem? (i := 411) (by decide +kernel)) (by decide +kernel)
set_option maxRecDepth 100000 in
theorem qw_346 : Cond.instanceMethod yX0_reelBegin ∈ jm_WS := jm_in (List.mem_of_getElem? (i := 395) (by decide +kernel)) (by decide +kernel)
set_option maxRecDepth 100000 in
theorem qw_347 : Cond.selects RX0 yX0_reelBegin yX0_reelBegin ∈ jm_WS := jm_in (List.mem_of_getElem? (i := 396) (by decide +kernel)) (by decide +kernel)
set_option maxRecDepth 100000 in
theorem qw_348 : jm_cd M_X0_reelAt ∈ jm_WS := jm_in (List.mem_of_getElem? (i := 431) (by decide +kernel)) (by decide +kernel)
set_option maxRecDepth 100000 in
theorem qw_349 : Cond.methodLink RX0 145 yX0_reelAt ∈ jm_WS := jm_in (List.mem_of_getElem? (i := 428) (by decide +kernel)) (by decide +kernel)
set_option maxRecDepth 100000 in
theorem qw_350 : Cond.instanceMethod yX0_reelAt ∈ jm_WS := jm_in (List.mem_of_getElem? (i := 430) (by decide +kernel)) (by decide +kernel)
set_option maxRecDepth 100000 in
theorem qw_351 : Cond.selects RX0 yX0_reelAt yX0_reelAt ∈ jm_WS := jm_in (List.mem_of_getElem? (i := 17) (by decide +kernel)) (by decide +kernel)
set_option maxRecDepth 100000 in
theorem qw_352 : jm_cd M_X0_runningOn ∈ jm_WS := jm_in (List.mem_of_getElem? (i := 440) (by decide +kernel)) (by decide +kernel)
set_option maxRecDepth 100000 in
theorem qw_353 : Cond.methodLink RX3 202 yX0_runningOn ∈ jm_WS := jm_in (List.mem_of_getElem? (i := 437) (by decide +kernel)) (by decide +kernel)
set_option maxRecDepth 100000 in
theorem qw_354 : Cond.instanceMethod yX0_runningOn ∈ jm_WS := jm_in (List.mem_of_getElem? (i := 438) (by decide +kernel)) (by decide +kernel)
set_option maxRecDepth 100000 in
theorem qw_355 : Cond.selects RX0 yX0_runningOn yX0_runningOn ∈ jm_WS := jm_in (List.mem_of_getElem? (i := 439) (by decide +kernel)) (by decide +kernel)
set_option maxRecDepth 100000 in
theorem qw_356 : jm_cd M_X0_reckonedMinutes ∈ jm_WS := jm_in (List.mem_of_getElem? (i := 423) (by decide +kernel)) (by decide +kernel)
set_option maxRecDepth 100000 in
theorem qw_357 : Cond.methodLink RX0 148 yX0_reckonedMinutes ∈ jm_WS := jm_in (List.mem_of_getElem? (i := 420) (by decide +kernel)) (by decide +kernel)
set_option maxRecDepth 100000 in
theorem qw_358 : Cond.instanceMethod yX0_reckonedMinutes ∈ jm_WS := jm_in (List.mem_of_getElem? (i := 422) (by decide +kernel)) (by decide +kernel)
set_option maxRecDepth 100000 in
theorem qw_359 : Cond.selects RX0 yX0_reckonedMinutes yX0_reckonedMinutes ∈ jm_WS := jm_in (List.mem_of_getElem? (i := 15) (by decide +kernel)) (by decide +kernel)
set_option maxRecDepth 100000 in
theorem qw_360 : jm_cd M_X0_countedMinutes ∈ jm_WS := jm_in (List.mem_of_getElem? (i := 427) (by decide +kernel)) (by decide +kernel)
set_option maxRecDepth 100000 in
theorem qw_361 : Cond.methodLink RX0 151 yX0_countedMinutes ∈ jm_WS := jm_in (List.mem_of_getElem? (i := 424) (by decide +kernel)) (by decide +kernel)
set_option maxRecDepth 100000 in
theorem qw_362 : Cond.instanceMethod yX0_countedMinutes ∈ jm_WS := jm_in (List.mem_of_getElem? (i := 426) (by decide +kernel)) (by decide +kernel)
set_option maxRecDepth 100000 in
theorem qw_363 : Cond.selects RX0 yX0_countedMinutes yX0_countedMinutes ∈ jm_WS := jm_in (List.mem_of_getElem? (i := 16) (by decide +kernel)) (by decide +kernel)
set_option maxRecDepth 100000 in
theorem qw_364 : jm_cd M_X0_lastEnd ∈ jm_WS := jm_in (List.mem_of_getElem? (i := 435) (by decide +kernel)) (by decide +kernel)
set_option maxRecDepth 100000 in
theorem qw_365 : Cond.methodLink RX0 154 yX0_lastEnd ∈ jm_WS := jm_in (List.mem_of_getElem? (i := 432) (by decide +kernel)) (by decide +kernel)
set_option maxRecDepth 100000 in
theorem qw_366 : Cond.instanceMethod yX0_lastEnd ∈ jm_WS := jm_in (List.mem_of_getElem? (i := 434) (by decide +kernel)) (by decide +kernel)
set_option maxRecDepth 100000 in
theorem qw_367 : Cond.selects RX0 yX0_lastEnd yX0_lastEnd ∈ jm_WS := jm_in (List.mem_of_getElem? (i := 18) (by decide +kernel)) (by decide +kernel)
set_option maxRecDepth 100000 in
theorem qw_368 : jm_cd M_X0_screenNumber ∈ jm_WS := jm_in (List.mem_of_getElem? (i := 419) (by decide +kernel)) (by decide +kernel)
set_option maxRecDepth 100000 in
theorem qw_369 : Cond.methodLink RX3 205 yX0_screenNumber ∈ jm_WS := jm_in (List.mem_of_getElem? (i := 416) (by decide +kernel)) (by decide +kernel)
set_option maxRecDepth 100000 in
theorem qw_370 : Cond.instanceMethod yX0_screenNumber ∈ jm_WS := jm_in (List.mem_of_getElem? (i := 417) (by decide +kernel)) (by decide +kernel)
set_option maxRecDepth 100000 in
theorem qw_371 : Cond.selects RX0 yX0_screenNumber yX0_screenNumber ∈ jm_WS := jm_in (List.mem_of_getElem? (i := 418) (by decide +kernel)) (by decide +kernel)
set_option maxRecDepth 100000 in
theorem qw_372 : jm_cd M_X0_fits ∈ jm_WS := jm_in (List.mem_of_getElem? (i := 325) (by decide +kernel)) (by decide +kernel)
set_option maxRecDepth 100000 in
theorem qw_373 : Cond.methodLink RX0 127 yX0_fits ∈ jm_WS := jm_in (List.mem_of_getElem? (i := 322) (by decide +kernel)) (by decide +kernel)
set_option maxRecDepth 100000 in
theorem qw_374 : Cond.instanceMethod yX0_fits ∈ jm_WS := jm_in (List.mem_of_getElem? (i := 324) (by decide +kernel)) (by decide +kernel)
set_option maxRecDepth 100000 in
theorem qw_375 : Cond.selects RX0 yX0_fits yX0_fits ∈ jm_WS := jm_in (List.mem_of_getElem? (i := 6) (by decide +kernel)) (by decide +kernel)
set_option maxRecDepth 100000 in
theorem qw_376 : jm_cd M_X0_greetedBy ∈ jm_WS := jm_in (List.mem_of_getElem? (i := 313) (by decide +kernel)) (by decide +kernel)
set_option maxRecDepth 100000 in
theorem qw_377 : Cond.methodLink RX0 130 yX0_greetedBy ∈ jm_WS := jm_in (List.mem_of_getElem? (i := 310) (by decide +kernel)) (by decide +kernel)
set_option maxRecDepth 100000 in
theorem qw_378 : Cond.instanceMethod yX0_greetedBy ∈ jm_WS := jm_in (List.mem_of_getElem? (i := 312) (by decide +kernel)) (by decide +kernel)
set_option maxRecDepth 100000 in
theorem qw_379 : Cond.selects RX0 yX0_greetedBy yX0_greetedBy ∈ jm_WS := jm_in (List.mem_of_getElem? (i := 5) (by decide +kernel)) (by decide +kernel)
set_option maxRecDepth 100000 in
theorem qw_380 : jm_cd M_X0_guestNumber ∈ jm_WS := jm_in (List.mem_of_getElem? (i := 459) (by decide +kernel)) (by decide +kernel)
set_option maxRecDepth 100000 in
theorem qw_381 : Cond.methodLink RX3 210 yX0_guestNumber ∈ jm_WS := jm_in (List.mem_of_getElem? (i := 456) (by decide +kernel)) (by decide +kernel)
set_option maxRecDepth 100000 in
theorem qw_382 : Cond.instanceMethod yX0_guestNumber ∈ jm_WS := jm_in (List.mem_of_getElem? (i := 457) (by decide +kernel)) (by decide +kernel)
set_option maxRecDepth 100000 in
theorem qw_383 : Cond.selects RX0 yX0_guestNumber yX0_guestNumber ∈ jm_WS := jm_in (List.mem_of_getElem? (i := 458) (by decide +kernel)) (by decide +kernel)
set_option maxRecDepth 100000 in
theorem qw_384 : jm_cd M_X0_seenMask ∈ jm_WS := jm_in (List.mem_of_getElem? (i := 475) (by decide +kernel)) (by decide +kernel)
set_option maxRecDepth 100000 in
theorem qw_385 : Cond.methodLink RX0 164 yX0_seenMask ∈ jm_WS := jm_in (List.mem_of_getElem? (i := 472) (by decide +kernel)) (by decide +kernel)
set_option maxRecDepth 100000 in
theorem qw_386 : Cond.instanceMethod yX0_seenMask ∈ jm_WS := jm_in (List.mem_of_getElem? (i := 474) (by decide +kernel)) (by decide +kernel)
set_option maxRecDepth 100000 in
theorem qw_387 : Cond.selects RX0 yX0_seenMask yX0_seenMask ∈ jm_WS := jm_in (List.mem_of_getElem? (i := 21) (by decide +kernel)) (by decide +kernel)
set_option maxRecDepth 100000 in
theorem qw_388 : jm_cd M_X0_pointsFrom ∈ jm_WS := jm_in (List.mem_of_getElem? (i := 479) (by decide +kernel)) (by decide +kernel)
set_option maxRecDepth 100000 in
theorem qw_389 : Cond.methodLink RX0 167 yX0_pointsFrom ∈ jm_WS := jm_in (List.mem_of_getElem? (i := 476) (by decide +kernel)) (by decide +kernel)
set_option maxRecDepth 100000 in
theorem qw_390 : Cond.instanceMethod yX0_pointsFrom ∈ jm_WS := jm_in (List.mem_of_getElem? (i := 478) (by decide +kernel)) (by decide +kernel)
set_option maxRecDepth 100000 in
theorem qw_391 : Cond.selects RX0 yX0_pointsFrom yX0_pointsFrom ∈ jm_WS := jm_in (List.mem_of_getElem? (i := 22) (by decide +kernel)) (by decide +kernel)
set_option maxRecDepth 100000 in
theorem qw_392 : jm_cd M_X0_jurorNumber ∈ jm_WS := jm_in (List.mem_of_getElem? (i := 463) (by decide +kernel)) (by decide +kernel)
set_option maxRecDepth 100000 in
theorem qw_393 : Cond.methodLink RX3 213 yX0_jurorNumber ∈ jm_WS := jm_in (List.mem_of_getElem? (i := 460) (by decide +kernel)) (by decide +kernel)
set_option maxRecDepth 100000 in
theorem qw_394 : Cond.instanceMethod yX0_jurorNumber ∈ jm_WS := jm_in (List.mem_of_getElem? (i := 461) (by decide +kernel)) (by decide +kernel)
set_option maxRecDepth 100000 in
theorem qw_395 : Cond.selects RX0 yX0_jurorNumber yX0_jurorNumber ∈ jm_WS := jm_in (List.mem_of_getElem? (i := 462) (by decide +kernel)) (by decide +kernel)
set_option maxRecDepth 100000 in
theorem qw_396 : jm_cd M_X0_greeters ∈ jm_WS := jm_in (List.mem_of_getElem? (i := 309) (by decide +kernel)) (by decide +kernel)
set_option maxRecDepth 100000 in
theorem qw_397 : Cond.methodLink RX3 268 yX0_greeters ∈ jm_WS := jm_in (List.mem_of_getElem? (i := 306) (by decide +kernel)) (by decide +kernel)
set_option maxRecDepth 100000 in
theorem qw_398 : Cond.instanceMethod yX0_greeters ∈ jm_WS := jm_in (List.mem_of_getElem? (i := 307) (by decide +kernel)) (by decide +kernel)
set_option maxRecDepth 100000 in
theorem qw_399 : Cond.selects RX0 yX0_greeters yX0_greeters ∈ jm_WS := jm_in (List.mem_of_getElem? (i := 308) (by decide +kernel)) (by decide +kernel)
set_option maxRecDepth 100000 in
theorem qw_400 : jm_cd M_X0_allSeats ∈ jm_WS := jm_in (List.mem_of_getElem? (i := 329) (by decide +kernel)) (by decide +kernel)
set_option maxRecDepth 100000 in
theorem qw_401 : Cond.methodLink RX3 271 yX0_allSeats ∈ jm_WS := jm_in (List.mem_of_getElem? (i := 326) (by decide +kernel)) (by decide +kernel)
set_option maxRecDepth 100000 in
theorem qw_402 : Cond.instanceMethod yX0_allSeats ∈ jm_WS := jm_in (List.mem_of_getElem? (i := 327) (by decide +kernel)) (by decide +kernel)
set_option maxRecDepth 100000 in
theorem qw_403 : Cond.selects RX0 yX0_allSeats yX0_allSeats ∈ jm_WS := jm_in (List.mem_of_getElem? (i := 328) (by decide +kernel)) (by decide +kernel)
set_option maxRecDepth 100000 in
theorem qw_404 : jm_cd M_X0_prize ∈ jm_WS := jm_in (List.mem_of_getElem? (i := 333) (by decide +kernel)) (by decide +kernel)
set_option maxRecDepth 100000 in
theorem qw_405 : Cond.methodLink RX3 277 yX0_prize ∈ jm_WS := jm_in (List.mem_of_getElem? (i := 330) (by decide +kernel)) (by decide +kernel)
set_option maxRecDepth 100000 in
theorem qw_406 : Cond.instanceMethod yX0_prize ∈ jm_WS := jm_in (List.mem_of_getElem? (i := 331) (by decide +kernel)) (by decide +kernel)
set_option maxRecDepth 100000 in
theorem qw_407 : Cond.selects RX0 yX0_prize yX0_prize ∈ jm_WS := jm_in (List.mem_of_getElem? (i := 332) (by decide +kernel)) (by decide +kernel)
set_option maxRecDepth 100000 in
theorem qw_408 : jm_cd M_X3_countNumber ∈ jm_WS := jm_in (List.mem_of_getElem? (i := 305) (by decide +kernel)) (by decide +kernel)
set_option maxRecDepth 100000 in
theorem qw_409 : Cond.methodLink RX3 216 yX3_countNumber ∈ jm_WS := jm_in (List.mem_of_getElem? (i := 302) (by decide +kernel)) (by decide +kernel)
set_option maxRecDepth 100000 in
theorem qw_410 : Cond.instanceMethod yX3_countNumber ∈ jm_WS := jm_in (List.mem_of_getElem? (i := 304) (by decide +kernel)) (by decide +kernel)
set_option maxRecDepth 100000 in
theorem qw_411 : Cond.selects RX3 yX3_countNumber yX3_countNumber ∈ jm_WS := jm_in (List.mem_of_getElem? (i := 4) (by decide +kernel)) (by decide +kernel)
set_option maxRecDepth 100000 in
theorem qw_412 : Cond.methodLink RX3 222 yX0_clashingReel ∈ jm_WS := jm_in (List.mem_of_getElem? (i := 870) (by decide +kernel)) (by decide +kernel)
set_option maxRecDepth 100000 in
theorem qw_413 : Cond.methodLink RX0 117 yX0_reelBegin ∈ jm_WS := jm_in (List.mem_of_getElem? (i := 394) (by decide +kernel)) (by decide +kernel)
set_option maxRecDepth 100000 in
theorem qw_414 : jm_cd M_X0_nextFrom ∈ jm_WS := jm_in (List.mem_of_getElem? (i := 371) (by decide +kernel)) (by decide +kernel)
set_option maxRecDepth 100000 in
theorem qw_415 : Cond.methodLink RX3 225 yX0_nextFrom ∈ jm_WS := jm_in (List.mem_of_getElem? (i := 368) (by decide +kernel)) (by decide +kernel)
set_option maxRecDepth 100000 in
theorem qw_416 : Cond.instanceMethod yX0_nextFrom ∈ jm_WS := jm_in (List.mem_of_getElem? (i := 369) (by decide +kernel)) (by decide +kernel)
set_option maxRecDepth 100000 in
theorem qw_417 : Cond.selects RX0 yX0_nextFrom yX0_nextFrom ∈ jm_WS := jm_in (List.mem_of_getElem? (i := 370) (by decide +kernel)) (by decide +kernel)
set_option maxRecDepth 100000 in
theorem qw_418 : Cond.methodLink RX0 120 yX0_nextFrom ∈ jm_WS := jm_in (List.mem_of_getElem? (i := 402) (by decide +kernel)) (by decide +kernel)
set_option maxRecDepth 100000 in
theorem qw_419 : jm_cd M_X0_bestFrom ∈ jm_WS := jm_in (List.mem_of_getElem? (i := 401) (by decide +kernel)) (by decide +kernel)
set_option maxRecDepth 100000 in
theorem qw_420 : Cond.methodLink RX3 228 yX0_bestFrom ∈ jm_WS := jm_in (List.mem_of_getElem? (i := 398) (by decide +kernel)) (by decide +kernel)
set_option maxRecDepth 100000 in
theorem qw_421 : Cond.instanceMethod yX0_bestFrom ∈ jm_WS := jm_in (List.mem_of_getElem? (i := 399) (by decide +kernel)) (by decide +kernel)
set_option maxRecDepth 100000 in
theorem qw_422 : Cond.selects RX0 yX0_bestFrom yX0_bestFrom ∈ jm_WS := jm_in (List.mem_of_getElem? (i := 400) (by decide +kernel)) (by decide +kernel)
set_option maxRecDepth 100000 in
theorem qw_423 : Cond.methodLink RX0 124 yX0_refusal ∈ jm_WS := jm_in (List.mem_of_getElem? (i := 896) (by decide +kernel)) (by decide +kernel)
set_option maxRecDepth 100000 in
theorem qw_424 : jm_cd M_X0_moreGreeters ∈ jm_WS := jm_in (List.mem_of_getElem? (i := 895) (by decide +kernel)) (by decide +kernel)
set_option maxRecDepth 100000 in
theorem qw_425 : Cond.methodLink RX3 231 yX0_moreGreeters ∈ jm_WS := jm_in (List.mem_of_getElem? (i := 892) (by decide +kernel)) (by decide +kernel)
set_option maxRecDepth 100000 in
theorem qw_426 : Cond.instanceMethod yX0_moreGreeters ∈ jm_WS := jm_in (List.mem_of_getElem? (i := 893) (by decide +kernel)) (by decide +kernel)
set_option maxRecDepth 100000 in
theorem qw_427 : Cond.selects RX0 yX0_moreGreeters yX0_moreGreeters ∈ jm_WS := jm_in (List.mem_of_getElem? (i := 894) (by decide +kernel)) (by decide +kernel)
set_option maxRecDepth 100000 in
theorem qw_428 : jm_cd M_X0_share ∈ jm_WS := jm_in (List.mem_of_getElem? (i := 444) (by decide +kernel)) (by decide +kernel)
set_option maxRecDepth 100000 in
theorem qw_429 : Cond.methodLink RX3 234 yX0_share ∈ jm_WS := jm_in (List.mem_of_getElem? (i := 441) (by decide +kernel)) (by decide +kernel)
set_option maxRecDepth 100000 in
theorem qw_430 : Cond.instanceMethod yX0_share ∈ jm_WS := jm_in (List.mem_of_getElem? (i := 442) (by decide +kernel)) (by decide +kernel)
set_option maxRecDepth 100000 in
theorem qw_431 : Cond.selects RX0 yX0_share yX0_share ∈ jm_WS := jm_in (List.mem_of_getElem? (i := 443) (by decide +kernel)) (by decide +kernel)
set_option maxRecDepth 100000 in
theorem qw_432 : jm_cd M_X3_bitsOf ∈ jm_WS := jm_in (List.mem_of_getElem? (i := 448) (by decide +kernel)) (by decide +kernel)
set_option maxRecDepth 100000 in
theorem qw_433 : Cond.methodLink RX3 258 yX3_bitsOf ∈ jm_WS := jm_in (List.mem_of_getElem? (i := 446) (by decide +kernel)) (by decide +kernel)
set_option maxRecDepth 100000 in
theorem qw_434 : Cond.static yX3_bitsOf ∈ jm_WS := jm_in (List.mem_of_getElem? (i := 447) (by decide +kernel)) (by decide +kernel)
set_option maxRecDepth 100000 in
theorem qw_435 : jm_cd M_X3_mixFilms ∈ jm_WS := jm_in (List.mem_of_getElem? (i := 355) (by decide +kernel)) (by decide +kernel)
set_option maxRecDepth 100000 in
theorem qw_436 : Cond.methodLink RX3 242 yX3_mixFilms ∈ jm_WS := jm_in (List.mem_of_getElem? (i := 352) (by decide +kernel)) (by decide +kernel)
set_option maxRecDepth 100000 in
theorem qw_437 : Cond.instanceMethod yX3_mixFilms ∈ jm_WS := jm_in (List.mem_of_getElem? (i := 354) (by decide +kernel)) (by decide +kernel)
set_option maxRecDepth 100000 in
theorem qw_438 : Cond.selects RX3 yX3_mixFilms yX3_mixFilms ∈ jm_WS := jm_in (List.mem_of_getElem? (i := 8) (by decide +kernel)) (by decide +kernel)
set_option maxRecDepth 100000 in
theorem qw_439 : jm_cd M_X3_mixShowings ∈ jm_WS := jm_in (List.mem_of_getElem? (i := 406) (by decide +kernel)) (by decide +kernel)
set_option maxRecDepth 100000 in
theorem qw_440 : Cond.methodLink RX3 246 yX3_mixShowings ∈ jm_WS := jm_in (List.mem_of_getElem? (i := 403) (by decide +kernel)) (by decide +kernel)
set_option maxRecDepth 100000 in
theorem qw_441 : Cond.instanceMethod yX3_mixShowings ∈ jm_WS := jm_in (List.mem_of_getElem? (i := 405) (by decide +kernel)) (by decide +kernel)
set_option maxRecDepth 100000 in
theorem qw_442 : Cond.selects RX3 yX3_mixShowings yX3_mixShowings ∈ jm_WS := jm_in (List.mem_of_getElem? (i := 13) (by decide +kernel)) (by decide +kernel)
set_option maxRecDepth 100000 in
theorem qw_443 : jm_cd M_X3_mixScreens ∈ jm_WS := jm_in (List.mem_of_getElem? (i := 415) (by decide +kernel)) (by decide +kernel)
set_option maxRecDepth 100000 in
theorem qw_444 : Cond.methodLink RX3 249 yX3_mixScreens ∈ jm_WS := jm_in (List.mem_of_getElem? (i := 412) (by decide +kernel)) (by decide +kernel)
set_option maxRecDepth 100000 in
theorem qw_445 : Cond.instanceMethod yX3_mixScreens ∈ jm_WS := jm_in (List.mem_of_getElem? (i := 414) (by decide +kernel)) (by decide +kernel)
set_option maxRecDepth 100000 in
theorem qw_446 : Cond.selects RX3 yX3_mixScreens yX3_mixScreens ∈ jm_WS := jm_in (List.mem_of_getElem? (i := 14) (by decide +kernel)) (by decide +kernel)
set_option maxRecDepth 100000 in
theorem qw_447 : jm_cd M_X3_mixPeople ∈ jm_WS := jm_in (List.mem_of_getElem? (i := 455) (by decide +kernel)) (by decide +kernel)
set_option maxRecDepth 100000 in
theorem qw_448 : Cond.methodLink RX3 252 yX3_mixPeople ∈ jm_WS := jm_in (List.mem_of_getElem? (i := 452) (by decide +kernel)) (by decide +kernel)
set_option maxRecDepth 100000 in
theorem qw_449 : Cond.instanceMethod yX3_mixPeople ∈ jm_WS := jm_in (List.mem_of_getElem? (i := 454) (by decide +kernel)) (by decide +kernel)
set_option maxRecDepth 100000 in
theorem qw_450 : Cond.selects RX3 yX3_mixPeople yX3_mixPeople ∈ jm_WS := jm_in (List.mem_of_getElem? (i := 19) (by decide +kernel)) (by decide +kernel)
set_option maxRecDepth 100000 in
theorem qw_451 : jm_cd M_X3_mixTexts ∈ jm_WS := jm_in (List.mem_of_getElem? (i := 483) (by decide +kernel)) (by decide +kernel)
set_option maxRecDepth 100000 in
theorem qw_452 : Cond.methodLink RX3 255 yX3_mixTexts ∈ jm_WS := jm_in (List.mem_of_getElem? (i := 480) (by decide +kernel)) (by decide +kernel)
set_option maxRecDepth 100000 in
theorem qw_453 : Cond.instanceMethod yX3_mixTexts ∈ jm_WS := jm_in (List.mem_of_getElem? (i := 482) (by decide +kernel)) (by decide +kernel)
set_option maxRecDepth 100000 in
theorem qw_454 : Cond.selects RX3 yX3_mixTexts yX3_mixTexts ∈ jm_WS := jm_in (List.mem_of_getElem? (i := 23) (by decide +kernel)) (by decide +kernel)
set_option maxRecDepth 100000 in
theorem qw_455 : jm_cd M_X4_stops ∈ jm_WS := jm_in (List.mem_of_getElem? (i := 913) (by decide +kernel)) (by decide +kernel)
set_option maxRecDepth 100000 in
theorem qw_456 : Cond.methodLink RX4 25 yX4_stops ∈ jm_WS := jm_in (List.mem_of_getElem? (i := 910) (by decide +kernel)) (by decide +kernel)
set_option maxRecDepth 100000 in
theorem qw_457 : Cond.instanceMethod yX4_stops ∈ jm_WS := jm_in (List.mem_of_getElem? (i := 912) (by decide +kernel)) (by decide +kernel)
set_option maxRecDepth 100000 in
theorem qw_458 : Cond.selects RX4 yX4_stops yX4_stops ∈ jm_WS := jm_in (List.mem_of_getElem? (i := 31) (by decide +kernel)) (by decide +kernel)
set_option maxRecDepth 100000 in
theorem qw_459 : jm_cd M_X4_lays ∈ jm_WS := jm_in (List.mem_of_getElem? (i := 981) (by decide +kernel)) (by decide +kernel)
set_option maxRecDepth 100000 in
theorem qw_460 : Cond.methodLink RX4 36 yX4_lays ∈ jm_WS := jm_in (List.mem_of_getElem? (i := 979) (by decide +kernel)) (by decide +kernel)
set_option maxRecDepth 100000 in
theorem qw_461 : Cond.static yX4_lays ∈ jm_WS := jm_in (List.mem_of_getElem? (i := 980) (by decide +kernel)) (by decide +kernel)
set_option maxRecDepth 100000 in
theorem qw_462 : jm_cd M_X4_minutes ∈ jm_WS := jm_in (List.mem_of_getElem? (i := 1023) (by decide +kernel)) (by decide +kernel)
set_option maxRecDepth 100000 in
theorem qw_463 : Cond.methodLink RX4 40 yX4_minutes ∈ jm_WS := jm_in (List.mem_of_getElem? (i := 1020) (by decide +kernel)) (by decide +kernel)
set_option maxRecDepth 100000 in
theorem qw_464 : Cond.instanceMethod yX4_minutes ∈ jm_WS := jm_in (List.mem_of_getElem? (i := 1022) (by decide +kernel)) (by decide +kernel)
set_option maxRecDepth 100000 in
theorem qw_465 : Cond.selects RX4 yX4_minutes yX4_minutes ∈ jm_WS := jm_in (List.mem_of_getElem? (i := 39) (by decide +kernel)) (by decide +kernel)
set_option maxRecDepth 100000 in
theorem qw_466 : jm_cd M_X4_reels ∈ jm_WS := jm_in (List.mem_of_getElem? (i := 1019) (by decide +kernel)) (by decide +kernel)
set_option maxRecDepth 100000 in
theorem qw_467 : Cond.methodLink RX4 44 yX4_reels ∈ jm_WS := jm_in (List.mem_of_getElem? (i := 1016) (by decide +kernel)) (by decide +kernel)
set_option maxRecDepth 100000 in
theorem qw_468 : Cond.instanceMethod yX4_reels ∈ jm_WS := jm_in (List.mem_of_getElem? (i := 1018) (by decide +kernel)) (by decide +kernel)
set_option maxRecDepth 100000 in
theorem qw_469 : Cond.selects RX4 yX4_reels yX4_reels ∈ jm_WS := jm_in (List.mem_of_getElem? (i := 38) (by decide +kernel)) (by decide +kernel)
set_option maxRecDepth 100000 in
theorem qw_470 : jm_cd M_X4_of ∈ jm_WS := jm_in (List.mem_of_getElem? (i := 1031) (by decide +kernel)) (by decide +kernel)
set_option maxRecDepth 100000 in
theorem qw_471 : Cond.methodLink RX4 47 yX4_of ∈ jm_WS := jm_in (List.mem_of_getElem? (i := 1028) (by decide +kernel)) (by decide +kernel)
set_option maxRecDepth 100000 in
theorem qw_472 : Cond.instanceMethod yX4_of ∈ jm_WS := jm_in (List.mem_of_getElem? (i := 1030) (by decide +kernel)) (by decide +kernel)
set_option maxRecDepth 100000 in
theorem qw_473 : Cond.selects RX4 yX4_of yX4_of ∈ jm_WS := jm_in (List.mem_of_getElem? (i := 41) (by decide +kernel)) (by decide +kernel)
set_option maxRecDepth 100000 in
theorem qw_474 : jm_cd M_X4_ends ∈ jm_WS := jm_in (List.mem_of_getElem? (i := 1015) (by decide +kernel)) (by decide +kernel)
set_option maxRecDepth 100000 in
theorem qw_475 : Cond.methodLink RX4 51 yX4_ends ∈ jm_WS := jm_in (List.mem_of_getElem? (i := 1012) (by decide +kernel)) (by decide +kernel)
set_option maxRecDepth 100000 in
theorem qw_476 : Cond.instanceMethod yX4_ends ∈ jm_WS := jm_in (List.mem_of_getElem? (i := 1014) (by decide +kernel)) (by decide +kernel)
set_option maxRecDepth 100000 in
theorem qw_477 : Cond.selects RX4 yX4_ends yX4_ends ∈ jm_WS := jm_in (List.mem_of_getElem? (i := 37) (by decide +kernel)) (by decide +kernel)
set_option maxRecDepth 100000 in
theorem qw_478 : jm_cd M_X4_begins ∈ jm_WS := jm_in (List.mem_of_getElem? (i := 1046) (by decide +kernel)) (by decide +kernel)
set_option maxRecDepth 100000 in
theorem qw_479 : Cond.methodLink RX4 64 yX4_begins ∈ jm_WS := jm_in (List.mem_of_getElem? (i := 1043) (by decide +kernel)) (by decide +kernel)
set_option maxRecDepth 100000 in
theorem qw_480 : Cond.instanceMethod yX4_begins ∈ jm_WS := jm_in (List.mem_of_getElem? (i := 1045) (by decide +kernel)) (by decide +kernel)
set_option maxRecDepth 100000 in
theorem qw_481 : Cond.selects RX4 yX4_begins yX4_begins ∈ jm_WS := jm_in (List.mem_of_getElem? (i := 44) (by decide +kernel)) (by decide +kernel)
set_option maxRecDepth 100000 in
theorem qw_482 : jm_cd M_X4_isNear ∈ jm_WS := jm_in (List.mem_of_getElem? (i := 1038) (by decide +kernel)) (by decide +kernel)
set_option maxRecDepth 100000 in
theorem qw_483 : Cond.methodLink RX4 68 yX4_isNear ∈ jm_WS := jm_in (List.mem_of_getElem? (i := 1036) (by decide +kernel)) (by decide +kernel)
set_option maxRecDepth 100000 in
theorem qw_484 : Cond.static yX4_isNear ∈ jm_WS := jm_in (List.mem_of_getElem? (i := 1037) (by decide +kernel)) (by decide +kernel)
set_option maxRecDepth 100000 in
theorem qw_485 : jm_cd M_X4_finds ∈ jm_WS := jm_in (List.mem_of_getElem? (i := 1027) (by decide +kernel)) (by decide +kernel)
set_option maxRecDepth 100000 in
theorem qw_486 : Cond.methodLink RX4 72 yX4_finds ∈ jm_WS := jm_in (List.mem_of_getElem? (i := 1024) (by decide +kernel)) (by decide +kernel)
set_option maxRecDepth 100000 in
theorem qw_487 : Cond.instanceMethod yX4_finds ∈ jm_WS := jm_in (List.mem_of_getElem? (i := 1026) (by decide +kernel)) (by decide +kernel)
set_option maxRecDepth 100000 in
theorem qw_488 : Cond.selects RX4 yX4_finds yX4_finds ∈ jm_WS := jm_in (List.mem_of_getElem? (i := 40) (by decide +kernel)) (by decide +kernel)
set_option maxRecDepth 100000 in
theorem qw_489 : jm_cd M_X4_clash ∈ jm_WS := jm_in (List.mem_of_getElem? (i := 1042) (by decide +kernel)) (by decide +kernel)
set_option maxRecDepth 100000 in
theorem qw_490 : Cond.methodLink RX4 78 yX4_clash ∈ jm_WS := jm_in (List.mem_of_getElem? (i := 1039) (by decide +kernel)) (by decide +kernel)
set_option maxRecDepth 100000 in
theorem qw_491 : Cond.instanceMethod yX4_clash ∈ jm_WS := jm_in (List.mem_of_getElem? (i := 1041) (by decide +kernel)) (by decide +kernel)
set_option maxRecDepth 100000 in
theorem qw_492 : Cond.selects RX4 yX4_clash yX4_clash ∈ jm_WS := jm_in (List.mem_of_getElem? (i := 43) (by decide +kernel)) (by decide +kernel)
set_option maxRecDepth 100000 in
theorem qw_493 : jm_cd M_X4_end ∈ jm_WS := jm_in (List.mem_of_getElem? (i := 1035) (by decide +kernel)) (by decide +kernel)
set_option maxRecDepth 100000 in
theorem qw_494 : Cond.methodLink RX4 75 yX4_end ∈ jm_WS := jm_in (List.mem_of_getElem? (i := 1032) (by decide +kernel)) (by decide +kernel)
set_option maxRecDepth 100000 in
theorem qw_495 : Cond.instanceMethod yX4_end ∈ jm_WS := jm_in (List.mem_of_getElem? (i := 1034) (by decide +kernel)) (by decide +kernel)
set_option maxRecDepth 100000 in
theorem qw_496 : Cond.selects RX4 yX4_end yX4_end ∈ jm_WS := jm_in (List.mem_of_getElem? (i := 42) (by decide +kernel)) (by decide +kernel)
set_option maxRecDepth 100000 in
theorem qw_497 : jm_cd M_X4_looks ∈ jm_WS := jm_in (List.mem_of_getElem? (i := 1011) (by decide +kernel)) (by decide +kernel)
set_option maxRecDepth 100000 in
theorem qw_498 : Cond.methodLink RX4 81 yX4_looks ∈ jm_WS := jm_in (List.mem_of_getElem? (i := 1008) (by decide +kernel)) (by decide +kernel)
set_option maxRecDepth 100000 in
theorem qw_499 : Cond.instanceMethod yX4_looks ∈ jm_WS := jm_in (List.mem_of_getElem? (i := 1010) (by decide +kernel)) (by decide +kernel)
set_option maxRecDepth 100000 in
theorem qw_500 : Cond.selects RX4 yX4_looks yX4_looks ∈ jm_WS := jm_in (List.mem_of_getElem? (i := 36) (by decide +kernel)) (by decide +kernel)
set_option maxRecDepth 100000 in
theorem qw_501 : jm_cd M_X4_becomes ∈ jm_WS := jm_in (List.mem_of_getElem? (i := 1054) (by decide +kernel)) (by decide +kernel)
set_option maxRecDepth 100000 in
theorem qw_502 : Cond.methodLink RX4 85 yX4_becomes ∈ jm_WS := jm_in (List.mem_of_getElem? (i := 1051) (by decide +kernel)) (by decide +kernel)
set_option maxRecDepth 100000 in
theorem qw_503 : Cond.instanceMethod yX4_becomes ∈ jm_WS := jm_in (List.mem_of_getElem? (i := 1053) (by decide +kernel)) (by decide +kernel)
set_option maxRecDepth 100000 in
theorem qw_504 : Cond.selects RX4 yX4_becomes yX4_becomes ∈ jm_WS := jm_in (List.mem_of_getElem? (i := 46) (by decide +kernel)) (by decide +kernel)
set_option maxRecDepth 100000 in
theorem qw_505 : jm_cd M_X4_in ∈ jm_WS := jm_in (List.mem_of_getElem? (i := 970) (by decide +kernel)) (by decide +kernel)
set_option maxRecDepth 100000 in
theorem qw_506 : Cond.methodLink RX4 88 yX4_in ∈ jm_WS := jm_in (List.mem_of_getElem? (i := 968) (by decide +kernel)) (by decide +kernel)
set_option maxRecDepth 100000 in
theorem qw_507 : Cond.static yX4_in ∈ jm_WS := jm_in (List.mem_of_getElem? (i := 969) (by decide +kernel)) (by decide +kernel)
set_option maxRecDepth 100000 in
theorem qw_508 : jm_cd M_X4_refuses ∈ jm_WS := jm_in (List.mem_of_getElem? (i := 974) (by decide +kernel)) (by decide +kernel)
set_option maxRecDepth 100000 in
theorem qw_509 : Cond.methodLink RX4 92 yX4_refuses ∈ jm_WS := jm_in (List.mem_of_getElem? (i := 971) (by decide +kernel)) (by decide +kernel)
set_option maxRecDepth 100000 in
theorem qw_510 : Cond.instanceMethod yX4_refuses ∈ jm_WS := jm_in (List.mem_of_getElem? (i := 973) (by decide +kernel)) (by decide +kernel)
set_option maxRecDepth 100000 in
theorem qw_511 : Cond.selects RX4 yX4_refuses yX4_refuses ∈ jm_WS := jm_in (List.mem_of_getElem? (i := 32) (by decide +kernel)) (by decide +kernel)
set_option maxRecDepth 100000 in
theorem qw_512 : jm_cd M_X4_saves ∈ jm_WS := jm_in (List.mem_of_getElem? (i := 978) (by decide +kernel)) (by decide +kernel)
set_option maxRecDepth 100000 in
theorem qw_513 : Cond.methodLink RX4 95 yX4_saves ∈ jm_WS := jm_in (List.mem_of_getElem? (i := 975) (by decide +kernel)) (by decide +kernel)
set_option maxRecDepth 100000 in
theorem qw_514 : Cond.instanceMethod yX4_saves ∈ jm_WS := jm_in (List.mem_of_getElem? (i := 977) (by decide +kernel)) (by decide +kernel)
set_option maxRecDepth 100000 in
theorem qw_515 : Cond.selects RX4 yX4_saves yX4_saves ∈ jm_WS := jm_in (List.mem_of_getElem? (i := 33) (by decide +kernel)) (by decide +kernel)
set_option maxRecDepth 100000 in
theorem qw_516 : jm_cd M_X4_isScreen ∈ jm_WS := jm_in (List.mem_of_getElem? (i := 988) (by decide +kernel)) (by decide +kernel)
set_option maxRecDepth 100000 in
theorem qw_517 : Cond.methodLink RX4 98 yX4_isScreen ∈ jm_WS := jm_in (List.mem_of_getElem? (i := 986) (by decide +kernel)) (by decide +kernel)
set_option maxRecDepth 100000 in
theorem qw_518 : Cond.static yX4_isScreen ∈ jm_WS := jm_in (List.mem_of_getElem? (i := 987) (by decide +kernel)) (by decide +kernel)
set_option maxRecDepth 100000 in
theorem qw_519 : jm_cd M_X4_isFilm ∈ jm_WS := jm_in (List.mem_of_getElem? (i := 1000) (by decide +kernel)) (by decide +kernel)
set_option maxRecDepth 100000 in
theorem qw_520 : Cond.methodLink RX4 102 yX4_isFilm ∈ jm_WS := jm_in (List.mem_of_getElem? (i := 997) (by decide +kernel)) (by decide +kernel)
set_option maxRecDepth 100000 in
theorem qw_521 : Cond.instanceMethod yX4_isFilm ∈ jm_WS := jm_in (List.mem_of_getElem? (i := 999) (by decide +kernel)) (by decide +kernel)
set_option maxRecDepth 100000 in
theorem qw_522 : Cond.selects RX4 yX4_isFilm yX4_isFilm ∈ jm_WS := jm_in (List.mem_of_getElem? (i := 34) (by decide +kernel)) (by decide +kernel)
set_option maxRecDepth 100000 in
theorem qw_523 : jm_cd M_X4_isMinute ∈ jm_WS := jm_in (List.mem_of_getElem? (i := 1003) (by decide +kernel)) (by decide +kernel)
set_option maxRecDepth 100000 in
theorem qw_524 : Cond.methodLink RX4 105 yX4_isMinute ∈ jm_WS := jm_in (List.mem_of_getElem? (i := 1001) (by decide +kernel)) (by decide +kernel)
set_option maxRecDepth 100000 in
theorem qw_525 : Cond.static yX4_isMinute ∈ jm_WS := jm_in (List.mem_of_getElem? (i := 1002) (by decide +kernel)) (by decide +kernel)
set_option maxRecDepth 100000 in
theorem qw_526 : jm_cd M_X4_reason ∈ jm_WS := jm_in (List.mem_of_getElem? (i := 1007) (by decide +kernel)) (by decide +kernel)
set_option maxRecDepth 100000 in
theorem qw_527 : Cond.methodLink RX4 108 yX4_reason ∈ jm_WS := jm_in (List.mem_of_getElem? (i := 1004) (by decide +kernel)) (by decide +kernel)
set_option maxRecDepth 100000 in
theorem qw_528 : Cond.instanceMethod yX4_reason ∈ jm_WS := jm_in (List.mem_of_getElem? (i := 1006) (by decide +kernel)) (by decide +kernel)
set_option maxRecDepth 100000 in
theorem qw_529 : Cond.selects RX4 yX4_reason yX4_reason ∈ jm_WS := jm_in (List.mem_of_getElem? (i := 35) (by decide +kernel)) (by decide +kernel)
set_option maxRecDepth 100000 in
theorem qw_530 : jm_cd M_X4_makes ∈ jm_WS := jm_in (List.mem_of_getElem? (i := 1050) (by decide +kernel)) (by decide +kernel)
set_option maxRecDepth 100000 in
theorem qw_531 : Cond.methodLink RX4 111 yX4_makes ∈ jm_WS := jm_in (List.mem_of_getElem? (i := 1047) (by decide +kernel)) (by decide +kernel)
set_option maxRecDepth 100000 in
theorem qw_532 : Cond.instanceMethod yX4_makes ∈ jm_WS := jm_in (List.mem_of_getElem? (i := 1049) (by decide +kernel)) (by decide +kernel)
set_option maxRecDepth 100000 in
theorem qw_533 : Cond.selects RX4 yX4_makes yX4_makes ∈ jm_WS := jm_in (List.mem_of_getElem? (i := 45) (by decide +kernel)) (by decide +kernel)
set_option maxRecDepth 100000 in
theorem qw_534 : jm_cd M_X4_isShowing ∈ jm_WS := jm_in (List.mem_of_getElem? (i := 1062) (by decide +kernel)) (by decide +kernel)
set_option maxRecDepth 100000 in
theorem qw_535 : Cond.methodLink RX4 115 yX4_isShowing ∈ jm_WS := jm_in (List.mem_of_getElem? (i := 1059) (by decide +kernel)) (by decide +kernel)
set_option maxRecDepth 100000 in
theorem qw_536 : Cond.instanceMethod yX4_isShowing ∈ jm_WS := jm_in (List.mem_of_getElem? (i := 1061) (by decide +kernel)) (by decide +kernel)
set_option maxRecDepth 100000 in
theorem qw_537 : Cond.selects RX4 yX4_isShowing yX4_isShowing ∈ jm_WS := jm_in (List.mem_of_getElem? (i := 47) (by decide +kernel)) (by decide +kernel)
set_option maxRecDepth 100000 in
theorem qw_538 : jm_cd M_X4_bits ∈ jm_WS := jm_in (List.mem_of_getElem? (i := 1065) (by decide +kernel)) (by decide +kernel)
set_option maxRecDepth 100000 in
theorem qw_539 : Cond.methodLink RX4 118 yX4_bits ∈ jm_WS := jm_in (List.mem_of_getElem? (i := 1063) (by decide +kernel)) (by decide +kernel)
set_option maxRecDepth 100000 in
theorem qw_540 : Cond.static yX4_bits ∈ jm_WS := jm_in (List.mem_of_getElem? (i := 1064) (by decide +kernel)) (by decide +kernel)
set_option maxRecDepth 100000 in
theorem qw_541 : jm_cd M_X4_goes ∈ jm_WS := jm_in (List.mem_of_getElem? (i := 1073) (by decide +kernel)) (by decide +kernel)
set_option maxRecDepth 100000 in
theorem qw_542 : Cond.methodLink RX4 121 yX4_goes ∈ jm_WS := jm_in (List.mem_of_getElem? (i := 1070) (by decide +kernel)) (by decide +kernel)
set_option maxRecDepth 100000 in
theorem qw_543 : Cond.instanceMethod yX4_goes ∈ jm_WS := jm_in (List.mem_of_getElem? (i := 1072) (by decide +kernel)) (by decide +kernel)
set_option maxRecDepth 100000 in
theorem qw_544 : Cond.selects RX4 yX4_goes yX4_goes ∈ jm_WS := jm_in (List.mem_of_getElem? (i := 48) (by decide +kernel)) (by decide +kernel)
set_option maxRecDepth 100000 in
theorem qw_545 : jm_cd M_X4_canGo ∈ jm_WS := jm_in (List.mem_of_getElem? (i := 1077) (by decide +kernel)) (by decide +kernel)
set_option maxRecDepth 100000 in
theorem qw_546 : Cond.methodLink RX4 125 yX4_canGo ∈ jm_WS := jm_in (List.mem_of_getElem? (i := 1074) (by decide +kernel)) (by decide +kernel)
set_option maxRecDepth 100000 in
theorem qw_547 : Cond.instanceMethod yX4_canGo ∈ jm_WS := jm_in (List.mem_of_getElem? (i := 1076) (by decide +kernel)) (by decide +kernel)
set_option maxRecDepth 100000 in
theorem qw_548 : Cond.selects RX4 yX4_canGo yX4_canGo ∈ jm_WS := jm_in (List.mem_of_getElem? (i := 49) (by decide +kernel)) (by decide +kernel)
set_option maxRecDepth 100000 in
theorem qw_549 : jm_cd M_X4_isJuror ∈ jm_WS := jm_in (List.mem_of_getElem? (i := 1088) (by decide +kernel)) (by decide +kernel)
set_option maxRecDepth 100000 in
theorem qw_550 : Cond.methodLink RX4 128 yX4_isJuror ∈ jm_WS := jm_in (List.mem_of_getElem? (i := 1086) (by decide +kernel)) (by decide +kernel)
set_option maxRecDepth 100000 in
theorem qw_551 : Cond.static yX4_isJuror ∈ jm_WS := jm_in (List.mem_of_getElem? (i := 1087) (by decide +kernel)) (by decide +kernel)
set_option maxRecDepth 100000 in
theorem qw_552 : jm_cd M_X4_going ∈ jm_WS := jm_in (List.mem_of_getElem? (i := 1092) (by decide +kernel)) (by decide +kernel)
set_option maxRecDepth 100000 in
theorem qw_553 : Cond.methodLink RX4 131 yX4_going ∈ jm_WS := jm_in (List.mem_of_getElem? (i := 1089) (by decide +kernel)) (by decide +kernel)
set_option maxRecDepth 100000 in
theorem qw_554 : Cond.instanceMethod yX4_going ∈ jm_WS := jm_in (List.mem_of_getElem? (i := 1091) (by decide +kernel)) (by decide +kernel)
set_option maxRecDepth 100000 in
theorem qw_555 : Cond.selects RX4 yX4_going yX4_going ∈ jm_WS := jm_in (List.mem_of_getElem? (i := 50) (by decide +kernel)) (by decide +kernel)
set_option maxRecDepth 100000 in
theorem qw_556 : jm_cd M_X4_hasSeen ∈ jm_WS := jm_in (List.mem_of_getElem? (i := 1100) (by decide +kernel)) (by decide +kernel)
set_option maxRecDepth 100000 in
theorem qw_557 : Cond.methodLink RX4 134 yX4_hasSeen ∈ jm_WS := jm_in (List.mem_of_getElem? (i := 1097) (by decide +kernel)) (by decide +kernel)
set_option maxRecDepth 100000 in
theorem qw_558 : Cond.instanceMethod yX4_hasSeen ∈ jm_WS := jm_in (List.mem_of_getElem? (i := 1099) (by decide +kernel)) (by decide +kernel)
set_option maxRecDepth 100000 in
theorem qw_559 : Cond.selects RX4 yX4_hasSeen yX4_hasSeen ∈ jm_WS := jm_in (List.mem_of_getElem? (i := 51) (by decide +kernel)) (by decide +kernel)
set_option maxRecDepth 100000 in
theorem qw_560 : jm_cd M_X4_sees ∈ jm_WS := jm_in (List.mem_of_getElem? (i := 1128) (by decide +kernel)) (by decide +kernel)
set_option maxRecDepth 100000 in
theorem qw_561 : Cond.methodLink RX4 143 yX4_sees ∈ jm_WS := jm_in (List.mem_of_getElem? (i := 1125) (by decide +kernel)) (by decide +kernel)
set_option maxRecDepth 100000 in
theorem qw_562 : Cond.instanceMethod yX4_sees ∈ jm_WS := jm_in (List.mem_of_getElem? (i := 1127) (by decide +kernel)) (by decide +kernel)
set_option maxRecDepth 100000 in
theorem qw_563 : Cond.selects RX4 yX4_sees yX4_sees ∈ jm_WS := jm_in (List.mem_of_getElem? (i := 55) (by decide +kernel)) (by decide +kernel)
set_option maxRecDepth 100000 in
theorem qw_564 : jm_cd M_X4_isNumber ∈ jm_WS := jm_in (List.mem_of_getElem? (i := 1124) (by decide +kernel)) (by decide +kernel)
set_option maxRecDepth 100000 in
theorem qw_565 : Cond.methodLink RX4 149 yX4_isNumber ∈ jm_WS := jm_in (List.mem_of_getElem? (i := 1121) (by decide +kernel)) (by decide +kernel)
set_option maxRecDepth 100000 in
theorem qw_566 : Cond.instanceMethod yX4_isNumber ∈ jm_WS := jm_in (List.mem_of_getElem? (i := 1123) (by decide +kernel)) (by decide +kernel)
set_option maxRecDepth 100000 in
theorem qw_567 : Cond.selects RX4 yX4_isNumber yX4_isNumber ∈ jm_WS := jm_in (List.mem_of_getElem? (i := 54) (by decide +kernel)) (by decide +kernel)
set_option maxRecDepth 100000 in
theorem qw_568 : jm_cd M_X4_takes ∈ jm_WS := jm_in (List.mem_of_getElem? (i := 1132) (by decide +kernel)) (by decide +kernel)
set_option maxRecDepth 100000 in
theorem qw_569 : Cond.methodLink RX4 152 yX4_takes ∈ jm_WS := jm_in (List.mem_of_getElem? (i := 1129) (by decide +kernel)) (by decide +kernel)
set_option maxRecDepth 100000 in
theorem qw_570 : Cond.instanceMethod yX4_takes ∈ jm_WS := jm_in (List.mem_of_getElem? (i := 1131) (by decide +kernel)) (by decide +kernel)
set_option maxRecDepth 100000 in
theorem qw_571 : Cond.selects RX4 yX4_takes yX4_takes ∈ jm_WS := jm_in (List.mem_of_getElem? (i := 56) (by decide +kernel)) (by decide +kernel)
set_option maxRecDepth 100000 in
theorem qw_572 : jm_cd M_X4_isPart ∈ jm_WS := jm_in (List.mem_of_getElem? (i := 1120) (by decide +kernel)) (by decide +kernel)
set_option maxRecDepth 100000 in
theorem qw_573 : Cond.methodLink RX4 155 yX4_isPart ∈ jm_WS := jm_in (List.mem_of_getElem? (i := 1117) (by decide +kernel)) (by decide +kernel)
set_option maxRecDepth 100000 in
theorem qw_574 : Cond.instanceMethod yX4_isPart ∈ jm_WS := jm_in (List.mem_of_getElem? (i := 1119) (by decide +kernel)) (by decide +kernel)
set_option maxRecDepth 100000 in
theorem qw_575 : Cond.selects RX4 yX4_isPart yX4_isPart ∈ jm_WS := jm_in (List.mem_of_getElem? (i := 53) (by decide +kernel)) (by decide +kernel)
set_option maxRecDepth 100000 in
theorem qw_576 : jm_cd M_X4_isWhole ∈ jm_WS := jm_in (List.mem_of_getElem? (i := 1116) (by decide +kernel)) (by decide +kernel)
set_option maxRecDepth 100000 in
theorem qw_577 : Cond.methodLink RX4 159 yX4_isWhole ∈ jm_WS := jm_in (List.mem_of_getElem? (i := 1113) (by decide +kernel)) (by decide +kernel)
set_option maxRecDepth 100000 in
theorem qw_578 : Cond.instanceMethod yX4_isWhole ∈ jm_WS := jm_in (List.mem_of_getElem? (i := 1115) (by decide +kernel)) (by decide +kernel)
set_option maxRecDepth 100000 in
theorem qw_579 : Cond.selects RX4 yX4_isWhole yX4_isWhole ∈ jm_WS := jm_in (List.mem_of_getElem? (i := 52) (by decide +kernel)) (by decide +kernel)
set_option maxRecDepth 100000 in
theorem qw_580 : jm_cd M_X4_isStopped ∈ jm_WS := jm_in (List.mem_of_getElem? (i := 1140) (by decide +kernel)) (by decide +kernel)
set_option maxRecDepth 100000 in
theorem qw_581 : Cond.methodLink RX4 162 yX4_isStopped ∈ jm_WS := jm_in (List.mem_of_getElem? (i := 1137) (by decide +kernel)) (by decide +kernel)
set_option maxRecDepth 100000 in
theorem qw_582 : Cond.instanceMethod yX4_isStopped ∈ jm_WS := jm_in (List.mem_of_getElem? (i := 1139) (by decide +kernel)) (by decide +kernel)
set_option maxRecDepth 100000 in
theorem qw_583 : Cond.selects RX4 yX4_isStopped yX4_isStopped ∈ jm_WS := jm_in (List.mem_of_getElem? (i := 57) (by decide +kernel)) (by decide +kernel)
set_option maxRecDepth 100000 in
theorem qw_584 : jm_cd M_X4_showings ∈ jm_WS := jm_in (List.mem_of_getElem? (i := 1168) (by decide +kernel)) (by decide +kernel)
set_option maxRecDepth 100000 in
theorem qw_585 : Cond.methodLink RX4 169 yX4_showings ∈ jm_WS := jm_in (List.mem_of_getElem? (i := 1165) (by decide +kernel)) (by decide +kernel)
set_option maxRecDepth 100000 in
theorem qw_586 : Cond.instanceMethod yX4_showings ∈ jm_WS := jm_in (List.mem_of_getElem? (i := 1167) (by decide +kernel)) (by decide +kernel)
set_option maxRecDepth 100000 in
theorem qw_587 : Cond.selects RX4 yX4_showings yX4_showings ∈ jm_WS := jm_in (List.mem_of_getElem? (i := 59) (by decide +kernel)) (by decide +kernel)
set_option maxRecDepth 100000 in
theorem qw_588 : jm_cd M_X4_seatsOf ∈ jm_WS := jm_in (List.mem_of_getElem? (i := 1172) (by decide +kernel)) (by decide +kernel)
set_option maxRecDepth 100000 in
theorem qw_589 : Cond.methodLink RX4 172 yX4_seatsOf ∈ jm_WS := jm_in (List.mem_of_getElem? (i := 1169) (by decide +kernel)) (by decide +kernel)
set_option maxRecDepth 100000 in
theorem qw_590 : Cond.instanceMethod yX4_seatsOf ∈ jm_WS := jm_in (List.mem_of_getElem? (i := 1171) (by decide +kernel)) (by decide +kernel)
set_option maxRecDepth 100000 in
theorem qw_591 : Cond.selects RX4 yX4_seatsOf yX4_seatsOf ∈ jm_WS := jm_in (List.mem_of_getElem? (i := 60) (by decide +kernel)) (by decide +kernel)
set_option maxRecDepth 100000 in
theorem qw_592 : jm_cd M_X4_seers ∈ jm_WS := jm_in (List.mem_of_getElem? (i := 1176) (by decide +kernel)) (by decide +kernel)
set_option maxRecDepth 100000 in
theorem qw_593 : Cond.methodLink RX4 175 yX4_seers ∈ jm_WS := jm_in (List.mem_of_getElem? (i := 1173) (by decide +kernel)) (by decide +kernel)
set_option maxRecDepth 100000 in
theorem qw_594 : Cond.instanceMethod yX4_seers ∈ jm_WS := jm_in (List.mem_of_getElem? (i := 1175) (by decide +kernel)) (by decide +kernel)
set_option maxRecDepth 100000 in
theorem qw_595 : Cond.selects RX4 yX4_seers yX4_seers ∈ jm_WS := jm_in (List.mem_of_getElem? (i := 61) (by decide +kernel)) (by decide +kernel)
set_option maxRecDepth 100000 in
theorem qw_596 : jm_cd M_X4_points ∈ jm_WS := jm_in (List.mem_of_getElem? (i := 1180) (by decide +kernel)) (by decide +kernel)
set_option maxRecDepth 100000 in
theorem qw_597 : Cond.methodLink RX4 178 yX4_points ∈ jm_WS := jm_in (List.mem_of_getElem? (i := 1177) (by decide +kernel)) (by decide +kernel)
set_option maxRecDepth 100000 in
theorem qw_598 : Cond.instanceMethod yX4_points ∈ jm_WS := jm_in (List.mem_of_getElem? (i := 1179) (by decide +kernel)) (by decide +kernel)
set_option maxRecDepth 100000 in
theorem qw_599 : Cond.selects RX4 yX4_points yX4_points ∈ jm_WS := jm_in (List.mem_of_getElem? (i := 62) (by decide +kernel)) (by decide +kernel)
set_option maxRecDepth 100000 in
theorem qw_600 : jm_cd M_X4_aboutFilm ∈ jm_WS := jm_in (List.mem_of_getElem? (i := 1164) (by decide +kernel)) (by decide +kernel)
set_option maxRecDepth 100000 in
theorem qw_601 : Cond.methodLink RX4 181 yX4_aboutFilm ∈ jm_WS := jm_in (List.mem_of_getElem? (i := 1161) (by decide +kernel)) (by decide +kernel)
set_option maxRecDepth 100000 in
theorem qw_602 : Cond.instanceMethod yX4_aboutFilm ∈ jm_WS := jm_in (List.mem_of_getElem? (i := 1163) (by decide +kernel)) (by decide +kernel)
set_option maxRecDepth 100000 in
theorem qw_603 : Cond.selects RX4 yX4_aboutFilm yX4_aboutFilm ∈ jm_WS := jm_in (List.mem_of_getElem? (i := 58) (by decide +kernel)) (by decide +kernel)
set_option maxRecDepth 100000 in
theorem qw_604 : jm_cd M_X4_aboutShowing ∈ jm_WS := jm_in (List.mem_of_getElem? (i := 1188) (by decide +kernel)) (by decide +kernel)
set_option maxRecDepth 100000 in
theorem qw_605 : Cond.methodLink RX4 184 yX4_aboutShowing ∈ jm_WS := jm_in (List.mem_of_getElem? (i := 1185) (by decide +kernel)) (by decide +kernel)
set_option maxRecDepth 100000 in
theorem qw_606 : Cond.instanceMethod yX4_aboutShowing ∈ jm_WS := jm_in (List.mem_of_getElem? (i := 1187) (by decide +kernel)) (by decide +kernel)
set_option maxRecDepth 100000 in
theorem qw_607 : Cond.selects RX4 yX4_aboutShowing yX4_aboutShowing ∈ jm_WS := jm_in (List.mem_of_getElem? (i := 63) (by decide +kernel)) (by decide +kernel)
set_option maxRecDepth 100000 in
theorem qw_608 : jm_cd M_X4_reelAt ∈ jm_WS := jm_in (List.mem_of_getElem? (i := 1196) (by decide +kernel)) (by decide +kernel)
set_option maxRecDepth 100000 in
theorem qw_609 : Cond.methodLink RX4 187 yX4_reelAt ∈ jm_WS := jm_in (List.mem_of_getElem? (i := 1193) (by decide +kernel)) (by decide +kernel)
set_option maxRecDepth 100000 in
theorem qw_610 : Cond.instanceMethod yX4_reelAt ∈ jm_WS := jm_in (List.mem_of_getElem? (i := 1195) (by decide +kernel)) (by decide +kernel)
set_option maxRecDepth 100000 in
theorem qw_611 : Cond.selects RX4 yX4_reelAt yX4_reelAt ∈ jm_WS := jm_in (List.mem_of_getElem? (i := 64) (by decide +kernel)) (by decide +kernel)
set_option maxRecDepth 100000 in
theorem qw_612 : jm_cd M_X4_running ∈ jm_WS := jm_in (List.mem_of_getElem? (i := 1204) (by decide +kernel)) (by decide +kernel)
set_option maxRecDepth 100000 in
theorem qw_613 : Cond.methodLink RX4 190 yX4_running ∈ jm_WS := jm_in (List.mem_of_getElem? (i := 1201) (by decide +kernel)) (by decide +kernel)
set_option maxRecDepth 100000 in
theorem qw_614 : Cond.instanceMethod yX4_running ∈ jm_WS := jm_in (List.mem_of_getElem? (i := 1203) (by decide +kernel)) (by decide +kernel)
set_option maxRecDepth 100000 in
theorem qw_615 : Cond.selects RX4 yX4_running yX4_running ∈ jm_WS := jm_in (List.mem_of_getElem? (i := 65) (by decide +kernel)) (by decide +kernel)
set_option maxRecDepth 100000 in
theorem qw_616 : jm_cd M_X4_onScreen ∈ jm_WS := jm_in (List.mem_of_getElem? (i := 1216) (by decide +kernel)) (by decide +kernel)
set_option maxRecDepth 100000 in
theorem qw_617 : Cond.methodLink RX4 193 yX4_onScreen ∈ jm_WS := jm_in (List.mem_of_getElem? (i := 1213) (by decide +kernel)) (by decide +kernel)
set_option maxRecDepth 100000 in
theorem qw_618 : Cond.instanceMethod yX4_onScreen ∈ jm_WS := jm_in (List.mem_of_getElem? (i := 1215) (by decide +kernel)) (by decide +kernel)
set_option maxRecDepth 100000 in
theorem qw_619 : Cond.selects RX4 yX4_onScreen yX4_onScreen ∈ jm_WS := jm_in (List.mem_of_getElem? (i := 67) (by decide +kernel)) (by decide +kernel)
set_option maxRecDepth 100000 in
theorem qw_620 : jm_cd M_X4_used ∈ jm_WS := jm_in (List.mem_of_getElem? (i := 1220) (by decide +kernel)) (by decide +kernel)
set_option maxRecDepth 100000 in
theorem qw_621 : Cond.methodLink RX4 196 yX4_used ∈ jm_WS := jm_in (List.mem_of_getElem? (i := 1217) (by decide +kernel)) (by decide +kernel)
set_option maxRecDepth 100000 in
theorem qw_622 : Cond.instanceMethod yX4_used ∈ jm_WS := jm_in (List.mem_of_getElem? (i := 1219) (by decide +kernel)) (by decide +kernel)
set_option maxRecDepth 100000 in
theorem qw_623 : Cond.selects RX4 yX4_used yX4_used ∈ jm_WS := jm_in (List.mem_of_getElem? (i := 68) (by decide +kernel)) (by decide +kernel)
set_option maxRecDepth 100000 in
theorem qw_624 : jm_cd M_X4_last ∈ jm_WS := jm_in (List.mem_of_getElem? (i := 1224) (by decide +kernel)) (by decide +kernel)
set_option maxRecDepth 100000 in
theorem qw_625 : Cond.methodLink RX4 199 yX4_last ∈ jm_WS := jm_in (List.mem_of_getElem? (i := 1221) (by decide +kernel)) (by decide +kernel)
set_option maxRecDepth 100000 in
theorem qw_626 : Cond.instanceMethod yX4_last ∈ jm_WS := jm_in (List.mem_of_getElem? (i := 1223) (by decide +kernel)) (by decide +kernel)
set_option maxRecDepth 100000 in
theorem qw_627 : Cond.selects RX4 yX4_last yX4_last ∈ jm_WS := jm_in (List.mem_of_getElem? (i := 69) (by decide +kernel)) (by decide +kernel)
set_option maxRecDepth 100000 in
theorem qw_628 : jm_cd M_X4_aboutScreen ∈ jm_WS := jm_in (List.mem_of_getElem? (i := 1212) (by decide +kernel)) (by decide +kernel)
set_option maxRecDepth 100000 in
theorem qw_629 : Cond.methodLink RX4 202 yX4_aboutScreen ∈ jm_WS := jm_in (List.mem_of_getElem? (i := 1209) (by decide +kernel)) (by decide +kernel)
set_option maxRecDepth 100000 in
theorem qw_630 : Cond.instanceMethod yX4_aboutScreen ∈ jm_WS := jm_in (List.mem_of_getElem? (i := 1211) (by decide +kernel)) (by decide +kernel)
set_option maxRecDepth 100000 in
theorem qw_631 : Cond.selects RX4 yX4_aboutScreen yX4_aboutScreen ∈ jm_WS := jm_in (List.mem_of_getElem? (i := 66) (by decide +kernel)) (by decide +kernel)
set_option maxRecDepth 100000 in
theorem qw_632 : jm_cd M_X4_guestHas ∈ jm_WS := jm_in (List.mem_of_getElem? (i := 1236) (by decide +kernel)) (by decide +kernel)
set_option maxRecDepth 100000 in
theorem qw_633 : Cond.methodLink RX4 205 yX4_guestHas ∈ jm_WS := jm_in (List.mem_of_getElem? (i := 1233) (by decide +kernel)) (by decide +kernel)
set_option maxRecDepth 100000 in
theorem qw_634 : Cond.instanceMethod yX4_guestHas ∈ jm_WS := jm_in (List.mem_of_getElem? (i := 1235) (by decide +kernel)) (by decide +kernel)
set_option maxRecDepth 100000 in
theorem qw_635 : Cond.selects RX4 yX4_guestHas yX4_guestHas ∈ jm_WS := jm_in (List.mem_of_getElem? (i := 71) (by decide +kernel)) (by decide +kernel)
set_option maxRecDepth 100000 in
theorem qw_636 : jm_cd M_X4_canGreet ∈ jm_WS := jm_in (List.mem_of_getElem? (i := 1244) (by decide +kernel)) (by decide +kernel)
set_option maxRecDepth 100000 in
theorem qw_637 : Cond.methodLink RX4 208 yX4_canGreet ∈ jm_WS := jm_in (List.mem_of_getElem? (i := 1241) (by decide +kernel)) (by decide +kernel)
set_option maxRecDepth 100000 in
theorem qw_638 : Cond.instanceMethod yX4_canGreet ∈ jm_WS := jm_in (List.mem_of_getElem? (i := 1243) (by decide +kernel)) (by decide +kernel)
set_option maxRecDepth 100000 in
theorem qw_639 : Cond.selects RX4 yX4_canGreet yX4_canGreet ∈ jm_WS := jm_in (List.mem_of_getElem? (i := 73) (by decide +kernel)) (by decide +kernel)
set_option maxRecDepth 100000 in
theorem qw_640 : jm_cd M_X4_greets ∈ jm_WS := jm_in (List.mem_of_getElem? (i := 1240) (by decide +kernel)) (by decide +kernel)
set_option maxRecDepth 100000 in
theorem qw_641 : Cond.methodLink RX4 211 yX4_greets ∈ jm_WS := jm_in (List.mem_of_getElem? (i := 1237) (by decide +kernel)) (by decide +kernel)
set_option maxRecDepth 100000 in
theorem qw_642 : Cond.instanceMethod yX4_greets ∈ jm_WS := jm_in (List.mem_of_getElem? (i := 1239) (by decide +kernel)) (by decide +kernel)
set_option maxRecDepth 100000 in
theorem qw_643 : Cond.selects RX4 yX4_greets yX4_greets ∈ jm_WS := jm_in (List.mem_of_getElem? (i := 72) (by decide +kernel)) (by decide +kernel)
set_option maxRecDepth 100000 in
theorem qw_644 : jm_cd M_X4_aboutGuest ∈ jm_WS := jm_in (List.mem_of_getElem? (i := 1232) (by decide +kernel)) (by decide +kernel)
set_option maxRecDepth 100000 in
theorem qw_645 : Cond.methodLink RX4 214 yX4_aboutGuest ∈ jm_WS := jm_in (List.mem_of_getElem? (i := 1229) (by decide +kernel)) (by decide +kernel)
set_option maxRecDepth 100000 in
theorem qw_646 : Cond.instanceMethod yX4_aboutGuest ∈ jm_WS := jm_in (List.mem_of_getElem? (i := 1231) (by decide +kernel)) (by decide +kernel)
set_option maxRecDepth 100000 in
theorem qw_647 : Cond.selects RX4 yX4_aboutGuest yX4_aboutGuest ∈ jm_WS := jm_in (List.mem_of_getElem? (i := 70) (by decide +kernel)) (by decide +kernel)
set_option maxRecDepth 100000 in
theorem qw_648 : jm_cd M_X4_given ∈ jm_WS := jm_in (List.mem_of_getElem? (i := 1260) (by decide +kernel)) (by decide +kernel)
set_option maxRecDepth 100000 in
theorem qw_649 : Cond.methodLink RX4 220 yX4_given ∈ jm_WS := jm_in (List.mem_of_getElem? (i := 1257) (by decide +kernel)) (by decide +kernel)
set_option maxRecDepth 100000 in
theorem qw_650 : Cond.instanceMethod yX4_given ∈ jm_WS := jm_in (List.mem_of_getElem? (i := 1259) (by decide +kernel)) (by decide +kernel)
set_option maxRecDepth 100000 in
theorem qw_651 : Cond.selects RX4 yX4_given yX4_given ∈ jm_WS := jm_in (List.mem_of_getElem? (i := 76) (by decide +kernel)) (by decide +kernel)
set_option maxRecDepth 100000 in
theorem qw_652 : jm_cd M_X4_seen ∈ jm_WS := jm_in (List.mem_of_getElem? (i := 1256) (by decide +kernel)) (by decide +kernel)
set_option maxRecDepth 100000 in
theorem qw_653 : Cond.methodLink RX4 217 yX4_seen ∈ jm_WS := jm_in (List.mem_of_getElem? (i := 1253) (by decide +kernel)) (by decide +kernel)
set_option maxRecDepth 100000 in
theorem qw_654 : Cond.instanceMethod yX4_seen ∈ jm_WS := jm_in (List.mem_of_getElem? (i := 1255) (by decide +kernel)) (by decide +kernel)
set_option maxRecDepth 100000 in
theorem qw_655 : Cond.selects RX4 yX4_seen yX4_seen ∈ jm_WS := jm_in (List.mem_of_getElem? (i := 75) (by decide +kernel)) (by decide +kernel)
set_option maxRecDepth 100000 in
theorem qw_656 : jm_cd M_X4_aboutJuror ∈ jm_WS := jm_in (List.mem_of_getElem? (i := 1252) (by decide +kernel)) (by decide +kernel)
set_option maxRecDepth 100000 in
theorem qw_657 : Cond.methodLink RX4 223 yX4_aboutJuror ∈ jm_WS := jm_in (List.mem_of_getElem? (i := 1249) (by decide +kernel)) (by decide +kernel)
set_option maxRecDepth 100000 in
theorem qw_658 : Cond.instanceMethod yX4_aboutJuror ∈ jm_WS := jm_in (List.mem_of_getElem? (i := 1251) (by decide +kernel)) (by decide +kernel)
set_option maxRecDepth 100000 in
theorem qw_659 : Cond.selects RX4 yX4_aboutJuror yX4_aboutJuror ∈ jm_WS := jm_in (List.mem_of_getElem? (i := 74) (by decide +kernel)) (by decide +kernel)
set_option maxRecDepth 100000 in
theorem qw_660 : jm_cd M_X4_greeting ∈ jm_WS := jm_in (List.mem_of_getElem? (i := 1272) (by decide +kernel)) (by decide +kernel)
set_option maxRecDepth 100000 in
theorem qw_661 : Cond.methodLink RX4 226 yX4_greeting ∈ jm_WS := jm_in (List.mem_of_getElem? (i := 1269) (by decide +kernel)) (by decide +kernel)
set_option maxRecDepth 100000 in
theorem qw_662 : Cond.instanceMethod yX4_greeting ∈ jm_WS := jm_in (List.mem_of_getElem? (i := 1271) (by decide +kernel)) (by decide +kernel)
set_option maxRecDepth 100000 in
theorem qw_663 : Cond.selects RX4 yX4_greeting yX4_greeting ∈ jm_WS := jm_in (List.mem_of_getElem? (i := 78) (by decide +kernel)) (by decide +kernel)
set_option maxRecDepth 100000 in
theorem qw_664 : jm_cd M_X4_prize ∈ jm_WS := jm_in (List.mem_of_getElem? (i := 1276) (by decide +kernel)) (by decide +kernel)
set_option maxRecDepth 100000 in
theorem qw_665 : Cond.methodLink RX4 230 yX4_prize ∈ jm_WS := jm_in (List.mem_of_getElem? (i := 1273) (by decide +kernel)) (by decide +kernel)
set_option maxRecDepth 100000 in
theorem qw_666 : Cond.instanceMethod yX4_prize ∈ jm_WS := jm_in (List.mem_of_getElem? (i := 1275) (by decide +kernel)) (by decide +kernel)
set_option maxRecDepth 100000 in
theorem qw_667 : Cond.selects RX4 yX4_prize yX4_prize ∈ jm_WS := jm_in (List.mem_of_getElem? (i := 79) (by decide +kernel)) (by decide +kernel)
set_option maxRecDepth 100000 in
theorem qw_668 : jm_cd M_X4_counted ∈ jm_WS := jm_in (List.mem_of_getElem? (i := 1268) (by decide +kernel)) (by decide +kernel)
set_option maxRecDepth 100000 in
theorem qw_669 : Cond.methodLink RX4 233 yX4_counted ∈ jm_WS := jm_in (List.mem_of_getElem? (i := 1265) (by decide +kernel)) (by decide +kernel)
set_option maxRecDepth 100000 in
theorem qw_670 : Cond.instanceMethod yX4_counted ∈ jm_WS := jm_in (List.mem_of_getElem? (i := 1267) (by decide +kernel)) (by decide +kernel)
set_option maxRecDepth 100000 in
theorem qw_671 : Cond.selects RX4 yX4_counted yX4_counted ∈ jm_WS := jm_in (List.mem_of_getElem? (i := 77) (by decide +kernel)) (by decide +kernel)
set_option maxRecDepth 100000 in
theorem qw_672 : jm_cd M_X4_next ∈ jm_WS := jm_in (List.mem_of_getElem? (i := 1288) (by decide +kernel)) (by decide +kernel)
set_option maxRecDepth 100000 in
theorem qw_673 : Cond.methodLink RX4 236 yX4_next ∈ jm_WS := jm_in (List.mem_of_getElem? (i := 1285) (by decide +kernel)) (by decide +kernel)
set_option maxRecDepth 100000 in
theorem qw_674 : Cond.instanceMethod yX4_next ∈ jm_WS := jm_in (List.mem_of_getElem? (i := 1287) (by decide +kernel)) (by decide +kernel)
set_option maxRecDepth 100000 in
theorem qw_675 : Cond.selects RX4 yX4_next yX4_next ∈ jm_WS := jm_in (List.mem_of_getElem? (i := 80) (by decide +kernel)) (by decide +kernel)
set_option maxRecDepth 100000 in
theorem qw_676 : jm_cd M_X4_best ∈ jm_WS := jm_in (List.mem_of_getElem? (i := 1296) (by decide +kernel)) (by decide +kernel)
set_option maxRecDepth 100000 in
theorem qw_677 : Cond.methodLink RX4 239 yX4_best ∈ jm_WS := jm_in (List.mem_of_getElem? (i := 1293) (by decide +kernel)) (by decide +kernel)
set_option maxRecDepth 100000 in
theorem qw_678 : Cond.instanceMethod yX4_best ∈ jm_WS := jm_in (List.mem_of_getElem? (i := 1295) (by decide +kernel)) (by decide +kernel)
set_option maxRecDepth 100000 in
theorem qw_679 : Cond.selects RX4 yX4_best yX4_best ∈ jm_WS := jm_in (List.mem_of_getElem? (i := 81) (by decide +kernel)) (by decide +kernel)
set_option maxRecDepth 100000 in
theorem qw_680 : jm_cd M_X4_more ∈ jm_WS := jm_in (List.mem_of_getElem? (i := 1304) (by decide +kernel)) (by decide +kernel)
set_option maxRecDepth 100000 in
theorem qw_681 : Cond.methodLink RX4 242 yX4_more ∈ jm_WS := jm_in (List.mem_of_getElem? (i := 1301) (by decide +kernel)) (by decide +kernel)
set_option maxRecDepth 100000 in
theorem qw_682 : Cond.instanceMethod yX4_more ∈ jm_WS := jm_in (List.mem_of_getElem? (i := 1303) (by decide +kernel)) (by decide +kernel)
set_option maxRecDepth 100000 in
theorem qw_683 : Cond.selects RX4 yX4_more yX4_more ∈ jm_WS := jm_in (List.mem_of_getElem? (i := 82) (by decide +kernel)) (by decide +kernel)
set_option maxRecDepth 100000 in
theorem qw_684 : jm_cd M_X4_share ∈ jm_WS := jm_in (List.mem_of_getElem? (i := 1312) (by decide +kernel)) (by decide +kernel)
set_option maxRecDepth 100000 in
theorem qw_685 : Cond.methodLink RX4 247 yX4_share ∈ jm_WS := jm_in (List.mem_of_getElem? (i := 1309) (by decide +kernel)) (by decide +kernel)
set_option maxRecDepth 100000 in
theorem qw_686 : Cond.instanceMethod yX4_share ∈ jm_WS := jm_in (List.mem_of_getElem? (i := 1311) (by decide +kernel)) (by decide +kernel)
set_option maxRecDepth 100000 in
theorem qw_687 : Cond.selects RX4 yX4_share yX4_share ∈ jm_WS := jm_in (List.mem_of_getElem? (i := 83) (by decide +kernel)) (by decide +kernel)
set_option maxRecDepth 100000 in
theorem qw_688 : jm_cd M_X4_mixes ∈ jm_WS := jm_in (List.mem_of_getElem? (i := 1322) (by decide +kernel)) (by decide +kernel)
set_option maxRecDepth 100000 in
theorem qw_689 : Cond.methodLink RX4 257 yX4_mixes ∈ jm_WS := jm_in (List.mem_of_getElem? (i := 1319) (by decide +kernel)) (by decide +kernel)
set_option maxRecDepth 100000 in
theorem qw_690 : Cond.instanceMethod yX4_mixes ∈ jm_WS := jm_in (List.mem_of_getElem? (i := 1321) (by decide +kernel)) (by decide +kernel)
set_option maxRecDepth 100000 in
theorem qw_691 : Cond.selects RX4 yX4_mixes yX4_mixes ∈ jm_WS := jm_in (List.mem_of_getElem? (i := 84) (by decide +kernel)) (by decide +kernel)
set_option maxRecDepth 100000 in
theorem qw_692 : jm_cd M_Jxe99ae_isNaN_b9ae7 ∈ jm_WS := jm_in (List.mem_of_getElem? (i := 1345) (by decide +kernel)) (by decide +kernel)
set_option maxRecDepth 100000 in
theorem qw_693 : Cond.methodLink RJxe99ae 122 yJxe99ae_isNaN_b9ae7 ∈ jm_WS := jm_in (List.mem_of_getElem? (i := 1343) (by decide +kernel)) (by decide +kernel)
set_option maxRecDepth 100000 in
theorem qw_694 : Cond.static yJxe99ae_isNaN_b9ae7 ∈ jm_WS := jm_in (List.mem_of_getElem? (i := 1344) (by decide +kernel)) (by decide +kernel)
set_option maxRecDepth 100000 in
theorem qw_695 : jm_cd M_Jxe99ae_doubleToLongBits_ccdee ∈ jm_WS := jm_in (List.mem_of_getElem? (i := 1342) (by decide +kernel)) (by decide +kernel)
set_option maxRecDepth 100000 in
theorem qw_696 : Cond.methodLink RX4 261 yJxe99ae_doubleToLongBits_ccdee ∈ jm_WS := jm_in (List.mem_of_getElem? (i := 1340) (by decide +kernel)) (by decide +kernel)
set_option maxRecDepth 100000 in
theorem qw_697 : Cond.static yJxe99ae_doubleToLongBits_ccdee ∈ jm_WS := jm_in (List.mem_of_getElem? (i := 1341) (by decide +kernel)) (by decide +kernel)
set_option maxRecDepth 100000 in
theorem qw_698 : jm_cd M_X4_mixesScreen ∈ jm_WS := jm_in (List.mem_of_getElem? (i := 1339) (by decide +kernel)) (by decide +kernel)
set_option maxRecDepth 100000 in
theorem qw_699 : Cond.methodLink RX4 274 yX4_mixesScreen ∈ jm_WS := jm_in (List.mem_of_getElem? (i := 1336) (by decide +kernel)) (by decide +kernel)
set_option maxRecDepth 100000 in
theorem qw_700 : Cond.instanceMethod yX4_mixesScreen ∈ jm_WS := jm_in (List.mem_of_getElem? (i := 1338) (by decide +kernel)) (by decide +kernel)
set_option maxRecDepth 100000 in
theorem qw_701 : Cond.selects RX4 yX4_mixesScreen yX4_mixesScreen ∈ jm_WS := jm_in (List.mem_of_getElem? (i := 88) (by decide +kernel)) (by decide +kernel)
set_option maxRecDepth 100000 in
theorem qw_702 : jm_cd M_X4_mixesShowing ∈ jm_WS := jm_in (List.mem_of_getElem? (i := 1335) (by decide +kernel)) (by decide +kernel)
set_option maxRecDepth 100000 in
theorem qw_703 : Cond.methodLink RX4 271 yX4_mixesShowing ∈ jm_WS := jm_in (List.mem_of_getElem? (i := 1332) (by decide +kernel)) (by decide +kernel)
set_option maxRecDepth 100000 in
theorem qw_704 : Cond.instanceMethod yX4_mixesShowing ∈ jm_WS := jm_in (List.mem_of_getElem? (i := 1334) (by decide +kernel)) (by decide +kernel)
set_option maxRecDepth 100000 in
theorem qw_705 : Cond.selects RX4 yX4_mixesShowing yX4_mixesShowing ∈ jm_WS := jm_in (List.mem_of_getElem? (i := 87) (by decide +kernel)) (by decide +kernel)
set_option maxRecDepth 100000 in
theorem qw_706 : jm_cd M_X4_mixesFilm ∈ jm_WS := jm_in (List.mem_of_getElem? (i := 1331) (by decide +kernel)) (by decide +kernel)
set_option maxRecDepth 100000 in
theorem qw_707 : Cond.methodLink RX4 267 yX4_mixesFilm ∈ jm_WS := jm_in (List.mem_of_getElem? (i := 1328) (by decide +kernel)) (by decide +kernel)
set_option maxRecDepth 100000 in
theorem qw_708 : Cond.instanceMethod yX4_mixesFilm ∈ jm_WS := jm_in (List.mem_of_getElem? (i := 1330) (by decide +kernel)) (by decide +kernel)
set_option maxRecDepth 100000 in
theorem qw_709 : Cond.selects RX4 yX4_mixesFilm yX4_mixesFilm ∈ jm_WS := jm_in (List.mem_of_getElem? (i := 86) (by decide +kernel)) (by decide +kernel)
set_option maxRecDepth 100000 in
theorem qw_710 : jm_cd M_X4_mixesAll ∈ jm_WS := jm_in (List.mem_of_getElem? (i := 1327) (by decide +kernel)) (by decide +kernel)
set_option maxRecDepth 100000 in
theorem qw_711 : Cond.methodLink RX4 279 yX4_mixesAll ∈ jm_WS := jm_in (List.mem_of_getElem? (i := 1324) (by decide +kernel)) (by decide +kernel)
set_option maxRecDepth 100000 in
theorem qw_712 : Cond.instanceMethod yX4_mixesAll ∈ jm_WS := jm_in (List.mem_of_getElem? (i := 1326) (by decide +kernel)) (by decide +kernel)
set_option maxRecDepth 100000 in
theorem qw_713 : Cond.selects RX4 yX4_mixesAll yX4_mixesAll ∈ jm_WS := jm_in (List.mem_of_getElem? (i := 85) (by decide +kernel)) (by decide +kernel)
set_option maxRecDepth 100000 in
theorem qw_714 : jm_cd M_X3_film ∈ jm_WS := jm_in (List.mem_of_getElem? (i := 496) (by decide +kernel)) (by decide +kernel)
set_option maxRecDepth 100000 in
theorem qw_715 : Cond.methodLink RL 7 yX3_film ∈ jm_WS := jm_in (List.mem_of_getElem? (i := 493) (by decide +kernel)) (by decide +kernel)
set_option maxRecDepth 100000 in
theorem qw_716 : Cond.instanceMethod yX3_film ∈ jm_WS := jm_in (List.mem_of_getElem? (i := 494) (by decide +kernel)) (by decide +kernel)
set_option maxRecDepth 100000 in
theorem qw_717 : Cond.selects RX3 yX3_film yX3_film ∈ jm_WS := jm_in (List.mem_of_getElem? (i := 495) (by decide +kernel)) (by decide +kernel)
set_option maxRecDepth 100000 in
theorem qw_718 : jm_cd M_X3_seats ∈ jm_WS := jm_in (List.mem_of_getElem? (i := 604) (by decide +kernel)) (by decide +kernel)
set_option maxRecDepth 100000 in
theorem qw_719 : Cond.methodLink RL 17 yX3_seats ∈ jm_WS := jm_in (List.mem_of_getElem? (i := 601) (by decide +kernel)) (by decide +kernel)
set_option maxRecDepth 100000 in
theorem qw_720 : Cond.instanceMethod yX3_seats ∈ jm_WS := jm_in (List.mem_of_getElem? (i := 602) (by decide +kernel)) (by decide +kernel)
set_option maxRecDepth 100000 in
theorem qw_721 : Cond.selects RX3 yX3_seats yX3_seats ∈ jm_WS := jm_in (List.mem_of_getElem? (i := 603) (by decide +kernel)) (by decide +kernel)
set_option maxRecDepth 100000 in
theorem qw_722 : jm_cd M_X3_set ∈ jm_WS := jm_in (List.mem_of_getElem? (i := 636) (by decide +kernel)) (by decide +kernel)
set_option maxRecDepth 100000 in
theorem qw_723 : Cond.methodLink RL 22 yX3_set ∈ jm_WS := jm_in (List.mem_of_getElem? (i := 633) (by decide +kernel)) (by decide +kernel)
set_option maxRecDepth 100000 in
theorem qw_724 : Cond.instanceMethod yX3_set ∈ jm_WS := jm_in (List.mem_of_getElem? (i := 634) (by decide +kernel)) (by decide +kernel)
set_option maxRecDepth 100000 in
theorem qw_725 : Cond.selects RX3 yX3_set yX3_set ∈ jm_WS := jm_in (List.mem_of_getElem? (i := 635) (by decide +kernel)) (by decide +kernel)
set_option maxRecDepth 100000 in
theorem qw_726 : jm_cd M_X3_show ∈ jm_WS := jm_in (List.mem_of_getElem? (i := 644) (by decide +kernel)) (by decide +kernel)
set_option maxRecDepth 100000 in
theorem qw_727 : Cond.methodLink RL 25 yX3_show ∈ jm_WS := jm_in (List.mem_of_getElem? (i := 641) (by decide +kernel)) (by decide +kernel)
set_option maxRecDepth 100000 in
theorem qw_728 : Cond.instanceMethod yX3_show ∈ jm_WS := jm_in (List.mem_of_getElem? (i := 642) (by decide +kernel)) (by decide +kernel)
set_option maxRecDepth 100000 in
theorem qw_729 : Cond.selects RX3 yX3_show yX3_show ∈ jm_WS := jm_in (List.mem_of_getElem? (i := 643) (by decide +kernel)) (by decide +kernel)
set_option maxRecDepth 100000 in
theorem qw_730 : jm_cd M_X3_callOff ∈ jm_WS := jm_in (List.mem_of_getElem? (i := 675) (by decide +kernel)) (by decide +kernel)
set_option maxRecDepth 100000 in
theorem qw_731 : Cond.methodLink RL 29 yX3_callOff ∈ jm_WS := jm_in (List.mem_of_getElem? (i := 672) (by decide +kernel)) (by decide +kernel)
set_option maxRecDepth 100000 in
theorem qw_732 : Cond.instanceMethod yX3_callOff ∈ jm_WS := jm_in (List.mem_of_getElem? (i := 673) (by decide +kernel)) (by decide +kernel)
set_option maxRecDepth 100000 in
theorem qw_733 : Cond.selects RX3 yX3_callOff yX3_callOff ∈ jm_WS := jm_in (List.mem_of_getElem? (i := 674) (by decide +kernel)) (by decide +kernel)
set_option maxRecDepth 100000 in
theorem qw_734 : jm_cd M_X3_move ∈ jm_WS := jm_in (List.mem_of_getElem? (i := 695) (by decide +kernel)) (by decide +kernel)
set_option maxRecDepth 100000 in
theorem qw_735 : Cond.methodLink RL 33 yX3_move ∈ jm_WS := jm_in (List.mem_of_getElem? (i := 692) (by decide +kernel)) (by decide +kernel)
set_option maxRecDepth 100000 in
theorem qw_736 : Cond.instanceMethod yX3_move ∈ jm_WS := jm_in (List.mem_of_getElem? (i := 693) (by decide +kernel)) (by decide +kernel)
set_option maxRecDepth 100000 in
theorem qw_737 : Cond.selects RX3 yX3_move yX3_move ∈ jm_WS := jm_in (List.mem_of_getElem? (i := 694) (by decide +kernel)) (by decide +kernel)
set_option maxRecDepth 100000 in
theorem qw_738 : jm_cd M_X3_guest ∈ jm_WS := jm_in (List.mem_of_getElem? (i := 711) (by decide +kernel)) (by decide +kernel)
set_option maxRecDepth 100000 in
theorem qw_739 : Cond.methodLink RL 36 yX3_guest ∈ jm_WS := jm_in (List.mem_of_getElem? (i := 708) (by decide +kernel)) (by decide +kernel)
set_option maxRecDepth 100000 in
theorem qw_740 : Cond.instanceMethod yX3_guest ∈ jm_WS := jm_in (List.mem_of_getElem? (i := 709) (by decide +kernel)) (by decide +kernel)
set_option maxRecDepth 100000 in
theorem qw_741 : Cond.selects RX3 yX3_guest yX3_guest ∈ jm_WS := jm_in (List.mem_of_getElem? (i := 710) (by decide +kernel)) (by decide +kernel)
set_option maxRecDepth 100000 in
theorem qw_742 : jm_cd M_X3_attend ∈ jm_WS := jm_in (List.mem_of_getElem? (i := 723) (by decide +kernel)) (by decide +kernel)
set_option maxRecDepth 100000 in
theorem qw_743 : Cond.methodLink RL 40 yX3_attend ∈ jm_WS := jm_in (List.mem_of_getElem? (i := 720) (by decide +kernel)) (by decide +kernel)
set_option maxRecDepth 100000 in
theorem qw_744 : Cond.instanceMethod yX3_attend ∈ jm_WS := jm_in (List.mem_of_getElem? (i := 721) (by decide +kernel)) (by decide +kernel)
set_option maxRecDepth 100000 in
theorem qw_745 : Cond.selects RX3 yX3_attend yX3_attend ∈ jm_WS := jm_in (List.mem_of_getElem? (i := 722) (by decide +kernel)) (by decide +kernel)
set_option maxRecDepth 100000 in
theorem qw_746 : jm_cd M_X3_vote ∈ jm_WS := jm_in (List.mem_of_getElem? (i := 741) (by decide +kernel)) (by decide +kernel)
set_option maxRecDepth 100000 in
theorem qw_747 : Cond.methodLink RL 43 yX3_vote ∈ jm_WS := jm_in (List.mem_of_getElem? (i := 738) (by decide +kernel)) (by decide +kernel)
set_option maxRecDepth 100000 in
theorem qw_748 : Cond.instanceMethod yX3_vote ∈ jm_WS := jm_in (List.mem_of_getElem? (i := 739) (by decide +kernel)) (by decide +kernel)
set_option maxRecDepth 100000 in
theorem qw_749 : Cond.selects RX3 yX3_vote yX3_vote ∈ jm_WS := jm_in (List.mem_of_getElem? (i := 740) (by decide +kernel)) (by decide +kernel)
set_option maxRecDepth 100000 in
theorem qw_750 : jm_cd M_X3_append ∈ jm_WS := jm_in (List.mem_of_getElem? (i := 751) (by decide +kernel)) (by decide +kernel)
set_option maxRecDepth 100000 in
theorem qw_751 : Cond.methodLink RL 46 yX3_append ∈ jm_WS := jm_in (List.mem_of_getElem? (i := 748) (by decide +kernel)) (by decide +kernel)
set_option maxRecDepth 100000 in
theorem qw_752 : Cond.instanceMethod yX3_append ∈ jm_WS := jm_in (List.mem_of_getElem? (i := 749) (by decide +kernel)) (by decide +kernel)
set_option maxRecDepth 100000 in
theorem qw_753 : Cond.selects RX3 yX3_append yX3_append ∈ jm_WS := jm_in (List.mem_of_getElem? (i := 750) (by decide +kernel)) (by decide +kernel)
set_option maxRecDepth 100000 in
theorem qw_754 : jm_cd M_X3_program ∈ jm_WS := jm_in (List.mem_of_getElem? (i := 759) (by decide +kernel)) (by decide +kernel)
set_option maxRecDepth 100000 in
theorem qw_755 : Cond.methodLink RL 49 yX3_program ∈ jm_WS := jm_in (List.mem_of_getElem? (i := 756) (by decide +kernel)) (by decide +kernel)
set_option maxRecDepth 100000 in
theorem qw_756 : Cond.instanceMethod yX3_program ∈ jm_WS := jm_in (List.mem_of_getElem? (i := 757) (by decide +kernel)) (by decide +kernel)
set_option maxRecDepth 100000 in
theorem qw_757 : Cond.selects RX3 yX3_program yX3_program ∈ jm_WS := jm_in (List.mem_of_getElem? (i := 758) (by decide +kernel)) (by decide +kernel)
set_option maxRecDepth 100000 in
theorem qw_758 : jm_cd M_X3_stopped ∈ jm_WS := jm_in (List.mem_of_getElem? (i := 786) (by decide +kernel)) (by decide +kernel)
set_option maxRecDepth 100000 in
theorem qw_759 : Cond.methodLink RL 53 yX3_stopped ∈ jm_WS := jm_in (List.mem_of_getElem? (i := 783) (by decide +kernel)) (by decide +kernel)
set_option maxRecDepth 100000 in
theorem qw_760 : Cond.instanceMethod yX3_stopped ∈ jm_WS := jm_in (List.mem_of_getElem? (i := 784) (by decide +kernel)) (by decide +kernel)
set_option maxRecDepth 100000 in
theorem qw_761 : Cond.selects RX3 yX3_stopped yX3_stopped ∈ jm_WS := jm_in (List.mem_of_getElem? (i := 785) (by decide +kernel)) (by decide +kernel)
set_option maxRecDepth 100000 in
theorem qw_762 : jm_cd M_X3_undo ∈ jm_WS := jm_in (List.mem_of_getElem? (i := 796) (by decide +kernel)) (by decide +kernel)
set_option maxRecDepth 100000 in
theorem qw_763 : Cond.methodLink RL 56 yX3_undo ∈ jm_WS := jm_in (List.mem_of_getElem? (i := 793) (by decide +kernel)) (by decide +kernel)
set_option maxRecDepth 100000 in
theorem qw_764 : Cond.instanceMethod yX3_undo ∈ jm_WS := jm_in (List.mem_of_getElem? (i := 794) (by decide +kernel)) (by decide +kernel)
set_option maxRecDepth 100000 in
theorem qw_765 : Cond.selects RX3 yX3_undo yX3_undo ∈ jm_WS := jm_in (List.mem_of_getElem? (i := 795) (by decide +kernel)) (by decide +kernel)
set_option maxRecDepth 100000 in
theorem qw_766 : jm_cd M_X3_restore ∈ jm_WS := jm_in (List.mem_of_getElem? (i := 804) (by decide +kernel)) (by decide +kernel)
set_option maxRecDepth 100000 in
theorem qw_767 : Cond.methodLink RL 59 yX3_restore ∈ jm_WS := jm_in (List.mem_of_getElem? (i := 801) (by decide +kernel)) (by decide +kernel)
set_option maxRecDepth 100000 in
theorem qw_768 : Cond.instanceMethod yX3_restore ∈ jm_WS := jm_in (List.mem_of_getElem? (i := 802) (by decide +kernel)) (by decide +kernel)
set_option maxRecDepth 100000 in
theorem qw_769 : Cond.selects RX3 yX3_restore yX3_restore ∈ jm_WS := jm_in (List.mem_of_getElem? (i := 803) (by decide +kernel)) (by decide +kernel)
set_option maxRecDepth 100000 in
theorem qw_770 : jm_cd M_X3_filmOf ∈ jm_WS := jm_in (List.mem_of_getElem? (i := 812) (by decide +kernel)) (by decide +kernel)
set_option maxRecDepth 100000 in
theorem qw_771 : Cond.methodLink RL 62 yX3_filmOf ∈ jm_WS := jm_in (List.mem_of_getElem? (i := 809) (by decide +kernel)) (by decide +kernel)
set_option maxRecDepth 100000 in
theorem qw_772 : Cond.instanceMethod yX3_filmOf ∈ jm_WS := jm_in (List.mem_of_getElem? (i := 810) (by decide +kernel)) (by decide +kernel)
set_option maxRecDepth 100000 in
theorem qw_773 : Cond.selects RX3 yX3_filmOf yX3_filmOf ∈ jm_WS := jm_in (List.mem_of_getElem? (i := 811) (by decide +kernel)) (by decide +kernel)
set_option maxRecDepth 100000 in
theorem qw_774 : jm_cd M_X3_showing ∈ jm_WS := jm_in (List.mem_of_getElem? (i := 819) (by decide +kernel)) (by decide +kernel)
set_option maxRecDepth 100000 in
theorem qw_775 : Cond.methodLink RL 65 yX3_showing ∈ jm_WS := jm_in (List.mem_of_getElem? (i := 816) (by decide +kernel)) (by decide +kernel)
set_option maxRecDepth 100000 in
theorem qw_776 : Cond.instanceMethod yX3_showing ∈ jm_WS := jm_in (List.mem_of_getElem? (i := 817) (by decide +kernel)) (by decide +kernel)
set_option maxRecDepth 100000 in
theorem qw_777 : Cond.selects RX3 yX3_showing yX3_showing ∈ jm_WS := jm_in (List.mem_of_getElem? (i := 818) (by decide +kernel)) (by decide +kernel)
set_option maxRecDepth 100000 in
theorem qw_778 : jm_cd M_X3_reel ∈ jm_WS := jm_in (List.mem_of_getElem? (i := 826) (by decide +kernel)) (by decide +kernel)
set_option maxRecDepth 100000 in
theorem qw_779 : Cond.methodLink RL 68 yX3_reel ∈ jm_WS := jm_in (List.mem_of_getElem? (i := 823) (by decide +kernel)) (by decide +kernel)
set_option maxRecDepth 100000 in
theorem qw_780 : Cond.instanceMethod yX3_reel ∈ jm_WS := jm_in (List.mem_of_getElem? (i := 824) (by decide +kernel)) (by decide +kernel)
set_option maxRecDepth 100000 in
theorem qw_781 : Cond.selects RX3 yX3_reel yX3_reel ∈ jm_WS := jm_in (List.mem_of_getElem? (i := 825) (by decide +kernel)) (by decide +kernel)
set_option maxRecDepth 100000 in
theorem qw_782 : jm_cd M_X3_runs ∈ jm_WS := jm_in (List.mem_of_getElem? (i := 833) (by decide +kernel)) (by decide +kernel)
set_option maxRecDepth 100000 in
theorem qw_783 : Cond.methodLink RL 71 yX3_runs ∈ jm_WS := jm_in (List.mem_of_getElem? (i := 830) (by decide +kernel)) (by decide +kernel)
set_option maxRecDepth 100000 in
theorem qw_784 : Cond.instanceMethod yX3_runs ∈ jm_WS := jm_in (List.mem_of_getElem? (i := 831) (by decide +kernel)) (by decide +kernel)
set_option maxRecDepth 100000 in
theorem qw_785 : Cond.selects RX3 yX3_runs yX3_runs ∈ jm_WS := jm_in (List.mem_of_getElem? (i := 832) (by decide +kernel)) (by decide +kernel)
set_option maxRecDepth 100000 in
theorem qw_786 : jm_cd M_X3_screen ∈ jm_WS := jm_in (List.mem_of_getElem? (i := 840) (by decide +kernel)) (by decide +kernel)
set_option maxRecDepth 100000 in
theorem qw_787 : Cond.methodLink RL 74 yX3_screen ∈ jm_WS := jm_in (List.mem_of_getElem? (i := 837) (by decide +kernel)) (by decide +kernel)
set_option maxRecDepth 100000 in
theorem qw_788 : Cond.instanceMethod yX3_screen ∈ jm_WS := jm_in (List.mem_of_getElem? (i := 838) (by decide +kernel)) (by decide +kernel)
set_option maxRecDepth 100000 in
theorem qw_789 : Cond.selects RX3 yX3_screen yX3_screen ∈ jm_WS := jm_in (List.mem_of_getElem? (i := 839) (by decide +kernel)) (by decide +kernel)
set_option maxRecDepth 100000 in
theorem qw_790 : jm_cd M_X3_guestOf ∈ jm_WS := jm_in (List.mem_of_getElem? (i := 847) (by decide +kernel)) (by decide +kernel)
set_option maxRecDepth 100000 in
theorem qw_791 : Cond.methodLink RL 77 yX3_guestOf ∈ jm_WS := jm_in (List.mem_of_getElem? (i := 844) (by decide +kernel)) (by decide +kernel)
set_option maxRecDepth 100000 in
theorem qw_792 : Cond.instanceMethod yX3_guestOf ∈ jm_WS := jm_in (List.mem_of_getElem? (i := 845) (by decide +kernel)) (by decide +kernel)
set_option maxRecDepth 100000 in
theorem qw_793 : Cond.selects RX3 yX3_guestOf yX3_guestOf ∈ jm_WS := jm_in (List.mem_of_getElem? (i := 846) (by decide +kernel)) (by decide +kernel)
set_option maxRecDepth 100000 in
theorem qw_794 : jm_cd M_X3_juror ∈ jm_WS := jm_in (List.mem_of_getElem? (i := 855) (by decide +kernel)) (by decide +kernel)
set_option maxRecDepth 100000 in
theorem qw_795 : Cond.methodLink RL 80 yX3_juror ∈ jm_WS := jm_in (List.mem_of_getElem? (i := 852) (by decide +kernel)) (by decide +kernel)
set_option maxRecDepth 100000 in
theorem qw_796 : Cond.instanceMethod yX3_juror ∈ jm_WS := jm_in (List.mem_of_getElem? (i := 853) (by decide +kernel)) (by decide +kernel)
set_option maxRecDepth 100000 in
theorem qw_797 : Cond.selects RX3 yX3_juror yX3_juror ∈ jm_WS := jm_in (List.mem_of_getElem? (i := 854) (by decide +kernel)) (by decide +kernel)
set_option maxRecDepth 100000 in
theorem qw_798 : jm_cd M_X3_count ∈ jm_WS := jm_in (List.mem_of_getElem? (i := 862) (by decide +kernel)) (by decide +kernel)
set_option maxRecDepth 100000 in
theorem qw_799 : Cond.methodLink RL 83 yX3_count ∈ jm_WS := jm_in (List.mem_of_getElem? (i := 859) (by decide +kernel)) (by decide +kernel)
set_option maxRecDepth 100000 in
theorem qw_800 : Cond.instanceMethod yX3_count ∈ jm_WS := jm_in (List.mem_of_getElem? (i := 860) (by decide +kernel)) (by decide +kernel)
set_option maxRecDepth 100000 in
theorem qw_801 : Cond.selects RX3 yX3_count yX3_count ∈ jm_WS := jm_in (List.mem_of_getElem? (i := 861) (by decide +kernel)) (by decide +kernel)
set_option maxRecDepth 100000 in
theorem qw_802 : jm_cd M_X3_whyNot ∈ jm_WS := jm_in (List.mem_of_getElem? (i := 869) (by decide +kernel)) (by decide +kernel)
set_option maxRecDepth 100000 in
theorem qw_803 : Cond.methodLink RL 86 yX3_whyNot ∈ jm_WS := jm_in (List.mem_of_getElem? (i := 866) (by decide +kernel)) (by decide +kernel)
set_option maxRecDepth 100000 in
theorem qw_804 : Cond.instanceMethod yX3_whyNot ∈ jm_WS := jm_in (List.mem_of_getElem? (i := 867) (by decide +kernel)) (by decide +kernel)
set_option maxRecDepth 100000 in
theorem qw_805 : Cond.selects RX3 yX3_whyNot yX3_whyNot ∈ jm_WS := jm_in (List.mem_of_getElem? (i := 868) (by decide +kernel)) (by decide +kernel)
set_option maxRecDepth 100000 in
theorem qw_806 : jm_cd M_X3_nextStart ∈ jm_WS := jm_in (List.mem_of_getElem? (i := 877) (by decide +kernel)) (by decide +kernel)
set_option maxRecDepth 100000 in
theorem qw_807 : Cond.methodLink RL 90 yX3_nextStart ∈ jm_WS := jm_in (List.mem_of_getElem? (i := 874) (by decide +kernel)) (by decide +kernel)
set_option maxRecDepth 100000 in
theorem qw_808 : Cond.instanceMethod yX3_nextStart ∈ jm_WS := jm_in (List.mem_of_getElem? (i := 875) (by decide +kernel)) (by decide +kernel)
set_option maxRecDepth 100000 in
theorem qw_809 : Cond.selects RX3 yX3_nextStart yX3_nextStart ∈ jm_WS := jm_in (List.mem_of_getElem? (i := 876) (by decide +kernel)) (by decide +kernel)
set_option maxRecDepth 100000 in
theorem qw_810 : jm_cd M_X3_bestScreen ∈ jm_WS := jm_in (List.mem_of_getElem? (i := 884) (by decide +kernel)) (by decide +kernel)
set_option maxRecDepth 100000 in
theorem qw_811 : Cond.methodLink RL 93 yX3_bestScreen ∈ jm_WS := jm_in (List.mem_of_getElem? (i := 881) (by decide +kernel)) (by decide +kernel)
set_option maxRecDepth 100000 in
theorem qw_812 : Cond.instanceMethod yX3_bestScreen ∈ jm_WS := jm_in (List.mem_of_getElem? (i := 882) (by decide +kernel)) (by decide +kernel)
set_option maxRecDepth 100000 in
theorem qw_813 : Cond.selects RX3 yX3_bestScreen yX3_bestScreen ∈ jm_WS := jm_in (List.mem_of_getElem? (i := 883) (by decide +kernel)) (by decide +kernel)
set_option maxRecDepth 100000 in
theorem qw_814 : jm_cd M_X3_ifShown ∈ jm_WS := jm_in (List.mem_of_getElem? (i := 891) (by decide +kernel)) (by decide +kernel)
set_option maxRecDepth 100000 in
theorem qw_815 : Cond.methodLink RL 96 yX3_ifShown ∈ jm_WS := jm_in (List.mem_of_getElem? (i := 888) (by decide +kernel)) (by decide +kernel)
set_option maxRecDepth 100000 in
theorem qw_816 : Cond.instanceMethod yX3_ifShown ∈ jm_WS := jm_in (List.mem_of_getElem? (i := 889) (by decide +kernel)) (by decide +kernel)
set_option maxRecDepth 100000 in
theorem qw_817 : Cond.selects RX3 yX3_ifShown yX3_ifShown ∈ jm_WS := jm_in (List.mem_of_getElem? (i := 890) (by decide +kernel)) (by decide +kernel)
set_option maxRecDepth 100000 in
theorem qw_818 : jm_cd M_X3_use ∈ jm_WS := jm_in (List.mem_of_getElem? (i := 903) (by decide +kernel)) (by decide +kernel)
set_option maxRecDepth 100000 in
theorem qw_819 : Cond.methodLink RL 99 yX3_use ∈ jm_WS := jm_in (List.mem_of_getElem? (i := 900) (by decide +kernel)) (by decide +kernel)
set_option maxRecDepth 100000 in
theorem qw_820 : Cond.instanceMethod yX3_use ∈ jm_WS := jm_in (List.mem_of_getElem? (i := 901) (by decide +kernel)) (by decide +kernel)
set_option maxRecDepth 100000 in
theorem qw_821 : Cond.selects RX3 yX3_use yX3_use ∈ jm_WS := jm_in (List.mem_of_getElem? (i := 902) (by decide +kernel)) (by decide +kernel)
set_option maxRecDepth 100000 in
theorem qw_822 : jm_cd M_X3_init ∈ jm_WS := jm_in (List.mem_of_getElem? (i := 109) (by decide +kernel)) (by decide +kernel)
set_option maxRecDepth 100000 in
theorem qw_823 : Cond.methodLink RL 103 yX3_init ∈ jm_WS := jm_in (List.mem_of_getElem? (i := 107) (by decide +kernel)) (by decide +kernel)
set_option maxRecDepth 100000 in
theorem qw_824 : Cond.instanceMethod yX3_init ∈ jm_WS := jm_in (List.mem_of_getElem? (i := 108) (by decide +kernel)) (by decide +kernel)
set_option maxRecDepth 100000 in
theorem qw_825 : jm_cd M_X4_init ∈ jm_WS := jm_in (List.mem_of_getElem? (i := 908) (by decide +kernel)) (by decide +kernel)
set_option maxRecDepth 100000 in
theorem qw_826 : Cond.methodLink RL 106 yX4_init ∈ jm_WS := jm_in (List.mem_of_getElem? (i := 906) (by decide +kernel)) (by decide +kernel)
set_option maxRecDepth 100000 in
theorem qw_827 : Cond.instanceMethod yX4_init ∈ jm_WS := jm_in (List.mem_of_getElem? (i := 907) (by decide +kernel)) (by decide +kernel)
set_option maxRecDepth 100000 in
theorem qw_828 : jm_cd M_L_film ∈ jm_WS := jm_in (List.mem_of_getElem? (i := 490) (by decide +kernel)) (by decide +kernel)
set_option maxRecDepth 100000 in
theorem qw_829 : Cond.methodLink RL 107 yL_film ∈ jm_WS := jm_in (List.mem_of_getElem? (i := 488) (by decide +kernel)) (by decide +kernel)
set_option maxRecDepth 100000 in
theorem qw_830 : Cond.static yL_film ∈ jm_WS := jm_in (List.mem_of_getElem? (i := 489) (by decide +kernel)) (by decide +kernel)
set_option maxRecDepth 100000 in
theorem qw_831 : Cond.initialized RL ∈ jm_WS := jm_in (List.mem_of_getElem? (i := 89) (by decide +kernel)) (by decide +kernel)
set_option maxRecDepth 100000 in
theorem qw_832 : jm_cd M_X4_film ∈ jm_WS := jm_in (List.mem_of_getElem? (i := 967) (by decide +kernel)) (by decide +kernel)
set_option maxRecDepth 100000 in
theorem qw_833 : Cond.methodLink RL 112 yX4_film ∈ jm_WS := jm_in (List.mem_of_getElem? (i := 964) (by decide +kernel)) (by decide +kernel)
set_option maxRecDepth 100000 in
theorem qw_834 : Cond.instanceMethod yX4_film ∈ jm_WS := jm_in (List.mem_of_getElem? (i := 965) (by decide +kernel)) (by decide +kernel)
set_option maxRecDepth 100000 in
theorem qw_835 : Cond.selects RX4 yX4_film yX4_film ∈ jm_WS := jm_in (List.mem_of_getElem? (i := 966) (by decide +kernel)) (by decide +kernel)
set_option maxRecDepth 100000 in
theorem qw_836 : jm_cd M_X4_thrown ∈ jm_WS := jm_in (List.mem_of_getElem? (i := 963) (by decide +kernel)) (by decide +kernel)
set_option maxRecDepth 100000 in
theorem qw_837 : Cond.methodLink RL 113 yX4_thrown ∈ jm_WS := jm_in (List.mem_of_getElem? (i := 960) (by decide +kernel)) (by decide +kernel)
set_option maxRecDepth 100000 in
theorem qw_838 : Cond.instanceMethod yX4_thrown ∈ jm_WS := jm_in (List.mem_of_getElem? (i := 961) (by decide +kernel)) (by decide +kernel)
set_option maxRecDepth 100000 in
theorem qw_839 : Cond.selects RX4 yX4_thrown yX4_thrown ∈ jm_WS := jm_in (List.mem_of_getElem? (i := 962) (by decide +kernel)) (by decide +kernel)
set_option maxRecDepth 100000 in
theorem qw_840 : jm_cd M_L_seats ∈ jm_WS := jm_in (List.mem_of_getElem? (i := 599) (by decide +kernel)) (by decide +kernel)
set_option maxRecDepth 100000 in
theorem qw_841 : Cond.methodLink RL 116 yL_seats ∈ jm_WS := jm_in (List.mem_of_getElem? (i := 597) (by decide +kernel)) (by decide +kernel)
set_option maxRecDepth 100000 in
theorem qw_842 : Cond.static yL_seats ∈ jm_WS := jm_in (List.mem_of_getElem? (i := 598) (by decide +kernel)) (by decide +kernel)
set_option maxRecDepth 100000 in
theorem qw_843 : jm_cd M_X4_seats ∈ jm_WS := jm_in (List.mem_of_getElem? (i := 985) (by decide +kernel)) (by decide +kernel)
set_option maxRecDepth 100000 in
theorem qw_844 : Cond.methodLink RL 118 yX4_seats ∈ jm_WS := jm_in (List.mem_of_getElem? (i := 982) (by decide +kernel)) (by decide +kernel)
set_option maxRecDepth 100000 in
theorem qw_845 : Cond.instanceMethod yX4_seats ∈ jm_WS := jm_in (List.mem_of_getElem? (i := 983) (by decide +kernel)) (by decide +kernel)
set_option maxRecDepth 100000 in
theorem qw_846 : Cond.selects RX4 yX4_seats yX4_seats ∈ jm_WS := jm_in (List.mem_of_getElem? (i := 984) (by decide +kernel)) (by decide +kernel)
set_option maxRecDepth 100000 in
theorem qw_847 : jm_cd M_L_set ∈ jm_WS := jm_in (List.mem_of_getElem? (i := 632) (by decide +kernel)) (by decide +kernel)
set_option maxRecDepth 100000 in
theorem qw_848 : Cond.methodLink RL 119 yL_set ∈ jm_WS := jm_in (List.mem_of_getElem? (i := 630) (by decide +kernel)) (by decide +kernel)
set_option maxRecDepth 100000 in
theorem qw_849 : Cond.static yL_set ∈ jm_WS := jm_in (List.mem_of_getElem? (i := 631) (by decide +kernel)) (by decide +kernel)
set_option maxRecDepth 100000 in
theorem qw_850 : jm_cd M_X4_set ∈ jm_WS := jm_in (List.mem_of_getElem? (i := 992) (by decide +kernel)) (by decide +kernel)
set_option maxRecDepth 100000 in
theorem qw_851 : Cond.methodLink RL 121 yX4_set ∈ jm_WS := jm_in (List.mem_of_getElem? (i := 989) (by decide +kernel)) (by decide +kernel)
set_option maxRecDepth 100000 in
theorem qw_852 : Cond.instanceMethod yX4_set ∈ jm_WS := jm_in (List.mem_of_getElem? (i := 990) (by decide +kernel)) (by decide +kernel)
set_option maxRecDepth 100000 in
theorem qw_853 : Cond.selects RX4 yX4_set yX4_set ∈ jm_WS := jm_in (List.mem_of_getElem? (i := 991) (by decide +kernel)) (by decide +kernel)
set_option maxRecDepth 100000 in
theorem qw_854 : jm_cd M_L_show ∈ jm_WS := jm_in (List.mem_of_getElem? (i := 640) (by decide +kernel)) (by decide +kernel)
set_option maxRecDepth 100000 in
theorem qw_855 : Cond.methodLink RL 122 yL_show ∈ jm_WS := jm_in (List.mem_of_getElem? (i := 638) (by decide +kernel)) (by decide +kernel)
set_option maxRecDepth 100000 in
theorem qw_856 : Cond.static yL_show ∈ jm_WS := jm_in (List.mem_of_getElem? (i := 639) (by decide +kernel)) (by decide +kernel)
set_option maxRecDepth 100000 in
theorem qw_857 : jm_cd M_X4_show ∈ jm_WS := jm_in (List.mem_of_getElem? (i := 996) (by decide +kernel)) (by decide +kernel)
set_option maxRecDepth 100000 in
theorem qw_858 : Cond.methodLink RL 125 yX4_show ∈ jm_WS := jm_in (List.mem_of_getElem? (i := 993) (by decide +kernel)) (by decide +kernel)
set_option maxRecDepth 100000 in
theorem qw_859 : Cond.instanceMethod yX4_show ∈ jm_WS := jm_in (List.mem_of_getElem? (i := 994) (by decide +kernel)) (by decide +kernel)
set_option maxRecDepth 100000 in
theorem qw_860 : Cond.selects RX4 yX4_show yX4_show ∈ jm_WS := jm_in (List.mem_of_getElem? (i := 995) (by decide +kernel)) (by decide +kernel)
set_option maxRecDepth 100000 in
theorem qw_861 : jm_cd M_L_callOff ∈ jm_WS := jm_in (List.mem_of_getElem? (i := 671) (by decide +kernel)) (by decide +kernel)
set_option maxRecDepth 100000 in
theorem qw_862 : Cond.methodLink RL 126 yL_callOff ∈ jm_WS := jm_in (List.mem_of_getElem? (i := 669) (by decide +kernel)) (by decide +kernel)
set_option maxRecDepth 100000 in
theorem qw_863 : Cond.static yL_callOff ∈ jm_WS := jm_in (List.mem_of_getElem? (i := 670) (by decide +kernel)) (by decide +kernel)
set_option maxRecDepth 100000 in
theorem qw_864 : jm_cd M_X4_callOff ∈ jm_WS := jm_in (List.mem_of_getElem? (i := 1058) (by decide +kernel)) (by decide +kernel)
set_option maxRecDepth 100000 in
theorem qw_865 : Cond.methodLink RL 129 yX4_callOff ∈ jm_WS := jm_in (List.mem_of_getElem? (i := 1055) (by decide +kernel)) (by decide +kernel)
set_option maxRecDepth 100000 in
theorem qw_866 : Cond.instanceMethod yX4_callOff ∈ jm_WS := jm_in (List.mem_of_getElem? (i := 1056) (by decide +kernel)) (by decide +kernel)
set_option maxRecDepth 100000 in
theorem qw_867 : Cond.selects RX4 yX4_callOff yX4_callOff ∈ jm_WS := jm_in (List.mem_of_getElem? (i := 1057) (by decide +kernel)) (by decide +kernel)
set_option maxRecDepth 100000 in
theorem qw_868 : jm_cd M_L_move ∈ jm_WS := jm_in (List.mem_of_getElem? (i := 691) (by decide +kernel)) (by decide +kernel)
set_option maxRecDepth 100000 in
theorem qw_869 : Cond.methodLink RL 130 yL_move ∈ jm_WS := jm_in (List.mem_of_getElem? (i := 689) (by decide +kernel)) (by decide +kernel)
set_option maxRecDepth 100000 in
theorem qw_870 : Cond.static yL_move ∈ jm_WS := jm_in (List.mem_of_getElem? (i := 690) (by decide +kernel)) (by decide +kernel)
set_option maxRecDepth 100000 in
theorem qw_871 : jm_cd M_X4_move ∈ jm_WS := jm_in (List.mem_of_getElem? (i := 1069) (by decide +kernel)) (by decide +kernel)
set_option maxRecDepth 100000 in
theorem qw_872 : Cond.methodLink RL 132 yX4_move ∈ jm_WS := jm_in (List.mem_of_getElem? (i := 1066) (by decide +kernel)) (by decide +kernel)
set_option maxRecDepth 100000 in
theorem qw_873 : Cond.instanceMethod yX4_move ∈ jm_WS := jm_in (List.mem_of_getElem? (i := 1067) (by decide +kernel)) (by decide +kernel)
set_option maxRecDepth 100000 in
theorem qw_874 : Cond.selects RX4 yX4_move yX4_move ∈ jm_WS := jm_in (List.mem_of_getElem? (i := 1068) (by decide +kernel)) (by decide +kernel)
set_option maxRecDepth 100000 in
theorem qw_875 : jm_cd M_L_guest ∈ jm_WS := jm_in (List.mem_of_getElem? (i := 707) (by decide +kernel)) (by decide +kernel)
set_option maxRecDepth 100000 in
theorem qw_876 : Cond.methodLink RL 133 yL_guest ∈ jm_WS := jm_in (List.mem_of_getElem? (i := 705) (by decide +kernel)) (by decide +kernel)
set_option maxRecDepth 100000 in
theorem qw_877 : Cond.static yL_guest ∈ jm_WS := jm_in (List.mem_of_getElem? (i := 706) (by decide +kernel)) (by decide +kernel)
set_option maxRecDepth 100000 in
theorem qw_878 : jm_cd M_X4_guest ∈ jm_WS := jm_in (List.mem_of_getElem? (i := 1081) (by decide +kernel)) (by decide +kernel)
set_option maxRecDepth 100000 in
theorem qw_879 : Cond.methodLink RL 136 yX4_guest ∈ jm_WS := jm_in (List.mem_of_getElem? (i := 1078) (by decide +kernel)) (by decide +kernel)
set_option maxRecDepth 100000 in
theorem qw_880 : Cond.instanceMethod yX4_guest ∈ jm_WS := jm_in (List.mem_of_getElem? (i := 1079) (by decide +kernel)) (by decide +kernel)
set_option maxRecDepth 100000 in
theorem qw_881 : Cond.selects RX4 yX4_guest yX4_guest ∈ jm_WS := jm_in (List.mem_of_getElem? (i := 1080) (by decide +kernel)) (by decide +kernel)
set_option maxRecDepth 100000 in
theorem qw_882 : jm_cd M_L_attend ∈ jm_WS := jm_in (List.mem_of_getElem? (i := 719) (by decide +kernel)) (by decide +kernel)
set_option maxRecDepth 100000 in
theorem qw_883 : Cond.methodLink RL 137 yL_attend ∈ jm_WS := jm_in (List.mem_of_getElem? (i := 717) (by decide +kernel)) (by decide +kernel)
set_option maxRecDepth 100000 in
theorem qw_884 : Cond.static yL_attend ∈ jm_WS := jm_in (List.mem_of_getElem? (i := 718) (by decide +kernel)) (by decide +kernel)
set_option maxRecDepth 100000 in
theorem qw_885 : jm_cd M_X4_attend ∈ jm_WS := jm_in (List.mem_of_getElem? (i := 1085) (by decide +kernel)) (by decide +kernel)
set_option maxRecDepth 100000 in
theorem qw_886 : Cond.methodLink RL 139 yX4_attend ∈ jm_WS := jm_in (List.mem_of_getElem? (i := 1082) (by decide +kernel)) (by decide +kernel)
set_option maxRecDepth 100000 in
theorem qw_887 : Cond.instanceMethod yX4_attend ∈ jm_WS := jm_in (List.mem_of_getElem? (i := 1083) (by decide +kernel)) (by decide +kernel)
set_option maxRecDepth 100000 in
theorem qw_888 : Cond.selects RX4 yX4_attend yX4_attend ∈ jm_WS := jm_in (List.mem_of_getElem? (i := 1084) (by decide +kernel)) (by decide +kernel)
set_option maxRecDepth 100000 in
theorem qw_889 : jm_cd M_L_vote ∈ jm_WS := jm_in (List.mem_of_getElem? (i := 737) (by decide +kernel)) (by decide +kernel)
set_option maxRecDepth 100000 in
theorem qw_890 : Cond.methodLink RL 140 yL_vote ∈ jm_WS := jm_in (List.mem_of_getElem? (i := 735) (by decide +kernel)) (by decide +kernel)
set_option maxRecDepth 100000 in
theorem qw_891 : Cond.static yL_vote ∈ jm_WS := jm_in (List.mem_of_getElem? (i := 736) (by decide +kernel)) (by decide +kernel)
set_option maxRecDepth 100000 in
theorem qw_892 : jm_cd M_X4_vote ∈ jm_WS := jm_in (List.mem_of_getElem? (i := 1096) (by decide +kernel)) (by decide +kernel)
set_option maxRecDepth 100000 in
theorem qw_893 : Cond.methodLink RL 142 yX4_vote ∈ jm_WS := jm_in (List.mem_of_getElem? (i := 1093) (by decide +kernel)) (by decide +kernel)
set_option maxRecDepth 100000 in
theorem qw_894 : Cond.instanceMethod yX4_vote ∈ jm_WS := jm_in (List.mem_of_getElem? (i := 1094) (by decide +kernel)) (by decide +kernel)
set_option maxRecDepth 100000 in
theorem qw_895 : Cond.selects RX4 yX4_vote yX4_vote ∈ jm_WS := jm_in (List.mem_of_getElem? (i := 1095) (by decide +kernel)) (by decide +kernel)
set_option maxRecDepth 100000 in
theorem qw_896 : jm_cd M_L_append ∈ jm_WS := jm_in (List.mem_of_getElem? (i := 747) (by decide +kernel)) (by decide +kernel)
set_option maxRecDepth 100000 in
theorem qw_897 : Cond.methodLink RL 143 yL_append ∈ jm_WS := jm_in (List.mem_of_getElem? (i := 745) (by decide +kernel)) (by decide +kernel)
set_option maxRecDepth 100000 in
theorem qw_898 : Cond.static yL_append ∈ jm_WS := jm_in (List.mem_of_getElem? (i := 746) (by decide +kernel)) (by decide +kernel)
set_option maxRecDepth 100000 in
theorem qw_899 : jm_cd M_X4_append ∈ jm_WS := jm_in (List.mem_of_getElem? (i := 1104) (by decide +kernel)) (by decide +kernel)
set_option maxRecDepth 100000 in
theorem qw_900 : Cond.methodLink RL 145 yX4_append ∈ jm_WS := jm_in (List.mem_of_getElem? (i := 1101) (by decide +kernel)) (by decide +kernel)
set_option maxRecDepth 100000 in
theorem qw_901 : Cond.instanceMethod yX4_append ∈ jm_WS := jm_in (List.mem_of_getElem? (i := 1102) (by decide +kernel)) (by decide +kernel)
set_option maxRecDepth 100000 in
theorem qw_902 : Cond.selects RX4 yX4_append yX4_append ∈ jm_WS := jm_in (List.mem_of_getElem? (i := 1103) (by decide +kernel)) (by decide +kernel)
set_option maxRecDepth 100000 in
theorem qw_903 : jm_cd M_X3_clearBuffer ∈ jm_WS := jm_in (List.mem_of_getElem? (i := 242) (by decide +kernel)) (by decide +kernel)
set_option maxRecDepth 100000 in
theorem qw_904 : Cond.methodLink RL 146 yX3_clearBuffer ∈ jm_WS := jm_in (List.mem_of_getElem? (i := 239) (by decide +kernel)) (by decide +kernel)
set_option maxRecDepth 100000 in
theorem qw_905 : Cond.instanceMethod yX3_clearBuffer ∈ jm_WS := jm_in (List.mem_of_getElem? (i := 240) (by decide +kernel)) (by decide +kernel)
set_option maxRecDepth 100000 in
theorem qw_906 : Cond.selects RX3 yX3_clearBuffer yX3_clearBuffer ∈ jm_WS := jm_in (List.mem_of_getElem? (i := 241) (by decide +kernel)) (by decide +kernel)
set_option maxRecDepth 100000 in
theorem qw_907 : jm_cd M_X4_clearBuffer ∈ jm_WS := jm_in (List.mem_of_getElem? (i := 1108) (by decide +kernel)) (by decide +kernel)
set_option maxRecDepth 100000 in
theorem qw_908 : Cond.methodLink RL 149 yX4_clearBuffer ∈ jm_WS := jm_in (List.mem_of_getElem? (i := 1105) (by decide +kernel)) (by decide +kernel)
set_option maxRecDepth 100000 in
theorem qw_909 : Cond.instanceMethod yX4_clearBuffer ∈ jm_WS := jm_in (List.mem_of_getElem? (i := 1106) (by decide +kernel)) (by decide +kernel)
set_option maxRecDepth 100000 in
theorem qw_910 : Cond.selects RX4 yX4_clearBuffer yX4_clearBuffer ∈ jm_WS := jm_in (List.mem_of_getElem? (i := 1107) (by decide +kernel)) (by decide +kernel)
set_option maxRecDepth 100000 in
theorem qw_911 : jm_cd M_X3_firstError ∈ jm_WS := jm_in (List.mem_of_getElem? (i := 246) (by decide +kernel)) (by decide +kernel)
set_option maxRecDepth 100000 in
theorem qw_912 : Cond.methodLink RL 150 yX3_firstError ∈ jm_WS := jm_in (List.mem_of_getElem? (i := 243) (by decide +kernel)) (by decide +kernel)
set_option maxRecDepth 100000 in
theorem qw_913 : Cond.instanceMethod yX3_firstError ∈ jm_WS := jm_in (List.mem_of_getElem? (i := 244) (by decide +kernel)) (by decide +kernel)
set_option maxRecDepth 100000 in
theorem qw_914 : Cond.selects RX3 yX3_firstError yX3_firstError ∈ jm_WS := jm_in (List.mem_of_getElem? (i := 245) (by decide +kernel)) (by decide +kernel)
set_option maxRecDepth 100000 in
theorem qw_915 : jm_cd M_X4_firstError ∈ jm_WS := jm_in (List.mem_of_getElem? (i := 1112) (by decide +kernel)) (by decide +kernel)
set_option maxRecDepth 100000 in
theorem qw_916 : Cond.methodLink RL 153 yX4_firstError ∈ jm_WS := jm_in (List.mem_of_getElem? (i := 1109) (by decide +kernel)) (by decide +kernel)
set_option maxRecDepth 100000 in
theorem qw_917 : Cond.instanceMethod yX4_firstError ∈ jm_WS := jm_in (List.mem_of_getElem? (i := 1110) (by decide +kernel)) (by decide +kernel)
set_option maxRecDepth 100000 in
theorem qw_918 : Cond.selects RX4 yX4_firstError yX4_firstError ∈ jm_WS := jm_in (List.mem_of_getElem? (i := 1111) (by decide +kernel)) (by decide +kernel)
set_option maxRecDepth 100000 in
theorem qw_919 : jm_cd M_L_program ∈ jm_WS := jm_in (List.mem_of_getElem? (i := 755) (by decide +kernel)) (by decide +kernel)
set_option maxRecDepth 100000 in
theorem qw_920 : Cond.methodLink RL 154 yL_program ∈ jm_WS := jm_in (List.mem_of_getElem? (i := 753) (by decide +kernel)) (by decide +kernel)
set_option maxRecDepth 100000 in
theorem qw_921 : Cond.static yL_program ∈ jm_WS := jm_in (List.mem_of_getElem? (i := 754) (by decide +kernel)) (by decide +kernel)
set_option maxRecDepth 100000 in
theorem qw_922 : jm_cd M_X4_program ∈ jm_WS := jm_in (List.mem_of_getElem? (i := 1136) (by decide +kernel)) (by decide +kernel)
set_option maxRecDepth 100000 in
theorem qw_923 : Cond.methodLink RL 157 yX4_program ∈ jm_WS := jm_in (List.mem_of_getElem? (i := 1133) (by decide +kernel)) (by decide +kernel)
set_option maxRecDepth 100000 in
theorem qw_924 : Cond.instanceMethod yX4_program ∈ jm_WS := jm_in (List.mem_of_getElem? (i := 1134) (by decide +kernel)) (by decide +kernel)
set_option maxRecDepth 100000 in
theorem qw_925 : Cond.selects RX4 yX4_program yX4_program ∈ jm_WS := jm_in (List.mem_of_getElem? (i := 1135) (by decide +kernel)) (by decide +kernel)
set_option maxRecDepth 100000 in
theorem qw_926 : jm_cd M_L_stopped ∈ jm_WS := jm_in (List.mem_of_getElem? (i := 782) (by decide +kernel)) (by decide +kernel)
set_option maxRecDepth 100000 in
theorem qw_927 : Cond.methodLink RL 158 yL_stopped ∈ jm_WS := jm_in (List.mem_of_getElem? (i := 780) (by decide +kernel)) (by decide +kernel)
set_option maxRecDepth 100000 in
theorem qw_928 : Cond.static yL_stopped ∈ jm_WS := jm_in (List.mem_of_getElem? (i := 781) (by decide +kernel)) (by decide +kernel)
set_option maxRecDepth 100000 in
theorem qw_929 : jm_cd M_X4_stopped ∈ jm_WS := jm_in (List.mem_of_getElem? (i := 1144) (by decide +kernel)) (by decide +kernel)
set_option maxRecDepth 100000 in
theorem qw_930 : Cond.methodLink RL 160 yX4_stopped ∈ jm_WS := jm_in (List.mem_of_getElem? (i := 1141) (by decide +kernel)) (by decide +kernel)
set_option maxRecDepth 100000 in
theorem qw_931 : Cond.instanceMethod yX4_stopped ∈ jm_WS := jm_in (List.mem_of_getElem? (i := 1142) (by decide +kernel)) (by decide +kernel)
set_option maxRecDepth 100000 in
theorem qw_932 : Cond.selects RX4 yX4_stopped yX4_stopped ∈ jm_WS := jm_in (List.mem_of_getElem? (i := 1143) (by decide +kernel)) (by decide +kernel)
set_option maxRecDepth 100000 in
theorem qw_933 : jm_cd M_L_undo ∈ jm_WS := jm_in (List.mem_of_getElem? (i := 792) (by decide +kernel)) (by decide +kernel)
set_option maxRecDepth 100000 in
theorem qw_934 : Cond.methodLink RL 161 yL_undo ∈ jm_WS := jm_in (List.mem_of_getElem? (i := 790) (by decide +kernel)) (by decide +kernel)
set_option maxRecDepth 100000 in
theorem qw_935 : Cond.static yL_undo ∈ jm_WS := jm_in (List.mem_of_getElem? (i := 791) (by decide +kernel)) (by decide +kernel)
set_option maxRecDepth 100000 in
theorem qw_936 : jm_cd M_X4_undo ∈ jm_WS := jm_in (List.mem_of_getElem? (i := 1148) (by decide +kernel)) (by decide +kernel)
set_option maxRecDepth 100000 in
theorem qw_937 : Cond.methodLink RL 163 yX4_undo ∈ jm_WS := jm_in (List.mem_of_getElem? (i := 1145) (by decide +kernel)) (by decide +kernel)
set_option maxRecDepth 100000 in
theorem qw_938 : Cond.instanceMethod yX4_undo ∈ jm_WS := jm_in (List.mem_of_getElem? (i := 1146) (by decide +kernel)) (by decide +kernel)
set_option maxRecDepth 100000 in
theorem qw_939 : Cond.selects RX4 yX4_undo yX4_undo ∈ jm_WS := jm_in (List.mem_of_getElem? (i := 1147) (by decide +kernel)) (by decide +kernel)
set_option maxRecDepth 100000 in
theorem qw_940 : jm_cd M_X3_keep ∈ jm_WS := jm_in (List.mem_of_getElem? (i := 281) (by decide +kernel)) (by decide +kernel)
set_option maxRecDepth 100000 in
theorem qw_941 : Cond.methodLink RL 164 yX3_keep ∈ jm_WS := jm_in (List.mem_of_getElem? (i := 278) (by decide +kernel)) (by decide +kernel)
set_option maxRecDepth 100000 in
theorem qw_942 : Cond.instanceMethod yX3_keep ∈ jm_WS := jm_in (List.mem_of_getElem? (i := 279) (by decide +kernel)) (by decide +kernel)
set_option maxRecDepth 100000 in
theorem qw_943 : Cond.selects RX3 yX3_keep yX3_keep ∈ jm_WS := jm_in (List.mem_of_getElem? (i := 280) (by decide +kernel)) (by decide +kernel)
set_option maxRecDepth 100000 in
theorem qw_944 : jm_cd M_X4_keep ∈ jm_WS := jm_in (List.mem_of_getElem? (i := 1152) (by decide +kernel)) (by decide +kernel)
set_option maxRecDepth 100000 in
theorem qw_945 : Cond.methodLink RL 167 yX4_keep ∈ jm_WS := jm_in (List.mem_of_getElem? (i := 1149) (by decide +kernel)) (by decide +kernel)
set_option maxRecDepth 100000 in
theorem qw_946 : Cond.instanceMethod yX4_keep ∈ jm_WS := jm_in (List.mem_of_getElem? (i := 1150) (by decide +kernel)) (by decide +kernel)
set_option maxRecDepth 100000 in
theorem qw_947 : Cond.selects RX4 yX4_keep yX4_keep ∈ jm_WS := jm_in (List.mem_of_getElem? (i := 1151) (by decide +kernel)) (by decide +kernel)
set_option maxRecDepth 100000 in
theorem qw_948 : jm_cd M_L_restore ∈ jm_WS := jm_in (List.mem_of_getElem? (i := 800) (by decide +kernel)) (by decide +kernel)
set_option maxRecDepth 100000 in
theorem qw_949 : Cond.methodLink RL 168 yL_restore ∈ jm_WS := jm_in (List.mem_of_getElem? (i := 798) (by decide +kernel)) (by decide +kernel)
set_option maxRecDepth 100000 in
theorem qw_950 : Cond.static yL_restore ∈ jm_WS := jm_in (List.mem_of_getElem? (i := 799) (by decide +kernel)) (by decide +kernel)
set_option maxRecDepth 100000 in
theorem qw_951 : jm_cd M_X4_restore ∈ jm_WS := jm_in (List.mem_of_getElem? (i := 1156) (by decide +kernel)) (by decide +kernel)
set_option maxRecDepth 100000 in
theorem qw_952 : Cond.methodLink RL 170 yX4_restore ∈ jm_WS := jm_in (List.mem_of_getElem? (i := 1153) (by decide +kernel)) (by decide +kernel)
set_option maxRecDepth 100000 in
theorem qw_953 : Cond.instanceMethod yX4_restore ∈ jm_WS := jm_in (List.mem_of_getElem? (i := 1154) (by decide +kernel)) (by decide +kernel)
set_option maxRecDepth 100000 in
theorem qw_954 : Cond.selects RX4 yX4_restore yX4_restore ∈ jm_WS := jm_in (List.mem_of_getElem? (i := 1155) (by decide +kernel)) (by decide +kernel)
set_option maxRecDepth 100000 in
theorem qw_955 : jm_cd M_L_filmOf ∈ jm_WS := jm_in (List.mem_of_getElem? (i := 808) (by decide +kernel)) (by decide +kernel)
set_option maxRecDepth 100000 in
theorem qw_956 : Cond.methodLink RL 171 yL_filmOf ∈ jm_WS := jm_in (List.mem_of_getElem? (i := 806) (by decide +kernel)) (by decide +kernel)
set_option maxRecDepth 100000 in
theorem qw_957 : Cond.static yL_filmOf ∈ jm_WS := jm_in (List.mem_of_getElem? (i := 807) (by decide +kernel)) (by decide +kernel)
set_option maxRecDepth 100000 in
theorem qw_958 : jm_cd M_X4_filmOf ∈ jm_WS := jm_in (List.mem_of_getElem? (i := 1160) (by decide +kernel)) (by decide +kernel)
set_option maxRecDepth 100000 in
theorem qw_959 : Cond.methodLink RL 173 yX4_filmOf ∈ jm_WS := jm_in (List.mem_of_getElem? (i := 1157) (by decide +kernel)) (by decide +kernel)
set_option maxRecDepth 100000 in
theorem qw_960 : Cond.instanceMethod yX4_filmOf ∈ jm_WS := jm_in (List.mem_of_getElem? (i := 1158) (by decide +kernel)) (by decide +kernel)
set_option maxRecDepth 100000 in
theorem qw_961 : Cond.selects RX4 yX4_filmOf yX4_filmOf ∈ jm_WS := jm_in (List.mem_of_getElem? (i := 1159) (by decide +kernel)) (by decide +kernel)
set_option maxRecDepth 100000 in
theorem qw_962 : jm_cd M_L_showing ∈ jm_WS := jm_in (List.mem_of_getElem? (i := 815) (by decide +kernel)) (by decide +kernel)
set_option maxRecDepth 100000 in
theorem qw_963 : Cond.methodLink RL 174 yL_showing ∈ jm_WS := jm_in (List.mem_of_getElem? (i := 813) (by decide +kernel)) (by decide +kernel)
set_option maxRecDepth 100000 in
theorem qw_964 : Cond.static yL_showing ∈ jm_WS := jm_in (List.mem_of_getElem? (i := 814) (by decide +kernel)) (by decide +kernel)
set_option maxRecDepth 100000 in
theorem qw_965 : jm_cd M_X4_showing ∈ jm_WS := jm_in (List.mem_of_getElem? (i := 1184) (by decide +kernel)) (by decide +kernel)
set_option maxRecDepth 100000 in
theorem qw_966 : Cond.methodLink RL 176 yX4_showing ∈ jm_WS := jm_in (List.mem_of_getElem? (i := 1181) (by decide +kernel)) (by decide +kernel)
set_option maxRecDepth 100000 in
theorem qw_967 : Cond.instanceMethod yX4_showing ∈ jm_WS := jm_in (List.mem_of_getElem? (i := 1182) (by decide +kernel)) (by decide +kernel)
set_option maxRecDepth 100000 in
theorem qw_968 : Cond.selects RX4 yX4_showing yX4_showing ∈ jm_WS := jm_in (List.mem_of_getElem? (i := 1183) (by decide +kernel)) (by decide +kernel)
set_option maxRecDepth 100000 in
theorem qw_969 : jm_cd M_L_reel ∈ jm_WS := jm_in (List.mem_of_getElem? (i := 822) (by decide +kernel)) (by decide +kernel)
set_option maxRecDepth 100000 in
theorem qw_970 : Cond.methodLink RL 177 yL_reel ∈ jm_WS := jm_in (List.mem_of_getElem? (i := 820) (by decide +kernel)) (by decide +kernel)
set_option maxRecDepth 100000 in
theorem qw_971 : Cond.static yL_reel ∈ jm_WS := jm_in (List.mem_of_getElem? (i := 821) (by decide +kernel)) (by decide +kernel)
set_option maxRecDepth 100000 in
theorem qw_972 : jm_cd M_X4_reel ∈ jm_WS := jm_in (List.mem_of_getElem? (i := 1192) (by decide +kernel)) (by decide +kernel)
set_option maxRecDepth 100000 in
theorem qw_973 : Cond.methodLink RL 179 yX4_reel ∈ jm_WS := jm_in (List.mem_of_getElem? (i := 1189) (by decide +kernel)) (by decide +kernel)
set_option maxRecDepth 100000 in
theorem qw_974 : Cond.instanceMethod yX4_reel ∈ jm_WS := jm_in (List.mem_of_getElem? (i := 1190) (by decide +kernel)) (by decide +kernel)
set_option maxRecDepth 100000 in
theorem qw_975 : Cond.selects RX4 yX4_reel yX4_reel ∈ jm_WS := jm_in (List.mem_of_getElem? (i := 1191) (by decide +kernel)) (by decide +kernel)
set_option maxRecDepth 100000 in
theorem qw_976 : jm_cd M_L_runs ∈ jm_WS := jm_in (List.mem_of_getElem? (i := 829) (by decide +kernel)) (by decide +kernel)
set_option maxRecDepth 100000 in
theorem qw_977 : Cond.methodLink RL 180 yL_runs ∈ jm_WS := jm_in (List.mem_of_getElem? (i := 827) (by decide +kernel)) (by decide +kernel)
set_option maxRecDepth 100000 in
theorem qw_978 : Cond.static yL_runs ∈ jm_WS := jm_in (List.mem_of_getElem? (i := 828) (by decide +kernel)) (by decide +kernel)
set_option maxRecDepth 100000 in
theorem qw_979 : jm_cd M_X4_runs ∈ jm_WS := jm_in (List.mem_of_getElem? (i := 1200) (by decide +kernel)) (by decide +kernel)
set_option maxRecDepth 100000 in
theorem qw_980 : Cond.methodLink RL 182 yX4_runs ∈ jm_WS := jm_in (List.mem_of_getElem? (i := 1197) (by decide +kernel)) (by decide +kernel)
set_option maxRecDepth 100000 in
theorem qw_981 : Cond.instanceMethod yX4_runs ∈ jm_WS := jm_in (List.mem_of_getElem? (i := 1198) (by decide +kernel)) (by decide +kernel)
set_option maxRecDepth 100000 in
theorem qw_982 : Cond.selects RX4 yX4_runs yX4_runs ∈ jm_WS := jm_in (List.mem_of_getElem? (i := 1199) (by decide +kernel)) (by decide +kernel)
set_option maxRecDepth 100000 in
theorem qw_983 : jm_cd M_L_screen ∈ jm_WS := jm_in (List.mem_of_getElem? (i := 836) (by decide +kernel)) (by decide +kernel)
set_option maxRecDepth 100000 in
theorem qw_984 : Cond.methodLink RL 183 yL_screen ∈ jm_WS := jm_in (List.mem_of_getElem? (i := 834) (by decide +kernel)) (by decide +kernel)
set_option maxRecDepth 100000 in
theorem qw_985 : Cond.static yL_screen ∈ jm_WS := jm_in (List.mem_of_getElem? (i := 835) (by decide +kernel)) (by decide +kernel)
set_option maxRecDepth 100000 in
theorem qw_986 : jm_cd M_X4_screen ∈ jm_WS := jm_in (List.mem_of_getElem? (i := 1208) (by decide +kernel)) (by decide +kernel)
set_option maxRecDepth 100000 in
theorem qw_987 : Cond.methodLink RL 185 yX4_screen ∈ jm_WS := jm_in (List.mem_of_getElem? (i := 1205) (by decide +kernel)) (by decide +kernel)
set_option maxRecDepth 100000 in
theorem qw_988 : Cond.instanceMethod yX4_screen ∈ jm_WS := jm_in (List.mem_of_getElem? (i := 1206) (by decide +kernel)) (by decide +kernel)
set_option maxRecDepth 100000 in
theorem qw_989 : Cond.selects RX4 yX4_screen yX4_screen ∈ jm_WS := jm_in (List.mem_of_getElem? (i := 1207) (by decide +kernel)) (by decide +kernel)
set_option maxRecDepth 100000 in
theorem qw_990 : jm_cd M_L_guestOf ∈ jm_WS := jm_in (List.mem_of_getElem? (i := 843) (by decide +kernel)) (by decide +kernel)
set_option maxRecDepth 100000 in
theorem qw_991 : Cond.methodLink RL 186 yL_guestOf ∈ jm_WS := jm_in (List.mem_of_getElem? (i := 841) (by decide +kernel)) (by decide +kernel)
set_option maxRecDepth 100000 in
theorem qw_992 : Cond.static yL_guestOf ∈ jm_WS := jm_in (List.mem_of_getElem? (i := 842) (by decide +kernel)) (by decide +kernel)
set_option maxRecDepth 100000 in
theorem qw_993 : jm_cd M_X4_guestOf ∈ jm_WS := jm_in (List.mem_of_getElem? (i := 1228) (by decide +kernel)) (by decide +kernel)
set_option maxRecDepth 100000 in
theorem qw_994 : Cond.methodLink RL 188 yX4_guestOf ∈ jm_WS := jm_in (List.mem_of_getElem? (i := 1225) (by decide +kernel)) (by decide +kernel)
set_option maxRecDepth 100000 in
theorem qw_995 : Cond.instanceMethod yX4_guestOf ∈ jm_WS := jm_in (List.mem_of_getElem? (i := 1226) (by decide +kernel)) (by decide +kernel)
set_option maxRecDepth 100000 in
theorem qw_996 : Cond.selects RX4 yX4_guestOf yX4_guestOf ∈ jm_WS := jm_in (List.mem_of_getElem? (i := 1227) (by decide +kernel)) (by decide +kernel)
set_option maxRecDepth 100000 in
theorem qw_997 : jm_cd M_L_juror ∈ jm_WS := jm_in (List.mem_of_getElem? (i := 851) (by decide +kernel)) (by decide +kernel)
set_option maxRecDepth 100000 in
theorem qw_998 : Cond.methodLink RL 189 yL_juror ∈ jm_WS := jm_in (List.mem_of_getElem? (i := 849) (by decide +kernel)) (by decide +kernel)
set_option maxRecDepth 100000 in
theorem qw_999 : Cond.static yL_juror ∈ jm_WS := jm_in (List.mem_of_getElem? (i := 850) (by decide +kernel)) (by decide +kernel)
set_option maxRecDepth 100000 in
theorem qw_1000 : jm_cd M_X4_juror ∈ jm_WS := jm_in (List.mem_of_getElem? (i := 1248) (by decide +kernel)) (by decide +kernel)
set_option maxRecDepth 100000 in
theorem qw_1001 : Cond.methodLink RL 191 yX4_juror ∈ jm_WS := jm_in (List.mem_of_getElem? (i := 1245) (by decide +kernel)) (by decide +kernel)
set_option maxRecDepth 100000 in
theorem qw_1002 : Cond.instanceMethod yX4_juror ∈ jm_WS := jm_in (List.mem_of_getElem? (i := 1246) (by decide +kernel)) (by decide +kernel)
set_option maxRecDepth 100000 in
theorem qw_1003 : Cond.selects RX4 yX4_juror yX4_juror ∈ jm_WS := jm_in (List.mem_of_getElem? (i := 1247) (by decide +kernel)) (by decide +kernel)
set_option maxRecDepth 100000 in
theorem qw_1004 : jm_cd M_L_count ∈ jm_WS := jm_in (List.mem_of_getElem? (i := 858) (by decide +kernel)) (by decide +kernel)
set_option maxRecDepth 100000 in
theorem qw_1005 : Cond.methodLink RL 192 yL_count ∈ jm_WS := jm_in (List.mem_of_getElem? (i := 856) (by decide +kernel)) (by decide +kernel)
set_option maxRecDepth 100000 in
theorem qw_1006 : Cond.static yL_count ∈ jm_WS := jm_in (List.mem_of_getElem? (i := 857) (by decide +kernel)) (by decide +kernel)
set_option maxRecDepth 100000 in
theorem qw_1007 : jm_cd M_X4_count ∈ jm_WS := jm_in (List.mem_of_getElem? (i := 1264) (by decide +kernel)) (by decide +kernel)
set_option maxRecDepth 100000 in
theorem qw_1008 : Cond.methodLink RL 194 yX4_count ∈ jm_WS := jm_in (List.mem_of_getElem? (i := 1261) (by decide +kernel)) (by decide +kernel)
set_option maxRecDepth 100000 in
theorem qw_1009 : Cond.instanceMethod yX4_count ∈ jm_WS := jm_in (List.mem_of_getElem? (i := 1262) (by decide +kernel)) (by decide +kernel)
set_option maxRecDepth 100000 in
theorem qw_1010 : Cond.selects RX4 yX4_count yX4_count ∈ jm_WS := jm_in (List.mem_of_getElem? (i := 1263) (by decide +kernel)) (by decide +kernel)
set_option maxRecDepth 100000 in
theorem qw_1011 : jm_cd M_L_whyNot ∈ jm_WS := jm_in (List.mem_of_getElem? (i := 865) (by decide +kernel)) (by decide +kernel)
set_option maxRecDepth 100000 in
theorem qw_1012 : Cond.methodLink RL 195 yL_whyNot ∈ jm_WS := jm_in (List.mem_of_getElem? (i := 863) (by decide +kernel)) (by decide +kernel)
set_option maxRecDepth 100000 in
theorem qw_1013 : Cond.static yL_whyNot ∈ jm_WS := jm_in (List.mem_of_getElem? (i := 864) (by decide +kernel)) (by decide +kernel)
set_option maxRecDepth 100000 in
theorem qw_1014 : jm_cd M_X4_whyNot ∈ jm_WS := jm_in (List.mem_of_getElem? (i := 1280) (by decide +kernel)) (by decide +kernel)
set_option maxRecDepth 100000 in
theorem qw_1015 : Cond.methodLink RL 198 yX4_whyNot ∈ jm_WS := jm_in (List.mem_of_getElem? (i := 1277) (by decide +kernel)) (by decide +kernel)
set_option maxRecDepth 100000 in
theorem qw_1016 : Cond.instanceMethod yX4_whyNot ∈ jm_WS := jm_in (List.mem_of_getElem? (i := 1278) (by decide +kernel)) (by decide +kernel)
set_option maxRecDepth 100000 in
theorem qw_1017 : Cond.selects RX4 yX4_whyNot yX4_whyNot ∈ jm_WS := jm_in (List.mem_of_getElem? (i := 1279) (by decide +kernel)) (by decide +kernel)
set_option maxRecDepth 100000 in
theorem qw_1018 : jm_cd M_L_nextStart ∈ jm_WS := jm_in (List.mem_of_getElem? (i := 873) (by decide +kernel)) (by decide +kernel)
set_option maxRecDepth 100000 in
theorem qw_1019 : Cond.methodLink RL 199 yL_nextStart ∈ jm_WS := jm_in (List.mem_of_getElem? (i := 871) (by decide +kernel)) (by decide +kernel)
set_option maxRecDepth 100000 in
theorem qw_1020 : Cond.static yL_nextStart ∈ jm_WS := jm_in (List.mem_of_getElem? (i := 872) (by decide +kernel)) (by decide +kernel)
set_option maxRecDepth 100000 in
theorem qw_1021 : jm_cd M_X4_nextStart ∈ jm_WS := jm_in (List.mem_of_getElem? (i := 1284) (by decide +kernel)) (by decide +kernel)
set_option maxRecDepth 100000 in
theorem qw_1022 : Cond.methodLink RL 201 yX4_nextStart ∈ jm_WS := jm_in (List.mem_of_getElem? (i := 1281) (by decide +kernel)) (by decide +kernel)
set_option maxRecDepth 100000 in
theorem qw_1023 : Cond.instanceMethod yX4_nextStart ∈ jm_WS := jm_in (List.mem_of_getElem? (i := 1282) (by decide +kernel)) (by decide +kernel)
set_option maxRecDepth 100000 in
theorem qw_1024 : Cond.selects RX4 yX4_nextStart yX4_nextStart ∈ jm_WS := jm_in (List.mem_of_getElem? (i := 1283) (by decide +kernel)) (by decide +kernel)
set_option maxRecDepth 100000 in
theorem qw_1025 : jm_cd M_L_bestScreen ∈ jm_WS := jm_in (List.mem_of_getElem? (i := 880) (by decide +kernel)) (by decide +kernel)
set_option maxRecDepth 100000 in
theorem qw_1026 : Cond.methodLink RL 202 yL_bestScreen ∈ jm_WS := jm_in (List.mem_of_getElem? (i := 878) (by decide +kernel)) (by decide +kernel)
set_option maxRecDepth 100000 in
theorem qw_1027 : Cond.static yL_bestScreen ∈ jm_WS := jm_in (List.mem_of_getElem? (i := 879) (by decide +kernel)) (by decide +kernel)
set_option maxRecDepth 100000 in
theorem qw_1028 : jm_cd M_X4_bestScreen ∈ jm_WS := jm_in (List.mem_of_getElem? (i := 1292) (by decide +kernel)) (by decide +kernel)
set_option maxRecDepth 100000 in
theorem qw_1029 : Cond.methodLink RL 204 yX4_bestScreen ∈ jm_WS := jm_in (List.mem_of_getElem? (i := 1289) (by decide +kernel)) (by decide +kernel)
set_option maxRecDepth 100000 in
theorem qw_1030 : Cond.instanceMethod yX4_bestScreen ∈ jm_WS := jm_in (List.mem_of_getElem? (i := 1290) (by decide +kernel)) (by decide +kernel)
set_option maxRecDepth 100000 in
theorem qw_1031 : Cond.selects RX4 yX4_bestScreen yX4_bestScreen ∈ jm_WS := jm_in (List.mem_of_getElem? (i := 1291) (by decide +kernel)) (by decide +kernel)
set_option maxRecDepth 100000 in
theorem qw_1032 : jm_cd M_L_ifShown ∈ jm_WS := jm_in (List.mem_of_getElem? (i := 887) (by decide +kernel)) (by decide +kernel)
set_option maxRecDepth 100000 in
theorem qw_1033 : Cond.methodLink RL 205 yL_ifShown ∈ jm_WS := jm_in (List.mem_of_getElem? (i := 885) (by decide +kernel)) (by decide +kernel)
set_option maxRecDepth 100000 in
theorem qw_1034 : Cond.static yL_ifShown ∈ jm_WS := jm_in (List.mem_of_getElem? (i := 886) (by decide +kernel)) (by decide +kernel)
set_option maxRecDepth 100000 in
theorem qw_1035 : jm_cd M_X4_ifShown ∈ jm_WS := jm_in (List.mem_of_getElem? (i := 1300) (by decide +kernel)) (by decide +kernel)
set_option maxRecDepth 100000 in
theorem qw_1036 : Cond.methodLink RL 207 yX4_ifShown ∈ jm_WS := jm_in (List.mem_of_getElem? (i := 1297) (by decide +kernel)) (by decide +kernel)
set_option maxRecDepth 100000 in
theorem qw_1037 : Cond.instanceMethod yX4_ifShown ∈ jm_WS := jm_in (List.mem_of_getElem? (i := 1298) (by decide +kernel)) (by decide +kernel)
set_option maxRecDepth 100000 in
theorem qw_1038 : Cond.selects RX4 yX4_ifShown yX4_ifShown ∈ jm_WS := jm_in (List.mem_of_getElem? (i := 1299) (by decide +kernel)) (by decide +kernel)
set_option maxRecDepth 100000 in
theorem qw_1039 : jm_cd M_L_use ∈ jm_WS := jm_in (List.mem_of_getElem? (i := 899) (by decide +kernel)) (by decide +kernel)
set_option maxRecDepth 100000 in
theorem qw_1040 : Cond.methodLink RL 208 yL_use ∈ jm_WS := jm_in (List.mem_of_getElem? (i := 897) (by decide +kernel)) (by decide +kernel)
set_option maxRecDepth 100000 in
theorem qw_1041 : Cond.static yL_use ∈ jm_WS := jm_in (List.mem_of_getElem? (i := 898) (by decide +kernel)) (by decide +kernel)
set_option maxRecDepth 100000 in
theorem qw_1042 : jm_cd M_X4_use ∈ jm_WS := jm_in (List.mem_of_getElem? (i := 1308) (by decide +kernel)) (by decide +kernel)
set_option maxRecDepth 100000 in
theorem qw_1043 : Cond.methodLink RL 211 yX4_use ∈ jm_WS := jm_in (List.mem_of_getElem? (i := 1305) (by decide +kernel)) (by decide +kernel)
set_option maxRecDepth 100000 in
theorem qw_1044 : Cond.instanceMethod yX4_use ∈ jm_WS := jm_in (List.mem_of_getElem? (i := 1306) (by decide +kernel)) (by decide +kernel)
set_option maxRecDepth 100000 in
theorem qw_1045 : Cond.selects RX4 yX4_use yX4_use ∈ jm_WS := jm_in (List.mem_of_getElem? (i := 1307) (by decide +kernel)) (by decide +kernel)
set_option maxRecDepth 100000 in
theorem qw_1046 : jm_cd M_X3_digest ∈ jm_WS := jm_in (List.mem_of_getElem? (i := 299) (by decide +kernel)) (by decide +kernel)
set_option maxRecDepth 100000 in
theorem qw_1047 : Cond.methodLink RL 212 yX3_digest ∈ jm_WS := jm_in (List.mem_of_getElem? (i := 296) (by decide +kernel)) (by decide +kernel)
set_option maxRecDepth 100000 in
theorem qw_1048 : Cond.instanceMethod yX3_digest ∈ jm_WS := jm_in (List.mem_of_getElem? (i := 297) (by decide +kernel)) (by decide +kernel)
set_option maxRecDepth 100000 in
theorem qw_1049 : Cond.selects RX3 yX3_digest yX3_digest ∈ jm_WS := jm_in (List.mem_of_getElem? (i := 298) (by decide +kernel)) (by decide +kernel)
set_option maxRecDepth 100000 in
theorem qw_1050 : jm_cd M_X4_digest ∈ jm_WS := jm_in (List.mem_of_getElem? (i := 1317) (by decide +kernel)) (by decide +kernel)
set_option maxRecDepth 100000 in
theorem qw_1051 : Cond.methodLink RL 216 yX4_digest ∈ jm_WS := jm_in (List.mem_of_getElem? (i := 1314) (by decide +kernel)) (by decide +kernel)
set_option maxRecDepth 100000 in
theorem qw_1052 : Cond.instanceMethod yX4_digest ∈ jm_WS := jm_in (List.mem_of_getElem? (i := 1315) (by decide +kernel)) (by decide +kernel)
set_option maxRecDepth 100000 in
theorem qw_1053 : Cond.selects RX4 yX4_digest yX4_digest ∈ jm_WS := jm_in (List.mem_of_getElem? (i := 1316) (by decide +kernel)) (by decide +kernel)
set_option maxRecDepth 100000 in
theorem qw_1054 : Cond.classLink RX3 288 "java/lang/IllegalArgumentException" ∈ jm_WS := jm_in (List.mem_of_getElem? (i := 501) (by decide +kernel)) (by decide +kernel)
set_option maxRecDepth 100000 in
theorem qw_1055 : Cond.initialized "java/lang/IllegalArgumentException" ∈ jm_WS := jm_in (List.mem_of_getElem? (i := 99) (by decide +kernel)) (by decide +kernel)
set_option maxRecDepth 100000 in
theorem qw_1056 : Cond.classLink RX3 52 "java/lang/IllegalStateException" ∈ jm_WS := jm_in (List.mem_of_getElem? (i := 569) (by decide +kernel)) (by decide +kernel)
set_option maxRecDepth 100000 in
theorem qw_1057 : Cond.initialized "java/lang/IllegalStateException" ∈ jm_WS := jm_in (List.mem_of_getElem? (i := 100) (by decide +kernel)) (by decide +kernel)
set_option maxRecDepth 100000 in
theorem qw_1058 : Cond.classLink RX3 77 "java/lang/IndexOutOfBoundsException" ∈ jm_WS := jm_in (List.mem_of_getElem? (i := 608) (by decide +kernel)) (by decide +kernel)
set_option maxRecDepth 100000 in
theorem qw_1059 : Cond.initialized "java/lang/IndexOutOfBoundsException" ∈ jm_WS := jm_in (List.mem_of_getElem? (i := 102) (by decide +kernel)) (by decide +kernel)
set_option maxRecDepth 100000 in
theorem qw_1060 : u_lay RX0 TX0 0 ∈ jm_WS := jm_in (List.mem_of_getElem? (i := 166) (by decide +kernel)) (by decide +kernel)
set_option maxRecDepth 100000 in
theorem qw_1061 : u_lay RX0 TX0 1 ∈ jm_WS := jm_in (List.mem_of_getElem? (i := 168) (by decide +kernel)) (by decide +kernel)
set_option maxRecDepth 100000 in
theorem qw_1062 : u_lay RX0 TX0 2 ∈ jm_WS := jm_in (List.mem_of_getElem? (i := 170) (by decide +kernel)) (by decide +kernel)
set_option maxRecDepth 100000 in
theorem qw_1063 : u_lay RX0 TX0 3 ∈ jm_WS := jm_in (List.mem_of_getElem? (i := 172) (by decide +kernel)) (by decide +kernel)
set_option maxRecDepth 100000 in
theorem qw_1064 : u_lay RX0 TX0 4 ∈ jm_WS := jm_in (List.mem_of_getElem? (i := 174) (by decide +kernel)) (by decide +kernel)
set_option maxRecDepth 100000 in
theorem qw_1065 : u_lay RX0 TX0 5 ∈ jm_WS := jm_in (List.mem_of_getElem? (i := 176) (by decide +kernel)) (by decide +kernel)
set_option maxRecDepth 100000 in
theorem qw_1066 : u_lay RX0 TX0 6 ∈ jm_WS := jm_in (List.mem_of_getElem? (i := 178) (by decide +kernel)) (by decide +kernel)
set_option maxRecDepth 100000 in
theorem qw_1067 : u_lay RX0 TX0 7 ∈ jm_WS := jm_in (List.mem_of_getElem? (i := 180) (by decide +kernel)) (by decide +kernel)
set_option maxRecDepth 100000 in
theorem qw_1068 : u_lay RX0 TX0 8 ∈ jm_WS := jm_in (List.mem_of_getElem? (i := 182) (by decide +kernel)) (by decide +kernel)
set_option maxRecDepth 100000 in
theorem qw_1069 : u_lay RX0 TX0 9 ∈ jm_WS := jm_in (List.mem_of_getElem? (i := 184) (by decide +kernel)) (by decide +kernel)
set_option maxRecDepth 100000 in
theorem qw_1070 : u_lay RX1 TX1 0 ∈ jm_WS := jm_in (List.mem_of_getElem? (i := 203) (by decide +kernel)) (by decide +kernel)
set_option maxRecDepth 100000 in
theorem qw_1071 : u_lay RX1 TX1 1 ∈ jm_WS := jm_in (List.mem_of_getElem? (i := 205) (by decide +kernel)) (by decide +kernel)
set_option maxRecDepth 100000 in
theorem qw_1072 : u_lay RX1 TX1 2 ∈ jm_WS := jm_in (List.mem_of_getElem? (i := 207) (by decide +kernel)) (by decide +kernel)
set_option maxRecDepth 100000 in
theorem qw_1073 : u_lay RX1 TX1 3 ∈ jm_WS := jm_in (List.mem_of_getElem? (i := 209) (by decide +kernel)) (by decide +kernel)
set_option maxRecDepth 100000 in
theorem qw_1074 : u_lay RX1 TX1 4 ∈ jm_WS := jm_in (List.mem_of_getElem? (i := 211) (by decide +kernel)) (by decide +kernel)
set_option maxRecDepth 100000 in
theorem qw_1075 : u_lay RX2 TX2 0 ∈ jm_WS := jm_in (List.mem_of_getElem? (i := 133) (by decide +kernel)) (by decide +kernel)
set_option maxRecDepth 100000 in
theorem qw_1076 : u_lay RX2 TX2 1 ∈ jm_WS := jm_in (List.mem_of_getElem? (i := 135) (by decide +kernel)) (by decide +kernel)
set_option maxRecDepth 100000 in
theorem qw_1077 : u_lay RX2 TX2 2 ∈ jm_WS := jm_in (List.mem_of_getElem? (i := 137) (by decide +kernel)) (by decide +kernel)
set_option maxRecDepth 100000 in
theorem qw_1078 : u_lay RX3 TX3 0 ∈ jm_WS := jm_in (List.mem_of_getElem? (i := 222) (by decide +kernel)) (by decide +kernel)
set_option maxRecDepth 100000 in
theorem qw_1079 : u_lay RX3 TX3 1 ∈ jm_WS := jm_in (List.mem_of_getElem? (i := 224) (by decide +kernel)) (by decide +kernel)
set_option maxRecDepth 100000 in
theorem qw_1080 : u_lay RX3 TX3 2 ∈ jm_WS := jm_in (List.mem_of_getElem? (i := 226) (by decide +kernel)) (by decide +kernel)
set_option maxRecDepth 100000 in
theorem qw_1081 : u_lay RX3 TX3 3 ∈ jm_WS := jm_in (List.mem_of_getElem? (i := 228) (by decide +kernel)) (by decide +kernel)
set_option maxRecDepth 100000 in
theorem qw_1082 : u_lay RX3 TX3 4 ∈ jm_WS := jm_in (List.mem_of_getElem? (i := 230) (by decide +kernel)) (by decide +kernel)
set_option maxRecDepth 100000 in
theorem qw_1083 : u_lay RX3 TX3 5 ∈ jm_WS := jm_in (List.mem_of_getElem? (i := 232) (by decide +kernel)) (by decide +kernel)
set_option maxRecDepth 100000 in
theorem qw_1084 : u_lay RX3 TX3 6 ∈ jm_WS := jm_in (List.mem_of_getElem? (i := 234) (by decide +kernel)) (by decide +kernel)
set_option maxRecDepth 100000 in
theorem qw_1085 : u_lay RX3 TX3 7 ∈ jm_WS := jm_in (List.mem_of_getElem? (i := 236) (by decide +kernel)) (by decide +kernel)
set_option maxRecDepth 100000 in
theorem qw_1086 : u_lay RX4 TX4 0 ∈ jm_WS := jm_in (List.mem_of_getElem? (i := 929) (by decide +kernel)) (by decide +kernel)
set_option maxRecDepth 100000 in
theorem qw_1087 : u_lay RX4 TX4 1 ∈ jm_WS := jm_in (List.mem_of_getElem? (i := 931) (by decide +kernel)) (by decide +kernel)
set_option maxRecDepth 100000 in
theorem qw_1088 : u_lay RX4 TX4 2 ∈ jm_WS := jm_in (List.mem_of_getElem? (i := 933) (by decide +kernel)) (by decide +kernel)
set_option maxRecDepth 100000 in
theorem qw_1089 : u_lay RX4 TX4 3 ∈ jm_WS := jm_in (List.mem_of_getElem? (i := 935) (by decide +kernel)) (by decide +kernel)
set_option maxRecDepth 100000 in
theorem qw_1090 : u_lay RX4 TX4 4 ∈ jm_WS := jm_in (List.mem_of_getElem? (i := 937) (by decide +kernel)) (by decide +kernel)
set_option maxRecDepth 100000 in
theorem qw_1091 : u_lay RX4 TX4 5 ∈ jm_WS := jm_in (List.mem_of_getElem? (i := 939) (by decide +kernel)) (by decide +kernel)
set_option maxRecDepth 100000 in
theorem qw_1092 : u_lay RX4 TX4 6 ∈ jm_WS := jm_in (List.mem_of_getElem? (i := 941) (by decide +kernel)) (by decide +kernel)
set_option maxRecDepth 100000 in
theorem qw_1093 : u_lay RX4 TX4 7 ∈ jm_WS := jm_in (List.mem_of_getElem? (i := 943) (by decide +kernel)) (by decide +kernel)
set_option maxRecDepth 100000 in
theorem qw_1094 : u_lay RX4 TX4 8 ∈ jm_WS := jm_in (List.mem_of_getElem? (i := 945) (by decide +kernel)) (by decide +kernel)
set_option maxRecDepth 100000 in
theorem qw_1095 : u_lay RX4 TX4 9 ∈ jm_WS := jm_in (List.mem_of_getElem? (i := 947) (by decide +kernel)) (by decide +kernel)
set_option maxRecDepth 100000 in
theorem qw_1096 : u_lay RX4 TX4 10 ∈ jm_WS := jm_in (List.mem_of_getElem? (i := 949) (by decide +kernel)) (by decide +kernel)
set_option maxRecDepth 100000 in
theorem qw_1097 : u_lay RX4 TX4 11 ∈ jm_WS := jm_in (List.mem_of_getElem? (i := 951) (by decide +kernel)) (by decide +kernel)
set_option maxRecDepth 100000 in
theorem qw_1098 : u_lay RX4 TX4 12 ∈ jm_WS := jm_in (List.mem_of_getElem? (i := 953) (by decide +kernel)) (by decide +kernel)
set_option maxRecDepth 100000 in
theorem qw_1099 : u_lay RX4 TX4 13 ∈ jm_WS := jm_in (List.mem_of_getElem? (i := 955) (by decide +kernel)) (by decide +kernel)
set_option maxRecDepth 100000 in
theorem qw_1100 : u_lay RX4 TX4 14 ∈ jm_WS := jm_in (List.mem_of_getElem? (i := 957) (by decide +kernel)) (by decide +kernel)

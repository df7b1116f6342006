section
-- ===== PART A: goes FIRST, ahead of the names: the tables' words, and 'selects' of the private methods out of them =====
/-- a private method of a class that the tables say can be made, by its rows of tables_1 -/
def lw_okq (q : MethodName × Nat) : Prop := (q.1.cls ≠ "java/lang/invoke/MethodHandle" ∧ q.1.cls ≠ "java/lang/invoke/VarHandle") ∧ Cond.instantiable q.1.cls q.2 ∈ tables_1 ∧ Cond.privateMethod q.1 ∈ tables_1 ∧ Cond.instanceMethod q.1 ∈ tables_1
theorem lw_p0 : lw_okq (⟨"ReelScreens", "readBuffer", "()I"⟩, 8) := ⟨⟨by decide +kernel, by decide +kernel⟩, List.mem_of_getElem? (i := 17) (by decide +kernel), List.mem_of_getElem? (i := 159) (by decide +kernel), List.mem_of_getElem? (i := 160) (by decide +kernel)⟩
theorem lw_p1 : lw_okq (⟨"ReelScreens$Reader", "advance", "(ZI)Z"⟩, 5) := ⟨⟨by decide +kernel, by decide +kernel⟩, List.mem_of_getElem? (i := 100) (by decide +kernel), List.mem_of_getElem? (i := 174) (by decide +kernel), List.mem_of_getElem? (i := 175) (by decide +kernel)⟩
theorem lw_p2 : lw_okq (⟨"ReelScreens$Reader", "takeBehindStart", "(II)Z"⟩, 5) := ⟨⟨by decide +kernel, by decide +kernel⟩, List.mem_of_getElem? (i := 100) (by decide +kernel), List.mem_of_getElem? (i := 178) (by decide +kernel), List.mem_of_getElem? (i := 179) (by decide +kernel)⟩
theorem lw_p3 : lw_okq (⟨"ReelScreens$Reader", "takeBehindPause", "(II)Z"⟩, 5) := ⟨⟨by decide +kernel, by decide +kernel⟩, List.mem_of_getElem? (i := 100) (by decide +kernel), List.mem_of_getElem? (i := 186) (by decide +kernel), List.mem_of_getElem? (i := 187) (by decide +kernel)⟩
theorem lw_p4 : lw_okq (⟨"ReelScreens", "countNumber", "(I)I"⟩, 8) := ⟨⟨by decide +kernel, by decide +kernel⟩, List.mem_of_getElem? (i := 17) (by decide +kernel), List.mem_of_getElem? (i := 214) (by decide +kernel), List.mem_of_getElem? (i := 215) (by decide +kernel)⟩
theorem lw_p5 : lw_okq (⟨"ReelScreens$Festival", "greetedBy", "(I)I"⟩, 10) := ⟨⟨by decide +kernel, by decide +kernel⟩, List.mem_of_getElem? (i := 25) (by decide +kernel), List.mem_of_getElem? (i := 222) (by decide +kernel), List.mem_of_getElem? (i := 223) (by decide +kernel)⟩
theorem lw_p6 : lw_okq (⟨"ReelScreens$Festival", "fits", "(II)Z"⟩, 10) := ⟨⟨by decide +kernel, by decide +kernel⟩, List.mem_of_getElem? (i := 25) (by decide +kernel), List.mem_of_getElem? (i := 234) (by decide +kernel), List.mem_of_getElem? (i := 235) (by decide +kernel)⟩
theorem lw_p7 : lw_okq (⟨"ReelScreens$Festival", "pointsOf", "(I)I"⟩, 10) := ⟨⟨by decide +kernel, by decide +kernel⟩, List.mem_of_getElem? (i := 25) (by decide +kernel), List.mem_of_getElem? (i := 256) (by decide +kernel), List.mem_of_getElem? (i := 257) (by decide +kernel)⟩
theorem lw_p8 : lw_okq (⟨"ReelScreens", "mixFilms", "(J)J"⟩, 8) := ⟨⟨by decide +kernel, by decide +kernel⟩, List.mem_of_getElem? (i := 17) (by decide +kernel), List.mem_of_getElem? (i := 264) (by decide +kernel), List.mem_of_getElem? (i := 265) (by decide +kernel)⟩
theorem lw_p9 : lw_okq (⟨"ReelScreens$Festival", "showingsWith", "(II)I"⟩, 10) := ⟨⟨by decide +kernel, by decide +kernel⟩, List.mem_of_getElem? (i := 25) (by decide +kernel), List.mem_of_getElem? (i := 272) (by decide +kernel), List.mem_of_getElem? (i := 273) (by decide +kernel)⟩
theorem lw_p10 : lw_okq (⟨"ReelScreens$Festival", "seatsFor", "(I)I"⟩, 10) := ⟨⟨by decide +kernel, by decide +kernel⟩, List.mem_of_getElem? (i := 25) (by decide +kernel), List.mem_of_getElem? (i := 276) (by decide +kernel), List.mem_of_getElem? (i := 277) (by decide +kernel)⟩
theorem lw_p11 : lw_okq (⟨"ReelScreens$Festival", "takingScreen", "(IIII)I"⟩, 10) := ⟨⟨by decide +kernel, by decide +kernel⟩, List.mem_of_getElem? (i := 25) (by decide +kernel), List.mem_of_getElem? (i := 288) (by decide +kernel), List.mem_of_getElem? (i := 289) (by decide +kernel)⟩
theorem lw_p12 : lw_okq (⟨"ReelScreens$Festival", "takingReel", "(IIIII)I"⟩, 10) := ⟨⟨by decide +kernel, by decide +kernel⟩, List.mem_of_getElem? (i := 25) (by decide +kernel), List.mem_of_getElem? (i := 295) (by decide +kernel), List.mem_of_getElem? (i := 296) (by decide +kernel)⟩
theorem lw_p13 : lw_okq (⟨"ReelScreens", "mixShowings", "(J)J"⟩, 8) := ⟨⟨by decide +kernel, by decide +kernel⟩, List.mem_of_getElem? (i := 17) (by decide +kernel), List.mem_of_getElem? (i := 315) (by decide +kernel), List.mem_of_getElem? (i := 316) (by decide +kernel)⟩
theorem lw_p14 : lw_okq (⟨"ReelScreens", "mixScreens", "(J)J"⟩, 8) := ⟨⟨by decide +kernel, by decide +kernel⟩, List.mem_of_getElem? (i := 17) (by decide +kernel), List.mem_of_getElem? (i := 324) (by decide +kernel), List.mem_of_getElem? (i := 325) (by decide +kernel)⟩
theorem lw_p15 : lw_okq (⟨"ReelScreens$Festival", "reckonedMinutes", "(I)I"⟩, 10) := ⟨⟨by decide +kernel, by decide +kernel⟩, List.mem_of_getElem? (i := 25) (by decide +kernel), List.mem_of_getElem? (i := 332) (by decide +kernel), List.mem_of_getElem? (i := 333) (by decide +kernel)⟩
def lw_privs_1 : List (MethodName × Nat) := [(⟨"ReelScreens", "readBuffer", "()I"⟩, 8), (⟨"ReelScreens$Reader", "advance", "(ZI)Z"⟩, 5), (⟨"ReelScreens$Reader", "takeBehindStart", "(II)Z"⟩, 5), (⟨"ReelScreens$Reader", "takeBehindPause", "(II)Z"⟩, 5), (⟨"ReelScreens", "countNumber", "(I)I"⟩, 8), (⟨"ReelScreens$Festival", "greetedBy", "(I)I"⟩, 10), (⟨"ReelScreens$Festival", "fits", "(II)Z"⟩, 10), (⟨"ReelScreens$Festival", "pointsOf", "(I)I"⟩, 10), (⟨"ReelScreens", "mixFilms", "(J)J"⟩, 8), (⟨"ReelScreens$Festival", "showingsWith", "(II)I"⟩, 10), (⟨"ReelScreens$Festival", "seatsFor", "(I)I"⟩, 10), (⟨"ReelScreens$Festival", "takingScreen", "(IIII)I"⟩, 10), (⟨"ReelScreens$Festival", "takingReel", "(IIIII)I"⟩, 10), (⟨"ReelScreens", "mixShowings", "(J)J"⟩, 8), (⟨"ReelScreens", "mixScreens", "(J)J"⟩, 8), (⟨"ReelScreens$Festival", "reckonedMinutes", "(I)I"⟩, 10)]
theorem lw_r1 : ∀ q ∈ lw_privs_1, lw_okq q := List.forall_mem_cons.mpr ⟨lw_p0, List.forall_mem_cons.mpr ⟨lw_p1, List.forall_mem_cons.mpr ⟨lw_p2, List.forall_mem_cons.mpr ⟨lw_p3, List.forall_mem_cons.mpr ⟨lw_p4, List.forall_mem_cons.mpr ⟨lw_p5, List.forall_mem_cons.mpr ⟨lw_p6, List.forall_mem_cons.mpr ⟨lw_p7, List.forall_mem_cons.mpr ⟨lw_p8, List.forall_mem_cons.mpr ⟨lw_p9, List.forall_mem_cons.mpr ⟨lw_p10, List.forall_mem_cons.mpr ⟨lw_p11, List.forall_mem_cons.mpr ⟨lw_p12, List.forall_mem_cons.mpr ⟨lw_p13, List.forall_mem_cons.mpr ⟨lw_p14, List.forall_mem_cons.mpr ⟨lw_p15, fun _ h => absurd h List.not_mem_nil⟩⟩⟩⟩⟩⟩⟩⟩⟩⟩⟩⟩⟩⟩⟩⟩
theorem lw_p16 : lw_okq (⟨"ReelScreens$Festival", "countedMinutes", "(I)I"⟩, 10) := ⟨⟨by decide +kernel, by decide +kernel⟩, List.mem_of_getElem? (i := 25) (by decide +kernel), List.mem_of_getElem? (i := 336) (by decide +kernel), List.mem_of_getElem? (i := 337) (by decide +kernel)⟩
theorem lw_p17 : lw_okq (⟨"ReelScreens$Festival", "reelAt", "(II)I"⟩, 10) := ⟨⟨by decide +kernel, by decide +kernel⟩, List.mem_of_getElem? (i := 25) (by decide +kernel), List.mem_of_getElem? (i := 340) (by decide +kernel), List.mem_of_getElem? (i := 341) (by decide +kernel)⟩
theorem lw_p18 : lw_okq (⟨"ReelScreens$Festival", "lastEnd", "(I)I"⟩, 10) := ⟨⟨by decide +kernel, by decide +kernel⟩, List.mem_of_getElem? (i := 25) (by decide +kernel), List.mem_of_getElem? (i := 344) (by decide +kernel), List.mem_of_getElem? (i := 345) (by decide +kernel)⟩
theorem lw_p19 : lw_okq (⟨"ReelScreens", "mixPeople", "(J)J"⟩, 8) := ⟨⟨by decide +kernel, by decide +kernel⟩, List.mem_of_getElem? (i := 17) (by decide +kernel), List.mem_of_getElem? (i := 364) (by decide +kernel), List.mem_of_getElem? (i := 365) (by decide +kernel)⟩
theorem lw_p20 : lw_okq (⟨"ReelScreens$Festival", "visitsOf", "(I)I"⟩, 10) := ⟨⟨by decide +kernel, by decide +kernel⟩, List.mem_of_getElem? (i := 25) (by decide +kernel), List.mem_of_getElem? (i := 376) (by decide +kernel), List.mem_of_getElem? (i := 377) (by decide +kernel)⟩
theorem lw_p21 : lw_okq (⟨"ReelScreens$Festival", "seenMask", "(I)I"⟩, 10) := ⟨⟨by decide +kernel, by decide +kernel⟩, List.mem_of_getElem? (i := 25) (by decide +kernel), List.mem_of_getElem? (i := 384) (by decide +kernel), List.mem_of_getElem? (i := 385) (by decide +kernel)⟩
theorem lw_p22 : lw_okq (⟨"ReelScreens$Festival", "pointsFrom", "(I)I"⟩, 10) := ⟨⟨by decide +kernel, by decide +kernel⟩, List.mem_of_getElem? (i := 25) (by decide +kernel), List.mem_of_getElem? (i := 388) (by decide +kernel), List.mem_of_getElem? (i := 389) (by decide +kernel)⟩
theorem lw_p23 : lw_okq (⟨"ReelScreens", "mixTexts", "(J)J"⟩, 8) := ⟨⟨by decide +kernel, by decide +kernel⟩, List.mem_of_getElem? (i := 17) (by decide +kernel), List.mem_of_getElem? (i := 392) (by decide +kernel), List.mem_of_getElem? (i := 393) (by decide +kernel)⟩
theorem lw_p24 : lw_okq (⟨"java/lang/Throwable", "fillInStackTrace", "(I)Ljava/lang/Throwable;"⟩, 6) := ⟨⟨by decide +kernel, by decide +kernel⟩, List.mem_of_getElem? (i := 451) (by decide +kernel), List.mem_of_getElem? (i := 449) (by decide +kernel), List.mem_of_getElem? (i := 450) (by decide +kernel)⟩
theorem lw_p25 : lw_okq (⟨"ReelScreens", "save", "()V"⟩, 8) := ⟨⟨by decide +kernel, by decide +kernel⟩, List.mem_of_getElem? (i := 17) (by decide +kernel), List.mem_of_getElem? (i := 497) (by decide +kernel), List.mem_of_getElem? (i := 498) (by decide +kernel)⟩
theorem lw_p26 : lw_okq (⟨"ReelScreens", "dropOldest", "()V"⟩, 8) := ⟨⟨by decide +kernel, by decide +kernel⟩, List.mem_of_getElem? (i := 17) (by decide +kernel), List.mem_of_getElem? (i := 501) (by decide +kernel), List.mem_of_getElem? (i := 502) (by decide +kernel)⟩
theorem lw_p27 : lw_okq (⟨"ReelScreens", "requireFilm", "(I)V"⟩, 8) := ⟨⟨by decide +kernel, by decide +kernel⟩, List.mem_of_getElem? (i := 17) (by decide +kernel), List.mem_of_getElem? (i := 557) (by decide +kernel), List.mem_of_getElem? (i := 558) (by decide +kernel)⟩
theorem lw_p28 : lw_okq (⟨"ReelScreens", "requireShowing", "(I)V"⟩, 8) := ⟨⟨by decide +kernel, by decide +kernel⟩, List.mem_of_getElem? (i := 17) (by decide +kernel), List.mem_of_getElem? (i := 588) (by decide +kernel), List.mem_of_getElem? (i := 589) (by decide +kernel)⟩
theorem lw_p29 : lw_okq (⟨"ReelScreens", "makeShowings", "()I"⟩, 8) := ⟨⟨by decide +kernel, by decide +kernel⟩, List.mem_of_getElem? (i := 17) (by decide +kernel), List.mem_of_getElem? (i := 676) (by decide +kernel), List.mem_of_getElem? (i := 677) (by decide +kernel)⟩
theorem lw_p30 : lw_okq (⟨"ReelScreens", "makePart", "(I)Z"⟩, 8) := ⟨⟨by decide +kernel, by decide +kernel⟩, List.mem_of_getElem? (i := 17) (by decide +kernel), List.mem_of_getElem? (i := 684) (by decide +kernel), List.mem_of_getElem? (i := 685) (by decide +kernel)⟩
theorem lw_p31 : lw_okq (⟨"ReelScreensModel", "stops", "(III)V"⟩, 15) := ⟨⟨by decide +kernel, by decide +kernel⟩, List.mem_of_getElem? (i := 816) (by decide +kernel), List.mem_of_getElem? (i := 822) (by decide +kernel), List.mem_of_getElem? (i := 823) (by decide +kernel)⟩
def lw_privs_2 : List (MethodName × Nat) := [(⟨"ReelScreens$Festival", "countedMinutes", "(I)I"⟩, 10), (⟨"ReelScreens$Festival", "reelAt", "(II)I"⟩, 10), (⟨"ReelScreens$Festival", "lastEnd", "(I)I"⟩, 10), (⟨"ReelScreens", "mixPeople", "(J)J"⟩, 8), (⟨"ReelScreens$Festival", "visitsOf", "(I)I"⟩, 10), (⟨"ReelScreens$Festival", "seenMask", "(I)I"⟩, 10), (⟨"ReelScreens$Festival", "pointsFrom", "(I)I"⟩, 10), (⟨"ReelScreens", "mixTexts", "(J)J"⟩, 8), (⟨"java/lang/Throwable", "fillInStackTrace", "(I)Ljava/lang/Throwable;"⟩, 6), (⟨"ReelScreens", "save", "()V"⟩, 8), (⟨"ReelScreens", "dropOldest", "()V"⟩, 8), (⟨"ReelScreens", "requireFilm", "(I)V"⟩, 8), (⟨"ReelScreens", "requireShowing", "(I)V"⟩, 8), (⟨"ReelScreens", "makeShowings", "()I"⟩, 8), (⟨"ReelScreens", "makePart", "(I)Z"⟩, 8), (⟨"ReelScreensModel", "stops", "(III)V"⟩, 15)]
theorem lw_r2 : ∀ q ∈ lw_privs_2, lw_okq q := List.forall_mem_cons.mpr ⟨lw_p16, List.forall_mem_cons.mpr ⟨lw_p17, List.forall_mem_cons.mpr ⟨lw_p18, List.forall_mem_cons.mpr ⟨lw_p19, List.forall_mem_cons.mpr ⟨lw_p20, List.forall_mem_cons.mpr ⟨lw_p21, List.forall_mem_cons.mpr ⟨lw_p22, List.forall_mem_cons.mpr ⟨lw_p23, List.forall_mem_cons.mpr ⟨lw_p24, List.forall_mem_cons.mpr ⟨lw_p25, List.forall_mem_cons.mpr ⟨lw_p26, List.forall_mem_cons.mpr ⟨lw_p27, List.forall_mem_cons.mpr ⟨lw_p28, List.forall_mem_cons.mpr ⟨lw_p29, List.forall_mem_cons.mpr ⟨lw_p30, List.forall_mem_cons.mpr ⟨lw_p31, fun _ h => absurd h List.not_mem_nil⟩⟩⟩⟩⟩⟩⟩⟩⟩⟩⟩⟩⟩⟩⟩⟩
theorem lw_p32 : lw_okq (⟨"ReelScreensModel", "refuses", "(I)I"⟩, 15) := ⟨⟨by decide +kernel, by decide +kernel⟩, List.mem_of_getElem? (i := 816) (by decide +kernel), List.mem_of_getElem? (i := 883) (by decide +kernel), List.mem_of_getElem? (i := 884) (by decide +kernel)⟩
theorem lw_p33 : lw_okq (⟨"ReelScreensModel", "saves", "()V"⟩, 15) := ⟨⟨by decide +kernel, by decide +kernel⟩, List.mem_of_getElem? (i := 816) (by decide +kernel), List.mem_of_getElem? (i := 887) (by decide +kernel), List.mem_of_getElem? (i := 888) (by decide +kernel)⟩
theorem lw_p34 : lw_okq (⟨"ReelScreensModel", "isFilm", "(I)Z"⟩, 15) := ⟨⟨by decide +kernel, by decide +kernel⟩, List.mem_of_getElem? (i := 816) (by decide +kernel), List.mem_of_getElem? (i := 909) (by decide +kernel), List.mem_of_getElem? (i := 910) (by decide +kernel)⟩
theorem lw_p35 : lw_okq (⟨"ReelScreensModel", "reason", "(IIII)I"⟩, 15) := ⟨⟨by decide +kernel, by decide +kernel⟩, List.mem_of_getElem? (i := 816) (by decide +kernel), List.mem_of_getElem? (i := 916) (by decide +kernel), List.mem_of_getElem? (i := 917) (by decide +kernel)⟩
theorem lw_p36 : lw_okq (⟨"ReelScreensModel", "looks", "(IIIII)V"⟩, 15) := ⟨⟨by decide +kernel, by decide +kernel⟩, List.mem_of_getElem? (i := 816) (by decide +kernel), List.mem_of_getElem? (i := 920) (by decide +kernel), List.mem_of_getElem? (i := 921) (by decide +kernel)⟩
theorem lw_p37 : lw_okq (⟨"ReelScreensModel", "ends", "(III)I"⟩, 15) := ⟨⟨by decide +kernel, by decide +kernel⟩, List.mem_of_getElem? (i := 816) (by decide +kernel), List.mem_of_getElem? (i := 924) (by decide +kernel), List.mem_of_getElem? (i := 925) (by decide +kernel)⟩
theorem lw_p38 : lw_okq (⟨"ReelScreensModel", "reels", "(I)I"⟩, 15) := ⟨⟨by decide +kernel, by decide +kernel⟩, List.mem_of_getElem? (i := 816) (by decide +kernel), List.mem_of_getElem? (i := 928) (by decide +kernel), List.mem_of_getElem? (i := 929) (by decide +kernel)⟩
theorem lw_p39 : lw_okq (⟨"ReelScreensModel", "minutes", "(I)I"⟩, 15) := ⟨⟨by decide +kernel, by decide +kernel⟩, List.mem_of_getElem? (i := 816) (by decide +kernel), List.mem_of_getElem? (i := 932) (by decide +kernel), List.mem_of_getElem? (i := 933) (by decide +kernel)⟩
theorem lw_p40 : lw_okq (⟨"ReelScreensModel", "finds", "(III)V"⟩, 15) := ⟨⟨by decide +kernel, by decide +kernel⟩, List.mem_of_getElem? (i := 816) (by decide +kernel), List.mem_of_getElem? (i := 936) (by decide +kernel), List.mem_of_getElem? (i := 937) (by decide +kernel)⟩
theorem lw_p41 : lw_okq (⟨"ReelScreensModel", "of", "(II)I"⟩, 15) := ⟨⟨by decide +kernel, by decide +kernel⟩, List.mem_of_getElem? (i := 816) (by decide +kernel), List.mem_of_getElem? (i := 940) (by decide +kernel), List.mem_of_getElem? (i := 941) (by decide +kernel)⟩
theorem lw_p42 : lw_okq (⟨"ReelScreensModel", "end", "(I)I"⟩, 15) := ⟨⟨by decide +kernel, by decide +kernel⟩, List.mem_of_getElem? (i := 816) (by decide +kernel), List.mem_of_getElem? (i := 944) (by decide +kernel), List.mem_of_getElem? (i := 945) (by decide +kernel)⟩
theorem lw_p43 : lw_okq (⟨"ReelScreensModel", "clash", "(IIII)I"⟩, 15) := ⟨⟨by decide +kernel, by decide +kernel⟩, List.mem_of_getElem? (i := 816) (by decide +kernel), List.mem_of_getElem? (i := 951) (by decide +kernel), List.mem_of_getElem? (i := 952) (by decide +kernel)⟩
theorem lw_p44 : lw_okq (⟨"ReelScreensModel", "begins", "(IIII)I"⟩, 15) := ⟨⟨by decide +kernel, by decide +kernel⟩, List.mem_of_getElem? (i := 816) (by decide +kernel), List.mem_of_getElem? (i := 955) (by decide +kernel), List.mem_of_getElem? (i := 956) (by decide +kernel)⟩
theorem lw_p45 : lw_okq (⟨"ReelScreensModel", "makes", "(IIII)V"⟩, 15) := ⟨⟨by decide +kernel, by decide +kernel⟩, List.mem_of_getElem? (i := 816) (by decide +kernel), List.mem_of_getElem? (i := 959) (by decide +kernel), List.mem_of_getElem? (i := 960) (by decide +kernel)⟩
theorem lw_p46 : lw_okq (⟨"ReelScreensModel", "becomes", "(III)V"⟩, 15) := ⟨⟨by decide +kernel, by decide +kernel⟩, List.mem_of_getElem? (i := 816) (by decide +kernel), List.mem_of_getElem? (i := 963) (by decide +kernel), List.mem_of_getElem? (i := 964) (by decide +kernel)⟩
theorem lw_p47 : lw_okq (⟨"ReelScreensModel", "isShowing", "(I)Z"⟩, 15) := ⟨⟨by decide +kernel, by decide +kernel⟩, List.mem_of_getElem? (i := 816) (by decide +kernel), List.mem_of_getElem? (i := 971) (by decide +kernel), List.mem_of_getElem? (i := 972) (by decide +kernel)⟩
def lw_privs_3 : List (MethodName × Nat) := [(⟨"ReelScreensModel", "refuses", "(I)I"⟩, 15), (⟨"ReelScreensModel", "saves", "()V"⟩, 15), (⟨"ReelScreensModel", "isFilm", "(I)Z"⟩, 15), (⟨"ReelScreensModel", "reason", "(IIII)I"⟩, 15), (⟨"ReelScreensModel", "looks", "(IIIII)V"⟩, 15), (⟨"ReelScreensModel", "ends", "(III)I"⟩, 15), (⟨"ReelScreensModel", "reels", "(I)I"⟩, 15), (⟨"ReelScreensModel", "minutes", "(I)I"⟩, 15), (⟨"ReelScreensModel", "finds", "(III)V"⟩, 15), (⟨"ReelScreensModel", "of", "(II)I"⟩, 15), (⟨"ReelScreensModel", "end", "(I)I"⟩, 15), (⟨"ReelScreensModel", "clash", "(IIII)I"⟩, 15), (⟨"ReelScreensModel", "begins", "(IIII)I"⟩, 15), (⟨"ReelScreensModel", "makes", "(IIII)V"⟩, 15), (⟨"ReelScreensModel", "becomes", "(III)V"⟩, 15), (⟨"ReelScreensModel", "isShowing", "(I)Z"⟩, 15)]
theorem lw_r3 : ∀ q ∈ lw_privs_3, lw_okq q := List.forall_mem_cons.mpr ⟨lw_p32, List.forall_mem_cons.mpr ⟨lw_p33, List.forall_mem_cons.mpr ⟨lw_p34, List.forall_mem_cons.mpr ⟨lw_p35, List.forall_mem_cons.mpr ⟨lw_p36, List.forall_mem_cons.mpr ⟨lw_p37, List.forall_mem_cons.mpr ⟨lw_p38, List.forall_mem_cons.mpr ⟨lw_p39, List.forall_mem_cons.mpr ⟨lw_p40, List.forall_mem_cons.mpr ⟨lw_p41, List.forall_mem_cons.mpr ⟨lw_p42, List.forall_mem_cons.mpr ⟨lw_p43, List.forall_mem_cons.mpr ⟨lw_p44, List.forall_mem_cons.mpr ⟨lw_p45, List.forall_mem_cons.mpr ⟨lw_p46, List.forall_mem_cons.mpr ⟨lw_p47, fun _ h => absurd h List.not_mem_nil⟩⟩⟩⟩⟩⟩⟩⟩⟩⟩⟩⟩⟩⟩⟩⟩
theorem lw_p48 : lw_okq (⟨"ReelScreensModel", "goes", "(II)Z"⟩, 15) := ⟨⟨by decide +kernel, by decide +kernel⟩, List.mem_of_getElem? (i := 816) (by decide +kernel), List.mem_of_getElem? (i := 982) (by decide +kernel), List.mem_of_getElem? (i := 983) (by decide +kernel)⟩
theorem lw_p49 : lw_okq (⟨"ReelScreensModel", "canGo", "(II)Z"⟩, 15) := ⟨⟨by decide +kernel, by decide +kernel⟩, List.mem_of_getElem? (i := 816) (by decide +kernel), List.mem_of_getElem? (i := 986) (by decide +kernel), List.mem_of_getElem? (i := 987) (by decide +kernel)⟩
theorem lw_p50 : lw_okq (⟨"ReelScreensModel", "going", "(I)I"⟩, 15) := ⟨⟨by decide +kernel, by decide +kernel⟩, List.mem_of_getElem? (i := 816) (by decide +kernel), List.mem_of_getElem? (i := 1001) (by decide +kernel), List.mem_of_getElem? (i := 1002) (by decide +kernel)⟩
theorem lw_p51 : lw_okq (⟨"ReelScreensModel", "hasSeen", "(II)Z"⟩, 15) := ⟨⟨by decide +kernel, by decide +kernel⟩, List.mem_of_getElem? (i := 816) (by decide +kernel), List.mem_of_getElem? (i := 1009) (by decide +kernel), List.mem_of_getElem? (i := 1010) (by decide +kernel)⟩
theorem lw_p52 : lw_okq (⟨"ReelScreensModel", "isWhole", "()Z"⟩, 15) := ⟨⟨by decide +kernel, by decide +kernel⟩, List.mem_of_getElem? (i := 816) (by decide +kernel), List.mem_of_getElem? (i := 1025) (by decide +kernel), List.mem_of_getElem? (i := 1026) (by decide +kernel)⟩
theorem lw_p53 : lw_okq (⟨"ReelScreensModel", "isPart", "()Z"⟩, 15) := ⟨⟨by decide +kernel, by decide +kernel⟩, List.mem_of_getElem? (i := 816) (by decide +kernel), List.mem_of_getElem? (i := 1029) (by decide +kernel), List.mem_of_getElem? (i := 1030) (by decide +kernel)⟩
theorem lw_p54 : lw_okq (⟨"ReelScreensModel", "isNumber", "(II)Z"⟩, 15) := ⟨⟨by decide +kernel, by decide +kernel⟩, List.mem_of_getElem? (i := 816) (by decide +kernel), List.mem_of_getElem? (i := 1033) (by decide +kernel), List.mem_of_getElem? (i := 1034) (by decide +kernel)⟩
theorem lw_p55 : lw_okq (⟨"ReelScreensModel", "sees", "(II)Z"⟩, 15) := ⟨⟨by decide +kernel, by decide +kernel⟩, List.mem_of_getElem? (i := 816) (by decide +kernel), List.mem_of_getElem? (i := 1037) (by decide +kernel), List.mem_of_getElem? (i := 1038) (by decide +kernel)⟩
theorem lw_p56 : lw_okq (⟨"ReelScreensModel", "takes", "(I)Z"⟩, 15) := ⟨⟨by decide +kernel, by decide +kernel⟩, List.mem_of_getElem? (i := 816) (by decide +kernel), List.mem_of_getElem? (i := 1041) (by decide +kernel), List.mem_of_getElem? (i := 1042) (by decide +kernel)⟩
theorem lw_p57 : lw_okq (⟨"ReelScreensModel", "isStopped", "(I)Z"⟩, 15) := ⟨⟨by decide +kernel, by decide +kernel⟩, List.mem_of_getElem? (i := 816) (by decide +kernel), List.mem_of_getElem? (i := 1049) (by decide +kernel), List.mem_of_getElem? (i := 1050) (by decide +kernel)⟩
theorem lw_p58 : lw_okq (⟨"ReelScreensModel", "aboutFilm", "(II)I"⟩, 15) := ⟨⟨by decide +kernel, by decide +kernel⟩, List.mem_of_getElem? (i := 816) (by decide +kernel), List.mem_of_getElem? (i := 1073) (by decide +kernel), List.mem_of_getElem? (i := 1074) (by decide +kernel)⟩
theorem lw_p59 : lw_okq (⟨"ReelScreensModel", "showings", "(I)I"⟩, 15) := ⟨⟨by decide +kernel, by decide +kernel⟩, List.mem_of_getElem? (i := 816) (by decide +kernel), List.mem_of_getElem? (i := 1077) (by decide +kernel), List.mem_of_getElem? (i := 1078) (by decide +kernel)⟩
theorem lw_p60 : lw_okq (⟨"ReelScreensModel", "seatsOf", "(I)I"⟩, 15) := ⟨⟨by decide +kernel, by decide +kernel⟩, List.mem_of_getElem? (i := 816) (by decide +kernel), List.mem_of_getElem? (i := 1081) (by decide +kernel), List.mem_of_getElem? (i := 1082) (by decide +kernel)⟩
theorem lw_p61 : lw_okq (⟨"ReelScreensModel", "seers", "(I)I"⟩, 15) := ⟨⟨by decide +kernel, by decide +kernel⟩, List.mem_of_getElem? (i := 816) (by decide +kernel), List.mem_of_getElem? (i := 1085) (by decide +kernel), List.mem_of_getElem? (i := 1086) (by decide +kernel)⟩
theorem lw_p62 : lw_okq (⟨"ReelScreensModel", "points", "(I)I"⟩, 15) := ⟨⟨by decide +kernel, by decide +kernel⟩, List.mem_of_getElem? (i := 816) (by decide +kernel), List.mem_of_getElem? (i := 1089) (by decide +kernel), List.mem_of_getElem? (i := 1090) (by decide +kernel)⟩
theorem lw_p63 : lw_okq (⟨"ReelScreensModel", "aboutShowing", "(II)I"⟩, 15) := ⟨⟨by decide +kernel, by decide +kernel⟩, List.mem_of_getElem? (i := 816) (by decide +kernel), List.mem_of_getElem? (i := 1097) (by decide +kernel), List.mem_of_getElem? (i := 1098) (by decide +kernel)⟩
def lw_privs_4 : List (MethodName × Nat) := [(⟨"ReelScreensModel", "goes", "(II)Z"⟩, 15), (⟨"ReelScreensModel", "canGo", "(II)Z"⟩, 15), (⟨"ReelScreensModel", "going", "(I)I"⟩, 15), (⟨"ReelScreensModel", "hasSeen", "(II)Z"⟩, 15), (⟨"ReelScreensModel", "isWhole", "()Z"⟩, 15), (⟨"ReelScreensModel", "isPart", "()Z"⟩, 15), (⟨"ReelScreensModel", "isNumber", "(II)Z"⟩, 15), (⟨"ReelScreensModel", "sees", "(II)Z"⟩, 15), (⟨"ReelScreensModel", "takes", "(I)Z"⟩, 15), (⟨"ReelScreensModel", "isStopped", "(I)Z"⟩, 15), (⟨"ReelScreensModel", "aboutFilm", "(II)I"⟩, 15), (⟨"ReelScreensModel", "showings", "(I)I"⟩, 15), (⟨"ReelScreensModel", "seatsOf", "(I)I"⟩, 15), (⟨"ReelScreensModel", "seers", "(I)I"⟩, 15), (⟨"ReelScreensModel", "points", "(I)I"⟩, 15), (⟨"ReelScreensModel", "aboutShowing", "(II)I"⟩, 15)]
theorem lw_r4 : ∀ q ∈ lw_privs_4, lw_okq q := List.forall_mem_cons.mpr ⟨lw_p48, List.forall_mem_cons.mpr ⟨lw_p49, List.forall_mem_cons.mpr ⟨lw_p50, List.forall_mem_cons.mpr ⟨lw_p51, List.forall_mem_cons.mpr ⟨lw_p52, List.forall_mem_cons.mpr ⟨lw_p53, List.forall_mem_cons.mpr ⟨lw_p54, List.forall_mem_cons.mpr ⟨lw_p55, List.forall_mem_cons.mpr ⟨lw_p56, List.forall_mem_cons.mpr ⟨lw_p57, List.forall_mem_cons.mpr ⟨lw_p58, List.forall_mem_cons.mpr ⟨lw_p59, List.forall_mem_cons.mpr ⟨lw_p60, List.forall_mem_cons.mpr ⟨lw_p61, List.forall_mem_cons.mpr ⟨lw_p62, List.forall_mem_cons.mpr ⟨lw_p63, fun _ h => absurd h List.not_mem_nil⟩⟩⟩⟩⟩⟩⟩⟩⟩⟩⟩⟩⟩⟩⟩⟩
theorem lw_p64 : lw_okq (⟨"ReelScreensModel", "reelAt", "(II)I"⟩, 15) := ⟨⟨by decide +kernel, by decide +kernel⟩, List.mem_of_getElem? (i := 816) (by decide +kernel), List.mem_of_getElem? (i := 1105) (by decide +kernel), List.mem_of_getElem? (i := 1106) (by decide +kernel)⟩
theorem lw_p65 : lw_okq (⟨"ReelScreensModel", "running", "(II)I"⟩, 15) := ⟨⟨by decide +kernel, by decide +kernel⟩, List.mem_of_getElem? (i := 816) (by decide +kernel), List.mem_of_getElem? (i := 1113) (by decide +kernel), List.mem_of_getElem? (i := 1114) (by decide +kernel)⟩
theorem lw_p66 : lw_okq (⟨"ReelScreensModel", "aboutScreen", "(II)I"⟩, 15) := ⟨⟨by decide +kernel, by decide +kernel⟩, List.mem_of_getElem? (i := 816) (by decide +kernel), List.mem_of_getElem? (i := 1121) (by decide +kernel), List.mem_of_getElem? (i := 1122) (by decide +kernel)⟩
theorem lw_p67 : lw_okq (⟨"ReelScreensModel", "onScreen", "(I)I"⟩, 15) := ⟨⟨by decide +kernel, by decide +kernel⟩, List.mem_of_getElem? (i := 816) (by decide +kernel), List.mem_of_getElem? (i := 1125) (by decide +kernel), List.mem_of_getElem? (i := 1126) (by decide +kernel)⟩
theorem lw_p68 : lw_okq (⟨"ReelScreensModel", "used", "(I)I"⟩, 15) := ⟨⟨by decide +kernel, by decide +kernel⟩, List.mem_of_getElem? (i := 816) (by decide +kernel), List.mem_of_getElem? (i := 1129) (by decide +kernel), List.mem_of_getElem? (i := 1130) (by decide +kernel)⟩
theorem lw_p69 : lw_okq (⟨"ReelScreensModel", "last", "(I)I"⟩, 15) := ⟨⟨by decide +kernel, by decide +kernel⟩, List.mem_of_getElem? (i := 816) (by decide +kernel), List.mem_of_getElem? (i := 1133) (by decide +kernel), List.mem_of_getElem? (i := 1134) (by decide +kernel)⟩
theorem lw_p70 : lw_okq (⟨"ReelScreensModel", "aboutGuest", "(II)I"⟩, 15) := ⟨⟨by decide +kernel, by decide +kernel⟩, List.mem_of_getElem? (i := 816) (by decide +kernel), List.mem_of_getElem? (i := 1141) (by decide +kernel), List.mem_of_getElem? (i := 1142) (by decide +kernel)⟩
theorem lw_p71 : lw_okq (⟨"ReelScreensModel", "guestHas", "(II)I"⟩, 15) := ⟨⟨by decide +kernel, by decide +kernel⟩, List.mem_of_getElem? (i := 816) (by decide +kernel), List.mem_of_getElem? (i := 1145) (by decide +kernel), List.mem_of_getElem? (i := 1146) (by decide +kernel)⟩
theorem lw_p72 : lw_okq (⟨"ReelScreensModel", "greets", "(I)I"⟩, 15) := ⟨⟨by decide +kernel, by decide +kernel⟩, List.mem_of_getElem? (i := 816) (by decide +kernel), List.mem_of_getElem? (i := 1149) (by decide +kernel), List.mem_of_getElem? (i := 1150) (by decide +kernel)⟩
theorem lw_p73 : lw_okq (⟨"ReelScreensModel", "canGreet", "(III)Z"⟩, 15) := ⟨⟨by decide +kernel, by decide +kernel⟩, List.mem_of_getElem? (i := 816) (by decide +kernel), List.mem_of_getElem? (i := 1153) (by decide +kernel), List.mem_of_getElem? (i := 1154) (by decide +kernel)⟩
theorem lw_p74 : lw_okq (⟨"ReelScreensModel", "aboutJuror", "(II)I"⟩, 15) := ⟨⟨by decide +kernel, by decide +kernel⟩, List.mem_of_getElem? (i := 816) (by decide +kernel), List.mem_of_getElem? (i := 1161) (by decide +kernel), List.mem_of_getElem? (i := 1162) (by decide +kernel)⟩
theorem lw_p75 : lw_okq (⟨"ReelScreensModel", "seen", "(I)I"⟩, 15) := ⟨⟨by decide +kernel, by decide +kernel⟩, List.mem_of_getElem? (i := 816) (by decide +kernel), List.mem_of_getElem? (i := 1165) (by decide +kernel), List.mem_of_getElem? (i := 1166) (by decide +kernel)⟩
theorem lw_p76 : lw_okq (⟨"ReelScreensModel", "given", "(I)I"⟩, 15) := ⟨⟨by decide +kernel, by decide +kernel⟩, List.mem_of_getElem? (i := 816) (by decide +kernel), List.mem_of_getElem? (i := 1169) (by decide +kernel), List.mem_of_getElem? (i := 1170) (by decide +kernel)⟩
theorem lw_p77 : lw_okq (⟨"ReelScreensModel", "counted", "(I)I"⟩, 15) := ⟨⟨by decide +kernel, by decide +kernel⟩, List.mem_of_getElem? (i := 816) (by decide +kernel), List.mem_of_getElem? (i := 1177) (by decide +kernel), List.mem_of_getElem? (i := 1178) (by decide +kernel)⟩
theorem lw_p78 : lw_okq (⟨"ReelScreensModel", "greeting", "()I"⟩, 15) := ⟨⟨by decide +kernel, by decide +kernel⟩, List.mem_of_getElem? (i := 816) (by decide +kernel), List.mem_of_getElem? (i := 1181) (by decide +kernel), List.mem_of_getElem? (i := 1182) (by decide +kernel)⟩
theorem lw_p79 : lw_okq (⟨"ReelScreensModel", "prize", "()I"⟩, 15) := ⟨⟨by decide +kernel, by decide +kernel⟩, List.mem_of_getElem? (i := 816) (by decide +kernel), List.mem_of_getElem? (i := 1185) (by decide +kernel), List.mem_of_getElem? (i := 1186) (by decide +kernel)⟩
def lw_privs_5 : List (MethodName × Nat) := [(⟨"ReelScreensModel", "reelAt", "(II)I"⟩, 15), (⟨"ReelScreensModel", "running", "(II)I"⟩, 15), (⟨"ReelScreensModel", "aboutScreen", "(II)I"⟩, 15), (⟨"ReelScreensModel", "onScreen", "(I)I"⟩, 15), (⟨"ReelScreensModel", "used", "(I)I"⟩, 15), (⟨"ReelScreensModel", "last", "(I)I"⟩, 15), (⟨"ReelScreensModel", "aboutGuest", "(II)I"⟩, 15), (⟨"ReelScreensModel", "guestHas", "(II)I"⟩, 15), (⟨"ReelScreensModel", "greets", "(I)I"⟩, 15), (⟨"ReelScreensModel", "canGreet", "(III)Z"⟩, 15), (⟨"ReelScreensModel", "aboutJuror", "(II)I"⟩, 15), (⟨"ReelScreensModel", "seen", "(I)I"⟩, 15), (⟨"ReelScreensModel", "given", "(I)I"⟩, 15), (⟨"ReelScreensModel", "counted", "(I)I"⟩, 15), (⟨"ReelScreensModel", "greeting", "()I"⟩, 15), (⟨"ReelScreensModel", "prize", "()I"⟩, 15)]
theorem lw_r5 : ∀ q ∈ lw_privs_5, lw_okq q := List.forall_mem_cons.mpr ⟨lw_p64, List.forall_mem_cons.mpr ⟨lw_p65, List.forall_mem_cons.mpr ⟨lw_p66, List.forall_mem_cons.mpr ⟨lw_p67, List.forall_mem_cons.mpr ⟨lw_p68, List.forall_mem_cons.mpr ⟨lw_p69, List.forall_mem_cons.mpr ⟨lw_p70, List.forall_mem_cons.mpr ⟨lw_p71, List.forall_mem_cons.mpr ⟨lw_p72, List.forall_mem_cons.mpr ⟨lw_p73, List.forall_mem_cons.mpr ⟨lw_p74, List.forall_mem_cons.mpr ⟨lw_p75, List.forall_mem_cons.mpr ⟨lw_p76, List.forall_mem_cons.mpr ⟨lw_p77, List.forall_mem_cons.mpr ⟨lw_p78, List.forall_mem_cons.mpr ⟨lw_p79, fun _ h => absurd h List.not_mem_nil⟩⟩⟩⟩⟩⟩⟩⟩⟩⟩⟩⟩⟩⟩⟩⟩
theorem lw_p80 : lw_okq (⟨"ReelScreensModel", "next", "(III)I"⟩, 15) := ⟨⟨by decide +kernel, by decide +kernel⟩, List.mem_of_getElem? (i := 816) (by decide +kernel), List.mem_of_getElem? (i := 1197) (by decide +kernel), List.mem_of_getElem? (i := 1198) (by decide +kernel)⟩
theorem lw_p81 : lw_okq (⟨"ReelScreensModel", "best", "(II)I"⟩, 15) := ⟨⟨by decide +kernel, by decide +kernel⟩, List.mem_of_getElem? (i := 816) (by decide +kernel), List.mem_of_getElem? (i := 1205) (by decide +kernel), List.mem_of_getElem? (i := 1206) (by decide +kernel)⟩
theorem lw_p82 : lw_okq (⟨"ReelScreensModel", "more", "(II)I"⟩, 15) := ⟨⟨by decide +kernel, by decide +kernel⟩, List.mem_of_getElem? (i := 816) (by decide +kernel), List.mem_of_getElem? (i := 1213) (by decide +kernel), List.mem_of_getElem? (i := 1214) (by decide +kernel)⟩
theorem lw_p83 : lw_okq (⟨"ReelScreensModel", "share", "(I)D"⟩, 15) := ⟨⟨by decide +kernel, by decide +kernel⟩, List.mem_of_getElem? (i := 816) (by decide +kernel), List.mem_of_getElem? (i := 1221) (by decide +kernel), List.mem_of_getElem? (i := 1222) (by decide +kernel)⟩
theorem lw_p84 : lw_okq (⟨"ReelScreensModel", "mixes", "(J)V"⟩, 15) := ⟨⟨by decide +kernel, by decide +kernel⟩, List.mem_of_getElem? (i := 816) (by decide +kernel), List.mem_of_getElem? (i := 1231) (by decide +kernel), List.mem_of_getElem? (i := 1232) (by decide +kernel)⟩
theorem lw_p85 : lw_okq (⟨"ReelScreensModel", "mixesAll", "()V"⟩, 15) := ⟨⟨by decide +kernel, by decide +kernel⟩, List.mem_of_getElem? (i := 816) (by decide +kernel), List.mem_of_getElem? (i := 1236) (by decide +kernel), List.mem_of_getElem? (i := 1237) (by decide +kernel)⟩
theorem lw_p86 : lw_okq (⟨"ReelScreensModel", "mixesFilm", "(I)V"⟩, 15) := ⟨⟨by decide +kernel, by decide +kernel⟩, List.mem_of_getElem? (i := 816) (by decide +kernel), List.mem_of_getElem? (i := 1240) (by decide +kernel), List.mem_of_getElem? (i := 1241) (by decide +kernel)⟩
theorem lw_p87 : lw_okq (⟨"ReelScreensModel", "mixesShowing", "(I)V"⟩, 15) := ⟨⟨by decide +kernel, by decide +kernel⟩, List.mem_of_getElem? (i := 816) (by decide +kernel), List.mem_of_getElem? (i := 1244) (by decide +kernel), List.mem_of_getElem? (i := 1245) (by decide +kernel)⟩
theorem lw_p88 : lw_okq (⟨"ReelScreensModel", "mixesScreen", "(I)V"⟩, 15) := ⟨⟨by decide +kernel, by decide +kernel⟩, List.mem_of_getElem? (i := 816) (by decide +kernel), List.mem_of_getElem? (i := 1248) (by decide +kernel), List.mem_of_getElem? (i := 1249) (by decide +kernel)⟩
def lw_privs_6 : List (MethodName × Nat) := [(⟨"ReelScreensModel", "next", "(III)I"⟩, 15), (⟨"ReelScreensModel", "best", "(II)I"⟩, 15), (⟨"ReelScreensModel", "more", "(II)I"⟩, 15), (⟨"ReelScreensModel", "share", "(I)D"⟩, 15), (⟨"ReelScreensModel", "mixes", "(J)V"⟩, 15), (⟨"ReelScreensModel", "mixesAll", "()V"⟩, 15), (⟨"ReelScreensModel", "mixesFilm", "(I)V"⟩, 15), (⟨"ReelScreensModel", "mixesShowing", "(I)V"⟩, 15), (⟨"ReelScreensModel", "mixesScreen", "(I)V"⟩, 15)]
theorem lw_r6 : ∀ q ∈ lw_privs_6, lw_okq q := List.forall_mem_cons.mpr ⟨lw_p80, List.forall_mem_cons.mpr ⟨lw_p81, List.forall_mem_cons.mpr ⟨lw_p82, List.forall_mem_cons.mpr ⟨lw_p83, List.forall_mem_cons.mpr ⟨lw_p84, List.forall_mem_cons.mpr ⟨lw_p85, List.forall_mem_cons.mpr ⟨lw_p86, List.forall_mem_cons.mpr ⟨lw_p87, List.forall_mem_cons.mpr ⟨lw_p88, fun _ h => absurd h List.not_mem_nil⟩⟩⟩⟩⟩⟩⟩⟩⟩
def lw_privs : List (MethodName × Nat) := lw_privs_1 ++ (lw_privs_2 ++ (lw_privs_3 ++ (lw_privs_4 ++ (lw_privs_5 ++ (lw_privs_6)))))
def lw_tbl : List Cond := k2_sels lw_privs ++ tables_1
theorem lw_privs_ok : ∀ q ∈ lw_privs, lw_okq q := by
  show ∀ q ∈ lw_privs_1 ++ (lw_privs_2 ++ (lw_privs_3 ++ (lw_privs_4 ++ (lw_privs_5 ++ (lw_privs_6))))), lw_okq q
  exact List.forall_mem_append.mpr ⟨lw_r1, List.forall_mem_append.mpr ⟨lw_r2, List.forall_mem_append.mpr ⟨lw_r3, List.forall_mem_append.mpr ⟨lw_r4, List.forall_mem_append.mpr ⟨lw_r5, lw_r6⟩⟩⟩⟩⟩
/-- the streams that the claim lets the run draw from -/
abbrev lw_cs : List Choice := [Jvm.Choice.named "NaN.bits"]
theorem lw_bits : nanBits ∈ lw_cs := by first | decide | exact List.mem_cons_self | simp [lw_cs, nanBits]
-- ===== end of PART A; then your names; then what follows =====
end
section
/-! ===== BEGIN words of one list among another's, by their places ===== -/
theorem goodIn_r {big : List Cond} (ws : List Cond) (ps : List Nat) (hp : ws = ps.filterMap (fun i => big[i]?)) (h : ws.all goodWord = true) : GoodIn big ws := by
  intro w hw
  have h1 := List.all_eq_true.mp h w hw
  rw [hp] at hw
  obtain ⟨i, -, hi⟩ := List.mem_filterMap.mp hw
  have hm : w ∈ big := by first | exact List.mem_of_getElem? hi | exact List.getElem?_mem hi
  exact ⟨hm, good_of_word h1⟩
theorem goodIn_app {big a b : List Cond} (ha : GoodIn big a) (hb : GoodIn big b) : GoodIn big (a ++ b) := fun w h => (List.mem_append.mp h).elim (ha w) (hb w)
theorem goodIn_ca {big a b : List Cond} {c : Cond} (ha : GoodIn big (c :: a)) (hb : GoodIn big b) : GoodIn big (c :: (a ++ b)) := fun w h => (List.mem_cons.mp h).elim (fun e => ha w (List.mem_cons.mpr (Or.inl e))) (fun h => (List.mem_append.mp h).elim (fun h => ha w (List.mem_cons.mpr (Or.inr h))) (hb w))
theorem goodIn_sub {big ws : List Cond} (hm : ∀ w ∈ ws, w ∈ big) (h : ws.all goodWord = true) : GoodIn big ws := fun w hw => ⟨hm w hw, good_of_word (List.all_eq_true.mp h w hw)⟩
/-! ===== END ===== -/

/-! ===== BEGIN exceptions that leave a method, and their catching by the caller (launches without stack traces) ===== -/
section VXA
/-! The laws vx_back, vx_callV, vx_callS, vx_callSW, vx_throw0, vx_throwS follow proofs of the library, with one case more: JvmDerived/Free/Laws.lean (Back.of_free), Shelf42/LK1.lean (callV, callS), Shelf/KitTraced.lean (throwNew0V, throwNewS). -/
/-- where a method has thrown q: the class by its name, the cell, what was written, the world -/
def vx_T (XC : String → State → State → Prop) (st : State) (q : Addr) (t : State) (mc ms : Nat) (free : Addr → Prop) : Prop :=
  ∃ (E : String) (ce : Cell) (L : List Loc), XC E st t ∧ t.heap[q]? = some ce ∧ ce.vm = .none ∧ st.vm.findClass E = some ce.cls ∧ st.WarmedH t.vm ∧ st.sameButNew ({ t with vm := st.vm } : State) L mc ms ∧ ∀ z ∈ L, free z.base
def vx_Q (Qc : Array Value → State → Outcome → State → Prop) (XC : String → State → State → Prop) (mc ms : Nat) (free : Addr → Prop) : Array Value → State → Outcome → State → Prop := fun a st o t =>
  (Qc a st o t ∧ ∃ L, FrameEnd st o t L mc ms ∧ ∀ q ∈ L, free q.base) ∨ ∃ q, o = .threw q ∧ vx_T XC st q t mc ms free
/-- a callee that returns or throws -/
def vx_Met (l : Launch) (y : MethodName) (ws : List Cond) (rm : Room) (Pc : Array Value → State → Prop) (Qc : Array Value → State → Outcome → State → Prop) (XC : String → State → State → Prop) (mc ms : Nat) (free : Addr → Prop) : Prop :=
  MetFree l y (headSpec ws rm) Pc (fun _ _ _ _ _ => True) (vx_Q Qc XC mc ms free)
def vx_Post (XC : String → State → State → Prop) (mc ms : Nat) (free : Addr → Prop) : Pt → Array Value → Addr → Pt → Prop := fun A a q B =>
  ∃ (g : JFrame) (mk : MethodId) (t : State) (L : List Loc) (E : String) (ce : Cell), B.U.heap = t.heap ∧ B.U.vm = t.vm ∧ XC E (A.U.calling g mk a) t ∧ t.heap[q]? = some ce ∧ ce.vm = .none ∧ A.U.vm.findClass E = some ce.cls ∧ B.locs = A.locs ++ L ∧ (∀ z ∈ L, free z.base) ∧ B.cells = A.cells + mc ∧ B.slots = A.slots + ms
def vx_Back (l : Launch) (R : Room) (p : Program) (e : Env) (below : List Frame) (s : State) (sargs : Array Value) (y : MethodName) (len W9 : Nat)
    (Pre : Pt → Array Value → Prop) (Post : Pt → Array Value → Option Value → Pt → Prop) (PostX : Pt → Array Value → Addr → Pt → Prop) : Prop :=
  ∀ (m : MethodId) (meth : Method) (c : Code) (A : Pt) (g : JFrame) (ig : Instr) (mk : MethodId) (a : Array Value),
    Stand p l e R s m sargs below meth c A.U A.locs A.cells A.slots → g.method = m → g.locals.size = c.maxLocals → decode c.code g.pc = .ok (ig, len) →
    2 * g.monitorRoom + (g.stack.map fun v => v.category).sum ≤ W9 → A.U.methodNamed? y = some mk → Pre A a →
    (∃ (v : Option Value) (B : Pt), Stand p l e R s m sargs below meth c B.U B.locs B.cells B.slots ∧ Post A a v B ∧
      Steps p.tables e below (doInvoke e (A.U.setTop g) [] mk a).1 (B.U.setTop { g with pc := g.pc + len, stack := v.toList ++ g.stack })) ∨
    (∃ (q : Addr) (B : Pt), Stand p l e R s m sargs below meth c B.U B.locs B.cells B.slots ∧ PostX A a q B ∧
      Steps p.tables e below (doInvoke e (A.U.setTop g) [] mk a).1 ((B.U.setTop g).pushFrame (.throwing q)))
section Payer
variable {l : Launch} {R : Room} {p : Program} {e : Env} {below : List Frame} {s : State} {sargs : Array Value} {y : MethodName} {len W9 : Nat}
theorem vx_back {ws : List Cond} {rm : Room} {Pc : Array Value → State → Prop} {Qc : Array Value → State → Outcome → State → Prop} {XC : String → State → State → Prop} {mc ms : Nat} {free : Addr → Prop} {bytes : ByteArray} {maxL : Nat} {ret : Option FieldType}
    (hM : vx_Met l y ws rm Pc Qc XC mc ms free) (hblind : FrameBlind Pc) (hrc : rm.cells = mc) (hrs : rm.slots = ms)
    (hframes : rm.frames + 1 ≤ R.frames) (hlocals : W9 + (maxL + 11) + rm.locals ≤ R.locals)
    (hws : ∀ w ∈ ws, ∀ a' U, s.WarmedH U.vm → w.before a' U = true) (hcode : Cond.code y bytes maxL ret ∈ ws) (hinit : ∀ a' U, s.WarmedH U.vm → (Cond.initialized y.cls).before a' U = true) :
    vx_Back l R p e below s sargs y len W9 (PreOf R mc ms Pc) (PostOf Qc mc ms free) (vx_Post XC mc ms free) := by
  intro m meth c A g ig mk a X hg hsize hdg hW hn hp
  have h1 : (headSpec ws rm).pre.before a A.U = true := atoms_intro fun w hw => hws w hw _ _ X.warmed
  have h2 : (Cond.code y bytes maxL ret).before a A.U = true := hws _ hcode _ _ X.warmed
  have h3 : (Cond.initialized y.cls).before a A.U = true := hinit _ _ X.warmed
  have h4 : A.cells + (headSpec ws rm).room.cells ≤ R.cells := by rw [show (headSpec ws rm).room.cells = mc from hrc]; exact hp.1
  have h5 : A.slots + (headSpec ws rm).room.slots ≤ R.slots := by rw [show (headSpec ws rm).room.slots = ms from hrs]; exact hp.2.1
  have hPc : Pc a (A.U.calling g mk a) := hblind _ _ _ _ hp.2.2
  obtain ⟨U, Ls, c0, s0⟩ := A
  dsimp only [Pt.U, Pt.locs, Pt.cells, Pt.slots] at h1 h2 h3 h4 h5 X hn hPc ⊢
  obtain ⟨methY, cY, hmY, hcY, -, hlY, -, -, -, -⟩ := Cond.code_spec hn h2
  obtain ⟨kY, hkY, -⟩ := className_of_methodNamed hn
  have hinitY : kY.init = .initialized := Cond.initialized_spec (findClass_of_methodNamed hn) hkY h3
  have h : At U g.method c below := by rw [hg]; exact X.here
  have hlocals9 : W9 + (maxL + 11) + (headSpec ws rm).room.locals ≤ R.locals := hlocals
  have happ : (headSpec ws rm).appliesLoose y e.platform (U.calling g mk a) = true :=
    Spec.appliesLoose_calling (g := g) h hdg hn hkY hinitY
      (X.room_calling (g := g) (R' := (headSpec ws rm).room) hsize hmY hcY hframes (by rw [hlY]; omega) h4 h5) h1
  obtain ⟨mid, hmid⟩ := h.above
  have hfr : (U.setTop g).frames = (.java g :: mid) ++ below := by rw [State.frames_setTop' g h.top, hmid]; rfl
  obtain ⟨o, s₂, hsteps, -, hend, hq⟩ := Steps.callFree hM p X.admits X.cas X.clock (acts := []) hfr happ hPc trivial
  have hq' : vx_Q Qc XC mc ms free a (U.calling g mk a) o s₂ := hq
  rw [State.frames_setTop' g h.top] at hend
  obtain ⟨g₀, hg0⟩ := Option.isSome_iff_exists.mp h.top
  obtain ⟨r, hr⟩ := State.topJava?_eq_some.mp hg0
  have hr' : (({ U with heap := s₂.heap, slotsUsed := s₂.slotsUsed } : State).setVm s₂.vm).frames = .java g₀ :: r := hr
  rcases hq' with ⟨hqc, L, hfe, hL⟩ | ⟨q, rfl, E, ce, L, hx, hce, hcv, hcl, hW₂, hsm, hL⟩
  · obtain ⟨⟨v, rfl⟩, hW₂, e2, q2, q3, q4, q5, q6⟩ := id hfe
    have e3 : s₂ = ({ (U.calling g mk a).setFrames s₂.frames with heap := s₂.heap, slotsUsed := s₂.slotsUsed } : State).setVm s₂.vm := by
      have : s₂ = ({ s₂ with vm := (U.calling g mk a).vm } : State).setVm s₂.vm := rfl
      rw [e2] at this
      exact this
    obtain ⟨c₂, i₂, len₂, hc₂, hd₂, hf₂⟩ := hend
    have hW' : U.WarmedH s₂.vm := hW₂
    have hcc : c₂ = c := by
      have h1 : s₂.code? g.method = U.code? g.method := by
        rw [State.code?_eq, State.code?_eq, hW'.alike.method?]
      exact Option.some.inj (hc₂.symm.trans (h1.trans h.code))
    subst hcc
    have hlen : len₂ = len := by rw [hdg] at hd₂; cases hd₂; rfl
    subst hlen
    have hs₂ : s₂ = (({ U with heap := s₂.heap, slotsUsed := s₂.slotsUsed } : State).setVm s₂.vm).setTop { g with pc := g.pc + len₂, stack := v.toList ++ g.stack } := by
      refine e3.trans ?_
      rw [hf₂, State.calling_eq h.top, State.setFrames_setFrames, State.setTop_of_frames _ hr', hr]
      rfl
    have hsame : U.sameButNew ({ U with heap := s₂.heap, slotsUsed := s₂.slotsUsed } : State) L mc ms := by
      refine ⟨?_, q2, q3, q4, q5, q6⟩
      obtain ⟨t, ht, -⟩ := State.frames_cons hr
      show ({ U with heap := s₂.heap, slotsUsed := s₂.slotsUsed } : State) = { U.setFrames U.frames with heap := s₂.heap, slotsUsed := s₂.slotsUsed }
      rw [State.setFrames_self ht]
    subst hg
    refine Or.inl ⟨v, ⟨(({ U with heap := s₂.heap, slotsUsed := s₂.slotsUsed } : State).setVm s₂.vm), Ls ++ L, c0 + mc, s0 + ms⟩,
      ⟨X.admits, X.cas, X.clock, X.frames, X.room, X.hears, X.method, X.code, (X.here.setHeapUsed s₂.heap s₂.slotsUsed).setVm hW'.alike, X.tail, State.WarmedH.trans X.warmed hW', X.limits, X.bytes, X.same.trans (hsame.setVm s.vm)⟩,
      ⟨g, mk, s₂, L, rfl, rfl, hqc, rfl, hL, rfl, rfl⟩, ?_⟩
    show Steps p.tables e below _ ((({ U with heap := s₂.heap, slotsUsed := s₂.slotsUsed } : State).setVm s₂.vm).setTop { g with pc := g.pc + len₂, stack := v.toList ++ g.stack })
    rw [← hs₂]
    exact hsteps
  · obtain ⟨e2, q2, q3, q4, q5, q6⟩ := id hsm
    have e3 : s₂ = ({ (U.calling g mk a).setFrames s₂.frames with heap := s₂.heap, slotsUsed := s₂.slotsUsed } : State).setVm s₂.vm := by
      have : s₂ = ({ s₂ with vm := (U.calling g mk a).vm } : State).setVm s₂.vm := rfl
      rw [e2] at this
      exact this
    have hf₂ : s₂.frames = .throwing q :: .java g :: U.frames.tail := hend
    have hW' : U.WarmedH s₂.vm := hW₂
    have hs₂ : s₂ = ((({ U with heap := s₂.heap, slotsUsed := s₂.slotsUsed } : State).setVm s₂.vm).setTop g).pushFrame (.throwing q) := by
      refine e3.trans ?_
      rw [hf₂, State.calling_eq h.top, State.setFrames_setFrames, State.pushFrame, State.frames_setTop _ hr', State.setTop_of_frames _ hr', State.setFrames_setFrames, hr]
      rfl
    have hsame : U.sameButNew ({ U with heap := s₂.heap, slotsUsed := s₂.slotsUsed } : State) L mc ms := by
      refine ⟨?_, q2, q3, q4, q5, q6⟩
      obtain ⟨t, ht, -⟩ := State.frames_cons hr
      show ({ U with heap := s₂.heap, slotsUsed := s₂.slotsUsed } : State) = { U.setFrames U.frames with heap := s₂.heap, slotsUsed := s₂.slotsUsed }
      rw [State.setFrames_self ht]
    subst hg
    refine Or.inr ⟨q, ⟨(({ U with heap := s₂.heap, slotsUsed := s₂.slotsUsed } : State).setVm s₂.vm), Ls ++ L, c0 + mc, s0 + ms⟩,
      ⟨X.admits, X.cas, X.clock, X.frames, X.room, X.hears, X.method, X.code, (X.here.setHeapUsed s₂.heap s₂.slotsUsed).setVm hW'.alike, X.tail, State.WarmedH.trans X.warmed hW', X.limits, X.bytes, X.same.trans (hsame.setVm s.vm)⟩,
      ⟨g, mk, s₂, L, E, ce, rfl, rfl, hx, hce, hcv, hcl, rfl, hL, rfl, rfl⟩, ?_⟩
    show Steps p.tables e below _ (((({ U with heap := s₂.heap, slotsUsed := s₂.slotsUsed } : State).setVm s₂.vm).setTop g).pushFrame (.throwing q))
    rw [← hs₂]
    exact hsteps
end Payer
section Calls
variable {p : Program} {l : Launch} {e : Env} {R : Room} {s : State} {m : MethodId} {args : Array Value} {below : List Frame} {meth : Method} {c : Code} {T : State} {locs : List Loc} {cells slots : Nat}
theorem vx_callV (X : Stand p l e R s m args below meth c T locs cells slots) (hexec : p.tables.exec = Jvm.exec) {own C : String} {index : Nat} {y : MethodName} {bytes : ByteArray} {maxL : Nat} {ret : Option FieldType}
    (hown : s.vm.findClass own = some m.cls) (hlink : (Cond.methodLink own index y).before args s = true) (hinst : (Cond.instanceMethod y).before args s = true) (hsel : (Cond.selects C y y).before args s = true)
    (hcode : (Cond.code y bytes maxL ret).before args s = true) (hy : y.cls ≠ "java/lang/invoke/MethodHandle" ∧ y.cls ≠ "java/lang/invoke/VarHandle")
    {W9 : Nat} {Pre : Pt → Array Value → Prop} {Post : Pt → Array Value → Option Value → Pt → Prop} {PostX : Pt → Array Value → Addr → Pt → Prop} (hK : vx_Back l R p e below s args y 3 W9 Pre Post PostX)
    {b : Addr} {cellB : Cell} (hcell : T.heap[b]? = some cellB) (hobj : cellB.vm.isStatics = false) (hcls : s.vm.findClass C = some cellB.cls)
    {g : JFrame} (hg : g.method = m) (hsize : g.locals.size = c.maxLocals) {argsL rest : List Value} (hlen : ∀ sig, parseMethodDescriptor y.desc = some sig → argsL.length = sig.parameters.length)
    (hstack : g.stack = argsL.reverse ++ .ref b :: rest) (hW : 2 * g.monitorRoom + (rest.map fun v => v.category).sum ≤ W9) (hdg : decode c.code g.pc = .ok (.invokevirtual index, 3))
    (hpre : ∀ vm₁, s.WarmedH vm₁ → Pre ⟨T.setVm vm₁, locs, cells, slots⟩ (Value.ref b :: argsL).toArray) :
    (∃ (v : Option Value) (vm₁ : Vm) (B : Pt), s.WarmedH vm₁ ∧ Stand p l e R s m args below meth c B.U B.locs B.cells B.slots ∧ Post ⟨T.setVm vm₁, locs, cells, slots⟩ (Value.ref b :: argsL).toArray v B ∧
      ∀ target, Steps p.tables e below (B.U.setTop { g with pc := g.pc + 3, stack := v.toList ++ rest }) target → Steps p.tables e below (T.setTop g) target) ∨
    (∃ (q : Addr) (vm₁ : Vm) (B : Pt), s.WarmedH vm₁ ∧ Stand p l e R s m args below meth c B.U B.locs B.cells B.slots ∧ PostX ⟨T.setVm vm₁, locs, cells, slots⟩ (Value.ref b :: argsL).toArray q B ∧
      Steps p.tables e below (T.setTop g) ((B.U.setTop { g with stack := rest }).pushFrame (.throwing q))) := by
  obtain ⟨mk, methM, hnamed, hmethM, hstM, habM⟩ := Cond.instanceMethod_spec hinst
  obtain ⟨methM', cM, hmethM', -, -, -, -, -, -, hsigM⟩ := Cond.code_spec hnamed hcode
  cases hmethM.symm.trans hmethM'
  obtain ⟨c2, r2, m2, q1, q2, q3, q4, kP, hkP, hkPi⟩ := Cond.selects_spec hsel
  cases hcls.symm.trans q1
  cases (State.methodFound?_of_named hnamed hy).symm.trans q2
  cases hnamed.symm.trans q3
  have hselP : selectMethod e.platform s.vm cellB.cls mk = .method mk := by rw [Launch.admits_selectMethod X.admits]; exact q4
  obtain ⟨vm₁, X₁, hstep₁⟩ := X.invokevirtual hexec hown hlink hnamed hmethM hstM hkP hkPi hy (a := b) (cell := cellB) hcell
    (fun z h => by rw [h] at hobj; cases hobj) hselP hmethM habM hkP hkPi (g := g) hg (argsL := argsL) (rest := rest) (hlen _ hsigM) hstack hdg
  rcases hK m meth c ⟨T.setVm vm₁, locs, cells, slots⟩ { g with stack := rest } (.invokevirtual index) mk (Value.ref b :: argsL).toArray X₁ hg hsize hdg hW (X₁.named hnamed) (hpre vm₁ X₁.warmed) with ⟨v, B, X', hpost, hsteps⟩ | ⟨q, B, X', hpost, hsteps⟩
  · exact Or.inl ⟨v, vm₁, B, X₁.warmed, X', hpost, fun target h => hstep₁ _ fun acts => by rw [doInvoke_state]; exact hsteps.trans h⟩
  · exact Or.inr ⟨q, vm₁, B, X₁.warmed, X', hpost, hstep₁ _ fun acts => by rw [doInvoke_state]; exact hsteps⟩
theorem vx_callS (X : Stand p l e R s m args below meth c T locs cells slots) (hexec : p.tables.exec = Jvm.exec) {own : String} {index : Nat} {y : MethodName} {bytes : ByteArray} {maxL : Nat} {ret : Option FieldType}
    (hown : s.vm.findClass own = some m.cls) (hlink : (Cond.methodLink own index y).before args s = true) (hstat : (Cond.static y).before args s = true) (hinit : (Cond.initialized y.cls).before args s = true)
    (hcode : (Cond.code y bytes maxL ret).before args s = true) (hy : y.cls ≠ "java/lang/invoke/MethodHandle" ∧ y.cls ≠ "java/lang/invoke/VarHandle")
    {W9 : Nat} {Pre : Pt → Array Value → Prop} {Post : Pt → Array Value → Option Value → Pt → Prop} {PostX : Pt → Array Value → Addr → Pt → Prop} (hK : vx_Back l R p e below s args y 3 W9 Pre Post PostX)
    {g : JFrame} (hg : g.method = m) (hsize : g.locals.size = c.maxLocals) {argsL rest : List Value} (hlen : ∀ sig, parseMethodDescriptor y.desc = some sig → argsL.length = sig.parameters.length)
    (hstack : g.stack = argsL.reverse ++ rest) (hW : 2 * g.monitorRoom + (rest.map fun v => v.category).sum ≤ W9) (hdg : decode c.code g.pc = .ok (.invokestatic index, 3))
    (hpre : ∀ vm₁, s.WarmedH vm₁ → Pre ⟨T.setVm vm₁, locs, cells, slots⟩ argsL.toArray) :
    (∃ (v : Option Value) (vm₁ : Vm) (B : Pt), s.WarmedH vm₁ ∧ Stand p l e R s m args below meth c B.U B.locs B.cells B.slots ∧ Post ⟨T.setVm vm₁, locs, cells, slots⟩ argsL.toArray v B ∧
      ∀ target, Steps p.tables e below (B.U.setTop { g with pc := g.pc + 3, stack := v.toList ++ rest }) target → Steps p.tables e below (T.setTop g) target) ∨
    (∃ (q : Addr) (vm₁ : Vm) (B : Pt), s.WarmedH vm₁ ∧ Stand p l e R s m args below meth c B.U B.locs B.cells B.slots ∧ PostX ⟨T.setVm vm₁, locs, cells, slots⟩ argsL.toArray q B ∧
      Steps p.tables e below (T.setTop g) ((B.U.setTop { g with stack := rest }).pushFrame (.throwing q))) := by
  obtain ⟨mk, hnamed⟩ := Cond.code_named hcode
  obtain ⟨methM, cM, hmethM, -, -, -, -, -, -, hsigM⟩ := Cond.code_spec hnamed hcode
  have hstatic : methM.isStatic = true := Cond.static_spec hnamed hmethM hstat
  obtain ⟨kP, hkP, -⟩ := className_of_methodNamed hnamed
  have hinitP : kP.init = .initialized := Cond.initialized_spec (findClass_of_methodNamed hnamed) hkP hinit
  obtain ⟨vm₁, X₁, hstep₁⟩ := X.invokestatic hexec hown hlink hnamed hmethM hstatic hkP hinitP hy (g := g) hg (argsL := argsL) (rest := rest) (hlen _ hsigM) hstack hdg
  rcases hK m meth c ⟨T.setVm vm₁, locs, cells, slots⟩ { g with stack := rest } (.invokestatic index) mk argsL.toArray X₁ hg hsize hdg hW (X₁.named hnamed) (hpre vm₁ X₁.warmed) with ⟨v, B, X', hpost, hsteps⟩ | ⟨q, B, X', hpost, hsteps⟩
  · exact Or.inl ⟨v, vm₁, B, X₁.warmed, X', hpost, fun target h => hstep₁ _ fun acts => by rw [doInvoke_state]; exact hsteps.trans h⟩
  · exact Or.inr ⟨q, vm₁, B, X₁.warmed, X', hpost, hstep₁ _ fun acts => by rw [doInvoke_state]; exact hsteps⟩
end Calls
theorem vx_cls {s : State} {T : State} {vm₁ : Vm} {E : String} {k : ClassId} (hW : s.WarmedH vm₁) (h : (T.setVm vm₁).vm.findClass E = some k) : s.vm.findClass E = some k := by
  have h1 : vm₁.findClass E = some k := h
  rw [hW.alike.findClass] at h1
  exact h1
/-- the method's frame g, with q thrown over it -/
def vx_W (p : Program) (l : Launch) (e : Env) (R : Room) (s : State) (m : MethodId) (args : Array Value) (below : List Frame) (meth : Method) (c : Code) (H : Heap) (locs : List Loc) (cells slots : Nat) (Q : State → Prop) (g : JFrame) (q : Addr) : Prop :=
  ∀ T : State, T.heap = H → Stand p l e R s m args below meth c T locs cells slots → ∃ t, Steps p.tables e below ((T.setTop g).pushFrame (.throwing q)) t ∧ Q t
def vx_Run (p : Program) (l : Launch) (e : Env) (R : Room) (s : State) (m : MethodId) (args : Array Value) (below : List Frame) (meth : Method) (c : Code) (H : Heap) (locs : List Loc) (cells slots mc ms : Nat) (g : JFrame) (rest : List Value) (Qa : State → Outcome → State → Prop) (XC : String → State → State → Prop) (free : Addr → Prop) : Prop :=
  ∀ T : State, T.heap = H → Stand p l e R s m args below meth c T locs cells slots →
    (∃ (v : Option Value) (st₀ t T' : State) (L : List Loc), st₀.heap = H ∧ Stand p l e R s m args below meth c T' (locs ++ L) (cells + mc) (slots + ms) ∧ (∀ q ∈ L, free q.base) ∧ T'.heap = t.heap ∧ T'.vm = t.vm ∧ Qa st₀ (.returned v) t ∧
      Goes p e below T g T' { g with pc := g.pc + 3, stack := v.toList ++ rest }) ∨
    (∃ (q : Addr) (st₀ t T' : State) (L : List Loc) (E : String) (ce : Cell), st₀.heap = H ∧ Stand p l e R s m args below meth c T' (locs ++ L) (cells + mc) (slots + ms) ∧ (∀ z ∈ L, free z.base) ∧ T'.heap = t.heap ∧ T'.vm = t.vm ∧ XC E st₀ t ∧ t.heap[q]? = some ce ∧ ce.vm = .none ∧ s.vm.findClass E = some ce.cls ∧
      Steps p.tables e below (T.setTop g) ((T'.setTop { g with stack := rest }).pushFrame (.throwing q)))
def vx_X {S : Type} (px : S → Prop) (B : String → S → State → Prop) (A : Nat → Prop) : String → State → State → Prop := fun E st t => ∃ u : S, px u ∧ B E u t ∧ va_F A st t
section Runs
variable {p : Program} {l : Launch} {e : Env} {R : Room} {s : State} {m : MethodId} {args : Array Value} {below : List Frame} {meth : Method} {c : Code} {H : Heap} {locs : List Loc} {cells slots : Nat}
variable {y : MethodName} {bytes cc : ByteArray} {maxL nL mc ms n index : Nat} {ret : Option FieldType} {ws : List Cond} {rm : Room} {Pc : Array Value → State → Prop} {Qc : Array Value → State → Outcome → State → Prop} {XC : String → State → State → Prop} {free : Addr → Prop} {Ts : List Cond} {own C : String} {b : Addr} {As rest : List Value} {g : JFrame}
theorem vx_callBack (cb : CallB R s args own index y bytes maxL ret ws rm mc ms n) (hM : vx_Met l y ws rm Pc Qc XC mc ms free) (hbl : FrameBlind Pc) : vx_Back l R p e below s args y 3 8 (PreOf R mc ms Pc) (PostOf Qc mc ms free) (vx_Post XC mc ms free) := by
  obtain ⟨hrc, hrs, hfr, hlo, hws, hcw, -, hini, -⟩ := cb
  exact vx_back (bytes := bytes) (maxL := maxL) (ret := ret) hM hbl hrc hrs hfr hlo hws hcw (fun a' U hW => word_at hW (Or.inl (by first | rfl | simp [Cond.onTables, Cond.keeps, Cond.steady])) hini)
theorem vx_runV (S : CallFix p m c cc nL s args Ts own) (hM : vx_Met l y ws rm Pc Qc XC mc ms free) (cw : CallW R s args own C index y bytes maxL ret ws rm mc ms n) (hp : PreV s H C b Pc As)
    (hg : g.method = m) (hn : As.length = n) (hsize : g.locals.size = nL) (hstack : g.stack = As.reverse ++ .ref b :: rest) (hW : 2 * g.monitorRoom + (rest.map fun v => v.category).sum ≤ 8) (hdg : decode cc g.pc = .ok (.invokevirtual index, 3)) (hf : cells + mc ≤ R.cells ∧ slots + ms ≤ R.slots) :
    vx_Run p l e R s m args below meth c H locs cells slots mc ms g rest (Qc (Value.ref b :: As).toArray) XC free := by
  have hK : vx_Back l R p e below s args y 3 8 (PreOf R mc ms Pc) (PostOf Qc mc ms free) (vx_Post XC mc ms free) := vx_callBack cw.1 hM hp.1
  obtain ⟨⟨-, -, -, -, -, -, hcode, -, hy, hlen, hl⟩, hin, hse⟩ := cw
  obtain ⟨hx, hb, hml, ho, -⟩ := S
  obtain ⟨-, ⟨cellB, hcB, hoB, hclB⟩, hPc⟩ := hp
  intro T hT X
  rcases vx_callV X hx (C := C) (bytes := bytes) (maxL := maxL) (ret := ret) ho hl hin hse hcode hy hK (by rw [hT]; exact hcB) hoB hclB hg (hsize.trans hml.symm) (argsL := As) (rest := rest) (fun sig h => hn.trans (hlen sig h)) hstack hW (by rw [hb]; exact hdg)
    (fun vm₁ hW₁ => ⟨hf.1, hf.2, hPc (T.setVm vm₁) hT hW₁⟩) with ⟨v, vm₁, ⟨U', l2, c2, s2⟩, hW₁, X', ⟨g', mk, t, L, e1, e2, hq, h1, hL, h2, h3⟩, st⟩ | ⟨q, vm₁, ⟨U', l2, c2, s2⟩, hW₁, X', ⟨g', mk, t, L, E, ce, e1, e2, hq, hce, hcv, hcl, h1, hL, h2, h3⟩, st⟩
  · dsimp only [Pt.U, Pt.locs, Pt.cells, Pt.slots] at X' e1 e2 h1 h2 h3 st
    subst h1; subst h2; subst h3
    exact Or.inl ⟨v, (T.setVm vm₁).calling g' mk (Value.ref b :: As).toArray, t, U', L, hT, X', hL, e1, e2, hq, st⟩
  · dsimp only [Pt.U, Pt.locs, Pt.cells, Pt.slots] at X' e1 e2 h1 h2 h3 st hcl
    subst h1; subst h2; subst h3
    exact Or.inr ⟨q, (T.setVm vm₁).calling g' mk (Value.ref b :: As).toArray, t, U', L, E, ce, hT, X', hL, e1, e2, hq, hce, hcv, vx_cls hW₁ hcl, st⟩
theorem vx_runS (S : CallFix p m c cc nL s args Ts own) (hM : vx_Met l y ws rm Pc Qc XC mc ms free) (cw : CallB R s args own index y bytes maxL ret ws rm mc ms n ∧ (Cond.static y).before args s = true) (hp : PreS s H Pc As)
    (hg : g.method = m) (hn : As.length = n) (hsize : g.locals.size = nL) (hstack : g.stack = As.reverse ++ rest) (hW : 2 * g.monitorRoom + (rest.map fun v => v.category).sum ≤ 8) (hdg : decode cc g.pc = .ok (.invokestatic index, 3)) (hf : cells + mc ≤ R.cells ∧ slots + ms ≤ R.slots) :
    vx_Run p l e R s m args below meth c H locs cells slots mc ms g rest (Qc As.toArray) XC free := by
  have hK : vx_Back l R p e below s args y 3 8 (PreOf R mc ms Pc) (PostOf Qc mc ms free) (vx_Post XC mc ms free) := vx_callBack cw.1 hM hp.1
  obtain ⟨⟨-, -, -, -, -, -, hcode, hini, hy, hlen, hl⟩, hstt⟩ := cw
  obtain ⟨hx, hb, hml, ho, -⟩ := S
  intro T hT X
  rcases vx_callS X hx (bytes := bytes) (maxL := maxL) (ret := ret) ho hl hstt hini hcode hy hK hg (hsize.trans hml.symm) (argsL := As) (rest := rest) (fun sig h => hn.trans (hlen sig h)) hstack hW (by rw [hb]; exact hdg)
    (fun vm₁ hW₁ => ⟨hf.1, hf.2, hp.2 (T.setVm vm₁) hT hW₁⟩) with ⟨v, vm₁, ⟨U', l2, c2, s2⟩, hW₁, X', ⟨g', mk, t, L, e1, e2, hq, h1, hL, h2, h3⟩, st⟩ | ⟨q, vm₁, ⟨U', l2, c2, s2⟩, hW₁, X', ⟨g', mk, t, L, E, ce, e1, e2, hq, hce, hcv, hcl, h1, hL, h2, h3⟩, st⟩
  · dsimp only [Pt.U, Pt.locs, Pt.cells, Pt.slots] at X' e1 e2 h1 h2 h3 st
    subst h1; subst h2; subst h3
    exact Or.inl ⟨v, (T.setVm vm₁).calling g' mk As.toArray, t, U', L, hT, X', hL, e1, e2, hq, st⟩
  · dsimp only [Pt.U, Pt.locs, Pt.cells, Pt.slots] at X' e1 e2 h1 h2 h3 st hcl
    subst h1; subst h2; subst h3
    exact Or.inr ⟨q, (T.setVm vm₁).calling g' mk As.toArray, t, U', L, E, ce, hT, X', hL, e1, e2, hq, hce, hcv, vx_cls hW₁ hcl, st⟩
end Runs
section Rows
variable {p : Program} {l : Launch} {e : Env} {R : Room} {s : State} {m : MethodId} {args : Array Value} {below : List Frame} {meth : Method} {c : Code} {H : Heap} {locs : List Loc} {cells slots : Nat} {Q : State → Prop}
variable {mc ms : Nat} {free : Addr → Prop} {A0 A1 : Nat → Prop} {H0 : Heap} {a : Array Value} {pc : Nat} {ls : Array Slot} {st0 rest : List Value}
theorem vx_keep {st₀ t T' : State} {L : List Loc} (h0 : st₀.heap = H) (e1 : T'.heap = t.heap) (hS : va_S A0 H0 H locs) (hA : ∀ q, q < H.size → A1 q → A0 q) (hf : ∀ q, free q → A0 q) (hL : ∀ q ∈ L, free q.base) (hF : va_F A1 st₀ t) :
    H.size ≤ T'.heap.size ∧ (∀ q : Nat, q < H.size → ¬ A1 q → T'.heap[q]? = H[q]?) ∧ va_S A0 H0 T'.heap (locs ++ L) := by
  obtain ⟨hz, hk⟩ := hF
  rw [h0] at hz hk
  exact ⟨by rw [e1]; exact hz, fun q h1 h2 => by rw [e1]; exact hk q h1 h2,
    ⟨Nat.le_trans hS.1 (by rw [e1]; exact hz), fun q h1 h2 => by rw [e1, hk q (Nat.lt_of_lt_of_le h1 hS.1) (fun z => h2 (hA q (Nat.lt_of_lt_of_le h1 hS.1) z))]; exact hS.2.1 q h1 h2, fun q hq => by
      rcases List.mem_append.mp hq with h | h
      · exact hS.2.2 q h
      · exact hf _ (hL q h)⟩⟩
theorem vx_calli {S SX : Type} {post : Int32 → S → Prop} {px : SX → Prop} {B : S → State → Prop} {BX : String → SX → State → Prop} {AX : Nat → Prop} (hr : vx_Run p l e R s m args below meth c H locs cells slots mc ms (F0 m pc ls st0) rest (va_Qi post B A1 a) (vx_X px BX AX) free) (hS : va_S A0 H0 H locs) (hA : ∀ q, q < H.size → A1 q → A0 q) (hf : ∀ q, free q → A0 q) (hAX : ∀ q, q < H.size → AX q → A0 q)
    (kx : ∀ (E : String) (ce : Cell) (q9 : Addr) (u : SX) (t : State) (H1 : Heap) (locs1 : List Loc), t.heap = H1 → s.vm.Alike t.vm → px u → BX E u t → H.size ≤ H1.size → (∀ q : Nat, q < H.size → ¬ AX q → H1[q]? = H[q]?) → va_S A0 H0 H1 locs1 → H1[q9]? = some ce → ce.vm = .none → s.vm.findClass E = some ce.cls → vx_W p l e R s m args below meth c H1 locs1 (cells + mc) (slots + ms) Q (F0 m pc ls rest) q9)
    (kk : ∀ (r : Int32) (u : S) (t : State) (H1 : Heap) (locs1 : List Loc), t.heap = H1 → s.vm.Alike t.vm → post r u → B u t → H.size ≤ H1.size → (∀ q : Nat, q < H.size → ¬ A1 q → H1[q]? = H[q]?) → va_S A0 H0 H1 locs1 → W p l e R s m args below meth c H1 locs1 (cells + mc) (slots + ms) Q (F0 m (pc + 3) ls (.int r :: rest))) : W p l e R s m args below meth c H locs cells slots Q (F0 m pc ls st0) := by
  intro T hT X
  rcases hr T hT X with ⟨v, st₀, t, T', L, h0, X', hL, e1, e2, ⟨⟨r, u, hv, hp, hb⟩, hF⟩, st⟩ | ⟨q, st₀, t, T', L, E, ce, h0, X', hL, e1, e2, ⟨u, hp, hb, hF⟩, hce, hcv, hcl, st⟩
  · cases hv
    obtain ⟨k1, k2, k3⟩ := vx_keep h0 e1 hS hA hf hL hF
    obtain ⟨t2, a1, b1⟩ := kk r u t T'.heap (locs ++ L) e1.symm (by rw [← e2]; exact X'.warmed.alike) hp hb k1 k2 k3 T' rfl X'
    exact ⟨t2, st t2 a1, b1⟩
  · obtain ⟨k1, k2, k3⟩ := vx_keep h0 e1 hS hAX hf hL hF
    obtain ⟨t2, a1, b1⟩ := kx E ce q u t T'.heap (locs ++ L) e1.symm (by rw [← e2]; exact X'.warmed.alike) hp hb k1 k2 k3 (by rw [e1]; exact hce) hcv hcl T' rfl X'
    exact ⟨t2, st.trans a1, b1⟩
theorem vx_calll {S SX : Type} {post : Int64 → S → Prop} {px : SX → Prop} {B : S → State → Prop} {BX : String → SX → State → Prop} {AX : Nat → Prop} (hr : vx_Run p l e R s m args below meth c H locs cells slots mc ms (F0 m pc ls st0) rest (va_Ql post B A1 a) (vx_X px BX AX) free) (hS : va_S A0 H0 H locs) (hA : ∀ q, q < H.size → A1 q → A0 q) (hf : ∀ q, free q → A0 q) (hAX : ∀ q, q < H.size → AX q → A0 q)
    (kx : ∀ (E : String) (ce : Cell) (q9 : Addr) (u : SX) (t : State) (H1 : Heap) (locs1 : List Loc), t.heap = H1 → s.vm.Alike t.vm → px u → BX E u t → H.size ≤ H1.size → (∀ q : Nat, q < H.size → ¬ AX q → H1[q]? = H[q]?) → va_S A0 H0 H1 locs1 → H1[q9]? = some ce → ce.vm = .none → s.vm.findClass E = some ce.cls → vx_W p l e R s m args below meth c H1 locs1 (cells + mc) (slots + ms) Q (F0 m pc ls rest) q9)
    (kk : ∀ (r : Int64) (u : S) (t : State) (H1 : Heap) (locs1 : List Loc), t.heap = H1 → s.vm.Alike t.vm → post r u → B u t → H.size ≤ H1.size → (∀ q : Nat, q < H.size → ¬ A1 q → H1[q]? = H[q]?) → va_S A0 H0 H1 locs1 → W p l e R s m args below meth c H1 locs1 (cells + mc) (slots + ms) Q (F0 m (pc + 3) ls (.long r :: rest))) : W p l e R s m args below meth c H locs cells slots Q (F0 m pc ls st0) := by
  intro T hT X
  rcases hr T hT X with ⟨v, st₀, t, T', L, h0, X', hL, e1, e2, ⟨⟨r, u, hv, hp, hb⟩, hF⟩, st⟩ | ⟨q, st₀, t, T', L, E, ce, h0, X', hL, e1, e2, ⟨u, hp, hb, hF⟩, hce, hcv, hcl, st⟩
  · cases hv
    obtain ⟨k1, k2, k3⟩ := vx_keep h0 e1 hS hA hf hL hF
    obtain ⟨t2, a1, b1⟩ := kk r u t T'.heap (locs ++ L) e1.symm (by rw [← e2]; exact X'.warmed.alike) hp hb k1 k2 k3 T' rfl X'
    exact ⟨t2, st t2 a1, b1⟩
  · obtain ⟨k1, k2, k3⟩ := vx_keep h0 e1 hS hAX hf hL hF
    obtain ⟨t2, a1, b1⟩ := kx E ce q u t T'.heap (locs ++ L) e1.symm (by rw [← e2]; exact X'.warmed.alike) hp hb k1 k2 k3 (by rw [e1]; exact hce) hcv hcl T' rfl X'
    exact ⟨t2, st.trans a1, b1⟩
theorem vx_callf {S SX : Type} {post : UInt32 → S → Prop} {px : SX → Prop} {B : S → State → Prop} {BX : String → SX → State → Prop} {AX : Nat → Prop} (hr : vx_Run p l e R s m args below meth c H locs cells slots mc ms (F0 m pc ls st0) rest (va_Qf post B A1 a) (vx_X px BX AX) free) (hS : va_S A0 H0 H locs) (hA : ∀ q, q < H.size → A1 q → A0 q) (hf : ∀ q, free q → A0 q) (hAX : ∀ q, q < H.size → AX q → A0 q)
    (kx : ∀ (E : String) (ce : Cell) (q9 : Addr) (u : SX) (t : State) (H1 : Heap) (locs1 : List Loc), t.heap = H1 → s.vm.Alike t.vm → px u → BX E u t → H.size ≤ H1.size → (∀ q : Nat, q < H.size → ¬ AX q → H1[q]? = H[q]?) → va_S A0 H0 H1 locs1 → H1[q9]? = some ce → ce.vm = .none → s.vm.findClass E = some ce.cls → vx_W p l e R s m args below meth c H1 locs1 (cells + mc) (slots + ms) Q (F0 m pc ls rest) q9)
    (kk : ∀ (r : UInt32) (u : S) (t : State) (H1 : Heap) (locs1 : List Loc), t.heap = H1 → s.vm.Alike t.vm → post r u → B u t → H.size ≤ H1.size → (∀ q : Nat, q < H.size → ¬ A1 q → H1[q]? = H[q]?) → va_S A0 H0 H1 locs1 → W p l e R s m args below meth c H1 locs1 (cells + mc) (slots + ms) Q (F0 m (pc + 3) ls (.float r :: rest))) : W p l e R s m args below meth c H locs cells slots Q (F0 m pc ls st0) := by
  intro T hT X
  rcases hr T hT X with ⟨v, st₀, t, T', L, h0, X', hL, e1, e2, ⟨⟨r, u, hv, hp, hb⟩, hF⟩, st⟩ | ⟨q, st₀, t, T', L, E, ce, h0, X', hL, e1, e2, ⟨u, hp, hb, hF⟩, hce, hcv, hcl, st⟩
  · cases hv
    obtain ⟨k1, k2, k3⟩ := vx_keep h0 e1 hS hA hf hL hF
    obtain ⟨t2, a1, b1⟩ := kk r u t T'.heap (locs ++ L) e1.symm (by rw [← e2]; exact X'.warmed.alike) hp hb k1 k2 k3 T' rfl X'
    exact ⟨t2, st t2 a1, b1⟩
  · obtain ⟨k1, k2, k3⟩ := vx_keep h0 e1 hS hAX hf hL hF
    obtain ⟨t2, a1, b1⟩ := kx E ce q u t T'.heap (locs ++ L) e1.symm (by rw [← e2]; exact X'.warmed.alike) hp hb k1 k2 k3 (by rw [e1]; exact hce) hcv hcl T' rfl X'
    exact ⟨t2, st.trans a1, b1⟩
theorem vx_calld {S SX : Type} {post : UInt64 → S → Prop} {px : SX → Prop} {B : S → State → Prop} {BX : String → SX → State → Prop} {AX : Nat → Prop} (hr : vx_Run p l e R s m args below meth c H locs cells slots mc ms (F0 m pc ls st0) rest (va_Qd post B A1 a) (vx_X px BX AX) free) (hS : va_S A0 H0 H locs) (hA : ∀ q, q < H.size → A1 q → A0 q) (hf : ∀ q, free q → A0 q) (hAX : ∀ q, q < H.size → AX q → A0 q)
    (kx : ∀ (E : String) (ce : Cell) (q9 : Addr) (u : SX) (t : State) (H1 : Heap) (locs1 : List Loc), t.heap = H1 → s.vm.Alike t.vm → px u → BX E u t → H.size ≤ H1.size → (∀ q : Nat, q < H.size → ¬ AX q → H1[q]? = H[q]?) → va_S A0 H0 H1 locs1 → H1[q9]? = some ce → ce.vm = .none → s.vm.findClass E = some ce.cls → vx_W p l e R s m args below meth c H1 locs1 (cells + mc) (slots + ms) Q (F0 m pc ls rest) q9)
    (kk : ∀ (r : UInt64) (u : S) (t : State) (H1 : Heap) (locs1 : List Loc), t.heap = H1 → s.vm.Alike t.vm → post r u → B u t → H.size ≤ H1.size → (∀ q : Nat, q < H.size → ¬ A1 q → H1[q]? = H[q]?) → va_S A0 H0 H1 locs1 → W p l e R s m args below meth c H1 locs1 (cells + mc) (slots + ms) Q (F0 m (pc + 3) ls (.double r :: rest))) : W p l e R s m args below meth c H locs cells slots Q (F0 m pc ls st0) := by
  intro T hT X
  rcases hr T hT X with ⟨v, st₀, t, T', L, h0, X', hL, e1, e2, ⟨⟨r, u, hv, hp, hb⟩, hF⟩, st⟩ | ⟨q, st₀, t, T', L, E, ce, h0, X', hL, e1, e2, ⟨u, hp, hb, hF⟩, hce, hcv, hcl, st⟩
  · cases hv
    obtain ⟨k1, k2, k3⟩ := vx_keep h0 e1 hS hA hf hL hF
    obtain ⟨t2, a1, b1⟩ := kk r u t T'.heap (locs ++ L) e1.symm (by rw [← e2]; exact X'.warmed.alike) hp hb k1 k2 k3 T' rfl X'
    exact ⟨t2, st t2 a1, b1⟩
  · obtain ⟨k1, k2, k3⟩ := vx_keep h0 e1 hS hAX hf hL hF
    obtain ⟨t2, a1, b1⟩ := kx E ce q u t T'.heap (locs ++ L) e1.symm (by rw [← e2]; exact X'.warmed.alike) hp hb k1 k2 k3 (by rw [e1]; exact hce) hcv hcl T' rfl X'
    exact ⟨t2, st.trans a1, b1⟩
theorem vx_callv {S SX : Type} {post : S → Prop} {px : SX → Prop} {B : S → State → Prop} {BX : String → SX → State → Prop} {AX : Nat → Prop} (hr : vx_Run p l e R s m args below meth c H locs cells slots mc ms (F0 m pc ls st0) rest (va_Qv post B A1 a) (vx_X px BX AX) free) (hS : va_S A0 H0 H locs) (hA : ∀ q, q < H.size → A1 q → A0 q) (hf : ∀ q, free q → A0 q) (hAX : ∀ q, q < H.size → AX q → A0 q)
    (kx : ∀ (E : String) (ce : Cell) (q9 : Addr) (u : SX) (t : State) (H1 : Heap) (locs1 : List Loc), t.heap = H1 → s.vm.Alike t.vm → px u → BX E u t → H.size ≤ H1.size → (∀ q : Nat, q < H.size → ¬ AX q → H1[q]? = H[q]?) → va_S A0 H0 H1 locs1 → H1[q9]? = some ce → ce.vm = .none → s.vm.findClass E = some ce.cls → vx_W p l e R s m args below meth c H1 locs1 (cells + mc) (slots + ms) Q (F0 m pc ls rest) q9)
    (kk : ∀ (u : S) (t : State) (H1 : Heap) (locs1 : List Loc), t.heap = H1 → s.vm.Alike t.vm → post u → B u t → H.size ≤ H1.size → (∀ q : Nat, q < H.size → ¬ A1 q → H1[q]? = H[q]?) → va_S A0 H0 H1 locs1 → W p l e R s m args below meth c H1 locs1 (cells + mc) (slots + ms) Q (F0 m (pc + 3) ls (rest))) : W p l e R s m args below meth c H locs cells slots Q (F0 m pc ls st0) := by
  intro T hT X
  rcases hr T hT X with ⟨v, st₀, t, T', L, h0, X', hL, e1, e2, ⟨⟨u, hv, hp, hb⟩, hF⟩, st⟩ | ⟨q, st₀, t, T', L, E, ce, h0, X', hL, e1, e2, ⟨u, hp, hb, hF⟩, hce, hcv, hcl, st⟩
  · cases hv
    obtain ⟨k1, k2, k3⟩ := vx_keep h0 e1 hS hA hf hL hF
    obtain ⟨t2, a1, b1⟩ := kk u t T'.heap (locs ++ L) e1.symm (by rw [← e2]; exact X'.warmed.alike) hp hb k1 k2 k3 T' rfl X'
    exact ⟨t2, st t2 a1, b1⟩
  · obtain ⟨k1, k2, k3⟩ := vx_keep h0 e1 hS hAX hf hL hF
    obtain ⟨t2, a1, b1⟩ := kx E ce q u t T'.heap (locs ++ L) e1.symm (by rw [← e2]; exact X'.warmed.alike) hp hb k1 k2 k3 (by rw [e1]; exact hce) hcv hcl T' rfl X'
    exact ⟨t2, st.trans a1, b1⟩
/-- caught by the row x of this method's table; the rows ahead don't take it -/
theorem vx_catch {own name : String} {E : String} {ce : Cell} {q : Addr} (hown : s.vm.findClass own = some m.cls) (pre : List ExceptionTableEntry) (x : ExceptionTableEntry) (suf : List ExceptionTableEntry) (hsplit : c.exceptionTable.toList = pre ++ x :: suf)
    (hpass : ∀ z ∈ pre, covers z pc = false ∨ (z.catchType ≠ 0 ∧ ∃ nm : String, (Cond.classLink own z.catchType nm).before args s = true ∧ va_Nc E nm s)) (hx : covers x pc = true) (h0 : x.catchType ≠ 0)
    (hlink : (Cond.classLink own x.catchType name).before args s = true) (hcast : (Cond.castable E name).before args s = true) (hcell : H[q]? = some ce) (hv : ce.vm = .none) (hcl : s.vm.findClass E = some ce.cls)
    (kk : W p l e R s m args below meth c H locs cells slots Q (F0 m x.handlerPc ls [.ref q])) : vx_W p l e R s m args below meth c H locs cells slots Q (F0 m pc ls rest) q := by
  intro T hT X
  have hpl : e.platform.magicAccessors = ({} : Platform).magicAccessors := by rw [X.admits.platform]
  obtain ⟨c3, c4, hc3, hc4, hasg⟩ := Cond.castable_spec hcast
  cases Option.some.inj (hc3.symm.trans hcl)
  obtain ⟨c5, hc5, hcl5⟩ := Cond.classLink_spec hown hlink e.platform hpl
  cases Option.some.inj (hc4.symm.trans hc5)
  obtain ⟨vm', X', st⟩ := X.thenCaughtThrough q (g := F0 m pc ls rest) rfl (Steps.refl _) (by rw [hT]; exact hcell) (by rw [hv]; rfl) (by obtain ⟨k9, h9, -⟩ := Vm.findClass_spec hcl; exact ⟨k9, h9⟩) pre x suf hsplit
    (fun z hz => by
      rcases hpass z hz with h | ⟨hz0, nm, hl1, hn1⟩
      · exact Or.inl h
      · obtain ⟨c6, hc6, hcl6⟩ := Cond.classLink_spec hown hl1 e.platform hpl
        obtain ⟨a8, b8, h1, h2, h3⟩ := hn1
        cases Option.some.inj (h1.symm.trans hcl)
        cases Option.some.inj (h2.symm.trans hc6)
        exact Or.inr ⟨hz0, _, hcl6, h3⟩) hx (Or.inr ⟨h0, c4, hcl5, hasg⟩)
  obtain ⟨t, a1, b1⟩ := kk (T.setVm vm') hT X'
  exact ⟨t, st.trans a1, b1⟩
end Rows
section Ends
variable {p : Program} {l : Launch} {e : Env} {R : Room} {s : State} {m : MethodId} {args : Array Value} {below : List Frame} {meth : Method} {c : Code} {H : Heap} {locs : List Loc} {cells slots : Nat} {Q : State → Prop}
variable {mc ms : Nat} {free : Addr → Prop} {A0 A1 : Nat → Prop} {H0 : Heap} {a : Array Value} {ls : Array Slot} {st0 rest : List Value}
variable {Qc : Array Value → State → Outcome → State → Prop} {XC : String → State → State → Prop}
/-- what a body that may throw owes at its end -/
def vx_MQ (below : List Frame) (Qc : Array Value → State → Outcome → State → Prop) (XC : String → State → State → Prop) (a : Array Value) (s : State) (mc ms : Nat) (free : Addr → Prop) : State → Prop := fun t =>
  ∃ o, t.status = .running ∧ Ended t below o ∧ vx_Q Qc XC mc ms free a s o t
theorem vx_ret {g : JFrame} {mc ms : Nat} (k : W p l e R s m args below meth c H locs cells slots (MQ below Qc args s mc ms free) g) : W p l e R s m args below meth c H locs cells slots (vx_MQ below Qc XC args s mc ms free) g := by
  intro T hT X
  obtain ⟨t, a1, o, b1, b2, b3, b4⟩ := k T hT X
  exact ⟨t, a1, o, b1, b2, Or.inl ⟨b3, b4⟩⟩
/-- not caught here: it goes on to the caller -/
theorem vx_widen {g : JFrame} {q : Addr} {k n : Nat} (h1 : cells ≤ k) (h2 : slots ≤ n) (kk : vx_W p l e R s m args below meth c H locs k n Q g q) : vx_W p l e R s m args below meth c H locs cells slots Q g q := fun T hT X => kk T hT (stand_widen X h1 h2)
theorem vx_out {pc : Nat} {E : String} {ce : Cell} {q : Addr} {mc ms : Nat} (hout : ∀ x ∈ c.exceptionTable.toList, covers x pc = false) (hlocks : meth.locks = false) (hcell : H[q]? = some ce) (hv : ce.vm = .none) (hcl : s.vm.findClass E = some ce.cls)
    (hx : ∀ t : State, t.heap = H → s.vm.Alike t.vm → XC E s t) (hf : ∀ z ∈ locs, free z.base) (hc : cells ≤ mc) (hs : slots ≤ ms) :
    vx_W p l e R s m args below meth c H locs cells slots (vx_MQ below Qc XC args s mc ms free) (F0 m pc ls rest) q := by
  intro T hT X
  obtain ⟨st1, hrun, hend, hW, hsm⟩ := X.leaveThrown q (g := F0 m pc ls rest) rfl rfl rfl hout hlocks
  have hcell9 : (T.setFrames (.throwing q :: below)).heap[q]? = some ce := by
    show T.heap[q]? = some ce
    rw [hT]; exact hcell
  exact ⟨_, st1, .threw q, hrun, hend, Or.inr ⟨q, rfl, E, ce, locs, hx _ hT hW.alike, hcell9, hv, hcl, hW, hsm.mono hc hs, hf⟩⟩
theorem vx_frame {U : State} {k n : Nat} (h : s.sameButNew ({ U with vm := s.vm } : State) locs k n) : s.heap.size ≤ U.heap.size ∧ ∀ q : Nat, q < s.heap.size → (∀ z ∈ locs, z.base ≠ q) → U.heap[q]? = s.heap[q]? := by
  obtain ⟨-, h2, -, -, -, h6⟩ := h
  refine ⟨h2, fun q hq hz => ?_⟩
  obtain ⟨c9, e1, e2, e3, e4⟩ := h6 q _ (Array.getElem?_eq_getElem hq)
  have hs : c9.slots = (s.heap[q]).slots := Array.ext_getElem? fun i => e4 i fun hm => hz _ hm rfl
  have h9 : c9 = s.heap[q] := by
    rw [hs] at e2
    exact e2
  have e5 : U.heap[q]? = some c9 := e1
  rw [e5, h9, Array.getElem?_eq_getElem hq]
/-- the words of a throw but the four that speak of the heap -/
def vx_no (w : Cond) : Bool := decide (w ≠ .isRef (.static Bundle.tN "UNASSIGNED_STACK" Bundle.steD)) && decide (w ≠ .isRef (.static Bundle.tN "SUPPRESSED_SENTINEL" Bundle.listD)) && decide (w ≠ .laysStatic Bundle.tN "UNASSIGNED_STACK" Bundle.steD) && decide (w ≠ .laysStatic Bundle.tN "SUPPRESSED_SENTINEL" Bundle.listD)
def vx_at0 (own : String) (ic : Nat) (X : String) (names : List String) : List Cond := (Bundle.ownAtoms0 own ic X names).filter vx_no
def vx_atS (own : String) (ic : Nat) (X : String) (names : List String) : List Cond := (Bundle.ownAtoms own ic X names).filter vx_no
/-- a word that the tables alone decide, or a good one -/
def vx_ot (w : Cond) : Bool := w.onTables || goodWord w
theorem vx_ot_at {args a' : Array Value} {s U : State} {w : Cond} (hW : s.WarmedH U.vm) (hvm : s.vm = U.vm) (hg : vx_ot w = true) (h : w.before args s = true) : w.before a' U = true := by
  simp only [vx_ot, Bool.or_eq_true] at hg
  rcases hg with hg | hg
  · exact va_tabs hg hvm h
  · exact word_at hW (good_of_word hg) h
/-- a list's words: the good ones out of the method's own list, the others by premises of their own -/
theorem vx_hat {args : Array Value} {s : State} {L B : List Cond} (h1 : ∀ w ∈ L.filter goodWord, w.before args s = true) (h2 : ∀ w ∈ L.filter (fun w => !goodWord w), w ∈ B) (h3 : ∀ w ∈ B, w.before args s = true) : ∀ w ∈ L, w.before args s = true := by
  intro w hw
  by_cases g : goodWord w = true
  · exact h1 w (List.mem_filter.mpr ⟨hw, g⟩)
  · refine h3 w (h2 w (List.mem_filter.mpr ⟨hw, ?_⟩))
    show (!goodWord w) = true
    cases hgw : goodWord w
    · rfl
    · exact absurd hgw g
theorem vx_c {args : Array Value} {s : State} {w : Cond} {B : List Cond} (h : w.before args s = true) (t : ∀ w ∈ B, w.before args s = true) : ∀ w' ∈ w :: B, w'.before args s = true := fun w' h' => (List.mem_cons.mp h').elim (fun e => by rw [e]; exact h) (t w')
theorem vx_n {args : Array Value} {s : State} : ∀ w ∈ ([] : List Cond), w.before args s = true := fun _ h => nomatch h
theorem vx_own {args : Array Value} {s : State} {L : List Cond} (h1 : ∀ w ∈ L.filter vx_no, w.before args s = true)
    (hU : (Cond.isRef (.static Bundle.tN "UNASSIGNED_STACK" Bundle.steD)).before args s = true) (hN : (Cond.isRef (.static Bundle.tN "SUPPRESSED_SENTINEL" Bundle.listD)).before args s = true)
    (lU : (Cond.laysStatic Bundle.tN "UNASSIGNED_STACK" Bundle.steD).before args s = true) (lN : (Cond.laysStatic Bundle.tN "SUPPRESSED_SENTINEL" Bundle.listD).before args s = true) : ∀ w ∈ L, w.before args s = true := by
  intro w hw
  by_cases e1 : w = .isRef (.static Bundle.tN "UNASSIGNED_STACK" Bundle.steD)
  · rw [e1]; exact hU
  · by_cases e2 : w = .isRef (.static Bundle.tN "SUPPRESSED_SENTINEL" Bundle.listD)
    · rw [e2]; exact hN
    · by_cases e3 : w = .laysStatic Bundle.tN "UNASSIGNED_STACK" Bundle.steD
      · rw [e3]; exact lU
      · by_cases e4 : w = .laysStatic Bundle.tN "SUPPRESSED_SENTINEL" Bundle.listD
        · rw [e4]; exact lN
        · exact h1 w (List.mem_filter.mpr ⟨hw, by unfold vx_no; rw [decide_eq_true e1, decide_eq_true e2, decide_eq_true e3, decide_eq_true e4]; rfl⟩)
/-- where a static field lies, its class's statics cell in H -/
def vx_L (C n d : String) (A : Nat → Prop) (U : State) (H : Heap) : Prop := ∃ (c : ClassId) (k : Class) (i : Nat) (f : Field) (a : Nat) (cell : Cell), U.vm.findClass C = some c ∧ U.fieldFound? C n d = some (c, k, i, f) ∧ f.isStatic = true ∧ k.statics = some a ∧ H[a]? = some cell ∧ cell.vm.isStatics = true ∧ cell.cls = c ∧ f.slot < cell.slots.size ∧ k.staticTypes[f.slot]? = some f.type ∧ ¬ A a
theorem vx_L.moved {C n d : String} {A : Nat → Prop} {u U : State} {H : Heap} (hvm : u.vm.Alike U.vm) (h : vx_L C n d A u H) : vx_L C n d A U H := by
  obtain ⟨c, k, i, f, a, cell, h1, h2, h3, h4, h5, h6, h7, h8, h9, h10⟩ := h
  obtain ⟨k', hi', he⟩ := State.fieldFound?_setVm hvm h2
  exact ⟨c, k', i, f, a, cell, by rw [hvm.findClass]; exact h1, hi', h3, by rw [he]; exact h4, h5, h6, h7, h8, by rw [he]; exact h9, h10⟩
theorem vx_L.kept {C n d : String} {A : Nat → Prop} {U : State} {H H1 : Heap} (h : vx_L C n d A U H) (hq : ∀ a : Nat, a < H.size → ¬ A a → H1[a]? = H[a]?) : vx_L C n d A U H1 := by
  obtain ⟨c, k, i, f, a, cell, h1, h2, h3, h4, h5, h6, h7, h8, h9, h10⟩ := h
  exact ⟨c, k, i, f, a, cell, h1, h2, h3, h4, by rw [hq a (Array.getElem?_eq_some_iff.mp h5).1 h10]; exact h5, h6, h7, h8, h9, h10⟩
theorem vx_L.narrow {C n d : String} {A B : Nat → Prop} {U : State} {H : Heap} (h : vx_L C n d A U H) (hAB : ∀ q, B q → A q) : vx_L C n d B U H := by
  obtain ⟨c, k, i, f, a, cell, h1, h2, h3, h4, h5, h6, h7, h8, h9, h10⟩ := h
  exact ⟨c, k, i, f, a, cell, h1, h2, h3, h4, h5, h6, h7, h8, h9, fun z => h10 (hAB _ z)⟩
theorem vx_L.word {C n d : String} {A : Nat → Prop} {s : State} {args : Array Value} (h : vx_L C n d A s s.heap) : (Cond.laysStatic C n d).before args s = true := by
  obtain ⟨c, k, i, f, a, cell, h1, h2, h3, h4, h5, h6, h7, h8, h9, -⟩ := h
  show (Cond.laysStatic C n d).holds args s none s [] = true
  exact Cond.laysStatic_of h1 h2 h3 h4 h5 h6 h7 h8 h9
/-- .. and what it holds: null or some reference -/
def vx_Zq (C n d : String) (A : Nat → Prop) (U : State) (H : Heap) : Prop := va_Zq C n d A U H ∧ vx_L C n d A U H
theorem vx_Zq.moved {C n d : String} {A : Nat → Prop} {u U : State} {H : Heap} (hvm : u.vm.Alike U.vm) (h : vx_Zq C n d A u H) : vx_Zq C n d A U H := ⟨va_Zq.moved hvm h.1, vx_L.moved hvm h.2⟩
theorem vx_Zq.kept {C n d : String} {A : Nat → Prop} {U : State} {H H1 : Heap} (h : vx_Zq C n d A U H) (hq : ∀ a : Nat, a < H.size → ¬ A a → H1[a]? = H[a]?) : vx_Zq C n d A U H1 := ⟨va_Zq.kept h.1 hq, vx_L.kept h.2 hq⟩
theorem vx_Zq.narrow {C n d : String} {A B : Nat → Prop} {U : State} {H : Heap} (h : vx_Zq C n d A U H) (hAB : ∀ q, B q → A q) : vx_Zq C n d B U H := ⟨va_Zq.narrow h.1 hAB, vx_L.narrow h.2 hAB⟩
theorem vx_Zqof {args : Array Value} {s : State} {C n d : String} {A : Nat → Prop} (hl : (Cond.laysStatic C n d).before args s = true) (hini : (Cond.initialized C).before args s = true) (h : (Cond.isRef (.static C n d)).before args s = true) (hA : ∀ a : Nat, a < s.heap.size → ¬ A a) : vx_Zq C n d A s s.heap := by
  refine ⟨va_Zqof hl hini h hA, ?_⟩
  obtain ⟨c, k, i, f, a, cell, h1, h2, h3, h4, h5, h6, h7, h8, h9⟩ := Cond.laysStatic_spec hl
  exact ⟨c, k, i, f, a, cell, h1, h2, h3, h4, h5, h6, h7, h8, h9, hA a (Array.getElem?_eq_some_iff.mp h5).1⟩
theorem vx_isRef {C n d : String} {v : Value} {A : Nat → Prop} {s : State} {args : Array Value} (h : va_Z C n d v A s s.heap) (hv : v.isRef = true) : (Cond.isRef (.static C n d)).before args s = true := by
  obtain ⟨cf, kf, fi, f, a, cell, h1, h2, h3, h4, h5, h6, h7, -⟩ := h
  have he : (Term.static C n d).eval args s none [] s = some v := by
    simp [Term.eval, State.fieldNamed?, h1, h2, h4, h5, h6, h7]
  simp only [Cond.before, Cond.holds, Cond.value, he]
  cases v <;> simp_all [Value.isRef]
theorem vx_isRefq {C n d : String} {A : Nat → Prop} {s : State} {args : Array Value} (h : va_Zq C n d A s s.heap) : (Cond.isRef (.static C n d)).before args s = true := by
  rcases h with h | ⟨t, h⟩
  · exact vx_isRef h rfl
  · exact vx_isRef h rfl
/-- the same frame, seen from here: as if the method were called anew in this heap -/
theorem vx_rebase {T : State} (X : Stand p l e R s m args below meth c T locs cells slots) {R' : Room} (hf : R'.frames ≤ R.frames) (hl : R'.locals ≤ R.locals) (hc : cells + R'.cells ≤ R.cells) (hs : slots + R'.slots ≤ R.slots) :
    Stand p l e R' ((T.setVm s.vm).setFrames (.invoking m args :: below)) m args below meth c T [] 0 0 := by
  have htop : (T.setVm s.vm).topJava?.isSome := X.here.top
  have hF : ((T.setVm s.vm).setFrames (.invoking m args :: below)).frames = .invoking m args :: below := State.frames_setFrames _ (State.cur_lt_of_top htop)
  obtain ⟨g₀, hg0⟩ := Option.isSome_iff_exists.mp htop
  obtain ⟨r, hr⟩ := State.topJava?_eq_some.mp hg0
  have hl9 : e.platform.stackLimits (T.setVm s.vm).me = e.platform.stackLimits s.me := X.limits
  have hb9 : (T.setVm s.vm).me.stackBytes = s.me.stackBytes := X.bytes
  refine ⟨X.admits, X.cas, X.clock, hF, ?_, X.hears, X.method, X.code, X.here, X.tail, X.warmed, ?_, ?_, ?_⟩
  · have h := X.room
    have hU : ((T.setVm s.vm).setFrames (.invoking m args :: below)).localsInUse = s.localsInUse := by
      rw [State.localsInUse_invoking hF (meth := meth) (c := c) X.method X.code, State.localsInUse_invoking X.frames X.method X.code]
    simp only [State.hasRoom, Bool.and_eq_true, decide_eq_true_eq] at h ⊢
    obtain ⟨⟨⟨⟨h1, h2, h3, h4, h5, h6⟩, h7⟩, h8⟩, h9⟩ := h
    rw [X.frames, List.length_cons] at h2 h3
    have q1 := X.heapSize
    have q2 := X.used
    simp only [hF, hU, List.length_cons, State.stackLimits_setFrames, State.stackBytes_setFrames, hl9, hb9]
    refine ⟨⟨⟨⟨by omega, by omega, by omega, by omega, by omega, h6⟩, ?_⟩, ?_⟩, X.book⟩
    · show T.heap.size + R'.cells ≤ e.platform.maxCells
      omega
    · show T.slotsUsed + R'.slots ≤ e.platform.maxSlots
      omega
  · rw [State.stackLimits_setFrames]; rfl
  · rw [State.stackBytes_setFrames]; rfl
  · refine ⟨?_, Nat.le_refl _, Nat.le_refl _, ?_, ?_, fun a c9 h9 => ⟨c9, h9, rfl, rfl, fun _ _ => rfl⟩⟩
    · obtain ⟨t, ht, -⟩ := State.frames_cons hr
      show T.setVm s.vm = { ((T.setVm s.vm).setFrames (.invoking m args :: below)).setFrames (T.setVm s.vm).frames with heap := T.heap, slotsUsed := T.slotsUsed }
      rw [State.setFrames_setFrames, State.setFrames_self ht]
      rfl
    · show T.slotsUsed = T.slotsUsed + ((T.heap.toList.drop T.heap.size).map (·.slots.size)).sum
      rw [List.drop_eq_nil_of_le (Nat.le_of_eq Array.length_toList)]
      rfl
    · show ((T.heap.toList.drop T.heap.size).map (·.slots.size)).sum ≤ 0
      rw [List.drop_eq_nil_of_le (Nat.le_of_eq Array.length_toList)]
      exact Nat.le_refl _
/-- 'throw new E()': new; dup; invokespecial; athrow -/
theorem vx_throw0 {cc : ByteArray} {pc : Nat} (hexec : p.tables.exec = Jvm.exec) (hb : c.code = cc) (hl : l.stackTraces = false) {own cls : String} {names : List String} {ik ic mc ms : Nat} {A : Nat → Prop}
    (hown : s.vm.findClass own = some m.cls) (hcls : Bundle.fit cls = true) (hnames : ∀ n ∈ names, Bundle.fit n = true)
    (hk : (Cond.classLink own ik cls).before args s = true) (hini : (Cond.initialized cls).before args s = true) (hat : ∀ w ∈ vx_at0 own ic cls names, w.before args s = true)
    (hgood : ∀ w ∈ Cond.classLink own ik cls :: Cond.initialized cls :: vx_at0 own ic cls names, vx_ot w = true)
    (hU : vx_Zq Bundle.tN "UNASSIGNED_STACK" Bundle.steD A s s.heap) (hN : vx_Zq Bundle.tN "SUPPRESSED_SENTINEL" Bundle.listD A s s.heap) (hS : va_S A s.heap H locs) (hsize : ls.size = c.maxLocals)
    (d0 : decode cc pc = .ok (.new ik, 3)) (d3 : decode cc (pc + 3) = .ok (.dup, 1)) (d4 : decode cc (pc + 4) = .ok (.invokespecial ic, 3)) (d7 : decode cc (pc + 7) = .ok (.athrow, 1))
    (hout : ∀ x ∈ c.exceptionTable.toList, covers x (pc + 7) = false)
    (hRframes : names.length + 3 < R.frames) (hRlocals : (rest.map fun v => v.category).sum + (13 * (names.length + 1) + 42) ≤ R.locals) (hRcells : cells + 1 ≤ R.cells) (hRslots : slots + 6 ≤ R.slots) (hlocks : meth.locks = false)
    (hx : ∀ t : State, s.vm.Alike t.vm → H.size ≤ t.heap.size → (∀ q : Nat, q < H.size → t.heap[q]? = H[q]?) → XC cls s t)
    (hf : ∀ z ∈ locs, free z.base) (hc : cells + 1 ≤ mc) (hs : slots + 6 ≤ ms) :
    W p l e R s m args below meth c H locs cells slots (vx_MQ below Qc XC args s mc ms free) (F0 m pc ls rest) := by
  intro T hT X
  have htr : e.platform.stackTraces = false := (show e.platform.stackTraces = l.stackTraces by rw [X.admits.platform]).trans hl
  have Y := vx_rebase X (R' := { frames := R.frames, locals := R.locals, cells := 1, slots := 6 }) (Nat.le_refl _) (Nat.le_refl _) hRcells hRslots
  obtain ⟨s', hA⟩ : ∃ z, z = (T.setVm s.vm).setFrames (.invoking m args :: below) := ⟨_, rfl⟩
  rw [← hA] at Y
  have hvm : s'.vm = s.vm := by rw [hA]; rfl
  have hhp : s'.heap = H := by rw [hA]; exact hT
  have hW0 : s.WarmedH s'.vm := by rw [hvm]; exact State.WarmedH.refl s
  have hat' : ∀ w ∈ vx_at0 own ic cls names, w.before args s' = true := fun w hw => vx_ot_at hW0 hvm.symm (hgood w (List.mem_cons_of_mem _ (List.mem_cons_of_mem _ hw))) (hat w hw)
  have hk' : (Cond.classLink own ik cls).before args s' = true := vx_ot_at hW0 hvm.symm (hgood _ List.mem_cons_self) hk
  have hini' : (Cond.initialized cls).before args s' = true := vx_ot_at hW0 hvm.symm (hgood _ (List.mem_cons_of_mem _ List.mem_cons_self)) hini
  have hU' : vx_Zq Bundle.tN "UNASSIGNED_STACK" Bundle.steD A s' s'.heap := by rw [hhp]; exact vx_Zq.moved hW0.alike (hU.kept hS.2.1)
  have hN' : vx_Zq Bundle.tN "SUPPRESSED_SENTINEL" Bundle.listD A s' s'.heap := by rw [hhp]; exact vx_Zq.moved hW0.alike (hN.kept hS.2.1)
  have h : ∀ w ∈ Bundle.ownAtoms0 own ic cls names, w.before args s' = true := vx_own hat' (vx_isRefq hU'.1) (vx_isRefq hN'.1) hU'.2.word hN'.2.word
  have hown' : s'.vm.findClass own = some m.cls := by rw [hvm]; exact hown
  have hins : (Cond.instantiable cls 6).before args s' = true := h _ (by simp [Bundle.ownAtoms0])
  obtain ⟨vm₁, cX, kX, hfX, hkX, -, -, X₁, st1⟩ := Y.newCold hexec (own := own) (C := cls) (index := ik) (n := 6) hown' hk' hins hini'
    (g := F0 m pc ls rest) rfl (by rw [hb]; exact d0) (Nat.le_refl _) (Nat.le_refl _)
  generalize hT1 : (T.setVm vm₁).pushCell { cls := cX, slots := kX.instanceTypes.map defaultValue, vm := .none } = T1 at X₁ st1
  have hcat : (Value.ref T.heap.size).category = 1 := rfl
  have hcellA : T1.heap[T.heap.size]? = some (freshCell cX kX) := by rw [← hT1]; exact State.heap_pushCell_size _ _
  have d3' : decode c.code (pc + 3) = .ok (.dup, 1) := by rw [hb]; exact d3
  obtain ⟨U, hsteps, hrun, hend, hW, hsame, ce, hce, hO⟩ := X₁.ctorThrow0 hexec htr (own := own) (cls := cls) (names := names) (ic := ic) hown' hcls hnames h (fun x hx => nomatch hx) hfX hkX hcellA (by rw [hhp, hT]; exact Nat.le_refl _)
    (g := { method := m, pc := pc + 4, locals := ls, stack := .ref T.heap.size :: .ref T.heap.size :: rest, locked := none }) rfl hsize rfl rfl (rest := rest) rfl
    (by rw [hb]; exact d4) (by rw [hb]; exact d7) hout hRframes (by simp only [List.map_cons, List.sum_cons, hcat]; omega) hlocks
  obtain ⟨f1, f2⟩ := vx_frame hsame
  rw [hhp] at f1 f2
  have hWs : s.WarmedH U.vm := State.WarmedH.trans hW0 hW
  have hcl : s.vm.findClass cls = some ce.cls := by
    have h9 := hO.cls
    rw [hvm] at h9
    exact h9
  have hall : s.sameButNew ({ U with vm := s.vm } : State) locs mc ms := by
    subst hA
    obtain ⟨e1, e2⟩ := hsame
    rw [State.setFrames_setFrames] at e1
    have h2 : (T.setVm s.vm).sameButNew ({ U with vm := s.vm } : State) [] (0 + 1) (0 + 6) := ⟨e1, e2⟩
    have h3 := X.same.trans h2
    rw [List.append_nil] at h3
    exact h3.mono hc hs
  refine ⟨U, ?_, .threw T.heap.size, hrun, hend, Or.inr ⟨T.heap.size, rfl, cls, ce, locs, hx U hWs.alike f1 (fun q hq => f2 q hq (fun z hz => nomatch hz)), hce, hO.vm, hcl, hWs, hall, hf⟩⟩
  refine st1 _ ?_
  show Steps p.tables e below (T1.setTop { method := m, pc := pc + 3, locals := ls, stack := .ref T.heap.size :: rest, locked := none }) _
  jvm_step X₁.here [X₁.here.top, hexec, d3', Value.category]
  exact hsteps
/-- 'throw new E("text")': new; dup; ldc; invokespecial; athrow -/
theorem vx_throwS {cc : ByteArray} {pc : Nat} (hexec : p.tables.exec = Jvm.exec) (hb : c.code = cc) (hl : l.stackTraces = false) {own cls text : String} {names : List String} {ik is ic mc ms sa : Nat} {A : Nat → Prop}
    (hown : s.vm.findClass own = some m.cls) (hcls : Bundle.fit cls = true) (hnames : ∀ n ∈ names, Bundle.fit n = true)
    (hk : (Cond.classLink own ik cls).before args s = true) (hini : (Cond.initialized cls).before args s = true) (hstr : vk_R own is text sa s) (hat : ∀ w ∈ vx_atS own ic cls names, w.before args s = true)
    (hgood : ∀ w ∈ Cond.classLink own ik cls :: Cond.initialized cls :: vx_atS own ic cls names, vx_ot w = true)
    (hU : vx_Zq Bundle.tN "UNASSIGNED_STACK" Bundle.steD A s s.heap) (hN : vx_Zq Bundle.tN "SUPPRESSED_SENTINEL" Bundle.listD A s s.heap) (hS : va_S A s.heap H locs) (hsize : ls.size = c.maxLocals)
    (d0 : decode cc pc = .ok (.new ik, 3)) (d3 : decode cc (pc + 3) = .ok (.dup, 1)) (d4 : decode cc (pc + 4) = .ok (.ldc is, 2)) (d6 : decode cc (pc + 6) = .ok (.invokespecial ic, 3)) (d9 : decode cc (pc + 9) = .ok (.athrow, 1))
    (hout : ∀ x ∈ c.exceptionTable.toList, covers x (pc + 9) = false)
    (hRframes : names.length + 3 < R.frames) (hRlocals : (rest.map fun v => v.category).sum + (13 * (names.length + 1) + 43) ≤ R.locals) (hRcells : cells + 1 ≤ R.cells) (hRslots : slots + 6 ≤ R.slots) (hlocks : meth.locks = false)
    (hx : ∀ t : State, s.vm.Alike t.vm → H.size ≤ t.heap.size → (∀ q : Nat, q < H.size → t.heap[q]? = H[q]?) → XC cls s t)
    (hf : ∀ z ∈ locs, free z.base) (hc : cells + 1 ≤ mc) (hs : slots + 6 ≤ ms) :
    W p l e R s m args below meth c H locs cells slots (vx_MQ below Qc XC args s mc ms free) (F0 m pc ls rest) := by
  intro T hT X
  have htr : e.platform.stackTraces = false := (show e.platform.stackTraces = l.stackTraces by rw [X.admits.platform]).trans hl
  have Y := vx_rebase X (R' := { frames := R.frames, locals := R.locals, cells := 1, slots := 6 }) (Nat.le_refl _) (Nat.le_refl _) hRcells hRslots
  obtain ⟨s', hA⟩ : ∃ z, z = (T.setVm s.vm).setFrames (.invoking m args :: below) := ⟨_, rfl⟩
  rw [← hA] at Y
  have hvm : s'.vm = s.vm := by rw [hA]; rfl
  have hhp : s'.heap = H := by rw [hA]; exact hT
  have hW0 : s.WarmedH s'.vm := by rw [hvm]; exact State.WarmedH.refl s
  have hat' : ∀ w ∈ vx_atS own ic cls names, w.before args s' = true := fun w hw => vx_ot_at hW0 hvm.symm (hgood w (List.mem_cons_of_mem _ (List.mem_cons_of_mem _ hw))) (hat w hw)
  have hk' : (Cond.classLink own ik cls).before args s' = true := vx_ot_at hW0 hvm.symm (hgood _ List.mem_cons_self) hk
  have hini' : (Cond.initialized cls).before args s' = true := vx_ot_at hW0 hvm.symm (hgood _ (List.mem_cons_of_mem _ List.mem_cons_self)) hini
  have hU' : vx_Zq Bundle.tN "UNASSIGNED_STACK" Bundle.steD A s' s'.heap := by rw [hhp]; exact vx_Zq.moved hW0.alike (hU.kept hS.2.1)
  have hN' : vx_Zq Bundle.tN "SUPPRESSED_SENTINEL" Bundle.listD A s' s'.heap := by rw [hhp]; exact vx_Zq.moved hW0.alike (hN.kept hS.2.1)
  have h : ∀ w ∈ Bundle.ownAtoms own ic cls names, w.before args s' = true := vx_own hat' (vx_isRefq hU'.1) (vx_isRefq hN'.1) hU'.2.word hN'.2.word
  have hown' : s'.vm.findClass own = some m.cls := by rw [hvm]; exact hown
  have hins : (Cond.instantiable cls 6).before args s' = true := h _ (by simp [Bundle.ownAtoms])
  obtain ⟨vm₁, cX, kX, hfX, hkX, -, -, X₁, st1⟩ := Y.newCold hexec (own := own) (C := cls) (index := ik) (n := 6) hown' hk' hins hini'
    (g := F0 m pc ls rest) rfl (by rw [hb]; exact d0) (Nat.le_refl _) (Nat.le_refl _)
  generalize hT1 : (T.setVm vm₁).pushCell { cls := cX, slots := kX.instanceTypes.map defaultValue, vm := .none } = T1 at X₁ st1
  have hcat : (Value.ref T.heap.size).category = 1 := rfl
  have hcellA : T1.heap[T.heap.size]? = some (freshCell cX kX) := by rw [← hT1]; exact State.heap_pushCell_size _ _
  have d3' : decode c.code (pc + 3) = .ok (.dup, 1) := by rw [hb]; exact d3
  have d4' : decode c.code (pc + 4) = .ok (.ldc is, 2) := by rw [hb]; exact d4
  have hstr' : vk_R own is text sa s' := vk_R.warm hW0 hstr
  obtain ⟨U, hsteps, hrun, hend, hW, hsame, ce, hce, hO⟩ := X₁.ctorThrowS hexec htr (own := own) (cls := cls) (names := names) (ic := ic) hown' hcls hnames h (fun x hx => nomatch hx) hfX hkX hcellA (by rw [hhp, hT]; exact Nat.le_refl _) (msg := .ref sa) rfl
    (g := { method := m, pc := pc + 6, locals := ls, stack := .ref sa :: .ref T.heap.size :: .ref T.heap.size :: rest, locked := none }) rfl hsize rfl rfl (rest := rest) rfl
    (by rw [hb]; exact d6) (by rw [hb]; exact d9) hout hRframes (by simp only [List.map_cons, List.sum_cons, hcat]; omega) hlocks
  obtain ⟨f1, f2⟩ := vx_frame hsame
  rw [hhp] at f1 f2
  have hWs : s.WarmedH U.vm := State.WarmedH.trans hW0 hW
  have hcl : s.vm.findClass cls = some ce.cls := by
    have h9 := hO.cls
    rw [hvm] at h9
    exact h9
  have hall : s.sameButNew ({ U with vm := s.vm } : State) locs mc ms := by
    subst hA
    obtain ⟨e1, e2⟩ := hsame
    rw [State.setFrames_setFrames] at e1
    have h2 : (T.setVm s.vm).sameButNew ({ U with vm := s.vm } : State) [] (0 + 1) (0 + 6) := ⟨e1, e2⟩
    have h3 := X.same.trans h2
    rw [List.append_nil] at h3
    exact h3.mono hc hs
  refine ⟨U, ?_, .threw T.heap.size, hrun, hend, Or.inr ⟨T.heap.size, rfl, cls, ce, locs, hx U hWs.alike f1 (fun q hq => f2 q hq (fun z hz => nomatch hz)), hce, hO.vm, hcl, hWs, hall, hf⟩⟩
  refine st1 _ ?_
  show Steps p.tables e below (T1.setTop { method := m, pc := pc + 3, locals := ls, stack := .ref T.heap.size :: rest, locked := none }) _
  jvm_step X₁.here [X₁.here.top, hexec, d3', Value.category]
  exact X₁.ldcString hexec (own := own) (text := text) (index := is) (a := sa) hown' hstr'.1 hstr'.2
    (g := { method := m, pc := pc + 4, locals := ls, stack := .ref T.heap.size :: .ref T.heap.size :: rest, locked := none }) rfl d4' _ hsteps
/-- 'throw new E("text")', the text by a wide index -/
theorem vx_throwSW {cc : ByteArray} {pc : Nat} (hexec : p.tables.exec = Jvm.exec) (hb : c.code = cc) (hl : l.stackTraces = false) {own cls text : String} {names : List String} {ik is ic mc ms sa : Nat} {A : Nat → Prop}
    (hown : s.vm.findClass own = some m.cls) (hcls : Bundle.fit cls = true) (hnames : ∀ n ∈ names, Bundle.fit n = true)
    (hk : (Cond.classLink own ik cls).before args s = true) (hini : (Cond.initialized cls).before args s = true) (hstr : vk_R own is text sa s) (hat : ∀ w ∈ vx_atS own ic cls names, w.before args s = true)
    (hgood : ∀ w ∈ Cond.classLink own ik cls :: Cond.initialized cls :: vx_atS own ic cls names, vx_ot w = true)
    (hU : vx_Zq Bundle.tN "UNASSIGNED_STACK" Bundle.steD A s s.heap) (hN : vx_Zq Bundle.tN "SUPPRESSED_SENTINEL" Bundle.listD A s s.heap) (hS : va_S A s.heap H locs) (hsize : ls.size = c.maxLocals)
    (d0 : decode cc pc = .ok (.new ik, 3)) (d3 : decode cc (pc + 3) = .ok (.dup, 1)) (d4 : decode cc (pc + 4) = .ok (.ldc_w is, 3)) (d7 : decode cc (pc + 7) = .ok (.invokespecial ic, 3)) (d10 : decode cc (pc + 10) = .ok (.athrow, 1))
    (hout : ∀ x ∈ c.exceptionTable.toList, covers x (pc + 10) = false)
    (hRframes : names.length + 3 < R.frames) (hRlocals : (rest.map fun v => v.category).sum + (13 * (names.length + 1) + 43) ≤ R.locals) (hRcells : cells + 1 ≤ R.cells) (hRslots : slots + 6 ≤ R.slots) (hlocks : meth.locks = false)
    (hx : ∀ t : State, s.vm.Alike t.vm → H.size ≤ t.heap.size → (∀ q : Nat, q < H.size → t.heap[q]? = H[q]?) → XC cls s t)
    (hf : ∀ z ∈ locs, free z.base) (hc : cells + 1 ≤ mc) (hs : slots + 6 ≤ ms) :
    W p l e R s m args below meth c H locs cells slots (vx_MQ below Qc XC args s mc ms free) (F0 m pc ls rest) := by
  intro T hT X
  have htr : e.platform.stackTraces = false := (show e.platform.stackTraces = l.stackTraces by rw [X.admits.platform]).trans hl
  have Y := vx_rebase X (R' := { frames := R.frames, locals := R.locals, cells := 1, slots := 6 }) (Nat.le_refl _) (Nat.le_refl _) hRcells hRslots
  obtain ⟨s', hA⟩ : ∃ z, z = (T.setVm s.vm).setFrames (.invoking m args :: below) := ⟨_, rfl⟩
  rw [← hA] at Y
  have hvm : s'.vm = s.vm := by rw [hA]; rfl
  have hhp : s'.heap = H := by rw [hA]; exact hT
  have hW0 : s.WarmedH s'.vm := by rw [hvm]; exact State.WarmedH.refl s
  have hat' : ∀ w ∈ vx_atS own ic cls names, w.before args s' = true := fun w hw => vx_ot_at hW0 hvm.symm (hgood w (List.mem_cons_of_mem _ (List.mem_cons_of_mem _ hw))) (hat w hw)
  have hk' : (Cond.classLink own ik cls).before args s' = true := vx_ot_at hW0 hvm.symm (hgood _ List.mem_cons_self) hk
  have hini' : (Cond.initialized cls).before args s' = true := vx_ot_at hW0 hvm.symm (hgood _ (List.mem_cons_of_mem _ List.mem_cons_self)) hini
  have hU' : vx_Zq Bundle.tN "UNASSIGNED_STACK" Bundle.steD A s' s'.heap := by rw [hhp]; exact vx_Zq.moved hW0.alike (hU.kept hS.2.1)
  have hN' : vx_Zq Bundle.tN "SUPPRESSED_SENTINEL" Bundle.listD A s' s'.heap := by rw [hhp]; exact vx_Zq.moved hW0.alike (hN.kept hS.2.1)
  have h : ∀ w ∈ Bundle.ownAtoms own ic cls names, w.before args s' = true := vx_own hat' (vx_isRefq hU'.1) (vx_isRefq hN'.1) hU'.2.word hN'.2.word
  have hown' : s'.vm.findClass own = some m.cls := by rw [hvm]; exact hown
  have hins : (Cond.instantiable cls 6).before args s' = true := h _ (by simp [Bundle.ownAtoms])
  obtain ⟨vm₁, cX, kX, hfX, hkX, -, -, X₁, st1⟩ := Y.newCold hexec (own := own) (C := cls) (index := ik) (n := 6) hown' hk' hins hini'
    (g := F0 m pc ls rest) rfl (by rw [hb]; exact d0) (Nat.le_refl _) (Nat.le_refl _)
  generalize hT1 : (T.setVm vm₁).pushCell { cls := cX, slots := kX.instanceTypes.map defaultValue, vm := .none } = T1 at X₁ st1
  have hcat : (Value.ref T.heap.size).category = 1 := rfl
  have hcellA : T1.heap[T.heap.size]? = some (freshCell cX kX) := by rw [← hT1]; exact State.heap_pushCell_size _ _
  have d3' : decode c.code (pc + 3) = .ok (.dup, 1) := by rw [hb]; exact d3
  have d4' : decode c.code (pc + 4) = .ok (.ldc_w is, 3) := by rw [hb]; exact d4
  have hstr' : vk_R own is text sa s' := vk_R.warm hW0 hstr
  obtain ⟨U, hsteps, hrun, hend, hW, hsame, ce, hce, hO⟩ := X₁.ctorThrowS hexec htr (own := own) (cls := cls) (names := names) (ic := ic) hown' hcls hnames h (fun x hx => nomatch hx) hfX hkX hcellA (by rw [hhp, hT]; exact Nat.le_refl _) (msg := .ref sa) rfl
    (g := { method := m, pc := pc + 7, locals := ls, stack := .ref sa :: .ref T.heap.size :: .ref T.heap.size :: rest, locked := none }) rfl hsize rfl rfl (rest := rest) rfl
    (by rw [hb]; exact d7) (by rw [hb]; exact d10) hout hRframes (by simp only [List.map_cons, List.sum_cons, hcat]; omega) hlocks
  obtain ⟨f1, f2⟩ := vx_frame hsame
  rw [hhp] at f1 f2
  have hWs : s.WarmedH U.vm := State.WarmedH.trans hW0 hW
  have hcl : s.vm.findClass cls = some ce.cls := by
    have h9 := hO.cls
    rw [hvm] at h9
    exact h9
  have hall : s.sameButNew ({ U with vm := s.vm } : State) locs mc ms := by
    subst hA
    obtain ⟨e1, e2⟩ := hsame
    rw [State.setFrames_setFrames] at e1
    have h2 : (T.setVm s.vm).sameButNew ({ U with vm := s.vm } : State) [] (0 + 1) (0 + 6) := ⟨e1, e2⟩
    have h3 := X.same.trans h2
    rw [List.append_nil] at h3
    exact h3.mono hc hs
  refine ⟨U, ?_, .threw T.heap.size, hrun, hend, Or.inr ⟨T.heap.size, rfl, cls, ce, locs, hx U hWs.alike f1 (fun q hq => f2 q hq (fun z hz => nomatch hz)), hce, hO.vm, hcl, hWs, hall, hf⟩⟩
  refine st1 _ ?_
  show Steps p.tables e below (T1.setTop { method := m, pc := pc + 3, locals := ls, stack := .ref T.heap.size :: rest, locked := none }) _
  jvm_step X₁.here [X₁.here.top, hexec, d3', Value.category]
  exact X₁.ldcStringW hexec (own := own) (text := text) (index := is) (a := sa) hown' hstr'.1 hstr'.2
    (g := { method := m, pc := pc + 4, locals := ls, stack := .ref T.heap.size :: .ref T.heap.size :: rest, locked := none }) rfl d4' _ hsteps
end Ends
section Bodies
variable {l : Launch}
theorem vx_ofW {y : MethodName} {ws ws' : List Cond} {rm : Room} {Pc : Array Value → State → Prop} {Qc : Array Value → State → Outcome → State → Prop} {XC : String → State → State → Prop} {mc ms : Nat} {free : Addr → Prop} {cc : ByteArray} {maxL : Nat} {ret : Option FieldType}
    (hy : plainName y.cls = true) (hw : ws = Cond.code y cc maxL ret :: ws')
    (body : ∀ p e s m args below meth c s₁, BodyLoose p l y (headSpec ws rm) cc maxL ret e s m args below meth c s₁ → c.maxLocals = maxL → (∀ x ∈ c.exceptionTable.toList, False) → Pc args s →
      W p l e (headSpec ws rm).room s m args below meth c s.heap [] 0 0 (vx_MQ below Qc XC args s mc ms free) (entryFrame m args maxL)) : vx_Met l y ws rm Pc Qc XC mc ms free := by
  refine MetFree.of_bodyS (code := cc) (maxLocals := maxL) (ret := ret) hy ?_ ?_
  · intro args s m h hn
    obtain ⟨meth, c, h1, h2, h3, h4, h5, h6, -, -⟩ := Cond.code_spec hn (atoms_spec (ws := ws) h _ (by rw [hw]; exact List.mem_cons_self))
    exact ⟨meth, c, h1, h2, h3, h4, h5, h6⟩
  · intro p e s m args below meth c s₁ B hml hP _
    have hh0 : s₁.heap = s.heap := by rw [B.state]; rfl
    have ht : ∀ x ∈ c.exceptionTable.toList, False := by
      obtain ⟨meth9, c9, h1, h2, -, -, -, -, h7, -⟩ := Cond.code_spec B.named (atoms_spec (ws := ws) B.pre _ (by rw [hw]; exact List.mem_cons_self))
      cases Option.some.inj (h1.symm.trans B.method)
      cases Option.some.inj (h2.symm.trans (Stand.of_body B).code)
      intro x hx
      rw [Array.isEmpty_iff.mp h7] at hx
      cases hx
    obtain ⟨t, a1, o, b1, b2, b3⟩ := body p e s m args below meth c s₁ B hml ht hP s₁ hh0 (Stand.of_body B)
    exact ⟨t, o, a1, b1, b2, b3⟩
/-- the table of a body with handlers -/
theorem vx_table {p : Program} {x y : MethodName} {S : Spec} {cc bytes : ByteArray} {maxL maxL' : Nat} {ret ret' : Option FieldType} {e : Env} {s s₁ : State} {m : MethodId} {args : Array Value} {below : List Frame} {meth : Method} {c : Code} {hh : List (Nat × Nat × Nat × Nat)}
    (B : BodyLoose p l y S cc maxL ret e s m args below meth c s₁) (h : (Cond.codeWith y bytes maxL' ret' hh).before args s = true) : c.exceptionTable.toList = tableOf hh := by
  obtain ⟨m9, meth9, c9, hn9, h1, h2, -, -, h6, -⟩ := Cond.codeWith_spec h
  cases Option.some.inj (hn9.symm.trans B.named)
  cases Option.some.inj (h1.symm.trans B.method)
  cases Option.some.inj (h2.symm.trans (Stand.of_body B).code)
  rw [← h6, table_eq]
end Bodies
end VXA
/-! ===== END ===== -/
/-! ===== BEGIN a static call of a method with an exception table ===== -/
section VXS
variable {p : Program} {l : Launch} {e : Env} {R : Room} {s : State} {m : MethodId} {args : Array Value} {below : List Frame} {meth : Method} {c : Code} {T : State} {H : Heap} {locs : List Loc} {cells slots : Nat}
abbrev vx_CSW (R : Room) (s : State) (args : Array Value) (own : String) (index : Nat) (y : MethodName) (bytes : ByteArray) (maxL : Nat) (ret : Option FieldType) (hh : List (Nat × Nat × Nat × Nat)) (ws : List Cond) (rm : Room) (mc ms n : Nat) : Prop :=
  (rm.cells = mc ∧ rm.slots = ms ∧ rm.frames + 1 ≤ R.frames ∧ 8 + (maxL + 11) + rm.locals ≤ R.locals ∧ (∀ w ∈ ws, ∀ (a' : Array Value) (U : State), s.WarmedH U.vm → w.before a' U = true) ∧ Cond.codeWith y bytes maxL ret hh ∈ ws) ∧
  (Cond.codeWith y bytes maxL ret hh).before args s = true ∧ (Cond.initialized y.cls).before args s = true ∧ (y.cls ≠ "java/lang/invoke/MethodHandle" ∧ y.cls ≠ "java/lang/invoke/VarHandle") ∧
  (∀ sig, parseMethodDescriptor y.desc = some sig → n = sig.parameters.length) ∧ (Cond.methodLink own index y).before args s = true ∧ (Cond.static y).before args s = true
theorem vx_cwSW {own : String} {index maxL mc ms : Nat} {y : MethodName} {bytes : ByteArray} {ret : Option FieldType} {hh : List (Nat × Nat × Nat × Nat)} {Ts ws ws' : List Cond} {rm : Room} (n : Nat) (ht : ∀ w ∈ Ts, w.before args s = true) (hT : GoodIn Ts (va_wsS own index y ws)) (hw : ws = Cond.codeWith y bytes maxL ret hh :: ws') (hrc : rm.cells = mc) (hrs : rm.slots = ms)
    (hd : y.cls ≠ "java/lang/invoke/MethodHandle" ∧ y.cls ≠ "java/lang/invoke/VarHandle" ∧ (parseMethodDescriptor y.desc).map (fun d => d.parameters.length) = some n) (hR : rm.frames + 1 ≤ R.frames ∧ 8 + (maxL + 11) + rm.locals ≤ R.locals) :
    vx_CSW R s args own index y bytes maxL ret hh ws rm mc ms n := by
  have ok : ∀ w ∈ va_wsS own index y ws, w.before args s = true := fun w h => ht w (hT w h).1
  have hG : GoodIn Ts ws := fun w h => hT w (by unfold va_wsS; exact List.mem_append_right _ h)
  have hc : Cond.codeWith y bytes maxL ret hh ∈ ws := by rw [hw]; exact List.mem_cons_self
  refine ⟨⟨hrc, hrs, hR.1, hR.2, pay_in ht hG, hc⟩, ht _ (hG _ hc).1, ok _ (by simp [va_wsS]), ⟨hd.1, hd.2.1⟩, fun sig h => ?_, ok _ (by simp [va_wsS]), ok _ (by simp [va_wsS])⟩
  have h2 := hd.2.2
  rw [h] at h2
  exact (Option.some.inj h2).symm
theorem vx_callSW (X : Stand p l e R s m args below meth c T locs cells slots) (hexec : p.tables.exec = Jvm.exec) {own : String} {index : Nat} {y : MethodName} {bytes : ByteArray} {maxL : Nat} {ret : Option FieldType} {hh : List (Nat × Nat × Nat × Nat)}
    (hown : s.vm.findClass own = some m.cls) (hlink : (Cond.methodLink own index y).before args s = true) (hstat : (Cond.static y).before args s = true) (hinit : (Cond.initialized y.cls).before args s = true)
    (hcode : (Cond.codeWith y bytes maxL ret hh).before args s = true) (hy : y.cls ≠ "java/lang/invoke/MethodHandle" ∧ y.cls ≠ "java/lang/invoke/VarHandle")
    {W9 : Nat} {Pre : Pt → Array Value → Prop} {Post : Pt → Array Value → Option Value → Pt → Prop} (hK : Back l R p e below s args y 3 W9 Pre Post)
    {g : JFrame} (hg : g.method = m) (hsize : g.locals.size = c.maxLocals) {argsL rest : List Value} (hlen : ∀ sig, parseMethodDescriptor y.desc = some sig → argsL.length = sig.parameters.length)
    (hstack : g.stack = argsL.reverse ++ rest) (hW : 2 * g.monitorRoom + (rest.map fun v => v.category).sum ≤ W9) (hdg : decode c.code g.pc = .ok (.invokestatic index, 3))
    (hpre : ∀ vm₁, s.WarmedH vm₁ → Pre ⟨T.setVm vm₁, locs, cells, slots⟩ argsL.toArray) :
    ∃ (v : Option Value) (vm₁ : Vm) (B : Pt), s.WarmedH vm₁ ∧ Stand p l e R s m args below meth c B.U B.locs B.cells B.slots ∧ Post ⟨T.setVm vm₁, locs, cells, slots⟩ argsL.toArray v B ∧
      ∀ target, Steps p.tables e below (B.U.setTop { g with pc := g.pc + 3, stack := v.toList ++ rest }) target → Steps p.tables e below (T.setTop g) target := by
  obtain ⟨mk, methM, cM, hnamed, hmethM, -, -, -, -, -, -, hsigM⟩ := Cond.codeWith_spec hcode
  have hstatic : methM.isStatic = true := Cond.static_spec hnamed hmethM hstat
  obtain ⟨kP, hkP, -⟩ := className_of_methodNamed hnamed
  have hinitP : kP.init = .initialized := Cond.initialized_spec (findClass_of_methodNamed hnamed) hkP hinit
  obtain ⟨vm₁, X₁, hstep₁⟩ := X.invokestatic hexec hown hlink hnamed hmethM hstatic hkP hinitP hy (g := g) hg (argsL := argsL) (rest := rest) (hlen _ hsigM) hstack hdg
  obtain ⟨v, B, X', hpost, hsteps⟩ := hK m meth c ⟨T.setVm vm₁, locs, cells, slots⟩ { g with stack := rest } (.invokestatic index) mk argsL.toArray X₁ hg hsize hdg hW (X₁.named hnamed) (hpre vm₁ X₁.warmed)
  exact ⟨v, vm₁, B, X₁.warmed, X', hpost, fun target h => hstep₁ _ fun acts => by rw [doInvoke_state]; exact hsteps.trans h⟩
theorem vx_runSW {y : MethodName} {bytes cc : ByteArray} {maxL nL mc ms n index : Nat} {ret : Option FieldType} {hh : List (Nat × Nat × Nat × Nat)} {ws : List Cond} {rm : Room} {Pc : Array Value → State → Prop} {Qc : Array Value → State → Outcome → State → Prop} {free : Addr → Prop} {Ts : List Cond} {own : String} {As rest : List Value} {g : JFrame}
    (S : CallFix p m c cc nL s args Ts own) (hM : Met l y ws rm Pc Qc mc ms free) (cw : vx_CSW R s args own index y bytes maxL ret hh ws rm mc ms n) (hp : PreS s H Pc As)
    (hg : g.method = m) (hn : As.length = n) (hsize : g.locals.size = nL) (hstack : g.stack = As.reverse ++ rest) (hW : 2 * g.monitorRoom + (rest.map fun v => v.category).sum ≤ 8) (hdg : decode cc g.pc = .ok (.invokestatic index, 3)) (hf : cells + mc ≤ R.cells ∧ slots + ms ≤ R.slots) :
    va_Run p l e R s m args below meth c H locs cells slots mc ms g rest (Qc As.toArray) (free) := by
  obtain ⟨⟨hrc, hrs, hfr, hlo, hws, hcw⟩, hcode, hini, hy, hlen, hl, hstt⟩ := cw
  have hK : Back l R p e below s args y 3 8 (PreOf R mc ms Pc) (PostOf Qc mc ms free) := va_backW (hh := hh) (bytes := bytes) (maxL := maxL) (ret := ret) hM hp.1 hrc hrs hfr hlo hws hcw (fun a' U hW => word_at hW (Or.inl (by first | rfl | simp [Cond.onTables, Cond.keeps, Cond.steady])) hini)
  obtain ⟨hx, hb, hml, ho, -⟩ := S
  intro T hT X
  obtain ⟨v, vm₁, ⟨U', l2, c2, s2⟩, hW₁, X', ⟨g', mk, t, L, e1, e2, hq, h1, hL, h2, h3⟩, st⟩ := vx_callSW X hx (hh := hh) (bytes := bytes) (maxL := maxL) (ret := ret) ho hl hstt hini hcode hy hK hg (hsize.trans hml.symm) (argsL := As) (rest := rest) (fun sig h => hn.trans (hlen sig h)) hstack hW (by rw [hb]; exact hdg)
    (fun vm₁ hW₁ => ⟨hf.1, hf.2, hp.2 (T.setVm vm₁) hT hW₁⟩)
  dsimp only [Pt.U, Pt.locs, Pt.cells, Pt.slots] at X' e1 e2 h1 h2 h3 st
  subst h1; subst h2; subst h3
  exact ⟨v, (T.setVm vm₁).calling g' mk As.toArray, t, U', L, hT, X', hL, e1, e2, hq, st⟩
/-- not caught here, past rows that name other classes: it goes on to the caller -/
theorem vx_outP {p : Program} {l : Launch} {e : Env} {R : Room} {s : State} {m : MethodId} {args : Array Value} {below : List Frame} {meth : Method} {c : Code} {H : Heap} {locs : List Loc} {cells slots : Nat} {free : Addr → Prop} {ls : Array Slot} {rest : List Value} {Qc : Array Value → State → Outcome → State → Prop} {XC : String → State → State → Prop}
    {pc : Nat} {own E : String} {ce : Cell} {q : Addr} {mc ms : Nat} (hown : s.vm.findClass own = some m.cls) (hlocks : meth.locks = false)
    (hpass : ∀ z ∈ c.exceptionTable.toList, covers z pc = false ∨ (z.catchType ≠ 0 ∧ ∃ nm : String, (Cond.classLink own z.catchType nm).before args s = true ∧ va_Nc E nm s)) (hcell : H[q]? = some ce) (hv : ce.vm = .none) (hcl : s.vm.findClass E = some ce.cls)
    (hx : ∀ t : State, t.heap = H → s.vm.Alike t.vm → XC E s t) (hf : ∀ z ∈ locs, free z.base) (hc : cells ≤ mc) (hs : slots ≤ ms) :
    vx_W p l e R s m args below meth c H locs cells slots (vx_MQ below Qc XC args s mc ms free) (F0 m pc ls rest) q := by
  intro T hT X
  have hpl : e.platform.magicAccessors = ({} : Platform).magicAccessors := by rw [X.admits.platform]
  obtain ⟨vm', hW', X', st⟩ := X.outThrough hlocks q (g := F0 m pc ls rest) rfl rfl rfl (cell := ce) (by rw [hT]; exact hcell) (by rw [hv]; rfl)
    (by obtain ⟨k9, h9, -⟩ := Vm.findClass_spec hcl; exact ⟨k9, h9⟩) (fun z hz => by
      rcases hpass z hz with h | ⟨hz0, nm, hl1, hn1⟩
      · exact Or.inl h
      · obtain ⟨c6, hc6, hcl6⟩ := Cond.classLink_spec hown hl1 e.platform hpl
        obtain ⟨a8, b8, h1, h2, h3⟩ := hn1
        cases Option.some.inj (h1.symm.trans hcl)
        cases Option.some.inj (h2.symm.trans hc6)
        exact Or.inr ⟨hz0, _, hcl6, h3⟩)
  obtain ⟨g₀, hfr⟩ := X'.frames_eq
  have hcell9 : ((T.setVm vm').setFrames (.throwing q :: below)).heap[q]? = some ce := by
    show T.heap[q]? = some ce
    rw [hT]; exact hcell
  have hend : Ended ((T.setVm vm').setFrames (.throwing q :: below)) below (.threw q) := State.frames_setFrames _ (State.cur_lt_of_frames hfr)
  refine ⟨(T.setVm vm').setFrames (.throwing q :: below), ?_, .threw q, X'.here.running, hend, Or.inr ⟨q, rfl, E, ce, locs, hx _ hT (X'.ends _).1.alike, hcell9, hv, hcl, (X'.ends _).1, (X'.ends _).2.mono hc hs, hf⟩⟩
  rw [X.pushThrowing_eq]
  exact st
/-- a thing of a world lies in the heap -/
theorem vx_lt {D : va_G} {cl : List vw_C} {ws : va_W} {H1 : Heap} (h : va_P D cl ws H1) {k : Nat} {q : Nat × va_E} (hk : ws[k]? = some q) : q.1 < H1.size := (h k q hk).lt
end VXS
/-! ===== END ===== -/
/-! ===== BEGIN methods with a table of their own: called by a name, returning or throwing ===== -/
section VXH
/-! vx_backW, vx_callVX, vx_callSX, vx_callVW, vx_runVW, vx_runVX, vx_runSX, vx_ofWH follow the same proofs as their sisters above (Free/Laws.lean, Shelf42/LK1.lean); vx_outP calls Shelf42/NT130.lean (outThrough). -/
section
variable {l : Launch} {R : Room} {p : Program} {e : Env} {below : List Frame} {s : State} {sargs : Array Value} {y : MethodName} {len W9 : Nat}
theorem vx_backW {ws : List Cond} {rm : Room} {Pc : Array Value → State → Prop} {Qc : Array Value → State → Outcome → State → Prop} {XC : String → State → State → Prop} {mc ms : Nat} {free : Addr → Prop} {bytes : ByteArray} {maxL : Nat} {ret : Option FieldType} {hh : List (Nat × Nat × Nat × Nat)}
    (hM : vx_Met l y ws rm Pc Qc XC mc ms free) (hblind : FrameBlind Pc) (hrc : rm.cells = mc) (hrs : rm.slots = ms)
    (hframes : rm.frames + 1 ≤ R.frames) (hlocals : W9 + (maxL + 11) + rm.locals ≤ R.locals)
    (hws : ∀ w ∈ ws, ∀ a' U, s.WarmedH U.vm → w.before a' U = true) (hcode : Cond.codeWith y bytes maxL ret hh ∈ ws) (hinit : ∀ a' U, s.WarmedH U.vm → (Cond.initialized y.cls).before a' U = true) :
    vx_Back l R p e below s sargs y len W9 (PreOf R mc ms Pc) (PostOf Qc mc ms free) (vx_Post XC mc ms free) := by
  intro m meth c A g ig mk a X hg hsize hdg hW hn hp
  have h1 : (headSpec ws rm).pre.before a A.U = true := atoms_intro fun w hw => hws w hw _ _ X.warmed
  have h2 : (Cond.codeWith y bytes maxL ret hh).before a A.U = true := hws _ hcode _ _ X.warmed
  have h3 : (Cond.initialized y.cls).before a A.U = true := hinit _ _ X.warmed
  have h4 : A.cells + (headSpec ws rm).room.cells ≤ R.cells := by rw [show (headSpec ws rm).room.cells = mc from hrc]; exact hp.1
  have h5 : A.slots + (headSpec ws rm).room.slots ≤ R.slots := by rw [show (headSpec ws rm).room.slots = ms from hrs]; exact hp.2.1
  have hPc : Pc a (A.U.calling g mk a) := hblind _ _ _ _ hp.2.2
  obtain ⟨U, Ls, c0, s0⟩ := A
  dsimp only [Pt.U, Pt.locs, Pt.cells, Pt.slots] at h1 h2 h3 h4 h5 X hn hPc ⊢
  obtain ⟨m9, methY, cY, hn9, hmY, hcY, -, hlY, -⟩ := Cond.codeWith_spec h2
  cases Option.some.inj (hn9.symm.trans hn)
  obtain ⟨kY, hkY, -⟩ := className_of_methodNamed hn
  have hinitY : kY.init = .initialized := Cond.initialized_spec (findClass_of_methodNamed hn) hkY h3
  have h : At U g.method c below := by rw [hg]; exact X.here
  have hlocals9 : W9 + (maxL + 11) + (headSpec ws rm).room.locals ≤ R.locals := hlocals
  have happ : (headSpec ws rm).appliesLoose y e.platform (U.calling g mk a) = true :=
    Spec.appliesLoose_calling (g := g) h hdg hn hkY hinitY
      (X.room_calling (g := g) (R' := (headSpec ws rm).room) hsize hmY hcY hframes (by rw [hlY]; omega) h4 h5) h1
  obtain ⟨mid, hmid⟩ := h.above
  have hfr : (U.setTop g).frames = (.java g :: mid) ++ below := by rw [State.frames_setTop' g h.top, hmid]; rfl
  obtain ⟨o, s₂, hsteps, -, hend, hq⟩ := Steps.callFree hM p X.admits X.cas X.clock (acts := []) hfr happ hPc trivial
  have hq' : vx_Q Qc XC mc ms free a (U.calling g mk a) o s₂ := hq
  rw [State.frames_setTop' g h.top] at hend
  obtain ⟨g₀, hg0⟩ := Option.isSome_iff_exists.mp h.top
  obtain ⟨r, hr⟩ := State.topJava?_eq_some.mp hg0
  have hr' : (({ U with heap := s₂.heap, slotsUsed := s₂.slotsUsed } : State).setVm s₂.vm).frames = .java g₀ :: r := hr
  rcases hq' with ⟨hqc, L, hfe, hL⟩ | ⟨q, rfl, E, ce, L, hx, hce, hcv, hcl, hW₂, hsm, hL⟩
  · obtain ⟨⟨v, rfl⟩, hW₂, e2, q2, q3, q4, q5, q6⟩ := id hfe
    have e3 : s₂ = ({ (U.calling g mk a).setFrames s₂.frames with heap := s₂.heap, slotsUsed := s₂.slotsUsed } : State).setVm s₂.vm := by
      have : s₂ = ({ s₂ with vm := (U.calling g mk a).vm } : State).setVm s₂.vm := rfl
      rw [e2] at this
      exact this
    obtain ⟨c₂, i₂, len₂, hc₂, hd₂, hf₂⟩ := hend
    have hW' : U.WarmedH s₂.vm := hW₂
    have hcc : c₂ = c := by
      have h1 : s₂.code? g.method = U.code? g.method := by
        rw [State.code?_eq, State.code?_eq, hW'.alike.method?]
      exact Option.some.inj (hc₂.symm.trans (h1.trans h.code))
    subst hcc
    have hlen : len₂ = len := by rw [hdg] at hd₂; cases hd₂; rfl
    subst hlen
    have hs₂ : s₂ = (({ U with heap := s₂.heap, slotsUsed := s₂.slotsUsed } : State).setVm s₂.vm).setTop { g with pc := g.pc + len₂, stack := v.toList ++ g.stack } := by
      refine e3.trans ?_
      rw [hf₂, State.calling_eq h.top, State.setFrames_setFrames, State.setTop_of_frames _ hr', hr]
      rfl
    have hsame : U.sameButNew ({ U with heap := s₂.heap, slotsUsed := s₂.slotsUsed } : State) L mc ms := by
      refine ⟨?_, q2, q3, q4, q5, q6⟩
      obtain ⟨t, ht, -⟩ := State.frames_cons hr
      show ({ U with heap := s₂.heap, slotsUsed := s₂.slotsUsed } : State) = { U.setFrames U.frames with heap := s₂.heap, slotsUsed := s₂.slotsUsed }
      rw [State.setFrames_self ht]
    subst hg
    refine Or.inl ⟨v, ⟨(({ U with heap := s₂.heap, slotsUsed := s₂.slotsUsed } : State).setVm s₂.vm), Ls ++ L, c0 + mc, s0 + ms⟩,
      ⟨X.admits, X.cas, X.clock, X.frames, X.room, X.hears, X.method, X.code, (X.here.setHeapUsed s₂.heap s₂.slotsUsed).setVm hW'.alike, X.tail, State.WarmedH.trans X.warmed hW', X.limits, X.bytes, X.same.trans (hsame.setVm s.vm)⟩,
      ⟨g, mk, s₂, L, rfl, rfl, hqc, rfl, hL, rfl, rfl⟩, ?_⟩
    show Steps p.tables e below _ ((({ U with heap := s₂.heap, slotsUsed := s₂.slotsUsed } : State).setVm s₂.vm).setTop { g with pc := g.pc + len₂, stack := v.toList ++ g.stack })
    rw [← hs₂]
    exact hsteps
  · obtain ⟨e2, q2, q3, q4, q5, q6⟩ := id hsm
    have e3 : s₂ = ({ (U.calling g mk a).setFrames s₂.frames with heap := s₂.heap, slotsUsed := s₂.slotsUsed } : State).setVm s₂.vm := by
      have : s₂ = ({ s₂ with vm := (U.calling g mk a).vm } : State).setVm s₂.vm := rfl
      rw [e2] at this
      exact this
    have hf₂ : s₂.frames = .throwing q :: .java g :: U.frames.tail := hend
    have hW' : U.WarmedH s₂.vm := hW₂
    have hs₂ : s₂ = ((({ U with heap := s₂.heap, slotsUsed := s₂.slotsUsed } : State).setVm s₂.vm).setTop g).pushFrame (.throwing q) := by
      refine e3.trans ?_
      rw [hf₂, State.calling_eq h.top, State.setFrames_setFrames, State.pushFrame, State.frames_setTop _ hr', State.setTop_of_frames _ hr', State.setFrames_setFrames, hr]
      rfl
    have hsame : U.sameButNew ({ U with heap := s₂.heap, slotsUsed := s₂.slotsUsed } : State) L mc ms := by
      refine ⟨?_, q2, q3, q4, q5, q6⟩
      obtain ⟨t, ht, -⟩ := State.frames_cons hr
      show ({ U with heap := s₂.heap, slotsUsed := s₂.slotsUsed } : State) = { U.setFrames U.frames with heap := s₂.heap, slotsUsed := s₂.slotsUsed }
      rw [State.setFrames_self ht]
    subst hg
    refine Or.inr ⟨q, ⟨(({ U with heap := s₂.heap, slotsUsed := s₂.slotsUsed } : State).setVm s₂.vm), Ls ++ L, c0 + mc, s0 + ms⟩,
      ⟨X.admits, X.cas, X.clock, X.frames, X.room, X.hears, X.method, X.code, (X.here.setHeapUsed s₂.heap s₂.slotsUsed).setVm hW'.alike, X.tail, State.WarmedH.trans X.warmed hW', X.limits, X.bytes, X.same.trans (hsame.setVm s.vm)⟩,
      ⟨g, mk, s₂, L, E, ce, rfl, rfl, hx, hce, hcv, hcl, rfl, hL, rfl, rfl⟩, ?_⟩
    show Steps p.tables e below _ (((({ U with heap := s₂.heap, slotsUsed := s₂.slotsUsed } : State).setVm s₂.vm).setTop g).pushFrame (.throwing q))
    rw [← hs₂]
    exact hsteps
end
variable {p : Program} {l : Launch} {e : Env} {R : Room} {s : State} {m : MethodId} {args : Array Value} {below : List Frame} {meth : Method} {c : Code} {T : State} {H : Heap} {locs : List Loc} {cells slots : Nat}
theorem vx_callVX (X : Stand p l e R s m args below meth c T locs cells slots) (hexec : p.tables.exec = Jvm.exec) {own C : String} {index : Nat} {y : MethodName} {bytes : ByteArray} {maxL : Nat} {ret : Option FieldType} {hh : List (Nat × Nat × Nat × Nat)}
    (hown : s.vm.findClass own = some m.cls) (hlink : (Cond.methodLink own index y).before args s = true) (hinst : (Cond.instanceMethod y).before args s = true) (hsel : (Cond.selects C y y).before args s = true)
    (hcode : (Cond.codeWith y bytes maxL ret hh).before args s = true) (hy : y.cls ≠ "java/lang/invoke/MethodHandle" ∧ y.cls ≠ "java/lang/invoke/VarHandle")
    {W9 : Nat} {Pre : Pt → Array Value → Prop} {Post : Pt → Array Value → Option Value → Pt → Prop} {PostX : Pt → Array Value → Addr → Pt → Prop} (hK : vx_Back l R p e below s args y 3 W9 Pre Post PostX)
    {b : Addr} {cellB : Cell} (hcell : T.heap[b]? = some cellB) (hobj : cellB.vm.isStatics = false) (hcls : s.vm.findClass C = some cellB.cls)
    {g : JFrame} (hg : g.method = m) (hsize : g.locals.size = c.maxLocals) {argsL rest : List Value} (hlen : ∀ sig, parseMethodDescriptor y.desc = some sig → argsL.length = sig.parameters.length)
    (hstack : g.stack = argsL.reverse ++ .ref b :: rest) (hW : 2 * g.monitorRoom + (rest.map fun v => v.category).sum ≤ W9) (hdg : decode c.code g.pc = .ok (.invokevirtual index, 3))
    (hpre : ∀ vm₁, s.WarmedH vm₁ → Pre ⟨T.setVm vm₁, locs, cells, slots⟩ (Value.ref b :: argsL).toArray) :
    (∃ (v : Option Value) (vm₁ : Vm) (B : Pt), s.WarmedH vm₁ ∧ Stand p l e R s m args below meth c B.U B.locs B.cells B.slots ∧ Post ⟨T.setVm vm₁, locs, cells, slots⟩ (Value.ref b :: argsL).toArray v B ∧
      ∀ target, Steps p.tables e below (B.U.setTop { g with pc := g.pc + 3, stack := v.toList ++ rest }) target → Steps p.tables e below (T.setTop g) target) ∨
    (∃ (q : Addr) (vm₁ : Vm) (B : Pt), s.WarmedH vm₁ ∧ Stand p l e R s m args below meth c B.U B.locs B.cells B.slots ∧ PostX ⟨T.setVm vm₁, locs, cells, slots⟩ (Value.ref b :: argsL).toArray q B ∧
      Steps p.tables e below (T.setTop g) ((B.U.setTop { g with stack := rest }).pushFrame (.throwing q))) := by
  obtain ⟨mk, methM, hnamed, hmethM, hstM, habM⟩ := Cond.instanceMethod_spec hinst
  obtain ⟨m8, methM', cM, hn8, hmethM', -, -, -, -, -, -, hsigM⟩ := Cond.codeWith_spec hcode
  cases Option.some.inj (hn8.symm.trans hnamed)
  cases hmethM.symm.trans hmethM'
  obtain ⟨c2, r2, m2, q1, q2, q3, q4, kP, hkP, hkPi⟩ := Cond.selects_spec hsel
  cases hcls.symm.trans q1
  cases (State.methodFound?_of_named hnamed hy).symm.trans q2
  cases hnamed.symm.trans q3
  have hselP : selectMethod e.platform s.vm cellB.cls mk = .method mk := by rw [Launch.admits_selectMethod X.admits]; exact q4
  obtain ⟨vm₁, X₁, hstep₁⟩ := X.invokevirtual hexec hown hlink hnamed hmethM hstM hkP hkPi hy (a := b) (cell := cellB) hcell
    (fun z h => by rw [h] at hobj; cases hobj) hselP hmethM habM hkP hkPi (g := g) hg (argsL := argsL) (rest := rest) (hlen _ hsigM) hstack hdg
  rcases hK m meth c ⟨T.setVm vm₁, locs, cells, slots⟩ { g with stack := rest } (.invokevirtual index) mk (Value.ref b :: argsL).toArray X₁ hg hsize hdg hW (X₁.named hnamed) (hpre vm₁ X₁.warmed) with ⟨v, B, X', hpost, hsteps⟩ | ⟨q, B, X', hpost, hsteps⟩
  · exact Or.inl ⟨v, vm₁, B, X₁.warmed, X', hpost, fun target h => hstep₁ _ fun acts => by rw [doInvoke_state]; exact hsteps.trans h⟩
  · exact Or.inr ⟨q, vm₁, B, X₁.warmed, X', hpost, hstep₁ _ fun acts => by rw [doInvoke_state]; exact hsteps⟩
theorem vx_callSX (X : Stand p l e R s m args below meth c T locs cells slots) (hexec : p.tables.exec = Jvm.exec) {own : String} {index : Nat} {y : MethodName} {bytes : ByteArray} {maxL : Nat} {ret : Option FieldType} {hh : List (Nat × Nat × Nat × Nat)}
    (hown : s.vm.findClass own = some m.cls) (hlink : (Cond.methodLink own index y).before args s = true) (hstat : (Cond.static y).before args s = true) (hinit : (Cond.initialized y.cls).before args s = true)
    (hcode : (Cond.codeWith y bytes maxL ret hh).before args s = true) (hy : y.cls ≠ "java/lang/invoke/MethodHandle" ∧ y.cls ≠ "java/lang/invoke/VarHandle")
    {W9 : Nat} {Pre : Pt → Array Value → Prop} {Post : Pt → Array Value → Option Value → Pt → Prop} {PostX : Pt → Array Value → Addr → Pt → Prop} (hK : vx_Back l R p e below s args y 3 W9 Pre Post PostX)
    {g : JFrame} (hg : g.method = m) (hsize : g.locals.size = c.maxLocals) {argsL rest : List Value} (hlen : ∀ sig, parseMethodDescriptor y.desc = some sig → argsL.length = sig.parameters.length)
    (hstack : g.stack = argsL.reverse ++ rest) (hW : 2 * g.monitorRoom + (rest.map fun v => v.category).sum ≤ W9) (hdg : decode c.code g.pc = .ok (.invokestatic index, 3))
    (hpre : ∀ vm₁, s.WarmedH vm₁ → Pre ⟨T.setVm vm₁, locs, cells, slots⟩ argsL.toArray) :
    (∃ (v : Option Value) (vm₁ : Vm) (B : Pt), s.WarmedH vm₁ ∧ Stand p l e R s m args below meth c B.U B.locs B.cells B.slots ∧ Post ⟨T.setVm vm₁, locs, cells, slots⟩ argsL.toArray v B ∧
      ∀ target, Steps p.tables e below (B.U.setTop { g with pc := g.pc + 3, stack := v.toList ++ rest }) target → Steps p.tables e below (T.setTop g) target) ∨
    (∃ (q : Addr) (vm₁ : Vm) (B : Pt), s.WarmedH vm₁ ∧ Stand p l e R s m args below meth c B.U B.locs B.cells B.slots ∧ PostX ⟨T.setVm vm₁, locs, cells, slots⟩ argsL.toArray q B ∧
      Steps p.tables e below (T.setTop g) ((B.U.setTop { g with stack := rest }).pushFrame (.throwing q))) := by
  obtain ⟨mk, methM, cM, hnamed, hmethM, -, -, -, -, -, -, hsigM⟩ := Cond.codeWith_spec hcode
  have hstatic : methM.isStatic = true := Cond.static_spec hnamed hmethM hstat
  obtain ⟨kP, hkP, -⟩ := className_of_methodNamed hnamed
  have hinitP : kP.init = .initialized := Cond.initialized_spec (findClass_of_methodNamed hnamed) hkP hinit
  obtain ⟨vm₁, X₁, hstep₁⟩ := X.invokestatic hexec hown hlink hnamed hmethM hstatic hkP hinitP hy (g := g) hg (argsL := argsL) (rest := rest) (hlen _ hsigM) hstack hdg
  rcases hK m meth c ⟨T.setVm vm₁, locs, cells, slots⟩ { g with stack := rest } (.invokestatic index) mk argsL.toArray X₁ hg hsize hdg hW (X₁.named hnamed) (hpre vm₁ X₁.warmed) with ⟨v, B, X', hpost, hsteps⟩ | ⟨q, B, X', hpost, hsteps⟩
  · exact Or.inl ⟨v, vm₁, B, X₁.warmed, X', hpost, fun target h => hstep₁ _ fun acts => by rw [doInvoke_state]; exact hsteps.trans h⟩
  · exact Or.inr ⟨q, vm₁, B, X₁.warmed, X', hpost, hstep₁ _ fun acts => by rw [doInvoke_state]; exact hsteps⟩
theorem vx_callVW (X : Stand p l e R s m args below meth c T locs cells slots) (hexec : p.tables.exec = Jvm.exec) {own C : String} {index : Nat} {y : MethodName} {bytes : ByteArray} {maxL : Nat} {ret : Option FieldType} {hh : List (Nat × Nat × Nat × Nat)}
    (hown : s.vm.findClass own = some m.cls) (hlink : (Cond.methodLink own index y).before args s = true) (hinst : (Cond.instanceMethod y).before args s = true) (hsel : (Cond.selects C y y).before args s = true)
    (hcode : (Cond.codeWith y bytes maxL ret hh).before args s = true) (hy : y.cls ≠ "java/lang/invoke/MethodHandle" ∧ y.cls ≠ "java/lang/invoke/VarHandle")
    {W9 : Nat} {Pre : Pt → Array Value → Prop} {Post : Pt → Array Value → Option Value → Pt → Prop} (hK : Back l R p e below s args y 3 W9 Pre Post)
    {b : Addr} {cellB : Cell} (hcell : T.heap[b]? = some cellB) (hobj : cellB.vm.isStatics = false) (hcls : s.vm.findClass C = some cellB.cls)
    {g : JFrame} (hg : g.method = m) (hsize : g.locals.size = c.maxLocals) {argsL rest : List Value} (hlen : ∀ sig, parseMethodDescriptor y.desc = some sig → argsL.length = sig.parameters.length)
    (hstack : g.stack = argsL.reverse ++ .ref b :: rest) (hW : 2 * g.monitorRoom + (rest.map fun v => v.category).sum ≤ W9) (hdg : decode c.code g.pc = .ok (.invokevirtual index, 3))
    (hpre : ∀ vm₁, s.WarmedH vm₁ → Pre ⟨T.setVm vm₁, locs, cells, slots⟩ (Value.ref b :: argsL).toArray) :
    ∃ (v : Option Value) (vm₁ : Vm) (B : Pt), s.WarmedH vm₁ ∧ Stand p l e R s m args below meth c B.U B.locs B.cells B.slots ∧ Post ⟨T.setVm vm₁, locs, cells, slots⟩ (Value.ref b :: argsL).toArray v B ∧
      ∀ target, Steps p.tables e below (B.U.setTop { g with pc := g.pc + 3, stack := v.toList ++ rest }) target → Steps p.tables e below (T.setTop g) target := by
  obtain ⟨mk, methM, hnamed, hmethM, hstM, habM⟩ := Cond.instanceMethod_spec hinst
  obtain ⟨m8, methM', cM, hn8, hmethM', -, -, -, -, -, -, hsigM⟩ := Cond.codeWith_spec hcode
  cases Option.some.inj (hn8.symm.trans hnamed)
  cases hmethM.symm.trans hmethM'
  obtain ⟨c2, r2, m2, q1, q2, q3, q4, kP, hkP, hkPi⟩ := Cond.selects_spec hsel
  cases hcls.symm.trans q1
  cases (State.methodFound?_of_named hnamed hy).symm.trans q2
  cases hnamed.symm.trans q3
  have hselP : selectMethod e.platform s.vm cellB.cls mk = .method mk := by rw [Launch.admits_selectMethod X.admits]; exact q4
  obtain ⟨vm₁, X₁, hstep₁⟩ := X.invokevirtual hexec hown hlink hnamed hmethM hstM hkP hkPi hy (a := b) (cell := cellB) hcell
    (fun z h => by rw [h] at hobj; cases hobj) hselP hmethM habM hkP hkPi (g := g) hg (argsL := argsL) (rest := rest) (hlen _ hsigM) hstack hdg
  obtain ⟨v, B, X', hpost, hsteps⟩ := hK m meth c ⟨T.setVm vm₁, locs, cells, slots⟩ { g with stack := rest } (.invokevirtual index) mk (Value.ref b :: argsL).toArray X₁ hg hsize hdg hW (X₁.named hnamed) (hpre vm₁ X₁.warmed)
  exact ⟨v, vm₁, B, X₁.warmed, X', hpost, fun target h => hstep₁ _ fun acts => by rw [doInvoke_state]; exact hsteps.trans h⟩
abbrev vx_CVW (R : Room) (s : State) (args : Array Value) (own C : String) (index : Nat) (y : MethodName) (bytes : ByteArray) (maxL : Nat) (ret : Option FieldType) (hh : List (Nat × Nat × Nat × Nat)) (ws : List Cond) (rm : Room) (mc ms n : Nat) : Prop :=
  (rm.cells = mc ∧ rm.slots = ms ∧ rm.frames + 1 ≤ R.frames ∧ 8 + (maxL + 11) + rm.locals ≤ R.locals ∧ (∀ w ∈ ws, ∀ (a' : Array Value) (U : State), s.WarmedH U.vm → w.before a' U = true) ∧ Cond.codeWith y bytes maxL ret hh ∈ ws) ∧
  (Cond.codeWith y bytes maxL ret hh).before args s = true ∧ (Cond.initialized y.cls).before args s = true ∧ (y.cls ≠ "java/lang/invoke/MethodHandle" ∧ y.cls ≠ "java/lang/invoke/VarHandle") ∧
  (∀ sig, parseMethodDescriptor y.desc = some sig → n = sig.parameters.length) ∧ (Cond.methodLink own index y).before args s = true ∧ (Cond.instanceMethod y).before args s = true ∧ (Cond.selects C y y).before args s = true
theorem vx_cwVW {own C : String} {index maxL mc ms : Nat} {y : MethodName} {bytes : ByteArray} {ret : Option FieldType} {hh : List (Nat × Nat × Nat × Nat)} {Ts ws ws' : List Cond} {rm : Room} (n : Nat) (ht : ∀ w ∈ Ts, w.before args s = true) (hT : GoodIn Ts (wsV own index C y ws)) (hw : ws = Cond.codeWith y bytes maxL ret hh :: ws') (hrc : rm.cells = mc) (hrs : rm.slots = ms)
    (hd : y.cls = C ∧ y.cls ≠ "java/lang/invoke/MethodHandle" ∧ y.cls ≠ "java/lang/invoke/VarHandle" ∧ (parseMethodDescriptor y.desc).map (fun d => d.parameters.length) = some n) (hR : rm.frames + 1 ≤ R.frames ∧ 8 + (maxL + 11) + rm.locals ≤ R.locals) :
    vx_CVW R s args own C index y bytes maxL ret hh ws rm mc ms n := by
  obtain ⟨hC, hd⟩ := hd
  subst hC
  have ok : ∀ w ∈ wsV own index y.cls y ws, w.before args s = true := fun w h => ht w (hT w h).1
  have hG : GoodIn Ts ws := fun w h => hT w (by unfold wsV; exact List.mem_append_right _ h)
  have hc : Cond.codeWith y bytes maxL ret hh ∈ ws := by rw [hw]; exact List.mem_cons_self
  refine ⟨⟨hrc, hrs, hR.1, hR.2, pay_in ht hG, hc⟩, ht _ (hG _ hc).1, ok _ (by simp [wsV]), ⟨hd.1, hd.2.1⟩, fun sig h => ?_, ok _ (by simp [wsV]), ok _ (by simp [wsV]), ok _ (by simp [wsV])⟩
  have h2 := hd.2.2
  rw [h] at h2
  exact (Option.some.inj h2).symm
theorem vx_runVW {y : MethodName} {bytes cc : ByteArray} {maxL nL mc ms n index : Nat} {ret : Option FieldType} {hh : List (Nat × Nat × Nat × Nat)} {ws : List Cond} {rm : Room} {Pc : Array Value → State → Prop} {Qc : Array Value → State → Outcome → State → Prop} {free : Addr → Prop} {Ts : List Cond} {own C : String} {b : Addr} {As rest : List Value} {g : JFrame}
    (S : CallFix p m c cc nL s args Ts own) (hM : Met l y ws rm Pc Qc mc ms free) (cw : vx_CVW R s args own C index y bytes maxL ret hh ws rm mc ms n) (hp : PreV s H C b Pc As)
    (hg : g.method = m) (hn : As.length = n) (hsize : g.locals.size = nL) (hstack : g.stack = As.reverse ++ .ref b :: rest) (hW : 2 * g.monitorRoom + (rest.map fun v => v.category).sum ≤ 8) (hdg : decode cc g.pc = .ok (.invokevirtual index, 3)) (hf : cells + mc ≤ R.cells ∧ slots + ms ≤ R.slots) :
    va_Run p l e R s m args below meth c H locs cells slots mc ms g rest (Qc (Value.ref b :: As).toArray) free := by
  obtain ⟨⟨hrc, hrs, hfr, hlo, hws, hcw⟩, hcode, hini, hy, hlen, hl, hin, hse⟩ := cw
  have hK : Back l R p e below s args y 3 8 (PreOf R mc ms Pc) (PostOf Qc mc ms free) := va_backW (hh := hh) (bytes := bytes) (maxL := maxL) (ret := ret) hM hp.1 hrc hrs hfr hlo hws hcw (fun a' U hW => word_at hW (Or.inl (by first | rfl | simp [Cond.onTables, Cond.keeps, Cond.steady])) hini)
  obtain ⟨hx, hb, hml, ho, -⟩ := S
  obtain ⟨-, ⟨cellB, hcB, hoB, hclB⟩, hPc⟩ := hp
  intro T hT X
  obtain ⟨v, vm₁, ⟨U', l2, c2, s2⟩, hW₁, X', ⟨g', mk, t, L, e1, e2, hq, h1, hL, h2, h3⟩, st⟩ := vx_callVW X hx (C := C) (hh := hh) (bytes := bytes) (maxL := maxL) (ret := ret) ho hl hin hse hcode hy hK (by rw [hT]; exact hcB) hoB hclB hg (hsize.trans hml.symm) (argsL := As) (rest := rest) (fun sig h => hn.trans (hlen sig h)) hstack hW (by rw [hb]; exact hdg)
    (fun vm₁ hW₁ => ⟨hf.1, hf.2, hPc (T.setVm vm₁) hT hW₁⟩)
  dsimp only [Pt.U, Pt.locs, Pt.cells, Pt.slots] at X' e1 e2 h1 h2 h3 st
  subst h1; subst h2; subst h3
  exact ⟨v, (T.setVm vm₁).calling g' mk (Value.ref b :: As).toArray, t, U', L, hT, X', hL, e1, e2, hq, st⟩
section
variable {y : MethodName} {bytes cc : ByteArray} {maxL nL mc ms n index : Nat} {ret : Option FieldType} {ws : List Cond} {rm : Room} {Pc : Array Value → State → Prop} {Qc : Array Value → State → Outcome → State → Prop} {XC : String → State → State → Prop} {free : Addr → Prop} {Ts : List Cond} {own C : String} {b : Addr} {As rest : List Value} {g : JFrame}
theorem vx_runVX {hh : List (Nat × Nat × Nat × Nat)} (S : CallFix p m c cc nL s args Ts own) (hM : vx_Met l y ws rm Pc Qc XC mc ms free) (cw : vx_CVW R s args own C index y bytes maxL ret hh ws rm mc ms n) (hp : PreV s H C b Pc As)
    (hg : g.method = m) (hn : As.length = n) (hsize : g.locals.size = nL) (hstack : g.stack = As.reverse ++ .ref b :: rest) (hW : 2 * g.monitorRoom + (rest.map fun v => v.category).sum ≤ 8) (hdg : decode cc g.pc = .ok (.invokevirtual index, 3)) (hf : cells + mc ≤ R.cells ∧ slots + ms ≤ R.slots) :
    vx_Run p l e R s m args below meth c H locs cells slots mc ms g rest (Qc (Value.ref b :: As).toArray) XC free := by
  obtain ⟨⟨hrc, hrs, hfr, hlo, hws, hcw⟩, hcode, hini, hy, hlen, hl, hin, hse⟩ := cw
  have hK : vx_Back l R p e below s args y 3 8 (PreOf R mc ms Pc) (PostOf Qc mc ms free) (vx_Post XC mc ms free) := vx_backW (hh := hh) (bytes := bytes) (maxL := maxL) (ret := ret) hM hp.1 hrc hrs hfr hlo hws hcw (fun a' U hW => word_at hW (Or.inl (by first | rfl | simp [Cond.onTables, Cond.keeps, Cond.steady])) hini)
  obtain ⟨hx, hb, hml, ho, -⟩ := S
  obtain ⟨-, ⟨cellB, hcB, hoB, hclB⟩, hPc⟩ := hp
  intro T hT X
  rcases vx_callVX X hx (C := C) (hh := hh) (bytes := bytes) (maxL := maxL) (ret := ret) ho hl hin hse hcode hy hK (by rw [hT]; exact hcB) hoB hclB hg (hsize.trans hml.symm) (argsL := As) (rest := rest) (fun sig h => hn.trans (hlen sig h)) hstack hW (by rw [hb]; exact hdg)
    (fun vm₁ hW₁ => ⟨hf.1, hf.2, hPc (T.setVm vm₁) hT hW₁⟩) with ⟨v, vm₁, ⟨U', l2, c2, s2⟩, hW₁, X', ⟨g', mk, t, L, e1, e2, hq, h1, hL, h2, h3⟩, st⟩ | ⟨q, vm₁, ⟨U', l2, c2, s2⟩, hW₁, X', ⟨g', mk, t, L, E, ce, e1, e2, hq, hce, hcv, hcl, h1, hL, h2, h3⟩, st⟩
  · dsimp only [Pt.U, Pt.locs, Pt.cells, Pt.slots] at X' e1 e2 h1 h2 h3 st
    subst h1; subst h2; subst h3
    exact Or.inl ⟨v, (T.setVm vm₁).calling g' mk (Value.ref b :: As).toArray, t, U', L, hT, X', hL, e1, e2, hq, st⟩
  · dsimp only [Pt.U, Pt.locs, Pt.cells, Pt.slots] at X' e1 e2 h1 h2 h3 st hcl
    subst h1; subst h2; subst h3
    exact Or.inr ⟨q, (T.setVm vm₁).calling g' mk (Value.ref b :: As).toArray, t, U', L, E, ce, hT, X', hL, e1, e2, hq, hce, hcv, vx_cls hW₁ hcl, st⟩
theorem vx_runSX {hh : List (Nat × Nat × Nat × Nat)} (S : CallFix p m c cc nL s args Ts own) (hM : vx_Met l y ws rm Pc Qc XC mc ms free) (cw : vx_CSW R s args own index y bytes maxL ret hh ws rm mc ms n) (hp : PreS s H Pc As)
    (hg : g.method = m) (hn : As.length = n) (hsize : g.locals.size = nL) (hstack : g.stack = As.reverse ++ rest) (hW : 2 * g.monitorRoom + (rest.map fun v => v.category).sum ≤ 8) (hdg : decode cc g.pc = .ok (.invokestatic index, 3)) (hf : cells + mc ≤ R.cells ∧ slots + ms ≤ R.slots) :
    vx_Run p l e R s m args below meth c H locs cells slots mc ms g rest (Qc As.toArray) XC free := by
  obtain ⟨⟨hrc, hrs, hfr, hlo, hws, hcw⟩, hcode, hini, hy, hlen, hl, hstt⟩ := cw
  have hK : vx_Back l R p e below s args y 3 8 (PreOf R mc ms Pc) (PostOf Qc mc ms free) (vx_Post XC mc ms free) := vx_backW (hh := hh) (bytes := bytes) (maxL := maxL) (ret := ret) hM hp.1 hrc hrs hfr hlo hws hcw (fun a' U hW => word_at hW (Or.inl (by first | rfl | simp [Cond.onTables, Cond.keeps, Cond.steady])) hini)
  obtain ⟨hx, hb, hml, ho, -⟩ := S
  intro T hT X
  rcases vx_callSX X hx (hh := hh) (bytes := bytes) (maxL := maxL) (ret := ret) ho hl hstt hini hcode hy hK hg (hsize.trans hml.symm) (argsL := As) (rest := rest) (fun sig h => hn.trans (hlen sig h)) hstack hW (by rw [hb]; exact hdg)
    (fun vm₁ hW₁ => ⟨hf.1, hf.2, hp.2 (T.setVm vm₁) hT hW₁⟩) with ⟨v, vm₁, ⟨U', l2, c2, s2⟩, hW₁, X', ⟨g', mk, t, L, e1, e2, hq, h1, hL, h2, h3⟩, st⟩ | ⟨q, vm₁, ⟨U', l2, c2, s2⟩, hW₁, X', ⟨g', mk, t, L, E, ce, e1, e2, hq, hce, hcv, hcl, h1, hL, h2, h3⟩, st⟩
  · dsimp only [Pt.U, Pt.locs, Pt.cells, Pt.slots] at X' e1 e2 h1 h2 h3 st
    subst h1; subst h2; subst h3
    exact Or.inl ⟨v, (T.setVm vm₁).calling g' mk As.toArray, t, U', L, hT, X', hL, e1, e2, hq, st⟩
  · dsimp only [Pt.U, Pt.locs, Pt.cells, Pt.slots] at X' e1 e2 h1 h2 h3 st hcl
    subst h1; subst h2; subst h3
    exact Or.inr ⟨q, (T.setVm vm₁).calling g' mk As.toArray, t, U', L, E, ce, hT, X', hL, e1, e2, hq, hce, hcv, vx_cls hW₁ hcl, st⟩
end
end VXH
theorem vx_ofWH {l : Launch} {y : MethodName} {ws ws' : List Cond} {rm : Room} {Pc : Array Value → State → Prop} {Qc : Array Value → State → Outcome → State → Prop} {XC : String → State → State → Prop} {mc ms : Nat} {free : Addr → Prop} {cc : ByteArray} {maxL : Nat} {ret : Option FieldType} {hh : List (Nat × Nat × Nat × Nat)}
    (hy : plainName y.cls = true) (hw : ws = Cond.codeWith y cc maxL ret hh :: ws')
    (body : ∀ p e s m args below meth c s₁, BodyLoose p l y (headSpec ws rm) cc maxL ret e s m args below meth c s₁ → c.maxLocals = maxL → Pc args s →
      W p l e (headSpec ws rm).room s m args below meth c s.heap [] 0 0 (vx_MQ below Qc XC args s mc ms free) (entryFrame m args maxL)) : vx_Met l y ws rm Pc Qc XC mc ms free := by
  refine MetFree.of_bodyS (code := cc) (maxLocals := maxL) (ret := ret) hy ?_ ?_
  · intro args s m h hn
    obtain ⟨m9, meth, c, hn9, h1, h2, h3, h4, -, h5, h6, -⟩ := Cond.codeWith_spec (atoms_spec (ws := ws) h _ (by rw [hw]; exact List.mem_cons_self))
    cases hn.symm.trans hn9
    exact ⟨meth, c, h1, h2, h3, h4, h5, h6⟩
  · intro p e s m args below meth c s₁ B hml hP _
    have hh0 : s₁.heap = s.heap := by rw [B.state]; rfl
    obtain ⟨t, a1, o, b1, b2, b3⟩ := body p e s m args below meth c s₁ B hml hP s₁ hh0 (Stand.of_body B)
    exact ⟨t, o, a1, b1, b2, b3⟩
/-! ===== END ===== -/
end
section
def RX0 : String := "ReelScreens$Festival"
def TX0 : u_T := fun k => match k with
  | 0 => ("ReelScreens$Festival", "films", "LReelScreens$Table;", true)
  | 1 => ("ReelScreens$Festival", "screens", "LReelScreens$Table;", true)
  | 2 => ("ReelScreens$Festival", "settings", "LReelScreens$Table;", true)
  | 3 => ("ReelScreens$Festival", "showings", "LReelScreens$Table;", true)
  | 4 => ("ReelScreens$Festival", "guests", "LReelScreens$Table;", true)
  | 5 => ("ReelScreens$Festival", "jurors", "LReelScreens$Table;", true)
  | 6 => ("ReelScreens$Festival", "calledOff", "I", false)
  | 7 => ("ReelScreens$Festival", "stopPart", "I", false)
  | 8 => ("ReelScreens$Festival", "stopReason", "I", false)
  | _ => ("ReelScreens$Festival", "stopShowing", "I", false)
def tyX0 : Nat → FieldType := fun k => match k with
  | 0 => .object "ReelScreens$Table"
  | 1 => .object "ReelScreens$Table"
  | 2 => .object "ReelScreens$Table"
  | 3 => .object "ReelScreens$Table"
  | 4 => .object "ReelScreens$Table"
  | 5 => .object "ReelScreens$Table"
  | 6 => .int
  | 7 => .int
  | 8 => .int
  | _ => .int
abbrev wsX00 : List Cond := u_ws RX0 TX0 10
theorem nmX0 : ∀ a, a < 10 → ∀ b, b < 10 → a ≠ b → (TX0 a).2.1 ≠ (TX0 b).2.1 := by decide +kernel
theorem tyX0_ok : ∀ k, k < 10 → parseFieldDescriptor (TX0 k).2.2.1 = some (tyX0 k) := by decide +kernel
abbrev cX0_init : ByteArray := prog_2_method_1_code
def yX0_init : MethodName := ⟨RX0, "<init>", "()V"⟩
abbrev cX0_take : ByteArray := prog_2_method_2_code
def yX0_take : MethodName := ⟨RX0, "take", "(LReelScreens$Festival;)V"⟩
abbrev cX0_addFilm : ByteArray := prog_2_method_3_code
def yX0_addFilm : MethodName := ⟨RX0, "addFilm", "(II)I"⟩
abbrev cX0_addShowing : ByteArray := prog_2_method_4_code
def yX0_addShowing : MethodName := ⟨RX0, "addShowing", "(IIII)I"⟩
abbrev cX0_addGuest : ByteArray := prog_2_method_5_code
def yX0_addGuest : MethodName := ⟨RX0, "addGuest", "(III)I"⟩
abbrev cX0_dropShowing : ByteArray := prog_2_method_6_code
def yX0_dropShowing : MethodName := ⟨RX0, "dropShowing", "(I)I"⟩
abbrev cX0_shift : ByteArray := prog_2_method_7_code
def yX0_shift : MethodName := ⟨RX0, "shift", "(II)I"⟩
abbrev cX0_addGoer : ByteArray := prog_2_method_8_code
def yX0_addGoer : MethodName := ⟨RX0, "addGoer", "(II)I"⟩
abbrev cX0_goes : ByteArray := prog_2_method_9_code
def yX0_goes : MethodName := ⟨RX0, "goes", "(II)Z"⟩
abbrev cX0_canGo : ByteArray := prog_2_method_10_code
def yX0_canGo : MethodName := ⟨RX0, "canGo", "(II)Z"⟩
abbrev cX0_lengthOf : ByteArray := prog_2_method_11_code
def yX0_lengthOf : MethodName := ⟨RX0, "lengthOf", "(I)I"⟩
abbrev cX0_endOf : ByteArray := prog_2_method_12_code
def yX0_endOf : MethodName := ⟨RX0, "endOf", "(I)I"⟩
abbrev cX0_reelBegin : ByteArray := prog_2_method_13_code
def yX0_reelBegin : MethodName := ⟨RX0, "reelBegin", "(II)I"⟩
abbrev cX0_beginIn : ByteArray := prog_2_method_14_code
def yX0_beginIn : MethodName := ⟨RX0, "beginIn", "(IIIII)I"⟩
abbrev cX0_areTooClose : ByteArray := prog_2_method_15_code
def yX0_areTooClose : MethodName := ⟨RX0, "areTooClose", "(IIIII)Z"⟩
abbrev cX0_refusal : ByteArray := prog_2_method_16_code
def yX0_refusal : MethodName := ⟨RX0, "refusal", "(IIII)I"⟩
abbrev cX0_refusalBeside : ByteArray := prog_2_method_17_code
def yX0_refusalBeside : MethodName := ⟨RX0, "refusalBeside", "(IIIII)I"⟩
abbrev cX0_inWay : ByteArray := prog_2_method_18_code
def yX0_inWay : MethodName := ⟨RX0, "inWay", "(IIIII)I"⟩
abbrev cX0_takingScreen : ByteArray := prog_2_method_19_code
def yX0_takingScreen : MethodName := ⟨RX0, "takingScreen", "(IIII)I"⟩
abbrev cX0_takingReel : ByteArray := prog_2_method_20_code
def yX0_takingReel : MethodName := ⟨RX0, "takingReel", "(IIIII)I"⟩
abbrev cX0_clashingReel : ByteArray := prog_2_method_21_code
def yX0_clashingReel : MethodName := ⟨RX0, "clashingReel", "(IIII)I"⟩
abbrev cX0_nextFrom : ByteArray := prog_2_method_22_code
def yX0_nextFrom : MethodName := ⟨RX0, "nextFrom", "(III)I"⟩
abbrev cX0_bestFrom : ByteArray := prog_2_method_23_code
def yX0_bestFrom : MethodName := ⟨RX0, "bestFrom", "(II)I"⟩
abbrev cX0_moreGreeters : ByteArray := prog_2_method_24_code
def yX0_moreGreeters : MethodName := ⟨RX0, "moreGreeters", "(III)I"⟩
abbrev cX0_fits : ByteArray := prog_2_method_25_code
def yX0_fits : MethodName := ⟨RX0, "fits", "(II)Z"⟩
abbrev cX0_greetedBy : ByteArray := prog_2_method_26_code
def yX0_greetedBy : MethodName := ⟨RX0, "greetedBy", "(I)I"⟩
abbrev cX0_greeters : ByteArray := prog_2_method_27_code
def yX0_greeters : MethodName := ⟨RX0, "greeters", "()I"⟩
abbrev cX0_allSeats : ByteArray := prog_2_method_28_code
def yX0_allSeats : MethodName := ⟨RX0, "allSeats", "()I"⟩
abbrev cX0_seenBy : ByteArray := prog_2_method_29_code
def yX0_seenBy : MethodName := ⟨RX0, "seenBy", "(I)I"⟩
abbrev cX0_pointsOf : ByteArray := prog_2_method_30_code
def yX0_pointsOf : MethodName := ⟨RX0, "pointsOf", "(I)I"⟩
abbrev cX0_prize : ByteArray := prog_2_method_31_code
def yX0_prize : MethodName := ⟨RX0, "prize", "()I"⟩
abbrev cX0_filmNumber : ByteArray := prog_2_method_32_code
def yX0_filmNumber : MethodName := ⟨RX0, "filmNumber", "(II)I"⟩
abbrev cX0_showingsWith : ByteArray := prog_2_method_33_code
def yX0_showingsWith : MethodName := ⟨RX0, "showingsWith", "(II)I"⟩
abbrev cX0_seatsFor : ByteArray := prog_2_method_34_code
def yX0_seatsFor : MethodName := ⟨RX0, "seatsFor", "(I)I"⟩
abbrev cX0_showingNumber : ByteArray := prog_2_method_35_code
def yX0_showingNumber : MethodName := ⟨RX0, "showingNumber", "(II)I"⟩
abbrev cX0_runningOn : ByteArray := prog_2_method_36_code
def yX0_runningOn : MethodName := ⟨RX0, "runningOn", "(II)I"⟩
abbrev cX0_reelAt : ByteArray := prog_2_method_37_code
def yX0_reelAt : MethodName := ⟨RX0, "reelAt", "(II)I"⟩
abbrev cX0_screenNumber : ByteArray := prog_2_method_38_code
def yX0_screenNumber : MethodName := ⟨RX0, "screenNumber", "(II)I"⟩
abbrev cX0_reckonedMinutes : ByteArray := prog_2_method_39_code
def yX0_reckonedMinutes : MethodName := ⟨RX0, "reckonedMinutes", "(I)I"⟩
abbrev cX0_countedMinutes : ByteArray := prog_2_method_40_code
def yX0_countedMinutes : MethodName := ⟨RX0, "countedMinutes", "(I)I"⟩
abbrev cX0_lastEnd : ByteArray := prog_2_method_41_code
def yX0_lastEnd : MethodName := ⟨RX0, "lastEnd", "(I)I"⟩
abbrev cX0_share : ByteArray := prog_2_method_42_code
def yX0_share : MethodName := ⟨RX0, "share", "(I)D"⟩
abbrev cX0_guestNumber : ByteArray := prog_2_method_43_code
def yX0_guestNumber : MethodName := ⟨RX0, "guestNumber", "(II)I"⟩
abbrev cX0_jurorNumber : ByteArray := prog_2_method_44_code
def yX0_jurorNumber : MethodName := ⟨RX0, "jurorNumber", "(II)I"⟩
abbrev cX0_visitsOf : ByteArray := prog_2_method_45_code
def yX0_visitsOf : MethodName := ⟨RX0, "visitsOf", "(I)I"⟩
abbrev cX0_seenMask : ByteArray := prog_2_method_46_code
def yX0_seenMask : MethodName := ⟨RX0, "seenMask", "(I)I"⟩
abbrev cX0_pointsFrom : ByteArray := prog_2_method_47_code
def yX0_pointsFrom : MethodName := ⟨RX0, "pointsFrom", "(I)I"⟩
abbrev cX0_setStop : ByteArray := prog_2_method_48_code
def yX0_setStop : MethodName := ⟨RX0, "setStop", "(III)V"⟩
abbrev cX0_stopNumber : ByteArray := prog_2_method_49_code
def yX0_stopNumber : MethodName := ⟨RX0, "stopNumber", "(I)I"⟩
def RX1 : String := "ReelScreens$Reader"
def TX1 : u_T := fun k => match k with
  | 0 => ("ReelScreens$Reader", "film", "I", false)
  | 1 => ("ReelScreens$Reader", "screen", "I", false)
  | 2 => ("ReelScreens$Reader", "start", "I", false)
  | 3 => ("ReelScreens$Reader", "pause", "I", false)
  | _ => ("ReelScreens$Reader", "place", "I", false)
def tyX1 : Nat → FieldType := fun k => match k with
  | 0 => .int
  | 1 => .int
  | 2 => .int
  | 3 => .int
  | _ => .int
abbrev wsX10 : List Cond := u_ws RX1 TX1 5
theorem nmX1 : ∀ a, a < 5 → ∀ b, b < 5 → a ≠ b → (TX1 a).2.1 ≠ (TX1 b).2.1 := by decide +kernel
theorem tyX1_ok : ∀ k, k < 5 → parseFieldDescriptor (TX1 k).2.2.1 = some (tyX1 k) := by decide +kernel
abbrev cX1_init : ByteArray := prog_3_method_1_code
def yX1_init : MethodName := ⟨RX1, "<init>", "()V"⟩
abbrev cX1_startPart : ByteArray := prog_3_method_2_code
def yX1_startPart : MethodName := ⟨RX1, "startPart", "()V"⟩
abbrev cX1_isBehindPart : ByteArray := prog_3_method_3_code
def yX1_isBehindPart : MethodName := ⟨RX1, "isBehindPart", "()Z"⟩
abbrev cX1_takeCode : ByteArray := prog_3_method_4_code
def yX1_takeCode : MethodName := ⟨RX1, "takeCode", "(I)Z"⟩
abbrev cX1_advance : ByteArray := prog_3_method_5_code
def yX1_advance : MethodName := ⟨RX1, "advance", "(ZI)Z"⟩
abbrev cX1_takeBehindStart : ByteArray := prog_3_method_6_code
def yX1_takeBehindStart : MethodName := ⟨RX1, "takeBehindStart", "(II)Z"⟩
abbrev cX1_takeBehindPause : ByteArray := prog_3_method_7_code
def yX1_takeBehindPause : MethodName := ⟨RX1, "takeBehindPause", "(II)Z"⟩
abbrev cX1_isLonger : ByteArray := prog_3_method_8_code
def yX1_isLonger : MethodName := ⟨RX1, "isLonger", "(III)Z"⟩
def RX2 : String := "ReelScreens$Table"
def TX2 : u_T := fun k => match k with
  | 0 => ("ReelScreens$Table", "columns", "I", true)
  | 1 => ("ReelScreens$Table", "cells", "[I", true)
  | _ => ("ReelScreens$Table", "rows", "I", false)
def tyX2 : Nat → FieldType := fun k => match k with
  | 0 => .int
  | 1 => .array .int
  | _ => .int
abbrev wsX20 : List Cond := u_ws RX2 TX2 3
theorem nmX2 : ∀ a, a < 3 → ∀ b, b < 3 → a ≠ b → (TX2 a).2.1 ≠ (TX2 b).2.1 := by decide +kernel
theorem tyX2_ok : ∀ k, k < 3 → parseFieldDescriptor (TX2 k).2.2.1 = some (tyX2 k) := by decide +kernel
abbrev cX2_init : ByteArray := prog_4_method_1_code
def yX2_init : MethodName := ⟨RX2, "<init>", "(II)V"⟩
abbrev cX2_at : ByteArray := prog_4_method_2_code
def yX2_at : MethodName := ⟨RX2, "at", "(II)I"⟩
abbrev cX2_put : ByteArray := prog_4_method_3_code
def yX2_put : MethodName := ⟨RX2, "put", "(III)V"⟩
abbrev cX2_exchange : ByteArray := prog_4_method_4_code
def yX2_exchange : MethodName := ⟨RX2, "exchange", "(III)I"⟩
abbrev cX2_addRow : ByteArray := prog_4_method_5_code
def yX2_addRow : MethodName := ⟨RX2, "addRow", "()I"⟩
abbrev cX2_dropRow : ByteArray := prog_4_method_6_code
def yX2_dropRow : MethodName := ⟨RX2, "dropRow", "(I)V"⟩
abbrev cX2_takeRows : ByteArray := prog_4_method_7_code
def yX2_takeRows : MethodName := ⟨RX2, "takeRows", "(LReelScreens$Table;)V"⟩
def RX3 : String := "ReelScreens"
def TX3 : u_T := fun k => match k with
  | 0 => ("ReelScreens", "now", "LReelScreens$Festival;", true)
  | 1 => ("ReelScreens", "kept", "LReelScreens$Festival;", true)
  | 2 => ("ReelScreens", "saved", "[LReelScreens$Festival;", true)
  | 3 => ("ReelScreens", "reader", "LReelScreens$Reader;", true)
  | 4 => ("ReelScreens", "codes", "[I", true)
  | 5 => ("ReelScreens", "hasKept", "Z", false)
  | 6 => ("ReelScreens", "savedStates", "I", false)
  | _ => ("ReelScreens", "codesUsed", "I", false)
def tyX3 : Nat → FieldType := fun k => match k with
  | 0 => .object "ReelScreens$Festival"
  | 1 => .object "ReelScreens$Festival"
  | 2 => .array (.object "ReelScreens$Festival")
  | 3 => .object "ReelScreens$Reader"
  | 4 => .array .int
  | 5 => .boolean
  | 6 => .int
  | _ => .int
abbrev wsX30 : List Cond := u_ws RX3 TX3 8
theorem nmX3 : ∀ a, a < 8 → ∀ b, b < 8 → a ≠ b → (TX3 a).2.1 ≠ (TX3 b).2.1 := by decide +kernel
theorem tyX3_ok : ∀ k, k < 8 → parseFieldDescriptor (TX3 k).2.2.1 = some (tyX3 k) := by decide +kernel
abbrev cX3_init : ByteArray := prog_1_method_1_code
def yX3_init : MethodName := ⟨RX3, "<init>", "()V"⟩
abbrev cX3_film : ByteArray := prog_1_method_2_code
def yX3_film : MethodName := ⟨RX3, "film", "(II)I"⟩
abbrev cX3_seats : ByteArray := prog_1_method_3_code
def yX3_seats : MethodName := ⟨RX3, "seats", "(II)I"⟩
abbrev cX3_set : ByteArray := prog_1_method_4_code
def yX3_set : MethodName := ⟨RX3, "set", "(II)I"⟩
abbrev cX3_show : ByteArray := prog_1_method_5_code
def yX3_show : MethodName := ⟨RX3, "show", "(IIII)I"⟩
abbrev cX3_callOff : ByteArray := prog_1_method_6_code
def yX3_callOff : MethodName := ⟨RX3, "callOff", "(I)I"⟩
abbrev cX3_move : ByteArray := prog_1_method_7_code
def yX3_move : MethodName := ⟨RX3, "move", "(II)I"⟩
abbrev cX3_guest : ByteArray := prog_1_method_8_code
def yX3_guest : MethodName := ⟨RX3, "guest", "(III)I"⟩
abbrev cX3_attend : ByteArray := prog_1_method_9_code
def yX3_attend : MethodName := ⟨RX3, "attend", "(II)I"⟩
abbrev cX3_vote : ByteArray := prog_1_method_10_code
def yX3_vote : MethodName := ⟨RX3, "vote", "(III)I"⟩
abbrev cX3_append : ByteArray := prog_1_method_11_code
def yX3_append : MethodName := ⟨RX3, "append", "(I)I"⟩
abbrev cX3_clearBuffer : ByteArray := prog_1_method_12_code
def yX3_clearBuffer : MethodName := ⟨RX3, "clearBuffer", "()I"⟩
abbrev cX3_firstError : ByteArray := prog_1_method_13_code
def yX3_firstError : MethodName := ⟨RX3, "firstError", "()I"⟩
abbrev cX3_program : ByteArray := prog_1_method_14_code
def yX3_program : MethodName := ⟨RX3, "program", "()I"⟩
abbrev cX3_stopped : ByteArray := prog_1_method_15_code
def yX3_stopped : MethodName := ⟨RX3, "stopped", "(I)I"⟩
abbrev cX3_undo : ByteArray := prog_1_method_16_code
def yX3_undo : MethodName := ⟨RX3, "undo", "()I"⟩
abbrev cX3_keep : ByteArray := prog_1_method_17_code
def yX3_keep : MethodName := ⟨RX3, "keep", "()I"⟩
abbrev cX3_restore : ByteArray := prog_1_method_18_code
def yX3_restore : MethodName := ⟨RX3, "restore", "()I"⟩
abbrev cX3_filmOf : ByteArray := prog_1_method_19_code
def yX3_filmOf : MethodName := ⟨RX3, "filmOf", "(II)I"⟩
abbrev cX3_showing : ByteArray := prog_1_method_20_code
def yX3_showing : MethodName := ⟨RX3, "showing", "(II)I"⟩
abbrev cX3_reel : ByteArray := prog_1_method_21_code
def yX3_reel : MethodName := ⟨RX3, "reel", "(II)I"⟩
abbrev cX3_runs : ByteArray := prog_1_method_22_code
def yX3_runs : MethodName := ⟨RX3, "runs", "(II)I"⟩
abbrev cX3_screen : ByteArray := prog_1_method_23_code
def yX3_screen : MethodName := ⟨RX3, "screen", "(II)I"⟩
abbrev cX3_guestOf : ByteArray := prog_1_method_24_code
def yX3_guestOf : MethodName := ⟨RX3, "guestOf", "(II)I"⟩
abbrev cX3_juror : ByteArray := prog_1_method_25_code
def yX3_juror : MethodName := ⟨RX3, "juror", "(II)I"⟩
abbrev cX3_count : ByteArray := prog_1_method_26_code
def yX3_count : MethodName := ⟨RX3, "count", "(I)I"⟩
abbrev cX3_whyNot : ByteArray := prog_1_method_27_code
def yX3_whyNot : MethodName := ⟨RX3, "whyNot", "(IIIII)I"⟩
abbrev cX3_nextStart : ByteArray := prog_1_method_28_code
def yX3_nextStart : MethodName := ⟨RX3, "nextStart", "(III)I"⟩
abbrev cX3_bestScreen : ByteArray := prog_1_method_29_code
def yX3_bestScreen : MethodName := ⟨RX3, "bestScreen", "(II)I"⟩
abbrev cX3_ifShown : ByteArray := prog_1_method_30_code
def yX3_ifShown : MethodName := ⟨RX3, "ifShown", "(III)I"⟩
abbrev cX3_use : ByteArray := prog_1_method_31_code
def yX3_use : MethodName := ⟨RX3, "use", "(I)D"⟩
abbrev cX3_digest : ByteArray := prog_1_method_32_code
def yX3_digest : MethodName := ⟨RX3, "digest", "()J"⟩
abbrev cX3_mixFilms : ByteArray := prog_1_method_33_code
def yX3_mixFilms : MethodName := ⟨RX3, "mixFilms", "(J)J"⟩
abbrev cX3_mixShowings : ByteArray := prog_1_method_34_code
def yX3_mixShowings : MethodName := ⟨RX3, "mixShowings", "(J)J"⟩
abbrev cX3_mixScreens : ByteArray := prog_1_method_35_code
def yX3_mixScreens : MethodName := ⟨RX3, "mixScreens", "(J)J"⟩
abbrev cX3_mixPeople : ByteArray := prog_1_method_36_code
def yX3_mixPeople : MethodName := ⟨RX3, "mixPeople", "(J)J"⟩
abbrev cX3_mixTexts : ByteArray := prog_1_method_37_code
def yX3_mixTexts : MethodName := ⟨RX3, "mixTexts", "(J)J"⟩
abbrev cX3_bitsOf : ByteArray := prog_1_method_38_code
def yX3_bitsOf : MethodName := ⟨RX3, "bitsOf", "(D)J"⟩
abbrev cX3_countNumber : ByteArray := prog_1_method_39_code
def yX3_countNumber : MethodName := ⟨RX3, "countNumber", "(I)I"⟩
abbrev cX3_requireFilm : ByteArray := prog_1_method_40_code
def yX3_requireFilm : MethodName := ⟨RX3, "requireFilm", "(I)V"⟩
abbrev cX3_requireShowing : ByteArray := prog_1_method_41_code
def yX3_requireShowing : MethodName := ⟨RX3, "requireShowing", "(I)V"⟩
abbrev cX3_requireScreen : ByteArray := prog_1_method_42_code
def yX3_requireScreen : MethodName := ⟨RX3, "requireScreen", "(I)V"⟩
abbrev cX3_requireJuror : ByteArray := prog_1_method_43_code
def yX3_requireJuror : MethodName := ⟨RX3, "requireJuror", "(I)V"⟩
abbrev cX3_requireMinute : ByteArray := prog_1_method_44_code
def yX3_requireMinute : MethodName := ⟨RX3, "requireMinute", "(I)V"⟩
abbrev cX3_requireWhat : ByteArray := prog_1_method_45_code
def yX3_requireWhat : MethodName := ⟨RX3, "requireWhat", "(II)V"⟩
abbrev cX3_requireArgument : ByteArray := prog_1_method_46_code
def yX3_requireArgument : MethodName := ⟨RX3, "requireArgument", "(Z)V"⟩
abbrev cX3_requireNotRefused : ByteArray := prog_1_method_47_code
def yX3_requireNotRefused : MethodName := ⟨RX3, "requireNotRefused", "(I)V"⟩
abbrev cX3_isWithin : ByteArray := prog_1_method_48_code
def yX3_isWithin : MethodName := ⟨RX3, "isWithin", "(III)Z"⟩
abbrev cX3_hasBit : ByteArray := prog_1_method_49_code
def yX3_hasBit : MethodName := ⟨RX3, "hasBit", "(II)Z"⟩
abbrev cX3_save : ByteArray := prog_1_method_50_code
def yX3_save : MethodName := ⟨RX3, "save", "()V"⟩
abbrev cX3_dropOldest : ByteArray := prog_1_method_51_code
def yX3_dropOldest : MethodName := ⟨RX3, "dropOldest", "()V"⟩
abbrev cX3_copyState : ByteArray := prog_1_method_52_code
def yX3_copyState : MethodName := ⟨RX3, "copyState", "(LReelScreens$Festival;LReelScreens$Festival;)V"⟩
abbrev cX3_readBuffer : ByteArray := prog_1_method_53_code
def yX3_readBuffer : MethodName := ⟨RX3, "readBuffer", "()I"⟩
abbrev cX3_makeShowings : ByteArray := prog_1_method_54_code
def yX3_makeShowings : MethodName := ⟨RX3, "makeShowings", "()I"⟩
abbrev cX3_makePart : ByteArray := prog_1_method_55_code
def yX3_makePart : MethodName := ⟨RX3, "makePart", "(I)Z"⟩
def RX4 : String := "ReelScreensModel"
def TX4 : u_T := fun k => match k with
  | 0 => ("ReelScreensModel", "now", "[I", true)
  | 1 => ("ReelScreensModel", "past", "[I", true)
  | 2 => ("ReelScreensModel", "states", "I", false)
  | 3 => ("ReelScreensModel", "kept", "[I", true)
  | 4 => ("ReelScreensModel", "isKept", "Z", false)
  | 5 => ("ReelScreensModel", "text", "[I", true)
  | 6 => ("ReelScreensModel", "length", "I", false)
  | 7 => ("ReelScreensModel", "thrown", "I", false)
  | 8 => ("ReelScreensModel", "why", "I", false)
  | 9 => ("ReelScreensModel", "stands", "I", false)
  | 10 => ("ReelScreensModel", "byReel", "I", false)
  | 11 => ("ReelScreensModel", "spot", "I", false)
  | 12 => ("ReelScreensModel", "told", "[I", true)
  | 13 => ("ReelScreensModel", "toldMany", "I", false)
  | _ => ("ReelScreensModel", "hash", "J", false)
def tyX4 : Nat → FieldType := fun k => match k with
  | 0 => .array .int
  | 1 => .array .int
  | 2 => .int
  | 3 => .array .int
  | 4 => .boolean
  | 5 => .array .int
  | 6 => .int
  | 7 => .int
  | 8 => .int
  | 9 => .int
  | 10 => .int
  | 11 => .int
  | 12 => .array .int
  | 13 => .int
  | _ => .long
abbrev wsX40 : List Cond := u_ws RX4 TX4 15
theorem nmX4 : ∀ a, a < 15 → ∀ b, b < 15 → a ≠ b → (TX4 a).2.1 ≠ (TX4 b).2.1 := by decide +kernel
theorem tyX4_ok : ∀ k, k < 15 → parseFieldDescriptor (TX4 k).2.2.1 = some (tyX4 k) := by decide +kernel
abbrev cX4_init : ByteArray := prog_6_method_1_code
def yX4_init : MethodName := ⟨RX4, "<init>", "()V"⟩
abbrev cX4_thrown : ByteArray := prog_6_method_2_code
def yX4_thrown : MethodName := ⟨RX4, "thrown", "()I"⟩
abbrev cX4_refuses : ByteArray := prog_6_method_3_code
def yX4_refuses : MethodName := ⟨RX4, "refuses", "(I)I"⟩
abbrev cX4_in : ByteArray := prog_6_method_4_code
def yX4_in : MethodName := ⟨RX4, "in", "(III)Z"⟩
abbrev cX4_lays : ByteArray := prog_6_method_5_code
def yX4_lays : MethodName := ⟨RX4, "lays", "([II[II)V"⟩
abbrev cX4_saves : ByteArray := prog_6_method_6_code
def yX4_saves : MethodName := ⟨RX4, "saves", "()V"⟩
abbrev cX4_stops : ByteArray := prog_6_method_7_code
def yX4_stops : MethodName := ⟨RX4, "stops", "(III)V"⟩
abbrev cX4_reels : ByteArray := prog_6_method_8_code
def yX4_reels : MethodName := ⟨RX4, "reels", "(I)I"⟩
abbrev cX4_minutes : ByteArray := prog_6_method_9_code
def yX4_minutes : MethodName := ⟨RX4, "minutes", "(I)I"⟩
abbrev cX4_of : ByteArray := prog_6_method_10_code
def yX4_of : MethodName := ⟨RX4, "of", "(II)I"⟩
abbrev cX4_becomes : ByteArray := prog_6_method_11_code
def yX4_becomes : MethodName := ⟨RX4, "becomes", "(III)V"⟩
abbrev cX4_begins : ByteArray := prog_6_method_12_code
def yX4_begins : MethodName := ⟨RX4, "begins", "(IIII)I"⟩
abbrev cX4_ends : ByteArray := prog_6_method_13_code
def yX4_ends : MethodName := ⟨RX4, "ends", "(III)I"⟩
abbrev cX4_end : ByteArray := prog_6_method_14_code
def yX4_end : MethodName := ⟨RX4, "end", "(I)I"⟩
abbrev cX4_isNear : ByteArray := prog_6_method_15_code
def yX4_isNear : MethodName := ⟨RX4, "isNear", "(IIIII)Z"⟩
abbrev cX4_finds : ByteArray := prog_6_method_16_code
def yX4_finds : MethodName := ⟨RX4, "finds", "(III)V"⟩
abbrev cX4_clash : ByteArray := prog_6_method_17_code
def yX4_clash : MethodName := ⟨RX4, "clash", "(IIII)I"⟩
abbrev cX4_looks : ByteArray := prog_6_method_18_code
def yX4_looks : MethodName := ⟨RX4, "looks", "(IIIII)V"⟩
abbrev cX4_reason : ByteArray := prog_6_method_19_code
def yX4_reason : MethodName := ⟨RX4, "reason", "(IIII)I"⟩
abbrev cX4_makes : ByteArray := prog_6_method_20_code
def yX4_makes : MethodName := ⟨RX4, "makes", "(IIII)V"⟩
abbrev cX4_isFilm : ByteArray := prog_6_method_21_code
def yX4_isFilm : MethodName := ⟨RX4, "isFilm", "(I)Z"⟩
abbrev cX4_isScreen : ByteArray := prog_6_method_22_code
def yX4_isScreen : MethodName := ⟨RX4, "isScreen", "(I)Z"⟩
abbrev cX4_isShowing : ByteArray := prog_6_method_23_code
def yX4_isShowing : MethodName := ⟨RX4, "isShowing", "(I)Z"⟩
abbrev cX4_isMinute : ByteArray := prog_6_method_24_code
def yX4_isMinute : MethodName := ⟨RX4, "isMinute", "(I)Z"⟩
abbrev cX4_film : ByteArray := prog_6_method_25_code
def yX4_film : MethodName := ⟨RX4, "film", "(II)I"⟩
abbrev cX4_seats : ByteArray := prog_6_method_26_code
def yX4_seats : MethodName := ⟨RX4, "seats", "(II)I"⟩
abbrev cX4_set : ByteArray := prog_6_method_27_code
def yX4_set : MethodName := ⟨RX4, "set", "(II)I"⟩
abbrev cX4_show : ByteArray := prog_6_method_28_code
def yX4_show : MethodName := ⟨RX4, "show", "(IIII)I"⟩
abbrev cX4_bits : ByteArray := prog_6_method_29_code
def yX4_bits : MethodName := ⟨RX4, "bits", "(I)I"⟩
abbrev cX4_callOff : ByteArray := prog_6_method_30_code
def yX4_callOff : MethodName := ⟨RX4, "callOff", "(I)I"⟩
abbrev cX4_goes : ByteArray := prog_6_method_31_code
def yX4_goes : MethodName := ⟨RX4, "goes", "(II)Z"⟩
abbrev cX4_canGo : ByteArray := prog_6_method_32_code
def yX4_canGo : MethodName := ⟨RX4, "canGo", "(II)Z"⟩
abbrev cX4_move : ByteArray := prog_6_method_33_code
def yX4_move : MethodName := ⟨RX4, "move", "(II)I"⟩
abbrev cX4_guest : ByteArray := prog_6_method_34_code
def yX4_guest : MethodName := ⟨RX4, "guest", "(III)I"⟩
abbrev cX4_isJuror : ByteArray := prog_6_method_35_code
def yX4_isJuror : MethodName := ⟨RX4, "isJuror", "(I)Z"⟩
abbrev cX4_going : ByteArray := prog_6_method_36_code
def yX4_going : MethodName := ⟨RX4, "going", "(I)I"⟩
abbrev cX4_attend : ByteArray := prog_6_method_37_code
def yX4_attend : MethodName := ⟨RX4, "attend", "(II)I"⟩
abbrev cX4_hasSeen : ByteArray := prog_6_method_38_code
def yX4_hasSeen : MethodName := ⟨RX4, "hasSeen", "(II)Z"⟩
abbrev cX4_vote : ByteArray := prog_6_method_39_code
def yX4_vote : MethodName := ⟨RX4, "vote", "(III)I"⟩
abbrev cX4_append : ByteArray := prog_6_method_40_code
def yX4_append : MethodName := ⟨RX4, "append", "(I)I"⟩
abbrev cX4_clearBuffer : ByteArray := prog_6_method_41_code
def yX4_clearBuffer : MethodName := ⟨RX4, "clearBuffer", "()I"⟩
abbrev cX4_sees : ByteArray := prog_6_method_42_code
def yX4_sees : MethodName := ⟨RX4, "sees", "(II)Z"⟩
abbrev cX4_takes : ByteArray := prog_6_method_43_code
def yX4_takes : MethodName := ⟨RX4, "takes", "(I)Z"⟩
abbrev cX4_isNumber : ByteArray := prog_6_method_44_code
def yX4_isNumber : MethodName := ⟨RX4, "isNumber", "(II)Z"⟩
abbrev cX4_isPart : ByteArray := prog_6_method_45_code
def yX4_isPart : MethodName := ⟨RX4, "isPart", "()Z"⟩
abbrev cX4_isWhole : ByteArray := prog_6_method_46_code
def yX4_isWhole : MethodName := ⟨RX4, "isWhole", "()Z"⟩
abbrev cX4_firstError : ByteArray := prog_6_method_47_code
def yX4_firstError : MethodName := ⟨RX4, "firstError", "()I"⟩
abbrev cX4_isStopped : ByteArray := prog_6_method_48_code
def yX4_isStopped : MethodName := ⟨RX4, "isStopped", "(I)Z"⟩
abbrev cX4_program : ByteArray := prog_6_method_49_code
def yX4_program : MethodName := ⟨RX4, "program", "()I"⟩
abbrev cX4_stopped : ByteArray := prog_6_method_50_code
def yX4_stopped : MethodName := ⟨RX4, "stopped", "(I)I"⟩
abbrev cX4_undo : ByteArray := prog_6_method_51_code
def yX4_undo : MethodName := ⟨RX4, "undo", "()I"⟩
abbrev cX4_keep : ByteArray := prog_6_method_52_code
def yX4_keep : MethodName := ⟨RX4, "keep", "()I"⟩
abbrev cX4_restore : ByteArray := prog_6_method_53_code
def yX4_restore : MethodName := ⟨RX4, "restore", "()I"⟩
abbrev cX4_showings : ByteArray := prog_6_method_54_code
def yX4_showings : MethodName := ⟨RX4, "showings", "(I)I"⟩
abbrev cX4_seatsOf : ByteArray := prog_6_method_55_code
def yX4_seatsOf : MethodName := ⟨RX4, "seatsOf", "(I)I"⟩
abbrev cX4_seers : ByteArray := prog_6_method_56_code
def yX4_seers : MethodName := ⟨RX4, "seers", "(I)I"⟩
abbrev cX4_points : ByteArray := prog_6_method_57_code
def yX4_points : MethodName := ⟨RX4, "points", "(I)I"⟩
abbrev cX4_aboutFilm : ByteArray := prog_6_method_58_code
def yX4_aboutFilm : MethodName := ⟨RX4, "aboutFilm", "(II)I"⟩
abbrev cX4_filmOf : ByteArray := prog_6_method_59_code
def yX4_filmOf : MethodName := ⟨RX4, "filmOf", "(II)I"⟩
abbrev cX4_aboutShowing : ByteArray := prog_6_method_60_code
def yX4_aboutShowing : MethodName := ⟨RX4, "aboutShowing", "(II)I"⟩
abbrev cX4_showing : ByteArray := prog_6_method_61_code
def yX4_showing : MethodName := ⟨RX4, "showing", "(II)I"⟩
abbrev cX4_reelAt : ByteArray := prog_6_method_62_code
def yX4_reelAt : MethodName := ⟨RX4, "reelAt", "(II)I"⟩
abbrev cX4_reel : ByteArray := prog_6_method_63_code
def yX4_reel : MethodName := ⟨RX4, "reel", "(II)I"⟩
abbrev cX4_running : ByteArray := prog_6_method_64_code
def yX4_running : MethodName := ⟨RX4, "running", "(II)I"⟩
abbrev cX4_runs : ByteArray := prog_6_method_65_code
def yX4_runs : MethodName := ⟨RX4, "runs", "(II)I"⟩
abbrev cX4_onScreen : ByteArray := prog_6_method_66_code
def yX4_onScreen : MethodName := ⟨RX4, "onScreen", "(I)I"⟩
abbrev cX4_used : ByteArray := prog_6_method_67_code
def yX4_used : MethodName := ⟨RX4, "used", "(I)I"⟩
abbrev cX4_last : ByteArray := prog_6_method_68_code
def yX4_last : MethodName := ⟨RX4, "last", "(I)I"⟩
abbrev cX4_aboutScreen : ByteArray := prog_6_method_69_code
def yX4_aboutScreen : MethodName := ⟨RX4, "aboutScreen", "(II)I"⟩
abbrev cX4_screen : ByteArray := prog_6_method_70_code
def yX4_screen : MethodName := ⟨RX4, "screen", "(II)I"⟩
abbrev cX4_guestHas : ByteArray := prog_6_method_71_code
def yX4_guestHas : MethodName := ⟨RX4, "guestHas", "(II)I"⟩
abbrev cX4_canGreet : ByteArray := prog_6_method_72_code
def yX4_canGreet : MethodName := ⟨RX4, "canGreet", "(III)Z"⟩
abbrev cX4_greets : ByteArray := prog_6_method_73_code
def yX4_greets : MethodName := ⟨RX4, "greets", "(I)I"⟩
abbrev cX4_aboutGuest : ByteArray := prog_6_method_74_code
def yX4_aboutGuest : MethodName := ⟨RX4, "aboutGuest", "(II)I"⟩
abbrev cX4_guestOf : ByteArray := prog_6_method_75_code
def yX4_guestOf : MethodName := ⟨RX4, "guestOf", "(II)I"⟩
abbrev cX4_seen : ByteArray := prog_6_method_76_code
def yX4_seen : MethodName := ⟨RX4, "seen", "(I)I"⟩
abbrev cX4_given : ByteArray := prog_6_method_77_code
def yX4_given : MethodName := ⟨RX4, "given", "(I)I"⟩
abbrev cX4_aboutJuror : ByteArray := prog_6_method_78_code
def yX4_aboutJuror : MethodName := ⟨RX4, "aboutJuror", "(II)I"⟩
abbrev cX4_juror : ByteArray := prog_6_method_79_code
def yX4_juror : MethodName := ⟨RX4, "juror", "(II)I"⟩
abbrev cX4_greeting : ByteArray := prog_6_method_80_code
def yX4_greeting : MethodName := ⟨RX4, "greeting", "()I"⟩
abbrev cX4_prize : ByteArray := prog_6_method_81_code
def yX4_prize : MethodName := ⟨RX4, "prize", "()I"⟩
abbrev cX4_counted : ByteArray := prog_6_method_82_code
def yX4_counted : MethodName := ⟨RX4, "counted", "(I)I"⟩
abbrev cX4_count : ByteArray := prog_6_method_83_code
def yX4_count : MethodName := ⟨RX4, "count", "(I)I"⟩
abbrev cX4_whyNot : ByteArray := prog_6_method_84_code
def yX4_whyNot : MethodName := ⟨RX4, "whyNot", "(IIIII)I"⟩
abbrev cX4_next : ByteArray := prog_6_method_85_code
def yX4_next : MethodName := ⟨RX4, "next", "(III)I"⟩
abbrev cX4_nextStart : ByteArray := prog_6_method_86_code
def yX4_nextStart : MethodName := ⟨RX4, "nextStart", "(III)I"⟩
abbrev cX4_best : ByteArray := prog_6_method_87_code
def yX4_best : MethodName := ⟨RX4, "best", "(II)I"⟩
abbrev cX4_bestScreen : ByteArray := prog_6_method_88_code
def yX4_bestScreen : MethodName := ⟨RX4, "bestScreen", "(II)I"⟩
abbrev cX4_more : ByteArray := prog_6_method_89_code
def yX4_more : MethodName := ⟨RX4, "more", "(II)I"⟩
abbrev cX4_ifShown : ByteArray := prog_6_method_90_code
def yX4_ifShown : MethodName := ⟨RX4, "ifShown", "(III)I"⟩
abbrev cX4_share : ByteArray := prog_6_method_91_code
def yX4_share : MethodName := ⟨RX4, "share", "(I)D"⟩
abbrev cX4_use : ByteArray := prog_6_method_92_code
def yX4_use : MethodName := ⟨RX4, "use", "(I)D"⟩
abbrev cX4_mixes : ByteArray := prog_6_method_93_code
def yX4_mixes : MethodName := ⟨RX4, "mixes", "(J)V"⟩
abbrev cX4_mixesFilm : ByteArray := prog_6_method_94_code
def yX4_mixesFilm : MethodName := ⟨RX4, "mixesFilm", "(I)V"⟩
abbrev cX4_mixesShowing : ByteArray := prog_6_method_95_code
def yX4_mixesShowing : MethodName := ⟨RX4, "mixesShowing", "(I)V"⟩
abbrev cX4_mixesScreen : ByteArray := prog_6_method_96_code
def yX4_mixesScreen : MethodName := ⟨RX4, "mixesScreen", "(I)V"⟩
abbrev cX4_mixesAll : ByteArray := prog_6_method_97_code
def yX4_mixesAll : MethodName := ⟨RX4, "mixesAll", "()V"⟩
abbrev cX4_digest : ByteArray := prog_6_method_98_code
def yX4_digest : MethodName := ⟨RX4, "digest", "()J"⟩
def RJxe99ae : String := "java/lang/Double"
def TJxe99ae : u_T := fun k => match k with
  | _ => ("", "", "", false)
def tyJxe99ae : Nat → FieldType := fun k => match k with
  | _ => .int
theorem nmJxe99ae : ∀ a, a < 0 → ∀ b, b < 0 → a ≠ b → (TJxe99ae a).2.1 ≠ (TJxe99ae b).2.1 := by decide +kernel
theorem tyJxe99ae_ok : ∀ k, k < 0 → parseFieldDescriptor (TJxe99ae k).2.2.1 = some (tyJxe99ae k) := by decide +kernel
abbrev cJxe99ae_isNaN_b9ae7 : ByteArray := prog_7_method_6_code
def yJxe99ae_isNaN_b9ae7 : MethodName := ⟨RJxe99ae, "isNaN", "(D)Z"⟩
abbrev cJxe99ae_doubleToLongBits_ccdee : ByteArray := prog_7_method_23_code
def yJxe99ae_doubleToLongBits_ccdee : MethodName := ⟨RJxe99ae, "doubleToLongBits", "(D)J"⟩
def RJ6 : String := "java/lang/Integer"
def TJ6 : u_T := fun k => match k with
  | _ => ("", "", "", false)
def tyJ6 : Nat → FieldType := fun k => match k with
  | _ => .int
theorem nmJ6 : ∀ a, a < 0 → ∀ b, b < 0 → a ≠ b → (TJ6 a).2.1 ≠ (TJ6 b).2.1 := by decide +kernel
theorem tyJ6_ok : ∀ k, k < 0 → parseFieldDescriptor (TJ6 k).2.2.1 = some (tyJ6 k) := by decide +kernel
abbrev cJ6_bitCount_0f7a4 : ByteArray := prog_12_method_49_code
def yJ6_bitCount_0f7a4 : MethodName := ⟨RJ6, "bitCount", "(I)I"⟩
def RJ9 : String := "java/lang/Math"
def TJ9 : u_T := fun k => match k with
  | _ => ("", "", "", false)
def tyJ9 : Nat → FieldType := fun k => match k with
  | _ => .int
theorem nmJ9 : ∀ a, a < 0 → ∀ b, b < 0 → a ≠ b → (TJ9 a).2.1 ≠ (TJ9 b).2.1 := by decide +kernel
theorem tyJ9_ok : ∀ k, k < 0 → parseFieldDescriptor (TJ9 k).2.2.1 = some (tyJ9 k) := by decide +kernel
abbrev cJ9_max_7cf53 : ByteArray := prog_13_method_65_code
def yJ9_max_7cf53 : MethodName := ⟨RJ9, "max", "(II)I"⟩
def RJ0 : String := "java/lang/String"
def TJ0 : u_T := fun k => match k with
  | _ => ("", "", "", false)
def tyJ0 : Nat → FieldType := fun k => match k with
  | _ => .int
theorem nmJ0 : ∀ a, a < 0 → ∀ b, b < 0 → a ≠ b → (TJ0 a).2.1 ≠ (TJ0 b).2.1 := by decide +kernel
theorem tyJ0_ok : ∀ k, k < 0 → parseFieldDescriptor (TJ0 k).2.2.1 = some (tyJ0 k) := by decide +kernel
def RJ10 : String := "java/lang/System"
def TJ10 : u_T := fun k => match k with
  | _ => ("", "", "", false)
def tyJ10 : Nat → FieldType := fun k => match k with
  | _ => .int
theorem nmJ10 : ∀ a, a < 0 → ∀ b, b < 0 → a ≠ b → (TJ10 a).2.1 ≠ (TJ10 b).2.1 := by decide +kernel
theorem tyJ10_ok : ∀ k, k < 0 → parseFieldDescriptor (TJ10 k).2.2.1 = some (tyJ10 k) := by decide +kernel
def RL : String := "ReelScreensLaw"
abbrev cL_film : ByteArray := method_3_code
def yL_film : MethodName := ⟨RL, "film", "(LReelScreens;II[J)I"⟩
abbrev cL_seats : ByteArray := method_4_code
def yL_seats : MethodName := ⟨RL, "seats", "(LReelScreens;II[J)I"⟩
abbrev cL_set : ByteArray := method_5_code
def yL_set : MethodName := ⟨RL, "set", "(LReelScreens;II[J)I"⟩
abbrev cL_show : ByteArray := method_6_code
def yL_show : MethodName := ⟨RL, "show", "(LReelScreens;IIII[J)I"⟩
abbrev cL_callOff : ByteArray := method_7_code
def yL_callOff : MethodName := ⟨RL, "callOff", "(LReelScreens;I[J)I"⟩
abbrev cL_move : ByteArray := method_8_code
def yL_move : MethodName := ⟨RL, "move", "(LReelScreens;II[J)I"⟩
abbrev cL_guest : ByteArray := method_9_code
def yL_guest : MethodName := ⟨RL, "guest", "(LReelScreens;III[J)I"⟩
abbrev cL_attend : ByteArray := method_10_code
def yL_attend : MethodName := ⟨RL, "attend", "(LReelScreens;II[J)I"⟩
abbrev cL_vote : ByteArray := method_11_code
def yL_vote : MethodName := ⟨RL, "vote", "(LReelScreens;III[J)I"⟩
abbrev cL_append : ByteArray := method_12_code
def yL_append : MethodName := ⟨RL, "append", "(LReelScreens;I[J)I"⟩
abbrev cL_program : ByteArray := method_13_code
def yL_program : MethodName := ⟨RL, "program", "(LReelScreens;[J)I"⟩
abbrev cL_stopped : ByteArray := method_14_code
def yL_stopped : MethodName := ⟨RL, "stopped", "(LReelScreens;I[J)I"⟩
abbrev cL_undo : ByteArray := method_15_code
def yL_undo : MethodName := ⟨RL, "undo", "(LReelScreens;[J)I"⟩
abbrev cL_restore : ByteArray := method_16_code
def yL_restore : MethodName := ⟨RL, "restore", "(LReelScreens;[J)I"⟩
abbrev cL_filmOf : ByteArray := method_17_code
def yL_filmOf : MethodName := ⟨RL, "filmOf", "(LReelScreens;II[J)I"⟩
abbrev cL_showing : ByteArray := method_18_code
def yL_showing : MethodName := ⟨RL, "showing", "(LReelScreens;II[J)I"⟩
abbrev cL_reel : ByteArray := method_19_code
def yL_reel : MethodName := ⟨RL, "reel", "(LReelScreens;II[J)I"⟩
abbrev cL_runs : ByteArray := method_20_code
def yL_runs : MethodName := ⟨RL, "runs", "(LReelScreens;II[J)I"⟩
abbrev cL_screen : ByteArray := method_21_code
def yL_screen : MethodName := ⟨RL, "screen", "(LReelScreens;II[J)I"⟩
abbrev cL_guestOf : ByteArray := method_22_code
def yL_guestOf : MethodName := ⟨RL, "guestOf", "(LReelScreens;II[J)I"⟩
abbrev cL_juror : ByteArray := method_23_code
def yL_juror : MethodName := ⟨RL, "juror", "(LReelScreens;II[J)I"⟩
abbrev cL_count : ByteArray := method_24_code
def yL_count : MethodName := ⟨RL, "count", "(LReelScreens;I[J)I"⟩
abbrev cL_whyNot : ByteArray := method_25_code
def yL_whyNot : MethodName := ⟨RL, "whyNot", "(LReelScreens;IIIII[J)I"⟩
abbrev cL_nextStart : ByteArray := method_26_code
def yL_nextStart : MethodName := ⟨RL, "nextStart", "(LReelScreens;III[J)I"⟩
abbrev cL_bestScreen : ByteArray := method_27_code
def yL_bestScreen : MethodName := ⟨RL, "bestScreen", "(LReelScreens;II[J)I"⟩
abbrev cL_ifShown : ByteArray := method_28_code
def yL_ifShown : MethodName := ⟨RL, "ifShown", "(LReelScreens;III[J)I"⟩
abbrev cL_use : ByteArray := method_29_code
def yL_use : MethodName := ⟨RL, "use", "(LReelScreens;I[D)I"⟩
abbrev cL_law : ByteArray := code
def yL_law : MethodName := ⟨RL, "law", "([I)Z"⟩
abbrev vwCl : List vw_C := [(RX0, TX0, 10), (RX1, TX1, 5), (RX2, TX2, 3), (RX3, TX3, 8), (RX4, TX4, 15)]
end
section
/-! THE SMALL MACHINE (own work): a heap without addresses (objects by their number), values that name objects by number, and one judgement jm_J over the kit's W; each row of the kit once more, in these words. -/
abbrev jm_C : Type := (Nat × vp_A) ⊕ (Nat × List Value)
abbrev jm_H : Type := List jm_C
abbrev jm_O : Type := Option Value ⊕ String
abbrev jm_X : Type := jm_O × jm_H
/-- what is known of a method: its class, its name, its code, its locals, its answer's type, its table; room: frames, words of locals, cells, slots; whether it makes objects that stay -/
abbrev jm_M : Type := String × MethodName × ByteArray × Nat × Option FieldType × List (Nat × Nat × Nat × Nat) × (Nat × Nat × Nat × Nat) × Bool × Option (Nat × (Nat → Int32))
abbrev jm_ow (M : jm_M) : String := M.1
abbrev jm_y (M : jm_M) : MethodName := M.2.1
abbrev jm_by (M : jm_M) : ByteArray := M.2.2.1
abbrev jm_nL (M : jm_M) : Nat := M.2.2.2.1
abbrev jm_rt (M : jm_M) : Option FieldType := M.2.2.2.2.1
abbrev jm_hh (M : jm_M) : List (Nat × Nat × Nat × Nat) := M.2.2.2.2.2.1
abbrev jm_fr (M : jm_M) : Nat := M.2.2.2.2.2.2.1.1
abbrev jm_lo (M : jm_M) : Nat := M.2.2.2.2.2.2.1.2.1
abbrev jm_mc (M : jm_M) : Nat := M.2.2.2.2.2.2.1.2.2.1
abbrev jm_ms (M : jm_M) : Nat := M.2.2.2.2.2.2.1.2.2.2
abbrev jm_al (M : jm_M) : Bool := M.2.2.2.2.2.2.2.1
abbrev jm_sc (M : jm_M) : Option (Nat × (Nat → Int32)) := M.2.2.2.2.2.2.2.2
def jm_V (ad : Nat → Nat) : Value → Value
  | .ref a => .ref (ad a)
  | v => v
def jm_A (ad : Nat → Nat) : vp_A → vp_A
  | (n, .inl f) => (n, .inl f)
  | (n, .inr (.inl f)) => (n, .inr (.inl f))
  | (n, .inr (.inr (.inl f))) => (n, .inr (.inr (.inl f)))
  | (n, .inr (.inr (.inr (.inl f)))) => (n, .inr (.inr (.inr (.inl f))))
  | (n, .inr (.inr (.inr (.inr f)))) => (n, .inr (.inr (.inr (.inr (fun j => (f j).map ad)))))
def jm_E (dA ad : Nat → Nat) : jm_C → va_E
  | .inl (t, x) => .inl (dA t, jm_A ad x)
  | .inr (ci, fs) => .inr (ci, fs.map (jm_V ad))
def jm_W (dA ad : Nat → Nat) (h : jm_H) : va_W := h.mapIdx (fun k c => (ad k, jm_E dA ad c))
def jm_L (ad : Nat → Nat) (ls : List (Nat × Value)) : List (Nat × Value) := ls.map (fun q => (q.1, jm_V ad q.2))
theorem jm_cat (ad : Nat → Nat) (v : Value) : (jm_V ad v).category = v.category := by cases v <;> rfl
theorem jm_get {dA ad : Nat → Nat} {h : jm_H} {k : Nat} {c : jm_C} (hk : h[k]? = some c) : (jm_W dA ad h)[k]? = some (ad k, jm_E dA ad c) := by
  simp [jm_W, List.getElem?_mapIdx, hk]
theorem jm_set (dA ad : Nat → Nat) (h : jm_H) (k : Nat) (c : jm_C) : jm_W dA ad (h.set k c) = (jm_W dA ad h).set k (ad k, jm_E dA ad c) := by
  apply List.ext_getElem?
  intro i
  simp only [jm_W, List.getElem?_mapIdx, List.getElem?_set, List.length_mapIdx]
  by_cases hki : k = i
  · subst hki
    by_cases hl : k < h.length <;> simp [hl]
  · simp [hki]
/-- no cell of the heap names the object n -/
def jm_okV (n : Nat) (v : Value) : Prop := v ≠ .ref n
def jm_okC (n : Nat) : jm_C → Prop
  | .inl (_, (_, .inr (.inr (.inr (.inr f))))) => ∀ j : Nat, f j ≠ some n
  | .inl _ => True
  | .inr (_, fs) => ∀ v ∈ fs, jm_okV n v
def jm_ok (n : Nat) (h : jm_H) : Prop := ∀ c ∈ h, jm_okC n c
theorem jm_V_up {ad : Nat → Nat} {n q : Nat} {v : Value} (h : jm_okV n v) : jm_V (va_up ad n q) v = jm_V ad v := by
  cases v <;> try rfl
  next a =>
    have hne : a ≠ n := fun e => h (by rw [e])
    simp [jm_V, va_up, hne]
theorem jm_E_up {dA ad : Nat → Nat} {n q : Nat} {c : jm_C} (h : jm_okC n c) : jm_E dA (va_up ad n q) c = jm_E dA ad c := by
  rcases c with ⟨t, k, f | f | f | f | f⟩ | ⟨ci, fs⟩
  · rfl
  · rfl
  · rfl
  · rfl
  · have h' : ∀ j : Nat, f j ≠ some n := h
    have : (fun j => (f j).map (va_up ad n q)) = (fun j => (f j).map ad) := by
      funext j
      cases hj : f j with
      | none => rfl
      | some a =>
        have hne : a ≠ n := fun e => h' j (by rw [hj, e])
        simp [va_up, hne]
    show (Sum.inl (dA t, (k, Sum.inr (Sum.inr (Sum.inr (Sum.inr (fun j => (f j).map (va_up ad n q))))))) : va_E) = Sum.inl (dA t, (k, Sum.inr (Sum.inr (Sum.inr (Sum.inr (fun j => (f j).map ad))))))
    rw [this]
  · have h' : ∀ v ∈ fs, jm_okV n v := h
    show (Sum.inr (ci, fs.map (jm_V (va_up ad n q))) : va_E) = Sum.inr (ci, fs.map (jm_V ad))
    rw [List.map_congr_left (fun v hv => jm_V_up (h' v hv))]
theorem jm_push {dA ad : Nat → Nat} {h : jm_H} {q : Nat} {c : jm_C} (hk : jm_ok h.length h) (hc : jm_okC h.length c) : jm_W dA (va_up ad h.length q) (h ++ [c]) = jm_W dA ad h ++ [(q, jm_E dA ad c)] := by
  apply List.ext_getElem?
  intro i
  by_cases hi : i < h.length
  · have hne : i ≠ h.length := Nat.ne_of_lt hi
    have hcell : h[i]? = some h[i] := List.getElem?_eq_getElem hi
    simp only [jm_W]
    rw [List.getElem?_append_left (by simpa using hi)]
    simp only [List.getElem?_mapIdx, List.getElem?_append_left hi, hcell, Option.map_some]
    rw [jm_E_up (hk _ (List.getElem_mem hi))]
    simp [va_up, hne]
  · by_cases he : i = h.length
    · subst he
      simp [jm_W, List.getElem?_mapIdx, va_up, jm_E_up hc]
    · have hgt : h.length < i := by omega
      rw [List.getElem?_eq_none (by simp [jm_W]; omega), List.getElem?_eq_none (by simp [jm_W]; omega)]
theorem jm_L_up {ad : Nat → Nat} {n q : Nat} {ls : List (Nat × Value)} (h : ∀ x ∈ ls, jm_okV n x.2) : jm_L (va_up ad n q) ls = jm_L ad ls :=
  List.map_congr_left (fun x hx => by rw [jm_V_up (h x hx)])
theorem jm_st_up {ad : Nat → Nat} {n q : Nat} {st : List Value} (h : ∀ v ∈ st, jm_okV n v) : st.map (jm_V (va_up ad n q)) = st.map (jm_V ad) :=
  List.map_congr_left (fun x hx => jm_V_up (h x hx))
/-- values that stay what they are when objects come -/
def jm_kV (n : Nat) (v : Value) : Prop := ∀ a, v = .ref a → a < n ∨ a = 1000000
def jm_ag (n : Nat) (ad ad' : Nat → Nat) : Prop := ∀ k, k < n ∨ k = 1000000 → ad' k = ad k
theorem jm_V_ag {ad ad' : Nat → Nat} {n : Nat} {v : Value} (h : jm_kV n v) (hg : jm_ag n ad ad') : jm_V ad' v = jm_V ad v := by
  cases v <;> try rfl
  next a => simp [jm_V, hg a (h a rfl)]
theorem jm_L_ag {ad ad' : Nat → Nat} {n : Nat} {ls : List (Nat × Value)} (h : ∀ x ∈ ls, jm_kV n x.2) (hg : jm_ag n ad ad') : jm_L ad' ls = jm_L ad ls :=
  List.map_congr_left (fun x hx => by rw [jm_V_ag (h x hx) hg])
theorem jm_st_ag {ad ad' : Nat → Nat} {n : Nat} {st : List Value} (h : ∀ v ∈ st, jm_kV n v) (hg : jm_ag n ad ad') : st.map (jm_V ad') = st.map (jm_V ad) :=
  List.map_congr_left (fun x hx => jm_V_ag (h x hx) hg)
abbrev jm_N (N0 : Nat) : Nat → Prop := fun q => N0 ≤ q
def jm_P (N0 : Nat) (dC : Nat → ClassId) (dI : Nat → Nat → Nat) (dA ad : Nat → Nat) (h : jm_H) (H : Heap) : Prop := va_P (dC, dI) vwCl (jm_W dA ad h) H ∧ va_D (jm_N N0) (jm_W dA ad h)
def jm_WS : List Cond := lw_tbl.filter goodWord
abbrev jm_ty (dA : Nat → Nat) : List (ClassId × FieldType) := [(dA 0, .int), (dA 1, .long), (dA 2, .double), (dA 3, .object "ReelScreens$Festival")]
def jm_Rel (M : jm_M) (n0 : Nat) (ad0 ad : Nat → Nat) : Prop := (jm_al M = false → ad = ad0) ∧ jm_ag n0 ad0 ad
theorem jm_in {w : Cond} (h : w ∈ lw_tbl) (g : goodWord w = true) : w ∈ jm_WS := List.mem_filter.mpr ⟨h, g⟩
theorem jm_good {w : Cond} (h : w ∈ jm_WS) : goodWord w = true := (List.mem_filter.mp h).2
theorem jm_mem {w : Cond} (h : w ∈ jm_WS) : w ∈ lw_tbl := (List.mem_filter.mp h).1
theorem jm_gIn {ws : List Cond} (h : ∀ w ∈ ws, w ∈ jm_WS) : GoodIn jm_WS ws := fun w hw => ⟨h w hw, good_of_word (jm_good (h w hw))⟩
end
section
/-! the judgement jm_J, contracts jm_K, and what joins them -/
def jm_nests : List (String × Nat × MethodName × String) := [(RX3, 25, yX1_init, RX3), (RX1, 21, yX3_isWithin, RX3), (RX0, 84, yX3_hasBit, RX3)]
def jm_strs : List (String × Nat × String) := [(RX3, 54, "there are 8 films"), (RX3, 79, "there is no such setting"), (RX3, 124, "there are 6 guests"), (RX3, 139, "the juror goes to it already, or cannot"), (RX3, 150, "the juror has not seen the film"), (RX3, 158, "the buffer has 60 characters"), (RX3, 181, "there is no saved state"), (RX3, 191, "there is no snapshot"), (RX3, 208, "there is no such guest"), (RX3, 280, "there is no such film"), (RX3, 282, "there is no such showing"), (RX3, 284, "there is no such screen"), (RX3, 286, "there is no such juror"), (RX3, 290, "an argument is out of range"), (RX3, 293, "the showing is refused")]
def jm_thrs : List String := ["java/lang/IllegalArgumentException", "java/lang/IllegalStateException", "java/lang/IndexOutOfBoundsException"]
/-- what stands in the machine all the time -/
def jm_Sf (N0 : Nat) (dC : Nat → ClassId) (dI : Nat → Nat → Nat) (dA : Nat → Nat) (U : State) : Prop :=
  N0 ≤ U.heap.size ∧ va_K (dC, dI) vwCl (jm_ty dA) U ∧ (∀ q ∈ jm_nests, va_Nw (.methodLinkNest q.1 q.2.1 q.2.2.1 q.2.2.2) U) ∧ (∀ q ∈ jm_strs, ∃ a, vk_R q.1 q.2.1 q.2.2 a U) ∧ va_AO "ReelScreens$Festival" U ∧
  (∀ E ∈ jm_thrs, va_Nw (.castable E E) U) ∧ (∀ E ∈ jm_thrs, ∀ E' ∈ jm_thrs, E ≠ E' → va_Nc E E' U) ∧ vx_Zq Bundle.tN "UNASSIGNED_STACK" Bundle.steD (jm_N N0) U U.heap ∧ vx_Zq Bundle.tN "SUPPRESSED_SENTINEL" Bundle.listD (jm_N N0) U U.heap
theorem jm_Sf.go {N0 : Nat} {dC : Nat → ClassId} {dI : Nat → Nat → Nat} {dA : Nat → Nat} {s U : State} {locs : List Loc} (h : jm_Sf N0 dC dI dA s) (hW : s.WarmedH U.vm) (hS : va_S (jm_N N0) s.heap U.heap locs) : jm_Sf N0 dC dI dA U := by
  obtain ⟨h1, h2, h3, h4, h5, h6, h7, h8, h9⟩ := h
  refine ⟨Nat.le_trans h1 hS.1, va_K.moved hW.alike h2, fun q hq => va_Nw.warmM hW (h3 q hq), fun q hq => ?_, va_AO.moved hW.alike h5, fun E hE => va_Nw.warmC hW (h6 E hE), fun E hE E' hE' hne => va_Nc.moved hW.alike (h7 E hE E' hE' hne), ?_, ?_⟩
  · obtain ⟨a, ha⟩ := h4 q hq
    exact ⟨a, vk_R.warm hW ha⟩
  · exact (vx_Zq.moved hW.alike h8).kept (fun a h1 h2 => hS.2.1 a h1 h2)
  · exact (vx_Zq.moved hW.alike h9).kept (fun a h1 h2 => hS.2.1 a h1 h2)
theorem jm_Sf.blind {N0 : Nat} {dC : Nat → ClassId} {dI : Nat → Nat → Nat} {dA : Nat → Nat} {u U : State} (hv : u.vm = U.vm) (hh : u.heap = U.heap) (h : jm_Sf N0 dC dI dA u) : jm_Sf N0 dC dI dA U := by
  obtain ⟨h1, h2, h3, h4, h5, h6, h7, h8, h9⟩ := h
  have hal : u.vm.Alike U.vm := by rw [hv]; exact Vm.Alike.refl U.vm
  refine ⟨by rw [← hh]; exact h1, va_K.moved hal h2, fun q hq => va_Nw.same rfl hv (h3 q hq), fun q hq => ?_, va_AO.moved hal h5, fun E hE => va_Nw.same rfl hv (h6 E hE), fun E hE E' hE' hne => va_Nc.moved hal (h7 E hE E' hE' hne), ?_, ?_⟩
  · obtain ⟨a, ha⟩ := h4 q hq
    exact ⟨a, vk_R.same hv.symm ha⟩
  · rw [← hh]; exact vx_Zq.moved hal h8
  · rw [← hh]; exact vx_Zq.moved hal h9
/-! ## contracts -/
def jm_Pc (N0 : Nat) (dC : Nat → ClassId) (dI : Nat → Nat → Nat) (dA ad : Nat → Nat) (as : List Value) (h : jm_H) : Array Value → State → Prop := va_Pc (as.map (jm_V ad)) (fun U => jm_Sf N0 dC dI dA U ∧ jm_P N0 dC dI dA ad h U.heap)
def jm_Qc (M : jm_M) (N0 : Nat) (dC : Nat → ClassId) (dI : Nat → Nat → Nat) (dA ad : Nat → Nat) (n0 : Nat) (X : jm_X) : Array Value → State → Outcome → State → Prop := fun _ st o t =>
  ∃ (v : Option Value) (ad' : Nat → Nat), X.1 = .inl v ∧ o = .returned (v.map (jm_V ad')) ∧ jm_Rel M n0 ad ad' ∧ n0 ≤ X.2.length ∧ jm_P N0 dC dI dA ad' X.2 t.heap ∧ va_F (jm_N N0) st t
def jm_XC (M : jm_M) (N0 : Nat) (dC : Nat → ClassId) (dI : Nat → Nat → Nat) (dA ad : Nat → Nat) (n0 : Nat) (X : jm_X) : String → State → State → Prop := fun E st t =>
  ∃ (ad' : Nat → Nat), X.1 = .inr E ∧ jm_Rel M n0 ad ad' ∧ n0 ≤ X.2.length ∧ jm_P N0 dC dI dA ad' X.2 t.heap ∧ va_F (jm_N N0) st t
def jm_rm (M : jm_M) : Room := { frames := jm_fr M, cells := jm_mc M, slots := jm_ms M, locals := jm_lo M }
def jm_cd (M : jm_M) : Cond := if jm_hh M = [] then .code (jm_y M) (jm_by M) (jm_nL M) (jm_rt M) else .codeWith (jm_y M) (jm_by M) (jm_nL M) (jm_rt M) (jm_hh M)
def jm_K (M : jm_M) (as : List Value) (h : jm_H) (X : jm_X) : Prop := ∀ (l : Launch) (N0 : Nat) (dC : Nat → ClassId) (dI : Nat → Nat → Nat) (dA ad : Nat → Nat), l.stackTraces = false →
  vx_Met l (jm_y M) (jm_cd M :: jm_WS) (jm_rm M) (jm_Pc N0 dC dI dA ad as h) (jm_Qc M N0 dC dI dA ad h.length X) (jm_XC M N0 dC dI dA ad h.length X) (jm_mc M) (jm_ms M) (jm_N N0)
theorem jm_Pc.blind {N0 : Nat} {dC : Nat → ClassId} {dI : Nat → Nat → Nat} {dA ad : Nat → Nat} {as : List Value} {h : jm_H} : FrameBlind (jm_Pc N0 dC dI dA ad as h) := by
  intro a U g mk hp
  obtain ⟨h1, h2, h3⟩ := hp
  exact ⟨h1, jm_Sf.blind (u := U) (U := U.calling g mk a) rfl rfl h2, h3⟩
/-! ## the judgement -/
/-- the shapes of a method's end -/
def jm_fit (M : jm_M) (pc : Nat) (v : Option Value) : Prop :=
  (jm_rt M = none ∧ v = none ∧ decode (jm_by M) pc = .ok (.return_, 1)) ∨
  (∃ (ty : FieldType) (x : Int32), jm_rt M = some ty ∧ v = some (.int x) ∧ narrow ty (.int x) = .int x ∧ decode (jm_by M) pc = .ok (.ireturn, 1)) ∨
  (∃ x : Int64, jm_rt M = some .long ∧ v = some (.long x) ∧ decode (jm_by M) pc = .ok (.lreturn, 1)) ∨
  (∃ x : UInt64, jm_rt M = some .double ∧ v = some (.double x) ∧ decode (jm_by M) pc = .ok (.dreturn, 1))
def jm_Ret (M : jm_M) (X : jm_X) (p : Program) (l : Launch) (e : Env) (R : Room) (s : State) (m : MethodId) (args : Array Value) (below : List Frame) (meth : Method) (c : Code) (N0 : Nat) (dC : Nat → ClassId) (dI : Nat → Nat → Nat) (dA ad0 : Nat → Nat) (n0 : Nat) (Q : State → Prop) : Prop :=
  ∀ (v : Option Value) (pc : Nat) (ad : Nat → Nat) (H : Heap) (locs : List Loc) (lsA : Array Slot) (kc ks : Nat), X.1 = .inl v → jm_fit M pc v → jm_Rel M n0 ad0 ad → n0 ≤ X.2.length → jm_P N0 dC dI dA ad X.2 H → va_S (jm_N N0) s.heap H locs → kc ≤ jm_mc M → ks ≤ jm_ms M →
    W p l e R s m args below meth c H locs kc ks Q (F0 m pc lsA (v.map (jm_V ad)).toList)
def jm_Thr (M : jm_M) (X : jm_X) (s : State) (args : Array Value) (below : List Frame) (N0 : Nat) (dC : Nat → ClassId) (dI : Nat → Nat → Nat) (dA ad0 : Nat → Nat) (n0 : Nat) (Q : State → Prop) : Prop :=
  ∀ E : String, X.1 = .inr E → ∃ (Qc : Array Value → State → Outcome → State → Prop) (XC : String → State → State → Prop), Q = vx_MQ below Qc XC args s (jm_mc M) (jm_ms M) (jm_N N0) ∧
    ∀ (ad : Nat → Nat) (t : State), jm_Rel M n0 ad0 ad → n0 ≤ X.2.length → jm_P N0 dC dI dA ad X.2 t.heap → va_F (jm_N N0) s t → XC E s t
def jm_Cx (M : jm_M) (X : jm_X) (p : Program) (l : Launch) (e : Env) (R : Room) (s : State) (m : MethodId) (args : Array Value) (below : List Frame) (meth : Method) (c : Code) (N0 : Nat) (dC : Nat → ClassId) (dI : Nat → Nat → Nat) (dA ad0 : Nat → Nat) (n0 : Nat) (Q : State → Prop) : Prop :=
  p.tables.exec = Jvm.exec ∧ c.code = jm_by M ∧ c.maxLocals = jm_nL M ∧ s.vm.findClass (jm_ow M) = some m.cls ∧ (∀ w ∈ jm_WS, w.before args s = true) ∧ meth.locks = false ∧
  ((jm_hh M = [] → c.exceptionTable.toList = []) ∧ (jm_hh M ≠ [] → c.exceptionTable.toList = tableOf (jm_hh M))) ∧ meth.name = (jm_y M).name ∧ l.stackTraces = false ∧ jm_Sf N0 dC dI dA s ∧
  (jm_fr M ≤ R.frames ∧ jm_lo M ≤ R.locals ∧ jm_mc M ≤ R.cells ∧ jm_ms M ≤ R.slots) ∧ (∀ (L : Nat) (xs : Nat → Int32), jm_sc M = some (L, xs) → va_X (ad0 1000000) L xs s s.heap ∧ ad0 1000000 < N0 ∧ N0 ≤ s.heap.size) ∧
  jm_Ret M X p l e R s m args below meth c N0 dC dI dA ad0 n0 Q ∧ jm_Thr M X s args below N0 dC dI dA ad0 n0 Q
def jm_Hy (M : jm_M) (s : State) (N0 : Nat) (dC : Nat → ClassId) (dI : Nat → Nat → Nat) (dA ad0 : Nat → Nat) (n0 : Nat) (ls : List (Nat × Value)) (h : jm_H) (ad : Nat → Nat) (H : Heap) (locs : List Loc) (lsA : Array Slot) : Prop :=
  jm_Rel M n0 ad0 ad ∧ n0 ≤ h.length ∧ jm_P N0 dC dI dA ad h H ∧ va_S (jm_N N0) s.heap H locs ∧ lv_has lsA (jm_nL M) (jm_L ad ls)
/-- from here (pc, locals, stack, heap; so many cells and slots made) the method ends with X -/
def jm_J (M : jm_M) (pc : Nat) (ls : List (Nat × Value)) (st : List Value) (h : jm_H) (kc ks : Nat) (X : jm_X) : Prop :=
  ∀ (p : Program) (l : Launch) (e : Env) (R : Room) (s : State) (m : MethodId) (args : Array Value) (below : List Frame) (meth : Method) (c : Code) (N0 : Nat) (dC : Nat → ClassId) (dI : Nat → Nat → Nat) (dA ad0 : Nat → Nat) (n0 : Nat) (Q : State → Prop),
    jm_Cx M X p l e R s m args below meth c N0 dC dI dA ad0 n0 Q → ∀ (ad : Nat → Nat) (H : Heap) (locs : List Loc) (lsA : Array Slot), jm_Hy M s N0 dC dI dA ad0 n0 ls h ad H locs lsA →
      W p l e R s m args below meth c H locs kc ks Q (F0 m pc lsA (st.map (jm_V ad)))
/-- E flies from pc -/
def jm_JX (M : jm_M) (pc : Nat) (E : String) (ls : List (Nat × Value)) (h : jm_H) (kc ks : Nat) (X : jm_X) : Prop :=
  ∀ (p : Program) (l : Launch) (e : Env) (R : Room) (s : State) (m : MethodId) (args : Array Value) (below : List Frame) (meth : Method) (c : Code) (N0 : Nat) (dC : Nat → ClassId) (dI : Nat → Nat → Nat) (dA ad0 : Nat → Nat) (n0 : Nat) (Q : State → Prop),
    jm_Cx M X p l e R s m args below meth c N0 dC dI dA ad0 n0 Q → ∀ (ad : Nat → Nat) (H : Heap) (locs : List Loc) (lsA : Array Slot) (rest : List Value) (q : Addr) (ce : Cell), jm_Hy M s N0 dC dI dA ad0 n0 ls h ad H locs lsA → H[q]? = some ce → ce.vm = .none → s.vm.findClass E = some ce.cls →
      vx_W p l e R s m args below meth c H locs kc ks Q (F0 m pc lsA rest) q
theorem jm_lens {M : jm_M} {s : State} {N0 : Nat} {dC : Nat → ClassId} {dI : Nat → Nat → Nat} {dA ad0 : Nat → Nat} {n0 : Nat} {ls ls' : List (Nat × Value)} {h : jm_H} {ad : Nat → Nat} {H : Heap} {locs : List Loc} {lsA lsA' : Array Slot} (hy : jm_Hy M s N0 dC dI dA ad0 n0 ls h ad H locs lsA) (hl : lv_has lsA' (jm_nL M) (jm_L ad ls')) : jm_Hy M s N0 dC dI dA ad0 n0 ls' h ad H locs lsA' := ⟨hy.1, hy.2.1, hy.2.2.1, hy.2.2.2.1, hl⟩
theorem jm_at {ad : Nat → Nat} {lsA : Array Slot} {n : Nat} {ls : List (Nat × Value)} (h : lv_has lsA n (jm_L ad ls)) {i : Nat} {v : Value} (hi : (i, v) ∈ ls) : lsA[i]? = some (.val (jm_V ad v)) := h.2.2 (i, jm_V ad v) (List.mem_map.mpr ⟨(i, v), hi, rfl⟩)
theorem jm_subL {ad : Nat → Nat} {lsA : Array Slot} {n : Nat} {ls ls' : List (Nat × Value)} (h : lv_has lsA n (jm_L ad ls)) (hs : ∀ q ∈ ls', q ∈ ls) : lv_has lsA n (jm_L ad ls') := ⟨h.1, h.2.1, fun q hq => by
  obtain ⟨x, hx, rfl⟩ := List.mem_map.mp hq
  exact h.2.2 _ (List.mem_map.mpr ⟨x, hs x hx, rfl⟩)⟩
/-- fewer locals known, in any order -/
theorem jj_sub {M : jm_M} {pc : Nat} {ls ls' : List (Nat × Value)} {st : List Value} {h : jm_H} {kc ks : Nat} {X : jm_X} (hs : ∀ q ∈ ls', q ∈ ls) (k : jm_J M pc ls' st h kc ks X) : jm_J M pc ls st h kc ks X := fun p l e R s m args below meth c N0 dC dI dA ad0 n0 Q C ad H locs lsA hy =>
  k p l e R s m args below meth c N0 dC dI dA ad0 n0 Q C ad H locs lsA (jm_lens hy (jm_subL hy.2.2.2.2 hs))
theorem jj_wide {M : jm_M} {pc : Nat} {ls : List (Nat × Value)} {st : List Value} {h : jm_H} {kc ks kc' ks' : Nat} {X : jm_X} (h1 : kc ≤ kc') (h2 : ks ≤ ks') (k : jm_J M pc ls st h kc' ks' X) : jm_J M pc ls st h kc ks X := fun p l e R s m args below meth c N0 dC dI dA ad0 n0 Q C ad H locs lsA hy =>
  W.widen h1 h2 (k p l e R s m args below meth c N0 dC dI dA ad0 n0 Q C ad H locs lsA hy)
end
section
/-! rows for jm_J, printed by wip/whole/rows.py: instructions that touch stack and locals alone -/
section JR
variable {M : jm_M} {pc pc' : Nat} {ls : List (Nat × Value)} {st : List Value} {h : jm_H} {kc ks : Nat} {X : jm_X}
theorem jm_filt (ad : Nat → Nat) (P : Nat → Nat → Bool) (ls : List (Nat × Value)) : jm_L ad (ls.filter (fun q => P q.1 q.2.category)) = (jm_L ad ls).filter (fun q => P q.1 q.2.category) := by
  unfold jm_L
  rw [List.filter_map]
  congr 1
  apply List.filter_congr
  intro q _
  simp [Function.comp, jm_cat]

theorem jj_iadd {x y : Int32} (hd : decode (jm_by M) pc = .ok (.iadd, 1)) (hp : pc + 1 = pc') (k : jm_J M pc' ls (.int (x + y) :: st) h kc ks X) : jm_J M pc ls (.int y :: .int x :: st) h kc ks X := by
  subst hp
  intro p l e R s m args below meth c N0 dC dI dA ad0 n0 Q C ad H locs lsA hy
  obtain ⟨hx, hb, hml, hown, hts, -⟩ := id C
  exact lv_iadd hx hb hd (k p l e R s m args below meth c N0 dC dI dA ad0 n0 Q C ad H locs lsA hy)
theorem jj_isub {x y : Int32} (hd : decode (jm_by M) pc = .ok (.isub, 1)) (hp : pc + 1 = pc') (k : jm_J M pc' ls (.int (x - y) :: st) h kc ks X) : jm_J M pc ls (.int y :: .int x :: st) h kc ks X := by
  subst hp
  intro p l e R s m args below meth c N0 dC dI dA ad0 n0 Q C ad H locs lsA hy
  obtain ⟨hx, hb, hml, hown, hts, -⟩ := id C
  exact lv_isub hx hb hd (k p l e R s m args below meth c N0 dC dI dA ad0 n0 Q C ad H locs lsA hy)
theorem jj_imul {x y : Int32} (hd : decode (jm_by M) pc = .ok (.imul, 1)) (hp : pc + 1 = pc') (k : jm_J M pc' ls (.int (x * y) :: st) h kc ks X) : jm_J M pc ls (.int y :: .int x :: st) h kc ks X := by
  subst hp
  intro p l e R s m args below meth c N0 dC dI dA ad0 n0 Q C ad H locs lsA hy
  obtain ⟨hx, hb, hml, hown, hts, -⟩ := id C
  exact lv_imul hx hb hd (k p l e R s m args below meth c N0 dC dI dA ad0 n0 Q C ad H locs lsA hy)
theorem jj_iand {x y : Int32} (hd : decode (jm_by M) pc = .ok (.iand, 1)) (hp : pc + 1 = pc') (k : jm_J M pc' ls (.int (x &&& y) :: st) h kc ks X) : jm_J M pc ls (.int y :: .int x :: st) h kc ks X := by
  subst hp
  intro p l e R s m args below meth c N0 dC dI dA ad0 n0 Q C ad H locs lsA hy
  obtain ⟨hx, hb, hml, hown, hts, -⟩ := id C
  exact lv_iand hx hb hd (k p l e R s m args below meth c N0 dC dI dA ad0 n0 Q C ad H locs lsA hy)
theorem jj_ior {x y : Int32} (hd : decode (jm_by M) pc = .ok (.ior, 1)) (hp : pc + 1 = pc') (k : jm_J M pc' ls (.int (x ||| y) :: st) h kc ks X) : jm_J M pc ls (.int y :: .int x :: st) h kc ks X := by
  subst hp
  intro p l e R s m args below meth c N0 dC dI dA ad0 n0 Q C ad H locs lsA hy
  obtain ⟨hx, hb, hml, hown, hts, -⟩ := id C
  exact lv_ior hx hb hd (k p l e R s m args below meth c N0 dC dI dA ad0 n0 Q C ad H locs lsA hy)
theorem jj_ixor {x y : Int32} (hd : decode (jm_by M) pc = .ok (.ixor, 1)) (hp : pc + 1 = pc') (k : jm_J M pc' ls (.int (x ^^^ y) :: st) h kc ks X) : jm_J M pc ls (.int y :: .int x :: st) h kc ks X := by
  subst hp
  intro p l e R s m args below meth c N0 dC dI dA ad0 n0 Q C ad H locs lsA hy
  obtain ⟨hx, hb, hml, hown, hts, -⟩ := id C
  exact lv_ixor hx hb hd (k p l e R s m args below meth c N0 dC dI dA ad0 n0 Q C ad H locs lsA hy)
theorem jj_ishl {x y : Int32} (hd : decode (jm_by M) pc = .ok (.ishl, 1)) (hp : pc + 1 = pc') (k : jm_J M pc' ls (.int (x <<< (y &&& 31)) :: st) h kc ks X) : jm_J M pc ls (.int y :: .int x :: st) h kc ks X := by
  subst hp
  intro p l e R s m args below meth c N0 dC dI dA ad0 n0 Q C ad H locs lsA hy
  obtain ⟨hx, hb, hml, hown, hts, -⟩ := id C
  exact lv_ishl hx hb hd (k p l e R s m args below meth c N0 dC dI dA ad0 n0 Q C ad H locs lsA hy)
theorem jj_ishr {x y : Int32} (hd : decode (jm_by M) pc = .ok (.ishr, 1)) (hp : pc + 1 = pc') (k : jm_J M pc' ls (.int (x >>> (y &&& 31)) :: st) h kc ks X) : jm_J M pc ls (.int y :: .int x :: st) h kc ks X := by
  subst hp
  intro p l e R s m args below meth c N0 dC dI dA ad0 n0 Q C ad H locs lsA hy
  obtain ⟨hx, hb, hml, hown, hts, -⟩ := id C
  exact lv_ishr hx hb hd (k p l e R s m args below meth c N0 dC dI dA ad0 n0 Q C ad H locs lsA hy)
theorem jj_iushr {x y v : Int32} (hd : decode (jm_by M) pc = .ok (.iushr, 1)) (hv : (x.toUInt32 >>> (y.toUInt32 &&& Int32.toUInt32 31)).toInt32 = v) (hp : pc + 1 = pc') (k : jm_J M pc' ls (.int v :: st) h kc ks X) : jm_J M pc ls (.int y :: .int x :: st) h kc ks X := by
  subst hp
  intro p l e R s m args below meth c N0 dC dI dA ad0 n0 Q C ad H locs lsA hy
  obtain ⟨hx, hb, hml, hown, hts, -⟩ := id C
  exact lv_iushr hx hb hd hv (k p l e R s m args below meth c N0 dC dI dA ad0 n0 Q C ad H locs lsA hy)
theorem jj_idiv {x y : Int32} (hd : decode (jm_by M) pc = .ok (.idiv, 1)) (hne : ¬ y = 0) (hp : pc + 1 = pc') (k : jm_J M pc' ls (.int (x / y) :: st) h kc ks X) : jm_J M pc ls (.int y :: .int x :: st) h kc ks X := by
  subst hp
  intro p l e R s m args below meth c N0 dC dI dA ad0 n0 Q C ad H locs lsA hy
  obtain ⟨hx, hb, hml, hown, hts, -⟩ := id C
  exact lv_idiv hx hb hd hne (k p l e R s m args below meth c N0 dC dI dA ad0 n0 Q C ad H locs lsA hy)
theorem jj_irem {x y : Int32} (hd : decode (jm_by M) pc = .ok (.irem, 1)) (hne : ¬ y = 0) (hp : pc + 1 = pc') (k : jm_J M pc' ls (.int (x - x / y * y) :: st) h kc ks X) : jm_J M pc ls (.int y :: .int x :: st) h kc ks X := by
  subst hp
  intro p l e R s m args below meth c N0 dC dI dA ad0 n0 Q C ad H locs lsA hy
  obtain ⟨hx, hb, hml, hown, hts, -⟩ := id C
  exact lv_irem hx hb hd hne (k p l e R s m args below meth c N0 dC dI dA ad0 n0 Q C ad H locs lsA hy)
theorem jj_ladd {x y : Int64} (hd : decode (jm_by M) pc = .ok (.ladd, 1)) (hp : pc + 1 = pc') (k : jm_J M pc' ls (.long (x + y) :: st) h kc ks X) : jm_J M pc ls (.long y :: .long x :: st) h kc ks X := by
  subst hp
  intro p l e R s m args below meth c N0 dC dI dA ad0 n0 Q C ad H locs lsA hy
  obtain ⟨hx, hb, hml, hown, hts, -⟩ := id C
  exact lv_ladd hx hb hd (k p l e R s m args below meth c N0 dC dI dA ad0 n0 Q C ad H locs lsA hy)
theorem jj_lsub {x y : Int64} (hd : decode (jm_by M) pc = .ok (.lsub, 1)) (hp : pc + 1 = pc') (k : jm_J M pc' ls (.long (x - y) :: st) h kc ks X) : jm_J M pc ls (.long y :: .long x :: st) h kc ks X := by
  subst hp
  intro p l e R s m args below meth c N0 dC dI dA ad0 n0 Q C ad H locs lsA hy
  obtain ⟨hx, hb, hml, hown, hts, -⟩ := id C
  exact lv_lsub hx hb hd (k p l e R s m args below meth c N0 dC dI dA ad0 n0 Q C ad H locs lsA hy)
theorem jj_lmul {x y : Int64} (hd : decode (jm_by M) pc = .ok (.lmul, 1)) (hp : pc + 1 = pc') (k : jm_J M pc' ls (.long (x * y) :: st) h kc ks X) : jm_J M pc ls (.long y :: .long x :: st) h kc ks X := by
  subst hp
  intro p l e R s m args below meth c N0 dC dI dA ad0 n0 Q C ad H locs lsA hy
  obtain ⟨hx, hb, hml, hown, hts, -⟩ := id C
  exact lv_lmul hx hb hd (k p l e R s m args below meth c N0 dC dI dA ad0 n0 Q C ad H locs lsA hy)
theorem jj_lor {x y : Int64} (hd : decode (jm_by M) pc = .ok (.lor, 1)) (hp : pc + 1 = pc') (k : jm_J M pc' ls (.long (x ||| y) :: st) h kc ks X) : jm_J M pc ls (.long y :: .long x :: st) h kc ks X := by
  subst hp
  intro p l e R s m args below meth c N0 dC dI dA ad0 n0 Q C ad H locs lsA hy
  obtain ⟨hx, hb, hml, hown, hts, -⟩ := id C
  exact lv_lor hx hb hd (k p l e R s m args below meth c N0 dC dI dA ad0 n0 Q C ad H locs lsA hy)
theorem jj_lshl {x : Int64} {y : Int32} (hd : decode (jm_by M) pc = .ok (.lshl, 1)) (hp : pc + 1 = pc') (k : jm_J M pc' ls (.long (x <<< (y.toInt64 &&& 63)) :: st) h kc ks X) : jm_J M pc ls (.int y :: .long x :: st) h kc ks X := by
  subst hp
  intro p l e R s m args below meth c N0 dC dI dA ad0 n0 Q C ad H locs lsA hy
  obtain ⟨hx, hb, hml, hown, hts, -⟩ := id C
  exact lv_lshl hx hb hd rfl (k p l e R s m args below meth c N0 dC dI dA ad0 n0 Q C ad H locs lsA hy)
theorem jj_lcmp {x y : Int64} (hd : decode (jm_by M) pc = .ok (.lcmp, 1)) (hp : pc + 1 = pc') (k : jm_J M pc' ls (.int (lg_cmp x y) :: st) h kc ks X) : jm_J M pc ls (.long y :: .long x :: st) h kc ks X := by
  subst hp
  intro p l e R s m args below meth c N0 dC dI dA ad0 n0 Q C ad H locs lsA hy
  obtain ⟨hx, hb, hml, hown, hts, -⟩ := id C
  exact W.lcmp hx hb hd (k p l e R s m args below meth c N0 dC dI dA ad0 n0 Q C ad H locs lsA hy)
theorem jj_i2l {x : Int32} (hd : decode (jm_by M) pc = .ok (.i2l, 1)) (hp : pc + 1 = pc') (k : jm_J M pc' ls (.long x.toInt64 :: st) h kc ks X) : jm_J M pc ls (.int x :: st) h kc ks X := by
  subst hp
  intro p l e R s m args below meth c N0 dC dI dA ad0 n0 Q C ad H locs lsA hy
  obtain ⟨hx, hb, hml, hown, hts, -⟩ := id C
  exact lv_i2l hx hb hd rfl (k p l e R s m args below meth c N0 dC dI dA ad0 n0 Q C ad H locs lsA hy)
theorem jj_i2d {x : Int32} (hd : decode (jm_by M) pc = .ok (.i2d, 1)) (hp : pc + 1 = pc') (k : jm_J M pc' ls (.double (FP.i2d x) :: st) h kc ks X) : jm_J M pc ls (.int x :: st) h kc ks X := by
  subst hp
  intro p l e R s m args below meth c N0 dC dI dA ad0 n0 Q C ad H locs lsA hy
  obtain ⟨hx, hb, hml, hown, hts, -⟩ := id C
  exact lv_i2d hx hb hd (k p l e R s m args below meth c N0 dC dI dA ad0 n0 Q C ad H locs lsA hy)
theorem jj_d2l {x : UInt64} (hd : decode (jm_by M) pc = .ok (.d2l, 1)) (hp : pc + 1 = pc') (k : jm_J M pc' ls (.long (FP.d2l x) :: st) h kc ks X) : jm_J M pc ls (.double x :: st) h kc ks X := by
  subst hp
  intro p l e R s m args below meth c N0 dC dI dA ad0 n0 Q C ad H locs lsA hy
  obtain ⟨hx, hb, hml, hown, hts, -⟩ := id C
  exact lv_d2l hx hb hd (k p l e R s m args below meth c N0 dC dI dA ad0 n0 Q C ad H locs lsA hy)
theorem jj_dmul {x y : UInt64} (hd : decode (jm_by M) pc = .ok (.dmul, 1)) (hne : vf_n64 (FP.dmul x y)) (hp : pc + 1 = pc') (k : jm_J M pc' ls (.double (FP.dmul x y) :: st) h kc ks X) : jm_J M pc ls (.double y :: .double x :: st) h kc ks X := by
  subst hp
  intro p l e R s m args below meth c N0 dC dI dA ad0 n0 Q C ad H locs lsA hy
  obtain ⟨hx, hb, hml, hown, hts, -⟩ := id C
  exact lv_dmul hx hb hd hne (k p l e R s m args below meth c N0 dC dI dA ad0 n0 Q C ad H locs lsA hy)
theorem jj_dsub {x y : UInt64} (hd : decode (jm_by M) pc = .ok (.dsub, 1)) (hne : vf_n64 (FP.dsub x y)) (hp : pc + 1 = pc') (k : jm_J M pc' ls (.double (FP.dsub x y) :: st) h kc ks X) : jm_J M pc ls (.double y :: .double x :: st) h kc ks X := by
  subst hp
  intro p l e R s m args below meth c N0 dC dI dA ad0 n0 Q C ad H locs lsA hy
  obtain ⟨hx, hb, hml, hown, hts, -⟩ := id C
  exact lv_dsub hx hb hd hne (k p l e R s m args below meth c N0 dC dI dA ad0 n0 Q C ad H locs lsA hy)
theorem jj_ddiv {x y : UInt64} (hd : decode (jm_by M) pc = .ok (.ddiv, 1)) (hne : vf_n64 (FP.ddiv x y)) (hp : pc + 1 = pc') (k : jm_J M pc' ls (.double (FP.ddiv x y) :: st) h kc ks X) : jm_J M pc ls (.double y :: .double x :: st) h kc ks X := by
  subst hp
  intro p l e R s m args below meth c N0 dC dI dA ad0 n0 Q C ad H locs lsA hy
  obtain ⟨hx, hb, hml, hown, hts, -⟩ := id C
  exact lv_ddiv hx hb hd hne (k p l e R s m args below meth c N0 dC dI dA ad0 n0 Q C ad H locs lsA hy)
theorem jj_dcmp {x y : UInt64} {op : CmpOp} (hd : decode (jm_by M) pc = .ok (.dcmp op, 1)) (hp : pc + 1 = pc') (k : jm_J M pc' ls (.int (Op.cmpValue (FP.dcmp x y) op) :: st) h kc ks X) : jm_J M pc ls (.double y :: .double x :: st) h kc ks X := by
  subst hp
  intro p l e R s m args below meth c N0 dC dI dA ad0 n0 Q C ad H locs lsA hy
  obtain ⟨hx, hb, hml, hown, hts, -⟩ := id C
  exact lv_dcmp hx hb hd (k p l e R s m args below meth c N0 dC dI dA ad0 n0 Q C ad H locs lsA hy)
theorem jj_iconst {n : Int} {v : Int32} (hd : decode (jm_by M) pc = .ok (.iconst n, 1)) (hv : Int32.ofInt n = v) (hp : pc + 1 = pc') (k : jm_J M pc' ls (.int v :: st) h kc ks X) : jm_J M pc ls (st) h kc ks X := by
  subst hp
  intro p l e R s m args below meth c N0 dC dI dA ad0 n0 Q C ad H locs lsA hy
  obtain ⟨hx, hb, hml, hown, hts, -⟩ := id C
  exact lv_iconst hx hb hd hv (k p l e R s m args below meth c N0 dC dI dA ad0 n0 Q C ad H locs lsA hy)
theorem jj_bipush {n : Int} {v : Int32} (hd : decode (jm_by M) pc = .ok (.bipush n, 2)) (hv : (Int8.ofInt n).toInt32 = v) (hp : pc + 2 = pc') (k : jm_J M pc' ls (.int v :: st) h kc ks X) : jm_J M pc ls (st) h kc ks X := by
  subst hp
  intro p l e R s m args below meth c N0 dC dI dA ad0 n0 Q C ad H locs lsA hy
  obtain ⟨hx, hb, hml, hown, hts, -⟩ := id C
  exact lv_bipush hx hb hd hv (k p l e R s m args below meth c N0 dC dI dA ad0 n0 Q C ad H locs lsA hy)
theorem jj_sipush {n : Int} {v : Int32} (hd : decode (jm_by M) pc = .ok (.sipush n, 3)) (hv : (Int16.ofInt n).toInt32 = v) (hp : pc + 3 = pc') (k : jm_J M pc' ls (.int v :: st) h kc ks X) : jm_J M pc ls (st) h kc ks X := by
  subst hp
  intro p l e R s m args below meth c N0 dC dI dA ad0 n0 Q C ad H locs lsA hy
  obtain ⟨hx, hb, hml, hown, hts, -⟩ := id C
  exact lv_sipush hx hb hd hv (k p l e R s m args below meth c N0 dC dI dA ad0 n0 Q C ad H locs lsA hy)
theorem jj_lconst {n : Fin 2} {v : Int64} (hd : decode (jm_by M) pc = .ok (.lconst n, 1)) (hv : Int64.ofNat (n : Nat) = v) (hp : pc + 1 = pc') (k : jm_J M pc' ls (.long v :: st) h kc ks X) : jm_J M pc ls (st) h kc ks X := by
  subst hp
  intro p l e R s m args below meth c N0 dC dI dA ad0 n0 Q C ad H locs lsA hy
  obtain ⟨hx, hb, hml, hown, hts, -⟩ := id C
  exact lv_lconst hx hb hd hv (k p l e R s m args below meth c N0 dC dI dA ad0 n0 Q C ad H locs lsA hy)
theorem jj_dconst0  (hd : decode (jm_by M) pc = .ok (.dconst 0, 1)) (hp : pc + 1 = pc') (k : jm_J M pc' ls (.double FP.dconst0 :: st) h kc ks X) : jm_J M pc ls (st) h kc ks X := by
  subst hp
  intro p l e R s m args below meth c N0 dC dI dA ad0 n0 Q C ad H locs lsA hy
  obtain ⟨hx, hb, hml, hown, hts, -⟩ := id C
  exact lv_dconst0 hx hb hd (k p l e R s m args below meth c N0 dC dI dA ad0 n0 Q C ad H locs lsA hy)
theorem jj_dconst1  (hd : decode (jm_by M) pc = .ok (.dconst 1, 1)) (hp : pc + 1 = pc') (k : jm_J M pc' ls (.double FP.dconst1 :: st) h kc ks X) : jm_J M pc ls (st) h kc ks X := by
  subst hp
  intro p l e R s m args below meth c N0 dC dI dA ad0 n0 Q C ad H locs lsA hy
  obtain ⟨hx, hb, hml, hown, hts, -⟩ := id C
  exact lv_dconst1 hx hb hd (k p l e R s m args below meth c N0 dC dI dA ad0 n0 Q C ad H locs lsA hy)
theorem jj_ldc {idx : Nat} {v : Int32} (hd : decode (jm_by M) pc = .ok (.ldc idx, 2)) (hw : Cond.constant (jm_ow M) idx v ∈ jm_WS) (hp : pc + 2 = pc') (k : jm_J M pc' ls (.int v :: st) h kc ks X) : jm_J M pc ls (st) h kc ks X := by
  subst hp
  intro p l e R s m args below meth c N0 dC dI dA ad0 n0 Q C ad H locs lsA hy
  obtain ⟨hx, hb, hml, hown, hts, -⟩ := id C
  exact lv_ldc hx hb hown (hts _ hw) hd (k p l e R s m args below meth c N0 dC dI dA ad0 n0 Q C ad H locs lsA hy)
theorem jj_ldc_w {idx : Nat} {v : Int32} (hd : decode (jm_by M) pc = .ok (.ldc_w idx, 3)) (hw : Cond.constant (jm_ow M) idx v ∈ jm_WS) (hp : pc + 3 = pc') (k : jm_J M pc' ls (.int v :: st) h kc ks X) : jm_J M pc ls (st) h kc ks X := by
  subst hp
  intro p l e R s m args below meth c N0 dC dI dA ad0 n0 Q C ad H locs lsA hy
  obtain ⟨hx, hb, hml, hown, hts, -⟩ := id C
  exact lv_ldcw hx hb hown (hts _ hw) hd (k p l e R s m args below meth c N0 dC dI dA ad0 n0 Q C ad H locs lsA hy)
theorem jj_ldc2l {idx : Nat} {v : Int64} (hd : decode (jm_by M) pc = .ok (.ldc2_w idx, 3)) (hw : Cond.constantLong (jm_ow M) idx v ∈ jm_WS) (hp : pc + 3 = pc') (k : jm_J M pc' ls (.long v :: st) h kc ks X) : jm_J M pc ls (st) h kc ks X := by
  subst hp
  intro p l e R s m args below meth c N0 dC dI dA ad0 n0 Q C ad H locs lsA hy
  obtain ⟨hx, hb, hml, hown, hts, -⟩ := id C
  exact lv_ldc2 hx hb hown (hts _ hw) hd (k p l e R s m args below meth c N0 dC dI dA ad0 n0 Q C ad H locs lsA hy)
theorem jj_ldc2d {idx : Nat} {v : UInt64} (hd : decode (jm_by M) pc = .ok (.ldc2_w idx, 3)) (hw : Cond.constantDouble (jm_ow M) idx v ∈ jm_WS) (hp : pc + 3 = pc') (k : jm_J M pc' ls (.double v :: st) h kc ks X) : jm_J M pc ls (st) h kc ks X := by
  subst hp
  intro p l e R s m args below meth c N0 dC dI dA ad0 n0 Q C ad H locs lsA hy
  obtain ⟨hx, hb, hml, hown, hts, -⟩ := id C
  exact lv_ldc2d hx hb hown (hts _ hw) hd (k p l e R s m args below meth c N0 dC dI dA ad0 n0 Q C ad H locs lsA hy)
theorem jj_dup {v : Value} (hd : decode (jm_by M) pc = .ok (.dup, 1)) (hv : v.category = 1) (hp : pc + 1 = pc') (k : jm_J M pc' ls (v :: v :: st) h kc ks X) : jm_J M pc ls (v :: st) h kc ks X := by
  subst hp
  intro p l e R s m args below meth c N0 dC dI dA ad0 n0 Q C ad H locs lsA hy
  obtain ⟨hx, hb, hml, hown, hts, -⟩ := id C
  exact lv_dup hx hb hd (by rw [jm_cat]; exact hv) (k p l e R s m args below meth c N0 dC dI dA ad0 n0 Q C ad H locs lsA hy)
theorem jj_pop {v : Value} (hd : decode (jm_by M) pc = .ok (.pop, 1)) (hv : v.category = 1) (hp : pc + 1 = pc') (k : jm_J M pc' ls (st) h kc ks X) : jm_J M pc ls (v :: st) h kc ks X := by
  subst hp
  intro p l e R s m args below meth c N0 dC dI dA ad0 n0 Q C ad H locs lsA hy
  obtain ⟨hx, hb, hml, hown, hts, -⟩ := id C
  exact lv_pop hx hb hd (by rw [jm_cat]; exact hv) (k p l e R s m args below meth c N0 dC dI dA ad0 n0 Q C ad H locs lsA hy)
theorem jj_dup2 {v u : Value} (hd : decode (jm_by M) pc = .ok (.dup2, 1)) (hv : v.category = 1) (hu : u.category = 1) (hp : pc + 1 = pc') (k : jm_J M pc' ls (v :: u :: v :: u :: st) h kc ks X) : jm_J M pc ls (v :: u :: st) h kc ks X := by
  subst hp
  intro p l e R s m args below meth c N0 dC dI dA ad0 n0 Q C ad H locs lsA hy
  obtain ⟨hx, hb, hml, hown, hts, -⟩ := id C
  exact lv_dup2_11 hx hb hd (by rw [jm_cat]; exact hv) (by rw [jm_cat]; exact hu) (k p l e R s m args below meth c N0 dC dI dA ad0 n0 Q C ad H locs lsA hy)
theorem jj_iload_n {j i : Nat} {n : Fin 4} {x : Int32} (hd : decode (jm_by M) pc = .ok (.iload_n n, 1)) (hi : (n : Nat) = i) (hl : ls[j]? = some (i, .int x)) (hp : pc + 1 = pc') (k : jm_J M pc' ls (.int x :: st) h kc ks X) : jm_J M pc ls (st) h kc ks X := by
  subst hp
  intro p l e R s m args below meth c N0 dC dI dA ad0 n0 Q C ad H locs lsA hy
  obtain ⟨hx, hb, hml, hown, hts, -⟩ := id C
  exact lv_iload_n hx hb hd hi (jm_at hy.2.2.2.2 (List.mem_of_getElem? hl)) (k p l e R s m args below meth c N0 dC dI dA ad0 n0 Q C ad H locs lsA hy)
theorem jj_iload {j i : Nat} {x : Int32} (hd : decode (jm_by M) pc = .ok (.iload i, 2)) (hl : ls[j]? = some (i, .int x)) (hp : pc + 2 = pc') (k : jm_J M pc' ls (.int x :: st) h kc ks X) : jm_J M pc ls (st) h kc ks X := by
  subst hp
  intro p l e R s m args below meth c N0 dC dI dA ad0 n0 Q C ad H locs lsA hy
  obtain ⟨hx, hb, hml, hown, hts, -⟩ := id C
  exact lv_iload hx hb hd (jm_at hy.2.2.2.2 (List.mem_of_getElem? hl)) (k p l e R s m args below meth c N0 dC dI dA ad0 n0 Q C ad H locs lsA hy)
theorem jj_lload_n {j i : Nat} {n : Fin 4} {x : Int64} (hd : decode (jm_by M) pc = .ok (.lload_n n, 1)) (hi : (n : Nat) = i) (hl : ls[j]? = some (i, .long x)) (hp : pc + 1 = pc') (k : jm_J M pc' ls (.long x :: st) h kc ks X) : jm_J M pc ls (st) h kc ks X := by
  subst hp
  intro p l e R s m args below meth c N0 dC dI dA ad0 n0 Q C ad H locs lsA hy
  obtain ⟨hx, hb, hml, hown, hts, -⟩ := id C
  exact lv_lload_n hx hb hd hi (jm_at hy.2.2.2.2 (List.mem_of_getElem? hl)) (k p l e R s m args below meth c N0 dC dI dA ad0 n0 Q C ad H locs lsA hy)
theorem jj_lload {j i : Nat} {x : Int64} (hd : decode (jm_by M) pc = .ok (.lload i, 2)) (hl : ls[j]? = some (i, .long x)) (hp : pc + 2 = pc') (k : jm_J M pc' ls (.long x :: st) h kc ks X) : jm_J M pc ls (st) h kc ks X := by
  subst hp
  intro p l e R s m args below meth c N0 dC dI dA ad0 n0 Q C ad H locs lsA hy
  obtain ⟨hx, hb, hml, hown, hts, -⟩ := id C
  exact lv_lload hx hb hd (jm_at hy.2.2.2.2 (List.mem_of_getElem? hl)) (k p l e R s m args below meth c N0 dC dI dA ad0 n0 Q C ad H locs lsA hy)
theorem jj_aload_n {j i : Nat} {n : Fin 4} {x : Nat} (hd : decode (jm_by M) pc = .ok (.aload_n n, 1)) (hi : (n : Nat) = i) (hl : ls[j]? = some (i, .ref x)) (hp : pc + 1 = pc') (k : jm_J M pc' ls (.ref x :: st) h kc ks X) : jm_J M pc ls (st) h kc ks X := by
  subst hp
  intro p l e R s m args below meth c N0 dC dI dA ad0 n0 Q C ad H locs lsA hy
  obtain ⟨hx, hb, hml, hown, hts, -⟩ := id C
  exact lv_aload_n hx hb hd hi (jm_at hy.2.2.2.2 (List.mem_of_getElem? hl)) (k p l e R s m args below meth c N0 dC dI dA ad0 n0 Q C ad H locs lsA hy)
theorem jj_aload {j i : Nat} {x : Nat} (hd : decode (jm_by M) pc = .ok (.aload i, 2)) (hl : ls[j]? = some (i, .ref x)) (hp : pc + 2 = pc') (k : jm_J M pc' ls (.ref x :: st) h kc ks X) : jm_J M pc ls (st) h kc ks X := by
  subst hp
  intro p l e R s m args below meth c N0 dC dI dA ad0 n0 Q C ad H locs lsA hy
  obtain ⟨hx, hb, hml, hown, hts, -⟩ := id C
  exact lv_aload hx hb hd (jm_at hy.2.2.2.2 (List.mem_of_getElem? hl)) (k p l e R s m args below meth c N0 dC dI dA ad0 n0 Q C ad H locs lsA hy)
theorem jj_dload_n {j i : Nat} {n : Fin 4} {x : UInt64} (hd : decode (jm_by M) pc = .ok (.dload_n n, 1)) (hi : (n : Nat) = i) (hl : ls[j]? = some (i, .double x)) (hp : pc + 1 = pc') (k : jm_J M pc' ls (.double x :: st) h kc ks X) : jm_J M pc ls (st) h kc ks X := by
  subst hp
  intro p l e R s m args below meth c N0 dC dI dA ad0 n0 Q C ad H locs lsA hy
  obtain ⟨hx, hb, hml, hown, hts, -⟩ := id C
  exact lv_dload_n hx hb hd hi (jm_at hy.2.2.2.2 (List.mem_of_getElem? hl)) (k p l e R s m args below meth c N0 dC dI dA ad0 n0 Q C ad H locs lsA hy)
theorem jj_dload {j i : Nat} {x : UInt64} (hd : decode (jm_by M) pc = .ok (.dload i, 2)) (hl : ls[j]? = some (i, .double x)) (hp : pc + 2 = pc') (k : jm_J M pc' ls (.double x :: st) h kc ks X) : jm_J M pc ls (st) h kc ks X := by
  subst hp
  intro p l e R s m args below meth c N0 dC dI dA ad0 n0 Q C ad H locs lsA hy
  obtain ⟨hx, hb, hml, hown, hts, -⟩ := id C
  exact lv_dload hx hb hd (jm_at hy.2.2.2.2 (List.mem_of_getElem? hl)) (k p l e R s m args below meth c N0 dC dI dA ad0 n0 Q C ad H locs lsA hy)
theorem jj_istore_n {i : Nat} {x : Int32} {ls' : List (Nat × Value)} {n : Fin 4} (hd : decode (jm_by M) pc = .ok (.istore_n n, 1)) (hi : (n : Nat) = i) (hn : i < jm_nL M) (hl : (i, (.int x : Value)) :: ls.filter (fun q => !(q.1 == i) && !(q.1 + 1 == i && q.2.category == 2)) = ls') (hp : pc + 1 = pc') (k : jm_J M pc' ls' st h kc ks X) : jm_J M pc ls (.int x :: st) h kc ks X := by
  subst hp
  intro p l e R s m args below meth c N0 dC dI dA ad0 n0 Q C ad H locs lsA hy
  obtain ⟨hx, hb, hml, hown, hts, -⟩ := id C
  refine lv_istore_n (x := x) (lv' := jm_L ad ls') hx hb hd hi hy.2.2.2.2 hn ?_ (fun lsA' hA' => k p l e R s m args below meth c N0 dC dI dA ad0 n0 Q C ad H locs lsA' (jm_lens hy hA'))
  rw [← hl]
  show _ = (i, (.int x : Value)) :: jm_L ad (ls.filter (fun q => !(q.1 == i) && !(q.1 + 1 == i && q.2.category == 2)))
  rw [show (fun q => !(q.1 == i) && !(q.1 + 1 == i && q.2.category == 2)) = (fun q : Nat × Value => (fun a b => !(a == i) && !(a + 1 == i && b == 2)) q.1 q.2.category) from rfl, jm_filt ad (fun a b => !(a == i) && !(a + 1 == i && b == 2))]
theorem jj_istore {i : Nat} {x : Int32} {ls' : List (Nat × Value)} (hd : decode (jm_by M) pc = .ok (.istore i, 2)) (hn : i < jm_nL M) (hl : (i, (.int x : Value)) :: ls.filter (fun q => !(q.1 == i) && !(q.1 + 1 == i && q.2.category == 2)) = ls') (hp : pc + 2 = pc') (k : jm_J M pc' ls' st h kc ks X) : jm_J M pc ls (.int x :: st) h kc ks X := by
  subst hp
  intro p l e R s m args below meth c N0 dC dI dA ad0 n0 Q C ad H locs lsA hy
  obtain ⟨hx, hb, hml, hown, hts, -⟩ := id C
  refine lv_istore (x := x) (lv' := jm_L ad ls') hx hb hd  hy.2.2.2.2 hn ?_ (fun lsA' hA' => k p l e R s m args below meth c N0 dC dI dA ad0 n0 Q C ad H locs lsA' (jm_lens hy hA'))
  rw [← hl]
  show _ = (i, (.int x : Value)) :: jm_L ad (ls.filter (fun q => !(q.1 == i) && !(q.1 + 1 == i && q.2.category == 2)))
  rw [show (fun q => !(q.1 == i) && !(q.1 + 1 == i && q.2.category == 2)) = (fun q : Nat × Value => (fun a b => !(a == i) && !(a + 1 == i && b == 2)) q.1 q.2.category) from rfl, jm_filt ad (fun a b => !(a == i) && !(a + 1 == i && b == 2))]
theorem jj_astore_n {i : Nat} {x : Nat} {ls' : List (Nat × Value)} {n : Fin 4} (hd : decode (jm_by M) pc = .ok (.astore_n n, 1)) (hi : (n : Nat) = i) (hn : i < jm_nL M) (hl : (i, (.ref x : Value)) :: ls.filter (fun q => !(q.1 == i) && !(q.1 + 1 == i && q.2.category == 2)) = ls') (hp : pc + 1 = pc') (k : jm_J M pc' ls' st h kc ks X) : jm_J M pc ls (.ref x :: st) h kc ks X := by
  subst hp
  intro p l e R s m args below meth c N0 dC dI dA ad0 n0 Q C ad H locs lsA hy
  obtain ⟨hx, hb, hml, hown, hts, -⟩ := id C
  refine lv_astore_n (x := (ad x)) (lv' := jm_L ad ls') hx hb hd hi hy.2.2.2.2 hn ?_ (fun lsA' hA' => k p l e R s m args below meth c N0 dC dI dA ad0 n0 Q C ad H locs lsA' (jm_lens hy hA'))
  rw [← hl]
  show _ = (i, (.ref (ad x) : Value)) :: jm_L ad (ls.filter (fun q => !(q.1 == i) && !(q.1 + 1 == i && q.2.category == 2)))
  rw [show (fun q => !(q.1 == i) && !(q.1 + 1 == i && q.2.category == 2)) = (fun q : Nat × Value => (fun a b => !(a == i) && !(a + 1 == i && b == 2)) q.1 q.2.category) from rfl, jm_filt ad (fun a b => !(a == i) && !(a + 1 == i && b == 2))]
theorem jj_astore {i : Nat} {x : Nat} {ls' : List (Nat × Value)} (hd : decode (jm_by M) pc = .ok (.astore i, 2)) (hn : i < jm_nL M) (hl : (i, (.ref x : Value)) :: ls.filter (fun q => !(q.1 == i) && !(q.1 + 1 == i && q.2.category == 2)) = ls') (hp : pc + 2 = pc') (k : jm_J M pc' ls' st h kc ks X) : jm_J M pc ls (.ref x :: st) h kc ks X := by
  subst hp
  intro p l e R s m args below meth c N0 dC dI dA ad0 n0 Q C ad H locs lsA hy
  obtain ⟨hx, hb, hml, hown, hts, -⟩ := id C
  refine lv_astore (x := (ad x)) (lv' := jm_L ad ls') hx hb hd  hy.2.2.2.2 hn ?_ (fun lsA' hA' => k p l e R s m args below meth c N0 dC dI dA ad0 n0 Q C ad H locs lsA' (jm_lens hy hA'))
  rw [← hl]
  show _ = (i, (.ref (ad x) : Value)) :: jm_L ad (ls.filter (fun q => !(q.1 == i) && !(q.1 + 1 == i && q.2.category == 2)))
  rw [show (fun q => !(q.1 == i) && !(q.1 + 1 == i && q.2.category == 2)) = (fun q : Nat × Value => (fun a b => !(a == i) && !(a + 1 == i && b == 2)) q.1 q.2.category) from rfl, jm_filt ad (fun a b => !(a == i) && !(a + 1 == i && b == 2))]
theorem jj_lstore_n {i : Nat} {x : Int64} {ls' : List (Nat × Value)} {n : Fin 4} (hd : decode (jm_by M) pc = .ok (.lstore_n n, 1)) (hi : (n : Nat) = i) (hn : i + 1 < jm_nL M) (hl : (i, (.long x : Value)) :: ls.filter (fun q => !(q.1 == i) && (!(q.1 == i + 1) && !(q.1 + 1 == i && q.2.category == 2))) = ls') (hp : pc + 1 = pc') (k : jm_J M pc' ls' st h kc ks X) : jm_J M pc ls (.long x :: st) h kc ks X := by
  subst hp
  intro p l e R s m args below meth c N0 dC dI dA ad0 n0 Q C ad H locs lsA hy
  obtain ⟨hx, hb, hml, hown, hts, -⟩ := id C
  refine lv_lstore_n (x := x) (lv' := jm_L ad ls') hx hb hd hi hy.2.2.2.2 hn ?_ (fun lsA' hA' => k p l e R s m args below meth c N0 dC dI dA ad0 n0 Q C ad H locs lsA' (jm_lens hy hA'))
  rw [← hl]
  show _ = (i, (.long x : Value)) :: jm_L ad (ls.filter (fun q => !(q.1 == i) && (!(q.1 == i + 1) && !(q.1 + 1 == i && q.2.category == 2))))
  rw [show (fun q => !(q.1 == i) && (!(q.1 == i + 1) && !(q.1 + 1 == i && q.2.category == 2))) = (fun q : Nat × Value => (fun a b => !(a == i) && (!(a == i + 1) && !(a + 1 == i && b == 2))) q.1 q.2.category) from rfl, jm_filt ad (fun a b => !(a == i) && (!(a == i + 1) && !(a + 1 == i && b == 2)))]
theorem jj_lstore {i : Nat} {x : Int64} {ls' : List (Nat × Value)} (hd : decode (jm_by M) pc = .ok (.lstore i, 2)) (hn : i + 1 < jm_nL M) (hl : (i, (.long x : Value)) :: ls.filter (fun q => !(q.1 == i) && (!(q.1 == i + 1) && !(q.1 + 1 == i && q.2.category == 2))) = ls') (hp : pc + 2 = pc') (k : jm_J M pc' ls' st h kc ks X) : jm_J M pc ls (.long x :: st) h kc ks X := by
  subst hp
  intro p l e R s m args below meth c N0 dC dI dA ad0 n0 Q C ad H locs lsA hy
  obtain ⟨hx, hb, hml, hown, hts, -⟩ := id C
  refine lv_lstore (x := x) (lv' := jm_L ad ls') hx hb hd  hy.2.2.2.2 hn ?_ (fun lsA' hA' => k p l e R s m args below meth c N0 dC dI dA ad0 n0 Q C ad H locs lsA' (jm_lens hy hA'))
  rw [← hl]
  show _ = (i, (.long x : Value)) :: jm_L ad (ls.filter (fun q => !(q.1 == i) && (!(q.1 == i + 1) && !(q.1 + 1 == i && q.2.category == 2))))
  rw [show (fun q => !(q.1 == i) && (!(q.1 == i + 1) && !(q.1 + 1 == i && q.2.category == 2))) = (fun q : Nat × Value => (fun a b => !(a == i) && (!(a == i + 1) && !(a + 1 == i && b == 2))) q.1 q.2.category) from rfl, jm_filt ad (fun a b => !(a == i) && (!(a == i + 1) && !(a + 1 == i && b == 2)))]
theorem jj_dstore_n {i : Nat} {x : UInt64} {ls' : List (Nat × Value)} {n : Fin 4} (hd : decode (jm_by M) pc = .ok (.dstore_n n, 1)) (hi : (n : Nat) = i) (hn : i + 1 < jm_nL M) (hl : (i, (.double x : Value)) :: ls.filter (fun q => !(q.1 == i) && (!(q.1 == i + 1) && !(q.1 + 1 == i && q.2.category == 2))) = ls') (hp : pc + 1 = pc') (k : jm_J M pc' ls' st h kc ks X) : jm_J M pc ls (.double x :: st) h kc ks X := by
  subst hp
  intro p l e R s m args below meth c N0 dC dI dA ad0 n0 Q C ad H locs lsA hy
  obtain ⟨hx, hb, hml, hown, hts, -⟩ := id C
  refine lv_dstore_n (x := x) (lv' := jm_L ad ls') hx hb hd hi hy.2.2.2.2 hn ?_ (fun lsA' hA' => k p l e R s m args below meth c N0 dC dI dA ad0 n0 Q C ad H locs lsA' (jm_lens hy hA'))
  rw [← hl]
  show _ = (i, (.double x : Value)) :: jm_L ad (ls.filter (fun q => !(q.1 == i) && (!(q.1 == i + 1) && !(q.1 + 1 == i && q.2.category == 2))))
  rw [show (fun q => !(q.1 == i) && (!(q.1 == i + 1) && !(q.1 + 1 == i && q.2.category == 2))) = (fun q : Nat × Value => (fun a b => !(a == i) && (!(a == i + 1) && !(a + 1 == i && b == 2))) q.1 q.2.category) from rfl, jm_filt ad (fun a b => !(a == i) && (!(a == i + 1) && !(a + 1 == i && b == 2)))]
theorem jj_dstore {i : Nat} {x : UInt64} {ls' : List (Nat × Value)} (hd : decode (jm_by M) pc = .ok (.dstore i, 2)) (hn : i + 1 < jm_nL M) (hl : (i, (.double x : Value)) :: ls.filter (fun q => !(q.1 == i) && (!(q.1 == i + 1) && !(q.1 + 1 == i && q.2.category == 2))) = ls') (hp : pc + 2 = pc') (k : jm_J M pc' ls' st h kc ks X) : jm_J M pc ls (.double x :: st) h kc ks X := by
  subst hp
  intro p l e R s m args below meth c N0 dC dI dA ad0 n0 Q C ad H locs lsA hy
  obtain ⟨hx, hb, hml, hown, hts, -⟩ := id C
  refine lv_dstore (x := x) (lv' := jm_L ad ls') hx hb hd  hy.2.2.2.2 hn ?_ (fun lsA' hA' => k p l e R s m args below meth c N0 dC dI dA ad0 n0 Q C ad H locs lsA' (jm_lens hy hA'))
  rw [← hl]
  show _ = (i, (.double x : Value)) :: jm_L ad (ls.filter (fun q => !(q.1 == i) && (!(q.1 == i + 1) && !(q.1 + 1 == i && q.2.category == 2))))
  rw [show (fun q => !(q.1 == i) && (!(q.1 == i + 1) && !(q.1 + 1 == i && q.2.category == 2))) = (fun q : Nat × Value => (fun a b => !(a == i) && (!(a == i + 1) && !(a + 1 == i && b == 2))) q.1 q.2.category) from rfl, jm_filt ad (fun a b => !(a == i) && (!(a == i + 1) && !(a + 1 == i && b == 2)))]
theorem jj_iinc {i j : Nat} {n : Int} {x v : Int32} {ls' : List (Nat × Value)} (hd : decode (jm_by M) pc = .ok (.iinc i n, 3)) (hj : ls[j]? = some (i, .int x)) (hv : x + Int32.ofInt n = v) (hn : i < jm_nL M) (hl : (i, (.int v : Value)) :: ls.filter (fun q => !(q.1 == i) && !(q.1 + 1 == i && q.2.category == 2)) = ls') (hp : pc + 3 = pc') (k : jm_J M pc' ls' st h kc ks X) : jm_J M pc ls st h kc ks X := by
  subst hp
  intro p l e R s m args below meth c N0 dC dI dA ad0 n0 Q C ad H locs lsA hy
  obtain ⟨hx, hb, hml, hown, hts, -⟩ := id C
  have hj' : (jm_L ad ls)[j]? = some (i, .int x) := by rw [jm_L, List.getElem?_map, hj]; rfl
  refine lv_iinc (k := j) (x := x) (v := v) (lv' := jm_L ad ls') hx hb hd hy.2.2.2.2 hj' hv hn ?_ (fun lsA' hA' => k p l e R s m args below meth c N0 dC dI dA ad0 n0 Q C ad H locs lsA' (jm_lens hy hA'))
  rw [← hl]
  show _ = (i, (.int v : Value)) :: jm_L ad (ls.filter (fun q => !(q.1 == i) && !(q.1 + 1 == i && q.2.category == 2)))
  rw [show (fun q : Nat × Value => !(q.1 == i) && !(q.1 + 1 == i && q.2.category == 2)) = (fun q : Nat × Value => (fun a b => !(a == i) && !(a + 1 == i && b == 2)) q.1 q.2.category) from rfl, jm_filt ad (fun a b => !(a == i) && !(a + 1 == i && b == 2))]
theorem jj_if_eq {x : Int32} {off : Int} {tgt : Nat} {A B : Option jm_X} (hd : decode (jm_by M) pc = .ok (.ifCond .eq off, 3)) (ht : (pc : Int) + off = (tgt : Int)) (hp : pc + 3 = pc') (kt : x = 0 → A = some X → jm_J M tgt ls st h kc ks X) (kf : ¬ x = 0 → B = some X → jm_J M pc' ls st h kc ks X) (hF : (if x = 0 then A else B) = some X) : jm_J M pc ls (.int x :: st) h kc ks X := by
  subst hp
  intro p l e R s m args below meth c N0 dC dI dA ad0 n0 Q C ad H locs lsA hy
  obtain ⟨hx, hb, hml, hown, hts, -⟩ := id C
  by_cases hc : x = 0
  · rw [if_pos hc] at hF
    exact lv_if_eq hx hb hd ht (fun hc => kt hc hF p l e R s m args below meth c N0 dC dI dA ad0 n0 Q C ad H locs lsA hy) (fun hc' => absurd hc hc')
  · rw [if_neg hc] at hF
    exact lv_if_eq hx hb hd ht (fun hc' => absurd hc' hc) (fun hc => kf hc hF p l e R s m args below meth c N0 dC dI dA ad0 n0 Q C ad H locs lsA hy)
theorem jj_if_eq_t {x : Int32} {off : Int} {tgt : Nat} (hd : decode (jm_by M) pc = .ok (.ifCond .eq off, 3)) (ht : (pc : Int) + off = (tgt : Int)) (hc : x = 0) (k : jm_J M tgt ls st h kc ks X) : jm_J M pc ls (.int x :: st) h kc ks X := by
  intro p l e R s m args below meth c N0 dC dI dA ad0 n0 Q C ad H locs lsA hy
  obtain ⟨hx, hb, hml, hown, hts, -⟩ := id C
  exact lv_if_eq hx hb hd ht (fun _ => k p l e R s m args below meth c N0 dC dI dA ad0 n0 Q C ad H locs lsA hy) (fun hc' => absurd hc hc')
theorem jj_if_eq_f {x : Int32} {off : Int} (hd : decode (jm_by M) pc = .ok (.ifCond .eq off, 3)) (hp : pc + 3 = pc') (hc : ¬ x = 0) (tgt : Nat) (ht : (pc : Int) + off = (tgt : Int)) (k : jm_J M pc' ls st h kc ks X) : jm_J M pc ls (.int x :: st) h kc ks X := by
  subst hp
  intro p l e R s m args below meth c N0 dC dI dA ad0 n0 Q C ad H locs lsA hy
  obtain ⟨hx, hb, hml, hown, hts, -⟩ := id C
  exact lv_if_eq hx hb hd ht (fun hc' => absurd hc' hc) (fun _ => k p l e R s m args below meth c N0 dC dI dA ad0 n0 Q C ad H locs lsA hy)
theorem jj_if_ne {x : Int32} {off : Int} {tgt : Nat} {A B : Option jm_X} (hd : decode (jm_by M) pc = .ok (.ifCond .ne off, 3)) (ht : (pc : Int) + off = (tgt : Int)) (hp : pc + 3 = pc') (kt : ¬ x = 0 → A = some X → jm_J M tgt ls st h kc ks X) (kf : x = 0 → B = some X → jm_J M pc' ls st h kc ks X) (hF : (if x = 0 then B else A) = some X) : jm_J M pc ls (.int x :: st) h kc ks X := by
  subst hp
  intro p l e R s m args below meth c N0 dC dI dA ad0 n0 Q C ad H locs lsA hy
  obtain ⟨hx, hb, hml, hown, hts, -⟩ := id C
  by_cases hc : x = 0
  · rw [if_pos hc] at hF
    exact lv_if_ne hx hb hd ht (fun hc' => absurd hc hc') (fun hc => kf hc hF p l e R s m args below meth c N0 dC dI dA ad0 n0 Q C ad H locs lsA hy)
  · rw [if_neg hc] at hF
    exact lv_if_ne hx hb hd ht (fun hc => kt hc hF p l e R s m args below meth c N0 dC dI dA ad0 n0 Q C ad H locs lsA hy) (fun hc' => absurd hc' hc)
theorem jj_if_ne_t {x : Int32} {off : Int} {tgt : Nat} (hd : decode (jm_by M) pc = .ok (.ifCond .ne off, 3)) (ht : (pc : Int) + off = (tgt : Int)) (hc : ¬ x = 0) (k : jm_J M tgt ls st h kc ks X) : jm_J M pc ls (.int x :: st) h kc ks X := by
  intro p l e R s m args below meth c N0 dC dI dA ad0 n0 Q C ad H locs lsA hy
  obtain ⟨hx, hb, hml, hown, hts, -⟩ := id C
  exact lv_if_ne hx hb hd ht (fun _ => k p l e R s m args below meth c N0 dC dI dA ad0 n0 Q C ad H locs lsA hy) (fun hc' => absurd hc' hc)
theorem jj_if_ne_f {x : Int32} {off : Int} (hd : decode (jm_by M) pc = .ok (.ifCond .ne off, 3)) (hp : pc + 3 = pc') (hc : x = 0) (tgt : Nat) (ht : (pc : Int) + off = (tgt : Int)) (k : jm_J M pc' ls st h kc ks X) : jm_J M pc ls (.int x :: st) h kc ks X := by
  subst hp
  intro p l e R s m args below meth c N0 dC dI dA ad0 n0 Q C ad H locs lsA hy
  obtain ⟨hx, hb, hml, hown, hts, -⟩ := id C
  exact lv_if_ne hx hb hd ht (fun hc' => absurd hc hc') (fun _ => k p l e R s m args below meth c N0 dC dI dA ad0 n0 Q C ad H locs lsA hy)
theorem jj_if_lt {x : Int32} {off : Int} {tgt : Nat} {A B : Option jm_X} (hd : decode (jm_by M) pc = .ok (.ifCond .lt off, 3)) (ht : (pc : Int) + off = (tgt : Int)) (hp : pc + 3 = pc') (kt : x < 0 → A = some X → jm_J M tgt ls st h kc ks X) (kf : ¬ x < 0 → B = some X → jm_J M pc' ls st h kc ks X) (hF : (if x < 0 then A else B) = some X) : jm_J M pc ls (.int x :: st) h kc ks X := by
  subst hp
  intro p l e R s m args below meth c N0 dC dI dA ad0 n0 Q C ad H locs lsA hy
  obtain ⟨hx, hb, hml, hown, hts, -⟩ := id C
  by_cases hc : x < 0
  · rw [if_pos hc] at hF
    exact lv_if_lt hx hb hd ht (fun hc => kt hc hF p l e R s m args below meth c N0 dC dI dA ad0 n0 Q C ad H locs lsA hy) (fun hc' => absurd hc hc')
  · rw [if_neg hc] at hF
    exact lv_if_lt hx hb hd ht (fun hc' => absurd hc' hc) (fun hc => kf hc hF p l e R s m args below meth c N0 dC dI dA ad0 n0 Q C ad H locs lsA hy)
theorem jj_if_lt_t {x : Int32} {off : Int} {tgt : Nat} (hd : decode (jm_by M) pc = .ok (.ifCond .lt off, 3)) (ht : (pc : Int) + off = (tgt : Int)) (hc : x < 0) (k : jm_J M tgt ls st h kc ks X) : jm_J M pc ls (.int x :: st) h kc ks X := by
  intro p l e R s m args below meth c N0 dC dI dA ad0 n0 Q C ad H locs lsA hy
  obtain ⟨hx, hb, hml, hown, hts, -⟩ := id C
  exact lv_if_lt hx hb hd ht (fun _ => k p l e R s m args below meth c N0 dC dI dA ad0 n0 Q C ad H locs lsA hy) (fun hc' => absurd hc hc')
theorem jj_if_lt_f {x : Int32} {off : Int} (hd : decode (jm_by M) pc = .ok (.ifCond .lt off, 3)) (hp : pc + 3 = pc') (hc : ¬ x < 0) (tgt : Nat) (ht : (pc : Int) + off = (tgt : Int)) (k : jm_J M pc' ls st h kc ks X) : jm_J M pc ls (.int x :: st) h kc ks X := by
  subst hp
  intro p l e R s m args below meth c N0 dC dI dA ad0 n0 Q C ad H locs lsA hy
  obtain ⟨hx, hb, hml, hown, hts, -⟩ := id C
  exact lv_if_lt hx hb hd ht (fun hc' => absurd hc' hc) (fun _ => k p l e R s m args below meth c N0 dC dI dA ad0 n0 Q C ad H locs lsA hy)
theorem jj_if_ge {x : Int32} {off : Int} {tgt : Nat} {A B : Option jm_X} (hd : decode (jm_by M) pc = .ok (.ifCond .ge off, 3)) (ht : (pc : Int) + off = (tgt : Int)) (hp : pc + 3 = pc') (kt : 0 ≤ x → A = some X → jm_J M tgt ls st h kc ks X) (kf : ¬ 0 ≤ x → B = some X → jm_J M pc' ls st h kc ks X) (hF : (if 0 ≤ x then A else B) = some X) : jm_J M pc ls (.int x :: st) h kc ks X := by
  subst hp
  intro p l e R s m args below meth c N0 dC dI dA ad0 n0 Q C ad H locs lsA hy
  obtain ⟨hx, hb, hml, hown, hts, -⟩ := id C
  by_cases hc : 0 ≤ x
  · rw [if_pos hc] at hF
    exact lv_if_ge hx hb hd ht (fun hc => kt hc hF p l e R s m args below meth c N0 dC dI dA ad0 n0 Q C ad H locs lsA hy) (fun hc' => absurd hc hc')
  · rw [if_neg hc] at hF
    exact lv_if_ge hx hb hd ht (fun hc' => absurd hc' hc) (fun hc => kf hc hF p l e R s m args below meth c N0 dC dI dA ad0 n0 Q C ad H locs lsA hy)
theorem jj_if_ge_t {x : Int32} {off : Int} {tgt : Nat} (hd : decode (jm_by M) pc = .ok (.ifCond .ge off, 3)) (ht : (pc : Int) + off = (tgt : Int)) (hc : 0 ≤ x) (k : jm_J M tgt ls st h kc ks X) : jm_J M pc ls (.int x :: st) h kc ks X := by
  intro p l e R s m args below meth c N0 dC dI dA ad0 n0 Q C ad H locs lsA hy
  obtain ⟨hx, hb, hml, hown, hts, -⟩ := id C
  exact lv_if_ge hx hb hd ht (fun _ => k p l e R s m args below meth c N0 dC dI dA ad0 n0 Q C ad H locs lsA hy) (fun hc' => absurd hc hc')
theorem jj_if_ge_f {x : Int32} {off : Int} (hd : decode (jm_by M) pc = .ok (.ifCond .ge off, 3)) (hp : pc + 3 = pc') (hc : ¬ 0 ≤ x) (tgt : Nat) (ht : (pc : Int) + off = (tgt : Int)) (k : jm_J M pc' ls st h kc ks X) : jm_J M pc ls (.int x :: st) h kc ks X := by
  subst hp
  intro p l e R s m args below meth c N0 dC dI dA ad0 n0 Q C ad H locs lsA hy
  obtain ⟨hx, hb, hml, hown, hts, -⟩ := id C
  exact lv_if_ge hx hb hd ht (fun hc' => absurd hc' hc) (fun _ => k p l e R s m args below meth c N0 dC dI dA ad0 n0 Q C ad H locs lsA hy)
theorem jj_if_gt {x : Int32} {off : Int} {tgt : Nat} {A B : Option jm_X} (hd : decode (jm_by M) pc = .ok (.ifCond .gt off, 3)) (ht : (pc : Int) + off = (tgt : Int)) (hp : pc + 3 = pc') (kt : 0 < x → A = some X → jm_J M tgt ls st h kc ks X) (kf : ¬ 0 < x → B = some X → jm_J M pc' ls st h kc ks X) (hF : (if 0 < x then A else B) = some X) : jm_J M pc ls (.int x :: st) h kc ks X := by
  subst hp
  intro p l e R s m args below meth c N0 dC dI dA ad0 n0 Q C ad H locs lsA hy
  obtain ⟨hx, hb, hml, hown, hts, -⟩ := id C
  by_cases hc : 0 < x
  · rw [if_pos hc] at hF
    exact lv_if_gt hx hb hd ht (fun hc => kt hc hF p l e R s m args below meth c N0 dC dI dA ad0 n0 Q C ad H locs lsA hy) (fun hc' => absurd hc hc')
  · rw [if_neg hc] at hF
    exact lv_if_gt hx hb hd ht (fun hc' => absurd hc' hc) (fun hc => kf hc hF p l e R s m args below meth c N0 dC dI dA ad0 n0 Q C ad H locs lsA hy)
theorem jj_if_gt_t {x : Int32} {off : Int} {tgt : Nat} (hd : decode (jm_by M) pc = .ok (.ifCond .gt off, 3)) (ht : (pc : Int) + off = (tgt : Int)) (hc : 0 < x) (k : jm_J M tgt ls st h kc ks X) : jm_J M pc ls (.int x :: st) h kc ks X := by
  intro p l e R s m args below meth c N0 dC dI dA ad0 n0 Q C ad H locs lsA hy
  obtain ⟨hx, hb, hml, hown, hts, -⟩ := id C
  exact lv_if_gt hx hb hd ht (fun _ => k p l e R s m args below meth c N0 dC dI dA ad0 n0 Q C ad H locs lsA hy) (fun hc' => absurd hc hc')
theorem jj_if_gt_f {x : Int32} {off : Int} (hd : decode (jm_by M) pc = .ok (.ifCond .gt off, 3)) (hp : pc + 3 = pc') (hc : ¬ 0 < x) (tgt : Nat) (ht : (pc : Int) + off = (tgt : Int)) (k : jm_J M pc' ls st h kc ks X) : jm_J M pc ls (.int x :: st) h kc ks X := by
  subst hp
  intro p l e R s m args below meth c N0 dC dI dA ad0 n0 Q C ad H locs lsA hy
  obtain ⟨hx, hb, hml, hown, hts, -⟩ := id C
  exact lv_if_gt hx hb hd ht (fun hc' => absurd hc' hc) (fun _ => k p l e R s m args below meth c N0 dC dI dA ad0 n0 Q C ad H locs lsA hy)
theorem jj_if_le {x : Int32} {off : Int} {tgt : Nat} {A B : Option jm_X} (hd : decode (jm_by M) pc = .ok (.ifCond .le off, 3)) (ht : (pc : Int) + off = (tgt : Int)) (hp : pc + 3 = pc') (kt : x ≤ 0 → A = some X → jm_J M tgt ls st h kc ks X) (kf : ¬ x ≤ 0 → B = some X → jm_J M pc' ls st h kc ks X) (hF : (if x ≤ 0 then A else B) = some X) : jm_J M pc ls (.int x :: st) h kc ks X := by
  subst hp
  intro p l e R s m args below meth c N0 dC dI dA ad0 n0 Q C ad H locs lsA hy
  obtain ⟨hx, hb, hml, hown, hts, -⟩ := id C
  by_cases hc : x ≤ 0
  · rw [if_pos hc] at hF
    exact lv_if_le hx hb hd ht (fun hc => kt hc hF p l e R s m args below meth c N0 dC dI dA ad0 n0 Q C ad H locs lsA hy) (fun hc' => absurd hc hc')
  · rw [if_neg hc] at hF
    exact lv_if_le hx hb hd ht (fun hc' => absurd hc' hc) (fun hc => kf hc hF p l e R s m args below meth c N0 dC dI dA ad0 n0 Q C ad H locs lsA hy)
theorem jj_if_le_t {x : Int32} {off : Int} {tgt : Nat} (hd : decode (jm_by M) pc = .ok (.ifCond .le off, 3)) (ht : (pc : Int) + off = (tgt : Int)) (hc : x ≤ 0) (k : jm_J M tgt ls st h kc ks X) : jm_J M pc ls (.int x :: st) h kc ks X := by
  intro p l e R s m args below meth c N0 dC dI dA ad0 n0 Q C ad H locs lsA hy
  obtain ⟨hx, hb, hml, hown, hts, -⟩ := id C
  exact lv_if_le hx hb hd ht (fun _ => k p l e R s m args below meth c N0 dC dI dA ad0 n0 Q C ad H locs lsA hy) (fun hc' => absurd hc hc')
theorem jj_if_le_f {x : Int32} {off : Int} (hd : decode (jm_by M) pc = .ok (.ifCond .le off, 3)) (hp : pc + 3 = pc') (hc : ¬ x ≤ 0) (tgt : Nat) (ht : (pc : Int) + off = (tgt : Int)) (k : jm_J M pc' ls st h kc ks X) : jm_J M pc ls (.int x :: st) h kc ks X := by
  subst hp
  intro p l e R s m args below meth c N0 dC dI dA ad0 n0 Q C ad H locs lsA hy
  obtain ⟨hx, hb, hml, hown, hts, -⟩ := id C
  exact lv_if_le hx hb hd ht (fun hc' => absurd hc' hc) (fun _ => k p l e R s m args below meth c N0 dC dI dA ad0 n0 Q C ad H locs lsA hy)
theorem jj_icmp_eq {x y : Int32} {off : Int} {tgt : Nat} {A B : Option jm_X} (hd : decode (jm_by M) pc = .ok (.if_icmp .eq off, 3)) (ht : (pc : Int) + off = (tgt : Int)) (hp : pc + 3 = pc') (kt : x = y → A = some X → jm_J M tgt ls st h kc ks X) (kf : ¬ x = y → B = some X → jm_J M pc' ls st h kc ks X) (hF : (if x = y then A else B) = some X) : jm_J M pc ls (.int y :: .int x :: st) h kc ks X := by
  subst hp
  intro p l e R s m args below meth c N0 dC dI dA ad0 n0 Q C ad H locs lsA hy
  obtain ⟨hx, hb, hml, hown, hts, -⟩ := id C
  by_cases hc : x = y
  · rw [if_pos hc] at hF
    exact lv_icmp_eq hx hb hd ht (fun hc => kt hc hF p l e R s m args below meth c N0 dC dI dA ad0 n0 Q C ad H locs lsA hy) (fun hc' => absurd hc hc')
  · rw [if_neg hc] at hF
    exact lv_icmp_eq hx hb hd ht (fun hc' => absurd hc' hc) (fun hc => kf hc hF p l e R s m args below meth c N0 dC dI dA ad0 n0 Q C ad H locs lsA hy)
theorem jj_icmp_eq_t {x y : Int32} {off : Int} {tgt : Nat} (hd : decode (jm_by M) pc = .ok (.if_icmp .eq off, 3)) (ht : (pc : Int) + off = (tgt : Int)) (hc : x = y) (k : jm_J M tgt ls st h kc ks X) : jm_J M pc ls (.int y :: .int x :: st) h kc ks X := by
  intro p l e R s m args below meth c N0 dC dI dA ad0 n0 Q C ad H locs lsA hy
  obtain ⟨hx, hb, hml, hown, hts, -⟩ := id C
  exact lv_icmp_eq hx hb hd ht (fun _ => k p l e R s m args below meth c N0 dC dI dA ad0 n0 Q C ad H locs lsA hy) (fun hc' => absurd hc hc')
theorem jj_icmp_eq_f {x y : Int32} {off : Int} (hd : decode (jm_by M) pc = .ok (.if_icmp .eq off, 3)) (hp : pc + 3 = pc') (hc : ¬ x = y) (tgt : Nat) (ht : (pc : Int) + off = (tgt : Int)) (k : jm_J M pc' ls st h kc ks X) : jm_J M pc ls (.int y :: .int x :: st) h kc ks X := by
  subst hp
  intro p l e R s m args below meth c N0 dC dI dA ad0 n0 Q C ad H locs lsA hy
  obtain ⟨hx, hb, hml, hown, hts, -⟩ := id C
  exact lv_icmp_eq hx hb hd ht (fun hc' => absurd hc' hc) (fun _ => k p l e R s m args below meth c N0 dC dI dA ad0 n0 Q C ad H locs lsA hy)
theorem jj_icmp_ne {x y : Int32} {off : Int} {tgt : Nat} {A B : Option jm_X} (hd : decode (jm_by M) pc = .ok (.if_icmp .ne off, 3)) (ht : (pc : Int) + off = (tgt : Int)) (hp : pc + 3 = pc') (kt : ¬ x = y → A = some X → jm_J M tgt ls st h kc ks X) (kf : x = y → B = some X → jm_J M pc' ls st h kc ks X) (hF : (if x = y then B else A) = some X) : jm_J M pc ls (.int y :: .int x :: st) h kc ks X := by
  subst hp
  intro p l e R s m args below meth c N0 dC dI dA ad0 n0 Q C ad H locs lsA hy
  obtain ⟨hx, hb, hml, hown, hts, -⟩ := id C
  by_cases hc : x = y
  · rw [if_pos hc] at hF
    exact lv_icmp_ne hx hb hd ht (fun hc' => absurd hc hc') (fun hc => kf hc hF p l e R s m args below meth c N0 dC dI dA ad0 n0 Q C ad H locs lsA hy)
  · rw [if_neg hc] at hF
    exact lv_icmp_ne hx hb hd ht (fun hc => kt hc hF p l e R s m args below meth c N0 dC dI dA ad0 n0 Q C ad H locs lsA hy) (fun hc' => absurd hc' hc)
theorem jj_icmp_ne_t {x y : Int32} {off : Int} {tgt : Nat} (hd : decode (jm_by M) pc = .ok (.if_icmp .ne off, 3)) (ht : (pc : Int) + off = (tgt : Int)) (hc : ¬ x = y) (k : jm_J M tgt ls st h kc ks X) : jm_J M pc ls (.int y :: .int x :: st) h kc ks X := by
  intro p l e R s m args below meth c N0 dC dI dA ad0 n0 Q C ad H locs lsA hy
  obtain ⟨hx, hb, hml, hown, hts, -⟩ := id C
  exact lv_icmp_ne hx hb hd ht (fun _ => k p l e R s m args below meth c N0 dC dI dA ad0 n0 Q C ad H locs lsA hy) (fun hc' => absurd hc' hc)
theorem jj_icmp_ne_f {x y : Int32} {off : Int} (hd : decode (jm_by M) pc = .ok (.if_icmp .ne off, 3)) (hp : pc + 3 = pc') (hc : x = y) (tgt : Nat) (ht : (pc : Int) + off = (tgt : Int)) (k : jm_J M pc' ls st h kc ks X) : jm_J M pc ls (.int y :: .int x :: st) h kc ks X := by
  subst hp
  intro p l e R s m args below meth c N0 dC dI dA ad0 n0 Q C ad H locs lsA hy
  obtain ⟨hx, hb, hml, hown, hts, -⟩ := id C
  exact lv_icmp_ne hx hb hd ht (fun hc' => absurd hc hc') (fun _ => k p l e R s m args below meth c N0 dC dI dA ad0 n0 Q C ad H locs lsA hy)
theorem jj_icmp_lt {x y : Int32} {off : Int} {tgt : Nat} {A B : Option jm_X} (hd : decode (jm_by M) pc = .ok (.if_icmp .lt off, 3)) (ht : (pc : Int) + off = (tgt : Int)) (hp : pc + 3 = pc') (kt : x < y → A = some X → jm_J M tgt ls st h kc ks X) (kf : ¬ x < y → B = some X → jm_J M pc' ls st h kc ks X) (hF : (if x < y then A else B) = some X) : jm_J M pc ls (.int y :: .int x :: st) h kc ks X := by
  subst hp
  intro p l e R s m args below meth c N0 dC dI dA ad0 n0 Q C ad H locs lsA hy
  obtain ⟨hx, hb, hml, hown, hts, -⟩ := id C
  by_cases hc : x < y
  · rw [if_pos hc] at hF
    exact lv_icmp_lt hx hb hd ht (fun hc => kt hc hF p l e R s m args below meth c N0 dC dI dA ad0 n0 Q C ad H locs lsA hy) (fun hc' => absurd hc hc')
  · rw [if_neg hc] at hF
    exact lv_icmp_lt hx hb hd ht (fun hc' => absurd hc' hc) (fun hc => kf hc hF p l e R s m args below meth c N0 dC dI dA ad0 n0 Q C ad H locs lsA hy)
theorem jj_icmp_lt_t {x y : Int32} {off : Int} {tgt : Nat} (hd : decode (jm_by M) pc = .ok (.if_icmp .lt off, 3)) (ht : (pc : Int) + off = (tgt : Int)) (hc : x < y) (k : jm_J M tgt ls st h kc ks X) : jm_J M pc ls (.int y :: .int x :: st) h kc ks X := by
  intro p l e R s m args below meth c N0 dC dI dA ad0 n0 Q C ad H locs lsA hy
  obtain ⟨hx, hb, hml, hown, hts, -⟩ := id C
  exact lv_icmp_lt hx hb hd ht (fun _ => k p l e R s m args below meth c N0 dC dI dA ad0 n0 Q C ad H locs lsA hy) (fun hc' => absurd hc hc')
theorem jj_icmp_lt_f {x y : Int32} {off : Int} (hd : decode (jm_by M) pc = .ok (.if_icmp .lt off, 3)) (hp : pc + 3 = pc') (hc : ¬ x < y) (tgt : Nat) (ht : (pc : Int) + off = (tgt : Int)) (k : jm_J M pc' ls st h kc ks X) : jm_J M pc ls (.int y :: .int x :: st) h kc ks X := by
  subst hp
  intro p l e R s m args below meth c N0 dC dI dA ad0 n0 Q C ad H locs lsA hy
  obtain ⟨hx, hb, hml, hown, hts, -⟩ := id C
  exact lv_icmp_lt hx hb hd ht (fun hc' => absurd hc' hc) (fun _ => k p l e R s m args below meth c N0 dC dI dA ad0 n0 Q C ad H locs lsA hy)
theorem jj_icmp_ge {x y : Int32} {off : Int} {tgt : Nat} {A B : Option jm_X} (hd : decode (jm_by M) pc = .ok (.if_icmp .ge off, 3)) (ht : (pc : Int) + off = (tgt : Int)) (hp : pc + 3 = pc') (kt : y ≤ x → A = some X → jm_J M tgt ls st h kc ks X) (kf : ¬ y ≤ x → B = some X → jm_J M pc' ls st h kc ks X) (hF : (if y ≤ x then A else B) = some X) : jm_J M pc ls (.int y :: .int x :: st) h kc ks X := by
  subst hp
  intro p l e R s m args below meth c N0 dC dI dA ad0 n0 Q C ad H locs lsA hy
  obtain ⟨hx, hb, hml, hown, hts, -⟩ := id C
  by_cases hc : y ≤ x
  · rw [if_pos hc] at hF
    exact lv_icmp_ge hx hb hd ht (fun hc => kt hc hF p l e R s m args below meth c N0 dC dI dA ad0 n0 Q C ad H locs lsA hy) (fun hc' => absurd hc hc')
  · rw [if_neg hc] at hF
    exact lv_icmp_ge hx hb hd ht (fun hc' => absurd hc' hc) (fun hc => kf hc hF p l e R s m args below meth c N0 dC dI dA ad0 n0 Q C ad H locs lsA hy)
theorem jj_icmp_ge_t {x y : Int32} {off : Int} {tgt : Nat} (hd : decode (jm_by M) pc = .ok (.if_icmp .ge off, 3)) (ht : (pc : Int) + off = (tgt : Int)) (hc : y ≤ x) (k : jm_J M tgt ls st h kc ks X) : jm_J M pc ls (.int y :: .int x :: st) h kc ks X := by
  intro p l e R s m args below meth c N0 dC dI dA ad0 n0 Q C ad H locs lsA hy
  obtain ⟨hx, hb, hml, hown, hts, -⟩ := id C
  exact lv_icmp_ge hx hb hd ht (fun _ => k p l e R s m args below meth c N0 dC dI dA ad0 n0 Q C ad H locs lsA hy) (fun hc' => absurd hc hc')
theorem jj_icmp_ge_f {x y : Int32} {off : Int} (hd : decode (jm_by M) pc = .ok (.if_icmp .ge off, 3)) (hp : pc + 3 = pc') (hc : ¬ y ≤ x) (tgt : Nat) (ht : (pc : Int) + off = (tgt : Int)) (k : jm_J M pc' ls st h kc ks X) : jm_J M pc ls (.int y :: .int x :: st) h kc ks X := by
  subst hp
  intro p l e R s m args below meth c N0 dC dI dA ad0 n0 Q C ad H locs lsA hy
  obtain ⟨hx, hb, hml, hown, hts, -⟩ := id C
  exact lv_icmp_ge hx hb hd ht (fun hc' => absurd hc' hc) (fun _ => k p l e R s m args below meth c N0 dC dI dA ad0 n0 Q C ad H locs lsA hy)
theorem jj_icmp_gt {x y : Int32} {off : Int} {tgt : Nat} {A B : Option jm_X} (hd : decode (jm_by M) pc = .ok (.if_icmp .gt off, 3)) (ht : (pc : Int) + off = (tgt : Int)) (hp : pc + 3 = pc') (kt : y < x → A = some X → jm_J M tgt ls st h kc ks X) (kf : ¬ y < x → B = some X → jm_J M pc' ls st h kc ks X) (hF : (if y < x then A else B) = some X) : jm_J M pc ls (.int y :: .int x :: st) h kc ks X := by
  subst hp
  intro p l e R s m args below meth c N0 dC dI dA ad0 n0 Q C ad H locs lsA hy
  obtain ⟨hx, hb, hml, hown, hts, -⟩ := id C
  by_cases hc : y < x
  · rw [if_pos hc] at hF
    exact lv_icmp_gt hx hb hd ht (fun hc => kt hc hF p l e R s m args below meth c N0 dC dI dA ad0 n0 Q C ad H locs lsA hy) (fun hc' => absurd hc hc')
  · rw [if_neg hc] at hF
    exact lv_icmp_gt hx hb hd ht (fun hc' => absurd hc' hc) (fun hc => kf hc hF p l e R s m args below meth c N0 dC dI dA ad0 n0 Q C ad H locs lsA hy)
theorem jj_icmp_gt_t {x y : Int32} {off : Int} {tgt : Nat} (hd : decode (jm_by M) pc = .ok (.if_icmp .gt off, 3)) (ht : (pc : Int) + off = (tgt : Int)) (hc : y < x) (k : jm_J M tgt ls st h kc ks X) : jm_J M pc ls (.int y :: .int x :: st) h kc ks X := by
  intro p l e R s m args below meth c N0 dC dI dA ad0 n0 Q C ad H locs lsA hy
  obtain ⟨hx, hb, hml, hown, hts, -⟩ := id C
  exact lv_icmp_gt hx hb hd ht (fun _ => k p l e R s m args below meth c N0 dC dI dA ad0 n0 Q C ad H locs lsA hy) (fun hc' => absurd hc hc')
theorem jj_icmp_gt_f {x y : Int32} {off : Int} (hd : decode (jm_by M) pc = .ok (.if_icmp .gt off, 3)) (hp : pc + 3 = pc') (hc : ¬ y < x) (tgt : Nat) (ht : (pc : Int) + off = (tgt : Int)) (k : jm_J M pc' ls st h kc ks X) : jm_J M pc ls (.int y :: .int x :: st) h kc ks X := by
  subst hp
  intro p l e R s m args below meth c N0 dC dI dA ad0 n0 Q C ad H locs lsA hy
  obtain ⟨hx, hb, hml, hown, hts, -⟩ := id C
  exact lv_icmp_gt hx hb hd ht (fun hc' => absurd hc' hc) (fun _ => k p l e R s m args below meth c N0 dC dI dA ad0 n0 Q C ad H locs lsA hy)
theorem jj_icmp_le {x y : Int32} {off : Int} {tgt : Nat} {A B : Option jm_X} (hd : decode (jm_by M) pc = .ok (.if_icmp .le off, 3)) (ht : (pc : Int) + off = (tgt : Int)) (hp : pc + 3 = pc') (kt : x ≤ y → A = some X → jm_J M tgt ls st h kc ks X) (kf : ¬ x ≤ y → B = some X → jm_J M pc' ls st h kc ks X) (hF : (if x ≤ y then A else B) = some X) : jm_J M pc ls (.int y :: .int x :: st) h kc ks X := by
  subst hp
  intro p l e R s m args below meth c N0 dC dI dA ad0 n0 Q C ad H locs lsA hy
  obtain ⟨hx, hb, hml, hown, hts, -⟩ := id C
  by_cases hc : x ≤ y
  · rw [if_pos hc] at hF
    exact lv_icmp_le hx hb hd ht (fun hc => kt hc hF p l e R s m args below meth c N0 dC dI dA ad0 n0 Q C ad H locs lsA hy) (fun hc' => absurd hc hc')
  · rw [if_neg hc] at hF
    exact lv_icmp_le hx hb hd ht (fun hc' => absurd hc' hc) (fun hc => kf hc hF p l e R s m args below meth c N0 dC dI dA ad0 n0 Q C ad H locs lsA hy)
theorem jj_icmp_le_t {x y : Int32} {off : Int} {tgt : Nat} (hd : decode (jm_by M) pc = .ok (.if_icmp .le off, 3)) (ht : (pc : Int) + off = (tgt : Int)) (hc : x ≤ y) (k : jm_J M tgt ls st h kc ks X) : jm_J M pc ls (.int y :: .int x :: st) h kc ks X := by
  intro p l e R s m args below meth c N0 dC dI dA ad0 n0 Q C ad H locs lsA hy
  obtain ⟨hx, hb, hml, hown, hts, -⟩ := id C
  exact lv_icmp_le hx hb hd ht (fun _ => k p l e R s m args below meth c N0 dC dI dA ad0 n0 Q C ad H locs lsA hy) (fun hc' => absurd hc hc')
theorem jj_icmp_le_f {x y : Int32} {off : Int} (hd : decode (jm_by M) pc = .ok (.if_icmp .le off, 3)) (hp : pc + 3 = pc') (hc : ¬ x ≤ y) (tgt : Nat) (ht : (pc : Int) + off = (tgt : Int)) (k : jm_J M pc' ls st h kc ks X) : jm_J M pc ls (.int y :: .int x :: st) h kc ks X := by
  subst hp
  intro p l e R s m args below meth c N0 dC dI dA ad0 n0 Q C ad H locs lsA hy
  obtain ⟨hx, hb, hml, hown, hts, -⟩ := id C
  exact lv_icmp_le hx hb hd ht (fun hc' => absurd hc' hc) (fun _ => k p l e R s m args below meth c N0 dC dI dA ad0 n0 Q C ad H locs lsA hy)
theorem jj_goto {off : Int} {tgt : Nat} (hd : decode (jm_by M) pc = .ok (.goto off, 3)) (ht : (pc : Int) + off = (tgt : Int)) (k : jm_J M tgt ls st h kc ks X) : jm_J M pc ls st h kc ks X := by
  intro p l e R s m args below meth c N0 dC dI dA ad0 n0 Q C ad H locs lsA hy
  obtain ⟨hx, hb, hml, hown, hts, -⟩ := id C
  exact lv_goto hx hb hd ht (k p l e R s m args below meth c N0 dC dI dA ad0 n0 Q C ad H locs lsA hy)
theorem jj_ifnull {off : Int} {x : Nat} (hd : decode (jm_by M) pc = .ok (.ifnull off, 3)) (hp : pc + 3 = pc') (k : jm_J M pc' ls st h kc ks X) : jm_J M pc ls (.ref x :: st) h kc ks X := by
  subst hp
  intro p l e R s m args below meth c N0 dC dI dA ad0 n0 Q C ad H locs lsA hy
  obtain ⟨hx, hb, hml, hown, hts, -⟩ := id C
  exact lv_ifnull hx hb hd (k p l e R s m args below meth c N0 dC dI dA ad0 n0 Q C ad H locs lsA hy)
/-- a table of places: place i's branch is the i-th, what is out of it the last -/
def jf_sw (x : Int32) : Nat → List (Option jm_X) → Option jm_X → Option jm_X
  | _, [], d => d
  | k, a :: r, d => if x = nI k then a else jf_sw x (k + 1) r d
theorem jf_sw_out {x : Int32} {d : Option jm_X} : ∀ (bs : List (Option jm_X)) (k : Nat), (∀ i, i < bs.length → ¬ x = nI (k + i)) → jf_sw x k bs d = d
  | [], _, _ => rfl
  | a :: r, k, hne => by
    have h0 : ¬ x = nI k := by simpa using hne 0 (by simp)
    show (if x = nI k then a else jf_sw x (k + 1) r d) = d
    rw [if_neg h0]
    exact jf_sw_out r (k + 1) (fun i hi => by
      have := hne (i + 1) (by simpa using hi)
      rwa [show k + 1 + i = k + (i + 1) by omega])
theorem jf_sw_in {d : Option jm_X} : ∀ (bs : List (Option jm_X)) (k i : Nat) (b : Option jm_X), k + bs.length < 2 ^ 31 → bs[i]? = some b → jf_sw (nI (k + i)) k bs d = b
  | [], _, i, _, _, hb => by simp at hb
  | a :: r, k, 0, b, hk, hb => by
    show (if nI (k + 0) = nI k then a else _) = b
    rw [if_pos (show nI (k + 0) = nI k from rfl)]
    simpa using hb
  | a :: r, k, i + 1, b, hk, hb => by
    have hi : i < r.length := (List.getElem?_eq_some_iff.mp (by simpa using hb : r[i]? = some b)).1
    simp only [List.length_cons] at hk
    show (if nI (k + (i + 1)) = nI k then a else jf_sw (nI (k + (i + 1))) (k + 1) r d) = b
    rw [if_neg (fun he => by have := (nI_eq (by omega) (by omega)).mp he; omega), show k + (i + 1) = k + 1 + i by omega]
    exact jf_sw_in r (k + 1) i b (by omega) (by simpa using hb)
theorem jj_table {x : Int32} {dflt : Int} {offs : Array Int} {len N dt : Nat} {bs : List (Option jm_X)} {d : Option jm_X} (tgs : List Nat) (hd : decode (jm_by M) pc = .ok (.tableswitch dflt 0 ((N : Int) - 1) offs, len)) (hN : 0 < N ∧ N < 2 ^ 31 ∧ bs.length = N) (ho : ∀ i, i < N → ∃ (off : Int) (tg : Nat), offs[i]? = some off ∧ (pc : Int) + off = (tg : Int) ∧ tgs[i]? = some tg) (hdt : (pc : Int) + dflt = (dt : Int))
    (kt : ∀ (i : Nat) (b : Option jm_X) (tg : Nat), bs[i]? = some b → tgs[i]? = some tg → x = nI i → b = some X → jm_J M tg ls st h kc ks X) (kd : d = some X → jm_J M dt ls st h kc ks X) (hF : jf_sw x 0 bs d = some X) : jm_J M pc ls (.int x :: st) h kc ks X := by
  intro p l e R s m args below meth c N0 dC dI dA ad0 n0 Q C ad H locs lsA hy
  obtain ⟨hx, hb, hml, hown, hts, -⟩ := id C
  obtain ⟨hN0, hN1, hbl⟩ := hN
  by_cases hin : 0 ≤ x.toInt ∧ x.toInt < N
  · obtain ⟨i, hi⟩ : ∃ i : Nat, x.toInt = (i : Int) := ⟨x.toInt.toNat, by omega⟩
    have hiN : i < N := by omega
    have hxi : x = nI i := by
      apply Int32.toInt_inj.mp
      rw [nI_toInt (by omega)]
      exact hi
    obtain ⟨off, tg, h1, h2, h3⟩ := ho i hiN
    have hbi : bs[i]? = some bs[i] := List.getElem?_eq_getElem (by omega)
    have hF' : bs[i] = some X := by
      rw [hxi] at hF
      have := jf_sw_in (d := d) bs 0 i bs[i] (by omega) hbi
      rw [show (0 : Nat) + i = i by omega] at this
      rw [← this]; exact hF
    have hJ := kt i bs[i] tg hbi h3 hxi hF'
    refine lv_tableIn hx hb hd (by omega) (by omega) (off := off) (tgt := tg) ?_ h2 (hJ p l e R s m args below meth c N0 dC dI dA ad0 n0 Q C ad H locs lsA hy)
    rw [show (x.toInt - 0).toNat = i by omega]
    exact h1
  · have hout : jf_sw x 0 bs d = d := jf_sw_out bs 0 (fun i hi he => hin (by
      rw [he, show 0 + i = i by omega, nI_toInt (by omega)]
      omega))
    rw [hout] at hF
    exact lv_tableOut hx hb hd (by omega) hdt (kd hF p l e R s m args below meth c N0 dC dI dA ad0 n0 Q C ad H locs lsA hy)
theorem jj_lookup2 {x : Int32} {dflt o0 o1 : Int} {len t0 t1 dt : Nat} {b0 b1 d : Option jm_X} (hd : decode (jm_by M) pc = .ok (.lookupswitch dflt #[(0, o0), (1, o1)], len)) (h0 : (pc : Int) + o0 = (t0 : Int)) (h1 : (pc : Int) + o1 = (t1 : Int)) (hdt : (pc : Int) + dflt = (dt : Int))
    (k0 : x = 0 → b0 = some X → jm_J M t0 ls st h kc ks X) (k1 : x = 1 → b1 = some X → jm_J M t1 ls st h kc ks X) (kd : ¬ x = 0 → ¬ x = 1 → d = some X → jm_J M dt ls st h kc ks X) (hF : (if x = 0 then b0 else if x = 1 then b1 else d) = some X) : jm_J M pc ls (.int x :: st) h kc ks X := by
  intro p l e R s m args below meth c N0 dC dI dA ad0 n0 Q C ad H locs lsA hy
  obtain ⟨hx, hb, hml, hown, hts, -⟩ := id C
  by_cases c0 : x = 0
  · rw [if_pos c0] at hF
    exact lv_lookup hx hb hd (by rfl) (off := o0) (by rw [c0]; rfl) h0 (k0 c0 hF p l e R s m args below meth c N0 dC dI dA ad0 n0 Q C ad H locs lsA hy)
  · rw [if_neg c0] at hF
    by_cases c1 : x = 1
    · rw [if_pos c1] at hF
      exact lv_lookup hx hb hd (by rfl) (off := o1) (by rw [c1]; rfl) h1 (k1 c1 hF p l e R s m args below meth c N0 dC dI dA ad0 n0 Q C ad H locs lsA hy)
    · rw [if_neg c1] at hF
      have e0 : ¬ x.toInt = 0 := fun e => c0 (Int32.toInt_inj.mp (by rw [e]; rfl))
      have e1 : ¬ x.toInt = 1 := fun e => c1 (Int32.toInt_inj.mp (by rw [e]; rfl))
      refine lv_lookup hx hb hd (by rfl) (off := dflt) ?_ hdt (kd c0 c1 hF p l e R s m args below meth c N0 dC dI dA ad0 n0 Q C ad H locs lsA hy)
      simp [Op.lookupswitch.offset, List.find?, e0, e1, Ne.symm e0, Ne.symm e1]
end JR
end
section
/-! the heap's rows for jm_J: fields, arrays, what is new -/
def jf_gI (ci : Nat) (h : jm_H) (o k : Nat) (f : Int32 → Option jm_X) : Option jm_X := match h[o]? with
  | some (.inr (c, fs)) => if c = ci then (match fs[k]? with | some (.int v) => f v | _ => none) else none
  | _ => none
def jf_gL (ci : Nat) (h : jm_H) (o k : Nat) (f : Int64 → Option jm_X) : Option jm_X := match h[o]? with
  | some (.inr (c, fs)) => if c = ci then (match fs[k]? with | some (.long v) => f v | _ => none) else none
  | _ => none
def jf_gR (ci : Nat) (h : jm_H) (o k : Nat) (f : Nat → Option jm_X) : Option jm_X := match h[o]? with
  | some (.inr (c, fs)) => if c = ci then (match fs[k]? with | some (.ref v) => f v | _ => none) else none
  | _ => none
def jf_p (ci : Nat) (h : jm_H) (o k : Nat) (v : Value) (f : jm_H → Option jm_X) : Option jm_X := match h[o]? with
  | some (.inr (c, fs)) => if c = ci ∧ k < fs.length then f (h.set o (.inr (ci, fs.set k v))) else none
  | _ => none
theorem jf_gI_inv {ci : Nat} {h : jm_H} {o k : Nat} {f : Int32 → Option jm_X} {X : jm_X} (hF : jf_gI ci h o k f = some X) : ∃ (fs : List Value) (v : Int32), h[o]? = some (.inr (ci, fs)) ∧ fs[k]? = some (.int v) ∧ f v = some X := by
  unfold jf_gI at hF
  split at hF
  · next c fs hh =>
    split at hF
    · next hc =>
      subst hc
      split at hF
      · next v hv => exact ⟨fs, v, hh, hv, hF⟩
      · cases hF
    · cases hF
  · cases hF
theorem jf_gL_inv {ci : Nat} {h : jm_H} {o k : Nat} {f : Int64 → Option jm_X} {X : jm_X} (hF : jf_gL ci h o k f = some X) : ∃ (fs : List Value) (v : Int64), h[o]? = some (.inr (ci, fs)) ∧ fs[k]? = some (.long v) ∧ f v = some X := by
  unfold jf_gL at hF
  split at hF
  · next c fs hh =>
    split at hF
    · next hc =>
      subst hc
      split at hF
      · next v hv => exact ⟨fs, v, hh, hv, hF⟩
      · cases hF
    · cases hF
  · cases hF
theorem jf_gR_inv {ci : Nat} {h : jm_H} {o k : Nat} {f : Nat → Option jm_X} {X : jm_X} (hF : jf_gR ci h o k f = some X) : ∃ (fs : List Value) (v : Nat), h[o]? = some (.inr (ci, fs)) ∧ fs[k]? = some (.ref v) ∧ f v = some X := by
  unfold jf_gR at hF
  split at hF
  · next c fs hh =>
    split at hF
    · next hc =>
      subst hc
      split at hF
      · next v hv => exact ⟨fs, v, hh, hv, hF⟩
      · cases hF
    · cases hF
  · cases hF
theorem jf_p_inv {ci : Nat} {h : jm_H} {o k : Nat} {v : Value} {f : jm_H → Option jm_X} {X : jm_X} (hF : jf_p ci h o k v f = some X) : ∃ (fs : List Value), h[o]? = some (.inr (ci, fs)) ∧ k < fs.length ∧ f (h.set o (.inr (ci, fs.set k v))) = some X := by
  unfold jf_p at hF
  split at hF
  · next c fs hh =>
    split at hF
    · next hc =>
      obtain ⟨hc, hk⟩ := hc
      subst hc
      exact ⟨fs, hh, hk, hF⟩
    · cases hF
  · cases hF
section JHP
variable {M : jm_M} {pc pc' : Nat} {ls : List (Nat × Value)} {st : List Value} {h : jm_H} {kc ks : Nat} {X : jm_X}
theorem jj_g {C : String} {T : u_T} {N ci idx k o : Nat} {fs : List Value} {v : Value} (hd : decode (jm_by M) pc = .ok (.getfield idx, 3)) (hp : pc + 3 = pc') (hc : vwCl[ci]? = some (C, T, N)) (hin : ∀ w ∈ u_ws C T N, w ∈ jm_WS) (hk : k < N) (hw : Cond.fieldLink (jm_ow M) idx (T k).1 (T k).2.1 (T k).2.2.1 ∈ jm_WS)
    (hh : h[o]? = some (.inr (ci, fs))) (hv : fs[k]? = some v) (K : jm_J M pc' ls (v :: st) h kc ks X) : jm_J M pc ls (.ref o :: st) h kc ks X := by
  subst hp
  intro p l e R s m args below meth c N0 dC dI dA ad0 n0 Q Cx ad H locs lsA hy
  obtain ⟨hx, hb, hml, hown, hts, hlk, htb, hin', hl, hsf, -⟩ := id Cx
  exact va_get (D := (dC, dI)) (ci := ci) (v := jm_V ad v) hx hb hts hin hown hsf.2.1 hy.2.2.1.1 o (jm_get hh) hc k hk (hts _ hw) (fun _ h9 => h9) (by rw [List.getElem?_map, hv]; rfl) hd (K p l e R s m args below meth c N0 dC dI dA ad0 n0 Q Cx ad H locs lsA hy)
theorem jj_gI {C : String} {T : u_T} {N ci idx k o : Nat} {f : Int32 → Option jm_X} (hd : decode (jm_by M) pc = .ok (.getfield idx, 3)) (hp : pc + 3 = pc') (hc : vwCl[ci]? = some (C, T, N)) (hin : ∀ w ∈ u_ws C T N, w ∈ jm_WS) (hk : k < N) (hw : Cond.fieldLink (jm_ow M) idx (T k).1 (T k).2.1 (T k).2.2.1 ∈ jm_WS)
    (hF : jf_gI ci h o k f = some X) (K : ∀ v : Int32, f v = some X → jm_J M pc' ls (.int v :: st) h kc ks X) : jm_J M pc ls (.ref o :: st) h kc ks X := by
  obtain ⟨fs, v, hh, hv, hF⟩ := jf_gI_inv hF
  exact jj_g hd hp hc hin hk hw hh hv (K v hF)
theorem jj_gL {C : String} {T : u_T} {N ci idx k o : Nat} {f : Int64 → Option jm_X} (hd : decode (jm_by M) pc = .ok (.getfield idx, 3)) (hp : pc + 3 = pc') (hc : vwCl[ci]? = some (C, T, N)) (hin : ∀ w ∈ u_ws C T N, w ∈ jm_WS) (hk : k < N) (hw : Cond.fieldLink (jm_ow M) idx (T k).1 (T k).2.1 (T k).2.2.1 ∈ jm_WS)
    (hF : jf_gL ci h o k f = some X) (K : ∀ v : Int64, f v = some X → jm_J M pc' ls (.long v :: st) h kc ks X) : jm_J M pc ls (.ref o :: st) h kc ks X := by
  obtain ⟨fs, v, hh, hv, hF⟩ := jf_gL_inv hF
  exact jj_g hd hp hc hin hk hw hh hv (K v hF)
theorem jj_gR {C : String} {T : u_T} {N ci idx k o : Nat} {f : Nat → Option jm_X} (hd : decode (jm_by M) pc = .ok (.getfield idx, 3)) (hp : pc + 3 = pc') (hc : vwCl[ci]? = some (C, T, N)) (hin : ∀ w ∈ u_ws C T N, w ∈ jm_WS) (hk : k < N) (hw : Cond.fieldLink (jm_ow M) idx (T k).1 (T k).2.1 (T k).2.2.1 ∈ jm_WS)
    (hF : jf_gR ci h o k f = some X) (K : ∀ v : Nat, f v = some X → jm_J M pc' ls (.ref v :: st) h kc ks X) : jm_J M pc ls (.ref o :: st) h kc ks X := by
  obtain ⟨fs, v, hh, hv, hF⟩ := jf_gR_inv hF
  exact jj_g hd hp hc hin hk hw hh hv (K v hF)
theorem jm_Hset {s : State} {N0 : Nat} {dC : Nat → ClassId} {dI : Nat → Nat → Nat} {dA ad0 : Nat → Nat} {n0 : Nat} {o : Nat} {e : va_E} {cl : jm_C} {ad : Nat → Nat} {H H1 : Heap} {locs locs1 : List Loc} {lsA : Array Slot} (hy : jm_Hy M s N0 dC dI dA ad0 n0 ls h ad H locs lsA) (he : jm_E dA ad cl = e)
    (hP : va_P (dC, dI) vwCl ((jm_W dA ad h).set o (ad o, e)) H1) (hD : va_D (jm_N N0) ((jm_W dA ad h).set o (ad o, e))) (hS : va_S (jm_N N0) s.heap H1 locs1) : jm_Hy M s N0 dC dI dA ad0 n0 ls (h.set o cl) ad H1 locs1 lsA := by
  subst he
  rw [← jm_set] at hP hD
  exact ⟨hy.1, by rw [List.length_set]; exact hy.2.1, ⟨hP, hD⟩, hS, hy.2.2.2.2⟩
theorem jj_p {C : String} {T : u_T} {N ci idx k o : Nat} {v : Value} {f : jm_H → Option jm_X} {ty : Nat → FieldType} (hd : decode (jm_by M) pc = .ok (.putfield idx, 3)) (hp : pc + 3 = pc') (hc : vwCl[ci]? = some (C, T, N)) (hin : ∀ w ∈ u_ws C T N, w ∈ jm_WS) (hty : ∀ k, k < N → parseFieldDescriptor (T k).2.2.1 = some (ty k)) (hnm : ∀ a, a < N → ∀ b, b < N → a ≠ b → (T a).2.1 ≠ (T b).2.1) (hk : k < N) (hw : Cond.fieldLink (jm_ow M) idx (T k).1 (T k).2.1 (T k).2.2.1 ∈ jm_WS)
    (hfi : (T k).2.2.2 = false) (hn : ∀ ad : Nat → Nat, narrow (ty k) (jm_V ad v) = jm_V ad v ∧ fits (ty k) (jm_V ad v) = true) (hF : jf_p ci h o k v f = some X) (K : ∀ h', f h' = some X → jm_J M pc' ls st h' kc ks X) : jm_J M pc ls (v :: .ref o :: st) h kc ks X := by
  obtain ⟨fs, hh, hl, hF⟩ := jf_p_inv hF
  subst hp
  intro p l e R s m args below meth c N0 dC dI dA ad0 n0 Q Cx ad H locs lsA hy
  obtain ⟨hx, hb, hml, hown, hts, hlk, htb, hin', hl', hsf, -⟩ := id Cx
  refine va_put (D := (dC, dI)) (ci := ci) (v := jm_V ad v) hx hb hts hin ty hty hnm hown hsf.2.1 hy.2.2.1.1 hy.2.2.1.2 hy.2.2.2.1 o (jm_get hh) hc k hk (hts _ hw) (fun _ h9 => h9) hfi (hty k hk) (hn ad).1 (hn ad).2 (by rw [List.length_map]; exact hl) hd (fun H1 locs1 hP hD hS => ?_)
  exact K _ hF p l e R s m args below meth c N0 dC dI dA ad0 n0 Q Cx ad H1 locs1 lsA (jm_Hset hy (by simp [jm_E, List.map_set]) hP hD hS)
theorem jj_pF {C : String} {T : u_T} {N ci idx k o : Nat} {v : Value} {f : jm_H → Option jm_X} {ty : Nat → FieldType} (hd : decode (jm_by M) pc = .ok (.putfield idx, 3)) (hp : pc + 3 = pc') (hc : vwCl[ci]? = some (C, T, N)) (hin : ∀ w ∈ u_ws C T N, w ∈ jm_WS) (hty : ∀ k, k < N → parseFieldDescriptor (T k).2.2.1 = some (ty k)) (hnm : ∀ a, a < N → ∀ b, b < N → a ≠ b → (T a).2.1 ≠ (T b).2.1) (hk : k < N) (hw : Cond.fieldLink (jm_ow M) idx (T k).1 (T k).2.1 (T k).2.2.1 ∈ jm_WS)
    (hfi : (T k).2.2.2 = true) (hni : (jm_y M).name = "<init>") (hdec : (T k).1 = jm_ow M) (hn : ∀ ad : Nat → Nat, narrow (ty k) (jm_V ad v) = jm_V ad v ∧ fits (ty k) (jm_V ad v) = true) (hF : jf_p ci h o k v f = some X) (K : ∀ h', f h' = some X → jm_J M pc' ls st h' kc ks X) : jm_J M pc ls (v :: .ref o :: st) h kc ks X := by
  obtain ⟨fs, hh, hl, hF⟩ := jf_p_inv hF
  subst hp
  intro p l e R s m args below meth c N0 dC dI dA ad0 n0 Q Cx ad H locs lsA hy
  obtain ⟨hx, hb, hml, hown, hts, hlk, htb, hin', hl', hsf, -⟩ := id Cx
  refine va_putF (D := (dC, dI)) (ci := ci) (v := jm_V ad v) hx hb hts hin ty hty hnm hown hsf.2.1 hy.2.2.1.1 hy.2.2.1.2 hy.2.2.2.1 o (jm_get hh) hc k hk (hts _ hw) (fun _ h9 => h9) hfi (hin'.trans hni) hdec (hty k hk) (hn ad).1 (hn ad).2 (by rw [List.length_map]; exact hl) hd (fun H1 locs1 hP hD hS => ?_)
  exact K _ hF p l e R s m args below meth c N0 dC dI dA ad0 n0 Q Cx ad H1 locs1 lsA (jm_Hset hy (by simp [jm_E, List.map_set]) hP hD hS)
end JHP
/-! arrays -/
def jf_len (h : jm_H) (o : Nat) (g : Int32 → Option jm_X) : Option jm_X := match h[o]? with
  | some (.inl (t, x)) => if t < 4 then g (Int32.ofNat x.1) else none
  | _ => none
def jf_ldI (h : jm_H) (o : Nat) (i : Int32) (g : Int32 → Option jm_X) : Option jm_X := match h[o]? with
  | some (.inl (0, (n, .inl f))) => if i < 0 ∨ n ≤ i.toNatClampNeg then none else g (f i.toNatClampNeg)
  | _ => none
def jf_ldL (h : jm_H) (o : Nat) (i : Int32) (g : Int64 → Option jm_X) : Option jm_X := match h[o]? with
  | some (.inl (1, (n, .inr (.inl f)))) => if i < 0 ∨ n ≤ i.toNatClampNeg then none else g (f i.toNatClampNeg)
  | _ => none
def jf_ldD (h : jm_H) (o : Nat) (i : Int32) (g : UInt64 → Option jm_X) : Option jm_X := match h[o]? with
  | some (.inl (2, (n, .inr (.inr (.inr (.inl f)))))) => if i < 0 ∨ n ≤ i.toNatClampNeg then none else g (f i.toNatClampNeg)
  | _ => none
def jf_ldA (h : jm_H) (o : Nat) (i : Int32) (g : Nat → Option jm_X) : Option jm_X := match h[o]? with
  | some (.inl (3, (n, .inr (.inr (.inr (.inr f)))))) => if i < 0 ∨ n ≤ i.toNatClampNeg then none else (match f i.toNatClampNeg with | some a => g a | none => none)
  | _ => none
def jf_stI (h : jm_H) (o : Nat) (i x : Int32) (g : jm_H → Option jm_X) : Option jm_X := match h[o]? with
  | some (.inl (0, (n, .inl f))) => if i < 0 ∨ n ≤ i.toNatClampNeg then none else g (h.set o (.inl (0, (n, .inl (upd f i.toNatClampNeg x)))))
  | _ => none
def jf_stL (h : jm_H) (o : Nat) (i : Int32) (x : Int64) (g : jm_H → Option jm_X) : Option jm_X := match h[o]? with
  | some (.inl (1, (n, .inr (.inl f)))) => if i < 0 ∨ n ≤ i.toNatClampNeg then none else g (h.set o (.inl (1, (n, .inr (.inl (vp_updL f i.toNatClampNeg x))))))
  | _ => none
def jf_stD (h : jm_H) (o : Nat) (i : Int32) (x : UInt64) (g : jm_H → Option jm_X) : Option jm_X := match h[o]? with
  | some (.inl (2, (n, .inr (.inr (.inr (.inl f)))))) => if i < 0 ∨ n ≤ i.toNatClampNeg then none else g (h.set o (.inl (2, (n, .inr (.inr (.inr (.inl (vf_upd f i.toNatClampNeg x))))))))
  | _ => none
def jf_stA (h : jm_H) (o : Nat) (i : Int32) (x : Nat) (g : jm_H → Option jm_X) : Option jm_X := match h[o]?, h[x]? with
  | some (.inl (3, (n, .inr (.inr (.inr (.inr f)))))), some (.inr (0, _)) => if i < 0 ∨ n ≤ i.toNatClampNeg then none else g (h.set o (.inl (3, (n, .inr (.inr (.inr (.inr (va_up f i.toNatClampNeg (some x)))))))))
  | _, _ => none
theorem jf_len_inv {h : jm_H} {o : Nat} {g : Int32 → Option jm_X} {X : jm_X} (hF : jf_len h o g = some X) : ∃ (t : Nat) (x : vp_A), h[o]? = some (.inl (t, x)) ∧ t < 4 ∧ g (Int32.ofNat x.1) = some X := by
  unfold jf_len at hF
  split at hF
  · next t x hh =>
    split at hF
    · next ht => exact ⟨t, x, hh, ht, hF⟩
    · cases hF
  · cases hF
theorem jf_ldI_inv {h : jm_H} {o : Nat} {i : Int32} {g : Int32 → Option jm_X} {X : jm_X} (hF : jf_ldI h o i g = some X) : ∃ (n : Nat) (f : Nat → Int32), h[o]? = some (.inl (0, (n, .inl f))) ∧ vp_in i n ∧ g (f i.toNatClampNeg) = some X := by
  unfold jf_ldI at hF
  split at hF
  · next n f hh =>
    split at hF
    · cases hF
    · next hi => exact ⟨n, f, hh, hi, hF⟩
  · cases hF
theorem jf_ldL_inv {h : jm_H} {o : Nat} {i : Int32} {g : Int64 → Option jm_X} {X : jm_X} (hF : jf_ldL h o i g = some X) : ∃ (n : Nat) (f : Nat → Int64), h[o]? = some (.inl (1, (n, .inr (.inl f)))) ∧ vp_in i n ∧ g (f i.toNatClampNeg) = some X := by
  unfold jf_ldL at hF
  split at hF
  · next n f hh =>
    split at hF
    · cases hF
    · next hi => exact ⟨n, f, hh, hi, hF⟩
  · cases hF
theorem jf_ldD_inv {h : jm_H} {o : Nat} {i : Int32} {g : UInt64 → Option jm_X} {X : jm_X} (hF : jf_ldD h o i g = some X) : ∃ (n : Nat) (f : Nat → UInt64), h[o]? = some (.inl (2, (n, .inr (.inr (.inr (.inl f)))))) ∧ vp_in i n ∧ g (f i.toNatClampNeg) = some X := by
  unfold jf_ldD at hF
  split at hF
  · next n f hh =>
    split at hF
    · cases hF
    · next hi => exact ⟨n, f, hh, hi, hF⟩
  · cases hF
theorem jf_ldA_inv {h : jm_H} {o : Nat} {i : Int32} {g : Nat → Option jm_X} {X : jm_X} (hF : jf_ldA h o i g = some X) : ∃ (n a : Nat) (f : Nat → Option Nat), h[o]? = some (.inl (3, (n, .inr (.inr (.inr (.inr f)))))) ∧ vp_in i n ∧ f i.toNatClampNeg = some a ∧ g a = some X := by
  unfold jf_ldA at hF
  split at hF
  · next n f hh =>
    split at hF
    · cases hF
    · next hi =>
      split at hF
      · next a ha => exact ⟨n, a, f, hh, hi, ha, hF⟩
      · cases hF
  · cases hF
theorem jf_stI_inv {h : jm_H} {o : Nat} {i x : Int32} {g : jm_H → Option jm_X} {X : jm_X} (hF : jf_stI h o i x g = some X) : ∃ (n : Nat) (f : Nat → Int32), h[o]? = some (.inl (0, (n, .inl f))) ∧ vp_in i n ∧ g (h.set o (.inl (0, (n, .inl (upd f i.toNatClampNeg x))))) = some X := by
  unfold jf_stI at hF
  split at hF
  · next n f hh =>
    split at hF
    · cases hF
    · next hi => exact ⟨n, f, hh, hi, hF⟩
  · cases hF
theorem jf_stL_inv {h : jm_H} {o : Nat} {i : Int32} {x : Int64} {g : jm_H → Option jm_X} {X : jm_X} (hF : jf_stL h o i x g = some X) : ∃ (n : Nat) (f : Nat → Int64), h[o]? = some (.inl (1, (n, .inr (.inl f)))) ∧ vp_in i n ∧ g (h.set o (.inl (1, (n, .inr (.inl (vp_updL f i.toNatClampNeg x)))))) = some X := by
  unfold jf_stL at hF
  split at hF
  · next n f hh =>
    split at hF
    · cases hF
    · next hi => exact ⟨n, f, hh, hi, hF⟩
  · cases hF
theorem jf_stD_inv {h : jm_H} {o : Nat} {i : Int32} {x : UInt64} {g : jm_H → Option jm_X} {X : jm_X} (hF : jf_stD h o i x g = some X) : ∃ (n : Nat) (f : Nat → UInt64), h[o]? = some (.inl (2, (n, .inr (.inr (.inr (.inl f)))))) ∧ vp_in i n ∧ g (h.set o (.inl (2, (n, .inr (.inr (.inr (.inl (vf_upd f i.toNatClampNeg x)))))))) = some X := by
  unfold jf_stD at hF
  split at hF
  · next n f hh =>
    split at hF
    · cases hF
    · next hi => exact ⟨n, f, hh, hi, hF⟩
  · cases hF
theorem jf_stA_inv {h : jm_H} {o : Nat} {i : Int32} {x : Nat} {g : jm_H → Option jm_X} {X : jm_X} (hF : jf_stA h o i x g = some X) : ∃ (n : Nat) (f : Nat → Option Nat) (vs : List Value), h[o]? = some (.inl (3, (n, .inr (.inr (.inr (.inr f)))))) ∧ h[x]? = some (.inr (0, vs)) ∧ vp_in i n ∧ g (h.set o (.inl (3, (n, .inr (.inr (.inr (.inr (va_up f i.toNatClampNeg (some x))))))))) = some X := by
  unfold jf_stA at hF
  split at hF
  · next n f vs hh hx =>
    split at hF
    · cases hF
    · next hi => exact ⟨n, f, vs, hh, hx, hi, hF⟩
  · cases hF
section JAR
variable {M : jm_M} {pc pc' : Nat} {ls : List (Nat × Value)} {st : List Value} {h : jm_H} {kc ks : Nat} {X : jm_X}
theorem jm_tyAt {dA : Nat → Nat} {t : Nat} (h : t < 4) : ∃ ty : FieldType, (jm_ty dA)[t]? = some (dA t, ty) := by
  match t, h with
  | 0, _ => exact ⟨_, rfl⟩
  | 1, _ => exact ⟨_, rfl⟩
  | 2, _ => exact ⟨_, rfl⟩
  | 3, _ => exact ⟨_, rfl⟩
theorem jm_A1 (ad : Nat → Nat) (x : vp_A) : (jm_A ad x).1 = x.1 := by
  rcases x with ⟨n, f | f | f | f | f⟩ <;> rfl
theorem jj_len {o : Nat} {g : Int32 → Option jm_X} (hd : decode (jm_by M) pc = .ok (.arraylength, 1)) (hp : pc + 1 = pc') (hF : jf_len h o g = some X) (K : ∀ v : Int32, g v = some X → jm_J M pc' ls (.int v :: st) h kc ks X) : jm_J M pc ls (.ref o :: st) h kc ks X := by
  obtain ⟨t, x, hh, ht, hF⟩ := jf_len_inv hF
  subst hp
  intro p l e R s m args below meth c N0 dC dI dA ad0 n0 Q Cx ad H locs lsA hy
  obtain ⟨hx, hb, hml, hown, hts, hlk, htb, hin', hl', hsf, -⟩ := id Cx
  obtain ⟨ty, hty⟩ := jm_tyAt (dA := dA) ht
  exact va_alen (D := (dC, dI)) hx hb hsf.2.1 hy.2.2.1.1 o t (jm_get hh) hty (by rw [jm_A1]) hd (K _ hF p l e R s m args below meth c N0 dC dI dA ad0 n0 Q Cx ad H locs lsA hy)
theorem jj_ldI {o : Nat} {i : Int32} {g : Int32 → Option jm_X} (hd : decode (jm_by M) pc = .ok (.iaload, 1)) (hp : pc + 1 = pc') (hF : jf_ldI h o i g = some X) (K : ∀ v : Int32, g v = some X → jm_J M pc' ls (.int v :: st) h kc ks X) : jm_J M pc ls (.int i :: .ref o :: st) h kc ks X := by
  obtain ⟨n, f, hh, hi, hF⟩ := jf_ldI_inv hF
  subst hp
  intro p l e R s m args below meth c N0 dC dI dA ad0 n0 Q Cx ad H locs lsA hy
  obtain ⟨hx, hb, hml, hown, hts, hlk, htb, hin', hl', hsf, -⟩ := id Cx
  exact va_iald (D := (dC, dI)) hx hb hsf.2.1 hy.2.2.1.1 o 0 (jm_get hh) rfl hi hd (K _ hF p l e R s m args below meth c N0 dC dI dA ad0 n0 Q Cx ad H locs lsA hy)
theorem jj_ldL {o : Nat} {i : Int32} {g : Int64 → Option jm_X} (hd : decode (jm_by M) pc = .ok (.laload, 1)) (hp : pc + 1 = pc') (hF : jf_ldL h o i g = some X) (K : ∀ v : Int64, g v = some X → jm_J M pc' ls (.long v :: st) h kc ks X) : jm_J M pc ls (.int i :: .ref o :: st) h kc ks X := by
  obtain ⟨n, f, hh, hi, hF⟩ := jf_ldL_inv hF
  subst hp
  intro p l e R s m args below meth c N0 dC dI dA ad0 n0 Q Cx ad H locs lsA hy
  obtain ⟨hx, hb, hml, hown, hts, hlk, htb, hin', hl', hsf, -⟩ := id Cx
  exact va_lald (D := (dC, dI)) hx hb hsf.2.1 hy.2.2.1.1 o 1 (jm_get hh) rfl hi hd (K _ hF p l e R s m args below meth c N0 dC dI dA ad0 n0 Q Cx ad H locs lsA hy)
theorem jj_ldD {o : Nat} {i : Int32} {g : UInt64 → Option jm_X} (hd : decode (jm_by M) pc = .ok (.daload, 1)) (hp : pc + 1 = pc') (hF : jf_ldD h o i g = some X) (K : ∀ v : UInt64, g v = some X → jm_J M pc' ls (.double v :: st) h kc ks X) : jm_J M pc ls (.int i :: .ref o :: st) h kc ks X := by
  obtain ⟨n, f, hh, hi, hF⟩ := jf_ldD_inv hF
  subst hp
  intro p l e R s m args below meth c N0 dC dI dA ad0 n0 Q Cx ad H locs lsA hy
  obtain ⟨hx, hb, hml, hown, hts, hlk, htb, hin', hl', hsf, -⟩ := id Cx
  exact va_dald (D := (dC, dI)) hx hb hsf.2.1 hy.2.2.1.1 o 2 (jm_get hh) rfl hi hd (K _ hF p l e R s m args below meth c N0 dC dI dA ad0 n0 Q Cx ad H locs lsA hy)
theorem jj_ldA {o : Nat} {i : Int32} {g : Nat → Option jm_X} (hd : decode (jm_by M) pc = .ok (.aaload, 1)) (hp : pc + 1 = pc') (hF : jf_ldA h o i g = some X) (K : ∀ v : Nat, g v = some X → jm_J M pc' ls (.ref v :: st) h kc ks X) : jm_J M pc ls (.int i :: .ref o :: st) h kc ks X := by
  obtain ⟨n, a, f, hh, hi, ha, hF⟩ := jf_ldA_inv hF
  subst hp
  intro p l e R s m args below meth c N0 dC dI dA ad0 n0 Q Cx ad H locs lsA hy
  obtain ⟨hx, hb, hml, hown, hts, hlk, htb, hin', hl', hsf, -⟩ := id Cx
  have hJ := K _ hF p l e R s m args below meth c N0 dC dI dA ad0 n0 Q Cx ad H locs lsA hy
  refine va_aldq (D := (dC, dI)) hx hb hsf.2.1 hy.2.2.1.1 o 3 (jm_get hh) rfl hi hd ?_
  show W p l e R s m args below meth c H locs kc ks Q (F0 m (pc + 1) lsA (va_rf ((f i.toNatClampNeg).map ad) :: st.map (jm_V ad)))
  rw [ha]
  exact hJ
theorem jj_stI {o : Nat} {i x : Int32} {g : jm_H → Option jm_X} (hd : decode (jm_by M) pc = .ok (.iastore, 1)) (hp : pc + 1 = pc') (hF : jf_stI h o i x g = some X) (K : ∀ h', g h' = some X → jm_J M pc' ls st h' kc ks X) : jm_J M pc ls (.int x :: .int i :: .ref o :: st) h kc ks X := by
  obtain ⟨n, f, hh, hi, hF⟩ := jf_stI_inv hF
  subst hp
  intro p l e R s m args below meth c N0 dC dI dA ad0 n0 Q Cx ad H locs lsA hy
  obtain ⟨hx, hb, hml, hown, hts, hlk, htb, hin', hl', hsf, -⟩ := id Cx
  exact va_iast (D := (dC, dI)) hx hb hsf.2.1 hy.2.2.1.1 hy.2.2.1.2 hy.2.2.2.1 o 0 (jm_get hh) rfl hi hd (fun H1 locs1 hP hD hS => K _ hF p l e R s m args below meth c N0 dC dI dA ad0 n0 Q Cx ad H1 locs1 lsA (jm_Hset hy rfl hP hD hS))
theorem jj_stL {o : Nat} {i : Int32} {x : Int64} {g : jm_H → Option jm_X} (hd : decode (jm_by M) pc = .ok (.lastore, 1)) (hp : pc + 1 = pc') (hF : jf_stL h o i x g = some X) (K : ∀ h', g h' = some X → jm_J M pc' ls st h' kc ks X) : jm_J M pc ls (.long x :: .int i :: .ref o :: st) h kc ks X := by
  obtain ⟨n, f, hh, hi, hF⟩ := jf_stL_inv hF
  subst hp
  intro p l e R s m args below meth c N0 dC dI dA ad0 n0 Q Cx ad H locs lsA hy
  obtain ⟨hx, hb, hml, hown, hts, hlk, htb, hin', hl', hsf, -⟩ := id Cx
  exact va_last (D := (dC, dI)) hx hb hsf.2.1 hy.2.2.1.1 hy.2.2.1.2 hy.2.2.2.1 o 1 (jm_get hh) rfl hi hd (fun H1 locs1 hP hD hS => K _ hF p l e R s m args below meth c N0 dC dI dA ad0 n0 Q Cx ad H1 locs1 lsA (jm_Hset hy rfl hP hD hS))
theorem jj_stD {o : Nat} {i : Int32} {x : UInt64} {g : jm_H → Option jm_X} (hd : decode (jm_by M) pc = .ok (.dastore, 1)) (hp : pc + 1 = pc') (hF : jf_stD h o i x g = some X) (K : ∀ h', g h' = some X → jm_J M pc' ls st h' kc ks X) : jm_J M pc ls (.double x :: .int i :: .ref o :: st) h kc ks X := by
  obtain ⟨n, f, hh, hi, hF⟩ := jf_stD_inv hF
  subst hp
  intro p l e R s m args below meth c N0 dC dI dA ad0 n0 Q Cx ad H locs lsA hy
  obtain ⟨hx, hb, hml, hown, hts, hlk, htb, hin', hl', hsf, -⟩ := id Cx
  exact va_dast (D := (dC, dI)) hx hb hsf.2.1 hy.2.2.1.1 hy.2.2.1.2 hy.2.2.2.1 o 2 (jm_get hh) rfl hi hd (fun H1 locs1 hP hD hS => K _ hF p l e R s m args below meth c N0 dC dI dA ad0 n0 Q Cx ad H1 locs1 lsA (jm_Hset hy rfl hP hD hS))
theorem jj_stA {o x : Nat} {i : Int32} {g : jm_H → Option jm_X} (hd : decode (jm_by M) pc = .ok (.aastore, 1)) (hp : pc + 1 = pc') (hF : jf_stA h o i x g = some X) (K : ∀ h', g h' = some X → jm_J M pc' ls st h' kc ks X) : jm_J M pc ls (.ref x :: .int i :: .ref o :: st) h kc ks X := by
  obtain ⟨n, f, vs, hh, hxx, hi, hF⟩ := jf_stA_inv hF
  subst hp
  intro p l e R s m args below meth c N0 dC dI dA ad0 n0 Q Cx ad H locs lsA hy
  obtain ⟨hx, hb, hml, hown, hts, hlk, htb, hin', hl', hsf, -⟩ := id Cx
  refine va_astq (D := (dC, dI)) (ci := 0) (r := (RX0, TX0, 10)) hx hb hsf.2.1 hy.2.2.1.1 hy.2.2.1.2 hy.2.2.2.1 o 3 x (jm_get hh) rfl (jm_get hxx) rfl hi hd (fun H1 locs1 hP hD hS => K _ hF p l e R s m args below meth c N0 dC dI dA ad0 n0 Q Cx ad H1 locs1 lsA (jm_Hset hy ?_ hP hD hS))
  show (Sum.inl (dA 3, (n, Sum.inr (Sum.inr (Sum.inr (Sum.inr (fun j => (va_up f i.toNatClampNeg (some x) j).map ad)))))) : va_E) = _
  have hf : (fun j => (va_up f i.toNatClampNeg (some x) j).map ad) = va_up (fun j => (f j).map ad) i.toNatClampNeg (some (ad x)) := by
    funext j
    by_cases hj : j = i.toNatClampNeg <;> simp [va_up, hj]
  rw [hf]
/-- the law's own script, an object of its own number -/
theorem jj_sld {L : Nat} {xs : Nat → Int32} {i : Int32} (hd : decode (jm_by M) pc = .ok (.iaload, 1)) (hsc : jm_sc M = some (L, xs)) (hi : vp_in i L) (hp : pc + 1 = pc') (K : jm_J M pc' ls (.int (xs i.toNatClampNeg) :: st) h kc ks X) : jm_J M pc ls (.int i :: .ref 1000000 :: st) h kc ks X := by
  subst hp
  intro p l e R s m args below meth c N0 dC dI dA ad0 n0 Q Cx ad H locs lsA hy
  obtain ⟨hx, hb, hml, hown, hts, hlk, htb, hin', hl', hsf, hR, hs, -⟩ := id Cx
  obtain ⟨hX, hbN, hN⟩ := hs L xs hsc
  have e9 : ad 1000000 = ad0 1000000 := hy.1.2 1000000 (Or.inr rfl)
  have := va_sld (A := jm_N N0) (pc := pc) (ls := lsA) (rest := st.map (jm_V ad)) hx hb hX (Nat.lt_of_lt_of_le hbN hN) (Nat.not_le.mpr hbN) hy.2.2.2.1 hi hd (K p l e R s m args below meth c N0 dC dI dA ad0 n0 Q Cx ad H locs lsA hy)
  rw [← e9] at this
  exact this
theorem jj_slen {L : Nat} {xs : Nat → Int32} (hd : decode (jm_by M) pc = .ok (.arraylength, 1)) (hsc : jm_sc M = some (L, xs)) (hp : pc + 1 = pc') (K : jm_J M pc' ls (.int (Int32.ofNat L) :: st) h kc ks X) : jm_J M pc ls (.ref 1000000 :: st) h kc ks X := by
  subst hp
  intro p l e R s m args below meth c N0 dC dI dA ad0 n0 Q Cx ad H locs lsA hy
  obtain ⟨hx, hb, hml, hown, hts, hlk, htb, hin', hl', hsf, hR, hs, -⟩ := id Cx
  obtain ⟨hX, hbN, hN⟩ := hs L xs hsc
  have e9 : ad 1000000 = ad0 1000000 := hy.1.2 1000000 (Or.inr rfl)
  have := va_slen (A := jm_N N0) (pc := pc) (ls := lsA) (rest := st.map (jm_V ad)) hx hb hX (Nat.lt_of_lt_of_le hbN hN) (Nat.not_le.mpr hbN) hy.2.2.2.1 hd (K p l e R s m args below meth c N0 dC dI dA ad0 n0 Q Cx ad H locs lsA hy)
  rw [← e9] at this
  exact this
end JAR
end
section
/-! contracts out of the judgement; calls, throws, handlers, what is new, the machine's own methods -/
section JK
theorem jm_args (ad : Nat → Nat) : ∀ (as : List Value) (i : Nat), lv_args i (as.map (jm_V ad)) = jm_L ad (lv_args i as)
  | [], _ => rfl
  | v :: vs, i => by
    show (i, jm_V ad v) :: lv_args (if (jm_V ad v).category = 2 then i + 2 else i + 1) (vs.map (jm_V ad)) = (i, jm_V ad v) :: jm_L ad (lv_args (if v.category = 2 then i + 2 else i + 1) vs)
    rw [jm_cat, jm_args ad vs]
theorem jm_slots (ad : Nat → Nat) : ∀ as : List Value, (lg_sl (as.map (jm_V ad))).length = (lg_sl as).length
  | [] => rfl
  | v :: vs => by
    have ih := jm_slots ad vs
    simp only [lg_sl, List.map_cons, List.flatMap_cons, List.length_append, jm_cat] at ih ⊢
    rw [ih]
    by_cases hc : v.category = 2 <;> simp [hc]
theorem jk_body {M : jm_M} {as : List Value} {h : jm_H} {X : jm_X} (hcls : (jm_y M).cls = jm_ow M) (hsc : jm_sc M = none) (hlen : (lg_sl as).length ≤ jm_nL M) (J : jm_J M 0 (lv_args 0 as) [] h 0 0 X)
    {p : Program} {l : Launch} {e : Env} {s s₁ : State} {m : MethodId} {args : Array Value} {below : List Frame} {meth : Method} {c : Code} {N0 : Nat} {dC : Nat → ClassId} {dI : Nat → Nat → Nat} {dA ad : Nat → Nat} (hl : l.stackTraces = false)
    (B : BodyLoose p l (jm_y M) (headSpec (jm_cd M :: jm_WS) (jm_rm M)) (jm_by M) (jm_nL M) (jm_rt M) e s m args below meth c s₁) (hml : c.maxLocals = jm_nL M) (htb : (jm_hh M = [] → c.exceptionTable.toList = []) ∧ (jm_hh M ≠ [] → c.exceptionTable.toList = tableOf (jm_hh M)))
    (hv : jm_Pc N0 dC dI dA ad as h args s) : W p l e (headSpec (jm_cd M :: jm_WS) (jm_rm M)).room s m args below meth c s.heap [] 0 0 (vx_MQ below (jm_Qc M N0 dC dI dA ad h.length X) (jm_XC M N0 dC dI dA ad h.length X) args s (jm_mc M) (jm_ms M) (jm_N N0)) (entryFrame m args (jm_nL M)) := by
  obtain ⟨rfl, hsf, hP⟩ := hv
  have hx := B.exec
  have hb := B.bytes
  have hr := B.returns
  have hts := atoms_spec (ws := jm_cd M :: jm_WS) B.pre
  have hown : s.vm.findClass (jm_ow M) = some m.cls := by rw [← hcls]; exact findClass_of_methodNamed B.named
  have hlocks := B.notSynchronized
  have hin : meth.name = (jm_y M).name := (name_of_methodNamed B.named B.method).1
  have hlv := lv_entry (as.map (jm_V ad)) (n := jm_nL M) (by rw [jm_slots]; exact hlen)
  rw [jm_args] at hlv
  rw [lg_entry_eq]
  generalize (lg_sl (as.map (jm_V ad)) ++ List.replicate (jm_nL M - (lg_sl (as.map (jm_V ad))).length) Slot.unset).toArray = lsA at hlv ⊢
  refine J p l e _ s m _ below meth c N0 dC dI dA ad h.length _ ⟨hx, hb, hml, hown, fun w hw => hts w (List.mem_cons_of_mem _ hw), hlocks, htb, hin, hl, hsf, ⟨Nat.le_refl _, Nat.le_refl _, Nat.le_refl _, Nat.le_refl _⟩, fun L xs hs => by (rw [hsc] at hs; cases hs), ?_, ?_⟩ ad s.heap [] lsA ⟨⟨fun _ => rfl, fun _ _ => rfl⟩, Nat.le_refl _, hP, va_S.rf, hlv⟩
  · intro v pc ad' H locs lsA' kc ks hX hfit hrel hn hP' hS hkc hks
    refine W.widen hkc hks (vx_ret ?_)
    rcases hfit with ⟨hrt, rfl, hd⟩ | ⟨ty, x, hrt, rfl, hnar, hd⟩ | ⟨x, hrt, rfl, hd⟩ | ⟨x, hrt, rfl, hd⟩
    · exact W.vret hx hb (hr.trans hrt) (fun t ht hW => ⟨none, ad', hX, rfl, hrel, hn, by rw [ht]; exact hP', hS.F ht⟩) hS.2.2 hd
    · exact W.zret hx hb (hr.trans hrt) hnar (fun t ht hW => ⟨some (.int x), ad', hX, rfl, hrel, hn, by rw [ht]; exact hP', hS.F ht⟩) hS.2.2 hd
    · exact W.lret hx hb (hr.trans hrt) (fun t ht hW => ⟨some (.long x), ad', hX, rfl, hrel, hn, by rw [ht]; exact hP', hS.F ht⟩) hS.2.2 hd
    · exact W.dret hx hb (hr.trans hrt) (fun t ht hW => ⟨some (.double x), ad', hX, rfl, hrel, hn, by rw [ht]; exact hP', hS.F ht⟩) hS.2.2 hd
  · intro E hE
    exact ⟨_, _, rfl, fun ad' t h1 h2 h3 h4 => ⟨ad', hE, h1, h2, h3, h4⟩⟩
theorem jk_of {M : jm_M} {as : List Value} {h : jm_H} {X : jm_X} (hcls : (jm_y M).cls = jm_ow M) (hpl : Jvm.plainName (jm_y M).cls = true) (hhh : jm_hh M = []) (hsc : jm_sc M = none) (hlen : (lg_sl as).length ≤ jm_nL M) (J : jm_J M 0 (lv_args 0 as) [] h 0 0 X) : jm_K M as h X := by
  intro l N0 dC dI dA ad hl
  refine vx_ofW (cc := jm_by M) (maxL := jm_nL M) (ret := jm_rt M) (ws' := jm_WS) hpl (by simp [jm_cd, hhh]) ?_
  intro p e s m args below meth c s₁ B hml htb hv
  exact jk_body hcls hsc hlen J hl B hml ⟨fun _ => List.eq_nil_iff_forall_not_mem.mpr (fun x hx => htb x hx), fun h0 => absurd hhh h0⟩ hv
theorem jk_ofH {M : jm_M} {as : List Value} {h : jm_H} {X : jm_X} (hcls : (jm_y M).cls = jm_ow M) (hpl : Jvm.plainName (jm_y M).cls = true) (hhh : jm_hh M ≠ []) (hsc : jm_sc M = none) (hlen : (lg_sl as).length ≤ jm_nL M) (J : jm_J M 0 (lv_args 0 as) [] h 0 0 X) : jm_K M as h X := by
  intro l N0 dC dI dA ad hl
  have hcd : jm_cd M = Cond.codeWith (jm_y M) (jm_by M) (jm_nL M) (jm_rt M) (jm_hh M) := by simp [jm_cd, hhh]
  refine vx_ofWH (cc := jm_by M) (maxL := jm_nL M) (ret := jm_rt M) (hh := jm_hh M) (ws' := jm_WS) hpl (by rw [hcd]) ?_
  intro p e s m args below meth c s₁ B hml hv
  exact jk_body hcls hsc hlen J hl B hml ⟨fun h0 => absurd h0 hhh, fun _ => vx_table (x := jm_y M) B (by
    have := atoms_spec (ws := jm_cd M :: jm_WS) B.pre (jm_cd M) List.mem_cons_self
    rw [hcd] at this
    exact this)⟩ hv
end JK
/-! ends -/
section JE
variable {M : jm_M} {pc pc' : Nat} {ls : List (Nat × Value)} {st : List Value} {h : jm_H} {kc ks : Nat} {X : jm_X}
theorem jj_ret (v : Option Value) (hfit : jm_fit M pc v) (hc : kc ≤ jm_mc M ∧ ks ≤ jm_ms M) (hF : some ((.inl v, h) : jm_X) = some X) : jm_J M pc ls v.toList h kc ks X := by
  intro p l e R s m args below meth c N0 dC dI dA ad0 n0 Q Cx ad H locs lsA hy
  obtain ⟨hx, hb, hml, hown, hts, hlk, htb, hin, hl, hsf, hR, hs, hret, hthr⟩ := id Cx
  cases hF
  have := hret v pc ad H locs lsA kc ks rfl hfit hy.1 hy.2.1 hy.2.2.1 hy.2.2.2.1 hc.1 hc.2
  cases v <;> exact this
theorem jj_retV (hrt : jm_rt M = none) (hd : decode (jm_by M) pc = .ok (.return_, 1)) (hc : kc ≤ jm_mc M ∧ ks ≤ jm_ms M) (hF : some ((.inl none, h) : jm_X) = some X) : jm_J M pc ls [] h kc ks X :=
  jj_ret none (Or.inl ⟨hrt, rfl, hd⟩) hc hF
theorem jj_retI {ty : FieldType} {x : Int32} (hrt : jm_rt M = some ty) (hn : narrow ty (.int x) = .int x) (hd : decode (jm_by M) pc = .ok (.ireturn, 1)) (hc : kc ≤ jm_mc M ∧ ks ≤ jm_ms M) (hF : some ((.inl (some (.int x)), h) : jm_X) = some X) : jm_J M pc ls [.int x] h kc ks X :=
  jj_ret (some (.int x)) (Or.inr (Or.inl ⟨ty, x, hrt, rfl, hn, hd⟩)) hc hF
/-- a boolean's answer that is no constant -/
def jf_z (x : Int32) (r : Option jm_X) : Option jm_X := if x = 0 ∨ x = 1 then r else none
theorem jj_retZ {x : Int32} (hrt : jm_rt M = some .boolean) (hd : decode (jm_by M) pc = .ok (.ireturn, 1)) (hc : kc ≤ jm_mc M ∧ ks ≤ jm_ms M) (hF : jf_z x (some ((.inl (some (.int x)), h) : jm_X)) = some X) : jm_J M pc ls [.int x] h kc ks X := by
  unfold jf_z at hF
  split at hF
  · next hx =>
    refine jj_retI hrt ?_ hd hc hF
    rcases hx with rfl | rfl <;> rfl
  · cases hF
theorem jj_retL {x : Int64} (hrt : jm_rt M = some .long) (hd : decode (jm_by M) pc = .ok (.lreturn, 1)) (hc : kc ≤ jm_mc M ∧ ks ≤ jm_ms M) (hF : some ((.inl (some (.long x)), h) : jm_X) = some X) : jm_J M pc ls [.long x] h kc ks X :=
  jj_ret (some (.long x)) (Or.inr (Or.inr (Or.inl ⟨x, hrt, rfl, hd⟩))) hc hF
theorem jj_retD {x : UInt64} (hrt : jm_rt M = some .double) (hd : decode (jm_by M) pc = .ok (.dreturn, 1)) (hc : kc ≤ jm_mc M ∧ ks ≤ jm_ms M) (hF : some ((.inl (some (.double x)), h) : jm_X) = some X) : jm_J M pc ls [.double x] h kc ks X :=
  jj_ret (some (.double x)) (Or.inr (Or.inr (Or.inr ⟨x, hrt, rfl, hd⟩))) hc hF
def jm_sup : List String := ["java/lang/RuntimeException", "java/lang/Exception"]
def jm_tf (own cls : String) (ik ic : Nat) : Prop := cls ∈ jm_thrs ∧ Cond.classLink own ik cls ∈ jm_WS ∧ Cond.initialized cls ∈ jm_WS ∧ (∀ w ∈ vx_atS own ic cls jm_sup, goodWord w = true → w ∈ jm_WS) ∧ (∀ w ∈ vx_atS own ic cls jm_sup, goodWord w = false → w = .castable cls cls) ∧ (∀ w ∈ Cond.classLink own ik cls :: Cond.initialized cls :: vx_atS own ic cls jm_sup, vx_ot w = true) ∧ Bundle.fit cls = true
theorem jm_supfit : ∀ n ∈ jm_sup, Bundle.fit n = true := by decide +kernel
theorem jj_throw {cls text : String} {ik is ic : Nat} (tf : jm_tf (jm_ow M) cls ik ic) (hstr : (jm_ow M, is, text) ∈ jm_strs)
    (d0 : decode (jm_by M) pc = .ok (.new ik, 3)) (d3 : decode (jm_by M) (pc + 3) = .ok (.dup, 1)) (d4 : decode (jm_by M) (pc + 4) = .ok (.ldc is, 2)) (d6 : decode (jm_by M) (pc + 6) = .ok (.invokespecial ic, 3)) (d9 : decode (jm_by M) (pc + 9) = .ok (.athrow, 1))
    (hhh : jm_hh M = []) (hro : 6 ≤ jm_fr M ∧ (st.map fun v => v.category).sum + 82 ≤ jm_lo M) (hco : kc + 1 ≤ jm_mc M ∧ ks + 6 ≤ jm_ms M) (hF : some ((.inr cls, h) : jm_X) = some X) : jm_J M pc ls st h kc ks X := by
  intro p l e R s m args below meth c N0 dC dI dA ad0 n0 Q Cx ad H locs lsA hy
  obtain ⟨hx, hb, hml, hown, hts, hlk, htb, hin, hl, hsf, hR, hs, hret, hthr⟩ := id Cx
  obtain ⟨t1, t2, t3, t4, t5, t6, t7⟩ := tf
  cases hF
  obtain ⟨Qc, XC, rfl, hXC⟩ := hthr cls rfl
  obtain ⟨sa, hsa⟩ := hsf.2.2.2.1 (jm_ow M, is, text) hstr
  have hcast : (Cond.castable cls cls).before args s = true := va_Nw.use rfl (hsf.2.2.2.2.2.1 cls t1)
  have hat : ∀ w ∈ vx_atS (jm_ow M) ic cls jm_sup, w.before args s = true := fun w hw => by
    cases hg : goodWord w with
    | true => exact hts w (t4 w hw hg)
    | false => rw [t5 w hw hg]; exact hcast
  have hst : ((st.map (jm_V ad)).map fun v => v.category).sum = (st.map fun v => v.category).sum := by
    rw [List.map_map]; congr 1; exact List.map_congr_left (fun v _ => jm_cat ad v)
  refine vx_throwS (A := jm_N N0) (names := jm_sup) (text := text) (sa := sa) hx hb hl hown t7 jm_supfit (hts _ t2) (hts _ t3) hsa hat t6 hsf.2.2.2.2.2.2.2.1 hsf.2.2.2.2.2.2.2.2 hy.2.2.2.1 (by rw [hml]; exact hy.2.2.2.2.1) d0 d3 d4 d6 d9 (fun x hx' => by (rw [htb.1 hhh] at hx'; cases hx')) (Nat.lt_of_lt_of_le (Nat.lt_of_lt_of_le (by decide) hro.1) hR.1) (by rw [hst]; exact Nat.le_trans hro.2 hR.2.1) (Nat.le_trans hco.1 hR.2.2.1) (Nat.le_trans hco.2 hR.2.2.2) hlk ?_ hy.2.2.2.1.2.2 hco.1 hco.2
  intro t hal hsz hk
  have hP := hy.2.2.1
  refine hXC ad t hy.1 hy.2.1 ⟨hP.1.kept (fun k q hq => hk q.1 ((hP.1 k q hq).lt)), hP.2⟩ ⟨Nat.le_trans hy.2.2.2.1.1 hsz, fun q h1 h2 => ?_⟩
  rw [hk q (Nat.lt_of_lt_of_le h1 hy.2.2.2.1.1)]
  exact hy.2.2.2.1.2.1 q h1 h2
/-- what flies leaves the method -/
theorem jx_out {E : String} (hhh : jm_hh M = []) (hc : kc ≤ jm_mc M ∧ ks ≤ jm_ms M) (hF : some ((.inr E, h) : jm_X) = some X) : jm_JX M pc E ls h kc ks X := by
  intro p l e R s m args below meth c N0 dC dI dA ad0 n0 Q Cx ad H locs lsA rest q ce hy hq hv hcl
  obtain ⟨hx, hb, hml, hown, hts, hlk, htb, hin, hl, hsf, hR, hs, hret, hthr⟩ := id Cx
  cases hF
  obtain ⟨Qc, XC, rfl, hXC⟩ := hthr E rfl
  exact vx_out (fun x hx' => by (rw [htb.1 hhh] at hx'; cases hx')) hlk hq hv hcl (fun t ht hal => hXC ad t hy.1 hy.2.1 (by rw [ht]; exact hy.2.2.1) (hy.2.2.2.1.F ht)) hy.2.2.2.1.2.2 hc.1 hc.2
end JE
/-! calls -/
def jm_Go (M N : jm_M) (pc : Nat) (st0 rest : List Value) (h : jm_H) (kc ks : Nat) (X' : jm_X) : Prop :=
  ∀ (p : Program) (l : Launch) (e : Env) (R : Room) (s : State) (m : MethodId) (args : Array Value) (below : List Frame) (meth : Method) (c : Code) (N0 : Nat) (dC : Nat → ClassId) (dI : Nat → Nat → Nat) (dA ad0 : Nat → Nat) (n0 : Nat) (Q : State → Prop) (X : jm_X),
    jm_Cx M X p l e R s m args below meth c N0 dC dI dA ad0 n0 Q → ∀ (ad : Nat → Nat) (H : Heap) (locs : List Loc) (lsA : Array Slot) (ls : List (Nat × Value)), jm_Hy M s N0 dC dI dA ad0 n0 ls h ad H locs lsA →
      vx_Run p l e R s m args below meth c H locs kc ks (jm_mc N) (jm_ms N) (F0 m pc lsA (st0.map (jm_V ad))) (rest.map (jm_V ad)) (jm_Qc N N0 dC dI dA ad h.length X' #[]) (jm_XC N N0 dC dI dA ad h.length X') (jm_N N0)
theorem jm_after {M N : jm_M} {pc : Nat} {ls : List (Nat × Value)} {st0 rest : List Value} {h : jm_H} {kc ks kc' ks' : Nat} {X X' : jm_X} (go : jm_Go M N pc st0 rest h kc ks X') (hal : jm_al N = false ∨ ((∀ q ∈ ls, jm_kV h.length q.2) ∧ (∀ v ∈ rest, jm_kV h.length v) ∧ jm_al M = true)) (ekc : kc + jm_mc N = kc') (eks : ks + jm_ms N = ks')
    (kk : ∀ v, X'.1 = .inl v → jm_J M (pc + 3) ls (v.toList ++ rest) X'.2 kc' ks' X) (kx : ∀ E, X'.1 = .inr E → jm_JX M pc E ls X'.2 kc' ks' X) : jm_J M pc ls st0 h kc ks X := by
  subst ekc
  subst eks
  intro p l e R s m args below meth c N0 dC dI dA ad0 n0 Q Cx ad H locs lsA hy T hT Xs
  have keep : ∀ ad' : Nat → Nat, jm_Rel N h.length ad ad' → jm_Rel M n0 ad0 ad' ∧ jm_L ad' ls = jm_L ad ls ∧ rest.map (jm_V ad') = rest.map (jm_V ad) := by
    intro ad' hr
    rcases hal with hal | ⟨h1, h2, h3⟩
    · have := hr.1 hal
      subst this
      exact ⟨hy.1, rfl, rfl⟩
    · refine ⟨⟨fun hf => by (rw [h3] at hf; cases hf), fun k hk => ?_⟩, jm_L_ag h1 hr.2, jm_st_ag h2 hr.2⟩
      rw [hr.2 k (hk.imp (fun hlt => Nat.lt_of_lt_of_le hlt hy.2.1) id)]
      exact hy.1.2 k hk
  rcases go p l e R s m args below meth c N0 dC dI dA ad0 n0 Q X Cx ad H locs lsA ls hy T hT Xs with ⟨v, st₀, t, T', L, h0, X9, hL, e1, e2, hQ, st⟩ | ⟨q, st₀, t, T', L, E, ce, h0, X9, hL, e1, e2, hQ, hce, hcv, hcl, st⟩
  · obtain ⟨v0, ad', hv0, hr, hrel, hln, hP, hF⟩ := hQ
    obtain ⟨k1, k2, k3⟩ := vx_keep h0 e1 hy.2.2.2.1 (fun _ _ z => z) (fun _ z => z) hL hF
    obtain ⟨hR', hls, hrs⟩ := keep ad' hrel
    have hvv : v = v0.map (jm_V ad') := by injection hr
    obtain ⟨t2, a1, b1⟩ := kk v0 hv0 p l e R s m args below meth c N0 dC dI dA ad0 n0 Q Cx ad' T'.heap (locs ++ L) lsA ⟨hR', Nat.le_trans hy.2.1 hln, by rw [e1]; exact hP, k3, by rw [hls]; exact hy.2.2.2.2⟩ T' rfl X9
    refine ⟨t2, st t2 ?_, b1⟩
    have hs : v.toList ++ rest.map (jm_V ad) = (v0.toList ++ rest).map (jm_V ad') := by
      rw [List.map_append, hrs, hvv]
      cases v0 <;> rfl
    show Steps p.tables e below (T'.setTop (F0 m (pc + 3) lsA (v.toList ++ rest.map (jm_V ad)))) t2
    rw [hs]
    exact a1
  · obtain ⟨ad', hv0, hrel, hln, hP, hF⟩ := hQ
    obtain ⟨k1, k2, k3⟩ := vx_keep h0 e1 hy.2.2.2.1 (fun _ _ z => z) (fun _ z => z) hL hF
    obtain ⟨hR', hls, hrs⟩ := keep ad' hrel
    obtain ⟨t2, a1, b1⟩ := kx E hv0 p l e R s m args below meth c N0 dC dI dA ad0 n0 Q Cx ad' T'.heap (locs ++ L) lsA (rest.map (jm_V ad)) q ce ⟨hR', Nat.le_trans hy.2.1 hln, by rw [e1]; exact hP, k3, by rw [hls]; exact hy.2.2.2.2⟩ (by rw [e1]; exact hce) hcv hcl T' rfl X9
    exact ⟨t2, st.trans a1, b1⟩
def jm_mh (c : String) : Prop := c ≠ "java/lang/invoke/MethodHandle" ∧ c ≠ "java/lang/invoke/VarHandle"
def jm_cfV (own : String) (idx : Nat) (N : jm_M) (n : Nat) : Prop := (Cond.methodLink own idx (jm_y N) ∈ jm_WS ∧ Cond.instanceMethod (jm_y N) ∈ jm_WS ∧ Cond.selects (jm_y N).cls (jm_y N) (jm_y N) ∈ jm_WS ∧ Cond.initialized (jm_y N).cls ∈ jm_WS ∧ jm_cd N ∈ jm_WS) ∧ jm_hh N = [] ∧ jm_mh (jm_y N).cls ∧ (parseMethodDescriptor (jm_y N).desc).map (fun d => d.parameters.length) = some n
def jm_cfS (own : String) (idx : Nat) (N : jm_M) (n : Nat) : Prop := (Cond.methodLink own idx (jm_y N) ∈ jm_WS ∧ Cond.static (jm_y N) ∈ jm_WS ∧ Cond.initialized (jm_y N).cls ∈ jm_WS ∧ jm_cd N ∈ jm_WS) ∧ jm_mh (jm_y N).cls ∧ (parseMethodDescriptor (jm_y N).desc).map (fun d => d.parameters.length) = some n
def jm_cfI (own : String) (idx : Nat) (N : jm_M) (n : Nat) : Prop := (Cond.methodLink own idx (jm_y N) ∈ jm_WS ∧ Cond.instanceMethod (jm_y N) ∈ jm_WS ∧ Cond.initialized (jm_y N).cls ∈ jm_WS ∧ jm_cd N ∈ jm_WS) ∧ jm_hh N = [] ∧ jm_mh (jm_y N).cls ∧ (parseMethodDescriptor (jm_y N).desc).map (fun d => d.parameters.length) = some n ∧ (jm_y N).name = "<init>" ∧ jm_rt N = none
/-- nest mates: the link is a fact of its own -/
def jm_cfN (own : String) (idx : Nat) (N : jm_M) (host : String) (n : Nat) (w : Cond) : Prop := ((own, idx, jm_y N, host) ∈ jm_nests ∧ w ∈ jm_WS ∧ Cond.initialized (jm_y N).cls ∈ jm_WS ∧ jm_cd N ∈ jm_WS) ∧ jm_hh N = [] ∧ jm_mh (jm_y N).cls ∧ (parseMethodDescriptor (jm_y N).desc).map (fun d => d.parameters.length) = some n
theorem jm_cd0 {N : jm_M} (h : jm_hh N = []) : jm_cd N = Cond.code (jm_y N) (jm_by N) (jm_nL N) (jm_rt N) := by simp [jm_cd, h]
theorem jm_cdH {N : jm_M} (h : jm_hh N ≠ []) : jm_cd N = Cond.codeWith (jm_y N) (jm_by N) (jm_nL N) (jm_rt N) (jm_hh N) := by simp [jm_cd, h]
theorem jm_gN {N : jm_M} {ws : List Cond} (hc : jm_cd N ∈ jm_WS) (hw : ∀ w ∈ ws, w ∈ jm_WS) : GoodIn jm_WS (ws ++ (jm_cd N :: jm_WS)) := jm_gIn (fun w h => by
  rcases List.mem_append.mp h with h | h
  · exact hw w h
  · rcases List.mem_cons.mp h with rfl | h
    · exact hc
    · exact h)
theorem jm_stk (ad : Nat → Nat) (as : List Value) (b : Nat) (rest : List Value) : (as.reverse ++ .ref b :: rest).map (jm_V ad) = (as.map (jm_V ad)).reverse ++ .ref (ad b) :: rest.map (jm_V ad) := by
  simp [List.map_append, List.map_reverse, jm_V]
theorem jm_stk0 (ad : Nat → Nat) (as rest : List Value) : (as.reverse ++ rest).map (jm_V ad) = (as.map (jm_V ad)).reverse ++ rest.map (jm_V ad) := by
  simp [List.map_append, List.map_reverse]
theorem jm_sum (ad : Nat → Nat) (rest : List Value) : ((rest.map (jm_V ad)).map fun v => v.category).sum = (rest.map fun v => v.category).sum := by
  rw [List.map_map]; congr 1; exact List.map_congr_left (fun v _ => jm_cat ad v)
theorem jm_pre {M : jm_M} {as : List Value} {h : jm_H} {s : State} {N0 : Nat} {dC : Nat → ClassId} {dI : Nat → Nat → Nat} {dA ad0 ad : Nat → Nat} {n0 : Nat} {ls : List (Nat × Value)} {H : Heap} {locs : List Loc} {lsA : Array Slot} (hsf : jm_Sf N0 dC dI dA s) (hy : jm_Hy M s N0 dC dI dA ad0 n0 ls h ad H locs lsA) {vs : List Value} (hvs : vs = as.map (jm_V ad)) :
    ∀ U : State, U.heap = H → s.WarmedH U.vm → jm_Pc N0 dC dI dA ad as h vs.toArray U := by
  intro U hU hW
  subst hvs
  subst hU
  exact ⟨rfl, jm_Sf.go hsf hW hy.2.2.2.1, hy.2.2.1⟩
theorem jm_met {N : jm_M} {as : List Value} {h : jm_H} {v : Option Value} {h' : jm_H} (hK : jm_K N as h (.inl v, h')) {l : Launch} {N0 : Nat} {dC : Nat → ClassId} {dI : Nat → Nat → Nat} {dA ad : Nat → Nat} (hl : l.stackTraces = false) : Met l (jm_y N) (jm_cd N :: jm_WS) (jm_rm N) (jm_Pc N0 dC dI dA ad as h) (jm_Qc N N0 dC dI dA ad h.length (.inl v, h')) (jm_mc N) (jm_ms N) (jm_N N0) := by
  refine MetFree.mono (hK l N0 dC dI dA ad hl) (fun _ _ h => h) (fun _ _ _ _ _ h => h) (fun a s o s' _ hq => ?_)
  rcases hq with hq | ⟨q, -, E, ce, L, hx, -⟩
  · exact hq
  · obtain ⟨ad', hE, -⟩ := hx
    cases hE
theorem jm_vx {p : Program} {l : Launch} {e : Env} {R : Room} {s : State} {m : MethodId} {args : Array Value} {below : List Frame} {meth : Method} {c : Code} {H : Heap} {locs : List Loc} {kc ks mc ms : Nat} {g : JFrame} {rest : List Value} {Qa : State → Outcome → State → Prop} {XC : String → State → State → Prop} {fr : Addr → Prop} (h : va_Run p l e R s m args below meth c H locs kc ks mc ms g rest Qa fr) : vx_Run p l e R s m args below meth c H locs kc ks mc ms g rest Qa XC fr := fun T hT X => Or.inl (h T hT X)
section JG
variable {M N : jm_M} {pc idx n : Nat} {as rest : List Value} {h : jm_H} {kc ks : Nat} {X' : jm_X}
abbrev jm_ro (M N : jm_M) : Prop := jm_fr N + 1 ≤ jm_fr M ∧ 8 + (jm_nL N + 11) + jm_lo N ≤ jm_lo M
abbrev jm_co (M N : jm_M) (kc ks : Nat) : Prop := kc + jm_mc N ≤ jm_mc M ∧ ks + jm_ms N ≤ jm_ms M
theorem jm_goV {o : Nat} (cf : jm_cfV (jm_ow M) idx N n) (hd : decode (jm_by M) pc = .ok (.invokevirtual idx, 3)) (hn : as.length = n) (hro : jm_ro M N) (hco : jm_co M N kc ks) (h8 : (rest.map fun v => v.category).sum ≤ 8)
    (hob : ∃ (ci : Nat) (q : vw_C) (fs : List Value), h[o]? = some (.inr (ci, fs)) ∧ vwCl[ci]? = some q ∧ q.1 = (jm_y N).cls) (hK : jm_K N (.ref o :: as) h X') : jm_Go M N pc (as.reverse ++ .ref o :: rest) rest h kc ks X' := by
  intro p l e R s m args below meth c N0 dC dI dA ad0 n0 Q X Cx ad H locs lsA ls hy
  obtain ⟨hx, hb, hml, hown, hts, hlk, htb, hin, hl, hsf, hR, hs, hret, hthr⟩ := id Cx
  obtain ⟨⟨c1, c2, c3, c4, c5⟩, chh, cmh, cn⟩ := cf
  obtain ⟨ci, q, fs, hob1, hob2, hob3⟩ := hob
  have hre := va_recv hsf.2.1 hy.2.2.1.1 hob2 (jm_get hob1)
  rw [jm_stk]
  have hG : GoodIn jm_WS (wsV (jm_ow M) idx (jm_y N).cls (jm_y N) (jm_cd N :: jm_WS)) := jm_gN c5 (fun w hw => by
    simp only [List.mem_cons, List.not_mem_nil, or_false] at hw
    rcases hw with rfl | rfl | rfl | rfl <;> assumption)
  exact vx_runV (Ts := jm_WS) ⟨hx, hb, hml, hown, hts⟩ (hK l N0 dC dI dA ad hl) (cwV n hts hG (by rw [jm_cd0 chh]) rfl rfl ⟨rfl, cmh.1, cmh.2, cn⟩ ⟨Nat.le_trans hro.1 hR.1, Nat.le_trans hro.2 hR.2.1⟩)
    ⟨jm_Pc.blind, by rw [← hob3]; exact hre, jm_pre hsf hy rfl⟩ rfl (by rw [List.length_map]; exact hn) hy.2.2.2.2.1 rfl (lv_room (by rw [jm_sum]; exact h8)) hd ⟨Nat.le_trans hco.1 hR.2.2.1, Nat.le_trans hco.2 hR.2.2.2⟩
theorem jm_goS (cf : jm_cfS (jm_ow M) idx N n) (hhh : jm_hh N = []) (hd : decode (jm_by M) pc = .ok (.invokestatic idx, 3)) (hn : as.length = n) (hro : jm_ro M N) (hco : jm_co M N kc ks) (h8 : (rest.map fun v => v.category).sum ≤ 8)
    (hK : jm_K N as h X') : jm_Go M N pc (as.reverse ++ rest) rest h kc ks X' := by
  intro p l e R s m args below meth c N0 dC dI dA ad0 n0 Q X Cx ad H locs lsA ls hy
  obtain ⟨hx, hb, hml, hown, hts, hlk, htb, hin, hl, hsf, hR, hs, hret, hthr⟩ := id Cx
  obtain ⟨⟨c1, c2, c3, c4⟩, cmh, cn⟩ := cf
  rw [jm_stk0]
  refine vx_runS (Ts := jm_WS) (As := as.map (jm_V ad)) ⟨hx, hb, hml, hown, hts⟩ (hK l N0 dC dI dA ad hl) ⟨callB_of n hts (jm_gN (ws := []) c4 (fun w hw => nomatch hw)) (by rw [jm_cd0 hhh]) rfl rfl (hts _ c3) (hts _ c1) ⟨cmh.1, cmh.2, cn⟩ ⟨Nat.le_trans hro.1 hR.1, Nat.le_trans hro.2 hR.2.1⟩, hts _ c2⟩
    ⟨jm_Pc.blind, jm_pre hsf hy rfl⟩ rfl (by rw [List.length_map]; exact hn) hy.2.2.2.2.1 rfl (lv_room (by rw [jm_sum]; exact h8)) hd ⟨Nat.le_trans hco.1 hR.2.2.1, Nat.le_trans hco.2 hR.2.2.2⟩
theorem jm_goH (cf : jm_cfS (jm_ow M) idx N n) (hhh : jm_hh N ≠ []) (hd : decode (jm_by M) pc = .ok (.invokestatic idx, 3)) (hn : as.length = n) (hro : jm_ro M N) (hco : jm_co M N kc ks) (h8 : (rest.map fun v => v.category).sum ≤ 8)
    (hK : jm_K N as h X') : jm_Go M N pc (as.reverse ++ rest) rest h kc ks X' := by
  intro p l e R s m args below meth c N0 dC dI dA ad0 n0 Q X Cx ad H locs lsA ls hy
  obtain ⟨hx, hb, hml, hown, hts, hlk, htb, hin, hl, hsf, hR, hs, hret, hthr⟩ := id Cx
  obtain ⟨⟨c1, c2, c3, c4⟩, cmh, cn⟩ := cf
  rw [jm_stk0]
  have hG : GoodIn jm_WS (va_wsS (jm_ow M) idx (jm_y N) (jm_cd N :: jm_WS)) := jm_gN c4 (fun w hw => by
    simp only [List.mem_cons, List.not_mem_nil, or_false] at hw
    rcases hw with rfl | rfl | rfl <;> assumption)
  exact vx_runSX (Ts := jm_WS) (As := as.map (jm_V ad)) (hh := jm_hh N) ⟨hx, hb, hml, hown, hts⟩ (hK l N0 dC dI dA ad hl) (vx_cwSW n hts hG (by rw [jm_cdH hhh]) rfl rfl ⟨cmh.1, cmh.2, cn⟩ ⟨Nat.le_trans hro.1 hR.1, Nat.le_trans hro.2 hR.2.1⟩)
    ⟨jm_Pc.blind, jm_pre hsf hy rfl⟩ rfl (by rw [List.length_map]; exact hn) hy.2.2.2.2.1 rfl (lv_room (by rw [jm_sum]; exact h8)) hd ⟨Nat.le_trans hco.1 hR.2.2.1, Nat.le_trans hco.2 hR.2.2.2⟩
theorem jm_goI {o : Nat} {v : Option Value} {h' : jm_H} (cf : jm_cfI (jm_ow M) idx N n) (hd : decode (jm_by M) pc = .ok (.invokespecial idx, 3)) (hn : as.length = n) (hro : jm_ro M N) (hco : jm_co M N kc ks) (h8 : (rest.map fun v => v.category).sum ≤ 8)
    (hK : jm_K N (.ref o :: as) h (.inl v, h')) : jm_Go M N pc (as.reverse ++ .ref o :: rest) rest h kc ks (.inl v, h') := by
  intro p l e R s m args below meth c N0 dC dI dA ad0 n0 Q X Cx ad H locs lsA ls hy
  obtain ⟨hx, hb, hml, hown, hts, hlk, htb, hin, hl, hsf, hR, hs, hret, hthr⟩ := id Cx
  obtain ⟨⟨c1, c2, c3, c4⟩, chh, cmh, cn, cni, crt⟩ := cf
  rw [jm_stk]
  exact jm_vx (va_runI (Ts := jm_WS) ⟨hx, hb, hml, hown, hts⟩ (jm_met hK hl) ⟨callB_of n hts (jm_gN (ws := []) c4 (fun w hw => nomatch hw)) (by rw [jm_cd0 chh, crt]) rfl rfl (hts _ c3) (hts _ c1) ⟨cmh.1, cmh.2, cn⟩ ⟨Nat.le_trans hro.1 hR.1, Nat.le_trans hro.2 hR.2.1⟩, cni, hts _ c2⟩
    ⟨jm_Pc.blind, jm_pre hsf hy rfl⟩ rfl (by rw [List.length_map]; exact hn) hy.2.2.2.2.1 rfl (lv_room (by rw [jm_sum]; exact h8)) hd ⟨Nat.le_trans hco.1 hR.2.2.1, Nat.le_trans hco.2 hR.2.2.2⟩)
theorem jm_goIN {o : Nat} {v : Option Value} {h' : jm_H} {host : String} (cf : jm_cfN (jm_ow M) idx N host n (.instanceMethod (jm_y N))) (hni : (jm_y N).name = "<init>") (crt : jm_rt N = none) (hd : decode (jm_by M) pc = .ok (.invokespecial idx, 3)) (hn : as.length = n) (hro : jm_ro M N) (hco : jm_co M N kc ks) (h8 : (rest.map fun v => v.category).sum ≤ 8)
    (hK : jm_K N (.ref o :: as) h (.inl v, h')) : jm_Go M N pc (as.reverse ++ .ref o :: rest) rest h kc ks (.inl v, h') := by
  intro p l e R s m args below meth c N0 dC dI dA ad0 n0 Q X Cx ad H locs lsA ls hy
  obtain ⟨hx, hb, hml, hown, hts, hlk, htb, hin, hl, hsf, hR, hs, hret, hthr⟩ := id Cx
  obtain ⟨⟨c1, c2, c3, c4⟩, chh, cmh, cn⟩ := cf
  rw [jm_stk]
  exact jm_vx (va_runIN (Ts := jm_WS) ⟨hx, hb, hml, hown, hts⟩ (jm_met hK hl) ⟨va_cnB (host := host) n hts (jm_gN (ws := []) c4 (fun w hw => nomatch hw)) (by rw [jm_cd0 chh, crt]) rfl rfl (hsf.2.2.1 _ c1) (hts _ c3) ⟨cmh.1, cmh.2, cn⟩ ⟨Nat.le_trans hro.1 hR.1, Nat.le_trans hro.2 hR.2.1⟩, hni, hts _ c2⟩
    ⟨jm_Pc.blind, jm_pre hsf hy rfl⟩ rfl (by rw [List.length_map]; exact hn) hy.2.2.2.2.1 rfl (lv_room (by rw [jm_sum]; exact h8)) hd ⟨Nat.le_trans hco.1 hR.2.2.1, Nat.le_trans hco.2 hR.2.2.2⟩)
theorem jm_goSN {v : Option Value} {h' : jm_H} {host : String} (cf : jm_cfN (jm_ow M) idx N host n (.static (jm_y N))) (hd : decode (jm_by M) pc = .ok (.invokestatic idx, 3)) (hn : as.length = n) (hro : jm_ro M N) (hco : jm_co M N kc ks) (h8 : (rest.map fun v => v.category).sum ≤ 8)
    (hK : jm_K N as h (.inl v, h')) : jm_Go M N pc (as.reverse ++ rest) rest h kc ks (.inl v, h') := by
  intro p l e R s m args below meth c N0 dC dI dA ad0 n0 Q X Cx ad H locs lsA ls hy
  obtain ⟨hx, hb, hml, hown, hts, hlk, htb, hin, hl, hsf, hR, hs, hret, hthr⟩ := id Cx
  obtain ⟨⟨c1, c2, c3, c4⟩, chh, cmh, cn⟩ := cf
  rw [jm_stk0]
  exact jm_vx (va_runSN (Ts := jm_WS) (As := as.map (jm_V ad)) ⟨hx, hb, hml, hown, hts⟩ (jm_met hK hl) ⟨va_cnB (host := host) n hts (jm_gN (ws := []) c4 (fun w hw => nomatch hw)) (by rw [jm_cd0 chh]) rfl rfl (hsf.2.2.1 _ c1) (hts _ c3) ⟨cmh.1, cmh.2, cn⟩ ⟨Nat.le_trans hro.1 hR.1, Nat.le_trans hro.2 hR.2.1⟩, hts _ c2, trivial⟩
    ⟨jm_Pc.blind, jm_pre hsf hy rfl⟩ rfl (by rw [List.length_map]; exact hn) hy.2.2.2.2.1 rfl (lv_room (by rw [jm_sum]; exact h8)) hd ⟨Nat.le_trans hco.1 hR.2.2.1, Nat.le_trans hco.2 hR.2.2.2⟩)
end JG
end
section
/-! what a call gives back, in words of F; handlers; new objects; the machine's own methods -/
def jf_I (r : Option jm_X) (f : Int32 → jm_H → Option jm_X) : Option jm_X := match r with
  | some (.inl (some (.int v)), h) => f v h
  | some (.inr E, h) => some (.inr E, h)
  | _ => none
def jf_L (r : Option jm_X) (f : Int64 → jm_H → Option jm_X) : Option jm_X := match r with
  | some (.inl (some (.long v)), h) => f v h
  | some (.inr E, h) => some (.inr E, h)
  | _ => none
def jf_D (r : Option jm_X) (f : UInt64 → jm_H → Option jm_X) : Option jm_X := match r with
  | some (.inl (some (.double v)), h) => f v h
  | some (.inr E, h) => some (.inr E, h)
  | _ => none
def jf_V (r : Option jm_X) (f : jm_H → Option jm_X) : Option jm_X := match r with
  | some (.inl none, h) => f h
  | some (.inr E, h) => some (.inr E, h)
  | _ => none
def jf_TI (r : Option jm_X) (f : Int32 → jm_H → Option jm_X) (g : String → jm_H → Option jm_X) : Option jm_X := match r with
  | some (.inl (some (.int v)), h) => f v h
  | some (.inr E, h) => g E h
  | _ => none
def jf_TD (r : Option jm_X) (f : UInt64 → jm_H → Option jm_X) (g : String → jm_H → Option jm_X) : Option jm_X := match r with
  | some (.inl (some (.double v)), h) => f v h
  | some (.inr E, h) => g E h
  | _ => none
def jf_o (ci o : Nat) (h : jm_H) (r : Option jm_X) : Option jm_X := match h[o]? with
  | some (.inr (c, _)) => if c = ci then r else none
  | _ => none
theorem jf_o_inv {ci o : Nat} {h : jm_H} {r : Option jm_X} {X : jm_X} (hF : jf_o ci o h r = some X) : ∃ fs : List Value, h[o]? = some (.inr (ci, fs)) ∧ r = some X := by
  unfold jf_o at hF
  split at hF
  · next c fs hh =>
    split at hF
    · next hc => subst hc; exact ⟨fs, hh, hF⟩
    · cases hF
  · cases hF
theorem jf_I_inv {r : Option jm_X} {f : Int32 → jm_H → Option jm_X} {X : jm_X} (hF : jf_I r f = some X) : (∃ v h', r = some (.inl (some (.int v)), h') ∧ f v h' = some X) ∨ ∃ E h', r = some (.inr E, h') ∧ (some (.inr E, h') : Option jm_X) = some X := by
  unfold jf_I at hF
  split at hF
  · exact Or.inl ⟨_, _, rfl, hF⟩
  · exact Or.inr ⟨_, _, rfl, hF⟩
  · cases hF
theorem jf_L_inv {r : Option jm_X} {f : Int64 → jm_H → Option jm_X} {X : jm_X} (hF : jf_L r f = some X) : (∃ v h', r = some (.inl (some (.long v)), h') ∧ f v h' = some X) ∨ ∃ E h', r = some (.inr E, h') ∧ (some (.inr E, h') : Option jm_X) = some X := by
  unfold jf_L at hF
  split at hF
  · exact Or.inl ⟨_, _, rfl, hF⟩
  · exact Or.inr ⟨_, _, rfl, hF⟩
  · cases hF
theorem jf_D_inv {r : Option jm_X} {f : UInt64 → jm_H → Option jm_X} {X : jm_X} (hF : jf_D r f = some X) : (∃ v h', r = some (.inl (some (.double v)), h') ∧ f v h' = some X) ∨ ∃ E h', r = some (.inr E, h') ∧ (some (.inr E, h') : Option jm_X) = some X := by
  unfold jf_D at hF
  split at hF
  · exact Or.inl ⟨_, _, rfl, hF⟩
  · exact Or.inr ⟨_, _, rfl, hF⟩
  · cases hF
theorem jf_V_inv {r : Option jm_X} {f : jm_H → Option jm_X} {X : jm_X} (hF : jf_V r f = some X) : (∃ h', r = some (.inl none, h') ∧ f h' = some X) ∨ ∃ E h', r = some (.inr E, h') ∧ (some (.inr E, h') : Option jm_X) = some X := by
  unfold jf_V at hF
  split at hF
  · exact Or.inl ⟨_, rfl, hF⟩
  · exact Or.inr ⟨_, _, rfl, hF⟩
  · cases hF
theorem jf_TI_inv {r : Option jm_X} {f : Int32 → jm_H → Option jm_X} {g : String → jm_H → Option jm_X} {X : jm_X} (hF : jf_TI r f g = some X) : (∃ v h', r = some (.inl (some (.int v)), h') ∧ f v h' = some X) ∨ ∃ E h', r = some (.inr E, h') ∧ g E h' = some X := by
  unfold jf_TI at hF
  split at hF
  · exact Or.inl ⟨_, _, rfl, hF⟩
  · exact Or.inr ⟨_, _, rfl, hF⟩
  · cases hF
theorem jf_TD_inv {r : Option jm_X} {f : UInt64 → jm_H → Option jm_X} {g : String → jm_H → Option jm_X} {X : jm_X} (hF : jf_TD r f g = some X) : (∃ v h', r = some (.inl (some (.double v)), h') ∧ f v h' = some X) ∨ ∃ E h', r = some (.inr E, h') ∧ g E h' = some X := by
  unfold jf_TD at hF
  split at hF
  · exact Or.inl ⟨_, _, rfl, hF⟩
  · exact Or.inr ⟨_, _, rfl, hF⟩
  · cases hF
/-- refs that stay: the live ones are below the heap's end -/
def jm_lv (n : Nat) (lv : List Nat) : Prop := ∀ r ∈ lv, r < n ∨ r = 1000000
noncomputable def jf_lv (n : Nat) (lv : List Nat) (r : Option jm_X) : Option jm_X := @ite _ (jm_lv n lv) (Classical.propDecidable _) r none
theorem jf_lv_inv {n : Nat} {lv : List Nat} {r : Option jm_X} {X : jm_X} (hF : jf_lv n lv r = some X) : jm_lv n lv ∧ r = some X := by
  unfold jf_lv at hF
  by_cases hc : jm_lv n lv
  · rw [if_pos hc] at hF; exact ⟨hc, hF⟩
  · rw [if_neg hc] at hF; cases hF
theorem jf_lv_eq {n : Nat} {lv : List Nat} {r : Option jm_X} (h : jm_lv n lv) : jf_lv n lv r = r := by
  unfold jf_lv; rw [if_pos h]
/-- room that is counted as the run goes -/
def jf_k (M : jm_M) (kc ks : Nat) (r : Option jm_X) : Option jm_X := if kc ≤ jm_mc M ∧ ks ≤ jm_ms M then r else none
theorem jf_k_inv {M : jm_M} {kc ks : Nat} {r : Option jm_X} {X : jm_X} (hF : jf_k M kc ks r = some X) : (kc ≤ jm_mc M ∧ ks ≤ jm_ms M) ∧ r = some X := by
  unfold jf_k at hF
  split at hF
  · next hc => exact ⟨hc, hF⟩
  · cases hF
section JG2
variable {M N : jm_M} {pc pc' idx n : Nat} {ls : List (Nat × Value)} {as st0 rest : List Value} {h : jm_H} {kc ks kc' ks' : Nat} {X : jm_X} {r : Option jm_X}
theorem jg_V {o ci : Nat} {q : vw_C} (cf : jm_cfV (jm_ow M) idx N n) (hd : decode (jm_by M) pc = .ok (.invokevirtual idx, 3)) (hq : vwCl[ci]? = some q ∧ q.1 = (jm_y N).cls) (hn : as.length = n) (hst : as.reverse ++ .ref o :: rest = st0) (hro : jm_ro M N) (hco : jm_co M N kc ks) (h8 : (rest.map fun v => v.category).sum ≤ 8)
    (hK : ∀ X', r = some X' → jm_K N (.ref o :: as) h X') : ∀ X', jf_o ci o h r = some X' → jm_Go M N pc st0 rest h kc ks X' := by
  intro X' hX
  obtain ⟨fs, hh, hr⟩ := jf_o_inv hX
  subst hst
  exact jm_goV cf hd hn hro hco h8 ⟨ci, q, fs, hh, hq.1, hq.2⟩ (hK X' hr)
theorem jg_S (cf : jm_cfS (jm_ow M) idx N n) (hhh : jm_hh N = []) (hd : decode (jm_by M) pc = .ok (.invokestatic idx, 3)) (hn : as.length = n) (hst : as.reverse ++ rest = st0) (hro : jm_ro M N) (hco : jm_co M N kc ks) (h8 : (rest.map fun v => v.category).sum ≤ 8)
    (hK : ∀ X', r = some X' → jm_K N as h X') : ∀ X', r = some X' → jm_Go M N pc st0 rest h kc ks X' := by
  intro X' hX
  subst hst
  exact jm_goS cf hhh hd hn hro hco h8 (hK X' hX)
theorem jg_H (cf : jm_cfS (jm_ow M) idx N n) (hhh : jm_hh N ≠ []) (hd : decode (jm_by M) pc = .ok (.invokestatic idx, 3)) (hn : as.length = n) (hst : as.reverse ++ rest = st0) (hro : jm_ro M N) (hco : jm_co M N kc ks) (h8 : (rest.map fun v => v.category).sum ≤ 8)
    (hK : ∀ X', r = some X' → jm_K N as h X') : ∀ X', r = some X' → jm_Go M N pc st0 rest h kc ks X' := by
  intro X' hX
  subst hst
  exact jm_goH cf hhh hd hn hro hco h8 (hK X' hX)
/-- a method of an int, or what flies through -/
theorem jj_cI {f : Int32 → jm_H → Option jm_X} (go : ∀ X', r = some X' → jm_Go M N pc st0 rest h kc ks X') (hal : jm_al N = false) (hhh : jm_hh M = []) (ekc : kc + jm_mc N = kc') (eks : ks + jm_ms N = ks') (hco : kc' ≤ jm_mc M ∧ ks' ≤ jm_ms M) (hp : pc + 3 = pc') (hF : jf_I r f = some X) (K : ∀ v h', f v h' = some X → jm_J M pc' ls (.int v :: rest) h' kc' ks' X) : jm_J M pc ls st0 h kc ks X := by
  subst hp
  rcases jf_I_inv hF with ⟨v, h', hr, hf⟩ | ⟨E, h', hr, hX⟩
  · exact jm_after (go _ hr) (Or.inl hal) ekc eks (fun v9 hv => by cases hv; exact K v h' hf) (fun E hE => nomatch hE)
  · exact jm_after (go _ hr) (Or.inl hal) ekc eks (fun v9 hv => nomatch hv) (fun E9 hE => by cases hE; exact jx_out hhh hco hX)
theorem jj_cL {f : Int64 → jm_H → Option jm_X} (go : ∀ X', r = some X' → jm_Go M N pc st0 rest h kc ks X') (hal : jm_al N = false) (hhh : jm_hh M = []) (ekc : kc + jm_mc N = kc') (eks : ks + jm_ms N = ks') (hco : kc' ≤ jm_mc M ∧ ks' ≤ jm_ms M) (hp : pc + 3 = pc') (hF : jf_L r f = some X) (K : ∀ v h', f v h' = some X → jm_J M pc' ls (.long v :: rest) h' kc' ks' X) : jm_J M pc ls st0 h kc ks X := by
  subst hp
  rcases jf_L_inv hF with ⟨v, h', hr, hf⟩ | ⟨E, h', hr, hX⟩
  · exact jm_after (go _ hr) (Or.inl hal) ekc eks (fun v9 hv => by cases hv; exact K v h' hf) (fun E hE => nomatch hE)
  · exact jm_after (go _ hr) (Or.inl hal) ekc eks (fun v9 hv => nomatch hv) (fun E9 hE => by cases hE; exact jx_out hhh hco hX)
theorem jj_cD {f : UInt64 → jm_H → Option jm_X} (go : ∀ X', r = some X' → jm_Go M N pc st0 rest h kc ks X') (hal : jm_al N = false) (hhh : jm_hh M = []) (ekc : kc + jm_mc N = kc') (eks : ks + jm_ms N = ks') (hco : kc' ≤ jm_mc M ∧ ks' ≤ jm_ms M) (hp : pc + 3 = pc') (hF : jf_D r f = some X) (K : ∀ v h', f v h' = some X → jm_J M pc' ls (.double v :: rest) h' kc' ks' X) : jm_J M pc ls st0 h kc ks X := by
  subst hp
  rcases jf_D_inv hF with ⟨v, h', hr, hf⟩ | ⟨E, h', hr, hX⟩
  · exact jm_after (go _ hr) (Or.inl hal) ekc eks (fun v9 hv => by cases hv; exact K v h' hf) (fun E hE => nomatch hE)
  · exact jm_after (go _ hr) (Or.inl hal) ekc eks (fun v9 hv => nomatch hv) (fun E9 hE => by cases hE; exact jx_out hhh hco hX)
theorem jj_cV {f : jm_H → Option jm_X} (go : ∀ X', r = some X' → jm_Go M N pc st0 rest h kc ks X') (hal : jm_al N = false) (hhh : jm_hh M = []) (ekc : kc + jm_mc N = kc') (eks : ks + jm_ms N = ks') (hco : kc' ≤ jm_mc M ∧ ks' ≤ jm_ms M) (hp : pc + 3 = pc') (hF : jf_V r f = some X) (K : ∀ h', f h' = some X → jm_J M pc' ls rest h' kc' ks' X) : jm_J M pc ls st0 h kc ks X := by
  subst hp
  rcases jf_V_inv hF with ⟨h', hr, hf⟩ | ⟨E, h', hr, hX⟩
  · exact jm_after (go _ hr) (Or.inl hal) ekc eks (fun v9 hv => by cases hv; exact K h' hf) (fun E hE => nomatch hE)
  · exact jm_after (go _ hr) (Or.inl hal) ekc eks (fun v9 hv => nomatch hv) (fun E9 hE => by cases hE; exact jx_out hhh hco hX)
/-- a method that never throws: F hands its value on, or nothing -/
def jf_cI (r : Option jm_X) (f : Int32 → jm_H → Option jm_X) : Option jm_X := match r with
  | some (.inl (some (.int v)), h) => f v h
  | _ => none
def jf_cV (r : Option jm_X) (f : jm_H → Option jm_X) : Option jm_X := match r with
  | some (.inl none, h) => f h
  | _ => none
theorem jf_cI_inv {r : Option jm_X} {f : Int32 → jm_H → Option jm_X} {X : jm_X} (hF : jf_cI r f = some X) : ∃ v h', r = some (.inl (some (.int v)), h') ∧ f v h' = some X := by
  unfold jf_cI at hF
  split at hF
  · exact ⟨_, _, rfl, hF⟩
  · cases hF
theorem jf_cV_inv {r : Option jm_X} {f : jm_H → Option jm_X} {X : jm_X} (hF : jf_cV r f = some X) : ∃ h', r = some (.inl none, h') ∧ f h' = some X := by
  unfold jf_cV at hF
  split at hF
  · exact ⟨_, rfl, hF⟩
  · cases hF
/-- a static nest mate of an int -/
theorem jj_nS {f : Int32 → jm_H → Option jm_X} {host : String} (cf : jm_cfN (jm_ow M) idx N host n (.static (jm_y N))) (hd : decode (jm_by M) pc = .ok (.invokestatic idx, 3)) (hn : as.length = n) (hst : as.reverse ++ rest = st0) (hro : jm_ro M N) (hco : jm_co M N kc ks) (h8 : (rest.map fun v => v.category).sum ≤ 8)
    (hK : ∀ X', r = some X' → jm_K N as h X') (hal : jm_al N = false) (ekc : kc + jm_mc N = kc') (eks : ks + jm_ms N = ks') (hp : pc + 3 = pc') (hF : jf_cI r f = some X) (K : ∀ v h', f v h' = some X → jm_J M pc' ls (.int v :: rest) h' kc' ks' X) : jm_J M pc ls st0 h kc ks X := by
  subst hp
  subst hst
  obtain ⟨v, h', hr, hf⟩ := jf_cI_inv hF
  exact jm_after (jm_goSN cf hd hn hro hco h8 (hK _ hr)) (Or.inl hal) ekc eks (fun v9 hv => by cases hv; exact K v h' hf) (fun E hE => nomatch hE)
/-- a constructor; lv: the live refs, which stay -/
theorem jj_ini {f : jm_H → Option jm_X} {o : Nat} {lv : List Nat} (cf : jm_cfI (jm_ow M) idx N n) (hd : decode (jm_by M) pc = .ok (.invokespecial idx, 3)) (hn : as.length = n) (hst : as.reverse ++ .ref o :: rest = st0) (hro : jm_ro M N) (hco : jm_co M N kc ks) (h8 : (rest.map fun v => v.category).sum ≤ 8)
    (hK : ∀ X', r = some X' → jm_K N (.ref o :: as) h X') (hal : jm_al M = true) (hl : (∀ q ∈ ls, ∀ a, q.2 = .ref a → a ∈ lv) ∧ (∀ v ∈ rest, ∀ a, v = .ref a → a ∈ lv)) (ekc : kc + jm_mc N = kc') (eks : ks + jm_ms N = ks') (hp : pc + 3 = pc') (hF : jf_lv h.length lv (jf_cV r f) = some X) (K : ∀ h', f h' = some X → jm_J M pc' ls rest h' kc' ks' X) : jm_J M pc ls st0 h kc ks X := by
  subst hp
  subst hst
  obtain ⟨hlv, hF⟩ := jf_lv_inv hF
  obtain ⟨h', hr, hf⟩ := jf_cV_inv hF
  exact jm_after (jm_goI cf hd hn hro hco h8 (hK _ hr)) (Or.inr ⟨fun q hq a ha => hlv a (hl.1 q hq a ha), fun v hv a ha => hlv a (hl.2 v hv a ha), hal⟩) ekc eks (fun v9 hv => by cases hv; exact K h' hf) (fun E hE => nomatch hE)
theorem jj_iniN {f : jm_H → Option jm_X} {o : Nat} {host : String} {lv : List Nat} (cf : jm_cfN (jm_ow M) idx N host n (.instanceMethod (jm_y N))) (hni : (jm_y N).name = "<init>") (crt : jm_rt N = none) (hd : decode (jm_by M) pc = .ok (.invokespecial idx, 3)) (hn : as.length = n) (hst : as.reverse ++ .ref o :: rest = st0) (hro : jm_ro M N) (hco : jm_co M N kc ks) (h8 : (rest.map fun v => v.category).sum ≤ 8)
    (hK : ∀ X', r = some X' → jm_K N (.ref o :: as) h X') (hal : jm_al M = true) (hl : (∀ q ∈ ls, ∀ a, q.2 = .ref a → a ∈ lv) ∧ (∀ v ∈ rest, ∀ a, v = .ref a → a ∈ lv)) (ekc : kc + jm_mc N = kc') (eks : ks + jm_ms N = ks') (hp : pc + 3 = pc') (hF : jf_lv h.length lv (jf_cV r f) = some X) (K : ∀ h', f h' = some X → jm_J M pc' ls rest h' kc' ks' X) : jm_J M pc ls st0 h kc ks X := by
  subst hp
  subst hst
  obtain ⟨hlv, hF⟩ := jf_lv_inv hF
  obtain ⟨h', hr, hf⟩ := jf_cV_inv hF
  exact jm_after (jm_goIN cf hni crt hd hn hro hco h8 (hK _ hr)) (Or.inr ⟨fun q hq a ha => hlv a (hl.1 q hq a ha), fun v hv a ha => hlv a (hl.2 v hv a ha), hal⟩) ekc eks (fun v9 hv => by cases hv; exact K h' hf) (fun E hE => nomatch hE)
/-- calls under a table of handlers -/
theorem jj_tI {f : Int32 → jm_H → Option jm_X} {g : String → jm_H → Option jm_X} (go : ∀ X', r = some X' → jm_Go M N pc st0 rest h kc ks X') (hal : jm_al N = false) (ekc : kc + jm_mc N = kc') (eks : ks + jm_ms N = ks') (hp : pc + 3 = pc') (hF : jf_TI r f g = some X) (Kx : ∀ E h', g E h' = some X → jm_JX M pc E ls h' kc' ks' X) (K : ∀ v h', f v h' = some X → jm_J M pc' ls (.int v :: rest) h' kc' ks' X) : jm_J M pc ls st0 h kc ks X := by
  subst hp
  rcases jf_TI_inv hF with ⟨v, h', hr, hf⟩ | ⟨E, h', hr, hX⟩
  · exact jm_after (go _ hr) (Or.inl hal) ekc eks (fun v9 hv => by cases hv; exact K v h' hf) (fun E hE => nomatch hE)
  · exact jm_after (go _ hr) (Or.inl hal) ekc eks (fun v9 hv => nomatch hv) (fun E9 hE => by cases hE; exact Kx E h' hX)
theorem jj_tD {f : UInt64 → jm_H → Option jm_X} {g : String → jm_H → Option jm_X} (go : ∀ X', r = some X' → jm_Go M N pc st0 rest h kc ks X') (hal : jm_al N = false) (ekc : kc + jm_mc N = kc') (eks : ks + jm_ms N = ks') (hp : pc + 3 = pc') (hF : jf_TD r f g = some X) (Kx : ∀ E h', g E h' = some X → jm_JX M pc E ls h' kc' ks' X) (K : ∀ v h', f v h' = some X → jm_J M pc' ls (.double v :: rest) h' kc' ks' X) : jm_J M pc ls st0 h kc ks X := by
  subst hp
  rcases jf_TD_inv hF with ⟨v, h', hr, hf⟩ | ⟨E, h', hr, hX⟩
  · exact jm_after (go _ hr) (Or.inl hal) ekc eks (fun v9 hv => by cases hv; exact K v h' hf) (fun E hE => nomatch hE)
  · exact jm_after (go _ hr) (Or.inl hal) ekc eks (fun v9 hv => nomatch hv) (fun E9 hE => by cases hE; exact Kx E h' hX)
/-- a handler, whose first row puts the thrown one away -/
theorem jx_h {E : String} {i len pc2 : Nat} {ls' : List (Nat × Value)} (pre suf : List ExceptionTableEntry) (x : ExceptionTableEntry) (ig : Instr) (hhh : jm_hh M ≠ []) (hsplit : tableOf (jm_hh M) = pre ++ x :: suf)
    (hpass : ∀ z ∈ pre, z.catchType ≠ 0 ∧ ∃ nm : String, Cond.classLink (jm_ow M) z.catchType nm ∈ jm_WS ∧ nm ∈ jm_thrs ∧ E ≠ nm) (hx : covers x pc = true) (h0 : x.catchType ≠ 0) (hlink : Cond.classLink (jm_ow M) x.catchType E ∈ jm_WS) (hE : E ∈ jm_thrs)
    (hd : decode (jm_by M) x.handlerPc = .ok (ig, len)) (hig : (∃ k : Fin 4, ig = .astore_n k ∧ (k : Nat) = i ∧ len = 1) ∨ (ig = .astore i ∧ len = 2)) (hn : i < jm_nL M) (hl : ls.filter (fun q => !(q.1 == i) && !(q.1 + 1 == i && q.2.category == 2)) = ls') (hp : x.handlerPc + len = pc2) (K : jm_J M pc2 ls' [] h kc ks X) : jm_JX M pc E ls h kc ks X := by
  subst hp
  intro p l e R s m args below meth c N0 dC dI dA ad0 n0 Q Cx ad H locs lsA rest' q ce hy hq hv hcl
  obtain ⟨hx9, hb, hml, hown, hts, hlk, htb, hin, hl9, hsf, -⟩ := id Cx
  refine vx_catch (ls := lsA) hown pre x suf (by rw [htb.2 hhh]; exact hsplit) (fun z hz => Or.inr ?_) hx h0 (hts _ hlink) (va_Nw.use rfl (hsf.2.2.2.2.2.1 E hE)) hq hv hcl ?_
  · obtain ⟨z0, nm, z1, z2, z3⟩ := hpass z hz
    exact ⟨z0, nm, hts _ z1, hsf.2.2.2.2.2.2.1 E hE nm z2 z3⟩
  · have hfl : (jm_L ad ls).filter (fun q => !(q.1 == i) && !(q.1 + 1 == i && q.2.category == 2)) = jm_L ad ls' := by
      rw [← hl]
      exact (jm_filt ad (fun a b => !(a == i) && !(a + 1 == i && b == 2)) ls).symm
    have hK : ∀ lsA' : Array Slot, lv_has lsA' (jm_nL M) ((i, .ref q) :: jm_L ad ls') → W p l e R s m args below meth c H locs kc ks Q (F0 m (x.handlerPc + len) lsA' []) := fun lsA' hA' =>
      K p l e R s m args below meth c N0 dC dI dA ad0 n0 Q Cx ad H locs lsA' (jm_lens hy ⟨hA'.1, hA'.2.1, fun z hz => hA'.2.2 z (List.mem_cons_of_mem _ hz)⟩)
    rcases hig with ⟨k, rfl, hk, rfl⟩ | ⟨rfl, rfl⟩
    · exact lv_astore_n (lv' := (i, .ref q) :: jm_L ad ls') hx9 hb hd hk hy.2.2.2.2 hn (by rw [hfl]) hK
    · exact lv_astore (lv' := (i, .ref q) :: jm_L ad ls') hx9 hb hd hy.2.2.2.2 hn (by rw [hfl]) hK
end JG2
/-! what is new -/
noncomputable def jf_nw (c : jm_C) (h : jm_H) (lv : List Nat) (f : Nat → jm_H → Option jm_X) : Option jm_X := @ite _ (jm_ok h.length h ∧ (∀ r ∈ lv, r ≠ h.length) ∧ h.length < 1000000) (Classical.propDecidable _) (f h.length (h ++ [c])) none
theorem jf_nw_inv {c : jm_C} {h : jm_H} {lv : List Nat} {f : Nat → jm_H → Option jm_X} {X : jm_X} (hF : jf_nw c h lv f = some X) : (jm_ok h.length h ∧ (∀ r ∈ lv, r ≠ h.length) ∧ h.length < 1000000) ∧ f h.length (h ++ [c]) = some X := by
  unfold jf_nw at hF
  by_cases hc : jm_ok h.length h ∧ (∀ r ∈ lv, r ≠ h.length) ∧ h.length < 1000000
  · rw [if_pos hc] at hF; exact ⟨hc, hF⟩
  · rw [if_neg hc] at hF; cases hF
theorem jf_nw_eq {c : jm_C} {h : jm_H} {lv : List Nat} {f : Nat → jm_H → Option jm_X} (h1 : jm_ok h.length h) (h2 : ∀ r ∈ lv, r ≠ h.length) (h3 : h.length < 1000000) : jf_nw c h lv f = f h.length (h ++ [c]) := by
  unfold jf_nw; rw [if_pos ⟨h1, h2, h3⟩]
section JN
variable {M : jm_M} {pc pc' : Nat} {ls : List (Nat × Value)} {st : List Value} {h : jm_H} {kc ks kc' ks' : Nat} {X : jm_X}
theorem jm_Hnew {s : State} {N0 : Nat} {dC : Nat → ClassId} {dI : Nat → Nat → Nat} {dA ad0 : Nat → Nat} {n0 q : Nat} {c : jm_C} {lv : List Nat} {ad : Nat → Nat} {H H1 : Heap} {locs locs1 : List Loc} {lsA : Array Slot} (hal : jm_al M = true) (hy : jm_Hy M s N0 dC dI dA ad0 n0 ls h ad H locs lsA) (hw : jm_ok h.length h ∧ (∀ r ∈ lv, r ≠ h.length) ∧ h.length < 1000000) (hc : jm_okC h.length c) (hl : (∀ q ∈ ls, ∀ a, q.2 = .ref a → a ∈ lv) ∧ (∀ v ∈ st, ∀ a, v = .ref a → a ∈ lv))
    (hP : va_P (dC, dI) vwCl (jm_W dA ad h ++ [(q, jm_E dA ad c)]) H1) (hD : va_D (jm_N N0) (jm_W dA ad h ++ [(q, jm_E dA ad c)])) (hS : va_S (jm_N N0) s.heap H1 locs1) :
    jm_Hy M s N0 dC dI dA ad0 n0 ls (h ++ [c]) (va_up ad h.length q) H1 locs1 lsA ∧ st.map (jm_V (va_up ad h.length q)) = st.map (jm_V ad) := by
  rw [← jm_push hw.1 hc] at hP hD
  refine ⟨⟨⟨fun hf => by (rw [hal] at hf; cases hf), fun k hk => ?_⟩, ?_, ⟨hP, hD⟩, hS, ?_⟩, jm_st_up (fun v hv hr => hw.2.1 _ (hl.2 v hv _ hr) rfl)⟩
  · rw [← hy.1.2 k hk]
    have hne : k ≠ h.length := by
      rcases hk with hk | hk
      · exact Nat.ne_of_lt (Nat.lt_of_lt_of_le hk hy.2.1)
      · have := hw.2.2; omega
    simp [va_up, hne]
  · rw [List.length_append]; exact Nat.le_trans hy.2.1 (Nat.le_add_right _ _)
  · rw [jm_L_up (fun x hx hr => hw.2.1 _ (hl.1 x hx _ hr) rfl)]
    exact hy.2.2.2.2
theorem jj_new {C : String} {T : u_T} {N ci idx : Nat} {fs : List Value} {f : Nat → jm_H → Option jm_X} {ty : Nat → FieldType} {lv : List Nat} (hd : decode (jm_by M) pc = .ok (.new idx, 3)) (hp : pc + 3 = pc') (hc : vwCl[ci]? = some (C, T, N)) (hin : ∀ w ∈ u_ws C T N, w ∈ jm_WS) (hty : ∀ k, k < N → parseFieldDescriptor (T k).2.2.1 = some (ty k)) (hw : Cond.classLink (jm_ow M) idx C ∈ jm_WS ∧ Cond.instantiable C N ∈ jm_WS ∧ Cond.initialized C ∈ jm_WS)
    (hfs : ∀ j, j < N → defaultValue (ty j) = vp_V fs j) (hfr : ∀ v ∈ fs, ∀ n, v ≠ .ref n) (hal : jm_al M = true) (hl : (∀ q ∈ ls, ∀ a, q.2 = .ref a → a ∈ lv) ∧ (∀ v ∈ st, ∀ a, v = .ref a → a ∈ lv)) (ekc : kc + 1 = kc') (eks : ks + N = ks') (hco : kc' ≤ jm_mc M ∧ ks' ≤ jm_ms M)
    (hF : jf_nw (.inr (ci, fs)) h lv f = some X) (K : ∀ o h', f o h' = some X → jm_J M pc' ls (.ref o :: st) h' kc' ks' X) : jm_J M pc ls st h kc ks X := by
  subst hp
  subst ekc
  subst eks
  obtain ⟨hw9, hF⟩ := jf_nw_inv hF
  intro p l e R s m args below meth c N0 dC dI dA ad0 n0 Q Cx ad H locs lsA hy
  obtain ⟨hx, hb, hml, hown, hts, hlk, htb, hin', hl', hsf, hR, -⟩ := id Cx
  have hfs0 : fs.map (jm_V ad) = fs := by
    rw [List.map_congr_left (g := id) (fun v hv => by cases v <;> first | rfl | exact absurd rfl (hfr _ hv _))]
    exact List.map_id fs
  refine va_new (D := (dC, dI)) (ci := ci) (fs := fs) (A := jm_N N0) (H0 := s.heap) hx hb hts hin ty hty hown (hts _ hw.1) (hts _ hw.2.1) (hts _ hw.2.2) hsf.2.1 hy.2.2.1.1 hy.2.2.1.2 hy.2.2.2.1 (fun q hq => Nat.le_trans hsf.1 hq) hc hfs (Nat.le_trans hco.1 hR.2.2.1) (Nat.le_trans hco.2 hR.2.2.2) hd (fun q H1 hP hD hS => ?_)
  have hE : jm_E dA ad (.inr (ci, fs)) = (.inr (ci, fs) : va_E) := by show (Sum.inr (ci, fs.map (jm_V ad)) : va_E) = _; rw [hfs0]
  rw [← hE] at hP hD
  obtain ⟨hy', hst⟩ := jm_Hnew (st := st) (lv := lv) (c := .inr (ci, fs)) hal hy hw9 (show ∀ v ∈ fs, jm_okV h.length v from fun v hv hr => hfr v hv _ hr) hl hP hD hS
  have := K _ _ hF p l e R s m args below meth c N0 dC dI dA ad0 n0 Q Cx _ H1 locs lsA hy'
  rw [List.map_cons, hst] at this
  have hq : jm_V (va_up ad h.length q) (.ref h.length) = .ref q := by simp [jm_V, va_up]
  rw [hq] at this
  exact this
theorem jm_cls {dC : Nat → ClassId} {dI : Nat → Nat → Nat} {dA : Nat → Nat} {s : State} {t cA : Nat} {ty : FieldType} (hK : va_K (dC, dI) vwCl (jm_ty dA) s) (ht : (jm_ty dA)[t]? = some (dA t, ty)) (hK2 : va_K (dC, dI) vwCl (jm_ty dA ++ [(cA, ty)]) s) : cA = dA t := by
  have h1 := (hK.2 t _ ht).2
  have h2 := (hK2.2 4 (cA, ty) rfl).2
  cases ty with
  | object C =>
    obtain ⟨_, _, _, _, _, e1⟩ := h1
    obtain ⟨_, _, _, _, _, e2⟩ := h2
    exact Option.some.inj (e2.symm.trans e1)
  | _ => exact Option.some.inj (Eq.trans (Eq.symm h2) h1)
theorem jj_na {atype : ArrayType} {ty : FieldType} {t n : Nat} {N : Int32} {a0 : vp_A} {f : Nat → jm_H → Option jm_X} {lv : List Nat} (hd : decode (jm_by M) pc = .ok (.newarray atype, 2)) (hp : pc + 2 = pc') (hty : newarray.typeOf atype = ty) (hw : Cond.arrayClass (newarray.typeOf atype) ∈ jm_WS) (ht : ∀ dA : Nat → Nat, (jm_ty dA)[t]? = some (dA t, ty)) (ha : ∀ cA : ClassId, vp_cell cA a0 = arrV cA n (fun _ => defaultValue ty)) (ha1 : (∀ ad : Nat → Nat, jm_A ad a0 = a0) ∧ ∀ m : Nat, jm_okC m (.inl (t, a0)))
    (hn : ¬ N < 0 ∧ N.toNatClampNeg = n ∧ n * componentBytes ty ≤ 536870912) (hal : jm_al M = true) (hl : (∀ q ∈ ls, ∀ a, q.2 = .ref a → a ∈ lv) ∧ (∀ v ∈ st, ∀ a, v = .ref a → a ∈ lv)) (ekc : kc + 1 = kc') (eks : ks + n = ks') (hco : kc' ≤ jm_mc M ∧ ks' ≤ jm_ms M)
    (hF : jf_nw (.inl (t, a0)) h lv f = some X) (K : ∀ o h', f o h' = some X → jm_J M pc' ls (.ref o :: st) h' kc' ks' X) : jm_J M pc ls (.int N :: st) h kc ks X := by
  subst hp
  subst ekc
  subst eks
  obtain ⟨hw9, hF⟩ := jf_nw_inv hF
  intro p l e R s m args below meth c N0 dC dI dA ad0 n0 Q Cx ad H locs lsA hy
  obtain ⟨hx, hb, hml, hown, hts, hlk, htb, hin', hl', hsf, hR, -⟩ := id Cx
  refine va_newa (D := (dC, dI)) (A := jm_N N0) (H0 := s.heap) (a0 := a0) (tys := jm_ty dA) hx hb (hts _ hw) hty hsf.2.1 hy.2.2.1.1 hy.2.2.1.2 hy.2.2.2.1 (fun q hq => Nat.le_trans hsf.1 hq) ha hn.1 hn.2.1 hn.2.2 (Nat.le_trans hco.1 hR.2.2.1) (Nat.le_trans hco.2 hR.2.2.2) hd (fun q cA H1 hK2 hP hD hS => ?_)
  have hcA := jm_cls hsf.2.1 (ht dA) hK2
  subst hcA
  have hE : jm_E dA ad (.inl (t, a0)) = (.inl (dA t, a0) : va_E) := by show (Sum.inl (dA t, jm_A ad a0) : va_E) = _; rw [ha1.1]
  rw [← hE] at hP hD
  obtain ⟨hy', hst⟩ := jm_Hnew (st := st) (lv := lv) hal hy hw9 (ha1.2 _) hl hP hD hS
  have := K _ _ hF p l e R s m args below meth c N0 dC dI dA ad0 n0 Q Cx _ H1 locs lsA hy'
  rw [List.map_cons, hst] at this
  have hq : jm_V (va_up ad h.length q) (.ref h.length) = .ref q := by simp [jm_V, va_up]
  rw [hq] at this
  exact this
theorem jj_nq {idx n : Nat} {N : Int32} {f : Nat → jm_H → Option jm_X} {lv : List Nat} (hd : decode (jm_by M) pc = .ok (.anewarray idx, 3)) (hp : pc + 3 = pc') (hw : Cond.classLink (jm_ow M) idx "ReelScreens$Festival" ∈ jm_WS)
    (hn : ¬ N < 0 ∧ N.toNatClampNeg = n ∧ n * 4 ≤ 536870912) (hal : jm_al M = true) (hl : (∀ q ∈ ls, ∀ a, q.2 = .ref a → a ∈ lv) ∧ (∀ v ∈ st, ∀ a, v = .ref a → a ∈ lv)) (ekc : kc + 1 = kc') (eks : ks + n = ks') (hco : kc' ≤ jm_mc M ∧ ks' ≤ jm_ms M)
    (hF : jf_nw (.inl (3, (n, .inr (.inr (.inr (.inr (fun _ => none))))))) h lv f = some X) (K : ∀ o h', f o h' = some X → jm_J M pc' ls (.ref o :: st) h' kc' ks' X) : jm_J M pc ls (.int N :: st) h kc ks X := by
  subst hp
  subst ekc
  subst eks
  obtain ⟨hw9, hF⟩ := jf_nw_inv hF
  intro p l e R s m args below meth c N0 dC dI dA ad0 n0 Q Cx ad H locs lsA hy
  obtain ⟨hx, hb, hml, hown, hts, hlk, htb, hin', hl', hsf, hR, -⟩ := id Cx
  refine va_newq (D := (dC, dI)) (A := jm_N N0) (H0 := s.heap) (tys := jm_ty dA) hx hb hown (hts _ hw) hsf.2.2.2.2.1 hsf.2.1 hy.2.2.1.1 hy.2.2.1.2 hy.2.2.2.1 (fun q hq => Nat.le_trans hsf.1 hq) hn.1 hn.2.1 hn.2.2 (Nat.le_trans hco.1 hR.2.2.1) (Nat.le_trans hco.2 hR.2.2.2) hd (fun q cA H1 hK2 hP hD hS => ?_)
  have hcA := jm_cls (t := 3) hsf.2.1 rfl hK2
  subst hcA
  have hE : jm_E dA ad (.inl (3, (n, .inr (.inr (.inr (.inr (fun _ => none))))))) = (.inl (dA 3, (n, .inr (.inr (.inr (.inr (fun _ => none)))))) : va_E) := rfl
  rw [← hE] at hP hD
  obtain ⟨hy', hst⟩ := jm_Hnew (st := st) (lv := lv) (c := .inl (3, (n, .inr (.inr (.inr (.inr (fun _ => none))))))) hal hy hw9 (show ∀ j : Nat, (none : Option Nat) ≠ some h.length from fun j => nofun) hl hP hD hS
  have := K _ _ hF p l e R s m args below meth c N0 dC dI dA ad0 n0 Q Cx _ H1 locs lsA hy'
  rw [List.map_cons, hst] at this
  have hq : jm_V (va_up ad h.length q) (.ref h.length) = .ref q := by simp [jm_V, va_up]
  rw [hq] at this
  exact this
theorem jj_obj {idx o : Nat} (hd : decode (jm_by M) pc = .ok (.invokespecial idx, 3)) (hp : pc + 3 = pc') (hw : Cond.methodLink (jm_ow M) idx objectInit ∈ jm_WS ∧ Cond.instanceMethod objectInit ∈ jm_WS ∧ Cond.code objectInit ⟨#[0xb1]⟩ 1 none ∈ jm_WS) (hro : 1 ≤ jm_fr M ∧ (st.map fun v => v.category).sum + 12 ≤ jm_lo M) (k : jm_J M pc' ls st h kc ks X) : jm_J M pc ls (.ref o :: st) h kc ks X := by
  subst hp
  intro p l e R s m args below meth c N0 dC dI dA ad0 n0 Q Cx ad H locs lsA hy
  obtain ⟨hx, hb, hml, hown, hts, hlk, htb, hin', hl', hsf, hR, -⟩ := id Cx
  refine W.objInit hx hb hown (hts _ hw.1) (hts _ hw.2.1) (hts _ hw.2.2) rfl (by rw [hml]; exact hy.2.2.2.2.1) rfl hd (Nat.le_trans hro.1 hR.1) ?_ ?_
  · show 2 * 0 + ((st.map (jm_V ad)).map fun v => v.category).sum + 12 ≤ R.locals
    rw [jm_sum]
    have := Nat.le_trans hro.2 hR.2.1
    omega
  · exact k p l e R s m args below meth c N0 dC dI dA ad0 n0 Q Cx ad H locs lsA hy
theorem jj_max {idx : Nat} {x y : Int32} (hd : decode (jm_by M) pc = .ok (.invokestatic idx, 3)) (hp : pc + 3 = pc') (hw : Cond.methodLink (jm_ow M) idx Lib.Math.max.name ∈ jm_WS ∧ Cond.static Lib.Math.max.name ∈ jm_WS ∧ Cond.initialized "java/lang/Math" ∈ jm_WS ∧ Cond.code Lib.Math.max.name Lib.Math.max.code 2 (some .int) ∈ jm_WS) (hro : 1 ≤ jm_fr M ∧ (st.map fun v => v.category).sum + 13 ≤ jm_lo M) (hco : kc ≤ jm_mc M ∧ ks ≤ jm_ms M) (k : jm_J M pc' ls (.int (if x < y then y else x) :: st) h kc ks X) : jm_J M pc ls (.int y :: .int x :: st) h kc ks X := by
  subst hp
  intro p l e R s m args below meth c N0 dC dI dA ad0 n0 Q Cx ad H locs lsA hy
  obtain ⟨hx, hb, hml, hown, hts, hlk, htb, hin', hl', hsf, hR, -⟩ := id Cx
  exact va_mmax hx hb (by rw [hml]; exact hy.2.2.2.2.1.symm) hown (hts _ hw.1) (hts _ hw.2.1) (hts _ hw.2.2.1) (hts _ hw.2.2.2) (Nat.le_trans hro.1 hR.1) (by rw [jm_sum]; exact Nat.le_trans hro.2 hR.2.1) (Nat.le_trans hco.1 hR.2.2.1) (Nat.le_trans hco.2 hR.2.2.2) hd (k p l e R s m args below meth c N0 dC dI dA ad0 n0 Q Cx ad H locs lsA hy)
theorem jj_raw {idx : Nat} {b : UInt64} (hd : decode (jm_by M) pc = .ok (.invokestatic idx, 3)) (hp : pc + 3 = pc') (hw : Cond.methodLink (jm_ow M) idx ⟨"java/lang/Double", "doubleToRawLongBits", "(D)J"⟩ ∈ jm_WS ∧ Cond.native ⟨"java/lang/Double", "doubleToRawLongBits", "(D)J"⟩ ∈ jm_WS ∧ Cond.static ⟨"java/lang/Double", "doubleToRawLongBits", "(D)J"⟩ ∈ jm_WS ∧ Cond.initialized "java/lang/Double" ∈ jm_WS) (hro : 1 ≤ jm_fr M ∧ (st.map fun v => v.category).sum + 15 ≤ jm_lo M) (k : jm_J M pc' ls (.long b.toInt64 :: st) h kc ks X) : jm_J M pc ls (.double b :: st) h kc ks X := by
  subst hp
  intro p l e R s m args below meth c N0 dC dI dA ad0 n0 Q Cx ad H locs lsA hy
  obtain ⟨hx, hb, hml, hown, hts, hlk, htb, hin', hl', hsf, hR, -⟩ := id Cx
  exact vn_d2l hx hb (by rw [hml]; exact hy.2.2.2.2.1.symm) hown (hts _ hw.1) (hts _ hw.2.1) (hts _ hw.2.2.1) (hts _ hw.2.2.2) (Nat.le_trans hro.1 hR.1) (by rw [jm_sum]; exact Nat.le_trans hro.2 hR.2.1) hd (k p l e R s m args below meth c N0 dC dI dA ad0 n0 Q Cx ad H locs lsA hy)
def jf_cp (h : jm_H) (a : Nat) (sp : Int32) (b : Nat) (dp n : Int32) (g : jm_H → Option jm_X) : Option jm_X := match h[a]?, h[b]? with
  | some (.inl (0, (n0, .inl f))), some (.inl (0, (n1, .inl f1))) => if sp < 0 ∨ dp < 0 ∨ n < 0 ∨ ¬ sp.toNatClampNeg + n.toNatClampNeg ≤ n0 ∨ ¬ dp.toNatClampNeg + n.toNatClampNeg ≤ n1 then none else g (h.set b (.inl (0, (n1, .inl (va_cpy f f1 sp.toNatClampNeg dp.toNatClampNeg n.toNatClampNeg)))))
  | _, _ => none
theorem jj_cp {idx a b : Nat} {sp dp n : Int32} {g : jm_H → Option jm_X} (hd : decode (jm_by M) pc = .ok (.invokestatic idx, 3)) (hp : pc + 3 = pc') (hw : Cond.methodLink (jm_ow M) idx arraycopyName ∈ jm_WS ∧ Cond.native arraycopyName ∈ jm_WS ∧ Cond.static arraycopyName ∈ jm_WS ∧ Cond.initialized "java/lang/System" ∈ jm_WS) (hro : 1 ≤ jm_fr M ∧ (st.map fun v => v.category).sum + (nativeFrameWords "java/lang/System" "arraycopy" 5 + 11) ≤ jm_lo M) (hF : jf_cp h a sp b dp n g = some X) (K : ∀ h', g h' = some X → jm_J M pc' ls st h' kc ks X) : jm_J M pc ls (.int n :: .int dp :: .ref b :: .int sp :: .ref a :: st) h kc ks X := by
  subst hp
  intro p l e R s m args below meth c N0 dC dI dA ad0 n0 Q Cx ad H locs lsA hy
  obtain ⟨hx, hb, hml, hown, hts, hlk, htb, hin', hl', hsf, hR, -⟩ := id Cx
  unfold jf_cp at hF
  split at hF
  · next n0' f n1 f1 ha hb' =>
    split at hF
    · cases hF
    · next hc =>
      simp only [not_or, Classical.not_not] at hc
      obtain ⟨c1, c2, c3, c4, c5⟩ := hc
      exact va_copyi (D := (dC, dI)) (A := jm_N N0) (H0 := s.heap) (ty := .int) hx hb (by rw [hml]; exact hy.2.2.2.2.1.symm) hown (hts _ hw.1) (hts _ hw.2.1) (hts _ hw.2.2.1) (hts _ hw.2.2.2) hsf.2.1 hy.2.2.1.1 hy.2.2.1.2 hy.2.2.2.1 a b 0 0 (jm_get ha) (jm_get hb') rfl rfl rfl c1 c2 c3 c4 c5 (fun _ _ => rfl) (Nat.le_trans hro.1 hR.1) (by rw [jm_sum]; exact Nat.le_trans hro.2 hR.2.1) hd (fun H1 locs1 hP hD hS => K _ hF p l e R s m args below meth c N0 dC dI dA ad0 n0 Q Cx ad H1 locs1 lsA (jm_Hset hy rfl hP hD hS))
  · cases hF
end JN
end

/-! facts of fields, throws, calls -/
theorem inX0 : ∀ w ∈ u_ws RX0 TX0 10, w ∈ jm_WS := by
  intro w hw
  obtain ⟨k, hk, rfl⟩ := List.mem_map.mp hw
  have hk := List.mem_range.mp hk
  match k, hk with
  | 0, _ => exact qw_610
  | 1, _ => exact qw_611
  | 2, _ => exact qw_612
  | 3, _ => exact qw_613
  | 4, _ => exact qw_614
  | 5, _ => exact qw_615
  | 6, _ => exact qw_616
  | 7, _ => exact qw_617
  | 8, _ => exact qw_618
  | 9, _ => exact qw_619
theorem inX1 : ∀ w ∈ u_ws RX1 TX1 5, w ∈ jm_WS := by
  intro w hw
  obtain ⟨k, hk, rfl⟩ := List.mem_map.mp hw
  have hk := List.mem_range.mp hk
  match k, hk with
  | 0, _ => exact qw_620
  | 1, _ => exact qw_621
  | 2, _ => exact qw_622
  | 3, _ => exact qw_623
  | 4, _ => exact qw_624
theorem inX2 : ∀ w ∈ u_ws RX2 TX2 3, w ∈ jm_WS := by
  intro w hw
  obtain ⟨k, hk, rfl⟩ := List.mem_map.mp hw
  have hk := List.mem_range.mp hk
  match k, hk with
  | 0, _ => exact qw_625
  | 1, _ => exact qw_626
  | 2, _ => exact qw_627
theorem inX3 : ∀ w ∈ u_ws RX3 TX3 8, w ∈ jm_WS := by
  intro w hw
  obtain ⟨k, hk, rfl⟩ := List.mem_map.mp hw
  have hk := List.mem_range.mp hk
  match k, hk with
  | 0, _ => exact qw_628
  | 1, _ => exact qw_629
  | 2, _ => exact qw_630
  | 3, _ => exact qw_631
  | 4, _ => exact qw_632
  | 5, _ => exact qw_633
  | 6, _ => exact qw_634
  | 7, _ => exact qw_635
set_option maxRecDepth 100000 in
set_option maxHeartbeats 4000000 in
theorem xtf_X3_288_292 : ∀ w ∈ (vx_atS RX3 292 "java/lang/IllegalArgumentException" jm_sup).filter goodWord, w ∈ lw_tbl := by decide +kernel
set_option maxRecDepth 100000 in
set_option maxHeartbeats 4000000 in
theorem xtf_X3_52_56 : ∀ w ∈ (vx_atS RX3 56 "java/lang/IllegalStateException" jm_sup).filter goodWord, w ∈ lw_tbl := by decide +kernel
set_option maxRecDepth 100000 in
set_option maxHeartbeats 4000000 in
theorem xtf_X3_77_81 : ∀ w ∈ (vx_atS RX3 81 "java/lang/IndexOutOfBoundsException" jm_sup).filter goodWord, w ∈ lw_tbl := by decide +kernel
theorem cf_X0_11 : jm_cfI RX0 11 M_X2_init 2 := ⟨⟨qw_118, qw_119, qw_14, qw_117⟩, rfl, ⟨by decide, by decide⟩, (by decide +kernel), rfl, rfl⟩
theorem cf_X0_49 : jm_cfV RX0 49 M_X2_put 3 := ⟨⟨qw_121, qw_122, qw_123, qw_14, qw_120⟩, rfl, ⟨by decide, by decide⟩, (by decide +kernel)⟩
theorem cf_X0_45 : jm_cfV RX0 45 M_X2_addRow 0 := ⟨⟨qw_125, qw_126, qw_127, qw_14, qw_124⟩, rfl, ⟨by decide, by decide⟩, (by decide +kernel)⟩
theorem cf_X3_9 : jm_cfI RX3 9 M_X0_init 0 := ⟨⟨qw_129, qw_130, qw_28, qw_128⟩, rfl, ⟨by decide, by decide⟩, (by decide +kernel), rfl, rfl⟩
theorem cf_X3_25 : jm_cfN RX3 25 M_X1_init RX3 0 (.instanceMethod (jm_y M_X1_init)) := ⟨⟨by decide, qw_132, qw_34, qw_131⟩, rfl, ⟨by decide, by decide⟩, (by decide +kernel)⟩
theorem cf_X0_53 : jm_cfV RX0 53 M_X2_takeRows 1 := ⟨⟨qw_134, qw_135, qw_136, qw_14, qw_133⟩, rfl, ⟨by decide, by decide⟩, (by decide +kernel)⟩
theorem cf_X3_298 : jm_cfV RX3 298 M_X0_take 1 := ⟨⟨qw_138, qw_139, qw_140, qw_28, qw_137⟩, rfl, ⟨by decide, by decide⟩, (by decide +kernel)⟩
theorem cf_X3_183 : jm_cfS RX3 183 M_X3_copyState 2 := ⟨⟨qw_142, qw_143, qw_84, qw_141⟩, ⟨by decide, by decide⟩, (by decide +kernel)⟩
theorem cf_X3_295 : jm_cfV RX3 295 M_X3_dropOldest 0 := ⟨⟨qw_145, qw_146, qw_147, qw_84, qw_144⟩, rfl, ⟨by decide, by decide⟩, (by decide +kernel)⟩
theorem cf_X3_34 : jm_cfS RX3 34 M_X3_isWithin 3 := ⟨⟨qw_149, qw_150, qw_84, qw_148⟩, ⟨by decide, by decide⟩, (by decide +kernel)⟩
theorem cf_X3_38 : jm_cfS RX3 38 M_X3_requireArgument 1 := ⟨⟨qw_152, qw_153, qw_84, qw_151⟩, ⟨by decide, by decide⟩, (by decide +kernel)⟩
theorem cf_X3_59 : jm_cfV RX3 59 M_X3_save 0 := ⟨⟨qw_155, qw_156, qw_157, qw_84, qw_154⟩, rfl, ⟨by decide, by decide⟩, (by decide +kernel)⟩
theorem cf_X3_62 : jm_cfV RX3 62 M_X0_addFilm 2 := ⟨⟨qw_159, qw_160, qw_161, qw_28, qw_158⟩, rfl, ⟨by decide, by decide⟩, (by decide +kernel)⟩
theorem cf_X2_28 : jm_cfV RX2 28 M_X2_at 2 := ⟨⟨qw_163, qw_164, qw_165, qw_14, qw_162⟩, rfl, ⟨by decide, by decide⟩, (by decide +kernel)⟩
theorem cf_X2_31 : jm_cfV RX2 31 M_X2_put 3 := ⟨⟨qw_166, qw_122, qw_123, qw_14, qw_120⟩, rfl, ⟨by decide, by decide⟩, (by decide +kernel)⟩
theorem cf_X3_66 : jm_cfS RX3 66 M_X3_requireScreen 1 := ⟨⟨qw_168, qw_169, qw_84, qw_167⟩, ⟨by decide, by decide⟩, (by decide +kernel)⟩
theorem cf_X3_73 : jm_cfV RX3 73 M_X2_exchange 3 := ⟨⟨qw_171, qw_172, qw_173, qw_14, qw_170⟩, rfl, ⟨by decide, by decide⟩, (by decide +kernel)⟩
theorem cf_X0_60 : jm_cfV RX0 60 M_X2_at 2 := ⟨⟨qw_174, qw_164, qw_165, qw_14, qw_162⟩, rfl, ⟨by decide, by decide⟩, (by decide +kernel)⟩
theorem cf_X0_87 : jm_cfV RX0 87 M_X0_endOf 1 := ⟨⟨qw_176, qw_177, qw_178, qw_28, qw_175⟩, rfl, ⟨by decide, by decide⟩, (by decide +kernel)⟩
theorem cf_X0_93 : jm_cfS RX0 93 M_X0_areTooClose 5 := ⟨⟨qw_180, qw_181, qw_28, qw_179⟩, ⟨by decide, by decide⟩, (by decide +kernel)⟩
theorem cf_X0_97 : jm_cfS RX0 97 M_X0_beginIn 5 := ⟨⟨qw_183, qw_184, qw_28, qw_182⟩, ⟨by decide, by decide⟩, (by decide +kernel)⟩
theorem cf_X0_114 : jm_cfV RX0 114 M_X0_clashingReel 4 := ⟨⟨qw_186, qw_187, qw_188, qw_28, qw_185⟩, rfl, ⟨by decide, by decide⟩, (by decide +kernel)⟩
theorem cf_X0_104 : jm_cfV RX0 104 M_X0_lengthOf 1 := ⟨⟨qw_190, qw_191, qw_192, qw_28, qw_189⟩, rfl, ⟨by decide, by decide⟩, (by decide +kernel)⟩
theorem cf_X0_107 : jm_cfV RX0 107 M_X0_takingScreen 4 := ⟨⟨qw_194, qw_195, qw_196, qw_28, qw_193⟩, rfl, ⟨by decide, by decide⟩, (by decide +kernel)⟩
theorem cf_X0_111 : jm_cfV RX0 111 M_X0_takingReel 5 := ⟨⟨qw_198, qw_199, qw_200, qw_28, qw_197⟩, rfl, ⟨by decide, by decide⟩, (by decide +kernel)⟩
theorem cf_X0_101 : jm_cfV RX0 101 M_X0_refusalBeside 5 := ⟨⟨qw_202, qw_203, qw_204, qw_28, qw_201⟩, rfl, ⟨by decide, by decide⟩, (by decide +kernel)⟩
theorem cf_X3_85 : jm_cfV RX3 85 M_X3_requireFilm 1 := ⟨⟨qw_206, qw_207, qw_208, qw_84, qw_205⟩, rfl, ⟨by decide, by decide⟩, (by decide +kernel)⟩
theorem cf_X3_88 : jm_cfS RX3 88 M_X3_requireMinute 1 := ⟨⟨qw_210, qw_211, qw_84, qw_209⟩, ⟨by decide, by decide⟩, (by decide +kernel)⟩
theorem cf_X3_91 : jm_cfV RX3 91 M_X0_refusal 4 := ⟨⟨qw_213, qw_214, qw_215, qw_28, qw_212⟩, rfl, ⟨by decide, by decide⟩, (by decide +kernel)⟩
theorem cf_X3_95 : jm_cfS RX3 95 M_X3_requireNotRefused 1 := ⟨⟨qw_217, qw_218, qw_84, qw_216⟩, ⟨by decide, by decide⟩, (by decide +kernel)⟩
theorem cf_X3_98 : jm_cfV RX3 98 M_X0_addShowing 4 := ⟨⟨qw_220, qw_221, qw_222, qw_28, qw_219⟩, rfl, ⟨by decide, by decide⟩, (by decide +kernel)⟩
theorem cf_X0_64 : jm_cfS RX0 64 M_J6_bitCount_0f7a4 1 := ⟨⟨qw_224, qw_225, qw_226, qw_223⟩, ⟨by decide, by decide⟩, (by decide +kernel)⟩
theorem cf_X0_70 : jm_cfV RX0 70 M_X2_dropRow 1 := ⟨⟨qw_228, qw_229, qw_230, qw_14, qw_227⟩, rfl, ⟨by decide, by decide⟩, (by decide +kernel)⟩
theorem cf_X3_101 : jm_cfV RX3 101 M_X3_requireShowing 1 := ⟨⟨qw_232, qw_233, qw_234, qw_84, qw_231⟩, rfl, ⟨by decide, by decide⟩, (by decide +kernel)⟩
theorem cf_X3_104 : jm_cfV RX3 104 M_X0_dropShowing 1 := ⟨⟨qw_236, qw_237, qw_238, qw_28, qw_235⟩, rfl, ⟨by decide, by decide⟩, (by decide +kernel)⟩
theorem cf_X0_84 : jm_cfN RX0 84 M_X3_hasBit RX3 2 (.static (jm_y M_X3_hasBit)) := ⟨⟨by decide, qw_240, qw_84, qw_239⟩, rfl, ⟨by decide, by decide⟩, (by decide +kernel)⟩
theorem cf_X0_74 : jm_cfV RX0 74 M_X0_goes 2 := ⟨⟨qw_242, qw_243, qw_244, qw_28, qw_241⟩, rfl, ⟨by decide, by decide⟩, (by decide +kernel)⟩
theorem cf_X0_78 : jm_cfV RX0 78 M_X0_canGo 2 := ⟨⟨qw_246, qw_247, qw_248, qw_28, qw_245⟩, rfl, ⟨by decide, by decide⟩, (by decide +kernel)⟩
theorem cf_X3_111 : jm_cfV RX3 111 M_X2_at 2 := ⟨⟨qw_249, qw_164, qw_165, qw_14, qw_162⟩, rfl, ⟨by decide, by decide⟩, (by decide +kernel)⟩
theorem cf_X3_114 : jm_cfV RX3 114 M_X0_refusalBeside 5 := ⟨⟨qw_250, qw_203, qw_204, qw_28, qw_201⟩, rfl, ⟨by decide, by decide⟩, (by decide +kernel)⟩
theorem cf_X3_118 : jm_cfV RX3 118 M_X0_shift 2 := ⟨⟨qw_252, qw_253, qw_254, qw_28, qw_251⟩, rfl, ⟨by decide, by decide⟩, (by decide +kernel)⟩
theorem cf_X3_126 : jm_cfV RX3 126 M_X0_addGuest 3 := ⟨⟨qw_256, qw_257, qw_258, qw_28, qw_255⟩, rfl, ⟨by decide, by decide⟩, (by decide +kernel)⟩
theorem cf_X0_81 : jm_cfV RX0 81 M_X0_visitsOf 1 := ⟨⟨qw_260, qw_261, qw_262, qw_28, qw_259⟩, rfl, ⟨by decide, by decide⟩, (by decide +kernel)⟩
theorem cf_X3_129 : jm_cfS RX3 129 M_X3_requireJuror 1 := ⟨⟨qw_264, qw_265, qw_84, qw_263⟩, ⟨by decide, by decide⟩, (by decide +kernel)⟩
theorem cf_X3_132 : jm_cfV RX3 132 M_X0_goes 2 := ⟨⟨qw_266, qw_243, qw_244, qw_28, qw_241⟩, rfl, ⟨by decide, by decide⟩, (by decide +kernel)⟩
theorem cf_X3_136 : jm_cfV RX3 136 M_X0_canGo 2 := ⟨⟨qw_267, qw_247, qw_248, qw_28, qw_245⟩, rfl, ⟨by decide, by decide⟩, (by decide +kernel)⟩
theorem cf_X3_141 : jm_cfV RX3 141 M_X0_addGoer 2 := ⟨⟨qw_269, qw_270, qw_271, qw_28, qw_268⟩, rfl, ⟨by decide, by decide⟩, (by decide +kernel)⟩
theorem cf_X3_144 : jm_cfV RX3 144 M_X0_seenBy 1 := ⟨⟨qw_273, qw_274, qw_275, qw_28, qw_272⟩, rfl, ⟨by decide, by decide⟩, (by decide +kernel)⟩
theorem cf_X3_147 : jm_cfS RX3 147 M_X3_hasBit 2 := ⟨⟨qw_276, qw_240, qw_84, qw_239⟩, ⟨by decide, by decide⟩, (by decide +kernel)⟩
theorem cf_X1_21 : jm_cfN RX1 21 M_X3_isWithin RX3 3 (.static (jm_y M_X3_isWithin)) := ⟨⟨by decide, qw_150, qw_84, qw_148⟩, rfl, ⟨by decide, by decide⟩, (by decide +kernel)⟩
theorem cf_X1_45 : jm_cfS RX1 45 M_X1_isLonger 3 := ⟨⟨qw_278, qw_279, qw_34, qw_277⟩, ⟨by decide, by decide⟩, (by decide +kernel)⟩
theorem cf_X1_42 : jm_cfV RX1 42 M_X1_startPart 0 := ⟨⟨qw_281, qw_282, qw_283, qw_34, qw_280⟩, rfl, ⟨by decide, by decide⟩, (by decide +kernel)⟩
theorem cf_X1_25 : jm_cfV RX1 25 M_X1_advance 2 := ⟨⟨qw_285, qw_286, qw_287, qw_34, qw_284⟩, rfl, ⟨by decide, by decide⟩, (by decide +kernel)⟩
theorem cf_X1_35 : jm_cfV RX1 35 M_X1_takeBehindStart 2 := ⟨⟨qw_289, qw_290, qw_291, qw_34, qw_288⟩, rfl, ⟨by decide, by decide⟩, (by decide +kernel)⟩
theorem cf_X1_39 : jm_cfV RX1 39 M_X1_takeBehindPause 2 := ⟨⟨qw_293, qw_294, qw_295, qw_34, qw_292⟩, rfl, ⟨by decide, by decide⟩, (by decide +kernel)⟩
theorem cf_X3_302 : jm_cfV RX3 302 M_X1_startPart 0 := ⟨⟨qw_296, qw_282, qw_283, qw_34, qw_280⟩, rfl, ⟨by decide, by decide⟩, (by decide +kernel)⟩
theorem cf_X3_305 : jm_cfV RX3 305 M_X1_takeCode 1 := ⟨⟨qw_298, qw_299, qw_300, qw_34, qw_297⟩, rfl, ⟨by decide, by decide⟩, (by decide +kernel)⟩
theorem cf_X3_160 : jm_cfV RX3 160 M_X3_readBuffer 0 := ⟨⟨qw_302, qw_303, qw_304, qw_84, qw_301⟩, rfl, ⟨by decide, by decide⟩, (by decide +kernel)⟩
theorem cf_X3_219 : jm_cfV RX3 219 M_X0_inWay 5 := ⟨⟨qw_306, qw_307, qw_308, qw_28, qw_305⟩, rfl, ⟨by decide, by decide⟩, (by decide +kernel)⟩
theorem cf_X3_309 : jm_cfV RX3 309 M_X0_setStop 3 := ⟨⟨qw_310, qw_311, qw_312, qw_28, qw_309⟩, rfl, ⟨by decide, by decide⟩, (by decide +kernel)⟩
theorem cf_X3_313 : jm_cfV RX3 313 M_X3_makePart 1 := ⟨⟨qw_314, qw_315, qw_316, qw_84, qw_313⟩, rfl, ⟨by decide, by decide⟩, (by decide +kernel)⟩
theorem cf_X3_168 : jm_cfV RX3 168 M_X3_makeShowings 0 := ⟨⟨qw_318, qw_319, qw_320, qw_84, qw_317⟩, rfl, ⟨by decide, by decide⟩, (by decide +kernel)⟩
theorem cf_X3_164 : jm_cfV RX3 164 M_X1_isBehindPart 0 := ⟨⟨qw_322, qw_323, qw_324, qw_34, qw_321⟩, rfl, ⟨by decide, by decide⟩, (by decide +kernel)⟩
theorem cf_X3_171 : jm_cfS RX3 171 M_X3_requireWhat 2 := ⟨⟨qw_326, qw_327, qw_84, qw_325⟩, ⟨by decide, by decide⟩, (by decide +kernel)⟩
theorem cf_X3_175 : jm_cfV RX3 175 M_X0_stopNumber 1 := ⟨⟨qw_329, qw_330, qw_331, qw_28, qw_328⟩, rfl, ⟨by decide, by decide⟩, (by decide +kernel)⟩
theorem cf_X0_133 : jm_cfV RX0 133 M_X0_seenBy 1 := ⟨⟨qw_332, qw_274, qw_275, qw_28, qw_272⟩, rfl, ⟨by decide, by decide⟩, (by decide +kernel)⟩
theorem cf_X0_139 : jm_cfV RX0 139 M_X0_showingsWith 2 := ⟨⟨qw_334, qw_335, qw_336, qw_28, qw_333⟩, rfl, ⟨by decide, by decide⟩, (by decide +kernel)⟩
theorem cf_X0_142 : jm_cfV RX0 142 M_X0_seatsFor 1 := ⟨⟨qw_338, qw_339, qw_340, qw_28, qw_337⟩, rfl, ⟨by decide, by decide⟩, (by decide +kernel)⟩
theorem cf_X0_136 : jm_cfV RX0 136 M_X0_pointsOf 1 := ⟨⟨qw_342, qw_343, qw_344, qw_28, qw_341⟩, rfl, ⟨by decide, by decide⟩, (by decide +kernel)⟩
theorem cf_X3_193 : jm_cfV RX3 193 M_X0_filmNumber 2 := ⟨⟨qw_346, qw_347, qw_348, qw_28, qw_345⟩, rfl, ⟨by decide, by decide⟩, (by decide +kernel)⟩
theorem cf_X3_196 : jm_cfV RX3 196 M_X0_showingNumber 2 := ⟨⟨qw_350, qw_351, qw_352, qw_28, qw_349⟩, rfl, ⟨by decide, by decide⟩, (by decide +kernel)⟩
theorem cf_X3_199 : jm_cfV RX3 199 M_X0_reelBegin 2 := ⟨⟨qw_354, qw_355, qw_356, qw_28, qw_353⟩, rfl, ⟨by decide, by decide⟩, (by decide +kernel)⟩
theorem cf_X0_145 : jm_cfV RX0 145 M_X0_reelAt 2 := ⟨⟨qw_358, qw_359, qw_360, qw_28, qw_357⟩, rfl, ⟨by decide, by decide⟩, (by decide +kernel)⟩
theorem cf_X3_202 : jm_cfV RX3 202 M_X0_runningOn 2 := ⟨⟨qw_362, qw_363, qw_364, qw_28, qw_361⟩, rfl, ⟨by decide, by decide⟩, (by decide +kernel)⟩
theorem cf_X0_148 : jm_cfV RX0 148 M_X0_reckonedMinutes 1 := ⟨⟨qw_366, qw_367, qw_368, qw_28, qw_365⟩, rfl, ⟨by decide, by decide⟩, (by decide +kernel)⟩
theorem cf_X0_151 : jm_cfV RX0 151 M_X0_countedMinutes 1 := ⟨⟨qw_370, qw_371, qw_372, qw_28, qw_369⟩, rfl, ⟨by decide, by decide⟩, (by decide +kernel)⟩
theorem cf_X0_154 : jm_cfV RX0 154 M_X0_lastEnd 1 := ⟨⟨qw_374, qw_375, qw_376, qw_28, qw_373⟩, rfl, ⟨by decide, by decide⟩, (by decide +kernel)⟩
theorem cf_X3_205 : jm_cfV RX3 205 M_X0_screenNumber 2 := ⟨⟨qw_378, qw_379, qw_380, qw_28, qw_377⟩, rfl, ⟨by decide, by decide⟩, (by decide +kernel)⟩
theorem cf_X0_127 : jm_cfV RX0 127 M_X0_fits 2 := ⟨⟨qw_382, qw_383, qw_384, qw_28, qw_381⟩, rfl, ⟨by decide, by decide⟩, (by decide +kernel)⟩
theorem cf_X0_130 : jm_cfV RX0 130 M_X0_greetedBy 1 := ⟨⟨qw_386, qw_387, qw_388, qw_28, qw_385⟩, rfl, ⟨by decide, by decide⟩, (by decide +kernel)⟩
theorem cf_X3_210 : jm_cfV RX3 210 M_X0_guestNumber 2 := ⟨⟨qw_390, qw_391, qw_392, qw_28, qw_389⟩, rfl, ⟨by decide, by decide⟩, (by decide +kernel)⟩
theorem cf_X0_164 : jm_cfV RX0 164 M_X0_seenMask 1 := ⟨⟨qw_394, qw_395, qw_396, qw_28, qw_393⟩, rfl, ⟨by decide, by decide⟩, (by decide +kernel)⟩
theorem cf_X0_167 : jm_cfV RX0 167 M_X0_pointsFrom 1 := ⟨⟨qw_398, qw_399, qw_400, qw_28, qw_397⟩, rfl, ⟨by decide, by decide⟩, (by decide +kernel)⟩
theorem cf_X3_213 : jm_cfV RX3 213 M_X0_jurorNumber 2 := ⟨⟨qw_402, qw_403, qw_404, qw_28, qw_401⟩, rfl, ⟨by decide, by decide⟩, (by decide +kernel)⟩
theorem cf_X3_268 : jm_cfV RX3 268 M_X0_greeters 0 := ⟨⟨qw_406, qw_407, qw_408, qw_28, qw_405⟩, rfl, ⟨by decide, by decide⟩, (by decide +kernel)⟩
theorem cf_X3_271 : jm_cfV RX3 271 M_X0_allSeats 0 := ⟨⟨qw_410, qw_411, qw_412, qw_28, qw_409⟩, rfl, ⟨by decide, by decide⟩, (by decide +kernel)⟩
theorem cf_X3_277 : jm_cfV RX3 277 M_X0_prize 0 := ⟨⟨qw_414, qw_415, qw_416, qw_28, qw_413⟩, rfl, ⟨by decide, by decide⟩, (by decide +kernel)⟩
theorem cf_X3_216 : jm_cfV RX3 216 M_X3_countNumber 1 := ⟨⟨qw_418, qw_419, qw_420, qw_84, qw_417⟩, rfl, ⟨by decide, by decide⟩, (by decide +kernel)⟩
theorem cf_X3_222 : jm_cfV RX3 222 M_X0_clashingReel 4 := ⟨⟨qw_421, qw_187, qw_188, qw_28, qw_185⟩, rfl, ⟨by decide, by decide⟩, (by decide +kernel)⟩
theorem cf_X0_117 : jm_cfV RX0 117 M_X0_reelBegin 2 := ⟨⟨qw_422, qw_355, qw_356, qw_28, qw_353⟩, rfl, ⟨by decide, by decide⟩, (by decide +kernel)⟩
theorem cf_X3_225 : jm_cfV RX3 225 M_X0_nextFrom 3 := ⟨⟨qw_424, qw_425, qw_426, qw_28, qw_423⟩, rfl, ⟨by decide, by decide⟩, (by decide +kernel)⟩
theorem cf_X0_120 : jm_cfV RX0 120 M_X0_nextFrom 3 := ⟨⟨qw_427, qw_425, qw_426, qw_28, qw_423⟩, rfl, ⟨by decide, by decide⟩, (by decide +kernel)⟩
theorem cf_X3_228 : jm_cfV RX3 228 M_X0_bestFrom 2 := ⟨⟨qw_429, qw_430, qw_431, qw_28, qw_428⟩, rfl, ⟨by decide, by decide⟩, (by decide +kernel)⟩
theorem cf_X0_124 : jm_cfV RX0 124 M_X0_refusal 4 := ⟨⟨qw_432, qw_214, qw_215, qw_28, qw_212⟩, rfl, ⟨by decide, by decide⟩, (by decide +kernel)⟩
theorem cf_X3_231 : jm_cfV RX3 231 M_X0_moreGreeters 3 := ⟨⟨qw_434, qw_435, qw_436, qw_28, qw_433⟩, rfl, ⟨by decide, by decide⟩, (by decide +kernel)⟩
theorem cf_X3_234 : jm_cfV RX3 234 M_X0_share 1 := ⟨⟨qw_438, qw_439, qw_440, qw_28, qw_437⟩, rfl, ⟨by decide, by decide⟩, (by decide +kernel)⟩
theorem cf_L_97 : jm_cfV RL 97 M_X3_use 1 := ⟨⟨qw_442, qw_443, qw_444, qw_84, qw_441⟩, rfl, ⟨by decide, by decide⟩, (by decide +kernel)⟩
theorem cf_L_94 : jm_cfV RL 94 M_X3_ifShown 3 := ⟨⟨qw_446, qw_447, qw_448, qw_84, qw_445⟩, rfl, ⟨by decide, by decide⟩, (by decide +kernel)⟩
theorem cf_L_91 : jm_cfV RL 91 M_X3_bestScreen 2 := ⟨⟨qw_450, qw_451, qw_452, qw_84, qw_449⟩, rfl, ⟨by decide, by decide⟩, (by decide +kernel)⟩
theorem cf_L_88 : jm_cfV RL 88 M_X3_nextStart 3 := ⟨⟨qw_454, qw_455, qw_456, qw_84, qw_453⟩, rfl, ⟨by decide, by decide⟩, (by decide +kernel)⟩
theorem cf_L_84 : jm_cfV RL 84 M_X3_whyNot 5 := ⟨⟨qw_458, qw_459, qw_460, qw_84, qw_457⟩, rfl, ⟨by decide, by decide⟩, (by decide +kernel)⟩
theorem cf_L_81 : jm_cfV RL 81 M_X3_count 1 := ⟨⟨qw_462, qw_463, qw_464, qw_84, qw_461⟩, rfl, ⟨by decide, by decide⟩, (by decide +kernel)⟩
theorem cf_L_78 : jm_cfV RL 78 M_X3_juror 2 := ⟨⟨qw_466, qw_467, qw_468, qw_84, qw_465⟩, rfl, ⟨by decide, by decide⟩, (by decide +kernel)⟩
theorem cf_L_75 : jm_cfV RL 75 M_X3_guestOf 2 := ⟨⟨qw_470, qw_471, qw_472, qw_84, qw_469⟩, rfl, ⟨by decide, by decide⟩, (by decide +kernel)⟩
theorem cf_L_72 : jm_cfV RL 72 M_X3_screen 2 := ⟨⟨qw_474, qw_475, qw_476, qw_84, qw_473⟩, rfl, ⟨by decide, by decide⟩, (by decide +kernel)⟩
theorem cf_L_69 : jm_cfV RL 69 M_X3_runs 2 := ⟨⟨qw_478, qw_479, qw_480, qw_84, qw_477⟩, rfl, ⟨by decide, by decide⟩, (by decide +kernel)⟩
theorem cf_L_66 : jm_cfV RL 66 M_X3_reel 2 := ⟨⟨qw_482, qw_483, qw_484, qw_84, qw_481⟩, rfl, ⟨by decide, by decide⟩, (by decide +kernel)⟩
theorem cf_L_63 : jm_cfV RL 63 M_X3_showing 2 := ⟨⟨qw_486, qw_487, qw_488, qw_84, qw_485⟩, rfl, ⟨by decide, by decide⟩, (by decide +kernel)⟩
theorem cf_L_60 : jm_cfV RL 60 M_X3_filmOf 2 := ⟨⟨qw_490, qw_491, qw_492, qw_84, qw_489⟩, rfl, ⟨by decide, by decide⟩, (by decide +kernel)⟩
theorem cf_L_57 : jm_cfV RL 57 M_X3_restore 0 := ⟨⟨qw_494, qw_495, qw_496, qw_84, qw_493⟩, rfl, ⟨by decide, by decide⟩, (by decide +kernel)⟩
theorem cf_L_54 : jm_cfV RL 54 M_X3_undo 0 := ⟨⟨qw_498, qw_499, qw_500, qw_84, qw_497⟩, rfl, ⟨by decide, by decide⟩, (by decide +kernel)⟩
theorem cf_L_51 : jm_cfV RL 51 M_X3_stopped 1 := ⟨⟨qw_502, qw_503, qw_504, qw_84, qw_501⟩, rfl, ⟨by decide, by decide⟩, (by decide +kernel)⟩
theorem cf_L_47 : jm_cfV RL 47 M_X3_program 0 := ⟨⟨qw_506, qw_507, qw_508, qw_84, qw_505⟩, rfl, ⟨by decide, by decide⟩, (by decide +kernel)⟩
theorem cf_L_44 : jm_cfV RL 44 M_X3_append 1 := ⟨⟨qw_510, qw_511, qw_512, qw_84, qw_509⟩, rfl, ⟨by decide, by decide⟩, (by decide +kernel)⟩
theorem cf_L_41 : jm_cfV RL 41 M_X3_vote 3 := ⟨⟨qw_514, qw_515, qw_516, qw_84, qw_513⟩, rfl, ⟨by decide, by decide⟩, (by decide +kernel)⟩
theorem cf_L_38 : jm_cfV RL 38 M_X3_attend 2 := ⟨⟨qw_518, qw_519, qw_520, qw_84, qw_517⟩, rfl, ⟨by decide, by decide⟩, (by decide +kernel)⟩
theorem cf_L_34 : jm_cfV RL 34 M_X3_guest 3 := ⟨⟨qw_522, qw_523, qw_524, qw_84, qw_521⟩, rfl, ⟨by decide, by decide⟩, (by decide +kernel)⟩
theorem cf_L_31 : jm_cfV RL 31 M_X3_move 2 := ⟨⟨qw_526, qw_527, qw_528, qw_84, qw_525⟩, rfl, ⟨by decide, by decide⟩, (by decide +kernel)⟩
theorem cf_L_27 : jm_cfV RL 27 M_X3_callOff 1 := ⟨⟨qw_530, qw_531, qw_532, qw_84, qw_529⟩, rfl, ⟨by decide, by decide⟩, (by decide +kernel)⟩
theorem cf_L_23 : jm_cfV RL 23 M_X3_show 4 := ⟨⟨qw_534, qw_535, qw_536, qw_84, qw_533⟩, rfl, ⟨by decide, by decide⟩, (by decide +kernel)⟩
theorem cf_L_20 : jm_cfV RL 20 M_X3_set 2 := ⟨⟨qw_538, qw_539, qw_540, qw_84, qw_537⟩, rfl, ⟨by decide, by decide⟩, (by decide +kernel)⟩
theorem cf_L_17 : jm_cfV RL 17 M_X3_seats 2 := ⟨⟨qw_542, qw_543, qw_544, qw_84, qw_541⟩, rfl, ⟨by decide, by decide⟩, (by decide +kernel)⟩
theorem cf_L_11 : jm_cfV RL 11 M_X3_film 2 := ⟨⟨qw_546, qw_547, qw_548, qw_84, qw_545⟩, rfl, ⟨by decide, by decide⟩, (by decide +kernel)⟩
theorem cf_L_114 : jm_cfS RL 114 M_L_far 3 := ⟨⟨qw_550, qw_551, qw_552, qw_549⟩, ⟨by decide, by decide⟩, (by decide +kernel)⟩
theorem cf_L_119 : jm_cfS RL 119 M_L_call 6 := ⟨⟨qw_554, qw_555, qw_552, qw_553⟩, ⟨by decide, by decide⟩, (by decide +kernel)⟩
theorem cf_L_131 : jm_cfS RL 131 M_L_seen 1 := ⟨⟨qw_557, qw_558, qw_552, qw_556⟩, ⟨by decide, by decide⟩, (by decide +kernel)⟩
theorem cf_L_135 : jm_cfS RL 135 M_L_refusesFilms 2 := ⟨⟨qw_560, qw_561, qw_552, qw_559⟩, ⟨by decide, by decide⟩, (by decide +kernel)⟩
theorem cf_L_139 : jm_cfS RL 139 M_L_refusesShown 2 := ⟨⟨qw_563, qw_564, qw_552, qw_562⟩, ⟨by decide, by decide⟩, (by decide +kernel)⟩
theorem cf_L_142 : jm_cfI RL 142 M_X3_init 0 := ⟨⟨qw_566, qw_567, qw_84, qw_565⟩, rfl, ⟨by decide, by decide⟩, (by decide +kernel), rfl, rfl⟩
theorem cf_L_143 : jm_cfS RL 143 M_L_refused 1 := ⟨⟨qw_569, qw_570, qw_552, qw_568⟩, ⟨by decide, by decide⟩, (by decide +kernel)⟩
theorem cf_L_147 : jm_cfV RL 147 M_X3_keep 0 := ⟨⟨qw_572, qw_573, qw_574, qw_84, qw_571⟩, rfl, ⟨by decide, by decide⟩, (by decide +kernel)⟩
theorem cf_L_152 : jm_cfV RL 152 M_X3_clearBuffer 0 := ⟨⟨qw_576, qw_577, qw_578, qw_84, qw_575⟩, rfl, ⟨by decide, by decide⟩, (by decide +kernel)⟩
theorem cf_L_155 : jm_cfS RL 155 M_L_types 2 := ⟨⟨qw_580, qw_581, qw_552, qw_579⟩, ⟨by decide, by decide⟩, (by decide +kernel)⟩
theorem cf_L_159 : jm_cfV RL 159 M_X3_firstError 0 := ⟨⟨qw_583, qw_584, qw_585, qw_84, qw_582⟩, rfl, ⟨by decide, by decide⟩, (by decide +kernel)⟩
theorem cf_L_164 : jm_cfS RL 164 M_L_isError 4 := ⟨⟨qw_587, qw_588, qw_552, qw_586⟩, ⟨by decide, by decide⟩, (by decide +kernel)⟩
theorem cf_L_224 : jm_cfS RL 224 M_L_two 0 := ⟨⟨qw_590, qw_591, qw_552, qw_589⟩, ⟨by decide, by decide⟩, (by decide +kernel)⟩
theorem cf_L_228 : jm_cfS RL 228 M_L_many 0 := ⟨⟨qw_593, qw_594, qw_552, qw_592⟩, ⟨by decide, by decide⟩, (by decide +kernel)⟩
theorem cf_L_231 : jm_cfS RL 231 M_L_texts 0 := ⟨⟨qw_596, qw_597, qw_552, qw_595⟩, ⟨by decide, by decide⟩, (by decide +kernel)⟩
theorem cf_L_234 {L : Nat} {xs : Nat → Int32} : jm_cfS RL 234 (M_L_drawn L xs) 2 := ⟨⟨qw_599, qw_600, qw_552, (by rw [jm_cd0 rfl]; exact qw_598)⟩, ⟨(by show yL_drawn.cls ≠ _; decide), (by show yL_drawn.cls ≠ _; decide)⟩, (by show (parseMethodDescriptor yL_drawn.desc).map _ = _; decide +kernel)⟩
theorem cf_L_238 : jm_cfS RL 238 M_L_part 2 := ⟨⟨qw_602, qw_603, qw_552, qw_601⟩, ⟨by decide, by decide⟩, (by decide +kernel)⟩
set_option maxRecDepth 100000 in
set_option maxHeartbeats 4000000 in
theorem tf_X3_288_292 : jm_tf RX3 "java/lang/IllegalArgumentException" 288 292 := ⟨by decide, qw_604, qw_605, (fun w hw hg => jm_in (xtf_X3_288_292 w (List.mem_filter.mpr ⟨hw, hg⟩)) hg), (by decide +kernel), (by decide +kernel), (by decide +kernel)⟩
set_option maxRecDepth 100000 in
set_option maxHeartbeats 4000000 in
theorem tf_X3_52_56 : jm_tf RX3 "java/lang/IllegalStateException" 52 56 := ⟨by decide, qw_606, qw_607, (fun w hw hg => jm_in (xtf_X3_52_56 w (List.mem_filter.mpr ⟨hw, hg⟩)) hg), (by decide +kernel), (by decide +kernel), (by decide +kernel)⟩
set_option maxRecDepth 100000 in
set_option maxHeartbeats 4000000 in
theorem tf_X3_77_81 : jm_tf RX3 "java/lang/IndexOutOfBoundsException" 77 81 := ⟨by decide, qw_608, qw_609, (fun w hw hg => jm_in (xtf_X3_77_81 w (List.mem_filter.mpr ⟨hw, hg⟩)) hg), (by decide +kernel), (by decide +kernel), (by decide +kernel)⟩

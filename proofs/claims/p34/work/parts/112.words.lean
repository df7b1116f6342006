/-! words by their places -/
set_option maxRecDepth 100000 in
theorem qw_200 : Cond.selects RX0 yX0_takingReel yX0_takingReel ∈ jm_WS := jm_in (List.mem_of_getElem? (i := 5) rfl) (by decide +kernel)
set_option maxRecDepth 100000 in
theorem qw_201 : jm_cd M_X0_refusalBeside ∈ jm_WS := jm_in (List.mem_of_getElem? (i := 332) rfl) (by decide +kernel)
set_option maxRecDepth 100000 in
theorem qw_202 : Cond.methodLink RX0 101 yX0_refusalBeside ∈ jm_WS := jm_in (List.mem_of_getElem? (i := 329) rfl) (by decide +kernel)
set_option maxRecDepth 100000 in
theorem qw_203 : Cond.instanceMethod yX0_refusalBeside ∈ jm_WS := jm_in (List.mem_of_getElem? (i := 330) rfl) (by decide +kernel)
set_option maxRecDepth 100000 in
theorem qw_204 : Cond.selects RX0 yX0_refusalBeside yX0_refusalBeside ∈ jm_WS := jm_in (List.mem_of_getElem? (i := 331) rfl) (by decide +kernel)
set_option maxRecDepth 100000 in
theorem qw_205 : jm_cd M_X3_requireFilm ∈ jm_WS := jm_in (List.mem_of_getElem? (i := 301) rfl) (by decide +kernel)
set_option maxRecDepth 100000 in
theorem qw_206 : Cond.methodLink RX3 85 yX3_requireFilm ∈ jm_WS := jm_in (List.mem_of_getElem? (i := 298) rfl) (by decide +kernel)
set_option maxRecDepth 100000 in
theorem qw_207 : Cond.instanceMethod yX3_requireFilm ∈ jm_WS := jm_in (List.mem_of_getElem? (i := 300) rfl) (by decide +kernel)
set_option maxRecDepth 100000 in
theorem qw_208 : Cond.selects RX3 yX3_requireFilm yX3_requireFilm ∈ jm_WS := jm_in (List.mem_of_getElem? (i := 3) rfl) (by decide +kernel)
set_option maxRecDepth 100000 in
theorem qw_209 : jm_cd M_X3_requireMinute ∈ jm_WS := jm_in (List.mem_of_getElem? (i := 324) rfl) (by decide +kernel)
set_option maxRecDepth 100000 in
theorem qw_210 : Cond.methodLink RX3 88 yX3_requireMinute ∈ jm_WS := jm_in (List.mem_of_getElem? (i := 322) rfl) (by decide +kernel)
set_option maxRecDepth 100000 in
theorem qw_211 : Cond.static yX3_requireMinute ∈ jm_WS := jm_in (List.mem_of_getElem? (i := 323) rfl) (by decide +kernel)
set_option maxRecDepth 100000 in
theorem qw_212 : jm_cd M_X0_refusal ∈ jm_WS := jm_in (List.mem_of_getElem? (i := 328) rfl) (by decide +kernel)
set_option maxRecDepth 100000 in
theorem qw_213 : Cond.methodLink RX3 91 yX0_refusal ∈ jm_WS := jm_in (List.mem_of_getElem? (i := 325) rfl) (by decide +kernel)
set_option maxRecDepth 100000 in
theorem qw_214 : Cond.instanceMethod yX0_refusal ∈ jm_WS := jm_in (List.mem_of_getElem? (i := 326) rfl) (by decide +kernel)
set_option maxRecDepth 100000 in
theorem qw_215 : Cond.selects RX0 yX0_refusal yX0_refusal ∈ jm_WS := jm_in (List.mem_of_getElem? (i := 327) rfl) (by decide +kernel)
set_option maxRecDepth 100000 in
theorem qw_216 : jm_cd M_X3_requireNotRefused ∈ jm_WS := jm_in (List.mem_of_getElem? (i := 365) rfl) (by decide +kernel)
set_option maxRecDepth 100000 in
theorem qw_217 : Cond.methodLink RX3 95 yX3_requireNotRefused ∈ jm_WS := jm_in (List.mem_of_getElem? (i := 363) rfl) (by decide +kernel)
set_option maxRecDepth 100000 in
theorem qw_218 : Cond.static yX3_requireNotRefused ∈ jm_WS := jm_in (List.mem_of_getElem? (i := 364) rfl) (by decide +kernel)
set_option maxRecDepth 100000 in
theorem qw_219 : jm_cd M_X0_addShowing ∈ jm_WS := jm_in (List.mem_of_getElem? (i := 370) rfl) (by decide +kernel)
set_option maxRecDepth 100000 in
theorem qw_220 : Cond.methodLink RX3 98 yX0_addShowing ∈ jm_WS := jm_in (List.mem_of_getElem? (i := 367) rfl) (by decide +kernel)
set_option maxRecDepth 100000 in
theorem qw_221 : Cond.instanceMethod yX0_addShowing ∈ jm_WS := jm_in (List.mem_of_getElem? (i := 368) rfl) (by decide +kernel)
set_option maxRecDepth 100000 in
theorem qw_222 : Cond.selects RX0 yX0_addShowing yX0_addShowing ∈ jm_WS := jm_in (List.mem_of_getElem? (i := 369) rfl) (by decide +kernel)
set_option maxRecDepth 100000 in
theorem qw_223 : jm_cd M_J6_bitCount_0f7a4 ∈ jm_WS := jm_in (List.mem_of_getElem? (i := 456) rfl) (by decide +kernel)
set_option maxRecDepth 100000 in
theorem qw_224 : Cond.methodLink RX0 64 yJ6_bitCount_0f7a4 ∈ jm_WS := jm_in (List.mem_of_getElem? (i := 454) rfl) (by decide +kernel)
set_option maxRecDepth 100000 in
theorem qw_225 : Cond.static yJ6_bitCount_0f7a4 ∈ jm_WS := jm_in (List.mem_of_getElem? (i := 455) rfl) (by decide +kernel)
set_option maxRecDepth 100000 in
theorem qw_226 : Cond.initialized RJ6 ∈ jm_WS := jm_in (List.mem_of_getElem? (i := 39) rfl) (by decide +kernel)
set_option maxRecDepth 100000 in
theorem qw_227 : jm_cd M_X2_dropRow ∈ jm_WS := jm_in (List.mem_of_getElem? (i := 506) rfl) (by decide +kernel)
set_option maxRecDepth 100000 in
theorem qw_228 : Cond.methodLink RX0 70 yX2_dropRow ∈ jm_WS := jm_in (List.mem_of_getElem? (i := 503) rfl) (by decide +kernel)
set_option maxRecDepth 100000 in
theorem qw_229 : Cond.instanceMethod yX2_dropRow ∈ jm_WS := jm_in (List.mem_of_getElem? (i := 504) rfl) (by decide +kernel)
set_option maxRecDepth 100000 in
theorem qw_230 : Cond.selects RX2 yX2_dropRow yX2_dropRow ∈ jm_WS := jm_in (List.mem_of_getElem? (i := 505) rfl) (by decide +kernel)
set_option maxRecDepth 100000 in
theorem qw_231 : jm_cd M_X3_requireShowing ∈ jm_WS := jm_in (List.mem_of_getElem? (i := 382) rfl) (by decide +kernel)
set_option maxRecDepth 100000 in
theorem qw_232 : Cond.methodLink RX3 101 yX3_requireShowing ∈ jm_WS := jm_in (List.mem_of_getElem? (i := 379) rfl) (by decide +kernel)
set_option maxRecDepth 100000 in
theorem qw_233 : Cond.instanceMethod yX3_requireShowing ∈ jm_WS := jm_in (List.mem_of_getElem? (i := 381) rfl) (by decide +kernel)
set_option maxRecDepth 100000 in
theorem qw_234 : Cond.selects RX3 yX3_requireShowing yX3_requireShowing ∈ jm_WS := jm_in (List.mem_of_getElem? (i := 6) rfl) (by decide +kernel)
set_option maxRecDepth 100000 in
theorem qw_235 : jm_cd M_X0_dropShowing ∈ jm_WS := jm_in (List.mem_of_getElem? (i := 502) rfl) (by decide +kernel)
set_option maxRecDepth 100000 in
theorem qw_236 : Cond.methodLink RX3 104 yX0_dropShowing ∈ jm_WS := jm_in (List.mem_of_getElem? (i := 499) rfl) (by decide +kernel)
set_option maxRecDepth 100000 in
theorem qw_237 : Cond.instanceMethod yX0_dropShowing ∈ jm_WS := jm_in (List.mem_of_getElem? (i := 500) rfl) (by decide +kernel)
set_option maxRecDepth 100000 in
theorem qw_238 : Cond.selects RX0 yX0_dropShowing yX0_dropShowing ∈ jm_WS := jm_in (List.mem_of_getElem? (i := 501) rfl) (by decide +kernel)
set_option maxRecDepth 100000 in
theorem qw_239 : jm_cd M_X3_hasBit ∈ jm_WS := jm_in (List.mem_of_getElem? (i := 390) rfl) (by decide +kernel)
set_option maxRecDepth 100000 in
theorem qw_240 : Cond.static yX3_hasBit ∈ jm_WS := jm_in (List.mem_of_getElem? (i := 389) rfl) (by decide +kernel)
set_option maxRecDepth 100000 in
theorem qw_241 : jm_cd M_X0_goes ∈ jm_WS := jm_in (List.mem_of_getElem? (i := 387) rfl) (by decide +kernel)
set_option maxRecDepth 100000 in
theorem qw_242 : Cond.methodLink RX0 74 yX0_goes ∈ jm_WS := jm_in (List.mem_of_getElem? (i := 395) rfl) (by decide +kernel)
set_option maxRecDepth 100000 in
theorem qw_243 : Cond.instanceMethod yX0_goes ∈ jm_WS := jm_in (List.mem_of_getElem? (i := 385) rfl) (by decide +kernel)
set_option maxRecDepth 100000 in
theorem qw_244 : Cond.selects RX0 yX0_goes yX0_goes ∈ jm_WS := jm_in (List.mem_of_getElem? (i := 386) rfl) (by decide +kernel)
set_option maxRecDepth 100000 in
theorem qw_245 : jm_cd M_X0_canGo ∈ jm_WS := jm_in (List.mem_of_getElem? (i := 394) rfl) (by decide +kernel)
set_option maxRecDepth 100000 in
theorem qw_246 : Cond.methodLink RX0 78 yX0_canGo ∈ jm_WS := jm_in (List.mem_of_getElem? (i := 516) rfl) (by decide +kernel)
set_option maxRecDepth 100000 in
theorem qw_247 : Cond.instanceMethod yX0_canGo ∈ jm_WS := jm_in (List.mem_of_getElem? (i := 392) rfl) (by decide +kernel)
set_option maxRecDepth 100000 in
theorem qw_248 : Cond.selects RX0 yX0_canGo yX0_canGo ∈ jm_WS := jm_in (List.mem_of_getElem? (i := 393) rfl) (by decide +kernel)
set_option maxRecDepth 100000 in
theorem qw_249 : Cond.methodLink RX3 111 yX2_at ∈ jm_WS := jm_in (List.mem_of_getElem? (i := 464) rfl) (by decide +kernel)
set_option maxRecDepth 100000 in
theorem qw_250 : Cond.methodLink RX3 114 yX0_refusalBeside ∈ jm_WS := jm_in (List.mem_of_getElem? (i := 511) rfl) (by decide +kernel)
set_option maxRecDepth 100000 in
theorem qw_251 : jm_cd M_X0_shift ∈ jm_WS := jm_in (List.mem_of_getElem? (i := 515) rfl) (by decide +kernel)
set_option maxRecDepth 100000 in
theorem qw_252 : Cond.methodLink RX3 118 yX0_shift ∈ jm_WS := jm_in (List.mem_of_getElem? (i := 512) rfl) (by decide +kernel)
set_option maxRecDepth 100000 in
theorem qw_253 : Cond.instanceMethod yX0_shift ∈ jm_WS := jm_in (List.mem_of_getElem? (i := 513) rfl) (by decide +kernel)
set_option maxRecDepth 100000 in
theorem qw_254 : Cond.selects RX0 yX0_shift yX0_shift ∈ jm_WS := jm_in (List.mem_of_getElem? (i := 514) rfl) (by decide +kernel)
set_option maxRecDepth 100000 in
theorem qw_255 : jm_cd M_X0_addGuest ∈ jm_WS := jm_in (List.mem_of_getElem? (i := 525) rfl) (by decide +kernel)
set_option maxRecDepth 100000 in
theorem qw_256 : Cond.methodLink RX3 126 yX0_addGuest ∈ jm_WS := jm_in (List.mem_of_getElem? (i := 522) rfl) (by decide +kernel)
set_option maxRecDepth 100000 in
theorem qw_257 : Cond.instanceMethod yX0_addGuest ∈ jm_WS := jm_in (List.mem_of_getElem? (i := 523) rfl) (by decide +kernel)
set_option maxRecDepth 100000 in
theorem qw_258 : Cond.selects RX0 yX0_addGuest yX0_addGuest ∈ jm_WS := jm_in (List.mem_of_getElem? (i := 524) rfl) (by decide +kernel)
set_option maxRecDepth 100000 in
theorem qw_259 : jm_cd M_X0_visitsOf ∈ jm_WS := jm_in (List.mem_of_getElem? (i := 404) rfl) (by decide +kernel)
set_option maxRecDepth 100000 in
theorem qw_260 : Cond.methodLink RX0 81 yX0_visitsOf ∈ jm_WS := jm_in (List.mem_of_getElem? (i := 401) rfl) (by decide +kernel)
set_option maxRecDepth 100000 in
theorem qw_261 : Cond.instanceMethod yX0_visitsOf ∈ jm_WS := jm_in (List.mem_of_getElem? (i := 403) rfl) (by decide +kernel)
set_option maxRecDepth 100000 in
theorem qw_262 : Cond.selects RX0 yX0_visitsOf yX0_visitsOf ∈ jm_WS := jm_in (List.mem_of_getElem? (i := 7) rfl) (by decide +kernel)
set_option maxRecDepth 100000 in
theorem qw_263 : jm_cd M_X3_requireJuror ∈ jm_WS := jm_in (List.mem_of_getElem? (i := 377) rfl) (by decide +kernel)
set_option maxRecDepth 100000 in
theorem qw_264 : Cond.methodLink RX3 129 yX3_requireJuror ∈ jm_WS := jm_in (List.mem_of_getElem? (i := 375) rfl) (by decide +kernel)
set_option maxRecDepth 100000 in
theorem qw_265 : Cond.static yX3_requireJuror ∈ jm_WS := jm_in (List.mem_of_getElem? (i := 376) rfl) (by decide +kernel)
set_option maxRecDepth 100000 in
theorem qw_266 : Cond.methodLink RX3 132 yX0_goes ∈ jm_WS := jm_in (List.mem_of_getElem? (i := 384) rfl) (by decide +kernel)
set_option maxRecDepth 100000 in
theorem qw_267 : Cond.methodLink RX3 136 yX0_canGo ∈ jm_WS := jm_in (List.mem_of_getElem? (i := 391) rfl) (by decide +kernel)
set_option maxRecDepth 100000 in
theorem qw_268 : jm_cd M_X0_addGoer ∈ jm_WS := jm_in (List.mem_of_getElem? (i := 400) rfl) (by decide +kernel)
set_option maxRecDepth 100000 in
theorem qw_269 : Cond.methodLink RX3 141 yX0_addGoer ∈ jm_WS := jm_in (List.mem_of_getElem? (i := 397) rfl) (by decide +kernel)
set_option maxRecDepth 100000 in
theorem qw_270 : Cond.instanceMethod yX0_addGoer ∈ jm_WS := jm_in (List.mem_of_getElem? (i := 398) rfl) (by decide +kernel)
set_option maxRecDepth 100000 in
theorem qw_271 : Cond.selects RX0 yX0_addGoer yX0_addGoer ∈ jm_WS := jm_in (List.mem_of_getElem? (i := 399) rfl) (by decide +kernel)
set_option maxRecDepth 100000 in
theorem qw_272 : jm_cd M_X0_seenBy ∈ jm_WS := jm_in (List.mem_of_getElem? (i := 453) rfl) (by decide +kernel)
set_option maxRecDepth 100000 in
theorem qw_273 : Cond.methodLink RX3 144 yX0_seenBy ∈ jm_WS := jm_in (List.mem_of_getElem? (i := 530) rfl) (by decide +kernel)
set_option maxRecDepth 100000 in
theorem qw_274 : Cond.instanceMethod yX0_seenBy ∈ jm_WS := jm_in (List.mem_of_getElem? (i := 451) rfl) (by decide +kernel)
set_option maxRecDepth 100000 in
theorem qw_275 : Cond.selects RX0 yX0_seenBy yX0_seenBy ∈ jm_WS := jm_in (List.mem_of_getElem? (i := 452) rfl) (by decide +kernel)
set_option maxRecDepth 100000 in
theorem qw_276 : Cond.methodLink RX3 147 yX3_hasBit ∈ jm_WS := jm_in (List.mem_of_getElem? (i := 531) rfl) (by decide +kernel)
set_option maxRecDepth 100000 in
theorem qw_277 : jm_cd M_X1_isLonger ∈ jm_WS := jm_in (List.mem_of_getElem? (i := 566) rfl) (by decide +kernel)
set_option maxRecDepth 100000 in
theorem qw_278 : Cond.methodLink RX1 45 yX1_isLonger ∈ jm_WS := jm_in (List.mem_of_getElem? (i := 564) rfl) (by decide +kernel)
set_option maxRecDepth 100000 in
theorem qw_279 : Cond.static yX1_isLonger ∈ jm_WS := jm_in (List.mem_of_getElem? (i := 565) rfl) (by decide +kernel)
set_option maxRecDepth 100000 in
theorem qw_280 : jm_cd M_X1_startPart ∈ jm_WS := jm_in (List.mem_of_getElem? (i := 549) rfl) (by decide +kernel)
set_option maxRecDepth 100000 in
theorem qw_281 : Cond.methodLink RX1 42 yX1_startPart ∈ jm_WS := jm_in (List.mem_of_getElem? (i := 563) rfl) (by decide +kernel)
set_option maxRecDepth 100000 in
theorem qw_282 : Cond.instanceMethod yX1_startPart ∈ jm_WS := jm_in (List.mem_of_getElem? (i := 547) rfl) (by decide +kernel)
set_option maxRecDepth 100000 in
theorem qw_283 : Cond.selects RX1 yX1_startPart yX1_startPart ∈ jm_WS := jm_in (List.mem_of_getElem? (i := 548) rfl) (by decide +kernel)
set_option maxRecDepth 100000 in
theorem qw_284 : jm_cd M_X1_advance ∈ jm_WS := jm_in (List.mem_of_getElem? (i := 558) rfl) (by decide +kernel)
set_option maxRecDepth 100000 in
theorem qw_285 : Cond.methodLink RX1 25 yX1_advance ∈ jm_WS := jm_in (List.mem_of_getElem? (i := 555) rfl) (by decide +kernel)
set_option maxRecDepth 100000 in
theorem qw_286 : Cond.instanceMethod yX1_advance ∈ jm_WS := jm_in (List.mem_of_getElem? (i := 557) rfl) (by decide +kernel)
set_option maxRecDepth 100000 in
theorem qw_287 : Cond.selects RX1 yX1_advance yX1_advance ∈ jm_WS := jm_in (List.mem_of_getElem? (i := 13) rfl) (by decide +kernel)
set_option maxRecDepth 100000 in
theorem qw_288 : jm_cd M_X1_takeBehindStart ∈ jm_WS := jm_in (List.mem_of_getElem? (i := 562) rfl) (by decide +kernel)
set_option maxRecDepth 100000 in
theorem qw_289 : Cond.methodLink RX1 35 yX1_takeBehindStart ∈ jm_WS := jm_in (List.mem_of_getElem? (i := 559) rfl) (by decide +kernel)
set_option maxRecDepth 100000 in
theorem qw_290 : Cond.instanceMethod yX1_takeBehindStart ∈ jm_WS := jm_in (List.mem_of_getElem? (i := 561) rfl) (by decide +kernel)
set_option maxRecDepth 100000 in
theorem qw_291 : Cond.selects RX1 yX1_takeBehindStart yX1_takeBehindStart ∈ jm_WS := jm_in (List.mem_of_getElem? (i := 14) rfl) (by decide +kernel)
set_option maxRecDepth 100000 in
theorem qw_292 : jm_cd M_X1_takeBehindPause ∈ jm_WS := jm_in (List.mem_of_getElem? (i := 570) rfl) (by decide +kernel)
set_option maxRecDepth 100000 in
theorem qw_293 : Cond.methodLink RX1 39 yX1_takeBehindPause ∈ jm_WS := jm_in (List.mem_of_getElem? (i := 567) rfl) (by decide +kernel)
set_option maxRecDepth 100000 in
theorem qw_294 : Cond.instanceMethod yX1_takeBehindPause ∈ jm_WS := jm_in (List.mem_of_getElem? (i := 569) rfl) (by decide +kernel)
set_option maxRecDepth 100000 in
theorem qw_295 : Cond.selects RX1 yX1_takeBehindPause yX1_takeBehindPause ∈ jm_WS := jm_in (List.mem_of_getElem? (i := 15) rfl) (by decide +kernel)
set_option maxRecDepth 100000 in
theorem qw_296 : Cond.methodLink RX3 302 yX1_startPart ∈ jm_WS := jm_in (List.mem_of_getElem? (i := 546) rfl) (by decide +kernel)
set_option maxRecDepth 100000 in
theorem qw_297 : jm_cd M_X1_takeCode ∈ jm_WS := jm_in (List.mem_of_getElem? (i := 553) rfl) (by decide +kernel)
set_option maxRecDepth 100000 in
theorem qw_298 : Cond.methodLink RX3 305 yX1_takeCode ∈ jm_WS := jm_in (List.mem_of_getElem? (i := 550) rfl) (by decide +kernel)
set_option maxRecDepth 100000 in
theorem qw_299 : Cond.instanceMethod yX1_takeCode ∈ jm_WS := jm_in (List.mem_of_getElem? (i := 551) rfl) (by decide +kernel)
set_option maxRecDepth 100000 in
theorem qw_300 : Cond.selects RX1 yX1_takeCode yX1_takeCode ∈ jm_WS := jm_in (List.mem_of_getElem? (i := 552) rfl) (by decide +kernel)
set_option maxRecDepth 100000 in
theorem qw_301 : jm_cd M_X3_readBuffer ∈ jm_WS := jm_in (List.mem_of_getElem? (i := 545) rfl) (by decide +kernel)
set_option maxRecDepth 100000 in
theorem qw_302 : Cond.methodLink RX3 160 yX3_readBuffer ∈ jm_WS := jm_in (List.mem_of_getElem? (i := 542) rfl) (by decide +kernel)
set_option maxRecDepth 100000 in
theorem qw_303 : Cond.instanceMethod yX3_readBuffer ∈ jm_WS := jm_in (List.mem_of_getElem? (i := 544) rfl) (by decide +kernel)
set_option maxRecDepth 100000 in
theorem qw_304 : Cond.selects RX3 yX3_readBuffer yX3_readBuffer ∈ jm_WS := jm_in (List.mem_of_getElem? (i := 12) rfl) (by decide +kernel)
set_option maxRecDepth 100000 in
theorem qw_305 : jm_cd M_X0_inWay ∈ jm_WS := jm_in (List.mem_of_getElem? (i := 590) rfl) (by decide +kernel)
set_option maxRecDepth 100000 in
theorem qw_306 : Cond.methodLink RX3 219 yX0_inWay ∈ jm_WS := jm_in (List.mem_of_getElem? (i := 587) rfl) (by decide +kernel)
set_option maxRecDepth 100000 in
theorem qw_307 : Cond.instanceMethod yX0_inWay ∈ jm_WS := jm_in (List.mem_of_getElem? (i := 588) rfl) (by decide +kernel)
set_option maxRecDepth 100000 in
theorem qw_308 : Cond.selects RX0 yX0_inWay yX0_inWay ∈ jm_WS := jm_in (List.mem_of_getElem? (i := 589) rfl) (by decide +kernel)
set_option maxRecDepth 100000 in
theorem qw_309 : jm_cd M_X0_setStop ∈ jm_WS := jm_in (List.mem_of_getElem? (i := 582) rfl) (by decide +kernel)
set_option maxRecDepth 100000 in
theorem qw_310 : Cond.methodLink RX3 309 yX0_setStop ∈ jm_WS := jm_in (List.mem_of_getElem? (i := 579) rfl) (by decide +kernel)
set_option maxRecDepth 100000 in
theorem qw_311 : Cond.instanceMethod yX0_setStop ∈ jm_WS := jm_in (List.mem_of_getElem? (i := 580) rfl) (by decide +kernel)
set_option maxRecDepth 100000 in
theorem qw_312 : Cond.selects RX0 yX0_setStop yX0_setStop ∈ jm_WS := jm_in (List.mem_of_getElem? (i := 581) rfl) (by decide +kernel)
set_option maxRecDepth 100000 in
theorem qw_313 : jm_cd M_X3_makePart ∈ jm_WS := jm_in (List.mem_of_getElem? (i := 586) rfl) (by decide +kernel)
set_option maxRecDepth 100000 in
theorem qw_314 : Cond.methodLink RX3 313 yX3_makePart ∈ jm_WS := jm_in (List.mem_of_getElem? (i := 583) rfl) (by decide +kernel)
set_option maxRecDepth 100000 in
theorem qw_315 : Cond.instanceMethod yX3_makePart ∈ jm_WS := jm_in (List.mem_of_getElem? (i := 585) rfl) (by decide +kernel)
set_option maxRecDepth 100000 in
theorem qw_316 : Cond.selects RX3 yX3_makePart yX3_makePart ∈ jm_WS := jm_in (List.mem_of_getElem? (i := 17) rfl) (by decide +kernel)
set_option maxRecDepth 100000 in
theorem qw_317 : jm_cd M_X3_makeShowings ∈ jm_WS := jm_in (List.mem_of_getElem? (i := 578) rfl) (by decide +kernel)
set_option maxRecDepth 100000 in
theorem qw_318 : Cond.methodLink RX3 168 yX3_makeShowings ∈ jm_WS := jm_in (List.mem_of_getElem? (i := 575) rfl) (by decide +kernel)
set_option maxRecDepth 100000 in
theorem qw_319 : Cond.instanceMethod yX3_makeShowings ∈ jm_WS := jm_in (List.mem_of_getElem? (i := 577) rfl) (by decide +kernel)
set_option maxRecDepth 100000 in
theorem qw_320 : Cond.selects RX3 yX3_makeShowings yX3_makeShowings ∈ jm_WS := jm_in (List.mem_of_getElem? (i := 16) rfl) (by decide +kernel)
set_option maxRecDepth 100000 in
theorem qw_321 : jm_cd M_X1_isBehindPart ∈ jm_WS := jm_in (List.mem_of_getElem? (i := 574) rfl) (by decide +kernel)
set_option maxRecDepth 100000 in
theorem qw_322 : Cond.methodLink RX3 164 yX1_isBehindPart ∈ jm_WS := jm_in (List.mem_of_getElem? (i := 571) rfl) (by decide +kernel)
set_option maxRecDepth 100000 in
theorem qw_323 : Cond.instanceMethod yX1_isBehindPart ∈ jm_WS := jm_in (List.mem_of_getElem? (i := 572) rfl) (by decide +kernel)
set_option maxRecDepth 100000 in
theorem qw_324 : Cond.selects RX1 yX1_isBehindPart yX1_isBehindPart ∈ jm_WS := jm_in (List.mem_of_getElem? (i := 573) rfl) (by decide +kernel)
set_option maxRecDepth 100000 in
theorem qw_325 : jm_cd M_X3_requireWhat ∈ jm_WS := jm_in (List.mem_of_getElem? (i := 425) rfl) (by decide +kernel)
set_option maxRecDepth 100000 in
theorem qw_326 : Cond.methodLink RX3 171 yX3_requireWhat ∈ jm_WS := jm_in (List.mem_of_getElem? (i := 423) rfl) (by decide +kernel)
set_option maxRecDepth 100000 in
theorem qw_327 : Cond.static yX3_requireWhat ∈ jm_WS := jm_in (List.mem_of_getElem? (i := 424) rfl) (by decide +kernel)
set_option maxRecDepth 100000 in
theorem qw_328 : jm_cd M_X0_stopNumber ∈ jm_WS := jm_in (List.mem_of_getElem? (i := 598) rfl) (by decide +kernel)
set_option maxRecDepth 100000 in
theorem qw_329 : Cond.methodLink RX3 175 yX0_stopNumber ∈ jm_WS := jm_in (List.mem_of_getElem? (i := 595) rfl) (by decide +kernel)
set_option maxRecDepth 100000 in
theorem qw_330 : Cond.instanceMethod yX0_stopNumber ∈ jm_WS := jm_in (List.mem_of_getElem? (i := 596) rfl) (by decide +kernel)
set_option maxRecDepth 100000 in
theorem qw_331 : Cond.selects RX0 yX0_stopNumber yX0_stopNumber ∈ jm_WS := jm_in (List.mem_of_getElem? (i := 597) rfl) (by decide +kernel)
set_option maxRecDepth 100000 in
theorem qw_332 : Cond.methodLink RX0 133 yX0_seenBy ∈ jm_WS := jm_in (List.mem_of_getElem? (i := 450) rfl) (by decide +kernel)
set_option maxRecDepth 100000 in
theorem qw_333 : jm_cd M_X0_showingsWith ∈ jm_WS := jm_in (List.mem_of_getElem? (i := 610) rfl) (by decide +kernel)
set_option maxRecDepth 100000 in
theorem qw_334 : Cond.methodLink RX0 139 yX0_showingsWith ∈ jm_WS := jm_in (List.mem_of_getElem? (i := 607) rfl) (by decide +kernel)
set_option maxRecDepth 100000 in
theorem qw_335 : Cond.instanceMethod yX0_showingsWith ∈ jm_WS := jm_in (List.mem_of_getElem? (i := 609) rfl) (by decide +kernel)
set_option maxRecDepth 100000 in
theorem qw_336 : Cond.selects RX0 yX0_showingsWith yX0_showingsWith ∈ jm_WS := jm_in (List.mem_of_getElem? (i := 18) rfl) (by decide +kernel)
set_option maxRecDepth 100000 in
theorem qw_337 : jm_cd M_X0_seatsFor ∈ jm_WS := jm_in (List.mem_of_getElem? (i := 614) rfl) (by decide +kernel)
set_option maxRecDepth 100000 in
theorem qw_338 : Cond.methodLink RX0 142 yX0_seatsFor ∈ jm_WS := jm_in (List.mem_of_getElem? (i := 611) rfl) (by decide +kernel)
set_option maxRecDepth 100000 in
theorem qw_339 : Cond.instanceMethod yX0_seatsFor ∈ jm_WS := jm_in (List.mem_of_getElem? (i := 613) rfl) (by decide +kernel)
set_option maxRecDepth 100000 in
theorem qw_340 : Cond.selects RX0 yX0_seatsFor yX0_seatsFor ∈ jm_WS := jm_in (List.mem_of_getElem? (i := 19) rfl) (by decide +kernel)
set_option maxRecDepth 100000 in
theorem qw_341 : jm_cd M_X0_pointsOf ∈ jm_WS := jm_in (List.mem_of_getElem? (i := 463) rfl) (by decide +kernel)
set_option maxRecDepth 100000 in
theorem qw_342 : Cond.methodLink RX0 136 yX0_pointsOf ∈ jm_WS := jm_in (List.mem_of_getElem? (i := 460) rfl) (by decide +kernel)
set_option maxRecDepth 100000 in
theorem qw_343 : Cond.instanceMethod yX0_pointsOf ∈ jm_WS := jm_in (List.mem_of_getElem? (i := 462) rfl) (by decide +kernel)
set_option maxRecDepth 100000 in
theorem qw_344 : Cond.selects RX0 yX0_pointsOf yX0_pointsOf ∈ jm_WS := jm_in (List.mem_of_getElem? (i := 11) rfl) (by decide +kernel)
set_option maxRecDepth 100000 in
theorem qw_345 : jm_cd M_X0_filmNumber ∈ jm_WS := jm_in (List.mem_of_getElem? (i := 606) rfl) (by decide +kernel)
set_option maxRecDepth 100000 in
theorem qw_346 : Cond.methodLink RX3 193 yX0_filmNumber ∈ jm_WS := jm_in (List.mem_of_getElem? (i := 603) rfl) (by decide +kernel)
set_option maxRecDepth 100000 in
theorem qw_347 : Cond.instanceMethod yX0_filmNumber ∈ jm_WS := jm_in (List.mem_of_getElem? (i := 604) rfl) (by decide +kernel)
set_option maxRecDepth 100000 in
theorem qw_348 : Cond.selects RX0 yX0_filmNumber yX0_filmNumber ∈ jm_WS := jm_in (List.mem_of_getElem? (i := 605) rfl) (by decide +kernel)
set_option maxRecDepth 100000 in
theorem qw_349 : jm_cd M_X0_showingNumber ∈ jm_WS := jm_in (List.mem_of_getElem? (i := 622) rfl) (by decide +kernel)
set_option maxRecDepth 100000 in
theorem qw_350 : Cond.methodLink RX3 196 yX0_showingNumber ∈ jm_WS := jm_in (List.mem_of_getElem? (i := 619) rfl) (by decide +kernel)
set_option maxRecDepth 100000 in
theorem qw_351 : Cond.instanceMethod yX0_showingNumber ∈ jm_WS := jm_in (List.mem_of_getElem? (i := 620) rfl) (by decide +kernel)
set_option maxRecDepth 100000 in
theorem qw_352 : Cond.selects RX0 yX0_showingNumber yX0_showingNumber ∈ jm_WS := jm_in (List.mem_of_getElem? (i := 621) rfl) (by decide +kernel)
set_option maxRecDepth 100000 in
theorem qw_353 : jm_cd M_X0_reelBegin ∈ jm_WS := jm_in (List.mem_of_getElem? (i := 630) rfl) (by decide +kernel)
set_option maxRecDepth 100000 in
theorem qw_354 : Cond.methodLink RX3 199 yX0_reelBegin ∈ jm_WS := jm_in (List.mem_of_getElem? (i := 627) rfl) (by decide +kernel)
set_option maxRecDepth 100000 in
theorem qw_355 : Cond.instanceMethod yX0_reelBegin ∈ jm_WS := jm_in (List.mem_of_getElem? (i := 628) rfl) (by decide +kernel)
set_option maxRecDepth 100000 in
theorem qw_356 : Cond.selects RX0 yX0_reelBegin yX0_reelBegin ∈ jm_WS := jm_in (List.mem_of_getElem? (i := 629) rfl) (by decide +kernel)
set_option maxRecDepth 100000 in
theorem qw_357 : jm_cd M_X0_reelAt ∈ jm_WS := jm_in (List.mem_of_getElem? (i := 642) rfl) (by decide +kernel)
set_option maxRecDepth 100000 in
theorem qw_358 : Cond.methodLink RX0 145 yX0_reelAt ∈ jm_WS := jm_in (List.mem_of_getElem? (i := 639) rfl) (by decide +kernel)
set_option maxRecDepth 100000 in
theorem qw_359 : Cond.instanceMethod yX0_reelAt ∈ jm_WS := jm_in (List.mem_of_getElem? (i := 641) rfl) (by decide +kernel)
set_option maxRecDepth 100000 in
theorem qw_360 : Cond.selects RX0 yX0_reelAt yX0_reelAt ∈ jm_WS := jm_in (List.mem_of_getElem? (i := 20) rfl) (by decide +kernel)
set_option maxRecDepth 100000 in
theorem qw_361 : jm_cd M_X0_runningOn ∈ jm_WS := jm_in (List.mem_of_getElem? (i := 638) rfl) (by decide +kernel)
set_option maxRecDepth 100000 in
theorem qw_362 : Cond.methodLink RX3 202 yX0_runningOn ∈ jm_WS := jm_in (List.mem_of_getElem? (i := 635) rfl) (by decide +kernel)
set_option maxRecDepth 100000 in
theorem qw_363 : Cond.instanceMethod yX0_runningOn ∈ jm_WS := jm_in (List.mem_of_getElem? (i := 636) rfl) (by decide +kernel)
set_option maxRecDepth 100000 in
theorem qw_364 : Cond.selects RX0 yX0_runningOn yX0_runningOn ∈ jm_WS := jm_in (List.mem_of_getElem? (i := 637) rfl) (by decide +kernel)
set_option maxRecDepth 100000 in
theorem qw_365 : jm_cd M_X0_reckonedMinutes ∈ jm_WS := jm_in (List.mem_of_getElem? (i := 654) rfl) (by decide +kernel)
set_option maxRecDepth 100000 in
theorem qw_366 : Cond.methodLink RX0 148 yX0_reckonedMinutes ∈ jm_WS := jm_in (List.mem_of_getElem? (i := 651) rfl) (by decide +kernel)
set_option maxRecDepth 100000 in
theorem qw_367 : Cond.instanceMethod yX0_reckonedMinutes ∈ jm_WS := jm_in (List.mem_of_getElem? (i := 653) rfl) (by decide +kernel)
set_option maxRecDepth 100000 in
theorem qw_368 : Cond.selects RX0 yX0_reckonedMinutes yX0_reckonedMinutes ∈ jm_WS := jm_in (List.mem_of_getElem? (i := 21) rfl) (by decide +kernel)
set_option maxRecDepth 100000 in
theorem qw_369 : jm_cd M_X0_countedMinutes ∈ jm_WS := jm_in (List.mem_of_getElem? (i := 658) rfl) (by decide +kernel)
set_option maxRecDepth 100000 in
theorem qw_370 : Cond.methodLink RX0 151 yX0_countedMinutes ∈ jm_WS := jm_in (List.mem_of_getElem? (i := 655) rfl) (by decide +kernel)
set_option maxRecDepth 100000 in
theorem qw_371 : Cond.instanceMethod yX0_countedMinutes ∈ jm_WS := jm_in (List.mem_of_getElem? (i := 657) rfl) (by decide +kernel)
set_option maxRecDepth 100000 in
theorem qw_372 : Cond.selects RX0 yX0_countedMinutes yX0_countedMinutes ∈ jm_WS := jm_in (List.mem_of_getElem? (i := 22) rfl) (by decide +kernel)
set_option maxRecDepth 100000 in
theorem qw_373 : jm_cd M_X0_lastEnd ∈ jm_WS := jm_in (List.mem_of_getElem? (i := 662) rfl) (by decide +kernel)
set_option maxRecDepth 100000 in
theorem qw_374 : Cond.methodLink RX0 154 yX0_lastEnd ∈ jm_WS := jm_in (List.mem_of_getElem? (i := 659) rfl) (by decide +kernel)
set_option maxRecDepth 100000 in
theorem qw_375 : Cond.instanceMethod yX0_lastEnd ∈ jm_WS := jm_in (List.mem_of_getElem? (i := 661) rfl) (by decide +kernel)
set_option maxRecDepth 100000 in
theorem qw_376 : Cond.selects RX0 yX0_lastEnd yX0_lastEnd ∈ jm_WS := jm_in (List.mem_of_getElem? (i := 23) rfl) (by decide +kernel)
set_option maxRecDepth 100000 in
theorem qw_377 : jm_cd M_X0_screenNumber ∈ jm_WS := jm_in (List.mem_of_getElem? (i := 650) rfl) (by decide +kernel)
set_option maxRecDepth 100000 in
theorem qw_378 : Cond.methodLink RX3 205 yX0_screenNumber ∈ jm_WS := jm_in (List.mem_of_getElem? (i := 647) rfl) (by decide +kernel)
set_option maxRecDepth 100000 in
theorem qw_379 : Cond.instanceMethod yX0_screenNumber ∈ jm_WS := jm_in (List.mem_of_getElem? (i := 648) rfl) (by decide +kernel)
set_option maxRecDepth 100000 in
theorem qw_380 : Cond.selects RX0 yX0_screenNumber yX0_screenNumber ∈ jm_WS := jm_in (List.mem_of_getElem? (i := 649) rfl) (by decide +kernel)
set_option maxRecDepth 100000 in
theorem qw_381 : jm_cd M_X0_fits ∈ jm_WS := jm_in (List.mem_of_getElem? (i := 441) rfl) (by decide +kernel)
set_option maxRecDepth 100000 in
theorem qw_382 : Cond.methodLink RX0 127 yX0_fits ∈ jm_WS := jm_in (List.mem_of_getElem? (i := 438) rfl) (by decide +kernel)
set_option maxRecDepth 100000 in
theorem qw_383 : Cond.instanceMethod yX0_fits ∈ jm_WS := jm_in (List.mem_of_getElem? (i := 440) rfl) (by decide +kernel)
set_option maxRecDepth 100000 in
theorem qw_384 : Cond.selects RX0 yX0_fits yX0_fits ∈ jm_WS := jm_in (List.mem_of_getElem? (i := 10) rfl) (by decide +kernel)
set_option maxRecDepth 100000 in
theorem qw_385 : jm_cd M_X0_greetedBy ∈ jm_WS := jm_in (List.mem_of_getElem? (i := 437) rfl) (by decide +kernel)
set_option maxRecDepth 100000 in
theorem qw_386 : Cond.methodLink RX0 130 yX0_greetedBy ∈ jm_WS := jm_in (List.mem_of_getElem? (i := 434) rfl) (by decide +kernel)
set_option maxRecDepth 100000 in
theorem qw_387 : Cond.instanceMethod yX0_greetedBy ∈ jm_WS := jm_in (List.mem_of_getElem? (i := 436) rfl) (by decide +kernel)
set_option maxRecDepth 100000 in
theorem qw_388 : Cond.selects RX0 yX0_greetedBy yX0_greetedBy ∈ jm_WS := jm_in (List.mem_of_getElem? (i := 9) rfl) (by decide +kernel)
set_option maxRecDepth 100000 in
theorem qw_389 : jm_cd M_X0_guestNumber ∈ jm_WS := jm_in (List.mem_of_getElem? (i := 672) rfl) (by decide +kernel)
set_option maxRecDepth 100000 in
theorem qw_390 : Cond.methodLink RX3 210 yX0_guestNumber ∈ jm_WS := jm_in (List.mem_of_getElem? (i := 669) rfl) (by decide +kernel)
set_option maxRecDepth 100000 in
theorem qw_391 : Cond.instanceMethod yX0_guestNumber ∈ jm_WS := jm_in (List.mem_of_getElem? (i := 670) rfl) (by decide +kernel)
set_option maxRecDepth 100000 in
theorem qw_392 : Cond.selects RX0 yX0_guestNumber yX0_guestNumber ∈ jm_WS := jm_in (List.mem_of_getElem? (i := 671) rfl) (by decide +kernel)
set_option maxRecDepth 100000 in
theorem qw_393 : jm_cd M_X0_seenMask ∈ jm_WS := jm_in (List.mem_of_getElem? (i := 684) rfl) (by decide +kernel)
set_option maxRecDepth 100000 in
theorem qw_394 : Cond.methodLink RX0 164 yX0_seenMask ∈ jm_WS := jm_in (List.mem_of_getElem? (i := 681) rfl) (by decide +kernel)
set_option maxRecDepth 100000 in
theorem qw_395 : Cond.instanceMethod yX0_seenMask ∈ jm_WS := jm_in (List.mem_of_getElem? (i := 683) rfl) (by decide +kernel)
set_option maxRecDepth 100000 in
theorem qw_396 : Cond.selects RX0 yX0_seenMask yX0_seenMask ∈ jm_WS := jm_in (List.mem_of_getElem? (i := 24) rfl) (by decide +kernel)
set_option maxRecDepth 100000 in
theorem qw_397 : jm_cd M_X0_pointsFrom ∈ jm_WS := jm_in (List.mem_of_getElem? (i := 688) rfl) (by decide +kernel)
set_option maxRecDepth 100000 in
theorem qw_398 : Cond.methodLink RX0 167 yX0_pointsFrom ∈ jm_WS := jm_in (List.mem_of_getElem? (i := 685) rfl) (by decide +kernel)
set_option maxRecDepth 100000 in
theorem qw_399 : Cond.instanceMethod yX0_pointsFrom ∈ jm_WS := jm_in (List.mem_of_getElem? (i := 687) rfl) (by decide +kernel)

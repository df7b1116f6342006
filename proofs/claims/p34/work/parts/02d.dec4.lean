theorem dL_two_142 : decode cL_two 142 = .ok (.iconst 2, 1) := by decide +kernel
theorem dL_two_143 : decode cL_two 143 = .ok (.invokevirtual 66, 3) := by decide +kernel
theorem dL_two_146 : decode cL_two 146 = .ok (.bipush 125, 2) := by decide +kernel
theorem dL_two_148 : decode cL_two 148 = .ok (.if_icmp .ne 92, 3) := by decide +kernel
theorem dL_two_151 : decode cL_two 151 = .ok (.aload_n 0, 1) := by decide +kernel
theorem dL_two_152 : decode cL_two 152 = .ok (.iconst 0, 1) := by decide +kernel
theorem dL_two_153 : decode cL_two 153 = .ok (.iconst 3, 1) := by decide +kernel
theorem dL_two_154 : decode cL_two 154 = .ok (.invokevirtual 66, 3) := by decide +kernel
theorem dL_two_157 : decode cL_two 157 = .ok (.iconst (-1), 1) := by decide +kernel
theorem dL_two_158 : decode cL_two 158 = .ok (.if_icmp .ne 82, 3) := by decide +kernel
theorem dL_two_161 : decode cL_two 161 = .ok (.aload_n 0, 1) := by decide +kernel
theorem dL_two_162 : decode cL_two 162 = .ok (.iconst 0, 1) := by decide +kernel
theorem dL_two_163 : decode cL_two 163 = .ok (.bipush 119, 2) := by decide +kernel
theorem dL_two_165 : decode cL_two 165 = .ok (.invokevirtual 69, 3) := by decide +kernel
theorem dL_two_168 : decode cL_two 168 = .ok (.iconst 1, 1) := by decide +kernel
theorem dL_two_169 : decode cL_two 169 = .ok (.if_icmp .ne 71, 3) := by decide +kernel
theorem dL_two_172 : decode cL_two 172 = .ok (.aload_n 0, 1) := by decide +kernel
theorem dL_two_173 : decode cL_two 173 = .ok (.iconst 0, 1) := by decide +kernel
theorem dL_two_174 : decode cL_two 174 = .ok (.bipush 120, 2) := by decide +kernel
theorem dL_two_176 : decode cL_two 176 = .ok (.invokevirtual 69, 3) := by decide +kernel
theorem dL_two_179 : decode cL_two 179 = .ok (.iconst (-1), 1) := by decide +kernel
theorem dL_two_180 : decode cL_two 180 = .ok (.if_icmp .ne 60, 3) := by decide +kernel
theorem dL_two_183 : decode cL_two 183 = .ok (.aload_n 0, 1) := by decide +kernel
theorem dL_two_184 : decode cL_two 184 = .ok (.iconst 0, 1) := by decide +kernel
theorem dL_two_185 : decode cL_two 185 = .ok (.bipush 124, 2) := by decide +kernel
theorem dL_two_187 : decode cL_two 187 = .ok (.invokevirtual 69, 3) := by decide +kernel
theorem dL_two_190 : decode cL_two 190 = .ok (.iconst (-1), 1) := by decide +kernel
theorem dL_two_191 : decode cL_two 191 = .ok (.if_icmp .ne 49, 3) := by decide +kernel
theorem dL_two_194 : decode cL_two 194 = .ok (.aload_n 0, 1) := by decide +kernel
theorem dL_two_195 : decode cL_two 195 = .ok (.iconst 0, 1) := by decide +kernel
theorem dL_two_196 : decode cL_two 196 = .ok (.bipush 125, 2) := by decide +kernel
theorem dL_two_198 : decode cL_two 198 = .ok (.invokevirtual 69, 3) := by decide +kernel
theorem dL_two_201 : decode cL_two 201 = .ok (.iconst 2, 1) := by decide +kernel
theorem dL_two_202 : decode cL_two 202 = .ok (.if_icmp .ne 38, 3) := by decide +kernel
theorem dL_two_205 : decode cL_two 205 = .ok (.aload_n 0, 1) := by decide +kernel
theorem dL_two_206 : decode cL_two 206 = .ok (.iconst 0, 1) := by decide +kernel
theorem dL_two_207 : decode cL_two 207 = .ok (.sipush 134, 3) := by decide +kernel
theorem dL_two_210 : decode cL_two 210 = .ok (.invokevirtual 69, 3) := by decide +kernel
theorem dL_two_213 : decode cL_two 213 = .ok (.iconst 2, 1) := by decide +kernel
theorem dL_two_214 : decode cL_two 214 = .ok (.if_icmp .ne 26, 3) := by decide +kernel
theorem dL_two_217 : decode cL_two 217 = .ok (.aload_n 0, 1) := by decide +kernel
theorem dL_two_218 : decode cL_two 218 = .ok (.iconst 0, 1) := by decide +kernel
theorem dL_two_219 : decode cL_two 219 = .ok (.sipush 135, 3) := by decide +kernel
theorem dL_two_222 : decode cL_two 222 = .ok (.invokevirtual 69, 3) := by decide +kernel
theorem dL_two_225 : decode cL_two 225 = .ok (.iconst (-1), 1) := by decide +kernel
theorem dL_two_226 : decode cL_two 226 = .ok (.if_icmp .ne 14, 3) := by decide +kernel
theorem dL_two_229 : decode cL_two 229 = .ok (.aload_n 0, 1) := by decide +kernel
theorem dL_two_230 : decode cL_two 230 = .ok (.iconst 1, 1) := by decide +kernel
theorem dL_two_231 : decode cL_two 231 = .ok (.bipush 110, 2) := by decide +kernel
theorem dL_two_233 : decode cL_two 233 = .ok (.invokevirtual 69, 3) := by decide +kernel
theorem dL_two_236 : decode cL_two 236 = .ok (.iconst (-1), 1) := by decide +kernel
theorem dL_two_237 : decode cL_two 237 = .ok (.if_icmp .eq 5, 3) := by decide +kernel
theorem dL_two_240 : decode cL_two 240 = .ok (.iconst 0, 1) := by decide +kernel
theorem dL_two_241 : decode cL_two 241 = .ok (.ireturn, 1) := by decide +kernel
theorem dL_two_242 : decode cL_two 242 = .ok (.aload_n 0, 1) := by decide +kernel
theorem dL_two_243 : decode cL_two 243 = .ok (.iconst 1, 1) := by decide +kernel
theorem dL_two_244 : decode cL_two 244 = .ok (.iconst 0, 1) := by decide +kernel
theorem dL_two_245 : decode cL_two 245 = .ok (.sipush 149, 3) := by decide +kernel
theorem dL_two_248 : decode cL_two 248 = .ok (.iconst 0, 1) := by decide +kernel
theorem dL_two_249 : decode cL_two 249 = .ok (.iconst 0, 1) := by decide +kernel
theorem dL_two_250 : decode cL_two 250 = .ok (.invokevirtual 84, 3) := by decide +kernel
theorem dL_two_253 : decode cL_two 253 = .ok (.iconst 3, 1) := by decide +kernel
theorem dL_two_254 : decode cL_two 254 = .ok (.if_icmp .ne 359, 3) := by decide +kernel
theorem dL_two_257 : decode cL_two 257 = .ok (.aload_n 0, 1) := by decide +kernel
theorem dL_two_258 : decode cL_two 258 = .ok (.iconst 1, 1) := by decide +kernel
theorem dL_two_259 : decode cL_two 259 = .ok (.iconst 0, 1) := by decide +kernel
theorem dL_two_260 : decode cL_two 260 = .ok (.sipush 149, 3) := by decide +kernel
theorem dL_two_263 : decode cL_two 263 = .ok (.iconst 0, 1) := by decide +kernel
theorem dL_two_264 : decode cL_two 264 = .ok (.iconst 1, 1) := by decide +kernel
theorem dL_two_265 : decode cL_two 265 = .ok (.invokevirtual 84, 3) := by decide +kernel
theorem dL_two_268 : decode cL_two 268 = .ok (.ifCond .ne 345, 3) := by decide +kernel
theorem dL_two_271 : decode cL_two 271 = .ok (.aload_n 0, 1) := by decide +kernel
theorem dL_two_272 : decode cL_two 272 = .ok (.iconst 1, 1) := by decide +kernel
theorem dL_two_273 : decode cL_two 273 = .ok (.iconst 0, 1) := by decide +kernel
theorem dL_two_274 : decode cL_two 274 = .ok (.sipush 149, 3) := by decide +kernel
theorem dL_two_277 : decode cL_two 277 = .ok (.iconst 0, 1) := by decide +kernel
theorem dL_two_278 : decode cL_two 278 = .ok (.iconst 2, 1) := by decide +kernel
theorem dL_two_279 : decode cL_two 279 = .ok (.invokevirtual 84, 3) := by decide +kernel
theorem dL_two_282 : decode cL_two 282 = .ok (.iconst (-1), 1) := by decide +kernel
theorem dL_two_283 : decode cL_two 283 = .ok (.if_icmp .ne 330, 3) := by decide +kernel
theorem dL_two_286 : decode cL_two 286 = .ok (.aload_n 0, 1) := by decide +kernel
theorem dL_two_287 : decode cL_two 287 = .ok (.iconst 1, 1) := by decide +kernel
theorem dL_two_288 : decode cL_two 288 = .ok (.iconst 0, 1) := by decide +kernel
theorem dL_two_289 : decode cL_two 289 = .ok (.sipush 150, 3) := by decide +kernel
theorem dL_two_292 : decode cL_two 292 = .ok (.iconst 0, 1) := by decide +kernel
theorem dL_two_293 : decode cL_two 293 = .ok (.iconst 0, 1) := by decide +kernel
theorem dL_two_294 : decode cL_two 294 = .ok (.invokevirtual 84, 3) := by decide +kernel
theorem dL_two_297 : decode cL_two 297 = .ok (.ifCond .ne 316, 3) := by decide +kernel
theorem dL_two_300 : decode cL_two 300 = .ok (.aload_n 0, 1) := by decide +kernel
theorem dL_two_301 : decode cL_two 301 = .ok (.iconst 1, 1) := by decide +kernel
theorem dL_two_302 : decode cL_two 302 = .ok (.iconst 0, 1) := by decide +kernel
theorem dL_two_303 : decode cL_two 303 = .ok (.bipush 46, 2) := by decide +kernel
theorem dL_two_305 : decode cL_two 305 = .ok (.iconst 0, 1) := by decide +kernel
theorem dL_two_306 : decode cL_two 306 = .ok (.iconst 0, 1) := by decide +kernel
theorem dL_two_307 : decode cL_two 307 = .ok (.invokevirtual 84, 3) := by decide +kernel
theorem dL_two_310 : decode cL_two 310 = .ok (.iconst 3, 1) := by decide +kernel
theorem dL_two_311 : decode cL_two 311 = .ok (.if_icmp .ne 302, 3) := by decide +kernel
theorem dL_two_314 : decode cL_two 314 = .ok (.aload_n 0, 1) := by decide +kernel
theorem dL_two_315 : decode cL_two 315 = .ok (.iconst 1, 1) := by decide +kernel
theorem dL_two_316 : decode cL_two 316 = .ok (.iconst 0, 1) := by decide +kernel
theorem dL_two_317 : decode cL_two 317 = .ok (.bipush 45, 2) := by decide +kernel
theorem dL_two_319 : decode cL_two 319 = .ok (.iconst 0, 1) := by decide +kernel
theorem dL_two_320 : decode cL_two 320 = .ok (.iconst 0, 1) := by decide +kernel
theorem dL_two_321 : decode cL_two 321 = .ok (.invokevirtual 84, 3) := by decide +kernel
theorem dL_two_324 : decode cL_two 324 = .ok (.ifCond .ne 289, 3) := by decide +kernel
theorem dL_two_327 : decode cL_two 327 = .ok (.aload_n 0, 1) := by decide +kernel
theorem dL_two_328 : decode cL_two 328 = .ok (.iconst 1, 1) := by decide +kernel
theorem dL_two_329 : decode cL_two 329 = .ok (.iconst 0, 1) := by decide +kernel
theorem dL_two_330 : decode cL_two 330 = .ok (.bipush 44, 2) := by decide +kernel
theorem dL_two_332 : decode cL_two 332 = .ok (.iconst 2, 1) := by decide +kernel
theorem dL_two_333 : decode cL_two 333 = .ok (.iconst 0, 1) := by decide +kernel
theorem dL_two_334 : decode cL_two 334 = .ok (.invokevirtual 84, 3) := by decide +kernel
theorem dL_two_337 : decode cL_two 337 = .ok (.iconst 3, 1) := by decide +kernel
theorem dL_two_338 : decode cL_two 338 = .ok (.if_icmp .ne 275, 3) := by decide +kernel
theorem dL_two_341 : decode cL_two 341 = .ok (.aload_n 0, 1) := by decide +kernel
theorem dL_two_342 : decode cL_two 342 = .ok (.iconst 0, 1) := by decide +kernel
theorem dL_two_343 : decode cL_two 343 = .ok (.iconst 1, 1) := by decide +kernel
theorem dL_two_344 : decode cL_two 344 = .ok (.bipush 120, 2) := by decide +kernel
theorem dL_two_346 : decode cL_two 346 = .ok (.iconst 0, 1) := by decide +kernel
theorem dL_two_347 : decode cL_two 347 = .ok (.iconst 0, 1) := by decide +kernel
theorem dL_two_348 : decode cL_two 348 = .ok (.invokevirtual 84, 3) := by decide +kernel
theorem dL_two_351 : decode cL_two 351 = .ok (.iconst 4, 1) := by decide +kernel
theorem dL_two_352 : decode cL_two 352 = .ok (.if_icmp .ne 261, 3) := by decide +kernel
theorem dL_two_355 : decode cL_two 355 = .ok (.aload_n 0, 1) := by decide +kernel
theorem dL_two_356 : decode cL_two 356 = .ok (.iconst 0, 1) := by decide +kernel
theorem dL_two_357 : decode cL_two 357 = .ok (.iconst 1, 1) := by decide +kernel
theorem dL_two_358 : decode cL_two 358 = .ok (.bipush 120, 2) := by decide +kernel
theorem dL_two_360 : decode cL_two 360 = .ok (.iconst 0, 1) := by decide +kernel
theorem dL_two_361 : decode cL_two 361 = .ok (.iconst 1, 1) := by decide +kernel
theorem dL_two_362 : decode cL_two 362 = .ok (.invokevirtual 84, 3) := by decide +kernel
theorem dL_two_365 : decode cL_two 365 = .ok (.ifCond .ne 248, 3) := by decide +kernel
theorem dL_two_368 : decode cL_two 368 = .ok (.aload_n 0, 1) := by decide +kernel
theorem dL_two_369 : decode cL_two 369 = .ok (.iconst 0, 1) := by decide +kernel
theorem dL_two_370 : decode cL_two 370 = .ok (.iconst 1, 1) := by decide +kernel
theorem dL_two_371 : decode cL_two 371 = .ok (.bipush 120, 2) := by decide +kernel
theorem dL_two_373 : decode cL_two 373 = .ok (.iconst 0, 1) := by decide +kernel
theorem dL_two_374 : decode cL_two 374 = .ok (.iconst 2, 1) := by decide +kernel
theorem dL_two_375 : decode cL_two 375 = .ok (.invokevirtual 84, 3) := by decide +kernel
theorem dL_two_378 : decode cL_two 378 = .ok (.iconst 2, 1) := by decide +kernel
theorem dL_two_379 : decode cL_two 379 = .ok (.if_icmp .ne 234, 3) := by decide +kernel
theorem dL_two_382 : decode cL_two 382 = .ok (.aload_n 0, 1) := by decide +kernel
theorem dL_two_383 : decode cL_two 383 = .ok (.iconst 0, 1) := by decide +kernel
theorem dL_two_384 : decode cL_two 384 = .ok (.iconst 1, 1) := by decide +kernel
theorem dL_two_385 : decode cL_two 385 = .ok (.bipush 119, 2) := by decide +kernel
theorem dL_two_387 : decode cL_two 387 = .ok (.iconst 0, 1) := by decide +kernel
theorem dL_two_388 : decode cL_two 388 = .ok (.iconst 2, 1) := by decide +kernel
theorem dL_two_389 : decode cL_two 389 = .ok (.invokevirtual 84, 3) := by decide +kernel
theorem dL_two_392 : decode cL_two 392 = .ok (.ifCond .ne 221, 3) := by decide +kernel
theorem dL_two_395 : decode cL_two 395 = .ok (.aload_n 0, 1) := by decide +kernel
theorem dL_two_396 : decode cL_two 396 = .ok (.iconst 0, 1) := by decide +kernel
theorem dL_two_397 : decode cL_two 397 = .ok (.iconst 1, 1) := by decide +kernel
theorem dL_two_398 : decode cL_two 398 = .ok (.bipush 125, 2) := by decide +kernel
theorem dL_two_400 : decode cL_two 400 = .ok (.iconst 0, 1) := by decide +kernel
theorem dL_two_401 : decode cL_two 401 = .ok (.iconst 0, 1) := by decide +kernel
theorem dL_two_402 : decode cL_two 402 = .ok (.invokevirtual 84, 3) := by decide +kernel
theorem dL_two_405 : decode cL_two 405 = .ok (.ifCond .ne 208, 3) := by decide +kernel
theorem dL_two_408 : decode cL_two 408 = .ok (.aload_n 0, 1) := by decide +kernel
theorem dL_two_409 : decode cL_two 409 = .ok (.iconst 0, 1) := by decide +kernel
theorem dL_two_410 : decode cL_two 410 = .ok (.iconst 1, 1) := by decide +kernel
theorem dL_two_411 : decode cL_two 411 = .ok (.bipush 120, 2) := by decide +kernel
theorem dL_two_413 : decode cL_two 413 = .ok (.iconst 5, 1) := by decide +kernel
theorem dL_two_414 : decode cL_two 414 = .ok (.iconst 0, 1) := by decide +kernel
theorem dL_two_415 : decode cL_two 415 = .ok (.invokevirtual 84, 3) := by decide +kernel
theorem dL_two_418 : decode cL_two 418 = .ok (.ifCond .ne 195, 3) := by decide +kernel
theorem dL_two_421 : decode cL_two 421 = .ok (.aload_n 0, 1) := by decide +kernel
theorem dL_two_422 : decode cL_two 422 = .ok (.iconst 0, 1) := by decide +kernel
theorem dL_two_423 : decode cL_two 423 = .ok (.iconst 1, 1) := by decide +kernel
theorem dL_two_424 : decode cL_two 424 = .ok (.bipush 80, 2) := by decide +kernel
theorem dL_two_426 : decode cL_two 426 = .ok (.iconst 0, 1) := by decide +kernel
theorem dL_two_427 : decode cL_two 427 = .ok (.iconst 0, 1) := by decide +kernel
theorem dL_two_428 : decode cL_two 428 = .ok (.invokevirtual 84, 3) := by decide +kernel
theorem dL_two_431 : decode cL_two 431 = .ok (.ifCond .ne 182, 3) := by decide +kernel
theorem dL_two_434 : decode cL_two 434 = .ok (.aload_n 0, 1) := by decide +kernel
theorem dL_two_435 : decode cL_two 435 = .ok (.iconst 0, 1) := by decide +kernel
theorem dL_two_436 : decode cL_two 436 = .ok (.iconst 2, 1) := by decide +kernel
theorem dL_two_437 : decode cL_two 437 = .ok (.bipush 81, 2) := by decide +kernel
theorem dL_two_439 : decode cL_two 439 = .ok (.iconst 0, 1) := by decide +kernel
theorem dL_two_440 : decode cL_two 440 = .ok (.iconst 2, 1) := by decide +kernel
theorem dL_two_441 : decode cL_two 441 = .ok (.invokevirtual 84, 3) := by decide +kernel
theorem dL_two_444 : decode cL_two 444 = .ok (.ifCond .ne 169, 3) := by decide +kernel
theorem dL_two_447 : decode cL_two 447 = .ok (.aload_n 0, 1) := by decide +kernel
theorem dL_two_448 : decode cL_two 448 = .ok (.iconst 1, 1) := by decide +kernel
theorem dL_two_449 : decode cL_two 449 = .ok (.iconst 1, 1) := by decide +kernel
theorem dL_two_450 : decode cL_two 450 = .ok (.bipush 100, 2) := by decide +kernel
theorem dL_two_452 : decode cL_two 452 = .ok (.iconst 0, 1) := by decide +kernel
theorem dL_two_453 : decode cL_two 453 = .ok (.iconst 0, 1) := by decide +kernel
theorem dL_two_454 : decode cL_two 454 = .ok (.invokevirtual 84, 3) := by decide +kernel
theorem dL_two_457 : decode cL_two 457 = .ok (.ifCond .ne 156, 3) := by decide +kernel
theorem dL_two_460 : decode cL_two 460 = .ok (.aload_n 0, 1) := by decide +kernel
theorem dL_two_461 : decode cL_two 461 = .ok (.iconst 0, 1) := by decide +kernel
theorem dL_two_462 : decode cL_two 462 = .ok (.iconst 1, 1) := by decide +kernel
theorem dL_two_463 : decode cL_two 463 = .ok (.bipush 81, 2) := by decide +kernel
theorem dL_two_465 : decode cL_two 465 = .ok (.invokevirtual 88, 3) := by decide +kernel
theorem dL_two_468 : decode cL_two 468 = .ok (.bipush 125, 2) := by decide +kernel
theorem dL_two_470 : decode cL_two 470 = .ok (.if_icmp .ne 143, 3) := by decide +kernel
theorem dL_two_473 : decode cL_two 473 = .ok (.aload_n 0, 1) := by decide +kernel
theorem dL_two_474 : decode cL_two 474 = .ok (.iconst 0, 1) := by decide +kernel
theorem dL_two_475 : decode cL_two 475 = .ok (.iconst 1, 1) := by decide +kernel
theorem dL_two_476 : decode cL_two 476 = .ok (.iconst 0, 1) := by decide +kernel
theorem dL_two_477 : decode cL_two 477 = .ok (.invokevirtual 88, 3) := by decide +kernel
theorem dL_two_480 : decode cL_two 480 = .ok (.ifCond .ne 133, 3) := by decide +kernel
theorem dL_two_483 : decode cL_two 483 = .ok (.aload_n 0, 1) := by decide +kernel
theorem dL_two_484 : decode cL_two 484 = .ok (.iconst 1, 1) := by decide +kernel
theorem dL_two_485 : decode cL_two 485 = .ok (.iconst 0, 1) := by decide +kernel
theorem dL_two_486 : decode cL_two 486 = .ok (.bipush 60, 2) := by decide +kernel
theorem dL_two_488 : decode cL_two 488 = .ok (.invokevirtual 88, 3) := by decide +kernel
theorem dL_two_491 : decode cL_two 491 = .ok (.sipush 150, 3) := by decide +kernel
theorem dL_two_494 : decode cL_two 494 = .ok (.if_icmp .ne 119, 3) := by decide +kernel
theorem dL_two_497 : decode cL_two 497 = .ok (.aload_n 0, 1) := by decide +kernel
theorem dL_two_498 : decode cL_two 498 = .ok (.iconst 1, 1) := by decide +kernel
theorem dL_two_499 : decode cL_two 499 = .ok (.bipush 60, 2) := by decide +kernel
theorem dL_two_501 : decode cL_two 501 = .ok (.invokevirtual 91, 3) := by decide +kernel
theorem dL_two_504 : decode cL_two 504 = .ok (.iconst 2, 1) := by decide +kernel
theorem dL_two_505 : decode cL_two 505 = .ok (.if_icmp .ne 108, 3) := by decide +kernel
theorem dL_two_508 : decode cL_two 508 = .ok (.aload_n 0, 1) := by decide +kernel
theorem dL_two_509 : decode cL_two 509 = .ok (.iconst 0, 1) := by decide +kernel
theorem dL_two_510 : decode cL_two 510 = .ok (.bipush 81, 2) := by decide +kernel
theorem dL_two_512 : decode cL_two 512 = .ok (.invokevirtual 91, 3) := by decide +kernel
theorem dL_two_515 : decode cL_two 515 = .ok (.iconst 2, 1) := by decide +kernel
theorem dL_two_516 : decode cL_two 516 = .ok (.if_icmp .ne 97, 3) := by decide +kernel
theorem dL_two_519 : decode cL_two 519 = .ok (.aload_n 0, 1) := by decide +kernel
theorem dL_two_520 : decode cL_two 520 = .ok (.iconst 1, 1) := by decide +kernel
theorem dL_two_521 : decode cL_two 521 = .ok (.sipush 300, 3) := by decide +kernel
theorem dL_two_524 : decode cL_two 524 = .ok (.invokevirtual 17, 3) := by decide +kernel
theorem dL_two_527 : decode cL_two 527 = .ok (.sipush 200, 3) := by decide +kernel
theorem dL_two_530 : decode cL_two 530 = .ok (.if_icmp .ne 83, 3) := by decide +kernel
theorem dL_two_533 : decode cL_two 533 = .ok (.aload_n 0, 1) := by decide +kernel
theorem dL_two_534 : decode cL_two 534 = .ok (.iconst 1, 1) := by decide +kernel
theorem dL_two_535 : decode cL_two 535 = .ok (.bipush 60, 2) := by decide +kernel
theorem dL_two_537 : decode cL_two 537 = .ok (.invokevirtual 91, 3) := by decide +kernel
theorem dL_two_540 : decode cL_two 540 = .ok (.iconst 1, 1) := by decide +kernel
theorem dL_two_541 : decode cL_two 541 = .ok (.if_icmp .ne 72, 3) := by decide +kernel
theorem dL_two_544 : decode cL_two 544 = .ok (.aload_n 0, 1) := by decide +kernel
theorem dL_two_545 : decode cL_two 545 = .ok (.iconst 1, 1) := by decide +kernel
theorem dL_two_546 : decode cL_two 546 = .ok (.iconst 2, 1) := by decide +kernel
theorem dL_two_547 : decode cL_two 547 = .ok (.sipush 1961, 3) := by decide +kernel
theorem dL_two_550 : decode cL_two 550 = .ok (.iconst 0, 1) := by decide +kernel
theorem dL_two_551 : decode cL_two 551 = .ok (.iconst 0, 1) := by decide +kernel
theorem dL_two_552 : decode cL_two 552 = .ok (.invokevirtual 84, 3) := by decide +kernel
theorem dL_two_555 : decode cL_two 555 = .ok (.iconst 2, 1) := by decide +kernel
theorem dL_two_556 : decode cL_two 556 = .ok (.if_icmp .ne 57, 3) := by decide +kernel
theorem dL_two_559 : decode cL_two 559 = .ok (.aload_n 0, 1) := by decide +kernel
theorem dL_two_560 : decode cL_two 560 = .ok (.iconst 1, 1) := by decide +kernel
theorem dL_two_561 : decode cL_two 561 = .ok (.iconst 2, 1) := by decide +kernel
theorem dL_two_562 : decode cL_two 562 = .ok (.sipush 1960, 3) := by decide +kernel
theorem dL_two_565 : decode cL_two 565 = .ok (.iconst 1, 1) := by decide +kernel
theorem dL_two_566 : decode cL_two 566 = .ok (.iconst 0, 1) := by decide +kernel
theorem dL_two_567 : decode cL_two 567 = .ok (.invokevirtual 84, 3) := by decide +kernel
theorem dL_two_570 : decode cL_two 570 = .ok (.iconst 2, 1) := by decide +kernel
theorem dL_two_571 : decode cL_two 571 = .ok (.if_icmp .ne 42, 3) := by decide +kernel
theorem dL_two_574 : decode cL_two 574 = .ok (.aload_n 0, 1) := by decide +kernel
theorem dL_two_575 : decode cL_two 575 = .ok (.iconst 1, 1) := by decide +kernel
theorem dL_two_576 : decode cL_two 576 = .ok (.iconst 2, 1) := by decide +kernel
theorem dL_two_577 : decode cL_two 577 = .ok (.sipush 1961, 3) := by decide +kernel
theorem dL_two_580 : decode cL_two 580 = .ok (.invokevirtual 88, 3) := by decide +kernel
theorem dL_two_583 : decode cL_two 583 = .ok (.iconst (-1), 1) := by decide +kernel
theorem dL_two_584 : decode cL_two 584 = .ok (.if_icmp .ne 29, 3) := by decide +kernel
theorem dL_two_587 : decode cL_two 587 = .ok (.aload_n 0, 1) := by decide +kernel
theorem dL_two_588 : decode cL_two 588 = .ok (.iconst 1, 1) := by decide +kernel
theorem dL_two_589 : decode cL_two 589 = .ok (.sipush 1961, 3) := by decide +kernel
theorem dL_two_592 : decode cL_two 592 = .ok (.invokevirtual 91, 3) := by decide +kernel
theorem dL_two_595 : decode cL_two 595 = .ok (.iconst (-1), 1) := by decide +kernel
theorem dL_two_596 : decode cL_two 596 = .ok (.if_icmp .ne 17, 3) := by decide +kernel
theorem dL_two_599 : decode cL_two 599 = .ok (.aload_n 0, 1) := by decide +kernel
theorem dL_two_600 : decode cL_two 600 = .ok (.iconst 1, 1) := by decide +kernel
theorem dL_two_601 : decode cL_two 601 = .ok (.iconst 2, 1) := by decide +kernel
theorem dL_two_602 : decode cL_two 602 = .ok (.sipush 1960, 3) := by decide +kernel
theorem dL_two_605 : decode cL_two 605 = .ok (.iconst 0, 1) := by decide +kernel
theorem dL_two_606 : decode cL_two 606 = .ok (.iconst 0, 1) := by decide +kernel
theorem dL_two_607 : decode cL_two 607 = .ok (.invokevirtual 84, 3) := by decide +kernel
theorem dL_two_610 : decode cL_two 610 = .ok (.ifCond .eq 5, 3) := by decide +kernel
theorem dL_two_613 : decode cL_two 613 = .ok (.iconst 0, 1) := by decide +kernel
theorem dL_two_614 : decode cL_two 614 = .ok (.ireturn, 1) := by decide +kernel
theorem dL_two_615 : decode cL_two 615 = .ok (.aload_n 0, 1) := by decide +kernel
theorem dL_two_616 : decode cL_two 616 = .ok (.iconst 0, 1) := by decide +kernel
theorem dL_two_617 : decode cL_two 617 = .ok (.sipush 130, 3) := by decide +kernel
theorem dL_two_620 : decode cL_two 620 = .ok (.sipush 145, 3) := by decide +kernel
theorem dL_two_623 : decode cL_two 623 = .ok (.invokevirtual 34, 3) := by decide +kernel
theorem dL_two_626 : decode cL_two 626 = .ok (.ifCond .ne 148, 3) := by decide +kernel
theorem dL_two_629 : decode cL_two 629 = .ok (.aload_n 0, 1) := by decide +kernel
theorem dL_two_630 : decode cL_two 630 = .ok (.iconst 0, 1) := by decide +kernel
theorem dL_two_631 : decode cL_two 631 = .ok (.sipush 136, 3) := by decide +kernel
theorem dL_two_634 : decode cL_two 634 = .ok (.sipush 300, 3) := by decide +kernel
theorem dL_two_637 : decode cL_two 637 = .ok (.invokevirtual 34, 3) := by decide +kernel
theorem dL_two_640 : decode cL_two 640 = .ok (.iconst 1, 1) := by decide +kernel
theorem dL_two_641 : decode cL_two 641 = .ok (.if_icmp .ne 133, 3) := by decide +kernel
theorem dL_two_644 : decode cL_two 644 = .ok (.aload_n 0, 1) := by decide +kernel
theorem dL_two_645 : decode cL_two 645 = .ok (.iconst 0, 1) := by decide +kernel
theorem dL_two_646 : decode cL_two 646 = .ok (.sipush 135, 3) := by decide +kernel
theorem dL_two_649 : decode cL_two 649 = .ok (.sipush 144, 3) := by decide +kernel
theorem dL_two_652 : decode cL_two 652 = .ok (.invokevirtual 34, 3) := by decide +kernel
theorem dL_two_655 : decode cL_two 655 = .ok (.iconst 2, 1) := by decide +kernel
theorem dL_two_656 : decode cL_two 656 = .ok (.if_icmp .ne 118, 3) := by decide +kernel
theorem dL_two_659 : decode cL_two 659 = .ok (.aload_n 0, 1) := by decide +kernel
theorem dL_two_660 : decode cL_two 660 = .ok (.iconst 0, 1) := by decide +kernel
theorem dL_two_661 : decode cL_two 661 = .ok (.iconst 3, 1) := by decide +kernel
theorem dL_two_662 : decode cL_two 662 = .ok (.invokevirtual 75, 3) := by decide +kernel
theorem dL_two_665 : decode cL_two 665 = .ok (.ifCond .ne 109, 3) := by decide +kernel
theorem dL_two_668 : decode cL_two 668 = .ok (.aload_n 0, 1) := by decide +kernel
theorem dL_two_669 : decode cL_two 669 = .ok (.iconst 1, 1) := by decide +kernel
theorem dL_two_670 : decode cL_two 670 = .ok (.iconst 3, 1) := by decide +kernel
theorem dL_two_671 : decode cL_two 671 = .ok (.invokevirtual 75, 3) := by decide +kernel
theorem dL_two_674 : decode cL_two 674 = .ok (.iconst (-1), 1) := by decide +kernel
theorem dL_two_675 : decode cL_two 675 = .ok (.if_icmp .ne 99, 3) := by decide +kernel
theorem dL_two_678 : decode cL_two 678 = .ok (.aload_n 0, 1) := by decide +kernel
theorem dL_two_679 : decode cL_two 679 = .ok (.iconst 2, 1) := by decide +kernel
theorem dL_two_680 : decode cL_two 680 = .ok (.iconst 3, 1) := by decide +kernel
theorem dL_two_681 : decode cL_two 681 = .ok (.invokevirtual 75, 3) := by decide +kernel
theorem dL_two_684 : decode cL_two 684 = .ok (.iconst (-1), 1) := by decide +kernel
theorem dL_two_685 : decode cL_two 685 = .ok (.if_icmp .ne 89, 3) := by decide +kernel
theorem dL_two_688 : decode cL_two 688 = .ok (.aload_n 0, 1) := by decide +kernel
theorem dL_two_689 : decode cL_two 689 = .ok (.iconst 3, 1) := by decide +kernel
theorem dL_two_690 : decode cL_two 690 = .ok (.invokevirtual 81, 3) := by decide +kernel
theorem dL_two_693 : decode cL_two 693 = .ok (.iconst 1, 1) := by decide +kernel
theorem dL_two_694 : decode cL_two 694 = .ok (.if_icmp .ne 80, 3) := by decide +kernel
theorem dL_two_697 : decode cL_two 697 = .ok (.aload_n 0, 1) := by decide +kernel
theorem dL_two_698 : decode cL_two 698 = .ok (.iconst 0, 1) := by decide +kernel
theorem dL_two_699 : decode cL_two 699 = .ok (.iconst 1, 1) := by decide +kernel
theorem dL_two_700 : decode cL_two 700 = .ok (.bipush 125, 2) := by decide +kernel
theorem dL_two_702 : decode cL_two 702 = .ok (.invokevirtual 94, 3) := by decide +kernel
theorem dL_two_705 : decode cL_two 705 = .ok (.iconst 1, 1) := by decide +kernel
theorem dL_two_706 : decode cL_two 706 = .ok (.if_icmp .ne 68, 3) := by decide +kernel
theorem dL_two_709 : decode cL_two 709 = .ok (.aload_n 0, 1) := by decide +kernel
theorem dL_two_710 : decode cL_two 710 = .ok (.iconst 0, 1) := by decide +kernel
theorem dL_two_711 : decode cL_two 711 = .ok (.iconst 1, 1) := by decide +kernel
theorem dL_two_712 : decode cL_two 712 = .ok (.bipush 120, 2) := by decide +kernel
theorem dL_two_714 : decode cL_two 714 = .ok (.invokevirtual 94, 3) := by decide +kernel
theorem dL_two_717 : decode cL_two 717 = .ok (.iconst (-1), 1) := by decide +kernel
theorem dL_two_718 : decode cL_two 718 = .ok (.if_icmp .ne 56, 3) := by decide +kernel
theorem dL_two_721 : decode cL_two 721 = .ok (.aload_n 0, 1) := by decide +kernel
theorem dL_two_722 : decode cL_two 722 = .ok (.iconst 1, 1) := by decide +kernel
theorem dL_two_723 : decode cL_two 723 = .ok (.iconst 1, 1) := by decide +kernel
theorem dL_two_724 : decode cL_two 724 = .ok (.bipush 125, 2) := by decide +kernel
theorem dL_two_726 : decode cL_two 726 = .ok (.invokevirtual 94, 3) := by decide +kernel
theorem dL_two_729 : decode cL_two 729 = .ok (.ifCond .ne 45, 3) := by decide +kernel
theorem dL_two_732 : decode cL_two 732 = .ok (.aload_n 0, 1) := by decide +kernel
theorem dL_two_733 : decode cL_two 733 = .ok (.iconst 2, 1) := by decide +kernel
theorem dL_two_734 : decode cL_two 734 = .ok (.bipush 9, 2) := by decide +kernel
theorem dL_two_736 : decode cL_two 736 = .ok (.invokevirtual 20, 3) := by decide +kernel
theorem dL_two_739 : decode cL_two 739 = .ok (.bipush 10, 2) := by decide +kernel
theorem dL_two_741 : decode cL_two 741 = .ok (.if_icmp .ne 33, 3) := by decide +kernel
theorem dL_two_744 : decode cL_two 744 = .ok (.aload_n 0, 1) := by decide +kernel
theorem dL_two_745 : decode cL_two 745 = .ok (.iconst 2, 1) := by decide +kernel
theorem dL_two_746 : decode cL_two 746 = .ok (.iconst 3, 1) := by decide +kernel
theorem dL_two_747 : decode cL_two 747 = .ok (.invokevirtual 75, 3) := by decide +kernel
theorem dL_two_750 : decode cL_two 750 = .ok (.ifCond .ne 24, 3) := by decide +kernel
theorem dL_two_753 : decode cL_two 753 = .ok (.aload_n 0, 1) := by decide +kernel
theorem dL_two_754 : decode cL_two 754 = .ok (.iconst 2, 1) := by decide +kernel
theorem dL_two_755 : decode cL_two 755 = .ok (.bipush 10, 2) := by decide +kernel
theorem dL_two_757 : decode cL_two 757 = .ok (.invokevirtual 20, 3) := by decide +kernel
theorem dL_two_760 : decode cL_two 760 = .ok (.bipush 9, 2) := by decide +kernel
theorem dL_two_762 : decode cL_two 762 = .ok (.if_icmp .ne 12, 3) := by decide +kernel
theorem dL_two_765 : decode cL_two 765 = .ok (.aload_n 0, 1) := by decide +kernel
theorem dL_two_766 : decode cL_two 766 = .ok (.iconst 3, 1) := by decide +kernel
theorem dL_two_767 : decode cL_two 767 = .ok (.invokevirtual 81, 3) := by decide +kernel
theorem dL_two_770 : decode cL_two 770 = .ok (.iconst 1, 1) := by decide +kernel
theorem dL_two_771 : decode cL_two 771 = .ok (.if_icmp .eq 5, 3) := by decide +kernel
theorem dL_two_774 : decode cL_two 774 = .ok (.iconst 0, 1) := by decide +kernel
theorem dL_two_775 : decode cL_two 775 = .ok (.ireturn, 1) := by decide +kernel
theorem dL_two_776 : decode cL_two 776 = .ok (.aload_n 0, 1) := by decide +kernel
theorem dL_two_777 : decode cL_two 777 = .ok (.iconst 1, 1) := by decide +kernel
theorem dL_two_778 : decode cL_two 778 = .ok (.iconst 1, 1) := by decide +kernel
theorem dL_two_779 : decode cL_two 779 = .ok (.sipush 140, 3) := by decide +kernel
theorem dL_two_782 : decode cL_two 782 = .ok (.iconst 0, 1) := by decide +kernel
theorem dL_two_783 : decode cL_two 783 = .ok (.invokevirtual 23, 3) := by decide +kernel
theorem dL_two_786 : decode cL_two 786 = .ok (.iconst 1, 1) := by decide +kernel
theorem dL_two_787 : decode cL_two 787 = .ok (.if_icmp .ne 218, 3) := by decide +kernel
theorem dL_two_790 : decode cL_two 790 = .ok (.aload_n 0, 1) := by decide +kernel
theorem dL_two_791 : decode cL_two 791 = .ok (.invokevirtual 147, 3) := by decide +kernel
theorem dL_two_794 : decode cL_two 794 = .ok (.iconst 2, 1) := by decide +kernel
theorem dL_two_795 : decode cL_two 795 = .ok (.if_icmp .ne 210, 3) := by decide +kernel
theorem dL_two_798 : decode cL_two 798 = .ok (.aload_n 0, 1) := by decide +kernel
theorem dL_two_799 : decode cL_two 799 = .ok (.iconst 0, 1) := by decide +kernel
theorem dL_two_800 : decode cL_two 800 = .ok (.iconst 0, 1) := by decide +kernel
theorem dL_two_801 : decode cL_two 801 = .ok (.invokevirtual 38, 3) := by decide +kernel
theorem dL_two_804 : decode cL_two 804 = .ok (.iconst 1, 1) := by decide +kernel
theorem dL_two_805 : decode cL_two 805 = .ok (.if_icmp .ne 200, 3) := by decide +kernel
theorem dL_two_808 : decode cL_two 808 = .ok (.aload_n 0, 1) := by decide +kernel
theorem dL_two_809 : decode cL_two 809 = .ok (.iconst 0, 1) := by decide +kernel
theorem dL_two_810 : decode cL_two 810 = .ok (.iconst 1, 1) := by decide +kernel
theorem dL_two_811 : decode cL_two 811 = .ok (.invokevirtual 38, 3) := by decide +kernel
theorem dL_two_814 : decode cL_two 814 = .ok (.iconst 2, 1) := by decide +kernel
theorem dL_two_815 : decode cL_two 815 = .ok (.if_icmp .ne 190, 3) := by decide +kernel
theorem dL_two_818 : decode cL_two 818 = .ok (.aload_n 0, 1) := by decide +kernel
theorem dL_two_819 : decode cL_two 819 = .ok (.bipush 7, 2) := by decide +kernel
theorem dL_two_821 : decode cL_two 821 = .ok (.iconst 0, 1) := by decide +kernel
theorem dL_two_822 : decode cL_two 822 = .ok (.iconst 1, 1) := by decide +kernel
theorem dL_two_823 : decode cL_two 823 = .ok (.iconst 0, 1) := by decide +kernel
theorem dL_two_824 : decode cL_two 824 = .ok (.lconst 0, 1) := by decide +kernel
theorem dL_two_825 : decode cL_two 825 = .ok (.invokestatic 119, 3) := by decide +kernel
theorem dL_two_828 : decode cL_two 828 = .ok (.bipush (-13), 2) := by decide +kernel
theorem dL_two_830 : decode cL_two 830 = .ok (.if_icmp .ne 175, 3) := by decide +kernel
theorem dL_two_833 : decode cL_two 833 = .ok (.aload_n 0, 1) := by decide +kernel
theorem dL_two_834 : decode cL_two 834 = .ok (.iconst 3, 1) := by decide +kernel
theorem dL_two_835 : decode cL_two 835 = .ok (.bipush 6, 2) := by decide +kernel
theorem dL_two_837 : decode cL_two 837 = .ok (.invokevirtual 20, 3) := by decide +kernel
theorem dL_two_840 : decode cL_two 840 = .ok (.iconst 5, 1) := by decide +kernel
theorem dL_two_841 : decode cL_two 841 = .ok (.if_icmp .ne 164, 3) := by decide +kernel
theorem dL_two_844 : decode cL_two 844 = .ok (.aload_n 0, 1) := by decide +kernel
theorem dL_two_845 : decode cL_two 845 = .ok (.iconst 1, 1) := by decide +kernel
theorem dL_two_846 : decode cL_two 846 = .ok (.iconst 0, 1) := by decide +kernel
theorem dL_two_847 : decode cL_two 847 = .ok (.invokevirtual 38, 3) := by decide +kernel
theorem dL_two_850 : decode cL_two 850 = .ok (.iconst 1, 1) := by decide +kernel
theorem dL_two_851 : decode cL_two 851 = .ok (.if_icmp .ne 154, 3) := by decide +kernel
theorem dL_two_854 : decode cL_two 854 = .ok (.aload_n 0, 1) := by decide +kernel
theorem dL_two_855 : decode cL_two 855 = .ok (.bipush 7, 2) := by decide +kernel
theorem dL_two_857 : decode cL_two 857 = .ok (.iconst 1, 1) := by decide +kernel
theorem dL_two_858 : decode cL_two 858 = .ok (.iconst 1, 1) := by decide +kernel
theorem dL_two_859 : decode cL_two 859 = .ok (.iconst 0, 1) := by decide +kernel
theorem dL_two_860 : decode cL_two 860 = .ok (.lconst 0, 1) := by decide +kernel
theorem dL_two_861 : decode cL_two 861 = .ok (.invokestatic 119, 3) := by decide +kernel
theorem dL_two_864 : decode cL_two 864 = .ok (.bipush (-13), 2) := by decide +kernel
theorem dL_two_866 : decode cL_two 866 = .ok (.if_icmp .ne 139, 3) := by decide +kernel
theorem dL_two_869 : decode cL_two 869 = .ok (.aload_n 0, 1) := by decide +kernel
theorem dL_two_870 : decode cL_two 870 = .ok (.bipush 8, 2) := by decide +kernel
theorem dL_two_872 : decode cL_two 872 = .ok (.iconst 1, 1) := by decide +kernel
theorem dL_two_873 : decode cL_two 873 = .ok (.iconst 1, 1) := by decide +kernel
theorem dL_two_874 : decode cL_two 874 = .ok (.iconst 5, 1) := by decide +kernel
theorem dL_two_875 : decode cL_two 875 = .ok (.lconst 0, 1) := by decide +kernel
theorem dL_two_876 : decode cL_two 876 = .ok (.invokestatic 119, 3) := by decide +kernel
theorem dL_two_879 : decode cL_two 879 = .ok (.bipush (-13), 2) := by decide +kernel
theorem dL_two_881 : decode cL_two 881 = .ok (.if_icmp .ne 124, 3) := by decide +kernel
theorem dL_two_884 : decode cL_two 884 = .ok (.aload_n 0, 1) := by decide +kernel
theorem dL_two_885 : decode cL_two 885 = .ok (.iconst 0, 1) := by decide +kernel
theorem dL_two_886 : decode cL_two 886 = .ok (.iconst 0, 1) := by decide +kernel
theorem dL_two_887 : decode cL_two 887 = .ok (.bipush 7, 2) := by decide +kernel
theorem dL_two_889 : decode cL_two 889 = .ok (.invokevirtual 41, 3) := by decide +kernel
theorem dL_two_892 : decode cL_two 892 = .ok (.ifCond .ne 113, 3) := by decide +kernel
theorem dL_two_895 : decode cL_two 895 = .ok (.aload_n 0, 1) := by decide +kernel
theorem dL_two_896 : decode cL_two 896 = .ok (.iconst 1, 1) := by decide +kernel
theorem dL_two_897 : decode cL_two 897 = .ok (.iconst 0, 1) := by decide +kernel
theorem dL_two_898 : decode cL_two 898 = .ok (.iconst 4, 1) := by decide +kernel
theorem dL_two_899 : decode cL_two 899 = .ok (.invokevirtual 41, 3) := by decide +kernel
theorem dL_two_902 : decode cL_two 902 = .ok (.ifCond .ne 103, 3) := by decide +kernel
theorem dL_two_905 : decode cL_two 905 = .ok (.aload_n 0, 1) := by decide +kernel
theorem dL_two_906 : decode cL_two 906 = .ok (.iconst 0, 1) := by decide +kernel
theorem dL_two_907 : decode cL_two 907 = .ok (.iconst 1, 1) := by decide +kernel
theorem dL_two_908 : decode cL_two 908 = .ok (.bipush 10, 2) := by decide +kernel
theorem dL_two_910 : decode cL_two 910 = .ok (.invokevirtual 41, 3) := by decide +kernel
theorem dL_two_913 : decode cL_two 913 = .ok (.ifCond .ne 92, 3) := by decide +kernel
theorem dL_two_916 : decode cL_two 916 = .ok (.aload_n 0, 1) := by decide +kernel
theorem dL_two_917 : decode cL_two 917 = .ok (.bipush 6, 2) := by decide +kernel
theorem dL_two_919 : decode cL_two 919 = .ok (.invokevirtual 81, 3) := by decide +kernel
theorem dL_two_922 : decode cL_two 922 = .ok (.ifCond .ne 83, 3) := by decide +kernel
theorem dL_two_925 : decode cL_two 925 = .ok (.aload_n 0, 1) := by decide +kernel
theorem dL_two_926 : decode cL_two 926 = .ok (.iconst 0, 1) := by decide +kernel
theorem dL_two_927 : decode cL_two 927 = .ok (.iconst 5, 1) := by decide +kernel
theorem dL_two_928 : decode cL_two 928 = .ok (.invokevirtual 60, 3) := by decide +kernel
theorem dL_two_931 : decode cL_two 931 = .ok (.bipush 11, 2) := by decide +kernel
theorem dL_two_933 : decode cL_two 933 = .ok (.if_icmp .ne 72, 3) := by decide +kernel
theorem dL_two_936 : decode cL_two 936 = .ok (.aload_n 0, 1) := by decide +kernel
theorem dL_two_937 : decode cL_two 937 = .ok (.iconst 0, 1) := by decide +kernel
theorem dL_two_938 : decode cL_two 938 = .ok (.iconst 4, 1) := by decide +kernel
theorem dL_two_939 : decode cL_two 939 = .ok (.invokevirtual 60, 3) := by decide +kernel
theorem dL_two_942 : decode cL_two 942 = .ok (.iconst 3, 1) := by decide +kernel
theorem dL_two_943 : decode cL_two 943 = .ok (.if_icmp .ne 62, 3) := by decide +kernel
theorem dL_two_946 : decode cL_two 946 = .ok (.aload_n 0, 1) := by decide +kernel
theorem dL_two_947 : decode cL_two 947 = .ok (.iconst 1, 1) := by decide +kernel
theorem dL_two_948 : decode cL_two 948 = .ok (.iconst 4, 1) := by decide +kernel
theorem dL_two_949 : decode cL_two 949 = .ok (.invokevirtual 60, 3) := by decide +kernel
theorem dL_two_952 : decode cL_two 952 = .ok (.iconst 1, 1) := by decide +kernel
theorem dL_two_953 : decode cL_two 953 = .ok (.if_icmp .ne 52, 3) := by decide +kernel
theorem dL_two_956 : decode cL_two 956 = .ok (.aload_n 0, 1) := by decide +kernel
theorem dL_two_957 : decode cL_two 957 = .ok (.iconst 0, 1) := by decide +kernel
theorem dL_two_958 : decode cL_two 958 = .ok (.iconst 2, 1) := by decide +kernel
theorem dL_two_959 : decode cL_two 959 = .ok (.invokevirtual 78, 3) := by decide +kernel
theorem dL_two_962 : decode cL_two 962 = .ok (.bipush 17, 2) := by decide +kernel
theorem dL_two_964 : decode cL_two 964 = .ok (.if_icmp .ne 41, 3) := by decide +kernel
theorem dL_two_967 : decode cL_two 967 = .ok (.aload_n 0, 1) := by decide +kernel
theorem dL_two_968 : decode cL_two 968 = .ok (.iconst 0, 1) := by decide +kernel
theorem dL_two_969 : decode cL_two 969 = .ok (.iconst 1, 1) := by decide +kernel
theorem dL_two_970 : decode cL_two 970 = .ok (.invokevirtual 78, 3) := by decide +kernel
theorem dL_two_973 : decode cL_two 973 = .ok (.iconst 3, 1) := by decide +kernel
theorem dL_two_974 : decode cL_two 974 = .ok (.if_icmp .ne 31, 3) := by decide +kernel
theorem dL_two_977 : decode cL_two 977 = .ok (.aload_n 0, 1) := by decide +kernel
theorem dL_two_978 : decode cL_two 978 = .ok (.iconst 0, 1) := by decide +kernel
theorem dL_two_979 : decode cL_two 979 = .ok (.iconst 5, 1) := by decide +kernel
theorem dL_two_980 : decode cL_two 980 = .ok (.invokevirtual 63, 3) := by decide +kernel
theorem dL_two_983 : decode cL_two 983 = .ok (.iconst 3, 1) := by decide +kernel
theorem dL_two_984 : decode cL_two 984 = .ok (.if_icmp .ne 21, 3) := by decide +kernel
theorem dL_two_987 : decode cL_two 987 = .ok (.aload_n 0, 1) := by decide +kernel
theorem dL_two_988 : decode cL_two 988 = .ok (.iconst 4, 1) := by decide +kernel
theorem dL_two_989 : decode cL_two 989 = .ok (.invokevirtual 81, 3) := by decide +kernel
theorem dL_two_992 : decode cL_two 992 = .ok (.sipush 400, 3) := by decide +kernel
theorem dL_two_995 : decode cL_two 995 = .ok (.if_icmp .ne 10, 3) := by decide +kernel
theorem dL_two_998 : decode cL_two 998 = .ok (.aload_n 0, 1) := by decide +kernel
theorem dL_two_999 : decode cL_two 999 = .ok (.invokestatic 143, 3) := by decide +kernel
theorem dL_two_1002 : decode cL_two 1002 = .ok (.ifCond .ne 5, 3) := by decide +kernel
theorem dL_two_1005 : decode cL_two 1005 = .ok (.iconst 0, 1) := by decide +kernel
theorem dL_two_1006 : decode cL_two 1006 = .ok (.ireturn, 1) := by decide +kernel
theorem dL_two_1007 : decode cL_two 1007 = .ok (.aload_n 0, 1) := by decide +kernel
theorem dL_two_1008 : decode cL_two 1008 = .ok (.iconst 5, 1) := by decide +kernel
theorem dL_two_1009 : decode cL_two 1009 = .ok (.iconst 0, 1) := by decide +kernel
theorem dL_two_1010 : decode cL_two 1010 = .ok (.sipush 1990, 3) := by decide +kernel
theorem dL_two_1013 : decode cL_two 1013 = .ok (.iconst 0, 1) := by decide +kernel
theorem dL_two_1014 : decode cL_two 1014 = .ok (.lconst 0, 1) := by decide +kernel
theorem dL_two_1015 : decode cL_two 1015 = .ok (.invokestatic 119, 3) := by decide +kernel
theorem dL_two_1018 : decode cL_two 1018 = .ok (.bipush (-13), 2) := by decide +kernel
theorem dL_two_1020 : decode cL_two 1020 = .ok (.if_icmp .ne 181, 3) := by decide +kernel
theorem dL_two_1023 : decode cL_two 1023 = .ok (.aload_n 0, 1) := by decide +kernel
theorem dL_two_1024 : decode cL_two 1024 = .ok (.iconst 0, 1) := by decide +kernel
theorem dL_two_1025 : decode cL_two 1025 = .ok (.bipush 104, 2) := by decide +kernel
theorem dL_two_1027 : decode cL_two 1027 = .ok (.invokevirtual 31, 3) := by decide +kernel
theorem dL_two_1030 : decode cL_two 1030 = .ok (.iconst 1, 1) := by decide +kernel
theorem dL_two_1031 : decode cL_two 1031 = .ok (.if_icmp .ne 170, 3) := by decide +kernel
theorem dL_two_1034 : decode cL_two 1034 = .ok (.aload_n 0, 1) := by decide +kernel
theorem dL_two_1035 : decode cL_two 1035 = .ok (.iconst 0, 1) := by decide +kernel
theorem dL_two_1036 : decode cL_two 1036 = .ok (.iconst 5, 1) := by decide +kernel
theorem dL_two_1037 : decode cL_two 1037 = .ok (.invokevirtual 63, 3) := by decide +kernel
theorem dL_two_1040 : decode cL_two 1040 = .ok (.iconst 2, 1) := by decide +kernel
theorem dL_two_1041 : decode cL_two 1041 = .ok (.if_icmp .ne 160, 3) := by decide +kernel
theorem dL_two_1044 : decode cL_two 1044 = .ok (.aload_n 0, 1) := by decide +kernel
theorem dL_two_1045 : decode cL_two 1045 = .ok (.bipush 6, 2) := by decide +kernel
theorem dL_two_1047 : decode cL_two 1047 = .ok (.invokevirtual 81, 3) := by decide +kernel
theorem dL_two_1050 : decode cL_two 1050 = .ok (.iconst (-1), 1) := by decide +kernel
theorem dL_two_1051 : decode cL_two 1051 = .ok (.if_icmp .ne 150, 3) := by decide +kernel
theorem dL_two_1054 : decode cL_two 1054 = .ok (.aload_n 0, 1) := by decide +kernel
theorem dL_two_1055 : decode cL_two 1055 = .ok (.iconst 0, 1) := by decide +kernel
theorem dL_two_1056 : decode cL_two 1056 = .ok (.iconst 5, 1) := by decide +kernel
theorem dL_two_1057 : decode cL_two 1057 = .ok (.invokevirtual 60, 3) := by decide +kernel
theorem dL_two_1060 : decode cL_two 1060 = .ok (.iconst 4, 1) := by decide +kernel
theorem dL_two_1061 : decode cL_two 1061 = .ok (.if_icmp .ne 140, 3) := by decide +kernel
theorem dL_two_1064 : decode cL_two 1064 = .ok (.aload_n 0, 1) := by decide +kernel
theorem dL_two_1065 : decode cL_two 1065 = .ok (.iconst 0, 1) := by decide +kernel
theorem dL_two_1066 : decode cL_two 1066 = .ok (.iconst 3, 1) := by decide +kernel
theorem dL_two_1067 : decode cL_two 1067 = .ok (.invokevirtual 75, 3) := by decide +kernel
theorem dL_two_1070 : decode cL_two 1070 = .ok (.iconst (-1), 1) := by decide +kernel
theorem dL_two_1071 : decode cL_two 1071 = .ok (.if_icmp .ne 130, 3) := by decide +kernel
theorem dL_two_1074 : decode cL_two 1074 = .ok (.aload_n 0, 1) := by decide +kernel
theorem dL_two_1075 : decode cL_two 1075 = .ok (.iconst 1, 1) := by decide +kernel
theorem dL_two_1076 : decode cL_two 1076 = .ok (.iconst 3, 1) := by decide +kernel
theorem dL_two_1077 : decode cL_two 1077 = .ok (.invokevirtual 75, 3) := by decide +kernel
theorem dL_two_1080 : decode cL_two 1080 = .ok (.ifCond .ne 121, 3) := by decide +kernel
theorem dL_two_1083 : decode cL_two 1083 = .ok (.aload_n 0, 1) := by decide +kernel
theorem dL_two_1084 : decode cL_two 1084 = .ok (.iconst 0, 1) := by decide +kernel
theorem dL_two_1085 : decode cL_two 1085 = .ok (.bipush 100, 2) := by decide +kernel
theorem dL_two_1087 : decode cL_two 1087 = .ok (.invokevirtual 31, 3) := by decide +kernel
theorem dL_two_1090 : decode cL_two 1090 = .ok (.ifCond .ne 111, 3) := by decide +kernel
theorem dL_two_1093 : decode cL_two 1093 = .ok (.aload_n 0, 1) := by decide +kernel
theorem dL_two_1094 : decode cL_two 1094 = .ok (.iconst 2, 1) := by decide +kernel
theorem dL_two_1095 : decode cL_two 1095 = .ok (.iconst 0, 1) := by decide +kernel
theorem dL_two_1096 : decode cL_two 1096 = .ok (.invokevirtual 38, 3) := by decide +kernel
theorem dL_two_1099 : decode cL_two 1099 = .ok (.iconst 1, 1) := by decide +kernel
theorem dL_two_1100 : decode cL_two 1100 = .ok (.if_icmp .ne 101, 3) := by decide +kernel
theorem dL_two_1103 : decode cL_two 1103 = .ok (.aload_n 0, 1) := by decide +kernel
theorem dL_two_1104 : decode cL_two 1104 = .ok (.bipush 6, 2) := by decide +kernel
theorem dL_two_1106 : decode cL_two 1106 = .ok (.invokevirtual 81, 3) := by decide +kernel
theorem dL_two_1109 : decode cL_two 1109 = .ok (.ifCond .ne 92, 3) := by decide +kernel
theorem dL_two_1112 : decode cL_two 1112 = .ok (.aload_n 0, 1) := by decide +kernel
theorem dL_two_1113 : decode cL_two 1113 = .ok (.iconst 0, 1) := by decide +kernel
theorem dL_two_1114 : decode cL_two 1114 = .ok (.invokevirtual 27, 3) := by decide +kernel
theorem dL_two_1117 : decode cL_two 1117 = .ok (.iconst 2, 1) := by decide +kernel
theorem dL_two_1118 : decode cL_two 1118 = .ok (.if_icmp .ne 83, 3) := by decide +kernel
theorem dL_two_1121 : decode cL_two 1121 = .ok (.aload_n 0, 1) := by decide +kernel
theorem dL_two_1122 : decode cL_two 1122 = .ok (.iconst 5, 1) := by decide +kernel
theorem dL_two_1123 : decode cL_two 1123 = .ok (.invokevirtual 81, 3) := by decide +kernel
theorem dL_two_1126 : decode cL_two 1126 = .ok (.iconst 1, 1) := by decide +kernel
theorem dL_two_1127 : decode cL_two 1127 = .ok (.if_icmp .ne 74, 3) := by decide +kernel
theorem dL_two_1130 : decode cL_two 1130 = .ok (.aload_n 0, 1) := by decide +kernel
theorem dL_two_1131 : decode cL_two 1131 = .ok (.iconst 0, 1) := by decide +kernel
theorem dL_two_1132 : decode cL_two 1132 = .ok (.iconst 0, 1) := by decide +kernel
theorem dL_two_1133 : decode cL_two 1133 = .ok (.invokevirtual 63, 3) := by decide +kernel
theorem dL_two_1136 : decode cL_two 1136 = .ok (.iconst 1, 1) := by decide +kernel
theorem dL_two_1137 : decode cL_two 1137 = .ok (.if_icmp .ne 64, 3) := by decide +kernel
theorem dL_two_1140 : decode cL_two 1140 = .ok (.aload_n 0, 1) := by decide +kernel
theorem dL_two_1141 : decode cL_two 1141 = .ok (.iconst 0, 1) := by decide +kernel
theorem dL_two_1142 : decode cL_two 1142 = .ok (.iconst 5, 1) := by decide +kernel
theorem dL_two_1143 : decode cL_two 1143 = .ok (.invokevirtual 63, 3) := by decide +kernel
theorem dL_two_1146 : decode cL_two 1146 = .ok (.iconst 1, 1) := by decide +kernel
theorem dL_two_1147 : decode cL_two 1147 = .ok (.if_icmp .ne 54, 3) := by decide +kernel
theorem dL_two_1150 : decode cL_two 1150 = .ok (.aload_n 0, 1) := by decide +kernel
theorem dL_two_1151 : decode cL_two 1151 = .ok (.iconst 0, 1) := by decide +kernel
theorem dL_two_1152 : decode cL_two 1152 = .ok (.iconst 5, 1) := by decide +kernel
theorem dL_two_1153 : decode cL_two 1153 = .ok (.invokevirtual 60, 3) := by decide +kernel
theorem dL_two_1156 : decode cL_two 1156 = .ok (.ifCond .ne 45, 3) := by decide +kernel
theorem dL_two_1159 : decode cL_two 1159 = .ok (.aload_n 0, 1) := by decide +kernel
theorem dL_two_1160 : decode cL_two 1160 = .ok (.iconst 3, 1) := by decide +kernel
theorem dL_two_1161 : decode cL_two 1161 = .ok (.invokevirtual 81, 3) := by decide +kernel
theorem dL_two_1164 : decode cL_two 1164 = .ok (.ifCond .ne 37, 3) := by decide +kernel
theorem dL_two_1167 : decode cL_two 1167 = .ok (.aload_n 0, 1) := by decide +kernel
theorem dL_two_1168 : decode cL_two 1168 = .ok (.invokevirtual 54, 3) := by decide +kernel
theorem dL_two_1171 : decode cL_two 1171 = .ok (.iconst 5, 1) := by decide +kernel
theorem dL_two_1172 : decode cL_two 1172 = .ok (.if_icmp .ne 29, 3) := by decide +kernel
theorem dL_two_1175 : decode cL_two 1175 = .ok (.aload_n 0, 1) := by decide +kernel
theorem dL_two_1176 : decode cL_two 1176 = .ok (.iconst 1, 1) := by decide +kernel
theorem dL_two_1177 : decode cL_two 1177 = .ok (.invokevirtual 81, 3) := by decide +kernel
theorem dL_two_1180 : decode cL_two 1180 = .ok (.iconst 2, 1) := by decide +kernel
theorem dL_two_1181 : decode cL_two 1181 = .ok (.if_icmp .ne 20, 3) := by decide +kernel
theorem dL_two_1184 : decode cL_two 1184 = .ok (.aload_n 0, 1) := by decide +kernel
theorem dL_two_1185 : decode cL_two 1185 = .ok (.invokevirtual 57, 3) := by decide +kernel
theorem dL_two_1188 : decode cL_two 1188 = .ok (.iconst 2, 1) := by decide +kernel
theorem dL_two_1189 : decode cL_two 1189 = .ok (.if_icmp .ne 12, 3) := by decide +kernel
theorem dL_two_1192 : decode cL_two 1192 = .ok (.aload_n 0, 1) := by decide +kernel
theorem dL_two_1193 : decode cL_two 1193 = .ok (.iconst 0, 1) := by decide +kernel
theorem dL_two_1194 : decode cL_two 1194 = .ok (.iconst 0, 1) := by decide +kernel
theorem dL_two_1195 : decode cL_two 1195 = .ok (.invokevirtual 78, 3) := by decide +kernel
theorem dL_two_1198 : decode cL_two 1198 = .ok (.ifCond .eq 5, 3) := by decide +kernel
theorem dL_two_1201 : decode cL_two 1201 = .ok (.iconst 0, 1) := by decide +kernel
theorem dL_two_1202 : decode cL_two 1202 = .ok (.ireturn, 1) := by decide +kernel
theorem dL_two_1203 : decode cL_two 1203 = .ok (.aload_n 0, 1) := by decide +kernel
theorem dL_two_1204 : decode cL_two 1204 = .ok (.iconst 0, 1) := by decide +kernel
theorem dL_two_1205 : decode cL_two 1205 = .ok (.iconst 0, 1) := by decide +kernel
theorem dL_two_1206 : decode cL_two 1206 = .ok (.invokevirtual 38, 3) := by decide +kernel
theorem dL_two_1209 : decode cL_two 1209 = .ok (.iconst 1, 1) := by decide +kernel
theorem dL_two_1210 : decode cL_two 1210 = .ok (.if_icmp .ne 36, 3) := by decide +kernel
theorem dL_two_1213 : decode cL_two 1213 = .ok (.aload_n 0, 1) := by decide +kernel
theorem dL_two_1214 : decode cL_two 1214 = .ok (.iconst 0, 1) := by decide +kernel
theorem dL_two_1215 : decode cL_two 1215 = .ok (.iconst 2, 1) := by decide +kernel
theorem dL_two_1216 : decode cL_two 1216 = .ok (.invokevirtual 78, 3) := by decide +kernel
theorem dL_two_1219 : decode cL_two 1219 = .ok (.ifCond .ne 27, 3) := by decide +kernel
theorem dL_two_1222 : decode cL_two 1222 = .ok (.aload_n 0, 1) := by decide +kernel
theorem dL_two_1223 : decode cL_two 1223 = .ok (.iconst 0, 1) := by decide +kernel
theorem dL_two_1224 : decode cL_two 1224 = .ok (.iconst 0, 1) := by decide +kernel
theorem dL_two_1225 : decode cL_two 1225 = .ok (.iconst 3, 1) := by decide +kernel
theorem dL_two_1226 : decode cL_two 1226 = .ok (.invokevirtual 41, 3) := by decide +kernel
theorem dL_two_1229 : decode cL_two 1229 = .ok (.ifCond .ne 17, 3) := by decide +kernel
theorem dL_two_1232 : decode cL_two 1232 = .ok (.aload_n 0, 1) := by decide +kernel
theorem dL_two_1233 : decode cL_two 1233 = .ok (.iconst 0, 1) := by decide +kernel
theorem dL_two_1234 : decode cL_two 1234 = .ok (.iconst 5, 1) := by decide +kernel
theorem dL_two_1235 : decode cL_two 1235 = .ok (.invokevirtual 60, 3) := by decide +kernel
theorem dL_two_1238 : decode cL_two 1238 = .ok (.iconst 3, 1) := by decide +kernel
theorem dL_two_1239 : decode cL_two 1239 = .ok (.if_icmp .ne 7, 3) := by decide +kernel
theorem dL_two_1242 : decode cL_two 1242 = .ok (.iconst 1, 1) := by decide +kernel
theorem dL_two_1243 : decode cL_two 1243 = .ok (.goto 4, 3) := by decide +kernel
theorem dL_two_1246 : decode cL_two 1246 = .ok (.iconst 0, 1) := by decide +kernel
theorem dL_two_1247 : decode cL_two 1247 = .ok (.ireturn, 1) := by decide +kernel
theorem dL_many_0 : decode cL_many 0 = .ok (.new 12, 3) := by decide +kernel
theorem dL_many_3 : decode cL_many 3 = .ok (.dup, 1) := by decide +kernel
theorem dL_many_4 : decode cL_many 4 = .ok (.invokespecial 142, 3) := by decide +kernel
theorem dL_many_7 : decode cL_many 7 = .ok (.astore_n 0, 1) := by decide +kernel
theorem dL_many_8 : decode cL_many 8 = .ok (.iconst 0, 1) := by decide +kernel
theorem dL_many_9 : decode cL_many 9 = .ok (.istore_n 1, 1) := by decide +kernel
theorem dL_many_10 : decode cL_many 10 = .ok (.iload_n 1, 1) := by decide +kernel
theorem dL_many_11 : decode cL_many 11 = .ok (.bipush 8, 2) := by decide +kernel
theorem dL_many_13 : decode cL_many 13 = .ok (.if_icmp .ge 29, 3) := by decide +kernel
theorem dL_many_16 : decode cL_many 16 = .ok (.aload_n 0, 1) := by decide +kernel
theorem dL_many_17 : decode cL_many 17 = .ok (.iconst 1, 1) := by decide +kernel
theorem dL_many_18 : decode cL_many 18 = .ok (.iload_n 1, 1) := by decide +kernel
theorem dL_many_19 : decode cL_many 19 = .ok (.bipush 6, 2) := by decide +kernel
theorem dL_many_21 : decode cL_many 21 = .ok (.irem, 1) := by decide +kernel
theorem dL_many_22 : decode cL_many 22 = .ok (.iadd, 1) := by decide +kernel
theorem dL_many_23 : decode cL_many 23 = .ok (.bipush 10, 2) := by decide +kernel
theorem dL_many_25 : decode cL_many 25 = .ok (.iload_n 1, 1) := by decide +kernel
theorem dL_many_26 : decode cL_many 26 = .ok (.iadd, 1) := by decide +kernel
theorem dL_many_27 : decode cL_many 27 = .ok (.invokevirtual 11, 3) := by decide +kernel
theorem dL_many_30 : decode cL_many 30 = .ok (.iload_n 1, 1) := by decide +kernel
theorem dL_many_31 : decode cL_many 31 = .ok (.if_icmp .eq 5, 3) := by decide +kernel
theorem dL_many_34 : decode cL_many 34 = .ok (.iconst 0, 1) := by decide +kernel
theorem dL_many_35 : decode cL_many 35 = .ok (.ireturn, 1) := by decide +kernel
theorem dL_many_36 : decode cL_many 36 = .ok (.iinc 1 1, 3) := by decide +kernel
theorem dL_many_39 : decode cL_many 39 = .ok (.goto (-29), 3) := by decide +kernel
theorem dL_many_42 : decode cL_many 42 = .ok (.aload_n 0, 1) := by decide +kernel
theorem dL_many_43 : decode cL_many 43 = .ok (.iconst 0, 1) := by decide +kernel
theorem dL_many_44 : decode cL_many 44 = .ok (.iconst 1, 1) := by decide +kernel
theorem dL_many_45 : decode cL_many 45 = .ok (.bipush 10, 2) := by decide +kernel
theorem dL_many_47 : decode cL_many 47 = .ok (.iconst 0, 1) := by decide +kernel
theorem dL_many_48 : decode cL_many 48 = .ok (.lconst 0, 1) := by decide +kernel
theorem dL_many_49 : decode cL_many 49 = .ok (.invokestatic 119, 3) := by decide +kernel
theorem dL_many_52 : decode cL_many 52 = .ok (.bipush (-13), 2) := by decide +kernel
theorem dL_many_54 : decode cL_many 54 = .ok (.if_icmp .ne 25, 3) := by decide +kernel
theorem dL_many_57 : decode cL_many 57 = .ok (.aload_n 0, 1) := by decide +kernel
theorem dL_many_58 : decode cL_many 58 = .ok (.iconst 0, 1) := by decide +kernel
theorem dL_many_59 : decode cL_many 59 = .ok (.iconst 0, 1) := by decide +kernel
theorem dL_many_60 : decode cL_many 60 = .ok (.invokevirtual 20, 3) := by decide +kernel
theorem dL_many_63 : decode cL_many 63 = .ok (.bipush 10, 2) := by decide +kernel
theorem dL_many_65 : decode cL_many 65 = .ok (.if_icmp .ne 14, 3) := by decide +kernel
theorem dL_many_68 : decode cL_many 68 = .ok (.aload_n 0, 1) := by decide +kernel
theorem dL_many_69 : decode cL_many 69 = .ok (.iconst 1, 1) := by decide +kernel
theorem dL_many_70 : decode cL_many 70 = .ok (.iconst 0, 1) := by decide +kernel
theorem dL_many_71 : decode cL_many 71 = .ok (.invokevirtual 20, 3) := by decide +kernel
theorem dL_many_74 : decode cL_many 74 = .ok (.bipush 15, 2) := by decide +kernel
theorem dL_many_76 : decode cL_many 76 = .ok (.if_icmp .eq 5, 3) := by decide +kernel
theorem dL_many_79 : decode cL_many 79 = .ok (.iconst 0, 1) := by decide +kernel
theorem dL_many_80 : decode cL_many 80 = .ok (.ireturn, 1) := by decide +kernel
theorem dL_many_81 : decode cL_many 81 = .ok (.iconst 0, 1) := by decide +kernel
theorem dL_many_82 : decode cL_many 82 = .ok (.istore_n 1, 1) := by decide +kernel
theorem dL_many_83 : decode cL_many 83 = .ok (.iload_n 1, 1) := by decide +kernel
theorem dL_many_84 : decode cL_many 84 = .ok (.bipush 12, 2) := by decide +kernel
theorem dL_many_86 : decode cL_many 86 = .ok (.if_icmp .ge 28, 3) := by decide +kernel
theorem dL_many_89 : decode cL_many 89 = .ok (.aload_n 0, 1) := by decide +kernel
theorem dL_many_90 : decode cL_many 90 = .ok (.iconst 0, 1) := by decide +kernel
theorem dL_many_91 : decode cL_many 91 = .ok (.iload_n 1, 1) := by decide +kernel
theorem dL_many_92 : decode cL_many 92 = .ok (.iconst 3, 1) := by decide +kernel
theorem dL_many_93 : decode cL_many 93 = .ok (.irem, 1) := by decide +kernel
theorem dL_many_94 : decode cL_many 94 = .ok (.bipush 10, 2) := by decide +kernel
theorem dL_many_96 : decode cL_many 96 = .ok (.iload_n 1, 1) := by decide +kernel
theorem dL_many_97 : decode cL_many 97 = .ok (.imul, 1) := by decide +kernel
theorem dL_many_98 : decode cL_many 98 = .ok (.iconst 0, 1) := by decide +kernel
theorem dL_many_99 : decode cL_many 99 = .ok (.invokevirtual 23, 3) := by decide +kernel
theorem dL_many_102 : decode cL_many 102 = .ok (.iload_n 1, 1) := by decide +kernel
theorem dL_many_103 : decode cL_many 103 = .ok (.if_icmp .eq 5, 3) := by decide +kernel
theorem dL_many_106 : decode cL_many 106 = .ok (.iconst 0, 1) := by decide +kernel
theorem dL_many_107 : decode cL_many 107 = .ok (.ireturn, 1) := by decide +kernel
theorem dL_many_108 : decode cL_many 108 = .ok (.iinc 1 1, 3) := by decide +kernel
theorem dL_many_111 : decode cL_many 111 = .ok (.goto (-28), 3) := by decide +kernel
theorem dL_many_114 : decode cL_many 114 = .ok (.aload_n 0, 1) := by decide +kernel
theorem dL_many_115 : decode cL_many 115 = .ok (.bipush 7, 2) := by decide +kernel
theorem dL_many_117 : decode cL_many 117 = .ok (.iconst 2, 1) := by decide +kernel
theorem dL_many_118 : decode cL_many 118 = .ok (.sipush 1999, 3) := by decide +kernel
theorem dL_many_121 : decode cL_many 121 = .ok (.bipush 20, 2) := by decide +kernel
theorem dL_many_123 : decode cL_many 123 = .ok (.iconst 0, 1) := by decide +kernel
theorem dL_many_124 : decode cL_many 124 = .ok (.invokevirtual 84, 3) := by decide +kernel
theorem dL_many_127 : decode cL_many 127 = .ok (.iconst 1, 1) := by decide +kernel
theorem dL_many_128 : decode cL_many 128 = .ok (.if_icmp .ne 136, 3) := by decide +kernel
theorem dL_many_131 : decode cL_many 131 = .ok (.aload_n 0, 1) := by decide +kernel
theorem dL_many_132 : decode cL_many 132 = .ok (.bipush 7, 2) := by decide +kernel
theorem dL_many_134 : decode cL_many 134 = .ok (.iconst 2, 1) := by decide +kernel
theorem dL_many_135 : decode cL_many 135 = .ok (.sipush 1999, 3) := by decide +kernel
theorem dL_many_138 : decode cL_many 138 = .ok (.bipush 20, 2) := by decide +kernel
theorem dL_many_140 : decode cL_many 140 = .ok (.iconst 1, 1) := by decide +kernel
theorem dL_many_141 : decode cL_many 141 = .ok (.invokevirtual 84, 3) := by decide +kernel
theorem dL_many_144 : decode cL_many 144 = .ok (.iconst (-1), 1) := by decide +kernel
theorem dL_many_145 : decode cL_many 145 = .ok (.if_icmp .ne 119, 3) := by decide +kernel
theorem dL_many_148 : decode cL_many 148 = .ok (.aload_n 0, 1) := by decide +kernel
theorem dL_many_149 : decode cL_many 149 = .ok (.iconst 0, 1) := by decide +kernel
theorem dL_many_150 : decode cL_many 150 = .ok (.iconst 0, 1) := by decide +kernel
theorem dL_many_151 : decode cL_many 151 = .ok (.iconst 0, 1) := by decide +kernel
theorem dL_many_152 : decode cL_many 152 = .ok (.invokevirtual 88, 3) := by decide +kernel
theorem dL_many_155 : decode cL_many 155 = .ok (.iconst (-1), 1) := by decide +kernel
theorem dL_many_156 : decode cL_many 156 = .ok (.if_icmp .ne 108, 3) := by decide +kernel
theorem dL_many_159 : decode cL_many 159 = .ok (.aload_n 0, 1) := by decide +kernel
theorem dL_many_160 : decode cL_many 160 = .ok (.iconst 0, 1) := by decide +kernel
theorem dL_many_161 : decode cL_many 161 = .ok (.iconst 0, 1) := by decide +kernel
theorem dL_many_162 : decode cL_many 162 = .ok (.invokevirtual 91, 3) := by decide +kernel
theorem dL_many_165 : decode cL_many 165 = .ok (.iconst (-1), 1) := by decide +kernel
theorem dL_many_166 : decode cL_many 166 = .ok (.if_icmp .ne 98, 3) := by decide +kernel
theorem dL_many_169 : decode cL_many 169 = .ok (.aload_n 0, 1) := by decide +kernel
theorem dL_many_170 : decode cL_many 170 = .ok (.iconst 3, 1) := by decide +kernel
theorem dL_many_171 : decode cL_many 171 = .ok (.iconst 0, 1) := by decide +kernel
theorem dL_many_172 : decode cL_many 172 = .ok (.iconst 0, 1) := by decide +kernel
theorem dL_many_173 : decode cL_many 173 = .ok (.sipush 500, 3) := by decide +kernel
theorem dL_many_176 : decode cL_many 176 = .ok (.ldc2_w 123, 3) := by decide +kernel
theorem dL_many_179 : decode cL_many 179 = .ok (.invokestatic 119, 3) := by decide +kernel
theorem dL_many_182 : decode cL_many 182 = .ok (.bipush (-13), 2) := by decide +kernel
theorem dL_many_184 : decode cL_many 184 = .ok (.if_icmp .ne 80, 3) := by decide +kernel
theorem dL_many_187 : decode cL_many 187 = .ok (.aload_n 0, 1) := by decide +kernel
theorem dL_many_188 : decode cL_many 188 = .ok (.iconst 1, 1) := by decide +kernel
theorem dL_many_189 : decode cL_many 189 = .ok (.iconst 1, 1) := by decide +kernel
theorem dL_many_190 : decode cL_many 190 = .ok (.invokevirtual 72, 3) := by decide +kernel
theorem dL_many_193 : decode cL_many 193 = .ok (.iconst 4, 1) := by decide +kernel
theorem dL_many_194 : decode cL_many 194 = .ok (.if_icmp .ne 70, 3) := by decide +kernel
theorem dL_many_197 : decode cL_many 197 = .ok (.aload_n 0, 1) := by decide +kernel
theorem dL_many_198 : decode cL_many 198 = .ok (.iconst 1, 1) := by decide +kernel
theorem dL_many_199 : decode cL_many 199 = .ok (.iconst 2, 1) := by decide +kernel
theorem dL_many_200 : decode cL_many 200 = .ok (.invokevirtual 72, 3) := by decide +kernel
theorem dL_many_203 : decode cL_many 203 = .ok (.bipush 40, 2) := by decide +kernel
theorem dL_many_205 : decode cL_many 205 = .ok (.if_icmp .ne 59, 3) := by decide +kernel
theorem dL_many_208 : decode cL_many 208 = .ok (.aload_n 0, 1) := by decide +kernel
theorem dL_many_209 : decode cL_many 209 = .ok (.iconst 1, 1) := by decide +kernel
theorem dL_many_210 : decode cL_many 210 = .ok (.iconst 3, 1) := by decide +kernel
theorem dL_many_211 : decode cL_many 211 = .ok (.invokevirtual 72, 3) := by decide +kernel
theorem dL_many_214 : decode cL_many 214 = .ok (.bipush 40, 2) := by decide +kernel
theorem dL_many_216 : decode cL_many 216 = .ok (.if_icmp .ne 48, 3) := by decide +kernel
theorem dL_many_219 : decode cL_many 219 = .ok (.aload_n 0, 1) := by decide +kernel
theorem dL_many_220 : decode cL_many 220 = .ok (.iconst 1, 1) := by decide +kernel
theorem dL_many_221 : decode cL_many 221 = .ok (.iconst 4, 1) := by decide +kernel
theorem dL_many_222 : decode cL_many 222 = .ok (.invokevirtual 72, 3) := by decide +kernel
theorem dL_many_225 : decode cL_many 225 = .ok (.bipush 110, 2) := by decide +kernel
theorem dL_many_227 : decode cL_many 227 = .ok (.if_icmp .ne 37, 3) := by decide +kernel
theorem dL_many_230 : decode cL_many 230 = .ok (.aload_n 0, 1) := by decide +kernel
theorem dL_many_231 : decode cL_many 231 = .ok (.iconst 0, 1) := by decide +kernel
theorem dL_many_232 : decode cL_many 232 = .ok (.iconst 2, 1) := by decide +kernel
theorem dL_many_233 : decode cL_many 233 = .ok (.invokevirtual 60, 3) := by decide +kernel
theorem dL_many_236 : decode cL_many 236 = .ok (.bipush 12, 2) := by decide +kernel
theorem dL_many_238 : decode cL_many 238 = .ok (.if_icmp .ne 26, 3) := by decide +kernel
theorem dL_many_241 : decode cL_many 241 = .ok (.aload_n 0, 1) := by decide +kernel
theorem dL_many_242 : decode cL_many 242 = .ok (.iconst 0, 1) := by decide +kernel
theorem dL_many_243 : decode cL_many 243 = .ok (.iconst 3, 1) := by decide +kernel
theorem dL_many_244 : decode cL_many 244 = .ok (.invokevirtual 60, 3) := by decide +kernel
theorem dL_many_247 : decode cL_many 247 = .ok (.sipush 2400, 3) := by decide +kernel
theorem dL_many_250 : decode cL_many 250 = .ok (.if_icmp .ne 14, 3) := by decide +kernel
theorem dL_many_253 : decode cL_many 253 = .ok (.aload_n 0, 1) := by decide +kernel
theorem dL_many_254 : decode cL_many 254 = .ok (.iconst 4, 1) := by decide +kernel
theorem dL_many_255 : decode cL_many 255 = .ok (.invokevirtual 81, 3) := by decide +kernel
theorem dL_many_258 : decode cL_many 258 = .ok (.sipush 2400, 3) := by decide +kernel
theorem dL_many_261 : decode cL_many 261 = .ok (.if_icmp .eq 5, 3) := by decide +kernel
theorem dL_many_264 : decode cL_many 264 = .ok (.iconst 0, 1) := by decide +kernel
theorem dL_many_265 : decode cL_many 265 = .ok (.ireturn, 1) := by decide +kernel
theorem dL_many_266 : decode cL_many 266 = .ok (.aload_n 0, 1) := by decide +kernel
theorem dL_many_267 : decode cL_many 267 = .ok (.iconst 5, 1) := by decide +kernel
theorem dL_many_268 : decode cL_many 268 = .ok (.iconst 4, 1) := by decide +kernel
theorem dL_many_269 : decode cL_many 269 = .ok (.bipush 41, 2) := by decide +kernel
theorem dL_many_271 : decode cL_many 271 = .ok (.iconst 0, 1) := by decide +kernel
theorem dL_many_272 : decode cL_many 272 = .ok (.lconst 0, 1) := by decide +kernel
theorem dL_many_273 : decode cL_many 273 = .ok (.invokestatic 119, 3) := by decide +kernel
theorem dL_many_276 : decode cL_many 276 = .ok (.bipush (-13), 2) := by decide +kernel
theorem dL_many_278 : decode cL_many 278 = .ok (.if_icmp .ne 113, 3) := by decide +kernel
theorem dL_many_281 : decode cL_many 281 = .ok (.aload_n 0, 1) := by decide +kernel
theorem dL_many_282 : decode cL_many 282 = .ok (.iconst 5, 1) := by decide +kernel
theorem dL_many_283 : decode cL_many 283 = .ok (.iconst 4, 1) := by decide +kernel
theorem dL_many_284 : decode cL_many 284 = .ok (.bipush 39, 2) := by decide +kernel
theorem dL_many_286 : decode cL_many 286 = .ok (.iconst 0, 1) := by decide +kernel
theorem dL_many_287 : decode cL_many 287 = .ok (.lconst 0, 1) := by decide +kernel
theorem dL_many_288 : decode cL_many 288 = .ok (.invokestatic 119, 3) := by decide +kernel
theorem dL_many_291 : decode cL_many 291 = .ok (.bipush (-13), 2) := by decide +kernel
theorem dL_many_293 : decode cL_many 293 = .ok (.if_icmp .ne 98, 3) := by decide +kernel
theorem dL_many_296 : decode cL_many 296 = .ok (.aload_n 0, 1) := by decide +kernel
theorem dL_many_297 : decode cL_many 297 = .ok (.iconst 4, 1) := by decide +kernel
theorem dL_many_298 : decode cL_many 298 = .ok (.bipush 40, 2) := by decide +kernel
theorem dL_many_300 : decode cL_many 300 = .ok (.invokevirtual 31, 3) := by decide +kernel
theorem dL_many_303 : decode cL_many 303 = .ok (.ifCond .ne 88, 3) := by decide +kernel
theorem dL_many_306 : decode cL_many 306 = .ok (.aload_n 0, 1) := by decide +kernel
theorem dL_many_307 : decode cL_many 307 = .ok (.bipush 11, 2) := by decide +kernel
theorem dL_many_309 : decode cL_many 309 = .ok (.sipush 1990, 3) := by decide +kernel
theorem dL_many_312 : decode cL_many 312 = .ok (.invokevirtual 31, 3) := by decide +kernel
theorem dL_many_315 : decode cL_many 315 = .ok (.ifCond .ne 76, 3) := by decide +kernel
theorem dL_many_318 : decode cL_many 318 = .ok (.aload_n 0, 1) := by decide +kernel
theorem dL_many_319 : decode cL_many 319 = .ok (.iconst 0, 1) := by decide +kernel
theorem dL_many_320 : decode cL_many 320 = .ok (.invokevirtual 27, 3) := by decide +kernel
theorem dL_many_323 : decode cL_many 323 = .ok (.ifCond .ne 68, 3) := by decide +kernel
theorem dL_many_326 : decode cL_many 326 = .ok (.aload_n 0, 1) := by decide +kernel
theorem dL_many_327 : decode cL_many 327 = .ok (.iconst 1, 1) := by decide +kernel
theorem dL_many_328 : decode cL_many 328 = .ok (.invokevirtual 81, 3) := by decide +kernel
theorem dL_many_331 : decode cL_many 331 = .ok (.bipush 11, 2) := by decide +kernel
theorem dL_many_333 : decode cL_many 333 = .ok (.if_icmp .ne 58, 3) := by decide +kernel
theorem dL_many_336 : decode cL_many 336 = .ok (.aload_n 0, 1) := by decide +kernel
theorem dL_many_337 : decode cL_many 337 = .ok (.iconst 0, 1) := by decide +kernel
theorem dL_many_338 : decode cL_many 338 = .ok (.iconst 0, 1) := by decide +kernel
theorem dL_many_339 : decode cL_many 339 = .ok (.invokevirtual 31, 3) := by decide +kernel
theorem dL_many_342 : decode cL_many 342 = .ok (.ifCond .ne 49, 3) := by decide +kernel
theorem dL_many_345 : decode cL_many 345 = .ok (.aload_n 0, 1) := by decide +kernel
theorem dL_many_346 : decode cL_many 346 = .ok (.iconst 0, 1) := by decide +kernel
theorem dL_many_347 : decode cL_many 347 = .ok (.iconst 2, 1) := by decide +kernel
theorem dL_many_348 : decode cL_many 348 = .ok (.invokevirtual 63, 3) := by decide +kernel
theorem dL_many_351 : decode cL_many 351 = .ok (.ifCond .ne 40, 3) := by decide +kernel
theorem dL_many_354 : decode cL_many 354 = .ok (.aload_n 0, 1) := by decide +kernel
theorem dL_many_355 : decode cL_many 355 = .ok (.iconst 0, 1) := by decide +kernel
theorem dL_many_356 : decode cL_many 356 = .ok (.iconst 0, 1) := by decide +kernel
theorem dL_many_357 : decode cL_many 357 = .ok (.iconst 0, 1) := by decide +kernel
theorem dL_many_358 : decode cL_many 358 = .ok (.invokevirtual 88, 3) := by decide +kernel
theorem dL_many_361 : decode cL_many 361 = .ok (.bipush 10, 2) := by decide +kernel
theorem dL_many_363 : decode cL_many 363 = .ok (.if_icmp .ne 28, 3) := by decide +kernel
theorem dL_many_366 : decode cL_many 366 = .ok (.aload_n 0, 1) := by decide +kernel
theorem dL_many_367 : decode cL_many 367 = .ok (.iconst 0, 1) := by decide +kernel
theorem dL_many_368 : decode cL_many 368 = .ok (.iconst 0, 1) := by decide +kernel
theorem dL_many_369 : decode cL_many 369 = .ok (.iconst 0, 1) := by decide +kernel
theorem dL_many_370 : decode cL_many 370 = .ok (.iconst 0, 1) := by decide +kernel
theorem dL_many_371 : decode cL_many 371 = .ok (.iconst 0, 1) := by decide +kernel
theorem dL_many_372 : decode cL_many 372 = .ok (.invokevirtual 84, 3) := by decide +kernel
theorem dL_many_375 : decode cL_many 375 = .ok (.iconst 4, 1) := by decide +kernel
theorem dL_many_376 : decode cL_many 376 = .ok (.if_icmp .ne 15, 3) := by decide +kernel
theorem dL_many_379 : decode cL_many 379 = .ok (.aload_n 0, 1) := by decide +kernel
theorem dL_many_380 : decode cL_many 380 = .ok (.iconst 0, 1) := by decide +kernel
theorem dL_many_381 : decode cL_many 381 = .ok (.iconst 0, 1) := by decide +kernel
theorem dL_many_382 : decode cL_many 382 = .ok (.iconst 0, 1) := by decide +kernel
theorem dL_many_383 : decode cL_many 383 = .ok (.iconst 0, 1) := by decide +kernel
theorem dL_many_384 : decode cL_many 384 = .ok (.iconst 1, 1) := by decide +kernel
theorem dL_many_385 : decode cL_many 385 = .ok (.invokevirtual 84, 3) := by decide +kernel
theorem dL_many_388 : decode cL_many 388 = .ok (.ifCond .eq 5, 3) := by decide +kernel
theorem dL_many_391 : decode cL_many 391 = .ok (.iconst 0, 1) := by decide +kernel
theorem dL_many_392 : decode cL_many 392 = .ok (.ireturn, 1) := by decide +kernel
theorem dL_many_393 : decode cL_many 393 = .ok (.aload_n 0, 1) := by decide +kernel
theorem dL_many_394 : decode cL_many 394 = .ok (.iconst 0, 1) := by decide +kernel
theorem dL_many_395 : decode cL_many 395 = .ok (.bipush 60, 2) := by decide +kernel
theorem dL_many_397 : decode cL_many 397 = .ok (.invokevirtual 20, 3) := by decide +kernel
theorem dL_many_400 : decode cL_many 400 = .ok (.ifCond .ne 131, 3) := by decide +kernel
theorem dL_many_403 : decode cL_many 403 = .ok (.aload_n 0, 1) := by decide +kernel
theorem dL_many_404 : decode cL_many 404 = .ok (.iconst 0, 1) := by decide +kernel
theorem dL_many_405 : decode cL_many 405 = .ok (.iconst 2, 1) := by decide +kernel
theorem dL_many_406 : decode cL_many 406 = .ok (.sipush 500, 3) := by decide +kernel
theorem dL_many_409 : decode cL_many 409 = .ok (.bipush 20, 2) := by decide +kernel
theorem dL_many_411 : decode cL_many 411 = .ok (.iconst 0, 1) := by decide +kernel
theorem dL_many_412 : decode cL_many 412 = .ok (.invokevirtual 84, 3) := by decide +kernel
theorem dL_many_415 : decode cL_many 415 = .ok (.ifCond .ne 116, 3) := by decide +kernel
theorem dL_many_418 : decode cL_many 418 = .ok (.aload_n 0, 1) := by decide +kernel
theorem dL_many_419 : decode cL_many 419 = .ok (.iconst 0, 1) := by decide +kernel
theorem dL_many_420 : decode cL_many 420 = .ok (.iconst 1, 1) := by decide +kernel
theorem dL_many_421 : decode cL_many 421 = .ok (.iconst 0, 1) := by decide +kernel
theorem dL_many_422 : decode cL_many 422 = .ok (.invokevirtual 88, 3) := by decide +kernel
theorem dL_many_425 : decode cL_many 425 = .ok (.sipush 160, 3) := by decide +kernel
theorem dL_many_428 : decode cL_many 428 = .ok (.if_icmp .ne 103, 3) := by decide +kernel
theorem dL_many_431 : decode cL_many 431 = .ok (.aload_n 0, 1) := by decide +kernel
theorem dL_many_432 : decode cL_many 432 = .ok (.iconst 0, 1) := by decide +kernel
theorem dL_many_433 : decode cL_many 433 = .ok (.iconst 1, 1) := by decide +kernel
theorem dL_many_434 : decode cL_many 434 = .ok (.sipush 160, 3) := by decide +kernel
theorem dL_many_437 : decode cL_many 437 = .ok (.bipush 20, 2) := by decide +kernel
theorem dL_many_439 : decode cL_many 439 = .ok (.invokevirtual 23, 3) := by decide +kernel
theorem dL_many_442 : decode cL_many 442 = .ok (.bipush 11, 2) := by decide +kernel
theorem dL_many_444 : decode cL_many 444 = .ok (.if_icmp .ne 87, 3) := by decide +kernel
theorem dL_many_447 : decode cL_many 447 = .ok (.aload_n 0, 1) := by decide +kernel
theorem dL_many_448 : decode cL_many 448 = .ok (.bipush 11, 2) := by decide +kernel
theorem dL_many_450 : decode cL_many 450 = .ok (.iconst 3, 1) := by decide +kernel
theorem dL_many_451 : decode cL_many 451 = .ok (.invokevirtual 63, 3) := by decide +kernel
theorem dL_many_454 : decode cL_many 454 = .ok (.sipush 190, 3) := by decide +kernel
theorem dL_many_457 : decode cL_many 457 = .ok (.if_icmp .ne 74, 3) := by decide +kernel
theorem dL_many_460 : decode cL_many 460 = .ok (.aload_n 0, 1) := by decide +kernel
theorem dL_many_461 : decode cL_many 461 = .ok (.iconst 1, 1) := by decide +kernel
theorem dL_many_462 : decode cL_many 462 = .ok (.bipush 60, 2) := by decide +kernel
theorem dL_many_464 : decode cL_many 464 = .ok (.invokevirtual 20, 3) := by decide +kernel
theorem dL_many_467 : decode cL_many 467 = .ok (.ifCond .ne 64, 3) := by decide +kernel
theorem dL_many_470 : decode cL_many 470 = .ok (.aload_n 0, 1) := by decide +kernel
theorem dL_many_471 : decode cL_many 471 = .ok (.iconst 0, 1) := by decide +kernel
theorem dL_many_472 : decode cL_many 472 = .ok (.sipush 1999, 3) := by decide +kernel
theorem dL_many_475 : decode cL_many 475 = .ok (.sipush 2000, 3) := by decide +kernel
theorem dL_many_478 : decode cL_many 478 = .ok (.invokevirtual 34, 3) := by decide +kernel
theorem dL_many_481 : decode cL_many 481 = .ok (.ifCond .ne 50, 3) := by decide +kernel
theorem dL_many_484 : decode cL_many 484 = .ok (.aload_n 0, 1) := by decide +kernel
theorem dL_many_485 : decode cL_many 485 = .ok (.iconst 2, 1) := by decide +kernel
theorem dL_many_486 : decode cL_many 486 = .ok (.iconst 0, 1) := by decide +kernel
theorem dL_many_487 : decode cL_many 487 = .ok (.invokevirtual 20, 3) := by decide +kernel
theorem dL_many_490 : decode cL_many 490 = .ok (.bipush 10, 2) := by decide +kernel
theorem dL_many_492 : decode cL_many 492 = .ok (.if_icmp .ne 39, 3) := by decide +kernel
theorem dL_many_495 : decode cL_many 495 = .ok (.aload_n 0, 1) := by decide +kernel
theorem dL_many_496 : decode cL_many 496 = .ok (.iconst 0, 1) := by decide +kernel
theorem dL_many_497 : decode cL_many 497 = .ok (.iconst 3, 1) := by decide +kernel
theorem dL_many_498 : decode cL_many 498 = .ok (.invokevirtual 75, 3) := by decide +kernel
theorem dL_many_501 : decode cL_many 501 = .ok (.bipush 10, 2) := by decide +kernel
theorem dL_many_503 : decode cL_many 503 = .ok (.if_icmp .ne 28, 3) := by decide +kernel
theorem dL_many_506 : decode cL_many 506 = .ok (.aload_n 0, 1) := by decide +kernel
theorem dL_many_507 : decode cL_many 507 = .ok (.iconst 0, 1) := by decide +kernel
theorem dL_many_508 : decode cL_many 508 = .ok (.iconst 0, 1) := by decide +kernel
theorem dL_many_509 : decode cL_many 509 = .ok (.bipush 20, 2) := by decide +kernel
theorem dL_many_511 : decode cL_many 511 = .ok (.invokevirtual 34, 3) := by decide +kernel
theorem dL_many_514 : decode cL_many 514 = .ok (.iconst 1, 1) := by decide +kernel
theorem dL_many_515 : decode cL_many 515 = .ok (.if_icmp .ne 16, 3) := by decide +kernel
theorem dL_many_518 : decode cL_many 518 = .ok (.aload_n 0, 1) := by decide +kernel
theorem dL_many_519 : decode cL_many 519 = .ok (.iconst 1, 1) := by decide +kernel
theorem dL_many_520 : decode cL_many 520 = .ok (.iconst 3, 1) := by decide +kernel
theorem dL_many_521 : decode cL_many 521 = .ok (.invokevirtual 75, 3) := by decide +kernel
theorem dL_many_524 : decode cL_many 524 = .ok (.ifCond .ne 7, 3) := by decide +kernel
theorem dL_many_527 : decode cL_many 527 = .ok (.iconst 1, 1) := by decide +kernel
theorem dL_many_528 : decode cL_many 528 = .ok (.goto 4, 3) := by decide +kernel
theorem dL_many_531 : decode cL_many 531 = .ok (.iconst 0, 1) := by decide +kernel
theorem dL_many_532 : decode cL_many 532 = .ok (.ireturn, 1) := by decide +kernel
theorem dL_types_0 : decode cL_types 0 = .ok (.iconst 1, 1) := by decide +kernel
theorem dL_types_1 : decode cL_types 1 = .ok (.istore_n 3, 1) := by decide +kernel
theorem dL_types_2 : decode cL_types 2 = .ok (.bipush 56, 2) := by decide +kernel
theorem dL_types_4 : decode cL_types 4 = .ok (.istore 4, 2) := by decide +kernel
theorem dL_types_6 : decode cL_types 6 = .ok (.iload 4, 2) := by decide +kernel
theorem dL_types_8 : decode cL_types 8 = .ok (.ifCond .lt 44, 3) := by decide +kernel
theorem dL_types_11 : decode cL_types 11 = .ok (.lload_n 1, 1) := by decide +kernel
theorem dL_types_12 : decode cL_types 12 = .ok (.iload 4, 2) := by decide +kernel
theorem dL_types_14 : decode cL_types 14 = .ok (.lshr, 1) := by decide +kernel
theorem dL_types_15 : decode cL_types 15 = .ok (.ldc2_w 150, 3) := by decide +kernel
theorem dL_types_18 : decode cL_types 18 = .ok (.land, 1) := by decide +kernel
theorem dL_types_19 : decode cL_types 19 = .ok (.l2i, 1) := by decide +kernel
theorem dL_types_20 : decode cL_types 20 = .ok (.istore 5, 2) := by decide +kernel
theorem dL_types_22 : decode cL_types 22 = .ok (.iload_n 3, 1) := by decide +kernel
theorem dL_types_23 : decode cL_types 23 = .ok (.ifCond .eq 21, 3) := by decide +kernel
theorem dL_types_26 : decode cL_types 26 = .ok (.iload 5, 2) := by decide +kernel
theorem dL_types_28 : decode cL_types 28 = .ok (.ifCond .eq 12, 3) := by decide +kernel
theorem dL_types_31 : decode cL_types 31 = .ok (.aload_n 0, 1) := by decide +kernel
theorem dL_types_32 : decode cL_types 32 = .ok (.iload 5, 2) := by decide +kernel
theorem dL_types_34 : decode cL_types 34 = .ok (.invokevirtual 44, 3) := by decide +kernel
theorem dL_types_37 : decode cL_types 37 = .ok (.ifCond .le 7, 3) := by decide +kernel
theorem dL_types_40 : decode cL_types 40 = .ok (.iconst 1, 1) := by decide +kernel
theorem dL_types_41 : decode cL_types 41 = .ok (.goto 4, 3) := by decide +kernel
theorem dL_types_44 : decode cL_types 44 = .ok (.iconst 0, 1) := by decide +kernel
theorem dL_types_45 : decode cL_types 45 = .ok (.istore_n 3, 1) := by decide +kernel
theorem dL_types_46 : decode cL_types 46 = .ok (.iinc 4 (-8), 3) := by decide +kernel
theorem dL_types_49 : decode cL_types 49 = .ok (.goto (-43), 3) := by decide +kernel
theorem dL_types_52 : decode cL_types 52 = .ok (.iload_n 3, 1) := by decide +kernel
theorem dL_types_53 : decode cL_types 53 = .ok (.ireturn, 1) := by decide +kernel
theorem dL_isError_0 : decode cL_isError 0 = .ok (.aload_n 0, 1) := by decide +kernel
theorem dL_isError_1 : decode cL_isError 1 = .ok (.invokevirtual 152, 3) := by decide +kernel
theorem dL_isError_4 : decode cL_isError 4 = .ok (.ifCond .lt 32, 3) := by decide +kernel
theorem dL_isError_7 : decode cL_isError 7 = .ok (.aload_n 0, 1) := by decide +kernel
theorem dL_isError_8 : decode cL_isError 8 = .ok (.lload_n 1, 1) := by decide +kernel
theorem dL_isError_9 : decode cL_isError 9 = .ok (.invokestatic 155, 3) := by decide +kernel
theorem dL_isError_12 : decode cL_isError 12 = .ok (.ifCond .eq 24, 3) := by decide +kernel
theorem dL_isError_15 : decode cL_isError 15 = .ok (.aload_n 0, 1) := by decide +kernel
theorem dL_isError_16 : decode cL_isError 16 = .ok (.lload_n 3, 1) := by decide +kernel
theorem dL_isError_17 : decode cL_isError 17 = .ok (.invokestatic 155, 3) := by decide +kernel
theorem dL_isError_20 : decode cL_isError 20 = .ok (.ifCond .eq 16, 3) := by decide +kernel
theorem dL_isError_23 : decode cL_isError 23 = .ok (.aload_n 0, 1) := by decide +kernel
theorem dL_isError_24 : decode cL_isError 24 = .ok (.invokevirtual 159, 3) := by decide +kernel
theorem dL_isError_27 : decode cL_isError 27 = .ok (.iload 5, 2) := by decide +kernel
theorem dL_isError_29 : decode cL_isError 29 = .ok (.if_icmp .ne 7, 3) := by decide +kernel
theorem dL_isError_32 : decode cL_isError 32 = .ok (.iconst 1, 1) := by decide +kernel
theorem dL_isError_33 : decode cL_isError 33 = .ok (.goto 4, 3) := by decide +kernel
theorem dL_isError_36 : decode cL_isError 36 = .ok (.iconst 0, 1) := by decide +kernel
theorem dL_isError_37 : decode cL_isError 37 = .ok (.ireturn, 1) := by decide +kernel
theorem dL_texts_0 : decode cL_texts 0 = .ok (.new 12, 3) := by decide +kernel
theorem dL_texts_3 : decode cL_texts 3 = .ok (.dup, 1) := by decide +kernel
theorem dL_texts_4 : decode cL_texts 4 = .ok (.invokespecial 142, 3) := by decide +kernel
theorem dL_texts_7 : decode cL_texts 7 = .ok (.astore_n 0, 1) := by decide +kernel
theorem dL_texts_8 : decode cL_texts 8 = .ok (.aload_n 0, 1) := by decide +kernel
theorem dL_texts_9 : decode cL_texts 9 = .ok (.ldc2_w 162, 3) := by decide +kernel
theorem dL_texts_12 : decode cL_texts 12 = .ok (.lconst 0, 1) := by decide +kernel
theorem dL_texts_13 : decode cL_texts 13 = .ok (.iconst 0, 1) := by decide +kernel
theorem dL_texts_14 : decode cL_texts 14 = .ok (.invokestatic 164, 3) := by decide +kernel
theorem dL_texts_17 : decode cL_texts 17 = .ok (.ifCond .eq 116, 3) := by decide +kernel
theorem dL_texts_20 : decode cL_texts 20 = .ok (.aload_n 0, 1) := by decide +kernel
theorem dL_texts_21 : decode cL_texts 21 = .ok (.ldc2_w 168, 3) := by decide +kernel
theorem dL_texts_24 : decode cL_texts 24 = .ok (.lconst 0, 1) := by decide +kernel
theorem dL_texts_25 : decode cL_texts 25 = .ok (.iconst 2, 1) := by decide +kernel
theorem dL_texts_26 : decode cL_texts 26 = .ok (.invokestatic 164, 3) := by decide +kernel
theorem dL_texts_29 : decode cL_texts 29 = .ok (.ifCond .eq 104, 3) := by decide +kernel
theorem dL_texts_32 : decode cL_texts 32 = .ok (.aload_n 0, 1) := by decide +kernel
theorem dL_texts_33 : decode cL_texts 33 = .ok (.ldc2_w 170, 3) := by decide +kernel
theorem dL_texts_36 : decode cL_texts 36 = .ok (.lconst 0, 1) := by decide +kernel
theorem dL_texts_37 : decode cL_texts 37 = .ok (.bipush 7, 2) := by decide +kernel
theorem dL_texts_39 : decode cL_texts 39 = .ok (.invokestatic 164, 3) := by decide +kernel
theorem dL_texts_42 : decode cL_texts 42 = .ok (.ifCond .eq 91, 3) := by decide +kernel
theorem dL_texts_45 : decode cL_texts 45 = .ok (.aload_n 0, 1) := by decide +kernel
theorem dL_texts_46 : decode cL_texts 46 = .ok (.ldc2_w 172, 3) := by decide +kernel
theorem dL_texts_49 : decode cL_texts 49 = .ok (.lconst 0, 1) := by decide +kernel
theorem dL_texts_50 : decode cL_texts 50 = .ok (.bipush 7, 2) := by decide +kernel
theorem dL_texts_52 : decode cL_texts 52 = .ok (.invokestatic 164, 3) := by decide +kernel
theorem dL_texts_55 : decode cL_texts 55 = .ok (.ifCond .eq 78, 3) := by decide +kernel
theorem dL_texts_58 : decode cL_texts 58 = .ok (.aload_n 0, 1) := by decide +kernel
theorem dL_texts_59 : decode cL_texts 59 = .ok (.ldc2_w 174, 3) := by decide +kernel
theorem dL_texts_62 : decode cL_texts 62 = .ok (.lconst 0, 1) := by decide +kernel
theorem dL_texts_63 : decode cL_texts 63 = .ok (.iconst 5, 1) := by decide +kernel
theorem dL_texts_64 : decode cL_texts 64 = .ok (.invokestatic 164, 3) := by decide +kernel
theorem dL_texts_67 : decode cL_texts 67 = .ok (.ifCond .eq 66, 3) := by decide +kernel
theorem dL_texts_70 : decode cL_texts 70 = .ok (.aload_n 0, 1) := by decide +kernel
theorem dL_texts_71 : decode cL_texts 71 = .ok (.ldc2_w 176, 3) := by decide +kernel
theorem dL_texts_74 : decode cL_texts 74 = .ok (.lconst 0, 1) := by decide +kernel
theorem dL_texts_75 : decode cL_texts 75 = .ok (.bipush 6, 2) := by decide +kernel
theorem dL_texts_77 : decode cL_texts 77 = .ok (.invokestatic 164, 3) := by decide +kernel
theorem dL_texts_80 : decode cL_texts 80 = .ok (.ifCond .eq 53, 3) := by decide +kernel
theorem dL_texts_83 : decode cL_texts 83 = .ok (.aload_n 0, 1) := by decide +kernel
theorem dL_texts_84 : decode cL_texts 84 = .ok (.ldc2_w 178, 3) := by decide +kernel
theorem dL_texts_87 : decode cL_texts 87 = .ok (.lconst 0, 1) := by decide +kernel
theorem dL_texts_88 : decode cL_texts 88 = .ok (.bipush 6, 2) := by decide +kernel
theorem dL_texts_90 : decode cL_texts 90 = .ok (.invokestatic 164, 3) := by decide +kernel
theorem dL_texts_93 : decode cL_texts 93 = .ok (.ifCond .eq 40, 3) := by decide +kernel
theorem dL_texts_96 : decode cL_texts 96 = .ok (.aload_n 0, 1) := by decide +kernel
theorem dL_texts_97 : decode cL_texts 97 = .ok (.ldc2_w 180, 3) := by decide +kernel
theorem dL_texts_100 : decode cL_texts 100 = .ok (.lconst 0, 1) := by decide +kernel
theorem dL_texts_101 : decode cL_texts 101 = .ok (.iconst 5, 1) := by decide +kernel
theorem dL_texts_102 : decode cL_texts 102 = .ok (.invokestatic 164, 3) := by decide +kernel
theorem dL_texts_105 : decode cL_texts 105 = .ok (.ifCond .eq 28, 3) := by decide +kernel
theorem dL_texts_108 : decode cL_texts 108 = .ok (.aload_n 0, 1) := by decide +kernel
theorem dL_texts_109 : decode cL_texts 109 = .ok (.lconst 0, 1) := by decide +kernel
theorem dL_texts_110 : decode cL_texts 110 = .ok (.lconst 0, 1) := by decide +kernel
theorem dL_texts_111 : decode cL_texts 111 = .ok (.iconst 0, 1) := by decide +kernel
theorem dL_texts_112 : decode cL_texts 112 = .ok (.invokestatic 164, 3) := by decide +kernel
theorem dL_texts_115 : decode cL_texts 115 = .ok (.ifCond .eq 18, 3) := by decide +kernel
theorem dL_texts_118 : decode cL_texts 118 = .ok (.aload_n 0, 1) := by decide +kernel
theorem dL_texts_119 : decode cL_texts 119 = .ok (.ldc2_w 182, 3) := by decide +kernel
theorem dL_texts_122 : decode cL_texts 122 = .ok (.ldc2_w 184, 3) := by decide +kernel
theorem dL_texts_125 : decode cL_texts 125 = .ok (.bipush 11, 2) := by decide +kernel
theorem dL_texts_127 : decode cL_texts 127 = .ok (.invokestatic 164, 3) := by decide +kernel
theorem dL_texts_130 : decode cL_texts 130 = .ok (.ifCond .ne 5, 3) := by decide +kernel
theorem dL_texts_133 : decode cL_texts 133 = .ok (.iconst 0, 1) := by decide +kernel
theorem dL_texts_134 : decode cL_texts 134 = .ok (.ireturn, 1) := by decide +kernel
theorem dL_texts_135 : decode cL_texts 135 = .ok (.aload_n 0, 1) := by decide +kernel
theorem dL_texts_136 : decode cL_texts 136 = .ok (.ldc2_w 172, 3) := by decide +kernel
theorem dL_texts_139 : decode cL_texts 139 = .ok (.ldc2_w 186, 3) := by decide +kernel
theorem dL_texts_142 : decode cL_texts 142 = .ok (.bipush 7, 2) := by decide +kernel
theorem dL_texts_144 : decode cL_texts 144 = .ok (.invokestatic 164, 3) := by decide +kernel
theorem dL_texts_147 : decode cL_texts 147 = .ok (.ifCond .eq 105, 3) := by decide +kernel
theorem dL_texts_150 : decode cL_texts 150 = .ok (.aload_n 0, 1) := by decide +kernel
theorem dL_texts_151 : decode cL_texts 151 = .ok (.ldc2_w 188, 3) := by decide +kernel
theorem dL_texts_154 : decode cL_texts 154 = .ok (.lconst 0, 1) := by decide +kernel
theorem dL_texts_155 : decode cL_texts 155 = .ok (.iconst 1, 1) := by decide +kernel
theorem dL_texts_156 : decode cL_texts 156 = .ok (.invokestatic 164, 3) := by decide +kernel
theorem dL_texts_159 : decode cL_texts 159 = .ok (.ifCond .eq 93, 3) := by decide +kernel
theorem dL_texts_162 : decode cL_texts 162 = .ok (.aload_n 0, 1) := by decide +kernel
theorem dL_texts_163 : decode cL_texts 163 = .ok (.ldc2_w 190, 3) := by decide +kernel
theorem dL_texts_166 : decode cL_texts 166 = .ok (.lconst 0, 1) := by decide +kernel
theorem dL_texts_167 : decode cL_texts 167 = .ok (.iconst 4, 1) := by decide +kernel
theorem dL_texts_168 : decode cL_texts 168 = .ok (.invokestatic 164, 3) := by decide +kernel
theorem dL_texts_171 : decode cL_texts 171 = .ok (.ifCond .eq 81, 3) := by decide +kernel
theorem dL_texts_174 : decode cL_texts 174 = .ok (.aload_n 0, 1) := by decide +kernel
theorem dL_texts_175 : decode cL_texts 175 = .ok (.ldc2_w 192, 3) := by decide +kernel
theorem dL_texts_178 : decode cL_texts 178 = .ok (.lconst 0, 1) := by decide +kernel
theorem dL_texts_179 : decode cL_texts 179 = .ok (.iconst 3, 1) := by decide +kernel
theorem dL_texts_180 : decode cL_texts 180 = .ok (.invokestatic 164, 3) := by decide +kernel
theorem dL_texts_183 : decode cL_texts 183 = .ok (.ifCond .eq 69, 3) := by decide +kernel
theorem dL_texts_186 : decode cL_texts 186 = .ok (.aload_n 0, 1) := by decide +kernel
theorem dL_texts_187 : decode cL_texts 187 = .ok (.ldc2_w 194, 3) := by decide +kernel
theorem dL_texts_190 : decode cL_texts 190 = .ok (.lconst 0, 1) := by decide +kernel
theorem dL_texts_191 : decode cL_texts 191 = .ok (.bipush 6, 2) := by decide +kernel
theorem dL_texts_193 : decode cL_texts 193 = .ok (.invokestatic 164, 3) := by decide +kernel
theorem dL_texts_196 : decode cL_texts 196 = .ok (.ifCond .eq 56, 3) := by decide +kernel
theorem dL_texts_199 : decode cL_texts 199 = .ok (.aload_n 0, 1) := by decide +kernel
theorem dL_texts_200 : decode cL_texts 200 = .ok (.ldc2_w 196, 3) := by decide +kernel
theorem dL_texts_203 : decode cL_texts 203 = .ok (.lconst 0, 1) := by decide +kernel
theorem dL_texts_204 : decode cL_texts 204 = .ok (.bipush 6, 2) := by decide +kernel
theorem dL_texts_206 : decode cL_texts 206 = .ok (.invokestatic 164, 3) := by decide +kernel
theorem dL_texts_209 : decode cL_texts 209 = .ok (.ifCond .eq 43, 3) := by decide +kernel
theorem dL_texts_212 : decode cL_texts 212 = .ok (.aload_n 0, 1) := by decide +kernel
theorem dL_texts_213 : decode cL_texts 213 = .ok (.ldc2_w 198, 3) := by decide +kernel
theorem dL_texts_216 : decode cL_texts 216 = .ok (.lconst 0, 1) := by decide +kernel
theorem dL_texts_217 : decode cL_texts 217 = .ok (.bipush 7, 2) := by decide +kernel
theorem dL_texts_219 : decode cL_texts 219 = .ok (.invokestatic 164, 3) := by decide +kernel
theorem dL_texts_222 : decode cL_texts 222 = .ok (.ifCond .eq 30, 3) := by decide +kernel
theorem dL_texts_225 : decode cL_texts 225 = .ok (.aload_n 0, 1) := by decide +kernel
theorem dL_texts_226 : decode cL_texts 226 = .ok (.ldc2_w 200, 3) := by decide +kernel
theorem dL_texts_229 : decode cL_texts 229 = .ok (.ldc2_w 202, 3) := by decide +kernel
theorem dL_texts_232 : decode cL_texts 232 = .ok (.bipush 13, 2) := by decide +kernel
theorem dL_texts_234 : decode cL_texts 234 = .ok (.invokestatic 164, 3) := by decide +kernel
theorem dL_texts_237 : decode cL_texts 237 = .ok (.ifCond .eq 15, 3) := by decide +kernel
theorem dL_texts_240 : decode cL_texts 240 = .ok (.aload_n 0, 1) := by decide +kernel
theorem dL_texts_241 : decode cL_texts 241 = .ok (.ldc2_w 204, 3) := by decide +kernel
theorem dL_texts_244 : decode cL_texts 244 = .ok (.lconst 0, 1) := by decide +kernel
theorem dL_texts_245 : decode cL_texts 245 = .ok (.iconst 0, 1) := by decide +kernel
theorem dL_texts_246 : decode cL_texts 246 = .ok (.invokestatic 164, 3) := by decide +kernel
theorem dL_texts_249 : decode cL_texts 249 = .ok (.ifCond .ne 5, 3) := by decide +kernel
theorem dL_texts_252 : decode cL_texts 252 = .ok (.iconst 0, 1) := by decide +kernel
theorem dL_texts_253 : decode cL_texts 253 = .ok (.ireturn, 1) := by decide +kernel
theorem dL_texts_254 : decode cL_texts 254 = .ok (.aload_n 0, 1) := by decide +kernel
theorem dL_texts_255 : decode cL_texts 255 = .ok (.invokevirtual 152, 3) := by decide +kernel
theorem dL_texts_258 : decode cL_texts 258 = .ok (.iconst 1, 1) := by decide +kernel
theorem dL_texts_259 : decode cL_texts 259 = .ok (.if_icmp .ne 280, 3) := by decide +kernel
theorem dL_texts_262 : decode cL_texts 262 = .ok (.aload_n 0, 1) := by decide +kernel
theorem dL_texts_263 : decode cL_texts 263 = .ok (.iconst 2, 1) := by decide +kernel
theorem dL_texts_264 : decode cL_texts 264 = .ok (.bipush 20, 2) := by decide +kernel
theorem dL_texts_266 : decode cL_texts 266 = .ok (.invokevirtual 11, 3) := by decide +kernel
theorem dL_texts_269 : decode cL_texts 269 = .ok (.ifCond .ne 270, 3) := by decide +kernel
theorem dL_texts_272 : decode cL_texts 272 = .ok (.aload_n 0, 1) := by decide +kernel
theorem dL_texts_273 : decode cL_texts 273 = .ok (.ldc2_w 206, 3) := by decide +kernel
theorem dL_texts_276 : decode cL_texts 276 = .ok (.invokestatic 155, 3) := by decide +kernel
theorem dL_texts_279 : decode cL_texts 279 = .ok (.ifCond .eq 260, 3) := by decide +kernel
theorem dL_texts_282 : decode cL_texts 282 = .ok (.aload_n 0, 1) := by decide +kernel
theorem dL_texts_283 : decode cL_texts 283 = .ok (.ldc2_w 208, 3) := by decide +kernel
theorem dL_texts_286 : decode cL_texts 286 = .ok (.invokestatic 155, 3) := by decide +kernel
theorem dL_texts_289 : decode cL_texts 289 = .ok (.ifCond .eq 250, 3) := by decide +kernel
theorem dL_texts_292 : decode cL_texts 292 = .ok (.aload_n 0, 1) := by decide +kernel
theorem dL_texts_293 : decode cL_texts 293 = .ok (.ldc2_w 210, 3) := by decide +kernel
theorem dL_texts_296 : decode cL_texts 296 = .ok (.invokestatic 155, 3) := by decide +kernel
theorem dL_texts_299 : decode cL_texts 299 = .ok (.ifCond .eq 240, 3) := by decide +kernel
theorem dL_texts_302 : decode cL_texts 302 = .ok (.aload_n 0, 1) := by decide +kernel
theorem dL_texts_303 : decode cL_texts 303 = .ok (.ldc2_w 212, 3) := by decide +kernel
theorem dL_texts_306 : decode cL_texts 306 = .ok (.invokestatic 155, 3) := by decide +kernel
theorem dL_texts_309 : decode cL_texts 309 = .ok (.ifCond .eq 230, 3) := by decide +kernel
theorem dL_texts_312 : decode cL_texts 312 = .ok (.aload_n 0, 1) := by decide +kernel
theorem dL_texts_313 : decode cL_texts 313 = .ok (.invokevirtual 47, 3) := by decide +kernel
theorem dL_texts_316 : decode cL_texts 316 = .ok (.iconst 1, 1) := by decide +kernel
theorem dL_texts_317 : decode cL_texts 317 = .ok (.if_icmp .ne 222, 3) := by decide +kernel
theorem dL_texts_320 : decode cL_texts 320 = .ok (.aload_n 0, 1) := by decide +kernel
theorem dL_texts_321 : decode cL_texts 321 = .ok (.invokevirtual 152, 3) := by decide +kernel
theorem dL_texts_324 : decode cL_texts 324 = .ok (.ifCond .ne 215, 3) := by decide +kernel
theorem dL_texts_327 : decode cL_texts 327 = .ok (.aload_n 0, 1) := by decide +kernel
theorem dL_texts_328 : decode cL_texts 328 = .ok (.iconst 0, 1) := by decide +kernel
theorem dL_texts_329 : decode cL_texts 329 = .ok (.invokevirtual 51, 3) := by decide +kernel
theorem dL_texts_332 : decode cL_texts 332 = .ok (.iconst 1, 1) := by decide +kernel
theorem dL_texts_333 : decode cL_texts 333 = .ok (.if_icmp .ne 206, 3) := by decide +kernel
theorem dL_texts_336 : decode cL_texts 336 = .ok (.aload_n 0, 1) := by decide +kernel
theorem dL_texts_337 : decode cL_texts 337 = .ok (.iconst 1, 1) := by decide +kernel
theorem dL_texts_338 : decode cL_texts 338 = .ok (.invokevirtual 51, 3) := by decide +kernel
theorem dL_texts_341 : decode cL_texts 341 = .ok (.iconst 4, 1) := by decide +kernel
theorem dL_texts_342 : decode cL_texts 342 = .ok (.if_icmp .ne 197, 3) := by decide +kernel
theorem dL_texts_345 : decode cL_texts 345 = .ok (.aload_n 0, 1) := by decide +kernel
theorem dL_texts_346 : decode cL_texts 346 = .ok (.iconst 2, 1) := by decide +kernel
theorem dL_texts_347 : decode cL_texts 347 = .ok (.invokevirtual 51, 3) := by decide +kernel
theorem dL_texts_350 : decode cL_texts 350 = .ok (.ifCond .ne 189, 3) := by decide +kernel
theorem dL_texts_353 : decode cL_texts 353 = .ok (.aload_n 0, 1) := by decide +kernel
theorem dL_texts_354 : decode cL_texts 354 = .ok (.ldc2_w 214, 3) := by decide +kernel
theorem dL_texts_357 : decode cL_texts 357 = .ok (.invokestatic 155, 3) := by decide +kernel
theorem dL_texts_360 : decode cL_texts 360 = .ok (.ifCond .eq 179, 3) := by decide +kernel
theorem dL_texts_363 : decode cL_texts 363 = .ok (.aload_n 0, 1) := by decide +kernel
theorem dL_texts_364 : decode cL_texts 364 = .ok (.ldc2_w 216, 3) := by decide +kernel
theorem dL_texts_367 : decode cL_texts 367 = .ok (.invokestatic 155, 3) := by decide +kernel
theorem dL_texts_370 : decode cL_texts 370 = .ok (.ifCond .eq 169, 3) := by decide +kernel
theorem dL_texts_373 : decode cL_texts 373 = .ok (.aload_n 0, 1) := by decide +kernel
theorem dL_texts_374 : decode cL_texts 374 = .ok (.invokevirtual 47, 3) := by decide +kernel
theorem dL_texts_377 : decode cL_texts 377 = .ok (.iconst 1, 1) := by decide +kernel
theorem dL_texts_378 : decode cL_texts 378 = .ok (.if_icmp .ne 161, 3) := by decide +kernel
theorem dL_texts_381 : decode cL_texts 381 = .ok (.aload_n 0, 1) := by decide +kernel
theorem dL_texts_382 : decode cL_texts 382 = .ok (.iconst 0, 1) := by decide +kernel
theorem dL_texts_383 : decode cL_texts 383 = .ok (.invokevirtual 51, 3) := by decide +kernel
theorem dL_texts_386 : decode cL_texts 386 = .ok (.iconst 1, 1) := by decide +kernel
theorem dL_texts_387 : decode cL_texts 387 = .ok (.if_icmp .ne 152, 3) := by decide +kernel
theorem dL_texts_390 : decode cL_texts 390 = .ok (.aload_n 0, 1) := by decide +kernel
theorem dL_texts_391 : decode cL_texts 391 = .ok (.iconst 1, 1) := by decide +kernel
theorem dL_texts_392 : decode cL_texts 392 = .ok (.invokevirtual 51, 3) := by decide +kernel
theorem dL_texts_395 : decode cL_texts 395 = .ok (.iconst 5, 1) := by decide +kernel
theorem dL_texts_396 : decode cL_texts 396 = .ok (.if_icmp .ne 143, 3) := by decide +kernel
theorem dL_texts_399 : decode cL_texts 399 = .ok (.aload_n 0, 1) := by decide +kernel
theorem dL_texts_400 : decode cL_texts 400 = .ok (.iconst 2, 1) := by decide +kernel
theorem dL_texts_401 : decode cL_texts 401 = .ok (.invokevirtual 51, 3) := by decide +kernel
theorem dL_texts_404 : decode cL_texts 404 = .ok (.iconst (-1), 1) := by decide +kernel
theorem dL_texts_405 : decode cL_texts 405 = .ok (.if_icmp .ne 134, 3) := by decide +kernel
theorem dL_texts_408 : decode cL_texts 408 = .ok (.aload_n 0, 1) := by decide +kernel
theorem dL_texts_409 : decode cL_texts 409 = .ok (.ldc2_w 218, 3) := by decide +kernel
theorem dL_texts_412 : decode cL_texts 412 = .ok (.invokestatic 155, 3) := by decide +kernel
theorem dL_texts_415 : decode cL_texts 415 = .ok (.ifCond .eq 124, 3) := by decide +kernel
theorem dL_texts_418 : decode cL_texts 418 = .ok (.aload_n 0, 1) := by decide +kernel
theorem dL_texts_419 : decode cL_texts 419 = .ok (.invokevirtual 47, 3) := by decide +kernel
theorem dL_texts_422 : decode cL_texts 422 = .ok (.iconst 1, 1) := by decide +kernel
theorem dL_texts_423 : decode cL_texts 423 = .ok (.if_icmp .ne 116, 3) := by decide +kernel
theorem dL_texts_426 : decode cL_texts 426 = .ok (.aload_n 0, 1) := by decide +kernel
theorem dL_texts_427 : decode cL_texts 427 = .ok (.iconst 0, 1) := by decide +kernel
theorem dL_texts_428 : decode cL_texts 428 = .ok (.invokevirtual 51, 3) := by decide +kernel
theorem dL_texts_431 : decode cL_texts 431 = .ok (.iconst (-1), 1) := by decide +kernel
theorem dL_texts_432 : decode cL_texts 432 = .ok (.if_icmp .ne 107, 3) := by decide +kernel
theorem dL_texts_435 : decode cL_texts 435 = .ok (.aload_n 0, 1) := by decide +kernel
theorem dL_texts_436 : decode cL_texts 436 = .ok (.iconst 2, 1) := by decide +kernel
theorem dL_texts_437 : decode cL_texts 437 = .ok (.invokevirtual 51, 3) := by decide +kernel
theorem dL_texts_440 : decode cL_texts 440 = .ok (.iconst (-1), 1) := by decide +kernel
theorem dL_texts_441 : decode cL_texts 441 = .ok (.if_icmp .ne 98, 3) := by decide +kernel
theorem dL_texts_444 : decode cL_texts 444 = .ok (.aload_n 0, 1) := by decide +kernel
theorem dL_texts_445 : decode cL_texts 445 = .ok (.iconst 1, 1) := by decide +kernel
theorem dL_texts_446 : decode cL_texts 446 = .ok (.invokevirtual 81, 3) := by decide +kernel
theorem dL_texts_449 : decode cL_texts 449 = .ok (.iconst 3, 1) := by decide +kernel
theorem dL_texts_450 : decode cL_texts 450 = .ok (.if_icmp .ne 89, 3) := by decide +kernel
theorem dL_texts_453 : decode cL_texts 453 = .ok (.aload_n 0, 1) := by decide +kernel
theorem dL_texts_454 : decode cL_texts 454 = .ok (.invokevirtual 54, 3) := by decide +kernel
theorem dL_texts_457 : decode cL_texts 457 = .ok (.iconst 3, 1) := by decide +kernel
theorem dL_texts_458 : decode cL_texts 458 = .ok (.if_icmp .ne 81, 3) := by decide +kernel
theorem dL_texts_461 : decode cL_texts 461 = .ok (.aload_n 0, 1) := by decide +kernel
theorem dL_texts_462 : decode cL_texts 462 = .ok (.iconst 1, 1) := by decide +kernel
theorem dL_texts_463 : decode cL_texts 463 = .ok (.invokevirtual 51, 3) := by decide +kernel
theorem dL_texts_466 : decode cL_texts 466 = .ok (.iconst 5, 1) := by decide +kernel
theorem dL_texts_467 : decode cL_texts 467 = .ok (.if_icmp .ne 72, 3) := by decide +kernel
theorem dL_texts_470 : decode cL_texts 470 = .ok (.aload_n 0, 1) := by decide +kernel
theorem dL_texts_471 : decode cL_texts 471 = .ok (.ldc2_w 220, 3) := by decide +kernel
theorem dL_texts_474 : decode cL_texts 474 = .ok (.invokestatic 155, 3) := by decide +kernel
theorem dL_texts_477 : decode cL_texts 477 = .ok (.ifCond .eq 62, 3) := by decide +kernel
theorem dL_texts_480 : decode cL_texts 480 = .ok (.aload_n 0, 1) := by decide +kernel
theorem dL_texts_481 : decode cL_texts 481 = .ok (.invokevirtual 47, 3) := by decide +kernel
theorem dL_texts_484 : decode cL_texts 484 = .ok (.ifCond .ne 55, 3) := by decide +kernel
theorem dL_texts_487 : decode cL_texts 487 = .ok (.aload_n 0, 1) := by decide +kernel
theorem dL_texts_488 : decode cL_texts 488 = .ok (.iconst 1, 1) := by decide +kernel
theorem dL_texts_489 : decode cL_texts 489 = .ok (.invokevirtual 51, 3) := by decide +kernel
theorem dL_texts_492 : decode cL_texts 492 = .ok (.iconst 2, 1) := by decide +kernel
theorem dL_texts_493 : decode cL_texts 493 = .ok (.if_icmp .ne 46, 3) := by decide +kernel
theorem dL_texts_496 : decode cL_texts 496 = .ok (.aload_n 0, 1) := by decide +kernel
theorem dL_texts_497 : decode cL_texts 497 = .ok (.iconst 0, 1) := by decide +kernel
theorem dL_texts_498 : decode cL_texts 498 = .ok (.invokevirtual 51, 3) := by decide +kernel
theorem dL_texts_501 : decode cL_texts 501 = .ok (.ifCond .ne 38, 3) := by decide +kernel
theorem dL_texts_504 : decode cL_texts 504 = .ok (.aload_n 0, 1) := by decide +kernel
theorem dL_texts_505 : decode cL_texts 505 = .ok (.ldc2_w 222, 3) := by decide +kernel
theorem dL_texts_508 : decode cL_texts 508 = .ok (.invokestatic 155, 3) := by decide +kernel
theorem dL_texts_511 : decode cL_texts 511 = .ok (.ifCond .eq 28, 3) := by decide +kernel
theorem dL_texts_514 : decode cL_texts 514 = .ok (.aload_n 0, 1) := by decide +kernel
theorem dL_texts_515 : decode cL_texts 515 = .ok (.invokevirtual 47, 3) := by decide +kernel
theorem dL_texts_518 : decode cL_texts 518 = .ok (.ifCond .ne 21, 3) := by decide +kernel
theorem dL_texts_521 : decode cL_texts 521 = .ok (.aload_n 0, 1) := by decide +kernel
theorem dL_texts_522 : decode cL_texts 522 = .ok (.iconst 1, 1) := by decide +kernel
theorem dL_texts_523 : decode cL_texts 523 = .ok (.invokevirtual 51, 3) := by decide +kernel
theorem dL_texts_526 : decode cL_texts 526 = .ok (.iconst 3, 1) := by decide +kernel
theorem dL_texts_527 : decode cL_texts 527 = .ok (.if_icmp .ne 12, 3) := by decide +kernel
theorem dL_texts_530 : decode cL_texts 530 = .ok (.aload_n 0, 1) := by decide +kernel
theorem dL_texts_531 : decode cL_texts 531 = .ok (.iconst 2, 1) := by decide +kernel
theorem dL_texts_532 : decode cL_texts 532 = .ok (.invokevirtual 51, 3) := by decide +kernel
theorem dL_texts_535 : decode cL_texts 535 = .ok (.iconst 1, 1) := by decide +kernel
theorem dL_texts_536 : decode cL_texts 536 = .ok (.if_icmp .eq 5, 3) := by decide +kernel
theorem dL_texts_539 : decode cL_texts 539 = .ok (.iconst 0, 1) := by decide +kernel
theorem dL_texts_540 : decode cL_texts 540 = .ok (.ireturn, 1) := by decide +kernel
theorem dL_texts_541 : decode cL_texts 541 = .ok (.iconst 0, 1) := by decide +kernel
theorem dL_texts_542 : decode cL_texts 542 = .ok (.istore_n 1, 1) := by decide +kernel
theorem dL_texts_543 : decode cL_texts 543 = .ok (.iload_n 1, 1) := by decide +kernel
theorem dL_texts_544 : decode cL_texts 544 = .ok (.bipush 60, 2) := by decide +kernel
theorem dL_texts_546 : decode cL_texts 546 = .ok (.if_icmp .ge 31, 3) := by decide +kernel
theorem dL_texts_549 : decode cL_texts 549 = .ok (.aload_n 0, 1) := by decide +kernel
theorem dL_texts_550 : decode cL_texts 550 = .ok (.bipush 55, 2) := by decide +kernel
theorem dL_texts_552 : decode cL_texts 552 = .ok (.invokevirtual 44, 3) := by decide +kernel
theorem dL_texts_555 : decode cL_texts 555 = .ok (.iload_n 1, 1) := by decide +kernel
theorem dL_texts_556 : decode cL_texts 556 = .ok (.iconst 1, 1) := by decide +kernel
theorem dL_texts_557 : decode cL_texts 557 = .ok (.iadd, 1) := by decide +kernel
theorem dL_texts_558 : decode cL_texts 558 = .ok (.if_icmp .ne 11, 3) := by decide +kernel
theorem dL_texts_561 : decode cL_texts 561 = .ok (.aload_n 0, 1) := by decide +kernel
theorem dL_texts_562 : decode cL_texts 562 = .ok (.invokevirtual 159, 3) := by decide +kernel
theorem dL_texts_565 : decode cL_texts 565 = .ok (.iconst 1, 1) := by decide +kernel
theorem dL_texts_566 : decode cL_texts 566 = .ok (.if_icmp .eq 5, 3) := by decide +kernel
theorem dL_texts_569 : decode cL_texts 569 = .ok (.iconst 0, 1) := by decide +kernel
theorem dL_texts_570 : decode cL_texts 570 = .ok (.ireturn, 1) := by decide +kernel
theorem dL_texts_571 : decode cL_texts 571 = .ok (.iinc 1 1, 3) := by decide +kernel
theorem dL_texts_574 : decode cL_texts 574 = .ok (.goto (-31), 3) := by decide +kernel
theorem dL_texts_577 : decode cL_texts 577 = .ok (.aload_n 0, 1) := by decide +kernel
theorem dL_texts_578 : decode cL_texts 578 = .ok (.bipush 9, 2) := by decide +kernel
theorem dL_texts_580 : decode cL_texts 580 = .ok (.bipush 59, 2) := by decide +kernel
theorem dL_texts_582 : decode cL_texts 582 = .ok (.iconst 0, 1) := by decide +kernel
theorem dL_texts_583 : decode cL_texts 583 = .ok (.iconst 0, 1) := by decide +kernel
theorem dL_texts_584 : decode cL_texts 584 = .ok (.lconst 0, 1) := by decide +kernel
theorem dL_texts_585 : decode cL_texts 585 = .ok (.invokestatic 119, 3) := by decide +kernel
theorem dL_texts_588 : decode cL_texts 588 = .ok (.bipush (-13), 2) := by decide +kernel
theorem dL_texts_590 : decode cL_texts 590 = .ok (.if_icmp .ne 31, 3) := by decide +kernel
theorem dL_texts_593 : decode cL_texts 593 = .ok (.aload_n 0, 1) := by decide +kernel
theorem dL_texts_594 : decode cL_texts 594 = .ok (.bipush 10, 2) := by decide +kernel
theorem dL_texts_596 : decode cL_texts 596 = .ok (.iconst 0, 1) := by decide +kernel
theorem dL_texts_597 : decode cL_texts 597 = .ok (.iconst 0, 1) := by decide +kernel
theorem dL_texts_598 : decode cL_texts 598 = .ok (.iconst 0, 1) := by decide +kernel
theorem dL_texts_599 : decode cL_texts 599 = .ok (.lconst 0, 1) := by decide +kernel
theorem dL_texts_600 : decode cL_texts 600 = .ok (.invokestatic 119, 3) := by decide +kernel
theorem dL_texts_603 : decode cL_texts 603 = .ok (.bipush (-12), 2) := by decide +kernel
theorem dL_texts_605 : decode cL_texts 605 = .ok (.if_icmp .ne 16, 3) := by decide +kernel
theorem dL_texts_608 : decode cL_texts 608 = .ok (.aload_n 0, 1) := by decide +kernel
theorem dL_texts_609 : decode cL_texts 609 = .ok (.invokevirtual 152, 3) := by decide +kernel
theorem dL_texts_612 : decode cL_texts 612 = .ok (.bipush 60, 2) := by decide +kernel
theorem dL_texts_614 : decode cL_texts 614 = .ok (.if_icmp .ne 7, 3) := by decide +kernel
theorem dL_texts_617 : decode cL_texts 617 = .ok (.iconst 1, 1) := by decide +kernel
theorem dL_texts_618 : decode cL_texts 618 = .ok (.goto 4, 3) := by decide +kernel
theorem dL_texts_621 : decode cL_texts 621 = .ok (.iconst 0, 1) := by decide +kernel
theorem dL_texts_622 : decode cL_texts 622 = .ok (.ireturn, 1) := by decide +kernel
theorem dL_law_0 : decode cL_law 0 = .ok (.invokestatic 224, 3) := by decide +kernel
theorem dL_law_3 : decode cL_law 3 = .ok (.ifCond .eq 15, 3) := by decide +kernel
theorem dL_law_6 : decode cL_law 6 = .ok (.invokestatic 228, 3) := by decide +kernel
theorem dL_law_9 : decode cL_law 9 = .ok (.ifCond .eq 9, 3) := by decide +kernel
theorem dL_law_12 : decode cL_law 12 = .ok (.invokestatic 231, 3) := by decide +kernel
theorem dL_law_15 : decode cL_law 15 = .ok (.ifCond .ne 5, 3) := by decide +kernel
theorem dL_law_18 : decode cL_law 18 = .ok (.iconst 0, 1) := by decide +kernel
theorem dL_law_19 : decode cL_law 19 = .ok (.ireturn, 1) := by decide +kernel
theorem dL_law_20 : decode cL_law 20 = .ok (.new 12, 3) := by decide +kernel
theorem dL_law_23 : decode cL_law 23 = .ok (.dup, 1) := by decide +kernel
theorem dL_law_24 : decode cL_law 24 = .ok (.invokespecial 142, 3) := by decide +kernel
theorem dL_law_27 : decode cL_law 27 = .ok (.astore_n 1, 1) := by decide +kernel
theorem dL_law_28 : decode cL_law 28 = .ok (.bipush 64, 2) := by decide +kernel
theorem dL_law_30 : decode cL_law 30 = .ok (.newarray .long, 2) := by decide +kernel
theorem dL_law_32 : decode cL_law 32 = .ok (.astore_n 2, 1) := by decide +kernel
theorem dL_law_33 : decode cL_law 33 = .ok (.iconst 0, 1) := by decide +kernel
theorem dL_law_34 : decode cL_law 34 = .ok (.istore_n 3, 1) := by decide +kernel
theorem dL_law_35 : decode cL_law 35 = .ok (.aload_n 1, 1) := by decide +kernel
theorem dL_law_36 : decode cL_law 36 = .ok (.iconst 2, 1) := by decide +kernel
theorem dL_law_37 : decode cL_law 37 = .ok (.bipush 15, 2) := by decide +kernel
theorem dL_law_39 : decode cL_law 39 = .ok (.invokevirtual 11, 3) := by decide +kernel
theorem dL_law_42 : decode cL_law 42 = .ok (.ifCond .ne 45, 3) := by decide +kernel
theorem dL_law_45 : decode cL_law 45 = .ok (.aload_n 1, 1) := by decide +kernel
theorem dL_law_46 : decode cL_law 46 = .ok (.iconst 3, 1) := by decide +kernel
theorem dL_law_47 : decode cL_law 47 = .ok (.bipush 10, 2) := by decide +kernel
theorem dL_law_49 : decode cL_law 49 = .ok (.invokevirtual 11, 3) := by decide +kernel
theorem dL_law_52 : decode cL_law 52 = .ok (.iconst 1, 1) := by decide +kernel
theorem dL_law_53 : decode cL_law 53 = .ok (.if_icmp .ne 34, 3) := by decide +kernel
theorem dL_law_56 : decode cL_law 56 = .ok (.aload_n 1, 1) := by decide +kernel
theorem dL_law_57 : decode cL_law 57 = .ok (.iconst 0, 1) := by decide +kernel
theorem dL_law_58 : decode cL_law 58 = .ok (.iconst 1, 1) := by decide +kernel
theorem dL_law_59 : decode cL_law 59 = .ok (.bipush 60, 2) := by decide +kernel
theorem dL_law_61 : decode cL_law 61 = .ok (.bipush 10, 2) := by decide +kernel
theorem dL_law_63 : decode cL_law 63 = .ok (.invokevirtual 23, 3) := by decide +kernel
theorem dL_law_66 : decode cL_law 66 = .ok (.ifCond .ne 21, 3) := by decide +kernel
theorem dL_law_69 : decode cL_law 69 = .ok (.aload_n 1, 1) := by decide +kernel
theorem dL_law_70 : decode cL_law 70 = .ok (.iconst 1, 1) := by decide +kernel
theorem dL_law_71 : decode cL_law 71 = .ok (.iconst 0, 1) := by decide +kernel
theorem dL_law_72 : decode cL_law 72 = .ok (.invokevirtual 38, 3) := by decide +kernel
theorem dL_law_75 : decode cL_law 75 = .ok (.iconst 1, 1) := by decide +kernel
theorem dL_law_76 : decode cL_law 76 = .ok (.if_icmp .ne 11, 3) := by decide +kernel
theorem dL_law_79 : decode cL_law 79 = .ok (.aload_n 1, 1) := by decide +kernel
theorem dL_law_80 : decode cL_law 80 = .ok (.invokevirtual 147, 3) := by decide +kernel
theorem dL_law_83 : decode cL_law 83 = .ok (.iconst 1, 1) := by decide +kernel
theorem dL_law_84 : decode cL_law 84 = .ok (.if_icmp .eq 5, 3) := by decide +kernel
theorem dL_law_87 : decode cL_law 87 = .ok (.iconst 0, 1) := by decide +kernel
theorem dL_law_88 : decode cL_law 88 = .ok (.ireturn, 1) := by decide +kernel
theorem dL_law_89 : decode cL_law 89 = .ok (.aload_n 1, 1) := by decide +kernel
theorem dL_law_90 : decode cL_law 90 = .ok (.invokestatic 131, 3) := by decide +kernel
theorem dL_law_93 : decode cL_law 93 = .ok (.lstore 4, 2) := by decide +kernel
theorem dL_law_95 : decode cL_law 95 = .ok (.iconst 0, 1) := by decide +kernel
theorem dL_law_96 : decode cL_law 96 = .ok (.istore 6, 2) := by decide +kernel
theorem dL_law_98 : decode cL_law 98 = .ok (.iload 6, 2) := by decide +kernel
theorem dL_law_100 : decode cL_law 100 = .ok (.bipush 28, 2) := by decide +kernel
theorem dL_law_102 : decode cL_law 102 = .ok (.if_icmp .ge 408, 3) := by decide +kernel
theorem dL_law_105 : decode cL_law 105 = .ok (.aload_n 0, 1) := by decide +kernel
theorem dL_law_106 : decode cL_law 106 = .ok (.iload 6, 2) := by decide +kernel
theorem dL_law_108 : decode cL_law 108 = .ok (.invokestatic 234, 3) := by decide +kernel
theorem dL_law_111 : decode cL_law 111 = .ok (.istore 7, 2) := by decide +kernel
theorem dL_law_113 : decode cL_law 113 = .ok (.iload 7, 2) := by decide +kernel
theorem dL_law_115 : decode cL_law 115 = .ok (.bipush 18, 2) := by decide +kernel
theorem dL_law_117 : decode cL_law 117 = .ok (.invokestatic 238, 3) := by decide +kernel
theorem dL_law_120 : decode cL_law 120 = .ok (.istore 8, 2) := by decide +kernel
theorem dL_law_122 : decode cL_law 122 = .ok (.aload_n 2, 1) := by decide +kernel
theorem dL_law_123 : decode cL_law 123 = .ok (.iload_n 3, 1) := by decide +kernel
theorem dL_law_124 : decode cL_law 124 = .ok (.aload_n 1, 1) := by decide +kernel
theorem dL_law_125 : decode cL_law 125 = .ok (.invokestatic 131, 3) := by decide +kernel
theorem dL_law_128 : decode cL_law 128 = .ok (.lastore, 1) := by decide +kernel
theorem dL_law_129 : decode cL_law 129 = .ok (.aload_n 1, 1) := by decide +kernel
theorem dL_law_130 : decode cL_law 130 = .ok (.bipush 11, 2) := by decide +kernel
theorem dL_law_132 : decode cL_law 132 = .ok (.invokevirtual 81, 3) := by decide +kernel
theorem dL_law_135 : decode cL_law 135 = .ok (.istore 9, 2) := by decide +kernel
theorem dL_law_137 : decode cL_law 137 = .ok (.iload 7, 2) := by decide +kernel
theorem dL_law_139 : decode cL_law 139 = .ok (.iconst 5, 1) := by decide +kernel
theorem dL_law_140 : decode cL_law 140 = .ok (.ishr, 1) := by decide +kernel
theorem dL_law_141 : decode cL_law 141 = .ok (.iconst 4, 1) := by decide +kernel
theorem dL_law_142 : decode cL_law 142 = .ok (.invokestatic 238, 3) := by decide +kernel
theorem dL_law_145 : decode cL_law 145 = .ok (.istore 10, 2) := by decide +kernel
theorem dL_law_147 : decode cL_law 147 = .ok (.iload 7, 2) := by decide +kernel
theorem dL_law_149 : decode cL_law 149 = .ok (.bipush 7, 2) := by decide +kernel
theorem dL_law_151 : decode cL_law 151 = .ok (.ishr, 1) := by decide +kernel
theorem dL_law_152 : decode cL_law 152 = .ok (.iconst 4, 1) := by decide +kernel
theorem dL_law_153 : decode cL_law 153 = .ok (.invokestatic 238, 3) := by decide +kernel
theorem dL_law_156 : decode cL_law 156 = .ok (.istore 11, 2) := by decide +kernel
theorem dL_law_158 : decode cL_law 158 = .ok (.iload 7, 2) := by decide +kernel
theorem dL_law_160 : decode cL_law 160 = .ok (.bipush 9, 2) := by decide +kernel
theorem dL_law_162 : decode cL_law 162 = .ok (.ishr, 1) := by decide +kernel
theorem dL_law_163 : decode cL_law 163 = .ok (.sipush 900, 3) := by decide +kernel
theorem dL_law_166 : decode cL_law 166 = .ok (.invokestatic 238, 3) := by decide +kernel
theorem dL_law_169 : decode cL_law 169 = .ok (.bipush 10, 2) := by decide +kernel
theorem dL_law_171 : decode cL_law 171 = .ok (.isub, 1) := by decide +kernel
theorem dL_law_172 : decode cL_law 172 = .ok (.istore 12, 2) := by decide +kernel
theorem dL_law_174 : decode cL_law 174 = .ok (.iload 8, 2) := by decide +kernel
theorem dL_law_176 : decode cL_law 176 = .ok (.bipush 6, 2) := by decide +kernel
theorem dL_law_178 : decode cL_law 178 = .ok (.if_icmp .ge 38, 3) := by decide +kernel
theorem dL_law_181 : decode cL_law 181 = .ok (.aload_n 1, 1) := by decide +kernel
theorem dL_law_182 : decode cL_law 182 = .ok (.iconst 3, 1) := by decide +kernel
theorem dL_law_183 : decode cL_law 183 = .ok (.iload 7, 2) := by decide +kernel
theorem dL_law_185 : decode cL_law 185 = .ok (.iconst 5, 1) := by decide +kernel
theorem dL_law_186 : decode cL_law 186 = .ok (.ishr, 1) := by decide +kernel
theorem dL_law_187 : decode cL_law 187 = .ok (.iconst 3, 1) := by decide +kernel
theorem dL_law_188 : decode cL_law 188 = .ok (.invokestatic 238, 3) := by decide +kernel
theorem dL_law_191 : decode cL_law 191 = .ok (.iload 11, 2) := by decide +kernel
theorem dL_law_193 : decode cL_law 193 = .ok (.iload 12, 2) := by decide +kernel
theorem dL_law_195 : decode cL_law 195 = .ok (.ldc2_w 241, 3) := by decide +kernel
theorem dL_law_198 : decode cL_law 198 = .ok (.iload 7, 2) := by decide +kernel
theorem dL_law_200 : decode cL_law 200 = .ok (.bipush 19, 2) := by decide +kernel
theorem dL_law_202 : decode cL_law 202 = .ok (.ishr, 1) := by decide +kernel
theorem dL_law_203 : decode cL_law 203 = .ok (.bipush 27, 2) := by decide +kernel
theorem dL_law_205 : decode cL_law 205 = .ok (.invokestatic 238, 3) := by decide +kernel
theorem dL_law_208 : decode cL_law 208 = .ok (.i2l, 1) := by decide +kernel
theorem dL_law_209 : decode cL_law 209 = .ok (.ladd, 1) := by decide +kernel
theorem dL_law_210 : decode cL_law 210 = .ok (.invokestatic 119, 3) := by decide +kernel
theorem dL_law_213 : decode cL_law 213 = .ok (.goto 235, 3) := by decide +kernel
theorem dL_law_216 : decode cL_law 216 = .ok (.iload 8, 2) := by decide +kernel
theorem dL_law_218 : decode cL_law 218 = .ok (.bipush 8, 2) := by decide +kernel
theorem dL_law_220 : decode cL_law 220 = .ok (.if_icmp .ge 17, 3) := by decide +kernel
theorem dL_law_223 : decode cL_law 223 = .ok (.aload_n 1, 1) := by decide +kernel
theorem dL_law_224 : decode cL_law 224 = .ok (.iconst 5, 1) := by decide +kernel
theorem dL_law_225 : decode cL_law 225 = .ok (.iload 10, 2) := by decide +kernel

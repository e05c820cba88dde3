theorem dL_spare_88 : decode cL_spare 88 = .ok (.istore_n 2, 1) := by decide +kernel
theorem dL_spare_89 : decode cL_spare 89 = .ok (.iinc 3 (-1), 3) := by decide +kernel
theorem dL_spare_92 : decode cL_spare 92 = .ok (.goto (-80), 3) := by decide +kernel
theorem dL_spare_95 : decode cL_spare 95 = .ok (.iload_n 1, 1) := by decide +kernel
theorem dL_spare_96 : decode cL_spare 96 = .ok (.ireturn, 1) := by decide +kernel
theorem dL_texts_0 : decode cL_texts 0 = .ok (.new 272, 3) := by decide +kernel
theorem dL_texts_3 : decode cL_texts 3 = .ok (.dup, 1) := by decide +kernel
theorem dL_texts_4 : decode cL_texts 4 = .ok (.invokespecial 274, 3) := by decide +kernel
theorem dL_texts_7 : decode cL_texts 7 = .ok (.astore_n 2, 1) := by decide +kernel
theorem dL_texts_8 : decode cL_texts 8 = .ok (.new 272, 3) := by decide +kernel
theorem dL_texts_11 : decode cL_texts 11 = .ok (.dup, 1) := by decide +kernel
theorem dL_texts_12 : decode cL_texts 12 = .ok (.invokespecial 274, 3) := by decide +kernel
theorem dL_texts_15 : decode cL_texts 15 = .ok (.astore_n 3, 1) := by decide +kernel
theorem dL_texts_16 : decode cL_texts 16 = .ok (.new 272, 3) := by decide +kernel
theorem dL_texts_19 : decode cL_texts 19 = .ok (.dup, 1) := by decide +kernel
theorem dL_texts_20 : decode cL_texts 20 = .ok (.ldc_w 275, 3) := by decide +kernel
theorem dL_texts_23 : decode cL_texts 23 = .ok (.invokespecial 277, 3) := by decide +kernel
theorem dL_texts_26 : decode cL_texts 26 = .ok (.aload_n 1, 1) := by decide +kernel
theorem dL_texts_27 : decode cL_texts 27 = .ok (.getfield 136, 3) := by decide +kernel
theorem dL_texts_30 : decode cL_texts 30 = .ok (.invokevirtual 280, 3) := by decide +kernel
theorem dL_texts_33 : decode cL_texts 33 = .ok (.bipush 32, 2) := by decide +kernel
theorem dL_texts_35 : decode cL_texts 35 = .ok (.invokevirtual 283, 3) := by decide +kernel
theorem dL_texts_38 : decode cL_texts 38 = .ok (.aload_n 1, 1) := by decide +kernel
theorem dL_texts_39 : decode cL_texts 39 = .ok (.getfield 139, 3) := by decide +kernel
theorem dL_texts_42 : decode cL_texts 42 = .ok (.invokevirtual 280, 3) := by decide +kernel
theorem dL_texts_45 : decode cL_texts 45 = .ok (.bipush 32, 2) := by decide +kernel
theorem dL_texts_47 : decode cL_texts 47 = .ok (.invokevirtual 283, 3) := by decide +kernel
theorem dL_texts_50 : decode cL_texts 50 = .ok (.aload_n 1, 1) := by decide +kernel
theorem dL_texts_51 : decode cL_texts 51 = .ok (.getfield 142, 3) := by decide +kernel
theorem dL_texts_54 : decode cL_texts 54 = .ok (.invokevirtual 280, 3) := by decide +kernel
theorem dL_texts_57 : decode cL_texts 57 = .ok (.bipush 32, 2) := by decide +kernel
theorem dL_texts_59 : decode cL_texts 59 = .ok (.invokevirtual 283, 3) := by decide +kernel
theorem dL_texts_62 : decode cL_texts 62 = .ok (.aload_n 1, 1) := by decide +kernel
theorem dL_texts_63 : decode cL_texts 63 = .ok (.getfield 145, 3) := by decide +kernel
theorem dL_texts_66 : decode cL_texts 66 = .ok (.invokevirtual 280, 3) := by decide +kernel
theorem dL_texts_69 : decode cL_texts 69 = .ok (.astore 4, 2) := by decide +kernel
theorem dL_texts_71 : decode cL_texts 71 = .ok (.iconst 0, 1) := by decide +kernel
theorem dL_texts_72 : decode cL_texts 72 = .ok (.istore 5, 2) := by decide +kernel
theorem dL_texts_74 : decode cL_texts 74 = .ok (.iload 5, 2) := by decide +kernel
theorem dL_texts_76 : decode cL_texts 76 = .ok (.aload_n 1, 1) := by decide +kernel
theorem dL_texts_77 : decode cL_texts 77 = .ok (.getfield 114, 3) := by decide +kernel
theorem dL_texts_80 : decode cL_texts 80 = .ok (.arraylength, 1) := by decide +kernel
theorem dL_texts_81 : decode cL_texts 81 = .ok (.if_icmp .ge 18, 3) := by decide +kernel
theorem dL_texts_84 : decode cL_texts 84 = .ok (.aload 4, 2) := by decide +kernel
theorem dL_texts_86 : decode cL_texts 86 = .ok (.ldc_w 286, 3) := by decide +kernel
theorem dL_texts_89 : decode cL_texts 89 = .ok (.invokevirtual 288, 3) := by decide +kernel
theorem dL_texts_92 : decode cL_texts 92 = .ok (.pop, 1) := by decide +kernel
theorem dL_texts_93 : decode cL_texts 93 = .ok (.iinc 5 1, 3) := by decide +kernel
theorem dL_texts_96 : decode cL_texts 96 = .ok (.goto (-22), 3) := by decide +kernel
theorem dL_texts_99 : decode cL_texts 99 = .ok (.iconst 0, 1) := by decide +kernel
theorem dL_texts_100 : decode cL_texts 100 = .ok (.istore 5, 2) := by decide +kernel
theorem dL_texts_102 : decode cL_texts 102 = .ok (.iload 5, 2) := by decide +kernel
theorem dL_texts_104 : decode cL_texts 104 = .ok (.aload_n 1, 1) := by decide +kernel
theorem dL_texts_105 : decode cL_texts 105 = .ok (.getfield 114, 3) := by decide +kernel
theorem dL_texts_108 : decode cL_texts 108 = .ok (.arraylength, 1) := by decide +kernel
theorem dL_texts_109 : decode cL_texts 109 = .ok (.if_icmp .ge 299, 3) := by decide +kernel
theorem dL_texts_112 : decode cL_texts 112 = .ok (.aload_n 1, 1) := by decide +kernel
theorem dL_texts_113 : decode cL_texts 113 = .ok (.getfield 114, 3) := by decide +kernel
theorem dL_texts_116 : decode cL_texts 116 = .ok (.iload 5, 2) := by decide +kernel
theorem dL_texts_118 : decode cL_texts 118 = .ok (.aaload, 1) := by decide +kernel
theorem dL_texts_119 : decode cL_texts 119 = .ok (.astore 6, 2) := by decide +kernel
theorem dL_texts_121 : decode cL_texts 121 = .ok (.aload_n 2, 1) := by decide +kernel
theorem dL_texts_122 : decode cL_texts 122 = .ok (.iload 5, 2) := by decide +kernel
theorem dL_texts_124 : decode cL_texts 124 = .ok (.ifCond .le 9, 3) := by decide +kernel
theorem dL_texts_127 : decode cL_texts 127 = .ok (.ldc_w 291, 3) := by decide +kernel
theorem dL_texts_130 : decode cL_texts 130 = .ok (.goto 6, 3) := by decide +kernel
theorem dL_texts_133 : decode cL_texts 133 = .ok (.ldc_w 293, 3) := by decide +kernel
theorem dL_texts_136 : decode cL_texts 136 = .ok (.invokevirtual 288, 3) := by decide +kernel
theorem dL_texts_139 : decode cL_texts 139 = .ok (.pop, 1) := by decide +kernel
theorem dL_texts_140 : decode cL_texts 140 = .ok (.aload 6, 2) := by decide +kernel
theorem dL_texts_142 : decode cL_texts 142 = .ok (.invokevirtual 164, 3) := by decide +kernel
theorem dL_texts_145 : decode cL_texts 145 = .ok (.ifCond .eq 13, 3) := by decide +kernel
theorem dL_texts_148 : decode cL_texts 148 = .ok (.aload_n 2, 1) := by decide +kernel
theorem dL_texts_149 : decode cL_texts 149 = .ok (.bipush 45, 2) := by decide +kernel
theorem dL_texts_151 : decode cL_texts 151 = .ok (.invokevirtual 283, 3) := by decide +kernel
theorem dL_texts_154 : decode cL_texts 154 = .ok (.pop, 1) := by decide +kernel
theorem dL_texts_155 : decode cL_texts 155 = .ok (.goto 247, 3) := by decide +kernel
theorem dL_texts_158 : decode cL_texts 158 = .ok (.aload_n 2, 1) := by decide +kernel
theorem dL_texts_159 : decode cL_texts 159 = .ok (.aload 6, 2) := by decide +kernel
theorem dL_texts_161 : decode cL_texts 161 = .ok (.getfield 183, 3) := by decide +kernel
theorem dL_texts_164 : decode cL_texts 164 = .ok (.iconst 0, 1) := by decide +kernel
theorem dL_texts_165 : decode cL_texts 165 = .ok (.iaload, 1) := by decide +kernel
theorem dL_texts_166 : decode cL_texts 166 = .ok (.invokevirtual 280, 3) := by decide +kernel
theorem dL_texts_169 : decode cL_texts 169 = .ok (.bipush 58, 2) := by decide +kernel
theorem dL_texts_171 : decode cL_texts 171 = .ok (.invokevirtual 283, 3) := by decide +kernel
theorem dL_texts_174 : decode cL_texts 174 = .ok (.aload 6, 2) := by decide +kernel
theorem dL_texts_176 : decode cL_texts 176 = .ok (.getfield 168, 3) := by decide +kernel
theorem dL_texts_179 : decode cL_texts 179 = .ok (.invokevirtual 280, 3) := by decide +kernel
theorem dL_texts_182 : decode cL_texts 182 = .ok (.bipush 47, 2) := by decide +kernel
theorem dL_texts_184 : decode cL_texts 184 = .ok (.invokevirtual 283, 3) := by decide +kernel
theorem dL_texts_187 : decode cL_texts 187 = .ok (.aload 6, 2) := by decide +kernel
theorem dL_texts_189 : decode cL_texts 189 = .ok (.getfield 129, 3) := by decide +kernel
theorem dL_texts_192 : decode cL_texts 192 = .ok (.invokevirtual 280, 3) := by decide +kernel
theorem dL_texts_195 : decode cL_texts 195 = .ok (.aload 6, 2) := by decide +kernel
theorem dL_texts_197 : decode cL_texts 197 = .ok (.getfield 123, 3) := by decide +kernel
theorem dL_texts_200 : decode cL_texts 200 = .ok (.ifCond .eq 9, 3) := by decide +kernel
theorem dL_texts_203 : decode cL_texts 203 = .ok (.ldc_w 295, 3) := by decide +kernel
theorem dL_texts_206 : decode cL_texts 206 = .ok (.goto 6, 3) := by decide +kernel
theorem dL_texts_209 : decode cL_texts 209 = .ok (.ldc_w 293, 3) := by decide +kernel
theorem dL_texts_212 : decode cL_texts 212 = .ok (.invokevirtual 288, 3) := by decide +kernel
theorem dL_texts_215 : decode cL_texts 215 = .ok (.aload_n 1, 1) := by decide +kernel
theorem dL_texts_216 : decode cL_texts 216 = .ok (.getfield 151, 3) := by decide +kernel
theorem dL_texts_219 : decode cL_texts 219 = .ok (.iload 5, 2) := by decide +kernel
theorem dL_texts_221 : decode cL_texts 221 = .ok (.if_icmp .ne 9, 3) := by decide +kernel
theorem dL_texts_224 : decode cL_texts 224 = .ok (.ldc_w 297, 3) := by decide +kernel
theorem dL_texts_227 : decode cL_texts 227 = .ok (.goto 6, 3) := by decide +kernel
theorem dL_texts_230 : decode cL_texts 230 = .ok (.ldc_w 293, 3) := by decide +kernel
theorem dL_texts_233 : decode cL_texts 233 = .ok (.invokevirtual 288, 3) := by decide +kernel
theorem dL_texts_236 : decode cL_texts 236 = .ok (.pop, 1) := by decide +kernel
theorem dL_texts_237 : decode cL_texts 237 = .ok (.aload 4, 2) := by decide +kernel
theorem dL_texts_239 : decode cL_texts 239 = .ok (.ldc_w 299, 3) := by decide +kernel
theorem dL_texts_242 : decode cL_texts 242 = .ok (.invokevirtual 288, 3) := by decide +kernel
theorem dL_texts_245 : decode cL_texts 245 = .ok (.iload 5, 2) := by decide +kernel
theorem dL_texts_247 : decode cL_texts 247 = .ok (.invokevirtual 280, 3) := by decide +kernel
theorem dL_texts_250 : decode cL_texts 250 = .ok (.bipush 32, 2) := by decide +kernel
theorem dL_texts_252 : decode cL_texts 252 = .ok (.invokevirtual 283, 3) := by decide +kernel
theorem dL_texts_255 : decode cL_texts 255 = .ok (.aload 6, 2) := by decide +kernel
theorem dL_texts_257 : decode cL_texts 257 = .ok (.getfield 183, 3) := by decide +kernel
theorem dL_texts_260 : decode cL_texts 260 = .ok (.iconst 0, 1) := by decide +kernel
theorem dL_texts_261 : decode cL_texts 261 = .ok (.iaload, 1) := by decide +kernel
theorem dL_texts_262 : decode cL_texts 262 = .ok (.invokevirtual 280, 3) := by decide +kernel
theorem dL_texts_265 : decode cL_texts 265 = .ok (.bipush 32, 2) := by decide +kernel
theorem dL_texts_267 : decode cL_texts 267 = .ok (.invokevirtual 283, 3) := by decide +kernel
theorem dL_texts_270 : decode cL_texts 270 = .ok (.aload 6, 2) := by decide +kernel
theorem dL_texts_272 : decode cL_texts 272 = .ok (.getfield 183, 3) := by decide +kernel
theorem dL_texts_275 : decode cL_texts 275 = .ok (.iconst 1, 1) := by decide +kernel
theorem dL_texts_276 : decode cL_texts 276 = .ok (.iaload, 1) := by decide +kernel
theorem dL_texts_277 : decode cL_texts 277 = .ok (.invokevirtual 280, 3) := by decide +kernel
theorem dL_texts_280 : decode cL_texts 280 = .ok (.bipush 32, 2) := by decide +kernel
theorem dL_texts_282 : decode cL_texts 282 = .ok (.invokevirtual 283, 3) := by decide +kernel
theorem dL_texts_285 : decode cL_texts 285 = .ok (.aload 6, 2) := by decide +kernel
theorem dL_texts_287 : decode cL_texts 287 = .ok (.getfield 183, 3) := by decide +kernel
theorem dL_texts_290 : decode cL_texts 290 = .ok (.iconst 2, 1) := by decide +kernel
theorem dL_texts_291 : decode cL_texts 291 = .ok (.iaload, 1) := by decide +kernel
theorem dL_texts_292 : decode cL_texts 292 = .ok (.invokevirtual 280, 3) := by decide +kernel
theorem dL_texts_295 : decode cL_texts 295 = .ok (.aload 6, 2) := by decide +kernel
theorem dL_texts_297 : decode cL_texts 297 = .ok (.getfield 183, 3) := by decide +kernel
theorem dL_texts_300 : decode cL_texts 300 = .ok (.iconst 3, 1) := by decide +kernel
theorem dL_texts_301 : decode cL_texts 301 = .ok (.iaload, 1) := by decide +kernel
theorem dL_texts_302 : decode cL_texts 302 = .ok (.iconst 1, 1) := by decide +kernel
theorem dL_texts_303 : decode cL_texts 303 = .ok (.if_icmp .ne 9, 3) := by decide +kernel
theorem dL_texts_306 : decode cL_texts 306 = .ok (.ldc_w 301, 3) := by decide +kernel
theorem dL_texts_309 : decode cL_texts 309 = .ok (.goto 6, 3) := by decide +kernel
theorem dL_texts_312 : decode cL_texts 312 = .ok (.ldc_w 293, 3) := by decide +kernel
theorem dL_texts_315 : decode cL_texts 315 = .ok (.invokevirtual 288, 3) := by decide +kernel
theorem dL_texts_318 : decode cL_texts 318 = .ok (.aload 6, 2) := by decide +kernel
theorem dL_texts_320 : decode cL_texts 320 = .ok (.getfield 183, 3) := by decide +kernel
theorem dL_texts_323 : decode cL_texts 323 = .ok (.iconst 4, 1) := by decide +kernel
theorem dL_texts_324 : decode cL_texts 324 = .ok (.iaload, 1) := by decide +kernel
theorem dL_texts_325 : decode cL_texts 325 = .ok (.iconst 1, 1) := by decide +kernel
theorem dL_texts_326 : decode cL_texts 326 = .ok (.if_icmp .ne 9, 3) := by decide +kernel
theorem dL_texts_329 : decode cL_texts 329 = .ok (.ldc_w 303, 3) := by decide +kernel
theorem dL_texts_332 : decode cL_texts 332 = .ok (.goto 6, 3) := by decide +kernel
theorem dL_texts_335 : decode cL_texts 335 = .ok (.ldc_w 293, 3) := by decide +kernel
theorem dL_texts_338 : decode cL_texts 338 = .ok (.invokevirtual 288, 3) := by decide +kernel
theorem dL_texts_341 : decode cL_texts 341 = .ok (.pop, 1) := by decide +kernel
theorem dL_texts_342 : decode cL_texts 342 = .ok (.aload 4, 2) := by decide +kernel
theorem dL_texts_344 : decode cL_texts 344 = .ok (.ldc_w 305, 3) := by decide +kernel
theorem dL_texts_347 : decode cL_texts 347 = .ok (.invokevirtual 288, 3) := by decide +kernel
theorem dL_texts_350 : decode cL_texts 350 = .ok (.iload 5, 2) := by decide +kernel
theorem dL_texts_352 : decode cL_texts 352 = .ok (.invokevirtual 280, 3) := by decide +kernel
theorem dL_texts_355 : decode cL_texts 355 = .ok (.bipush 32, 2) := by decide +kernel
theorem dL_texts_357 : decode cL_texts 357 = .ok (.invokevirtual 283, 3) := by decide +kernel
theorem dL_texts_360 : decode cL_texts 360 = .ok (.aload 6, 2) := by decide +kernel
theorem dL_texts_362 : decode cL_texts 362 = .ok (.getfield 168, 3) := by decide +kernel
theorem dL_texts_365 : decode cL_texts 365 = .ok (.invokevirtual 280, 3) := by decide +kernel
theorem dL_texts_368 : decode cL_texts 368 = .ok (.bipush 32, 2) := by decide +kernel
theorem dL_texts_370 : decode cL_texts 370 = .ok (.invokevirtual 283, 3) := by decide +kernel
theorem dL_texts_373 : decode cL_texts 373 = .ok (.aload 6, 2) := by decide +kernel
theorem dL_texts_375 : decode cL_texts 375 = .ok (.getfield 129, 3) := by decide +kernel
theorem dL_texts_378 : decode cL_texts 378 = .ok (.invokevirtual 280, 3) := by decide +kernel
theorem dL_texts_381 : decode cL_texts 381 = .ok (.aload 6, 2) := by decide +kernel
theorem dL_texts_383 : decode cL_texts 383 = .ok (.getfield 123, 3) := by decide +kernel
theorem dL_texts_386 : decode cL_texts 386 = .ok (.ifCond .eq 9, 3) := by decide +kernel
theorem dL_texts_389 : decode cL_texts 389 = .ok (.ldc_w 307, 3) := by decide +kernel
theorem dL_texts_392 : decode cL_texts 392 = .ok (.goto 6, 3) := by decide +kernel
theorem dL_texts_395 : decode cL_texts 395 = .ok (.ldc_w 293, 3) := by decide +kernel
theorem dL_texts_398 : decode cL_texts 398 = .ok (.invokevirtual 288, 3) := by decide +kernel
theorem dL_texts_401 : decode cL_texts 401 = .ok (.pop, 1) := by decide +kernel
theorem dL_texts_402 : decode cL_texts 402 = .ok (.iinc 5 1, 3) := by decide +kernel
theorem dL_texts_405 : decode cL_texts 405 = .ok (.goto (-303), 3) := by decide +kernel
theorem dL_texts_408 : decode cL_texts 408 = .ok (.iconst 0, 1) := by decide +kernel
theorem dL_texts_409 : decode cL_texts 409 = .ok (.aload_n 1, 1) := by decide +kernel
theorem dL_texts_410 : decode cL_texts 410 = .ok (.getfield 194, 3) := by decide +kernel
theorem dL_texts_413 : decode cL_texts 413 = .ok (.arraylength, 1) := by decide +kernel
theorem dL_texts_414 : decode cL_texts 414 = .ok (.bipush 12, 2) := by decide +kernel
theorem dL_texts_416 : decode cL_texts 416 = .ok (.isub, 1) := by decide +kernel
theorem dL_texts_417 : decode cL_texts 417 = .ok (.invokestatic 220, 3) := by decide +kernel
theorem dL_texts_420 : decode cL_texts 420 = .ok (.istore 5, 2) := by decide +kernel
theorem dL_texts_422 : decode cL_texts 422 = .ok (.iload 5, 2) := by decide +kernel
theorem dL_texts_424 : decode cL_texts 424 = .ok (.aload_n 1, 1) := by decide +kernel
theorem dL_texts_425 : decode cL_texts 425 = .ok (.getfield 194, 3) := by decide +kernel
theorem dL_texts_428 : decode cL_texts 428 = .ok (.arraylength, 1) := by decide +kernel
theorem dL_texts_429 : decode cL_texts 429 = .ok (.if_icmp .ge 85, 3) := by decide +kernel
theorem dL_texts_432 : decode cL_texts 432 = .ok (.aload_n 1, 1) := by decide +kernel
theorem dL_texts_433 : decode cL_texts 433 = .ok (.getfield 194, 3) := by decide +kernel
theorem dL_texts_436 : decode cL_texts 436 = .ok (.iload 5, 2) := by decide +kernel
theorem dL_texts_438 : decode cL_texts 438 = .ok (.aaload, 1) := by decide +kernel
theorem dL_texts_439 : decode cL_texts 439 = .ok (.astore 6, 2) := by decide +kernel
theorem dL_texts_441 : decode cL_texts 441 = .ok (.aload_n 3, 1) := by decide +kernel
theorem dL_texts_442 : decode cL_texts 442 = .ok (.aload_n 3, 1) := by decide +kernel
theorem dL_texts_443 : decode cL_texts 443 = .ok (.invokevirtual 309, 3) := by decide +kernel
theorem dL_texts_446 : decode cL_texts 446 = .ok (.ifCond .le 9, 3) := by decide +kernel
theorem dL_texts_449 : decode cL_texts 449 = .ok (.ldc_w 291, 3) := by decide +kernel
theorem dL_texts_452 : decode cL_texts 452 = .ok (.goto 6, 3) := by decide +kernel
theorem dL_texts_455 : decode cL_texts 455 = .ok (.ldc_w 293, 3) := by decide +kernel
theorem dL_texts_458 : decode cL_texts 458 = .ok (.invokevirtual 288, 3) := by decide +kernel
theorem dL_texts_461 : decode cL_texts 461 = .ok (.aload 6, 2) := by decide +kernel
theorem dL_texts_463 : decode cL_texts 463 = .ok (.iconst 0, 1) := by decide +kernel
theorem dL_texts_464 : decode cL_texts 464 = .ok (.iaload, 1) := by decide +kernel
theorem dL_texts_465 : decode cL_texts 465 = .ok (.invokevirtual 280, 3) := by decide +kernel
theorem dL_texts_468 : decode cL_texts 468 = .ok (.ldc_w 310, 3) := by decide +kernel
theorem dL_texts_471 : decode cL_texts 471 = .ok (.aload 6, 2) := by decide +kernel
theorem dL_texts_473 : decode cL_texts 473 = .ok (.iconst 1, 1) := by decide +kernel
theorem dL_texts_474 : decode cL_texts 474 = .ok (.iaload, 1) := by decide +kernel
theorem dL_texts_475 : decode cL_texts 475 = .ok (.invokevirtual 13, 3) := by decide +kernel
theorem dL_texts_478 : decode cL_texts 478 = .ok (.invokevirtual 283, 3) := by decide +kernel
theorem dL_texts_481 : decode cL_texts 481 = .ok (.pop, 1) := by decide +kernel
theorem dL_texts_482 : decode cL_texts 482 = .ok (.aload 6, 2) := by decide +kernel
theorem dL_texts_484 : decode cL_texts 484 = .ok (.iconst 3, 1) := by decide +kernel
theorem dL_texts_485 : decode cL_texts 485 = .ok (.iaload, 1) := by decide +kernel
theorem dL_texts_486 : decode cL_texts 486 = .ok (.ifCond .ge 13, 3) := by decide +kernel
theorem dL_texts_489 : decode cL_texts 489 = .ok (.aload_n 3, 1) := by decide +kernel
theorem dL_texts_490 : decode cL_texts 490 = .ok (.bipush 114, 2) := by decide +kernel
theorem dL_texts_492 : decode cL_texts 492 = .ok (.invokevirtual 283, 3) := by decide +kernel
theorem dL_texts_495 : decode cL_texts 495 = .ok (.pop, 1) := by decide +kernel
theorem dL_texts_496 : decode cL_texts 496 = .ok (.goto 12, 3) := by decide +kernel
theorem dL_texts_499 : decode cL_texts 499 = .ok (.aload_n 3, 1) := by decide +kernel
theorem dL_texts_500 : decode cL_texts 500 = .ok (.aload 6, 2) := by decide +kernel
theorem dL_texts_502 : decode cL_texts 502 = .ok (.iconst 3, 1) := by decide +kernel
theorem dL_texts_503 : decode cL_texts 503 = .ok (.iaload, 1) := by decide +kernel
theorem dL_texts_504 : decode cL_texts 504 = .ok (.invokevirtual 280, 3) := by decide +kernel
theorem dL_texts_507 : decode cL_texts 507 = .ok (.pop, 1) := by decide +kernel
theorem dL_texts_508 : decode cL_texts 508 = .ok (.iinc 5 1, 3) := by decide +kernel
theorem dL_texts_511 : decode cL_texts 511 = .ok (.goto (-89), 3) := by decide +kernel
theorem dL_texts_514 : decode cL_texts 514 = .ok (.aload_n 0, 1) := by decide +kernel
theorem dL_texts_515 : decode cL_texts 515 = .ok (.aload_n 0, 1) := by decide +kernel
theorem dL_texts_516 : decode cL_texts 516 = .ok (.invokevirtual 312, 3) := by decide +kernel
theorem dL_texts_519 : decode cL_texts 519 = .ok (.aload_n 2, 1) := by decide +kernel
theorem dL_texts_520 : decode cL_texts 520 = .ok (.invokevirtual 315, 3) := by decide +kernel
theorem dL_texts_523 : decode cL_texts 523 = .ok (.invokestatic 319, 3) := by decide +kernel
theorem dL_texts_526 : decode cL_texts 526 = .ok (.ifCond .eq 51, 3) := by decide +kernel
theorem dL_texts_529 : decode cL_texts 529 = .ok (.aload_n 0, 1) := by decide +kernel
theorem dL_texts_530 : decode cL_texts 530 = .ok (.aload_n 0, 1) := by decide +kernel
theorem dL_texts_531 : decode cL_texts 531 = .ok (.invokevirtual 323, 3) := by decide +kernel
theorem dL_texts_534 : decode cL_texts 534 = .ok (.aload_n 3, 1) := by decide +kernel
theorem dL_texts_535 : decode cL_texts 535 = .ok (.invokevirtual 309, 3) := by decide +kernel
theorem dL_texts_538 : decode cL_texts 538 = .ok (.ifCond .ne 9, 3) := by decide +kernel
theorem dL_texts_541 : decode cL_texts 541 = .ok (.ldc_w 326, 3) := by decide +kernel
theorem dL_texts_544 : decode cL_texts 544 = .ok (.goto 7, 3) := by decide +kernel
theorem dL_texts_547 : decode cL_texts 547 = .ok (.aload_n 3, 1) := by decide +kernel
theorem dL_texts_548 : decode cL_texts 548 = .ok (.invokevirtual 315, 3) := by decide +kernel
theorem dL_texts_551 : decode cL_texts 551 = .ok (.invokestatic 319, 3) := by decide +kernel
theorem dL_texts_554 : decode cL_texts 554 = .ok (.ifCond .eq 23, 3) := by decide +kernel
theorem dL_texts_557 : decode cL_texts 557 = .ok (.aload_n 0, 1) := by decide +kernel
theorem dL_texts_558 : decode cL_texts 558 = .ok (.aload_n 0, 1) := by decide +kernel
theorem dL_texts_559 : decode cL_texts 559 = .ok (.invokevirtual 328, 3) := by decide +kernel
theorem dL_texts_562 : decode cL_texts 562 = .ok (.aload 4, 2) := by decide +kernel
theorem dL_texts_564 : decode cL_texts 564 = .ok (.invokevirtual 315, 3) := by decide +kernel
theorem dL_texts_567 : decode cL_texts 567 = .ok (.invokestatic 319, 3) := by decide +kernel
theorem dL_texts_570 : decode cL_texts 570 = .ok (.ifCond .eq 7, 3) := by decide +kernel
theorem dL_texts_573 : decode cL_texts 573 = .ok (.iconst 1, 1) := by decide +kernel
theorem dL_texts_574 : decode cL_texts 574 = .ok (.goto 4, 3) := by decide +kernel
theorem dL_texts_577 : decode cL_texts 577 = .ok (.iconst 0, 1) := by decide +kernel
theorem dL_texts_578 : decode cL_texts 578 = .ok (.ireturn, 1) := by decide +kernel
theorem dL_shares_0 : decode cL_shares 0 = .ok (.aload_n 1, 1) := by decide +kernel
theorem dL_shares_1 : decode cL_shares 1 = .ok (.getfield 160, 3) := by decide +kernel
theorem dL_shares_4 : decode cL_shares 4 = .ok (.bipush 13, 2) := by decide +kernel
theorem dL_shares_6 : decode cL_shares 6 = .ok (.iaload, 1) := by decide +kernel
theorem dL_shares_7 : decode cL_shares 7 = .ok (.ifCond .ne 7, 3) := by decide +kernel
theorem dL_shares_10 : decode cL_shares 10 = .ok (.fconst 0, 1) := by decide +kernel
theorem dL_shares_11 : decode cL_shares 11 = .ok (.goto 20, 3) := by decide +kernel
theorem dL_shares_14 : decode cL_shares 14 = .ok (.aload_n 1, 1) := by decide +kernel
theorem dL_shares_15 : decode cL_shares 15 = .ok (.getfield 160, 3) := by decide +kernel
theorem dL_shares_18 : decode cL_shares 18 = .ok (.bipush 17, 2) := by decide +kernel
theorem dL_shares_20 : decode cL_shares 20 = .ok (.iaload, 1) := by decide +kernel
theorem dL_shares_21 : decode cL_shares 21 = .ok (.i2f, 1) := by decide +kernel
theorem dL_shares_22 : decode cL_shares 22 = .ok (.aload_n 1, 1) := by decide +kernel
theorem dL_shares_23 : decode cL_shares 23 = .ok (.getfield 160, 3) := by decide +kernel
theorem dL_shares_26 : decode cL_shares 26 = .ok (.bipush 13, 2) := by decide +kernel
theorem dL_shares_28 : decode cL_shares 28 = .ok (.iaload, 1) := by decide +kernel
theorem dL_shares_29 : decode cL_shares 29 = .ok (.i2f, 1) := by decide +kernel
theorem dL_shares_30 : decode cL_shares 30 = .ok (.fdiv, 1) := by decide +kernel
theorem dL_shares_31 : decode cL_shares 31 = .ok (.fstore_n 2, 1) := by decide +kernel
theorem dL_shares_32 : decode cL_shares 32 = .ok (.aload_n 1, 1) := by decide +kernel
theorem dL_shares_33 : decode cL_shares 33 = .ok (.getfield 160, 3) := by decide +kernel
theorem dL_shares_36 : decode cL_shares 36 = .ok (.bipush 12, 2) := by decide +kernel
theorem dL_shares_38 : decode cL_shares 38 = .ok (.iaload, 1) := by decide +kernel
theorem dL_shares_39 : decode cL_shares 39 = .ok (.ifCond .ne 7, 3) := by decide +kernel
theorem dL_shares_42 : decode cL_shares 42 = .ok (.dconst 0, 1) := by decide +kernel
theorem dL_shares_43 : decode cL_shares 43 = .ok (.goto 17, 3) := by decide +kernel
theorem dL_shares_46 : decode cL_shares 46 = .ok (.aload_n 1, 1) := by decide +kernel
theorem dL_shares_47 : decode cL_shares 47 = .ok (.getfield 133, 3) := by decide +kernel
theorem dL_shares_50 : decode cL_shares 50 = .ok (.i2d, 1) := by decide +kernel
theorem dL_shares_51 : decode cL_shares 51 = .ok (.aload_n 1, 1) := by decide +kernel
theorem dL_shares_52 : decode cL_shares 52 = .ok (.getfield 160, 3) := by decide +kernel
theorem dL_shares_55 : decode cL_shares 55 = .ok (.bipush 12, 2) := by decide +kernel
theorem dL_shares_57 : decode cL_shares 57 = .ok (.iaload, 1) := by decide +kernel
theorem dL_shares_58 : decode cL_shares 58 = .ok (.i2d, 1) := by decide +kernel
theorem dL_shares_59 : decode cL_shares 59 = .ok (.ddiv, 1) := by decide +kernel
theorem dL_shares_60 : decode cL_shares 60 = .ok (.dstore_n 3, 1) := by decide +kernel
theorem dL_shares_61 : decode cL_shares 61 = .ok (.aload_n 0, 1) := by decide +kernel
theorem dL_shares_62 : decode cL_shares 62 = .ok (.invokevirtual 331, 3) := by decide +kernel
theorem dL_shares_65 : decode cL_shares 65 = .ok (.fload_n 2, 1) := by decide +kernel
theorem dL_shares_66 : decode cL_shares 66 = .ok (.fcmp .l, 1) := by decide +kernel
theorem dL_shares_67 : decode cL_shares 67 = .ok (.ifCond .ne 16, 3) := by decide +kernel
theorem dL_shares_70 : decode cL_shares 70 = .ok (.aload_n 0, 1) := by decide +kernel
theorem dL_shares_71 : decode cL_shares 71 = .ok (.invokevirtual 335, 3) := by decide +kernel
theorem dL_shares_74 : decode cL_shares 74 = .ok (.dload_n 3, 1) := by decide +kernel
theorem dL_shares_75 : decode cL_shares 75 = .ok (.dcmp .l, 1) := by decide +kernel
theorem dL_shares_76 : decode cL_shares 76 = .ok (.ifCond .ne 7, 3) := by decide +kernel
theorem dL_shares_79 : decode cL_shares 79 = .ok (.iconst 1, 1) := by decide +kernel
theorem dL_shares_80 : decode cL_shares 80 = .ok (.goto 4, 3) := by decide +kernel
theorem dL_shares_83 : decode cL_shares 83 = .ok (.iconst 0, 1) := by decide +kernel
theorem dL_shares_84 : decode cL_shares 84 = .ok (.ireturn, 1) := by decide +kernel
theorem dL_law_0 : decode cL_law 0 = .ok (.new 199, 3) := by decide +kernel
theorem dL_law_3 : decode cL_law 3 = .ok (.dup, 1) := by decide +kernel
theorem dL_law_4 : decode cL_law 4 = .ok (.aload_n 0, 1) := by decide +kernel
theorem dL_law_5 : decode cL_law 5 = .ok (.invokespecial 339, 3) := by decide +kernel
theorem dL_law_8 : decode cL_law 8 = .ok (.astore_n 1, 1) := by decide +kernel
theorem dL_law_9 : decode cL_law 9 = .ok (.new 115, 3) := by decide +kernel
theorem dL_law_12 : decode cL_law 12 = .ok (.dup, 1) := by decide +kernel
theorem dL_law_13 : decode cL_law 13 = .ok (.aload_n 1, 1) := by decide +kernel
theorem dL_law_14 : decode cL_law 14 = .ok (.invokespecial 342, 3) := by decide +kernel
theorem dL_law_17 : decode cL_law 17 = .ok (.astore_n 2, 1) := by decide +kernel
theorem dL_law_18 : decode cL_law 18 = .ok (.new 18, 3) := by decide +kernel
theorem dL_law_21 : decode cL_law 21 = .ok (.dup, 1) := by decide +kernel
theorem dL_law_22 : decode cL_law 22 = .ok (.invokespecial 345, 3) := by decide +kernel
theorem dL_law_25 : decode cL_law 25 = .ok (.astore_n 3, 1) := by decide +kernel
theorem dL_law_26 : decode cL_law 26 = .ok (.aload_n 3, 1) := by decide +kernel
theorem dL_law_27 : decode cL_law 27 = .ok (.iconst 0, 1) := by decide +kernel
theorem dL_law_28 : decode cL_law 28 = .ok (.iconst 1, 1) := by decide +kernel
theorem dL_law_29 : decode cL_law 29 = .ok (.newarray .int, 2) := by decide +kernel
theorem dL_law_31 : decode cL_law 31 = .ok (.dup, 1) := by decide +kernel
theorem dL_law_32 : decode cL_law 32 = .ok (.iconst 0, 1) := by decide +kernel
theorem dL_law_33 : decode cL_law 33 = .ok (.iconst 0, 1) := by decide +kernel
theorem dL_law_34 : decode cL_law 34 = .ok (.iastore, 1) := by decide +kernel
theorem dL_law_35 : decode cL_law 35 = .ok (.invokestatic 110, 3) := by decide +kernel
theorem dL_law_38 : decode cL_law 38 = .ok (.iconst 1, 1) := by decide +kernel
theorem dL_law_39 : decode cL_law 39 = .ok (.if_icmp .ne 69, 3) := by decide +kernel
theorem dL_law_42 : decode cL_law 42 = .ok (.aload_n 3, 1) := by decide +kernel
theorem dL_law_43 : decode cL_law 43 = .ok (.bipush 8, 2) := by decide +kernel
theorem dL_law_45 : decode cL_law 45 = .ok (.iconst 1, 1) := by decide +kernel
theorem dL_law_46 : decode cL_law 46 = .ok (.newarray .int, 2) := by decide +kernel
theorem dL_law_48 : decode cL_law 48 = .ok (.dup, 1) := by decide +kernel
theorem dL_law_49 : decode cL_law 49 = .ok (.iconst 0, 1) := by decide +kernel
theorem dL_law_50 : decode cL_law 50 = .ok (.iconst 1, 1) := by decide +kernel
theorem dL_law_51 : decode cL_law 51 = .ok (.iastore, 1) := by decide +kernel
theorem dL_law_52 : decode cL_law 52 = .ok (.invokestatic 110, 3) := by decide +kernel
theorem dL_law_55 : decode cL_law 55 = .ok (.iconst 1, 1) := by decide +kernel
theorem dL_law_56 : decode cL_law 56 = .ok (.if_icmp .ne 52, 3) := by decide +kernel
theorem dL_law_59 : decode cL_law 59 = .ok (.aload_n 3, 1) := by decide +kernel
theorem dL_law_60 : decode cL_law 60 = .ok (.bipush 16, 2) := by decide +kernel
theorem dL_law_62 : decode cL_law 62 = .ok (.iconst 0, 1) := by decide +kernel
theorem dL_law_63 : decode cL_law 63 = .ok (.newarray .int, 2) := by decide +kernel
theorem dL_law_65 : decode cL_law 65 = .ok (.invokestatic 110, 3) := by decide +kernel
theorem dL_law_68 : decode cL_law 68 = .ok (.iconst 1, 1) := by decide +kernel
theorem dL_law_69 : decode cL_law 69 = .ok (.if_icmp .ne 39, 3) := by decide +kernel
theorem dL_law_72 : decode cL_law 72 = .ok (.aload_n 3, 1) := by decide +kernel
theorem dL_law_73 : decode cL_law 73 = .ok (.iconst 5, 1) := by decide +kernel
theorem dL_law_74 : decode cL_law 74 = .ok (.iconst 0, 1) := by decide +kernel
theorem dL_law_75 : decode cL_law 75 = .ok (.newarray .int, 2) := by decide +kernel
theorem dL_law_77 : decode cL_law 77 = .ok (.invokestatic 110, 3) := by decide +kernel
theorem dL_law_80 : decode cL_law 80 = .ok (.iconst 1, 1) := by decide +kernel
theorem dL_law_81 : decode cL_law 81 = .ok (.if_icmp .ne 27, 3) := by decide +kernel
theorem dL_law_84 : decode cL_law 84 = .ok (.aload_n 3, 1) := by decide +kernel
theorem dL_law_85 : decode cL_law 85 = .ok (.bipush 11, 2) := by decide +kernel
theorem dL_law_87 : decode cL_law 87 = .ok (.iconst 1, 1) := by decide +kernel
theorem dL_law_88 : decode cL_law 88 = .ok (.newarray .int, 2) := by decide +kernel
theorem dL_law_90 : decode cL_law 90 = .ok (.dup, 1) := by decide +kernel
theorem dL_law_91 : decode cL_law 91 = .ok (.iconst 0, 1) := by decide +kernel
theorem dL_law_92 : decode cL_law 92 = .ok (.iconst 0, 1) := by decide +kernel
theorem dL_law_93 : decode cL_law 93 = .ok (.iastore, 1) := by decide +kernel
theorem dL_law_94 : decode cL_law 94 = .ok (.invokestatic 110, 3) := by decide +kernel
theorem dL_law_97 : decode cL_law 97 = .ok (.iconst 2, 1) := by decide +kernel
theorem dL_law_98 : decode cL_law 98 = .ok (.if_icmp .ne 10, 3) := by decide +kernel
theorem dL_law_101 : decode cL_law 101 = .ok (.aload_n 3, 1) := by decide +kernel
theorem dL_law_102 : decode cL_law 102 = .ok (.invokevirtual 346, 3) := by decide +kernel
theorem dL_law_105 : decode cL_law 105 = .ok (.ifCond .eq 5, 3) := by decide +kernel
theorem dL_law_108 : decode cL_law 108 = .ok (.iconst 0, 1) := by decide +kernel
theorem dL_law_109 : decode cL_law 109 = .ok (.ireturn, 1) := by decide +kernel
theorem dL_law_110 : decode cL_law 110 = .ok (.aload_n 3, 1) := by decide +kernel
theorem dL_law_111 : decode cL_law 111 = .ok (.aload_n 2, 1) := by decide +kernel
theorem dL_law_112 : decode cL_law 112 = .ok (.getfield 349, 3) := by decide +kernel
theorem dL_law_115 : decode cL_law 115 = .ok (.invokevirtual 315, 3) := by decide +kernel
theorem dL_law_118 : decode cL_law 118 = .ok (.invokestatic 353, 3) := by decide +kernel
theorem dL_law_121 : decode cL_law 121 = .ok (.aload_n 2, 1) := by decide +kernel
theorem dL_law_122 : decode cL_law 122 = .ok (.getfield 114, 3) := by decide +kernel
theorem dL_law_125 : decode cL_law 125 = .ok (.arraylength, 1) := by decide +kernel
theorem dL_law_126 : decode cL_law 126 = .ok (.if_icmp .ne 26, 3) := by decide +kernel
theorem dL_law_129 : decode cL_law 129 = .ok (.aload_n 3, 1) := by decide +kernel
theorem dL_law_130 : decode cL_law 130 = .ok (.invokevirtual 357, 3) := by decide +kernel
theorem dL_law_133 : decode cL_law 133 = .ok (.ifCond .ne 19, 3) := by decide +kernel
theorem dL_law_136 : decode cL_law 136 = .ok (.aload_n 3, 1) := by decide +kernel
theorem dL_law_137 : decode cL_law 137 = .ok (.invokevirtual 360, 3) := by decide +kernel
theorem dL_law_140 : decode cL_law 140 = .ok (.iconst (-1), 1) := by decide +kernel
theorem dL_law_141 : decode cL_law 141 = .ok (.if_icmp .ne 11, 3) := by decide +kernel
theorem dL_law_144 : decode cL_law 144 = .ok (.aload_n 3, 1) := by decide +kernel
theorem dL_law_145 : decode cL_law 145 = .ok (.aload_n 2, 1) := by decide +kernel
theorem dL_law_146 : decode cL_law 146 = .ok (.invokestatic 363, 3) := by decide +kernel
theorem dL_law_149 : decode cL_law 149 = .ok (.ifCond .ne 5, 3) := by decide +kernel
theorem dL_law_152 : decode cL_law 152 = .ok (.iconst 0, 1) := by decide +kernel
theorem dL_law_153 : decode cL_law 153 = .ok (.ireturn, 1) := by decide +kernel
theorem dL_law_154 : decode cL_law 154 = .ok (.aload_n 1, 1) := by decide +kernel
theorem dL_law_155 : decode cL_law 155 = .ok (.iconst 1, 1) := by decide +kernel
theorem dL_law_156 : decode cL_law 156 = .ok (.bipush 8, 2) := by decide +kernel
theorem dL_law_158 : decode cL_law 158 = .ok (.invokevirtual 198, 3) := by decide +kernel
theorem dL_law_161 : decode cL_law 161 = .ok (.istore 4, 2) := by decide +kernel
theorem dL_law_163 : decode cL_law 163 = .ok (.iload 4, 2) := by decide +kernel
theorem dL_law_165 : decode cL_law 165 = .ok (.ifCond .le 69, 3) := by decide +kernel
theorem dL_law_168 : decode cL_law 168 = .ok (.iconst 0, 1) := by decide +kernel
theorem dL_law_169 : decode cL_law 169 = .ok (.istore 5, 2) := by decide +kernel
theorem dL_law_171 : decode cL_law 171 = .ok (.iload 5, 2) := by decide +kernel
theorem dL_law_173 : decode cL_law 173 = .ok (.iconst 3, 1) := by decide +kernel
theorem dL_law_174 : decode cL_law 174 = .ok (.if_icmp .ge 20, 3) := by decide +kernel
theorem dL_law_177 : decode cL_law 177 = .ok (.aload_n 3, 1) := by decide +kernel
theorem dL_law_178 : decode cL_law 178 = .ok (.aload_n 2, 1) := by decide +kernel
theorem dL_law_179 : decode cL_law 179 = .ok (.aload_n 1, 1) := by decide +kernel
theorem dL_law_180 : decode cL_law 180 = .ok (.invokestatic 367, 3) := by decide +kernel
theorem dL_law_183 : decode cL_law 183 = .ok (.ifCond .ne 5, 3) := by decide +kernel
theorem dL_law_186 : decode cL_law 186 = .ok (.iconst 0, 1) := by decide +kernel
theorem dL_law_187 : decode cL_law 187 = .ok (.ireturn, 1) := by decide +kernel
theorem dL_law_188 : decode cL_law 188 = .ok (.iinc 5 1, 3) := by decide +kernel
theorem dL_law_191 : decode cL_law 191 = .ok (.goto (-20), 3) := by decide +kernel
theorem dL_law_194 : decode cL_law 194 = .ok (.aload_n 3, 1) := by decide +kernel
theorem dL_law_195 : decode cL_law 195 = .ok (.aload_n 2, 1) := by decide +kernel
theorem dL_law_196 : decode cL_law 196 = .ok (.invokestatic 363, 3) := by decide +kernel
theorem dL_law_199 : decode cL_law 199 = .ok (.ifCond .eq 27, 3) := by decide +kernel
theorem dL_law_202 : decode cL_law 202 = .ok (.aload_n 3, 1) := by decide +kernel
theorem dL_law_203 : decode cL_law 203 = .ok (.aload_n 2, 1) := by decide +kernel
theorem dL_law_204 : decode cL_law 204 = .ok (.invokestatic 371, 3) := by decide +kernel
theorem dL_law_207 : decode cL_law 207 = .ok (.ifCond .eq 19, 3) := by decide +kernel
theorem dL_law_210 : decode cL_law 210 = .ok (.aload_n 3, 1) := by decide +kernel
theorem dL_law_211 : decode cL_law 211 = .ok (.aload_n 2, 1) := by decide +kernel
theorem dL_law_212 : decode cL_law 212 = .ok (.invokestatic 374, 3) := by decide +kernel
theorem dL_law_215 : decode cL_law 215 = .ok (.ifCond .eq 11, 3) := by decide +kernel
theorem dL_law_218 : decode cL_law 218 = .ok (.aload_n 3, 1) := by decide +kernel
theorem dL_law_219 : decode cL_law 219 = .ok (.aload_n 2, 1) := by decide +kernel
theorem dL_law_220 : decode cL_law 220 = .ok (.invokestatic 377, 3) := by decide +kernel
theorem dL_law_223 : decode cL_law 223 = .ok (.ifCond .ne 5, 3) := by decide +kernel
theorem dL_law_226 : decode cL_law 226 = .ok (.iconst 0, 1) := by decide +kernel
theorem dL_law_227 : decode cL_law 227 = .ok (.ireturn, 1) := by decide +kernel
theorem dL_law_228 : decode cL_law 228 = .ok (.iinc 4 (-1), 3) := by decide +kernel
theorem dL_law_231 : decode cL_law 231 = .ok (.goto (-68), 3) := by decide +kernel
theorem dL_law_234 : decode cL_law 234 = .ok (.aload_n 3, 1) := by decide +kernel
theorem dL_law_235 : decode cL_law 235 = .ok (.iconst 0, 1) := by decide +kernel
theorem dL_law_236 : decode cL_law 236 = .ok (.iconst 1, 1) := by decide +kernel
theorem dL_law_237 : decode cL_law 237 = .ok (.newarray .int, 2) := by decide +kernel
theorem dL_law_239 : decode cL_law 239 = .ok (.dup, 1) := by decide +kernel
theorem dL_law_240 : decode cL_law 240 = .ok (.iconst 0, 1) := by decide +kernel
theorem dL_law_241 : decode cL_law 241 = .ok (.bipush 20, 2) := by decide +kernel
theorem dL_law_243 : decode cL_law 243 = .ok (.iastore, 1) := by decide +kernel
theorem dL_law_244 : decode cL_law 244 = .ok (.invokestatic 110, 3) := by decide +kernel
theorem dL_law_247 : decode cL_law 247 = .ok (.iconst 3, 1) := by decide +kernel
theorem dL_law_248 : decode cL_law 248 = .ok (.if_icmp .ne 103, 3) := by decide +kernel
theorem dL_law_251 : decode cL_law 251 = .ok (.aload_n 3, 1) := by decide +kernel
theorem dL_law_252 : decode cL_law 252 = .ok (.iconst 1, 1) := by decide +kernel
theorem dL_law_253 : decode cL_law 253 = .ok (.iconst 2, 1) := by decide +kernel
theorem dL_law_254 : decode cL_law 254 = .ok (.newarray .int, 2) := by decide +kernel
theorem dL_law_256 : decode cL_law 256 = .ok (.dup, 1) := by decide +kernel
theorem dL_law_257 : decode cL_law 257 = .ok (.iconst 0, 1) := by decide +kernel
theorem dL_law_258 : decode cL_law 258 = .ok (.iconst 0, 1) := by decide +kernel
theorem dL_law_259 : decode cL_law 259 = .ok (.iastore, 1) := by decide +kernel
theorem dL_law_260 : decode cL_law 260 = .ok (.dup, 1) := by decide +kernel
theorem dL_law_261 : decode cL_law 261 = .ok (.iconst 1, 1) := by decide +kernel
theorem dL_law_262 : decode cL_law 262 = .ok (.bipush 9, 2) := by decide +kernel
theorem dL_law_264 : decode cL_law 264 = .ok (.iastore, 1) := by decide +kernel
theorem dL_law_265 : decode cL_law 265 = .ok (.invokestatic 110, 3) := by decide +kernel
theorem dL_law_268 : decode cL_law 268 = .ok (.iconst 3, 1) := by decide +kernel
theorem dL_law_269 : decode cL_law 269 = .ok (.if_icmp .ne 82, 3) := by decide +kernel
theorem dL_law_272 : decode cL_law 272 = .ok (.aload_n 3, 1) := by decide +kernel
theorem dL_law_273 : decode cL_law 273 = .ok (.iconst 2, 1) := by decide +kernel
theorem dL_law_274 : decode cL_law 274 = .ok (.iconst 2, 1) := by decide +kernel
theorem dL_law_275 : decode cL_law 275 = .ok (.newarray .int, 2) := by decide +kernel
theorem dL_law_277 : decode cL_law 277 = .ok (.dup, 1) := by decide +kernel
theorem dL_law_278 : decode cL_law 278 = .ok (.iconst 0, 1) := by decide +kernel
theorem dL_law_279 : decode cL_law 279 = .ok (.iconst 0, 1) := by decide +kernel
theorem dL_law_280 : decode cL_law 280 = .ok (.iastore, 1) := by decide +kernel
theorem dL_law_281 : decode cL_law 281 = .ok (.dup, 1) := by decide +kernel
theorem dL_law_282 : decode cL_law 282 = .ok (.iconst 1, 1) := by decide +kernel
theorem dL_law_283 : decode cL_law 283 = .ok (.iconst 5, 1) := by decide +kernel
theorem dL_law_284 : decode cL_law 284 = .ok (.iastore, 1) := by decide +kernel
theorem dL_law_285 : decode cL_law 285 = .ok (.invokestatic 110, 3) := by decide +kernel
theorem dL_law_288 : decode cL_law 288 = .ok (.iconst 3, 1) := by decide +kernel
theorem dL_law_289 : decode cL_law 289 = .ok (.if_icmp .ne 62, 3) := by decide +kernel
theorem dL_law_292 : decode cL_law 292 = .ok (.aload_n 3, 1) := by decide +kernel
theorem dL_law_293 : decode cL_law 293 = .ok (.iconst 3, 1) := by decide +kernel
theorem dL_law_294 : decode cL_law 294 = .ok (.iconst 1, 1) := by decide +kernel
theorem dL_law_295 : decode cL_law 295 = .ok (.newarray .int, 2) := by decide +kernel
theorem dL_law_297 : decode cL_law 297 = .ok (.dup, 1) := by decide +kernel
theorem dL_law_298 : decode cL_law 298 = .ok (.iconst 0, 1) := by decide +kernel
theorem dL_law_299 : decode cL_law 299 = .ok (.iconst 4, 1) := by decide +kernel
theorem dL_law_300 : decode cL_law 300 = .ok (.iastore, 1) := by decide +kernel
theorem dL_law_301 : decode cL_law 301 = .ok (.invokestatic 110, 3) := by decide +kernel
theorem dL_law_304 : decode cL_law 304 = .ok (.iconst 3, 1) := by decide +kernel
theorem dL_law_305 : decode cL_law 305 = .ok (.if_icmp .ne 46, 3) := by decide +kernel
theorem dL_law_308 : decode cL_law 308 = .ok (.aload_n 3, 1) := by decide +kernel
theorem dL_law_309 : decode cL_law 309 = .ok (.iconst 4, 1) := by decide +kernel
theorem dL_law_310 : decode cL_law 310 = .ok (.iconst 2, 1) := by decide +kernel
theorem dL_law_311 : decode cL_law 311 = .ok (.newarray .int, 2) := by decide +kernel
theorem dL_law_313 : decode cL_law 313 = .ok (.dup, 1) := by decide +kernel
theorem dL_law_314 : decode cL_law 314 = .ok (.iconst 0, 1) := by decide +kernel
theorem dL_law_315 : decode cL_law 315 = .ok (.iconst 0, 1) := by decide +kernel
theorem dL_law_316 : decode cL_law 316 = .ok (.iastore, 1) := by decide +kernel
theorem dL_law_317 : decode cL_law 317 = .ok (.dup, 1) := by decide +kernel
theorem dL_law_318 : decode cL_law 318 = .ok (.iconst 1, 1) := by decide +kernel
theorem dL_law_319 : decode cL_law 319 = .ok (.iconst 4, 1) := by decide +kernel
theorem dL_law_320 : decode cL_law 320 = .ok (.iastore, 1) := by decide +kernel
theorem dL_law_321 : decode cL_law 321 = .ok (.invokestatic 110, 3) := by decide +kernel
theorem dL_law_324 : decode cL_law 324 = .ok (.iconst 3, 1) := by decide +kernel
theorem dL_law_325 : decode cL_law 325 = .ok (.if_icmp .ne 26, 3) := by decide +kernel
theorem dL_law_328 : decode cL_law 328 = .ok (.aload_n 3, 1) := by decide +kernel
theorem dL_law_329 : decode cL_law 329 = .ok (.bipush 8, 2) := by decide +kernel
theorem dL_law_331 : decode cL_law 331 = .ok (.iconst 1, 1) := by decide +kernel
theorem dL_law_332 : decode cL_law 332 = .ok (.newarray .int, 2) := by decide +kernel
theorem dL_law_334 : decode cL_law 334 = .ok (.dup, 1) := by decide +kernel
theorem dL_law_335 : decode cL_law 335 = .ok (.iconst 0, 1) := by decide +kernel
theorem dL_law_336 : decode cL_law 336 = .ok (.sipush 301, 3) := by decide +kernel
theorem dL_law_339 : decode cL_law 339 = .ok (.iastore, 1) := by decide +kernel
theorem dL_law_340 : decode cL_law 340 = .ok (.invokestatic 110, 3) := by decide +kernel
theorem dL_law_343 : decode cL_law 343 = .ok (.iconst 3, 1) := by decide +kernel
theorem dL_law_344 : decode cL_law 344 = .ok (.if_icmp .ne 7, 3) := by decide +kernel
theorem dL_law_347 : decode cL_law 347 = .ok (.iconst 1, 1) := by decide +kernel
theorem dL_law_348 : decode cL_law 348 = .ok (.goto 4, 3) := by decide +kernel
theorem dL_law_351 : decode cL_law 351 = .ok (.iconst 0, 1) := by decide +kernel
theorem dL_law_352 : decode cL_law 352 = .ok (.ireturn, 1) := by decide +kernel

theorem dL_isLike_347 : decode cL_isLike 347 = .ok (.iastore, 1) := by decide +kernel
theorem dL_isLike_348 : decode cL_isLike 348 = .ok (.dup, 1) := by decide +kernel
theorem dL_isLike_349 : decode cL_isLike 349 = .ok (.iconst 1, 1) := by decide +kernel
theorem dL_isLike_350 : decode cL_isLike 350 = .ok (.aload_n 1, 1) := by decide +kernel
theorem dL_isLike_351 : decode cL_isLike 351 = .ok (.getfield 188, 3) := by decide +kernel
theorem dL_isLike_354 : decode cL_isLike 354 = .ok (.iastore, 1) := by decide +kernel
theorem dL_isLike_355 : decode cL_isLike 355 = .ok (.dup, 1) := by decide +kernel
theorem dL_isLike_356 : decode cL_isLike 356 = .ok (.iconst 2, 1) := by decide +kernel
theorem dL_isLike_357 : decode cL_isLike 357 = .ok (.aload_n 1, 1) := by decide +kernel
theorem dL_isLike_358 : decode cL_isLike 358 = .ok (.getfield 191, 3) := by decide +kernel
theorem dL_isLike_361 : decode cL_isLike 361 = .ok (.iconst 0, 1) := by decide +kernel
theorem dL_isLike_362 : decode cL_isLike 362 = .ok (.iaload, 1) := by decide +kernel
theorem dL_isLike_363 : decode cL_isLike 363 = .ok (.iastore, 1) := by decide +kernel
theorem dL_isLike_364 : decode cL_isLike 364 = .ok (.dup, 1) := by decide +kernel
theorem dL_isLike_365 : decode cL_isLike 365 = .ok (.iconst 3, 1) := by decide +kernel
theorem dL_isLike_366 : decode cL_isLike 366 = .ok (.iconst 3, 1) := by decide +kernel
theorem dL_isLike_367 : decode cL_isLike 367 = .ok (.iastore, 1) := by decide +kernel
theorem dL_isLike_368 : decode cL_isLike 368 = .ok (.astore_n 3, 1) := by decide +kernel
theorem dL_isLike_369 : decode cL_isLike 369 = .ok (.iconst 0, 1) := by decide +kernel
theorem dL_isLike_370 : decode cL_isLike 370 = .ok (.istore 4, 2) := by decide +kernel
theorem dL_isLike_372 : decode cL_isLike 372 = .ok (.iload 4, 2) := by decide +kernel
theorem dL_isLike_374 : decode cL_isLike 374 = .ok (.iconst 4, 1) := by decide +kernel
theorem dL_isLike_375 : decode cL_isLike 375 = .ok (.if_icmp .ge 35, 3) := by decide +kernel
theorem dL_isLike_378 : decode cL_isLike 378 = .ok (.aload_n 0, 1) := by decide +kernel
theorem dL_isLike_379 : decode cL_isLike 379 = .ok (.iload 4, 2) := by decide +kernel
theorem dL_isLike_381 : decode cL_isLike 381 = .ok (.invokevirtual 43, 3) := by decide +kernel
theorem dL_isLike_384 : decode cL_isLike 384 = .ok (.aload_n 1, 1) := by decide +kernel
theorem dL_isLike_385 : decode cL_isLike 385 = .ok (.getfield 185, 3) := by decide +kernel
theorem dL_isLike_388 : decode cL_isLike 388 = .ok (.ifCond .ge 7, 3) := by decide +kernel
theorem dL_isLike_391 : decode cL_isLike 391 = .ok (.iconst (-1), 1) := by decide +kernel
theorem dL_isLike_392 : decode cL_isLike 392 = .ok (.goto 7, 3) := by decide +kernel
theorem dL_isLike_395 : decode cL_isLike 395 = .ok (.aload_n 3, 1) := by decide +kernel
theorem dL_isLike_396 : decode cL_isLike 396 = .ok (.iload 4, 2) := by decide +kernel
theorem dL_isLike_398 : decode cL_isLike 398 = .ok (.iaload, 1) := by decide +kernel
theorem dL_isLike_399 : decode cL_isLike 399 = .ok (.if_icmp .eq 5, 3) := by decide +kernel
theorem dL_isLike_402 : decode cL_isLike 402 = .ok (.iconst 0, 1) := by decide +kernel
theorem dL_isLike_403 : decode cL_isLike 403 = .ok (.ireturn, 1) := by decide +kernel
theorem dL_isLike_404 : decode cL_isLike 404 = .ok (.iinc 4 1, 3) := by decide +kernel
theorem dL_isLike_407 : decode cL_isLike 407 = .ok (.goto (-35), 3) := by decide +kernel
theorem dL_isLike_410 : decode cL_isLike 410 = .ok (.iconst 0, 1) := by decide +kernel
theorem dL_isLike_411 : decode cL_isLike 411 = .ok (.istore 4, 2) := by decide +kernel
theorem dL_isLike_413 : decode cL_isLike 413 = .ok (.iload 4, 2) := by decide +kernel
theorem dL_isLike_415 : decode cL_isLike 415 = .ok (.bipush 13, 2) := by decide +kernel
theorem dL_isLike_417 : decode cL_isLike 417 = .ok (.if_icmp .ge 77, 3) := by decide +kernel
theorem dL_isLike_420 : decode cL_isLike 420 = .ok (.iconst 0, 1) := by decide +kernel
theorem dL_isLike_421 : decode cL_isLike 421 = .ok (.istore 5, 2) := by decide +kernel
theorem dL_isLike_423 : decode cL_isLike 423 = .ok (.iload 5, 2) := by decide +kernel
theorem dL_isLike_425 : decode cL_isLike 425 = .ok (.iconst 4, 1) := by decide +kernel
theorem dL_isLike_426 : decode cL_isLike 426 = .ok (.if_icmp .ge 62, 3) := by decide +kernel
theorem dL_isLike_429 : decode cL_isLike 429 = .ok (.aload_n 0, 1) := by decide +kernel
theorem dL_isLike_430 : decode cL_isLike 430 = .ok (.iload 4, 2) := by decide +kernel
theorem dL_isLike_432 : decode cL_isLike 432 = .ok (.iload 5, 2) := by decide +kernel
theorem dL_isLike_434 : decode cL_isLike 434 = .ok (.invokevirtual 46, 3) := by decide +kernel
theorem dL_isLike_437 : decode cL_isLike 437 = .ok (.iload 4, 2) := by decide +kernel
theorem dL_isLike_439 : decode cL_isLike 439 = .ok (.bipush 12, 2) := by decide +kernel
theorem dL_isLike_441 : decode cL_isLike 441 = .ok (.if_icmp .ge 34, 3) := by decide +kernel
theorem dL_isLike_444 : decode cL_isLike 444 = .ok (.iload 4, 2) := by decide +kernel
theorem dL_isLike_446 : decode cL_isLike 446 = .ok (.aload_n 1, 1) := by decide +kernel
theorem dL_isLike_447 : decode cL_isLike 447 = .ok (.getfield 194, 3) := by decide +kernel
theorem dL_isLike_450 : decode cL_isLike 450 = .ok (.arraylength, 1) := by decide +kernel
theorem dL_isLike_451 : decode cL_isLike 451 = .ok (.if_icmp .ge 24, 3) := by decide +kernel
theorem dL_isLike_454 : decode cL_isLike 454 = .ok (.aload_n 1, 1) := by decide +kernel
theorem dL_isLike_455 : decode cL_isLike 455 = .ok (.getfield 194, 3) := by decide +kernel
theorem dL_isLike_458 : decode cL_isLike 458 = .ok (.aload_n 1, 1) := by decide +kernel
theorem dL_isLike_459 : decode cL_isLike 459 = .ok (.getfield 194, 3) := by decide +kernel
theorem dL_isLike_462 : decode cL_isLike 462 = .ok (.arraylength, 1) := by decide +kernel
theorem dL_isLike_463 : decode cL_isLike 463 = .ok (.iconst 1, 1) := by decide +kernel
theorem dL_isLike_464 : decode cL_isLike 464 = .ok (.isub, 1) := by decide +kernel
theorem dL_isLike_465 : decode cL_isLike 465 = .ok (.iload 4, 2) := by decide +kernel
theorem dL_isLike_467 : decode cL_isLike 467 = .ok (.isub, 1) := by decide +kernel
theorem dL_isLike_468 : decode cL_isLike 468 = .ok (.aaload, 1) := by decide +kernel
theorem dL_isLike_469 : decode cL_isLike 469 = .ok (.iload 5, 2) := by decide +kernel
theorem dL_isLike_471 : decode cL_isLike 471 = .ok (.iaload, 1) := by decide +kernel
theorem dL_isLike_472 : decode cL_isLike 472 = .ok (.goto 5, 3) := by decide +kernel
theorem dL_isLike_475 : decode cL_isLike 475 = .ok (.bipush (-2), 2) := by decide +kernel
theorem dL_isLike_477 : decode cL_isLike 477 = .ok (.if_icmp .eq 5, 3) := by decide +kernel
theorem dL_isLike_480 : decode cL_isLike 480 = .ok (.iconst 0, 1) := by decide +kernel
theorem dL_isLike_481 : decode cL_isLike 481 = .ok (.ireturn, 1) := by decide +kernel
theorem dL_isLike_482 : decode cL_isLike 482 = .ok (.iinc 5 1, 3) := by decide +kernel
theorem dL_isLike_485 : decode cL_isLike 485 = .ok (.goto (-62), 3) := by decide +kernel
theorem dL_isLike_488 : decode cL_isLike 488 = .ok (.iinc 4 1, 3) := by decide +kernel
theorem dL_isLike_491 : decode cL_isLike 491 = .ok (.goto (-78), 3) := by decide +kernel
theorem dL_isLike_494 : decode cL_isLike 494 = .ok (.aload_n 0, 1) := by decide +kernel
theorem dL_isLike_495 : decode cL_isLike 495 = .ok (.iconst (-1), 1) := by decide +kernel
theorem dL_isLike_496 : decode cL_isLike 496 = .ok (.iconst 0, 1) := by decide +kernel
theorem dL_isLike_497 : decode cL_isLike 497 = .ok (.invokevirtual 46, 3) := by decide +kernel
theorem dL_isLike_500 : decode cL_isLike 500 = .ok (.bipush (-2), 2) := by decide +kernel
theorem dL_isLike_502 : decode cL_isLike 502 = .ok (.if_icmp .ne 51, 3) := by decide +kernel
theorem dL_isLike_505 : decode cL_isLike 505 = .ok (.aload_n 0, 1) := by decide +kernel
theorem dL_isLike_506 : decode cL_isLike 506 = .ok (.iconst 1, 1) := by decide +kernel
theorem dL_isLike_507 : decode cL_isLike 507 = .ok (.iconst 2, 1) := by decide +kernel
theorem dL_isLike_508 : decode cL_isLike 508 = .ok (.newarray .int, 2) := by decide +kernel
theorem dL_isLike_510 : decode cL_isLike 510 = .ok (.dup, 1) := by decide +kernel
theorem dL_isLike_511 : decode cL_isLike 511 = .ok (.iconst 0, 1) := by decide +kernel
theorem dL_isLike_512 : decode cL_isLike 512 = .ok (.aload_n 1, 1) := by decide +kernel
theorem dL_isLike_513 : decode cL_isLike 513 = .ok (.getfield 114, 3) := by decide +kernel
theorem dL_isLike_516 : decode cL_isLike 516 = .ok (.arraylength, 1) := by decide +kernel
theorem dL_isLike_517 : decode cL_isLike 517 = .ok (.iastore, 1) := by decide +kernel
theorem dL_isLike_518 : decode cL_isLike 518 = .ok (.dup, 1) := by decide +kernel
theorem dL_isLike_519 : decode cL_isLike 519 = .ok (.iconst 1, 1) := by decide +kernel
theorem dL_isLike_520 : decode cL_isLike 520 = .ok (.iconst 0, 1) := by decide +kernel
theorem dL_isLike_521 : decode cL_isLike 521 = .ok (.iastore, 1) := by decide +kernel
theorem dL_isLike_522 : decode cL_isLike 522 = .ok (.invokestatic 110, 3) := by decide +kernel
theorem dL_isLike_525 : decode cL_isLike 525 = .ok (.iconst 2, 1) := by decide +kernel
theorem dL_isLike_526 : decode cL_isLike 526 = .ok (.if_icmp .ne 27, 3) := by decide +kernel
theorem dL_isLike_529 : decode cL_isLike 529 = .ok (.aload_n 0, 1) := by decide +kernel
theorem dL_isLike_530 : decode cL_isLike 530 = .ok (.iconst 2, 1) := by decide +kernel
theorem dL_isLike_531 : decode cL_isLike 531 = .ok (.iconst 2, 1) := by decide +kernel
theorem dL_isLike_532 : decode cL_isLike 532 = .ok (.newarray .int, 2) := by decide +kernel
theorem dL_isLike_534 : decode cL_isLike 534 = .ok (.dup, 1) := by decide +kernel
theorem dL_isLike_535 : decode cL_isLike 535 = .ok (.iconst 0, 1) := by decide +kernel
theorem dL_isLike_536 : decode cL_isLike 536 = .ok (.iconst (-1), 1) := by decide +kernel
theorem dL_isLike_537 : decode cL_isLike 537 = .ok (.iastore, 1) := by decide +kernel
theorem dL_isLike_538 : decode cL_isLike 538 = .ok (.dup, 1) := by decide +kernel
theorem dL_isLike_539 : decode cL_isLike 539 = .ok (.iconst 1, 1) := by decide +kernel
theorem dL_isLike_540 : decode cL_isLike 540 = .ok (.iconst 0, 1) := by decide +kernel
theorem dL_isLike_541 : decode cL_isLike 541 = .ok (.iastore, 1) := by decide +kernel
theorem dL_isLike_542 : decode cL_isLike 542 = .ok (.invokestatic 110, 3) := by decide +kernel
theorem dL_isLike_545 : decode cL_isLike 545 = .ok (.iconst 2, 1) := by decide +kernel
theorem dL_isLike_546 : decode cL_isLike 546 = .ok (.if_icmp .ne 7, 3) := by decide +kernel
theorem dL_isLike_549 : decode cL_isLike 549 = .ok (.iconst 1, 1) := by decide +kernel
theorem dL_isLike_550 : decode cL_isLike 550 = .ok (.goto 4, 3) := by decide +kernel
theorem dL_isLike_553 : decode cL_isLike 553 = .ok (.iconst 0, 1) := by decide +kernel
theorem dL_isLike_554 : decode cL_isLike 554 = .ok (.ireturn, 1) := by decide +kernel
theorem dL_act_0 : decode cL_act 0 = .ok (.aload_n 2, 1) := by decide +kernel
theorem dL_act_1 : decode cL_act 1 = .ok (.iconst 0, 1) := by decide +kernel
theorem dL_act_2 : decode cL_act 2 = .ok (.bipush 11, 2) := by decide +kernel
theorem dL_act_4 : decode cL_act 4 = .ok (.invokevirtual 198, 3) := by decide +kernel
theorem dL_act_7 : decode cL_act 7 = .ok (.istore_n 3, 1) := by decide +kernel
theorem dL_act_8 : decode cL_act 8 = .ok (.aload_n 2, 1) := by decide +kernel
theorem dL_act_9 : decode cL_act 9 = .ok (.iconst 0, 1) := by decide +kernel
theorem dL_act_10 : decode cL_act 10 = .ok (.aload_n 1, 1) := by decide +kernel
theorem dL_act_11 : decode cL_act 11 = .ok (.getfield 114, 3) := by decide +kernel
theorem dL_act_14 : decode cL_act 14 = .ok (.arraylength, 1) := by decide +kernel
theorem dL_act_15 : decode cL_act 15 = .ok (.iconst 1, 1) := by decide +kernel
theorem dL_act_16 : decode cL_act 16 = .ok (.isub, 1) := by decide +kernel
theorem dL_act_17 : decode cL_act 17 = .ok (.invokevirtual 198, 3) := by decide +kernel
theorem dL_act_20 : decode cL_act 20 = .ok (.istore 4, 2) := by decide +kernel
theorem dL_act_22 : decode cL_act 22 = .ok (.aload_n 1, 1) := by decide +kernel
theorem dL_act_23 : decode cL_act 23 = .ok (.getfield 160, 3) := by decide +kernel
theorem dL_act_26 : decode cL_act 26 = .ok (.bipush 12, 2) := by decide +kernel
theorem dL_act_28 : decode cL_act 28 = .ok (.iaload, 1) := by decide +kernel
theorem dL_act_29 : decode cL_act 29 = .ok (.istore 5, 2) := by decide +kernel
theorem dL_act_31 : decode cL_act 31 = .ok (.aload_n 1, 1) := by decide +kernel
theorem dL_act_32 : decode cL_act 32 = .ok (.getfield 114, 3) := by decide +kernel
theorem dL_act_35 : decode cL_act 35 = .ok (.iload 4, 2) := by decide +kernel
theorem dL_act_37 : decode cL_act 37 = .ok (.aaload, 1) := by decide +kernel
theorem dL_act_38 : decode cL_act 38 = .ok (.astore 6, 2) := by decide +kernel
theorem dL_act_40 : decode cL_act 40 = .ok (.iload_n 3, 1) := by decide +kernel
theorem dL_act_41 : decode cL_act 41 = .ok (.ifCond .eq 15, 3) := by decide +kernel
theorem dL_act_44 : decode cL_act 44 = .ok (.aload_n 1, 1) := by decide +kernel
theorem dL_act_45 : decode cL_act 45 = .ok (.getfield 148, 3) := by decide +kernel
theorem dL_act_48 : decode cL_act 48 = .ok (.ifCond .ne 57, 3) := by decide +kernel
theorem dL_act_51 : decode cL_act 51 = .ok (.iload_n 3, 1) := by decide +kernel
theorem dL_act_52 : decode cL_act 52 = .ok (.iconst 4, 1) := by decide +kernel
theorem dL_act_53 : decode cL_act 53 = .ok (.if_icmp .ge 52, 3) := by decide +kernel
theorem dL_act_56 : decode cL_act 56 = .ok (.aload_n 1, 1) := by decide +kernel
theorem dL_act_57 : decode cL_act 57 = .ok (.getfield 148, 3) := by decide +kernel
theorem dL_act_60 : decode cL_act 60 = .ok (.ifCond .eq 21, 3) := by decide +kernel
theorem dL_act_63 : decode cL_act 63 = .ok (.aload_n 0, 1) := by decide +kernel
theorem dL_act_64 : decode cL_act 64 = .ok (.iconst 5, 1) := by decide +kernel
theorem dL_act_65 : decode cL_act 65 = .ok (.iconst 0, 1) := by decide +kernel
theorem dL_act_66 : decode cL_act 66 = .ok (.newarray .int, 2) := by decide +kernel
theorem dL_act_68 : decode cL_act 68 = .ok (.invokestatic 110, 3) := by decide +kernel
theorem dL_act_71 : decode cL_act 71 = .ok (.iconst 3, 1) := by decide +kernel
theorem dL_act_72 : decode cL_act 72 = .ok (.if_icmp .ne 7, 3) := by decide +kernel
theorem dL_act_75 : decode cL_act 75 = .ok (.iconst 1, 1) := by decide +kernel
theorem dL_act_76 : decode cL_act 76 = .ok (.goto 4, 3) := by decide +kernel
theorem dL_act_79 : decode cL_act 79 = .ok (.iconst 0, 1) := by decide +kernel
theorem dL_act_80 : decode cL_act 80 = .ok (.ireturn, 1) := by decide +kernel
theorem dL_act_81 : decode cL_act 81 = .ok (.aload_n 1, 1) := by decide +kernel
theorem dL_act_82 : decode cL_act 82 = .ok (.iconst 0, 1) := by decide +kernel
theorem dL_act_83 : decode cL_act 83 = .ok (.invokevirtual 203, 3) := by decide +kernel
theorem dL_act_86 : decode cL_act 86 = .ok (.istore 7, 2) := by decide +kernel
theorem dL_act_88 : decode cL_act 88 = .ok (.aload_n 0, 1) := by decide +kernel
theorem dL_act_89 : decode cL_act 89 = .ok (.invokevirtual 49, 3) := by decide +kernel
theorem dL_act_92 : decode cL_act 92 = .ok (.aload_n 1, 1) := by decide +kernel
theorem dL_act_93 : decode cL_act 93 = .ok (.getfield 151, 3) := by decide +kernel
theorem dL_act_96 : decode cL_act 96 = .ok (.if_icmp .ne 7, 3) := by decide +kernel
theorem dL_act_99 : decode cL_act 99 = .ok (.iconst 1, 1) := by decide +kernel
theorem dL_act_100 : decode cL_act 100 = .ok (.goto 4, 3) := by decide +kernel
theorem dL_act_103 : decode cL_act 103 = .ok (.iconst 0, 1) := by decide +kernel
theorem dL_act_104 : decode cL_act 104 = .ok (.ireturn, 1) := by decide +kernel
theorem dL_act_105 : decode cL_act 105 = .ok (.iload_n 3, 1) := by decide +kernel
theorem dL_act_106 : decode cL_act 106 = .ok (.iconst 5, 1) := by decide +kernel
theorem dL_act_107 : decode cL_act 107 = .ok (.if_icmp .ge 56, 3) := by decide +kernel
theorem dL_act_110 : decode cL_act 110 = .ok (.aload_n 2, 1) := by decide +kernel
theorem dL_act_111 : decode cL_act 111 = .ok (.iconst 1, 1) := by decide +kernel
theorem dL_act_112 : decode cL_act 112 = .ok (.aload_n 2, 1) := by decide +kernel
theorem dL_act_113 : decode cL_act 113 = .ok (.iconst 0, 1) := by decide +kernel
theorem dL_act_114 : decode cL_act 114 = .ok (.iconst 2, 1) := by decide +kernel
theorem dL_act_115 : decode cL_act 115 = .ok (.invokevirtual 198, 3) := by decide +kernel
theorem dL_act_118 : decode cL_act 118 = .ok (.ifCond .ne 8, 3) := by decide +kernel
theorem dL_act_121 : decode cL_act 121 = .ok (.bipush 60, 2) := by decide +kernel
theorem dL_act_123 : decode cL_act 123 = .ok (.goto 5, 3) := by decide +kernel
theorem dL_act_126 : decode cL_act 126 = .ok (.bipush 6, 2) := by decide +kernel
theorem dL_act_128 : decode cL_act 128 = .ok (.invokevirtual 198, 3) := by decide +kernel
theorem dL_act_131 : decode cL_act 131 = .ok (.istore 7, 2) := by decide +kernel
theorem dL_act_133 : decode cL_act 133 = .ok (.aload_n 0, 1) := by decide +kernel
theorem dL_act_134 : decode cL_act 134 = .ok (.iload 7, 2) := by decide +kernel
theorem dL_act_136 : decode cL_act 136 = .ok (.invokevirtual 58, 3) := by decide +kernel
theorem dL_act_139 : decode cL_act 139 = .ok (.aload_n 1, 1) := by decide +kernel
theorem dL_act_140 : decode cL_act 140 = .ok (.iload 7, 2) := by decide +kernel
theorem dL_act_142 : decode cL_act 142 = .ok (.invokevirtual 205, 3) := by decide +kernel
theorem dL_act_145 : decode cL_act 145 = .ok (.getfield 160, 3) := by decide +kernel
theorem dL_act_148 : decode cL_act 148 = .ok (.bipush 12, 2) := by decide +kernel
theorem dL_act_150 : decode cL_act 150 = .ok (.iaload, 1) := by decide +kernel
theorem dL_act_151 : decode cL_act 151 = .ok (.iload 5, 2) := by decide +kernel
theorem dL_act_153 : decode cL_act 153 = .ok (.isub, 1) := by decide +kernel
theorem dL_act_154 : decode cL_act 154 = .ok (.if_icmp .ne 7, 3) := by decide +kernel
theorem dL_act_157 : decode cL_act 157 = .ok (.iconst 1, 1) := by decide +kernel
theorem dL_act_158 : decode cL_act 158 = .ok (.goto 4, 3) := by decide +kernel
theorem dL_act_161 : decode cL_act 161 = .ok (.iconst 0, 1) := by decide +kernel
theorem dL_act_162 : decode cL_act 162 = .ok (.ireturn, 1) := by decide +kernel
theorem dL_act_163 : decode cL_act 163 = .ok (.iload_n 3, 1) := by decide +kernel
theorem dL_act_164 : decode cL_act 164 = .ok (.iconst 5, 1) := by decide +kernel
theorem dL_act_165 : decode cL_act 165 = .ok (.if_icmp .ne 66, 3) := by decide +kernel
theorem dL_act_168 : decode cL_act 168 = .ok (.aload_n 1, 1) := by decide +kernel
theorem dL_act_169 : decode cL_act 169 = .ok (.getfield 148, 3) := by decide +kernel
theorem dL_act_172 : decode cL_act 172 = .ok (.ifCond .ne 35, 3) := by decide +kernel
theorem dL_act_175 : decode cL_act 175 = .ok (.aload_n 0, 1) := by decide +kernel
theorem dL_act_176 : decode cL_act 176 = .ok (.bipush 6, 2) := by decide +kernel
theorem dL_act_178 : decode cL_act 178 = .ok (.iconst 0, 1) := by decide +kernel
theorem dL_act_179 : decode cL_act 179 = .ok (.newarray .int, 2) := by decide +kernel
theorem dL_act_181 : decode cL_act 181 = .ok (.invokestatic 110, 3) := by decide +kernel
theorem dL_act_184 : decode cL_act 184 = .ok (.iconst 3, 1) := by decide +kernel
theorem dL_act_185 : decode cL_act 185 = .ok (.if_icmp .ne 20, 3) := by decide +kernel
theorem dL_act_188 : decode cL_act 188 = .ok (.aload_n 0, 1) := by decide +kernel
theorem dL_act_189 : decode cL_act 189 = .ok (.bipush 7, 2) := by decide +kernel
theorem dL_act_191 : decode cL_act 191 = .ok (.iconst 0, 1) := by decide +kernel
theorem dL_act_192 : decode cL_act 192 = .ok (.newarray .int, 2) := by decide +kernel
theorem dL_act_194 : decode cL_act 194 = .ok (.invokestatic 110, 3) := by decide +kernel
theorem dL_act_197 : decode cL_act 197 = .ok (.iconst 3, 1) := by decide +kernel
theorem dL_act_198 : decode cL_act 198 = .ok (.if_icmp .ne 7, 3) := by decide +kernel
theorem dL_act_201 : decode cL_act 201 = .ok (.iconst 1, 1) := by decide +kernel
theorem dL_act_202 : decode cL_act 202 = .ok (.goto 4, 3) := by decide +kernel
theorem dL_act_205 : decode cL_act 205 = .ok (.iconst 0, 1) := by decide +kernel
theorem dL_act_206 : decode cL_act 206 = .ok (.ireturn, 1) := by decide +kernel
theorem dL_act_207 : decode cL_act 207 = .ok (.aload_n 1, 1) := by decide +kernel
theorem dL_act_208 : decode cL_act 208 = .ok (.iconst 1, 1) := by decide +kernel
theorem dL_act_209 : decode cL_act 209 = .ok (.invokevirtual 203, 3) := by decide +kernel
theorem dL_act_212 : decode cL_act 212 = .ok (.istore 7, 2) := by decide +kernel
theorem dL_act_214 : decode cL_act 214 = .ok (.aload_n 0, 1) := by decide +kernel
theorem dL_act_215 : decode cL_act 215 = .ok (.invokevirtual 55, 3) := by decide +kernel
theorem dL_act_218 : decode cL_act 218 = .ok (.aload_n 1, 1) := by decide +kernel
theorem dL_act_219 : decode cL_act 219 = .ok (.getfield 151, 3) := by decide +kernel
theorem dL_act_222 : decode cL_act 222 = .ok (.if_icmp .ne 7, 3) := by decide +kernel
theorem dL_act_225 : decode cL_act 225 = .ok (.iconst 1, 1) := by decide +kernel
theorem dL_act_226 : decode cL_act 226 = .ok (.goto 4, 3) := by decide +kernel
theorem dL_act_229 : decode cL_act 229 = .ok (.iconst 0, 1) := by decide +kernel
theorem dL_act_230 : decode cL_act 230 = .ok (.ireturn, 1) := by decide +kernel
theorem dL_act_231 : decode cL_act 231 = .ok (.iload_n 3, 1) := by decide +kernel
theorem dL_act_232 : decode cL_act 232 = .ok (.bipush 6, 2) := by decide +kernel
theorem dL_act_234 : decode cL_act 234 = .ok (.if_icmp .ne 85, 3) := by decide +kernel
theorem dL_act_237 : decode cL_act 237 = .ok (.aload_n 1, 1) := by decide +kernel
theorem dL_act_238 : decode cL_act 238 = .ok (.getfield 148, 3) := by decide +kernel
theorem dL_act_241 : decode cL_act 241 = .ok (.ifCond .eq 12, 3) := by decide +kernel
theorem dL_act_244 : decode cL_act 244 = .ok (.aload_n 2, 1) := by decide +kernel
theorem dL_act_245 : decode cL_act 245 = .ok (.iconst 0, 1) := by decide +kernel
theorem dL_act_246 : decode cL_act 246 = .ok (.iconst 2, 1) := by decide +kernel
theorem dL_act_247 : decode cL_act 247 = .ok (.invokevirtual 198, 3) := by decide +kernel
theorem dL_act_250 : decode cL_act 250 = .ok (.ifCond .le 28, 3) := by decide +kernel
theorem dL_act_253 : decode cL_act 253 = .ok (.aload_n 0, 1) := by decide +kernel
theorem dL_act_254 : decode cL_act 254 = .ok (.bipush 14, 2) := by decide +kernel
theorem dL_act_256 : decode cL_act 256 = .ok (.iconst 1, 1) := by decide +kernel
theorem dL_act_257 : decode cL_act 257 = .ok (.newarray .int, 2) := by decide +kernel
theorem dL_act_259 : decode cL_act 259 = .ok (.dup, 1) := by decide +kernel
theorem dL_act_260 : decode cL_act 260 = .ok (.iconst 0, 1) := by decide +kernel
theorem dL_act_261 : decode cL_act 261 = .ok (.sipush 301, 3) := by decide +kernel
theorem dL_act_264 : decode cL_act 264 = .ok (.iastore, 1) := by decide +kernel
theorem dL_act_265 : decode cL_act 265 = .ok (.invokestatic 110, 3) := by decide +kernel
theorem dL_act_268 : decode cL_act 268 = .ok (.iconst 3, 1) := by decide +kernel
theorem dL_act_269 : decode cL_act 269 = .ok (.if_icmp .ne 7, 3) := by decide +kernel
theorem dL_act_272 : decode cL_act 272 = .ok (.iconst 1, 1) := by decide +kernel
theorem dL_act_273 : decode cL_act 273 = .ok (.goto 4, 3) := by decide +kernel
theorem dL_act_276 : decode cL_act 276 = .ok (.iconst 0, 1) := by decide +kernel
theorem dL_act_277 : decode cL_act 277 = .ok (.ireturn, 1) := by decide +kernel
theorem dL_act_278 : decode cL_act 278 = .ok (.aload_n 1, 1) := by decide +kernel
theorem dL_act_279 : decode cL_act 279 = .ok (.getfield 185, 3) := by decide +kernel
theorem dL_act_282 : decode cL_act 282 = .ok (.istore 7, 2) := by decide +kernel
theorem dL_act_284 : decode cL_act 284 = .ok (.aload_n 1, 1) := by decide +kernel
theorem dL_act_285 : decode cL_act 285 = .ok (.iconst (-1), 1) := by decide +kernel
theorem dL_act_286 : decode cL_act 286 = .ok (.putfield 185, 3) := by decide +kernel
theorem dL_act_289 : decode cL_act 289 = .ok (.aload_n 1, 1) := by decide +kernel
theorem dL_act_290 : decode cL_act 290 = .ok (.iconst 0, 1) := by decide +kernel
theorem dL_act_291 : decode cL_act 291 = .ok (.putfield 148, 3) := by decide +kernel
theorem dL_act_294 : decode cL_act 294 = .ok (.aload_n 1, 1) := by decide +kernel
theorem dL_act_295 : decode cL_act 295 = .ok (.iconst (-1), 1) := by decide +kernel
theorem dL_act_296 : decode cL_act 296 = .ok (.putfield 151, 3) := by decide +kernel
theorem dL_act_299 : decode cL_act 299 = .ok (.aload_n 1, 1) := by decide +kernel
theorem dL_act_300 : decode cL_act 300 = .ok (.iconst 0, 1) := by decide +kernel
theorem dL_act_301 : decode cL_act 301 = .ok (.putfield 154, 3) := by decide +kernel
theorem dL_act_304 : decode cL_act 304 = .ok (.aload_n 0, 1) := by decide +kernel
theorem dL_act_305 : decode cL_act 305 = .ok (.invokevirtual 52, 3) := by decide +kernel
theorem dL_act_308 : decode cL_act 308 = .ok (.iload 7, 2) := by decide +kernel
theorem dL_act_310 : decode cL_act 310 = .ok (.if_icmp .ne 7, 3) := by decide +kernel
theorem dL_act_313 : decode cL_act 313 = .ok (.iconst 1, 1) := by decide +kernel
theorem dL_act_314 : decode cL_act 314 = .ok (.goto 4, 3) := by decide +kernel
theorem dL_act_317 : decode cL_act 317 = .ok (.iconst 0, 1) := by decide +kernel
theorem dL_act_318 : decode cL_act 318 = .ok (.ireturn, 1) := by decide +kernel
theorem dL_act_319 : decode cL_act 319 = .ok (.iload_n 3, 1) := by decide +kernel
theorem dL_act_320 : decode cL_act 320 = .ok (.bipush 7, 2) := by decide +kernel
theorem dL_act_322 : decode cL_act 322 = .ok (.if_icmp .eq 9, 3) := by decide +kernel
theorem dL_act_325 : decode cL_act 325 = .ok (.iload_n 3, 1) := by decide +kernel
theorem dL_act_326 : decode cL_act 326 = .ok (.bipush 8, 2) := by decide +kernel
theorem dL_act_328 : decode cL_act 328 = .ok (.if_icmp .ne 235, 3) := by decide +kernel
theorem dL_act_331 : decode cL_act 331 = .ok (.iconst 5, 1) := by decide +kernel
theorem dL_act_332 : decode cL_act 332 = .ok (.newarray .int, 2) := by decide +kernel
theorem dL_act_334 : decode cL_act 334 = .ok (.dup, 1) := by decide +kernel
theorem dL_act_335 : decode cL_act 335 = .ok (.iconst 0, 1) := by decide +kernel
theorem dL_act_336 : decode cL_act 336 = .ok (.aload_n 2, 1) := by decide +kernel
theorem dL_act_337 : decode cL_act 337 = .ok (.iconst 0, 1) := by decide +kernel
theorem dL_act_338 : decode cL_act 338 = .ok (.bipush 40, 2) := by decide +kernel
theorem dL_act_340 : decode cL_act 340 = .ok (.invokevirtual 198, 3) := by decide +kernel
theorem dL_act_343 : decode cL_act 343 = .ok (.iastore, 1) := by decide +kernel
theorem dL_act_344 : decode cL_act 344 = .ok (.dup, 1) := by decide +kernel
theorem dL_act_345 : decode cL_act 345 = .ok (.iconst 1, 1) := by decide +kernel
theorem dL_act_346 : decode cL_act 346 = .ok (.aload_n 2, 1) := by decide +kernel
theorem dL_act_347 : decode cL_act 347 = .ok (.iconst 1, 1) := by decide +kernel
theorem dL_act_348 : decode cL_act 348 = .ok (.bipush 9, 2) := by decide +kernel
theorem dL_act_350 : decode cL_act 350 = .ok (.invokevirtual 198, 3) := by decide +kernel
theorem dL_act_353 : decode cL_act 353 = .ok (.iastore, 1) := by decide +kernel
theorem dL_act_354 : decode cL_act 354 = .ok (.dup, 1) := by decide +kernel
theorem dL_act_355 : decode cL_act 355 = .ok (.iconst 2, 1) := by decide +kernel
theorem dL_act_356 : decode cL_act 356 = .ok (.aload_n 2, 1) := by decide +kernel
theorem dL_act_357 : decode cL_act 357 = .ok (.iconst 0, 1) := by decide +kernel
theorem dL_act_358 : decode cL_act 358 = .ok (.iconst 1, 1) := by decide +kernel
theorem dL_act_359 : decode cL_act 359 = .ok (.invokevirtual 198, 3) := by decide +kernel
theorem dL_act_362 : decode cL_act 362 = .ok (.ifCond .ne 7, 3) := by decide +kernel
theorem dL_act_365 : decode cL_act 365 = .ok (.iconst 0, 1) := by decide +kernel
theorem dL_act_366 : decode cL_act 366 = .ok (.goto 10, 3) := by decide +kernel
theorem dL_act_369 : decode cL_act 369 = .ok (.aload_n 2, 1) := by decide +kernel
theorem dL_act_370 : decode cL_act 370 = .ok (.iconst 0, 1) := by decide +kernel
theorem dL_act_371 : decode cL_act 371 = .ok (.bipush 12, 2) := by decide +kernel
theorem dL_act_373 : decode cL_act 373 = .ok (.invokevirtual 198, 3) := by decide +kernel
theorem dL_act_376 : decode cL_act 376 = .ok (.iastore, 1) := by decide +kernel
theorem dL_act_377 : decode cL_act 377 = .ok (.dup, 1) := by decide +kernel
theorem dL_act_378 : decode cL_act 378 = .ok (.iconst 3, 1) := by decide +kernel
theorem dL_act_379 : decode cL_act 379 = .ok (.iconst 0, 1) := by decide +kernel
theorem dL_act_380 : decode cL_act 380 = .ok (.iastore, 1) := by decide +kernel
theorem dL_act_381 : decode cL_act 381 = .ok (.dup, 1) := by decide +kernel
theorem dL_act_382 : decode cL_act 382 = .ok (.iconst 4, 1) := by decide +kernel
theorem dL_act_383 : decode cL_act 383 = .ok (.iconst 0, 1) := by decide +kernel
theorem dL_act_384 : decode cL_act 384 = .ok (.iastore, 1) := by decide +kernel
theorem dL_act_385 : decode cL_act 385 = .ok (.astore 7, 2) := by decide +kernel
theorem dL_act_387 : decode cL_act 387 = .ok (.aload_n 2, 1) := by decide +kernel
theorem dL_act_388 : decode cL_act 388 = .ok (.iconst 1, 1) := by decide +kernel
theorem dL_act_389 : decode cL_act 389 = .ok (.bipush 9, 2) := by decide +kernel
theorem dL_act_391 : decode cL_act 391 = .ok (.invokevirtual 198, 3) := by decide +kernel
theorem dL_act_394 : decode cL_act 394 = .ok (.istore 8, 2) := by decide +kernel
theorem dL_act_396 : decode cL_act 396 = .ok (.aload_n 1, 1) := by decide +kernel
theorem dL_act_397 : decode cL_act 397 = .ok (.getfield 148, 3) := by decide +kernel
theorem dL_act_400 : decode cL_act 400 = .ok (.ifCond .eq 19, 3) := by decide +kernel
theorem dL_act_403 : decode cL_act 403 = .ok (.aload_n 1, 1) := by decide +kernel
theorem dL_act_404 : decode cL_act 404 = .ok (.getfield 185, 3) := by decide +kernel
theorem dL_act_407 : decode cL_act 407 = .ok (.ifCond .ge 12, 3) := by decide +kernel
theorem dL_act_410 : decode cL_act 410 = .ok (.aload_n 1, 1) := by decide +kernel
theorem dL_act_411 : decode cL_act 411 = .ok (.getfield 151, 3) := by decide +kernel
theorem dL_act_414 : decode cL_act 414 = .ok (.iload 4, 2) := by decide +kernel
theorem dL_act_416 : decode cL_act 416 = .ok (.if_icmp .ne 53, 3) := by decide +kernel
theorem dL_act_419 : decode cL_act 419 = .ok (.aload_n 0, 1) := by decide +kernel
theorem dL_act_420 : decode cL_act 420 = .ok (.bipush 9, 2) := by decide +kernel
theorem dL_act_422 : decode cL_act 422 = .ok (.iconst 5, 1) := by decide +kernel
theorem dL_act_423 : decode cL_act 423 = .ok (.newarray .int, 2) := by decide +kernel
theorem dL_act_425 : decode cL_act 425 = .ok (.dup, 1) := by decide +kernel
theorem dL_act_426 : decode cL_act 426 = .ok (.iconst 0, 1) := by decide +kernel
theorem dL_act_427 : decode cL_act 427 = .ok (.iload 4, 2) := by decide +kernel
theorem dL_act_429 : decode cL_act 429 = .ok (.iastore, 1) := by decide +kernel
theorem dL_act_430 : decode cL_act 430 = .ok (.dup, 1) := by decide +kernel
theorem dL_act_431 : decode cL_act 431 = .ok (.iconst 1, 1) := by decide +kernel
theorem dL_act_432 : decode cL_act 432 = .ok (.aload 7, 2) := by decide +kernel
theorem dL_act_434 : decode cL_act 434 = .ok (.iconst 0, 1) := by decide +kernel
theorem dL_act_435 : decode cL_act 435 = .ok (.iaload, 1) := by decide +kernel
theorem dL_act_436 : decode cL_act 436 = .ok (.iastore, 1) := by decide +kernel
theorem dL_act_437 : decode cL_act 437 = .ok (.dup, 1) := by decide +kernel
theorem dL_act_438 : decode cL_act 438 = .ok (.iconst 2, 1) := by decide +kernel
theorem dL_act_439 : decode cL_act 439 = .ok (.aload 7, 2) := by decide +kernel
theorem dL_act_441 : decode cL_act 441 = .ok (.iconst 1, 1) := by decide +kernel
theorem dL_act_442 : decode cL_act 442 = .ok (.iaload, 1) := by decide +kernel
theorem dL_act_443 : decode cL_act 443 = .ok (.iastore, 1) := by decide +kernel
theorem dL_act_444 : decode cL_act 444 = .ok (.dup, 1) := by decide +kernel
theorem dL_act_445 : decode cL_act 445 = .ok (.iconst 3, 1) := by decide +kernel
theorem dL_act_446 : decode cL_act 446 = .ok (.aload 7, 2) := by decide +kernel
theorem dL_act_448 : decode cL_act 448 = .ok (.iconst 2, 1) := by decide +kernel
theorem dL_act_449 : decode cL_act 449 = .ok (.iaload, 1) := by decide +kernel
theorem dL_act_450 : decode cL_act 450 = .ok (.iastore, 1) := by decide +kernel
theorem dL_act_451 : decode cL_act 451 = .ok (.dup, 1) := by decide +kernel
theorem dL_act_452 : decode cL_act 452 = .ok (.iconst 4, 1) := by decide +kernel
theorem dL_act_453 : decode cL_act 453 = .ok (.iload 8, 2) := by decide +kernel
theorem dL_act_455 : decode cL_act 455 = .ok (.iastore, 1) := by decide +kernel
theorem dL_act_456 : decode cL_act 456 = .ok (.invokestatic 110, 3) := by decide +kernel
theorem dL_act_459 : decode cL_act 459 = .ok (.iconst 3, 1) := by decide +kernel
theorem dL_act_460 : decode cL_act 460 = .ok (.if_icmp .ne 7, 3) := by decide +kernel
theorem dL_act_463 : decode cL_act 463 = .ok (.iconst 1, 1) := by decide +kernel
theorem dL_act_464 : decode cL_act 464 = .ok (.goto 4, 3) := by decide +kernel
theorem dL_act_467 : decode cL_act 467 = .ok (.iconst 0, 1) := by decide +kernel
theorem dL_act_468 : decode cL_act 468 = .ok (.ireturn, 1) := by decide +kernel
theorem dL_act_469 : decode cL_act 469 = .ok (.aload 6, 2) := by decide +kernel
theorem dL_act_471 : decode cL_act 471 = .ok (.invokevirtual 209, 3) := by decide +kernel
theorem dL_act_474 : decode cL_act 474 = .ok (.aload_n 1, 1) := by decide +kernel
theorem dL_act_475 : decode cL_act 475 = .ok (.iload 4, 2) := by decide +kernel
theorem dL_act_477 : decode cL_act 477 = .ok (.putfield 185, 3) := by decide +kernel
theorem dL_act_480 : decode cL_act 480 = .ok (.aload_n 1, 1) := by decide +kernel
theorem dL_act_481 : decode cL_act 481 = .ok (.iload 8, 2) := by decide +kernel
theorem dL_act_483 : decode cL_act 483 = .ok (.putfield 188, 3) := by decide +kernel
theorem dL_act_486 : decode cL_act 486 = .ok (.aload_n 1, 1) := by decide +kernel
theorem dL_act_487 : decode cL_act 487 = .ok (.aload 7, 2) := by decide +kernel
theorem dL_act_489 : decode cL_act 489 = .ok (.putfield 191, 3) := by decide +kernel
theorem dL_act_492 : decode cL_act 492 = .ok (.aload_n 0, 1) := by decide +kernel
theorem dL_act_493 : decode cL_act 493 = .ok (.bipush 9, 2) := by decide +kernel
theorem dL_act_495 : decode cL_act 495 = .ok (.iconst 5, 1) := by decide +kernel
theorem dL_act_496 : decode cL_act 496 = .ok (.newarray .int, 2) := by decide +kernel
theorem dL_act_498 : decode cL_act 498 = .ok (.dup, 1) := by decide +kernel
theorem dL_act_499 : decode cL_act 499 = .ok (.iconst 0, 1) := by decide +kernel
theorem dL_act_500 : decode cL_act 500 = .ok (.iload 4, 2) := by decide +kernel
theorem dL_act_502 : decode cL_act 502 = .ok (.iastore, 1) := by decide +kernel
theorem dL_act_503 : decode cL_act 503 = .ok (.dup, 1) := by decide +kernel
theorem dL_act_504 : decode cL_act 504 = .ok (.iconst 1, 1) := by decide +kernel
theorem dL_act_505 : decode cL_act 505 = .ok (.bipush 100, 2) := by decide +kernel
theorem dL_act_507 : decode cL_act 507 = .ok (.iastore, 1) := by decide +kernel
theorem dL_act_508 : decode cL_act 508 = .ok (.dup, 1) := by decide +kernel
theorem dL_act_509 : decode cL_act 509 = .ok (.iconst 2, 1) := by decide +kernel
theorem dL_act_510 : decode cL_act 510 = .ok (.iconst 1, 1) := by decide +kernel
theorem dL_act_511 : decode cL_act 511 = .ok (.iastore, 1) := by decide +kernel
theorem dL_act_512 : decode cL_act 512 = .ok (.dup, 1) := by decide +kernel
theorem dL_act_513 : decode cL_act 513 = .ok (.iconst 3, 1) := by decide +kernel
theorem dL_act_514 : decode cL_act 514 = .ok (.iconst 0, 1) := by decide +kernel
theorem dL_act_515 : decode cL_act 515 = .ok (.iastore, 1) := by decide +kernel
theorem dL_act_516 : decode cL_act 516 = .ok (.dup, 1) := by decide +kernel
theorem dL_act_517 : decode cL_act 517 = .ok (.iconst 4, 1) := by decide +kernel
theorem dL_act_518 : decode cL_act 518 = .ok (.iconst 1, 1) := by decide +kernel
theorem dL_act_519 : decode cL_act 519 = .ok (.iastore, 1) := by decide +kernel
theorem dL_act_520 : decode cL_act 520 = .ok (.invokestatic 110, 3) := by decide +kernel
theorem dL_act_523 : decode cL_act 523 = .ok (.iconst 3, 1) := by decide +kernel
theorem dL_act_524 : decode cL_act 524 = .ok (.if_icmp .ne 37, 3) := by decide +kernel
theorem dL_act_527 : decode cL_act 527 = .ok (.aload_n 0, 1) := by decide +kernel
theorem dL_act_528 : decode cL_act 528 = .ok (.iload 4, 2) := by decide +kernel
theorem dL_act_530 : decode cL_act 530 = .ok (.aload 7, 2) := by decide +kernel
theorem dL_act_532 : decode cL_act 532 = .ok (.iconst 0, 1) := by decide +kernel
theorem dL_act_533 : decode cL_act 533 = .ok (.iaload, 1) := by decide +kernel
theorem dL_act_534 : decode cL_act 534 = .ok (.aload 7, 2) := by decide +kernel
theorem dL_act_536 : decode cL_act 536 = .ok (.iconst 1, 1) := by decide +kernel
theorem dL_act_537 : decode cL_act 537 = .ok (.iaload, 1) := by decide +kernel
theorem dL_act_538 : decode cL_act 538 = .ok (.aload 7, 2) := by decide +kernel
theorem dL_act_540 : decode cL_act 540 = .ok (.iconst 2, 1) := by decide +kernel
theorem dL_act_541 : decode cL_act 541 = .ok (.iaload, 1) := by decide +kernel
theorem dL_act_542 : decode cL_act 542 = .ok (.iload 8, 2) := by decide +kernel
theorem dL_act_544 : decode cL_act 544 = .ok (.invokevirtual 61, 3) := by decide +kernel
theorem dL_act_547 : decode cL_act 547 = .ok (.aload_n 1, 1) := by decide +kernel
theorem dL_act_548 : decode cL_act 548 = .ok (.getfield 133, 3) := by decide +kernel
theorem dL_act_551 : decode cL_act 551 = .ok (.iload 8, 2) := by decide +kernel
theorem dL_act_553 : decode cL_act 553 = .ok (.iadd, 1) := by decide +kernel
theorem dL_act_554 : decode cL_act 554 = .ok (.if_icmp .ne 7, 3) := by decide +kernel
theorem dL_act_557 : decode cL_act 557 = .ok (.iconst 1, 1) := by decide +kernel
theorem dL_act_558 : decode cL_act 558 = .ok (.goto 4, 3) := by decide +kernel
theorem dL_act_561 : decode cL_act 561 = .ok (.iconst 0, 1) := by decide +kernel
theorem dL_act_562 : decode cL_act 562 = .ok (.ireturn, 1) := by decide +kernel
theorem dL_act_563 : decode cL_act 563 = .ok (.iload_n 3, 1) := by decide +kernel
theorem dL_act_564 : decode cL_act 564 = .ok (.bipush 9, 2) := by decide +kernel
theorem dL_act_566 : decode cL_act 566 = .ok (.if_icmp .ne 151, 3) := by decide +kernel
theorem dL_act_569 : decode cL_act 569 = .ok (.aload_n 2, 1) := by decide +kernel
theorem dL_act_570 : decode cL_act 570 = .ok (.iconst 0, 1) := by decide +kernel
theorem dL_act_571 : decode cL_act 571 = .ok (.iconst 2, 1) := by decide +kernel
theorem dL_act_572 : decode cL_act 572 = .ok (.invokevirtual 198, 3) := by decide +kernel
theorem dL_act_575 : decode cL_act 575 = .ok (.istore 7, 2) := by decide +kernel
theorem dL_act_577 : decode cL_act 577 = .ok (.aload 6, 2) := by decide +kernel
theorem dL_act_579 : decode cL_act 579 = .ok (.invokevirtual 164, 3) := by decide +kernel
theorem dL_act_582 : decode cL_act 582 = .ok (.ifCond .eq 41, 3) := by decide +kernel
theorem dL_act_585 : decode cL_act 585 = .ok (.aload_n 1, 1) := by decide +kernel
theorem dL_act_586 : decode cL_act 586 = .ok (.getfield 185, 3) := by decide +kernel
theorem dL_act_589 : decode cL_act 589 = .ok (.iload 4, 2) := by decide +kernel
theorem dL_act_591 : decode cL_act 591 = .ok (.if_icmp .eq 32, 3) := by decide +kernel
theorem dL_act_594 : decode cL_act 594 = .ok (.aload_n 0, 1) := by decide +kernel
theorem dL_act_595 : decode cL_act 595 = .ok (.bipush 10, 2) := by decide +kernel
theorem dL_act_597 : decode cL_act 597 = .ok (.iconst 2, 1) := by decide +kernel
theorem dL_act_598 : decode cL_act 598 = .ok (.newarray .int, 2) := by decide +kernel
theorem dL_act_600 : decode cL_act 600 = .ok (.dup, 1) := by decide +kernel
theorem dL_act_601 : decode cL_act 601 = .ok (.iconst 0, 1) := by decide +kernel
theorem dL_act_602 : decode cL_act 602 = .ok (.iload 4, 2) := by decide +kernel
theorem dL_act_604 : decode cL_act 604 = .ok (.iastore, 1) := by decide +kernel
theorem dL_act_605 : decode cL_act 605 = .ok (.dup, 1) := by decide +kernel
theorem dL_act_606 : decode cL_act 606 = .ok (.iconst 1, 1) := by decide +kernel
theorem dL_act_607 : decode cL_act 607 = .ok (.iload 7, 2) := by decide +kernel
theorem dL_act_609 : decode cL_act 609 = .ok (.iastore, 1) := by decide +kernel
theorem dL_act_610 : decode cL_act 610 = .ok (.invokestatic 110, 3) := by decide +kernel
theorem dL_act_613 : decode cL_act 613 = .ok (.iconst 3, 1) := by decide +kernel
theorem dL_act_614 : decode cL_act 614 = .ok (.if_icmp .ne 7, 3) := by decide +kernel
theorem dL_act_617 : decode cL_act 617 = .ok (.iconst 1, 1) := by decide +kernel
theorem dL_act_618 : decode cL_act 618 = .ok (.goto 4, 3) := by decide +kernel
theorem dL_act_621 : decode cL_act 621 = .ok (.iconst 0, 1) := by decide +kernel
theorem dL_act_622 : decode cL_act 622 = .ok (.ireturn, 1) := by decide +kernel
theorem dL_act_623 : decode cL_act 623 = .ok (.aload_n 1, 1) := by decide +kernel
theorem dL_act_624 : decode cL_act 624 = .ok (.getfield 185, 3) := by decide +kernel
theorem dL_act_627 : decode cL_act 627 = .ok (.iload 4, 2) := by decide +kernel
theorem dL_act_629 : decode cL_act 629 = .ok (.if_icmp .ne 10, 3) := by decide +kernel
theorem dL_act_632 : decode cL_act 632 = .ok (.aload_n 1, 1) := by decide +kernel
theorem dL_act_633 : decode cL_act 633 = .ok (.getfield 191, 3) := by decide +kernel
theorem dL_act_636 : decode cL_act 636 = .ok (.goto 8, 3) := by decide +kernel
theorem dL_act_639 : decode cL_act 639 = .ok (.aload 6, 2) := by decide +kernel
theorem dL_act_641 : decode cL_act 641 = .ok (.getfield 183, 3) := by decide +kernel
theorem dL_act_644 : decode cL_act 644 = .ok (.astore 8, 2) := by decide +kernel
theorem dL_act_646 : decode cL_act 646 = .ok (.iload 7, 2) := by decide +kernel
theorem dL_act_648 : decode cL_act 648 = .ok (.iconst 1, 1) := by decide +kernel
theorem dL_act_649 : decode cL_act 649 = .ok (.if_icmp .eq 8, 3) := by decide +kernel
theorem dL_act_652 : decode cL_act 652 = .ok (.aload 8, 2) := by decide +kernel
theorem dL_act_654 : decode cL_act 654 = .ok (.iconst 3, 1) := by decide +kernel
theorem dL_act_655 : decode cL_act 655 = .ok (.iconst 1, 1) := by decide +kernel
theorem dL_act_656 : decode cL_act 656 = .ok (.iastore, 1) := by decide +kernel
theorem dL_act_657 : decode cL_act 657 = .ok (.iload 7, 2) := by decide +kernel
theorem dL_act_659 : decode cL_act 659 = .ok (.ifCond .eq 8, 3) := by decide +kernel
theorem dL_act_662 : decode cL_act 662 = .ok (.aload 8, 2) := by decide +kernel
theorem dL_act_664 : decode cL_act 664 = .ok (.iconst 4, 1) := by decide +kernel
theorem dL_act_665 : decode cL_act 665 = .ok (.iconst 1, 1) := by decide +kernel
theorem dL_act_666 : decode cL_act 666 = .ok (.iastore, 1) := by decide +kernel
theorem dL_act_667 : decode cL_act 667 = .ok (.aload_n 0, 1) := by decide +kernel
theorem dL_act_668 : decode cL_act 668 = .ok (.bipush 10, 2) := by decide +kernel
theorem dL_act_670 : decode cL_act 670 = .ok (.iconst 2, 1) := by decide +kernel
theorem dL_act_671 : decode cL_act 671 = .ok (.newarray .int, 2) := by decide +kernel
theorem dL_act_673 : decode cL_act 673 = .ok (.dup, 1) := by decide +kernel
theorem dL_act_674 : decode cL_act 674 = .ok (.iconst 0, 1) := by decide +kernel
theorem dL_act_675 : decode cL_act 675 = .ok (.iload 4, 2) := by decide +kernel
theorem dL_act_677 : decode cL_act 677 = .ok (.iastore, 1) := by decide +kernel
theorem dL_act_678 : decode cL_act 678 = .ok (.dup, 1) := by decide +kernel
theorem dL_act_679 : decode cL_act 679 = .ok (.iconst 1, 1) := by decide +kernel
theorem dL_act_680 : decode cL_act 680 = .ok (.iconst 3, 1) := by decide +kernel
theorem dL_act_681 : decode cL_act 681 = .ok (.iastore, 1) := by decide +kernel
theorem dL_act_682 : decode cL_act 682 = .ok (.invokestatic 110, 3) := by decide +kernel
theorem dL_act_685 : decode cL_act 685 = .ok (.iconst 3, 1) := by decide +kernel
theorem dL_act_686 : decode cL_act 686 = .ok (.if_icmp .ne 29, 3) := by decide +kernel
theorem dL_act_689 : decode cL_act 689 = .ok (.aload_n 0, 1) := by decide +kernel
theorem dL_act_690 : decode cL_act 690 = .ok (.iload 4, 2) := by decide +kernel
theorem dL_act_692 : decode cL_act 692 = .ok (.iload 7, 2) := by decide +kernel
theorem dL_act_694 : decode cL_act 694 = .ok (.invokevirtual 64, 3) := by decide +kernel
theorem dL_act_697 : decode cL_act 697 = .ok (.aload 8, 2) := by decide +kernel
theorem dL_act_699 : decode cL_act 699 = .ok (.iconst 3, 1) := by decide +kernel
theorem dL_act_700 : decode cL_act 700 = .ok (.iaload, 1) := by decide +kernel
theorem dL_act_701 : decode cL_act 701 = .ok (.iconst 2, 1) := by decide +kernel
theorem dL_act_702 : decode cL_act 702 = .ok (.aload 8, 2) := by decide +kernel
theorem dL_act_704 : decode cL_act 704 = .ok (.iconst 4, 1) := by decide +kernel
theorem dL_act_705 : decode cL_act 705 = .ok (.iaload, 1) := by decide +kernel
theorem dL_act_706 : decode cL_act 706 = .ok (.imul, 1) := by decide +kernel
theorem dL_act_707 : decode cL_act 707 = .ok (.iadd, 1) := by decide +kernel
theorem dL_act_708 : decode cL_act 708 = .ok (.if_icmp .ne 7, 3) := by decide +kernel
theorem dL_act_711 : decode cL_act 711 = .ok (.iconst 1, 1) := by decide +kernel
theorem dL_act_712 : decode cL_act 712 = .ok (.goto 4, 3) := by decide +kernel
theorem dL_act_715 : decode cL_act 715 = .ok (.iconst 0, 1) := by decide +kernel
theorem dL_act_716 : decode cL_act 716 = .ok (.ireturn, 1) := by decide +kernel
theorem dL_act_717 : decode cL_act 717 = .ok (.iload_n 3, 1) := by decide +kernel
theorem dL_act_718 : decode cL_act 718 = .ok (.bipush 10, 2) := by decide +kernel
theorem dL_act_720 : decode cL_act 720 = .ok (.if_icmp .ne 132, 3) := by decide +kernel
theorem dL_act_723 : decode cL_act 723 = .ok (.aload_n 2, 1) := by decide +kernel
theorem dL_act_724 : decode cL_act 724 = .ok (.iconst 0, 1) := by decide +kernel
theorem dL_act_725 : decode cL_act 725 = .ok (.bipush 15, 2) := by decide +kernel
theorem dL_act_727 : decode cL_act 727 = .ok (.invokevirtual 198, 3) := by decide +kernel
theorem dL_act_730 : decode cL_act 730 = .ok (.istore 7, 2) := by decide +kernel
theorem dL_act_732 : decode cL_act 732 = .ok (.aload_n 2, 1) := by decide +kernel
theorem dL_act_733 : decode cL_act 733 = .ok (.iconst 0, 1) := by decide +kernel
theorem dL_act_734 : decode cL_act 734 = .ok (.bipush 7, 2) := by decide +kernel
theorem dL_act_736 : decode cL_act 736 = .ok (.invokevirtual 198, 3) := by decide +kernel
theorem dL_act_739 : decode cL_act 739 = .ok (.istore 8, 2) := by decide +kernel

theorem dL_isStep_301 : decode cL_isStep 301 = .ok (.ishr, 1) := by decide +kernel
theorem dL_isStep_302 : decode cL_isStep 302 = .ok (.bipush 90, 2) := by decide +kernel
theorem dL_isStep_304 : decode cL_isStep 304 = .ok (.invokestatic 9, 3) := by decide +kernel
theorem dL_isStep_307 : decode cL_isStep 307 = .ok (.istore 8, 2) := by decide +kernel
theorem dL_isStep_309 : decode cL_isStep 309 = .ok (.aload_n 0, 1) := by decide +kernel
theorem dL_isStep_310 : decode cL_isStep 310 = .ok (.iload 5, 2) := by decide +kernel
theorem dL_isStep_312 : decode cL_isStep 312 = .ok (.iconst 0, 1) := by decide +kernel
theorem dL_isStep_313 : decode cL_isStep 313 = .ok (.invokevirtual 33, 3) := by decide +kernel
theorem dL_isStep_316 : decode cL_isStep 316 = .ok (.istore 9, 2) := by decide +kernel
theorem dL_isStep_318 : decode cL_isStep 318 = .ok (.iload_n 3, 1) := by decide +kernel
theorem dL_isStep_319 : decode cL_isStep 319 = .ok (.bipush 22, 2) := by decide +kernel
theorem dL_isStep_321 : decode cL_isStep 321 = .ok (.ishr, 1) := by decide +kernel
theorem dL_isStep_322 : decode cL_isStep 322 = .ok (.iconst 2, 1) := by decide +kernel
theorem dL_isStep_323 : decode cL_isStep 323 = .ok (.invokestatic 9, 3) := by decide +kernel
theorem dL_isStep_326 : decode cL_isStep 326 = .ok (.ifCond .ne 15, 3) := by decide +kernel
theorem dL_isStep_329 : decode cL_isStep 329 = .ok (.iload 9, 2) := by decide +kernel
theorem dL_isStep_331 : decode cL_isStep 331 = .ok (.iload 6, 2) := by decide +kernel
theorem dL_isStep_333 : decode cL_isStep 333 = .ok (.if_icmp .eq 8, 3) := by decide +kernel
theorem dL_isStep_336 : decode cL_isStep 336 = .ok (.iload 9, 2) := by decide +kernel
theorem dL_isStep_338 : decode cL_isStep 338 = .ok (.goto 5, 3) := by decide +kernel
theorem dL_isStep_341 : decode cL_isStep 341 = .ok (.iload 4, 2) := by decide +kernel
theorem dL_isStep_343 : decode cL_isStep 343 = .ok (.istore 10, 2) := by decide +kernel
theorem dL_isStep_345 : decode cL_isStep 345 = .ok (.aload_n 0, 1) := by decide +kernel
theorem dL_isStep_346 : decode cL_isStep 346 = .ok (.iload 10, 2) := by decide +kernel
theorem dL_isStep_348 : decode cL_isStep 348 = .ok (.iload 6, 2) := by decide +kernel
theorem dL_isStep_350 : decode cL_isStep 350 = .ok (.iload 5, 2) := by decide +kernel
theorem dL_isStep_352 : decode cL_isStep 352 = .ok (.iload 7, 2) := by decide +kernel
theorem dL_isStep_354 : decode cL_isStep 354 = .ok (.iload 8, 2) := by decide +kernel
theorem dL_isStep_356 : decode cL_isStep 356 = .ok (.invokevirtual 36, 3) := by decide +kernel
theorem dL_isStep_359 : decode cL_isStep 359 = .ok (.istore 11, 2) := by decide +kernel
theorem dL_isStep_361 : decode cL_isStep 361 = .ok (.iload 11, 2) := by decide +kernel
theorem dL_isStep_363 : decode cL_isStep 363 = .ok (.aload_n 1, 1) := by decide +kernel
theorem dL_isStep_364 : decode cL_isStep 364 = .ok (.bipush 9, 2) := by decide +kernel
theorem dL_isStep_366 : decode cL_isStep 366 = .ok (.iload 10, 2) := by decide +kernel
theorem dL_isStep_368 : decode cL_isStep 368 = .ok (.isub, 1) := by decide +kernel
theorem dL_isStep_369 : decode cL_isStep 369 = .ok (.bipush 9, 2) := by decide +kernel
theorem dL_isStep_371 : decode cL_isStep 371 = .ok (.iload 6, 2) := by decide +kernel
theorem dL_isStep_373 : decode cL_isStep 373 = .ok (.isub, 1) := by decide +kernel
theorem dL_isStep_374 : decode cL_isStep 374 = .ok (.iload 5, 2) := by decide +kernel
theorem dL_isStep_376 : decode cL_isStep 376 = .ok (.iload 7, 2) := by decide +kernel
theorem dL_isStep_378 : decode cL_isStep 378 = .ok (.iload 8, 2) := by decide +kernel
theorem dL_isStep_380 : decode cL_isStep 380 = .ok (.invokevirtual 36, 3) := by decide +kernel
theorem dL_isStep_383 : decode cL_isStep 383 = .ok (.if_icmp .eq 5, 3) := by decide +kernel
theorem dL_isStep_386 : decode cL_isStep 386 = .ok (.iconst 0, 1) := by decide +kernel
theorem dL_isStep_387 : decode cL_isStep 387 = .ok (.ireturn, 1) := by decide +kernel
theorem dL_isStep_388 : decode cL_isStep 388 = .ok (.iload 11, 2) := by decide +kernel
theorem dL_isStep_390 : decode cL_isStep 390 = .ok (.iconst (-1), 1) := by decide +kernel
theorem dL_isStep_391 : decode cL_isStep 391 = .ok (.if_icmp .ne 5, 3) := by decide +kernel
theorem dL_isStep_394 : decode cL_isStep 394 = .ok (.iconst 1, 1) := by decide +kernel
theorem dL_isStep_395 : decode cL_isStep 395 = .ok (.ireturn, 1) := by decide +kernel
theorem dL_isStep_396 : decode cL_isStep 396 = .ok (.aload_n 0, 1) := by decide +kernel
theorem dL_isStep_397 : decode cL_isStep 397 = .ok (.bipush 6, 2) := by decide +kernel
theorem dL_isStep_399 : decode cL_isStep 399 = .ok (.invokevirtual 40, 3) := by decide +kernel
theorem dL_isStep_402 : decode cL_isStep 402 = .ok (.istore 12, 2) := by decide +kernel
theorem dL_isStep_404 : decode cL_isStep 404 = .ok (.aload_n 0, 1) := by decide +kernel
theorem dL_isStep_405 : decode cL_isStep 405 = .ok (.iload 10, 2) := by decide +kernel
theorem dL_isStep_407 : decode cL_isStep 407 = .ok (.iload 6, 2) := by decide +kernel
theorem dL_isStep_409 : decode cL_isStep 409 = .ok (.iload 5, 2) := by decide +kernel
theorem dL_isStep_411 : decode cL_isStep 411 = .ok (.iload 7, 2) := by decide +kernel
theorem dL_isStep_413 : decode cL_isStep 413 = .ok (.iload 8, 2) := by decide +kernel
theorem dL_isStep_415 : decode cL_isStep 415 = .ok (.invokevirtual 43, 3) := by decide +kernel
theorem dL_isStep_418 : decode cL_isStep 418 = .ok (.istore 13, 2) := by decide +kernel
theorem dL_isStep_420 : decode cL_isStep 420 = .ok (.iload 11, 2) := by decide +kernel
theorem dL_isStep_422 : decode cL_isStep 422 = .ok (.ifCond .lt 58, 3) := by decide +kernel
theorem dL_isStep_425 : decode cL_isStep 425 = .ok (.iload 13, 2) := by decide +kernel
theorem dL_isStep_427 : decode cL_isStep 427 = .ok (.aload_n 1, 1) := by decide +kernel
theorem dL_isStep_428 : decode cL_isStep 428 = .ok (.bipush 9, 2) := by decide +kernel
theorem dL_isStep_430 : decode cL_isStep 430 = .ok (.iload 10, 2) := by decide +kernel
theorem dL_isStep_432 : decode cL_isStep 432 = .ok (.isub, 1) := by decide +kernel
theorem dL_isStep_433 : decode cL_isStep 433 = .ok (.bipush 9, 2) := by decide +kernel
theorem dL_isStep_435 : decode cL_isStep 435 = .ok (.iload 6, 2) := by decide +kernel
theorem dL_isStep_437 : decode cL_isStep 437 = .ok (.isub, 1) := by decide +kernel
theorem dL_isStep_438 : decode cL_isStep 438 = .ok (.iload 5, 2) := by decide +kernel
theorem dL_isStep_440 : decode cL_isStep 440 = .ok (.iload 7, 2) := by decide +kernel
theorem dL_isStep_442 : decode cL_isStep 442 = .ok (.iload 8, 2) := by decide +kernel
theorem dL_isStep_444 : decode cL_isStep 444 = .ok (.invokevirtual 43, 3) := by decide +kernel
theorem dL_isStep_447 : decode cL_isStep 447 = .ok (.if_icmp .ne 33, 3) := by decide +kernel
theorem dL_isStep_450 : decode cL_isStep 450 = .ok (.aload_n 0, 1) := by decide +kernel
theorem dL_isStep_451 : decode cL_isStep 451 = .ok (.bipush 6, 2) := by decide +kernel
theorem dL_isStep_453 : decode cL_isStep 453 = .ok (.invokevirtual 40, 3) := by decide +kernel
theorem dL_isStep_456 : decode cL_isStep 456 = .ok (.iload 12, 2) := by decide +kernel
theorem dL_isStep_458 : decode cL_isStep 458 = .ok (.iload 11, 2) := by decide +kernel
theorem dL_isStep_460 : decode cL_isStep 460 = .ok (.iadd, 1) := by decide +kernel
theorem dL_isStep_461 : decode cL_isStep 461 = .ok (.if_icmp .ne 19, 3) := by decide +kernel
theorem dL_isStep_464 : decode cL_isStep 464 = .ok (.aload_n 0, 1) := by decide +kernel
theorem dL_isStep_465 : decode cL_isStep 465 = .ok (.iload 13, 2) := by decide +kernel
theorem dL_isStep_467 : decode cL_isStep 467 = .ok (.iconst 3, 1) := by decide +kernel
theorem dL_isStep_468 : decode cL_isStep 468 = .ok (.invokevirtual 46, 3) := by decide +kernel
theorem dL_isStep_471 : decode cL_isStep 471 = .ok (.iload 7, 2) := by decide +kernel
theorem dL_isStep_473 : decode cL_isStep 473 = .ok (.if_icmp .ne 7, 3) := by decide +kernel
theorem dL_isStep_476 : decode cL_isStep 476 = .ok (.iconst 1, 1) := by decide +kernel
theorem dL_isStep_477 : decode cL_isStep 477 = .ok (.goto 4, 3) := by decide +kernel
theorem dL_isStep_480 : decode cL_isStep 480 = .ok (.iconst 0, 1) := by decide +kernel
theorem dL_isStep_481 : decode cL_isStep 481 = .ok (.ireturn, 1) := by decide +kernel
theorem dL_areAlike_0 : decode cL_areAlike 0 = .ok (.aload_n 0, 1) := by decide +kernel
theorem dL_areAlike_1 : decode cL_areAlike 1 = .ok (.invokevirtual 49, 3) := by decide +kernel
theorem dL_areAlike_4 : decode cL_areAlike 4 = .ok (.aload_n 1, 1) := by decide +kernel
theorem dL_areAlike_5 : decode cL_areAlike 5 = .ok (.invokevirtual 49, 3) := by decide +kernel
theorem dL_areAlike_8 : decode cL_areAlike 8 = .ok (.dcmp .l, 1) := by decide +kernel
theorem dL_areAlike_9 : decode cL_areAlike 9 = .ok (.ifCond .ne 22, 3) := by decide +kernel
theorem dL_areAlike_12 : decode cL_areAlike 12 = .ok (.aload_n 0, 1) := by decide +kernel
theorem dL_areAlike_13 : decode cL_areAlike 13 = .ok (.bipush 9, 2) := by decide +kernel
theorem dL_areAlike_15 : decode cL_areAlike 15 = .ok (.invokevirtual 53, 3) := by decide +kernel
theorem dL_areAlike_18 : decode cL_areAlike 18 = .ok (.aload_n 1, 1) := by decide +kernel
theorem dL_areAlike_19 : decode cL_areAlike 19 = .ok (.bipush 9, 2) := by decide +kernel
theorem dL_areAlike_21 : decode cL_areAlike 21 = .ok (.invokevirtual 53, 3) := by decide +kernel
theorem dL_areAlike_24 : decode cL_areAlike 24 = .ok (.if_icmp .ne 7, 3) := by decide +kernel
theorem dL_areAlike_27 : decode cL_areAlike 27 = .ok (.iconst 1, 1) := by decide +kernel
theorem dL_areAlike_28 : decode cL_areAlike 28 = .ok (.goto 4, 3) := by decide +kernel
theorem dL_areAlike_31 : decode cL_areAlike 31 = .ok (.iconst 0, 1) := by decide +kernel
theorem dL_areAlike_32 : decode cL_areAlike 32 = .ok (.istore_n 2, 1) := by decide +kernel
theorem dL_areAlike_33 : decode cL_areAlike 33 = .ok (.iconst 0, 1) := by decide +kernel
theorem dL_areAlike_34 : decode cL_areAlike 34 = .ok (.istore_n 3, 1) := by decide +kernel
theorem dL_areAlike_35 : decode cL_areAlike 35 = .ok (.iload_n 3, 1) := by decide +kernel
theorem dL_areAlike_36 : decode cL_areAlike 36 = .ok (.bipush 9, 2) := by decide +kernel
theorem dL_areAlike_38 : decode cL_areAlike 38 = .ok (.if_icmp .ge 32, 3) := by decide +kernel
theorem dL_areAlike_41 : decode cL_areAlike 41 = .ok (.iload_n 2, 1) := by decide +kernel
theorem dL_areAlike_42 : decode cL_areAlike 42 = .ok (.ifCond .eq 20, 3) := by decide +kernel
theorem dL_areAlike_45 : decode cL_areAlike 45 = .ok (.aload_n 0, 1) := by decide +kernel
theorem dL_areAlike_46 : decode cL_areAlike 46 = .ok (.iload_n 3, 1) := by decide +kernel
theorem dL_areAlike_47 : decode cL_areAlike 47 = .ok (.invokevirtual 40, 3) := by decide +kernel
theorem dL_areAlike_50 : decode cL_areAlike 50 = .ok (.aload_n 1, 1) := by decide +kernel
theorem dL_areAlike_51 : decode cL_areAlike 51 = .ok (.iload_n 3, 1) := by decide +kernel
theorem dL_areAlike_52 : decode cL_areAlike 52 = .ok (.invokevirtual 40, 3) := by decide +kernel
theorem dL_areAlike_55 : decode cL_areAlike 55 = .ok (.if_icmp .ne 7, 3) := by decide +kernel
theorem dL_areAlike_58 : decode cL_areAlike 58 = .ok (.iconst 1, 1) := by decide +kernel
theorem dL_areAlike_59 : decode cL_areAlike 59 = .ok (.goto 4, 3) := by decide +kernel
theorem dL_areAlike_62 : decode cL_areAlike 62 = .ok (.iconst 0, 1) := by decide +kernel
theorem dL_areAlike_63 : decode cL_areAlike 63 = .ok (.istore_n 2, 1) := by decide +kernel
theorem dL_areAlike_64 : decode cL_areAlike 64 = .ok (.iinc 3 1, 3) := by decide +kernel
theorem dL_areAlike_67 : decode cL_areAlike 67 = .ok (.goto (-32), 3) := by decide +kernel
theorem dL_areAlike_70 : decode cL_areAlike 70 = .ok (.iconst 0, 1) := by decide +kernel
theorem dL_areAlike_71 : decode cL_areAlike 71 = .ok (.istore_n 3, 1) := by decide +kernel
theorem dL_areAlike_72 : decode cL_areAlike 72 = .ok (.iload_n 3, 1) := by decide +kernel
theorem dL_areAlike_73 : decode cL_areAlike 73 = .ok (.bipush 10, 2) := by decide +kernel
theorem dL_areAlike_75 : decode cL_areAlike 75 = .ok (.if_icmp .ge 248, 3) := by decide +kernel
theorem dL_areAlike_78 : decode cL_areAlike 78 = .ok (.iload_n 2, 1) := by decide +kernel
theorem dL_areAlike_79 : decode cL_areAlike 79 = .ok (.ifCond .eq 244, 3) := by decide +kernel
theorem dL_areAlike_82 : decode cL_areAlike 82 = .ok (.iconst 0, 1) := by decide +kernel
theorem dL_areAlike_83 : decode cL_areAlike 83 = .ok (.istore 4, 2) := by decide +kernel
theorem dL_areAlike_85 : decode cL_areAlike 85 = .ok (.iload 4, 2) := by decide +kernel
theorem dL_areAlike_87 : decode cL_areAlike 87 = .ok (.bipush 7, 2) := by decide +kernel
theorem dL_areAlike_89 : decode cL_areAlike 89 = .ok (.if_icmp .ge 39, 3) := by decide +kernel
theorem dL_areAlike_92 : decode cL_areAlike 92 = .ok (.iload_n 2, 1) := by decide +kernel
theorem dL_areAlike_93 : decode cL_areAlike 93 = .ok (.ifCond .eq 27, 3) := by decide +kernel
theorem dL_areAlike_96 : decode cL_areAlike 96 = .ok (.aload_n 0, 1) := by decide +kernel
theorem dL_areAlike_97 : decode cL_areAlike 97 = .ok (.iload_n 3, 1) := by decide +kernel
theorem dL_areAlike_98 : decode cL_areAlike 98 = .ok (.iload 4, 2) := by decide +kernel
theorem dL_areAlike_100 : decode cL_areAlike 100 = .ok (.invokevirtual 56, 3) := by decide +kernel
theorem dL_areAlike_103 : decode cL_areAlike 103 = .ok (.aload_n 1, 1) := by decide +kernel
theorem dL_areAlike_104 : decode cL_areAlike 104 = .ok (.bipush 9, 2) := by decide +kernel
theorem dL_areAlike_106 : decode cL_areAlike 106 = .ok (.iload_n 3, 1) := by decide +kernel
theorem dL_areAlike_107 : decode cL_areAlike 107 = .ok (.isub, 1) := by decide +kernel
theorem dL_areAlike_108 : decode cL_areAlike 108 = .ok (.iload 4, 2) := by decide +kernel
theorem dL_areAlike_110 : decode cL_areAlike 110 = .ok (.invokevirtual 56, 3) := by decide +kernel
theorem dL_areAlike_113 : decode cL_areAlike 113 = .ok (.if_icmp .ne 7, 3) := by decide +kernel
theorem dL_areAlike_116 : decode cL_areAlike 116 = .ok (.iconst 1, 1) := by decide +kernel
theorem dL_areAlike_117 : decode cL_areAlike 117 = .ok (.goto 4, 3) := by decide +kernel
theorem dL_areAlike_120 : decode cL_areAlike 120 = .ok (.iconst 0, 1) := by decide +kernel
theorem dL_areAlike_121 : decode cL_areAlike 121 = .ok (.istore_n 2, 1) := by decide +kernel
theorem dL_areAlike_122 : decode cL_areAlike 122 = .ok (.iinc 4 1, 3) := by decide +kernel
theorem dL_areAlike_125 : decode cL_areAlike 125 = .ok (.goto (-40), 3) := by decide +kernel
theorem dL_areAlike_128 : decode cL_areAlike 128 = .ok (.iload_n 2, 1) := by decide +kernel
theorem dL_areAlike_129 : decode cL_areAlike 129 = .ok (.ifCond .eq 39, 3) := by decide +kernel
theorem dL_areAlike_132 : decode cL_areAlike 132 = .ok (.aload_n 0, 1) := by decide +kernel
theorem dL_areAlike_133 : decode cL_areAlike 133 = .ok (.iload_n 3, 1) := by decide +kernel
theorem dL_areAlike_134 : decode cL_areAlike 134 = .ok (.invokevirtual 59, 3) := by decide +kernel
theorem dL_areAlike_137 : decode cL_areAlike 137 = .ok (.aload_n 1, 1) := by decide +kernel
theorem dL_areAlike_138 : decode cL_areAlike 138 = .ok (.bipush 9, 2) := by decide +kernel
theorem dL_areAlike_140 : decode cL_areAlike 140 = .ok (.iload_n 3, 1) := by decide +kernel
theorem dL_areAlike_141 : decode cL_areAlike 141 = .ok (.isub, 1) := by decide +kernel
theorem dL_areAlike_142 : decode cL_areAlike 142 = .ok (.invokevirtual 59, 3) := by decide +kernel
theorem dL_areAlike_145 : decode cL_areAlike 145 = .ok (.if_icmp .ne 23, 3) := by decide +kernel
theorem dL_areAlike_148 : decode cL_areAlike 148 = .ok (.aload_n 0, 1) := by decide +kernel
theorem dL_areAlike_149 : decode cL_areAlike 149 = .ok (.iload_n 3, 1) := by decide +kernel
theorem dL_areAlike_150 : decode cL_areAlike 150 = .ok (.invokevirtual 62, 3) := by decide +kernel
theorem dL_areAlike_153 : decode cL_areAlike 153 = .ok (.aload_n 1, 1) := by decide +kernel
theorem dL_areAlike_154 : decode cL_areAlike 154 = .ok (.bipush 9, 2) := by decide +kernel
theorem dL_areAlike_156 : decode cL_areAlike 156 = .ok (.iload_n 3, 1) := by decide +kernel

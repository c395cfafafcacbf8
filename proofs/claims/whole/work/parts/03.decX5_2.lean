theorem dX5_powers_356 : decode cX5_powers 356 = .ok (.getfield 34, 3) := by decide +kernel
theorem dX5_powers_359 : decode cX5_powers 359 = .ok (.bipush 18, 2) := by decide +kernel
theorem dX5_powers_361 : decode cX5_powers 361 = .ok (.iload 6, 2) := by decide +kernel
theorem dX5_powers_363 : decode cX5_powers 363 = .ok (.imul, 1) := by decide +kernel
theorem dX5_powers_364 : decode cX5_powers 364 = .ok (.iload 6, 2) := by decide +kernel
theorem dX5_powers_366 : decode cX5_powers 366 = .ok (.iadd, 1) := by decide +kernel
theorem dX5_powers_367 : decode cX5_powers 367 = .ok (.iaload, 1) := by decide +kernel
theorem dX5_powers_368 : decode cX5_powers 368 = .ok (.invokestatic 133, 3) := by decide +kernel
theorem dX5_powers_371 : decode cX5_powers 371 = .ok (.invokestatic 52, 3) := by decide +kernel
theorem dX5_powers_374 : decode cX5_powers 374 = .ok (.iastore, 1) := by decide +kernel
theorem dX5_powers_375 : decode cX5_powers 375 = .ok (.iinc 6 (-1), 3) := by decide +kernel
theorem dX5_powers_378 : decode cX5_powers 378 = .ok (.goto (-100), 3) := by decide +kernel
theorem dX5_powers_381 : decode cX5_powers 381 = .ok (.iconst 0, 1) := by decide +kernel
theorem dX5_powers_382 : decode cX5_powers 382 = .ok (.istore 6, 2) := by decide +kernel
theorem dX5_powers_384 : decode cX5_powers 384 = .ok (.iload 6, 2) := by decide +kernel
theorem dX5_powers_386 : decode cX5_powers 386 = .ok (.aload_n 0, 1) := by decide +kernel
theorem dX5_powers_387 : decode cX5_powers 387 = .ok (.getfield 81, 3) := by decide +kernel
theorem dX5_powers_390 : decode cX5_powers 390 = .ok (.if_icmp .gt 85, 3) := by decide +kernel
theorem dX5_powers_393 : decode cX5_powers 393 = .ok (.iconst 0, 1) := by decide +kernel
theorem dX5_powers_394 : decode cX5_powers 394 = .ok (.istore 7, 2) := by decide +kernel
theorem dX5_powers_396 : decode cX5_powers 396 = .ok (.iconst 0, 1) := by decide +kernel
theorem dX5_powers_397 : decode cX5_powers 397 = .ok (.istore 8, 2) := by decide +kernel
theorem dX5_powers_399 : decode cX5_powers 399 = .ok (.iload 8, 2) := by decide +kernel
theorem dX5_powers_401 : decode cX5_powers 401 = .ok (.iload_n 3, 1) := by decide +kernel
theorem dX5_powers_402 : decode cX5_powers 402 = .ok (.if_icmp .ge 40, 3) := by decide +kernel
theorem dX5_powers_405 : decode cX5_powers 405 = .ok (.iload 7, 2) := by decide +kernel
theorem dX5_powers_407 : decode cX5_powers 407 = .ok (.i2l, 1) := by decide +kernel
theorem dX5_powers_408 : decode cX5_powers 408 = .ok (.aload_n 0, 1) := by decide +kernel
theorem dX5_powers_409 : decode cX5_powers 409 = .ok (.getfield 40, 3) := by decide +kernel
theorem dX5_powers_412 : decode cX5_powers 412 = .ok (.iload 8, 2) := by decide +kernel
theorem dX5_powers_414 : decode cX5_powers 414 = .ok (.iaload, 1) := by decide +kernel
theorem dX5_powers_415 : decode cX5_powers 415 = .ok (.i2l, 1) := by decide +kernel
theorem dX5_powers_416 : decode cX5_powers 416 = .ok (.aload_n 0, 1) := by decide +kernel
theorem dX5_powers_417 : decode cX5_powers 417 = .ok (.getfield 37, 3) := by decide +kernel
theorem dX5_powers_420 : decode cX5_powers 420 = .ok (.iload 8, 2) := by decide +kernel
theorem dX5_powers_422 : decode cX5_powers 422 = .ok (.iaload, 1) := by decide +kernel
theorem dX5_powers_423 : decode cX5_powers 423 = .ok (.iload 6, 2) := by decide +kernel
theorem dX5_powers_425 : decode cX5_powers 425 = .ok (.invokestatic 155, 3) := by decide +kernel
theorem dX5_powers_428 : decode cX5_powers 428 = .ok (.i2l, 1) := by decide +kernel
theorem dX5_powers_429 : decode cX5_powers 429 = .ok (.lmul, 1) := by decide +kernel
theorem dX5_powers_430 : decode cX5_powers 430 = .ok (.ladd, 1) := by decide +kernel
theorem dX5_powers_431 : decode cX5_powers 431 = .ok (.invokestatic 48, 3) := by decide +kernel
theorem dX5_powers_434 : decode cX5_powers 434 = .ok (.istore 7, 2) := by decide +kernel
theorem dX5_powers_436 : decode cX5_powers 436 = .ok (.iinc 8 1, 3) := by decide +kernel
theorem dX5_powers_439 : decode cX5_powers 439 = .ok (.goto (-40), 3) := by decide +kernel
theorem dX5_powers_442 : decode cX5_powers 442 = .ok (.iload 7, 2) := by decide +kernel
theorem dX5_powers_444 : decode cX5_powers 444 = .ok (.aload_n 0, 1) := by decide +kernel
theorem dX5_powers_445 : decode cX5_powers 445 = .ok (.getfield 81, 3) := by decide +kernel
theorem dX5_powers_448 : decode cX5_powers 448 = .ok (.iload 6, 2) := by decide +kernel
theorem dX5_powers_450 : decode cX5_powers 450 = .ok (.invokestatic 123, 3) := by decide +kernel
theorem dX5_powers_453 : decode cX5_powers 453 = .ok (.invokestatic 52, 3) := by decide +kernel
theorem dX5_powers_456 : decode cX5_powers 456 = .ok (.aload_n 0, 1) := by decide +kernel
theorem dX5_powers_457 : decode cX5_powers 457 = .ok (.getfield 22, 3) := by decide +kernel
theorem dX5_powers_460 : decode cX5_powers 460 = .ok (.iload 6, 2) := by decide +kernel
theorem dX5_powers_462 : decode cX5_powers 462 = .ok (.iaload, 1) := by decide +kernel
theorem dX5_powers_463 : decode cX5_powers 463 = .ok (.if_icmp .eq 6, 3) := by decide +kernel
theorem dX5_powers_466 : decode cX5_powers 466 = .ok (.bipush (-3), 2) := by decide +kernel
theorem dX5_powers_468 : decode cX5_powers 468 = .ok (.ireturn, 1) := by decide +kernel
theorem dX5_powers_469 : decode cX5_powers 469 = .ok (.iinc 6 1, 3) := by decide +kernel
theorem dX5_powers_472 : decode cX5_powers 472 = .ok (.goto (-88), 3) := by decide +kernel
theorem dX5_powers_475 : decode cX5_powers 475 = .ok (.aload_n 0, 1) := by decide +kernel
theorem dX5_powers_476 : decode cX5_powers 476 = .ok (.iload_n 3, 1) := by decide +kernel
theorem dX5_powers_477 : decode cX5_powers 477 = .ok (.iconst 1, 1) := by decide +kernel
theorem dX5_powers_478 : decode cX5_powers 478 = .ok (.isub, 1) := by decide +kernel
theorem dX5_powers_479 : decode cX5_powers 479 = .ok (.invokevirtual 113, 3) := by decide +kernel
theorem dX5_powers_482 : decode cX5_powers 482 = .ok (.iconst 0, 1) := by decide +kernel
theorem dX5_powers_483 : decode cX5_powers 483 = .ok (.istore 6, 2) := by decide +kernel
theorem dX5_powers_485 : decode cX5_powers 485 = .ok (.iload 6, 2) := by decide +kernel
theorem dX5_powers_487 : decode cX5_powers 487 = .ok (.iload_n 3, 1) := by decide +kernel
theorem dX5_powers_488 : decode cX5_powers 488 = .ok (.if_icmp .ge 23, 3) := by decide +kernel
theorem dX5_powers_491 : decode cX5_powers 491 = .ok (.aload_n 0, 1) := by decide +kernel
theorem dX5_powers_492 : decode cX5_powers 492 = .ok (.getfield 28, 3) := by decide +kernel
theorem dX5_powers_495 : decode cX5_powers 495 = .ok (.iload 6, 2) := by decide +kernel
theorem dX5_powers_497 : decode cX5_powers 497 = .ok (.aload_n 0, 1) := by decide +kernel
theorem dX5_powers_498 : decode cX5_powers 498 = .ok (.getfield 40, 3) := by decide +kernel
theorem dX5_powers_501 : decode cX5_powers 501 = .ok (.iload 6, 2) := by decide +kernel
theorem dX5_powers_503 : decode cX5_powers 503 = .ok (.iaload, 1) := by decide +kernel
theorem dX5_powers_504 : decode cX5_powers 504 = .ok (.iastore, 1) := by decide +kernel
theorem dX5_powers_505 : decode cX5_powers 505 = .ok (.iinc 6 1, 3) := by decide +kernel
theorem dX5_powers_508 : decode cX5_powers 508 = .ok (.goto (-23), 3) := by decide +kernel
theorem dX5_powers_511 : decode cX5_powers 511 = .ok (.aload_n 0, 1) := by decide +kernel
theorem dX5_powers_512 : decode cX5_powers 512 = .ok (.iload 4, 2) := by decide +kernel
theorem dX5_powers_514 : decode cX5_powers 514 = .ok (.invokevirtual 116, 3) := by decide +kernel
theorem dX5_powers_517 : decode cX5_powers 517 = .ok (.istore 6, 2) := by decide +kernel
theorem dX5_powers_519 : decode cX5_powers 519 = .ok (.iload_n 3, 1) := by decide +kernel
theorem dX5_powers_520 : decode cX5_powers 520 = .ok (.ireturn, 1) := by decide +kernel
theorem dX5_build_0 : decode cX5_build 0 = .ok (.iload_n 1, 1) := by decide +kernel
theorem dX5_build_1 : decode cX5_build 1 = .ok (.invokestatic 66, 3) := by decide +kernel
theorem dX5_build_4 : decode cX5_build 4 = .ok (.ifCond .eq 43, 3) := by decide +kernel
theorem dX5_build_7 : decode cX5_build 7 = .ok (.iload_n 2, 1) := by decide +kernel
theorem dX5_build_8 : decode cX5_build 8 = .ok (.invokestatic 66, 3) := by decide +kernel
theorem dX5_build_11 : decode cX5_build 11 = .ok (.ifCond .eq 36, 3) := by decide +kernel
theorem dX5_build_14 : decode cX5_build 14 = .ok (.iload_n 3, 1) := by decide +kernel
theorem dX5_build_15 : decode cX5_build 15 = .ok (.i2l, 1) := by decide +kernel
theorem dX5_build_16 : decode cX5_build 16 = .ok (.lconst 0, 1) := by decide +kernel
theorem dX5_build_17 : decode cX5_build 17 = .ok (.ldc2_w 158, 3) := by decide +kernel
theorem dX5_build_20 : decode cX5_build 20 = .ok (.invokestatic 62, 3) := by decide +kernel
theorem dX5_build_23 : decode cX5_build 23 = .ok (.ifCond .eq 24, 3) := by decide +kernel
theorem dX5_build_26 : decode cX5_build 26 = .ok (.iload 4, 2) := by decide +kernel
theorem dX5_build_28 : decode cX5_build 28 = .ok (.i2l, 1) := by decide +kernel
theorem dX5_build_29 : decode cX5_build 29 = .ok (.lconst 0, 1) := by decide +kernel
theorem dX5_build_30 : decode cX5_build 30 = .ok (.ldc2_w 100, 3) := by decide +kernel
theorem dX5_build_33 : decode cX5_build 33 = .ok (.invokestatic 62, 3) := by decide +kernel
theorem dX5_build_36 : decode cX5_build 36 = .ok (.ifCond .eq 11, 3) := by decide +kernel
theorem dX5_build_39 : decode cX5_build 39 = .ok (.iload 5, 2) := by decide +kernel
theorem dX5_build_41 : decode cX5_build 41 = .ok (.invokestatic 66, 3) := by decide +kernel
theorem dX5_build_44 : decode cX5_build 44 = .ok (.ifCond .ne 6, 3) := by decide +kernel
theorem dX5_build_47 : decode cX5_build 47 = .ok (.bipush (-2), 2) := by decide +kernel
theorem dX5_build_49 : decode cX5_build 49 = .ok (.ireturn, 1) := by decide +kernel
theorem dX5_build_50 : decode cX5_build 50 = .ok (.aload_n 0, 1) := by decide +kernel
theorem dX5_build_51 : decode cX5_build 51 = .ok (.getfield 7, 3) := by decide +kernel
theorem dX5_build_54 : decode cX5_build 54 = .ok (.iload_n 1, 1) := by decide +kernel
theorem dX5_build_55 : decode cX5_build 55 = .ok (.iaload, 1) := by decide +kernel
theorem dX5_build_56 : decode cX5_build 56 = .ok (.ifCond .lt 12, 3) := by decide +kernel
theorem dX5_build_59 : decode cX5_build 59 = .ok (.aload_n 0, 1) := by decide +kernel
theorem dX5_build_60 : decode cX5_build 60 = .ok (.getfield 7, 3) := by decide +kernel
theorem dX5_build_63 : decode cX5_build 63 = .ok (.iload_n 2, 1) := by decide +kernel
theorem dX5_build_64 : decode cX5_build 64 = .ok (.iaload, 1) := by decide +kernel
theorem dX5_build_65 : decode cX5_build 65 = .ok (.ifCond .ge 9, 3) := by decide +kernel
theorem dX5_build_68 : decode cX5_build 68 = .ok (.aload_n 0, 1) := by decide +kernel
theorem dX5_build_69 : decode cX5_build 69 = .ok (.iconst 1, 1) := by decide +kernel
theorem dX5_build_70 : decode cX5_build 70 = .ok (.invokevirtual 72, 3) := by decide +kernel
theorem dX5_build_73 : decode cX5_build 73 = .ok (.ireturn, 1) := by decide +kernel
theorem dX5_build_74 : decode cX5_build 74 = .ok (.aload_n 0, 1) := by decide +kernel
theorem dX5_build_75 : decode cX5_build 75 = .ok (.getfield 13, 3) := by decide +kernel
theorem dX5_build_78 : decode cX5_build 78 = .ok (.iload_n 1, 1) := by decide +kernel
theorem dX5_build_79 : decode cX5_build 79 = .ok (.iaload, 1) := by decide +kernel
theorem dX5_build_80 : decode cX5_build 80 = .ok (.iload_n 3, 1) := by decide +kernel
theorem dX5_build_81 : decode cX5_build 81 = .ok (.if_icmp .lt 13, 3) := by decide +kernel
theorem dX5_build_84 : decode cX5_build 84 = .ok (.aload_n 0, 1) := by decide +kernel
theorem dX5_build_85 : decode cX5_build 85 = .ok (.getfield 13, 3) := by decide +kernel
theorem dX5_build_88 : decode cX5_build 88 = .ok (.iload_n 2, 1) := by decide +kernel
theorem dX5_build_89 : decode cX5_build 89 = .ok (.iaload, 1) := by decide +kernel
theorem dX5_build_90 : decode cX5_build 90 = .ok (.iload_n 3, 1) := by decide +kernel
theorem dX5_build_91 : decode cX5_build 91 = .ok (.if_icmp .ge 9, 3) := by decide +kernel
theorem dX5_build_94 : decode cX5_build 94 = .ok (.aload_n 0, 1) := by decide +kernel
theorem dX5_build_95 : decode cX5_build 95 = .ok (.iconst 2, 1) := by decide +kernel
theorem dX5_build_96 : decode cX5_build 96 = .ok (.invokevirtual 72, 3) := by decide +kernel
theorem dX5_build_99 : decode cX5_build 99 = .ok (.ireturn, 1) := by decide +kernel
theorem dX5_build_100 : decode cX5_build 100 = .ok (.aload_n 0, 1) := by decide +kernel
theorem dX5_build_101 : decode cX5_build 101 = .ok (.iload 4, 2) := by decide +kernel
theorem dX5_build_103 : decode cX5_build 103 = .ok (.invokevirtual 113, 3) := by decide +kernel
theorem dX5_build_106 : decode cX5_build 106 = .ok (.iconst 0, 1) := by decide +kernel
theorem dX5_build_107 : decode cX5_build 107 = .ok (.istore 6, 2) := by decide +kernel
theorem dX5_build_109 : decode cX5_build 109 = .ok (.iload 6, 2) := by decide +kernel
theorem dX5_build_111 : decode cX5_build 111 = .ok (.iload_n 3, 1) := by decide +kernel
theorem dX5_build_112 : decode cX5_build 112 = .ok (.if_icmp .ge 98, 3) := by decide +kernel
theorem dX5_build_115 : decode cX5_build 115 = .ok (.iconst 0, 1) := by decide +kernel
theorem dX5_build_116 : decode cX5_build 116 = .ok (.istore 7, 2) := by decide +kernel
theorem dX5_build_118 : decode cX5_build 118 = .ok (.iload 7, 2) := by decide +kernel
theorem dX5_build_120 : decode cX5_build 120 = .ok (.iload 4, 2) := by decide +kernel
theorem dX5_build_122 : decode cX5_build 122 = .ok (.if_icmp .gt 82, 3) := by decide +kernel
theorem dX5_build_125 : decode cX5_build 125 = .ok (.aload_n 0, 1) := by decide +kernel
theorem dX5_build_126 : decode cX5_build 126 = .ok (.getfield 16, 3) := by decide +kernel
theorem dX5_build_129 : decode cX5_build 129 = .ok (.bipush 12, 2) := by decide +kernel
theorem dX5_build_131 : decode cX5_build 131 = .ok (.iload_n 2, 1) := by decide +kernel
theorem dX5_build_132 : decode cX5_build 132 = .ok (.imul, 1) := by decide +kernel
theorem dX5_build_133 : decode cX5_build 133 = .ok (.iload 6, 2) := by decide +kernel
theorem dX5_build_135 : decode cX5_build 135 = .ok (.iadd, 1) := by decide +kernel
theorem dX5_build_136 : decode cX5_build 136 = .ok (.iaload, 1) := by decide +kernel
theorem dX5_build_137 : decode cX5_build 137 = .ok (.i2l, 1) := by decide +kernel
theorem dX5_build_138 : decode cX5_build 138 = .ok (.invokestatic 48, 3) := by decide +kernel
theorem dX5_build_141 : decode cX5_build 141 = .ok (.aload_n 0, 1) := by decide +kernel
theorem dX5_build_142 : decode cX5_build 142 = .ok (.getfield 16, 3) := by decide +kernel
theorem dX5_build_145 : decode cX5_build 145 = .ok (.bipush 12, 2) := by decide +kernel
theorem dX5_build_147 : decode cX5_build 147 = .ok (.iload_n 1, 1) := by decide +kernel
theorem dX5_build_148 : decode cX5_build 148 = .ok (.imul, 1) := by decide +kernel
theorem dX5_build_149 : decode cX5_build 149 = .ok (.iload 6, 2) := by decide +kernel
theorem dX5_build_151 : decode cX5_build 151 = .ok (.iadd, 1) := by decide +kernel
theorem dX5_build_152 : decode cX5_build 152 = .ok (.iaload, 1) := by decide +kernel
theorem dX5_build_153 : decode cX5_build 153 = .ok (.i2l, 1) := by decide +kernel
theorem dX5_build_154 : decode cX5_build 154 = .ok (.invokestatic 48, 3) := by decide +kernel
theorem dX5_build_157 : decode cX5_build 157 = .ok (.iload 7, 2) := by decide +kernel
theorem dX5_build_159 : decode cX5_build 159 = .ok (.invokestatic 155, 3) := by decide +kernel
theorem dX5_build_162 : decode cX5_build 162 = .ok (.invokestatic 52, 3) := by decide +kernel
theorem dX5_build_165 : decode cX5_build 165 = .ok (.istore 8, 2) := by decide +kernel
theorem dX5_build_167 : decode cX5_build 167 = .ok (.aload_n 0, 1) := by decide +kernel
theorem dX5_build_168 : decode cX5_build 168 = .ok (.getfield 28, 3) := by decide +kernel
theorem dX5_build_171 : decode cX5_build 171 = .ok (.iload 7, 2) := by decide +kernel
theorem dX5_build_173 : decode cX5_build 173 = .ok (.aload_n 0, 1) := by decide +kernel
theorem dX5_build_174 : decode cX5_build 174 = .ok (.getfield 28, 3) := by decide +kernel
theorem dX5_build_177 : decode cX5_build 177 = .ok (.iload 7, 2) := by decide +kernel
theorem dX5_build_179 : decode cX5_build 179 = .ok (.iaload, 1) := by decide +kernel
theorem dX5_build_180 : decode cX5_build 180 = .ok (.i2l, 1) := by decide +kernel
theorem dX5_build_181 : decode cX5_build 181 = .ok (.iload 8, 2) := by decide +kernel
theorem dX5_build_183 : decode cX5_build 183 = .ok (.i2l, 1) := by decide +kernel
theorem dX5_build_184 : decode cX5_build 184 = .ok (.iload 4, 2) := by decide +kernel
theorem dX5_build_186 : decode cX5_build 186 = .ok (.iload 7, 2) := by decide +kernel
theorem dX5_build_188 : decode cX5_build 188 = .ok (.invokestatic 123, 3) := by decide +kernel
theorem dX5_build_191 : decode cX5_build 191 = .ok (.i2l, 1) := by decide +kernel
theorem dX5_build_192 : decode cX5_build 192 = .ok (.lmul, 1) := by decide +kernel
theorem dX5_build_193 : decode cX5_build 193 = .ok (.ladd, 1) := by decide +kernel
theorem dX5_build_194 : decode cX5_build 194 = .ok (.invokestatic 48, 3) := by decide +kernel
theorem dX5_build_197 : decode cX5_build 197 = .ok (.iastore, 1) := by decide +kernel
theorem dX5_build_198 : decode cX5_build 198 = .ok (.iinc 7 1, 3) := by decide +kernel
theorem dX5_build_201 : decode cX5_build 201 = .ok (.goto (-83), 3) := by decide +kernel
theorem dX5_build_204 : decode cX5_build 204 = .ok (.iinc 6 1, 3) := by decide +kernel
theorem dX5_build_207 : decode cX5_build 207 = .ok (.goto (-98), 3) := by decide +kernel
theorem dX5_build_210 : decode cX5_build 210 = .ok (.aload_n 0, 1) := by decide +kernel
theorem dX5_build_211 : decode cX5_build 211 = .ok (.iload 5, 2) := by decide +kernel
theorem dX5_build_213 : decode cX5_build 213 = .ok (.invokevirtual 116, 3) := by decide +kernel
theorem dX5_build_216 : decode cX5_build 216 = .ok (.ireturn, 1) := by decide +kernel
theorem dX5_rank_0 : decode cX5_rank 0 = .ok (.iload_n 1, 1) := by decide +kernel
theorem dX5_rank_1 : decode cX5_rank 1 = .ok (.invokestatic 66, 3) := by decide +kernel
theorem dX5_rank_4 : decode cX5_rank 4 = .ok (.ifCond .eq 7, 3) := by decide +kernel
theorem dX5_rank_7 : decode cX5_rank 7 = .ok (.iload_n 2, 1) := by decide +kernel
theorem dX5_rank_8 : decode cX5_rank 8 = .ok (.ifCond .ge 6, 3) := by decide +kernel
theorem dX5_rank_11 : decode cX5_rank 11 = .ok (.bipush (-2), 2) := by decide +kernel
theorem dX5_rank_13 : decode cX5_rank 13 = .ok (.ireturn, 1) := by decide +kernel
theorem dX5_rank_14 : decode cX5_rank 14 = .ok (.aload_n 0, 1) := by decide +kernel
theorem dX5_rank_15 : decode cX5_rank 15 = .ok (.iload_n 1, 1) := by decide +kernel
theorem dX5_rank_16 : decode cX5_rank 16 = .ok (.invokevirtual 102, 3) := by decide +kernel
theorem dX5_rank_19 : decode cX5_rank 19 = .ok (.istore_n 3, 1) := by decide +kernel
theorem dX5_rank_20 : decode cX5_rank 20 = .ok (.iload_n 3, 1) := by decide +kernel
theorem dX5_rank_21 : decode cX5_rank 21 = .ok (.ifCond .eq 5, 3) := by decide +kernel
theorem dX5_rank_24 : decode cX5_rank 24 = .ok (.iload_n 3, 1) := by decide +kernel
theorem dX5_rank_25 : decode cX5_rank 25 = .ok (.ireturn, 1) := by decide +kernel
theorem dX5_rank_26 : decode cX5_rank 26 = .ok (.iload_n 2, 1) := by decide +kernel
theorem dX5_rank_27 : decode cX5_rank 27 = .ok (.aload_n 0, 1) := by decide +kernel
theorem dX5_rank_28 : decode cX5_rank 28 = .ok (.getfield 81, 3) := by decide +kernel
theorem dX5_rank_31 : decode cX5_rank 31 = .ok (.if_icmp .le 6, 3) := by decide +kernel
theorem dX5_rank_34 : decode cX5_rank 34 = .ok (.bipush (-3), 2) := by decide +kernel
theorem dX5_rank_36 : decode cX5_rank 36 = .ok (.ireturn, 1) := by decide +kernel
theorem dX5_rank_37 : decode cX5_rank 37 = .ok (.iconst 0, 1) := by decide +kernel
theorem dX5_rank_38 : decode cX5_rank 38 = .ok (.istore 4, 2) := by decide +kernel
theorem dX5_rank_40 : decode cX5_rank 40 = .ok (.iload 4, 2) := by decide +kernel
theorem dX5_rank_42 : decode cX5_rank 42 = .ok (.iload_n 2, 1) := by decide +kernel
theorem dX5_rank_43 : decode cX5_rank 43 = .ok (.if_icmp .gt 70, 3) := by decide +kernel
theorem dX5_rank_46 : decode cX5_rank 46 = .ok (.iconst 0, 1) := by decide +kernel
theorem dX5_rank_47 : decode cX5_rank 47 = .ok (.istore 5, 2) := by decide +kernel
theorem dX5_rank_49 : decode cX5_rank 49 = .ok (.iload 5, 2) := by decide +kernel
theorem dX5_rank_51 : decode cX5_rank 51 = .ok (.aload_n 0, 1) := by decide +kernel
theorem dX5_rank_52 : decode cX5_rank 52 = .ok (.getfield 81, 3) := by decide +kernel
theorem dX5_rank_55 : decode cX5_rank 55 = .ok (.iload_n 2, 1) := by decide +kernel
theorem dX5_rank_56 : decode cX5_rank 56 = .ok (.isub, 1) := by decide +kernel
theorem dX5_rank_57 : decode cX5_rank 57 = .ok (.if_icmp .gt 50, 3) := by decide +kernel
theorem dX5_rank_60 : decode cX5_rank 60 = .ok (.aload_n 0, 1) := by decide +kernel
theorem dX5_rank_61 : decode cX5_rank 61 = .ok (.getfield 34, 3) := by decide +kernel
theorem dX5_rank_64 : decode cX5_rank 64 = .ok (.bipush 18, 2) := by decide +kernel
theorem dX5_rank_66 : decode cX5_rank 66 = .ok (.iload 4, 2) := by decide +kernel
theorem dX5_rank_68 : decode cX5_rank 68 = .ok (.imul, 1) := by decide +kernel
theorem dX5_rank_69 : decode cX5_rank 69 = .ok (.iload 5, 2) := by decide +kernel
theorem dX5_rank_71 : decode cX5_rank 71 = .ok (.iadd, 1) := by decide +kernel
theorem dX5_rank_72 : decode cX5_rank 72 = .ok (.aload_n 0, 1) := by decide +kernel
theorem dX5_rank_73 : decode cX5_rank 73 = .ok (.getfield 22, 3) := by decide +kernel
theorem dX5_rank_76 : decode cX5_rank 76 = .ok (.iload 4, 2) := by decide +kernel
theorem dX5_rank_78 : decode cX5_rank 78 = .ok (.iload 5, 2) := by decide +kernel
theorem dX5_rank_80 : decode cX5_rank 80 = .ok (.iadd, 1) := by decide +kernel
theorem dX5_rank_81 : decode cX5_rank 81 = .ok (.iaload, 1) := by decide +kernel
theorem dX5_rank_82 : decode cX5_rank 82 = .ok (.aload_n 0, 1) := by decide +kernel
theorem dX5_rank_83 : decode cX5_rank 83 = .ok (.getfield 81, 3) := by decide +kernel
theorem dX5_rank_86 : decode cX5_rank 86 = .ok (.iload 4, 2) := by decide +kernel
theorem dX5_rank_88 : decode cX5_rank 88 = .ok (.iload 5, 2) := by decide +kernel
theorem dX5_rank_90 : decode cX5_rank 90 = .ok (.iadd, 1) := by decide +kernel
theorem dX5_rank_91 : decode cX5_rank 91 = .ok (.invokestatic 123, 3) := by decide +kernel
theorem dX5_rank_94 : decode cX5_rank 94 = .ok (.invokestatic 133, 3) := by decide +kernel
theorem dX5_rank_97 : decode cX5_rank 97 = .ok (.invokestatic 52, 3) := by decide +kernel
theorem dX5_rank_100 : decode cX5_rank 100 = .ok (.iastore, 1) := by decide +kernel
theorem dX5_rank_101 : decode cX5_rank 101 = .ok (.iinc 5 1, 3) := by decide +kernel
theorem dX5_rank_104 : decode cX5_rank 104 = .ok (.goto (-55), 3) := by decide +kernel
theorem dX5_rank_107 : decode cX5_rank 107 = .ok (.iinc 4 1, 3) := by decide +kernel
theorem dX5_rank_110 : decode cX5_rank 110 = .ok (.goto (-70), 3) := by decide +kernel
theorem dX5_rank_113 : decode cX5_rank 113 = .ok (.aload_n 0, 1) := by decide +kernel
theorem dX5_rank_114 : decode cX5_rank 114 = .ok (.iload_n 2, 1) := by decide +kernel
theorem dX5_rank_115 : decode cX5_rank 115 = .ok (.iconst 1, 1) := by decide +kernel
theorem dX5_rank_116 : decode cX5_rank 116 = .ok (.iadd, 1) := by decide +kernel
theorem dX5_rank_117 : decode cX5_rank 117 = .ok (.aload_n 0, 1) := by decide +kernel
theorem dX5_rank_118 : decode cX5_rank 118 = .ok (.getfield 81, 3) := by decide +kernel
theorem dX5_rank_121 : decode cX5_rank 121 = .ok (.iload_n 2, 1) := by decide +kernel
theorem dX5_rank_122 : decode cX5_rank 122 = .ok (.isub, 1) := by decide +kernel
theorem dX5_rank_123 : decode cX5_rank 123 = .ok (.iconst 1, 1) := by decide +kernel
theorem dX5_rank_124 : decode cX5_rank 124 = .ok (.iadd, 1) := by decide +kernel
theorem dX5_rank_125 : decode cX5_rank 125 = .ok (.invokevirtual 152, 3) := by decide +kernel
theorem dX5_rank_128 : decode cX5_rank 128 = .ok (.ireturn, 1) := by decide +kernel
theorem dX5_leadsBy_0 : decode cX5_leadsBy 0 = .ok (.iload_n 1, 1) := by decide +kernel
theorem dX5_leadsBy_1 : decode cX5_leadsBy 1 = .ok (.iload 4, 2) := by decide +kernel
theorem dX5_leadsBy_3 : decode cX5_leadsBy 3 = .ok (.imul, 1) := by decide +kernel
theorem dX5_leadsBy_4 : decode cX5_leadsBy 4 = .ok (.iload_n 2, 1) := by decide +kernel
theorem dX5_leadsBy_5 : decode cX5_leadsBy 5 = .ok (.iload_n 3, 1) := by decide +kernel
theorem dX5_leadsBy_6 : decode cX5_leadsBy 6 = .ok (.imul, 1) := by decide +kernel
theorem dX5_leadsBy_7 : decode cX5_leadsBy 7 = .ok (.isub, 1) := by decide +kernel
theorem dX5_leadsBy_8 : decode cX5_leadsBy 8 = .ok (.ifCond .ne 5, 3) := by decide +kernel
theorem dX5_leadsBy_11 : decode cX5_leadsBy 11 = .ok (.iconst 0, 1) := by decide +kernel
theorem dX5_leadsBy_12 : decode cX5_leadsBy 12 = .ok (.ireturn, 1) := by decide +kernel
theorem dX5_leadsBy_13 : decode cX5_leadsBy 13 = .ok (.aload_n 0, 1) := by decide +kernel
theorem dX5_leadsBy_14 : decode cX5_leadsBy 14 = .ok (.iload_n 1, 1) := by decide +kernel
theorem dX5_leadsBy_15 : decode cX5_leadsBy 15 = .ok (.i2l, 1) := by decide +kernel
theorem dX5_leadsBy_16 : decode cX5_leadsBy 16 = .ok (.invokestatic 48, 3) := by decide +kernel
theorem dX5_leadsBy_19 : decode cX5_leadsBy 19 = .ok (.iload_n 2, 1) := by decide +kernel
theorem dX5_leadsBy_20 : decode cX5_leadsBy 20 = .ok (.i2l, 1) := by decide +kernel
theorem dX5_leadsBy_21 : decode cX5_leadsBy 21 = .ok (.invokestatic 48, 3) := by decide +kernel
theorem dX5_leadsBy_24 : decode cX5_leadsBy 24 = .ok (.iload_n 3, 1) := by decide +kernel
theorem dX5_leadsBy_25 : decode cX5_leadsBy 25 = .ok (.i2l, 1) := by decide +kernel
theorem dX5_leadsBy_26 : decode cX5_leadsBy 26 = .ok (.invokestatic 48, 3) := by decide +kernel
theorem dX5_leadsBy_29 : decode cX5_leadsBy 29 = .ok (.iload 4, 2) := by decide +kernel
theorem dX5_leadsBy_31 : decode cX5_leadsBy 31 = .ok (.i2l, 1) := by decide +kernel
theorem dX5_leadsBy_32 : decode cX5_leadsBy 32 = .ok (.invokestatic 48, 3) := by decide +kernel
theorem dX5_leadsBy_35 : decode cX5_leadsBy 35 = .ok (.invokevirtual 119, 3) := by decide +kernel
theorem dX5_leadsBy_38 : decode cX5_leadsBy 38 = .ok (.iconst 1, 1) := by decide +kernel
theorem dX5_leadsBy_39 : decode cX5_leadsBy 39 = .ok (.istore 5, 2) := by decide +kernel
theorem dX5_leadsBy_41 : decode cX5_leadsBy 41 = .ok (.iconst 0, 1) := by decide +kernel
theorem dX5_leadsBy_42 : decode cX5_leadsBy 42 = .ok (.istore 6, 2) := by decide +kernel
theorem dX5_leadsBy_44 : decode cX5_leadsBy 44 = .ok (.iload 6, 2) := by decide +kernel
theorem dX5_leadsBy_46 : decode cX5_leadsBy 46 = .ok (.aload_n 0, 1) := by decide +kernel
theorem dX5_leadsBy_47 : decode cX5_leadsBy 47 = .ok (.getfield 81, 3) := by decide +kernel
theorem dX5_leadsBy_50 : decode cX5_leadsBy 50 = .ok (.if_icmp .gt 38, 3) := by decide +kernel
theorem dX5_leadsBy_53 : decode cX5_leadsBy 53 = .ok (.iload 5, 2) := by decide +kernel
theorem dX5_leadsBy_55 : decode cX5_leadsBy 55 = .ok (.ifCond .eq 24, 3) := by decide +kernel
theorem dX5_leadsBy_58 : decode cX5_leadsBy 58 = .ok (.aload_n 0, 1) := by decide +kernel
theorem dX5_leadsBy_59 : decode cX5_leadsBy 59 = .ok (.getfield 28, 3) := by decide +kernel
theorem dX5_leadsBy_62 : decode cX5_leadsBy 62 = .ok (.iload 6, 2) := by decide +kernel
theorem dX5_leadsBy_64 : decode cX5_leadsBy 64 = .ok (.iaload, 1) := by decide +kernel
theorem dX5_leadsBy_65 : decode cX5_leadsBy 65 = .ok (.aload_n 0, 1) := by decide +kernel
theorem dX5_leadsBy_66 : decode cX5_leadsBy 66 = .ok (.getfield 25, 3) := by decide +kernel
theorem dX5_leadsBy_69 : decode cX5_leadsBy 69 = .ok (.iload 6, 2) := by decide +kernel
theorem dX5_leadsBy_71 : decode cX5_leadsBy 71 = .ok (.iaload, 1) := by decide +kernel
theorem dX5_leadsBy_72 : decode cX5_leadsBy 72 = .ok (.if_icmp .ne 7, 3) := by decide +kernel
theorem dX5_leadsBy_75 : decode cX5_leadsBy 75 = .ok (.iconst 1, 1) := by decide +kernel
theorem dX5_leadsBy_76 : decode cX5_leadsBy 76 = .ok (.goto 4, 3) := by decide +kernel
theorem dX5_leadsBy_79 : decode cX5_leadsBy 79 = .ok (.iconst 0, 1) := by decide +kernel
theorem dX5_leadsBy_80 : decode cX5_leadsBy 80 = .ok (.istore 5, 2) := by decide +kernel
theorem dX5_leadsBy_82 : decode cX5_leadsBy 82 = .ok (.iinc 6 1, 3) := by decide +kernel
theorem dX5_leadsBy_85 : decode cX5_leadsBy 85 = .ok (.goto (-41), 3) := by decide +kernel
theorem dX5_leadsBy_88 : decode cX5_leadsBy 88 = .ok (.iload 5, 2) := by decide +kernel
theorem dX5_leadsBy_90 : decode cX5_leadsBy 90 = .ok (.ireturn, 1) := by decide +kernel
theorem dX5_lacksLeads_0 : decode cX5_lacksLeads 0 = .ok (.aload_n 0, 1) := by decide +kernel
theorem dX5_lacksLeads_1 : decode cX5_lacksLeads 1 = .ok (.iload_n 1, 1) := by decide +kernel
theorem dX5_lacksLeads_2 : decode cX5_lacksLeads 2 = .ok (.iload_n 2, 1) := by decide +kernel
theorem dX5_lacksLeads_3 : decode cX5_lacksLeads 3 = .ok (.invokevirtual 110, 3) := by decide +kernel
theorem dX5_lacksLeads_6 : decode cX5_lacksLeads 6 = .ok (.istore_n 3, 1) := by decide +kernel
theorem dX5_lacksLeads_7 : decode cX5_lacksLeads 7 = .ok (.iload_n 3, 1) := by decide +kernel
theorem dX5_lacksLeads_8 : decode cX5_lacksLeads 8 = .ok (.ifCond .eq 7, 3) := by decide +kernel
theorem dX5_lacksLeads_11 : decode cX5_lacksLeads 11 = .ok (.iload_n 3, 1) := by decide +kernel
theorem dX5_lacksLeads_12 : decode cX5_lacksLeads 12 = .ok (.goto 20, 3) := by decide +kernel
theorem dX5_lacksLeads_15 : decode cX5_lacksLeads 15 = .ok (.aload_n 0, 1) := by decide +kernel
theorem dX5_lacksLeads_16 : decode cX5_lacksLeads 16 = .ok (.getfield 81, 3) := by decide +kernel
theorem dX5_lacksLeads_19 : decode cX5_lacksLeads 19 = .ok (.aload_n 0, 1) := by decide +kernel
theorem dX5_lacksLeads_20 : decode cX5_lacksLeads 20 = .ok (.getfield 84, 3) := by decide +kernel
theorem dX5_lacksLeads_23 : decode cX5_lacksLeads 23 = .ok (.if_icmp .eq 8, 3) := by decide +kernel
theorem dX5_lacksLeads_26 : decode cX5_lacksLeads 26 = .ok (.bipush (-3), 2) := by decide +kernel
theorem dX5_lacksLeads_28 : decode cX5_lacksLeads 28 = .ok (.goto 4, 3) := by decide +kernel
theorem dX5_lacksLeads_31 : decode cX5_lacksLeads 31 = .ok (.iconst 0, 1) := by decide +kernel
theorem dX5_lacksLeads_32 : decode cX5_lacksLeads 32 = .ok (.ireturn, 1) := by decide +kernel
theorem dX5_leadOf_0 : decode cX5_leadOf 0 = .ok (.iconst 0, 1) := by decide +kernel
theorem dX5_leadOf_1 : decode cX5_leadOf 1 = .ok (.istore_n 3, 1) := by decide +kernel
theorem dX5_leadOf_2 : decode cX5_leadOf 2 = .ok (.iconst 2, 1) := by decide +kernel
theorem dX5_leadOf_3 : decode cX5_leadOf 3 = .ok (.iload_n 1, 1) := by decide +kernel
theorem dX5_leadOf_4 : decode cX5_leadOf 4 = .ok (.imul, 1) := by decide +kernel
theorem dX5_leadOf_5 : decode cX5_leadOf 5 = .ok (.iconst 1, 1) := by decide +kernel
theorem dX5_leadOf_6 : decode cX5_leadOf 6 = .ok (.iadd, 1) := by decide +kernel
theorem dX5_leadOf_7 : decode cX5_leadOf 7 = .ok (.istore 4, 2) := by decide +kernel
theorem dX5_leadOf_9 : decode cX5_leadOf 9 = .ok (.iconst 0, 1) := by decide +kernel
theorem dX5_leadOf_10 : decode cX5_leadOf 10 = .ok (.istore 5, 2) := by decide +kernel
theorem dX5_leadOf_12 : decode cX5_leadOf 12 = .ok (.iload 5, 2) := by decide +kernel
theorem dX5_leadOf_14 : decode cX5_leadOf 14 = .ok (.iload 4, 2) := by decide +kernel
theorem dX5_leadOf_16 : decode cX5_leadOf 16 = .ok (.iload 4, 2) := by decide +kernel
theorem dX5_leadOf_18 : decode cX5_leadOf 18 = .ok (.imul, 1) := by decide +kernel
theorem dX5_leadOf_19 : decode cX5_leadOf 19 = .ok (.iload 4, 2) := by decide +kernel
theorem dX5_leadOf_21 : decode cX5_leadOf 21 = .ok (.imul, 1) := by decide +kernel
theorem dX5_leadOf_22 : decode cX5_leadOf 22 = .ok (.iload 4, 2) := by decide +kernel
theorem dX5_leadOf_24 : decode cX5_leadOf 24 = .ok (.imul, 1) := by decide +kernel
theorem dX5_leadOf_25 : decode cX5_leadOf 25 = .ok (.if_icmp .ge 113, 3) := by decide +kernel
theorem dX5_leadOf_28 : decode cX5_leadOf 28 = .ok (.iload 5, 2) := by decide +kernel
theorem dX5_leadOf_30 : decode cX5_leadOf 30 = .ok (.iload 4, 2) := by decide +kernel
theorem dX5_leadOf_32 : decode cX5_leadOf 32 = .ok (.irem, 1) := by decide +kernel
theorem dX5_leadOf_33 : decode cX5_leadOf 33 = .ok (.iload_n 1, 1) := by decide +kernel
theorem dX5_leadOf_34 : decode cX5_leadOf 34 = .ok (.isub, 1) := by decide +kernel
theorem dX5_leadOf_35 : decode cX5_leadOf 35 = .ok (.istore 6, 2) := by decide +kernel
theorem dX5_leadOf_37 : decode cX5_leadOf 37 = .ok (.iload 5, 2) := by decide +kernel
theorem dX5_leadOf_39 : decode cX5_leadOf 39 = .ok (.iload 4, 2) := by decide +kernel
theorem dX5_leadOf_41 : decode cX5_leadOf 41 = .ok (.idiv, 1) := by decide +kernel
theorem dX5_leadOf_42 : decode cX5_leadOf 42 = .ok (.iload 4, 2) := by decide +kernel
theorem dX5_leadOf_44 : decode cX5_leadOf 44 = .ok (.irem, 1) := by decide +kernel
theorem dX5_leadOf_45 : decode cX5_leadOf 45 = .ok (.iload_n 1, 1) := by decide +kernel
theorem dX5_leadOf_46 : decode cX5_leadOf 46 = .ok (.isub, 1) := by decide +kernel
theorem dX5_leadOf_47 : decode cX5_leadOf 47 = .ok (.istore 7, 2) := by decide +kernel
theorem dX5_leadOf_49 : decode cX5_leadOf 49 = .ok (.iload 5, 2) := by decide +kernel
theorem dX5_leadOf_51 : decode cX5_leadOf 51 = .ok (.iload 4, 2) := by decide +kernel
theorem dX5_leadOf_53 : decode cX5_leadOf 53 = .ok (.iload 4, 2) := by decide +kernel
theorem dX5_leadOf_55 : decode cX5_leadOf 55 = .ok (.imul, 1) := by decide +kernel
theorem dX5_leadOf_56 : decode cX5_leadOf 56 = .ok (.idiv, 1) := by decide +kernel
theorem dX5_leadOf_57 : decode cX5_leadOf 57 = .ok (.iload 4, 2) := by decide +kernel
theorem dX5_leadOf_59 : decode cX5_leadOf 59 = .ok (.irem, 1) := by decide +kernel
theorem dX5_leadOf_60 : decode cX5_leadOf 60 = .ok (.iload_n 1, 1) := by decide +kernel
theorem dX5_leadOf_61 : decode cX5_leadOf 61 = .ok (.isub, 1) := by decide +kernel
theorem dX5_leadOf_62 : decode cX5_leadOf 62 = .ok (.istore 8, 2) := by decide +kernel
theorem dX5_leadOf_64 : decode cX5_leadOf 64 = .ok (.iload 5, 2) := by decide +kernel
theorem dX5_leadOf_66 : decode cX5_leadOf 66 = .ok (.iload 4, 2) := by decide +kernel
theorem dX5_leadOf_68 : decode cX5_leadOf 68 = .ok (.iload 4, 2) := by decide +kernel
theorem dX5_leadOf_70 : decode cX5_leadOf 70 = .ok (.imul, 1) := by decide +kernel
theorem dX5_leadOf_71 : decode cX5_leadOf 71 = .ok (.iload 4, 2) := by decide +kernel
theorem dX5_leadOf_73 : decode cX5_leadOf 73 = .ok (.imul, 1) := by decide +kernel
theorem dX5_leadOf_74 : decode cX5_leadOf 74 = .ok (.idiv, 1) := by decide +kernel
theorem dX5_leadOf_75 : decode cX5_leadOf 75 = .ok (.iload_n 1, 1) := by decide +kernel
theorem dX5_leadOf_76 : decode cX5_leadOf 76 = .ok (.isub, 1) := by decide +kernel
theorem dX5_leadOf_77 : decode cX5_leadOf 77 = .ok (.istore 9, 2) := by decide +kernel
theorem dX5_leadOf_79 : decode cX5_leadOf 79 = .ok (.aload_n 0, 1) := by decide +kernel
theorem dX5_leadOf_80 : decode cX5_leadOf 80 = .ok (.iload 9, 2) := by decide +kernel
theorem dX5_leadOf_82 : decode cX5_leadOf 82 = .ok (.iload 8, 2) := by decide +kernel
theorem dX5_leadOf_84 : decode cX5_leadOf 84 = .ok (.iload 7, 2) := by decide +kernel
theorem dX5_leadOf_86 : decode cX5_leadOf 86 = .ok (.iload 6, 2) := by decide +kernel
theorem dX5_leadOf_88 : decode cX5_leadOf 88 = .ok (.invokevirtual 160, 3) := by decide +kernel
theorem dX5_leadOf_91 : decode cX5_leadOf 91 = .ok (.ifCond .eq 41, 3) := by decide +kernel
theorem dX5_leadOf_94 : decode cX5_leadOf 94 = .ok (.iload_n 3, 1) := by decide +kernel
theorem dX5_leadOf_95 : decode cX5_leadOf 95 = .ok (.iload_n 2, 1) := by decide +kernel
theorem dX5_leadOf_96 : decode cX5_leadOf 96 = .ok (.if_icmp .ne 33, 3) := by decide +kernel
theorem dX5_leadOf_99 : decode cX5_leadOf 99 = .ok (.sipush 1000, 3) := by decide +kernel
theorem dX5_leadOf_102 : decode cX5_leadOf 102 = .ok (.iload 9, 2) := by decide +kernel
theorem dX5_leadOf_104 : decode cX5_leadOf 104 = .ok (.iconst 2, 1) := by decide +kernel
theorem dX5_leadOf_105 : decode cX5_leadOf 105 = .ok (.iadd, 1) := by decide +kernel
theorem dX5_leadOf_106 : decode cX5_leadOf 106 = .ok (.imul, 1) := by decide +kernel
theorem dX5_leadOf_107 : decode cX5_leadOf 107 = .ok (.bipush 100, 2) := by decide +kernel
theorem dX5_leadOf_109 : decode cX5_leadOf 109 = .ok (.iload 8, 2) := by decide +kernel
theorem dX5_leadOf_111 : decode cX5_leadOf 111 = .ok (.iconst 2, 1) := by decide +kernel
theorem dX5_leadOf_112 : decode cX5_leadOf 112 = .ok (.iadd, 1) := by decide +kernel
theorem dX5_leadOf_113 : decode cX5_leadOf 113 = .ok (.imul, 1) := by decide +kernel
theorem dX5_leadOf_114 : decode cX5_leadOf 114 = .ok (.iadd, 1) := by decide +kernel
theorem dX5_leadOf_115 : decode cX5_leadOf 115 = .ok (.bipush 10, 2) := by decide +kernel
theorem dX5_leadOf_117 : decode cX5_leadOf 117 = .ok (.iload 7, 2) := by decide +kernel
theorem dX5_leadOf_119 : decode cX5_leadOf 119 = .ok (.iconst 2, 1) := by decide +kernel
theorem dX5_leadOf_120 : decode cX5_leadOf 120 = .ok (.iadd, 1) := by decide +kernel
theorem dX5_leadOf_121 : decode cX5_leadOf 121 = .ok (.imul, 1) := by decide +kernel
theorem dX5_leadOf_122 : decode cX5_leadOf 122 = .ok (.iadd, 1) := by decide +kernel
theorem dX5_leadOf_123 : decode cX5_leadOf 123 = .ok (.iload 6, 2) := by decide +kernel
theorem dX5_leadOf_125 : decode cX5_leadOf 125 = .ok (.iadd, 1) := by decide +kernel
theorem dX5_leadOf_126 : decode cX5_leadOf 126 = .ok (.iconst 2, 1) := by decide +kernel
theorem dX5_leadOf_127 : decode cX5_leadOf 127 = .ok (.iadd, 1) := by decide +kernel
theorem dX5_leadOf_128 : decode cX5_leadOf 128 = .ok (.ireturn, 1) := by decide +kernel
theorem dX5_leadOf_129 : decode cX5_leadOf 129 = .ok (.iinc 3 1, 3) := by decide +kernel
theorem dX5_leadOf_132 : decode cX5_leadOf 132 = .ok (.iinc 5 1, 3) := by decide +kernel
theorem dX5_leadOf_135 : decode cX5_leadOf 135 = .ok (.goto (-123), 3) := by decide +kernel
theorem dX5_leadOf_138 : decode cX5_leadOf 138 = .ok (.iconst (-1), 1) := by decide +kernel
theorem dX5_leadOf_139 : decode cX5_leadOf 139 = .ok (.iload_n 3, 1) := by decide +kernel
theorem dX5_leadOf_140 : decode cX5_leadOf 140 = .ok (.isub, 1) := by decide +kernel
theorem dX5_leadOf_141 : decode cX5_leadOf 141 = .ok (.ireturn, 1) := by decide +kernel
theorem dX5_leads_0 : decode cX5_leads 0 = .ok (.iload_n 1, 1) := by decide +kernel
theorem dX5_leads_1 : decode cX5_leads 1 = .ok (.invokestatic 66, 3) := by decide +kernel
theorem dX5_leads_4 : decode cX5_leads 4 = .ok (.ifCond .eq 22, 3) := by decide +kernel
theorem dX5_leads_7 : decode cX5_leads 7 = .ok (.iload_n 2, 1) := by decide +kernel
theorem dX5_leads_8 : decode cX5_leads 8 = .ok (.invokestatic 66, 3) := by decide +kernel
theorem dX5_leads_11 : decode cX5_leads 11 = .ok (.ifCond .eq 15, 3) := by decide +kernel
theorem dX5_leads_14 : decode cX5_leads 14 = .ok (.iload_n 3, 1) := by decide +kernel
theorem dX5_leads_15 : decode cX5_leads 15 = .ok (.i2l, 1) := by decide +kernel
theorem dX5_leads_16 : decode cX5_leads 16 = .ok (.lconst 1, 1) := by decide +kernel
theorem dX5_leads_17 : decode cX5_leads 17 = .ok (.ldc2_w 70, 3) := by decide +kernel
theorem dX5_leads_20 : decode cX5_leads 20 = .ok (.invokestatic 62, 3) := by decide +kernel
theorem dX5_leads_23 : decode cX5_leads 23 = .ok (.ifCond .ne 6, 3) := by decide +kernel
theorem dX5_leads_26 : decode cX5_leads 26 = .ok (.bipush (-2), 2) := by decide +kernel
theorem dX5_leads_28 : decode cX5_leads 28 = .ok (.ireturn, 1) := by decide +kernel
theorem dX5_leads_29 : decode cX5_leads 29 = .ok (.aload_n 0, 1) := by decide +kernel
theorem dX5_leads_30 : decode cX5_leads 30 = .ok (.iload_n 1, 1) := by decide +kernel
theorem dX5_leads_31 : decode cX5_leads 31 = .ok (.iload_n 2, 1) := by decide +kernel
theorem dX5_leads_32 : decode cX5_leads 32 = .ok (.invokevirtual 164, 3) := by decide +kernel
theorem dX5_leads_35 : decode cX5_leads 35 = .ok (.istore 4, 2) := by decide +kernel
theorem dX5_leads_37 : decode cX5_leads 37 = .ok (.iload 4, 2) := by decide +kernel
theorem dX5_leads_39 : decode cX5_leads 39 = .ok (.ifCond .eq 8, 3) := by decide +kernel
theorem dX5_leads_42 : decode cX5_leads 42 = .ok (.iload 4, 2) := by decide +kernel
theorem dX5_leads_44 : decode cX5_leads 44 = .ok (.goto 13, 3) := by decide +kernel
theorem dX5_leads_47 : decode cX5_leads 47 = .ok (.iconst (-1), 1) := by decide +kernel
theorem dX5_leads_48 : decode cX5_leads 48 = .ok (.aload_n 0, 1) := by decide +kernel
theorem dX5_leads_49 : decode cX5_leads 49 = .ok (.iload_n 3, 1) := by decide +kernel
theorem dX5_leads_50 : decode cX5_leads 50 = .ok (.sipush 1000, 3) := by decide +kernel
theorem dX5_leads_53 : decode cX5_leads 53 = .ok (.invokevirtual 167, 3) := by decide +kernel
theorem dX5_leads_56 : decode cX5_leads 56 = .ok (.isub, 1) := by decide +kernel
theorem dX5_leads_57 : decode cX5_leads 57 = .ok (.ireturn, 1) := by decide +kernel
theorem dX5_lead_0 : decode cX5_lead 0 = .ok (.iload_n 1, 1) := by decide +kernel
theorem dX5_lead_1 : decode cX5_lead 1 = .ok (.invokestatic 66, 3) := by decide +kernel
theorem dX5_lead_4 : decode cX5_lead 4 = .ok (.ifCond .eq 27, 3) := by decide +kernel
theorem dX5_lead_7 : decode cX5_lead 7 = .ok (.iload_n 2, 1) := by decide +kernel
theorem dX5_lead_8 : decode cX5_lead 8 = .ok (.invokestatic 66, 3) := by decide +kernel
theorem dX5_lead_11 : decode cX5_lead 11 = .ok (.ifCond .eq 20, 3) := by decide +kernel
theorem dX5_lead_14 : decode cX5_lead 14 = .ok (.iload_n 3, 1) := by decide +kernel
theorem dX5_lead_15 : decode cX5_lead 15 = .ok (.i2l, 1) := by decide +kernel
theorem dX5_lead_16 : decode cX5_lead 16 = .ok (.lconst 1, 1) := by decide +kernel
theorem dX5_lead_17 : decode cX5_lead 17 = .ok (.ldc2_w 70, 3) := by decide +kernel
theorem dX5_lead_20 : decode cX5_lead 20 = .ok (.invokestatic 62, 3) := by decide +kernel
theorem dX5_lead_23 : decode cX5_lead 23 = .ok (.ifCond .eq 8, 3) := by decide +kernel
theorem dX5_lead_26 : decode cX5_lead 26 = .ok (.iload 4, 2) := by decide +kernel
theorem dX5_lead_28 : decode cX5_lead 28 = .ok (.ifCond .ge 6, 3) := by decide +kernel
theorem dX5_lead_31 : decode cX5_lead 31 = .ok (.bipush (-2), 2) := by decide +kernel
theorem dX5_lead_33 : decode cX5_lead 33 = .ok (.ireturn, 1) := by decide +kernel
theorem dX5_lead_34 : decode cX5_lead 34 = .ok (.aload_n 0, 1) := by decide +kernel
theorem dX5_lead_35 : decode cX5_lead 35 = .ok (.iload_n 1, 1) := by decide +kernel
theorem dX5_lead_36 : decode cX5_lead 36 = .ok (.iload_n 2, 1) := by decide +kernel
theorem dX5_lead_37 : decode cX5_lead 37 = .ok (.invokevirtual 164, 3) := by decide +kernel
theorem dX5_lead_40 : decode cX5_lead 40 = .ok (.istore 5, 2) := by decide +kernel
theorem dX5_lead_42 : decode cX5_lead 42 = .ok (.iload 5, 2) := by decide +kernel
theorem dX5_lead_44 : decode cX5_lead 44 = .ok (.ifCond .eq 6, 3) := by decide +kernel
theorem dX5_lead_47 : decode cX5_lead 47 = .ok (.iload 5, 2) := by decide +kernel
theorem dX5_lead_49 : decode cX5_lead 49 = .ok (.ireturn, 1) := by decide +kernel
theorem dX5_lead_50 : decode cX5_lead 50 = .ok (.aload_n 0, 1) := by decide +kernel
theorem dX5_lead_51 : decode cX5_lead 51 = .ok (.iload_n 3, 1) := by decide +kernel
theorem dX5_lead_52 : decode cX5_lead 52 = .ok (.iload 4, 2) := by decide +kernel
theorem dX5_lead_54 : decode cX5_lead 54 = .ok (.invokevirtual 167, 3) := by decide +kernel
theorem dX5_lead_57 : decode cX5_lead 57 = .ok (.istore 6, 2) := by decide +kernel
theorem dX5_lead_59 : decode cX5_lead 59 = .ok (.iload 6, 2) := by decide +kernel
theorem dX5_lead_61 : decode cX5_lead 61 = .ok (.ifCond .ge 7, 3) := by decide +kernel
theorem dX5_lead_64 : decode cX5_lead 64 = .ok (.iconst (-1), 1) := by decide +kernel
theorem dX5_lead_65 : decode cX5_lead 65 = .ok (.goto 5, 3) := by decide +kernel
theorem dX5_lead_68 : decode cX5_lead 68 = .ok (.iload 6, 2) := by decide +kernel
theorem dX5_lead_70 : decode cX5_lead 70 = .ok (.ireturn, 1) := by decide +kernel
theorem dX5_waysOf_0 : decode cX5_waysOf 0 = .ok (.iload_n 1, 1) := by decide +kernel
theorem dX5_waysOf_1 : decode cX5_waysOf 1 = .ok (.ifCond .ge 5, 3) := by decide +kernel
theorem dX5_waysOf_4 : decode cX5_waysOf 4 = .ok (.iconst 0, 1) := by decide +kernel
theorem dX5_waysOf_5 : decode cX5_waysOf 5 = .ok (.ireturn, 1) := by decide +kernel
theorem dX5_waysOf_6 : decode cX5_waysOf 6 = .ok (.iconst 0, 1) := by decide +kernel
theorem dX5_waysOf_7 : decode cX5_waysOf 7 = .ok (.istore 4, 2) := by decide +kernel
theorem dX5_waysOf_9 : decode cX5_waysOf 9 = .ok (.iload 4, 2) := by decide +kernel
theorem dX5_waysOf_11 : decode cX5_waysOf 11 = .ok (.sipush 297, 3) := by decide +kernel
theorem dX5_waysOf_14 : decode cX5_waysOf 14 = .ok (.if_icmp .ge 26, 3) := by decide +kernel
theorem dX5_waysOf_17 : decode cX5_waysOf 17 = .ok (.aload_n 0, 1) := by decide +kernel
theorem dX5_waysOf_18 : decode cX5_waysOf 18 = .ok (.getfield 43, 3) := by decide +kernel
theorem dX5_waysOf_21 : decode cX5_waysOf 21 = .ok (.iload 4, 2) := by decide +kernel
theorem dX5_waysOf_23 : decode cX5_waysOf 23 = .ok (.iload 4, 2) := by decide +kernel
theorem dX5_waysOf_25 : decode cX5_waysOf 25 = .ok (.ifCond .ne 7, 3) := by decide +kernel
theorem dX5_waysOf_28 : decode cX5_waysOf 28 = .ok (.iconst 1, 1) := by decide +kernel
theorem dX5_waysOf_29 : decode cX5_waysOf 29 = .ok (.goto 4, 3) := by decide +kernel
theorem dX5_waysOf_32 : decode cX5_waysOf 32 = .ok (.iconst 0, 1) := by decide +kernel
theorem dX5_waysOf_33 : decode cX5_waysOf 33 = .ok (.iastore, 1) := by decide +kernel
theorem dX5_waysOf_34 : decode cX5_waysOf 34 = .ok (.iinc 4 1, 3) := by decide +kernel
theorem dX5_waysOf_37 : decode cX5_waysOf 37 = .ok (.goto (-28), 3) := by decide +kernel
theorem dX5_waysOf_40 : decode cX5_waysOf 40 = .ok (.iconst 1, 1) := by decide +kernel
theorem dX5_waysOf_41 : decode cX5_waysOf 41 = .ok (.istore 4, 2) := by decide +kernel
theorem dX5_waysOf_43 : decode cX5_waysOf 43 = .ok (.iload 4, 2) := by decide +kernel
theorem dX5_waysOf_45 : decode cX5_waysOf 45 = .ok (.iload_n 2, 1) := by decide +kernel
theorem dX5_waysOf_46 : decode cX5_waysOf 46 = .ok (.if_icmp .gt 74, 3) := by decide +kernel
theorem dX5_waysOf_49 : decode cX5_waysOf 49 = .ok (.iconst 1, 1) := by decide +kernel
theorem dX5_waysOf_50 : decode cX5_waysOf 50 = .ok (.istore 5, 2) := by decide +kernel
theorem dX5_waysOf_52 : decode cX5_waysOf 52 = .ok (.iload 5, 2) := by decide +kernel
theorem dX5_waysOf_54 : decode cX5_waysOf 54 = .ok (.iload_n 3, 1) := by decide +kernel
theorem dX5_waysOf_55 : decode cX5_waysOf 55 = .ok (.if_icmp .gt 59, 3) := by decide +kernel
theorem dX5_waysOf_58 : decode cX5_waysOf 58 = .ok (.iload 4, 2) := by decide +kernel
theorem dX5_waysOf_60 : decode cX5_waysOf 60 = .ok (.istore 6, 2) := by decide +kernel
theorem dX5_waysOf_62 : decode cX5_waysOf 62 = .ok (.iload 6, 2) := by decide +kernel
theorem dX5_waysOf_64 : decode cX5_waysOf 64 = .ok (.iload_n 1, 1) := by decide +kernel
theorem dX5_waysOf_65 : decode cX5_waysOf 65 = .ok (.if_icmp .gt 43, 3) := by decide +kernel
theorem dX5_waysOf_68 : decode cX5_waysOf 68 = .ok (.aload_n 0, 1) := by decide +kernel
theorem dX5_waysOf_69 : decode cX5_waysOf 69 = .ok (.getfield 43, 3) := by decide +kernel
theorem dX5_waysOf_72 : decode cX5_waysOf 72 = .ok (.bipush 33, 2) := by decide +kernel
theorem dX5_waysOf_74 : decode cX5_waysOf 74 = .ok (.iload 5, 2) := by decide +kernel
theorem dX5_waysOf_76 : decode cX5_waysOf 76 = .ok (.imul, 1) := by decide +kernel
theorem dX5_waysOf_77 : decode cX5_waysOf 77 = .ok (.iload 6, 2) := by decide +kernel
theorem dX5_waysOf_79 : decode cX5_waysOf 79 = .ok (.iadd, 1) := by decide +kernel
theorem dX5_waysOf_80 : decode cX5_waysOf 80 = .ok (.dup2, 1) := by decide +kernel
theorem dX5_waysOf_81 : decode cX5_waysOf 81 = .ok (.iaload, 1) := by decide +kernel
theorem dX5_waysOf_82 : decode cX5_waysOf 82 = .ok (.aload_n 0, 1) := by decide +kernel
theorem dX5_waysOf_83 : decode cX5_waysOf 83 = .ok (.getfield 43, 3) := by decide +kernel
theorem dX5_waysOf_86 : decode cX5_waysOf 86 = .ok (.bipush 33, 2) := by decide +kernel
theorem dX5_waysOf_88 : decode cX5_waysOf 88 = .ok (.iload 5, 2) := by decide +kernel
theorem dX5_waysOf_90 : decode cX5_waysOf 90 = .ok (.iconst 1, 1) := by decide +kernel
theorem dX5_waysOf_91 : decode cX5_waysOf 91 = .ok (.isub, 1) := by decide +kernel
theorem dX5_waysOf_92 : decode cX5_waysOf 92 = .ok (.imul, 1) := by decide +kernel
theorem dX5_waysOf_93 : decode cX5_waysOf 93 = .ok (.iload 6, 2) := by decide +kernel
theorem dX5_waysOf_95 : decode cX5_waysOf 95 = .ok (.iadd, 1) := by decide +kernel
theorem dX5_waysOf_96 : decode cX5_waysOf 96 = .ok (.iload 4, 2) := by decide +kernel
theorem dX5_waysOf_98 : decode cX5_waysOf 98 = .ok (.isub, 1) := by decide +kernel
theorem dX5_waysOf_99 : decode cX5_waysOf 99 = .ok (.iaload, 1) := by decide +kernel
theorem dX5_waysOf_100 : decode cX5_waysOf 100 = .ok (.iadd, 1) := by decide +kernel
theorem dX5_waysOf_101 : decode cX5_waysOf 101 = .ok (.iastore, 1) := by decide +kernel
theorem dX5_waysOf_102 : decode cX5_waysOf 102 = .ok (.iinc 6 1, 3) := by decide +kernel
theorem dX5_waysOf_105 : decode cX5_waysOf 105 = .ok (.goto (-43), 3) := by decide +kernel
theorem dX5_waysOf_108 : decode cX5_waysOf 108 = .ok (.iinc 5 1, 3) := by decide +kernel
theorem dX5_waysOf_111 : decode cX5_waysOf 111 = .ok (.goto (-59), 3) := by decide +kernel
theorem dX5_waysOf_114 : decode cX5_waysOf 114 = .ok (.iinc 4 1, 3) := by decide +kernel
theorem dX5_waysOf_117 : decode cX5_waysOf 117 = .ok (.goto (-74), 3) := by decide +kernel
theorem dX5_waysOf_120 : decode cX5_waysOf 120 = .ok (.iconst 0, 1) := by decide +kernel
theorem dX5_waysOf_121 : decode cX5_waysOf 121 = .ok (.istore 4, 2) := by decide +kernel
theorem dX5_waysOf_123 : decode cX5_waysOf 123 = .ok (.iconst 0, 1) := by decide +kernel
theorem dX5_waysOf_124 : decode cX5_waysOf 124 = .ok (.istore 5, 2) := by decide +kernel
theorem dX5_waysOf_126 : decode cX5_waysOf 126 = .ok (.iload 5, 2) := by decide +kernel
theorem dX5_waysOf_128 : decode cX5_waysOf 128 = .ok (.iload_n 3, 1) := by decide +kernel
theorem dX5_waysOf_129 : decode cX5_waysOf 129 = .ok (.if_icmp .gt 26, 3) := by decide +kernel
theorem dX5_waysOf_132 : decode cX5_waysOf 132 = .ok (.iload 4, 2) := by decide +kernel
theorem dX5_waysOf_134 : decode cX5_waysOf 134 = .ok (.aload_n 0, 1) := by decide +kernel
theorem dX5_waysOf_135 : decode cX5_waysOf 135 = .ok (.getfield 43, 3) := by decide +kernel
theorem dX5_waysOf_138 : decode cX5_waysOf 138 = .ok (.bipush 33, 2) := by decide +kernel
theorem dX5_waysOf_140 : decode cX5_waysOf 140 = .ok (.iload 5, 2) := by decide +kernel
theorem dX5_waysOf_142 : decode cX5_waysOf 142 = .ok (.imul, 1) := by decide +kernel
theorem dX5_waysOf_143 : decode cX5_waysOf 143 = .ok (.iload_n 1, 1) := by decide +kernel
theorem dX5_waysOf_144 : decode cX5_waysOf 144 = .ok (.iadd, 1) := by decide +kernel
theorem dX5_waysOf_145 : decode cX5_waysOf 145 = .ok (.iaload, 1) := by decide +kernel
theorem dX5_waysOf_146 : decode cX5_waysOf 146 = .ok (.iadd, 1) := by decide +kernel
theorem dX5_waysOf_147 : decode cX5_waysOf 147 = .ok (.istore 4, 2) := by decide +kernel
theorem dX5_waysOf_149 : decode cX5_waysOf 149 = .ok (.iinc 5 1, 3) := by decide +kernel
theorem dX5_waysOf_152 : decode cX5_waysOf 152 = .ok (.goto (-26), 3) := by decide +kernel
theorem dX5_waysOf_155 : decode cX5_waysOf 155 = .ok (.iload 4, 2) := by decide +kernel
theorem dX5_waysOf_157 : decode cX5_waysOf 157 = .ok (.ireturn, 1) := by decide +kernel
theorem dX5_staying_0 : decode cX5_staying 0 = .ok (.iload_n 1, 1) := by decide +kernel
theorem dX5_staying_1 : decode cX5_staying 1 = .ok (.i2l, 1) := by decide +kernel
theorem dX5_staying_2 : decode cX5_staying 2 = .ok (.lconst 1, 1) := by decide +kernel
theorem dX5_staying_3 : decode cX5_staying 3 = .ok (.ldc2_w 100, 3) := by decide +kernel
theorem dX5_staying_6 : decode cX5_staying 6 = .ok (.invokestatic 62, 3) := by decide +kernel
theorem dX5_staying_9 : decode cX5_staying 9 = .ok (.ifCond .eq 28, 3) := by decide +kernel
theorem dX5_staying_12 : decode cX5_staying 12 = .ok (.iload_n 2, 1) := by decide +kernel
theorem dX5_staying_13 : decode cX5_staying 13 = .ok (.i2l, 1) := by decide +kernel
theorem dX5_staying_14 : decode cX5_staying 14 = .ok (.lconst 0, 1) := by decide +kernel
theorem dX5_staying_15 : decode cX5_staying 15 = .ok (.ldc2_w 100, 3) := by decide +kernel
theorem dX5_staying_18 : decode cX5_staying 18 = .ok (.invokestatic 62, 3) := by decide +kernel
theorem dX5_staying_21 : decode cX5_staying 21 = .ok (.ifCond .eq 16, 3) := by decide +kernel
theorem dX5_staying_24 : decode cX5_staying 24 = .ok (.iload_n 3, 1) := by decide +kernel
theorem dX5_staying_25 : decode cX5_staying 25 = .ok (.i2l, 1) := by decide +kernel
theorem dX5_staying_26 : decode cX5_staying 26 = .ok (.lconst 0, 1) := by decide +kernel
theorem dX5_staying_27 : decode cX5_staying 27 = .ok (.iload_n 1, 1) := by decide +kernel
theorem dX5_staying_28 : decode cX5_staying 28 = .ok (.iload_n 2, 1) := by decide +kernel
theorem dX5_staying_29 : decode cX5_staying 29 = .ok (.imul, 1) := by decide +kernel
theorem dX5_staying_30 : decode cX5_staying 30 = .ok (.i2l, 1) := by decide +kernel
theorem dX5_staying_31 : decode cX5_staying 31 = .ok (.invokestatic 62, 3) := by decide +kernel
theorem dX5_staying_34 : decode cX5_staying 34 = .ok (.ifCond .ne 6, 3) := by decide +kernel
theorem dX5_staying_37 : decode cX5_staying 37 = .ok (.bipush (-2), 2) := by decide +kernel
theorem dX5_staying_39 : decode cX5_staying 39 = .ok (.ireturn, 1) := by decide +kernel
theorem dX5_staying_40 : decode cX5_staying 40 = .ok (.iload_n 1, 1) := by decide +kernel
theorem dX5_staying_41 : decode cX5_staying 41 = .ok (.iload_n 2, 1) := by decide +kernel
theorem dX5_staying_42 : decode cX5_staying 42 = .ok (.imul, 1) := by decide +kernel
theorem dX5_staying_43 : decode cX5_staying 43 = .ok (.iload_n 3, 1) := by decide +kernel
theorem dX5_staying_44 : decode cX5_staying 44 = .ok (.isub, 1) := by decide +kernel
theorem dX5_staying_45 : decode cX5_staying 45 = .ok (.iconst 2, 1) := by decide +kernel
theorem dX5_staying_46 : decode cX5_staying 46 = .ok (.irem, 1) := by decide +kernel
theorem dX5_staying_47 : decode cX5_staying 47 = .ok (.ifCond .eq 5, 3) := by decide +kernel
theorem dX5_staying_50 : decode cX5_staying 50 = .ok (.iconst 0, 1) := by decide +kernel
theorem dX5_staying_51 : decode cX5_staying 51 = .ok (.ireturn, 1) := by decide +kernel
theorem dX5_staying_52 : decode cX5_staying 52 = .ok (.iload_n 1, 1) := by decide +kernel
theorem dX5_staying_53 : decode cX5_staying 53 = .ok (.iload_n 2, 1) := by decide +kernel
theorem dX5_staying_54 : decode cX5_staying 54 = .ok (.imul, 1) := by decide +kernel
theorem dX5_staying_55 : decode cX5_staying 55 = .ok (.iload_n 3, 1) := by decide +kernel
theorem dX5_staying_56 : decode cX5_staying 56 = .ok (.isub, 1) := by decide +kernel
theorem dX5_staying_57 : decode cX5_staying 57 = .ok (.iconst 2, 1) := by decide +kernel
theorem dX5_staying_58 : decode cX5_staying 58 = .ok (.idiv, 1) := by decide +kernel
theorem dX5_staying_59 : decode cX5_staying 59 = .ok (.istore 4, 2) := by decide +kernel
theorem dX5_staying_61 : decode cX5_staying 61 = .ok (.aload_n 0, 1) := by decide +kernel
theorem dX5_staying_62 : decode cX5_staying 62 = .ok (.iload 4, 2) := by decide +kernel
theorem dX5_staying_64 : decode cX5_staying 64 = .ok (.iload_n 1, 1) := by decide +kernel
theorem dX5_staying_65 : decode cX5_staying 65 = .ok (.iload_n 2, 1) := by decide +kernel
theorem dX5_staying_66 : decode cX5_staying 66 = .ok (.invokevirtual 170, 3) := by decide +kernel
theorem dX5_staying_69 : decode cX5_staying 69 = .ok (.aload_n 0, 1) := by decide +kernel
theorem dX5_staying_70 : decode cX5_staying 70 = .ok (.iload 4, 2) := by decide +kernel
theorem dX5_staying_72 : decode cX5_staying 72 = .ok (.iconst 1, 1) := by decide +kernel
theorem dX5_staying_73 : decode cX5_staying 73 = .ok (.isub, 1) := by decide +kernel
theorem dX5_staying_74 : decode cX5_staying 74 = .ok (.iload_n 1, 1) := by decide +kernel
theorem dX5_staying_75 : decode cX5_staying 75 = .ok (.iload_n 2, 1) := by decide +kernel
theorem dX5_staying_76 : decode cX5_staying 76 = .ok (.invokevirtual 170, 3) := by decide +kernel
theorem dX5_staying_79 : decode cX5_staying 79 = .ok (.isub, 1) := by decide +kernel
theorem dX5_staying_80 : decode cX5_staying 80 = .ok (.ireturn, 1) := by decide +kernel
theorem dX5_count_0 : decode cX5_count 0 = .ok (.iconst 0, 1) := by decide +kernel
theorem dX5_count_1 : decode cX5_count 1 = .ok (.istore_n 2, 1) := by decide +kernel
theorem dX5_count_2 : decode cX5_count 2 = .ok (.iload_n 1, 1) := by decide +kernel
theorem dX5_count_3 : decode cX5_count 3 = .ok (.tableswitch 95 0 2 #[25, 58, 63], 25) := by decide +kernel
theorem dX5_count_28 : decode cX5_count 28 = .ok (.iconst 0, 1) := by decide +kernel
theorem dX5_count_29 : decode cX5_count 29 = .ok (.istore_n 3, 1) := by decide +kernel
theorem dX5_count_30 : decode cX5_count 30 = .ok (.iload_n 3, 1) := by decide +kernel
theorem dX5_count_31 : decode cX5_count 31 = .ok (.bipush 10, 2) := by decide +kernel
theorem dX5_count_33 : decode cX5_count 33 = .ok (.if_icmp .ge 26, 3) := by decide +kernel
theorem dX5_count_36 : decode cX5_count 36 = .ok (.iload_n 2, 1) := by decide +kernel
theorem dX5_count_37 : decode cX5_count 37 = .ok (.aload_n 0, 1) := by decide +kernel
theorem dX5_count_38 : decode cX5_count 38 = .ok (.getfield 7, 3) := by decide +kernel
theorem dX5_count_41 : decode cX5_count 41 = .ok (.iload_n 3, 1) := by decide +kernel
theorem dX5_count_42 : decode cX5_count 42 = .ok (.iaload, 1) := by decide +kernel
theorem dX5_count_43 : decode cX5_count 43 = .ok (.ifCond .ge 7, 3) := by decide +kernel
theorem dX5_count_46 : decode cX5_count 46 = .ok (.iconst 0, 1) := by decide +kernel
theorem dX5_count_47 : decode cX5_count 47 = .ok (.goto 4, 3) := by decide +kernel
theorem dX5_count_50 : decode cX5_count 50 = .ok (.iconst 1, 1) := by decide +kernel
theorem dX5_count_51 : decode cX5_count 51 = .ok (.iadd, 1) := by decide +kernel
theorem dX5_count_52 : decode cX5_count 52 = .ok (.istore_n 2, 1) := by decide +kernel
theorem dX5_count_53 : decode cX5_count 53 = .ok (.iinc 3 1, 3) := by decide +kernel
theorem dX5_count_56 : decode cX5_count 56 = .ok (.goto (-26), 3) := by decide +kernel
theorem dX5_count_59 : decode cX5_count 59 = .ok (.iload_n 2, 1) := by decide +kernel
theorem dX5_count_60 : decode cX5_count 60 = .ok (.ireturn, 1) := by decide +kernel
theorem dX5_count_61 : decode cX5_count 61 = .ok (.aload_n 0, 1) := by decide +kernel
theorem dX5_count_62 : decode cX5_count 62 = .ok (.getfield 56, 3) := by decide +kernel
theorem dX5_count_65 : decode cX5_count 65 = .ok (.ireturn, 1) := by decide +kernel
theorem dX5_count_66 : decode cX5_count 66 = .ok (.iconst 0, 1) := by decide +kernel
theorem dX5_count_67 : decode cX5_count 67 = .ok (.istore_n 3, 1) := by decide +kernel
theorem dX5_count_68 : decode cX5_count 68 = .ok (.iload_n 3, 1) := by decide +kernel
theorem dX5_count_69 : decode cX5_count 69 = .ok (.bipush 10, 2) := by decide +kernel
theorem dX5_count_71 : decode cX5_count 71 = .ok (.if_icmp .ge 25, 3) := by decide +kernel
theorem dX5_count_74 : decode cX5_count 74 = .ok (.iload_n 2, 1) := by decide +kernel
theorem dX5_count_75 : decode cX5_count 75 = .ok (.aload_n 0, 1) := by decide +kernel
theorem dX5_count_76 : decode cX5_count 76 = .ok (.iload_n 3, 1) := by decide +kernel
theorem dX5_count_77 : decode cX5_count 77 = .ok (.invokevirtual 90, 3) := by decide +kernel
theorem dX5_count_80 : decode cX5_count 80 = .ok (.ifCond .eq 7, 3) := by decide +kernel
theorem dX5_count_83 : decode cX5_count 83 = .ok (.iconst 1, 1) := by decide +kernel
theorem dX5_count_84 : decode cX5_count 84 = .ok (.goto 4, 3) := by decide +kernel
theorem dX5_count_87 : decode cX5_count 87 = .ok (.iconst 0, 1) := by decide +kernel
theorem dX5_count_88 : decode cX5_count 88 = .ok (.iadd, 1) := by decide +kernel
theorem dX5_count_89 : decode cX5_count 89 = .ok (.istore_n 2, 1) := by decide +kernel
theorem dX5_count_90 : decode cX5_count 90 = .ok (.iinc 3 1, 3) := by decide +kernel
theorem dX5_count_93 : decode cX5_count 93 = .ok (.goto (-25), 3) := by decide +kernel
theorem dX5_count_96 : decode cX5_count 96 = .ok (.iload_n 2, 1) := by decide +kernel
theorem dX5_count_97 : decode cX5_count 97 = .ok (.ireturn, 1) := by decide +kernel
theorem dX5_count_98 : decode cX5_count 98 = .ok (.bipush (-2), 2) := by decide +kernel
theorem dX5_count_100 : decode cX5_count 100 = .ok (.ireturn, 1) := by decide +kernel
theorem dX5_digest_0 : decode cX5_digest 0 = .ok (.ldc2_w 173, 3) := by decide +kernel
theorem dX5_digest_3 : decode cX5_digest 3 = .ok (.lstore_n 1, 1) := by decide +kernel
theorem dX5_digest_4 : decode cX5_digest 4 = .ok (.ldc2_w 175, 3) := by decide +kernel
theorem dX5_digest_7 : decode cX5_digest 7 = .ok (.lload_n 1, 1) := by decide +kernel
theorem dX5_digest_8 : decode cX5_digest 8 = .ok (.lmul, 1) := by decide +kernel
theorem dX5_digest_9 : decode cX5_digest 9 = .ok (.aload_n 0, 1) := by decide +kernel
theorem dX5_digest_10 : decode cX5_digest 10 = .ok (.iconst 0, 1) := by decide +kernel
theorem dX5_digest_11 : decode cX5_digest 11 = .ok (.invokevirtual 177, 3) := by decide +kernel
theorem dX5_digest_14 : decode cX5_digest 14 = .ok (.i2l, 1) := by decide +kernel
theorem dX5_digest_15 : decode cX5_digest 15 = .ok (.ladd, 1) := by decide +kernel
theorem dX5_digest_16 : decode cX5_digest 16 = .ok (.lstore_n 1, 1) := by decide +kernel
theorem dX5_digest_17 : decode cX5_digest 17 = .ok (.ldc2_w 175, 3) := by decide +kernel
theorem dX5_digest_20 : decode cX5_digest 20 = .ok (.lload_n 1, 1) := by decide +kernel
theorem dX5_digest_21 : decode cX5_digest 21 = .ok (.lmul, 1) := by decide +kernel
theorem dX5_digest_22 : decode cX5_digest 22 = .ok (.aload_n 0, 1) := by decide +kernel
theorem dX5_digest_23 : decode cX5_digest 23 = .ok (.iconst 2, 1) := by decide +kernel
theorem dX5_digest_24 : decode cX5_digest 24 = .ok (.invokevirtual 177, 3) := by decide +kernel
theorem dX5_digest_27 : decode cX5_digest 27 = .ok (.i2l, 1) := by decide +kernel
theorem dX5_digest_28 : decode cX5_digest 28 = .ok (.ladd, 1) := by decide +kernel
theorem dX5_digest_29 : decode cX5_digest 29 = .ok (.lstore_n 1, 1) := by decide +kernel
theorem dX5_digest_30 : decode cX5_digest 30 = .ok (.iconst 0, 1) := by decide +kernel
theorem dX5_digest_31 : decode cX5_digest 31 = .ok (.istore_n 3, 1) := by decide +kernel
theorem dX5_digest_32 : decode cX5_digest 32 = .ok (.iload_n 3, 1) := by decide +kernel
theorem dX5_digest_33 : decode cX5_digest 33 = .ok (.bipush 10, 2) := by decide +kernel
theorem dX5_digest_35 : decode cX5_digest 35 = .ok (.if_icmp .ge 76, 3) := by decide +kernel
theorem dX5_digest_38 : decode cX5_digest 38 = .ok (.aload_n 0, 1) := by decide +kernel
theorem dX5_digest_39 : decode cX5_digest 39 = .ok (.iload_n 3, 1) := by decide +kernel
theorem dX5_digest_40 : decode cX5_digest 40 = .ok (.invokevirtual 90, 3) := by decide +kernel
theorem dX5_digest_43 : decode cX5_digest 43 = .ok (.ifCond .eq 62, 3) := by decide +kernel
theorem dX5_digest_46 : decode cX5_digest 46 = .ok (.aload_n 0, 1) := by decide +kernel
theorem dX5_digest_47 : decode cX5_digest 47 = .ok (.iload_n 3, 1) := by decide +kernel
theorem dX5_digest_48 : decode cX5_digest 48 = .ok (.invokevirtual 93, 3) := by decide +kernel
theorem dX5_digest_51 : decode cX5_digest 51 = .ok (.ldc2_w 175, 3) := by decide +kernel
theorem dX5_digest_54 : decode cX5_digest 54 = .ok (.lload_n 1, 1) := by decide +kernel
theorem dX5_digest_55 : decode cX5_digest 55 = .ok (.lmul, 1) := by decide +kernel
theorem dX5_digest_56 : decode cX5_digest 56 = .ok (.iload_n 3, 1) := by decide +kernel
theorem dX5_digest_57 : decode cX5_digest 57 = .ok (.i2l, 1) := by decide +kernel
theorem dX5_digest_58 : decode cX5_digest 58 = .ok (.ladd, 1) := by decide +kernel
theorem dX5_digest_59 : decode cX5_digest 59 = .ok (.lstore_n 1, 1) := by decide +kernel
theorem dX5_digest_60 : decode cX5_digest 60 = .ok (.ldc2_w 175, 3) := by decide +kernel
theorem dX5_digest_63 : decode cX5_digest 63 = .ok (.lload_n 1, 1) := by decide +kernel
theorem dX5_digest_64 : decode cX5_digest 64 = .ok (.lmul, 1) := by decide +kernel
theorem dX5_digest_65 : decode cX5_digest 65 = .ok (.aload_n 0, 1) := by decide +kernel
theorem dX5_digest_66 : decode cX5_digest 66 = .ok (.getfield 81, 3) := by decide +kernel
theorem dX5_digest_69 : decode cX5_digest 69 = .ok (.i2l, 1) := by decide +kernel
theorem dX5_digest_70 : decode cX5_digest 70 = .ok (.ladd, 1) := by decide +kernel
theorem dX5_digest_71 : decode cX5_digest 71 = .ok (.lstore_n 1, 1) := by decide +kernel
theorem dX5_digest_72 : decode cX5_digest 72 = .ok (.iconst 0, 1) := by decide +kernel
theorem dX5_digest_73 : decode cX5_digest 73 = .ok (.istore 4, 2) := by decide +kernel
theorem dX5_digest_75 : decode cX5_digest 75 = .ok (.iload 4, 2) := by decide +kernel
theorem dX5_digest_77 : decode cX5_digest 77 = .ok (.aload_n 0, 1) := by decide +kernel
theorem dX5_digest_78 : decode cX5_digest 78 = .ok (.getfield 81, 3) := by decide +kernel
theorem dX5_digest_81 : decode cX5_digest 81 = .ok (.if_icmp .gt 24, 3) := by decide +kernel
theorem dX5_digest_84 : decode cX5_digest 84 = .ok (.ldc2_w 175, 3) := by decide +kernel
theorem dX5_digest_87 : decode cX5_digest 87 = .ok (.lload_n 1, 1) := by decide +kernel
theorem dX5_digest_88 : decode cX5_digest 88 = .ok (.lmul, 1) := by decide +kernel
theorem dX5_digest_89 : decode cX5_digest 89 = .ok (.aload_n 0, 1) := by decide +kernel
theorem dX5_digest_90 : decode cX5_digest 90 = .ok (.getfield 22, 3) := by decide +kernel
theorem dX5_digest_93 : decode cX5_digest 93 = .ok (.iload 4, 2) := by decide +kernel
theorem dX5_digest_95 : decode cX5_digest 95 = .ok (.iaload, 1) := by decide +kernel
theorem dX5_digest_96 : decode cX5_digest 96 = .ok (.i2l, 1) := by decide +kernel
theorem dX5_digest_97 : decode cX5_digest 97 = .ok (.ladd, 1) := by decide +kernel
theorem dX5_digest_98 : decode cX5_digest 98 = .ok (.lstore_n 1, 1) := by decide +kernel
theorem dX5_digest_99 : decode cX5_digest 99 = .ok (.iinc 4 1, 3) := by decide +kernel
theorem dX5_digest_102 : decode cX5_digest 102 = .ok (.goto (-27), 3) := by decide +kernel
theorem dX5_digest_105 : decode cX5_digest 105 = .ok (.iinc 3 1, 3) := by decide +kernel
theorem dX5_digest_108 : decode cX5_digest 108 = .ok (.goto (-76), 3) := by decide +kernel
theorem dX5_digest_111 : decode cX5_digest 111 = .ok (.lload_n 1, 1) := by decide +kernel
theorem dX5_digest_112 : decode cX5_digest 112 = .ok (.lreturn, 1) := by decide +kernel

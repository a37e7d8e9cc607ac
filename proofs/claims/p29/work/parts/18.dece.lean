theorem dL_needs_375 : decode cL_needs 375 = .ok (.if_icmp .le 28, 3) := by decide +kernel
theorem dL_needs_378 : decode cL_needs 378 = .ok (.aload_n 0, 1) := by decide +kernel
theorem dL_needs_379 : decode cL_needs 379 = .ok (.iload 5, 2) := by decide +kernel
theorem dL_needs_381 : decode cL_needs 381 = .ok (.iconst 1, 1) := by decide +kernel
theorem dL_needs_382 : decode cL_needs 382 = .ok (.invokevirtual 96, 3) := by decide +kernel
theorem dL_needs_385 : decode cL_needs 385 = .ok (.iconst 1, 1) := by decide +kernel
theorem dL_needs_386 : decode cL_needs 386 = .ok (.if_icmp .ne 17, 3) := by decide +kernel
theorem dL_needs_389 : decode cL_needs 389 = .ok (.aload_n 0, 1) := by decide +kernel
theorem dL_needs_390 : decode cL_needs 390 = .ok (.iload 5, 2) := by decide +kernel
theorem dL_needs_392 : decode cL_needs 392 = .ok (.iconst 2, 1) := by decide +kernel
theorem dL_needs_393 : decode cL_needs 393 = .ok (.invokevirtual 96, 3) := by decide +kernel
theorem dL_needs_396 : decode cL_needs 396 = .ok (.ifCond .le 7, 3) := by decide +kernel
theorem dL_needs_399 : decode cL_needs 399 = .ok (.iconst 1, 1) := by decide +kernel
theorem dL_needs_400 : decode cL_needs 400 = .ok (.goto 4, 3) := by decide +kernel
theorem dL_needs_403 : decode cL_needs 403 = .ok (.iconst 0, 1) := by decide +kernel
theorem dL_needs_404 : decode cL_needs 404 = .ok (.if_icmp .ne 23, 3) := by decide +kernel
theorem dL_needs_407 : decode cL_needs 407 = .ok (.aload_n 0, 1) := by decide +kernel
theorem dL_needs_408 : decode cL_needs 408 = .ok (.iload 5, 2) := by decide +kernel
theorem dL_needs_410 : decode cL_needs 410 = .ok (.iconst 5, 1) := by decide +kernel
theorem dL_needs_411 : decode cL_needs 411 = .ok (.invokevirtual 118, 3) := by decide +kernel
theorem dL_needs_414 : decode cL_needs 414 = .ok (.ifCond .le 15, 3) := by decide +kernel
theorem dL_needs_417 : decode cL_needs 417 = .ok (.aload_n 0, 1) := by decide +kernel
theorem dL_needs_418 : decode cL_needs 418 = .ok (.iload 5, 2) := by decide +kernel
theorem dL_needs_420 : decode cL_needs 420 = .ok (.iconst 3, 1) := by decide +kernel
theorem dL_needs_421 : decode cL_needs 421 = .ok (.invokevirtual 96, 3) := by decide +kernel
theorem dL_needs_424 : decode cL_needs 424 = .ok (.ifCond .ge 5, 3) := by decide +kernel
theorem dL_needs_427 : decode cL_needs 427 = .ok (.iconst 0, 1) := by decide +kernel
theorem dL_needs_428 : decode cL_needs 428 = .ok (.ireturn, 1) := by decide +kernel
theorem dL_needs_429 : decode cL_needs 429 = .ok (.aload_n 0, 1) := by decide +kernel
theorem dL_needs_430 : decode cL_needs 430 = .ok (.iload 5, 2) := by decide +kernel
theorem dL_needs_432 : decode cL_needs 432 = .ok (.invokestatic 126, 3) := by decide +kernel
theorem dL_needs_435 : decode cL_needs 435 = .ok (.ifCond .ne 5, 3) := by decide +kernel
theorem dL_needs_438 : decode cL_needs 438 = .ok (.iconst 0, 1) := by decide +kernel
theorem dL_needs_439 : decode cL_needs 439 = .ok (.ireturn, 1) := by decide +kernel
theorem dL_needs_440 : decode cL_needs 440 = .ok (.iload_n 1, 1) := by decide +kernel
theorem dL_needs_441 : decode cL_needs 441 = .ok (.aload_n 0, 1) := by decide +kernel
theorem dL_needs_442 : decode cL_needs 442 = .ok (.iload 5, 2) := by decide +kernel
theorem dL_needs_444 : decode cL_needs 444 = .ok (.bipush 7, 2) := by decide +kernel
theorem dL_needs_446 : decode cL_needs 446 = .ok (.invokevirtual 118, 3) := by decide +kernel
theorem dL_needs_449 : decode cL_needs 449 = .ok (.iadd, 1) := by decide +kernel
theorem dL_needs_450 : decode cL_needs 450 = .ok (.istore_n 1, 1) := by decide +kernel
theorem dL_needs_451 : decode cL_needs 451 = .ok (.iload_n 2, 1) := by decide +kernel
theorem dL_needs_452 : decode cL_needs 452 = .ok (.aload_n 0, 1) := by decide +kernel
theorem dL_needs_453 : decode cL_needs 453 = .ok (.iload 5, 2) := by decide +kernel
theorem dL_needs_455 : decode cL_needs 455 = .ok (.iconst 4, 1) := by decide +kernel
theorem dL_needs_456 : decode cL_needs 456 = .ok (.invokevirtual 118, 3) := by decide +kernel
theorem dL_needs_459 : decode cL_needs 459 = .ok (.iadd, 1) := by decide +kernel
theorem dL_needs_460 : decode cL_needs 460 = .ok (.istore_n 2, 1) := by decide +kernel
theorem dL_needs_461 : decode cL_needs 461 = .ok (.iload_n 3, 1) := by decide +kernel
theorem dL_needs_462 : decode cL_needs 462 = .ok (.aload_n 0, 1) := by decide +kernel
theorem dL_needs_463 : decode cL_needs 463 = .ok (.iload 5, 2) := by decide +kernel
theorem dL_needs_465 : decode cL_needs 465 = .ok (.bipush 6, 2) := by decide +kernel
theorem dL_needs_467 : decode cL_needs 467 = .ok (.invokevirtual 118, 3) := by decide +kernel
theorem dL_needs_470 : decode cL_needs 470 = .ok (.ifCond .le 10, 3) := by decide +kernel
theorem dL_needs_473 : decode cL_needs 473 = .ok (.iconst 1, 1) := by decide +kernel
theorem dL_needs_474 : decode cL_needs 474 = .ok (.iload 5, 2) := by decide +kernel
theorem dL_needs_476 : decode cL_needs 476 = .ok (.ishl, 1) := by decide +kernel
theorem dL_needs_477 : decode cL_needs 477 = .ok (.goto 4, 3) := by decide +kernel
theorem dL_needs_480 : decode cL_needs 480 = .ok (.iconst 0, 1) := by decide +kernel
theorem dL_needs_481 : decode cL_needs 481 = .ok (.ior, 1) := by decide +kernel
theorem dL_needs_482 : decode cL_needs 482 = .ok (.istore_n 3, 1) := by decide +kernel
theorem dL_needs_483 : decode cL_needs 483 = .ok (.iinc 5 1, 3) := by decide +kernel
theorem dL_needs_486 : decode cL_needs 486 = .ok (.goto (-435), 3) := by decide +kernel
theorem dL_needs_489 : decode cL_needs 489 = .ok (.aload_n 0, 1) := by decide +kernel
theorem dL_needs_490 : decode cL_needs 490 = .ok (.iconst 4, 1) := by decide +kernel
theorem dL_needs_491 : decode cL_needs 491 = .ok (.invokevirtual 68, 3) := by decide +kernel
theorem dL_needs_494 : decode cL_needs 494 = .ok (.iload_n 1, 1) := by decide +kernel
theorem dL_needs_495 : decode cL_needs 495 = .ok (.if_icmp .ne 49, 3) := by decide +kernel
theorem dL_needs_498 : decode cL_needs 498 = .ok (.aload_n 0, 1) := by decide +kernel
theorem dL_needs_499 : decode cL_needs 499 = .ok (.iconst 5, 1) := by decide +kernel
theorem dL_needs_500 : decode cL_needs 500 = .ok (.invokevirtual 68, 3) := by decide +kernel
theorem dL_needs_503 : decode cL_needs 503 = .ok (.iload_n 2, 1) := by decide +kernel
theorem dL_needs_504 : decode cL_needs 504 = .ok (.if_icmp .ne 40, 3) := by decide +kernel
theorem dL_needs_507 : decode cL_needs 507 = .ok (.aload_n 0, 1) := by decide +kernel
theorem dL_needs_508 : decode cL_needs 508 = .ok (.bipush 6, 2) := by decide +kernel
theorem dL_needs_510 : decode cL_needs 510 = .ok (.invokevirtual 68, 3) := by decide +kernel
theorem dL_needs_513 : decode cL_needs 513 = .ok (.iload_n 3, 1) := by decide +kernel
theorem dL_needs_514 : decode cL_needs 514 = .ok (.if_icmp .ne 30, 3) := by decide +kernel
theorem dL_needs_517 : decode cL_needs 517 = .ok (.aload_n 0, 1) := by decide +kernel
theorem dL_needs_518 : decode cL_needs 518 = .ok (.bipush 7, 2) := by decide +kernel
theorem dL_needs_520 : decode cL_needs 520 = .ok (.invokevirtual 68, 3) := by decide +kernel
theorem dL_needs_523 : decode cL_needs 523 = .ok (.iload 4, 2) := by decide +kernel
theorem dL_needs_525 : decode cL_needs 525 = .ok (.ifCond .eq 11, 3) := by decide +kernel
theorem dL_needs_528 : decode cL_needs 528 = .ok (.iload_n 3, 1) := by decide +kernel
theorem dL_needs_529 : decode cL_needs 529 = .ok (.ifCond .ne 7, 3) := by decide +kernel
theorem dL_needs_532 : decode cL_needs 532 = .ok (.iconst 1, 1) := by decide +kernel
theorem dL_needs_533 : decode cL_needs 533 = .ok (.goto 4, 3) := by decide +kernel
theorem dL_needs_536 : decode cL_needs 536 = .ok (.iconst 0, 1) := by decide +kernel
theorem dL_needs_537 : decode cL_needs 537 = .ok (.if_icmp .ne 7, 3) := by decide +kernel
theorem dL_needs_540 : decode cL_needs 540 = .ok (.iconst 1, 1) := by decide +kernel
theorem dL_needs_541 : decode cL_needs 541 = .ok (.goto 4, 3) := by decide +kernel
theorem dL_needs_544 : decode cL_needs 544 = .ok (.iconst 0, 1) := by decide +kernel
theorem dL_needs_545 : decode cL_needs 545 = .ok (.ireturn, 1) := by decide +kernel
theorem dL_tins_0 : decode cL_tins 0 = .ok (.iconst 0, 1) := by decide +kernel
theorem dL_tins_1 : decode cL_tins 1 = .ok (.istore_n 2, 1) := by decide +kernel
theorem dL_tins_2 : decode cL_tins 2 = .ok (.iconst 0, 1) := by decide +kernel
theorem dL_tins_3 : decode cL_tins 3 = .ok (.istore_n 3, 1) := by decide +kernel
theorem dL_tins_4 : decode cL_tins 4 = .ok (.aload_n 0, 1) := by decide +kernel
theorem dL_tins_5 : decode cL_tins 5 = .ok (.iload_n 1, 1) := by decide +kernel
theorem dL_tins_6 : decode cL_tins 6 = .ok (.iconst 2, 1) := by decide +kernel
theorem dL_tins_7 : decode cL_tins 7 = .ok (.invokevirtual 96, 3) := by decide +kernel
theorem dL_tins_10 : decode cL_tins 10 = .ok (.istore 4, 2) := by decide +kernel
theorem dL_tins_12 : decode cL_tins 12 = .ok (.aload_n 0, 1) := by decide +kernel
theorem dL_tins_13 : decode cL_tins 13 = .ok (.iload_n 1, 1) := by decide +kernel
theorem dL_tins_14 : decode cL_tins 14 = .ok (.iconst 4, 1) := by decide +kernel
theorem dL_tins_15 : decode cL_tins 15 = .ok (.invokevirtual 118, 3) := by decide +kernel
theorem dL_tins_18 : decode cL_tins 18 = .ok (.istore 5, 2) := by decide +kernel
theorem dL_tins_20 : decode cL_tins 20 = .ok (.iconst 0, 1) := by decide +kernel
theorem dL_tins_21 : decode cL_tins 21 = .ok (.istore 6, 2) := by decide +kernel
theorem dL_tins_23 : decode cL_tins 23 = .ok (.iload 6, 2) := by decide +kernel
theorem dL_tins_25 : decode cL_tins 25 = .ok (.iload 4, 2) := by decide +kernel
theorem dL_tins_27 : decode cL_tins 27 = .ok (.if_icmp .ge 67, 3) := by decide +kernel
theorem dL_tins_30 : decode cL_tins 30 = .ok (.aload_n 0, 1) := by decide +kernel
theorem dL_tins_31 : decode cL_tins 31 = .ok (.iload_n 1, 1) := by decide +kernel
theorem dL_tins_32 : decode cL_tins 32 = .ok (.iload 6, 2) := by decide +kernel
theorem dL_tins_34 : decode cL_tins 34 = .ok (.iconst 2, 1) := by decide +kernel
theorem dL_tins_35 : decode cL_tins 35 = .ok (.invokevirtual 129, 3) := by decide +kernel
theorem dL_tins_38 : decode cL_tins 38 = .ok (.istore 7, 2) := by decide +kernel
theorem dL_tins_40 : decode cL_tins 40 = .ok (.iload_n 2, 1) := by decide +kernel
theorem dL_tins_41 : decode cL_tins 41 = .ok (.iload 7, 2) := by decide +kernel
theorem dL_tins_43 : decode cL_tins 43 = .ok (.aload_n 0, 1) := by decide +kernel
theorem dL_tins_44 : decode cL_tins 44 = .ok (.iload_n 1, 1) := by decide +kernel
theorem dL_tins_45 : decode cL_tins 45 = .ok (.iload 6, 2) := by decide +kernel
theorem dL_tins_47 : decode cL_tins 47 = .ok (.iconst 1, 1) := by decide +kernel
theorem dL_tins_48 : decode cL_tins 48 = .ok (.invokevirtual 129, 3) := by decide +kernel
theorem dL_tins_51 : decode cL_tins 51 = .ok (.imul, 1) := by decide +kernel
theorem dL_tins_52 : decode cL_tins 52 = .ok (.iadd, 1) := by decide +kernel
theorem dL_tins_53 : decode cL_tins 53 = .ok (.istore_n 2, 1) := by decide +kernel
theorem dL_tins_54 : decode cL_tins 54 = .ok (.iload_n 3, 1) := by decide +kernel
theorem dL_tins_55 : decode cL_tins 55 = .ok (.iload 7, 2) := by decide +kernel
theorem dL_tins_57 : decode cL_tins 57 = .ok (.aload_n 0, 1) := by decide +kernel
theorem dL_tins_58 : decode cL_tins 58 = .ok (.iload_n 1, 1) := by decide +kernel
theorem dL_tins_59 : decode cL_tins 59 = .ok (.iload 6, 2) := by decide +kernel
theorem dL_tins_61 : decode cL_tins 61 = .ok (.iconst 0, 1) := by decide +kernel
theorem dL_tins_62 : decode cL_tins 62 = .ok (.invokevirtual 129, 3) := by decide +kernel
theorem dL_tins_65 : decode cL_tins 65 = .ok (.imul, 1) := by decide +kernel
theorem dL_tins_66 : decode cL_tins 66 = .ok (.iadd, 1) := by decide +kernel
theorem dL_tins_67 : decode cL_tins 67 = .ok (.istore_n 3, 1) := by decide +kernel
theorem dL_tins_68 : decode cL_tins 68 = .ok (.iload 7, 2) := by decide +kernel
theorem dL_tins_70 : decode cL_tins 70 = .ok (.ifCond .le 18, 3) := by decide +kernel
theorem dL_tins_73 : decode cL_tins 73 = .ok (.iload 5, 2) := by decide +kernel
theorem dL_tins_75 : decode cL_tins 75 = .ok (.aload_n 0, 1) := by decide +kernel
theorem dL_tins_76 : decode cL_tins 76 = .ok (.iload_n 1, 1) := by decide +kernel
theorem dL_tins_77 : decode cL_tins 77 = .ok (.iload 6, 2) := by decide +kernel
theorem dL_tins_79 : decode cL_tins 79 = .ok (.iconst 0, 1) := by decide +kernel
theorem dL_tins_80 : decode cL_tins 80 = .ok (.invokevirtual 129, 3) := by decide +kernel
theorem dL_tins_83 : decode cL_tins 83 = .ok (.if_icmp .lt 5, 3) := by decide +kernel
theorem dL_tins_86 : decode cL_tins 86 = .ok (.iconst 0, 1) := by decide +kernel
theorem dL_tins_87 : decode cL_tins 87 = .ok (.ireturn, 1) := by decide +kernel
theorem dL_tins_88 : decode cL_tins 88 = .ok (.iinc 6 1, 3) := by decide +kernel
theorem dL_tins_91 : decode cL_tins 91 = .ok (.goto (-68), 3) := by decide +kernel
theorem dL_tins_94 : decode cL_tins 94 = .ok (.iload_n 2, 1) := by decide +kernel
theorem dL_tins_95 : decode cL_tins 95 = .ok (.aload_n 0, 1) := by decide +kernel
theorem dL_tins_96 : decode cL_tins 96 = .ok (.iload_n 1, 1) := by decide +kernel
theorem dL_tins_97 : decode cL_tins 97 = .ok (.bipush 7, 2) := by decide +kernel
theorem dL_tins_99 : decode cL_tins 99 = .ok (.invokevirtual 118, 3) := by decide +kernel
theorem dL_tins_102 : decode cL_tins 102 = .ok (.if_icmp .ne 13, 3) := by decide +kernel
theorem dL_tins_105 : decode cL_tins 105 = .ok (.iload_n 3, 1) := by decide +kernel
theorem dL_tins_106 : decode cL_tins 106 = .ok (.aload_n 0, 1) := by decide +kernel
theorem dL_tins_107 : decode cL_tins 107 = .ok (.iload_n 1, 1) := by decide +kernel
theorem dL_tins_108 : decode cL_tins 108 = .ok (.iconst 3, 1) := by decide +kernel
theorem dL_tins_109 : decode cL_tins 109 = .ok (.invokevirtual 118, 3) := by decide +kernel
theorem dL_tins_112 : decode cL_tins 112 = .ok (.if_icmp .eq 5, 3) := by decide +kernel
theorem dL_tins_115 : decode cL_tins 115 = .ok (.iconst 0, 1) := by decide +kernel
theorem dL_tins_116 : decode cL_tins 116 = .ok (.ireturn, 1) := by decide +kernel
theorem dL_tins_117 : decode cL_tins 117 = .ok (.iconst 0, 1) := by decide +kernel
theorem dL_tins_118 : decode cL_tins 118 = .ok (.istore 6, 2) := by decide +kernel
theorem dL_tins_120 : decode cL_tins 120 = .ok (.iload 6, 2) := by decide +kernel
theorem dL_tins_122 : decode cL_tins 122 = .ok (.iload 4, 2) := by decide +kernel
theorem dL_tins_124 : decode cL_tins 124 = .ok (.if_icmp .ge 121, 3) := by decide +kernel
theorem dL_tins_127 : decode cL_tins 127 = .ok (.iconst 0, 1) := by decide +kernel
theorem dL_tins_128 : decode cL_tins 128 = .ok (.istore 7, 2) := by decide +kernel
theorem dL_tins_130 : decode cL_tins 130 = .ok (.iload 7, 2) := by decide +kernel
theorem dL_tins_132 : decode cL_tins 132 = .ok (.iload 4, 2) := by decide +kernel
theorem dL_tins_134 : decode cL_tins 134 = .ok (.if_icmp .ge 105, 3) := by decide +kernel
theorem dL_tins_137 : decode cL_tins 137 = .ok (.iconst 1, 1) := by decide +kernel
theorem dL_tins_138 : decode cL_tins 138 = .ok (.istore 8, 2) := by decide +kernel
theorem dL_tins_140 : decode cL_tins 140 = .ok (.iload 8, 2) := by decide +kernel
theorem dL_tins_142 : decode cL_tins 142 = .ok (.iconst 3, 1) := by decide +kernel
theorem dL_tins_143 : decode cL_tins 143 = .ok (.if_icmp .ge 90, 3) := by decide +kernel
theorem dL_tins_146 : decode cL_tins 146 = .ok (.iload 6, 2) := by decide +kernel
theorem dL_tins_148 : decode cL_tins 148 = .ok (.iload 7, 2) := by decide +kernel
theorem dL_tins_150 : decode cL_tins 150 = .ok (.if_icmp .eq 77, 3) := by decide +kernel
theorem dL_tins_153 : decode cL_tins 153 = .ok (.aload_n 0, 1) := by decide +kernel
theorem dL_tins_154 : decode cL_tins 154 = .ok (.iload_n 1, 1) := by decide +kernel
theorem dL_tins_155 : decode cL_tins 155 = .ok (.iload 6, 2) := by decide +kernel
theorem dL_tins_157 : decode cL_tins 157 = .ok (.iconst 2, 1) := by decide +kernel
theorem dL_tins_158 : decode cL_tins 158 = .ok (.invokevirtual 129, 3) := by decide +kernel
theorem dL_tins_161 : decode cL_tins 161 = .ok (.iload 8, 2) := by decide +kernel
theorem dL_tins_163 : decode cL_tins 163 = .ok (.if_icmp .ge 6, 3) := by decide +kernel
theorem dL_tins_166 : decode cL_tins 166 = .ok (.goto 61, 3) := by decide +kernel
theorem dL_tins_169 : decode cL_tins 169 = .ok (.iload 8, 2) := by decide +kernel
theorem dL_tins_171 : decode cL_tins 171 = .ok (.aload_n 0, 1) := by decide +kernel
theorem dL_tins_172 : decode cL_tins 172 = .ok (.iload_n 1, 1) := by decide +kernel
theorem dL_tins_173 : decode cL_tins 173 = .ok (.iload 6, 2) := by decide +kernel
theorem dL_tins_175 : decode cL_tins 175 = .ok (.iconst 0, 1) := by decide +kernel
theorem dL_tins_176 : decode cL_tins 176 = .ok (.invokevirtual 129, 3) := by decide +kernel
theorem dL_tins_179 : decode cL_tins 179 = .ok (.imul, 1) := by decide +kernel
theorem dL_tins_180 : decode cL_tins 180 = .ok (.iload 5, 2) := by decide +kernel
theorem dL_tins_182 : decode cL_tins 182 = .ok (.isub, 1) := by decide +kernel
theorem dL_tins_183 : decode cL_tins 183 = .ok (.istore 9, 2) := by decide +kernel
theorem dL_tins_185 : decode cL_tins 185 = .ok (.iload 9, 2) := by decide +kernel
theorem dL_tins_187 : decode cL_tins 187 = .ok (.aload_n 0, 1) := by decide +kernel
theorem dL_tins_188 : decode cL_tins 188 = .ok (.iload_n 1, 1) := by decide +kernel
theorem dL_tins_189 : decode cL_tins 189 = .ok (.iload 7, 2) := by decide +kernel
theorem dL_tins_191 : decode cL_tins 191 = .ok (.iconst 0, 1) := by decide +kernel
theorem dL_tins_192 : decode cL_tins 192 = .ok (.invokevirtual 129, 3) := by decide +kernel
theorem dL_tins_195 : decode cL_tins 195 = .ok (.invokestatic 123, 3) := by decide +kernel
theorem dL_tins_198 : decode cL_tins 198 = .ok (.istore 10, 2) := by decide +kernel
theorem dL_tins_200 : decode cL_tins 200 = .ok (.iload 10, 2) := by decide +kernel
theorem dL_tins_202 : decode cL_tins 202 = .ok (.aload_n 0, 1) := by decide +kernel
theorem dL_tins_203 : decode cL_tins 203 = .ok (.iload_n 1, 1) := by decide +kernel
theorem dL_tins_204 : decode cL_tins 204 = .ok (.iload 7, 2) := by decide +kernel
theorem dL_tins_206 : decode cL_tins 206 = .ok (.iconst 1, 1) := by decide +kernel
theorem dL_tins_207 : decode cL_tins 207 = .ok (.invokevirtual 129, 3) := by decide +kernel
theorem dL_tins_210 : decode cL_tins 210 = .ok (.imul, 1) := by decide +kernel
theorem dL_tins_211 : decode cL_tins 211 = .ok (.iload 8, 2) := by decide +kernel
theorem dL_tins_213 : decode cL_tins 213 = .ok (.aload_n 0, 1) := by decide +kernel
theorem dL_tins_214 : decode cL_tins 214 = .ok (.iload_n 1, 1) := by decide +kernel
theorem dL_tins_215 : decode cL_tins 215 = .ok (.iload 6, 2) := by decide +kernel
theorem dL_tins_217 : decode cL_tins 217 = .ok (.iconst 1, 1) := by decide +kernel
theorem dL_tins_218 : decode cL_tins 218 = .ok (.invokevirtual 129, 3) := by decide +kernel
theorem dL_tins_221 : decode cL_tins 221 = .ok (.imul, 1) := by decide +kernel
theorem dL_tins_222 : decode cL_tins 222 = .ok (.if_icmp .ge 5, 3) := by decide +kernel
theorem dL_tins_225 : decode cL_tins 225 = .ok (.iconst 0, 1) := by decide +kernel
theorem dL_tins_226 : decode cL_tins 226 = .ok (.ireturn, 1) := by decide +kernel
theorem dL_tins_227 : decode cL_tins 227 = .ok (.iinc 8 1, 3) := by decide +kernel
theorem dL_tins_230 : decode cL_tins 230 = .ok (.goto (-90), 3) := by decide +kernel
theorem dL_tins_233 : decode cL_tins 233 = .ok (.iinc 7 1, 3) := by decide +kernel
theorem dL_tins_236 : decode cL_tins 236 = .ok (.goto (-106), 3) := by decide +kernel
theorem dL_tins_239 : decode cL_tins 239 = .ok (.iinc 6 1, 3) := by decide +kernel
theorem dL_tins_242 : decode cL_tins 242 = .ok (.goto (-122), 3) := by decide +kernel
theorem dL_tins_245 : decode cL_tins 245 = .ok (.aload_n 0, 1) := by decide +kernel
theorem dL_tins_246 : decode cL_tins 246 = .ok (.iload_n 1, 1) := by decide +kernel
theorem dL_tins_247 : decode cL_tins 247 = .ok (.iconst 3, 1) := by decide +kernel
theorem dL_tins_248 : decode cL_tins 248 = .ok (.invokevirtual 118, 3) := by decide +kernel
theorem dL_tins_251 : decode cL_tins 251 = .ok (.iload 5, 2) := by decide +kernel
theorem dL_tins_253 : decode cL_tins 253 = .ok (.isub, 1) := by decide +kernel
theorem dL_tins_254 : decode cL_tins 254 = .ok (.istore 6, 2) := by decide +kernel
theorem dL_tins_256 : decode cL_tins 256 = .ok (.iconst 0, 1) := by decide +kernel
theorem dL_tins_257 : decode cL_tins 257 = .ok (.istore 7, 2) := by decide +kernel
theorem dL_tins_259 : decode cL_tins 259 = .ok (.iload 7, 2) := by decide +kernel
theorem dL_tins_261 : decode cL_tins 261 = .ok (.iload 4, 2) := by decide +kernel
theorem dL_tins_263 : decode cL_tins 263 = .ok (.if_icmp .ge 76, 3) := by decide +kernel
theorem dL_tins_266 : decode cL_tins 266 = .ok (.iload 6, 2) := by decide +kernel
theorem dL_tins_268 : decode cL_tins 268 = .ok (.ifCond .le 71, 3) := by decide +kernel
theorem dL_tins_271 : decode cL_tins 271 = .ok (.iload 6, 2) := by decide +kernel
theorem dL_tins_273 : decode cL_tins 273 = .ok (.aload_n 0, 1) := by decide +kernel
theorem dL_tins_274 : decode cL_tins 274 = .ok (.iload_n 1, 1) := by decide +kernel
theorem dL_tins_275 : decode cL_tins 275 = .ok (.iload 7, 2) := by decide +kernel
theorem dL_tins_277 : decode cL_tins 277 = .ok (.iconst 0, 1) := by decide +kernel
theorem dL_tins_278 : decode cL_tins 278 = .ok (.invokevirtual 129, 3) := by decide +kernel
theorem dL_tins_281 : decode cL_tins 281 = .ok (.invokestatic 123, 3) := by decide +kernel
theorem dL_tins_284 : decode cL_tins 284 = .ok (.istore 8, 2) := by decide +kernel
theorem dL_tins_286 : decode cL_tins 286 = .ok (.iload 8, 2) := by decide +kernel
theorem dL_tins_288 : decode cL_tins 288 = .ok (.aload_n 0, 1) := by decide +kernel
theorem dL_tins_289 : decode cL_tins 289 = .ok (.iload_n 1, 1) := by decide +kernel
theorem dL_tins_290 : decode cL_tins 290 = .ok (.iload 7, 2) := by decide +kernel
theorem dL_tins_292 : decode cL_tins 292 = .ok (.iconst 1, 1) := by decide +kernel
theorem dL_tins_293 : decode cL_tins 293 = .ok (.invokevirtual 129, 3) := by decide +kernel
theorem dL_tins_296 : decode cL_tins 296 = .ok (.imul, 1) := by decide +kernel
theorem dL_tins_297 : decode cL_tins 297 = .ok (.iload_n 2, 1) := by decide +kernel
theorem dL_tins_298 : decode cL_tins 298 = .ok (.if_icmp .lt 33, 3) := by decide +kernel
theorem dL_tins_301 : decode cL_tins 301 = .ok (.iload 8, 2) := by decide +kernel
theorem dL_tins_303 : decode cL_tins 303 = .ok (.aload_n 0, 1) := by decide +kernel
theorem dL_tins_304 : decode cL_tins 304 = .ok (.iload_n 1, 1) := by decide +kernel
theorem dL_tins_305 : decode cL_tins 305 = .ok (.iload 7, 2) := by decide +kernel
theorem dL_tins_307 : decode cL_tins 307 = .ok (.iconst 1, 1) := by decide +kernel
theorem dL_tins_308 : decode cL_tins 308 = .ok (.invokevirtual 129, 3) := by decide +kernel
theorem dL_tins_311 : decode cL_tins 311 = .ok (.imul, 1) := by decide +kernel
theorem dL_tins_312 : decode cL_tins 312 = .ok (.iload_n 2, 1) := by decide +kernel
theorem dL_tins_313 : decode cL_tins 313 = .ok (.if_icmp .ne 20, 3) := by decide +kernel
theorem dL_tins_316 : decode cL_tins 316 = .ok (.iload 8, 2) := by decide +kernel
theorem dL_tins_318 : decode cL_tins 318 = .ok (.aload_n 0, 1) := by decide +kernel
theorem dL_tins_319 : decode cL_tins 319 = .ok (.iload_n 1, 1) := by decide +kernel
theorem dL_tins_320 : decode cL_tins 320 = .ok (.iload 7, 2) := by decide +kernel
theorem dL_tins_322 : decode cL_tins 322 = .ok (.iconst 0, 1) := by decide +kernel
theorem dL_tins_323 : decode cL_tins 323 = .ok (.invokevirtual 129, 3) := by decide +kernel
theorem dL_tins_326 : decode cL_tins 326 = .ok (.imul, 1) := by decide +kernel
theorem dL_tins_327 : decode cL_tins 327 = .ok (.iload_n 3, 1) := by decide +kernel
theorem dL_tins_328 : decode cL_tins 328 = .ok (.if_icmp .ge 5, 3) := by decide +kernel
theorem dL_tins_331 : decode cL_tins 331 = .ok (.iconst 0, 1) := by decide +kernel
theorem dL_tins_332 : decode cL_tins 332 = .ok (.ireturn, 1) := by decide +kernel
theorem dL_tins_333 : decode cL_tins 333 = .ok (.iinc 7 1, 3) := by decide +kernel
theorem dL_tins_336 : decode cL_tins 336 = .ok (.goto (-77), 3) := by decide +kernel
theorem dL_tins_339 : decode cL_tins 339 = .ok (.iconst 1, 1) := by decide +kernel
theorem dL_tins_340 : decode cL_tins 340 = .ok (.ireturn, 1) := by decide +kernel
theorem dL_accounts_0 : decode cL_accounts 0 = .ok (.iconst 0, 1) := by decide +kernel
theorem dL_accounts_1 : decode cL_accounts 1 = .ok (.istore_n 1, 1) := by decide +kernel
theorem dL_accounts_2 : decode cL_accounts 2 = .ok (.iload_n 1, 1) := by decide +kernel
theorem dL_accounts_3 : decode cL_accounts 3 = .ok (.aload_n 0, 1) := by decide +kernel
theorem dL_accounts_4 : decode cL_accounts 4 = .ok (.iconst 1, 1) := by decide +kernel
theorem dL_accounts_5 : decode cL_accounts 5 = .ok (.invokevirtual 68, 3) := by decide +kernel
theorem dL_accounts_8 : decode cL_accounts 8 = .ok (.if_icmp .ge 134, 3) := by decide +kernel
theorem dL_accounts_11 : decode cL_accounts 11 = .ok (.aload_n 0, 1) := by decide +kernel
theorem dL_accounts_12 : decode cL_accounts 12 = .ok (.iload_n 1, 1) := by decide +kernel
theorem dL_accounts_13 : decode cL_accounts 13 = .ok (.bipush 8, 2) := by decide +kernel
theorem dL_accounts_15 : decode cL_accounts 15 = .ok (.invokevirtual 96, 3) := by decide +kernel
theorem dL_accounts_18 : decode cL_accounts 18 = .ok (.aload_n 0, 1) := by decide +kernel
theorem dL_accounts_19 : decode cL_accounts 19 = .ok (.iload_n 1, 1) := by decide +kernel
theorem dL_accounts_20 : decode cL_accounts 20 = .ok (.bipush 11, 2) := by decide +kernel
theorem dL_accounts_22 : decode cL_accounts 22 = .ok (.invokevirtual 96, 3) := by decide +kernel
theorem dL_accounts_25 : decode cL_accounts 25 = .ok (.iadd, 1) := by decide +kernel
theorem dL_accounts_26 : decode cL_accounts 26 = .ok (.aload_n 0, 1) := by decide +kernel
theorem dL_accounts_27 : decode cL_accounts 27 = .ok (.iload_n 1, 1) := by decide +kernel
theorem dL_accounts_28 : decode cL_accounts 28 = .ok (.bipush 9, 2) := by decide +kernel
theorem dL_accounts_30 : decode cL_accounts 30 = .ok (.invokevirtual 96, 3) := by decide +kernel
theorem dL_accounts_33 : decode cL_accounts 33 = .ok (.aload_n 0, 1) := by decide +kernel
theorem dL_accounts_34 : decode cL_accounts 34 = .ok (.iload_n 1, 1) := by decide +kernel
theorem dL_accounts_35 : decode cL_accounts 35 = .ok (.bipush 10, 2) := by decide +kernel
theorem dL_accounts_37 : decode cL_accounts 37 = .ok (.invokevirtual 96, 3) := by decide +kernel
theorem dL_accounts_40 : decode cL_accounts 40 = .ok (.iadd, 1) := by decide +kernel
theorem dL_accounts_41 : decode cL_accounts 41 = .ok (.aload_n 0, 1) := by decide +kernel
theorem dL_accounts_42 : decode cL_accounts 42 = .ok (.iload_n 1, 1) := by decide +kernel
theorem dL_accounts_43 : decode cL_accounts 43 = .ok (.iconst 5, 1) := by decide +kernel
theorem dL_accounts_44 : decode cL_accounts 44 = .ok (.invokevirtual 96, 3) := by decide +kernel
theorem dL_accounts_47 : decode cL_accounts 47 = .ok (.iadd, 1) := by decide +kernel
theorem dL_accounts_48 : decode cL_accounts 48 = .ok (.if_icmp .eq 5, 3) := by decide +kernel
theorem dL_accounts_51 : decode cL_accounts 51 = .ok (.iconst 0, 1) := by decide +kernel
theorem dL_accounts_52 : decode cL_accounts 52 = .ok (.ireturn, 1) := by decide +kernel
theorem dL_accounts_53 : decode cL_accounts 53 = .ok (.aload_n 0, 1) := by decide +kernel
theorem dL_accounts_54 : decode cL_accounts 54 = .ok (.iload_n 1, 1) := by decide +kernel
theorem dL_accounts_55 : decode cL_accounts 55 = .ok (.iconst 5, 1) := by decide +kernel
theorem dL_accounts_56 : decode cL_accounts 56 = .ok (.invokevirtual 96, 3) := by decide +kernel
theorem dL_accounts_59 : decode cL_accounts 59 = .ok (.ifCond .le 7, 3) := by decide +kernel
theorem dL_accounts_62 : decode cL_accounts 62 = .ok (.iconst 1, 1) := by decide +kernel
theorem dL_accounts_63 : decode cL_accounts 63 = .ok (.goto 4, 3) := by decide +kernel
theorem dL_accounts_66 : decode cL_accounts 66 = .ok (.iconst 0, 1) := by decide +kernel
theorem dL_accounts_67 : decode cL_accounts 67 = .ok (.aload_n 0, 1) := by decide +kernel
theorem dL_accounts_68 : decode cL_accounts 68 = .ok (.iload_n 1, 1) := by decide +kernel
theorem dL_accounts_69 : decode cL_accounts 69 = .ok (.bipush 6, 2) := by decide +kernel
theorem dL_accounts_71 : decode cL_accounts 71 = .ok (.invokevirtual 96, 3) := by decide +kernel
theorem dL_accounts_74 : decode cL_accounts 74 = .ok (.ifCond .le 7, 3) := by decide +kernel
theorem dL_accounts_77 : decode cL_accounts 77 = .ok (.iconst 1, 1) := by decide +kernel
theorem dL_accounts_78 : decode cL_accounts 78 = .ok (.goto 4, 3) := by decide +kernel
theorem dL_accounts_81 : decode cL_accounts 81 = .ok (.iconst 0, 1) := by decide +kernel
theorem dL_accounts_82 : decode cL_accounts 82 = .ok (.if_icmp .ne 52, 3) := by decide +kernel
theorem dL_accounts_85 : decode cL_accounts 85 = .ok (.aload_n 0, 1) := by decide +kernel
theorem dL_accounts_86 : decode cL_accounts 86 = .ok (.iload_n 1, 1) := by decide +kernel
theorem dL_accounts_87 : decode cL_accounts 87 = .ok (.bipush 6, 2) := by decide +kernel
theorem dL_accounts_89 : decode cL_accounts 89 = .ok (.invokevirtual 96, 3) := by decide +kernel
theorem dL_accounts_92 : decode cL_accounts 92 = .ok (.ifCond .le 7, 3) := by decide +kernel
theorem dL_accounts_95 : decode cL_accounts 95 = .ok (.iconst 1, 1) := by decide +kernel
theorem dL_accounts_96 : decode cL_accounts 96 = .ok (.goto 4, 3) := by decide +kernel
theorem dL_accounts_99 : decode cL_accounts 99 = .ok (.iconst 0, 1) := by decide +kernel
theorem dL_accounts_100 : decode cL_accounts 100 = .ok (.aload_n 0, 1) := by decide +kernel
theorem dL_accounts_101 : decode cL_accounts 101 = .ok (.iload_n 1, 1) := by decide +kernel
theorem dL_accounts_102 : decode cL_accounts 102 = .ok (.bipush 7, 2) := by decide +kernel
theorem dL_accounts_104 : decode cL_accounts 104 = .ok (.invokevirtual 96, 3) := by decide +kernel
theorem dL_accounts_107 : decode cL_accounts 107 = .ok (.ifCond .lt 7, 3) := by decide +kernel
theorem dL_accounts_110 : decode cL_accounts 110 = .ok (.iconst 1, 1) := by decide +kernel
theorem dL_accounts_111 : decode cL_accounts 111 = .ok (.goto 4, 3) := by decide +kernel
theorem dL_accounts_114 : decode cL_accounts 114 = .ok (.iconst 0, 1) := by decide +kernel
theorem dL_accounts_115 : decode cL_accounts 115 = .ok (.if_icmp .ne 19, 3) := by decide +kernel
theorem dL_accounts_118 : decode cL_accounts 118 = .ok (.aload_n 0, 1) := by decide +kernel
theorem dL_accounts_119 : decode cL_accounts 119 = .ok (.iload_n 1, 1) := by decide +kernel
theorem dL_accounts_120 : decode cL_accounts 120 = .ok (.bipush 6, 2) := by decide +kernel
theorem dL_accounts_122 : decode cL_accounts 122 = .ok (.invokevirtual 96, 3) := by decide +kernel
theorem dL_accounts_125 : decode cL_accounts 125 = .ok (.aload_n 0, 1) := by decide +kernel
theorem dL_accounts_126 : decode cL_accounts 126 = .ok (.iload_n 1, 1) := by decide +kernel
theorem dL_accounts_127 : decode cL_accounts 127 = .ok (.iconst 0, 1) := by decide +kernel
theorem dL_accounts_128 : decode cL_accounts 128 = .ok (.invokevirtual 96, 3) := by decide +kernel
theorem dL_accounts_131 : decode cL_accounts 131 = .ok (.if_icmp .le 5, 3) := by decide +kernel
theorem dL_accounts_134 : decode cL_accounts 134 = .ok (.iconst 0, 1) := by decide +kernel
theorem dL_accounts_135 : decode cL_accounts 135 = .ok (.ireturn, 1) := by decide +kernel
theorem dL_accounts_136 : decode cL_accounts 136 = .ok (.iinc 1 1, 3) := by decide +kernel
theorem dL_accounts_139 : decode cL_accounts 139 = .ok (.goto (-137), 3) := by decide +kernel
theorem dL_accounts_142 : decode cL_accounts 142 = .ok (.iconst 1, 1) := by decide +kernel
theorem dL_accounts_143 : decode cL_accounts 143 = .ok (.ireturn, 1) := by decide +kernel
theorem dL_times_0 : decode cL_times 0 = .ok (.iconst 0, 1) := by decide +kernel
theorem dL_times_1 : decode cL_times 1 = .ok (.istore_n 2, 1) := by decide +kernel
theorem dL_times_2 : decode cL_times 2 = .ok (.iload_n 2, 1) := by decide +kernel
theorem dL_times_3 : decode cL_times 3 = .ok (.aload_n 0, 1) := by decide +kernel
theorem dL_times_4 : decode cL_times 4 = .ok (.iconst 2, 1) := by decide +kernel
theorem dL_times_5 : decode cL_times 5 = .ok (.invokevirtual 68, 3) := by decide +kernel
theorem dL_times_8 : decode cL_times 8 = .ok (.if_icmp .ge 25, 3) := by decide +kernel
theorem dL_times_11 : decode cL_times 11 = .ok (.aload_n 0, 1) := by decide +kernel
theorem dL_times_12 : decode cL_times 12 = .ok (.iload_n 2, 1) := by decide +kernel
theorem dL_times_13 : decode cL_times 13 = .ok (.iload_n 1, 1) := by decide +kernel
theorem dL_times_14 : decode cL_times 14 = .ok (.iconst 3, 1) := by decide +kernel
theorem dL_times_15 : decode cL_times 15 = .ok (.iload_n 2, 1) := by decide +kernel
theorem dL_times_16 : decode cL_times 16 = .ok (.imul, 1) := by decide +kernel
theorem dL_times_17 : decode cL_times 17 = .ok (.ishr, 1) := by decide +kernel
theorem dL_times_18 : decode cL_times 18 = .ok (.bipush 9, 2) := by decide +kernel
theorem dL_times_20 : decode cL_times 20 = .ok (.invokestatic 22, 3) := by decide +kernel
theorem dL_times_23 : decode cL_times 23 = .ok (.invokevirtual 115, 3) := by decide +kernel
theorem dL_times_26 : decode cL_times 26 = .ok (.pop, 1) := by decide +kernel
theorem dL_times_27 : decode cL_times 27 = .ok (.iinc 2 1, 3) := by decide +kernel
theorem dL_times_30 : decode cL_times 30 = .ok (.goto (-28), 3) := by decide +kernel
theorem dL_times_33 : decode cL_times 33 = .ok (.iconst 1, 1) := by decide +kernel
theorem dL_times_34 : decode cL_times 34 = .ok (.istore_n 2, 1) := by decide +kernel
theorem dL_times_35 : decode cL_times 35 = .ok (.iload_n 2, 1) := by decide +kernel
theorem dL_times_36 : decode cL_times 36 = .ok (.bipush 7, 2) := by decide +kernel
theorem dL_times_38 : decode cL_times 38 = .ok (.if_icmp .ge 28, 3) := by decide +kernel
theorem dL_times_41 : decode cL_times 41 = .ok (.aload_n 0, 1) := by decide +kernel
theorem dL_times_42 : decode cL_times 42 = .ok (.iload_n 2, 1) := by decide +kernel
theorem dL_times_43 : decode cL_times 43 = .ok (.invokevirtual 132, 3) := by decide +kernel
theorem dL_times_46 : decode cL_times 46 = .ok (.iconst 1, 1) := by decide +kernel
theorem dL_times_47 : decode cL_times 47 = .ok (.if_icmp .lt 11, 3) := by decide +kernel
theorem dL_times_50 : decode cL_times 50 = .ok (.aload_n 0, 1) := by decide +kernel
theorem dL_times_51 : decode cL_times 51 = .ok (.iload_n 2, 1) := by decide +kernel
theorem dL_times_52 : decode cL_times 52 = .ok (.invokestatic 135, 3) := by decide +kernel
theorem dL_times_55 : decode cL_times 55 = .ok (.ifCond .ne 5, 3) := by decide +kernel
theorem dL_times_58 : decode cL_times 58 = .ok (.iconst 0, 1) := by decide +kernel
theorem dL_times_59 : decode cL_times 59 = .ok (.ireturn, 1) := by decide +kernel
theorem dL_times_60 : decode cL_times 60 = .ok (.iinc 2 1, 3) := by decide +kernel
theorem dL_times_63 : decode cL_times 63 = .ok (.goto (-28), 3) := by decide +kernel
theorem dL_times_66 : decode cL_times 66 = .ok (.iload_n 1, 1) := by decide +kernel
theorem dL_times_67 : decode cL_times 67 = .ok (.bipush 7, 2) := by decide +kernel
theorem dL_times_69 : decode cL_times 69 = .ok (.ishr, 1) := by decide +kernel
theorem dL_times_70 : decode cL_times 70 = .ok (.sipush 900, 3) := by decide +kernel
theorem dL_times_73 : decode cL_times 73 = .ok (.invokestatic 22, 3) := by decide +kernel
theorem dL_times_76 : decode cL_times 76 = .ok (.istore_n 2, 1) := by decide +kernel
theorem dL_times_77 : decode cL_times 77 = .ok (.aload_n 0, 1) := by decide +kernel
theorem dL_times_78 : decode cL_times 78 = .ok (.iload_n 2, 1) := by decide +kernel
theorem dL_times_79 : decode cL_times 79 = .ok (.invokevirtual 138, 3) := by decide +kernel
theorem dL_times_82 : decode cL_times 82 = .ok (.istore_n 3, 1) := by decide +kernel
theorem dL_times_83 : decode cL_times 83 = .ok (.iconst 1, 1) := by decide +kernel
theorem dL_times_84 : decode cL_times 84 = .ok (.istore 4, 2) := by decide +kernel
theorem dL_times_86 : decode cL_times 86 = .ok (.iload 4, 2) := by decide +kernel
theorem dL_times_88 : decode cL_times 88 = .ok (.bipush 7, 2) := by decide +kernel
theorem dL_times_90 : decode cL_times 90 = .ok (.if_icmp .ge 70, 3) := by decide +kernel
theorem dL_times_93 : decode cL_times 93 = .ok (.aload_n 0, 1) := by decide +kernel
theorem dL_times_94 : decode cL_times 94 = .ok (.iload 4, 2) := by decide +kernel
theorem dL_times_96 : decode cL_times 96 = .ok (.invokevirtual 132, 3) := by decide +kernel
theorem dL_times_99 : decode cL_times 99 = .ok (.pop, 1) := by decide +kernel
theorem dL_times_100 : decode cL_times 100 = .ok (.aload_n 0, 1) := by decide +kernel
theorem dL_times_101 : decode cL_times 101 = .ok (.bipush 8, 2) := by decide +kernel
theorem dL_times_103 : decode cL_times 103 = .ok (.invokevirtual 68, 3) := by decide +kernel
theorem dL_times_106 : decode cL_times 106 = .ok (.ifCond .lt 17, 3) := by decide +kernel
theorem dL_times_109 : decode cL_times 109 = .ok (.aload_n 0, 1) := by decide +kernel
theorem dL_times_110 : decode cL_times 110 = .ok (.bipush 8, 2) := by decide +kernel
theorem dL_times_112 : decode cL_times 112 = .ok (.invokevirtual 68, 3) := by decide +kernel
theorem dL_times_115 : decode cL_times 115 = .ok (.iload_n 2, 1) := by decide +kernel
theorem dL_times_116 : decode cL_times 116 = .ok (.if_icmp .gt 7, 3) := by decide +kernel
theorem dL_times_119 : decode cL_times 119 = .ok (.iconst 1, 1) := by decide +kernel
theorem dL_times_120 : decode cL_times 120 = .ok (.goto 4, 3) := by decide +kernel
theorem dL_times_123 : decode cL_times 123 = .ok (.iconst 0, 1) := by decide +kernel
theorem dL_times_124 : decode cL_times 124 = .ok (.istore 5, 2) := by decide +kernel
theorem dL_times_126 : decode cL_times 126 = .ok (.iload 5, 2) := by decide +kernel
theorem dL_times_128 : decode cL_times 128 = .ok (.ifCond .eq 13, 3) := by decide +kernel
theorem dL_times_131 : decode cL_times 131 = .ok (.iload_n 3, 1) := by decide +kernel
theorem dL_times_132 : decode cL_times 132 = .ok (.ifCond .lt 20, 3) := by decide +kernel
theorem dL_times_135 : decode cL_times 135 = .ok (.iload 4, 2) := by decide +kernel
theorem dL_times_137 : decode cL_times 137 = .ok (.iload_n 3, 1) := by decide +kernel
theorem dL_times_138 : decode cL_times 138 = .ok (.if_icmp .lt 14, 3) := by decide +kernel
theorem dL_times_141 : decode cL_times 141 = .ok (.iload 4, 2) := by decide +kernel
theorem dL_times_143 : decode cL_times 143 = .ok (.iload_n 3, 1) := by decide +kernel
theorem dL_times_144 : decode cL_times 144 = .ok (.if_icmp .ne 10, 3) := by decide +kernel
theorem dL_times_147 : decode cL_times 147 = .ok (.iload 5, 2) := by decide +kernel
theorem dL_times_149 : decode cL_times 149 = .ok (.ifCond .ne 5, 3) := by decide +kernel
theorem dL_times_152 : decode cL_times 152 = .ok (.iconst 0, 1) := by decide +kernel
theorem dL_times_153 : decode cL_times 153 = .ok (.ireturn, 1) := by decide +kernel
theorem dL_times_154 : decode cL_times 154 = .ok (.iinc 4 1, 3) := by decide +kernel
theorem dL_times_157 : decode cL_times 157 = .ok (.goto (-71), 3) := by decide +kernel
theorem dL_times_160 : decode cL_times 160 = .ok (.iconst 1, 1) := by decide +kernel
theorem dL_times_161 : decode cL_times 161 = .ok (.ireturn, 1) := by decide +kernel
theorem dL_schedule_0 : decode cL_schedule 0 = .ok (.iconst 0, 1) := by decide +kernel
theorem dL_schedule_1 : decode cL_schedule 1 = .ok (.istore_n 2, 1) := by decide +kernel
theorem dL_schedule_2 : decode cL_schedule 2 = .ok (.iconst 0, 1) := by decide +kernel
theorem dL_schedule_3 : decode cL_schedule 3 = .ok (.istore_n 3, 1) := by decide +kernel
theorem dL_schedule_4 : decode cL_schedule 4 = .ok (.iconst 0, 1) := by decide +kernel
theorem dL_schedule_5 : decode cL_schedule 5 = .ok (.istore 4, 2) := by decide +kernel
theorem dL_schedule_7 : decode cL_schedule 7 = .ok (.iconst 0, 1) := by decide +kernel
theorem dL_schedule_8 : decode cL_schedule 8 = .ok (.istore 5, 2) := by decide +kernel
theorem dL_schedule_10 : decode cL_schedule 10 = .ok (.iconst 0, 1) := by decide +kernel
theorem dL_schedule_11 : decode cL_schedule 11 = .ok (.istore 6, 2) := by decide +kernel
theorem dL_schedule_13 : decode cL_schedule 13 = .ok (.iload 6, 2) := by decide +kernel
theorem dL_schedule_15 : decode cL_schedule 15 = .ok (.aload_n 0, 1) := by decide +kernel
theorem dL_schedule_16 : decode cL_schedule 16 = .ok (.iconst 2, 1) := by decide +kernel
theorem dL_schedule_17 : decode cL_schedule 17 = .ok (.invokevirtual 68, 3) := by decide +kernel
theorem dL_schedule_20 : decode cL_schedule 20 = .ok (.if_icmp .ge 454, 3) := by decide +kernel
theorem dL_schedule_23 : decode cL_schedule 23 = .ok (.aload_n 0, 1) := by decide +kernel
theorem dL_schedule_24 : decode cL_schedule 24 = .ok (.iload 6, 2) := by decide +kernel
theorem dL_schedule_26 : decode cL_schedule 26 = .ok (.iconst 2, 1) := by decide +kernel
theorem dL_schedule_27 : decode cL_schedule 27 = .ok (.invokevirtual 90, 3) := by decide +kernel
theorem dL_schedule_30 : decode cL_schedule 30 = .ok (.istore 7, 2) := by decide +kernel
theorem dL_schedule_32 : decode cL_schedule 32 = .ok (.iconst 0, 1) := by decide +kernel
theorem dL_schedule_33 : decode cL_schedule 33 = .ok (.istore 8, 2) := by decide +kernel
theorem dL_schedule_35 : decode cL_schedule 35 = .ok (.iload 8, 2) := by decide +kernel
theorem dL_schedule_37 : decode cL_schedule 37 = .ok (.aload_n 0, 1) := by decide +kernel
theorem dL_schedule_38 : decode cL_schedule 38 = .ok (.iload 6, 2) := by decide +kernel
theorem dL_schedule_40 : decode cL_schedule 40 = .ok (.iconst 1, 1) := by decide +kernel
theorem dL_schedule_41 : decode cL_schedule 41 = .ok (.invokevirtual 90, 3) := by decide +kernel
theorem dL_schedule_44 : decode cL_schedule 44 = .ok (.if_icmp .ge 424, 3) := by decide +kernel
theorem dL_schedule_47 : decode cL_schedule 47 = .ok (.aload_n 0, 1) := by decide +kernel
theorem dL_schedule_48 : decode cL_schedule 48 = .ok (.iload 6, 2) := by decide +kernel
theorem dL_schedule_50 : decode cL_schedule 50 = .ok (.iload 8, 2) := by decide +kernel
theorem dL_schedule_52 : decode cL_schedule 52 = .ok (.iconst 5, 1) := by decide +kernel
theorem dL_schedule_53 : decode cL_schedule 53 = .ok (.invokevirtual 93, 3) := by decide +kernel
theorem dL_schedule_56 : decode cL_schedule 56 = .ok (.istore 9, 2) := by decide +kernel
theorem dL_schedule_58 : decode cL_schedule 58 = .ok (.aload_n 0, 1) := by decide +kernel
theorem dL_schedule_59 : decode cL_schedule 59 = .ok (.iload 6, 2) := by decide +kernel
theorem dL_schedule_61 : decode cL_schedule 61 = .ok (.iload 8, 2) := by decide +kernel
theorem dL_schedule_63 : decode cL_schedule 63 = .ok (.iconst 0, 1) := by decide +kernel
theorem dL_schedule_64 : decode cL_schedule 64 = .ok (.invokevirtual 93, 3) := by decide +kernel
theorem dL_schedule_67 : decode cL_schedule 67 = .ok (.istore 10, 2) := by decide +kernel
theorem dL_schedule_69 : decode cL_schedule 69 = .ok (.aload_n 0, 1) := by decide +kernel
theorem dL_schedule_70 : decode cL_schedule 70 = .ok (.iload 6, 2) := by decide +kernel
theorem dL_schedule_72 : decode cL_schedule 72 = .ok (.iload 8, 2) := by decide +kernel
theorem dL_schedule_74 : decode cL_schedule 74 = .ok (.iconst 4, 1) := by decide +kernel
theorem dL_schedule_75 : decode cL_schedule 75 = .ok (.invokevirtual 93, 3) := by decide +kernel
theorem dL_schedule_78 : decode cL_schedule 78 = .ok (.istore 11, 2) := by decide +kernel
theorem dL_schedule_80 : decode cL_schedule 80 = .ok (.iload 7, 2) := by decide +kernel
theorem dL_schedule_82 : decode cL_schedule 82 = .ok (.ifCond .ne 19, 3) := by decide +kernel
theorem dL_schedule_85 : decode cL_schedule 85 = .ok (.iload 9, 2) := by decide +kernel
theorem dL_schedule_87 : decode cL_schedule 87 = .ok (.bipush (-6), 2) := by decide +kernel
theorem dL_schedule_89 : decode cL_schedule 89 = .ok (.if_icmp .ne 10, 3) := by decide +kernel
theorem dL_schedule_92 : decode cL_schedule 92 = .ok (.iload 11, 2) := by decide +kernel
theorem dL_schedule_94 : decode cL_schedule 94 = .ok (.bipush (-6), 2) := by decide +kernel
theorem dL_schedule_96 : decode cL_schedule 96 = .ok (.if_icmp .eq 366, 3) := by decide +kernel
theorem dL_schedule_99 : decode cL_schedule 99 = .ok (.iconst 0, 1) := by decide +kernel
theorem dL_schedule_100 : decode cL_schedule 100 = .ok (.ireturn, 1) := by decide +kernel
theorem dL_schedule_101 : decode cL_schedule 101 = .ok (.iload_n 3, 1) := by decide +kernel
theorem dL_schedule_102 : decode cL_schedule 102 = .ok (.iload 10, 2) := by decide +kernel
theorem dL_schedule_104 : decode cL_schedule 104 = .ok (.aload_n 0, 1) := by decide +kernel
theorem dL_schedule_105 : decode cL_schedule 105 = .ok (.iload 6, 2) := by decide +kernel
theorem dL_schedule_107 : decode cL_schedule 107 = .ok (.iload 8, 2) := by decide +kernel
theorem dL_schedule_109 : decode cL_schedule 109 = .ok (.iconst 1, 1) := by decide +kernel
theorem dL_schedule_110 : decode cL_schedule 110 = .ok (.invokevirtual 93, 3) := by decide +kernel
theorem dL_schedule_113 : decode cL_schedule 113 = .ok (.imul, 1) := by decide +kernel
theorem dL_schedule_114 : decode cL_schedule 114 = .ok (.iadd, 1) := by decide +kernel
theorem dL_schedule_115 : decode cL_schedule 115 = .ok (.istore_n 3, 1) := by decide +kernel
theorem dL_schedule_116 : decode cL_schedule 116 = .ok (.iload 11, 2) := by decide +kernel
theorem dL_schedule_118 : decode cL_schedule 118 = .ok (.iload 4, 2) := by decide +kernel
theorem dL_schedule_120 : decode cL_schedule 120 = .ok (.if_icmp .le 8, 3) := by decide +kernel
theorem dL_schedule_123 : decode cL_schedule 123 = .ok (.iload 11, 2) := by decide +kernel
theorem dL_schedule_125 : decode cL_schedule 125 = .ok (.goto 5, 3) := by decide +kernel
theorem dL_schedule_128 : decode cL_schedule 128 = .ok (.iload 4, 2) := by decide +kernel
theorem dL_schedule_130 : decode cL_schedule 130 = .ok (.istore 4, 2) := by decide +kernel
theorem dL_schedule_132 : decode cL_schedule 132 = .ok (.iload 5, 2) := by decide +kernel
theorem dL_schedule_134 : decode cL_schedule 134 = .ok (.iload 9, 2) := by decide +kernel
theorem dL_schedule_136 : decode cL_schedule 136 = .ok (.ifCond .ge 7, 3) := by decide +kernel
theorem dL_schedule_139 : decode cL_schedule 139 = .ok (.iconst 1, 1) := by decide +kernel
theorem dL_schedule_140 : decode cL_schedule 140 = .ok (.goto 4, 3) := by decide +kernel
theorem dL_schedule_143 : decode cL_schedule 143 = .ok (.iconst 0, 1) := by decide +kernel
theorem dL_schedule_144 : decode cL_schedule 144 = .ok (.ior, 1) := by decide +kernel
theorem dL_schedule_145 : decode cL_schedule 145 = .ok (.istore 5, 2) := by decide +kernel
theorem dL_schedule_147 : decode cL_schedule 147 = .ok (.iconst 0, 1) := by decide +kernel
theorem dL_schedule_148 : decode cL_schedule 148 = .ok (.istore 12, 2) := by decide +kernel
theorem dL_schedule_150 : decode cL_schedule 150 = .ok (.iload 8, 2) := by decide +kernel
theorem dL_schedule_152 : decode cL_schedule 152 = .ok (.iconst 1, 1) := by decide +kernel
theorem dL_schedule_153 : decode cL_schedule 153 = .ok (.iadd, 1) := by decide +kernel
theorem dL_schedule_154 : decode cL_schedule 154 = .ok (.istore 13, 2) := by decide +kernel
theorem dL_schedule_156 : decode cL_schedule 156 = .ok (.iload 13, 2) := by decide +kernel
theorem dL_schedule_158 : decode cL_schedule 158 = .ok (.aload_n 0, 1) := by decide +kernel
theorem dL_schedule_159 : decode cL_schedule 159 = .ok (.iload 6, 2) := by decide +kernel
theorem dL_schedule_161 : decode cL_schedule 161 = .ok (.iconst 1, 1) := by decide +kernel
theorem dL_schedule_162 : decode cL_schedule 162 = .ok (.invokevirtual 90, 3) := by decide +kernel
theorem dL_schedule_165 : decode cL_schedule 165 = .ok (.if_icmp .ge 57, 3) := by decide +kernel
theorem dL_schedule_168 : decode cL_schedule 168 = .ok (.aload_n 0, 1) := by decide +kernel
theorem dL_schedule_169 : decode cL_schedule 169 = .ok (.iload 6, 2) := by decide +kernel
theorem dL_schedule_171 : decode cL_schedule 171 = .ok (.iload 13, 2) := by decide +kernel
theorem dL_schedule_173 : decode cL_schedule 173 = .ok (.iconst 2, 1) := by decide +kernel
theorem dL_schedule_174 : decode cL_schedule 174 = .ok (.invokevirtual 93, 3) := by decide +kernel
theorem dL_schedule_177 : decode cL_schedule 177 = .ok (.iload 8, 2) := by decide +kernel
theorem dL_schedule_179 : decode cL_schedule 179 = .ok (.ishr, 1) := by decide +kernel
theorem dL_schedule_180 : decode cL_schedule 180 = .ok (.iconst 1, 1) := by decide +kernel
theorem dL_schedule_181 : decode cL_schedule 181 = .ok (.iand, 1) := by decide +kernel
theorem dL_schedule_182 : decode cL_schedule 182 = .ok (.iconst 1, 1) := by decide +kernel
theorem dL_schedule_183 : decode cL_schedule 183 = .ok (.if_icmp .ne 33, 3) := by decide +kernel
theorem dL_schedule_186 : decode cL_schedule 186 = .ok (.aload_n 0, 1) := by decide +kernel
theorem dL_schedule_187 : decode cL_schedule 187 = .ok (.iload 6, 2) := by decide +kernel
theorem dL_schedule_189 : decode cL_schedule 189 = .ok (.iload 13, 2) := by decide +kernel
theorem dL_schedule_191 : decode cL_schedule 191 = .ok (.iconst 4, 1) := by decide +kernel
theorem dL_schedule_192 : decode cL_schedule 192 = .ok (.invokevirtual 93, 3) := by decide +kernel
theorem dL_schedule_195 : decode cL_schedule 195 = .ok (.iload 12, 2) := by decide +kernel
theorem dL_schedule_197 : decode cL_schedule 197 = .ok (.if_icmp .le 15, 3) := by decide +kernel
theorem dL_schedule_200 : decode cL_schedule 200 = .ok (.aload_n 0, 1) := by decide +kernel
theorem dL_schedule_201 : decode cL_schedule 201 = .ok (.iload 6, 2) := by decide +kernel
theorem dL_schedule_203 : decode cL_schedule 203 = .ok (.iload 13, 2) := by decide +kernel
theorem dL_schedule_205 : decode cL_schedule 205 = .ok (.iconst 4, 1) := by decide +kernel
theorem dL_schedule_206 : decode cL_schedule 206 = .ok (.invokevirtual 93, 3) := by decide +kernel
theorem dL_schedule_209 : decode cL_schedule 209 = .ok (.goto 5, 3) := by decide +kernel
theorem dL_schedule_212 : decode cL_schedule 212 = .ok (.iload 12, 2) := by decide +kernel
theorem dL_schedule_214 : decode cL_schedule 214 = .ok (.istore 12, 2) := by decide +kernel
theorem dL_schedule_216 : decode cL_schedule 216 = .ok (.iinc 13 1, 3) := by decide +kernel
theorem dL_schedule_219 : decode cL_schedule 219 = .ok (.goto (-63), 3) := by decide +kernel
theorem dL_schedule_222 : decode cL_schedule 222 = .ok (.iload 11, 2) := by decide +kernel
theorem dL_schedule_224 : decode cL_schedule 224 = .ok (.iload 10, 2) := by decide +kernel
theorem dL_schedule_226 : decode cL_schedule 226 = .ok (.iload 12, 2) := by decide +kernel
theorem dL_schedule_228 : decode cL_schedule 228 = .ok (.iadd, 1) := by decide +kernel
theorem dL_schedule_229 : decode cL_schedule 229 = .ok (.if_icmp .ne 9, 3) := by decide +kernel
theorem dL_schedule_232 : decode cL_schedule 232 = .ok (.iload 10, 2) := by decide +kernel
theorem dL_schedule_234 : decode cL_schedule 234 = .ok (.iconst 1, 1) := by decide +kernel
theorem dL_schedule_235 : decode cL_schedule 235 = .ok (.if_icmp .ge 5, 3) := by decide +kernel
theorem dL_schedule_238 : decode cL_schedule 238 = .ok (.iconst 0, 1) := by decide +kernel
theorem dL_schedule_239 : decode cL_schedule 239 = .ok (.ireturn, 1) := by decide +kernel
theorem dL_schedule_240 : decode cL_schedule 240 = .ok (.aload_n 0, 1) := by decide +kernel
theorem dL_schedule_241 : decode cL_schedule 241 = .ok (.iload 6, 2) := by decide +kernel
theorem dL_schedule_243 : decode cL_schedule 243 = .ok (.iload 8, 2) := by decide +kernel
theorem dL_schedule_245 : decode cL_schedule 245 = .ok (.iconst 1, 1) := by decide +kernel
theorem dL_schedule_246 : decode cL_schedule 246 = .ok (.invokevirtual 93, 3) := by decide +kernel
theorem dL_schedule_249 : decode cL_schedule 249 = .ok (.iload_n 1, 1) := by decide +kernel
theorem dL_schedule_250 : decode cL_schedule 250 = .ok (.if_icmp .le 7, 3) := by decide +kernel
theorem dL_schedule_253 : decode cL_schedule 253 = .ok (.iconst 1, 1) := by decide +kernel
theorem dL_schedule_254 : decode cL_schedule 254 = .ok (.goto 4, 3) := by decide +kernel
theorem dL_schedule_257 : decode cL_schedule 257 = .ok (.iconst 0, 1) := by decide +kernel
theorem dL_schedule_258 : decode cL_schedule 258 = .ok (.istore 13, 2) := by decide +kernel
theorem dL_schedule_260 : decode cL_schedule 260 = .ok (.iconst 0, 1) := by decide +kernel
theorem dL_schedule_261 : decode cL_schedule 261 = .ok (.istore 14, 2) := by decide +kernel
theorem dL_schedule_263 : decode cL_schedule 263 = .ok (.iconst 0, 1) := by decide +kernel
theorem dL_schedule_264 : decode cL_schedule 264 = .ok (.istore 15, 2) := by decide +kernel
theorem dL_schedule_266 : decode cL_schedule 266 = .ok (.iload 15, 2) := by decide +kernel
theorem dL_schedule_268 : decode cL_schedule 268 = .ok (.iload 8, 2) := by decide +kernel
theorem dL_schedule_270 : decode cL_schedule 270 = .ok (.if_icmp .ge 86, 3) := by decide +kernel
theorem dL_schedule_273 : decode cL_schedule 273 = .ok (.aload_n 0, 1) := by decide +kernel
theorem dL_schedule_274 : decode cL_schedule 274 = .ok (.iload 6, 2) := by decide +kernel
theorem dL_schedule_276 : decode cL_schedule 276 = .ok (.iload 8, 2) := by decide +kernel
theorem dL_schedule_278 : decode cL_schedule 278 = .ok (.iconst 2, 1) := by decide +kernel
theorem dL_schedule_279 : decode cL_schedule 279 = .ok (.invokevirtual 93, 3) := by decide +kernel
theorem dL_schedule_282 : decode cL_schedule 282 = .ok (.iload 15, 2) := by decide +kernel
theorem dL_schedule_284 : decode cL_schedule 284 = .ok (.ishr, 1) := by decide +kernel
theorem dL_schedule_285 : decode cL_schedule 285 = .ok (.iconst 1, 1) := by decide +kernel
theorem dL_schedule_286 : decode cL_schedule 286 = .ok (.iand, 1) := by decide +kernel
theorem dL_schedule_287 : decode cL_schedule 287 = .ok (.iconst 1, 1) := by decide +kernel
theorem dL_schedule_288 : decode cL_schedule 288 = .ok (.if_icmp .ne 62, 3) := by decide +kernel
theorem dL_schedule_291 : decode cL_schedule 291 = .ok (.iload 13, 2) := by decide +kernel
theorem dL_schedule_293 : decode cL_schedule 293 = .ok (.aload_n 0, 1) := by decide +kernel
theorem dL_schedule_294 : decode cL_schedule 294 = .ok (.iload 6, 2) := by decide +kernel
theorem dL_schedule_296 : decode cL_schedule 296 = .ok (.iload 15, 2) := by decide +kernel
theorem dL_schedule_298 : decode cL_schedule 298 = .ok (.iconst 5, 1) := by decide +kernel
theorem dL_schedule_299 : decode cL_schedule 299 = .ok (.invokevirtual 93, 3) := by decide +kernel
theorem dL_schedule_302 : decode cL_schedule 302 = .ok (.ifCond .ge 7, 3) := by decide +kernel
theorem dL_schedule_305 : decode cL_schedule 305 = .ok (.iconst 1, 1) := by decide +kernel
theorem dL_schedule_306 : decode cL_schedule 306 = .ok (.goto 4, 3) := by decide +kernel
theorem dL_schedule_309 : decode cL_schedule 309 = .ok (.iconst 0, 1) := by decide +kernel
theorem dL_schedule_310 : decode cL_schedule 310 = .ok (.ior, 1) := by decide +kernel
theorem dL_schedule_311 : decode cL_schedule 311 = .ok (.istore 13, 2) := by decide +kernel
theorem dL_schedule_313 : decode cL_schedule 313 = .ok (.aload_n 0, 1) := by decide +kernel
theorem dL_schedule_314 : decode cL_schedule 314 = .ok (.iload 6, 2) := by decide +kernel
theorem dL_schedule_316 : decode cL_schedule 316 = .ok (.iload 15, 2) := by decide +kernel
theorem dL_schedule_318 : decode cL_schedule 318 = .ok (.iconst 5, 1) := by decide +kernel
theorem dL_schedule_319 : decode cL_schedule 319 = .ok (.invokevirtual 93, 3) := by decide +kernel
theorem dL_schedule_322 : decode cL_schedule 322 = .ok (.aload_n 0, 1) := by decide +kernel
theorem dL_schedule_323 : decode cL_schedule 323 = .ok (.iload 6, 2) := by decide +kernel
theorem dL_schedule_325 : decode cL_schedule 325 = .ok (.iload 15, 2) := by decide +kernel
theorem dL_schedule_327 : decode cL_schedule 327 = .ok (.iconst 0, 1) := by decide +kernel
theorem dL_schedule_328 : decode cL_schedule 328 = .ok (.invokevirtual 93, 3) := by decide +kernel
theorem dL_schedule_331 : decode cL_schedule 331 = .ok (.iadd, 1) := by decide +kernel
theorem dL_schedule_332 : decode cL_schedule 332 = .ok (.istore 16, 2) := by decide +kernel
theorem dL_schedule_334 : decode cL_schedule 334 = .ok (.iload 16, 2) := by decide +kernel
theorem dL_schedule_336 : decode cL_schedule 336 = .ok (.iload 14, 2) := by decide +kernel
theorem dL_schedule_338 : decode cL_schedule 338 = .ok (.if_icmp .le 8, 3) := by decide +kernel
theorem dL_schedule_341 : decode cL_schedule 341 = .ok (.iload 16, 2) := by decide +kernel
theorem dL_schedule_343 : decode cL_schedule 343 = .ok (.goto 5, 3) := by decide +kernel
theorem dL_schedule_346 : decode cL_schedule 346 = .ok (.iload 14, 2) := by decide +kernel
theorem dL_schedule_348 : decode cL_schedule 348 = .ok (.istore 14, 2) := by decide +kernel
theorem dL_schedule_350 : decode cL_schedule 350 = .ok (.iinc 15 1, 3) := by decide +kernel
theorem dL_schedule_353 : decode cL_schedule 353 = .ok (.goto (-87), 3) := by decide +kernel
theorem dL_schedule_356 : decode cL_schedule 356 = .ok (.iload 13, 2) := by decide +kernel
theorem dL_schedule_358 : decode cL_schedule 358 = .ok (.iload 9, 2) := by decide +kernel
theorem dL_schedule_360 : decode cL_schedule 360 = .ok (.ifCond .ge 7, 3) := by decide +kernel
theorem dL_schedule_363 : decode cL_schedule 363 = .ok (.iconst 1, 1) := by decide +kernel
theorem dL_schedule_364 : decode cL_schedule 364 = .ok (.goto 4, 3) := by decide +kernel
theorem dL_schedule_367 : decode cL_schedule 367 = .ok (.iconst 0, 1) := by decide +kernel
theorem dL_schedule_368 : decode cL_schedule 368 = .ok (.if_icmp .eq 5, 3) := by decide +kernel
theorem dL_schedule_371 : decode cL_schedule 371 = .ok (.iconst 0, 1) := by decide +kernel
theorem dL_schedule_372 : decode cL_schedule 372 = .ok (.ireturn, 1) := by decide +kernel
theorem dL_schedule_373 : decode cL_schedule 373 = .ok (.iload 9, 2) := by decide +kernel
theorem dL_schedule_375 : decode cL_schedule 375 = .ok (.ifCond .ge 6, 3) := by decide +kernel
theorem dL_schedule_378 : decode cL_schedule 378 = .ok (.goto 84, 3) := by decide +kernel
theorem dL_schedule_381 : decode cL_schedule 381 = .ok (.iload 9, 2) := by decide +kernel
theorem dL_schedule_383 : decode cL_schedule 383 = .ok (.iload 10, 2) := by decide +kernel
theorem dL_schedule_385 : decode cL_schedule 385 = .ok (.iadd, 1) := by decide +kernel
theorem dL_schedule_386 : decode cL_schedule 386 = .ok (.iload_n 2, 1) := by decide +kernel
theorem dL_schedule_387 : decode cL_schedule 387 = .ok (.if_icmp .le 11, 3) := by decide +kernel
theorem dL_schedule_390 : decode cL_schedule 390 = .ok (.iload 9, 2) := by decide +kernel
theorem dL_schedule_392 : decode cL_schedule 392 = .ok (.iload 10, 2) := by decide +kernel
theorem dL_schedule_394 : decode cL_schedule 394 = .ok (.iadd, 1) := by decide +kernel
theorem dL_schedule_395 : decode cL_schedule 395 = .ok (.goto 4, 3) := by decide +kernel
theorem dL_schedule_398 : decode cL_schedule 398 = .ok (.iload_n 2, 1) := by decide +kernel
theorem dL_schedule_399 : decode cL_schedule 399 = .ok (.istore_n 2, 1) := by decide +kernel
theorem dL_schedule_400 : decode cL_schedule 400 = .ok (.iload 9, 2) := by decide +kernel
theorem dL_schedule_402 : decode cL_schedule 402 = .ok (.iload 14, 2) := by decide +kernel
theorem dL_schedule_404 : decode cL_schedule 404 = .ok (.if_icmp .lt 13, 3) := by decide +kernel
theorem dL_schedule_407 : decode cL_schedule 407 = .ok (.aload_n 0, 1) := by decide +kernel
theorem dL_schedule_408 : decode cL_schedule 408 = .ok (.iload 9, 2) := by decide +kernel
theorem dL_schedule_410 : decode cL_schedule 410 = .ok (.invokestatic 141, 3) := by decide +kernel
theorem dL_schedule_413 : decode cL_schedule 413 = .ok (.iload_n 1, 1) := by decide +kernel
theorem dL_schedule_414 : decode cL_schedule 414 = .ok (.if_icmp .le 5, 3) := by decide +kernel
theorem dL_schedule_417 : decode cL_schedule 417 = .ok (.iconst 0, 1) := by decide +kernel
theorem dL_schedule_418 : decode cL_schedule 418 = .ok (.ireturn, 1) := by decide +kernel
theorem dL_schedule_419 : decode cL_schedule 419 = .ok (.iload 9, 2) := by decide +kernel
theorem dL_schedule_421 : decode cL_schedule 421 = .ok (.iload 14, 2) := by decide +kernel
theorem dL_schedule_423 : decode cL_schedule 423 = .ok (.if_icmp .le 39, 3) := by decide +kernel
theorem dL_schedule_426 : decode cL_schedule 426 = .ok (.aload_n 0, 1) := by decide +kernel
theorem dL_schedule_427 : decode cL_schedule 427 = .ok (.iload 6, 2) := by decide +kernel
theorem dL_schedule_429 : decode cL_schedule 429 = .ok (.iload 8, 2) := by decide +kernel
theorem dL_schedule_431 : decode cL_schedule 431 = .ok (.iconst 1, 1) := by decide +kernel
theorem dL_schedule_432 : decode cL_schedule 432 = .ok (.invokevirtual 93, 3) := by decide +kernel
theorem dL_schedule_435 : decode cL_schedule 435 = .ok (.ifCond .eq 25, 3) := by decide +kernel
theorem dL_schedule_438 : decode cL_schedule 438 = .ok (.aload_n 0, 1) := by decide +kernel
theorem dL_schedule_439 : decode cL_schedule 439 = .ok (.iload 9, 2) := by decide +kernel
theorem dL_schedule_441 : decode cL_schedule 441 = .ok (.iconst 1, 1) := by decide +kernel
theorem dL_schedule_442 : decode cL_schedule 442 = .ok (.isub, 1) := by decide +kernel
theorem dL_schedule_443 : decode cL_schedule 443 = .ok (.invokestatic 141, 3) := by decide +kernel
theorem dL_schedule_446 : decode cL_schedule 446 = .ok (.aload_n 0, 1) := by decide +kernel
theorem dL_schedule_447 : decode cL_schedule 447 = .ok (.iload 6, 2) := by decide +kernel
theorem dL_schedule_449 : decode cL_schedule 449 = .ok (.iload 8, 2) := by decide +kernel
theorem dL_schedule_451 : decode cL_schedule 451 = .ok (.iconst 1, 1) := by decide +kernel
theorem dL_schedule_452 : decode cL_schedule 452 = .ok (.invokevirtual 93, 3) := by decide +kernel
theorem dL_schedule_455 : decode cL_schedule 455 = .ok (.iadd, 1) := by decide +kernel
theorem dL_schedule_456 : decode cL_schedule 456 = .ok (.iload_n 1, 1) := by decide +kernel
theorem dL_schedule_457 : decode cL_schedule 457 = .ok (.if_icmp .gt 5, 3) := by decide +kernel
theorem dL_schedule_460 : decode cL_schedule 460 = .ok (.iconst 0, 1) := by decide +kernel
theorem dL_schedule_461 : decode cL_schedule 461 = .ok (.ireturn, 1) := by decide +kernel
theorem dL_schedule_462 : decode cL_schedule 462 = .ok (.iinc 8 1, 3) := by decide +kernel
theorem dL_schedule_465 : decode cL_schedule 465 = .ok (.goto (-430), 3) := by decide +kernel
theorem dL_schedule_468 : decode cL_schedule 468 = .ok (.iinc 6 1, 3) := by decide +kernel
theorem dL_schedule_471 : decode cL_schedule 471 = .ok (.goto (-458), 3) := by decide +kernel
theorem dL_schedule_474 : decode cL_schedule 474 = .ok (.iload_n 3, 1) := by decide +kernel
theorem dL_schedule_475 : decode cL_schedule 475 = .ok (.iload_n 1, 1) := by decide +kernel
theorem dL_schedule_476 : decode cL_schedule 476 = .ok (.invokestatic 123, 3) := by decide +kernel
theorem dL_schedule_479 : decode cL_schedule 479 = .ok (.iload 4, 2) := by decide +kernel
theorem dL_schedule_481 : decode cL_schedule 481 = .ok (.if_icmp .le 11, 3) := by decide +kernel
theorem dL_schedule_484 : decode cL_schedule 484 = .ok (.iload_n 3, 1) := by decide +kernel
theorem dL_schedule_485 : decode cL_schedule 485 = .ok (.iload_n 1, 1) := by decide +kernel
theorem dL_schedule_486 : decode cL_schedule 486 = .ok (.invokestatic 123, 3) := by decide +kernel
theorem dL_schedule_489 : decode cL_schedule 489 = .ok (.goto 5, 3) := by decide +kernel
theorem dL_schedule_492 : decode cL_schedule 492 = .ok (.iload 4, 2) := by decide +kernel
theorem dL_schedule_494 : decode cL_schedule 494 = .ok (.istore 6, 2) := by decide +kernel
theorem dL_schedule_496 : decode cL_schedule 496 = .ok (.aload_n 0, 1) := by decide +kernel
theorem dL_schedule_497 : decode cL_schedule 497 = .ok (.bipush 10, 2) := by decide +kernel
theorem dL_schedule_499 : decode cL_schedule 499 = .ok (.invokevirtual 68, 3) := by decide +kernel
theorem dL_schedule_502 : decode cL_schedule 502 = .ok (.iload_n 3, 1) := by decide +kernel
theorem dL_schedule_503 : decode cL_schedule 503 = .ok (.if_icmp .ne 49, 3) := by decide +kernel
theorem dL_schedule_506 : decode cL_schedule 506 = .ok (.aload_n 0, 1) := by decide +kernel
theorem dL_schedule_507 : decode cL_schedule 507 = .ok (.bipush 9, 2) := by decide +kernel
theorem dL_schedule_509 : decode cL_schedule 509 = .ok (.invokevirtual 68, 3) := by decide +kernel
theorem dL_schedule_512 : decode cL_schedule 512 = .ok (.iload 6, 2) := by decide +kernel
theorem dL_schedule_514 : decode cL_schedule 514 = .ok (.if_icmp .ne 38, 3) := by decide +kernel
theorem dL_schedule_517 : decode cL_schedule 517 = .ok (.aload_n 0, 1) := by decide +kernel
theorem dL_schedule_518 : decode cL_schedule 518 = .ok (.bipush 8, 2) := by decide +kernel
theorem dL_schedule_520 : decode cL_schedule 520 = .ok (.invokevirtual 68, 3) := by decide +kernel
theorem dL_schedule_523 : decode cL_schedule 523 = .ok (.iload 5, 2) := by decide +kernel
theorem dL_schedule_525 : decode cL_schedule 525 = .ok (.ifCond .eq 8, 3) := by decide +kernel
theorem dL_schedule_528 : decode cL_schedule 528 = .ok (.bipush (-6), 2) := by decide +kernel
theorem dL_schedule_530 : decode cL_schedule 530 = .ok (.goto 4, 3) := by decide +kernel
theorem dL_schedule_533 : decode cL_schedule 533 = .ok (.iload_n 2, 1) := by decide +kernel
theorem dL_schedule_534 : decode cL_schedule 534 = .ok (.if_icmp .ne 18, 3) := by decide +kernel
theorem dL_schedule_537 : decode cL_schedule 537 = .ok (.iload 5, 2) := by decide +kernel
theorem dL_schedule_539 : decode cL_schedule 539 = .ok (.ifCond .ne 9, 3) := by decide +kernel
theorem dL_schedule_542 : decode cL_schedule 542 = .ok (.iload 6, 2) := by decide +kernel
theorem dL_schedule_544 : decode cL_schedule 544 = .ok (.iload_n 2, 1) := by decide +kernel
theorem dL_schedule_545 : decode cL_schedule 545 = .ok (.if_icmp .gt 7, 3) := by decide +kernel
theorem dL_schedule_548 : decode cL_schedule 548 = .ok (.iconst 1, 1) := by decide +kernel
theorem dL_schedule_549 : decode cL_schedule 549 = .ok (.goto 4, 3) := by decide +kernel
theorem dL_schedule_552 : decode cL_schedule 552 = .ok (.iconst 0, 1) := by decide +kernel
theorem dL_schedule_553 : decode cL_schedule 553 = .ok (.ireturn, 1) := by decide +kernel
theorem dL_used_0 : decode cL_used 0 = .ok (.iconst 0, 1) := by decide +kernel
theorem dL_used_1 : decode cL_used 1 = .ok (.istore_n 2, 1) := by decide +kernel
theorem dL_used_2 : decode cL_used 2 = .ok (.iconst 0, 1) := by decide +kernel
theorem dL_used_3 : decode cL_used 3 = .ok (.istore_n 3, 1) := by decide +kernel
theorem dL_used_4 : decode cL_used 4 = .ok (.iload_n 3, 1) := by decide +kernel
theorem dL_used_5 : decode cL_used 5 = .ok (.aload_n 0, 1) := by decide +kernel
theorem dL_used_6 : decode cL_used 6 = .ok (.iconst 2, 1) := by decide +kernel
theorem dL_used_7 : decode cL_used 7 = .ok (.invokevirtual 68, 3) := by decide +kernel
theorem dL_used_10 : decode cL_used 10 = .ok (.if_icmp .ge 76, 3) := by decide +kernel
theorem dL_used_13 : decode cL_used 13 = .ok (.iconst 0, 1) := by decide +kernel
theorem dL_used_14 : decode cL_used 14 = .ok (.istore 4, 2) := by decide +kernel
theorem dL_used_16 : decode cL_used 16 = .ok (.iload 4, 2) := by decide +kernel
theorem dL_used_18 : decode cL_used 18 = .ok (.aload_n 0, 1) := by decide +kernel
theorem dL_used_19 : decode cL_used 19 = .ok (.iload_n 3, 1) := by decide +kernel
theorem dL_used_20 : decode cL_used 20 = .ok (.iconst 1, 1) := by decide +kernel
theorem dL_used_21 : decode cL_used 21 = .ok (.invokevirtual 90, 3) := by decide +kernel
theorem dL_used_24 : decode cL_used 24 = .ok (.if_icmp .ge 56, 3) := by decide +kernel
theorem dL_used_27 : decode cL_used 27 = .ok (.aload_n 0, 1) := by decide +kernel
theorem dL_used_28 : decode cL_used 28 = .ok (.iload_n 3, 1) := by decide +kernel
theorem dL_used_29 : decode cL_used 29 = .ok (.iload 4, 2) := by decide +kernel
theorem dL_used_31 : decode cL_used 31 = .ok (.iconst 5, 1) := by decide +kernel
theorem dL_used_32 : decode cL_used 32 = .ok (.invokevirtual 93, 3) := by decide +kernel
theorem dL_used_35 : decode cL_used 35 = .ok (.istore 5, 2) := by decide +kernel
theorem dL_used_37 : decode cL_used 37 = .ok (.iload 5, 2) := by decide +kernel
theorem dL_used_39 : decode cL_used 39 = .ok (.ifCond .lt 35, 3) := by decide +kernel
theorem dL_used_42 : decode cL_used 42 = .ok (.iload 5, 2) := by decide +kernel
theorem dL_used_44 : decode cL_used 44 = .ok (.iload_n 1, 1) := by decide +kernel
theorem dL_used_45 : decode cL_used 45 = .ok (.if_icmp .gt 29, 3) := by decide +kernel
theorem dL_used_48 : decode cL_used 48 = .ok (.iload_n 1, 1) := by decide +kernel
theorem dL_used_49 : decode cL_used 49 = .ok (.iload 5, 2) := by decide +kernel
theorem dL_used_51 : decode cL_used 51 = .ok (.aload_n 0, 1) := by decide +kernel
theorem dL_used_52 : decode cL_used 52 = .ok (.iload_n 3, 1) := by decide +kernel
theorem dL_used_53 : decode cL_used 53 = .ok (.iload 4, 2) := by decide +kernel
theorem dL_used_55 : decode cL_used 55 = .ok (.iconst 0, 1) := by decide +kernel
theorem dL_used_56 : decode cL_used 56 = .ok (.invokevirtual 93, 3) := by decide +kernel
theorem dL_used_59 : decode cL_used 59 = .ok (.iadd, 1) := by decide +kernel
theorem dL_used_60 : decode cL_used 60 = .ok (.if_icmp .ge 14, 3) := by decide +kernel
theorem dL_used_63 : decode cL_used 63 = .ok (.iload_n 2, 1) := by decide +kernel
theorem dL_used_64 : decode cL_used 64 = .ok (.aload_n 0, 1) := by decide +kernel
theorem dL_used_65 : decode cL_used 65 = .ok (.iload_n 3, 1) := by decide +kernel
theorem dL_used_66 : decode cL_used 66 = .ok (.iload 4, 2) := by decide +kernel
theorem dL_used_68 : decode cL_used 68 = .ok (.iconst 1, 1) := by decide +kernel
theorem dL_used_69 : decode cL_used 69 = .ok (.invokevirtual 93, 3) := by decide +kernel
theorem dL_used_72 : decode cL_used 72 = .ok (.iadd, 1) := by decide +kernel
theorem dL_used_73 : decode cL_used 73 = .ok (.istore_n 2, 1) := by decide +kernel
theorem dL_used_74 : decode cL_used 74 = .ok (.iinc 4 1, 3) := by decide +kernel
theorem dL_used_77 : decode cL_used 77 = .ok (.goto (-61), 3) := by decide +kernel
theorem dL_used_80 : decode cL_used 80 = .ok (.iinc 3 1, 3) := by decide +kernel
theorem dL_used_83 : decode cL_used 83 = .ok (.goto (-79), 3) := by decide +kernel
theorem dL_used_86 : decode cL_used 86 = .ok (.iload_n 2, 1) := by decide +kernel
theorem dL_used_87 : decode cL_used 87 = .ok (.ireturn, 1) := by decide +kernel
theorem dL_best_0 : decode cL_best 0 = .ok (.iload_n 1, 1) := by decide +kernel
theorem dL_best_1 : decode cL_best 1 = .ok (.aload_n 0, 1) := by decide +kernel
theorem dL_best_2 : decode cL_best 2 = .ok (.iconst 2, 1) := by decide +kernel
theorem dL_best_3 : decode cL_best 3 = .ok (.invokevirtual 68, 3) := by decide +kernel
theorem dL_best_6 : decode cL_best 6 = .ok (.invokestatic 22, 3) := by decide +kernel
theorem dL_best_9 : decode cL_best 9 = .ok (.istore_n 2, 1) := by decide +kernel
theorem dL_best_10 : decode cL_best 10 = .ok (.iconst 1, 1) := by decide +kernel
theorem dL_best_11 : decode cL_best 11 = .ok (.iload_n 1, 1) := by decide +kernel
theorem dL_best_12 : decode cL_best 12 = .ok (.iconst 3, 1) := by decide +kernel
theorem dL_best_13 : decode cL_best 13 = .ok (.ishr, 1) := by decide +kernel
theorem dL_best_14 : decode cL_best 14 = .ok (.bipush 20, 2) := by decide +kernel
theorem dL_best_16 : decode cL_best 16 = .ok (.invokestatic 22, 3) := by decide +kernel
theorem dL_best_19 : decode cL_best 19 = .ok (.iadd, 1) := by decide +kernel
theorem dL_best_20 : decode cL_best 20 = .ok (.istore_n 3, 1) := by decide +kernel
theorem dL_best_21 : decode cL_best 21 = .ok (.iload_n 3, 1) := by decide +kernel
theorem dL_best_22 : decode cL_best 22 = .ok (.iload_n 1, 1) := by decide +kernel
theorem dL_best_23 : decode cL_best 23 = .ok (.bipush 6, 2) := by decide +kernel
theorem dL_best_25 : decode cL_best 25 = .ok (.ishr, 1) := by decide +kernel
theorem dL_best_26 : decode cL_best 26 = .ok (.bipush 21, 2) := by decide +kernel
theorem dL_best_28 : decode cL_best 28 = .ok (.iload_n 3, 1) := by decide +kernel
theorem dL_best_29 : decode cL_best 29 = .ok (.isub, 1) := by decide +kernel
theorem dL_best_30 : decode cL_best 30 = .ok (.invokestatic 22, 3) := by decide +kernel
theorem dL_best_33 : decode cL_best 33 = .ok (.iadd, 1) := by decide +kernel
theorem dL_best_34 : decode cL_best 34 = .ok (.istore 4, 2) := by decide +kernel
theorem dL_best_36 : decode cL_best 36 = .ok (.aload_n 0, 1) := by decide +kernel
theorem dL_best_37 : decode cL_best 37 = .ok (.iload_n 2, 1) := by decide +kernel
theorem dL_best_38 : decode cL_best 38 = .ok (.iload_n 3, 1) := by decide +kernel
theorem dL_best_39 : decode cL_best 39 = .ok (.iload 4, 2) := by decide +kernel
theorem dL_best_41 : decode cL_best 41 = .ok (.invokevirtual 145, 3) := by decide +kernel
theorem dL_best_44 : decode cL_best 44 = .ok (.istore 5, 2) := by decide +kernel
theorem dL_best_46 : decode cL_best 46 = .ok (.aload_n 0, 1) := by decide +kernel
theorem dL_best_47 : decode cL_best 47 = .ok (.iload_n 2, 1) := by decide +kernel
theorem dL_best_48 : decode cL_best 48 = .ok (.iconst 2, 1) := by decide +kernel
theorem dL_best_49 : decode cL_best 49 = .ok (.invokevirtual 90, 3) := by decide +kernel
theorem dL_best_52 : decode cL_best 52 = .ok (.istore 6, 2) := by decide +kernel
theorem dL_best_54 : decode cL_best 54 = .ok (.iconst (-1), 1) := by decide +kernel
theorem dL_best_55 : decode cL_best 55 = .ok (.istore 7, 2) := by decide +kernel
theorem dL_best_57 : decode cL_best 57 = .ok (.iload 5, 2) := by decide +kernel
theorem dL_best_59 : decode cL_best 59 = .ok (.ifCond .lt 43, 3) := by decide +kernel
theorem dL_best_62 : decode cL_best 62 = .ok (.aload_n 0, 1) := by decide +kernel
theorem dL_best_63 : decode cL_best 63 = .ok (.iload_n 2, 1) := by decide +kernel
theorem dL_best_64 : decode cL_best 64 = .ok (.iload 5, 2) := by decide +kernel
theorem dL_best_66 : decode cL_best 66 = .ok (.invokevirtual 115, 3) := by decide +kernel
theorem dL_best_69 : decode cL_best 69 = .ok (.pop, 1) := by decide +kernel
theorem dL_best_70 : decode cL_best 70 = .ok (.aload_n 0, 1) := by decide +kernel
theorem dL_best_71 : decode cL_best 71 = .ok (.bipush 7, 2) := by decide +kernel
theorem dL_best_73 : decode cL_best 73 = .ok (.invokevirtual 68, 3) := by decide +kernel
theorem dL_best_76 : decode cL_best 76 = .ok (.iconst 1, 1) := by decide +kernel
theorem dL_best_77 : decode cL_best 77 = .ok (.if_icmp .ne 16, 3) := by decide +kernel
theorem dL_best_80 : decode cL_best 80 = .ok (.iload 5, 2) := by decide +kernel
theorem dL_best_82 : decode cL_best 82 = .ok (.iload_n 3, 1) := by decide +kernel
theorem dL_best_83 : decode cL_best 83 = .ok (.if_icmp .lt 10, 3) := by decide +kernel
theorem dL_best_86 : decode cL_best 86 = .ok (.iload 5, 2) := by decide +kernel
theorem dL_best_88 : decode cL_best 88 = .ok (.iload 4, 2) := by decide +kernel
theorem dL_best_90 : decode cL_best 90 = .ok (.if_icmp .le 5, 3) := by decide +kernel
theorem dL_best_93 : decode cL_best 93 = .ok (.iconst 0, 1) := by decide +kernel
theorem dL_best_94 : decode cL_best 94 = .ok (.ireturn, 1) := by decide +kernel
theorem dL_best_95 : decode cL_best 95 = .ok (.aload_n 0, 1) := by decide +kernel
theorem dL_best_96 : decode cL_best 96 = .ok (.iconst 5, 1) := by decide +kernel
theorem dL_best_97 : decode cL_best 97 = .ok (.invokevirtual 68, 3) := by decide +kernel
theorem dL_best_100 : decode cL_best 100 = .ok (.istore 7, 2) := by decide +kernel
theorem dL_best_102 : decode cL_best 102 = .ok (.iload_n 3, 1) := by decide +kernel
theorem dL_best_103 : decode cL_best 103 = .ok (.istore 8, 2) := by decide +kernel
theorem dL_best_105 : decode cL_best 105 = .ok (.iload 8, 2) := by decide +kernel
theorem dL_best_107 : decode cL_best 107 = .ok (.iload 4, 2) := by decide +kernel
theorem dL_best_109 : decode cL_best 109 = .ok (.if_icmp .gt 61, 3) := by decide +kernel
theorem dL_best_112 : decode cL_best 112 = .ok (.aload_n 0, 1) := by decide +kernel
theorem dL_best_113 : decode cL_best 113 = .ok (.iload_n 2, 1) := by decide +kernel
theorem dL_best_114 : decode cL_best 114 = .ok (.iload 8, 2) := by decide +kernel
theorem dL_best_116 : decode cL_best 116 = .ok (.invokevirtual 115, 3) := by decide +kernel
theorem dL_best_119 : decode cL_best 119 = .ok (.pop, 1) := by decide +kernel
theorem dL_best_120 : decode cL_best 120 = .ok (.aload_n 0, 1) := by decide +kernel
theorem dL_best_121 : decode cL_best 121 = .ok (.bipush 7, 2) := by decide +kernel
theorem dL_best_123 : decode cL_best 123 = .ok (.invokevirtual 68, 3) := by decide +kernel
theorem dL_best_126 : decode cL_best 126 = .ok (.iconst 1, 1) := by decide +kernel
theorem dL_best_127 : decode cL_best 127 = .ok (.if_icmp .ne 37, 3) := by decide +kernel
theorem dL_best_130 : decode cL_best 130 = .ok (.iload 5, 2) := by decide +kernel
theorem dL_best_132 : decode cL_best 132 = .ok (.ifCond .lt 30, 3) := by decide +kernel
theorem dL_best_135 : decode cL_best 135 = .ok (.aload_n 0, 1) := by decide +kernel
theorem dL_best_136 : decode cL_best 136 = .ok (.iconst 5, 1) := by decide +kernel
theorem dL_best_137 : decode cL_best 137 = .ok (.invokevirtual 68, 3) := by decide +kernel
theorem dL_best_140 : decode cL_best 140 = .ok (.iload 7, 2) := by decide +kernel
theorem dL_best_142 : decode cL_best 142 = .ok (.if_icmp .lt 20, 3) := by decide +kernel
theorem dL_best_145 : decode cL_best 145 = .ok (.aload_n 0, 1) := by decide +kernel
theorem dL_best_146 : decode cL_best 146 = .ok (.iconst 5, 1) := by decide +kernel
theorem dL_best_147 : decode cL_best 147 = .ok (.invokevirtual 68, 3) := by decide +kernel
theorem dL_best_150 : decode cL_best 150 = .ok (.iload 7, 2) := by decide +kernel
theorem dL_best_152 : decode cL_best 152 = .ok (.if_icmp .ne 12, 3) := by decide +kernel
theorem dL_best_155 : decode cL_best 155 = .ok (.iload 8, 2) := by decide +kernel
theorem dL_best_157 : decode cL_best 157 = .ok (.iload 5, 2) := by decide +kernel
theorem dL_best_159 : decode cL_best 159 = .ok (.if_icmp .le 5, 3) := by decide +kernel
theorem dL_best_162 : decode cL_best 162 = .ok (.iconst 0, 1) := by decide +kernel
theorem dL_best_163 : decode cL_best 163 = .ok (.ireturn, 1) := by decide +kernel
theorem dL_best_164 : decode cL_best 164 = .ok (.iinc 8 1, 3) := by decide +kernel
theorem dL_best_167 : decode cL_best 167 = .ok (.goto (-62), 3) := by decide +kernel
theorem dL_best_170 : decode cL_best 170 = .ok (.aload_n 0, 1) := by decide +kernel
theorem dL_best_171 : decode cL_best 171 = .ok (.iload_n 2, 1) := by decide +kernel
theorem dL_best_172 : decode cL_best 172 = .ok (.iload 6, 2) := by decide +kernel
theorem dL_best_174 : decode cL_best 174 = .ok (.invokevirtual 115, 3) := by decide +kernel
theorem dL_best_177 : decode cL_best 177 = .ok (.iload 4, 2) := by decide +kernel
theorem dL_best_179 : decode cL_best 179 = .ok (.if_icmp .ne 7, 3) := by decide +kernel
theorem dL_best_182 : decode cL_best 182 = .ok (.iconst 1, 1) := by decide +kernel
theorem dL_best_183 : decode cL_best 183 = .ok (.goto 4, 3) := by decide +kernel
theorem dL_best_186 : decode cL_best 186 = .ok (.iconst 0, 1) := by decide +kernel
theorem dL_best_187 : decode cL_best 187 = .ok (.ireturn, 1) := by decide +kernel
theorem dL_back_0 : decode cL_back 0 = .ok (.aload_n 0, 1) := by decide +kernel
theorem dL_back_1 : decode cL_back 1 = .ok (.iconst 1, 1) := by decide +kernel
theorem dL_back_2 : decode cL_back 2 = .ok (.invokevirtual 148, 3) := by decide +kernel
theorem dL_back_5 : decode cL_back 5 = .ok (.istore_n 2, 1) := by decide +kernel
theorem dL_back_6 : decode cL_back 6 = .ok (.aload_n 0, 1) := by decide +kernel
theorem dL_back_7 : decode cL_back 7 = .ok (.iconst 4, 1) := by decide +kernel
theorem dL_back_8 : decode cL_back 8 = .ok (.invokevirtual 68, 3) := by decide +kernel
theorem dL_back_11 : decode cL_back 11 = .ok (.istore_n 3, 1) := by decide +kernel
theorem dL_back_12 : decode cL_back 12 = .ok (.aload_n 0, 1) := by decide +kernel
theorem dL_back_13 : decode cL_back 13 = .ok (.bipush 8, 2) := by decide +kernel
theorem dL_back_15 : decode cL_back 15 = .ok (.invokevirtual 68, 3) := by decide +kernel
theorem dL_back_18 : decode cL_back 18 = .ok (.istore 4, 2) := by decide +kernel
theorem dL_back_20 : decode cL_back 20 = .ok (.aload_n 0, 1) := by decide +kernel
theorem dL_back_21 : decode cL_back 21 = .ok (.iconst 0, 1) := by decide +kernel
theorem dL_back_22 : decode cL_back 22 = .ok (.iconst 5, 1) := by decide +kernel
theorem dL_back_23 : decode cL_back 23 = .ok (.invokevirtual 96, 3) := by decide +kernel
theorem dL_back_26 : decode cL_back 26 = .ok (.istore 5, 2) := by decide +kernel
theorem dL_back_28 : decode cL_back 28 = .ok (.aload_n 0, 1) := by decide +kernel
theorem dL_back_29 : decode cL_back 29 = .ok (.iconst 0, 1) := by decide +kernel
theorem dL_back_30 : decode cL_back 30 = .ok (.bipush 6, 2) := by decide +kernel
theorem dL_back_32 : decode cL_back 32 = .ok (.invokevirtual 96, 3) := by decide +kernel
theorem dL_back_35 : decode cL_back 35 = .ok (.istore 6, 2) := by decide +kernel
theorem dL_back_37 : decode cL_back 37 = .ok (.aload_n 0, 1) := by decide +kernel
theorem dL_back_38 : decode cL_back 38 = .ok (.bipush 11, 2) := by decide +kernel
theorem dL_back_40 : decode cL_back 40 = .ok (.invokevirtual 68, 3) := by decide +kernel
theorem dL_back_43 : decode cL_back 43 = .ok (.istore 7, 2) := by decide +kernel
theorem dL_back_45 : decode cL_back 45 = .ok (.aload_n 0, 1) := by decide +kernel
theorem dL_back_46 : decode cL_back 46 = .ok (.iconst 0, 1) := by decide +kernel
theorem dL_back_47 : decode cL_back 47 = .ok (.iconst 2, 1) := by decide +kernel
theorem dL_back_48 : decode cL_back 48 = .ok (.invokevirtual 90, 3) := by decide +kernel
theorem dL_back_51 : decode cL_back 51 = .ok (.istore 8, 2) := by decide +kernel
theorem dL_back_53 : decode cL_back 53 = .ok (.iconst 0, 1) := by decide +kernel
theorem dL_back_54 : decode cL_back 54 = .ok (.istore 9, 2) := by decide +kernel
theorem dL_back_56 : decode cL_back 56 = .ok (.aload_n 0, 1) := by decide +kernel
theorem dL_back_57 : decode cL_back 57 = .ok (.iconst 0, 1) := by decide +kernel
theorem dL_back_58 : decode cL_back 58 = .ok (.iconst 1, 1) := by decide +kernel
theorem dL_back_59 : decode cL_back 59 = .ok (.iload_n 1, 1) := by decide +kernel
theorem dL_back_60 : decode cL_back 60 = .ok (.bipush 99, 2) := by decide +kernel
theorem dL_back_62 : decode cL_back 62 = .ok (.invokestatic 22, 3) := by decide +kernel
theorem dL_back_65 : decode cL_back 65 = .ok (.iadd, 1) := by decide +kernel
theorem dL_back_66 : decode cL_back 66 = .ok (.invokevirtual 99, 3) := by decide +kernel
theorem dL_back_69 : decode cL_back 69 = .ok (.ifCond .lt 6, 3) := by decide +kernel
theorem dL_back_72 : decode cL_back 72 = .ok (.iinc 9 1, 3) := by decide +kernel
theorem dL_back_75 : decode cL_back 75 = .ok (.aload_n 0, 1) := by decide +kernel
theorem dL_back_76 : decode cL_back 76 = .ok (.iconst 0, 1) := by decide +kernel
theorem dL_back_77 : decode cL_back 77 = .ok (.iload_n 1, 1) := by decide +kernel
theorem dL_back_78 : decode cL_back 78 = .ok (.iconst 3, 1) := by decide +kernel
theorem dL_back_79 : decode cL_back 79 = .ok (.ishr, 1) := by decide +kernel
theorem dL_back_80 : decode cL_back 80 = .ok (.bipush 21, 2) := by decide +kernel
theorem dL_back_82 : decode cL_back 82 = .ok (.invokestatic 22, 3) := by decide +kernel
theorem dL_back_85 : decode cL_back 85 = .ok (.invokevirtual 115, 3) := by decide +kernel
theorem dL_back_88 : decode cL_back 88 = .ok (.ifCond .lt 6, 3) := by decide +kernel
theorem dL_back_91 : decode cL_back 91 = .ok (.iinc 9 1, 3) := by decide +kernel
theorem dL_back_94 : decode cL_back 94 = .ok (.aload_n 0, 1) := by decide +kernel
theorem dL_back_95 : decode cL_back 95 = .ok (.invokevirtual 120, 3) := by decide +kernel
theorem dL_back_98 : decode cL_back 98 = .ok (.ifCond .lt 6, 3) := by decide +kernel
theorem dL_back_101 : decode cL_back 101 = .ok (.iinc 9 1, 3) := by decide +kernel
theorem dL_back_104 : decode cL_back 104 = .ok (.aload_n 0, 1) := by decide +kernel
theorem dL_back_105 : decode cL_back 105 = .ok (.iconst 1, 1) := by decide +kernel
theorem dL_back_106 : decode cL_back 106 = .ok (.iload_n 1, 1) := by decide +kernel
theorem dL_back_107 : decode cL_back 107 = .ok (.iconst 5, 1) := by decide +kernel
theorem dL_back_108 : decode cL_back 108 = .ok (.ishr, 1) := by decide +kernel
theorem dL_back_109 : decode cL_back 109 = .ok (.bipush 9, 2) := by decide +kernel
theorem dL_back_111 : decode cL_back 111 = .ok (.invokestatic 22, 3) := by decide +kernel
theorem dL_back_114 : decode cL_back 114 = .ok (.iadd, 1) := by decide +kernel
theorem dL_back_115 : decode cL_back 115 = .ok (.invokevirtual 106, 3) := by decide +kernel
theorem dL_back_118 : decode cL_back 118 = .ok (.ifCond .lt 6, 3) := by decide +kernel
theorem dL_back_121 : decode cL_back 121 = .ok (.iinc 9 1, 3) := by decide +kernel
theorem dL_back_124 : decode cL_back 124 = .ok (.aload_n 0, 1) := by decide +kernel
theorem dL_back_125 : decode cL_back 125 = .ok (.iconst 1, 1) := by decide +kernel
theorem dL_back_126 : decode cL_back 126 = .ok (.iload_n 1, 1) := by decide +kernel
theorem dL_back_127 : decode cL_back 127 = .ok (.bipush 7, 2) := by decide +kernel
theorem dL_back_129 : decode cL_back 129 = .ok (.ishr, 1) := by decide +kernel
theorem dL_back_130 : decode cL_back 130 = .ok (.bipush 6, 2) := by decide +kernel
theorem dL_back_132 : decode cL_back 132 = .ok (.invokestatic 22, 3) := by decide +kernel
theorem dL_back_135 : decode cL_back 135 = .ok (.iadd, 1) := by decide +kernel
theorem dL_back_136 : decode cL_back 136 = .ok (.invokevirtual 132, 3) := by decide +kernel
theorem dL_back_139 : decode cL_back 139 = .ok (.ifCond .lt 6, 3) := by decide +kernel
theorem dL_back_142 : decode cL_back 142 = .ok (.iinc 9 1, 3) := by decide +kernel
theorem dL_back_145 : decode cL_back 145 = .ok (.aload_n 0, 1) := by decide +kernel
theorem dL_back_146 : decode cL_back 146 = .ok (.bipush 14, 2) := by decide +kernel
theorem dL_back_148 : decode cL_back 148 = .ok (.invokevirtual 68, 3) := by decide +kernel
theorem dL_back_151 : decode cL_back 151 = .ok (.istore 10, 2) := by decide +kernel
theorem dL_back_153 : decode cL_back 153 = .ok (.iconst 1, 1) := by decide +kernel
theorem dL_back_154 : decode cL_back 154 = .ok (.istore 11, 2) := by decide +kernel
theorem dL_back_156 : decode cL_back 156 = .ok (.iload 11, 2) := by decide +kernel
theorem dL_back_158 : decode cL_back 158 = .ok (.iload 9, 2) := by decide +kernel
theorem dL_back_160 : decode cL_back 160 = .ok (.if_icmp .gt 23, 3) := by decide +kernel
theorem dL_back_163 : decode cL_back 163 = .ok (.aload_n 0, 1) := by decide +kernel
theorem dL_back_164 : decode cL_back 164 = .ok (.invokevirtual 151, 3) := by decide +kernel
theorem dL_back_167 : decode cL_back 167 = .ok (.iload 10, 2) := by decide +kernel
theorem dL_back_169 : decode cL_back 169 = .ok (.iload 11, 2) := by decide +kernel
theorem dL_back_171 : decode cL_back 171 = .ok (.isub, 1) := by decide +kernel
theorem dL_back_172 : decode cL_back 172 = .ok (.if_icmp .eq 5, 3) := by decide +kernel
theorem dL_back_175 : decode cL_back 175 = .ok (.iconst 0, 1) := by decide +kernel
theorem dL_back_176 : decode cL_back 176 = .ok (.ireturn, 1) := by decide +kernel
theorem dL_back_177 : decode cL_back 177 = .ok (.iinc 11 1, 3) := by decide +kernel
theorem dL_back_180 : decode cL_back 180 = .ok (.goto (-24), 3) := by decide +kernel
theorem dL_back_183 : decode cL_back 183 = .ok (.aload_n 0, 1) := by decide +kernel
theorem dL_back_184 : decode cL_back 184 = .ok (.iconst 0, 1) := by decide +kernel
theorem dL_back_185 : decode cL_back 185 = .ok (.invokevirtual 68, 3) := by decide +kernel
theorem dL_back_188 : decode cL_back 188 = .ok (.iload_n 2, 1) := by decide +kernel
theorem dL_back_189 : decode cL_back 189 = .ok (.if_icmp .ne 68, 3) := by decide +kernel
theorem dL_back_192 : decode cL_back 192 = .ok (.aload_n 0, 1) := by decide +kernel
theorem dL_back_193 : decode cL_back 193 = .ok (.iconst 4, 1) := by decide +kernel
theorem dL_back_194 : decode cL_back 194 = .ok (.invokevirtual 68, 3) := by decide +kernel
theorem dL_back_197 : decode cL_back 197 = .ok (.iload_n 3, 1) := by decide +kernel
theorem dL_back_198 : decode cL_back 198 = .ok (.if_icmp .ne 59, 3) := by decide +kernel
theorem dL_back_201 : decode cL_back 201 = .ok (.aload_n 0, 1) := by decide +kernel
theorem dL_back_202 : decode cL_back 202 = .ok (.bipush 8, 2) := by decide +kernel
theorem dL_back_204 : decode cL_back 204 = .ok (.invokevirtual 68, 3) := by decide +kernel
theorem dL_back_207 : decode cL_back 207 = .ok (.iload 4, 2) := by decide +kernel
theorem dL_back_209 : decode cL_back 209 = .ok (.if_icmp .ne 48, 3) := by decide +kernel
theorem dL_back_212 : decode cL_back 212 = .ok (.aload_n 0, 1) := by decide +kernel
theorem dL_back_213 : decode cL_back 213 = .ok (.iconst 0, 1) := by decide +kernel
theorem dL_back_214 : decode cL_back 214 = .ok (.iconst 5, 1) := by decide +kernel
theorem dL_back_215 : decode cL_back 215 = .ok (.invokevirtual 96, 3) := by decide +kernel
theorem dL_back_218 : decode cL_back 218 = .ok (.iload 5, 2) := by decide +kernel
theorem dL_back_220 : decode cL_back 220 = .ok (.if_icmp .ne 37, 3) := by decide +kernel
theorem dL_back_223 : decode cL_back 223 = .ok (.aload_n 0, 1) := by decide +kernel
theorem dL_back_224 : decode cL_back 224 = .ok (.iconst 0, 1) := by decide +kernel
theorem dL_back_225 : decode cL_back 225 = .ok (.bipush 6, 2) := by decide +kernel
theorem dL_back_227 : decode cL_back 227 = .ok (.invokevirtual 96, 3) := by decide +kernel
theorem dL_back_230 : decode cL_back 230 = .ok (.iload 6, 2) := by decide +kernel
theorem dL_back_232 : decode cL_back 232 = .ok (.if_icmp .ne 25, 3) := by decide +kernel
theorem dL_back_235 : decode cL_back 235 = .ok (.aload_n 0, 1) := by decide +kernel
theorem dL_back_236 : decode cL_back 236 = .ok (.bipush 11, 2) := by decide +kernel
theorem dL_back_238 : decode cL_back 238 = .ok (.invokevirtual 68, 3) := by decide +kernel
theorem dL_back_241 : decode cL_back 241 = .ok (.iload 7, 2) := by decide +kernel
theorem dL_back_243 : decode cL_back 243 = .ok (.if_icmp .ne 14, 3) := by decide +kernel
theorem dL_back_246 : decode cL_back 246 = .ok (.aload_n 0, 1) := by decide +kernel
theorem dL_back_247 : decode cL_back 247 = .ok (.iconst 0, 1) := by decide +kernel
theorem dL_back_248 : decode cL_back 248 = .ok (.iconst 2, 1) := by decide +kernel
theorem dL_back_249 : decode cL_back 249 = .ok (.invokevirtual 90, 3) := by decide +kernel
theorem dL_back_252 : decode cL_back 252 = .ok (.iload 8, 2) := by decide +kernel
theorem dL_back_254 : decode cL_back 254 = .ok (.if_icmp .eq 5, 3) := by decide +kernel
theorem dL_back_257 : decode cL_back 257 = .ok (.iconst 0, 1) := by decide +kernel
theorem dL_back_258 : decode cL_back 258 = .ok (.ireturn, 1) := by decide +kernel
theorem dL_back_259 : decode cL_back 259 = .ok (.aload_n 0, 1) := by decide +kernel
theorem dL_back_260 : decode cL_back 260 = .ok (.invokevirtual 120, 3) := by decide +kernel
theorem dL_back_263 : decode cL_back 263 = .ok (.pop, 1) := by decide +kernel
theorem dL_back_264 : decode cL_back 264 = .ok (.aload_n 0, 1) := by decide +kernel
theorem dL_back_265 : decode cL_back 265 = .ok (.bipush 20, 2) := by decide +kernel
theorem dL_back_267 : decode cL_back 267 = .ok (.invokevirtual 106, 3) := by decide +kernel
theorem dL_back_270 : decode cL_back 270 = .ok (.pop, 1) := by decide +kernel
theorem dL_back_271 : decode cL_back 271 = .ok (.aload_n 0, 1) := by decide +kernel
theorem dL_back_272 : decode cL_back 272 = .ok (.iconst 0, 1) := by decide +kernel
theorem dL_back_273 : decode cL_back 273 = .ok (.iconst 0, 1) := by decide +kernel
theorem dL_back_274 : decode cL_back 274 = .ok (.bipush 77, 2) := by decide +kernel
theorem dL_back_276 : decode cL_back 276 = .ok (.invokevirtual 109, 3) := by decide +kernel
theorem dL_back_279 : decode cL_back 279 = .ok (.pop, 1) := by decide +kernel
theorem dL_back_280 : decode cL_back 280 = .ok (.aload_n 0, 1) := by decide +kernel
theorem dL_back_281 : decode cL_back 281 = .ok (.iconst 1, 1) := by decide +kernel
theorem dL_back_282 : decode cL_back 282 = .ok (.invokevirtual 154, 3) := by decide +kernel
theorem dL_back_285 : decode cL_back 285 = .ok (.iload_n 2, 1) := by decide +kernel
theorem dL_back_286 : decode cL_back 286 = .ok (.if_icmp .ne 58, 3) := by decide +kernel
theorem dL_back_289 : decode cL_back 289 = .ok (.aload_n 0, 1) := by decide +kernel
theorem dL_back_290 : decode cL_back 290 = .ok (.iconst 0, 1) := by decide +kernel
theorem dL_back_291 : decode cL_back 291 = .ok (.invokevirtual 68, 3) := by decide +kernel
theorem dL_back_294 : decode cL_back 294 = .ok (.iload_n 2, 1) := by decide +kernel
theorem dL_back_295 : decode cL_back 295 = .ok (.if_icmp .ne 49, 3) := by decide +kernel
theorem dL_back_298 : decode cL_back 298 = .ok (.aload_n 0, 1) := by decide +kernel
theorem dL_back_299 : decode cL_back 299 = .ok (.iconst 4, 1) := by decide +kernel
theorem dL_back_300 : decode cL_back 300 = .ok (.invokevirtual 68, 3) := by decide +kernel
theorem dL_back_303 : decode cL_back 303 = .ok (.iload_n 3, 1) := by decide +kernel
theorem dL_back_304 : decode cL_back 304 = .ok (.if_icmp .ne 40, 3) := by decide +kernel
theorem dL_back_307 : decode cL_back 307 = .ok (.aload_n 0, 1) := by decide +kernel
theorem dL_back_308 : decode cL_back 308 = .ok (.iconst 0, 1) := by decide +kernel
theorem dL_back_309 : decode cL_back 309 = .ok (.iconst 5, 1) := by decide +kernel
theorem dL_back_310 : decode cL_back 310 = .ok (.invokevirtual 96, 3) := by decide +kernel
theorem dL_back_313 : decode cL_back 313 = .ok (.iload 5, 2) := by decide +kernel
theorem dL_back_315 : decode cL_back 315 = .ok (.if_icmp .ne 29, 3) := by decide +kernel
theorem dL_back_318 : decode cL_back 318 = .ok (.aload_n 0, 1) := by decide +kernel
theorem dL_back_319 : decode cL_back 319 = .ok (.bipush 11, 2) := by decide +kernel
theorem dL_back_321 : decode cL_back 321 = .ok (.invokevirtual 68, 3) := by decide +kernel
theorem dL_back_324 : decode cL_back 324 = .ok (.iload 7, 2) := by decide +kernel
theorem dL_back_326 : decode cL_back 326 = .ok (.if_icmp .ne 18, 3) := by decide +kernel
theorem dL_back_329 : decode cL_back 329 = .ok (.aload_n 0, 1) := by decide +kernel
theorem dL_back_330 : decode cL_back 330 = .ok (.iconst 0, 1) := by decide +kernel
theorem dL_back_331 : decode cL_back 331 = .ok (.iconst 2, 1) := by decide +kernel
theorem dL_back_332 : decode cL_back 332 = .ok (.invokevirtual 90, 3) := by decide +kernel
theorem dL_back_335 : decode cL_back 335 = .ok (.iload 8, 2) := by decide +kernel
theorem dL_back_337 : decode cL_back 337 = .ok (.if_icmp .ne 7, 3) := by decide +kernel
theorem dL_back_340 : decode cL_back 340 = .ok (.iconst 1, 1) := by decide +kernel
theorem dL_back_341 : decode cL_back 341 = .ok (.goto 4, 3) := by decide +kernel
theorem dL_back_344 : decode cL_back 344 = .ok (.iconst 0, 1) := by decide +kernel
theorem dL_back_345 : decode cL_back 345 = .ok (.ireturn, 1) := by decide +kernel
theorem dL_refused_0 : decode cL_refused 0 = .ok (.iload_n 1, 1) := by decide +kernel
theorem dL_refused_1 : decode cL_refused 1 = .ok (.ifCond .ge 15, 3) := by decide +kernel
theorem dL_refused_4 : decode cL_refused 4 = .ok (.bipush (-7), 2) := by decide +kernel
theorem dL_refused_6 : decode cL_refused 6 = .ok (.iload_n 1, 1) := by decide +kernel
theorem dL_refused_7 : decode cL_refused 7 = .ok (.ldc 157, 2) := by decide +kernel
theorem dL_refused_9 : decode cL_refused 9 = .ok (.invokestatic 22, 3) := by decide +kernel
theorem dL_refused_12 : decode cL_refused 12 = .ok (.isub, 1) := by decide +kernel
theorem dL_refused_13 : decode cL_refused 13 = .ok (.goto 11, 3) := by decide +kernel
theorem dL_refused_16 : decode cL_refused 16 = .ok (.iload_n 1, 1) := by decide +kernel
theorem dL_refused_17 : decode cL_refused 17 = .ok (.ldc 157, 2) := by decide +kernel
theorem dL_refused_19 : decode cL_refused 19 = .ok (.irem, 1) := by decide +kernel
theorem dL_refused_20 : decode cL_refused 20 = .ok (.sipush 20001, 3) := by decide +kernel
theorem dL_refused_23 : decode cL_refused 23 = .ok (.iadd, 1) := by decide +kernel
theorem dL_refused_24 : decode cL_refused 24 = .ok (.istore_n 2, 1) := by decide +kernel
theorem dL_refused_25 : decode cL_refused 25 = .ok (.aload_n 0, 1) := by decide +kernel
theorem dL_refused_26 : decode cL_refused 26 = .ok (.iload_n 2, 1) := by decide +kernel
theorem dL_refused_27 : decode cL_refused 27 = .ok (.invokevirtual 26, 3) := by decide +kernel
theorem dL_refused_30 : decode cL_refused 30 = .ok (.bipush (-2), 2) := by decide +kernel
theorem dL_refused_32 : decode cL_refused 32 = .ok (.if_icmp .ne 241, 3) := by decide +kernel
theorem dL_refused_35 : decode cL_refused 35 = .ok (.aload_n 0, 1) := by decide +kernel
theorem dL_refused_36 : decode cL_refused 36 = .ok (.iload_n 2, 1) := by decide +kernel
theorem dL_refused_37 : decode cL_refused 37 = .ok (.bipush 100, 2) := by decide +kernel
theorem dL_refused_39 : decode cL_refused 39 = .ok (.iconst 1, 1) := by decide +kernel
theorem dL_refused_40 : decode cL_refused 40 = .ok (.invokevirtual 30, 3) := by decide +kernel
theorem dL_refused_43 : decode cL_refused 43 = .ok (.iconst (-1), 1) := by decide +kernel
theorem dL_refused_44 : decode cL_refused 44 = .ok (.if_icmp .ne 229, 3) := by decide +kernel
theorem dL_refused_47 : decode cL_refused 47 = .ok (.aload_n 0, 1) := by decide +kernel
theorem dL_refused_48 : decode cL_refused 48 = .ok (.iload_n 2, 1) := by decide +kernel
theorem dL_refused_49 : decode cL_refused 49 = .ok (.iconst 1, 1) := by decide +kernel
theorem dL_refused_50 : decode cL_refused 50 = .ok (.invokevirtual 37, 3) := by decide +kernel
theorem dL_refused_53 : decode cL_refused 53 = .ok (.iconst (-1), 1) := by decide +kernel
theorem dL_refused_54 : decode cL_refused 54 = .ok (.if_icmp .ne 219, 3) := by decide +kernel
theorem dL_refused_57 : decode cL_refused 57 = .ok (.aload_n 0, 1) := by decide +kernel
theorem dL_refused_58 : decode cL_refused 58 = .ok (.iload_n 2, 1) := by decide +kernel
theorem dL_refused_59 : decode cL_refused 59 = .ok (.iconst 0, 1) := by decide +kernel
theorem dL_refused_60 : decode cL_refused 60 = .ok (.bipush 50, 2) := by decide +kernel
theorem dL_refused_62 : decode cL_refused 62 = .ok (.invokevirtual 34, 3) := by decide +kernel
theorem dL_refused_65 : decode cL_refused 65 = .ok (.iconst (-1), 1) := by decide +kernel
theorem dL_refused_66 : decode cL_refused 66 = .ok (.if_icmp .ne 207, 3) := by decide +kernel
theorem dL_refused_69 : decode cL_refused 69 = .ok (.aload_n 0, 1) := by decide +kernel
theorem dL_refused_70 : decode cL_refused 70 = .ok (.iload_n 2, 1) := by decide +kernel
theorem dL_refused_71 : decode cL_refused 71 = .ok (.iconst 1, 1) := by decide +kernel
theorem dL_refused_72 : decode cL_refused 72 = .ok (.invokevirtual 99, 3) := by decide +kernel
theorem dL_refused_75 : decode cL_refused 75 = .ok (.iconst (-1), 1) := by decide +kernel
theorem dL_refused_76 : decode cL_refused 76 = .ok (.if_icmp .ne 197, 3) := by decide +kernel
theorem dL_refused_79 : decode cL_refused 79 = .ok (.aload_n 0, 1) := by decide +kernel
theorem dL_refused_80 : decode cL_refused 80 = .ok (.invokevirtual 87, 3) := by decide +kernel
theorem dL_refused_83 : decode cL_refused 83 = .ok (.bipush (-3), 2) := by decide +kernel
theorem dL_refused_85 : decode cL_refused 85 = .ok (.if_icmp .ne 188, 3) := by decide +kernel
theorem dL_refused_88 : decode cL_refused 88 = .ok (.aload_n 0, 1) := by decide +kernel
theorem dL_refused_89 : decode cL_refused 89 = .ok (.iload_n 2, 1) := by decide +kernel
theorem dL_refused_90 : decode cL_refused 90 = .ok (.iconst 0, 1) := by decide +kernel
theorem dL_refused_91 : decode cL_refused 91 = .ok (.iconst 0, 1) := by decide +kernel
theorem dL_refused_92 : decode cL_refused 92 = .ok (.invokevirtual 109, 3) := by decide +kernel
theorem dL_refused_95 : decode cL_refused 95 = .ok (.iconst (-1), 1) := by decide +kernel
theorem dL_refused_96 : decode cL_refused 96 = .ok (.if_icmp .ne 177, 3) := by decide +kernel
theorem dL_refused_99 : decode cL_refused 99 = .ok (.aload_n 0, 1) := by decide +kernel
theorem dL_refused_100 : decode cL_refused 100 = .ok (.iload_n 2, 1) := by decide +kernel
theorem dL_refused_101 : decode cL_refused 101 = .ok (.iconst 1, 1) := by decide +kernel
theorem dL_refused_102 : decode cL_refused 102 = .ok (.invokevirtual 115, 3) := by decide +kernel
theorem dL_refused_105 : decode cL_refused 105 = .ok (.iconst (-1), 1) := by decide +kernel
theorem dL_refused_106 : decode cL_refused 106 = .ok (.if_icmp .ne 167, 3) := by decide +kernel
theorem dL_refused_109 : decode cL_refused 109 = .ok (.aload_n 0, 1) := by decide +kernel
theorem dL_refused_110 : decode cL_refused 110 = .ok (.iload_n 2, 1) := by decide +kernel
theorem dL_refused_111 : decode cL_refused 111 = .ok (.invokevirtual 132, 3) := by decide +kernel
theorem dL_refused_114 : decode cL_refused 114 = .ok (.bipush (-2), 2) := by decide +kernel
theorem dL_refused_116 : decode cL_refused 116 = .ok (.if_icmp .ne 157, 3) := by decide +kernel
theorem dL_refused_119 : decode cL_refused 119 = .ok (.aload_n 0, 1) := by decide +kernel
theorem dL_refused_120 : decode cL_refused 120 = .ok (.invokevirtual 120, 3) := by decide +kernel
theorem dL_refused_123 : decode cL_refused 123 = .ok (.bipush (-5), 2) := by decide +kernel
theorem dL_refused_125 : decode cL_refused 125 = .ok (.if_icmp .ne 148, 3) := by decide +kernel
theorem dL_refused_128 : decode cL_refused 128 = .ok (.aload_n 0, 1) := by decide +kernel
theorem dL_refused_129 : decode cL_refused 129 = .ok (.iload_n 2, 1) := by decide +kernel
theorem dL_refused_130 : decode cL_refused 130 = .ok (.invokevirtual 106, 3) := by decide +kernel
theorem dL_refused_133 : decode cL_refused 133 = .ok (.bipush (-2), 2) := by decide +kernel
theorem dL_refused_135 : decode cL_refused 135 = .ok (.if_icmp .ne 138, 3) := by decide +kernel
theorem dL_refused_138 : decode cL_refused 138 = .ok (.aload_n 0, 1) := by decide +kernel
theorem dL_refused_139 : decode cL_refused 139 = .ok (.iload_n 2, 1) := by decide +kernel
theorem dL_refused_140 : decode cL_refused 140 = .ok (.iconst 0, 1) := by decide +kernel
theorem dL_refused_141 : decode cL_refused 141 = .ok (.invokevirtual 96, 3) := by decide +kernel
theorem dL_refused_144 : decode cL_refused 144 = .ok (.iconst (-1), 1) := by decide +kernel
theorem dL_refused_145 : decode cL_refused 145 = .ok (.if_icmp .ne 128, 3) := by decide +kernel
theorem dL_refused_148 : decode cL_refused 148 = .ok (.aload_n 0, 1) := by decide +kernel
theorem dL_refused_149 : decode cL_refused 149 = .ok (.iload_n 2, 1) := by decide +kernel
theorem dL_refused_150 : decode cL_refused 150 = .ok (.iconst 0, 1) := by decide +kernel
theorem dL_refused_151 : decode cL_refused 151 = .ok (.iconst 0, 1) := by decide +kernel
theorem dL_refused_152 : decode cL_refused 152 = .ok (.invokevirtual 129, 3) := by decide +kernel
theorem dL_refused_155 : decode cL_refused 155 = .ok (.iconst (-1), 1) := by decide +kernel
theorem dL_refused_156 : decode cL_refused 156 = .ok (.if_icmp .ne 117, 3) := by decide +kernel
theorem dL_refused_159 : decode cL_refused 159 = .ok (.aload_n 0, 1) := by decide +kernel
theorem dL_refused_160 : decode cL_refused 160 = .ok (.iload_n 2, 1) := by decide +kernel
theorem dL_refused_161 : decode cL_refused 161 = .ok (.iconst 0, 1) := by decide +kernel
theorem dL_refused_162 : decode cL_refused 162 = .ok (.invokevirtual 118, 3) := by decide +kernel
theorem dL_refused_165 : decode cL_refused 165 = .ok (.iconst (-1), 1) := by decide +kernel
theorem dL_refused_166 : decode cL_refused 166 = .ok (.if_icmp .ne 107, 3) := by decide +kernel
theorem dL_refused_169 : decode cL_refused 169 = .ok (.aload_n 0, 1) := by decide +kernel
theorem dL_refused_170 : decode cL_refused 170 = .ok (.iload_n 2, 1) := by decide +kernel
theorem dL_refused_171 : decode cL_refused 171 = .ok (.iconst 0, 1) := by decide +kernel
theorem dL_refused_172 : decode cL_refused 172 = .ok (.iconst 0, 1) := by decide +kernel
theorem dL_refused_173 : decode cL_refused 173 = .ok (.invokevirtual 93, 3) := by decide +kernel
theorem dL_refused_176 : decode cL_refused 176 = .ok (.iconst (-1), 1) := by decide +kernel
theorem dL_refused_177 : decode cL_refused 177 = .ok (.if_icmp .ne 96, 3) := by decide +kernel
theorem dL_refused_180 : decode cL_refused 180 = .ok (.aload_n 0, 1) := by decide +kernel
theorem dL_refused_181 : decode cL_refused 181 = .ok (.iload_n 2, 1) := by decide +kernel
theorem dL_refused_182 : decode cL_refused 182 = .ok (.iconst 0, 1) := by decide +kernel
theorem dL_refused_183 : decode cL_refused 183 = .ok (.invokevirtual 90, 3) := by decide +kernel
theorem dL_refused_186 : decode cL_refused 186 = .ok (.iconst (-1), 1) := by decide +kernel
theorem dL_refused_187 : decode cL_refused 187 = .ok (.if_icmp .ne 86, 3) := by decide +kernel
theorem dL_refused_190 : decode cL_refused 190 = .ok (.aload_n 0, 1) := by decide +kernel
theorem dL_refused_191 : decode cL_refused 191 = .ok (.iload_n 2, 1) := by decide +kernel
theorem dL_refused_192 : decode cL_refused 192 = .ok (.invokevirtual 68, 3) := by decide +kernel
theorem dL_refused_195 : decode cL_refused 195 = .ok (.bipush (-2), 2) := by decide +kernel
theorem dL_refused_197 : decode cL_refused 197 = .ok (.if_icmp .ne 76, 3) := by decide +kernel
theorem dL_refused_200 : decode cL_refused 200 = .ok (.aload_n 0, 1) := by decide +kernel
theorem dL_refused_201 : decode cL_refused 201 = .ok (.iload_n 2, 1) := by decide +kernel
theorem dL_refused_202 : decode cL_refused 202 = .ok (.iconst 1, 1) := by decide +kernel
theorem dL_refused_203 : decode cL_refused 203 = .ok (.iconst 1, 1) := by decide +kernel
theorem dL_refused_204 : decode cL_refused 204 = .ok (.invokevirtual 145, 3) := by decide +kernel
theorem dL_refused_207 : decode cL_refused 207 = .ok (.iconst (-1), 1) := by decide +kernel
theorem dL_refused_208 : decode cL_refused 208 = .ok (.if_icmp .ne 65, 3) := by decide +kernel
theorem dL_refused_211 : decode cL_refused 211 = .ok (.aload_n 0, 1) := by decide +kernel
theorem dL_refused_212 : decode cL_refused 212 = .ok (.iload_n 2, 1) := by decide +kernel
theorem dL_refused_213 : decode cL_refused 213 = .ok (.invokevirtual 138, 3) := by decide +kernel
theorem dL_refused_216 : decode cL_refused 216 = .ok (.bipush (-2), 2) := by decide +kernel
theorem dL_refused_218 : decode cL_refused 218 = .ok (.if_icmp .ne 55, 3) := by decide +kernel
theorem dL_refused_221 : decode cL_refused 221 = .ok (.aload_n 0, 1) := by decide +kernel
theorem dL_refused_222 : decode cL_refused 222 = .ok (.iload_n 2, 1) := by decide +kernel
theorem dL_refused_223 : decode cL_refused 223 = .ok (.iconst 1, 1) := by decide +kernel
theorem dL_refused_224 : decode cL_refused 224 = .ok (.invokevirtual 112, 3) := by decide +kernel
theorem dL_refused_227 : decode cL_refused 227 = .ok (.iconst (-1), 1) := by decide +kernel
theorem dL_refused_228 : decode cL_refused 228 = .ok (.if_icmp .ne 45, 3) := by decide +kernel
theorem dL_refused_231 : decode cL_refused 231 = .ok (.aload_n 0, 1) := by decide +kernel
theorem dL_refused_232 : decode cL_refused 232 = .ok (.invokevirtual 151, 3) := by decide +kernel
theorem dL_refused_235 : decode cL_refused 235 = .ok (.bipush (-5), 2) := by decide +kernel
theorem dL_refused_237 : decode cL_refused 237 = .ok (.if_icmp .ne 36, 3) := by decide +kernel
theorem dL_refused_240 : decode cL_refused 240 = .ok (.aload_n 0, 1) := by decide +kernel
theorem dL_refused_241 : decode cL_refused 241 = .ok (.iload_n 2, 1) := by decide +kernel
theorem dL_refused_242 : decode cL_refused 242 = .ok (.invokevirtual 148, 3) := by decide +kernel
theorem dL_refused_245 : decode cL_refused 245 = .ok (.bipush (-2), 2) := by decide +kernel
theorem dL_refused_247 : decode cL_refused 247 = .ok (.if_icmp .ne 26, 3) := by decide +kernel
theorem dL_refused_250 : decode cL_refused 250 = .ok (.aload_n 0, 1) := by decide +kernel
theorem dL_refused_251 : decode cL_refused 251 = .ok (.iload_n 2, 1) := by decide +kernel
theorem dL_refused_252 : decode cL_refused 252 = .ok (.invokevirtual 154, 3) := by decide +kernel
theorem dL_refused_255 : decode cL_refused 255 = .ok (.bipush (-2), 2) := by decide +kernel
theorem dL_refused_257 : decode cL_refused 257 = .ok (.if_icmp .ne 16, 3) := by decide +kernel
theorem dL_refused_260 : decode cL_refused 260 = .ok (.aload_n 0, 1) := by decide +kernel
theorem dL_refused_261 : decode cL_refused 261 = .ok (.bipush 14, 2) := by decide +kernel
theorem dL_refused_263 : decode cL_refused 263 = .ok (.invokevirtual 68, 3) := by decide +kernel
theorem dL_refused_266 : decode cL_refused 266 = .ok (.ifCond .ne 7, 3) := by decide +kernel
theorem dL_refused_269 : decode cL_refused 269 = .ok (.iconst 1, 1) := by decide +kernel
theorem dL_refused_270 : decode cL_refused 270 = .ok (.goto 4, 3) := by decide +kernel
theorem dL_refused_273 : decode cL_refused 273 = .ok (.iconst 0, 1) := by decide +kernel
theorem dL_refused_274 : decode cL_refused 274 = .ok (.ireturn, 1) := by decide +kernel

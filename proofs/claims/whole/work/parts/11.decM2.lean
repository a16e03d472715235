/-! DECODED instructions (own program gendec.py) -/
theorem D10_works_349 : decode m10_works.2.1 349 = .ok (.iconst 0, 1) := by decide +kernel
theorem D10_works_350 : decode m10_works.2.1 350 = .ok (.invokestatic 308, 3) := by decide +kernel
theorem D10_works_353 : decode m10_works.2.1 353 = .ok (.lstore 6, 2) := by decide +kernel
theorem D10_works_355 : decode m10_works.2.1 355 = .ok (.goto 52, 3) := by decide +kernel
theorem D10_works_358 : decode m10_works.2.1 358 = .ok (.lload 4, 2) := by decide +kernel
theorem D10_works_360 : decode m10_works.2.1 360 = .ok (.lconst 0, 1) := by decide +kernel
theorem D10_works_361 : decode m10_works.2.1 361 = .ok (.lcmp, 1) := by decide +kernel
theorem D10_works_362 : decode m10_works.2.1 362 = .ok (.ifCond .eq 13, 3) := by decide +kernel
theorem D10_works_365 : decode m10_works.2.1 365 = .ok (.lload_n 2, 1) := by decide +kernel
theorem D10_works_366 : decode m10_works.2.1 366 = .ok (.lconst 0, 1) := by decide +kernel
theorem D10_works_367 : decode m10_works.2.1 367 = .ok (.lcmp, 1) := by decide +kernel
theorem D10_works_368 : decode m10_works.2.1 368 = .ok (.ifCond .eq 7, 3) := by decide +kernel
theorem D10_works_371 : decode m10_works.2.1 371 = .ok (.iconst 1, 1) := by decide +kernel
theorem D10_works_372 : decode m10_works.2.1 372 = .ok (.goto 4, 3) := by decide +kernel
theorem D10_works_375 : decode m10_works.2.1 375 = .ok (.iconst 0, 1) := by decide +kernel
theorem D10_works_376 : decode m10_works.2.1 376 = .ok (.invokestatic 308, 3) := by decide +kernel
theorem D10_works_379 : decode m10_works.2.1 379 = .ok (.lstore 6, 2) := by decide +kernel
theorem D10_works_381 : decode m10_works.2.1 381 = .ok (.goto 26, 3) := by decide +kernel
theorem D10_works_384 : decode m10_works.2.1 384 = .ok (.lload 4, 2) := by decide +kernel
theorem D10_works_386 : decode m10_works.2.1 386 = .ok (.lconst 0, 1) := by decide +kernel
theorem D10_works_387 : decode m10_works.2.1 387 = .ok (.lcmp, 1) := by decide +kernel
theorem D10_works_388 : decode m10_works.2.1 388 = .ok (.ifCond .ne 9, 3) := by decide +kernel
theorem D10_works_391 : decode m10_works.2.1 391 = .ok (.lload_n 2, 1) := by decide +kernel
theorem D10_works_392 : decode m10_works.2.1 392 = .ok (.lconst 0, 1) := by decide +kernel
theorem D10_works_393 : decode m10_works.2.1 393 = .ok (.lcmp, 1) := by decide +kernel
theorem D10_works_394 : decode m10_works.2.1 394 = .ok (.ifCond .eq 7, 3) := by decide +kernel
theorem D10_works_397 : decode m10_works.2.1 397 = .ok (.iconst 1, 1) := by decide +kernel
theorem D10_works_398 : decode m10_works.2.1 398 = .ok (.goto 4, 3) := by decide +kernel
theorem D10_works_401 : decode m10_works.2.1 401 = .ok (.iconst 0, 1) := by decide +kernel
theorem D10_works_402 : decode m10_works.2.1 402 = .ok (.invokestatic 308, 3) := by decide +kernel
theorem D10_works_405 : decode m10_works.2.1 405 = .ok (.lstore 6, 2) := by decide +kernel
theorem D10_works_407 : decode m10_works.2.1 407 = .ok (.aload_n 0, 1) := by decide +kernel
theorem D10_works_408 : decode m10_works.2.1 408 = .ok (.getfield 72, 3) := by decide +kernel
theorem D10_works_411 : decode m10_works.2.1 411 = .ok (.aload_n 0, 1) := by decide +kernel
theorem D10_works_412 : decode m10_works.2.1 412 = .ok (.getfield 305, 3) := by decide +kernel
theorem D10_works_415 : decode m10_works.2.1 415 = .ok (.iconst 1, 1) := by decide +kernel
theorem D10_works_416 : decode m10_works.2.1 416 = .ok (.isub, 1) := by decide +kernel
theorem D10_works_417 : decode m10_works.2.1 417 = .ok (.lload 6, 2) := by decide +kernel
theorem D10_works_419 : decode m10_works.2.1 419 = .ok (.lastore, 1) := by decide +kernel
theorem D10_works_420 : decode m10_works.2.1 420 = .ok (.lload 6, 2) := by decide +kernel
theorem D10_works_422 : decode m10_works.2.1 422 = .ok (.ldc2_w 318, 3) := by decide +kernel
theorem D10_works_425 : decode m10_works.2.1 425 = .ok (.lcmp, 1) := by decide +kernel
theorem D10_works_426 : decode m10_works.2.1 426 = .ok (.ifCond .gt 16, 3) := by decide +kernel
theorem D10_works_429 : decode m10_works.2.1 429 = .ok (.lload 6, 2) := by decide +kernel
theorem D10_works_431 : decode m10_works.2.1 431 = .ok (.ldc2_w 320, 3) := by decide +kernel
theorem D10_works_434 : decode m10_works.2.1 434 = .ok (.lcmp, 1) := by decide +kernel
theorem D10_works_435 : decode m10_works.2.1 435 = .ok (.ifCond .lt 7, 3) := by decide +kernel
theorem D10_works_438 : decode m10_works.2.1 438 = .ok (.iconst 1, 1) := by decide +kernel
theorem D10_works_439 : decode m10_works.2.1 439 = .ok (.goto 4, 3) := by decide +kernel
theorem D10_works_442 : decode m10_works.2.1 442 = .ok (.iconst 0, 1) := by decide +kernel
theorem D10_works_443 : decode m10_works.2.1 443 = .ok (.ireturn, 1) := by decide +kernel
theorem D10_goes_0 : decode m10_goes.2.1 0 = .ok (.aload_n 0, 1) := by decide +kernel
theorem D10_goes_1 : decode m10_goes.2.1 1 = .ok (.iconst 0, 1) := by decide +kernel
theorem D10_goes_2 : decode m10_goes.2.1 2 = .ok (.putfield 305, 3) := by decide +kernel
theorem D10_goes_5 : decode m10_goes.2.1 5 = .ok (.aload_n 0, 1) := by decide +kernel
theorem D10_goes_6 : decode m10_goes.2.1 6 = .ok (.getfield 52, 3) := by decide +kernel
theorem D10_goes_9 : decode m10_goes.2.1 9 = .ok (.iload_n 1, 1) := by decide +kernel
theorem D10_goes_10 : decode m10_goes.2.1 10 = .ok (.iaload, 1) := by decide +kernel
theorem D10_goes_11 : decode m10_goes.2.1 11 = .ok (.istore_n 2, 1) := by decide +kernel
theorem D10_goes_12 : decode m10_goes.2.1 12 = .ok (.iload_n 2, 1) := by decide +kernel
theorem D10_goes_13 : decode m10_goes.2.1 13 = .ok (.aload_n 0, 1) := by decide +kernel
theorem D10_goes_14 : decode m10_goes.2.1 14 = .ok (.getfield 55, 3) := by decide +kernel
theorem D10_goes_17 : decode m10_goes.2.1 17 = .ok (.iload_n 1, 1) := by decide +kernel
theorem D10_goes_18 : decode m10_goes.2.1 18 = .ok (.iaload, 1) := by decide +kernel
theorem D10_goes_19 : decode m10_goes.2.1 19 = .ok (.if_icmp .ge 83, 3) := by decide +kernel
theorem D10_goes_22 : decode m10_goes.2.1 22 = .ok (.aload_n 0, 1) := by decide +kernel
theorem D10_goes_23 : decode m10_goes.2.1 23 = .ok (.getfield 58, 3) := by decide +kernel
theorem D10_goes_26 : decode m10_goes.2.1 26 = .ok (.iload_n 2, 1) := by decide +kernel
theorem D10_goes_27 : decode m10_goes.2.1 27 = .ok (.iaload, 1) := by decide +kernel
theorem D10_goes_28 : decode m10_goes.2.1 28 = .ok (.iconst 2, 1) := by decide +kernel
theorem D10_goes_29 : decode m10_goes.2.1 29 = .ok (.if_icmp .ne 18, 3) := by decide +kernel
theorem D10_goes_32 : decode m10_goes.2.1 32 = .ok (.aload_n 0, 1) := by decide +kernel
theorem D10_goes_33 : decode m10_goes.2.1 33 = .ok (.aload_n 0, 1) := by decide +kernel
theorem D10_goes_34 : decode m10_goes.2.1 34 = .ok (.getfield 61, 3) := by decide +kernel
theorem D10_goes_37 : decode m10_goes.2.1 37 = .ok (.iload_n 2, 1) := by decide +kernel
theorem D10_goes_38 : decode m10_goes.2.1 38 = .ok (.iaload, 1) := by decide +kernel
theorem D10_goes_39 : decode m10_goes.2.1 39 = .ok (.invokevirtual 322, 3) := by decide +kernel
theorem D10_goes_42 : decode m10_goes.2.1 42 = .ok (.ifCond .ne 54, 3) := by decide +kernel
theorem D10_goes_45 : decode m10_goes.2.1 45 = .ok (.iconst 0, 1) := by decide +kernel
theorem D10_goes_46 : decode m10_goes.2.1 46 = .ok (.ireturn, 1) := by decide +kernel
theorem D10_goes_47 : decode m10_goes.2.1 47 = .ok (.aload_n 0, 1) := by decide +kernel
theorem D10_goes_48 : decode m10_goes.2.1 48 = .ok (.getfield 72, 3) := by decide +kernel
theorem D10_goes_51 : decode m10_goes.2.1 51 = .ok (.aload_n 0, 1) := by decide +kernel
theorem D10_goes_52 : decode m10_goes.2.1 52 = .ok (.getfield 305, 3) := by decide +kernel
theorem D10_goes_55 : decode m10_goes.2.1 55 = .ok (.aload_n 0, 1) := by decide +kernel
theorem D10_goes_56 : decode m10_goes.2.1 56 = .ok (.getfield 58, 3) := by decide +kernel
theorem D10_goes_59 : decode m10_goes.2.1 59 = .ok (.iload_n 2, 1) := by decide +kernel
theorem D10_goes_60 : decode m10_goes.2.1 60 = .ok (.iaload, 1) := by decide +kernel
theorem D10_goes_61 : decode m10_goes.2.1 61 = .ok (.ifCond .ne 13, 3) := by decide +kernel
theorem D10_goes_64 : decode m10_goes.2.1 64 = .ok (.aload_n 0, 1) := by decide +kernel
theorem D10_goes_65 : decode m10_goes.2.1 65 = .ok (.getfield 61, 3) := by decide +kernel
theorem D10_goes_68 : decode m10_goes.2.1 68 = .ok (.iload_n 2, 1) := by decide +kernel
theorem D10_goes_69 : decode m10_goes.2.1 69 = .ok (.iaload, 1) := by decide +kernel
theorem D10_goes_70 : decode m10_goes.2.1 70 = .ok (.i2l, 1) := by decide +kernel
theorem D10_goes_71 : decode m10_goes.2.1 71 = .ok (.goto 14, 3) := by decide +kernel
theorem D10_goes_74 : decode m10_goes.2.1 74 = .ok (.aload_n 0, 1) := by decide +kernel
theorem D10_goes_75 : decode m10_goes.2.1 75 = .ok (.getfield 68, 3) := by decide +kernel
theorem D10_goes_78 : decode m10_goes.2.1 78 = .ok (.aload_n 0, 1) := by decide +kernel
theorem D10_goes_79 : decode m10_goes.2.1 79 = .ok (.getfield 61, 3) := by decide +kernel
theorem D10_goes_82 : decode m10_goes.2.1 82 = .ok (.iload_n 2, 1) := by decide +kernel
theorem D10_goes_83 : decode m10_goes.2.1 83 = .ok (.iaload, 1) := by decide +kernel
theorem D10_goes_84 : decode m10_goes.2.1 84 = .ok (.laload, 1) := by decide +kernel
theorem D10_goes_85 : decode m10_goes.2.1 85 = .ok (.lastore, 1) := by decide +kernel
theorem D10_goes_86 : decode m10_goes.2.1 86 = .ok (.aload_n 0, 1) := by decide +kernel
theorem D10_goes_87 : decode m10_goes.2.1 87 = .ok (.dup, 1) := by decide +kernel
theorem D10_goes_88 : decode m10_goes.2.1 88 = .ok (.getfield 305, 3) := by decide +kernel
theorem D10_goes_91 : decode m10_goes.2.1 91 = .ok (.iconst 1, 1) := by decide +kernel
theorem D10_goes_92 : decode m10_goes.2.1 92 = .ok (.iadd, 1) := by decide +kernel
theorem D10_goes_93 : decode m10_goes.2.1 93 = .ok (.putfield 305, 3) := by decide +kernel
theorem D10_goes_96 : decode m10_goes.2.1 96 = .ok (.iinc 2 1, 3) := by decide +kernel
theorem D10_goes_99 : decode m10_goes.2.1 99 = .ok (.goto (-87), 3) := by decide +kernel
theorem D10_goes_102 : decode m10_goes.2.1 102 = .ok (.iconst 1, 1) := by decide +kernel
theorem D10_goes_103 : decode m10_goes.2.1 103 = .ok (.ireturn, 1) := by decide +kernel
theorem D10_hasLaw_0 : decode m10_hasLaw.2.1 0 = .ok (.aload_n 0, 1) := by decide +kernel
theorem D10_hasLaw_1 : decode m10_hasLaw.2.1 1 = .ok (.getfield 55, 3) := by decide +kernel
theorem D10_hasLaw_4 : decode m10_hasLaw.2.1 4 = .ok (.iload_n 1, 1) := by decide +kernel
theorem D10_hasLaw_5 : decode m10_hasLaw.2.1 5 = .ok (.iaload, 1) := by decide +kernel
theorem D10_hasLaw_6 : decode m10_hasLaw.2.1 6 = .ok (.aload_n 0, 1) := by decide +kernel
theorem D10_hasLaw_7 : decode m10_hasLaw.2.1 7 = .ok (.getfield 52, 3) := by decide +kernel
theorem D10_hasLaw_10 : decode m10_hasLaw.2.1 10 = .ok (.iload_n 1, 1) := by decide +kernel
theorem D10_hasLaw_11 : decode m10_hasLaw.2.1 11 = .ok (.iaload, 1) := by decide +kernel
theorem D10_hasLaw_12 : decode m10_hasLaw.2.1 12 = .ok (.if_icmp .le 7, 3) := by decide +kernel
theorem D10_hasLaw_15 : decode m10_hasLaw.2.1 15 = .ok (.iconst 1, 1) := by decide +kernel
theorem D10_hasLaw_16 : decode m10_hasLaw.2.1 16 = .ok (.goto 4, 3) := by decide +kernel
theorem D10_hasLaw_19 : decode m10_hasLaw.2.1 19 = .ok (.iconst 0, 1) := by decide +kernel
theorem D10_hasLaw_20 : decode m10_hasLaw.2.1 20 = .ok (.ireturn, 1) := by decide +kernel
theorem D10_starts_0 : decode m10_starts.2.1 0 = .ok (.aload_n 0, 1) := by decide +kernel
theorem D10_starts_1 : decode m10_starts.2.1 1 = .ok (.getfield 75, 3) := by decide +kernel
theorem D10_starts_4 : decode m10_starts.2.1 4 = .ok (.iload_n 1, 1) := by decide +kernel
theorem D10_starts_5 : decode m10_starts.2.1 5 = .ok (.iconst 0, 1) := by decide +kernel
theorem D10_starts_6 : decode m10_starts.2.1 6 = .ok (.iastore, 1) := by decide +kernel
theorem D10_starts_7 : decode m10_starts.2.1 7 = .ok (.aload_n 0, 1) := by decide +kernel
theorem D10_starts_8 : decode m10_starts.2.1 8 = .ok (.getfield 78, 3) := by decide +kernel
theorem D10_starts_11 : decode m10_starts.2.1 11 = .ok (.iload_n 1, 1) := by decide +kernel
theorem D10_starts_12 : decode m10_starts.2.1 12 = .ok (.aload_n 0, 1) := by decide +kernel
theorem D10_starts_13 : decode m10_starts.2.1 13 = .ok (.getfield 13, 3) := by decide +kernel
theorem D10_starts_16 : decode m10_starts.2.1 16 = .ok (.iconst 4, 1) := by decide +kernel
theorem D10_starts_17 : decode m10_starts.2.1 17 = .ok (.iaload, 1) := by decide +kernel
theorem D10_starts_18 : decode m10_starts.2.1 18 = .ok (.iastore, 1) := by decide +kernel
theorem D10_starts_19 : decode m10_starts.2.1 19 = .ok (.aload_n 0, 1) := by decide +kernel
theorem D10_starts_20 : decode m10_starts.2.1 20 = .ok (.getfield 81, 3) := by decide +kernel
theorem D10_starts_23 : decode m10_starts.2.1 23 = .ok (.iload_n 1, 1) := by decide +kernel
theorem D10_starts_24 : decode m10_starts.2.1 24 = .ok (.iconst 0, 1) := by decide +kernel
theorem D10_starts_25 : decode m10_starts.2.1 25 = .ok (.iastore, 1) := by decide +kernel
theorem D10_starts_26 : decode m10_starts.2.1 26 = .ok (.iconst 0, 1) := by decide +kernel
theorem D10_starts_27 : decode m10_starts.2.1 27 = .ok (.istore_n 2, 1) := by decide +kernel
theorem D10_starts_28 : decode m10_starts.2.1 28 = .ok (.iload_n 2, 1) := by decide +kernel
theorem D10_starts_29 : decode m10_starts.2.1 29 = .ok (.iconst 5, 1) := by decide +kernel
theorem D10_starts_30 : decode m10_starts.2.1 30 = .ok (.if_icmp .ge 20, 3) := by decide +kernel
theorem D10_starts_33 : decode m10_starts.2.1 33 = .ok (.aload_n 0, 1) := by decide +kernel
theorem D10_starts_34 : decode m10_starts.2.1 34 = .ok (.getfield 84, 3) := by decide +kernel
theorem D10_starts_37 : decode m10_starts.2.1 37 = .ok (.iconst 5, 1) := by decide +kernel
theorem D10_starts_38 : decode m10_starts.2.1 38 = .ok (.iload_n 1, 1) := by decide +kernel
theorem D10_starts_39 : decode m10_starts.2.1 39 = .ok (.imul, 1) := by decide +kernel
theorem D10_starts_40 : decode m10_starts.2.1 40 = .ok (.iload_n 2, 1) := by decide +kernel
theorem D10_starts_41 : decode m10_starts.2.1 41 = .ok (.iadd, 1) := by decide +kernel
theorem D10_starts_42 : decode m10_starts.2.1 42 = .ok (.iconst 0, 1) := by decide +kernel
theorem D10_starts_43 : decode m10_starts.2.1 43 = .ok (.iastore, 1) := by decide +kernel
theorem D10_starts_44 : decode m10_starts.2.1 44 = .ok (.iinc 2 1, 3) := by decide +kernel
theorem D10_starts_47 : decode m10_starts.2.1 47 = .ok (.goto (-19), 3) := by decide +kernel
theorem D10_starts_50 : decode m10_starts.2.1 50 = .ok (.iconst 0, 1) := by decide +kernel
theorem D10_starts_51 : decode m10_starts.2.1 51 = .ok (.istore_n 2, 1) := by decide +kernel
theorem D10_starts_52 : decode m10_starts.2.1 52 = .ok (.iload_n 2, 1) := by decide +kernel
theorem D10_starts_53 : decode m10_starts.2.1 53 = .ok (.bipush 10, 2) := by decide +kernel
theorem D10_starts_55 : decode m10_starts.2.1 55 = .ok (.if_icmp .ge 119, 3) := by decide +kernel
theorem D10_starts_58 : decode m10_starts.2.1 58 = .ok (.bipush 10, 2) := by decide +kernel
theorem D10_starts_60 : decode m10_starts.2.1 60 = .ok (.iload_n 1, 1) := by decide +kernel
theorem D10_starts_61 : decode m10_starts.2.1 61 = .ok (.imul, 1) := by decide +kernel
theorem D10_starts_62 : decode m10_starts.2.1 62 = .ok (.iload_n 2, 1) := by decide +kernel
theorem D10_starts_63 : decode m10_starts.2.1 63 = .ok (.iadd, 1) := by decide +kernel
theorem D10_starts_64 : decode m10_starts.2.1 64 = .ok (.istore_n 3, 1) := by decide +kernel
theorem D10_starts_65 : decode m10_starts.2.1 65 = .ok (.iload_n 2, 1) := by decide +kernel
theorem D10_starts_66 : decode m10_starts.2.1 66 = .ok (.aload_n 0, 1) := by decide +kernel
theorem D10_starts_67 : decode m10_starts.2.1 67 = .ok (.getfield 13, 3) := by decide +kernel
theorem D10_starts_70 : decode m10_starts.2.1 70 = .ok (.iconst 1, 1) := by decide +kernel
theorem D10_starts_71 : decode m10_starts.2.1 71 = .ok (.iaload, 1) := by decide +kernel
theorem D10_starts_72 : decode m10_starts.2.1 72 = .ok (.if_icmp .ge 7, 3) := by decide +kernel
theorem D10_starts_75 : decode m10_starts.2.1 75 = .ok (.iconst 1, 1) := by decide +kernel
theorem D10_starts_76 : decode m10_starts.2.1 76 = .ok (.goto 4, 3) := by decide +kernel
theorem D10_starts_79 : decode m10_starts.2.1 79 = .ok (.iconst 0, 1) := by decide +kernel
theorem D10_starts_80 : decode m10_starts.2.1 80 = .ok (.istore 4, 2) := by decide +kernel
theorem D10_starts_82 : decode m10_starts.2.1 82 = .ok (.aload_n 0, 1) := by decide +kernel
theorem D10_starts_83 : decode m10_starts.2.1 83 = .ok (.getfield 87, 3) := by decide +kernel
theorem D10_starts_86 : decode m10_starts.2.1 86 = .ok (.iload_n 3, 1) := by decide +kernel
theorem D10_starts_87 : decode m10_starts.2.1 87 = .ok (.iload 4, 2) := by decide +kernel
theorem D10_starts_89 : decode m10_starts.2.1 89 = .ok (.ifCond .eq 12, 3) := by decide +kernel
theorem D10_starts_92 : decode m10_starts.2.1 92 = .ok (.aload_n 0, 1) := by decide +kernel
theorem D10_starts_93 : decode m10_starts.2.1 93 = .ok (.getfield 34, 3) := by decide +kernel
theorem D10_starts_96 : decode m10_starts.2.1 96 = .ok (.iload_n 2, 1) := by decide +kernel
theorem D10_starts_97 : decode m10_starts.2.1 97 = .ok (.iaload, 1) := by decide +kernel
theorem D10_starts_98 : decode m10_starts.2.1 98 = .ok (.goto 4, 3) := by decide +kernel
theorem D10_starts_101 : decode m10_starts.2.1 101 = .ok (.iconst 0, 1) := by decide +kernel
theorem D10_starts_102 : decode m10_starts.2.1 102 = .ok (.iastore, 1) := by decide +kernel
theorem D10_starts_103 : decode m10_starts.2.1 103 = .ok (.aload_n 0, 1) := by decide +kernel
theorem D10_starts_104 : decode m10_starts.2.1 104 = .ok (.getfield 90, 3) := by decide +kernel
theorem D10_starts_107 : decode m10_starts.2.1 107 = .ok (.iload_n 3, 1) := by decide +kernel
theorem D10_starts_108 : decode m10_starts.2.1 108 = .ok (.iload 4, 2) := by decide +kernel
theorem D10_starts_110 : decode m10_starts.2.1 110 = .ok (.ifCond .eq 12, 3) := by decide +kernel
theorem D10_starts_113 : decode m10_starts.2.1 113 = .ok (.aload_n 0, 1) := by decide +kernel
theorem D10_starts_114 : decode m10_starts.2.1 114 = .ok (.getfield 37, 3) := by decide +kernel
theorem D10_starts_117 : decode m10_starts.2.1 117 = .ok (.iload_n 2, 1) := by decide +kernel
theorem D10_starts_118 : decode m10_starts.2.1 118 = .ok (.iaload, 1) := by decide +kernel
theorem D10_starts_119 : decode m10_starts.2.1 119 = .ok (.goto 4, 3) := by decide +kernel
theorem D10_starts_122 : decode m10_starts.2.1 122 = .ok (.iconst 0, 1) := by decide +kernel
theorem D10_starts_123 : decode m10_starts.2.1 123 = .ok (.iastore, 1) := by decide +kernel
theorem D10_starts_124 : decode m10_starts.2.1 124 = .ok (.aload_n 0, 1) := by decide +kernel
theorem D10_starts_125 : decode m10_starts.2.1 125 = .ok (.getfield 93, 3) := by decide +kernel
theorem D10_starts_128 : decode m10_starts.2.1 128 = .ok (.iload_n 3, 1) := by decide +kernel
theorem D10_starts_129 : decode m10_starts.2.1 129 = .ok (.iload 4, 2) := by decide +kernel
theorem D10_starts_131 : decode m10_starts.2.1 131 = .ok (.ifCond .eq 12, 3) := by decide +kernel
theorem D10_starts_134 : decode m10_starts.2.1 134 = .ok (.aload_n 0, 1) := by decide +kernel
theorem D10_starts_135 : decode m10_starts.2.1 135 = .ok (.getfield 31, 3) := by decide +kernel
theorem D10_starts_138 : decode m10_starts.2.1 138 = .ok (.iload_n 2, 1) := by decide +kernel
theorem D10_starts_139 : decode m10_starts.2.1 139 = .ok (.iaload, 1) := by decide +kernel
theorem D10_starts_140 : decode m10_starts.2.1 140 = .ok (.goto 4, 3) := by decide +kernel
theorem D10_starts_143 : decode m10_starts.2.1 143 = .ok (.iconst 0, 1) := by decide +kernel
theorem D10_starts_144 : decode m10_starts.2.1 144 = .ok (.iastore, 1) := by decide +kernel
theorem D10_starts_145 : decode m10_starts.2.1 145 = .ok (.aload_n 0, 1) := by decide +kernel
theorem D10_starts_146 : decode m10_starts.2.1 146 = .ok (.getfield 96, 3) := by decide +kernel
theorem D10_starts_149 : decode m10_starts.2.1 149 = .ok (.iload_n 3, 1) := by decide +kernel
theorem D10_starts_150 : decode m10_starts.2.1 150 = .ok (.iload 4, 2) := by decide +kernel
theorem D10_starts_152 : decode m10_starts.2.1 152 = .ok (.ifCond .eq 7, 3) := by decide +kernel
theorem D10_starts_155 : decode m10_starts.2.1 155 = .ok (.iconst 0, 1) := by decide +kernel
theorem D10_starts_156 : decode m10_starts.2.1 156 = .ok (.goto 4, 3) := by decide +kernel
theorem D10_starts_159 : decode m10_starts.2.1 159 = .ok (.iconst (-1), 1) := by decide +kernel
theorem D10_starts_160 : decode m10_starts.2.1 160 = .ok (.iastore, 1) := by decide +kernel
theorem D10_starts_161 : decode m10_starts.2.1 161 = .ok (.aload_n 0, 1) := by decide +kernel
theorem D10_starts_162 : decode m10_starts.2.1 162 = .ok (.getfield 99, 3) := by decide +kernel
theorem D10_starts_165 : decode m10_starts.2.1 165 = .ok (.iload_n 3, 1) := by decide +kernel
theorem D10_starts_166 : decode m10_starts.2.1 166 = .ok (.iconst (-1), 1) := by decide +kernel
theorem D10_starts_167 : decode m10_starts.2.1 167 = .ok (.iastore, 1) := by decide +kernel
theorem D10_starts_168 : decode m10_starts.2.1 168 = .ok (.iinc 2 1, 3) := by decide +kernel
theorem D10_starts_171 : decode m10_starts.2.1 171 = .ok (.goto (-119), 3) := by decide +kernel
theorem D10_starts_174 : decode m10_starts.2.1 174 = .ok (.iconst 0, 1) := by decide +kernel
theorem D10_starts_175 : decode m10_starts.2.1 175 = .ok (.istore_n 2, 1) := by decide +kernel
theorem D10_starts_176 : decode m10_starts.2.1 176 = .ok (.iload_n 2, 1) := by decide +kernel
theorem D10_starts_177 : decode m10_starts.2.1 177 = .ok (.bipush 8, 2) := by decide +kernel
theorem D10_starts_179 : decode m10_starts.2.1 179 = .ok (.if_icmp .ge 21, 3) := by decide +kernel
theorem D10_starts_182 : decode m10_starts.2.1 182 = .ok (.aload_n 0, 1) := by decide +kernel
theorem D10_starts_183 : decode m10_starts.2.1 183 = .ok (.getfield 102, 3) := by decide +kernel
theorem D10_starts_186 : decode m10_starts.2.1 186 = .ok (.bipush 8, 2) := by decide +kernel
theorem D10_starts_188 : decode m10_starts.2.1 188 = .ok (.iload_n 1, 1) := by decide +kernel
theorem D10_starts_189 : decode m10_starts.2.1 189 = .ok (.imul, 1) := by decide +kernel
theorem D10_starts_190 : decode m10_starts.2.1 190 = .ok (.iload_n 2, 1) := by decide +kernel
theorem D10_starts_191 : decode m10_starts.2.1 191 = .ok (.iadd, 1) := by decide +kernel
theorem D10_starts_192 : decode m10_starts.2.1 192 = .ok (.iconst (-1), 1) := by decide +kernel
theorem D10_starts_193 : decode m10_starts.2.1 193 = .ok (.iastore, 1) := by decide +kernel
theorem D10_starts_194 : decode m10_starts.2.1 194 = .ok (.iinc 2 1, 3) := by decide +kernel
theorem D10_starts_197 : decode m10_starts.2.1 197 = .ok (.goto (-21), 3) := by decide +kernel
theorem D10_starts_200 : decode m10_starts.2.1 200 = .ok (.return_, 1) := by decide +kernel
theorem D10_begins_0 : decode m10_begins.2.1 0 = .ok (.aload_n 0, 1) := by decide +kernel
theorem D10_begins_1 : decode m10_begins.2.1 1 = .ok (.iconst 0, 1) := by decide +kernel
theorem D10_begins_2 : decode m10_begins.2.1 2 = .ok (.invokevirtual 325, 3) := by decide +kernel
theorem D10_begins_5 : decode m10_begins.2.1 5 = .ok (.return_, 1) := by decide +kernel
theorem D10_copies_0 : decode m10_copies.2.1 0 = .ok (.aload_n 0, 1) := by decide +kernel
theorem D10_copies_1 : decode m10_copies.2.1 1 = .ok (.getfield 75, 3) := by decide +kernel
theorem D10_copies_4 : decode m10_copies.2.1 4 = .ok (.iload_n 1, 1) := by decide +kernel
theorem D10_copies_5 : decode m10_copies.2.1 5 = .ok (.aload_n 0, 1) := by decide +kernel
theorem D10_copies_6 : decode m10_copies.2.1 6 = .ok (.getfield 75, 3) := by decide +kernel
theorem D10_copies_9 : decode m10_copies.2.1 9 = .ok (.iload_n 2, 1) := by decide +kernel
theorem D10_copies_10 : decode m10_copies.2.1 10 = .ok (.iaload, 1) := by decide +kernel
theorem D10_copies_11 : decode m10_copies.2.1 11 = .ok (.iastore, 1) := by decide +kernel
theorem D10_copies_12 : decode m10_copies.2.1 12 = .ok (.aload_n 0, 1) := by decide +kernel
theorem D10_copies_13 : decode m10_copies.2.1 13 = .ok (.getfield 78, 3) := by decide +kernel
theorem D10_copies_16 : decode m10_copies.2.1 16 = .ok (.iload_n 1, 1) := by decide +kernel
theorem D10_copies_17 : decode m10_copies.2.1 17 = .ok (.aload_n 0, 1) := by decide +kernel
theorem D10_copies_18 : decode m10_copies.2.1 18 = .ok (.getfield 78, 3) := by decide +kernel
theorem D10_copies_21 : decode m10_copies.2.1 21 = .ok (.iload_n 2, 1) := by decide +kernel
theorem D10_copies_22 : decode m10_copies.2.1 22 = .ok (.iaload, 1) := by decide +kernel
theorem D10_copies_23 : decode m10_copies.2.1 23 = .ok (.iastore, 1) := by decide +kernel
theorem D10_copies_24 : decode m10_copies.2.1 24 = .ok (.aload_n 0, 1) := by decide +kernel
theorem D10_copies_25 : decode m10_copies.2.1 25 = .ok (.getfield 81, 3) := by decide +kernel
theorem D10_copies_28 : decode m10_copies.2.1 28 = .ok (.iload_n 1, 1) := by decide +kernel
theorem D10_copies_29 : decode m10_copies.2.1 29 = .ok (.aload_n 0, 1) := by decide +kernel
theorem D10_copies_30 : decode m10_copies.2.1 30 = .ok (.getfield 81, 3) := by decide +kernel
theorem D10_copies_33 : decode m10_copies.2.1 33 = .ok (.iload_n 2, 1) := by decide +kernel
theorem D10_copies_34 : decode m10_copies.2.1 34 = .ok (.iaload, 1) := by decide +kernel
theorem D10_copies_35 : decode m10_copies.2.1 35 = .ok (.iastore, 1) := by decide +kernel
theorem D10_copies_36 : decode m10_copies.2.1 36 = .ok (.iconst 0, 1) := by decide +kernel
theorem D10_copies_37 : decode m10_copies.2.1 37 = .ok (.istore_n 3, 1) := by decide +kernel
theorem D10_copies_38 : decode m10_copies.2.1 38 = .ok (.iload_n 3, 1) := by decide +kernel
theorem D10_copies_39 : decode m10_copies.2.1 39 = .ok (.iconst 5, 1) := by decide +kernel
theorem D10_copies_40 : decode m10_copies.2.1 40 = .ok (.if_icmp .ge 29, 3) := by decide +kernel
theorem D10_copies_43 : decode m10_copies.2.1 43 = .ok (.aload_n 0, 1) := by decide +kernel
theorem D10_copies_44 : decode m10_copies.2.1 44 = .ok (.getfield 84, 3) := by decide +kernel
theorem D10_copies_47 : decode m10_copies.2.1 47 = .ok (.iconst 5, 1) := by decide +kernel
theorem D10_copies_48 : decode m10_copies.2.1 48 = .ok (.iload_n 1, 1) := by decide +kernel
theorem D10_copies_49 : decode m10_copies.2.1 49 = .ok (.imul, 1) := by decide +kernel
theorem D10_copies_50 : decode m10_copies.2.1 50 = .ok (.iload_n 3, 1) := by decide +kernel
theorem D10_copies_51 : decode m10_copies.2.1 51 = .ok (.iadd, 1) := by decide +kernel
theorem D10_copies_52 : decode m10_copies.2.1 52 = .ok (.aload_n 0, 1) := by decide +kernel
theorem D10_copies_53 : decode m10_copies.2.1 53 = .ok (.getfield 84, 3) := by decide +kernel
theorem D10_copies_56 : decode m10_copies.2.1 56 = .ok (.iconst 5, 1) := by decide +kernel
theorem D10_copies_57 : decode m10_copies.2.1 57 = .ok (.iload_n 2, 1) := by decide +kernel
theorem D10_copies_58 : decode m10_copies.2.1 58 = .ok (.imul, 1) := by decide +kernel
theorem D10_copies_59 : decode m10_copies.2.1 59 = .ok (.iload_n 3, 1) := by decide +kernel
theorem D10_copies_60 : decode m10_copies.2.1 60 = .ok (.iadd, 1) := by decide +kernel
theorem D10_copies_61 : decode m10_copies.2.1 61 = .ok (.iaload, 1) := by decide +kernel
theorem D10_copies_62 : decode m10_copies.2.1 62 = .ok (.iastore, 1) := by decide +kernel
theorem D10_copies_63 : decode m10_copies.2.1 63 = .ok (.iinc 3 1, 3) := by decide +kernel
theorem D10_copies_66 : decode m10_copies.2.1 66 = .ok (.goto (-28), 3) := by decide +kernel
theorem D10_copies_69 : decode m10_copies.2.1 69 = .ok (.iconst 0, 1) := by decide +kernel
theorem D10_copies_70 : decode m10_copies.2.1 70 = .ok (.istore_n 3, 1) := by decide +kernel
theorem D10_copies_71 : decode m10_copies.2.1 71 = .ok (.iload_n 3, 1) := by decide +kernel
theorem D10_copies_72 : decode m10_copies.2.1 72 = .ok (.bipush 10, 2) := by decide +kernel
theorem D10_copies_74 : decode m10_copies.2.1 74 = .ok (.if_icmp .ge 95, 3) := by decide +kernel
theorem D10_copies_77 : decode m10_copies.2.1 77 = .ok (.bipush 10, 2) := by decide +kernel
theorem D10_copies_79 : decode m10_copies.2.1 79 = .ok (.iload_n 1, 1) := by decide +kernel
theorem D10_copies_80 : decode m10_copies.2.1 80 = .ok (.imul, 1) := by decide +kernel
theorem D10_copies_81 : decode m10_copies.2.1 81 = .ok (.iload_n 3, 1) := by decide +kernel
theorem D10_copies_82 : decode m10_copies.2.1 82 = .ok (.iadd, 1) := by decide +kernel
theorem D10_copies_83 : decode m10_copies.2.1 83 = .ok (.istore 4, 2) := by decide +kernel
theorem D10_copies_85 : decode m10_copies.2.1 85 = .ok (.bipush 10, 2) := by decide +kernel
theorem D10_copies_87 : decode m10_copies.2.1 87 = .ok (.iload_n 2, 1) := by decide +kernel
theorem D10_copies_88 : decode m10_copies.2.1 88 = .ok (.imul, 1) := by decide +kernel
theorem D10_copies_89 : decode m10_copies.2.1 89 = .ok (.iload_n 3, 1) := by decide +kernel
theorem D10_copies_90 : decode m10_copies.2.1 90 = .ok (.iadd, 1) := by decide +kernel
theorem D10_copies_91 : decode m10_copies.2.1 91 = .ok (.istore 5, 2) := by decide +kernel
theorem D10_copies_93 : decode m10_copies.2.1 93 = .ok (.aload_n 0, 1) := by decide +kernel
theorem D10_copies_94 : decode m10_copies.2.1 94 = .ok (.getfield 87, 3) := by decide +kernel
theorem D10_copies_97 : decode m10_copies.2.1 97 = .ok (.iload 4, 2) := by decide +kernel
theorem D10_copies_99 : decode m10_copies.2.1 99 = .ok (.aload_n 0, 1) := by decide +kernel
theorem D10_copies_100 : decode m10_copies.2.1 100 = .ok (.getfield 87, 3) := by decide +kernel
theorem D10_copies_103 : decode m10_copies.2.1 103 = .ok (.iload 5, 2) := by decide +kernel
theorem D10_copies_105 : decode m10_copies.2.1 105 = .ok (.iaload, 1) := by decide +kernel
theorem D10_copies_106 : decode m10_copies.2.1 106 = .ok (.iastore, 1) := by decide +kernel
theorem D10_copies_107 : decode m10_copies.2.1 107 = .ok (.aload_n 0, 1) := by decide +kernel
theorem D10_copies_108 : decode m10_copies.2.1 108 = .ok (.getfield 90, 3) := by decide +kernel
theorem D10_copies_111 : decode m10_copies.2.1 111 = .ok (.iload 4, 2) := by decide +kernel
theorem D10_copies_113 : decode m10_copies.2.1 113 = .ok (.aload_n 0, 1) := by decide +kernel
theorem D10_copies_114 : decode m10_copies.2.1 114 = .ok (.getfield 90, 3) := by decide +kernel
theorem D10_copies_117 : decode m10_copies.2.1 117 = .ok (.iload 5, 2) := by decide +kernel
theorem D10_copies_119 : decode m10_copies.2.1 119 = .ok (.iaload, 1) := by decide +kernel
theorem D10_copies_120 : decode m10_copies.2.1 120 = .ok (.iastore, 1) := by decide +kernel
theorem D10_copies_121 : decode m10_copies.2.1 121 = .ok (.aload_n 0, 1) := by decide +kernel
theorem D10_copies_122 : decode m10_copies.2.1 122 = .ok (.getfield 93, 3) := by decide +kernel
theorem D10_copies_125 : decode m10_copies.2.1 125 = .ok (.iload 4, 2) := by decide +kernel
theorem D10_copies_127 : decode m10_copies.2.1 127 = .ok (.aload_n 0, 1) := by decide +kernel
theorem D10_copies_128 : decode m10_copies.2.1 128 = .ok (.getfield 93, 3) := by decide +kernel
theorem D10_copies_131 : decode m10_copies.2.1 131 = .ok (.iload 5, 2) := by decide +kernel
theorem D10_copies_133 : decode m10_copies.2.1 133 = .ok (.iaload, 1) := by decide +kernel
theorem D10_copies_134 : decode m10_copies.2.1 134 = .ok (.iastore, 1) := by decide +kernel
theorem D10_copies_135 : decode m10_copies.2.1 135 = .ok (.aload_n 0, 1) := by decide +kernel
theorem D10_copies_136 : decode m10_copies.2.1 136 = .ok (.getfield 96, 3) := by decide +kernel
theorem D10_copies_139 : decode m10_copies.2.1 139 = .ok (.iload 4, 2) := by decide +kernel
theorem D10_copies_141 : decode m10_copies.2.1 141 = .ok (.aload_n 0, 1) := by decide +kernel
theorem D10_copies_142 : decode m10_copies.2.1 142 = .ok (.getfield 96, 3) := by decide +kernel
theorem D10_copies_145 : decode m10_copies.2.1 145 = .ok (.iload 5, 2) := by decide +kernel
theorem D10_copies_147 : decode m10_copies.2.1 147 = .ok (.iaload, 1) := by decide +kernel
theorem D10_copies_148 : decode m10_copies.2.1 148 = .ok (.iastore, 1) := by decide +kernel
theorem D10_copies_149 : decode m10_copies.2.1 149 = .ok (.aload_n 0, 1) := by decide +kernel
theorem D10_copies_150 : decode m10_copies.2.1 150 = .ok (.getfield 99, 3) := by decide +kernel
theorem D10_copies_153 : decode m10_copies.2.1 153 = .ok (.iload 4, 2) := by decide +kernel
theorem D10_copies_155 : decode m10_copies.2.1 155 = .ok (.aload_n 0, 1) := by decide +kernel
theorem D10_copies_156 : decode m10_copies.2.1 156 = .ok (.getfield 99, 3) := by decide +kernel
theorem D10_copies_159 : decode m10_copies.2.1 159 = .ok (.iload 5, 2) := by decide +kernel
theorem D10_copies_161 : decode m10_copies.2.1 161 = .ok (.iaload, 1) := by decide +kernel
theorem D10_copies_162 : decode m10_copies.2.1 162 = .ok (.iastore, 1) := by decide +kernel
theorem D10_copies_163 : decode m10_copies.2.1 163 = .ok (.iinc 3 1, 3) := by decide +kernel
theorem D10_copies_166 : decode m10_copies.2.1 166 = .ok (.goto (-95), 3) := by decide +kernel
theorem D10_copies_169 : decode m10_copies.2.1 169 = .ok (.iconst 0, 1) := by decide +kernel
theorem D10_copies_170 : decode m10_copies.2.1 170 = .ok (.istore_n 3, 1) := by decide +kernel
theorem D10_copies_171 : decode m10_copies.2.1 171 = .ok (.iload_n 3, 1) := by decide +kernel
theorem D10_copies_172 : decode m10_copies.2.1 172 = .ok (.bipush 8, 2) := by decide +kernel
theorem D10_copies_174 : decode m10_copies.2.1 174 = .ok (.if_icmp .ge 31, 3) := by decide +kernel
theorem D10_copies_177 : decode m10_copies.2.1 177 = .ok (.aload_n 0, 1) := by decide +kernel
theorem D10_copies_178 : decode m10_copies.2.1 178 = .ok (.getfield 102, 3) := by decide +kernel
theorem D10_copies_181 : decode m10_copies.2.1 181 = .ok (.bipush 8, 2) := by decide +kernel
theorem D10_copies_183 : decode m10_copies.2.1 183 = .ok (.iload_n 1, 1) := by decide +kernel
theorem D10_copies_184 : decode m10_copies.2.1 184 = .ok (.imul, 1) := by decide +kernel
theorem D10_copies_185 : decode m10_copies.2.1 185 = .ok (.iload_n 3, 1) := by decide +kernel
theorem D10_copies_186 : decode m10_copies.2.1 186 = .ok (.iadd, 1) := by decide +kernel
theorem D10_copies_187 : decode m10_copies.2.1 187 = .ok (.aload_n 0, 1) := by decide +kernel
theorem D10_copies_188 : decode m10_copies.2.1 188 = .ok (.getfield 102, 3) := by decide +kernel
theorem D10_copies_191 : decode m10_copies.2.1 191 = .ok (.bipush 8, 2) := by decide +kernel
theorem D10_copies_193 : decode m10_copies.2.1 193 = .ok (.iload_n 2, 1) := by decide +kernel
theorem D10_copies_194 : decode m10_copies.2.1 194 = .ok (.imul, 1) := by decide +kernel
theorem D10_copies_195 : decode m10_copies.2.1 195 = .ok (.iload_n 3, 1) := by decide +kernel
theorem D10_copies_196 : decode m10_copies.2.1 196 = .ok (.iadd, 1) := by decide +kernel
theorem D10_copies_197 : decode m10_copies.2.1 197 = .ok (.iaload, 1) := by decide +kernel
theorem D10_copies_198 : decode m10_copies.2.1 198 = .ok (.iastore, 1) := by decide +kernel
theorem D10_copies_199 : decode m10_copies.2.1 199 = .ok (.iinc 3 1, 3) := by decide +kernel
theorem D10_copies_202 : decode m10_copies.2.1 202 = .ok (.goto (-31), 3) := by decide +kernel
theorem D10_copies_205 : decode m10_copies.2.1 205 = .ok (.return_, 1) := by decide +kernel
theorem D10_isMan_0 : decode m10_isMan.2.1 0 = .ok (.iload_n 1, 1) := by decide +kernel
theorem D10_isMan_1 : decode m10_isMan.2.1 1 = .ok (.ifCond .lt 17, 3) := by decide +kernel
theorem D10_isMan_4 : decode m10_isMan.2.1 4 = .ok (.iload_n 1, 1) := by decide +kernel
theorem D10_isMan_5 : decode m10_isMan.2.1 5 = .ok (.aload_n 0, 1) := by decide +kernel
theorem D10_isMan_6 : decode m10_isMan.2.1 6 = .ok (.getfield 13, 3) := by decide +kernel
theorem D10_isMan_9 : decode m10_isMan.2.1 9 = .ok (.iconst 0, 1) := by decide +kernel
theorem D10_isMan_10 : decode m10_isMan.2.1 10 = .ok (.iaload, 1) := by decide +kernel
theorem D10_isMan_11 : decode m10_isMan.2.1 11 = .ok (.if_icmp .ge 7, 3) := by decide +kernel
theorem D10_isMan_14 : decode m10_isMan.2.1 14 = .ok (.iconst 1, 1) := by decide +kernel
theorem D10_isMan_15 : decode m10_isMan.2.1 15 = .ok (.goto 4, 3) := by decide +kernel
theorem D10_isMan_18 : decode m10_isMan.2.1 18 = .ok (.iconst 0, 1) := by decide +kernel
theorem D10_isMan_19 : decode m10_isMan.2.1 19 = .ok (.ireturn, 1) := by decide +kernel
theorem D10_isBottle_0 : decode m10_isBottle.2.1 0 = .ok (.iload_n 1, 1) := by decide +kernel
theorem D10_isBottle_1 : decode m10_isBottle.2.1 1 = .ok (.ifCond .lt 17, 3) := by decide +kernel
theorem D10_isBottle_4 : decode m10_isBottle.2.1 4 = .ok (.iload_n 1, 1) := by decide +kernel
theorem D10_isBottle_5 : decode m10_isBottle.2.1 5 = .ok (.aload_n 0, 1) := by decide +kernel
theorem D10_isBottle_6 : decode m10_isBottle.2.1 6 = .ok (.getfield 13, 3) := by decide +kernel
theorem D10_isBottle_9 : decode m10_isBottle.2.1 9 = .ok (.iconst 1, 1) := by decide +kernel
theorem D10_isBottle_10 : decode m10_isBottle.2.1 10 = .ok (.iaload, 1) := by decide +kernel
theorem D10_isBottle_11 : decode m10_isBottle.2.1 11 = .ok (.if_icmp .ge 7, 3) := by decide +kernel
theorem D10_isBottle_14 : decode m10_isBottle.2.1 14 = .ok (.iconst 1, 1) := by decide +kernel
theorem D10_isBottle_15 : decode m10_isBottle.2.1 15 = .ok (.goto 4, 3) := by decide +kernel
theorem D10_isBottle_18 : decode m10_isBottle.2.1 18 = .ok (.iconst 0, 1) := by decide +kernel
theorem D10_isBottle_19 : decode m10_isBottle.2.1 19 = .ok (.ireturn, 1) := by decide +kernel
theorem D10_isNeed_0 : decode m10_isNeed.2.1 0 = .ok (.iload_n 1, 1) := by decide +kernel
theorem D10_isNeed_1 : decode m10_isNeed.2.1 1 = .ok (.ifCond .lt 17, 3) := by decide +kernel
theorem D10_isNeed_4 : decode m10_isNeed.2.1 4 = .ok (.iload_n 1, 1) := by decide +kernel
theorem D10_isNeed_5 : decode m10_isNeed.2.1 5 = .ok (.aload_n 0, 1) := by decide +kernel
theorem D10_isNeed_6 : decode m10_isNeed.2.1 6 = .ok (.getfield 13, 3) := by decide +kernel
theorem D10_isNeed_9 : decode m10_isNeed.2.1 9 = .ok (.iconst 2, 1) := by decide +kernel
theorem D10_isNeed_10 : decode m10_isNeed.2.1 10 = .ok (.iaload, 1) := by decide +kernel
theorem D10_isNeed_11 : decode m10_isNeed.2.1 11 = .ok (.if_icmp .ge 7, 3) := by decide +kernel
theorem D10_isNeed_14 : decode m10_isNeed.2.1 14 = .ok (.iconst 1, 1) := by decide +kernel
theorem D10_isNeed_15 : decode m10_isNeed.2.1 15 = .ok (.goto 4, 3) := by decide +kernel
theorem D10_isNeed_18 : decode m10_isNeed.2.1 18 = .ok (.iconst 0, 1) := by decide +kernel
theorem D10_isNeed_19 : decode m10_isNeed.2.1 19 = .ok (.ireturn, 1) := by decide +kernel
theorem D10_isLying_0 : decode m10_isLying.2.1 0 = .ok (.aload_n 0, 1) := by decide +kernel
theorem D10_isLying_1 : decode m10_isLying.2.1 1 = .ok (.getfield 96, 3) := by decide +kernel
theorem D10_isLying_4 : decode m10_isLying.2.1 4 = .ok (.bipush 10, 2) := by decide +kernel
theorem D10_isLying_6 : decode m10_isLying.2.1 6 = .ok (.iload_n 1, 1) := by decide +kernel
theorem D10_isLying_7 : decode m10_isLying.2.1 7 = .ok (.imul, 1) := by decide +kernel
theorem D10_isLying_8 : decode m10_isLying.2.1 8 = .ok (.iload_n 2, 1) := by decide +kernel
theorem D10_isLying_9 : decode m10_isLying.2.1 9 = .ok (.iadd, 1) := by decide +kernel
theorem D10_isLying_10 : decode m10_isLying.2.1 10 = .ok (.iaload, 1) := by decide +kernel
theorem D10_isLying_11 : decode m10_isLying.2.1 11 = .ok (.ifCond .ne 7, 3) := by decide +kernel
theorem D10_isLying_14 : decode m10_isLying.2.1 14 = .ok (.iconst 1, 1) := by decide +kernel
theorem D10_isLying_15 : decode m10_isLying.2.1 15 = .ok (.goto 4, 3) := by decide +kernel
theorem D10_isLying_18 : decode m10_isLying.2.1 18 = .ok (.iconst 0, 1) := by decide +kernel
theorem D10_isLying_19 : decode m10_isLying.2.1 19 = .ok (.ireturn, 1) := by decide +kernel
theorem D10_loadOf_0 : decode m10_loadOf.2.1 0 = .ok (.iconst 0, 1) := by decide +kernel
theorem D10_loadOf_1 : decode m10_loadOf.2.1 1 = .ok (.istore_n 3, 1) := by decide +kernel
theorem D10_loadOf_2 : decode m10_loadOf.2.1 2 = .ok (.iconst 0, 1) := by decide +kernel
theorem D10_loadOf_3 : decode m10_loadOf.2.1 3 = .ok (.istore 4, 2) := by decide +kernel
theorem D10_loadOf_5 : decode m10_loadOf.2.1 5 = .ok (.iload 4, 2) := by decide +kernel
theorem D10_loadOf_7 : decode m10_loadOf.2.1 7 = .ok (.aload_n 0, 1) := by decide +kernel
theorem D10_loadOf_8 : decode m10_loadOf.2.1 8 = .ok (.getfield 13, 3) := by decide +kernel
theorem D10_loadOf_11 : decode m10_loadOf.2.1 11 = .ok (.iconst 1, 1) := by decide +kernel
theorem D10_loadOf_12 : decode m10_loadOf.2.1 12 = .ok (.iaload, 1) := by decide +kernel
theorem D10_loadOf_13 : decode m10_loadOf.2.1 13 = .ok (.if_icmp .ge 43, 3) := by decide +kernel
theorem D10_loadOf_16 : decode m10_loadOf.2.1 16 = .ok (.iload_n 3, 1) := by decide +kernel
theorem D10_loadOf_17 : decode m10_loadOf.2.1 17 = .ok (.aload_n 0, 1) := by decide +kernel
theorem D10_loadOf_18 : decode m10_loadOf.2.1 18 = .ok (.iload_n 1, 1) := by decide +kernel
theorem D10_loadOf_19 : decode m10_loadOf.2.1 19 = .ok (.iload 4, 2) := by decide +kernel
theorem D10_loadOf_21 : decode m10_loadOf.2.1 21 = .ok (.invokevirtual 328, 3) := by decide +kernel
theorem D10_loadOf_24 : decode m10_loadOf.2.1 24 = .ok (.ifCond .eq 23, 3) := by decide +kernel
theorem D10_loadOf_27 : decode m10_loadOf.2.1 27 = .ok (.aload_n 0, 1) := by decide +kernel
theorem D10_loadOf_28 : decode m10_loadOf.2.1 28 = .ok (.getfield 93, 3) := by decide +kernel
theorem D10_loadOf_31 : decode m10_loadOf.2.1 31 = .ok (.bipush 10, 2) := by decide +kernel
theorem D10_loadOf_33 : decode m10_loadOf.2.1 33 = .ok (.iload_n 1, 1) := by decide +kernel
theorem D10_loadOf_34 : decode m10_loadOf.2.1 34 = .ok (.imul, 1) := by decide +kernel
theorem D10_loadOf_35 : decode m10_loadOf.2.1 35 = .ok (.iload 4, 2) := by decide +kernel
theorem D10_loadOf_37 : decode m10_loadOf.2.1 37 = .ok (.iadd, 1) := by decide +kernel
theorem D10_loadOf_38 : decode m10_loadOf.2.1 38 = .ok (.iaload, 1) := by decide +kernel
theorem D10_loadOf_39 : decode m10_loadOf.2.1 39 = .ok (.iload_n 2, 1) := by decide +kernel
theorem D10_loadOf_40 : decode m10_loadOf.2.1 40 = .ok (.if_icmp .ne 7, 3) := by decide +kernel
theorem D10_loadOf_43 : decode m10_loadOf.2.1 43 = .ok (.iconst 1, 1) := by decide +kernel
theorem D10_loadOf_44 : decode m10_loadOf.2.1 44 = .ok (.goto 4, 3) := by decide +kernel
theorem D10_loadOf_47 : decode m10_loadOf.2.1 47 = .ok (.iconst 0, 1) := by decide +kernel
theorem D10_loadOf_48 : decode m10_loadOf.2.1 48 = .ok (.iadd, 1) := by decide +kernel
theorem D10_loadOf_49 : decode m10_loadOf.2.1 49 = .ok (.istore_n 3, 1) := by decide +kernel
theorem D10_loadOf_50 : decode m10_loadOf.2.1 50 = .ok (.iinc 4 1, 3) := by decide +kernel
theorem D10_loadOf_53 : decode m10_loadOf.2.1 53 = .ok (.goto (-48), 3) := by decide +kernel
theorem D10_loadOf_56 : decode m10_loadOf.2.1 56 = .ok (.iload_n 3, 1) := by decide +kernel
theorem D10_loadOf_57 : decode m10_loadOf.2.1 57 = .ok (.ireturn, 1) := by decide +kernel
theorem D10_hatedOf_0 : decode m10_hatedOf.2.1 0 = .ok (.iconst 0, 1) := by decide +kernel
theorem D10_hatedOf_1 : decode m10_hatedOf.2.1 1 = .ok (.istore_n 3, 1) := by decide +kernel
theorem D10_hatedOf_2 : decode m10_hatedOf.2.1 2 = .ok (.iconst 0, 1) := by decide +kernel
theorem D10_hatedOf_3 : decode m10_hatedOf.2.1 3 = .ok (.istore 4, 2) := by decide +kernel
theorem D10_hatedOf_5 : decode m10_hatedOf.2.1 5 = .ok (.iload 4, 2) := by decide +kernel
theorem D10_hatedOf_7 : decode m10_hatedOf.2.1 7 = .ok (.aload_n 0, 1) := by decide +kernel
theorem D10_hatedOf_8 : decode m10_hatedOf.2.1 8 = .ok (.getfield 13, 3) := by decide +kernel
theorem D10_hatedOf_11 : decode m10_hatedOf.2.1 11 = .ok (.iconst 0, 1) := by decide +kernel
theorem D10_hatedOf_12 : decode m10_hatedOf.2.1 12 = .ok (.iaload, 1) := by decide +kernel
theorem D10_hatedOf_13 : decode m10_hatedOf.2.1 13 = .ok (.if_icmp .ge 27, 3) := by decide +kernel
theorem D10_hatedOf_16 : decode m10_hatedOf.2.1 16 = .ok (.iload_n 3, 1) := by decide +kernel
theorem D10_hatedOf_17 : decode m10_hatedOf.2.1 17 = .ok (.aload_n 0, 1) := by decide +kernel
theorem D10_hatedOf_18 : decode m10_hatedOf.2.1 18 = .ok (.getfield 84, 3) := by decide +kernel
theorem D10_hatedOf_21 : decode m10_hatedOf.2.1 21 = .ok (.iconst 5, 1) := by decide +kernel
theorem D10_hatedOf_22 : decode m10_hatedOf.2.1 22 = .ok (.iload_n 1, 1) := by decide +kernel
theorem D10_hatedOf_23 : decode m10_hatedOf.2.1 23 = .ok (.imul, 1) := by decide +kernel
theorem D10_hatedOf_24 : decode m10_hatedOf.2.1 24 = .ok (.iload 4, 2) := by decide +kernel
theorem D10_hatedOf_26 : decode m10_hatedOf.2.1 26 = .ok (.iadd, 1) := by decide +kernel
theorem D10_hatedOf_27 : decode m10_hatedOf.2.1 27 = .ok (.iaload, 1) := by decide +kernel
theorem D10_hatedOf_28 : decode m10_hatedOf.2.1 28 = .ok (.iload_n 2, 1) := by decide +kernel
theorem D10_hatedOf_29 : decode m10_hatedOf.2.1 29 = .ok (.ishr, 1) := by decide +kernel
theorem D10_hatedOf_30 : decode m10_hatedOf.2.1 30 = .ok (.iconst 1, 1) := by decide +kernel
theorem D10_hatedOf_31 : decode m10_hatedOf.2.1 31 = .ok (.iand, 1) := by decide +kernel
theorem D10_hatedOf_32 : decode m10_hatedOf.2.1 32 = .ok (.iadd, 1) := by decide +kernel
theorem D10_hatedOf_33 : decode m10_hatedOf.2.1 33 = .ok (.istore_n 3, 1) := by decide +kernel
theorem D10_hatedOf_34 : decode m10_hatedOf.2.1 34 = .ok (.iinc 4 1, 3) := by decide +kernel
theorem D10_hatedOf_37 : decode m10_hatedOf.2.1 37 = .ok (.goto (-32), 3) := by decide +kernel
theorem D10_hatedOf_40 : decode m10_hatedOf.2.1 40 = .ok (.iload_n 3, 1) := by decide +kernel
theorem D10_hatedOf_41 : decode m10_hatedOf.2.1 41 = .ok (.ireturn, 1) := by decide +kernel
theorem D10_calls_0 : decode m10_calls.2.1 0 = .ok (.bipush 10, 2) := by decide +kernel
theorem D10_calls_2 : decode m10_calls.2.1 2 = .ok (.iload_n 1, 1) := by decide +kernel
theorem D10_calls_3 : decode m10_calls.2.1 3 = .ok (.imul, 1) := by decide +kernel
theorem D10_calls_4 : decode m10_calls.2.1 4 = .ok (.iload_n 2, 1) := by decide +kernel
theorem D10_calls_5 : decode m10_calls.2.1 5 = .ok (.iadd, 1) := by decide +kernel
theorem D10_calls_6 : decode m10_calls.2.1 6 = .ok (.istore_n 3, 1) := by decide +kernel
theorem D10_calls_7 : decode m10_calls.2.1 7 = .ok (.aload_n 0, 1) := by decide +kernel
theorem D10_calls_8 : decode m10_calls.2.1 8 = .ok (.getfield 68, 3) := by decide +kernel
theorem D10_calls_11 : decode m10_calls.2.1 11 = .ok (.iconst 0, 1) := by decide +kernel
theorem D10_calls_12 : decode m10_calls.2.1 12 = .ok (.aload_n 0, 1) := by decide +kernel
theorem D10_calls_13 : decode m10_calls.2.1 13 = .ok (.getfield 87, 3) := by decide +kernel
theorem D10_calls_16 : decode m10_calls.2.1 16 = .ok (.iload_n 3, 1) := by decide +kernel
theorem D10_calls_17 : decode m10_calls.2.1 17 = .ok (.iaload, 1) := by decide +kernel
theorem D10_calls_18 : decode m10_calls.2.1 18 = .ok (.i2l, 1) := by decide +kernel
theorem D10_calls_19 : decode m10_calls.2.1 19 = .ok (.lastore, 1) := by decide +kernel
theorem D10_calls_20 : decode m10_calls.2.1 20 = .ok (.aload_n 0, 1) := by decide +kernel
theorem D10_calls_21 : decode m10_calls.2.1 21 = .ok (.getfield 68, 3) := by decide +kernel
theorem D10_calls_24 : decode m10_calls.2.1 24 = .ok (.iconst 1, 1) := by decide +kernel
theorem D10_calls_25 : decode m10_calls.2.1 25 = .ok (.aload_n 0, 1) := by decide +kernel
theorem D10_calls_26 : decode m10_calls.2.1 26 = .ok (.getfield 90, 3) := by decide +kernel
theorem D10_calls_29 : decode m10_calls.2.1 29 = .ok (.iload_n 3, 1) := by decide +kernel
theorem D10_calls_30 : decode m10_calls.2.1 30 = .ok (.iaload, 1) := by decide +kernel
theorem D10_calls_31 : decode m10_calls.2.1 31 = .ok (.i2l, 1) := by decide +kernel
theorem D10_calls_32 : decode m10_calls.2.1 32 = .ok (.lastore, 1) := by decide +kernel
theorem D10_calls_33 : decode m10_calls.2.1 33 = .ok (.aload_n 0, 1) := by decide +kernel
theorem D10_calls_34 : decode m10_calls.2.1 34 = .ok (.getfield 68, 3) := by decide +kernel
theorem D10_calls_37 : decode m10_calls.2.1 37 = .ok (.iconst 2, 1) := by decide +kernel
theorem D10_calls_38 : decode m10_calls.2.1 38 = .ok (.aload_n 0, 1) := by decide +kernel
theorem D10_calls_39 : decode m10_calls.2.1 39 = .ok (.iload_n 1, 1) := by decide +kernel
theorem D10_calls_40 : decode m10_calls.2.1 40 = .ok (.aload_n 0, 1) := by decide +kernel
theorem D10_calls_41 : decode m10_calls.2.1 41 = .ok (.getfield 28, 3) := by decide +kernel
theorem D10_calls_44 : decode m10_calls.2.1 44 = .ok (.iload_n 2, 1) := by decide +kernel
theorem D10_calls_45 : decode m10_calls.2.1 45 = .ok (.iaload, 1) := by decide +kernel
theorem D10_calls_46 : decode m10_calls.2.1 46 = .ok (.invokevirtual 332, 3) := by decide +kernel
theorem D10_calls_49 : decode m10_calls.2.1 49 = .ok (.i2l, 1) := by decide +kernel
theorem D10_calls_50 : decode m10_calls.2.1 50 = .ok (.lastore, 1) := by decide +kernel
theorem D10_calls_51 : decode m10_calls.2.1 51 = .ok (.aload_n 0, 1) := by decide +kernel
theorem D10_calls_52 : decode m10_calls.2.1 52 = .ok (.getfield 68, 3) := by decide +kernel
theorem D10_calls_55 : decode m10_calls.2.1 55 = .ok (.iconst 3, 1) := by decide +kernel
theorem D10_calls_56 : decode m10_calls.2.1 56 = .ok (.aload_n 0, 1) := by decide +kernel
theorem D10_calls_57 : decode m10_calls.2.1 57 = .ok (.getfield 93, 3) := by decide +kernel
theorem D10_calls_60 : decode m10_calls.2.1 60 = .ok (.iload_n 3, 1) := by decide +kernel
theorem D10_calls_61 : decode m10_calls.2.1 61 = .ok (.iaload, 1) := by decide +kernel
theorem D10_calls_62 : decode m10_calls.2.1 62 = .ok (.i2l, 1) := by decide +kernel
theorem D10_calls_63 : decode m10_calls.2.1 63 = .ok (.lastore, 1) := by decide +kernel
theorem D10_calls_64 : decode m10_calls.2.1 64 = .ok (.aload_n 0, 1) := by decide +kernel
theorem D10_calls_65 : decode m10_calls.2.1 65 = .ok (.getfield 68, 3) := by decide +kernel
theorem D10_calls_68 : decode m10_calls.2.1 68 = .ok (.iconst 4, 1) := by decide +kernel
theorem D10_calls_69 : decode m10_calls.2.1 69 = .ok (.aload_n 0, 1) := by decide +kernel
theorem D10_calls_70 : decode m10_calls.2.1 70 = .ok (.getfield 19, 3) := by decide +kernel
theorem D10_calls_73 : decode m10_calls.2.1 73 = .ok (.aload_n 0, 1) := by decide +kernel
theorem D10_calls_74 : decode m10_calls.2.1 74 = .ok (.getfield 25, 3) := by decide +kernel
theorem D10_calls_77 : decode m10_calls.2.1 77 = .ok (.iload_n 2, 1) := by decide +kernel
theorem D10_calls_78 : decode m10_calls.2.1 78 = .ok (.iaload, 1) := by decide +kernel
theorem D10_calls_79 : decode m10_calls.2.1 79 = .ok (.iaload, 1) := by decide +kernel
theorem D10_calls_80 : decode m10_calls.2.1 80 = .ok (.i2l, 1) := by decide +kernel
theorem D10_calls_81 : decode m10_calls.2.1 81 = .ok (.lastore, 1) := by decide +kernel
theorem D10_calls_82 : decode m10_calls.2.1 82 = .ok (.aload_n 0, 1) := by decide +kernel
theorem D10_calls_83 : decode m10_calls.2.1 83 = .ok (.getfield 68, 3) := by decide +kernel
theorem D10_calls_86 : decode m10_calls.2.1 86 = .ok (.iconst 5, 1) := by decide +kernel
theorem D10_calls_87 : decode m10_calls.2.1 87 = .ok (.aload_n 0, 1) := by decide +kernel
theorem D10_calls_88 : decode m10_calls.2.1 88 = .ok (.iload_n 1, 1) := by decide +kernel
theorem D10_calls_89 : decode m10_calls.2.1 89 = .ok (.aload_n 0, 1) := by decide +kernel
theorem D10_calls_90 : decode m10_calls.2.1 90 = .ok (.getfield 93, 3) := by decide +kernel
theorem D10_calls_93 : decode m10_calls.2.1 93 = .ok (.iload_n 3, 1) := by decide +kernel
theorem D10_calls_94 : decode m10_calls.2.1 94 = .ok (.iaload, 1) := by decide +kernel
theorem D10_calls_95 : decode m10_calls.2.1 95 = .ok (.invokevirtual 335, 3) := by decide +kernel
theorem D10_calls_98 : decode m10_calls.2.1 98 = .ok (.i2l, 1) := by decide +kernel
theorem D10_calls_99 : decode m10_calls.2.1 99 = .ok (.lastore, 1) := by decide +kernel
theorem D10_calls_100 : decode m10_calls.2.1 100 = .ok (.aload_n 0, 1) := by decide +kernel
theorem D10_calls_101 : decode m10_calls.2.1 101 = .ok (.getfield 68, 3) := by decide +kernel
theorem D10_calls_104 : decode m10_calls.2.1 104 = .ok (.bipush 6, 2) := by decide +kernel
theorem D10_calls_106 : decode m10_calls.2.1 106 = .ok (.aload_n 0, 1) := by decide +kernel
theorem D10_calls_107 : decode m10_calls.2.1 107 = .ok (.getfield 75, 3) := by decide +kernel
theorem D10_calls_110 : decode m10_calls.2.1 110 = .ok (.iload_n 1, 1) := by decide +kernel
theorem D10_calls_111 : decode m10_calls.2.1 111 = .ok (.iaload, 1) := by decide +kernel
theorem D10_calls_112 : decode m10_calls.2.1 112 = .ok (.i2l, 1) := by decide +kernel
theorem D10_calls_113 : decode m10_calls.2.1 113 = .ok (.lastore, 1) := by decide +kernel
theorem D10_calls_114 : decode m10_calls.2.1 114 = .ok (.return_, 1) := by decide +kernel
theorem D10_within_0 : decode m10_within.2.1 0 = .ok (.aload_n 0, 1) := by decide +kernel
theorem D10_within_1 : decode m10_within.2.1 1 = .ok (.iload_n 1, 1) := by decide +kernel
theorem D10_within_2 : decode m10_within.2.1 2 = .ok (.invokevirtual 338, 3) := by decide +kernel
theorem D10_within_5 : decode m10_within.2.1 5 = .ok (.ifCond .eq 11, 3) := by decide +kernel
theorem D10_within_8 : decode m10_within.2.1 8 = .ok (.aload_n 0, 1) := by decide +kernel
theorem D10_within_9 : decode m10_within.2.1 9 = .ok (.iload_n 1, 1) := by decide +kernel
theorem D10_within_10 : decode m10_within.2.1 10 = .ok (.invokevirtual 341, 3) := by decide +kernel
theorem D10_within_13 : decode m10_within.2.1 13 = .ok (.ifCond .ne 5, 3) := by decide +kernel
theorem D10_within_16 : decode m10_within.2.1 16 = .ok (.iload_n 2, 1) := by decide +kernel
theorem D10_within_17 : decode m10_within.2.1 17 = .ok (.ireturn, 1) := by decide +kernel
theorem D10_within_18 : decode m10_within.2.1 18 = .ok (.lconst 0, 1) := by decide +kernel
theorem D10_within_19 : decode m10_within.2.1 19 = .ok (.ldc2_w 344, 3) := by decide +kernel
theorem D10_within_22 : decode m10_within.2.1 22 = .ok (.aload_n 0, 1) := by decide +kernel
theorem D10_within_23 : decode m10_within.2.1 23 = .ok (.getfield 72, 3) := by decide +kernel
theorem D10_within_26 : decode m10_within.2.1 26 = .ok (.iconst 0, 1) := by decide +kernel
theorem D10_within_27 : decode m10_within.2.1 27 = .ok (.laload, 1) := by decide +kernel
theorem D10_within_28 : decode m10_within.2.1 28 = .ok (.invokestatic 346, 3) := by decide +kernel
theorem D10_within_31 : decode m10_within.2.1 31 = .ok (.invokestatic 350, 3) := by decide +kernel
theorem D10_within_34 : decode m10_within.2.1 34 = .ok (.l2i, 1) := by decide +kernel
theorem D10_within_35 : decode m10_within.2.1 35 = .ok (.ireturn, 1) := by decide +kernel
theorem D10_isSetOff_0 : decode m10_isSetOff.2.1 0 = .ok (.aload_n 0, 1) := by decide +kernel
theorem D10_isSetOff_1 : decode m10_isSetOff.2.1 1 = .ok (.iload_n 1, 1) := by decide +kernel
theorem D10_isSetOff_2 : decode m10_isSetOff.2.1 2 = .ok (.iload_n 2, 1) := by decide +kernel
theorem D10_isSetOff_3 : decode m10_isSetOff.2.1 3 = .ok (.invokevirtual 353, 3) := by decide +kernel
theorem D10_isSetOff_6 : decode m10_isSetOff.2.1 6 = .ok (.aload_n 0, 1) := by decide +kernel
theorem D10_isSetOff_7 : decode m10_isSetOff.2.1 7 = .ok (.iconst 2, 1) := by decide +kernel
theorem D10_isSetOff_8 : decode m10_isSetOff.2.1 8 = .ok (.invokevirtual 338, 3) := by decide +kernel
theorem D10_isSetOff_11 : decode m10_isSetOff.2.1 11 = .ok (.ifCond .eq 30, 3) := by decide +kernel
theorem D10_isSetOff_14 : decode m10_isSetOff.2.1 14 = .ok (.aload_n 0, 1) := by decide +kernel
theorem D10_isSetOff_15 : decode m10_isSetOff.2.1 15 = .ok (.iconst 2, 1) := by decide +kernel
theorem D10_isSetOff_16 : decode m10_isSetOff.2.1 16 = .ok (.invokevirtual 341, 3) := by decide +kernel
theorem D10_isSetOff_19 : decode m10_isSetOff.2.1 19 = .ok (.ifCond .eq 22, 3) := by decide +kernel
theorem D10_isSetOff_22 : decode m10_isSetOff.2.1 22 = .ok (.aload_n 0, 1) := by decide +kernel
theorem D10_isSetOff_23 : decode m10_isSetOff.2.1 23 = .ok (.getfield 72, 3) := by decide +kernel
theorem D10_isSetOff_26 : decode m10_isSetOff.2.1 26 = .ok (.iconst 0, 1) := by decide +kernel
theorem D10_isSetOff_27 : decode m10_isSetOff.2.1 27 = .ok (.laload, 1) := by decide +kernel
theorem D10_isSetOff_28 : decode m10_isSetOff.2.1 28 = .ok (.lconst 0, 1) := by decide +kernel
theorem D10_isSetOff_29 : decode m10_isSetOff.2.1 29 = .ok (.lcmp, 1) := by decide +kernel
theorem D10_isSetOff_30 : decode m10_isSetOff.2.1 30 = .ok (.ifCond .eq 7, 3) := by decide +kernel
theorem D10_isSetOff_33 : decode m10_isSetOff.2.1 33 = .ok (.iconst 1, 1) := by decide +kernel
theorem D10_isSetOff_34 : decode m10_isSetOff.2.1 34 = .ok (.goto 27, 3) := by decide +kernel
theorem D10_isSetOff_37 : decode m10_isSetOff.2.1 37 = .ok (.iconst 0, 1) := by decide +kernel
theorem D10_isSetOff_38 : decode m10_isSetOff.2.1 38 = .ok (.goto 23, 3) := by decide +kernel
theorem D10_isSetOff_41 : decode m10_isSetOff.2.1 41 = .ok (.aload_n 0, 1) := by decide +kernel
theorem D10_isSetOff_42 : decode m10_isSetOff.2.1 42 = .ok (.getfield 90, 3) := by decide +kernel
theorem D10_isSetOff_45 : decode m10_isSetOff.2.1 45 = .ok (.bipush 10, 2) := by decide +kernel
theorem D10_isSetOff_47 : decode m10_isSetOff.2.1 47 = .ok (.iload_n 1, 1) := by decide +kernel
theorem D10_isSetOff_48 : decode m10_isSetOff.2.1 48 = .ok (.imul, 1) := by decide +kernel
theorem D10_isSetOff_49 : decode m10_isSetOff.2.1 49 = .ok (.iload_n 2, 1) := by decide +kernel
theorem D10_isSetOff_50 : decode m10_isSetOff.2.1 50 = .ok (.iadd, 1) := by decide +kernel
theorem D10_isSetOff_51 : decode m10_isSetOff.2.1 51 = .ok (.iaload, 1) := by decide +kernel
theorem D10_isSetOff_52 : decode m10_isSetOff.2.1 52 = .ok (.iconst 2, 1) := by decide +kernel
theorem D10_isSetOff_53 : decode m10_isSetOff.2.1 53 = .ok (.if_icmp .gt 7, 3) := by decide +kernel
theorem D10_isSetOff_56 : decode m10_isSetOff.2.1 56 = .ok (.iconst 1, 1) := by decide +kernel
theorem D10_isSetOff_57 : decode m10_isSetOff.2.1 57 = .ok (.goto 4, 3) := by decide +kernel
theorem D10_isSetOff_60 : decode m10_isSetOff.2.1 60 = .ok (.iconst 0, 1) := by decide +kernel
theorem D10_isSetOff_61 : decode m10_isSetOff.2.1 61 = .ok (.ireturn, 1) := by decide +kernel
theorem D10_goesOff_0 : decode m10_goesOff.2.1 0 = .ok (.aload_n 0, 1) := by decide +kernel
theorem D10_goesOff_1 : decode m10_goesOff.2.1 1 = .ok (.getfield 96, 3) := by decide +kernel
theorem D10_goesOff_4 : decode m10_goesOff.2.1 4 = .ok (.bipush 10, 2) := by decide +kernel
theorem D10_goesOff_6 : decode m10_goesOff.2.1 6 = .ok (.iload_n 1, 1) := by decide +kernel
theorem D10_goesOff_7 : decode m10_goesOff.2.1 7 = .ok (.imul, 1) := by decide +kernel
theorem D10_goesOff_8 : decode m10_goesOff.2.1 8 = .ok (.iload_n 2, 1) := by decide +kernel
theorem D10_goesOff_9 : decode m10_goesOff.2.1 9 = .ok (.iadd, 1) := by decide +kernel
theorem D10_goesOff_10 : decode m10_goesOff.2.1 10 = .ok (.iconst 2, 1) := by decide +kernel
theorem D10_goesOff_11 : decode m10_goesOff.2.1 11 = .ok (.iastore, 1) := by decide +kernel
theorem D10_goesOff_12 : decode m10_goesOff.2.1 12 = .ok (.aload_n 0, 1) := by decide +kernel
theorem D10_goesOff_13 : decode m10_goesOff.2.1 13 = .ok (.getfield 105, 3) := by decide +kernel
theorem D10_goesOff_16 : decode m10_goesOff.2.1 16 = .ok (.iconst 0, 1) := by decide +kernel
theorem D10_goesOff_17 : decode m10_goesOff.2.1 17 = .ok (.iload_n 2, 1) := by decide +kernel
theorem D10_goesOff_18 : decode m10_goesOff.2.1 18 = .ok (.iastore, 1) := by decide +kernel
theorem D10_goesOff_19 : decode m10_goesOff.2.1 19 = .ok (.iconst 1, 1) := by decide +kernel
theorem D10_goesOff_20 : decode m10_goesOff.2.1 20 = .ok (.istore_n 3, 1) := by decide +kernel
theorem D10_goesOff_21 : decode m10_goesOff.2.1 21 = .ok (.iconst 0, 1) := by decide +kernel
theorem D10_goesOff_22 : decode m10_goesOff.2.1 22 = .ok (.istore 4, 2) := by decide +kernel
theorem D10_goesOff_24 : decode m10_goesOff.2.1 24 = .ok (.iload 4, 2) := by decide +kernel
theorem D10_goesOff_26 : decode m10_goesOff.2.1 26 = .ok (.iload_n 3, 1) := by decide +kernel
theorem D10_goesOff_27 : decode m10_goesOff.2.1 27 = .ok (.if_icmp .ge 120, 3) := by decide +kernel
theorem D10_goesOff_30 : decode m10_goesOff.2.1 30 = .ok (.aload_n 0, 1) := by decide +kernel
theorem D10_goesOff_31 : decode m10_goesOff.2.1 31 = .ok (.getfield 356, 3) := by decide +kernel
theorem D10_goesOff_34 : decode m10_goesOff.2.1 34 = .ok (.iconst 3, 1) := by decide +kernel
theorem D10_goesOff_35 : decode m10_goesOff.2.1 35 = .ok (.if_icmp .eq 112, 3) := by decide +kernel
theorem D10_goesOff_38 : decode m10_goesOff.2.1 38 = .ok (.aload_n 0, 1) := by decide +kernel
theorem D10_goesOff_39 : decode m10_goesOff.2.1 39 = .ok (.getfield 93, 3) := by decide +kernel
theorem D10_goesOff_42 : decode m10_goesOff.2.1 42 = .ok (.bipush 10, 2) := by decide +kernel
theorem D10_goesOff_44 : decode m10_goesOff.2.1 44 = .ok (.iload_n 1, 1) := by decide +kernel
theorem D10_goesOff_45 : decode m10_goesOff.2.1 45 = .ok (.imul, 1) := by decide +kernel
theorem D10_goesOff_46 : decode m10_goesOff.2.1 46 = .ok (.aload_n 0, 1) := by decide +kernel
theorem D10_goesOff_47 : decode m10_goesOff.2.1 47 = .ok (.getfield 105, 3) := by decide +kernel
theorem D10_goesOff_50 : decode m10_goesOff.2.1 50 = .ok (.iload 4, 2) := by decide +kernel
theorem D10_goesOff_52 : decode m10_goesOff.2.1 52 = .ok (.iaload, 1) := by decide +kernel
theorem D10_goesOff_53 : decode m10_goesOff.2.1 53 = .ok (.iadd, 1) := by decide +kernel
theorem D10_goesOff_54 : decode m10_goesOff.2.1 54 = .ok (.iaload, 1) := by decide +kernel
theorem D10_goesOff_55 : decode m10_goesOff.2.1 55 = .ok (.istore 5, 2) := by decide +kernel
theorem D10_goesOff_57 : decode m10_goesOff.2.1 57 = .ok (.iconst 0, 1) := by decide +kernel
theorem D10_goesOff_58 : decode m10_goesOff.2.1 58 = .ok (.istore 6, 2) := by decide +kernel
theorem D10_goesOff_60 : decode m10_goesOff.2.1 60 = .ok (.iload 6, 2) := by decide +kernel
theorem D10_goesOff_62 : decode m10_goesOff.2.1 62 = .ok (.aload_n 0, 1) := by decide +kernel
theorem D10_goesOff_63 : decode m10_goesOff.2.1 63 = .ok (.getfield 13, 3) := by decide +kernel
theorem D10_goesOff_66 : decode m10_goesOff.2.1 66 = .ok (.iconst 1, 1) := by decide +kernel
theorem D10_goesOff_67 : decode m10_goesOff.2.1 67 = .ok (.iaload, 1) := by decide +kernel
theorem D10_goesOff_68 : decode m10_goesOff.2.1 68 = .ok (.if_icmp .ge 73, 3) := by decide +kernel
theorem D10_goesOff_71 : decode m10_goesOff.2.1 71 = .ok (.aload_n 0, 1) := by decide +kernel
theorem D10_goesOff_72 : decode m10_goesOff.2.1 72 = .ok (.iload_n 1, 1) := by decide +kernel
theorem D10_goesOff_73 : decode m10_goesOff.2.1 73 = .ok (.iload 6, 2) := by decide +kernel
theorem D10_goesOff_75 : decode m10_goesOff.2.1 75 = .ok (.invokevirtual 328, 3) := by decide +kernel
theorem D10_goesOff_78 : decode m10_goesOff.2.1 78 = .ok (.ifCond .eq 57, 3) := by decide +kernel
theorem D10_goesOff_81 : decode m10_goesOff.2.1 81 = .ok (.aload_n 0, 1) := by decide +kernel
theorem D10_goesOff_82 : decode m10_goesOff.2.1 82 = .ok (.getfield 93, 3) := by decide +kernel
theorem D10_goesOff_85 : decode m10_goesOff.2.1 85 = .ok (.bipush 10, 2) := by decide +kernel
theorem D10_goesOff_87 : decode m10_goesOff.2.1 87 = .ok (.iload_n 1, 1) := by decide +kernel
theorem D10_goesOff_88 : decode m10_goesOff.2.1 88 = .ok (.imul, 1) := by decide +kernel
theorem D10_goesOff_89 : decode m10_goesOff.2.1 89 = .ok (.iload 6, 2) := by decide +kernel
theorem D10_goesOff_91 : decode m10_goesOff.2.1 91 = .ok (.iadd, 1) := by decide +kernel
theorem D10_goesOff_92 : decode m10_goesOff.2.1 92 = .ok (.iaload, 1) := by decide +kernel
theorem D10_goesOff_93 : decode m10_goesOff.2.1 93 = .ok (.iload 5, 2) := by decide +kernel
theorem D10_goesOff_95 : decode m10_goesOff.2.1 95 = .ok (.if_icmp .ne 40, 3) := by decide +kernel
theorem D10_goesOff_98 : decode m10_goesOff.2.1 98 = .ok (.aload_n 0, 1) := by decide +kernel
theorem D10_goesOff_99 : decode m10_goesOff.2.1 99 = .ok (.iload_n 1, 1) := by decide +kernel
theorem D10_goesOff_100 : decode m10_goesOff.2.1 100 = .ok (.iload 6, 2) := by decide +kernel
theorem D10_goesOff_102 : decode m10_goesOff.2.1 102 = .ok (.invokevirtual 359, 3) := by decide +kernel
theorem D10_goesOff_105 : decode m10_goesOff.2.1 105 = .ok (.ifCond .ne 6, 3) := by decide +kernel
theorem D10_goesOff_108 : decode m10_goesOff.2.1 108 = .ok (.goto 27, 3) := by decide +kernel
theorem D10_goesOff_111 : decode m10_goesOff.2.1 111 = .ok (.aload_n 0, 1) := by decide +kernel
theorem D10_goesOff_112 : decode m10_goesOff.2.1 112 = .ok (.getfield 96, 3) := by decide +kernel
theorem D10_goesOff_115 : decode m10_goesOff.2.1 115 = .ok (.bipush 10, 2) := by decide +kernel
theorem D10_goesOff_117 : decode m10_goesOff.2.1 117 = .ok (.iload_n 1, 1) := by decide +kernel
theorem D10_goesOff_118 : decode m10_goesOff.2.1 118 = .ok (.imul, 1) := by decide +kernel
theorem D10_goesOff_119 : decode m10_goesOff.2.1 119 = .ok (.iload 6, 2) := by decide +kernel
theorem D10_goesOff_121 : decode m10_goesOff.2.1 121 = .ok (.iadd, 1) := by decide +kernel
theorem D10_goesOff_122 : decode m10_goesOff.2.1 122 = .ok (.iconst 2, 1) := by decide +kernel
theorem D10_goesOff_123 : decode m10_goesOff.2.1 123 = .ok (.iastore, 1) := by decide +kernel
theorem D10_goesOff_124 : decode m10_goesOff.2.1 124 = .ok (.aload_n 0, 1) := by decide +kernel
theorem D10_goesOff_125 : decode m10_goesOff.2.1 125 = .ok (.getfield 105, 3) := by decide +kernel
theorem D10_goesOff_128 : decode m10_goesOff.2.1 128 = .ok (.iload_n 3, 1) := by decide +kernel
theorem D10_goesOff_129 : decode m10_goesOff.2.1 129 = .ok (.iload 6, 2) := by decide +kernel
theorem D10_goesOff_131 : decode m10_goesOff.2.1 131 = .ok (.iastore, 1) := by decide +kernel
theorem D10_goesOff_132 : decode m10_goesOff.2.1 132 = .ok (.iinc 3 1, 3) := by decide +kernel
theorem D10_goesOff_135 : decode m10_goesOff.2.1 135 = .ok (.iinc 6 1, 3) := by decide +kernel
theorem D10_goesOff_138 : decode m10_goesOff.2.1 138 = .ok (.goto (-78), 3) := by decide +kernel
theorem D10_goesOff_141 : decode m10_goesOff.2.1 141 = .ok (.iinc 4 1, 3) := by decide +kernel
theorem D10_goesOff_144 : decode m10_goesOff.2.1 144 = .ok (.goto (-120), 3) := by decide +kernel
theorem D10_goesOff_147 : decode m10_goesOff.2.1 147 = .ok (.return_, 1) := by decide +kernel
theorem D10_doesThunder_0 : decode m10_doesThunder.2.1 0 = .ok (.aload_n 0, 1) := by decide +kernel
theorem D10_doesThunder_1 : decode m10_doesThunder.2.1 1 = .ok (.getfield 356, 3) := by decide +kernel
theorem D10_doesThunder_4 : decode m10_doesThunder.2.1 4 = .ok (.iconst 1, 1) := by decide +kernel
theorem D10_doesThunder_5 : decode m10_doesThunder.2.1 5 = .ok (.if_icmp .ne 7, 3) := by decide +kernel
theorem D10_doesThunder_8 : decode m10_doesThunder.2.1 8 = .ok (.iconst 0, 1) := by decide +kernel
theorem D10_doesThunder_9 : decode m10_doesThunder.2.1 9 = .ok (.goto 9, 3) := by decide +kernel
theorem D10_doesThunder_12 : decode m10_doesThunder.2.1 12 = .ok (.aload_n 0, 1) := by decide +kernel
theorem D10_doesThunder_13 : decode m10_doesThunder.2.1 13 = .ok (.getfield 13, 3) := by decide +kernel
theorem D10_doesThunder_16 : decode m10_doesThunder.2.1 16 = .ok (.iconst 3, 1) := by decide +kernel
theorem D10_doesThunder_17 : decode m10_doesThunder.2.1 17 = .ok (.iaload, 1) := by decide +kernel
theorem D10_doesThunder_18 : decode m10_doesThunder.2.1 18 = .ok (.istore_n 3, 1) := by decide +kernel
theorem D10_doesThunder_19 : decode m10_doesThunder.2.1 19 = .ok (.iload_n 2, 1) := by decide +kernel
theorem D10_doesThunder_20 : decode m10_doesThunder.2.1 20 = .ok (.ifCond .eq 13, 3) := by decide +kernel
theorem D10_doesThunder_23 : decode m10_doesThunder.2.1 23 = .ok (.iload_n 3, 1) := by decide +kernel
theorem D10_doesThunder_24 : decode m10_doesThunder.2.1 24 = .ok (.ifCond .eq 9, 3) := by decide +kernel
theorem D10_doesThunder_27 : decode m10_doesThunder.2.1 27 = .ok (.iload_n 3, 1) := by decide +kernel
theorem D10_doesThunder_28 : decode m10_doesThunder.2.1 28 = .ok (.bipush 100, 2) := by decide +kernel
theorem D10_doesThunder_30 : decode m10_doesThunder.2.1 30 = .ok (.if_icmp .ne 15, 3) := by decide +kernel
theorem D10_doesThunder_33 : decode m10_doesThunder.2.1 33 = .ok (.iload_n 3, 1) := by decide +kernel
theorem D10_doesThunder_34 : decode m10_doesThunder.2.1 34 = .ok (.bipush 50, 2) := by decide +kernel
theorem D10_doesThunder_36 : decode m10_doesThunder.2.1 36 = .ok (.if_icmp .lt 7, 3) := by decide +kernel
theorem D10_doesThunder_39 : decode m10_doesThunder.2.1 39 = .ok (.iconst 1, 1) := by decide +kernel
theorem D10_doesThunder_40 : decode m10_doesThunder.2.1 40 = .ok (.goto 4, 3) := by decide +kernel
theorem D10_doesThunder_43 : decode m10_doesThunder.2.1 43 = .ok (.iconst 0, 1) := by decide +kernel
theorem D10_doesThunder_44 : decode m10_doesThunder.2.1 44 = .ok (.ireturn, 1) := by decide +kernel
theorem D10_doesThunder_45 : decode m10_doesThunder.2.1 45 = .ok (.aload_n 0, 1) := by decide +kernel
theorem D10_doesThunder_46 : decode m10_doesThunder.2.1 46 = .ok (.getfield 78, 3) := by decide +kernel
theorem D10_doesThunder_49 : decode m10_doesThunder.2.1 49 = .ok (.iload_n 1, 1) := by decide +kernel
theorem D10_doesThunder_50 : decode m10_doesThunder.2.1 50 = .ok (.aload_n 0, 1) := by decide +kernel
theorem D10_doesThunder_51 : decode m10_doesThunder.2.1 51 = .ok (.getfield 78, 3) := by decide +kernel
theorem D10_doesThunder_54 : decode m10_doesThunder.2.1 54 = .ok (.iload_n 1, 1) := by decide +kernel
theorem D10_doesThunder_55 : decode m10_doesThunder.2.1 55 = .ok (.iaload, 1) := by decide +kernel
theorem D10_doesThunder_56 : decode m10_doesThunder.2.1 56 = .ok (.ldc_w 362, 3) := by decide +kernel
theorem D10_doesThunder_59 : decode m10_doesThunder.2.1 59 = .ok (.imul, 1) := by decide +kernel
theorem D10_doesThunder_60 : decode m10_doesThunder.2.1 60 = .ok (.sipush 12345, 3) := by decide +kernel
theorem D10_doesThunder_63 : decode m10_doesThunder.2.1 63 = .ok (.iadd, 1) := by decide +kernel
theorem D10_doesThunder_64 : decode m10_doesThunder.2.1 64 = .ok (.ldc_w 365, 3) := by decide +kernel
theorem D10_doesThunder_67 : decode m10_doesThunder.2.1 67 = .ok (.iand, 1) := by decide +kernel
theorem D10_doesThunder_68 : decode m10_doesThunder.2.1 68 = .ok (.iastore, 1) := by decide +kernel
theorem D10_doesThunder_69 : decode m10_doesThunder.2.1 69 = .ok (.aload_n 0, 1) := by decide +kernel
theorem D10_doesThunder_70 : decode m10_doesThunder.2.1 70 = .ok (.getfield 78, 3) := by decide +kernel
theorem D10_doesThunder_73 : decode m10_doesThunder.2.1 73 = .ok (.iload_n 1, 1) := by decide +kernel
theorem D10_doesThunder_74 : decode m10_doesThunder.2.1 74 = .ok (.iaload, 1) := by decide +kernel
theorem D10_doesThunder_75 : decode m10_doesThunder.2.1 75 = .ok (.bipush 16, 2) := by decide +kernel
theorem D10_doesThunder_77 : decode m10_doesThunder.2.1 77 = .ok (.ishr, 1) := by decide +kernel
theorem D10_doesThunder_78 : decode m10_doesThunder.2.1 78 = .ok (.bipush 100, 2) := by decide +kernel
theorem D10_doesThunder_80 : decode m10_doesThunder.2.1 80 = .ok (.irem, 1) := by decide +kernel
theorem D10_doesThunder_81 : decode m10_doesThunder.2.1 81 = .ok (.iload_n 3, 1) := by decide +kernel
theorem D10_doesThunder_82 : decode m10_doesThunder.2.1 82 = .ok (.if_icmp .ge 7, 3) := by decide +kernel
theorem D10_doesThunder_85 : decode m10_doesThunder.2.1 85 = .ok (.iconst 1, 1) := by decide +kernel
theorem D10_doesThunder_86 : decode m10_doesThunder.2.1 86 = .ok (.goto 4, 3) := by decide +kernel
theorem D10_doesThunder_89 : decode m10_doesThunder.2.1 89 = .ok (.iconst 0, 1) := by decide +kernel
theorem D10_doesThunder_90 : decode m10_doesThunder.2.1 90 = .ok (.ireturn, 1) := by decide +kernel
theorem D10_creeps_0 : decode m10_creeps.2.1 0 = .ok (.aload_n 0, 1) := by decide +kernel
theorem D10_creeps_1 : decode m10_creeps.2.1 1 = .ok (.getfield 81, 3) := by decide +kernel
theorem D10_creeps_4 : decode m10_creeps.2.1 4 = .ok (.iload_n 1, 1) := by decide +kernel
theorem D10_creeps_5 : decode m10_creeps.2.1 5 = .ok (.dup2, 1) := by decide +kernel
theorem D10_creeps_6 : decode m10_creeps.2.1 6 = .ok (.iaload, 1) := by decide +kernel
theorem D10_creeps_7 : decode m10_creeps.2.1 7 = .ok (.iconst 1, 1) := by decide +kernel
theorem D10_creeps_8 : decode m10_creeps.2.1 8 = .ok (.iadd, 1) := by decide +kernel
theorem D10_creeps_9 : decode m10_creeps.2.1 9 = .ok (.iastore, 1) := by decide +kernel
theorem D10_creeps_10 : decode m10_creeps.2.1 10 = .ok (.iconst 0, 1) := by decide +kernel
theorem D10_creeps_11 : decode m10_creeps.2.1 11 = .ok (.istore_n 2, 1) := by decide +kernel
theorem D10_creeps_12 : decode m10_creeps.2.1 12 = .ok (.iload_n 2, 1) := by decide +kernel
theorem D10_creeps_13 : decode m10_creeps.2.1 13 = .ok (.aload_n 0, 1) := by decide +kernel
theorem D10_creeps_14 : decode m10_creeps.2.1 14 = .ok (.getfield 13, 3) := by decide +kernel
theorem D10_creeps_17 : decode m10_creeps.2.1 17 = .ok (.iconst 1, 1) := by decide +kernel
theorem D10_creeps_18 : decode m10_creeps.2.1 18 = .ok (.iaload, 1) := by decide +kernel
theorem D10_creeps_19 : decode m10_creeps.2.1 19 = .ok (.if_icmp .ge 57, 3) := by decide +kernel
theorem D10_creeps_22 : decode m10_creeps.2.1 22 = .ok (.aload_n 0, 1) := by decide +kernel
theorem D10_creeps_23 : decode m10_creeps.2.1 23 = .ok (.iload_n 1, 1) := by decide +kernel
theorem D10_creeps_24 : decode m10_creeps.2.1 24 = .ok (.iload_n 2, 1) := by decide +kernel
theorem D10_creeps_25 : decode m10_creeps.2.1 25 = .ok (.invokevirtual 328, 3) := by decide +kernel
theorem D10_creeps_28 : decode m10_creeps.2.1 28 = .ok (.ifCond .ne 6, 3) := by decide +kernel
theorem D10_creeps_31 : decode m10_creeps.2.1 31 = .ok (.goto 39, 3) := by decide +kernel
theorem D10_creeps_34 : decode m10_creeps.2.1 34 = .ok (.aload_n 0, 1) := by decide +kernel
theorem D10_creeps_35 : decode m10_creeps.2.1 35 = .ok (.iload_n 1, 1) := by decide +kernel
theorem D10_creeps_36 : decode m10_creeps.2.1 36 = .ok (.iload_n 2, 1) := by decide +kernel
theorem D10_creeps_37 : decode m10_creeps.2.1 37 = .ok (.invokevirtual 353, 3) := by decide +kernel
theorem D10_creeps_40 : decode m10_creeps.2.1 40 = .ok (.bipush 10, 2) := by decide +kernel
theorem D10_creeps_42 : decode m10_creeps.2.1 42 = .ok (.iload_n 1, 1) := by decide +kernel
theorem D10_creeps_43 : decode m10_creeps.2.1 43 = .ok (.imul, 1) := by decide +kernel
theorem D10_creeps_44 : decode m10_creeps.2.1 44 = .ok (.iload_n 2, 1) := by decide +kernel
theorem D10_creeps_45 : decode m10_creeps.2.1 45 = .ok (.iadd, 1) := by decide +kernel
theorem D10_creeps_46 : decode m10_creeps.2.1 46 = .ok (.istore_n 3, 1) := by decide +kernel
theorem D10_creeps_47 : decode m10_creeps.2.1 47 = .ok (.aload_n 0, 1) := by decide +kernel
theorem D10_creeps_48 : decode m10_creeps.2.1 48 = .ok (.getfield 90, 3) := by decide +kernel
theorem D10_creeps_51 : decode m10_creeps.2.1 51 = .ok (.iload_n 3, 1) := by decide +kernel
theorem D10_creeps_52 : decode m10_creeps.2.1 52 = .ok (.iconst 0, 1) := by decide +kernel
theorem D10_creeps_53 : decode m10_creeps.2.1 53 = .ok (.aload_n 0, 1) := by decide +kernel
theorem D10_creeps_54 : decode m10_creeps.2.1 54 = .ok (.getfield 90, 3) := by decide +kernel
theorem D10_creeps_57 : decode m10_creeps.2.1 57 = .ok (.iload_n 3, 1) := by decide +kernel
theorem D10_creeps_58 : decode m10_creeps.2.1 58 = .ok (.iaload, 1) := by decide +kernel
theorem D10_creeps_59 : decode m10_creeps.2.1 59 = .ok (.aload_n 0, 1) := by decide +kernel
theorem D10_creeps_60 : decode m10_creeps.2.1 60 = .ok (.iconst 1, 1) := by decide +kernel
theorem D10_creeps_61 : decode m10_creeps.2.1 61 = .ok (.iconst 1, 1) := by decide +kernel
theorem D10_creeps_62 : decode m10_creeps.2.1 62 = .ok (.invokevirtual 366, 3) := by decide +kernel
theorem D10_creeps_65 : decode m10_creeps.2.1 65 = .ok (.isub, 1) := by decide +kernel
theorem D10_creeps_66 : decode m10_creeps.2.1 66 = .ok (.invokestatic 369, 3) := by decide +kernel
theorem D10_creeps_69 : decode m10_creeps.2.1 69 = .ok (.iastore, 1) := by decide +kernel
theorem D10_creeps_70 : decode m10_creeps.2.1 70 = .ok (.iinc 2 1, 3) := by decide +kernel
theorem D10_creeps_73 : decode m10_creeps.2.1 73 = .ok (.goto (-61), 3) := by decide +kernel
theorem D10_creeps_76 : decode m10_creeps.2.1 76 = .ok (.return_, 1) := by decide +kernel
theorem D10_weakest_0 : decode m10_weakest.2.1 0 = .ok (.iconst (-1), 1) := by decide +kernel
theorem D10_weakest_1 : decode m10_weakest.2.1 1 = .ok (.istore 4, 2) := by decide +kernel
theorem D10_weakest_3 : decode m10_weakest.2.1 3 = .ok (.iconst 0, 1) := by decide +kernel
theorem D10_weakest_4 : decode m10_weakest.2.1 4 = .ok (.istore 5, 2) := by decide +kernel
theorem D10_weakest_6 : decode m10_weakest.2.1 6 = .ok (.iload 5, 2) := by decide +kernel
theorem D10_weakest_8 : decode m10_weakest.2.1 8 = .ok (.aload_n 0, 1) := by decide +kernel
theorem D10_weakest_9 : decode m10_weakest.2.1 9 = .ok (.getfield 13, 3) := by decide +kernel
theorem D10_weakest_12 : decode m10_weakest.2.1 12 = .ok (.iconst 1, 1) := by decide +kernel
theorem D10_weakest_13 : decode m10_weakest.2.1 13 = .ok (.iaload, 1) := by decide +kernel
theorem D10_weakest_14 : decode m10_weakest.2.1 14 = .ok (.if_icmp .ge 110, 3) := by decide +kernel
theorem D10_weakest_17 : decode m10_weakest.2.1 17 = .ok (.aload_n 0, 1) := by decide +kernel
theorem D10_weakest_18 : decode m10_weakest.2.1 18 = .ok (.getfield 87, 3) := by decide +kernel
theorem D10_weakest_21 : decode m10_weakest.2.1 21 = .ok (.bipush 10, 2) := by decide +kernel
theorem D10_weakest_23 : decode m10_weakest.2.1 23 = .ok (.iload_n 1, 1) := by decide +kernel
theorem D10_weakest_24 : decode m10_weakest.2.1 24 = .ok (.imul, 1) := by decide +kernel
theorem D10_weakest_25 : decode m10_weakest.2.1 25 = .ok (.iload 5, 2) := by decide +kernel
theorem D10_weakest_27 : decode m10_weakest.2.1 27 = .ok (.iadd, 1) := by decide +kernel
theorem D10_weakest_28 : decode m10_weakest.2.1 28 = .ok (.iaload, 1) := by decide +kernel
theorem D10_weakest_29 : decode m10_weakest.2.1 29 = .ok (.istore 6, 2) := by decide +kernel
theorem D10_weakest_31 : decode m10_weakest.2.1 31 = .ok (.aload_n 0, 1) := by decide +kernel
theorem D10_weakest_32 : decode m10_weakest.2.1 32 = .ok (.iload_n 1, 1) := by decide +kernel
theorem D10_weakest_33 : decode m10_weakest.2.1 33 = .ok (.iload 5, 2) := by decide +kernel
theorem D10_weakest_35 : decode m10_weakest.2.1 35 = .ok (.invokevirtual 328, 3) := by decide +kernel
theorem D10_weakest_38 : decode m10_weakest.2.1 38 = .ok (.ifCond .eq 80, 3) := by decide +kernel
theorem D10_weakest_41 : decode m10_weakest.2.1 41 = .ok (.aload_n 0, 1) := by decide +kernel
theorem D10_weakest_42 : decode m10_weakest.2.1 42 = .ok (.getfield 25, 3) := by decide +kernel
theorem D10_weakest_45 : decode m10_weakest.2.1 45 = .ok (.iload 5, 2) := by decide +kernel
theorem D10_weakest_47 : decode m10_weakest.2.1 47 = .ok (.iaload, 1) := by decide +kernel
theorem D10_weakest_48 : decode m10_weakest.2.1 48 = .ok (.aload_n 0, 1) := by decide +kernel
theorem D10_weakest_49 : decode m10_weakest.2.1 49 = .ok (.getfield 40, 3) := by decide +kernel
theorem D10_weakest_52 : decode m10_weakest.2.1 52 = .ok (.iload_n 2, 1) := by decide +kernel
theorem D10_weakest_53 : decode m10_weakest.2.1 53 = .ok (.iaload, 1) := by decide +kernel
theorem D10_weakest_54 : decode m10_weakest.2.1 54 = .ok (.if_icmp .ne 7, 3) := by decide +kernel
theorem D10_weakest_57 : decode m10_weakest.2.1 57 = .ok (.iconst 1, 1) := by decide +kernel
theorem D10_weakest_58 : decode m10_weakest.2.1 58 = .ok (.goto 4, 3) := by decide +kernel
theorem D10_weakest_61 : decode m10_weakest.2.1 61 = .ok (.iconst 0, 1) := by decide +kernel
theorem D10_weakest_62 : decode m10_weakest.2.1 62 = .ok (.iload_n 3, 1) := by decide +kernel
theorem D10_weakest_63 : decode m10_weakest.2.1 63 = .ok (.if_icmp .ne 55, 3) := by decide +kernel
theorem D10_weakest_66 : decode m10_weakest.2.1 66 = .ok (.iload 6, 2) := by decide +kernel
theorem D10_weakest_68 : decode m10_weakest.2.1 68 = .ok (.aload_n 0, 1) := by decide +kernel
theorem D10_weakest_69 : decode m10_weakest.2.1 69 = .ok (.getfield 46, 3) := by decide +kernel
theorem D10_weakest_72 : decode m10_weakest.2.1 72 = .ok (.iload_n 2, 1) := by decide +kernel
theorem D10_weakest_73 : decode m10_weakest.2.1 73 = .ok (.iaload, 1) := by decide +kernel
theorem D10_weakest_74 : decode m10_weakest.2.1 74 = .ok (.if_icmp .lt 44, 3) := by decide +kernel
theorem D10_weakest_77 : decode m10_weakest.2.1 77 = .ok (.iload 6, 2) := by decide +kernel
theorem D10_weakest_79 : decode m10_weakest.2.1 79 = .ok (.aload_n 0, 1) := by decide +kernel
theorem D10_weakest_80 : decode m10_weakest.2.1 80 = .ok (.getfield 49, 3) := by decide +kernel
theorem D10_weakest_83 : decode m10_weakest.2.1 83 = .ok (.iload_n 2, 1) := by decide +kernel
theorem D10_weakest_84 : decode m10_weakest.2.1 84 = .ok (.iaload, 1) := by decide +kernel
theorem D10_weakest_85 : decode m10_weakest.2.1 85 = .ok (.if_icmp .le 6, 3) := by decide +kernel
theorem D10_weakest_88 : decode m10_weakest.2.1 88 = .ok (.goto 30, 3) := by decide +kernel
theorem D10_weakest_91 : decode m10_weakest.2.1 91 = .ok (.iload 4, 2) := by decide +kernel
theorem D10_weakest_93 : decode m10_weakest.2.1 93 = .ok (.iconst (-1), 1) := by decide +kernel
theorem D10_weakest_94 : decode m10_weakest.2.1 94 = .ok (.if_icmp .eq 20, 3) := by decide +kernel
theorem D10_weakest_97 : decode m10_weakest.2.1 97 = .ok (.iload 6, 2) := by decide +kernel
theorem D10_weakest_99 : decode m10_weakest.2.1 99 = .ok (.aload_n 0, 1) := by decide +kernel
theorem D10_weakest_100 : decode m10_weakest.2.1 100 = .ok (.getfield 87, 3) := by decide +kernel
theorem D10_weakest_103 : decode m10_weakest.2.1 103 = .ok (.bipush 10, 2) := by decide +kernel
theorem D10_weakest_105 : decode m10_weakest.2.1 105 = .ok (.iload_n 1, 1) := by decide +kernel
theorem D10_weakest_106 : decode m10_weakest.2.1 106 = .ok (.imul, 1) := by decide +kernel
theorem D10_weakest_107 : decode m10_weakest.2.1 107 = .ok (.iload 4, 2) := by decide +kernel
theorem D10_weakest_109 : decode m10_weakest.2.1 109 = .ok (.iadd, 1) := by decide +kernel
theorem D10_weakest_110 : decode m10_weakest.2.1 110 = .ok (.iaload, 1) := by decide +kernel
theorem D10_weakest_111 : decode m10_weakest.2.1 111 = .ok (.if_icmp .ge 7, 3) := by decide +kernel
theorem D10_weakest_114 : decode m10_weakest.2.1 114 = .ok (.iload 5, 2) := by decide +kernel
theorem D10_weakest_116 : decode m10_weakest.2.1 116 = .ok (.istore 4, 2) := by decide +kernel
theorem D10_weakest_118 : decode m10_weakest.2.1 118 = .ok (.iinc 5 1, 3) := by decide +kernel
theorem D10_weakest_121 : decode m10_weakest.2.1 121 = .ok (.goto (-115), 3) := by decide +kernel
theorem D10_weakest_124 : decode m10_weakest.2.1 124 = .ok (.iload 4, 2) := by decide +kernel
theorem D10_weakest_126 : decode m10_weakest.2.1 126 = .ok (.ireturn, 1) := by decide +kernel
theorem D10_comes_0 : decode m10_comes.2.1 0 = .ok (.aload_n 0, 1) := by decide +kernel
theorem D10_comes_1 : decode m10_comes.2.1 1 = .ok (.iload_n 1, 1) := by decide +kernel
theorem D10_comes_2 : decode m10_comes.2.1 2 = .ok (.iload_n 2, 1) := by decide +kernel
theorem D10_comes_3 : decode m10_comes.2.1 3 = .ok (.iconst 1, 1) := by decide +kernel
theorem D10_comes_4 : decode m10_comes.2.1 4 = .ok (.invokevirtual 371, 3) := by decide +kernel
theorem D10_comes_7 : decode m10_comes.2.1 7 = .ok (.istore_n 3, 1) := by decide +kernel
theorem D10_comes_8 : decode m10_comes.2.1 8 = .ok (.iload_n 3, 1) := by decide +kernel
theorem D10_comes_9 : decode m10_comes.2.1 9 = .ok (.iconst (-1), 1) := by decide +kernel
theorem D10_comes_10 : decode m10_comes.2.1 10 = .ok (.if_icmp .eq 7, 3) := by decide +kernel
theorem D10_comes_13 : decode m10_comes.2.1 13 = .ok (.iload_n 3, 1) := by decide +kernel
theorem D10_comes_14 : decode m10_comes.2.1 14 = .ok (.goto 10, 3) := by decide +kernel
theorem D10_comes_17 : decode m10_comes.2.1 17 = .ok (.aload_n 0, 1) := by decide +kernel
theorem D10_comes_18 : decode m10_comes.2.1 18 = .ok (.iload_n 1, 1) := by decide +kernel
theorem D10_comes_19 : decode m10_comes.2.1 19 = .ok (.iload_n 2, 1) := by decide +kernel
theorem D10_comes_20 : decode m10_comes.2.1 20 = .ok (.iconst 0, 1) := by decide +kernel
theorem D10_comes_21 : decode m10_comes.2.1 21 = .ok (.invokevirtual 371, 3) := by decide +kernel
theorem D10_comes_24 : decode m10_comes.2.1 24 = .ok (.istore 4, 2) := by decide +kernel
theorem D10_comes_26 : decode m10_comes.2.1 26 = .ok (.aload_n 0, 1) := by decide +kernel
theorem D10_comes_27 : decode m10_comes.2.1 27 = .ok (.getfield 102, 3) := by decide +kernel
theorem D10_comes_30 : decode m10_comes.2.1 30 = .ok (.bipush 8, 2) := by decide +kernel
theorem D10_comes_32 : decode m10_comes.2.1 32 = .ok (.iload_n 1, 1) := by decide +kernel
theorem D10_comes_33 : decode m10_comes.2.1 33 = .ok (.imul, 1) := by decide +kernel
theorem D10_comes_34 : decode m10_comes.2.1 34 = .ok (.iload_n 2, 1) := by decide +kernel
theorem D10_comes_35 : decode m10_comes.2.1 35 = .ok (.iadd, 1) := by decide +kernel
theorem D10_comes_36 : decode m10_comes.2.1 36 = .ok (.iload_n 3, 1) := by decide +kernel
theorem D10_comes_37 : decode m10_comes.2.1 37 = .ok (.iconst (-1), 1) := by decide +kernel
theorem D10_comes_38 : decode m10_comes.2.1 38 = .ok (.if_icmp .eq 7, 3) := by decide +kernel
theorem D10_comes_41 : decode m10_comes.2.1 41 = .ok (.iconst 1, 1) := by decide +kernel
theorem D10_comes_42 : decode m10_comes.2.1 42 = .ok (.goto 14, 3) := by decide +kernel
theorem D10_comes_45 : decode m10_comes.2.1 45 = .ok (.iload 4, 2) := by decide +kernel
theorem D10_comes_47 : decode m10_comes.2.1 47 = .ok (.iconst (-1), 1) := by decide +kernel
theorem D10_comes_48 : decode m10_comes.2.1 48 = .ok (.if_icmp .eq 7, 3) := by decide +kernel
theorem D10_comes_51 : decode m10_comes.2.1 51 = .ok (.iconst 2, 1) := by decide +kernel
theorem D10_comes_52 : decode m10_comes.2.1 52 = .ok (.goto 4, 3) := by decide +kernel
theorem D10_comes_55 : decode m10_comes.2.1 55 = .ok (.iconst 0, 1) := by decide +kernel
theorem D10_comes_56 : decode m10_comes.2.1 56 = .ok (.iastore, 1) := by decide +kernel
theorem D10_comes_57 : decode m10_comes.2.1 57 = .ok (.iload 4, 2) := by decide +kernel
theorem D10_comes_59 : decode m10_comes.2.1 59 = .ok (.iconst (-1), 1) := by decide +kernel
theorem D10_comes_60 : decode m10_comes.2.1 60 = .ok (.if_icmp .ne 4, 3) := by decide +kernel
theorem D10_comes_63 : decode m10_comes.2.1 63 = .ok (.return_, 1) := by decide +kernel
theorem D10_comes_64 : decode m10_comes.2.1 64 = .ok (.aload_n 0, 1) := by decide +kernel
theorem D10_comes_65 : decode m10_comes.2.1 65 = .ok (.getfield 96, 3) := by decide +kernel
theorem D10_comes_68 : decode m10_comes.2.1 68 = .ok (.bipush 10, 2) := by decide +kernel
theorem D10_comes_70 : decode m10_comes.2.1 70 = .ok (.iload_n 1, 1) := by decide +kernel
theorem D10_comes_71 : decode m10_comes.2.1 71 = .ok (.imul, 1) := by decide +kernel
theorem D10_comes_72 : decode m10_comes.2.1 72 = .ok (.iload 4, 2) := by decide +kernel
theorem D10_comes_74 : decode m10_comes.2.1 74 = .ok (.iadd, 1) := by decide +kernel
theorem D10_comes_75 : decode m10_comes.2.1 75 = .ok (.iconst 1, 1) := by decide +kernel
theorem D10_comes_76 : decode m10_comes.2.1 76 = .ok (.iastore, 1) := by decide +kernel
theorem D10_comes_77 : decode m10_comes.2.1 77 = .ok (.aload_n 0, 1) := by decide +kernel
theorem D10_comes_78 : decode m10_comes.2.1 78 = .ok (.getfield 99, 3) := by decide +kernel
theorem D10_comes_81 : decode m10_comes.2.1 81 = .ok (.bipush 10, 2) := by decide +kernel
theorem D10_comes_83 : decode m10_comes.2.1 83 = .ok (.iload_n 1, 1) := by decide +kernel
theorem D10_comes_84 : decode m10_comes.2.1 84 = .ok (.imul, 1) := by decide +kernel
theorem D10_comes_85 : decode m10_comes.2.1 85 = .ok (.iload 4, 2) := by decide +kernel
theorem D10_comes_87 : decode m10_comes.2.1 87 = .ok (.iadd, 1) := by decide +kernel
theorem D10_comes_88 : decode m10_comes.2.1 88 = .ok (.aload_n 0, 1) := by decide +kernel
theorem D10_comes_89 : decode m10_comes.2.1 89 = .ok (.getfield 40, 3) := by decide +kernel
theorem D10_comes_92 : decode m10_comes.2.1 92 = .ok (.iload_n 2, 1) := by decide +kernel
theorem D10_comes_93 : decode m10_comes.2.1 93 = .ok (.iaload, 1) := by decide +kernel
theorem D10_comes_94 : decode m10_comes.2.1 94 = .ok (.iastore, 1) := by decide +kernel
theorem D10_comes_95 : decode m10_comes.2.1 95 = .ok (.iload_n 3, 1) := by decide +kernel
theorem D10_comes_96 : decode m10_comes.2.1 96 = .ok (.iconst (-1), 1) := by decide +kernel
theorem D10_comes_97 : decode m10_comes.2.1 97 = .ok (.if_icmp .ne 30, 3) := by decide +kernel
theorem D10_comes_100 : decode m10_comes.2.1 100 = .ok (.aload_n 0, 1) := by decide +kernel
theorem D10_comes_101 : decode m10_comes.2.1 101 = .ok (.getfield 84, 3) := by decide +kernel
theorem D10_comes_104 : decode m10_comes.2.1 104 = .ok (.iconst 5, 1) := by decide +kernel
theorem D10_comes_105 : decode m10_comes.2.1 105 = .ok (.iload_n 1, 1) := by decide +kernel
theorem D10_comes_106 : decode m10_comes.2.1 106 = .ok (.imul, 1) := by decide +kernel
theorem D10_comes_107 : decode m10_comes.2.1 107 = .ok (.aload_n 0, 1) := by decide +kernel
theorem D10_comes_108 : decode m10_comes.2.1 108 = .ok (.getfield 40, 3) := by decide +kernel
theorem D10_comes_111 : decode m10_comes.2.1 111 = .ok (.iload_n 2, 1) := by decide +kernel
theorem D10_comes_112 : decode m10_comes.2.1 112 = .ok (.iaload, 1) := by decide +kernel
theorem D10_comes_113 : decode m10_comes.2.1 113 = .ok (.iadd, 1) := by decide +kernel
theorem D10_comes_114 : decode m10_comes.2.1 114 = .ok (.dup2, 1) := by decide +kernel
theorem D10_comes_115 : decode m10_comes.2.1 115 = .ok (.iaload, 1) := by decide +kernel
theorem D10_comes_116 : decode m10_comes.2.1 116 = .ok (.iconst 1, 1) := by decide +kernel
theorem D10_comes_117 : decode m10_comes.2.1 117 = .ok (.aload_n 0, 1) := by decide +kernel
theorem D10_comes_118 : decode m10_comes.2.1 118 = .ok (.getfield 28, 3) := by decide +kernel
theorem D10_comes_121 : decode m10_comes.2.1 121 = .ok (.iload 4, 2) := by decide +kernel
theorem D10_comes_123 : decode m10_comes.2.1 123 = .ok (.iaload, 1) := by decide +kernel
theorem D10_comes_124 : decode m10_comes.2.1 124 = .ok (.ishl, 1) := by decide +kernel
theorem D10_comes_125 : decode m10_comes.2.1 125 = .ok (.ior, 1) := by decide +kernel
theorem D10_comes_126 : decode m10_comes.2.1 126 = .ok (.iastore, 1) := by decide +kernel
theorem D10_comes_127 : decode m10_comes.2.1 127 = .ok (.return_, 1) := by decide +kernel
theorem D10_passes_0 : decode m10_passes.2.1 0 = .ok (.aload_n 0, 1) := by decide +kernel
theorem D10_passes_1 : decode m10_passes.2.1 1 = .ok (.iload_n 1, 1) := by decide +kernel
theorem D10_passes_2 : decode m10_passes.2.1 2 = .ok (.iload_n 2, 1) := by decide +kernel
theorem D10_passes_3 : decode m10_passes.2.1 3 = .ok (.invokevirtual 375, 3) := by decide +kernel
theorem D10_passes_6 : decode m10_passes.2.1 6 = .ok (.ifCond .eq 8, 3) := by decide +kernel
theorem D10_passes_9 : decode m10_passes.2.1 9 = .ok (.aload_n 0, 1) := by decide +kernel
theorem D10_passes_10 : decode m10_passes.2.1 10 = .ok (.iload_n 1, 1) := by decide +kernel
theorem D10_passes_11 : decode m10_passes.2.1 11 = .ok (.invokevirtual 379, 3) := by decide +kernel
theorem D10_passes_14 : decode m10_passes.2.1 14 = .ok (.iconst 0, 1) := by decide +kernel
theorem D10_passes_15 : decode m10_passes.2.1 15 = .ok (.istore_n 3, 1) := by decide +kernel
theorem D10_passes_16 : decode m10_passes.2.1 16 = .ok (.iload_n 3, 1) := by decide +kernel
theorem D10_passes_17 : decode m10_passes.2.1 17 = .ok (.aload_n 0, 1) := by decide +kernel
theorem D10_passes_18 : decode m10_passes.2.1 18 = .ok (.getfield 13, 3) := by decide +kernel
theorem D10_passes_21 : decode m10_passes.2.1 21 = .ok (.iconst 1, 1) := by decide +kernel
theorem D10_passes_22 : decode m10_passes.2.1 22 = .ok (.iaload, 1) := by decide +kernel
theorem D10_passes_23 : decode m10_passes.2.1 23 = .ok (.if_icmp .ge 70, 3) := by decide +kernel
theorem D10_passes_26 : decode m10_passes.2.1 26 = .ok (.aload_n 0, 1) := by decide +kernel
theorem D10_passes_27 : decode m10_passes.2.1 27 = .ok (.getfield 356, 3) := by decide +kernel
theorem D10_passes_30 : decode m10_passes.2.1 30 = .ok (.iconst 4, 1) := by decide +kernel
theorem D10_passes_31 : decode m10_passes.2.1 31 = .ok (.if_icmp .eq 62, 3) := by decide +kernel
theorem D10_passes_34 : decode m10_passes.2.1 34 = .ok (.aload_n 0, 1) := by decide +kernel
theorem D10_passes_35 : decode m10_passes.2.1 35 = .ok (.iload_n 1, 1) := by decide +kernel
theorem D10_passes_36 : decode m10_passes.2.1 36 = .ok (.iload_n 3, 1) := by decide +kernel
theorem D10_passes_37 : decode m10_passes.2.1 37 = .ok (.invokevirtual 328, 3) := by decide +kernel
theorem D10_passes_40 : decode m10_passes.2.1 40 = .ok (.ifCond .ne 6, 3) := by decide +kernel
theorem D10_passes_43 : decode m10_passes.2.1 43 = .ok (.goto 44, 3) := by decide +kernel
theorem D10_passes_46 : decode m10_passes.2.1 46 = .ok (.aload_n 0, 1) := by decide +kernel
theorem D10_passes_47 : decode m10_passes.2.1 47 = .ok (.iload_n 1, 1) := by decide +kernel
theorem D10_passes_48 : decode m10_passes.2.1 48 = .ok (.iload_n 3, 1) := by decide +kernel
theorem D10_passes_49 : decode m10_passes.2.1 49 = .ok (.invokevirtual 353, 3) := by decide +kernel
theorem D10_passes_52 : decode m10_passes.2.1 52 = .ok (.bipush 10, 2) := by decide +kernel
theorem D10_passes_54 : decode m10_passes.2.1 54 = .ok (.iload_n 1, 1) := by decide +kernel
theorem D10_passes_55 : decode m10_passes.2.1 55 = .ok (.imul, 1) := by decide +kernel
theorem D10_passes_56 : decode m10_passes.2.1 56 = .ok (.iload_n 3, 1) := by decide +kernel
theorem D10_passes_57 : decode m10_passes.2.1 57 = .ok (.iadd, 1) := by decide +kernel
theorem D10_passes_58 : decode m10_passes.2.1 58 = .ok (.istore 4, 2) := by decide +kernel
theorem D10_passes_60 : decode m10_passes.2.1 60 = .ok (.aload_n 0, 1) := by decide +kernel
theorem D10_passes_61 : decode m10_passes.2.1 61 = .ok (.getfield 87, 3) := by decide +kernel
theorem D10_passes_64 : decode m10_passes.2.1 64 = .ok (.iload 4, 2) := by decide +kernel
theorem D10_passes_66 : decode m10_passes.2.1 66 = .ok (.sipush 199, 3) := by decide +kernel
theorem D10_passes_69 : decode m10_passes.2.1 69 = .ok (.aload_n 0, 1) := by decide +kernel
theorem D10_passes_70 : decode m10_passes.2.1 70 = .ok (.getfield 87, 3) := by decide +kernel
theorem D10_passes_73 : decode m10_passes.2.1 73 = .ok (.iload 4, 2) := by decide +kernel
theorem D10_passes_75 : decode m10_passes.2.1 75 = .ok (.iaload, 1) := by decide +kernel
theorem D10_passes_76 : decode m10_passes.2.1 76 = .ok (.aload_n 0, 1) := by decide +kernel
theorem D10_passes_77 : decode m10_passes.2.1 77 = .ok (.iconst 0, 1) := by decide +kernel
theorem D10_passes_78 : decode m10_passes.2.1 78 = .ok (.iconst 1, 1) := by decide +kernel
theorem D10_passes_79 : decode m10_passes.2.1 79 = .ok (.invokevirtual 366, 3) := by decide +kernel
theorem D10_passes_82 : decode m10_passes.2.1 82 = .ok (.iadd, 1) := by decide +kernel
theorem D10_passes_83 : decode m10_passes.2.1 83 = .ok (.invokestatic 382, 3) := by decide +kernel
theorem D10_passes_86 : decode m10_passes.2.1 86 = .ok (.iastore, 1) := by decide +kernel
theorem D10_passes_87 : decode m10_passes.2.1 87 = .ok (.iinc 3 1, 3) := by decide +kernel
theorem D10_passes_90 : decode m10_passes.2.1 90 = .ok (.goto (-74), 3) := by decide +kernel
theorem D10_passes_93 : decode m10_passes.2.1 93 = .ok (.iconst 0, 1) := by decide +kernel
theorem D10_passes_94 : decode m10_passes.2.1 94 = .ok (.istore_n 3, 1) := by decide +kernel
theorem D10_passes_95 : decode m10_passes.2.1 95 = .ok (.iload_n 3, 1) := by decide +kernel
theorem D10_passes_96 : decode m10_passes.2.1 96 = .ok (.aload_n 0, 1) := by decide +kernel
theorem D10_passes_97 : decode m10_passes.2.1 97 = .ok (.getfield 13, 3) := by decide +kernel
theorem D10_passes_100 : decode m10_passes.2.1 100 = .ok (.iconst 1, 1) := by decide +kernel
theorem D10_passes_101 : decode m10_passes.2.1 101 = .ok (.iaload, 1) := by decide +kernel
theorem D10_passes_102 : decode m10_passes.2.1 102 = .ok (.if_icmp .ge 38, 3) := by decide +kernel
theorem D10_passes_105 : decode m10_passes.2.1 105 = .ok (.aload_n 0, 1) := by decide +kernel
theorem D10_passes_106 : decode m10_passes.2.1 106 = .ok (.iload_n 1, 1) := by decide +kernel
theorem D10_passes_107 : decode m10_passes.2.1 107 = .ok (.iload_n 3, 1) := by decide +kernel
theorem D10_passes_108 : decode m10_passes.2.1 108 = .ok (.invokevirtual 328, 3) := by decide +kernel
theorem D10_passes_111 : decode m10_passes.2.1 111 = .ok (.ifCond .eq 23, 3) := by decide +kernel
theorem D10_passes_114 : decode m10_passes.2.1 114 = .ok (.aload_n 0, 1) := by decide +kernel
theorem D10_passes_115 : decode m10_passes.2.1 115 = .ok (.getfield 90, 3) := by decide +kernel
theorem D10_passes_118 : decode m10_passes.2.1 118 = .ok (.bipush 10, 2) := by decide +kernel
theorem D10_passes_120 : decode m10_passes.2.1 120 = .ok (.iload_n 1, 1) := by decide +kernel
theorem D10_passes_121 : decode m10_passes.2.1 121 = .ok (.imul, 1) := by decide +kernel
theorem D10_passes_122 : decode m10_passes.2.1 122 = .ok (.iload_n 3, 1) := by decide +kernel
theorem D10_passes_123 : decode m10_passes.2.1 123 = .ok (.iadd, 1) := by decide +kernel
theorem D10_passes_124 : decode m10_passes.2.1 124 = .ok (.iaload, 1) := by decide +kernel
theorem D10_passes_125 : decode m10_passes.2.1 125 = .ok (.ifCond .ne 9, 3) := by decide +kernel
theorem D10_passes_128 : decode m10_passes.2.1 128 = .ok (.aload_n 0, 1) := by decide +kernel
theorem D10_passes_129 : decode m10_passes.2.1 129 = .ok (.iload_n 1, 1) := by decide +kernel
theorem D10_passes_130 : decode m10_passes.2.1 130 = .ok (.iload_n 3, 1) := by decide +kernel
theorem D10_passes_131 : decode m10_passes.2.1 131 = .ok (.invokevirtual 384, 3) := by decide +kernel
theorem D10_passes_134 : decode m10_passes.2.1 134 = .ok (.iinc 3 1, 3) := by decide +kernel
theorem D10_passes_137 : decode m10_passes.2.1 137 = .ok (.goto (-42), 3) := by decide +kernel
theorem D10_passes_140 : decode m10_passes.2.1 140 = .ok (.iconst 0, 1) := by decide +kernel
theorem D10_passes_141 : decode m10_passes.2.1 141 = .ok (.istore_n 3, 1) := by decide +kernel
theorem D10_passes_142 : decode m10_passes.2.1 142 = .ok (.iload_n 3, 1) := by decide +kernel
theorem D10_passes_143 : decode m10_passes.2.1 143 = .ok (.aload_n 0, 1) := by decide +kernel
theorem D10_passes_144 : decode m10_passes.2.1 144 = .ok (.getfield 13, 3) := by decide +kernel
theorem D10_passes_147 : decode m10_passes.2.1 147 = .ok (.iconst 2, 1) := by decide +kernel
theorem D10_passes_148 : decode m10_passes.2.1 148 = .ok (.iaload, 1) := by decide +kernel
theorem D10_passes_149 : decode m10_passes.2.1 149 = .ok (.if_icmp .ge 30, 3) := by decide +kernel
theorem D10_passes_152 : decode m10_passes.2.1 152 = .ok (.aload_n 0, 1) := by decide +kernel
theorem D10_passes_153 : decode m10_passes.2.1 153 = .ok (.getfield 43, 3) := by decide +kernel
theorem D10_passes_156 : decode m10_passes.2.1 156 = .ok (.iload_n 3, 1) := by decide +kernel
theorem D10_passes_157 : decode m10_passes.2.1 157 = .ok (.iaload, 1) := by decide +kernel
theorem D10_passes_158 : decode m10_passes.2.1 158 = .ok (.aload_n 0, 1) := by decide +kernel
theorem D10_passes_159 : decode m10_passes.2.1 159 = .ok (.getfield 75, 3) := by decide +kernel
theorem D10_passes_162 : decode m10_passes.2.1 162 = .ok (.iload_n 1, 1) := by decide +kernel
theorem D10_passes_163 : decode m10_passes.2.1 163 = .ok (.iaload, 1) := by decide +kernel
theorem D10_passes_164 : decode m10_passes.2.1 164 = .ok (.if_icmp .ne 9, 3) := by decide +kernel
theorem D10_passes_167 : decode m10_passes.2.1 167 = .ok (.aload_n 0, 1) := by decide +kernel
theorem D10_passes_168 : decode m10_passes.2.1 168 = .ok (.iload_n 1, 1) := by decide +kernel
theorem D10_passes_169 : decode m10_passes.2.1 169 = .ok (.iload_n 3, 1) := by decide +kernel
theorem D10_passes_170 : decode m10_passes.2.1 170 = .ok (.invokevirtual 387, 3) := by decide +kernel
theorem D10_passes_173 : decode m10_passes.2.1 173 = .ok (.iinc 3 1, 3) := by decide +kernel
theorem D10_passes_176 : decode m10_passes.2.1 176 = .ok (.goto (-34), 3) := by decide +kernel
theorem D10_passes_179 : decode m10_passes.2.1 179 = .ok (.aload_n 0, 1) := by decide +kernel
theorem D10_passes_180 : decode m10_passes.2.1 180 = .ok (.getfield 75, 3) := by decide +kernel
theorem D10_passes_183 : decode m10_passes.2.1 183 = .ok (.iload_n 1, 1) := by decide +kernel
theorem D10_passes_184 : decode m10_passes.2.1 184 = .ok (.dup2, 1) := by decide +kernel
theorem D10_passes_185 : decode m10_passes.2.1 185 = .ok (.iaload, 1) := by decide +kernel
theorem D10_passes_186 : decode m10_passes.2.1 186 = .ok (.iconst 1, 1) := by decide +kernel
theorem D10_passes_187 : decode m10_passes.2.1 187 = .ok (.iadd, 1) := by decide +kernel
theorem D10_passes_188 : decode m10_passes.2.1 188 = .ok (.iastore, 1) := by decide +kernel
theorem D10_passes_189 : decode m10_passes.2.1 189 = .ok (.return_, 1) := by decide +kernel
theorem D10_goesOn_0 : decode m10_goesOn.2.1 0 = .ok (.iconst 0, 1) := by decide +kernel
theorem D10_goesOn_1 : decode m10_goesOn.2.1 1 = .ok (.istore_n 2, 1) := by decide +kernel
theorem D10_goesOn_2 : decode m10_goesOn.2.1 2 = .ok (.iload_n 2, 1) := by decide +kernel
theorem D10_goesOn_3 : decode m10_goesOn.2.1 3 = .ok (.iload_n 1, 1) := by decide +kernel
theorem D10_goesOn_4 : decode m10_goesOn.2.1 4 = .ok (.if_icmp .ge 15, 3) := by decide +kernel
theorem D10_goesOn_7 : decode m10_goesOn.2.1 7 = .ok (.aload_n 0, 1) := by decide +kernel
theorem D10_goesOn_8 : decode m10_goesOn.2.1 8 = .ok (.iconst 1, 1) := by decide +kernel
theorem D10_goesOn_9 : decode m10_goesOn.2.1 9 = .ok (.iconst 0, 1) := by decide +kernel
theorem D10_goesOn_10 : decode m10_goesOn.2.1 10 = .ok (.invokevirtual 390, 3) := by decide +kernel
theorem D10_goesOn_13 : decode m10_goesOn.2.1 13 = .ok (.iinc 2 1, 3) := by decide +kernel
theorem D10_goesOn_16 : decode m10_goesOn.2.1 16 = .ok (.goto (-14), 3) := by decide +kernel
theorem D10_goesOn_19 : decode m10_goesOn.2.1 19 = .ok (.return_, 1) := by decide +kernel
theorem D10_runs_0 : decode m10_runs.2.1 0 = .ok (.aload_n 0, 1) := by decide +kernel
theorem D10_runs_1 : decode m10_runs.2.1 1 = .ok (.iconst 1, 1) := by decide +kernel
theorem D10_runs_2 : decode m10_runs.2.1 2 = .ok (.iconst 0, 1) := by decide +kernel
theorem D10_runs_3 : decode m10_runs.2.1 3 = .ok (.invokevirtual 394, 3) := by decide +kernel
theorem D10_runs_6 : decode m10_runs.2.1 6 = .ok (.aload_n 0, 1) := by decide +kernel
theorem D10_runs_7 : decode m10_runs.2.1 7 = .ok (.iload_n 1, 1) := by decide +kernel
theorem D10_runs_8 : decode m10_runs.2.1 8 = .ok (.invokevirtual 397, 3) := by decide +kernel
theorem D10_runs_11 : decode m10_runs.2.1 11 = .ok (.return_, 1) := by decide +kernel
theorem D10_manyOf_0 : decode m10_manyOf.2.1 0 = .ok (.iconst 0, 1) := by decide +kernel
theorem D10_manyOf_1 : decode m10_manyOf.2.1 1 = .ok (.istore_n 3, 1) := by decide +kernel
theorem D10_manyOf_2 : decode m10_manyOf.2.1 2 = .ok (.iconst 0, 1) := by decide +kernel
theorem D10_manyOf_3 : decode m10_manyOf.2.1 3 = .ok (.istore 4, 2) := by decide +kernel
theorem D10_manyOf_5 : decode m10_manyOf.2.1 5 = .ok (.iload 4, 2) := by decide +kernel
theorem D10_manyOf_7 : decode m10_manyOf.2.1 7 = .ok (.aload_n 0, 1) := by decide +kernel
theorem D10_manyOf_8 : decode m10_manyOf.2.1 8 = .ok (.getfield 13, 3) := by decide +kernel
theorem D10_manyOf_11 : decode m10_manyOf.2.1 11 = .ok (.iconst 1, 1) := by decide +kernel
theorem D10_manyOf_12 : decode m10_manyOf.2.1 12 = .ok (.iaload, 1) := by decide +kernel
theorem D10_manyOf_13 : decode m10_manyOf.2.1 13 = .ok (.if_icmp .ge 33, 3) := by decide +kernel
theorem D10_manyOf_16 : decode m10_manyOf.2.1 16 = .ok (.iload_n 3, 1) := by decide +kernel
theorem D10_manyOf_17 : decode m10_manyOf.2.1 17 = .ok (.aload_n 0, 1) := by decide +kernel
theorem D10_manyOf_18 : decode m10_manyOf.2.1 18 = .ok (.getfield 96, 3) := by decide +kernel
theorem D10_manyOf_21 : decode m10_manyOf.2.1 21 = .ok (.bipush 10, 2) := by decide +kernel
theorem D10_manyOf_23 : decode m10_manyOf.2.1 23 = .ok (.iload_n 1, 1) := by decide +kernel
theorem D10_manyOf_24 : decode m10_manyOf.2.1 24 = .ok (.imul, 1) := by decide +kernel
theorem D10_manyOf_25 : decode m10_manyOf.2.1 25 = .ok (.iload 4, 2) := by decide +kernel
theorem D10_manyOf_27 : decode m10_manyOf.2.1 27 = .ok (.iadd, 1) := by decide +kernel
theorem D10_manyOf_28 : decode m10_manyOf.2.1 28 = .ok (.iaload, 1) := by decide +kernel
theorem D10_manyOf_29 : decode m10_manyOf.2.1 29 = .ok (.iload_n 2, 1) := by decide +kernel
theorem D10_manyOf_30 : decode m10_manyOf.2.1 30 = .ok (.if_icmp .ne 7, 3) := by decide +kernel
theorem D10_manyOf_33 : decode m10_manyOf.2.1 33 = .ok (.iconst 1, 1) := by decide +kernel
theorem D10_manyOf_34 : decode m10_manyOf.2.1 34 = .ok (.goto 4, 3) := by decide +kernel
theorem D10_manyOf_37 : decode m10_manyOf.2.1 37 = .ok (.iconst 0, 1) := by decide +kernel
theorem D10_manyOf_38 : decode m10_manyOf.2.1 38 = .ok (.iadd, 1) := by decide +kernel
theorem D10_manyOf_39 : decode m10_manyOf.2.1 39 = .ok (.istore_n 3, 1) := by decide +kernel
theorem D10_manyOf_40 : decode m10_manyOf.2.1 40 = .ok (.iinc 4 1, 3) := by decide +kernel
theorem D10_manyOf_43 : decode m10_manyOf.2.1 43 = .ok (.goto (-38), 3) := by decide +kernel
theorem D10_manyOf_46 : decode m10_manyOf.2.1 46 = .ok (.iload_n 3, 1) := by decide +kernel
theorem D10_manyOf_47 : decode m10_manyOf.2.1 47 = .ok (.ireturn, 1) := by decide +kernel
theorem D10_needsOf_0 : decode m10_needsOf.2.1 0 = .ok (.iconst 0, 1) := by decide +kernel
theorem D10_needsOf_1 : decode m10_needsOf.2.1 1 = .ok (.istore_n 3, 1) := by decide +kernel
theorem D10_needsOf_2 : decode m10_needsOf.2.1 2 = .ok (.iconst 0, 1) := by decide +kernel
theorem D10_needsOf_3 : decode m10_needsOf.2.1 3 = .ok (.istore 4, 2) := by decide +kernel
theorem D10_needsOf_5 : decode m10_needsOf.2.1 5 = .ok (.iload 4, 2) := by decide +kernel
theorem D10_needsOf_7 : decode m10_needsOf.2.1 7 = .ok (.aload_n 0, 1) := by decide +kernel
theorem D10_needsOf_8 : decode m10_needsOf.2.1 8 = .ok (.getfield 13, 3) := by decide +kernel
theorem D10_needsOf_11 : decode m10_needsOf.2.1 11 = .ok (.iconst 2, 1) := by decide +kernel
theorem D10_needsOf_12 : decode m10_needsOf.2.1 12 = .ok (.iaload, 1) := by decide +kernel
theorem D10_needsOf_13 : decode m10_needsOf.2.1 13 = .ok (.if_icmp .ge 49, 3) := by decide +kernel
theorem D10_needsOf_16 : decode m10_needsOf.2.1 16 = .ok (.aload_n 0, 1) := by decide +kernel
theorem D10_needsOf_17 : decode m10_needsOf.2.1 17 = .ok (.getfield 102, 3) := by decide +kernel
theorem D10_needsOf_20 : decode m10_needsOf.2.1 20 = .ok (.bipush 8, 2) := by decide +kernel
theorem D10_needsOf_22 : decode m10_needsOf.2.1 22 = .ok (.iload_n 1, 1) := by decide +kernel
theorem D10_needsOf_23 : decode m10_needsOf.2.1 23 = .ok (.imul, 1) := by decide +kernel
theorem D10_needsOf_24 : decode m10_needsOf.2.1 24 = .ok (.iload 4, 2) := by decide +kernel
theorem D10_needsOf_26 : decode m10_needsOf.2.1 26 = .ok (.iadd, 1) := by decide +kernel
theorem D10_needsOf_27 : decode m10_needsOf.2.1 27 = .ok (.iaload, 1) := by decide +kernel
theorem D10_needsOf_28 : decode m10_needsOf.2.1 28 = .ok (.istore 5, 2) := by decide +kernel
theorem D10_needsOf_30 : decode m10_needsOf.2.1 30 = .ok (.iload_n 3, 1) := by decide +kernel
theorem D10_needsOf_31 : decode m10_needsOf.2.1 31 = .ok (.iload_n 2, 1) := by decide +kernel
theorem D10_needsOf_32 : decode m10_needsOf.2.1 32 = .ok (.ifCond .eq 8, 3) := by decide +kernel
theorem D10_needsOf_35 : decode m10_needsOf.2.1 35 = .ok (.iload 5, 2) := by decide +kernel
theorem D10_needsOf_37 : decode m10_needsOf.2.1 37 = .ok (.ifCond .gt 12, 3) := by decide +kernel
theorem D10_needsOf_40 : decode m10_needsOf.2.1 40 = .ok (.iload_n 2, 1) := by decide +kernel
theorem D10_needsOf_41 : decode m10_needsOf.2.1 41 = .ok (.ifCond .ne 12, 3) := by decide +kernel
theorem D10_needsOf_44 : decode m10_needsOf.2.1 44 = .ok (.iload 5, 2) := by decide +kernel
theorem D10_needsOf_46 : decode m10_needsOf.2.1 46 = .ok (.ifCond .ne 7, 3) := by decide +kernel
theorem D10_needsOf_49 : decode m10_needsOf.2.1 49 = .ok (.iconst 1, 1) := by decide +kernel
theorem D10_needsOf_50 : decode m10_needsOf.2.1 50 = .ok (.goto 4, 3) := by decide +kernel
theorem D10_needsOf_53 : decode m10_needsOf.2.1 53 = .ok (.iconst 0, 1) := by decide +kernel
theorem D10_needsOf_54 : decode m10_needsOf.2.1 54 = .ok (.iadd, 1) := by decide +kernel
theorem D10_needsOf_55 : decode m10_needsOf.2.1 55 = .ok (.istore_n 3, 1) := by decide +kernel
theorem D10_needsOf_56 : decode m10_needsOf.2.1 56 = .ok (.iinc 4 1, 3) := by decide +kernel
theorem D10_needsOf_59 : decode m10_needsOf.2.1 59 = .ok (.goto (-54), 3) := by decide +kernel
theorem D10_needsOf_62 : decode m10_needsOf.2.1 62 = .ok (.iload_n 3, 1) := by decide +kernel
theorem D10_needsOf_63 : decode m10_needsOf.2.1 63 = .ok (.ireturn, 1) := by decide +kernel
theorem D10_bitsOf_0 : decode m10_bitsOf.2.1 0 = .ok (.iconst 0, 1) := by decide +kernel
theorem D10_bitsOf_1 : decode m10_bitsOf.2.1 1 = .ok (.istore_n 1, 1) := by decide +kernel
theorem D10_bitsOf_2 : decode m10_bitsOf.2.1 2 = .ok (.iconst 0, 1) := by decide +kernel
theorem D10_bitsOf_3 : decode m10_bitsOf.2.1 3 = .ok (.istore_n 2, 1) := by decide +kernel
theorem D10_bitsOf_4 : decode m10_bitsOf.2.1 4 = .ok (.iload_n 2, 1) := by decide +kernel
theorem D10_bitsOf_5 : decode m10_bitsOf.2.1 5 = .ok (.bipush 10, 2) := by decide +kernel
theorem D10_bitsOf_7 : decode m10_bitsOf.2.1 7 = .ok (.if_icmp .ge 17, 3) := by decide +kernel
theorem D10_bitsOf_10 : decode m10_bitsOf.2.1 10 = .ok (.iload_n 1, 1) := by decide +kernel
theorem D10_bitsOf_11 : decode m10_bitsOf.2.1 11 = .ok (.iload_n 0, 1) := by decide +kernel
theorem D10_bitsOf_12 : decode m10_bitsOf.2.1 12 = .ok (.iload_n 2, 1) := by decide +kernel
theorem D10_bitsOf_13 : decode m10_bitsOf.2.1 13 = .ok (.ishr, 1) := by decide +kernel
theorem D10_bitsOf_14 : decode m10_bitsOf.2.1 14 = .ok (.iconst 1, 1) := by decide +kernel
theorem D10_bitsOf_15 : decode m10_bitsOf.2.1 15 = .ok (.iand, 1) := by decide +kernel
theorem D10_bitsOf_16 : decode m10_bitsOf.2.1 16 = .ok (.iadd, 1) := by decide +kernel
theorem D10_bitsOf_17 : decode m10_bitsOf.2.1 17 = .ok (.istore_n 1, 1) := by decide +kernel
theorem D10_bitsOf_18 : decode m10_bitsOf.2.1 18 = .ok (.iinc 2 1, 3) := by decide +kernel
theorem D10_bitsOf_21 : decode m10_bitsOf.2.1 21 = .ok (.goto (-17), 3) := by decide +kernel
theorem D10_bitsOf_24 : decode m10_bitsOf.2.1 24 = .ok (.iload_n 1, 1) := by decide +kernel
theorem D10_bitsOf_25 : decode m10_bitsOf.2.1 25 = .ok (.ireturn, 1) := by decide +kernel
theorem D10_hatesAll_0 : decode m10_hatesAll.2.1 0 = .ok (.iconst 0, 1) := by decide +kernel
theorem D10_hatesAll_1 : decode m10_hatesAll.2.1 1 = .ok (.istore_n 2, 1) := by decide +kernel
theorem D10_hatesAll_2 : decode m10_hatesAll.2.1 2 = .ok (.iconst 0, 1) := by decide +kernel
theorem D10_hatesAll_3 : decode m10_hatesAll.2.1 3 = .ok (.istore_n 3, 1) := by decide +kernel
theorem D10_hatesAll_4 : decode m10_hatesAll.2.1 4 = .ok (.iload_n 3, 1) := by decide +kernel
theorem D10_hatesAll_5 : decode m10_hatesAll.2.1 5 = .ok (.aload_n 0, 1) := by decide +kernel
theorem D10_hatesAll_6 : decode m10_hatesAll.2.1 6 = .ok (.getfield 13, 3) := by decide +kernel
theorem D10_hatesAll_9 : decode m10_hatesAll.2.1 9 = .ok (.iconst 0, 1) := by decide +kernel
theorem D10_hatesAll_10 : decode m10_hatesAll.2.1 10 = .ok (.iaload, 1) := by decide +kernel
theorem D10_hatesAll_11 : decode m10_hatesAll.2.1 11 = .ok (.if_icmp .ge 25, 3) := by decide +kernel
theorem D10_hatesAll_14 : decode m10_hatesAll.2.1 14 = .ok (.iload_n 2, 1) := by decide +kernel
theorem D10_hatesAll_15 : decode m10_hatesAll.2.1 15 = .ok (.aload_n 0, 1) := by decide +kernel
theorem D10_hatesAll_16 : decode m10_hatesAll.2.1 16 = .ok (.getfield 84, 3) := by decide +kernel
theorem D10_hatesAll_19 : decode m10_hatesAll.2.1 19 = .ok (.iconst 5, 1) := by decide +kernel
theorem D10_hatesAll_20 : decode m10_hatesAll.2.1 20 = .ok (.iload_n 1, 1) := by decide +kernel
theorem D10_hatesAll_21 : decode m10_hatesAll.2.1 21 = .ok (.imul, 1) := by decide +kernel
theorem D10_hatesAll_22 : decode m10_hatesAll.2.1 22 = .ok (.iload_n 3, 1) := by decide +kernel
theorem D10_hatesAll_23 : decode m10_hatesAll.2.1 23 = .ok (.iadd, 1) := by decide +kernel
theorem D10_hatesAll_24 : decode m10_hatesAll.2.1 24 = .ok (.iaload, 1) := by decide +kernel
theorem D10_hatesAll_25 : decode m10_hatesAll.2.1 25 = .ok (.invokestatic 400, 3) := by decide +kernel
theorem D10_hatesAll_28 : decode m10_hatesAll.2.1 28 = .ok (.iadd, 1) := by decide +kernel
theorem D10_hatesAll_29 : decode m10_hatesAll.2.1 29 = .ok (.istore_n 2, 1) := by decide +kernel
theorem D10_hatesAll_30 : decode m10_hatesAll.2.1 30 = .ok (.iinc 3 1, 3) := by decide +kernel
theorem D10_hatesAll_33 : decode m10_hatesAll.2.1 33 = .ok (.goto (-29), 3) := by decide +kernel
theorem D10_hatesAll_36 : decode m10_hatesAll.2.1 36 = .ok (.iload_n 2, 1) := by decide +kernel
theorem D10_hatesAll_37 : decode m10_hatesAll.2.1 37 = .ok (.ireturn, 1) := by decide +kernel
theorem D10_bottle_0 : decode m10_bottle.2.1 0 = .ok (.aload_n 0, 1) := by decide +kernel
theorem D10_bottle_1 : decode m10_bottle.2.1 1 = .ok (.aload_n 0, 1) := by decide +kernel
theorem D10_bottle_2 : decode m10_bottle.2.1 2 = .ok (.iload_n 1, 1) := by decide +kernel
theorem D10_bottle_3 : decode m10_bottle.2.1 3 = .ok (.invokevirtual 403, 3) := by decide +kernel
theorem D10_bottle_6 : decode m10_bottle.2.1 6 = .ok (.ifCond .ne 7, 3) := by decide +kernel
theorem D10_bottle_9 : decode m10_bottle.2.1 9 = .ok (.iconst 1, 1) := by decide +kernel
theorem D10_bottle_10 : decode m10_bottle.2.1 10 = .ok (.goto 18, 3) := by decide +kernel
theorem D10_bottle_13 : decode m10_bottle.2.1 13 = .ok (.iload_n 2, 1) := by decide +kernel
theorem D10_bottle_14 : decode m10_bottle.2.1 14 = .ok (.ifCond .lt 9, 3) := by decide +kernel
theorem D10_bottle_17 : decode m10_bottle.2.1 17 = .ok (.iload_n 2, 1) := by decide +kernel
theorem D10_bottle_18 : decode m10_bottle.2.1 18 = .ok (.bipush 6, 2) := by decide +kernel
theorem D10_bottle_20 : decode m10_bottle.2.1 20 = .ok (.if_icmp .le 7, 3) := by decide +kernel
theorem D10_bottle_23 : decode m10_bottle.2.1 23 = .ok (.iconst 2, 1) := by decide +kernel
theorem D10_bottle_24 : decode m10_bottle.2.1 24 = .ok (.goto 4, 3) := by decide +kernel
theorem D10_bottle_27 : decode m10_bottle.2.1 27 = .ok (.iconst 0, 1) := by decide +kernel
theorem D10_bottle_28 : decode m10_bottle.2.1 28 = .ok (.putfield 139, 3) := by decide +kernel
theorem D10_bottle_31 : decode m10_bottle.2.1 31 = .ok (.aload_n 0, 1) := by decide +kernel
theorem D10_bottle_32 : decode m10_bottle.2.1 32 = .ok (.getfield 139, 3) := by decide +kernel
theorem D10_bottle_35 : decode m10_bottle.2.1 35 = .ok (.ifCond .eq 5, 3) := by decide +kernel
theorem D10_bottle_38 : decode m10_bottle.2.1 38 = .ok (.iconst 0, 1) := by decide +kernel
theorem D10_bottle_39 : decode m10_bottle.2.1 39 = .ok (.ireturn, 1) := by decide +kernel
theorem D10_bottle_40 : decode m10_bottle.2.1 40 = .ok (.iload_n 2, 1) := by decide +kernel
theorem D10_bottle_41 : decode m10_bottle.2.1 41 = .ok (.tableswitch 81 0 5 #[39, 46, 53, 60, 67, 74], 39) := by decide +kernel
theorem D10_bottle_80 : decode m10_bottle.2.1 80 = .ok (.aload_n 0, 1) := by decide +kernel
theorem D10_bottle_81 : decode m10_bottle.2.1 81 = .ok (.getfield 25, 3) := by decide +kernel
theorem D10_bottle_84 : decode m10_bottle.2.1 84 = .ok (.iload_n 1, 1) := by decide +kernel
theorem D10_bottle_85 : decode m10_bottle.2.1 85 = .ok (.iaload, 1) := by decide +kernel
theorem D10_bottle_86 : decode m10_bottle.2.1 86 = .ok (.ireturn, 1) := by decide +kernel
theorem D10_bottle_87 : decode m10_bottle.2.1 87 = .ok (.aload_n 0, 1) := by decide +kernel
theorem D10_bottle_88 : decode m10_bottle.2.1 88 = .ok (.getfield 28, 3) := by decide +kernel
theorem D10_bottle_91 : decode m10_bottle.2.1 91 = .ok (.iload_n 1, 1) := by decide +kernel
theorem D10_bottle_92 : decode m10_bottle.2.1 92 = .ok (.iaload, 1) := by decide +kernel
theorem D10_bottle_93 : decode m10_bottle.2.1 93 = .ok (.ireturn, 1) := by decide +kernel
theorem D10_bottle_94 : decode m10_bottle.2.1 94 = .ok (.aload_n 0, 1) := by decide +kernel
theorem D10_bottle_95 : decode m10_bottle.2.1 95 = .ok (.getfield 93, 3) := by decide +kernel
theorem D10_bottle_98 : decode m10_bottle.2.1 98 = .ok (.iload_n 1, 1) := by decide +kernel
theorem D10_bottle_99 : decode m10_bottle.2.1 99 = .ok (.iaload, 1) := by decide +kernel
theorem D10_bottle_100 : decode m10_bottle.2.1 100 = .ok (.ireturn, 1) := by decide +kernel
theorem D10_bottle_101 : decode m10_bottle.2.1 101 = .ok (.aload_n 0, 1) := by decide +kernel
theorem D10_bottle_102 : decode m10_bottle.2.1 102 = .ok (.getfield 87, 3) := by decide +kernel
theorem D10_bottle_105 : decode m10_bottle.2.1 105 = .ok (.iload_n 1, 1) := by decide +kernel
theorem D10_bottle_106 : decode m10_bottle.2.1 106 = .ok (.iaload, 1) := by decide +kernel
theorem D10_bottle_107 : decode m10_bottle.2.1 107 = .ok (.ireturn, 1) := by decide +kernel
theorem D10_bottle_108 : decode m10_bottle.2.1 108 = .ok (.aload_n 0, 1) := by decide +kernel
theorem D10_bottle_109 : decode m10_bottle.2.1 109 = .ok (.getfield 90, 3) := by decide +kernel
theorem D10_bottle_112 : decode m10_bottle.2.1 112 = .ok (.iload_n 1, 1) := by decide +kernel
theorem D10_bottle_113 : decode m10_bottle.2.1 113 = .ok (.iaload, 1) := by decide +kernel
theorem D10_bottle_114 : decode m10_bottle.2.1 114 = .ok (.ireturn, 1) := by decide +kernel
theorem D10_bottle_115 : decode m10_bottle.2.1 115 = .ok (.aload_n 0, 1) := by decide +kernel
theorem D10_bottle_116 : decode m10_bottle.2.1 116 = .ok (.getfield 96, 3) := by decide +kernel
theorem D10_bottle_119 : decode m10_bottle.2.1 119 = .ok (.iload_n 1, 1) := by decide +kernel
theorem D10_bottle_120 : decode m10_bottle.2.1 120 = .ok (.iaload, 1) := by decide +kernel
theorem D10_bottle_121 : decode m10_bottle.2.1 121 = .ok (.ireturn, 1) := by decide +kernel
theorem D10_bottle_122 : decode m10_bottle.2.1 122 = .ok (.aload_n 0, 1) := by decide +kernel
theorem D10_bottle_123 : decode m10_bottle.2.1 123 = .ok (.getfield 99, 3) := by decide +kernel
theorem D10_bottle_126 : decode m10_bottle.2.1 126 = .ok (.iload_n 1, 1) := by decide +kernel
theorem D10_bottle_127 : decode m10_bottle.2.1 127 = .ok (.iaload, 1) := by decide +kernel
theorem D10_bottle_128 : decode m10_bottle.2.1 128 = .ok (.ireturn, 1) := by decide +kernel
theorem D10_ownSet_0 : decode m10_ownSet.2.1 0 = .ok (.iconst 0, 1) := by decide +kernel
theorem D10_ownSet_1 : decode m10_ownSet.2.1 1 = .ok (.istore_n 2, 1) := by decide +kernel
theorem D10_ownSet_2 : decode m10_ownSet.2.1 2 = .ok (.iconst 0, 1) := by decide +kernel
theorem D10_ownSet_3 : decode m10_ownSet.2.1 3 = .ok (.istore_n 3, 1) := by decide +kernel
theorem D10_ownSet_4 : decode m10_ownSet.2.1 4 = .ok (.iload_n 3, 1) := by decide +kernel
theorem D10_ownSet_5 : decode m10_ownSet.2.1 5 = .ok (.aload_n 0, 1) := by decide +kernel
theorem D10_ownSet_6 : decode m10_ownSet.2.1 6 = .ok (.getfield 13, 3) := by decide +kernel
theorem D10_ownSet_9 : decode m10_ownSet.2.1 9 = .ok (.iconst 1, 1) := by decide +kernel
theorem D10_ownSet_10 : decode m10_ownSet.2.1 10 = .ok (.iaload, 1) := by decide +kernel
theorem D10_ownSet_11 : decode m10_ownSet.2.1 11 = .ok (.if_icmp .ge 38, 3) := by decide +kernel
theorem D10_ownSet_14 : decode m10_ownSet.2.1 14 = .ok (.iload_n 2, 1) := by decide +kernel
theorem D10_ownSet_15 : decode m10_ownSet.2.1 15 = .ok (.aload_n 0, 1) := by decide +kernel
theorem D10_ownSet_16 : decode m10_ownSet.2.1 16 = .ok (.iconst 0, 1) := by decide +kernel
theorem D10_ownSet_17 : decode m10_ownSet.2.1 17 = .ok (.iload_n 3, 1) := by decide +kernel
theorem D10_ownSet_18 : decode m10_ownSet.2.1 18 = .ok (.invokevirtual 328, 3) := by decide +kernel
theorem D10_ownSet_21 : decode m10_ownSet.2.1 21 = .ok (.ifCond .eq 19, 3) := by decide +kernel
theorem D10_ownSet_24 : decode m10_ownSet.2.1 24 = .ok (.aload_n 0, 1) := by decide +kernel
theorem D10_ownSet_25 : decode m10_ownSet.2.1 25 = .ok (.getfield 25, 3) := by decide +kernel
theorem D10_ownSet_28 : decode m10_ownSet.2.1 28 = .ok (.iload_n 3, 1) := by decide +kernel
theorem D10_ownSet_29 : decode m10_ownSet.2.1 29 = .ok (.iaload, 1) := by decide +kernel
theorem D10_ownSet_30 : decode m10_ownSet.2.1 30 = .ok (.iload_n 1, 1) := by decide +kernel
theorem D10_ownSet_31 : decode m10_ownSet.2.1 31 = .ok (.if_icmp .ne 9, 3) := by decide +kernel
theorem D10_ownSet_34 : decode m10_ownSet.2.1 34 = .ok (.iconst 1, 1) := by decide +kernel
theorem D10_ownSet_35 : decode m10_ownSet.2.1 35 = .ok (.iload_n 3, 1) := by decide +kernel
theorem D10_ownSet_36 : decode m10_ownSet.2.1 36 = .ok (.ishl, 1) := by decide +kernel
theorem D10_ownSet_37 : decode m10_ownSet.2.1 37 = .ok (.goto 4, 3) := by decide +kernel
theorem D10_ownSet_40 : decode m10_ownSet.2.1 40 = .ok (.iconst 0, 1) := by decide +kernel
theorem D10_ownSet_41 : decode m10_ownSet.2.1 41 = .ok (.ior, 1) := by decide +kernel
theorem D10_ownSet_42 : decode m10_ownSet.2.1 42 = .ok (.istore_n 2, 1) := by decide +kernel
theorem D10_ownSet_43 : decode m10_ownSet.2.1 43 = .ok (.iinc 3 1, 3) := by decide +kernel
theorem D10_ownSet_46 : decode m10_ownSet.2.1 46 = .ok (.goto (-42), 3) := by decide +kernel
theorem D10_ownSet_49 : decode m10_ownSet.2.1 49 = .ok (.iload_n 2, 1) := by decide +kernel
theorem D10_ownSet_50 : decode m10_ownSet.2.1 50 = .ok (.ireturn, 1) := by decide +kernel
theorem D10_forceIn_0 : decode m10_forceIn.2.1 0 = .ok (.iconst 0, 1) := by decide +kernel
theorem D10_forceIn_1 : decode m10_forceIn.2.1 1 = .ok (.istore_n 2, 1) := by decide +kernel
theorem D10_forceIn_2 : decode m10_forceIn.2.1 2 = .ok (.iconst 0, 1) := by decide +kernel
theorem D10_forceIn_3 : decode m10_forceIn.2.1 3 = .ok (.istore_n 3, 1) := by decide +kernel
theorem D10_forceIn_4 : decode m10_forceIn.2.1 4 = .ok (.iload_n 3, 1) := by decide +kernel
theorem D10_forceIn_5 : decode m10_forceIn.2.1 5 = .ok (.aload_n 0, 1) := by decide +kernel
theorem D10_forceIn_6 : decode m10_forceIn.2.1 6 = .ok (.getfield 13, 3) := by decide +kernel
theorem D10_forceIn_9 : decode m10_forceIn.2.1 9 = .ok (.iconst 1, 1) := by decide +kernel
theorem D10_forceIn_10 : decode m10_forceIn.2.1 10 = .ok (.iaload, 1) := by decide +kernel
theorem D10_forceIn_11 : decode m10_forceIn.2.1 11 = .ok (.if_icmp .ge 31, 3) := by decide +kernel
theorem D10_forceIn_14 : decode m10_forceIn.2.1 14 = .ok (.iload_n 2, 1) := by decide +kernel
theorem D10_forceIn_15 : decode m10_forceIn.2.1 15 = .ok (.iload_n 1, 1) := by decide +kernel
theorem D10_forceIn_16 : decode m10_forceIn.2.1 16 = .ok (.iload_n 3, 1) := by decide +kernel
theorem D10_forceIn_17 : decode m10_forceIn.2.1 17 = .ok (.ishr, 1) := by decide +kernel
theorem D10_forceIn_18 : decode m10_forceIn.2.1 18 = .ok (.iconst 1, 1) := by decide +kernel
theorem D10_forceIn_19 : decode m10_forceIn.2.1 19 = .ok (.iand, 1) := by decide +kernel
theorem D10_forceIn_20 : decode m10_forceIn.2.1 20 = .ok (.iconst 1, 1) := by decide +kernel
theorem D10_forceIn_21 : decode m10_forceIn.2.1 21 = .ok (.if_icmp .ne 12, 3) := by decide +kernel
theorem D10_forceIn_24 : decode m10_forceIn.2.1 24 = .ok (.aload_n 0, 1) := by decide +kernel
theorem D10_forceIn_25 : decode m10_forceIn.2.1 25 = .ok (.getfield 87, 3) := by decide +kernel
theorem D10_forceIn_28 : decode m10_forceIn.2.1 28 = .ok (.iload_n 3, 1) := by decide +kernel
theorem D10_forceIn_29 : decode m10_forceIn.2.1 29 = .ok (.iaload, 1) := by decide +kernel
theorem D10_forceIn_30 : decode m10_forceIn.2.1 30 = .ok (.goto 4, 3) := by decide +kernel
theorem D10_forceIn_33 : decode m10_forceIn.2.1 33 = .ok (.iconst 0, 1) := by decide +kernel
theorem D10_forceIn_34 : decode m10_forceIn.2.1 34 = .ok (.iadd, 1) := by decide +kernel
theorem D10_forceIn_35 : decode m10_forceIn.2.1 35 = .ok (.istore_n 2, 1) := by decide +kernel
theorem D10_forceIn_36 : decode m10_forceIn.2.1 36 = .ok (.iinc 3 1, 3) := by decide +kernel
theorem D10_forceIn_39 : decode m10_forceIn.2.1 39 = .ok (.goto (-35), 3) := by decide +kernel
theorem D10_forceIn_42 : decode m10_forceIn.2.1 42 = .ok (.iload_n 2, 1) := by decide +kernel
theorem D10_forceIn_43 : decode m10_forceIn.2.1 43 = .ok (.ireturn, 1) := by decide +kernel
theorem D10_man_0 : decode m10_man.2.1 0 = .ok (.aload_n 0, 1) := by decide +kernel
theorem D10_man_1 : decode m10_man.2.1 1 = .ok (.iconst 0, 1) := by decide +kernel
theorem D10_man_2 : decode m10_man.2.1 2 = .ok (.putfield 139, 3) := by decide +kernel
theorem D10_man_5 : decode m10_man.2.1 5 = .ok (.aload_n 0, 1) := by decide +kernel
theorem D10_man_6 : decode m10_man.2.1 6 = .ok (.iload_n 1, 1) := by decide +kernel
theorem D10_man_7 : decode m10_man.2.1 7 = .ok (.invokevirtual 406, 3) := by decide +kernel
theorem D10_man_10 : decode m10_man.2.1 10 = .ok (.ifCond .ne 5, 3) := by decide +kernel
theorem D10_man_13 : decode m10_man.2.1 13 = .ok (.iconst (-1), 1) := by decide +kernel
theorem D10_man_14 : decode m10_man.2.1 14 = .ok (.ireturn, 1) := by decide +kernel
theorem D10_man_15 : decode m10_man.2.1 15 = .ok (.iload_n 2, 1) := by decide +kernel
theorem D10_man_16 : decode m10_man.2.1 16 = .ok (.tableswitch 65 0 3 #[32, 39, 48, 58], 32) := by decide +kernel
theorem D10_man_48 : decode m10_man.2.1 48 = .ok (.aload_n 0, 1) := by decide +kernel
theorem D10_man_49 : decode m10_man.2.1 49 = .ok (.getfield 19, 3) := by decide +kernel
theorem D10_man_52 : decode m10_man.2.1 52 = .ok (.iload_n 1, 1) := by decide +kernel
theorem D10_man_53 : decode m10_man.2.1 53 = .ok (.iaload, 1) := by decide +kernel
theorem D10_man_54 : decode m10_man.2.1 54 = .ok (.ireturn, 1) := by decide +kernel
theorem D10_man_55 : decode m10_man.2.1 55 = .ok (.aload_n 0, 1) := by decide +kernel
theorem D10_man_56 : decode m10_man.2.1 56 = .ok (.iload_n 1, 1) := by decide +kernel
theorem D10_man_57 : decode m10_man.2.1 57 = .ok (.invokevirtual 409, 3) := by decide +kernel
theorem D10_man_60 : decode m10_man.2.1 60 = .ok (.invokestatic 400, 3) := by decide +kernel
theorem D10_man_63 : decode m10_man.2.1 63 = .ok (.ireturn, 1) := by decide +kernel
theorem D10_man_64 : decode m10_man.2.1 64 = .ok (.aload_n 0, 1) := by decide +kernel
theorem D10_man_65 : decode m10_man.2.1 65 = .ok (.aload_n 0, 1) := by decide +kernel
theorem D10_man_66 : decode m10_man.2.1 66 = .ok (.iload_n 1, 1) := by decide +kernel
theorem D10_man_67 : decode m10_man.2.1 67 = .ok (.invokevirtual 409, 3) := by decide +kernel
theorem D10_man_70 : decode m10_man.2.1 70 = .ok (.invokevirtual 412, 3) := by decide +kernel
theorem D10_man_73 : decode m10_man.2.1 73 = .ok (.ireturn, 1) := by decide +kernel
theorem D10_man_74 : decode m10_man.2.1 74 = .ok (.aload_n 0, 1) := by decide +kernel
theorem D10_man_75 : decode m10_man.2.1 75 = .ok (.getfield 84, 3) := by decide +kernel
theorem D10_man_78 : decode m10_man.2.1 78 = .ok (.iload_n 1, 1) := by decide +kernel
theorem D10_man_79 : decode m10_man.2.1 79 = .ok (.iaload, 1) := by decide +kernel
theorem D10_man_80 : decode m10_man.2.1 80 = .ok (.ireturn, 1) := by decide +kernel
theorem D10_man_81 : decode m10_man.2.1 81 = .ok (.iconst (-1), 1) := by decide +kernel
theorem D10_man_82 : decode m10_man.2.1 82 = .ok (.ireturn, 1) := by decide +kernel
theorem D10_need_0 : decode m10_need.2.1 0 = .ok (.aload_n 0, 1) := by decide +kernel
theorem D10_need_1 : decode m10_need.2.1 1 = .ok (.iconst 0, 1) := by decide +kernel
theorem D10_need_2 : decode m10_need.2.1 2 = .ok (.putfield 139, 3) := by decide +kernel
theorem D10_need_5 : decode m10_need.2.1 5 = .ok (.aload_n 0, 1) := by decide +kernel
theorem D10_need_6 : decode m10_need.2.1 6 = .ok (.iload_n 1, 1) := by decide +kernel
theorem D10_need_7 : decode m10_need.2.1 7 = .ok (.invokevirtual 415, 3) := by decide +kernel
theorem D10_need_10 : decode m10_need.2.1 10 = .ok (.ifCond .ne 5, 3) := by decide +kernel
theorem D10_need_13 : decode m10_need.2.1 13 = .ok (.iconst (-1), 1) := by decide +kernel
theorem D10_need_14 : decode m10_need.2.1 14 = .ok (.ireturn, 1) := by decide +kernel
theorem D10_need_15 : decode m10_need.2.1 15 = .ok (.iload_n 2, 1) := by decide +kernel
theorem D10_need_16 : decode m10_need.2.1 16 = .ok (.tableswitch 71 0 4 #[36, 43, 50, 57, 64], 36) := by decide +kernel
theorem D10_need_52 : decode m10_need.2.1 52 = .ok (.aload_n 0, 1) := by decide +kernel
theorem D10_need_53 : decode m10_need.2.1 53 = .ok (.getfield 40, 3) := by decide +kernel
theorem D10_need_56 : decode m10_need.2.1 56 = .ok (.iload_n 1, 1) := by decide +kernel
theorem D10_need_57 : decode m10_need.2.1 57 = .ok (.iaload, 1) := by decide +kernel
theorem D10_need_58 : decode m10_need.2.1 58 = .ok (.ireturn, 1) := by decide +kernel
theorem D10_need_59 : decode m10_need.2.1 59 = .ok (.aload_n 0, 1) := by decide +kernel
theorem D10_need_60 : decode m10_need.2.1 60 = .ok (.getfield 43, 3) := by decide +kernel
theorem D10_need_63 : decode m10_need.2.1 63 = .ok (.iload_n 1, 1) := by decide +kernel
theorem D10_need_64 : decode m10_need.2.1 64 = .ok (.iaload, 1) := by decide +kernel
theorem D10_need_65 : decode m10_need.2.1 65 = .ok (.ireturn, 1) := by decide +kernel
theorem D10_need_66 : decode m10_need.2.1 66 = .ok (.aload_n 0, 1) := by decide +kernel
theorem D10_need_67 : decode m10_need.2.1 67 = .ok (.getfield 46, 3) := by decide +kernel
theorem D10_need_70 : decode m10_need.2.1 70 = .ok (.iload_n 1, 1) := by decide +kernel
theorem D10_need_71 : decode m10_need.2.1 71 = .ok (.iaload, 1) := by decide +kernel
theorem D10_need_72 : decode m10_need.2.1 72 = .ok (.ireturn, 1) := by decide +kernel
theorem D10_need_73 : decode m10_need.2.1 73 = .ok (.aload_n 0, 1) := by decide +kernel
theorem D10_need_74 : decode m10_need.2.1 74 = .ok (.getfield 49, 3) := by decide +kernel
theorem D10_need_77 : decode m10_need.2.1 77 = .ok (.iload_n 1, 1) := by decide +kernel
theorem D10_need_78 : decode m10_need.2.1 78 = .ok (.iaload, 1) := by decide +kernel
theorem D10_need_79 : decode m10_need.2.1 79 = .ok (.ireturn, 1) := by decide +kernel
theorem D10_need_80 : decode m10_need.2.1 80 = .ok (.aload_n 0, 1) := by decide +kernel
theorem D10_need_81 : decode m10_need.2.1 81 = .ok (.getfield 102, 3) := by decide +kernel
theorem D10_need_84 : decode m10_need.2.1 84 = .ok (.iload_n 1, 1) := by decide +kernel
theorem D10_need_85 : decode m10_need.2.1 85 = .ok (.iaload, 1) := by decide +kernel
theorem D10_need_86 : decode m10_need.2.1 86 = .ok (.ireturn, 1) := by decide +kernel
theorem D10_need_87 : decode m10_need.2.1 87 = .ok (.iconst (-1), 1) := by decide +kernel
theorem D10_need_88 : decode m10_need.2.1 88 = .ok (.ireturn, 1) := by decide +kernel
theorem D10_bin_0 : decode m10_bin.2.1 0 = .ok (.aload_n 0, 1) := by decide +kernel
theorem D10_bin_1 : decode m10_bin.2.1 1 = .ok (.iconst 0, 1) := by decide +kernel
theorem D10_bin_2 : decode m10_bin.2.1 2 = .ok (.putfield 139, 3) := by decide +kernel
theorem D10_bin_5 : decode m10_bin.2.1 5 = .ok (.iload_n 1, 1) := by decide +kernel
theorem D10_bin_6 : decode m10_bin.2.1 6 = .ok (.ifCond .lt 8, 3) := by decide +kernel
theorem D10_bin_9 : decode m10_bin.2.1 9 = .ok (.iload_n 1, 1) := by decide +kernel
theorem D10_bin_10 : decode m10_bin.2.1 10 = .ok (.iconst 5, 1) := by decide +kernel
theorem D10_bin_11 : decode m10_bin.2.1 11 = .ok (.if_icmp .le 5, 3) := by decide +kernel
theorem D10_bin_14 : decode m10_bin.2.1 14 = .ok (.iconst (-1), 1) := by decide +kernel
theorem D10_bin_15 : decode m10_bin.2.1 15 = .ok (.ireturn, 1) := by decide +kernel
theorem D10_bin_16 : decode m10_bin.2.1 16 = .ok (.iconst 0, 1) := by decide +kernel
theorem D10_bin_17 : decode m10_bin.2.1 17 = .ok (.istore_n 2, 1) := by decide +kernel
theorem D10_bin_18 : decode m10_bin.2.1 18 = .ok (.iconst 0, 1) := by decide +kernel
theorem D10_bin_19 : decode m10_bin.2.1 19 = .ok (.istore_n 3, 1) := by decide +kernel
theorem D10_bin_20 : decode m10_bin.2.1 20 = .ok (.iload_n 3, 1) := by decide +kernel
theorem D10_bin_21 : decode m10_bin.2.1 21 = .ok (.aload_n 0, 1) := by decide +kernel
theorem D10_bin_22 : decode m10_bin.2.1 22 = .ok (.getfield 13, 3) := by decide +kernel
theorem D10_bin_25 : decode m10_bin.2.1 25 = .ok (.iconst 1, 1) := by decide +kernel
theorem D10_bin_26 : decode m10_bin.2.1 26 = .ok (.iaload, 1) := by decide +kernel
theorem D10_bin_27 : decode m10_bin.2.1 27 = .ok (.if_icmp .ge 38, 3) := by decide +kernel
theorem D10_bin_30 : decode m10_bin.2.1 30 = .ok (.iload_n 2, 1) := by decide +kernel
theorem D10_bin_31 : decode m10_bin.2.1 31 = .ok (.aload_n 0, 1) := by decide +kernel
theorem D10_bin_32 : decode m10_bin.2.1 32 = .ok (.iconst 0, 1) := by decide +kernel
theorem D10_bin_33 : decode m10_bin.2.1 33 = .ok (.iload_n 3, 1) := by decide +kernel
theorem D10_bin_34 : decode m10_bin.2.1 34 = .ok (.invokevirtual 328, 3) := by decide +kernel
theorem D10_bin_37 : decode m10_bin.2.1 37 = .ok (.ifCond .eq 19, 3) := by decide +kernel
theorem D10_bin_40 : decode m10_bin.2.1 40 = .ok (.aload_n 0, 1) := by decide +kernel
theorem D10_bin_41 : decode m10_bin.2.1 41 = .ok (.getfield 93, 3) := by decide +kernel
theorem D10_bin_44 : decode m10_bin.2.1 44 = .ok (.iload_n 3, 1) := by decide +kernel
theorem D10_bin_45 : decode m10_bin.2.1 45 = .ok (.iaload, 1) := by decide +kernel
theorem D10_bin_46 : decode m10_bin.2.1 46 = .ok (.iload_n 1, 1) := by decide +kernel
theorem D10_bin_47 : decode m10_bin.2.1 47 = .ok (.if_icmp .ne 9, 3) := by decide +kernel
theorem D10_bin_50 : decode m10_bin.2.1 50 = .ok (.iconst 1, 1) := by decide +kernel
theorem D10_bin_51 : decode m10_bin.2.1 51 = .ok (.iload_n 3, 1) := by decide +kernel
theorem D10_bin_52 : decode m10_bin.2.1 52 = .ok (.ishl, 1) := by decide +kernel
theorem D10_bin_53 : decode m10_bin.2.1 53 = .ok (.goto 4, 3) := by decide +kernel
theorem D10_bin_56 : decode m10_bin.2.1 56 = .ok (.iconst 0, 1) := by decide +kernel
theorem D10_bin_57 : decode m10_bin.2.1 57 = .ok (.ior, 1) := by decide +kernel
theorem D10_bin_58 : decode m10_bin.2.1 58 = .ok (.istore_n 2, 1) := by decide +kernel
theorem D10_bin_59 : decode m10_bin.2.1 59 = .ok (.iinc 3 1, 3) := by decide +kernel
theorem D10_bin_62 : decode m10_bin.2.1 62 = .ok (.goto (-42), 3) := by decide +kernel
theorem D10_bin_65 : decode m10_bin.2.1 65 = .ok (.iload_n 2, 1) := by decide +kernel
theorem D10_bin_66 : decode m10_bin.2.1 66 = .ok (.ireturn, 1) := by decide +kernel
theorem D10_isLyingNow_0 : decode m10_isLyingNow.2.1 0 = .ok (.aload_n 0, 1) := by decide +kernel
theorem D10_isLyingNow_1 : decode m10_isLyingNow.2.1 1 = .ok (.iload_n 1, 1) := by decide +kernel
theorem D10_isLyingNow_2 : decode m10_isLyingNow.2.1 2 = .ok (.invokevirtual 403, 3) := by decide +kernel
theorem D10_isLyingNow_5 : decode m10_isLyingNow.2.1 5 = .ok (.ifCond .eq 16, 3) := by decide +kernel
theorem D10_isLyingNow_8 : decode m10_isLyingNow.2.1 8 = .ok (.aload_n 0, 1) := by decide +kernel
theorem D10_isLyingNow_9 : decode m10_isLyingNow.2.1 9 = .ok (.iconst 0, 1) := by decide +kernel
theorem D10_isLyingNow_10 : decode m10_isLyingNow.2.1 10 = .ok (.iload_n 1, 1) := by decide +kernel
theorem D10_isLyingNow_11 : decode m10_isLyingNow.2.1 11 = .ok (.invokevirtual 328, 3) := by decide +kernel
theorem D10_isLyingNow_14 : decode m10_isLyingNow.2.1 14 = .ok (.ifCond .eq 7, 3) := by decide +kernel
theorem D10_isLyingNow_17 : decode m10_isLyingNow.2.1 17 = .ok (.iconst 1, 1) := by decide +kernel
theorem D10_isLyingNow_18 : decode m10_isLyingNow.2.1 18 = .ok (.goto 4, 3) := by decide +kernel
theorem D10_isLyingNow_21 : decode m10_isLyingNow.2.1 21 = .ok (.iconst 0, 1) := by decide +kernel
theorem D10_isLyingNow_22 : decode m10_isLyingNow.2.1 22 = .ok (.ireturn, 1) := by decide +kernel
theorem D10_law_0 : decode m10_law.2.1 0 = .ok (.aload_n 0, 1) := by decide +kernel
theorem D10_law_1 : decode m10_law.2.1 1 = .ok (.iconst 0, 1) := by decide +kernel
theorem D10_law_2 : decode m10_law.2.1 2 = .ok (.putfield 139, 3) := by decide +kernel
theorem D10_law_5 : decode m10_law.2.1 5 = .ok (.iload_n 1, 1) := by decide +kernel
theorem D10_law_6 : decode m10_law.2.1 6 = .ok (.ifCond .lt 24, 3) := by decide +kernel
theorem D10_law_9 : decode m10_law.2.1 9 = .ok (.iload_n 1, 1) := by decide +kernel
theorem D10_law_10 : decode m10_law.2.1 10 = .ok (.iconst 2, 1) := by decide +kernel
theorem D10_law_11 : decode m10_law.2.1 11 = .ok (.if_icmp .gt 19, 3) := by decide +kernel
theorem D10_law_14 : decode m10_law.2.1 14 = .ok (.aload_n 0, 1) := by decide +kernel
theorem D10_law_15 : decode m10_law.2.1 15 = .ok (.iload_n 1, 1) := by decide +kernel
theorem D10_law_16 : decode m10_law.2.1 16 = .ok (.invokevirtual 338, 3) := by decide +kernel
theorem D10_law_19 : decode m10_law.2.1 19 = .ok (.ifCond .eq 11, 3) := by decide +kernel
theorem D10_law_22 : decode m10_law.2.1 22 = .ok (.aload_n 0, 1) := by decide +kernel
theorem D10_law_23 : decode m10_law.2.1 23 = .ok (.iload_n 2, 1) := by decide +kernel
theorem D10_law_24 : decode m10_law.2.1 24 = .ok (.invokevirtual 418, 3) := by decide +kernel
theorem D10_law_27 : decode m10_law.2.1 27 = .ok (.ifCond .ne 7, 3) := by decide +kernel
theorem D10_law_30 : decode m10_law.2.1 30 = .ok (.ldc2_w 423, 3) := by decide +kernel
theorem D10_law_33 : decode m10_law.2.1 33 = .ok (.lreturn, 1) := by decide +kernel
theorem D10_law_34 : decode m10_law.2.1 34 = .ok (.aload_n 0, 1) := by decide +kernel
theorem D10_law_35 : decode m10_law.2.1 35 = .ok (.iconst 0, 1) := by decide +kernel
theorem D10_law_36 : decode m10_law.2.1 36 = .ok (.iload_n 2, 1) := by decide +kernel
theorem D10_law_37 : decode m10_law.2.1 37 = .ok (.invokevirtual 353, 3) := by decide +kernel
theorem D10_law_40 : decode m10_law.2.1 40 = .ok (.aload_n 0, 1) := by decide +kernel
theorem D10_law_41 : decode m10_law.2.1 41 = .ok (.iload_n 1, 1) := by decide +kernel
theorem D10_law_42 : decode m10_law.2.1 42 = .ok (.invokevirtual 341, 3) := by decide +kernel
theorem D10_law_45 : decode m10_law.2.1 45 = .ok (.ifCond .eq 12, 3) := by decide +kernel
theorem D10_law_48 : decode m10_law.2.1 48 = .ok (.aload_n 0, 1) := by decide +kernel
theorem D10_law_49 : decode m10_law.2.1 49 = .ok (.getfield 72, 3) := by decide +kernel
theorem D10_law_52 : decode m10_law.2.1 52 = .ok (.iconst 0, 1) := by decide +kernel
theorem D10_law_53 : decode m10_law.2.1 53 = .ok (.laload, 1) := by decide +kernel
theorem D10_law_54 : decode m10_law.2.1 54 = .ok (.goto 6, 3) := by decide +kernel
theorem D10_law_57 : decode m10_law.2.1 57 = .ok (.ldc2_w 423, 3) := by decide +kernel
theorem D10_law_60 : decode m10_law.2.1 60 = .ok (.lreturn, 1) := by decide +kernel
theorem D10_keepNow_0 : decode m10_keepNow.2.1 0 = .ok (.aload_n 0, 1) := by decide +kernel
theorem D10_keepNow_1 : decode m10_keepNow.2.1 1 = .ok (.getfield 302, 3) := by decide +kernel
theorem D10_keepNow_4 : decode m10_keepNow.2.1 4 = .ok (.bipush 20, 2) := by decide +kernel
theorem D10_keepNow_6 : decode m10_keepNow.2.1 6 = .ok (.if_icmp .ne 39, 3) := by decide +kernel
theorem D10_keepNow_9 : decode m10_keepNow.2.1 9 = .ok (.iconst 1, 1) := by decide +kernel
theorem D10_keepNow_10 : decode m10_keepNow.2.1 10 = .ok (.istore_n 1, 1) := by decide +kernel
theorem D10_keepNow_11 : decode m10_keepNow.2.1 11 = .ok (.iload_n 1, 1) := by decide +kernel
theorem D10_keepNow_12 : decode m10_keepNow.2.1 12 = .ok (.bipush 20, 2) := by decide +kernel
theorem D10_keepNow_14 : decode m10_keepNow.2.1 14 = .ok (.if_icmp .ge 21, 3) := by decide +kernel
theorem D10_keepNow_17 : decode m10_keepNow.2.1 17 = .ok (.aload_n 0, 1) := by decide +kernel
theorem D10_keepNow_18 : decode m10_keepNow.2.1 18 = .ok (.iconst 3, 1) := by decide +kernel
theorem D10_keepNow_19 : decode m10_keepNow.2.1 19 = .ok (.iload_n 1, 1) := by decide +kernel
theorem D10_keepNow_20 : decode m10_keepNow.2.1 20 = .ok (.iadd, 1) := by decide +kernel
theorem D10_keepNow_21 : decode m10_keepNow.2.1 21 = .ok (.iconst 1, 1) := by decide +kernel
theorem D10_keepNow_22 : decode m10_keepNow.2.1 22 = .ok (.isub, 1) := by decide +kernel
theorem D10_keepNow_23 : decode m10_keepNow.2.1 23 = .ok (.iconst 3, 1) := by decide +kernel
theorem D10_keepNow_24 : decode m10_keepNow.2.1 24 = .ok (.iload_n 1, 1) := by decide +kernel
theorem D10_keepNow_25 : decode m10_keepNow.2.1 25 = .ok (.iadd, 1) := by decide +kernel
theorem D10_keepNow_26 : decode m10_keepNow.2.1 26 = .ok (.invokevirtual 394, 3) := by decide +kernel
theorem D10_keepNow_29 : decode m10_keepNow.2.1 29 = .ok (.iinc 1 1, 3) := by decide +kernel
theorem D10_keepNow_32 : decode m10_keepNow.2.1 32 = .ok (.goto (-21), 3) := by decide +kernel
theorem D10_keepNow_35 : decode m10_keepNow.2.1 35 = .ok (.aload_n 0, 1) := by decide +kernel
theorem D10_keepNow_36 : decode m10_keepNow.2.1 36 = .ok (.dup, 1) := by decide +kernel
theorem D10_keepNow_37 : decode m10_keepNow.2.1 37 = .ok (.getfield 302, 3) := by decide +kernel
theorem D10_keepNow_40 : decode m10_keepNow.2.1 40 = .ok (.iconst 1, 1) := by decide +kernel
theorem D10_keepNow_41 : decode m10_keepNow.2.1 41 = .ok (.isub, 1) := by decide +kernel
theorem D10_keepNow_42 : decode m10_keepNow.2.1 42 = .ok (.putfield 302, 3) := by decide +kernel
theorem D10_keepNow_45 : decode m10_keepNow.2.1 45 = .ok (.aload_n 0, 1) := by decide +kernel
theorem D10_keepNow_46 : decode m10_keepNow.2.1 46 = .ok (.iconst 3, 1) := by decide +kernel
theorem D10_keepNow_47 : decode m10_keepNow.2.1 47 = .ok (.aload_n 0, 1) := by decide +kernel
theorem D10_keepNow_48 : decode m10_keepNow.2.1 48 = .ok (.getfield 302, 3) := by decide +kernel
theorem D10_keepNow_51 : decode m10_keepNow.2.1 51 = .ok (.iadd, 1) := by decide +kernel
theorem D10_keepNow_52 : decode m10_keepNow.2.1 52 = .ok (.iconst 0, 1) := by decide +kernel
theorem D10_keepNow_53 : decode m10_keepNow.2.1 53 = .ok (.invokevirtual 394, 3) := by decide +kernel
theorem D10_keepNow_56 : decode m10_keepNow.2.1 56 = .ok (.aload_n 0, 1) := by decide +kernel
theorem D10_keepNow_57 : decode m10_keepNow.2.1 57 = .ok (.dup, 1) := by decide +kernel
theorem D10_keepNow_58 : decode m10_keepNow.2.1 58 = .ok (.getfield 302, 3) := by decide +kernel
theorem D10_keepNow_61 : decode m10_keepNow.2.1 61 = .ok (.iconst 1, 1) := by decide +kernel
theorem D10_keepNow_62 : decode m10_keepNow.2.1 62 = .ok (.iadd, 1) := by decide +kernel
theorem D10_keepNow_63 : decode m10_keepNow.2.1 63 = .ok (.putfield 302, 3) := by decide +kernel
theorem D10_keepNow_66 : decode m10_keepNow.2.1 66 = .ok (.return_, 1) := by decide +kernel
theorem D10_rack_0 : decode m10_rack.2.1 0 = .ok (.aload_n 0, 1) := by decide +kernel
theorem D10_rack_1 : decode m10_rack.2.1 1 = .ok (.iconst 0, 1) := by decide +kernel
theorem D10_rack_2 : decode m10_rack.2.1 2 = .ok (.putfield 139, 3) := by decide +kernel
theorem D10_rack_5 : decode m10_rack.2.1 5 = .ok (.aload_n 0, 1) := by decide +kernel
theorem D10_rack_6 : decode m10_rack.2.1 6 = .ok (.iload_n 1, 1) := by decide +kernel
theorem D10_rack_7 : decode m10_rack.2.1 7 = .ok (.invokevirtual 418, 3) := by decide +kernel
theorem D10_rack_10 : decode m10_rack.2.1 10 = .ok (.ifCond .eq 22, 3) := by decide +kernel
theorem D10_rack_13 : decode m10_rack.2.1 13 = .ok (.iload_n 2, 1) := by decide +kernel
theorem D10_rack_14 : decode m10_rack.2.1 14 = .ok (.ifCond .lt 18, 3) := by decide +kernel
theorem D10_rack_17 : decode m10_rack.2.1 17 = .ok (.iload_n 2, 1) := by decide +kernel
theorem D10_rack_18 : decode m10_rack.2.1 18 = .ok (.iconst 5, 1) := by decide +kernel
theorem D10_rack_19 : decode m10_rack.2.1 19 = .ok (.if_icmp .gt 13, 3) := by decide +kernel
theorem D10_rack_22 : decode m10_rack.2.1 22 = .ok (.aload_n 0, 1) := by decide +kernel
theorem D10_rack_23 : decode m10_rack.2.1 23 = .ok (.getfield 93, 3) := by decide +kernel
theorem D10_rack_26 : decode m10_rack.2.1 26 = .ok (.iload_n 1, 1) := by decide +kernel
theorem D10_rack_27 : decode m10_rack.2.1 27 = .ok (.iaload, 1) := by decide +kernel
theorem D10_rack_28 : decode m10_rack.2.1 28 = .ok (.iload_n 2, 1) := by decide +kernel
theorem D10_rack_29 : decode m10_rack.2.1 29 = .ok (.if_icmp .ne 5, 3) := by decide +kernel
theorem D10_rack_32 : decode m10_rack.2.1 32 = .ok (.iconst 0, 1) := by decide +kernel
theorem D10_rack_33 : decode m10_rack.2.1 33 = .ok (.ireturn, 1) := by decide +kernel
theorem D10_rack_34 : decode m10_rack.2.1 34 = .ok (.aload_n 0, 1) := by decide +kernel
theorem D10_rack_35 : decode m10_rack.2.1 35 = .ok (.invokevirtual 425, 3) := by decide +kernel
theorem D10_rack_38 : decode m10_rack.2.1 38 = .ok (.aload_n 0, 1) := by decide +kernel
theorem D10_rack_39 : decode m10_rack.2.1 39 = .ok (.getfield 93, 3) := by decide +kernel
theorem D10_rack_42 : decode m10_rack.2.1 42 = .ok (.iload_n 1, 1) := by decide +kernel
theorem D10_rack_43 : decode m10_rack.2.1 43 = .ok (.iload_n 2, 1) := by decide +kernel
theorem D10_rack_44 : decode m10_rack.2.1 44 = .ok (.iastore, 1) := by decide +kernel
theorem D10_rack_45 : decode m10_rack.2.1 45 = .ok (.iconst 1, 1) := by decide +kernel
theorem D10_rack_46 : decode m10_rack.2.1 46 = .ok (.ireturn, 1) := by decide +kernel
theorem D10_seal_0 : decode m10_seal.2.1 0 = .ok (.aload_n 0, 1) := by decide +kernel
theorem D10_seal_1 : decode m10_seal.2.1 1 = .ok (.iconst 0, 1) := by decide +kernel
theorem D10_seal_2 : decode m10_seal.2.1 2 = .ok (.putfield 139, 3) := by decide +kernel
theorem D10_seal_5 : decode m10_seal.2.1 5 = .ok (.aload_n 0, 1) := by decide +kernel
theorem D10_seal_6 : decode m10_seal.2.1 6 = .ok (.iload_n 1, 1) := by decide +kernel
theorem D10_seal_7 : decode m10_seal.2.1 7 = .ok (.invokevirtual 403, 3) := by decide +kernel
theorem D10_seal_10 : decode m10_seal.2.1 10 = .ok (.ifCond .ne 5, 3) := by decide +kernel
theorem D10_seal_13 : decode m10_seal.2.1 13 = .ok (.iconst (-1), 1) := by decide +kernel
theorem D10_seal_14 : decode m10_seal.2.1 14 = .ok (.ireturn, 1) := by decide +kernel
theorem D10_seal_15 : decode m10_seal.2.1 15 = .ok (.aload_n 0, 1) := by decide +kernel
theorem D10_seal_16 : decode m10_seal.2.1 16 = .ok (.iconst 0, 1) := by decide +kernel
theorem D10_seal_17 : decode m10_seal.2.1 17 = .ok (.iload_n 1, 1) := by decide +kernel
theorem D10_seal_18 : decode m10_seal.2.1 18 = .ok (.invokevirtual 328, 3) := by decide +kernel
theorem D10_seal_21 : decode m10_seal.2.1 21 = .ok (.ifCond .eq 18, 3) := by decide +kernel
theorem D10_seal_24 : decode m10_seal.2.1 24 = .ok (.aload_n 0, 1) := by decide +kernel
theorem D10_seal_25 : decode m10_seal.2.1 25 = .ok (.getfield 90, 3) := by decide +kernel
theorem D10_seal_28 : decode m10_seal.2.1 28 = .ok (.iload_n 1, 1) := by decide +kernel
theorem D10_seal_29 : decode m10_seal.2.1 29 = .ok (.iaload, 1) := by decide +kernel
theorem D10_seal_30 : decode m10_seal.2.1 30 = .ok (.aload_n 0, 1) := by decide +kernel
theorem D10_seal_31 : decode m10_seal.2.1 31 = .ok (.getfield 37, 3) := by decide +kernel
theorem D10_seal_34 : decode m10_seal.2.1 34 = .ok (.iload_n 1, 1) := by decide +kernel
theorem D10_seal_35 : decode m10_seal.2.1 35 = .ok (.iaload, 1) := by decide +kernel
theorem D10_seal_36 : decode m10_seal.2.1 36 = .ok (.if_icmp .ne 6, 3) := by decide +kernel
theorem D10_seal_39 : decode m10_seal.2.1 39 = .ok (.bipush (-2), 2) := by decide +kernel
theorem D10_seal_41 : decode m10_seal.2.1 41 = .ok (.ireturn, 1) := by decide +kernel
theorem D10_seal_42 : decode m10_seal.2.1 42 = .ok (.aload_n 0, 1) := by decide +kernel
theorem D10_seal_43 : decode m10_seal.2.1 43 = .ok (.invokevirtual 425, 3) := by decide +kernel
theorem D10_seal_46 : decode m10_seal.2.1 46 = .ok (.aload_n 0, 1) := by decide +kernel
theorem D10_seal_47 : decode m10_seal.2.1 47 = .ok (.getfield 90, 3) := by decide +kernel
theorem D10_seal_50 : decode m10_seal.2.1 50 = .ok (.iload_n 1, 1) := by decide +kernel
theorem D10_seal_51 : decode m10_seal.2.1 51 = .ok (.aload_n 0, 1) := by decide +kernel
theorem D10_seal_52 : decode m10_seal.2.1 52 = .ok (.getfield 37, 3) := by decide +kernel
theorem D10_seal_55 : decode m10_seal.2.1 55 = .ok (.iload_n 1, 1) := by decide +kernel
theorem D10_seal_56 : decode m10_seal.2.1 56 = .ok (.iaload, 1) := by decide +kernel
theorem D10_seal_57 : decode m10_seal.2.1 57 = .ok (.iastore, 1) := by decide +kernel
theorem D10_seal_58 : decode m10_seal.2.1 58 = .ok (.aload_n 0, 1) := by decide +kernel
theorem D10_seal_59 : decode m10_seal.2.1 59 = .ok (.getfield 90, 3) := by decide +kernel
theorem D10_seal_62 : decode m10_seal.2.1 62 = .ok (.iload_n 1, 1) := by decide +kernel
theorem D10_seal_63 : decode m10_seal.2.1 63 = .ok (.iaload, 1) := by decide +kernel
theorem D10_seal_64 : decode m10_seal.2.1 64 = .ok (.ireturn, 1) := by decide +kernel
theorem D10_open_0 : decode m10_open.2.1 0 = .ok (.aload_n 0, 1) := by decide +kernel
theorem D10_open_1 : decode m10_open.2.1 1 = .ok (.iconst 0, 1) := by decide +kernel
theorem D10_open_2 : decode m10_open.2.1 2 = .ok (.putfield 139, 3) := by decide +kernel
theorem D10_open_5 : decode m10_open.2.1 5 = .ok (.aload_n 0, 1) := by decide +kernel
theorem D10_open_6 : decode m10_open.2.1 6 = .ok (.iload_n 1, 1) := by decide +kernel
theorem D10_open_7 : decode m10_open.2.1 7 = .ok (.invokevirtual 403, 3) := by decide +kernel
theorem D10_open_10 : decode m10_open.2.1 10 = .ok (.ifCond .ne 5, 3) := by decide +kernel
theorem D10_open_13 : decode m10_open.2.1 13 = .ok (.iconst (-1), 1) := by decide +kernel
theorem D10_open_14 : decode m10_open.2.1 14 = .ok (.ireturn, 1) := by decide +kernel
theorem D10_open_15 : decode m10_open.2.1 15 = .ok (.aload_n 0, 1) := by decide +kernel
theorem D10_open_16 : decode m10_open.2.1 16 = .ok (.iconst 0, 1) := by decide +kernel
theorem D10_open_17 : decode m10_open.2.1 17 = .ok (.iload_n 1, 1) := by decide +kernel
theorem D10_open_18 : decode m10_open.2.1 18 = .ok (.invokevirtual 328, 3) := by decide +kernel
theorem D10_open_21 : decode m10_open.2.1 21 = .ok (.ifCond .ne 6, 3) := by decide +kernel
theorem D10_open_24 : decode m10_open.2.1 24 = .ok (.bipush (-2), 2) := by decide +kernel
theorem D10_open_26 : decode m10_open.2.1 26 = .ok (.ireturn, 1) := by decide +kernel
theorem D10_open_27 : decode m10_open.2.1 27 = .ok (.aload_n 0, 1) := by decide +kernel
theorem D10_open_28 : decode m10_open.2.1 28 = .ok (.invokevirtual 425, 3) := by decide +kernel
theorem D10_open_31 : decode m10_open.2.1 31 = .ok (.aload_n 0, 1) := by decide +kernel
theorem D10_open_32 : decode m10_open.2.1 32 = .ok (.getfield 96, 3) := by decide +kernel
theorem D10_open_35 : decode m10_open.2.1 35 = .ok (.iload_n 1, 1) := by decide +kernel
theorem D10_open_36 : decode m10_open.2.1 36 = .ok (.iconst 1, 1) := by decide +kernel
theorem D10_open_37 : decode m10_open.2.1 37 = .ok (.iastore, 1) := by decide +kernel
theorem D10_open_38 : decode m10_open.2.1 38 = .ok (.aload_n 0, 1) := by decide +kernel
theorem D10_open_39 : decode m10_open.2.1 39 = .ok (.getfield 87, 3) := by decide +kernel
theorem D10_open_42 : decode m10_open.2.1 42 = .ok (.iload_n 1, 1) := by decide +kernel
theorem D10_open_43 : decode m10_open.2.1 43 = .ok (.iaload, 1) := by decide +kernel
theorem D10_open_44 : decode m10_open.2.1 44 = .ok (.ireturn, 1) := by decide +kernel
theorem D10_go_0 : decode m10_go.2.1 0 = .ok (.aload_n 0, 1) := by decide +kernel
theorem D10_go_1 : decode m10_go.2.1 1 = .ok (.iconst 0, 1) := by decide +kernel
theorem D10_go_2 : decode m10_go.2.1 2 = .ok (.putfield 139, 3) := by decide +kernel
theorem D10_go_5 : decode m10_go.2.1 5 = .ok (.iload_n 1, 1) := by decide +kernel
theorem D10_go_6 : decode m10_go.2.1 6 = .ok (.ifCond .lt 23, 3) := by decide +kernel
theorem D10_go_9 : decode m10_go.2.1 9 = .ok (.iload_n 1, 1) := by decide +kernel
theorem D10_go_10 : decode m10_go.2.1 10 = .ok (.bipush 99, 2) := by decide +kernel
theorem D10_go_12 : decode m10_go.2.1 12 = .ok (.if_icmp .gt 17, 3) := by decide +kernel
theorem D10_go_15 : decode m10_go.2.1 15 = .ok (.aload_n 0, 1) := by decide +kernel
theorem D10_go_16 : decode m10_go.2.1 16 = .ok (.getfield 75, 3) := by decide +kernel
theorem D10_go_19 : decode m10_go.2.1 19 = .ok (.iconst 0, 1) := by decide +kernel
theorem D10_go_20 : decode m10_go.2.1 20 = .ok (.iaload, 1) := by decide +kernel
theorem D10_go_21 : decode m10_go.2.1 21 = .ok (.iload_n 1, 1) := by decide +kernel
theorem D10_go_22 : decode m10_go.2.1 22 = .ok (.iadd, 1) := by decide +kernel
theorem D10_go_23 : decode m10_go.2.1 23 = .ok (.sipush 9900, 3) := by decide +kernel
theorem D10_go_26 : decode m10_go.2.1 26 = .ok (.if_icmp .le 5, 3) := by decide +kernel
theorem D10_go_29 : decode m10_go.2.1 29 = .ok (.iconst (-1), 1) := by decide +kernel
theorem D10_go_30 : decode m10_go.2.1 30 = .ok (.ireturn, 1) := by decide +kernel
theorem D10_go_31 : decode m10_go.2.1 31 = .ok (.iload_n 1, 1) := by decide +kernel
theorem D10_go_32 : decode m10_go.2.1 32 = .ok (.ifCond .le 8, 3) := by decide +kernel
theorem D10_go_35 : decode m10_go.2.1 35 = .ok (.aload_n 0, 1) := by decide +kernel
theorem D10_go_36 : decode m10_go.2.1 36 = .ok (.iconst 0, 1) := by decide +kernel
theorem D10_go_37 : decode m10_go.2.1 37 = .ok (.putfield 302, 3) := by decide +kernel
theorem D10_go_40 : decode m10_go.2.1 40 = .ok (.iconst 0, 1) := by decide +kernel
theorem D10_go_41 : decode m10_go.2.1 41 = .ok (.istore_n 2, 1) := by decide +kernel
theorem D10_go_42 : decode m10_go.2.1 42 = .ok (.iload_n 2, 1) := by decide +kernel
theorem D10_go_43 : decode m10_go.2.1 43 = .ok (.iload_n 1, 1) := by decide +kernel
theorem D10_go_44 : decode m10_go.2.1 44 = .ok (.if_icmp .ge 15, 3) := by decide +kernel
theorem D10_go_47 : decode m10_go.2.1 47 = .ok (.aload_n 0, 1) := by decide +kernel
theorem D10_go_48 : decode m10_go.2.1 48 = .ok (.iconst 0, 1) := by decide +kernel
theorem D10_go_49 : decode m10_go.2.1 49 = .ok (.iconst 1, 1) := by decide +kernel
theorem D10_go_50 : decode m10_go.2.1 50 = .ok (.invokevirtual 390, 3) := by decide +kernel
theorem D10_go_53 : decode m10_go.2.1 53 = .ok (.iinc 2 1, 3) := by decide +kernel
theorem D10_go_56 : decode m10_go.2.1 56 = .ok (.goto (-14), 3) := by decide +kernel
theorem D10_go_59 : decode m10_go.2.1 59 = .ok (.aload_n 0, 1) := by decide +kernel
theorem D10_go_60 : decode m10_go.2.1 60 = .ok (.getfield 75, 3) := by decide +kernel
theorem D10_go_63 : decode m10_go.2.1 63 = .ok (.iconst 0, 1) := by decide +kernel
theorem D10_go_64 : decode m10_go.2.1 64 = .ok (.iaload, 1) := by decide +kernel
theorem D10_go_65 : decode m10_go.2.1 65 = .ok (.ireturn, 1) := by decide +kernel
theorem D10_ahead_0 : decode m10_ahead.2.1 0 = .ok (.aload_n 0, 1) := by decide +kernel
theorem D10_ahead_1 : decode m10_ahead.2.1 1 = .ok (.iconst 0, 1) := by decide +kernel
theorem D10_ahead_2 : decode m10_ahead.2.1 2 = .ok (.putfield 139, 3) := by decide +kernel
theorem D10_ahead_5 : decode m10_ahead.2.1 5 = .ok (.iload_n 1, 1) := by decide +kernel
theorem D10_ahead_6 : decode m10_ahead.2.1 6 = .ok (.ifCond .lt 31, 3) := by decide +kernel
theorem D10_ahead_9 : decode m10_ahead.2.1 9 = .ok (.iload_n 1, 1) := by decide +kernel
theorem D10_ahead_10 : decode m10_ahead.2.1 10 = .ok (.bipush 99, 2) := by decide +kernel
theorem D10_ahead_12 : decode m10_ahead.2.1 12 = .ok (.if_icmp .gt 25, 3) := by decide +kernel
theorem D10_ahead_15 : decode m10_ahead.2.1 15 = .ok (.iload_n 2, 1) := by decide +kernel
theorem D10_ahead_16 : decode m10_ahead.2.1 16 = .ok (.ifCond .lt 21, 3) := by decide +kernel
theorem D10_ahead_19 : decode m10_ahead.2.1 19 = .ok (.iload_n 2, 1) := by decide +kernel
theorem D10_ahead_20 : decode m10_ahead.2.1 20 = .ok (.iconst 4, 1) := by decide +kernel
theorem D10_ahead_21 : decode m10_ahead.2.1 21 = .ok (.if_icmp .gt 16, 3) := by decide +kernel
theorem D10_ahead_24 : decode m10_ahead.2.1 24 = .ok (.iload_n 2, 1) := by decide +kernel
theorem D10_ahead_25 : decode m10_ahead.2.1 25 = .ok (.iconst 4, 1) := by decide +kernel
theorem D10_ahead_26 : decode m10_ahead.2.1 26 = .ok (.if_icmp .ne 13, 3) := by decide +kernel
theorem D10_ahead_29 : decode m10_ahead.2.1 29 = .ok (.aload_n 0, 1) := by decide +kernel
theorem D10_ahead_30 : decode m10_ahead.2.1 30 = .ok (.iload_n 3, 1) := by decide +kernel
theorem D10_ahead_31 : decode m10_ahead.2.1 31 = .ok (.invokevirtual 403, 3) := by decide +kernel
theorem D10_ahead_34 : decode m10_ahead.2.1 34 = .ok (.ifCond .ne 5, 3) := by decide +kernel
theorem D10_ahead_37 : decode m10_ahead.2.1 37 = .ok (.iconst (-1), 1) := by decide +kernel
theorem D10_ahead_38 : decode m10_ahead.2.1 38 = .ok (.ireturn, 1) := by decide +kernel
theorem D10_ahead_39 : decode m10_ahead.2.1 39 = .ok (.aload_n 0, 1) := by decide +kernel
theorem D10_ahead_40 : decode m10_ahead.2.1 40 = .ok (.iload_n 1, 1) := by decide +kernel
theorem D10_ahead_41 : decode m10_ahead.2.1 41 = .ok (.invokevirtual 428, 3) := by decide +kernel
theorem D10_ahead_44 : decode m10_ahead.2.1 44 = .ok (.iload_n 2, 1) := by decide +kernel
theorem D10_ahead_45 : decode m10_ahead.2.1 45 = .ok (.tableswitch 85 0 3 #[31, 45, 59, 73], 31) := by decide +kernel
theorem D10_ahead_76 : decode m10_ahead.2.1 76 = .ok (.aload_n 0, 1) := by decide +kernel
theorem D10_ahead_77 : decode m10_ahead.2.1 77 = .ok (.iconst 1, 1) := by decide +kernel
theorem D10_ahead_78 : decode m10_ahead.2.1 78 = .ok (.iconst 2, 1) := by decide +kernel
theorem D10_ahead_79 : decode m10_ahead.2.1 79 = .ok (.invokevirtual 431, 3) := by decide +kernel
theorem D10_ahead_82 : decode m10_ahead.2.1 82 = .ok (.aload_n 0, 1) := by decide +kernel
theorem D10_ahead_83 : decode m10_ahead.2.1 83 = .ok (.iconst 0, 1) := by decide +kernel
theorem D10_ahead_84 : decode m10_ahead.2.1 84 = .ok (.iconst 2, 1) := by decide +kernel
theorem D10_ahead_85 : decode m10_ahead.2.1 85 = .ok (.invokevirtual 431, 3) := by decide +kernel
theorem D10_ahead_88 : decode m10_ahead.2.1 88 = .ok (.isub, 1) := by decide +kernel
theorem D10_ahead_89 : decode m10_ahead.2.1 89 = .ok (.ireturn, 1) := by decide +kernel
theorem D10_ahead_90 : decode m10_ahead.2.1 90 = .ok (.aload_n 0, 1) := by decide +kernel
theorem D10_ahead_91 : decode m10_ahead.2.1 91 = .ok (.iconst 1, 1) := by decide +kernel
theorem D10_ahead_92 : decode m10_ahead.2.1 92 = .ok (.iconst 1, 1) := by decide +kernel
theorem D10_ahead_93 : decode m10_ahead.2.1 93 = .ok (.invokevirtual 434, 3) := by decide +kernel
theorem D10_ahead_96 : decode m10_ahead.2.1 96 = .ok (.aload_n 0, 1) := by decide +kernel
theorem D10_ahead_97 : decode m10_ahead.2.1 97 = .ok (.iconst 0, 1) := by decide +kernel
theorem D10_ahead_98 : decode m10_ahead.2.1 98 = .ok (.iconst 1, 1) := by decide +kernel
theorem D10_ahead_99 : decode m10_ahead.2.1 99 = .ok (.invokevirtual 434, 3) := by decide +kernel
theorem D10_ahead_102 : decode m10_ahead.2.1 102 = .ok (.isub, 1) := by decide +kernel
theorem D10_ahead_103 : decode m10_ahead.2.1 103 = .ok (.ireturn, 1) := by decide +kernel
theorem D10_ahead_104 : decode m10_ahead.2.1 104 = .ok (.aload_n 0, 1) := by decide +kernel
theorem D10_ahead_105 : decode m10_ahead.2.1 105 = .ok (.iconst 1, 1) := by decide +kernel
theorem D10_ahead_106 : decode m10_ahead.2.1 106 = .ok (.iconst 0, 1) := by decide +kernel
theorem D10_ahead_107 : decode m10_ahead.2.1 107 = .ok (.invokevirtual 434, 3) := by decide +kernel
theorem D10_ahead_110 : decode m10_ahead.2.1 110 = .ok (.aload_n 0, 1) := by decide +kernel
theorem D10_ahead_111 : decode m10_ahead.2.1 111 = .ok (.iconst 0, 1) := by decide +kernel
theorem D10_ahead_112 : decode m10_ahead.2.1 112 = .ok (.iconst 0, 1) := by decide +kernel
theorem D10_ahead_113 : decode m10_ahead.2.1 113 = .ok (.invokevirtual 434, 3) := by decide +kernel
theorem D10_ahead_116 : decode m10_ahead.2.1 116 = .ok (.isub, 1) := by decide +kernel
theorem D10_ahead_117 : decode m10_ahead.2.1 117 = .ok (.ireturn, 1) := by decide +kernel
theorem D10_ahead_118 : decode m10_ahead.2.1 118 = .ok (.aload_n 0, 1) := by decide +kernel
theorem D10_ahead_119 : decode m10_ahead.2.1 119 = .ok (.iconst 1, 1) := by decide +kernel
theorem D10_ahead_120 : decode m10_ahead.2.1 120 = .ok (.invokevirtual 438, 3) := by decide +kernel
theorem D10_ahead_123 : decode m10_ahead.2.1 123 = .ok (.aload_n 0, 1) := by decide +kernel
theorem D10_ahead_124 : decode m10_ahead.2.1 124 = .ok (.iconst 0, 1) := by decide +kernel
theorem D10_ahead_125 : decode m10_ahead.2.1 125 = .ok (.invokevirtual 438, 3) := by decide +kernel
theorem D10_ahead_128 : decode m10_ahead.2.1 128 = .ok (.isub, 1) := by decide +kernel
theorem D10_ahead_129 : decode m10_ahead.2.1 129 = .ok (.ireturn, 1) := by decide +kernel
theorem D10_ahead_130 : decode m10_ahead.2.1 130 = .ok (.aload_n 0, 1) := by decide +kernel
theorem D10_ahead_131 : decode m10_ahead.2.1 131 = .ok (.getfield 87, 3) := by decide +kernel
theorem D10_ahead_134 : decode m10_ahead.2.1 134 = .ok (.bipush 10, 2) := by decide +kernel
theorem D10_ahead_136 : decode m10_ahead.2.1 136 = .ok (.iload_n 3, 1) := by decide +kernel
theorem D10_ahead_137 : decode m10_ahead.2.1 137 = .ok (.iadd, 1) := by decide +kernel
theorem D10_ahead_138 : decode m10_ahead.2.1 138 = .ok (.iaload, 1) := by decide +kernel
theorem D10_ahead_139 : decode m10_ahead.2.1 139 = .ok (.ireturn, 1) := by decide +kernel
theorem D10_offMore_0 : decode m10_offMore.2.1 0 = .ok (.iconst 0, 1) := by decide +kernel
theorem D10_offMore_1 : decode m10_offMore.2.1 1 = .ok (.istore_n 1, 1) := by decide +kernel
theorem D10_offMore_2 : decode m10_offMore.2.1 2 = .ok (.iconst 0, 1) := by decide +kernel
theorem D10_offMore_3 : decode m10_offMore.2.1 3 = .ok (.istore_n 2, 1) := by decide +kernel
theorem D10_offMore_4 : decode m10_offMore.2.1 4 = .ok (.iload_n 2, 1) := by decide +kernel
theorem D10_offMore_5 : decode m10_offMore.2.1 5 = .ok (.aload_n 0, 1) := by decide +kernel
theorem D10_offMore_6 : decode m10_offMore.2.1 6 = .ok (.getfield 13, 3) := by decide +kernel
theorem D10_offMore_9 : decode m10_offMore.2.1 9 = .ok (.iconst 1, 1) := by decide +kernel
theorem D10_offMore_10 : decode m10_offMore.2.1 10 = .ok (.iaload, 1) := by decide +kernel
theorem D10_offMore_11 : decode m10_offMore.2.1 11 = .ok (.if_icmp .ge 42, 3) := by decide +kernel
theorem D10_offMore_14 : decode m10_offMore.2.1 14 = .ok (.iload_n 1, 1) := by decide +kernel
theorem D10_offMore_15 : decode m10_offMore.2.1 15 = .ok (.aload_n 0, 1) := by decide +kernel
theorem D10_offMore_16 : decode m10_offMore.2.1 16 = .ok (.getfield 96, 3) := by decide +kernel
theorem D10_offMore_19 : decode m10_offMore.2.1 19 = .ok (.bipush 10, 2) := by decide +kernel
theorem D10_offMore_21 : decode m10_offMore.2.1 21 = .ok (.iload_n 2, 1) := by decide +kernel
theorem D10_offMore_22 : decode m10_offMore.2.1 22 = .ok (.iadd, 1) := by decide +kernel
theorem D10_offMore_23 : decode m10_offMore.2.1 23 = .ok (.iaload, 1) := by decide +kernel
theorem D10_offMore_24 : decode m10_offMore.2.1 24 = .ok (.iconst 2, 1) := by decide +kernel
theorem D10_offMore_25 : decode m10_offMore.2.1 25 = .ok (.if_icmp .ne 19, 3) := by decide +kernel
theorem D10_offMore_28 : decode m10_offMore.2.1 28 = .ok (.aload_n 0, 1) := by decide +kernel
theorem D10_offMore_29 : decode m10_offMore.2.1 29 = .ok (.getfield 96, 3) := by decide +kernel
theorem D10_offMore_32 : decode m10_offMore.2.1 32 = .ok (.iload_n 2, 1) := by decide +kernel
theorem D10_offMore_33 : decode m10_offMore.2.1 33 = .ok (.iaload, 1) := by decide +kernel
theorem D10_offMore_34 : decode m10_offMore.2.1 34 = .ok (.iconst 2, 1) := by decide +kernel
theorem D10_offMore_35 : decode m10_offMore.2.1 35 = .ok (.if_icmp .eq 9, 3) := by decide +kernel
theorem D10_offMore_38 : decode m10_offMore.2.1 38 = .ok (.iconst 1, 1) := by decide +kernel
theorem D10_offMore_39 : decode m10_offMore.2.1 39 = .ok (.iload_n 2, 1) := by decide +kernel
theorem D10_offMore_40 : decode m10_offMore.2.1 40 = .ok (.ishl, 1) := by decide +kernel
theorem D10_offMore_41 : decode m10_offMore.2.1 41 = .ok (.goto 4, 3) := by decide +kernel
theorem D10_offMore_44 : decode m10_offMore.2.1 44 = .ok (.iconst 0, 1) := by decide +kernel
theorem D10_offMore_45 : decode m10_offMore.2.1 45 = .ok (.ior, 1) := by decide +kernel
theorem D10_offMore_46 : decode m10_offMore.2.1 46 = .ok (.istore_n 1, 1) := by decide +kernel
theorem D10_offMore_47 : decode m10_offMore.2.1 47 = .ok (.iinc 2 1, 3) := by decide +kernel
theorem D10_offMore_50 : decode m10_offMore.2.1 50 = .ok (.goto (-46), 3) := by decide +kernel
theorem D10_offMore_53 : decode m10_offMore.2.1 53 = .ok (.iload_n 1, 1) := by decide +kernel
theorem D10_offMore_54 : decode m10_offMore.2.1 54 = .ok (.ireturn, 1) := by decide +kernel
theorem D10_firstOff_0 : decode m10_firstOff.2.1 0 = .ok (.aload_n 0, 1) := by decide +kernel
theorem D10_firstOff_1 : decode m10_firstOff.2.1 1 = .ok (.iconst 0, 1) := by decide +kernel
theorem D10_firstOff_2 : decode m10_firstOff.2.1 2 = .ok (.putfield 139, 3) := by decide +kernel
theorem D10_firstOff_5 : decode m10_firstOff.2.1 5 = .ok (.iload_n 1, 1) := by decide +kernel
theorem D10_firstOff_6 : decode m10_firstOff.2.1 6 = .ok (.ifCond .lt 8, 3) := by decide +kernel
theorem D10_firstOff_9 : decode m10_firstOff.2.1 9 = .ok (.iload_n 1, 1) := by decide +kernel
theorem D10_firstOff_10 : decode m10_firstOff.2.1 10 = .ok (.iconst 1, 1) := by decide +kernel
theorem D10_firstOff_11 : decode m10_firstOff.2.1 11 = .ok (.if_icmp .le 5, 3) := by decide +kernel
theorem D10_firstOff_14 : decode m10_firstOff.2.1 14 = .ok (.iconst (-1), 1) := by decide +kernel
theorem D10_firstOff_15 : decode m10_firstOff.2.1 15 = .ok (.ireturn, 1) := by decide +kernel
theorem D10_firstOff_16 : decode m10_firstOff.2.1 16 = .ok (.aload_n 0, 1) := by decide +kernel

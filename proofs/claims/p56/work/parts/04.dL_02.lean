/-! what each instruction decodes to, as printed -/
theorem dL_replica_316 : decode cL_replica 316 = .ok (.iconst 0, 1) := by decide +kernel
theorem dL_replica_317 : decode cL_replica 317 = .ok (.iadd, 1) := by decide +kernel
theorem dL_replica_318 : decode cL_replica 318 = .ok (.istore_n 3, 1) := by decide +kernel
theorem dL_replica_319 : decode cL_replica 319 = .ok (.iinc 6 1, 3) := by decide +kernel
theorem dL_replica_322 : decode cL_replica 322 = .ok (.goto (-161), 3) := by decide +kernel
theorem dL_replica_325 : decode cL_replica 325 = .ok (.iconst 0, 1) := by decide +kernel
theorem dL_replica_326 : decode cL_replica 326 = .ok (.istore 6, 2) := by decide +kernel
theorem dL_replica_328 : decode cL_replica 328 = .ok (.iload 6, 2) := by decide +kernel
theorem dL_replica_330 : decode cL_replica 330 = .ok (.aload_n 0, 1) := by decide +kernel
theorem dL_replica_331 : decode cL_replica 331 = .ok (.invokevirtual 140, 3) := by decide +kernel
theorem dL_replica_334 : decode cL_replica 334 = .ok (.if_icmp .ge 120, 3) := by decide +kernel
theorem dL_replica_337 : decode cL_replica 337 = .ok (.iload 5, 2) := by decide +kernel
theorem dL_replica_339 : decode cL_replica 339 = .ok (.ifCond .eq 115, 3) := by decide +kernel
theorem dL_replica_342 : decode cL_replica 342 = .ok (.iconst 0, 1) := by decide +kernel
theorem dL_replica_343 : decode cL_replica 343 = .ok (.istore 7, 2) := by decide +kernel
theorem dL_replica_345 : decode cL_replica 345 = .ok (.iconst (-1), 1) := by decide +kernel
theorem dL_replica_346 : decode cL_replica 346 = .ok (.istore 8, 2) := by decide +kernel
theorem dL_replica_348 : decode cL_replica 348 = .ok (.iconst 0, 1) := by decide +kernel
theorem dL_replica_349 : decode cL_replica 349 = .ok (.istore 9, 2) := by decide +kernel
theorem dL_replica_351 : decode cL_replica 351 = .ok (.iload 9, 2) := by decide +kernel
theorem dL_replica_353 : decode cL_replica 353 = .ok (.iload_n 2, 1) := by decide +kernel
theorem dL_replica_354 : decode cL_replica 354 = .ok (.if_icmp .ge 47, 3) := by decide +kernel
theorem dL_replica_357 : decode cL_replica 357 = .ok (.iload 7, 2) := by decide +kernel
theorem dL_replica_359 : decode cL_replica 359 = .ok (.aload_n 0, 1) := by decide +kernel
theorem dL_replica_360 : decode cL_replica 360 = .ok (.iload_n 1, 1) := by decide +kernel
theorem dL_replica_361 : decode cL_replica 361 = .ok (.iload 6, 2) := by decide +kernel
theorem dL_replica_363 : decode cL_replica 363 = .ok (.iload 9, 2) := by decide +kernel
theorem dL_replica_365 : decode cL_replica 365 = .ok (.invokevirtual 143, 3) := by decide +kernel
theorem dL_replica_368 : decode cL_replica 368 = .ok (.ifCond .lt 7, 3) := by decide +kernel
theorem dL_replica_371 : decode cL_replica 371 = .ok (.iconst 1, 1) := by decide +kernel
theorem dL_replica_372 : decode cL_replica 372 = .ok (.goto 4, 3) := by decide +kernel
theorem dL_replica_375 : decode cL_replica 375 = .ok (.iconst 0, 1) := by decide +kernel
theorem dL_replica_376 : decode cL_replica 376 = .ok (.iadd, 1) := by decide +kernel
theorem dL_replica_377 : decode cL_replica 377 = .ok (.istore 7, 2) := by decide +kernel
theorem dL_replica_379 : decode cL_replica 379 = .ok (.iload 8, 2) := by decide +kernel
theorem dL_replica_381 : decode cL_replica 381 = .ok (.aload_n 0, 1) := by decide +kernel
theorem dL_replica_382 : decode cL_replica 382 = .ok (.iload_n 1, 1) := by decide +kernel
theorem dL_replica_383 : decode cL_replica 383 = .ok (.iload 6, 2) := by decide +kernel
theorem dL_replica_385 : decode cL_replica 385 = .ok (.iload 9, 2) := by decide +kernel
theorem dL_replica_387 : decode cL_replica 387 = .ok (.invokevirtual 143, 3) := by decide +kernel
theorem dL_replica_390 : decode cL_replica 390 = .ok (.invokestatic 166, 3) := by decide +kernel
theorem dL_replica_393 : decode cL_replica 393 = .ok (.istore 8, 2) := by decide +kernel
theorem dL_replica_395 : decode cL_replica 395 = .ok (.iinc 9 1, 3) := by decide +kernel
theorem dL_replica_398 : decode cL_replica 398 = .ok (.goto (-47), 3) := by decide +kernel
theorem dL_replica_401 : decode cL_replica 401 = .ok (.iload 4, 2) := by decide +kernel
theorem dL_replica_403 : decode cL_replica 403 = .ok (.iload 7, 2) := by decide +kernel
theorem dL_replica_405 : decode cL_replica 405 = .ok (.iconst 1, 1) := by decide +kernel
theorem dL_replica_406 : decode cL_replica 406 = .ok (.if_icmp .le 7, 3) := by decide +kernel
theorem dL_replica_409 : decode cL_replica 409 = .ok (.iconst 1, 1) := by decide +kernel
theorem dL_replica_410 : decode cL_replica 410 = .ok (.goto 4, 3) := by decide +kernel
theorem dL_replica_413 : decode cL_replica 413 = .ok (.iconst 0, 1) := by decide +kernel
theorem dL_replica_414 : decode cL_replica 414 = .ok (.iadd, 1) := by decide +kernel
theorem dL_replica_415 : decode cL_replica 415 = .ok (.istore 4, 2) := by decide +kernel
theorem dL_replica_417 : decode cL_replica 417 = .ok (.aload_n 0, 1) := by decide +kernel
theorem dL_replica_418 : decode cL_replica 418 = .ok (.iload_n 1, 1) := by decide +kernel
theorem dL_replica_419 : decode cL_replica 419 = .ok (.iload 6, 2) := by decide +kernel
theorem dL_replica_421 : decode cL_replica 421 = .ok (.invokevirtual 171, 3) := by decide +kernel
theorem dL_replica_424 : decode cL_replica 424 = .ok (.iload 7, 2) := by decide +kernel
theorem dL_replica_426 : decode cL_replica 426 = .ok (.if_icmp .ne 19, 3) := by decide +kernel
theorem dL_replica_429 : decode cL_replica 429 = .ok (.aload_n 0, 1) := by decide +kernel
theorem dL_replica_430 : decode cL_replica 430 = .ok (.iload_n 1, 1) := by decide +kernel
theorem dL_replica_431 : decode cL_replica 431 = .ok (.iload 6, 2) := by decide +kernel
theorem dL_replica_433 : decode cL_replica 433 = .ok (.invokevirtual 174, 3) := by decide +kernel
theorem dL_replica_436 : decode cL_replica 436 = .ok (.iload 8, 2) := by decide +kernel
theorem dL_replica_438 : decode cL_replica 438 = .ok (.if_icmp .ne 7, 3) := by decide +kernel
theorem dL_replica_441 : decode cL_replica 441 = .ok (.iconst 1, 1) := by decide +kernel
theorem dL_replica_442 : decode cL_replica 442 = .ok (.goto 4, 3) := by decide +kernel
theorem dL_replica_445 : decode cL_replica 445 = .ok (.iconst 0, 1) := by decide +kernel
theorem dL_replica_446 : decode cL_replica 446 = .ok (.istore 5, 2) := by decide +kernel
theorem dL_replica_448 : decode cL_replica 448 = .ok (.iinc 6 1, 3) := by decide +kernel
theorem dL_replica_451 : decode cL_replica 451 = .ok (.goto (-123), 3) := by decide +kernel
theorem dL_replica_454 : decode cL_replica 454 = .ok (.iconst 0, 1) := by decide +kernel
theorem dL_replica_455 : decode cL_replica 455 = .ok (.istore 6, 2) := by decide +kernel
theorem dL_replica_457 : decode cL_replica 457 = .ok (.iload 6, 2) := by decide +kernel
theorem dL_replica_459 : decode cL_replica 459 = .ok (.iload_n 2, 1) := by decide +kernel
theorem dL_replica_460 : decode cL_replica 460 = .ok (.if_icmp .ge 39, 3) := by decide +kernel
theorem dL_replica_463 : decode cL_replica 463 = .ok (.iload 5, 2) := by decide +kernel
theorem dL_replica_465 : decode cL_replica 465 = .ok (.ifCond .eq 34, 3) := by decide +kernel
theorem dL_replica_468 : decode cL_replica 468 = .ok (.aload_n 0, 1) := by decide +kernel
theorem dL_replica_469 : decode cL_replica 469 = .ok (.iload_n 1, 1) := by decide +kernel
theorem dL_replica_470 : decode cL_replica 470 = .ok (.iload 6, 2) := by decide +kernel
theorem dL_replica_472 : decode cL_replica 472 = .ok (.invokevirtual 125, 3) := by decide +kernel
theorem dL_replica_475 : decode cL_replica 475 = .ok (.aload_n 0, 1) := by decide +kernel
theorem dL_replica_476 : decode cL_replica 476 = .ok (.iload 6, 2) := by decide +kernel
theorem dL_replica_478 : decode cL_replica 478 = .ok (.iload 6, 2) := by decide +kernel
theorem dL_replica_480 : decode cL_replica 480 = .ok (.invokevirtual 125, 3) := by decide +kernel
theorem dL_replica_483 : decode cL_replica 483 = .ok (.if_icmp .gt 7, 3) := by decide +kernel
theorem dL_replica_486 : decode cL_replica 486 = .ok (.iconst 1, 1) := by decide +kernel
theorem dL_replica_487 : decode cL_replica 487 = .ok (.goto 4, 3) := by decide +kernel
theorem dL_replica_490 : decode cL_replica 490 = .ok (.iconst 0, 1) := by decide +kernel
theorem dL_replica_491 : decode cL_replica 491 = .ok (.istore 5, 2) := by decide +kernel
theorem dL_replica_493 : decode cL_replica 493 = .ok (.iinc 6 1, 3) := by decide +kernel
theorem dL_replica_496 : decode cL_replica 496 = .ok (.goto (-39), 3) := by decide +kernel
theorem dL_replica_499 : decode cL_replica 499 = .ok (.iload 5, 2) := by decide +kernel
theorem dL_replica_501 : decode cL_replica 501 = .ok (.ifCond .eq 37, 3) := by decide +kernel
theorem dL_replica_504 : decode cL_replica 504 = .ok (.aload_n 0, 1) := by decide +kernel
theorem dL_replica_505 : decode cL_replica 505 = .ok (.iload_n 1, 1) := by decide +kernel
theorem dL_replica_506 : decode cL_replica 506 = .ok (.invokevirtual 177, 3) := by decide +kernel
theorem dL_replica_509 : decode cL_replica 509 = .ok (.iload_n 3, 1) := by decide +kernel
theorem dL_replica_510 : decode cL_replica 510 = .ok (.if_icmp .ne 28, 3) := by decide +kernel
theorem dL_replica_513 : decode cL_replica 513 = .ok (.aload_n 0, 1) := by decide +kernel
theorem dL_replica_514 : decode cL_replica 514 = .ok (.iload_n 1, 1) := by decide +kernel
theorem dL_replica_515 : decode cL_replica 515 = .ok (.iload_n 3, 1) := by decide +kernel
theorem dL_replica_516 : decode cL_replica 516 = .ok (.invokestatic 163, 3) := by decide +kernel
theorem dL_replica_519 : decode cL_replica 519 = .ok (.bipush (-5), 2) := by decide +kernel
theorem dL_replica_521 : decode cL_replica 521 = .ok (.if_icmp .ne 17, 3) := by decide +kernel
theorem dL_replica_524 : decode cL_replica 524 = .ok (.aload_n 0, 1) := by decide +kernel
theorem dL_replica_525 : decode cL_replica 525 = .ok (.iload_n 1, 1) := by decide +kernel
theorem dL_replica_526 : decode cL_replica 526 = .ok (.invokevirtual 180, 3) := by decide +kernel
theorem dL_replica_529 : decode cL_replica 529 = .ok (.iload 4, 2) := by decide +kernel
theorem dL_replica_531 : decode cL_replica 531 = .ok (.if_icmp .ne 7, 3) := by decide +kernel
theorem dL_replica_534 : decode cL_replica 534 = .ok (.iconst 1, 1) := by decide +kernel
theorem dL_replica_535 : decode cL_replica 535 = .ok (.goto 4, 3) := by decide +kernel
theorem dL_replica_538 : decode cL_replica 538 = .ok (.iconst 0, 1) := by decide +kernel
theorem dL_replica_539 : decode cL_replica 539 = .ok (.ireturn, 1) := by decide +kernel
theorem dL_pairs_0 : decode cL_pairs 0 = .ok (.aload_n 0, 1) := by decide +kernel
theorem dL_pairs_1 : decode cL_pairs 1 = .ok (.invokevirtual 117, 3) := by decide +kernel
theorem dL_pairs_4 : decode cL_pairs 4 = .ok (.istore_n 1, 1) := by decide +kernel
theorem dL_pairs_5 : decode cL_pairs 5 = .ok (.iconst 0, 1) := by decide +kernel
theorem dL_pairs_6 : decode cL_pairs 6 = .ok (.istore_n 2, 1) := by decide +kernel
theorem dL_pairs_7 : decode cL_pairs 7 = .ok (.iconst 0, 1) := by decide +kernel
theorem dL_pairs_8 : decode cL_pairs 8 = .ok (.istore_n 3, 1) := by decide +kernel
theorem dL_pairs_9 : decode cL_pairs 9 = .ok (.aload_n 0, 1) := by decide +kernel
theorem dL_pairs_10 : decode cL_pairs 10 = .ok (.invokevirtual 183, 3) := by decide +kernel
theorem dL_pairs_13 : decode cL_pairs 13 = .ok (.ifCond .ne 7, 3) := by decide +kernel
theorem dL_pairs_16 : decode cL_pairs 16 = .ok (.iconst 1, 1) := by decide +kernel
theorem dL_pairs_17 : decode cL_pairs 17 = .ok (.goto 4, 3) := by decide +kernel
theorem dL_pairs_20 : decode cL_pairs 20 = .ok (.iconst 0, 1) := by decide +kernel
theorem dL_pairs_21 : decode cL_pairs 21 = .ok (.istore 4, 2) := by decide +kernel
theorem dL_pairs_23 : decode cL_pairs 23 = .ok (.iconst 0, 1) := by decide +kernel
theorem dL_pairs_24 : decode cL_pairs 24 = .ok (.istore 5, 2) := by decide +kernel
theorem dL_pairs_26 : decode cL_pairs 26 = .ok (.iload 5, 2) := by decide +kernel
theorem dL_pairs_28 : decode cL_pairs 28 = .ok (.iload_n 1, 1) := by decide +kernel
theorem dL_pairs_29 : decode cL_pairs 29 = .ok (.if_icmp .ge 297, 3) := by decide +kernel
theorem dL_pairs_32 : decode cL_pairs 32 = .ok (.iload 4, 2) := by decide +kernel
theorem dL_pairs_34 : decode cL_pairs 34 = .ok (.ifCond .eq 292, 3) := by decide +kernel
theorem dL_pairs_37 : decode cL_pairs 37 = .ok (.iconst 1, 1) := by decide +kernel
theorem dL_pairs_38 : decode cL_pairs 38 = .ok (.istore 6, 2) := by decide +kernel
theorem dL_pairs_40 : decode cL_pairs 40 = .ok (.iload_n 3, 1) := by decide +kernel
theorem dL_pairs_41 : decode cL_pairs 41 = .ok (.aload_n 0, 1) := by decide +kernel
theorem dL_pairs_42 : decode cL_pairs 42 = .ok (.iload 5, 2) := by decide +kernel
theorem dL_pairs_44 : decode cL_pairs 44 = .ok (.invokevirtual 177, 3) := by decide +kernel
theorem dL_pairs_47 : decode cL_pairs 47 = .ok (.iadd, 1) := by decide +kernel
theorem dL_pairs_48 : decode cL_pairs 48 = .ok (.istore_n 3, 1) := by decide +kernel
theorem dL_pairs_49 : decode cL_pairs 49 = .ok (.iconst 0, 1) := by decide +kernel
theorem dL_pairs_50 : decode cL_pairs 50 = .ok (.istore 7, 2) := by decide +kernel
theorem dL_pairs_52 : decode cL_pairs 52 = .ok (.iload 7, 2) := by decide +kernel
theorem dL_pairs_54 : decode cL_pairs 54 = .ok (.iload_n 1, 1) := by decide +kernel
theorem dL_pairs_55 : decode cL_pairs 55 = .ok (.if_icmp .ge 252, 3) := by decide +kernel
theorem dL_pairs_58 : decode cL_pairs 58 = .ok (.iload 4, 2) := by decide +kernel
theorem dL_pairs_60 : decode cL_pairs 60 = .ok (.ifCond .eq 247, 3) := by decide +kernel
theorem dL_pairs_63 : decode cL_pairs 63 = .ok (.iconst 0, 1) := by decide +kernel
theorem dL_pairs_64 : decode cL_pairs 64 = .ok (.istore 8, 2) := by decide +kernel
theorem dL_pairs_66 : decode cL_pairs 66 = .ok (.iconst 0, 1) := by decide +kernel
theorem dL_pairs_67 : decode cL_pairs 67 = .ok (.istore 9, 2) := by decide +kernel
theorem dL_pairs_69 : decode cL_pairs 69 = .ok (.iload 9, 2) := by decide +kernel
theorem dL_pairs_71 : decode cL_pairs 71 = .ok (.iload_n 1, 1) := by decide +kernel
theorem dL_pairs_72 : decode cL_pairs 72 = .ok (.if_icmp .ge 35, 3) := by decide +kernel
theorem dL_pairs_75 : decode cL_pairs 75 = .ok (.iload 8, 2) := by decide +kernel
theorem dL_pairs_77 : decode cL_pairs 77 = .ok (.iconst 0, 1) := by decide +kernel
theorem dL_pairs_78 : decode cL_pairs 78 = .ok (.aload_n 0, 1) := by decide +kernel
theorem dL_pairs_79 : decode cL_pairs 79 = .ok (.iload 7, 2) := by decide +kernel
theorem dL_pairs_81 : decode cL_pairs 81 = .ok (.iload 9, 2) := by decide +kernel
theorem dL_pairs_83 : decode cL_pairs 83 = .ok (.invokevirtual 125, 3) := by decide +kernel
theorem dL_pairs_86 : decode cL_pairs 86 = .ok (.aload_n 0, 1) := by decide +kernel
theorem dL_pairs_87 : decode cL_pairs 87 = .ok (.iload 5, 2) := by decide +kernel
theorem dL_pairs_89 : decode cL_pairs 89 = .ok (.iload 9, 2) := by decide +kernel
theorem dL_pairs_91 : decode cL_pairs 91 = .ok (.invokevirtual 125, 3) := by decide +kernel
theorem dL_pairs_94 : decode cL_pairs 94 = .ok (.isub, 1) := by decide +kernel
theorem dL_pairs_95 : decode cL_pairs 95 = .ok (.invokestatic 166, 3) := by decide +kernel
theorem dL_pairs_98 : decode cL_pairs 98 = .ok (.iadd, 1) := by decide +kernel
theorem dL_pairs_99 : decode cL_pairs 99 = .ok (.istore 8, 2) := by decide +kernel
theorem dL_pairs_101 : decode cL_pairs 101 = .ok (.iinc 9 1, 3) := by decide +kernel
theorem dL_pairs_104 : decode cL_pairs 104 = .ok (.goto (-35), 3) := by decide +kernel
theorem dL_pairs_107 : decode cL_pairs 107 = .ok (.aload_n 0, 1) := by decide +kernel
theorem dL_pairs_108 : decode cL_pairs 108 = .ok (.iload 5, 2) := by decide +kernel
theorem dL_pairs_110 : decode cL_pairs 110 = .ok (.iload 7, 2) := by decide +kernel
theorem dL_pairs_112 : decode cL_pairs 112 = .ok (.invokevirtual 186, 3) := by decide +kernel
theorem dL_pairs_115 : decode cL_pairs 115 = .ok (.istore 9, 2) := by decide +kernel
theorem dL_pairs_117 : decode cL_pairs 117 = .ok (.iload 6, 2) := by decide +kernel
theorem dL_pairs_119 : decode cL_pairs 119 = .ok (.ifCond .eq 12, 3) := by decide +kernel
theorem dL_pairs_122 : decode cL_pairs 122 = .ok (.iload 9, 2) := by decide +kernel
theorem dL_pairs_124 : decode cL_pairs 124 = .ok (.ifCond .eq 7, 3) := by decide +kernel
theorem dL_pairs_127 : decode cL_pairs 127 = .ok (.iconst 1, 1) := by decide +kernel
theorem dL_pairs_128 : decode cL_pairs 128 = .ok (.goto 4, 3) := by decide +kernel
theorem dL_pairs_131 : decode cL_pairs 131 = .ok (.iconst 0, 1) := by decide +kernel
theorem dL_pairs_132 : decode cL_pairs 132 = .ok (.istore 6, 2) := by decide +kernel
theorem dL_pairs_134 : decode cL_pairs 134 = .ok (.aload_n 0, 1) := by decide +kernel
theorem dL_pairs_135 : decode cL_pairs 135 = .ok (.iload 7, 2) := by decide +kernel
theorem dL_pairs_137 : decode cL_pairs 137 = .ok (.iload 5, 2) := by decide +kernel
theorem dL_pairs_139 : decode cL_pairs 139 = .ok (.invokevirtual 189, 3) := by decide +kernel
theorem dL_pairs_142 : decode cL_pairs 142 = .ok (.iload 8, 2) := by decide +kernel
theorem dL_pairs_144 : decode cL_pairs 144 = .ok (.if_icmp .ne 154, 3) := by decide +kernel
theorem dL_pairs_147 : decode cL_pairs 147 = .ok (.iload 9, 2) := by decide +kernel
theorem dL_pairs_149 : decode cL_pairs 149 = .ok (.ifCond .eq 41, 3) := by decide +kernel
theorem dL_pairs_152 : decode cL_pairs 152 = .ok (.iload 8, 2) := by decide +kernel
theorem dL_pairs_154 : decode cL_pairs 154 = .ok (.ifCond .ne 144, 3) := by decide +kernel
theorem dL_pairs_157 : decode cL_pairs 157 = .ok (.aload_n 0, 1) := by decide +kernel
theorem dL_pairs_158 : decode cL_pairs 158 = .ok (.iload 7, 2) := by decide +kernel
theorem dL_pairs_160 : decode cL_pairs 160 = .ok (.iload 5, 2) := by decide +kernel
theorem dL_pairs_162 : decode cL_pairs 162 = .ok (.invokevirtual 192, 3) := by decide +kernel
theorem dL_pairs_165 : decode cL_pairs 165 = .ok (.ifCond .ne 133, 3) := by decide +kernel
theorem dL_pairs_168 : decode cL_pairs 168 = .ok (.aload_n 0, 1) := by decide +kernel
theorem dL_pairs_169 : decode cL_pairs 169 = .ok (.iload 5, 2) := by decide +kernel
theorem dL_pairs_171 : decode cL_pairs 171 = .ok (.iload 7, 2) := by decide +kernel
theorem dL_pairs_173 : decode cL_pairs 173 = .ok (.invokevirtual 195, 3) := by decide +kernel
theorem dL_pairs_176 : decode cL_pairs 176 = .ok (.ifCond .ne 122, 3) := by decide +kernel
theorem dL_pairs_179 : decode cL_pairs 179 = .ok (.aload_n 0, 1) := by decide +kernel
theorem dL_pairs_180 : decode cL_pairs 180 = .ok (.iload 5, 2) := by decide +kernel
theorem dL_pairs_182 : decode cL_pairs 182 = .ok (.iload 7, 2) := by decide +kernel
theorem dL_pairs_184 : decode cL_pairs 184 = .ok (.invokevirtual 198, 3) := by decide +kernel
theorem dL_pairs_187 : decode cL_pairs 187 = .ok (.ifCond .ne 111, 3) := by decide +kernel
theorem dL_pairs_190 : decode cL_pairs 190 = .ok (.aload_n 0, 1) := by decide +kernel
theorem dL_pairs_191 : decode cL_pairs 191 = .ok (.iload 5, 2) := by decide +kernel
theorem dL_pairs_193 : decode cL_pairs 193 = .ok (.iload 7, 2) := by decide +kernel
theorem dL_pairs_195 : decode cL_pairs 195 = .ok (.invokevirtual 201, 3) := by decide +kernel
theorem dL_pairs_198 : decode cL_pairs 198 = .ok (.iload 9, 2) := by decide +kernel
theorem dL_pairs_200 : decode cL_pairs 200 = .ok (.ifCond .eq 18, 3) := by decide +kernel
theorem dL_pairs_203 : decode cL_pairs 203 = .ok (.aload_n 0, 1) := by decide +kernel
theorem dL_pairs_204 : decode cL_pairs 204 = .ok (.iload 7, 2) := by decide +kernel
theorem dL_pairs_206 : decode cL_pairs 206 = .ok (.iload 5, 2) := by decide +kernel
theorem dL_pairs_208 : decode cL_pairs 208 = .ok (.invokevirtual 186, 3) := by decide +kernel
theorem dL_pairs_211 : decode cL_pairs 211 = .ok (.ifCond .eq 7, 3) := by decide +kernel
theorem dL_pairs_214 : decode cL_pairs 214 = .ok (.iconst 1, 1) := by decide +kernel
theorem dL_pairs_215 : decode cL_pairs 215 = .ok (.goto 4, 3) := by decide +kernel
theorem dL_pairs_218 : decode cL_pairs 218 = .ok (.iconst 0, 1) := by decide +kernel
theorem dL_pairs_219 : decode cL_pairs 219 = .ok (.if_icmp .ne 79, 3) := by decide +kernel
theorem dL_pairs_222 : decode cL_pairs 222 = .ok (.aload_n 0, 1) := by decide +kernel
theorem dL_pairs_223 : decode cL_pairs 223 = .ok (.iload 5, 2) := by decide +kernel
theorem dL_pairs_225 : decode cL_pairs 225 = .ok (.iload 7, 2) := by decide +kernel
theorem dL_pairs_227 : decode cL_pairs 227 = .ok (.invokevirtual 204, 3) := by decide +kernel
theorem dL_pairs_230 : decode cL_pairs 230 = .ok (.iload 9, 2) := by decide +kernel
theorem dL_pairs_232 : decode cL_pairs 232 = .ok (.ifCond .ne 18, 3) := by decide +kernel
theorem dL_pairs_235 : decode cL_pairs 235 = .ok (.aload_n 0, 1) := by decide +kernel
theorem dL_pairs_236 : decode cL_pairs 236 = .ok (.iload 7, 2) := by decide +kernel
theorem dL_pairs_238 : decode cL_pairs 238 = .ok (.iload 5, 2) := by decide +kernel
theorem dL_pairs_240 : decode cL_pairs 240 = .ok (.invokevirtual 186, 3) := by decide +kernel
theorem dL_pairs_243 : decode cL_pairs 243 = .ok (.ifCond .ne 7, 3) := by decide +kernel
theorem dL_pairs_246 : decode cL_pairs 246 = .ok (.iconst 1, 1) := by decide +kernel
theorem dL_pairs_247 : decode cL_pairs 247 = .ok (.goto 4, 3) := by decide +kernel
theorem dL_pairs_250 : decode cL_pairs 250 = .ok (.iconst 0, 1) := by decide +kernel
theorem dL_pairs_251 : decode cL_pairs 251 = .ok (.if_icmp .ne 47, 3) := by decide +kernel
theorem dL_pairs_254 : decode cL_pairs 254 = .ok (.aload_n 0, 1) := by decide +kernel
theorem dL_pairs_255 : decode cL_pairs 255 = .ok (.iload 7, 2) := by decide +kernel
theorem dL_pairs_257 : decode cL_pairs 257 = .ok (.iload 5, 2) := by decide +kernel
theorem dL_pairs_259 : decode cL_pairs 259 = .ok (.invokevirtual 192, 3) := by decide +kernel
theorem dL_pairs_262 : decode cL_pairs 262 = .ok (.iload 8, 2) := by decide +kernel
theorem dL_pairs_264 : decode cL_pairs 264 = .ok (.ifCond .le 7, 3) := by decide +kernel
theorem dL_pairs_267 : decode cL_pairs 267 = .ok (.iconst 1, 1) := by decide +kernel
theorem dL_pairs_268 : decode cL_pairs 268 = .ok (.goto 4, 3) := by decide +kernel
theorem dL_pairs_271 : decode cL_pairs 271 = .ok (.iconst 0, 1) := by decide +kernel
theorem dL_pairs_272 : decode cL_pairs 272 = .ok (.if_icmp .lt 26, 3) := by decide +kernel
theorem dL_pairs_275 : decode cL_pairs 275 = .ok (.aload_n 0, 1) := by decide +kernel
theorem dL_pairs_276 : decode cL_pairs 276 = .ok (.iload 5, 2) := by decide +kernel
theorem dL_pairs_278 : decode cL_pairs 278 = .ok (.iload 7, 2) := by decide +kernel
theorem dL_pairs_280 : decode cL_pairs 280 = .ok (.invokevirtual 201, 3) := by decide +kernel
theorem dL_pairs_283 : decode cL_pairs 283 = .ok (.aload_n 0, 1) := by decide +kernel
theorem dL_pairs_284 : decode cL_pairs 284 = .ok (.iload 7, 2) := by decide +kernel
theorem dL_pairs_286 : decode cL_pairs 286 = .ok (.iload 5, 2) := by decide +kernel
theorem dL_pairs_288 : decode cL_pairs 288 = .ok (.invokevirtual 201, 3) := by decide +kernel
theorem dL_pairs_291 : decode cL_pairs 291 = .ok (.if_icmp .ne 7, 3) := by decide +kernel
theorem dL_pairs_294 : decode cL_pairs 294 = .ok (.iconst 1, 1) := by decide +kernel
theorem dL_pairs_295 : decode cL_pairs 295 = .ok (.goto 4, 3) := by decide +kernel
theorem dL_pairs_298 : decode cL_pairs 298 = .ok (.iconst 0, 1) := by decide +kernel
theorem dL_pairs_299 : decode cL_pairs 299 = .ok (.istore 4, 2) := by decide +kernel
theorem dL_pairs_301 : decode cL_pairs 301 = .ok (.iinc 7 1, 3) := by decide +kernel
theorem dL_pairs_304 : decode cL_pairs 304 = .ok (.goto (-252), 3) := by decide +kernel
theorem dL_pairs_307 : decode cL_pairs 307 = .ok (.iload_n 2, 1) := by decide +kernel
theorem dL_pairs_308 : decode cL_pairs 308 = .ok (.iload 6, 2) := by decide +kernel
theorem dL_pairs_310 : decode cL_pairs 310 = .ok (.ifCond .eq 7, 3) := by decide +kernel
theorem dL_pairs_313 : decode cL_pairs 313 = .ok (.iconst 1, 1) := by decide +kernel
theorem dL_pairs_314 : decode cL_pairs 314 = .ok (.goto 4, 3) := by decide +kernel
theorem dL_pairs_317 : decode cL_pairs 317 = .ok (.iconst 0, 1) := by decide +kernel
theorem dL_pairs_318 : decode cL_pairs 318 = .ok (.iadd, 1) := by decide +kernel
theorem dL_pairs_319 : decode cL_pairs 319 = .ok (.istore_n 2, 1) := by decide +kernel
theorem dL_pairs_320 : decode cL_pairs 320 = .ok (.iinc 5 1, 3) := by decide +kernel
theorem dL_pairs_323 : decode cL_pairs 323 = .ok (.goto (-297), 3) := by decide +kernel
theorem dL_pairs_326 : decode cL_pairs 326 = .ok (.iload 4, 2) := by decide +kernel
theorem dL_pairs_328 : decode cL_pairs 328 = .ok (.ifCond .eq 49, 3) := by decide +kernel
theorem dL_pairs_331 : decode cL_pairs 331 = .ok (.aload_n 0, 1) := by decide +kernel
theorem dL_pairs_332 : decode cL_pairs 332 = .ok (.invokevirtual 207, 3) := by decide +kernel
theorem dL_pairs_335 : decode cL_pairs 335 = .ok (.iload_n 2, 1) := by decide +kernel
theorem dL_pairs_336 : decode cL_pairs 336 = .ok (.i2f, 1) := by decide +kernel
theorem dL_pairs_337 : decode cL_pairs 337 = .ok (.iload_n 1, 1) := by decide +kernel
theorem dL_pairs_338 : decode cL_pairs 338 = .ok (.i2f, 1) := by decide +kernel
theorem dL_pairs_339 : decode cL_pairs 339 = .ok (.fdiv, 1) := by decide +kernel
theorem dL_pairs_340 : decode cL_pairs 340 = .ok (.fcmp .l, 1) := by decide +kernel
theorem dL_pairs_341 : decode cL_pairs 341 = .ok (.ifCond .ne 36, 3) := by decide +kernel
theorem dL_pairs_344 : decode cL_pairs 344 = .ok (.aload_n 0, 1) := by decide +kernel
theorem dL_pairs_345 : decode cL_pairs 345 = .ok (.invokevirtual 211, 3) := by decide +kernel
theorem dL_pairs_348 : decode cL_pairs 348 = .ok (.iload_n 3, 1) := by decide +kernel
theorem dL_pairs_349 : decode cL_pairs 349 = .ok (.i2d, 1) := by decide +kernel
theorem dL_pairs_350 : decode cL_pairs 350 = .ok (.iload_n 1, 1) := by decide +kernel
theorem dL_pairs_351 : decode cL_pairs 351 = .ok (.i2d, 1) := by decide +kernel
theorem dL_pairs_352 : decode cL_pairs 352 = .ok (.ddiv, 1) := by decide +kernel
theorem dL_pairs_353 : decode cL_pairs 353 = .ok (.dcmp .l, 1) := by decide +kernel
theorem dL_pairs_354 : decode cL_pairs 354 = .ok (.ifCond .ne 23, 3) := by decide +kernel
theorem dL_pairs_357 : decode cL_pairs 357 = .ok (.aload_n 0, 1) := by decide +kernel
theorem dL_pairs_358 : decode cL_pairs 358 = .ok (.invokevirtual 215, 3) := by decide +kernel
theorem dL_pairs_361 : decode cL_pairs 361 = .ok (.iconst 1, 1) := by decide +kernel
theorem dL_pairs_362 : decode cL_pairs 362 = .ok (.if_icmp .lt 15, 3) := by decide +kernel
theorem dL_pairs_365 : decode cL_pairs 365 = .ok (.aload_n 0, 1) := by decide +kernel
theorem dL_pairs_366 : decode cL_pairs 366 = .ok (.invokevirtual 215, 3) := by decide +kernel
theorem dL_pairs_369 : decode cL_pairs 369 = .ok (.iload_n 1, 1) := by decide +kernel
theorem dL_pairs_370 : decode cL_pairs 370 = .ok (.if_icmp .gt 7, 3) := by decide +kernel
theorem dL_pairs_373 : decode cL_pairs 373 = .ok (.iconst 1, 1) := by decide +kernel
theorem dL_pairs_374 : decode cL_pairs 374 = .ok (.goto 4, 3) := by decide +kernel
theorem dL_pairs_377 : decode cL_pairs 377 = .ok (.iconst 0, 1) := by decide +kernel
theorem dL_pairs_378 : decode cL_pairs 378 = .ok (.ireturn, 1) := by decide +kernel
theorem dL_merging_0 : decode cL_merging 0 = .ok (.aload_n 0, 1) := by decide +kernel
theorem dL_merging_1 : decode cL_merging 1 = .ok (.iload_n 1, 1) := by decide +kernel
theorem dL_merging_2 : decode cL_merging 2 = .ok (.iload_n 2, 1) := by decide +kernel
theorem dL_merging_3 : decode cL_merging 3 = .ok (.invokevirtual 195, 3) := by decide +kernel
theorem dL_merging_6 : decode cL_merging 6 = .ok (.istore_n 3, 1) := by decide +kernel
theorem dL_merging_7 : decode cL_merging 7 = .ok (.aload_n 0, 1) := by decide +kernel
theorem dL_merging_8 : decode cL_merging 8 = .ok (.iload_n 1, 1) := by decide +kernel
theorem dL_merging_9 : decode cL_merging 9 = .ok (.iload_n 2, 1) := by decide +kernel
theorem dL_merging_10 : decode cL_merging 10 = .ok (.invokevirtual 198, 3) := by decide +kernel
theorem dL_merging_13 : decode cL_merging 13 = .ok (.istore 4, 2) := by decide +kernel
theorem dL_merging_15 : decode cL_merging 15 = .ok (.aload_n 0, 1) := by decide +kernel
theorem dL_merging_16 : decode cL_merging 16 = .ok (.iload_n 1, 1) := by decide +kernel
theorem dL_merging_17 : decode cL_merging 17 = .ok (.invokevirtual 177, 3) := by decide +kernel
theorem dL_merging_20 : decode cL_merging 20 = .ok (.istore 5, 2) := by decide +kernel
theorem dL_merging_22 : decode cL_merging 22 = .ok (.aload_n 0, 1) := by decide +kernel
theorem dL_merging_23 : decode cL_merging 23 = .ok (.iload_n 1, 1) := by decide +kernel
theorem dL_merging_24 : decode cL_merging 24 = .ok (.iload_n 2, 1) := by decide +kernel
theorem dL_merging_25 : decode cL_merging 25 = .ok (.invokevirtual 186, 3) := by decide +kernel
theorem dL_merging_28 : decode cL_merging 28 = .ok (.istore 6, 2) := by decide +kernel
theorem dL_merging_30 : decode cL_merging 30 = .ok (.aload_n 0, 1) := by decide +kernel
theorem dL_merging_31 : decode cL_merging 31 = .ok (.invokevirtual 128, 3) := by decide +kernel

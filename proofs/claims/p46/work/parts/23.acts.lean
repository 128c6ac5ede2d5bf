/-- the room is the one that the Statement has (its numbers aren't the same at each TURN): what the walk needs is far less -/
theorem lb_rc {a : Nat} (h : a ≤ 500000) : a ≤ room_1.cells := Nat.le_trans h (Nat.le_of_ble_eq_true rfl)
theorem lb_rs {a : Nat} (h : a ≤ 5000000) : a ≤ room_1.slots := Nat.le_trans h (Nat.le_of_ble_eq_true rfl)
theorem d_law_233 : decode code 233 = .ok (.aload 8, 2) := by decide +kernel
theorem d_law_235 : decode code 235 = .ok (.iload 13, 2) := by decide +kernel
theorem wm_785 : Cond.code ⟨"ThresholdRowLaw", "placeIn", "([II)I"⟩ method_18_code 4 (some .int) ∈ gT := gT_m (List.mem_of_getElem? (i := 785) (by decide +kernel)) (by decide +kernel)
theorem wm_783 : Cond.methodLink "ThresholdRowLaw" 94 ⟨"ThresholdRowLaw", "placeIn", "([II)I"⟩ ∈ gT := gT_m (List.mem_of_getElem? (i := 783) (by decide +kernel)) (by decide +kernel)
theorem d_law_237 : decode code 237 = .ok (.invokestatic 94, 3) := by decide +kernel
theorem wm_784 : Cond.static ⟨"ThresholdRowLaw", "placeIn", "([II)I"⟩ ∈ gT := gT_m (List.mem_of_getElem? (i := 784) (by decide +kernel)) (by decide +kernel)
theorem d_law_240 : decode code 240 = .ok (.ifCond .ge 15, 3) := by decide +kernel
theorem d_law_255 : decode code 255 = .ok (.iconst 0, 1) := by decide +kernel
theorem d_law_256 : decode code 256 = .ok (.istore 15, 2) := by decide +kernel
theorem d_law_258 : decode code 258 = .ok (.iload 9, 2) := by decide +kernel
theorem d_law_260 : decode code 260 = .ok (.aload_n 1, 1) := by decide +kernel
theorem d_law_261 : decode code 261 = .ok (.iload 13, 2) := by decide +kernel
theorem wm_506 : Cond.codeWith ⟨"ThresholdRowLaw", "stand", "(LThresholdRow;I)I"⟩ method_4_code 3 (some .int) [(0, 5, 6, 25), (0, 5, 10, 27), (0, 5, 14, 18)] ∈ gT := gT_m (List.mem_of_getElem? (i := 506) (by decide +kernel)) (by decide +kernel)
theorem wm_504 : Cond.methodLink "ThresholdRowLaw" 87 ⟨"ThresholdRowLaw", "stand", "(LThresholdRow;I)I"⟩ ∈ gT := gT_m (List.mem_of_getElem? (i := 504) (by decide +kernel)) (by decide +kernel)
theorem wm_505 : Cond.static ⟨"ThresholdRowLaw", "stand", "(LThresholdRow;I)I"⟩ ∈ gT := gT_m (List.mem_of_getElem? (i := 505) (by decide +kernel)) (by decide +kernel)
theorem wq_504 : Cond.methodLink "ThresholdRowLaw" 87 ⟨"ThresholdRowLaw", "stand", "(LThresholdRow;I)I"⟩ ∈ lw_tbl := List.mem_of_getElem? (i := 504) (by decide +kernel)
theorem wq_505 : Cond.static ⟨"ThresholdRowLaw", "stand", "(LThresholdRow;I)I"⟩ ∈ lw_tbl := List.mem_of_getElem? (i := 505) (by decide +kernel)
theorem wq_22 : Cond.initialized "ThresholdRowLaw" ∈ lw_tbl := List.mem_of_getElem? (i := 22) (by decide +kernel)
theorem d_law_263 : decode code 263 = .ok (.invokestatic 87, 3) := by decide +kernel
theorem d_law_266 : decode code 266 = .ok (.iload 15, 2) := by decide +kernel
theorem d_law_268 : decode code 268 = .ok (.ifCond .ne 8, 3) := by decide +kernel
theorem d_law_271 : decode code 271 = .ok (.ldc 20, 2) := by decide +kernel
theorem d_law_273 : decode code 273 = .ok (.goto 22, 3) := by decide +kernel
theorem d_law_295 : decode code 295 = .ok (.if_icmp .ne 7, 3) := by decide +kernel
theorem d_law_298 : decode code 298 = .ok (.iconst 1, 1) := by decide +kernel
theorem d_law_299 : decode code 299 = .ok (.goto 4, 3) := by decide +kernel
theorem d_law_303 : decode code 303 = .ok (.iand, 1) := by decide +kernel
theorem d_law_304 : decode code 304 = .ok (.istore 9, 2) := by decide +kernel
theorem d_law_306 : decode code 306 = .ok (.iload 15, 2) := by decide +kernel
theorem d_law_308 : decode code 308 = .ok (.ifCond .eq 34, 3) := by decide +kernel
theorem d_law_342 : decode code 342 = .ok (.goto 310, 3) := by decide +kernel
theorem d_law_243 : decode code 243 = .ok (.aload 6, 2) := by decide +kernel
theorem d_law_245 : decode code 245 = .ok (.iload 13, 2) := by decide +kernel
theorem d_law_247 : decode code 247 = .ok (.iaload, 1) := by decide +kernel
theorem d_law_248 : decode code 248 = .ok (.ifCond .ne 7, 3) := by decide +kernel
theorem d_law_251 : decode code 251 = .ok (.iconst 1, 1) := by decide +kernel
theorem d_law_252 : decode code 252 = .ok (.goto 4, 3) := by decide +kernel
theorem d_law_276 : decode code 276 = .ok (.aload 8, 2) := by decide +kernel
theorem d_law_278 : decode code 278 = .ok (.iconst 0, 1) := by decide +kernel
theorem d_law_279 : decode code 279 = .ok (.iaload, 1) := by decide +kernel
theorem d_law_280 : decode code 280 = .ok (.iconst 5, 1) := by decide +kernel
theorem d_law_281 : decode code 281 = .ok (.if_icmp .ne 8, 3) := by decide +kernel
theorem d_law_289 : decode code 289 = .ok (.aload 8, 2) := by decide +kernel
theorem d_law_291 : decode code 291 = .ok (.iconst 0, 1) := by decide +kernel
theorem d_law_292 : decode code 292 = .ok (.iaload, 1) := by decide +kernel
theorem d_law_293 : decode code 293 = .ok (.iconst 1, 1) := by decide +kernel
theorem d_law_294 : decode code 294 = .ok (.iadd, 1) := by decide +kernel
theorem d_law_311 : decode code 311 = .ok (.aload 8, 2) := by decide +kernel
theorem d_law_313 : decode code 313 = .ok (.iconst 0, 1) := by decide +kernel
theorem d_law_314 : decode code 314 = .ok (.iaload, 1) := by decide +kernel
theorem d_law_315 : decode code 315 = .ok (.iconst 5, 1) := by decide +kernel
theorem d_law_316 : decode code 316 = .ok (.if_icmp .ge 26, 3) := by decide +kernel
theorem d_law_319 : decode code 319 = .ok (.aload 8, 2) := by decide +kernel
theorem d_law_321 : decode code 321 = .ok (.iconst 0, 1) := by decide +kernel
theorem d_law_322 : decode code 322 = .ok (.dup2, 1) := by decide +kernel
theorem d_law_323 : decode code 323 = .ok (.iaload, 1) := by decide +kernel
theorem d_law_324 : decode code 324 = .ok (.iconst 1, 1) := by decide +kernel
theorem d_law_325 : decode code 325 = .ok (.iadd, 1) := by decide +kernel
theorem d_law_326 : decode code 326 = .ok (.iastore, 1) := by decide +kernel
theorem d_law_327 : decode code 327 = .ok (.aload 8, 2) := by decide +kernel
theorem d_law_329 : decode code 329 = .ok (.aload 8, 2) := by decide +kernel
theorem d_law_331 : decode code 331 = .ok (.iconst 0, 1) := by decide +kernel
theorem d_law_332 : decode code 332 = .ok (.iaload, 1) := by decide +kernel
theorem d_law_333 : decode code 333 = .ok (.iload 13, 2) := by decide +kernel
theorem d_law_335 : decode code 335 = .ok (.iastore, 1) := by decide +kernel
theorem d_law_336 : decode code 336 = .ok (.aload 4, 2) := by decide +kernel
theorem d_law_338 : decode code 338 = .ok (.iload 13, 2) := by decide +kernel
theorem d_law_340 : decode code 340 = .ok (.iconst 0, 1) := by decide +kernel
theorem d_law_341 : decode code 341 = .ok (.iastore, 1) := by decide +kernel
theorem d_law_284 : decode code 284 = .ok (.ldc 29, 2) := by decide +kernel
theorem d_law_286 : decode code 286 = .ok (.goto 9, 3) := by decide +kernel
theorem d_law_351 : decode code 351 = .ok (.aload 8, 2) := by decide +kernel
theorem d_law_353 : decode code 353 = .ok (.iload 13, 2) := by decide +kernel
theorem d_law_355 : decode code 355 = .ok (.invokestatic 94, 3) := by decide +kernel
theorem d_law_358 : decode code 358 = .ok (.ifCond .lt 7, 3) := by decide +kernel
theorem d_law_361 : decode code 361 = .ok (.iconst 1, 1) := by decide +kernel
theorem d_law_362 : decode code 362 = .ok (.goto 4, 3) := by decide +kernel
theorem d_law_366 : decode code 366 = .ok (.istore 15, 2) := by decide +kernel
theorem d_law_368 : decode code 368 = .ok (.aload 8, 2) := by decide +kernel
theorem d_law_370 : decode code 370 = .ok (.iload 13, 2) := by decide +kernel
theorem d_law_372 : decode code 372 = .ok (.invokestatic 75, 3) := by decide +kernel
theorem d_law_375 : decode code 375 = .ok (.iload 9, 2) := by decide +kernel
theorem d_law_377 : decode code 377 = .ok (.aload_n 1, 1) := by decide +kernel
theorem d_law_378 : decode code 378 = .ok (.iload 13, 2) := by decide +kernel
theorem wm_586 : Cond.codeWith ⟨"ThresholdRowLaw", "leave", "(LThresholdRow;I)I"⟩ method_5_code 3 (some .int) [(0, 5, 6, 25), (0, 5, 10, 27)] ∈ gT := gT_m (List.mem_of_getElem? (i := 586) (by decide +kernel)) (by decide +kernel)
theorem wm_584 : Cond.methodLink "ThresholdRowLaw" 97 ⟨"ThresholdRowLaw", "leave", "(LThresholdRow;I)I"⟩ ∈ gT := gT_m (List.mem_of_getElem? (i := 584) (by decide +kernel)) (by decide +kernel)
theorem wm_585 : Cond.static ⟨"ThresholdRowLaw", "leave", "(LThresholdRow;I)I"⟩ ∈ gT := gT_m (List.mem_of_getElem? (i := 585) (by decide +kernel)) (by decide +kernel)
theorem wq_584 : Cond.methodLink "ThresholdRowLaw" 97 ⟨"ThresholdRowLaw", "leave", "(LThresholdRow;I)I"⟩ ∈ lw_tbl := List.mem_of_getElem? (i := 584) (by decide +kernel)
theorem wq_585 : Cond.static ⟨"ThresholdRowLaw", "leave", "(LThresholdRow;I)I"⟩ ∈ lw_tbl := List.mem_of_getElem? (i := 585) (by decide +kernel)
theorem d_law_380 : decode code 380 = .ok (.invokestatic 97, 3) := by decide +kernel
theorem d_law_383 : decode code 383 = .ok (.iload 15, 2) := by decide +kernel
theorem d_law_385 : decode code 385 = .ok (.ifCond .eq 10, 3) := by decide +kernel
theorem d_law_388 : decode code 388 = .ok (.aload 8, 2) := by decide +kernel
theorem d_law_390 : decode code 390 = .ok (.iconst 0, 1) := by decide +kernel
theorem d_law_391 : decode code 391 = .ok (.iaload, 1) := by decide +kernel
theorem d_law_392 : decode code 392 = .ok (.goto 5, 3) := by decide +kernel
theorem d_law_397 : decode code 397 = .ok (.if_icmp .ne 7, 3) := by decide +kernel
theorem d_law_400 : decode code 400 = .ok (.iconst 1, 1) := by decide +kernel
theorem d_law_401 : decode code 401 = .ok (.goto 4, 3) := by decide +kernel
theorem d_law_405 : decode code 405 = .ok (.iand, 1) := by decide +kernel
theorem d_law_406 : decode code 406 = .ok (.istore 9, 2) := by decide +kernel
theorem d_law_408 : decode code 408 = .ok (.goto 244, 3) := by decide +kernel
theorem d_law_365 : decode code 365 = .ok (.iconst 0, 1) := by decide +kernel
theorem d_law_395 : decode code 395 = .ok (.ldc 20, 2) := by decide +kernel
theorem d_law_530 : decode code 530 = .ok (.iconst 1, 1) := by decide +kernel
theorem d_law_531 : decode code 531 = .ok (.iload 14, 2) := by decide +kernel
theorem d_law_533 : decode code 533 = .ok (.iconst 4, 1) := by decide +kernel
theorem d_law_534 : decode code 534 = .ok (.irem, 1) := by decide +kernel
theorem d_law_535 : decode code 535 = .ok (.iadd, 1) := by decide +kernel
theorem d_law_536 : decode code 536 = .ok (.istore 15, 2) := by decide +kernel
theorem d_law_538 : decode code 538 = .ok (.iload 10, 2) := by decide +kernel
theorem d_law_540 : decode code 540 = .ok (.iload 15, 2) := by decide +kernel
theorem d_law_542 : decode code 542 = .ok (.iadd, 1) := by decide +kernel
theorem d_law_543 : decode code 543 = .ok (.istore 10, 2) := by decide +kernel
theorem d_law_545 : decode code 545 = .ok (.iload 9, 2) := by decide +kernel
theorem d_law_547 : decode code 547 = .ok (.aload_n 1, 1) := by decide +kernel
theorem d_law_548 : decode code 548 = .ok (.iload 15, 2) := by decide +kernel
theorem wm_723 : Cond.codeWith ⟨"ThresholdRowLaw", "pass", "(LThresholdRow;I)I"⟩ method_13_code 3 (some .int) [(0, 5, 6, 15), (0, 5, 10, 18)] ∈ gT := gT_m (List.mem_of_getElem? (i := 723) (by decide +kernel)) (by decide +kernel)
theorem wm_721 : Cond.methodLink "ThresholdRowLaw" 103 ⟨"ThresholdRowLaw", "pass", "(LThresholdRow;I)I"⟩ ∈ gT := gT_m (List.mem_of_getElem? (i := 721) (by decide +kernel)) (by decide +kernel)
theorem wm_722 : Cond.static ⟨"ThresholdRowLaw", "pass", "(LThresholdRow;I)I"⟩ ∈ gT := gT_m (List.mem_of_getElem? (i := 722) (by decide +kernel)) (by decide +kernel)
theorem wq_721 : Cond.methodLink "ThresholdRowLaw" 103 ⟨"ThresholdRowLaw", "pass", "(LThresholdRow;I)I"⟩ ∈ lw_tbl := List.mem_of_getElem? (i := 721) (by decide +kernel)
theorem wq_722 : Cond.static ⟨"ThresholdRowLaw", "pass", "(LThresholdRow;I)I"⟩ ∈ lw_tbl := List.mem_of_getElem? (i := 722) (by decide +kernel)
theorem d_law_550 : decode code 550 = .ok (.invokestatic 103, 3) := by decide +kernel
theorem d_law_553 : decode code 553 = .ok (.iload 10, 2) := by decide +kernel
theorem d_law_555 : decode code 555 = .ok (.if_icmp .ne 18, 3) := by decide +kernel
theorem d_law_558 : decode code 558 = .ok (.aload_n 1, 1) := by decide +kernel
theorem d_law_559 : decode code 559 = .ok (.bipush 100, 2) := by decide +kernel
theorem d_law_561 : decode code 561 = .ok (.invokestatic 103, 3) := by decide +kernel
theorem d_law_564 : decode code 564 = .ok (.ldc 17, 2) := by decide +kernel
theorem d_law_566 : decode code 566 = .ok (.if_icmp .ne 7, 3) := by decide +kernel
theorem d_law_569 : decode code 569 = .ok (.iconst 1, 1) := by decide +kernel
theorem d_law_570 : decode code 570 = .ok (.goto 4, 3) := by decide +kernel
theorem d_law_574 : decode code 574 = .ok (.iand, 1) := by decide +kernel
theorem d_law_575 : decode code 575 = .ok (.istore 9, 2) := by decide +kernel
theorem d_law_577 : decode code 577 = .ok (.iconst 0, 1) := by decide +kernel
theorem d_law_578 : decode code 578 = .ok (.istore 16, 2) := by decide +kernel
theorem d_law_580 : decode code 580 = .ok (.iload 16, 2) := by decide +kernel
theorem d_law_582 : decode code 582 = .ok (.iload_n 2, 1) := by decide +kernel
theorem d_law_583 : decode code 583 = .ok (.if_icmp .ge 69, 3) := by decide +kernel
theorem d_law_586 : decode code 586 = .ok (.aload 5, 2) := by decide +kernel
theorem d_law_588 : decode code 588 = .ok (.iload 16, 2) := by decide +kernel
theorem d_law_590 : decode code 590 = .ok (.aload 5, 2) := by decide +kernel
theorem d_law_592 : decode code 592 = .ok (.iload 16, 2) := by decide +kernel
theorem d_law_594 : decode code 594 = .ok (.iaload, 1) := by decide +kernel
theorem d_law_595 : decode code 595 = .ok (.bipush 30, 2) := by decide +kernel
theorem d_law_597 : decode code 597 = .ok (.iload 15, 2) := by decide +kernel
theorem d_law_599 : decode code 599 = .ok (.imul, 1) := by decide +kernel
theorem d_law_618 : decode code 618 = .ok (.iastore, 1) := by decide +kernel
theorem d_law_619 : decode code 619 = .ok (.aload 6, 2) := by decide +kernel
theorem d_law_621 : decode code 621 = .ok (.iload 16, 2) := by decide +kernel
theorem d_law_623 : decode code 623 = .ok (.aload 6, 2) := by decide +kernel
theorem d_law_625 : decode code 625 = .ok (.iload 16, 2) := by decide +kernel
theorem d_law_627 : decode code 627 = .ok (.iaload, 1) := by decide +kernel
theorem d_law_628 : decode code 628 = .ok (.iload 15, 2) := by decide +kernel
theorem d_law_645 : decode code 645 = .ok (.iastore, 1) := by decide +kernel
theorem d_law_646 : decode code 646 = .ok (.iinc 16 1, 3) := by decide +kernel
theorem d_law_649 : decode code 649 = .ok (.goto (-69), 3) := by decide +kernel
theorem d_law_630 : decode code 630 = .ok (.if_icmp .le 14, 3) := by decide +kernel
theorem d_law_644 : decode code 644 = .ok (.iconst 0, 1) := by decide +kernel
theorem d_law_633 : decode code 633 = .ok (.aload 6, 2) := by decide +kernel
theorem d_law_635 : decode code 635 = .ok (.iload 16, 2) := by decide +kernel
theorem d_law_637 : decode code 637 = .ok (.iaload, 1) := by decide +kernel
theorem d_law_638 : decode code 638 = .ok (.iload 15, 2) := by decide +kernel
theorem d_law_640 : decode code 640 = .ok (.isub, 1) := by decide +kernel
theorem d_law_641 : decode code 641 = .ok (.goto 4, 3) := by decide +kernel
theorem d_law_600 : decode code 600 = .ok (.if_icmp .le 17, 3) := by decide +kernel
theorem d_law_617 : decode code 617 = .ok (.iconst 0, 1) := by decide +kernel
theorem d_law_603 : decode code 603 = .ok (.aload 5, 2) := by decide +kernel
theorem d_law_605 : decode code 605 = .ok (.iload 16, 2) := by decide +kernel
theorem d_law_607 : decode code 607 = .ok (.iaload, 1) := by decide +kernel
theorem d_law_608 : decode code 608 = .ok (.bipush 30, 2) := by decide +kernel
theorem d_law_610 : decode code 610 = .ok (.iload 15, 2) := by decide +kernel
theorem d_law_612 : decode code 612 = .ok (.imul, 1) := by decide +kernel
theorem d_law_613 : decode code 613 = .ok (.isub, 1) := by decide +kernel
theorem d_law_614 : decode code 614 = .ok (.goto 4, 3) := by decide +kernel
theorem d_law_418 : decode code 418 = .ok (.iconst 1, 1) := by decide +kernel
theorem d_law_419 : decode code 419 = .ok (.iload 14, 2) := by decide +kernel
theorem d_law_421 : decode code 421 = .ok (.bipush 24, 2) := by decide +kernel
theorem d_law_423 : decode code 423 = .ok (.irem, 1) := by decide +kernel
theorem d_law_424 : decode code 424 = .ok (.iadd, 1) := by decide +kernel
theorem d_law_425 : decode code 425 = .ok (.istore 15, 2) := by decide +kernel
theorem d_law_427 : decode code 427 = .ok (.iconst 0, 1) := by decide +kernel
theorem d_law_428 : decode code 428 = .ok (.istore 16, 2) := by decide +kernel
theorem d_law_496 : decode code 496 = .ok (.iload 9, 2) := by decide +kernel
theorem d_law_498 : decode code 498 = .ok (.aload_n 1, 1) := by decide +kernel
theorem d_law_499 : decode code 499 = .ok (.iload 15, 2) := by decide +kernel
theorem wm_674 : Cond.codeWith ⟨"ThresholdRowLaw", "practise", "(LThresholdRow;I)I"⟩ method_12_code 3 (some .int) [(0, 5, 6, 15), (0, 5, 10, 27)] ∈ gT := gT_m (List.mem_of_getElem? (i := 674) (by decide +kernel)) (by decide +kernel)
theorem wm_672 : Cond.methodLink "ThresholdRowLaw" 90 ⟨"ThresholdRowLaw", "practise", "(LThresholdRow;I)I"⟩ ∈ gT := gT_m (List.mem_of_getElem? (i := 672) (by decide +kernel)) (by decide +kernel)
theorem wm_673 : Cond.static ⟨"ThresholdRowLaw", "practise", "(LThresholdRow;I)I"⟩ ∈ gT := gT_m (List.mem_of_getElem? (i := 673) (by decide +kernel)) (by decide +kernel)
theorem wq_672 : Cond.methodLink "ThresholdRowLaw" 90 ⟨"ThresholdRowLaw", "practise", "(LThresholdRow;I)I"⟩ ∈ lw_tbl := List.mem_of_getElem? (i := 672) (by decide +kernel)
theorem wq_673 : Cond.static ⟨"ThresholdRowLaw", "practise", "(LThresholdRow;I)I"⟩ ∈ lw_tbl := List.mem_of_getElem? (i := 673) (by decide +kernel)
theorem d_law_501 : decode code 501 = .ok (.invokestatic 90, 3) := by decide +kernel
theorem d_law_504 : decode code 504 = .ok (.iload 17, 2) := by decide +kernel
theorem d_law_506 : decode code 506 = .ok (.ifCond .eq 8, 3) := by decide +kernel
theorem d_law_509 : decode code 509 = .ok (.iload 16, 2) := by decide +kernel
theorem d_law_511 : decode code 511 = .ok (.goto 5, 3) := by decide +kernel
theorem d_law_516 : decode code 516 = .ok (.if_icmp .ne 7, 3) := by decide +kernel
theorem d_law_519 : decode code 519 = .ok (.iconst 1, 1) := by decide +kernel
theorem d_law_520 : decode code 520 = .ok (.goto 4, 3) := by decide +kernel
theorem d_law_524 : decode code 524 = .ok (.iand, 1) := by decide +kernel
theorem d_law_525 : decode code 525 = .ok (.istore 9, 2) := by decide +kernel
theorem d_law_527 : decode code 527 = .ok (.goto 125, 3) := by decide +kernel
theorem d_law_514 : decode code 514 = .ok (.ldc 20, 2) := by decide +kernel
theorem d_law_445 : decode code 445 = .ok (.iconst 0, 1) := by decide +kernel
theorem d_law_446 : decode code 446 = .ok (.istore 18, 2) := by decide +kernel
theorem d_law_448 : decode code 448 = .ok (.iload 18, 2) := by decide +kernel
theorem d_law_450 : decode code 450 = .ok (.iload 15, 2) := by decide +kernel
theorem d_law_452 : decode code 452 = .ok (.if_icmp .ge 44, 3) := by decide +kernel
theorem d_law_455 : decode code 455 = .ok (.aload 8, 2) := by decide +kernel
theorem d_law_457 : decode code 457 = .ok (.iconst 0, 1) := by decide +kernel
theorem d_law_458 : decode code 458 = .ok (.iaload, 1) := by decide +kernel
theorem d_law_459 : decode code 459 = .ok (.iconst 1, 1) := by decide +kernel
theorem d_law_460 : decode code 460 = .ok (.if_icmp .le 36, 3) := by decide +kernel
theorem d_law_463 : decode code 463 = .ok (.iload 16, 2) := by decide +kernel
theorem d_law_465 : decode code 465 = .ok (.aload 8, 2) := by decide +kernel
theorem d_law_467 : decode code 467 = .ok (.aload_n 3, 1) := by decide +kernel
theorem d_law_468 : decode code 468 = .ok (.aload 4, 2) := by decide +kernel
theorem d_law_470 : decode code 470 = .ok (.aload 5, 2) := by decide +kernel
theorem d_law_472 : decode code 472 = .ok (.aload 6, 2) := by decide +kernel
theorem d_law_474 : decode code 474 = .ok (.aload 7, 2) := by decide +kernel
theorem wm_769 : Cond.code ⟨"ThresholdRowLaw", "goes", "([I[I[I[I[I[I)Z"⟩ method_16_code 15 (some .boolean) ∈ gT := gT_m (List.mem_of_getElem? (i := 769) (by decide +kernel)) (by decide +kernel)
theorem wm_767 : Cond.methodLink "ThresholdRowLaw" 99 ⟨"ThresholdRowLaw", "goes", "([I[I[I[I[I[I)Z"⟩ ∈ gT := gT_m (List.mem_of_getElem? (i := 767) (by decide +kernel)) (by decide +kernel)
theorem d_law_476 : decode code 476 = .ok (.invokestatic 99, 3) := by decide +kernel
theorem wm_768 : Cond.static ⟨"ThresholdRowLaw", "goes", "([I[I[I[I[I[I)Z"⟩ ∈ gT := gT_m (List.mem_of_getElem? (i := 768) (by decide +kernel)) (by decide +kernel)
theorem d_law_479 : decode code 479 = .ok (.ifCond .eq 7, 3) := by decide +kernel
theorem d_law_486 : decode code 486 = .ok (.iconst 0, 1) := by decide +kernel
theorem d_law_487 : decode code 487 = .ok (.iadd, 1) := by decide +kernel
theorem d_law_488 : decode code 488 = .ok (.istore 16, 2) := by decide +kernel
theorem d_law_490 : decode code 490 = .ok (.iinc 18 1, 3) := by decide +kernel
theorem d_law_493 : decode code 493 = .ok (.goto (-45), 3) := by decide +kernel
theorem d_law_482 : decode code 482 = .ok (.iconst 1, 1) := by decide +kernel
theorem d_law_483 : decode code 483 = .ok (.goto 4, 3) := by decide +kernel
theorem d_law_430 : decode code 430 = .ok (.aload 8, 2) := by decide +kernel
theorem d_law_432 : decode code 432 = .ok (.iconst 0, 1) := by decide +kernel
theorem d_law_433 : decode code 433 = .ok (.iaload, 1) := by decide +kernel
theorem d_law_434 : decode code 434 = .ok (.iconst 1, 1) := by decide +kernel
theorem d_law_435 : decode code 435 = .ok (.if_icmp .le 7, 3) := by decide +kernel
theorem d_law_442 : decode code 442 = .ok (.iconst 0, 1) := by decide +kernel
theorem d_law_443 : decode code 443 = .ok (.istore 17, 2) := by decide +kernel
theorem d_law_438 : decode code 438 = .ok (.iconst 1, 1) := by decide +kernel
theorem d_law_439 : decode code 439 = .ok (.goto 4, 3) := by decide +kernel
section GSW
variable {p : Program} {l : Launch} {e : Env} {R : Room} {s : State} {m : MethodId} {args : Array Value} {below : List Frame} {meth : Method} {c : Code} {H : Heap} {locs : List Loc} {cells slots : Nat}
variable {cc : ByteArray} {pc : Nat} {ls : Array Slot} {D : va_G} {E : Nat} {M : gM} {cI cO cZ : ClassId} {z0 : Nat}
theorem gw_runSW {y : MethodName} {bytes : ByteArray} {maxL nL mc ms n index : Nat} {ret : Option FieldType} {hh : List (Nat × Nat × Nat × Nat)} {ws : List Cond} {rm : Room} {Qc : Array Value → State → Outcome → State → Prop} {Ts : List Cond} {own : String} {As rest st0 : List Value}
    (S : CallFix p m c cc nL s args Ts own) (hM : Met l y ws rm (gw_Pc E D cI cO cZ z0 M As) Qc mc ms (gw_A E)) (cw : vx_CSW R s args own index y bytes maxL ret hh ws rm mc ms n) (hF : gw_F E D cI cO cZ z0 s) (hG : gw_H E D M s H locs)
    (hn : As.length = n) (hsize : ls.size = nL) (hstack : st0 = As.reverse ++ rest) (hW : (rest.map fun v => v.category).sum ≤ 8) (hdg : decode cc pc = .ok (.invokestatic index, 3)) (hf : cells + mc ≤ R.cells ∧ slots + ms ≤ R.slots) :
    va_Run p l e R s m args below meth c H locs cells slots mc ms (F0 m pc ls st0) rest (Qc As.toArray) (gw_A E) :=
  vx_runSW S hM cw ⟨gw_blind, gw_pre hF hG⟩ rfl hn hsize hstack (lv_room (rest := st0) hW) hdg hf
end GSW
/-- what the law's walk stands on -/
def lb_C (l : Launch) (p : Program) (s : State) (m : MethodId) (args : Array Value) (c : Code) (E : Nat) (D : va_G) (cI cO cZ : ClassId) (z0 sb sL : Nat) (xs : Nat → Int32) : Prop :=
  p.tables.exec = Jvm.exec ∧ c.code = code ∧ c.maxLocals = 19 ∧ (∀ w ∈ lw_tbl, w.before args s = true) ∧ s.vm.findClass "ThresholdRowLaw" = some m.cls ∧ l.stackTraces = false ∧ gw_F E D cI cO cZ z0 s ∧ va_X sb sL xs s s.heap ∧ sb < E ∧ sL < 2 ^ 31
theorem gw_a6.ints {cI : ClassId} {M M' : gM} {A : Nat → Nat} {n : Nat} {fb fe ff fu fl fg : Nat → Int32} (h : gw_a6 cI M A n fb fe ff fu fl fg) (hi : gw_ints M M') : gw_a6 cI M' A n fb fe ff fu fl fg :=
  ⟨(hi _ _ h.1 gw_isI.mk).trans h.1, (hi _ _ h.2.1 gw_isI.mk).trans h.2.1, (hi _ _ h.2.2.1 gw_isI.mk).trans h.2.2.1, (hi _ _ h.2.2.2.1 gw_isI.mk).trans h.2.2.2.1, (hi _ _ h.2.2.2.2.1 gw_isI.mk).trans h.2.2.2.2.1, (hi _ _ h.2.2.2.2.2 gw_isI.mk).trans h.2.2.2.2.2⟩
theorem lb_hurt {B : Nat} {v : gH} (h : p_ok B v) (hu : ¬ v.2.2.2.1 = 0) : ¬ v.2.2.2.1 ≤ 0 := by
  obtain ⟨-, -, ⟨a, ha, ea⟩, -⟩ := h
  rw [ea] at hu ⊢
  intro z
  by_cases c : a = 0
  · exact hu (by rw [c]; rfl)
  · exact absurd z (Int32.not_le.mpr ((nI_ltI (a := 0) (by decide) (by omega)).mpr (by omega)))
set_option maxHeartbeats 4000000 in
set_option maxRecDepth 100000 in
theorem lb_act_stand {p : Program} {l : Launch} {e : Env} {s : State} {m : MethodId} {args : Array Value} {below : List Frame} {meth : Method} {c : Code} {Q : State → Prop} {E : Nat} {D : va_G} {cI cO cZ : ClassId} {z0 sb sL : Nat} {xs : Nat → Int32} (C : lb_C l p s m args c E D cI cO cZ z0 sb sL xs) {M : gM} {H : Heap} {locs : List Loc} {ls : Array Slot} {k q : Nat} (hkk : k ≤ 400000) (hqq : q ≤ 4000000) {A : Nat → Nat} {o n day i B : Nat} {S : gS} {Z ad bn : Nat → Nat} (hn2 : 2 ≤ n) (hn7 : n ≤ 7) (hf : gw_fa z0 cO M o n (nI day) S Z ad bn) (har : gw_ar cI M A n S) (hiv : p_iv n B S) (hB : B ≤ 90000) (hday : day ≤ 1000) {h x : Nat} (hh : h < n) (kk : ∀ (M' : gM) (H : Heap) (locs : List Loc) (ls : Array Slot) (S' : gS) (Z' : Nat → Nat) (day' : Nat), day' ≤ day + 4 → gw_fa z0 cO M' o n (nI day') S' Z' ad bn → gw_ar cI M' A n S' → p_iv n (B + 200) S' → gw_H E D M' s H locs → lv_has ls 19 [(0, .ref sb), (1, .ref o), (2, .int (nI n)), (3, .ref (A 0)), (4, .ref (A 1)), (5, .ref (A 2)), (6, .ref (A 3)), (7, .ref (A 4)), (8, .ref (A 5)), (9, .int 1), (10, .int (nI day')), (11, .int (nI i))] → W p l e room_1 s m args below meth c H locs (k + 100) (q + 600) Q (F0 m 652 ls [])) (hG : gw_H E D M s H locs) (hl : lv_has ls 19 [(0, .ref sb), (1, .ref o), (2, .int (nI n)), (3, .ref (A 0)), (4, .ref (A 1)), (5, .ref (A 2)), (6, .ref (A 3)), (7, .ref (A 4)), (8, .ref (A 5)), (9, .int 1), (10, .int (nI day)), (11, .int (nI i)), (13, .int (nI h)), (14, .int (nI x))]) : W p l e room_1 s m args below meth c H locs k q Q (F0 m 233 ls []) := by
  obtain ⟨hx, hb, hml, hts, hown, hst, hF, hX, hsb, hsL⟩ := id C
  have hK := hF.1
  have hT := gT_hts hts
  obtain ⟨hA, fb, fe, ff, fu, fl, fg, h6, hrp⟩ := har
  obtain ⟨r0, r1, r2, r3, r4, r5, r6⟩ := id hrp
  obtain ⟨h5, hord, hoi, hok, hmu⟩ := id hiv
  obtain ⟨J, hJ1, hJ2, hJ3⟩ := lb_J S.2.1 h S.1
  have hoo : ∀ p, p < S.1 → S.2.1 p < 1000 := fun p hp => Nat.lt_of_lt_of_le (hord p hp) (by omega)
  refine lv_aload hx hb d_law_233 (lv_at hl 8 rfl) ?_
  refine lv_iload hx hb d_law_235 (lv_at hl 12 rfl) ?_
  refine gw_calli (gw_runS (As := [.ref (A 5), .int (nI h)]) (rest := []) ⟨hx, hb, hml, hown, hts⟩ (c_Law_placeIn l E D cI cO cZ z0 M h6.2.2.2.2.2 (by omega) r5 r6 hoo (i := h) (by omega) hoi hJ1 hJ2 hJ3) (gw_cwS 2 hts (gT_gi0 wm_785) rfl rfl rfl (hT _ wm_22) (hT _ wm_783) (hT _ wm_784) (by decide +kernel) ⟨Nat.le_of_ble_eq_true rfl, Nat.le_of_ble_eq_true rfl⟩) hF hG rfl hl.1 rfl (Nat.le_of_ble_eq_true rfl) d_law_237 ⟨(lb_rc (by omega)), (lb_rs (by omega))⟩) hG (fun r M1 H locs hp hG => ?_)
  rw [hp.1]
  replace hG := gw_nm hp.2.symm hG
  by_cases hJ : J < S.1
  · skip
    rw [if_pos hJ]
    refine lv_if_ge (tgt := 255) hx hb d_law_240 (by decide) (fun c_240 => ?_) (fun z_ => absurd (nI_pos' (by omega)) z_)
    refine lv_iconst (v := 0) hx hb d_law_255 (by decide) ?_
    refine lv_istore (lv' := [(15, .int 0), (0, .ref sb), (1, .ref o), (2, .int (nI n)), (3, .ref (A 0)), (4, .ref (A 1)), (5, .ref (A 2)), (6, .ref (A 3)), (7, .ref (A 4)), (8, .ref (A 5)), (9, .int 1), (10, .int (nI day)), (11, .int (nI i)), (13, .int (nI h)), (14, .int (nI x))]) hx hb d_law_256 hl (by decide) rfl (fun ls hl => ?_)
    refine lv_iload hx hb d_law_258 (lv_at hl 10 rfl) ?_
    refine lv_aload_n hx hb d_law_260 rfl (lv_at hl 2 rfl) ?_
    refine lv_iload hx hb d_law_261 (lv_at hl 13 rfl) ?_
    refine gw_calli (gw_runSW (As := [.ref o, .int (nI h)]) (rest := [.int 1]) ⟨hx, hb, hml, hown, hts⟩ (c_Law_stand_xu l E D cI cO cZ z0 M hst hf hh hJ1 hJ2 hJ3 (Or.inl hJ)) (gw_cwSW 2 hts (gT_gi0 wm_506) rfl rfl rfl (hT _ wm_22) (hT _ wm_504) (hT _ wm_505) ⟨rfl, rfl, rfl⟩ ⟨wq_504, wq_505, wq_22⟩ (by decide +kernel) ⟨Nat.le_of_ble_eq_true rfl, Nat.le_of_ble_eq_true rfl⟩) hF hG rfl hl.1 rfl (Nat.le_of_ble_eq_true rfl) d_law_263 ⟨(lb_rc (by omega)), (lb_rs (by omega))⟩) hG (fun r M2 H locs hp hG => ?_)
    rw [hp.1]
    replace hG := gw_nm hp.2.symm hG
    refine lv_iload hx hb d_law_266 (lv_at hl 0 rfl) ?_
    refine lv_if_ne (tgt := 276) hx hb d_law_268 (by decide) (fun z_ => absurd (rfl) z_) (fun c_268 => ?_)
    refine lv_ldc hx hb hown (hT _ wm_503) d_law_271 ?_
    refine lv_goto (tgt := 295) hx hb d_law_273 (by decide) ?_
    refine lv_icmp_ne (tgt := 302) hx hb d_law_295 (by decide) (fun z_ => absurd (rfl) z_) (fun c_295 => ?_)
    refine lv_iconst (v := 1) hx hb d_law_298 (by decide) ?_
    refine lv_goto (tgt := 303) hx hb d_law_299 (by decide) ?_
    refine lv_iand hx hb d_law_303 ?_
    rw [show (1 : Int32) &&& 1 = 1 from rfl]
    refine lv_istore (lv' := [(9, .int 1), (15, .int 0), (0, .ref sb), (1, .ref o), (2, .int (nI n)), (3, .ref (A 0)), (4, .ref (A 1)), (5, .ref (A 2)), (6, .ref (A 3)), (7, .ref (A 4)), (8, .ref (A 5)), (10, .int (nI day)), (11, .int (nI i)), (13, .int (nI h)), (14, .int (nI x))]) hx hb d_law_304 hl (by decide) rfl (fun ls hl => ?_)
    refine lv_iload hx hb d_law_306 (lv_at hl 1 rfl) ?_
    refine lv_if_eq (tgt := 342) hx hb d_law_308 (by decide) (fun c_308 => ?_) (fun z_ => absurd (rfl) z_)
    refine lv_goto (tgt := 652) hx hb d_law_342 (by decide) ?_
    refine W.widen (k := k + 100) (n := q + 600) (by omega) (by omega) ?_
    exact kk _ _ _ _ S Z day (by omega) (hf) (⟨hA, _, _, _, _, _, _, h6, hrp⟩) (hiv.mono (by omega)) hG (lv_sub hl [2, 3, 4, 5, 6, 7, 8, 9, 10, 0, 11, 12] rfl)
  · skip
    rw [if_neg hJ]
    refine lv_if_ge (tgt := 255) hx hb d_law_240 (by decide) (fun z_ => absurd z_ (by decide)) (fun c_240 => ?_)
    refine lv_aload hx hb d_law_243 (lv_at hl 6 rfl) ?_
    refine lv_iload hx hb d_law_245 (lv_at hl 12 rfl) ?_
    refine gw_iald hx hb hK hG (h6.2.2.2.1) (vp_in_nI (by omega) (by omega)) d_law_247 ?_
    rw [nI_clamp (n := h) (by omega), r3 h hh]
    refine lv_if_ne (tgt := 255) hx hb d_law_248 (by decide) (fun c_248 => ?_) (fun c_248 => ?_)
    · skip
      have hu := lb_hurt (hok h hh) c_248
      refine lv_iconst (v := 0) hx hb d_law_255 (by decide) ?_
      refine lv_istore (lv' := [(15, .int 0), (0, .ref sb), (1, .ref o), (2, .int (nI n)), (3, .ref (A 0)), (4, .ref (A 1)), (5, .ref (A 2)), (6, .ref (A 3)), (7, .ref (A 4)), (8, .ref (A 5)), (9, .int 1), (10, .int (nI day)), (11, .int (nI i)), (13, .int (nI h)), (14, .int (nI x))]) hx hb d_law_256 hl (by decide) rfl (fun ls hl => ?_)
      refine lv_iload hx hb d_law_258 (lv_at hl 10 rfl) ?_
      refine lv_aload_n hx hb d_law_260 rfl (lv_at hl 2 rfl) ?_
      refine lv_iload hx hb d_law_261 (lv_at hl 13 rfl) ?_
      refine gw_calli (gw_runSW (As := [.ref o, .int (nI h)]) (rest := [.int 1]) ⟨hx, hb, hml, hown, hts⟩ (c_Law_stand_xu l E D cI cO cZ z0 M hst hf hh hJ1 hJ2 hJ3 (Or.inr hu)) (gw_cwSW 2 hts (gT_gi0 wm_506) rfl rfl rfl (hT _ wm_22) (hT _ wm_504) (hT _ wm_505) ⟨rfl, rfl, rfl⟩ ⟨wq_504, wq_505, wq_22⟩ (by decide +kernel) ⟨Nat.le_of_ble_eq_true rfl, Nat.le_of_ble_eq_true rfl⟩) hF hG rfl hl.1 rfl (Nat.le_of_ble_eq_true rfl) d_law_263 ⟨(lb_rc (by omega)), (lb_rs (by omega))⟩) hG (fun r M2 H locs hp hG => ?_)
      rw [hp.1]
      replace hG := gw_nm hp.2.symm hG
      refine lv_iload hx hb d_law_266 (lv_at hl 0 rfl) ?_
      refine lv_if_ne (tgt := 276) hx hb d_law_268 (by decide) (fun z_ => absurd (rfl) z_) (fun c_268 => ?_)
      refine lv_ldc hx hb hown (hT _ wm_503) d_law_271 ?_
      refine lv_goto (tgt := 295) hx hb d_law_273 (by decide) ?_
      refine lv_icmp_ne (tgt := 302) hx hb d_law_295 (by decide) (fun z_ => absurd (rfl) z_) (fun c_295 => ?_)
      refine lv_iconst (v := 1) hx hb d_law_298 (by decide) ?_
      refine lv_goto (tgt := 303) hx hb d_law_299 (by decide) ?_
      refine lv_iand hx hb d_law_303 ?_
      rw [show (1 : Int32) &&& 1 = 1 from rfl]
      refine lv_istore (lv' := [(9, .int 1), (15, .int 0), (0, .ref sb), (1, .ref o), (2, .int (nI n)), (3, .ref (A 0)), (4, .ref (A 1)), (5, .ref (A 2)), (6, .ref (A 3)), (7, .ref (A 4)), (8, .ref (A 5)), (10, .int (nI day)), (11, .int (nI i)), (13, .int (nI h)), (14, .int (nI x))]) hx hb d_law_304 hl (by decide) rfl (fun ls hl => ?_)
      refine lv_iload hx hb d_law_306 (lv_at hl 1 rfl) ?_
      refine lv_if_eq (tgt := 342) hx hb d_law_308 (by decide) (fun c_308 => ?_) (fun z_ => absurd (rfl) z_)
      refine lv_goto (tgt := 652) hx hb d_law_342 (by decide) ?_
      refine W.widen (k := k + 100) (n := q + 600) (by omega) (by omega) ?_
      exact kk _ _ _ _ S Z day (by omega) (hf) (⟨hA, _, _, _, _, _, _, h6, hrp⟩) (hiv.mono (by omega)) hG (lv_sub hl [2, 3, 4, 5, 6, 7, 8, 9, 10, 0, 11, 12] rfl)
    · skip
      have hu0 : (S.2.2 h).2.2.2.1 = 0 := by simpa using c_248
      have hno : ∀ p, p < S.1 → S.2.1 p ≠ h := fun p hp => hJ2 p (by omega)
      have hu : (S.2.2 h).2.2.2.1 ≤ 0 := by rw [hu0]; decide
      refine lv_iconst (v := 1) hx hb d_law_251 (by decide) ?_
      refine lv_goto (tgt := 256) hx hb d_law_252 (by decide) ?_
      refine lv_istore (lv' := [(15, .int 1), (0, .ref sb), (1, .ref o), (2, .int (nI n)), (3, .ref (A 0)), (4, .ref (A 1)), (5, .ref (A 2)), (6, .ref (A 3)), (7, .ref (A 4)), (8, .ref (A 5)), (9, .int 1), (10, .int (nI day)), (11, .int (nI i)), (13, .int (nI h)), (14, .int (nI x))]) hx hb d_law_256 hl (by decide) rfl (fun ls hl => ?_)
      refine lv_iload hx hb d_law_258 (lv_at hl 10 rfl) ?_
      refine lv_aload_n hx hb d_law_260 rfl (lv_at hl 2 rfl) ?_
      refine lv_iload hx hb d_law_261 (lv_at hl 13 rfl) ?_
      by_cases hs5 : S.1 < 5
      · skip
        refine gw_calli (gw_runSW (As := [.ref o, .int (nI h)]) (rest := [.int 1]) ⟨hx, hb, hml, hown, hts⟩ (c_Law_stand l E D cI cO cZ z0 M hf hh hJ1 hJ2 hJ3 hJ hu hs5) (gw_cwSW 2 hts (gT_gi0 wm_506) rfl rfl rfl (hT _ wm_22) (hT _ wm_504) (hT _ wm_505) ⟨rfl, rfl, rfl⟩ ⟨wq_504, wq_505, wq_22⟩ (by decide +kernel) ⟨Nat.le_of_ble_eq_true rfl, Nat.le_of_ble_eq_true rfl⟩) hF hG rfl hl.1 rfl (Nat.le_of_ble_eq_true rfl) d_law_263 ⟨(lb_rc (by omega)), (lb_rs (by omega))⟩) hG (fun r M3 H locs hp hG => ?_)
        obtain ⟨hr1, Z1, hf1, hi1⟩ := hp
        rw [hr1]
        have h61 := h6.ints hi1
        refine lv_iload hx hb d_law_266 (lv_at hl 0 rfl) ?_
        refine lv_if_ne (tgt := 276) hx hb d_law_268 (by decide) (fun c_268 => ?_) (fun z_ => absurd z_ (by decide))
        refine lv_aload hx hb d_law_276 (lv_at hl 9 rfl) ?_
        refine lv_iconst (v := 0) hx hb d_law_278 (by decide) ?_
        refine gw_iald hx hb hK hG (h61.2.2.2.2.2) (vp_in_nI (n := 0) (by omega) (by decide)) d_law_279 ?_
        rw [show fg (0 : Int32).toNatClampNeg = nI S.1 from r5]
        refine lv_iconst (v := 5) hx hb d_law_280 (by decide) ?_
        refine lv_icmp_ne (tgt := 289) hx hb d_law_281 (by decide) (fun c_281 => ?_) (fun z_ => absurd z_ (fun z => absurd ((nI_eq (b := 5) (by omega) (by decide)).mp z) (by omega)))
        refine lv_aload hx hb d_law_289 (lv_at hl 9 rfl) ?_
        refine lv_iconst (v := 0) hx hb d_law_291 (by decide) ?_
        refine gw_iald hx hb hK hG (h61.2.2.2.2.2) (vp_in_nI (n := 0) (by omega) (by decide)) d_law_292 ?_
        rw [show fg (0 : Int32).toNatClampNeg = nI S.1 from r5]
        refine lv_iconst (v := 1) hx hb d_law_293 (by decide) ?_
        refine lv_iadd hx hb d_law_294 ?_
        rw [show nI S.1 + 1 = (nI (S.1 + 1)) from (nI_succ S.1).symm]
        refine lv_icmp_ne (tgt := 302) hx hb d_law_295 (by decide) (fun z_ => absurd (rfl) z_) (fun c_295 => ?_)
        refine lv_iconst (v := 1) hx hb d_law_298 (by decide) ?_
        refine lv_goto (tgt := 303) hx hb d_law_299 (by decide) ?_
        refine lv_iand hx hb d_law_303 ?_
        rw [show (1 : Int32) &&& 1 = 1 from rfl]
        refine lv_istore (lv' := [(9, .int 1), (15, .int 1), (0, .ref sb), (1, .ref o), (2, .int (nI n)), (3, .ref (A 0)), (4, .ref (A 1)), (5, .ref (A 2)), (6, .ref (A 3)), (7, .ref (A 4)), (8, .ref (A 5)), (10, .int (nI day)), (11, .int (nI i)), (13, .int (nI h)), (14, .int (nI x))]) hx hb d_law_304 hl (by decide) rfl (fun ls hl => ?_)
        refine lv_iload hx hb d_law_306 (lv_at hl 1 rfl) ?_
        refine lv_if_eq (tgt := 342) hx hb d_law_308 (by decide) (fun z_ => absurd z_ (by decide)) (fun c_308 => ?_)
        refine lv_aload hx hb d_law_311 (lv_at hl 10 rfl) ?_
        refine lv_iconst (v := 0) hx hb d_law_313 (by decide) ?_
        refine gw_iald hx hb hK hG (h61.2.2.2.2.2) (vp_in_nI (n := 0) (by omega) (by decide)) d_law_314 ?_
        rw [show fg (0 : Int32).toNatClampNeg = nI S.1 from r5]
        refine lv_iconst (v := 5) hx hb d_law_315 (by decide) ?_
        refine lv_icmp_ge (tgt := 342) hx hb d_law_316 (by decide) (fun z_ => absurd z_ (Int32.not_le.mpr ((nI_ltI (b := 5) (by omega) (by decide)).mpr (by omega)))) (fun c_316 => ?_)
        refine lv_aload hx hb d_law_319 (lv_at hl 10 rfl) ?_
        refine lv_iconst (v := 0) hx hb d_law_321 (by decide) ?_
        refine lv_dup2_11 hx hb d_law_322 rfl rfl ?_
        refine gw_iald hx hb hK hG (h61.2.2.2.2.2) (vp_in_nI (n := 0) (by omega) (by decide)) d_law_323 ?_
        rw [show fg (0 : Int32).toNatClampNeg = nI S.1 from r5]
        refine lv_iconst (v := 1) hx hb d_law_324 (by decide) ?_
        refine lv_iadd hx hb d_law_325 ?_
        rw [show nI S.1 + 1 = (nI (S.1 + 1)) from (nI_succ S.1).symm]
        have e00 : ((0 : Int32).toNatClampNeg) = 0 := by decide
        refine gw_iast hx hb hK hG (h61.2.2.2.2.2) (vp_in_nI (n := 0) (by omega) (by decide)) d_law_326 (fun H locs hG => ?_)
        have h6Y1 := h61.s5 hA (f' := upd fg 0 (nI (S.1 + 1)))
        obtain ⟨Y1, e_Y1⟩ : ∃ z : gM, z = gw_up M3 (A 5) (.inl (cI, 8, .inl (upd fg 0 (nI (S.1 + 1))))) := ⟨_, rfl⟩
        have hrY1 : gw_fr M3 Y1 := by rw [e_Y1]; exact gw_fr.rf.up (h61.2.2.2.2.2) gw_isI.mk
        rw [← e_Y1] at h6Y1
        replace hG := gw_nm e_Y1 hG
        refine lv_aload hx hb d_law_327 (lv_at hl 10 rfl) ?_
        refine lv_aload hx hb d_law_329 (lv_at hl 10 rfl) ?_
        refine lv_iconst (v := 0) hx hb d_law_331 (by decide) ?_
        refine gw_iald hx hb hK hG (h6Y1.2.2.2.2.2) (vp_in_nI (n := 0) (by omega) (by decide)) d_law_332 ?_
        rw [show upd fg 0 (nI (S.1 + 1)) (0 : Int32).toNatClampNeg = nI (S.1 + 1) from u_at]
        refine lv_iload hx hb d_law_333 (lv_at hl 13 rfl) ?_
        refine gw_iast hx hb hK hG (h6Y1.2.2.2.2.2) (vp_in_nI (by omega) (by omega)) d_law_335 (fun H locs hG => ?_)
        rw [nI_clamp (n := S.1 + 1) (by omega)] at hG
        have h6Y2 := h6Y1.s5 hA (f' := upd (upd fg 0 (nI (S.1 + 1))) (S.1 + 1) (nI h))
        obtain ⟨Y2, e_Y2⟩ : ∃ z : gM, z = gw_up Y1 (A 5) (.inl (cI, 8, .inl (upd (upd fg 0 (nI (S.1 + 1))) (S.1 + 1) (nI h)))) := ⟨_, rfl⟩
        have hrY2 : gw_fr Y1 Y2 := by rw [e_Y2]; exact gw_fr.rf.up (h6Y1.2.2.2.2.2) gw_isI.mk
        rw [← e_Y2] at h6Y2
        replace hG := gw_nm e_Y2 hG
        refine lv_aload hx hb d_law_336 (lv_at hl 6 rfl) ?_
        refine lv_iload hx hb d_law_338 (lv_at hl 13 rfl) ?_
        refine lv_iconst (v := 0) hx hb d_law_340 (by decide) ?_
        refine gw_iast hx hb hK hG (h6Y2.2.1) (vp_in_nI (by omega) (by omega)) d_law_341 (fun H locs hG => ?_)
        rw [nI_clamp (n := h) (by omega)] at hG
        have h6Y3 := h6Y2.s1 hA (f' := upd fe h 0)
        obtain ⟨Y3, e_Y3⟩ : ∃ z : gM, z = gw_up Y2 (A 1) (.inl (cI, n, .inl (upd fe h 0))) := ⟨_, rfl⟩
        have hrY3 : gw_fr Y2 Y3 := by rw [e_Y3]; exact gw_fr.rf.up (h6Y2.2.1) gw_isI.mk
        rw [← e_Y3] at h6Y3
        replace hG := gw_nm e_Y3 hG
        refine lv_goto (tgt := 652) hx hb d_law_342 (by decide) ?_
        refine W.widen (k := k + 100) (n := q + 600) (by omega) (by omega) ?_
        exact kk _ _ _ _ _ Z1 day (by omega) (hf1.kept ((hrY1.trans hrY2).trans hrY3)) (⟨hA, _, _, _, _, _, _, h6Y3, lb_rp_stand hrp hh⟩) ((lb_stand hiv hh hno hu0 hs5).mono (by omega)) hG (lv_sub hl [2, 3, 4, 5, 6, 7, 8, 9, 10, 0, 11, 12] rfl)
      · skip
        have es5 : S.1 = 5 := by omega
        refine gw_calli (gw_runSW (As := [.ref o, .int (nI h)]) (rest := [.int 1]) ⟨hx, hb, hml, hown, hts⟩ (c_Law_stand_xs l E D cI cO cZ z0 M hst hf hh hJ1 hJ2 hJ3 hJ hu (by omega)) (gw_cwSW 2 hts (gT_gi0 wm_506) rfl rfl rfl (hT _ wm_22) (hT _ wm_504) (hT _ wm_505) ⟨rfl, rfl, rfl⟩ ⟨wq_504, wq_505, wq_22⟩ (by decide +kernel) ⟨Nat.le_of_ble_eq_true rfl, Nat.le_of_ble_eq_true rfl⟩) hF hG rfl hl.1 rfl (Nat.le_of_ble_eq_true rfl) d_law_263 ⟨(lb_rc (by omega)), (lb_rs (by omega))⟩) hG (fun r M3 H locs hp hG => ?_)
        rw [hp.1]
        replace hG := gw_nm hp.2.symm hG
        refine lv_iload hx hb d_law_266 (lv_at hl 0 rfl) ?_
        refine lv_if_ne (tgt := 276) hx hb d_law_268 (by decide) (fun c_268 => ?_) (fun z_ => absurd z_ (by decide))
        refine lv_aload hx hb d_law_276 (lv_at hl 9 rfl) ?_
        refine lv_iconst (v := 0) hx hb d_law_278 (by decide) ?_
        refine gw_iald hx hb hK hG (h6.2.2.2.2.2) (vp_in_nI (n := 0) (by omega) (by decide)) d_law_279 ?_
        rw [show fg (0 : Int32).toNatClampNeg = nI S.1 from r5]
        refine lv_iconst (v := 5) hx hb d_law_280 (by decide) ?_
        refine lv_icmp_ne (tgt := 289) hx hb d_law_281 (by decide) (fun z_ => absurd (by rw [es5]; rfl) z_) (fun c_281 => ?_)
        refine lv_ldc hx hb hown (hT _ wm_583) d_law_284 ?_
        refine lv_goto (tgt := 295) hx hb d_law_286 (by decide) ?_
        refine lv_icmp_ne (tgt := 302) hx hb d_law_295 (by decide) (fun z_ => absurd (rfl) z_) (fun c_295 => ?_)
        refine lv_iconst (v := 1) hx hb d_law_298 (by decide) ?_
        refine lv_goto (tgt := 303) hx hb d_law_299 (by decide) ?_
        refine lv_iand hx hb d_law_303 ?_
        rw [show (1 : Int32) &&& 1 = 1 from rfl]
        refine lv_istore (lv' := [(9, .int 1), (15, .int 1), (0, .ref sb), (1, .ref o), (2, .int (nI n)), (3, .ref (A 0)), (4, .ref (A 1)), (5, .ref (A 2)), (6, .ref (A 3)), (7, .ref (A 4)), (8, .ref (A 5)), (10, .int (nI day)), (11, .int (nI i)), (13, .int (nI h)), (14, .int (nI x))]) hx hb d_law_304 hl (by decide) rfl (fun ls hl => ?_)
        refine lv_iload hx hb d_law_306 (lv_at hl 1 rfl) ?_
        refine lv_if_eq (tgt := 342) hx hb d_law_308 (by decide) (fun z_ => absurd z_ (by decide)) (fun c_308 => ?_)
        refine lv_aload hx hb d_law_311 (lv_at hl 10 rfl) ?_
        refine lv_iconst (v := 0) hx hb d_law_313 (by decide) ?_
        refine gw_iald hx hb hK hG (h6.2.2.2.2.2) (vp_in_nI (n := 0) (by omega) (by decide)) d_law_314 ?_
        rw [show fg (0 : Int32).toNatClampNeg = nI S.1 from r5]
        refine lv_iconst (v := 5) hx hb d_law_315 (by decide) ?_
        refine lv_icmp_ge (tgt := 342) hx hb d_law_316 (by decide) (fun c_316 => ?_) (fun z_ => absurd (by rw [es5]; decide) z_)
        refine lv_goto (tgt := 652) hx hb d_law_342 (by decide) ?_
        refine W.widen (k := k + 100) (n := q + 600) (by omega) (by omega) ?_
        exact kk _ _ _ _ S Z day (by omega) (hf) (⟨hA, _, _, _, _, _, _, h6, hrp⟩) (hiv.mono (by omega)) hG (lv_sub hl [2, 3, 4, 5, 6, 7, 8, 9, 10, 0, 11, 12] rfl)
set_option maxHeartbeats 4000000 in
set_option maxRecDepth 100000 in
theorem lb_act_leave {p : Program} {l : Launch} {e : Env} {s : State} {m : MethodId} {args : Array Value} {below : List Frame} {meth : Method} {c : Code} {Q : State → Prop} {E : Nat} {D : va_G} {cI cO cZ : ClassId} {z0 sb sL : Nat} {xs : Nat → Int32} (C : lb_C l p s m args c E D cI cO cZ z0 sb sL xs) {M : gM} {H : Heap} {locs : List Loc} {ls : Array Slot} {k q : Nat} (hkk : k ≤ 400000) (hqq : q ≤ 4000000) {A : Nat → Nat} {o n day i B : Nat} {S : gS} {Z ad bn : Nat → Nat} (hn2 : 2 ≤ n) (hn7 : n ≤ 7) (hf : gw_fa z0 cO M o n (nI day) S Z ad bn) (har : gw_ar cI M A n S) (hiv : p_iv n B S) (hB : B ≤ 90000) (hday : day ≤ 1000) {h x : Nat} (hh : h < n) (kk : ∀ (M' : gM) (H : Heap) (locs : List Loc) (ls : Array Slot) (S' : gS) (Z' : Nat → Nat) (day' : Nat), day' ≤ day + 4 → gw_fa z0 cO M' o n (nI day') S' Z' ad bn → gw_ar cI M' A n S' → p_iv n (B + 200) S' → gw_H E D M' s H locs → lv_has ls 19 [(0, .ref sb), (1, .ref o), (2, .int (nI n)), (3, .ref (A 0)), (4, .ref (A 1)), (5, .ref (A 2)), (6, .ref (A 3)), (7, .ref (A 4)), (8, .ref (A 5)), (9, .int 1), (10, .int (nI day')), (11, .int (nI i))] → W p l e room_1 s m args below meth c H locs (k + 100) (q + 600) Q (F0 m 652 ls [])) (hG : gw_H E D M s H locs) (hl : lv_has ls 19 [(0, .ref sb), (1, .ref o), (2, .int (nI n)), (3, .ref (A 0)), (4, .ref (A 1)), (5, .ref (A 2)), (6, .ref (A 3)), (7, .ref (A 4)), (8, .ref (A 5)), (9, .int 1), (10, .int (nI day)), (11, .int (nI i)), (13, .int (nI h)), (14, .int (nI x))]) : W p l e room_1 s m args below meth c H locs k q Q (F0 m 351 ls []) := by
  obtain ⟨hx, hb, hml, hts, hown, hst, hF, hX, hsb, hsL⟩ := id C
  have hK := hF.1
  have hT := gT_hts hts
  obtain ⟨hA, fb, fe, ff, fu, fl, fg, h6, hrp⟩ := har
  obtain ⟨r0, r1, r2, r3, r4, r5, r6⟩ := id hrp
  obtain ⟨h5, hord, hoi, hok, hmu⟩ := id hiv
  obtain ⟨J, hJ1, hJ2, hJ3⟩ := lb_J S.2.1 h S.1
  have hoo : ∀ p, p < S.1 → S.2.1 p < 1000 := fun p hp => Nat.lt_of_lt_of_le (hord p hp) (by omega)
  refine lv_aload hx hb d_law_351 (lv_at hl 8 rfl) ?_
  refine lv_iload hx hb d_law_353 (lv_at hl 12 rfl) ?_
  refine gw_calli (gw_runS (As := [.ref (A 5), .int (nI h)]) (rest := []) ⟨hx, hb, hml, hown, hts⟩ (c_Law_placeIn l E D cI cO cZ z0 M h6.2.2.2.2.2 (by omega) r5 r6 hoo (i := h) (by omega) hoi hJ1 hJ2 hJ3) (gw_cwS 2 hts (gT_gi0 wm_785) rfl rfl rfl (hT _ wm_22) (hT _ wm_783) (hT _ wm_784) (by decide +kernel) ⟨Nat.le_of_ble_eq_true rfl, Nat.le_of_ble_eq_true rfl⟩) hF hG rfl hl.1 rfl (Nat.le_of_ble_eq_true rfl) d_law_355 ⟨(lb_rc (by omega)), (lb_rs (by omega))⟩) hG (fun r M1 H locs hp hG => ?_)
  rw [hp.1]
  replace hG := gw_nm hp.2.symm hG
  by_cases hJ : J < S.1
  · skip
    rw [if_pos hJ]
    refine lv_if_lt (tgt := 365) hx hb d_law_358 (by decide) (fun z_ => absurd z_ (nI_pos (by omega))) (fun c_358 => ?_)
    refine lv_iconst (v := 1) hx hb d_law_361 (by decide) ?_
    refine lv_goto (tgt := 366) hx hb d_law_362 (by decide) ?_
    refine lv_istore (lv' := [(15, .int 1), (0, .ref sb), (1, .ref o), (2, .int (nI n)), (3, .ref (A 0)), (4, .ref (A 1)), (5, .ref (A 2)), (6, .ref (A 3)), (7, .ref (A 4)), (8, .ref (A 5)), (9, .int 1), (10, .int (nI day)), (11, .int (nI i)), (13, .int (nI h)), (14, .int (nI x))]) hx hb d_law_366 hl (by decide) rfl (fun ls hl => ?_)
    refine lv_aload hx hb d_law_368 (lv_at hl 9 rfl) ?_
    refine lv_iload hx hb d_law_370 (lv_at hl 13 rfl) ?_
    refine gw_callv (gw_runS (As := [.ref (A 5), .int (nI h)]) (rest := []) ⟨hx, hb, hml, hown, hts⟩ (c_Law_leaves l E D cI cO cZ z0 M h6.2.2.2.2.2 (by omega) r5 r6 hoo (i := h) (by omega) hoi hJ1 hJ2 hJ3) (gw_cwS 2 hts (gT_gi0 wm_782) rfl rfl rfl (hT _ wm_22) (hT _ wm_780) (hT _ wm_781) (by decide +kernel) ⟨Nat.le_of_ble_eq_true rfl, Nat.le_of_ble_eq_true rfl⟩) hF hG rfl hl.1 rfl (Nat.le_of_ble_eq_true rfl) d_law_372 ⟨(lb_rc (by omega)), (lb_rs (by omega))⟩) hG (fun M2 H locs hp hG => ?_)
    obtain ⟨f', hM1, hf0, hfp⟩ := hp
    have h61 : gw_a6 cI M2 A n fb fe ff fu fl f' := by rw [hM1]; exact h6.s5 hA
    have hfr1 : gw_fr M M2 := by rw [hM1]; exact gw_fr.rf.up h6.2.2.2.2.2 gw_isI.mk
    have hfa1 := hf.kept hfr1
    rw [if_pos hJ] at hf0 hfp
    refine lv_iload hx hb d_law_375 (lv_at hl 10 rfl) ?_
    refine lv_aload_n hx hb d_law_377 rfl (lv_at hl 2 rfl) ?_
    refine lv_iload hx hb d_law_378 (lv_at hl 13 rfl) ?_
    refine gw_calli (gw_runSW (As := [.ref o, .int (nI h)]) (rest := [.int 1]) ⟨hx, hb, hml, hown, hts⟩ (c_Law_leave l E D cI cO cZ z0 M2 hfa1 hh hJ1 hJ2 hJ3 hJ) (gw_cwSW 2 hts (gT_gi0 wm_586) rfl rfl rfl (hT _ wm_22) (hT _ wm_584) (hT _ wm_585) ⟨rfl, rfl, rfl⟩ ⟨wq_584, wq_585, wq_22⟩ (by decide +kernel) ⟨Nat.le_of_ble_eq_true rfl, Nat.le_of_ble_eq_true rfl⟩) hF hG rfl hl.1 rfl (Nat.le_of_ble_eq_true rfl) d_law_380 ⟨(lb_rc (by omega)), (lb_rs (by omega))⟩) hG (fun r M3 H locs hp hG => ?_)
    obtain ⟨hr1, Z1, hf2, hi2⟩ := hp
    rw [hr1]
    have h62 := h61.ints hi2
    refine lv_iload hx hb d_law_383 (lv_at hl 0 rfl) ?_
    refine lv_if_eq (tgt := 395) hx hb d_law_385 (by decide) (fun z_ => absurd z_ (by decide)) (fun c_385 => ?_)
    refine lv_aload hx hb d_law_388 (lv_at hl 9 rfl) ?_
    refine lv_iconst (v := 0) hx hb d_law_390 (by decide) ?_
    refine gw_iald hx hb hK hG (h62.2.2.2.2.2) (vp_in_nI (n := 0) (by omega) (by decide)) d_law_391 ?_
    rw [show f' (0 : Int32).toNatClampNeg = nI (S.1 - 1) from hf0]
    refine lv_goto (tgt := 397) hx hb d_law_392 (by decide) ?_
    refine lv_icmp_ne (tgt := 404) hx hb d_law_397 (by decide) (fun z_ => absurd (rfl) z_) (fun c_397 => ?_)
    refine lv_iconst (v := 1) hx hb d_law_400 (by decide) ?_
    refine lv_goto (tgt := 405) hx hb d_law_401 (by decide) ?_
    refine lv_iand hx hb d_law_405 ?_
    rw [show (1 : Int32) &&& 1 = 1 from rfl]
    refine lv_istore (lv' := [(9, .int 1), (15, .int 1), (0, .ref sb), (1, .ref o), (2, .int (nI n)), (3, .ref (A 0)), (4, .ref (A 1)), (5, .ref (A 2)), (6, .ref (A 3)), (7, .ref (A 4)), (8, .ref (A 5)), (10, .int (nI day)), (11, .int (nI i)), (13, .int (nI h)), (14, .int (nI x))]) hx hb d_law_406 hl (by decide) rfl (fun ls hl => ?_)
    refine lv_goto (tgt := 652) hx hb d_law_408 (by decide) ?_
    refine W.widen (k := k + 100) (n := q + 600) (by omega) (by omega) ?_
    exact kk _ _ _ _ _ Z1 day (by omega) (hf2) (⟨hA, _, _, _, _, _, _, h62, r0, r1, r2, r3, r4, hf0, hfp⟩) ((lb_leave hiv hJ).mono (by omega)) hG (lv_sub hl [2, 3, 4, 5, 6, 7, 8, 9, 10, 0, 11, 12] rfl)
  · skip
    rw [if_neg hJ]
    refine lv_if_lt (tgt := 365) hx hb d_law_358 (by decide) (fun c_358 => ?_) (fun z_ => absurd (by decide) z_)
    refine lv_iconst (v := 0) hx hb d_law_365 (by decide) ?_
    refine lv_istore (lv' := [(15, .int 0), (0, .ref sb), (1, .ref o), (2, .int (nI n)), (3, .ref (A 0)), (4, .ref (A 1)), (5, .ref (A 2)), (6, .ref (A 3)), (7, .ref (A 4)), (8, .ref (A 5)), (9, .int 1), (10, .int (nI day)), (11, .int (nI i)), (13, .int (nI h)), (14, .int (nI x))]) hx hb d_law_366 hl (by decide) rfl (fun ls hl => ?_)
    refine lv_aload hx hb d_law_368 (lv_at hl 9 rfl) ?_
    refine lv_iload hx hb d_law_370 (lv_at hl 13 rfl) ?_
    refine gw_callv (gw_runS (As := [.ref (A 5), .int (nI h)]) (rest := []) ⟨hx, hb, hml, hown, hts⟩ (c_Law_leaves l E D cI cO cZ z0 M h6.2.2.2.2.2 (by omega) r5 r6 hoo (i := h) (by omega) hoi hJ1 hJ2 hJ3) (gw_cwS 2 hts (gT_gi0 wm_782) rfl rfl rfl (hT _ wm_22) (hT _ wm_780) (hT _ wm_781) (by decide +kernel) ⟨Nat.le_of_ble_eq_true rfl, Nat.le_of_ble_eq_true rfl⟩) hF hG rfl hl.1 rfl (Nat.le_of_ble_eq_true rfl) d_law_372 ⟨(lb_rc (by omega)), (lb_rs (by omega))⟩) hG (fun M2 H locs hp hG => ?_)
    obtain ⟨f', hM1, hf0, hfp⟩ := hp
    have h61 : gw_a6 cI M2 A n fb fe ff fu fl f' := by rw [hM1]; exact h6.s5 hA
    have hfr1 : gw_fr M M2 := by rw [hM1]; exact gw_fr.rf.up h6.2.2.2.2.2 gw_isI.mk
    have hfa1 := hf.kept hfr1
    rw [if_neg hJ] at hf0 hfp
    refine lv_iload hx hb d_law_375 (lv_at hl 10 rfl) ?_
    refine lv_aload_n hx hb d_law_377 rfl (lv_at hl 2 rfl) ?_
    refine lv_iload hx hb d_law_378 (lv_at hl 13 rfl) ?_
    refine gw_calli (gw_runSW (As := [.ref o, .int (nI h)]) (rest := [.int 1]) ⟨hx, hb, hml, hown, hts⟩ (c_Law_leave_x l E D cI cO cZ z0 M2 hst hfa1 hh hJ1 hJ2 hJ3 hJ) (gw_cwSW 2 hts (gT_gi0 wm_586) rfl rfl rfl (hT _ wm_22) (hT _ wm_584) (hT _ wm_585) ⟨rfl, rfl, rfl⟩ ⟨wq_584, wq_585, wq_22⟩ (by decide +kernel) ⟨Nat.le_of_ble_eq_true rfl, Nat.le_of_ble_eq_true rfl⟩) hF hG rfl hl.1 rfl (Nat.le_of_ble_eq_true rfl) d_law_380 ⟨(lb_rc (by omega)), (lb_rs (by omega))⟩) hG (fun r M3 H locs hp hG => ?_)
    rw [hp.1]
    replace hG := gw_nm hp.2.symm hG
    refine lv_iload hx hb d_law_383 (lv_at hl 0 rfl) ?_
    refine lv_if_eq (tgt := 395) hx hb d_law_385 (by decide) (fun c_385 => ?_) (fun z_ => absurd (rfl) z_)
    refine lv_ldc hx hb hown (hT _ wm_503) d_law_395 ?_
    refine lv_icmp_ne (tgt := 404) hx hb d_law_397 (by decide) (fun z_ => absurd (rfl) z_) (fun c_397 => ?_)
    refine lv_iconst (v := 1) hx hb d_law_400 (by decide) ?_
    refine lv_goto (tgt := 405) hx hb d_law_401 (by decide) ?_
    refine lv_iand hx hb d_law_405 ?_
    rw [show (1 : Int32) &&& 1 = 1 from rfl]
    refine lv_istore (lv' := [(9, .int 1), (15, .int 0), (0, .ref sb), (1, .ref o), (2, .int (nI n)), (3, .ref (A 0)), (4, .ref (A 1)), (5, .ref (A 2)), (6, .ref (A 3)), (7, .ref (A 4)), (8, .ref (A 5)), (10, .int (nI day)), (11, .int (nI i)), (13, .int (nI h)), (14, .int (nI x))]) hx hb d_law_406 hl (by decide) rfl (fun ls hl => ?_)
    refine lv_goto (tgt := 652) hx hb d_law_408 (by decide) ?_
    refine W.widen (k := k + 100) (n := q + 600) (by omega) (by omega) ?_
    exact kk _ _ _ _ S Z day (by omega) (hfa1) (⟨hA, _, _, _, _, _, _, h61, r0, r1, r2, r3, r4, hf0, fun p hp => (hfp p hp).trans (congrArg nI (lb_skp hJ p hp))⟩) (hiv.mono (by omega)) hG (lv_sub hl [2, 3, 4, 5, 6, 7, 8, 9, 10, 0, 11, 12] rfl)
set_option maxHeartbeats 4000000 in
set_option maxRecDepth 100000 in
theorem lb_act_pass {p : Program} {l : Launch} {e : Env} {s : State} {m : MethodId} {args : Array Value} {below : List Frame} {meth : Method} {c : Code} {Q : State → Prop} {E : Nat} {D : va_G} {cI cO cZ : ClassId} {z0 sb sL : Nat} {xs : Nat → Int32} (C : lb_C l p s m args c E D cI cO cZ z0 sb sL xs) {M : gM} {H : Heap} {locs : List Loc} {ls : Array Slot} {k q : Nat} (hkk : k ≤ 400000) (hqq : q ≤ 4000000) {A : Nat → Nat} {o n day i B : Nat} {S : gS} {Z ad bn : Nat → Nat} (hn2 : 2 ≤ n) (hn7 : n ≤ 7) (hf : gw_fa z0 cO M o n (nI day) S Z ad bn) (har : gw_ar cI M A n S) (hiv : p_iv n B S) (hB : B ≤ 90000) (hday : day ≤ 1000) {h x : Nat} (hh : h < n) (hx100 : x < 100) (kk : ∀ (M' : gM) (H : Heap) (locs : List Loc) (ls : Array Slot) (S' : gS) (Z' : Nat → Nat) (day' : Nat), day' ≤ day + 4 → gw_fa z0 cO M' o n (nI day') S' Z' ad bn → gw_ar cI M' A n S' → p_iv n (B + 200) S' → gw_H E D M' s H locs → lv_has ls 19 [(0, .ref sb), (1, .ref o), (2, .int (nI n)), (3, .ref (A 0)), (4, .ref (A 1)), (5, .ref (A 2)), (6, .ref (A 3)), (7, .ref (A 4)), (8, .ref (A 5)), (9, .int 1), (10, .int (nI day')), (11, .int (nI i))] → W p l e room_1 s m args below meth c H locs (k + 100) (q + 600) Q (F0 m 652 ls [])) (hG : gw_H E D M s H locs) (hl : lv_has ls 19 [(0, .ref sb), (1, .ref o), (2, .int (nI n)), (3, .ref (A 0)), (4, .ref (A 1)), (5, .ref (A 2)), (6, .ref (A 3)), (7, .ref (A 4)), (8, .ref (A 5)), (9, .int 1), (10, .int (nI day)), (11, .int (nI i)), (13, .int (nI h)), (14, .int (nI x))]) : W p l e room_1 s m args below meth c H locs k q Q (F0 m 530 ls []) := by
  obtain ⟨hx, hb, hml, hts, hown, hst, hF, hX, hsb, hsL⟩ := id C
  have hK := hF.1
  have hT := gT_hts hts
  obtain ⟨hA, fb, fe, ff, fu, fl, fg, h6, hrp⟩ := har
  obtain ⟨r0, r1, r2, r3, r4, r5, r6⟩ := id hrp
  obtain ⟨h5, hord, hoi, hok, hmu⟩ := id hiv
  obtain ⟨J, hJ1, hJ2, hJ3⟩ := lb_J S.2.1 h S.1
  have hoo : ∀ p, p < S.1 → S.2.1 p < 1000 := fun p hp => Nat.lt_of_lt_of_le (hord p hp) (by omega)
  refine lv_iconst (v := 1) hx hb d_law_530 (by decide) ?_
  refine lv_iload hx hb d_law_531 (lv_at hl 13 rfl) ?_
  refine lv_iconst (v := 4) hx hb d_law_533 (by decide) ?_
  refine lv_irem hx hb d_law_534 (nI_ne0 (n := 4) (by decide) (by decide)) ?_
  rw [show nI x - nI x / 4 * 4 = nI (x % 4) from pk_rem (d := 4) (by omega) (by decide) (by decide)]
  refine lv_iadd hx hb d_law_535 ?_
  obtain ⟨R, hR⟩ : ∃ R, R = 1 + x % 4 := ⟨_, rfl⟩
  have hR1 : 1 ≤ R := by omega
  have hR4 : R ≤ 4 := by omega
  rw [show 1 + nI (x % 4) = (nI R) from (by rw [hR]; exact nI_add 1 (x % 4))]
  refine lv_istore (lv' := [(15, .int (nI R)), (0, .ref sb), (1, .ref o), (2, .int (nI n)), (3, .ref (A 0)), (4, .ref (A 1)), (5, .ref (A 2)), (6, .ref (A 3)), (7, .ref (A 4)), (8, .ref (A 5)), (9, .int 1), (10, .int (nI day)), (11, .int (nI i)), (13, .int (nI h)), (14, .int (nI x))]) hx hb d_law_536 hl (by decide) rfl (fun ls hl => ?_)
  refine lv_iload hx hb d_law_538 (lv_at hl 11 rfl) ?_
  refine lv_iload hx hb d_law_540 (lv_at hl 0 rfl) ?_
  refine lv_iadd hx hb d_law_542 ?_
  obtain ⟨dy, hdy⟩ : ∃ z, z = day + R := ⟨_, rfl⟩
  rw [show nI day + nI R = (nI dy) from (by rw [hdy]; exact nI_add day R)]
  refine lv_istore (lv' := [(10, .int (nI dy)), (15, .int (nI R)), (0, .ref sb), (1, .ref o), (2, .int (nI n)), (3, .ref (A 0)), (4, .ref (A 1)), (5, .ref (A 2)), (6, .ref (A 3)), (7, .ref (A 4)), (8, .ref (A 5)), (9, .int 1), (11, .int (nI i)), (13, .int (nI h)), (14, .int (nI x))]) hx hb d_law_543 hl (by decide) rfl (fun ls hl => ?_)
  refine lv_iload hx hb d_law_545 (lv_at hl 11 rfl) ?_
  refine lv_aload_n hx hb d_law_547 rfl (lv_at hl 3 rfl) ?_
  refine lv_iload hx hb d_law_548 (lv_at hl 1 rfl) ?_
  refine gw_calli (gw_runSW (As := [.ref o, .int (nI R)]) (rest := [.int 1]) ⟨hx, hb, hml, hown, hts⟩ (c_Law_pass l E D cI cO cZ z0 M hf (R := R) hR1 (by omega) (by rw [show nI day + nI R = nI (day + R) from nI_add day R]; exact (nI_leI (b := 9999) (by omega) (by decide)).mpr (by omega))) (gw_cwSW 2 hts (gT_gi0 wm_723) rfl rfl rfl (hT _ wm_22) (hT _ wm_721) (hT _ wm_722) ⟨rfl, rfl, rfl⟩ ⟨wq_721, wq_722, wq_22⟩ (by decide +kernel) ⟨Nat.le_of_ble_eq_true rfl, Nat.le_of_ble_eq_true rfl⟩) hF hG rfl hl.1 rfl (Nat.le_of_ble_eq_true rfl) d_law_550 ⟨(lb_rc (by omega)), (lb_rs (by omega))⟩) hG (fun r M1 H locs hp hG => ?_)
  obtain ⟨hr1, hf1, hi1⟩ := hp
  have e_dy : nI day + nI R = nI dy := by rw [hdy]; exact nI_add day R
  rw [e_dy] at hr1 hf1
  rw [hr1]
  have h61 := h6.ints hi1
  refine lv_iload hx hb d_law_553 (lv_at hl 0 rfl) ?_
  refine lv_icmp_ne (tgt := 573) hx hb d_law_555 (by decide) (fun z_ => absurd (rfl) z_) (fun c_555 => ?_)
  refine lv_aload_n hx hb d_law_558 rfl (lv_at hl 3 rfl) ?_
  refine lv_bipush (v := 100) hx hb d_law_559 (by decide) ?_
  refine gw_calli (gw_runSW (As := [.ref o, .int 100]) (rest := [.int 1]) ⟨hx, hb, hml, hown, hts⟩ (c_Law_pass_x l E D cI cO cZ z0 M1 hst hf1 (R := 100) (by omega) (by omega)) (gw_cwSW 2 hts (gT_gi0 wm_723) rfl rfl rfl (hT _ wm_22) (hT _ wm_721) (hT _ wm_722) ⟨rfl, rfl, rfl⟩ ⟨wq_721, wq_722, wq_22⟩ (by decide +kernel) ⟨Nat.le_of_ble_eq_true rfl, Nat.le_of_ble_eq_true rfl⟩) hF hG rfl hl.1 rfl (Nat.le_of_ble_eq_true rfl) d_law_561 ⟨(lb_rc (by omega)), (lb_rs (by omega))⟩) hG (fun r M2 H locs hp hG => ?_)
  rw [hp.1]
  replace hG := gw_nm hp.2.symm hG
  refine lv_ldc hx hb hown (hT _ wm_502) d_law_564 ?_
  refine lv_icmp_ne (tgt := 573) hx hb d_law_566 (by decide) (fun z_ => absurd (rfl) z_) (fun c_566 => ?_)
  refine lv_iconst (v := 1) hx hb d_law_569 (by decide) ?_
  refine lv_goto (tgt := 574) hx hb d_law_570 (by decide) ?_
  refine lv_iand hx hb d_law_574 ?_
  rw [show (1 : Int32) &&& 1 = 1 from rfl]
  refine lv_istore (lv' := [(9, .int 1), (10, .int (nI dy)), (15, .int (nI R)), (0, .ref sb), (1, .ref o), (2, .int (nI n)), (3, .ref (A 0)), (4, .ref (A 1)), (5, .ref (A 2)), (6, .ref (A 3)), (7, .ref (A 4)), (8, .ref (A 5)), (11, .int (nI i)), (13, .int (nI h)), (14, .int (nI x))]) hx hb d_law_575 hl (by decide) rfl (fun ls hl => ?_)
  refine lv_iconst (v := 0) hx hb d_law_577 (by decide) ?_
  refine lv_istore (lv' := [(16, .int 0), (9, .int 1), (10, .int (nI dy)), (15, .int (nI R)), (0, .ref sb), (1, .ref o), (2, .int (nI n)), (3, .ref (A 0)), (4, .ref (A 1)), (5, .ref (A 2)), (6, .ref (A 3)), (7, .ref (A 4)), (8, .ref (A 5)), (11, .int (nI i)), (13, .int (nI h)), (14, .int (nI x))]) hx hb d_law_578 hl (by decide) rfl (fun ls hl => ?_)
  have hval : ∀ j, j < n → ∃ f u : Nat, f ≤ 100 ∧ u ≤ 7 ∧ ff j = nI f ∧ fu j = nI u ∧ (p_rests R (S.2.2 j)).2.2.1 = nI (f - 30 * R) ∧ (p_rests R (S.2.2 j)).2.2.2.1 = nI (u - R) := fun j hj => by
    obtain ⟨-, ⟨f, hf_, ef⟩, ⟨u, hu_, eu⟩, -⟩ := hok j hj
    obtain ⟨b1, b2, -⟩ := p_rests_v (B := B) hf_ hu_ ef eu R
    exact ⟨f, u, hf_, hu_, (r2 j hj).trans ef, (r3 j hj).trans eu, b1, b2⟩
  refine W.widen (k := k + 1) (n := q + 6) (by omega) (by omega) ?_
  have loopP : ∀ (d p2 : Nat), p2 + d = n → ∀ (X : gM) (H : Heap) (locs : List Loc) (ls : Array Slot), (∃ fF fU : Nat → Int32, gw_a6 cI X A n fb fe fF fU fl fg ∧ gw_fr M1 X ∧ (∀ j, j < p2 → fF j = (p_rests R (S.2.2 j)).2.2.1 ∧ fU j = (p_rests R (S.2.2 j)).2.2.2.1) ∧ ∀ j, p2 ≤ j → fF j = ff j ∧ fU j = fu j) → gw_H E D X s H locs → lv_has ls 19 [(0, .ref sb), (1, .ref o), (2, .int (nI n)), (3, .ref (A 0)), (4, .ref (A 1)), (5, .ref (A 2)), (6, .ref (A 3)), (7, .ref (A 4)), (8, .ref (A 5)), (9, .int 1), (10, .int (nI dy)), (11, .int (nI i)), (15, .int (nI R)), (16, .int (nI p2))] → W p l e room_1 s m args below meth c H locs (k + 1) (q + 6) Q (F0 m 580 ls []) := by
    intro d
    induction d with
    | zero =>
      intro p2 hi X H locs ls hI hG hl
      obtain ⟨fF, fU, h6X, hfX, hIa, hIb⟩ := hI
      refine lv_iload hx hb d_law_580 (lv_at hl 13 rfl) ?_
      refine lv_iload_n hx hb d_law_582 rfl (lv_at hl 2 rfl) ?_
      refine lv_icmp_ge (tgt := 652) hx hb d_law_583 (by decide) (fun c_583 => ?_) (fun z_ => absurd (nI_le (by omega) (by omega)) z_)
      refine W.widen (k := k + 100) (n := q + 600) (by omega) (by omega) ?_
      exact kk _ _ _ _ _ Z dy (by omega) (hf1.kept hfX) (⟨hA, _, _, _, _, _, _, h6X, lb_rp_pass hrp hiv (fun j hj => (hIa j (by omega)).1) (fun j hj => (hIa j (by omega)).2)⟩) ((p_rests_iv hiv).mono (by omega)) hG (lv_sub hl [0, 1, 2, 3, 4, 5, 6, 7, 8, 9, 10, 11] rfl)
    | succ d ih =>
      intro p2 hi X H locs ls hI hG hl
      obtain ⟨fF, fU, h6X, hfX, hIa, hIb⟩ := hI
      refine lv_iload hx hb d_law_580 (lv_at hl 13 rfl) ?_
      refine lv_iload_n hx hb d_law_582 rfl (lv_at hl 2 rfl) ?_
      refine lv_icmp_ge (tgt := 652) hx hb d_law_583 (by decide) (fun z_ => absurd z_ (fun z => absurd ((nI_leI (by omega) (by omega)).mp z) (by omega))) (fun c_583 => ?_)
      obtain ⟨f, u, hf7, hu7, ef, eu, vf, vu⟩ := hval p2 (by omega)
      have eF : fF p2 = nI f := ((hIb p2 (Nat.le_refl _)).1).trans ef
      have eU : fU p2 = nI u := ((hIb p2 (Nat.le_refl _)).2).trans eu
      have e30 : (30 : Int32) * nI R = nI (30 * R) := pk_mul 30 R
      refine lv_aload hx hb d_law_586 (lv_at hl 5 rfl) ?_
      refine lv_iload hx hb d_law_588 (lv_at hl 13 rfl) ?_
      refine lv_aload hx hb d_law_590 (lv_at hl 5 rfl) ?_
      refine lv_iload hx hb d_law_592 (lv_at hl 13 rfl) ?_
      refine gw_iald hx hb hK hG (h6X.2.2.1) (vp_in_nI (by omega) (by omega)) d_law_594 ?_
      rw [nI_clamp (n := p2) (by omega), eF]
      refine lv_bipush (v := 30) hx hb d_law_595 (by decide) ?_
      refine lv_iload hx hb d_law_597 (lv_at hl 12 rfl) ?_
      refine lv_imul hx hb d_law_599 ?_
      rw [show 30 * nI R = (nI (30 * R)) from e30]
      have K618 : ∀ (H : Heap) (locs : List Loc) (ls : Array Slot), gw_H E D X s H locs → lv_has ls 19 [(0, .ref sb), (1, .ref o), (2, .int (nI n)), (3, .ref (A 0)), (4, .ref (A 1)), (5, .ref (A 2)), (6, .ref (A 3)), (7, .ref (A 4)), (8, .ref (A 5)), (9, .int 1), (10, .int (nI dy)), (11, .int (nI i)), (15, .int (nI R)), (16, .int (nI p2))] → W p l e room_1 s m args below meth c H locs (k + 1) (q + 6) Q (F0 m 618 ls [.int (nI (f - 30 * R)), .int (nI p2), .ref (A 2)]) := by
        intro H locs ls hG hl
        refine gw_iast hx hb hK hG h6X.2.2.1 (vp_in_nI (by omega) (by omega)) d_law_618 (fun H locs hG => ?_)
        rw [nI_clamp (n := p2) (by omega)] at hG
        have h6Y := h6X.s2 hA (f' := upd fF p2 (nI (f - 30 * R)))
        obtain ⟨Y, e_Y⟩ : ∃ z : gM, z = gw_up X (A 2) (.inl (cI, n, .inl (upd fF p2 (nI (f - 30 * R))))) := ⟨_, rfl⟩
        have hfY : gw_fr M1 Y := by rw [e_Y]; exact hfX.up h6X.2.2.1 gw_isI.mk
        rw [← e_Y] at h6Y
        replace hG := gw_nm e_Y hG
        refine lv_aload hx hb d_law_619 (lv_at hl 6 rfl) ?_
        refine lv_iload hx hb d_law_621 (lv_at hl 13 rfl) ?_
        refine lv_aload hx hb d_law_623 (lv_at hl 6 rfl) ?_
        refine lv_iload hx hb d_law_625 (lv_at hl 13 rfl) ?_
        refine gw_iald hx hb hK hG (h6Y.2.2.2.1) (vp_in_nI (by omega) (by omega)) d_law_627 ?_
        rw [nI_clamp (n := p2) (by omega), eU]
        refine lv_iload hx hb d_law_628 (lv_at hl 12 rfl) ?_
        have K645 : ∀ (H : Heap) (locs : List Loc) (ls : Array Slot), gw_H E D Y s H locs → lv_has ls 19 [(0, .ref sb), (1, .ref o), (2, .int (nI n)), (3, .ref (A 0)), (4, .ref (A 1)), (5, .ref (A 2)), (6, .ref (A 3)), (7, .ref (A 4)), (8, .ref (A 5)), (9, .int 1), (10, .int (nI dy)), (11, .int (nI i)), (15, .int (nI R)), (16, .int (nI p2))] → W p l e room_1 s m args below meth c H locs (k + 1) (q + 6) Q (F0 m 645 ls [.int (nI (u - R)), .int (nI p2), .ref (A 3)]) := by
          intro H locs ls hG hl
          refine gw_iast hx hb hK hG h6Y.2.2.2.1 (vp_in_nI (by omega) (by omega)) d_law_645 (fun H locs hG => ?_)
          rw [nI_clamp (n := p2) (by omega)] at hG
          refine lv_iinc (v := nI (p2 + 1)) (lv' := [(16, .int (nI (p2 + 1))), (0, .ref sb), (1, .ref o), (2, .int (nI n)), (3, .ref (A 0)), (4, .ref (A 1)), (5, .ref (A 2)), (6, .ref (A 3)), (7, .ref (A 4)), (8, .ref (A 5)), (9, .int 1), (10, .int (nI dy)), (11, .int (nI i)), (15, .int (nI R))]) hx hb d_law_646 hl (k := 13) rfl (nI_succ (p2)).symm (by decide) rfl (fun ls hl => ?_)
          refine lv_goto (tgt := 580) hx hb d_law_649 (by decide) ?_
          have h6V := h6Y.s3 hA (f' := upd fU p2 (nI (u - R)))
          have hfV := hfY.up (e := .inl (cI, n, .inl (upd fU p2 (nI (u - R))))) h6Y.2.2.2.1 gw_isI.mk
          refine ih (p2 + 1) (by omega) _ _ _ _ ⟨_, _, h6V, hfV, fun j hj => ?_, fun j hj => ⟨(u_no (by omega)).trans (hIb j (by omega)).1, (u_no (by omega)).trans (hIb j (by omega)).2⟩⟩ hG (lv_sub hl [1, 2, 3, 4, 5, 6, 7, 8, 9, 10, 11, 12, 13, 0] rfl)
          by_cases hjp : j = p2
          · rw [hjp, u_at, u_at]; exact ⟨vf.symm, vu.symm⟩
          · rw [u_no hjp, u_no hjp]; exact hIa j (by omega)
        refine lv_icmp_le (tgt := 644) hx hb d_law_630 (by decide) (fun c_630 => ?_) (fun c_630 => ?_)
        · skip
          refine lv_iconst (v := 0) hx hb d_law_644 (by decide) ?_
          have eq0 : u - R = 0 := by have := (nI_leI (by omega) (by omega)).mp c_630; omega
          rw [show (0 : Int32) = nI (u - R) from by rw [eq0]; rfl]
          exact K645 _ _ _ hG hl
        · skip
          refine lv_aload hx hb d_law_633 (lv_at hl 6 rfl) ?_
          refine lv_iload hx hb d_law_635 (lv_at hl 13 rfl) ?_
          refine gw_iald hx hb hK hG (h6Y.2.2.2.1) (vp_in_nI (by omega) (by omega)) d_law_637 ?_
          rw [nI_clamp (n := p2) (by omega), eU]
          refine lv_iload hx hb d_law_638 (lv_at hl 12 rfl) ?_
          refine lv_isub hx hb d_law_640 ?_
          rw [show nI u - nI R = (nI (u - R)) from pk_sub (Nat.le_of_not_lt (fun z => c_630 (nI_le (Nat.le_of_lt z) (by omega))))]
          refine lv_goto (tgt := 645) hx hb d_law_641 (by decide) ?_
          exact K645 _ _ _ hG hl
      refine lv_icmp_le (tgt := 617) hx hb d_law_600 (by decide) (fun c_600 => ?_) (fun c_600 => ?_)
      · skip
        refine lv_iconst (v := 0) hx hb d_law_617 (by decide) ?_
        have eq0 : f - 30 * R = 0 := by have := (nI_leI (by omega) (by omega)).mp c_600; omega
        rw [show (0 : Int32) = nI (f - 30 * R) from by rw [eq0]; rfl]
        exact K618 _ _ _ hG hl
      · skip
        refine lv_aload hx hb d_law_603 (lv_at hl 5 rfl) ?_
        refine lv_iload hx hb d_law_605 (lv_at hl 13 rfl) ?_
        refine gw_iald hx hb hK hG (h6X.2.2.1) (vp_in_nI (by omega) (by omega)) d_law_607 ?_
        rw [nI_clamp (n := p2) (by omega), eF]
        refine lv_bipush (v := 30) hx hb d_law_608 (by decide) ?_
        refine lv_iload hx hb d_law_610 (lv_at hl 12 rfl) ?_
        refine lv_imul hx hb d_law_612 ?_
        rw [show 30 * nI R = (nI (30 * R)) from e30]
        refine lv_isub hx hb d_law_613 ?_
        rw [show nI f - nI (30 * R) = (nI (f - 30 * R)) from pk_sub (Nat.le_of_not_lt (fun z => c_600 (nI_le (Nat.le_of_lt z) (by omega))))]
        refine lv_goto (tgt := 618) hx hb d_law_614 (by decide) ?_
        exact K618 _ _ _ hG hl
  exact loopP _ _ (Nat.zero_add n) M1 _ _ _ ⟨ff, fu, h61, gw_fr.rf, fun j hj => absurd hj (Nat.not_lt_zero j), fun _ _ => ⟨rfl, rfl⟩⟩ hG (lv_sub hl [4, 5, 6, 7, 8, 9, 10, 11, 12, 1, 2, 13, 3, 0] rfl)
set_option maxHeartbeats 4000000 in
set_option maxRecDepth 100000 in
theorem lb_act_prac {p : Program} {l : Launch} {e : Env} {s : State} {m : MethodId} {args : Array Value} {below : List Frame} {meth : Method} {c : Code} {Q : State → Prop} {E : Nat} {D : va_G} {cI cO cZ : ClassId} {z0 sb sL : Nat} {xs : Nat → Int32} (C : lb_C l p s m args c E D cI cO cZ z0 sb sL xs) {M : gM} {H : Heap} {locs : List Loc} {ls : Array Slot} {k q : Nat} (hkk : k ≤ 400000) (hqq : q ≤ 4000000) {A : Nat → Nat} {o n day i B : Nat} {S : gS} {Z ad bn : Nat → Nat} (hn2 : 2 ≤ n) (hn7 : n ≤ 7) (hf : gw_fa z0 cO M o n (nI day) S Z ad bn) (har : gw_ar cI M A n S) (hiv : p_iv n B S) (hB : B ≤ 90000) (hday : day ≤ 1000) {h x : Nat} (hh : h < n) (hx100 : x < 100) (kk : ∀ (M' : gM) (H : Heap) (locs : List Loc) (ls : Array Slot) (S' : gS) (Z' : Nat → Nat) (day' : Nat), day' ≤ day + 4 → gw_fa z0 cO M' o n (nI day') S' Z' ad bn → gw_ar cI M' A n S' → p_iv n (B + 200) S' → gw_H E D M' s H locs → lv_has ls 19 [(0, .ref sb), (1, .ref o), (2, .int (nI n)), (3, .ref (A 0)), (4, .ref (A 1)), (5, .ref (A 2)), (6, .ref (A 3)), (7, .ref (A 4)), (8, .ref (A 5)), (9, .int 1), (10, .int (nI day')), (11, .int (nI i))] → W p l e room_1 s m args below meth c H locs (k + 100) (q + 600) Q (F0 m 652 ls [])) (hG : gw_H E D M s H locs) (hl : lv_has ls 19 [(0, .ref sb), (1, .ref o), (2, .int (nI n)), (3, .ref (A 0)), (4, .ref (A 1)), (5, .ref (A 2)), (6, .ref (A 3)), (7, .ref (A 4)), (8, .ref (A 5)), (9, .int 1), (10, .int (nI day)), (11, .int (nI i)), (13, .int (nI h)), (14, .int (nI x))]) : W p l e room_1 s m args below meth c H locs k q Q (F0 m 418 ls []) := by
  obtain ⟨hx, hb, hml, hts, hown, hst, hF, hX, hsb, hsL⟩ := id C
  have hK := hF.1
  have hT := gT_hts hts
  obtain ⟨hA, fb, fe, ff, fu, fl, fg, h6, hrp⟩ := id har
  obtain ⟨r0, r1, r2, r3, r4, r5, r6⟩ := id hrp
  obtain ⟨h5, hord, hoi, hok, hmu⟩ := id hiv
  refine lv_iconst (v := 1) hx hb d_law_418 (by decide) ?_
  refine lv_iload hx hb d_law_419 (lv_at hl 13 rfl) ?_
  refine lv_bipush (v := 24) hx hb d_law_421 (by decide) ?_
  refine lv_irem hx hb d_law_423 (nI_ne0 (n := 24) (by decide) (by decide)) ?_
  rw [show nI x - nI x / 24 * 24 = nI (x % 24) from pk_rem (d := 24) (by omega) (by decide) (by decide)]
  refine lv_iadd hx hb d_law_424 ?_
  obtain ⟨R, hR⟩ : ∃ R, R = 1 + x % 24 := ⟨_, rfl⟩
  have hR1 : 1 ≤ R := by omega
  have hR2 : R ≤ 24 := by omega
  rw [show 1 + nI (x % 24) = (nI R) from (by rw [hR]; exact nI_add 1 (x % 24))]
  refine lv_istore (lv' := [(15, .int (nI R)), (0, .ref sb), (1, .ref o), (2, .int (nI n)), (3, .ref (A 0)), (4, .ref (A 1)), (5, .ref (A 2)), (6, .ref (A 3)), (7, .ref (A 4)), (8, .ref (A 5)), (9, .int 1), (10, .int (nI day)), (11, .int (nI i)), (13, .int (nI h)), (14, .int (nI x))]) hx hb d_law_425 hl (by decide) rfl (fun ls hl => ?_)
  refine lv_iconst (v := 0) hx hb d_law_427 (by decide) ?_
  refine lv_istore (lv' := [(16, .int 0), (15, .int (nI R)), (0, .ref sb), (1, .ref o), (2, .int (nI n)), (3, .ref (A 0)), (4, .ref (A 1)), (5, .ref (A 2)), (6, .ref (A 3)), (7, .ref (A 4)), (8, .ref (A 5)), (9, .int 1), (10, .int (nI day)), (11, .int (nI i)), (13, .int (nI h)), (14, .int (nI x))]) hx hb d_law_428 hl (by decide) rfl (fun ls hl => ?_)
  have K496 : ∀ (Y : gM) (S2 : gS) (gd cn : Int32) (H : Heap) (locs : List Loc) (ls : Array Slot), ((2 ≤ S.1 → cn = 1) ∧ (¬ 2 ≤ S.1 → cn = 0)) → gw_fr M Y → gw_ar cI Y A n S2 → p_iv n (B + 200) S2 → p_prac R S 0 = (gd, S2) → gw_H E D Y s H locs → lv_has ls 19 [(0, .ref sb), (1, .ref o), (2, .int (nI n)), (3, .ref (A 0)), (4, .ref (A 1)), (5, .ref (A 2)), (6, .ref (A 3)), (7, .ref (A 4)), (8, .ref (A 5)), (9, .int 1), (10, .int (nI day)), (11, .int (nI i)), (15, .int (nI R)), (16, .int gd), (17, .int cn)] → W p l e room_1 s m args below meth c H locs (k + 50) (q + 400) Q (F0 m 496 ls []) := by
    intro Y S2 gd cn H locs ls hc hYf hYar hYiv hpr hG hl
    have hfY := hf.kept hYf
    refine lv_iload hx hb d_law_496 (lv_at hl 9 rfl) ?_
    refine lv_aload_n hx hb d_law_498 rfl (lv_at hl 1 rfl) ?_
    refine lv_iload hx hb d_law_499 (lv_at hl 12 rfl) ?_
    by_cases h2 : 2 ≤ S.1
    · skip
      refine gw_calli (gw_runSW (As := [.ref o, .int (nI R)]) (rest := [.int 1]) ⟨hx, hb, hml, hown, hts⟩ (c_Law_practise l E D cI cO cZ z0 Y hfY (R := R) hR1 (by omega) h2) (gw_cwSW 2 hts (gT_gi0 wm_674) rfl rfl rfl (hT _ wm_22) (hT _ wm_672) (hT _ wm_673) ⟨rfl, rfl, rfl⟩ ⟨wq_672, wq_673, wq_22⟩ (by decide +kernel) ⟨Nat.le_of_ble_eq_true rfl, Nat.le_of_ble_eq_true rfl⟩) hF hG rfl hl.1 rfl (Nat.le_of_ble_eq_true rfl) d_law_501 ⟨(lb_rc (by omega)), (lb_rs (by omega))⟩) hG (fun r M1 H locs hp hG => ?_)
      rw [hpr] at hp
      obtain ⟨hr1, Z1, hf1, hi1⟩ := hp
      rw [hr1]
      refine lv_iload hx hb d_law_504 (lv_at hl 14 rfl) ?_
      refine lv_if_eq (tgt := 514) hx hb d_law_506 (by decide) (fun z_ => absurd z_ ((by rw [hc.1 h2]; decide))) (fun c_506 => ?_)
      refine lv_iload hx hb d_law_509 (lv_at hl 13 rfl) ?_
      refine lv_goto (tgt := 516) hx hb d_law_511 (by decide) ?_
      refine lv_icmp_ne (tgt := 523) hx hb d_law_516 (by decide) (fun z_ => absurd (rfl) z_) (fun c_516 => ?_)
      refine lv_iconst (v := 1) hx hb d_law_519 (by decide) ?_
      refine lv_goto (tgt := 524) hx hb d_law_520 (by decide) ?_
      refine lv_iand hx hb d_law_524 ?_
      rw [show (1 : Int32) &&& 1 = 1 from rfl]
      refine lv_istore (lv' := [(9, .int 1), (0, .ref sb), (1, .ref o), (2, .int (nI n)), (3, .ref (A 0)), (4, .ref (A 1)), (5, .ref (A 2)), (6, .ref (A 3)), (7, .ref (A 4)), (8, .ref (A 5)), (10, .int (nI day)), (11, .int (nI i)), (15, .int (nI R)), (16, .int gd), (17, .int cn)]) hx hb d_law_525 hl (by decide) rfl (fun ls hl => ?_)
      refine lv_goto (tgt := 652) hx hb d_law_527 (by decide) ?_
      refine W.widen (k := k + 100) (n := q + 600) (by omega) (by omega) ?_
      exact kk _ _ _ _ S2 Z1 day (by omega) (hf1) (hYar.ints hi1) (hYiv) hG (lv_sub hl [1, 2, 3, 4, 5, 6, 7, 8, 9, 0, 10, 11] rfl)
    · skip
      have e1 : S2 = S := by
        obtain ⟨R0, rfl⟩ : ∃ R0, R = R0 + 1 := ⟨R - 1, by omega⟩
        have e2 : p_prac (R0 + 1) S 0 = (0, S) := if_pos (by omega)
        rw [e2] at hpr; exact (congrArg Prod.snd hpr).symm
      subst e1
      refine gw_calli (gw_runSW (As := [.ref o, .int (nI R)]) (rest := [.int 1]) ⟨hx, hb, hml, hown, hts⟩ (c_Law_practise_xg l E D cI cO cZ z0 Y hst hfY (R := R) hR1 (by omega) (by omega)) (gw_cwSW 2 hts (gT_gi0 wm_674) rfl rfl rfl (hT _ wm_22) (hT _ wm_672) (hT _ wm_673) ⟨rfl, rfl, rfl⟩ ⟨wq_672, wq_673, wq_22⟩ (by decide +kernel) ⟨Nat.le_of_ble_eq_true rfl, Nat.le_of_ble_eq_true rfl⟩) hF hG rfl hl.1 rfl (Nat.le_of_ble_eq_true rfl) d_law_501 ⟨(lb_rc (by omega)), (lb_rs (by omega))⟩) hG (fun r M1 H locs hp hG => ?_)
      rw [hp.1]
      replace hG := gw_nm hp.2.symm hG
      refine lv_iload hx hb d_law_504 (lv_at hl 14 rfl) ?_
      refine lv_if_eq (tgt := 514) hx hb d_law_506 (by decide) (fun c_506 => ?_) (fun z_ => absurd ((hc.2 h2)) z_)
      refine lv_ldc hx hb hown (hT _ wm_503) d_law_514 ?_
      refine lv_icmp_ne (tgt := 523) hx hb d_law_516 (by decide) (fun z_ => absurd (rfl) z_) (fun c_516 => ?_)
      refine lv_iconst (v := 1) hx hb d_law_519 (by decide) ?_
      refine lv_goto (tgt := 524) hx hb d_law_520 (by decide) ?_
      refine lv_iand hx hb d_law_524 ?_
      rw [show (1 : Int32) &&& 1 = 1 from rfl]
      refine lv_istore (lv' := [(9, .int 1), (0, .ref sb), (1, .ref o), (2, .int (nI n)), (3, .ref (A 0)), (4, .ref (A 1)), (5, .ref (A 2)), (6, .ref (A 3)), (7, .ref (A 4)), (8, .ref (A 5)), (10, .int (nI day)), (11, .int (nI i)), (15, .int (nI R)), (16, .int gd), (17, .int cn)]) hx hb d_law_525 hl (by decide) rfl (fun ls hl => ?_)
      refine lv_goto (tgt := 652) hx hb d_law_527 (by decide) ?_
      refine W.widen (k := k + 100) (n := q + 600) (by omega) (by omega) ?_
      exact kk _ _ _ _ _ Z day (by omega) (hfY) (hYar) (hYiv) hG (lv_sub hl [1, 2, 3, 4, 5, 6, 7, 8, 9, 0, 10, 11] rfl)
  have K445 : ∀ (cn : Int32) (H : Heap) (locs : List Loc) (ls : Array Slot), ((2 ≤ S.1 → cn = 1) ∧ (¬ 2 ≤ S.1 → cn = 0)) → gw_H E D M s H locs → lv_has ls 19 [(0, .ref sb), (1, .ref o), (2, .int (nI n)), (3, .ref (A 0)), (4, .ref (A 1)), (5, .ref (A 2)), (6, .ref (A 3)), (7, .ref (A 4)), (8, .ref (A 5)), (9, .int 1), (10, .int (nI day)), (11, .int (nI i)), (15, .int (nI R)), (16, .int 0), (17, .int cn)] → W p l e room_1 s m args below meth c H locs k q Q (F0 m 445 ls []) := by
    intro cn H locs ls hc hG hl
    refine lv_iconst (v := 0) hx hb d_law_445 (by decide) ?_
    refine lv_istore (lv' := [(18, .int 0), (0, .ref sb), (1, .ref o), (2, .int (nI n)), (3, .ref (A 0)), (4, .ref (A 1)), (5, .ref (A 2)), (6, .ref (A 3)), (7, .ref (A 4)), (8, .ref (A 5)), (9, .int 1), (10, .int (nI day)), (11, .int (nI i)), (15, .int (nI R)), (16, .int 0), (17, .int cn)]) hx hb d_law_446 hl (by decide) rfl (fun ls hl => ?_)
    have loopR : ∀ (d p2 : Nat), p2 + d = R → ∀ (X : gM) (H : Heap) (locs : List Loc) (ls : Array Slot) (S2 : gS) (gd : Int32), (gw_fr M X ∧ gw_ar cI X A n S2 ∧ p_iv n (B + 8 * p2) S2 ∧ p_prac R S 0 = p_prac d S2 gd) → gw_H E D X s H locs → lv_has ls 19 [(0, .ref sb), (1, .ref o), (2, .int (nI n)), (3, .ref (A 0)), (4, .ref (A 1)), (5, .ref (A 2)), (6, .ref (A 3)), (7, .ref (A 4)), (8, .ref (A 5)), (9, .int 1), (10, .int (nI day)), (11, .int (nI i)), (15, .int (nI R)), (16, .int gd), (17, .int cn), (18, .int (nI p2))] → W p l e room_1 s m args below meth c H locs (k + 2 * p2) (q + 16 * p2) Q (F0 m 448 ls []) := by
      intro d
      induction d with
      | zero =>
        intro p2 hi X H locs ls S2 gd hI hG hl
        obtain ⟨hXf, hXar, hXiv, hXp⟩ := hI
        obtain ⟨hA2, gb, ge, gf, gu, gl, gg, h6X, hX0, hX1, hX2, hX3, hX4, hX5, hX6⟩ := id hXar
        refine lv_iload hx hb d_law_448 (lv_at hl 15 rfl) ?_
        refine lv_iload hx hb d_law_450 (lv_at hl 12 rfl) ?_
        refine lv_icmp_ge (tgt := 496) hx hb d_law_452 (by decide) (fun c_452 => ?_) (fun z_ => absurd (nI_le (by omega) (by omega)) z_)
        refine W.widen (k := k + 50) (n := q + 400) (by omega) (by omega) ?_
        exact K496 X S2 gd cn _ _ _ hc hXf hXar (hXiv.mono (by omega)) hXp hG (lv_sub hl [0, 1, 2, 3, 4, 5, 6, 7, 8, 9, 10, 11, 12, 13, 14] rfl)
      | succ d ih =>
        intro p2 hi X H locs ls S2 gd hI hG hl
        obtain ⟨hXf, hXar, hXiv, hXp⟩ := hI
        obtain ⟨hA2, gb, ge, gf, gu, gl, gg, h6X, hX0, hX1, hX2, hX3, hX4, hX5, hX6⟩ := id hXar
        refine lv_iload hx hb d_law_448 (lv_at hl 15 rfl) ?_
        refine lv_iload hx hb d_law_450 (lv_at hl 12 rfl) ?_
        refine lv_icmp_ge (tgt := 496) hx hb d_law_452 (by decide) (fun z_ => absurd z_ (fun z => absurd ((nI_leI (by omega) (by omega)).mp z) (by omega))) (fun c_452 => ?_)
        refine lv_aload hx hb d_law_455 (lv_at hl 8 rfl) ?_
        refine lv_iconst (v := 0) hx hb d_law_457 (by decide) ?_
        have hs5 : S2.1 ≤ 5 := hXiv.1
        refine gw_iald hx hb hK hG (h6X.2.2.2.2.2) (vp_in_nI (n := 0) (by omega) (by decide)) d_law_458 ?_
        rw [show gg (0 : Int32).toNatClampNeg = nI S2.1 from hX5]
        refine lv_iconst (v := 1) hx hb d_law_459 (by decide) ?_
        refine lv_icmp_le (tgt := 496) hx hb d_law_460 (by decide) (fun c_460 => ?_) (fun c_460 => ?_)
        · skip
          have h21 : S2.1 < 2 := by have := (nI_leI (b := 1) (by omega) (by decide)).mp c_460; omega
          refine W.widen (k := k + 50) (n := q + 400) (by omega) (by omega) ?_
          exact K496 X S2 gd cn _ _ _ hc hXf hXar (hXiv.mono (by omega)) (hXp.trans (if_pos h21)) hG (lv_sub hl [0, 1, 2, 3, 4, 5, 6, 7, 8, 9, 10, 11, 12, 13, 14] rfl)
        · skip
          have h21 : ¬ S2.1 < 2 := fun z => c_460 ((nI_leI (b := 1) (by omega) (by decide)).mpr (by omega))
          have hXq := hXp.trans (if_neg h21)
          obtain ⟨mm, ord, v, hS2⟩ : ∃ (mm : Nat) (ord : Nat → Nat) (v : Nat → gH), S2 = (mm + 1, ord, v) := ⟨S2.1 - 1, S2.2.1, S2.2.2, by rw [Nat.sub_add_cancel (by omega)]⟩
          have hm1 : mm + 1 = S2.1 := by rw [hS2]
          rw [hS2] at hXq hXar hXiv
          refine lv_iload hx hb d_law_463 (lv_at hl 13 rfl) ?_
          refine lv_aload hx hb d_law_465 (lv_at hl 8 rfl) ?_
          refine lv_aload_n hx hb d_law_467 rfl (lv_at hl 3 rfl) ?_
          refine lv_aload hx hb d_law_468 (lv_at hl 4 rfl) ?_
          refine lv_aload hx hb d_law_470 (lv_at hl 5 rfl) ?_
          refine lv_aload hx hb d_law_472 (lv_at hl 6 rfl) ?_
          refine lv_aload hx hb d_law_474 (lv_at hl 7 rfl) ?_
          refine gw_calli (gw_runS (As := [.ref (A 5), .ref (A 0), .ref (A 1), .ref (A 2), .ref (A 3), .ref (A 4)]) (rest := [.int gd]) ⟨hx, hb, hml, hown, hts⟩ (c_Law_goes l E D cI cO cZ z0 X hXar hXiv (by omega) (by omega) (by omega)) (gw_cwS 6 hts (gT_gi0 wm_769) rfl rfl rfl (hT _ wm_22) (hT _ wm_767) (hT _ wm_768) (by decide +kernel) ⟨Nat.le_of_ble_eq_true rfl, Nat.le_of_ble_eq_true rfl⟩) hF hG rfl hl.1 rfl (Nat.le_of_ble_eq_true rfl) d_law_476 ⟨(lb_rc (by omega)), (lb_rs (by omega))⟩) hG (fun r M1 H locs hp hG => ?_)
          obtain ⟨hg1, hg2, hg3⟩ := hp
          rcases p_rnd_01 (mm + 1, ord, v) with h01 | h01
          · skip
            have hr0 : r = 0 := hg1.trans h01
            rw [hr0]
            refine lv_if_eq (tgt := 486) hx hb d_law_479 (by decide) (fun c_479 => ?_) (fun z_ => absurd (rfl) z_)
            refine lv_iconst (v := 0) hx hb d_law_486 (by decide) ?_
            refine lv_iadd hx hb d_law_487 ?_
            refine lv_istore (lv' := [(16, .int (gd + 0)), (0, .ref sb), (1, .ref o), (2, .int (nI n)), (3, .ref (A 0)), (4, .ref (A 1)), (5, .ref (A 2)), (6, .ref (A 3)), (7, .ref (A 4)), (8, .ref (A 5)), (9, .int 1), (10, .int (nI day)), (11, .int (nI i)), (15, .int (nI R)), (17, .int cn), (18, .int (nI p2))]) hx hb d_law_488 hl (by decide) rfl (fun ls hl => ?_)
            refine lv_iinc (v := nI (p2 + 1)) (lv' := [(18, .int (nI (p2 + 1))), (16, .int (gd + 0)), (0, .ref sb), (1, .ref o), (2, .int (nI n)), (3, .ref (A 0)), (4, .ref (A 1)), (5, .ref (A 2)), (6, .ref (A 3)), (7, .ref (A 4)), (8, .ref (A 5)), (9, .int 1), (10, .int (nI day)), (11, .int (nI i)), (15, .int (nI R)), (17, .int cn)]) hx hb d_law_490 hl (k := 15) rfl (nI_succ (p2)).symm (by decide) rfl (fun ls hl => ?_)
            refine lv_goto (tgt := 448) hx hb d_law_493 (by decide) ?_
            refine W.widen (k := k + 2 * (p2 + 1)) (n := q + 16 * (p2 + 1)) (by omega) (by omega) ?_
            exact ih (p2 + 1) (by omega) _ _ _ _ _ (gd + 0) ⟨hXf.trans hg3, hg2, (p_rnd_iv (by omega) (show 2 ≤ mm + 1 by omega) hXiv).mono (by omega), hXq.trans (by rw [h01])⟩ hG (lv_sub hl [2, 3, 4, 5, 6, 7, 8, 9, 10, 11, 12, 13, 14, 1, 15, 0] rfl)
          · skip
            have hr0 : r = 1 := hg1.trans h01
            rw [hr0]
            refine lv_if_eq (tgt := 486) hx hb d_law_479 (by decide) (fun z_ => absurd z_ ((by decide))) (fun c_479 => ?_)
            refine lv_iconst (v := 1) hx hb d_law_482 (by decide) ?_
            refine lv_goto (tgt := 487) hx hb d_law_483 (by decide) ?_
            refine lv_iadd hx hb d_law_487 ?_
            refine lv_istore (lv' := [(16, .int (gd + 1)), (0, .ref sb), (1, .ref o), (2, .int (nI n)), (3, .ref (A 0)), (4, .ref (A 1)), (5, .ref (A 2)), (6, .ref (A 3)), (7, .ref (A 4)), (8, .ref (A 5)), (9, .int 1), (10, .int (nI day)), (11, .int (nI i)), (15, .int (nI R)), (17, .int cn), (18, .int (nI p2))]) hx hb d_law_488 hl (by decide) rfl (fun ls hl => ?_)
            refine lv_iinc (v := nI (p2 + 1)) (lv' := [(18, .int (nI (p2 + 1))), (16, .int (gd + 1)), (0, .ref sb), (1, .ref o), (2, .int (nI n)), (3, .ref (A 0)), (4, .ref (A 1)), (5, .ref (A 2)), (6, .ref (A 3)), (7, .ref (A 4)), (8, .ref (A 5)), (9, .int 1), (10, .int (nI day)), (11, .int (nI i)), (15, .int (nI R)), (17, .int cn)]) hx hb d_law_490 hl (k := 15) rfl (nI_succ (p2)).symm (by decide) rfl (fun ls hl => ?_)
            refine lv_goto (tgt := 448) hx hb d_law_493 (by decide) ?_
            refine W.widen (k := k + 2 * (p2 + 1)) (n := q + 16 * (p2 + 1)) (by omega) (by omega) ?_
            exact ih (p2 + 1) (by omega) _ _ _ _ _ (gd + 1) ⟨hXf.trans hg3, hg2, (p_rnd_iv (by omega) (show 2 ≤ mm + 1 by omega) hXiv).mono (by omega), hXq.trans (by rw [h01])⟩ hG (lv_sub hl [2, 3, 4, 5, 6, 7, 8, 9, 10, 11, 12, 13, 14, 1, 15, 0] rfl)
    exact loopR _ _ (Nat.zero_add R) M _ _ _ S 0 ⟨gw_fr.rf, har, hiv, rfl⟩ hG (lv_sub hl [1, 2, 3, 4, 5, 6, 7, 8, 9, 10, 11, 12, 13, 14, 15, 0] rfl)
  refine lv_aload hx hb d_law_430 (lv_at hl 10 rfl) ?_
  refine lv_iconst (v := 0) hx hb d_law_432 (by decide) ?_
  refine gw_iald hx hb hK hG (h6.2.2.2.2.2) (vp_in_nI (n := 0) (by omega) (by decide)) d_law_433 ?_
  rw [show fg (0 : Int32).toNatClampNeg = nI S.1 from r5]
  refine lv_iconst (v := 1) hx hb d_law_434 (by decide) ?_
  refine lv_icmp_le (tgt := 442) hx hb d_law_435 (by decide) (fun c_435 => ?_) (fun c_435 => ?_)
  · skip
    have h21 : ¬ 2 ≤ S.1 := by have := (nI_leI (b := 1) (by omega) (by decide)).mp c_435; omega
    refine lv_iconst (v := 0) hx hb d_law_442 (by decide) ?_
    refine lv_istore (lv' := [(17, .int 0), (16, .int 0), (15, .int (nI R)), (0, .ref sb), (1, .ref o), (2, .int (nI n)), (3, .ref (A 0)), (4, .ref (A 1)), (5, .ref (A 2)), (6, .ref (A 3)), (7, .ref (A 4)), (8, .ref (A 5)), (9, .int 1), (10, .int (nI day)), (11, .int (nI i)), (13, .int (nI h)), (14, .int (nI x))]) hx hb d_law_443 hl (by decide) rfl (fun ls hl => ?_)
    exact K445 0 _ _ _ ⟨fun z => absurd z h21, fun _ => rfl⟩ hG (lv_sub hl [3, 4, 5, 6, 7, 8, 9, 10, 11, 12, 13, 14, 2, 1, 0] rfl)
  · skip
    have h21 : 2 ≤ S.1 := Nat.lt_of_not_le (fun z => c_435 ((nI_leI (b := 1) (by omega) (by decide)).mpr z))
    refine lv_iconst (v := 1) hx hb d_law_438 (by decide) ?_
    refine lv_goto (tgt := 443) hx hb d_law_439 (by decide) ?_
    refine lv_istore (lv' := [(17, .int 1), (16, .int 0), (15, .int (nI R)), (0, .ref sb), (1, .ref o), (2, .int (nI n)), (3, .ref (A 0)), (4, .ref (A 1)), (5, .ref (A 2)), (6, .ref (A 3)), (7, .ref (A 4)), (8, .ref (A 5)), (9, .int 1), (10, .int (nI day)), (11, .int (nI i)), (13, .int (nI h)), (14, .int (nI x))]) hx hb d_law_443 hl (by decide) rfl (fun ls hl => ?_)
    exact K445 1 _ _ _ ⟨fun _ => rfl, fun z => absurd h21 z⟩ hG (lv_sub hl [3, 4, 5, 6, 7, 8, 9, 10, 11, 12, 13, 14, 2, 1, 0] rfl)

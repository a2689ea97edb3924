theorem xd_La_law_453 : decode xb_La_law 453 = .ok (.iload 6, 2) := by decide +kernel
theorem xd_La_law_455 : decode xb_La_law 455 = .ok (.i2l, 1) := by decide +kernel
theorem xd_La_law_456 : decode xb_La_law 456 = .ok (.lcmp, 1) := by decide +kernel
theorem xd_La_law_457 : decode xb_La_law 457 = .ok (.ifCond .eq 5, 3) := by decide +kernel
theorem xd_La_law_465 : decode xb_La_law 465 = .ok (.aload_n 1, 1) := by decide +kernel
theorem xd_La_law_466 : decode xb_La_law 466 = .ok (.aload_n 0, 1) := by decide +kernel
theorem xd_La_law_467 : decode xb_La_law 467 = .ok (.iload 4, 2) := by decide +kernel
theorem xd_La_law_469 : decode xb_La_law 469 = .ok (.iconst 1, 1) := by decide +kernel
theorem xd_La_law_470 : decode xb_La_law 470 = .ok (.iadd, 1) := by decide +kernel
theorem xd_La_law_471 : decode xb_La_law 471 = .ok (.iaload, 1) := by decide +kernel
theorem xd_La_law_472 : decode xb_La_law 472 = .ok (.aload_n 0, 1) := by decide +kernel
theorem xd_La_law_473 : decode xb_La_law 473 = .ok (.iload 4, 2) := by decide +kernel
theorem xd_La_law_475 : decode xb_La_law 475 = .ok (.iconst 2, 1) := by decide +kernel
theorem xd_La_law_476 : decode xb_La_law 476 = .ok (.iadd, 1) := by decide +kernel
theorem xd_La_law_477 : decode xb_La_law 477 = .ok (.iaload, 1) := by decide +kernel
theorem xd_La_law_478 : decode xb_La_law 478 = .ok (.aload_n 0, 1) := by decide +kernel
theorem xd_La_law_479 : decode xb_La_law 479 = .ok (.iload 4, 2) := by decide +kernel
theorem xd_La_law_481 : decode xb_La_law 481 = .ok (.iconst 3, 1) := by decide +kernel
theorem xd_La_law_482 : decode xb_La_law 482 = .ok (.iadd, 1) := by decide +kernel
theorem xd_La_law_483 : decode xb_La_law 483 = .ok (.iaload, 1) := by decide +kernel
theorem xd_La_law_484 : decode xb_La_law 484 = .ok (.aload_n 0, 1) := by decide +kernel
theorem xd_La_law_485 : decode xb_La_law 485 = .ok (.iload 4, 2) := by decide +kernel
theorem xd_La_law_487 : decode xb_La_law 487 = .ok (.iconst 4, 1) := by decide +kernel
theorem xd_La_law_488 : decode xb_La_law 488 = .ok (.iadd, 1) := by decide +kernel
theorem xd_La_law_489 : decode xb_La_law 489 = .ok (.iaload, 1) := by decide +kernel
theorem xd_La_law_490 : decode xb_La_law 490 = .ok (.aload_n 3, 1) := by decide +kernel
theorem xd_La_law_491 : decode xb_La_law 491 = .ok (.invokestatic 86, 3) := by decide +kernel
theorem xd_La_law_494 : decode xb_La_law 494 = .ok (.istore 5, 2) := by decide +kernel
theorem xd_La_law_496 : decode xb_La_law 496 = .ok (.aload_n 2, 1) := by decide +kernel
theorem xd_La_law_497 : decode xb_La_law 497 = .ok (.aload_n 0, 1) := by decide +kernel
theorem xd_La_law_498 : decode xb_La_law 498 = .ok (.iload 4, 2) := by decide +kernel
theorem xd_La_law_500 : decode xb_La_law 500 = .ok (.iconst 1, 1) := by decide +kernel
theorem xd_La_law_501 : decode xb_La_law 501 = .ok (.iadd, 1) := by decide +kernel
theorem xd_La_law_502 : decode xb_La_law 502 = .ok (.iaload, 1) := by decide +kernel
theorem xd_La_law_503 : decode xb_La_law 503 = .ok (.aload_n 0, 1) := by decide +kernel
theorem xd_La_law_504 : decode xb_La_law 504 = .ok (.iload 4, 2) := by decide +kernel
theorem xd_La_law_506 : decode xb_La_law 506 = .ok (.iconst 2, 1) := by decide +kernel
theorem xd_La_law_507 : decode xb_La_law 507 = .ok (.iadd, 1) := by decide +kernel
theorem xd_La_law_508 : decode xb_La_law 508 = .ok (.iaload, 1) := by decide +kernel
theorem xd_La_law_509 : decode xb_La_law 509 = .ok (.aload_n 0, 1) := by decide +kernel
theorem xd_La_law_510 : decode xb_La_law 510 = .ok (.iload 4, 2) := by decide +kernel
theorem xd_La_law_512 : decode xb_La_law 512 = .ok (.iconst 3, 1) := by decide +kernel
theorem xd_La_law_513 : decode xb_La_law 513 = .ok (.iadd, 1) := by decide +kernel
theorem xd_La_law_514 : decode xb_La_law 514 = .ok (.iaload, 1) := by decide +kernel
theorem xd_La_law_515 : decode xb_La_law 515 = .ok (.aload_n 0, 1) := by decide +kernel
theorem xd_La_law_516 : decode xb_La_law 516 = .ok (.iload 4, 2) := by decide +kernel
theorem xd_La_law_518 : decode xb_La_law 518 = .ok (.iconst 4, 1) := by decide +kernel
theorem xd_La_law_519 : decode xb_La_law 519 = .ok (.iadd, 1) := by decide +kernel
theorem xd_La_law_520 : decode xb_La_law 520 = .ok (.iaload, 1) := by decide +kernel
theorem xd_La_law_521 : decode xb_La_law 521 = .ok (.invokevirtual 89, 3) := by decide +kernel
theorem xd_La_law_524 : decode xb_La_law 524 = .ok (.istore 6, 2) := by decide +kernel
theorem xd_La_law_526 : decode xb_La_law 526 = .ok (.goto 43, 3) := by decide +kernel
theorem xd_La_law_529 : decode xb_La_law 529 = .ok (.aload_n 1, 1) := by decide +kernel
theorem xd_La_law_530 : decode xb_La_law 530 = .ok (.aload_n 0, 1) := by decide +kernel
theorem xd_La_law_531 : decode xb_La_law 531 = .ok (.iload 4, 2) := by decide +kernel
theorem xd_La_law_533 : decode xb_La_law 533 = .ok (.iconst 1, 1) := by decide +kernel
theorem xd_La_law_534 : decode xb_La_law 534 = .ok (.iadd, 1) := by decide +kernel
theorem xd_La_law_535 : decode xb_La_law 535 = .ok (.iaload, 1) := by decide +kernel
theorem xd_La_law_536 : decode xb_La_law 536 = .ok (.aload_n 0, 1) := by decide +kernel
theorem xd_La_law_537 : decode xb_La_law 537 = .ok (.iload 4, 2) := by decide +kernel
theorem xd_La_law_539 : decode xb_La_law 539 = .ok (.iconst 2, 1) := by decide +kernel
theorem xd_La_law_540 : decode xb_La_law 540 = .ok (.iadd, 1) := by decide +kernel
theorem xd_La_law_541 : decode xb_La_law 541 = .ok (.iaload, 1) := by decide +kernel
theorem xd_La_law_542 : decode xb_La_law 542 = .ok (.aload_n 3, 1) := by decide +kernel
theorem xd_La_law_543 : decode xb_La_law 543 = .ok (.invokestatic 90, 3) := by decide +kernel
theorem xd_La_law_546 : decode xb_La_law 546 = .ok (.istore 5, 2) := by decide +kernel
theorem xd_La_law_548 : decode xb_La_law 548 = .ok (.aload_n 2, 1) := by decide +kernel
theorem xd_La_law_549 : decode xb_La_law 549 = .ok (.aload_n 0, 1) := by decide +kernel
theorem xd_La_law_550 : decode xb_La_law 550 = .ok (.iload 4, 2) := by decide +kernel
theorem xd_La_law_552 : decode xb_La_law 552 = .ok (.iconst 1, 1) := by decide +kernel
theorem xd_La_law_553 : decode xb_La_law 553 = .ok (.iadd, 1) := by decide +kernel
theorem xd_La_law_554 : decode xb_La_law 554 = .ok (.iaload, 1) := by decide +kernel
theorem xd_La_law_555 : decode xb_La_law 555 = .ok (.aload_n 0, 1) := by decide +kernel
theorem xd_La_law_556 : decode xb_La_law 556 = .ok (.iload 4, 2) := by decide +kernel
theorem xd_La_law_558 : decode xb_La_law 558 = .ok (.iconst 2, 1) := by decide +kernel
theorem xd_La_law_559 : decode xb_La_law 559 = .ok (.iadd, 1) := by decide +kernel
theorem xd_La_law_560 : decode xb_La_law 560 = .ok (.iaload, 1) := by decide +kernel
theorem xd_La_law_561 : decode xb_La_law 561 = .ok (.invokevirtual 92, 3) := by decide +kernel
theorem xd_La_law_564 : decode xb_La_law 564 = .ok (.istore 6, 2) := by decide +kernel
theorem xd_La_law_566 : decode xb_La_law 566 = .ok (.goto 3, 3) := by decide +kernel
theorem k6g_0 : (Cond.code xy_De_write xb_De_write 2 (some .boolean)) ∈ wT := wT_t (List.mem_append_left _ (List.mem_of_getElem? (i := 121) rfl)) rfl
theorem k6g_1 : (Cond.methodLink "LayerDeskLaw" 38 xy_De_write) ∈ wT := wT_t (List.mem_append_left _ (List.mem_of_getElem? (i := 118) rfl)) rfl
theorem k6g_2 : (Cond.instanceMethod xy_De_write) ∈ wT := wT_t (List.mem_append_left _ (List.mem_of_getElem? (i := 119) rfl)) rfl
theorem k6g_3 : (Cond.selects "LayerDesk" xy_De_write xy_De_write) ∈ wT := wT_t (List.mem_append_left _ (List.mem_of_getElem? (i := 120) rfl)) rfl
theorem k6g_4 : (Cond.initialized "LayerDesk") ∈ wT := wT_t (List.mem_append_left _ (List.mem_of_getElem? (i := 1) rfl)) rfl
theorem k6g_5 : (Cond.code xy_Mo_write xb_Mo_write 2 (some .boolean)) ∈ wT := wT_t (List.mem_append_right _ (List.mem_append_right _ (List.mem_append_right _ (List.mem_append_left _ (List.mem_of_getElem? (i := 185) rfl))))) rfl
theorem k6g_6 : (Cond.methodLink "LayerDeskLaw" 42 xy_Mo_write) ∈ wT := wT_t (List.mem_append_right _ (List.mem_append_right _ (List.mem_append_right _ (List.mem_append_left _ (List.mem_of_getElem? (i := 182) rfl))))) rfl
theorem k6g_7 : (Cond.instanceMethod xy_Mo_write) ∈ wT := wT_t (List.mem_append_right _ (List.mem_append_right _ (List.mem_append_right _ (List.mem_append_left _ (List.mem_of_getElem? (i := 183) rfl))))) rfl
theorem k6g_8 : (Cond.selects "LayerDeskModel" xy_Mo_write xy_Mo_write) ∈ wT := wT_t (List.mem_append_right _ (List.mem_append_right _ (List.mem_append_right _ (List.mem_append_left _ (List.mem_of_getElem? (i := 184) rfl))))) rfl
theorem k6g_9 : (Cond.initialized "LayerDeskModel") ∈ wT := wT_t (List.mem_append_left _ (List.mem_of_getElem? (i := 5) rfl)) rfl
theorem k6g_10 : (Cond.codeWith xy_La_line xb_La_line 3 (some .int) [(0, 8, 11, 13), (0, 8, 14, 15)]) ∈ wT := wT_t (List.mem_append_left _ (List.mem_of_getElem? (i := 180) rfl)) rfl
theorem k6g_11 : (Cond.methodLink "LayerDeskLaw" 43 xy_La_line) ∈ wT := wT_t (List.mem_append_left _ (List.mem_of_getElem? (i := 178) rfl)) rfl
theorem k6g_12 : (Cond.static xy_La_line) ∈ wT := wT_t (List.mem_append_left _ (List.mem_of_getElem? (i := 179) rfl)) rfl
theorem k6g_13 : (Cond.initialized "LayerDeskLaw") ∈ wT := wT_t (List.mem_append_left _ (List.mem_of_getElem? (i := 0) rfl)) rfl
theorem k6g_14 : (Cond.code xy_Mo_line xb_Mo_line 2 (some .int)) ∈ wT := wT_t (List.mem_append_right _ (List.mem_append_right _ (List.mem_append_right _ (List.mem_append_left _ (List.mem_of_getElem? (i := 189) rfl))))) rfl
theorem k6g_15 : (Cond.methodLink "LayerDeskLaw" 48 xy_Mo_line) ∈ wT := wT_t (List.mem_append_right _ (List.mem_append_right _ (List.mem_append_right _ (List.mem_append_left _ (List.mem_of_getElem? (i := 186) rfl))))) rfl
theorem k6g_16 : (Cond.instanceMethod xy_Mo_line) ∈ wT := wT_t (List.mem_append_right _ (List.mem_append_right _ (List.mem_append_right _ (List.mem_append_left _ (List.mem_of_getElem? (i := 187) rfl))))) rfl
theorem k6g_17 : (Cond.selects "LayerDeskModel" xy_Mo_line xy_Mo_line) ∈ wT := wT_t (List.mem_append_right _ (List.mem_append_right _ (List.mem_append_right _ (List.mem_append_left _ (List.mem_of_getElem? (i := 188) rfl))))) rfl
theorem k6g_18 : (Cond.codeWith xy_La_layer xb_La_layer 6 (some .int) [(0, 12, 15, 13), (0, 12, 19, 21), (0, 12, 23, 15)]) ∈ wT := wT_t (List.mem_append_right _ (List.mem_append_right _ (List.mem_append_left _ (List.mem_of_getElem? (i := 50) rfl)))) rfl
theorem k6g_19 : (Cond.methodLink "LayerDeskLaw" 49 xy_La_layer) ∈ wT := wT_t (List.mem_append_right _ (List.mem_append_right _ (List.mem_append_left _ (List.mem_of_getElem? (i := 48) rfl)))) rfl
theorem k6g_20 : (Cond.static xy_La_layer) ∈ wT := wT_t (List.mem_append_right _ (List.mem_append_right _ (List.mem_append_left _ (List.mem_of_getElem? (i := 49) rfl)))) rfl
theorem k6g_21 : (Cond.code xy_Mo_layer xb_Mo_layer 7 (some .int)) ∈ wT := wT_t (List.mem_append_right _ (List.mem_append_right _ (List.mem_append_right _ (List.mem_append_right _ (List.mem_of_getElem? (i := 8) rfl))))) rfl
theorem k6g_22 : (Cond.methodLink "LayerDeskLaw" 52 xy_Mo_layer) ∈ wT := wT_t (List.mem_append_right _ (List.mem_append_right _ (List.mem_append_right _ (List.mem_append_right _ (List.mem_of_getElem? (i := 5) rfl))))) rfl
theorem k6g_23 : (Cond.instanceMethod xy_Mo_layer) ∈ wT := wT_t (List.mem_append_right _ (List.mem_append_right _ (List.mem_append_right _ (List.mem_append_right _ (List.mem_of_getElem? (i := 6) rfl))))) rfl
theorem k6g_24 : (Cond.selects "LayerDeskModel" xy_Mo_layer xy_Mo_layer) ∈ wT := wT_t (List.mem_append_right _ (List.mem_append_right _ (List.mem_append_right _ (List.mem_append_right _ (List.mem_of_getElem? (i := 7) rfl))))) rfl
theorem k6g_25 : (Cond.code xy_De_fault xb_De_fault 1 (some .int)) ∈ wT := wT_t (List.mem_append_left _ (List.mem_of_getElem? (i := 129) rfl)) rfl
theorem k6g_26 : (Cond.methodLink "LayerDeskLaw" 53 xy_De_fault) ∈ wT := wT_t (List.mem_append_left _ (List.mem_of_getElem? (i := 126) rfl)) rfl
theorem k6g_27 : (Cond.instanceMethod xy_De_fault) ∈ wT := wT_t (List.mem_append_left _ (List.mem_of_getElem? (i := 127) rfl)) rfl
theorem k6g_28 : (Cond.selects "LayerDesk" xy_De_fault xy_De_fault) ∈ wT := wT_t (List.mem_append_left _ (List.mem_of_getElem? (i := 128) rfl)) rfl
theorem k6g_29 : (Cond.code xy_Mo_fault xb_Mo_fault 1 (some .int)) ∈ wT := wT_t (List.mem_append_right _ (List.mem_append_right _ (List.mem_append_right _ (List.mem_append_right _ (List.mem_of_getElem? (i := 64) rfl))))) rfl
theorem k6g_30 : (Cond.methodLink "LayerDeskLaw" 56 xy_Mo_fault) ∈ wT := wT_t (List.mem_append_right _ (List.mem_append_right _ (List.mem_append_right _ (List.mem_append_right _ (List.mem_of_getElem? (i := 61) rfl))))) rfl
theorem k6g_31 : (Cond.instanceMethod xy_Mo_fault) ∈ wT := wT_t (List.mem_append_right _ (List.mem_append_right _ (List.mem_append_right _ (List.mem_append_right _ (List.mem_of_getElem? (i := 62) rfl))))) rfl
theorem k6g_32 : (Cond.selects "LayerDeskModel" xy_Mo_fault xy_Mo_fault) ∈ wT := wT_t (List.mem_append_right _ (List.mem_append_right _ (List.mem_append_right _ (List.mem_append_right _ (List.mem_of_getElem? (i := 63) rfl))))) rfl
theorem k6g_33 : (Cond.code xy_De_close xb_De_close 3 (some .boolean)) ∈ wT := wT_t (List.mem_append_left _ (List.mem_of_getElem? (i := 133) rfl)) rfl
theorem k6g_34 : (Cond.methodLink "LayerDeskLaw" 57 xy_De_close) ∈ wT := wT_t (List.mem_append_left _ (List.mem_of_getElem? (i := 130) rfl)) rfl
theorem k6g_35 : (Cond.instanceMethod xy_De_close) ∈ wT := wT_t (List.mem_append_left _ (List.mem_of_getElem? (i := 131) rfl)) rfl
theorem k6g_36 : (Cond.selects "LayerDesk" xy_De_close xy_De_close) ∈ wT := wT_t (List.mem_append_left _ (List.mem_of_getElem? (i := 132) rfl)) rfl
theorem k6g_37 : (Cond.code xy_Mo_close xb_Mo_close 3 (some .boolean)) ∈ wT := wT_t (List.mem_append_right _ (List.mem_append_right _ (List.mem_append_right _ (List.mem_append_right _ (List.mem_of_getElem? (i := 68) rfl))))) rfl
theorem k6g_38 : (Cond.methodLink "LayerDeskLaw" 61 xy_Mo_close) ∈ wT := wT_t (List.mem_append_right _ (List.mem_append_right _ (List.mem_append_right _ (List.mem_append_right _ (List.mem_of_getElem? (i := 65) rfl))))) rfl
theorem k6g_39 : (Cond.instanceMethod xy_Mo_close) ∈ wT := wT_t (List.mem_append_right _ (List.mem_append_right _ (List.mem_append_right _ (List.mem_append_right _ (List.mem_of_getElem? (i := 66) rfl))))) rfl
theorem k6g_40 : (Cond.selects "LayerDeskModel" xy_Mo_close xy_Mo_close) ∈ wT := wT_t (List.mem_append_right _ (List.mem_append_right _ (List.mem_append_right _ (List.mem_append_right _ (List.mem_of_getElem? (i := 67) rfl))))) rfl
theorem k6g_41 : (Cond.code xy_De_count xb_De_count 2 (some .int)) ∈ wT := wT_t (List.mem_append_left _ (List.mem_of_getElem? (i := 145) rfl)) rfl
theorem k6g_42 : (Cond.methodLink "LayerDeskLaw" 62 xy_De_count) ∈ wT := wT_t (List.mem_append_left _ (List.mem_of_getElem? (i := 142) rfl)) rfl
theorem k6g_43 : (Cond.instanceMethod xy_De_count) ∈ wT := wT_t (List.mem_append_left _ (List.mem_of_getElem? (i := 143) rfl)) rfl
theorem k6g_44 : (Cond.selects "LayerDesk" xy_De_count xy_De_count) ∈ wT := wT_t (List.mem_append_left _ (List.mem_of_getElem? (i := 144) rfl)) rfl
theorem k6g_45 : (Cond.code xy_Mo_count xb_Mo_count 4 (some .int)) ∈ wT := wT_t (List.mem_append_right _ (List.mem_append_right _ (List.mem_append_right _ (List.mem_append_right _ (List.mem_of_getElem? (i := 72) rfl))))) rfl
theorem k6g_46 : (Cond.methodLink "LayerDeskLaw" 66 xy_Mo_count) ∈ wT := wT_t (List.mem_append_right _ (List.mem_append_right _ (List.mem_append_right _ (List.mem_append_right _ (List.mem_of_getElem? (i := 69) rfl))))) rfl
theorem k6g_47 : (Cond.instanceMethod xy_Mo_count) ∈ wT := wT_t (List.mem_append_right _ (List.mem_append_right _ (List.mem_append_right _ (List.mem_append_right _ (List.mem_of_getElem? (i := 70) rfl))))) rfl
theorem k6g_48 : (Cond.selects "LayerDeskModel" xy_Mo_count xy_Mo_count) ∈ wT := wT_t (List.mem_append_right _ (List.mem_append_right _ (List.mem_append_right _ (List.mem_append_right _ (List.mem_of_getElem? (i := 71) rfl))))) rfl
theorem k6g_49 : (Cond.code xy_De_modules xb_De_modules 3 (some .int)) ∈ wT := wT_t (List.mem_append_left _ (List.mem_of_getElem? (i := 153) rfl)) rfl
theorem k6g_50 : (Cond.methodLink "LayerDeskLaw" 67 xy_De_modules) ∈ wT := wT_t (List.mem_append_left _ (List.mem_of_getElem? (i := 150) rfl)) rfl
theorem k6g_51 : (Cond.instanceMethod xy_De_modules) ∈ wT := wT_t (List.mem_append_left _ (List.mem_of_getElem? (i := 151) rfl)) rfl
theorem k6g_52 : (Cond.selects "LayerDesk" xy_De_modules xy_De_modules) ∈ wT := wT_t (List.mem_append_left _ (List.mem_of_getElem? (i := 152) rfl)) rfl
theorem k6g_53 : (Cond.code xy_Mo_modules xb_Mo_modules 2 (some .int)) ∈ wT := wT_t (List.mem_append_right _ (List.mem_append_right _ (List.mem_append_right _ (List.mem_append_right _ (List.mem_of_getElem? (i := 76) rfl))))) rfl
theorem k6g_54 : (Cond.methodLink "LayerDeskLaw" 70 xy_Mo_modules) ∈ wT := wT_t (List.mem_append_right _ (List.mem_append_right _ (List.mem_append_right _ (List.mem_append_right _ (List.mem_of_getElem? (i := 73) rfl))))) rfl
theorem k6g_55 : (Cond.instanceMethod xy_Mo_modules) ∈ wT := wT_t (List.mem_append_right _ (List.mem_append_right _ (List.mem_append_right _ (List.mem_append_right _ (List.mem_of_getElem? (i := 74) rfl))))) rfl
theorem k6g_56 : (Cond.selects "LayerDeskModel" xy_Mo_modules xy_Mo_modules) ∈ wT := wT_t (List.mem_append_right _ (List.mem_append_right _ (List.mem_append_right _ (List.mem_append_right _ (List.mem_of_getElem? (i := 75) rfl))))) rfl
theorem k6g_57 : (Cond.code xy_De_module xb_De_module 4 (some .int)) ∈ wT := wT_t (List.mem_append_left _ (List.mem_of_getElem? (i := 157) rfl)) rfl
theorem k6g_58 : (Cond.methodLink "LayerDeskLaw" 71 xy_De_module) ∈ wT := wT_t (List.mem_append_left _ (List.mem_of_getElem? (i := 154) rfl)) rfl
theorem k6g_59 : (Cond.instanceMethod xy_De_module) ∈ wT := wT_t (List.mem_append_left _ (List.mem_of_getElem? (i := 155) rfl)) rfl
theorem k6g_60 : (Cond.selects "LayerDesk" xy_De_module xy_De_module) ∈ wT := wT_t (List.mem_append_left _ (List.mem_of_getElem? (i := 156) rfl)) rfl
theorem k6g_61 : (Cond.code xy_Mo_module xb_Mo_module 3 (some .int)) ∈ wT := wT_t (List.mem_append_right _ (List.mem_append_right _ (List.mem_append_right _ (List.mem_append_right _ (List.mem_of_getElem? (i := 80) rfl))))) rfl
theorem k6g_62 : (Cond.methodLink "LayerDeskLaw" 74 xy_Mo_module) ∈ wT := wT_t (List.mem_append_right _ (List.mem_append_right _ (List.mem_append_right _ (List.mem_append_right _ (List.mem_of_getElem? (i := 77) rfl))))) rfl
theorem k6g_63 : (Cond.instanceMethod xy_Mo_module) ∈ wT := wT_t (List.mem_append_right _ (List.mem_append_right _ (List.mem_append_right _ (List.mem_append_right _ (List.mem_of_getElem? (i := 78) rfl))))) rfl
theorem k6g_64 : (Cond.selects "LayerDeskModel" xy_Mo_module xy_Mo_module) ∈ wT := wT_t (List.mem_append_right _ (List.mem_append_right _ (List.mem_append_right _ (List.mem_append_right _ (List.mem_of_getElem? (i := 79) rfl))))) rfl
theorem k6g_65 : (Cond.code xy_De_reads xb_De_reads 7 (some .boolean)) ∈ wT := wT_t (List.mem_append_left _ (List.mem_of_getElem? (i := 165) rfl)) rfl
theorem k6g_66 : (Cond.methodLink "LayerDeskLaw" 75 xy_De_reads) ∈ wT := wT_t (List.mem_append_left _ (List.mem_of_getElem? (i := 162) rfl)) rfl
theorem k6g_67 : (Cond.instanceMethod xy_De_reads) ∈ wT := wT_t (List.mem_append_left _ (List.mem_of_getElem? (i := 163) rfl)) rfl
theorem k6g_68 : (Cond.selects "LayerDesk" xy_De_reads xy_De_reads) ∈ wT := wT_t (List.mem_append_left _ (List.mem_of_getElem? (i := 164) rfl)) rfl
theorem k6g_69 : (Cond.code xy_Mo_reads xb_Mo_reads 6 (some .boolean)) ∈ wT := wT_t (List.mem_append_right _ (List.mem_append_right _ (List.mem_append_right _ (List.mem_append_right _ (List.mem_of_getElem? (i := 88) rfl))))) rfl
theorem k6g_70 : (Cond.methodLink "LayerDeskLaw" 78 xy_Mo_reads) ∈ wT := wT_t (List.mem_append_right _ (List.mem_append_right _ (List.mem_append_right _ (List.mem_append_right _ (List.mem_of_getElem? (i := 85) rfl))))) rfl
theorem k6g_71 : (Cond.instanceMethod xy_Mo_reads) ∈ wT := wT_t (List.mem_append_right _ (List.mem_append_right _ (List.mem_append_right _ (List.mem_append_right _ (List.mem_of_getElem? (i := 86) rfl))))) rfl
theorem k6g_72 : (Cond.selects "LayerDeskModel" xy_Mo_reads xy_Mo_reads) ∈ wT := wT_t (List.mem_append_right _ (List.mem_append_right _ (List.mem_append_right _ (List.mem_append_right _ (List.mem_of_getElem? (i := 87) rfl))))) rfl
theorem k6g_73 : (Cond.codeWith xy_La_load xb_La_load 5 (some .int) [(0, 10, 13, 13), (0, 10, 17, 21)]) ∈ wT := wT_t (List.mem_append_right _ (List.mem_append_right _ (List.mem_append_right _ (List.mem_append_left _ (List.mem_of_getElem? (i := 34) rfl))))) rfl
theorem k6g_74 : (Cond.methodLink "LayerDeskLaw" 79 xy_La_load) ∈ wT := wT_t (List.mem_append_right _ (List.mem_append_right _ (List.mem_append_right _ (List.mem_append_left _ (List.mem_of_getElem? (i := 32) rfl))))) rfl
theorem k6g_75 : (Cond.static xy_La_load) ∈ wT := wT_t (List.mem_append_right _ (List.mem_append_right _ (List.mem_append_right _ (List.mem_append_left _ (List.mem_of_getElem? (i := 33) rfl))))) rfl
theorem k6g_76 : (Cond.code xy_Mo_load xb_Mo_load 7 (some .int)) ∈ wT := wT_t (List.mem_append_right _ (List.mem_append_right _ (List.mem_append_right _ (List.mem_append_right _ (List.mem_of_getElem? (i := 96) rfl))))) rfl
theorem k6g_77 : (Cond.methodLink "LayerDeskLaw" 82 xy_Mo_load) ∈ wT := wT_t (List.mem_append_right _ (List.mem_append_right _ (List.mem_append_right _ (List.mem_append_right _ (List.mem_of_getElem? (i := 93) rfl))))) rfl
theorem k6g_78 : (Cond.instanceMethod xy_Mo_load) ∈ wT := wT_t (List.mem_append_right _ (List.mem_append_right _ (List.mem_append_right _ (List.mem_append_right _ (List.mem_of_getElem? (i := 94) rfl))))) rfl
theorem k6g_79 : (Cond.selects "LayerDeskModel" xy_Mo_load xy_Mo_load) ∈ wT := wT_t (List.mem_append_right _ (List.mem_append_right _ (List.mem_append_right _ (List.mem_append_right _ (List.mem_of_getElem? (i := 95) rfl))))) rfl
theorem k6g_80 : (Cond.code xy_Mo_thrown xb_Mo_thrown 1 (some .int)) ∈ wT := wT_t (List.mem_append_right _ (List.mem_append_right _ (List.mem_append_right _ (List.mem_append_left _ (List.mem_of_getElem? (i := 181) rfl))))) rfl
theorem k6g_81 : (Cond.methodLink "LayerDeskLaw" 83 xy_Mo_thrown) ∈ wT := wT_t (List.mem_append_right _ (List.mem_append_right _ (List.mem_append_right _ (List.mem_append_left _ (List.mem_of_getElem? (i := 178) rfl))))) rfl
theorem k6g_82 : (Cond.instanceMethod xy_Mo_thrown) ∈ wT := wT_t (List.mem_append_right _ (List.mem_append_right _ (List.mem_append_right _ (List.mem_append_left _ (List.mem_of_getElem? (i := 179) rfl))))) rfl
theorem k6g_83 : (Cond.selects "LayerDeskModel" xy_Mo_thrown xy_Mo_thrown) ∈ wT := wT_t (List.mem_append_right _ (List.mem_append_right _ (List.mem_append_right _ (List.mem_append_left _ (List.mem_of_getElem? (i := 180) rfl))))) rfl
theorem k6g_84 : (Cond.codeWith xy_La_peek xb_La_peek 7 (some .int) [(0, 21, 24, 13), (0, 21, 28, 21)]) ∈ wT := wT_t (List.mem_append_right _ (List.mem_append_right _ (List.mem_append_right _ (List.mem_append_left _ (List.mem_of_getElem? (i := 55) rfl))))) rfl
theorem k6g_85 : (Cond.methodLink "LayerDeskLaw" 86 xy_La_peek) ∈ wT := wT_t (List.mem_append_right _ (List.mem_append_right _ (List.mem_append_right _ (List.mem_append_left _ (List.mem_of_getElem? (i := 53) rfl))))) rfl
theorem k6g_86 : (Cond.static xy_La_peek) ∈ wT := wT_t (List.mem_append_right _ (List.mem_append_right _ (List.mem_append_right _ (List.mem_append_left _ (List.mem_of_getElem? (i := 54) rfl))))) rfl
theorem k6g_87 : (Cond.code xy_Mo_peek xb_Mo_peek 8 (some .boolean)) ∈ wT := wT_t (List.mem_append_right _ (List.mem_append_right _ (List.mem_append_right _ (List.mem_append_right _ (List.mem_of_getElem? (i := 104) rfl))))) rfl
theorem k6g_88 : (Cond.methodLink "LayerDeskLaw" 89 xy_Mo_peek) ∈ wT := wT_t (List.mem_append_right _ (List.mem_append_right _ (List.mem_append_right _ (List.mem_append_right _ (List.mem_of_getElem? (i := 101) rfl))))) rfl
theorem k6g_89 : (Cond.instanceMethod xy_Mo_peek) ∈ wT := wT_t (List.mem_append_right _ (List.mem_append_right _ (List.mem_append_right _ (List.mem_append_right _ (List.mem_of_getElem? (i := 102) rfl))))) rfl
theorem k6g_90 : (Cond.selects "LayerDeskModel" xy_Mo_peek xy_Mo_peek) ∈ wT := wT_t (List.mem_append_right _ (List.mem_append_right _ (List.mem_append_right _ (List.mem_append_right _ (List.mem_of_getElem? (i := 103) rfl))))) rfl
theorem k6g_91 : (Cond.codeWith xy_La_provider xb_La_provider 5 (some .int) [(0, 10, 13, 13)]) ∈ wT := wT_t (List.mem_append_right _ (List.mem_append_right _ (List.mem_append_right _ (List.mem_append_left _ (List.mem_of_getElem? (i := 67) rfl))))) rfl
theorem k6g_92 : (Cond.methodLink "LayerDeskLaw" 90 xy_La_provider) ∈ wT := wT_t (List.mem_append_right _ (List.mem_append_right _ (List.mem_append_right _ (List.mem_append_left _ (List.mem_of_getElem? (i := 65) rfl))))) rfl
theorem k6g_93 : (Cond.static xy_La_provider) ∈ wT := wT_t (List.mem_append_right _ (List.mem_append_right _ (List.mem_append_right _ (List.mem_append_left _ (List.mem_of_getElem? (i := 66) rfl))))) rfl
theorem k6g_94 : (Cond.code xy_Mo_provider xb_Mo_provider 9 (some .int)) ∈ wT := wT_t (List.mem_append_right _ (List.mem_append_right _ (List.mem_append_right _ (List.mem_append_right _ (List.mem_of_getElem? (i := 108) rfl))))) rfl
theorem k6g_95 : (Cond.methodLink "LayerDeskLaw" 92 xy_Mo_provider) ∈ wT := wT_t (List.mem_append_right _ (List.mem_append_right _ (List.mem_append_right _ (List.mem_append_right _ (List.mem_of_getElem? (i := 105) rfl))))) rfl
theorem k6g_96 : (Cond.instanceMethod xy_Mo_provider) ∈ wT := wT_t (List.mem_append_right _ (List.mem_append_right _ (List.mem_append_right _ (List.mem_append_right _ (List.mem_of_getElem? (i := 106) rfl))))) rfl
theorem k6g_97 : (Cond.selects "LayerDeskModel" xy_Mo_provider xy_Mo_provider) ∈ wT := wT_t (List.mem_append_right _ (List.mem_append_right _ (List.mem_append_right _ (List.mem_append_right _ (List.mem_of_getElem? (i := 107) rfl))))) rfl
set_option maxHeartbeats 16000000 in
set_option maxRecDepth 100000 in
theorem x_loop {p : Program} {e : Env} {s : State} {m : MethodId} {below : List Frame} {meth : Method} {c : Code} (l : Launch) (hlt : l.stackTraces = false) {b0 L : Nat} {xs : Nat → Int32} (hL : L ≤ 2560) (hx : p.tables.exec = Jvm.exec) (hb : c.code = code) (hr : meth.sig.returnType = ret) (hml : c.maxLocals = 7) (hown : s.vm.findClass R_law = some m.cls) (hT : ∀ w ∈ wT, w.before #[Value.ref b0] s = true) (hX : va_X b0 L xs s s.heap) (hbl : b0 < s.heap.size) (hlocks : meth.locks = false) {D : va_G} {kA : Nat → ClassId} (hK : xK D kA s) {Z : zT} {A : Nat → Prop} (hZ : xZ Z A s s.heap) (hAe : A = fun z => s.heap.size ≤ z) (hA : ∀ z : Nat, s.heap.size ≤ z → A z) (hbA : ¬ A b0) {hm ob : Nat} {mm : Nat → Nat} {ad : Nat → Nat → Nat} {E : Nat → Nat → va_E} {RL : List (Nat × Nat)} {v : Nat → Int32} {g : Nat → Nat → Int32} {fo : Nat → Int64} {ls : Array Slot} {H : Heap} {locs : List Loc} (hl : lv_has ls 7 [(4, .int 0), (3, .ref ob), (2, .ref hm), (1, .ref (ad 0 0)), (0, .ref b0)]) (hP : va_P D xcl ((moW hm mm kA v g ++ [(ob, .inl (kA 3, 1, .inr (.inl fo)))]) ++ rp ad E RL) H) (hD : va_D A ((moW hm mm kA v g ++ [(ob, .inl (kA 3, 1, .inr (.inl fo)))]) ++ rp ad E RL)) (hS : va_S A s.heap H locs) (hCI : CI kA ad E RL 0 0 0 0 0) (hMI : MI v g) (hv2 : v 2 = nI 0) (hv4 : v 4 = nI 0) (hv5 : v 5 = nI 0) (hv1 : v 1 = eI (E 0 0) 5) (hXT : XT g ad E 0 0 0) (hNS : NSs g 0) : W p l e room_1 s m #[Value.ref b0] below meth c H locs (40 + 110 * 0) (2000 + 600 * 0) (lw_Z below #[Value.ref b0] s) (F0 m 23 ls []) := by
  refine xlabC (σ := Nat × Nat × (Nat → Nat → Nat) × (Nat → Nat → va_E) × (List (Nat × Nat)) × (Nat → Int32) × (Nat → Nat → Int32) × (Nat → Int64) × Nat × Nat × Nat × Nat × Nat) (ml := 7) 23 (fun (i, k, ad, E, RL, v, g, fo, ml, nd, len, wn, cs) => [(4, .int (nI i)), (3, .ref ob), (2, .ref hm), (1, .ref (ad 0 0)), (0, .ref b0)]) (fun (i, k, ad, E, RL, v, g, fo, ml, nd, len, wn, cs) => []) (fun (i, k, ad, E, RL, v, g, fo, ml, nd, len, wn, cs) => (moW hm mm kA v g ++ [(ob, .inl (kA 3, 1, .inr (.inl fo)))]) ++ rp ad E RL) (fun (i, k, ad, E, RL, v, g, fo, ml, nd, len, wn, cs) => 40 + 110 * k) (fun (i, k, ad, E, RL, v, g, fo, ml, nd, len, wn, cs) => 2000 + 600 * k) (fun (i, k, ad, E, RL, v, g, fo, ml, nd, len, wn, cs) => (i = 5 * k) ∧ (i ≤ L ∨ i = 0) ∧ (CI kA ad E RL ml nd len wn cs) ∧ (MI v g) ∧ (v 2 = nI len) ∧ (v 4 = nI nd) ∧ (v 5 = nI ml) ∧ (v 1 = eI (E 0 0) 5) ∧ (XT g ad E nd ml len) ∧ (NSs g ml)) (fun (i, k, ad, E, RL, v, g, fo, ml, nd, len, wn, cs) => 600 - k) ?_ (0, 0, ad, E, RL, v, g, fo, 0, 0, 0, 0, 0) _ _ _ (lv_sub hl [0, 1, 2, 3, 4] rfl) hP hD hS ⟨(show 0 = 5 * 0 from by first | assumption | omega), (show 0 ≤ L ∨ 0 = 0 from by first | assumption | omega), (show CI kA ad E RL 0 0 0 0 0 from hCI), (show MI v g from hMI), (show v 2 = nI 0 from hv2), (show v 4 = nI 0 from hv4), (show v 5 = nI 0 from hv5), (show v 1 = eI (E 0 0) 5 from hv1), (show XT g ad E 0 0 0 from hXT), (show NSs g 0 from hNS)⟩
  intro n9 ih1 a9 ls H locs hμ hl hP hD hS hI
  subst hμ
  obtain ⟨i, k, ad, E, RL, v, g, fo, ml, nd, len, wn, cs⟩ := a9
  obtain ⟨hik, hiL, hCI, hMI, hv2, hv4, hv5, hv1, hXT, hNS⟩ := hI
  have hik : i = 5 * k := hik
  have hiL : i ≤ L ∨ i = 0 := hiL
  have hCI : CI kA ad E RL ml nd len wn cs := hCI
  have hMI : MI v g := hMI
  have hv2 : v 2 = nI len := hv2
  have hv4 : v 4 = nI nd := hv4
  have hv5 : v 5 = nI ml := hv5
  have hv1 : v 1 = eI (E 0 0) 5 := hv1
  have hXT : XT g ad E nd ml len := hXT
  have hNS : NSs g ml := hNS
  have hl : lv_has ls 7 [(4, .int (nI i)), (3, .ref ob), (2, .ref hm), (1, .ref (ad 0 0)), (0, .ref b0)] := hl
  have hP : va_P D xcl ((moW hm mm kA v g ++ [(ob, .inl (kA 3, 1, .inr (.inl fo)))]) ++ rp ad E RL) H := hP
  have hD : va_D A ((moW hm mm kA v g ++ [(ob, .inl (kA 3, 1, .inr (.inl fo)))]) ++ rp ad E RL) := hD
  obtain ⟨hl40, hnd12, hml5, _, _⟩ := CI_b hCI
  refine lv_iload hx hb xd_La_law_23 (lv_at hl 0 rfl) ?_
  refine lv_aload_n hx hb xd_La_law_25 rfl (lv_at hl 4 rfl) ?_
  refine va_slen hx hb hX hbl hbA hS xd_La_law_26 ?_
  refine W.eq (g2 := F0 m 27 ls [.int (nI L), .int (nI i)]) rfl ?_
  refine lv_iconst (v := 5) hx hb xd_La_law_27 (by decide) ?_
  refine lv_isub hx hb xd_La_law_28 ?_
  refine lv_icmp_gt (tgt := 575) hx hb xd_La_law_29 (by decide) (fun hc2 => ?_) (fun hc2 => ?_)
  · refine lv_iconst (v := 1) hx hb xd_La_law_575 (by decide) ?_
    refine va_forget (fun z hz => by have h := hS.2.2 z hz; rw [hAe] at h; exact h) ?_
    refine W.widen (k := 601024) (n := 7293034) (show 40 + 110 * k ≤ 601024 by omega) (show 2000 + 600 * k ≤ 7293034 by omega) ?_
    exact lw_ret hx hb hr hlocks xd_La_law_576
  · have hi5 : i + 5 ≤ L := x_gt hL (by omega) hc2
    refine lv_aload_n hx hb xd_La_law_32 rfl (lv_at hl 4 rfl) ?_
    refine lv_iload hx hb xd_La_law_33 (lv_at hl 0 rfl) ?_
    refine va_sld (i := nI i) hx hb hX hbl hbA hS (vp_in_nI (by omega) (by omega)) xd_La_law_35 ?_
    refine lv_bipush (v := 15) hx hb xd_La_law_36 (by decide) ?_
    refine lv_iand hx hb xd_La_law_38 ?_
    by_cases hw3 : ((xs (nI i).toNatClampNeg) &&& 15) = 0
    · refine lv_tableIn (off := 61) (tgt := 100) hx hb xd_La_law_39 (by rw [hw3]; decide) (by rw [hw3]; decide) (by rw [hw3]; rfl) (by decide) ?_
      refine lv_aload_n hx hb xd_La_law_100 rfl (lv_at hl 3 rfl) ?_
      refine lv_aload_n hx hb xd_La_law_101 rfl (lv_at hl 4 rfl) ?_
      refine lv_iload hx hb xd_La_law_102 (lv_at hl 0 rfl) ?_
      refine lv_iconst (v := 1) hx hb xd_La_law_104 (by decide) ?_
      refine lv_iadd hx hb xd_La_law_105 ?_
      refine xn_top (y := nI (i + 1)) (nI_add i 1) ?_
      refine va_sld (i := nI (i + 1)) hx hb hX hbl hbA hS (vp_in_nI (by omega) (by omega)) xd_La_law_106 ?_
      refine lv_i2c (v := (((xs (nI (i + 1)).toNatClampNeg)).toUInt32 % 65536).toInt32) hx hb xd_La_law_107 rfl ?_
      have hPc := xp_P (X := (moW hm mm kA v g ++ [(ob, .inl (kA 3, 1, .inr (.inl fo)))])) hP
      have hDc := xp_D (X := (moW hm mm kA v g ++ [(ob, .inl (kA 3, 1, .inr (.inl fo)))])) hD
      have hFc := va_freeP (X := (moW hm mm kA v g ++ [(ob, .inl (kA 3, 1, .inr (.inl fo)))])) (cx := []) hD hS hA [] rfl
      obtain ⟨lf, hc0⟩ := hCI.2.1
      refine va_calli (va_runV (As := [.int ((((xs (nI (i + 1)).toNatClampNeg)).toUInt32 % 65536).toInt32)]) (rest := []) ⟨hx, hb, hml, hown, hT⟩ (xc_De_writeX l D kA H.size ad E RL ml nd len wn cs ((((xs (nI (i + 1)).toNatClampNeg)).toUInt32 % 65536).toInt32) hCI) (cwV 1 hT (wT_V k6g_1 k6g_2 k6g_3 k6g_4 k6g_0) rfl rfl rfl (by decide +kernel) ⟨Nat.le_of_ble_eq_true rfl, Nat.le_of_ble_eq_true rfl⟩) (px_preV hK hPc hDc (hCI.1 0 (by decide)) hc0 rfl) rfl rfl hl.1 rfl (lv_room (Nat.le_of_ble_eq_true rfl)) xd_La_law_108 ⟨(show 40 + 110 * k + 0 ≤ 601024 by omega), (show 2000 + 600 * k + 0 ≤ 7293034 by omega)⟩) hS (fun q _ h => hFc q h) hFc (fun r4 u t H1 locs ht hvm hpost hB hz1 hk1 hS => ?_)
      obtain ⟨hP1, hD1⟩ := hB
      rw [ht] at hP1
      obtain ⟨hP, hD⟩ := va_joinP (X := (moW hm mm kA v g ++ [(ob, .inl (kA 3, 1, .inr (.inl fo)))])) (cx := []) (wr := (moW hm mm kA v g ++ [(ob, .inl (kA 3, 1, .inr (.inl fo)))])) (rx := []) hP hD [] [0, 1, 2, 3, 4, 5, 6, 7, 8, 9, 10, 11, 12, 13, 14, 15, 16, 17, 18, 19, 20, 21, 22, 23, 24, 25, 26] rfl rfl (by decide) (by decide) hk1 hFc hP1 hD1
      generalize H1 = H at hP hS ⊢
      obtain ⟨E5, rfl⟩ : ∃ z, z = u := ⟨_, rfl⟩
      have hP : va_P D xcl ((moW hm mm kA v g ++ [(ob, .inl (kA 3, 1, .inr (.inl fo)))]) ++ rp ad E5 RL) H := hP
      have hD : va_D A ((moW hm mm kA v g ++ [(ob, .inl (kA 3, 1, .inr (.inl fo)))]) ++ rp ad E5 RL) := hD
      have hCIo := hCI
      obtain ⟨len6, hCI, hap, hfw⟩ := hpost
      refine lv_pop hx hb xd_La_law_111 rfl ?_
      refine lv_aload_n hx hb xd_La_law_112 rfl (lv_at hl 2 rfl) ?_
      refine lv_aload_n hx hb xd_La_law_113 rfl (lv_at hl 4 rfl) ?_
      refine lv_iload hx hb xd_La_law_114 (lv_at hl 0 rfl) ?_
      refine lv_iconst (v := 1) hx hb xd_La_law_116 (by decide) ?_
      refine lv_iadd hx hb xd_La_law_117 ?_
      refine xn_top (y := nI (i + 1)) (nI_add i 1) ?_
      refine va_sld (i := nI (i + 1)) hx hb hX hbl hbA hS (vp_in_nI (by omega) (by omega)) xd_La_law_118 ?_
      refine lv_i2c (v := (((xs (nI (i + 1)).toNatClampNeg)).toUInt32 % 65536).toInt32) hx hb xd_La_law_119 rfl ?_
      have hPc := xp_PL (xp_PL hP)
      have hDc := xp_DL (xp_DL hD)
      have hFc := va_free (wc := moW hm mm kA v g) hD hS hA [0, 1, 2, 3, 4, 5, 6, 7, 8, 9, 10, 11, 12, 13, 14, 15, 16, 17, 18, 19, 20, 21, 22, 23, 24, 25] rfl
      refine va_calli (va_runV (As := [.int ((((xs (nI (i + 1)).toNatClampNeg)).toUInt32 % 65536).toInt32)]) (rest := []) ⟨hx, hb, hml, hown, hT⟩ (xc_Mo_writeK l D kA H.size hm mm v g ((((xs (nI (i + 1)).toNatClampNeg)).toUInt32 % 65536).toInt32) len hMI hv2 hl40) (cwV 1 hT (wT_V k6g_6 k6g_7 k6g_8 k6g_9 k6g_5) rfl rfl rfl (by decide +kernel) ⟨Nat.le_of_ble_eq_true rfl, Nat.le_of_ble_eq_true rfl⟩) (x_preV hK hPc hDc 0 rfl rfl) rfl rfl hl.1 rfl (lv_room (Nat.le_of_ble_eq_true rfl)) xd_La_law_120 ⟨(show 40 + 110 * k + 0 ≤ 601024 by omega), (show 2000 + 600 * k + 0 ≤ 7293034 by omega)⟩) hS (fun q _ h => hFc q h) hFc (fun r7 u t H1 locs ht hvm hpost hB hz1 hk1 hS => ?_)
      obtain ⟨v8, g9⟩ := u
      obtain ⟨hP1, hD1⟩ := hB
      rw [ht] at hP1
      obtain ⟨hP, hD⟩ := va_joinQ (X := (moW hm mm kA v g ++ [(ob, .inl (kA 3, 1, .inr (.inl fo)))])) (cx := moW hm mm kA v g) (wr := [(ob, .inl (kA 3, 1, .inr (.inl fo)))]) (w1 := moW hm mm kA v8 g9) hP hD [0, 1, 2, 3, 4, 5, 6, 7, 8, 9, 10, 11, 12, 13, 14, 15, 16, 17, 18, 19, 20, 21, 22, 23, 24, 25] [26] rfl rfl (by decide) (by decide) hk1 hFc hP1 hD1
      have hP := xp_swP hP
      have hD := xp_swD hD
      generalize H1 = H at hP hS ⊢
      have hP : va_P D xcl ((moW hm mm kA v8 g9 ++ [(ob, .inl (kA 3, 1, .inr (.inl fo)))]) ++ rp ad E5 RL) H := hP
      have hD : va_D A ((moW hm mm kA v8 g9 ++ [(ob, .inl (kA 3, 1, .inr (.inl fo)))]) ++ rp ad E5 RL) := hD
      have hMIo := hMI
      have hXTo := hXT
      obtain ⟨hMI, hq1, hq4, hq5, hw9⟩ := hpost
      have hww : v8 2 = nI len6 ∧ XT g9 ad E5 nd ml len6 := by
        rcases hap with ⟨e1, e2, e3, e4⟩ | ⟨e1, e2, e3, e4, e5, e6⟩ <;> rcases hw9 with ⟨f1, f2, f3, f4⟩ | ⟨f1, f2, f3, f4, f5, f6⟩
        · exact ⟨f1.trans (by rw [e2]), wr_join hCI hfw (fun i hi => by rw [e3, show g9 = g from f2]; exact hXT.1 i (by omega)) (fun j _ => by rw [show g9 = g from f2]) hXT⟩
        · exfalso; rcases e4 with e4 | e4 | e4; exact f5 e4; exact f6 e4; omega
        · exfalso; rcases f4 with f4 | f4 | f4; exact e5 f4; exact e6 f4; omega
        · refine ⟨f1.trans (by rw [e2]), wr_join hCI hfw (fun i hi => ?_) (fun j hj => by rw [show g9 = va_up g 0 _ from f2, vu_ne hj]) hXT⟩
          rw [e3, show g9 = va_up g 0 _ from f2, vu_eq]
          by_cases q : i = len
          · rw [q, pk_us, pk_us]
          · rw [pk_un q, pk_un q]; exact hXT.1 i (by omega)
      have hv2 := hww.1
      have hXT := hww.2
      have hv4 : v8 4 = nI nd := hq4.trans hv4
      have hv5 : v8 5 = nI ml := hq5.trans hv5
      have hv1 : v8 1 = eI (E5 0 0) 5 := by rw [hfw 0 0 (by omega) (by omega)]; exact hq1.trans hv1
      have hgr : ∀ j, j ≠ 0 → g9 j = g j := fun j hj => by
        rcases hw9 with ⟨f1, f2, f3, f4⟩ | ⟨f1, f2, f3, f4, f5, f6⟩
        · rw [show g9 = g from f2]
        · rw [show g9 = va_up g 0 _ from f2, vu_ne hj]
      have hNS : NSs g9 ml := NS_r (LKP_C hCIo hXTo.2.2.1) (fun j a b c => hgr j (by omega)) hMIo.2.2.2.1 hNS
      refine lv_pop hx hb xd_La_law_123 rfl ?_
      refine lv_goto (tgt := 569) hx hb xd_La_law_124 (by decide) ?_
      refine W.widen (k := 40 + 110 * (k + 1)) (n := 2000 + 600 * (k + 1)) (show 40 + 110 * k ≤ 40 + 110 * (k + 1) by omega) (show 2000 + 600 * k ≤ 2000 + 600 * (k + 1) by omega) ?_
      refine lv_iinc (k := 0) (x := (nI i)) (v := (nI (i + 5))) hx hb xd_La_law_569 hl rfl (xb_inc i 5) (Nat.le_of_ble_eq_true rfl) rfl (fun ls hl => ?_)
      have hl : lv_has ls 7 [(4, .int (nI (i + 5))), (3, .ref ob), (2, .ref hm), (1, .ref (ad 0 0)), (0, .ref b0)] := hl
      refine lv_goto (tgt := 23) hx hb xd_La_law_572 (by decide) ?_
      exact ih1 (i + 5, k + 1, ad, E5, RL, v8, g9, fo, ml, nd, len6, wn, cs) _ _ _ (show 600 - (k + 1) < 600 - k by omega) (lv_sub hl [0, 1, 2, 3, 4] rfl) hP hD hS ⟨(show (i + 5) = 5 * (k + 1) from by first | assumption | omega), (show (i + 5) ≤ L ∨ (i + 5) = 0 from by first | assumption | omega), (show CI kA ad E5 RL ml nd len6 wn cs from hCI), (show MI v8 g9 from hMI), (show v8 2 = nI len6 from hv2), (show v8 4 = nI nd from hv4), (show v8 5 = nI ml from hv5), (show v8 1 = eI (E5 0 0) 5 from hv1), (show XT g9 ad E5 nd ml len6 from hXT), (show NSs g9 ml from hNS)⟩
    by_cases hw10 : ((xs (nI i).toNatClampNeg) &&& 15) = 1
    · refine lv_tableIn (off := 88) (tgt := 127) hx hb xd_La_law_39 (by rw [hw10]; decide) (by rw [hw10]; decide) (by rw [hw10]; rfl) (by decide) ?_
      refine lv_aload_n hx hb xd_La_law_127 rfl (lv_at hl 3 rfl) ?_
      refine lv_aload_n hx hb xd_La_law_128 rfl (lv_at hl 1 rfl) ?_
      have hPc : va_P D xcl ((ob, .inl (kA 3, 1, .inr (.inl fo))) :: rp ad E RL) H := xp_P (X := moW hm mm kA v g) (Y := [(ob, .inl (kA 3, 1, .inr (.inl fo)))] ++ rp ad E RL) (by rw [← List.append_assoc]; exact hP)
      have hDc : va_D A ((ob, .inl (kA 3, 1, .inr (.inl fo))) :: rp ad E RL) := xp_D (X := moW hm mm kA v g) (Y := [(ob, .inl (kA 3, 1, .inr (.inl fo)))] ++ rp ad E RL) (by rw [← List.append_assoc]; exact hD)
      have hFc := va_freeP (X := (moW hm mm kA v g ++ [(ob, .inl (kA 3, 1, .inr (.inl fo)))])) (cx := [(ob, .inl (kA 3, 1, .inr (.inl fo)))]) hD hS hA [26] rfl
      refine va_calli (vx_runSW (As := [.ref (ad 0 0), .ref ob]) (rest := []) ⟨hx, hb, hml, hown, hT⟩ (xc_La_lineX l hlt D kA H.size ad E RL Z g ml nd len wn cs ob fo hCI hXT.2.1 hXT.2.2.2.2.2.1 hXT.1) (vx_cwSW 2 hT (wT_S k6g_11 k6g_12 k6g_13 k6g_10) rfl rfl rfl (by decide +kernel) ⟨Nat.le_of_ble_eq_true rfl, Nat.le_of_ble_eq_true rfl⟩) (x_preSZ hK hPc hDc hFc (hZ.kept hS)) rfl rfl hl.1 rfl (lv_room (Nat.le_of_ble_eq_true rfl)) xd_La_law_129 ⟨(show 40 + 110 * k + 14 ≤ 601024 by omega), (show 2000 + 600 * k + 72 ≤ 7293034 by omega)⟩) hS (fun q _ h => hFc q h) hFc (fun r11 u t H1 locs ht hvm hpost hB hz1 hk1 hS => ?_)
      obtain ⟨⟨ad12, E13, RL14⟩, fo15⟩ := u
      obtain ⟨hP1, hD1⟩ := hB
      rw [ht] at hP1
      obtain ⟨hP, hD⟩ := va_joinP (X := (moW hm mm kA v g ++ [(ob, .inl (kA 3, 1, .inr (.inl fo)))])) (cx := [(ob, .inl (kA 3, 1, .inr (.inl fo)))]) (wr := moW hm mm kA v g) (rx := [(ob, .inl (kA 3, 1, .inr (.inl fo15)))]) (pl1 := rp ad12 E13 RL14) hP hD [26] [0, 1, 2, 3, 4, 5, 6, 7, 8, 9, 10, 11, 12, 13, 14, 15, 16, 17, 18, 19, 20, 21, 22, 23, 24, 25] rfl rfl (by decide) (by decide) hk1 hFc hP1 hD1
      generalize H1 = H at hP hS ⊢
      have hCIo := hCI
      obtain ⟨⟨wn16, hCI⟩, hTDn, haz, hFn⟩ := hpost
      have haz : ad12 0 0 = ad 0 0 := haz
      rw [← haz] at hl
      have hCI : CI kA ad12 E13 RL14 ml ((lnF (g 0) (w_all (g 0) len) nd g).1) 0 wn16 cs := hCI
      have hTDn : TDs (lnF (g 0) (w_all (g 0) len) nd g).2 E13 (lnF (g 0) (w_all (g 0) len) nd g).1 := hTDn
      have hFn : FRL ml nd ad ad12 E E13 := hFn
      have hl : lv_has ls 7 [(4, .int (nI i)), (3, .ref ob), (2, .ref hm), (1, .ref (ad12 0 0)), (0, .ref b0)] := hl
      have hP : va_P D xcl ((moW hm mm kA v g ++ [(ob, .inl (kA 3, 1, .inr (.inl fo15)))]) ++ rp ad12 E13 RL14) H := hP
      have hD : va_D A ((moW hm mm kA v g ++ [(ob, .inl (kA 3, 1, .inr (.inl fo15)))]) ++ rp ad12 E13 RL14) := hD
      refine lv_istore hx hb xd_La_law_132 hl (Nat.le_of_ble_eq_true rfl) rfl (fun ls hl => ?_)
      have hl : lv_has ls 7 [(5, .int r11), (4, .int (nI i)), (3, .ref ob), (2, .ref hm), (1, .ref (ad12 0 0)), (0, .ref b0)] := hl
      refine lv_aload_n hx hb xd_La_law_134 rfl (lv_at hl 3 rfl) ?_
      have hPc := xp_PL (xp_PL hP)
      have hDc := xp_DL (xp_DL hD)
      have hFc := va_free (wc := moW hm mm kA v g) hD hS hA [0, 1, 2, 3, 4, 5, 6, 7, 8, 9, 10, 11, 12, 13, 14, 15, 16, 17, 18, 19, 20, 21, 22, 23, 24, 25] rfl
      refine va_calli (va_runV (As := []) (rest := []) ⟨hx, hb, hml, hown, hT⟩ (xc_Mo_lineX l D kA H.size hm mm v g len nd hMI hv2 hl40 hv4 hnd12) (cwV 0 hT (wT_V k6g_15 k6g_16 k6g_17 k6g_9 k6g_14) rfl rfl rfl (by decide +kernel) ⟨Nat.le_of_ble_eq_true rfl, Nat.le_of_ble_eq_true rfl⟩) (x_preV hK hPc hDc 0 rfl rfl) rfl rfl hl.1 rfl (lv_room (Nat.le_of_ble_eq_true rfl)) xd_La_law_135 ⟨(show 40 + 110 * k + 14 + 0 ≤ 601024 by omega), (show 2000 + 600 * k + 72 + 0 ≤ 7293034 by omega)⟩) hS (fun q _ h => hFc q h) hFc (fun r17 u t H1 locs ht hvm hpost hB hz1 hk1 hS => ?_)
      obtain ⟨v18, g19⟩ := u
      obtain ⟨hP1, hD1⟩ := hB
      rw [ht] at hP1
      obtain ⟨hP, hD⟩ := va_joinQ (X := (moW hm mm kA v g ++ [(ob, .inl (kA 3, 1, .inr (.inl fo15)))])) (cx := moW hm mm kA v g) (wr := [(ob, .inl (kA 3, 1, .inr (.inl fo15)))]) (w1 := moW hm mm kA v18 g19) hP hD [0, 1, 2, 3, 4, 5, 6, 7, 8, 9, 10, 11, 12, 13, 14, 15, 16, 17, 18, 19, 20, 21, 22, 23, 24, 25] [26] rfl rfl (by decide) (by decide) hk1 hFc hP1 hD1
      have hP := xp_swP hP
      have hD := xp_swD hD
      generalize H1 = H at hP hS ⊢
      have hP : va_P D xcl ((moW hm mm kA v18 g19 ++ [(ob, .inl (kA 3, 1, .inr (.inl fo15)))]) ++ rp ad12 E13 RL14) H := hP
      have hD : va_D A ((moW hm mm kA v18 g19 ++ [(ob, .inl (kA 3, 1, .inr (.inl fo15)))]) ++ rp ad12 E13 RL14) := hD
      have hMIo := hMI
      have hXTo := hXT
      obtain ⟨hMI, hv2, hq4, hq5, hq1, hqg⟩ := hpost
      have hXT : XT g19 ad12 E13 (lnF (g 0) (w_all (g 0) len) nd g).1 ml 0 := ln_join hMIo hCIo hXT hCI hTDn hFn hqg
      have hv2 : v18 2 = nI 0 := hv2
      have hv4 : v18 4 = nI (lnF (g 0) (w_all (g 0) len) nd g).1 := hq4
      have hv5 : v18 5 = nI ml := hq5.trans hv5
      have hv1 : v18 1 = eI (E13 0 0) 5 := by rw [hFn.2.2]; exact hq1.trans hv1
      have hNS : NSs g19 ml := NS_ln hMIo hCIo hXTo hqg hNS
      refine lv_istore hx hb xd_La_law_138 hl (Nat.le_of_ble_eq_true rfl) rfl (fun ls hl => ?_)
      have hl : lv_has ls 7 [(6, .int r17), (5, .int r11), (4, .int (nI i)), (3, .ref ob), (2, .ref hm), (1, .ref (ad12 0 0)), (0, .ref b0)] := hl
      refine lv_goto (tgt := 569) hx hb xd_La_law_140 (by decide) ?_
      refine W.widen (k := 40 + 110 * (k + 1)) (n := 2000 + 600 * (k + 1)) (show 40 + 110 * k + 14 ≤ 40 + 110 * (k + 1) by omega) (show 2000 + 600 * k + 72 ≤ 2000 + 600 * (k + 1) by omega) ?_
      refine lv_iinc (k := 2) (x := (nI i)) (v := (nI (i + 5))) hx hb xd_La_law_569 hl rfl (xb_inc i 5) (Nat.le_of_ble_eq_true rfl) rfl (fun ls hl => ?_)
      have hl : lv_has ls 7 [(4, .int (nI (i + 5))), (6, .int r17), (5, .int r11), (3, .ref ob), (2, .ref hm), (1, .ref (ad12 0 0)), (0, .ref b0)] := hl
      refine lv_goto (tgt := 23) hx hb xd_La_law_572 (by decide) ?_
      exact ih1 (i + 5, k + 1, ad12, E13, RL14, v18, g19, fo15, ml, (lnF (g 0) (w_all (g 0) len) nd g).1, 0, wn16, cs) _ _ _ (show 600 - (k + 1) < 600 - k by omega) (lv_sub hl [0, 3, 4, 5, 6] rfl) hP hD hS ⟨(show (i + 5) = 5 * (k + 1) from by first | assumption | omega), (show (i + 5) ≤ L ∨ (i + 5) = 0 from by first | assumption | omega), (show CI kA ad12 E13 RL14 ml ((lnF (g 0) (w_all (g 0) len) nd g).1) 0 wn16 cs from hCI), (show MI v18 g19 from hMI), (show v18 2 = nI 0 from hv2), (show v18 4 = nI ((lnF (g 0) (w_all (g 0) len) nd g).1) from hv4), (show v18 5 = nI ml from hv5), (show v18 1 = eI (E13 0 0) 5 from hv1), (show XT g19 ad12 E13 ((lnF (g 0) (w_all (g 0) len) nd g).1) ml 0 from hXT), (show NSs g19 ml from hNS)⟩
    by_cases hw20 : ((xs (nI i).toNatClampNeg) &&& 15) = 2
    · refine lv_tableIn (off := 104) (tgt := 143) hx hb xd_La_law_39 (by rw [hw20]; decide) (by rw [hw20]; decide) (by rw [hw20]; rfl) (by decide) ?_
      refine lv_aload_n hx hb xd_La_law_143 rfl (lv_at hl 3 rfl) ?_
      refine lv_aload_n hx hb xd_La_law_144 rfl (lv_at hl 4 rfl) ?_
      refine lv_iload hx hb xd_La_law_145 (lv_at hl 0 rfl) ?_
      refine lv_iconst (v := 1) hx hb xd_La_law_147 (by decide) ?_
      refine lv_iadd hx hb xd_La_law_148 ?_
      refine xn_top (y := nI (i + 1)) (nI_add i 1) ?_
      refine va_sld (i := nI (i + 1)) hx hb hX hbl hbA hS (vp_in_nI (by omega) (by omega)) xd_La_law_149 ?_
      refine lv_aload_n hx hb xd_La_law_150 rfl (lv_at hl 4 rfl) ?_
      refine lv_iload hx hb xd_La_law_151 (lv_at hl 0 rfl) ?_
      refine lv_iconst (v := 2) hx hb xd_La_law_153 (by decide) ?_
      refine lv_iadd hx hb xd_La_law_154 ?_
      refine xn_top (y := nI (i + 2)) (nI_add i 2) ?_
      refine va_sld (i := nI (i + 2)) hx hb hX hbl hbA hS (vp_in_nI (by omega) (by omega)) xd_La_law_155 ?_
      refine lv_aload_n hx hb xd_La_law_156 rfl (lv_at hl 4 rfl) ?_
      refine lv_iload hx hb xd_La_law_157 (lv_at hl 0 rfl) ?_
      refine lv_iconst (v := 3) hx hb xd_La_law_159 (by decide) ?_
      refine lv_iadd hx hb xd_La_law_160 ?_
      refine xn_top (y := nI (i + 3)) (nI_add i 3) ?_
      refine va_sld (i := nI (i + 3)) hx hb hX hbl hbA hS (vp_in_nI (by omega) (by omega)) xd_La_law_161 ?_
      refine lv_if_eq (tgt := 169) hx hb xd_La_law_162 (by decide) (fun hc21 => ?_) (fun hc21 => ?_)
      · refine lv_iconst (v := 0) hx hb xd_La_law_169 (by decide) ?_
        refine lv_aload_n hx hb xd_La_law_170 rfl (lv_at hl 1 rfl) ?_
        have hPc : va_P D xcl ((ob, .inl (kA 3, 1, .inr (.inl fo))) :: rp ad E RL) H := xp_P (X := moW hm mm kA v g) (Y := [(ob, .inl (kA 3, 1, .inr (.inl fo)))] ++ rp ad E RL) (by rw [← List.append_assoc]; exact hP)
        have hDc : va_D A ((ob, .inl (kA 3, 1, .inr (.inl fo))) :: rp ad E RL) := xp_D (X := moW hm mm kA v g) (Y := [(ob, .inl (kA 3, 1, .inr (.inl fo)))] ++ rp ad E RL) (by rw [← List.append_assoc]; exact hD)
        have hFc := va_freeP (X := (moW hm mm kA v g ++ [(ob, .inl (kA 3, 1, .inr (.inl fo)))])) (cx := [(ob, .inl (kA 3, 1, .inr (.inl fo)))]) hD hS hA [26] rfl
        refine va_calli (vx_runSW (As := [.ref (ad 0 0), .int (xs (nI (i + 1)).toNatClampNeg), .int (xs (nI (i + 2)).toNatClampNeg), .int 0, .ref ob]) (rest := []) ⟨hx, hb, hml, hown, hT⟩ (xc_La_layerX l hlt D kA H.size ad E RL Z g ml nd len wn cs ob fo (xs (nI (i + 1)).toNatClampNeg) (xs (nI (i + 2)).toNatClampNeg) 0 hCI hXT.2.1 hXT.2.2.1 hXT.2.2.2.1 hXT.1 hXT.2.2.2.2.2.2.1 hXT.2.2.2.2.2.2.2.1 hXT.2.2.2.2.2.2.2.2.1) (vx_cwSW 5 hT (wT_S k6g_19 k6g_20 k6g_13 k6g_18) rfl rfl rfl (by decide +kernel) ⟨Nat.le_of_ble_eq_true rfl, Nat.le_of_ble_eq_true rfl⟩) (x_preSZ hK hPc hDc hFc (hZ.kept hS)) rfl rfl hl.1 rfl (lv_room (Nat.le_of_ble_eq_true rfl)) xd_La_law_171 ⟨(show 40 + 110 * k + 101 ≤ 601024 by omega), (show 2000 + 600 * k + 430 ≤ 7293034 by omega)⟩) hS (fun q _ h => hFc q h) hFc (fun r22 u t H1 locs ht hvm hpost hB hz1 hk1 hS => ?_)
        obtain ⟨⟨ad23, E24, RL25⟩, fo26⟩ := u
        obtain ⟨hP1, hD1⟩ := hB
        rw [ht] at hP1
        obtain ⟨hP, hD⟩ := va_joinP (X := (moW hm mm kA v g ++ [(ob, .inl (kA 3, 1, .inr (.inl fo)))])) (cx := [(ob, .inl (kA 3, 1, .inr (.inl fo)))]) (wr := moW hm mm kA v g) (rx := [(ob, .inl (kA 3, 1, .inr (.inl fo26)))]) (pl1 := rp ad23 E24 RL25) hP hD [26] [0, 1, 2, 3, 4, 5, 6, 7, 8, 9, 10, 11, 12, 13, 14, 15, 16, 17, 18, 19, 20, 21, 22, 23, 24, 25] rfl rfl (by decide) (by decide) hk1 hFc hP1 hD1
        generalize H1 = H at hP hS ⊢
        have hCIo := hCI
        have hY : YP kA g ad E ml nd len (xs (nI (i + 1)).toNatClampNeg) (xs (nI (i + 2)).toNatClampNeg) 0 r22 ad23 E24 RL25 (fo26 0) := hpost
        have haz : ad23 0 0 = ad 0 0 := by
          rcases hY with ⟨_, _, h, _⟩ | ⟨_, _, h, _⟩ | ⟨_, h, _⟩ | ⟨_, _, _, h, _⟩
          · exact h.2.1
          · exact h.2.1
          · exact h.2.1
          · exact h
        rw [← haz] at hl
        have hl : lv_has ls 7 [(4, .int (nI i)), (3, .ref ob), (2, .ref hm), (1, .ref (ad23 0 0)), (0, .ref b0)] := hl
        have hP : va_P D xcl ((moW hm mm kA v g ++ [(ob, .inl (kA 3, 1, .inr (.inl fo26)))]) ++ rp ad23 E24 RL25) H := hP
        have hD : va_D A ((moW hm mm kA v g ++ [(ob, .inl (kA 3, 1, .inr (.inl fo26)))]) ++ rp ad23 E24 RL25) := hD
        refine lv_istore hx hb xd_La_law_174 hl (Nat.le_of_ble_eq_true rfl) rfl (fun ls hl => ?_)
        have hl : lv_has ls 7 [(5, .int r22), (4, .int (nI i)), (3, .ref ob), (2, .ref hm), (1, .ref (ad23 0 0)), (0, .ref b0)] := hl
        refine lv_aload_n hx hb xd_La_law_176 rfl (lv_at hl 3 rfl) ?_
        refine lv_aload_n hx hb xd_La_law_177 rfl (lv_at hl 5 rfl) ?_
        refine lv_iload hx hb xd_La_law_178 (lv_at hl 1 rfl) ?_
        refine lv_iconst (v := 1) hx hb xd_La_law_180 (by decide) ?_
        refine lv_iadd hx hb xd_La_law_181 ?_
        refine xn_top (y := nI (i + 1)) (nI_add i 1) ?_
        refine va_sld (i := nI (i + 1)) hx hb hX hbl hbA hS (vp_in_nI (by omega) (by omega)) xd_La_law_182 ?_
        refine lv_aload_n hx hb xd_La_law_183 rfl (lv_at hl 5 rfl) ?_
        refine lv_iload hx hb xd_La_law_184 (lv_at hl 1 rfl) ?_
        refine lv_iconst (v := 2) hx hb xd_La_law_186 (by decide) ?_
        refine lv_iadd hx hb xd_La_law_187 ?_
        refine xn_top (y := nI (i + 2)) (nI_add i 2) ?_
        refine va_sld (i := nI (i + 2)) hx hb hX hbl hbA hS (vp_in_nI (by omega) (by omega)) xd_La_law_188 ?_
        refine lv_aload_n hx hb xd_La_law_189 rfl (lv_at hl 5 rfl) ?_
        refine lv_iload hx hb xd_La_law_190 (lv_at hl 1 rfl) ?_
        refine lv_iconst (v := 3) hx hb xd_La_law_192 (by decide) ?_
        refine lv_iadd hx hb xd_La_law_193 ?_
        refine xn_top (y := nI (i + 3)) (nI_add i 3) ?_
        refine va_sld (i := nI (i + 3)) hx hb hX hbl hbA hS (vp_in_nI (by omega) (by omega)) xd_La_law_194 ?_
        refine lv_if_eq (tgt := 202) hx hb xd_La_law_195 (by decide) (fun _ => ?_) (fun hc27 => absurd hc21 hc27)
        refine lv_iconst (v := 0) hx hb xd_La_law_202 (by decide) ?_
        have hPc := xp_PL (xp_PL hP)
        have hDc := xp_DL (xp_DL hD)
        have hFc := va_free (wc := moW hm mm kA v g) hD hS hA [0, 1, 2, 3, 4, 5, 6, 7, 8, 9, 10, 11, 12, 13, 14, 15, 16, 17, 18, 19, 20, 21, 22, 23, 24, 25] rfl
        refine va_calli (va_runV (As := [.int (xs (nI (i + 1)).toNatClampNeg), .int (xs (nI (i + 2)).toNatClampNeg), .int 0]) (rest := []) ⟨hx, hb, hml, hown, hT⟩ (xc_Mo_layerX l D kA H.size hm mm v g (xs (nI (i + 1)).toNatClampNeg) (xs (nI (i + 2)).toNatClampNeg) 0 len nd ml hMI hv2 hl40 hv4 hnd12 hv5 hml5) (cwV 3 hT (wT_V k6g_22 k6g_23 k6g_24 k6g_9 k6g_21) rfl rfl rfl (by decide +kernel) ⟨Nat.le_of_ble_eq_true rfl, Nat.le_of_ble_eq_true rfl⟩) (x_preV hK hPc hDc 0 rfl rfl) rfl rfl hl.1 rfl (lv_room (Nat.le_of_ble_eq_true rfl)) xd_La_law_203 ⟨(show 40 + 110 * k + 101 + 0 ≤ 601024 by omega), (show 2000 + 600 * k + 430 + 0 ≤ 7293034 by omega)⟩) hS (fun q _ h => hFc q h) hFc (fun r28 u t H1 locs ht hvm hpost hB hz1 hk1 hS => ?_)
        obtain ⟨v29, g30⟩ := u
        obtain ⟨hP1, hD1⟩ := hB
        rw [ht] at hP1
        obtain ⟨hP, hD⟩ := va_joinQ (X := (moW hm mm kA v g ++ [(ob, .inl (kA 3, 1, .inr (.inl fo26)))])) (cx := moW hm mm kA v g) (wr := [(ob, .inl (kA 3, 1, .inr (.inl fo26)))]) (w1 := moW hm mm kA v29 g30) hP hD [0, 1, 2, 3, 4, 5, 6, 7, 8, 9, 10, 11, 12, 13, 14, 15, 16, 17, 18, 19, 20, 21, 22, 23, 24, 25] [26] rfl rfl (by decide) (by decide) hk1 hFc hP1 hD1
        have hP := xp_swP hP
        have hD := xp_swD hD
        generalize H1 = H at hP hS ⊢
        have hP : va_P D xcl ((moW hm mm kA v29 g30 ++ [(ob, .inl (kA 3, 1, .inr (.inl fo26)))]) ++ rp ad23 E24 RL25) H := hP
        have hD : va_D A ((moW hm mm kA v29 g30 ++ [(ob, .inl (kA 3, 1, .inr (.inl fo26)))]) ++ rp ad23 E24 RL25) := hD
        have hMIo := hMI
        have hXTo := hXT
        obtain ⟨code, why, hc0, hw1, hv2, hq4, hMI, hR⟩ := hpost
        obtain ⟨hkc, hko, _, ml31, wn32, cs33, hCI, hu5, hwhy, hXT⟩ := ly_join hCIo hXT hY hR
        have hCI : CI kA ad23 E24 RL25 ml31 nd 0 wn32 cs33 := hCI
        have hv2 : v29 2 = nI 0 := hv2
        have hv4 : v29 4 = nI nd := hq4.trans hv4
        have hv5 : v29 5 = nI ml31 := hu5
        have hv1 : v29 1 = eI (E24 0 0) 5 := hw1.trans hwhy
        have hNS : NSs g30 ml31 := by
          obtain ⟨mlx, hx5, hxe, hNSx⟩ := ly_ns hCIo hXTo hMIo.2.2.2.1 hNS hY hR
          have hb9 := (CI_b hCI).2.2.1
          rw [← nI_inj (a := mlx) (b := ml31) (by omega) (by omega) (hxe.symm.trans hu5)]; exact hNSx
        refine lv_istore hx hb xd_La_law_206 hl (Nat.le_of_ble_eq_true rfl) rfl (fun ls hl => ?_)
        have hl : lv_has ls 7 [(6, .int r28), (5, .int r22), (4, .int (nI i)), (3, .ref ob), (2, .ref hm), (1, .ref (ad23 0 0)), (0, .ref b0)] := hl
        refine lv_goto (tgt := 569) hx hb xd_La_law_208 (by decide) ?_
        refine W.widen (k := 40 + 110 * (k + 1)) (n := 2000 + 600 * (k + 1)) (show 40 + 110 * k + 101 ≤ 40 + 110 * (k + 1) by omega) (show 2000 + 600 * k + 430 ≤ 2000 + 600 * (k + 1) by omega) ?_
        refine lv_iinc (k := 2) (x := (nI i)) (v := (nI (i + 5))) hx hb xd_La_law_569 hl rfl (xb_inc i 5) (Nat.le_of_ble_eq_true rfl) rfl (fun ls hl => ?_)
        have hl : lv_has ls 7 [(4, .int (nI (i + 5))), (6, .int r28), (5, .int r22), (3, .ref ob), (2, .ref hm), (1, .ref (ad23 0 0)), (0, .ref b0)] := hl
        refine lv_goto (tgt := 23) hx hb xd_La_law_572 (by decide) ?_
        exact ih1 (i + 5, k + 1, ad23, E24, RL25, v29, g30, fo26, ml31, nd, 0, wn32, cs33) _ _ _ (show 600 - (k + 1) < 600 - k by omega) (lv_sub hl [0, 3, 4, 5, 6] rfl) hP hD hS ⟨(show (i + 5) = 5 * (k + 1) from by first | assumption | omega), (show (i + 5) ≤ L ∨ (i + 5) = 0 from by first | assumption | omega), (show CI kA ad23 E24 RL25 ml31 nd 0 wn32 cs33 from hCI), (show MI v29 g30 from hMI), (show v29 2 = nI 0 from hv2), (show v29 4 = nI nd from hv4), (show v29 5 = nI ml31 from hv5), (show v29 1 = eI (E24 0 0) 5 from hv1), (show XT g30 ad23 E24 nd ml31 0 from hXT), (show NSs g30 ml31 from hNS)⟩
      · refine lv_iconst (v := 1) hx hb xd_La_law_165 (by decide) ?_
        refine lv_goto (tgt := 170) hx hb xd_La_law_166 (by decide) ?_
        refine lv_aload_n hx hb xd_La_law_170 rfl (lv_at hl 1 rfl) ?_
        have hPc : va_P D xcl ((ob, .inl (kA 3, 1, .inr (.inl fo))) :: rp ad E RL) H := xp_P (X := moW hm mm kA v g) (Y := [(ob, .inl (kA 3, 1, .inr (.inl fo)))] ++ rp ad E RL) (by rw [← List.append_assoc]; exact hP)
        have hDc : va_D A ((ob, .inl (kA 3, 1, .inr (.inl fo))) :: rp ad E RL) := xp_D (X := moW hm mm kA v g) (Y := [(ob, .inl (kA 3, 1, .inr (.inl fo)))] ++ rp ad E RL) (by rw [← List.append_assoc]; exact hD)
        have hFc := va_freeP (X := (moW hm mm kA v g ++ [(ob, .inl (kA 3, 1, .inr (.inl fo)))])) (cx := [(ob, .inl (kA 3, 1, .inr (.inl fo)))]) hD hS hA [26] rfl
        refine va_calli (vx_runSW (As := [.ref (ad 0 0), .int (xs (nI (i + 1)).toNatClampNeg), .int (xs (nI (i + 2)).toNatClampNeg), .int 1, .ref ob]) (rest := []) ⟨hx, hb, hml, hown, hT⟩ (xc_La_layerX l hlt D kA H.size ad E RL Z g ml nd len wn cs ob fo (xs (nI (i + 1)).toNatClampNeg) (xs (nI (i + 2)).toNatClampNeg) 1 hCI hXT.2.1 hXT.2.2.1 hXT.2.2.2.1 hXT.1 hXT.2.2.2.2.2.2.1 hXT.2.2.2.2.2.2.2.1 hXT.2.2.2.2.2.2.2.2.1) (vx_cwSW 5 hT (wT_S k6g_19 k6g_20 k6g_13 k6g_18) rfl rfl rfl (by decide +kernel) ⟨Nat.le_of_ble_eq_true rfl, Nat.le_of_ble_eq_true rfl⟩) (x_preSZ hK hPc hDc hFc (hZ.kept hS)) rfl rfl hl.1 rfl (lv_room (Nat.le_of_ble_eq_true rfl)) xd_La_law_171 ⟨(show 40 + 110 * k + 101 ≤ 601024 by omega), (show 2000 + 600 * k + 430 ≤ 7293034 by omega)⟩) hS (fun q _ h => hFc q h) hFc (fun r34 u t H1 locs ht hvm hpost hB hz1 hk1 hS => ?_)
        obtain ⟨⟨ad35, E36, RL37⟩, fo38⟩ := u
        obtain ⟨hP1, hD1⟩ := hB
        rw [ht] at hP1
        obtain ⟨hP, hD⟩ := va_joinP (X := (moW hm mm kA v g ++ [(ob, .inl (kA 3, 1, .inr (.inl fo)))])) (cx := [(ob, .inl (kA 3, 1, .inr (.inl fo)))]) (wr := moW hm mm kA v g) (rx := [(ob, .inl (kA 3, 1, .inr (.inl fo38)))]) (pl1 := rp ad35 E36 RL37) hP hD [26] [0, 1, 2, 3, 4, 5, 6, 7, 8, 9, 10, 11, 12, 13, 14, 15, 16, 17, 18, 19, 20, 21, 22, 23, 24, 25] rfl rfl (by decide) (by decide) hk1 hFc hP1 hD1
        generalize H1 = H at hP hS ⊢
        have hCIo := hCI
        have hY : YP kA g ad E ml nd len (xs (nI (i + 1)).toNatClampNeg) (xs (nI (i + 2)).toNatClampNeg) 1 r34 ad35 E36 RL37 (fo38 0) := hpost
        have haz : ad35 0 0 = ad 0 0 := by
          rcases hY with ⟨_, _, h, _⟩ | ⟨_, _, h, _⟩ | ⟨_, h, _⟩ | ⟨_, _, _, h, _⟩
          · exact h.2.1
          · exact h.2.1
          · exact h.2.1
          · exact h
        rw [← haz] at hl
        have hl : lv_has ls 7 [(4, .int (nI i)), (3, .ref ob), (2, .ref hm), (1, .ref (ad35 0 0)), (0, .ref b0)] := hl
        have hP : va_P D xcl ((moW hm mm kA v g ++ [(ob, .inl (kA 3, 1, .inr (.inl fo38)))]) ++ rp ad35 E36 RL37) H := hP
        have hD : va_D A ((moW hm mm kA v g ++ [(ob, .inl (kA 3, 1, .inr (.inl fo38)))]) ++ rp ad35 E36 RL37) := hD
        refine lv_istore hx hb xd_La_law_174 hl (Nat.le_of_ble_eq_true rfl) rfl (fun ls hl => ?_)
        have hl : lv_has ls 7 [(5, .int r34), (4, .int (nI i)), (3, .ref ob), (2, .ref hm), (1, .ref (ad35 0 0)), (0, .ref b0)] := hl
        refine lv_aload_n hx hb xd_La_law_176 rfl (lv_at hl 3 rfl) ?_
        refine lv_aload_n hx hb xd_La_law_177 rfl (lv_at hl 5 rfl) ?_
        refine lv_iload hx hb xd_La_law_178 (lv_at hl 1 rfl) ?_
        refine lv_iconst (v := 1) hx hb xd_La_law_180 (by decide) ?_
        refine lv_iadd hx hb xd_La_law_181 ?_
        refine xn_top (y := nI (i + 1)) (nI_add i 1) ?_
        refine va_sld (i := nI (i + 1)) hx hb hX hbl hbA hS (vp_in_nI (by omega) (by omega)) xd_La_law_182 ?_
        refine lv_aload_n hx hb xd_La_law_183 rfl (lv_at hl 5 rfl) ?_
        refine lv_iload hx hb xd_La_law_184 (lv_at hl 1 rfl) ?_
        refine lv_iconst (v := 2) hx hb xd_La_law_186 (by decide) ?_
        refine lv_iadd hx hb xd_La_law_187 ?_
        refine xn_top (y := nI (i + 2)) (nI_add i 2) ?_
        refine va_sld (i := nI (i + 2)) hx hb hX hbl hbA hS (vp_in_nI (by omega) (by omega)) xd_La_law_188 ?_
        refine lv_aload_n hx hb xd_La_law_189 rfl (lv_at hl 5 rfl) ?_
        refine lv_iload hx hb xd_La_law_190 (lv_at hl 1 rfl) ?_
        refine lv_iconst (v := 3) hx hb xd_La_law_192 (by decide) ?_
        refine lv_iadd hx hb xd_La_law_193 ?_
        refine xn_top (y := nI (i + 3)) (nI_add i 3) ?_
        refine va_sld (i := nI (i + 3)) hx hb hX hbl hbA hS (vp_in_nI (by omega) (by omega)) xd_La_law_194 ?_
        refine lv_if_eq (tgt := 202) hx hb xd_La_law_195 (by decide) (fun hc39 => absurd hc39 hc21) (fun _ => ?_)
        refine lv_iconst (v := 1) hx hb xd_La_law_198 (by decide) ?_
        refine lv_goto (tgt := 203) hx hb xd_La_law_199 (by decide) ?_
        have hPc := xp_PL (xp_PL hP)
        have hDc := xp_DL (xp_DL hD)
        have hFc := va_free (wc := moW hm mm kA v g) hD hS hA [0, 1, 2, 3, 4, 5, 6, 7, 8, 9, 10, 11, 12, 13, 14, 15, 16, 17, 18, 19, 20, 21, 22, 23, 24, 25] rfl
        refine va_calli (va_runV (As := [.int (xs (nI (i + 1)).toNatClampNeg), .int (xs (nI (i + 2)).toNatClampNeg), .int 1]) (rest := []) ⟨hx, hb, hml, hown, hT⟩ (xc_Mo_layerX l D kA H.size hm mm v g (xs (nI (i + 1)).toNatClampNeg) (xs (nI (i + 2)).toNatClampNeg) 1 len nd ml hMI hv2 hl40 hv4 hnd12 hv5 hml5) (cwV 3 hT (wT_V k6g_22 k6g_23 k6g_24 k6g_9 k6g_21) rfl rfl rfl (by decide +kernel) ⟨Nat.le_of_ble_eq_true rfl, Nat.le_of_ble_eq_true rfl⟩) (x_preV hK hPc hDc 0 rfl rfl) rfl rfl hl.1 rfl (lv_room (Nat.le_of_ble_eq_true rfl)) xd_La_law_203 ⟨(show 40 + 110 * k + 101 + 0 ≤ 601024 by omega), (show 2000 + 600 * k + 430 + 0 ≤ 7293034 by omega)⟩) hS (fun q _ h => hFc q h) hFc (fun r40 u t H1 locs ht hvm hpost hB hz1 hk1 hS => ?_)
        obtain ⟨v41, g42⟩ := u
        obtain ⟨hP1, hD1⟩ := hB
        rw [ht] at hP1
        obtain ⟨hP, hD⟩ := va_joinQ (X := (moW hm mm kA v g ++ [(ob, .inl (kA 3, 1, .inr (.inl fo38)))])) (cx := moW hm mm kA v g) (wr := [(ob, .inl (kA 3, 1, .inr (.inl fo38)))]) (w1 := moW hm mm kA v41 g42) hP hD [0, 1, 2, 3, 4, 5, 6, 7, 8, 9, 10, 11, 12, 13, 14, 15, 16, 17, 18, 19, 20, 21, 22, 23, 24, 25] [26] rfl rfl (by decide) (by decide) hk1 hFc hP1 hD1
        have hP := xp_swP hP
        have hD := xp_swD hD
        generalize H1 = H at hP hS ⊢
        have hP : va_P D xcl ((moW hm mm kA v41 g42 ++ [(ob, .inl (kA 3, 1, .inr (.inl fo38)))]) ++ rp ad35 E36 RL37) H := hP
        have hD : va_D A ((moW hm mm kA v41 g42 ++ [(ob, .inl (kA 3, 1, .inr (.inl fo38)))]) ++ rp ad35 E36 RL37) := hD
        have hMIo := hMI
        have hXTo := hXT
        obtain ⟨code, why, hc0, hw1, hv2, hq4, hMI, hR⟩ := hpost
        obtain ⟨hkc, hko, _, ml43, wn44, cs45, hCI, hu5, hwhy, hXT⟩ := ly_join hCIo hXT hY hR
        have hCI : CI kA ad35 E36 RL37 ml43 nd 0 wn44 cs45 := hCI
        have hv2 : v41 2 = nI 0 := hv2
        have hv4 : v41 4 = nI nd := hq4.trans hv4
        have hv5 : v41 5 = nI ml43 := hu5
        have hv1 : v41 1 = eI (E36 0 0) 5 := hw1.trans hwhy
        have hNS : NSs g42 ml43 := by
          obtain ⟨mlx, hx5, hxe, hNSx⟩ := ly_ns hCIo hXTo hMIo.2.2.2.1 hNS hY hR
          have hb9 := (CI_b hCI).2.2.1
          rw [← nI_inj (a := mlx) (b := ml43) (by omega) (by omega) (hxe.symm.trans hu5)]; exact hNSx
        refine lv_istore hx hb xd_La_law_206 hl (Nat.le_of_ble_eq_true rfl) rfl (fun ls hl => ?_)
        have hl : lv_has ls 7 [(6, .int r40), (5, .int r34), (4, .int (nI i)), (3, .ref ob), (2, .ref hm), (1, .ref (ad35 0 0)), (0, .ref b0)] := hl
        refine lv_goto (tgt := 569) hx hb xd_La_law_208 (by decide) ?_
        refine W.widen (k := 40 + 110 * (k + 1)) (n := 2000 + 600 * (k + 1)) (show 40 + 110 * k + 101 ≤ 40 + 110 * (k + 1) by omega) (show 2000 + 600 * k + 430 ≤ 2000 + 600 * (k + 1) by omega) ?_
        refine lv_iinc (k := 2) (x := (nI i)) (v := (nI (i + 5))) hx hb xd_La_law_569 hl rfl (xb_inc i 5) (Nat.le_of_ble_eq_true rfl) rfl (fun ls hl => ?_)
        have hl : lv_has ls 7 [(4, .int (nI (i + 5))), (6, .int r40), (5, .int r34), (3, .ref ob), (2, .ref hm), (1, .ref (ad35 0 0)), (0, .ref b0)] := hl
        refine lv_goto (tgt := 23) hx hb xd_La_law_572 (by decide) ?_
        exact ih1 (i + 5, k + 1, ad35, E36, RL37, v41, g42, fo38, ml43, nd, 0, wn44, cs45) _ _ _ (show 600 - (k + 1) < 600 - k by omega) (lv_sub hl [0, 3, 4, 5, 6] rfl) hP hD hS ⟨(show (i + 5) = 5 * (k + 1) from by first | assumption | omega), (show (i + 5) ≤ L ∨ (i + 5) = 0 from by first | assumption | omega), (show CI kA ad35 E36 RL37 ml43 nd 0 wn44 cs45 from hCI), (show MI v41 g42 from hMI), (show v41 2 = nI 0 from hv2), (show v41 4 = nI nd from hv4), (show v41 5 = nI ml43 from hv5), (show v41 1 = eI (E36 0 0) 5 from hv1), (show XT g42 ad35 E36 nd ml43 0 from hXT), (show NSs g42 ml43 from hNS)⟩
    by_cases hw46 : ((xs (nI i).toNatClampNeg) &&& 15) = 3
    · refine lv_tableIn (off := 172) (tgt := 211) hx hb xd_La_law_39 (by rw [hw46]; decide) (by rw [hw46]; decide) (by rw [hw46]; rfl) (by decide) ?_
      refine lv_aload_n hx hb xd_La_law_211 rfl (lv_at hl 3 rfl) ?_
      have hPc := xp_P (X := (moW hm mm kA v g ++ [(ob, .inl (kA 3, 1, .inr (.inl fo)))])) hP
      have hDc := xp_D (X := (moW hm mm kA v g ++ [(ob, .inl (kA 3, 1, .inr (.inl fo)))])) hD
      have hFc := va_freeP (X := (moW hm mm kA v g ++ [(ob, .inl (kA 3, 1, .inr (.inl fo)))])) (cx := []) hD hS hA [] rfl
      obtain ⟨lf, hc0⟩ := hCI.2.1
      refine va_calli (va_runV (As := []) (rest := []) ⟨hx, hb, hml, hown, hT⟩ (xc_De_fault l D kA H.size ad E RL ml nd len wn cs hCI) (cwV 0 hT (wT_V k6g_26 k6g_27 k6g_28 k6g_4 k6g_25) rfl rfl rfl (by decide +kernel) ⟨Nat.le_of_ble_eq_true rfl, Nat.le_of_ble_eq_true rfl⟩) (px_preV hK hPc hDc (hCI.1 0 (by decide)) hc0 rfl) rfl rfl hl.1 rfl (lv_room (Nat.le_of_ble_eq_true rfl)) xd_La_law_212 ⟨(show 40 + 110 * k + 0 ≤ 601024 by omega), (show 2000 + 600 * k + 0 ≤ 7293034 by omega)⟩) hS (fun q _ h => hFc q h) hFc (fun r47 u t H1 locs ht hvm hpost hB hz1 hk1 hS => ?_)
      obtain ⟨hP1, hD1⟩ := hB
      rw [ht] at hP1
      obtain ⟨hP, hD⟩ := va_joinP (X := (moW hm mm kA v g ++ [(ob, .inl (kA 3, 1, .inr (.inl fo)))])) (cx := []) (wr := (moW hm mm kA v g ++ [(ob, .inl (kA 3, 1, .inr (.inl fo)))])) (rx := []) hP hD [] [0, 1, 2, 3, 4, 5, 6, 7, 8, 9, 10, 11, 12, 13, 14, 15, 16, 17, 18, 19, 20, 21, 22, 23, 24, 25, 26] rfl rfl (by decide) (by decide) hk1 hFc hP1 hD1
      generalize H1 = H at hP hS ⊢
      have hP : va_P D xcl ((moW hm mm kA v g ++ [(ob, .inl (kA 3, 1, .inr (.inl fo)))]) ++ rp ad E RL) H := hP
      have hD : va_D A ((moW hm mm kA v g ++ [(ob, .inl (kA 3, 1, .inr (.inl fo)))]) ++ rp ad E RL) := hD
      have hCIo := hCI
      refine lv_pop hx hb xd_La_law_215 rfl ?_
      refine lv_aload_n hx hb xd_La_law_216 rfl (lv_at hl 2 rfl) ?_
      have hPc := xp_PL (xp_PL hP)
      have hDc := xp_DL (xp_DL hD)
      have hFc := va_free (wc := moW hm mm kA v g) hD hS hA [0, 1, 2, 3, 4, 5, 6, 7, 8, 9, 10, 11, 12, 13, 14, 15, 16, 17, 18, 19, 20, 21, 22, 23, 24, 25] rfl
      refine va_calli (va_runV (As := []) (rest := []) ⟨hx, hb, hml, hown, hT⟩ (xc_Mo_faultK l D kA H.size hm mm v g hMI) (cwV 0 hT (wT_V k6g_30 k6g_31 k6g_32 k6g_9 k6g_29) rfl rfl rfl (by decide +kernel) ⟨Nat.le_of_ble_eq_true rfl, Nat.le_of_ble_eq_true rfl⟩) (x_preV hK hPc hDc 0 rfl rfl) rfl rfl hl.1 rfl (lv_room (Nat.le_of_ble_eq_true rfl)) xd_La_law_217 ⟨(show 40 + 110 * k + 0 ≤ 601024 by omega), (show 2000 + 600 * k + 0 ≤ 7293034 by omega)⟩) hS (fun q _ h => hFc q h) hFc (fun r48 u t H1 locs ht hvm hpost hB hz1 hk1 hS => ?_)
      obtain ⟨v49, g50⟩ := u
      obtain ⟨hP1, hD1⟩ := hB
      rw [ht] at hP1
      obtain ⟨hP, hD⟩ := va_joinQ (X := (moW hm mm kA v g ++ [(ob, .inl (kA 3, 1, .inr (.inl fo)))])) (cx := moW hm mm kA v g) (wr := [(ob, .inl (kA 3, 1, .inr (.inl fo)))]) (w1 := moW hm mm kA v49 g50) hP hD [0, 1, 2, 3, 4, 5, 6, 7, 8, 9, 10, 11, 12, 13, 14, 15, 16, 17, 18, 19, 20, 21, 22, 23, 24, 25] [26] rfl rfl (by decide) (by decide) hk1 hFc hP1 hD1
      have hP := xp_swP hP
      have hD := xp_swD hD
      generalize H1 = H at hP hS ⊢
      have hP : va_P D xcl ((moW hm mm kA v49 g50 ++ [(ob, .inl (kA 3, 1, .inr (.inl fo)))]) ++ rp ad E RL) H := hP
      have hD : va_D A ((moW hm mm kA v49 g50 ++ [(ob, .inl (kA 3, 1, .inr (.inl fo)))]) ++ rp ad E RL) := hD
      have hMIo := hMI
      have hXTo := hXT
      obtain ⟨hMI, hq2, hq1, hq4, hq5, hqg⟩ := hpost
      have hXT : XT g50 ad E nd ml len := sk_join hCI hXT hqg
      have hv2 : v49 2 = nI len := hq2.trans hv2
      have hv4 : v49 4 = nI nd := hq4.trans hv4
      have hv5 : v49 5 = nI ml := hq5.trans hv5
      have hv1 : v49 1 = eI (E 0 0) 5 := hq1.trans hv1
      have hNS : NSs g50 ml := NS_r (LKP_C hCIo hXTo.2.2.1) (fun j a b c => hqg j (by omega) (by omega) (by omega)) hMIo.2.2.2.1 hNS
      refine lv_pop hx hb xd_La_law_220 rfl ?_
      refine lv_goto (tgt := 569) hx hb xd_La_law_221 (by decide) ?_
      refine W.widen (k := 40 + 110 * (k + 1)) (n := 2000 + 600 * (k + 1)) (show 40 + 110 * k ≤ 40 + 110 * (k + 1) by omega) (show 2000 + 600 * k ≤ 2000 + 600 * (k + 1) by omega) ?_
      refine lv_iinc (k := 0) (x := (nI i)) (v := (nI (i + 5))) hx hb xd_La_law_569 hl rfl (xb_inc i 5) (Nat.le_of_ble_eq_true rfl) rfl (fun ls hl => ?_)
      have hl : lv_has ls 7 [(4, .int (nI (i + 5))), (3, .ref ob), (2, .ref hm), (1, .ref (ad 0 0)), (0, .ref b0)] := hl
      refine lv_goto (tgt := 23) hx hb xd_La_law_572 (by decide) ?_
      exact ih1 (i + 5, k + 1, ad, E, RL, v49, g50, fo, ml, nd, len, wn, cs) _ _ _ (show 600 - (k + 1) < 600 - k by omega) (lv_sub hl [0, 1, 2, 3, 4] rfl) hP hD hS ⟨(show (i + 5) = 5 * (k + 1) from by first | assumption | omega), (show (i + 5) ≤ L ∨ (i + 5) = 0 from by first | assumption | omega), (show CI kA ad E RL ml nd len wn cs from hCI), (show MI v49 g50 from hMI), (show v49 2 = nI len from hv2), (show v49 4 = nI nd from hv4), (show v49 5 = nI ml from hv5), (show v49 1 = eI (E 0 0) 5 from hv1), (show XT g50 ad E nd ml len from hXT), (show NSs g50 ml from hNS)⟩
    by_cases hw51 : ((xs (nI i).toNatClampNeg) &&& 15) = 4
    · refine lv_tableIn (off := 185) (tgt := 224) hx hb xd_La_law_39 (by rw [hw51]; decide) (by rw [hw51]; decide) (by rw [hw51]; rfl) (by decide) ?_
      refine lv_aload_n hx hb xd_La_law_224 rfl (lv_at hl 3 rfl) ?_
      refine lv_aload_n hx hb xd_La_law_225 rfl (lv_at hl 4 rfl) ?_
      refine lv_iload hx hb xd_La_law_226 (lv_at hl 0 rfl) ?_
      refine lv_iconst (v := 1) hx hb xd_La_law_228 (by decide) ?_
      refine lv_iadd hx hb xd_La_law_229 ?_
      refine xn_top (y := nI (i + 1)) (nI_add i 1) ?_
      refine va_sld (i := nI (i + 1)) hx hb hX hbl hbA hS (vp_in_nI (by omega) (by omega)) xd_La_law_230 ?_
      have hPc := xp_P (X := (moW hm mm kA v g ++ [(ob, .inl (kA 3, 1, .inr (.inl fo)))])) hP
      have hDc := xp_D (X := (moW hm mm kA v g ++ [(ob, .inl (kA 3, 1, .inr (.inl fo)))])) hD
      have hFc := va_freeP (X := (moW hm mm kA v g ++ [(ob, .inl (kA 3, 1, .inr (.inl fo)))])) (cx := []) hD hS hA [] rfl
      obtain ⟨lf, hc0⟩ := hCI.2.1
      refine va_calli (va_runV (As := [.int (xs (nI (i + 1)).toNatClampNeg)]) (rest := []) ⟨hx, hb, hml, hown, hT⟩ (xc_De_closeX l D kA H.size ad E RL g ml nd len wn cs (xs (nI (i + 1)).toNatClampNeg) hCI hXT.2.2.1) (cwV 1 hT (wT_V k6g_34 k6g_35 k6g_36 k6g_4 k6g_33) rfl rfl rfl (by decide +kernel) ⟨Nat.le_of_ble_eq_true rfl, Nat.le_of_ble_eq_true rfl⟩) (px_preV hK hPc hDc (hCI.1 0 (by decide)) hc0 rfl) rfl rfl hl.1 rfl (lv_room (Nat.le_of_ble_eq_true rfl)) xd_La_law_231 ⟨(show 40 + 110 * k + 0 ≤ 601024 by omega), (show 2000 + 600 * k + 0 ≤ 7293034 by omega)⟩) hS (fun q _ h => hFc q h) hFc (fun r52 u t H1 locs ht hvm hpost hB hz1 hk1 hS => ?_)
      obtain ⟨hP1, hD1⟩ := hB
      rw [ht] at hP1
      obtain ⟨hP, hD⟩ := va_joinP (X := (moW hm mm kA v g ++ [(ob, .inl (kA 3, 1, .inr (.inl fo)))])) (cx := []) (wr := (moW hm mm kA v g ++ [(ob, .inl (kA 3, 1, .inr (.inl fo)))])) (rx := []) hP hD [] [0, 1, 2, 3, 4, 5, 6, 7, 8, 9, 10, 11, 12, 13, 14, 15, 16, 17, 18, 19, 20, 21, 22, 23, 24, 25, 26] rfl rfl (by decide) (by decide) hk1 hFc hP1 hD1
      generalize H1 = H at hP hS ⊢
      obtain ⟨E53, rfl⟩ : ∃ z, z = u := ⟨_, rfl⟩
      have hP : va_P D xcl ((moW hm mm kA v g ++ [(ob, .inl (kA 3, 1, .inr (.inl fo)))]) ++ rp ad E53 RL) H := hP
      have hD : va_D A ((moW hm mm kA v g ++ [(ob, .inl (kA 3, 1, .inr (.inl fo)))]) ++ rp ad E53 RL) := hD
      have hCIo := hCI
      obtain ⟨hCI, hfc, hTLc, hans1⟩ := hpost
      refine lv_pop hx hb xd_La_law_234 rfl ?_
      refine lv_aload_n hx hb xd_La_law_235 rfl (lv_at hl 2 rfl) ?_
      refine lv_aload_n hx hb xd_La_law_236 rfl (lv_at hl 4 rfl) ?_
      refine lv_iload hx hb xd_La_law_237 (lv_at hl 0 rfl) ?_
      refine lv_iconst (v := 1) hx hb xd_La_law_239 (by decide) ?_
      refine lv_iadd hx hb xd_La_law_240 ?_
      refine xn_top (y := nI (i + 1)) (nI_add i 1) ?_
      refine va_sld (i := nI (i + 1)) hx hb hX hbl hbA hS (vp_in_nI (by omega) (by omega)) xd_La_law_241 ?_
      have hPc := xp_PL (xp_PL hP)
      have hDc := xp_DL (xp_DL hD)
      have hFc := va_free (wc := moW hm mm kA v g) hD hS hA [0, 1, 2, 3, 4, 5, 6, 7, 8, 9, 10, 11, 12, 13, 14, 15, 16, 17, 18, 19, 20, 21, 22, 23, 24, 25] rfl
      refine va_calli (va_runV (As := [.int (xs (nI (i + 1)).toNatClampNeg)]) (rest := []) ⟨hx, hb, hml, hown, hT⟩ (xc_Mo_closeX l D kA H.size hm mm v g (xs (nI (i + 1)).toNatClampNeg) ml hMI hv5 hml5) (cwV 1 hT (wT_V k6g_38 k6g_39 k6g_40 k6g_9 k6g_37) rfl rfl rfl (by decide +kernel) ⟨Nat.le_of_ble_eq_true rfl, Nat.le_of_ble_eq_true rfl⟩) (x_preV hK hPc hDc 0 rfl rfl) rfl rfl hl.1 rfl (lv_room (Nat.le_of_ble_eq_true rfl)) xd_La_law_242 ⟨(show 40 + 110 * k + 0 ≤ 601024 by omega), (show 2000 + 600 * k + 0 ≤ 7293034 by omega)⟩) hS (fun q _ h => hFc q h) hFc (fun r54 u t H1 locs ht hvm hpost hB hz1 hk1 hS => ?_)
      obtain ⟨v55, g56⟩ := u
      obtain ⟨hP1, hD1⟩ := hB
      rw [ht] at hP1
      obtain ⟨hP, hD⟩ := va_joinQ (X := (moW hm mm kA v g ++ [(ob, .inl (kA 3, 1, .inr (.inl fo)))])) (cx := moW hm mm kA v g) (wr := [(ob, .inl (kA 3, 1, .inr (.inl fo)))]) (w1 := moW hm mm kA v55 g56) hP hD [0, 1, 2, 3, 4, 5, 6, 7, 8, 9, 10, 11, 12, 13, 14, 15, 16, 17, 18, 19, 20, 21, 22, 23, 24, 25] [26] rfl rfl (by decide) (by decide) hk1 hFc hP1 hD1
      have hP := xp_swP hP
      have hD := xp_swD hD
      generalize H1 = H at hP hS ⊢
      have hP : va_P D xcl ((moW hm mm kA v55 g56 ++ [(ob, .inl (kA 3, 1, .inr (.inl fo)))]) ++ rp ad E53 RL) H := hP
      have hD : va_D A ((moW hm mm kA v55 g56 ++ [(ob, .inl (kA 3, 1, .inr (.inl fo)))]) ++ rp ad E53 RL) := hD
      have hMIo := hMI
      have hXTo := hXT
      obtain ⟨hMI, hq1, hq2, hq4, hq5, hqg⟩ := hpost
      have hqg : g56 = clF ml g (xs (nI (i + 1)).toNatClampNeg) := hqg
      have hXT : XT g56 ad E53 nd ml len := by rw [hqg]; exact cl_join hCIo hCI hfc hTLc hXT
      have hv2 : v55 2 = nI len := hq2.trans hv2
      have hv4 : v55 4 = nI nd := hq4.trans hv4
      have hv5 : v55 5 = nI ml := hq5.trans hv5
      have hv1 : v55 1 = eI (E53 0 0) 5 := by rw [hfc 0 0 (Or.inr (by omega))]; exact hq1.trans hv1
      have hNS : NSs g56 ml := NS_r (LKP_C hCIo hXTo.2.2.1) (fun j a b c => by rw [hqg]; exact clF_o (by omega)) hMIo.2.2.2.1 hNS
      refine lv_pop hx hb xd_La_law_245 rfl ?_
      refine lv_goto (tgt := 569) hx hb xd_La_law_246 (by decide) ?_
      refine W.widen (k := 40 + 110 * (k + 1)) (n := 2000 + 600 * (k + 1)) (show 40 + 110 * k ≤ 40 + 110 * (k + 1) by omega) (show 2000 + 600 * k ≤ 2000 + 600 * (k + 1) by omega) ?_
      refine lv_iinc (k := 0) (x := (nI i)) (v := (nI (i + 5))) hx hb xd_La_law_569 hl rfl (xb_inc i 5) (Nat.le_of_ble_eq_true rfl) rfl (fun ls hl => ?_)
      have hl : lv_has ls 7 [(4, .int (nI (i + 5))), (3, .ref ob), (2, .ref hm), (1, .ref (ad 0 0)), (0, .ref b0)] := hl
      refine lv_goto (tgt := 23) hx hb xd_La_law_572 (by decide) ?_
      exact ih1 (i + 5, k + 1, ad, E53, RL, v55, g56, fo, ml, nd, len, wn, cs) _ _ _ (show 600 - (k + 1) < 600 - k by omega) (lv_sub hl [0, 1, 2, 3, 4] rfl) hP hD hS ⟨(show (i + 5) = 5 * (k + 1) from by first | assumption | omega), (show (i + 5) ≤ L ∨ (i + 5) = 0 from by first | assumption | omega), (show CI kA ad E53 RL ml nd len wn cs from hCI), (show MI v55 g56 from hMI), (show v55 2 = nI len from hv2), (show v55 4 = nI nd from hv4), (show v55 5 = nI ml from hv5), (show v55 1 = eI (E53 0 0) 5 from hv1), (show XT g56 ad E53 nd ml len from hXT), (show NSs g56 ml from hNS)⟩
    by_cases hw57 : ((xs (nI i).toNatClampNeg) &&& 15) = 5
    · refine lv_tableIn (off := 210) (tgt := 249) hx hb xd_La_law_39 (by rw [hw57]; decide) (by rw [hw57]; decide) (by rw [hw57]; rfl) (by decide) ?_
      refine lv_aload_n hx hb xd_La_law_249 rfl (lv_at hl 3 rfl) ?_
      refine lv_aload_n hx hb xd_La_law_250 rfl (lv_at hl 4 rfl) ?_
      refine lv_iload hx hb xd_La_law_251 (lv_at hl 0 rfl) ?_
      refine lv_iconst (v := 1) hx hb xd_La_law_253 (by decide) ?_
      refine lv_iadd hx hb xd_La_law_254 ?_
      refine xn_top (y := nI (i + 1)) (nI_add i 1) ?_
      refine va_sld (i := nI (i + 1)) hx hb hX hbl hbA hS (vp_in_nI (by omega) (by omega)) xd_La_law_255 ?_
      have hPc := xp_P (X := (moW hm mm kA v g ++ [(ob, .inl (kA 3, 1, .inr (.inl fo)))])) hP
      have hDc := xp_D (X := (moW hm mm kA v g ++ [(ob, .inl (kA 3, 1, .inr (.inl fo)))])) hD
      have hFc := va_freeP (X := (moW hm mm kA v g ++ [(ob, .inl (kA 3, 1, .inr (.inl fo)))])) (cx := []) hD hS hA [] rfl
      obtain ⟨lf, hc0⟩ := hCI.2.1
      refine va_calli (va_runV (As := [.int (xs (nI (i + 1)).toNatClampNeg)]) (rest := []) ⟨hx, hb, hml, hown, hT⟩ (xc_De_count l D kA H.size ad E RL ml nd len wn cs (xs (nI (i + 1)).toNatClampNeg) hCI) (cwV 1 hT (wT_V k6g_42 k6g_43 k6g_44 k6g_4 k6g_41) rfl rfl rfl (by decide +kernel) ⟨Nat.le_of_ble_eq_true rfl, Nat.le_of_ble_eq_true rfl⟩) (px_preV hK hPc hDc (hCI.1 0 (by decide)) hc0 rfl) rfl rfl hl.1 rfl (lv_room (Nat.le_of_ble_eq_true rfl)) xd_La_law_256 ⟨(show 40 + 110 * k + 0 ≤ 601024 by omega), (show 2000 + 600 * k + 0 ≤ 7293034 by omega)⟩) hS (fun q _ h => hFc q h) hFc (fun r58 u t H1 locs ht hvm hpost hB hz1 hk1 hS => ?_)
      obtain ⟨hP1, hD1⟩ := hB
      rw [ht] at hP1
      obtain ⟨hP, hD⟩ := va_joinP (X := (moW hm mm kA v g ++ [(ob, .inl (kA 3, 1, .inr (.inl fo)))])) (cx := []) (wr := (moW hm mm kA v g ++ [(ob, .inl (kA 3, 1, .inr (.inl fo)))])) (rx := []) hP hD [] [0, 1, 2, 3, 4, 5, 6, 7, 8, 9, 10, 11, 12, 13, 14, 15, 16, 17, 18, 19, 20, 21, 22, 23, 24, 25, 26] rfl rfl (by decide) (by decide) hk1 hFc hP1 hD1
      generalize H1 = H at hP hS ⊢
      have hP : va_P D xcl ((moW hm mm kA v g ++ [(ob, .inl (kA 3, 1, .inr (.inl fo)))]) ++ rp ad E RL) H := hP
      have hD : va_D A ((moW hm mm kA v g ++ [(ob, .inl (kA 3, 1, .inr (.inl fo)))]) ++ rp ad E RL) := hD
      have hCIo := hCI
      refine lv_pop hx hb xd_La_law_259 rfl ?_
      refine lv_aload_n hx hb xd_La_law_260 rfl (lv_at hl 2 rfl) ?_
      refine lv_aload_n hx hb xd_La_law_261 rfl (lv_at hl 4 rfl) ?_
      refine lv_iload hx hb xd_La_law_262 (lv_at hl 0 rfl) ?_
      refine lv_iconst (v := 1) hx hb xd_La_law_264 (by decide) ?_
      refine lv_iadd hx hb xd_La_law_265 ?_
      refine xn_top (y := nI (i + 1)) (nI_add i 1) ?_
      refine va_sld (i := nI (i + 1)) hx hb hX hbl hbA hS (vp_in_nI (by omega) (by omega)) xd_La_law_266 ?_
      have hPc := xp_PL (xp_PL hP)
      have hDc := xp_DL (xp_DL hD)
      have hFc := va_free (wc := moW hm mm kA v g) hD hS hA [0, 1, 2, 3, 4, 5, 6, 7, 8, 9, 10, 11, 12, 13, 14, 15, 16, 17, 18, 19, 20, 21, 22, 23, 24, 25] rfl
      refine va_calli (va_runV (As := [.int (xs (nI (i + 1)).toNatClampNeg)]) (rest := []) ⟨hx, hb, hml, hown, hT⟩ (xc_Mo_countK l D kA H.size hm mm v g (xs (nI (i + 1)).toNatClampNeg) hMI) (cwV 1 hT (wT_V k6g_46 k6g_47 k6g_48 k6g_9 k6g_45) rfl rfl rfl (by decide +kernel) ⟨Nat.le_of_ble_eq_true rfl, Nat.le_of_ble_eq_true rfl⟩) (x_preV hK hPc hDc 0 rfl rfl) rfl rfl hl.1 rfl (lv_room (Nat.le_of_ble_eq_true rfl)) xd_La_law_267 ⟨(show 40 + 110 * k + 0 ≤ 601024 by omega), (show 2000 + 600 * k + 0 ≤ 7293034 by omega)⟩) hS (fun q _ h => hFc q h) hFc (fun r59 u t H1 locs ht hvm hpost hB hz1 hk1 hS => ?_)
      obtain ⟨v60, g61⟩ := u
      obtain ⟨hP1, hD1⟩ := hB
      rw [ht] at hP1
      obtain ⟨hP, hD⟩ := va_joinQ (X := (moW hm mm kA v g ++ [(ob, .inl (kA 3, 1, .inr (.inl fo)))])) (cx := moW hm mm kA v g) (wr := [(ob, .inl (kA 3, 1, .inr (.inl fo)))]) (w1 := moW hm mm kA v60 g61) hP hD [0, 1, 2, 3, 4, 5, 6, 7, 8, 9, 10, 11, 12, 13, 14, 15, 16, 17, 18, 19, 20, 21, 22, 23, 24, 25] [26] rfl rfl (by decide) (by decide) hk1 hFc hP1 hD1
      have hP := xp_swP hP
      have hD := xp_swD hD
      generalize H1 = H at hP hS ⊢
      have hP : va_P D xcl ((moW hm mm kA v60 g61 ++ [(ob, .inl (kA 3, 1, .inr (.inl fo)))]) ++ rp ad E RL) H := hP
      have hD : va_D A ((moW hm mm kA v60 g61 ++ [(ob, .inl (kA 3, 1, .inr (.inl fo)))]) ++ rp ad E RL) := hD
      have hMIo := hMI
      have hXTo := hXT
      obtain ⟨hMI, hq2, hq1, hq4, hq5, hqg⟩ := hpost
      have hXT : XT g61 ad E nd ml len := sk_join hCI hXT hqg
      have hv2 : v60 2 = nI len := hq2.trans hv2
      have hv4 : v60 4 = nI nd := hq4.trans hv4
      have hv5 : v60 5 = nI ml := hq5.trans hv5
      have hv1 : v60 1 = eI (E 0 0) 5 := hq1.trans hv1
      have hNS : NSs g61 ml := NS_r (LKP_C hCIo hXTo.2.2.1) (fun j a b c => hqg j (by omega) (by omega) (by omega)) hMIo.2.2.2.1 hNS
      refine lv_pop hx hb xd_La_law_270 rfl ?_
      refine lv_goto (tgt := 569) hx hb xd_La_law_271 (by decide) ?_
      refine W.widen (k := 40 + 110 * (k + 1)) (n := 2000 + 600 * (k + 1)) (show 40 + 110 * k ≤ 40 + 110 * (k + 1) by omega) (show 2000 + 600 * k ≤ 2000 + 600 * (k + 1) by omega) ?_
      refine lv_iinc (k := 0) (x := (nI i)) (v := (nI (i + 5))) hx hb xd_La_law_569 hl rfl (xb_inc i 5) (Nat.le_of_ble_eq_true rfl) rfl (fun ls hl => ?_)
      have hl : lv_has ls 7 [(4, .int (nI (i + 5))), (3, .ref ob), (2, .ref hm), (1, .ref (ad 0 0)), (0, .ref b0)] := hl
      refine lv_goto (tgt := 23) hx hb xd_La_law_572 (by decide) ?_
      exact ih1 (i + 5, k + 1, ad, E, RL, v60, g61, fo, ml, nd, len, wn, cs) _ _ _ (show 600 - (k + 1) < 600 - k by omega) (lv_sub hl [0, 1, 2, 3, 4] rfl) hP hD hS ⟨(show (i + 5) = 5 * (k + 1) from by first | assumption | omega), (show (i + 5) ≤ L ∨ (i + 5) = 0 from by first | assumption | omega), (show CI kA ad E RL ml nd len wn cs from hCI), (show MI v60 g61 from hMI), (show v60 2 = nI len from hv2), (show v60 4 = nI nd from hv4), (show v60 5 = nI ml from hv5), (show v60 1 = eI (E 0 0) 5 from hv1), (show XT g61 ad E nd ml len from hXT), (show NSs g61 ml from hNS)⟩
    by_cases hw62 : ((xs (nI i).toNatClampNeg) &&& 15) = 6
    · refine lv_tableIn (off := 235) (tgt := 274) hx hb xd_La_law_39 (by rw [hw62]; decide) (by rw [hw62]; decide) (by rw [hw62]; rfl) (by decide) ?_
      refine lv_aload_n hx hb xd_La_law_274 rfl (lv_at hl 3 rfl) ?_
      refine lv_aload_n hx hb xd_La_law_275 rfl (lv_at hl 4 rfl) ?_
      refine lv_iload hx hb xd_La_law_276 (lv_at hl 0 rfl) ?_
      refine lv_iconst (v := 1) hx hb xd_La_law_278 (by decide) ?_
      refine lv_iadd hx hb xd_La_law_279 ?_
      refine xn_top (y := nI (i + 1)) (nI_add i 1) ?_
      refine va_sld (i := nI (i + 1)) hx hb hX hbl hbA hS (vp_in_nI (by omega) (by omega)) xd_La_law_280 ?_
      have hPc := xp_P (X := (moW hm mm kA v g ++ [(ob, .inl (kA 3, 1, .inr (.inl fo)))])) hP
      have hDc := xp_D (X := (moW hm mm kA v g ++ [(ob, .inl (kA 3, 1, .inr (.inl fo)))])) hD
      have hFc := va_freeP (X := (moW hm mm kA v g ++ [(ob, .inl (kA 3, 1, .inr (.inl fo)))])) (cx := []) hD hS hA [] rfl
      obtain ⟨lf, hc0⟩ := hCI.2.1
      refine va_calli (va_runV (As := [.int (xs (nI (i + 1)).toNatClampNeg)]) (rest := []) ⟨hx, hb, hml, hown, hT⟩ (xc_De_modules l D kA H.size ad E RL ml nd len wn cs (xs (nI (i + 1)).toNatClampNeg) hCI) (cwV 1 hT (wT_V k6g_50 k6g_51 k6g_52 k6g_4 k6g_49) rfl rfl rfl (by decide +kernel) ⟨Nat.le_of_ble_eq_true rfl, Nat.le_of_ble_eq_true rfl⟩) (px_preV hK hPc hDc (hCI.1 0 (by decide)) hc0 rfl) rfl rfl hl.1 rfl (lv_room (Nat.le_of_ble_eq_true rfl)) xd_La_law_281 ⟨(show 40 + 110 * k + 0 ≤ 601024 by omega), (show 2000 + 600 * k + 0 ≤ 7293034 by omega)⟩) hS (fun q _ h => hFc q h) hFc (fun r63 u t H1 locs ht hvm hpost hB hz1 hk1 hS => ?_)
      obtain ⟨hP1, hD1⟩ := hB
      rw [ht] at hP1
      obtain ⟨hP, hD⟩ := va_joinP (X := (moW hm mm kA v g ++ [(ob, .inl (kA 3, 1, .inr (.inl fo)))])) (cx := []) (wr := (moW hm mm kA v g ++ [(ob, .inl (kA 3, 1, .inr (.inl fo)))])) (rx := []) hP hD [] [0, 1, 2, 3, 4, 5, 6, 7, 8, 9, 10, 11, 12, 13, 14, 15, 16, 17, 18, 19, 20, 21, 22, 23, 24, 25, 26] rfl rfl (by decide) (by decide) hk1 hFc hP1 hD1
      generalize H1 = H at hP hS ⊢
      have hP : va_P D xcl ((moW hm mm kA v g ++ [(ob, .inl (kA 3, 1, .inr (.inl fo)))]) ++ rp ad E RL) H := hP
      have hD : va_D A ((moW hm mm kA v g ++ [(ob, .inl (kA 3, 1, .inr (.inl fo)))]) ++ rp ad E RL) := hD
      have hCIo := hCI
      refine lv_pop hx hb xd_La_law_284 rfl ?_
      refine lv_aload_n hx hb xd_La_law_285 rfl (lv_at hl 2 rfl) ?_
      refine lv_aload_n hx hb xd_La_law_286 rfl (lv_at hl 4 rfl) ?_
      refine lv_iload hx hb xd_La_law_287 (lv_at hl 0 rfl) ?_
      refine lv_iconst (v := 1) hx hb xd_La_law_289 (by decide) ?_
      refine lv_iadd hx hb xd_La_law_290 ?_
      refine xn_top (y := nI (i + 1)) (nI_add i 1) ?_
      refine va_sld (i := nI (i + 1)) hx hb hX hbl hbA hS (vp_in_nI (by omega) (by omega)) xd_La_law_291 ?_
      have hPc := xp_PL (xp_PL hP)
      have hDc := xp_DL (xp_DL hD)
      have hFc := va_free (wc := moW hm mm kA v g) hD hS hA [0, 1, 2, 3, 4, 5, 6, 7, 8, 9, 10, 11, 12, 13, 14, 15, 16, 17, 18, 19, 20, 21, 22, 23, 24, 25] rfl
      refine va_calli (va_runV (As := [.int (xs (nI (i + 1)).toNatClampNeg)]) (rest := []) ⟨hx, hb, hml, hown, hT⟩ (xc_Mo_modulesK l D kA H.size hm mm v g (xs (nI (i + 1)).toNatClampNeg) hMI) (cwV 1 hT (wT_V k6g_54 k6g_55 k6g_56 k6g_9 k6g_53) rfl rfl rfl (by decide +kernel) ⟨Nat.le_of_ble_eq_true rfl, Nat.le_of_ble_eq_true rfl⟩) (x_preV hK hPc hDc 0 rfl rfl) rfl rfl hl.1 rfl (lv_room (Nat.le_of_ble_eq_true rfl)) xd_La_law_292 ⟨(show 40 + 110 * k + 0 ≤ 601024 by omega), (show 2000 + 600 * k + 0 ≤ 7293034 by omega)⟩) hS (fun q _ h => hFc q h) hFc (fun r64 u t H1 locs ht hvm hpost hB hz1 hk1 hS => ?_)
      obtain ⟨v65, g66⟩ := u
      obtain ⟨hP1, hD1⟩ := hB
      rw [ht] at hP1
      obtain ⟨hP, hD⟩ := va_joinQ (X := (moW hm mm kA v g ++ [(ob, .inl (kA 3, 1, .inr (.inl fo)))])) (cx := moW hm mm kA v g) (wr := [(ob, .inl (kA 3, 1, .inr (.inl fo)))]) (w1 := moW hm mm kA v65 g66) hP hD [0, 1, 2, 3, 4, 5, 6, 7, 8, 9, 10, 11, 12, 13, 14, 15, 16, 17, 18, 19, 20, 21, 22, 23, 24, 25] [26] rfl rfl (by decide) (by decide) hk1 hFc hP1 hD1
      have hP := xp_swP hP
      have hD := xp_swD hD
      generalize H1 = H at hP hS ⊢
      have hP : va_P D xcl ((moW hm mm kA v65 g66 ++ [(ob, .inl (kA 3, 1, .inr (.inl fo)))]) ++ rp ad E RL) H := hP
      have hD : va_D A ((moW hm mm kA v65 g66 ++ [(ob, .inl (kA 3, 1, .inr (.inl fo)))]) ++ rp ad E RL) := hD
      have hMIo := hMI
      have hXTo := hXT
      obtain ⟨hMI, hq2, hq1, hq4, hq5, hqg⟩ := hpost
      have hXT : XT g66 ad E nd ml len := sk_join hCI hXT hqg
      have hv2 : v65 2 = nI len := hq2.trans hv2
      have hv4 : v65 4 = nI nd := hq4.trans hv4
      have hv5 : v65 5 = nI ml := hq5.trans hv5
      have hv1 : v65 1 = eI (E 0 0) 5 := hq1.trans hv1
      have hNS : NSs g66 ml := NS_r (LKP_C hCIo hXTo.2.2.1) (fun j a b c => hqg j (by omega) (by omega) (by omega)) hMIo.2.2.2.1 hNS
      refine lv_pop hx hb xd_La_law_295 rfl ?_
      refine lv_goto (tgt := 569) hx hb xd_La_law_296 (by decide) ?_
      refine W.widen (k := 40 + 110 * (k + 1)) (n := 2000 + 600 * (k + 1)) (show 40 + 110 * k ≤ 40 + 110 * (k + 1) by omega) (show 2000 + 600 * k ≤ 2000 + 600 * (k + 1) by omega) ?_
      refine lv_iinc (k := 0) (x := (nI i)) (v := (nI (i + 5))) hx hb xd_La_law_569 hl rfl (xb_inc i 5) (Nat.le_of_ble_eq_true rfl) rfl (fun ls hl => ?_)
      have hl : lv_has ls 7 [(4, .int (nI (i + 5))), (3, .ref ob), (2, .ref hm), (1, .ref (ad 0 0)), (0, .ref b0)] := hl
      refine lv_goto (tgt := 23) hx hb xd_La_law_572 (by decide) ?_
      exact ih1 (i + 5, k + 1, ad, E, RL, v65, g66, fo, ml, nd, len, wn, cs) _ _ _ (show 600 - (k + 1) < 600 - k by omega) (lv_sub hl [0, 1, 2, 3, 4] rfl) hP hD hS ⟨(show (i + 5) = 5 * (k + 1) from by first | assumption | omega), (show (i + 5) ≤ L ∨ (i + 5) = 0 from by first | assumption | omega), (show CI kA ad E RL ml nd len wn cs from hCI), (show MI v65 g66 from hMI), (show v65 2 = nI len from hv2), (show v65 4 = nI nd from hv4), (show v65 5 = nI ml from hv5), (show v65 1 = eI (E 0 0) 5 from hv1), (show XT g66 ad E nd ml len from hXT), (show NSs g66 ml from hNS)⟩
    by_cases hw67 : ((xs (nI i).toNatClampNeg) &&& 15) = 7
    · refine lv_tableIn (off := 260) (tgt := 299) hx hb xd_La_law_39 (by rw [hw67]; decide) (by rw [hw67]; decide) (by rw [hw67]; rfl) (by decide) ?_
      refine lv_aload_n hx hb xd_La_law_299 rfl (lv_at hl 3 rfl) ?_
      refine lv_aload_n hx hb xd_La_law_300 rfl (lv_at hl 4 rfl) ?_
      refine lv_iload hx hb xd_La_law_301 (lv_at hl 0 rfl) ?_
      refine lv_iconst (v := 1) hx hb xd_La_law_303 (by decide) ?_
      refine lv_iadd hx hb xd_La_law_304 ?_
      refine xn_top (y := nI (i + 1)) (nI_add i 1) ?_
      refine va_sld (i := nI (i + 1)) hx hb hX hbl hbA hS (vp_in_nI (by omega) (by omega)) xd_La_law_305 ?_
      refine lv_aload_n hx hb xd_La_law_306 rfl (lv_at hl 4 rfl) ?_
      refine lv_iload hx hb xd_La_law_307 (lv_at hl 0 rfl) ?_
      refine lv_iconst (v := 2) hx hb xd_La_law_309 (by decide) ?_
      refine lv_iadd hx hb xd_La_law_310 ?_
      refine xn_top (y := nI (i + 2)) (nI_add i 2) ?_
      refine va_sld (i := nI (i + 2)) hx hb hX hbl hbA hS (vp_in_nI (by omega) (by omega)) xd_La_law_311 ?_
      have hPc := xp_P (X := (moW hm mm kA v g ++ [(ob, .inl (kA 3, 1, .inr (.inl fo)))])) hP
      have hDc := xp_D (X := (moW hm mm kA v g ++ [(ob, .inl (kA 3, 1, .inr (.inl fo)))])) hD
      have hFc := va_freeP (X := (moW hm mm kA v g ++ [(ob, .inl (kA 3, 1, .inr (.inl fo)))])) (cx := []) hD hS hA [] rfl
      obtain ⟨lf, hc0⟩ := hCI.2.1
      refine va_calli (va_runV (As := [.int (xs (nI (i + 1)).toNatClampNeg), .int (xs (nI (i + 2)).toNatClampNeg)]) (rest := []) ⟨hx, hb, hml, hown, hT⟩ (xc_De_module l D kA H.size ad E RL ml nd len wn cs (xs (nI (i + 1)).toNatClampNeg) (xs (nI (i + 2)).toNatClampNeg) hCI) (cwV 2 hT (wT_V k6g_58 k6g_59 k6g_60 k6g_4 k6g_57) rfl rfl rfl (by decide +kernel) ⟨Nat.le_of_ble_eq_true rfl, Nat.le_of_ble_eq_true rfl⟩) (px_preV hK hPc hDc (hCI.1 0 (by decide)) hc0 rfl) rfl rfl hl.1 rfl (lv_room (Nat.le_of_ble_eq_true rfl)) xd_La_law_312 ⟨(show 40 + 110 * k + 0 ≤ 601024 by omega), (show 2000 + 600 * k + 0 ≤ 7293034 by omega)⟩) hS (fun q _ h => hFc q h) hFc (fun r68 u t H1 locs ht hvm hpost hB hz1 hk1 hS => ?_)
      obtain ⟨hP1, hD1⟩ := hB
      rw [ht] at hP1
      obtain ⟨hP, hD⟩ := va_joinP (X := (moW hm mm kA v g ++ [(ob, .inl (kA 3, 1, .inr (.inl fo)))])) (cx := []) (wr := (moW hm mm kA v g ++ [(ob, .inl (kA 3, 1, .inr (.inl fo)))])) (rx := []) hP hD [] [0, 1, 2, 3, 4, 5, 6, 7, 8, 9, 10, 11, 12, 13, 14, 15, 16, 17, 18, 19, 20, 21, 22, 23, 24, 25, 26] rfl rfl (by decide) (by decide) hk1 hFc hP1 hD1
      generalize H1 = H at hP hS ⊢
      have hP : va_P D xcl ((moW hm mm kA v g ++ [(ob, .inl (kA 3, 1, .inr (.inl fo)))]) ++ rp ad E RL) H := hP
      have hD : va_D A ((moW hm mm kA v g ++ [(ob, .inl (kA 3, 1, .inr (.inl fo)))]) ++ rp ad E RL) := hD
      have hCIo := hCI
      refine lv_pop hx hb xd_La_law_315 rfl ?_
      refine lv_aload_n hx hb xd_La_law_316 rfl (lv_at hl 2 rfl) ?_
      refine lv_aload_n hx hb xd_La_law_317 rfl (lv_at hl 4 rfl) ?_
      refine lv_iload hx hb xd_La_law_318 (lv_at hl 0 rfl) ?_
      refine lv_iconst (v := 1) hx hb xd_La_law_320 (by decide) ?_
      refine lv_iadd hx hb xd_La_law_321 ?_
      refine xn_top (y := nI (i + 1)) (nI_add i 1) ?_
      refine va_sld (i := nI (i + 1)) hx hb hX hbl hbA hS (vp_in_nI (by omega) (by omega)) xd_La_law_322 ?_
      refine lv_aload_n hx hb xd_La_law_323 rfl (lv_at hl 4 rfl) ?_
      refine lv_iload hx hb xd_La_law_324 (lv_at hl 0 rfl) ?_
      refine lv_iconst (v := 2) hx hb xd_La_law_326 (by decide) ?_
      refine lv_iadd hx hb xd_La_law_327 ?_
      refine xn_top (y := nI (i + 2)) (nI_add i 2) ?_
      refine va_sld (i := nI (i + 2)) hx hb hX hbl hbA hS (vp_in_nI (by omega) (by omega)) xd_La_law_328 ?_
      have hPc := xp_PL (xp_PL hP)
      have hDc := xp_DL (xp_DL hD)
      have hFc := va_free (wc := moW hm mm kA v g) hD hS hA [0, 1, 2, 3, 4, 5, 6, 7, 8, 9, 10, 11, 12, 13, 14, 15, 16, 17, 18, 19, 20, 21, 22, 23, 24, 25] rfl
      refine va_calli (va_runV (As := [.int (xs (nI (i + 1)).toNatClampNeg), .int (xs (nI (i + 2)).toNatClampNeg)]) (rest := []) ⟨hx, hb, hml, hown, hT⟩ (xc_Mo_moduleK l D kA H.size hm mm v g (xs (nI (i + 1)).toNatClampNeg) (xs (nI (i + 2)).toNatClampNeg) hMI) (cwV 2 hT (wT_V k6g_62 k6g_63 k6g_64 k6g_9 k6g_61) rfl rfl rfl (by decide +kernel) ⟨Nat.le_of_ble_eq_true rfl, Nat.le_of_ble_eq_true rfl⟩) (x_preV hK hPc hDc 0 rfl rfl) rfl rfl hl.1 rfl (lv_room (Nat.le_of_ble_eq_true rfl)) xd_La_law_329 ⟨(show 40 + 110 * k + 0 ≤ 601024 by omega), (show 2000 + 600 * k + 0 ≤ 7293034 by omega)⟩) hS (fun q _ h => hFc q h) hFc (fun r69 u t H1 locs ht hvm hpost hB hz1 hk1 hS => ?_)
      obtain ⟨v70, g71⟩ := u
      obtain ⟨hP1, hD1⟩ := hB
      rw [ht] at hP1
      obtain ⟨hP, hD⟩ := va_joinQ (X := (moW hm mm kA v g ++ [(ob, .inl (kA 3, 1, .inr (.inl fo)))])) (cx := moW hm mm kA v g) (wr := [(ob, .inl (kA 3, 1, .inr (.inl fo)))]) (w1 := moW hm mm kA v70 g71) hP hD [0, 1, 2, 3, 4, 5, 6, 7, 8, 9, 10, 11, 12, 13, 14, 15, 16, 17, 18, 19, 20, 21, 22, 23, 24, 25] [26] rfl rfl (by decide) (by decide) hk1 hFc hP1 hD1
      have hP := xp_swP hP
      have hD := xp_swD hD
      generalize H1 = H at hP hS ⊢
      have hP : va_P D xcl ((moW hm mm kA v70 g71 ++ [(ob, .inl (kA 3, 1, .inr (.inl fo)))]) ++ rp ad E RL) H := hP
      have hD : va_D A ((moW hm mm kA v70 g71 ++ [(ob, .inl (kA 3, 1, .inr (.inl fo)))]) ++ rp ad E RL) := hD
      have hMIo := hMI
      have hXTo := hXT
      obtain ⟨hMI, hq2, hq1, hq4, hq5, hqg⟩ := hpost
      have hXT : XT g71 ad E nd ml len := sk_join hCI hXT hqg
      have hv2 : v70 2 = nI len := hq2.trans hv2
      have hv4 : v70 4 = nI nd := hq4.trans hv4
      have hv5 : v70 5 = nI ml := hq5.trans hv5
      have hv1 : v70 1 = eI (E 0 0) 5 := hq1.trans hv1
      have hNS : NSs g71 ml := NS_r (LKP_C hCIo hXTo.2.2.1) (fun j a b c => hqg j (by omega) (by omega) (by omega)) hMIo.2.2.2.1 hNS
      refine lv_pop hx hb xd_La_law_332 rfl ?_
      refine lv_goto (tgt := 569) hx hb xd_La_law_333 (by decide) ?_
      refine W.widen (k := 40 + 110 * (k + 1)) (n := 2000 + 600 * (k + 1)) (show 40 + 110 * k ≤ 40 + 110 * (k + 1) by omega) (show 2000 + 600 * k ≤ 2000 + 600 * (k + 1) by omega) ?_
      refine lv_iinc (k := 0) (x := (nI i)) (v := (nI (i + 5))) hx hb xd_La_law_569 hl rfl (xb_inc i 5) (Nat.le_of_ble_eq_true rfl) rfl (fun ls hl => ?_)
      have hl : lv_has ls 7 [(4, .int (nI (i + 5))), (3, .ref ob), (2, .ref hm), (1, .ref (ad 0 0)), (0, .ref b0)] := hl
      refine lv_goto (tgt := 23) hx hb xd_La_law_572 (by decide) ?_
      exact ih1 (i + 5, k + 1, ad, E, RL, v70, g71, fo, ml, nd, len, wn, cs) _ _ _ (show 600 - (k + 1) < 600 - k by omega) (lv_sub hl [0, 1, 2, 3, 4] rfl) hP hD hS ⟨(show (i + 5) = 5 * (k + 1) from by first | assumption | omega), (show (i + 5) ≤ L ∨ (i + 5) = 0 from by first | assumption | omega), (show CI kA ad E RL ml nd len wn cs from hCI), (show MI v70 g71 from hMI), (show v70 2 = nI len from hv2), (show v70 4 = nI nd from hv4), (show v70 5 = nI ml from hv5), (show v70 1 = eI (E 0 0) 5 from hv1), (show XT g71 ad E nd ml len from hXT), (show NSs g71 ml from hNS)⟩
    by_cases hw72 : ((xs (nI i).toNatClampNeg) &&& 15) = 8
    · refine lv_tableIn (off := 297) (tgt := 336) hx hb xd_La_law_39 (by rw [hw72]; decide) (by rw [hw72]; decide) (by rw [hw72]; rfl) (by decide) ?_
      refine lv_aload_n hx hb xd_La_law_336 rfl (lv_at hl 3 rfl) ?_
      refine lv_aload_n hx hb xd_La_law_337 rfl (lv_at hl 4 rfl) ?_
      refine lv_iload hx hb xd_La_law_338 (lv_at hl 0 rfl) ?_
      refine lv_iconst (v := 1) hx hb xd_La_law_340 (by decide) ?_
      refine lv_iadd hx hb xd_La_law_341 ?_
      refine xn_top (y := nI (i + 1)) (nI_add i 1) ?_
      refine va_sld (i := nI (i + 1)) hx hb hX hbl hbA hS (vp_in_nI (by omega) (by omega)) xd_La_law_342 ?_
      refine lv_aload_n hx hb xd_La_law_343 rfl (lv_at hl 4 rfl) ?_
      refine lv_iload hx hb xd_La_law_344 (lv_at hl 0 rfl) ?_
      refine lv_iconst (v := 2) hx hb xd_La_law_346 (by decide) ?_
      refine lv_iadd hx hb xd_La_law_347 ?_
      refine xn_top (y := nI (i + 2)) (nI_add i 2) ?_
      refine va_sld (i := nI (i + 2)) hx hb hX hbl hbA hS (vp_in_nI (by omega) (by omega)) xd_La_law_348 ?_
      refine lv_aload_n hx hb xd_La_law_349 rfl (lv_at hl 4 rfl) ?_
      refine lv_iload hx hb xd_La_law_350 (lv_at hl 0 rfl) ?_
      refine lv_iconst (v := 3) hx hb xd_La_law_352 (by decide) ?_
      refine lv_iadd hx hb xd_La_law_353 ?_
      refine xn_top (y := nI (i + 3)) (nI_add i 3) ?_
      refine va_sld (i := nI (i + 3)) hx hb hX hbl hbA hS (vp_in_nI (by omega) (by omega)) xd_La_law_354 ?_
      refine lv_aload_n hx hb xd_La_law_355 rfl (lv_at hl 4 rfl) ?_
      refine lv_iload hx hb xd_La_law_356 (lv_at hl 0 rfl) ?_
      refine lv_iconst (v := 4) hx hb xd_La_law_358 (by decide) ?_
      refine lv_iadd hx hb xd_La_law_359 ?_
      refine xn_top (y := nI (i + 4)) (nI_add i 4) ?_
      refine va_sld (i := nI (i + 4)) hx hb hX hbl hbA hS (vp_in_nI (by omega) (by omega)) xd_La_law_360 ?_
      have hPc := xp_P (X := (moW hm mm kA v g ++ [(ob, .inl (kA 3, 1, .inr (.inl fo)))])) hP
      have hDc := xp_D (X := (moW hm mm kA v g ++ [(ob, .inl (kA 3, 1, .inr (.inl fo)))])) hD
      have hFc := va_freeP (X := (moW hm mm kA v g ++ [(ob, .inl (kA 3, 1, .inr (.inl fo)))])) (cx := []) hD hS hA [] rfl
      obtain ⟨lf, hc0⟩ := hCI.2.1
      refine va_calli (va_runV (As := [.int (xs (nI (i + 1)).toNatClampNeg), .int (xs (nI (i + 2)).toNatClampNeg), .int (xs (nI (i + 3)).toNatClampNeg), .int (xs (nI (i + 4)).toNatClampNeg)]) (rest := []) ⟨hx, hb, hml, hown, hT⟩ (xc_De_reads l D kA H.size ad E RL ml nd len wn cs (xs (nI (i + 1)).toNatClampNeg) (xs (nI (i + 2)).toNatClampNeg) (xs (nI (i + 3)).toNatClampNeg) (xs (nI (i + 4)).toNatClampNeg) hCI) (cwV 4 hT (wT_V k6g_66 k6g_67 k6g_68 k6g_4 k6g_65) rfl rfl rfl (by decide +kernel) ⟨Nat.le_of_ble_eq_true rfl, Nat.le_of_ble_eq_true rfl⟩) (px_preV hK hPc hDc (hCI.1 0 (by decide)) hc0 rfl) rfl rfl hl.1 rfl (lv_room (Nat.le_of_ble_eq_true rfl)) xd_La_law_361 ⟨(show 40 + 110 * k + 0 ≤ 601024 by omega), (show 2000 + 600 * k + 0 ≤ 7293034 by omega)⟩) hS (fun q _ h => hFc q h) hFc (fun r73 u t H1 locs ht hvm hpost hB hz1 hk1 hS => ?_)
      obtain ⟨hP1, hD1⟩ := hB
      rw [ht] at hP1
      obtain ⟨hP, hD⟩ := va_joinP (X := (moW hm mm kA v g ++ [(ob, .inl (kA 3, 1, .inr (.inl fo)))])) (cx := []) (wr := (moW hm mm kA v g ++ [(ob, .inl (kA 3, 1, .inr (.inl fo)))])) (rx := []) hP hD [] [0, 1, 2, 3, 4, 5, 6, 7, 8, 9, 10, 11, 12, 13, 14, 15, 16, 17, 18, 19, 20, 21, 22, 23, 24, 25, 26] rfl rfl (by decide) (by decide) hk1 hFc hP1 hD1
      generalize H1 = H at hP hS ⊢
      have hP : va_P D xcl ((moW hm mm kA v g ++ [(ob, .inl (kA 3, 1, .inr (.inl fo)))]) ++ rp ad E RL) H := hP
      have hD : va_D A ((moW hm mm kA v g ++ [(ob, .inl (kA 3, 1, .inr (.inl fo)))]) ++ rp ad E RL) := hD
      have hCIo := hCI
      refine lv_pop hx hb xd_La_law_364 rfl ?_
      refine lv_aload_n hx hb xd_La_law_365 rfl (lv_at hl 2 rfl) ?_
      refine lv_aload_n hx hb xd_La_law_366 rfl (lv_at hl 4 rfl) ?_
      refine lv_iload hx hb xd_La_law_367 (lv_at hl 0 rfl) ?_
      refine lv_iconst (v := 1) hx hb xd_La_law_369 (by decide) ?_
      refine lv_iadd hx hb xd_La_law_370 ?_
      refine xn_top (y := nI (i + 1)) (nI_add i 1) ?_
      refine va_sld (i := nI (i + 1)) hx hb hX hbl hbA hS (vp_in_nI (by omega) (by omega)) xd_La_law_371 ?_
      refine lv_aload_n hx hb xd_La_law_372 rfl (lv_at hl 4 rfl) ?_
      refine lv_iload hx hb xd_La_law_373 (lv_at hl 0 rfl) ?_
      refine lv_iconst (v := 2) hx hb xd_La_law_375 (by decide) ?_
      refine lv_iadd hx hb xd_La_law_376 ?_
      refine xn_top (y := nI (i + 2)) (nI_add i 2) ?_
      refine va_sld (i := nI (i + 2)) hx hb hX hbl hbA hS (vp_in_nI (by omega) (by omega)) xd_La_law_377 ?_
      refine lv_aload_n hx hb xd_La_law_378 rfl (lv_at hl 4 rfl) ?_
      refine lv_iload hx hb xd_La_law_379 (lv_at hl 0 rfl) ?_
      refine lv_iconst (v := 3) hx hb xd_La_law_381 (by decide) ?_
      refine lv_iadd hx hb xd_La_law_382 ?_
      refine xn_top (y := nI (i + 3)) (nI_add i 3) ?_
      refine va_sld (i := nI (i + 3)) hx hb hX hbl hbA hS (vp_in_nI (by omega) (by omega)) xd_La_law_383 ?_
      refine lv_aload_n hx hb xd_La_law_384 rfl (lv_at hl 4 rfl) ?_
      refine lv_iload hx hb xd_La_law_385 (lv_at hl 0 rfl) ?_
      refine lv_iconst (v := 4) hx hb xd_La_law_387 (by decide) ?_
      refine lv_iadd hx hb xd_La_law_388 ?_
      refine xn_top (y := nI (i + 4)) (nI_add i 4) ?_
      refine va_sld (i := nI (i + 4)) hx hb hX hbl hbA hS (vp_in_nI (by omega) (by omega)) xd_La_law_389 ?_
      have hPc := xp_PL (xp_PL hP)
      have hDc := xp_DL (xp_DL hD)
      have hFc := va_free (wc := moW hm mm kA v g) hD hS hA [0, 1, 2, 3, 4, 5, 6, 7, 8, 9, 10, 11, 12, 13, 14, 15, 16, 17, 18, 19, 20, 21, 22, 23, 24, 25] rfl
      refine va_calli (va_runV (As := [.int (xs (nI (i + 1)).toNatClampNeg), .int (xs (nI (i + 2)).toNatClampNeg), .int (xs (nI (i + 3)).toNatClampNeg), .int (xs (nI (i + 4)).toNatClampNeg)]) (rest := []) ⟨hx, hb, hml, hown, hT⟩ (xc_Mo_readsK l D kA H.size hm mm v g (xs (nI (i + 1)).toNatClampNeg) (xs (nI (i + 2)).toNatClampNeg) (xs (nI (i + 3)).toNatClampNeg) (xs (nI (i + 4)).toNatClampNeg) hMI) (cwV 4 hT (wT_V k6g_70 k6g_71 k6g_72 k6g_9 k6g_69) rfl rfl rfl (by decide +kernel) ⟨Nat.le_of_ble_eq_true rfl, Nat.le_of_ble_eq_true rfl⟩) (x_preV hK hPc hDc 0 rfl rfl) rfl rfl hl.1 rfl (lv_room (Nat.le_of_ble_eq_true rfl)) xd_La_law_390 ⟨(show 40 + 110 * k + 0 ≤ 601024 by omega), (show 2000 + 600 * k + 0 ≤ 7293034 by omega)⟩) hS (fun q _ h => hFc q h) hFc (fun r74 u t H1 locs ht hvm hpost hB hz1 hk1 hS => ?_)
      obtain ⟨v75, g76⟩ := u
      obtain ⟨hP1, hD1⟩ := hB
      rw [ht] at hP1
      obtain ⟨hP, hD⟩ := va_joinQ (X := (moW hm mm kA v g ++ [(ob, .inl (kA 3, 1, .inr (.inl fo)))])) (cx := moW hm mm kA v g) (wr := [(ob, .inl (kA 3, 1, .inr (.inl fo)))]) (w1 := moW hm mm kA v75 g76) hP hD [0, 1, 2, 3, 4, 5, 6, 7, 8, 9, 10, 11, 12, 13, 14, 15, 16, 17, 18, 19, 20, 21, 22, 23, 24, 25] [26] rfl rfl (by decide) (by decide) hk1 hFc hP1 hD1
      have hP := xp_swP hP
      have hD := xp_swD hD
      generalize H1 = H at hP hS ⊢
      have hP : va_P D xcl ((moW hm mm kA v75 g76 ++ [(ob, .inl (kA 3, 1, .inr (.inl fo)))]) ++ rp ad E RL) H := hP
      have hD : va_D A ((moW hm mm kA v75 g76 ++ [(ob, .inl (kA 3, 1, .inr (.inl fo)))]) ++ rp ad E RL) := hD
      have hMIo := hMI
      have hXTo := hXT
      obtain ⟨hMI, hq2, hq1, hq4, hq5, hqg⟩ := hpost
      have hXT : XT g76 ad E nd ml len := sk_join hCI hXT hqg
      have hv2 : v75 2 = nI len := hq2.trans hv2
      have hv4 : v75 4 = nI nd := hq4.trans hv4
      have hv5 : v75 5 = nI ml := hq5.trans hv5
      have hv1 : v75 1 = eI (E 0 0) 5 := hq1.trans hv1
      have hNS : NSs g76 ml := NS_r (LKP_C hCIo hXTo.2.2.1) (fun j a b c => hqg j (by omega) (by omega) (by omega)) hMIo.2.2.2.1 hNS
      refine lv_pop hx hb xd_La_law_393 rfl ?_
      refine lv_goto (tgt := 569) hx hb xd_La_law_394 (by decide) ?_
      refine W.widen (k := 40 + 110 * (k + 1)) (n := 2000 + 600 * (k + 1)) (show 40 + 110 * k ≤ 40 + 110 * (k + 1) by omega) (show 2000 + 600 * k ≤ 2000 + 600 * (k + 1) by omega) ?_
      refine lv_iinc (k := 0) (x := (nI i)) (v := (nI (i + 5))) hx hb xd_La_law_569 hl rfl (xb_inc i 5) (Nat.le_of_ble_eq_true rfl) rfl (fun ls hl => ?_)
      have hl : lv_has ls 7 [(4, .int (nI (i + 5))), (3, .ref ob), (2, .ref hm), (1, .ref (ad 0 0)), (0, .ref b0)] := hl
      refine lv_goto (tgt := 23) hx hb xd_La_law_572 (by decide) ?_
      exact ih1 (i + 5, k + 1, ad, E, RL, v75, g76, fo, ml, nd, len, wn, cs) _ _ _ (show 600 - (k + 1) < 600 - k by omega) (lv_sub hl [0, 1, 2, 3, 4] rfl) hP hD hS ⟨(show (i + 5) = 5 * (k + 1) from by first | assumption | omega), (show (i + 5) ≤ L ∨ (i + 5) = 0 from by first | assumption | omega), (show CI kA ad E RL ml nd len wn cs from hCI), (show MI v75 g76 from hMI), (show v75 2 = nI len from hv2), (show v75 4 = nI nd from hv4), (show v75 5 = nI ml from hv5), (show v75 1 = eI (E 0 0) 5 from hv1), (show XT g76 ad E nd ml len from hXT), (show NSs g76 ml from hNS)⟩
    by_cases hw77 : ((xs (nI i).toNatClampNeg) &&& 15) = 9
    · refine lv_tableIn (off := 358) (tgt := 397) hx hb xd_La_law_39 (by rw [hw77]; decide) (by rw [hw77]; decide) (by rw [hw77]; rfl) (by decide) ?_
      refine lv_aload_n hx hb xd_La_law_397 rfl (lv_at hl 3 rfl) ?_
      refine lv_aload_n hx hb xd_La_law_398 rfl (lv_at hl 4 rfl) ?_
      refine lv_iload hx hb xd_La_law_399 (lv_at hl 0 rfl) ?_
      refine lv_iconst (v := 1) hx hb xd_La_law_401 (by decide) ?_
      refine lv_iadd hx hb xd_La_law_402 ?_
      refine xn_top (y := nI (i + 1)) (nI_add i 1) ?_
      refine va_sld (i := nI (i + 1)) hx hb hX hbl hbA hS (vp_in_nI (by omega) (by omega)) xd_La_law_403 ?_
      refine lv_aload_n hx hb xd_La_law_404 rfl (lv_at hl 4 rfl) ?_
      refine lv_iload hx hb xd_La_law_405 (lv_at hl 0 rfl) ?_
      refine lv_iconst (v := 2) hx hb xd_La_law_407 (by decide) ?_
      refine lv_iadd hx hb xd_La_law_408 ?_
      refine xn_top (y := nI (i + 2)) (nI_add i 2) ?_
      refine va_sld (i := nI (i + 2)) hx hb hX hbl hbA hS (vp_in_nI (by omega) (by omega)) xd_La_law_409 ?_
      refine lv_aload_n hx hb xd_La_law_410 rfl (lv_at hl 1 rfl) ?_
      have hPc : va_P D xcl ((ob, .inl (kA 3, 1, .inr (.inl fo))) :: rp ad E RL) H := xp_P (X := moW hm mm kA v g) (Y := [(ob, .inl (kA 3, 1, .inr (.inl fo)))] ++ rp ad E RL) (by rw [← List.append_assoc]; exact hP)
      have hDc : va_D A ((ob, .inl (kA 3, 1, .inr (.inl fo))) :: rp ad E RL) := xp_D (X := moW hm mm kA v g) (Y := [(ob, .inl (kA 3, 1, .inr (.inl fo)))] ++ rp ad E RL) (by rw [← List.append_assoc]; exact hD)
      have hFc := va_freeP (X := (moW hm mm kA v g ++ [(ob, .inl (kA 3, 1, .inr (.inl fo)))])) (cx := [(ob, .inl (kA 3, 1, .inr (.inl fo)))]) hD hS hA [26] rfl
      refine va_calli (vx_runSW (As := [.ref (ad 0 0), .int (xs (nI (i + 1)).toNatClampNeg), .int (xs (nI (i + 2)).toNatClampNeg), .ref ob]) (rest := []) ⟨hx, hb, hml, hown, hT⟩ (xc_La_loadX l hlt D kA H.size ad E RL Z g ml nd len wn cs ob fo (xs (nI (i + 1)).toNatClampNeg) (xs (nI (i + 2)).toNatClampNeg) hCI hXT) (vx_cwSW 4 hT (wT_S k6g_74 k6g_75 k6g_13 k6g_73) rfl rfl rfl (by decide +kernel) ⟨Nat.le_of_ble_eq_true rfl, Nat.le_of_ble_eq_true rfl⟩) (x_preSZ hK hPc hDc hFc (hZ.kept hS)) rfl rfl hl.1 rfl (lv_room (Nat.le_of_ble_eq_true rfl)) xd_La_law_411 ⟨(show 40 + 110 * k + 1 ≤ 601024 by omega), (show 2000 + 600 * k + 6 ≤ 7293034 by omega)⟩) hS (fun q _ h => hFc q h) hFc (fun r78 u t H1 locs ht hvm hpost hB hz1 hk1 hS => ?_)
      obtain ⟨⟨ad79, E80, RL81⟩, fo82⟩ := u
      obtain ⟨hP1, hD1⟩ := hB
      rw [ht] at hP1
      obtain ⟨hP, hD⟩ := va_joinP (X := (moW hm mm kA v g ++ [(ob, .inl (kA 3, 1, .inr (.inl fo)))])) (cx := [(ob, .inl (kA 3, 1, .inr (.inl fo)))]) (wr := moW hm mm kA v g) (rx := [(ob, .inl (kA 3, 1, .inr (.inl fo82)))]) (pl1 := rp ad79 E80 RL81) hP hD [26] [0, 1, 2, 3, 4, 5, 6, 7, 8, 9, 10, 11, 12, 13, 14, 15, 16, 17, 18, 19, 20, 21, 22, 23, 24, 25] rfl rfl (by decide) (by decide) hk1 hFc hP1 hD1
      generalize H1 = H at hP hS ⊢
      have hCIo := hCI
      obtain ⟨⟨⟨wn83, hCI⟩, hFk, hka, hkR⟩, an84, hans1, hout1⟩ := hpost
      have hka : ad79 = ad := hka
      have hkR : RL81 = RL := hkR
      rw [hka, hkR] at hP hD
      have hCI : CI kA ad E80 RL ml nd 0 wn83 cs := hCI
      have hFk : F134 E E80 := hFk
      have hl : lv_has ls 7 [(4, .int (nI i)), (3, .ref ob), (2, .ref hm), (1, .ref (ad 0 0)), (0, .ref b0)] := hl
      have hP : va_P D xcl ((moW hm mm kA v g ++ [(ob, .inl (kA 3, 1, .inr (.inl fo82)))]) ++ rp ad E80 RL) H := hP
      have hD : va_D A ((moW hm mm kA v g ++ [(ob, .inl (kA 3, 1, .inr (.inl fo82)))]) ++ rp ad E80 RL) := hD
      refine lv_istore hx hb xd_La_law_414 hl (Nat.le_of_ble_eq_true rfl) rfl (fun ls hl => ?_)
      have hl : lv_has ls 7 [(5, .int r78), (4, .int (nI i)), (3, .ref ob), (2, .ref hm), (1, .ref (ad 0 0)), (0, .ref b0)] := hl
      refine lv_aload_n hx hb xd_La_law_416 rfl (lv_at hl 3 rfl) ?_
      refine lv_aload_n hx hb xd_La_law_417 rfl (lv_at hl 5 rfl) ?_
      refine lv_iload hx hb xd_La_law_418 (lv_at hl 1 rfl) ?_
      refine lv_iconst (v := 1) hx hb xd_La_law_420 (by decide) ?_
      refine lv_iadd hx hb xd_La_law_421 ?_
      refine xn_top (y := nI (i + 1)) (nI_add i 1) ?_
      refine va_sld (i := nI (i + 1)) hx hb hX hbl hbA hS (vp_in_nI (by omega) (by omega)) xd_La_law_422 ?_
      refine lv_aload_n hx hb xd_La_law_423 rfl (lv_at hl 5 rfl) ?_
      refine lv_iload hx hb xd_La_law_424 (lv_at hl 1 rfl) ?_
      refine lv_iconst (v := 2) hx hb xd_La_law_426 (by decide) ?_
      refine lv_iadd hx hb xd_La_law_427 ?_
      refine xn_top (y := nI (i + 2)) (nI_add i 2) ?_
      refine va_sld (i := nI (i + 2)) hx hb hX hbl hbA hS (vp_in_nI (by omega) (by omega)) xd_La_law_428 ?_
      have hPc := xp_PL (xp_PL hP)
      have hDc := xp_DL (xp_DL hD)
      have hFc := va_free (wc := moW hm mm kA v g) hD hS hA [0, 1, 2, 3, 4, 5, 6, 7, 8, 9, 10, 11, 12, 13, 14, 15, 16, 17, 18, 19, 20, 21, 22, 23, 24, 25] rfl
      refine va_calli (va_runV (As := [.int (xs (nI (i + 1)).toNatClampNeg), .int (xs (nI (i + 2)).toNatClampNeg)]) (rest := []) ⟨hx, hb, hml, hown, hT⟩ (xc_Mo_loadA l D kA H.size hm mm v g (xs (nI (i + 1)).toNatClampNeg) (xs (nI (i + 2)).toNatClampNeg) nd ml len hMI hv4 hnd12 hv5 hml5 hv2 hl40) (cwV 2 hT (wT_V k6g_77 k6g_78 k6g_79 k6g_9 k6g_76) rfl rfl rfl (by decide +kernel) ⟨Nat.le_of_ble_eq_true rfl, Nat.le_of_ble_eq_true rfl⟩) (x_preV hK hPc hDc 0 rfl rfl) rfl rfl hl.1 rfl (lv_room (Nat.le_of_ble_eq_true rfl)) xd_La_law_429 ⟨(show 40 + 110 * k + 1 + 0 ≤ 601024 by omega), (show 2000 + 600 * k + 6 + 0 ≤ 7293034 by omega)⟩) hS (fun q _ h => hFc q h) hFc (fun r85 u t H1 locs ht hvm hpost hB hz1 hk1 hS => ?_)
      obtain ⟨v86, g87⟩ := u
      obtain ⟨hP1, hD1⟩ := hB
      rw [ht] at hP1
      obtain ⟨hP, hD⟩ := va_joinQ (X := (moW hm mm kA v g ++ [(ob, .inl (kA 3, 1, .inr (.inl fo82)))])) (cx := moW hm mm kA v g) (wr := [(ob, .inl (kA 3, 1, .inr (.inl fo82)))]) (w1 := moW hm mm kA v86 g87) hP hD [0, 1, 2, 3, 4, 5, 6, 7, 8, 9, 10, 11, 12, 13, 14, 15, 16, 17, 18, 19, 20, 21, 22, 23, 24, 25] [26] rfl rfl (by decide) (by decide) hk1 hFc hP1 hD1
      have hP := xp_swP hP
      have hD := xp_swD hD
      generalize H1 = H at hP hS ⊢
      have hP : va_P D xcl ((moW hm mm kA v86 g87 ++ [(ob, .inl (kA 3, 1, .inr (.inl fo82)))]) ++ rp ad E80 RL) H := hP
      have hD : va_D A ((moW hm mm kA v86 g87 ++ [(ob, .inl (kA 3, 1, .inr (.inl fo82)))]) ++ rp ad E80 RL) := hD
      have hMIo := hMI
      have hXTo := hXT
      obtain ⟨hans2, hpost⟩ := hpost
      have hNS1 := NS_u hNS (nm := n1 (g 0) (w_all (g 0) len))
      have hjn : r78 = v86 0 ∧ (r78 = 0 → an84 = r85) := ldA_u (by omega) (fun la hl9 => ((LKP_C hCIo hXT.2.2.1).2 la hl9).1) hNS1 hans1 hans2
      obtain ⟨hMI, hq2, hq1, hq4, hq5, hqg⟩ := hpost
      have hXT : XT g87 ad E80 nd ml 0 := sk_join hCI (f1_join hFk hXT) hqg
      have hv2 : v86 2 = nI 0 := hq2
      have hv4 : v86 4 = nI nd := hq4.trans hv4
      have hv5 : v86 5 = nI ml := hq5.trans hv5
      have hv1 : v86 1 = eI (E80 0 0) 5 := by rw [hFk 0 0 (by omega) (by omega) (by omega)]; exact hq1.trans hv1
      have hNS : NSs g87 ml := NS_r (LKP_C hCIo hXTo.2.2.1) (fun j a b c => hqg j (by omega) (by omega) (by omega)) hMIo.2.2.2.1 hNS
      refine lv_istore hx hb xd_La_law_432 hl (Nat.le_of_ble_eq_true rfl) rfl (fun ls hl => ?_)
      have hl : lv_has ls 7 [(6, .int r85), (5, .int r78), (4, .int (nI i)), (3, .ref ob), (2, .ref hm), (1, .ref (ad 0 0)), (0, .ref b0)] := hl
      refine lv_aload_n hx hb xd_La_law_434 rfl (lv_at hl 4 rfl) ?_
      have hPc := xp_PL (xp_PL hP)
      have hDc := xp_DL (xp_DL hD)
      have hFc := va_free (wc := moW hm mm kA v86 g87) hD hS hA [0, 1, 2, 3, 4, 5, 6, 7, 8, 9, 10, 11, 12, 13, 14, 15, 16, 17, 18, 19, 20, 21, 22, 23, 24, 25] rfl
      refine va_calli (va_runV (As := []) (rest := []) ⟨hx, hb, hml, hown, hT⟩ (xc_Mo_thrown l D kA H.size hm mm v86 g87 hMI) (cwV 0 hT (wT_V k6g_81 k6g_82 k6g_83 k6g_9 k6g_80) rfl rfl rfl (by decide +kernel) ⟨Nat.le_of_ble_eq_true rfl, Nat.le_of_ble_eq_true rfl⟩) (x_preV hK hPc hDc 0 rfl rfl) rfl rfl hl.1 rfl (lv_room (Nat.le_of_ble_eq_true rfl)) xd_La_law_435 ⟨(show 40 + 110 * k + 1 + 0 ≤ 601024 by omega), (show 2000 + 600 * k + 6 + 0 ≤ 7293034 by omega)⟩) hS (fun q _ h => hFc q h) hFc (fun r88 u t H1 locs ht hvm hpost hB hz1 hk1 hS => ?_)
      obtain ⟨v89, g90⟩ := u
      obtain ⟨hP1, hD1⟩ := hB
      rw [ht] at hP1
      obtain ⟨hP, hD⟩ := va_joinQ (X := (moW hm mm kA v86 g87 ++ [(ob, .inl (kA 3, 1, .inr (.inl fo82)))])) (cx := moW hm mm kA v86 g87) (wr := [(ob, .inl (kA 3, 1, .inr (.inl fo82)))]) (w1 := moW hm mm kA v89 g90) hP hD [0, 1, 2, 3, 4, 5, 6, 7, 8, 9, 10, 11, 12, 13, 14, 15, 16, 17, 18, 19, 20, 21, 22, 23, 24, 25] [26] rfl rfl (by decide) (by decide) hk1 hFc hP1 hD1
      have hP := xp_swP hP
      have hD := xp_swD hD
      generalize H1 = H at hP hS ⊢
      have hq1 : v89 = v86 := hpost.1
      have hq2 : g90 = g87 := hpost.2.1
      have hth : r88 = v86 0 := hpost.2.2
      rw [hq1, hq2] at hP hD
      have hP : va_P D xcl ((moW hm mm kA v86 g87 ++ [(ob, .inl (kA 3, 1, .inr (.inl fo82)))]) ++ rp ad E80 RL) H := hP
      have hD : va_D A ((moW hm mm kA v86 g87 ++ [(ob, .inl (kA 3, 1, .inr (.inl fo82)))]) ++ rp ad E80 RL) := hD
      refine lv_iload hx hb xd_La_law_438 (lv_at hl 1 rfl) ?_
      refine lv_icmp_eq (tgt := 445) hx hb xd_La_law_440 (by decide) (fun _ => ?_) (fun hc91 => absurd (hth.trans hjn.1.symm) hc91)
      refine lv_iload hx hb xd_La_law_445 (lv_at hl 1 rfl) ?_
      refine lv_if_ne (tgt := 462) hx hb xd_La_law_447 (by decide) (fun hc92 => ?_) (fun hc92 => ?_)
      · refine lv_goto (tgt := 569) hx hb xd_La_law_462 (by decide) ?_
        refine W.widen (k := 40 + 110 * (k + 1)) (n := 2000 + 600 * (k + 1)) (show 40 + 110 * k + 1 ≤ 40 + 110 * (k + 1) by omega) (show 2000 + 600 * k + 6 ≤ 2000 + 600 * (k + 1) by omega) ?_
        refine lv_iinc (k := 2) (x := (nI i)) (v := (nI (i + 5))) hx hb xd_La_law_569 hl rfl (xb_inc i 5) (Nat.le_of_ble_eq_true rfl) rfl (fun ls hl => ?_)
        have hl : lv_has ls 7 [(4, .int (nI (i + 5))), (6, .int r85), (5, .int r78), (3, .ref ob), (2, .ref hm), (1, .ref (ad 0 0)), (0, .ref b0)] := hl
        refine lv_goto (tgt := 23) hx hb xd_La_law_572 (by decide) ?_
        exact ih1 (i + 5, k + 1, ad, E80, RL, v86, g87, fo82, ml, nd, 0, wn83, cs) _ _ _ (show 600 - (k + 1) < 600 - k by omega) (lv_sub hl [0, 3, 4, 5, 6] rfl) hP hD hS ⟨(show (i + 5) = 5 * (k + 1) from by first | assumption | omega), (show (i + 5) ≤ L ∨ (i + 5) = 0 from by first | assumption | omega), (show CI kA ad E80 RL ml nd 0 wn83 cs from hCI), (show MI v86 g87 from hMI), (show v86 2 = nI 0 from hv2), (show v86 4 = nI nd from hv4), (show v86 5 = nI ml from hv5), (show v86 1 = eI (E80 0 0) 5 from hv1), (show XT g87 ad E80 nd ml 0 from hXT), (show NSs g87 ml from hNS)⟩
      · refine lv_aload_n hx hb xd_La_law_450 rfl (lv_at hl 3 rfl) ?_
        refine lv_iconst (v := 0) hx hb xd_La_law_451 (by decide) ?_
        refine va_lald hx hb hK.1 hP 26 3 rfl rfl (show ¬ _ by decide) xd_La_law_452 ?_
        refine lv_iload hx hb xd_La_law_453 (lv_at hl 0 rfl) ?_
        refine lv_i2l (v := ((r85 : Int32).toInt64)) hx hb xd_La_law_455 rfl ?_
        refine W.lcmp hx hb xd_La_law_456 ?_
        refine lv_if_eq (tgt := 462) hx hb xd_La_law_457 (by decide) (fun _ => ?_) (fun hc93 => absurd (by rw [show fo82 ((0 : Int32).toNatClampNeg) = (r85 : Int32).toInt64 from by rw [show (0 : Int32).toNatClampNeg = 0 by decide]; exact (hout1 hc92).trans (by rw [hjn.2 hc92])]; exact cmp_eq _) hc93)
        refine lv_goto (tgt := 569) hx hb xd_La_law_462 (by decide) ?_
        refine W.widen (k := 40 + 110 * (k + 1)) (n := 2000 + 600 * (k + 1)) (show 40 + 110 * k + 1 ≤ 40 + 110 * (k + 1) by omega) (show 2000 + 600 * k + 6 ≤ 2000 + 600 * (k + 1) by omega) ?_
        refine lv_iinc (k := 2) (x := (nI i)) (v := (nI (i + 5))) hx hb xd_La_law_569 hl rfl (xb_inc i 5) (Nat.le_of_ble_eq_true rfl) rfl (fun ls hl => ?_)
        have hl : lv_has ls 7 [(4, .int (nI (i + 5))), (6, .int r85), (5, .int r78), (3, .ref ob), (2, .ref hm), (1, .ref (ad 0 0)), (0, .ref b0)] := hl
        refine lv_goto (tgt := 23) hx hb xd_La_law_572 (by decide) ?_
        exact ih1 (i + 5, k + 1, ad, E80, RL, v86, g87, fo82, ml, nd, 0, wn83, cs) _ _ _ (show 600 - (k + 1) < 600 - k by omega) (lv_sub hl [0, 3, 4, 5, 6] rfl) hP hD hS ⟨(show (i + 5) = 5 * (k + 1) from by first | assumption | omega), (show (i + 5) ≤ L ∨ (i + 5) = 0 from by first | assumption | omega), (show CI kA ad E80 RL ml nd 0 wn83 cs from hCI), (show MI v86 g87 from hMI), (show v86 2 = nI 0 from hv2), (show v86 4 = nI nd from hv4), (show v86 5 = nI ml from hv5), (show v86 1 = eI (E80 0 0) 5 from hv1), (show XT g87 ad E80 nd ml 0 from hXT), (show NSs g87 ml from hNS)⟩
    by_cases hw94 : ((xs (nI i).toNatClampNeg) &&& 15) = 10
    · refine lv_tableIn (off := 426) (tgt := 465) hx hb xd_La_law_39 (by rw [hw94]; decide) (by rw [hw94]; decide) (by rw [hw94]; rfl) (by decide) ?_
      refine lv_aload_n hx hb xd_La_law_465 rfl (lv_at hl 3 rfl) ?_
      refine lv_aload_n hx hb xd_La_law_466 rfl (lv_at hl 4 rfl) ?_
      refine lv_iload hx hb xd_La_law_467 (lv_at hl 0 rfl) ?_
      refine lv_iconst (v := 1) hx hb xd_La_law_469 (by decide) ?_
      refine lv_iadd hx hb xd_La_law_470 ?_
      refine xn_top (y := nI (i + 1)) (nI_add i 1) ?_
      refine va_sld (i := nI (i + 1)) hx hb hX hbl hbA hS (vp_in_nI (by omega) (by omega)) xd_La_law_471 ?_
      refine lv_aload_n hx hb xd_La_law_472 rfl (lv_at hl 4 rfl) ?_
      refine lv_iload hx hb xd_La_law_473 (lv_at hl 0 rfl) ?_
      refine lv_iconst (v := 2) hx hb xd_La_law_475 (by decide) ?_
      refine lv_iadd hx hb xd_La_law_476 ?_
      refine xn_top (y := nI (i + 2)) (nI_add i 2) ?_
      refine va_sld (i := nI (i + 2)) hx hb hX hbl hbA hS (vp_in_nI (by omega) (by omega)) xd_La_law_477 ?_
      refine lv_aload_n hx hb xd_La_law_478 rfl (lv_at hl 4 rfl) ?_
      refine lv_iload hx hb xd_La_law_479 (lv_at hl 0 rfl) ?_
      refine lv_iconst (v := 3) hx hb xd_La_law_481 (by decide) ?_
      refine lv_iadd hx hb xd_La_law_482 ?_
      refine xn_top (y := nI (i + 3)) (nI_add i 3) ?_
      refine va_sld (i := nI (i + 3)) hx hb hX hbl hbA hS (vp_in_nI (by omega) (by omega)) xd_La_law_483 ?_
      refine lv_aload_n hx hb xd_La_law_484 rfl (lv_at hl 4 rfl) ?_
      refine lv_iload hx hb xd_La_law_485 (lv_at hl 0 rfl) ?_
      refine lv_iconst (v := 4) hx hb xd_La_law_487 (by decide) ?_
      refine lv_iadd hx hb xd_La_law_488 ?_
      refine xn_top (y := nI (i + 4)) (nI_add i 4) ?_
      refine va_sld (i := nI (i + 4)) hx hb hX hbl hbA hS (vp_in_nI (by omega) (by omega)) xd_La_law_489 ?_
      refine lv_aload_n hx hb xd_La_law_490 rfl (lv_at hl 1 rfl) ?_
      have hPc : va_P D xcl ((ob, .inl (kA 3, 1, .inr (.inl fo))) :: rp ad E RL) H := xp_P (X := moW hm mm kA v g) (Y := [(ob, .inl (kA 3, 1, .inr (.inl fo)))] ++ rp ad E RL) (by rw [← List.append_assoc]; exact hP)
      have hDc : va_D A ((ob, .inl (kA 3, 1, .inr (.inl fo))) :: rp ad E RL) := xp_D (X := moW hm mm kA v g) (Y := [(ob, .inl (kA 3, 1, .inr (.inl fo)))] ++ rp ad E RL) (by rw [← List.append_assoc]; exact hD)
      have hFc := va_freeP (X := (moW hm mm kA v g ++ [(ob, .inl (kA 3, 1, .inr (.inl fo)))])) (cx := [(ob, .inl (kA 3, 1, .inr (.inl fo)))]) hD hS hA [26] rfl
      refine va_calli (vx_runSW (As := [.ref (ad 0 0), .int (xs (nI (i + 1)).toNatClampNeg), .int (xs (nI (i + 2)).toNatClampNeg), .int (xs (nI (i + 3)).toNatClampNeg), .int (xs (nI (i + 4)).toNatClampNeg), .ref ob]) (rest := []) ⟨hx, hb, hml, hown, hT⟩ (xc_La_peekX l hlt D kA H.size ad E RL Z g ml nd len wn cs ob fo (xs (nI (i + 1)).toNatClampNeg) (xs (nI (i + 2)).toNatClampNeg) (xs (nI (i + 3)).toNatClampNeg) (xs (nI (i + 4)).toNatClampNeg) hCI hXT.1) (vx_cwSW 6 hT (wT_S k6g_85 k6g_86 k6g_13 k6g_84) rfl rfl rfl (by decide +kernel) ⟨Nat.le_of_ble_eq_true rfl, Nat.le_of_ble_eq_true rfl⟩) (x_preSZ hK hPc hDc hFc (hZ.kept hS)) rfl rfl hl.1 rfl (lv_room (Nat.le_of_ble_eq_true rfl)) xd_La_law_491 ⟨(show 40 + 110 * k + 1 ≤ 601024 by omega), (show 2000 + 600 * k + 6 ≤ 7293034 by omega)⟩) hS (fun q _ h => hFc q h) hFc (fun r95 u t H1 locs ht hvm hpost hB hz1 hk1 hS => ?_)
      obtain ⟨⟨ad96, E97, RL98⟩, fo99⟩ := u
      obtain ⟨hP1, hD1⟩ := hB
      rw [ht] at hP1
      obtain ⟨hP, hD⟩ := va_joinP (X := (moW hm mm kA v g ++ [(ob, .inl (kA 3, 1, .inr (.inl fo)))])) (cx := [(ob, .inl (kA 3, 1, .inr (.inl fo)))]) (wr := moW hm mm kA v g) (rx := [(ob, .inl (kA 3, 1, .inr (.inl fo99)))]) (pl1 := rp ad96 E97 RL98) hP hD [26] [0, 1, 2, 3, 4, 5, 6, 7, 8, 9, 10, 11, 12, 13, 14, 15, 16, 17, 18, 19, 20, 21, 22, 23, 24, 25] rfl rfl (by decide) (by decide) hk1 hFc hP1 hD1
      generalize H1 = H at hP hS ⊢
      have hCIo := hCI
      obtain ⟨⟨wn100, hCI⟩, hFk, hka, hkR⟩ := hpost
      have hka : ad96 = ad := hka
      have hkR : RL98 = RL := hkR
      rw [hka, hkR] at hP hD
      have hCI : CI kA ad E97 RL ml nd 0 wn100 cs := hCI
      have hFk : F134 E E97 := hFk
      have hl : lv_has ls 7 [(4, .int (nI i)), (3, .ref ob), (2, .ref hm), (1, .ref (ad 0 0)), (0, .ref b0)] := hl
      have hP : va_P D xcl ((moW hm mm kA v g ++ [(ob, .inl (kA 3, 1, .inr (.inl fo99)))]) ++ rp ad E97 RL) H := hP
      have hD : va_D A ((moW hm mm kA v g ++ [(ob, .inl (kA 3, 1, .inr (.inl fo99)))]) ++ rp ad E97 RL) := hD
      refine lv_istore hx hb xd_La_law_494 hl (Nat.le_of_ble_eq_true rfl) rfl (fun ls hl => ?_)
      have hl : lv_has ls 7 [(5, .int r95), (4, .int (nI i)), (3, .ref ob), (2, .ref hm), (1, .ref (ad 0 0)), (0, .ref b0)] := hl
      refine lv_aload_n hx hb xd_La_law_496 rfl (lv_at hl 3 rfl) ?_
      refine lv_aload_n hx hb xd_La_law_497 rfl (lv_at hl 5 rfl) ?_
      refine lv_iload hx hb xd_La_law_498 (lv_at hl 1 rfl) ?_
      refine lv_iconst (v := 1) hx hb xd_La_law_500 (by decide) ?_
      refine lv_iadd hx hb xd_La_law_501 ?_
      refine xn_top (y := nI (i + 1)) (nI_add i 1) ?_
      refine va_sld (i := nI (i + 1)) hx hb hX hbl hbA hS (vp_in_nI (by omega) (by omega)) xd_La_law_502 ?_
      refine lv_aload_n hx hb xd_La_law_503 rfl (lv_at hl 5 rfl) ?_
      refine lv_iload hx hb xd_La_law_504 (lv_at hl 1 rfl) ?_
      refine lv_iconst (v := 2) hx hb xd_La_law_506 (by decide) ?_
      refine lv_iadd hx hb xd_La_law_507 ?_
      refine xn_top (y := nI (i + 2)) (nI_add i 2) ?_
      refine va_sld (i := nI (i + 2)) hx hb hX hbl hbA hS (vp_in_nI (by omega) (by omega)) xd_La_law_508 ?_
      refine lv_aload_n hx hb xd_La_law_509 rfl (lv_at hl 5 rfl) ?_
      refine lv_iload hx hb xd_La_law_510 (lv_at hl 1 rfl) ?_
      refine lv_iconst (v := 3) hx hb xd_La_law_512 (by decide) ?_
      refine lv_iadd hx hb xd_La_law_513 ?_
      refine xn_top (y := nI (i + 3)) (nI_add i 3) ?_
      refine va_sld (i := nI (i + 3)) hx hb hX hbl hbA hS (vp_in_nI (by omega) (by omega)) xd_La_law_514 ?_
      refine lv_aload_n hx hb xd_La_law_515 rfl (lv_at hl 5 rfl) ?_
      refine lv_iload hx hb xd_La_law_516 (lv_at hl 1 rfl) ?_
      refine lv_iconst (v := 4) hx hb xd_La_law_518 (by decide) ?_
      refine lv_iadd hx hb xd_La_law_519 ?_
      refine xn_top (y := nI (i + 4)) (nI_add i 4) ?_
      refine va_sld (i := nI (i + 4)) hx hb hX hbl hbA hS (vp_in_nI (by omega) (by omega)) xd_La_law_520 ?_
      have hPc := xp_PL (xp_PL hP)
      have hDc := xp_DL (xp_DL hD)
      have hFc := va_free (wc := moW hm mm kA v g) hD hS hA [0, 1, 2, 3, 4, 5, 6, 7, 8, 9, 10, 11, 12, 13, 14, 15, 16, 17, 18, 19, 20, 21, 22, 23, 24, 25] rfl
      refine va_calli (va_runV (As := [.int (xs (nI (i + 1)).toNatClampNeg), .int (xs (nI (i + 2)).toNatClampNeg), .int (xs (nI (i + 3)).toNatClampNeg), .int (xs (nI (i + 4)).toNatClampNeg)]) (rest := []) ⟨hx, hb, hml, hown, hT⟩ (xc_Mo_peekK l D kA H.size hm mm v g (xs (nI (i + 1)).toNatClampNeg) (xs (nI (i + 2)).toNatClampNeg) (xs (nI (i + 3)).toNatClampNeg) (xs (nI (i + 4)).toNatClampNeg) len hMI hv2 hl40) (cwV 4 hT (wT_V k6g_88 k6g_89 k6g_90 k6g_9 k6g_87) rfl rfl rfl (by decide +kernel) ⟨Nat.le_of_ble_eq_true rfl, Nat.le_of_ble_eq_true rfl⟩) (x_preV hK hPc hDc 0 rfl rfl) rfl rfl hl.1 rfl (lv_room (Nat.le_of_ble_eq_true rfl)) xd_La_law_521 ⟨(show 40 + 110 * k + 1 + 0 ≤ 601024 by omega), (show 2000 + 600 * k + 6 + 0 ≤ 7293034 by omega)⟩) hS (fun q _ h => hFc q h) hFc (fun r102 u t H1 locs ht hvm hpost hB hz1 hk1 hS => ?_)
      obtain ⟨v103, g104⟩ := u
      obtain ⟨hP1, hD1⟩ := hB
      rw [ht] at hP1
      obtain ⟨hP, hD⟩ := va_joinQ (X := (moW hm mm kA v g ++ [(ob, .inl (kA 3, 1, .inr (.inl fo99)))])) (cx := moW hm mm kA v g) (wr := [(ob, .inl (kA 3, 1, .inr (.inl fo99)))]) (w1 := moW hm mm kA v103 g104) hP hD [0, 1, 2, 3, 4, 5, 6, 7, 8, 9, 10, 11, 12, 13, 14, 15, 16, 17, 18, 19, 20, 21, 22, 23, 24, 25] [26] rfl rfl (by decide) (by decide) hk1 hFc hP1 hD1
      have hP := xp_swP hP
      have hD := xp_swD hD
      generalize H1 = H at hP hS ⊢
      have hP : va_P D xcl ((moW hm mm kA v103 g104 ++ [(ob, .inl (kA 3, 1, .inr (.inl fo99)))]) ++ rp ad E97 RL) H := hP
      have hD : va_D A ((moW hm mm kA v103 g104 ++ [(ob, .inl (kA 3, 1, .inr (.inl fo99)))]) ++ rp ad E97 RL) := hD
      have hMIo := hMI
      have hXTo := hXT
      obtain ⟨hMI, hq2, hq1, hq4, hq5, hqg⟩ := hpost
      have hXT : XT g104 ad E97 nd ml 0 := sk_join hCI (f1_join hFk hXT) hqg
      have hv2 : v103 2 = nI 0 := hq2
      have hv4 : v103 4 = nI nd := hq4.trans hv4
      have hv5 : v103 5 = nI ml := hq5.trans hv5
      have hv1 : v103 1 = eI (E97 0 0) 5 := by rw [hFk 0 0 (by omega) (by omega) (by omega)]; exact hq1.trans hv1
      have hNS : NSs g104 ml := NS_r (LKP_C hCIo hXTo.2.2.1) (fun j a b c => hqg j (by omega) (by omega) (by omega)) hMIo.2.2.2.1 hNS
      refine lv_istore hx hb xd_La_law_524 hl (Nat.le_of_ble_eq_true rfl) rfl (fun ls hl => ?_)
      have hl : lv_has ls 7 [(6, .int r102), (5, .int r95), (4, .int (nI i)), (3, .ref ob), (2, .ref hm), (1, .ref (ad 0 0)), (0, .ref b0)] := hl
      refine lv_goto (tgt := 569) hx hb xd_La_law_526 (by decide) ?_
      refine W.widen (k := 40 + 110 * (k + 1)) (n := 2000 + 600 * (k + 1)) (show 40 + 110 * k + 1 ≤ 40 + 110 * (k + 1) by omega) (show 2000 + 600 * k + 6 ≤ 2000 + 600 * (k + 1) by omega) ?_
      refine lv_iinc (k := 2) (x := (nI i)) (v := (nI (i + 5))) hx hb xd_La_law_569 hl rfl (xb_inc i 5) (Nat.le_of_ble_eq_true rfl) rfl (fun ls hl => ?_)
      have hl : lv_has ls 7 [(4, .int (nI (i + 5))), (6, .int r102), (5, .int r95), (3, .ref ob), (2, .ref hm), (1, .ref (ad 0 0)), (0, .ref b0)] := hl
      refine lv_goto (tgt := 23) hx hb xd_La_law_572 (by decide) ?_
      exact ih1 (i + 5, k + 1, ad, E97, RL, v103, g104, fo99, ml, nd, 0, wn100, cs) _ _ _ (show 600 - (k + 1) < 600 - k by omega) (lv_sub hl [0, 3, 4, 5, 6] rfl) hP hD hS ⟨(show (i + 5) = 5 * (k + 1) from by first | assumption | omega), (show (i + 5) ≤ L ∨ (i + 5) = 0 from by first | assumption | omega), (show CI kA ad E97 RL ml nd 0 wn100 cs from hCI), (show MI v103 g104 from hMI), (show v103 2 = nI 0 from hv2), (show v103 4 = nI nd from hv4), (show v103 5 = nI ml from hv5), (show v103 1 = eI (E97 0 0) 5 from hv1), (show XT g104 ad E97 nd ml 0 from hXT), (show NSs g104 ml from hNS)⟩
    by_cases hw105 : ((xs (nI i).toNatClampNeg) &&& 15) = 11
    · refine lv_tableIn (off := 490) (tgt := 529) hx hb xd_La_law_39 (by rw [hw105]; decide) (by rw [hw105]; decide) (by rw [hw105]; rfl) (by decide) ?_
      refine lv_aload_n hx hb xd_La_law_529 rfl (lv_at hl 3 rfl) ?_
      refine lv_aload_n hx hb xd_La_law_530 rfl (lv_at hl 4 rfl) ?_
      refine lv_iload hx hb xd_La_law_531 (lv_at hl 0 rfl) ?_
      refine lv_iconst (v := 1) hx hb xd_La_law_533 (by decide) ?_
      refine lv_iadd hx hb xd_La_law_534 ?_
      refine xn_top (y := nI (i + 1)) (nI_add i 1) ?_
      refine va_sld (i := nI (i + 1)) hx hb hX hbl hbA hS (vp_in_nI (by omega) (by omega)) xd_La_law_535 ?_
      refine lv_aload_n hx hb xd_La_law_536 rfl (lv_at hl 4 rfl) ?_
      refine lv_iload hx hb xd_La_law_537 (lv_at hl 0 rfl) ?_
      refine lv_iconst (v := 2) hx hb xd_La_law_539 (by decide) ?_
      refine lv_iadd hx hb xd_La_law_540 ?_
      refine xn_top (y := nI (i + 2)) (nI_add i 2) ?_
      refine va_sld (i := nI (i + 2)) hx hb hX hbl hbA hS (vp_in_nI (by omega) (by omega)) xd_La_law_541 ?_
      refine lv_aload_n hx hb xd_La_law_542 rfl (lv_at hl 1 rfl) ?_
      have hPc : va_P D xcl ((ob, .inl (kA 3, 1, .inr (.inl fo))) :: rp ad E RL) H := xp_P (X := moW hm mm kA v g) (Y := [(ob, .inl (kA 3, 1, .inr (.inl fo)))] ++ rp ad E RL) (by rw [← List.append_assoc]; exact hP)
      have hDc : va_D A ((ob, .inl (kA 3, 1, .inr (.inl fo))) :: rp ad E RL) := xp_D (X := moW hm mm kA v g) (Y := [(ob, .inl (kA 3, 1, .inr (.inl fo)))] ++ rp ad E RL) (by rw [← List.append_assoc]; exact hD)
      have hFc := va_freeP (X := (moW hm mm kA v g ++ [(ob, .inl (kA 3, 1, .inr (.inl fo)))])) (cx := [(ob, .inl (kA 3, 1, .inr (.inl fo)))]) hD hS hA [26] rfl
      refine va_calli (vx_runSW (As := [.ref (ad 0 0), .int (xs (nI (i + 1)).toNatClampNeg), .int (xs (nI (i + 2)).toNatClampNeg), .ref ob]) (rest := []) ⟨hx, hb, hml, hown, hT⟩ (xc_La_providerX l hlt D kA H.size ad E RL Z g ml nd len wn cs ob fo (xs (nI (i + 1)).toNatClampNeg) (xs (nI (i + 2)).toNatClampNeg) hCI hXT.1) (vx_cwSW 4 hT (wT_S k6g_92 k6g_93 k6g_13 k6g_91) rfl rfl rfl (by decide +kernel) ⟨Nat.le_of_ble_eq_true rfl, Nat.le_of_ble_eq_true rfl⟩) (x_preSZ hK hPc hDc hFc (hZ.kept hS)) rfl rfl hl.1 rfl (lv_room (Nat.le_of_ble_eq_true rfl)) xd_La_law_543 ⟨(show 40 + 110 * k + 1 ≤ 601024 by omega), (show 2000 + 600 * k + 6 ≤ 7293034 by omega)⟩) hS (fun q _ h => hFc q h) hFc (fun r106 u t H1 locs ht hvm hpost hB hz1 hk1 hS => ?_)
      obtain ⟨⟨ad107, E108, RL109⟩, fo110⟩ := u
      obtain ⟨hP1, hD1⟩ := hB
      rw [ht] at hP1
      obtain ⟨hP, hD⟩ := va_joinP (X := (moW hm mm kA v g ++ [(ob, .inl (kA 3, 1, .inr (.inl fo)))])) (cx := [(ob, .inl (kA 3, 1, .inr (.inl fo)))]) (wr := moW hm mm kA v g) (rx := [(ob, .inl (kA 3, 1, .inr (.inl fo110)))]) (pl1 := rp ad107 E108 RL109) hP hD [26] [0, 1, 2, 3, 4, 5, 6, 7, 8, 9, 10, 11, 12, 13, 14, 15, 16, 17, 18, 19, 20, 21, 22, 23, 24, 25] rfl rfl (by decide) (by decide) hk1 hFc hP1 hD1
      generalize H1 = H at hP hS ⊢
      have hCIo := hCI
      obtain ⟨⟨wn111, hCI⟩, hFk, hka, hkR⟩ := hpost
      have hka : ad107 = ad := hka
      have hkR : RL109 = RL := hkR
      rw [hka, hkR] at hP hD
      have hCI : CI kA ad E108 RL ml nd 0 wn111 cs := hCI
      have hFk : F134 E E108 := hFk
      have hl : lv_has ls 7 [(4, .int (nI i)), (3, .ref ob), (2, .ref hm), (1, .ref (ad 0 0)), (0, .ref b0)] := hl
      have hP : va_P D xcl ((moW hm mm kA v g ++ [(ob, .inl (kA 3, 1, .inr (.inl fo110)))]) ++ rp ad E108 RL) H := hP
      have hD : va_D A ((moW hm mm kA v g ++ [(ob, .inl (kA 3, 1, .inr (.inl fo110)))]) ++ rp ad E108 RL) := hD
      refine lv_istore hx hb xd_La_law_546 hl (Nat.le_of_ble_eq_true rfl) rfl (fun ls hl => ?_)
      have hl : lv_has ls 7 [(5, .int r106), (4, .int (nI i)), (3, .ref ob), (2, .ref hm), (1, .ref (ad 0 0)), (0, .ref b0)] := hl
      refine lv_aload_n hx hb xd_La_law_548 rfl (lv_at hl 3 rfl) ?_
      refine lv_aload_n hx hb xd_La_law_549 rfl (lv_at hl 5 rfl) ?_
      refine lv_iload hx hb xd_La_law_550 (lv_at hl 1 rfl) ?_
      refine lv_iconst (v := 1) hx hb xd_La_law_552 (by decide) ?_
      refine lv_iadd hx hb xd_La_law_553 ?_
      refine xn_top (y := nI (i + 1)) (nI_add i 1) ?_
      refine va_sld (i := nI (i + 1)) hx hb hX hbl hbA hS (vp_in_nI (by omega) (by omega)) xd_La_law_554 ?_
      refine lv_aload_n hx hb xd_La_law_555 rfl (lv_at hl 5 rfl) ?_
      refine lv_iload hx hb xd_La_law_556 (lv_at hl 1 rfl) ?_
      refine lv_iconst (v := 2) hx hb xd_La_law_558 (by decide) ?_
      refine lv_iadd hx hb xd_La_law_559 ?_
      refine xn_top (y := nI (i + 2)) (nI_add i 2) ?_
      refine va_sld (i := nI (i + 2)) hx hb hX hbl hbA hS (vp_in_nI (by omega) (by omega)) xd_La_law_560 ?_
      have hPc := xp_PL (xp_PL hP)
      have hDc := xp_DL (xp_DL hD)
      have hFc := va_free (wc := moW hm mm kA v g) hD hS hA [0, 1, 2, 3, 4, 5, 6, 7, 8, 9, 10, 11, 12, 13, 14, 15, 16, 17, 18, 19, 20, 21, 22, 23, 24, 25] rfl
      refine va_calli (va_runV (As := [.int (xs (nI (i + 1)).toNatClampNeg), .int (xs (nI (i + 2)).toNatClampNeg)]) (rest := []) ⟨hx, hb, hml, hown, hT⟩ (xc_Mo_providerK l D kA H.size hm mm v g (xs (nI (i + 1)).toNatClampNeg) (xs (nI (i + 2)).toNatClampNeg) len hMI hv2 hl40) (cwV 2 hT (wT_V k6g_95 k6g_96 k6g_97 k6g_9 k6g_94) rfl rfl rfl (by decide +kernel) ⟨Nat.le_of_ble_eq_true rfl, Nat.le_of_ble_eq_true rfl⟩) (x_preV hK hPc hDc 0 rfl rfl) rfl rfl hl.1 rfl (lv_room (Nat.le_of_ble_eq_true rfl)) xd_La_law_561 ⟨(show 40 + 110 * k + 1 + 0 ≤ 601024 by omega), (show 2000 + 600 * k + 6 + 0 ≤ 7293034 by omega)⟩) hS (fun q _ h => hFc q h) hFc (fun r113 u t H1 locs ht hvm hpost hB hz1 hk1 hS => ?_)
      obtain ⟨v114, g115⟩ := u
      obtain ⟨hP1, hD1⟩ := hB
      rw [ht] at hP1
      obtain ⟨hP, hD⟩ := va_joinQ (X := (moW hm mm kA v g ++ [(ob, .inl (kA 3, 1, .inr (.inl fo110)))])) (cx := moW hm mm kA v g) (wr := [(ob, .inl (kA 3, 1, .inr (.inl fo110)))]) (w1 := moW hm mm kA v114 g115) hP hD [0, 1, 2, 3, 4, 5, 6, 7, 8, 9, 10, 11, 12, 13, 14, 15, 16, 17, 18, 19, 20, 21, 22, 23, 24, 25] [26] rfl rfl (by decide) (by decide) hk1 hFc hP1 hD1
      have hP := xp_swP hP
      have hD := xp_swD hD
      generalize H1 = H at hP hS ⊢
      have hP : va_P D xcl ((moW hm mm kA v114 g115 ++ [(ob, .inl (kA 3, 1, .inr (.inl fo110)))]) ++ rp ad E108 RL) H := hP
      have hD : va_D A ((moW hm mm kA v114 g115 ++ [(ob, .inl (kA 3, 1, .inr (.inl fo110)))]) ++ rp ad E108 RL) := hD
      have hMIo := hMI
      have hXTo := hXT
      obtain ⟨hMI, hq2, hq1, hq4, hq5, hqg⟩ := hpost
      have hXT : XT g115 ad E108 nd ml 0 := sk_join hCI (f1_join hFk hXT) hqg
      have hv2 : v114 2 = nI 0 := hq2
      have hv4 : v114 4 = nI nd := hq4.trans hv4
      have hv5 : v114 5 = nI ml := hq5.trans hv5
      have hv1 : v114 1 = eI (E108 0 0) 5 := by rw [hFk 0 0 (by omega) (by omega) (by omega)]; exact hq1.trans hv1
      have hNS : NSs g115 ml := NS_r (LKP_C hCIo hXTo.2.2.1) (fun j a b c => hqg j (by omega) (by omega) (by omega)) hMIo.2.2.2.1 hNS
      refine lv_istore hx hb xd_La_law_564 hl (Nat.le_of_ble_eq_true rfl) rfl (fun ls hl => ?_)
      have hl : lv_has ls 7 [(6, .int r113), (5, .int r106), (4, .int (nI i)), (3, .ref ob), (2, .ref hm), (1, .ref (ad 0 0)), (0, .ref b0)] := hl
      refine lv_goto (tgt := 569) hx hb xd_La_law_566 (by decide) ?_
      refine W.widen (k := 40 + 110 * (k + 1)) (n := 2000 + 600 * (k + 1)) (show 40 + 110 * k + 1 ≤ 40 + 110 * (k + 1) by omega) (show 2000 + 600 * k + 6 ≤ 2000 + 600 * (k + 1) by omega) ?_
      refine lv_iinc (k := 2) (x := (nI i)) (v := (nI (i + 5))) hx hb xd_La_law_569 hl rfl (xb_inc i 5) (Nat.le_of_ble_eq_true rfl) rfl (fun ls hl => ?_)
      have hl : lv_has ls 7 [(4, .int (nI (i + 5))), (6, .int r113), (5, .int r106), (3, .ref ob), (2, .ref hm), (1, .ref (ad 0 0)), (0, .ref b0)] := hl
      refine lv_goto (tgt := 23) hx hb xd_La_law_572 (by decide) ?_
      exact ih1 (i + 5, k + 1, ad, E108, RL, v114, g115, fo110, ml, nd, 0, wn111, cs) _ _ _ (show 600 - (k + 1) < 600 - k by omega) (lv_sub hl [0, 3, 4, 5, 6] rfl) hP hD hS ⟨(show (i + 5) = 5 * (k + 1) from by first | assumption | omega), (show (i + 5) ≤ L ∨ (i + 5) = 0 from by first | assumption | omega), (show CI kA ad E108 RL ml nd 0 wn111 cs from hCI), (show MI v114 g115 from hMI), (show v114 2 = nI 0 from hv2), (show v114 4 = nI nd from hv4), (show v114 5 = nI ml from hv5), (show v114 1 = eI (E108 0 0) 5 from hv1), (show XT g115 ad E108 nd ml 0 from hXT), (show NSs g115 ml from hNS)⟩
    refine lv_tableOut (tgt := 569) hx hb xd_La_law_39 (by have a0 := lv_neT hw3 (show (0 : Int32).toInt = 0 by decide); have a1 := lv_neT hw10 (show (1 : Int32).toInt = 1 by decide); have a2 := lv_neT hw20 (show (2 : Int32).toInt = 2 by decide); have a3 := lv_neT hw46 (show (3 : Int32).toInt = 3 by decide); have a4 := lv_neT hw51 (show (4 : Int32).toInt = 4 by decide); have a5 := lv_neT hw57 (show (5 : Int32).toInt = 5 by decide); have a6 := lv_neT hw62 (show (6 : Int32).toInt = 6 by decide); have a7 := lv_neT hw67 (show (7 : Int32).toInt = 7 by decide); have a8 := lv_neT hw72 (show (8 : Int32).toInt = 8 by decide); have a9 := lv_neT hw77 (show (9 : Int32).toInt = 9 by decide); have a10 := lv_neT hw94 (show (10 : Int32).toInt = 10 by decide); have a11 := lv_neT hw105 (show (11 : Int32).toInt = 11 by decide); omega) (by decide) ?_
    refine W.widen (k := 40 + 110 * (k + 1)) (n := 2000 + 600 * (k + 1)) (show 40 + 110 * k ≤ 40 + 110 * (k + 1) by omega) (show 2000 + 600 * k ≤ 2000 + 600 * (k + 1) by omega) ?_
    refine lv_iinc (k := 0) (x := (nI i)) (v := (nI (i + 5))) hx hb xd_La_law_569 hl rfl (xb_inc i 5) (Nat.le_of_ble_eq_true rfl) rfl (fun ls hl => ?_)
    have hl : lv_has ls 7 [(4, .int (nI (i + 5))), (3, .ref ob), (2, .ref hm), (1, .ref (ad 0 0)), (0, .ref b0)] := hl
    refine lv_goto (tgt := 23) hx hb xd_La_law_572 (by decide) ?_
    exact ih1 (i + 5, k + 1, ad, E, RL, v, g, fo, ml, nd, len, wn, cs) _ _ _ (show 600 - (k + 1) < 600 - k by omega) (lv_sub hl [0, 1, 2, 3, 4] rfl) hP hD hS ⟨(show (i + 5) = 5 * (k + 1) from by first | assumption | omega), (show (i + 5) ≤ L ∨ (i + 5) = 0 from by first | assumption | omega), (show CI kA ad E RL ml nd len wn cs from hCI), (show MI v g from hMI), (show v 2 = nI len from hv2), (show v 4 = nI nd from hv4), (show v 5 = nI ml from hv5), (show v 1 = eI (E 0 0) 5 from hv1), (show XT g ad E nd ml len from hXT), (show NSs g ml from hNS)⟩

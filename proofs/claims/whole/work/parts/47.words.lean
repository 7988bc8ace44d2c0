theorem tw_45 : (Cond.initialized "RiscHartLaw") ∈ lw_g := List.mem_filter.mpr ⟨List.mem_of_getElem? (i := 45) (by decide +kernel), rfl⟩
theorem tw_52 : (Cond.initialized "java/lang/IndexOutOfBoundsException") ∈ lw_g := List.mem_filter.mpr ⟨List.mem_of_getElem? (i := 52) (by decide +kernel), rfl⟩
theorem tw_53 : (Cond.initialized "java/lang/IllegalArgumentException") ∈ lw_g := List.mem_filter.mpr ⟨List.mem_of_getElem? (i := 53) (by decide +kernel), rfl⟩
theorem tw_58 : (Cond.classLink "RiscHartLaw" 8 "RiscHart") ∈ lw_g := List.mem_filter.mpr ⟨List.mem_of_getElem? (i := 58) (by decide +kernel), rfl⟩
theorem tw_59 : (Cond.instantiable "RiscHart" 8) ∈ lw_g := List.mem_filter.mpr ⟨List.mem_of_getElem? (i := 59) (by decide +kernel), rfl⟩
theorem tw_60 : (Cond.methodLink "RiscHartLaw" 42 yHart_init) ∈ lw_g := List.mem_filter.mpr ⟨List.mem_of_getElem? (i := 60) (by decide +kernel), rfl⟩
theorem tw_61 : (Cond.instanceMethod yHart_init) ∈ lw_g := List.mem_filter.mpr ⟨List.mem_of_getElem? (i := 61) (by decide +kernel), rfl⟩
theorem tw_62 : (Cond.code yHart_init prog_1_method_1_code 1 none) ∈ lw_g := List.mem_filter.mpr ⟨List.mem_of_getElem? (i := 62) (by decide +kernel), rfl⟩
theorem tw_63 : (Cond.methodLink "RiscHart" 1 objectInit) ∈ lw_g := List.mem_filter.mpr ⟨List.mem_of_getElem? (i := 63) (by decide +kernel), rfl⟩
theorem tw_64 : (Cond.instanceMethod objectInit) ∈ lw_g := List.mem_filter.mpr ⟨List.mem_of_getElem? (i := 64) (by decide +kernel), rfl⟩
theorem tw_65 : (Cond.code objectInit object_method_1_code 1 none) ∈ lw_g := List.mem_filter.mpr ⟨List.mem_of_getElem? (i := 65) (by decide +kernel), rfl⟩
theorem tw_66 : (Cond.classLink "RiscHart" 7 "RiscHart$Memory") ∈ lw_g := List.mem_filter.mpr ⟨List.mem_of_getElem? (i := 66) (by decide +kernel), rfl⟩
theorem tw_67 : (Cond.instantiable "RiscHart$Memory" 3) ∈ lw_g := List.mem_filter.mpr ⟨List.mem_of_getElem? (i := 67) (by decide +kernel), rfl⟩
theorem tw_68 : (Cond.methodLink "RiscHart" 9 yMem_init) ∈ lw_g := List.mem_filter.mpr ⟨List.mem_of_getElem? (i := 68) (by decide +kernel), rfl⟩
theorem tw_69 : (Cond.instanceMethod yMem_init) ∈ lw_g := List.mem_filter.mpr ⟨List.mem_of_getElem? (i := 69) (by decide +kernel), rfl⟩
theorem tw_70 : (Cond.code yMem_init prog_5_method_1_code 2 none) ∈ lw_g := List.mem_filter.mpr ⟨List.mem_of_getElem? (i := 70) (by decide +kernel), rfl⟩
theorem tw_71 : (Cond.methodLink "RiscHart$Memory" 1 objectInit) ∈ lw_g := List.mem_filter.mpr ⟨List.mem_of_getElem? (i := 71) (by decide +kernel), rfl⟩
theorem tw_82 : (Cond.arrayClass FieldType.int) ∈ lw_g := List.mem_filter.mpr ⟨List.mem_of_getElem? (i := 82) (by decide +kernel), rfl⟩
theorem tw_108 : (Cond.methodLink "RiscHartLaw" 73 yHart_jump) ∈ lw_g := List.mem_filter.mpr ⟨List.mem_of_getElem? (i := 108) (by decide +kernel), rfl⟩
theorem tw_109 : (Cond.instanceMethod yHart_jump) ∈ lw_g := List.mem_filter.mpr ⟨List.mem_of_getElem? (i := 109) (by decide +kernel), rfl⟩
theorem tw_110 : (Cond.selects "RiscHart" yHart_jump yHart_jump) ∈ lw_g := List.mem_filter.mpr ⟨List.mem_of_getElem? (i := 110) (by decide +kernel), rfl⟩
theorem tw_111 : (Cond.code yHart_jump prog_1_method_8_code 2 none) ∈ lw_g := List.mem_filter.mpr ⟨List.mem_of_getElem? (i := 111) (by decide +kernel), rfl⟩
theorem tw_112 : (Cond.methodLink "RiscHartLaw" 80 yHart_clock) ∈ lw_g := List.mem_filter.mpr ⟨List.mem_of_getElem? (i := 112) (by decide +kernel), rfl⟩
theorem tw_113 : (Cond.instanceMethod yHart_clock) ∈ lw_g := List.mem_filter.mpr ⟨List.mem_of_getElem? (i := 113) (by decide +kernel), rfl⟩
theorem tw_114 : (Cond.selects "RiscHart" yHart_clock yHart_clock) ∈ lw_g := List.mem_filter.mpr ⟨List.mem_of_getElem? (i := 114) (by decide +kernel), rfl⟩
theorem tw_115 : (Cond.code yHart_clock prog_1_method_9_code 3 none) ∈ lw_g := List.mem_filter.mpr ⟨List.mem_of_getElem? (i := 115) (by decide +kernel), rfl⟩
theorem tw_116 : (Cond.methodLink "RiscHartLaw" 85 yHart_step) ∈ lw_g := List.mem_filter.mpr ⟨List.mem_of_getElem? (i := 116) (by decide +kernel), rfl⟩
theorem tw_117 : (Cond.instanceMethod yHart_step) ∈ lw_g := List.mem_filter.mpr ⟨List.mem_of_getElem? (i := 117) (by decide +kernel), rfl⟩
theorem tw_118 : (Cond.selects "RiscHart" yHart_step yHart_step) ∈ lw_g := List.mem_filter.mpr ⟨List.mem_of_getElem? (i := 118) (by decide +kernel), rfl⟩
theorem tw_119 : (Cond.code yHart_step prog_1_method_10_code 1 (some FieldType.int)) ∈ lw_g := List.mem_filter.mpr ⟨List.mem_of_getElem? (i := 119) (by decide +kernel), rfl⟩
theorem tw_399 : (Cond.methodLink "RiscHartLaw" 46 yLaw_poke) ∈ lw_g := List.mem_filter.mpr ⟨List.mem_of_getElem? (i := 399) (by decide +kernel), rfl⟩
theorem tw_400 : (Cond.static yLaw_poke) ∈ lw_g := List.mem_filter.mpr ⟨List.mem_of_getElem? (i := 400) (by decide +kernel), rfl⟩
theorem tw_401 : (Cond.codeWith yLaw_poke method_3_code 4 (some FieldType.int) [(0, 6, 9, 13)]) ∈ lw_g := List.mem_filter.mpr ⟨List.mem_of_getElem? (i := 401) (by decide +kernel), rfl⟩
theorem tw_402 : (Cond.classLink "RiscHartLaw" 13 "java/lang/IndexOutOfBoundsException") ∈ lw_g := List.mem_filter.mpr ⟨List.mem_of_getElem? (i := 402) (by decide +kernel), rfl⟩
theorem tw_403 : (Cond.methodLink "RiscHartLaw" 7 yHart_poke) ∈ lw_g := List.mem_filter.mpr ⟨List.mem_of_getElem? (i := 403) (by decide +kernel), rfl⟩
theorem tw_404 : (Cond.instanceMethod yHart_poke) ∈ lw_g := List.mem_filter.mpr ⟨List.mem_of_getElem? (i := 404) (by decide +kernel), rfl⟩
theorem tw_405 : (Cond.selects "RiscHart" yHart_poke yHart_poke) ∈ lw_g := List.mem_filter.mpr ⟨List.mem_of_getElem? (i := 405) (by decide +kernel), rfl⟩
theorem tw_406 : (Cond.code yHart_poke prog_1_method_2_code 3 none) ∈ lw_g := List.mem_filter.mpr ⟨List.mem_of_getElem? (i := 406) (by decide +kernel), rfl⟩
theorem tw_407 : (Cond.methodLink "RiscHart" 20 yMem_holds) ∈ lw_g := List.mem_filter.mpr ⟨List.mem_of_getElem? (i := 407) (by decide +kernel), rfl⟩
theorem tw_408 : (Cond.classLink "RiscHart" 24 "java/lang/IndexOutOfBoundsException") ∈ lw_g := List.mem_filter.mpr ⟨List.mem_of_getElem? (i := 408) (by decide +kernel), rfl⟩
theorem tw_475 : (Cond.methodLink "RiscHartLaw" 56 yLaw_plant) ∈ lw_g := List.mem_filter.mpr ⟨List.mem_of_getElem? (i := 475) (by decide +kernel), rfl⟩
theorem tw_476 : (Cond.static yLaw_plant) ∈ lw_g := List.mem_filter.mpr ⟨List.mem_of_getElem? (i := 476) (by decide +kernel), rfl⟩
theorem tw_477 : (Cond.codeWith yLaw_plant method_4_code 4 (some FieldType.int) [(0, 6, 9, 13)]) ∈ lw_g := List.mem_filter.mpr ⟨List.mem_of_getElem? (i := 477) (by decide +kernel), rfl⟩
theorem tw_478 : (Cond.methodLink "RiscHartLaw" 15 yHart_plant) ∈ lw_g := List.mem_filter.mpr ⟨List.mem_of_getElem? (i := 478) (by decide +kernel), rfl⟩
theorem tw_479 : (Cond.instanceMethod yHart_plant) ∈ lw_g := List.mem_filter.mpr ⟨List.mem_of_getElem? (i := 479) (by decide +kernel), rfl⟩
theorem tw_480 : (Cond.selects "RiscHart" yHart_plant yHart_plant) ∈ lw_g := List.mem_filter.mpr ⟨List.mem_of_getElem? (i := 480) (by decide +kernel), rfl⟩
theorem tw_481 : (Cond.code yHart_plant prog_1_method_3_code 3 none) ∈ lw_g := List.mem_filter.mpr ⟨List.mem_of_getElem? (i := 481) (by decide +kernel), rfl⟩
theorem tw_483 : (Cond.methodLink "RiscHartLaw" 59 yLaw_peek) ∈ lw_g := List.mem_filter.mpr ⟨List.mem_of_getElem? (i := 483) (by decide +kernel), rfl⟩
theorem tw_484 : (Cond.static yLaw_peek) ∈ lw_g := List.mem_filter.mpr ⟨List.mem_of_getElem? (i := 484) (by decide +kernel), rfl⟩
theorem tw_485 : (Cond.codeWith yLaw_peek method_5_code 4 (some FieldType.int) [(0, 9, 12, 13)]) ∈ lw_g := List.mem_filter.mpr ⟨List.mem_of_getElem? (i := 485) (by decide +kernel), rfl⟩
theorem tw_486 : (Cond.methodLink "RiscHartLaw" 18 yHart_peek) ∈ lw_g := List.mem_filter.mpr ⟨List.mem_of_getElem? (i := 486) (by decide +kernel), rfl⟩
theorem tw_487 : (Cond.instanceMethod yHart_peek) ∈ lw_g := List.mem_filter.mpr ⟨List.mem_of_getElem? (i := 487) (by decide +kernel), rfl⟩
theorem tw_488 : (Cond.selects "RiscHart" yHart_peek yHart_peek) ∈ lw_g := List.mem_filter.mpr ⟨List.mem_of_getElem? (i := 488) (by decide +kernel), rfl⟩
theorem tw_489 : (Cond.code yHart_peek prog_1_method_4_code 2 (some FieldType.int)) ∈ lw_g := List.mem_filter.mpr ⟨List.mem_of_getElem? (i := 489) (by decide +kernel), rfl⟩
theorem tw_490 : (Cond.methodLink "RiscHartLaw" 63 yLaw_rights) ∈ lw_g := List.mem_filter.mpr ⟨List.mem_of_getElem? (i := 490) (by decide +kernel), rfl⟩
theorem tw_491 : (Cond.static yLaw_rights) ∈ lw_g := List.mem_filter.mpr ⟨List.mem_of_getElem? (i := 491) (by decide +kernel), rfl⟩
theorem tw_492 : (Cond.codeWith yLaw_rights method_6_code 5 (some FieldType.int) [(0, 10, 13, 26)]) ∈ lw_g := List.mem_filter.mpr ⟨List.mem_of_getElem? (i := 492) (by decide +kernel), rfl⟩
theorem tw_493 : (Cond.classLink "RiscHartLaw" 26 "java/lang/IllegalArgumentException") ∈ lw_g := List.mem_filter.mpr ⟨List.mem_of_getElem? (i := 493) (by decide +kernel), rfl⟩
theorem tw_494 : (Cond.methodLink "RiscHartLaw" 22 yHart_rights) ∈ lw_g := List.mem_filter.mpr ⟨List.mem_of_getElem? (i := 494) (by decide +kernel), rfl⟩
theorem tw_495 : (Cond.instanceMethod yHart_rights) ∈ lw_g := List.mem_filter.mpr ⟨List.mem_of_getElem? (i := 495) (by decide +kernel), rfl⟩
theorem tw_496 : (Cond.selects "RiscHart" yHart_rights yHart_rights) ∈ lw_g := List.mem_filter.mpr ⟨List.mem_of_getElem? (i := 496) (by decide +kernel), rfl⟩
theorem tw_497 : (Cond.code yHart_rights prog_1_method_5_code 3 (some FieldType.int)) ∈ lw_g := List.mem_filter.mpr ⟨List.mem_of_getElem? (i := 497) (by decide +kernel), rfl⟩
theorem tw_498 : (Cond.classLink "RiscHart" 45 "java/lang/IllegalArgumentException") ∈ lw_g := List.mem_filter.mpr ⟨List.mem_of_getElem? (i := 498) (by decide +kernel), rfl⟩
theorem tw_515 : (Cond.methodLink "RiscHart" 52 yMem_exchangeRights) ∈ lw_g := List.mem_filter.mpr ⟨List.mem_of_getElem? (i := 515) (by decide +kernel), rfl⟩
theorem tw_516 : (Cond.instanceMethod yMem_exchangeRights) ∈ lw_g := List.mem_filter.mpr ⟨List.mem_of_getElem? (i := 516) (by decide +kernel), rfl⟩
theorem tw_517 : (Cond.selects "RiscHart$Memory" yMem_exchangeRights yMem_exchangeRights) ∈ lw_g := List.mem_filter.mpr ⟨List.mem_of_getElem? (i := 517) (by decide +kernel), rfl⟩
theorem tw_518 : (Cond.code yMem_exchangeRights prog_5_method_6_code 4 (some FieldType.int)) ∈ lw_g := List.mem_filter.mpr ⟨List.mem_of_getElem? (i := 518) (by decide +kernel), rfl⟩
theorem tw_519 : (Cond.methodLink "RiscHartLaw" 67 yLaw_set) ∈ lw_g := List.mem_filter.mpr ⟨List.mem_of_getElem? (i := 519) (by decide +kernel), rfl⟩
theorem tw_520 : (Cond.static yLaw_set) ∈ lw_g := List.mem_filter.mpr ⟨List.mem_of_getElem? (i := 520) (by decide +kernel), rfl⟩
theorem tw_521 : (Cond.codeWith yLaw_set method_7_code 5 (some FieldType.int) [(0, 17, 20, 13)]) ∈ lw_g := List.mem_filter.mpr ⟨List.mem_of_getElem? (i := 521) (by decide +kernel), rfl⟩
theorem tw_522 : (Cond.methodLink "RiscHartLaw" 28 yHart_set) ∈ lw_g := List.mem_filter.mpr ⟨List.mem_of_getElem? (i := 522) (by decide +kernel), rfl⟩
theorem tw_523 : (Cond.instanceMethod yHart_set) ∈ lw_g := List.mem_filter.mpr ⟨List.mem_of_getElem? (i := 523) (by decide +kernel), rfl⟩
theorem tw_524 : (Cond.selects "RiscHart" yHart_set yHart_set) ∈ lw_g := List.mem_filter.mpr ⟨List.mem_of_getElem? (i := 524) (by decide +kernel), rfl⟩
theorem tw_525 : (Cond.code yHart_set prog_1_method_6_code 3 (some FieldType.boolean)) ∈ lw_g := List.mem_filter.mpr ⟨List.mem_of_getElem? (i := 525) (by decide +kernel), rfl⟩
theorem tw_527 : (Cond.methodLink "RiscHartLaw" 70 yLaw_register) ∈ lw_g := List.mem_filter.mpr ⟨List.mem_of_getElem? (i := 527) (by decide +kernel), rfl⟩
theorem tw_528 : (Cond.static yLaw_register) ∈ lw_g := List.mem_filter.mpr ⟨List.mem_of_getElem? (i := 528) (by decide +kernel), rfl⟩
theorem tw_529 : (Cond.codeWith yLaw_register method_8_code 4 (some FieldType.int) [(0, 9, 12, 13)]) ∈ lw_g := List.mem_filter.mpr ⟨List.mem_of_getElem? (i := 529) (by decide +kernel), rfl⟩
theorem tw_530 : (Cond.methodLink "RiscHartLaw" 32 yHart_register) ∈ lw_g := List.mem_filter.mpr ⟨List.mem_of_getElem? (i := 530) (by decide +kernel), rfl⟩
theorem tw_531 : (Cond.instanceMethod yHart_register) ∈ lw_g := List.mem_filter.mpr ⟨List.mem_of_getElem? (i := 531) (by decide +kernel), rfl⟩
theorem tw_532 : (Cond.selects "RiscHart" yHart_register yHart_register) ∈ lw_g := List.mem_filter.mpr ⟨List.mem_of_getElem? (i := 532) (by decide +kernel), rfl⟩
theorem tw_533 : (Cond.code yHart_register prog_1_method_7_code 2 (some FieldType.int)) ∈ lw_g := List.mem_filter.mpr ⟨List.mem_of_getElem? (i := 533) (by decide +kernel), rfl⟩
theorem tw_534 : (Cond.methodLink "RiscHartLaw" 89 yLaw_run) ∈ lw_g := List.mem_filter.mpr ⟨List.mem_of_getElem? (i := 534) (by decide +kernel), rfl⟩
theorem tw_535 : (Cond.static yLaw_run) ∈ lw_g := List.mem_filter.mpr ⟨List.mem_of_getElem? (i := 535) (by decide +kernel), rfl⟩
theorem tw_536 : (Cond.codeWith yLaw_run method_9_code 4 (some FieldType.int) [(0, 9, 12, 26)]) ∈ lw_g := List.mem_filter.mpr ⟨List.mem_of_getElem? (i := 536) (by decide +kernel), rfl⟩
theorem tw_537 : (Cond.methodLink "RiscHartLaw" 35 yHart_run) ∈ lw_g := List.mem_filter.mpr ⟨List.mem_of_getElem? (i := 537) (by decide +kernel), rfl⟩
theorem tw_538 : (Cond.instanceMethod yHart_run) ∈ lw_g := List.mem_filter.mpr ⟨List.mem_of_getElem? (i := 538) (by decide +kernel), rfl⟩
theorem tw_539 : (Cond.selects "RiscHart" yHart_run yHart_run) ∈ lw_g := List.mem_filter.mpr ⟨List.mem_of_getElem? (i := 539) (by decide +kernel), rfl⟩
theorem tw_540 : (Cond.code yHart_run prog_1_method_11_code 3 (some FieldType.int)) ∈ lw_g := List.mem_filter.mpr ⟨List.mem_of_getElem? (i := 540) (by decide +kernel), rfl⟩
theorem tw_542 : (Cond.methodLink "RiscHartLaw" 92 yLaw_count) ∈ lw_g := List.mem_filter.mpr ⟨List.mem_of_getElem? (i := 542) (by decide +kernel), rfl⟩
theorem tw_543 : (Cond.static yLaw_count) ∈ lw_g := List.mem_filter.mpr ⟨List.mem_of_getElem? (i := 543) (by decide +kernel), rfl⟩
theorem tw_544 : (Cond.codeWith yLaw_count method_10_code 4 (some FieldType.int) [(0, 8, 11, 26)]) ∈ lw_g := List.mem_filter.mpr ⟨List.mem_of_getElem? (i := 544) (by decide +kernel), rfl⟩
theorem tw_545 : (Cond.methodLink "RiscHartLaw" 38 yHart_count) ∈ lw_g := List.mem_filter.mpr ⟨List.mem_of_getElem? (i := 545) (by decide +kernel), rfl⟩
theorem tw_546 : (Cond.instanceMethod yHart_count) ∈ lw_g := List.mem_filter.mpr ⟨List.mem_of_getElem? (i := 546) (by decide +kernel), rfl⟩
theorem tw_547 : (Cond.selects "RiscHart" yHart_count yHart_count) ∈ lw_g := List.mem_filter.mpr ⟨List.mem_of_getElem? (i := 547) (by decide +kernel), rfl⟩
theorem tw_548 : (Cond.code yHart_count prog_1_method_12_code 2 (some FieldType.long)) ∈ lw_g := List.mem_filter.mpr ⟨List.mem_of_getElem? (i := 548) (by decide +kernel), rfl⟩
theorem tw_550 : (Cond.classLink "RiscHartLaw" 43 "RiscHartModel") ∈ lw_g := List.mem_filter.mpr ⟨List.mem_of_getElem? (i := 550) (by decide +kernel), rfl⟩
theorem tw_551 : (Cond.instantiable "RiscHartModel" 14) ∈ lw_g := List.mem_filter.mpr ⟨List.mem_of_getElem? (i := 551) (by decide +kernel), rfl⟩
theorem tw_552 : (Cond.methodLink "RiscHartLaw" 45 yMod_init) ∈ lw_g := List.mem_filter.mpr ⟨List.mem_of_getElem? (i := 552) (by decide +kernel), rfl⟩
theorem tw_553 : (Cond.instanceMethod yMod_init) ∈ lw_g := List.mem_filter.mpr ⟨List.mem_of_getElem? (i := 553) (by decide +kernel), rfl⟩
theorem tw_554 : (Cond.code yMod_init prog_8_method_1_code 2 none) ∈ lw_g := List.mem_filter.mpr ⟨List.mem_of_getElem? (i := 554) (by decide +kernel), rfl⟩
theorem tw_555 : (Cond.methodLink "RiscHartModel" 1 objectInit) ∈ lw_g := List.mem_filter.mpr ⟨List.mem_of_getElem? (i := 555) (by decide +kernel), rfl⟩
theorem tw_556 : (Cond.constant "RiscHartModel" 7 65536) ∈ lw_g := List.mem_filter.mpr ⟨List.mem_of_getElem? (i := 556) (by decide +kernel), rfl⟩
theorem tw_600 : (Cond.methodLink "RiscHartLaw" 52 yMod_thrown) ∈ lw_g := List.mem_filter.mpr ⟨List.mem_of_getElem? (i := 600) (by decide +kernel), rfl⟩
theorem tw_601 : (Cond.instanceMethod yMod_thrown) ∈ lw_g := List.mem_filter.mpr ⟨List.mem_of_getElem? (i := 601) (by decide +kernel), rfl⟩
theorem tw_602 : (Cond.selects "RiscHartModel" yMod_thrown yMod_thrown) ∈ lw_g := List.mem_filter.mpr ⟨List.mem_of_getElem? (i := 602) (by decide +kernel), rfl⟩
theorem tw_603 : (Cond.code yMod_thrown prog_8_method_2_code 1 (some FieldType.int)) ∈ lw_g := List.mem_filter.mpr ⟨List.mem_of_getElem? (i := 603) (by decide +kernel), rfl⟩
theorem tw_604 : (Cond.methodLink "RiscHartLaw" 51 yMod_poke) ∈ lw_g := List.mem_filter.mpr ⟨List.mem_of_getElem? (i := 604) (by decide +kernel), rfl⟩
theorem tw_605 : (Cond.instanceMethod yMod_poke) ∈ lw_g := List.mem_filter.mpr ⟨List.mem_of_getElem? (i := 605) (by decide +kernel), rfl⟩
theorem tw_606 : (Cond.selects "RiscHartModel" yMod_poke yMod_poke) ∈ lw_g := List.mem_filter.mpr ⟨List.mem_of_getElem? (i := 606) (by decide +kernel), rfl⟩
theorem tw_607 : (Cond.code yMod_poke prog_8_method_5_code 3 none) ∈ lw_g := List.mem_filter.mpr ⟨List.mem_of_getElem? (i := 607) (by decide +kernel), rfl⟩
theorem tw_616 : (Cond.methodLink "RiscHartLaw" 58 yMod_plant) ∈ lw_g := List.mem_filter.mpr ⟨List.mem_of_getElem? (i := 616) (by decide +kernel), rfl⟩
theorem tw_617 : (Cond.instanceMethod yMod_plant) ∈ lw_g := List.mem_filter.mpr ⟨List.mem_of_getElem? (i := 617) (by decide +kernel), rfl⟩
theorem tw_618 : (Cond.selects "RiscHartModel" yMod_plant yMod_plant) ∈ lw_g := List.mem_filter.mpr ⟨List.mem_of_getElem? (i := 618) (by decide +kernel), rfl⟩
theorem tw_619 : (Cond.code yMod_plant prog_8_method_6_code 4 none) ∈ lw_g := List.mem_filter.mpr ⟨List.mem_of_getElem? (i := 619) (by decide +kernel), rfl⟩
theorem tw_621 : (Cond.methodLink "RiscHartLaw" 62 yMod_peek) ∈ lw_g := List.mem_filter.mpr ⟨List.mem_of_getElem? (i := 621) (by decide +kernel), rfl⟩
theorem tw_622 : (Cond.instanceMethod yMod_peek) ∈ lw_g := List.mem_filter.mpr ⟨List.mem_of_getElem? (i := 622) (by decide +kernel), rfl⟩
theorem tw_623 : (Cond.selects "RiscHartModel" yMod_peek yMod_peek) ∈ lw_g := List.mem_filter.mpr ⟨List.mem_of_getElem? (i := 623) (by decide +kernel), rfl⟩
theorem tw_624 : (Cond.code yMod_peek prog_8_method_7_code 2 (some FieldType.int)) ∈ lw_g := List.mem_filter.mpr ⟨List.mem_of_getElem? (i := 624) (by decide +kernel), rfl⟩
theorem tw_625 : (Cond.methodLink "RiscHartLaw" 66 yMod_rights) ∈ lw_g := List.mem_filter.mpr ⟨List.mem_of_getElem? (i := 625) (by decide +kernel), rfl⟩
theorem tw_626 : (Cond.instanceMethod yMod_rights) ∈ lw_g := List.mem_filter.mpr ⟨List.mem_of_getElem? (i := 626) (by decide +kernel), rfl⟩
theorem tw_627 : (Cond.selects "RiscHartModel" yMod_rights yMod_rights) ∈ lw_g := List.mem_filter.mpr ⟨List.mem_of_getElem? (i := 627) (by decide +kernel), rfl⟩
theorem tw_628 : (Cond.code yMod_rights prog_8_method_8_code 4 (some FieldType.int)) ∈ lw_g := List.mem_filter.mpr ⟨List.mem_of_getElem? (i := 628) (by decide +kernel), rfl⟩
theorem tw_629 : (Cond.methodLink "RiscHartLaw" 69 yMod_set) ∈ lw_g := List.mem_filter.mpr ⟨List.mem_of_getElem? (i := 629) (by decide +kernel), rfl⟩
theorem tw_630 : (Cond.instanceMethod yMod_set) ∈ lw_g := List.mem_filter.mpr ⟨List.mem_of_getElem? (i := 630) (by decide +kernel), rfl⟩
theorem tw_631 : (Cond.selects "RiscHartModel" yMod_set yMod_set) ∈ lw_g := List.mem_filter.mpr ⟨List.mem_of_getElem? (i := 631) (by decide +kernel), rfl⟩
theorem tw_632 : (Cond.code yMod_set prog_8_method_9_code 3 (some FieldType.boolean)) ∈ lw_g := List.mem_filter.mpr ⟨List.mem_of_getElem? (i := 632) (by decide +kernel), rfl⟩
theorem tw_633 : (Cond.methodLink "RiscHartLaw" 72 yMod_register) ∈ lw_g := List.mem_filter.mpr ⟨List.mem_of_getElem? (i := 633) (by decide +kernel), rfl⟩
theorem tw_634 : (Cond.instanceMethod yMod_register) ∈ lw_g := List.mem_filter.mpr ⟨List.mem_of_getElem? (i := 634) (by decide +kernel), rfl⟩
theorem tw_635 : (Cond.selects "RiscHartModel" yMod_register yMod_register) ∈ lw_g := List.mem_filter.mpr ⟨List.mem_of_getElem? (i := 635) (by decide +kernel), rfl⟩
theorem tw_636 : (Cond.code yMod_register prog_8_method_10_code 2 (some FieldType.int)) ∈ lw_g := List.mem_filter.mpr ⟨List.mem_of_getElem? (i := 636) (by decide +kernel), rfl⟩
theorem tw_637 : (Cond.methodLink "RiscHartLaw" 77 yMod_jump) ∈ lw_g := List.mem_filter.mpr ⟨List.mem_of_getElem? (i := 637) (by decide +kernel), rfl⟩
theorem tw_638 : (Cond.instanceMethod yMod_jump) ∈ lw_g := List.mem_filter.mpr ⟨List.mem_of_getElem? (i := 638) (by decide +kernel), rfl⟩
theorem tw_639 : (Cond.selects "RiscHartModel" yMod_jump yMod_jump) ∈ lw_g := List.mem_filter.mpr ⟨List.mem_of_getElem? (i := 639) (by decide +kernel), rfl⟩
theorem tw_640 : (Cond.code yMod_jump prog_8_method_11_code 2 none) ∈ lw_g := List.mem_filter.mpr ⟨List.mem_of_getElem? (i := 640) (by decide +kernel), rfl⟩
theorem tw_641 : (Cond.methodLink "RiscHartLaw" 84 yMod_clock) ∈ lw_g := List.mem_filter.mpr ⟨List.mem_of_getElem? (i := 641) (by decide +kernel), rfl⟩
theorem tw_642 : (Cond.instanceMethod yMod_clock) ∈ lw_g := List.mem_filter.mpr ⟨List.mem_of_getElem? (i := 642) (by decide +kernel), rfl⟩
theorem tw_643 : (Cond.selects "RiscHartModel" yMod_clock yMod_clock) ∈ lw_g := List.mem_filter.mpr ⟨List.mem_of_getElem? (i := 643) (by decide +kernel), rfl⟩
theorem tw_644 : (Cond.code yMod_clock prog_8_method_12_code 3 none) ∈ lw_g := List.mem_filter.mpr ⟨List.mem_of_getElem? (i := 644) (by decide +kernel), rfl⟩
theorem tw_645 : (Cond.methodLink "RiscHartLaw" 88 yMod_step) ∈ lw_g := List.mem_filter.mpr ⟨List.mem_of_getElem? (i := 645) (by decide +kernel), rfl⟩
theorem tw_646 : (Cond.instanceMethod yMod_step) ∈ lw_g := List.mem_filter.mpr ⟨List.mem_of_getElem? (i := 646) (by decide +kernel), rfl⟩
theorem tw_647 : (Cond.selects "RiscHartModel" yMod_step yMod_step) ∈ lw_g := List.mem_filter.mpr ⟨List.mem_of_getElem? (i := 647) (by decide +kernel), rfl⟩
theorem tw_648 : (Cond.code yMod_step prog_8_method_31_code 2 (some FieldType.int)) ∈ lw_g := List.mem_filter.mpr ⟨List.mem_of_getElem? (i := 648) (by decide +kernel), rfl⟩
theorem tw_751 : (Cond.methodLink "RiscHartLaw" 91 yMod_run) ∈ lw_g := List.mem_filter.mpr ⟨List.mem_of_getElem? (i := 751) (by decide +kernel), rfl⟩
theorem tw_752 : (Cond.instanceMethod yMod_run) ∈ lw_g := List.mem_filter.mpr ⟨List.mem_of_getElem? (i := 752) (by decide +kernel), rfl⟩
theorem tw_753 : (Cond.selects "RiscHartModel" yMod_run yMod_run) ∈ lw_g := List.mem_filter.mpr ⟨List.mem_of_getElem? (i := 753) (by decide +kernel), rfl⟩
theorem tw_754 : (Cond.code yMod_run prog_8_method_43_code 3 (some FieldType.int)) ∈ lw_g := List.mem_filter.mpr ⟨List.mem_of_getElem? (i := 754) (by decide +kernel), rfl⟩
theorem tw_755 : (Cond.methodLink "RiscHartModel" 166 yMod_step) ∈ lw_g := List.mem_filter.mpr ⟨List.mem_of_getElem? (i := 755) (by decide +kernel), rfl⟩
theorem tw_756 : (Cond.methodLink "RiscHartLaw" 94 yMod_count) ∈ lw_g := List.mem_filter.mpr ⟨List.mem_of_getElem? (i := 756) (by decide +kernel), rfl⟩
theorem tw_757 : (Cond.instanceMethod yMod_count) ∈ lw_g := List.mem_filter.mpr ⟨List.mem_of_getElem? (i := 757) (by decide +kernel), rfl⟩
theorem tw_758 : (Cond.selects "RiscHartModel" yMod_count yMod_count) ∈ lw_g := List.mem_filter.mpr ⟨List.mem_of_getElem? (i := 758) (by decide +kernel), rfl⟩
theorem tw_759 : (Cond.code yMod_count prog_8_method_44_code 2 (some FieldType.long)) ∈ lw_g := List.mem_filter.mpr ⟨List.mem_of_getElem? (i := 759) (by decide +kernel), rfl⟩
theorem tw_760 : (Cond.constantLong "RiscHartLaw" 78 4294967295) ∈ lw_g := List.mem_filter.mpr ⟨List.mem_of_getElem? (i := 760) (by decide +kernel), rfl⟩
theorem tw_761 : (Cond.arrayClass FieldType.long) ∈ lw_g := List.mem_filter.mpr ⟨List.mem_of_getElem? (i := 761) (by decide +kernel), rfl⟩

theorem tw_437 : Cond.instanceMethod y_Mo_good ∈ TBL := tbl_t (i := 437) (by decide +kernel) rfl
theorem tw_438 : Cond.code y_Mo_good prog_6_method_3_code 3 (some .boolean) ∈ TBL := tbl_t (i := 438) (by decide +kernel) rfl
theorem tw_439 : Cond.constantLong "ExactNotationModel" 41 255 ∈ TBL := tbl_t (i := 439) (by decide +kernel) rfl
theorem tw_440 : Cond.methodLink "ExactNotationLaw" 36 y_Mo_show ∈ TBL := tbl_t (i := 440) (by decide +kernel) rfl
theorem tw_441 : Cond.instanceMethod y_Mo_show ∈ TBL := tbl_t (i := 441) (by decide +kernel) rfl
theorem tw_442 : Cond.selects "ExactNotationModel" y_Mo_show y_Mo_show ∈ TBL := tbl_t (i := 442) (by decide +kernel) rfl
theorem tw_443 : Cond.code y_Mo_show prog_6_method_24_code 7 (some .int) ∈ TBL := tbl_t (i := 443) (by decide +kernel) rfl
theorem tw_444 : Cond.methodLink "ExactNotationModel" 158 y_Mo_kind ∈ TBL := tbl_t (i := 444) (by decide +kernel) rfl
theorem tw_446 : Cond.instanceMethod y_Mo_kind ∈ TBL := tbl_t (i := 446) (by decide +kernel) rfl
theorem tw_447 : Cond.code y_Mo_kind prog_6_method_5_code 2 none ∈ TBL := tbl_t (i := 447) (by decide +kernel) rfl
theorem tw_448 : Cond.methodLink "ExactNotationModel" 162 y_Mo_shown ∈ TBL := tbl_t (i := 448) (by decide +kernel) rfl
theorem tw_450 : Cond.instanceMethod y_Mo_shown ∈ TBL := tbl_t (i := 450) (by decide +kernel) rfl
theorem tw_451 : Cond.code y_Mo_shown prog_6_method_23_code 11 (some .int) ∈ TBL := tbl_t (i := 451) (by decide +kernel) rfl
theorem tw_452 : Cond.methodLink "ExactNotationModel" 119 y_Mo_sign ∈ TBL := tbl_t (i := 452) (by decide +kernel) rfl
theorem tw_454 : Cond.instanceMethod y_Mo_sign ∈ TBL := tbl_t (i := 454) (by decide +kernel) rfl
theorem tw_455 : Cond.code y_Mo_sign prog_6_method_8_code 1 (some .long) ∈ TBL := tbl_t (i := 455) (by decide +kernel) rfl
theorem tw_456 : Cond.constantLong "ExactNotationModel" 53 (-9223372036854775808) ∈ TBL := tbl_t (i := 456) (by decide +kernel) rfl
theorem tw_457 : Cond.constantLong "ExactNotationModel" 55 2147483648 ∈ TBL := tbl_t (i := 457) (by decide +kernel) rfl
theorem tw_458 : Cond.constantLong "ExactNotationModel" 122 (-1) ∈ TBL := tbl_t (i := 458) (by decide +kernel) rfl
theorem tw_459 : Cond.constantLong "ExactNotationModel" 124 4294967295 ∈ TBL := tbl_t (i := 459) (by decide +kernel) rfl
theorem tw_460 : Cond.methodLink "ExactNotationModel" 57 y_Mo_infinity ∈ TBL := tbl_t (i := 460) (by decide +kernel) rfl
theorem tw_462 : Cond.instanceMethod y_Mo_infinity ∈ TBL := tbl_t (i := 462) (by decide +kernel) rfl
theorem tw_463 : Cond.code y_Mo_infinity prog_6_method_6_code 1 (some .long) ∈ TBL := tbl_t (i := 463) (by decide +kernel) rfl
theorem tw_464 : Cond.constantLong "ExactNotationModel" 49 9218868437227405312 ∈ TBL := tbl_t (i := 464) (by decide +kernel) rfl
theorem tw_465 : Cond.constantLong "ExactNotationModel" 51 2139095040 ∈ TBL := tbl_t (i := 465) (by decide +kernel) rfl
theorem tw_466 : Cond.methodLink "ExactNotationModel" 126 y_Mo_isNone ∈ TBL := tbl_t (i := 466) (by decide +kernel) rfl
theorem tw_468 : Cond.instanceMethod y_Mo_isNone ∈ TBL := tbl_t (i := 468) (by decide +kernel) rfl
theorem tw_469 : Cond.code y_Mo_isNone prog_6_method_9_code 3 (some .boolean) ∈ TBL := tbl_t (i := 469) (by decide +kernel) rfl
theorem tw_472 : Cond.methodLink "ExactNotationModel" 134 y_St_length ∈ TBL := tbl_t (i := 472) (by decide +kernel) rfl
theorem tw_473 : Cond.methodLink "ExactNotationModel" 139 y_St_charAt ∈ TBL := tbl_t (i := 473) (by decide +kernel) rfl
theorem tw_474 : Cond.methodLink "ExactNotationModel" 107 y_Mo_add ∈ TBL := tbl_t (i := 474) (by decide +kernel) rfl
theorem tw_476 : Cond.instanceMethod y_Mo_add ∈ TBL := tbl_t (i := 476) (by decide +kernel) rfl
theorem tw_477 : Cond.code y_Mo_add prog_6_method_18_code 2 none ∈ TBL := tbl_t (i := 477) (by decide +kernel) rfl
theorem tw_478 : Cond.methodLink "ExactNotationModel" 143 y_Mo_c ∈ TBL := tbl_t (i := 478) (by decide +kernel) rfl
theorem tw_480 : Cond.instanceMethod y_Mo_c ∈ TBL := tbl_t (i := 480) (by decide +kernel) rfl
theorem tw_481 : Cond.code y_Mo_c prog_6_method_11_code 5 (some .long) ∈ TBL := tbl_t (i := 481) (by decide +kernel) rfl
theorem tw_482 : Cond.methodLink "ExactNotationModel" 61 y_Mo_fraction ∈ TBL := tbl_t (i := 482) (by decide +kernel) rfl
theorem tw_484 : Cond.instanceMethod y_Mo_fraction ∈ TBL := tbl_t (i := 484) (by decide +kernel) rfl
theorem tw_485 : Cond.code y_Mo_fraction prog_6_method_7_code 1 (some .long) ∈ TBL := tbl_t (i := 485) (by decide +kernel) rfl
theorem tw_486 : Cond.methodLink "ExactNotationModel" 147 y_Mo_q ∈ TBL := tbl_t (i := 486) (by decide +kernel) rfl
theorem tw_488 : Cond.instanceMethod y_Mo_q ∈ TBL := tbl_t (i := 488) (by decide +kernel) rfl
theorem tw_489 : Cond.code y_Mo_q prog_6_method_12_code 5 (some .int) ∈ TBL := tbl_t (i := 489) (by decide +kernel) rfl
theorem tw_490 : Cond.methodLink "ExactNotationModel" 151 y_Mo_row ∈ TBL := tbl_t (i := 490) (by decide +kernel) rfl
theorem tw_492 : Cond.instanceMethod y_Mo_row ∈ TBL := tbl_t (i := 492) (by decide +kernel) rfl
theorem tw_493 : Cond.code y_Mo_row prog_6_method_14_code 9 none ∈ TBL := tbl_t (i := 493) (by decide +kernel) rfl
theorem tw_494 : Cond.constantLong "ExactNotationModel" 67 1000000000 ∈ TBL := tbl_t (i := 494) (by decide +kernel) rfl
theorem tw_495 : Cond.constantLong "ExactNotationModel" 69 536870912 ∈ TBL := tbl_t (i := 495) (by decide +kernel) rfl
theorem tw_496 : Cond.methodLink "ExactNotationModel" 71 y_Mo_times ∈ TBL := tbl_t (i := 496) (by decide +kernel) rfl
theorem tw_498 : Cond.instanceMethod y_Mo_times ∈ TBL := tbl_t (i := 498) (by decide +kernel) rfl
theorem tw_499 : Cond.code y_Mo_times prog_6_method_13_code 6 none ∈ TBL := tbl_t (i := 499) (by decide +kernel) rfl
theorem tw_500 : Cond.constantLong "ExactNotationModel" 75 244140625 ∈ TBL := tbl_t (i := 500) (by decide +kernel) rfl
theorem tw_501 : Cond.constantLong "ExactNotationModel" 77 5 ∈ TBL := tbl_t (i := 501) (by decide +kernel) rfl
theorem tw_502 : Cond.constantLong "ExactNotationModel" 82 100000000 ∈ TBL := tbl_t (i := 502) (by decide +kernel) rfl
theorem tw_503 : Cond.constantLong "ExactNotationModel" 84 10 ∈ TBL := tbl_t (i := 503) (by decide +kernel) rfl
theorem tw_504 : Cond.methodLink "ExactNotationModel" 115 y_Mo_scientific ∈ TBL := tbl_t (i := 504) (by decide +kernel) rfl
theorem tw_506 : Cond.instanceMethod y_Mo_scientific ∈ TBL := tbl_t (i := 506) (by decide +kernel) rfl
theorem tw_507 : Cond.code y_Mo_scientific prog_6_method_20_code 6 none ∈ TBL := tbl_t (i := 507) (by decide +kernel) rfl
theorem tw_508 : Cond.methodLink "ExactNotationModel" 99 y_Mo_rounded ∈ TBL := tbl_t (i := 508) (by decide +kernel) rfl
theorem tw_510 : Cond.instanceMethod y_Mo_rounded ∈ TBL := tbl_t (i := 510) (by decide +kernel) rfl
theorem tw_511 : Cond.code y_Mo_rounded prog_6_method_19_code 5 none ∈ TBL := tbl_t (i := 511) (by decide +kernel) rfl
theorem tw_512 : Cond.methodLink "ExactNotationModel" 95 y_Mo_more ∈ TBL := tbl_t (i := 512) (by decide +kernel) rfl
theorem tw_513 : Cond.static y_Mo_more ∈ TBL := tbl_t (i := 513) (by decide +kernel) rfl
theorem tw_514 : Cond.code y_Mo_more prog_6_method_16_code 3 none ∈ TBL := tbl_t (i := 514) (by decide +kernel) rfl
theorem tw_515 : Cond.methodLink "ExactNotationModel" 103 y_Mo_digit ∈ TBL := tbl_t (i := 515) (by decide +kernel) rfl
theorem tw_516 : Cond.static y_Mo_digit ∈ TBL := tbl_t (i := 516) (by decide +kernel) rfl
theorem tw_517 : Cond.code y_Mo_digit prog_6_method_17_code 2 (some .int) ∈ TBL := tbl_t (i := 517) (by decide +kernel) rfl
theorem tw_518 : Cond.methodLink "ExactNotationModel" 111 y_Mo_fixed ∈ TBL := tbl_t (i := 518) (by decide +kernel) rfl
theorem tw_520 : Cond.instanceMethod y_Mo_fixed ∈ TBL := tbl_t (i := 520) (by decide +kernel) rfl
theorem tw_521 : Cond.code y_Mo_fixed prog_6_method_21_code 10 none ∈ TBL := tbl_t (i := 521) (by decide +kernel) rfl
theorem tw_522 : Cond.methodLink "ExactNotationModel" 155 y_Mo_general ∈ TBL := tbl_t (i := 522) (by decide +kernel) rfl
theorem tw_524 : Cond.instanceMethod y_Mo_general ∈ TBL := tbl_t (i := 524) (by decide +kernel) rfl
theorem tw_525 : Cond.code y_Mo_general prog_6_method_22_code 6 none ∈ TBL := tbl_t (i := 525) (by decide +kernel) rfl
theorem tw_526 : Cond.methodLink "ExactNotationLaw" 44 y_Mo_showFloat ∈ TBL := tbl_t (i := 526) (by decide +kernel) rfl
theorem tw_527 : Cond.instanceMethod y_Mo_showFloat ∈ TBL := tbl_t (i := 527) (by decide +kernel) rfl
theorem tw_528 : Cond.selects "ExactNotationModel" y_Mo_showFloat y_Mo_showFloat ∈ TBL := tbl_t (i := 528) (by decide +kernel) rfl
theorem tw_529 : Cond.code y_Mo_showFloat prog_6_method_25_code 6 (some .int) ∈ TBL := tbl_t (i := 529) (by decide +kernel) rfl
theorem tw_530 : Cond.constantLong "ExactNotationLaw" 29 4294967295 ∈ TBL := tbl_t (i := 530) (by decide +kernel) rfl
theorem tw_532 : Cond.fieldLink "ExactNotation$Format" 29 "ExactNotation$Format" "fractionBits" "I" ∈ TBL := tbl_t (i := 532) (by decide +kernel) rfl
theorem tw_533 : Cond.fieldLink "ExactNotation$Format" 33 "ExactNotation$Format" "exponentOnes" "I" ∈ TBL := tbl_t (i := 533) (by decide +kernel) rfl
theorem tw_534 : Cond.fieldLink "java/lang/String" 9 "java/lang/String" "value" "[B" ∈ TBL := tbl_t (i := 534) (by decide +kernel) rfl
theorem tw_535 : Cond.fieldLink "java/lang/String" 15 "java/lang/String" "coder" "B" ∈ TBL := tbl_t (i := 535) (by decide +kernel) rfl
theorem tw_536 : Cond.fieldLink "ExactNotation$Format" 36 "ExactNotation$Format" "leastPower" "I" ∈ TBL := tbl_t (i := 536) (by decide +kernel) rfl

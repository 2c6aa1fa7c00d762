theorem tw_288 : Cond.methodLink "ExactNotation$Decimal" 65 y_Ma_floorDiv ∈ TBL := tbl_t (i := 288) (by decide +kernel) rfl
theorem tw_289 : Cond.static y_Ma_floorDiv ∈ TBL := tbl_t (i := 289) (by decide +kernel) rfl
theorem tw_290 : Cond.code y_Ma_floorDiv prog_12_method_47_code 3 (some .int) ∈ TBL := tbl_t (i := 290) (by decide +kernel) rfl
theorem tw_291 : Cond.methodLink "ExactNotation$Decimal" 55 y_Dc_placeInLimb ∈ TBL := tbl_t (i := 291) (by decide +kernel) rfl
theorem tw_292 : Cond.static y_Dc_placeInLimb ∈ TBL := tbl_t (i := 292) (by decide +kernel) rfl
theorem tw_293 : Cond.code y_Dc_placeInLimb prog_2_method_12_code 1 (some .int) ∈ TBL := tbl_t (i := 293) (by decide +kernel) rfl
theorem tw_294 : Cond.methodLink "ExactNotation$Decimal" 68 y_Ma_floorMod ∈ TBL := tbl_t (i := 294) (by decide +kernel) rfl
theorem tw_295 : Cond.static y_Ma_floorMod ∈ TBL := tbl_t (i := 295) (by decide +kernel) rfl
theorem tw_296 : Cond.code y_Ma_floorMod prog_12_method_50_code 3 (some .int) ∈ TBL := tbl_t (i := 296) (by decide +kernel) rfl
theorem tw_297 : Cond.methodLink "ExactNotation$Decimal" 61 y_Dc_addOneAt ∈ TBL := tbl_t (i := 297) (by decide +kernel) rfl
theorem tw_299 : Cond.instanceMethod y_Dc_addOneAt ∈ TBL := tbl_t (i := 299) (by decide +kernel) rfl
theorem tw_300 : Cond.code y_Dc_addOneAt prog_2_method_10_code 6 none ∈ TBL := tbl_t (i := 300) (by decide +kernel) rfl
theorem tw_301 : Cond.constant "ExactNotation$Decimal" 64 1000000000 ∈ TBL := tbl_t (i := 301) (by decide +kernel) rfl
theorem tw_302 : Cond.methodLink "ExactNotation" 98 y_EN_writeScientific ∈ TBL := tbl_t (i := 302) (by decide +kernel) rfl
theorem tw_304 : Cond.instanceMethod y_EN_writeScientific ∈ TBL := tbl_t (i := 304) (by decide +kernel) rfl
theorem tw_305 : Cond.code y_EN_writeScientific prog_1_method_9_code 4 none ∈ TBL := tbl_t (i := 305) (by decide +kernel) rfl
theorem tw_306 : Cond.methodLink "ExactNotation" 115 y_Dc_digitAt ∈ TBL := tbl_t (i := 306) (by decide +kernel) rfl
theorem tw_307 : Cond.methodLink "ExactNotation" 119 y_EN_writeDigit ∈ TBL := tbl_t (i := 307) (by decide +kernel) rfl
theorem tw_309 : Cond.instanceMethod y_EN_writeDigit ∈ TBL := tbl_t (i := 309) (by decide +kernel) rfl
theorem tw_310 : Cond.code y_EN_writeDigit prog_1_method_12_code 2 none ∈ TBL := tbl_t (i := 310) (by decide +kernel) rfl
theorem tw_311 : Cond.methodLink "ExactNotation" 122 y_Tx_add ∈ TBL := tbl_t (i := 311) (by decide +kernel) rfl
theorem tw_312 : Cond.methodLink "ExactNotation" 126 y_EN_writeBehindPoint ∈ TBL := tbl_t (i := 312) (by decide +kernel) rfl
theorem tw_314 : Cond.instanceMethod y_EN_writeBehindPoint ∈ TBL := tbl_t (i := 314) (by decide +kernel) rfl
theorem tw_315 : Cond.code y_EN_writeBehindPoint prog_1_method_10_code 5 none ∈ TBL := tbl_t (i := 315) (by decide +kernel) rfl
theorem tw_316 : Cond.methodLink "ExactNotation" 130 y_EN_writeExponent ∈ TBL := tbl_t (i := 316) (by decide +kernel) rfl
theorem tw_318 : Cond.instanceMethod y_EN_writeExponent ∈ TBL := tbl_t (i := 318) (by decide +kernel) rfl
theorem tw_319 : Cond.code y_EN_writeExponent prog_1_method_11_code 3 none ∈ TBL := tbl_t (i := 319) (by decide +kernel) rfl
theorem tw_320 : Cond.methodLink "ExactNotation" 133 y_Ma_abs ∈ TBL := tbl_t (i := 320) (by decide +kernel) rfl
theorem tw_321 : Cond.static y_Ma_abs ∈ TBL := tbl_t (i := 321) (by decide +kernel) rfl
theorem tw_322 : Cond.code y_Ma_abs prog_12_method_59_code 1 (some .int) ∈ TBL := tbl_t (i := 322) (by decide +kernel) rfl
theorem tw_323 : Cond.methodLink "ExactNotation" 102 y_EN_writeFixed ∈ TBL := tbl_t (i := 323) (by decide +kernel) rfl
theorem tw_325 : Cond.instanceMethod y_EN_writeFixed ∈ TBL := tbl_t (i := 325) (by decide +kernel) rfl
theorem tw_326 : Cond.code y_EN_writeFixed prog_1_method_8_code 5 none ∈ TBL := tbl_t (i := 326) (by decide +kernel) rfl
theorem tw_327 : Cond.methodLink "ExactNotation" 106 y_Ma_max ∈ TBL := tbl_t (i := 327) (by decide +kernel) rfl
theorem tw_328 : Cond.methodLink "ExactNotation" 112 y_EN_writeShorter ∈ TBL := tbl_t (i := 328) (by decide +kernel) rfl
theorem tw_330 : Cond.instanceMethod y_EN_writeShorter ∈ TBL := tbl_t (i := 330) (by decide +kernel) rfl
theorem tw_331 : Cond.code y_EN_writeShorter prog_1_method_7_code 4 none ∈ TBL := tbl_t (i := 331) (by decide +kernel) rfl
theorem tw_332 : Cond.methodLink "ExactNotationLaw" 41 y_Lw_showFloat ∈ TBL := tbl_t (i := 332) (by decide +kernel) rfl
theorem tw_333 : Cond.static y_Lw_showFloat ∈ TBL := tbl_t (i := 333) (by decide +kernel) rfl
theorem tw_334 : Cond.codeWith y_Lw_showFloat method_4_code 8 (some .int) [(0, 16, 19, 13)] ∈ TBL := tbl_t (i := 334) (by decide +kernel) rfl
theorem tw_335 : Cond.methodLink "ExactNotationLaw" 15 y_EN_showFloat ∈ TBL := tbl_t (i := 335) (by decide +kernel) rfl
theorem tw_336 : Cond.instanceMethod y_EN_showFloat ∈ TBL := tbl_t (i := 336) (by decide +kernel) rfl
theorem tw_337 : Cond.selects "ExactNotation" y_EN_showFloat y_EN_showFloat ∈ TBL := tbl_t (i := 337) (by decide +kernel) rfl
theorem tw_338 : Cond.code y_EN_showFloat prog_1_method_3_code 6 (some .int) ∈ TBL := tbl_t (i := 338) (by decide +kernel) rfl
theorem tw_339 : Cond.fieldLink "ExactNotation" 37 "ExactNotation$Format" "FLOAT" "LExactNotation$Format;" ∈ TBL := tbl_t (i := 339) (by decide +kernel) rfl
theorem tw_341 : Cond.methodLink "ExactNotationLaw" 45 y_Lw_word ∈ TBL := tbl_t (i := 341) (by decide +kernel) rfl
theorem tw_342 : Cond.static y_Lw_word ∈ TBL := tbl_t (i := 342) (by decide +kernel) rfl
theorem tw_343 : Cond.codeWith y_Lw_word method_5_code 4 (some .int) [(0, 8, 11, 23)] ∈ TBL := tbl_t (i := 343) (by decide +kernel) rfl
theorem tw_344 : Cond.classLink "ExactNotationLaw" 23 "java/lang/IndexOutOfBoundsException" ∈ TBL := tbl_t (i := 344) (by decide +kernel) rfl
theorem tw_345 : Cond.methodLink "ExactNotationLaw" 19 y_EN_word ∈ TBL := tbl_t (i := 345) (by decide +kernel) rfl
theorem tw_346 : Cond.instanceMethod y_EN_word ∈ TBL := tbl_t (i := 346) (by decide +kernel) rfl
theorem tw_347 : Cond.selects "ExactNotation" y_EN_word y_EN_word ∈ TBL := tbl_t (i := 347) (by decide +kernel) rfl
theorem tw_348 : Cond.code y_EN_word prog_1_method_4_code 2 (some .long) ∈ TBL := tbl_t (i := 348) (by decide +kernel) rfl
theorem tw_349 : Cond.classLink "ExactNotation" 44 "java/lang/IndexOutOfBoundsException" ∈ TBL := tbl_t (i := 349) (by decide +kernel) rfl
theorem tw_350 : Cond.instantiable "java/lang/IndexOutOfBoundsException" 6 ∈ TBL := tbl_t (i := 350) (by decide +kernel) rfl
theorem tw_352 : Cond.selects "java/lang/IndexOutOfBoundsException" y_java_lang_Throwable_fillInStackTraceI y_java_lang_Throwable_fillInStackTraceI ∈ TBL := tbl_t (i := 352) (by decide +kernel) rfl
theorem tw_353 : Cond.lays "java/lang/IndexOutOfBoundsException" "java/lang/Throwable" "cause" "Ljava/lang/Throwable;" ∈ TBL := tbl_t (i := 353) (by decide +kernel) rfl
theorem tw_354 : Cond.lays "java/lang/IndexOutOfBoundsException" "java/lang/Throwable" "stackTrace" "[Ljava/lang/StackTraceElement;" ∈ TBL := tbl_t (i := 354) (by decide +kernel) rfl
theorem tw_355 : Cond.lays "java/lang/IndexOutOfBoundsException" "java/lang/Throwable" "suppressedExceptions" "Ljava/util/List;" ∈ TBL := tbl_t (i := 355) (by decide +kernel) rfl
theorem tw_356 : Cond.lays "java/lang/IndexOutOfBoundsException" "java/lang/Throwable" "detailMessage" "Ljava/lang/String;" ∈ TBL := tbl_t (i := 356) (by decide +kernel) rfl
theorem tw_357 : Cond.lays "java/lang/IndexOutOfBoundsException" "java/lang/Throwable" "backtrace" "Ljava/lang/Object;" ∈ TBL := tbl_t (i := 357) (by decide +kernel) rfl
theorem tw_359 : Cond.methodLink "ExactNotation" 48 y_java_lang_IndexOutOfBoundsException_initS ∈ TBL := tbl_t (i := 359) (by decide +kernel) rfl
theorem tw_360 : Cond.instanceMethod y_java_lang_IndexOutOfBoundsException_initS ∈ TBL := tbl_t (i := 360) (by decide +kernel) rfl
theorem tw_361 : Cond.code y_java_lang_IndexOutOfBoundsException_initS prog_11_method_2_code 2 none ∈ TBL := tbl_t (i := 361) (by decide +kernel) rfl
theorem tw_362 : Cond.methodLink "java/lang/IndexOutOfBoundsException" 7 y_java_lang_RuntimeException_initS ∈ TBL := tbl_t (i := 362) (by decide +kernel) rfl
theorem tw_363 : Cond.lays "java/lang/IndexOutOfBoundsException" "java/lang/Throwable" "depth" "I" ∈ TBL := tbl_t (i := 363) (by decide +kernel) rfl
theorem tw_365 : Cond.methodLink "ExactNotation" 51 y_Tx_eightFrom ∈ TBL := tbl_t (i := 365) (by decide +kernel) rfl
theorem tw_366 : Cond.instanceMethod y_Tx_eightFrom ∈ TBL := tbl_t (i := 366) (by decide +kernel) rfl
theorem tw_367 : Cond.selects "ExactNotation$Text" y_Tx_eightFrom y_Tx_eightFrom ∈ TBL := tbl_t (i := 367) (by decide +kernel) rfl
theorem tw_368 : Cond.code y_Tx_eightFrom prog_4_method_6_code 6 (some .long) ∈ TBL := tbl_t (i := 368) (by decide +kernel) rfl
theorem tw_369 : Cond.classLink "ExactNotationLaw" 26 "ExactNotationModel" ∈ TBL := tbl_t (i := 369) (by decide +kernel) rfl
theorem tw_370 : Cond.instantiable "ExactNotationModel" 11 ∈ TBL := tbl_t (i := 370) (by decide +kernel) rfl
theorem tw_371 : Cond.methodLink "ExactNotationLaw" 28 y_Mo_init ∈ TBL := tbl_t (i := 371) (by decide +kernel) rfl
theorem tw_372 : Cond.instanceMethod y_Mo_init ∈ TBL := tbl_t (i := 372) (by decide +kernel) rfl
theorem tw_373 : Cond.code y_Mo_init prog_6_method_1_code 1 none ∈ TBL := tbl_t (i := 373) (by decide +kernel) rfl
theorem tw_374 : Cond.methodLink "ExactNotationModel" 1 y_java_lang_Object_init ∈ TBL := tbl_t (i := 374) (by decide +kernel) rfl
theorem tw_375 : Cond.classLink "ExactNotationModel" 13 "ExactNotationModel$Row" ∈ TBL := tbl_t (i := 375) (by decide +kernel) rfl
theorem tw_376 : Cond.instantiable "ExactNotationModel$Row" 3 ∈ TBL := tbl_t (i := 376) (by decide +kernel) rfl
theorem tw_378 : Cond.instanceMethod y_Rw_init ∈ TBL := tbl_t (i := 378) (by decide +kernel) rfl
theorem tw_379 : Cond.code y_Rw_init prog_7_method_1_code 1 none ∈ TBL := tbl_t (i := 379) (by decide +kernel) rfl
theorem tw_380 : Cond.methodLink "ExactNotationModel$Row" 1 y_java_lang_Object_init ∈ TBL := tbl_t (i := 380) (by decide +kernel) rfl
theorem tw_381 : Cond.fieldLink "ExactNotationModel$Row" 7 "ExactNotationModel$Row" "d" "[B" ∈ TBL := tbl_t (i := 381) (by decide +kernel) rfl
theorem tw_382 : Cond.fieldLink "ExactNotationModel" 86 "ExactNotationModel$Row" "d" "[B" ∈ TBL := tbl_t (i := 382) (by decide +kernel) rfl
theorem tw_383 : Cond.fieldLink "ExactNotationModel" 79 "ExactNotationModel$Row" "n" "I" ∈ TBL := tbl_t (i := 383) (by decide +kernel) rfl
theorem tw_384 : Cond.fieldLink "ExactNotationModel" 89 "ExactNotationModel$Row" "p" "I" ∈ TBL := tbl_t (i := 384) (by decide +kernel) rfl
theorem tw_385 : Cond.laysFinal "ExactNotationModel$Row" "ExactNotationModel$Row" "d" "[B" ∈ TBL := tbl_t (i := 385) (by decide +kernel) rfl
theorem tw_387 : Cond.lays "ExactNotationModel$Row" "ExactNotationModel$Row" "n" "I" ∈ TBL := tbl_t (i := 387) (by decide +kernel) rfl
theorem tw_389 : Cond.lays "ExactNotationModel$Row" "ExactNotationModel$Row" "p" "I" ∈ TBL := tbl_t (i := 389) (by decide +kernel) rfl
theorem tw_392 : Cond.fieldLink "ExactNotationModel" 7 "ExactNotationModel" "result" "[B" ∈ TBL := tbl_t (i := 392) (by decide +kernel) rfl
theorem tw_393 : Cond.fieldLink "ExactNotationModel" 34 "ExactNotationModel" "length" "I" ∈ TBL := tbl_t (i := 393) (by decide +kernel) rfl
theorem tw_394 : Cond.fieldLink "ExactNotationModel" 30 "ExactNotationModel" "code" "I" ∈ TBL := tbl_t (i := 394) (by decide +kernel) rfl
theorem tw_395 : Cond.fieldLink "ExactNotationModel" 16 "ExactNotationModel" "exact" "LExactNotationModel$Row;" ∈ TBL := tbl_t (i := 395) (by decide +kernel) rfl
theorem tw_396 : Cond.fieldLink "ExactNotationModel" 43 "ExactNotationModel" "bits" "I" ∈ TBL := tbl_t (i := 396) (by decide +kernel) rfl
theorem tw_397 : Cond.fieldLink "ExactNotationModel" 46 "ExactNotationModel" "least" "I" ∈ TBL := tbl_t (i := 397) (by decide +kernel) rfl
theorem tw_398 : Cond.fieldLink "ExactNotationModel" 20 "ExactNotationModel" "limbs" "[J" ∈ TBL := tbl_t (i := 398) (by decide +kernel) rfl
theorem tw_399 : Cond.fieldLink "ExactNotationModel" 64 "ExactNotationModel" "used" "I" ∈ TBL := tbl_t (i := 399) (by decide +kernel) rfl
theorem tw_400 : Cond.fieldLink "ExactNotationModel" 24 "ExactNotationModel" "body" "[B" ∈ TBL := tbl_t (i := 400) (by decide +kernel) rfl
theorem tw_401 : Cond.fieldLink "ExactNotationModel" 92 "ExactNotationModel" "bodyLength" "I" ∈ TBL := tbl_t (i := 401) (by decide +kernel) rfl
theorem tw_402 : Cond.fieldLink "ExactNotationModel" 27 "ExactNotationModel" "cutRow" "LExactNotationModel$Row;" ∈ TBL := tbl_t (i := 402) (by decide +kernel) rfl
theorem tw_403 : Cond.laysFinal "ExactNotationModel" "ExactNotationModel" "result" "[B" ∈ TBL := tbl_t (i := 403) (by decide +kernel) rfl
theorem tw_405 : Cond.lays "ExactNotationModel" "ExactNotationModel" "length" "I" ∈ TBL := tbl_t (i := 405) (by decide +kernel) rfl
theorem tw_407 : Cond.lays "ExactNotationModel" "ExactNotationModel" "code" "I" ∈ TBL := tbl_t (i := 407) (by decide +kernel) rfl
theorem tw_409 : Cond.laysFinal "ExactNotationModel" "ExactNotationModel" "exact" "LExactNotationModel$Row;" ∈ TBL := tbl_t (i := 409) (by decide +kernel) rfl
theorem tw_411 : Cond.lays "ExactNotationModel" "ExactNotationModel" "bits" "I" ∈ TBL := tbl_t (i := 411) (by decide +kernel) rfl
theorem tw_413 : Cond.lays "ExactNotationModel" "ExactNotationModel" "least" "I" ∈ TBL := tbl_t (i := 413) (by decide +kernel) rfl
theorem tw_415 : Cond.laysFinal "ExactNotationModel" "ExactNotationModel" "limbs" "[J" ∈ TBL := tbl_t (i := 415) (by decide +kernel) rfl
theorem tw_417 : Cond.lays "ExactNotationModel" "ExactNotationModel" "used" "I" ∈ TBL := tbl_t (i := 417) (by decide +kernel) rfl
theorem tw_419 : Cond.laysFinal "ExactNotationModel" "ExactNotationModel" "body" "[B" ∈ TBL := tbl_t (i := 419) (by decide +kernel) rfl
theorem tw_421 : Cond.lays "ExactNotationModel" "ExactNotationModel" "bodyLength" "I" ∈ TBL := tbl_t (i := 421) (by decide +kernel) rfl
theorem tw_423 : Cond.laysFinal "ExactNotationModel" "ExactNotationModel" "cutRow" "LExactNotationModel$Row;" ∈ TBL := tbl_t (i := 423) (by decide +kernel) rfl
theorem tw_426 : Cond.arrayClass .long ∈ TBL := tbl_t (i := 426) (by decide +kernel) rfl
theorem tw_427 : Cond.methodLink "ExactNotationLaw" 37 y_Mo_thrown ∈ TBL := tbl_t (i := 427) (by decide +kernel) rfl
theorem tw_428 : Cond.instanceMethod y_Mo_thrown ∈ TBL := tbl_t (i := 428) (by decide +kernel) rfl
theorem tw_429 : Cond.selects "ExactNotationModel" y_Mo_thrown y_Mo_thrown ∈ TBL := tbl_t (i := 429) (by decide +kernel) rfl
theorem tw_430 : Cond.code y_Mo_thrown prog_6_method_2_code 1 (some .int) ∈ TBL := tbl_t (i := 430) (by decide +kernel) rfl
theorem tw_431 : Cond.methodLink "ExactNotationLaw" 48 y_Mo_word ∈ TBL := tbl_t (i := 431) (by decide +kernel) rfl
theorem tw_432 : Cond.instanceMethod y_Mo_word ∈ TBL := tbl_t (i := 432) (by decide +kernel) rfl
theorem tw_433 : Cond.selects "ExactNotationModel" y_Mo_word y_Mo_word ∈ TBL := tbl_t (i := 433) (by decide +kernel) rfl
theorem tw_434 : Cond.code y_Mo_word prog_6_method_4_code 5 (some .long) ∈ TBL := tbl_t (i := 434) (by decide +kernel) rfl
theorem tw_435 : Cond.methodLink "ExactNotationModel" 37 y_Mo_good ∈ TBL := tbl_t (i := 435) (by decide +kernel) rfl

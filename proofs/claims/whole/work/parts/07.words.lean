theorem fx_in (i : Nat) {w : Cond} (h : lw_tbl[i]? = some w) (hg : goodWord w = true) : w ∈ fx_ws := List.mem_filter.mpr ⟨List.mem_of_getElem? h, hg⟩
abbrev mX0_init : fx_M := (yX0_init, cX0_init, 1, none)
set_option maxRecDepth 100000 in
theorem vX0_init : fx_Vc mX0_init 0 := ⟨⟨fx_in 86 rfl rfl, fx_in 59 rfl rfl, by decide +kernel, by decide +kernel, by decide +kernel⟩, fx_in 85 rfl rfl, rfl, rfl⟩
abbrev mX0_append : fx_M := (yX0_append, cX0_append, 5, some .boolean)
set_option maxRecDepth 100000 in
theorem vX0_append : fx_Vi mX0_append 2 := ⟨⟨fx_in 187 rfl rfl, fx_in 59 rfl rfl, by decide +kernel, by decide +kernel, by decide +kernel⟩, fx_in 185 rfl rfl, fx_in 186 rfl rfl⟩
abbrev mX0_makeRoom : fx_M := (yX0_makeRoom, cX0_makeRoom, 2, none)
set_option maxRecDepth 100000 in
theorem vX0_makeRoom : fx_Vi mX0_makeRoom 1 := ⟨⟨fx_in 192 rfl rfl, fx_in 59 rfl rfl, by decide +kernel, by decide +kernel, by decide +kernel⟩, fx_in 191 rfl rfl, fx_in 0 rfl rfl⟩
abbrev mX0_clear : fx_M := (yX0_clear, cX0_clear, 1, none)
set_option maxRecDepth 100000 in
theorem vX0_clear : fx_Vi mX0_clear 0 := ⟨⟨fx_in 390 rfl rfl, fx_in 59 rfl rfl, by decide +kernel, by decide +kernel, by decide +kernel⟩, fx_in 388 rfl rfl, fx_in 389 rfl rfl⟩
abbrev mX0_size : fx_M := (yX0_size, cX0_size, 1, some .int)
set_option maxRecDepth 100000 in
theorem vX0_size : fx_Vi mX0_size 0 := ⟨⟨fx_in 240 rfl rfl, fx_in 59 rfl rfl, by decide +kernel, by decide +kernel, by decide +kernel⟩, fx_in 238 rfl rfl, fx_in 239 rfl rfl⟩
abbrev mX0_byteAt : fx_M := (yX0_byteAt, cX0_byteAt, 2, some .int)
set_option maxRecDepth 100000 in
theorem vX0_byteAt : fx_Vi mX0_byteAt 1 := ⟨⟨fx_in 358 rfl rfl, fx_in 59 rfl rfl, by decide +kernel, by decide +kernel, by decide +kernel⟩, fx_in 356 rfl rfl, fx_in 357 rfl rfl⟩
abbrev mX0_halfAt : fx_M := (yX0_halfAt, cX0_halfAt, 2, some .int)
set_option maxRecDepth 100000 in
theorem vX0_halfAt : fx_Vi mX0_halfAt 1 := ⟨⟨fx_in 354 rfl rfl, fx_in 59 rfl rfl, by decide +kernel, by decide +kernel, by decide +kernel⟩, fx_in 352 rfl rfl, fx_in 353 rfl rfl⟩
abbrev mX0_wordAt : fx_M := (yX0_wordAt, cX0_wordAt, 2, some .int)
set_option maxRecDepth 100000 in
theorem vX0_wordAt : fx_Vi mX0_wordAt 1 := ⟨⟨fx_in 368 rfl rfl, fx_in 59 rfl rfl, by decide +kernel, by decide +kernel, by decide +kernel⟩, fx_in 366 rfl rfl, fx_in 367 rfl rfl⟩
abbrev mX1_init : fx_M := (yX1_init, cX1_init, 1, none)
set_option maxRecDepth 100000 in
theorem vX1_init : fx_Vc mX1_init 0 := ⟨⟨fx_in 102 rfl rfl, fx_in 60 rfl rfl, by decide +kernel, by decide +kernel, by decide +kernel⟩, fx_in 101 rfl rfl, rfl, rfl⟩
abbrev mX1_allEnd : fx_M := (yX1_allEnd, cX1_allEnd, 3, some .boolean)
set_option maxRecDepth 100000 in
theorem vX1_allEnd : fx_Vi mX1_allEnd 1 := ⟨⟨fx_in 497 rfl rfl, fx_in 60 rfl rfl, by decide +kernel, by decide +kernel, by decide +kernel⟩, fx_in 495 rfl rfl, fx_in 496 rfl rfl⟩
abbrev mX1_numberPrograms : fx_M := (yX1_numberPrograms, cX1_numberPrograms, 3, none)
set_option maxRecDepth 100000 in
theorem vX1_numberPrograms : fx_Vi mX1_numberPrograms 1 := ⟨⟨fx_in 501 rfl rfl, fx_in 60 rfl rfl, by decide +kernel, by decide +kernel, by decide +kernel⟩, fx_in 500 rfl rfl, fx_in 4 rfl rfl⟩
abbrev mX1_clearTables : fx_M := (yX1_clearTables, cX1_clearTables, 3, none)
set_option maxRecDepth 100000 in
theorem vX1_clearTables : fx_Vi mX1_clearTables 0 := ⟨⟨fx_in 514 rfl rfl, fx_in 60 rfl rfl, by decide +kernel, by decide +kernel, by decide +kernel⟩, fx_in 513 rfl rfl, fx_in 5 rfl rfl⟩
abbrev mX1_noteSteps : fx_M := (yX1_noteSteps, cX1_noteSteps, 6, none)
set_option maxRecDepth 100000 in
theorem vX1_noteSteps : fx_Vi mX1_noteSteps 2 := ⟨⟨fx_in 521 rfl rfl, fx_in 60 rfl rfl, by decide +kernel, by decide +kernel, by decide +kernel⟩, fx_in 520 rfl rfl, fx_in 6 rfl rfl⟩
abbrev mX1_ends : fx_M := (yX1_ends, cX1_ends, 6, some .boolean)
set_option maxRecDepth 100000 in
theorem vX1_ends : fx_Vi mX1_ends 2 := ⟨⟨fx_in 533 rfl rfl, fx_in 60 rfl rfl, by decide +kernel, by decide +kernel, by decide +kernel⟩, fx_in 532 rfl rfl, fx_in 8 rfl rfl⟩
abbrev mX1_awaitAnswer : fx_M := (yX1_awaitAnswer, cX1_awaitAnswer, 3, some .int)
set_option maxRecDepth 100000 in
theorem vX1_awaitAnswer : fx_Vi mX1_awaitAnswer 2 := ⟨⟨fx_in 537 rfl rfl, fx_in 60 rfl rfl, by decide +kernel, by decide +kernel, by decide +kernel⟩, fx_in 536 rfl rfl, fx_in 9 rfl rfl⟩
abbrev mX1_answer : fx_M := (yX1_answer, cX1_answer, 10, some .int)
set_option maxRecDepth 100000 in
theorem vX1_answer : fx_Vi mX1_answer 2 := ⟨⟨fx_in 541 rfl rfl, fx_in 60 rfl rfl, by decide +kernel, by decide +kernel, by decide +kernel⟩, fx_in 540 rfl rfl, fx_in 10 rfl rfl⟩
abbrev mX1_answerAs : fx_M := (yX1_answerAs, cX1_answerAs, 5, some .int)
set_option maxRecDepth 100000 in
theorem vX1_answerAs : fx_Vi mX1_answerAs 3 := ⟨⟨fx_in 552 rfl rfl, fx_in 60 rfl rfl, by decide +kernel, by decide +kernel, by decide +kernel⟩, fx_in 551 rfl rfl, fx_in 12 rfl rfl⟩
abbrev mX1_know : fx_M := (yX1_know, cX1_know, 3, some .int)
set_option maxRecDepth 100000 in
theorem vX1_know : fx_Vi mX1_know 2 := ⟨⟨fx_in 548 rfl rfl, fx_in 60 rfl rfl, by decide +kernel, by decide +kernel, by decide +kernel⟩, fx_in 547 rfl rfl, fx_in 11 rfl rfl⟩
abbrev mX1_endOf : fx_M := (yX1_endOf, cX1_endOf, 4, some .int)
set_option maxRecDepth 100000 in
theorem vX1_endOf : fx_Vi mX1_endOf 2 := ⟨⟨fx_in 556 rfl rfl, fx_in 60 rfl rfl, by decide +kernel, by decide +kernel, by decide +kernel⟩, fx_in 555 rfl rfl, fx_in 13 rfl rfl⟩
abbrev mX1_stateOf : fx_M := (yX1_stateOf, cX1_stateOf, 2, some .int)
set_option maxRecDepth 100000 in
theorem vX1_stateOf : fx_Vi mX1_stateOf 1 := ⟨⟨fx_in 529 rfl rfl, fx_in 60 rfl rfl, by decide +kernel, by decide +kernel, by decide +kernel⟩, fx_in 528 rfl rfl, fx_in 7 rfl rfl⟩
abbrev mX1_pairOf : fx_M := (yX1_pairOf, cX1_pairOf, 3, some .int)
set_option maxRecDepth 100000 in
theorem vX1_pairOf : fx_Vi mX1_pairOf 2 := ⟨⟨fx_in 560 rfl rfl, fx_in 60 rfl rfl, by decide +kernel, by decide +kernel, by decide +kernel⟩, fx_in 559 rfl rfl, fx_in 14 rfl rfl⟩
abbrev mX2_halvesFit : fx_M := (yX2_halvesFit, cX2_halvesFit, 4, some .boolean)
set_option maxRecDepth 100000 in
theorem vX2_halvesFit : fx_Vs mX2_halvesFit 1 := ⟨⟨fx_in 349 rfl rfl, fx_in 70 rfl rfl, by decide +kernel, by decide +kernel, by decide +kernel⟩, fx_in 348 rfl rfl⟩
abbrev mX2_faultOf : fx_M := (yX2_faultOf, cX2_faultOf, 1, some .int)
set_option maxRecDepth 100000 in
theorem vX2_faultOf : fx_Vs mX2_faultOf 1 := ⟨⟨fx_in 393 rfl rfl, fx_in 70 rfl rfl, by decide +kernel, by decide +kernel, by decide +kernel⟩, fx_in 392 rfl rfl⟩
abbrev mX2_infosFit : fx_M := (yX2_infosFit, cX2_infosFit, 2, some .boolean)
set_option maxRecDepth 100000 in
theorem vX2_infosFit : fx_Vs mX2_infosFit 1 := ⟨⟨fx_in 401 rfl rfl, fx_in 70 rfl rfl, by decide +kernel, by decide +kernel, by decide +kernel⟩, fx_in 400 rfl rfl⟩
abbrev mX2_placesFit : fx_M := (yX2_placesFit, cX2_placesFit, 3, some .boolean)
set_option maxRecDepth 100000 in
theorem vX2_placesFit : fx_Vs mX2_placesFit 2 := ⟨⟨fx_in 412 rfl rfl, fx_in 70 rfl rfl, by decide +kernel, by decide +kernel, by decide +kernel⟩, fx_in 411 rfl rfl⟩
abbrev mX2_tagFits : fx_M := (yX2_tagFits, cX2_tagFits, 3, some .boolean)
set_option maxRecDepth 100000 in
theorem vX2_tagFits : fx_Vs mX2_tagFits 2 := ⟨⟨fx_in 423 rfl rfl, fx_in 70 rfl rfl, by decide +kernel, by decide +kernel, by decide +kernel⟩, fx_in 422 rfl rfl⟩
abbrev mX2_chainEnds : fx_M := (yX2_chainEnds, cX2_chainEnds, 4, some .boolean)
set_option maxRecDepth 100000 in
theorem vX2_chainEnds : fx_Vs mX2_chainEnds 2 := ⟨⟨fx_in 434 rfl rfl, fx_in 70 rfl rfl, by decide +kernel, by decide +kernel, by decide +kernel⟩, fx_in 433 rfl rfl⟩
abbrev mX2_fractionsFit : fx_M := (yX2_fractionsFit, cX2_fractionsFit, 2, some .boolean)
set_option maxRecDepth 100000 in
theorem vX2_fractionsFit : fx_Vs mX2_fractionsFit 1 := ⟨⟨fx_in 437 rfl rfl, fx_in 70 rfl rfl, by decide +kernel, by decide +kernel, by decide +kernel⟩, fx_in 436 rfl rfl⟩
abbrev mX2_areFractions : fx_M := (yX2_areFractions, cX2_areFractions, 5, some .boolean)
set_option maxRecDepth 100000 in
theorem vX2_areFractions : fx_Vs mX2_areFractions 3 := ⟨⟨fx_in 441 rfl rfl, fx_in 70 rfl rfl, by decide +kernel, by decide +kernel, by decide +kernel⟩, fx_in 440 rfl rfl⟩
abbrev mX2_stepsFit : fx_M := (yX2_stepsFit, cX2_stepsFit, 2, some .boolean)
set_option maxRecDepth 100000 in
theorem vX2_stepsFit : fx_Vs mX2_stepsFit 1 := ⟨⟨fx_in 446 rfl rfl, fx_in 70 rfl rfl, by decide +kernel, by decide +kernel, by decide +kernel⟩, fx_in 445 rfl rfl⟩
abbrev mX2_jumpFits : fx_M := (yX2_jumpFits, cX2_jumpFits, 2, some .boolean)
set_option maxRecDepth 100000 in
theorem vX2_jumpFits : fx_Vs mX2_jumpFits 2 := ⟨⟨fx_in 453 rfl rfl, fx_in 70 rfl rfl, by decide +kernel, by decide +kernel, by decide +kernel⟩, fx_in 452 rfl rfl⟩
abbrev mX2_deedFits : fx_M := (yX2_deedFits, cX2_deedFits, 3, some .boolean)
set_option maxRecDepth 100000 in
theorem vX2_deedFits : fx_Vs mX2_deedFits 2 := ⟨⟨fx_in 468 rfl rfl, fx_in 70 rfl rfl, by decide +kernel, by decide +kernel, by decide +kernel⟩, fx_in 467 rfl rfl⟩
abbrev mX2_isLigature : fx_M := (yX2_isLigature, cX2_isLigature, 1, some .boolean)
set_option maxRecDepth 100000 in
theorem vX2_isLigature : fx_Vs mX2_isLigature 1 := ⟨⟨fx_in 487 rfl rfl, fx_in 70 rfl rfl, by decide +kernel, by decide +kernel, by decide +kernel⟩, fx_in 486 rfl rfl⟩
abbrev mX2_piecesFit : fx_M := (yX2_piecesFit, cX2_piecesFit, 3, some .boolean)
set_option maxRecDepth 100000 in
theorem vX2_piecesFit : fx_Vs mX2_piecesFit 1 := ⟨⟨fx_in 490 rfl rfl, fx_in 70 rfl rfl, by decide +kernel, by decide +kernel, by decide +kernel⟩, fx_in 489 rfl rfl⟩
abbrev mX2_partFits : fx_M := (yX2_partFits, cX2_partFits, 2, some .boolean)
set_option maxRecDepth 100000 in
theorem vX2_partFits : fx_Vs mX2_partFits 2 := ⟨⟨fx_in 493 rfl rfl, fx_in 70 rfl rfl, by decide +kernel, by decide +kernel, by decide +kernel⟩, fx_in 492 rfl rfl⟩
abbrev mX3_init : fx_M := (yX3_init, cX3_init, 6, none)
set_option maxRecDepth 100000 in
theorem vX3_init : fx_Vc mX3_init 1 := ⟨⟨fx_in 362 rfl rfl, fx_in 71 rfl rfl, by decide +kernel, by decide +kernel, by decide +kernel⟩, fx_in 361 rfl rfl, rfl, rfl⟩
abbrev mX3_scaleTo : fx_M := (yX3_scaleTo, cX3_scaleTo, 2, none)
set_option maxRecDepth 100000 in
theorem vX3_scaleTo : fx_Vi mX3_scaleTo 1 := ⟨⟨fx_in 580 rfl rfl, fx_in 71 rfl rfl, by decide +kernel, by decide +kernel, by decide +kernel⟩, fx_in 578 rfl rfl, fx_in 579 rfl rfl⟩
abbrev mX3_rowLength : fx_M := (yX3_rowLength, cX3_rowLength, 2, some .int)
set_option maxRecDepth 100000 in
theorem vX3_rowLength : fx_Vi mX3_rowLength 1 := ⟨⟨fx_in 420 rfl rfl, fx_in 71 rfl rfl, by decide +kernel, by decide +kernel, by decide +kernel⟩, fx_in 418 rfl rfl, fx_in 419 rfl rfl⟩
abbrev mX3_wordAt : fx_M := (yX3_wordAt, cX3_wordAt, 4, some .int)
set_option maxRecDepth 100000 in
theorem vX3_wordAt : fx_Vi mX3_wordAt 2 := ⟨⟨fx_in 265 rfl rfl, fx_in 71 rfl rfl, by decide +kernel, by decide +kernel, by decide +kernel⟩, fx_in 263 rfl rfl, fx_in 264 rfl rfl⟩
abbrev mX3_designSize : fx_M := (yX3_designSize, cX3_designSize, 1, some .int)
set_option maxRecDepth 100000 in
theorem vX3_designSize : fx_Vi mX3_designSize 0 := ⟨⟨fx_in 397 rfl rfl, fx_in 71 rfl rfl, by decide +kernel, by decide +kernel, by decide +kernel⟩, fx_in 395 rfl rfl, fx_in 396 rfl rfl⟩
abbrev mX3_infoOf : fx_M := (yX3_infoOf, cX3_infoOf, 2, some .int)
set_option maxRecDepth 100000 in
theorem vX3_infoOf : fx_Vi mX3_infoOf 1 := ⟨⟨fx_in 409 rfl rfl, fx_in 71 rfl rfl, by decide +kernel, by decide +kernel, by decide +kernel⟩, fx_in 407 rfl rfl, fx_in 408 rfl rfl⟩
abbrev mX3_hasCharacter : fx_M := (yX3_hasCharacter, cX3_hasCharacter, 2, some .boolean)
set_option maxRecDepth 100000 in
theorem vX3_hasCharacter : fx_Vi mX3_hasCharacter 1 := ⟨⟨fx_in 405 rfl rfl, fx_in 71 rfl rfl, by decide +kernel, by decide +kernel, by decide +kernel⟩, fx_in 403 rfl rfl, fx_in 404 rfl rfl⟩
abbrev mX3_tagOf : fx_M := (yX3_tagOf, cX3_tagOf, 2, some .int)
set_option maxRecDepth 100000 in
theorem vX3_tagOf : fx_Vi mX3_tagOf 1 := ⟨⟨fx_in 431 rfl rfl, fx_in 71 rfl rfl, by decide +kernel, by decide +kernel, by decide +kernel⟩, fx_in 429 rfl rfl, fx_in 430 rfl rfl⟩
abbrev mX3_restOf : fx_M := (yX3_restOf, cX3_restOf, 2, some .int)
set_option maxRecDepth 100000 in
theorem vX3_restOf : fx_Vi mX3_restOf 1 := ⟨⟨fx_in 427 rfl rfl, fx_in 71 rfl rfl, by decide +kernel, by decide +kernel, by decide +kernel⟩, fx_in 425 rfl rfl, fx_in 426 rfl rfl⟩
abbrev mX3_placeOf : fx_M := (yX3_placeOf, cX3_placeOf, 4, some .int)
set_option maxRecDepth 100000 in
theorem vX3_placeOf : fx_Vi mX3_placeOf 2 := ⟨⟨fx_in 416 rfl rfl, fx_in 71 rfl rfl, by decide +kernel, by decide +kernel, by decide +kernel⟩, fx_in 414 rfl rfl, fx_in 415 rfl rfl⟩
abbrev mX3_scaled : fx_M := (yX3_scaled, cX3_scaled, 2, some .int)
set_option maxRecDepth 100000 in
theorem vX3_scaled : fx_Vi mX3_scaled 1 := ⟨⟨fx_in 615 rfl rfl, fx_in 71 rfl rfl, by decide +kernel, by decide +kernel, by decide +kernel⟩, fx_in 613 rfl rfl, fx_in 614 rfl rfl⟩
abbrev mX3_measure : fx_M := (yX3_measure, cX3_measure, 3, some .int)
set_option maxRecDepth 100000 in
theorem vX3_measure : fx_Vi mX3_measure 2 := ⟨⟨fx_in 610 rfl rfl, fx_in 71 rfl rfl, by decide +kernel, by decide +kernel, by decide +kernel⟩, fx_in 608 rfl rfl, fx_in 609 rfl rfl⟩
abbrev mX3_scaledParameter : fx_M := (yX3_scaledParameter, cX3_scaledParameter, 3, some .int)
set_option maxRecDepth 100000 in
theorem vX3_scaledParameter : fx_Vi mX3_scaledParameter 1 := ⟨⟨fx_in 627 rfl rfl, fx_in 71 rfl rfl, by decide +kernel, by decide +kernel, by decide +kernel⟩, fx_in 625 rfl rfl, fx_in 626 rfl rfl⟩
abbrev mX3_skipOf : fx_M := (yX3_skipOf, cX3_skipOf, 2, some .int)
set_option maxRecDepth 100000 in
theorem vX3_skipOf : fx_Vi mX3_skipOf 1 := ⟨⟨fx_in 261 rfl rfl, fx_in 71 rfl rfl, by decide +kernel, by decide +kernel, by decide +kernel⟩, fx_in 259 rfl rfl, fx_in 260 rfl rfl⟩
abbrev mX3_signOf : fx_M := (yX3_signOf, cX3_signOf, 2, some .int)
set_option maxRecDepth 100000 in
theorem vX3_signOf : fx_Vi mX3_signOf 1 := ⟨⟨fx_in 269 rfl rfl, fx_in 71 rfl rfl, by decide +kernel, by decide +kernel, by decide +kernel⟩, fx_in 267 rfl rfl, fx_in 268 rfl rfl⟩
abbrev mX3_deedOf : fx_M := (yX3_deedOf, cX3_deedOf, 2, some .int)
set_option maxRecDepth 100000 in
theorem vX3_deedOf : fx_Vi mX3_deedOf 1 := ⟨⟨fx_in 461 rfl rfl, fx_in 71 rfl rfl, by decide +kernel, by decide +kernel, by decide +kernel⟩, fx_in 459 rfl rfl, fx_in 460 rfl rfl⟩
abbrev mX3_remainderOf : fx_M := (yX3_remainderOf, cX3_remainderOf, 2, some .int)
set_option maxRecDepth 100000 in
theorem vX3_remainderOf : fx_Vi mX3_remainderOf 1 := ⟨⟨fx_in 465 rfl rfl, fx_in 71 rfl rfl, by decide +kernel, by decide +kernel, by decide +kernel⟩, fx_in 463 rfl rfl, fx_in 464 rfl rfl⟩
abbrev mX3_isJump : fx_M := (yX3_isJump, cX3_isJump, 2, some .boolean)
set_option maxRecDepth 100000 in
theorem vX3_isJump : fx_Vi mX3_isJump 1 := ⟨⟨fx_in 450 rfl rfl, fx_in 71 rfl rfl, by decide +kernel, by decide +kernel, by decide +kernel⟩, fx_in 448 rfl rfl, fx_in 449 rfl rfl⟩
abbrev mX3_targetOf : fx_M := (yX3_targetOf, cX3_targetOf, 2, some .int)
set_option maxRecDepth 100000 in
theorem vX3_targetOf : fx_Vi mX3_targetOf 1 := ⟨⟨fx_in 457 rfl rfl, fx_in 71 rfl rfl, by decide +kernel, by decide +kernel, by decide +kernel⟩, fx_in 455 rfl rfl, fx_in 456 rfl rfl⟩
abbrev mX3_isKern : fx_M := (yX3_isKern, cX3_isKern, 2, some .boolean)
set_option maxRecDepth 100000 in
theorem vX3_isKern : fx_Vi mX3_isKern 1 := ⟨⟨fx_in 478 rfl rfl, fx_in 71 rfl rfl, by decide +kernel, by decide +kernel, by decide +kernel⟩, fx_in 476 rfl rfl, fx_in 477 rfl rfl⟩
abbrev mX3_kernPlaceOf : fx_M := (yX3_kernPlaceOf, cX3_kernPlaceOf, 2, some .int)
set_option maxRecDepth 100000 in
theorem vX3_kernPlaceOf : fx_Vi mX3_kernPlaceOf 1 := ⟨⟨fx_in 482 rfl rfl, fx_in 71 rfl rfl, by decide +kernel, by decide +kernel, by decide +kernel⟩, fx_in 480 rfl rfl, fx_in 481 rfl rfl⟩
abbrev mX3_scaledKern : fx_M := (yX3_scaledKern, cX3_scaledKern, 2, some .int)
set_option maxRecDepth 100000 in
theorem vX3_scaledKern : fx_Vi mX3_scaledKern 1 := ⟨⟨fx_in 688 rfl rfl, fx_in 71 rfl rfl, by decide +kernel, by decide +kernel, by decide +kernel⟩, fx_in 686 rfl rfl, fx_in 687 rfl rfl⟩
abbrev mX3_boundary : fx_M := (yX3_boundary, cX3_boundary, 1, some .int)
set_option maxRecDepth 100000 in
theorem vX3_boundary : fx_Vi mX3_boundary 0 := ⟨⟨fx_in 257 rfl rfl, fx_in 71 rfl rfl, by decide +kernel, by decide +kernel, by decide +kernel⟩, fx_in 255 rfl rfl, fx_in 256 rfl rfl⟩
abbrev mX3_programStart : fx_M := (yX3_programStart, cX3_programStart, 4, some .int)
set_option maxRecDepth 100000 in
theorem vX3_programStart : fx_Vi mX3_programStart 1 := ⟨⟨fx_in 505 rfl rfl, fx_in 71 rfl rfl, by decide +kernel, by decide +kernel, by decide +kernel⟩, fx_in 503 rfl rfl, fx_in 504 rfl rfl⟩
abbrev mX3_nextStep : fx_M := (yX3_nextStep, cX3_nextStep, 3, some .int)
set_option maxRecDepth 100000 in
theorem vX3_nextStep : fx_Vi mX3_nextStep 1 := ⟨⟨fx_in 474 rfl rfl, fx_in 71 rfl rfl, by decide +kernel, by decide +kernel, by decide +kernel⟩, fx_in 472 rfl rfl, fx_in 473 rfl rfl⟩
abbrev mX3_stepFor : fx_M := (yX3_stepFor, cX3_stepFor, 5, some .int)
set_option maxRecDepth 100000 in
theorem vX3_stepFor : fx_Vi mX3_stepFor 2 := ⟨⟨fx_in 665 rfl rfl, fx_in 71 rfl rfl, by decide +kernel, by decide +kernel, by decide +kernel⟩, fx_in 663 rfl rfl, fx_in 664 rfl rfl⟩
abbrev mX3_tally : fx_M := (yX3_tally, cX3_tally, 2, some .int)
set_option maxRecDepth 100000 in
theorem vX3_tally : fx_Vi mX3_tally 1 := ⟨⟨fx_in 248 rfl rfl, fx_in 71 rfl rfl, by decide +kernel, by decide +kernel, by decide +kernel⟩, fx_in 246 rfl rfl, fx_in 247 rfl rfl⟩
abbrev mX3_characterCount : fx_M := (yX3_characterCount, cX3_characterCount, 3, some .int)
set_option maxRecDepth 100000 in
theorem vX3_characterCount : fx_Vi mX3_characterCount 0 := ⟨⟨fx_in 253 rfl rfl, fx_in 71 rfl rfl, by decide +kernel, by decide +kernel, by decide +kernel⟩, fx_in 251 rfl rfl, fx_in 2 rfl rfl⟩
abbrev mX4_init : fx_M := (yX4_init, cX4_init, 1, none)
set_option maxRecDepth 100000 in
theorem vX4_init : fx_Vc mX4_init 0 := ⟨⟨fx_in 128 rfl rfl, fx_in 61 rfl rfl, by decide +kernel, by decide +kernel, by decide +kernel⟩, fx_in 127 rfl rfl, rfl, rfl⟩
abbrev mX4_forget : fx_M := (yX4_forget, cX4_forget, 1, none)
set_option maxRecDepth 100000 in
theorem vX4_forget : fx_Vi mX4_forget 0 := ⟨⟨fx_in 642 rfl rfl, fx_in 61 rfl rfl, by decide +kernel, by decide +kernel, by decide +kernel⟩, fx_in 640 rfl rfl, fx_in 641 rfl rfl⟩
abbrev mX4_begin : fx_M := (yX4_begin, cX4_begin, 4, some .boolean)
set_option maxRecDepth 100000 in
theorem vX4_begin : fx_Vi mX4_begin 2 := ⟨⟨fx_in 638 rfl rfl, fx_in 61 rfl rfl, by decide +kernel, by decide +kernel, by decide +kernel⟩, fx_in 636 rfl rfl, fx_in 637 rfl rfl⟩
abbrev mX4_run : fx_M := (yX4_run, cX4_run, 4, some .boolean)
set_option maxRecDepth 100000 in
theorem vX4_run : fx_Vi mX4_run 1 := ⟨⟨fx_in 657 rfl rfl, fx_in 61 rfl rfl, by decide +kernel, by decide +kernel, by decide +kernel⟩, fx_in 655 rfl rfl, fx_in 656 rfl rfl⟩
abbrev mX4_nextCode : fx_M := (yX4_nextCode, cX4_nextCode, 1, some .int)
set_option maxRecDepth 100000 in
theorem vX4_nextCode : fx_Vi mX4_nextCode 0 := ⟨⟨fx_in 661 rfl rfl, fx_in 61 rfl rfl, by decide +kernel, by decide +kernel, by decide +kernel⟩, fx_in 660 rfl rfl, fx_in 16 rfl rfl⟩
abbrev mX4_kern : fx_M := (yX4_kern, cX4_kern, 2, none)
set_option maxRecDepth 100000 in
theorem vX4_kern : fx_Vi mX4_kern 1 := ⟨⟨fx_in 693 rfl rfl, fx_in 61 rfl rfl, by decide +kernel, by decide +kernel, by decide +kernel⟩, fx_in 692 rfl rfl, fx_in 21 rfl rfl⟩
abbrev mX4_ligature : fx_M := (yX4_ligature, cX4_ligature, 5, none)
set_option maxRecDepth 100000 in
theorem vX4_ligature : fx_Vi mX4_ligature 2 := ⟨⟨fx_in 699 rfl rfl, fx_in 61 rfl rfl, by decide +kernel, by decide +kernel, by decide +kernel⟩, fx_in 698 rfl rfl, fx_in 22 rfl rfl⟩
abbrev mX4_becomeLigature : fx_M := (yX4_becomeLigature, cX4_becomeLigature, 2, none)
set_option maxRecDepth 100000 in
theorem vX4_becomeLigature : fx_Vi mX4_becomeLigature 1 := ⟨⟨fx_in 703 rfl rfl, fx_in 61 rfl rfl, by decide +kernel, by decide +kernel, by decide +kernel⟩, fx_in 702 rfl rfl, fx_in 23 rfl rfl⟩
abbrev mX4_goOn : fx_M := (yX4_goOn, cX4_goOn, 1, none)
set_option maxRecDepth 100000 in
theorem vX4_goOn : fx_Vi mX4_goOn 0 := ⟨⟨fx_in 671 rfl rfl, fx_in 61 rfl rfl, by decide +kernel, by decide +kernel, by decide +kernel⟩, fx_in 670 rfl rfl, fx_in 17 rfl rfl⟩
abbrev mX4_passSign : fx_M := (yX4_passSign, cX4_passSign, 1, none)
set_option maxRecDepth 100000 in
theorem vX4_passSign : fx_Vi mX4_passSign 0 := ⟨⟨fx_in 675 rfl rfl, fx_in 61 rfl rfl, by decide +kernel, by decide +kernel, by decide +kernel⟩, fx_in 674 rfl rfl, fx_in 18 rfl rfl⟩
abbrev mX4_addItem : fx_M := (yX4_addItem, cX4_addItem, 3, none)
set_option maxRecDepth 100000 in
theorem vX4_addItem : fx_Vi mX4_addItem 2 := ⟨⟨fx_in 679 rfl rfl, fx_in 61 rfl rfl, by decide +kernel, by decide +kernel, by decide +kernel⟩, fx_in 678 rfl rfl, fx_in 19 rfl rfl⟩
abbrev mX4_addUp : fx_M := (yX4_addUp, cX4_addUp, 3, none)
set_option maxRecDepth 100000 in
theorem vX4_addUp : fx_Vi mX4_addUp 1 := ⟨⟨fx_in 707 rfl rfl, fx_in 61 rfl rfl, by decide +kernel, by decide +kernel, by decide +kernel⟩, fx_in 706 rfl rfl, fx_in 24 rfl rfl⟩
abbrev mX4_push : fx_M := (yX4_push, cX4_push, 3, none)
set_option maxRecDepth 100000 in
theorem vX4_push : fx_Vi mX4_push 2 := ⟨⟨fx_in 648 rfl rfl, fx_in 61 rfl rfl, by decide +kernel, by decide +kernel, by decide +kernel⟩, fx_in 647 rfl rfl, fx_in 15 rfl rfl⟩
abbrev mX4_pop : fx_M := (yX4_pop, cX4_pop, 1, none)
set_option maxRecDepth 100000 in
theorem vX4_pop : fx_Vi mX4_pop 0 := ⟨⟨fx_in 683 rfl rfl, fx_in 61 rfl rfl, by decide +kernel, by decide +kernel, by decide +kernel⟩, fx_in 682 rfl rfl, fx_in 20 rfl rfl⟩
abbrev mX4_itemCount : fx_M := (yX4_itemCount, cX4_itemCount, 1, some .int)
set_option maxRecDepth 100000 in
theorem vX4_itemCount : fx_Vi mX4_itemCount 0 := ⟨⟨fx_in 713 rfl rfl, fx_in 61 rfl rfl, by decide +kernel, by decide +kernel, by decide +kernel⟩, fx_in 711 rfl rfl, fx_in 712 rfl rfl⟩
abbrev mX4_totalWidth : fx_M := (yX4_totalWidth, cX4_totalWidth, 1, some .long)
set_option maxRecDepth 100000 in
theorem vX4_totalWidth : fx_Vi mX4_totalWidth 0 := ⟨⟨fx_in 232 rfl rfl, fx_in 61 rfl rfl, by decide +kernel, by decide +kernel, by decide +kernel⟩, fx_in 230 rfl rfl, fx_in 231 rfl rfl⟩
abbrev mX4_itemPart : fx_M := (yX4_itemPart, cX4_itemPart, 3, some .int)
set_option maxRecDepth 100000 in
theorem vX4_itemPart : fx_Vi mX4_itemPart 2 := ⟨⟨fx_in 224 rfl rfl, fx_in 61 rfl rfl, by decide +kernel, by decide +kernel, by decide +kernel⟩, fx_in 222 rfl rfl, fx_in 223 rfl rfl⟩
abbrev mX5_init : fx_M := (yX5_init, cX5_init, 1, none)
set_option maxRecDepth 100000 in
theorem vX5_init : fx_Vc mX5_init 0 := ⟨⟨fx_in 78 rfl rfl, fx_in 58 rfl rfl, by decide +kernel, by decide +kernel, by decide +kernel⟩, fx_in 77 rfl rfl, rfl, rfl⟩
abbrev mX5_put : fx_M := (yX5_put, cX5_put, 4, some .boolean)
set_option maxRecDepth 100000 in
theorem vX5_put : fx_Vi mX5_put 2 := ⟨⟨fx_in 183 rfl rfl, fx_in 58 rfl rfl, by decide +kernel, by decide +kernel, by decide +kernel⟩, fx_in 181 rfl rfl, fx_in 182 rfl rfl⟩
abbrev mX5_load : fx_M := (yX5_load, cX5_load, 3, some .int)
set_option maxRecDepth 100000 in
theorem vX5_load : fx_Vi mX5_load 1 := ⟨⟨fx_in 278 rfl rfl, fx_in 58 rfl rfl, by decide +kernel, by decide +kernel, by decide +kernel⟩, fx_in 276 rfl rfl, fx_in 277 rfl rfl⟩
abbrev mX5_fault : fx_M := (yX5_fault, cX5_fault, 1, some .int)
set_option maxRecDepth 100000 in
theorem vX5_fault : fx_Vi mX5_fault 0 := ⟨⟨fx_in 216 rfl rfl, fx_in 58 rfl rfl, by decide +kernel, by decide +kernel, by decide +kernel⟩, fx_in 214 rfl rfl, fx_in 215 rfl rfl⟩
abbrev mX5_metric : fx_M := (yX5_metric, cX5_metric, 5, some .int)
set_option maxRecDepth 100000 in
theorem vX5_metric : fx_Vi mX5_metric 3 := ⟨⟨fx_in 589 rfl rfl, fx_in 58 rfl rfl, by decide +kernel, by decide +kernel, by decide +kernel⟩, fx_in 587 rfl rfl, fx_in 588 rfl rfl⟩
abbrev mX5_parameter : fx_M := (yX5_parameter, cX5_parameter, 4, some .int)
set_option maxRecDepth 100000 in
theorem vX5_parameter : fx_Vi mX5_parameter 2 := ⟨⟨fx_in 622 rfl rfl, fx_in 58 rfl rfl, by decide +kernel, by decide +kernel, by decide +kernel⟩, fx_in 620 rfl rfl, fx_in 621 rfl rfl⟩
abbrev mX5_set : fx_M := (yX5_set, cX5_set, 4, some .int)
set_option maxRecDepth 100000 in
theorem vX5_set : fx_Vi mX5_set 1 := ⟨⟨fx_in 634 rfl rfl, fx_in 58 rfl rfl, by decide +kernel, by decide +kernel, by decide +kernel⟩, fx_in 632 rfl rfl, fx_in 633 rfl rfl⟩
abbrev mX5_item : fx_M := (yX5_item, cX5_item, 3, some .int)
set_option maxRecDepth 100000 in
theorem vX5_item : fx_Vi mX5_item 2 := ⟨⟨fx_in 220 rfl rfl, fx_in 58 rfl rfl, by decide +kernel, by decide +kernel, by decide +kernel⟩, fx_in 218 rfl rfl, fx_in 219 rfl rfl⟩
abbrev mX5_width : fx_M := (yX5_width, cX5_width, 1, some .long)
set_option maxRecDepth 100000 in
theorem vX5_width : fx_Vi mX5_width 0 := ⟨⟨fx_in 228 rfl rfl, fx_in 58 rfl rfl, by decide +kernel, by decide +kernel, by decide +kernel⟩, fx_in 226 rfl rfl, fx_in 227 rfl rfl⟩
abbrev mX5_count : fx_M := (yX5_count, cX5_count, 3, some .int)
set_option maxRecDepth 100000 in
theorem vX5_count : fx_Vi mX5_count 1 := ⟨⟨fx_in 236 rfl rfl, fx_in 58 rfl rfl, by decide +kernel, by decide +kernel, by decide +kernel⟩, fx_in 234 rfl rfl, fx_in 235 rfl rfl⟩
abbrev mX5_fontAt : fx_M := (yX5_fontAt, cX5_fontAt, 2, some (.object "FontDesk$Font"))
set_option maxRecDepth 100000 in
theorem vX5_fontAt : fx_Vi mX5_fontAt 1 := ⟨⟨fx_in 244 rfl rfl, fx_in 58 rfl rfl, by decide +kernel, by decide +kernel, by decide +kernel⟩, fx_in 243 rfl rfl, fx_in 1 rfl rfl⟩
abbrev mX6_init : fx_M := (yX6_init, cX6_init, 1, none)
set_option maxRecDepth 100000 in
theorem vX6_init : fx_Vc mX6_init 0 := ⟨⟨fx_in 718 rfl rfl, fx_in 62 rfl rfl, by decide +kernel, by decide +kernel, by decide +kernel⟩, fx_in 717 rfl rfl, rfl, rfl⟩
abbrev mX6_thrown : fx_M := (yX6_thrown, cX6_thrown, 1, some .int)
set_option maxRecDepth 100000 in
theorem vX6_thrown : fx_Vi mX6_thrown 0 := ⟨⟨fx_in 772 rfl rfl, fx_in 62 rfl rfl, by decide +kernel, by decide +kernel, by decide +kernel⟩, fx_in 770 rfl rfl, fx_in 771 rfl rfl⟩
abbrev mX6_fails : fx_M := (yX6_fails, cX6_fails, 2, some .int)
set_option maxRecDepth 100000 in
theorem vX6_fails : fx_Vi mX6_fails 1 := ⟨⟨fx_in 787 rfl rfl, fx_in 62 rfl rfl, by decide +kernel, by decide +kernel, by decide +kernel⟩, fx_in 786 rfl rfl, fx_in 25 rfl rfl⟩
abbrev mX6_put : fx_M := (yX6_put, cX6_put, 5, some .boolean)
set_option maxRecDepth 100000 in
theorem vX6_put : fx_Vi mX6_put 2 := ⟨⟨fx_in 776 rfl rfl, fx_in 62 rfl rfl, by decide +kernel, by decide +kernel, by decide +kernel⟩, fx_in 774 rfl rfl, fx_in 775 rfl rfl⟩
abbrev mX6_byteAt : fx_M := (yX6_byteAt, cX6_byteAt, 2, some .int)
set_option maxRecDepth 100000 in
theorem vX6_byteAt : fx_Vi mX6_byteAt 1 := ⟨⟨fx_in 803 rfl rfl, fx_in 62 rfl rfl, by decide +kernel, by decide +kernel, by decide +kernel⟩, fx_in 802 rfl rfl, fx_in 29 rfl rfl⟩
abbrev mX6_half : fx_M := (yX6_half, cX6_half, 2, some .int)
set_option maxRecDepth 100000 in
theorem vX6_half : fx_Vi mX6_half 1 := ⟨⟨fx_in 799 rfl rfl, fx_in 62 rfl rfl, by decide +kernel, by decide +kernel, by decide +kernel⟩, fx_in 798 rfl rfl, fx_in 28 rfl rfl⟩
abbrev mX6_word : fx_M := (yX6_word, cX6_word, 2, some .int)
set_option maxRecDepth 100000 in
theorem vX6_word : fx_Vi mX6_word 1 := ⟨⟨fx_in 816 rfl rfl, fx_in 62 rfl rfl, by decide +kernel, by decide +kernel, by decide +kernel⟩, fx_in 815 rfl rfl, fx_in 32 rfl rfl⟩
abbrev mX6_characters : fx_M := (yX6_characters, cX6_characters, 1, some .int)
set_option maxRecDepth 100000 in
theorem vX6_characters : fx_Vi mX6_characters 0 := ⟨⟨fx_in 812 rfl rfl, fx_in 62 rfl rfl, by decide +kernel, by decide +kernel, by decide +kernel⟩, fx_in 811 rfl rfl, fx_in 31 rfl rfl⟩
abbrev mX6_start : fx_M := (yX6_start, cX6_start, 4, some .int)
set_option maxRecDepth 100000 in
theorem vX6_start : fx_Vi mX6_start 1 := ⟨⟨fx_in 808 rfl rfl, fx_in 62 rfl rfl, by decide +kernel, by decide +kernel, by decide +kernel⟩, fx_in 807 rfl rfl, fx_in 30 rfl rfl⟩
abbrev mX6_piece : fx_M := (yX6_piece, cX6_piece, 4, some .int)
set_option maxRecDepth 100000 in
theorem vX6_piece : fx_Vi mX6_piece 3 := ⟨⟨fx_in 833 rfl rfl, fx_in 62 rfl rfl, by decide +kernel, by decide +kernel, by decide +kernel⟩, fx_in 832 rfl rfl, fx_in 36 rfl rfl⟩
abbrev mX6_info : fx_M := (yX6_info, cX6_info, 3, some .int)
set_option maxRecDepth 100000 in
theorem vX6_info : fx_Vi mX6_info 2 := ⟨⟨fx_in 829 rfl rfl, fx_in 62 rfl rfl, by decide +kernel, by decide +kernel, by decide +kernel⟩, fx_in 828 rfl rfl, fx_in 35 rfl rfl⟩
abbrev mX6_isThere : fx_M := (yX6_isThere, cX6_isThere, 2, some .boolean)
set_option maxRecDepth 100000 in
theorem vX6_isThere : fx_Vi mX6_isThere 1 := ⟨⟨fx_in 825 rfl rfl, fx_in 62 rfl rfl, by decide +kernel, by decide +kernel, by decide +kernel⟩, fx_in 824 rfl rfl, fx_in 34 rfl rfl⟩
abbrev mX6_isWhole : fx_M := (yX6_isWhole, cX6_isWhole, 3, some .boolean)
set_option maxRecDepth 100000 in
theorem vX6_isWhole : fx_Vi mX6_isWhole 0 := ⟨⟨fx_in 795 rfl rfl, fx_in 62 rfl rfl, by decide +kernel, by decide +kernel, by decide +kernel⟩, fx_in 794 rfl rfl, fx_in 27 rfl rfl⟩
abbrev mX6_ends : fx_M := (yX6_ends, cX6_ends, 4, some .boolean)
set_option maxRecDepth 100000 in
theorem vX6_ends : fx_Vi mX6_ends 1 := ⟨⟨fx_in 837 rfl rfl, fx_in 62 rfl rfl, by decide +kernel, by decide +kernel, by decide +kernel⟩, fx_in 836 rfl rfl, fx_in 37 rfl rfl⟩
abbrev mX6_goodInfo : fx_M := (yX6_goodInfo, cX6_goodInfo, 5, some .boolean)
set_option maxRecDepth 100000 in
theorem vX6_goodInfo : fx_Vi mX6_goodInfo 1 := ⟨⟨fx_in 821 rfl rfl, fx_in 62 rfl rfl, by decide +kernel, by decide +kernel, by decide +kernel⟩, fx_in 820 rfl rfl, fx_in 33 rfl rfl⟩
abbrev mX6_goodFractions : fx_M := (yX6_goodFractions, cX6_goodFractions, 6, some .boolean)
set_option maxRecDepth 100000 in
theorem vX6_goodFractions : fx_Vi mX6_goodFractions 0 := ⟨⟨fx_in 841 rfl rfl, fx_in 62 rfl rfl, by decide +kernel, by decide +kernel, by decide +kernel⟩, fx_in 840 rfl rfl, fx_in 38 rfl rfl⟩
abbrev mX6_step : fx_M := (yX6_step, cX6_step, 3, some .int)
set_option maxRecDepth 100000 in
theorem vX6_step : fx_Vi mX6_step 2 := ⟨⟨fx_in 851 rfl rfl, fx_in 62 rfl rfl, by decide +kernel, by decide +kernel, by decide +kernel⟩, fx_in 850 rfl rfl, fx_in 40 rfl rfl⟩
abbrev mX6_boundary : fx_M := (yX6_boundary, cX6_boundary, 1, some .int)
set_option maxRecDepth 100000 in
theorem vX6_boundary : fx_Vi mX6_boundary 0 := ⟨⟨fx_in 855 rfl rfl, fx_in 62 rfl rfl, by decide +kernel, by decide +kernel, by decide +kernel⟩, fx_in 854 rfl rfl, fx_in 41 rfl rfl⟩
abbrev mX6_goodStep : fx_M := (yX6_goodStep, cX6_goodStep, 7, some .boolean)
set_option maxRecDepth 100000 in
theorem vX6_goodStep : fx_Vi mX6_goodStep 1 := ⟨⟨fx_in 847 rfl rfl, fx_in 62 rfl rfl, by decide +kernel, by decide +kernel, by decide +kernel⟩, fx_in 846 rfl rfl, fx_in 39 rfl rfl⟩
abbrev mX6_goodPiece : fx_M := (yX6_goodPiece, cX6_goodPiece, 4, some .boolean)
set_option maxRecDepth 100000 in
theorem vX6_goodPiece : fx_Vi mX6_goodPiece 1 := ⟨⟨fx_in 859 rfl rfl, fx_in 62 rfl rfl, by decide +kernel, by decide +kernel, by decide +kernel⟩, fx_in 858 rfl rfl, fx_in 42 rfl rfl⟩
abbrev mX6_program : fx_M := (yX6_program, cX6_program, 5, some .int)
set_option maxRecDepth 100000 in
theorem vX6_program : fx_Vi mX6_program 1 := ⟨⟨fx_in 871 rfl rfl, fx_in 62 rfl rfl, by decide +kernel, by decide +kernel, by decide +kernel⟩, fx_in 870 rfl rfl, fx_in 45 rfl rfl⟩
abbrev mX6_sought : fx_M := (yX6_sought, cX6_sought, 5, some .int)
set_option maxRecDepth 100000 in
theorem vX6_sought : fx_Vi mX6_sought 2 := ⟨⟨fx_in 919 rfl rfl, fx_in 62 rfl rfl, by decide +kernel, by decide +kernel, by decide +kernel⟩, fx_in 918 rfl rfl, fx_in 53 rfl rfl⟩
abbrev mX6_programs : fx_M := (yX6_programs, cX6_programs, 5, none)
set_option maxRecDepth 100000 in
theorem vX6_programs : fx_Vi mX6_programs 0 := ⟨⟨fx_in 867 rfl rfl, fx_in 62 rfl rfl, by decide +kernel, by decide +kernel, by decide +kernel⟩, fx_in 866 rfl rfl, fx_in 44 rfl rfl⟩
abbrev mX6_behind : fx_M := (yX6_behind, cX6_behind, 3, some .int)
set_option maxRecDepth 100000 in
theorem vX6_behind : fx_Vi mX6_behind 2 := ⟨⟨fx_in 879 rfl rfl, fx_in 62 rfl rfl, by decide +kernel, by decide +kernel, by decide +kernel⟩, fx_in 878 rfl rfl, fx_in 47 rfl rfl⟩
abbrev mX6_looked : fx_M := (yX6_looked, cX6_looked, 7, some .int)
set_option maxRecDepth 100000 in
theorem vX6_looked : fx_Vi mX6_looked 2 := ⟨⟨fx_in 875 rfl rfl, fx_in 62 rfl rfl, by decide +kernel, by decide +kernel, by decide +kernel⟩, fx_in 874 rfl rfl, fx_in 46 rfl rfl⟩
abbrev mX6_allEnd : fx_M := (yX6_allEnd, cX6_allEnd, 6, some .boolean)
set_option maxRecDepth 100000 in
theorem vX6_allEnd : fx_Vi mX6_allEnd 0 := ⟨⟨fx_in 863 rfl rfl, fx_in 62 rfl rfl, by decide +kernel, by decide +kernel, by decide +kernel⟩, fx_in 862 rfl rfl, fx_in 43 rfl rfl⟩
abbrev mX6_faultOf : fx_M := (yX6_faultOf, cX6_faultOf, 3, some .int)
set_option maxRecDepth 100000 in
theorem vX6_faultOf : fx_Vi mX6_faultOf 0 := ⟨⟨fx_in 791 rfl rfl, fx_in 62 rfl rfl, by decide +kernel, by decide +kernel, by decide +kernel⟩, fx_in 790 rfl rfl, fx_in 26 rfl rfl⟩
abbrev mX6_load : fx_M := (yX6_load, cX6_load, 3, some .int)
set_option maxRecDepth 100000 in
theorem vX6_load : fx_Vi mX6_load 1 := ⟨⟨fx_in 782 rfl rfl, fx_in 62 rfl rfl, by decide +kernel, by decide +kernel, by decide +kernel⟩, fx_in 780 rfl rfl, fx_in 781 rfl rfl⟩
abbrev mX6_fault : fx_M := (yX6_fault, cX6_fault, 1, some .int)
set_option maxRecDepth 100000 in
theorem vX6_fault : fx_Vi mX6_fault 0 := ⟨⟨fx_in 883 rfl rfl, fx_in 62 rfl rfl, by decide +kernel, by decide +kernel, by decide +kernel⟩, fx_in 881 rfl rfl, fx_in 882 rfl rfl⟩
abbrev mX6_choose : fx_M := (yX6_choose, cX6_choose, 3, some .boolean)
set_option maxRecDepth 100000 in
theorem vX6_choose : fx_Vi mX6_choose 1 := ⟨⟨fx_in 891 rfl rfl, fx_in 62 rfl rfl, by decide +kernel, by decide +kernel, by decide +kernel⟩, fx_in 890 rfl rfl, fx_in 48 rfl rfl⟩
abbrev mX6_scaled : fx_M := (yX6_scaled, cX6_scaled, 4, some .int)
set_option maxRecDepth 100000 in
theorem vX6_scaled : fx_Vi mX6_scaled 3 := ⟨⟨fx_in 899 rfl rfl, fx_in 62 rfl rfl, by decide +kernel, by decide +kernel, by decide +kernel⟩, fx_in 898 rfl rfl, fx_in 50 rfl rfl⟩
abbrev mX6_metricOf : fx_M := (yX6_metricOf, cX6_metricOf, 6, some .int)
set_option maxRecDepth 100000 in
theorem vX6_metricOf : fx_Vi mX6_metricOf 3 := ⟨⟨fx_in 895 rfl rfl, fx_in 62 rfl rfl, by decide +kernel, by decide +kernel, by decide +kernel⟩, fx_in 894 rfl rfl, fx_in 49 rfl rfl⟩
abbrev mX6_metric : fx_M := (yX6_metric, cX6_metric, 5, some .int)
set_option maxRecDepth 100000 in
theorem vX6_metric : fx_Vi mX6_metric 3 := ⟨⟨fx_in 887 rfl rfl, fx_in 62 rfl rfl, by decide +kernel, by decide +kernel, by decide +kernel⟩, fx_in 885 rfl rfl, fx_in 886 rfl rfl⟩
abbrev mX6_parameter : fx_M := (yX6_parameter, cX6_parameter, 3, some .int)
set_option maxRecDepth 100000 in
theorem vX6_parameter : fx_Vi mX6_parameter 2 := ⟨⟨fx_in 903 rfl rfl, fx_in 62 rfl rfl, by decide +kernel, by decide +kernel, by decide +kernel⟩, fx_in 901 rfl rfl, fx_in 902 rfl rfl⟩
abbrev mX6_open : fx_M := (yX6_open, cX6_open, 5, none)
set_option maxRecDepth 100000 in
theorem vX6_open : fx_Vi mX6_open 3 := ⟨⟨fx_in 915 rfl rfl, fx_in 62 rfl rfl, by decide +kernel, by decide +kernel, by decide +kernel⟩, fx_in 914 rfl rfl, fx_in 52 rfl rfl⟩
abbrev mX6_close : fx_M := (yX6_close, cX6_close, 3, none)
set_option maxRecDepth 100000 in
theorem vX6_close : fx_Vi mX6_close 1 := ⟨⟨fx_in 931 rfl rfl, fx_in 62 rfl rfl, by decide +kernel, by decide +kernel, by decide +kernel⟩, fx_in 930 rfl rfl, fx_in 56 rfl rfl⟩
abbrev mX6_change : fx_M := (yX6_change, cX6_change, 3, none)
set_option maxRecDepth 100000 in
theorem vX6_change : fx_Vi mX6_change 2 := ⟨⟨fx_in 927 rfl rfl, fx_in 62 rfl rfl, by decide +kernel, by decide +kernel, by decide +kernel⟩, fx_in 926 rfl rfl, fx_in 55 rfl rfl⟩
abbrev mX6_join : fx_M := (yX6_join, cX6_join, 4, some .int)
set_option maxRecDepth 100000 in
theorem vX6_join : fx_Vi mX6_join 3 := ⟨⟨fx_in 923 rfl rfl, fx_in 62 rfl rfl, by decide +kernel, by decide +kernel, by decide +kernel⟩, fx_in 922 rfl rfl, fx_in 54 rfl rfl⟩
abbrev mX6_setting : fx_M := (yX6_setting, cX6_setting, 7, some .int)
set_option maxRecDepth 100000 in
theorem vX6_setting : fx_Vi mX6_setting 2 := ⟨⟨fx_in 911 rfl rfl, fx_in 62 rfl rfl, by decide +kernel, by decide +kernel, by decide +kernel⟩, fx_in 910 rfl rfl, fx_in 51 rfl rfl⟩
abbrev mX6_set : fx_M := (yX6_set, cX6_set, 6, some .int)
set_option maxRecDepth 100000 in
theorem vX6_set : fx_Vi mX6_set 1 := ⟨⟨fx_in 907 rfl rfl, fx_in 62 rfl rfl, by decide +kernel, by decide +kernel, by decide +kernel⟩, fx_in 905 rfl rfl, fx_in 906 rfl rfl⟩
abbrev mX6_item : fx_M := (yX6_item, cX6_item, 3, some .int)
set_option maxRecDepth 100000 in
theorem vX6_item : fx_Vi mX6_item 2 := ⟨⟨fx_in 935 rfl rfl, fx_in 62 rfl rfl, by decide +kernel, by decide +kernel, by decide +kernel⟩, fx_in 933 rfl rfl, fx_in 934 rfl rfl⟩
abbrev mX6_width : fx_M := (yX6_width, cX6_width, 1, some .long)
set_option maxRecDepth 100000 in
theorem vX6_width : fx_Vi mX6_width 0 := ⟨⟨fx_in 939 rfl rfl, fx_in 62 rfl rfl, by decide +kernel, by decide +kernel, by decide +kernel⟩, fx_in 937 rfl rfl, fx_in 938 rfl rfl⟩
abbrev mX6_count : fx_M := (yX6_count, cX6_count, 5, some .int)
set_option maxRecDepth 100000 in
theorem vX6_count : fx_Vi mX6_count 1 := ⟨⟨fx_in 943 rfl rfl, fx_in 62 rfl rfl, by decide +kernel, by decide +kernel, by decide +kernel⟩, fx_in 941 rfl rfl, fx_in 942 rfl rfl⟩
abbrev mJ9_max_7cf53 : fx_M := (yJ9_max_7cf53, cJ9_max_7cf53, 2, some .int)
set_option maxRecDepth 100000 in
theorem vJ9_max_7cf53 : fx_Vs mJ9_max_7cf53 2 := ⟨⟨fx_in 195 rfl rfl, fx_in 63 rfl rfl, by decide +kernel, by decide +kernel, by decide +kernel⟩, fx_in 194 rfl rfl⟩
abbrev mJ9_min_7cf53 : fx_M := (yJ9_min_7cf53, cJ9_min_7cf53, 2, some .int)
set_option maxRecDepth 100000 in
theorem vJ9_min_7cf53 : fx_Vs mJ9_min_7cf53 2 := ⟨⟨fx_in 198 rfl rfl, fx_in 63 rfl rfl, by decide +kernel, by decide +kernel, by decide +kernel⟩, fx_in 197 rfl rfl⟩
abbrev mJ7_copyOf_9075b : fx_M := (yJ7_copyOf_9075b, cJ7_copyOf_9075b, 3, some (.array .byte))
set_option maxRecDepth 100000 in
theorem vJ7_copyOf_9075b : fx_Vs mJ7_copyOf_9075b 2 := ⟨⟨fx_in 201 rfl rfl, fx_in 64 rfl rfl, by decide +kernel, by decide +kernel, by decide +kernel⟩, fx_in 200 rfl rfl⟩
set_option maxRecDepth 100000 in
theorem kkL_30 : Cond.methodLink RL 30 yX5_init ∈ fx_ws := fx_in 76 rfl rfl
set_option maxRecDepth 100000 in
theorem kkL_36 : Cond.methodLink RL 36 yX5_put ∈ fx_ws := fx_in 180 rfl rfl
set_option maxRecDepth 100000 in
theorem kkX5_43 : Cond.methodLink RX5 43 yX0_append ∈ fx_ws := fx_in 184 rfl rfl
set_option maxRecDepth 100000 in
theorem kkX0_18 : Cond.methodLink RX0 18 yX0_makeRoom ∈ fx_ws := fx_in 189 rfl rfl
set_option maxRecDepth 100000 in
theorem kkX0_22 : Cond.methodLink RX0 22 yJ9_max_7cf53 ∈ fx_ws := fx_in 193 rfl rfl
set_option maxRecDepth 100000 in
theorem kkX0_28 : Cond.methodLink RX0 28 yJ9_min_7cf53 ∈ fx_ws := fx_in 196 rfl rfl
set_option maxRecDepth 100000 in
theorem kkX0_31 : Cond.methodLink RX0 31 yJ7_copyOf_9075b ∈ fx_ws := fx_in 199 rfl rfl
set_option maxRecDepth 100000 in
theorem kkJ7_304 : Cond.methodLink RJ7 304 yJ9_min_7cf53 ∈ fx_ws := fx_in 209 rfl rfl
set_option maxRecDepth 100000 in
theorem kkL_51 : Cond.methodLink RL 51 yX5_fault ∈ fx_ws := fx_in 213 rfl rfl
set_option maxRecDepth 100000 in
theorem kkL_66 : Cond.methodLink RL 66 yX5_item ∈ fx_ws := fx_in 217 rfl rfl
set_option maxRecDepth 100000 in
theorem kkX5_127 : Cond.methodLink RX5 127 yX4_itemPart ∈ fx_ws := fx_in 221 rfl rfl
set_option maxRecDepth 100000 in
theorem kkL_70 : Cond.methodLink RL 70 yX5_width ∈ fx_ws := fx_in 225 rfl rfl
set_option maxRecDepth 100000 in
theorem kkX5_130 : Cond.methodLink RX5 130 yX4_totalWidth ∈ fx_ws := fx_in 229 rfl rfl
set_option maxRecDepth 100000 in
theorem kkL_75 : Cond.methodLink RL 75 yX5_count ∈ fx_ws := fx_in 233 rfl rfl
set_option maxRecDepth 100000 in
theorem kkX5_134 : Cond.methodLink RX5 134 yX0_size ∈ fx_ws := fx_in 237 rfl rfl
set_option maxRecDepth 100000 in
theorem kkX5_84 : Cond.methodLink RX5 84 yX5_fontAt ∈ fx_ws := fx_in 241 rfl rfl
set_option maxRecDepth 100000 in
theorem kkX5_137 : Cond.methodLink RX5 137 yX3_tally ∈ fx_ws := fx_in 245 rfl rfl
set_option maxRecDepth 100000 in
theorem kkX3_92 : Cond.methodLink RX3 92 yX3_characterCount ∈ fx_ws := fx_in 249 rfl rfl
set_option maxRecDepth 100000 in
theorem kkX3_95 : Cond.methodLink RX3 95 yX3_boundary ∈ fx_ws := fx_in 254 rfl rfl
set_option maxRecDepth 100000 in
theorem kkX3_61 : Cond.methodLink RX3 61 yX3_skipOf ∈ fx_ws := fx_in 258 rfl rfl
set_option maxRecDepth 100000 in
theorem kkX3_40 : Cond.methodLink RX3 40 yX3_wordAt ∈ fx_ws := fx_in 262 rfl rfl
set_option maxRecDepth 100000 in
theorem kkX3_73 : Cond.methodLink RX3 73 yX3_signOf ∈ fx_ws := fx_in 266 rfl rfl
set_option maxRecDepth 100000 in
theorem kkL_7 : Cond.methodLink RL 7 yX5_load ∈ fx_ws := fx_in 275 rfl rfl
set_option maxRecDepth 100000 in
theorem kkX5_55 : Cond.methodLink RX5 55 yX2_halvesFit ∈ fx_ws := fx_in 347 rfl rfl
set_option maxRecDepth 100000 in
theorem kkX2_7 : Cond.methodLink RX2 7 yX0_size ∈ fx_ws := fx_in 350 rfl rfl
set_option maxRecDepth 100000 in
theorem kkX2_13 : Cond.methodLink RX2 13 yX0_halfAt ∈ fx_ws := fx_in 351 rfl rfl
set_option maxRecDepth 100000 in
theorem kkX0_37 : Cond.methodLink RX0 37 yX0_byteAt ∈ fx_ws := fx_in 355 rfl rfl
set_option maxRecDepth 100000 in
theorem kkX5_61 : Cond.methodLink RX5 61 yX3_init ∈ fx_ws := fx_in 360 rfl rfl
set_option maxRecDepth 100000 in
theorem kkX3_25 : Cond.methodLink RX3 25 yX0_size ∈ fx_ws := fx_in 364 rfl rfl
set_option maxRecDepth 100000 in
theorem kkX3_33 : Cond.methodLink RX3 33 yX0_wordAt ∈ fx_ws := fx_in 365 rfl rfl
set_option maxRecDepth 100000 in
theorem kkX0_41 : Cond.methodLink RX0 41 yX0_halfAt ∈ fx_ws := fx_in 369 rfl rfl
set_option maxRecDepth 100000 in
theorem kkX3_37 : Cond.methodLink RX3 37 yX0_halfAt ∈ fx_ws := fx_in 370 rfl rfl
set_option maxRecDepth 100000 in
theorem kkX5_64 : Cond.methodLink RX5 64 yX0_clear ∈ fx_ws := fx_in 387 rfl rfl
set_option maxRecDepth 100000 in
theorem kkX5_67 : Cond.methodLink RX5 67 yX2_faultOf ∈ fx_ws := fx_in 391 rfl rfl
set_option maxRecDepth 100000 in
theorem kkX2_18 : Cond.methodLink RX2 18 yX3_designSize ∈ fx_ws := fx_in 394 rfl rfl
set_option maxRecDepth 100000 in
theorem kkX2_26 : Cond.methodLink RX2 26 yX2_infosFit ∈ fx_ws := fx_in 399 rfl rfl
set_option maxRecDepth 100000 in
theorem kkX2_39 : Cond.methodLink RX2 39 yX3_hasCharacter ∈ fx_ws := fx_in 402 rfl rfl
set_option maxRecDepth 100000 in
theorem kkX3_46 : Cond.methodLink RX3 46 yX3_infoOf ∈ fx_ws := fx_in 406 rfl rfl
set_option maxRecDepth 100000 in
theorem kkX2_43 : Cond.methodLink RX2 43 yX2_placesFit ∈ fx_ws := fx_in 410 rfl rfl
set_option maxRecDepth 100000 in
theorem kkX2_50 : Cond.methodLink RX2 50 yX3_placeOf ∈ fx_ws := fx_in 413 rfl rfl
set_option maxRecDepth 100000 in
theorem kkX2_54 : Cond.methodLink RX2 54 yX3_rowLength ∈ fx_ws := fx_in 417 rfl rfl
set_option maxRecDepth 100000 in
theorem kkX2_47 : Cond.methodLink RX2 47 yX2_tagFits ∈ fx_ws := fx_in 421 rfl rfl
set_option maxRecDepth 100000 in
theorem kkX2_57 : Cond.methodLink RX2 57 yX3_restOf ∈ fx_ws := fx_in 424 rfl rfl
set_option maxRecDepth 100000 in
theorem kkX2_60 : Cond.methodLink RX2 60 yX3_tagOf ∈ fx_ws := fx_in 428 rfl rfl
set_option maxRecDepth 100000 in
theorem kkX2_63 : Cond.methodLink RX2 63 yX2_chainEnds ∈ fx_ws := fx_in 432 rfl rfl
set_option maxRecDepth 100000 in
theorem kkX2_30 : Cond.methodLink RX2 30 yX2_fractionsFit ∈ fx_ws := fx_in 435 rfl rfl
set_option maxRecDepth 100000 in
theorem kkX2_66 : Cond.methodLink RX2 66 yX3_wordAt ∈ fx_ws := fx_in 438 rfl rfl
set_option maxRecDepth 100000 in
theorem kkX2_69 : Cond.methodLink RX2 69 yX2_areFractions ∈ fx_ws := fx_in 439 rfl rfl
set_option maxRecDepth 100000 in
theorem kkX2_33 : Cond.methodLink RX2 33 yX2_stepsFit ∈ fx_ws := fx_in 444 rfl rfl
set_option maxRecDepth 100000 in
theorem kkX2_75 : Cond.methodLink RX2 75 yX3_isJump ∈ fx_ws := fx_in 447 rfl rfl
set_option maxRecDepth 100000 in
theorem kkX2_78 : Cond.methodLink RX2 78 yX2_jumpFits ∈ fx_ws := fx_in 451 rfl rfl
set_option maxRecDepth 100000 in
theorem kkX2_84 : Cond.methodLink RX2 84 yX3_targetOf ∈ fx_ws := fx_in 454 rfl rfl
set_option maxRecDepth 100000 in
theorem kkX3_64 : Cond.methodLink RX3 64 yX3_deedOf ∈ fx_ws := fx_in 458 rfl rfl
set_option maxRecDepth 100000 in
theorem kkX3_67 : Cond.methodLink RX3 67 yX3_remainderOf ∈ fx_ws := fx_in 462 rfl rfl
set_option maxRecDepth 100000 in
theorem kkX2_81 : Cond.methodLink RX2 81 yX2_deedFits ∈ fx_ws := fx_in 466 rfl rfl
set_option maxRecDepth 100000 in
theorem kkX2_87 : Cond.methodLink RX2 87 yX3_signOf ∈ fx_ws := fx_in 469 rfl rfl
set_option maxRecDepth 100000 in
theorem kkX2_90 : Cond.methodLink RX2 90 yX3_boundary ∈ fx_ws := fx_in 470 rfl rfl
set_option maxRecDepth 100000 in
theorem kkX2_93 : Cond.methodLink RX2 93 yX3_nextStep ∈ fx_ws := fx_in 471 rfl rfl
set_option maxRecDepth 100000 in
theorem kkX2_96 : Cond.methodLink RX2 96 yX3_isKern ∈ fx_ws := fx_in 475 rfl rfl
set_option maxRecDepth 100000 in
theorem kkX2_99 : Cond.methodLink RX2 99 yX3_kernPlaceOf ∈ fx_ws := fx_in 479 rfl rfl
set_option maxRecDepth 100000 in
theorem kkX2_102 : Cond.methodLink RX2 102 yX3_remainderOf ∈ fx_ws := fx_in 483 rfl rfl
set_option maxRecDepth 100000 in
theorem kkX2_105 : Cond.methodLink RX2 105 yX3_deedOf ∈ fx_ws := fx_in 484 rfl rfl
set_option maxRecDepth 100000 in
theorem kkX2_108 : Cond.methodLink RX2 108 yX2_isLigature ∈ fx_ws := fx_in 485 rfl rfl
set_option maxRecDepth 100000 in
theorem kkX2_36 : Cond.methodLink RX2 36 yX2_piecesFit ∈ fx_ws := fx_in 488 rfl rfl
set_option maxRecDepth 100000 in
theorem kkX2_111 : Cond.methodLink RX2 111 yX2_partFits ∈ fx_ws := fx_in 491 rfl rfl
set_option maxRecDepth 100000 in
theorem kkX5_71 : Cond.methodLink RX5 71 yX1_allEnd ∈ fx_ws := fx_in 494 rfl rfl
set_option maxRecDepth 100000 in
theorem kkX1_33 : Cond.methodLink RX1 33 yX1_numberPrograms ∈ fx_ws := fx_in 498 rfl rfl
set_option maxRecDepth 100000 in
theorem kkX1_52 : Cond.methodLink RX1 52 yX3_programStart ∈ fx_ws := fx_in 502 rfl rfl
set_option maxRecDepth 100000 in
theorem kkX3_76 : Cond.methodLink RX3 76 yX3_rowLength ∈ fx_ws := fx_in 506 rfl rfl
set_option maxRecDepth 100000 in
theorem kkX3_49 : Cond.methodLink RX3 49 yX3_tagOf ∈ fx_ws := fx_in 507 rfl rfl
set_option maxRecDepth 100000 in
theorem kkX3_52 : Cond.methodLink RX3 52 yX3_restOf ∈ fx_ws := fx_in 508 rfl rfl
set_option maxRecDepth 100000 in
theorem kkX3_79 : Cond.methodLink RX3 79 yX3_isJump ∈ fx_ws := fx_in 509 rfl rfl
set_option maxRecDepth 100000 in
theorem kkX3_83 : Cond.methodLink RX3 83 yX3_targetOf ∈ fx_ws := fx_in 510 rfl rfl
set_option maxRecDepth 100000 in
theorem kkX1_37 : Cond.methodLink RX1 37 yX1_clearTables ∈ fx_ws := fx_in 511 rfl rfl
set_option maxRecDepth 100000 in
theorem kkX1_56 : Cond.methodLink RX1 56 yJ9_max_7cf53 ∈ fx_ws := fx_in 516 rfl rfl
set_option maxRecDepth 100000 in
theorem kkX1_62 : Cond.methodLink RX1 62 yJ9_min_7cf53 ∈ fx_ws := fx_in 517 rfl rfl
set_option maxRecDepth 100000 in
theorem kkX1_40 : Cond.methodLink RX1 40 yX1_noteSteps ∈ fx_ws := fx_in 518 rfl rfl
set_option maxRecDepth 100000 in
theorem kkX1_65 : Cond.methodLink RX1 65 yX3_rowLength ∈ fx_ws := fx_in 522 rfl rfl
set_option maxRecDepth 100000 in
theorem kkX1_68 : Cond.methodLink RX1 68 yX3_signOf ∈ fx_ws := fx_in 523 rfl rfl
set_option maxRecDepth 100000 in
theorem kkX1_70 : Cond.methodLink RX1 70 yX3_isJump ∈ fx_ws := fx_in 524 rfl rfl
set_option maxRecDepth 100000 in
theorem kkX1_74 : Cond.methodLink RX1 74 yX3_nextStep ∈ fx_ws := fx_in 525 rfl rfl
set_option maxRecDepth 100000 in
theorem kkX1_44 : Cond.methodLink RX1 44 yX1_stateOf ∈ fx_ws := fx_in 526 rfl rfl
set_option maxRecDepth 100000 in
theorem kkX1_48 : Cond.methodLink RX1 48 yX1_ends ∈ fx_ws := fx_in 530 rfl rfl
set_option maxRecDepth 100000 in
theorem kkX1_77 : Cond.methodLink RX1 77 yX1_awaitAnswer ∈ fx_ws := fx_in 534 rfl rfl
set_option maxRecDepth 100000 in
theorem kkX1_80 : Cond.methodLink RX1 80 yX1_answer ∈ fx_ws := fx_in 538 rfl rfl
set_option maxRecDepth 100000 in
theorem kkX1_84 : Cond.methodLink RX1 84 yX3_deedOf ∈ fx_ws := fx_in 542 rfl rfl
set_option maxRecDepth 100000 in
theorem kkX1_87 : Cond.methodLink RX1 87 yX3_remainderOf ∈ fx_ws := fx_in 543 rfl rfl
set_option maxRecDepth 100000 in
theorem kkX1_90 : Cond.methodLink RX1 90 yX3_isKern ∈ fx_ws := fx_in 544 rfl rfl
set_option maxRecDepth 100000 in
theorem kkX1_93 : Cond.methodLink RX1 93 yX1_know ∈ fx_ws := fx_in 545 rfl rfl
set_option maxRecDepth 100000 in
theorem kkX1_96 : Cond.methodLink RX1 96 yX1_answerAs ∈ fx_ws := fx_in 549 rfl rfl
set_option maxRecDepth 100000 in
theorem kkX1_100 : Cond.methodLink RX1 100 yX1_endOf ∈ fx_ws := fx_in 553 rfl rfl
set_option maxRecDepth 100000 in
theorem kkX1_103 : Cond.methodLink RX1 103 yX1_pairOf ∈ fx_ws := fx_in 557 rfl rfl
set_option maxRecDepth 100000 in
theorem kkX5_80 : Cond.methodLink RX5 80 yX3_scaleTo ∈ fx_ws := fx_in 577 rfl rfl
set_option maxRecDepth 100000 in
theorem kkX3_43 : Cond.methodLink RX3 43 yX3_designSize ∈ fx_ws := fx_in 581 rfl rfl
set_option maxRecDepth 100000 in
theorem kkL_17 : Cond.methodLink RL 17 yX5_metric ∈ fx_ws := fx_in 586 rfl rfl
set_option maxRecDepth 100000 in
theorem kkX5_88 : Cond.methodLink RX5 88 yX3_hasCharacter ∈ fx_ws := fx_in 590 rfl rfl
set_option maxRecDepth 100000 in
theorem kkX5_97 : Cond.methodLink RX5 97 yX3_measure ∈ fx_ws := fx_in 607 rfl rfl
set_option maxRecDepth 100000 in
theorem kkX3_55 : Cond.methodLink RX3 55 yX3_placeOf ∈ fx_ws := fx_in 611 rfl rfl
set_option maxRecDepth 100000 in
theorem kkX3_58 : Cond.methodLink RX3 58 yX3_scaled ∈ fx_ws := fx_in 612 rfl rfl
set_option maxRecDepth 100000 in
theorem kkL_23 : Cond.methodLink RL 23 yX5_parameter ∈ fx_ws := fx_in 619 rfl rfl
set_option maxRecDepth 100000 in
theorem kkX5_103 : Cond.methodLink RX5 103 yX3_scaledParameter ∈ fx_ws := fx_in 624 rfl rfl
set_option maxRecDepth 100000 in
theorem kkL_27 : Cond.methodLink RL 27 yX5_set ∈ fx_ws := fx_in 631 rfl rfl
set_option maxRecDepth 100000 in
theorem kkX5_107 : Cond.methodLink RX5 107 yX4_begin ∈ fx_ws := fx_in 635 rfl rfl
set_option maxRecDepth 100000 in
theorem kkX4_46 : Cond.methodLink RX4 46 yX4_forget ∈ fx_ws := fx_in 639 rfl rfl
set_option maxRecDepth 100000 in
theorem kkX4_49 : Cond.methodLink RX4 49 yX0_size ∈ fx_ws := fx_in 643 rfl rfl
set_option maxRecDepth 100000 in
theorem kkX4_55 : Cond.methodLink RX4 55 yX3_boundary ∈ fx_ws := fx_in 644 rfl rfl
set_option maxRecDepth 100000 in
theorem kkX4_58 : Cond.methodLink RX4 58 yX4_push ∈ fx_ws := fx_in 645 rfl rfl
set_option maxRecDepth 100000 in
theorem kkX4_62 : Cond.methodLink RX4 62 yX0_byteAt ∈ fx_ws := fx_in 649 rfl rfl
set_option maxRecDepth 100000 in
theorem kkX4_66 : Cond.methodLink RX4 66 yX3_hasCharacter ∈ fx_ws := fx_in 650 rfl rfl
set_option maxRecDepth 100000 in
theorem kkX5_111 : Cond.methodLink RX5 111 yX4_forget ∈ fx_ws := fx_in 651 rfl rfl
set_option maxRecDepth 100000 in
theorem kkX5_118 : Cond.methodLink RX5 118 yX4_run ∈ fx_ws := fx_in 654 rfl rfl
set_option maxRecDepth 100000 in
theorem kkX4_70 : Cond.methodLink RX4 70 yX4_nextCode ∈ fx_ws := fx_in 658 rfl rfl
set_option maxRecDepth 100000 in
theorem kkX4_73 : Cond.methodLink RX4 73 yX3_stepFor ∈ fx_ws := fx_in 662 rfl rfl
set_option maxRecDepth 100000 in
theorem kkX3_86 : Cond.methodLink RX3 86 yX3_programStart ∈ fx_ws := fx_in 666 rfl rfl
set_option maxRecDepth 100000 in
theorem kkX3_89 : Cond.methodLink RX3 89 yX3_nextStep ∈ fx_ws := fx_in 667 rfl rfl
set_option maxRecDepth 100000 in
theorem kkX4_77 : Cond.methodLink RX4 77 yX4_goOn ∈ fx_ws := fx_in 668 rfl rfl
set_option maxRecDepth 100000 in
theorem kkX4_99 : Cond.methodLink RX4 99 yX4_passSign ∈ fx_ws := fx_in 672 rfl rfl
set_option maxRecDepth 100000 in
theorem kkX4_106 : Cond.methodLink RX4 106 yX4_addItem ∈ fx_ws := fx_in 676 rfl rfl
set_option maxRecDepth 100000 in
theorem kkX4_109 : Cond.methodLink RX4 109 yX4_pop ∈ fx_ws := fx_in 680 rfl rfl
set_option maxRecDepth 100000 in
theorem kkX4_80 : Cond.methodLink RX4 80 yX3_isKern ∈ fx_ws := fx_in 684 rfl rfl
set_option maxRecDepth 100000 in
theorem kkX4_83 : Cond.methodLink RX4 83 yX3_scaledKern ∈ fx_ws := fx_in 685 rfl rfl
set_option maxRecDepth 100000 in
theorem kkX3_70 : Cond.methodLink RX3 70 yX3_kernPlaceOf ∈ fx_ws := fx_in 689 rfl rfl
set_option maxRecDepth 100000 in
theorem kkX4_86 : Cond.methodLink RX4 86 yX4_kern ∈ fx_ws := fx_in 690 rfl rfl
set_option maxRecDepth 100000 in
theorem kkX4_90 : Cond.methodLink RX4 90 yX3_deedOf ∈ fx_ws := fx_in 694 rfl rfl
set_option maxRecDepth 100000 in
theorem kkX4_93 : Cond.methodLink RX4 93 yX3_remainderOf ∈ fx_ws := fx_in 695 rfl rfl
set_option maxRecDepth 100000 in
theorem kkX4_96 : Cond.methodLink RX4 96 yX4_ligature ∈ fx_ws := fx_in 696 rfl rfl
set_option maxRecDepth 100000 in
theorem kkX4_112 : Cond.methodLink RX4 112 yX4_becomeLigature ∈ fx_ws := fx_in 700 rfl rfl
set_option maxRecDepth 100000 in
theorem kkX4_102 : Cond.methodLink RX4 102 yX4_addUp ∈ fx_ws := fx_in 704 rfl rfl
set_option maxRecDepth 100000 in
theorem kkX4_115 : Cond.methodLink RX4 115 yX3_measure ∈ fx_ws := fx_in 708 rfl rfl
set_option maxRecDepth 100000 in
theorem kkX5_123 : Cond.methodLink RX5 123 yX4_itemCount ∈ fx_ws := fx_in 710 rfl rfl
set_option maxRecDepth 100000 in
theorem kkL_33 : Cond.methodLink RL 33 yX6_init ∈ fx_ws := fx_in 716 rfl rfl
set_option maxRecDepth 100000 in
theorem kkL_47 : Cond.methodLink RL 47 yX6_thrown ∈ fx_ws := fx_in 769 rfl rfl
set_option maxRecDepth 100000 in
theorem kkL_40 : Cond.methodLink RL 40 yX6_put ∈ fx_ws := fx_in 773 rfl rfl
set_option maxRecDepth 100000 in
theorem kkL_46 : Cond.methodLink RL 46 yX6_load ∈ fx_ws := fx_in 779 rfl rfl
set_option maxRecDepth 100000 in
theorem kkX6_127 : Cond.methodLink RX6 127 yX6_fails ∈ fx_ws := fx_in 784 rfl rfl
set_option maxRecDepth 100000 in
theorem kkX6_130 : Cond.methodLink RX6 130 yX6_faultOf ∈ fx_ws := fx_in 788 rfl rfl
set_option maxRecDepth 100000 in
theorem kkX6_106 : Cond.methodLink RX6 106 yX6_isWhole ∈ fx_ws := fx_in 792 rfl rfl
set_option maxRecDepth 100000 in
theorem kkX6_57 : Cond.methodLink RX6 57 yX6_half ∈ fx_ws := fx_in 796 rfl rfl
set_option maxRecDepth 100000 in
theorem kkX6_53 : Cond.methodLink RX6 53 yX6_byteAt ∈ fx_ws := fx_in 800 rfl rfl
set_option maxRecDepth 100000 in
theorem kkX6_64 : Cond.methodLink RX6 64 yX6_start ∈ fx_ws := fx_in 805 rfl rfl
set_option maxRecDepth 100000 in
theorem kkX6_60 : Cond.methodLink RX6 60 yX6_characters ∈ fx_ws := fx_in 809 rfl rfl
set_option maxRecDepth 100000 in
theorem kkX6_83 : Cond.methodLink RX6 83 yX6_word ∈ fx_ws := fx_in 813 rfl rfl
set_option maxRecDepth 100000 in
theorem kkX6_111 : Cond.methodLink RX6 111 yX6_goodInfo ∈ fx_ws := fx_in 818 rfl rfl
set_option maxRecDepth 100000 in
theorem kkX6_76 : Cond.methodLink RX6 76 yX6_isThere ∈ fx_ws := fx_in 822 rfl rfl
set_option maxRecDepth 100000 in
theorem kkX6_71 : Cond.methodLink RX6 71 yX6_info ∈ fx_ws := fx_in 826 rfl rfl
set_option maxRecDepth 100000 in
theorem kkX6_67 : Cond.methodLink RX6 67 yX6_piece ∈ fx_ws := fx_in 830 rfl rfl
set_option maxRecDepth 100000 in
theorem kkX6_80 : Cond.methodLink RX6 80 yX6_ends ∈ fx_ws := fx_in 834 rfl rfl
set_option maxRecDepth 100000 in
theorem kkX6_114 : Cond.methodLink RX6 114 yX6_goodFractions ∈ fx_ws := fx_in 838 rfl rfl
set_option maxRecDepth 100000 in
theorem kkX6_117 : Cond.methodLink RX6 117 yX6_goodStep ∈ fx_ws := fx_in 844 rfl rfl
set_option maxRecDepth 100000 in
theorem kkX6_88 : Cond.methodLink RX6 88 yX6_step ∈ fx_ws := fx_in 848 rfl rfl
set_option maxRecDepth 100000 in
theorem kkX6_91 : Cond.methodLink RX6 91 yX6_boundary ∈ fx_ws := fx_in 852 rfl rfl
set_option maxRecDepth 100000 in
theorem kkX6_120 : Cond.methodLink RX6 120 yX6_goodPiece ∈ fx_ws := fx_in 856 rfl rfl
set_option maxRecDepth 100000 in
theorem kkX6_123 : Cond.methodLink RX6 123 yX6_allEnd ∈ fx_ws := fx_in 860 rfl rfl
set_option maxRecDepth 100000 in
theorem kkX6_100 : Cond.methodLink RX6 100 yX6_programs ∈ fx_ws := fx_in 864 rfl rfl
set_option maxRecDepth 100000 in
theorem kkX6_94 : Cond.methodLink RX6 94 yX6_program ∈ fx_ws := fx_in 868 rfl rfl
set_option maxRecDepth 100000 in
theorem kkX6_103 : Cond.methodLink RX6 103 yX6_looked ∈ fx_ws := fx_in 872 rfl rfl
set_option maxRecDepth 100000 in
theorem kkX6_97 : Cond.methodLink RX6 97 yX6_behind ∈ fx_ws := fx_in 876 rfl rfl
set_option maxRecDepth 100000 in
theorem kkL_54 : Cond.methodLink RL 54 yX6_fault ∈ fx_ws := fx_in 880 rfl rfl
set_option maxRecDepth 100000 in
theorem kkL_58 : Cond.methodLink RL 58 yX6_metric ∈ fx_ws := fx_in 884 rfl rfl
set_option maxRecDepth 100000 in
theorem kkX6_139 : Cond.methodLink RX6 139 yX6_choose ∈ fx_ws := fx_in 888 rfl rfl
set_option maxRecDepth 100000 in
theorem kkX6_142 : Cond.methodLink RX6 142 yX6_metricOf ∈ fx_ws := fx_in 892 rfl rfl
set_option maxRecDepth 100000 in
theorem kkX6_136 : Cond.methodLink RX6 136 yX6_scaled ∈ fx_ws := fx_in 896 rfl rfl
set_option maxRecDepth 100000 in
theorem kkL_62 : Cond.methodLink RL 62 yX6_parameter ∈ fx_ws := fx_in 900 rfl rfl
set_option maxRecDepth 100000 in
theorem kkL_65 : Cond.methodLink RL 65 yX6_set ∈ fx_ws := fx_in 904 rfl rfl
set_option maxRecDepth 100000 in
theorem kkX6_170 : Cond.methodLink RX6 170 yX6_setting ∈ fx_ws := fx_in 908 rfl rfl
set_option maxRecDepth 100000 in
theorem kkX6_156 : Cond.methodLink RX6 156 yX6_open ∈ fx_ws := fx_in 912 rfl rfl
set_option maxRecDepth 100000 in
theorem kkX6_160 : Cond.methodLink RX6 160 yX6_sought ∈ fx_ws := fx_in 916 rfl rfl
set_option maxRecDepth 100000 in
theorem kkX6_163 : Cond.methodLink RX6 163 yX6_join ∈ fx_ws := fx_in 920 rfl rfl
set_option maxRecDepth 100000 in
theorem kkX6_148 : Cond.methodLink RX6 148 yX6_change ∈ fx_ws := fx_in 924 rfl rfl
set_option maxRecDepth 100000 in
theorem kkX6_152 : Cond.methodLink RX6 152 yX6_close ∈ fx_ws := fx_in 928 rfl rfl
set_option maxRecDepth 100000 in
theorem kkL_69 : Cond.methodLink RL 69 yX6_item ∈ fx_ws := fx_in 932 rfl rfl
set_option maxRecDepth 100000 in
theorem kkL_74 : Cond.methodLink RL 74 yX6_width ∈ fx_ws := fx_in 936 rfl rfl
set_option maxRecDepth 100000 in
theorem kkL_78 : Cond.methodLink RL 78 yX6_count ∈ fx_ws := fx_in 940 rfl rfl
set_option maxRecDepth 100000 in
theorem iiX0 : ∀ w ∈ u_ws RX0 TX0 2, w ∈ fx_ws := by
  intro w hw
  obtain ⟨k, hk, rfl⟩ := List.mem_map.mp hw
  have hk : k < 2 := List.mem_range.mp hk
  match k, hk with
  | 0, _ => exact fx_in 90 rfl rfl
  | 1, _ => exact fx_in 92 rfl rfl
set_option maxRecDepth 100000 in
theorem iiX1 : ∀ w ∈ u_ws RX1 TX1 6, w ∈ fx_ws := by
  intro w hw
  obtain ⟨k, hk, rfl⟩ := List.mem_map.mp hw
  have hk : k < 6 := List.mem_range.mp hk
  match k, hk with
  | 0, _ => exact fx_in 110 rfl rfl
  | 1, _ => exact fx_in 112 rfl rfl
  | 2, _ => exact fx_in 114 rfl rfl
  | 3, _ => exact fx_in 116 rfl rfl
  | 4, _ => exact fx_in 118 rfl rfl
  | 5, _ => exact fx_in 120 rfl rfl
set_option maxRecDepth 100000 in
theorem iiX3 : ∀ w ∈ u_ws RX3 TX3 5, w ∈ fx_ws := by
  intro w hw
  obtain ⟨k, hk, rfl⟩ := List.mem_map.mp hw
  have hk : k < 5 := List.mem_range.mp hk
  match k, hk with
  | 0, _ => exact fx_in 376 rfl rfl
  | 1, _ => exact fx_in 378 rfl rfl
  | 2, _ => exact fx_in 380 rfl rfl
  | 3, _ => exact fx_in 382 rfl rfl
  | 4, _ => exact fx_in 384 rfl rfl
set_option maxRecDepth 100000 in
theorem iiX4 : ∀ w ∈ u_ws RX4 TX4 10, w ∈ fx_ws := by
  intro w hw
  obtain ⟨k, hk, rfl⟩ := List.mem_map.mp hw
  have hk : k < 10 := List.mem_range.mp hk
  match k, hk with
  | 0, _ => exact fx_in 140 rfl rfl
  | 1, _ => exact fx_in 142 rfl rfl
  | 2, _ => exact fx_in 144 rfl rfl
  | 3, _ => exact fx_in 146 rfl rfl
  | 4, _ => exact fx_in 148 rfl rfl
  | 5, _ => exact fx_in 150 rfl rfl
  | 6, _ => exact fx_in 152 rfl rfl
  | 7, _ => exact fx_in 154 rfl rfl
  | 8, _ => exact fx_in 156 rfl rfl
  | 9, _ => exact fx_in 158 rfl rfl
set_option maxRecDepth 100000 in
theorem iiX5 : ∀ w ∈ u_ws RX5 TX5 6, w ∈ fx_ws := by
  intro w hw
  obtain ⟨k, hk, rfl⟩ := List.mem_map.mp hw
  have hk : k < 6 := List.mem_range.mp hk
  match k, hk with
  | 0, _ => exact fx_in 167 rfl rfl
  | 1, _ => exact fx_in 169 rfl rfl
  | 2, _ => exact fx_in 171 rfl rfl
  | 3, _ => exact fx_in 173 rfl rfl
  | 4, _ => exact fx_in 175 rfl rfl
  | 5, _ => exact fx_in 177 rfl rfl
set_option maxRecDepth 100000 in
theorem iiX6 : ∀ w ∈ u_ws RX6 TX6 15, w ∈ fx_ws := by
  intro w hw
  obtain ⟨k, hk, rfl⟩ := List.mem_map.mp hw
  have hk : k < 15 := List.mem_range.mp hk
  match k, hk with
  | 0, _ => exact fx_in 737 rfl rfl
  | 1, _ => exact fx_in 739 rfl rfl
  | 2, _ => exact fx_in 741 rfl rfl
  | 3, _ => exact fx_in 743 rfl rfl
  | 4, _ => exact fx_in 745 rfl rfl
  | 5, _ => exact fx_in 747 rfl rfl
  | 6, _ => exact fx_in 749 rfl rfl
  | 7, _ => exact fx_in 751 rfl rfl
  | 8, _ => exact fx_in 753 rfl rfl
  | 9, _ => exact fx_in 755 rfl rfl
  | 10, _ => exact fx_in 757 rfl rfl
  | 11, _ => exact fx_in 759 rfl rfl
  | 12, _ => exact fx_in 761 rfl rfl
  | 13, _ => exact fx_in 763 rfl rfl
  | 14, _ => exact fx_in 765 rfl rfl
set_option maxRecDepth 100000 in
theorem inL : Cond.initialized RL ∈ fx_ws := fx_in 57 rfl rfl
set_option maxRecDepth 100000 in
theorem inX5 : Cond.initialized RX5 ∈ fx_ws := fx_in 58 rfl rfl
set_option maxRecDepth 100000 in
theorem inX0 : Cond.initialized RX0 ∈ fx_ws := fx_in 59 rfl rfl
set_option maxRecDepth 100000 in
theorem inX1 : Cond.initialized RX1 ∈ fx_ws := fx_in 60 rfl rfl
set_option maxRecDepth 100000 in
theorem inX4 : Cond.initialized RX4 ∈ fx_ws := fx_in 61 rfl rfl
set_option maxRecDepth 100000 in
theorem inX6 : Cond.initialized RX6 ∈ fx_ws := fx_in 62 rfl rfl
set_option maxRecDepth 100000 in
theorem inJ9 : Cond.initialized RJ9 ∈ fx_ws := fx_in 63 rfl rfl
set_option maxRecDepth 100000 in
theorem inJ7 : Cond.initialized RJ7 ∈ fx_ws := fx_in 64 rfl rfl
set_option maxRecDepth 100000 in
theorem inJ10 : Cond.initialized RJ10 ∈ fx_ws := fx_in 65 rfl rfl
set_option maxRecDepth 100000 in
theorem inX2 : Cond.initialized RX2 ∈ fx_ws := fx_in 70 rfl rfl
set_option maxRecDepth 100000 in
theorem inX3 : Cond.initialized RX3 ∈ fx_ws := fx_in 71 rfl rfl
set_option maxRecDepth 100000 in
theorem ccL_8 : Cond.classLink RL 8 RX5 ∈ fx_ws := fx_in 74 rfl rfl
set_option maxRecDepth 100000 in
theorem szX5 : Cond.instantiable RX5 6 ∈ fx_ws := fx_in 75 rfl rfl
set_option maxRecDepth 100000 in
theorem ccX5_7 : Cond.classLink RX5 7 RX0 ∈ fx_ws := fx_in 82 rfl rfl
set_option maxRecDepth 100000 in
theorem szX0 : Cond.instantiable RX0 2 ∈ fx_ws := fx_in 83 rfl rfl
set_option maxRecDepth 100000 in
theorem ffX0_7 : fx_F RX0 7 0 0 false (.array .byte) := ⟨RX0, TX0, 2, tyX0, rfl, by decide, iiX0, fx_in 88 rfl rfl, tyX0_ok, nmX0, rfl, tyX0_ok 0 (by decide), rfl⟩
set_option maxRecDepth 100000 in
theorem ffX0_13 : fx_F RX0 13 0 1 false (.int) := ⟨RX0, TX0, 2, tyX0, rfl, by decide, iiX0, fx_in 89 rfl rfl, tyX0_ok, nmX0, rfl, tyX0_ok 1 (by decide), rfl⟩
set_option maxRecDepth 100000 in
theorem ac_byte : Cond.arrayClass .byte ∈ fx_ws := fx_in 95 rfl rfl
set_option maxRecDepth 100000 in
theorem ccX5_16 : Cond.classLink RX5 16 RX3 ∈ fx_ws := fx_in 96 rfl rfl
set_option maxRecDepth 100000 in
theorem ccX5_22 : Cond.classLink RX5 22 RX1 ∈ fx_ws := fx_in 98 rfl rfl
set_option maxRecDepth 100000 in
theorem szX1 : Cond.instantiable RX1 6 ∈ fx_ws := fx_in 99 rfl rfl
set_option maxRecDepth 100000 in
theorem ffX1_13 : fx_F RX1 13 1 0 true (.array .int) := ⟨RX1, TX1, 6, tyX1, rfl, by decide, iiX1, fx_in 104 rfl rfl, tyX1_ok, nmX1, rfl, tyX1_ok 0 (by decide), rfl⟩
set_option maxRecDepth 100000 in
theorem ffX1_17 : fx_F RX1 17 1 1 true (.array .int) := ⟨RX1, TX1, 6, tyX1, rfl, by decide, iiX1, fx_in 105 rfl rfl, tyX1_ok, nmX1, rfl, tyX1_ok 1 (by decide), rfl⟩
set_option maxRecDepth 100000 in
theorem ffX1_20 : fx_F RX1 20 1 2 false (.int) := ⟨RX1, TX1, 6, tyX1, rfl, by decide, iiX1, fx_in 106 rfl rfl, tyX1_ok, nmX1, rfl, tyX1_ok 2 (by decide), rfl⟩
set_option maxRecDepth 100000 in
theorem ffX1_24 : fx_F RX1 24 1 3 false (.array .int) := ⟨RX1, TX1, 6, tyX1, rfl, by decide, iiX1, fx_in 107 rfl rfl, tyX1_ok, nmX1, rfl, tyX1_ok 3 (by decide), rfl⟩
set_option maxRecDepth 100000 in
theorem ffX1_27 : fx_F RX1 27 1 4 false (.array .int) := ⟨RX1, TX1, 6, tyX1, rfl, by decide, iiX1, fx_in 108 rfl rfl, tyX1_ok, nmX1, rfl, tyX1_ok 4 (by decide), rfl⟩
set_option maxRecDepth 100000 in
theorem ffX1_30 : fx_F RX1 30 1 5 false (.array .int) := ⟨RX1, TX1, 6, tyX1, rfl, by decide, iiX1, fx_in 109 rfl rfl, tyX1_ok, nmX1, rfl, tyX1_ok 5 (by decide), rfl⟩
set_option maxRecDepth 100000 in
theorem ac_int : Cond.arrayClass .int ∈ fx_ws := fx_in 123 rfl rfl
set_option maxRecDepth 100000 in
theorem ccX5_29 : Cond.classLink RX5 29 RX4 ∈ fx_ws := fx_in 124 rfl rfl
set_option maxRecDepth 100000 in
theorem szX4 : Cond.instantiable RX4 10 ∈ fx_ws := fx_in 125 rfl rfl
set_option maxRecDepth 100000 in
theorem ffX4_11 : fx_F RX4 11 3 0 true (.array .int) := ⟨RX4, TX4, 10, tyX4, rfl, by decide, iiX4, fx_in 130 rfl rfl, tyX4_ok, nmX4, rfl, tyX4_ok 0 (by decide), rfl⟩
set_option maxRecDepth 100000 in
theorem ffX4_15 : fx_F RX4 15 3 1 true (.array .int) := ⟨RX4, TX4, 10, tyX4, rfl, by decide, iiX4, fx_in 131 rfl rfl, tyX4_ok, nmX4, rfl, tyX4_ok 1 (by decide), rfl⟩
set_option maxRecDepth 100000 in
theorem ffX4_18 : fx_F RX4 18 3 2 false (.int) := ⟨RX4, TX4, 10, tyX4, rfl, by decide, iiX4, fx_in 132 rfl rfl, tyX4_ok, nmX4, rfl, tyX4_ok 2 (by decide), rfl⟩
set_option maxRecDepth 100000 in
theorem ffX4_22 : fx_F RX4 22 3 3 false (.long) := ⟨RX4, TX4, 10, tyX4, rfl, by decide, iiX4, fx_in 133 rfl rfl, tyX4_ok, nmX4, rfl, tyX4_ok 3 (by decide), rfl⟩
set_option maxRecDepth 100000 in
theorem ffX4_26 : fx_F RX4 26 3 4 false (.int) := ⟨RX4, TX4, 10, tyX4, rfl, by decide, iiX4, fx_in 134 rfl rfl, tyX4_ok, nmX4, rfl, tyX4_ok 4 (by decide), rfl⟩
set_option maxRecDepth 100000 in
theorem ffX4_31 : fx_F RX4 31 3 5 false (.int) := ⟨RX4, TX4, 10, tyX4, rfl, by decide, iiX4, fx_in 135 rfl rfl, tyX4_ok, nmX4, rfl, tyX4_ok 5 (by decide), rfl⟩
set_option maxRecDepth 100000 in
theorem ffX4_34 : fx_F RX4 34 3 6 true (.array .int) := ⟨RX4, TX4, 10, tyX4, rfl, by decide, iiX4, fx_in 136 rfl rfl, tyX4_ok, nmX4, rfl, tyX4_ok 6 (by decide), rfl⟩
set_option maxRecDepth 100000 in
theorem ffX4_37 : fx_F RX4 37 3 7 true (.array .int) := ⟨RX4, TX4, 10, tyX4, rfl, by decide, iiX4, fx_in 137 rfl rfl, tyX4_ok, nmX4, rfl, tyX4_ok 7 (by decide), rfl⟩
set_option maxRecDepth 100000 in
theorem ffX4_40 : fx_F RX4 40 3 8 false (.int) := ⟨RX4, TX4, 10, tyX4, rfl, by decide, iiX4, fx_in 138 rfl rfl, tyX4_ok, nmX4, rfl, tyX4_ok 8 (by decide), rfl⟩
set_option maxRecDepth 100000 in
theorem ffX4_43 : fx_F RX4 43 3 9 false (.int) := ⟨RX4, TX4, 10, tyX4, rfl, by decide, iiX4, fx_in 139 rfl rfl, tyX4_ok, nmX4, rfl, tyX4_ok 9 (by decide), rfl⟩
set_option maxRecDepth 100000 in
theorem ffX5_10 : fx_F RX5 10 4 0 true (.object "FontDesk$Draft") := ⟨RX5, TX5, 6, tyX5, rfl, by decide, iiX5, fx_in 161 rfl rfl, tyX5_ok, nmX5, rfl, tyX5_ok 0 (by decide), rfl⟩
set_option maxRecDepth 100000 in
theorem ffX5_18 : fx_F RX5 18 4 1 true (.array (.object "FontDesk$Font")) := ⟨RX5, TX5, 6, tyX5, rfl, by decide, iiX5, fx_in 162 rfl rfl, tyX5_ok, nmX5, rfl, tyX5_ok 1 (by decide), rfl⟩
set_option maxRecDepth 100000 in
theorem ffX5_25 : fx_F RX5 25 4 2 true (.object "FontDesk$Endings") := ⟨RX5, TX5, 6, tyX5, rfl, by decide, iiX5, fx_in 163 rfl rfl, tyX5_ok, nmX5, rfl, tyX5_ok 2 (by decide), rfl⟩
set_option maxRecDepth 100000 in
theorem ffX5_32 : fx_F RX5 32 4 3 true (.object "FontDesk$Setting") := ⟨RX5, TX5, 6, tyX5, rfl, by decide, iiX5, fx_in 164 rfl rfl, tyX5_ok, nmX5, rfl, tyX5_ok 3 (by decide), rfl⟩
set_option maxRecDepth 100000 in
theorem ffX5_36 : fx_F RX5 36 4 4 false (.int) := ⟨RX5, TX5, 6, tyX5, rfl, by decide, iiX5, fx_in 165 rfl rfl, tyX5_ok, nmX5, rfl, tyX5_ok 4 (by decide), rfl⟩
set_option maxRecDepth 100000 in
theorem ffX5_40 : fx_F RX5 40 4 5 false (.int) := ⟨RX5, TX5, 6, tyX5, rfl, by decide, iiX5, fx_in 166 rfl rfl, tyX5_ok, nmX5, rfl, tyX5_ok 5 (by decide), rfl⟩
set_option maxRecDepth 100000 in
theorem qqX0_17 : Cond.constant RX0 17 (nI 131072) ∈ fx_ws := fx_in 188 rfl rfl
set_option maxRecDepth 100000 in
theorem ccJ7_311 : Cond.classLink RJ7 311 "[B" ∈ fx_ws := fx_in 208 rfl rfl
set_option maxRecDepth 100000 in
theorem szX3 : Cond.instantiable RX3 5 ∈ fx_ws := fx_in 252 rfl rfl
set_option maxRecDepth 100000 in
theorem ccL_13 : Cond.classLink RL 13 "java/lang/IllegalArgumentException" ∈ fx_ws := fx_in 273 rfl rfl
set_option maxRecDepth 100000 in
theorem ccL_15 : Cond.classLink RL 15 "java/lang/IllegalStateException" ∈ fx_ws := fx_in 274 rfl rfl
set_option maxRecDepth 100000 in
theorem qqX5_47 : Cond.constant RX5 47 (nI 134217727) ∈ fx_ws := fx_in 279 rfl rfl
set_option maxRecDepth 100000 in
theorem ccX5_48 : Cond.classLink RX5 48 "java/lang/IllegalStateException" ∈ fx_ws := fx_in 280 rfl rfl
set_option maxRecDepth 100000 in
theorem qqX2_17 : Cond.constant RX2 17 (nI 32768) ∈ fx_ws := fx_in 359 rfl rfl
set_option maxRecDepth 100000 in
theorem ffX3_30 : fx_F RX3 30 2 0 true (.array .int) := ⟨RX3, TX3, 5, tyX3, rfl, by decide, iiX3, fx_in 371 rfl rfl, tyX3_ok, nmX3, rfl, tyX3_ok 0 (by decide), rfl⟩
set_option maxRecDepth 100000 in
theorem ffX3_11 : fx_F RX3 11 2 1 true (.array .int) := ⟨RX3, TX3, 5, tyX3, rfl, by decide, iiX3, fx_in 372 rfl rfl, tyX3_ok, nmX3, rfl, tyX3_ok 1 (by decide), rfl⟩
set_option maxRecDepth 100000 in
theorem ffX3_15 : fx_F RX3 15 2 2 true (.array .int) := ⟨RX3, TX3, 5, tyX3, rfl, by decide, iiX3, fx_in 373 rfl rfl, tyX3_ok, nmX3, rfl, tyX3_ok 2 (by decide), rfl⟩
set_option maxRecDepth 100000 in
theorem ffX3_18 : fx_F RX3 18 2 3 true (.array .int) := ⟨RX3, TX3, 5, tyX3, rfl, by decide, iiX3, fx_in 374 rfl rfl, tyX3_ok, nmX3, rfl, tyX3_ok 3 (by decide), rfl⟩
set_option maxRecDepth 100000 in
theorem ffX3_21 : fx_F RX3 21 2 4 false (.int) := ⟨RX3, TX3, 5, tyX3, rfl, by decide, iiX3, fx_in 375 rfl rfl, tyX3_ok, nmX3, rfl, tyX3_ok 4 (by decide), rfl⟩
set_option maxRecDepth 100000 in
theorem qqX2_25 : Cond.constant RX2 25 (nI 1048576) ∈ fx_ws := fx_in 398 rfl rfl
set_option maxRecDepth 100000 in
theorem qqX2_73 : Cond.constant RX2 73 (-16777216) ∈ fx_ws := fx_in 442 rfl rfl
set_option maxRecDepth 100000 in
theorem qqX2_74 : Cond.constant RX2 74 (nI 16777216) ∈ fx_ws := fx_in 443 rfl rfl
set_option maxRecDepth 100000 in
theorem qqX1_55 : Cond.constant RX1 55 (nI 65792) ∈ fx_ws := fx_in 515 rfl rfl
set_option maxRecDepth 100000 in
theorem ccX5_75 : Cond.classLink RX5 75 "java/lang/IllegalArgumentException" ∈ fx_ws := fx_in 561 rfl rfl
set_option maxRecDepth 100000 in
theorem ccL_21 : Cond.classLink RL 21 "java/lang/IndexOutOfBoundsException" ∈ fx_ws := fx_in 585 rfl rfl
set_option maxRecDepth 100000 in
theorem ccX5_92 : Cond.classLink RX5 92 "java/lang/IndexOutOfBoundsException" ∈ fx_ws := fx_in 591 rfl rfl
set_option maxRecDepth 100000 in
theorem ccL_31 : Cond.classLink RL 31 RX6 ∈ fx_ws := fx_in 714 rfl rfl
set_option maxRecDepth 100000 in
theorem szX6 : Cond.instantiable RX6 15 ∈ fx_ws := fx_in 715 rfl rfl
set_option maxRecDepth 100000 in
theorem qqX6_7 : Cond.constant RX6 7 (nI 40000) ∈ fx_ws := fx_in 720 rfl rfl
set_option maxRecDepth 100000 in
theorem qqX6_20 : Cond.constant RX6 20 (nI 65792) ∈ fx_ws := fx_in 721 rfl rfl
set_option maxRecDepth 100000 in
theorem ffX6_37 : fx_F RX6 37 5 0 false (.int) := ⟨RX6, TX6, 15, tyX6, rfl, by decide, iiX6, fx_in 722 rfl rfl, tyX6_ok, nmX6, rfl, tyX6_ok 0 (by decide), rfl⟩
set_option maxRecDepth 100000 in
theorem ffX6_8 : fx_F RX6 8 5 1 true (.array .int) := ⟨RX6, TX6, 15, tyX6, rfl, by decide, iiX6, fx_in 723 rfl rfl, tyX6_ok, nmX6, rfl, tyX6_ok 1 (by decide), rfl⟩
set_option maxRecDepth 100000 in
theorem ffX6_41 : fx_F RX6 41 5 2 false (.int) := ⟨RX6, TX6, 15, tyX6, rfl, by decide, iiX6, fx_in 724 rfl rfl, tyX6_ok, nmX6, rfl, tyX6_ok 2 (by decide), rfl⟩
set_option maxRecDepth 100000 in
theorem ffX6_45 : fx_F RX6 45 5 3 false (.int) := ⟨RX6, TX6, 15, tyX6, rfl, by decide, iiX6, fx_in 725 rfl rfl, tyX6_ok, nmX6, rfl, tyX6_ok 3 (by decide), rfl⟩
set_option maxRecDepth 100000 in
theorem ffX6_14 : fx_F RX6 14 5 4 true (.array .int) := ⟨RX6, TX6, 15, tyX6, rfl, by decide, iiX6, fx_in 726 rfl rfl, tyX6_ok, nmX6, rfl, tyX6_ok 4 (by decide), rfl⟩
set_option maxRecDepth 100000 in
theorem ffX6_17 : fx_F RX6 17 5 5 true (.array .int) := ⟨RX6, TX6, 15, tyX6, rfl, by decide, iiX6, fx_in 727 rfl rfl, tyX6_ok, nmX6, rfl, tyX6_ok 5 (by decide), rfl⟩
set_option maxRecDepth 100000 in
theorem ffX6_133 : fx_F RX6 133 5 6 false (.int) := ⟨RX6, TX6, 15, tyX6, rfl, by decide, iiX6, fx_in 728 rfl rfl, tyX6_ok, nmX6, rfl, tyX6_ok 6 (by decide), rfl⟩
set_option maxRecDepth 100000 in
theorem ffX6_50 : fx_F RX6 50 5 7 false (.int) := ⟨RX6, TX6, 15, tyX6, rfl, by decide, iiX6, fx_in 729 rfl rfl, tyX6_ok, nmX6, rfl, tyX6_ok 7 (by decide), rfl⟩
set_option maxRecDepth 100000 in
theorem ffX6_21 : fx_F RX6 21 5 8 true (.array .int) := ⟨RX6, TX6, 15, tyX6, rfl, by decide, iiX6, fx_in 730 rfl rfl, tyX6_ok, nmX6, rfl, tyX6_ok 8 (by decide), rfl⟩
set_option maxRecDepth 100000 in
theorem ffX6_24 : fx_F RX6 24 5 9 true (.array .int) := ⟨RX6, TX6, 15, tyX6, rfl, by decide, iiX6, fx_in 731 rfl rfl, tyX6_ok, nmX6, rfl, tyX6_ok 9 (by decide), rfl⟩
set_option maxRecDepth 100000 in
theorem ffX6_27 : fx_F RX6 27 5 10 true (.array .boolean) := ⟨RX6, TX6, 15, tyX6, rfl, by decide, iiX6, fx_in 732 rfl rfl, tyX6_ok, nmX6, rfl, tyX6_ok 10 (by decide), rfl⟩
set_option maxRecDepth 100000 in
theorem ffX6_145 : fx_F RX6 145 5 11 false (.int) := ⟨RX6, TX6, 15, tyX6, rfl, by decide, iiX6, fx_in 733 rfl rfl, tyX6_ok, nmX6, rfl, tyX6_ok 11 (by decide), rfl⟩
set_option maxRecDepth 100000 in
theorem ffX6_31 : fx_F RX6 31 5 12 true (.array .int) := ⟨RX6, TX6, 15, tyX6, rfl, by decide, iiX6, fx_in 734 rfl rfl, tyX6_ok, nmX6, rfl, tyX6_ok 12 (by decide), rfl⟩
set_option maxRecDepth 100000 in
theorem ffX6_34 : fx_F RX6 34 5 13 true (.array .int) := ⟨RX6, TX6, 15, tyX6, rfl, by decide, iiX6, fx_in 735 rfl rfl, tyX6_ok, nmX6, rfl, tyX6_ok 13 (by decide), rfl⟩
set_option maxRecDepth 100000 in
theorem ffX6_166 : fx_F RX6 166 5 14 false (.long) := ⟨RX6, TX6, 15, tyX6, rfl, by decide, iiX6, fx_in 736 rfl rfl, tyX6_ok, nmX6, rfl, tyX6_ok 14 (by decide), rfl⟩
set_option maxRecDepth 100000 in
theorem ac_boolean : Cond.arrayClass .boolean ∈ fx_ws := fx_in 768 rfl rfl
set_option maxRecDepth 100000 in
theorem qqX6_44 : Cond.constant RX6 44 (nI 131072) ∈ fx_ws := fx_in 777 rfl rfl
set_option maxRecDepth 100000 in
theorem qqX6_48 : Cond.constantLong RX6 48 (lN 255) ∈ fx_ws := fx_in 778 rfl rfl
set_option maxRecDepth 100000 in
theorem qqX6_126 : Cond.constant RX6 126 (nI 134217727) ∈ fx_ws := fx_in 783 rfl rfl
set_option maxRecDepth 100000 in
theorem qqX6_75 : Cond.constant RX6 75 (nI 32768) ∈ fx_ws := fx_in 804 rfl rfl
set_option maxRecDepth 100000 in
theorem qqX6_110 : Cond.constant RX6 110 (nI 1048576) ∈ fx_ws := fx_in 817 rfl rfl
set_option maxRecDepth 100000 in
theorem qqX6_86 : Cond.constant RX6 86 (-16777216) ∈ fx_ws := fx_in 842 rfl rfl
set_option maxRecDepth 100000 in
theorem qqX6_87 : Cond.constant RX6 87 (nI 16777216) ∈ fx_ws := fx_in 843 rfl rfl
set_option maxRecDepth 100000 in
theorem qqL_34 : Cond.constantLong RL 34 (lN 4294967295) ∈ fx_ws := fx_in 944 rfl rfl
set_option maxRecDepth 100000 in
theorem ac_long : Cond.arrayClass .long ∈ fx_ws := fx_in 945 rfl rfl
set_option maxRecDepth 100000 in
theorem oo_i : Cond.instanceMethod objectInit ∈ fx_ws := fx_in 80 rfl rfl
set_option maxRecDepth 100000 in
theorem oo_c : Cond.code objectInit ⟨#[0xb1]⟩ 1 none ∈ fx_ws := fx_in 81 rfl rfl
set_option maxRecDepth 100000 in
theorem ooX5 : Cond.methodLink RX5 1 objectInit ∈ fx_ws := fx_in 79 rfl rfl
set_option maxRecDepth 100000 in
theorem ooX0 : Cond.methodLink RX0 1 objectInit ∈ fx_ws := fx_in 87 rfl rfl
set_option maxRecDepth 100000 in
theorem ooX1 : Cond.methodLink RX1 5 objectInit ∈ fx_ws := fx_in 103 rfl rfl
set_option maxRecDepth 100000 in
theorem ooX4 : Cond.methodLink RX4 3 objectInit ∈ fx_ws := fx_in 129 rfl rfl
set_option maxRecDepth 100000 in
theorem mthX0_22 : Cond.methodLink RX0 22 Lib.Math.max.name ∈ fx_ws := fx_in 193 rfl rfl
set_option maxRecDepth 100000 in
theorem mthX0_28 : Cond.methodLink RX0 28 Lib.Math.min.name ∈ fx_ws := fx_in 196 rfl rfl
set_option maxRecDepth 100000 in
theorem mthJ7_304 : Cond.methodLink RJ7 304 Lib.Math.min.name ∈ fx_ws := fx_in 209 rfl rfl
set_option maxRecDepth 100000 in
theorem ooX3 : Cond.methodLink RX3 3 objectInit ∈ fx_ws := fx_in 363 rfl rfl
set_option maxRecDepth 100000 in
theorem mthX1_56 : Cond.methodLink RX1 56 Lib.Math.max.name ∈ fx_ws := fx_in 516 rfl rfl
set_option maxRecDepth 100000 in
theorem mthX1_62 : Cond.methodLink RX1 62 Lib.Math.min.name ∈ fx_ws := fx_in 517 rfl rfl
set_option maxRecDepth 100000 in
theorem ooX6 : Cond.methodLink RX6 1 objectInit ∈ fx_ws := fx_in 719 rfl rfl
set_option maxRecDepth 100000 in
theorem ms_max : Cond.static Lib.Math.max.name ∈ fx_ws := fx_in 194 rfl rfl
set_option maxRecDepth 100000 in
theorem mc_max : Cond.code Lib.Math.max.name Lib.Math.max.code 2 (some .int) ∈ fx_ws := fx_in 195 rfl rfl
set_option maxRecDepth 100000 in
theorem ms_min : Cond.static Lib.Math.min.name ∈ fx_ws := fx_in 197 rfl rfl
set_option maxRecDepth 100000 in
theorem mc_min : Cond.code Lib.Math.min.name Lib.Math.min.code 2 (some .int) ∈ fx_ws := fx_in 198 rfl rfl

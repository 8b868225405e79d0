set_option maxRecDepth 20000 in
theorem wc_P_put : z_wv y_P_put b_P_put 4 (some .boolean) 3 := ⟨z_gwi 273 (by decide +kernel) (by decide +kernel), z_gwi 274 (by decide +kernel) (by decide +kernel), z_gwi 60 (by decide +kernel) (by decide +kernel), z_gwi 275 (rfl) (rfl), by decide +kernel, by decide +kernel, by decide +kernel⟩
set_option maxRecDepth 20000 in
theorem wc_P_fill : z_wv y_P_fill b_P_fill 11 (some .int) 5 := ⟨z_gwi 357 (by decide +kernel) (by decide +kernel), z_gwi 358 (by decide +kernel) (by decide +kernel), z_gwi 60 (by decide +kernel) (by decide +kernel), z_gwi 359 (rfl) (rfl), by decide +kernel, by decide +kernel, by decide +kernel⟩
set_option maxRecDepth 20000 in
theorem wc_P_noise : z_wv y_P_noise b_P_noise 3 (some .int) 1 := ⟨z_gwi 380 (by decide +kernel) (by decide +kernel), z_gwi 381 (by decide +kernel) (by decide +kernel), z_gwi 60 (by decide +kernel) (by decide +kernel), z_gwi 382 (rfl) (rfl), by decide +kernel, by decide +kernel, by decide +kernel⟩
set_option maxRecDepth 20000 in
theorem wc_P_run : z_wv y_P_run b_P_run 3 (some .int) 2 := ⟨z_gwi 388 (by decide +kernel) (by decide +kernel), z_gwi 389 (by decide +kernel) (by decide +kernel), z_gwi 60 (by decide +kernel) (by decide +kernel), z_gwi 390 (rfl) (rfl), by decide +kernel, by decide +kernel, by decide +kernel⟩
set_option maxRecDepth 20000 in
theorem wc_P_part : z_wv y_P_part b_P_part 3 (some .int) 2 := ⟨z_gwi 503 (by decide +kernel) (by decide +kernel), z_gwi 504 (by decide +kernel) (by decide +kernel), z_gwi 60 (by decide +kernel) (by decide +kernel), z_gwi 505 (rfl) (rfl), by decide +kernel, by decide +kernel, by decide +kernel⟩
set_option maxRecDepth 20000 in
theorem wc_P_partOf : z_wv y_P_partOf b_P_partOf 3 (some .int) 2 := ⟨z_gwi 587 (by decide +kernel) (by decide +kernel), z_gwi 588 (by decide +kernel) (by decide +kernel), z_gwi 60 (by decide +kernel) (by decide +kernel), z_gwi 589 (rfl) (rfl), by decide +kernel, by decide +kernel, by decide +kernel⟩
set_option maxRecDepth 20000 in
theorem wc_P_line : z_wv y_P_line b_P_line 5 (some .int) 3 := ⟨z_gwi 594 (by decide +kernel) (by decide +kernel), z_gwi 595 (by decide +kernel) (by decide +kernel), z_gwi 60 (by decide +kernel) (by decide +kernel), z_gwi 596 (rfl) (rfl), by decide +kernel, by decide +kernel, by decide +kernel⟩
set_option maxRecDepth 20000 in
theorem wc_P_order : z_wv y_P_order b_P_order 2 (some .int) 1 := ⟨z_gwi 609 (by decide +kernel) (by decide +kernel), z_gwi 610 (by decide +kernel) (by decide +kernel), z_gwi 60 (by decide +kernel) (by decide +kernel), z_gwi 611 (rfl) (rfl), by decide +kernel, by decide +kernel, by decide +kernel⟩
set_option maxRecDepth 20000 in
theorem wc_P_cover : z_wv y_P_cover b_P_cover 3 (some .int) 2 := ⟨z_gwi 616 (by decide +kernel) (by decide +kernel), z_gwi 617 (by decide +kernel) (by decide +kernel), z_gwi 60 (by decide +kernel) (by decide +kernel), z_gwi 618 (rfl) (rfl), by decide +kernel, by decide +kernel, by decide +kernel⟩
set_option maxRecDepth 20000 in
theorem wc_P_strip : z_wv y_P_strip b_P_strip 2 (some .int) 1 := ⟨z_gwi 623 (by decide +kernel) (by decide +kernel), z_gwi 624 (by decide +kernel) (by decide +kernel), z_gwi 60 (by decide +kernel) (by decide +kernel), z_gwi 625 (rfl) (rfl), by decide +kernel, by decide +kernel, by decide +kernel⟩
set_option maxRecDepth 20000 in
theorem wc_P_cell : z_wv y_P_cell b_P_cell 3 (some .int) 2 := ⟨z_gwi 630 (by decide +kernel) (by decide +kernel), z_gwi 631 (by decide +kernel) (by decide +kernel), z_gwi 60 (by decide +kernel) (by decide +kernel), z_gwi 632 (rfl) (rfl), by decide +kernel, by decide +kernel, by decide +kernel⟩
set_option maxRecDepth 20000 in
theorem wc_P_isSpeck : z_wv y_P_isSpeck b_P_isSpeck 4 (some .boolean) 2 := ⟨z_gwi 637 (by decide +kernel) (by decide +kernel), z_gwi 638 (by decide +kernel) (by decide +kernel), z_gwi 60 (by decide +kernel) (by decide +kernel), z_gwi 639 (rfl) (rfl), by decide +kernel, by decide +kernel, by decide +kernel⟩
set_option maxRecDepth 20000 in
theorem wc_P_told : z_wv y_P_told b_P_told 2 (some .int) 1 := ⟨z_gwi 254 (by decide +kernel) (by decide +kernel), z_gwi 255 (by decide +kernel) (by decide +kernel), z_gwi 60 (by decide +kernel) (by decide +kernel), z_gwi 256 (rfl) (rfl), by decide +kernel, by decide +kernel, by decide +kernel⟩
set_option maxRecDepth 20000 in
theorem wc_P_clear : z_wv y_P_clear b_P_clear 2 none 0 := ⟨z_gwi 262 (by decide +kernel) (by decide +kernel), z_gwi 263 (by decide +kernel) (by decide +kernel), z_gwi 60 (by decide +kernel) (by decide +kernel), z_gwi 264 (rfl) (rfl), by decide +kernel, by decide +kernel, by decide +kernel⟩
set_option maxRecDepth 20000 in
theorem wc_P_nearestSide : z_ws y_P_nearestSide b_P_nearestSide 1 (some .int) 1 := ⟨z_gwi 83 (by decide +kernel) (by decide +kernel), z_gwi 60 (by decide +kernel) (by decide +kernel), z_gwi 84 (rfl) (rfl), by decide +kernel, by decide +kernel, by decide +kernel⟩
set_option maxRecDepth 20000 in
theorem wc_P_mustBeParted : z_wv y_P_mustBeParted b_P_mustBeParted 1 none 0 := ⟨z_gwi 508 (by decide +kernel) (by decide +kernel), z_gwi 22 (by decide +kernel) (by decide +kernel), z_gwi 60 (by decide +kernel) (by decide +kernel), z_gwi 509 (rfl) (rfl), by decide +kernel, by decide +kernel, by decide +kernel⟩
set_option maxRecDepth 20000 in
theorem wc_P_mustBeSample : z_wv y_P_mustBeSample b_P_mustBeSample 3 none 2 := ⟨z_gwi 278 (by decide +kernel) (by decide +kernel), z_gwi 1 (by decide +kernel) (by decide +kernel), z_gwi 60 (by decide +kernel) (by decide +kernel), z_gwi 279 (rfl) (rfl), by decide +kernel, by decide +kernel, by decide +kernel⟩
set_option maxRecDepth 20000 in
theorem wc_P_mustBeBelow : z_ws y_P_mustBeBelow b_P_mustBeBelow 2 none 2 := ⟨z_gwi 527 (by decide +kernel) (by decide +kernel), z_gwi 60 (by decide +kernel) (by decide +kernel), z_gwi 528 (rfl) (rfl), by decide +kernel, by decide +kernel, by decide +kernel⟩
set_option maxRecDepth 20000 in
theorem wc_P_mustBeTold : z_ws y_P_mustBeTold b_P_mustBeTold 2 none 2 := ⟨z_gwi 531 (by decide +kernel) (by decide +kernel), z_gwi 60 (by decide +kernel) (by decide +kernel), z_gwi 532 (rfl) (rfl), by decide +kernel, by decide +kernel, by decide +kernel⟩
set_option maxRecDepth 20000 in
theorem wc_P_paint : z_wv y_P_paint b_P_paint 5 (some .boolean) 3 := ⟨z_gwi 350 (by decide +kernel) (by decide +kernel), z_gwi 3 (by decide +kernel) (by decide +kernel), z_gwi 60 (by decide +kernel) (by decide +kernel), z_gwi 351 (rfl) (rfl), by decide +kernel, by decide +kernel, by decide +kernel⟩
set_option maxRecDepth 20000 in
theorem wc_P_toldOfParted : z_wv y_P_toldOfParted b_P_toldOfParted 2 (some .int) 1 := ⟨z_gwi 259 (by decide +kernel) (by decide +kernel), z_gwi 0 (by decide +kernel) (by decide +kernel), z_gwi 60 (by decide +kernel) (by decide +kernel), z_gwi 260 (rfl) (rfl), by decide +kernel, by decide +kernel, by decide +kernel⟩
set_option maxRecDepth 20000 in
theorem wc_P_findClean : z_wv y_P_findClean b_P_findClean 3 none 0 := ⟨z_gwi 394 (by decide +kernel) (by decide +kernel), z_gwi 4 (by decide +kernel) (by decide +kernel), z_gwi 60 (by decide +kernel) (by decide +kernel), z_gwi 395 (rfl) (rfl), by decide +kernel, by decide +kernel, by decide +kernel⟩
set_option maxRecDepth 20000 in
theorem wc_P_smear : z_wv y_P_smear b_P_smear 4 none 2 := ⟨z_gwi 423 (by decide +kernel) (by decide +kernel), z_gwi 9 (by decide +kernel) (by decide +kernel), z_gwi 60 (by decide +kernel) (by decide +kernel), z_gwi 424 (rfl) (rfl), by decide +kernel, by decide +kernel, by decide +kernel⟩
set_option maxRecDepth 20000 in
theorem wc_P_smearAlong : z_wv y_P_smearAlong b_P_smearAlong 8 none 4 := ⟨z_gwi 427 (by decide +kernel) (by decide +kernel), z_gwi 10 (by decide +kernel) (by decide +kernel), z_gwi 60 (by decide +kernel) (by decide +kernel), z_gwi 428 (rfl) (rfl), by decide +kernel, by decide +kernel, by decide +kernel⟩
set_option maxRecDepth 20000 in
theorem wc_P_findStrips : z_wv y_P_findStrips b_P_findStrips 4 none 0 := ⟨z_gwi 456 (by decide +kernel) (by decide +kernel), z_gwi 16 (by decide +kernel) (by decide +kernel), z_gwi 60 (by decide +kernel) (by decide +kernel), z_gwi 457 (rfl) (rfl), by decide +kernel, by decide +kernel, by decide +kernel⟩
set_option maxRecDepth 20000 in
theorem wc_P_hasInk : z_wv y_P_hasInk b_P_hasInk 3 (some .boolean) 1 := ⟨z_gwi 460 (by decide +kernel) (by decide +kernel), z_gwi 17 (by decide +kernel) (by decide +kernel), z_gwi 60 (by decide +kernel) (by decide +kernel), z_gwi 461 (rfl) (rfl), by decide +kernel, by decide +kernel, by decide +kernel⟩
set_option maxRecDepth 20000 in
theorem wc_P_weightOf : z_wv y_P_weightOf b_P_weightOf 4 (some .int) 1 := ⟨z_gwi 536 (by decide +kernel) (by decide +kernel), z_gwi 23 (by decide +kernel) (by decide +kernel), z_gwi 60 (by decide +kernel) (by decide +kernel), z_gwi 537 (rfl) (rfl), by decide +kernel, by decide +kernel, by decide +kernel⟩
set_option maxRecDepth 20000 in
theorem wc_P_kindOf : z_wv y_P_kindOf b_P_kindOf 5 (some .int) 1 := ⟨z_gwi 540 (by decide +kernel) (by decide +kernel), z_gwi 24 (by decide +kernel) (by decide +kernel), z_gwi 60 (by decide +kernel) (by decide +kernel), z_gwi 541 (rfl) (rfl), by decide +kernel, by decide +kernel, by decide +kernel⟩
set_option maxRecDepth 20000 in
theorem wc_P_isThin : z_ws y_P_isThin b_P_isThin 2 (some .boolean) 2 := ⟨z_gwi 551 (by decide +kernel) (by decide +kernel), z_gwi 60 (by decide +kernel) (by decide +kernel), z_gwi 552 (rfl) (rfl), by decide +kernel, by decide +kernel, by decide +kernel⟩
set_option maxRecDepth 20000 in
theorem wc_P_isFramed : z_wv y_P_isFramed b_P_isFramed 6 (some .boolean) 1 := ⟨z_gwi 555 (by decide +kernel) (by decide +kernel), z_gwi 25 (by decide +kernel) (by decide +kernel), z_gwi 60 (by decide +kernel) (by decide +kernel), z_gwi 556 (rfl) (rfl), by decide +kernel, by decide +kernel, by decide +kernel⟩
set_option maxRecDepth 20000 in
theorem wc_P_isMostlyEmptyWithin : z_wv y_P_isMostlyEmptyWithin b_P_isMostlyEmptyWithin 4 (some .boolean) 1 := ⟨z_gwi 563 (by decide +kernel) (by decide +kernel), z_gwi 27 (by decide +kernel) (by decide +kernel), z_gwi 60 (by decide +kernel) (by decide +kernel), z_gwi 564 (rfl) (rfl), by decide +kernel, by decide +kernel, by decide +kernel⟩
set_option maxRecDepth 20000 in
theorem wc_P_countClean : z_wv y_P_countClean b_P_countClean 8 (some .int) 4 := ⟨z_gwi 559 (by decide +kernel) (by decide +kernel), z_gwi 26 (by decide +kernel) (by decide +kernel), z_gwi 60 (by decide +kernel) (by decide +kernel), z_gwi 560 (rfl) (rfl), by decide +kernel, by decide +kernel, by decide +kernel⟩
set_option maxRecDepth 20000 in
theorem wc_P_countLines : z_wv y_P_countLines b_P_countLines 4 (some .int) 1 := ⟨z_gwi 567 (by decide +kernel) (by decide +kernel), z_gwi 28 (by decide +kernel) (by decide +kernel), z_gwi 60 (by decide +kernel) (by decide +kernel), z_gwi 568 (rfl) (rfl), by decide +kernel, by decide +kernel, by decide +kernel⟩
set_option maxRecDepth 20000 in
theorem wc_P_firstRowOfLine : z_wv y_P_firstRowOfLine b_P_firstRowOfLine 5 (some .int) 2 := ⟨z_gwi 599 (by decide +kernel) (by decide +kernel), z_gwi 31 (by decide +kernel) (by decide +kernel), z_gwi 60 (by decide +kernel) (by decide +kernel), z_gwi 600 (rfl) (rfl), by decide +kernel, by decide +kernel, by decide +kernel⟩
set_option maxRecDepth 20000 in
theorem wc_P_countRowsOfLine : z_wv y_P_countRowsOfLine b_P_countRowsOfLine 4 (some .int) 2 := ⟨z_gwi 603 (by decide +kernel) (by decide +kernel), z_gwi 32 (by decide +kernel) (by decide +kernel), z_gwi 60 (by decide +kernel) (by decide +kernel), z_gwi 604 (rfl) (rfl), by decide +kernel, by decide +kernel, by decide +kernel⟩
set_option maxRecDepth 20000 in
theorem wc_P_beginsLine : z_wv y_P_beginsLine b_P_beginsLine 3 (some .boolean) 2 := ⟨z_gwi 571 (by decide +kernel) (by decide +kernel), z_gwi 29 (by decide +kernel) (by decide +kernel), z_gwi 60 (by decide +kernel) (by decide +kernel), z_gwi 572 (rfl) (rfl), by decide +kernel, by decide +kernel, by decide +kernel⟩
set_option maxRecDepth 20000 in
theorem wc_P_hasCleanOf : z_wv y_P_hasCleanOf b_P_hasCleanOf 5 (some .boolean) 2 := ⟨z_gwi 575 (by decide +kernel) (by decide +kernel), z_gwi 30 (by decide +kernel) (by decide +kernel), z_gwi 60 (by decide +kernel) (by decide +kernel), z_gwi 576 (rfl) (rfl), by decide +kernel, by decide +kernel, by decide +kernel⟩
set_option maxRecDepth 20000 in
theorem wc_G_find : z_wv y_G_find b_G_find 6 none 3 := ⟨z_gwi 397 (by decide +kernel) (by decide +kernel), z_gwi 398 (by decide +kernel) (by decide +kernel), z_gwi 62 (by decide +kernel) (by decide +kernel), z_gwi 399 (rfl) (rfl), by decide +kernel, by decide +kernel, by decide +kernel⟩
set_option maxRecDepth 20000 in
theorem wc_G_isOpen : z_wv y_G_isOpen b_G_isOpen 6 (some .boolean) 4 := ⟨z_gwi 405 (by decide +kernel) (by decide +kernel), z_gwi 5 (by decide +kernel) (by decide +kernel), z_gwi 62 (by decide +kernel) (by decide +kernel), z_gwi 406 (rfl) (rfl), by decide +kernel, by decide +kernel, by decide +kernel⟩
set_option maxRecDepth 20000 in
theorem wc_G_begin : z_wv y_G_begin b_G_begin 3 none 2 := ⟨z_gwi 409 (by decide +kernel) (by decide +kernel), z_gwi 6 (by decide +kernel) (by decide +kernel), z_gwi 62 (by decide +kernel) (by decide +kernel), z_gwi 410 (rfl) (rfl), by decide +kernel, by decide +kernel, by decide +kernel⟩
set_option maxRecDepth 20000 in
theorem wc_G_take : z_wv y_G_take b_G_take 4 none 2 := ⟨z_gwi 413 (by decide +kernel) (by decide +kernel), z_gwi 7 (by decide +kernel) (by decide +kernel), z_gwi 62 (by decide +kernel) (by decide +kernel), z_gwi 414 (rfl) (rfl), by decide +kernel, by decide +kernel, by decide +kernel⟩
set_option maxRecDepth 20000 in
theorem wc_G_gather : z_wv y_G_gather b_G_gather 10 none 3 := ⟨z_gwi 419 (by decide +kernel) (by decide +kernel), z_gwi 8 (by decide +kernel) (by decide +kernel), z_gwi 62 (by decide +kernel) (by decide +kernel), z_gwi 420 (rfl) (rfl), by decide +kernel, by decide +kernel, by decide +kernel⟩
set_option maxRecDepth 20000 in
theorem wc_G_dropAtEdge : z_wv y_G_dropAtEdge b_G_dropAtEdge 3 none 0 := ⟨z_gwi 463 (by decide +kernel) (by decide +kernel), z_gwi 464 (by decide +kernel) (by decide +kernel), z_gwi 62 (by decide +kernel) (by decide +kernel), z_gwi 465 (rfl) (rfl), by decide +kernel, by decide +kernel, by decide +kernel⟩
set_option maxRecDepth 20000 in
theorem wc_G_wideOf : z_wv y_G_wideOf b_G_wideOf 2 (some .int) 1 := ⟨z_gwi 543 (by decide +kernel) (by decide +kernel), z_gwi 544 (by decide +kernel) (by decide +kernel), z_gwi 62 (by decide +kernel) (by decide +kernel), z_gwi 545 (rfl) (rfl), by decide +kernel, by decide +kernel, by decide +kernel⟩
set_option maxRecDepth 20000 in
theorem wc_G_highOf : z_wv y_G_highOf b_G_highOf 2 (some .int) 1 := ⟨z_gwi 547 (by decide +kernel) (by decide +kernel), z_gwi 548 (by decide +kernel) (by decide +kernel), z_gwi 62 (by decide +kernel) (by decide +kernel), z_gwi 549 (rfl) (rfl), by decide +kernel, by decide +kernel, by decide +kernel⟩
set_option maxRecDepth 20000 in
theorem wc_G_boxOf : z_wv y_G_boxOf b_G_boxOf 3 (some .int) 2 := ⟨z_gwi 578 (by decide +kernel) (by decide +kernel), z_gwi 579 (by decide +kernel) (by decide +kernel), z_gwi 62 (by decide +kernel) (by decide +kernel), z_gwi 580 (rfl) (rfl), by decide +kernel, by decide +kernel, by decide +kernel⟩
set_option maxRecDepth 20000 in
theorem wc_C_find : z_wv y_C_find b_C_find 3 none 1 := ⟨z_gwi 430 (by decide +kernel) (by decide +kernel), z_gwi 431 (by decide +kernel) (by decide +kernel), z_gwi 63 (by decide +kernel) (by decide +kernel), z_gwi 432 (rfl) (rfl), by decide +kernel, by decide +kernel, by decide +kernel⟩
set_option maxRecDepth 20000 in
theorem wc_C_measure : z_wv y_C_measure b_C_measure 6 none 1 := ⟨z_gwi 435 (by decide +kernel) (by decide +kernel), z_gwi 11 (by decide +kernel) (by decide +kernel), z_gwi 63 (by decide +kernel) (by decide +kernel), z_gwi 436 (rfl) (rfl), by decide +kernel, by decide +kernel, by decide +kernel⟩
set_option maxRecDepth 20000 in
theorem wc_C_findGreatest : z_wv y_C_findGreatest b_C_findGreatest 4 none 1 := ⟨z_gwi 439 (by decide +kernel) (by decide +kernel), z_gwi 12 (by decide +kernel) (by decide +kernel), z_gwi 63 (by decide +kernel) (by decide +kernel), z_gwi 440 (rfl) (rfl), by decide +kernel, by decide +kernel, by decide +kernel⟩
set_option maxRecDepth 20000 in
theorem wc_C_growFrom : z_wv y_C_growFrom b_C_growFrom 6 none 3 := ⟨z_gwi 443 (by decide +kernel) (by decide +kernel), z_gwi 13 (by decide +kernel) (by decide +kernel), z_gwi 63 (by decide +kernel) (by decide +kernel), z_gwi 444 (rfl) (rfl), by decide +kernel, by decide +kernel, by decide +kernel⟩
set_option maxRecDepth 20000 in
theorem wc_C_block : z_wv y_C_block b_C_block 5 none 1 := ⟨z_gwi 448 (by decide +kernel) (by decide +kernel), z_gwi 14 (by decide +kernel) (by decide +kernel), z_gwi 63 (by decide +kernel) (by decide +kernel), z_gwi 449 (rfl) (rfl), by decide +kernel, by decide +kernel, by decide +kernel⟩
set_option maxRecDepth 20000 in
theorem wc_C_shortenBefore : z_wv y_C_shortenBefore b_C_shortenBefore 5 none 2 := ⟨z_gwi 452 (by decide +kernel) (by decide +kernel), z_gwi 15 (by decide +kernel) (by decide +kernel), z_gwi 63 (by decide +kernel) (by decide +kernel), z_gwi 453 (rfl) (rfl), by decide +kernel, by decide +kernel, by decide +kernel⟩
set_option maxRecDepth 20000 in
theorem wc_R_arrange : z_wv y_R_arrange b_R_arrange 6 none 1 := ⟨z_gwi 467 (by decide +kernel) (by decide +kernel), z_gwi 468 (by decide +kernel) (by decide +kernel), z_gwi 64 (by decide +kernel) (by decide +kernel), z_gwi 469 (rfl) (rfl), by decide +kernel, by decide +kernel, by decide +kernel⟩
set_option maxRecDepth 20000 in
theorem wc_R_sortByBoxes : z_wv y_R_sortByBoxes b_R_sortByBoxes 4 none 1 := ⟨z_gwi 472 (by decide +kernel) (by decide +kernel), z_gwi 18 (by decide +kernel) (by decide +kernel), z_gwi 64 (by decide +kernel) (by decide +kernel), z_gwi 473 (rfl) (rfl), by decide +kernel, by decide +kernel, by decide +kernel⟩
set_option maxRecDepth 20000 in
theorem wc_R_isBefore : z_ws y_R_isBefore b_R_isBefore 3 (some .boolean) 3 := ⟨z_gwi 475 (by decide +kernel) (by decide +kernel), z_gwi 64 (by decide +kernel) (by decide +kernel), z_gwi 476 (rfl) (rfl), by decide +kernel, by decide +kernel, by decide +kernel⟩
set_option maxRecDepth 20000 in
theorem wc_R_findCut : z_wv y_R_findCut b_R_findCut 4 (some .boolean) 3 := ⟨z_gwi 479 (by decide +kernel) (by decide +kernel), z_gwi 19 (by decide +kernel) (by decide +kernel), z_gwi 64 (by decide +kernel) (by decide +kernel), z_gwi 480 (rfl) (rfl), by decide +kernel, by decide +kernel, by decide +kernel⟩
set_option maxRecDepth 20000 in
theorem wc_R_lookAlong : z_wv y_R_lookAlong b_R_lookAlong 10 none 5 := ⟨z_gwi 483 (by decide +kernel) (by decide +kernel), z_gwi 20 (by decide +kernel) (by decide +kernel), z_gwi 64 (by decide +kernel) (by decide +kernel), z_gwi 484 (rfl) (rfl), by decide +kernel, by decide +kernel, by decide +kernel⟩
set_option maxRecDepth 20000 in
theorem wc_R_bits : z_ws y_R_bits b_R_bits 2 (some .int) 2 := ⟨z_gwi 486 (by decide +kernel) (by decide +kernel), z_gwi 64 (by decide +kernel) (by decide +kernel), z_gwi 487 (rfl) (rfl), by decide +kernel, by decide +kernel, by decide +kernel⟩
set_option maxRecDepth 20000 in
theorem wc_R_hasBit : z_ws y_R_hasBit b_R_hasBit 2 (some .boolean) 2 := ⟨z_gwi 489 (by decide +kernel) (by decide +kernel), z_gwi 64 (by decide +kernel) (by decide +kernel), z_gwi 490 (rfl) (rfl), by decide +kernel, by decide +kernel, by decide +kernel⟩
set_option maxRecDepth 20000 in
theorem wc_R_divide : z_wv y_R_divide b_R_divide 9 (some .int) 3 := ⟨z_gwi 493 (by decide +kernel) (by decide +kernel), z_gwi 21 (by decide +kernel) (by decide +kernel), z_gwi 64 (by decide +kernel) (by decide +kernel), z_gwi 494 (rfl) (rfl), by decide +kernel, by decide +kernel, by decide +kernel⟩
set_option maxRecDepth 20000 in
theorem wc_M_nearest : z_ws y_M_nearest b_M_nearest 1 (some .int) 1 := ⟨z_gwi 647 (by decide +kernel) (by decide +kernel), z_gwi 65 (by decide +kernel) (by decide +kernel), z_gwi 648 (rfl) (rfl), by decide +kernel, by decide +kernel, by decide +kernel⟩
set_option maxRecDepth 20000 in
theorem wc_M_thrown : z_wv y_M_thrown b_M_thrown 1 (some .int) 0 := ⟨z_gwi 732 (by decide +kernel) (by decide +kernel), z_gwi 733 (by decide +kernel) (by decide +kernel), z_gwi 65 (by decide +kernel) (by decide +kernel), z_gwi 734 (rfl) (rfl), by decide +kernel, by decide +kernel, by decide +kernel⟩
set_option maxRecDepth 20000 in
theorem wc_M_in : z_ws y_M_in b_M_in 3 (some .boolean) 3 := ⟨z_gwi 744 (by decide +kernel) (by decide +kernel), z_gwi 65 (by decide +kernel) (by decide +kernel), z_gwi 745 (rfl) (rfl), by decide +kernel, by decide +kernel, by decide +kernel⟩
set_option maxRecDepth 20000 in
theorem wc_M_isSample : z_wv y_M_isSample b_M_isSample 3 (some .boolean) 2 := ⟨z_gwi 741 (by decide +kernel) (by decide +kernel), z_gwi 33 (by decide +kernel) (by decide +kernel), z_gwi 65 (by decide +kernel) (by decide +kernel), z_gwi 742 (rfl) (rfl), by decide +kernel, by decide +kernel, by decide +kernel⟩
set_option maxRecDepth 20000 in
theorem wc_M_goes : z_wv y_M_goes b_M_goes 4 (some .boolean) 3 := ⟨z_gwi 748 (by decide +kernel) (by decide +kernel), z_gwi 34 (by decide +kernel) (by decide +kernel), z_gwi 65 (by decide +kernel) (by decide +kernel), z_gwi 749 (rfl) (rfl), by decide +kernel, by decide +kernel, by decide +kernel⟩
set_option maxRecDepth 20000 in
theorem wc_M_put : z_wv y_M_put b_M_put 6 (some .boolean) 3 := ⟨z_gwi 736 (by decide +kernel) (by decide +kernel), z_gwi 737 (by decide +kernel) (by decide +kernel), z_gwi 65 (by decide +kernel) (by decide +kernel), z_gwi 738 (rfl) (rfl), by decide +kernel, by decide +kernel, by decide +kernel⟩
set_option maxRecDepth 20000 in
theorem wc_M_fill : z_wv y_M_fill b_M_fill 9 (some .int) 5 := ⟨z_gwi 751 (by decide +kernel) (by decide +kernel), z_gwi 752 (by decide +kernel) (by decide +kernel), z_gwi 65 (by decide +kernel) (by decide +kernel), z_gwi 753 (rfl) (rfl), by decide +kernel, by decide +kernel, by decide +kernel⟩
set_option maxRecDepth 20000 in
theorem wc_M_noise : z_wv y_M_noise b_M_noise 3 (some .int) 1 := ⟨z_gwi 755 (by decide +kernel) (by decide +kernel), z_gwi 756 (by decide +kernel) (by decide +kernel), z_gwi 65 (by decide +kernel) (by decide +kernel), z_gwi 757 (rfl) (rfl), by decide +kernel, by decide +kernel, by decide +kernel⟩
set_option maxRecDepth 20000 in
theorem wc_M_clear : z_wv y_M_clear b_M_clear 2 none 0 := ⟨z_gwi 759 (by decide +kernel) (by decide +kernel), z_gwi 760 (by decide +kernel) (by decide +kernel), z_gwi 65 (by decide +kernel) (by decide +kernel), z_gwi 761 (rfl) (rfl), by decide +kernel, by decide +kernel, by decide +kernel⟩
set_option maxRecDepth 20000 in
theorem wc_M_is : z_wv y_M_is b_M_is 3 (some .boolean) 2 := ⟨z_gwi 776 (by decide +kernel) (by decide +kernel), z_gwi 37 (by decide +kernel) (by decide +kernel), z_gwi 65 (by decide +kernel) (by decide +kernel), z_gwi 777 (rfl) (rfl), by decide +kernel, by decide +kernel, by decide +kernel⟩
set_option maxRecDepth 20000 in
theorem wc_M_group : z_wv y_M_group b_M_group 7 none 2 := ⟨z_gwi 772 (by decide +kernel) (by decide +kernel), z_gwi 36 (by decide +kernel) (by decide +kernel), z_gwi 65 (by decide +kernel) (by decide +kernel), z_gwi 773 (rfl) (rfl), by decide +kernel, by decide +kernel, by decide +kernel⟩
set_option maxRecDepth 20000 in
theorem wc_M_settles : z_wv y_M_settles b_M_settles 10 (some .boolean) 3 := ⟨z_gwi 780 (by decide +kernel) (by decide +kernel), z_gwi 38 (by decide +kernel) (by decide +kernel), z_gwi 65 (by decide +kernel) (by decide +kernel), z_gwi 781 (rfl) (rfl), by decide +kernel, by decide +kernel, by decide +kernel⟩
set_option maxRecDepth 20000 in
theorem wc_M_sizeOf : z_wv y_M_sizeOf b_M_sizeOf 5 (some .int) 1 := ⟨z_gwi 784 (by decide +kernel) (by decide +kernel), z_gwi 39 (by decide +kernel) (by decide +kernel), z_gwi 65 (by decide +kernel) (by decide +kernel), z_gwi 785 (rfl) (rfl), by decide +kernel, by decide +kernel, by decide +kernel⟩
set_option maxRecDepth 20000 in
theorem wc_M_inGap : z_wv y_M_inGap b_M_inGap 9 (some .boolean) 5 := ⟨z_gwi 788 (by decide +kernel) (by decide +kernel), z_gwi 40 (by decide +kernel) (by decide +kernel), z_gwi 65 (by decide +kernel) (by decide +kernel), z_gwi 789 (rfl) (rfl), by decide +kernel, by decide +kernel, by decide +kernel⟩
set_option maxRecDepth 20000 in
theorem wc_M_takeInk : z_wv y_M_takeInk b_M_takeInk 6 none 2 := ⟨z_gwi 768 (by decide +kernel) (by decide +kernel), z_gwi 35 (by decide +kernel) (by decide +kernel), z_gwi 65 (by decide +kernel) (by decide +kernel), z_gwi 769 (rfl) (rfl), by decide +kernel, by decide +kernel, by decide +kernel⟩
set_option maxRecDepth 20000 in
theorem wc_M_cleanIn : z_wv y_M_cleanIn b_M_cleanIn 10 (some .int) 5 := ⟨z_gwi 800 (by decide +kernel) (by decide +kernel), z_gwi 43 (by decide +kernel) (by decide +kernel), z_gwi 65 (by decide +kernel) (by decide +kernel), z_gwi 801 (rfl) (rfl), by decide +kernel, by decide +kernel, by decide +kernel⟩
set_option maxRecDepth 20000 in
theorem wc_M_takeParts : z_wv y_M_takeParts b_M_takeParts 5 none 0 := ⟨z_gwi 792 (by decide +kernel) (by decide +kernel), z_gwi 41 (by decide +kernel) (by decide +kernel), z_gwi 65 (by decide +kernel) (by decide +kernel), z_gwi 793 (rfl) (rfl), by decide +kernel, by decide +kernel, by decide +kernel⟩
set_option maxRecDepth 20000 in
theorem wc_M_kindOf : z_wv y_M_kindOf b_M_kindOf 9 (some .int) 4 := ⟨z_gwi 796 (by decide +kernel) (by decide +kernel), z_gwi 42 (by decide +kernel) (by decide +kernel), z_gwi 65 (by decide +kernel) (by decide +kernel), z_gwi 797 (rfl) (rfl), by decide +kernel, by decide +kernel, by decide +kernel⟩
set_option maxRecDepth 20000 in
theorem wc_M_takeCover : z_wv y_M_takeCover b_M_takeCover 8 (some .boolean) 0 := ⟨z_gwi 808 (by decide +kernel) (by decide +kernel), z_gwi 45 (by decide +kernel) (by decide +kernel), z_gwi 65 (by decide +kernel) (by decide +kernel), z_gwi 809 (rfl) (rfl), by decide +kernel, by decide +kernel, by decide +kernel⟩
set_option maxRecDepth 20000 in
theorem wc_M_takeCovers : z_wv y_M_takeCovers b_M_takeCovers 2 none 0 := ⟨z_gwi 804 (by decide +kernel) (by decide +kernel), z_gwi 44 (by decide +kernel) (by decide +kernel), z_gwi 65 (by decide +kernel) (by decide +kernel), z_gwi 805 (rfl) (rfl), by decide +kernel, by decide +kernel, by decide +kernel⟩
set_option maxRecDepth 20000 in
theorem wc_M_takeStrips : z_wv y_M_takeStrips b_M_takeStrips 4 none 0 := ⟨z_gwi 812 (by decide +kernel) (by decide +kernel), z_gwi 46 (by decide +kernel) (by decide +kernel), z_gwi 65 (by decide +kernel) (by decide +kernel), z_gwi 813 (rfl) (rfl), by decide +kernel, by decide +kernel, by decide +kernel⟩
set_option maxRecDepth 20000 in
theorem wc_M_takeCells : z_wv y_M_takeCells b_M_takeCells 4 none 0 := ⟨z_gwi 816 (by decide +kernel) (by decide +kernel), z_gwi 47 (by decide +kernel) (by decide +kernel), z_gwi 65 (by decide +kernel) (by decide +kernel), z_gwi 817 (rfl) (rfl), by decide +kernel, by decide +kernel, by decide +kernel⟩
set_option maxRecDepth 20000 in
theorem wc_M_isClosed : z_wv y_M_isClosed b_M_isClosed 6 (some .boolean) 1 := ⟨z_gwi 820 (by decide +kernel) (by decide +kernel), z_gwi 48 (by decide +kernel) (by decide +kernel), z_gwi 65 (by decide +kernel) (by decide +kernel), z_gwi 821 (rfl) (rfl), by decide +kernel, by decide +kernel, by decide +kernel⟩
set_option maxRecDepth 20000 in
theorem wc_M_low : z_wv y_M_low b_M_low 3 (some .int) 2 := ⟨z_gwi 836 (by decide +kernel) (by decide +kernel), z_gwi 52 (by decide +kernel) (by decide +kernel), z_gwi 65 (by decide +kernel) (by decide +kernel), z_gwi 837 (rfl) (rfl), by decide +kernel, by decide +kernel, by decide +kernel⟩
set_option maxRecDepth 20000 in
theorem wc_M_high : z_wv y_M_high b_M_high 3 (some .int) 2 := ⟨z_gwi 840 (by decide +kernel) (by decide +kernel), z_gwi 53 (by decide +kernel) (by decide +kernel), z_gwi 65 (by decide +kernel) (by decide +kernel), z_gwi 841 (rfl) (rfl), by decide +kernel, by decide +kernel, by decide +kernel⟩
set_option maxRecDepth 20000 in
theorem wc_M_gap : z_wv y_M_gap b_M_gap 11 (some .int) 4 := ⟨z_gwi 832 (by decide +kernel) (by decide +kernel), z_gwi 51 (by decide +kernel) (by decide +kernel), z_gwi 65 (by decide +kernel) (by decide +kernel), z_gwi 833 (rfl) (rfl), by decide +kernel, by decide +kernel, by decide +kernel⟩
set_option maxRecDepth 20000 in
theorem wc_M_swap : z_wv y_M_swap b_M_swap 4 none 2 := ⟨z_gwi 844 (by decide +kernel) (by decide +kernel), z_gwi 54 (by decide +kernel) (by decide +kernel), z_gwi 65 (by decide +kernel) (by decide +kernel), z_gwi 845 (rfl) (rfl), by decide +kernel, by decide +kernel, by decide +kernel⟩
set_option maxRecDepth 20000 in
theorem wc_M_isBefore : z_wv y_M_isBefore b_M_isBefore 3 (some .boolean) 2 := ⟨z_gwi 852 (by decide +kernel) (by decide +kernel), z_gwi 56 (by decide +kernel) (by decide +kernel), z_gwi 65 (by decide +kernel) (by decide +kernel), z_gwi 853 (rfl) (rfl), by decide +kernel, by decide +kernel, by decide +kernel⟩
set_option maxRecDepth 20000 in
theorem wc_M_sort : z_wv y_M_sort b_M_sort 5 none 2 := ⟨z_gwi 848 (by decide +kernel) (by decide +kernel), z_gwi 55 (by decide +kernel) (by decide +kernel), z_gwi 65 (by decide +kernel) (by decide +kernel), z_gwi 849 (rfl) (rfl), by decide +kernel, by decide +kernel, by decide +kernel⟩
set_option maxRecDepth 20000 in
theorem wc_M_parts : z_wv y_M_parts b_M_parts 9 (some .int) 2 := ⟨z_gwi 828 (by decide +kernel) (by decide +kernel), z_gwi 50 (by decide +kernel) (by decide +kernel), z_gwi 65 (by decide +kernel) (by decide +kernel), z_gwi 829 (rfl) (rfl), by decide +kernel, by decide +kernel, by decide +kernel⟩
set_option maxRecDepth 20000 in
theorem wc_M_takeOrder : z_wv y_M_takeOrder b_M_takeOrder 5 none 0 := ⟨z_gwi 824 (by decide +kernel) (by decide +kernel), z_gwi 49 (by decide +kernel) (by decide +kernel), z_gwi 65 (by decide +kernel) (by decide +kernel), z_gwi 825 (rfl) (rfl), by decide +kernel, by decide +kernel, by decide +kernel⟩
set_option maxRecDepth 20000 in
theorem wc_M_run : z_wv y_M_run b_M_run 3 (some .int) 2 := ⟨z_gwi 763 (by decide +kernel) (by decide +kernel), z_gwi 764 (by decide +kernel) (by decide +kernel), z_gwi 65 (by decide +kernel) (by decide +kernel), z_gwi 765 (rfl) (rfl), by decide +kernel, by decide +kernel, by decide +kernel⟩
set_option maxRecDepth 20000 in
theorem wc_M_lines : z_wv y_M_lines b_M_lines 6 (some .int) 1 := ⟨z_gwi 860 (by decide +kernel) (by decide +kernel), z_gwi 57 (by decide +kernel) (by decide +kernel), z_gwi 65 (by decide +kernel) (by decide +kernel), z_gwi 861 (rfl) (rfl), by decide +kernel, by decide +kernel, by decide +kernel⟩
set_option maxRecDepth 20000 in
theorem wc_M_inkOf : z_wv y_M_inkOf b_M_inkOf 5 (some .int) 1 := ⟨z_gwi 864 (by decide +kernel) (by decide +kernel), z_gwi 58 (by decide +kernel) (by decide +kernel), z_gwi 65 (by decide +kernel) (by decide +kernel), z_gwi 865 (rfl) (rfl), by decide +kernel, by decide +kernel, by decide +kernel⟩
set_option maxRecDepth 20000 in
theorem wc_M_part : z_wv y_M_part b_M_part 3 (some .int) 2 := ⟨z_gwi 855 (by decide +kernel) (by decide +kernel), z_gwi 856 (by decide +kernel) (by decide +kernel), z_gwi 65 (by decide +kernel) (by decide +kernel), z_gwi 857 (rfl) (rfl), by decide +kernel, by decide +kernel, by decide +kernel⟩
set_option maxRecDepth 20000 in
theorem wc_M_partOf : z_wv y_M_partOf b_M_partOf 3 (some .int) 2 := ⟨z_gwi 867 (by decide +kernel) (by decide +kernel), z_gwi 868 (by decide +kernel) (by decide +kernel), z_gwi 65 (by decide +kernel) (by decide +kernel), z_gwi 869 (rfl) (rfl), by decide +kernel, by decide +kernel, by decide +kernel⟩
set_option maxRecDepth 20000 in
theorem wc_M_line : z_wv y_M_line b_M_line 8 (some .int) 3 := ⟨z_gwi 871 (by decide +kernel) (by decide +kernel), z_gwi 872 (by decide +kernel) (by decide +kernel), z_gwi 65 (by decide +kernel) (by decide +kernel), z_gwi 873 (rfl) (rfl), by decide +kernel, by decide +kernel, by decide +kernel⟩
set_option maxRecDepth 20000 in
theorem wc_M_order : z_wv y_M_order b_M_order 2 (some .int) 1 := ⟨z_gwi 875 (by decide +kernel) (by decide +kernel), z_gwi 876 (by decide +kernel) (by decide +kernel), z_gwi 65 (by decide +kernel) (by decide +kernel), z_gwi 877 (rfl) (rfl), by decide +kernel, by decide +kernel, by decide +kernel⟩
set_option maxRecDepth 20000 in
theorem wc_M_cover : z_wv y_M_cover b_M_cover 3 (some .int) 2 := ⟨z_gwi 879 (by decide +kernel) (by decide +kernel), z_gwi 880 (by decide +kernel) (by decide +kernel), z_gwi 65 (by decide +kernel) (by decide +kernel), z_gwi 881 (rfl) (rfl), by decide +kernel, by decide +kernel, by decide +kernel⟩
set_option maxRecDepth 20000 in
theorem wc_M_strip : z_wv y_M_strip b_M_strip 2 (some .int) 1 := ⟨z_gwi 883 (by decide +kernel) (by decide +kernel), z_gwi 884 (by decide +kernel) (by decide +kernel), z_gwi 65 (by decide +kernel) (by decide +kernel), z_gwi 885 (rfl) (rfl), by decide +kernel, by decide +kernel, by decide +kernel⟩
set_option maxRecDepth 20000 in
theorem wc_M_cell : z_wv y_M_cell b_M_cell 10 (some .int) 2 := ⟨z_gwi 887 (by decide +kernel) (by decide +kernel), z_gwi 888 (by decide +kernel) (by decide +kernel), z_gwi 65 (by decide +kernel) (by decide +kernel), z_gwi 889 (rfl) (rfl), by decide +kernel, by decide +kernel, by decide +kernel⟩
set_option maxRecDepth 20000 in
theorem wc_M_isSpeck : z_wv y_M_isSpeck b_M_isSpeck 3 (some .boolean) 2 := ⟨z_gwi 891 (by decide +kernel) (by decide +kernel), z_gwi 892 (by decide +kernel) (by decide +kernel), z_gwi 65 (by decide +kernel) (by decide +kernel), z_gwi 893 (rfl) (rfl), by decide +kernel, by decide +kernel, by decide +kernel⟩
set_option maxRecDepth 20000 in
theorem wc_M_told : z_wv y_M_told b_M_told 6 (some .int) 1 := ⟨z_gwi 895 (by decide +kernel) (by decide +kernel), z_gwi 896 (by decide +kernel) (by decide +kernel), z_gwi 65 (by decide +kernel) (by decide +kernel), z_gwi 897 (rfl) (rfl), by decide +kernel, by decide +kernel, by decide +kernel⟩
set_option maxRecDepth 20000 in
theorem wc_A_fill : z_ws y_A_fill b_A_fill 4 none 2 := ⟨z_gwi 401 (by decide +kernel) (by decide +kernel), z_gwi 71 (by decide +kernel) (by decide +kernel), z_gwi 402 (rfl) (rfl), by decide +kernel, by decide +kernel, by decide +kernel⟩

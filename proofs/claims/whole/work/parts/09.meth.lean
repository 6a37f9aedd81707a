theorem mc_X_init : MC M_X_init 0 := ⟨rfl, List.mem_of_getElem? (i := 72) (by decide +kernel), List.mem_of_getElem? (i := 53) (by decide +kernel), List.mem_of_getElem? (i := 73) (by decide +kernel), ⟨by decide, by decide⟩, by decide +kernel⟩
theorem mc_T_init : MC M_T_init 0 := ⟨rfl, List.mem_of_getElem? (i := 80) (by decide +kernel), List.mem_of_getElem? (i := 54) (by decide +kernel), List.mem_of_getElem? (i := 81) (by decide +kernel), ⟨by decide, by decide⟩, by decide +kernel⟩
theorem mc_R_init : MC M_R_init 0 := ⟨rfl, List.mem_of_getElem? (i := 102) (by decide +kernel), List.mem_of_getElem? (i := 55) (by decide +kernel), List.mem_of_getElem? (i := 103) (by decide +kernel), ⟨by decide, by decide⟩, by decide +kernel⟩
theorem mc_P_init : MC M_P_init 0 := ⟨rfl, List.mem_of_getElem? (i := 109) (by decide +kernel), List.mem_of_getElem? (i := 56) (by decide +kernel), List.mem_of_getElem? (i := 110) (by decide +kernel), ⟨by decide, by decide⟩, by decide +kernel⟩
theorem mc_L_init : MC M_L_init 1 := ⟨rfl, List.mem_of_getElem? (i := 116) (by decide +kernel), List.mem_of_getElem? (i := 57) (by decide +kernel), List.mem_of_getElem? (i := 117) (by decide +kernel), ⟨by decide, by decide⟩, by decide +kernel⟩
theorem mc_S_init : MC M_S_init 2 := ⟨rfl, List.mem_of_getElem? (i := 181) (by decide +kernel), List.mem_of_getElem? (i := 58) (by decide +kernel), List.mem_of_getElem? (i := 182) (by decide +kernel), ⟨by decide, by decide⟩, by decide +kernel⟩
theorem mc_B_init : MC M_B_init 0 := ⟨rfl, List.mem_of_getElem? (i := 187) (by decide +kernel), List.mem_of_getElem? (i := 59) (by decide +kernel), List.mem_of_getElem? (i := 188) (by decide +kernel), ⟨by decide, by decide⟩, by decide +kernel⟩
theorem mv_X_feed : MV M_X_feed 6 5 := ⟨⟨by decide, rfl⟩, List.mem_of_getElem? (i := 246) (by decide +kernel), List.mem_of_getElem? (i := 247) (by decide +kernel), List.mem_of_getElem? (i := 53) (by decide +kernel), List.mem_of_getElem? (i := 248) (by decide +kernel), ⟨by decide, by decide⟩, by decide +kernel⟩
theorem mv_T_byteCount : MV M_T_byteCount 5 0 := ⟨⟨by decide, rfl⟩, List.mem_of_getElem? (i := 250) (by decide +kernel), List.mem_of_getElem? (i := 251) (by decide +kernel), List.mem_of_getElem? (i := 54) (by decide +kernel), List.mem_of_getElem? (i := 252) (by decide +kernel), ⟨by decide, by decide⟩, by decide +kernel⟩
theorem mv_T_cut : MV M_T_cut 5 1 := ⟨⟨by decide, rfl⟩, List.mem_of_getElem? (i := 254) (by decide +kernel), List.mem_of_getElem? (i := 255) (by decide +kernel), List.mem_of_getElem? (i := 54) (by decide +kernel), List.mem_of_getElem? (i := 256) (by decide +kernel), ⟨by decide, by decide⟩, by decide +kernel⟩
theorem mv_T_append : MV M_T_append 5 2 := ⟨⟨by decide, rfl⟩, List.mem_of_getElem? (i := 259) (by decide +kernel), List.mem_of_getElem? (i := 260) (by decide +kernel), List.mem_of_getElem? (i := 54) (by decide +kernel), List.mem_of_getElem? (i := 261) (by decide +kernel), ⟨by decide, by decide⟩, by decide +kernel⟩
theorem mv_T_appendBit : MV M_T_appendBit 5 1 := ⟨⟨by decide, rfl⟩, List.mem_of_getElem? (i := 264) (by decide +kernel), List.mem_of_getElem? (i := 0) (by decide +kernel), List.mem_of_getElem? (i := 54) (by decide +kernel), List.mem_of_getElem? (i := 265) (by decide +kernel), ⟨by decide, by decide⟩, by decide +kernel⟩
theorem mv_X_end : MV M_X_end 6 1 := ⟨⟨by decide, rfl⟩, List.mem_of_getElem? (i := 267) (by decide +kernel), List.mem_of_getElem? (i := 268) (by decide +kernel), List.mem_of_getElem? (i := 53) (by decide +kernel), List.mem_of_getElem? (i := 269) (by decide +kernel), ⟨by decide, by decide⟩, by decide +kernel⟩
theorem mv_X_bits : MV M_X_bits 6 2 := ⟨⟨by decide, rfl⟩, List.mem_of_getElem? (i := 271) (by decide +kernel), List.mem_of_getElem? (i := 272) (by decide +kernel), List.mem_of_getElem? (i := 53) (by decide +kernel), List.mem_of_getElem? (i := 273) (by decide +kernel), ⟨by decide, by decide⟩, by decide +kernel⟩
theorem mv_X_read : MV M_X_read 6 0 := ⟨⟨by decide, rfl⟩, List.mem_of_getElem? (i := 275) (by decide +kernel), List.mem_of_getElem? (i := 276) (by decide +kernel), List.mem_of_getElem? (i := 53) (by decide +kernel), List.mem_of_getElem? (i := 277) (by decide +kernel), ⟨by decide, by decide⟩, by decide +kernel⟩
theorem mv_R_clear : MV M_R_clear 3 0 := ⟨⟨by decide, rfl⟩, List.mem_of_getElem? (i := 280) (by decide +kernel), List.mem_of_getElem? (i := 281) (by decide +kernel), List.mem_of_getElem? (i := 55) (by decide +kernel), List.mem_of_getElem? (i := 282) (by decide +kernel), ⟨by decide, by decide⟩, by decide +kernel⟩
theorem ms_J_fill : MS M_J_fill 2 := ⟨List.mem_of_getElem? (i := 284) (by decide +kernel), List.mem_of_getElem? (i := 61) (by decide +kernel), List.mem_of_getElem? (i := 285) (by decide +kernel), ⟨by decide, by decide⟩, by decide +kernel⟩
theorem mv_T_rewind : MV M_T_rewind 5 0 := ⟨⟨by decide, rfl⟩, List.mem_of_getElem? (i := 287) (by decide +kernel), List.mem_of_getElem? (i := 288) (by decide +kernel), List.mem_of_getElem? (i := 54) (by decide +kernel), List.mem_of_getElem? (i := 289) (by decide +kernel), ⟨by decide, by decide⟩, by decide +kernel⟩
theorem mv_S_readSize : MV M_S_readSize 4 0 := ⟨⟨by decide, rfl⟩, List.mem_of_getElem? (i := 292) (by decide +kernel), List.mem_of_getElem? (i := 293) (by decide +kernel), List.mem_of_getElem? (i := 58) (by decide +kernel), List.mem_of_getElem? (i := 294) (by decide +kernel), ⟨by decide, by decide⟩, by decide +kernel⟩
theorem mv_T_expect : MV M_T_expect 5 2 := ⟨⟨by decide, rfl⟩, List.mem_of_getElem? (i := 296) (by decide +kernel), List.mem_of_getElem? (i := 297) (by decide +kernel), List.mem_of_getElem? (i := 54) (by decide +kernel), List.mem_of_getElem? (i := 298) (by decide +kernel), ⟨by decide, by decide⟩, by decide +kernel⟩
theorem mv_T_next : MV M_T_next 5 0 := ⟨⟨by decide, rfl⟩, List.mem_of_getElem? (i := 300) (by decide +kernel), List.mem_of_getElem? (i := 301) (by decide +kernel), List.mem_of_getElem? (i := 54) (by decide +kernel), List.mem_of_getElem? (i := 302) (by decide +kernel), ⟨by decide, by decide⟩, by decide +kernel⟩
theorem mv_T_failAt : MV M_T_failAt 5 1 := ⟨⟨by decide, rfl⟩, List.mem_of_getElem? (i := 366) (by decide +kernel), List.mem_of_getElem? (i := 367) (by decide +kernel), List.mem_of_getElem? (i := 54) (by decide +kernel), List.mem_of_getElem? (i := 368) (by decide +kernel), ⟨by decide, by decide⟩, by decide +kernel⟩
theorem mv_T_number : MV M_T_number 5 1 := ⟨⟨by decide, rfl⟩, List.mem_of_getElem? (i := 370) (by decide +kernel), List.mem_of_getElem? (i := 371) (by decide +kernel), List.mem_of_getElem? (i := 54) (by decide +kernel), List.mem_of_getElem? (i := 372) (by decide +kernel), ⟨by decide, by decide⟩, by decide +kernel⟩
theorem mv_R_setSize : MV M_R_setSize 3 2 := ⟨⟨by decide, rfl⟩, List.mem_of_getElem? (i := 374) (by decide +kernel), List.mem_of_getElem? (i := 375) (by decide +kernel), List.mem_of_getElem? (i := 55) (by decide +kernel), List.mem_of_getElem? (i := 376) (by decide +kernel), ⟨by decide, by decide⟩, by decide +kernel⟩
theorem mv_T_align : MV M_T_align 5 0 := ⟨⟨by decide, rfl⟩, List.mem_of_getElem? (i := 378) (by decide +kernel), List.mem_of_getElem? (i := 379) (by decide +kernel), List.mem_of_getElem? (i := 54) (by decide +kernel), List.mem_of_getElem? (i := 380) (by decide +kernel), ⟨by decide, by decide⟩, by decide +kernel⟩
theorem mv_S_pictureComes : MV M_S_pictureComes 4 0 := ⟨⟨by decide, rfl⟩, List.mem_of_getElem? (i := 383) (by decide +kernel), List.mem_of_getElem? (i := 384) (by decide +kernel), List.mem_of_getElem? (i := 58) (by decide +kernel), List.mem_of_getElem? (i := 385) (by decide +kernel), ⟨by decide, by decide⟩, by decide +kernel⟩
theorem mv_S_readPicture : MV M_S_readPicture 4 1 := ⟨⟨by decide, rfl⟩, List.mem_of_getElem? (i := 388) (by decide +kernel), List.mem_of_getElem? (i := 389) (by decide +kernel), List.mem_of_getElem? (i := 58) (by decide +kernel), List.mem_of_getElem? (i := 390) (by decide +kernel), ⟨by decide, by decide⟩, by decide +kernel⟩
theorem mv_S_readHead : MV M_S_readHead 4 0 := ⟨⟨by decide, rfl⟩, List.mem_of_getElem? (i := 393) (by decide +kernel), List.mem_of_getElem? (i := 2) (by decide +kernel), List.mem_of_getElem? (i := 58) (by decide +kernel), List.mem_of_getElem? (i := 394) (by decide +kernel), ⟨by decide, by decide⟩, by decide +kernel⟩
theorem mv_T_nonZero : MV M_T_nonZero 5 1 := ⟨⟨by decide, rfl⟩, List.mem_of_getElem? (i := 396) (by decide +kernel), List.mem_of_getElem? (i := 397) (by decide +kernel), List.mem_of_getElem? (i := 54) (by decide +kernel), List.mem_of_getElem? (i := 398) (by decide +kernel), ⟨by decide, by decide⟩, by decide +kernel⟩
theorem mv_R_begin : MV M_R_begin 3 2 := ⟨⟨by decide, rfl⟩, List.mem_of_getElem? (i := 402) (by decide +kernel), List.mem_of_getElem? (i := 403) (by decide +kernel), List.mem_of_getElem? (i := 55) (by decide +kernel), List.mem_of_getElem? (i := 404) (by decide +kernel), ⟨by decide, by decide⟩, by decide +kernel⟩
theorem mv_P_resize : MV M_P_resize 1 2 := ⟨⟨by decide, rfl⟩, List.mem_of_getElem? (i := 406) (by decide +kernel), List.mem_of_getElem? (i := 407) (by decide +kernel), List.mem_of_getElem? (i := 56) (by decide +kernel), List.mem_of_getElem? (i := 408) (by decide +kernel), ⟨by decide, by decide⟩, by decide +kernel⟩
theorem mv_L_resize : MV M_L_resize 2 2 := ⟨⟨by decide, rfl⟩, List.mem_of_getElem? (i := 410) (by decide +kernel), List.mem_of_getElem? (i := 411) (by decide +kernel), List.mem_of_getElem? (i := 57) (by decide +kernel), List.mem_of_getElem? (i := 412) (by decide +kernel), ⟨by decide, by decide⟩, by decide +kernel⟩
theorem mv_S_passOver : MV M_S_passOver 4 2 := ⟨⟨by decide, rfl⟩, List.mem_of_getElem? (i := 415) (by decide +kernel), List.mem_of_getElem? (i := 3) (by decide +kernel), List.mem_of_getElem? (i := 58) (by decide +kernel), List.mem_of_getElem? (i := 416) (by decide +kernel), ⟨by decide, by decide⟩, by decide +kernel⟩
theorem mv_S_mostPassedInB : MV M_S_mostPassedInB 4 1 := ⟨⟨by decide, rfl⟩, List.mem_of_getElem? (i := 419) (by decide +kernel), List.mem_of_getElem? (i := 4) (by decide +kernel), List.mem_of_getElem? (i := 58) (by decide +kernel), List.mem_of_getElem? (i := 420) (by decide +kernel), ⟨by decide, by decide⟩, by decide +kernel⟩
theorem mv_T_unsigned : MV M_T_unsigned 5 1 := ⟨⟨by decide, rfl⟩, List.mem_of_getElem? (i := 422) (by decide +kernel), List.mem_of_getElem? (i := 423) (by decide +kernel), List.mem_of_getElem? (i := 54) (by decide +kernel), List.mem_of_getElem? (i := 424) (by decide +kernel), ⟨by decide, by decide⟩, by decide +kernel⟩
theorem mv_S_foretellSquare : MV M_S_foretellSquare 4 2 := ⟨⟨by decide, rfl⟩, List.mem_of_getElem? (i := 427) (by decide +kernel), List.mem_of_getElem? (i := 5) (by decide +kernel), List.mem_of_getElem? (i := 58) (by decide +kernel), List.mem_of_getElem? (i := 428) (by decide +kernel), ⟨by decide, by decide⟩, by decide +kernel⟩
theorem mv_S_forgetDcs : MV M_S_forgetDcs 4 0 := ⟨⟨by decide, rfl⟩, List.mem_of_getElem? (i := 431) (by decide +kernel), List.mem_of_getElem? (i := 6) (by decide +kernel), List.mem_of_getElem? (i := 58) (by decide +kernel), List.mem_of_getElem? (i := 432) (by decide +kernel), ⟨by decide, by decide⟩, by decide +kernel⟩
theorem mv_S_forgetVectors : MV M_S_forgetVectors 4 0 := ⟨⟨by decide, rfl⟩, List.mem_of_getElem? (i := 436) (by decide +kernel), List.mem_of_getElem? (i := 7) (by decide +kernel), List.mem_of_getElem? (i := 58) (by decide +kernel), List.mem_of_getElem? (i := 437) (by decide +kernel), ⟨by decide, by decide⟩, by decide +kernel⟩
theorem mv_L_foretell : MV M_L_foretell 2 5 := ⟨⟨by decide, rfl⟩, List.mem_of_getElem? (i := 439) (by decide +kernel), List.mem_of_getElem? (i := 440) (by decide +kernel), List.mem_of_getElem? (i := 57) (by decide +kernel), List.mem_of_getElem? (i := 441) (by decide +kernel), ⟨by decide, by decide⟩, by decide +kernel⟩
theorem mv_L_foretellLine : MV M_L_foretellLine 2 5 := ⟨⟨by decide, rfl⟩, List.mem_of_getElem? (i := 447) (by decide +kernel), List.mem_of_getElem? (i := 8) (by decide +kernel), List.mem_of_getElem? (i := 57) (by decide +kernel), List.mem_of_getElem? (i := 448) (by decide +kernel), ⟨by decide, by decide⟩, by decide +kernel⟩
theorem ms_X_held : MS M_X_held 3 := ⟨List.mem_of_getElem? (i := 450) (by decide +kernel), List.mem_of_getElem? (i := 53) (by decide +kernel), List.mem_of_getElem? (i := 451) (by decide +kernel), ⟨by decide, by decide⟩, by decide +kernel⟩
theorem mv_S_readSquare : MV M_S_readSquare 4 1 := ⟨⟨by decide, rfl⟩, List.mem_of_getElem? (i := 454) (by decide +kernel), List.mem_of_getElem? (i := 9) (by decide +kernel), List.mem_of_getElem? (i := 58) (by decide +kernel), List.mem_of_getElem? (i := 455) (by decide +kernel), ⟨by decide, by decide⟩, by decide +kernel⟩
theorem mv_S_readWays : MV M_S_readWays 4 0 := ⟨⟨by decide, rfl⟩, List.mem_of_getElem? (i := 458) (by decide +kernel), List.mem_of_getElem? (i := 10) (by decide +kernel), List.mem_of_getElem? (i := 58) (by decide +kernel), List.mem_of_getElem? (i := 459) (by decide +kernel), ⟨by decide, by decide⟩, by decide +kernel⟩
theorem mv_S_readVector : MV M_S_readVector 4 1 := ⟨⟨by decide, rfl⟩, List.mem_of_getElem? (i := 462) (by decide +kernel), List.mem_of_getElem? (i := 11) (by decide +kernel), List.mem_of_getElem? (i := 58) (by decide +kernel), List.mem_of_getElem? (i := 463) (by decide +kernel), ⟨by decide, by decide⟩, by decide +kernel⟩
theorem mv_T_signed : MV M_T_signed 5 2 := ⟨⟨by decide, rfl⟩, List.mem_of_getElem? (i := 465) (by decide +kernel), List.mem_of_getElem? (i := 466) (by decide +kernel), List.mem_of_getElem? (i := 54) (by decide +kernel), List.mem_of_getElem? (i := 467) (by decide +kernel), ⟨by decide, by decide⟩, by decide +kernel⟩
theorem mv_S_readBlock : MV M_S_readBlock 4 2 := ⟨⟨by decide, rfl⟩, List.mem_of_getElem? (i := 472) (by decide +kernel), List.mem_of_getElem? (i := 12) (by decide +kernel), List.mem_of_getElem? (i := 58) (by decide +kernel), List.mem_of_getElem? (i := 473) (by decide +kernel), ⟨by decide, by decide⟩, by decide +kernel⟩
theorem mv_B_clear : MV M_B_clear 0 0 := ⟨⟨by decide, rfl⟩, List.mem_of_getElem? (i := 475) (by decide +kernel), List.mem_of_getElem? (i := 476) (by decide +kernel), List.mem_of_getElem? (i := 59) (by decide +kernel), List.mem_of_getElem? (i := 477) (by decide +kernel), ⟨by decide, by decide⟩, by decide +kernel⟩
theorem mv_B_putDc : MV M_B_putDc 0 1 := ⟨⟨by decide, rfl⟩, List.mem_of_getElem? (i := 480) (by decide +kernel), List.mem_of_getElem? (i := 481) (by decide +kernel), List.mem_of_getElem? (i := 59) (by decide +kernel), List.mem_of_getElem? (i := 482) (by decide +kernel), ⟨by decide, by decide⟩, by decide +kernel⟩
theorem mv_B_put : MV M_B_put 0 2 := ⟨⟨by decide, rfl⟩, List.mem_of_getElem? (i := 485) (by decide +kernel), List.mem_of_getElem? (i := 13) (by decide +kernel), List.mem_of_getElem? (i := 59) (by decide +kernel), List.mem_of_getElem? (i := 486) (by decide +kernel), ⟨by decide, by decide⟩, by decide +kernel⟩
theorem mv_B_putLevel : MV M_B_putLevel 0 4 := ⟨⟨by decide, rfl⟩, List.mem_of_getElem? (i := 488) (by decide +kernel), List.mem_of_getElem? (i := 489) (by decide +kernel), List.mem_of_getElem? (i := 59) (by decide +kernel), List.mem_of_getElem? (i := 490) (by decide +kernel), ⟨by decide, by decide⟩, by decide +kernel⟩
theorem mv_S_drawBlock : MV M_S_drawBlock 4 3 := ⟨⟨by decide, rfl⟩, List.mem_of_getElem? (i := 499) (by decide +kernel), List.mem_of_getElem? (i := 14) (by decide +kernel), List.mem_of_getElem? (i := 58) (by decide +kernel), List.mem_of_getElem? (i := 500) (by decide +kernel), ⟨by decide, by decide⟩, by decide +kernel⟩
theorem mv_B_makeSums : MV M_B_makeSums 0 0 := ⟨⟨by decide, rfl⟩, List.mem_of_getElem? (i := 502) (by decide +kernel), List.mem_of_getElem? (i := 503) (by decide +kernel), List.mem_of_getElem? (i := 59) (by decide +kernel), List.mem_of_getElem? (i := 504) (by decide +kernel), ⟨by decide, by decide⟩, by decide +kernel⟩
theorem mv_B_addRow : MV M_B_addRow 0 1 := ⟨⟨by decide, rfl⟩, List.mem_of_getElem? (i := 507) (by decide +kernel), List.mem_of_getElem? (i := 15) (by decide +kernel), List.mem_of_getElem? (i := 59) (by decide +kernel), List.mem_of_getElem? (i := 508) (by decide +kernel), ⟨by decide, by decide⟩, by decide +kernel⟩
theorem mv_L_draw : MV M_L_draw 2 4 := ⟨⟨by decide, rfl⟩, List.mem_of_getElem? (i := 512) (by decide +kernel), List.mem_of_getElem? (i := 513) (by decide +kernel), List.mem_of_getElem? (i := 57) (by decide +kernel), List.mem_of_getElem? (i := 514) (by decide +kernel), ⟨by decide, by decide⟩, by decide +kernel⟩
theorem mv_R_takeWhole : MV M_R_takeWhole 3 0 := ⟨⟨by decide, rfl⟩, List.mem_of_getElem? (i := 516) (by decide +kernel), List.mem_of_getElem? (i := 517) (by decide +kernel), List.mem_of_getElem? (i := 55) (by decide +kernel), List.mem_of_getElem? (i := 518) (by decide +kernel), ⟨by decide, by decide⟩, by decide +kernel⟩
theorem mv_R_show : MV M_R_show 3 1 := ⟨⟨by decide, rfl⟩, List.mem_of_getElem? (i := 521) (by decide +kernel), List.mem_of_getElem? (i := 16) (by decide +kernel), List.mem_of_getElem? (i := 55) (by decide +kernel), List.mem_of_getElem? (i := 522) (by decide +kernel), ⟨by decide, by decide⟩, by decide +kernel⟩
theorem mv_P_copyFrom : MV M_P_copyFrom 1 1 := ⟨⟨by decide, rfl⟩, List.mem_of_getElem? (i := 524) (by decide +kernel), List.mem_of_getElem? (i := 525) (by decide +kernel), List.mem_of_getElem? (i := 56) (by decide +kernel), List.mem_of_getElem? (i := 526) (by decide +kernel), ⟨by decide, by decide⟩, by decide +kernel⟩
theorem mv_L_copyFrom : MV M_L_copyFrom 2 1 := ⟨⟨by decide, rfl⟩, List.mem_of_getElem? (i := 528) (by decide +kernel), List.mem_of_getElem? (i := 529) (by decide +kernel), List.mem_of_getElem? (i := 57) (by decide +kernel), List.mem_of_getElem? (i := 530) (by decide +kernel), ⟨by decide, by decide⟩, by decide +kernel⟩
theorem mv_R_finish : MV M_R_finish 3 0 := ⟨⟨by decide, rfl⟩, List.mem_of_getElem? (i := 534) (by decide +kernel), List.mem_of_getElem? (i := 535) (by decide +kernel), List.mem_of_getElem? (i := 55) (by decide +kernel), List.mem_of_getElem? (i := 536) (by decide +kernel), ⟨by decide, by decide⟩, by decide +kernel⟩
theorem mv_X_wrong : MV M_X_wrong 6 0 := ⟨⟨by decide, rfl⟩, List.mem_of_getElem? (i := 538) (by decide +kernel), List.mem_of_getElem? (i := 539) (by decide +kernel), List.mem_of_getElem? (i := 53) (by decide +kernel), List.mem_of_getElem? (i := 540) (by decide +kernel), ⟨by decide, by decide⟩, by decide +kernel⟩
theorem mv_X_dot : MV M_X_dot 6 4 := ⟨⟨by decide, rfl⟩, List.mem_of_getElem? (i := 542) (by decide +kernel), List.mem_of_getElem? (i := 543) (by decide +kernel), List.mem_of_getElem? (i := 53) (by decide +kernel), List.mem_of_getElem? (i := 544) (by decide +kernel), ⟨by decide, by decide⟩, by decide +kernel⟩
theorem mv_R_keptPlane : MV M_R_keptPlane 3 2 := ⟨⟨by decide, rfl⟩, List.mem_of_getElem? (i := 546) (by decide +kernel), List.mem_of_getElem? (i := 547) (by decide +kernel), List.mem_of_getElem? (i := 55) (by decide +kernel), List.mem_of_getElem? (i := 548) (by decide +kernel), ⟨by decide, by decide⟩, by decide +kernel⟩
theorem mv_R_keptPicture : MV M_R_keptPicture 3 1 := ⟨⟨by decide, rfl⟩, List.mem_of_getElem? (i := 550) (by decide +kernel), List.mem_of_getElem? (i := 551) (by decide +kernel), List.mem_of_getElem? (i := 55) (by decide +kernel), List.mem_of_getElem? (i := 552) (by decide +kernel), ⟨by decide, by decide⟩, by decide +kernel⟩
theorem mv_L_dotOrNone : MV M_L_dotOrNone 2 2 := ⟨⟨by decide, rfl⟩, List.mem_of_getElem? (i := 554) (by decide +kernel), List.mem_of_getElem? (i := 555) (by decide +kernel), List.mem_of_getElem? (i := 57) (by decide +kernel), List.mem_of_getElem? (i := 556) (by decide +kernel), ⟨by decide, by decide⟩, by decide +kernel⟩
theorem mv_X_sum : MV M_X_sum 6 2 := ⟨⟨by decide, rfl⟩, List.mem_of_getElem? (i := 558) (by decide +kernel), List.mem_of_getElem? (i := 559) (by decide +kernel), List.mem_of_getElem? (i := 53) (by decide +kernel), List.mem_of_getElem? (i := 560) (by decide +kernel), ⟨by decide, by decide⟩, by decide +kernel⟩
theorem mv_L_numberedTotal : MV M_L_numberedTotal 2 0 := ⟨⟨by decide, rfl⟩, List.mem_of_getElem? (i := 562) (by decide +kernel), List.mem_of_getElem? (i := 563) (by decide +kernel), List.mem_of_getElem? (i := 57) (by decide +kernel), List.mem_of_getElem? (i := 564) (by decide +kernel), ⟨by decide, by decide⟩, by decide +kernel⟩
theorem ms_W_look : MS M_W_look 3 := ⟨List.mem_of_getElem? (i := 566) (by decide +kernel), List.mem_of_getElem? (i := 52) (by decide +kernel), List.mem_of_getElem? (i := 567) (by decide +kernel), ⟨by decide, by decide⟩, by decide +kernel⟩
theorem mv_X_look : MV M_X_look 6 1 := ⟨⟨by decide, rfl⟩, List.mem_of_getElem? (i := 570) (by decide +kernel), List.mem_of_getElem? (i := 571) (by decide +kernel), List.mem_of_getElem? (i := 53) (by decide +kernel), List.mem_of_getElem? (i := 572) (by decide +kernel), ⟨by decide, by decide⟩, by decide +kernel⟩
theorem ms_W_shown : MS M_W_shown 4 := ⟨List.mem_of_getElem? (i := 589) (by decide +kernel), List.mem_of_getElem? (i := 52) (by decide +kernel), List.mem_of_getElem? (i := 590) (by decide +kernel), ⟨by decide, by decide⟩, by decide +kernel⟩
theorem mv_X_shown : MV M_X_shown 6 2 := ⟨⟨by decide, rfl⟩, List.mem_of_getElem? (i := 592) (by decide +kernel), List.mem_of_getElem? (i := 593) (by decide +kernel), List.mem_of_getElem? (i := 53) (by decide +kernel), List.mem_of_getElem? (i := 594) (by decide +kernel), ⟨by decide, by decide⟩, by decide +kernel⟩
theorem mv_M_thrown : MV M_M_thrown 7 0 := ⟨⟨by decide, rfl⟩, List.mem_of_getElem? (i := 597) (by decide +kernel), List.mem_of_getElem? (i := 598) (by decide +kernel), List.mem_of_getElem? (i := 60) (by decide +kernel), List.mem_of_getElem? (i := 599) (by decide +kernel), ⟨by decide, by decide⟩, by decide +kernel⟩
theorem mc_M_init : MC M_M_init 0 := ⟨rfl, List.mem_of_getElem? (i := 603) (by decide +kernel), List.mem_of_getElem? (i := 60) (by decide +kernel), List.mem_of_getElem? (i := 604) (by decide +kernel), ⟨by decide, by decide⟩, by decide +kernel⟩
theorem mv_M_feed : MV M_M_feed 7 5 := ⟨⟨by decide, rfl⟩, List.mem_of_getElem? (i := 738) (by decide +kernel), List.mem_of_getElem? (i := 739) (by decide +kernel), List.mem_of_getElem? (i := 60) (by decide +kernel), List.mem_of_getElem? (i := 740) (by decide +kernel), ⟨by decide, by decide⟩, by decide +kernel⟩
theorem mv_M_taped : MV M_M_taped 7 0 := ⟨⟨by decide, rfl⟩, List.mem_of_getElem? (i := 743) (by decide +kernel), List.mem_of_getElem? (i := 17) (by decide +kernel), List.mem_of_getElem? (i := 60) (by decide +kernel), List.mem_of_getElem? (i := 744) (by decide +kernel), ⟨by decide, by decide⟩, by decide +kernel⟩
theorem mv_M_end : MV M_M_end 7 1 := ⟨⟨by decide, rfl⟩, List.mem_of_getElem? (i := 746) (by decide +kernel), List.mem_of_getElem? (i := 747) (by decide +kernel), List.mem_of_getElem? (i := 60) (by decide +kernel), List.mem_of_getElem? (i := 748) (by decide +kernel), ⟨by decide, by decide⟩, by decide +kernel⟩
theorem mv_M_bits : MV M_M_bits 7 2 := ⟨⟨by decide, rfl⟩, List.mem_of_getElem? (i := 750) (by decide +kernel), List.mem_of_getElem? (i := 751) (by decide +kernel), List.mem_of_getElem? (i := 60) (by decide +kernel), List.mem_of_getElem? (i := 752) (by decide +kernel), ⟨by decide, by decide⟩, by decide +kernel⟩
theorem mv_M_read : MV M_M_read 7 0 := ⟨⟨by decide, rfl⟩, List.mem_of_getElem? (i := 754) (by decide +kernel), List.mem_of_getElem? (i := 755) (by decide +kernel), List.mem_of_getElem? (i := 60) (by decide +kernel), List.mem_of_getElem? (i := 756) (by decide +kernel), ⟨by decide, by decide⟩, by decide +kernel⟩
theorem mv_M_stream : MV M_M_stream 7 0 := ⟨⟨by decide, rfl⟩, List.mem_of_getElem? (i := 759) (by decide +kernel), List.mem_of_getElem? (i := 18) (by decide +kernel), List.mem_of_getElem? (i := 60) (by decide +kernel), List.mem_of_getElem? (i := 760) (by decide +kernel), ⟨by decide, by decide⟩, by decide +kernel⟩
theorem mv_M_isFirst : MV M_M_isFirst 7 3 := ⟨⟨by decide, rfl⟩, List.mem_of_getElem? (i := 763) (by decide +kernel), List.mem_of_getElem? (i := 19) (by decide +kernel), List.mem_of_getElem? (i := 60) (by decide +kernel), List.mem_of_getElem? (i := 764) (by decide +kernel), ⟨by decide, by decide⟩, by decide +kernel⟩
theorem mv_M_bit : MV M_M_bit 7 0 := ⟨⟨by decide, rfl⟩, List.mem_of_getElem? (i := 767) (by decide +kernel), List.mem_of_getElem? (i := 20) (by decide +kernel), List.mem_of_getElem? (i := 60) (by decide +kernel), List.mem_of_getElem? (i := 768) (by decide +kernel), ⟨by decide, by decide⟩, by decide +kernel⟩
theorem mv_M_isWrong : MV M_M_isWrong 7 1 := ⟨⟨by decide, rfl⟩, List.mem_of_getElem? (i := 771) (by decide +kernel), List.mem_of_getElem? (i := 21) (by decide +kernel), List.mem_of_getElem? (i := 60) (by decide +kernel), List.mem_of_getElem? (i := 772) (by decide +kernel), ⟨by decide, by decide⟩, by decide +kernel⟩
theorem mv_M_number : MV M_M_number 7 1 := ⟨⟨by decide, rfl⟩, List.mem_of_getElem? (i := 775) (by decide +kernel), List.mem_of_getElem? (i := 22) (by decide +kernel), List.mem_of_getElem? (i := 60) (by decide +kernel), List.mem_of_getElem? (i := 776) (by decide +kernel), ⟨by decide, by decide⟩, by decide +kernel⟩
theorem mv_M_align : MV M_M_align 7 0 := ⟨⟨by decide, rfl⟩, List.mem_of_getElem? (i := 779) (by decide +kernel), List.mem_of_getElem? (i := 23) (by decide +kernel), List.mem_of_getElem? (i := 60) (by decide +kernel), List.mem_of_getElem? (i := 780) (by decide +kernel), ⟨by decide, by decide⟩, by decide +kernel⟩
theorem mv_M_picture : MV M_M_picture 7 0 := ⟨⟨by decide, rfl⟩, List.mem_of_getElem? (i := 783) (by decide +kernel), List.mem_of_getElem? (i := 24) (by decide +kernel), List.mem_of_getElem? (i := 60) (by decide +kernel), List.mem_of_getElem? (i := 784) (by decide +kernel), ⟨by decide, by decide⟩, by decide +kernel⟩
theorem mv_M_numberAbove : MV M_M_numberAbove 7 1 := ⟨⟨by decide, rfl⟩, List.mem_of_getElem? (i := 787) (by decide +kernel), List.mem_of_getElem? (i := 25) (by decide +kernel), List.mem_of_getElem? (i := 60) (by decide +kernel), List.mem_of_getElem? (i := 788) (by decide +kernel), ⟨by decide, by decide⟩, by decide +kernel⟩
theorem mv_M_allSquares : MV M_M_allSquares 7 0 := ⟨⟨by decide, rfl⟩, List.mem_of_getElem? (i := 791) (by decide +kernel), List.mem_of_getElem? (i := 26) (by decide +kernel), List.mem_of_getElem? (i := 60) (by decide +kernel), List.mem_of_getElem? (i := 792) (by decide +kernel), ⟨by decide, by decide⟩, by decide +kernel⟩
theorem mv_M_readU : MV M_M_readU 7 0 := ⟨⟨by decide, rfl⟩, List.mem_of_getElem? (i := 795) (by decide +kernel), List.mem_of_getElem? (i := 27) (by decide +kernel), List.mem_of_getElem? (i := 60) (by decide +kernel), List.mem_of_getElem? (i := 796) (by decide +kernel), ⟨by decide, by decide⟩, by decide +kernel⟩
theorem mv_M_passes : MV M_M_passes 7 3 := ⟨⟨by decide, rfl⟩, List.mem_of_getElem? (i := 799) (by decide +kernel), List.mem_of_getElem? (i := 28) (by decide +kernel), List.mem_of_getElem? (i := 60) (by decide +kernel), List.mem_of_getElem? (i := 800) (by decide +kernel), ⟨by decide, by decide⟩, by decide +kernel⟩
theorem mv_M_begins : MV M_M_begins 7 0 := ⟨⟨by decide, rfl⟩, List.mem_of_getElem? (i := 803) (by decide +kernel), List.mem_of_getElem? (i := 29) (by decide +kernel), List.mem_of_getElem? (i := 60) (by decide +kernel), List.mem_of_getElem? (i := 804) (by decide +kernel), ⟨by decide, by decide⟩, by decide +kernel⟩
theorem mv_M_resetDcs : MV M_M_resetDcs 7 0 := ⟨⟨by decide, rfl⟩, List.mem_of_getElem? (i := 807) (by decide +kernel), List.mem_of_getElem? (i := 30) (by decide +kernel), List.mem_of_getElem? (i := 60) (by decide +kernel), List.mem_of_getElem? (i := 808) (by decide +kernel), ⟨by decide, by decide⟩, by decide +kernel⟩
theorem mv_M_resetVectors : MV M_M_resetVectors 7 0 := ⟨⟨by decide, rfl⟩, List.mem_of_getElem? (i := 811) (by decide +kernel), List.mem_of_getElem? (i := 31) (by decide +kernel), List.mem_of_getElem? (i := 60) (by decide +kernel), List.mem_of_getElem? (i := 812) (by decide +kernel), ⟨by decide, by decide⟩, by decide +kernel⟩
theorem mv_M_foretells : MV M_M_foretells 7 1 := ⟨⟨by decide, rfl⟩, List.mem_of_getElem? (i := 815) (by decide +kernel), List.mem_of_getElem? (i := 32) (by decide +kernel), List.mem_of_getElem? (i := 60) (by decide +kernel), List.mem_of_getElem? (i := 816) (by decide +kernel), ⟨by decide, by decide⟩, by decide +kernel⟩
theorem mv_M_planeAt : MV M_M_planeAt 7 1 := ⟨⟨by decide, rfl⟩, List.mem_of_getElem? (i := 819) (by decide +kernel), List.mem_of_getElem? (i := 33) (by decide +kernel), List.mem_of_getElem? (i := 60) (by decide +kernel), List.mem_of_getElem? (i := 820) (by decide +kernel), ⟨by decide, by decide⟩, by decide +kernel⟩
theorem mv_M_planeWidth : MV M_M_planeWidth 7 1 := ⟨⟨by decide, rfl⟩, List.mem_of_getElem? (i := 823) (by decide +kernel), List.mem_of_getElem? (i := 34) (by decide +kernel), List.mem_of_getElem? (i := 60) (by decide +kernel), List.mem_of_getElem? (i := 824) (by decide +kernel), ⟨by decide, by decide⟩, by decide +kernel⟩
theorem mv_M_foretoldDot : MV M_M_foretoldDot 7 3 := ⟨⟨by decide, rfl⟩, List.mem_of_getElem? (i := 827) (by decide +kernel), List.mem_of_getElem? (i := 35) (by decide +kernel), List.mem_of_getElem? (i := 60) (by decide +kernel), List.mem_of_getElem? (i := 828) (by decide +kernel), ⟨by decide, by decide⟩, by decide +kernel⟩
theorem mv_M_forward : MV M_M_forward 7 0 := ⟨⟨by decide, rfl⟩, List.mem_of_getElem? (i := 831) (by decide +kernel), List.mem_of_getElem? (i := 36) (by decide +kernel), List.mem_of_getElem? (i := 60) (by decide +kernel), List.mem_of_getElem? (i := 832) (by decide +kernel), ⟨by decide, by decide⟩, by decide +kernel⟩
theorem mv_M_moved : MV M_M_moved 7 5 := ⟨⟨by decide, rfl⟩, List.mem_of_getElem? (i := 835) (by decide +kernel), List.mem_of_getElem? (i := 37) (by decide +kernel), List.mem_of_getElem? (i := 60) (by decide +kernel), List.mem_of_getElem? (i := 836) (by decide +kernel), ⟨by decide, by decide⟩, by decide +kernel⟩
theorem mv_M_between : MV M_M_between 7 4 := ⟨⟨by decide, rfl⟩, List.mem_of_getElem? (i := 839) (by decide +kernel), List.mem_of_getElem? (i := 38) (by decide +kernel), List.mem_of_getElem? (i := 60) (by decide +kernel), List.mem_of_getElem? (i := 840) (by decide +kernel), ⟨by decide, by decide⟩, by decide +kernel⟩
theorem mv_M_dotOf : MV M_M_dotOf 7 4 := ⟨⟨by decide, rfl⟩, List.mem_of_getElem? (i := 843) (by decide +kernel), List.mem_of_getElem? (i := 39) (by decide +kernel), List.mem_of_getElem? (i := 60) (by decide +kernel), List.mem_of_getElem? (i := 844) (by decide +kernel), ⟨by decide, by decide⟩, by decide +kernel⟩
theorem mv_M_planeHeight : MV M_M_planeHeight 7 1 := ⟨⟨by decide, rfl⟩, List.mem_of_getElem? (i := 847) (by decide +kernel), List.mem_of_getElem? (i := 40) (by decide +kernel), List.mem_of_getElem? (i := 60) (by decide +kernel), List.mem_of_getElem? (i := 848) (by decide +kernel), ⟨by decide, by decide⟩, by decide +kernel⟩
theorem mv_M_square : MV M_M_square 7 1 := ⟨⟨by decide, rfl⟩, List.mem_of_getElem? (i := 851) (by decide +kernel), List.mem_of_getElem? (i := 41) (by decide +kernel), List.mem_of_getElem? (i := 60) (by decide +kernel), List.mem_of_getElem? (i := 852) (by decide +kernel), ⟨by decide, by decide⟩, by decide +kernel⟩
theorem mv_M_vector : MV M_M_vector 7 1 := ⟨⟨by decide, rfl⟩, List.mem_of_getElem? (i := 855) (by decide +kernel), List.mem_of_getElem? (i := 42) (by decide +kernel), List.mem_of_getElem? (i := 60) (by decide +kernel), List.mem_of_getElem? (i := 856) (by decide +kernel), ⟨by decide, by decide⟩, by decide +kernel⟩
theorem mv_M_readS : MV M_M_readS 7 0 := ⟨⟨by decide, rfl⟩, List.mem_of_getElem? (i := 859) (by decide +kernel), List.mem_of_getElem? (i := 43) (by decide +kernel), List.mem_of_getElem? (i := 60) (by decide +kernel), List.mem_of_getElem? (i := 860) (by decide +kernel), ⟨by decide, by decide⟩, by decide +kernel⟩
theorem mv_M_allBlocks : MV M_M_allBlocks 7 2 := ⟨⟨by decide, rfl⟩, List.mem_of_getElem? (i := 863) (by decide +kernel), List.mem_of_getElem? (i := 44) (by decide +kernel), List.mem_of_getElem? (i := 60) (by decide +kernel), List.mem_of_getElem? (i := 864) (by decide +kernel), ⟨by decide, by decide⟩, by decide +kernel⟩
theorem mv_M_block : MV M_M_block 7 1 := ⟨⟨by decide, rfl⟩, List.mem_of_getElem? (i := 867) (by decide +kernel), List.mem_of_getElem? (i := 45) (by decide +kernel), List.mem_of_getElem? (i := 60) (by decide +kernel), List.mem_of_getElem? (i := 868) (by decide +kernel), ⟨by decide, by decide⟩, by decide +kernel⟩
theorem mv_M_factor : MV M_M_factor 7 2 := ⟨⟨by decide, rfl⟩, List.mem_of_getElem? (i := 871) (by decide +kernel), List.mem_of_getElem? (i := 46) (by decide +kernel), List.mem_of_getElem? (i := 60) (by decide +kernel), List.mem_of_getElem? (i := 872) (by decide +kernel), ⟨by decide, by decide⟩, by decide +kernel⟩
theorem ms_M_held : MS M_M_held 3 := ⟨List.mem_of_getElem? (i := 874) (by decide +kernel), List.mem_of_getElem? (i := 60) (by decide +kernel), List.mem_of_getElem? (i := 875) (by decide +kernel), ⟨by decide, by decide⟩, by decide +kernel⟩
theorem mv_M_sums : MV M_M_sums 7 3 := ⟨⟨by decide, rfl⟩, List.mem_of_getElem? (i := 878) (by decide +kernel), List.mem_of_getElem? (i := 47) (by decide +kernel), List.mem_of_getElem? (i := 60) (by decide +kernel), List.mem_of_getElem? (i := 879) (by decide +kernel), ⟨by decide, by decide⟩, by decide +kernel⟩
theorem ms_M_wave : MS M_M_wave 2 := ⟨List.mem_of_getElem? (i := 881) (by decide +kernel), List.mem_of_getElem? (i := 60) (by decide +kernel), List.mem_of_getElem? (i := 882) (by decide +kernel), ⟨by decide, by decide⟩, by decide +kernel⟩
theorem mv_M_lands : MV M_M_lands 7 1 := ⟨⟨by decide, rfl⟩, List.mem_of_getElem? (i := 887) (by decide +kernel), List.mem_of_getElem? (i := 48) (by decide +kernel), List.mem_of_getElem? (i := 60) (by decide +kernel), List.mem_of_getElem? (i := 888) (by decide +kernel), ⟨by decide, by decide⟩, by decide +kernel⟩
theorem mv_M_shows : MV M_M_shows 7 5 := ⟨⟨by decide, rfl⟩, List.mem_of_getElem? (i := 891) (by decide +kernel), List.mem_of_getElem? (i := 49) (by decide +kernel), List.mem_of_getElem? (i := 60) (by decide +kernel), List.mem_of_getElem? (i := 892) (by decide +kernel), ⟨by decide, by decide⟩, by decide +kernel⟩
theorem mv_M_wrong : MV M_M_wrong 7 0 := ⟨⟨by decide, rfl⟩, List.mem_of_getElem? (i := 894) (by decide +kernel), List.mem_of_getElem? (i := 895) (by decide +kernel), List.mem_of_getElem? (i := 60) (by decide +kernel), List.mem_of_getElem? (i := 896) (by decide +kernel), ⟨by decide, by decide⟩, by decide +kernel⟩
theorem mv_M_look : MV M_M_look 7 1 := ⟨⟨by decide, rfl⟩, List.mem_of_getElem? (i := 898) (by decide +kernel), List.mem_of_getElem? (i := 899) (by decide +kernel), List.mem_of_getElem? (i := 60) (by decide +kernel), List.mem_of_getElem? (i := 900) (by decide +kernel), ⟨by decide, by decide⟩, by decide +kernel⟩
theorem mv_M_shown : MV M_M_shown 7 2 := ⟨⟨by decide, rfl⟩, List.mem_of_getElem? (i := 902) (by decide +kernel), List.mem_of_getElem? (i := 903) (by decide +kernel), List.mem_of_getElem? (i := 60) (by decide +kernel), List.mem_of_getElem? (i := 904) (by decide +kernel), ⟨by decide, by decide⟩, by decide +kernel⟩
theorem mv_M_noPicture : MV M_M_noPicture 7 1 := ⟨⟨by decide, rfl⟩, List.mem_of_getElem? (i := 907) (by decide +kernel), List.mem_of_getElem? (i := 50) (by decide +kernel), List.mem_of_getElem? (i := 60) (by decide +kernel), List.mem_of_getElem? (i := 908) (by decide +kernel), ⟨by decide, by decide⟩, by decide +kernel⟩
theorem mv_M_dot : MV M_M_dot 7 4 := ⟨⟨by decide, rfl⟩, List.mem_of_getElem? (i := 910) (by decide +kernel), List.mem_of_getElem? (i := 911) (by decide +kernel), List.mem_of_getElem? (i := 60) (by decide +kernel), List.mem_of_getElem? (i := 912) (by decide +kernel), ⟨by decide, by decide⟩, by decide +kernel⟩
theorem mv_M_noPlane : MV M_M_noPlane 7 2 := ⟨⟨by decide, rfl⟩, List.mem_of_getElem? (i := 915) (by decide +kernel), List.mem_of_getElem? (i := 51) (by decide +kernel), List.mem_of_getElem? (i := 60) (by decide +kernel), List.mem_of_getElem? (i := 916) (by decide +kernel), ⟨by decide, by decide⟩, by decide +kernel⟩
theorem mv_M_sum : MV M_M_sum 7 2 := ⟨⟨by decide, rfl⟩, List.mem_of_getElem? (i := 918) (by decide +kernel), List.mem_of_getElem? (i := 919) (by decide +kernel), List.mem_of_getElem? (i := 60) (by decide +kernel), List.mem_of_getElem? (i := 920) (by decide +kernel), ⟨by decide, by decide⟩, by decide +kernel⟩
theorem w_obj1 : Cond.instanceMethod Lib.objectInit ∈ lw_tbl := List.mem_of_getElem? (i := 75) (by decide +kernel)
theorem w_obj2 : Cond.code Lib.objectInit ⟨#[0xb1]⟩ 1 none ∈ lw_tbl := List.mem_of_getElem? (i := 76) (by decide +kernel)
theorem w_min1 : Cond.static Lib.Math.min.name ∈ lw_tbl := List.mem_of_getElem? (i := 494) (by decide +kernel)
theorem w_min2 : Cond.initialized "java/lang/Math" ∈ lw_tbl := List.mem_of_getElem? (i := 67) (by decide +kernel)
theorem w_min3 : Cond.code Lib.Math.min.name Lib.Math.min.code 2 (some .int) ∈ lw_tbl := List.mem_of_getElem? (i := 495) (by decide +kernel)
theorem w_cp1 : Cond.native arraycopyName ∈ lw_tbl := List.mem_of_getElem? (i := 444) (by decide +kernel)
theorem w_cp2 : Cond.static arraycopyName ∈ lw_tbl := List.mem_of_getElem? (i := 443) (by decide +kernel)
theorem w_cp3 : Cond.initialized "java/lang/System" ∈ lw_tbl := List.mem_of_getElem? (i := 66) (by decide +kernel)
theorem w_aint : Cond.arrayClass .int ∈ lw_tbl := List.mem_of_getElem? (i := 132) (by decide +kernel)
theorem w_abyte : Cond.arrayClass .byte ∈ lw_tbl := List.mem_of_getElem? (i := 98) (by decide +kernel)
theorem w_along : Cond.arrayClass .long ∈ lw_tbl := List.mem_of_getElem? (i := 921) (by decide +kernel)
theorem w_over1 : Cond.arrayOver (.object (cnm 1)) ∈ lw_tbl := List.mem_of_getElem? (i := 106) (by decide +kernel)
theorem w_over2 : Cond.arrayOver (.object (cnm 2)) ∈ lw_tbl := List.mem_of_getElem? (i := 113) (by decide +kernel)
theorem w_castISE : Cond.castable "java/lang/IllegalStateException" "java/lang/IllegalStateException" ∈ lw_tbl := List.mem_of_getElem? (i := 305) (by decide +kernel)
theorem w_iniISE : Cond.initialized "java/lang/IllegalStateException" ∈ lw_tbl := List.mem_of_getElem? (i := 65) (by decide +kernel)
theorem w_castNSE : Cond.castable "java/util/NoSuchElementException" "java/util/NoSuchElementException" ∈ lw_tbl := List.mem_of_getElem? (i := 575) (by decide +kernel)
theorem w_iniNSE : Cond.initialized "java/util/NoSuchElementException" ∈ lw_tbl := List.mem_of_getElem? (i := 68) (by decide +kernel)
theorem lX_1 : Cond.methodLink (cnm 6) 1 Lib.objectInit ∈ lw_tbl := List.mem_of_getElem? (i := 74) (by decide +kernel)
theorem lX_25 : Cond.methodLink (cnm 6) 25 (iY M_S_init) ∈ lw_tbl := List.mem_of_getElem? (i := 180) (by decide +kernel)
theorem lX_32 : Cond.methodLink (cnm 6) 32 (iY M_T_byteCount) ∈ lw_tbl := List.mem_of_getElem? (i := 249) (by decide +kernel)
theorem lX_36 : Cond.methodLink (cnm 6) 36 (iY M_T_cut) ∈ lw_tbl := List.mem_of_getElem? (i := 253) (by decide +kernel)
theorem lX_40 : Cond.methodLink (cnm 6) 40 (iY M_T_append) ∈ lw_tbl := List.mem_of_getElem? (i := 258) (by decide +kernel)
theorem lX_44 : Cond.methodLink (cnm 6) 44 (iY M_R_clear) ∈ lw_tbl := List.mem_of_getElem? (i := 279) (by decide +kernel)
theorem lX_47 : Cond.methodLink (cnm 6) 47 (iY M_T_rewind) ∈ lw_tbl := List.mem_of_getElem? (i := 286) (by decide +kernel)
theorem lX_50 : Cond.methodLink (cnm 6) 50 (iY M_S_readSize) ∈ lw_tbl := List.mem_of_getElem? (i := 291) (by decide +kernel)
theorem lX_53 : Cond.methodLink (cnm 6) 53 (iY M_S_pictureComes) ∈ lw_tbl := List.mem_of_getElem? (i := 382) (by decide +kernel)
theorem lX_57 : Cond.methodLink (cnm 6) 57 (iY M_S_readPicture) ∈ lw_tbl := List.mem_of_getElem? (i := 387) (by decide +kernel)
theorem lX_63 : Cond.methodLink (cnm 6) 63 (iY M_R_finish) ∈ lw_tbl := List.mem_of_getElem? (i := 533) (by decide +kernel)
theorem lX_77 : Cond.methodLink (cnm 6) 77 (iY M_R_keptPicture) ∈ lw_tbl := List.mem_of_getElem? (i := 595) (by decide +kernel)
theorem lX_86 : Cond.methodLink (cnm 6) 86 (iY M_R_keptPlane) ∈ lw_tbl := List.mem_of_getElem? (i := 545) (by decide +kernel)
theorem lX_90 : Cond.methodLink (cnm 6) 90 (iY M_L_dotOrNone) ∈ lw_tbl := List.mem_of_getElem? (i := 553) (by decide +kernel)
theorem lX_95 : Cond.methodLink (cnm 6) 95 (iY M_L_numberedTotal) ∈ lw_tbl := List.mem_of_getElem? (i := 561) (by decide +kernel)
theorem lB_1 : Cond.methodLink (cnm 0) 1 Lib.objectInit ∈ lw_tbl := List.mem_of_getElem? (i := 189) (by decide +kernel)
theorem lB_16 : Cond.methodLink (cnm 0) 16 (iY M_J_fill) ∈ lw_tbl := List.mem_of_getElem? (i := 478) (by decide +kernel)
theorem lB_29 : Cond.methodLink (cnm 0) 29 (iY M_B_put) ∈ lw_tbl := List.mem_of_getElem? (i := 483) (by decide +kernel)
theorem lB_36 : Cond.methodLink (cnm 0) 36 Lib.Math.min.name ∈ lw_tbl := List.mem_of_getElem? (i := 493) (by decide +kernel)
theorem lB_48 : Cond.methodLink (cnm 0) 48 (iY M_B_addRow) ∈ lw_tbl := List.mem_of_getElem? (i := 505) (by decide +kernel)
theorem lP_1 : Cond.methodLink (cnm 1) 1 Lib.objectInit ∈ lw_tbl := List.mem_of_getElem? (i := 111) (by decide +kernel)
theorem lP_9 : Cond.methodLink (cnm 1) 9 (iY M_L_init) ∈ lw_tbl := List.mem_of_getElem? (i := 115) (by decide +kernel)
theorem lP_22 : Cond.methodLink (cnm 1) 22 (iY M_L_resize) ∈ lw_tbl := List.mem_of_getElem? (i := 409) (by decide +kernel)
theorem lP_26 : Cond.methodLink (cnm 1) 26 (iY M_L_copyFrom) ∈ lw_tbl := List.mem_of_getElem? (i := 527) (by decide +kernel)
theorem lP_30 : Cond.methodLink (cnm 1) 30 arraycopyName ∈ lw_tbl := List.mem_of_getElem? (i := 531) (by decide +kernel)
theorem lL_3 : Cond.methodLink (cnm 2) 3 Lib.objectInit ∈ lw_tbl := List.mem_of_getElem? (i := 118) (by decide +kernel)
theorem lL_25 : Cond.methodLink (cnm 2) 25 arraycopyName ∈ lw_tbl := List.mem_of_getElem? (i := 442) (by decide +kernel)
theorem lL_31 : Cond.methodLink (cnm 2) 31 (iY M_L_foretellLine) ∈ lw_tbl := List.mem_of_getElem? (i := 445) (by decide +kernel)
theorem lR_3 : Cond.methodLink (cnm 3) 3 Lib.objectInit ∈ lw_tbl := List.mem_of_getElem? (i := 104) (by decide +kernel)
theorem lR_39 : Cond.methodLink (cnm 3) 39 (iY M_J_fill) ∈ lw_tbl := List.mem_of_getElem? (i := 283) (by decide +kernel)
theorem lR_48 : Cond.methodLink (cnm 3) 48 (iY M_P_resize) ∈ lw_tbl := List.mem_of_getElem? (i := 405) (by decide +kernel)
theorem lR_55 : Cond.methodLink (cnm 3) 55 (iY M_R_show) ∈ lw_tbl := List.mem_of_getElem? (i := 519) (by decide +kernel)
theorem lR_59 : Cond.methodLink (cnm 3) 59 Lib.Math.min.name ∈ lw_tbl := List.mem_of_getElem? (i := 532) (by decide +kernel)
theorem lR_65 : Cond.methodLink (cnm 3) 65 (iY M_P_copyFrom) ∈ lw_tbl := List.mem_of_getElem? (i := 523) (by decide +kernel)
theorem lR_68 : Cond.methodLink (cnm 3) 68 (iY M_R_keptPicture) ∈ lw_tbl := List.mem_of_getElem? (i := 549) (by decide +kernel)
theorem lS_3 : Cond.methodLink (cnm 4) 3 Lib.objectInit ∈ lw_tbl := List.mem_of_getElem? (i := 183) (by decide +kernel)
theorem lS_36 : Cond.methodLink (cnm 4) 36 (iY M_T_expect) ∈ lw_tbl := List.mem_of_getElem? (i := 295) (by decide +kernel)
theorem lS_42 : Cond.methodLink (cnm 4) 42 (iY M_T_number) ∈ lw_tbl := List.mem_of_getElem? (i := 369) (by decide +kernel)
theorem lS_46 : Cond.methodLink (cnm 4) 46 (iY M_R_setSize) ∈ lw_tbl := List.mem_of_getElem? (i := 373) (by decide +kernel)
theorem lS_51 : Cond.methodLink (cnm 4) 51 (iY M_T_align) ∈ lw_tbl := List.mem_of_getElem? (i := 377) (by decide +kernel)
theorem lS_54 : Cond.methodLink (cnm 4) 54 (iY M_T_next) ∈ lw_tbl := List.mem_of_getElem? (i := 386) (by decide +kernel)
theorem lS_58 : Cond.methodLink (cnm 4) 58 (iY M_S_readHead) ∈ lw_tbl := List.mem_of_getElem? (i := 391) (by decide +kernel)
theorem lS_65 : Cond.methodLink (cnm 4) 65 (iY M_R_begin) ∈ lw_tbl := List.mem_of_getElem? (i := 401) (by decide +kernel)
theorem lS_74 : Cond.methodLink (cnm 4) 74 (iY M_S_passOver) ∈ lw_tbl := List.mem_of_getElem? (i := 413) (by decide +kernel)
theorem lS_78 : Cond.methodLink (cnm 4) 78 (iY M_S_readSquare) ∈ lw_tbl := List.mem_of_getElem? (i := 452) (by decide +kernel)
theorem lS_82 : Cond.methodLink (cnm 4) 82 (iY M_R_takeWhole) ∈ lw_tbl := List.mem_of_getElem? (i := 515) (by decide +kernel)
theorem lS_88 : Cond.methodLink (cnm 4) 88 (iY M_T_nonZero) ∈ lw_tbl := List.mem_of_getElem? (i := 395) (by decide +kernel)
theorem lS_94 : Cond.methodLink (cnm 4) 94 (iY M_T_failAt) ∈ lw_tbl := List.mem_of_getElem? (i := 400) (by decide +kernel)
theorem lS_103 : Cond.methodLink (cnm 4) 103 (iY M_S_mostPassedInB) ∈ lw_tbl := List.mem_of_getElem? (i := 417) (by decide +kernel)
theorem lS_106 : Cond.methodLink (cnm 4) 106 (iY M_T_unsigned) ∈ lw_tbl := List.mem_of_getElem? (i := 421) (by decide +kernel)
theorem lS_112 : Cond.methodLink (cnm 4) 112 (iY M_S_foretellSquare) ∈ lw_tbl := List.mem_of_getElem? (i := 425) (by decide +kernel)
theorem lS_127 : Cond.methodLink (cnm 4) 127 (iY M_S_forgetDcs) ∈ lw_tbl := List.mem_of_getElem? (i := 429) (by decide +kernel)
theorem lS_130 : Cond.methodLink (cnm 4) 130 (iY M_S_forgetVectors) ∈ lw_tbl := List.mem_of_getElem? (i := 434) (by decide +kernel)
theorem lS_133 : Cond.methodLink (cnm 4) 133 (iY M_S_readWays) ∈ lw_tbl := List.mem_of_getElem? (i := 456) (by decide +kernel)
theorem lS_136 : Cond.methodLink (cnm 4) 136 (iY M_S_readVector) ∈ lw_tbl := List.mem_of_getElem? (i := 460) (by decide +kernel)
theorem lS_140 : Cond.methodLink (cnm 4) 140 (iY M_S_readBlock) ∈ lw_tbl := List.mem_of_getElem? (i := 470) (by decide +kernel)
theorem lS_144 : Cond.methodLink (cnm 4) 144 (iY M_S_drawBlock) ∈ lw_tbl := List.mem_of_getElem? (i := 497) (by decide +kernel)
theorem lS_148 : Cond.methodLink (cnm 4) 148 (iY M_T_signed) ∈ lw_tbl := List.mem_of_getElem? (i := 464) (by decide +kernel)
theorem lS_161 : Cond.methodLink (cnm 4) 161 (iY M_L_foretell) ∈ lw_tbl := List.mem_of_getElem? (i := 438) (by decide +kernel)
theorem lS_167 : Cond.methodLink (cnm 4) 167 (iY M_J_fill) ∈ lw_tbl := List.mem_of_getElem? (i := 433) (by decide +kernel)
theorem lS_173 : Cond.methodLink (cnm 4) 173 (iY M_B_clear) ∈ lw_tbl := List.mem_of_getElem? (i := 474) (by decide +kernel)
theorem lS_176 : Cond.methodLink (cnm 4) 176 (iY M_B_putDc) ∈ lw_tbl := List.mem_of_getElem? (i := 479) (by decide +kernel)
theorem lS_179 : Cond.methodLink (cnm 4) 179 (iY M_B_putLevel) ∈ lw_tbl := List.mem_of_getElem? (i := 487) (by decide +kernel)
theorem lS_183 : Cond.methodLink (cnm 4) 183 (iY M_B_makeSums) ∈ lw_tbl := List.mem_of_getElem? (i := 501) (by decide +kernel)
theorem lS_189 : Cond.methodLink (cnm 4) 189 (iY M_L_draw) ∈ lw_tbl := List.mem_of_getElem? (i := 511) (by decide +kernel)
theorem lT_5 : Cond.methodLink (cnm 5) 5 Lib.objectInit ∈ lw_tbl := List.mem_of_getElem? (i := 82) (by decide +kernel)
theorem lT_22 : Cond.methodLink (cnm 5) 22 (iY M_T_byteCount) ∈ lw_tbl := List.mem_of_getElem? (i := 257) (by decide +kernel)
theorem lT_26 : Cond.methodLink (cnm 5) 26 (iY M_T_appendBit) ∈ lw_tbl := List.mem_of_getElem? (i := 262) (by decide +kernel)
theorem lT_30 : Cond.methodLink (cnm 5) 30 (iY M_T_cut) ∈ lw_tbl := List.mem_of_getElem? (i := 290) (by decide +kernel)
theorem lT_40 : Cond.methodLink (cnm 5) 40 (iY M_T_next) ∈ lw_tbl := List.mem_of_getElem? (i := 299) (by decide +kernel)
theorem lT_43 : Cond.methodLink (cnm 5) 43 (iY M_T_number) ∈ lw_tbl := List.mem_of_getElem? (i := 399) (by decide +kernel)
theorem lT_47 : Cond.methodLink (cnm 5) 47 (iY M_T_failAt) ∈ lw_tbl := List.mem_of_getElem? (i := 365) (by decide +kernel)
theorem lT_50 : Cond.methodLink (cnm 5) 50 (iY M_T_expect) ∈ lw_tbl := List.mem_of_getElem? (i := 381) (by decide +kernel)
theorem lT_55 : Cond.methodLink (cnm 5) 55 (iY M_T_unsigned) ∈ lw_tbl := List.mem_of_getElem? (i := 469) (by decide +kernel)
theorem lW_7 : Cond.methodLink (cnm 8) 7 (iY M_X_look) ∈ lw_tbl := List.mem_of_getElem? (i := 569) (by decide +kernel)
theorem lW_15 : Cond.methodLink (cnm 8) 15 (iY M_X_shown) ∈ lw_tbl := List.mem_of_getElem? (i := 591) (by decide +kernel)
theorem lW_19 : Cond.methodLink (cnm 8) 19 (iY M_X_init) ∈ lw_tbl := List.mem_of_getElem? (i := 71) (by decide +kernel)
theorem lW_22 : Cond.methodLink (cnm 8) 22 (iY M_M_init) ∈ lw_tbl := List.mem_of_getElem? (i := 602) (by decide +kernel)
theorem lW_23 : Cond.methodLink (cnm 8) 23 (iY M_X_feed) ∈ lw_tbl := List.mem_of_getElem? (i := 245) (by decide +kernel)
theorem lW_27 : Cond.methodLink (cnm 8) 27 (iY M_M_feed) ∈ lw_tbl := List.mem_of_getElem? (i := 737) (by decide +kernel)
theorem lW_28 : Cond.methodLink (cnm 8) 28 (iY M_X_end) ∈ lw_tbl := List.mem_of_getElem? (i := 266) (by decide +kernel)
theorem lW_32 : Cond.methodLink (cnm 8) 32 (iY M_M_end) ∈ lw_tbl := List.mem_of_getElem? (i := 745) (by decide +kernel)
theorem lW_33 : Cond.methodLink (cnm 8) 33 (iY M_X_bits) ∈ lw_tbl := List.mem_of_getElem? (i := 270) (by decide +kernel)
theorem lW_36 : Cond.methodLink (cnm 8) 36 (iY M_M_bits) ∈ lw_tbl := List.mem_of_getElem? (i := 749) (by decide +kernel)
theorem lW_37 : Cond.methodLink (cnm 8) 37 (iY M_X_read) ∈ lw_tbl := List.mem_of_getElem? (i := 274) (by decide +kernel)
theorem lW_41 : Cond.methodLink (cnm 8) 41 (iY M_M_read) ∈ lw_tbl := List.mem_of_getElem? (i := 753) (by decide +kernel)
theorem lW_42 : Cond.methodLink (cnm 8) 42 (iY M_X_wrong) ∈ lw_tbl := List.mem_of_getElem? (i := 537) (by decide +kernel)
theorem lW_45 : Cond.methodLink (cnm 8) 45 (iY M_M_wrong) ∈ lw_tbl := List.mem_of_getElem? (i := 893) (by decide +kernel)
theorem lW_46 : Cond.methodLink (cnm 8) 46 (iY M_W_look) ∈ lw_tbl := List.mem_of_getElem? (i := 565) (by decide +kernel)
theorem lW_51 : Cond.methodLink (cnm 8) 51 (iY M_M_look) ∈ lw_tbl := List.mem_of_getElem? (i := 897) (by decide +kernel)
theorem lW_52 : Cond.methodLink (cnm 8) 52 (iY M_M_thrown) ∈ lw_tbl := List.mem_of_getElem? (i := 596) (by decide +kernel)
theorem lW_55 : Cond.methodLink (cnm 8) 55 (iY M_W_shown) ∈ lw_tbl := List.mem_of_getElem? (i := 588) (by decide +kernel)
theorem lW_58 : Cond.methodLink (cnm 8) 58 (iY M_M_shown) ∈ lw_tbl := List.mem_of_getElem? (i := 901) (by decide +kernel)
theorem lW_59 : Cond.methodLink (cnm 8) 59 (iY M_X_dot) ∈ lw_tbl := List.mem_of_getElem? (i := 541) (by decide +kernel)
theorem lW_63 : Cond.methodLink (cnm 8) 63 (iY M_M_dot) ∈ lw_tbl := List.mem_of_getElem? (i := 909) (by decide +kernel)
theorem lW_64 : Cond.methodLink (cnm 8) 64 (iY M_X_sum) ∈ lw_tbl := List.mem_of_getElem? (i := 557) (by decide +kernel)
theorem lW_67 : Cond.methodLink (cnm 8) 67 (iY M_M_sum) ∈ lw_tbl := List.mem_of_getElem? (i := 917) (by decide +kernel)
theorem lM_16 : Cond.methodLink (cnm 7) 16 (iY M_M_isWrong) ∈ lw_tbl := List.mem_of_getElem? (i := 769) (by decide +kernel)
theorem lM_24 : Cond.methodLink (cnm 7) 24 (iY M_M_bit) ∈ lw_tbl := List.mem_of_getElem? (i := 765) (by decide +kernel)
theorem lM_28 : Cond.methodLink (cnm 7) 28 (iY M_M_number) ∈ lw_tbl := List.mem_of_getElem? (i := 773) (by decide +kernel)
theorem lM_32 : Cond.methodLink (cnm 7) 32 (iY M_M_readU) ∈ lw_tbl := List.mem_of_getElem? (i := 793) (by decide +kernel)
theorem lM_51 : Cond.methodLink (cnm 7) 51 (iY M_M_planeWidth) ∈ lw_tbl := List.mem_of_getElem? (i := 821) (by decide +kernel)
theorem lM_54 : Cond.methodLink (cnm 7) 54 (iY M_M_planeHeight) ∈ lw_tbl := List.mem_of_getElem? (i := 845) (by decide +kernel)
theorem lM_57 : Cond.methodLink (cnm 7) 57 (iY M_M_planeAt) ∈ lw_tbl := List.mem_of_getElem? (i := 817) (by decide +kernel)
theorem lM_60 : Cond.methodLink (cnm 7) 60 (iY M_M_dotOf) ∈ lw_tbl := List.mem_of_getElem? (i := 841) (by decide +kernel)
theorem lM_67 : Cond.methodLink (cnm 7) 67 (iY M_M_between) ∈ lw_tbl := List.mem_of_getElem? (i := 837) (by decide +kernel)
theorem lM_86 : Cond.methodLink (cnm 7) 86 (iY M_M_forward) ∈ lw_tbl := List.mem_of_getElem? (i := 829) (by decide +kernel)
theorem lM_90 : Cond.methodLink (cnm 7) 90 (iY M_M_moved) ∈ lw_tbl := List.mem_of_getElem? (i := 833) (by decide +kernel)
theorem lM_97 : Cond.methodLink (cnm 7) 97 (iY M_M_foretoldDot) ∈ lw_tbl := List.mem_of_getElem? (i := 825) (by decide +kernel)
theorem lM_101 : Cond.methodLink (cnm 7) 101 Lib.objectInit ∈ lw_tbl := List.mem_of_getElem? (i := 605) (by decide +kernel)
theorem lM_138 : Cond.methodLink (cnm 7) 138 (iY M_M_held) ∈ lw_tbl := List.mem_of_getElem? (i := 873) (by decide +kernel)
theorem lM_141 : Cond.methodLink (cnm 7) 141 (iY M_M_wave) ∈ lw_tbl := List.mem_of_getElem? (i := 880) (by decide +kernel)
theorem lM_145 : Cond.methodLink (cnm 7) 145 (iY M_M_readS) ∈ lw_tbl := List.mem_of_getElem? (i := 857) (by decide +kernel)
theorem lM_148 : Cond.methodLink (cnm 7) 148 (iY M_M_factor) ∈ lw_tbl := List.mem_of_getElem? (i := 869) (by decide +kernel)
theorem lM_154 : Cond.methodLink (cnm 7) 154 (iY M_M_block) ∈ lw_tbl := List.mem_of_getElem? (i := 865) (by decide +kernel)
theorem lM_160 : Cond.methodLink (cnm 7) 160 (iY M_M_sums) ∈ lw_tbl := List.mem_of_getElem? (i := 876) (by decide +kernel)
theorem lM_167 : Cond.methodLink (cnm 7) 167 (iY M_M_numberAbove) ∈ lw_tbl := List.mem_of_getElem? (i := 785) (by decide +kernel)
theorem lM_170 : Cond.methodLink (cnm 7) 170 (iY M_M_vector) ∈ lw_tbl := List.mem_of_getElem? (i := 853) (by decide +kernel)
theorem lM_173 : Cond.methodLink (cnm 7) 173 (iY M_M_foretells) ∈ lw_tbl := List.mem_of_getElem? (i := 813) (by decide +kernel)
theorem lM_177 : Cond.methodLink (cnm 7) 177 (iY M_M_allBlocks) ∈ lw_tbl := List.mem_of_getElem? (i := 861) (by decide +kernel)
theorem lM_187 : Cond.methodLink (cnm 7) 187 (iY M_M_resetDcs) ∈ lw_tbl := List.mem_of_getElem? (i := 805) (by decide +kernel)
theorem lM_190 : Cond.methodLink (cnm 7) 190 (iY M_M_resetVectors) ∈ lw_tbl := List.mem_of_getElem? (i := 809) (by decide +kernel)
theorem lM_193 : Cond.methodLink (cnm 7) 193 (iY M_M_begins) ∈ lw_tbl := List.mem_of_getElem? (i := 801) (by decide +kernel)
theorem lM_202 : Cond.methodLink (cnm 7) 202 (iY M_M_passes) ∈ lw_tbl := List.mem_of_getElem? (i := 797) (by decide +kernel)
theorem lM_206 : Cond.methodLink (cnm 7) 206 (iY M_M_square) ∈ lw_tbl := List.mem_of_getElem? (i := 849) (by decide +kernel)
theorem lM_209 : Cond.methodLink (cnm 7) 209 (iY M_M_align) ∈ lw_tbl := List.mem_of_getElem? (i := 777) (by decide +kernel)
theorem lM_218 : Cond.methodLink (cnm 7) 218 (iY M_M_allSquares) ∈ lw_tbl := List.mem_of_getElem? (i := 789) (by decide +kernel)
theorem lM_225 : Cond.methodLink (cnm 7) 225 (iY M_M_shows) ∈ lw_tbl := List.mem_of_getElem? (i := 889) (by decide +kernel)
theorem lM_241 : Cond.methodLink (cnm 7) 241 (iY M_M_isFirst) ∈ lw_tbl := List.mem_of_getElem? (i := 761) (by decide +kernel)
theorem lM_250 : Cond.methodLink (cnm 7) 250 (iY M_M_picture) ∈ lw_tbl := List.mem_of_getElem? (i := 781) (by decide +kernel)
theorem lM_252 : Cond.methodLink (cnm 7) 252 (iY M_M_lands) ∈ lw_tbl := List.mem_of_getElem? (i := 885) (by decide +kernel)
theorem lM_258 : Cond.methodLink (cnm 7) 258 (iY M_M_taped) ∈ lw_tbl := List.mem_of_getElem? (i := 741) (by decide +kernel)
theorem lM_261 : Cond.methodLink (cnm 7) 261 (iY M_M_stream) ∈ lw_tbl := List.mem_of_getElem? (i := 757) (by decide +kernel)
theorem lM_264 : Cond.methodLink (cnm 7) 264 (iY M_M_noPicture) ∈ lw_tbl := List.mem_of_getElem? (i := 905) (by decide +kernel)
theorem lM_267 : Cond.methodLink (cnm 7) 267 (iY M_M_noPlane) ∈ lw_tbl := List.mem_of_getElem? (i := 913) (by decide +kernel)
theorem nX_9 : Cond.methodLinkNest (cnm 6) 9 (iY M_T_init) "ReelReader" ∈ lw_tbl := List.mem_of_getElem? (i := 79) (by decide +kernel)
theorem nX_18 : Cond.methodLinkNest (cnm 6) 18 (iY M_R_init) "ReelReader" ∈ lw_tbl := List.mem_of_getElem? (i := 101) (by decide +kernel)
theorem nB_42 : Cond.methodLinkNest (cnm 0) 42 (iY M_X_held) "ReelReader" ∈ lw_tbl := List.mem_of_getElem? (i := 496) (by decide +kernel)
theorem nL_35 : Cond.methodLinkNest (cnm 2) 35 (iY M_X_held) "ReelReader" ∈ lw_tbl := List.mem_of_getElem? (i := 449) (by decide +kernel)
theorem nR_28 : Cond.methodLinkNest (cnm 3) 28 (iY M_P_init) "ReelReader" ∈ lw_tbl := List.mem_of_getElem? (i := 108) (by decide +kernel)
theorem nS_11 : Cond.methodLinkNest (cnm 4) 11 (iY M_B_init) "ReelReader" ∈ lw_tbl := List.mem_of_getElem? (i := 186) (by decide +kernel)
theorem cX_7 : Cond.classLink (cnm 6) 7 (cnm 5) ∈ lw_tbl := List.mem_of_getElem? (i := 77) (by decide +kernel)
theorem cX_16 : Cond.classLink (cnm 6) 16 (cnm 3) ∈ lw_tbl := List.mem_of_getElem? (i := 99) (by decide +kernel)
theorem cX_23 : Cond.classLink (cnm 6) 23 (cnm 4) ∈ lw_tbl := List.mem_of_getElem? (i := 178) (by decide +kernel)
theorem cX_61 : Cond.classLink (cnm 6) 61 "java/lang/IllegalStateException" ∈ lw_tbl := List.mem_of_getElem? (i := 278) (by decide +kernel)
theorem cX_74 : Cond.classLink (cnm 6) 74 "java/util/NoSuchElementException" ∈ lw_tbl := List.mem_of_getElem? (i := 573) (by decide +kernel)
theorem cP_7 : Cond.classLink (cnm 1) 7 (cnm 2) ∈ lw_tbl := List.mem_of_getElem? (i := 112) (by decide +kernel)
theorem cR_15 : Cond.classLink (cnm 3) 15 (cnm 1) ∈ lw_tbl := List.mem_of_getElem? (i := 105) (by decide +kernel)
theorem cS_9 : Cond.classLink (cnm 4) 9 (cnm 0) ∈ lw_tbl := List.mem_of_getElem? (i := 184) (by decide +kernel)
theorem cT_37 : Cond.classLink (cnm 5) 37 "java/lang/IllegalStateException" ∈ lw_tbl := List.mem_of_getElem? (i := 303) (by decide +kernel)
theorem cW_8 : Cond.classLink (cnm 8) 8 (cnm 6) ∈ lw_tbl := List.mem_of_getElem? (i := 69) (by decide +kernel)
theorem cW_13 : Cond.classLink (cnm 8) 13 "java/util/NoSuchElementException" ∈ lw_tbl := List.mem_of_getElem? (i := 568) (by decide +kernel)
theorem cW_20 : Cond.classLink (cnm 8) 20 (cnm 7) ∈ lw_tbl := List.mem_of_getElem? (i := 600) (by decide +kernel)
theorem kT_54 : Cond.constant (cnm 5) 54 2097150 ∈ lw_tbl := List.mem_of_getElem? (i := 468) (by decide +kernel)
theorem kM_110 : Cond.constant (cnm 7) 110 122880 ∈ lw_tbl := List.mem_of_getElem? (i := 606) (by decide +kernel)
theorem sB_33 : Cond.fieldLink (cnm 0) 33 (sC 0) (sNm 0) "[I" ∈ lw_tbl := List.mem_of_getElem? (i := 491) (by decide +kernel)
theorem sB_52 : Cond.fieldLink (cnm 0) 52 (sC 1) (sNm 1) "[I" ∈ lw_tbl := List.mem_of_getElem? (i := 509) (by decide +kernel)
theorem sM_129 : Cond.fieldLink (cnm 7) 129 (sC 2) (sNm 2) "[I" ∈ lw_tbl := List.mem_of_getElem? (i := 883) (by decide +kernel)
set_option maxRecDepth 20000 in
theorem w_atISE : ∀ w ∈ vx_at0 (cnm 5) 39 "java/lang/IllegalStateException" ["java/lang/RuntimeException", "java/lang/Exception"], w ∈ lw_tbl ∧ w.onTables = true ∧ (goodWord w = true ∨ w.keepsFace = true) := by decide +kernel
set_option maxRecDepth 20000 in
theorem w_atNSE : ∀ w ∈ vx_at0 (cnm 6) 76 "java/util/NoSuchElementException" ["java/lang/RuntimeException", "java/lang/Exception"], w ∈ lw_tbl ∧ w.onTables = true ∧ (goodWord w = true ∨ w.keepsFace = true) := by decide +kernel

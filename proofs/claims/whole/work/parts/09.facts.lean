/-! what the tables say of methods, links, fields, numbers: printed by a program of mine -/
theorem ini_X0 : Cond.initialized RX0 ∈ mtb := mtb_in (List.mem_of_getElem? (i := 75) (by decide +kernel)) rfl
theorem ini_X1 : Cond.initialized RX1 ∈ mtb := mtb_in (List.mem_of_getElem? (i := 74) (by decide +kernel)) rfl
theorem ini_X2 : Cond.initialized RX2 ∈ mtb := mtb_in (List.mem_of_getElem? (i := 73) (by decide +kernel)) rfl
theorem ini_X3 : Cond.initialized RX3 ∈ mtb := mtb_in (List.mem_of_getElem? (i := 72) (by decide +kernel)) rfl
theorem ini_X4 : Cond.initialized RX4 ∈ mtb := mtb_in (List.mem_of_getElem? (i := 70) (by decide +kernel)) rfl
theorem ini_X5 : Cond.initialized RX5 ∈ mtb := mtb_in (List.mem_of_getElem? (i := 71) (by decide +kernel)) rfl
theorem ini_X6 : Cond.initialized RX6 ∈ mtb := mtb_in (List.mem_of_getElem? (i := 69) (by decide +kernel)) rfl
theorem ini_X7 : Cond.initialized RX7 ∈ mtb := mtb_in (List.mem_of_getElem? (i := 76) (by decide +kernel)) rfl
theorem ini_J6 : Cond.initialized RJ6 ∈ mtb := mtb_in (List.mem_of_getElem? (i := 79) (by decide +kernel)) rfl
theorem ini_J9 : Cond.initialized RJ9 ∈ mtb := mtb_in (List.mem_of_getElem? (i := 77) (by decide +kernel)) rfl
theorem ini_J10 : Cond.initialized RJ10 ∈ mtb := mtb_in (List.mem_of_getElem? (i := 78) (by decide +kernel)) rfl
theorem jdk_ok : mJdk := by
  refine ⟨⟨?_, ?_, ?_⟩, ini_J9, ⟨?_, ?_, ?_⟩, ?_, ?_, ini_J10⟩
  · exact mtb_in (List.mem_of_getElem? (i := 491) (by decide +kernel)) rfl
  · exact mtb_in (List.mem_of_getElem? (i := 359) (by decide +kernel)) rfl
  · exact mtb_in (List.mem_of_getElem? (i := 527) (by decide +kernel)) rfl
  · exact mtb_in (List.mem_of_getElem? (i := 492) (by decide +kernel)) rfl
  · exact mtb_in (List.mem_of_getElem? (i := 360) (by decide +kernel)) rfl
  · exact mtb_in (List.mem_of_getElem? (i := 528) (by decide +kernel)) rfl
  · exact mtb_in (List.mem_of_getElem? (i := 488) (by decide +kernel)) rfl
  · exact mtb_in (List.mem_of_getElem? (i := 487) (by decide +kernel)) rfl
theorem mfA_X0_drop : mfA yX0_drop cX0_drop 2 none 0 := ⟨ini_X0, mtb_in (List.mem_of_getElem? (i := 260) (by decide +kernel)) rfl, by decide +kernel, by decide, by decide +kernel⟩
theorem mf_X0_drop : mfV yX0_drop cX0_drop 2 none 0 := ⟨mfA_X0_drop, mtb_in (List.mem_of_getElem? (i := 258) (by decide +kernel)) rfl, mtb_in (List.mem_of_getElem? (i := 259) (by decide +kernel)) rfl⟩
theorem mfA_X0_add : mfA yX0_add cX0_add 4 (some .boolean) 3 := ⟨ini_X0, mtb_in (List.mem_of_getElem? (i := 710) (by decide +kernel)) rfl, by decide +kernel, by decide, by decide +kernel⟩
theorem mf_X0_add : mfV yX0_add cX0_add 4 (some .boolean) 3 := ⟨mfA_X0_add, mtb_in (List.mem_of_getElem? (i := 708) (by decide +kernel)) rfl, mtb_in (List.mem_of_getElem? (i := 709) (by decide +kernel)) rfl⟩
theorem mfA_X0_errorsBehind : mfA yX0_errorsBehind cX0_errorsBehind 5 (some .int) 1 := ⟨ini_X0, mtb_in (List.mem_of_getElem? (i := 725) (by decide +kernel)) rfl, by decide +kernel, by decide, by decide +kernel⟩
theorem mf_X0_errorsBehind : mfV yX0_errorsBehind cX0_errorsBehind 5 (some .int) 1 := ⟨mfA_X0_errorsBehind, mtb_in (List.mem_of_getElem? (i := 723) (by decide +kernel)) rfl, mtb_in (List.mem_of_getElem? (i := 724) (by decide +kernel)) rfl⟩
theorem mfA_X0_widestDay : mfA yX0_widestDay cX0_widestDay 5 (some .int) 0 := ⟨ini_X0, mtb_in (List.mem_of_getElem? (i := 768) (by decide +kernel)) rfl, by decide +kernel, by decide, by decide +kernel⟩
theorem mf_X0_widestDay : mfV yX0_widestDay cX0_widestDay 5 (some .int) 0 := ⟨mfA_X0_widestDay, mtb_in (List.mem_of_getElem? (i := 766) (by decide +kernel)) rfl, mtb_in (List.mem_of_getElem? (i := 767) (by decide +kernel)) rfl⟩
theorem mfA_X0_rows : mfA yX0_rows cX0_rows 3 (some .int) 0 := ⟨ini_X0, mtb_in (List.mem_of_getElem? (i := 743) (by decide +kernel)) rfl, by decide +kernel, by decide, by decide +kernel⟩
theorem mf_X0_rows : mfV yX0_rows cX0_rows 3 (some .int) 0 := ⟨mfA_X0_rows, mtb_in (List.mem_of_getElem? (i := 741) (by decide +kernel)) rfl, mtb_in (List.mem_of_getElem? (i := 742) (by decide +kernel)) rfl⟩
theorem mfA_X0_rowsFrom : mfA yX0_rowsFrom cX0_rowsFrom 6 (some .int) 2 := ⟨ini_X0, mtb_in (List.mem_of_getElem? (i := 747) (by decide +kernel)) rfl, by decide +kernel, by decide, by decide +kernel⟩
theorem mf_X0_rowsFrom : mfV yX0_rowsFrom cX0_rowsFrom 6 (some .int) 2 := ⟨mfA_X0_rowsFrom, mtb_in (List.mem_of_getElem? (i := 746) (by decide +kernel)) rfl, mtb_in (List.mem_of_getElem? (i := 31) (by decide +kernel)) rfl⟩
theorem mfA_X0_allowedBehind : mfA yX0_allowedBehind cX0_allowedBehind 2 (some .int) 1 := ⟨ini_X0, mtb_in (List.mem_of_getElem? (i := 732) (by decide +kernel)) rfl, by decide +kernel, by decide, by decide +kernel⟩
theorem mf_X0_allowedBehind : mfV yX0_allowedBehind cX0_allowedBehind 2 (some .int) 1 := ⟨mfA_X0_allowedBehind, mtb_in (List.mem_of_getElem? (i := 731) (by decide +kernel)) rfl, mtb_in (List.mem_of_getElem? (i := 30) (by decide +kernel)) rfl⟩
theorem mfA_X0_within : mfA yX0_within cX0_within 4 (some .int) 2 := ⟨ini_X0, mtb_in (List.mem_of_getElem? (i := 713) (by decide +kernel)) rfl, by decide +kernel, by decide, by decide +kernel⟩
theorem mf_X0_within : mfS yX0_within cX0_within 4 (some .int) 2 := ⟨mfA_X0_within, mtb_in (List.mem_of_getElem? (i := 712) (by decide +kernel)) rfl⟩
theorem mfA_X0_aDayOn : mfA yX0_aDayOn cX0_aDayOn 2 (some .int) 1 := ⟨ini_X0, mtb_in (List.mem_of_getElem? (i := 728) (by decide +kernel)) rfl, by decide +kernel, by decide, by decide +kernel⟩
theorem mf_X0_aDayOn : mfS yX0_aDayOn cX0_aDayOn 2 (some .int) 1 := ⟨mfA_X0_aDayOn, mtb_in (List.mem_of_getElem? (i := 727) (by decide +kernel)) rfl⟩
theorem mfA_X0_aDayBack : mfA yX0_aDayBack cX0_aDayBack 2 (some .int) 1 := ⟨ini_X0, mtb_in (List.mem_of_getElem? (i := 735) (by decide +kernel)) rfl, by decide +kernel, by decide, by decide +kernel⟩
theorem mf_X0_aDayBack : mfS yX0_aDayBack cX0_aDayBack 2 (some .int) 1 := ⟨mfA_X0_aDayBack, mtb_in (List.mem_of_getElem? (i := 734) (by decide +kernel)) rfl⟩
theorem mfA_X0_swapRows : mfA yX0_swapRows cX0_swapRows 2 none 0 := ⟨ini_X0, mtb_in (List.mem_of_getElem? (i := 760) (by decide +kernel)) rfl, by decide +kernel, by decide, by decide +kernel⟩
theorem mf_X0_swapRows : mfV yX0_swapRows cX0_swapRows 2 none 0 := ⟨mfA_X0_swapRows, mtb_in (List.mem_of_getElem? (i := 759) (by decide +kernel)) rfl, mtb_in (List.mem_of_getElem? (i := 34) (by decide +kernel)) rfl⟩
theorem mfA_X0_laterAt : mfA yX0_laterAt cX0_laterAt 3 (some .int) 1 := ⟨ini_X0, mtb_in (List.mem_of_getElem? (i := 751) (by decide +kernel)) rfl, by decide +kernel, by decide, by decide +kernel⟩
theorem mf_X0_laterAt : mfV yX0_laterAt cX0_laterAt 3 (some .int) 1 := ⟨mfA_X0_laterAt, mtb_in (List.mem_of_getElem? (i := 750) (by decide +kernel)) rfl, mtb_in (List.mem_of_getElem? (i := 32) (by decide +kernel)) rfl⟩
theorem mfA_X0_put : mfA yX0_put cX0_put 4 none 2 := ⟨ini_X0, mtb_in (List.mem_of_getElem? (i := 756) (by decide +kernel)) rfl, by decide +kernel, by decide, by decide +kernel⟩
theorem mf_X0_put : mfV yX0_put cX0_put 4 none 2 := ⟨mfA_X0_put, mtb_in (List.mem_of_getElem? (i := 755) (by decide +kernel)) rfl, mtb_in (List.mem_of_getElem? (i := 33) (by decide +kernel)) rfl⟩
theorem mfA_X1_weigh : mfA yX1_weigh cX1_weigh 6 none 3 := ⟨ini_X1, mtb_in (List.mem_of_getElem? (i := 597) (by decide +kernel)) rfl, by decide +kernel, by decide, by decide +kernel⟩
theorem mf_X1_weigh : mfV yX1_weigh cX1_weigh 6 none 3 := ⟨mfA_X1_weigh, mtb_in (List.mem_of_getElem? (i := 595) (by decide +kernel)) rfl, mtb_in (List.mem_of_getElem? (i := 596) (by decide +kernel)) rfl⟩
theorem mfA_X1_fillRow : mfA yX1_fillRow cX1_fillRow 7 none 3 := ⟨ini_X1, mtb_in (List.mem_of_getElem? (i := 604) (by decide +kernel)) rfl, by decide +kernel, by decide, by decide +kernel⟩
theorem mf_X1_fillRow : mfV yX1_fillRow cX1_fillRow 7 none 3 := ⟨mfA_X1_fillRow, mtb_in (List.mem_of_getElem? (i := 603) (by decide +kernel)) rfl, mtb_in (List.mem_of_getElem? (i := 17) (by decide +kernel)) rfl⟩
theorem mfA_X1_best : mfA yX1_best cX1_best 8 (some .int) 4 := ⟨ini_X1, mtb_in (List.mem_of_getElem? (i := 612) (by decide +kernel)) rfl, by decide +kernel, by decide, by decide +kernel⟩
theorem mf_X1_best : mfV yX1_best cX1_best 8 (some .int) 4 := ⟨mfA_X1_best, mtb_in (List.mem_of_getElem? (i := 611) (by decide +kernel)) rfl, mtb_in (List.mem_of_getElem? (i := 19) (by decide +kernel)) rfl⟩
theorem mfA_X1_turned : mfA yX1_turned cX1_turned 9 (some .int) 4 := ⟨ini_X1, mtb_in (List.mem_of_getElem? (i := 616) (by decide +kernel)) rfl, by decide +kernel, by decide, by decide +kernel⟩
theorem mf_X1_turned : mfV yX1_turned cX1_turned 9 (some .int) 4 := ⟨mfA_X1_turned, mtb_in (List.mem_of_getElem? (i := 615) (by decide +kernel)) rfl, mtb_in (List.mem_of_getElem? (i := 20) (by decide +kernel)) rfl⟩
theorem mfA_X1_reduce : mfA yX1_reduce cX1_reduce 2 none 0 := ⟨ini_X1, mtb_in (List.mem_of_getElem? (i := 635) (by decide +kernel)) rfl, by decide +kernel, by decide, by decide +kernel⟩
theorem mf_X1_reduce : mfV yX1_reduce cX1_reduce 2 none 0 := ⟨mfA_X1_reduce, mtb_in (List.mem_of_getElem? (i := 634) (by decide +kernel)) rfl, mtb_in (List.mem_of_getElem? (i := 23) (by decide +kernel)) rfl⟩
theorem mfA_X1_swapRows : mfA yX1_swapRows cX1_swapRows 2 none 0 := ⟨ini_X1, mtb_in (List.mem_of_getElem? (i := 628) (by decide +kernel)) rfl, by decide +kernel, by decide, by decide +kernel⟩
theorem mf_X1_swapRows : mfV yX1_swapRows cX1_swapRows 2 none 0 := ⟨mfA_X1_swapRows, mtb_in (List.mem_of_getElem? (i := 627) (by decide +kernel)) rfl, mtb_in (List.mem_of_getElem? (i := 22) (by decide +kernel)) rfl⟩
theorem mfA_X1_laterAt : mfA yX1_laterAt cX1_laterAt 4 (some .int) 2 := ⟨ini_X1, mtb_in (List.mem_of_getElem? (i := 622) (by decide +kernel)) rfl, by decide +kernel, by decide, by decide +kernel⟩
theorem mf_X1_laterAt : mfV yX1_laterAt cX1_laterAt 4 (some .int) 2 := ⟨mfA_X1_laterAt, mtb_in (List.mem_of_getElem? (i := 621) (by decide +kernel)) rfl, mtb_in (List.mem_of_getElem? (i := 21) (by decide +kernel)) rfl⟩
theorem mfA_X1_put : mfA yX1_put cX1_put 5 none 3 := ⟨ini_X1, mtb_in (List.mem_of_getElem? (i := 608) (by decide +kernel)) rfl, by decide +kernel, by decide, by decide +kernel⟩
theorem mf_X1_put : mfV yX1_put cX1_put 5 none 3 := ⟨mfA_X1_put, mtb_in (List.mem_of_getElem? (i := 607) (by decide +kernel)) rfl, mtb_in (List.mem_of_getElem? (i := 18) (by decide +kernel)) rfl⟩
theorem mfA_X2_forCandles : mfA yX2_forCandles cX2_forCandles 3 none 2 := ⟨ini_X2, mtb_in (List.mem_of_getElem? (i := 643) (by decide +kernel)) rfl, by decide +kernel, by decide, by decide +kernel⟩
theorem mf_X2_forCandles : mfV yX2_forCandles cX2_forCandles 3 none 2 := ⟨mfA_X2_forCandles, mtb_in (List.mem_of_getElem? (i := 641) (by decide +kernel)) rfl, mtb_in (List.mem_of_getElem? (i := 642) (by decide +kernel)) rfl⟩
theorem mfA_X2_forFreedom : mfA yX2_forFreedom cX2_forFreedom 4 none 3 := ⟨ini_X2, mtb_in (List.mem_of_getElem? (i := 691) (by decide +kernel)) rfl, by decide +kernel, by decide, by decide +kernel⟩
theorem mf_X2_forFreedom : mfV yX2_forFreedom cX2_forFreedom 4 none 3 := ⟨mfA_X2_forFreedom, mtb_in (List.mem_of_getElem? (i := 689) (by decide +kernel)) rfl, mtb_in (List.mem_of_getElem? (i := 690) (by decide +kernel)) rfl⟩
theorem mfA_X2_make : mfA yX2_make cX2_make 8 none 3 := ⟨ini_X2, mtb_in (List.mem_of_getElem? (i := 648) (by decide +kernel)) rfl, by decide +kernel, by decide, by decide +kernel⟩
theorem mf_X2_make : mfV yX2_make cX2_make 8 none 3 := ⟨mfA_X2_make, mtb_in (List.mem_of_getElem? (i := 647) (by decide +kernel)) rfl, mtb_in (List.mem_of_getElem? (i := 24) (by decide +kernel)) rfl⟩
theorem mfA_X2_restBehind : mfA yX2_restBehind cX2_restBehind 3 (some .int) 3 := ⟨ini_X2, mtb_in (List.mem_of_getElem? (i := 653) (by decide +kernel)) rfl, by decide +kernel, by decide, by decide +kernel⟩
theorem mf_X2_restBehind : mfS yX2_restBehind cX2_restBehind 3 (some .int) 3 := ⟨mfA_X2_restBehind, mtb_in (List.mem_of_getElem? (i := 652) (by decide +kernel)) rfl⟩
theorem mfA_X2_best : mfA yX2_best cX2_best 7 (some .int) 3 := ⟨ini_X2, mtb_in (List.mem_of_getElem? (i := 668) (by decide +kernel)) rfl, by decide +kernel, by decide, by decide +kernel⟩
theorem mf_X2_best : mfV yX2_best cX2_best 7 (some .int) 3 := ⟨mfA_X2_best, mtb_in (List.mem_of_getElem? (i := 667) (by decide +kernel)) rfl, mtb_in (List.mem_of_getElem? (i := 27) (by decide +kernel)) rfl⟩
theorem mfA_X2_gain : mfA yX2_gain cX2_gain 7 (some .int) 4 := ⟨ini_X2, mtb_in (List.mem_of_getElem? (i := 672) (by decide +kernel)) rfl, by decide +kernel, by decide, by decide +kernel⟩
theorem mf_X2_gain : mfV yX2_gain cX2_gain 7 (some .int) 4 := ⟨mfA_X2_gain, mtb_in (List.mem_of_getElem? (i := 671) (by decide +kernel)) rfl, mtb_in (List.mem_of_getElem? (i := 28) (by decide +kernel)) rfl⟩
theorem mfA_X2_swapRows : mfA yX2_swapRows cX2_swapRows 2 none 0 := ⟨ini_X2, mtb_in (List.mem_of_getElem? (i := 663) (by decide +kernel)) rfl, by decide +kernel, by decide, by decide +kernel⟩
theorem mf_X2_swapRows : mfV yX2_swapRows cX2_swapRows 2 none 0 := ⟨mfA_X2_swapRows, mtb_in (List.mem_of_getElem? (i := 662) (by decide +kernel)) rfl, mtb_in (List.mem_of_getElem? (i := 26) (by decide +kernel)) rfl⟩
theorem mfA_X2_laterAt : mfA yX2_laterAt cX2_laterAt 3 (some .int) 1 := ⟨ini_X2, mtb_in (List.mem_of_getElem? (i := 677) (by decide +kernel)) rfl, by decide +kernel, by decide, by decide +kernel⟩
theorem mf_X2_laterAt : mfV yX2_laterAt cX2_laterAt 3 (some .int) 1 := ⟨mfA_X2_laterAt, mtb_in (List.mem_of_getElem? (i := 676) (by decide +kernel)) rfl, mtb_in (List.mem_of_getElem? (i := 29) (by decide +kernel)) rfl⟩
theorem mfA_X2_put : mfA yX2_put cX2_put 4 none 2 := ⟨ini_X2, mtb_in (List.mem_of_getElem? (i := 659) (by decide +kernel)) rfl, by decide +kernel, by decide, by decide +kernel⟩
theorem mf_X2_put : mfV yX2_put cX2_put 4 none 2 := ⟨mfA_X2_put, mtb_in (List.mem_of_getElem? (i := 658) (by decide +kernel)) rfl, mtb_in (List.mem_of_getElem? (i := 25) (by decide +kernel)) rfl⟩
theorem mfA_X3_begin : mfA yX3_begin cX3_begin 3 none 1 := ⟨ini_X3, mtb_in (List.mem_of_getElem? (i := 279) (by decide +kernel)) rfl, by decide +kernel, by decide, by decide +kernel⟩
theorem mf_X3_begin : mfV yX3_begin cX3_begin 3 none 1 := ⟨mfA_X3_begin, mtb_in (List.mem_of_getElem? (i := 277) (by decide +kernel)) rfl, mtb_in (List.mem_of_getElem? (i := 278) (by decide +kernel)) rfl⟩
theorem mfA_X3_copy : mfA yX3_copy cX3_copy 2 none 1 := ⟨ini_X3, mtb_in (List.mem_of_getElem? (i := 816) (by decide +kernel)) rfl, by decide +kernel, by decide, by decide +kernel⟩
theorem mf_X3_copy : mfV yX3_copy cX3_copy 2 none 1 := ⟨mfA_X3_copy, mtb_in (List.mem_of_getElem? (i := 814) (by decide +kernel)) rfl, mtb_in (List.mem_of_getElem? (i := 815) (by decide +kernel)) rfl⟩
theorem mfA_X3_day : mfA yX3_day cX3_day 1 (some .int) 0 := ⟨ini_X3, mtb_in (List.mem_of_getElem? (i := 462) (by decide +kernel)) rfl, by decide +kernel, by decide, by decide +kernel⟩
theorem mf_X3_day : mfV yX3_day cX3_day 1 (some .int) 0 := ⟨mfA_X3_day, mtb_in (List.mem_of_getElem? (i := 460) (by decide +kernel)) rfl, mtb_in (List.mem_of_getElem? (i := 461) (by decide +kernel)) rfl⟩
theorem mfA_X3_rest : mfA yX3_rest cX3_rest 1 (some .int) 0 := ⟨ini_X3, mtb_in (List.mem_of_getElem? (i := 470) (by decide +kernel)) rfl, by decide +kernel, by decide, by decide +kernel⟩
theorem mf_X3_rest : mfV yX3_rest cX3_rest 1 (some .int) 0 := ⟨mfA_X3_rest, mtb_in (List.mem_of_getElem? (i := 468) (by decide +kernel)) rfl, mtb_in (List.mem_of_getElem? (i := 469) (by decide +kernel)) rfl⟩
theorem mfA_X3_error : mfA yX3_error cX3_error 1 (some .int) 0 := ⟨ini_X3, mtb_in (List.mem_of_getElem? (i := 474) (by decide +kernel)) rfl, by decide +kernel, by decide, by decide +kernel⟩
theorem mf_X3_error : mfV yX3_error cX3_error 1 (some .int) 0 := ⟨mfA_X3_error, mtb_in (List.mem_of_getElem? (i := 472) (by decide +kernel)) rfl, mtb_in (List.mem_of_getElem? (i := 473) (by decide +kernel)) rfl⟩
theorem mfA_X3_candles : mfA yX3_candles cX3_candles 1 (some .int) 0 := ⟨ini_X3, mtb_in (List.mem_of_getElem? (i := 496) (by decide +kernel)) rfl, by decide +kernel, by decide, by decide +kernel⟩
theorem mf_X3_candles : mfV yX3_candles cX3_candles 1 (some .int) 0 := ⟨mfA_X3_candles, mtb_in (List.mem_of_getElem? (i := 494) (by decide +kernel)) rfl, mtb_in (List.mem_of_getElem? (i := 495) (by decide +kernel)) rfl⟩
theorem mfA_X3_found : mfA yX3_found cX3_found 1 (some .int) 0 := ⟨ini_X3, mtb_in (List.mem_of_getElem? (i := 575) (by decide +kernel)) rfl, by decide +kernel, by decide, by decide +kernel⟩
theorem mf_X3_found : mfV yX3_found cX3_found 1 (some .int) 0 := ⟨mfA_X3_found, mtb_in (List.mem_of_getElem? (i := 573) (by decide +kernel)) rfl, mtb_in (List.mem_of_getElem? (i := 574) (by decide +kernel)) rfl⟩
theorem mfA_X3_harmOf : mfA yX3_harmOf cX3_harmOf 2 (some .int) 1 := ⟨ini_X3, mtb_in (List.mem_of_getElem? (i := 439) (by decide +kernel)) rfl, by decide +kernel, by decide, by decide +kernel⟩
theorem mf_X3_harmOf : mfV yX3_harmOf cX3_harmOf 2 (some .int) 1 := ⟨mfA_X3_harmOf, mtb_in (List.mem_of_getElem? (i := 437) (by decide +kernel)) rfl, mtb_in (List.mem_of_getElem? (i := 438) (by decide +kernel)) rfl⟩
theorem mfA_X3_harmOfAll : mfA yX3_harmOfAll cX3_harmOfAll 3 (some .int) 0 := ⟨ini_X3, mtb_in (List.mem_of_getElem? (i := 571) (by decide +kernel)) rfl, by decide +kernel, by decide, by decide +kernel⟩
theorem mf_X3_harmOfAll : mfV yX3_harmOfAll cX3_harmOfAll 3 (some .int) 0 := ⟨mfA_X3_harmOfAll, mtb_in (List.mem_of_getElem? (i := 569) (by decide +kernel)) rfl, mtb_in (List.mem_of_getElem? (i := 570) (by decide +kernel)) rfl⟩
theorem mfA_X3_isOver : mfA yX3_isOver cX3_isOver 2 (some .boolean) 1 := ⟨ini_X3, mtb_in (List.mem_of_getElem? (i := 458) (by decide +kernel)) rfl, by decide +kernel, by decide, by decide +kernel⟩
theorem mf_X3_isOver : mfV yX3_isOver cX3_isOver 2 (some .boolean) 1 := ⟨mfA_X3_isOver, mtb_in (List.mem_of_getElem? (i := 456) (by decide +kernel)) rfl, mtb_in (List.mem_of_getElem? (i := 457) (by decide +kernel)) rfl⟩
theorem mfA_X3_isFree : mfA yX3_isFree cX3_isFree 1 (some .boolean) 0 := ⟨ini_X3, mtb_in (List.mem_of_getElem? (i := 466) (by decide +kernel)) rfl, by decide +kernel, by decide, by decide +kernel⟩
theorem mf_X3_isFree : mfV yX3_isFree cX3_isFree 1 (some .boolean) 0 := ⟨mfA_X3_isFree, mtb_in (List.mem_of_getElem? (i := 464) (by decide +kernel)) rfl, mtb_in (List.mem_of_getElem? (i := 465) (by decide +kernel)) rfl⟩
theorem mfA_X3_isEnded : mfA yX3_isEnded cX3_isEnded 2 (some .boolean) 1 := ⟨ini_X3, mtb_in (List.mem_of_getElem? (i := 454) (by decide +kernel)) rfl, by decide +kernel, by decide, by decide +kernel⟩
theorem mf_X3_isEnded : mfV yX3_isEnded cX3_isEnded 2 (some .boolean) 1 := ⟨mfA_X3_isEnded, mtb_in (List.mem_of_getElem? (i := 452) (by decide +kernel)) rfl, mtb_in (List.mem_of_getElem? (i := 453) (by decide +kernel)) rfl⟩
theorem mfA_X3_daysLeft : mfA yX3_daysLeft cX3_daysLeft 2 (some .int) 1 := ⟨ini_X3, mtb_in (List.mem_of_getElem? (i := 589) (by decide +kernel)) rfl, by decide +kernel, by decide, by decide +kernel⟩
theorem mf_X3_daysLeft : mfV yX3_daysLeft cX3_daysLeft 2 (some .int) 1 := ⟨mfA_X3_daysLeft, mtb_in (List.mem_of_getElem? (i := 587) (by decide +kernel)) rfl, mtb_in (List.mem_of_getElem? (i := 588) (by decide +kernel)) rfl⟩
theorem mfA_X3_turn : mfA yX3_turn cX3_turn 6 (some .int) 3 := ⟨ini_X3, mtb_in (List.mem_of_getElem? (i := 481) (by decide +kernel)) rfl, by decide +kernel, by decide, by decide +kernel⟩
theorem mf_X3_turn : mfV yX3_turn cX3_turn 6 (some .int) 3 := ⟨mfA_X3_turn, mtb_in (List.mem_of_getElem? (i := 479) (by decide +kernel)) rfl, mtb_in (List.mem_of_getElem? (i := 480) (by decide +kernel)) rfl⟩
theorem mfA_X3_watch : mfA yX3_watch cX3_watch 2 (some .int) 1 := ⟨ini_X3, mtb_in (List.mem_of_getElem? (i := 536) (by decide +kernel)) rfl, by decide +kernel, by decide, by decide +kernel⟩
theorem mf_X3_watch : mfV yX3_watch cX3_watch 2 (some .int) 1 := ⟨mfA_X3_watch, mtb_in (List.mem_of_getElem? (i := 534) (by decide +kernel)) rfl, mtb_in (List.mem_of_getElem? (i := 535) (by decide +kernel)) rfl⟩
theorem mfA_X3_pay : mfA yX3_pay cX3_pay 3 (some .int) 2 := ⟨ini_X3, mtb_in (List.mem_of_getElem? (i := 545) (by decide +kernel)) rfl, by decide +kernel, by decide, by decide +kernel⟩
theorem mf_X3_pay : mfV yX3_pay cX3_pay 3 (some .int) 2 := ⟨mfA_X3_pay, mtb_in (List.mem_of_getElem? (i := 543) (by decide +kernel)) rfl, mtb_in (List.mem_of_getElem? (i := 544) (by decide +kernel)) rfl⟩
theorem mfA_X3_correct : mfA yX3_correct cX3_correct 2 (some .int) 1 := ⟨ini_X3, mtb_in (List.mem_of_getElem? (i := 553) (by decide +kernel)) rfl, by decide +kernel, by decide, by decide +kernel⟩
theorem mf_X3_correct : mfV yX3_correct cX3_correct 2 (some .int) 1 := ⟨mfA_X3_correct, mtb_in (List.mem_of_getElem? (i := 551) (by decide +kernel)) rfl, mtb_in (List.mem_of_getElem? (i := 552) (by decide +kernel)) rfl⟩
theorem mfA_X3_recall : mfA yX3_recall cX3_recall 1 (some .boolean) 0 := ⟨ini_X3, mtb_in (List.mem_of_getElem? (i := 561) (by decide +kernel)) rfl, by decide +kernel, by decide, by decide +kernel⟩
theorem mf_X3_recall : mfV yX3_recall cX3_recall 1 (some .boolean) 0 := ⟨mfA_X3_recall, mtb_in (List.mem_of_getElem? (i := 559) (by decide +kernel)) rfl, mtb_in (List.mem_of_getElem? (i := 560) (by decide +kernel)) rfl⟩
theorem mfA_X3_soonestFree : mfA yX3_soonestFree cX3_soonestFree 4 (some .int) 1 := ⟨ini_X3, mtb_in (List.mem_of_getElem? (i := 585) (by decide +kernel)) rfl, by decide +kernel, by decide, by decide +kernel⟩
theorem mf_X3_soonestFree : mfV yX3_soonestFree cX3_soonestFree 4 (some .int) 1 := ⟨mfA_X3_soonestFree, mtb_in (List.mem_of_getElem? (i := 583) (by decide +kernel)) rfl, mtb_in (List.mem_of_getElem? (i := 584) (by decide +kernel)) rfl⟩
theorem mfA_X3_caughtBehind : mfA yX3_caughtBehind cX3_caughtBehind 6 (some .int) 2 := ⟨ini_X3, mtb_in (List.mem_of_getElem? (i := 700) (by decide +kernel)) rfl, by decide +kernel, by decide, by decide +kernel⟩
theorem mf_X3_caughtBehind : mfV yX3_caughtBehind cX3_caughtBehind 6 (some .int) 2 := ⟨mfA_X3_caughtBehind, mtb_in (List.mem_of_getElem? (i := 698) (by decide +kernel)) rfl, mtb_in (List.mem_of_getElem? (i := 699) (by decide +kernel)) rfl⟩
theorem mfA_X3_check : mfA yX3_check cX3_check 2 (some .int) 1 := ⟨ini_X3, mtb_in (List.mem_of_getElem? (i := 525) (by decide +kernel)) rfl, by decide +kernel, by decide, by decide +kernel⟩
theorem mf_X3_check : mfV yX3_check cX3_check 2 (some .int) 1 := ⟨mfA_X3_check, mtb_in (List.mem_of_getElem? (i := 524) (by decide +kernel)) rfl, mtb_in (List.mem_of_getElem? (i := 16) (by decide +kernel)) rfl⟩
theorem mfA_X3_remember : mfA yX3_remember cX3_remember 1 none 0 := ⟨ini_X3, mtb_in (List.mem_of_getElem? (i := 485) (by decide +kernel)) rfl, by decide +kernel, by decide, by decide +kernel⟩
theorem mf_X3_remember : mfV yX3_remember cX3_remember 1 none 0 := ⟨mfA_X3_remember, mtb_in (List.mem_of_getElem? (i := 484) (by decide +kernel)) rfl, mtb_in (List.mem_of_getElem? (i := 14) (by decide +kernel)) rfl⟩
theorem mfA_X3_setHarm : mfA yX3_setHarm cX3_setHarm 3 none 2 := ⟨ini_X3, mtb_in (List.mem_of_getElem? (i := 512) (by decide +kernel)) rfl, by decide +kernel, by decide, by decide +kernel⟩
theorem mf_X3_setHarm : mfV yX3_setHarm cX3_setHarm 3 none 2 := ⟨mfA_X3_setHarm, mtb_in (List.mem_of_getElem? (i := 511) (by decide +kernel)) rfl, mtb_in (List.mem_of_getElem? (i := 15) (by decide +kernel)) rfl⟩
theorem mfA_X3_draw : mfA yX3_draw cX3_draw 4 (some .int) 2 := ⟨ini_X3, mtb_in (List.mem_of_getElem? (i := 515) (by decide +kernel)) rfl, by decide +kernel, by decide, by decide +kernel⟩
theorem mf_X3_draw : mfS yX3_draw cX3_draw 4 (some .int) 2 := ⟨mfA_X3_draw, mtb_in (List.mem_of_getElem? (i := 514) (by decide +kernel)) rfl⟩
theorem mfA_X4_add : mfA yX4_add cX4_add 2 (some .boolean) 1 := ⟨ini_X4, mtb_in (List.mem_of_getElem? (i := 318) (by decide +kernel)) rfl, by decide +kernel, by decide, by decide +kernel⟩
theorem mf_X4_add : mfV yX4_add cX4_add 2 (some .boolean) 1 := ⟨mfA_X4_add, mtb_in (List.mem_of_getElem? (i := 316) (by decide +kernel)) rfl, mtb_in (List.mem_of_getElem? (i := 317) (by decide +kernel)) rfl⟩
theorem mfA_X4_readInto : mfA yX4_readInto cX4_readInto 3 (some .int) 1 := ⟨ini_X4, mtb_in (List.mem_of_getElem? (i := 330) (by decide +kernel)) rfl, by decide +kernel, by decide, by decide +kernel⟩
theorem mf_X4_readInto : mfV yX4_readInto cX4_readInto 3 (some .int) 1 := ⟨mfA_X4_readInto, mtb_in (List.mem_of_getElem? (i := 328) (by decide +kernel)) rfl, mtb_in (List.mem_of_getElem? (i := 329) (by decide +kernel)) rfl⟩
theorem mfA_X4_begin : mfA yX4_begin cX4_begin 2 none 1 := ⟨ini_X4, mtb_in (List.mem_of_getElem? (i := 334) (by decide +kernel)) rfl, by decide +kernel, by decide, by decide +kernel⟩
theorem mf_X4_begin : mfV yX4_begin cX4_begin 2 none 1 := ⟨mfA_X4_begin, mtb_in (List.mem_of_getElem? (i := 333) (by decide +kernel)) rfl, mtb_in (List.mem_of_getElem? (i := 0) (by decide +kernel)) rfl⟩
theorem mfA_X4_readDay : mfA yX4_readDay cX4_readDay 3 none 1 := ⟨ini_X4, mtb_in (List.mem_of_getElem? (i := 364) (by decide +kernel)) rfl, by decide +kernel, by decide, by decide +kernel⟩
theorem mf_X4_readDay : mfV yX4_readDay cX4_readDay 3 none 1 := ⟨mfA_X4_readDay, mtb_in (List.mem_of_getElem? (i := 363) (by decide +kernel)) rfl, mtb_in (List.mem_of_getElem? (i := 5) (by decide +kernel)) rfl⟩
theorem mfA_X4_readBribe : mfA yX4_readBribe cX4_readBribe 6 none 1 := ⟨ini_X4, mtb_in (List.mem_of_getElem? (i := 384) (by decide +kernel)) rfl, by decide +kernel, by decide, by decide +kernel⟩
theorem mf_X4_readBribe : mfV yX4_readBribe cX4_readBribe 6 none 1 := ⟨mfA_X4_readBribe, mtb_in (List.mem_of_getElem? (i := 383) (by decide +kernel)) rfl, mtb_in (List.mem_of_getElem? (i := 9) (by decide +kernel)) rfl⟩
theorem mfA_X4_readTrade : mfA yX4_readTrade cX4_readTrade 4 none 1 := ⟨ini_X4, mtb_in (List.mem_of_getElem? (i := 392) (by decide +kernel)) rfl, by decide +kernel, by decide, by decide +kernel⟩
theorem mf_X4_readTrade : mfV yX4_readTrade cX4_readTrade 4 none 1 := ⟨mfA_X4_readTrade, mtb_in (List.mem_of_getElem? (i := 391) (by decide +kernel)) rfl, mtb_in (List.mem_of_getElem? (i := 10) (by decide +kernel)) rfl⟩
theorem mfA_X4_readRest : mfA yX4_readRest cX4_readRest 3 none 1 := ⟨ini_X4, mtb_in (List.mem_of_getElem? (i := 400) (by decide +kernel)) rfl, by decide +kernel, by decide, by decide +kernel⟩
theorem mf_X4_readRest : mfV yX4_readRest cX4_readRest 3 none 1 := ⟨mfA_X4_readRest, mtb_in (List.mem_of_getElem? (i := 399) (by decide +kernel)) rfl, mtb_in (List.mem_of_getElem? (i := 11) (by decide +kernel)) rfl⟩
theorem mfA_X4_readLimit : mfA yX4_readLimit cX4_readLimit 3 none 1 := ⟨ini_X4, mtb_in (List.mem_of_getElem? (i := 404) (by decide +kernel)) rfl, by decide +kernel, by decide, by decide +kernel⟩
theorem mf_X4_readLimit : mfV yX4_readLimit cX4_readLimit 3 none 1 := ⟨mfA_X4_readLimit, mtb_in (List.mem_of_getElem? (i := 403) (by decide +kernel)) rfl, mtb_in (List.mem_of_getElem? (i := 12) (by decide +kernel)) rfl⟩
theorem mfA_X4_readAdded : mfA yX4_readAdded cX4_readAdded 3 none 1 := ⟨ini_X4, mtb_in (List.mem_of_getElem? (i := 408) (by decide +kernel)) rfl, by decide +kernel, by decide, by decide +kernel⟩
theorem mf_X4_readAdded : mfV yX4_readAdded cX4_readAdded 3 none 1 := ⟨mfA_X4_readAdded, mtb_in (List.mem_of_getElem? (i := 407) (by decide +kernel)) rfl, mtb_in (List.mem_of_getElem? (i := 13) (by decide +kernel)) rfl⟩
theorem mfA_X4_refuseIf : mfA yX4_refuseIf cX4_refuseIf 2 none 1 := ⟨ini_X4, mtb_in (List.mem_of_getElem? (i := 368) (by decide +kernel)) rfl, by decide +kernel, by decide, by decide +kernel⟩
theorem mf_X4_refuseIf : mfV yX4_refuseIf cX4_refuseIf 2 none 1 := ⟨mfA_X4_refuseIf, mtb_in (List.mem_of_getElem? (i := 367) (by decide +kernel)) rfl, mtb_in (List.mem_of_getElem? (i := 6) (by decide +kernel)) rfl⟩
theorem mfA_X4_number : mfA yX4_number cX4_number 3 (some .int) 2 := ⟨ini_X4, mtb_in (List.mem_of_getElem? (i := 372) (by decide +kernel)) rfl, by decide +kernel, by decide, by decide +kernel⟩
theorem mf_X4_number : mfV yX4_number cX4_number 3 (some .int) 2 := ⟨mfA_X4_number, mtb_in (List.mem_of_getElem? (i := 371) (by decide +kernel)) rfl, mtb_in (List.mem_of_getElem? (i := 7) (by decide +kernel)) rfl⟩
theorem mfA_X4_stops : mfA yX4_stops cX4_stops 1 (some .boolean) 0 := ⟨ini_X4, mtb_in (List.mem_of_getElem? (i := 376) (by decide +kernel)) rfl, by decide +kernel, by decide, by decide +kernel⟩
theorem mf_X4_stops : mfV yX4_stops cX4_stops 1 (some .boolean) 0 := ⟨mfA_X4_stops, mtb_in (List.mem_of_getElem? (i := 375) (by decide +kernel)) rfl, mtb_in (List.mem_of_getElem? (i := 8) (by decide +kernel)) rfl⟩
theorem mfA_X4_nextToken : mfA yX4_nextToken cX4_nextToken 2 none 0 := ⟨ini_X4, mtb_in (List.mem_of_getElem? (i := 339) (by decide +kernel)) rfl, by decide +kernel, by decide, by decide +kernel⟩
theorem mf_X4_nextToken : mfV yX4_nextToken cX4_nextToken 2 none 0 := ⟨mfA_X4_nextToken, mtb_in (List.mem_of_getElem? (i := 338) (by decide +kernel)) rfl, mtb_in (List.mem_of_getElem? (i := 1) (by decide +kernel)) rfl⟩
theorem mfA_X4_takeLetters : mfA yX4_takeLetters cX4_takeLetters 2 none 1 := ⟨ini_X4, mtb_in (List.mem_of_getElem? (i := 350) (by decide +kernel)) rfl, by decide +kernel, by decide, by decide +kernel⟩
theorem mf_X4_takeLetters : mfV yX4_takeLetters cX4_takeLetters 2 none 1 := ⟨mfA_X4_takeLetters, mtb_in (List.mem_of_getElem? (i := 349) (by decide +kernel)) rfl, mtb_in (List.mem_of_getElem? (i := 3) (by decide +kernel)) rfl⟩
theorem mfA_X4_takeNumber : mfA yX4_takeNumber cX4_takeNumber 3 none 1 := ⟨ini_X4, mtb_in (List.mem_of_getElem? (i := 357) (by decide +kernel)) rfl, by decide +kernel, by decide, by decide +kernel⟩
theorem mf_X4_takeNumber : mfV yX4_takeNumber cX4_takeNumber 3 none 1 := ⟨mfA_X4_takeNumber, mtb_in (List.mem_of_getElem? (i := 356) (by decide +kernel)) rfl, mtb_in (List.mem_of_getElem? (i := 4) (by decide +kernel)) rfl⟩
theorem mfA_X4_byteAt : mfA yX4_byteAt cX4_byteAt 2 (some .int) 1 := ⟨ini_X4, mtb_in (List.mem_of_getElem? (i := 343) (by decide +kernel)) rfl, by decide +kernel, by decide, by decide +kernel⟩
theorem mf_X4_byteAt : mfV yX4_byteAt cX4_byteAt 2 (some .int) 1 := ⟨mfA_X4_byteAt, mtb_in (List.mem_of_getElem? (i := 342) (by decide +kernel)) rfl, mtb_in (List.mem_of_getElem? (i := 2) (by decide +kernel)) rfl⟩
theorem mfA_X4_isLetter : mfA yX4_isLetter cX4_isLetter 1 (some .boolean) 1 := ⟨ini_X4, mtb_in (List.mem_of_getElem? (i := 346) (by decide +kernel)) rfl, by decide +kernel, by decide, by decide +kernel⟩
theorem mf_X4_isLetter : mfS yX4_isLetter cX4_isLetter 1 (some .boolean) 1 := ⟨mfA_X4_isLetter, mtb_in (List.mem_of_getElem? (i := 345) (by decide +kernel)) rfl⟩
theorem mfA_X4_isDigit : mfA yX4_isDigit cX4_isDigit 1 (some .boolean) 1 := ⟨ini_X4, mtb_in (List.mem_of_getElem? (i := 353) (by decide +kernel)) rfl, by decide +kernel, by decide, by decide +kernel⟩
theorem mf_X4_isDigit : mfS yX4_isDigit cX4_isDigit 1 (some .boolean) 1 := ⟨mfA_X4_isDigit, mtb_in (List.mem_of_getElem? (i := 352) (by decide +kernel)) rfl⟩
theorem mfA_X5_wipe : mfA yX5_wipe cX5_wipe 1 none 0 := ⟨ini_X5, mtb_in (List.mem_of_getElem? (i := 136) (by decide +kernel)) rfl, by decide +kernel, by decide, by decide +kernel⟩
theorem mf_X5_wipe : mfV yX5_wipe cX5_wipe 1 none 0 := ⟨mfA_X5_wipe, mtb_in (List.mem_of_getElem? (i := 134) (by decide +kernel)) rfl, mtb_in (List.mem_of_getElem? (i := 135) (by decide +kernel)) rfl⟩
theorem mfA_X5_hasTrade : mfA yX5_hasTrade cX5_hasTrade 2 (some .boolean) 1 := ⟨ini_X5, mtb_in (List.mem_of_getElem? (i := 435) (by decide +kernel)) rfl, by decide +kernel, by decide, by decide +kernel⟩
theorem mf_X5_hasTrade : mfV yX5_hasTrade cX5_hasTrade 2 (some .boolean) 1 := ⟨mfA_X5_hasTrade, mtb_in (List.mem_of_getElem? (i := 433) (by decide +kernel)) rfl, mtb_in (List.mem_of_getElem? (i := 434) (by decide +kernel)) rfl⟩
theorem mfA_X5_sunOf : mfA yX5_sunOf cX5_sunOf 2 (some .int) 1 := ⟨ini_X5, mtb_in (List.mem_of_getElem? (i := 417) (by decide +kernel)) rfl, by decide +kernel, by decide, by decide +kernel⟩
theorem mf_X5_sunOf : mfV yX5_sunOf cX5_sunOf 2 (some .int) 1 := ⟨mfA_X5_sunOf, mtb_in (List.mem_of_getElem? (i := 415) (by decide +kernel)) rfl, mtb_in (List.mem_of_getElem? (i := 416) (by decide +kernel)) rfl⟩
theorem mfA_X5_ofBribe : mfA yX5_ofBribe cX5_ofBribe 4 (some .int) 2 := ⟨ini_X5, mtb_in (List.mem_of_getElem? (i := 426) (by decide +kernel)) rfl, by decide +kernel, by decide, by decide +kernel⟩
theorem mf_X5_ofBribe : mfV yX5_ofBribe cX5_ofBribe 4 (some .int) 2 := ⟨mfA_X5_ofBribe, mtb_in (List.mem_of_getElem? (i := 424) (by decide +kernel)) rfl, mtb_in (List.mem_of_getElem? (i := 425) (by decide +kernel)) rfl⟩
theorem mfA_X5_ofTrade : mfA yX5_ofTrade cX5_ofTrade 4 (some .int) 2 := ⟨ini_X5, mtb_in (List.mem_of_getElem? (i := 443) (by decide +kernel)) rfl, by decide +kernel, by decide, by decide +kernel⟩
theorem mf_X5_ofTrade : mfV yX5_ofTrade cX5_ofTrade 4 (some .int) 2 := ⟨mfA_X5_ofTrade, mtb_in (List.mem_of_getElem? (i := 441) (by decide +kernel)) rfl, mtb_in (List.mem_of_getElem? (i := 442) (by decide +kernel)) rfl⟩
theorem mfA_X5_addDay : mfA yX5_addDay cX5_addDay 2 none 1 := ⟨ini_X5, mtb_in (List.mem_of_getElem? (i := 380) (by decide +kernel)) rfl, by decide +kernel, by decide, by decide +kernel⟩
theorem mf_X5_addDay : mfV yX5_addDay cX5_addDay 2 none 1 := ⟨mfA_X5_addDay, mtb_in (List.mem_of_getElem? (i := 378) (by decide +kernel)) rfl, mtb_in (List.mem_of_getElem? (i := 379) (by decide +kernel)) rfl⟩
theorem mfA_X5_addBribe : mfA yX5_addBribe cX5_addBribe 6 none 4 := ⟨ini_X5, mtb_in (List.mem_of_getElem? (i := 388) (by decide +kernel)) rfl, by decide +kernel, by decide, by decide +kernel⟩
theorem mf_X5_addBribe : mfV yX5_addBribe cX5_addBribe 6 none 4 := ⟨mfA_X5_addBribe, mtb_in (List.mem_of_getElem? (i := 386) (by decide +kernel)) rfl, mtb_in (List.mem_of_getElem? (i := 387) (by decide +kernel)) rfl⟩
theorem mfA_X5_addTrade : mfA yX5_addTrade cX5_addTrade 4 none 2 := ⟨ini_X5, mtb_in (List.mem_of_getElem? (i := 396) (by decide +kernel)) rfl, by decide +kernel, by decide, by decide +kernel⟩
theorem mf_X5_addTrade : mfV yX5_addTrade cX5_addTrade 4 none 2 := ⟨mfA_X5_addTrade, mtb_in (List.mem_of_getElem? (i := 394) (by decide +kernel)) rfl, mtb_in (List.mem_of_getElem? (i := 395) (by decide +kernel)) rfl⟩
theorem mfA_X5_candlesFor : mfA yX5_candlesFor cX5_candlesFor 7 (some .int) 2 := ⟨ini_X5, mtb_in (List.mem_of_getElem? (i := 500) (by decide +kernel)) rfl, by decide +kernel, by decide, by decide +kernel⟩
theorem mf_X5_candlesFor : mfV yX5_candlesFor cX5_candlesFor 7 (some .int) 2 := ⟨mfA_X5_candlesFor, mtb_in (List.mem_of_getElem? (i := 498) (by decide +kernel)) rfl, mtb_in (List.mem_of_getElem? (i := 499) (by decide +kernel)) rfl⟩
theorem mfA_X5_harmTo : mfA yX5_harmTo cX5_harmTo 4 (some .int) 2 := ⟨ini_X5, mtb_in (List.mem_of_getElem? (i := 507) (by decide +kernel)) rfl, by decide +kernel, by decide, by decide +kernel⟩
theorem mf_X5_harmTo : mfV yX5_harmTo cX5_harmTo 4 (some .int) 2 := ⟨mfA_X5_harmTo, mtb_in (List.mem_of_getElem? (i := 505) (by decide +kernel)) rfl, mtb_in (List.mem_of_getElem? (i := 506) (by decide +kernel)) rfl⟩
theorem mfA_X5_harmToAll : mfA yX5_harmToAll cX5_harmToAll 4 (some .int) 1 := ⟨ini_X5, mtb_in (List.mem_of_getElem? (i := 682) (by decide +kernel)) rfl, by decide +kernel, by decide, by decide +kernel⟩
theorem mf_X5_harmToAll : mfV yX5_harmToAll cX5_harmToAll 4 (some .int) 1 := ⟨mfA_X5_harmToAll, mtb_in (List.mem_of_getElem? (i := 680) (by decide +kernel)) rfl, mtb_in (List.mem_of_getElem? (i := 681) (by decide +kernel)) rfl⟩
theorem mfA_X6_type : mfA yX6_type cX6_type 2 (some .int) 1 := ⟨ini_X6, mtb_in (List.mem_of_getElem? (i := 314) (by decide +kernel)) rfl, by decide +kernel, by decide, by decide +kernel⟩
theorem mf_X6_type : mfV yX6_type cX6_type 2 (some .int) 1 := ⟨mfA_X6_type, mtb_in (List.mem_of_getElem? (i := 312) (by decide +kernel)) rfl, mtb_in (List.mem_of_getElem? (i := 313) (by decide +kernel)) rfl⟩
theorem mfA_X6_clear : mfA yX6_clear cX6_clear 2 (some .int) 0 := ⟨ini_X6, mtb_in (List.mem_of_getElem? (i := 322) (by decide +kernel)) rfl, by decide +kernel, by decide, by decide +kernel⟩
theorem mf_X6_clear : mfV yX6_clear cX6_clear 2 (some .int) 0 := ⟨mfA_X6_clear, mtb_in (List.mem_of_getElem? (i := 320) (by decide +kernel)) rfl, mtb_in (List.mem_of_getElem? (i := 321) (by decide +kernel)) rfl⟩
theorem mfA_X6_sentence : mfA yX6_sentence cX6_sentence 3 (some .int) 0 := ⟨ini_X6, mtb_in (List.mem_of_getElem? (i := 326) (by decide +kernel)) rfl, by decide +kernel, by decide, by decide +kernel⟩
theorem mf_X6_sentence : mfV yX6_sentence cX6_sentence 3 (some .int) 0 := ⟨mfA_X6_sentence, mtb_in (List.mem_of_getElem? (i := 324) (by decide +kernel)) rfl, mtb_in (List.mem_of_getElem? (i := 325) (by decide +kernel)) rfl⟩
theorem mfA_X6_sun : mfA yX6_sun cX6_sun 2 (some .int) 1 := ⟨ini_X6, mtb_in (List.mem_of_getElem? (i := 413) (by decide +kernel)) rfl, by decide +kernel, by decide, by decide +kernel⟩
theorem mf_X6_sun : mfV yX6_sun cX6_sun 2 (some .int) 1 := ⟨mfA_X6_sun, mtb_in (List.mem_of_getElem? (i := 411) (by decide +kernel)) rfl, mtb_in (List.mem_of_getElem? (i := 412) (by decide +kernel)) rfl⟩
theorem mfA_X6_bribe : mfA yX6_bribe cX6_bribe 3 (some .int) 2 := ⟨ini_X6, mtb_in (List.mem_of_getElem? (i := 421) (by decide +kernel)) rfl, by decide +kernel, by decide, by decide +kernel⟩
theorem mf_X6_bribe : mfV yX6_bribe cX6_bribe 3 (some .int) 2 := ⟨mfA_X6_bribe, mtb_in (List.mem_of_getElem? (i := 419) (by decide +kernel)) rfl, mtb_in (List.mem_of_getElem? (i := 420) (by decide +kernel)) rfl⟩
theorem mfA_X6_trade : mfA yX6_trade cX6_trade 3 (some .int) 2 := ⟨ini_X6, mtb_in (List.mem_of_getElem? (i := 431) (by decide +kernel)) rfl, by decide +kernel, by decide, by decide +kernel⟩
theorem mf_X6_trade : mfV yX6_trade cX6_trade 3 (some .int) 2 := ⟨mfA_X6_trade, mtb_in (List.mem_of_getElem? (i := 429) (by decide +kernel)) rfl, mtb_in (List.mem_of_getElem? (i := 430) (by decide +kernel)) rfl⟩
theorem mfA_X6_winds : mfA yX6_winds cX6_winds 3 (some .int) 2 := ⟨ini_X6, mtb_in (List.mem_of_getElem? (i := 447) (by decide +kernel)) rfl, by decide +kernel, by decide, by decide +kernel⟩
theorem mf_X6_winds : mfV yX6_winds cX6_winds 3 (some .int) 2 := ⟨mfA_X6_winds, mtb_in (List.mem_of_getElem? (i := 445) (by decide +kernel)) rfl, mtb_in (List.mem_of_getElem? (i := 446) (by decide +kernel)) rfl⟩
theorem mfA_X6_watches : mfA yX6_watches cX6_watches 1 (some .int) 0 := ⟨ini_X6, mtb_in (List.mem_of_getElem? (i := 532) (by decide +kernel)) rfl, by decide +kernel, by decide, by decide +kernel⟩
theorem mf_X6_watches : mfV yX6_watches cX6_watches 1 (some .int) 0 := ⟨mfA_X6_watches, mtb_in (List.mem_of_getElem? (i := 530) (by decide +kernel)) rfl, mtb_in (List.mem_of_getElem? (i := 531) (by decide +kernel)) rfl⟩
theorem mfA_X6_pays : mfA yX6_pays cX6_pays 3 (some .int) 2 := ⟨ini_X6, mtb_in (List.mem_of_getElem? (i := 540) (by decide +kernel)) rfl, by decide +kernel, by decide, by decide +kernel⟩
theorem mf_X6_pays : mfV yX6_pays cX6_pays 3 (some .int) 2 := ⟨mfA_X6_pays, mtb_in (List.mem_of_getElem? (i := 538) (by decide +kernel)) rfl, mtb_in (List.mem_of_getElem? (i := 539) (by decide +kernel)) rfl⟩
theorem mfA_X6_corrects : mfA yX6_corrects cX6_corrects 2 (some .int) 1 := ⟨ini_X6, mtb_in (List.mem_of_getElem? (i := 549) (by decide +kernel)) rfl, by decide +kernel, by decide, by decide +kernel⟩
theorem mf_X6_corrects : mfV yX6_corrects cX6_corrects 2 (some .int) 1 := ⟨mfA_X6_corrects, mtb_in (List.mem_of_getElem? (i := 547) (by decide +kernel)) rfl, mtb_in (List.mem_of_getElem? (i := 548) (by decide +kernel)) rfl⟩
theorem mfA_X6_undo : mfA yX6_undo cX6_undo 1 (some .int) 0 := ⟨ini_X6, mtb_in (List.mem_of_getElem? (i := 557) (by decide +kernel)) rfl, by decide +kernel, by decide, by decide +kernel⟩
theorem mf_X6_undo : mfV yX6_undo cX6_undo 1 (some .int) 0 := ⟨mfA_X6_undo, mtb_in (List.mem_of_getElem? (i := 555) (by decide +kernel)) rfl, mtb_in (List.mem_of_getElem? (i := 556) (by decide +kernel)) rfl⟩
theorem mfA_X6_now : mfA yX6_now cX6_now 2 (some .int) 1 := ⟨ini_X6, mtb_in (List.mem_of_getElem? (i := 565) (by decide +kernel)) rfl, by decide +kernel, by decide, by decide +kernel⟩
theorem mf_X6_now : mfV yX6_now cX6_now 2 (some .int) 1 := ⟨mfA_X6_now, mtb_in (List.mem_of_getElem? (i := 563) (by decide +kernel)) rfl, mtb_in (List.mem_of_getElem? (i := 564) (by decide +kernel)) rfl⟩
theorem mfA_X6_soonest : mfA yX6_soonest cX6_soonest 1 (some .int) 0 := ⟨ini_X6, mtb_in (List.mem_of_getElem? (i := 581) (by decide +kernel)) rfl, by decide +kernel, by decide, by decide +kernel⟩
theorem mf_X6_soonest : mfV yX6_soonest cX6_soonest 1 (some .int) 0 := ⟨mfA_X6_soonest, mtb_in (List.mem_of_getElem? (i := 579) (by decide +kernel)) rfl, mtb_in (List.mem_of_getElem? (i := 580) (by decide +kernel)) rfl⟩
theorem mfA_X6_chance : mfA yX6_chance cX6_chance 3 (some .int) 2 := ⟨ini_X6, mtb_in (List.mem_of_getElem? (i := 593) (by decide +kernel)) rfl, by decide +kernel, by decide, by decide +kernel⟩
theorem mf_X6_chance : mfV yX6_chance cX6_chance 3 (some .int) 2 := ⟨mfA_X6_chance, mtb_in (List.mem_of_getElem? (i := 591) (by decide +kernel)) rfl, mtb_in (List.mem_of_getElem? (i := 592) (by decide +kernel)) rfl⟩
theorem mfA_X6_safe : mfA yX6_safe cX6_safe 2 (some .int) 1 := ⟨ini_X6, mtb_in (List.mem_of_getElem? (i := 639) (by decide +kernel)) rfl, by decide +kernel, by decide, by decide +kernel⟩
theorem mf_X6_safe : mfV yX6_safe cX6_safe 2 (some .int) 1 := ⟨mfA_X6_safe, mtb_in (List.mem_of_getElem? (i := 637) (by decide +kernel)) rfl, mtb_in (List.mem_of_getElem? (i := 638) (by decide +kernel)) rfl⟩
theorem mfA_X6_least : mfA yX6_least cX6_least 3 (some .int) 2 := ⟨ini_X6, mtb_in (List.mem_of_getElem? (i := 687) (by decide +kernel)) rfl, by decide +kernel, by decide, by decide +kernel⟩
theorem mf_X6_least : mfV yX6_least cX6_least 3 (some .int) 2 := ⟨mfA_X6_least, mtb_in (List.mem_of_getElem? (i := 685) (by decide +kernel)) rfl, mtb_in (List.mem_of_getElem? (i := 686) (by decide +kernel)) rfl⟩
theorem mfA_X6_catches : mfA yX6_catches cX6_catches 2 (some .int) 1 := ⟨ini_X6, mtb_in (List.mem_of_getElem? (i := 696) (by decide +kernel)) rfl, by decide +kernel, by decide, by decide +kernel⟩
theorem mf_X6_catches : mfV yX6_catches cX6_catches 2 (some .int) 1 := ⟨mfA_X6_catches, mtb_in (List.mem_of_getElem? (i := 694) (by decide +kernel)) rfl, mtb_in (List.mem_of_getElem? (i := 695) (by decide +kernel)) rfl⟩
theorem mfA_X6_hears : mfA yX6_hears cX6_hears 4 (some .int) 3 := ⟨ini_X6, mtb_in (List.mem_of_getElem? (i := 706) (by decide +kernel)) rfl, by decide +kernel, by decide, by decide +kernel⟩
theorem mf_X6_hears : mfV yX6_hears cX6_hears 4 (some .int) 3 := ⟨mfA_X6_hears, mtb_in (List.mem_of_getElem? (i := 704) (by decide +kernel)) rfl, mtb_in (List.mem_of_getElem? (i := 705) (by decide +kernel)) rfl⟩
theorem mfA_X6_forget : mfA yX6_forget cX6_forget 2 (some .int) 0 := ⟨ini_X6, mtb_in (List.mem_of_getElem? (i := 717) (by decide +kernel)) rfl, by decide +kernel, by decide, by decide +kernel⟩
theorem mf_X6_forget : mfV yX6_forget cX6_forget 2 (some .int) 0 := ⟨mfA_X6_forget, mtb_in (List.mem_of_getElem? (i := 715) (by decide +kernel)) rfl, mtb_in (List.mem_of_getElem? (i := 716) (by decide +kernel)) rfl⟩
theorem mfA_X6_could : mfA yX6_could cX6_could 2 (some .int) 1 := ⟨ini_X6, mtb_in (List.mem_of_getElem? (i := 721) (by decide +kernel)) rfl, by decide +kernel, by decide, by decide +kernel⟩
theorem mf_X6_could : mfV yX6_could cX6_could 2 (some .int) 1 := ⟨mfA_X6_could, mtb_in (List.mem_of_getElem? (i := 719) (by decide +kernel)) rfl, mtb_in (List.mem_of_getElem? (i := 720) (by decide +kernel)) rfl⟩
theorem mfA_X6_ways : mfA yX6_ways cX6_ways 1 (some .int) 0 := ⟨ini_X6, mtb_in (List.mem_of_getElem? (i := 739) (by decide +kernel)) rfl, by decide +kernel, by decide, by decide +kernel⟩
theorem mf_X6_ways : mfV yX6_ways cX6_ways 1 (some .int) 0 := ⟨mfA_X6_ways, mtb_in (List.mem_of_getElem? (i := 737) (by decide +kernel)) rfl, mtb_in (List.mem_of_getElem? (i := 738) (by decide +kernel)) rfl⟩
theorem mfA_X6_ask : mfA yX6_ask cX6_ask 1 (some .int) 0 := ⟨ini_X6, mtb_in (List.mem_of_getElem? (i := 764) (by decide +kernel)) rfl, by decide +kernel, by decide, by decide +kernel⟩
theorem mf_X6_ask : mfV yX6_ask cX6_ask 1 (some .int) 0 := ⟨mfA_X6_ask, mtb_in (List.mem_of_getElem? (i := 762) (by decide +kernel)) rfl, mtb_in (List.mem_of_getElem? (i := 763) (by decide +kernel)) rfl⟩
theorem mfA_X6_mark : mfA yX6_mark cX6_mark 3 (some .int) 2 := ⟨ini_X6, mtb_in (List.mem_of_getElem? (i := 779) (by decide +kernel)) rfl, by decide +kernel, by decide, by decide +kernel⟩
theorem mf_X6_mark : mfV yX6_mark cX6_mark 3 (some .int) 2 := ⟨mfA_X6_mark, mtb_in (List.mem_of_getElem? (i := 777) (by decide +kernel)) rfl, mtb_in (List.mem_of_getElem? (i := 778) (by decide +kernel)) rfl⟩
theorem mfA_X6_keep : mfA yX6_keep cX6_keep 3 (some .int) 1 := ⟨ini_X6, mtb_in (List.mem_of_getElem? (i := 812) (by decide +kernel)) rfl, by decide +kernel, by decide, by decide +kernel⟩
theorem mf_X6_keep : mfV yX6_keep cX6_keep 3 (some .int) 1 := ⟨mfA_X6_keep, mtb_in (List.mem_of_getElem? (i := 810) (by decide +kernel)) rfl, mtb_in (List.mem_of_getElem? (i := 811) (by decide +kernel)) rfl⟩
theorem mfA_X6_back : mfA yX6_back cX6_back 3 (some .int) 1 := ⟨ini_X6, mtb_in (List.mem_of_getElem? (i := 820) (by decide +kernel)) rfl, by decide +kernel, by decide, by decide +kernel⟩
theorem mf_X6_back : mfV yX6_back cX6_back 3 (some .int) 1 := ⟨mfA_X6_back, mtb_in (List.mem_of_getElem? (i := 818) (by decide +kernel)) rfl, mtb_in (List.mem_of_getElem? (i := 819) (by decide +kernel)) rfl⟩
theorem mfA_X6_count : mfA yX6_count cX6_count 2 (some .int) 1 := ⟨ini_X6, mtb_in (List.mem_of_getElem? (i := 824) (by decide +kernel)) rfl, by decide +kernel, by decide, by decide +kernel⟩
theorem mf_X6_count : mfV yX6_count cX6_count 2 (some .int) 1 := ⟨mfA_X6_count, mtb_in (List.mem_of_getElem? (i := 822) (by decide +kernel)) rfl, mtb_in (List.mem_of_getElem? (i := 823) (by decide +kernel)) rfl⟩
theorem mfA_X6_trace : mfA yX6_trace cX6_trace 1 (some .long) 0 := ⟨ini_X6, mtb_in (List.mem_of_getElem? (i := 828) (by decide +kernel)) rfl, by decide +kernel, by decide, by decide +kernel⟩
theorem mf_X6_trace : mfV yX6_trace cX6_trace 1 (some .long) 0 := ⟨mfA_X6_trace, mtb_in (List.mem_of_getElem? (i := 826) (by decide +kernel)) rfl, mtb_in (List.mem_of_getElem? (i := 827) (by decide +kernel)) rfl⟩
theorem mfA_X6_asTrade : mfA yX6_asTrade cX6_asTrade 2 (some .int) 1 := ⟨ini_X6, mtb_in (List.mem_of_getElem? (i := 783) (by decide +kernel)) rfl, by decide +kernel, by decide, by decide +kernel⟩
theorem mf_X6_asTrade : mfV yX6_asTrade cX6_asTrade 2 (some .int) 1 := ⟨mfA_X6_asTrade, mtb_in (List.mem_of_getElem? (i := 782) (by decide +kernel)) rfl, mtb_in (List.mem_of_getElem? (i := 35) (by decide +kernel)) rfl⟩
theorem mfA_X6_asBaker : mfA yX6_asBaker cX6_asBaker 2 (some .int) 1 := ⟨ini_X6, mtb_in (List.mem_of_getElem? (i := 787) (by decide +kernel)) rfl, by decide +kernel, by decide, by decide +kernel⟩
theorem mf_X6_asBaker : mfV yX6_asBaker cX6_asBaker 2 (some .int) 1 := ⟨mfA_X6_asBaker, mtb_in (List.mem_of_getElem? (i := 786) (by decide +kernel)) rfl, mtb_in (List.mem_of_getElem? (i := 36) (by decide +kernel)) rfl⟩
theorem mfA_X6_asCourt : mfA yX6_asCourt cX6_asCourt 2 (some .int) 1 := ⟨ini_X6, mtb_in (List.mem_of_getElem? (i := 792) (by decide +kernel)) rfl, by decide +kernel, by decide, by decide +kernel⟩
theorem mf_X6_asCourt : mfV yX6_asCourt cX6_asCourt 2 (some .int) 1 := ⟨mfA_X6_asCourt, mtb_in (List.mem_of_getElem? (i := 791) (by decide +kernel)) rfl, mtb_in (List.mem_of_getElem? (i := 37) (by decide +kernel)) rfl⟩
theorem mfA_X6_asSweetheart : mfA yX6_asSweetheart cX6_asSweetheart 2 (some .int) 1 := ⟨ini_X6, mtb_in (List.mem_of_getElem? (i := 797) (by decide +kernel)) rfl, by decide +kernel, by decide, by decide +kernel⟩
theorem mf_X6_asSweetheart : mfV yX6_asSweetheart cX6_asSweetheart 2 (some .int) 1 := ⟨mfA_X6_asSweetheart, mtb_in (List.mem_of_getElem? (i := 796) (by decide +kernel)) rfl, mtb_in (List.mem_of_getElem? (i := 38) (by decide +kernel)) rfl⟩
theorem mfA_X6_asWife : mfA yX6_asWife cX6_asWife 2 (some .int) 1 := ⟨ini_X6, mtb_in (List.mem_of_getElem? (i := 802) (by decide +kernel)) rfl, by decide +kernel, by decide, by decide +kernel⟩
theorem mf_X6_asWife : mfV yX6_asWife cX6_asWife 2 (some .int) 1 := ⟨mfA_X6_asWife, mtb_in (List.mem_of_getElem? (i := 801) (by decide +kernel)) rfl, mtb_in (List.mem_of_getElem? (i := 39) (by decide +kernel)) rfl⟩
theorem mfA_X6_asHen : mfA yX6_asHen cX6_asHen 2 (some .int) 1 := ⟨ini_X6, mtb_in (List.mem_of_getElem? (i := 807) (by decide +kernel)) rfl, by decide +kernel, by decide, by decide +kernel⟩
theorem mf_X6_asHen : mfV yX6_asHen cX6_asHen 2 (some .int) 1 := ⟨mfA_X6_asHen, mtb_in (List.mem_of_getElem? (i := 806) (by decide +kernel)) rfl, mtb_in (List.mem_of_getElem? (i := 40) (by decide +kernel)) rfl⟩
theorem mfA_X6_isPace : mfA yX6_isPace cX6_isPace 1 (some .boolean) 1 := ⟨ini_X6, mtb_in (List.mem_of_getElem? (i := 450) (by decide +kernel)) rfl, by decide +kernel, by decide, by decide +kernel⟩
theorem mf_X6_isPace : mfS yX6_isPace cX6_isPace 1 (some .boolean) 1 := ⟨mfA_X6_isPace, mtb_in (List.mem_of_getElem? (i := 449) (by decide +kernel)) rfl⟩
theorem mfA_X6_isBeyond : mfA yX6_isBeyond cX6_isBeyond 1 (some .boolean) 1 := ⟨ini_X6, mtb_in (List.mem_of_getElem? (i := 477) (by decide +kernel)) rfl, by decide +kernel, by decide, by decide +kernel⟩
theorem mf_X6_isBeyond : mfS yX6_isBeyond cX6_isBeyond 1 (some .boolean) 1 := ⟨mfA_X6_isBeyond, mtb_in (List.mem_of_getElem? (i := 476) (by decide +kernel)) rfl⟩
theorem mfA_X7_in : mfA yX7_in cX7_in 3 (some .boolean) 3 := ⟨ini_X7, mtb_in (List.mem_of_getElem? (i := 948) (by decide +kernel)) rfl, by decide +kernel, by decide, by decide +kernel⟩
theorem mf_X7_in : mfS yX7_in cX7_in 3 (some .boolean) 3 := ⟨mfA_X7_in, mtb_in (List.mem_of_getElem? (i := 947) (by decide +kernel)) rfl⟩
theorem mfA_X7_size : mfA yX7_size cX7_size 1 (some .int) 1 := ⟨ini_X7, mtb_in (List.mem_of_getElem? (i := 1033) (by decide +kernel)) rfl, by decide +kernel, by decide, by decide +kernel⟩
theorem mf_X7_size : mfS yX7_size cX7_size 1 (some .int) 1 := ⟨mfA_X7_size, mtb_in (List.mem_of_getElem? (i := 1032) (by decide +kernel)) rfl⟩
theorem mfA_X7_isTrade : mfA yX7_isTrade cX7_isTrade 2 (some .boolean) 1 := ⟨ini_X7, mtb_in (List.mem_of_getElem? (i := 1011) (by decide +kernel)) rfl, by decide +kernel, by decide, by decide +kernel⟩
theorem mf_X7_isTrade : mfV yX7_isTrade cX7_isTrade 2 (some .boolean) 1 := ⟨mfA_X7_isTrade, mtb_in (List.mem_of_getElem? (i := 1010) (by decide +kernel)) rfl, mtb_in (List.mem_of_getElem? (i := 49) (by decide +kernel)) rfl⟩
theorem mfA_X7_isPace : mfA yX7_isPace cX7_isPace 1 (some .boolean) 1 := ⟨ini_X7, mtb_in (List.mem_of_getElem? (i := 1018) (by decide +kernel)) rfl, by decide +kernel, by decide, by decide +kernel⟩
theorem mf_X7_isPace : mfS yX7_isPace cX7_isPace 1 (some .boolean) 1 := ⟨mfA_X7_isPace, mtb_in (List.mem_of_getElem? (i := 1017) (by decide +kernel)) rfl⟩
theorem mfA_X7_type : mfA yX7_type cX7_type 2 (some .int) 1 := ⟨ini_X7, mtb_in (List.mem_of_getElem? (i := 945) (by decide +kernel)) rfl, by decide +kernel, by decide, by decide +kernel⟩
theorem mf_X7_type : mfV yX7_type cX7_type 2 (some .int) 1 := ⟨mfA_X7_type, mtb_in (List.mem_of_getElem? (i := 943) (by decide +kernel)) rfl, mtb_in (List.mem_of_getElem? (i := 944) (by decide +kernel)) rfl⟩
theorem mfA_X7_clear : mfA yX7_clear cX7_clear 2 (some .int) 0 := ⟨ini_X7, mtb_in (List.mem_of_getElem? (i := 952) (by decide +kernel)) rfl, by decide +kernel, by decide, by decide +kernel⟩
theorem mf_X7_clear : mfV yX7_clear cX7_clear 2 (some .int) 0 := ⟨mfA_X7_clear, mtb_in (List.mem_of_getElem? (i := 950) (by decide +kernel)) rfl, mtb_in (List.mem_of_getElem? (i := 951) (by decide +kernel)) rfl⟩
theorem mfA_X7_letterAt : mfA yX7_letterAt cX7_letterAt 2 (some .int) 1 := ⟨ini_X7, mtb_in (List.mem_of_getElem? (i := 964) (by decide +kernel)) rfl, by decide +kernel, by decide, by decide +kernel⟩
theorem mf_X7_letterAt : mfV yX7_letterAt cX7_letterAt 2 (some .int) 1 := ⟨mfA_X7_letterAt, mtb_in (List.mem_of_getElem? (i := 963) (by decide +kernel)) rfl, mtb_in (List.mem_of_getElem? (i := 42) (by decide +kernel)) rfl⟩
theorem mfA_X7_isFigure : mfA yX7_isFigure cX7_isFigure 1 (some .boolean) 1 := ⟨ini_X7, mtb_in (List.mem_of_getElem? (i := 967) (by decide +kernel)) rfl, by decide +kernel, by decide, by decide +kernel⟩
theorem mf_X7_isFigure : mfS yX7_isFigure cX7_isFigure 1 (some .boolean) 1 := ⟨mfA_X7_isFigure, mtb_in (List.mem_of_getElem? (i := 966) (by decide +kernel)) rfl⟩
theorem mfA_X7_isLetter : mfA yX7_isLetter cX7_isLetter 1 (some .boolean) 1 := ⟨ini_X7, mtb_in (List.mem_of_getElem? (i := 970) (by decide +kernel)) rfl, by decide +kernel, by decide, by decide +kernel⟩
theorem mf_X7_isLetter : mfS yX7_isLetter cX7_isLetter 1 (some .boolean) 1 := ⟨mfA_X7_isLetter, mtb_in (List.mem_of_getElem? (i := 969) (by decide +kernel)) rfl⟩
theorem mfA_X7_next : mfA yX7_next cX7_next 2 none 0 := ⟨ini_X7, mtb_in (List.mem_of_getElem? (i := 960) (by decide +kernel)) rfl, by decide +kernel, by decide, by decide +kernel⟩
theorem mf_X7_next : mfV yX7_next cX7_next 2 none 0 := ⟨mfA_X7_next, mtb_in (List.mem_of_getElem? (i := 959) (by decide +kernel)) rfl, mtb_in (List.mem_of_getElem? (i := 41) (by decide +kernel)) rfl⟩
theorem mfA_X7_takesNumber : mfA yX7_takesNumber cX7_takesNumber 5 (some .int) 2 := ⟨ini_X7, mtb_in (List.mem_of_getElem? (i := 986) (by decide +kernel)) rfl, by decide +kernel, by decide, by decide +kernel⟩
theorem mf_X7_takesNumber : mfV yX7_takesNumber cX7_takesNumber 5 (some .int) 2 := ⟨mfA_X7_takesNumber, mtb_in (List.mem_of_getElem? (i := 985) (by decide +kernel)) rfl, mtb_in (List.mem_of_getElem? (i := 46) (by decide +kernel)) rfl⟩
theorem mfA_X7_readBribe : mfA yX7_readBribe cX7_readBribe 2 none 0 := ⟨ini_X7, mtb_in (List.mem_of_getElem? (i := 990) (by decide +kernel)) rfl, by decide +kernel, by decide, by decide +kernel⟩
theorem mf_X7_readBribe : mfV yX7_readBribe cX7_readBribe 2 none 0 := ⟨mfA_X7_readBribe, mtb_in (List.mem_of_getElem? (i := 989) (by decide +kernel)) rfl, mtb_in (List.mem_of_getElem? (i := 47) (by decide +kernel)) rfl⟩
theorem mfA_X7_mayBegin : mfA yX7_mayBegin cX7_mayBegin 2 (some .boolean) 1 := ⟨ini_X7, mtb_in (List.mem_of_getElem? (i := 978) (by decide +kernel)) rfl, by decide +kernel, by decide, by decide +kernel⟩
theorem mf_X7_mayBegin : mfV yX7_mayBegin cX7_mayBegin 2 (some .boolean) 1 := ⟨mfA_X7_mayBegin, mtb_in (List.mem_of_getElem? (i := 977) (by decide +kernel)) rfl, mtb_in (List.mem_of_getElem? (i := 44) (by decide +kernel)) rfl⟩
theorem mfA_X7_readBody : mfA yX7_readBody cX7_readBody 2 none 1 := ⟨ini_X7, mtb_in (List.mem_of_getElem? (i := 982) (by decide +kernel)) rfl, by decide +kernel, by decide, by decide +kernel⟩
theorem mf_X7_readBody : mfV yX7_readBody cX7_readBody 2 none 1 := ⟨mfA_X7_readBody, mtb_in (List.mem_of_getElem? (i := 981) (by decide +kernel)) rfl, mtb_in (List.mem_of_getElem? (i := 45) (by decide +kernel)) rfl⟩
theorem mfA_X7_readItem : mfA yX7_readItem cX7_readItem 2 none 0 := ⟨ini_X7, mtb_in (List.mem_of_getElem? (i := 974) (by decide +kernel)) rfl, by decide +kernel, by decide, by decide +kernel⟩
theorem mf_X7_readItem : mfV yX7_readItem cX7_readItem 2 none 0 := ⟨mfA_X7_readItem, mtb_in (List.mem_of_getElem? (i := 973) (by decide +kernel)) rfl, mtb_in (List.mem_of_getElem? (i := 43) (by decide +kernel)) rfl⟩
theorem mfA_X7_sentence : mfA yX7_sentence cX7_sentence 1 (some .int) 0 := ⟨ini_X7, mtb_in (List.mem_of_getElem? (i := 956) (by decide +kernel)) rfl, by decide +kernel, by decide, by decide +kernel⟩
theorem mf_X7_sentence : mfV yX7_sentence cX7_sentence 1 (some .int) 0 := ⟨mfA_X7_sentence, mtb_in (List.mem_of_getElem? (i := 954) (by decide +kernel)) rfl, mtb_in (List.mem_of_getElem? (i := 955) (by decide +kernel)) rfl⟩
theorem mfA_X7_settles : mfA yX7_settles cX7_settles 2 none 0 := ⟨ini_X7, mtb_in (List.mem_of_getElem? (i := 994) (by decide +kernel)) rfl, by decide +kernel, by decide, by decide +kernel⟩
theorem mf_X7_settles : mfV yX7_settles cX7_settles 2 none 0 := ⟨mfA_X7_settles, mtb_in (List.mem_of_getElem? (i := 993) (by decide +kernel)) rfl, mtb_in (List.mem_of_getElem? (i := 48) (by decide +kernel)) rfl⟩
theorem mfA_X7_sun : mfA yX7_sun cX7_sun 2 (some .int) 1 := ⟨ini_X7, mtb_in (List.mem_of_getElem? (i := 998) (by decide +kernel)) rfl, by decide +kernel, by decide, by decide +kernel⟩
theorem mf_X7_sun : mfV yX7_sun cX7_sun 2 (some .int) 1 := ⟨mfA_X7_sun, mtb_in (List.mem_of_getElem? (i := 996) (by decide +kernel)) rfl, mtb_in (List.mem_of_getElem? (i := 997) (by decide +kernel)) rfl⟩
theorem mfA_X7_bribe : mfA yX7_bribe cX7_bribe 3 (some .int) 2 := ⟨ini_X7, mtb_in (List.mem_of_getElem? (i := 1002) (by decide +kernel)) rfl, by decide +kernel, by decide, by decide +kernel⟩
theorem mf_X7_bribe : mfV yX7_bribe cX7_bribe 3 (some .int) 2 := ⟨mfA_X7_bribe, mtb_in (List.mem_of_getElem? (i := 1000) (by decide +kernel)) rfl, mtb_in (List.mem_of_getElem? (i := 1001) (by decide +kernel)) rfl⟩
theorem mfA_X7_trade : mfA yX7_trade cX7_trade 3 (some .int) 2 := ⟨ini_X7, mtb_in (List.mem_of_getElem? (i := 1007) (by decide +kernel)) rfl, by decide +kernel, by decide, by decide +kernel⟩
theorem mf_X7_trade : mfV yX7_trade cX7_trade 3 (some .int) 2 := ⟨mfA_X7_trade, mtb_in (List.mem_of_getElem? (i := 1005) (by decide +kernel)) rfl, mtb_in (List.mem_of_getElem? (i := 1006) (by decide +kernel)) rfl⟩
theorem mfA_X7_isOver : mfA yX7_isOver cX7_isOver 1 (some .boolean) 0 := ⟨ini_X7, mtb_in (List.mem_of_getElem? (i := 1026) (by decide +kernel)) rfl, by decide +kernel, by decide, by decide +kernel⟩
theorem mf_X7_isOver : mfV yX7_isOver cX7_isOver 1 (some .boolean) 0 := ⟨mfA_X7_isOver, mtb_in (List.mem_of_getElem? (i := 1025) (by decide +kernel)) rfl, mtb_in (List.mem_of_getElem? (i := 51) (by decide +kernel)) rfl⟩
theorem mfA_X7_isFree : mfA yX7_isFree cX7_isFree 1 (some .boolean) 0 := ⟨ini_X7, mtb_in (List.mem_of_getElem? (i := 1030) (by decide +kernel)) rfl, by decide +kernel, by decide, by decide +kernel⟩
theorem mf_X7_isFree : mfV yX7_isFree cX7_isFree 1 (some .boolean) 0 := ⟨mfA_X7_isFree, mtb_in (List.mem_of_getElem? (i := 1029) (by decide +kernel)) rfl, mtb_in (List.mem_of_getElem? (i := 52) (by decide +kernel)) rfl⟩
theorem mfA_X7_isDone : mfA yX7_isDone cX7_isDone 1 (some .boolean) 0 := ⟨ini_X7, mtb_in (List.mem_of_getElem? (i := 1022) (by decide +kernel)) rfl, by decide +kernel, by decide, by decide +kernel⟩
theorem mf_X7_isDone : mfV yX7_isDone cX7_isDone 1 (some .boolean) 0 := ⟨mfA_X7_isDone, mtb_in (List.mem_of_getElem? (i := 1021) (by decide +kernel)) rfl, mtb_in (List.mem_of_getElem? (i := 50) (by decide +kernel)) rfl⟩
theorem mfA_X7_candlesBy : mfA yX7_candlesBy cX7_candlesBy 7 (some .int) 2 := ⟨ini_X7, mtb_in (List.mem_of_getElem? (i := 1044) (by decide +kernel)) rfl, by decide +kernel, by decide, by decide +kernel⟩
theorem mf_X7_candlesBy : mfV yX7_candlesBy cX7_candlesBy 7 (some .int) 2 := ⟨mfA_X7_candlesBy, mtb_in (List.mem_of_getElem? (i := 1043) (by decide +kernel)) rfl, mtb_in (List.mem_of_getElem? (i := 54) (by decide +kernel)) rfl⟩
theorem mfA_X7_harmOf : mfA yX7_harmOf cX7_harmOf 4 (some .int) 2 := ⟨ini_X7, mtb_in (List.mem_of_getElem? (i := 1051) (by decide +kernel)) rfl, by decide +kernel, by decide, by decide +kernel⟩
theorem mf_X7_harmOf : mfV yX7_harmOf cX7_harmOf 4 (some .int) 2 := ⟨mfA_X7_harmOf, mtb_in (List.mem_of_getElem? (i := 1050) (by decide +kernel)) rfl, mtb_in (List.mem_of_getElem? (i := 55) (by decide +kernel)) rfl⟩
theorem mfA_X7_harmBy : mfA yX7_harmBy cX7_harmBy 4 (some .int) 1 := ⟨ini_X7, mtb_in (List.mem_of_getElem? (i := 1114) (by decide +kernel)) rfl, by decide +kernel, by decide, by decide +kernel⟩
theorem mf_X7_harmBy : mfV yX7_harmBy cX7_harmBy 4 (some .int) 1 := ⟨mfA_X7_harmBy, mtb_in (List.mem_of_getElem? (i := 1113) (by decide +kernel)) rfl, mtb_in (List.mem_of_getElem? (i := 61) (by decide +kernel)) rfl⟩
theorem mfA_X7_lesser : mfA yX7_lesser cX7_lesser 2 (some .int) 2 := ⟨ini_X7, mtb_in (List.mem_of_getElem? (i := 1047) (by decide +kernel)) rfl, by decide +kernel, by decide, by decide +kernel⟩
theorem mf_X7_lesser : mfS yX7_lesser cX7_lesser 2 (some .int) 2 := ⟨mfA_X7_lesser, mtb_in (List.mem_of_getElem? (i := 1046) (by decide +kernel)) rfl⟩
theorem mfA_X7_restBehind : mfA yX7_restBehind cX7_restBehind 2 (some .int) 2 := ⟨ini_X7, mtb_in (List.mem_of_getElem? (i := 1040) (by decide +kernel)) rfl, by decide +kernel, by decide, by decide +kernel⟩
theorem mf_X7_restBehind : mfS yX7_restBehind cX7_restBehind 2 (some .int) 2 := ⟨mfA_X7_restBehind, mtb_in (List.mem_of_getElem? (i := 1039) (by decide +kernel)) rfl⟩
theorem mfA_X7_remembers : mfA yX7_remembers cX7_remembers 3 none 0 := ⟨ini_X7, mtb_in (List.mem_of_getElem? (i := 1037) (by decide +kernel)) rfl, by decide +kernel, by decide, by decide +kernel⟩
theorem mf_X7_remembers : mfV yX7_remembers cX7_remembers 3 none 0 := ⟨mfA_X7_remembers, mtb_in (List.mem_of_getElem? (i := 1036) (by decide +kernel)) rfl, mtb_in (List.mem_of_getElem? (i := 53) (by decide +kernel)) rfl⟩
theorem mfA_X7_checks : mfA yX7_checks cX7_checks 1 (some .int) 0 := ⟨ini_X7, mtb_in (List.mem_of_getElem? (i := 1060) (by decide +kernel)) rfl, by decide +kernel, by decide, by decide +kernel⟩
theorem mf_X7_checks : mfV yX7_checks cX7_checks 1 (some .int) 0 := ⟨mfA_X7_checks, mtb_in (List.mem_of_getElem? (i := 1059) (by decide +kernel)) rfl, mtb_in (List.mem_of_getElem? (i := 56) (by decide +kernel)) rfl⟩
theorem mfA_X7_winds : mfA yX7_winds cX7_winds 8 (some .int) 2 := ⟨ini_X7, mtb_in (List.mem_of_getElem? (i := 1015) (by decide +kernel)) rfl, by decide +kernel, by decide, by decide +kernel⟩
theorem mf_X7_winds : mfV yX7_winds cX7_winds 8 (some .int) 2 := ⟨mfA_X7_winds, mtb_in (List.mem_of_getElem? (i := 1013) (by decide +kernel)) rfl, mtb_in (List.mem_of_getElem? (i := 1014) (by decide +kernel)) rfl⟩
theorem mfA_X7_watches : mfA yX7_watches cX7_watches 1 (some .int) 0 := ⟨ini_X7, mtb_in (List.mem_of_getElem? (i := 1064) (by decide +kernel)) rfl, by decide +kernel, by decide, by decide +kernel⟩
theorem mf_X7_watches : mfV yX7_watches cX7_watches 1 (some .int) 0 := ⟨mfA_X7_watches, mtb_in (List.mem_of_getElem? (i := 1062) (by decide +kernel)) rfl, mtb_in (List.mem_of_getElem? (i := 1063) (by decide +kernel)) rfl⟩
theorem mfA_X7_pays : mfA yX7_pays cX7_pays 3 (some .int) 2 := ⟨ini_X7, mtb_in (List.mem_of_getElem? (i := 1068) (by decide +kernel)) rfl, by decide +kernel, by decide, by decide +kernel⟩
theorem mf_X7_pays : mfV yX7_pays cX7_pays 3 (some .int) 2 := ⟨mfA_X7_pays, mtb_in (List.mem_of_getElem? (i := 1066) (by decide +kernel)) rfl, mtb_in (List.mem_of_getElem? (i := 1067) (by decide +kernel)) rfl⟩
theorem mfA_X7_corrects : mfA yX7_corrects cX7_corrects 2 (some .int) 1 := ⟨ini_X7, mtb_in (List.mem_of_getElem? (i := 1072) (by decide +kernel)) rfl, by decide +kernel, by decide, by decide +kernel⟩
theorem mf_X7_corrects : mfV yX7_corrects cX7_corrects 2 (some .int) 1 := ⟨mfA_X7_corrects, mtb_in (List.mem_of_getElem? (i := 1070) (by decide +kernel)) rfl, mtb_in (List.mem_of_getElem? (i := 1071) (by decide +kernel)) rfl⟩
theorem mfA_X7_undo : mfA yX7_undo cX7_undo 3 (some .int) 0 := ⟨ini_X7, mtb_in (List.mem_of_getElem? (i := 1076) (by decide +kernel)) rfl, by decide +kernel, by decide, by decide +kernel⟩
theorem mf_X7_undo : mfV yX7_undo cX7_undo 3 (some .int) 0 := ⟨mfA_X7_undo, mtb_in (List.mem_of_getElem? (i := 1074) (by decide +kernel)) rfl, mtb_in (List.mem_of_getElem? (i := 1075) (by decide +kernel)) rfl⟩
theorem mfA_X7_now : mfA yX7_now cX7_now 2 (some .int) 1 := ⟨ini_X7, mtb_in (List.mem_of_getElem? (i := 1080) (by decide +kernel)) rfl, by decide +kernel, by decide, by decide +kernel⟩
theorem mf_X7_now : mfV yX7_now cX7_now 2 (some .int) 1 := ⟨mfA_X7_now, mtb_in (List.mem_of_getElem? (i := 1078) (by decide +kernel)) rfl, mtb_in (List.mem_of_getElem? (i := 1079) (by decide +kernel)) rfl⟩
theorem mfA_X7_at : mfA yX7_at cX7_at 2 (some .int) 2 := ⟨ini_X7, mtb_in (List.mem_of_getElem? (i := 1099) (by decide +kernel)) rfl, by decide +kernel, by decide, by decide +kernel⟩
theorem mf_X7_at : mfS yX7_at cX7_at 2 (some .int) 2 := ⟨mfA_X7_at, mtb_in (List.mem_of_getElem? (i := 1098) (by decide +kernel)) rfl⟩
theorem mfA_X7_worthBy : mfA yX7_worthBy cX7_worthBy 10 (some .int) 5 := ⟨ini_X7, mtb_in (List.mem_of_getElem? (i := 1110) (by decide +kernel)) rfl, by decide +kernel, by decide, by decide +kernel⟩
theorem mf_X7_worthBy : mfV yX7_worthBy cX7_worthBy 10 (some .int) 5 := ⟨mfA_X7_worthBy, mtb_in (List.mem_of_getElem? (i := 1109) (by decide +kernel)) rfl, mtb_in (List.mem_of_getElem? (i := 60) (by decide +kernel)) rfl⟩
theorem mfA_X7_mayTurn : mfA yX7_mayTurn cX7_mayTurn 2 (some .boolean) 2 := ⟨ini_X7, mtb_in (List.mem_of_getElem? (i := 1106) (by decide +kernel)) rfl, by decide +kernel, by decide, by decide +kernel⟩
theorem mf_X7_mayTurn : mfS yX7_mayTurn cX7_mayTurn 2 (some .boolean) 2 := ⟨mfA_X7_mayTurn, mtb_in (List.mem_of_getElem? (i := 1105) (by decide +kernel)) rfl⟩
theorem mfA_X7_bestOf : mfA yX7_bestOf cX7_bestOf 8 (some .int) 4 := ⟨ini_X7, mtb_in (List.mem_of_getElem? (i := 1103) (by decide +kernel)) rfl, by decide +kernel, by decide, by decide +kernel⟩
theorem mf_X7_bestOf : mfV yX7_bestOf cX7_bestOf 8 (some .int) 4 := ⟨mfA_X7_bestOf, mtb_in (List.mem_of_getElem? (i := 1102) (by decide +kernel)) rfl, mtb_in (List.mem_of_getElem? (i := 59) (by decide +kernel)) rfl⟩
theorem mfA_X7_findWorths : mfA yX7_findWorths cX7_findWorths 8 none 2 := ⟨ini_X7, mtb_in (List.mem_of_getElem? (i := 1096) (by decide +kernel)) rfl, by decide +kernel, by decide, by decide +kernel⟩
theorem mf_X7_findWorths : mfV yX7_findWorths cX7_findWorths 8 none 2 := ⟨mfA_X7_findWorths, mtb_in (List.mem_of_getElem? (i := 1095) (by decide +kernel)) rfl, mtb_in (List.mem_of_getElem? (i := 58) (by decide +kernel)) rfl⟩
theorem mfA_X7_paceBy : mfA yX7_paceBy cX7_paceBy 6 (some .int) 1 := ⟨ini_X7, mtb_in (List.mem_of_getElem? (i := 1118) (by decide +kernel)) rfl, by decide +kernel, by decide, by decide +kernel⟩
theorem mf_X7_paceBy : mfV yX7_paceBy cX7_paceBy 6 (some .int) 1 := ⟨mfA_X7_paceBy, mtb_in (List.mem_of_getElem? (i := 1117) (by decide +kernel)) rfl, mtb_in (List.mem_of_getElem? (i := 62) (by decide +kernel)) rfl⟩
theorem mfA_X7_daysOf : mfA yX7_daysOf cX7_daysOf 2 (some .int) 1 := ⟨ini_X7, mtb_in (List.mem_of_getElem? (i := 1092) (by decide +kernel)) rfl, by decide +kernel, by decide, by decide +kernel⟩
theorem mf_X7_daysOf : mfV yX7_daysOf cX7_daysOf 2 (some .int) 1 := ⟨mfA_X7_daysOf, mtb_in (List.mem_of_getElem? (i := 1091) (by decide +kernel)) rfl, mtb_in (List.mem_of_getElem? (i := 57) (by decide +kernel)) rfl⟩
theorem mfA_X7_soonest : mfA yX7_soonest cX7_soonest 5 (some .int) 0 := ⟨ini_X7, mtb_in (List.mem_of_getElem? (i := 1084) (by decide +kernel)) rfl, by decide +kernel, by decide, by decide +kernel⟩
theorem mf_X7_soonest : mfV yX7_soonest cX7_soonest 5 (some .int) 0 := ⟨mfA_X7_soonest, mtb_in (List.mem_of_getElem? (i := 1082) (by decide +kernel)) rfl, mtb_in (List.mem_of_getElem? (i := 1083) (by decide +kernel)) rfl⟩
theorem mfA_X7_lowest : mfA yX7_lowest cX7_lowest 6 (some .int) 3 := ⟨ini_X7, mtb_in (List.mem_of_getElem? (i := 1121) (by decide +kernel)) rfl, by decide +kernel, by decide, by decide +kernel⟩
theorem mf_X7_lowest : mfS yX7_lowest cX7_lowest 6 (some .int) 3 := ⟨mfA_X7_lowest, mtb_in (List.mem_of_getElem? (i := 1120) (by decide +kernel)) rfl⟩
theorem mfA_X7_chance : mfA yX7_chance cX7_chance 6 (some .int) 2 := ⟨ini_X7, mtb_in (List.mem_of_getElem? (i := 1088) (by decide +kernel)) rfl, by decide +kernel, by decide, by decide +kernel⟩
theorem mf_X7_chance : mfV yX7_chance cX7_chance 6 (some .int) 2 := ⟨mfA_X7_chance, mtb_in (List.mem_of_getElem? (i := 1086) (by decide +kernel)) rfl, mtb_in (List.mem_of_getElem? (i := 1087) (by decide +kernel)) rfl⟩
theorem mfA_X7_safe : mfA yX7_safe cX7_safe 3 (some .int) 1 := ⟨ini_X7, mtb_in (List.mem_of_getElem? (i := 1125) (by decide +kernel)) rfl, by decide +kernel, by decide, by decide +kernel⟩
theorem mf_X7_safe : mfV yX7_safe cX7_safe 3 (some .int) 1 := ⟨mfA_X7_safe, mtb_in (List.mem_of_getElem? (i := 1123) (by decide +kernel)) rfl, mtb_in (List.mem_of_getElem? (i := 1124) (by decide +kernel)) rfl⟩
theorem mfA_X7_least : mfA yX7_least cX7_least 5 (some .int) 2 := ⟨ini_X7, mtb_in (List.mem_of_getElem? (i := 1129) (by decide +kernel)) rfl, by decide +kernel, by decide, by decide +kernel⟩
theorem mf_X7_least : mfV yX7_least cX7_least 5 (some .int) 2 := ⟨mfA_X7_least, mtb_in (List.mem_of_getElem? (i := 1127) (by decide +kernel)) rfl, mtb_in (List.mem_of_getElem? (i := 1128) (by decide +kernel)) rfl⟩
theorem mfA_X7_catches : mfA yX7_catches cX7_catches 5 (some .int) 1 := ⟨ini_X7, mtb_in (List.mem_of_getElem? (i := 1133) (by decide +kernel)) rfl, by decide +kernel, by decide, by decide +kernel⟩
theorem mf_X7_catches : mfV yX7_catches cX7_catches 5 (some .int) 1 := ⟨mfA_X7_catches, mtb_in (List.mem_of_getElem? (i := 1131) (by decide +kernel)) rfl, mtb_in (List.mem_of_getElem? (i := 1132) (by decide +kernel)) rfl⟩
theorem mfA_X7_hears : mfA yX7_hears cX7_hears 4 (some .int) 3 := ⟨ini_X7, mtb_in (List.mem_of_getElem? (i := 1137) (by decide +kernel)) rfl, by decide +kernel, by decide, by decide +kernel⟩
theorem mf_X7_hears : mfV yX7_hears cX7_hears 4 (some .int) 3 := ⟨mfA_X7_hears, mtb_in (List.mem_of_getElem? (i := 1135) (by decide +kernel)) rfl, mtb_in (List.mem_of_getElem? (i := 1136) (by decide +kernel)) rfl⟩
theorem mfA_X7_forget : mfA yX7_forget cX7_forget 2 (some .int) 0 := ⟨ini_X7, mtb_in (List.mem_of_getElem? (i := 1141) (by decide +kernel)) rfl, by decide +kernel, by decide, by decide +kernel⟩
theorem mf_X7_forget : mfV yX7_forget cX7_forget 2 (some .int) 0 := ⟨mfA_X7_forget, mtb_in (List.mem_of_getElem? (i := 1139) (by decide +kernel)) rfl, mtb_in (List.mem_of_getElem? (i := 1140) (by decide +kernel)) rfl⟩
theorem mfA_X7_isHeard : mfA yX7_isHeard cX7_isHeard 5 (some .boolean) 2 := ⟨ini_X7, mtb_in (List.mem_of_getElem? (i := 1157) (by decide +kernel)) rfl, by decide +kernel, by decide, by decide +kernel⟩
theorem mf_X7_isHeard : mfV yX7_isHeard cX7_isHeard 5 (some .boolean) 2 := ⟨mfA_X7_isHeard, mtb_in (List.mem_of_getElem? (i := 1156) (by decide +kernel)) rfl, mtb_in (List.mem_of_getElem? (i := 65) (by decide +kernel)) rfl⟩
theorem mfA_X7_comeTo : mfA yX7_comeTo cX7_comeTo 3 (some .int) 2 := ⟨ini_X7, mtb_in (List.mem_of_getElem? (i := 1153) (by decide +kernel)) rfl, by decide +kernel, by decide, by decide +kernel⟩
theorem mf_X7_comeTo : mfV yX7_comeTo cX7_comeTo 3 (some .int) 2 := ⟨mfA_X7_comeTo, mtb_in (List.mem_of_getElem? (i := 1152) (by decide +kernel)) rfl, mtb_in (List.mem_of_getElem? (i := 64) (by decide +kernel)) rfl⟩
theorem mfA_X7_goFrom : mfA yX7_goFrom cX7_goFrom 3 (some .int) 2 := ⟨ini_X7, mtb_in (List.mem_of_getElem? (i := 1162) (by decide +kernel)) rfl, by decide +kernel, by decide, by decide +kernel⟩
theorem mf_X7_goFrom : mfV yX7_goFrom cX7_goFrom 3 (some .int) 2 := ⟨mfA_X7_goFrom, mtb_in (List.mem_of_getElem? (i := 1161) (by decide +kernel)) rfl, mtb_in (List.mem_of_getElem? (i := 66) (by decide +kernel)) rfl⟩
theorem mfA_X7_findHeard : mfA yX7_findHeard cX7_findHeard 6 none 1 := ⟨ini_X7, mtb_in (List.mem_of_getElem? (i := 1149) (by decide +kernel)) rfl, by decide +kernel, by decide, by decide +kernel⟩
theorem mf_X7_findHeard : mfV yX7_findHeard cX7_findHeard 6 none 1 := ⟨mfA_X7_findHeard, mtb_in (List.mem_of_getElem? (i := 1148) (by decide +kernel)) rfl, mtb_in (List.mem_of_getElem? (i := 63) (by decide +kernel)) rfl⟩
theorem mfA_X7_couldOf : mfA yX7_couldOf cX7_couldOf 4 (some .int) 1 := ⟨ini_X7, mtb_in (List.mem_of_getElem? (i := 1166) (by decide +kernel)) rfl, by decide +kernel, by decide, by decide +kernel⟩
theorem mf_X7_couldOf : mfV yX7_couldOf cX7_couldOf 4 (some .int) 1 := ⟨mfA_X7_couldOf, mtb_in (List.mem_of_getElem? (i := 1165) (by decide +kernel)) rfl, mtb_in (List.mem_of_getElem? (i := 67) (by decide +kernel)) rfl⟩
theorem mfA_X7_could : mfA yX7_could cX7_could 2 (some .int) 1 := ⟨ini_X7, mtb_in (List.mem_of_getElem? (i := 1145) (by decide +kernel)) rfl, by decide +kernel, by decide, by decide +kernel⟩
theorem mf_X7_could : mfV yX7_could cX7_could 2 (some .int) 1 := ⟨mfA_X7_could, mtb_in (List.mem_of_getElem? (i := 1143) (by decide +kernel)) rfl, mtb_in (List.mem_of_getElem? (i := 1144) (by decide +kernel)) rfl⟩
theorem mfA_X7_ways : mfA yX7_ways cX7_ways 3 (some .int) 0 := ⟨ini_X7, mtb_in (List.mem_of_getElem? (i := 1170) (by decide +kernel)) rfl, by decide +kernel, by decide, by decide +kernel⟩
theorem mf_X7_ways : mfV yX7_ways cX7_ways 3 (some .int) 0 := ⟨mfA_X7_ways, mtb_in (List.mem_of_getElem? (i := 1168) (by decide +kernel)) rfl, mtb_in (List.mem_of_getElem? (i := 1169) (by decide +kernel)) rfl⟩
theorem mfA_X7_ask : mfA yX7_ask cX7_ask 7 (some .int) 0 := ⟨ini_X7, mtb_in (List.mem_of_getElem? (i := 1174) (by decide +kernel)) rfl, by decide +kernel, by decide, by decide +kernel⟩
theorem mf_X7_ask : mfV yX7_ask cX7_ask 7 (some .int) 0 := ⟨mfA_X7_ask, mtb_in (List.mem_of_getElem? (i := 1172) (by decide +kernel)) rfl, mtb_in (List.mem_of_getElem? (i := 1173) (by decide +kernel)) rfl⟩
theorem mfA_X7_mark : mfA yX7_mark cX7_mark 6 (some .int) 2 := ⟨ini_X7, mtb_in (List.mem_of_getElem? (i := 1178) (by decide +kernel)) rfl, by decide +kernel, by decide, by decide +kernel⟩
theorem mf_X7_mark : mfV yX7_mark cX7_mark 6 (some .int) 2 := ⟨mfA_X7_mark, mtb_in (List.mem_of_getElem? (i := 1176) (by decide +kernel)) rfl, mtb_in (List.mem_of_getElem? (i := 1177) (by decide +kernel)) rfl⟩
theorem mfA_X7_keep : mfA yX7_keep cX7_keep 3 (some .int) 1 := ⟨ini_X7, mtb_in (List.mem_of_getElem? (i := 1187) (by decide +kernel)) rfl, by decide +kernel, by decide, by decide +kernel⟩
theorem mf_X7_keep : mfV yX7_keep cX7_keep 3 (some .int) 1 := ⟨mfA_X7_keep, mtb_in (List.mem_of_getElem? (i := 1185) (by decide +kernel)) rfl, mtb_in (List.mem_of_getElem? (i := 1186) (by decide +kernel)) rfl⟩
theorem mfA_X7_back : mfA yX7_back cX7_back 3 (some .int) 1 := ⟨ini_X7, mtb_in (List.mem_of_getElem? (i := 1191) (by decide +kernel)) rfl, by decide +kernel, by decide, by decide +kernel⟩
theorem mf_X7_back : mfV yX7_back cX7_back 3 (some .int) 1 := ⟨mfA_X7_back, mtb_in (List.mem_of_getElem? (i := 1189) (by decide +kernel)) rfl, mtb_in (List.mem_of_getElem? (i := 1190) (by decide +kernel)) rfl⟩
theorem mfA_X7_count : mfA yX7_count cX7_count 2 (some .int) 1 := ⟨ini_X7, mtb_in (List.mem_of_getElem? (i := 1195) (by decide +kernel)) rfl, by decide +kernel, by decide, by decide +kernel⟩
theorem mf_X7_count : mfV yX7_count cX7_count 2 (some .int) 1 := ⟨mfA_X7_count, mtb_in (List.mem_of_getElem? (i := 1193) (by decide +kernel)) rfl, mtb_in (List.mem_of_getElem? (i := 1194) (by decide +kernel)) rfl⟩
theorem mfA_X7_trace : mfA yX7_trace cX7_trace 1 (some .long) 0 := ⟨ini_X7, mtb_in (List.mem_of_getElem? (i := 1199) (by decide +kernel)) rfl, by decide +kernel, by decide, by decide +kernel⟩
theorem mf_X7_trace : mfV yX7_trace cX7_trace 1 (some .long) 0 := ⟨mfA_X7_trace, mtb_in (List.mem_of_getElem? (i := 1197) (by decide +kernel)) rfl, mtb_in (List.mem_of_getElem? (i := 1198) (by decide +kernel)) rfl⟩
theorem mfA_J6_bitCount_0f7a4 : mfA yJ6_bitCount_0f7a4 cJ6_bitCount_0f7a4 1 (some .int) 1 := ⟨ini_J6, mtb_in (List.mem_of_getElem? (i := 772) (by decide +kernel)) rfl, by decide +kernel, by decide, by decide +kernel⟩
theorem mf_J6_bitCount_0f7a4 : mfS yJ6_bitCount_0f7a4 cJ6_bitCount_0f7a4 1 (some .int) 1 := ⟨mfA_J6_bitCount_0f7a4, mtb_in (List.mem_of_getElem? (i := 771) (by decide +kernel)) rfl⟩
theorem lk_X5_21 : mlk RX5 21 yX5_wipe := mtb_in (List.mem_of_getElem? (i := 133) (by decide +kernel)) rfl
theorem lk_X0_25 : mlk RX0 25 yX0_drop := mtb_in (List.mem_of_getElem? (i := 257) (by decide +kernel)) rfl
theorem lk_X6_68 : mlk RX6 68 yX3_begin := mtb_in (List.mem_of_getElem? (i := 276) (by decide +kernel)) rfl
theorem lk_X6_72 : mlk RX6 72 yX4_add := mtb_in (List.mem_of_getElem? (i := 315) (by decide +kernel)) rfl
theorem lk_X6_79 : mlk RX6 79 yX4_readInto := mtb_in (List.mem_of_getElem? (i := 327) (by decide +kernel)) rfl
theorem lk_X4_44 : mlk RX4 44 yX4_begin := mtb_in (List.mem_of_getElem? (i := 331) (by decide +kernel)) rfl
theorem lk_X4_69 : mlk RX4 69 yX5_wipe := mtb_in (List.mem_of_getElem? (i := 335) (by decide +kernel)) rfl
theorem lk_X4_48 : mlk RX4 48 yX4_nextToken := mtb_in (List.mem_of_getElem? (i := 336) (by decide +kernel)) rfl
theorem lk_X4_116 : mlk RX4 116 yX4_byteAt := mtb_in (List.mem_of_getElem? (i := 340) (by decide +kernel)) rfl
theorem lk_X4_120 : mlk RX4 120 yX4_isLetter := mtb_in (List.mem_of_getElem? (i := 344) (by decide +kernel)) rfl
theorem lk_X4_124 : mlk RX4 124 yX4_takeLetters := mtb_in (List.mem_of_getElem? (i := 347) (by decide +kernel)) rfl
theorem lk_X4_127 : mlk RX4 127 yX4_isDigit := mtb_in (List.mem_of_getElem? (i := 351) (by decide +kernel)) rfl
theorem lk_X4_130 : mlk RX4 130 yX4_takeNumber := mtb_in (List.mem_of_getElem? (i := 354) (by decide +kernel)) rfl
theorem lk_X4_133 : mlk RX4 133 Lib.Math.min.name := mtb_in (List.mem_of_getElem? (i := 358) (by decide +kernel)) rfl
theorem lk_X4_51 : mlk RX4 51 yX4_readDay := mtb_in (List.mem_of_getElem? (i := 361) (by decide +kernel)) rfl
theorem lk_X4_77 : mlk RX4 77 yX4_refuseIf := mtb_in (List.mem_of_getElem? (i := 365) (by decide +kernel)) rfl
theorem lk_X4_81 : mlk RX4 81 yX4_number := mtb_in (List.mem_of_getElem? (i := 369) (by decide +kernel)) rfl
theorem lk_X4_85 : mlk RX4 85 yX4_stops := mtb_in (List.mem_of_getElem? (i := 373) (by decide +kernel)) rfl
theorem lk_X4_89 : mlk RX4 89 yX5_addDay := mtb_in (List.mem_of_getElem? (i := 377) (by decide +kernel)) rfl
theorem lk_X4_54 : mlk RX4 54 yX4_readBribe := mtb_in (List.mem_of_getElem? (i := 381) (by decide +kernel)) rfl
theorem lk_X4_96 : mlk RX4 96 yX5_addBribe := mtb_in (List.mem_of_getElem? (i := 385) (by decide +kernel)) rfl
theorem lk_X4_57 : mlk RX4 57 yX4_readTrade := mtb_in (List.mem_of_getElem? (i := 389) (by decide +kernel)) rfl
theorem lk_X4_103 : mlk RX4 103 yX5_addTrade := mtb_in (List.mem_of_getElem? (i := 393) (by decide +kernel)) rfl
theorem lk_X4_60 : mlk RX4 60 yX4_readRest := mtb_in (List.mem_of_getElem? (i := 397) (by decide +kernel)) rfl
theorem lk_X4_63 : mlk RX4 63 yX4_readLimit := mtb_in (List.mem_of_getElem? (i := 401) (by decide +kernel)) rfl
theorem lk_X4_66 : mlk RX4 66 yX4_readAdded := mtb_in (List.mem_of_getElem? (i := 405) (by decide +kernel)) rfl
theorem lk_X6_87 : mlk RX6 87 yX0_drop := mtb_in (List.mem_of_getElem? (i := 409) (by decide +kernel)) rfl
theorem lk_X6_90 : mlk RX6 90 yX5_sunOf := mtb_in (List.mem_of_getElem? (i := 414) (by decide +kernel)) rfl
theorem lk_X6_98 : mlk RX6 98 yX5_ofBribe := mtb_in (List.mem_of_getElem? (i := 423) (by decide +kernel)) rfl
theorem lk_X6_102 : mlk RX6 102 yX5_hasTrade := mtb_in (List.mem_of_getElem? (i := 432) (by decide +kernel)) rfl
theorem lk_X6_105 : mlk RX6 105 yX3_harmOf := mtb_in (List.mem_of_getElem? (i := 436) (by decide +kernel)) rfl
theorem lk_X6_108 : mlk RX6 108 yX5_ofTrade := mtb_in (List.mem_of_getElem? (i := 440) (by decide +kernel)) rfl
theorem lk_X6_111 : mlk RX6 111 yX6_isPace := mtb_in (List.mem_of_getElem? (i := 448) (by decide +kernel)) rfl
theorem lk_X6_114 : mlk RX6 114 yX3_isEnded := mtb_in (List.mem_of_getElem? (i := 451) (by decide +kernel)) rfl
theorem lk_X3_45 : mlk RX3 45 yX3_isOver := mtb_in (List.mem_of_getElem? (i := 455) (by decide +kernel)) rfl
theorem lk_X3_33 : mlk RX3 33 yX3_day := mtb_in (List.mem_of_getElem? (i := 459) (by decide +kernel)) rfl
theorem lk_X3_49 : mlk RX3 49 yX3_isFree := mtb_in (List.mem_of_getElem? (i := 463) (by decide +kernel)) rfl
theorem lk_X3_42 : mlk RX3 42 yX3_rest := mtb_in (List.mem_of_getElem? (i := 467) (by decide +kernel)) rfl
theorem lk_X6_118 : mlk RX6 118 yX3_error := mtb_in (List.mem_of_getElem? (i := 471) (by decide +kernel)) rfl
theorem lk_X6_122 : mlk RX6 122 yX6_isBeyond := mtb_in (List.mem_of_getElem? (i := 475) (by decide +kernel)) rfl
theorem lk_X6_125 : mlk RX6 125 yX3_turn := mtb_in (List.mem_of_getElem? (i := 478) (by decide +kernel)) rfl
theorem lk_X3_53 : mlk RX3 53 yX3_remember := mtb_in (List.mem_of_getElem? (i := 482) (by decide +kernel)) rfl
theorem lk_X3_23 : mlk RX3 23 arraycopyName := mtb_in (List.mem_of_getElem? (i := 486) (by decide +kernel)) rfl
theorem lk_X3_68 : mlk RX3 68 Lib.Math.min.name := mtb_in (List.mem_of_getElem? (i := 489) (by decide +kernel)) rfl
theorem lk_X3_56 : mlk RX3 56 Lib.Math.max.name := mtb_in (List.mem_of_getElem? (i := 490) (by decide +kernel)) rfl
theorem lk_X3_62 : mlk RX3 62 yX3_candles := mtb_in (List.mem_of_getElem? (i := 493) (by decide +kernel)) rfl
theorem lk_X3_65 : mlk RX3 65 yX5_candlesFor := mtb_in (List.mem_of_getElem? (i := 497) (by decide +kernel)) rfl
theorem lk_X5_44 : mlk RX5 44 yX5_ofBribe := mtb_in (List.mem_of_getElem? (i := 501) (by decide +kernel)) rfl
theorem lk_X3_29 : mlk RX3 29 yX3_harmOf := mtb_in (List.mem_of_getElem? (i := 502) (by decide +kernel)) rfl
theorem lk_X3_74 : mlk RX3 74 yX3_error := mtb_in (List.mem_of_getElem? (i := 503) (by decide +kernel)) rfl
theorem lk_X3_77 : mlk RX3 77 yX5_harmTo := mtb_in (List.mem_of_getElem? (i := 504) (by decide +kernel)) rfl
theorem lk_X5_48 : mlk RX5 48 yX5_ofTrade := mtb_in (List.mem_of_getElem? (i := 508) (by decide +kernel)) rfl
theorem lk_X3_80 : mlk RX3 80 yX3_setHarm := mtb_in (List.mem_of_getElem? (i := 509) (by decide +kernel)) rfl
theorem lk_X3_84 : mlk RX3 84 yX3_draw := mtb_in (List.mem_of_getElem? (i := 513) (by decide +kernel)) rfl
theorem lk_X3_87 : mlk RX3 87 yX5_sunOf := mtb_in (List.mem_of_getElem? (i := 521) (by decide +kernel)) rfl
theorem lk_X3_90 : mlk RX3 90 yX3_check := mtb_in (List.mem_of_getElem? (i := 522) (by decide +kernel)) rfl
theorem lk_X3_104 : mlk RX3 104 Lib.Math.abs.name := mtb_in (List.mem_of_getElem? (i := 526) (by decide +kernel)) rfl
theorem lk_X6_129 : mlk RX6 129 yX3_watch := mtb_in (List.mem_of_getElem? (i := 533) (by decide +kernel)) rfl
theorem lk_X6_132 : mlk RX6 132 yX3_candles := mtb_in (List.mem_of_getElem? (i := 541) (by decide +kernel)) rfl
theorem lk_X6_135 : mlk RX6 135 yX3_pay := mtb_in (List.mem_of_getElem? (i := 542) (by decide +kernel)) rfl
theorem lk_X6_138 : mlk RX6 138 yX3_correct := mtb_in (List.mem_of_getElem? (i := 550) (by decide +kernel)) rfl
theorem lk_X6_141 : mlk RX6 141 yX3_recall := mtb_in (List.mem_of_getElem? (i := 558) (by decide +kernel)) rfl
theorem lk_X6_148 : mlk RX6 148 yX3_day := mtb_in (List.mem_of_getElem? (i := 566) (by decide +kernel)) rfl
theorem lk_X6_151 : mlk RX6 151 yX3_rest := mtb_in (List.mem_of_getElem? (i := 567) (by decide +kernel)) rfl
theorem lk_X6_153 : mlk RX6 153 yX3_harmOfAll := mtb_in (List.mem_of_getElem? (i := 568) (by decide +kernel)) rfl
theorem lk_X6_156 : mlk RX6 156 yX3_found := mtb_in (List.mem_of_getElem? (i := 572) (by decide +kernel)) rfl
theorem lk_X6_159 : mlk RX6 159 yX3_isOver := mtb_in (List.mem_of_getElem? (i := 576) (by decide +kernel)) rfl
theorem lk_X6_162 : mlk RX6 162 yX3_isFree := mtb_in (List.mem_of_getElem? (i := 577) (by decide +kernel)) rfl
theorem lk_X6_165 : mlk RX6 165 yX3_soonestFree := mtb_in (List.mem_of_getElem? (i := 582) (by decide +kernel)) rfl
theorem lk_X3_94 : mlk RX3 94 yX3_daysLeft := mtb_in (List.mem_of_getElem? (i := 586) (by decide +kernel)) rfl
theorem lk_X6_168 : mlk RX6 168 yX1_weigh := mtb_in (List.mem_of_getElem? (i := 594) (by decide +kernel)) rfl
theorem lk_X1_28 : mlk RX1 28 yX3_daysLeft := mtb_in (List.mem_of_getElem? (i := 598) (by decide +kernel)) rfl
theorem lk_X1_34 : mlk RX1 34 Lib.Math.min.name := mtb_in (List.mem_of_getElem? (i := 599) (by decide +kernel)) rfl
theorem lk_X1_40 : mlk RX1 40 yX3_isFree := mtb_in (List.mem_of_getElem? (i := 600) (by decide +kernel)) rfl
theorem lk_X1_44 : mlk RX1 44 yX1_fillRow := mtb_in (List.mem_of_getElem? (i := 601) (by decide +kernel)) rfl
theorem lk_X1_68 : mlk RX1 68 yX1_put := mtb_in (List.mem_of_getElem? (i := 605) (by decide +kernel)) rfl
theorem lk_X1_61 : mlk RX1 61 yX1_best := mtb_in (List.mem_of_getElem? (i := 609) (by decide +kernel)) rfl
theorem lk_X1_72 : mlk RX1 72 yX1_turned := mtb_in (List.mem_of_getElem? (i := 613) (by decide +kernel)) rfl
theorem lk_X1_79 : mlk RX1 79 Lib.Math.max.name := mtb_in (List.mem_of_getElem? (i := 618) (by decide +kernel)) rfl
theorem lk_X1_82 : mlk RX1 82 yX1_laterAt := mtb_in (List.mem_of_getElem? (i := 619) (by decide +kernel)) rfl
theorem lk_X1_85 : mlk RX1 85 Lib.Math.abs.name := mtb_in (List.mem_of_getElem? (i := 623) (by decide +kernel)) rfl
theorem lk_X1_94 : mlk RX1 94 yX5_sunOf := mtb_in (List.mem_of_getElem? (i := 624) (by decide +kernel)) rfl
theorem lk_X1_48 : mlk RX1 48 yX1_swapRows := mtb_in (List.mem_of_getElem? (i := 625) (by decide +kernel)) rfl
theorem lk_X1_51 : mlk RX1 51 yX3_day := mtb_in (List.mem_of_getElem? (i := 629) (by decide +kernel)) rfl
theorem lk_X1_55 : mlk RX1 55 yX3_error := mtb_in (List.mem_of_getElem? (i := 630) (by decide +kernel)) rfl
theorem lk_X1_58 : mlk RX1 58 yX3_rest := mtb_in (List.mem_of_getElem? (i := 631) (by decide +kernel)) rfl
theorem lk_X1_65 : mlk RX1 65 yX1_reduce := mtb_in (List.mem_of_getElem? (i := 632) (by decide +kernel)) rfl
theorem lk_X6_181 : mlk RX6 181 yX2_forCandles := mtb_in (List.mem_of_getElem? (i := 640) (by decide +kernel)) rfl
theorem lk_X2_29 : mlk RX2 29 yX3_daysLeft := mtb_in (List.mem_of_getElem? (i := 644) (by decide +kernel)) rfl
theorem lk_X2_35 : mlk RX2 35 yX2_make := mtb_in (List.mem_of_getElem? (i := 645) (by decide +kernel)) rfl
theorem lk_X2_46 : mlk RX2 46 yX3_isFree := mtb_in (List.mem_of_getElem? (i := 650) (by decide +kernel)) rfl
theorem lk_X2_50 : mlk RX2 50 yX2_restBehind := mtb_in (List.mem_of_getElem? (i := 651) (by decide +kernel)) rfl
theorem lk_X2_72 : mlk RX2 72 yX3_rest := mtb_in (List.mem_of_getElem? (i := 654) (by decide +kernel)) rfl
theorem lk_X2_69 : mlk RX2 69 yX3_error := mtb_in (List.mem_of_getElem? (i := 655) (by decide +kernel)) rfl
theorem lk_X2_54 : mlk RX2 54 yX2_put := mtb_in (List.mem_of_getElem? (i := 656) (by decide +kernel)) rfl
theorem lk_X2_58 : mlk RX2 58 yX2_swapRows := mtb_in (List.mem_of_getElem? (i := 660) (by decide +kernel)) rfl
theorem lk_X2_61 : mlk RX2 61 yX3_day := mtb_in (List.mem_of_getElem? (i := 664) (by decide +kernel)) rfl
theorem lk_X2_65 : mlk RX2 65 yX2_best := mtb_in (List.mem_of_getElem? (i := 665) (by decide +kernel)) rfl
theorem lk_X2_75 : mlk RX2 75 yX2_gain := mtb_in (List.mem_of_getElem? (i := 669) (by decide +kernel)) rfl
theorem lk_X2_84 : mlk RX2 84 Lib.Math.abs.name := mtb_in (List.mem_of_getElem? (i := 673) (by decide +kernel)) rfl
theorem lk_X2_88 : mlk RX2 88 yX2_laterAt := mtb_in (List.mem_of_getElem? (i := 674) (by decide +kernel)) rfl
theorem lk_X2_91 : mlk RX2 91 yX5_candlesFor := mtb_in (List.mem_of_getElem? (i := 678) (by decide +kernel)) rfl
theorem lk_X2_94 : mlk RX2 94 yX5_harmToAll := mtb_in (List.mem_of_getElem? (i := 679) (by decide +kernel)) rfl
theorem lk_X5_51 : mlk RX5 51 yX5_harmTo := mtb_in (List.mem_of_getElem? (i := 683) (by decide +kernel)) rfl
theorem lk_X6_189 : mlk RX6 189 yX2_forFreedom := mtb_in (List.mem_of_getElem? (i := 688) (by decide +kernel)) rfl
theorem lk_X2_39 : mlk RX2 39 Lib.Math.min.name := mtb_in (List.mem_of_getElem? (i := 692) (by decide +kernel)) rfl
theorem lk_X6_192 : mlk RX6 192 yX3_caughtBehind := mtb_in (List.mem_of_getElem? (i := 697) (by decide +kernel)) rfl
theorem lk_X3_97 : mlk RX3 97 yX3_isEnded := mtb_in (List.mem_of_getElem? (i := 701) (by decide +kernel)) rfl
theorem lk_X6_196 : mlk RX6 196 yX0_add := mtb_in (List.mem_of_getElem? (i := 707) (by decide +kernel)) rfl
theorem lk_X0_29 : mlk RX0 29 yX0_within := mtb_in (List.mem_of_getElem? (i := 711) (by decide +kernel)) rfl
theorem lk_X6_202 : mlk RX6 202 yX0_errorsBehind := mtb_in (List.mem_of_getElem? (i := 722) (by decide +kernel)) rfl
theorem lk_X0_33 : mlk RX0 33 yX0_aDayOn := mtb_in (List.mem_of_getElem? (i := 726) (by decide +kernel)) rfl
theorem lk_X0_37 : mlk RX0 37 yX0_allowedBehind := mtb_in (List.mem_of_getElem? (i := 729) (by decide +kernel)) rfl
theorem lk_X0_40 : mlk RX0 40 yX0_aDayBack := mtb_in (List.mem_of_getElem? (i := 733) (by decide +kernel)) rfl
theorem lk_X6_205 : mlk RX6 205 yX0_rows := mtb_in (List.mem_of_getElem? (i := 740) (by decide +kernel)) rfl
theorem lk_X0_51 : mlk RX0 51 yX0_rowsFrom := mtb_in (List.mem_of_getElem? (i := 744) (by decide +kernel)) rfl
theorem lk_X0_61 : mlk RX0 61 yX0_laterAt := mtb_in (List.mem_of_getElem? (i := 748) (by decide +kernel)) rfl
theorem lk_X0_54 : mlk RX0 54 yX0_put := mtb_in (List.mem_of_getElem? (i := 753) (by decide +kernel)) rfl
theorem lk_X0_58 : mlk RX0 58 yX0_swapRows := mtb_in (List.mem_of_getElem? (i := 757) (by decide +kernel)) rfl
theorem lk_X6_208 : mlk RX6 208 yX0_widestDay := mtb_in (List.mem_of_getElem? (i := 765) (by decide +kernel)) rfl
theorem lk_X0_43 : mlk RX0 43 yX0_errorsBehind := mtb_in (List.mem_of_getElem? (i := 769) (by decide +kernel)) rfl
theorem lk_X0_46 : mlk RX0 46 yJ6_bitCount_0f7a4 := mtb_in (List.mem_of_getElem? (i := 770) (by decide +kernel)) rfl
theorem lk_X6_211 : mlk RX6 211 yX6_asTrade := mtb_in (List.mem_of_getElem? (i := 780) (by decide +kernel)) rfl
theorem lk_X6_214 : mlk RX6 214 yX6_asBaker := mtb_in (List.mem_of_getElem? (i := 784) (by decide +kernel)) rfl
theorem lk_X6_217 : mlk RX6 217 yX6_asCourt := mtb_in (List.mem_of_getElem? (i := 789) (by decide +kernel)) rfl
theorem lk_X6_220 : mlk RX6 220 yX6_asSweetheart := mtb_in (List.mem_of_getElem? (i := 794) (by decide +kernel)) rfl
theorem lk_X6_223 : mlk RX6 223 yX6_asWife := mtb_in (List.mem_of_getElem? (i := 799) (by decide +kernel)) rfl
theorem lk_X6_226 : mlk RX6 226 yX6_asHen := mtb_in (List.mem_of_getElem? (i := 804) (by decide +kernel)) rfl
theorem lk_X6_229 : mlk RX6 229 yX3_copy := mtb_in (List.mem_of_getElem? (i := 813) (by decide +kernel)) rfl
theorem lk_X7_66 : mlk RX7 66 yX7_in := mtb_in (List.mem_of_getElem? (i := 946) (by decide +kernel)) rfl
theorem lk_X7_100 : mlk RX7 100 yX7_next := mtb_in (List.mem_of_getElem? (i := 957) (by decide +kernel)) rfl
theorem lk_X7_76 : mlk RX7 76 yX7_letterAt := mtb_in (List.mem_of_getElem? (i := 961) (by decide +kernel)) rfl
theorem lk_X7_89 : mlk RX7 89 yX7_isFigure := mtb_in (List.mem_of_getElem? (i := 965) (by decide +kernel)) rfl
theorem lk_X7_93 : mlk RX7 93 yX7_isLetter := mtb_in (List.mem_of_getElem? (i := 968) (by decide +kernel)) rfl
theorem lk_X7_138 : mlk RX7 138 yX7_readItem := mtb_in (List.mem_of_getElem? (i := 971) (by decide +kernel)) rfl
theorem lk_X7_128 : mlk RX7 128 yX7_mayBegin := mtb_in (List.mem_of_getElem? (i := 975) (by decide +kernel)) rfl
theorem lk_X7_131 : mlk RX7 131 yX7_readBody := mtb_in (List.mem_of_getElem? (i := 979) (by decide +kernel)) rfl
theorem lk_X7_106 : mlk RX7 106 yX7_takesNumber := mtb_in (List.mem_of_getElem? (i := 983) (by decide +kernel)) rfl
theorem lk_X7_125 : mlk RX7 125 yX7_readBribe := mtb_in (List.mem_of_getElem? (i := 987) (by decide +kernel)) rfl
theorem lk_X7_141 : mlk RX7 141 yX7_settles := mtb_in (List.mem_of_getElem? (i := 991) (by decide +kernel)) rfl
theorem lk_X7_154 : mlk RX7 154 yX7_isTrade := mtb_in (List.mem_of_getElem? (i := 1008) (by decide +kernel)) rfl
theorem lk_X7_173 : mlk RX7 173 yX7_isPace := mtb_in (List.mem_of_getElem? (i := 1016) (by decide +kernel)) rfl
theorem lk_X7_176 : mlk RX7 176 yX7_isDone := mtb_in (List.mem_of_getElem? (i := 1019) (by decide +kernel)) rfl
theorem lk_X7_157 : mlk RX7 157 yX7_isOver := mtb_in (List.mem_of_getElem? (i := 1023) (by decide +kernel)) rfl
theorem lk_X7_161 : mlk RX7 161 yX7_isFree := mtb_in (List.mem_of_getElem? (i := 1027) (by decide +kernel)) rfl
theorem lk_X7_164 : mlk RX7 164 yX7_size := mtb_in (List.mem_of_getElem? (i := 1031) (by decide +kernel)) rfl
theorem lk_X7_179 : mlk RX7 179 yX7_remembers := mtb_in (List.mem_of_getElem? (i := 1034) (by decide +kernel)) rfl
theorem lk_X7_182 : mlk RX7 182 yX7_restBehind := mtb_in (List.mem_of_getElem? (i := 1038) (by decide +kernel)) rfl
theorem lk_X7_185 : mlk RX7 185 yX7_candlesBy := mtb_in (List.mem_of_getElem? (i := 1041) (by decide +kernel)) rfl
theorem lk_X7_170 : mlk RX7 170 yX7_lesser := mtb_in (List.mem_of_getElem? (i := 1045) (by decide +kernel)) rfl
theorem lk_X7_167 : mlk RX7 167 yX7_harmOf := mtb_in (List.mem_of_getElem? (i := 1048) (by decide +kernel)) rfl
theorem lk_X7_198 : mlk RX7 198 yX7_checks := mtb_in (List.mem_of_getElem? (i := 1057) (by decide +kernel)) rfl
theorem lk_X7_220 : mlk RX7 220 yX7_daysOf := mtb_in (List.mem_of_getElem? (i := 1089) (by decide +kernel)) rfl
theorem lk_X7_223 : mlk RX7 223 yX7_findWorths := mtb_in (List.mem_of_getElem? (i := 1093) (by decide +kernel)) rfl
theorem lk_X7_202 : mlk RX7 202 yX7_at := mtb_in (List.mem_of_getElem? (i := 1097) (by decide +kernel)) rfl
theorem lk_X7_216 : mlk RX7 216 yX7_bestOf := mtb_in (List.mem_of_getElem? (i := 1100) (by decide +kernel)) rfl
theorem lk_X7_208 : mlk RX7 208 yX7_mayTurn := mtb_in (List.mem_of_getElem? (i := 1104) (by decide +kernel)) rfl
theorem lk_X7_212 : mlk RX7 212 yX7_worthBy := mtb_in (List.mem_of_getElem? (i := 1107) (by decide +kernel)) rfl
theorem lk_X7_205 : mlk RX7 205 yX7_harmBy := mtb_in (List.mem_of_getElem? (i := 1111) (by decide +kernel)) rfl
theorem lk_X7_227 : mlk RX7 227 yX7_paceBy := mtb_in (List.mem_of_getElem? (i := 1115) (by decide +kernel)) rfl
theorem lk_X7_230 : mlk RX7 230 yX7_lowest := mtb_in (List.mem_of_getElem? (i := 1119) (by decide +kernel)) rfl
theorem lk_X7_244 : mlk RX7 244 yX7_findHeard := mtb_in (List.mem_of_getElem? (i := 1146) (by decide +kernel)) rfl
theorem lk_X7_234 : mlk RX7 234 yX7_comeTo := mtb_in (List.mem_of_getElem? (i := 1150) (by decide +kernel)) rfl
theorem lk_X7_237 : mlk RX7 237 yX7_isHeard := mtb_in (List.mem_of_getElem? (i := 1154) (by decide +kernel)) rfl
theorem lk_X7_241 : mlk RX7 241 yX7_goFrom := mtb_in (List.mem_of_getElem? (i := 1159) (by decide +kernel)) rfl
theorem lk_X7_248 : mlk RX7 248 yX7_couldOf := mtb_in (List.mem_of_getElem? (i := 1163) (by decide +kernel)) rfl

/-! the rows of these methods are what their bytes say -/
theorem dc_0 : rowOk (yX0_init, cX0_init, 2, none, 0, cd0) := by
  unfold rowOk
  decide +kernel
theorem dc_1 : rowOk (yX0_forget, cX0_forget, 1, none, 0, cd1) := by
  unfold rowOk
  decide +kernel
theorem dc_2 : rowOk (yX0_keep, cX0_keep, 2, none, 0, cd2) := by
  unfold rowOk
  decide +kernel
theorem dc_3 : rowOk (yX0_takeBack, cX0_takeBack, 2, none, 0, cd3) := by
  unfold rowOk
  decide +kernel
theorem dc_4 : rowOk (yX1_init, cX1_init, 1, none, 1, cd4) := by
  unfold rowOk
  decide +kernel
theorem dc_5 : rowOk (yX1_isA, cX1_isA, 2, some .boolean, 1, cd5) := by
  unfold rowOk
  decide +kernel
theorem dc_6 : rowOk (yX1_parent, cX1_parent, 1, some .int, 1, cd6) := by
  unfold rowOk
  decide +kernel
theorem dc_7 : rowOk (yX1_begin, cX1_begin, 5, none, 1, cd7) := by
  unfold rowOk
  decide +kernel
theorem dc_8 : rowOk (yX1_giveFor, cX1_giveFor, 2, some .int, 1, cd8) := by
  unfold rowOk
  decide +kernel
theorem dc_9 : rowOk (yX1_gives, cX1_gives, 4, some .int, 1, cd9) := by
  unfold rowOk
  decide +kernel
theorem dc_10 : rowOk (yX1_leave, cX1_leave, 2, none, 1, cd10) := by
  unfold rowOk
  decide +kernel
theorem dc_11 : rowOk (yX2_init, cX2_init, 1, none, 2, cd11) := by
  unfold rowOk
  decide +kernel
theorem dc_12 : rowOk (yX2_clear, cX2_clear, 1, none, 2, cd12) := by
  unfold rowOk
  decide +kernel
theorem dc_13 : rowOk (yX2_addAnswer, cX2_addAnswer, 4, none, 2, cd13) := by
  unfold rowOk
  decide +kernel
theorem dc_14 : rowOk (yX2_addHawk, cX2_addHawk, 3, none, 2, cd14) := by
  unfold rowOk
  decide +kernel
theorem dc_15 : rowOk (yX2_takeFrom, cX2_takeFrom, 3, none, 2, cd15) := by
  unfold rowOk
  decide +kernel
theorem dc_16 : rowOk (yX2_isRead, cX2_isRead, 1, some .boolean, 2, cd16) := by
  unfold rowOk
  decide +kernel
theorem dc_17 : rowOk (yX2_isHawk, cX2_isHawk, 2, some .boolean, 2, cd17) := by
  unfold rowOk
  decide +kernel
theorem dc_18 : rowOk (yX2_isAnswer, cX2_isAnswer, 2, some .boolean, 2, cd18) := by
  unfold rowOk
  decide +kernel
theorem dc_19 : rowOk (yX2_isRidge, cX2_isRidge, 2, some .boolean, 2, cd19) := by
  unfold rowOk
  decide +kernel
theorem dc_20 : rowOk (yX2_isKnown, cX2_isKnown, 2, some .boolean, 2, cd20) := by
  unfold rowOk
  decide +kernel
theorem dc_21 : rowOk (yX2_knownWorth, cX2_knownWorth, 3, some .int, 2, cd21) := by
  unfold rowOk
  decide +kernel
theorem dc_22 : rowOk (yX2_hawksThatAre, cX2_hawksThatAre, 4, some .int, 2, cd22) := by
  unfold rowOk
  decide +kernel
theorem dc_23 : rowOk (yX2_letGo, cX2_letGo, 2, none, 2, cd23) := by
  unfold rowOk
  decide +kernel
theorem dc_24 : rowOk (yX2_callBack, cX2_callBack, 2, none, 2, cd24) := by
  unfold rowOk
  decide +kernel
theorem dc_25 : rowOk (yX2_perchAll, cX2_perchAll, 4, none, 2, cd25) := by
  unfold rowOk
  decide +kernel
theorem dc_26 : rowOk (yX2_perch, cX2_perch, 3, none, 2, cd26) := by
  unfold rowOk
  decide +kernel
theorem dc_27 : rowOk (yX2_passHours, cX2_passHours, 5, none, 2, cd27) := by
  unfold rowOk
  decide +kernel
theorem dc_28 : rowOk (yX2_driftOn, cX2_driftOn, 2, none, 2, cd28) := by
  unfold rowOk
  decide +kernel
theorem dc_29 : rowOk (yX2_takesInFlight, cX2_takesInFlight, 3, some .boolean, 2, cd29) := by
  unfold rowOk
  decide +kernel
theorem dc_30 : rowOk (yX2_take, cX2_take, 3, none, 2, cd30) := by
  unfold rowOk
  decide +kernel
theorem dc_31 : rowOk (yX2_nextRidge, cX2_nextRidge, 4, some .int, 2, cd31) := by
  unfold rowOk
  decide +kernel
theorem dc_32 : rowOk (yX2_towards, cX2_towards, 5, some .int, 2, cd32) := by
  unfold rowOk
  decide +kernel

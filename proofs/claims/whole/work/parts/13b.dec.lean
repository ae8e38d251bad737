/-! the rows of these methods are what their bytes say -/
theorem dc_33 : rowOk (yX2_quarry, cX2_quarry, 2, some .int, 2, cd33) := by
  unfold rowOk
  decide +kernel
theorem dc_34 : rowOk (yX2_distance, cX2_distance, 3, some .int, 2, cd34) := by
  unfold rowOk
  decide +kernel
theorem dc_35 : rowOk (yX2_closest, cX2_closest, 6, some .int, 2, cd35) := by
  unfold rowOk
  decide +kernel
theorem dc_36 : rowOk (yX2_worthiest, cX2_worthiest, 7, some .int, 2, cd36) := by
  unfold rowOk
  decide +kernel
theorem dc_37 : rowOk (yX2_prey, cX2_prey, 5, some .int, 2, cd37) := by
  unfold rowOk
  decide +kernel
theorem dc_38 : rowOk (yX2_greatestTaken, cX2_greatestTaken, 2, some .int, 2, cd38) := by
  unfold rowOk
  decide +kernel
theorem dc_39 : rowOk (yX3_init, cX3_init, 1, none, 3, cd39) := by
  unfold rowOk
  decide +kernel
theorem dc_40 : rowOk (yX3_behind, cX3_behind, 3, some (.object "HawkAsks$Castle"), 3, cd40) := by
  unfold rowOk
  decide +kernel
theorem dc_41 : rowOk (yX3_hoursTillKnown, cX3_hoursTillKnown, 3, some .int, 3, cd41) := by
  unfold rowOk
  decide +kernel
theorem dc_42 : rowOk (yX3_runTillKnown, cX3_runTillKnown, 4, some .int, 3, cd42) := by
  unfold rowOk
  decide +kernel
theorem dc_43 : rowOk (yX3_hoursTillLost, cX3_hoursTillLost, 4, some .int, 3, cd43) := by
  unfold rowOk
  decide +kernel
theorem dc_44 : rowOk (yX3_firstKnown, cX3_firstKnown, 5, some .int, 3, cd44) := by
  unfold rowOk
  decide +kernel
theorem dc_45 : rowOk (yX3_bestFlight, cX3_bestFlight, 9, some .int, 3, cd45) := by
  unfold rowOk
  decide +kernel
theorem dc_46 : rowOk (yX3_flightOf, cX3_flightOf, 4, some (.object "HawkAsks$Castle"), 3, cd46) := by
  unfold rowOk
  decide +kernel
theorem dc_47 : rowOk (yX3_bestWait, cX3_bestWait, 9, some .int, 3, cd47) := by
  unfold rowOk
  decide +kernel
theorem dc_48 : rowOk (yX3_hungersThatServe, cX3_hungersThatServe, 7, some .int, 3, cd48) := by
  unfold rowOk
  decide +kernel
theorem dc_49 : rowOk (yX3_byTurns, cX3_byTurns, 6, some .int, 3, cd49) := by
  unfold rowOk
  decide +kernel
theorem dc_50 : rowOk (yX3_turn, cX3_turn, 8, some .int, 3, cd50) := by
  unfold rowOk
  decide +kernel
theorem dc_51 : rowOk (yX3_hear, cX3_hear, 5, none, 3, cd51) := by
  unfold rowOk
  decide +kernel
theorem dc_52 : rowOk (yX3_bellFits, cX3_bellFits, 2, some .boolean, 3, cd52) := by
  unfold rowOk
  decide +kernel
theorem dc_53 : rowOk (yX3_kindsThatFit, cX3_kindsThatFit, 5, some .int, 3, cd53) := by
  unfold rowOk
  decide +kernel
theorem dc_54 : rowOk (yX3_hungersThatFit, cX3_hungersThatFit, 5, some .int, 3, cd54) := by
  unfold rowOk
  decide +kernel
theorem dc_55 : rowOk (yX3_driftsThatFit, cX3_driftsThatFit, 5, some .int, 3, cd55) := by
  unfold rowOk
  decide +kernel
theorem dc_56 : rowOk (yX3_placesThatFit, cX3_placesThatFit, 5, some .int, 3, cd56) := by
  unfold rowOk
  decide +kernel
theorem dc_57 : rowOk (yX3_likelihood, cX3_likelihood, 14, some .long, 3, cd57) := by
  unfold rowOk
  decide +kernel
theorem dc_58 : rowOk (yX3_casesOf, cX3_casesOf, 6, some .long, 3, cd58) := by
  unfold rowOk
  decide +kernel
theorem dc_59 : rowOk (yX3_isKnownWithout, cX3_isKnownWithout, 5, some .boolean, 3, cd59) := by
  unfold rowOk
  decide +kernel
theorem dc_60 : rowOk (yX3_commonDivisor, cX3_commonDivisor, 7, some .long, 3, cd60) := by
  unfold rowOk
  decide +kernel

/-! the rows of these methods are what their bytes say -/
theorem dc_61 : rowOk (yX3_season, cX3_season, 7, some (.object "HawkAsks$Castle"), 3, cd61) := by
  unfold rowOk
  decide +kernel
theorem dc_62 : rowOk (yX3_drawOne, cX3_drawOne, 4, none, 3, cd62) := by
  unfold rowOk
  decide +kernel
theorem dc_63 : rowOk (yX4_init, cX4_init, 1, none, 4, cd63) := by
  unfold rowOk
  decide +kernel
theorem dc_64 : rowOk (yX4_takeByte, cX4_takeByte, 2, some .boolean, 4, cd64) := by
  unfold rowOk
  decide +kernel
theorem dc_65 : rowOk (yX4_readAll, cX4_readAll, 1, some .boolean, 4, cd65) := by
  unfold rowOk
  decide +kernel
theorem dc_66 : rowOk (yX4_readLaw, cX4_readLaw, 1, some .boolean, 4, cd66) := by
  unfold rowOk
  decide +kernel
theorem dc_67 : rowOk (yX4_readAnswers, cX4_readAnswers, 2, some .boolean, 4, cd67) := by
  unfold rowOk
  decide +kernel
theorem dc_68 : rowOk (yX4_readAnswer, cX4_readAnswer, 3, some .boolean, 4, cd68) := by
  unfold rowOk
  decide +kernel
theorem dc_69 : rowOk (yX4_readHawks, cX4_readHawks, 2, some .boolean, 4, cd69) := by
  unfold rowOk
  decide +kernel
theorem dc_70 : rowOk (yX4_readHawk, cX4_readHawk, 2, some .boolean, 4, cd70) := by
  unfold rowOk
  decide +kernel
theorem dc_71 : rowOk (yX4_sign, cX4_sign, 2, some .boolean, 4, cd71) := by
  unfold rowOk
  decide +kernel
theorem dc_72 : rowOk (yX4_number, cX4_number, 4, some .boolean, 4, cd72) := by
  unfold rowOk
  decide +kernel
theorem dc_73 : rowOk (yX4_fail, cX4_fail, 2, some .boolean, 4, cd73) := by
  unfold rowOk
  decide +kernel
theorem dc_74 : rowOk (yX4_byteHere, cX4_byteHere, 1, some .int, 4, cd74) := by
  unfold rowOk
  decide +kernel
theorem dc_75 : rowOk (yX4_byteAt, cX4_byteAt, 2, some .int, 4, cd75) := by
  unfold rowOk
  decide +kernel
theorem dc_76 : rowOk (yX4_isFigure, cX4_isFigure, 1, some .boolean, 4, cd76) := by
  unfold rowOk
  decide +kernel
theorem dc_77 : rowOk (yX4_kindOf, cX4_kindOf, 1, some .int, 4, cd77) := by
  unfold rowOk
  decide +kernel
theorem dc_78 : rowOk (yX5_init, cX5_init, 1, none, 5, cd78) := by
  unfold rowOk
  decide +kernel
theorem dc_79 : rowOk (yX5_isRow, cX5_isRow, 1, some .boolean, 5, cd79) := by
  unfold rowOk
  decide +kernel
theorem dc_80 : rowOk (yX5_isMissing, cX5_isMissing, 2, some .boolean, 5, cd80) := by
  unfold rowOk
  decide +kernel
theorem dc_81 : rowOk (yX5_howMany, cX5_howMany, 3, some .int, 5, cd81) := by
  unfold rowOk
  decide +kernel
theorem dc_82 : rowOk (yX5_begin, cX5_begin, 5, none, 5, cd82) := by
  unfold rowOk
  decide +kernel
theorem dc_83 : rowOk (yX5_end, cX5_end, 3, some .int, 5, cd83) := by
  unfold rowOk
  decide +kernel
theorem dc_84 : rowOk (yX5_put, cX5_put, 4, some .int, 5, cd84) := by
  unfold rowOk
  decide +kernel
theorem dc_85 : rowOk (yX5_move, cX5_move, 6, none, 5, cd85) := by
  unfold rowOk
  decide +kernel
theorem dc_86 : rowOk (yX5_findingOf, cX5_findingOf, 4, some .int, 5, cd86) := by
  unfold rowOk
  decide +kernel
theorem dc_87 : rowOk (yX5_findingOfTwo, cX5_findingOfTwo, 6, some .int, 5, cd87) := by
  unfold rowOk
  decide +kernel
theorem dc_88 : rowOk (yX5_holds, cX5_holds, 4, some .boolean, 5, cd88) := by
  unfold rowOk
  decide +kernel
theorem dc_89 : rowOk (yX5_narrowed, cX5_narrowed, 2, some .int, 5, cd89) := by
  unfold rowOk
  decide +kernel
theorem dc_90 : rowOk (yX6_init, cX6_init, 1, none, 6, cd90) := by
  unfold rowOk
  decide +kernel
theorem dc_91 : rowOk (yX6_row, cX6_row, 4, some .int, 6, cd91) := by
  unfold rowOk
  decide +kernel
theorem dc_92 : rowOk (yX6_set, cX6_set, 5, some .int, 6, cd92) := by
  unfold rowOk
  decide +kernel
theorem dc_93 : rowOk (yX6_copy, cX6_copy, 7, some .int, 6, cd93) := by
  unfold rowOk
  decide +kernel
theorem dc_94 : rowOk (yX6_drop, cX6_drop, 2, some .int, 6, cd94) := by
  unfold rowOk
  decide +kernel
theorem dc_95 : rowOk (yX6_feed, cX6_feed, 2, some .int, 6, cd95) := by
  unfold rowOk
  decide +kernel
theorem dc_96 : rowOk (yX6_castle, cX6_castle, 2, some .int, 6, cd96) := by
  unfold rowOk
  decide +kernel
theorem dc_97 : rowOk (yX6_fault, cX6_fault, 1, some .int, 6, cd97) := by
  unfold rowOk
  decide +kernel

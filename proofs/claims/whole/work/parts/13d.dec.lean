/-! the rows of these methods are what their bytes say -/
theorem dc_98 : rowOk (yX6_undo, cX6_undo, 1, some .int, 6, cd98) := by
  unfold rowOk
  decide +kernel
theorem dc_99 : rowOk (yX6_hours, cX6_hours, 3, some .int, 6, cd99) := by
  unfold rowOk
  decide +kernel
theorem dc_100 : rowOk (yX6_fly, cX6_fly, 2, some .int, 6, cd100) := by
  unfold rowOk
  decide +kernel
theorem dc_101 : rowOk (yX6_call, cX6_call, 2, some .int, 6, cd101) := by
  unfold rowOk
  decide +kernel
theorem dc_102 : rowOk (yX6_starve, cX6_starve, 4, some .int, 6, cd102) := by
  unfold rowOk
  decide +kernel
theorem dc_103 : rowOk (yX6_lay, cX6_lay, 4, some .int, 6, cd103) := by
  unfold rowOk
  decide +kernel
theorem dc_104 : rowOk (yX6_hawk, cX6_hawk, 3, some .int, 6, cd104) := by
  unfold rowOk
  decide +kernel
theorem dc_105 : rowOk (yX6_answer, cX6_answer, 3, some .int, 6, cd105) := by
  unfold rowOk
  decide +kernel
theorem dc_106 : rowOk (yX6_stand, cX6_stand, 2, some .int, 6, cd106) := by
  unfold rowOk
  decide +kernel
theorem dc_107 : rowOk (yX6_ahead, cX6_ahead, 5, some .int, 6, cd107) := by
  unfold rowOk
  decide +kernel
theorem dc_108 : rowOk (yX6_later, cX6_later, 4, some .int, 6, cd108) := by
  unfold rowOk
  decide +kernel
theorem dc_109 : rowOk (yX6_known, cX6_known, 2, some .int, 6, cd109) := by
  unfold rowOk
  decide +kernel
theorem dc_110 : rowOk (yX6_lost, cX6_lost, 2, some .int, 6, cd110) := by
  unfold rowOk
  decide +kernel
theorem dc_111 : rowOk (yX6_first, cX6_first, 2, some .int, 6, cd111) := by
  unfold rowOk
  decide +kernel
theorem dc_112 : rowOk (yX6_flies, cX6_flies, 3, some .int, 6, cd112) := by
  unfold rowOk
  decide +kernel
theorem dc_113 : rowOk (yX6_waits, cX6_waits, 4, some .int, 6, cd113) := by
  unfold rowOk
  decide +kernel
theorem dc_114 : rowOk (yX6_starves, cX6_starves, 4, some .int, 6, cd114) := by
  unfold rowOk
  decide +kernel
theorem dc_115 : rowOk (yX6_falconers, cX6_falconers, 3, some .int, 6, cd115) := by
  unfold rowOk
  decide +kernel
theorem dc_116 : rowOk (yX6_nearest, cX6_nearest, 4, some .int, 6, cd116) := by
  unfold rowOk
  decide +kernel
theorem dc_117 : rowOk (yX6_who, cX6_who, 8, some .int, 6, cd117) := by
  unfold rowOk
  decide +kernel
theorem dc_118 : rowOk (yX6_what, cX6_what, 8, some .int, 6, cd118) := by
  unfold rowOk
  decide +kernel
theorem dc_119 : rowOk (yX6_moult, cX6_moult, 5, some .long, 6, cd119) := by
  unfold rowOk
  decide +kernel
theorem dc_120 : rowOk (yX6_drawn, cX6_drawn, 5, some .int, 6, cd120) := by
  unfold rowOk
  decide +kernel
theorem dc_121 : rowOk (yX6_image, cX6_image, 2, some .int, 6, cd121) := by
  unfold rowOk
  decide +kernel
theorem dc_122 : rowOk (yX6_restore, cX6_restore, 2, some .int, 6, cd122) := by
  unfold rowOk
  decide +kernel
theorem dc_123 : rowOk (yX6_kind, cX6_kind, 2, some .int, 6, cd123) := by
  unfold rowOk
  decide +kernel
theorem dc_124 : rowOk (yX6_as, cX6_as, 3, some .int, 6, cd124) := by
  unfold rowOk
  decide +kernel

/-! the rows of these methods are what their bytes say -/
theorem dc_158 : rowOk (yX7_readsHawk, cX7_readsHawk, 3, some .boolean, 7, cd158) := by
  unfold rowOk
  decide +kernel
theorem dc_159 : rowOk (yX7_readsAll, cX7_readsAll, 2, some .boolean, 7, cd159) := by
  unfold rowOk
  decide +kernel
theorem dc_160 : rowOk (yX7_castle, cX7_castle, 4, some .int, 7, cd160) := by
  unfold rowOk
  decide +kernel
theorem dc_161 : rowOk (yX7_fault, cX7_fault, 1, some .int, 7, cd161) := by
  unfold rowOk
  decide +kernel
theorem dc_162 : rowOk (yX7_isHawk, cX7_isHawk, 2, some .boolean, 7, cd162) := by
  unfold rowOk
  decide +kernel
theorem dc_163 : rowOk (yX7_isAnswer, cX7_isAnswer, 2, some .boolean, 7, cd163) := by
  unfold rowOk
  decide +kernel
theorem dc_164 : rowOk (yX7_isRidge, cX7_isRidge, 2, some .boolean, 7, cd164) := by
  unfold rowOk
  decide +kernel
theorem dc_165 : rowOk (yX7_apart, cX7_apart, 2, some .int, 7, cd165) := by
  unfold rowOk
  decide +kernel
theorem dc_166 : rowOk (yX7_aims, cX7_aims, 9, some .int, 7, cd166) := by
  unfold rowOk
  decide +kernel
theorem dc_167 : rowOk (yX7_goesFor, cX7_goesFor, 4, some .int, 7, cd167) := by
  unfold rowOk
  decide +kernel
theorem dc_168 : rowOk (yX7_nearer, cX7_nearer, 3, some .int, 7, cd168) := by
  unfold rowOk
  decide +kernel
theorem dc_169 : rowOk (yX7_moves, cX7_moves, 5, none, 7, cd169) := by
  unfold rowOk
  decide +kernel
theorem dc_170 : rowOk (yX7_takes, cX7_takes, 8, some .int, 7, cd170) := by
  unfold rowOk
  decide +kernel
theorem dc_171 : rowOk (yX7_drifts, cX7_drifts, 5, none, 7, cd171) := by
  unfold rowOk
  decide +kernel
theorem dc_172 : rowOk (yX7_hunts, cX7_hunts, 5, some .boolean, 7, cd172) := by
  unfold rowOk
  decide +kernel
theorem dc_173 : rowOk (yX7_passes, cX7_passes, 5, none, 7, cd173) := by
  unfold rowOk
  decide +kernel
theorem dc_174 : rowOk (yX7_worthOf, cX7_worthOf, 4, some .int, 7, cd174) := by
  unfold rowOk
  decide +kernel
theorem dc_175 : rowOk (yX7_are, cX7_are, 5, some .int, 7, cd175) := by
  unfold rowOk
  decide +kernel
theorem dc_176 : rowOk (yX7_letsGo, cX7_letsGo, 3, none, 7, cd176) := by
  unfold rowOk
  decide +kernel

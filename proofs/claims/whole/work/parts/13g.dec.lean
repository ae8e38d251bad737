/-! the rows of these methods are what their bytes say -/
theorem dc_177 : rowOk (yX7_callsBack, cX7_callsBack, 3, none, 7, cd177) := by
  unfold rowOk
  decide +kernel
theorem dc_178 : rowOk (yX7_remember, cX7_remember, 2, none, 7, cd178) := by
  unfold rowOk
  decide +kernel
theorem dc_179 : rowOk (yX7_undo, cX7_undo, 2, some .int, 7, cd179) := by
  unfold rowOk
  decide +kernel
theorem dc_180 : rowOk (yX7_need, cX7_need, 2, some .int, 7, cd180) := by
  unfold rowOk
  decide +kernel
theorem dc_181 : rowOk (yX7_hours, cX7_hours, 4, some .int, 7, cd181) := by
  unfold rowOk
  decide +kernel
theorem dc_182 : rowOk (yX7_fly, cX7_fly, 2, some .int, 7, cd182) := by
  unfold rowOk
  decide +kernel
theorem dc_183 : rowOk (yX7_call, cX7_call, 2, some .int, 7, cd183) := by
  unfold rowOk
  decide +kernel
theorem dc_184 : rowOk (yX7_starve, cX7_starve, 4, some .int, 7, cd184) := by
  unfold rowOk
  decide +kernel
theorem dc_185 : rowOk (yX7_lay, cX7_lay, 4, some .int, 7, cd185) := by
  unfold rowOk
  decide +kernel
theorem dc_186 : rowOk (yX7_hawk, cX7_hawk, 3, some .int, 7, cd186) := by
  unfold rowOk
  decide +kernel
theorem dc_187 : rowOk (yX7_answer, cX7_answer, 3, some .int, 7, cd187) := by
  unfold rowOk
  decide +kernel
theorem dc_188 : rowOk (yX7_stand, cX7_stand, 3, some .int, 7, cd188) := by
  unfold rowOk
  decide +kernel
theorem dc_189 : rowOk (yX7_copyNow, cX7_copyNow, 2, none, 7, cd189) := by
  unfold rowOk
  decide +kernel
theorem dc_190 : rowOk (yX7_goesOn, cX7_goesOn, 3, none, 7, cd190) := by
  unfold rowOk
  decide +kernel
theorem dc_191 : rowOk (yX7_isAhead, cX7_isAhead, 1, some .boolean, 7, cd191) := by
  unfold rowOk
  decide +kernel
theorem dc_192 : rowOk (yX7_ahead, cX7_ahead, 4, some .int, 7, cd192) := by
  unfold rowOk
  decide +kernel
theorem dc_193 : rowOk (yX7_later, cX7_later, 3, some .int, 7, cd193) := by
  unfold rowOk
  decide +kernel
theorem dc_194 : rowOk (yX7_known, cX7_known, 3, some .int, 7, cd194) := by
  unfold rowOk
  decide +kernel
theorem dc_195 : rowOk (yX7_lost, cX7_lost, 3, some .int, 7, cd195) := by
  unfold rowOk
  decide +kernel
theorem dc_196 : rowOk (yX7_first, cX7_first, 5, some .int, 7, cd196) := by
  unfold rowOk
  decide +kernel
theorem dc_197 : rowOk (yX7_flies, cX7_flies, 10, some .int, 7, cd197) := by
  unfold rowOk
  decide +kernel
theorem dc_198 : rowOk (yX7_knownBy, cX7_knownBy, 5, some .int, 7, cd198) := by
  unfold rowOk
  decide +kernel

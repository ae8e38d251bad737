/-! the rows of these methods are what their bytes say -/
theorem dc_210 : rowOk (yX7_restore, cX7_restore, 3, some .int, 7, cd210) := by
  unfold rowOk
  decide +kernel
theorem dc_211 : rowOk (yX7_kind, cX7_kind, 2, some .int, 7, cd211) := by
  unfold rowOk
  decide +kernel
theorem dc_212 : rowOk (yX7_as, cX7_as, 5, some .int, 7, cd212) := by
  unfold rowOk
  decide +kernel
theorem dc_213 : rowOk (yX7_leaves, cX7_leaves, 2, none, 7, cd213) := by
  unfold rowOk
  decide +kernel
theorem dc_214 : rowOk (yX7_b10, cX7_b10, 2, some .int, 7, cd214) := by
  unfold rowOk
  decide +kernel
theorem dc_215 : rowOk (yX7_b20, cX7_b20, 2, some .int, 7, cd215) := by
  unfold rowOk
  decide +kernel
theorem dc_216 : rowOk (yX7_b21, cX7_b21, 2, some .int, 7, cd216) := by
  unfold rowOk
  decide +kernel
theorem dc_217 : rowOk (yX7_markOfMerlin, cX7_markOfMerlin, 2, some .int, 7, cd217) := by
  unfold rowOk
  decide +kernel
theorem dc_218 : rowOk (yX7_b11, cX7_b11, 3, some .int, 7, cd218) := by
  unfold rowOk
  decide +kernel
theorem dc_219 : rowOk (yX7_b13, cX7_b13, 2, some .int, 7, cd219) := by
  unfold rowOk
  decide +kernel
theorem dc_220 : rowOk (yX7_sizeOf, cX7_sizeOf, 2, some .int, 7, cd220) := by
  unfold rowOk
  decide +kernel
theorem dc_221 : rowOk (yX7_markOf, cX7_markOf, 3, some .int, 7, cd221) := by
  unfold rowOk
  decide +kernel
theorem dc_222 : rowOk (yX7_ask, cX7_ask, 3, some .int, 7, cd222) := by
  unfold rowOk
  decide +kernel
theorem dc_223 : rowOk (yX7_trace, cX7_trace, 2, some .int, 7, cd223) := by
  unfold rowOk
  decide +kernel
theorem dc_224 : rowOk (yX7_count, cX7_count, 4, some .int, 7, cd224) := by
  unfold rowOk
  decide +kernel
theorem dc_225 : rowOk (yJ6_bitCount_0f7a4, cJ6_bitCount_0f7a4, 1, some .int, 8, cd225) := by
  unfold rowOk
  decide +kernel

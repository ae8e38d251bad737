/-! the rows of these methods are what their bytes say -/
theorem dc_199 : rowOk (yX7_waits, cX7_waits, 9, some .int, 7, cd199) := by
  unfold rowOk
  decide +kernel
theorem dc_200 : rowOk (yX7_starves, cX7_starves, 6, some .int, 7, cd200) := by
  unfold rowOk
  decide +kernel
theorem dc_201 : rowOk (yX7_falconers, cX7_falconers, 11, some .int, 7, cd201) := by
  unfold rowOk
  decide +kernel
theorem dc_202 : rowOk (yX7_nearest, cX7_nearest, 4, some .int, 7, cd202) := by
  unfold rowOk
  decide +kernel
theorem dc_203 : rowOk (yX7_isBell, cX7_isBell, 7, some .boolean, 7, cd203) := by
  unfold rowOk
  decide +kernel
theorem dc_204 : rowOk (yX7_who, cX7_who, 10, some .int, 7, cd204) := by
  unfold rowOk
  decide +kernel
theorem dc_205 : rowOk (yX7_what, cX7_what, 9, some .int, 7, cd205) := by
  unfold rowOk
  decide +kernel
theorem dc_206 : rowOk (yX7_common, cX7_common, 10, some .long, 7, cd206) := by
  unfold rowOk
  decide +kernel
theorem dc_207 : rowOk (yX7_moult, cX7_moult, 14, some .long, 7, cd207) := by
  unfold rowOk
  decide +kernel
theorem dc_208 : rowOk (yX7_drawn, cX7_drawn, 10, some .int, 7, cd208) := by
  unfold rowOk
  decide +kernel
theorem dc_209 : rowOk (yX7_image, cX7_image, 3, some .int, 7, cd209) := by
  unfold rowOk
  decide +kernel

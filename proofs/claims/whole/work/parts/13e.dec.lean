/-! the rows of these methods are what their bytes say -/
theorem dc_125 : rowOk (yX6_ask, cX6_ask, 3, some .int, 6, cd125) := by
  unfold rowOk
  decide +kernel
theorem dc_126 : rowOk (yX6_trace, cX6_trace, 2, some .int, 6, cd126) := by
  unfold rowOk
  decide +kernel
theorem dc_127 : rowOk (yX6_count, cX6_count, 2, some .int, 6, cd127) := by
  unfold rowOk
  decide +kernel
theorem dc_128 : rowOk (yX6_status, cX6_status, 1, some .int, 6, cd128) := by
  unfold rowOk
  decide +kernel
theorem dc_129 : rowOk (yX6_found, cX6_found, 2, some .int, 6, cd129) := by
  unfold rowOk
  decide +kernel
theorem dc_130 : rowOk (yX6_clean, cX6_clean, 2, some .int, 6, cd130) := by
  unfold rowOk
  decide +kernel
theorem dc_131 : rowOk (yX6_within, cX6_within, 3, some .boolean, 6, cd131) := by
  unfold rowOk
  decide +kernel
theorem dc_132 : rowOk (yX6_isEither, cX6_isEither, 1, some .boolean, 6, cd132) := by
  unfold rowOk
  decide +kernel
theorem dc_133 : rowOk (yX6_isBell, cX6_isBell, 2, some .boolean, 6, cd133) := by
  unfold rowOk
  decide +kernel
theorem dc_134 : rowOk (yX7_init, cX7_init, 2, none, 7, cd134) := by
  unfold rowOk
  decide +kernel
theorem dc_135 : rowOk (yX7_in, cX7_in, 3, some .boolean, 7, cd135) := by
  unfold rowOk
  decide +kernel
theorem dc_136 : rowOk (yX7_has, cX7_has, 2, some .boolean, 7, cd136) := by
  unfold rowOk
  decide +kernel
theorem dc_137 : rowOk (yX7_bits, cX7_bits, 3, some .int, 7, cd137) := by
  unfold rowOk
  decide +kernel
theorem dc_138 : rowOk (yX7_meets, cX7_meets, 2, some .int, 7, cd138) := by
  unfold rowOk
  decide +kernel
theorem dc_139 : rowOk (yX7_well, cX7_well, 2, some .int, 7, cd139) := by
  unfold rowOk
  decide +kernel
theorem dc_140 : rowOk (yX7_status, cX7_status, 1, some .int, 7, cd140) := by
  unfold rowOk
  decide +kernel
theorem dc_141 : rowOk (yX7_isRow, cX7_isRow, 1, some .boolean, 7, cd141) := by
  unfold rowOk
  decide +kernel
theorem dc_142 : rowOk (yX7_isPart, cX7_isPart, 4, some .boolean, 7, cd142) := by
  unfold rowOk
  decide +kernel
theorem dc_143 : rowOk (yX7_item, cX7_item, 3, some .int, 7, cd143) := by
  unfold rowOk
  decide +kernel
theorem dc_144 : rowOk (yX7_row, cX7_row, 5, some .int, 7, cd144) := by
  unfold rowOk
  decide +kernel
theorem dc_145 : rowOk (yX7_set, cX7_set, 5, some .int, 7, cd145) := by
  unfold rowOk
  decide +kernel
theorem dc_146 : rowOk (yX7_copy, cX7_copy, 9, some .int, 7, cd146) := by
  unfold rowOk
  decide +kernel
theorem dc_147 : rowOk (yX7_drop, cX7_drop, 3, some .int, 7, cd147) := by
  unfold rowOk
  decide +kernel
theorem dc_148 : rowOk (yX7_feed, cX7_feed, 2, some .int, 7, cd148) := by
  unfold rowOk
  decide +kernel
theorem dc_149 : rowOk (yX7_byteAt, cX7_byteAt, 2, some .int, 7, cd149) := by
  unfold rowOk
  decide +kernel
theorem dc_150 : rowOk (yX7_isFigure, cX7_isFigure, 1, some .boolean, 7, cd150) := by
  unfold rowOk
  decide +kernel
theorem dc_151 : rowOk (yX7_reads, cX7_reads, 2, none, 7, cd151) := by
  unfold rowOk
  decide +kernel
theorem dc_152 : rowOk (yX7_fails, cX7_fails, 2, some .boolean, 7, cd152) := by
  unfold rowOk
  decide +kernel
theorem dc_153 : rowOk (yX7_told, cX7_told, 5, some .boolean, 7, cd153) := by
  unfold rowOk
  decide +kernel
theorem dc_154 : rowOk (yX7_sign, cX7_sign, 2, some .boolean, 7, cd154) := by
  unfold rowOk
  decide +kernel
theorem dc_155 : rowOk (yX7_readsLaw, cX7_readsLaw, 1, some .boolean, 7, cd155) := by
  unfold rowOk
  decide +kernel
theorem dc_156 : rowOk (yX7_readsAnswer, cX7_readsAnswer, 2, some .boolean, 7, cd156) := by
  unfold rowOk
  decide +kernel
theorem dc_157 : rowOk (yX7_sortOf, cX7_sortOf, 1, some .int, 7, cd157) := by
  unfold rowOk
  decide +kernel

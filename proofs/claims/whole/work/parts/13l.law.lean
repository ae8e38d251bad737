/-! the rows of the law are what its bytes say -/
theorem dcl_10 : ∀ q ∈ (cd226.drop (52 * 10)).take 52, okL q := by decide +kernel
theorem dcl_11 : ∀ q ∈ (cd226.drop (52 * 11)).take 52, okL q := by decide +kernel
theorem dcl_12 : ∀ q ∈ (cd226.drop (52 * 12)).take 52, okL q := by decide +kernel
theorem dcl_13 : ∀ q ∈ (cd226.drop (52 * 13)).take 52, okL q := by decide +kernel
theorem dcl_14 : ∀ q ∈ (cd226.drop (52 * 14)).take 52, okL q := by decide +kernel

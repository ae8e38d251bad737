/-! the rows of the law are what its bytes say -/
theorem dcl_5 : ∀ q ∈ (cd226.drop (52 * 5)).take 52, okL q := by decide +kernel
theorem dcl_6 : ∀ q ∈ (cd226.drop (52 * 6)).take 52, okL q := by decide +kernel
theorem dcl_7 : ∀ q ∈ (cd226.drop (52 * 7)).take 52, okL q := by decide +kernel
theorem dcl_8 : ∀ q ∈ (cd226.drop (52 * 8)).take 52, okL q := by decide +kernel
theorem dcl_9 : ∀ q ∈ (cd226.drop (52 * 9)).take 52, okL q := by decide +kernel

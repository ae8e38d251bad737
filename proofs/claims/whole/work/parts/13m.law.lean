/-! the rows of the law are what its bytes say -/
theorem dcl_15 : ∀ q ∈ (cd226.drop (52 * 15)).take 52, okL q := by decide +kernel
theorem dcl_16 : ∀ q ∈ (cd226.drop (52 * 16)).take 52, okL q := by decide +kernel
theorem dcl_17 : ∀ q ∈ (cd226.drop (52 * 17)).take 52, okL q := by decide +kernel
theorem dcl_18 : ∀ q ∈ (cd226.drop (52 * 18)).take 52, okL q := by decide +kernel
theorem dcl_19 : ∀ q ∈ (cd226.drop (52 * 19)).take 52, okL q := by decide +kernel

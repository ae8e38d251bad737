/-! the rows of the law are what its bytes say -/
abbrev okL (q : Nat × aI) : Prop := decode code q.1 = .ok (q.2.1, q.2.2.1) ∧ okI 10 false q.1 q.2.1 q.2.2.1 q.2.2.2.1 q.2.2.2.2.1 q.2.2.2.2.2.1 q.2.2.2.2.2.2 = true ∧ okM q.2.1 q.2.2.2.2.1 q.2.2.2.2.2.2 = true
theorem dcl_0 : ∀ q ∈ (cd226.drop (52 * 0)).take 52, okL q := by decide +kernel
theorem dcl_1 : ∀ q ∈ (cd226.drop (52 * 1)).take 52, okL q := by decide +kernel
theorem dcl_2 : ∀ q ∈ (cd226.drop (52 * 2)).take 52, okL q := by decide +kernel
theorem dcl_3 : ∀ q ∈ (cd226.drop (52 * 3)).take 52, okL q := by decide +kernel
theorem dcl_4 : ∀ q ∈ (cd226.drop (52 * 4)).take 52, okL q := by decide +kernel

theorem dc_test : ∀ q ∈ cd25, decode cX2_perchAll q.1 = .ok (q.2.1, q.2.2.1) := by decide +kernel

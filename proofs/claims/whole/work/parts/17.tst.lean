/-! small ones -/
theorem rtb0 : (Int32.ofInt 0 = 0 ∨ Int32.ofInt 0 = 1) = True := by simp [i_zero]
theorem rtb1 : (Int32.ofInt 1 = 0 ∨ Int32.ofInt 1 = 1) = True := by simp [i_one]
theorem entL_i {x : Int32} {vs : List Value} {n : Nat} : entL (.int x :: vs) (n + 1) = some (.int x) :: entL vs n := by simp [entL, Value.category]
theorem entL_r {x : Nat} {vs : List Value} {n : Nat} : entL (.ref x :: vs) (n + 1) = some (.ref x) :: entL vs n := by simp [entL, Value.category]
theorem entL_l {x : Int64} {vs : List Value} {n : Nat} : entL (.long x :: vs) (n + 2) = some (.long x) :: none :: entL vs n := by simp [entL, Value.category]
theorem entL_n {n : Nat} : entL [] n = List.replicate n none := rfl
theorem c_within {d N S : Nat} {h : aH} {v a b : Int} (h1 : -2147483648 ≤ v) (h2 : v ≤ 2147483647) (h3 : -2147483648 ≤ a) (h4 : a ≤ 2147483647) (h5 : -2147483648 ≤ b) (h6 : b ≤ 2147483647) : aAt (d + 1) N S 131 [.int (Int32.ofInt v), .int (Int32.ofInt a), .int (Int32.ofInt b)] h (fun r h' => r = some (.int (Int32.ofInt (if a ≤ v ∧ v ≤ b then 1 else 0))) ∧ h' = h) := by
  refine at_in (k := 131) rfl (by simp [lg_sl, Value.category]) fun P hP => ?_
  dsimp only at hP ⊢
  simp only [entL_i, entL_r, entL_l, entL_n, List.replicate]
  refine runT hP [] 80 ?_
  simp (implicitDefEqProofs := false) only [↓exT_s, ↓sel_nil, ↓sel_eq, ↓sel_ne, ↓opt_s, ↓tI_c, ↓tJ_c, ↓tR_c, ↓ldI_0, ↓ldI_s, ↓ldJ_0, ↓ldJ_s, ↓ldR_0, ↓ldR_f, ↓ldR_s, ↓lvS_0, ↓lvS_1n, ↓lvS_1i, ↓lvS_1r, ↓lvS_1f, ↓lvS_s, ↓lvS2_0, ↓lvS2_1n, ↓lvS2_1i, ↓lvS2_1r, ↓lvS2_s, ↓ald_r, ↓ald_f, ↓du1_i, ↓du1_r, ↓du2_ir, ↓pfd_c, pu, ↓e131_0, ↓e131_1, ↓e131_2, ↓e131_5, ↓e131_6, ↓e131_7, ↓e131_10, ↓e131_11, ↓e131_14, ↓e131_15, true_and, and_true, true_or, or_true, false_or, or_false, Option.some.injEq, reduceCtorEq, rtb0, rtb1]
  trace_state
  sorry

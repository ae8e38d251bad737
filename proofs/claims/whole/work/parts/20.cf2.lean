/-! the next ones: over the first table -/
theorem q79 {d N S : Nat} (hd : 2 ≤ d) {h : aH} {v : Int32} : aAt d N S 79 [.int v] h (fun r h' => r = some (.int (b01 (Int32.ofInt 0 ≤ v ∧ v ≤ Int32.ofInt 7))) ∧ h' = h) := by
  obtain ⟨d, rfl⟩ : ∃ e, d = e + 1 := ⟨d - 1, by omega⟩
  have hd : 1 ≤ d := by omega
  refine at_in (k := 79) rfl (by simp [lg_sl, Value.category]) fun P hP => ?_
  dsimp only at hP ⊢
  simp only [entL_i, entL_r, entL_l, entL_n, List.replicate]
  refine runF (cl1_ok (by omega)) hP [] 80 ?_
  simp (implicitDefEqProofs := false) (disch := omega) only [↓exT_s, ↓sel_nil, ↓sel_eq, ↓sel_no, ↓opt_s, ↓tI_c, ↓tJ_c, ↓tR_c, ↓ldI_0, ↓ldI_s, ↓ldJ_0, ↓ldJ_s, ↓ldR_0, ↓ldR_f, ↓ldR_s, ↓lvS_0, ↓lvS_1n, ↓lvS_1i, ↓lvS_1r, ↓lvS_1f, ↓lvS_s, ↓lvS2_0, ↓lvS2_1n, ↓lvS2_1i, ↓lvS2_1r, ↓lvS2_s, ↓ald_r, ↓ald_f, ↓du1_i, ↓du1_r, ↓du2_ir, ↓pfd_c, ↓opt_g, ↓opt_g0, ↓i_ixz, pu, ↓ivS0, ↓ivS1, ↓ivS2, ↓ivS3, ↓ivS4, ↓ivS5, ↓ivS6, ↓ivV0, ↓ivV1, ↓ivV2, ↓ivV3, ↓ivV4, ↓ivV5, ↓ivV6, ↓y1_131, ↓y1_132, ↓y1_135, ↓y1_136, ↓y1_165, ↓y1_89, ↓pO, ↓pA0, ↓pA1, ↓pA2, ↓pA3, ↓pA4, ↓pA5, ↓pA6, ↓pA7, ↓mO, ↓mA0, ↓mA1, ↓mA2, ↓mA3, ↓mA4, ↓mA5, ↓mA6, ↓mA7, ↓mA8, ↓mA9, ↓mA10, ↓mA11, ↓mA12, ↓mA13, ↓mA14, ↓mA15, ↓e79_0, ↓e79_1, ↓e79_2, ↓e79_4, ↓e79_7, true_and, and_true, true_or, or_true, false_or, or_false, Option.some.injEq, reduceCtorEq, rtb0, rtb1, ↓b01_ok, b01_0, br_not, Nat.reduceLeDiff, Nat.zero_le, List.length_cons, List.length_nil, List.set_cons_succ, List.set_cons_zero, pv_i, pv_r, tn_n, tn_a2, tn_m2, Int.reduceToNat, upd_s, br_T, br_F, reduceIte, Nat.reduceEqDiff, Nat.reduceAdd, Int.reduceNeg, eq_self, upS_1, upS_2, upA_1, upA_2, if_true, if_false, wA0, wA1, wA2, wA3, wA4, wA5, wA6, wA7, wS0, wS1, wS2, wS3, wS4, wS5, wS6, nA0, nA1, nA2, nA3, nA4, nA5, nA6, nA7, nA8, nA9, nA10, nA11, nA12, nA13, nA14, nA15, nS0, nS1, nS2, nS3, nS4, nS5, nS6, nS7, nS8, nS9, nS10, nS11, nS12]
theorem q141 {d N S : Nat} (hd : 2 ≤ d) {h : aH} {v : Int32} : aAt d N S 141 [.int v] h (fun r h' => r = some (.int (b01 (Int32.ofInt 0 ≤ v ∧ v ≤ Int32.ofInt 7))) ∧ h' = h) := by
  obtain ⟨d, rfl⟩ : ∃ e, d = e + 1 := ⟨d - 1, by omega⟩
  have hd : 1 ≤ d := by omega
  refine at_in (k := 141) rfl (by simp [lg_sl, Value.category]) fun P hP => ?_
  dsimp only at hP ⊢
  simp only [entL_i, entL_r, entL_l, entL_n, List.replicate]
  refine runF (cl1_ok (by omega)) hP [] 80 ?_
  simp (implicitDefEqProofs := false) (disch := omega) only [↓exT_s, ↓sel_nil, ↓sel_eq, ↓sel_no, ↓opt_s, ↓tI_c, ↓tJ_c, ↓tR_c, ↓ldI_0, ↓ldI_s, ↓ldJ_0, ↓ldJ_s, ↓ldR_0, ↓ldR_f, ↓ldR_s, ↓lvS_0, ↓lvS_1n, ↓lvS_1i, ↓lvS_1r, ↓lvS_1f, ↓lvS_s, ↓lvS2_0, ↓lvS2_1n, ↓lvS2_1i, ↓lvS2_1r, ↓lvS2_s, ↓ald_r, ↓ald_f, ↓du1_i, ↓du1_r, ↓du2_ir, ↓pfd_c, ↓opt_g, ↓opt_g0, ↓i_ixz, pu, ↓ivS0, ↓ivS1, ↓ivS2, ↓ivS3, ↓ivS4, ↓ivS5, ↓ivS6, ↓ivV0, ↓ivV1, ↓ivV2, ↓ivV3, ↓ivV4, ↓ivV5, ↓ivV6, ↓y1_131, ↓y1_132, ↓y1_135, ↓y1_136, ↓y1_165, ↓y1_89, ↓mO, ↓mA0, ↓mA1, ↓mA2, ↓mA3, ↓mA4, ↓mA5, ↓mA6, ↓mA7, ↓mA8, ↓mA9, ↓mA10, ↓mA11, ↓mA12, ↓mA13, ↓mA14, ↓mA15, ↓e141_0, ↓e141_1, ↓e141_2, ↓e141_4, ↓e141_7, true_and, and_true, true_or, or_true, false_or, or_false, Option.some.injEq, reduceCtorEq, rtb0, rtb1, ↓b01_ok, b01_0, br_not, Nat.reduceLeDiff, Nat.zero_le, List.length_cons, List.length_nil, List.set_cons_succ, List.set_cons_zero, pv_i, pv_r, tn_n, tn_a2, tn_m2, Int.reduceToNat, upd_s, br_T, br_F, reduceIte, Nat.reduceEqDiff, Nat.reduceAdd, Int.reduceNeg, eq_self, upS_1, upS_2, upA_1, upA_2, if_true, if_false, nA0, nA1, nA2, nA3, nA4, nA5, nA6, nA7, nA8, nA9, nA10, nA11, nA12, nA13, nA14, nA15, nS0, nS1, nS2, nS3, nS4, nS5, nS6, nS7, nS8, nS9, nS10, nS11, nS12]
theorem q76 {d N S : Nat} (hd : 2 ≤ d) {h : aH} {v : Int32} : aAt d N S 76 [.int v] h (fun r h' => r = some (.int (b01 (Int32.ofInt 48 ≤ v ∧ v ≤ Int32.ofInt 57))) ∧ h' = h) := by
  obtain ⟨d, rfl⟩ : ∃ e, d = e + 1 := ⟨d - 1, by omega⟩
  have hd : 1 ≤ d := by omega
  refine at_in (k := 76) rfl (by simp [lg_sl, Value.category]) fun P hP => ?_
  dsimp only at hP ⊢
  simp only [entL_i, entL_r, entL_l, entL_n, List.replicate]
  refine runF (cl1_ok (by omega)) hP [] 80 ?_
  simp (implicitDefEqProofs := false) (disch := omega) only [↓exT_s, ↓sel_nil, ↓sel_eq, ↓sel_no, ↓opt_s, ↓tI_c, ↓tJ_c, ↓tR_c, ↓ldI_0, ↓ldI_s, ↓ldJ_0, ↓ldJ_s, ↓ldR_0, ↓ldR_f, ↓ldR_s, ↓lvS_0, ↓lvS_1n, ↓lvS_1i, ↓lvS_1r, ↓lvS_1f, ↓lvS_s, ↓lvS2_0, ↓lvS2_1n, ↓lvS2_1i, ↓lvS2_1r, ↓lvS2_s, ↓ald_r, ↓ald_f, ↓du1_i, ↓du1_r, ↓du2_ir, ↓pfd_c, ↓opt_g, ↓opt_g0, ↓i_ixz, pu, ↓ivS0, ↓ivS1, ↓ivS2, ↓ivS3, ↓ivS4, ↓ivS5, ↓ivS6, ↓ivV0, ↓ivV1, ↓ivV2, ↓ivV3, ↓ivV4, ↓ivV5, ↓ivV6, ↓y1_131, ↓y1_132, ↓y1_135, ↓y1_136, ↓y1_165, ↓y1_89, ↓e76_0, ↓e76_1, ↓e76_3, ↓e76_5, ↓e76_8, true_and, and_true, true_or, or_true, false_or, or_false, Option.some.injEq, reduceCtorEq, rtb0, rtb1, ↓b01_ok, b01_0, br_not, Nat.reduceLeDiff, Nat.zero_le, List.length_cons, List.length_nil, List.set_cons_succ, List.set_cons_zero, pv_i, pv_r, tn_n, tn_a2, tn_m2, Int.reduceToNat, upd_s, br_T, br_F, reduceIte, Nat.reduceEqDiff, Nat.reduceAdd, Int.reduceNeg, eq_self, upS_1, upS_2, upA_1, upA_2, if_true, if_false]
theorem q150 {d N S : Nat} (hd : 2 ≤ d) {h : aH} {v : Int32} : aAt d N S 150 [.int v] h (fun r h' => r = some (.int (b01 (Int32.ofInt 48 ≤ v ∧ v ≤ Int32.ofInt 57))) ∧ h' = h) := by
  obtain ⟨d, rfl⟩ : ∃ e, d = e + 1 := ⟨d - 1, by omega⟩
  have hd : 1 ≤ d := by omega
  refine at_in (k := 150) rfl (by simp [lg_sl, Value.category]) fun P hP => ?_
  dsimp only at hP ⊢
  simp only [entL_i, entL_r, entL_l, entL_n, List.replicate]
  refine runF (cl1_ok (by omega)) hP [] 80 ?_
  simp (implicitDefEqProofs := false) (disch := omega) only [↓exT_s, ↓sel_nil, ↓sel_eq, ↓sel_no, ↓opt_s, ↓tI_c, ↓tJ_c, ↓tR_c, ↓ldI_0, ↓ldI_s, ↓ldJ_0, ↓ldJ_s, ↓ldR_0, ↓ldR_f, ↓ldR_s, ↓lvS_0, ↓lvS_1n, ↓lvS_1i, ↓lvS_1r, ↓lvS_1f, ↓lvS_s, ↓lvS2_0, ↓lvS2_1n, ↓lvS2_1i, ↓lvS2_1r, ↓lvS2_s, ↓ald_r, ↓ald_f, ↓du1_i, ↓du1_r, ↓du2_ir, ↓pfd_c, ↓opt_g, ↓opt_g0, ↓i_ixz, pu, ↓ivS0, ↓ivS1, ↓ivS2, ↓ivS3, ↓ivS4, ↓ivS5, ↓ivS6, ↓ivV0, ↓ivV1, ↓ivV2, ↓ivV3, ↓ivV4, ↓ivV5, ↓ivV6, ↓y1_131, ↓y1_132, ↓y1_135, ↓y1_136, ↓y1_165, ↓y1_89, ↓e150_0, ↓e150_1, ↓e150_3, ↓e150_5, ↓e150_8, true_and, and_true, true_or, or_true, false_or, or_false, Option.some.injEq, reduceCtorEq, rtb0, rtb1, ↓b01_ok, b01_0, br_not, Nat.reduceLeDiff, Nat.zero_le, List.length_cons, List.length_nil, List.set_cons_succ, List.set_cons_zero, pv_i, pv_r, tn_n, tn_a2, tn_m2, Int.reduceToNat, upd_s, br_T, br_F, reduceIte, Nat.reduceEqDiff, Nat.reduceAdd, Int.reduceNeg, eq_self, upS_1, upS_2, upA_1, upA_2, if_true, if_false]
theorem q191 {d N S : Nat} (hd : 2 ≤ d) {h : aH} {v : Int32} : aAt d N S 191 [.int v] h (fun r h' => r = some (.int (b01 (Int32.ofInt 0 ≤ v ∧ v ≤ Int32.ofInt 60))) ∧ h' = h) := by
  obtain ⟨d, rfl⟩ : ∃ e, d = e + 1 := ⟨d - 1, by omega⟩
  have hd : 1 ≤ d := by omega
  refine at_in (k := 191) rfl (by simp [lg_sl, Value.category]) fun P hP => ?_
  dsimp only at hP ⊢
  simp only [entL_i, entL_r, entL_l, entL_n, List.replicate]
  refine runF (cl1_ok (by omega)) hP [] 80 ?_
  simp (implicitDefEqProofs := false) (disch := omega) only [↓exT_s, ↓sel_nil, ↓sel_eq, ↓sel_no, ↓opt_s, ↓tI_c, ↓tJ_c, ↓tR_c, ↓ldI_0, ↓ldI_s, ↓ldJ_0, ↓ldJ_s, ↓ldR_0, ↓ldR_f, ↓ldR_s, ↓lvS_0, ↓lvS_1n, ↓lvS_1i, ↓lvS_1r, ↓lvS_1f, ↓lvS_s, ↓lvS2_0, ↓lvS2_1n, ↓lvS2_1i, ↓lvS2_1r, ↓lvS2_s, ↓ald_r, ↓ald_f, ↓du1_i, ↓du1_r, ↓du2_ir, ↓pfd_c, ↓opt_g, ↓opt_g0, ↓i_ixz, pu, ↓ivS0, ↓ivS1, ↓ivS2, ↓ivS3, ↓ivS4, ↓ivS5, ↓ivS6, ↓ivV0, ↓ivV1, ↓ivV2, ↓ivV3, ↓ivV4, ↓ivV5, ↓ivV6, ↓y1_131, ↓y1_132, ↓y1_135, ↓y1_136, ↓y1_165, ↓y1_89, ↓mO, ↓mA0, ↓mA1, ↓mA2, ↓mA3, ↓mA4, ↓mA5, ↓mA6, ↓mA7, ↓mA8, ↓mA9, ↓mA10, ↓mA11, ↓mA12, ↓mA13, ↓mA14, ↓mA15, ↓e191_0, ↓e191_1, ↓e191_2, ↓e191_4, ↓e191_7, true_and, and_true, true_or, or_true, false_or, or_false, Option.some.injEq, reduceCtorEq, rtb0, rtb1, ↓b01_ok, b01_0, br_not, Nat.reduceLeDiff, Nat.zero_le, List.length_cons, List.length_nil, List.set_cons_succ, List.set_cons_zero, pv_i, pv_r, tn_n, tn_a2, tn_m2, Int.reduceToNat, upd_s, br_T, br_F, reduceIte, Nat.reduceEqDiff, Nat.reduceAdd, Int.reduceNeg, eq_self, upS_1, upS_2, upA_1, upA_2, if_true, if_false, nA0, nA1, nA2, nA3, nA4, nA5, nA6, nA7, nA8, nA9, nA10, nA11, nA12, nA13, nA14, nA15, nS0, nS1, nS2, nS3, nS4, nS5, nS6, nS7, nS8, nS9, nS10, nS11, nS12]
theorem q168 {d N S : Nat} (hd : 2 ≤ d) {h : aH} {a b k : Int32} : aAt d N S 168 [.int a, .int b, .int k] h (fun r h' => r = some (.int (if (if a < b then b - a else a - b) ≤ k then b else if a < b then a + k else a - k)) ∧ h' = h) := by
  obtain ⟨d, rfl⟩ : ∃ e, d = e + 1 := ⟨d - 1, by omega⟩
  have hd : 1 ≤ d := by omega
  refine at_in (k := 168) rfl (by simp [lg_sl, Value.category]) fun P hP => ?_
  dsimp only at hP ⊢
  simp only [entL_i, entL_r, entL_l, entL_n, List.replicate]
  refine runF (cl1_ok (by omega)) hP [] 80 ?_
  simp (implicitDefEqProofs := false) (disch := omega) only [↓exT_s, ↓sel_nil, ↓sel_eq, ↓sel_no, ↓opt_s, ↓tI_c, ↓tJ_c, ↓tR_c, ↓ldI_0, ↓ldI_s, ↓ldJ_0, ↓ldJ_s, ↓ldR_0, ↓ldR_f, ↓ldR_s, ↓lvS_0, ↓lvS_1n, ↓lvS_1i, ↓lvS_1r, ↓lvS_1f, ↓lvS_s, ↓lvS2_0, ↓lvS2_1n, ↓lvS2_1i, ↓lvS2_1r, ↓lvS2_s, ↓ald_r, ↓ald_f, ↓du1_i, ↓du1_r, ↓du2_ir, ↓pfd_c, ↓opt_g, ↓opt_g0, ↓i_ixz, pu, ↓ivS0, ↓ivS1, ↓ivS2, ↓ivS3, ↓ivS4, ↓ivS5, ↓ivS6, ↓ivV0, ↓ivV1, ↓ivV2, ↓ivV3, ↓ivV4, ↓ivV5, ↓ivV6, ↓y1_131, ↓y1_132, ↓y1_135, ↓y1_136, ↓y1_165, ↓y1_89, ↓e168_0, ↓e168_1, ↓e168_2, ↓e168_5, ↓e168_6, ↓e168_9, ↓e168_10, ↓e168_13, ↓e168_14, ↓e168_15, ↓e168_18, ↓e168_19, ↓e168_20, ↓e168_21, ↓e168_24, ↓e168_25, ↓e168_26, ↓e168_27, true_and, and_true, true_or, or_true, false_or, or_false, Option.some.injEq, reduceCtorEq, rtb0, rtb1, ↓b01_ok, b01_0, br_not, Nat.reduceLeDiff, Nat.zero_le, List.length_cons, List.length_nil, List.set_cons_succ, List.set_cons_zero, pv_i, pv_r, tn_n, tn_a2, tn_m2, Int.reduceToNat, upd_s, br_T, br_F, reduceIte, Nat.reduceEqDiff, Nat.reduceAdd, Int.reduceNeg, eq_self, upS_1, upS_2, upA_1, upA_2, if_true, if_false]
  refine ⟨fun c => ⟨fun c2 => ?_, fun c2 => ?_⟩, fun c => ?_⟩
  · rw [if_neg (Int32.not_le.mpr c), if_neg (Int32.not_lt.mpr c2)]
  · rw [if_neg (Int32.not_le.mpr c), if_pos (Int32.not_le.mp c2)]
  · rw [if_pos (Int32.not_lt.mp c)]
def fdI (h : aH) (a ci k : Nat) : Option Int32 := match hO h a ci with
  | some fs => (match fs[k]? with
    | some (.int v) => some v
    | _ => none)
  | none => none
theorem fdI_e {h : aH} {a ci k : Nat} {v : Int32} (q : fdI h a ci k = some v) : ∃ fs, hO h a ci = some fs ∧ fs[k]? = some (.int v) := by
  unfold fdI at q
  split at q
  · rename_i fs hfs
    split at q
    · rename_i w hw
      cases q
      exact ⟨fs, hfs, hw⟩
    · cases q
  · cases q
def arI (h : aH) (a ci k i : Nat) : Option Int32 := match hO h a ci with
  | some fs => (match fs[k]? with
    | some (.ref r) => (match hI h r with
      | some (n, g) => if i < n ∧ n ≤ 1000000 then some (g i) else none
      | none => none)
    | _ => none)
  | none => none
theorem arI_e {h : aH} {a ci k i : Nat} {v : Int32} (q : arI h a ci k i = some v) : ∃ fs r n g, hO h a ci = some fs ∧ fs[k]? = some (.ref r) ∧ hI h r = some (n, g) ∧ i < n ∧ n ≤ 1000000 ∧ g i = v := by
  unfold arI at q
  split at q
  · rename_i fs hfs
    split at q
    · rename_i r hr
      split at q
      · rename_i n g hg
        split at q
        · rename_i hi
          cases q
          exact ⟨fs, r, n, g, hfs, hr, hg, hi.1, hi.2, rfl⟩
        · cases q
      · cases q
    · cases q
  · cases q
theorem q17 {d N S : Nat} (hd : 2 ≤ d) {h : aH} {a : Nat} {v n : Int32} (hn : fdI h a 2 3 = some n) : aAt d N S 17 [.ref a, .int v] h (fun r h' => r = some (.int (b01 (Int32.ofInt 0 ≤ v ∧ v ≤ n - Int32.ofInt 1))) ∧ h' = h) := by
  obtain ⟨fs, h1, h2⟩ := fdI_e hn
  obtain ⟨d, rfl⟩ : ∃ e, d = e + 1 := ⟨d - 1, by omega⟩
  have hd : 1 ≤ d := by omega
  refine at_in (k := 17) rfl (by simp [lg_sl, Value.category]) fun P hP => ?_
  dsimp only at hP ⊢
  simp only [entL_i, entL_r, entL_l, entL_n, List.replicate]
  refine runF (cl1_ok (by omega)) hP [] 80 ?_
  simp (implicitDefEqProofs := false) (disch := omega) only [↓exT_s, ↓sel_nil, ↓sel_eq, ↓sel_no, ↓opt_s, ↓tI_c, ↓tJ_c, ↓tR_c, ↓ldI_0, ↓ldI_s, ↓ldJ_0, ↓ldJ_s, ↓ldR_0, ↓ldR_f, ↓ldR_s, ↓lvS_0, ↓lvS_1n, ↓lvS_1i, ↓lvS_1r, ↓lvS_1f, ↓lvS_s, ↓lvS2_0, ↓lvS2_1n, ↓lvS2_1i, ↓lvS2_1r, ↓lvS2_s, ↓ald_r, ↓ald_f, ↓du1_i, ↓du1_r, ↓du2_ir, ↓pfd_c, ↓opt_g, ↓opt_g0, ↓i_ixz, pu, ↓ivS0, ↓ivS1, ↓ivS2, ↓ivS3, ↓ivS4, ↓ivS5, ↓ivS6, ↓ivV0, ↓ivV1, ↓ivV2, ↓ivV3, ↓ivV4, ↓ivV5, ↓ivV6, ↓y1_131, ↓y1_132, ↓y1_135, ↓y1_136, ↓y1_165, ↓y1_89, ↓pO, ↓pA0, ↓pA1, ↓pA2, ↓pA3, ↓pA4, ↓pA5, ↓pA6, ↓pA7, ↓e17_0, ↓e17_1, ↓e17_2, ↓e17_3, ↓e17_6, ↓e17_7, ↓e17_8, ↓e17_11, true_and, and_true, true_or, or_true, false_or, or_false, Option.some.injEq, reduceCtorEq, rtb0, rtb1, ↓b01_ok, b01_0, br_not, Nat.reduceLeDiff, Nat.zero_le, List.length_cons, List.length_nil, List.set_cons_succ, List.set_cons_zero, pv_i, pv_r, tn_n, tn_a2, tn_m2, Int.reduceToNat, upd_s, br_T, br_F, reduceIte, Nat.reduceEqDiff, Nat.reduceAdd, Int.reduceNeg, eq_self, upS_1, upS_2, upA_1, upA_2, if_true, if_false, wA0, wA1, wA2, wA3, wA4, wA5, wA6, wA7, wS0, wS1, wS2, wS3, wS4, wS5, wS6, ↓opt_of h1, ↓opt_of h2]
theorem q18 {d N S : Nat} (hd : 2 ≤ d) {h : aH} {a : Nat} {v n : Int32} (hn : fdI h a 2 9 = some n) : aAt d N S 18 [.ref a, .int v] h (fun r h' => r = some (.int (b01 (Int32.ofInt 0 ≤ v ∧ v ≤ n - Int32.ofInt 1))) ∧ h' = h) := by
  obtain ⟨fs, h1, h2⟩ := fdI_e hn
  obtain ⟨d, rfl⟩ : ∃ e, d = e + 1 := ⟨d - 1, by omega⟩
  have hd : 1 ≤ d := by omega
  refine at_in (k := 18) rfl (by simp [lg_sl, Value.category]) fun P hP => ?_
  dsimp only at hP ⊢
  simp only [entL_i, entL_r, entL_l, entL_n, List.replicate]
  refine runF (cl1_ok (by omega)) hP [] 80 ?_
  simp (implicitDefEqProofs := false) (disch := omega) only [↓exT_s, ↓sel_nil, ↓sel_eq, ↓sel_no, ↓opt_s, ↓tI_c, ↓tJ_c, ↓tR_c, ↓ldI_0, ↓ldI_s, ↓ldJ_0, ↓ldJ_s, ↓ldR_0, ↓ldR_f, ↓ldR_s, ↓lvS_0, ↓lvS_1n, ↓lvS_1i, ↓lvS_1r, ↓lvS_1f, ↓lvS_s, ↓lvS2_0, ↓lvS2_1n, ↓lvS2_1i, ↓lvS2_1r, ↓lvS2_s, ↓ald_r, ↓ald_f, ↓du1_i, ↓du1_r, ↓du2_ir, ↓pfd_c, ↓opt_g, ↓opt_g0, ↓i_ixz, pu, ↓ivS0, ↓ivS1, ↓ivS2, ↓ivS3, ↓ivS4, ↓ivS5, ↓ivS6, ↓ivV0, ↓ivV1, ↓ivV2, ↓ivV3, ↓ivV4, ↓ivV5, ↓ivV6, ↓y1_131, ↓y1_132, ↓y1_135, ↓y1_136, ↓y1_165, ↓y1_89, ↓pO, ↓pA0, ↓pA1, ↓pA2, ↓pA3, ↓pA4, ↓pA5, ↓pA6, ↓pA7, ↓e18_0, ↓e18_1, ↓e18_2, ↓e18_3, ↓e18_6, ↓e18_7, ↓e18_8, ↓e18_11, true_and, and_true, true_or, or_true, false_or, or_false, Option.some.injEq, reduceCtorEq, rtb0, rtb1, ↓b01_ok, b01_0, br_not, Nat.reduceLeDiff, Nat.zero_le, List.length_cons, List.length_nil, List.set_cons_succ, List.set_cons_zero, pv_i, pv_r, tn_n, tn_a2, tn_m2, Int.reduceToNat, upd_s, br_T, br_F, reduceIte, Nat.reduceEqDiff, Nat.reduceAdd, Int.reduceNeg, eq_self, upS_1, upS_2, upA_1, upA_2, if_true, if_false, wA0, wA1, wA2, wA3, wA4, wA5, wA6, wA7, wS0, wS1, wS2, wS3, wS4, wS5, wS6, ↓opt_of h1, ↓opt_of h2]
theorem q19 {d N S : Nat} (hd : 2 ≤ d) {h : aH} {a : Nat} {v n : Int32} (hn : fdI h a 2 0 = some n) : aAt d N S 19 [.ref a, .int v] h (fun r h' => r = some (.int (b01 (Int32.ofInt 0 ≤ v ∧ v ≤ n - Int32.ofInt 1))) ∧ h' = h) := by
  obtain ⟨fs, h1, h2⟩ := fdI_e hn
  obtain ⟨d, rfl⟩ : ∃ e, d = e + 1 := ⟨d - 1, by omega⟩
  have hd : 1 ≤ d := by omega
  refine at_in (k := 19) rfl (by simp [lg_sl, Value.category]) fun P hP => ?_
  dsimp only at hP ⊢
  simp only [entL_i, entL_r, entL_l, entL_n, List.replicate]
  refine runF (cl1_ok (by omega)) hP [] 80 ?_
  simp (implicitDefEqProofs := false) (disch := omega) only [↓exT_s, ↓sel_nil, ↓sel_eq, ↓sel_no, ↓opt_s, ↓tI_c, ↓tJ_c, ↓tR_c, ↓ldI_0, ↓ldI_s, ↓ldJ_0, ↓ldJ_s, ↓ldR_0, ↓ldR_f, ↓ldR_s, ↓lvS_0, ↓lvS_1n, ↓lvS_1i, ↓lvS_1r, ↓lvS_1f, ↓lvS_s, ↓lvS2_0, ↓lvS2_1n, ↓lvS2_1i, ↓lvS2_1r, ↓lvS2_s, ↓ald_r, ↓ald_f, ↓du1_i, ↓du1_r, ↓du2_ir, ↓pfd_c, ↓opt_g, ↓opt_g0, ↓i_ixz, pu, ↓ivS0, ↓ivS1, ↓ivS2, ↓ivS3, ↓ivS4, ↓ivS5, ↓ivS6, ↓ivV0, ↓ivV1, ↓ivV2, ↓ivV3, ↓ivV4, ↓ivV5, ↓ivV6, ↓y1_131, ↓y1_132, ↓y1_135, ↓y1_136, ↓y1_165, ↓y1_89, ↓pO, ↓pA0, ↓pA1, ↓pA2, ↓pA3, ↓pA4, ↓pA5, ↓pA6, ↓pA7, ↓e19_0, ↓e19_1, ↓e19_2, ↓e19_3, ↓e19_6, ↓e19_7, ↓e19_8, ↓e19_11, true_and, and_true, true_or, or_true, false_or, or_false, Option.some.injEq, reduceCtorEq, rtb0, rtb1, ↓b01_ok, b01_0, br_not, Nat.reduceLeDiff, Nat.zero_le, List.length_cons, List.length_nil, List.set_cons_succ, List.set_cons_zero, pv_i, pv_r, tn_n, tn_a2, tn_m2, Int.reduceToNat, upd_s, br_T, br_F, reduceIte, Nat.reduceEqDiff, Nat.reduceAdd, Int.reduceNeg, eq_self, upS_1, upS_2, upA_1, upA_2, if_true, if_false, wA0, wA1, wA2, wA3, wA4, wA5, wA6, wA7, wS0, wS1, wS2, wS3, wS4, wS5, wS6, ↓opt_of h1, ↓opt_of h2]
theorem q16 {d N S : Nat} (hd : 2 ≤ d) {h : aH} {a : Nat} {n : Int32} (hn : fdI h a 2 3 = some n) : aAt d N S 16 [.ref a] h (fun r h' => r = some (.int (b01 (0 < n))) ∧ h' = h) := by
  obtain ⟨fs, h1, h2⟩ := fdI_e hn
  obtain ⟨d, rfl⟩ : ∃ e, d = e + 1 := ⟨d - 1, by omega⟩
  have hd : 1 ≤ d := by omega
  refine at_in (k := 16) rfl (by simp [lg_sl, Value.category]) fun P hP => ?_
  dsimp only at hP ⊢
  simp only [entL_i, entL_r, entL_l, entL_n, List.replicate]
  refine runF (cl1_ok (by omega)) hP [] 80 ?_
  simp (implicitDefEqProofs := false) (disch := omega) only [↓exT_s, ↓sel_nil, ↓sel_eq, ↓sel_no, ↓opt_s, ↓tI_c, ↓tJ_c, ↓tR_c, ↓ldI_0, ↓ldI_s, ↓ldJ_0, ↓ldJ_s, ↓ldR_0, ↓ldR_f, ↓ldR_s, ↓lvS_0, ↓lvS_1n, ↓lvS_1i, ↓lvS_1r, ↓lvS_1f, ↓lvS_s, ↓lvS2_0, ↓lvS2_1n, ↓lvS2_1i, ↓lvS2_1r, ↓lvS2_s, ↓ald_r, ↓ald_f, ↓du1_i, ↓du1_r, ↓du2_ir, ↓pfd_c, ↓opt_g, ↓opt_g0, ↓i_ixz, pu, ↓ivS0, ↓ivS1, ↓ivS2, ↓ivS3, ↓ivS4, ↓ivS5, ↓ivS6, ↓ivV0, ↓ivV1, ↓ivV2, ↓ivV3, ↓ivV4, ↓ivV5, ↓ivV6, ↓y1_131, ↓y1_132, ↓y1_135, ↓y1_136, ↓y1_165, ↓y1_89, ↓pO, ↓pA0, ↓pA1, ↓pA2, ↓pA3, ↓pA4, ↓pA5, ↓pA6, ↓pA7, ↓e16_0, ↓e16_1, ↓e16_4, ↓e16_7, ↓e16_8, ↓e16_11, ↓e16_12, true_and, and_true, true_or, or_true, false_or, or_false, Option.some.injEq, reduceCtorEq, rtb0, rtb1, ↓b01_ok, b01_0, br_not, Nat.reduceLeDiff, Nat.zero_le, List.length_cons, List.length_nil, List.set_cons_succ, List.set_cons_zero, pv_i, pv_r, tn_n, tn_a2, tn_m2, Int.reduceToNat, upd_s, br_T, br_F, reduceIte, Nat.reduceEqDiff, Nat.reduceAdd, Int.reduceNeg, eq_self, upS_1, upS_2, upA_1, upA_2, if_true, if_false, wA0, wA1, wA2, wA3, wA4, wA5, wA6, wA7, wS0, wS1, wS2, wS3, wS4, wS5, wS6, ↓opt_of h1, ↓opt_of h2]
  refine ⟨fun c => ?_, fun c => ?_⟩
  · rw [b01_f (Int32.not_lt.mpr c)]
  · rw [b01_t (Int32.not_le.mp c)]
theorem q20 {d N S : Nat} (hd : 2 ≤ d) {h : aH} {a : Nat} {v n : Int32} (hn : fdI h a 2 13 = some n) : aAt d N S 20 [.ref a, .int v] h (fun r h' => r = some (.int (b01 (((n >>> (v &&& 31)) &&& Int32.ofInt 1) = Int32.ofInt 1))) ∧ h' = h) := by
  obtain ⟨fs, h1, h2⟩ := fdI_e hn
  obtain ⟨d, rfl⟩ : ∃ e, d = e + 1 := ⟨d - 1, by omega⟩
  have hd : 1 ≤ d := by omega
  refine at_in (k := 20) rfl (by simp [lg_sl, Value.category]) fun P hP => ?_
  dsimp only at hP ⊢
  simp only [entL_i, entL_r, entL_l, entL_n, List.replicate]
  refine runF (cl1_ok (by omega)) hP [] 80 ?_
  simp (implicitDefEqProofs := false) (disch := omega) only [↓exT_s, ↓sel_nil, ↓sel_eq, ↓sel_no, ↓opt_s, ↓tI_c, ↓tJ_c, ↓tR_c, ↓ldI_0, ↓ldI_s, ↓ldJ_0, ↓ldJ_s, ↓ldR_0, ↓ldR_f, ↓ldR_s, ↓lvS_0, ↓lvS_1n, ↓lvS_1i, ↓lvS_1r, ↓lvS_1f, ↓lvS_s, ↓lvS2_0, ↓lvS2_1n, ↓lvS2_1i, ↓lvS2_1r, ↓lvS2_s, ↓ald_r, ↓ald_f, ↓du1_i, ↓du1_r, ↓du2_ir, ↓pfd_c, ↓opt_g, ↓opt_g0, ↓i_ixz, pu, ↓ivS0, ↓ivS1, ↓ivS2, ↓ivS3, ↓ivS4, ↓ivS5, ↓ivS6, ↓ivV0, ↓ivV1, ↓ivV2, ↓ivV3, ↓ivV4, ↓ivV5, ↓ivV6, ↓y1_131, ↓y1_132, ↓y1_135, ↓y1_136, ↓y1_165, ↓y1_89, ↓pO, ↓pA0, ↓pA1, ↓pA2, ↓pA3, ↓pA4, ↓pA5, ↓pA6, ↓pA7, ↓e20_0, ↓e20_1, ↓e20_4, ↓e20_5, ↓e20_6, ↓e20_7, ↓e20_8, ↓e20_9, ↓e20_12, ↓e20_13, ↓e20_16, ↓e20_17, true_and, and_true, true_or, or_true, false_or, or_false, Option.some.injEq, reduceCtorEq, rtb0, rtb1, ↓b01_ok, b01_0, br_not, Nat.reduceLeDiff, Nat.zero_le, List.length_cons, List.length_nil, List.set_cons_succ, List.set_cons_zero, pv_i, pv_r, tn_n, tn_a2, tn_m2, Int.reduceToNat, upd_s, br_T, br_F, reduceIte, Nat.reduceEqDiff, Nat.reduceAdd, Int.reduceNeg, eq_self, upS_1, upS_2, upA_1, upA_2, if_true, if_false, wA0, wA1, wA2, wA3, wA4, wA5, wA6, wA7, wS0, wS1, wS2, wS3, wS4, wS5, wS6, ↓opt_of h1, ↓opt_of h2]
  refine ⟨fun c => ?_, fun c => ?_⟩
  · rw [b01_t c]
  · rw [b01_f c]
theorem q162 {d N S : Nat} (hd : 2 ≤ d) {h : aH} {a : Nat} {v n : Int32} (hn : arI h a 7 16 0 = some n) : aAt d N S 162 [.ref a, .int v] h (fun r h' => r = some (.int (b01 (Int32.ofInt 0 ≤ v ∧ v ≤ n - Int32.ofInt 1))) ∧ h' = h) := by
  obtain ⟨fs, r, m, g, h1, h2, h3, h4, h5, h6⟩ := arI_e hn
  obtain ⟨d, rfl⟩ : ∃ e, d = e + 1 := ⟨d - 1, by omega⟩
  have hd : 1 ≤ d := by omega
  refine at_in (k := 162) rfl (by simp [lg_sl, Value.category]) fun P hP => ?_
  dsimp only at hP ⊢
  simp only [entL_i, entL_r, entL_l, entL_n, List.replicate]
  refine runF (cl1_ok (by omega)) hP [] 80 ?_
  simp (implicitDefEqProofs := false) (disch := omega) only [↓exT_s, ↓sel_nil, ↓sel_eq, ↓sel_no, ↓opt_s, ↓tI_c, ↓tJ_c, ↓tR_c, ↓ldI_0, ↓ldI_s, ↓ldJ_0, ↓ldJ_s, ↓ldR_0, ↓ldR_f, ↓ldR_s, ↓lvS_0, ↓lvS_1n, ↓lvS_1i, ↓lvS_1r, ↓lvS_1f, ↓lvS_s, ↓lvS2_0, ↓lvS2_1n, ↓lvS2_1i, ↓lvS2_1r, ↓lvS2_s, ↓ald_r, ↓ald_f, ↓du1_i, ↓du1_r, ↓du2_ir, ↓pfd_c, ↓opt_g, ↓opt_g0, ↓i_ixz, pu, ↓ivS0, ↓ivS1, ↓ivS2, ↓ivS3, ↓ivS4, ↓ivS5, ↓ivS6, ↓ivV0, ↓ivV1, ↓ivV2, ↓ivV3, ↓ivV4, ↓ivV5, ↓ivV6, ↓y1_131, ↓y1_132, ↓y1_135, ↓y1_136, ↓y1_165, ↓y1_89, ↓mO, ↓mA0, ↓mA1, ↓mA2, ↓mA3, ↓mA4, ↓mA5, ↓mA6, ↓mA7, ↓mA8, ↓mA9, ↓mA10, ↓mA11, ↓mA12, ↓mA13, ↓mA14, ↓mA15, ↓e162_0, ↓e162_1, ↓e162_2, ↓e162_3, ↓e162_6, ↓e162_7, ↓e162_8, ↓e162_9, ↓e162_10, ↓e162_13, true_and, and_true, true_or, or_true, false_or, or_false, Option.some.injEq, reduceCtorEq, rtb0, rtb1, ↓b01_ok, b01_0, br_not, Nat.reduceLeDiff, Nat.zero_le, List.length_cons, List.length_nil, List.set_cons_succ, List.set_cons_zero, pv_i, pv_r, tn_n, tn_a2, tn_m2, Int.reduceToNat, upd_s, br_T, br_F, reduceIte, Nat.reduceEqDiff, Nat.reduceAdd, Int.reduceNeg, eq_self, upS_1, upS_2, upA_1, upA_2, if_true, if_false, nA0, nA1, nA2, nA3, nA4, nA5, nA6, nA7, nA8, nA9, nA10, nA11, nA12, nA13, nA14, nA15, nS0, nS1, nS2, nS3, nS4, nS5, nS6, nS7, nS8, nS9, nS10, nS11, nS12, ↓opt_of h1, ↓opt_of h2, ↓opt_of h3, h6]
theorem q163 {d N S : Nat} (hd : 2 ≤ d) {h : aH} {a : Nat} {v n : Int32} (hn : arI h a 7 16 1 = some n) : aAt d N S 163 [.ref a, .int v] h (fun r h' => r = some (.int (b01 (Int32.ofInt 0 ≤ v ∧ v ≤ n - Int32.ofInt 1))) ∧ h' = h) := by
  obtain ⟨fs, r, m, g, h1, h2, h3, h4, h5, h6⟩ := arI_e hn
  obtain ⟨d, rfl⟩ : ∃ e, d = e + 1 := ⟨d - 1, by omega⟩
  have hd : 1 ≤ d := by omega
  refine at_in (k := 163) rfl (by simp [lg_sl, Value.category]) fun P hP => ?_
  dsimp only at hP ⊢
  simp only [entL_i, entL_r, entL_l, entL_n, List.replicate]
  refine runF (cl1_ok (by omega)) hP [] 80 ?_
  simp (implicitDefEqProofs := false) (disch := omega) only [↓exT_s, ↓sel_nil, ↓sel_eq, ↓sel_no, ↓opt_s, ↓tI_c, ↓tJ_c, ↓tR_c, ↓ldI_0, ↓ldI_s, ↓ldJ_0, ↓ldJ_s, ↓ldR_0, ↓ldR_f, ↓ldR_s, ↓lvS_0, ↓lvS_1n, ↓lvS_1i, ↓lvS_1r, ↓lvS_1f, ↓lvS_s, ↓lvS2_0, ↓lvS2_1n, ↓lvS2_1i, ↓lvS2_1r, ↓lvS2_s, ↓ald_r, ↓ald_f, ↓du1_i, ↓du1_r, ↓du2_ir, ↓pfd_c, ↓opt_g, ↓opt_g0, ↓i_ixz, pu, ↓ivS0, ↓ivS1, ↓ivS2, ↓ivS3, ↓ivS4, ↓ivS5, ↓ivS6, ↓ivV0, ↓ivV1, ↓ivV2, ↓ivV3, ↓ivV4, ↓ivV5, ↓ivV6, ↓y1_131, ↓y1_132, ↓y1_135, ↓y1_136, ↓y1_165, ↓y1_89, ↓mO, ↓mA0, ↓mA1, ↓mA2, ↓mA3, ↓mA4, ↓mA5, ↓mA6, ↓mA7, ↓mA8, ↓mA9, ↓mA10, ↓mA11, ↓mA12, ↓mA13, ↓mA14, ↓mA15, ↓e163_0, ↓e163_1, ↓e163_2, ↓e163_3, ↓e163_6, ↓e163_7, ↓e163_8, ↓e163_9, ↓e163_10, ↓e163_13, true_and, and_true, true_or, or_true, false_or, or_false, Option.some.injEq, reduceCtorEq, rtb0, rtb1, ↓b01_ok, b01_0, br_not, Nat.reduceLeDiff, Nat.zero_le, List.length_cons, List.length_nil, List.set_cons_succ, List.set_cons_zero, pv_i, pv_r, tn_n, tn_a2, tn_m2, Int.reduceToNat, upd_s, br_T, br_F, reduceIte, Nat.reduceEqDiff, Nat.reduceAdd, Int.reduceNeg, eq_self, upS_1, upS_2, upA_1, upA_2, if_true, if_false, nA0, nA1, nA2, nA3, nA4, nA5, nA6, nA7, nA8, nA9, nA10, nA11, nA12, nA13, nA14, nA15, nS0, nS1, nS2, nS3, nS4, nS5, nS6, nS7, nS8, nS9, nS10, nS11, nS12, ↓opt_of h1, ↓opt_of h2, ↓opt_of h3, h6]
theorem q164 {d N S : Nat} (hd : 2 ≤ d) {h : aH} {a : Nat} {v n : Int32} (hn : arI h a 7 16 2 = some n) : aAt d N S 164 [.ref a, .int v] h (fun r h' => r = some (.int (b01 (Int32.ofInt 0 ≤ v ∧ v ≤ n - Int32.ofInt 1))) ∧ h' = h) := by
  obtain ⟨fs, r, m, g, h1, h2, h3, h4, h5, h6⟩ := arI_e hn
  obtain ⟨d, rfl⟩ : ∃ e, d = e + 1 := ⟨d - 1, by omega⟩
  have hd : 1 ≤ d := by omega
  refine at_in (k := 164) rfl (by simp [lg_sl, Value.category]) fun P hP => ?_
  dsimp only at hP ⊢
  simp only [entL_i, entL_r, entL_l, entL_n, List.replicate]
  refine runF (cl1_ok (by omega)) hP [] 80 ?_
  simp (implicitDefEqProofs := false) (disch := omega) only [↓exT_s, ↓sel_nil, ↓sel_eq, ↓sel_no, ↓opt_s, ↓tI_c, ↓tJ_c, ↓tR_c, ↓ldI_0, ↓ldI_s, ↓ldJ_0, ↓ldJ_s, ↓ldR_0, ↓ldR_f, ↓ldR_s, ↓lvS_0, ↓lvS_1n, ↓lvS_1i, ↓lvS_1r, ↓lvS_1f, ↓lvS_s, ↓lvS2_0, ↓lvS2_1n, ↓lvS2_1i, ↓lvS2_1r, ↓lvS2_s, ↓ald_r, ↓ald_f, ↓du1_i, ↓du1_r, ↓du2_ir, ↓pfd_c, ↓opt_g, ↓opt_g0, ↓i_ixz, pu, ↓ivS0, ↓ivS1, ↓ivS2, ↓ivS3, ↓ivS4, ↓ivS5, ↓ivS6, ↓ivV0, ↓ivV1, ↓ivV2, ↓ivV3, ↓ivV4, ↓ivV5, ↓ivV6, ↓y1_131, ↓y1_132, ↓y1_135, ↓y1_136, ↓y1_165, ↓y1_89, ↓mO, ↓mA0, ↓mA1, ↓mA2, ↓mA3, ↓mA4, ↓mA5, ↓mA6, ↓mA7, ↓mA8, ↓mA9, ↓mA10, ↓mA11, ↓mA12, ↓mA13, ↓mA14, ↓mA15, ↓e164_0, ↓e164_1, ↓e164_2, ↓e164_3, ↓e164_6, ↓e164_7, ↓e164_8, ↓e164_9, ↓e164_10, ↓e164_13, true_and, and_true, true_or, or_true, false_or, or_false, Option.some.injEq, reduceCtorEq, rtb0, rtb1, ↓b01_ok, b01_0, br_not, Nat.reduceLeDiff, Nat.zero_le, List.length_cons, List.length_nil, List.set_cons_succ, List.set_cons_zero, pv_i, pv_r, tn_n, tn_a2, tn_m2, Int.reduceToNat, upd_s, br_T, br_F, reduceIte, Nat.reduceEqDiff, Nat.reduceAdd, Int.reduceNeg, eq_self, upS_1, upS_2, upA_1, upA_2, if_true, if_false, nA0, nA1, nA2, nA3, nA4, nA5, nA6, nA7, nA8, nA9, nA10, nA11, nA12, nA13, nA14, nA15, nS0, nS1, nS2, nS3, nS4, nS5, nS6, nS7, nS8, nS9, nS10, nS11, nS12, ↓opt_of h1, ↓opt_of h2, ↓opt_of h3, h6]
theorem q180 {d N S : Nat} (hd : 2 ≤ d) {h : aH} {a : Nat} {v n : Int32} (hn : fdI h a 7 15 = some n) : aAt d N S 180 [.ref a, .int v] h (fun r h' => r = some (.int (if n = 0 then Int32.ofInt (-1000002) else if v = 0 then Int32.ofInt (-1000001) else Int32.ofInt 0)) ∧ h' = h) := by
  obtain ⟨fs, h1, h2⟩ := fdI_e hn
  obtain ⟨d, rfl⟩ : ∃ e, d = e + 1 := ⟨d - 1, by omega⟩
  have hd : 1 ≤ d := by omega
  refine at_in (k := 180) rfl (by simp [lg_sl, Value.category]) fun P hP => ?_
  dsimp only at hP ⊢
  simp only [entL_i, entL_r, entL_l, entL_n, List.replicate]
  refine runF (cl1_ok (by omega)) hP [] 80 ?_
  simp (implicitDefEqProofs := false) (disch := omega) only [↓exT_s, ↓sel_nil, ↓sel_eq, ↓sel_no, ↓opt_s, ↓tI_c, ↓tJ_c, ↓tR_c, ↓ldI_0, ↓ldI_s, ↓ldJ_0, ↓ldJ_s, ↓ldR_0, ↓ldR_f, ↓ldR_s, ↓lvS_0, ↓lvS_1n, ↓lvS_1i, ↓lvS_1r, ↓lvS_1f, ↓lvS_s, ↓lvS2_0, ↓lvS2_1n, ↓lvS2_1i, ↓lvS2_1r, ↓lvS2_s, ↓ald_r, ↓ald_f, ↓du1_i, ↓du1_r, ↓du2_ir, ↓pfd_c, ↓opt_g, ↓opt_g0, ↓i_ixz, pu, ↓ivS0, ↓ivS1, ↓ivS2, ↓ivS3, ↓ivS4, ↓ivS5, ↓ivS6, ↓ivV0, ↓ivV1, ↓ivV2, ↓ivV3, ↓ivV4, ↓ivV5, ↓ivV6, ↓y1_131, ↓y1_132, ↓y1_135, ↓y1_136, ↓y1_165, ↓y1_89, ↓mO, ↓mA0, ↓mA1, ↓mA2, ↓mA3, ↓mA4, ↓mA5, ↓mA6, ↓mA7, ↓mA8, ↓mA9, ↓mA10, ↓mA11, ↓mA12, ↓mA13, ↓mA14, ↓mA15, ↓e180_0, ↓e180_1, ↓e180_4, ↓e180_7, ↓e180_9, ↓e180_12, ↓e180_13, ↓e180_16, ↓e180_17, ↓e180_20, ↓e180_22, true_and, and_true, true_or, or_true, false_or, or_false, Option.some.injEq, reduceCtorEq, rtb0, rtb1, ↓b01_ok, b01_0, br_not, Nat.reduceLeDiff, Nat.zero_le, List.length_cons, List.length_nil, List.set_cons_succ, List.set_cons_zero, pv_i, pv_r, tn_n, tn_a2, tn_m2, Int.reduceToNat, upd_s, br_T, br_F, reduceIte, Nat.reduceEqDiff, Nat.reduceAdd, Int.reduceNeg, eq_self, upS_1, upS_2, upA_1, upA_2, if_true, if_false, nA0, nA1, nA2, nA3, nA4, nA5, nA6, nA7, nA8, nA9, nA10, nA11, nA12, nA13, nA14, nA15, nS0, nS1, nS2, nS3, nS4, nS5, nS6, nS7, nS8, nS9, nS10, nS11, nS12, ↓opt_of h1, ↓opt_of h2]
  refine ⟨fun c => ?_, fun c => ⟨fun c2 => ?_, fun c2 => ?_⟩⟩
  · rw [if_pos c]
  · rw [if_neg c, if_pos c2]
  · rw [if_neg c, if_neg c2]

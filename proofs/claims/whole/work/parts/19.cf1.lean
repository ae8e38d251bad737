/-! small methods that only answer: a table of their answers -/
theorem tn_a2 {k : Int} {a : Nat} (h : 0 ≤ k) : (k + (a : Int)).toNat = k.toNat + a := by omega
theorem tn_m2 {k : Int} {a : Nat} (h : 0 ≤ k) : (k * (a : Int)).toNat = k.toNat * a := by
  obtain ⟨j, rfl⟩ := Int.eq_ofNat_of_zero_le h
  rw [← Int.natCast_mul]
  rfl
def b01 (c : Prop) [Decidable c] : Int32 := if c then Int32.ofInt 1 else Int32.ofInt 0
theorem b01_t {c : Prop} [Decidable c] (h : c) : b01 c = Int32.ofInt 1 := if_pos h
theorem b01_f {c : Prop} [Decidable c] (h : ¬ c) : b01 c = Int32.ofInt 0 := if_neg h
theorem b01_ok {c : Prop} [Decidable c] : (b01 c = 0 ∨ b01 c = 1) = True := by
  refine eq_true ?_
  unfold b01
  split
  · exact Or.inr rfl
  · exact Or.inl rfl
theorem b01_0 {c : Prop} [Decidable c] : (b01 c = 0) = ¬ c := by
  unfold b01
  split
  · rename_i h
    simp only [h, not_true_eq_false, eq_iff_iff, iff_false]
    decide
  · rename_i h
    simp only [h, not_false_eq_true, eq_iff_iff, iff_true]
    decide
theorem br_not {c a b : Prop} : br (¬ c) a b = br c b a := by
  unfold br
  by_cases h : c <;> simp [h]
theorem q131 {d N S : Nat} {h : aH} {v a b : Int32} : aAt (d + 1) N S 131 [.int v, .int a, .int b] h (fun r h' => r = some (.int (b01 (a ≤ v ∧ v ≤ b))) ∧ h' = h) := by
  refine at_in (k := 131) rfl (by simp [lg_sl, Value.category]) fun P hP => ?_
  dsimp only at hP ⊢
  simp only [entL_i, entL_r, entL_l, entL_n, List.replicate]
  refine runT hP [] 80 ?_
  simp (implicitDefEqProofs := false) (disch := omega) only [↓exT_s, ↓sel_nil, ↓sel_eq, ↓sel_no, ↓opt_s, ↓tI_c, ↓tJ_c, ↓tR_c, ↓ldI_0, ↓ldI_s, ↓ldJ_0, ↓ldJ_s, ↓ldR_0, ↓ldR_f, ↓ldR_s, ↓lvS_0, ↓lvS_1n, ↓lvS_1i, ↓lvS_1r, ↓lvS_1f, ↓lvS_s, ↓lvS2_0, ↓lvS2_1n, ↓lvS2_1i, ↓lvS2_1r, ↓lvS2_s, ↓ald_r, ↓ald_f, ↓du1_i, ↓du1_r, ↓du2_ir, ↓pfd_c, ↓opt_g, ↓opt_g0, ↓i_ixz, pu, ↓e131_0, ↓e131_1, ↓e131_2, ↓e131_5, ↓e131_6, ↓e131_7, ↓e131_10, ↓e131_11, ↓e131_14, ↓e131_15, true_and, and_true, true_or, or_true, false_or, or_false, Option.some.injEq, reduceCtorEq, rtb0, rtb1, ↓b01_ok, b01_0, br_not, Nat.reduceLeDiff, Nat.zero_le, List.length_cons, List.length_nil, List.set_cons_succ, List.set_cons_zero, pv_i, pv_r, tn_n, tn_a2, tn_m2, Int.reduceToNat, upd_s, br_T, br_F, reduceIte, Nat.reduceEqDiff, Nat.reduceAdd, Int.reduceNeg, eq_self, upS_1, upS_2, upA_1, upA_2, if_true, if_false]
  refine ⟨fun c => ?_, fun c => ⟨fun c2 => ?_, fun c2 => ?_⟩⟩
  · rw [b01_f (fun q => absurd q.1 (Int32.not_le.mpr c))]
  · rw [b01_f (fun q => absurd q.2 (Int32.not_le.mpr c2))]
  · rw [b01_t ⟨Int32.not_lt.mp c, Int32.not_lt.mp c2⟩]
theorem q135 {d N S : Nat} {h : aH} {v a b : Int32} : aAt (d + 1) N S 135 [.int v, .int a, .int b] h (fun r h' => r = some (.int (b01 (a ≤ v ∧ v ≤ b))) ∧ h' = h) := by
  refine at_in (k := 135) rfl (by simp [lg_sl, Value.category]) fun P hP => ?_
  dsimp only at hP ⊢
  simp only [entL_i, entL_r, entL_l, entL_n, List.replicate]
  refine runT hP [] 80 ?_
  simp (implicitDefEqProofs := false) (disch := omega) only [↓exT_s, ↓sel_nil, ↓sel_eq, ↓sel_no, ↓opt_s, ↓tI_c, ↓tJ_c, ↓tR_c, ↓ldI_0, ↓ldI_s, ↓ldJ_0, ↓ldJ_s, ↓ldR_0, ↓ldR_f, ↓ldR_s, ↓lvS_0, ↓lvS_1n, ↓lvS_1i, ↓lvS_1r, ↓lvS_1f, ↓lvS_s, ↓lvS2_0, ↓lvS2_1n, ↓lvS2_1i, ↓lvS2_1r, ↓lvS2_s, ↓ald_r, ↓ald_f, ↓du1_i, ↓du1_r, ↓du2_ir, ↓pfd_c, ↓opt_g, ↓opt_g0, ↓i_ixz, pu, ↓e135_0, ↓e135_1, ↓e135_2, ↓e135_5, ↓e135_6, ↓e135_7, ↓e135_10, ↓e135_11, ↓e135_14, ↓e135_15, true_and, and_true, true_or, or_true, false_or, or_false, Option.some.injEq, reduceCtorEq, rtb0, rtb1, ↓b01_ok, b01_0, br_not, Nat.reduceLeDiff, Nat.zero_le, List.length_cons, List.length_nil, List.set_cons_succ, List.set_cons_zero, pv_i, pv_r, tn_n, tn_a2, tn_m2, Int.reduceToNat, upd_s, br_T, br_F, reduceIte, Nat.reduceEqDiff, Nat.reduceAdd, Int.reduceNeg, eq_self, upS_1, upS_2, upA_1, upA_2, if_true, if_false]
  refine ⟨fun c => ?_, fun c => ⟨fun c2 => ?_, fun c2 => ?_⟩⟩
  · rw [b01_f (fun q => absurd q.1 (Int32.not_le.mpr c))]
  · rw [b01_f (fun q => absurd q.2 (Int32.not_le.mpr c2))]
  · rw [b01_t ⟨Int32.not_lt.mp c, Int32.not_lt.mp c2⟩]
theorem q136 {d N S : Nat} {h : aH} {m k : Int32} : aAt (d + 1) N S 136 [.int m, .int k] h (fun r h' => r = some (.int (b01 (((m >>> (k &&& 31)) &&& Int32.ofInt 1) = Int32.ofInt 1))) ∧ h' = h) := by
  refine at_in (k := 136) rfl (by simp [lg_sl, Value.category]) fun P hP => ?_
  dsimp only at hP ⊢
  simp only [entL_i, entL_r, entL_l, entL_n, List.replicate]
  refine runT hP [] 80 ?_
  simp (implicitDefEqProofs := false) (disch := omega) only [↓exT_s, ↓sel_nil, ↓sel_eq, ↓sel_no, ↓opt_s, ↓tI_c, ↓tJ_c, ↓tR_c, ↓ldI_0, ↓ldI_s, ↓ldJ_0, ↓ldJ_s, ↓ldR_0, ↓ldR_f, ↓ldR_s, ↓lvS_0, ↓lvS_1n, ↓lvS_1i, ↓lvS_1r, ↓lvS_1f, ↓lvS_s, ↓lvS2_0, ↓lvS2_1n, ↓lvS2_1i, ↓lvS2_1r, ↓lvS2_s, ↓ald_r, ↓ald_f, ↓du1_i, ↓du1_r, ↓du2_ir, ↓pfd_c, ↓opt_g, ↓opt_g0, ↓i_ixz, pu, ↓e136_0, ↓e136_1, ↓e136_2, ↓e136_3, ↓e136_4, ↓e136_5, ↓e136_6, ↓e136_9, ↓e136_10, ↓e136_13, ↓e136_14, true_and, and_true, true_or, or_true, false_or, or_false, Option.some.injEq, reduceCtorEq, rtb0, rtb1, ↓b01_ok, b01_0, br_not, Nat.reduceLeDiff, Nat.zero_le, List.length_cons, List.length_nil, List.set_cons_succ, List.set_cons_zero, pv_i, pv_r, tn_n, tn_a2, tn_m2, Int.reduceToNat, upd_s, br_T, br_F, reduceIte, Nat.reduceEqDiff, Nat.reduceAdd, Int.reduceNeg, eq_self, upS_1, upS_2, upA_1, upA_2, if_true, if_false]
  refine ⟨fun c => ?_, fun c => ?_⟩
  · rw [b01_t c]
  · rw [b01_f c]
theorem q165 {d N S : Nat} {h : aH} {a b : Int32} : aAt (d + 1) N S 165 [.int a, .int b] h (fun r h' => r = some (.int (if a < b then b - a else a - b)) ∧ h' = h) := by
  refine at_in (k := 165) rfl (by simp [lg_sl, Value.category]) fun P hP => ?_
  dsimp only at hP ⊢
  simp only [entL_i, entL_r, entL_l, entL_n, List.replicate]
  refine runT hP [] 80 ?_
  simp (implicitDefEqProofs := false) (disch := omega) only [↓exT_s, ↓sel_nil, ↓sel_eq, ↓sel_no, ↓opt_s, ↓tI_c, ↓tJ_c, ↓tR_c, ↓ldI_0, ↓ldI_s, ↓ldJ_0, ↓ldJ_s, ↓ldR_0, ↓ldR_f, ↓ldR_s, ↓lvS_0, ↓lvS_1n, ↓lvS_1i, ↓lvS_1r, ↓lvS_1f, ↓lvS_s, ↓lvS2_0, ↓lvS2_1n, ↓lvS2_1i, ↓lvS2_1r, ↓lvS2_s, ↓ald_r, ↓ald_f, ↓du1_i, ↓du1_r, ↓du2_ir, ↓pfd_c, ↓opt_g, ↓opt_g0, ↓i_ixz, pu, ↓e165_0, ↓e165_1, ↓e165_2, ↓e165_5, ↓e165_6, ↓e165_7, ↓e165_8, ↓e165_11, ↓e165_12, ↓e165_13, ↓e165_14, true_and, and_true, true_or, or_true, false_or, or_false, Option.some.injEq, reduceCtorEq, rtb0, rtb1, ↓b01_ok, b01_0, br_not, Nat.reduceLeDiff, Nat.zero_le, List.length_cons, List.length_nil, List.set_cons_succ, List.set_cons_zero, pv_i, pv_r, tn_n, tn_a2, tn_m2, Int.reduceToNat, upd_s, br_T, br_F, reduceIte, Nat.reduceEqDiff, Nat.reduceAdd, Int.reduceNeg, eq_self, upS_1, upS_2, upA_1, upA_2, if_true, if_false]
  refine ⟨fun c => ?_, fun c => ?_⟩
  · rw [if_neg (Int32.not_lt.mpr c)]
  · rw [if_pos (Int32.not_le.mp c)]
theorem q132 {d N S : Nat} {h : aH} {v : Int32} : aAt (d + 1) N S 132 [.int v] h (fun r h' => r = some (.int (b01 (v = 0 ∨ v = Int32.ofInt 1))) ∧ h' = h) := by
  refine at_in (k := 132) rfl (by simp [lg_sl, Value.category]) fun P hP => ?_
  dsimp only at hP ⊢
  simp only [entL_i, entL_r, entL_l, entL_n, List.replicate]
  refine runT hP [] 80 ?_
  simp (implicitDefEqProofs := false) (disch := omega) only [↓exT_s, ↓sel_nil, ↓sel_eq, ↓sel_no, ↓opt_s, ↓tI_c, ↓tJ_c, ↓tR_c, ↓ldI_0, ↓ldI_s, ↓ldJ_0, ↓ldJ_s, ↓ldR_0, ↓ldR_f, ↓ldR_s, ↓lvS_0, ↓lvS_1n, ↓lvS_1i, ↓lvS_1r, ↓lvS_1f, ↓lvS_s, ↓lvS2_0, ↓lvS2_1n, ↓lvS2_1i, ↓lvS2_1r, ↓lvS2_s, ↓ald_r, ↓ald_f, ↓du1_i, ↓du1_r, ↓du2_ir, ↓pfd_c, ↓opt_g, ↓opt_g0, ↓i_ixz, pu, ↓e132_0, ↓e132_1, ↓e132_4, ↓e132_5, ↓e132_6, ↓e132_9, ↓e132_10, ↓e132_13, ↓e132_14, true_and, and_true, true_or, or_true, false_or, or_false, Option.some.injEq, reduceCtorEq, rtb0, rtb1, ↓b01_ok, b01_0, br_not, Nat.reduceLeDiff, Nat.zero_le, List.length_cons, List.length_nil, List.set_cons_succ, List.set_cons_zero, pv_i, pv_r, tn_n, tn_a2, tn_m2, Int.reduceToNat, upd_s, br_T, br_F, reduceIte, Nat.reduceEqDiff, Nat.reduceAdd, Int.reduceNeg, eq_self, upS_1, upS_2, upA_1, upA_2, if_true, if_false]
  refine ⟨fun c => ?_, fun c => ⟨fun c2 => ?_, fun c2 => ?_⟩⟩
  · rw [b01_t (Or.inl c)]
  · rw [b01_t (Or.inr c2)]
  · rw [b01_f (fun q => q.elim c c2)]
theorem q89 {d N S : Nat} {h : aH} {l v : Int32} : aAt (d + 1) N S 89 [.int l, .int v] h (fun r h' => r = some (.int (if l = 0 then v.toInt8.toInt32 else if l = Int32.ofInt 1 then v.toInt16.toInt32 else v)) ∧ h' = h) := by
  refine at_in (k := 89) rfl (by simp [lg_sl, Value.category]) fun P hP => ?_
  dsimp only at hP ⊢
  simp only [entL_i, entL_r, entL_l, entL_n, List.replicate]
  refine runT hP [] 80 ?_
  simp (implicitDefEqProofs := false) (disch := omega) only [↓exT_s, ↓sel_nil, ↓sel_eq, ↓sel_no, ↓opt_s, ↓tI_c, ↓tJ_c, ↓tR_c, ↓ldI_0, ↓ldI_s, ↓ldJ_0, ↓ldJ_s, ↓ldR_0, ↓ldR_f, ↓ldR_s, ↓lvS_0, ↓lvS_1n, ↓lvS_1i, ↓lvS_1r, ↓lvS_1f, ↓lvS_s, ↓lvS2_0, ↓lvS2_1n, ↓lvS2_1i, ↓lvS2_1r, ↓lvS2_s, ↓ald_r, ↓ald_f, ↓du1_i, ↓du1_r, ↓du2_ir, ↓pfd_c, ↓opt_g, ↓opt_g0, ↓i_ixz, pu, ↓pO, ↓pA0, ↓pA1, ↓pA2, ↓pA3, ↓pA4, ↓pA5, ↓pA6, ↓pA7, ↓mO, ↓mA0, ↓mA1, ↓mA2, ↓mA3, ↓mA4, ↓mA5, ↓mA6, ↓mA7, ↓mA8, ↓mA9, ↓mA10, ↓mA11, ↓mA12, ↓mA13, ↓mA14, ↓mA15, ↓e89_0, ↓e89_1, ↓e89_4, ↓e89_5, ↓e89_6, ↓e89_7, ↓e89_8, ↓e89_9, ↓e89_12, ↓e89_13, ↓e89_14, ↓e89_17, ↓e89_18, true_and, and_true, true_or, or_true, false_or, or_false, Option.some.injEq, reduceCtorEq, rtb0, rtb1, ↓b01_ok, b01_0, br_not, Nat.reduceLeDiff, Nat.zero_le, List.length_cons, List.length_nil, List.set_cons_succ, List.set_cons_zero, pv_i, pv_r, tn_n, tn_a2, tn_m2, Int.reduceToNat, upd_s, br_T, br_F, reduceIte, Nat.reduceEqDiff, Nat.reduceAdd, Int.reduceNeg, eq_self, upS_1, upS_2, upA_1, upA_2, if_true, if_false, wA0, wA1, wA2, wA3, wA4, wA5, wA6, wA7, wS0, wS1, wS2, wS3, wS4, wS5, wS6, nA0, nA1, nA2, nA3, nA4, nA5, nA6, nA7, nA8, nA9, nA10, nA11, nA12, nA13, nA14, nA15, nS0, nS1, nS2, nS3, nS4, nS5, nS6, nS7, nS8, nS9, nS10, nS11, nS12]
  refine ⟨fun c => ?_, fun c => ⟨fun c2 => ?_, fun c2 => ?_⟩⟩
  · rw [if_pos c]
  · rw [if_neg c, if_pos c2]
  · rw [if_neg c, if_neg c2]
abbrev cfT : Type := List Value → aH → Option (Option Value × aH)
def cfOf (l : List (Nat × cfT)) (k : Nat) (as : List Value) (h : aH) : Option (Option Value × aH) := match lkp l k with
  | some f => f as h
  | none => none
theorem cfOf_ok {l : List (Nat × cfT)} {D : Nat} (hl : ∀ q ∈ l, ∀ (as : List Value) (h : aH) (p : Option Value × aH), q.2 as h = some p → ∀ d, D ≤ d → ∀ N S, aAt d N S q.1 as h (fun r h' => r = p.1 ∧ h' = p.2)) {d : Nat} (hd : D ≤ d) (N S k : Nat) (as : List Value) (h : aH) (p : Option Value × aH) (hp : cfOf l k as h = some p) : aAt d N S k as h (fun r h' => r = p.1 ∧ h' = p.2) := by
  unfold cfOf at hp
  split at hp
  · rename_i f hf
    exact hl _ (lkp_mem hf) as h p hp d hd N S
  · cases hp
def f131 : cfT := fun as h => match as with
  | [.int v, .int a, .int b] => some (some (.int (b01 (a ≤ v ∧ v ≤ b))), h)
  | _ => none
theorem n131 : ∀ (as : List Value) (h : aH) (p : Option Value × aH), f131 as h = some p → ∀ d, 1 ≤ d → ∀ N S, aAt d N S 131 as h (fun r h' => r = p.1 ∧ h' = p.2) := by
  intro as h p hp d hd N S
  match as, hp with
  | [.int v, .int a, .int b], hp =>
    cases hp
    obtain ⟨d, rfl⟩ : ∃ e, d = e + 1 := ⟨d - 1, by omega⟩
    exact q131
def f132 : cfT := fun as h => match as with
  | [.int v] => some (some (.int (b01 (v = 0 ∨ v = Int32.ofInt 1))), h)
  | _ => none
theorem n132 : ∀ (as : List Value) (h : aH) (p : Option Value × aH), f132 as h = some p → ∀ d, 1 ≤ d → ∀ N S, aAt d N S 132 as h (fun r h' => r = p.1 ∧ h' = p.2) := by
  intro as h p hp d hd N S
  match as, hp with
  | [.int v], hp =>
    cases hp
    obtain ⟨d, rfl⟩ : ∃ e, d = e + 1 := ⟨d - 1, by omega⟩
    exact q132
def f135 : cfT := fun as h => match as with
  | [.int v, .int a, .int b] => some (some (.int (b01 (a ≤ v ∧ v ≤ b))), h)
  | _ => none
theorem n135 : ∀ (as : List Value) (h : aH) (p : Option Value × aH), f135 as h = some p → ∀ d, 1 ≤ d → ∀ N S, aAt d N S 135 as h (fun r h' => r = p.1 ∧ h' = p.2) := by
  intro as h p hp d hd N S
  match as, hp with
  | [.int v, .int a, .int b], hp =>
    cases hp
    obtain ⟨d, rfl⟩ : ∃ e, d = e + 1 := ⟨d - 1, by omega⟩
    exact q135
def f136 : cfT := fun as h => match as with
  | [.int m, .int k] => some (some (.int (b01 (((m >>> (k &&& 31)) &&& Int32.ofInt 1) = Int32.ofInt 1))), h)
  | _ => none
theorem n136 : ∀ (as : List Value) (h : aH) (p : Option Value × aH), f136 as h = some p → ∀ d, 1 ≤ d → ∀ N S, aAt d N S 136 as h (fun r h' => r = p.1 ∧ h' = p.2) := by
  intro as h p hp d hd N S
  match as, hp with
  | [.int m, .int k], hp =>
    cases hp
    obtain ⟨d, rfl⟩ : ∃ e, d = e + 1 := ⟨d - 1, by omega⟩
    exact q136
def f165 : cfT := fun as h => match as with
  | [.int a, .int b] => some (some (.int (if a < b then b - a else a - b)), h)
  | _ => none
theorem n165 : ∀ (as : List Value) (h : aH) (p : Option Value × aH), f165 as h = some p → ∀ d, 1 ≤ d → ∀ N S, aAt d N S 165 as h (fun r h' => r = p.1 ∧ h' = p.2) := by
  intro as h p hp d hd N S
  match as, hp with
  | [.int a, .int b], hp =>
    cases hp
    obtain ⟨d, rfl⟩ : ∃ e, d = e + 1 := ⟨d - 1, by omega⟩
    exact q165
def f89 : cfT := fun as h => match as with
  | [.int l, .int v] => some (some (.int (if l = 0 then v.toInt8.toInt32 else if l = Int32.ofInt 1 then v.toInt16.toInt32 else v)), h)
  | _ => none
theorem n89 : ∀ (as : List Value) (h : aH) (p : Option Value × aH), f89 as h = some p → ∀ d, 1 ≤ d → ∀ N S, aAt d N S 89 as h (fun r h' => r = p.1 ∧ h' = p.2) := by
  intro as h p hp d hd N S
  match as, hp with
  | [.int l, .int v], hp =>
    cases hp
    obtain ⟨d, rfl⟩ : ∃ e, d = e + 1 := ⟨d - 1, by omega⟩
    exact q89
def cl1 : List (Nat × cfT) := [(131, f131), (132, f132), (135, f135), (136, f136), (165, f165), (89, f89)]
theorem cl1_ok {d : Nat} (hd : 1 ≤ d) (N S k : Nat) (as : List Value) (h : aH) (p : Option Value × aH) (hp : cfOf cl1 k as h = some p) : aAt d N S k as h (fun r h' => r = p.1 ∧ h' = p.2) := cfOf_ok (D := 1) (List.forall_mem_cons.mpr ⟨n131, List.forall_mem_cons.mpr ⟨n132, List.forall_mem_cons.mpr ⟨n135, List.forall_mem_cons.mpr ⟨n136, List.forall_mem_cons.mpr ⟨n165, List.forall_mem_cons.mpr ⟨n89, fun _ h => absurd h List.not_mem_nil⟩⟩⟩⟩⟩⟩) hd N S k as h p hp
theorem y1_131 {v a b : Int32} {h : aH} {f : Option Value × aH → Prop} : opt (cfOf cl1 131 [.int v, .int a, .int b] h) f = f (some (.int (b01 (a ≤ v ∧ v ≤ b))), h) := rfl
theorem y1_132 {v : Int32} {h : aH} {f : Option Value × aH → Prop} : opt (cfOf cl1 132 [.int v] h) f = f (some (.int (b01 (v = 0 ∨ v = Int32.ofInt 1))), h) := rfl
theorem y1_135 {v a b : Int32} {h : aH} {f : Option Value × aH → Prop} : opt (cfOf cl1 135 [.int v, .int a, .int b] h) f = f (some (.int (b01 (a ≤ v ∧ v ≤ b))), h) := rfl
theorem y1_136 {m k : Int32} {h : aH} {f : Option Value × aH → Prop} : opt (cfOf cl1 136 [.int m, .int k] h) f = f (some (.int (b01 (((m >>> (k &&& 31)) &&& Int32.ofInt 1) = Int32.ofInt 1))), h) := rfl
theorem y1_165 {a b : Int32} {h : aH} {f : Option Value × aH → Prop} : opt (cfOf cl1 165 [.int a, .int b] h) f = f (some (.int (if a < b then b - a else a - b)), h) := rfl
theorem y1_89 {l v : Int32} {h : aH} {f : Option Value × aH → Prop} : opt (cfOf cl1 89 [.int l, .int v] h) f = f (some (.int (if l = 0 then v.toInt8.toInt32 else if l = Int32.ofInt 1 then v.toInt16.toInt32 else v)), h) := rfl

/-! what a text says, sentence by sentence; the reference's told and sign -/
def lawR (T : Tp) : (Nat × Nat) ⊕ (Nat × Nat × Nat) :=
  if isB T 0 99 = true then (match nuR T 1 2 9 with
    | .inl f => .inl (f, 1)
    | .inr (r, p1) => if isB T p1 44 = true then (match nuR T (p1 + 1) 1 30 with
      | .inl f => .inl (f, p1 + 1)
      | .inr (l, p2) => if isB T p2 59 = true then .inr (r, l, p2 + 1) else .inl (1, p2)) else .inl (1, p1)) else .inl (1, 0)
def ansR (T : Tp) (p r : Nat) : (Nat × Nat) ⊕ (Nat × Nat × Nat × Nat) :=
  match nuR T (p + 1) 0 ((r : Int) - 1) with
  | .inl f => .inl (f, p + 1)
  | .inr (x, p1) => if isB T p1 44 = true then (match nuR T (p1 + 1) 1 9 with
    | .inl f => .inl (f, p1 + 1)
    | .inr (y, p2) => if isB T p2 44 = true then (match nuR T (p2 + 1) 0 2 with
      | .inl f => .inl (f, p2 + 1)
      | .inr (z, p3) => if isB T p3 59 = true then .inr (x, y, z, p3 + 1) else .inl (1, p3)) else .inl (1, p2)) else .inl (1, p1)
def hwkR (T : Tp) (p : Nat) : (Nat × Nat) ⊕ (Nat × Nat) :=
  match nuR T (p + 1) 0 9 with
  | .inl f => .inl (f, p + 1)
  | .inr (x, p1) => if isB T p1 59 = true then .inr (x, p1 + 1) else .inl (1, p1)
def kd (c : Nat) : Nat := if c = 109 then 1 else if c = 112 then 2 else if c = 107 then 3 else if c = 116 then 4 else if c = 98 then 5 else 0
def kdO (T : Tp) (p : Nat) : Nat := if p < T.1 then kd (T.2 p) else 0
def K1r (r l : Nat) : Kc := (fun x => if x = 0 then r else if x = 1 then l else 0, fun _ _ => 0)
def addA (K : Kc) (x y z : Nat) : Kc := (fun j => if j = 4 then K.1 4 + 1 else K.1 j, fun j i => if i = K.1 4 ∧ j = 5 then x else if i = K.1 4 ∧ j = 6 then y else if i = K.1 4 ∧ j = 7 then z else K.2 j i)
def addH (K : Kc) (x y : Nat) : Kc := (fun j => if j = 3 then K.1 3 + 1 else K.1 j, fun j i => if i = K.1 3 ∧ j = 0 then x else if i = K.1 3 ∧ j = 1 then y else K.2 j i)
def ansL (T : Tp) : Nat → Kc → Nat → (Nat × Nat) ⊕ (Kc × Nat)
  | 0, _, p => .inl (3, p)
  | f + 1, K, p => if isB T p 113 = true then (if K.1 4 = 6 then .inl (3, p) else (match ansR T p (K.1 0) with
    | .inl e => .inl e
    | .inr (x, y, z, q) => ansL T f (addA K x y z) q)) else (if K.1 4 = 0 then .inl (1, p) else .inr (K, p))
def hwkL (T : Tp) : Nat → Kc → Nat → (Nat × Nat) ⊕ Kc
  | 0, _, p => .inl (3, p)
  | f + 1, K, p => if 0 < K.1 3 ∧ p = T.1 then .inr K else if kdO T p = 0 then .inl (1, p) else if K.1 3 = 5 then .inl (3, p) else (match hwkR T p with
    | .inl e => .inl e
    | .inr (y, q) => hwkL T f (addH K (kdO T p) y) q)
/-- the whole text -/
def txtR (T : Tp) : (Nat × Nat) ⊕ Kc := match lawR T with
  | .inl e => .inl e
  | .inr (r, l, p) => match ansL T 7 (K1r r l) p with
    | .inl e => .inl e
    | .inr (K, q) => hwkL T 6 K q
theorem RD_is {T : Tp} {p c : Nat} {tk ra nu : Int32} (ht : tOk T) (hpn : p ≤ T.1) (hc : (97 ≤ c ∧ c ≤ 122) ∨ c = 44 ∨ c = 59) (h : RD T p tk ra nu) : (isB T p c = true → tk = Int32.ofInt (c : Int) ∧ ra = Int32.ofInt ((p + 1 : Nat) : Int)) ∧ (¬ isB T p c = true → ¬ tk = Int32.ofInt (c : Int)) := by
  unfold RD at h
  by_cases c1 : p = T.1
  · rw [if_pos c1] at h
    refine ⟨fun q => by have := (isB_t q).1; omega, fun _ => ?_⟩
    rw [h.1, i_eq (by omega) (by omega) (by omega) (by omega)]
    omega
  · rw [if_neg c1] at h
    by_cases f0 : fig T p = false
    · rw [if_pos f0] at h
      refine ⟨fun q => ?_, fun q => ?_⟩
      · obtain ⟨q1, q2⟩ := isB_t q
        rw [h.1, h.2, q2]
        unfold tkc
        rw [if_pos hc]
        exact ⟨rfl, rfl⟩
      · rw [h.1]
        intro e
        by_cases c2 : p < T.1
        · have := ht.2 p c2
          have hb : 0 ≤ tkc (T.2 p) ∧ tkc (T.2 p) ≤ 255 := by unfold tkc; split <;> omega
          rw [i_eq (by omega) (by omega) (by omega) (by omega)] at e
          unfold tkc at e
          split at e
          · exact q (by simp [isB, c2]; omega)
          · omega
        · omega
    · rw [if_neg f0] at h
      have g0 := fig_t (T := T) (i := p) (by simpa using f0)
      have hn : ¬ isB T p c = true := fun q => by have := (isB_t q).2; omega
      refine ⟨fun q => absurd q hn, fun _ => ?_⟩
      have e48 : ¬ Int32.ofInt 48 = Int32.ofInt (c : Int) := by rw [i_eq (by omega) (by omega) (by omega) (by omega)]; omega
      have e0 : ¬ Int32.ofInt 0 = Int32.ofInt (c : Int) := by rw [i_eq (by omega) (by omega) (by omega) (by omega)]; omega
      split at h
      · rw [h.1]; exact e48
      · split at h
        · rw [h.1]; exact e48
        · rw [h]; exact e0
theorem RD_e {T : Tp} {p : Nat} {tk ra nu : Int32} (ht : tOk T) (hpn : p ≤ T.1) (h : RD T p tk ra nu) : tk = Int32.ofInt (-1) ↔ p = T.1 := by
  unfold RD at h
  by_cases c1 : p = T.1
  · rw [if_pos c1] at h
    exact ⟨fun _ => c1, fun _ => h.1⟩
  · rw [if_neg c1] at h
    refine ⟨fun e => ?_, fun e => absurd e c1⟩
    have c2 : p < T.1 := by omega
    have := ht.2 p c2
    have hb : 0 ≤ tkc (T.2 p) ∧ tkc (T.2 p) ≤ 255 := by unfold tkc; split <;> omega
    split at h
    · rw [h.1, i_eq (by omega) (by omega) (by omega) (by omega)] at e; omega
    · split at h
      · rw [h.1, i_eq (by omega) (by omega) (by omega) (by omega)] at e; omega
      · split at h
        · rw [h.1, i_eq (by omega) (by omega) (by omega) (by omega)] at e; omega
        · rw [h, i_eq (by omega) (by omega) (by omega) (by omega)] at e; omega
/-- a reading failed there, of that fault -/
def FM (m : Cc) (T : Tp) (p f : Nat) : Prop := m.1 6 = Int32.ofInt (f : Int) ∧ m.1 5 = Int32.ofInt (p : Int) ∧ (m.1 3 = Int32.ofInt (-1) → p = T.1)
theorem q152 {d N S : Nat} (hd : 1 ≤ d) {h : aH} {b : Nat} {m : Cc} {f : Nat} (hb : b + 17 ≤ h.1) : aAt d N S 152 [.ref b, .int (Int32.ofInt (f : Int))] (putM h b m) (fun x h' => x = some (.int (Int32.ofInt 0)) ∧ h' = putM h b (upS m 6 (Int32.ofInt (f : Int)))) := by
  obtain ⟨d, rfl⟩ : ∃ e, d = e + 1 := ⟨d - 1, by omega⟩
  have hd : 0 ≤ d := by omega
  refine at_in (k := 152) rfl (by simp [lg_sl, Value.category]) fun P hP => ?_
  dsimp only at hP ⊢
  simp only [entL_i, entL_r, entL_l, entL_n, List.replicate]
  refine runT hP [] 100 ?_
  simp (implicitDefEqProofs := false) (dsimp := false) (disch := omega) only [↓exT_s, ↓sel_nil, ↓sel_eq, ↓sel_no, ↓tI_c, ↓tJ_c, ↓tR_c, ↓ldI_0, ↓ldI_s, ↓ldJ_0, ↓ldJ_s, ↓ldR_0, ↓ldR_f, ↓ldR_s, ↓lvS_0, ↓lvS_1n, ↓lvS_1i, ↓lvS_1r, ↓lvS_1f, ↓lvS_s, ↓lvS2_0, ↓lvS2_1n, ↓lvS2_1i, ↓lvS2_1r, ↓lvS2_s, ↓du1_i, ↓du1_r, ↓du2_ir, pu, optW_s, gW_s, gW_0, ixW_z, brW_T, brW_F, brW_n, ↓aldW_r, ↓aldW_f, ↓pfdW_c, ↓ivSW0, ↓ivSW1, ↓ivSW2, ↓ivSW3, ↓ivSW4, ↓ivSW5, ↓ivSW6, ↓ivVW0, ↓ivVW1, ↓ivVW2, ↓ivVW3, ↓ivVW4, ↓ivVW5, ↓ivVW6, mOW, mAJW, mA0W, mA1W, mA2W, mA3W, mA4W, mA5W, mA6W, mA7W, mA8W, mA9W, mA10W, mA11W, mA12W, mA13W, mA14W, mA15W, ↓e152_0, ↓e152_1, ↓g152_2, ↓e152_5, ↓e152_6, true_and, and_true, true_or, or_true, false_or, or_false, Option.some.injEq, reduceCtorEq, ↓b01_ok, br_not, Nat.reduceLeDiff, Nat.zero_le, List.length_cons, List.length_nil, List.set_cons_succ, List.set_cons_zero, pv_i, pv_r, tn_n, tn_a2, tn_m2, Int.reduceToNat, upd_s, br_T, br_F, reduceIte, Nat.reduceEqDiff, Nat.reduceAdd, Int.reduceNeg, eq_self, upS_1, upS_2, upA_1, upA_2, if_true, if_false, ↓rtb0, ↓rtb1, i_zero, b01_z, b01_o, i_10, i_01, not_true_eq_false, not_false_eq_true, Bool.false_eq_true, Int.le_refl, Int.add_zero, Int.zero_add, upA_upA, upS_upS, false_and, and_false, i_sm1, Nat.lt_irrefl, Int.lt_irrefl, Int.reduceEq, Int.cast_ofNat_Int, Int.reduceSub, Int.reduceAdd, Int.reduceMul, Int.reduceLE, Int.reduceLT, Nat.reduceLT, nAJ, nA0, nA1, nA2, nA3, nA4, nA5, nA6, nA7, nA8, nA9, nA10, nA11, nA12, nA13, nA14, nA15, nSx, setM_s, setM_u, setM_A, setM_r, upS_A, setM_0, setM_1, setM_2, setM_3, setM_4, setM_5, setM_6, setM_7, setM_8, setM_9, setM_10, setM_11, setM_12, setM_t0, setM_t1, setM_t2, setM_t3, setM_t4, setM_t5, setM_t6, setM_t7, setM_t8, setM_t9, setM_t10, setM_t11, setM_t12]
set_option maxHeartbeats 4000000 in
theorem q154 {d N S : Nat} (hd : 4 ≤ d) {h : aH} {b : Nat} {m : Cc} {T : Tp} {p c : Nat} (hb : b + 17 ≤ h.1) (hT : XsT (m.1 1) (m.2 3) T) (ht : tOk T) (hp : m.1 2 = Int32.ofInt (p : Int)) (hpn : p ≤ T.1) (hc : c = 44 ∨ c = 59) : aAt d N S 154 [.ref b, .int (Int32.ofInt (c : Int))] (putM h b m) (fun x h' => ∃ m', h' = putM h b m' ∧ frQ m m' ∧ m'.2 = m.2 ∧ if isB T p c = true then x = some (.int (Int32.ofInt 1)) ∧ m'.1 2 = Int32.ofInt ((p + 1 : Nat) : Int) else x = some (.int (Int32.ofInt 0)) ∧ FM m' T p 1) := by
  obtain ⟨d, rfl⟩ : ∃ e, d = e + 1 := ⟨d - 1, by omega⟩
  have hd : 3 ≤ d := by omega
  refine at_in (k := 154) rfl (by simp [lg_sl, Value.category]) fun P hP => ?_
  dsimp only at hP ⊢
  simp only [entL_i, entL_r, entL_l, entL_n, List.replicate]
  refine runT hP [1] 100 ?_
  simp (implicitDefEqProofs := false) (dsimp := false) (disch := omega) only [↓exT_s, ↓sel_nil, ↓sel_eq, ↓sel_no, ↓tI_c, ↓tJ_c, ↓tR_c, ↓ldI_0, ↓ldI_s, ↓ldJ_0, ↓ldJ_s, ↓ldR_0, ↓ldR_f, ↓ldR_s, ↓lvS_0, ↓lvS_1n, ↓lvS_1i, ↓lvS_1r, ↓lvS_1f, ↓lvS_s, ↓lvS2_0, ↓lvS2_1n, ↓lvS2_1i, ↓lvS2_1r, ↓lvS2_s, ↓du1_i, ↓du1_r, ↓du2_ir, pu, optW_s, gW_s, gW_0, ixW_z, brW_T, brW_F, brW_n, ↓aldW_r, ↓aldW_f, ↓pfdW_c, ↓ivSW0, ↓ivSW1, ↓ivSW2, ↓ivSW3, ↓ivSW4, ↓ivSW5, ↓ivSW6, ↓ivVW0, ↓ivVW1, ↓ivVW2, ↓ivVW3, ↓ivVW4, ↓ivVW5, ↓ivVW6, mOW, mAJW, mA0W, mA1W, mA2W, mA3W, mA4W, mA5W, mA6W, mA7W, mA8W, mA9W, mA10W, mA11W, mA12W, mA13W, mA14W, mA15W, ↓e154_0, ↓g154_1, ↓e154_4, ↓g154_5, ↓e154_8, ↓g154_9, ↓e154_12, ↓e154_13, ↓g154_14, ↓g154_17, ↓e154_20, ↓e154_21, ↓e154_24, ↓e154_25, true_and, and_true, true_or, or_true, false_or, or_false, Option.some.injEq, reduceCtorEq, ↓b01_ok, br_not, Nat.reduceLeDiff, Nat.zero_le, List.length_cons, List.length_nil, List.set_cons_succ, List.set_cons_zero, pv_i, pv_r, tn_n, tn_a2, tn_m2, Int.reduceToNat, upd_s, br_T, br_F, reduceIte, Nat.reduceEqDiff, Nat.reduceAdd, Int.reduceNeg, eq_self, upS_1, upS_2, upA_1, upA_2, if_true, if_false, ↓rtb0, ↓rtb1, i_zero, b01_z, b01_o, i_10, i_01, not_true_eq_false, not_false_eq_true, Bool.false_eq_true, Int.le_refl, Int.add_zero, Int.zero_add, upA_upA, upS_upS, false_and, and_false, i_sm1, Nat.lt_irrefl, Int.lt_irrefl, Int.reduceEq, Int.cast_ofNat_Int, Int.reduceSub, Int.reduceAdd, Int.reduceMul, Int.reduceLE, Int.reduceLT, Nat.reduceLT, nAJ, nA0, nA1, nA2, nA3, nA4, nA5, nA6, nA7, nA8, nA9, nA10, nA11, nA12, nA13, nA14, nA15, nSx, setM_s, setM_u, setM_A, setM_r, upS_A, setM_0, setM_1, setM_2, setM_3, setM_4, setM_5, setM_6, setM_7, setM_8, setM_9, setM_10, setM_11, setM_12, setM_t0, setM_t1, setM_t2, setM_t3, setM_t4, setM_t5, setM_t6, setM_t7, setM_t8, setM_t9, setM_t10, setM_t11, setM_t12]
  refine kv0 hP rfl (hOM hb) (by simp) (q151 (T := T) (p := p) (by omega) hb hT ht hp hpn) ?_
  rintro _ _ ⟨rfl, m1, rfl, f1, a1, a5, hr⟩
  show P 4 _ _ _
  obtain ⟨r1, r2⟩ := RD_is (c := c) ht hpn (by omega) hr
  have re := RD_e ht hpn hr
  by_cases e : isB T p c = true
  · obtain ⟨r3, r4⟩ := r1 e
    simp only [if_pos e] at hP
    have d1 : (m1.1 3 = Int32.ofInt (c : Int)) = True := eq_true r3
    refine runT hP [] 100 ?_
    simp (implicitDefEqProofs := false) (dsimp := false) (disch := omega) only [↓exT_s, ↓sel_nil, ↓sel_eq, ↓sel_no, ↓tI_c, ↓tJ_c, ↓tR_c, ↓ldI_0, ↓ldI_s, ↓ldJ_0, ↓ldJ_s, ↓ldR_0, ↓ldR_f, ↓ldR_s, ↓lvS_0, ↓lvS_1n, ↓lvS_1i, ↓lvS_1r, ↓lvS_1f, ↓lvS_s, ↓lvS2_0, ↓lvS2_1n, ↓lvS2_1i, ↓lvS2_1r, ↓lvS2_s, ↓du1_i, ↓du1_r, ↓du2_ir, pu, optW_s, gW_s, gW_0, ixW_z, brW_T, brW_F, brW_n, ↓aldW_r, ↓aldW_f, ↓pfdW_c, ↓ivSW0, ↓ivSW1, ↓ivSW2, ↓ivSW3, ↓ivSW4, ↓ivSW5, ↓ivSW6, ↓ivVW0, ↓ivVW1, ↓ivVW2, ↓ivVW3, ↓ivVW4, ↓ivVW5, ↓ivVW6, mOW, mAJW, mA0W, mA1W, mA2W, mA3W, mA4W, mA5W, mA6W, mA7W, mA8W, mA9W, mA10W, mA11W, mA12W, mA13W, mA14W, mA15W, ↓e154_0, ↓g154_1, ↓e154_4, ↓g154_5, ↓e154_8, ↓g154_9, ↓e154_12, ↓e154_13, ↓g154_14, ↓g154_17, ↓e154_20, ↓e154_21, ↓e154_24, ↓e154_25, true_and, and_true, true_or, or_true, false_or, or_false, Option.some.injEq, reduceCtorEq, ↓b01_ok, br_not, Nat.reduceLeDiff, Nat.zero_le, List.length_cons, List.length_nil, List.set_cons_succ, List.set_cons_zero, pv_i, pv_r, tn_n, tn_a2, tn_m2, Int.reduceToNat, upd_s, br_T, br_F, reduceIte, Nat.reduceEqDiff, Nat.reduceAdd, Int.reduceNeg, eq_self, upS_1, upS_2, upA_1, upA_2, if_true, if_false, ↓rtb0, ↓rtb1, i_zero, b01_z, b01_o, i_10, i_01, not_true_eq_false, not_false_eq_true, Bool.false_eq_true, Int.le_refl, Int.add_zero, Int.zero_add, upA_upA, upS_upS, false_and, and_false, i_sm1, Nat.lt_irrefl, Int.lt_irrefl, Int.reduceEq, Int.cast_ofNat_Int, Int.reduceSub, Int.reduceAdd, Int.reduceMul, Int.reduceLE, Int.reduceLT, Nat.reduceLT, nAJ, nA0, nA1, nA2, nA3, nA4, nA5, nA6, nA7, nA8, nA9, nA10, nA11, nA12, nA13, nA14, nA15, nSx, setM_s, setM_u, setM_A, setM_r, upS_A, setM_0, setM_1, setM_2, setM_3, setM_4, setM_5, setM_6, setM_7, setM_8, setM_9, setM_10, setM_11, setM_12, setM_t0, setM_t1, setM_t2, setM_t3, setM_t4, setM_t5, setM_t6, setM_t7, setM_t8, setM_t9, setM_t10, setM_t11, setM_t12, d1]
    exact ⟨m1, rfl, f1, a1, r4⟩
  · have r3 := r2 e
    simp only [if_neg e] at hP
    have d1 : (m1.1 3 = Int32.ofInt (c : Int)) = False := eq_false r3
    refine runT hP [14] 100 ?_
    simp (implicitDefEqProofs := false) (dsimp := false) (disch := omega) only [↓exT_s, ↓sel_nil, ↓sel_eq, ↓sel_no, ↓tI_c, ↓tJ_c, ↓tR_c, ↓ldI_0, ↓ldI_s, ↓ldJ_0, ↓ldJ_s, ↓ldR_0, ↓ldR_f, ↓ldR_s, ↓lvS_0, ↓lvS_1n, ↓lvS_1i, ↓lvS_1r, ↓lvS_1f, ↓lvS_s, ↓lvS2_0, ↓lvS2_1n, ↓lvS2_1i, ↓lvS2_1r, ↓lvS2_s, ↓du1_i, ↓du1_r, ↓du2_ir, pu, optW_s, gW_s, gW_0, ixW_z, brW_T, brW_F, brW_n, ↓aldW_r, ↓aldW_f, ↓pfdW_c, ↓ivSW0, ↓ivSW1, ↓ivSW2, ↓ivSW3, ↓ivSW4, ↓ivSW5, ↓ivSW6, ↓ivVW0, ↓ivVW1, ↓ivVW2, ↓ivVW3, ↓ivVW4, ↓ivVW5, ↓ivVW6, mOW, mAJW, mA0W, mA1W, mA2W, mA3W, mA4W, mA5W, mA6W, mA7W, mA8W, mA9W, mA10W, mA11W, mA12W, mA13W, mA14W, mA15W, ↓e154_0, ↓g154_1, ↓e154_4, ↓g154_5, ↓e154_8, ↓g154_9, ↓e154_12, ↓e154_13, ↓g154_14, ↓g154_17, ↓e154_20, ↓e154_21, ↓e154_24, ↓e154_25, true_and, and_true, true_or, or_true, false_or, or_false, Option.some.injEq, reduceCtorEq, ↓b01_ok, br_not, Nat.reduceLeDiff, Nat.zero_le, List.length_cons, List.length_nil, List.set_cons_succ, List.set_cons_zero, pv_i, pv_r, tn_n, tn_a2, tn_m2, Int.reduceToNat, upd_s, br_T, br_F, reduceIte, Nat.reduceEqDiff, Nat.reduceAdd, Int.reduceNeg, eq_self, upS_1, upS_2, upA_1, upA_2, if_true, if_false, ↓rtb0, ↓rtb1, i_zero, b01_z, b01_o, i_10, i_01, not_true_eq_false, not_false_eq_true, Bool.false_eq_true, Int.le_refl, Int.add_zero, Int.zero_add, upA_upA, upS_upS, false_and, and_false, i_sm1, Nat.lt_irrefl, Int.lt_irrefl, Int.reduceEq, Int.cast_ofNat_Int, Int.reduceSub, Int.reduceAdd, Int.reduceMul, Int.reduceLE, Int.reduceLT, Nat.reduceLT, nAJ, nA0, nA1, nA2, nA3, nA4, nA5, nA6, nA7, nA8, nA9, nA10, nA11, nA12, nA13, nA14, nA15, nSx, setM_s, setM_u, setM_A, setM_r, upS_A, setM_0, setM_1, setM_2, setM_3, setM_4, setM_5, setM_6, setM_7, setM_8, setM_9, setM_10, setM_11, setM_12, setM_t0, setM_t1, setM_t2, setM_t3, setM_t4, setM_t5, setM_t6, setM_t7, setM_t8, setM_t9, setM_t10, setM_t11, setM_t12, d1]
    refine kv1 hP rfl (hOM hb) (by simp) (q152 (f := 1) (by omega) hb) ?_
    rintro _ _ ⟨rfl, rfl⟩
    show P 17 _ _ _
    refine runT hP [] 100 ?_
    simp (implicitDefEqProofs := false) (dsimp := false) (disch := omega) only [↓exT_s, ↓sel_nil, ↓sel_eq, ↓sel_no, ↓tI_c, ↓tJ_c, ↓tR_c, ↓ldI_0, ↓ldI_s, ↓ldJ_0, ↓ldJ_s, ↓ldR_0, ↓ldR_f, ↓ldR_s, ↓lvS_0, ↓lvS_1n, ↓lvS_1i, ↓lvS_1r, ↓lvS_1f, ↓lvS_s, ↓lvS2_0, ↓lvS2_1n, ↓lvS2_1i, ↓lvS2_1r, ↓lvS2_s, ↓du1_i, ↓du1_r, ↓du2_ir, pu, optW_s, gW_s, gW_0, ixW_z, brW_T, brW_F, brW_n, ↓aldW_r, ↓aldW_f, ↓pfdW_c, ↓ivSW0, ↓ivSW1, ↓ivSW2, ↓ivSW3, ↓ivSW4, ↓ivSW5, ↓ivSW6, ↓ivVW0, ↓ivVW1, ↓ivVW2, ↓ivVW3, ↓ivVW4, ↓ivVW5, ↓ivVW6, mOW, mAJW, mA0W, mA1W, mA2W, mA3W, mA4W, mA5W, mA6W, mA7W, mA8W, mA9W, mA10W, mA11W, mA12W, mA13W, mA14W, mA15W, ↓e154_0, ↓g154_1, ↓e154_4, ↓g154_5, ↓e154_8, ↓g154_9, ↓e154_12, ↓e154_13, ↓g154_14, ↓g154_17, ↓e154_20, ↓e154_21, ↓e154_24, ↓e154_25, true_and, and_true, true_or, or_true, false_or, or_false, Option.some.injEq, reduceCtorEq, ↓b01_ok, br_not, Nat.reduceLeDiff, Nat.zero_le, List.length_cons, List.length_nil, List.set_cons_succ, List.set_cons_zero, pv_i, pv_r, tn_n, tn_a2, tn_m2, Int.reduceToNat, upd_s, br_T, br_F, reduceIte, Nat.reduceEqDiff, Nat.reduceAdd, Int.reduceNeg, eq_self, upS_1, upS_2, upA_1, upA_2, if_true, if_false, ↓rtb0, ↓rtb1, i_zero, b01_z, b01_o, i_10, i_01, not_true_eq_false, not_false_eq_true, Bool.false_eq_true, Int.le_refl, Int.add_zero, Int.zero_add, upA_upA, upS_upS, false_and, and_false, i_sm1, Nat.lt_irrefl, Int.lt_irrefl, Int.reduceEq, Int.cast_ofNat_Int, Int.reduceSub, Int.reduceAdd, Int.reduceMul, Int.reduceLE, Int.reduceLT, Nat.reduceLT, nAJ, nA0, nA1, nA2, nA3, nA4, nA5, nA6, nA7, nA8, nA9, nA10, nA11, nA12, nA13, nA14, nA15, nSx, setM_s, setM_u, setM_A, setM_r, upS_A, setM_0, setM_1, setM_2, setM_3, setM_4, setM_5, setM_6, setM_7, setM_8, setM_9, setM_10, setM_11, setM_12, setM_t0, setM_t1, setM_t2, setM_t3, setM_t4, setM_t5, setM_t6, setM_t7, setM_t8, setM_t9, setM_t10, setM_t11, setM_t12]
    exact ⟨_, rfl, frQ_tr f1 (frQ_S (by omega)), a1, rfl, a5, fun q => re.1 q⟩
set_option maxHeartbeats 4000000 in
theorem q153 {d N S : Nat} (hd : 4 ≤ d) {h : aH} {b : Nat} {m : Cc} {T : Tp} {p pl J : Nat} {lo hi : Int} (hb : b + 17 ≤ h.1) (hT : XsT (m.1 1) (m.2 3) T) (ht : tOk T) (hp : m.1 2 = Int32.ofInt (p : Int)) (hpn : p ≤ T.1) (hJ : (J = 4 ∧ pl < 15) ∨ (J = 5 ∧ pl < 34)) (l1 : -2147483648 ≤ lo) (l2 : lo ≤ 2147483647) (h1 : -2147483648 ≤ hi) (h2 : hi ≤ 2147483647) : aAt d N S 153 [.ref b, .ref (b + (J + 1)), .int (Int32.ofInt (pl : Int)), .int (Int32.ofInt lo), .int (Int32.ofInt hi)] (putM h b m) (fun x h' => ∃ m', h' = putM h b m' ∧ frQ m m' ∧ match nuR T p lo hi with
    | .inl f => x = some (.int (Int32.ofInt 0)) ∧ FM m' T p f
    | .inr (v, q) => x = some (.int (Int32.ofInt 1)) ∧ m'.1 2 = Int32.ofInt (q : Int) ∧ m'.2 = (upA m J (upd (m.2 J) pl (Int32.ofInt (v : Int)))).2) := by
  obtain ⟨d, rfl⟩ : ∃ e, d = e + 1 := ⟨d - 1, by omega⟩
  have hd : 3 ≤ d := by omega
  refine at_in (k := 153) rfl (by simp [lg_sl, Value.category]) fun P hP => ?_
  dsimp only at hP ⊢
  simp only [entL_i, entL_r, entL_l, entL_n, List.replicate]
  refine runT hP [1] 100 ?_
  simp (implicitDefEqProofs := false) (dsimp := false) (disch := omega) only [↓exT_s, ↓sel_nil, ↓sel_eq, ↓sel_no, ↓tI_c, ↓tJ_c, ↓tR_c, ↓ldI_0, ↓ldI_s, ↓ldJ_0, ↓ldJ_s, ↓ldR_0, ↓ldR_f, ↓ldR_s, ↓lvS_0, ↓lvS_1n, ↓lvS_1i, ↓lvS_1r, ↓lvS_1f, ↓lvS_s, ↓lvS2_0, ↓lvS2_1n, ↓lvS2_1i, ↓lvS2_1r, ↓lvS2_s, ↓du1_i, ↓du1_r, ↓du2_ir, pu, optW_s, gW_s, gW_0, ixW_z, brW_T, brW_F, brW_n, ↓aldW_r, ↓aldW_f, ↓pfdW_c, ↓ivSW0, ↓ivSW1, ↓ivSW2, ↓ivSW3, ↓ivSW4, ↓ivSW5, ↓ivSW6, ↓ivVW0, ↓ivVW1, ↓ivVW2, ↓ivVW3, ↓ivVW4, ↓ivVW5, ↓ivVW6, mOW, mAJW, mA0W, mA1W, mA2W, mA3W, mA4W, mA5W, mA6W, mA7W, mA8W, mA9W, mA10W, mA11W, mA12W, mA13W, mA14W, mA15W, ↓e153_0, ↓g153_1, ↓e153_4, ↓g153_5, ↓e153_8, ↓g153_10, ↓e153_13, ↓e153_14, ↓g153_15, ↓e153_18, ↓e153_19, ↓e153_20, ↓e153_21, ↓g153_22, ↓g153_25, ↓e153_26, ↓g153_27, ↓e153_30, ↓e153_31, ↓g153_33, ↓g153_36, ↓e153_39, ↓e153_40, ↓g153_41, ↓g153_44, ↓e153_47, ↓e153_48, ↓e153_51, ↓e153_52, true_and, and_true, true_or, or_true, false_or, or_false, Option.some.injEq, reduceCtorEq, ↓b01_ok, br_not, Nat.reduceLeDiff, Nat.zero_le, List.length_cons, List.length_nil, List.set_cons_succ, List.set_cons_zero, pv_i, pv_r, tn_n, tn_a2, tn_m2, Int.reduceToNat, upd_s, br_T, br_F, reduceIte, Nat.reduceEqDiff, Nat.reduceAdd, Int.reduceNeg, eq_self, upS_1, upS_2, upA_1, upA_2, if_true, if_false, ↓rtb0, ↓rtb1, i_zero, b01_z, b01_o, i_10, i_01, not_true_eq_false, not_false_eq_true, Bool.false_eq_true, Int.le_refl, Int.add_zero, Int.zero_add, upA_upA, upS_upS, false_and, and_false, i_sm1, Nat.lt_irrefl, Int.lt_irrefl, Int.reduceEq, Int.cast_ofNat_Int, Int.reduceSub, Int.reduceAdd, Int.reduceMul, Int.reduceLE, Int.reduceLT, Nat.reduceLT, nAJ, nA0, nA1, nA2, nA3, nA4, nA5, nA6, nA7, nA8, nA9, nA10, nA11, nA12, nA13, nA14, nA15, nSx, setM_s, setM_u, setM_A, setM_r, upS_A, setM_0, setM_1, setM_2, setM_3, setM_4, setM_5, setM_6, setM_7, setM_8, setM_9, setM_10, setM_11, setM_12, setM_t0, setM_t1, setM_t2, setM_t3, setM_t4, setM_t5, setM_t6, setM_t7, setM_t8, setM_t9, setM_t10, setM_t11, setM_t12]
  refine kv0 hP rfl (hOM hb) (by simp) (q151 (T := T) (p := p) (by omega) hb hT ht hp hpn) ?_
  rintro _ _ ⟨rfl, m1, rfl, f1, a1, a5, hr⟩
  show P 4 _ _ _
  have re := RD_e ht hpn hr
  have bad : nuR T p lo hi = .inl 1 → ¬ m1.1 3 = Int32.ofInt 48 → P 4 [some (.ref b), some (.ref (b + (J + 1))), some (.int (Int32.ofInt (pl : Int))), some (.int (Int32.ofInt lo)), some (.int (Int32.ofInt hi))] [] (putM h b m1) := by
    intro e1 e2
    rw [e1] at hP
    have d1 : (m1.1 3 = Int32.ofInt 48) = False := eq_false e2
    refine runT hP [15] 100 ?_
    simp (implicitDefEqProofs := false) (dsimp := false) (disch := omega) only [↓exT_s, ↓sel_nil, ↓sel_eq, ↓sel_no, ↓tI_c, ↓tJ_c, ↓tR_c, ↓ldI_0, ↓ldI_s, ↓ldJ_0, ↓ldJ_s, ↓ldR_0, ↓ldR_f, ↓ldR_s, ↓lvS_0, ↓lvS_1n, ↓lvS_1i, ↓lvS_1r, ↓lvS_1f, ↓lvS_s, ↓lvS2_0, ↓lvS2_1n, ↓lvS2_1i, ↓lvS2_1r, ↓lvS2_s, ↓du1_i, ↓du1_r, ↓du2_ir, pu, optW_s, gW_s, gW_0, ixW_z, brW_T, brW_F, brW_n, ↓aldW_r, ↓aldW_f, ↓pfdW_c, ↓ivSW0, ↓ivSW1, ↓ivSW2, ↓ivSW3, ↓ivSW4, ↓ivSW5, ↓ivSW6, ↓ivVW0, ↓ivVW1, ↓ivVW2, ↓ivVW3, ↓ivVW4, ↓ivVW5, ↓ivVW6, mOW, mAJW, mA0W, mA1W, mA2W, mA3W, mA4W, mA5W, mA6W, mA7W, mA8W, mA9W, mA10W, mA11W, mA12W, mA13W, mA14W, mA15W, ↓e153_0, ↓g153_1, ↓e153_4, ↓g153_5, ↓e153_8, ↓g153_10, ↓e153_13, ↓e153_14, ↓g153_15, ↓e153_18, ↓e153_19, ↓e153_20, ↓e153_21, ↓g153_22, ↓g153_25, ↓e153_26, ↓g153_27, ↓e153_30, ↓e153_31, ↓g153_33, ↓g153_36, ↓e153_39, ↓e153_40, ↓g153_41, ↓g153_44, ↓e153_47, ↓e153_48, ↓e153_51, ↓e153_52, true_and, and_true, true_or, or_true, false_or, or_false, Option.some.injEq, reduceCtorEq, ↓b01_ok, br_not, Nat.reduceLeDiff, Nat.zero_le, List.length_cons, List.length_nil, List.set_cons_succ, List.set_cons_zero, pv_i, pv_r, tn_n, tn_a2, tn_m2, Int.reduceToNat, upd_s, br_T, br_F, reduceIte, Nat.reduceEqDiff, Nat.reduceAdd, Int.reduceNeg, eq_self, upS_1, upS_2, upA_1, upA_2, if_true, if_false, ↓rtb0, ↓rtb1, i_zero, b01_z, b01_o, i_10, i_01, not_true_eq_false, not_false_eq_true, Bool.false_eq_true, Int.le_refl, Int.add_zero, Int.zero_add, upA_upA, upS_upS, false_and, and_false, i_sm1, Nat.lt_irrefl, Int.lt_irrefl, Int.reduceEq, Int.cast_ofNat_Int, Int.reduceSub, Int.reduceAdd, Int.reduceMul, Int.reduceLE, Int.reduceLT, Nat.reduceLT, nAJ, nA0, nA1, nA2, nA3, nA4, nA5, nA6, nA7, nA8, nA9, nA10, nA11, nA12, nA13, nA14, nA15, nSx, setM_s, setM_u, setM_A, setM_r, upS_A, setM_0, setM_1, setM_2, setM_3, setM_4, setM_5, setM_6, setM_7, setM_8, setM_9, setM_10, setM_11, setM_12, setM_t0, setM_t1, setM_t2, setM_t3, setM_t4, setM_t5, setM_t6, setM_t7, setM_t8, setM_t9, setM_t10, setM_t11, setM_t12, d1]
    refine kv1 hP rfl (hOM hb) (by simp) (q152 (f := 1) (by omega) hb) ?_
    rintro _ _ ⟨rfl, rfl⟩
    show P 18 _ _ _
    refine runT hP [] 100 ?_
    simp (implicitDefEqProofs := false) (dsimp := false) (disch := omega) only [↓exT_s, ↓sel_nil, ↓sel_eq, ↓sel_no, ↓tI_c, ↓tJ_c, ↓tR_c, ↓ldI_0, ↓ldI_s, ↓ldJ_0, ↓ldJ_s, ↓ldR_0, ↓ldR_f, ↓ldR_s, ↓lvS_0, ↓lvS_1n, ↓lvS_1i, ↓lvS_1r, ↓lvS_1f, ↓lvS_s, ↓lvS2_0, ↓lvS2_1n, ↓lvS2_1i, ↓lvS2_1r, ↓lvS2_s, ↓du1_i, ↓du1_r, ↓du2_ir, pu, optW_s, gW_s, gW_0, ixW_z, brW_T, brW_F, brW_n, ↓aldW_r, ↓aldW_f, ↓pfdW_c, ↓ivSW0, ↓ivSW1, ↓ivSW2, ↓ivSW3, ↓ivSW4, ↓ivSW5, ↓ivSW6, ↓ivVW0, ↓ivVW1, ↓ivVW2, ↓ivVW3, ↓ivVW4, ↓ivVW5, ↓ivVW6, mOW, mAJW, mA0W, mA1W, mA2W, mA3W, mA4W, mA5W, mA6W, mA7W, mA8W, mA9W, mA10W, mA11W, mA12W, mA13W, mA14W, mA15W, ↓e153_0, ↓g153_1, ↓e153_4, ↓g153_5, ↓e153_8, ↓g153_10, ↓e153_13, ↓e153_14, ↓g153_15, ↓e153_18, ↓e153_19, ↓e153_20, ↓e153_21, ↓g153_22, ↓g153_25, ↓e153_26, ↓g153_27, ↓e153_30, ↓e153_31, ↓g153_33, ↓g153_36, ↓e153_39, ↓e153_40, ↓g153_41, ↓g153_44, ↓e153_47, ↓e153_48, ↓e153_51, ↓e153_52, true_and, and_true, true_or, or_true, false_or, or_false, Option.some.injEq, reduceCtorEq, ↓b01_ok, br_not, Nat.reduceLeDiff, Nat.zero_le, List.length_cons, List.length_nil, List.set_cons_succ, List.set_cons_zero, pv_i, pv_r, tn_n, tn_a2, tn_m2, Int.reduceToNat, upd_s, br_T, br_F, reduceIte, Nat.reduceEqDiff, Nat.reduceAdd, Int.reduceNeg, eq_self, upS_1, upS_2, upA_1, upA_2, if_true, if_false, ↓rtb0, ↓rtb1, i_zero, b01_z, b01_o, i_10, i_01, not_true_eq_false, not_false_eq_true, Bool.false_eq_true, Int.le_refl, Int.add_zero, Int.zero_add, upA_upA, upS_upS, false_and, and_false, i_sm1, Nat.lt_irrefl, Int.lt_irrefl, Int.reduceEq, Int.cast_ofNat_Int, Int.reduceSub, Int.reduceAdd, Int.reduceMul, Int.reduceLE, Int.reduceLT, Nat.reduceLT, nAJ, nA0, nA1, nA2, nA3, nA4, nA5, nA6, nA7, nA8, nA9, nA10, nA11, nA12, nA13, nA14, nA15, nSx, setM_s, setM_u, setM_A, setM_r, upS_A, setM_0, setM_1, setM_2, setM_3, setM_4, setM_5, setM_6, setM_7, setM_8, setM_9, setM_10, setM_11, setM_12, setM_t0, setM_t1, setM_t2, setM_t3, setM_t4, setM_t5, setM_t6, setM_t7, setM_t8, setM_t9, setM_t10, setM_t11, setM_t12]
    exact ⟨_, rfl, frQ_tr f1 (frQ_S (by omega)), rfl, a5, fun q => re.1 q⟩
  have good : ∀ v q : Nat, v < 1000 → nuR T p lo hi = chk v q lo hi → m1.1 3 = Int32.ofInt 48 → m1.1 2 = Int32.ofInt (q : Int) → m1.1 4 = Int32.ofInt (v : Int) → P 4 [some (.ref b), some (.ref (b + (J + 1))), some (.int (Int32.ofInt (pl : Int))), some (.int (Int32.ofInt lo)), some (.int (Int32.ofInt hi))] [] (putM h b m1) := by
    intro v q hv e1 e2 e3 e4
    have d1 : (m1.1 3 = Int32.ofInt 48) = True := eq_true e2
    by_cases c2 : lo ≤ (v : Int) ∧ (v : Int) ≤ hi
    · have d2 : (lo ≤ (v : Int) ∧ (v : Int) ≤ hi) = True := eq_true c2
      rw [e1, show chk v q lo hi = .inr (v, q) by unfold chk; rw [if_pos c2]] at hP
      rcases hJ with ⟨rfl, hpl⟩ | ⟨rfl, hpl⟩
      · refine runF (cl2_ok (by omega)) hP [] 100 ?_
        simp (implicitDefEqProofs := false) (dsimp := false) (disch := omega) only [↓exT_s, ↓sel_nil, ↓sel_eq, ↓sel_no, ↓tI_c, ↓tJ_c, ↓tR_c, ↓ldI_0, ↓ldI_s, ↓ldJ_0, ↓ldJ_s, ↓ldR_0, ↓ldR_f, ↓ldR_s, ↓lvS_0, ↓lvS_1n, ↓lvS_1i, ↓lvS_1r, ↓lvS_1f, ↓lvS_s, ↓lvS2_0, ↓lvS2_1n, ↓lvS2_1i, ↓lvS2_1r, ↓lvS2_s, ↓du1_i, ↓du1_r, ↓du2_ir, pu, optW_s, gW_s, gW_0, ixW_z, brW_T, brW_F, brW_n, ↓aldW_r, ↓aldW_f, ↓pfdW_c, ↓ivSW0, ↓ivSW1, ↓ivSW2, ↓ivSW3, ↓ivSW4, ↓ivSW5, ↓ivSW6, ↓ivVW0, ↓ivVW1, ↓ivVW2, ↓ivVW3, ↓ivVW4, ↓ivVW5, ↓ivVW6, y2_131W, y2_132W, y2_135W, y2_136W, y2_165W, y2_89W, y2_79W, y2_141W, y2_76W, y2_150W, y2_191W, y2_168W, y2_16W, y2_17W, y2_18W, y2_19W, y2_20W, y2_162W, y2_163W, y2_164W, y2_180W, mOW, mAJW, mA0W, mA1W, mA2W, mA3W, mA4W, mA5W, mA6W, mA7W, mA8W, mA9W, mA10W, mA11W, mA12W, mA13W, mA14W, mA15W, ↓e153_0, ↓g153_1, ↓e153_4, ↓g153_5, ↓e153_8, ↓g153_10, ↓e153_13, ↓e153_14, ↓g153_15, ↓e153_18, ↓e153_19, ↓e153_20, ↓e153_21, ↓g153_22, ↓g153_25, ↓e153_26, ↓g153_27, ↓e153_30, ↓e153_31, ↓g153_33, ↓g153_36, ↓e153_39, ↓e153_40, ↓g153_41, ↓g153_44, ↓e153_47, ↓e153_48, ↓e153_51, ↓e153_52, true_and, and_true, true_or, or_true, false_or, or_false, Option.some.injEq, reduceCtorEq, ↓b01_ok, br_not, Nat.reduceLeDiff, Nat.zero_le, List.length_cons, List.length_nil, List.set_cons_succ, List.set_cons_zero, pv_i, pv_r, tn_n, tn_a2, tn_m2, Int.reduceToNat, upd_s, br_T, br_F, reduceIte, Nat.reduceEqDiff, Nat.reduceAdd, Int.reduceNeg, eq_self, upS_1, upS_2, upA_1, upA_2, if_true, if_false, ↓rtb0, ↓rtb1, i_zero, b01_z, b01_o, i_10, i_01, not_true_eq_false, not_false_eq_true, Bool.false_eq_true, Int.le_refl, Int.add_zero, Int.zero_add, upA_upA, upS_upS, false_and, and_false, i_sm1, Nat.lt_irrefl, Int.lt_irrefl, Int.reduceEq, Int.cast_ofNat_Int, Int.reduceSub, Int.reduceAdd, Int.reduceMul, Int.reduceLE, Int.reduceLT, Nat.reduceLT, nAJ, nA0, nA1, nA2, nA3, nA4, nA5, nA6, nA7, nA8, nA9, nA10, nA11, nA12, nA13, nA14, nA15, nSx, setM_s, setM_u, setM_A, setM_r, upS_A, setM_0, setM_1, setM_2, setM_3, setM_4, setM_5, setM_6, setM_7, setM_8, setM_9, setM_10, setM_11, setM_12, setM_t0, setM_t1, setM_t2, setM_t3, setM_t4, setM_t5, setM_t6, setM_t7, setM_t8, setM_t9, setM_t10, setM_t11, setM_t12, d1, e4, i_le, d2]
        refine ⟨_, rfl, frQ_tr f1 (frQ_A (.inl rfl)), e3, ?_⟩
        show (upA m1 4 (upd (m1.2 4) pl (Int32.ofInt (v : Int)))).2 = _
        unfold upA
        rw [a1]
      · refine runF (cl2_ok (by omega)) hP [] 100 ?_
        simp (implicitDefEqProofs := false) (dsimp := false) (disch := omega) only [↓exT_s, ↓sel_nil, ↓sel_eq, ↓sel_no, ↓tI_c, ↓tJ_c, ↓tR_c, ↓ldI_0, ↓ldI_s, ↓ldJ_0, ↓ldJ_s, ↓ldR_0, ↓ldR_f, ↓ldR_s, ↓lvS_0, ↓lvS_1n, ↓lvS_1i, ↓lvS_1r, ↓lvS_1f, ↓lvS_s, ↓lvS2_0, ↓lvS2_1n, ↓lvS2_1i, ↓lvS2_1r, ↓lvS2_s, ↓du1_i, ↓du1_r, ↓du2_ir, pu, optW_s, gW_s, gW_0, ixW_z, brW_T, brW_F, brW_n, ↓aldW_r, ↓aldW_f, ↓pfdW_c, ↓ivSW0, ↓ivSW1, ↓ivSW2, ↓ivSW3, ↓ivSW4, ↓ivSW5, ↓ivSW6, ↓ivVW0, ↓ivVW1, ↓ivVW2, ↓ivVW3, ↓ivVW4, ↓ivVW5, ↓ivVW6, y2_131W, y2_132W, y2_135W, y2_136W, y2_165W, y2_89W, y2_79W, y2_141W, y2_76W, y2_150W, y2_191W, y2_168W, y2_16W, y2_17W, y2_18W, y2_19W, y2_20W, y2_162W, y2_163W, y2_164W, y2_180W, mOW, mAJW, mA0W, mA1W, mA2W, mA3W, mA4W, mA5W, mA6W, mA7W, mA8W, mA9W, mA10W, mA11W, mA12W, mA13W, mA14W, mA15W, ↓e153_0, ↓g153_1, ↓e153_4, ↓g153_5, ↓e153_8, ↓g153_10, ↓e153_13, ↓e153_14, ↓g153_15, ↓e153_18, ↓e153_19, ↓e153_20, ↓e153_21, ↓g153_22, ↓g153_25, ↓e153_26, ↓g153_27, ↓e153_30, ↓e153_31, ↓g153_33, ↓g153_36, ↓e153_39, ↓e153_40, ↓g153_41, ↓g153_44, ↓e153_47, ↓e153_48, ↓e153_51, ↓e153_52, true_and, and_true, true_or, or_true, false_or, or_false, Option.some.injEq, reduceCtorEq, ↓b01_ok, br_not, Nat.reduceLeDiff, Nat.zero_le, List.length_cons, List.length_nil, List.set_cons_succ, List.set_cons_zero, pv_i, pv_r, tn_n, tn_a2, tn_m2, Int.reduceToNat, upd_s, br_T, br_F, reduceIte, Nat.reduceEqDiff, Nat.reduceAdd, Int.reduceNeg, eq_self, upS_1, upS_2, upA_1, upA_2, if_true, if_false, ↓rtb0, ↓rtb1, i_zero, b01_z, b01_o, i_10, i_01, not_true_eq_false, not_false_eq_true, Bool.false_eq_true, Int.le_refl, Int.add_zero, Int.zero_add, upA_upA, upS_upS, false_and, and_false, i_sm1, Nat.lt_irrefl, Int.lt_irrefl, Int.reduceEq, Int.cast_ofNat_Int, Int.reduceSub, Int.reduceAdd, Int.reduceMul, Int.reduceLE, Int.reduceLT, Nat.reduceLT, nAJ, nA0, nA1, nA2, nA3, nA4, nA5, nA6, nA7, nA8, nA9, nA10, nA11, nA12, nA13, nA14, nA15, nSx, setM_s, setM_u, setM_A, setM_r, upS_A, setM_0, setM_1, setM_2, setM_3, setM_4, setM_5, setM_6, setM_7, setM_8, setM_9, setM_10, setM_11, setM_12, setM_t0, setM_t1, setM_t2, setM_t3, setM_t4, setM_t5, setM_t6, setM_t7, setM_t8, setM_t9, setM_t10, setM_t11, setM_t12, d1, e4, i_le, d2]
        refine ⟨_, rfl, frQ_tr f1 (frQ_A (.inr rfl)), e3, ?_⟩
        show (upA m1 5 (upd (m1.2 5) pl (Int32.ofInt (v : Int)))).2 = _
        unfold upA
        rw [a1]
    · have d2 : (lo ≤ (v : Int) ∧ (v : Int) ≤ hi) = False := eq_false c2
      rw [e1, show chk v q lo hi = .inl 2 by unfold chk; rw [if_neg c2]] at hP
      rcases hJ with ⟨rfl, hpl⟩ | ⟨rfl, hpl⟩
      · refine runF (cl2_ok (by omega)) hP [41] 100 ?_
        simp (implicitDefEqProofs := false) (dsimp := false) (disch := omega) only [↓exT_s, ↓sel_nil, ↓sel_eq, ↓sel_no, ↓tI_c, ↓tJ_c, ↓tR_c, ↓ldI_0, ↓ldI_s, ↓ldJ_0, ↓ldJ_s, ↓ldR_0, ↓ldR_f, ↓ldR_s, ↓lvS_0, ↓lvS_1n, ↓lvS_1i, ↓lvS_1r, ↓lvS_1f, ↓lvS_s, ↓lvS2_0, ↓lvS2_1n, ↓lvS2_1i, ↓lvS2_1r, ↓lvS2_s, ↓du1_i, ↓du1_r, ↓du2_ir, pu, optW_s, gW_s, gW_0, ixW_z, brW_T, brW_F, brW_n, ↓aldW_r, ↓aldW_f, ↓pfdW_c, ↓ivSW0, ↓ivSW1, ↓ivSW2, ↓ivSW3, ↓ivSW4, ↓ivSW5, ↓ivSW6, ↓ivVW0, ↓ivVW1, ↓ivVW2, ↓ivVW3, ↓ivVW4, ↓ivVW5, ↓ivVW6, y2_131W, y2_132W, y2_135W, y2_136W, y2_165W, y2_89W, y2_79W, y2_141W, y2_76W, y2_150W, y2_191W, y2_168W, y2_16W, y2_17W, y2_18W, y2_19W, y2_20W, y2_162W, y2_163W, y2_164W, y2_180W, mOW, mAJW, mA0W, mA1W, mA2W, mA3W, mA4W, mA5W, mA6W, mA7W, mA8W, mA9W, mA10W, mA11W, mA12W, mA13W, mA14W, mA15W, ↓e153_0, ↓g153_1, ↓e153_4, ↓g153_5, ↓e153_8, ↓g153_10, ↓e153_13, ↓e153_14, ↓g153_15, ↓e153_18, ↓e153_19, ↓e153_20, ↓e153_21, ↓g153_22, ↓g153_25, ↓e153_26, ↓g153_27, ↓e153_30, ↓e153_31, ↓g153_33, ↓g153_36, ↓e153_39, ↓e153_40, ↓g153_41, ↓g153_44, ↓e153_47, ↓e153_48, ↓e153_51, ↓e153_52, true_and, and_true, true_or, or_true, false_or, or_false, Option.some.injEq, reduceCtorEq, ↓b01_ok, br_not, Nat.reduceLeDiff, Nat.zero_le, List.length_cons, List.length_nil, List.set_cons_succ, List.set_cons_zero, pv_i, pv_r, tn_n, tn_a2, tn_m2, Int.reduceToNat, upd_s, br_T, br_F, reduceIte, Nat.reduceEqDiff, Nat.reduceAdd, Int.reduceNeg, eq_self, upS_1, upS_2, upA_1, upA_2, if_true, if_false, ↓rtb0, ↓rtb1, i_zero, b01_z, b01_o, i_10, i_01, not_true_eq_false, not_false_eq_true, Bool.false_eq_true, Int.le_refl, Int.add_zero, Int.zero_add, upA_upA, upS_upS, false_and, and_false, i_sm1, Nat.lt_irrefl, Int.lt_irrefl, Int.reduceEq, Int.cast_ofNat_Int, Int.reduceSub, Int.reduceAdd, Int.reduceMul, Int.reduceLE, Int.reduceLT, Nat.reduceLT, nAJ, nA0, nA1, nA2, nA3, nA4, nA5, nA6, nA7, nA8, nA9, nA10, nA11, nA12, nA13, nA14, nA15, nSx, setM_s, setM_u, setM_A, setM_r, upS_A, setM_0, setM_1, setM_2, setM_3, setM_4, setM_5, setM_6, setM_7, setM_8, setM_9, setM_10, setM_11, setM_12, setM_t0, setM_t1, setM_t2, setM_t3, setM_t4, setM_t5, setM_t6, setM_t7, setM_t8, setM_t9, setM_t10, setM_t11, setM_t12, d1, e4, i_le, d2]
        refine kv1 hP rfl (hOM hb) (by simp) (q152 (f := 2) (by omega) hb) ?_
        rintro _ _ ⟨rfl, rfl⟩
        show P 44 _ _ _
        refine runF (cl2_ok (by omega)) hP [] 100 ?_
        simp (implicitDefEqProofs := false) (dsimp := false) (disch := omega) only [↓exT_s, ↓sel_nil, ↓sel_eq, ↓sel_no, ↓tI_c, ↓tJ_c, ↓tR_c, ↓ldI_0, ↓ldI_s, ↓ldJ_0, ↓ldJ_s, ↓ldR_0, ↓ldR_f, ↓ldR_s, ↓lvS_0, ↓lvS_1n, ↓lvS_1i, ↓lvS_1r, ↓lvS_1f, ↓lvS_s, ↓lvS2_0, ↓lvS2_1n, ↓lvS2_1i, ↓lvS2_1r, ↓lvS2_s, ↓du1_i, ↓du1_r, ↓du2_ir, pu, optW_s, gW_s, gW_0, ixW_z, brW_T, brW_F, brW_n, ↓aldW_r, ↓aldW_f, ↓pfdW_c, ↓ivSW0, ↓ivSW1, ↓ivSW2, ↓ivSW3, ↓ivSW4, ↓ivSW5, ↓ivSW6, ↓ivVW0, ↓ivVW1, ↓ivVW2, ↓ivVW3, ↓ivVW4, ↓ivVW5, ↓ivVW6, y2_131W, y2_132W, y2_135W, y2_136W, y2_165W, y2_89W, y2_79W, y2_141W, y2_76W, y2_150W, y2_191W, y2_168W, y2_16W, y2_17W, y2_18W, y2_19W, y2_20W, y2_162W, y2_163W, y2_164W, y2_180W, mOW, mAJW, mA0W, mA1W, mA2W, mA3W, mA4W, mA5W, mA6W, mA7W, mA8W, mA9W, mA10W, mA11W, mA12W, mA13W, mA14W, mA15W, ↓e153_0, ↓g153_1, ↓e153_4, ↓g153_5, ↓e153_8, ↓g153_10, ↓e153_13, ↓e153_14, ↓g153_15, ↓e153_18, ↓e153_19, ↓e153_20, ↓e153_21, ↓g153_22, ↓g153_25, ↓e153_26, ↓g153_27, ↓e153_30, ↓e153_31, ↓g153_33, ↓g153_36, ↓e153_39, ↓e153_40, ↓g153_41, ↓g153_44, ↓e153_47, ↓e153_48, ↓e153_51, ↓e153_52, true_and, and_true, true_or, or_true, false_or, or_false, Option.some.injEq, reduceCtorEq, ↓b01_ok, br_not, Nat.reduceLeDiff, Nat.zero_le, List.length_cons, List.length_nil, List.set_cons_succ, List.set_cons_zero, pv_i, pv_r, tn_n, tn_a2, tn_m2, Int.reduceToNat, upd_s, br_T, br_F, reduceIte, Nat.reduceEqDiff, Nat.reduceAdd, Int.reduceNeg, eq_self, upS_1, upS_2, upA_1, upA_2, if_true, if_false, ↓rtb0, ↓rtb1, i_zero, b01_z, b01_o, i_10, i_01, not_true_eq_false, not_false_eq_true, Bool.false_eq_true, Int.le_refl, Int.add_zero, Int.zero_add, upA_upA, upS_upS, false_and, and_false, i_sm1, Nat.lt_irrefl, Int.lt_irrefl, Int.reduceEq, Int.cast_ofNat_Int, Int.reduceSub, Int.reduceAdd, Int.reduceMul, Int.reduceLE, Int.reduceLT, Nat.reduceLT, nAJ, nA0, nA1, nA2, nA3, nA4, nA5, nA6, nA7, nA8, nA9, nA10, nA11, nA12, nA13, nA14, nA15, nSx, setM_s, setM_u, setM_A, setM_r, upS_A, setM_0, setM_1, setM_2, setM_3, setM_4, setM_5, setM_6, setM_7, setM_8, setM_9, setM_10, setM_11, setM_12, setM_t0, setM_t1, setM_t2, setM_t3, setM_t4, setM_t5, setM_t6, setM_t7, setM_t8, setM_t9, setM_t10, setM_t11, setM_t12]
        exact ⟨_, rfl, frQ_tr f1 (frQ_tr (frQ_A (.inl rfl)) (frQ_S (by omega))), rfl, a5, fun q => re.1 q⟩
      · refine runF (cl2_ok (by omega)) hP [41] 100 ?_
        simp (implicitDefEqProofs := false) (dsimp := false) (disch := omega) only [↓exT_s, ↓sel_nil, ↓sel_eq, ↓sel_no, ↓tI_c, ↓tJ_c, ↓tR_c, ↓ldI_0, ↓ldI_s, ↓ldJ_0, ↓ldJ_s, ↓ldR_0, ↓ldR_f, ↓ldR_s, ↓lvS_0, ↓lvS_1n, ↓lvS_1i, ↓lvS_1r, ↓lvS_1f, ↓lvS_s, ↓lvS2_0, ↓lvS2_1n, ↓lvS2_1i, ↓lvS2_1r, ↓lvS2_s, ↓du1_i, ↓du1_r, ↓du2_ir, pu, optW_s, gW_s, gW_0, ixW_z, brW_T, brW_F, brW_n, ↓aldW_r, ↓aldW_f, ↓pfdW_c, ↓ivSW0, ↓ivSW1, ↓ivSW2, ↓ivSW3, ↓ivSW4, ↓ivSW5, ↓ivSW6, ↓ivVW0, ↓ivVW1, ↓ivVW2, ↓ivVW3, ↓ivVW4, ↓ivVW5, ↓ivVW6, y2_131W, y2_132W, y2_135W, y2_136W, y2_165W, y2_89W, y2_79W, y2_141W, y2_76W, y2_150W, y2_191W, y2_168W, y2_16W, y2_17W, y2_18W, y2_19W, y2_20W, y2_162W, y2_163W, y2_164W, y2_180W, mOW, mAJW, mA0W, mA1W, mA2W, mA3W, mA4W, mA5W, mA6W, mA7W, mA8W, mA9W, mA10W, mA11W, mA12W, mA13W, mA14W, mA15W, ↓e153_0, ↓g153_1, ↓e153_4, ↓g153_5, ↓e153_8, ↓g153_10, ↓e153_13, ↓e153_14, ↓g153_15, ↓e153_18, ↓e153_19, ↓e153_20, ↓e153_21, ↓g153_22, ↓g153_25, ↓e153_26, ↓g153_27, ↓e153_30, ↓e153_31, ↓g153_33, ↓g153_36, ↓e153_39, ↓e153_40, ↓g153_41, ↓g153_44, ↓e153_47, ↓e153_48, ↓e153_51, ↓e153_52, true_and, and_true, true_or, or_true, false_or, or_false, Option.some.injEq, reduceCtorEq, ↓b01_ok, br_not, Nat.reduceLeDiff, Nat.zero_le, List.length_cons, List.length_nil, List.set_cons_succ, List.set_cons_zero, pv_i, pv_r, tn_n, tn_a2, tn_m2, Int.reduceToNat, upd_s, br_T, br_F, reduceIte, Nat.reduceEqDiff, Nat.reduceAdd, Int.reduceNeg, eq_self, upS_1, upS_2, upA_1, upA_2, if_true, if_false, ↓rtb0, ↓rtb1, i_zero, b01_z, b01_o, i_10, i_01, not_true_eq_false, not_false_eq_true, Bool.false_eq_true, Int.le_refl, Int.add_zero, Int.zero_add, upA_upA, upS_upS, false_and, and_false, i_sm1, Nat.lt_irrefl, Int.lt_irrefl, Int.reduceEq, Int.cast_ofNat_Int, Int.reduceSub, Int.reduceAdd, Int.reduceMul, Int.reduceLE, Int.reduceLT, Nat.reduceLT, nAJ, nA0, nA1, nA2, nA3, nA4, nA5, nA6, nA7, nA8, nA9, nA10, nA11, nA12, nA13, nA14, nA15, nSx, setM_s, setM_u, setM_A, setM_r, upS_A, setM_0, setM_1, setM_2, setM_3, setM_4, setM_5, setM_6, setM_7, setM_8, setM_9, setM_10, setM_11, setM_12, setM_t0, setM_t1, setM_t2, setM_t3, setM_t4, setM_t5, setM_t6, setM_t7, setM_t8, setM_t9, setM_t10, setM_t11, setM_t12, d1, e4, i_le, d2]
        refine kv1 hP rfl (hOM hb) (by simp) (q152 (f := 2) (by omega) hb) ?_
        rintro _ _ ⟨rfl, rfl⟩
        show P 44 _ _ _
        refine runF (cl2_ok (by omega)) hP [] 100 ?_
        simp (implicitDefEqProofs := false) (dsimp := false) (disch := omega) only [↓exT_s, ↓sel_nil, ↓sel_eq, ↓sel_no, ↓tI_c, ↓tJ_c, ↓tR_c, ↓ldI_0, ↓ldI_s, ↓ldJ_0, ↓ldJ_s, ↓ldR_0, ↓ldR_f, ↓ldR_s, ↓lvS_0, ↓lvS_1n, ↓lvS_1i, ↓lvS_1r, ↓lvS_1f, ↓lvS_s, ↓lvS2_0, ↓lvS2_1n, ↓lvS2_1i, ↓lvS2_1r, ↓lvS2_s, ↓du1_i, ↓du1_r, ↓du2_ir, pu, optW_s, gW_s, gW_0, ixW_z, brW_T, brW_F, brW_n, ↓aldW_r, ↓aldW_f, ↓pfdW_c, ↓ivSW0, ↓ivSW1, ↓ivSW2, ↓ivSW3, ↓ivSW4, ↓ivSW5, ↓ivSW6, ↓ivVW0, ↓ivVW1, ↓ivVW2, ↓ivVW3, ↓ivVW4, ↓ivVW5, ↓ivVW6, y2_131W, y2_132W, y2_135W, y2_136W, y2_165W, y2_89W, y2_79W, y2_141W, y2_76W, y2_150W, y2_191W, y2_168W, y2_16W, y2_17W, y2_18W, y2_19W, y2_20W, y2_162W, y2_163W, y2_164W, y2_180W, mOW, mAJW, mA0W, mA1W, mA2W, mA3W, mA4W, mA5W, mA6W, mA7W, mA8W, mA9W, mA10W, mA11W, mA12W, mA13W, mA14W, mA15W, ↓e153_0, ↓g153_1, ↓e153_4, ↓g153_5, ↓e153_8, ↓g153_10, ↓e153_13, ↓e153_14, ↓g153_15, ↓e153_18, ↓e153_19, ↓e153_20, ↓e153_21, ↓g153_22, ↓g153_25, ↓e153_26, ↓g153_27, ↓e153_30, ↓e153_31, ↓g153_33, ↓g153_36, ↓e153_39, ↓e153_40, ↓g153_41, ↓g153_44, ↓e153_47, ↓e153_48, ↓e153_51, ↓e153_52, true_and, and_true, true_or, or_true, false_or, or_false, Option.some.injEq, reduceCtorEq, ↓b01_ok, br_not, Nat.reduceLeDiff, Nat.zero_le, List.length_cons, List.length_nil, List.set_cons_succ, List.set_cons_zero, pv_i, pv_r, tn_n, tn_a2, tn_m2, Int.reduceToNat, upd_s, br_T, br_F, reduceIte, Nat.reduceEqDiff, Nat.reduceAdd, Int.reduceNeg, eq_self, upS_1, upS_2, upA_1, upA_2, if_true, if_false, ↓rtb0, ↓rtb1, i_zero, b01_z, b01_o, i_10, i_01, not_true_eq_false, not_false_eq_true, Bool.false_eq_true, Int.le_refl, Int.add_zero, Int.zero_add, upA_upA, upS_upS, false_and, and_false, i_sm1, Nat.lt_irrefl, Int.lt_irrefl, Int.reduceEq, Int.cast_ofNat_Int, Int.reduceSub, Int.reduceAdd, Int.reduceMul, Int.reduceLE, Int.reduceLT, Nat.reduceLT, nAJ, nA0, nA1, nA2, nA3, nA4, nA5, nA6, nA7, nA8, nA9, nA10, nA11, nA12, nA13, nA14, nA15, nSx, setM_s, setM_u, setM_A, setM_r, upS_A, setM_0, setM_1, setM_2, setM_3, setM_4, setM_5, setM_6, setM_7, setM_8, setM_9, setM_10, setM_11, setM_12, setM_t0, setM_t1, setM_t2, setM_t3, setM_t4, setM_t5, setM_t6, setM_t7, setM_t8, setM_t9, setM_t10, setM_t11, setM_t12]
        exact ⟨_, rfl, frQ_tr f1 (frQ_tr (frQ_A (.inr rfl)) (frQ_S (by omega))), rfl, a5, fun q => re.1 q⟩
  simp only [pu]
  have hr0 := hr
  unfold RD at hr
  by_cases c1 : p = T.1
  · rw [if_pos c1] at hr
    have f0 : fig T p = false := by simp [fig, c1]
    refine bad (by unfold nuR; rw [if_pos f0]) ?_
    rw [hr.1, i_eq (by omega) (by omega) (by omega) (by omega)]; omega
  · rw [if_neg c1] at hr
    have hlt : p < T.1 := by omega
    have h256 := ht.2 p hlt
    by_cases f0 : fig T p = false
    · rw [if_pos f0] at hr
      refine bad (by unfold nuR; rw [if_pos f0]) ?_
      have hb2 : tkc (T.2 p) = 0 ∨ tkc (T.2 p) = 44 ∨ tkc (T.2 p) = 59 ∨ (97 ≤ tkc (T.2 p) ∧ tkc (T.2 p) ≤ 122) := by unfold tkc; split <;> omega
      rw [hr.1, i_eq (by omega) (by omega) (by omega) (by omega)]; omega
    · have g0 := fig_t (T := T) (i := p) (by simpa using f0)
      rw [if_neg f0] at hr
      by_cases f1' : fig T (p + 1) = false
      · rw [if_pos f1'] at hr
        exact good _ _ (by omega) (by unfold nuR; rw [if_neg f0, if_pos f1']) hr.1 hr.2.1 hr.2.2
      · have g1 := fig_t (T := T) (i := p + 1) (by simpa using f1')
        rw [if_neg f1'] at hr
        by_cases f2 : fig T (p + 2) = false
        · rw [if_pos f2] at hr
          exact good _ _ (by omega) (by unfold nuR; rw [if_neg f0, if_neg f1', if_pos f2]) hr.1 hr.2.1 hr.2.2
        · rw [if_neg f2] at hr
          refine bad (by unfold nuR; rw [if_neg f0, if_neg f1', if_neg f2]) ?_
          rw [hr, i_eq (by omega) (by omega) (by omega) (by omega)]; omega

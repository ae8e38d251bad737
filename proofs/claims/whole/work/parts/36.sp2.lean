/-! what is known is worth; the hawks that are so; let go, called back -/
def worK (K : Kc) : Nat → Nat
  | 0 => 0
  | n + 1 => if (K.1 5).testBit n = true then worK K n + K.2 6 n else worK K n
def areK (K : Kc) (v : Nat) : Nat → Nat
  | 0 => 0
  | n + 1 => if K.2 3 n = v then areK K v n ||| 2 ^ n else areK K v n
theorem worK_le {K : Kc} : ∀ n, (∀ a, a < n → K.2 6 a ≤ 9) → worK K n ≤ 9 * n
  | 0, _ => Nat.le_refl _
  | n + 1, h => by
    have := worK_le n (fun a ha => h a (by omega))
    have := h n (by omega)
    unfold worK
    split <;> omega
theorem areK_lt {K : Kc} {v : Nat} : ∀ n, n ≤ 5 → areK K v n < 32
  | 0, _ => by show 0 < 32; omega
  | n + 1, hn => by
    have h1 := areK_lt (K := K) (v := v) n (by omega)
    unfold areK
    split
    · exact Nat.or_lt_two_pow (n := 5) h1 (Nat.pow_lt_pow_right (by omega) (by omega))
    · exact h1
theorem areK_bit {K : Kc} {v k : Nat} : ∀ n, (areK K v n).testBit k = decide (k < n ∧ K.2 3 k = v)
  | 0 => by simp [areK]
  | n + 1 => by
    unfold areK
    by_cases hk : k = n
    · subst hk
      split
      · rename_i h1
        rw [Nat.testBit_or, areK_bit k]
        simp [h1]
      · rename_i h1
        rw [areK_bit k]
        simp [h1]
    · have hc : (k < n + 1 ∧ K.2 3 k = v) = (k < n ∧ K.2 3 k = v) := by
        simp only [eq_iff_iff]
        constructor <;> rintro ⟨h1, h2⟩ <;> exact ⟨by omega, h2⟩
      simp only [hc]
      split
      · rw [Nat.testBit_or, areK_bit n, Nat.testBit_two_pow]
        simp [show ¬ n = k by omega]
      · exact areK_bit n
/-- one hawk, or those of a set below n, perched so -/
def pK1 (K : Kc) (i v : Nat) : Kc := (K.1, fun x y => if y = i ∧ (x = 2 ∨ x = 4) then 0 else if y = i ∧ x = 3 then v else K.2 x y)
def pKs (K : Kc) (s v : Nat) : Nat → Kc
  | 0 => K
  | n + 1 => if s.testBit n = true then pK1 (pKs K s v n) n v else pKs K s v n
theorem KW_pK1 {K : Kc} {i v : Nat} (hW : KW K) (hv : v ≤ 2) : KW (pK1 K i v) := by
  obtain ⟨w1, w2, w5, w6, w7, w8, w9⟩ := hW
  refine ⟨w1, w2, w5, w6, w7, fun h hh => ?_, fun a ha => ?_⟩
  · obtain ⟨g1, g3, g4, g5, g6⟩ := w8 h hh
    refine ⟨by simpa [pK1] using g1, by simpa [pK1] using g3, ?_, ?_, ?_⟩
    · show (if h = i ∧ (2 = 2 ∨ 2 = 4) then 0 else if h = i ∧ 2 = 3 then v else K.2 2 h) < K.1 0
      split
      · omega
      · split <;> omega
    · show (if h = i ∧ (3 = 2 ∨ 3 = 4) then 0 else if h = i ∧ 3 = 3 then v else K.2 3 h) ≤ 2
      split
      · omega
      · split <;> omega
    · show (if h = i ∧ (4 = 2 ∨ 4 = 4) then 0 else if h = i ∧ 4 = 3 then v else K.2 4 h) < K.1 1
      split
      · omega
      · split <;> omega
  · have := w9 a ha
    simpa [pK1] using this
theorem pKs_1 {K : Kc} {s v : Nat} : ∀ n, (pKs K s v n).1 = K.1
  | 0 => rfl
  | n + 1 => by
    unfold pKs
    split
    · exact pKs_1 n
    · exact pKs_1 n
theorem KW_pKs {K : Kc} {s v : Nat} (hW : KW K) (hv : v ≤ 2) : ∀ n, KW (pKs K s v n)
  | 0 => hW
  | n + 1 => by
    unfold pKs
    split
    · exact KW_pK1 (KW_pKs hW hv n) hv
    · exact KW_pKs hW hv n
theorem pKs_r {K : Kc} {s v : Nat} : ∀ n, (∀ h, (pKs K s v n).2 0 h = K.2 0 h) ∧ (∀ h, (pKs K s v n).2 1 h = K.2 1 h) ∧ ∀ x h, 5 ≤ x → (pKs K s v n).2 x h = K.2 x h
  | 0 => ⟨fun _ => rfl, fun _ => rfl, fun _ _ _ => rfl⟩
  | n + 1 => by
    obtain ⟨h0, h1, h5⟩ := pKs_r (K := K) (s := s) (v := v) n
    unfold pKs
    split
    · refine ⟨fun h => ?_, fun h => ?_, fun x h hx => ?_⟩
      · simp [pK1, h0]
      · simp [pK1, h1]
      · simp [pK1, show ¬ x = 2 by omega, show ¬ x = 3 by omega, show ¬ x = 4 by omega, h5 x h hx]
    · exact ⟨h0, h1, h5⟩
/-- a number's bits, below 64 -/
def popN (x : Nat) : Nat := x % 2 + x / 2 % 2 + x / 4 % 2 + x / 8 % 2 + x / 16 % 2 + x / 32 % 2
theorem popN_s : ∀ x, x < 64 → x ≠ 0 → popN x = 1 + popN (x &&& (x - 1)) := by decide +kernel
theorem popN_le : ∀ x, x < 64 → popN x ≤ 6 := by decide +kernel
theorem i_and6 : ∀ x, x < 64 → x ≠ 0 → (Int32.ofInt ((x : Nat) : Int) &&& Int32.ofInt ((x : Int) - 1)) = Int32.ofInt ((x &&& (x - 1) : Nat) : Int) := by decide +kernel
set_option maxHeartbeats 4000000 in
theorem q21 {d N S : Nat} (hd : 3 ≤ d) {h : aH} {b : Nat} {c : Cc} {K : Kc} {l : Int} (hb : b + 9 ≤ h.1) (hW : KW K) (hC : CK c K l) : aAt d N S 21 [.ref b] (putC h b c) (fun x h' => x = some (.int (Int32.ofInt (worK K (K.1 4) : Int))) ∧ h' = putC h b c) := by
  obtain ⟨⟨w1, w2⟩, ⟨w3, w4⟩, w5, w6, w7, w8, w9⟩ := hW
  obtain ⟨k0, k1, k2, k3, k4, k5, k6, kh, ka⟩ := hC
  obtain ⟨d, rfl⟩ : ∃ e, d = e + 1 := ⟨d - 1, by omega⟩
  have hd : 2 ≤ d := by omega
  refine at_in (k := 21) rfl (by simp [lg_sl, Value.category]) fun P hP => ?_
  dsimp only at hP ⊢
  simp only [entL_i, entL_r, entL_l, entL_n, List.replicate]
  refine runF (cl2_ok (by omega)) hP [4] 100 ?_
  simp (implicitDefEqProofs := false) (dsimp := false) (disch := omega) only [↓exT_s, ↓sel_nil, ↓sel_eq, ↓sel_no, ↓tI_c, ↓tJ_c, ↓tR_c, ↓ldI_0, ↓ldI_s, ↓ldJ_0, ↓ldJ_s, ↓ldR_0, ↓ldR_f, ↓ldR_s, ↓lvS_0, ↓lvS_1n, ↓lvS_1i, ↓lvS_1r, ↓lvS_1f, ↓lvS_s, ↓lvS2_0, ↓lvS2_1n, ↓lvS2_1i, ↓lvS2_1r, ↓lvS2_s, ↓du1_i, ↓du1_r, ↓du2_ir, pu, optW_s, gW_s, gW_0, ixW_z, brW_T, brW_F, brW_n, ↓aldW_r, ↓aldW_f, ↓pfdW_c, ↓ivSW0, ↓ivSW1, ↓ivSW2, ↓ivSW3, ↓ivSW4, ↓ivSW5, ↓ivSW6, ↓ivVW0, ↓ivVW1, ↓ivVW2, ↓ivVW3, ↓ivVW4, ↓ivVW5, ↓ivVW6, y2_131W, y2_132W, y2_135W, y2_136W, y2_165W, y2_89W, y2_79W, y2_141W, y2_76W, y2_150W, y2_191W, y2_168W, y2_16W, y2_17W, y2_18W, y2_19W, y2_20W, y2_162W, y2_163W, y2_164W, y2_180W, pOW, pA0W, pA1W, pA2W, pA3W, pA4W, pA5W, pA6W, pA7W, ↓e21_0, ↓e21_1, ↓e21_2, ↓e21_3, ↓e21_4, ↓e21_5, ↓g21_6, ↓g21_9, ↓e21_12, ↓e21_13, ↓e21_14, ↓g21_15, ↓g21_18, ↓e21_21, ↓g21_22, ↓e21_25, ↓g21_26, ↓e21_27, ↓e21_30, ↓e21_31, ↓e21_32, ↓e21_33, ↓e21_36, ↓e21_39, ↓e21_40, true_and, and_true, true_or, or_true, false_or, or_false, Option.some.injEq, reduceCtorEq, ↓b01_ok, br_not, Nat.reduceLeDiff, Nat.zero_le, List.length_cons, List.length_nil, List.set_cons_succ, List.set_cons_zero, pv_i, pv_r, tn_n, tn_a2, tn_m2, Int.reduceToNat, upd_s, br_T, br_F, reduceIte, Nat.reduceEqDiff, Nat.reduceAdd, Int.reduceNeg, eq_self, upS_1, upS_2, upA_1, upA_2, if_true, if_false, ↓rtb0, ↓rtb1, i_zero, b01_z, b01_o, i_10, i_01, not_true_eq_false, not_false_eq_true, Bool.false_eq_true, Int.le_refl, Int.add_zero, Int.zero_add, upA_upA, upS_upS, false_and, and_false, i_sm1, Nat.lt_irrefl, Int.lt_irrefl, Int.reduceEq, Int.cast_ofNat_Int, Int.reduceSub, Int.reduceAdd, Int.reduceMul, Int.reduceLE, Int.reduceLT, Nat.reduceLT, wA0, wA1, wA2, wA3, wA4, wA5, wA6, wA7, wSx, setC_s, setC_u, setC_A, setC_r, upS_A, setC_0, setC_1, setC_2, setC_3, setC_4, setC_5, setC_6, setC_t0, setC_t1, setC_t2, setC_t3, setC_t4, setC_t5, setC_t6]
  suffices hs : ∀ (fuel i : Nat), i + fuel = K.1 4 → P 4 [some (.ref b), some (.int (Int32.ofInt (worK K i : Int))), some (.int (Int32.ofInt (i : Int)))] [] (putC h b c) from hs (K.1 4) 0 (by omega)
  intro fuel
  induction fuel with
  | zero =>
    intro i hi
    obtain rfl : i = K.1 4 := by omega
    refine runF (cl2_ok (by omega)) hP [4] 100 ?_
    simp (implicitDefEqProofs := false) (dsimp := false) (disch := omega) only [↓exT_s, ↓sel_nil, ↓sel_eq, ↓sel_no, ↓tI_c, ↓tJ_c, ↓tR_c, ↓ldI_0, ↓ldI_s, ↓ldJ_0, ↓ldJ_s, ↓ldR_0, ↓ldR_f, ↓ldR_s, ↓lvS_0, ↓lvS_1n, ↓lvS_1i, ↓lvS_1r, ↓lvS_1f, ↓lvS_s, ↓lvS2_0, ↓lvS2_1n, ↓lvS2_1i, ↓lvS2_1r, ↓lvS2_s, ↓du1_i, ↓du1_r, ↓du2_ir, pu, optW_s, gW_s, gW_0, ixW_z, brW_T, brW_F, brW_n, ↓aldW_r, ↓aldW_f, ↓pfdW_c, ↓ivSW0, ↓ivSW1, ↓ivSW2, ↓ivSW3, ↓ivSW4, ↓ivSW5, ↓ivSW6, ↓ivVW0, ↓ivVW1, ↓ivVW2, ↓ivVW3, ↓ivVW4, ↓ivVW5, ↓ivVW6, y2_131W, y2_132W, y2_135W, y2_136W, y2_165W, y2_89W, y2_79W, y2_141W, y2_76W, y2_150W, y2_191W, y2_168W, y2_16W, y2_17W, y2_18W, y2_19W, y2_20W, y2_162W, y2_163W, y2_164W, y2_180W, pOW, pA0W, pA1W, pA2W, pA3W, pA4W, pA5W, pA6W, pA7W, ↓e21_0, ↓e21_1, ↓e21_2, ↓e21_3, ↓e21_4, ↓e21_5, ↓g21_6, ↓g21_9, ↓e21_12, ↓e21_13, ↓e21_14, ↓g21_15, ↓g21_18, ↓e21_21, ↓g21_22, ↓e21_25, ↓g21_26, ↓e21_27, ↓e21_30, ↓e21_31, ↓e21_32, ↓e21_33, ↓e21_36, ↓e21_39, ↓e21_40, true_and, and_true, true_or, or_true, false_or, or_false, Option.some.injEq, reduceCtorEq, ↓b01_ok, br_not, Nat.reduceLeDiff, Nat.zero_le, List.length_cons, List.length_nil, List.set_cons_succ, List.set_cons_zero, pv_i, pv_r, tn_n, tn_a2, tn_m2, Int.reduceToNat, upd_s, br_T, br_F, reduceIte, Nat.reduceEqDiff, Nat.reduceAdd, Int.reduceNeg, eq_self, upS_1, upS_2, upA_1, upA_2, if_true, if_false, ↓rtb0, ↓rtb1, i_zero, b01_z, b01_o, i_10, i_01, not_true_eq_false, not_false_eq_true, Bool.false_eq_true, Int.le_refl, Int.add_zero, Int.zero_add, upA_upA, upS_upS, false_and, and_false, i_sm1, Nat.lt_irrefl, Int.lt_irrefl, Int.reduceEq, Int.cast_ofNat_Int, Int.reduceSub, Int.reduceAdd, Int.reduceMul, Int.reduceLE, Int.reduceLT, Nat.reduceLT, wA0, wA1, wA2, wA3, wA4, wA5, wA6, wA7, wSx, setC_s, setC_u, setC_A, setC_r, upS_A, setC_0, setC_1, setC_2, setC_3, setC_4, setC_5, setC_6, setC_t0, setC_t1, setC_t2, setC_t3, setC_t4, setC_t5, setC_t6, k4, i_le]
  | succ n ih =>
    intro i hi
    have hi6 : i < K.1 4 := by omega
    obtain ⟨p1, p2, p3⟩ := ka i hi6
    have hge : ((K.1 4 : Int) ≤ (i : Int)) = False := eq_false (by omega)
    have ih' := ih (i + 1) (by omega)
    by_cases hk : (K.1 5).testBit i = true
    · have e1 : worK K (i + 1) = worK K i + K.2 6 i := by simp [worK, hk]
      rw [e1] at ih'
      refine runF (cl2_ok (by omega)) hP [4] 100 ?_
      simp (implicitDefEqProofs := false) (dsimp := false) (disch := omega) only [↓exT_s, ↓sel_nil, ↓sel_eq, ↓sel_no, ↓tI_c, ↓tJ_c, ↓tR_c, ↓ldI_0, ↓ldI_s, ↓ldJ_0, ↓ldJ_s, ↓ldR_0, ↓ldR_f, ↓ldR_s, ↓lvS_0, ↓lvS_1n, ↓lvS_1i, ↓lvS_1r, ↓lvS_1f, ↓lvS_s, ↓lvS2_0, ↓lvS2_1n, ↓lvS2_1i, ↓lvS2_1r, ↓lvS2_s, ↓du1_i, ↓du1_r, ↓du2_ir, pu, optW_s, gW_s, gW_0, ixW_z, brW_T, brW_F, brW_n, ↓aldW_r, ↓aldW_f, ↓pfdW_c, ↓ivSW0, ↓ivSW1, ↓ivSW2, ↓ivSW3, ↓ivSW4, ↓ivSW5, ↓ivSW6, ↓ivVW0, ↓ivVW1, ↓ivVW2, ↓ivVW3, ↓ivVW4, ↓ivVW5, ↓ivVW6, y2_131W, y2_132W, y2_135W, y2_136W, y2_165W, y2_89W, y2_79W, y2_141W, y2_76W, y2_150W, y2_191W, y2_168W, y2_16W, y2_17W, y2_18W, y2_19W, y2_20W, y2_162W, y2_163W, y2_164W, y2_180W, pOW, pA0W, pA1W, pA2W, pA3W, pA4W, pA5W, pA6W, pA7W, ↓e21_0, ↓e21_1, ↓e21_2, ↓e21_3, ↓e21_4, ↓e21_5, ↓g21_6, ↓g21_9, ↓e21_12, ↓e21_13, ↓e21_14, ↓g21_15, ↓g21_18, ↓e21_21, ↓g21_22, ↓e21_25, ↓g21_26, ↓e21_27, ↓e21_30, ↓e21_31, ↓e21_32, ↓e21_33, ↓e21_36, ↓e21_39, ↓e21_40, true_and, and_true, true_or, or_true, false_or, or_false, Option.some.injEq, reduceCtorEq, ↓b01_ok, br_not, Nat.reduceLeDiff, Nat.zero_le, List.length_cons, List.length_nil, List.set_cons_succ, List.set_cons_zero, pv_i, pv_r, tn_n, tn_a2, tn_m2, Int.reduceToNat, upd_s, br_T, br_F, reduceIte, Nat.reduceEqDiff, Nat.reduceAdd, Int.reduceNeg, eq_self, upS_1, upS_2, upA_1, upA_2, if_true, if_false, ↓rtb0, ↓rtb1, i_zero, b01_z, b01_o, i_10, i_01, not_true_eq_false, not_false_eq_true, Bool.false_eq_true, Int.le_refl, Int.add_zero, Int.zero_add, upA_upA, upS_upS, false_and, and_false, i_sm1, Nat.lt_irrefl, Int.lt_irrefl, Int.reduceEq, Int.cast_ofNat_Int, Int.reduceSub, Int.reduceAdd, Int.reduceMul, Int.reduceLE, Int.reduceLT, Nat.reduceLT, wA0, wA1, wA2, wA3, wA4, wA5, wA6, wA7, wSx, setC_s, setC_u, setC_A, setC_r, upS_A, setC_0, setC_1, setC_2, setC_3, setC_4, setC_5, setC_6, setC_t0, setC_t1, setC_t2, setC_t3, setC_t4, setC_t5, setC_t6, k4, i_le, hge, k5, i_bit, hk, p2, i_add]
      exact ih'
    · have e1 : worK K (i + 1) = worK K i := by simp [worK, hk]
      rw [e1] at ih'
      refine runF (cl2_ok (by omega)) hP [4] 100 ?_
      simp (implicitDefEqProofs := false) (dsimp := false) (disch := omega) only [↓exT_s, ↓sel_nil, ↓sel_eq, ↓sel_no, ↓tI_c, ↓tJ_c, ↓tR_c, ↓ldI_0, ↓ldI_s, ↓ldJ_0, ↓ldJ_s, ↓ldR_0, ↓ldR_f, ↓ldR_s, ↓lvS_0, ↓lvS_1n, ↓lvS_1i, ↓lvS_1r, ↓lvS_1f, ↓lvS_s, ↓lvS2_0, ↓lvS2_1n, ↓lvS2_1i, ↓lvS2_1r, ↓lvS2_s, ↓du1_i, ↓du1_r, ↓du2_ir, pu, optW_s, gW_s, gW_0, ixW_z, brW_T, brW_F, brW_n, ↓aldW_r, ↓aldW_f, ↓pfdW_c, ↓ivSW0, ↓ivSW1, ↓ivSW2, ↓ivSW3, ↓ivSW4, ↓ivSW5, ↓ivSW6, ↓ivVW0, ↓ivVW1, ↓ivVW2, ↓ivVW3, ↓ivVW4, ↓ivVW5, ↓ivVW6, y2_131W, y2_132W, y2_135W, y2_136W, y2_165W, y2_89W, y2_79W, y2_141W, y2_76W, y2_150W, y2_191W, y2_168W, y2_16W, y2_17W, y2_18W, y2_19W, y2_20W, y2_162W, y2_163W, y2_164W, y2_180W, pOW, pA0W, pA1W, pA2W, pA3W, pA4W, pA5W, pA6W, pA7W, ↓e21_0, ↓e21_1, ↓e21_2, ↓e21_3, ↓e21_4, ↓e21_5, ↓g21_6, ↓g21_9, ↓e21_12, ↓e21_13, ↓e21_14, ↓g21_15, ↓g21_18, ↓e21_21, ↓g21_22, ↓e21_25, ↓g21_26, ↓e21_27, ↓e21_30, ↓e21_31, ↓e21_32, ↓e21_33, ↓e21_36, ↓e21_39, ↓e21_40, true_and, and_true, true_or, or_true, false_or, or_false, Option.some.injEq, reduceCtorEq, ↓b01_ok, br_not, Nat.reduceLeDiff, Nat.zero_le, List.length_cons, List.length_nil, List.set_cons_succ, List.set_cons_zero, pv_i, pv_r, tn_n, tn_a2, tn_m2, Int.reduceToNat, upd_s, br_T, br_F, reduceIte, Nat.reduceEqDiff, Nat.reduceAdd, Int.reduceNeg, eq_self, upS_1, upS_2, upA_1, upA_2, if_true, if_false, ↓rtb0, ↓rtb1, i_zero, b01_z, b01_o, i_10, i_01, not_true_eq_false, not_false_eq_true, Bool.false_eq_true, Int.le_refl, Int.add_zero, Int.zero_add, upA_upA, upS_upS, false_and, and_false, i_sm1, Nat.lt_irrefl, Int.lt_irrefl, Int.reduceEq, Int.cast_ofNat_Int, Int.reduceSub, Int.reduceAdd, Int.reduceMul, Int.reduceLE, Int.reduceLT, Nat.reduceLT, wA0, wA1, wA2, wA3, wA4, wA5, wA6, wA7, wSx, setC_s, setC_u, setC_A, setC_r, upS_A, setC_0, setC_1, setC_2, setC_3, setC_4, setC_5, setC_6, setC_t0, setC_t1, setC_t2, setC_t3, setC_t4, setC_t5, setC_t6, k4, i_le, hge, k5, i_bit, hk, p2, i_add]
      exact ih'
set_option maxHeartbeats 4000000 in
theorem q22 {d N S : Nat} (hd : 3 ≤ d) {h : aH} {b : Nat} {c : Cc} {K : Kc} {l : Int} {v : Nat} (hb : b + 9 ≤ h.1) (w5 : K.1 3 ≤ 5) (hw : ∀ i, i < K.1 3 → K.2 3 i ≤ 2) (hv : v ≤ 2) (hC : CK c K l) : aAt d N S 22 [.ref b, .int (Int32.ofInt (v : Int))] (putC h b c) (fun x h' => x = some (.int (Int32.ofInt (areK K v (K.1 3) : Int))) ∧ h' = putC h b c) := by
  obtain ⟨k0, k1, k2, k3, k4, k5, k6, kh, ka⟩ := hC
  obtain ⟨d, rfl⟩ : ∃ e, d = e + 1 := ⟨d - 1, by omega⟩
  have hd : 2 ≤ d := by omega
  refine at_in (k := 22) rfl (by simp [lg_sl, Value.category]) fun P hP => ?_
  dsimp only at hP ⊢
  simp only [entL_i, entL_r, entL_l, entL_n, List.replicate]
  refine runF (cl2_ok (by omega)) hP [4] 100 ?_
  simp (implicitDefEqProofs := false) (dsimp := false) (disch := omega) only [↓exT_s, ↓sel_nil, ↓sel_eq, ↓sel_no, ↓tI_c, ↓tJ_c, ↓tR_c, ↓ldI_0, ↓ldI_s, ↓ldJ_0, ↓ldJ_s, ↓ldR_0, ↓ldR_f, ↓ldR_s, ↓lvS_0, ↓lvS_1n, ↓lvS_1i, ↓lvS_1r, ↓lvS_1f, ↓lvS_s, ↓lvS2_0, ↓lvS2_1n, ↓lvS2_1i, ↓lvS2_1r, ↓lvS2_s, ↓du1_i, ↓du1_r, ↓du2_ir, pu, optW_s, gW_s, gW_0, ixW_z, brW_T, brW_F, brW_n, ↓aldW_r, ↓aldW_f, ↓pfdW_c, ↓ivSW0, ↓ivSW1, ↓ivSW2, ↓ivSW3, ↓ivSW4, ↓ivSW5, ↓ivSW6, ↓ivVW0, ↓ivVW1, ↓ivVW2, ↓ivVW3, ↓ivVW4, ↓ivVW5, ↓ivVW6, y2_131W, y2_132W, y2_135W, y2_136W, y2_165W, y2_89W, y2_79W, y2_141W, y2_76W, y2_150W, y2_191W, y2_168W, y2_16W, y2_17W, y2_18W, y2_19W, y2_20W, y2_162W, y2_163W, y2_164W, y2_180W, pOW, pA0W, pA1W, pA2W, pA3W, pA4W, pA5W, pA6W, pA7W, ↓e22_0, ↓e22_1, ↓e22_2, ↓e22_3, ↓e22_4, ↓e22_5, ↓g22_6, ↓g22_9, ↓e22_12, ↓e22_13, ↓g22_14, ↓e22_17, ↓g22_18, ↓e22_19, ↓g22_20, ↓e22_23, ↓e22_24, ↓e22_25, ↓e22_26, ↓e22_29, ↓e22_30, ↓e22_31, ↓e22_32, ↓e22_35, ↓e22_38, ↓e22_39, true_and, and_true, true_or, or_true, false_or, or_false, Option.some.injEq, reduceCtorEq, ↓b01_ok, br_not, Nat.reduceLeDiff, Nat.zero_le, List.length_cons, List.length_nil, List.set_cons_succ, List.set_cons_zero, pv_i, pv_r, tn_n, tn_a2, tn_m2, Int.reduceToNat, upd_s, br_T, br_F, reduceIte, Nat.reduceEqDiff, Nat.reduceAdd, Int.reduceNeg, eq_self, upS_1, upS_2, upA_1, upA_2, if_true, if_false, ↓rtb0, ↓rtb1, i_zero, b01_z, b01_o, i_10, i_01, not_true_eq_false, not_false_eq_true, Bool.false_eq_true, Int.le_refl, Int.add_zero, Int.zero_add, upA_upA, upS_upS, false_and, and_false, i_sm1, Nat.lt_irrefl, Int.lt_irrefl, Int.reduceEq, Int.cast_ofNat_Int, Int.reduceSub, Int.reduceAdd, Int.reduceMul, Int.reduceLE, Int.reduceLT, Nat.reduceLT, wA0, wA1, wA2, wA3, wA4, wA5, wA6, wA7, wSx, setC_s, setC_u, setC_A, setC_r, upS_A, setC_0, setC_1, setC_2, setC_3, setC_4, setC_5, setC_6, setC_t0, setC_t1, setC_t2, setC_t3, setC_t4, setC_t5, setC_t6]
  suffices hs : ∀ (fuel i : Nat), i + fuel = K.1 3 → P 4 [some (.ref b), some (.int (Int32.ofInt (v : Int))), some (.int (Int32.ofInt (areK K v i : Int))), some (.int (Int32.ofInt (i : Int)))] [] (putC h b c) from hs (K.1 3) 0 (by omega)
  intro fuel
  induction fuel with
  | zero =>
    intro i hi
    obtain rfl : i = K.1 3 := by omega
    refine runF (cl2_ok (by omega)) hP [4] 100 ?_
    simp (implicitDefEqProofs := false) (dsimp := false) (disch := omega) only [↓exT_s, ↓sel_nil, ↓sel_eq, ↓sel_no, ↓tI_c, ↓tJ_c, ↓tR_c, ↓ldI_0, ↓ldI_s, ↓ldJ_0, ↓ldJ_s, ↓ldR_0, ↓ldR_f, ↓ldR_s, ↓lvS_0, ↓lvS_1n, ↓lvS_1i, ↓lvS_1r, ↓lvS_1f, ↓lvS_s, ↓lvS2_0, ↓lvS2_1n, ↓lvS2_1i, ↓lvS2_1r, ↓lvS2_s, ↓du1_i, ↓du1_r, ↓du2_ir, pu, optW_s, gW_s, gW_0, ixW_z, brW_T, brW_F, brW_n, ↓aldW_r, ↓aldW_f, ↓pfdW_c, ↓ivSW0, ↓ivSW1, ↓ivSW2, ↓ivSW3, ↓ivSW4, ↓ivSW5, ↓ivSW6, ↓ivVW0, ↓ivVW1, ↓ivVW2, ↓ivVW3, ↓ivVW4, ↓ivVW5, ↓ivVW6, y2_131W, y2_132W, y2_135W, y2_136W, y2_165W, y2_89W, y2_79W, y2_141W, y2_76W, y2_150W, y2_191W, y2_168W, y2_16W, y2_17W, y2_18W, y2_19W, y2_20W, y2_162W, y2_163W, y2_164W, y2_180W, pOW, pA0W, pA1W, pA2W, pA3W, pA4W, pA5W, pA6W, pA7W, ↓e22_0, ↓e22_1, ↓e22_2, ↓e22_3, ↓e22_4, ↓e22_5, ↓g22_6, ↓g22_9, ↓e22_12, ↓e22_13, ↓g22_14, ↓e22_17, ↓g22_18, ↓e22_19, ↓g22_20, ↓e22_23, ↓e22_24, ↓e22_25, ↓e22_26, ↓e22_29, ↓e22_30, ↓e22_31, ↓e22_32, ↓e22_35, ↓e22_38, ↓e22_39, true_and, and_true, true_or, or_true, false_or, or_false, Option.some.injEq, reduceCtorEq, ↓b01_ok, br_not, Nat.reduceLeDiff, Nat.zero_le, List.length_cons, List.length_nil, List.set_cons_succ, List.set_cons_zero, pv_i, pv_r, tn_n, tn_a2, tn_m2, Int.reduceToNat, upd_s, br_T, br_F, reduceIte, Nat.reduceEqDiff, Nat.reduceAdd, Int.reduceNeg, eq_self, upS_1, upS_2, upA_1, upA_2, if_true, if_false, ↓rtb0, ↓rtb1, i_zero, b01_z, b01_o, i_10, i_01, not_true_eq_false, not_false_eq_true, Bool.false_eq_true, Int.le_refl, Int.add_zero, Int.zero_add, upA_upA, upS_upS, false_and, and_false, i_sm1, Nat.lt_irrefl, Int.lt_irrefl, Int.reduceEq, Int.cast_ofNat_Int, Int.reduceSub, Int.reduceAdd, Int.reduceMul, Int.reduceLE, Int.reduceLT, Nat.reduceLT, wA0, wA1, wA2, wA3, wA4, wA5, wA6, wA7, wSx, setC_s, setC_u, setC_A, setC_r, upS_A, setC_0, setC_1, setC_2, setC_3, setC_4, setC_5, setC_6, setC_t0, setC_t1, setC_t2, setC_t3, setC_t4, setC_t5, setC_t6, k3, i_le]
  | succ n ih =>
    intro i hi
    have hi6 : i < K.1 3 := by omega
    obtain ⟨p0, p1, p2, p3, p4⟩ := kh i hi6
    have hw' := hw i hi6
    have hge : ((K.1 3 : Int) ≤ (i : Int)) = False := eq_false (by omega)
    have hal := areK_lt (K := K) (v := v) i (by omega)
    have ih' := ih (i + 1) (by omega)
    by_cases hk : K.2 3 i = v
    · have e1 : areK K v (i + 1) = areK K v i ||| 2 ^ i := by simp [areK, hk]
      rw [e1] at ih'
      have c1 : ((K.2 3 i : Int) = (v : Int)) = True := eq_true (by omega)
      refine runF (cl2_ok (by omega)) hP [4] 100 ?_
      simp (implicitDefEqProofs := false) (dsimp := false) (disch := omega) only [↓exT_s, ↓sel_nil, ↓sel_eq, ↓sel_no, ↓tI_c, ↓tJ_c, ↓tR_c, ↓ldI_0, ↓ldI_s, ↓ldJ_0, ↓ldJ_s, ↓ldR_0, ↓ldR_f, ↓ldR_s, ↓lvS_0, ↓lvS_1n, ↓lvS_1i, ↓lvS_1r, ↓lvS_1f, ↓lvS_s, ↓lvS2_0, ↓lvS2_1n, ↓lvS2_1i, ↓lvS2_1r, ↓lvS2_s, ↓du1_i, ↓du1_r, ↓du2_ir, pu, optW_s, gW_s, gW_0, ixW_z, brW_T, brW_F, brW_n, ↓aldW_r, ↓aldW_f, ↓pfdW_c, ↓ivSW0, ↓ivSW1, ↓ivSW2, ↓ivSW3, ↓ivSW4, ↓ivSW5, ↓ivSW6, ↓ivVW0, ↓ivVW1, ↓ivVW2, ↓ivVW3, ↓ivVW4, ↓ivVW5, ↓ivVW6, y2_131W, y2_132W, y2_135W, y2_136W, y2_165W, y2_89W, y2_79W, y2_141W, y2_76W, y2_150W, y2_191W, y2_168W, y2_16W, y2_17W, y2_18W, y2_19W, y2_20W, y2_162W, y2_163W, y2_164W, y2_180W, pOW, pA0W, pA1W, pA2W, pA3W, pA4W, pA5W, pA6W, pA7W, ↓e22_0, ↓e22_1, ↓e22_2, ↓e22_3, ↓e22_4, ↓e22_5, ↓g22_6, ↓g22_9, ↓e22_12, ↓e22_13, ↓g22_14, ↓e22_17, ↓g22_18, ↓e22_19, ↓g22_20, ↓e22_23, ↓e22_24, ↓e22_25, ↓e22_26, ↓e22_29, ↓e22_30, ↓e22_31, ↓e22_32, ↓e22_35, ↓e22_38, ↓e22_39, true_and, and_true, true_or, or_true, false_or, or_false, Option.some.injEq, reduceCtorEq, ↓b01_ok, br_not, Nat.reduceLeDiff, Nat.zero_le, List.length_cons, List.length_nil, List.set_cons_succ, List.set_cons_zero, pv_i, pv_r, tn_n, tn_a2, tn_m2, Int.reduceToNat, upd_s, br_T, br_F, reduceIte, Nat.reduceEqDiff, Nat.reduceAdd, Int.reduceNeg, eq_self, upS_1, upS_2, upA_1, upA_2, if_true, if_false, ↓rtb0, ↓rtb1, i_zero, b01_z, b01_o, i_10, i_01, not_true_eq_false, not_false_eq_true, Bool.false_eq_true, Int.le_refl, Int.add_zero, Int.zero_add, upA_upA, upS_upS, false_and, and_false, i_sm1, Nat.lt_irrefl, Int.lt_irrefl, Int.reduceEq, Int.cast_ofNat_Int, Int.reduceSub, Int.reduceAdd, Int.reduceMul, Int.reduceLE, Int.reduceLT, Nat.reduceLT, wA0, wA1, wA2, wA3, wA4, wA5, wA6, wA7, wSx, setC_s, setC_u, setC_A, setC_r, upS_A, setC_0, setC_1, setC_2, setC_3, setC_4, setC_5, setC_6, setC_t0, setC_t1, setC_t2, setC_t3, setC_t4, setC_t5, setC_t6, k3, i_le, hge, p3, i_eq, c1, i_orp, i_add]
      exact ih'
    · have e1 : areK K v (i + 1) = areK K v i := by simp [areK, hk]
      rw [e1] at ih'
      have c1 : ((K.2 3 i : Int) = (v : Int)) = False := eq_false (by omega)
      refine runF (cl2_ok (by omega)) hP [4] 100 ?_
      simp (implicitDefEqProofs := false) (dsimp := false) (disch := omega) only [↓exT_s, ↓sel_nil, ↓sel_eq, ↓sel_no, ↓tI_c, ↓tJ_c, ↓tR_c, ↓ldI_0, ↓ldI_s, ↓ldJ_0, ↓ldJ_s, ↓ldR_0, ↓ldR_f, ↓ldR_s, ↓lvS_0, ↓lvS_1n, ↓lvS_1i, ↓lvS_1r, ↓lvS_1f, ↓lvS_s, ↓lvS2_0, ↓lvS2_1n, ↓lvS2_1i, ↓lvS2_1r, ↓lvS2_s, ↓du1_i, ↓du1_r, ↓du2_ir, pu, optW_s, gW_s, gW_0, ixW_z, brW_T, brW_F, brW_n, ↓aldW_r, ↓aldW_f, ↓pfdW_c, ↓ivSW0, ↓ivSW1, ↓ivSW2, ↓ivSW3, ↓ivSW4, ↓ivSW5, ↓ivSW6, ↓ivVW0, ↓ivVW1, ↓ivVW2, ↓ivVW3, ↓ivVW4, ↓ivVW5, ↓ivVW6, y2_131W, y2_132W, y2_135W, y2_136W, y2_165W, y2_89W, y2_79W, y2_141W, y2_76W, y2_150W, y2_191W, y2_168W, y2_16W, y2_17W, y2_18W, y2_19W, y2_20W, y2_162W, y2_163W, y2_164W, y2_180W, pOW, pA0W, pA1W, pA2W, pA3W, pA4W, pA5W, pA6W, pA7W, ↓e22_0, ↓e22_1, ↓e22_2, ↓e22_3, ↓e22_4, ↓e22_5, ↓g22_6, ↓g22_9, ↓e22_12, ↓e22_13, ↓g22_14, ↓e22_17, ↓g22_18, ↓e22_19, ↓g22_20, ↓e22_23, ↓e22_24, ↓e22_25, ↓e22_26, ↓e22_29, ↓e22_30, ↓e22_31, ↓e22_32, ↓e22_35, ↓e22_38, ↓e22_39, true_and, and_true, true_or, or_true, false_or, or_false, Option.some.injEq, reduceCtorEq, ↓b01_ok, br_not, Nat.reduceLeDiff, Nat.zero_le, List.length_cons, List.length_nil, List.set_cons_succ, List.set_cons_zero, pv_i, pv_r, tn_n, tn_a2, tn_m2, Int.reduceToNat, upd_s, br_T, br_F, reduceIte, Nat.reduceEqDiff, Nat.reduceAdd, Int.reduceNeg, eq_self, upS_1, upS_2, upA_1, upA_2, if_true, if_false, ↓rtb0, ↓rtb1, i_zero, b01_z, b01_o, i_10, i_01, not_true_eq_false, not_false_eq_true, Bool.false_eq_true, Int.le_refl, Int.add_zero, Int.zero_add, upA_upA, upS_upS, false_and, and_false, i_sm1, Nat.lt_irrefl, Int.lt_irrefl, Int.reduceEq, Int.cast_ofNat_Int, Int.reduceSub, Int.reduceAdd, Int.reduceMul, Int.reduceLE, Int.reduceLT, Nat.reduceLT, wA0, wA1, wA2, wA3, wA4, wA5, wA6, wA7, wSx, setC_s, setC_u, setC_A, setC_r, upS_A, setC_0, setC_1, setC_2, setC_3, setC_4, setC_5, setC_6, setC_t0, setC_t1, setC_t2, setC_t3, setC_t4, setC_t5, setC_t6, k3, i_le, hge, p3, i_eq, c1, i_or0, i_add]
      exact ih'
theorem CK_p {c : Cc} {K : Kc} {l : Int} {i v : Nat} (hC : CK c K l) : CK (upA (upA (upA c 2 (upd (c.2 2) i (Int32.ofInt 0))) 3 (upd (c.2 3) i (Int32.ofInt (v : Int)))) 4 (upd (c.2 4) i (Int32.ofInt 0))) (pK1 K i v) l := by
  obtain ⟨k0, k1, k2, k3, k4, k5, k6, kh, ka⟩ := hC
  refine ⟨k0, k1, k2, k3, k4, k5, k6, fun h hh => ?_, fun a ha => ?_⟩
  · obtain ⟨p0, p1, p2, p3, p4⟩ := kh h hh
    by_cases hq : h = i
    · subst hq
      simp [upA_2, upd_s, pK1, p0, p1]
    · simp [upA_2, upd, hq, pK1, p0, p1, p2, p3, p4]
  · obtain ⟨p5, p6, p7⟩ := ka a ha
    simp [upA_2, pK1, p5, p6, p7]
set_option maxHeartbeats 4000000 in
theorem q26 {d N S : Nat} (hd : 1 ≤ d) {h : aH} {b : Nat} {c : Cc} {K : Kc} {l : Int} {i v : Nat} (hb : b + 9 ≤ h.1) (w5 : K.1 3 ≤ 5) (hi : i < K.1 3) (hC : CK c K l) : aAt d N S 26 [.ref b, .int (Int32.ofInt (i : Int)), .int (Int32.ofInt (v : Int))] (putC h b c) (fun x h' => x = none ∧ ∃ c', h' = putC h b c' ∧ CK c' (pK1 K i v) l) := by
  obtain ⟨d, rfl⟩ : ∃ e, d = e + 1 := ⟨d - 1, by omega⟩
  have hd : 0 ≤ d := by omega
  refine at_in (k := 26) rfl (by simp [lg_sl, Value.category]) fun P hP => ?_
  dsimp only at hP ⊢
  simp only [entL_i, entL_r, entL_l, entL_n, List.replicate]
  refine runT hP [] 100 ?_
  simp (implicitDefEqProofs := false) (dsimp := false) (disch := omega) only [↓exT_s, ↓sel_nil, ↓sel_eq, ↓sel_no, ↓tI_c, ↓tJ_c, ↓tR_c, ↓ldI_0, ↓ldI_s, ↓ldJ_0, ↓ldJ_s, ↓ldR_0, ↓ldR_f, ↓ldR_s, ↓lvS_0, ↓lvS_1n, ↓lvS_1i, ↓lvS_1r, ↓lvS_1f, ↓lvS_s, ↓lvS2_0, ↓lvS2_1n, ↓lvS2_1i, ↓lvS2_1r, ↓lvS2_s, ↓du1_i, ↓du1_r, ↓du2_ir, pu, optW_s, gW_s, gW_0, ixW_z, brW_T, brW_F, brW_n, ↓aldW_r, ↓aldW_f, ↓pfdW_c, ↓ivSW0, ↓ivSW1, ↓ivSW2, ↓ivSW3, ↓ivSW4, ↓ivSW5, ↓ivSW6, ↓ivVW0, ↓ivVW1, ↓ivVW2, ↓ivVW3, ↓ivVW4, ↓ivVW5, ↓ivVW6, pOW, pA0W, pA1W, pA2W, pA3W, pA4W, pA5W, pA6W, pA7W, ↓e26_0, ↓g26_1, ↓e26_4, ↓e26_5, ↓g26_6, ↓e26_7, ↓g26_8, ↓e26_11, ↓e26_12, ↓g26_13, ↓e26_14, ↓g26_15, ↓e26_18, ↓e26_19, ↓g26_20, ↓e26_21, true_and, and_true, true_or, or_true, false_or, or_false, Option.some.injEq, reduceCtorEq, ↓b01_ok, br_not, Nat.reduceLeDiff, Nat.zero_le, List.length_cons, List.length_nil, List.set_cons_succ, List.set_cons_zero, pv_i, pv_r, tn_n, tn_a2, tn_m2, Int.reduceToNat, upd_s, br_T, br_F, reduceIte, Nat.reduceEqDiff, Nat.reduceAdd, Int.reduceNeg, eq_self, upS_1, upS_2, upA_1, upA_2, if_true, if_false, ↓rtb0, ↓rtb1, i_zero, b01_z, b01_o, i_10, i_01, not_true_eq_false, not_false_eq_true, Bool.false_eq_true, Int.le_refl, Int.add_zero, Int.zero_add, upA_upA, upS_upS, false_and, and_false, i_sm1, Nat.lt_irrefl, Int.lt_irrefl, Int.reduceEq, Int.cast_ofNat_Int, Int.reduceSub, Int.reduceAdd, Int.reduceMul, Int.reduceLE, Int.reduceLT, Nat.reduceLT, wA0, wA1, wA2, wA3, wA4, wA5, wA6, wA7, wSx, setC_s, setC_u, setC_A, setC_r, upS_A, setC_0, setC_1, setC_2, setC_3, setC_4, setC_5, setC_6, setC_t0, setC_t1, setC_t2, setC_t3, setC_t4, setC_t5, setC_t6]
  exact ⟨_, rfl, CK_p hC⟩
theorem q23 {d N S : Nat} (hd : 2 ≤ d) {h : aH} {b : Nat} {c : Cc} {K : Kc} {l : Int} {i : Nat} (hb : b + 9 ≤ h.1) (w5 : K.1 3 ≤ 5) (hi : i < K.1 3) (hC : CK c K l) : aAt d N S 23 [.ref b, .int (Int32.ofInt (i : Int))] (putC h b c) (fun x h' => x = none ∧ ∃ c', h' = putC h b c' ∧ CK c' (pK1 K i 1) l) := by
  obtain ⟨d, rfl⟩ : ∃ e, d = e + 1 := ⟨d - 1, by omega⟩
  have hd : 1 ≤ d := by omega
  refine at_in (k := 23) rfl (by simp [lg_sl, Value.category]) fun P hP => ?_
  dsimp only at hP ⊢
  simp only [entL_i, entL_r, entL_l, entL_n, List.replicate]
  refine runT hP [3] 100 ?_
  simp (implicitDefEqProofs := false) (dsimp := false) (disch := omega) only [↓exT_s, ↓sel_nil, ↓sel_eq, ↓sel_no, ↓tI_c, ↓tJ_c, ↓tR_c, ↓ldI_0, ↓ldI_s, ↓ldJ_0, ↓ldJ_s, ↓ldR_0, ↓ldR_f, ↓ldR_s, ↓lvS_0, ↓lvS_1n, ↓lvS_1i, ↓lvS_1r, ↓lvS_1f, ↓lvS_s, ↓lvS2_0, ↓lvS2_1n, ↓lvS2_1i, ↓lvS2_1r, ↓lvS2_s, ↓du1_i, ↓du1_r, ↓du2_ir, pu, optW_s, gW_s, gW_0, ixW_z, brW_T, brW_F, brW_n, ↓aldW_r, ↓aldW_f, ↓pfdW_c, ↓ivSW0, ↓ivSW1, ↓ivSW2, ↓ivSW3, ↓ivSW4, ↓ivSW5, ↓ivSW6, ↓ivVW0, ↓ivVW1, ↓ivVW2, ↓ivVW3, ↓ivVW4, ↓ivVW5, ↓ivVW6, pOW, pA0W, pA1W, pA2W, pA3W, pA4W, pA5W, pA6W, pA7W, ↓e23_0, ↓e23_1, ↓e23_2, ↓g23_3, ↓e23_6, true_and, and_true, true_or, or_true, false_or, or_false, Option.some.injEq, reduceCtorEq, ↓b01_ok, br_not, Nat.reduceLeDiff, Nat.zero_le, List.length_cons, List.length_nil, List.set_cons_succ, List.set_cons_zero, pv_i, pv_r, tn_n, tn_a2, tn_m2, Int.reduceToNat, upd_s, br_T, br_F, reduceIte, Nat.reduceEqDiff, Nat.reduceAdd, Int.reduceNeg, eq_self, upS_1, upS_2, upA_1, upA_2, if_true, if_false, ↓rtb0, ↓rtb1, i_zero, b01_z, b01_o, i_10, i_01, not_true_eq_false, not_false_eq_true, Bool.false_eq_true, Int.le_refl, Int.add_zero, Int.zero_add, upA_upA, upS_upS, false_and, and_false, i_sm1, Nat.lt_irrefl, Int.lt_irrefl, Int.reduceEq, Int.cast_ofNat_Int, Int.reduceSub, Int.reduceAdd, Int.reduceMul, Int.reduceLE, Int.reduceLT, Nat.reduceLT, wA0, wA1, wA2, wA3, wA4, wA5, wA6, wA7, wSx, setC_s, setC_u, setC_A, setC_r, upS_A, setC_0, setC_1, setC_2, setC_3, setC_4, setC_5, setC_6, setC_t0, setC_t1, setC_t2, setC_t3, setC_t4, setC_t5, setC_t6]
  refine kv2 hP rfl (hOC hb) (by simp) (q26 (K := K) (v := 1) (by omega) hb w5 hi hC) ?_
  rintro _ _ ⟨rfl, c', rfl, hC'⟩
  show P 6 _ _ _
  refine runT hP [] 100 ?_
  simp (implicitDefEqProofs := false) (dsimp := false) (disch := omega) only [↓exT_s, ↓sel_nil, ↓sel_eq, ↓sel_no, ↓tI_c, ↓tJ_c, ↓tR_c, ↓ldI_0, ↓ldI_s, ↓ldJ_0, ↓ldJ_s, ↓ldR_0, ↓ldR_f, ↓ldR_s, ↓lvS_0, ↓lvS_1n, ↓lvS_1i, ↓lvS_1r, ↓lvS_1f, ↓lvS_s, ↓lvS2_0, ↓lvS2_1n, ↓lvS2_1i, ↓lvS2_1r, ↓lvS2_s, ↓du1_i, ↓du1_r, ↓du2_ir, pu, optW_s, gW_s, gW_0, ixW_z, brW_T, brW_F, brW_n, ↓aldW_r, ↓aldW_f, ↓pfdW_c, ↓ivSW0, ↓ivSW1, ↓ivSW2, ↓ivSW3, ↓ivSW4, ↓ivSW5, ↓ivSW6, ↓ivVW0, ↓ivVW1, ↓ivVW2, ↓ivVW3, ↓ivVW4, ↓ivVW5, ↓ivVW6, pOW, pA0W, pA1W, pA2W, pA3W, pA4W, pA5W, pA6W, pA7W, ↓e23_0, ↓e23_1, ↓e23_2, ↓g23_3, ↓e23_6, true_and, and_true, true_or, or_true, false_or, or_false, Option.some.injEq, reduceCtorEq, ↓b01_ok, br_not, Nat.reduceLeDiff, Nat.zero_le, List.length_cons, List.length_nil, List.set_cons_succ, List.set_cons_zero, pv_i, pv_r, tn_n, tn_a2, tn_m2, Int.reduceToNat, upd_s, br_T, br_F, reduceIte, Nat.reduceEqDiff, Nat.reduceAdd, Int.reduceNeg, eq_self, upS_1, upS_2, upA_1, upA_2, if_true, if_false, ↓rtb0, ↓rtb1, i_zero, b01_z, b01_o, i_10, i_01, not_true_eq_false, not_false_eq_true, Bool.false_eq_true, Int.le_refl, Int.add_zero, Int.zero_add, upA_upA, upS_upS, false_and, and_false, i_sm1, Nat.lt_irrefl, Int.lt_irrefl, Int.reduceEq, Int.cast_ofNat_Int, Int.reduceSub, Int.reduceAdd, Int.reduceMul, Int.reduceLE, Int.reduceLT, Nat.reduceLT, wA0, wA1, wA2, wA3, wA4, wA5, wA6, wA7, wSx, setC_s, setC_u, setC_A, setC_r, upS_A, setC_0, setC_1, setC_2, setC_3, setC_4, setC_5, setC_6, setC_t0, setC_t1, setC_t2, setC_t3, setC_t4, setC_t5, setC_t6]
  exact ⟨c', rfl, hC'⟩
theorem q24 {d N S : Nat} (hd : 2 ≤ d) {h : aH} {b : Nat} {c : Cc} {K : Kc} {l : Int} {i : Nat} (hb : b + 9 ≤ h.1) (w5 : K.1 3 ≤ 5) (hi : i < K.1 3) (hC : CK c K l) : aAt d N S 24 [.ref b, .int (Int32.ofInt (i : Int))] (putC h b c) (fun x h' => x = none ∧ ∃ c', h' = putC h b c' ∧ CK c' (pK1 K i 0) l) := by
  obtain ⟨d, rfl⟩ : ∃ e, d = e + 1 := ⟨d - 1, by omega⟩
  have hd : 1 ≤ d := by omega
  refine at_in (k := 24) rfl (by simp [lg_sl, Value.category]) fun P hP => ?_
  dsimp only at hP ⊢
  simp only [entL_i, entL_r, entL_l, entL_n, List.replicate]
  refine runT hP [3] 100 ?_
  simp (implicitDefEqProofs := false) (dsimp := false) (disch := omega) only [↓exT_s, ↓sel_nil, ↓sel_eq, ↓sel_no, ↓tI_c, ↓tJ_c, ↓tR_c, ↓ldI_0, ↓ldI_s, ↓ldJ_0, ↓ldJ_s, ↓ldR_0, ↓ldR_f, ↓ldR_s, ↓lvS_0, ↓lvS_1n, ↓lvS_1i, ↓lvS_1r, ↓lvS_1f, ↓lvS_s, ↓lvS2_0, ↓lvS2_1n, ↓lvS2_1i, ↓lvS2_1r, ↓lvS2_s, ↓du1_i, ↓du1_r, ↓du2_ir, pu, optW_s, gW_s, gW_0, ixW_z, brW_T, brW_F, brW_n, ↓aldW_r, ↓aldW_f, ↓pfdW_c, ↓ivSW0, ↓ivSW1, ↓ivSW2, ↓ivSW3, ↓ivSW4, ↓ivSW5, ↓ivSW6, ↓ivVW0, ↓ivVW1, ↓ivVW2, ↓ivVW3, ↓ivVW4, ↓ivVW5, ↓ivVW6, pOW, pA0W, pA1W, pA2W, pA3W, pA4W, pA5W, pA6W, pA7W, ↓e24_0, ↓e24_1, ↓e24_2, ↓g24_3, ↓e24_6, true_and, and_true, true_or, or_true, false_or, or_false, Option.some.injEq, reduceCtorEq, ↓b01_ok, br_not, Nat.reduceLeDiff, Nat.zero_le, List.length_cons, List.length_nil, List.set_cons_succ, List.set_cons_zero, pv_i, pv_r, tn_n, tn_a2, tn_m2, Int.reduceToNat, upd_s, br_T, br_F, reduceIte, Nat.reduceEqDiff, Nat.reduceAdd, Int.reduceNeg, eq_self, upS_1, upS_2, upA_1, upA_2, if_true, if_false, ↓rtb0, ↓rtb1, i_zero, b01_z, b01_o, i_10, i_01, not_true_eq_false, not_false_eq_true, Bool.false_eq_true, Int.le_refl, Int.add_zero, Int.zero_add, upA_upA, upS_upS, false_and, and_false, i_sm1, Nat.lt_irrefl, Int.lt_irrefl, Int.reduceEq, Int.cast_ofNat_Int, Int.reduceSub, Int.reduceAdd, Int.reduceMul, Int.reduceLE, Int.reduceLT, Nat.reduceLT, wA0, wA1, wA2, wA3, wA4, wA5, wA6, wA7, wSx, setC_s, setC_u, setC_A, setC_r, upS_A, setC_0, setC_1, setC_2, setC_3, setC_4, setC_5, setC_6, setC_t0, setC_t1, setC_t2, setC_t3, setC_t4, setC_t5, setC_t6]
  refine kv2 hP rfl (hOC hb) (by simp) (q26 (K := K) (v := 0) (by omega) hb w5 hi hC) ?_
  rintro _ _ ⟨rfl, c', rfl, hC'⟩
  show P 6 _ _ _
  refine runT hP [] 100 ?_
  simp (implicitDefEqProofs := false) (dsimp := false) (disch := omega) only [↓exT_s, ↓sel_nil, ↓sel_eq, ↓sel_no, ↓tI_c, ↓tJ_c, ↓tR_c, ↓ldI_0, ↓ldI_s, ↓ldJ_0, ↓ldJ_s, ↓ldR_0, ↓ldR_f, ↓ldR_s, ↓lvS_0, ↓lvS_1n, ↓lvS_1i, ↓lvS_1r, ↓lvS_1f, ↓lvS_s, ↓lvS2_0, ↓lvS2_1n, ↓lvS2_1i, ↓lvS2_1r, ↓lvS2_s, ↓du1_i, ↓du1_r, ↓du2_ir, pu, optW_s, gW_s, gW_0, ixW_z, brW_T, brW_F, brW_n, ↓aldW_r, ↓aldW_f, ↓pfdW_c, ↓ivSW0, ↓ivSW1, ↓ivSW2, ↓ivSW3, ↓ivSW4, ↓ivSW5, ↓ivSW6, ↓ivVW0, ↓ivVW1, ↓ivVW2, ↓ivVW3, ↓ivVW4, ↓ivVW5, ↓ivVW6, pOW, pA0W, pA1W, pA2W, pA3W, pA4W, pA5W, pA6W, pA7W, ↓e24_0, ↓e24_1, ↓e24_2, ↓g24_3, ↓e24_6, true_and, and_true, true_or, or_true, false_or, or_false, Option.some.injEq, reduceCtorEq, ↓b01_ok, br_not, Nat.reduceLeDiff, Nat.zero_le, List.length_cons, List.length_nil, List.set_cons_succ, List.set_cons_zero, pv_i, pv_r, tn_n, tn_a2, tn_m2, Int.reduceToNat, upd_s, br_T, br_F, reduceIte, Nat.reduceEqDiff, Nat.reduceAdd, Int.reduceNeg, eq_self, upS_1, upS_2, upA_1, upA_2, if_true, if_false, ↓rtb0, ↓rtb1, i_zero, b01_z, b01_o, i_10, i_01, not_true_eq_false, not_false_eq_true, Bool.false_eq_true, Int.le_refl, Int.add_zero, Int.zero_add, upA_upA, upS_upS, false_and, and_false, i_sm1, Nat.lt_irrefl, Int.lt_irrefl, Int.reduceEq, Int.cast_ofNat_Int, Int.reduceSub, Int.reduceAdd, Int.reduceMul, Int.reduceLE, Int.reduceLT, Nat.reduceLT, wA0, wA1, wA2, wA3, wA4, wA5, wA6, wA7, wSx, setC_s, setC_u, setC_A, setC_r, upS_A, setC_0, setC_1, setC_2, setC_3, setC_4, setC_5, setC_6, setC_t0, setC_t1, setC_t2, setC_t3, setC_t4, setC_t5, setC_t6]
  exact ⟨c', rfl, hC'⟩
set_option maxHeartbeats 4000000 in
theorem q25 {d N S : Nat} (hd : 3 ≤ d) {h : aH} {b : Nat} {c : Cc} {K : Kc} {l : Int} {s v : Nat} (hb : b + 9 ≤ h.1) (w5 : K.1 3 ≤ 5) (hs : s < 64) (hv : v ≤ 2) (hC : CK c K l) : aAt d N S 25 [.ref b, .int (Int32.ofInt (s : Int)), .int (Int32.ofInt (v : Int))] (putC h b c) (fun x h' => x = none ∧ ∃ c', h' = putC h b c' ∧ CK c' (pKs K s v (K.1 3)) l) := by
  obtain ⟨d, rfl⟩ : ∃ e, d = e + 1 := ⟨d - 1, by omega⟩
  have hd : 2 ≤ d := by omega
  refine at_in (k := 25) rfl (by simp [lg_sl, Value.category]) fun P hP => ?_
  dsimp only at hP ⊢
  simp only [entL_i, entL_r, entL_l, entL_n, List.replicate]
  refine runF (cl2_ok (by omega)) hP [2] 100 ?_
  simp (implicitDefEqProofs := false) (dsimp := false) (disch := omega) only [↓exT_s, ↓sel_nil, ↓sel_eq, ↓sel_no, ↓tI_c, ↓tJ_c, ↓tR_c, ↓ldI_0, ↓ldI_s, ↓ldJ_0, ↓ldJ_s, ↓ldR_0, ↓ldR_f, ↓ldR_s, ↓lvS_0, ↓lvS_1n, ↓lvS_1i, ↓lvS_1r, ↓lvS_1f, ↓lvS_s, ↓lvS2_0, ↓lvS2_1n, ↓lvS2_1i, ↓lvS2_1r, ↓lvS2_s, ↓du1_i, ↓du1_r, ↓du2_ir, pu, optW_s, gW_s, gW_0, ixW_z, brW_T, brW_F, brW_n, ↓aldW_r, ↓aldW_f, ↓pfdW_c, ↓ivSW0, ↓ivSW1, ↓ivSW2, ↓ivSW3, ↓ivSW4, ↓ivSW5, ↓ivSW6, ↓ivVW0, ↓ivVW1, ↓ivVW2, ↓ivVW3, ↓ivVW4, ↓ivVW5, ↓ivVW6, y2_131W, y2_132W, y2_135W, y2_136W, y2_165W, y2_89W, y2_79W, y2_141W, y2_76W, y2_150W, y2_191W, y2_168W, y2_16W, y2_17W, y2_18W, y2_19W, y2_20W, y2_162W, y2_163W, y2_164W, y2_180W, pOW, pA0W, pA1W, pA2W, pA3W, pA4W, pA5W, pA6W, pA7W, ↓e25_0, ↓e25_1, ↓e25_2, ↓e25_3, ↓g25_4, ↓g25_7, ↓e25_10, ↓e25_11, ↓e25_12, ↓e25_13, ↓e25_14, ↓e25_15, ↓g25_16, ↓e25_19, ↓e25_20, ↓e25_21, ↓g25_22, ↓e25_25, ↓e25_28, ↓e25_31, true_and, and_true, true_or, or_true, false_or, or_false, Option.some.injEq, reduceCtorEq, ↓b01_ok, br_not, Nat.reduceLeDiff, Nat.zero_le, List.length_cons, List.length_nil, List.set_cons_succ, List.set_cons_zero, pv_i, pv_r, tn_n, tn_a2, tn_m2, Int.reduceToNat, upd_s, br_T, br_F, reduceIte, Nat.reduceEqDiff, Nat.reduceAdd, Int.reduceNeg, eq_self, upS_1, upS_2, upA_1, upA_2, if_true, if_false, ↓rtb0, ↓rtb1, i_zero, b01_z, b01_o, i_10, i_01, not_true_eq_false, not_false_eq_true, Bool.false_eq_true, Int.le_refl, Int.add_zero, Int.zero_add, upA_upA, upS_upS, false_and, and_false, i_sm1, Nat.lt_irrefl, Int.lt_irrefl, Int.reduceEq, Int.cast_ofNat_Int, Int.reduceSub, Int.reduceAdd, Int.reduceMul, Int.reduceLE, Int.reduceLT, Nat.reduceLT, wA0, wA1, wA2, wA3, wA4, wA5, wA6, wA7, wSx, setC_s, setC_u, setC_A, setC_r, upS_A, setC_0, setC_1, setC_2, setC_3, setC_4, setC_5, setC_6, setC_t0, setC_t1, setC_t2, setC_t3, setC_t4, setC_t5, setC_t6]
  suffices hs : ∀ (fuel i : Nat) (c : Cc), i + fuel = K.1 3 → CK c (pKs K s v i) l → P 2 [some (.ref b), some (.int (Int32.ofInt (s : Int))), some (.int (Int32.ofInt (v : Int))), some (.int (Int32.ofInt (i : Int)))] [] (putC h b c) from hs (K.1 3) 0 c (by omega) hC
  intro fuel
  induction fuel with
  | zero =>
    intro i c hi hC
    obtain rfl : i = K.1 3 := by omega
    have k3 : c.1 3 = Int32.ofInt (K.1 3 : Int) := by have := hC.2.2.2.1; rwa [pKs_1] at this
    refine runF (cl2_ok (by omega)) hP [2] 100 ?_
    simp (implicitDefEqProofs := false) (dsimp := false) (disch := omega) only [↓exT_s, ↓sel_nil, ↓sel_eq, ↓sel_no, ↓tI_c, ↓tJ_c, ↓tR_c, ↓ldI_0, ↓ldI_s, ↓ldJ_0, ↓ldJ_s, ↓ldR_0, ↓ldR_f, ↓ldR_s, ↓lvS_0, ↓lvS_1n, ↓lvS_1i, ↓lvS_1r, ↓lvS_1f, ↓lvS_s, ↓lvS2_0, ↓lvS2_1n, ↓lvS2_1i, ↓lvS2_1r, ↓lvS2_s, ↓du1_i, ↓du1_r, ↓du2_ir, pu, optW_s, gW_s, gW_0, ixW_z, brW_T, brW_F, brW_n, ↓aldW_r, ↓aldW_f, ↓pfdW_c, ↓ivSW0, ↓ivSW1, ↓ivSW2, ↓ivSW3, ↓ivSW4, ↓ivSW5, ↓ivSW6, ↓ivVW0, ↓ivVW1, ↓ivVW2, ↓ivVW3, ↓ivVW4, ↓ivVW5, ↓ivVW6, y2_131W, y2_132W, y2_135W, y2_136W, y2_165W, y2_89W, y2_79W, y2_141W, y2_76W, y2_150W, y2_191W, y2_168W, y2_16W, y2_17W, y2_18W, y2_19W, y2_20W, y2_162W, y2_163W, y2_164W, y2_180W, pOW, pA0W, pA1W, pA2W, pA3W, pA4W, pA5W, pA6W, pA7W, ↓e25_0, ↓e25_1, ↓e25_2, ↓e25_3, ↓g25_4, ↓g25_7, ↓e25_10, ↓e25_11, ↓e25_12, ↓e25_13, ↓e25_14, ↓e25_15, ↓g25_16, ↓e25_19, ↓e25_20, ↓e25_21, ↓g25_22, ↓e25_25, ↓e25_28, ↓e25_31, true_and, and_true, true_or, or_true, false_or, or_false, Option.some.injEq, reduceCtorEq, ↓b01_ok, br_not, Nat.reduceLeDiff, Nat.zero_le, List.length_cons, List.length_nil, List.set_cons_succ, List.set_cons_zero, pv_i, pv_r, tn_n, tn_a2, tn_m2, Int.reduceToNat, upd_s, br_T, br_F, reduceIte, Nat.reduceEqDiff, Nat.reduceAdd, Int.reduceNeg, eq_self, upS_1, upS_2, upA_1, upA_2, if_true, if_false, ↓rtb0, ↓rtb1, i_zero, b01_z, b01_o, i_10, i_01, not_true_eq_false, not_false_eq_true, Bool.false_eq_true, Int.le_refl, Int.add_zero, Int.zero_add, upA_upA, upS_upS, false_and, and_false, i_sm1, Nat.lt_irrefl, Int.lt_irrefl, Int.reduceEq, Int.cast_ofNat_Int, Int.reduceSub, Int.reduceAdd, Int.reduceMul, Int.reduceLE, Int.reduceLT, Nat.reduceLT, wA0, wA1, wA2, wA3, wA4, wA5, wA6, wA7, wSx, setC_s, setC_u, setC_A, setC_r, upS_A, setC_0, setC_1, setC_2, setC_3, setC_4, setC_5, setC_6, setC_t0, setC_t1, setC_t2, setC_t3, setC_t4, setC_t5, setC_t6, k3, i_le]
    exact ⟨c, rfl, hC⟩
  | succ n ih =>
    intro i c hi hC
    have hi6 : i < K.1 3 := by omega
    have k3 : c.1 3 = Int32.ofInt (K.1 3 : Int) := by have := hC.2.2.2.1; rwa [pKs_1] at this
    have hge : ((K.1 3 : Int) ≤ (i : Int)) = False := eq_false (by omega)
    by_cases hk : s.testBit i = true
    · have e1 : pKs K s v (i + 1) = pK1 (pKs K s v i) i v := by simp [pKs, hk]
      refine runF (cl2_ok (by omega)) hP [22] 100 ?_
      simp (implicitDefEqProofs := false) (dsimp := false) (disch := omega) only [↓exT_s, ↓sel_nil, ↓sel_eq, ↓sel_no, ↓tI_c, ↓tJ_c, ↓tR_c, ↓ldI_0, ↓ldI_s, ↓ldJ_0, ↓ldJ_s, ↓ldR_0, ↓ldR_f, ↓ldR_s, ↓lvS_0, ↓lvS_1n, ↓lvS_1i, ↓lvS_1r, ↓lvS_1f, ↓lvS_s, ↓lvS2_0, ↓lvS2_1n, ↓lvS2_1i, ↓lvS2_1r, ↓lvS2_s, ↓du1_i, ↓du1_r, ↓du2_ir, pu, optW_s, gW_s, gW_0, ixW_z, brW_T, brW_F, brW_n, ↓aldW_r, ↓aldW_f, ↓pfdW_c, ↓ivSW0, ↓ivSW1, ↓ivSW2, ↓ivSW3, ↓ivSW4, ↓ivSW5, ↓ivSW6, ↓ivVW0, ↓ivVW1, ↓ivVW2, ↓ivVW3, ↓ivVW4, ↓ivVW5, ↓ivVW6, y2_131W, y2_132W, y2_135W, y2_136W, y2_165W, y2_89W, y2_79W, y2_141W, y2_76W, y2_150W, y2_191W, y2_168W, y2_16W, y2_17W, y2_18W, y2_19W, y2_20W, y2_162W, y2_163W, y2_164W, y2_180W, pOW, pA0W, pA1W, pA2W, pA3W, pA4W, pA5W, pA6W, pA7W, ↓e25_0, ↓e25_1, ↓e25_2, ↓e25_3, ↓g25_4, ↓g25_7, ↓e25_10, ↓e25_11, ↓e25_12, ↓e25_13, ↓e25_14, ↓e25_15, ↓g25_16, ↓e25_19, ↓e25_20, ↓e25_21, ↓g25_22, ↓e25_25, ↓e25_28, ↓e25_31, true_and, and_true, true_or, or_true, false_or, or_false, Option.some.injEq, reduceCtorEq, ↓b01_ok, br_not, Nat.reduceLeDiff, Nat.zero_le, List.length_cons, List.length_nil, List.set_cons_succ, List.set_cons_zero, pv_i, pv_r, tn_n, tn_a2, tn_m2, Int.reduceToNat, upd_s, br_T, br_F, reduceIte, Nat.reduceEqDiff, Nat.reduceAdd, Int.reduceNeg, eq_self, upS_1, upS_2, upA_1, upA_2, if_true, if_false, ↓rtb0, ↓rtb1, i_zero, b01_z, b01_o, i_10, i_01, not_true_eq_false, not_false_eq_true, Bool.false_eq_true, Int.le_refl, Int.add_zero, Int.zero_add, upA_upA, upS_upS, false_and, and_false, i_sm1, Nat.lt_irrefl, Int.lt_irrefl, Int.reduceEq, Int.cast_ofNat_Int, Int.reduceSub, Int.reduceAdd, Int.reduceMul, Int.reduceLE, Int.reduceLT, Nat.reduceLT, wA0, wA1, wA2, wA3, wA4, wA5, wA6, wA7, wSx, setC_s, setC_u, setC_A, setC_r, upS_A, setC_0, setC_1, setC_2, setC_3, setC_4, setC_5, setC_6, setC_t0, setC_t1, setC_t2, setC_t3, setC_t4, setC_t5, setC_t6, k3, i_le, hge, i_bit, hk]
      refine kv2 hP rfl (hOC hb) (by simp) (q26 (K := pKs K s v i) (v := v) (by omega) hb (by rw [pKs_1]; exact w5) (by rw [pKs_1]; exact hi6) hC) ?_
      rintro _ _ ⟨rfl, c', rfl, hC'⟩
      show P 25 _ _ _
      refine runF (cl2_ok (by omega)) hP [2] 100 ?_
      simp (implicitDefEqProofs := false) (dsimp := false) (disch := omega) only [↓exT_s, ↓sel_nil, ↓sel_eq, ↓sel_no, ↓tI_c, ↓tJ_c, ↓tR_c, ↓ldI_0, ↓ldI_s, ↓ldJ_0, ↓ldJ_s, ↓ldR_0, ↓ldR_f, ↓ldR_s, ↓lvS_0, ↓lvS_1n, ↓lvS_1i, ↓lvS_1r, ↓lvS_1f, ↓lvS_s, ↓lvS2_0, ↓lvS2_1n, ↓lvS2_1i, ↓lvS2_1r, ↓lvS2_s, ↓du1_i, ↓du1_r, ↓du2_ir, pu, optW_s, gW_s, gW_0, ixW_z, brW_T, brW_F, brW_n, ↓aldW_r, ↓aldW_f, ↓pfdW_c, ↓ivSW0, ↓ivSW1, ↓ivSW2, ↓ivSW3, ↓ivSW4, ↓ivSW5, ↓ivSW6, ↓ivVW0, ↓ivVW1, ↓ivVW2, ↓ivVW3, ↓ivVW4, ↓ivVW5, ↓ivVW6, y2_131W, y2_132W, y2_135W, y2_136W, y2_165W, y2_89W, y2_79W, y2_141W, y2_76W, y2_150W, y2_191W, y2_168W, y2_16W, y2_17W, y2_18W, y2_19W, y2_20W, y2_162W, y2_163W, y2_164W, y2_180W, pOW, pA0W, pA1W, pA2W, pA3W, pA4W, pA5W, pA6W, pA7W, ↓e25_0, ↓e25_1, ↓e25_2, ↓e25_3, ↓g25_4, ↓g25_7, ↓e25_10, ↓e25_11, ↓e25_12, ↓e25_13, ↓e25_14, ↓e25_15, ↓g25_16, ↓e25_19, ↓e25_20, ↓e25_21, ↓g25_22, ↓e25_25, ↓e25_28, ↓e25_31, true_and, and_true, true_or, or_true, false_or, or_false, Option.some.injEq, reduceCtorEq, ↓b01_ok, br_not, Nat.reduceLeDiff, Nat.zero_le, List.length_cons, List.length_nil, List.set_cons_succ, List.set_cons_zero, pv_i, pv_r, tn_n, tn_a2, tn_m2, Int.reduceToNat, upd_s, br_T, br_F, reduceIte, Nat.reduceEqDiff, Nat.reduceAdd, Int.reduceNeg, eq_self, upS_1, upS_2, upA_1, upA_2, if_true, if_false, ↓rtb0, ↓rtb1, i_zero, b01_z, b01_o, i_10, i_01, not_true_eq_false, not_false_eq_true, Bool.false_eq_true, Int.le_refl, Int.add_zero, Int.zero_add, upA_upA, upS_upS, false_and, and_false, i_sm1, Nat.lt_irrefl, Int.lt_irrefl, Int.reduceEq, Int.cast_ofNat_Int, Int.reduceSub, Int.reduceAdd, Int.reduceMul, Int.reduceLE, Int.reduceLT, Nat.reduceLT, wA0, wA1, wA2, wA3, wA4, wA5, wA6, wA7, wSx, setC_s, setC_u, setC_A, setC_r, upS_A, setC_0, setC_1, setC_2, setC_3, setC_4, setC_5, setC_6, setC_t0, setC_t1, setC_t2, setC_t3, setC_t4, setC_t5, setC_t6, i_add]
      exact ih (i + 1) c' (by omega) (by rw [e1]; exact hC')
    · have e1 : pKs K s v (i + 1) = pKs K s v i := by simp [pKs, hk]
      refine runF (cl2_ok (by omega)) hP [2] 100 ?_
      simp (implicitDefEqProofs := false) (dsimp := false) (disch := omega) only [↓exT_s, ↓sel_nil, ↓sel_eq, ↓sel_no, ↓tI_c, ↓tJ_c, ↓tR_c, ↓ldI_0, ↓ldI_s, ↓ldJ_0, ↓ldJ_s, ↓ldR_0, ↓ldR_f, ↓ldR_s, ↓lvS_0, ↓lvS_1n, ↓lvS_1i, ↓lvS_1r, ↓lvS_1f, ↓lvS_s, ↓lvS2_0, ↓lvS2_1n, ↓lvS2_1i, ↓lvS2_1r, ↓lvS2_s, ↓du1_i, ↓du1_r, ↓du2_ir, pu, optW_s, gW_s, gW_0, ixW_z, brW_T, brW_F, brW_n, ↓aldW_r, ↓aldW_f, ↓pfdW_c, ↓ivSW0, ↓ivSW1, ↓ivSW2, ↓ivSW3, ↓ivSW4, ↓ivSW5, ↓ivSW6, ↓ivVW0, ↓ivVW1, ↓ivVW2, ↓ivVW3, ↓ivVW4, ↓ivVW5, ↓ivVW6, y2_131W, y2_132W, y2_135W, y2_136W, y2_165W, y2_89W, y2_79W, y2_141W, y2_76W, y2_150W, y2_191W, y2_168W, y2_16W, y2_17W, y2_18W, y2_19W, y2_20W, y2_162W, y2_163W, y2_164W, y2_180W, pOW, pA0W, pA1W, pA2W, pA3W, pA4W, pA5W, pA6W, pA7W, ↓e25_0, ↓e25_1, ↓e25_2, ↓e25_3, ↓g25_4, ↓g25_7, ↓e25_10, ↓e25_11, ↓e25_12, ↓e25_13, ↓e25_14, ↓e25_15, ↓g25_16, ↓e25_19, ↓e25_20, ↓e25_21, ↓g25_22, ↓e25_25, ↓e25_28, ↓e25_31, true_and, and_true, true_or, or_true, false_or, or_false, Option.some.injEq, reduceCtorEq, ↓b01_ok, br_not, Nat.reduceLeDiff, Nat.zero_le, List.length_cons, List.length_nil, List.set_cons_succ, List.set_cons_zero, pv_i, pv_r, tn_n, tn_a2, tn_m2, Int.reduceToNat, upd_s, br_T, br_F, reduceIte, Nat.reduceEqDiff, Nat.reduceAdd, Int.reduceNeg, eq_self, upS_1, upS_2, upA_1, upA_2, if_true, if_false, ↓rtb0, ↓rtb1, i_zero, b01_z, b01_o, i_10, i_01, not_true_eq_false, not_false_eq_true, Bool.false_eq_true, Int.le_refl, Int.add_zero, Int.zero_add, upA_upA, upS_upS, false_and, and_false, i_sm1, Nat.lt_irrefl, Int.lt_irrefl, Int.reduceEq, Int.cast_ofNat_Int, Int.reduceSub, Int.reduceAdd, Int.reduceMul, Int.reduceLE, Int.reduceLT, Nat.reduceLT, wA0, wA1, wA2, wA3, wA4, wA5, wA6, wA7, wSx, setC_s, setC_u, setC_A, setC_r, upS_A, setC_0, setC_1, setC_2, setC_3, setC_4, setC_5, setC_6, setC_t0, setC_t1, setC_t2, setC_t3, setC_t4, setC_t5, setC_t6, k3, i_le, hge, i_bit, hk, i_add]
      exact ih (i + 1) c (by omega) (by rw [e1]; exact hC)

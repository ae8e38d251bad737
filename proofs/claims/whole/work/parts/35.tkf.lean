/-! takeFrom: one castle from another -/
theorem hOCb {h : aH} {a b : Nat} {ca : Cc} (hn : b + 9 ≤ a ∨ a + 9 ≤ b) : hO (putC h a ca) b 2 = hO h b 2 := by
  unfold hO
  rw [show (putC h a ca).1 = h.1 from rfl]
  have : (putC h a ca).2.2 b = h.2.2 b := by
    unfold putC
    simp only
    rw [if_neg (by omega), if_neg (by omega), if_neg (by omega)]
  rw [this]
theorem hICb {h : aH} {a b : Nat} {ca : Cc} (hn : b < a ∨ a + 8 < b) : hI (putC h a ca) b = hI h b := by
  unfold hI
  rw [show (putC h a ca).1 = h.1 from rfl]
  have : (putC h a ca).2.2 b = h.2.2 b := by
    unfold putC
    simp only
    rw [if_neg (by omega), if_neg (by omega), if_neg (by omega)]
  rw [this]
theorem pOb {h : aH} {a b : Nat} {ca cb : Cc} {f : List Value → Prop} {w : Wt f} (hb : b + 9 ≤ h.1) (hn : b + 9 ≤ a ∨ a + 9 ≤ b) : optW (hO (putC (putC h b cb) a ca) b 2) f w = f [.int (cb.1 0), .int (cb.1 1), .int (cb.1 2), .int (cb.1 3), .ref (b + 1), .ref (b + 2), .ref (b + 3), .ref (b + 4), .ref (b + 5), .int (cb.1 4), .ref (b + 6), .ref (b + 7), .ref (b + 8), .int (cb.1 5), .int (cb.1 6)] := by
  rw [hOCb hn]; exact pOW hb
theorem pb0 {h : aH} {a b : Nat} {ca cb : Cc} {f : Nat × (Nat → Int32) → Prop} {w : Wt f} (hb : b + 9 ≤ h.1) (hn : b + 9 ≤ a ∨ a + 9 ≤ b) : optW (hI (putC (putC h b cb) a ca) (b + 1)) f w = f (5, cb.2 0) := by rw [hICb (by omega)]; exact pA0W hb
theorem pb1 {h : aH} {a b : Nat} {ca cb : Cc} {f : Nat × (Nat → Int32) → Prop} {w : Wt f} (hb : b + 9 ≤ h.1) (hn : b + 9 ≤ a ∨ a + 9 ≤ b) : optW (hI (putC (putC h b cb) a ca) (b + 2)) f w = f (5, cb.2 1) := by rw [hICb (by omega)]; exact pA1W hb
theorem pb2 {h : aH} {a b : Nat} {ca cb : Cc} {f : Nat × (Nat → Int32) → Prop} {w : Wt f} (hb : b + 9 ≤ h.1) (hn : b + 9 ≤ a ∨ a + 9 ≤ b) : optW (hI (putC (putC h b cb) a ca) (b + 3)) f w = f (5, cb.2 2) := by rw [hICb (by omega)]; exact pA2W hb
theorem pb3 {h : aH} {a b : Nat} {ca cb : Cc} {f : Nat × (Nat → Int32) → Prop} {w : Wt f} (hb : b + 9 ≤ h.1) (hn : b + 9 ≤ a ∨ a + 9 ≤ b) : optW (hI (putC (putC h b cb) a ca) (b + 4)) f w = f (5, cb.2 3) := by rw [hICb (by omega)]; exact pA3W hb
theorem pb4 {h : aH} {a b : Nat} {ca cb : Cc} {f : Nat × (Nat → Int32) → Prop} {w : Wt f} (hb : b + 9 ≤ h.1) (hn : b + 9 ≤ a ∨ a + 9 ≤ b) : optW (hI (putC (putC h b cb) a ca) (b + 5)) f w = f (5, cb.2 4) := by rw [hICb (by omega)]; exact pA4W hb
theorem pb5 {h : aH} {a b : Nat} {ca cb : Cc} {f : Nat × (Nat → Int32) → Prop} {w : Wt f} (hb : b + 9 ≤ h.1) (hn : b + 9 ≤ a ∨ a + 9 ≤ b) : optW (hI (putC (putC h b cb) a ca) (b + 6)) f w = f (6, cb.2 5) := by rw [hICb (by omega)]; exact pA5W hb
theorem pb6 {h : aH} {a b : Nat} {ca cb : Cc} {f : Nat × (Nat → Int32) → Prop} {w : Wt f} (hb : b + 9 ≤ h.1) (hn : b + 9 ≤ a ∨ a + 9 ≤ b) : optW (hI (putC (putC h b cb) a ca) (b + 7)) f w = f (6, cb.2 6) := by rw [hICb (by omega)]; exact pA6W hb
theorem pb7 {h : aH} {a b : Nat} {ca cb : Cc} {f : Nat × (Nat → Int32) → Prop} {w : Wt f} (hb : b + 9 ≤ h.1) (hn : b + 9 ≤ a ∨ a + 9 ≤ b) : optW (hI (putC (putC h b cb) a ca) (b + 8)) f w = f (6, cb.2 7) := by rw [hICb (by omega)]; exact pA7W hb
def CKp (c : Cc) (K : Kc) (l : Int) (i j : Nat) : Prop := c.1 0 = Int32.ofInt (K.1 0 : Int) ∧ c.1 1 = Int32.ofInt (K.1 1 : Int) ∧ c.1 2 = Int32.ofInt (K.1 2 : Int) ∧ c.1 3 = Int32.ofInt (K.1 3 : Int) ∧ c.1 4 = Int32.ofInt (K.1 4 : Int) ∧ c.1 5 = Int32.ofInt (K.1 5 : Int) ∧ c.1 6 = Int32.ofInt l ∧ (∀ h, h < i → c.2 0 h = Int32.ofInt (K.2 0 h : Int) ∧ c.2 1 h = Int32.ofInt (K.2 1 h : Int) ∧ c.2 2 h = Int32.ofInt (K.2 2 h : Int) ∧ c.2 3 h = Int32.ofInt (K.2 3 h : Int) ∧ c.2 4 h = Int32.ofInt (K.2 4 h : Int)) ∧ (∀ a, a < j → c.2 5 a = Int32.ofInt (K.2 5 a : Int) ∧ c.2 6 a = Int32.ofInt (K.2 6 a : Int) ∧ c.2 7 a = Int32.ofInt (K.2 7 a : Int))
set_option maxRecDepth 4096 in
set_option maxHeartbeats 4000000 in
theorem q15 {d N S : Nat} (hd : 1 ≤ d) {h : aH} {a b : Nat} {ca cb : Cc} {K : Kc} {l : Int} (ha : a + 9 ≤ h.1) (hb : b + 9 ≤ h.1) (hn : b + 9 ≤ a ∨ a + 9 ≤ b) (w5 : K.1 3 ≤ 5) (w6 : K.1 4 ≤ 6) (hC : CK cb K l) : aAt d N S 15 [.ref a, .ref b] (putC (putC h b cb) a ca) (fun x h' => x = none ∧ ∃ c, h' = putC (putC h b cb) a c ∧ CK c K l) := by
  have ha1 : a + 9 ≤ (putC h b cb).1 := ha
  obtain ⟨k0, k1, k2, k3, k4, k5, k6, kh, ka⟩ := hC
  obtain ⟨d, rfl⟩ : ∃ e, d = e + 1 := ⟨d - 1, by omega⟩
  have hd : 0 ≤ d := by omega
  refine at_in (k := 15) rfl (by simp [lg_sl, Value.category]) fun P hP => ?_
  dsimp only at hP ⊢
  simp only [entL_i, entL_r, entL_l, entL_n, List.replicate]
  have h2 : ∀ (fuel i : Nat) (c : Cc), i + fuel = K.1 4 → CKp c K l (K.1 3) i → P 134 [some (.ref a), some (.ref b), some (.int (Int32.ofInt (i : Int)))] [] (putC (putC h b cb) a c) := by
    intro fuel
    induction fuel with
    | zero =>
      intro i c hi hp
      obtain rfl : i = K.1 4 := by omega
      have e4 := hp.2.2.2.2.1
      refine runT hP [134] 100 ?_
      simp (implicitDefEqProofs := false) (dsimp := false) (disch := omega) only [↓exT_s, ↓sel_nil, ↓sel_eq, ↓sel_no, ↓tI_c, ↓tJ_c, ↓tR_c, ↓ldI_0, ↓ldI_s, ↓ldJ_0, ↓ldJ_s, ↓ldR_0, ↓ldR_f, ↓ldR_s, ↓lvS_0, ↓lvS_1n, ↓lvS_1i, ↓lvS_1r, ↓lvS_1f, ↓lvS_s, ↓lvS2_0, ↓lvS2_1n, ↓lvS2_1i, ↓lvS2_1r, ↓lvS2_s, ↓du1_i, ↓du1_r, ↓du2_ir, pu, optW_s, gW_s, gW_0, ixW_z, brW_T, brW_F, brW_n, ↓aldW_r, ↓aldW_f, ↓pfdW_c, ↓ivSW0, ↓ivSW1, ↓ivSW2, ↓ivSW3, ↓ivSW4, ↓ivSW5, ↓ivSW6, ↓ivVW0, ↓ivVW1, ↓ivVW2, ↓ivVW3, ↓ivVW4, ↓ivVW5, ↓ivVW6, pOW, pA0W, pA1W, pA2W, pA3W, pA4W, pA5W, pA6W, pA7W, ↓e15_0, ↓e15_1, ↓g15_2, ↓g15_5, ↓e15_8, ↓e15_9, ↓g15_10, ↓g15_13, ↓e15_16, ↓e15_17, ↓g15_18, ↓g15_21, ↓e15_24, ↓e15_25, ↓g15_26, ↓g15_29, ↓e15_32, ↓e15_33, ↓g15_34, ↓g15_37, ↓e15_40, ↓e15_41, ↓g15_42, ↓g15_45, ↓e15_48, ↓e15_49, ↓g15_50, ↓g15_53, ↓e15_56, ↓e15_57, ↓e15_58, ↓e15_59, ↓g15_60, ↓g15_63, ↓e15_66, ↓g15_67, ↓e15_70, ↓e15_71, ↓g15_72, ↓e15_75, ↓g15_76, ↓g15_77, ↓e15_78, ↓g15_79, ↓e15_82, ↓e15_83, ↓g15_84, ↓e15_87, ↓g15_88, ↓g15_89, ↓e15_90, ↓g15_91, ↓e15_94, ↓e15_95, ↓g15_96, ↓e15_99, ↓g15_100, ↓g15_101, ↓e15_102, ↓g15_103, ↓e15_106, ↓e15_107, ↓g15_108, ↓e15_111, ↓g15_112, ↓g15_113, ↓e15_114, ↓g15_115, ↓e15_118, ↓e15_119, ↓g15_120, ↓e15_123, ↓g15_124, ↓g15_125, ↓e15_126, ↓e15_129, ↓e15_132, ↓e15_133, ↓e15_134, ↓e15_135, ↓g15_136, ↓g15_139, ↓e15_142, ↓g15_143, ↓e15_146, ↓e15_147, ↓g15_148, ↓e15_151, ↓g15_152, ↓g15_153, ↓e15_154, ↓g15_155, ↓e15_158, ↓e15_159, ↓g15_160, ↓e15_163, ↓g15_164, ↓g15_165, ↓e15_166, ↓g15_167, ↓e15_170, ↓e15_171, ↓g15_172, ↓e15_175, ↓g15_176, ↓g15_177, ↓e15_178, ↓e15_181, ↓e15_184, true_and, and_true, true_or, or_true, false_or, or_false, Option.some.injEq, reduceCtorEq, ↓b01_ok, br_not, Nat.reduceLeDiff, Nat.zero_le, List.length_cons, List.length_nil, List.set_cons_succ, List.set_cons_zero, pv_i, pv_r, tn_n, tn_a2, tn_m2, Int.reduceToNat, upd_s, br_T, br_F, reduceIte, Nat.reduceEqDiff, Nat.reduceAdd, Int.reduceNeg, eq_self, upS_1, upS_2, upA_1, upA_2, if_true, if_false, ↓rtb0, ↓rtb1, i_zero, b01_z, b01_o, i_10, i_01, not_true_eq_false, not_false_eq_true, Bool.false_eq_true, Int.le_refl, Int.add_zero, Int.zero_add, upA_upA, upS_upS, false_and, and_false, i_sm1, Nat.lt_irrefl, Int.lt_irrefl, Int.reduceEq, Int.cast_ofNat_Int, Int.reduceSub, Int.reduceAdd, Int.reduceMul, Int.reduceLE, Int.reduceLT, Nat.reduceLT, wA0, wA1, wA2, wA3, wA4, wA5, wA6, wA7, wSx, setC_s, setC_u, setC_A, setC_r, upS_A, setC_0, setC_1, setC_2, setC_3, setC_4, setC_5, setC_6, setC_t0, setC_t1, setC_t2, setC_t3, setC_t4, setC_t5, setC_t6, e4, i_le]
      exact ⟨c, rfl, hp⟩
    | succ n ih =>
      intro i c hi hp
      have hi6 : i < K.1 4 := by omega
      have e4 := hp.2.2.2.2.1
      have hge : ((K.1 4 : Int) ≤ (i : Int)) = False := eq_false (by omega)
      obtain ⟨r5, r6, r7⟩ := ka i hi6
      refine runT hP [134] 100 ?_
      simp (implicitDefEqProofs := false) (dsimp := false) (disch := omega) only [↓exT_s, ↓sel_nil, ↓sel_eq, ↓sel_no, ↓tI_c, ↓tJ_c, ↓tR_c, ↓ldI_0, ↓ldI_s, ↓ldJ_0, ↓ldJ_s, ↓ldR_0, ↓ldR_f, ↓ldR_s, ↓lvS_0, ↓lvS_1n, ↓lvS_1i, ↓lvS_1r, ↓lvS_1f, ↓lvS_s, ↓lvS2_0, ↓lvS2_1n, ↓lvS2_1i, ↓lvS2_1r, ↓lvS2_s, ↓du1_i, ↓du1_r, ↓du2_ir, pu, optW_s, gW_s, gW_0, ixW_z, brW_T, brW_F, brW_n, ↓aldW_r, ↓aldW_f, ↓pfdW_c, ↓ivSW0, ↓ivSW1, ↓ivSW2, ↓ivSW3, ↓ivSW4, ↓ivSW5, ↓ivSW6, ↓ivVW0, ↓ivVW1, ↓ivVW2, ↓ivVW3, ↓ivVW4, ↓ivVW5, ↓ivVW6, pOW, pA0W, pA1W, pA2W, pA3W, pA4W, pA5W, pA6W, pA7W, ↓e15_0, ↓e15_1, ↓g15_2, ↓g15_5, ↓e15_8, ↓e15_9, ↓g15_10, ↓g15_13, ↓e15_16, ↓e15_17, ↓g15_18, ↓g15_21, ↓e15_24, ↓e15_25, ↓g15_26, ↓g15_29, ↓e15_32, ↓e15_33, ↓g15_34, ↓g15_37, ↓e15_40, ↓e15_41, ↓g15_42, ↓g15_45, ↓e15_48, ↓e15_49, ↓g15_50, ↓g15_53, ↓e15_56, ↓e15_57, ↓e15_58, ↓e15_59, ↓g15_60, ↓g15_63, ↓e15_66, ↓g15_67, ↓e15_70, ↓e15_71, ↓g15_72, ↓e15_75, ↓g15_76, ↓g15_77, ↓e15_78, ↓g15_79, ↓e15_82, ↓e15_83, ↓g15_84, ↓e15_87, ↓g15_88, ↓g15_89, ↓e15_90, ↓g15_91, ↓e15_94, ↓e15_95, ↓g15_96, ↓e15_99, ↓g15_100, ↓g15_101, ↓e15_102, ↓g15_103, ↓e15_106, ↓e15_107, ↓g15_108, ↓e15_111, ↓g15_112, ↓g15_113, ↓e15_114, ↓g15_115, ↓e15_118, ↓e15_119, ↓g15_120, ↓e15_123, ↓g15_124, ↓g15_125, ↓e15_126, ↓e15_129, ↓e15_132, ↓e15_133, ↓e15_134, ↓e15_135, ↓g15_136, ↓g15_139, ↓e15_142, ↓g15_143, ↓e15_146, ↓e15_147, ↓g15_148, ↓e15_151, ↓g15_152, ↓g15_153, ↓e15_154, ↓g15_155, ↓e15_158, ↓e15_159, ↓g15_160, ↓e15_163, ↓g15_164, ↓g15_165, ↓e15_166, ↓g15_167, ↓e15_170, ↓e15_171, ↓g15_172, ↓e15_175, ↓g15_176, ↓g15_177, ↓e15_178, ↓e15_181, ↓e15_184, true_and, and_true, true_or, or_true, false_or, or_false, Option.some.injEq, reduceCtorEq, ↓b01_ok, br_not, Nat.reduceLeDiff, Nat.zero_le, List.length_cons, List.length_nil, List.set_cons_succ, List.set_cons_zero, pv_i, pv_r, tn_n, tn_a2, tn_m2, Int.reduceToNat, upd_s, br_T, br_F, reduceIte, Nat.reduceEqDiff, Nat.reduceAdd, Int.reduceNeg, eq_self, upS_1, upS_2, upA_1, upA_2, if_true, if_false, ↓rtb0, ↓rtb1, i_zero, b01_z, b01_o, i_10, i_01, not_true_eq_false, not_false_eq_true, Bool.false_eq_true, Int.le_refl, Int.add_zero, Int.zero_add, upA_upA, upS_upS, false_and, and_false, i_sm1, Nat.lt_irrefl, Int.lt_irrefl, Int.reduceEq, Int.cast_ofNat_Int, Int.reduceSub, Int.reduceAdd, Int.reduceMul, Int.reduceLE, Int.reduceLT, Nat.reduceLT, wA0, wA1, wA2, wA3, wA4, wA5, wA6, wA7, wSx, setC_s, setC_u, setC_A, setC_r, upS_A, setC_0, setC_1, setC_2, setC_3, setC_4, setC_5, setC_6, setC_t0, setC_t1, setC_t2, setC_t3, setC_t4, setC_t5, setC_t6, e4, i_le, hge, i_add, pOb, pb5, pb6, pb7]
      refine ih (i + 1) _ (by omega) ?_
      obtain ⟨x0, x1, x2, x3, x4, x5, x6, xh, xa⟩ := hp
      refine ⟨x0, x1, x2, x3, x4, x5, x6, fun q hq => ?_, fun q hq => ?_⟩
      · obtain ⟨p0, p1, p2, p3, p4⟩ := xh q hq
        simp [upA_2, p0, p1, p2, p3, p4]
      · by_cases hqi : q = i
        · subst hqi
          simp [upA_2, upd_s, r5, r6, r7]
        · obtain ⟨p5, p6, p7⟩ := xa q (by omega)
          simp [upA_2, upd, hqi, p5, p6, p7]
  have h1 : ∀ (fuel i : Nat) (c : Cc), i + fuel = K.1 3 → CKp c K l i 0 → P 58 [some (.ref a), some (.ref b), some (.int (Int32.ofInt (i : Int)))] [] (putC (putC h b cb) a c) := by
    intro fuel
    induction fuel with
    | zero =>
      intro i c hi hp
      obtain rfl : i = K.1 3 := by omega
      have e3 := hp.2.2.2.1
      refine runT hP [134] 100 ?_
      simp (implicitDefEqProofs := false) (dsimp := false) (disch := omega) only [↓exT_s, ↓sel_nil, ↓sel_eq, ↓sel_no, ↓tI_c, ↓tJ_c, ↓tR_c, ↓ldI_0, ↓ldI_s, ↓ldJ_0, ↓ldJ_s, ↓ldR_0, ↓ldR_f, ↓ldR_s, ↓lvS_0, ↓lvS_1n, ↓lvS_1i, ↓lvS_1r, ↓lvS_1f, ↓lvS_s, ↓lvS2_0, ↓lvS2_1n, ↓lvS2_1i, ↓lvS2_1r, ↓lvS2_s, ↓du1_i, ↓du1_r, ↓du2_ir, pu, optW_s, gW_s, gW_0, ixW_z, brW_T, brW_F, brW_n, ↓aldW_r, ↓aldW_f, ↓pfdW_c, ↓ivSW0, ↓ivSW1, ↓ivSW2, ↓ivSW3, ↓ivSW4, ↓ivSW5, ↓ivSW6, ↓ivVW0, ↓ivVW1, ↓ivVW2, ↓ivVW3, ↓ivVW4, ↓ivVW5, ↓ivVW6, pOW, pA0W, pA1W, pA2W, pA3W, pA4W, pA5W, pA6W, pA7W, ↓e15_0, ↓e15_1, ↓g15_2, ↓g15_5, ↓e15_8, ↓e15_9, ↓g15_10, ↓g15_13, ↓e15_16, ↓e15_17, ↓g15_18, ↓g15_21, ↓e15_24, ↓e15_25, ↓g15_26, ↓g15_29, ↓e15_32, ↓e15_33, ↓g15_34, ↓g15_37, ↓e15_40, ↓e15_41, ↓g15_42, ↓g15_45, ↓e15_48, ↓e15_49, ↓g15_50, ↓g15_53, ↓e15_56, ↓e15_57, ↓e15_58, ↓e15_59, ↓g15_60, ↓g15_63, ↓e15_66, ↓g15_67, ↓e15_70, ↓e15_71, ↓g15_72, ↓e15_75, ↓g15_76, ↓g15_77, ↓e15_78, ↓g15_79, ↓e15_82, ↓e15_83, ↓g15_84, ↓e15_87, ↓g15_88, ↓g15_89, ↓e15_90, ↓g15_91, ↓e15_94, ↓e15_95, ↓g15_96, ↓e15_99, ↓g15_100, ↓g15_101, ↓e15_102, ↓g15_103, ↓e15_106, ↓e15_107, ↓g15_108, ↓e15_111, ↓g15_112, ↓g15_113, ↓e15_114, ↓g15_115, ↓e15_118, ↓e15_119, ↓g15_120, ↓e15_123, ↓g15_124, ↓g15_125, ↓e15_126, ↓e15_129, ↓e15_132, ↓e15_133, ↓e15_134, ↓e15_135, ↓g15_136, ↓g15_139, ↓e15_142, ↓g15_143, ↓e15_146, ↓e15_147, ↓g15_148, ↓e15_151, ↓g15_152, ↓g15_153, ↓e15_154, ↓g15_155, ↓e15_158, ↓e15_159, ↓g15_160, ↓e15_163, ↓g15_164, ↓g15_165, ↓e15_166, ↓g15_167, ↓e15_170, ↓e15_171, ↓g15_172, ↓e15_175, ↓g15_176, ↓g15_177, ↓e15_178, ↓e15_181, ↓e15_184, true_and, and_true, true_or, or_true, false_or, or_false, Option.some.injEq, reduceCtorEq, ↓b01_ok, br_not, Nat.reduceLeDiff, Nat.zero_le, List.length_cons, List.length_nil, List.set_cons_succ, List.set_cons_zero, pv_i, pv_r, tn_n, tn_a2, tn_m2, Int.reduceToNat, upd_s, br_T, br_F, reduceIte, Nat.reduceEqDiff, Nat.reduceAdd, Int.reduceNeg, eq_self, upS_1, upS_2, upA_1, upA_2, if_true, if_false, ↓rtb0, ↓rtb1, i_zero, b01_z, b01_o, i_10, i_01, not_true_eq_false, not_false_eq_true, Bool.false_eq_true, Int.le_refl, Int.add_zero, Int.zero_add, upA_upA, upS_upS, false_and, and_false, i_sm1, Nat.lt_irrefl, Int.lt_irrefl, Int.reduceEq, Int.cast_ofNat_Int, Int.reduceSub, Int.reduceAdd, Int.reduceMul, Int.reduceLE, Int.reduceLT, Nat.reduceLT, wA0, wA1, wA2, wA3, wA4, wA5, wA6, wA7, wSx, setC_s, setC_u, setC_A, setC_r, upS_A, setC_0, setC_1, setC_2, setC_3, setC_4, setC_5, setC_6, setC_t0, setC_t1, setC_t2, setC_t3, setC_t4, setC_t5, setC_t6, e3, i_le]
      exact h2 (K.1 4) 0 c (by omega) hp
    | succ n ih =>
      intro i c hi hp
      have hi6 : i < K.1 3 := by omega
      have e3 := hp.2.2.2.1
      have hge : ((K.1 3 : Int) ≤ (i : Int)) = False := eq_false (by omega)
      obtain ⟨r0, r1, r2, r3, r4⟩ := kh i hi6
      refine runT hP [58] 100 ?_
      simp (implicitDefEqProofs := false) (dsimp := false) (disch := omega) only [↓exT_s, ↓sel_nil, ↓sel_eq, ↓sel_no, ↓tI_c, ↓tJ_c, ↓tR_c, ↓ldI_0, ↓ldI_s, ↓ldJ_0, ↓ldJ_s, ↓ldR_0, ↓ldR_f, ↓ldR_s, ↓lvS_0, ↓lvS_1n, ↓lvS_1i, ↓lvS_1r, ↓lvS_1f, ↓lvS_s, ↓lvS2_0, ↓lvS2_1n, ↓lvS2_1i, ↓lvS2_1r, ↓lvS2_s, ↓du1_i, ↓du1_r, ↓du2_ir, pu, optW_s, gW_s, gW_0, ixW_z, brW_T, brW_F, brW_n, ↓aldW_r, ↓aldW_f, ↓pfdW_c, ↓ivSW0, ↓ivSW1, ↓ivSW2, ↓ivSW3, ↓ivSW4, ↓ivSW5, ↓ivSW6, ↓ivVW0, ↓ivVW1, ↓ivVW2, ↓ivVW3, ↓ivVW4, ↓ivVW5, ↓ivVW6, pOW, pA0W, pA1W, pA2W, pA3W, pA4W, pA5W, pA6W, pA7W, ↓e15_0, ↓e15_1, ↓g15_2, ↓g15_5, ↓e15_8, ↓e15_9, ↓g15_10, ↓g15_13, ↓e15_16, ↓e15_17, ↓g15_18, ↓g15_21, ↓e15_24, ↓e15_25, ↓g15_26, ↓g15_29, ↓e15_32, ↓e15_33, ↓g15_34, ↓g15_37, ↓e15_40, ↓e15_41, ↓g15_42, ↓g15_45, ↓e15_48, ↓e15_49, ↓g15_50, ↓g15_53, ↓e15_56, ↓e15_57, ↓e15_58, ↓e15_59, ↓g15_60, ↓g15_63, ↓e15_66, ↓g15_67, ↓e15_70, ↓e15_71, ↓g15_72, ↓e15_75, ↓g15_76, ↓g15_77, ↓e15_78, ↓g15_79, ↓e15_82, ↓e15_83, ↓g15_84, ↓e15_87, ↓g15_88, ↓g15_89, ↓e15_90, ↓g15_91, ↓e15_94, ↓e15_95, ↓g15_96, ↓e15_99, ↓g15_100, ↓g15_101, ↓e15_102, ↓g15_103, ↓e15_106, ↓e15_107, ↓g15_108, ↓e15_111, ↓g15_112, ↓g15_113, ↓e15_114, ↓g15_115, ↓e15_118, ↓e15_119, ↓g15_120, ↓e15_123, ↓g15_124, ↓g15_125, ↓e15_126, ↓e15_129, ↓e15_132, ↓e15_133, ↓e15_134, ↓e15_135, ↓g15_136, ↓g15_139, ↓e15_142, ↓g15_143, ↓e15_146, ↓e15_147, ↓g15_148, ↓e15_151, ↓g15_152, ↓g15_153, ↓e15_154, ↓g15_155, ↓e15_158, ↓e15_159, ↓g15_160, ↓e15_163, ↓g15_164, ↓g15_165, ↓e15_166, ↓g15_167, ↓e15_170, ↓e15_171, ↓g15_172, ↓e15_175, ↓g15_176, ↓g15_177, ↓e15_178, ↓e15_181, ↓e15_184, true_and, and_true, true_or, or_true, false_or, or_false, Option.some.injEq, reduceCtorEq, ↓b01_ok, br_not, Nat.reduceLeDiff, Nat.zero_le, List.length_cons, List.length_nil, List.set_cons_succ, List.set_cons_zero, pv_i, pv_r, tn_n, tn_a2, tn_m2, Int.reduceToNat, upd_s, br_T, br_F, reduceIte, Nat.reduceEqDiff, Nat.reduceAdd, Int.reduceNeg, eq_self, upS_1, upS_2, upA_1, upA_2, if_true, if_false, ↓rtb0, ↓rtb1, i_zero, b01_z, b01_o, i_10, i_01, not_true_eq_false, not_false_eq_true, Bool.false_eq_true, Int.le_refl, Int.add_zero, Int.zero_add, upA_upA, upS_upS, false_and, and_false, i_sm1, Nat.lt_irrefl, Int.lt_irrefl, Int.reduceEq, Int.cast_ofNat_Int, Int.reduceSub, Int.reduceAdd, Int.reduceMul, Int.reduceLE, Int.reduceLT, Nat.reduceLT, wA0, wA1, wA2, wA3, wA4, wA5, wA6, wA7, wSx, setC_s, setC_u, setC_A, setC_r, upS_A, setC_0, setC_1, setC_2, setC_3, setC_4, setC_5, setC_6, setC_t0, setC_t1, setC_t2, setC_t3, setC_t4, setC_t5, setC_t6, e3, i_le, hge, i_add, pOb, pb0, pb1, pb2, pb3, pb4]
      refine ih (i + 1) _ (by omega) ?_
      obtain ⟨x0, x1, x2, x3, x4, x5, x6, xh, xa⟩ := hp
      refine ⟨x0, x1, x2, x3, x4, x5, x6, fun q hq => ?_, fun q hq => absurd hq (by omega)⟩
      by_cases hqi : q = i
      · subst hqi
        simp [upA_2, upd_s, r0, r1, r2, r3, r4]
      · obtain ⟨p0, p1, p2, p3, p4⟩ := xh q (by omega)
        simp [upA_2, upd, hqi, p0, p1, p2, p3, p4]
  refine runT hP [58] 100 ?_
  simp (implicitDefEqProofs := false) (dsimp := false) (disch := omega) only [↓exT_s, ↓sel_nil, ↓sel_eq, ↓sel_no, ↓tI_c, ↓tJ_c, ↓tR_c, ↓ldI_0, ↓ldI_s, ↓ldJ_0, ↓ldJ_s, ↓ldR_0, ↓ldR_f, ↓ldR_s, ↓lvS_0, ↓lvS_1n, ↓lvS_1i, ↓lvS_1r, ↓lvS_1f, ↓lvS_s, ↓lvS2_0, ↓lvS2_1n, ↓lvS2_1i, ↓lvS2_1r, ↓lvS2_s, ↓du1_i, ↓du1_r, ↓du2_ir, pu, optW_s, gW_s, gW_0, ixW_z, brW_T, brW_F, brW_n, ↓aldW_r, ↓aldW_f, ↓pfdW_c, ↓ivSW0, ↓ivSW1, ↓ivSW2, ↓ivSW3, ↓ivSW4, ↓ivSW5, ↓ivSW6, ↓ivVW0, ↓ivVW1, ↓ivVW2, ↓ivVW3, ↓ivVW4, ↓ivVW5, ↓ivVW6, pOW, pA0W, pA1W, pA2W, pA3W, pA4W, pA5W, pA6W, pA7W, ↓e15_0, ↓e15_1, ↓g15_2, ↓g15_5, ↓e15_8, ↓e15_9, ↓g15_10, ↓g15_13, ↓e15_16, ↓e15_17, ↓g15_18, ↓g15_21, ↓e15_24, ↓e15_25, ↓g15_26, ↓g15_29, ↓e15_32, ↓e15_33, ↓g15_34, ↓g15_37, ↓e15_40, ↓e15_41, ↓g15_42, ↓g15_45, ↓e15_48, ↓e15_49, ↓g15_50, ↓g15_53, ↓e15_56, ↓e15_57, ↓e15_58, ↓e15_59, ↓g15_60, ↓g15_63, ↓e15_66, ↓g15_67, ↓e15_70, ↓e15_71, ↓g15_72, ↓e15_75, ↓g15_76, ↓g15_77, ↓e15_78, ↓g15_79, ↓e15_82, ↓e15_83, ↓g15_84, ↓e15_87, ↓g15_88, ↓g15_89, ↓e15_90, ↓g15_91, ↓e15_94, ↓e15_95, ↓g15_96, ↓e15_99, ↓g15_100, ↓g15_101, ↓e15_102, ↓g15_103, ↓e15_106, ↓e15_107, ↓g15_108, ↓e15_111, ↓g15_112, ↓g15_113, ↓e15_114, ↓g15_115, ↓e15_118, ↓e15_119, ↓g15_120, ↓e15_123, ↓g15_124, ↓g15_125, ↓e15_126, ↓e15_129, ↓e15_132, ↓e15_133, ↓e15_134, ↓e15_135, ↓g15_136, ↓g15_139, ↓e15_142, ↓g15_143, ↓e15_146, ↓e15_147, ↓g15_148, ↓e15_151, ↓g15_152, ↓g15_153, ↓e15_154, ↓g15_155, ↓e15_158, ↓e15_159, ↓g15_160, ↓e15_163, ↓g15_164, ↓g15_165, ↓e15_166, ↓g15_167, ↓e15_170, ↓e15_171, ↓g15_172, ↓e15_175, ↓g15_176, ↓g15_177, ↓e15_178, ↓e15_181, ↓e15_184, true_and, and_true, true_or, or_true, false_or, or_false, Option.some.injEq, reduceCtorEq, ↓b01_ok, br_not, Nat.reduceLeDiff, Nat.zero_le, List.length_cons, List.length_nil, List.set_cons_succ, List.set_cons_zero, pv_i, pv_r, tn_n, tn_a2, tn_m2, Int.reduceToNat, upd_s, br_T, br_F, reduceIte, Nat.reduceEqDiff, Nat.reduceAdd, Int.reduceNeg, eq_self, upS_1, upS_2, upA_1, upA_2, if_true, if_false, ↓rtb0, ↓rtb1, i_zero, b01_z, b01_o, i_10, i_01, not_true_eq_false, not_false_eq_true, Bool.false_eq_true, Int.le_refl, Int.add_zero, Int.zero_add, upA_upA, upS_upS, false_and, and_false, i_sm1, Nat.lt_irrefl, Int.lt_irrefl, Int.reduceEq, Int.cast_ofNat_Int, Int.reduceSub, Int.reduceAdd, Int.reduceMul, Int.reduceLE, Int.reduceLT, Nat.reduceLT, wA0, wA1, wA2, wA3, wA4, wA5, wA6, wA7, wSx, setC_s, setC_u, setC_A, setC_r, upS_A, setC_0, setC_1, setC_2, setC_3, setC_4, setC_5, setC_6, setC_t0, setC_t1, setC_t2, setC_t3, setC_t4, setC_t5, setC_t6, pOb]
  refine h1 (K.1 3) 0 _ (by omega) ⟨?_, ?_, ?_, ?_, ?_, ?_, ?_, fun q hq => absurd hq (by omega), fun q hq => absurd hq (by omega)⟩
  · simp only [setC_0, k0]
  · simp only [setC_1, k1]
  · simp only [setC_2, k2]
  · simp only [setC_3, k3]
  · simp only [setC_4, k4]
  · simp only [setC_5, k5]
  · simp only [setC_6, k6]
theorem q15X {d N S : Nat} (hd : 1 ≤ d) {h : aH} {w : Xc} {i j : Nat} {K : Kc} {l : Int} (hb : 293 ≤ h.1) (hi : i < 30) (hj : j < 30) (hn : i ≠ j) (w5 : K.1 3 ≤ 5) (w6 : K.1 4 ≤ 6) (hC : CK (w.2.2 j) K l) : aAt d N S 15 [.ref (casA i), .ref (casA j)] (putX h w) (fun x h' => x = none ∧ ∃ c, h' = putX h (upC w i c) ∧ CK c K l) := by
  have e : putX h w = putC (putC (putX h w) (casA j) (w.2.2 j)) (casA i) (w.2.2 i) := by rw [X_C hj, X_C hi]
  have hi' := casA_le hi
  have hj' := casA_le hj
  have hne : casA j + 9 ≤ casA i ∨ casA i + 9 ≤ casA j := by
    unfold casA
    repeat' split
    all_goals omega
  rw [e]
  refine aAt_mono _ _ _ _ _ _ _ _ ?_ (q15 (h := putX h w) hd (by rw [putX_1]; omega) (by rw [putX_1]; omega) hne w5 w6 hC)
  rintro _ _ ⟨rfl, c, rfl, hc⟩
  refine ⟨rfl, c, ?_, hc⟩
  rw [X_C hj, X_putC hi]

/-! the class reads -/
theorem XsD_c {w w' : Xc} (h : w'.2.2 0 = w.2.2 0) (hD : XsD (w.2.2 0)) : XsD (w'.2.2 0) := by rw [h]; exact hD
theorem q12 {d N S : Nat} (hd : 1 ≤ d) {h : aH} {w : Xc} (hb : 293 ≤ h.1) : aAt d N S 12 [.ref 14] (putX h w) (fun x h' => x = none ∧ h' = putX h (upC w 0 (upS (upS (w.2.2 0) 3 (Int32.ofInt 0)) 4 (Int32.ofInt 0)))) := by
  have e : upS (upS (w.2.2 0) 3 (Int32.ofInt 0)) 4 (Int32.ofInt 0) = setC (w.2.2 0) ((w.2.2 0).1 0) ((w.2.2 0).1 1) ((w.2.2 0).1 2) (Int32.ofInt 0) (Int32.ofInt 0) ((w.2.2 0).1 5) ((w.2.2 0).1 6) := by
    unfold setC upS
    refine Prod.ext ?_ rfl
    funext j
    dsimp only
    rcases Nat.lt_or_ge j 7 with hj | hj
    · match j, hj with
      | 0, _ => simp
      | 1, _ => simp
      | 2, _ => simp
      | 3, _ => simp
      | 4, _ => simp
      | 5, _ => simp
      | 6, _ => simp
      | k + 7, hj => omega
    · simp (disch := omega) only [if_neg]
  rw [e]
  obtain ⟨d, rfl⟩ : ∃ e, d = e + 1 := ⟨d - 1, by omega⟩
  have hd : 0 ≤ d := by omega
  refine at_in (k := 12) rfl (by simp [lg_sl, Value.category]) fun P hP => ?_
  dsimp only at hP ⊢
  simp only [entL_i, entL_r, entL_l, entL_n, List.replicate]
  refine runT hP [] 100 ?_
  simp (implicitDefEqProofs := false) (dsimp := false) (disch := omega) only [↓exT_s, ↓sel_nil, ↓sel_eq, ↓sel_no, ↓tI_c, ↓tJ_c, ↓tR_c, ↓ldI_0, ↓ldI_s, ↓ldJ_0, ↓ldJ_s, ↓ldR_0, ↓ldR_f, ↓ldR_s, ↓lvS_0, ↓lvS_1n, ↓lvS_1i, ↓lvS_1r, ↓lvS_1f, ↓lvS_s, ↓lvS2_0, ↓lvS2_1n, ↓lvS2_1i, ↓lvS2_1r, ↓lvS2_s, ↓du1_i, ↓du1_r, ↓du2_ir, pu, optW_s, gW_s, gW_0, ixW_z, brW_T, brW_F, brW_n, ↓aldW_r, ↓aldW_f, ↓pfdW_c, ↓ivSW0, ↓ivSW1, ↓ivSW2, ↓ivSW3, ↓ivSW4, ↓ivSW5, ↓ivSW6, ↓ivVW0, ↓ivVW1, ↓ivVW2, ↓ivVW3, ↓ivVW4, ↓ivVW5, ↓ivVW6, xO0W, xO1W, xO13W, xO33W, xO251W, xO291W, xO14W, xO24W, xO252W, xO261W, xO273W, xO282W, xA11W, xA12W, xA23W, xA270W, xA271W, xA292W, xA15W, xA16W, xA17W, xA18W, xA19W, xA20W, xA21W, xA22W, xA25W, xA26W, xA27W, xA28W, xA29W, xA30W, xA31W, xA32W, xA253W, xA254W, xA255W, xA256W, xA257W, xA258W, xA259W, xA260W, xA262W, xA263W, xA264W, xA265W, xA266W, xA267W, xA268W, xA269W, xA274W, xA275W, xA276W, xA277W, xA278W, xA279W, xA280W, xA281W, xA283W, xA284W, xA285W, xA286W, xA287W, xA288W, xA289W, xA290W, xR2W, xR34W, xR272W, ifW, xItemW, yx16_24, yx16_273, yx16_282, yx17_24, yx18_24, yx19_24, yx20_24, yx20_252, ↓e12_0, ↓e12_1, ↓g12_2, ↓e12_5, ↓e12_6, ↓g12_7, ↓e12_10, true_and, and_true, true_or, or_true, false_or, or_false, Option.some.injEq, reduceCtorEq, ↓b01_ok, br_not, Nat.reduceLeDiff, Nat.zero_le, List.length_cons, List.length_nil, List.set_cons_succ, List.set_cons_zero, pv_i, pv_r, tn_n, tn_a2, tn_m2, Int.reduceToNat, upd_s, br_T, br_F, reduceIte, Nat.reduceEqDiff, Nat.reduceAdd, Int.reduceNeg, eq_self, upS_1, upS_2, upA_1, upA_2, if_true, if_false, ↓rtb0, ↓rtb1, i_zero, b01_z, b01_o, i_10, i_01, not_true_eq_false, not_false_eq_true, Bool.false_eq_true, Int.le_refl, Int.add_zero, Int.zero_add, upA_upA, upS_upS, false_and, and_false, i_sm1, Nat.lt_irrefl, Int.lt_irrefl, Int.reduceEq, Int.cast_ofNat_Int, Int.reduceSub, Int.reduceAdd, Int.reduceMul, Int.reduceLE, Int.reduceLT, Nat.reduceLT, zA11, zA12, zA23, zA270, zA271, zA292, zA15, zA16, zA17, zA18, zA19, zA20, zA21, zA22, zA25, zA26, zA27, zA28, zA29, zA30, zA31, zA32, zA253, zA254, zA255, zA256, zA257, zA258, zA259, zA260, zA262, zA263, zA264, zA265, zA266, zA267, zA268, zA269, zA274, zA275, zA276, zA277, zA278, zA279, zA280, zA281, zA283, zA284, zA285, zA286, zA287, zA288, zA289, zA290, zC14, zC24, zC252, zC261, zC273, zC282, zS0, zS13, zS33, zS251, zS291, zItem, upX_1, upX_21, upX_22, upR_1, upR_21, upR_22, upC_1, upC_21, upC_22, upX_upX, upR_upR, upC_upC, upX_R, upX_C, upR_C, vec2_0, vec2_1, vec4_0, vec4_1, vec4_2, vec4_3, vec5_0, vec5_1, vec5_2, vec5_3, vec5_4, upA_1, upA_2, upS_1, upS_2, setC_s, setC_u, setC_A, setC_r, upS_A, setC_0, setC_1, setC_2, setC_3, setC_4, setC_5, setC_6, setC_t0, setC_t1, setC_t2, setC_t3, setC_t4, setC_t5, setC_t6]
theorem q13 {d N S : Nat} (hd : 1 ≤ d) {h : aH} {b : Nat} {c : Cc} {n : Nat} {x y z : Int32} (hb : b + 9 ≤ h.1) (hn : n < 6) (h4 : c.1 4 = Int32.ofInt (n : Int)) : aAt d N S 13 [.ref b, .int x, .int y, .int z] (putC h b c) (fun r h' => r = none ∧ ∃ c', h' = putC h b c' ∧ c' = upA (upA (upA (upS c 4 (Int32.ofInt ((n : Int) + 1))) 5 (upd (c.2 5) n x)) 6 (upd (c.2 6) n y)) 7 (upd (c.2 7) n z)) := by
  obtain ⟨d, rfl⟩ : ∃ e, d = e + 1 := ⟨d - 1, by omega⟩
  have hd : 0 ≤ d := by omega
  refine at_in (k := 13) rfl (by simp [lg_sl, Value.category]) fun P hP => ?_
  dsimp only at hP ⊢
  simp only [entL_i, entL_r, entL_l, entL_n, List.replicate]
  refine runT hP [] 100 ?_
  simp (implicitDefEqProofs := false) (dsimp := false) (disch := omega) only [↓exT_s, ↓sel_nil, ↓sel_eq, ↓sel_no, ↓tI_c, ↓tJ_c, ↓tR_c, ↓ldI_0, ↓ldI_s, ↓ldJ_0, ↓ldJ_s, ↓ldR_0, ↓ldR_f, ↓ldR_s, ↓lvS_0, ↓lvS_1n, ↓lvS_1i, ↓lvS_1r, ↓lvS_1f, ↓lvS_s, ↓lvS2_0, ↓lvS2_1n, ↓lvS2_1i, ↓lvS2_1r, ↓lvS2_s, ↓du1_i, ↓du1_r, ↓du2_ir, pu, optW_s, gW_s, gW_0, ixW_z, brW_T, brW_F, brW_n, ↓aldW_r, ↓aldW_f, ↓pfdW_c, ↓ivSW0, ↓ivSW1, ↓ivSW2, ↓ivSW3, ↓ivSW4, ↓ivSW5, ↓ivSW6, ↓ivVW0, ↓ivVW1, ↓ivVW2, ↓ivVW3, ↓ivVW4, ↓ivVW5, ↓ivVW6, pOW, pA0W, pA1W, pA2W, pA3W, pA4W, pA5W, pA6W, pA7W, ↓e13_0, ↓g13_1, ↓e13_4, ↓g13_5, ↓e13_8, ↓g13_9, ↓e13_10, ↓g13_11, ↓e13_14, ↓g13_15, ↓e13_18, ↓g13_19, ↓e13_20, ↓g13_21, ↓e13_24, ↓g13_25, ↓e13_28, ↓g13_29, ↓e13_30, ↓e13_31, ↓g13_32, ↓e13_35, ↓e13_36, ↓g13_37, ↓e13_40, true_and, and_true, true_or, or_true, false_or, or_false, Option.some.injEq, reduceCtorEq, ↓b01_ok, br_not, Nat.reduceLeDiff, Nat.zero_le, List.length_cons, List.length_nil, List.set_cons_succ, List.set_cons_zero, pv_i, pv_r, tn_n, tn_a2, tn_m2, Int.reduceToNat, upd_s, br_T, br_F, reduceIte, Nat.reduceEqDiff, Nat.reduceAdd, Int.reduceNeg, eq_self, upS_1, upS_2, upA_1, upA_2, if_true, if_false, ↓rtb0, ↓rtb1, i_zero, b01_z, b01_o, i_10, i_01, not_true_eq_false, not_false_eq_true, Bool.false_eq_true, Int.le_refl, Int.add_zero, Int.zero_add, upA_upA, upS_upS, false_and, and_false, i_sm1, Nat.lt_irrefl, Int.lt_irrefl, Int.reduceEq, Int.cast_ofNat_Int, Int.reduceSub, Int.reduceAdd, Int.reduceMul, Int.reduceLE, Int.reduceLT, Nat.reduceLT, wA0, wA1, wA2, wA3, wA4, wA5, wA6, wA7, wSx, setC_s, setC_u, setC_A, setC_r, upS_A, setC_0, setC_1, setC_2, setC_3, setC_4, setC_5, setC_6, setC_t0, setC_t1, setC_t2, setC_t3, setC_t4, setC_t5, setC_t6, h4, i_add]
  first | exact ⟨_, rfl, rfl⟩ | skip
theorem q14 {d N S : Nat} (hd : 1 ≤ d) {h : aH} {b : Nat} {c : Cc} {n : Nat} {x y : Int32} (hb : b + 9 ≤ h.1) (hn : n < 5) (h3 : c.1 3 = Int32.ofInt (n : Int)) : aAt d N S 14 [.ref b, .int x, .int y] (putC h b c) (fun r h' => r = none ∧ ∃ c', h' = putC h b c' ∧ c' = upA (upA (upS c 3 (Int32.ofInt ((n : Int) + 1))) 0 (upd (c.2 0) n x)) 1 (upd (c.2 1) n y)) := by
  obtain ⟨d, rfl⟩ : ∃ e, d = e + 1 := ⟨d - 1, by omega⟩
  have hd : 0 ≤ d := by omega
  refine at_in (k := 14) rfl (by simp [lg_sl, Value.category]) fun P hP => ?_
  dsimp only at hP ⊢
  simp only [entL_i, entL_r, entL_l, entL_n, List.replicate]
  refine runT hP [] 100 ?_
  simp (implicitDefEqProofs := false) (dsimp := false) (disch := omega) only [↓exT_s, ↓sel_nil, ↓sel_eq, ↓sel_no, ↓tI_c, ↓tJ_c, ↓tR_c, ↓ldI_0, ↓ldI_s, ↓ldJ_0, ↓ldJ_s, ↓ldR_0, ↓ldR_f, ↓ldR_s, ↓lvS_0, ↓lvS_1n, ↓lvS_1i, ↓lvS_1r, ↓lvS_1f, ↓lvS_s, ↓lvS2_0, ↓lvS2_1n, ↓lvS2_1i, ↓lvS2_1r, ↓lvS2_s, ↓du1_i, ↓du1_r, ↓du2_ir, pu, optW_s, gW_s, gW_0, ixW_z, brW_T, brW_F, brW_n, ↓aldW_r, ↓aldW_f, ↓pfdW_c, ↓ivSW0, ↓ivSW1, ↓ivSW2, ↓ivSW3, ↓ivSW4, ↓ivSW5, ↓ivSW6, ↓ivVW0, ↓ivVW1, ↓ivVW2, ↓ivVW3, ↓ivVW4, ↓ivVW5, ↓ivVW6, pOW, pA0W, pA1W, pA2W, pA3W, pA4W, pA5W, pA6W, pA7W, ↓e14_0, ↓g14_1, ↓e14_4, ↓g14_5, ↓e14_8, ↓g14_9, ↓e14_10, ↓g14_11, ↓e14_14, ↓g14_15, ↓e14_18, ↓g14_19, ↓e14_20, ↓e14_21, ↓g14_22, ↓e14_25, ↓e14_26, ↓g14_27, ↓e14_30, true_and, and_true, true_or, or_true, false_or, or_false, Option.some.injEq, reduceCtorEq, ↓b01_ok, br_not, Nat.reduceLeDiff, Nat.zero_le, List.length_cons, List.length_nil, List.set_cons_succ, List.set_cons_zero, pv_i, pv_r, tn_n, tn_a2, tn_m2, Int.reduceToNat, upd_s, br_T, br_F, reduceIte, Nat.reduceEqDiff, Nat.reduceAdd, Int.reduceNeg, eq_self, upS_1, upS_2, upA_1, upA_2, if_true, if_false, ↓rtb0, ↓rtb1, i_zero, b01_z, b01_o, i_10, i_01, not_true_eq_false, not_false_eq_true, Bool.false_eq_true, Int.le_refl, Int.add_zero, Int.zero_add, upA_upA, upS_upS, false_and, and_false, i_sm1, Nat.lt_irrefl, Int.lt_irrefl, Int.reduceEq, Int.cast_ofNat_Int, Int.reduceSub, Int.reduceAdd, Int.reduceMul, Int.reduceLE, Int.reduceLT, Nat.reduceLT, wA0, wA1, wA2, wA3, wA4, wA5, wA6, wA7, wSx, setC_s, setC_u, setC_A, setC_r, upS_A, setC_0, setC_1, setC_2, setC_3, setC_4, setC_5, setC_6, setC_t0, setC_t1, setC_t2, setC_t3, setC_t4, setC_t5, setC_t6, h3, i_add]
  first | exact ⟨_, rfl, rfl⟩ | skip

/-! undo -/
def aBack (A : Nat × Nat × (Nat → Kc)) : Nat × Nat × (Nat → Kc) := (A.1 - 1, (A.2.1 + 23) % 24, fun j => A.2.2 (j + 1))
set_option maxHeartbeats 4000000 in
theorem q3 {d N S : Nat} (hd : 2 ≤ d) {h : aH} {w : Xc} {A : Nat × Nat × (Nat → Kc)} (hb : 293 ≤ h.1) (hA : XsA (w.1 2) w.2.2 A) (a0 : 1 ≤ A.1) (a1 : A.1 ≤ 24) (a2 : A.2.1 < 24) (w5 : (A.2.2 0).1 3 ≤ 5) (w6 : (A.2.2 0).1 4 ≤ 6) : aAt d N S 3 [.ref 33, .ref 24] (putX h w) (fun x h' => x = none ∧ ∃ w' c l, h' = putX h (upC w' 1 c) ∧ frA w w' ∧ CK c (A.2.2 0) l ∧ XsA (w'.1 2) w'.2.2 (aBack A)) := by
  obtain ⟨n, nx, ks⟩ := A
  dsimp only at a0 a1 a2 w5 w6
  obtain ⟨y1, y2, y3⟩ := hA
  dsimp only at y1 y2 y3
  obtain ⟨l, hC⟩ := y3 0 (by omega)
  rw [Nat.sub_zero] at hC
  have a3 := Nat.mod_lt (nx + 23) (show 24 > 0 by omega)
  have e1 : Int32.ofInt ((nx : Int) + 24 - 1) - Int32.ofInt ((nx : Int) + 24 - 1) / Int32.ofInt 24 * Int32.ofInt 24 = Int32.ofInt (((nx + 23) % 24 : Nat) : Int) := by
    rw [i_rem (by omega) (by omega) (by omega) (by omega)]
    congr 1
    omega
  have c24 : ((24 : Int) = 0) = False := eq_false (by omega)
  have n1 : ((n - 1 : Nat) : Int) = (n : Int) - 1 := by omega
  let w' : Xc := upX w 2 (vec2 (Int32.ofInt (((nx + 23) % 24 : Nat) : Int)) (Int32.ofInt ((n : Int) - 1)))
  have e0 := q15X (d := d - 1) (N := h.1) (S := h.2.1) (h := h) (w := w') (i := 1) (j := 2 + (nx + 23) % 24) (by omega) hb (by omega) (by omega) (by omega) w5 w6 hC
  rw [casA_k a3] at e0
  obtain ⟨d, rfl⟩ : ∃ e, d = e + 1 := ⟨d - 1, by omega⟩
  have hd : 1 ≤ d := by omega
  refine at_in (k := 3) rfl (by simp [lg_sl, Value.category]) fun P hP => ?_
  dsimp only at hP ⊢
  simp only [entL_i, entL_r, entL_l, entL_n, List.replicate]
  rw [show d + 1 - 1 = d by omega] at e0
  refine runT hP [36] 100 ?_
  simp (implicitDefEqProofs := false) (dsimp := false) (disch := omega) only [↓exT_s, ↓sel_nil, ↓sel_eq, ↓sel_no, ↓tI_c, ↓tJ_c, ↓tR_c, ↓ldI_0, ↓ldI_s, ↓ldJ_0, ↓ldJ_s, ↓ldR_0, ↓ldR_f, ↓ldR_s, ↓lvS_0, ↓lvS_1n, ↓lvS_1i, ↓lvS_1r, ↓lvS_1f, ↓lvS_s, ↓lvS2_0, ↓lvS2_1n, ↓lvS2_1i, ↓lvS2_1r, ↓lvS2_s, ↓du1_i, ↓du1_r, ↓du2_ir, pu, optW_s, gW_s, gW_0, ixW_z, brW_T, brW_F, brW_n, ↓aldW_r, ↓aldW_f, ↓pfdW_c, ↓ivSW0, ↓ivSW1, ↓ivSW2, ↓ivSW3, ↓ivSW4, ↓ivSW5, ↓ivSW6, ↓ivVW0, ↓ivVW1, ↓ivVW2, ↓ivVW3, ↓ivVW4, ↓ivVW5, ↓ivVW6, xO0W, xO1W, xO13W, xO33W, xO251W, xO291W, xO14W, xO24W, xO252W, xO261W, xO273W, xO282W, xA11W, xA12W, xA23W, xA270W, xA271W, xA292W, xA15W, xA16W, xA17W, xA18W, xA19W, xA20W, xA21W, xA22W, xA25W, xA26W, xA27W, xA28W, xA29W, xA30W, xA31W, xA32W, xA253W, xA254W, xA255W, xA256W, xA257W, xA258W, xA259W, xA260W, xA262W, xA263W, xA264W, xA265W, xA266W, xA267W, xA268W, xA269W, xA274W, xA275W, xA276W, xA277W, xA278W, xA279W, xA280W, xA281W, xA283W, xA284W, xA285W, xA286W, xA287W, xA288W, xA289W, xA290W, xR2W, xR34W, xR272W, ifW, xItemW, yx16_24, yx16_273, yx16_282, yx17_24, yx18_24, yx19_24, yx20_24, yx20_252, ↓e3_0, ↓e3_1, ↓g3_2, ↓e3_5, ↓e3_7, ↓e3_8, ↓e3_9, ↓e3_10, ↓e3_12, ↓g3_13, ↓e3_16, ↓e3_17, ↓g3_18, ↓e3_21, ↓e3_22, ↓g3_23, ↓e3_26, ↓e3_27, ↓g3_28, ↓e3_31, ↓g3_32, ↓g3_35, ↓g3_36, ↓e3_39, true_and, and_true, true_or, or_true, false_or, or_false, Option.some.injEq, reduceCtorEq, ↓b01_ok, br_not, Nat.reduceLeDiff, Nat.zero_le, List.length_cons, List.length_nil, List.set_cons_succ, List.set_cons_zero, pv_i, pv_r, tn_n, tn_a2, tn_m2, Int.reduceToNat, upd_s, br_T, br_F, reduceIte, Nat.reduceEqDiff, Nat.reduceAdd, Int.reduceNeg, eq_self, upS_1, upS_2, upA_1, upA_2, if_true, if_false, ↓rtb0, ↓rtb1, i_zero, b01_z, b01_o, i_10, i_01, not_true_eq_false, not_false_eq_true, Bool.false_eq_true, Int.le_refl, Int.add_zero, Int.zero_add, upA_upA, upS_upS, false_and, and_false, i_sm1, Nat.lt_irrefl, Int.lt_irrefl, Int.reduceEq, Int.cast_ofNat_Int, Int.reduceSub, Int.reduceAdd, Int.reduceMul, Int.reduceLE, Int.reduceLT, Nat.reduceLT, zA11, zA12, zA23, zA270, zA271, zA292, zA15, zA16, zA17, zA18, zA19, zA20, zA21, zA22, zA25, zA26, zA27, zA28, zA29, zA30, zA31, zA32, zA253, zA254, zA255, zA256, zA257, zA258, zA259, zA260, zA262, zA263, zA264, zA265, zA266, zA267, zA268, zA269, zA274, zA275, zA276, zA277, zA278, zA279, zA280, zA281, zA283, zA284, zA285, zA286, zA287, zA288, zA289, zA290, zC14, zC24, zC252, zC261, zC273, zC282, zS0, zS13, zS33, zS251, zS291, zItem, upX_1, upX_21, upX_22, upR_1, upR_21, upR_22, upC_1, upC_21, upC_22, upX_upX, upR_upR, upC_upC, upX_R, upX_C, upR_C, vec2_0, vec2_1, vec4_0, vec4_1, vec4_2, vec4_3, vec5_0, vec5_1, vec5_2, vec5_3, vec5_4, upA_1, upA_2, upS_1, upS_2, setC_s, setC_u, setC_A, setC_r, upS_A, setC_0, setC_1, setC_2, setC_3, setC_4, setC_5, setC_6, setC_t0, setC_t1, setC_t2, setC_t3, setC_t4, setC_t5, setC_t6, y1, y2, i_add, i_sub, i_eq, c24, e1]
  refine kv1 hP rfl (xH24 hb) (by simp) (e0) ?_
  rintro _ _ ⟨rfl, c, rfl, hc⟩
  show P 39 _ _ _
  refine runT hP [] 100 ?_
  simp (implicitDefEqProofs := false) (dsimp := false) (disch := omega) only [↓exT_s, ↓sel_nil, ↓sel_eq, ↓sel_no, ↓tI_c, ↓tJ_c, ↓tR_c, ↓ldI_0, ↓ldI_s, ↓ldJ_0, ↓ldJ_s, ↓ldR_0, ↓ldR_f, ↓ldR_s, ↓lvS_0, ↓lvS_1n, ↓lvS_1i, ↓lvS_1r, ↓lvS_1f, ↓lvS_s, ↓lvS2_0, ↓lvS2_1n, ↓lvS2_1i, ↓lvS2_1r, ↓lvS2_s, ↓du1_i, ↓du1_r, ↓du2_ir, pu, optW_s, gW_s, gW_0, ixW_z, brW_T, brW_F, brW_n, ↓aldW_r, ↓aldW_f, ↓pfdW_c, ↓ivSW0, ↓ivSW1, ↓ivSW2, ↓ivSW3, ↓ivSW4, ↓ivSW5, ↓ivSW6, ↓ivVW0, ↓ivVW1, ↓ivVW2, ↓ivVW3, ↓ivVW4, ↓ivVW5, ↓ivVW6, xO0W, xO1W, xO13W, xO33W, xO251W, xO291W, xO14W, xO24W, xO252W, xO261W, xO273W, xO282W, xA11W, xA12W, xA23W, xA270W, xA271W, xA292W, xA15W, xA16W, xA17W, xA18W, xA19W, xA20W, xA21W, xA22W, xA25W, xA26W, xA27W, xA28W, xA29W, xA30W, xA31W, xA32W, xA253W, xA254W, xA255W, xA256W, xA257W, xA258W, xA259W, xA260W, xA262W, xA263W, xA264W, xA265W, xA266W, xA267W, xA268W, xA269W, xA274W, xA275W, xA276W, xA277W, xA278W, xA279W, xA280W, xA281W, xA283W, xA284W, xA285W, xA286W, xA287W, xA288W, xA289W, xA290W, xR2W, xR34W, xR272W, ifW, xItemW, yx16_24, yx16_273, yx16_282, yx17_24, yx18_24, yx19_24, yx20_24, yx20_252, ↓e3_0, ↓e3_1, ↓g3_2, ↓e3_5, ↓e3_7, ↓e3_8, ↓e3_9, ↓e3_10, ↓e3_12, ↓g3_13, ↓e3_16, ↓e3_17, ↓g3_18, ↓e3_21, ↓e3_22, ↓g3_23, ↓e3_26, ↓e3_27, ↓g3_28, ↓e3_31, ↓g3_32, ↓g3_35, ↓g3_36, ↓e3_39, true_and, and_true, true_or, or_true, false_or, or_false, Option.some.injEq, reduceCtorEq, ↓b01_ok, br_not, Nat.reduceLeDiff, Nat.zero_le, List.length_cons, List.length_nil, List.set_cons_succ, List.set_cons_zero, pv_i, pv_r, tn_n, tn_a2, tn_m2, Int.reduceToNat, upd_s, br_T, br_F, reduceIte, Nat.reduceEqDiff, Nat.reduceAdd, Int.reduceNeg, eq_self, upS_1, upS_2, upA_1, upA_2, if_true, if_false, ↓rtb0, ↓rtb1, i_zero, b01_z, b01_o, i_10, i_01, not_true_eq_false, not_false_eq_true, Bool.false_eq_true, Int.le_refl, Int.add_zero, Int.zero_add, upA_upA, upS_upS, false_and, and_false, i_sm1, Nat.lt_irrefl, Int.lt_irrefl, Int.reduceEq, Int.cast_ofNat_Int, Int.reduceSub, Int.reduceAdd, Int.reduceMul, Int.reduceLE, Int.reduceLT, Nat.reduceLT, zA11, zA12, zA23, zA270, zA271, zA292, zA15, zA16, zA17, zA18, zA19, zA20, zA21, zA22, zA25, zA26, zA27, zA28, zA29, zA30, zA31, zA32, zA253, zA254, zA255, zA256, zA257, zA258, zA259, zA260, zA262, zA263, zA264, zA265, zA266, zA267, zA268, zA269, zA274, zA275, zA276, zA277, zA278, zA279, zA280, zA281, zA283, zA284, zA285, zA286, zA287, zA288, zA289, zA290, zC14, zC24, zC252, zC261, zC273, zC282, zS0, zS13, zS33, zS251, zS291, zItem, upX_1, upX_21, upX_22, upR_1, upR_21, upR_22, upC_1, upC_21, upC_22, upX_upX, upR_upR, upC_upC, upX_R, upX_C, upR_C, vec2_0, vec2_1, vec4_0, vec4_1, vec4_2, vec4_3, vec5_0, vec5_1, vec5_2, vec5_3, vec5_4, upA_1, upA_2, upS_1, upS_2, setC_s, setC_u, setC_A, setC_r, upS_A, setC_0, setC_1, setC_2, setC_3, setC_4, setC_5, setC_6, setC_t0, setC_t1, setC_t2, setC_t3, setC_t4, setC_t5, setC_t6]
  refine ⟨w', c, l, rfl, ⟨fun j hj => ?_, rfl, fun j hj => rfl⟩, hc, rfl, ?_, fun j hj => ?_⟩
  · show (upX w 2 _).1 j = w.1 j
    rw [upX_1, if_neg hj]
  · show Int32.ofInt ((n : Int) - 1) = Int32.ofInt ((n - 1 : Nat) : Int)
    rw [n1]
  · have hj' : j < n - 1 := hj
    show ∃ l, CK (w.2.2 (2 + ((nx + 23) % 24 + 23 - j) % 24)) (ks (j + 1)) l
    rw [show ((nx + 23) % 24 + 23 - j) % 24 = (nx + 23 - (j + 1)) % 24 by omega]
    exact y3 (j + 1) (by omega)
theorem frM_c {m : Cc} {k : Nat} {g : Nat → Int32} : (upA m k g).1 = m.1 := rfl
set_option maxHeartbeats 4000000 in
theorem b_undo : Both 98 179 [] := by
  intro w m s hs hX hM
  have hs0 := hs
  have hX0 := hX
  have hM0 := hM
  obtain ⟨R, F, T, C, A, I, B⟩ := s
  obtain ⟨s1, s2, s3, s4, s5, s6⟩ := hs
  obtain ⟨x1, x2, x3, x4, x5, x6, x7, x8⟩ := hX
  obtain ⟨m1, m2, m3, m4, m5, m6, m7⟩ := hM
  dsimp only at s1 s2 s3 s4 s5 s6 x1 x2 x3 x4 x5 x6 x7 x8 m1 m2 m3 m4 m5 m6 m7
  obtain ⟨rd, K⟩ := C
  obtain ⟨l, hC⟩ := x4
  have hC0 := hC
  obtain ⟨k0, k1, k2, k3, k4, k5, k6, kh, ka⟩ := hC
  obtain ⟨m41, hL, hO⟩ := m4
  have hL0 := hL
  have hO0 := hO
  obtain ⟨l1, l2, l3, l4, l5, l6⟩ := hL
  obtain ⟨o1, o2, o3, o4⟩ := hO
  obtain ⟨w3, w4, w0, w1, w2, w5⟩ := cOk_b s3
  dsimp only at m41 hC0 hL0 hO0 k0 k1 k2 k3 k4 k5 kh ka l1 l2 l3 l4 l5 l6 o1 o2 o3 o4 w3 w4 w0 w1 w2 w5
  obtain ⟨n, nx, ks⟩ := A
  obtain ⟨a1, a2, a3⟩ := s4
  dsimp only at a1 a2 a3
  have y1 := x5.1
  have y2 := x5.2.1
  obtain ⟨u1, u2, u3⟩ := m5
  dsimp only at y1 y2 u1 u2 u3
  by_cases c1 : 1 ≤ n
  · have d1 : ((1 : Int) ≤ (n : Int)) = True := eq_true (by omega)
    have d2 : ((n : Int) = 0) = False := eq_false (by omega)
    obtain ⟨hrd, hK1, hsl⟩ := a3 0 (by omega)
    obtain rfl : rd = true := hrd
    obtain ⟨b3, b4⟩ := KOk_b hK1
    have a4 := Nat.mod_lt (nx + 23) (show 24 > 0 by omega)
    refine ⟨Int32.ofInt ((n - 1 : Nat) : Int), (R, F, T, (true, ks 0), aBack (n, nx, ks), I, B), ⟨s1, s2, .inl ⟨rfl, hK1⟩, ⟨by show n - 1 ≤ 24; omega, a4, fun j hj => ?_⟩, s5, s6⟩, ?_, ?_⟩
    · have hj' : j < n - 1 := hj
      obtain ⟨q1, q2, q3⟩ := a3 (j + 1) (by omega)
      exact ⟨rfl, q2, sLw_tr q3 (sLw_sym hsl)⟩
    · intro d N S hd h hb
      obtain ⟨d, rfl⟩ : ∃ e, d = e + 1 := ⟨d - 1, by omega⟩
      have hd : 19 ≤ d := by omega
      refine at_in (k := 98) rfl (by simp [lg_sl, Value.category]) fun P hP => ?_
      dsimp only at hP ⊢
      simp only [entL_i, entL_r, entL_l, entL_n, List.replicate]
      refine runF (cl2_ok (by omega)) hP [22] 100 ?_
      simp (implicitDefEqProofs := false) (dsimp := false) (disch := omega) only [↓exT_s, ↓sel_nil, ↓sel_eq, ↓sel_no, ↓tI_c, ↓tJ_c, ↓tR_c, ↓ldI_0, ↓ldI_s, ↓ldJ_0, ↓ldJ_s, ↓ldR_0, ↓ldR_f, ↓ldR_s, ↓lvS_0, ↓lvS_1n, ↓lvS_1i, ↓lvS_1r, ↓lvS_1f, ↓lvS_s, ↓lvS2_0, ↓lvS2_1n, ↓lvS2_1i, ↓lvS2_1r, ↓lvS2_s, ↓du1_i, ↓du1_r, ↓du2_ir, pu, optW_s, gW_s, gW_0, ixW_z, brW_T, brW_F, brW_n, ↓aldW_r, ↓aldW_f, ↓pfdW_c, ↓ivSW0, ↓ivSW1, ↓ivSW2, ↓ivSW3, ↓ivSW4, ↓ivSW5, ↓ivSW6, ↓ivVW0, ↓ivVW1, ↓ivVW2, ↓ivVW3, ↓ivVW4, ↓ivVW5, ↓ivVW6, y2_131W, y2_132W, y2_135W, y2_136W, y2_165W, y2_89W, y2_79W, y2_141W, y2_76W, y2_150W, y2_191W, y2_168W, xO0W, xO1W, xO13W, xO33W, xO251W, xO291W, xO14W, xO24W, xO252W, xO261W, xO273W, xO282W, xA11W, xA12W, xA23W, xA270W, xA271W, xA292W, xA15W, xA16W, xA17W, xA18W, xA19W, xA20W, xA21W, xA22W, xA25W, xA26W, xA27W, xA28W, xA29W, xA30W, xA31W, xA32W, xA253W, xA254W, xA255W, xA256W, xA257W, xA258W, xA259W, xA260W, xA262W, xA263W, xA264W, xA265W, xA266W, xA267W, xA268W, xA269W, xA274W, xA275W, xA276W, xA277W, xA278W, xA279W, xA280W, xA281W, xA283W, xA284W, xA285W, xA286W, xA287W, xA288W, xA289W, xA290W, xR2W, xR34W, xR272W, ifW, xItemW, yx16_24, yx16_273, yx16_282, yx17_24, yx18_24, yx19_24, yx20_24, yx20_252, ↓e98_0, ↓g98_1, ↓g98_4, ↓e98_7, ↓g98_8, ↓e98_11, ↓e98_13, ↓e98_14, ↓g98_15, ↓e98_18, ↓g98_19, ↓g98_22, ↓e98_25, ↓g98_26, ↓g98_29, ↓e98_32, true_and, and_true, true_or, or_true, false_or, or_false, Option.some.injEq, reduceCtorEq, ↓b01_ok, br_not, Nat.reduceLeDiff, Nat.zero_le, List.length_cons, List.length_nil, List.set_cons_succ, List.set_cons_zero, pv_i, pv_r, tn_n, tn_a2, tn_m2, Int.reduceToNat, upd_s, br_T, br_F, reduceIte, Nat.reduceEqDiff, Nat.reduceAdd, Int.reduceNeg, eq_self, upS_1, upS_2, upA_1, upA_2, if_true, if_false, ↓rtb0, ↓rtb1, i_zero, b01_z, b01_o, i_10, i_01, not_true_eq_false, not_false_eq_true, Bool.false_eq_true, Int.le_refl, Int.add_zero, Int.zero_add, upA_upA, upS_upS, false_and, and_false, i_sm1, Nat.lt_irrefl, Int.lt_irrefl, Int.reduceEq, Int.cast_ofNat_Int, Int.reduceSub, Int.reduceAdd, Int.reduceMul, Int.reduceLE, Int.reduceLT, Nat.reduceLT, zA11, zA12, zA23, zA270, zA271, zA292, zA15, zA16, zA17, zA18, zA19, zA20, zA21, zA22, zA25, zA26, zA27, zA28, zA29, zA30, zA31, zA32, zA253, zA254, zA255, zA256, zA257, zA258, zA259, zA260, zA262, zA263, zA264, zA265, zA266, zA267, zA268, zA269, zA274, zA275, zA276, zA277, zA278, zA279, zA280, zA281, zA283, zA284, zA285, zA286, zA287, zA288, zA289, zA290, zC14, zC24, zC252, zC261, zC273, zC282, zS0, zS13, zS33, zS251, zS291, zItem, upX_1, upX_21, upX_22, upR_1, upR_21, upR_22, upC_1, upC_21, upC_22, upX_upX, upR_upR, upC_upC, upX_R, upX_C, upR_C, vec2_0, vec2_1, vec4_0, vec4_1, vec4_2, vec4_3, vec5_0, vec5_1, vec5_2, vec5_3, vec5_4, upA_1, upA_2, upS_1, upS_2, setC_s, setC_u, setC_A, setC_r, upS_A, setC_0, setC_1, setC_2, setC_3, setC_4, setC_5, setC_6, setC_t0, setC_t1, setC_t2, setC_t3, setC_t4, setC_t5, setC_t6, y2, i_le, d1]
      refine kv1 hP rfl (xH33 hb) (by simp) (q3 (A := (n, nx, ks)) (by omega) hb x5 c1 a1 a2 b3 b4) ?_
      rintro _ _ ⟨rfl, w', c, l', rfl, hfr, hc, hA'⟩
      show P 25 _ _ _
      have e1 : w'.1 2 1 = Int32.ofInt ((n - 1 : Nat) : Int) := hA'.2.1
      refine runF (cl2_ok (by omega)) hP [] 100 ?_
      simp (implicitDefEqProofs := false) (dsimp := false) (disch := omega) only [↓exT_s, ↓sel_nil, ↓sel_eq, ↓sel_no, ↓tI_c, ↓tJ_c, ↓tR_c, ↓ldI_0, ↓ldI_s, ↓ldJ_0, ↓ldJ_s, ↓ldR_0, ↓ldR_f, ↓ldR_s, ↓lvS_0, ↓lvS_1n, ↓lvS_1i, ↓lvS_1r, ↓lvS_1f, ↓lvS_s, ↓lvS2_0, ↓lvS2_1n, ↓lvS2_1i, ↓lvS2_1r, ↓lvS2_s, ↓du1_i, ↓du1_r, ↓du2_ir, pu, optW_s, gW_s, gW_0, ixW_z, brW_T, brW_F, brW_n, ↓aldW_r, ↓aldW_f, ↓pfdW_c, ↓ivSW0, ↓ivSW1, ↓ivSW2, ↓ivSW3, ↓ivSW4, ↓ivSW5, ↓ivSW6, ↓ivVW0, ↓ivVW1, ↓ivVW2, ↓ivVW3, ↓ivVW4, ↓ivVW5, ↓ivVW6, y2_131W, y2_132W, y2_135W, y2_136W, y2_165W, y2_89W, y2_79W, y2_141W, y2_76W, y2_150W, y2_191W, y2_168W, xO0W, xO1W, xO13W, xO33W, xO251W, xO291W, xO14W, xO24W, xO252W, xO261W, xO273W, xO282W, xA11W, xA12W, xA23W, xA270W, xA271W, xA292W, xA15W, xA16W, xA17W, xA18W, xA19W, xA20W, xA21W, xA22W, xA25W, xA26W, xA27W, xA28W, xA29W, xA30W, xA31W, xA32W, xA253W, xA254W, xA255W, xA256W, xA257W, xA258W, xA259W, xA260W, xA262W, xA263W, xA264W, xA265W, xA266W, xA267W, xA268W, xA269W, xA274W, xA275W, xA276W, xA277W, xA278W, xA279W, xA280W, xA281W, xA283W, xA284W, xA285W, xA286W, xA287W, xA288W, xA289W, xA290W, xR2W, xR34W, xR272W, ifW, xItemW, yx16_24, yx16_273, yx16_282, yx17_24, yx18_24, yx19_24, yx20_24, yx20_252, ↓e98_0, ↓g98_1, ↓g98_4, ↓e98_7, ↓g98_8, ↓e98_11, ↓e98_13, ↓e98_14, ↓g98_15, ↓e98_18, ↓g98_19, ↓g98_22, ↓e98_25, ↓g98_26, ↓g98_29, ↓e98_32, true_and, and_true, true_or, or_true, false_or, or_false, Option.some.injEq, reduceCtorEq, ↓b01_ok, br_not, Nat.reduceLeDiff, Nat.zero_le, List.length_cons, List.length_nil, List.set_cons_succ, List.set_cons_zero, pv_i, pv_r, tn_n, tn_a2, tn_m2, Int.reduceToNat, upd_s, br_T, br_F, reduceIte, Nat.reduceEqDiff, Nat.reduceAdd, Int.reduceNeg, eq_self, upS_1, upS_2, upA_1, upA_2, if_true, if_false, ↓rtb0, ↓rtb1, i_zero, b01_z, b01_o, i_10, i_01, not_true_eq_false, not_false_eq_true, Bool.false_eq_true, Int.le_refl, Int.add_zero, Int.zero_add, upA_upA, upS_upS, false_and, and_false, i_sm1, Nat.lt_irrefl, Int.lt_irrefl, Int.reduceEq, Int.cast_ofNat_Int, Int.reduceSub, Int.reduceAdd, Int.reduceMul, Int.reduceLE, Int.reduceLT, Nat.reduceLT, zA11, zA12, zA23, zA270, zA271, zA292, zA15, zA16, zA17, zA18, zA19, zA20, zA21, zA22, zA25, zA26, zA27, zA28, zA29, zA30, zA31, zA32, zA253, zA254, zA255, zA256, zA257, zA258, zA259, zA260, zA262, zA263, zA264, zA265, zA266, zA267, zA268, zA269, zA274, zA275, zA276, zA277, zA278, zA279, zA280, zA281, zA283, zA284, zA285, zA286, zA287, zA288, zA289, zA290, zC14, zC24, zC252, zC261, zC273, zC282, zS0, zS13, zS33, zS251, zS291, zItem, upX_1, upX_21, upX_22, upR_1, upR_21, upR_22, upC_1, upC_21, upC_22, upX_upX, upR_upR, upC_upC, upX_R, upX_C, upR_C, vec2_0, vec2_1, vec4_0, vec4_1, vec4_2, vec4_3, vec5_0, vec5_1, vec5_2, vec5_3, vec5_4, upA_1, upA_2, upS_1, upS_2, setC_s, setC_u, setC_A, setC_r, upS_A, setC_0, setC_1, setC_2, setC_3, setC_4, setC_5, setC_6, setC_t0, setC_t1, setC_t2, setC_t3, setC_t4, setC_t5, setC_t6, e1]
      exact ⟨rfl, _, rfl, XI_now (XI_keep hfr hX0 hA') ⟨l', hc⟩⟩
    · have e1 : Int32.ofInt ((nx : Int) + 24 - 1) - Int32.ofInt ((nx : Int) + 24 - 1) / Int32.ofInt 24 * Int32.ofInt 24 = Int32.ofInt (((nx + 23) % 24 : Nat) : Int) := by
        rw [i_rem (by omega) (by omega) (by omega) (by omega)]
        congr 1
        omega
      have c24 : ((24 : Int) = 0) = False := eq_false (by omega)
      have e34 : ∀ k : Nat, (34 * (((nx + 23) % 24 : Nat) : Int) + (k : Int)).toNat = 34 * ((nx + 23) % 24) + k := fun k => by omega
      have n1 : ((n - 1 : Nat) : Int) = (n : Int) - 1 := by omega
      intro d N' S' hd h2 b hb2
      obtain ⟨d, rfl⟩ : ∃ e, d = e + 1 := ⟨d - 1, by omega⟩
      have hd : 19 ≤ d := by omega
      refine at_in (k := 179) rfl (by simp [lg_sl, Value.category]) fun P hP => ?_
      dsimp only at hP ⊢
      simp only [entL_i, entL_r, entL_l, entL_n, List.replicate]
      refine runF (cl2_ok (by omega)) hP [38] 100 ?_
      simp (implicitDefEqProofs := false) (dsimp := false) (disch := omega) only [↓exT_s, ↓sel_nil, ↓sel_eq, ↓sel_no, ↓tI_c, ↓tJ_c, ↓tR_c, ↓ldI_0, ↓ldI_s, ↓ldJ_0, ↓ldJ_s, ↓ldR_0, ↓ldR_f, ↓ldR_s, ↓lvS_0, ↓lvS_1n, ↓lvS_1i, ↓lvS_1r, ↓lvS_1f, ↓lvS_s, ↓lvS2_0, ↓lvS2_1n, ↓lvS2_1i, ↓lvS2_1r, ↓lvS2_s, ↓du1_i, ↓du1_r, ↓du2_ir, pu, optW_s, gW_s, gW_0, ixW_z, brW_T, brW_F, brW_n, ↓aldW_r, ↓aldW_f, ↓pfdW_c, ↓ivSW0, ↓ivSW1, ↓ivSW2, ↓ivSW3, ↓ivSW4, ↓ivSW5, ↓ivSW6, ↓ivVW0, ↓ivVW1, ↓ivVW2, ↓ivVW3, ↓ivVW4, ↓ivVW5, ↓ivVW6, y2_131W, y2_132W, y2_135W, y2_136W, y2_165W, y2_89W, y2_79W, y2_141W, y2_76W, y2_150W, y2_191W, y2_168W, y2_16W, y2_17W, y2_18W, y2_19W, y2_20W, y2_162W, y2_163W, y2_164W, y2_180W, mOW, mAJW, mA0W, mA1W, mA2W, mA3W, mA4W, mA5W, mA6W, mA7W, mA8W, mA9W, mA10W, mA11W, mA12W, mA13W, mA14W, mA15W, ↓e179_0, ↓g179_1, ↓g179_4, ↓e179_7, ↓e179_9, ↓e179_10, ↓e179_11, ↓g179_12, ↓e179_15, ↓e179_17, ↓e179_18, ↓e179_19, ↓e179_20, ↓e179_22, ↓g179_23, ↓e179_26, ↓e179_27, ↓g179_28, ↓e179_31, ↓e179_32, ↓g179_33, ↓e179_36, ↓e179_37, ↓e179_38, ↓e179_39, ↓g179_41, ↓e179_44, ↓g179_45, ↓e179_48, ↓e179_49, ↓g179_50, ↓e179_53, ↓e179_55, ↓g179_56, ↓e179_59, ↓e179_60, ↓e179_61, ↓g179_62, ↓g179_63, ↓e179_64, ↓e179_67, ↓e179_70, ↓g179_71, ↓e179_74, true_and, and_true, true_or, or_true, false_or, or_false, Option.some.injEq, reduceCtorEq, ↓b01_ok, br_not, Nat.reduceLeDiff, Nat.zero_le, List.length_cons, List.length_nil, List.set_cons_succ, List.set_cons_zero, pv_i, pv_r, tn_n, tn_a2, tn_m2, Int.reduceToNat, upd_s, br_T, br_F, reduceIte, Nat.reduceEqDiff, Nat.reduceAdd, Int.reduceNeg, eq_self, upS_1, upS_2, upA_1, upA_2, if_true, if_false, ↓rtb0, ↓rtb1, i_zero, b01_z, b01_o, i_10, i_01, not_true_eq_false, not_false_eq_true, Bool.false_eq_true, Int.le_refl, Int.add_zero, Int.zero_add, upA_upA, upS_upS, false_and, and_false, i_sm1, Nat.lt_irrefl, Int.lt_irrefl, Int.reduceEq, Int.cast_ofNat_Int, Int.reduceSub, Int.reduceAdd, Int.reduceMul, Int.reduceLE, Int.reduceLT, Nat.reduceLT, nAJ, nA0, nA1, nA2, nA3, nA4, nA5, nA6, nA7, nA8, nA9, nA10, nA11, nA12, nA13, nA14, nA15, nSx, setM_s, setM_u, setM_A, setM_r, upS_A, setM_0, setM_1, setM_2, setM_3, setM_4, setM_5, setM_6, setM_7, setM_8, setM_9, setM_10, setM_11, setM_12, setM_t0, setM_t1, setM_t2, setM_t3, setM_t4, setM_t5, setM_t6, setM_t7, setM_t8, setM_t9, setM_t10, setM_t11, setM_t12, u1, u2, i_eq, d2, i_add, i_sub, c24, e1, setM_o]
      generalize hm' : upS (upS m 10 (Int32.ofInt ((n : Int) - 1))) 11 (Int32.ofInt (((nx + 23) % 24 : Nat) : Int)) = m'
      have f1 : ∀ k, k ≠ 10 → k ≠ 11 → m'.1 k = m.1 k := by
        intro k k1 k2
        rw [← hm', upS_1, if_neg k2, upS_1, if_neg k1]
      have f2 : m'.2 = m.2 := by rw [← hm']; rfl
      have f3 : m'.1 10 = Int32.ofInt ((n : Int) - 1) := by rw [← hm']; rfl
      have f4 : m'.1 11 = Int32.ofInt (((nx + 23) % 24 : Nat) : Int) := by rw [← hm']; rfl
      suffices ho : ∀ (fuel k : Nat) (g : Nat → Int32), k + fuel = 34 → (∀ x, x < k → g x = m.2 10 (34 * ((nx + 23) % 24) + x)) → P 38 [some (.ref b), some (.int (Int32.ofInt (k : Int)))] [] (putM h2 b (upA m' 8 g)) by
        have := ho 34 0 (m'.2 8) (by omega) (fun x hx => absurd hx (by omega))
        rw [upA_id] at this
        exact this
      intro fuel
      induction fuel with
      | zero =>
        intro k g hk hg
        obtain rfl : k = 34 := by omega
        refine runF (cl2_ok (by omega)) hP [] 100 ?_
        simp (implicitDefEqProofs := false) (dsimp := false) (disch := omega) only [↓exT_s, ↓sel_nil, ↓sel_eq, ↓sel_no, ↓tI_c, ↓tJ_c, ↓tR_c, ↓ldI_0, ↓ldI_s, ↓ldJ_0, ↓ldJ_s, ↓ldR_0, ↓ldR_f, ↓ldR_s, ↓lvS_0, ↓lvS_1n, ↓lvS_1i, ↓lvS_1r, ↓lvS_1f, ↓lvS_s, ↓lvS2_0, ↓lvS2_1n, ↓lvS2_1i, ↓lvS2_1r, ↓lvS2_s, ↓du1_i, ↓du1_r, ↓du2_ir, pu, optW_s, gW_s, gW_0, ixW_z, brW_T, brW_F, brW_n, ↓aldW_r, ↓aldW_f, ↓pfdW_c, ↓ivSW0, ↓ivSW1, ↓ivSW2, ↓ivSW3, ↓ivSW4, ↓ivSW5, ↓ivSW6, ↓ivVW0, ↓ivVW1, ↓ivVW2, ↓ivVW3, ↓ivVW4, ↓ivVW5, ↓ivVW6, y2_131W, y2_132W, y2_135W, y2_136W, y2_165W, y2_89W, y2_79W, y2_141W, y2_76W, y2_150W, y2_191W, y2_168W, y2_16W, y2_17W, y2_18W, y2_19W, y2_20W, y2_162W, y2_163W, y2_164W, y2_180W, mOW, mAJW, mA0W, mA1W, mA2W, mA3W, mA4W, mA5W, mA6W, mA7W, mA8W, mA9W, mA10W, mA11W, mA12W, mA13W, mA14W, mA15W, ↓e179_0, ↓g179_1, ↓g179_4, ↓e179_7, ↓e179_9, ↓e179_10, ↓e179_11, ↓g179_12, ↓e179_15, ↓e179_17, ↓e179_18, ↓e179_19, ↓e179_20, ↓e179_22, ↓g179_23, ↓e179_26, ↓e179_27, ↓g179_28, ↓e179_31, ↓e179_32, ↓g179_33, ↓e179_36, ↓e179_37, ↓e179_38, ↓e179_39, ↓g179_41, ↓e179_44, ↓g179_45, ↓e179_48, ↓e179_49, ↓g179_50, ↓e179_53, ↓e179_55, ↓g179_56, ↓e179_59, ↓e179_60, ↓e179_61, ↓g179_62, ↓g179_63, ↓e179_64, ↓e179_67, ↓e179_70, ↓g179_71, ↓e179_74, true_and, and_true, true_or, or_true, false_or, or_false, Option.some.injEq, reduceCtorEq, ↓b01_ok, br_not, Nat.reduceLeDiff, Nat.zero_le, List.length_cons, List.length_nil, List.set_cons_succ, List.set_cons_zero, pv_i, pv_r, tn_n, tn_a2, tn_m2, Int.reduceToNat, upd_s, br_T, br_F, reduceIte, Nat.reduceEqDiff, Nat.reduceAdd, Int.reduceNeg, eq_self, upS_1, upS_2, upA_1, upA_2, if_true, if_false, ↓rtb0, ↓rtb1, i_zero, b01_z, b01_o, i_10, i_01, not_true_eq_false, not_false_eq_true, Bool.false_eq_true, Int.le_refl, Int.add_zero, Int.zero_add, upA_upA, upS_upS, false_and, and_false, i_sm1, Nat.lt_irrefl, Int.lt_irrefl, Int.reduceEq, Int.cast_ofNat_Int, Int.reduceSub, Int.reduceAdd, Int.reduceMul, Int.reduceLE, Int.reduceLT, Nat.reduceLT, nAJ, nA0, nA1, nA2, nA3, nA4, nA5, nA6, nA7, nA8, nA9, nA10, nA11, nA12, nA13, nA14, nA15, nSx, setM_s, setM_u, setM_A, setM_r, upS_A, setM_0, setM_1, setM_2, setM_3, setM_4, setM_5, setM_6, setM_7, setM_8, setM_9, setM_10, setM_11, setM_12, setM_t0, setM_t1, setM_t2, setM_t3, setM_t4, setM_t5, setM_t6, setM_t7, setM_t8, setM_t9, setM_t10, setM_t11, setM_t12, i_le, f3]
        refine ⟨by rw [n1], _, rfl, ?_⟩
        have hR : ROf g (ks 0) := by
          have := u3 0 (by omega)
          rw [Nat.sub_zero] at this
          exact ROf_eq b3 b4 (fun k hk => hg k hk) this
        refine MI_now (K := K) (MI_keep ⟨f1, fun k _ => by rw [f2]⟩ hM0 ⟨f4, ?_, fun j hj => ?_⟩) (sLw_sym hsl) hR
        · show m'.1 10 = Int32.ofInt ((n - 1 : Nat) : Int)
          rw [f3, n1]
        · have hj' : j < n - 1 := hj
          rw [f2]
          show ROf (fun k => m.2 10 (34 * (((nx + 23) % 24 + 23 - j) % 24) + k)) (ks (j + 1))
          rw [show ((nx + 23) % 24 + 23 - j) % 24 = (nx + 23 - (j + 1)) % 24 by omega]
          exact u3 (j + 1) (by omega)
      | succ fuel ih =>
        intro k g hk hg
        have hge : ((34 : Int) ≤ (k : Int)) = False := eq_false (by omega)
        refine runF (cl2_ok (by omega)) hP [38] 100 ?_
        simp (implicitDefEqProofs := false) (dsimp := false) (disch := omega) only [↓exT_s, ↓sel_nil, ↓sel_eq, ↓sel_no, ↓tI_c, ↓tJ_c, ↓tR_c, ↓ldI_0, ↓ldI_s, ↓ldJ_0, ↓ldJ_s, ↓ldR_0, ↓ldR_f, ↓ldR_s, ↓lvS_0, ↓lvS_1n, ↓lvS_1i, ↓lvS_1r, ↓lvS_1f, ↓lvS_s, ↓lvS2_0, ↓lvS2_1n, ↓lvS2_1i, ↓lvS2_1r, ↓lvS2_s, ↓du1_i, ↓du1_r, ↓du2_ir, pu, optW_s, gW_s, gW_0, ixW_z, brW_T, brW_F, brW_n, ↓aldW_r, ↓aldW_f, ↓pfdW_c, ↓ivSW0, ↓ivSW1, ↓ivSW2, ↓ivSW3, ↓ivSW4, ↓ivSW5, ↓ivSW6, ↓ivVW0, ↓ivVW1, ↓ivVW2, ↓ivVW3, ↓ivVW4, ↓ivVW5, ↓ivVW6, y2_131W, y2_132W, y2_135W, y2_136W, y2_165W, y2_89W, y2_79W, y2_141W, y2_76W, y2_150W, y2_191W, y2_168W, y2_16W, y2_17W, y2_18W, y2_19W, y2_20W, y2_162W, y2_163W, y2_164W, y2_180W, mOW, mAJW, mA0W, mA1W, mA2W, mA3W, mA4W, mA5W, mA6W, mA7W, mA8W, mA9W, mA10W, mA11W, mA12W, mA13W, mA14W, mA15W, ↓e179_0, ↓g179_1, ↓g179_4, ↓e179_7, ↓e179_9, ↓e179_10, ↓e179_11, ↓g179_12, ↓e179_15, ↓e179_17, ↓e179_18, ↓e179_19, ↓e179_20, ↓e179_22, ↓g179_23, ↓e179_26, ↓e179_27, ↓g179_28, ↓e179_31, ↓e179_32, ↓g179_33, ↓e179_36, ↓e179_37, ↓e179_38, ↓e179_39, ↓g179_41, ↓e179_44, ↓g179_45, ↓e179_48, ↓e179_49, ↓g179_50, ↓e179_53, ↓e179_55, ↓g179_56, ↓e179_59, ↓e179_60, ↓e179_61, ↓g179_62, ↓g179_63, ↓e179_64, ↓e179_67, ↓e179_70, ↓g179_71, ↓e179_74, true_and, and_true, true_or, or_true, false_or, or_false, Option.some.injEq, reduceCtorEq, ↓b01_ok, br_not, Nat.reduceLeDiff, Nat.zero_le, List.length_cons, List.length_nil, List.set_cons_succ, List.set_cons_zero, pv_i, pv_r, tn_n, tn_a2, tn_m2, Int.reduceToNat, upd_s, br_T, br_F, reduceIte, Nat.reduceEqDiff, Nat.reduceAdd, Int.reduceNeg, eq_self, upS_1, upS_2, upA_1, upA_2, if_true, if_false, ↓rtb0, ↓rtb1, i_zero, b01_z, b01_o, i_10, i_01, not_true_eq_false, not_false_eq_true, Bool.false_eq_true, Int.le_refl, Int.add_zero, Int.zero_add, upA_upA, upS_upS, false_and, and_false, i_sm1, Nat.lt_irrefl, Int.lt_irrefl, Int.reduceEq, Int.cast_ofNat_Int, Int.reduceSub, Int.reduceAdd, Int.reduceMul, Int.reduceLE, Int.reduceLT, Nat.reduceLT, nAJ, nA0, nA1, nA2, nA3, nA4, nA5, nA6, nA7, nA8, nA9, nA10, nA11, nA12, nA13, nA14, nA15, nSx, setM_s, setM_u, setM_A, setM_r, upS_A, setM_0, setM_1, setM_2, setM_3, setM_4, setM_5, setM_6, setM_7, setM_8, setM_9, setM_10, setM_11, setM_12, setM_t0, setM_t1, setM_t2, setM_t3, setM_t4, setM_t5, setM_t6, setM_t7, setM_t8, setM_t9, setM_t10, setM_t11, setM_t12, i_le, hge, i_add, i_mul, f4, f2, e34]
        refine ih (k + 1) _ (by omega) (fun x hx => ?_)
        by_cases hq : x = k
        · subst hq; rw [upd_s]
        · rw [upd_n hq]; exact hg x (by omega)
  · have d1 : ((1 : Int) ≤ (n : Int)) = False := eq_false (by omega)
    have d2 : ((n : Int) = 0) = True := eq_true (by omega)
    refine ⟨Int32.ofInt (-1000002), _, hs0, ?_, ?_⟩
    · intro d N S hd h hb
      obtain ⟨d, rfl⟩ : ∃ e, d = e + 1 := ⟨d - 1, by omega⟩
      have hd : 19 ≤ d := by omega
      refine at_in (k := 98) rfl (by simp [lg_sl, Value.category]) fun P hP => ?_
      dsimp only at hP ⊢
      simp only [entL_i, entL_r, entL_l, entL_n, List.replicate]
      refine runF (cl2_ok (by omega)) hP [] 100 ?_
      simp (implicitDefEqProofs := false) (dsimp := false) (disch := omega) only [↓exT_s, ↓sel_nil, ↓sel_eq, ↓sel_no, ↓tI_c, ↓tJ_c, ↓tR_c, ↓ldI_0, ↓ldI_s, ↓ldJ_0, ↓ldJ_s, ↓ldR_0, ↓ldR_f, ↓ldR_s, ↓lvS_0, ↓lvS_1n, ↓lvS_1i, ↓lvS_1r, ↓lvS_1f, ↓lvS_s, ↓lvS2_0, ↓lvS2_1n, ↓lvS2_1i, ↓lvS2_1r, ↓lvS2_s, ↓du1_i, ↓du1_r, ↓du2_ir, pu, optW_s, gW_s, gW_0, ixW_z, brW_T, brW_F, brW_n, ↓aldW_r, ↓aldW_f, ↓pfdW_c, ↓ivSW0, ↓ivSW1, ↓ivSW2, ↓ivSW3, ↓ivSW4, ↓ivSW5, ↓ivSW6, ↓ivVW0, ↓ivVW1, ↓ivVW2, ↓ivVW3, ↓ivVW4, ↓ivVW5, ↓ivVW6, y2_131W, y2_132W, y2_135W, y2_136W, y2_165W, y2_89W, y2_79W, y2_141W, y2_76W, y2_150W, y2_191W, y2_168W, xO0W, xO1W, xO13W, xO33W, xO251W, xO291W, xO14W, xO24W, xO252W, xO261W, xO273W, xO282W, xA11W, xA12W, xA23W, xA270W, xA271W, xA292W, xA15W, xA16W, xA17W, xA18W, xA19W, xA20W, xA21W, xA22W, xA25W, xA26W, xA27W, xA28W, xA29W, xA30W, xA31W, xA32W, xA253W, xA254W, xA255W, xA256W, xA257W, xA258W, xA259W, xA260W, xA262W, xA263W, xA264W, xA265W, xA266W, xA267W, xA268W, xA269W, xA274W, xA275W, xA276W, xA277W, xA278W, xA279W, xA280W, xA281W, xA283W, xA284W, xA285W, xA286W, xA287W, xA288W, xA289W, xA290W, xR2W, xR34W, xR272W, ifW, xItemW, yx16_24, yx16_273, yx16_282, yx17_24, yx18_24, yx19_24, yx20_24, yx20_252, ↓e98_0, ↓g98_1, ↓g98_4, ↓e98_7, ↓g98_8, ↓e98_11, ↓e98_13, ↓e98_14, ↓g98_15, ↓e98_18, ↓g98_19, ↓g98_22, ↓e98_25, ↓g98_26, ↓g98_29, ↓e98_32, true_and, and_true, true_or, or_true, false_or, or_false, Option.some.injEq, reduceCtorEq, ↓b01_ok, br_not, Nat.reduceLeDiff, Nat.zero_le, List.length_cons, List.length_nil, List.set_cons_succ, List.set_cons_zero, pv_i, pv_r, tn_n, tn_a2, tn_m2, Int.reduceToNat, upd_s, br_T, br_F, reduceIte, Nat.reduceEqDiff, Nat.reduceAdd, Int.reduceNeg, eq_self, upS_1, upS_2, upA_1, upA_2, if_true, if_false, ↓rtb0, ↓rtb1, i_zero, b01_z, b01_o, i_10, i_01, not_true_eq_false, not_false_eq_true, Bool.false_eq_true, Int.le_refl, Int.add_zero, Int.zero_add, upA_upA, upS_upS, false_and, and_false, i_sm1, Nat.lt_irrefl, Int.lt_irrefl, Int.reduceEq, Int.cast_ofNat_Int, Int.reduceSub, Int.reduceAdd, Int.reduceMul, Int.reduceLE, Int.reduceLT, Nat.reduceLT, zA11, zA12, zA23, zA270, zA271, zA292, zA15, zA16, zA17, zA18, zA19, zA20, zA21, zA22, zA25, zA26, zA27, zA28, zA29, zA30, zA31, zA32, zA253, zA254, zA255, zA256, zA257, zA258, zA259, zA260, zA262, zA263, zA264, zA265, zA266, zA267, zA268, zA269, zA274, zA275, zA276, zA277, zA278, zA279, zA280, zA281, zA283, zA284, zA285, zA286, zA287, zA288, zA289, zA290, zC14, zC24, zC252, zC261, zC273, zC282, zS0, zS13, zS33, zS251, zS291, zItem, upX_1, upX_21, upX_22, upR_1, upR_21, upR_22, upC_1, upC_21, upC_22, upX_upX, upR_upR, upC_upC, upX_R, upX_C, upR_C, vec2_0, vec2_1, vec4_0, vec4_1, vec4_2, vec4_3, vec5_0, vec5_1, vec5_2, vec5_3, vec5_4, upA_1, upA_2, upS_1, upS_2, setC_s, setC_u, setC_A, setC_r, upS_A, setC_0, setC_1, setC_2, setC_3, setC_4, setC_5, setC_6, setC_t0, setC_t1, setC_t2, setC_t3, setC_t4, setC_t5, setC_t6, y2, i_le, d1]
      exact ⟨rfl, w, rfl, hX0⟩
    · intro d N' S' hd h2 b hb2
      obtain ⟨d, rfl⟩ : ∃ e, d = e + 1 := ⟨d - 1, by omega⟩
      have hd : 19 ≤ d := by omega
      refine at_in (k := 179) rfl (by simp [lg_sl, Value.category]) fun P hP => ?_
      dsimp only at hP ⊢
      simp only [entL_i, entL_r, entL_l, entL_n, List.replicate]
      refine runF (cl2_ok (by omega)) hP [] 100 ?_
      simp (implicitDefEqProofs := false) (dsimp := false) (disch := omega) only [↓exT_s, ↓sel_nil, ↓sel_eq, ↓sel_no, ↓tI_c, ↓tJ_c, ↓tR_c, ↓ldI_0, ↓ldI_s, ↓ldJ_0, ↓ldJ_s, ↓ldR_0, ↓ldR_f, ↓ldR_s, ↓lvS_0, ↓lvS_1n, ↓lvS_1i, ↓lvS_1r, ↓lvS_1f, ↓lvS_s, ↓lvS2_0, ↓lvS2_1n, ↓lvS2_1i, ↓lvS2_1r, ↓lvS2_s, ↓du1_i, ↓du1_r, ↓du2_ir, pu, optW_s, gW_s, gW_0, ixW_z, brW_T, brW_F, brW_n, ↓aldW_r, ↓aldW_f, ↓pfdW_c, ↓ivSW0, ↓ivSW1, ↓ivSW2, ↓ivSW3, ↓ivSW4, ↓ivSW5, ↓ivSW6, ↓ivVW0, ↓ivVW1, ↓ivVW2, ↓ivVW3, ↓ivVW4, ↓ivVW5, ↓ivVW6, y2_131W, y2_132W, y2_135W, y2_136W, y2_165W, y2_89W, y2_79W, y2_141W, y2_76W, y2_150W, y2_191W, y2_168W, y2_16W, y2_17W, y2_18W, y2_19W, y2_20W, y2_162W, y2_163W, y2_164W, y2_180W, mOW, mAJW, mA0W, mA1W, mA2W, mA3W, mA4W, mA5W, mA6W, mA7W, mA8W, mA9W, mA10W, mA11W, mA12W, mA13W, mA14W, mA15W, ↓e179_0, ↓g179_1, ↓g179_4, ↓e179_7, ↓e179_9, ↓e179_10, ↓e179_11, ↓g179_12, ↓e179_15, ↓e179_17, ↓e179_18, ↓e179_19, ↓e179_20, ↓e179_22, ↓g179_23, ↓e179_26, ↓e179_27, ↓g179_28, ↓e179_31, ↓e179_32, ↓g179_33, ↓e179_36, ↓e179_37, ↓e179_38, ↓e179_39, ↓g179_41, ↓e179_44, ↓g179_45, ↓e179_48, ↓e179_49, ↓g179_50, ↓e179_53, ↓e179_55, ↓g179_56, ↓e179_59, ↓e179_60, ↓e179_61, ↓g179_62, ↓g179_63, ↓e179_64, ↓e179_67, ↓e179_70, ↓g179_71, ↓e179_74, true_and, and_true, true_or, or_true, false_or, or_false, Option.some.injEq, reduceCtorEq, ↓b01_ok, br_not, Nat.reduceLeDiff, Nat.zero_le, List.length_cons, List.length_nil, List.set_cons_succ, List.set_cons_zero, pv_i, pv_r, tn_n, tn_a2, tn_m2, Int.reduceToNat, upd_s, br_T, br_F, reduceIte, Nat.reduceEqDiff, Nat.reduceAdd, Int.reduceNeg, eq_self, upS_1, upS_2, upA_1, upA_2, if_true, if_false, ↓rtb0, ↓rtb1, i_zero, b01_z, b01_o, i_10, i_01, not_true_eq_false, not_false_eq_true, Bool.false_eq_true, Int.le_refl, Int.add_zero, Int.zero_add, upA_upA, upS_upS, false_and, and_false, i_sm1, Nat.lt_irrefl, Int.lt_irrefl, Int.reduceEq, Int.cast_ofNat_Int, Int.reduceSub, Int.reduceAdd, Int.reduceMul, Int.reduceLE, Int.reduceLT, Nat.reduceLT, nAJ, nA0, nA1, nA2, nA3, nA4, nA5, nA6, nA7, nA8, nA9, nA10, nA11, nA12, nA13, nA14, nA15, nSx, setM_s, setM_u, setM_A, setM_r, upS_A, setM_0, setM_1, setM_2, setM_3, setM_4, setM_5, setM_6, setM_7, setM_8, setM_9, setM_10, setM_11, setM_12, setM_t0, setM_t1, setM_t2, setM_t3, setM_t4, setM_t5, setM_t6, setM_t7, setM_t8, setM_t9, setM_t10, setM_t11, setM_t12, u2, i_eq, d2]
      exact ⟨rfl, m, rfl, hM0⟩

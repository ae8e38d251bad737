/-! the castle now, and acts that can be undone -/
theorem cb9 {h : aH} {w : Xc} {k : Nat} (hk : k < 30) (hb : 293 ≤ h.1) : casA k + 9 ≤ (putX h w).1 := by
  have := casA_le hk
  rw [putX_1]
  omega
theorem pureC {d N S k' : Nat} {as : List Value} {h : aH} {w : Xc} {k : Nat} {v : Option Value} (hk : k < 30) (H : aAt d N S k' as (putC (putX h w) (casA k) (w.2.2 k)) (fun x h' => x = v ∧ h' = putC (putX h w) (casA k) (w.2.2 k))) : aAt d N S k' as (putX h w) (fun x h' => x = v ∧ h' = putX h w) := by
  rw [X_C hk] at H
  exact H
theorem modC {d N S k' : Nat} {as : List Value} {h : aH} {w : Xc} {k : Nat} {R : Cc → Prop} (hk : k < 30) (H : aAt d N S k' as (putC (putX h w) (casA k) (w.2.2 k)) (fun x h' => x = none ∧ ∃ c', h' = putC (putX h w) (casA k) c' ∧ R c')) : aAt d N S k' as (putX h w) (fun x h' => x = none ∧ ∃ c', h' = putX h (upC w k c') ∧ R c') := by
  rw [X_C hk] at H
  refine aAt_mono _ _ _ _ _ _ _ _ ?_ H
  rintro r h' ⟨e, c', e', hc⟩
  exact ⟨e, c', by rw [e', X_putC hk], hc⟩
theorem cOk_b {C : Bool × Kc} (h : cOk C) : C.2.1 3 ≤ 5 ∧ C.2.1 4 ≤ 6 ∧ C.2.1 0 ≤ 9 ∧ C.2.1 1 ≤ 30 ∧ C.2.1 2 ≤ 999 ∧ C.2.1 5 < 64 := by
  rcases h with ⟨-, hK⟩ | e
  · obtain ⟨⟨⟨w1, w2⟩, ⟨w3, w4⟩, w5, w6, w7, w8, w9⟩, h1, h2, h3⟩ := hK
    omega
  · rw [e]
    exact ⟨by decide, by decide, by decide, by decide, by decide, by decide⟩
theorem cOk_t {C : Bool × Kc} (h : cOk C) (hp : 1 ≤ C.2.1 3 ∨ 1 ≤ C.2.1 4 ∨ 1 ≤ C.2.1 0) : C.1 = true ∧ KOk C.2 := by
  rcases h with h | e
  · exact h
  · rw [e] at hp
    simp [K00] at hp
theorem cOk_r {rd : Bool} {K : Kc} (h : cOk (rd, K)) : (rd = true ∧ KOk K) ∨ (rd = false ∧ K.1 3 = 0) := by
  rcases h with h | e
  · exact .inl h
  · cases e
    exact .inr ⟨rfl, rfl⟩
theorem sLw_rfl {K : Kc} : sLw K K := ⟨rfl, rfl, rfl, rfl, fun _ => rfl, fun _ => rfl⟩
theorem sLw_tr {K K' K'' : Kc} (h1 : sLw K K') (h2 : sLw K' K'') : sLw K K'' := by
  obtain ⟨a1, a2, a3, a4, a5, a6⟩ := h1
  obtain ⟨b1, b2, b3, b4, b5, b6⟩ := h2
  exact ⟨a1.trans b1, a2.trans b2, a3.trans b3, a4.trans b4, fun h => (a5 h).trans (b5 h), fun h => (a6 h).trans (b6 h)⟩
theorem sLw_sym {K K' : Kc} (h1 : sLw K K') : sLw K' K := by
  obtain ⟨a1, a2, a3, a4, a5, a6⟩ := h1
  exact ⟨a1.symm, a2.symm, a3.symm, a4.symm, fun h => (a5 h).symm, fun h => (a6 h).symm⟩
theorem RLw_s {g : Nat → Int32} {K K' : Kc} (h : sLw K K') (hL : RLw g K) : RLw g K' := by
  obtain ⟨a1, a2, a3, a4, a5, a6⟩ := h
  obtain ⟨l1, l2, l3, l4, l5, l6⟩ := hL
  exact ⟨by rw [← a3]; exact l1, by rw [← a4]; exact l2, by rw [← a1]; exact l3, by rw [← a2]; exact l4, fun h hh => by rw [← a5]; exact l5 h (by omega), fun a ha => by rw [← a6]; exact l6 a (by omega)⟩
def aKeep (A : Nat × Nat × (Nat → Kc)) (K : Kc) : Nat × Nat × (Nat → Kc) := (if A.1 < 24 then A.1 + 1 else 24, (A.2.1 + 1) % 24, fun j => if j = 0 then K else A.2.2 (j - 1))
theorem aOk_keep {A : Nat × Nat × (Nat → Kc)} {K K' : Kc} (h : aOk A (true, K)) (hK : KOk K) (hs : sLw K K') : aOk (aKeep A K) (true, K') := by
  obtain ⟨h1, h2, h3⟩ := h
  refine ⟨?_, Nat.mod_lt _ (by omega), fun j hj => ?_⟩
  · show (if A.1 < 24 then A.1 + 1 else 24) ≤ 24
    split <;> omega
  · have hj' : j < (if A.1 < 24 then A.1 + 1 else 24) := hj
    show true = true ∧ KOk (if j = 0 then K else A.2.2 (j - 1)) ∧ sLw (if j = 0 then K else A.2.2 (j - 1)) K'
    by_cases e : j = 0
    · rw [if_pos e]; exact ⟨rfl, hK, hs⟩
    · rw [if_neg e]
      obtain ⟨q1, q2, q3⟩ := h3 (j - 1) (by split at hj' <;> omega)
      exact ⟨rfl, q2, sLw_tr q3 hs⟩
theorem aOk_s {A : Nat × Nat × (Nat → Kc)} {K K' : Kc} (h : aOk A (true, K)) (hs : sLw K K') : aOk A (true, K') := by
  obtain ⟨h1, h2, h3⟩ := h
  exact ⟨h1, h2, fun j hj => ⟨rfl, (h3 j hj).2.1, sLw_tr (h3 j hj).2.2 hs⟩⟩
def frA (w w' : Xc) : Prop := (∀ j, j ≠ 2 → w'.1 j = w.1 j) ∧ w'.2.1 = w.2.1 ∧ ∀ j, (j < 2 ∨ 26 ≤ j) → w'.2.2 j = w.2.2 j
theorem XI_keep {w w' : Xc} {R : Rw} {F : Int32 × Int32} {T : Nat × (Nat → Nat)} {C : Bool × Kc} {A A' : Nat × Nat × (Nat → Kc)} {I : Nat → Option Kc} {B : Nat × (Nat → Int32)} (hf : frA w w') (hX : XI w (R, F, T, C, A, I, B)) (hA : XsA (w'.1 2) w'.2.2 A') : XI w' (R, F, T, C, A', I, B) := by
  obtain ⟨f1, f2, f3⟩ := hf
  obtain ⟨x1, x2, x3, x4, x5, x6, x7, x8⟩ := hX
  refine ⟨by rw [f2]; exact x1, by rw [f1 0 (by omega)]; exact x2, by rw [f1 1 (by omega), f2]; exact x3, by rw [f3 1 (by omega)]; exact x4, hA, by rw [f3 28 (by omega), f3 29 (by omega)]; exact x6, by rw [f1 4 (by omega), f2]; exact x7, by rw [f3 0 (by omega)]; exact x8⟩
theorem XI_now {w : Xc} {c : Cc} {R : Rw} {F : Int32 × Int32} {T : Nat × (Nat → Nat)} {C C' : Bool × Kc} {A : Nat × Nat × (Nat → Kc)} {I : Nat → Option Kc} {B : Nat × (Nat → Int32)} (hX : XI w (R, F, T, C, A, I, B)) (hN : XsN c C') : XI (upC w 1 c) (R, F, T, C', A, I, B) := by
  obtain ⟨x1, x2, x3, x4, x5, x6, x7, x8⟩ := hX
  refine ⟨x1, x2, x3, hN, ?_, x6, x7, x8⟩
  obtain ⟨y1, y2, y3⟩ := x5
  exact ⟨y1, y2, fun j hj => by rw [upC_22, if_neg (by omega)]; exact y3 j hj⟩
def frR (m m' : Cc) : Prop := (∀ k, k ≠ 10 → k ≠ 11 → m'.1 k = m.1 k) ∧ (∀ k, k ≠ 10 → m'.2 k = m.2 k)
theorem MI_keep {m m' : Cc} {R : Rw} {F : Int32 × Int32} {T : Nat × (Nat → Nat)} {C : Bool × Kc} {A A' : Nat × Nat × (Nat → Kc)} {I : Nat → Option Kc} {B : Nat × (Nat → Int32)} (hf : frR m m') (hM : MI m (R, F, T, C, A, I, B)) (hA : MsA (m'.1 10) (m'.1 11) (m'.2 10) A') : MI m' (R, F, T, C, A', I, B) := by
  obtain ⟨f1, f2⟩ := hf
  obtain ⟨x1, x2, x3, x4, x5, x6, x7⟩ := hM
  refine ⟨?_, ?_, ?_, ?_, hA, ?_, ?_⟩
  · unfold MsR; rw [f2 0 (by omega), f2 1 (by omega), f2 2 (by omega)]; exact x1
  · rw [f1 0 (by omega) (by omega), f1 7 (by omega) (by omega)]; exact x2
  · rw [f1 1 (by omega) (by omega), f2 3 (by omega)]; exact x3
  · rw [f1 8 (by omega) (by omega), f2 7 (by omega), f2 8 (by omega)]; exact x4
  · rw [f2 12 (by omega), f2 13 (by omega), f2 14 (by omega)]; exact x6
  · rw [f1 12 (by omega) (by omega), f2 15 (by omega)]; exact x7
theorem MI_now {m : Cc} {g : Nat → Int32} {R : Rw} {F : Int32 × Int32} {T : Nat × (Nat → Nat)} {rd : Bool} {K K' : Kc} {A : Nat × Nat × (Nat → Kc)} {I : Nat → Option Kc} {B : Nat × (Nat → Int32)} (hM : MI m (R, F, T, (rd, K), A, I, B)) (hs : sLw K K') (hO : ROf g K') : MI (upA m 8 g) (R, F, T, (rd, K'), A, I, B) := by
  obtain ⟨x1, x2, x3, x4, x5, x6, x7⟩ := hM
  exact ⟨x1, x2, x3, ⟨x4.1, RLw_s hs x4.2.1, hO⟩, x5, x6, x7⟩
theorem casA_k {i : Nat} (hi : i < 24) : casA (2 + i) = 35 + 9 * i := by
  unfold casA
  rw [if_neg (by omega), if_neg (by omega), if_pos (by omega)]
  omega
theorem i_min {n : Nat} (hn : n ≤ 24) : (if Int32.ofInt ((n : Int) + 1) < Int32.ofInt 24 then Int32.ofInt ((n : Int) + 1) else Int32.ofInt 24) = Int32.ofInt ((if n < 24 then n + 1 else 24 : Nat) : Int) := by
  simp only [i_lt (show -2147483648 ≤ (n : Int) + 1 by omega) (by omega) (show (-2147483648 : Int) ≤ 24 by omega) (by omega)]
  by_cases h1 : (n : Int) + 1 < 24
  · rw [if_pos h1, if_pos (by omega)]; rfl
  · by_cases h2 : n < 24
    · rw [if_neg h1, if_pos h2, show n = 23 by omega]; rfl
    · rw [if_neg h1, if_neg h2]; rfl
theorem setM_o {c : Cc} {u v : Int32} : setM c (c.1 0) (c.1 1) (c.1 2) (c.1 3) (c.1 4) (c.1 5) (c.1 6) (c.1 7) (c.1 8) (c.1 9) u v (c.1 12) = upS (upS c 10 u) 11 v := by
  unfold setM upS
  refine Prod.ext ?_ rfl
  funext j
  dsimp only
  rcases Nat.lt_or_ge j 13 with hj | hj
  · match j, hj with
    | 0, _ => simp
    | 1, _ => simp
    | 2, _ => simp
    | 3, _ => simp
    | 4, _ => simp
    | 5, _ => simp
    | 6, _ => simp
    | 7, _ => simp
    | 8, _ => simp
    | 9, _ => simp
    | 10, _ => simp
    | 11, _ => simp
    | 12, _ => simp
    | k + 13, hj => omega
  · simp (disch := omega) only [if_neg]
theorem xHk {h : aH} {w : Xc} {i : Nat} (hb : 293 ≤ h.1) (hi : i < 24) : ∃ fs, hO (putX h w) (35 + 9 * i) 2 = some fs := by
  have e := hOC (h := putX h w) (a := casA (2 + i)) (c := w.2.2 (2 + i)) (cb9 (by omega) hb)
  rw [X_C (by omega), casA_k hi] at e
  exact ⟨_, e⟩
set_option maxHeartbeats 4000000 in
theorem q2 {d N S : Nat} (hd : 2 ≤ d) {h : aH} {w : Xc} {K : Kc} {l : Int} {A : Nat × Nat × (Nat → Kc)} (hb : 293 ≤ h.1) (w5 : K.1 3 ≤ 5) (w6 : K.1 4 ≤ 6) (hC : CK (w.2.2 1) K l) (hA : XsA (w.1 2) w.2.2 A) (a1 : A.1 ≤ 24) (a2 : A.2.1 < 24) : aAt d N S 2 [.ref 33, .ref 24] (putX h w) (fun x h' => x = none ∧ ∃ w', h' = putX h w' ∧ frA w w' ∧ XsA (w'.1 2) w'.2.2 (aKeep A K)) := by
  obtain ⟨n, nx, ks⟩ := A
  dsimp only at a1 a2
  obtain ⟨y1, y2, y3⟩ := hA
  dsimp only at y1 y2 y3
  have e0 := q15X (d := d - 1) (N := h.1) (S := h.2.1) (h := h) (w := w) (i := 2 + nx) (j := 1) (by omega) hb (by omega) (by omega) (by omega) w5 w6 hC
  rw [casA_k a2] at e0
  obtain ⟨fs, hfs⟩ := xHk (w := w) hb a2
  obtain ⟨d, rfl⟩ : ∃ e, d = e + 1 := ⟨d - 1, by omega⟩
  have hd : 1 ≤ d := by omega
  refine at_in (k := 2) rfl (by simp [lg_sl, Value.category]) fun P hP => ?_
  dsimp only at hP ⊢
  simp only [entL_i, entL_r, entL_l, entL_n, List.replicate]
  rw [show d + 1 - 1 = d by omega] at e0
  refine runT hP [10] 100 ?_
  simp (implicitDefEqProofs := false) (dsimp := false) (disch := omega) only [↓exT_s, ↓sel_nil, ↓sel_eq, ↓sel_no, ↓tI_c, ↓tJ_c, ↓tR_c, ↓ldI_0, ↓ldI_s, ↓ldJ_0, ↓ldJ_s, ↓ldR_0, ↓ldR_f, ↓ldR_s, ↓lvS_0, ↓lvS_1n, ↓lvS_1i, ↓lvS_1r, ↓lvS_1f, ↓lvS_s, ↓lvS2_0, ↓lvS2_1n, ↓lvS2_1i, ↓lvS2_1r, ↓lvS2_s, ↓du1_i, ↓du1_r, ↓du2_ir, pu, optW_s, gW_s, gW_0, ixW_z, brW_T, brW_F, brW_n, ↓aldW_r, ↓aldW_f, ↓pfdW_c, ↓ivSW0, ↓ivSW1, ↓ivSW2, ↓ivSW3, ↓ivSW4, ↓ivSW5, ↓ivSW6, ↓ivVW0, ↓ivVW1, ↓ivVW2, ↓ivVW3, ↓ivVW4, ↓ivVW5, ↓ivVW6, xO0W, xO1W, xO13W, xO33W, xO251W, xO291W, xO14W, xO24W, xO252W, xO261W, xO273W, xO282W, xA11W, xA12W, xA23W, xA270W, xA271W, xA292W, xA15W, xA16W, xA17W, xA18W, xA19W, xA20W, xA21W, xA22W, xA25W, xA26W, xA27W, xA28W, xA29W, xA30W, xA31W, xA32W, xA253W, xA254W, xA255W, xA256W, xA257W, xA258W, xA259W, xA260W, xA262W, xA263W, xA264W, xA265W, xA266W, xA267W, xA268W, xA269W, xA274W, xA275W, xA276W, xA277W, xA278W, xA279W, xA280W, xA281W, xA283W, xA284W, xA285W, xA286W, xA287W, xA288W, xA289W, xA290W, xR2W, xR34W, xR272W, ifW, xItemW, yx16_24, yx16_273, yx16_282, yx17_24, yx18_24, yx19_24, yx20_24, yx20_252, ↓e2_0, ↓g2_1, ↓e2_4, ↓g2_5, ↓g2_8, ↓e2_9, ↓g2_10, ↓e2_13, ↓e2_14, ↓g2_15, ↓e2_18, ↓e2_19, ↓e2_20, ↓e2_22, ↓g2_23, ↓e2_26, ↓e2_27, ↓e2_29, ↓g2_30, ↓e2_33, ↓e2_34, ↓e2_35, ↓g2_38, ↓e2_41, true_and, and_true, true_or, or_true, false_or, or_false, Option.some.injEq, reduceCtorEq, ↓b01_ok, br_not, Nat.reduceLeDiff, Nat.zero_le, List.length_cons, List.length_nil, List.set_cons_succ, List.set_cons_zero, pv_i, pv_r, tn_n, tn_a2, tn_m2, Int.reduceToNat, upd_s, br_T, br_F, reduceIte, Nat.reduceEqDiff, Nat.reduceAdd, Int.reduceNeg, eq_self, upS_1, upS_2, upA_1, upA_2, if_true, if_false, ↓rtb0, ↓rtb1, i_zero, b01_z, b01_o, i_10, i_01, not_true_eq_false, not_false_eq_true, Bool.false_eq_true, Int.le_refl, Int.add_zero, Int.zero_add, upA_upA, upS_upS, false_and, and_false, i_sm1, Nat.lt_irrefl, Int.lt_irrefl, Int.reduceEq, Int.cast_ofNat_Int, Int.reduceSub, Int.reduceAdd, Int.reduceMul, Int.reduceLE, Int.reduceLT, Nat.reduceLT, zA11, zA12, zA23, zA270, zA271, zA292, zA15, zA16, zA17, zA18, zA19, zA20, zA21, zA22, zA25, zA26, zA27, zA28, zA29, zA30, zA31, zA32, zA253, zA254, zA255, zA256, zA257, zA258, zA259, zA260, zA262, zA263, zA264, zA265, zA266, zA267, zA268, zA269, zA274, zA275, zA276, zA277, zA278, zA279, zA280, zA281, zA283, zA284, zA285, zA286, zA287, zA288, zA289, zA290, zC14, zC24, zC252, zC261, zC273, zC282, zS0, zS13, zS33, zS251, zS291, zItem, upX_1, upX_21, upX_22, upR_1, upR_21, upR_22, upC_1, upC_21, upC_22, upX_upX, upR_upR, upC_upC, upX_R, upX_C, upR_C, vec2_0, vec2_1, vec4_0, vec4_1, vec4_2, vec4_3, vec5_0, vec5_1, vec5_2, vec5_3, vec5_4, upA_1, upA_2, upS_1, upS_2, setC_s, setC_u, setC_A, setC_r, upS_A, setC_0, setC_1, setC_2, setC_3, setC_4, setC_5, setC_6, setC_t0, setC_t1, setC_t2, setC_t3, setC_t4, setC_t5, setC_t6, y1]
  refine kv1 hP rfl hfs (by simp) (e0) ?_
  rintro _ _ ⟨rfl, c, rfl, hc⟩
  show P 13 _ _ _
  have e1 : Int32.ofInt ((nx : Int) + 1) - Int32.ofInt ((nx : Int) + 1) / Int32.ofInt 24 * Int32.ofInt 24 = Int32.ofInt (((nx : Int) + 1) % 24) := i_rem (by omega) (by omega) (by omega) (by omega)
  have e2 := i_min a1
  have c24 : ((24 : Int) = 0) = False := eq_false (by omega)
  refine runT hP [] 100 ?_
  simp (implicitDefEqProofs := false) (dsimp := false) (disch := omega) only [↓exT_s, ↓sel_nil, ↓sel_eq, ↓sel_no, ↓tI_c, ↓tJ_c, ↓tR_c, ↓ldI_0, ↓ldI_s, ↓ldJ_0, ↓ldJ_s, ↓ldR_0, ↓ldR_f, ↓ldR_s, ↓lvS_0, ↓lvS_1n, ↓lvS_1i, ↓lvS_1r, ↓lvS_1f, ↓lvS_s, ↓lvS2_0, ↓lvS2_1n, ↓lvS2_1i, ↓lvS2_1r, ↓lvS2_s, ↓du1_i, ↓du1_r, ↓du2_ir, pu, optW_s, gW_s, gW_0, ixW_z, brW_T, brW_F, brW_n, ↓aldW_r, ↓aldW_f, ↓pfdW_c, ↓ivSW0, ↓ivSW1, ↓ivSW2, ↓ivSW3, ↓ivSW4, ↓ivSW5, ↓ivSW6, ↓ivVW0, ↓ivVW1, ↓ivVW2, ↓ivVW3, ↓ivVW4, ↓ivVW5, ↓ivVW6, xO0W, xO1W, xO13W, xO33W, xO251W, xO291W, xO14W, xO24W, xO252W, xO261W, xO273W, xO282W, xA11W, xA12W, xA23W, xA270W, xA271W, xA292W, xA15W, xA16W, xA17W, xA18W, xA19W, xA20W, xA21W, xA22W, xA25W, xA26W, xA27W, xA28W, xA29W, xA30W, xA31W, xA32W, xA253W, xA254W, xA255W, xA256W, xA257W, xA258W, xA259W, xA260W, xA262W, xA263W, xA264W, xA265W, xA266W, xA267W, xA268W, xA269W, xA274W, xA275W, xA276W, xA277W, xA278W, xA279W, xA280W, xA281W, xA283W, xA284W, xA285W, xA286W, xA287W, xA288W, xA289W, xA290W, xR2W, xR34W, xR272W, ifW, xItemW, yx16_24, yx16_273, yx16_282, yx17_24, yx18_24, yx19_24, yx20_24, yx20_252, ↓e2_0, ↓g2_1, ↓e2_4, ↓g2_5, ↓g2_8, ↓e2_9, ↓g2_10, ↓e2_13, ↓e2_14, ↓g2_15, ↓e2_18, ↓e2_19, ↓e2_20, ↓e2_22, ↓g2_23, ↓e2_26, ↓e2_27, ↓e2_29, ↓g2_30, ↓e2_33, ↓e2_34, ↓e2_35, ↓g2_38, ↓e2_41, true_and, and_true, true_or, or_true, false_or, or_false, Option.some.injEq, reduceCtorEq, ↓b01_ok, br_not, Nat.reduceLeDiff, Nat.zero_le, List.length_cons, List.length_nil, List.set_cons_succ, List.set_cons_zero, pv_i, pv_r, tn_n, tn_a2, tn_m2, Int.reduceToNat, upd_s, br_T, br_F, reduceIte, Nat.reduceEqDiff, Nat.reduceAdd, Int.reduceNeg, eq_self, upS_1, upS_2, upA_1, upA_2, if_true, if_false, ↓rtb0, ↓rtb1, i_zero, b01_z, b01_o, i_10, i_01, not_true_eq_false, not_false_eq_true, Bool.false_eq_true, Int.le_refl, Int.add_zero, Int.zero_add, upA_upA, upS_upS, false_and, and_false, i_sm1, Nat.lt_irrefl, Int.lt_irrefl, Int.reduceEq, Int.cast_ofNat_Int, Int.reduceSub, Int.reduceAdd, Int.reduceMul, Int.reduceLE, Int.reduceLT, Nat.reduceLT, zA11, zA12, zA23, zA270, zA271, zA292, zA15, zA16, zA17, zA18, zA19, zA20, zA21, zA22, zA25, zA26, zA27, zA28, zA29, zA30, zA31, zA32, zA253, zA254, zA255, zA256, zA257, zA258, zA259, zA260, zA262, zA263, zA264, zA265, zA266, zA267, zA268, zA269, zA274, zA275, zA276, zA277, zA278, zA279, zA280, zA281, zA283, zA284, zA285, zA286, zA287, zA288, zA289, zA290, zC14, zC24, zC252, zC261, zC273, zC282, zS0, zS13, zS33, zS251, zS291, zItem, upX_1, upX_21, upX_22, upR_1, upR_21, upR_22, upC_1, upC_21, upC_22, upX_upX, upR_upR, upC_upC, upX_R, upX_C, upR_C, vec2_0, vec2_1, vec4_0, vec4_1, vec4_2, vec4_3, vec5_0, vec5_1, vec5_2, vec5_3, vec5_4, upA_1, upA_2, upS_1, upS_2, setC_s, setC_u, setC_A, setC_r, upS_A, setC_0, setC_1, setC_2, setC_3, setC_4, setC_5, setC_6, setC_t0, setC_t1, setC_t2, setC_t3, setC_t4, setC_t5, setC_t6, y1, y2, i_add, i_eq, c24, e1, e2]
  refine ⟨_, rfl, ⟨fun j hj => ?_, rfl, fun j hj => ?_⟩, ?_, ?_, fun j hj => ?_⟩
  · simp [upX_1, upC_1, hj]
  · simp [upX_22, upC_22, show ¬ j = 2 + nx by omega]
  · rfl
  · rfl
  · have hj' : j < (if n < 24 then n + 1 else 24) := hj
    show ∃ l, CK ((if 2 + ((nx + 1) % 24 + 23 - j) % 24 = 2 + nx then c else w.2.2 (2 + ((nx + 1) % 24 + 23 - j) % 24))) (if j = 0 then K else ks (j - 1)) l
    by_cases e : j = 0
    · rw [if_pos e, if_pos (by omega)]
      exact ⟨l, hc⟩
    · have hj2 : j < 24 := by split at hj' <;> omega
      rw [if_neg e, if_neg (by omega), show ((nx + 1) % 24 + 23 - j) % 24 = (nx + 23 - (j - 1)) % 24 by omega]
      exact y3 (j - 1) (by split at hj' <;> omega)
set_option maxHeartbeats 4000000 in
theorem q178 {d N S : Nat} (hd : 1 ≤ d) {h : aH} {b : Nat} {m : Cc} {K : Kc} {A : Nat × Nat × (Nat → Kc)} (hb : b + 17 ≤ h.1) (w5 : K.1 3 ≤ 5) (w6 : K.1 4 ≤ 6) (hO : ROf (m.2 8) K) (hA : MsA (m.1 10) (m.1 11) (m.2 10) A) (a1 : A.1 ≤ 24) (a2 : A.2.1 < 24) (a3 : ∀ j, j < A.1 → (A.2.2 j).1 3 ≤ 5 ∧ (A.2.2 j).1 4 ≤ 6) : aAt d N S 178 [.ref b] (putM h b m) (fun x h' => x = none ∧ ∃ m', h' = putM h b m' ∧ frR m m' ∧ MsA (m'.1 10) (m'.1 11) (m'.2 10) (aKeep A K)) := by
  obtain ⟨n, nx, ks⟩ := A
  dsimp only at a1 a2 a3
  obtain ⟨y1, y2, y3⟩ := hA
  dsimp only at y1 y2 y3
  have e34 : ∀ k : Nat, (34 * (nx : Int) + (k : Int)).toNat = 34 * nx + k := fun k => by omega
  have e1 : Int32.ofInt ((nx : Int) + 1) - Int32.ofInt ((nx : Int) + 1) / Int32.ofInt 24 * Int32.ofInt 24 = Int32.ofInt (((nx : Int) + 1) % 24) := i_rem (by omega) (by omega) (by omega) (by omega)
  have c24 : ((24 : Int) = 0) = False := eq_false (by omega)
  obtain ⟨d, rfl⟩ : ∃ e, d = e + 1 := ⟨d - 1, by omega⟩
  have hd : 0 ≤ d := by omega
  refine at_in (k := 178) rfl (by simp [lg_sl, Value.category]) fun P hP => ?_
  dsimp only at hP ⊢
  simp only [entL_i, entL_r, entL_l, entL_n, List.replicate]
  refine runT hP [2] 100 ?_
  simp (implicitDefEqProofs := false) (dsimp := false) (disch := omega) only [↓exT_s, ↓sel_nil, ↓sel_eq, ↓sel_no, ↓tI_c, ↓tJ_c, ↓tR_c, ↓ldI_0, ↓ldI_s, ↓ldJ_0, ↓ldJ_s, ↓ldR_0, ↓ldR_f, ↓ldR_s, ↓lvS_0, ↓lvS_1n, ↓lvS_1i, ↓lvS_1r, ↓lvS_1f, ↓lvS_s, ↓lvS2_0, ↓lvS2_1n, ↓lvS2_1i, ↓lvS2_1r, ↓lvS2_s, ↓du1_i, ↓du1_r, ↓du2_ir, pu, optW_s, gW_s, gW_0, ixW_z, brW_T, brW_F, brW_n, ↓aldW_r, ↓aldW_f, ↓pfdW_c, ↓ivSW0, ↓ivSW1, ↓ivSW2, ↓ivSW3, ↓ivSW4, ↓ivSW5, ↓ivSW6, ↓ivVW0, ↓ivVW1, ↓ivVW2, ↓ivVW3, ↓ivVW4, ↓ivVW5, ↓ivVW6, mOW, mAJW, mA0W, mA1W, mA2W, mA3W, mA4W, mA5W, mA6W, mA7W, mA8W, mA9W, mA10W, mA11W, mA12W, mA13W, mA14W, mA15W, ↓e178_0, ↓e178_1, ↓e178_2, ↓e178_3, ↓g178_5, ↓e178_8, ↓g178_9, ↓e178_12, ↓e178_14, ↓g178_15, ↓e178_18, ↓e178_19, ↓e178_20, ↓e178_21, ↓g178_22, ↓e178_25, ↓g178_26, ↓g178_27, ↓e178_28, ↓e178_31, ↓e178_34, ↓e178_35, ↓g178_36, ↓e178_39, ↓e178_40, ↓e178_41, ↓e178_43, ↓g178_44, ↓e178_47, ↓e178_48, ↓g178_49, ↓e178_52, ↓g178_53, ↓e178_56, ↓g178_58, ↓e178_61, ↓e178_62, ↓e178_65, ↓e178_66, ↓g178_67, ↓e178_70, true_and, and_true, true_or, or_true, false_or, or_false, Option.some.injEq, reduceCtorEq, ↓b01_ok, br_not, Nat.reduceLeDiff, Nat.zero_le, List.length_cons, List.length_nil, List.set_cons_succ, List.set_cons_zero, pv_i, pv_r, tn_n, tn_a2, tn_m2, Int.reduceToNat, upd_s, br_T, br_F, reduceIte, Nat.reduceEqDiff, Nat.reduceAdd, Int.reduceNeg, eq_self, upS_1, upS_2, upA_1, upA_2, if_true, if_false, ↓rtb0, ↓rtb1, i_zero, b01_z, b01_o, i_10, i_01, not_true_eq_false, not_false_eq_true, Bool.false_eq_true, Int.le_refl, Int.add_zero, Int.zero_add, upA_upA, upS_upS, false_and, and_false, i_sm1, Nat.lt_irrefl, Int.lt_irrefl, Int.reduceEq, Int.cast_ofNat_Int, Int.reduceSub, Int.reduceAdd, Int.reduceMul, Int.reduceLE, Int.reduceLT, Nat.reduceLT, nAJ, nA0, nA1, nA2, nA3, nA4, nA5, nA6, nA7, nA8, nA9, nA10, nA11, nA12, nA13, nA14, nA15, nSx, setM_s, setM_u, setM_A, setM_r, upS_A, setM_0, setM_1, setM_2, setM_3, setM_4, setM_5, setM_6, setM_7, setM_8, setM_9, setM_10, setM_11, setM_12, setM_t0, setM_t1, setM_t2, setM_t3, setM_t4, setM_t5, setM_t6, setM_t7, setM_t8, setM_t9, setM_t10, setM_t11, setM_t12]
  suffices ho : ∀ (fuel k : Nat) (g : Nat → Int32), k + fuel = 34 → (∀ x, g x = if 34 * nx ≤ x ∧ x < 34 * nx + k then m.2 8 (x - 34 * nx) else m.2 10 x) → P 2 [some (.ref b), some (.int (Int32.ofInt (k : Int)))] [] (putM h b (upA m 10 g)) by
    have := ho 34 0 (m.2 10) (by omega) (fun x => by rw [if_neg (by omega)])
    rw [upA_id] at this
    exact this
  intro fuel
  induction fuel with
  | zero =>
    intro k g hk hg
    obtain rfl : k = 34 := by omega
    have fin : ∀ (z : Nat), z = (if n < 24 then n + 1 else 24) → ∀ m' : Cc, m'.1 11 = Int32.ofInt (((nx : Int) + 1) % 24) → m'.1 10 = Int32.ofInt (z : Int) → m'.2 10 = g → frR m m' → (∃ m'', putM h b m' = putM h b m'' ∧ frR m m'' ∧ MsA (m''.1 10) (m''.1 11) (m''.2 10) (aKeep (n, nx, ks) K)) := by
      intro z hz m' h1 h2 h3 hf
      refine ⟨m', rfl, hf, by rw [h1]; simp [aKeep], by rw [h2, hz]; simp [aKeep], fun j hj => ?_⟩
      have hj' : j < (if n < 24 then n + 1 else 24) := hj
      rw [h3]
      show ROf (fun k => g (34 * (((nx + 1) % 24 + 23 - j) % 24) + k)) (if j = 0 then K else ks (j - 1))
      by_cases e : j = 0
      · rw [if_pos e]
        refine ROf_eq w5 w6 (fun k hk => ?_) hO
        rw [hg, if_pos (by omega), show 34 * (((nx + 1) % 24 + 23 - j) % 24) + k - 34 * nx = k by omega]
      · have hj2 : j < 24 := by split at hj' <;> omega
        rw [if_neg e]
        have hjn : j - 1 < n := by split at hj' <;> omega
        refine ROf_eq (a3 _ hjn).1 (a3 _ hjn).2 (fun k hk => ?_) (y3 (j - 1) hjn)
        rw [hg, if_neg (by omega), show ((nx + 1) % 24 + 23 - j) % 24 = (nx + 23 - (j - 1)) % 24 by omega]
    by_cases hn : n < 24
    · have c1 : (24 ≤ (n : Int)) = False := eq_false (by omega)
      refine runT hP [] 100 ?_
      simp (implicitDefEqProofs := false) (dsimp := false) (disch := omega) only [↓exT_s, ↓sel_nil, ↓sel_eq, ↓sel_no, ↓tI_c, ↓tJ_c, ↓tR_c, ↓ldI_0, ↓ldI_s, ↓ldJ_0, ↓ldJ_s, ↓ldR_0, ↓ldR_f, ↓ldR_s, ↓lvS_0, ↓lvS_1n, ↓lvS_1i, ↓lvS_1r, ↓lvS_1f, ↓lvS_s, ↓lvS2_0, ↓lvS2_1n, ↓lvS2_1i, ↓lvS2_1r, ↓lvS2_s, ↓du1_i, ↓du1_r, ↓du2_ir, pu, optW_s, gW_s, gW_0, ixW_z, brW_T, brW_F, brW_n, ↓aldW_r, ↓aldW_f, ↓pfdW_c, ↓ivSW0, ↓ivSW1, ↓ivSW2, ↓ivSW3, ↓ivSW4, ↓ivSW5, ↓ivSW6, ↓ivVW0, ↓ivVW1, ↓ivVW2, ↓ivVW3, ↓ivVW4, ↓ivVW5, ↓ivVW6, mOW, mAJW, mA0W, mA1W, mA2W, mA3W, mA4W, mA5W, mA6W, mA7W, mA8W, mA9W, mA10W, mA11W, mA12W, mA13W, mA14W, mA15W, ↓e178_0, ↓e178_1, ↓e178_2, ↓e178_3, ↓g178_5, ↓e178_8, ↓g178_9, ↓e178_12, ↓e178_14, ↓g178_15, ↓e178_18, ↓e178_19, ↓e178_20, ↓e178_21, ↓g178_22, ↓e178_25, ↓g178_26, ↓g178_27, ↓e178_28, ↓e178_31, ↓e178_34, ↓e178_35, ↓g178_36, ↓e178_39, ↓e178_40, ↓e178_41, ↓e178_43, ↓g178_44, ↓e178_47, ↓e178_48, ↓g178_49, ↓e178_52, ↓g178_53, ↓e178_56, ↓g178_58, ↓e178_61, ↓e178_62, ↓e178_65, ↓e178_66, ↓g178_67, ↓e178_70, true_and, and_true, true_or, or_true, false_or, or_false, Option.some.injEq, reduceCtorEq, ↓b01_ok, br_not, Nat.reduceLeDiff, Nat.zero_le, List.length_cons, List.length_nil, List.set_cons_succ, List.set_cons_zero, pv_i, pv_r, tn_n, tn_a2, tn_m2, Int.reduceToNat, upd_s, br_T, br_F, reduceIte, Nat.reduceEqDiff, Nat.reduceAdd, Int.reduceNeg, eq_self, upS_1, upS_2, upA_1, upA_2, if_true, if_false, ↓rtb0, ↓rtb1, i_zero, b01_z, b01_o, i_10, i_01, not_true_eq_false, not_false_eq_true, Bool.false_eq_true, Int.le_refl, Int.add_zero, Int.zero_add, upA_upA, upS_upS, false_and, and_false, i_sm1, Nat.lt_irrefl, Int.lt_irrefl, Int.reduceEq, Int.cast_ofNat_Int, Int.reduceSub, Int.reduceAdd, Int.reduceMul, Int.reduceLE, Int.reduceLT, Nat.reduceLT, nAJ, nA0, nA1, nA2, nA3, nA4, nA5, nA6, nA7, nA8, nA9, nA10, nA11, nA12, nA13, nA14, nA15, nSx, setM_s, setM_u, setM_A, setM_r, upS_A, setM_0, setM_1, setM_2, setM_3, setM_4, setM_5, setM_6, setM_7, setM_8, setM_9, setM_10, setM_11, setM_12, setM_t0, setM_t1, setM_t2, setM_t3, setM_t4, setM_t5, setM_t6, setM_t7, setM_t8, setM_t9, setM_t10, setM_t11, setM_t12, y1, y2, i_le, i_add, i_eq, c24, e1, c1]
      refine fin (n + 1) (by rw [if_pos hn]) _ ?_ ?_ ?_ ⟨fun k h1 h2 => ?_, fun k h1 => ?_⟩
      · rfl
      · rfl
      · rfl
      · simp only [setM_o, upA_1, upS_1, h1, h2, if_false]
      · simp only [setM_o, upA_2, upS_2, h1, if_false]
    · have c1 : (24 ≤ (n : Int)) = True := eq_true (by omega)
      refine runT hP [] 100 ?_
      simp (implicitDefEqProofs := false) (dsimp := false) (disch := omega) only [↓exT_s, ↓sel_nil, ↓sel_eq, ↓sel_no, ↓tI_c, ↓tJ_c, ↓tR_c, ↓ldI_0, ↓ldI_s, ↓ldJ_0, ↓ldJ_s, ↓ldR_0, ↓ldR_f, ↓ldR_s, ↓lvS_0, ↓lvS_1n, ↓lvS_1i, ↓lvS_1r, ↓lvS_1f, ↓lvS_s, ↓lvS2_0, ↓lvS2_1n, ↓lvS2_1i, ↓lvS2_1r, ↓lvS2_s, ↓du1_i, ↓du1_r, ↓du2_ir, pu, optW_s, gW_s, gW_0, ixW_z, brW_T, brW_F, brW_n, ↓aldW_r, ↓aldW_f, ↓pfdW_c, ↓ivSW0, ↓ivSW1, ↓ivSW2, ↓ivSW3, ↓ivSW4, ↓ivSW5, ↓ivSW6, ↓ivVW0, ↓ivVW1, ↓ivVW2, ↓ivVW3, ↓ivVW4, ↓ivVW5, ↓ivVW6, mOW, mAJW, mA0W, mA1W, mA2W, mA3W, mA4W, mA5W, mA6W, mA7W, mA8W, mA9W, mA10W, mA11W, mA12W, mA13W, mA14W, mA15W, ↓e178_0, ↓e178_1, ↓e178_2, ↓e178_3, ↓g178_5, ↓e178_8, ↓g178_9, ↓e178_12, ↓e178_14, ↓g178_15, ↓e178_18, ↓e178_19, ↓e178_20, ↓e178_21, ↓g178_22, ↓e178_25, ↓g178_26, ↓g178_27, ↓e178_28, ↓e178_31, ↓e178_34, ↓e178_35, ↓g178_36, ↓e178_39, ↓e178_40, ↓e178_41, ↓e178_43, ↓g178_44, ↓e178_47, ↓e178_48, ↓g178_49, ↓e178_52, ↓g178_53, ↓e178_56, ↓g178_58, ↓e178_61, ↓e178_62, ↓e178_65, ↓e178_66, ↓g178_67, ↓e178_70, true_and, and_true, true_or, or_true, false_or, or_false, Option.some.injEq, reduceCtorEq, ↓b01_ok, br_not, Nat.reduceLeDiff, Nat.zero_le, List.length_cons, List.length_nil, List.set_cons_succ, List.set_cons_zero, pv_i, pv_r, tn_n, tn_a2, tn_m2, Int.reduceToNat, upd_s, br_T, br_F, reduceIte, Nat.reduceEqDiff, Nat.reduceAdd, Int.reduceNeg, eq_self, upS_1, upS_2, upA_1, upA_2, if_true, if_false, ↓rtb0, ↓rtb1, i_zero, b01_z, b01_o, i_10, i_01, not_true_eq_false, not_false_eq_true, Bool.false_eq_true, Int.le_refl, Int.add_zero, Int.zero_add, upA_upA, upS_upS, false_and, and_false, i_sm1, Nat.lt_irrefl, Int.lt_irrefl, Int.reduceEq, Int.cast_ofNat_Int, Int.reduceSub, Int.reduceAdd, Int.reduceMul, Int.reduceLE, Int.reduceLT, Nat.reduceLT, nAJ, nA0, nA1, nA2, nA3, nA4, nA5, nA6, nA7, nA8, nA9, nA10, nA11, nA12, nA13, nA14, nA15, nSx, setM_s, setM_u, setM_A, setM_r, upS_A, setM_0, setM_1, setM_2, setM_3, setM_4, setM_5, setM_6, setM_7, setM_8, setM_9, setM_10, setM_11, setM_12, setM_t0, setM_t1, setM_t2, setM_t3, setM_t4, setM_t5, setM_t6, setM_t7, setM_t8, setM_t9, setM_t10, setM_t11, setM_t12, y1, y2, i_le, i_add, i_eq, c24, e1, c1]
      refine fin n (by rw [if_neg hn]; omega) _ ?_ ?_ ?_ ⟨fun k h1 h2 => ?_, fun k h1 => ?_⟩
      · rfl
      · rfl
      · rfl
      · simp only [setM_o, upA_1, upS_1, h1, h2, if_false]
      · simp only [setM_o, upA_2, upS_2, h1, if_false]
  | succ fuel ih =>
    intro k g hk hg
    have hge : ((34 : Int) ≤ (k : Int)) = False := eq_false (by omega)
    refine runT hP [2] 100 ?_
    simp (implicitDefEqProofs := false) (dsimp := false) (disch := omega) only [↓exT_s, ↓sel_nil, ↓sel_eq, ↓sel_no, ↓tI_c, ↓tJ_c, ↓tR_c, ↓ldI_0, ↓ldI_s, ↓ldJ_0, ↓ldJ_s, ↓ldR_0, ↓ldR_f, ↓ldR_s, ↓lvS_0, ↓lvS_1n, ↓lvS_1i, ↓lvS_1r, ↓lvS_1f, ↓lvS_s, ↓lvS2_0, ↓lvS2_1n, ↓lvS2_1i, ↓lvS2_1r, ↓lvS2_s, ↓du1_i, ↓du1_r, ↓du2_ir, pu, optW_s, gW_s, gW_0, ixW_z, brW_T, brW_F, brW_n, ↓aldW_r, ↓aldW_f, ↓pfdW_c, ↓ivSW0, ↓ivSW1, ↓ivSW2, ↓ivSW3, ↓ivSW4, ↓ivSW5, ↓ivSW6, ↓ivVW0, ↓ivVW1, ↓ivVW2, ↓ivVW3, ↓ivVW4, ↓ivVW5, ↓ivVW6, mOW, mAJW, mA0W, mA1W, mA2W, mA3W, mA4W, mA5W, mA6W, mA7W, mA8W, mA9W, mA10W, mA11W, mA12W, mA13W, mA14W, mA15W, ↓e178_0, ↓e178_1, ↓e178_2, ↓e178_3, ↓g178_5, ↓e178_8, ↓g178_9, ↓e178_12, ↓e178_14, ↓g178_15, ↓e178_18, ↓e178_19, ↓e178_20, ↓e178_21, ↓g178_22, ↓e178_25, ↓g178_26, ↓g178_27, ↓e178_28, ↓e178_31, ↓e178_34, ↓e178_35, ↓g178_36, ↓e178_39, ↓e178_40, ↓e178_41, ↓e178_43, ↓g178_44, ↓e178_47, ↓e178_48, ↓g178_49, ↓e178_52, ↓g178_53, ↓e178_56, ↓g178_58, ↓e178_61, ↓e178_62, ↓e178_65, ↓e178_66, ↓g178_67, ↓e178_70, true_and, and_true, true_or, or_true, false_or, or_false, Option.some.injEq, reduceCtorEq, ↓b01_ok, br_not, Nat.reduceLeDiff, Nat.zero_le, List.length_cons, List.length_nil, List.set_cons_succ, List.set_cons_zero, pv_i, pv_r, tn_n, tn_a2, tn_m2, Int.reduceToNat, upd_s, br_T, br_F, reduceIte, Nat.reduceEqDiff, Nat.reduceAdd, Int.reduceNeg, eq_self, upS_1, upS_2, upA_1, upA_2, if_true, if_false, ↓rtb0, ↓rtb1, i_zero, b01_z, b01_o, i_10, i_01, not_true_eq_false, not_false_eq_true, Bool.false_eq_true, Int.le_refl, Int.add_zero, Int.zero_add, upA_upA, upS_upS, false_and, and_false, i_sm1, Nat.lt_irrefl, Int.lt_irrefl, Int.reduceEq, Int.cast_ofNat_Int, Int.reduceSub, Int.reduceAdd, Int.reduceMul, Int.reduceLE, Int.reduceLT, Nat.reduceLT, nAJ, nA0, nA1, nA2, nA3, nA4, nA5, nA6, nA7, nA8, nA9, nA10, nA11, nA12, nA13, nA14, nA15, nSx, setM_s, setM_u, setM_A, setM_r, upS_A, setM_0, setM_1, setM_2, setM_3, setM_4, setM_5, setM_6, setM_7, setM_8, setM_9, setM_10, setM_11, setM_12, setM_t0, setM_t1, setM_t2, setM_t3, setM_t4, setM_t5, setM_t6, setM_t7, setM_t8, setM_t9, setM_t10, setM_t11, setM_t12, y1, i_le, hge, i_add, i_mul, e34]
    refine ih (k + 1) _ (by omega) (fun x => ?_)
    by_cases hq : x = 34 * nx + k
    · rw [hq, upd_s, if_pos (by omega), show 34 * nx + k - 34 * nx = k by omega]
    · rw [upd_n hq, hg x]
      by_cases h1 : 34 * nx ≤ x ∧ x < 34 * nx + k
      · rw [if_pos h1, if_pos (by omega)]
      · rw [if_neg h1, if_neg (by omega)]

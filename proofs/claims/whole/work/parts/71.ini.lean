/-! the class's own constructor -/
set_option maxHeartbeats 2000000 in
theorem ini90 {d : Nat} (hd : 4 ≤ d) : IniS d 90 6 292 2314 0 (xcell w0) := by
  intro h n0 o0
  replace n0 : h.1 = 1 := n0
  generalize hNN : h.1 + 292 = N
  generalize hSS : h.2.1 + 2314 = S
  obtain ⟨d, rfl⟩ : ∃ e, d = e + 1 := ⟨d - 1, by omega⟩
  have hd : 3 ≤ d := by omega
  refine at_in (k := 90) rfl (by simp [lg_sl, Value.category]) fun P hP => ?_
  dsimp only at hP ⊢
  simp only [entL_i, entL_r, entL_l, entL_n, List.replicate]
  refine lk hP (r := (.aload_n 0, 1, 0, 0, 0, 0)) rfl ?_
  refine lkS hP rfl (by simp) ?_
  refine nO hP (pc := 4) (h := h) rfl rfl rfl rfl (by omega) rfl (ini78 (by omega)) n0 (by omega) o0 (by simp [dfT]) (by first | (show 0 ≤ 6; omega) | (show 0 ≤ 7; omega) | simp) (by omega) (by omega) ?_
  intro h1 n1 s1 o1 c1 f1
  replace n1 : h1.1 = 13 := by omega
  refine nO hP (pc := 15) (h := h1) rfl rfl rfl rfl (by omega) rfl (ini63 (by omega)) n1 (by omega) o1 (by simp [dfT]) (by first | (show 0 ≤ 6; omega) | (show 0 ≤ 7; omega) | simp) (by omega) (by omega) ?_
  intro h2 n2 s2 o2 c2 f2
  replace n2 : h2.1 = 24 := by omega
  refine nO hP (pc := 26) (h := h2) rfl rfl rfl rfl (by omega) rfl (ini11 (a := 24) (by omega)) n2 (by omega) o2 (by simp [dfT]) (by first | (show 0 ≤ 6; omega) | (show 0 ≤ 7; omega) | simp) (by omega) (by omega) ?_
  intro h3 n3 s3 o3 c3 f3
  replace n3 : h3.1 = 33 := by omega
  refine nO hP (pc := 37) (h := h3) rfl rfl rfl rfl (by omega) rfl (ini0 (by omega)) n3 (by omega) o3 (by simp [dfT]) (by first | (show 0 ≤ 6; omega) | (show 0 ≤ 7; omega) | simp) (by omega) (by omega) ?_
  intro h4 n4 s4 o4 c4 f4
  replace n4 : h4.1 = 251 := by omega
  refine nO hP (pc := 48) (h := h4) rfl rfl rfl rfl (by omega) rfl (ini39 (by omega)) n4 (by omega) o4 (by simp [dfT]) (by first | (show 0 ≤ 6; omega) | (show 0 ≤ 7; omega) | simp) (by omega) (by omega) ?_
  intro h5 n5 s5 o5 c5 f5
  replace n5 : h5.1 = 272 := by omega
  refine lk hP (r := (.aload_n 0, 1, 0, 0, 0, 0)) rfl ?_
  refine lk hP (r := (.iconst 2, 1, 0, 0, 0, 0)) rfl ?_
  refine nwR hP (n := 2) rfl (by omega) (by omega) (by omega) ?_
  generalize hh6 : hN h5 2 (.inl (2, 2, .inr (.inr (.inr (.inr (fun _ => none)))))) = h6
  have n6 : h6.1 = 273 := by rw [← hh6]; show h5.1 + 1 = 273; omega
  have s6 : h6.2.1 = h5.2.1 + 2 := by rw [← hh6]; rfl
  have c6 : h6.2.2 272 = .inl (2, 2, .inr (.inr (.inr (.inr (fun _ => none))))) := by rw [← hh6, hN_2, if_pos (by omega)]
  have f6 : ∀ q, q ≠ 272 → h6.2.2 q = h5.2.2 q := fun q hq => by rw [← hh6, hN_2, if_neg (by omega)]
  rw [n5]
  show P 64 [some (.ref 0)] [.ref 272, .ref 0] h6
  refine lk hP (r := (.dup, 1, 0, 0, 0, 0)) rfl ?_
  refine ⟨rfl, ?_⟩
  show P 65 [some (.ref 0)] [.ref 272, .ref 272, .ref 0] h6
  refine lk hP (r := (.iconst 0, 1, 0, 0, 0, 0)) rfl ?_
  show P 66 [some (.ref 0)] [.int (Int32.ofInt ((0 : Nat) : Int)), .ref 272, .ref 272, .ref 0] h6
  refine nw0 hP (pc := 66) rfl rfl rfl (by omega) (ini11 (a := 273) (by omega)) n6 (by first | (show 1 + (1 + (1 + (1 + 0))) ≤ 7; omega) | simp [Value.category]) (by omega) (by omega) ?_
  intro h7 n7 s7 f7 c7
  obtain ⟨fs0, hfs0⟩ := cellC_o (a := 273) (c := C00)
  refine aS2 hP (n := 2) rfl (by omega) (by rw [f7 _ (by omega)]; exact c6) (by omega) (by rw [c7 _ (by omega) (by omega)]; exact hfs0) (by omega) (by omega) ?_
  generalize hh8 : hS h7 272 (.inl (2, 2, .inr (.inr (.inr (.inr (va_up (fun _ => none) 0 (some 273))))))) = h8
  have n8 : h8.1 = 282 := by rw [← hh8]; show h7.1 = 282; omega
  have s8 : h8.2.1 = h7.2.1 := by rw [← hh8]; rfl
  have c8 : h8.2.2 272 = .inl (2, 2, .inr (.inr (.inr (.inr (va_up (fun _ => none) 0 (some 273)))))) := by rw [← hh8, hS_2, if_pos rfl]
  have f8 : ∀ q, q ≠ 272 → h8.2.2 q = h7.2.2 q := fun q hq => by rw [← hh8, hS_2, if_neg hq]
  show P 74 [some (.ref 0)] [.ref 272, .ref 0] h8
  refine lk hP (r := (.dup, 1, 0, 0, 0, 0)) rfl ?_
  refine ⟨rfl, ?_⟩
  show P 75 [some (.ref 0)] [.ref 272, .ref 272, .ref 0] h8
  refine lk hP (r := (.iconst 1, 1, 0, 0, 0, 0)) rfl ?_
  show P 76 [some (.ref 0)] [.int (Int32.ofInt ((1 : Nat) : Int)), .ref 272, .ref 272, .ref 0] h8
  refine nw0 hP (pc := 76) rfl rfl rfl (by omega) (ini11 (a := 282) (by omega)) n8 (by first | (show 1 + (1 + (1 + (1 + 0))) ≤ 7; omega) | simp [Value.category]) (by omega) (by omega) ?_
  intro h9 n9 s9 f9 c9
  obtain ⟨fs1, hfs1⟩ := cellC_o (a := 282) (c := C00)
  refine aS2 hP (n := 2) rfl (by omega) (by rw [f9 _ (by omega)]; exact c8) (by omega) (by rw [c9 _ (by omega) (by omega)]; exact hfs1) (by omega) (by omega) ?_
  generalize hh10 : hS h9 272 (.inl (2, 2, .inr (.inr (.inr (.inr (va_up (va_up (fun _ => none) 0 (some 273)) 1 (some 282))))))) = h10
  have n10 : h10.1 = 291 := by rw [← hh10]; show h9.1 = 291; omega
  have s10 : h10.2.1 = h9.2.1 := by rw [← hh10]; rfl
  have c10 : h10.2.2 272 = .inl (2, 2, .inr (.inr (.inr (.inr (va_up (va_up (fun _ => none) 0 (some 273)) 1 (some 282)))))) := by rw [← hh10, hS_2, if_pos rfl]
  have f10 : ∀ q, q ≠ 272 → h10.2.2 q = h9.2.2 q := fun q hq => by rw [← hh10, hS_2, if_neg hq]
  show P 84 [some (.ref 0)] [.ref 272, .ref 0] h10
  refine pf hP (fs := (((((dfT 6).set 0 (.ref 1)).set 1 (.ref 13)).set 2 (.ref 24)).set 3 (.ref 33)).set 4 (.ref 251)) rfl (by omega) (by rw [f10 _ (by omega), f9 _ (by omega), f8 _ (by omega), f7 _ (by omega), f6 _ (by omega)]; exact o5) (by simp [dfT]) ?_
  generalize hh11 : hS h10 0 (.inr (6, ((((((dfT 6).set 0 (.ref 1)).set 1 (.ref 13)).set 2 (.ref 24)).set 3 (.ref 33)).set 4 (.ref 251)).set 5 (.ref 272))) = h11
  have n11 : h11.1 = 291 := by rw [← hh11]; show h10.1 = 291; omega
  have s11 : h11.2.1 = h10.2.1 := by rw [← hh11]; rfl
  have o11 : h11.2.2 0 = .inr (6, ((((((dfT 6).set 0 (.ref 1)).set 1 (.ref 13)).set 2 (.ref 24)).set 3 (.ref 33)).set 4 (.ref 251)).set 5 (.ref 272)) := by rw [← hh11, hS_2, if_pos rfl]
  have f11 : ∀ q, q ≠ 0 → h11.2.2 q = h10.2.2 q := fun q hq => by rw [← hh11, hS_2, if_neg hq]
  refine nO hP (pc := 87) (h := h11) rfl rfl rfl rfl (by omega) rfl (ini4 (by omega)) n11 (by omega) o11 (by simp [dfT]) (by first | (show 0 ≤ 6; omega) | (show 0 ≤ 7; omega) | simp) (by omega) (by omega) ?_
  intro h12 n12 s12 o12 c12 f12
  refine lk hP (r := (.return_, 1, 0, 0, 0, 0)) rfl ?_
  refine ⟨rfl, rfl, rfl, by omega, by omega, fun q hq => absurd hq (Nat.not_lt_zero q), fun q hq1 hq2 => ?_⟩
  rcases (show q = 0 ∨ (1 ≤ q ∧ q ≤ 12) ∨ (13 ≤ q ∧ q ≤ 23) ∨ (24 ≤ q ∧ q ≤ 32) ∨ (33 ≤ q ∧ q ≤ 250) ∨ (251 ≤ q ∧ q ≤ 271) ∨ q = 272 ∨ (273 ≤ q ∧ q ≤ 281) ∨ (282 ≤ q ∧ q ≤ 290) ∨ (291 ≤ q ∧ q ≤ 292) by omega) with e | e | e | e | e | e | e | e | e | e
  · rw [e, o12]; rfl
  · rw [f12 _ (by omega) (by omega), f11 _ (by omega), f10 _ (by omega), f9 _ (by omega), f8 _ (by omega), f7 _ (by omega), f6 _ (by omega), f5 _ (by omega) (by omega), f4 _ (by omega) (by omega), f3 _ (by omega) (by omega), f2 _ (by omega) (by omega), c1 _ (by omega) (by omega)]
  · rw [f12 _ (by omega) (by omega), f11 _ (by omega), f10 _ (by omega), f9 _ (by omega), f8 _ (by omega), f7 _ (by omega), f6 _ (by omega), f5 _ (by omega) (by omega), f4 _ (by omega) (by omega), f3 _ (by omega) (by omega), c2 _ (by omega) (by omega)]
  · rw [f12 _ (by omega) (by omega), f11 _ (by omega), f10 _ (by omega), f9 _ (by omega), f8 _ (by omega), f7 _ (by omega), f6 _ (by omega), f5 _ (by omega) (by omega), f4 _ (by omega) (by omega), c3 _ (by omega) (by omega)]
    exact xcell_c (k := 1) (by omega) e.1 e.2
  · rw [f12 _ (by omega) (by omega), f11 _ (by omega), f10 _ (by omega), f9 _ (by omega), f8 _ (by omega), f7 _ (by omega), f6 _ (by omega), f5 _ (by omega) (by omega), c4 _ (by omega) (by omega)]
  · rw [f12 _ (by omega) (by omega), f11 _ (by omega), f10 _ (by omega), f9 _ (by omega), f8 _ (by omega), f7 _ (by omega), f6 _ (by omega), c5 _ (by omega) (by omega)]
  · rw [e, f12 _ (by omega) (by omega), f11 _ (by omega), c10]
    show _ = Sum.inl (2, 2, Sum.inr (Sum.inr (Sum.inr (Sum.inr (fun i => if i < 2 then some (273 + 9 * i) else none)))))
    refine congrArg (fun z => Sum.inl (2, 2, Sum.inr (Sum.inr (Sum.inr (Sum.inr z))))) ?_
    funext i
    unfold va_up
    rcases (show i = 0 ∨ i = 1 ∨ 2 ≤ i by omega) with r | r | r
    · simp [r]
    · simp [r]
    · simp [show ¬ i = 0 by omega, show ¬ i = 1 by omega, show ¬ i < 2 by omega]
  · rw [f12 _ (by omega) (by omega), f11 _ (by omega), f10 _ (by omega), f9 _ (by omega), f8 _ (by omega), c7 _ (by omega) (by omega)]
    exact xcell_c (k := 28) (by omega) e.1 e.2
  · rw [f12 _ (by omega) (by omega), f11 _ (by omega), f10 _ (by omega), c9 _ (by omega) (by omega)]
    exact xcell_c (k := 29) (by omega) e.1 e.2
  · exact c12 q (by omega) (by omega)
/-! the reference's constructor -/
def m0 : Cc := (fun _ => 0, fun j => if j = 0 then gk 8 else fun _ => 0)
def Mcell (q : Nat) : aC := (putM (0, 0, fun _ => .inr (0, [])) 293 m0).2.2 q
set_option maxHeartbeats 4000000 in
theorem ini134 {d : Nat} (hd : 1 ≤ d) : IniS d 134 7 16 1553 293 Mcell := by
  intro h n0 o0
  replace n0 : h.1 = 294 := n0
  generalize hNN : h.1 + 16 = N
  generalize hSS : h.2.1 + 1553 = S
  obtain ⟨d, rfl⟩ : ∃ e, d = e + 1 := ⟨d - 1, by omega⟩
  have hd : 0 ≤ d := by omega
  refine at_in (k := 134) rfl (by simp [lg_sl, Value.category]) fun P hP => ?_
  dsimp only at hP ⊢
  simp only [entL_i, entL_r, entL_l, entL_n, List.replicate]
  refine lk hP (r := (.aload_n 0, 1, 0, 0, 0, 0)) rfl ?_
  refine lkS hP rfl (by simp) ?_
  refine nA hP (pc := 4) (p1 := 7) (n := 8) (h := h) rfl (fun st h k => lk hP (r := (.bipush 8, 2, 0, 0, 0, 0)) rfl k) rfl rfl (by omega) o0 (by simp [dfT]) (by omega) (by omega) (by omega) ?_
  intro h1 n1 s1 o1 c1 f1
  rw [n0] at n1 c1 o1 f1
  replace n1 : h1.1 = 295 := n1
  refine nA hP (pc := 12) (p1 := 15) (n := 8) (h := h1) rfl (fun st h k => lk hP (r := (.bipush 8, 2, 0, 0, 0, 0)) rfl k) rfl rfl (by omega) o1 (by simp [dfT]) (by omega) (by omega) (by omega) ?_
  intro h2 n2 s2 o2 c2 f2
  rw [n1] at n2 c2 o2 f2
  replace n2 : h2.1 = 296 := n2
  refine nA hP (pc := 20) (p1 := 24) (n := 320) (h := h2) rfl (fun st h k => lk hP (r := (.sipush 320, 3, 0, 0, 0, 0)) rfl k) rfl rfl (by omega) o2 (by simp [dfT]) (by omega) (by omega) (by omega) ?_
  intro h3 n3 s3 o3 c3 f3
  rw [n2] at n3 c3 o3 f3
  replace n3 : h3.1 = 297 := n3
  refine nA hP (pc := 29) (p1 := 32) (n := 120) (h := h3) rfl (fun st h k => lk hP (r := (.bipush 120, 2, 0, 0, 0, 0)) rfl k) rfl rfl (by omega) o3 (by simp [dfT]) (by omega) (by omega) (by omega) ?_
  intro h4 n4 s4 o4 c4 f4
  rw [n3] at n4 c4 o4 f4
  replace n4 : h4.1 = 298 := n4
  refine nA hP (pc := 37) (p1 := 40) (n := 15) (h := h4) rfl (fun st h k => lk hP (r := (.bipush 15, 2, 0, 0, 0, 0)) rfl k) rfl rfl (by omega) o4 (by simp [dfT]) (by omega) (by omega) (by omega) ?_
  intro h5 n5 s5 o5 c5 f5
  rw [n4] at n5 c5 o5 f5
  replace n5 : h5.1 = 299 := n5
  refine nA hP (pc := 45) (p1 := 48) (n := 34) (h := h5) rfl (fun st h k => lk hP (r := (.bipush 34, 2, 0, 0, 0, 0)) rfl k) rfl rfl (by omega) o5 (by simp [dfT]) (by omega) (by omega) (by omega) ?_
  intro h6 n6 s6 o6 c6 f6
  rw [n5] at n6 c6 o6 f6
  replace n6 : h6.1 = 300 := n6
  refine nA hP (pc := 53) (p1 := 55) (n := 1) (h := h6) rfl (fun st h k => lk hP (r := (.iconst 1, 1, 0, 0, 0, 0)) rfl k) rfl rfl (by omega) o6 (by simp [dfT]) (by omega) (by omega) (by omega) ?_
  intro h7 n7 s7 o7 c7 f7
  rw [n6] at n7 c7 o7 f7
  replace n7 : h7.1 = 301 := n7
  refine nA hP (pc := 60) (p1 := 63) (n := 15) (h := h7) rfl (fun st h k => lk hP (r := (.bipush 15, 2, 0, 0, 0, 0)) rfl k) rfl rfl (by omega) o7 (by simp [dfT]) (by omega) (by omega) (by omega) ?_
  intro h8 n8 s8 o8 c8 f8
  rw [n7] at n8 c8 o8 f8
  replace n8 : h8.1 = 302 := n8
  refine nA hP (pc := 68) (p1 := 71) (n := 34) (h := h8) rfl (fun st h k => lk hP (r := (.bipush 34, 2, 0, 0, 0, 0)) rfl k) rfl rfl (by omega) o8 (by simp [dfT]) (by omega) (by omega) (by omega) ?_
  intro h9 n9 s9 o9 c9 f9
  rw [n8] at n9 c9 o9 f9
  replace n9 : h9.1 = 303 := n9
  refine nA hP (pc := 76) (p1 := 79) (n := 34) (h := h9) rfl (fun st h k => lk hP (r := (.bipush 34, 2, 0, 0, 0, 0)) rfl k) rfl rfl (by omega) o9 (by simp [dfT]) (by omega) (by omega) (by omega) ?_
  intro h10 n10 s10 o10 c10 f10
  rw [n9] at n10 c10 o10 f10
  replace n10 : h10.1 = 304 := n10
  refine nA hP (pc := 84) (p1 := 88) (n := 816) (h := h10) rfl (fun st h k => lk hP (r := (.sipush 816, 3, 0, 0, 0, 0)) rfl k) rfl rfl (by omega) o10 (by simp [dfT]) (by omega) (by omega) (by omega) ?_
  intro h11 n11 s11 o11 c11 f11
  rw [n10] at n11 c11 o11 f11
  replace n11 : h11.1 = 305 := n11
  refine nA hP (pc := 93) (p1 := 96) (n := 32) (h := h11) rfl (fun st h k => lk hP (r := (.bipush 32, 2, 0, 0, 0, 0)) rfl k) rfl rfl (by omega) o11 (by simp [dfT]) (by omega) (by omega) (by omega) ?_
  intro h12 n12 s12 o12 c12 f12
  rw [n11] at n12 c12 o12 f12
  replace n12 : h12.1 = 306 := n12
  refine nB hP (pc := 101) (p1 := 103) (n := 2) (h := h12) rfl (fun st h k => lk hP (r := (.iconst 2, 1, 0, 0, 0, 0)) rfl k) rfl rfl (by omega) o12 (by simp [dfT]) (by omega) (by omega) (by omega) ?_
  intro h13 n13 s13 o13 c13 f13
  rw [n12] at n13 c13 o13 f13
  replace n13 : h13.1 = 307 := n13
  refine nA hP (pc := 108) (p1 := 111) (n := 30) (h := h13) rfl (fun st h k => lk hP (r := (.bipush 30, 2, 0, 0, 0, 0)) rfl k) rfl rfl (by omega) o13 (by simp [dfT]) (by omega) (by omega) (by omega) ?_
  intro h14 n14 s14 o14 c14 f14
  rw [n13] at n14 c14 o14 f14
  replace n14 : h14.1 = 308 := n14
  refine nA hP (pc := 116) (p1 := 119) (n := 68) (h := h14) rfl (fun st h k => lk hP (r := (.bipush 68, 2, 0, 0, 0, 0)) rfl k) rfl rfl (by omega) o14 (by simp [dfT]) (by omega) (by omega) (by omega) ?_
  intro h15 n15 s15 o15 c15 f15
  rw [n14] at n15 c15 o15 f15
  replace n15 : h15.1 = 309 := n15
  refine nA hP (pc := 124) (p1 := 127) (n := 16) (h := h15) rfl (fun st h k => lk hP (r := (.bipush 16, 2, 0, 0, 0, 0)) rfl k) rfl rfl (by omega) o15 (by simp [dfT]) (by omega) (by omega) (by omega) ?_
  intro h16 n16 s16 o16 c16 f16
  rw [n15] at n16 c16 o16 f16
  replace n16 : h16.1 = 310 := n16
  refine lk hP (r := (.iconst 0, 1, 0, 0, 0, 0)) rfl ?_
  refine lk hP (r := (.istore_n 1, 1, 0, 0, 0, 0)) rfl ?_
  refine ⟨by decide, rfl, ?_⟩
  suffices ho : ∀ (fuel i : Nat) (h' : aH), i + fuel = 8 → h'.1 = 310 → h'.2.1 = h16.2.1 → h'.2.2 294 = .inl (0, 8, .inl (gk i)) → (∀ q, q ≠ 294 → h'.2.2 q = h16.2.2 q) → P 134 [some (.ref 293), some (.int (Int32.ofInt (i : Int)))] [] h' by
    refine ho 8 0 h16 (by omega) n16 rfl ?_ (fun _ _ => rfl)
    rw [f16 _ (by omega) (by omega), f15 _ (by omega) (by omega), f14 _ (by omega) (by omega), f13 _ (by omega) (by omega), f12 _ (by omega) (by omega), f11 _ (by omega) (by omega), f10 _ (by omega) (by omega), f9 _ (by omega) (by omega), f8 _ (by omega) (by omega), f7 _ (by omega) (by omega), f6 _ (by omega) (by omega), f5 _ (by omega) (by omega), f4 _ (by omega) (by omega), f3 _ (by omega) (by omega), f2 _ (by omega) (by omega), gk_0]
    exact c1
  intro fuel
  induction fuel with
  | zero =>
    intro i h' hi e1 e2 e4 e5
    obtain rfl : i = 8 := by omega
    refine lk hP (r := (.iload_n 1, 1, 0, 0, 0, 0)) rfl ?_
    refine lk hP (r := (.bipush 8, 2, 0, 0, 0, 0)) rfl ?_
    refine lk hP (r := (.if_icmp .ge 16, 3, 153, 0, 0, 0)) rfl ?_
    refine ⟨fun _ => ?_, fun e => absurd (by decide) e⟩
    show P 153 [some (.ref 293), some (.int (Int32.ofInt ((8 : Nat) : Int)))] [] h'
    refine lk hP (r := (.return_, 1, 0, 0, 0, 0)) rfl ?_
    refine ⟨rfl, rfl, rfl, by omega, by omega, fun q hq => ?_, fun q hq1 hq2 => ?_⟩
    · rw [e5 _ (by omega), f16 _ (by omega) (by omega), f15 _ (by omega) (by omega), f14 _ (by omega) (by omega), f13 _ (by omega) (by omega), f12 _ (by omega) (by omega), f11 _ (by omega) (by omega), f10 _ (by omega) (by omega), f9 _ (by omega) (by omega), f8 _ (by omega) (by omega), f7 _ (by omega) (by omega), f6 _ (by omega) (by omega), f5 _ (by omega) (by omega), f4 _ (by omega) (by omega), f3 _ (by omega) (by omega), f2 _ (by omega) (by omega), f1 _ (by omega) (by omega)]
    · rcases (show q = 293 ∨ q = 294 ∨ q = 295 ∨ q = 296 ∨ q = 297 ∨ q = 298 ∨ q = 299 ∨ q = 300 ∨ q = 301 ∨ q = 302 ∨ q = 303 ∨ q = 304 ∨ q = 305 ∨ q = 306 ∨ q = 307 ∨ q = 308 ∨ q = 309 by omega) with e | e | e | e | e | e | e | e | e | e | e | e | e | e | e | e | e
      · rw [e, e5 _ (by omega), o16]; rfl
      · rw [e, e4]; rfl
      · rw [e, e5 _ (by omega), f16 _ (by omega) (by omega), f15 _ (by omega) (by omega), f14 _ (by omega) (by omega), f13 _ (by omega) (by omega), f12 _ (by omega) (by omega), f11 _ (by omega) (by omega), f10 _ (by omega) (by omega), f9 _ (by omega) (by omega), f8 _ (by omega) (by omega), f7 _ (by omega) (by omega), f6 _ (by omega) (by omega), f5 _ (by omega) (by omega), f4 _ (by omega) (by omega), f3 _ (by omega) (by omega)]; exact c2
      · rw [e, e5 _ (by omega), f16 _ (by omega) (by omega), f15 _ (by omega) (by omega), f14 _ (by omega) (by omega), f13 _ (by omega) (by omega), f12 _ (by omega) (by omega), f11 _ (by omega) (by omega), f10 _ (by omega) (by omega), f9 _ (by omega) (by omega), f8 _ (by omega) (by omega), f7 _ (by omega) (by omega), f6 _ (by omega) (by omega), f5 _ (by omega) (by omega), f4 _ (by omega) (by omega)]; exact c3
      · rw [e, e5 _ (by omega), f16 _ (by omega) (by omega), f15 _ (by omega) (by omega), f14 _ (by omega) (by omega), f13 _ (by omega) (by omega), f12 _ (by omega) (by omega), f11 _ (by omega) (by omega), f10 _ (by omega) (by omega), f9 _ (by omega) (by omega), f8 _ (by omega) (by omega), f7 _ (by omega) (by omega), f6 _ (by omega) (by omega), f5 _ (by omega) (by omega)]; exact c4
      · rw [e, e5 _ (by omega), f16 _ (by omega) (by omega), f15 _ (by omega) (by omega), f14 _ (by omega) (by omega), f13 _ (by omega) (by omega), f12 _ (by omega) (by omega), f11 _ (by omega) (by omega), f10 _ (by omega) (by omega), f9 _ (by omega) (by omega), f8 _ (by omega) (by omega), f7 _ (by omega) (by omega), f6 _ (by omega) (by omega)]; exact c5
      · rw [e, e5 _ (by omega), f16 _ (by omega) (by omega), f15 _ (by omega) (by omega), f14 _ (by omega) (by omega), f13 _ (by omega) (by omega), f12 _ (by omega) (by omega), f11 _ (by omega) (by omega), f10 _ (by omega) (by omega), f9 _ (by omega) (by omega), f8 _ (by omega) (by omega), f7 _ (by omega) (by omega)]; exact c6
      · rw [e, e5 _ (by omega), f16 _ (by omega) (by omega), f15 _ (by omega) (by omega), f14 _ (by omega) (by omega), f13 _ (by omega) (by omega), f12 _ (by omega) (by omega), f11 _ (by omega) (by omega), f10 _ (by omega) (by omega), f9 _ (by omega) (by omega), f8 _ (by omega) (by omega)]; exact c7
      · rw [e, e5 _ (by omega), f16 _ (by omega) (by omega), f15 _ (by omega) (by omega), f14 _ (by omega) (by omega), f13 _ (by omega) (by omega), f12 _ (by omega) (by omega), f11 _ (by omega) (by omega), f10 _ (by omega) (by omega), f9 _ (by omega) (by omega)]; exact c8
      · rw [e, e5 _ (by omega), f16 _ (by omega) (by omega), f15 _ (by omega) (by omega), f14 _ (by omega) (by omega), f13 _ (by omega) (by omega), f12 _ (by omega) (by omega), f11 _ (by omega) (by omega), f10 _ (by omega) (by omega)]; exact c9
      · rw [e, e5 _ (by omega), f16 _ (by omega) (by omega), f15 _ (by omega) (by omega), f14 _ (by omega) (by omega), f13 _ (by omega) (by omega), f12 _ (by omega) (by omega), f11 _ (by omega) (by omega)]; exact c10
      · rw [e, e5 _ (by omega), f16 _ (by omega) (by omega), f15 _ (by omega) (by omega), f14 _ (by omega) (by omega), f13 _ (by omega) (by omega), f12 _ (by omega) (by omega)]; exact c11
      · rw [e, e5 _ (by omega), f16 _ (by omega) (by omega), f15 _ (by omega) (by omega), f14 _ (by omega) (by omega), f13 _ (by omega) (by omega)]; exact c12
      · rw [e, e5 _ (by omega), f16 _ (by omega) (by omega), f15 _ (by omega) (by omega), f14 _ (by omega) (by omega)]; exact c13
      · rw [e, e5 _ (by omega), f16 _ (by omega) (by omega), f15 _ (by omega) (by omega)]; exact c14
      · rw [e, e5 _ (by omega), f16 _ (by omega) (by omega)]; exact c15
      · rw [e, e5 _ (by omega)]; exact c16
  | succ fuel ih =>
    intro i h' hi e1 e2 e4 e5
    refine lk hP (r := (.iload_n 1, 1, 0, 0, 0, 0)) rfl ?_
    refine lk hP (r := (.bipush 8, 2, 0, 0, 0, 0)) rfl ?_
    refine lk hP (r := (.if_icmp .ge 16, 3, 153, 0, 0, 0)) rfl ?_
    show br (Int32.ofInt 8 ≤ Int32.ofInt (i : Int)) (P 153 [some (.ref 293), some (.int (Int32.ofInt (i : Int)))] [] h') (P 140 [some (.ref 293), some (.int (Int32.ofInt (i : Int)))] [] h')
    rw [i_le (by omega) (by omega) (by omega) (by omega)]
    refine ⟨fun e => by omega, fun _ => ?_⟩
    refine lk hP (r := (.aload_n 0, 1, 0, 0, 0, 0)) rfl ?_
    show P 141 [some (.ref 293), some (.int (Int32.ofInt (i : Int)))] [.ref 293] h'
    refine lk hP (r := (.getfield 7, 3, 7, 0, 0, 0)) rfl ?_
    show opt (hO h' 293 7) fun fs => opt (fs[0]?) fun v => P 144 [some (.ref 293), some (.int (Int32.ofInt (i : Int)))] [v] h'
    rw [hO_of (by omega) ((e5 293 (by omega)).trans o16)]
    show P 144 [some (.ref 293), some (.int (Int32.ofInt (i : Int)))] [.ref 294] h'
    refine lk hP (r := (.iload_n 1, 1, 0, 0, 0, 0)) rfl ?_
    refine lk hP (r := (.iconst (-1), 1, 0, 0, 0, 0)) rfl ?_
    show P 146 [some (.ref 293), some (.int (Int32.ofInt (i : Int)))] [.int (Int32.ofInt (-1)), .int (Int32.ofInt (i : Int)), .ref 294] h'
    refine lk hP (r := (.iastore, 1, 0, 0, 0, 0)) rfl ?_
    show opt (hI h' 294) fun q => ix (Int32.ofInt (i : Int)) q.1 fun j => P 147 [some (.ref 293), some (.int (Int32.ofInt (i : Int)))] [] (hS h' 294 (.inl (0, q.1, .inl (upd q.2 j (Int32.ofInt (-1))))))
    rw [hI_of (by omega) e4]
    show ix (Int32.ofInt (i : Int)) 8 fun j => P 147 [some (.ref 293), some (.int (Int32.ofInt (i : Int)))] [] (hS h' 294 (.inl (0, 8, .inl (upd (gk i) j (Int32.ofInt (-1))))))
    rw [i_ix (by omega) (by omega), gk_s]
    refine lk hP (r := (.iinc 1 1, 3, 0, 0, 0, 0)) rfl ?_
    show lvS [some (.ref 293), some (.int (Int32.ofInt (i : Int)))] 1 (.int (Int32.ofInt (i : Int) + Int32.ofInt 1)) fun L' => P 150 L' [] _
    rw [i_add]
    refine ⟨by show 1 < 2; omega, rfl, ?_⟩
    refine lk hP (r := (.goto (-16), 3, 134, 0, 0, 0)) rfl ?_
    refine ih (i + 1) _ (by omega) e1 e2 (by rw [hS_2, if_pos rfl]) (fun q hq => by rw [hS_2, if_neg hq]; exact e5 q hq)

/-! the class's parts -/
def w0 : Xc := (fun _ _ => 0, fun j => if j = 9 then gk 8 else fun _ => 0, fun _ => C00)
theorem xcell_c {k q : Nat} (hk : k < 30) (h1 : casA k ≤ q) (h2 : q ≤ casA k + 8) : cellC (casA k) C00 q = xcell w0 q := by
  have hx := (xcas_iff (q := q) hk).2 ⟨h1, h2⟩
  unfold xcell
  rw [hx, if_neg (by omega)]
  rfl
theorem ini4 {d : Nat} (hd : 1 ≤ d) : IniS d 4 1 1 16 291 (xcell w0) := by
  intro h n0 o0
  generalize hNN : h.1 + 1 = N
  generalize hSS : h.2.1 + 16 = S
  obtain ⟨d, rfl⟩ : ∃ e, d = e + 1 := ⟨d - 1, by omega⟩
  have hd : 0 ≤ d := by omega
  refine at_in (k := 4) rfl (by simp [lg_sl, Value.category]) fun P hP => ?_
  dsimp only at hP ⊢
  simp only [entL_i, entL_r, entL_l, entL_n, List.replicate]
  refine lk hP (r := (.aload_n 0, 1, 0, 0, 0, 0)) rfl ?_
  refine lkS hP rfl (by simp) ?_
  refine nA hP (pc := 4) (p1 := 7) (n := 16) (h := h) rfl (fun st h k => lk hP (r := (.bipush 16, 2, 0, 0, 0, 0)) rfl k) rfl rfl (by omega) o0 (by simp [dfT]) (by omega) (by omega) (by omega) ?_
  intro h1 n1 s1 o1 c1 f1
  rw [n0] at n1 c1 o1 f1
  refine lk hP (r := (.return_, 1, 0, 0, 0, 0)) rfl ?_
  refine ⟨rfl, rfl, rfl, by omega, by omega, fun q hq => f1 q (by omega) (by omega), fun q hq1 hq2 => ?_⟩
  rcases (show q = 291 ∨ q = 292 by omega) with e | e
  · rw [e, o1]; rfl
  · rw [e]; exact c1
theorem ini63 {d : Nat} (hd : 2 ≤ d) : IniS d 63 4 10 178 13 (xcell w0) := by
  intro h n0 o0
  generalize hNN : h.1 + 10 = N
  generalize hSS : h.2.1 + 178 = S
  obtain ⟨d, rfl⟩ : ∃ e, d = e + 1 := ⟨d - 1, by omega⟩
  have hd : 1 ≤ d := by omega
  refine at_in (k := 63) rfl (by simp [lg_sl, Value.category]) fun P hP => ?_
  dsimp only at hP ⊢
  simp only [entL_i, entL_r, entL_l, entL_n, List.replicate]
  refine lk hP (r := (.aload_n 0, 1, 0, 0, 0, 0)) rfl ?_
  refine lkS hP rfl (by simp) ?_
  refine nO hP (pc := 4) (h := h) rfl rfl rfl rfl (by omega) rfl (ini11 (a := 14) (by omega)) n0 (by omega) o0 (by simp [dfT]) (by first | (show 0 ≤ 6; omega) | simp) (by omega) (by omega) ?_
  intro h1 n1 s1 o1 c1 f1
  rw [n0] at n1
  refine nA hP (pc := 15) (p1 := 18) (n := 120) (h := h1) rfl (fun st h k => lk hP (r := (.bipush 120, 2, 0, 0, 0, 0)) rfl k) rfl rfl (by omega) o1 (by simp [dfT]) (by omega) (by omega) (by omega) ?_
  intro h2 n2 s2 o2 c2 f2
  rw [n1] at n2 c2 o2 f2
  refine lk hP (r := (.return_, 1, 0, 0, 0, 0)) rfl ?_
  refine ⟨rfl, rfl, rfl, by omega, by omega, fun q hq => ?_, fun q hq1 hq2 => ?_⟩
  · rw [f2 q (by omega) (by omega), f1 q (by omega) (by omega)]
  · rcases (show q = 13 ∨ (14 ≤ q ∧ q ≤ 22) ∨ q = 23 by omega) with e | e | e
    · rw [e, o2]; rfl
    · rw [f2 q (by omega) (by omega), c1 q (by omega) (by omega)]
      exact xcell_c (k := 0) (by omega) e.1 e.2
    · rw [e]; exact c2
theorem ini39 {d : Nat} (hd : 2 ≤ d) : IniS d 39 3 20 160 251 (xcell w0) := by
  intro h n0 o0
  generalize hNN : h.1 + 20 = N
  generalize hSS : h.2.1 + 160 = S
  obtain ⟨d, rfl⟩ : ∃ e, d = e + 1 := ⟨d - 1, by omega⟩
  have hd : 1 ≤ d := by omega
  refine at_in (k := 39) rfl (by simp [lg_sl, Value.category]) fun P hP => ?_
  dsimp only at hP ⊢
  simp only [entL_i, entL_r, entL_l, entL_n, List.replicate]
  refine lk hP (r := (.aload_n 0, 1, 0, 0, 0, 0)) rfl ?_
  refine lkS hP rfl (by simp) ?_
  refine nO hP (pc := 4) (h := h) rfl rfl rfl rfl (by omega) rfl (ini11 (a := 252) (by omega)) n0 (by omega) o0 (by simp [dfT]) (by first | (show 0 ≤ 6; omega) | simp) (by omega) (by omega) ?_
  intro h1 n1 s1 o1 c1 f1
  rw [n0] at n1
  refine nO hP (pc := 15) (h := h1) rfl rfl rfl rfl (by omega) rfl (ini11 (a := 261) (by omega)) n1 (by omega) o1 (by simp [dfT]) (by first | (show 0 ≤ 6; omega) | simp) (by omega) (by omega) ?_
  intro h2 n2 s2 o2 c2 f2
  rw [n1] at n2
  refine nA hP (pc := 26) (p1 := 29) (n := 32) (h := h2) rfl (fun st h k => lk hP (r := (.bipush 32, 2, 0, 0, 0, 0)) rfl k) rfl rfl (by omega) o2 (by simp [dfT]) (by omega) (by omega) (by omega) ?_
  intro h3 n3 s3 o3 c3 f3
  rw [n2] at n3 c3 o3 f3
  refine nA hP (pc := 34) (p1 := 37) (n := 12) (h := h3) rfl (fun st h k => lk hP (r := (.bipush 12, 2, 0, 0, 0, 0)) rfl k) rfl rfl (by omega) o3 (by simp [dfT]) (by omega) (by omega) (by omega) ?_
  intro h4 n4 s4 o4 c4 f4
  rw [n3] at n4 c4 o4 f4
  refine lk hP (r := (.return_, 1, 0, 0, 0, 0)) rfl ?_
  refine ⟨rfl, rfl, rfl, by omega, by omega, fun q hq => ?_, fun q hq1 hq2 => ?_⟩
  · rw [f4 q (by omega) (by omega), f3 q (by omega) (by omega), f2 q (by omega) (by omega), f1 q (by omega) (by omega)]
  · rcases (show q = 251 ∨ (252 ≤ q ∧ q ≤ 260) ∨ (261 ≤ q ∧ q ≤ 269) ∨ q = 270 ∨ q = 271 by omega) with e | e | e | e | e
    · rw [e, o4]; rfl
    · rw [f4 q (by omega) (by omega), f3 q (by omega) (by omega), f2 q (by omega) (by omega), c1 q (by omega) (by omega)]
      exact xcell_c (k := 26) (by omega) e.1 e.2
    · rw [f4 q (by omega) (by omega), f3 q (by omega) (by omega), c2 q (by omega) (by omega)]
      exact xcell_c (k := 27) (by omega) e.1 e.2
    · rw [e, f4 _ (by omega) (by omega)]; exact c3
    · rw [e]; exact c4
theorem ini78 {d : Nat} (hd : 1 ≤ d) : IniS d 78 5 11 344 1 (xcell w0) := by
  intro h n0 o0
  generalize hNN : h.1 + 11 = N
  generalize hSS : h.2.1 + 344 = S
  obtain ⟨d, rfl⟩ : ∃ e, d = e + 1 := ⟨d - 1, by omega⟩
  have hd : 0 ≤ d := by omega
  refine at_in (k := 78) rfl (by simp [lg_sl, Value.category]) fun P hP => ?_
  dsimp only at hP ⊢
  simp only [entL_i, entL_r, entL_l, entL_n, List.replicate]
  refine lk hP (r := (.aload_n 0, 1, 0, 0, 0, 0)) rfl ?_
  refine lkS hP rfl (by simp) ?_
  refine lk hP (r := (.aload_n 0, 1, 0, 0, 0, 0)) rfl ?_
  refine lk hP (r := (.bipush 8, 2, 0, 0, 0, 0)) rfl ?_
  refine lk hP (r := (.bipush 40, 2, 0, 0, 0, 0)) rfl ?_
  refine lk hP (r := (.multianewarray 11 2, 4, 0, 0, 0, 0)) rfl ?_
  refine ⟨rfl, ?_⟩
  refine ⟨by decide, by decide, by decide, by decide, ?_, ?_, ?_⟩
  · show h.1 + (1 + 8) ≤ N
    omega
  · show h.2.1 + (8 + 8 * 40) ≤ S
    omega
  show P 13 [some (.ref 1)] [.ref h.1, .ref 1] (hM h 8 40)
  have hm2 : ∀ q, (hM h 8 40).2.2 q = if q = h.1 then .inl (3, 8, .inr (.inr (.inr (.inr (fun i => if i < 8 then some (h.1 + 1 + i) else none))))) else if h.1 < q then .inl (0, 40, .inl (fun _ => 0)) else h.2.2 q := fun q => rfl
  refine pf hP (fs := dfT 5) rfl (by show 1 < h.1 + 1 + 8; omega) (by rw [hm2, if_neg (by omega), if_neg (by omega)]; exact o0) (by simp [dfT]) ?_
  generalize hh1 : hS (hM h 8 40) 1 (.inr (5, (dfT 5).set 0 (.ref h.1))) = h1
  have n1 : h1.1 = 11 := by rw [← hh1]; show h.1 + 1 + 8 = 11; omega
  have s1 : h1.2.1 = h.2.1 + 8 + 8 * 40 := by rw [← hh1]; rfl
  have o1 : h1.2.2 1 = .inr (5, (dfT 5).set 0 (.ref 2)) := by rw [← hh1, hS_2, if_pos rfl, n0]
  have c1 : h1.2.2 2 = xcell w0 2 := by rw [← hh1, hS_2, if_neg (by omega), hm2, if_pos (by omega), n0]; rfl
  have c1' : ∀ q, 3 ≤ q → h1.2.2 q = .inl (0, 40, .inl (fun _ => 0)) := fun q hq => by rw [← hh1, hS_2, if_neg (by omega), hm2, if_neg (by omega), if_pos (by omega)]
  have f1 : ∀ q, q < 1 → h1.2.2 q = h.2.2 q := fun q hq => by rw [← hh1, hS_2, if_neg (by omega), hm2, if_neg (by omega), if_neg (by omega)]
  refine nA hP (pc := 16) (p1 := 19) (n := 8) (h := h1) rfl (fun st h k => lk hP (r := (.bipush 8, 2, 0, 0, 0, 0)) rfl k) rfl rfl (by omega) o1 (by simp [dfT]) (by omega) (by omega) (by omega) ?_
  intro h2 n2 s2 o2 c2 f2
  rw [n1] at n2 c2 o2 f2
  refine lk hP (r := (.aload_n 0, 1, 0, 0, 0, 0)) rfl ?_
  refine lk hP (r := (.bipush 8, 2, 0, 0, 0, 0)) rfl ?_
  refine nwI hP (n := 8) rfl (by omega) (by omega) (by omega) ?_
  generalize hh3 : hN h2 8 (.inl (0, 8, .inl (fun _ => 0))) = h3
  have n3 : h3.1 = 13 := by rw [← hh3]; show h2.1 + 1 = 13; omega
  have s3 : h3.2.1 = h2.2.1 + 8 := by rw [← hh3]; rfl
  have c3 : h3.2.2 12 = .inl (0, 8, .inl (gk 0)) := by rw [← hh3, hN_2, if_pos (by omega), gk_0]
  have f3 : ∀ q, q ≠ 12 → h3.2.2 q = h2.2.2 q := fun q hq => by rw [← hh3, hN_2, if_neg (by omega)]
  rw [n2]
  show P 29 [some (.ref 1)] [.ref 12, .ref 1] h3
  refine stA hP (pc := 29) (p1 := 31) (n := 8) (k := 0) (h := h3) rfl (fun st h k => lk hP (r := (.iconst 0, 1, 0, 0, 0, 0)) rfl k) rfl rfl (by omega) c3 (by omega) (by omega) ?_
  intro h4 n4 s4 c4 f4
  refine stA hP (pc := 33) (p1 := 35) (n := 8) (k := 1) (h := h4) rfl (fun st h k => lk hP (r := (.iconst 1, 1, 0, 0, 0, 0)) rfl k) rfl rfl (by omega) c4 (by omega) (by omega) ?_
  intro h5 n5 s5 c5 f5
  refine stA hP (pc := 37) (p1 := 39) (n := 8) (k := 2) (h := h5) rfl (fun st h k => lk hP (r := (.iconst 2, 1, 0, 0, 0, 0)) rfl k) rfl rfl (by omega) c5 (by omega) (by omega) ?_
  intro h6 n6 s6 c6 f6
  refine stA hP (pc := 41) (p1 := 43) (n := 8) (k := 3) (h := h6) rfl (fun st h k => lk hP (r := (.iconst 3, 1, 0, 0, 0, 0)) rfl k) rfl rfl (by omega) c6 (by omega) (by omega) ?_
  intro h7 n7 s7 c7 f7
  refine stA hP (pc := 45) (p1 := 47) (n := 8) (k := 4) (h := h7) rfl (fun st h k => lk hP (r := (.iconst 4, 1, 0, 0, 0, 0)) rfl k) rfl rfl (by omega) c7 (by omega) (by omega) ?_
  intro h8 n8 s8 c8 f8
  refine stA hP (pc := 49) (p1 := 51) (n := 8) (k := 5) (h := h8) rfl (fun st h k => lk hP (r := (.iconst 5, 1, 0, 0, 0, 0)) rfl k) rfl rfl (by omega) c8 (by omega) (by omega) ?_
  intro h9 n9 s9 c9 f9
  refine stA hP (pc := 53) (p1 := 56) (n := 8) (k := 6) (h := h9) rfl (fun st h k => lk hP (r := (.bipush 6, 2, 0, 0, 0, 0)) rfl k) rfl rfl (by omega) c9 (by omega) (by omega) ?_
  intro h10 n10 s10 c10 f10
  refine stA hP (pc := 58) (p1 := 61) (n := 8) (k := 7) (h := h10) rfl (fun st h k => lk hP (r := (.bipush 7, 2, 0, 0, 0, 0)) rfl k) rfl rfl (by omega) c10 (by omega) (by omega) ?_
  intro h11 n11 s11 c11 f11
  refine pf hP (fs := ((dfT 5).set 0 (.ref 2)).set 1 (.ref 11)) rfl (by omega) (by rw [f11 _ (by omega), f10 _ (by omega), f9 _ (by omega), f8 _ (by omega), f7 _ (by omega), f6 _ (by omega), f5 _ (by omega), f4 _ (by omega), f3 _ (by omega)]; exact o2) (by simp [dfT]) ?_
  refine lk hP (r := (.return_, 1, 0, 0, 0, 0)) rfl ?_
  refine ⟨rfl, rfl, rfl, by show h11.1 = _; omega, by show h11.2.1 = _; omega, fun q hq => ?_, fun q hq1 hq2 => ?_⟩
  · rw [hS_2, if_neg (by omega), f11 _ (by omega), f10 _ (by omega), f9 _ (by omega), f8 _ (by omega), f7 _ (by omega), f6 _ (by omega), f5 _ (by omega), f4 _ (by omega), f3 _ (by omega), f2 _ (by omega) (by omega), f1 _ (by omega)]
  · rcases (show q = 1 ∨ q = 2 ∨ (3 ≤ q ∧ q ≤ 10) ∨ q = 11 ∨ q = 12 by omega) with e | e | e | e | e
    · rw [e, hS_2, if_pos rfl]; rfl
    · rw [e, hS_2, if_neg (by omega), f11 _ (by omega), f10 _ (by omega), f9 _ (by omega), f8 _ (by omega), f7 _ (by omega), f6 _ (by omega), f5 _ (by omega), f4 _ (by omega), f3 _ (by omega), f2 _ (by omega) (by omega)]; exact c1
    · rw [hS_2, if_neg (by omega), f11 _ (by omega), f10 _ (by omega), f9 _ (by omega), f8 _ (by omega), f7 _ (by omega), f6 _ (by omega), f5 _ (by omega), f4 _ (by omega), f3 _ (by omega), f2 _ (by omega) (by omega), c1' _ (by omega)]
      rcases (show q = 3 ∨ q = 4 ∨ q = 5 ∨ q = 6 ∨ q = 7 ∨ q = 8 ∨ q = 9 ∨ q = 10 by omega) with e | e | e | e | e | e | e | e <;> rw [e] <;> rfl
    · rw [e, hS_2, if_neg (by omega), f11 _ (by omega), f10 _ (by omega), f9 _ (by omega), f8 _ (by omega), f7 _ (by omega), f6 _ (by omega), f5 _ (by omega), f4 _ (by omega), f3 _ (by omega)]; exact c2
    · rw [e, hS_2, if_neg (by omega)]; exact c11
theorem va_up_s {i : Nat} : va_up (fun j => if j < i then some (35 + 9 * j) else none) i (some (35 + 9 * i)) = fun j => if j < i + 1 then some (35 + 9 * j) else none := by
  funext j
  unfold va_up
  by_cases e : j = i
  · subst e; simp
  · by_cases e2 : j < i
    · simp [e, e2, show j < i + 1 by omega]
    · simp [e, e2, show ¬ j < i + 1 by omega]
theorem cellC_o {a : Nat} {c : Cc} : ∃ fs, cellC a c a = .inr (2, fs) := by
  unfold cellC
  rw [if_pos rfl]
  exact ⟨_, rfl⟩
set_option maxHeartbeats 2000000 in
theorem ini0 {d : Nat} (hd : 2 ≤ d) : IniS d 0 0 217 1416 33 (xcell w0) := by
  intro h n0 o0
  generalize hNN : h.1 + 217 = N
  generalize hSS : h.2.1 + 1416 = S
  obtain ⟨d, rfl⟩ : ∃ e, d = e + 1 := ⟨d - 1, by omega⟩
  have hd : 1 ≤ d := by omega
  refine at_in (k := 0) rfl (by simp [lg_sl, Value.category]) fun P hP => ?_
  dsimp only at hP ⊢
  simp only [entL_i, entL_r, entL_l, entL_n, List.replicate]
  refine lk hP (r := (.aload_n 0, 1, 0, 0, 0, 0)) rfl ?_
  refine lkS hP rfl (by simp) ?_
  refine lk hP (r := (.aload_n 0, 1, 0, 0, 0, 0)) rfl ?_
  refine lk hP (r := (.bipush 24, 2, 0, 0, 0, 0)) rfl ?_
  refine nwR hP (n := 24) rfl (by omega) (by omega) (by omega) ?_
  refine pf hP (fs := dfT 0) rfl (by show 33 < h.1 + 1; omega) (by rw [hN_2, if_neg (by omega)]; exact o0) (by simp [dfT]) ?_
  refine lk hP (r := (.iconst 0, 1, 0, 0, 0, 0)) rfl ?_
  refine lk hP (r := (.istore_n 1, 1, 0, 0, 0, 0)) rfl ?_
  refine ⟨by decide, rfl, ?_⟩
  suffices ho : ∀ (fuel i : Nat) (h' : aH), i + fuel = 24 → h'.1 = 35 + 9 * i → h'.2.1 = h.2.1 + 24 + 58 * i → h'.2.2 33 = .inr (0, [.ref 34, .int 0, .int 0]) → h'.2.2 34 = .inl (2, 24, .inr (.inr (.inr (.inr (fun j => if j < i then some (35 + 9 * j) else none))))) → (∀ q, q < 33 → h'.2.2 q = h.2.2 q) → (∀ j q, j < i → 35 + 9 * j ≤ q → q ≤ 35 + 9 * j + 8 → h'.2.2 q = cellC (35 + 9 * j) C00 q) → P 15 [some (.ref 33), some (.int (Int32.ofInt (i : Int)))] [] h' by
    refine ho 24 0 _ (by omega) ?_ rfl ?_ ?_ ?_ (fun j q hj => by omega)
    · show h.1 + 1 = 35 + 9 * 0
      omega
    · rw [hS_2, if_pos rfl, n0]; rfl
    · rw [hS_2, if_neg (by omega), hN_2, if_pos (by omega)]; simp
    · intro q hq
      rw [hS_2, if_neg (by omega), hN_2, if_neg (by omega)]
  intro fuel
  induction fuel with
  | zero =>
    intro i h' hi e1 e2 e3 e4 e5 e6
    obtain rfl : i = 24 := by omega
    refine lk hP (r := (.iload_n 1, 1, 0, 0, 0, 0)) rfl ?_
    refine lk hP (r := (.bipush 24, 2, 0, 0, 0, 0)) rfl ?_
    refine lk hP (r := (.if_icmp .ge 22, 3, 40, 0, 0, 0)) rfl ?_
    refine ⟨fun _ => ?_, fun e => absurd (by decide) e⟩
    show P 40 [some (.ref 33), some (.int (Int32.ofInt ((24 : Nat) : Int)))] [] h'
    refine lk hP (r := (.return_, 1, 0, 0, 0, 0)) rfl ?_
    refine ⟨rfl, rfl, rfl, by omega, by omega, e5, fun q hq1 hq2 => ?_⟩
    rcases (show q = 33 ∨ q = 34 ∨ (35 ≤ q ∧ q ≤ 250) by omega) with e | e | e
    · rw [e, e3]; rfl
    · rw [e, e4]; rfl
    · rw [e6 ((q - 35) / 9) q (by omega) (by omega) (by omega)]
      have hc := casA_k (i := (q - 35) / 9) (by omega)
      rw [← hc]
      exact xcell_c (by omega) (by rw [hc]; omega) (by rw [hc]; omega)
  | succ fuel ih =>
    intro i h' hi e1 e2 e3 e4 e5 e6
    refine lk hP (r := (.iload_n 1, 1, 0, 0, 0, 0)) rfl ?_
    refine lk hP (r := (.bipush 24, 2, 0, 0, 0, 0)) rfl ?_
    refine lk hP (r := (.if_icmp .ge 22, 3, 40, 0, 0, 0)) rfl ?_
    show br (Int32.ofInt 24 ≤ Int32.ofInt (i : Int)) (P 40 [some (.ref 33), some (.int (Int32.ofInt (i : Int)))] [] h') (P 21 [some (.ref 33), some (.int (Int32.ofInt (i : Int)))] [] h')
    rw [i_le (by omega) (by omega) (by omega) (by omega)]
    refine ⟨fun e => by omega, fun _ => ?_⟩
    refine lk hP (r := (.aload_n 0, 1, 0, 0, 0, 0)) rfl ?_
    show P 22 [some (.ref 33), some (.int (Int32.ofInt (i : Int)))] [.ref 33] h'
    refine lk hP (r := (.getfield 11, 3, 0, 0, 0, 0)) rfl ?_
    show opt (hO h' 33 0) fun fs => opt (fs[0]?) fun v => P 25 [some (.ref 33), some (.int (Int32.ofInt (i : Int)))] [v] h'
    rw [hO_of (by omega) e3]
    show P 25 [some (.ref 33), some (.int (Int32.ofInt (i : Int)))] [.ref 34] h'
    refine lk hP (r := (.iload_n 1, 1, 0, 0, 0, 0)) rfl ?_
    show P 26 [some (.ref 33), some (.int (Int32.ofInt (i : Int)))] [.int (Int32.ofInt (i : Int)), .ref 34] h'
    refine nw0 hP (pc := 26) rfl rfl rfl (by omega) (ini11 (a := 35 + 9 * i) (by omega)) e1 (by first | (show 1 + (1 + 0) ≤ 7; omega) | simp [Value.category]) (by omega) (by omega) ?_
    intro h2 n2 s2 f2 c2
    obtain ⟨fs, hfs⟩ := cellC_o (a := 35 + 9 * i) (c := C00)
    refine aS2 hP (n := 24) rfl (by omega) (by rw [f2 _ (by omega)]; exact e4) (by omega) (by rw [c2 _ (by omega) (by omega)]; exact hfs) (by omega) (by omega) ?_
    rw [va_up_s]
    refine lk hP (r := (.iinc 1 1, 3, 0, 0, 0, 0)) rfl ?_
    show lvS [some (.ref 33), some (.int (Int32.ofInt (i : Int)))] 1 (.int (Int32.ofInt (i : Int) + Int32.ofInt 1)) fun L' => P 37 L' [] _
    rw [i_add]
    refine ⟨by show 1 < 2; omega, rfl, ?_⟩
    refine lk hP (r := (.goto (-22), 3, 15, 0, 0, 0)) rfl ?_
    refine ih (i + 1) _ (by omega) ?_ ?_ ?_ ?_ ?_ ?_
    · show h2.1 = _
      omega
    · show h2.2.1 = _
      omega
    · rw [hS_2, if_neg (by omega), f2 _ (by omega)]; exact e3
    · rw [hS_2, if_pos rfl]
    · intro q hq
      rw [hS_2, if_neg (by omega), f2 _ (by omega)]; exact e5 q hq
    · intro j q hj q1 q2
      rw [hS_2, if_neg (by omega)]
      by_cases ej : j = i
      · rw [ej] at q1 q2 ⊢
        exact c2 q (by omega) (by omega)
      · rw [f2 _ (by omega)]
        exact e6 j q (by omega) q1 q2

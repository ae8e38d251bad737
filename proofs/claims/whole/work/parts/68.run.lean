/-! the law's loop -/
set_option maxRecDepth 20000 in
theorem ls_ret {L : Nat} {xs : Nat → Int32} {P : aK} (hP : LW L xs P) {i : Nat} {h : aH} : P 1435 (LC i) [] h := by
  refine lk hP (r := (.iconst 1, 1, 0, 0, 0, 0)) rfl ?_
  show P 1436 (LC i) [.int (Int32.ofInt 1)] h
  refine lk hP (r := (.ireturn, 1, 0, 0, 0, 0)) rfl ?_
  exact ⟨rfl, .inr ⟨rfl, .inr rfl⟩, rfl⟩
set_option maxRecDepth 20000 in
theorem ls_inc {L : Nat} {xs : Nat → Int32} {P : aK} (hP : LW L xs P) {i : Nat} {h : aH} (n : LwS P h (i + 7) 18) : LwS P h i 1429 := by
  intro w m s hs hX hM
  refine lk hP (r := (.iinc 3 7, 3, 0, 0, 0, 0)) rfl ?_
  show lvS (LC i) 3 (.int (Int32.ofInt (i : Int) + Int32.ofInt 7)) fun L' => P 1432 L' [] (putM (putX h w) 293 m)
  rw [i_add]
  refine ⟨by show 3 < 4; omega, rfl, ?_⟩
  show P 1432 (LC (i + 7)) [] (putM (putX h w) 293 m)
  refine lk hP (r := (.goto (-1414), 3, 18, 0, 0, 0)) rfl ?_
  exact n w m s hs hX hM
theorem ls_top {L : Nat} {xs : Nat → Int32} {P : aK} (hP : LW L xs P) (hL : L ≤ 448) {i : Nat} (h2 : i ≤ 500) {h : aH} (n : i + 7 ≤ L → LwS P h i 27) : LwS P h i 18 := by
  intro w m s hs hX hM
  refine lk hP (r := (.iload_n 3, 1, 0, 0, 0, 0)) rfl ?_
  show P 19 (LC i) [.int (Int32.ofInt (i : Int))] (putM (putX h w) 293 m)
  refine lk hP (r := (.aload_n 0, 1, 0, 0, 0, 0)) rfl ?_
  show P 20 (LC i) [.float 2, .int (Int32.ofInt (i : Int))] (putM (putX h w) 293 m)
  refine lk hP (r := (.arraylength, 1, 0, 0, 0, 0)) rfl ?_
  show opt (saX L xs (UInt32.toNat 2)) fun q => P 21 (LC i) [.int (Int32.ofNat q.1), .int (Int32.ofInt (i : Int))] (putM (putX h w) 293 m)
  rw [saX2]
  show P 21 (LC i) [.int (Int32.ofInt (L : Int)), .int (Int32.ofInt (i : Int))] (putM (putX h w) 293 m)
  refine lk hP (r := (.bipush 7, 2, 0, 0, 0, 0)) rfl ?_
  show P 23 (LC i) [.int (Int32.ofInt 7), .int (Int32.ofInt (L : Int)), .int (Int32.ofInt (i : Int))] (putM (putX h w) 293 m)
  refine lk hP (r := (.isub, 1, 0, 0, 0, 0)) rfl ?_
  show P 24 (LC i) [.int (Int32.ofInt (L : Int) - Int32.ofInt 7), .int (Int32.ofInt (i : Int))] (putM (putX h w) 293 m)
  rw [i_sub]
  refine lk hP (r := (.if_icmp .gt 1411, 3, 1435, 0, 0, 0)) rfl ?_
  show br (Int32.ofInt ((L : Int) - 7) < Int32.ofInt (i : Int)) (P 1435 (LC i) [] (putM (putX h w) 293 m)) (P 27 (LC i) [] (putM (putX h w) 293 m))
  rw [i_lt (by omega) (by omega) (by omega) (by omega)]
  exact ⟨fun _ => ls_ret hP, fun e => n (by omega) w m s hs hX hM⟩
set_option maxHeartbeats 4000000 in
theorem ls_sw {L : Nat} {xs : Nat → Int32} {P : aK} (hP : LW L xs P) (hL : L ≤ 448) {i : Nat} (hi : i + 7 ≤ L) {h : aH} (hh : 310 ≤ h.1) (nx : LwS P h i 1429) : LwS P h i 27 := by
  intro w m s hs hX hM
  refine lk hP (r := (.aload_n 0, 1, 0, 0, 0, 0)) rfl ?_
  show P 28 (LC i) [.float 2] (putM (putX h w) 293 m)
  refine lk hP (r := (.iload_n 3, 1, 0, 0, 0, 0)) rfl ?_
  show P 29 (LC i) [.int (Int32.ofInt (i : Int)), .float 2] (putM (putX h w) 293 m)
  refine lwX hP (j := i) (by omega) hL rfl ?_
  show P 30 (LC i) [.int (xs i)] (putM (putX h w) 293 m)
  refine lk hP (r := (.bipush 63, 2, 0, 0, 0, 0)) rfl ?_
  show P 32 (LC i) [.int (Int32.ofInt 63), .int (xs i)] (putM (putX h w) 293 m)
  refine lk hP (r := (.iand, 1, 0, 0, 0, 0)) rfl ?_
  show P 33 (LC i) [.int (xs i &&& Int32.ofInt 63)] (putM (putX h w) 293 m)
  generalize (xs i &&& Int32.ofInt 63) = a
  refine lk hP (r := (.tableswitch 1396 0 37 #[167, 210, 253, 316, 339, 362, 375, 388, 401, 424, 447, 470, 503, 536, 569, 602, 625, 668, 701, 724, 747, 770, 803, 846, 889, 922, 955, 1030, 1105, 1159, 1202, 1225, 1248, 1271, 1304, 1337, 1360, 1383], 167, 0, 0, 0, 0)) rfl ?_
  show br (a.toInt < 0 ∨ 37 < a.toInt) (jmp P 33 1396 (LC i) [] (putM (putX h w) 293 m)) (opt ((#[167, 210, 253, 316, 339, 362, 375, 388, 401, 424, 447, 470, 503, 536, 569, 602, 625, 668, 701, 724, 747, 770, 803, 846, 889, 922, 955, 1030, 1105, 1159, 1202, 1225, 1248, 1271, 1304, 1337, 1360, 1383] : Array Int)[(a.toInt - 0).toNat]?) fun off => jmp P 33 off (LC i) [] (putM (putX h w) 293 m))
  refine ⟨fun _ => ⟨by omega, nx w m s hs hX hM⟩, fun e => ?_⟩
  obtain ⟨n, hn⟩ : ∃ n : Nat, a.toInt = n := Int.eq_ofNat_of_zero_le (by omega)
  rw [hn]
  have hn2 : n < 38 := by omega
  clear hn e
  rcases (show n = 0 ∨ n = 1 ∨ n = 2 ∨ n = 3 ∨ n = 4 ∨ n = 5 ∨ n = 6 ∨ n = 7 ∨ n = 8 ∨ n = 9 ∨ n = 10 ∨ n = 11 ∨ n = 12 ∨ n = 13 ∨ n = 14 ∨ n = 15 ∨ n = 16 ∨ n = 17 ∨ n = 18 ∨ n = 19 ∨ n = 20 ∨ n = 21 ∨ n = 22 ∨ n = 23 ∨ n = 24 ∨ n = 25 ∨ n = 26 ∨ n = 27 ∨ n = 28 ∨ n = 29 ∨ n = 30 ∨ n = 31 ∨ n = 32 ∨ n = 33 ∨ n = 34 ∨ n = 35 ∨ n = 36 ∨ n = 37 by omega) with rfl | rfl | rfl | rfl | rfl | rfl | rfl | rfl | rfl | rfl | rfl | rfl | rfl | rfl | rfl | rfl | rfl | rfl | rfl | rfl | rfl | rfl | rfl | rfl | rfl | rfl | rfl | rfl | rfl | rfl | rfl | rfl | rfl | rfl | rfl | rfl | rfl | rfl
  · exact (⟨by omega, lc_0 hP hL hi hh nx w m s hs hX hM⟩ : jmp P 33 167 (LC i) [] (putM (putX h w) 293 m))
  · exact (⟨by omega, lc_1 hP hL hi hh nx w m s hs hX hM⟩ : jmp P 33 210 (LC i) [] (putM (putX h w) 293 m))
  · exact (⟨by omega, lc_2 hP hL hi hh nx w m s hs hX hM⟩ : jmp P 33 253 (LC i) [] (putM (putX h w) 293 m))
  · exact (⟨by omega, lc_3 hP hL hi hh nx w m s hs hX hM⟩ : jmp P 33 316 (LC i) [] (putM (putX h w) 293 m))
  · exact (⟨by omega, lc_4 hP hL hi hh nx w m s hs hX hM⟩ : jmp P 33 339 (LC i) [] (putM (putX h w) 293 m))
  · exact (⟨by omega, lc_5 hP hL hi hh nx w m s hs hX hM⟩ : jmp P 33 362 (LC i) [] (putM (putX h w) 293 m))
  · exact (⟨by omega, lc_6 hP hL hi hh nx w m s hs hX hM⟩ : jmp P 33 375 (LC i) [] (putM (putX h w) 293 m))
  · exact (⟨by omega, lc_7 hP hL hi hh nx w m s hs hX hM⟩ : jmp P 33 388 (LC i) [] (putM (putX h w) 293 m))
  · exact (⟨by omega, lc_8 hP hL hi hh nx w m s hs hX hM⟩ : jmp P 33 401 (LC i) [] (putM (putX h w) 293 m))
  · exact (⟨by omega, lc_9 hP hL hi hh nx w m s hs hX hM⟩ : jmp P 33 424 (LC i) [] (putM (putX h w) 293 m))
  · exact (⟨by omega, lc_10 hP hL hi hh nx w m s hs hX hM⟩ : jmp P 33 447 (LC i) [] (putM (putX h w) 293 m))
  · exact (⟨by omega, lc_11 hP hL hi hh nx w m s hs hX hM⟩ : jmp P 33 470 (LC i) [] (putM (putX h w) 293 m))
  · exact (⟨by omega, lc_12 hP hL hi hh nx w m s hs hX hM⟩ : jmp P 33 503 (LC i) [] (putM (putX h w) 293 m))
  · exact (⟨by omega, lc_13 hP hL hi hh nx w m s hs hX hM⟩ : jmp P 33 536 (LC i) [] (putM (putX h w) 293 m))
  · exact (⟨by omega, lc_14 hP hL hi hh nx w m s hs hX hM⟩ : jmp P 33 569 (LC i) [] (putM (putX h w) 293 m))
  · exact (⟨by omega, lc_15 hP hL hi hh nx w m s hs hX hM⟩ : jmp P 33 602 (LC i) [] (putM (putX h w) 293 m))
  · exact (⟨by omega, lc_16 hP hL hi hh nx w m s hs hX hM⟩ : jmp P 33 625 (LC i) [] (putM (putX h w) 293 m))
  · exact (⟨by omega, lc_17 hP hL hi hh nx w m s hs hX hM⟩ : jmp P 33 668 (LC i) [] (putM (putX h w) 293 m))
  · exact (⟨by omega, lc_18 hP hL hi hh nx w m s hs hX hM⟩ : jmp P 33 701 (LC i) [] (putM (putX h w) 293 m))
  · exact (⟨by omega, lc_19 hP hL hi hh nx w m s hs hX hM⟩ : jmp P 33 724 (LC i) [] (putM (putX h w) 293 m))
  · exact (⟨by omega, lc_20 hP hL hi hh nx w m s hs hX hM⟩ : jmp P 33 747 (LC i) [] (putM (putX h w) 293 m))
  · exact (⟨by omega, lc_21 hP hL hi hh nx w m s hs hX hM⟩ : jmp P 33 770 (LC i) [] (putM (putX h w) 293 m))
  · exact (⟨by omega, lc_22 hP hL hi hh nx w m s hs hX hM⟩ : jmp P 33 803 (LC i) [] (putM (putX h w) 293 m))
  · exact (⟨by omega, lc_23 hP hL hi hh nx w m s hs hX hM⟩ : jmp P 33 846 (LC i) [] (putM (putX h w) 293 m))
  · exact (⟨by omega, lc_24 hP hL hi hh nx w m s hs hX hM⟩ : jmp P 33 889 (LC i) [] (putM (putX h w) 293 m))
  · exact (⟨by omega, lc_25 hP hL hi hh nx w m s hs hX hM⟩ : jmp P 33 922 (LC i) [] (putM (putX h w) 293 m))
  · exact (⟨by omega, lc_26 hP hL hi hh nx w m s hs hX hM⟩ : jmp P 33 955 (LC i) [] (putM (putX h w) 293 m))
  · exact (⟨by omega, lc_27 hP hL hi hh nx w m s hs hX hM⟩ : jmp P 33 1030 (LC i) [] (putM (putX h w) 293 m))
  · exact (⟨by omega, lc_28 hP hL hi hh nx w m s hs hX hM⟩ : jmp P 33 1105 (LC i) [] (putM (putX h w) 293 m))
  · exact (⟨by omega, lc_29 hP hL hi hh nx w m s hs hX hM⟩ : jmp P 33 1159 (LC i) [] (putM (putX h w) 293 m))
  · exact (⟨by omega, lc_30 hP hL hi hh nx w m s hs hX hM⟩ : jmp P 33 1202 (LC i) [] (putM (putX h w) 293 m))
  · exact (⟨by omega, lc_31 hP hL hi hh nx w m s hs hX hM⟩ : jmp P 33 1225 (LC i) [] (putM (putX h w) 293 m))
  · exact (⟨by omega, lc_32 hP hL hi hh nx w m s hs hX hM⟩ : jmp P 33 1248 (LC i) [] (putM (putX h w) 293 m))
  · exact (⟨by omega, lc_33 hP hL hi hh nx w m s hs hX hM⟩ : jmp P 33 1271 (LC i) [] (putM (putX h w) 293 m))
  · exact (⟨by omega, lc_34 hP hL hi hh nx w m s hs hX hM⟩ : jmp P 33 1304 (LC i) [] (putM (putX h w) 293 m))
  · exact (⟨by omega, lc_35 hP hL hi hh nx w m s hs hX hM⟩ : jmp P 33 1337 (LC i) [] (putM (putX h w) 293 m))
  · exact (⟨by omega, lc_36 hP hL hi hh nx w m s hs hX hM⟩ : jmp P 33 1360 (LC i) [] (putM (putX h w) 293 m))
  · exact (⟨by omega, lc_37 hP hL hi hh nx w m s hs hX hM⟩ : jmp P 33 1383 (LC i) [] (putM (putX h w) 293 m))
set_option maxHeartbeats 4000000 in
theorem ls_loop {L : Nat} {xs : Nat → Int32} {P : aK} (hP : LW L xs P) (hL : L ≤ 448) {h : aH} (hh : 310 ≤ h.1) : ∀ (fuel i : Nat), L ≤ i + fuel → i ≤ 500 → LwS P h i 18 := by
  intro fuel
  induction fuel with
  | zero =>
    intro i h1 h2 w m s hs hX hM
    exact ls_top hP hL h2 (fun hi => by omega) w m s hs hX hM
  | succ fuel ih =>
    intro i h1 h2
    exact ls_top hP hL h2 (fun hi => ls_sw hP hL hi hh (ls_inc hP (ih (i + 7) (by omega) (by omega))))

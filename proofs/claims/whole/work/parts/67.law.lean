/-! the law's cases: one call of each side, and both answers alike -/
def saX (L : Nat) (xs : Nat → Int32) : aS := fun j => match j with
  | 2 => some (L, xs)
  | j => sa0 j
abbrev LW (L : Nat) (xs : Nat → Int32) (P : aK) : Prop := aClo (saX L xs) (aAt 40) 600000 7302250 (some .boolean) cd226 P (fun r _ => r = some (.int 1))
abbrev LC (i : Nat) : aL := [some (.float 2), some (.ref 0), some (.ref 293), some (.int (Int32.ofInt (i : Int)))]
theorem lk {sa : aS} {F : aF} {N S : Nat} {rt : Option FieldType} {cd : List (Nat × aI)} {P : aK} {Q : aQ} {pc : Nat} {L : aL} {st : List Value} {h : aH} {r : aI} (hP : aClo sa F N S rt cd P Q) (hl : lkp cd pc = some r) (k : ex1 sa F N S rt P Q pc L st h r.1 r.2.2.1 r.2.2.2.1 r.2.2.2.2.1 r.2.2.2.2.2) : P pc L st h := hP pc L st h (by unfold exq; rw [hl]; exact k)
theorem saX2 {L : Nat} {xs : Nat → Int32} : saX L xs (UInt32.toNat 2) = some (L, xs) := rfl
theorem lwX {L : Nat} {xs : Nat → Int32} {P : aK} (hP : LW L xs P) {pc j : Nat} {Lc : aL} {st : List Value} {h : aH} (hj : j < L) (hL : L ≤ 448) (h4 : lkp cd226 pc = some (.iaload, 1, 0, 0, 0, 0)) (n : P (pc + 1) Lc (.int (xs j) :: st) h) : P pc Lc (.int (Int32.ofInt (j : Int)) :: .float 2 :: st) h := by
  refine lk hP h4 ?_
  show opt (saX L xs (UInt32.toNat 2)) fun q => ix (Int32.ofInt (j : Int)) q.1 fun k => P (pc + 1) Lc (.int (q.2 k) :: st) h
  rw [saX2]
  show ix (Int32.ofInt (j : Int)) L fun k => P (pc + 1) Lc (.int (xs k) :: st) h
  rw [i_ix hj (by omega)]
  exact n
theorem lwA {L : Nat} {xs : Nat → Int32} {P : aK} (hP : LW L xs P) {pc i k : Nat} {st : List Value} {h : aH} (hk : i + k < L) (hL : L ≤ 448) (h0 : lkp cd226 pc = some (.aload_n 0, 1, 0, 0, 0, 0)) (h1 : lkp cd226 (pc + 1) = some (.iload_n 3, 1, 0, 0, 0, 0)) (h2 : lkp cd226 (pc + 2) = some (.iconst (k : Int), 1, 0, 0, 0, 0)) (h3 : lkp cd226 (pc + 3) = some (.iadd, 1, 0, 0, 0, 0)) (h4 : lkp cd226 (pc + 4) = some (.iaload, 1, 0, 0, 0, 0)) (n : P (pc + 5) (LC i) (.int (xs (i + k)) :: st) h) : P pc (LC i) st h := by
  refine lk hP h0 ?_
  show P (pc + 1) (LC i) (.float 2 :: st) h
  refine lk hP h1 ?_
  show P (pc + 2) (LC i) (.int (Int32.ofInt (i : Int)) :: .float 2 :: st) h
  refine lk hP h2 ?_
  show P (pc + 3) (LC i) (.int (Int32.ofInt (k : Int)) :: .int (Int32.ofInt (i : Int)) :: .float 2 :: st) h
  refine lk hP h3 ?_
  show P (pc + 4) (LC i) (.int (Int32.ofInt (i : Int) + Int32.ofInt (k : Int)) :: .float 2 :: st) h
  rw [i_add, ← Int.natCast_add]
  exact lwX hP hk hL h4 n
theorem lwB {L : Nat} {xs : Nat → Int32} {P : aK} (hP : LW L xs P) {pc i k : Nat} {st : List Value} {h : aH} (hk : i + k < L) (hL : L ≤ 448) (h0 : lkp cd226 pc = some (.aload_n 0, 1, 0, 0, 0, 0)) (h1 : lkp cd226 (pc + 1) = some (.iload_n 3, 1, 0, 0, 0, 0)) (h2 : lkp cd226 (pc + 2) = some (.bipush (k : Int), 2, 0, 0, 0, 0)) (h3 : lkp cd226 (pc + 4) = some (.iadd, 1, 0, 0, 0, 0)) (h4 : lkp cd226 (pc + 5) = some (.iaload, 1, 0, 0, 0, 0)) (n : P (pc + 6) (LC i) (.int (xs (i + k)) :: st) h) : P pc (LC i) st h := by
  refine lk hP h0 ?_
  show P (pc + 1) (LC i) (.float 2 :: st) h
  refine lk hP h1 ?_
  show P (pc + 2) (LC i) (.int (Int32.ofInt (i : Int)) :: .float 2 :: st) h
  refine lk hP h2 ?_
  show P (pc + 4) (LC i) (.int (Int32.ofInt (k : Int)) :: .int (Int32.ofInt (i : Int)) :: .float 2 :: st) h
  refine lk hP h3 ?_
  show P (pc + 5) (LC i) (.int (Int32.ofInt (i : Int) + Int32.ofInt (k : Int)) :: .float 2 :: st) h
  rw [i_add, ← Int.natCast_add]
  exact lwX hP hk hL h4 n
theorem XM {h : aH} {w : Xc} {m : Cc} : putM (putX h w) 293 m = putX (putM h 293 m) w := by
  unfold putM putX
  refine congrArg (fun z => (h.1, h.2.1, z)) ?_
  funext q
  dsimp only
  by_cases e : q ≤ 292
  · rw [if_pos e, if_pos e, if_neg (by omega), if_neg (by omega)]
  · rw [if_neg e, if_neg e]
/-- what the law holds between two calls -/
def LwS (P : aK) (h : aH) (i pc : Nat) : Prop := ∀ (w : Xc) (m : Cc) (s : Sg), SOk s → XI w s → MI m s → P pc (LC i) [] (putM (putX h w) 293 m)
theorem lcmp0 (v : Int64) : lg_cmp v v = 0 := by
  unfold lg_cmp
  simp
set_option maxRecDepth 20000 in
theorem lc_0 {L : Nat} {xs : Nat → Int32} {P : aK} (hP : LW L xs P) (hL : L ≤ 448) {i : Nat} (hi : i + 7 ≤ L) {h : aH} (hh : 310 ≤ h.1) (nx : LwS P h i 1429) : LwS P h i 200 := by
  intro w m s hs hX hM
  obtain ⟨v, s', hs', c1, c2⟩ := b_row (xs (i + 1)) (xs (i + 2)) (xs (i + 3)) w m s hs hX hM
  refine lk hP (r := (.aload_n 1, 1, 0, 0, 0, 0)) rfl ?_
  show P 201 (LC i) [.ref 0] (putM (putX h w) 293 m)
  refine lwA hP (k := 1) (by omega) hL rfl rfl rfl rfl rfl ?_
  refine lwA hP (k := 2) (by omega) hL rfl rfl rfl rfl rfl ?_
  refine lwA hP (k := 3) (by omega) hL rfl rfl rfl rfl rfl ?_
  rw [XM]
  refine kv3 hP rfl (xH0 (by show 293 ≤ h.1; omega)) (by simp) (c1 40 _ _ (by omega) (putM h 293 m) (by show 293 ≤ h.1; omega)) ?_
  rintro _ _ ⟨rfl, w', rfl, hX'⟩
  rw [← XM]
  show P 219 (LC i) [.int v] (putM (putX h w') 293 m)
  refine lk hP (r := (.aload_n 2, 1, 0, 0, 0, 0)) rfl ?_
  show P 220 (LC i) [.ref 293, .int v] (putM (putX h w') 293 m)
  refine lwA hP (k := 1) (by omega) hL rfl rfl rfl rfl rfl ?_
  refine lwA hP (k := 2) (by omega) hL rfl rfl rfl rfl rfl ?_
  refine lwA hP (k := 3) (by omega) hL rfl rfl rfl rfl rfl ?_
  refine kv3 hP rfl (hOM (by show 310 ≤ h.1; omega)) (by simp) (c2 40 _ _ (by omega) (putX h w') 293 (by show 310 ≤ h.1; omega)) ?_
  rintro _ _ ⟨rfl, m', rfl, hM'⟩
  show P 238 (LC i) [.int v, .int v] (putM (putX h w') 293 m')
  refine lk hP (r := (.if_icmp .eq 1191, 3, 1429, 0, 0, 0)) rfl ?_
  exact ⟨fun _ => nx w' m' s' hs' hX' hM', fun e => absurd rfl e⟩
set_option maxRecDepth 20000 in
theorem lc_1 {L : Nat} {xs : Nat → Int32} {P : aK} (hP : LW L xs P) (hL : L ≤ 448) {i : Nat} (hi : i + 7 ≤ L) {h : aH} (hh : 310 ≤ h.1) (nx : LwS P h i 1429) : LwS P h i 243 := by
  intro w m s hs hX hM
  obtain ⟨v, s', hs', c1, c2⟩ := b_set (xs (i + 1)) (xs (i + 2)) (xs (i + 3)) w m s hs hX hM
  refine lk hP (r := (.aload_n 1, 1, 0, 0, 0, 0)) rfl ?_
  show P 244 (LC i) [.ref 0] (putM (putX h w) 293 m)
  refine lwA hP (k := 1) (by omega) hL rfl rfl rfl rfl rfl ?_
  refine lwA hP (k := 2) (by omega) hL rfl rfl rfl rfl rfl ?_
  refine lwA hP (k := 3) (by omega) hL rfl rfl rfl rfl rfl ?_
  rw [XM]
  refine kv3 hP rfl (xH0 (by show 293 ≤ h.1; omega)) (by simp) (c1 40 _ _ (by omega) (putM h 293 m) (by show 293 ≤ h.1; omega)) ?_
  rintro _ _ ⟨rfl, w', rfl, hX'⟩
  rw [← XM]
  show P 262 (LC i) [.int v] (putM (putX h w') 293 m)
  refine lk hP (r := (.aload_n 2, 1, 0, 0, 0, 0)) rfl ?_
  show P 263 (LC i) [.ref 293, .int v] (putM (putX h w') 293 m)
  refine lwA hP (k := 1) (by omega) hL rfl rfl rfl rfl rfl ?_
  refine lwA hP (k := 2) (by omega) hL rfl rfl rfl rfl rfl ?_
  refine lwA hP (k := 3) (by omega) hL rfl rfl rfl rfl rfl ?_
  refine kv3 hP rfl (hOM (by show 310 ≤ h.1; omega)) (by simp) (c2 40 _ _ (by omega) (putX h w') 293 (by show 310 ≤ h.1; omega)) ?_
  rintro _ _ ⟨rfl, m', rfl, hM'⟩
  show P 281 (LC i) [.int v, .int v] (putM (putX h w') 293 m')
  refine lk hP (r := (.if_icmp .eq 1148, 3, 1429, 0, 0, 0)) rfl ?_
  exact ⟨fun _ => nx w' m' s' hs' hX' hM', fun e => absurd rfl e⟩
set_option maxRecDepth 20000 in
theorem lc_2 {L : Nat} {xs : Nat → Int32} {P : aK} (hP : LW L xs P) (hL : L ≤ 448) {i : Nat} (hi : i + 7 ≤ L) {h : aH} (hh : 310 ≤ h.1) (nx : LwS P h i 1429) : LwS P h i 286 := by
  intro w m s hs hX hM
  obtain ⟨v, s', hs', c1, c2⟩ := b_copy (xs (i + 1)) (xs (i + 2)) (xs (i + 3)) (xs (i + 4)) (xs (i + 5)) w m s hs hX hM
  refine lk hP (r := (.aload_n 1, 1, 0, 0, 0, 0)) rfl ?_
  show P 287 (LC i) [.ref 0] (putM (putX h w) 293 m)
  refine lwA hP (k := 1) (by omega) hL rfl rfl rfl rfl rfl ?_
  refine lwA hP (k := 2) (by omega) hL rfl rfl rfl rfl rfl ?_
  refine lwA hP (k := 3) (by omega) hL rfl rfl rfl rfl rfl ?_
  refine lwA hP (k := 4) (by omega) hL rfl rfl rfl rfl rfl ?_
  refine lwA hP (k := 5) (by omega) hL rfl rfl rfl rfl rfl ?_
  rw [XM]
  refine kv5 hP rfl (xH0 (by show 293 ≤ h.1; omega)) (by simp) (c1 40 _ _ (by omega) (putM h 293 m) (by show 293 ≤ h.1; omega)) ?_
  rintro _ _ ⟨rfl, w', rfl, hX'⟩
  rw [← XM]
  show P 315 (LC i) [.int v] (putM (putX h w') 293 m)
  refine lk hP (r := (.aload_n 2, 1, 0, 0, 0, 0)) rfl ?_
  show P 316 (LC i) [.ref 293, .int v] (putM (putX h w') 293 m)
  refine lwA hP (k := 1) (by omega) hL rfl rfl rfl rfl rfl ?_
  refine lwA hP (k := 2) (by omega) hL rfl rfl rfl rfl rfl ?_
  refine lwA hP (k := 3) (by omega) hL rfl rfl rfl rfl rfl ?_
  refine lwA hP (k := 4) (by omega) hL rfl rfl rfl rfl rfl ?_
  refine lwA hP (k := 5) (by omega) hL rfl rfl rfl rfl rfl ?_
  refine kv5 hP rfl (hOM (by show 310 ≤ h.1; omega)) (by simp) (c2 40 _ _ (by omega) (putX h w') 293 (by show 310 ≤ h.1; omega)) ?_
  rintro _ _ ⟨rfl, m', rfl, hM'⟩
  show P 344 (LC i) [.int v, .int v] (putM (putX h w') 293 m')
  refine lk hP (r := (.if_icmp .eq 1085, 3, 1429, 0, 0, 0)) rfl ?_
  exact ⟨fun _ => nx w' m' s' hs' hX' hM', fun e => absurd rfl e⟩
set_option maxRecDepth 20000 in
theorem lc_3 {L : Nat} {xs : Nat → Int32} {P : aK} (hP : LW L xs P) (hL : L ≤ 448) {i : Nat} (hi : i + 7 ≤ L) {h : aH} (hh : 310 ≤ h.1) (nx : LwS P h i 1429) : LwS P h i 349 := by
  intro w m s hs hX hM
  obtain ⟨v, s', hs', c1, c2⟩ := b_drop (xs (i + 1)) w m s hs hX hM
  refine lk hP (r := (.aload_n 1, 1, 0, 0, 0, 0)) rfl ?_
  show P 350 (LC i) [.ref 0] (putM (putX h w) 293 m)
  refine lwA hP (k := 1) (by omega) hL rfl rfl rfl rfl rfl ?_
  rw [XM]
  refine kv1 hP rfl (xH0 (by show 293 ≤ h.1; omega)) (by simp) (c1 40 _ _ (by omega) (putM h 293 m) (by show 293 ≤ h.1; omega)) ?_
  rintro _ _ ⟨rfl, w', rfl, hX'⟩
  rw [← XM]
  show P 358 (LC i) [.int v] (putM (putX h w') 293 m)
  refine lk hP (r := (.aload_n 2, 1, 0, 0, 0, 0)) rfl ?_
  show P 359 (LC i) [.ref 293, .int v] (putM (putX h w') 293 m)
  refine lwA hP (k := 1) (by omega) hL rfl rfl rfl rfl rfl ?_
  refine kv1 hP rfl (hOM (by show 310 ≤ h.1; omega)) (by simp) (c2 40 _ _ (by omega) (putX h w') 293 (by show 310 ≤ h.1; omega)) ?_
  rintro _ _ ⟨rfl, m', rfl, hM'⟩
  show P 367 (LC i) [.int v, .int v] (putM (putX h w') 293 m')
  refine lk hP (r := (.if_icmp .eq 1062, 3, 1429, 0, 0, 0)) rfl ?_
  exact ⟨fun _ => nx w' m' s' hs' hX' hM', fun e => absurd rfl e⟩
set_option maxRecDepth 20000 in
theorem lc_4 {L : Nat} {xs : Nat → Int32} {P : aK} (hP : LW L xs P) (hL : L ≤ 448) {i : Nat} (hi : i + 7 ≤ L) {h : aH} (hh : 310 ≤ h.1) (nx : LwS P h i 1429) : LwS P h i 372 := by
  intro w m s hs hX hM
  obtain ⟨v, s', hs', c1, c2⟩ := b_feed (xs (i + 1)) w m s hs hX hM
  refine lk hP (r := (.aload_n 1, 1, 0, 0, 0, 0)) rfl ?_
  show P 373 (LC i) [.ref 0] (putM (putX h w) 293 m)
  refine lwA hP (k := 1) (by omega) hL rfl rfl rfl rfl rfl ?_
  rw [XM]
  refine kv1 hP rfl (xH0 (by show 293 ≤ h.1; omega)) (by simp) (c1 40 _ _ (by omega) (putM h 293 m) (by show 293 ≤ h.1; omega)) ?_
  rintro _ _ ⟨rfl, w', rfl, hX'⟩
  rw [← XM]
  show P 381 (LC i) [.int v] (putM (putX h w') 293 m)
  refine lk hP (r := (.aload_n 2, 1, 0, 0, 0, 0)) rfl ?_
  show P 382 (LC i) [.ref 293, .int v] (putM (putX h w') 293 m)
  refine lwA hP (k := 1) (by omega) hL rfl rfl rfl rfl rfl ?_
  refine kv1 hP rfl (hOM (by show 310 ≤ h.1; omega)) (by simp) (c2 40 _ _ (by omega) (putX h w') 293 (by show 310 ≤ h.1; omega)) ?_
  rintro _ _ ⟨rfl, m', rfl, hM'⟩
  show P 390 (LC i) [.int v, .int v] (putM (putX h w') 293 m')
  refine lk hP (r := (.if_icmp .eq 1039, 3, 1429, 0, 0, 0)) rfl ?_
  exact ⟨fun _ => nx w' m' s' hs' hX' hM', fun e => absurd rfl e⟩
set_option maxRecDepth 20000 in
theorem lc_5 {L : Nat} {xs : Nat → Int32} {P : aK} (hP : LW L xs P) (hL : L ≤ 448) {i : Nat} (hi : i + 7 ≤ L) {h : aH} (hh : 310 ≤ h.1) (nx : LwS P h i 1429) : LwS P h i 395 := by
  intro w m s hs hX hM
  obtain ⟨v, s', hs', c1, c2⟩ := b_castle  w m s hs hX hM
  refine lk hP (r := (.aload_n 1, 1, 0, 0, 0, 0)) rfl ?_
  show P 396 (LC i) [.ref 0] (putM (putX h w) 293 m)
  rw [XM]
  refine kv0 hP rfl (xH0 (by show 293 ≤ h.1; omega)) (by simp) (c1 40 _ _ (by omega) (putM h 293 m) (by show 293 ≤ h.1; omega)) ?_
  rintro _ _ ⟨rfl, w', rfl, hX'⟩
  rw [← XM]
  show P 399 (LC i) [.int v] (putM (putX h w') 293 m)
  refine lk hP (r := (.aload_n 2, 1, 0, 0, 0, 0)) rfl ?_
  show P 400 (LC i) [.ref 293, .int v] (putM (putX h w') 293 m)
  refine kv0 hP rfl (hOM (by show 310 ≤ h.1; omega)) (by simp) (c2 40 _ _ (by omega) (putX h w') 293 (by show 310 ≤ h.1; omega)) ?_
  rintro _ _ ⟨rfl, m', rfl, hM'⟩
  show P 403 (LC i) [.int v, .int v] (putM (putX h w') 293 m')
  refine lk hP (r := (.if_icmp .eq 1026, 3, 1429, 0, 0, 0)) rfl ?_
  exact ⟨fun _ => nx w' m' s' hs' hX' hM', fun e => absurd rfl e⟩
set_option maxRecDepth 20000 in
theorem lc_6 {L : Nat} {xs : Nat → Int32} {P : aK} (hP : LW L xs P) (hL : L ≤ 448) {i : Nat} (hi : i + 7 ≤ L) {h : aH} (hh : 310 ≤ h.1) (nx : LwS P h i 1429) : LwS P h i 408 := by
  intro w m s hs hX hM
  obtain ⟨v, s', hs', c1, c2⟩ := b_fault  w m s hs hX hM
  refine lk hP (r := (.aload_n 1, 1, 0, 0, 0, 0)) rfl ?_
  show P 409 (LC i) [.ref 0] (putM (putX h w) 293 m)
  rw [XM]
  refine kv0 hP rfl (xH0 (by show 293 ≤ h.1; omega)) (by simp) (c1 40 _ _ (by omega) (putM h 293 m) (by show 293 ≤ h.1; omega)) ?_
  rintro _ _ ⟨rfl, w', rfl, hX'⟩
  rw [← XM]
  show P 412 (LC i) [.int v] (putM (putX h w') 293 m)
  refine lk hP (r := (.aload_n 2, 1, 0, 0, 0, 0)) rfl ?_
  show P 413 (LC i) [.ref 293, .int v] (putM (putX h w') 293 m)
  refine kv0 hP rfl (hOM (by show 310 ≤ h.1; omega)) (by simp) (c2 40 _ _ (by omega) (putX h w') 293 (by show 310 ≤ h.1; omega)) ?_
  rintro _ _ ⟨rfl, m', rfl, hM'⟩
  show P 416 (LC i) [.int v, .int v] (putM (putX h w') 293 m')
  refine lk hP (r := (.if_icmp .eq 1013, 3, 1429, 0, 0, 0)) rfl ?_
  exact ⟨fun _ => nx w' m' s' hs' hX' hM', fun e => absurd rfl e⟩
set_option maxRecDepth 20000 in
theorem lc_7 {L : Nat} {xs : Nat → Int32} {P : aK} (hP : LW L xs P) (hL : L ≤ 448) {i : Nat} (hi : i + 7 ≤ L) {h : aH} (hh : 310 ≤ h.1) (nx : LwS P h i 1429) : LwS P h i 421 := by
  intro w m s hs hX hM
  obtain ⟨v, s', hs', c1, c2⟩ := b_undo  w m s hs hX hM
  refine lk hP (r := (.aload_n 1, 1, 0, 0, 0, 0)) rfl ?_
  show P 422 (LC i) [.ref 0] (putM (putX h w) 293 m)
  rw [XM]
  refine kv0 hP rfl (xH0 (by show 293 ≤ h.1; omega)) (by simp) (c1 40 _ _ (by omega) (putM h 293 m) (by show 293 ≤ h.1; omega)) ?_
  rintro _ _ ⟨rfl, w', rfl, hX'⟩
  rw [← XM]
  show P 425 (LC i) [.int v] (putM (putX h w') 293 m)
  refine lk hP (r := (.aload_n 2, 1, 0, 0, 0, 0)) rfl ?_
  show P 426 (LC i) [.ref 293, .int v] (putM (putX h w') 293 m)
  refine kv0 hP rfl (hOM (by show 310 ≤ h.1; omega)) (by simp) (c2 40 _ _ (by omega) (putX h w') 293 (by show 310 ≤ h.1; omega)) ?_
  rintro _ _ ⟨rfl, m', rfl, hM'⟩
  show P 429 (LC i) [.int v, .int v] (putM (putX h w') 293 m')
  refine lk hP (r := (.if_icmp .eq 1000, 3, 1429, 0, 0, 0)) rfl ?_
  exact ⟨fun _ => nx w' m' s' hs' hX' hM', fun e => absurd rfl e⟩
set_option maxRecDepth 20000 in
theorem lc_8 {L : Nat} {xs : Nat → Int32} {P : aK} (hP : LW L xs P) (hL : L ≤ 448) {i : Nat} (hi : i + 7 ≤ L) {h : aH} (hh : 310 ≤ h.1) (nx : LwS P h i 1429) : LwS P h i 434 := by
  intro w m s hs hX hM
  obtain ⟨v, s', hs', c1, c2⟩ := b_hours (xs (i + 1)) w m s hs hX hM
  refine lk hP (r := (.aload_n 1, 1, 0, 0, 0, 0)) rfl ?_
  show P 435 (LC i) [.ref 0] (putM (putX h w) 293 m)
  refine lwA hP (k := 1) (by omega) hL rfl rfl rfl rfl rfl ?_
  rw [XM]
  refine kv1 hP rfl (xH0 (by show 293 ≤ h.1; omega)) (by simp) (c1 40 _ _ (by omega) (putM h 293 m) (by show 293 ≤ h.1; omega)) ?_
  rintro _ _ ⟨rfl, w', rfl, hX'⟩
  rw [← XM]
  show P 443 (LC i) [.int v] (putM (putX h w') 293 m)
  refine lk hP (r := (.aload_n 2, 1, 0, 0, 0, 0)) rfl ?_
  show P 444 (LC i) [.ref 293, .int v] (putM (putX h w') 293 m)
  refine lwA hP (k := 1) (by omega) hL rfl rfl rfl rfl rfl ?_
  refine kv1 hP rfl (hOM (by show 310 ≤ h.1; omega)) (by simp) (c2 40 _ _ (by omega) (putX h w') 293 (by show 310 ≤ h.1; omega)) ?_
  rintro _ _ ⟨rfl, m', rfl, hM'⟩
  show P 452 (LC i) [.int v, .int v] (putM (putX h w') 293 m')
  refine lk hP (r := (.if_icmp .eq 977, 3, 1429, 0, 0, 0)) rfl ?_
  exact ⟨fun _ => nx w' m' s' hs' hX' hM', fun e => absurd rfl e⟩
set_option maxRecDepth 20000 in
theorem lc_9 {L : Nat} {xs : Nat → Int32} {P : aK} (hP : LW L xs P) (hL : L ≤ 448) {i : Nat} (hi : i + 7 ≤ L) {h : aH} (hh : 310 ≤ h.1) (nx : LwS P h i 1429) : LwS P h i 457 := by
  intro w m s hs hX hM
  obtain ⟨v, s', hs', c1, c2⟩ := b_fly (xs (i + 1)) w m s hs hX hM
  refine lk hP (r := (.aload_n 1, 1, 0, 0, 0, 0)) rfl ?_
  show P 458 (LC i) [.ref 0] (putM (putX h w) 293 m)
  refine lwA hP (k := 1) (by omega) hL rfl rfl rfl rfl rfl ?_
  rw [XM]
  refine kv1 hP rfl (xH0 (by show 293 ≤ h.1; omega)) (by simp) (c1 40 _ _ (by omega) (putM h 293 m) (by show 293 ≤ h.1; omega)) ?_
  rintro _ _ ⟨rfl, w', rfl, hX'⟩
  rw [← XM]
  show P 466 (LC i) [.int v] (putM (putX h w') 293 m)
  refine lk hP (r := (.aload_n 2, 1, 0, 0, 0, 0)) rfl ?_
  show P 467 (LC i) [.ref 293, .int v] (putM (putX h w') 293 m)
  refine lwA hP (k := 1) (by omega) hL rfl rfl rfl rfl rfl ?_
  refine kv1 hP rfl (hOM (by show 310 ≤ h.1; omega)) (by simp) (c2 40 _ _ (by omega) (putX h w') 293 (by show 310 ≤ h.1; omega)) ?_
  rintro _ _ ⟨rfl, m', rfl, hM'⟩
  show P 475 (LC i) [.int v, .int v] (putM (putX h w') 293 m')
  refine lk hP (r := (.if_icmp .eq 954, 3, 1429, 0, 0, 0)) rfl ?_
  exact ⟨fun _ => nx w' m' s' hs' hX' hM', fun e => absurd rfl e⟩
set_option maxRecDepth 20000 in
theorem lc_10 {L : Nat} {xs : Nat → Int32} {P : aK} (hP : LW L xs P) (hL : L ≤ 448) {i : Nat} (hi : i + 7 ≤ L) {h : aH} (hh : 310 ≤ h.1) (nx : LwS P h i 1429) : LwS P h i 480 := by
  intro w m s hs hX hM
  obtain ⟨v, s', hs', c1, c2⟩ := b_call (xs (i + 1)) w m s hs hX hM
  refine lk hP (r := (.aload_n 1, 1, 0, 0, 0, 0)) rfl ?_
  show P 481 (LC i) [.ref 0] (putM (putX h w) 293 m)
  refine lwA hP (k := 1) (by omega) hL rfl rfl rfl rfl rfl ?_
  rw [XM]
  refine kv1 hP rfl (xH0 (by show 293 ≤ h.1; omega)) (by simp) (c1 40 _ _ (by omega) (putM h 293 m) (by show 293 ≤ h.1; omega)) ?_
  rintro _ _ ⟨rfl, w', rfl, hX'⟩
  rw [← XM]
  show P 489 (LC i) [.int v] (putM (putX h w') 293 m)
  refine lk hP (r := (.aload_n 2, 1, 0, 0, 0, 0)) rfl ?_
  show P 490 (LC i) [.ref 293, .int v] (putM (putX h w') 293 m)
  refine lwA hP (k := 1) (by omega) hL rfl rfl rfl rfl rfl ?_
  refine kv1 hP rfl (hOM (by show 310 ≤ h.1; omega)) (by simp) (c2 40 _ _ (by omega) (putX h w') 293 (by show 310 ≤ h.1; omega)) ?_
  rintro _ _ ⟨rfl, m', rfl, hM'⟩
  show P 498 (LC i) [.int v, .int v] (putM (putX h w') 293 m')
  refine lk hP (r := (.if_icmp .eq 931, 3, 1429, 0, 0, 0)) rfl ?_
  exact ⟨fun _ => nx w' m' s' hs' hX' hM', fun e => absurd rfl e⟩
set_option maxRecDepth 20000 in
theorem lc_11 {L : Nat} {xs : Nat → Int32} {P : aK} (hP : LW L xs P) (hL : L ≤ 448) {i : Nat} (hi : i + 7 ≤ L) {h : aH} (hh : 310 ≤ h.1) (nx : LwS P h i 1429) : LwS P h i 503 := by
  intro w m s hs hX hM
  obtain ⟨v, s', hs', c1, c2⟩ := b_starve (xs (i + 1)) (xs (i + 2)) w m s hs hX hM
  refine lk hP (r := (.aload_n 1, 1, 0, 0, 0, 0)) rfl ?_
  show P 504 (LC i) [.ref 0] (putM (putX h w) 293 m)
  refine lwA hP (k := 1) (by omega) hL rfl rfl rfl rfl rfl ?_
  refine lwA hP (k := 2) (by omega) hL rfl rfl rfl rfl rfl ?_
  rw [XM]
  refine kv2 hP rfl (xH0 (by show 293 ≤ h.1; omega)) (by simp) (c1 40 _ _ (by omega) (putM h 293 m) (by show 293 ≤ h.1; omega)) ?_
  rintro _ _ ⟨rfl, w', rfl, hX'⟩
  rw [← XM]
  show P 517 (LC i) [.int v] (putM (putX h w') 293 m)
  refine lk hP (r := (.aload_n 2, 1, 0, 0, 0, 0)) rfl ?_
  show P 518 (LC i) [.ref 293, .int v] (putM (putX h w') 293 m)
  refine lwA hP (k := 1) (by omega) hL rfl rfl rfl rfl rfl ?_
  refine lwA hP (k := 2) (by omega) hL rfl rfl rfl rfl rfl ?_
  refine kv2 hP rfl (hOM (by show 310 ≤ h.1; omega)) (by simp) (c2 40 _ _ (by omega) (putX h w') 293 (by show 310 ≤ h.1; omega)) ?_
  rintro _ _ ⟨rfl, m', rfl, hM'⟩
  show P 531 (LC i) [.int v, .int v] (putM (putX h w') 293 m')
  refine lk hP (r := (.if_icmp .eq 898, 3, 1429, 0, 0, 0)) rfl ?_
  exact ⟨fun _ => nx w' m' s' hs' hX' hM', fun e => absurd rfl e⟩
set_option maxRecDepth 20000 in
theorem lc_12 {L : Nat} {xs : Nat → Int32} {P : aK} (hP : LW L xs P) (hL : L ≤ 448) {i : Nat} (hi : i + 7 ≤ L) {h : aH} (hh : 310 ≤ h.1) (nx : LwS P h i 1429) : LwS P h i 536 := by
  intro w m s hs hX hM
  obtain ⟨v, s', hs', c1, c2⟩ := b_lay (xs (i + 1)) (xs (i + 2)) w m s hs hX hM
  refine lk hP (r := (.aload_n 1, 1, 0, 0, 0, 0)) rfl ?_
  show P 537 (LC i) [.ref 0] (putM (putX h w) 293 m)
  refine lwA hP (k := 1) (by omega) hL rfl rfl rfl rfl rfl ?_
  refine lwA hP (k := 2) (by omega) hL rfl rfl rfl rfl rfl ?_
  rw [XM]
  refine kv2 hP rfl (xH0 (by show 293 ≤ h.1; omega)) (by simp) (c1 40 _ _ (by omega) (putM h 293 m) (by show 293 ≤ h.1; omega)) ?_
  rintro _ _ ⟨rfl, w', rfl, hX'⟩
  rw [← XM]
  show P 550 (LC i) [.int v] (putM (putX h w') 293 m)
  refine lk hP (r := (.aload_n 2, 1, 0, 0, 0, 0)) rfl ?_
  show P 551 (LC i) [.ref 293, .int v] (putM (putX h w') 293 m)
  refine lwA hP (k := 1) (by omega) hL rfl rfl rfl rfl rfl ?_
  refine lwA hP (k := 2) (by omega) hL rfl rfl rfl rfl rfl ?_
  refine kv2 hP rfl (hOM (by show 310 ≤ h.1; omega)) (by simp) (c2 40 _ _ (by omega) (putX h w') 293 (by show 310 ≤ h.1; omega)) ?_
  rintro _ _ ⟨rfl, m', rfl, hM'⟩
  show P 564 (LC i) [.int v, .int v] (putM (putX h w') 293 m')
  refine lk hP (r := (.if_icmp .eq 865, 3, 1429, 0, 0, 0)) rfl ?_
  exact ⟨fun _ => nx w' m' s' hs' hX' hM', fun e => absurd rfl e⟩
set_option maxRecDepth 20000 in
theorem lc_13 {L : Nat} {xs : Nat → Int32} {P : aK} (hP : LW L xs P) (hL : L ≤ 448) {i : Nat} (hi : i + 7 ≤ L) {h : aH} (hh : 310 ≤ h.1) (nx : LwS P h i 1429) : LwS P h i 569 := by
  intro w m s hs hX hM
  obtain ⟨v, s', hs', c1, c2⟩ := b_hawk (xs (i + 1)) (xs (i + 2)) w m s hs hX hM
  refine lk hP (r := (.aload_n 1, 1, 0, 0, 0, 0)) rfl ?_
  show P 570 (LC i) [.ref 0] (putM (putX h w) 293 m)
  refine lwA hP (k := 1) (by omega) hL rfl rfl rfl rfl rfl ?_
  refine lwA hP (k := 2) (by omega) hL rfl rfl rfl rfl rfl ?_
  rw [XM]
  refine kv2 hP rfl (xH0 (by show 293 ≤ h.1; omega)) (by simp) (c1 40 _ _ (by omega) (putM h 293 m) (by show 293 ≤ h.1; omega)) ?_
  rintro _ _ ⟨rfl, w', rfl, hX'⟩
  rw [← XM]
  show P 583 (LC i) [.int v] (putM (putX h w') 293 m)
  refine lk hP (r := (.aload_n 2, 1, 0, 0, 0, 0)) rfl ?_
  show P 584 (LC i) [.ref 293, .int v] (putM (putX h w') 293 m)
  refine lwA hP (k := 1) (by omega) hL rfl rfl rfl rfl rfl ?_
  refine lwA hP (k := 2) (by omega) hL rfl rfl rfl rfl rfl ?_
  refine kv2 hP rfl (hOM (by show 310 ≤ h.1; omega)) (by simp) (c2 40 _ _ (by omega) (putX h w') 293 (by show 310 ≤ h.1; omega)) ?_
  rintro _ _ ⟨rfl, m', rfl, hM'⟩
  show P 597 (LC i) [.int v, .int v] (putM (putX h w') 293 m')
  refine lk hP (r := (.if_icmp .eq 832, 3, 1429, 0, 0, 0)) rfl ?_
  exact ⟨fun _ => nx w' m' s' hs' hX' hM', fun e => absurd rfl e⟩
set_option maxRecDepth 20000 in
theorem lc_14 {L : Nat} {xs : Nat → Int32} {P : aK} (hP : LW L xs P) (hL : L ≤ 448) {i : Nat} (hi : i + 7 ≤ L) {h : aH} (hh : 310 ≤ h.1) (nx : LwS P h i 1429) : LwS P h i 602 := by
  intro w m s hs hX hM
  obtain ⟨v, s', hs', c1, c2⟩ := b_answer (xs (i + 1)) (xs (i + 2)) w m s hs hX hM
  refine lk hP (r := (.aload_n 1, 1, 0, 0, 0, 0)) rfl ?_
  show P 603 (LC i) [.ref 0] (putM (putX h w) 293 m)
  refine lwA hP (k := 1) (by omega) hL rfl rfl rfl rfl rfl ?_
  refine lwA hP (k := 2) (by omega) hL rfl rfl rfl rfl rfl ?_
  rw [XM]
  refine kv2 hP rfl (xH0 (by show 293 ≤ h.1; omega)) (by simp) (c1 40 _ _ (by omega) (putM h 293 m) (by show 293 ≤ h.1; omega)) ?_
  rintro _ _ ⟨rfl, w', rfl, hX'⟩
  rw [← XM]
  show P 616 (LC i) [.int v] (putM (putX h w') 293 m)
  refine lk hP (r := (.aload_n 2, 1, 0, 0, 0, 0)) rfl ?_
  show P 617 (LC i) [.ref 293, .int v] (putM (putX h w') 293 m)
  refine lwA hP (k := 1) (by omega) hL rfl rfl rfl rfl rfl ?_
  refine lwA hP (k := 2) (by omega) hL rfl rfl rfl rfl rfl ?_
  refine kv2 hP rfl (hOM (by show 310 ≤ h.1; omega)) (by simp) (c2 40 _ _ (by omega) (putX h w') 293 (by show 310 ≤ h.1; omega)) ?_
  rintro _ _ ⟨rfl, m', rfl, hM'⟩
  show P 630 (LC i) [.int v, .int v] (putM (putX h w') 293 m')
  refine lk hP (r := (.if_icmp .eq 799, 3, 1429, 0, 0, 0)) rfl ?_
  exact ⟨fun _ => nx w' m' s' hs' hX' hM', fun e => absurd rfl e⟩
set_option maxRecDepth 20000 in
theorem lc_15 {L : Nat} {xs : Nat → Int32} {P : aK} (hP : LW L xs P) (hL : L ≤ 448) {i : Nat} (hi : i + 7 ≤ L) {h : aH} (hh : 310 ≤ h.1) (nx : LwS P h i 1429) : LwS P h i 635 := by
  intro w m s hs hX hM
  obtain ⟨v, s', hs', c1, c2⟩ := b_stand (xs (i + 1)) w m s hs hX hM
  refine lk hP (r := (.aload_n 1, 1, 0, 0, 0, 0)) rfl ?_
  show P 636 (LC i) [.ref 0] (putM (putX h w) 293 m)
  refine lwA hP (k := 1) (by omega) hL rfl rfl rfl rfl rfl ?_
  rw [XM]
  refine kv1 hP rfl (xH0 (by show 293 ≤ h.1; omega)) (by simp) (c1 40 _ _ (by omega) (putM h 293 m) (by show 293 ≤ h.1; omega)) ?_
  rintro _ _ ⟨rfl, w', rfl, hX'⟩
  rw [← XM]
  show P 644 (LC i) [.int v] (putM (putX h w') 293 m)
  refine lk hP (r := (.aload_n 2, 1, 0, 0, 0, 0)) rfl ?_
  show P 645 (LC i) [.ref 293, .int v] (putM (putX h w') 293 m)
  refine lwA hP (k := 1) (by omega) hL rfl rfl rfl rfl rfl ?_
  refine kv1 hP rfl (hOM (by show 310 ≤ h.1; omega)) (by simp) (c2 40 _ _ (by omega) (putX h w') 293 (by show 310 ≤ h.1; omega)) ?_
  rintro _ _ ⟨rfl, m', rfl, hM'⟩
  show P 653 (LC i) [.int v, .int v] (putM (putX h w') 293 m')
  refine lk hP (r := (.if_icmp .eq 776, 3, 1429, 0, 0, 0)) rfl ?_
  exact ⟨fun _ => nx w' m' s' hs' hX' hM', fun e => absurd rfl e⟩
set_option maxRecDepth 20000 in
theorem lc_16 {L : Nat} {xs : Nat → Int32} {P : aK} (hP : LW L xs P) (hL : L ≤ 448) {i : Nat} (hi : i + 7 ≤ L) {h : aH} (hh : 310 ≤ h.1) (nx : LwS P h i 1429) : LwS P h i 658 := by
  intro w m s hs hX hM
  obtain ⟨v, s', hs', c1, c2⟩ := b_ahead (xs (i + 1)) (xs (i + 2)) (xs (i + 3)) w m s hs hX hM
  refine lk hP (r := (.aload_n 1, 1, 0, 0, 0, 0)) rfl ?_
  show P 659 (LC i) [.ref 0] (putM (putX h w) 293 m)
  refine lwA hP (k := 1) (by omega) hL rfl rfl rfl rfl rfl ?_
  refine lwA hP (k := 2) (by omega) hL rfl rfl rfl rfl rfl ?_
  refine lwA hP (k := 3) (by omega) hL rfl rfl rfl rfl rfl ?_
  rw [XM]
  refine kv3 hP rfl (xH0 (by show 293 ≤ h.1; omega)) (by simp) (c1 40 _ _ (by omega) (putM h 293 m) (by show 293 ≤ h.1; omega)) ?_
  rintro _ _ ⟨rfl, w', rfl, hX'⟩
  rw [← XM]
  show P 677 (LC i) [.int v] (putM (putX h w') 293 m)
  refine lk hP (r := (.aload_n 2, 1, 0, 0, 0, 0)) rfl ?_
  show P 678 (LC i) [.ref 293, .int v] (putM (putX h w') 293 m)
  refine lwA hP (k := 1) (by omega) hL rfl rfl rfl rfl rfl ?_
  refine lwA hP (k := 2) (by omega) hL rfl rfl rfl rfl rfl ?_
  refine lwA hP (k := 3) (by omega) hL rfl rfl rfl rfl rfl ?_
  refine kv3 hP rfl (hOM (by show 310 ≤ h.1; omega)) (by simp) (c2 40 _ _ (by omega) (putX h w') 293 (by show 310 ≤ h.1; omega)) ?_
  rintro _ _ ⟨rfl, m', rfl, hM'⟩
  show P 696 (LC i) [.int v, .int v] (putM (putX h w') 293 m')
  refine lk hP (r := (.if_icmp .eq 733, 3, 1429, 0, 0, 0)) rfl ?_
  exact ⟨fun _ => nx w' m' s' hs' hX' hM', fun e => absurd rfl e⟩
set_option maxRecDepth 20000 in
theorem lc_17 {L : Nat} {xs : Nat → Int32} {P : aK} (hP : LW L xs P) (hL : L ≤ 448) {i : Nat} (hi : i + 7 ≤ L) {h : aH} (hh : 310 ≤ h.1) (nx : LwS P h i 1429) : LwS P h i 701 := by
  intro w m s hs hX hM
  obtain ⟨v, s', hs', c1, c2⟩ := b_later (xs (i + 1)) (xs (i + 2)) w m s hs hX hM
  refine lk hP (r := (.aload_n 1, 1, 0, 0, 0, 0)) rfl ?_
  show P 702 (LC i) [.ref 0] (putM (putX h w) 293 m)
  refine lwA hP (k := 1) (by omega) hL rfl rfl rfl rfl rfl ?_
  refine lwA hP (k := 2) (by omega) hL rfl rfl rfl rfl rfl ?_
  rw [XM]
  refine kv2 hP rfl (xH0 (by show 293 ≤ h.1; omega)) (by simp) (c1 40 _ _ (by omega) (putM h 293 m) (by show 293 ≤ h.1; omega)) ?_
  rintro _ _ ⟨rfl, w', rfl, hX'⟩
  rw [← XM]
  show P 715 (LC i) [.int v] (putM (putX h w') 293 m)
  refine lk hP (r := (.aload_n 2, 1, 0, 0, 0, 0)) rfl ?_
  show P 716 (LC i) [.ref 293, .int v] (putM (putX h w') 293 m)
  refine lwA hP (k := 1) (by omega) hL rfl rfl rfl rfl rfl ?_
  refine lwA hP (k := 2) (by omega) hL rfl rfl rfl rfl rfl ?_
  refine kv2 hP rfl (hOM (by show 310 ≤ h.1; omega)) (by simp) (c2 40 _ _ (by omega) (putX h w') 293 (by show 310 ≤ h.1; omega)) ?_
  rintro _ _ ⟨rfl, m', rfl, hM'⟩
  show P 729 (LC i) [.int v, .int v] (putM (putX h w') 293 m')
  refine lk hP (r := (.if_icmp .eq 700, 3, 1429, 0, 0, 0)) rfl ?_
  exact ⟨fun _ => nx w' m' s' hs' hX' hM', fun e => absurd rfl e⟩
set_option maxRecDepth 20000 in
theorem lc_18 {L : Nat} {xs : Nat → Int32} {P : aK} (hP : LW L xs P) (hL : L ≤ 448) {i : Nat} (hi : i + 7 ≤ L) {h : aH} (hh : 310 ≤ h.1) (nx : LwS P h i 1429) : LwS P h i 734 := by
  intro w m s hs hX hM
  obtain ⟨v, s', hs', c1, c2⟩ := b_known (xs (i + 1)) w m s hs hX hM
  refine lk hP (r := (.aload_n 1, 1, 0, 0, 0, 0)) rfl ?_
  show P 735 (LC i) [.ref 0] (putM (putX h w) 293 m)
  refine lwA hP (k := 1) (by omega) hL rfl rfl rfl rfl rfl ?_
  rw [XM]
  refine kv1 hP rfl (xH0 (by show 293 ≤ h.1; omega)) (by simp) (c1 40 _ _ (by omega) (putM h 293 m) (by show 293 ≤ h.1; omega)) ?_
  rintro _ _ ⟨rfl, w', rfl, hX'⟩
  rw [← XM]
  show P 743 (LC i) [.int v] (putM (putX h w') 293 m)
  refine lk hP (r := (.aload_n 2, 1, 0, 0, 0, 0)) rfl ?_
  show P 744 (LC i) [.ref 293, .int v] (putM (putX h w') 293 m)
  refine lwA hP (k := 1) (by omega) hL rfl rfl rfl rfl rfl ?_
  refine kv1 hP rfl (hOM (by show 310 ≤ h.1; omega)) (by simp) (c2 40 _ _ (by omega) (putX h w') 293 (by show 310 ≤ h.1; omega)) ?_
  rintro _ _ ⟨rfl, m', rfl, hM'⟩
  show P 752 (LC i) [.int v, .int v] (putM (putX h w') 293 m')
  refine lk hP (r := (.if_icmp .eq 677, 3, 1429, 0, 0, 0)) rfl ?_
  exact ⟨fun _ => nx w' m' s' hs' hX' hM', fun e => absurd rfl e⟩
set_option maxRecDepth 20000 in
theorem lc_19 {L : Nat} {xs : Nat → Int32} {P : aK} (hP : LW L xs P) (hL : L ≤ 448) {i : Nat} (hi : i + 7 ≤ L) {h : aH} (hh : 310 ≤ h.1) (nx : LwS P h i 1429) : LwS P h i 757 := by
  intro w m s hs hX hM
  obtain ⟨v, s', hs', c1, c2⟩ := b_lost (xs (i + 1)) w m s hs hX hM
  refine lk hP (r := (.aload_n 1, 1, 0, 0, 0, 0)) rfl ?_
  show P 758 (LC i) [.ref 0] (putM (putX h w) 293 m)
  refine lwA hP (k := 1) (by omega) hL rfl rfl rfl rfl rfl ?_
  rw [XM]
  refine kv1 hP rfl (xH0 (by show 293 ≤ h.1; omega)) (by simp) (c1 40 _ _ (by omega) (putM h 293 m) (by show 293 ≤ h.1; omega)) ?_
  rintro _ _ ⟨rfl, w', rfl, hX'⟩
  rw [← XM]
  show P 766 (LC i) [.int v] (putM (putX h w') 293 m)
  refine lk hP (r := (.aload_n 2, 1, 0, 0, 0, 0)) rfl ?_
  show P 767 (LC i) [.ref 293, .int v] (putM (putX h w') 293 m)
  refine lwA hP (k := 1) (by omega) hL rfl rfl rfl rfl rfl ?_
  refine kv1 hP rfl (hOM (by show 310 ≤ h.1; omega)) (by simp) (c2 40 _ _ (by omega) (putX h w') 293 (by show 310 ≤ h.1; omega)) ?_
  rintro _ _ ⟨rfl, m', rfl, hM'⟩
  show P 775 (LC i) [.int v, .int v] (putM (putX h w') 293 m')
  refine lk hP (r := (.if_icmp .eq 654, 3, 1429, 0, 0, 0)) rfl ?_
  exact ⟨fun _ => nx w' m' s' hs' hX' hM', fun e => absurd rfl e⟩
set_option maxRecDepth 20000 in
theorem lc_20 {L : Nat} {xs : Nat → Int32} {P : aK} (hP : LW L xs P) (hL : L ≤ 448) {i : Nat} (hi : i + 7 ≤ L) {h : aH} (hh : 310 ≤ h.1) (nx : LwS P h i 1429) : LwS P h i 780 := by
  intro w m s hs hX hM
  obtain ⟨v, s', hs', c1, c2⟩ := b_first (xs (i + 1)) w m s hs hX hM
  refine lk hP (r := (.aload_n 1, 1, 0, 0, 0, 0)) rfl ?_
  show P 781 (LC i) [.ref 0] (putM (putX h w) 293 m)
  refine lwA hP (k := 1) (by omega) hL rfl rfl rfl rfl rfl ?_
  rw [XM]
  refine kv1 hP rfl (xH0 (by show 293 ≤ h.1; omega)) (by simp) (c1 40 _ _ (by omega) (putM h 293 m) (by show 293 ≤ h.1; omega)) ?_
  rintro _ _ ⟨rfl, w', rfl, hX'⟩
  rw [← XM]
  show P 789 (LC i) [.int v] (putM (putX h w') 293 m)
  refine lk hP (r := (.aload_n 2, 1, 0, 0, 0, 0)) rfl ?_
  show P 790 (LC i) [.ref 293, .int v] (putM (putX h w') 293 m)
  refine lwA hP (k := 1) (by omega) hL rfl rfl rfl rfl rfl ?_
  refine kv1 hP rfl (hOM (by show 310 ≤ h.1; omega)) (by simp) (c2 40 _ _ (by omega) (putX h w') 293 (by show 310 ≤ h.1; omega)) ?_
  rintro _ _ ⟨rfl, m', rfl, hM'⟩
  show P 798 (LC i) [.int v, .int v] (putM (putX h w') 293 m')
  refine lk hP (r := (.if_icmp .eq 631, 3, 1429, 0, 0, 0)) rfl ?_
  exact ⟨fun _ => nx w' m' s' hs' hX' hM', fun e => absurd rfl e⟩
set_option maxRecDepth 20000 in
theorem lc_21 {L : Nat} {xs : Nat → Int32} {P : aK} (hP : LW L xs P) (hL : L ≤ 448) {i : Nat} (hi : i + 7 ≤ L) {h : aH} (hh : 310 ≤ h.1) (nx : LwS P h i 1429) : LwS P h i 803 := by
  intro w m s hs hX hM
  obtain ⟨v, s', hs', c1, c2⟩ := b_flies (xs (i + 1)) (xs (i + 2)) w m s hs hX hM
  refine lk hP (r := (.aload_n 1, 1, 0, 0, 0, 0)) rfl ?_
  show P 804 (LC i) [.ref 0] (putM (putX h w) 293 m)
  refine lwA hP (k := 1) (by omega) hL rfl rfl rfl rfl rfl ?_
  refine lwA hP (k := 2) (by omega) hL rfl rfl rfl rfl rfl ?_
  rw [XM]
  refine kv2 hP rfl (xH0 (by show 293 ≤ h.1; omega)) (by simp) (c1 40 _ _ (by omega) (putM h 293 m) (by show 293 ≤ h.1; omega)) ?_
  rintro _ _ ⟨rfl, w', rfl, hX'⟩
  rw [← XM]
  show P 817 (LC i) [.int v] (putM (putX h w') 293 m)
  refine lk hP (r := (.aload_n 2, 1, 0, 0, 0, 0)) rfl ?_
  show P 818 (LC i) [.ref 293, .int v] (putM (putX h w') 293 m)
  refine lwA hP (k := 1) (by omega) hL rfl rfl rfl rfl rfl ?_
  refine lwA hP (k := 2) (by omega) hL rfl rfl rfl rfl rfl ?_
  refine kv2 hP rfl (hOM (by show 310 ≤ h.1; omega)) (by simp) (c2 40 _ _ (by omega) (putX h w') 293 (by show 310 ≤ h.1; omega)) ?_
  rintro _ _ ⟨rfl, m', rfl, hM'⟩
  show P 831 (LC i) [.int v, .int v] (putM (putX h w') 293 m')
  refine lk hP (r := (.if_icmp .eq 598, 3, 1429, 0, 0, 0)) rfl ?_
  exact ⟨fun _ => nx w' m' s' hs' hX' hM', fun e => absurd rfl e⟩
set_option maxRecDepth 20000 in
theorem lc_22 {L : Nat} {xs : Nat → Int32} {P : aK} (hP : LW L xs P) (hL : L ≤ 448) {i : Nat} (hi : i + 7 ≤ L) {h : aH} (hh : 310 ≤ h.1) (nx : LwS P h i 1429) : LwS P h i 836 := by
  intro w m s hs hX hM
  obtain ⟨v, s', hs', c1, c2⟩ := b_waits (xs (i + 1)) (xs (i + 2)) (xs (i + 3)) w m s hs hX hM
  refine lk hP (r := (.aload_n 1, 1, 0, 0, 0, 0)) rfl ?_
  show P 837 (LC i) [.ref 0] (putM (putX h w) 293 m)
  refine lwA hP (k := 1) (by omega) hL rfl rfl rfl rfl rfl ?_
  refine lwA hP (k := 2) (by omega) hL rfl rfl rfl rfl rfl ?_
  refine lwA hP (k := 3) (by omega) hL rfl rfl rfl rfl rfl ?_
  rw [XM]
  refine kv3 hP rfl (xH0 (by show 293 ≤ h.1; omega)) (by simp) (c1 40 _ _ (by omega) (putM h 293 m) (by show 293 ≤ h.1; omega)) ?_
  rintro _ _ ⟨rfl, w', rfl, hX'⟩
  rw [← XM]
  show P 855 (LC i) [.int v] (putM (putX h w') 293 m)
  refine lk hP (r := (.aload_n 2, 1, 0, 0, 0, 0)) rfl ?_
  show P 856 (LC i) [.ref 293, .int v] (putM (putX h w') 293 m)
  refine lwA hP (k := 1) (by omega) hL rfl rfl rfl rfl rfl ?_
  refine lwA hP (k := 2) (by omega) hL rfl rfl rfl rfl rfl ?_
  refine lwA hP (k := 3) (by omega) hL rfl rfl rfl rfl rfl ?_
  refine kv3 hP rfl (hOM (by show 310 ≤ h.1; omega)) (by simp) (c2 40 _ _ (by omega) (putX h w') 293 (by show 310 ≤ h.1; omega)) ?_
  rintro _ _ ⟨rfl, m', rfl, hM'⟩
  show P 874 (LC i) [.int v, .int v] (putM (putX h w') 293 m')
  refine lk hP (r := (.if_icmp .eq 555, 3, 1429, 0, 0, 0)) rfl ?_
  exact ⟨fun _ => nx w' m' s' hs' hX' hM', fun e => absurd rfl e⟩
set_option maxRecDepth 20000 in
theorem lc_23 {L : Nat} {xs : Nat → Int32} {P : aK} (hP : LW L xs P) (hL : L ≤ 448) {i : Nat} (hi : i + 7 ≤ L) {h : aH} (hh : 310 ≤ h.1) (nx : LwS P h i 1429) : LwS P h i 879 := by
  intro w m s hs hX hM
  obtain ⟨v, s', hs', c1, c2⟩ := b_starves (xs (i + 1)) (xs (i + 2)) (xs (i + 3)) w m s hs hX hM
  refine lk hP (r := (.aload_n 1, 1, 0, 0, 0, 0)) rfl ?_
  show P 880 (LC i) [.ref 0] (putM (putX h w) 293 m)
  refine lwA hP (k := 1) (by omega) hL rfl rfl rfl rfl rfl ?_
  refine lwA hP (k := 2) (by omega) hL rfl rfl rfl rfl rfl ?_
  refine lwA hP (k := 3) (by omega) hL rfl rfl rfl rfl rfl ?_
  rw [XM]
  refine kv3 hP rfl (xH0 (by show 293 ≤ h.1; omega)) (by simp) (c1 40 _ _ (by omega) (putM h 293 m) (by show 293 ≤ h.1; omega)) ?_
  rintro _ _ ⟨rfl, w', rfl, hX'⟩
  rw [← XM]
  show P 898 (LC i) [.int v] (putM (putX h w') 293 m)
  refine lk hP (r := (.aload_n 2, 1, 0, 0, 0, 0)) rfl ?_
  show P 899 (LC i) [.ref 293, .int v] (putM (putX h w') 293 m)
  refine lwA hP (k := 1) (by omega) hL rfl rfl rfl rfl rfl ?_
  refine lwA hP (k := 2) (by omega) hL rfl rfl rfl rfl rfl ?_
  refine lwA hP (k := 3) (by omega) hL rfl rfl rfl rfl rfl ?_
  refine kv3 hP rfl (hOM (by show 310 ≤ h.1; omega)) (by simp) (c2 40 _ _ (by omega) (putX h w') 293 (by show 310 ≤ h.1; omega)) ?_
  rintro _ _ ⟨rfl, m', rfl, hM'⟩
  show P 917 (LC i) [.int v, .int v] (putM (putX h w') 293 m')
  refine lk hP (r := (.if_icmp .eq 512, 3, 1429, 0, 0, 0)) rfl ?_
  exact ⟨fun _ => nx w' m' s' hs' hX' hM', fun e => absurd rfl e⟩
set_option maxRecDepth 20000 in
theorem lc_24 {L : Nat} {xs : Nat → Int32} {P : aK} (hP : LW L xs P) (hL : L ≤ 448) {i : Nat} (hi : i + 7 ≤ L) {h : aH} (hh : 310 ≤ h.1) (nx : LwS P h i 1429) : LwS P h i 922 := by
  intro w m s hs hX hM
  obtain ⟨v, s', hs', c1, c2⟩ := b_falconers (xs (i + 1)) (xs (i + 2)) w m s hs hX hM
  refine lk hP (r := (.aload_n 1, 1, 0, 0, 0, 0)) rfl ?_
  show P 923 (LC i) [.ref 0] (putM (putX h w) 293 m)
  refine lwA hP (k := 1) (by omega) hL rfl rfl rfl rfl rfl ?_
  refine lwA hP (k := 2) (by omega) hL rfl rfl rfl rfl rfl ?_
  rw [XM]
  refine kv2 hP rfl (xH0 (by show 293 ≤ h.1; omega)) (by simp) (c1 40 _ _ (by omega) (putM h 293 m) (by show 293 ≤ h.1; omega)) ?_
  rintro _ _ ⟨rfl, w', rfl, hX'⟩
  rw [← XM]
  show P 936 (LC i) [.int v] (putM (putX h w') 293 m)
  refine lk hP (r := (.aload_n 2, 1, 0, 0, 0, 0)) rfl ?_
  show P 937 (LC i) [.ref 293, .int v] (putM (putX h w') 293 m)
  refine lwA hP (k := 1) (by omega) hL rfl rfl rfl rfl rfl ?_
  refine lwA hP (k := 2) (by omega) hL rfl rfl rfl rfl rfl ?_
  refine kv2 hP rfl (hOM (by show 310 ≤ h.1; omega)) (by simp) (c2 40 _ _ (by omega) (putX h w') 293 (by show 310 ≤ h.1; omega)) ?_
  rintro _ _ ⟨rfl, m', rfl, hM'⟩
  show P 950 (LC i) [.int v, .int v] (putM (putX h w') 293 m')
  refine lk hP (r := (.if_icmp .eq 479, 3, 1429, 0, 0, 0)) rfl ?_
  exact ⟨fun _ => nx w' m' s' hs' hX' hM', fun e => absurd rfl e⟩
set_option maxRecDepth 20000 in
theorem lc_25 {L : Nat} {xs : Nat → Int32} {P : aK} (hP : LW L xs P) (hL : L ≤ 448) {i : Nat} (hi : i + 7 ≤ L) {h : aH} (hh : 310 ≤ h.1) (nx : LwS P h i 1429) : LwS P h i 955 := by
  intro w m s hs hX hM
  obtain ⟨v, s', hs', c1, c2⟩ := b_nearest (xs (i + 1)) (xs (i + 2)) w m s hs hX hM
  refine lk hP (r := (.aload_n 1, 1, 0, 0, 0, 0)) rfl ?_
  show P 956 (LC i) [.ref 0] (putM (putX h w) 293 m)
  refine lwA hP (k := 1) (by omega) hL rfl rfl rfl rfl rfl ?_
  refine lwA hP (k := 2) (by omega) hL rfl rfl rfl rfl rfl ?_
  rw [XM]
  refine kv2 hP rfl (xH0 (by show 293 ≤ h.1; omega)) (by simp) (c1 40 _ _ (by omega) (putM h 293 m) (by show 293 ≤ h.1; omega)) ?_
  rintro _ _ ⟨rfl, w', rfl, hX'⟩
  rw [← XM]
  show P 969 (LC i) [.int v] (putM (putX h w') 293 m)
  refine lk hP (r := (.aload_n 2, 1, 0, 0, 0, 0)) rfl ?_
  show P 970 (LC i) [.ref 293, .int v] (putM (putX h w') 293 m)
  refine lwA hP (k := 1) (by omega) hL rfl rfl rfl rfl rfl ?_
  refine lwA hP (k := 2) (by omega) hL rfl rfl rfl rfl rfl ?_
  refine kv2 hP rfl (hOM (by show 310 ≤ h.1; omega)) (by simp) (c2 40 _ _ (by omega) (putX h w') 293 (by show 310 ≤ h.1; omega)) ?_
  rintro _ _ ⟨rfl, m', rfl, hM'⟩
  show P 983 (LC i) [.int v, .int v] (putM (putX h w') 293 m')
  refine lk hP (r := (.if_icmp .eq 446, 3, 1429, 0, 0, 0)) rfl ?_
  exact ⟨fun _ => nx w' m' s' hs' hX' hM', fun e => absurd rfl e⟩
set_option maxRecDepth 20000 in
theorem lc_26 {L : Nat} {xs : Nat → Int32} {P : aK} (hP : LW L xs P) (hL : L ≤ 448) {i : Nat} (hi : i + 7 ≤ L) {h : aH} (hh : 310 ≤ h.1) (nx : LwS P h i 1429) : LwS P h i 988 := by
  intro w m s hs hX hM
  obtain ⟨v, s', hs', c1, c2⟩ := b_who (xs (i + 1)) (xs (i + 2)) (xs (i + 3)) (xs (i + 4)) (xs (i + 5)) (xs (i + 6)) w m s hs hX hM
  refine lk hP (r := (.aload_n 1, 1, 0, 0, 0, 0)) rfl ?_
  show P 989 (LC i) [.ref 0] (putM (putX h w) 293 m)
  refine lwA hP (k := 1) (by omega) hL rfl rfl rfl rfl rfl ?_
  refine lwA hP (k := 2) (by omega) hL rfl rfl rfl rfl rfl ?_
  refine lwA hP (k := 3) (by omega) hL rfl rfl rfl rfl rfl ?_
  refine lwA hP (k := 4) (by omega) hL rfl rfl rfl rfl rfl ?_
  refine lwA hP (k := 5) (by omega) hL rfl rfl rfl rfl rfl ?_
  refine lwB hP (k := 6) (by omega) hL rfl rfl rfl rfl rfl ?_
  rw [XM]
  refine kv6 hP rfl (xH0 (by show 293 ≤ h.1; omega)) (by simp) (c1 40 _ _ (by omega) (putM h 293 m) (by show 293 ≤ h.1; omega)) ?_
  rintro _ _ ⟨rfl, w', rfl, hX'⟩
  rw [← XM]
  show P 1023 (LC i) [.int v] (putM (putX h w') 293 m)
  refine lk hP (r := (.aload_n 2, 1, 0, 0, 0, 0)) rfl ?_
  show P 1024 (LC i) [.ref 293, .int v] (putM (putX h w') 293 m)
  refine lwA hP (k := 1) (by omega) hL rfl rfl rfl rfl rfl ?_
  refine lwA hP (k := 2) (by omega) hL rfl rfl rfl rfl rfl ?_
  refine lwA hP (k := 3) (by omega) hL rfl rfl rfl rfl rfl ?_
  refine lwA hP (k := 4) (by omega) hL rfl rfl rfl rfl rfl ?_
  refine lwA hP (k := 5) (by omega) hL rfl rfl rfl rfl rfl ?_
  refine lwB hP (k := 6) (by omega) hL rfl rfl rfl rfl rfl ?_
  refine kv6 hP rfl (hOM (by show 310 ≤ h.1; omega)) (by simp) (c2 40 _ _ (by omega) (putX h w') 293 (by show 310 ≤ h.1; omega)) ?_
  rintro _ _ ⟨rfl, m', rfl, hM'⟩
  show P 1058 (LC i) [.int v, .int v] (putM (putX h w') 293 m')
  refine lk hP (r := (.if_icmp .eq 371, 3, 1429, 0, 0, 0)) rfl ?_
  exact ⟨fun _ => nx w' m' s' hs' hX' hM', fun e => absurd rfl e⟩
set_option maxRecDepth 20000 in
theorem lc_27 {L : Nat} {xs : Nat → Int32} {P : aK} (hP : LW L xs P) (hL : L ≤ 448) {i : Nat} (hi : i + 7 ≤ L) {h : aH} (hh : 310 ≤ h.1) (nx : LwS P h i 1429) : LwS P h i 1063 := by
  intro w m s hs hX hM
  obtain ⟨v, s', hs', c1, c2⟩ := b_what (xs (i + 1)) (xs (i + 2)) (xs (i + 3)) (xs (i + 4)) (xs (i + 5)) (xs (i + 6)) w m s hs hX hM
  refine lk hP (r := (.aload_n 1, 1, 0, 0, 0, 0)) rfl ?_
  show P 1064 (LC i) [.ref 0] (putM (putX h w) 293 m)
  refine lwA hP (k := 1) (by omega) hL rfl rfl rfl rfl rfl ?_
  refine lwA hP (k := 2) (by omega) hL rfl rfl rfl rfl rfl ?_
  refine lwA hP (k := 3) (by omega) hL rfl rfl rfl rfl rfl ?_
  refine lwA hP (k := 4) (by omega) hL rfl rfl rfl rfl rfl ?_
  refine lwA hP (k := 5) (by omega) hL rfl rfl rfl rfl rfl ?_
  refine lwB hP (k := 6) (by omega) hL rfl rfl rfl rfl rfl ?_
  rw [XM]
  refine kv6 hP rfl (xH0 (by show 293 ≤ h.1; omega)) (by simp) (c1 40 _ _ (by omega) (putM h 293 m) (by show 293 ≤ h.1; omega)) ?_
  rintro _ _ ⟨rfl, w', rfl, hX'⟩
  rw [← XM]
  show P 1098 (LC i) [.int v] (putM (putX h w') 293 m)
  refine lk hP (r := (.aload_n 2, 1, 0, 0, 0, 0)) rfl ?_
  show P 1099 (LC i) [.ref 293, .int v] (putM (putX h w') 293 m)
  refine lwA hP (k := 1) (by omega) hL rfl rfl rfl rfl rfl ?_
  refine lwA hP (k := 2) (by omega) hL rfl rfl rfl rfl rfl ?_
  refine lwA hP (k := 3) (by omega) hL rfl rfl rfl rfl rfl ?_
  refine lwA hP (k := 4) (by omega) hL rfl rfl rfl rfl rfl ?_
  refine lwA hP (k := 5) (by omega) hL rfl rfl rfl rfl rfl ?_
  refine lwB hP (k := 6) (by omega) hL rfl rfl rfl rfl rfl ?_
  refine kv6 hP rfl (hOM (by show 310 ≤ h.1; omega)) (by simp) (c2 40 _ _ (by omega) (putX h w') 293 (by show 310 ≤ h.1; omega)) ?_
  rintro _ _ ⟨rfl, m', rfl, hM'⟩
  show P 1133 (LC i) [.int v, .int v] (putM (putX h w') 293 m')
  refine lk hP (r := (.if_icmp .eq 296, 3, 1429, 0, 0, 0)) rfl ?_
  exact ⟨fun _ => nx w' m' s' hs' hX' hM', fun e => absurd rfl e⟩
set_option maxRecDepth 20000 in
theorem lc_28 {L : Nat} {xs : Nat → Int32} {P : aK} (hP : LW L xs P) (hL : L ≤ 448) {i : Nat} (hi : i + 7 ≤ L) {h : aH} (hh : 310 ≤ h.1) (nx : LwS P h i 1429) : LwS P h i 1138 := by
  intro w m s hs hX hM
  obtain ⟨v, s', hs', c1, c2⟩ := b_moult (xs (i + 1)) (xs (i + 2)) (xs (i + 3)) (xs (i + 4)) w m s hs hX hM
  refine lk hP (r := (.aload_n 1, 1, 0, 0, 0, 0)) rfl ?_
  show P 1139 (LC i) [.ref 0] (putM (putX h w) 293 m)
  refine lwA hP (k := 1) (by omega) hL rfl rfl rfl rfl rfl ?_
  refine lwA hP (k := 2) (by omega) hL rfl rfl rfl rfl rfl ?_
  refine lwA hP (k := 3) (by omega) hL rfl rfl rfl rfl rfl ?_
  refine lwA hP (k := 4) (by omega) hL rfl rfl rfl rfl rfl ?_
  rw [XM]
  refine kv4 hP rfl (xH0 (by show 293 ≤ h.1; omega)) (by simp) (c1 40 _ _ (by omega) (putM h 293 m) (by show 293 ≤ h.1; omega)) ?_
  rintro _ _ ⟨rfl, w', rfl, hX'⟩
  rw [← XM]
  show P 1162 (LC i) [.long v] (putM (putX h w') 293 m)
  refine lk hP (r := (.aload_n 2, 1, 0, 0, 0, 0)) rfl ?_
  show P 1163 (LC i) [.ref 293, .long v] (putM (putX h w') 293 m)
  refine lwA hP (k := 1) (by omega) hL rfl rfl rfl rfl rfl ?_
  refine lwA hP (k := 2) (by omega) hL rfl rfl rfl rfl rfl ?_
  refine lwA hP (k := 3) (by omega) hL rfl rfl rfl rfl rfl ?_
  refine lwA hP (k := 4) (by omega) hL rfl rfl rfl rfl rfl ?_
  refine kv4 hP rfl (hOM (by show 310 ≤ h.1; omega)) (by simp) (c2 40 _ _ (by omega) (putX h w') 293 (by show 310 ≤ h.1; omega)) ?_
  rintro _ _ ⟨rfl, m', rfl, hM'⟩
  show P 1186 (LC i) [.long v, .long v] (putM (putX h w') 293 m')
  refine lk hP (r := (.lcmp, 1, 0, 0, 0, 0)) rfl ?_
  show P 1187 (LC i) [.int (lg_cmp v v)] (putM (putX h w') 293 m')
  rw [lcmp0]
  refine lk hP (r := (.ifCond .eq 242, 3, 1429, 0, 0, 0)) rfl ?_
  exact ⟨fun _ => nx w' m' s' hs' hX' hM', fun e => absurd rfl e⟩
set_option maxRecDepth 20000 in
theorem lc_29 {L : Nat} {xs : Nat → Int32} {P : aK} (hP : LW L xs P) (hL : L ≤ 448) {i : Nat} (hi : i + 7 ≤ L) {h : aH} (hh : 310 ≤ h.1) (nx : LwS P h i 1429) : LwS P h i 1192 := by
  intro w m s hs hX hM
  obtain ⟨v, s', hs', c1, c2⟩ := b_drawn (xs (i + 1)) (xs (i + 2)) (xs (i + 3)) w m s hs hX hM
  refine lk hP (r := (.aload_n 1, 1, 0, 0, 0, 0)) rfl ?_
  show P 1193 (LC i) [.ref 0] (putM (putX h w) 293 m)
  refine lwA hP (k := 1) (by omega) hL rfl rfl rfl rfl rfl ?_
  refine lwA hP (k := 2) (by omega) hL rfl rfl rfl rfl rfl ?_
  refine lwA hP (k := 3) (by omega) hL rfl rfl rfl rfl rfl ?_
  rw [XM]
  refine kv3 hP rfl (xH0 (by show 293 ≤ h.1; omega)) (by simp) (c1 40 _ _ (by omega) (putM h 293 m) (by show 293 ≤ h.1; omega)) ?_
  rintro _ _ ⟨rfl, w', rfl, hX'⟩
  rw [← XM]
  show P 1211 (LC i) [.int v] (putM (putX h w') 293 m)
  refine lk hP (r := (.aload_n 2, 1, 0, 0, 0, 0)) rfl ?_
  show P 1212 (LC i) [.ref 293, .int v] (putM (putX h w') 293 m)
  refine lwA hP (k := 1) (by omega) hL rfl rfl rfl rfl rfl ?_
  refine lwA hP (k := 2) (by omega) hL rfl rfl rfl rfl rfl ?_
  refine lwA hP (k := 3) (by omega) hL rfl rfl rfl rfl rfl ?_
  refine kv3 hP rfl (hOM (by show 310 ≤ h.1; omega)) (by simp) (c2 40 _ _ (by omega) (putX h w') 293 (by show 310 ≤ h.1; omega)) ?_
  rintro _ _ ⟨rfl, m', rfl, hM'⟩
  show P 1230 (LC i) [.int v, .int v] (putM (putX h w') 293 m')
  refine lk hP (r := (.if_icmp .eq 199, 3, 1429, 0, 0, 0)) rfl ?_
  exact ⟨fun _ => nx w' m' s' hs' hX' hM', fun e => absurd rfl e⟩
set_option maxRecDepth 20000 in
theorem lc_30 {L : Nat} {xs : Nat → Int32} {P : aK} (hP : LW L xs P) (hL : L ≤ 448) {i : Nat} (hi : i + 7 ≤ L) {h : aH} (hh : 310 ≤ h.1) (nx : LwS P h i 1429) : LwS P h i 1235 := by
  intro w m s hs hX hM
  obtain ⟨v, s', hs', c1, c2⟩ := b_image (xs (i + 1)) w m s hs hX hM
  refine lk hP (r := (.aload_n 1, 1, 0, 0, 0, 0)) rfl ?_
  show P 1236 (LC i) [.ref 0] (putM (putX h w) 293 m)
  refine lwA hP (k := 1) (by omega) hL rfl rfl rfl rfl rfl ?_
  rw [XM]
  refine kv1 hP rfl (xH0 (by show 293 ≤ h.1; omega)) (by simp) (c1 40 _ _ (by omega) (putM h 293 m) (by show 293 ≤ h.1; omega)) ?_
  rintro _ _ ⟨rfl, w', rfl, hX'⟩
  rw [← XM]
  show P 1244 (LC i) [.int v] (putM (putX h w') 293 m)
  refine lk hP (r := (.aload_n 2, 1, 0, 0, 0, 0)) rfl ?_
  show P 1245 (LC i) [.ref 293, .int v] (putM (putX h w') 293 m)
  refine lwA hP (k := 1) (by omega) hL rfl rfl rfl rfl rfl ?_
  refine kv1 hP rfl (hOM (by show 310 ≤ h.1; omega)) (by simp) (c2 40 _ _ (by omega) (putX h w') 293 (by show 310 ≤ h.1; omega)) ?_
  rintro _ _ ⟨rfl, m', rfl, hM'⟩
  show P 1253 (LC i) [.int v, .int v] (putM (putX h w') 293 m')
  refine lk hP (r := (.if_icmp .eq 176, 3, 1429, 0, 0, 0)) rfl ?_
  exact ⟨fun _ => nx w' m' s' hs' hX' hM', fun e => absurd rfl e⟩
set_option maxRecDepth 20000 in
theorem lc_31 {L : Nat} {xs : Nat → Int32} {P : aK} (hP : LW L xs P) (hL : L ≤ 448) {i : Nat} (hi : i + 7 ≤ L) {h : aH} (hh : 310 ≤ h.1) (nx : LwS P h i 1429) : LwS P h i 1258 := by
  intro w m s hs hX hM
  obtain ⟨v, s', hs', c1, c2⟩ := b_restore (xs (i + 1)) w m s hs hX hM
  refine lk hP (r := (.aload_n 1, 1, 0, 0, 0, 0)) rfl ?_
  show P 1259 (LC i) [.ref 0] (putM (putX h w) 293 m)
  refine lwA hP (k := 1) (by omega) hL rfl rfl rfl rfl rfl ?_
  rw [XM]
  refine kv1 hP rfl (xH0 (by show 293 ≤ h.1; omega)) (by simp) (c1 40 _ _ (by omega) (putM h 293 m) (by show 293 ≤ h.1; omega)) ?_
  rintro _ _ ⟨rfl, w', rfl, hX'⟩
  rw [← XM]
  show P 1267 (LC i) [.int v] (putM (putX h w') 293 m)
  refine lk hP (r := (.aload_n 2, 1, 0, 0, 0, 0)) rfl ?_
  show P 1268 (LC i) [.ref 293, .int v] (putM (putX h w') 293 m)
  refine lwA hP (k := 1) (by omega) hL rfl rfl rfl rfl rfl ?_
  refine kv1 hP rfl (hOM (by show 310 ≤ h.1; omega)) (by simp) (c2 40 _ _ (by omega) (putX h w') 293 (by show 310 ≤ h.1; omega)) ?_
  rintro _ _ ⟨rfl, m', rfl, hM'⟩
  show P 1276 (LC i) [.int v, .int v] (putM (putX h w') 293 m')
  refine lk hP (r := (.if_icmp .eq 153, 3, 1429, 0, 0, 0)) rfl ?_
  exact ⟨fun _ => nx w' m' s' hs' hX' hM', fun e => absurd rfl e⟩
set_option maxRecDepth 20000 in
theorem lc_32 {L : Nat} {xs : Nat → Int32} {P : aK} (hP : LW L xs P) (hL : L ≤ 448) {i : Nat} (hi : i + 7 ≤ L) {h : aH} (hh : 310 ≤ h.1) (nx : LwS P h i 1429) : LwS P h i 1281 := by
  intro w m s hs hX hM
  obtain ⟨v, s', hs', c1, c2⟩ := b_kind (xs (i + 1)) w m s hs hX hM
  refine lk hP (r := (.aload_n 1, 1, 0, 0, 0, 0)) rfl ?_
  show P 1282 (LC i) [.ref 0] (putM (putX h w) 293 m)
  refine lwA hP (k := 1) (by omega) hL rfl rfl rfl rfl rfl ?_
  rw [XM]
  refine kv1 hP rfl (xH0 (by show 293 ≤ h.1; omega)) (by simp) (c1 40 _ _ (by omega) (putM h 293 m) (by show 293 ≤ h.1; omega)) ?_
  rintro _ _ ⟨rfl, w', rfl, hX'⟩
  rw [← XM]
  show P 1290 (LC i) [.int v] (putM (putX h w') 293 m)
  refine lk hP (r := (.aload_n 2, 1, 0, 0, 0, 0)) rfl ?_
  show P 1291 (LC i) [.ref 293, .int v] (putM (putX h w') 293 m)
  refine lwA hP (k := 1) (by omega) hL rfl rfl rfl rfl rfl ?_
  refine kv1 hP rfl (hOM (by show 310 ≤ h.1; omega)) (by simp) (c2 40 _ _ (by omega) (putX h w') 293 (by show 310 ≤ h.1; omega)) ?_
  rintro _ _ ⟨rfl, m', rfl, hM'⟩
  show P 1299 (LC i) [.int v, .int v] (putM (putX h w') 293 m')
  refine lk hP (r := (.if_icmp .eq 130, 3, 1429, 0, 0, 0)) rfl ?_
  exact ⟨fun _ => nx w' m' s' hs' hX' hM', fun e => absurd rfl e⟩
set_option maxRecDepth 20000 in
theorem lc_33 {L : Nat} {xs : Nat → Int32} {P : aK} (hP : LW L xs P) (hL : L ≤ 448) {i : Nat} (hi : i + 7 ≤ L) {h : aH} (hh : 310 ≤ h.1) (nx : LwS P h i 1429) : LwS P h i 1304 := by
  intro w m s hs hX hM
  obtain ⟨v, s', hs', c1, c2⟩ := b_as (xs (i + 1)) (xs (i + 2)) w m s hs hX hM
  refine lk hP (r := (.aload_n 1, 1, 0, 0, 0, 0)) rfl ?_
  show P 1305 (LC i) [.ref 0] (putM (putX h w) 293 m)
  refine lwA hP (k := 1) (by omega) hL rfl rfl rfl rfl rfl ?_
  refine lwA hP (k := 2) (by omega) hL rfl rfl rfl rfl rfl ?_
  rw [XM]
  refine kv2 hP rfl (xH0 (by show 293 ≤ h.1; omega)) (by simp) (c1 40 _ _ (by omega) (putM h 293 m) (by show 293 ≤ h.1; omega)) ?_
  rintro _ _ ⟨rfl, w', rfl, hX'⟩
  rw [← XM]
  show P 1318 (LC i) [.int v] (putM (putX h w') 293 m)
  refine lk hP (r := (.aload_n 2, 1, 0, 0, 0, 0)) rfl ?_
  show P 1319 (LC i) [.ref 293, .int v] (putM (putX h w') 293 m)
  refine lwA hP (k := 1) (by omega) hL rfl rfl rfl rfl rfl ?_
  refine lwA hP (k := 2) (by omega) hL rfl rfl rfl rfl rfl ?_
  refine kv2 hP rfl (hOM (by show 310 ≤ h.1; omega)) (by simp) (c2 40 _ _ (by omega) (putX h w') 293 (by show 310 ≤ h.1; omega)) ?_
  rintro _ _ ⟨rfl, m', rfl, hM'⟩
  show P 1332 (LC i) [.int v, .int v] (putM (putX h w') 293 m')
  refine lk hP (r := (.if_icmp .eq 97, 3, 1429, 0, 0, 0)) rfl ?_
  exact ⟨fun _ => nx w' m' s' hs' hX' hM', fun e => absurd rfl e⟩
set_option maxRecDepth 20000 in
theorem lc_34 {L : Nat} {xs : Nat → Int32} {P : aK} (hP : LW L xs P) (hL : L ≤ 448) {i : Nat} (hi : i + 7 ≤ L) {h : aH} (hh : 310 ≤ h.1) (nx : LwS P h i 1429) : LwS P h i 1337 := by
  intro w m s hs hX hM
  obtain ⟨v, s', hs', c1, c2⟩ := b_ask (xs (i + 1)) (xs (i + 2)) w m s hs hX hM
  refine lk hP (r := (.aload_n 1, 1, 0, 0, 0, 0)) rfl ?_
  show P 1338 (LC i) [.ref 0] (putM (putX h w) 293 m)
  refine lwA hP (k := 1) (by omega) hL rfl rfl rfl rfl rfl ?_
  refine lwA hP (k := 2) (by omega) hL rfl rfl rfl rfl rfl ?_
  rw [XM]
  refine kv2 hP rfl (xH0 (by show 293 ≤ h.1; omega)) (by simp) (c1 40 _ _ (by omega) (putM h 293 m) (by show 293 ≤ h.1; omega)) ?_
  rintro _ _ ⟨rfl, w', rfl, hX'⟩
  rw [← XM]
  show P 1351 (LC i) [.int v] (putM (putX h w') 293 m)
  refine lk hP (r := (.aload_n 2, 1, 0, 0, 0, 0)) rfl ?_
  show P 1352 (LC i) [.ref 293, .int v] (putM (putX h w') 293 m)
  refine lwA hP (k := 1) (by omega) hL rfl rfl rfl rfl rfl ?_
  refine lwA hP (k := 2) (by omega) hL rfl rfl rfl rfl rfl ?_
  refine kv2 hP rfl (hOM (by show 310 ≤ h.1; omega)) (by simp) (c2 40 _ _ (by omega) (putX h w') 293 (by show 310 ≤ h.1; omega)) ?_
  rintro _ _ ⟨rfl, m', rfl, hM'⟩
  show P 1365 (LC i) [.int v, .int v] (putM (putX h w') 293 m')
  refine lk hP (r := (.if_icmp .eq 64, 3, 1429, 0, 0, 0)) rfl ?_
  exact ⟨fun _ => nx w' m' s' hs' hX' hM', fun e => absurd rfl e⟩
set_option maxRecDepth 20000 in
theorem lc_35 {L : Nat} {xs : Nat → Int32} {P : aK} (hP : LW L xs P) (hL : L ≤ 448) {i : Nat} (hi : i + 7 ≤ L) {h : aH} (hh : 310 ≤ h.1) (nx : LwS P h i 1429) : LwS P h i 1370 := by
  intro w m s hs hX hM
  obtain ⟨v, s', hs', c1, c2⟩ := b_trace (xs (i + 1)) w m s hs hX hM
  refine lk hP (r := (.aload_n 1, 1, 0, 0, 0, 0)) rfl ?_
  show P 1371 (LC i) [.ref 0] (putM (putX h w) 293 m)
  refine lwA hP (k := 1) (by omega) hL rfl rfl rfl rfl rfl ?_
  rw [XM]
  refine kv1 hP rfl (xH0 (by show 293 ≤ h.1; omega)) (by simp) (c1 40 _ _ (by omega) (putM h 293 m) (by show 293 ≤ h.1; omega)) ?_
  rintro _ _ ⟨rfl, w', rfl, hX'⟩
  rw [← XM]
  show P 1379 (LC i) [.int v] (putM (putX h w') 293 m)
  refine lk hP (r := (.aload_n 2, 1, 0, 0, 0, 0)) rfl ?_
  show P 1380 (LC i) [.ref 293, .int v] (putM (putX h w') 293 m)
  refine lwA hP (k := 1) (by omega) hL rfl rfl rfl rfl rfl ?_
  refine kv1 hP rfl (hOM (by show 310 ≤ h.1; omega)) (by simp) (c2 40 _ _ (by omega) (putX h w') 293 (by show 310 ≤ h.1; omega)) ?_
  rintro _ _ ⟨rfl, m', rfl, hM'⟩
  show P 1388 (LC i) [.int v, .int v] (putM (putX h w') 293 m')
  refine lk hP (r := (.if_icmp .eq 41, 3, 1429, 0, 0, 0)) rfl ?_
  exact ⟨fun _ => nx w' m' s' hs' hX' hM', fun e => absurd rfl e⟩
set_option maxRecDepth 20000 in
theorem lc_36 {L : Nat} {xs : Nat → Int32} {P : aK} (hP : LW L xs P) (hL : L ≤ 448) {i : Nat} (hi : i + 7 ≤ L) {h : aH} (hh : 310 ≤ h.1) (nx : LwS P h i 1429) : LwS P h i 1393 := by
  intro w m s hs hX hM
  obtain ⟨v, s', hs', c1, c2⟩ := b_count (xs (i + 1)) w m s hs hX hM
  refine lk hP (r := (.aload_n 1, 1, 0, 0, 0, 0)) rfl ?_
  show P 1394 (LC i) [.ref 0] (putM (putX h w) 293 m)
  refine lwA hP (k := 1) (by omega) hL rfl rfl rfl rfl rfl ?_
  rw [XM]
  refine kv1 hP rfl (xH0 (by show 293 ≤ h.1; omega)) (by simp) (c1 40 _ _ (by omega) (putM h 293 m) (by show 293 ≤ h.1; omega)) ?_
  rintro _ _ ⟨rfl, w', rfl, hX'⟩
  rw [← XM]
  show P 1402 (LC i) [.int v] (putM (putX h w') 293 m)
  refine lk hP (r := (.aload_n 2, 1, 0, 0, 0, 0)) rfl ?_
  show P 1403 (LC i) [.ref 293, .int v] (putM (putX h w') 293 m)
  refine lwA hP (k := 1) (by omega) hL rfl rfl rfl rfl rfl ?_
  refine kv1 hP rfl (hOM (by show 310 ≤ h.1; omega)) (by simp) (c2 40 _ _ (by omega) (putX h w') 293 (by show 310 ≤ h.1; omega)) ?_
  rintro _ _ ⟨rfl, m', rfl, hM'⟩
  show P 1411 (LC i) [.int v, .int v] (putM (putX h w') 293 m')
  refine lk hP (r := (.if_icmp .eq 18, 3, 1429, 0, 0, 0)) rfl ?_
  exact ⟨fun _ => nx w' m' s' hs' hX' hM', fun e => absurd rfl e⟩
set_option maxRecDepth 20000 in
theorem lc_37 {L : Nat} {xs : Nat → Int32} {P : aK} (hP : LW L xs P) (hL : L ≤ 448) {i : Nat} (hi : i + 7 ≤ L) {h : aH} (hh : 310 ≤ h.1) (nx : LwS P h i 1429) : LwS P h i 1416 := by
  intro w m s hs hX hM
  obtain ⟨v, s', hs', c1, c2⟩ := b_status  w m s hs hX hM
  refine lk hP (r := (.aload_n 1, 1, 0, 0, 0, 0)) rfl ?_
  show P 1417 (LC i) [.ref 0] (putM (putX h w) 293 m)
  rw [XM]
  refine kv0 hP rfl (xH0 (by show 293 ≤ h.1; omega)) (by simp) (c1 40 _ _ (by omega) (putM h 293 m) (by show 293 ≤ h.1; omega)) ?_
  rintro _ _ ⟨rfl, w', rfl, hX'⟩
  rw [← XM]
  show P 1420 (LC i) [.int v] (putM (putX h w') 293 m)
  refine lk hP (r := (.aload_n 2, 1, 0, 0, 0, 0)) rfl ?_
  show P 1421 (LC i) [.ref 293, .int v] (putM (putX h w') 293 m)
  refine kv0 hP rfl (hOM (by show 310 ≤ h.1; omega)) (by simp) (c2 40 _ _ (by omega) (putX h w') 293 (by show 310 ≤ h.1; omega)) ?_
  rintro _ _ ⟨rfl, m', rfl, hM'⟩
  show P 1424 (LC i) [.int v, .int v] (putM (putX h w') 293 m')
  refine lk hP (r := (.if_icmp .eq 5, 3, 1429, 0, 0, 0)) rfl ?_
  exact ⟨fun _ => nx w' m' s' hs' hX' hM', fun e => absurd rfl e⟩

/-! the table of both levels -/
def f79 : cfT := fun as h => match as with
  | [.int v] => some (some (.int (b01 (Int32.ofInt 0 ≤ v ∧ v ≤ Int32.ofInt 7))), h)
  | _ => none
theorem n79 : ∀ (as : List Value) (h : aH) (p : Option Value × aH), f79 as h = some p → ∀ d, 2 ≤ d → ∀ N S, aAt d N S 79 as h (fun r h' => r = p.1 ∧ h' = p.2) := by
  intro as h p hp d hd N S
  match as, hp with
  | [.int v], hp =>
    cases hp
    exact q79 hd
def f141 : cfT := fun as h => match as with
  | [.int v] => some (some (.int (b01 (Int32.ofInt 0 ≤ v ∧ v ≤ Int32.ofInt 7))), h)
  | _ => none
theorem n141 : ∀ (as : List Value) (h : aH) (p : Option Value × aH), f141 as h = some p → ∀ d, 2 ≤ d → ∀ N S, aAt d N S 141 as h (fun r h' => r = p.1 ∧ h' = p.2) := by
  intro as h p hp d hd N S
  match as, hp with
  | [.int v], hp =>
    cases hp
    exact q141 hd
def f76 : cfT := fun as h => match as with
  | [.int v] => some (some (.int (b01 (Int32.ofInt 48 ≤ v ∧ v ≤ Int32.ofInt 57))), h)
  | _ => none
theorem n76 : ∀ (as : List Value) (h : aH) (p : Option Value × aH), f76 as h = some p → ∀ d, 2 ≤ d → ∀ N S, aAt d N S 76 as h (fun r h' => r = p.1 ∧ h' = p.2) := by
  intro as h p hp d hd N S
  match as, hp with
  | [.int v], hp =>
    cases hp
    exact q76 hd
def f150 : cfT := fun as h => match as with
  | [.int v] => some (some (.int (b01 (Int32.ofInt 48 ≤ v ∧ v ≤ Int32.ofInt 57))), h)
  | _ => none
theorem n150 : ∀ (as : List Value) (h : aH) (p : Option Value × aH), f150 as h = some p → ∀ d, 2 ≤ d → ∀ N S, aAt d N S 150 as h (fun r h' => r = p.1 ∧ h' = p.2) := by
  intro as h p hp d hd N S
  match as, hp with
  | [.int v], hp =>
    cases hp
    exact q150 hd
def f191 : cfT := fun as h => match as with
  | [.int v] => some (some (.int (b01 (Int32.ofInt 0 ≤ v ∧ v ≤ Int32.ofInt 60))), h)
  | _ => none
theorem n191 : ∀ (as : List Value) (h : aH) (p : Option Value × aH), f191 as h = some p → ∀ d, 2 ≤ d → ∀ N S, aAt d N S 191 as h (fun r h' => r = p.1 ∧ h' = p.2) := by
  intro as h p hp d hd N S
  match as, hp with
  | [.int v], hp =>
    cases hp
    exact q191 hd
def f168 : cfT := fun as h => match as with
  | [.int a, .int b, .int k] => some (some (.int (if (if a < b then b - a else a - b) ≤ k then b else if a < b then a + k else a - k)), h)
  | _ => none
theorem n168 : ∀ (as : List Value) (h : aH) (p : Option Value × aH), f168 as h = some p → ∀ d, 2 ≤ d → ∀ N S, aAt d N S 168 as h (fun r h' => r = p.1 ∧ h' = p.2) := by
  intro as h p hp d hd N S
  match as, hp with
  | [.int a, .int b, .int k], hp =>
    cases hp
    exact q168 hd
def f17 : cfT := fun as h => match as with
  | [.ref a, .int v] => (match fdI h a 2 3 with
    | some n => some (some (.int (b01 (Int32.ofInt 0 ≤ v ∧ v ≤ n - Int32.ofInt 1))), h)
    | none => none)
  | _ => none
theorem n17 : ∀ (as : List Value) (h : aH) (p : Option Value × aH), f17 as h = some p → ∀ d, 2 ≤ d → ∀ N S, aAt d N S 17 as h (fun r h' => r = p.1 ∧ h' = p.2) := by
  intro as h p hp d hd N S
  match as, hp with
  | [.ref a, .int v], hp =>
    dsimp only [f17] at hp
    split at hp
    · rename_i n hn
      cases hp
      exact q17 hd hn
    · cases hp
def f18 : cfT := fun as h => match as with
  | [.ref a, .int v] => (match fdI h a 2 9 with
    | some n => some (some (.int (b01 (Int32.ofInt 0 ≤ v ∧ v ≤ n - Int32.ofInt 1))), h)
    | none => none)
  | _ => none
theorem n18 : ∀ (as : List Value) (h : aH) (p : Option Value × aH), f18 as h = some p → ∀ d, 2 ≤ d → ∀ N S, aAt d N S 18 as h (fun r h' => r = p.1 ∧ h' = p.2) := by
  intro as h p hp d hd N S
  match as, hp with
  | [.ref a, .int v], hp =>
    dsimp only [f18] at hp
    split at hp
    · rename_i n hn
      cases hp
      exact q18 hd hn
    · cases hp
def f19 : cfT := fun as h => match as with
  | [.ref a, .int v] => (match fdI h a 2 0 with
    | some n => some (some (.int (b01 (Int32.ofInt 0 ≤ v ∧ v ≤ n - Int32.ofInt 1))), h)
    | none => none)
  | _ => none
theorem n19 : ∀ (as : List Value) (h : aH) (p : Option Value × aH), f19 as h = some p → ∀ d, 2 ≤ d → ∀ N S, aAt d N S 19 as h (fun r h' => r = p.1 ∧ h' = p.2) := by
  intro as h p hp d hd N S
  match as, hp with
  | [.ref a, .int v], hp =>
    dsimp only [f19] at hp
    split at hp
    · rename_i n hn
      cases hp
      exact q19 hd hn
    · cases hp
def f16 : cfT := fun as h => match as with
  | [.ref a] => (match fdI h a 2 3 with
    | some n => some (some (.int (b01 (0 < n))), h)
    | none => none)
  | _ => none
theorem n16 : ∀ (as : List Value) (h : aH) (p : Option Value × aH), f16 as h = some p → ∀ d, 2 ≤ d → ∀ N S, aAt d N S 16 as h (fun r h' => r = p.1 ∧ h' = p.2) := by
  intro as h p hp d hd N S
  match as, hp with
  | [.ref a], hp =>
    dsimp only [f16] at hp
    split at hp
    · rename_i n hn
      cases hp
      exact q16 hd hn
    · cases hp
def f20 : cfT := fun as h => match as with
  | [.ref a, .int v] => (match fdI h a 2 13 with
    | some n => some (some (.int (b01 (((n >>> (v &&& 31)) &&& Int32.ofInt 1) = Int32.ofInt 1))), h)
    | none => none)
  | _ => none
theorem n20 : ∀ (as : List Value) (h : aH) (p : Option Value × aH), f20 as h = some p → ∀ d, 2 ≤ d → ∀ N S, aAt d N S 20 as h (fun r h' => r = p.1 ∧ h' = p.2) := by
  intro as h p hp d hd N S
  match as, hp with
  | [.ref a, .int v], hp =>
    dsimp only [f20] at hp
    split at hp
    · rename_i n hn
      cases hp
      exact q20 hd hn
    · cases hp
def f162 : cfT := fun as h => match as with
  | [.ref a, .int v] => (match arI h a 7 16 0 with
    | some n => some (some (.int (b01 (Int32.ofInt 0 ≤ v ∧ v ≤ n - Int32.ofInt 1))), h)
    | none => none)
  | _ => none
theorem n162 : ∀ (as : List Value) (h : aH) (p : Option Value × aH), f162 as h = some p → ∀ d, 2 ≤ d → ∀ N S, aAt d N S 162 as h (fun r h' => r = p.1 ∧ h' = p.2) := by
  intro as h p hp d hd N S
  match as, hp with
  | [.ref a, .int v], hp =>
    dsimp only [f162] at hp
    split at hp
    · rename_i n hn
      cases hp
      exact q162 hd hn
    · cases hp
def f163 : cfT := fun as h => match as with
  | [.ref a, .int v] => (match arI h a 7 16 1 with
    | some n => some (some (.int (b01 (Int32.ofInt 0 ≤ v ∧ v ≤ n - Int32.ofInt 1))), h)
    | none => none)
  | _ => none
theorem n163 : ∀ (as : List Value) (h : aH) (p : Option Value × aH), f163 as h = some p → ∀ d, 2 ≤ d → ∀ N S, aAt d N S 163 as h (fun r h' => r = p.1 ∧ h' = p.2) := by
  intro as h p hp d hd N S
  match as, hp with
  | [.ref a, .int v], hp =>
    dsimp only [f163] at hp
    split at hp
    · rename_i n hn
      cases hp
      exact q163 hd hn
    · cases hp
def f164 : cfT := fun as h => match as with
  | [.ref a, .int v] => (match arI h a 7 16 2 with
    | some n => some (some (.int (b01 (Int32.ofInt 0 ≤ v ∧ v ≤ n - Int32.ofInt 1))), h)
    | none => none)
  | _ => none
theorem n164 : ∀ (as : List Value) (h : aH) (p : Option Value × aH), f164 as h = some p → ∀ d, 2 ≤ d → ∀ N S, aAt d N S 164 as h (fun r h' => r = p.1 ∧ h' = p.2) := by
  intro as h p hp d hd N S
  match as, hp with
  | [.ref a, .int v], hp =>
    dsimp only [f164] at hp
    split at hp
    · rename_i n hn
      cases hp
      exact q164 hd hn
    · cases hp
def f180 : cfT := fun as h => match as with
  | [.ref a, .int v] => (match fdI h a 7 15 with
    | some n => some (some (.int (if n = 0 then Int32.ofInt (-1000002) else if v = 0 then Int32.ofInt (-1000001) else Int32.ofInt 0)), h)
    | none => none)
  | _ => none
theorem n180 : ∀ (as : List Value) (h : aH) (p : Option Value × aH), f180 as h = some p → ∀ d, 2 ≤ d → ∀ N S, aAt d N S 180 as h (fun r h' => r = p.1 ∧ h' = p.2) := by
  intro as h p hp d hd N S
  match as, hp with
  | [.ref a, .int v], hp =>
    dsimp only [f180] at hp
    split at hp
    · rename_i n hn
      cases hp
      exact q180 hd hn
    · cases hp
def cl2 : List (Nat × cfT) := [(131, f131), (132, f132), (135, f135), (136, f136), (165, f165), (89, f89), (79, f79), (141, f141), (76, f76), (150, f150), (191, f191), (168, f168), (17, f17), (18, f18), (19, f19), (16, f16), (20, f20), (162, f162), (163, f163), (164, f164), (180, f180)]
theorem cl2_ok {d : Nat} (hd : 2 ≤ d) (N S k : Nat) (as : List Value) (h : aH) (p : Option Value × aH) (hp : cfOf cl2 k as h = some p) : aAt d N S k as h (fun r h' => r = p.1 ∧ h' = p.2) := cfOf_ok (D := 2) (List.forall_mem_cons.mpr ⟨(fun as h p hp d hd => n131 as h p hp d (Nat.le_trans (by decide) hd)), List.forall_mem_cons.mpr ⟨(fun as h p hp d hd => n132 as h p hp d (Nat.le_trans (by decide) hd)), List.forall_mem_cons.mpr ⟨(fun as h p hp d hd => n135 as h p hp d (Nat.le_trans (by decide) hd)), List.forall_mem_cons.mpr ⟨(fun as h p hp d hd => n136 as h p hp d (Nat.le_trans (by decide) hd)), List.forall_mem_cons.mpr ⟨(fun as h p hp d hd => n165 as h p hp d (Nat.le_trans (by decide) hd)), List.forall_mem_cons.mpr ⟨(fun as h p hp d hd => n89 as h p hp d (Nat.le_trans (by decide) hd)), List.forall_mem_cons.mpr ⟨n79, List.forall_mem_cons.mpr ⟨n141, List.forall_mem_cons.mpr ⟨n76, List.forall_mem_cons.mpr ⟨n150, List.forall_mem_cons.mpr ⟨n191, List.forall_mem_cons.mpr ⟨n168, List.forall_mem_cons.mpr ⟨n17, List.forall_mem_cons.mpr ⟨n18, List.forall_mem_cons.mpr ⟨n19, List.forall_mem_cons.mpr ⟨n16, List.forall_mem_cons.mpr ⟨n20, List.forall_mem_cons.mpr ⟨n162, List.forall_mem_cons.mpr ⟨n163, List.forall_mem_cons.mpr ⟨n164, List.forall_mem_cons.mpr ⟨n180, fun _ h => absurd h List.not_mem_nil⟩⟩⟩⟩⟩⟩⟩⟩⟩⟩⟩⟩⟩⟩⟩⟩⟩⟩⟩⟩⟩) hd N S k as h p hp
theorem y2_131 {v a b : Int32} {h : aH} {f : Option Value × aH → Prop} : opt (cfOf cl2 131 [.int v, .int a, .int b] h) f = f (some (.int (b01 (a ≤ v ∧ v ≤ b))), h) := rfl
theorem y2_132 {v : Int32} {h : aH} {f : Option Value × aH → Prop} : opt (cfOf cl2 132 [.int v] h) f = f (some (.int (b01 (v = 0 ∨ v = Int32.ofInt 1))), h) := rfl
theorem y2_135 {v a b : Int32} {h : aH} {f : Option Value × aH → Prop} : opt (cfOf cl2 135 [.int v, .int a, .int b] h) f = f (some (.int (b01 (a ≤ v ∧ v ≤ b))), h) := rfl
theorem y2_136 {m k : Int32} {h : aH} {f : Option Value × aH → Prop} : opt (cfOf cl2 136 [.int m, .int k] h) f = f (some (.int (b01 (((m >>> (k &&& 31)) &&& Int32.ofInt 1) = Int32.ofInt 1))), h) := rfl
theorem y2_165 {a b : Int32} {h : aH} {f : Option Value × aH → Prop} : opt (cfOf cl2 165 [.int a, .int b] h) f = f (some (.int (if a < b then b - a else a - b)), h) := rfl
theorem y2_89 {l v : Int32} {h : aH} {f : Option Value × aH → Prop} : opt (cfOf cl2 89 [.int l, .int v] h) f = f (some (.int (if l = 0 then v.toInt8.toInt32 else if l = Int32.ofInt 1 then v.toInt16.toInt32 else v)), h) := rfl
theorem y2_79 {v : Int32} {h : aH} {f : Option Value × aH → Prop} : opt (cfOf cl2 79 [.int v] h) f = f (some (.int (b01 (Int32.ofInt 0 ≤ v ∧ v ≤ Int32.ofInt 7))), h) := rfl
theorem y2_141 {v : Int32} {h : aH} {f : Option Value × aH → Prop} : opt (cfOf cl2 141 [.int v] h) f = f (some (.int (b01 (Int32.ofInt 0 ≤ v ∧ v ≤ Int32.ofInt 7))), h) := rfl
theorem y2_76 {v : Int32} {h : aH} {f : Option Value × aH → Prop} : opt (cfOf cl2 76 [.int v] h) f = f (some (.int (b01 (Int32.ofInt 48 ≤ v ∧ v ≤ Int32.ofInt 57))), h) := rfl
theorem y2_150 {v : Int32} {h : aH} {f : Option Value × aH → Prop} : opt (cfOf cl2 150 [.int v] h) f = f (some (.int (b01 (Int32.ofInt 48 ≤ v ∧ v ≤ Int32.ofInt 57))), h) := rfl
theorem y2_191 {v : Int32} {h : aH} {f : Option Value × aH → Prop} : opt (cfOf cl2 191 [.int v] h) f = f (some (.int (b01 (Int32.ofInt 0 ≤ v ∧ v ≤ Int32.ofInt 60))), h) := rfl
theorem y2_168 {a b k : Int32} {h : aH} {f : Option Value × aH → Prop} : opt (cfOf cl2 168 [.int a, .int b, .int k] h) f = f (some (.int (if (if a < b then b - a else a - b) ≤ k then b else if a < b then a + k else a - k)), h) := rfl
theorem y2_17 {a : Nat} {c : Cc} {v : Int32} {h : aH} {f : Option Value × aH → Prop} (ha : a + 9 ≤ h.1) : opt (cfOf cl2 17 [.ref a, .int v] (putC h a c)) f = f (some (.int (b01 (Int32.ofInt 0 ≤ v ∧ v ≤ (c.1 3) - Int32.ofInt 1))), putC h a c) := by
  have h1 : fdI (putC h a c) a 2 3 = some (c.1 3) := by unfold fdI; rw [hOC ha]; rfl
  have h2 : cfOf cl2 17 [.ref a, .int v] (putC h a c) = f17 [.ref a, .int v] (putC h a c) := rfl
  rw [h2]
  unfold f17
  dsimp only
  rw [h1]
  rfl
theorem y2_18 {a : Nat} {c : Cc} {v : Int32} {h : aH} {f : Option Value × aH → Prop} (ha : a + 9 ≤ h.1) : opt (cfOf cl2 18 [.ref a, .int v] (putC h a c)) f = f (some (.int (b01 (Int32.ofInt 0 ≤ v ∧ v ≤ (c.1 4) - Int32.ofInt 1))), putC h a c) := by
  have h1 : fdI (putC h a c) a 2 9 = some (c.1 4) := by unfold fdI; rw [hOC ha]; rfl
  have h2 : cfOf cl2 18 [.ref a, .int v] (putC h a c) = f18 [.ref a, .int v] (putC h a c) := rfl
  rw [h2]
  unfold f18
  dsimp only
  rw [h1]
  rfl
theorem y2_19 {a : Nat} {c : Cc} {v : Int32} {h : aH} {f : Option Value × aH → Prop} (ha : a + 9 ≤ h.1) : opt (cfOf cl2 19 [.ref a, .int v] (putC h a c)) f = f (some (.int (b01 (Int32.ofInt 0 ≤ v ∧ v ≤ (c.1 0) - Int32.ofInt 1))), putC h a c) := by
  have h1 : fdI (putC h a c) a 2 0 = some (c.1 0) := by unfold fdI; rw [hOC ha]; rfl
  have h2 : cfOf cl2 19 [.ref a, .int v] (putC h a c) = f19 [.ref a, .int v] (putC h a c) := rfl
  rw [h2]
  unfold f19
  dsimp only
  rw [h1]
  rfl
theorem y2_16 {a : Nat} {c : Cc} {h : aH} {f : Option Value × aH → Prop} (ha : a + 9 ≤ h.1) : opt (cfOf cl2 16 [.ref a] (putC h a c)) f = f (some (.int (b01 (0 < (c.1 3)))), putC h a c) := by
  have h1 : fdI (putC h a c) a 2 3 = some (c.1 3) := by unfold fdI; rw [hOC ha]; rfl
  have h2 : cfOf cl2 16 [.ref a] (putC h a c) = f16 [.ref a] (putC h a c) := rfl
  rw [h2]
  unfold f16
  dsimp only
  rw [h1]
  rfl
theorem y2_20 {a : Nat} {c : Cc} {v : Int32} {h : aH} {f : Option Value × aH → Prop} (ha : a + 9 ≤ h.1) : opt (cfOf cl2 20 [.ref a, .int v] (putC h a c)) f = f (some (.int (b01 ((((c.1 5) >>> (v &&& 31)) &&& Int32.ofInt 1) = Int32.ofInt 1))), putC h a c) := by
  have h1 : fdI (putC h a c) a 2 13 = some (c.1 5) := by unfold fdI; rw [hOC ha]; rfl
  have h2 : cfOf cl2 20 [.ref a, .int v] (putC h a c) = f20 [.ref a, .int v] (putC h a c) := rfl
  rw [h2]
  unfold f20
  dsimp only
  rw [h1]
  rfl
theorem y2_162 {a : Nat} {c : Cc} {v : Int32} {h : aH} {f : Option Value × aH → Prop} (ha : a + 17 ≤ h.1) : opt (cfOf cl2 162 [.ref a, .int v] (putM h a c)) f = f (some (.int (b01 (Int32.ofInt 0 ≤ v ∧ v ≤ (c.2 7 0) - Int32.ofInt 1))), putM h a c) := by
  have h1 : arI (putM h a c) a 7 16 0 = some (c.2 7 0) := by unfold arI; rw [hOM ha]; simp [h_M7 ha]
  have h2 : cfOf cl2 162 [.ref a, .int v] (putM h a c) = f162 [.ref a, .int v] (putM h a c) := rfl
  rw [h2]
  unfold f162
  dsimp only
  rw [h1]
  rfl
theorem y2_163 {a : Nat} {c : Cc} {v : Int32} {h : aH} {f : Option Value × aH → Prop} (ha : a + 17 ≤ h.1) : opt (cfOf cl2 163 [.ref a, .int v] (putM h a c)) f = f (some (.int (b01 (Int32.ofInt 0 ≤ v ∧ v ≤ (c.2 7 1) - Int32.ofInt 1))), putM h a c) := by
  have h1 : arI (putM h a c) a 7 16 1 = some (c.2 7 1) := by unfold arI; rw [hOM ha]; simp [h_M7 ha]
  have h2 : cfOf cl2 163 [.ref a, .int v] (putM h a c) = f163 [.ref a, .int v] (putM h a c) := rfl
  rw [h2]
  unfold f163
  dsimp only
  rw [h1]
  rfl
theorem y2_164 {a : Nat} {c : Cc} {v : Int32} {h : aH} {f : Option Value × aH → Prop} (ha : a + 17 ≤ h.1) : opt (cfOf cl2 164 [.ref a, .int v] (putM h a c)) f = f (some (.int (b01 (Int32.ofInt 0 ≤ v ∧ v ≤ (c.2 7 2) - Int32.ofInt 1))), putM h a c) := by
  have h1 : arI (putM h a c) a 7 16 2 = some (c.2 7 2) := by unfold arI; rw [hOM ha]; simp [h_M7 ha]
  have h2 : cfOf cl2 164 [.ref a, .int v] (putM h a c) = f164 [.ref a, .int v] (putM h a c) := rfl
  rw [h2]
  unfold f164
  dsimp only
  rw [h1]
  rfl
theorem y2_180 {a : Nat} {c : Cc} {v : Int32} {h : aH} {f : Option Value × aH → Prop} (ha : a + 17 ≤ h.1) : opt (cfOf cl2 180 [.ref a, .int v] (putM h a c)) f = f (some (.int (if (c.1 8) = 0 then Int32.ofInt (-1000002) else if v = 0 then Int32.ofInt (-1000001) else Int32.ofInt 0)), putM h a c) := by
  have h1 : fdI (putM h a c) a 7 15 = some (c.1 8) := by unfold fdI; rw [hOM ha]; rfl
  have h2 : cfOf cl2 180 [.ref a, .int v] (putM h a c) = f180 [.ref a, .int v] (putM h a c) := rfl
  rw [h2]
  unfold f180
  dsimp only
  rw [h1]
  rfl

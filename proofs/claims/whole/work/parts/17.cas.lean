/-! a castle of the class, as cells: the object at a, its rows behind it -/
theorem rtb0 : (Int32.ofInt 0 = 0 ∨ Int32.ofInt 0 = 1) = True := by simp [i_zero]
theorem rtb1 : (Int32.ofInt 1 = 0 ∨ Int32.ofInt 1 = 1) = True := by simp [i_one]
theorem entL_i {x : Int32} {vs : List Value} {n : Nat} : entL (.int x :: vs) (n + 1) = some (.int x) :: entL vs n := by simp [entL, Value.category]
theorem entL_r {x : Nat} {vs : List Value} {n : Nat} : entL (.ref x :: vs) (n + 1) = some (.ref x) :: entL vs n := by simp [entL, Value.category]
theorem entL_l {x : Int64} {vs : List Value} {n : Nat} : entL (.long x :: vs) (n + 2) = some (.long x) :: none :: entL vs n := by simp [entL, Value.category]
theorem entL_n {n : Nat} : entL [] n = List.replicate n none := rfl
theorem sel_no {k pc : Nat} {r : List Nat} {a b : Prop} (h : pc ≠ k) : sel (k :: r) pc a b = sel r pc a b := by simp [sel, h]
theorem opt_of {α : Type} {x : Option α} {v : α} {f : α → Prop} (h : x = some v) : opt x f = f v := by rw [h]; rfl
theorem opt_g {v : Value} {l : List Value} {n : Nat} {f : Value → Prop} : opt ((v :: l)[n + 1]?) f = opt (l[n]?) f := by rw [List.getElem?_cons_succ]
theorem opt_g0 {v : Value} {l : List Value} {f : Value → Prop} : opt ((v :: l)[0]?) f = f v := by simp [opt]
theorem pv_i {n : Int32} : pvOk 0 (.int n) = True := by simp [pvOk]
theorem pv_r {a : Nat} : pvOk 2 (.ref a) = True := by simp [pvOk]
abbrev Cc : Type := (Nat → Int32) × (Nat → Nat → Int32)
def upS (c : Cc) (k : Nat) (v : Int32) : Cc := (fun j => if j = k then v else c.1 j, c.2)
def upA (c : Cc) (k : Nat) (g : Nat → Int32) : Cc := (c.1, fun j => if j = k then g else c.2 j)
theorem upS_1 {c : Cc} {k j : Nat} {v : Int32} : (upS c k v).1 j = if j = k then v else c.1 j := rfl
theorem upS_2 {c : Cc} {k : Nat} {v : Int32} : (upS c k v).2 = c.2 := rfl
theorem upA_1 {c : Cc} {k : Nat} {g : Nat → Int32} : (upA c k g).1 = c.1 := rfl
theorem upA_2 {c : Cc} {k j : Nat} {g : Nat → Int32} : (upA c k g).2 j = if j = k then g else c.2 j := rfl
def putC (h : aH) (a : Nat) (c : Cc) : aH := (h.1, h.2.1, fun q => if q = a then .inr (2, [.int (c.1 0), .int (c.1 1), .int (c.1 2), .int (c.1 3), .ref (a + 1), .ref (a + 2), .ref (a + 3), .ref (a + 4), .ref (a + 5), .int (c.1 4), .ref (a + 6), .ref (a + 7), .ref (a + 8), .int (c.1 5), .int (c.1 6)]) else if a < q ∧ q ≤ a + 5 then .inl (0, 5, .inl (c.2 (q - a - 1))) else if a + 5 < q ∧ q ≤ a + 8 then .inl (0, 6, .inl (c.2 (q - a - 1))) else h.2.2 q)
theorem putC_n {h : aH} {a : Nat} {c : Cc} : (putC h a c).1 = h.1 ∧ (putC h a c).2.1 = h.2.1 := ⟨rfl, rfl⟩
theorem hOC {h : aH} {a : Nat} {c : Cc} (ha : a + 9 ≤ h.1) : hO (putC h a c) a 2 = some [.int (c.1 0), .int (c.1 1), .int (c.1 2), .int (c.1 3), .ref (a + 1), .ref (a + 2), .ref (a + 3), .ref (a + 4), .ref (a + 5), .int (c.1 4), .ref (a + 6), .ref (a + 7), .ref (a + 8), .int (c.1 5), .int (c.1 6)] := by
  have h1 : a < (putC h a c).1 := by show a < h.1; omega
  unfold hO
  rw [if_pos h1]
  simp [putC]
theorem pO {h : aH} {a : Nat} {c : Cc} {f : List Value → Prop} (ha : a + 9 ≤ h.1) : opt (hO (putC h a c) a 2) f = f [.int (c.1 0), .int (c.1 1), .int (c.1 2), .int (c.1 3), .ref (a + 1), .ref (a + 2), .ref (a + 3), .ref (a + 4), .ref (a + 5), .int (c.1 4), .ref (a + 6), .ref (a + 7), .ref (a + 8), .int (c.1 5), .int (c.1 6)] := opt_of (hOC ha)
theorem hIC0 {h : aH} {a : Nat} {c : Cc} (ha : a + 9 ≤ h.1) : hI (putC h a c) (a + 1) = some (5, c.2 0) := by
  have h1 : a + 1 < (putC h a c).1 := by show a + 1 < h.1; omega
  unfold hI
  rw [if_pos h1]
  simp [putC, show a + 1 - a - 1 = 0 by omega]
theorem pA0 {h : aH} {a : Nat} {c : Cc} {f : Nat × (Nat → Int32) → Prop} (ha : a + 9 ≤ h.1) : opt (hI (putC h a c) (a + 1)) f = f (5, c.2 0) := opt_of (hIC0 ha)
theorem wA0 {h : aH} {a : Nat} {c : Cc} {g : Nat → Int32} : hS (putC h a c) (a + 1) (.inl (0, 5, .inl g)) = putC h a (upA c 0 g) := by
  unfold hS putC
  refine congrArg (fun z => (h.1, h.2.1, z)) ?_
  funext q
  by_cases hq : q = a + 1
  · subst hq
    simp [upA, show a + 1 - a - 1 = 0 by omega]
  · have hne : ∀ (_ : a < q), ¬ q - a - 1 = 0 := fun _ _ => by omega
    simp only [hq, if_false]
    by_cases h0 : q = a
    · simp [h0, upA]
    · by_cases h5 : a < q ∧ q ≤ a + 5
      · simp [h0, h5, upA, hne h5.1]
      · by_cases h8 : a + 5 < q ∧ q ≤ a + 8
        · simp [h0, h5, h8, upA, hne (by omega)]
        · simp [h0, h5, h8]
theorem hIC1 {h : aH} {a : Nat} {c : Cc} (ha : a + 9 ≤ h.1) : hI (putC h a c) (a + 2) = some (5, c.2 1) := by
  have h1 : a + 2 < (putC h a c).1 := by show a + 2 < h.1; omega
  unfold hI
  rw [if_pos h1]
  simp [putC, show a + 2 - a - 1 = 1 by omega]
theorem pA1 {h : aH} {a : Nat} {c : Cc} {f : Nat × (Nat → Int32) → Prop} (ha : a + 9 ≤ h.1) : opt (hI (putC h a c) (a + 2)) f = f (5, c.2 1) := opt_of (hIC1 ha)
theorem wA1 {h : aH} {a : Nat} {c : Cc} {g : Nat → Int32} : hS (putC h a c) (a + 2) (.inl (0, 5, .inl g)) = putC h a (upA c 1 g) := by
  unfold hS putC
  refine congrArg (fun z => (h.1, h.2.1, z)) ?_
  funext q
  by_cases hq : q = a + 2
  · subst hq
    simp [upA, show a + 2 - a - 1 = 1 by omega]
  · have hne : ∀ (_ : a < q), ¬ q - a - 1 = 1 := fun _ _ => by omega
    simp only [hq, if_false]
    by_cases h0 : q = a
    · simp [h0, upA]
    · by_cases h5 : a < q ∧ q ≤ a + 5
      · simp [h0, h5, upA, hne h5.1]
      · by_cases h8 : a + 5 < q ∧ q ≤ a + 8
        · simp [h0, h5, h8, upA, hne (by omega)]
        · simp [h0, h5, h8]
theorem hIC2 {h : aH} {a : Nat} {c : Cc} (ha : a + 9 ≤ h.1) : hI (putC h a c) (a + 3) = some (5, c.2 2) := by
  have h1 : a + 3 < (putC h a c).1 := by show a + 3 < h.1; omega
  unfold hI
  rw [if_pos h1]
  simp [putC, show a + 3 - a - 1 = 2 by omega]
theorem pA2 {h : aH} {a : Nat} {c : Cc} {f : Nat × (Nat → Int32) → Prop} (ha : a + 9 ≤ h.1) : opt (hI (putC h a c) (a + 3)) f = f (5, c.2 2) := opt_of (hIC2 ha)
theorem wA2 {h : aH} {a : Nat} {c : Cc} {g : Nat → Int32} : hS (putC h a c) (a + 3) (.inl (0, 5, .inl g)) = putC h a (upA c 2 g) := by
  unfold hS putC
  refine congrArg (fun z => (h.1, h.2.1, z)) ?_
  funext q
  by_cases hq : q = a + 3
  · subst hq
    simp [upA, show a + 3 - a - 1 = 2 by omega]
  · have hne : ∀ (_ : a < q), ¬ q - a - 1 = 2 := fun _ _ => by omega
    simp only [hq, if_false]
    by_cases h0 : q = a
    · simp [h0, upA]
    · by_cases h5 : a < q ∧ q ≤ a + 5
      · simp [h0, h5, upA, hne h5.1]
      · by_cases h8 : a + 5 < q ∧ q ≤ a + 8
        · simp [h0, h5, h8, upA, hne (by omega)]
        · simp [h0, h5, h8]
theorem hIC3 {h : aH} {a : Nat} {c : Cc} (ha : a + 9 ≤ h.1) : hI (putC h a c) (a + 4) = some (5, c.2 3) := by
  have h1 : a + 4 < (putC h a c).1 := by show a + 4 < h.1; omega
  unfold hI
  rw [if_pos h1]
  simp [putC, show a + 4 - a - 1 = 3 by omega]
theorem pA3 {h : aH} {a : Nat} {c : Cc} {f : Nat × (Nat → Int32) → Prop} (ha : a + 9 ≤ h.1) : opt (hI (putC h a c) (a + 4)) f = f (5, c.2 3) := opt_of (hIC3 ha)
theorem wA3 {h : aH} {a : Nat} {c : Cc} {g : Nat → Int32} : hS (putC h a c) (a + 4) (.inl (0, 5, .inl g)) = putC h a (upA c 3 g) := by
  unfold hS putC
  refine congrArg (fun z => (h.1, h.2.1, z)) ?_
  funext q
  by_cases hq : q = a + 4
  · subst hq
    simp [upA, show a + 4 - a - 1 = 3 by omega]
  · have hne : ∀ (_ : a < q), ¬ q - a - 1 = 3 := fun _ _ => by omega
    simp only [hq, if_false]
    by_cases h0 : q = a
    · simp [h0, upA]
    · by_cases h5 : a < q ∧ q ≤ a + 5
      · simp [h0, h5, upA, hne h5.1]
      · by_cases h8 : a + 5 < q ∧ q ≤ a + 8
        · simp [h0, h5, h8, upA, hne (by omega)]
        · simp [h0, h5, h8]
theorem hIC4 {h : aH} {a : Nat} {c : Cc} (ha : a + 9 ≤ h.1) : hI (putC h a c) (a + 5) = some (5, c.2 4) := by
  have h1 : a + 5 < (putC h a c).1 := by show a + 5 < h.1; omega
  unfold hI
  rw [if_pos h1]
  simp [putC, show a + 5 - a - 1 = 4 by omega]
theorem pA4 {h : aH} {a : Nat} {c : Cc} {f : Nat × (Nat → Int32) → Prop} (ha : a + 9 ≤ h.1) : opt (hI (putC h a c) (a + 5)) f = f (5, c.2 4) := opt_of (hIC4 ha)
theorem wA4 {h : aH} {a : Nat} {c : Cc} {g : Nat → Int32} : hS (putC h a c) (a + 5) (.inl (0, 5, .inl g)) = putC h a (upA c 4 g) := by
  unfold hS putC
  refine congrArg (fun z => (h.1, h.2.1, z)) ?_
  funext q
  by_cases hq : q = a + 5
  · subst hq
    simp [upA, show a + 5 - a - 1 = 4 by omega]
  · have hne : ∀ (_ : a < q), ¬ q - a - 1 = 4 := fun _ _ => by omega
    simp only [hq, if_false]
    by_cases h0 : q = a
    · simp [h0, upA]
    · by_cases h5 : a < q ∧ q ≤ a + 5
      · simp [h0, h5, upA, hne h5.1]
      · by_cases h8 : a + 5 < q ∧ q ≤ a + 8
        · simp [h0, h5, h8, upA, hne (by omega)]
        · simp [h0, h5, h8]
theorem hIC5 {h : aH} {a : Nat} {c : Cc} (ha : a + 9 ≤ h.1) : hI (putC h a c) (a + 6) = some (6, c.2 5) := by
  have h1 : a + 6 < (putC h a c).1 := by show a + 6 < h.1; omega
  unfold hI
  rw [if_pos h1]
  simp [putC, show a + 6 - a - 1 = 5 by omega]
theorem pA5 {h : aH} {a : Nat} {c : Cc} {f : Nat × (Nat → Int32) → Prop} (ha : a + 9 ≤ h.1) : opt (hI (putC h a c) (a + 6)) f = f (6, c.2 5) := opt_of (hIC5 ha)
theorem wA5 {h : aH} {a : Nat} {c : Cc} {g : Nat → Int32} : hS (putC h a c) (a + 6) (.inl (0, 6, .inl g)) = putC h a (upA c 5 g) := by
  unfold hS putC
  refine congrArg (fun z => (h.1, h.2.1, z)) ?_
  funext q
  by_cases hq : q = a + 6
  · subst hq
    simp [upA, show a + 6 - a - 1 = 5 by omega]
  · have hne : ∀ (_ : a < q), ¬ q - a - 1 = 5 := fun _ _ => by omega
    simp only [hq, if_false]
    by_cases h0 : q = a
    · simp [h0, upA]
    · by_cases h5 : a < q ∧ q ≤ a + 5
      · simp [h0, h5, upA, hne h5.1]
      · by_cases h8 : a + 5 < q ∧ q ≤ a + 8
        · simp [h0, h5, h8, upA, hne (by omega)]
        · simp [h0, h5, h8]
theorem hIC6 {h : aH} {a : Nat} {c : Cc} (ha : a + 9 ≤ h.1) : hI (putC h a c) (a + 7) = some (6, c.2 6) := by
  have h1 : a + 7 < (putC h a c).1 := by show a + 7 < h.1; omega
  unfold hI
  rw [if_pos h1]
  simp [putC, show a + 7 - a - 1 = 6 by omega]
theorem pA6 {h : aH} {a : Nat} {c : Cc} {f : Nat × (Nat → Int32) → Prop} (ha : a + 9 ≤ h.1) : opt (hI (putC h a c) (a + 7)) f = f (6, c.2 6) := opt_of (hIC6 ha)
theorem wA6 {h : aH} {a : Nat} {c : Cc} {g : Nat → Int32} : hS (putC h a c) (a + 7) (.inl (0, 6, .inl g)) = putC h a (upA c 6 g) := by
  unfold hS putC
  refine congrArg (fun z => (h.1, h.2.1, z)) ?_
  funext q
  by_cases hq : q = a + 7
  · subst hq
    simp [upA, show a + 7 - a - 1 = 6 by omega]
  · have hne : ∀ (_ : a < q), ¬ q - a - 1 = 6 := fun _ _ => by omega
    simp only [hq, if_false]
    by_cases h0 : q = a
    · simp [h0, upA]
    · by_cases h5 : a < q ∧ q ≤ a + 5
      · simp [h0, h5, upA, hne h5.1]
      · by_cases h8 : a + 5 < q ∧ q ≤ a + 8
        · simp [h0, h5, h8, upA, hne (by omega)]
        · simp [h0, h5, h8]
theorem hIC7 {h : aH} {a : Nat} {c : Cc} (ha : a + 9 ≤ h.1) : hI (putC h a c) (a + 8) = some (6, c.2 7) := by
  have h1 : a + 8 < (putC h a c).1 := by show a + 8 < h.1; omega
  unfold hI
  rw [if_pos h1]
  simp [putC, show a + 8 - a - 1 = 7 by omega]
theorem pA7 {h : aH} {a : Nat} {c : Cc} {f : Nat × (Nat → Int32) → Prop} (ha : a + 9 ≤ h.1) : opt (hI (putC h a c) (a + 8)) f = f (6, c.2 7) := opt_of (hIC7 ha)
theorem wA7 {h : aH} {a : Nat} {c : Cc} {g : Nat → Int32} : hS (putC h a c) (a + 8) (.inl (0, 6, .inl g)) = putC h a (upA c 7 g) := by
  unfold hS putC
  refine congrArg (fun z => (h.1, h.2.1, z)) ?_
  funext q
  by_cases hq : q = a + 8
  · subst hq
    simp [upA, show a + 8 - a - 1 = 7 by omega]
  · have hne : ∀ (_ : a < q), ¬ q - a - 1 = 7 := fun _ _ => by omega
    simp only [hq, if_false]
    by_cases h0 : q = a
    · simp [h0, upA]
    · by_cases h5 : a < q ∧ q ≤ a + 5
      · simp [h0, h5, upA, hne h5.1]
      · by_cases h8 : a + 5 < q ∧ q ≤ a + 8
        · simp [h0, h5, h8, upA, hne (by omega)]
        · simp [h0, h5, h8]
theorem wS0 {h : aH} {a : Nat} {c : Cc} {v : Int32} : hS (putC h a c) a (.inr (2, [.int v, .int (c.1 1), .int (c.1 2), .int (c.1 3), .ref (a + 1), .ref (a + 2), .ref (a + 3), .ref (a + 4), .ref (a + 5), .int (c.1 4), .ref (a + 6), .ref (a + 7), .ref (a + 8), .int (c.1 5), .int (c.1 6)])) = putC h a (upS c 0 v) := by
  unfold hS putC
  refine congrArg (fun z => (h.1, h.2.1, z)) ?_
  funext q
  by_cases hq : q = a
  · simp [hq, upS]
  · simp [hq, upS]
theorem wS1 {h : aH} {a : Nat} {c : Cc} {v : Int32} : hS (putC h a c) a (.inr (2, [.int (c.1 0), .int v, .int (c.1 2), .int (c.1 3), .ref (a + 1), .ref (a + 2), .ref (a + 3), .ref (a + 4), .ref (a + 5), .int (c.1 4), .ref (a + 6), .ref (a + 7), .ref (a + 8), .int (c.1 5), .int (c.1 6)])) = putC h a (upS c 1 v) := by
  unfold hS putC
  refine congrArg (fun z => (h.1, h.2.1, z)) ?_
  funext q
  by_cases hq : q = a
  · simp [hq, upS]
  · simp [hq, upS]
theorem wS2 {h : aH} {a : Nat} {c : Cc} {v : Int32} : hS (putC h a c) a (.inr (2, [.int (c.1 0), .int (c.1 1), .int v, .int (c.1 3), .ref (a + 1), .ref (a + 2), .ref (a + 3), .ref (a + 4), .ref (a + 5), .int (c.1 4), .ref (a + 6), .ref (a + 7), .ref (a + 8), .int (c.1 5), .int (c.1 6)])) = putC h a (upS c 2 v) := by
  unfold hS putC
  refine congrArg (fun z => (h.1, h.2.1, z)) ?_
  funext q
  by_cases hq : q = a
  · simp [hq, upS]
  · simp [hq, upS]
theorem wS3 {h : aH} {a : Nat} {c : Cc} {v : Int32} : hS (putC h a c) a (.inr (2, [.int (c.1 0), .int (c.1 1), .int (c.1 2), .int v, .ref (a + 1), .ref (a + 2), .ref (a + 3), .ref (a + 4), .ref (a + 5), .int (c.1 4), .ref (a + 6), .ref (a + 7), .ref (a + 8), .int (c.1 5), .int (c.1 6)])) = putC h a (upS c 3 v) := by
  unfold hS putC
  refine congrArg (fun z => (h.1, h.2.1, z)) ?_
  funext q
  by_cases hq : q = a
  · simp [hq, upS]
  · simp [hq, upS]
theorem wS4 {h : aH} {a : Nat} {c : Cc} {v : Int32} : hS (putC h a c) a (.inr (2, [.int (c.1 0), .int (c.1 1), .int (c.1 2), .int (c.1 3), .ref (a + 1), .ref (a + 2), .ref (a + 3), .ref (a + 4), .ref (a + 5), .int v, .ref (a + 6), .ref (a + 7), .ref (a + 8), .int (c.1 5), .int (c.1 6)])) = putC h a (upS c 4 v) := by
  unfold hS putC
  refine congrArg (fun z => (h.1, h.2.1, z)) ?_
  funext q
  by_cases hq : q = a
  · simp [hq, upS]
  · simp [hq, upS]
theorem wS5 {h : aH} {a : Nat} {c : Cc} {v : Int32} : hS (putC h a c) a (.inr (2, [.int (c.1 0), .int (c.1 1), .int (c.1 2), .int (c.1 3), .ref (a + 1), .ref (a + 2), .ref (a + 3), .ref (a + 4), .ref (a + 5), .int (c.1 4), .ref (a + 6), .ref (a + 7), .ref (a + 8), .int v, .int (c.1 6)])) = putC h a (upS c 5 v) := by
  unfold hS putC
  refine congrArg (fun z => (h.1, h.2.1, z)) ?_
  funext q
  by_cases hq : q = a
  · simp [hq, upS]
  · simp [hq, upS]
theorem wS6 {h : aH} {a : Nat} {c : Cc} {v : Int32} : hS (putC h a c) a (.inr (2, [.int (c.1 0), .int (c.1 1), .int (c.1 2), .int (c.1 3), .ref (a + 1), .ref (a + 2), .ref (a + 3), .ref (a + 4), .ref (a + 5), .int (c.1 4), .ref (a + 6), .ref (a + 7), .ref (a + 8), .int (c.1 5), .int v])) = putC h a (upS c 6 v) := by
  unfold hS putC
  refine congrArg (fun z => (h.1, h.2.1, z)) ?_
  funext q
  by_cases hq : q = a
  · simp [hq, upS]
  · simp [hq, upS]
theorem kv0 {sa : aS} {d N S : Nat} {rt : Option FieldType} {cd : List (Nat × aI)} {P : aK} {Q : aQ} {pc : Nat} {L : aL} {h : aH} {s : List Value} {a i len x y w : Nat} (hP : aClo sa (aAt d) N S rt cd P Q) (hl : lkp cd pc = some (.invokevirtual i, len, x, y, 1, w)) {fs : List Value} (ho : hO h a w = some fs) (hs : s.length ≤ 4) {R : aQ} (hc : aAt d h.1 h.2.1 y [.ref a] h R) (k : ∀ r h', R r h' → P (pc + 3) L (pu r s) h') : P pc L (.ref a :: s) h := call_v0 (z := 0) hP hl ho hs hc k
theorem kv1 {sa : aS} {d N S : Nat} {rt : Option FieldType} {cd : List (Nat × aI)} {P : aK} {Q : aQ} {pc : Nat} {L : aL} {h : aH} {s : List Value} {v1 : Value} {a i len x y w : Nat} (hP : aClo sa (aAt d) N S rt cd P Q) (hl : lkp cd pc = some (.invokevirtual i, len, x, y, 2, w)) {fs : List Value} (ho : hO h a w = some fs) (hs : s.length ≤ 4) {R : aQ} (hc : aAt d h.1 h.2.1 y [.ref a, v1] h R) (k : ∀ r h', R r h' → P (pc + 3) L (pu r s) h') : P pc L (v1 :: .ref a :: s) h := call_v1 (z := 0) hP hl ho hs hc k
theorem kv2 {sa : aS} {d N S : Nat} {rt : Option FieldType} {cd : List (Nat × aI)} {P : aK} {Q : aQ} {pc : Nat} {L : aL} {h : aH} {s : List Value} {v1 v2 : Value} {a i len x y w : Nat} (hP : aClo sa (aAt d) N S rt cd P Q) (hl : lkp cd pc = some (.invokevirtual i, len, x, y, 3, w)) {fs : List Value} (ho : hO h a w = some fs) (hs : s.length ≤ 4) {R : aQ} (hc : aAt d h.1 h.2.1 y [.ref a, v1, v2] h R) (k : ∀ r h', R r h' → P (pc + 3) L (pu r s) h') : P pc L (v2 :: v1 :: .ref a :: s) h := call_v2 (z := 0) hP hl ho hs hc k
theorem kv3 {sa : aS} {d N S : Nat} {rt : Option FieldType} {cd : List (Nat × aI)} {P : aK} {Q : aQ} {pc : Nat} {L : aL} {h : aH} {s : List Value} {v1 v2 v3 : Value} {a i len x y w : Nat} (hP : aClo sa (aAt d) N S rt cd P Q) (hl : lkp cd pc = some (.invokevirtual i, len, x, y, 4, w)) {fs : List Value} (ho : hO h a w = some fs) (hs : s.length ≤ 4) {R : aQ} (hc : aAt d h.1 h.2.1 y [.ref a, v1, v2, v3] h R) (k : ∀ r h', R r h' → P (pc + 3) L (pu r s) h') : P pc L (v3 :: v2 :: v1 :: .ref a :: s) h := call_v3 (z := 0) hP hl ho hs hc k
theorem kv4 {sa : aS} {d N S : Nat} {rt : Option FieldType} {cd : List (Nat × aI)} {P : aK} {Q : aQ} {pc : Nat} {L : aL} {h : aH} {s : List Value} {v1 v2 v3 v4 : Value} {a i len x y w : Nat} (hP : aClo sa (aAt d) N S rt cd P Q) (hl : lkp cd pc = some (.invokevirtual i, len, x, y, 5, w)) {fs : List Value} (ho : hO h a w = some fs) (hs : s.length ≤ 4) {R : aQ} (hc : aAt d h.1 h.2.1 y [.ref a, v1, v2, v3, v4] h R) (k : ∀ r h', R r h' → P (pc + 3) L (pu r s) h') : P pc L (v4 :: v3 :: v2 :: v1 :: .ref a :: s) h := call_v4 (z := 0) hP hl ho hs hc k
theorem kv5 {sa : aS} {d N S : Nat} {rt : Option FieldType} {cd : List (Nat × aI)} {P : aK} {Q : aQ} {pc : Nat} {L : aL} {h : aH} {s : List Value} {v1 v2 v3 v4 v5 : Value} {a i len x y w : Nat} (hP : aClo sa (aAt d) N S rt cd P Q) (hl : lkp cd pc = some (.invokevirtual i, len, x, y, 6, w)) {fs : List Value} (ho : hO h a w = some fs) (hs : s.length ≤ 4) {R : aQ} (hc : aAt d h.1 h.2.1 y [.ref a, v1, v2, v3, v4, v5] h R) (k : ∀ r h', R r h' → P (pc + 3) L (pu r s) h') : P pc L (v5 :: v4 :: v3 :: v2 :: v1 :: .ref a :: s) h := call_v5 (z := 0) hP hl ho hs hc k
theorem kv6 {sa : aS} {d N S : Nat} {rt : Option FieldType} {cd : List (Nat × aI)} {P : aK} {Q : aQ} {pc : Nat} {L : aL} {h : aH} {s : List Value} {v1 v2 v3 v4 v5 v6 : Value} {a i len x y w : Nat} (hP : aClo sa (aAt d) N S rt cd P Q) (hl : lkp cd pc = some (.invokevirtual i, len, x, y, 7, w)) {fs : List Value} (ho : hO h a w = some fs) (hs : s.length ≤ 4) {R : aQ} (hc : aAt d h.1 h.2.1 y [.ref a, v1, v2, v3, v4, v5, v6] h R) (k : ∀ r h', R r h' → P (pc + 3) L (pu r s) h') : P pc L (v6 :: v5 :: v4 :: v3 :: v2 :: v1 :: .ref a :: s) h := call_v6 (z := 0) hP hl ho hs hc k
theorem ks0 {sa : aS} {d N S : Nat} {rt : Option FieldType} {cd : List (Nat × aI)} {P : aK} {Q : aQ} {pc : Nat} {L : aL} {h : aH} {s : List Value} {i len y w : Nat} (hP : aClo sa (aAt d) N S rt cd P Q) (hl : lkp cd pc = some (.invokestatic i, len, 1, y, 0, w)) (hs : s.length ≤ 4) {R : aQ} (hc : aAt d h.1 h.2.1 y [] h R) (k : ∀ r h', R r h' → P (pc + 3) L (pu r s) h') : P pc L (s) h := call_s0 (x := 0) (z := 0) hP hl hs hc k
theorem ks0n {sa : aS} {d N S : Nat} {rt : Option FieldType} {cd : List (Nat × aI)} {P : aK} {Q : aQ} {pc : Nat} {L : aL} {h : aH} {s : List Value} {i len y w : Nat} (hP : aClo sa (aAt d) N S rt cd P Q) (hl : lkp cd pc = some (.invokestatic i, len, 11, y, 0, w)) (hs : s.length ≤ 4) {R : aQ} (hc : aAt d h.1 h.2.1 y [] h R) (k : ∀ r h', R r h' → P (pc + 3) L (pu r s) h') : P pc L (s) h := call_s0n (x := 0) (z := 0) hP hl hs hc k
theorem ks1 {sa : aS} {d N S : Nat} {rt : Option FieldType} {cd : List (Nat × aI)} {P : aK} {Q : aQ} {pc : Nat} {L : aL} {h : aH} {s : List Value} {v1 : Value} {i len y w : Nat} (hP : aClo sa (aAt d) N S rt cd P Q) (hl : lkp cd pc = some (.invokestatic i, len, 1, y, 1, w)) (hs : s.length ≤ 4) {R : aQ} (hc : aAt d h.1 h.2.1 y [v1] h R) (k : ∀ r h', R r h' → P (pc + 3) L (pu r s) h') : P pc L (v1 :: s) h := call_s1 (x := 0) (z := 0) hP hl hs hc k
theorem ks1n {sa : aS} {d N S : Nat} {rt : Option FieldType} {cd : List (Nat × aI)} {P : aK} {Q : aQ} {pc : Nat} {L : aL} {h : aH} {s : List Value} {v1 : Value} {i len y w : Nat} (hP : aClo sa (aAt d) N S rt cd P Q) (hl : lkp cd pc = some (.invokestatic i, len, 11, y, 1, w)) (hs : s.length ≤ 4) {R : aQ} (hc : aAt d h.1 h.2.1 y [v1] h R) (k : ∀ r h', R r h' → P (pc + 3) L (pu r s) h') : P pc L (v1 :: s) h := call_s1n (x := 0) (z := 0) hP hl hs hc k
theorem ks2 {sa : aS} {d N S : Nat} {rt : Option FieldType} {cd : List (Nat × aI)} {P : aK} {Q : aQ} {pc : Nat} {L : aL} {h : aH} {s : List Value} {v1 v2 : Value} {i len y w : Nat} (hP : aClo sa (aAt d) N S rt cd P Q) (hl : lkp cd pc = some (.invokestatic i, len, 1, y, 2, w)) (hs : s.length ≤ 4) {R : aQ} (hc : aAt d h.1 h.2.1 y [v1, v2] h R) (k : ∀ r h', R r h' → P (pc + 3) L (pu r s) h') : P pc L (v2 :: v1 :: s) h := call_s2 (x := 0) (z := 0) hP hl hs hc k
theorem ks2n {sa : aS} {d N S : Nat} {rt : Option FieldType} {cd : List (Nat × aI)} {P : aK} {Q : aQ} {pc : Nat} {L : aL} {h : aH} {s : List Value} {v1 v2 : Value} {i len y w : Nat} (hP : aClo sa (aAt d) N S rt cd P Q) (hl : lkp cd pc = some (.invokestatic i, len, 11, y, 2, w)) (hs : s.length ≤ 4) {R : aQ} (hc : aAt d h.1 h.2.1 y [v1, v2] h R) (k : ∀ r h', R r h' → P (pc + 3) L (pu r s) h') : P pc L (v2 :: v1 :: s) h := call_s2n (x := 0) (z := 0) hP hl hs hc k
theorem ks3 {sa : aS} {d N S : Nat} {rt : Option FieldType} {cd : List (Nat × aI)} {P : aK} {Q : aQ} {pc : Nat} {L : aL} {h : aH} {s : List Value} {v1 v2 v3 : Value} {i len y w : Nat} (hP : aClo sa (aAt d) N S rt cd P Q) (hl : lkp cd pc = some (.invokestatic i, len, 1, y, 3, w)) (hs : s.length ≤ 4) {R : aQ} (hc : aAt d h.1 h.2.1 y [v1, v2, v3] h R) (k : ∀ r h', R r h' → P (pc + 3) L (pu r s) h') : P pc L (v3 :: v2 :: v1 :: s) h := call_s3 (x := 0) (z := 0) hP hl hs hc k
theorem ks3n {sa : aS} {d N S : Nat} {rt : Option FieldType} {cd : List (Nat × aI)} {P : aK} {Q : aQ} {pc : Nat} {L : aL} {h : aH} {s : List Value} {v1 v2 v3 : Value} {i len y w : Nat} (hP : aClo sa (aAt d) N S rt cd P Q) (hl : lkp cd pc = some (.invokestatic i, len, 11, y, 3, w)) (hs : s.length ≤ 4) {R : aQ} (hc : aAt d h.1 h.2.1 y [v1, v2, v3] h R) (k : ∀ r h', R r h' → P (pc + 3) L (pu r s) h') : P pc L (v3 :: v2 :: v1 :: s) h := call_s3n (x := 0) (z := 0) hP hl hs hc k
theorem ks4 {sa : aS} {d N S : Nat} {rt : Option FieldType} {cd : List (Nat × aI)} {P : aK} {Q : aQ} {pc : Nat} {L : aL} {h : aH} {s : List Value} {v1 v2 v3 v4 : Value} {i len y w : Nat} (hP : aClo sa (aAt d) N S rt cd P Q) (hl : lkp cd pc = some (.invokestatic i, len, 1, y, 4, w)) (hs : s.length ≤ 4) {R : aQ} (hc : aAt d h.1 h.2.1 y [v1, v2, v3, v4] h R) (k : ∀ r h', R r h' → P (pc + 3) L (pu r s) h') : P pc L (v4 :: v3 :: v2 :: v1 :: s) h := call_s4 (x := 0) (z := 0) hP hl hs hc k
theorem ks4n {sa : aS} {d N S : Nat} {rt : Option FieldType} {cd : List (Nat × aI)} {P : aK} {Q : aQ} {pc : Nat} {L : aL} {h : aH} {s : List Value} {v1 v2 v3 v4 : Value} {i len y w : Nat} (hP : aClo sa (aAt d) N S rt cd P Q) (hl : lkp cd pc = some (.invokestatic i, len, 11, y, 4, w)) (hs : s.length ≤ 4) {R : aQ} (hc : aAt d h.1 h.2.1 y [v1, v2, v3, v4] h R) (k : ∀ r h', R r h' → P (pc + 3) L (pu r s) h') : P pc L (v4 :: v3 :: v2 :: v1 :: s) h := call_s4n (x := 0) (z := 0) hP hl hs hc k
theorem ks5 {sa : aS} {d N S : Nat} {rt : Option FieldType} {cd : List (Nat × aI)} {P : aK} {Q : aQ} {pc : Nat} {L : aL} {h : aH} {s : List Value} {v1 v2 v3 v4 v5 : Value} {i len y w : Nat} (hP : aClo sa (aAt d) N S rt cd P Q) (hl : lkp cd pc = some (.invokestatic i, len, 1, y, 5, w)) (hs : s.length ≤ 4) {R : aQ} (hc : aAt d h.1 h.2.1 y [v1, v2, v3, v4, v5] h R) (k : ∀ r h', R r h' → P (pc + 3) L (pu r s) h') : P pc L (v5 :: v4 :: v3 :: v2 :: v1 :: s) h := call_s5 (x := 0) (z := 0) hP hl hs hc k
theorem ks5n {sa : aS} {d N S : Nat} {rt : Option FieldType} {cd : List (Nat × aI)} {P : aK} {Q : aQ} {pc : Nat} {L : aL} {h : aH} {s : List Value} {v1 v2 v3 v4 v5 : Value} {i len y w : Nat} (hP : aClo sa (aAt d) N S rt cd P Q) (hl : lkp cd pc = some (.invokestatic i, len, 11, y, 5, w)) (hs : s.length ≤ 4) {R : aQ} (hc : aAt d h.1 h.2.1 y [v1, v2, v3, v4, v5] h R) (k : ∀ r h', R r h' → P (pc + 3) L (pu r s) h') : P pc L (v5 :: v4 :: v3 :: v2 :: v1 :: s) h := call_s5n (x := 0) (z := 0) hP hl hs hc k

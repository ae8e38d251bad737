/-! the reference as cells: the object at a, its rows behind it -/
def mLen (j : Nat) : Nat := match j with | 0 => 8 | 1 => 8 | 2 => 320 | 3 => 120 | 4 => 15 | 5 => 34 | 6 => 1 | 7 => 15 | 8 => 34 | 9 => 34 | 10 => 816 | 11 => 32 | 12 => 2 | 13 => 30 | 14 => 68 | 15 => 16 | _ => 0
def mTag (j : Nat) : Nat := if j = 12 then 1 else 0
def putM (h : aH) (a : Nat) (c : Cc) : aH := (h.1, h.2.1, fun q => if q = a then .inr (7, [.ref (a + 1), .ref (a + 2), .ref (a + 3), .int (c.1 0), .int (c.1 1), .ref (a + 4), .int (c.1 2), .int (c.1 3), .int (c.1 4), .int (c.1 5), .int (c.1 6), .int (c.1 7), .ref (a + 5), .ref (a + 6), .ref (a + 7), .int (c.1 8), .ref (a + 8), .ref (a + 9), .ref (a + 10), .int (c.1 9), .int (c.1 10), .int (c.1 11), .ref (a + 11), .ref (a + 12), .ref (a + 13), .ref (a + 14), .ref (a + 15), .int (c.1 12), .ref (a + 16)]) else if a < q ∧ q ≤ a + 16 then .inl (mTag (q - a - 1), mLen (q - a - 1), .inl (c.2 (q - a - 1))) else h.2.2 q)
theorem hOM {h : aH} {a : Nat} {c : Cc} (ha : a + 17 ≤ h.1) : hO (putM h a c) a 7 = some [.ref (a + 1), .ref (a + 2), .ref (a + 3), .int (c.1 0), .int (c.1 1), .ref (a + 4), .int (c.1 2), .int (c.1 3), .int (c.1 4), .int (c.1 5), .int (c.1 6), .int (c.1 7), .ref (a + 5), .ref (a + 6), .ref (a + 7), .int (c.1 8), .ref (a + 8), .ref (a + 9), .ref (a + 10), .int (c.1 9), .int (c.1 10), .int (c.1 11), .ref (a + 11), .ref (a + 12), .ref (a + 13), .ref (a + 14), .ref (a + 15), .int (c.1 12), .ref (a + 16)] := by
  have h1 : a < (putM h a c).1 := by show a < h.1; omega
  unfold hO
  rw [if_pos h1]
  simp [putM]
theorem mO {h : aH} {a : Nat} {c : Cc} {f : List Value → Prop} (ha : a + 17 ≤ h.1) : opt (hO (putM h a c) a 7) f = f [.ref (a + 1), .ref (a + 2), .ref (a + 3), .int (c.1 0), .int (c.1 1), .ref (a + 4), .int (c.1 2), .int (c.1 3), .int (c.1 4), .int (c.1 5), .int (c.1 6), .int (c.1 7), .ref (a + 5), .ref (a + 6), .ref (a + 7), .int (c.1 8), .ref (a + 8), .ref (a + 9), .ref (a + 10), .int (c.1 9), .int (c.1 10), .int (c.1 11), .ref (a + 11), .ref (a + 12), .ref (a + 13), .ref (a + 14), .ref (a + 15), .int (c.1 12), .ref (a + 16)] := opt_of (hOM ha)
theorem hS_M {h : aH} {a : Nat} {c : Cc} {g : Nat → Int32} (j : Nat) (hj : j < 16) : hS (putM h a c) (a + (j + 1)) (.inl (mTag j, mLen j, .inl g)) = putM h a (upA c j g) := by
  unfold hS putM
  refine congrArg (fun z => (h.1, h.2.1, z)) ?_
  funext q
  by_cases hq : q = a + (j + 1)
  · subst hq
    have h1 : ¬ a + (j + 1) = a := by omega
    have h2 : a < a + (j + 1) ∧ a + (j + 1) ≤ a + 16 := by omega
    have h3 : a + (j + 1) - a - 1 = j := by omega
    simp only [h1, h2, h3, if_true, if_false, and_self, upA]
  · have hne : ∀ (_ : a < q), ¬ q - a - 1 = j := fun _ _ => by omega
    simp only [hq, if_false]
    by_cases h0 : q = a
    · simp [h0, upA]
    · by_cases h5 : a < q ∧ q ≤ a + 16
      · simp [h0, h5, upA, hne h5.1]
      · simp [h0, h5]
theorem h_M0 {h : aH} {a : Nat} {c : Cc} (ha : a + 17 ≤ h.1) : hI (putM h a c) (a + 1) = some (8, c.2 0) := by
  have h1 : a + 1 < (putM h a c).1 := by show a + 1 < h.1; omega
  unfold hI
  rw [if_pos h1]
  simp [putM, mTag, mLen, show a + 1 - a - 1 = 0 by omega]
theorem mA0 {h : aH} {a : Nat} {c : Cc} {f : Nat × (Nat → Int32) → Prop} (ha : a + 17 ≤ h.1) : opt (hI (putM h a c) (a + 1)) f = f (8, c.2 0) := opt_of (h_M0 ha)
theorem nA0 {h : aH} {a : Nat} {c : Cc} {g : Nat → Int32} : hS (putM h a c) (a + 1) (.inl (0, 8, .inl g)) = putM h a (upA c 0 g) := hS_M 0 (by decide)
theorem h_M1 {h : aH} {a : Nat} {c : Cc} (ha : a + 17 ≤ h.1) : hI (putM h a c) (a + 2) = some (8, c.2 1) := by
  have h1 : a + 2 < (putM h a c).1 := by show a + 2 < h.1; omega
  unfold hI
  rw [if_pos h1]
  simp [putM, mTag, mLen, show a + 2 - a - 1 = 1 by omega]
theorem mA1 {h : aH} {a : Nat} {c : Cc} {f : Nat × (Nat → Int32) → Prop} (ha : a + 17 ≤ h.1) : opt (hI (putM h a c) (a + 2)) f = f (8, c.2 1) := opt_of (h_M1 ha)
theorem nA1 {h : aH} {a : Nat} {c : Cc} {g : Nat → Int32} : hS (putM h a c) (a + 2) (.inl (0, 8, .inl g)) = putM h a (upA c 1 g) := hS_M 1 (by decide)
theorem h_M2 {h : aH} {a : Nat} {c : Cc} (ha : a + 17 ≤ h.1) : hI (putM h a c) (a + 3) = some (320, c.2 2) := by
  have h1 : a + 3 < (putM h a c).1 := by show a + 3 < h.1; omega
  unfold hI
  rw [if_pos h1]
  simp [putM, mTag, mLen, show a + 3 - a - 1 = 2 by omega]
theorem mA2 {h : aH} {a : Nat} {c : Cc} {f : Nat × (Nat → Int32) → Prop} (ha : a + 17 ≤ h.1) : opt (hI (putM h a c) (a + 3)) f = f (320, c.2 2) := opt_of (h_M2 ha)
theorem nA2 {h : aH} {a : Nat} {c : Cc} {g : Nat → Int32} : hS (putM h a c) (a + 3) (.inl (0, 320, .inl g)) = putM h a (upA c 2 g) := hS_M 2 (by decide)
theorem h_M3 {h : aH} {a : Nat} {c : Cc} (ha : a + 17 ≤ h.1) : hI (putM h a c) (a + 4) = some (120, c.2 3) := by
  have h1 : a + 4 < (putM h a c).1 := by show a + 4 < h.1; omega
  unfold hI
  rw [if_pos h1]
  simp [putM, mTag, mLen, show a + 4 - a - 1 = 3 by omega]
theorem mA3 {h : aH} {a : Nat} {c : Cc} {f : Nat × (Nat → Int32) → Prop} (ha : a + 17 ≤ h.1) : opt (hI (putM h a c) (a + 4)) f = f (120, c.2 3) := opt_of (h_M3 ha)
theorem nA3 {h : aH} {a : Nat} {c : Cc} {g : Nat → Int32} : hS (putM h a c) (a + 4) (.inl (0, 120, .inl g)) = putM h a (upA c 3 g) := hS_M 3 (by decide)
theorem h_M4 {h : aH} {a : Nat} {c : Cc} (ha : a + 17 ≤ h.1) : hI (putM h a c) (a + 5) = some (15, c.2 4) := by
  have h1 : a + 5 < (putM h a c).1 := by show a + 5 < h.1; omega
  unfold hI
  rw [if_pos h1]
  simp [putM, mTag, mLen, show a + 5 - a - 1 = 4 by omega]
theorem mA4 {h : aH} {a : Nat} {c : Cc} {f : Nat × (Nat → Int32) → Prop} (ha : a + 17 ≤ h.1) : opt (hI (putM h a c) (a + 5)) f = f (15, c.2 4) := opt_of (h_M4 ha)
theorem nA4 {h : aH} {a : Nat} {c : Cc} {g : Nat → Int32} : hS (putM h a c) (a + 5) (.inl (0, 15, .inl g)) = putM h a (upA c 4 g) := hS_M 4 (by decide)
theorem h_M5 {h : aH} {a : Nat} {c : Cc} (ha : a + 17 ≤ h.1) : hI (putM h a c) (a + 6) = some (34, c.2 5) := by
  have h1 : a + 6 < (putM h a c).1 := by show a + 6 < h.1; omega
  unfold hI
  rw [if_pos h1]
  simp [putM, mTag, mLen, show a + 6 - a - 1 = 5 by omega]
theorem mA5 {h : aH} {a : Nat} {c : Cc} {f : Nat × (Nat → Int32) → Prop} (ha : a + 17 ≤ h.1) : opt (hI (putM h a c) (a + 6)) f = f (34, c.2 5) := opt_of (h_M5 ha)
theorem nA5 {h : aH} {a : Nat} {c : Cc} {g : Nat → Int32} : hS (putM h a c) (a + 6) (.inl (0, 34, .inl g)) = putM h a (upA c 5 g) := hS_M 5 (by decide)
theorem h_M6 {h : aH} {a : Nat} {c : Cc} (ha : a + 17 ≤ h.1) : hI (putM h a c) (a + 7) = some (1, c.2 6) := by
  have h1 : a + 7 < (putM h a c).1 := by show a + 7 < h.1; omega
  unfold hI
  rw [if_pos h1]
  simp [putM, mTag, mLen, show a + 7 - a - 1 = 6 by omega]
theorem mA6 {h : aH} {a : Nat} {c : Cc} {f : Nat × (Nat → Int32) → Prop} (ha : a + 17 ≤ h.1) : opt (hI (putM h a c) (a + 7)) f = f (1, c.2 6) := opt_of (h_M6 ha)
theorem nA6 {h : aH} {a : Nat} {c : Cc} {g : Nat → Int32} : hS (putM h a c) (a + 7) (.inl (0, 1, .inl g)) = putM h a (upA c 6 g) := hS_M 6 (by decide)
theorem h_M7 {h : aH} {a : Nat} {c : Cc} (ha : a + 17 ≤ h.1) : hI (putM h a c) (a + 8) = some (15, c.2 7) := by
  have h1 : a + 8 < (putM h a c).1 := by show a + 8 < h.1; omega
  unfold hI
  rw [if_pos h1]
  simp [putM, mTag, mLen, show a + 8 - a - 1 = 7 by omega]
theorem mA7 {h : aH} {a : Nat} {c : Cc} {f : Nat × (Nat → Int32) → Prop} (ha : a + 17 ≤ h.1) : opt (hI (putM h a c) (a + 8)) f = f (15, c.2 7) := opt_of (h_M7 ha)
theorem nA7 {h : aH} {a : Nat} {c : Cc} {g : Nat → Int32} : hS (putM h a c) (a + 8) (.inl (0, 15, .inl g)) = putM h a (upA c 7 g) := hS_M 7 (by decide)
theorem h_M8 {h : aH} {a : Nat} {c : Cc} (ha : a + 17 ≤ h.1) : hI (putM h a c) (a + 9) = some (34, c.2 8) := by
  have h1 : a + 9 < (putM h a c).1 := by show a + 9 < h.1; omega
  unfold hI
  rw [if_pos h1]
  simp [putM, mTag, mLen, show a + 9 - a - 1 = 8 by omega]
theorem mA8 {h : aH} {a : Nat} {c : Cc} {f : Nat × (Nat → Int32) → Prop} (ha : a + 17 ≤ h.1) : opt (hI (putM h a c) (a + 9)) f = f (34, c.2 8) := opt_of (h_M8 ha)
theorem nA8 {h : aH} {a : Nat} {c : Cc} {g : Nat → Int32} : hS (putM h a c) (a + 9) (.inl (0, 34, .inl g)) = putM h a (upA c 8 g) := hS_M 8 (by decide)
theorem h_M9 {h : aH} {a : Nat} {c : Cc} (ha : a + 17 ≤ h.1) : hI (putM h a c) (a + 10) = some (34, c.2 9) := by
  have h1 : a + 10 < (putM h a c).1 := by show a + 10 < h.1; omega
  unfold hI
  rw [if_pos h1]
  simp [putM, mTag, mLen, show a + 10 - a - 1 = 9 by omega]
theorem mA9 {h : aH} {a : Nat} {c : Cc} {f : Nat × (Nat → Int32) → Prop} (ha : a + 17 ≤ h.1) : opt (hI (putM h a c) (a + 10)) f = f (34, c.2 9) := opt_of (h_M9 ha)
theorem nA9 {h : aH} {a : Nat} {c : Cc} {g : Nat → Int32} : hS (putM h a c) (a + 10) (.inl (0, 34, .inl g)) = putM h a (upA c 9 g) := hS_M 9 (by decide)
theorem h_M10 {h : aH} {a : Nat} {c : Cc} (ha : a + 17 ≤ h.1) : hI (putM h a c) (a + 11) = some (816, c.2 10) := by
  have h1 : a + 11 < (putM h a c).1 := by show a + 11 < h.1; omega
  unfold hI
  rw [if_pos h1]
  simp [putM, mTag, mLen, show a + 11 - a - 1 = 10 by omega]
theorem mA10 {h : aH} {a : Nat} {c : Cc} {f : Nat × (Nat → Int32) → Prop} (ha : a + 17 ≤ h.1) : opt (hI (putM h a c) (a + 11)) f = f (816, c.2 10) := opt_of (h_M10 ha)
theorem nA10 {h : aH} {a : Nat} {c : Cc} {g : Nat → Int32} : hS (putM h a c) (a + 11) (.inl (0, 816, .inl g)) = putM h a (upA c 10 g) := hS_M 10 (by decide)
theorem h_M11 {h : aH} {a : Nat} {c : Cc} (ha : a + 17 ≤ h.1) : hI (putM h a c) (a + 12) = some (32, c.2 11) := by
  have h1 : a + 12 < (putM h a c).1 := by show a + 12 < h.1; omega
  unfold hI
  rw [if_pos h1]
  simp [putM, mTag, mLen, show a + 12 - a - 1 = 11 by omega]
theorem mA11 {h : aH} {a : Nat} {c : Cc} {f : Nat × (Nat → Int32) → Prop} (ha : a + 17 ≤ h.1) : opt (hI (putM h a c) (a + 12)) f = f (32, c.2 11) := opt_of (h_M11 ha)
theorem nA11 {h : aH} {a : Nat} {c : Cc} {g : Nat → Int32} : hS (putM h a c) (a + 12) (.inl (0, 32, .inl g)) = putM h a (upA c 11 g) := hS_M 11 (by decide)
theorem h_M12 {h : aH} {a : Nat} {c : Cc} (ha : a + 17 ≤ h.1) : hB (putM h a c) (a + 13) = some (2, c.2 12) := by
  have h1 : a + 13 < (putM h a c).1 := by show a + 13 < h.1; omega
  unfold hB
  rw [if_pos h1]
  simp [putM, mTag, mLen, show a + 13 - a - 1 = 12 by omega]
theorem mA12 {h : aH} {a : Nat} {c : Cc} {f : Nat × (Nat → Int32) → Prop} (ha : a + 17 ≤ h.1) : opt (hB (putM h a c) (a + 13)) f = f (2, c.2 12) := opt_of (h_M12 ha)
theorem nA12 {h : aH} {a : Nat} {c : Cc} {g : Nat → Int32} : hS (putM h a c) (a + 13) (.inl (1, 2, .inl g)) = putM h a (upA c 12 g) := hS_M 12 (by decide)
theorem h_M13 {h : aH} {a : Nat} {c : Cc} (ha : a + 17 ≤ h.1) : hI (putM h a c) (a + 14) = some (30, c.2 13) := by
  have h1 : a + 14 < (putM h a c).1 := by show a + 14 < h.1; omega
  unfold hI
  rw [if_pos h1]
  simp [putM, mTag, mLen, show a + 14 - a - 1 = 13 by omega]
theorem mA13 {h : aH} {a : Nat} {c : Cc} {f : Nat × (Nat → Int32) → Prop} (ha : a + 17 ≤ h.1) : opt (hI (putM h a c) (a + 14)) f = f (30, c.2 13) := opt_of (h_M13 ha)
theorem nA13 {h : aH} {a : Nat} {c : Cc} {g : Nat → Int32} : hS (putM h a c) (a + 14) (.inl (0, 30, .inl g)) = putM h a (upA c 13 g) := hS_M 13 (by decide)
theorem h_M14 {h : aH} {a : Nat} {c : Cc} (ha : a + 17 ≤ h.1) : hI (putM h a c) (a + 15) = some (68, c.2 14) := by
  have h1 : a + 15 < (putM h a c).1 := by show a + 15 < h.1; omega
  unfold hI
  rw [if_pos h1]
  simp [putM, mTag, mLen, show a + 15 - a - 1 = 14 by omega]
theorem mA14 {h : aH} {a : Nat} {c : Cc} {f : Nat × (Nat → Int32) → Prop} (ha : a + 17 ≤ h.1) : opt (hI (putM h a c) (a + 15)) f = f (68, c.2 14) := opt_of (h_M14 ha)
theorem nA14 {h : aH} {a : Nat} {c : Cc} {g : Nat → Int32} : hS (putM h a c) (a + 15) (.inl (0, 68, .inl g)) = putM h a (upA c 14 g) := hS_M 14 (by decide)
theorem h_M15 {h : aH} {a : Nat} {c : Cc} (ha : a + 17 ≤ h.1) : hI (putM h a c) (a + 16) = some (16, c.2 15) := by
  have h1 : a + 16 < (putM h a c).1 := by show a + 16 < h.1; omega
  unfold hI
  rw [if_pos h1]
  simp [putM, mTag, mLen, show a + 16 - a - 1 = 15 by omega]
theorem mA15 {h : aH} {a : Nat} {c : Cc} {f : Nat × (Nat → Int32) → Prop} (ha : a + 17 ≤ h.1) : opt (hI (putM h a c) (a + 16)) f = f (16, c.2 15) := opt_of (h_M15 ha)
theorem nA15 {h : aH} {a : Nat} {c : Cc} {g : Nat → Int32} : hS (putM h a c) (a + 16) (.inl (0, 16, .inl g)) = putM h a (upA c 15 g) := hS_M 15 (by decide)
theorem nS0 {h : aH} {a : Nat} {c : Cc} {v : Int32} : hS (putM h a c) a (.inr (7, [.ref (a + 1), .ref (a + 2), .ref (a + 3), .int v, .int (c.1 1), .ref (a + 4), .int (c.1 2), .int (c.1 3), .int (c.1 4), .int (c.1 5), .int (c.1 6), .int (c.1 7), .ref (a + 5), .ref (a + 6), .ref (a + 7), .int (c.1 8), .ref (a + 8), .ref (a + 9), .ref (a + 10), .int (c.1 9), .int (c.1 10), .int (c.1 11), .ref (a + 11), .ref (a + 12), .ref (a + 13), .ref (a + 14), .ref (a + 15), .int (c.1 12), .ref (a + 16)])) = putM h a (upS c 0 v) := by
  unfold hS putM
  refine congrArg (fun z => (h.1, h.2.1, z)) ?_
  funext q
  by_cases hq : q = a
  · simp [hq, upS]
  · simp [hq, upS]
theorem nS1 {h : aH} {a : Nat} {c : Cc} {v : Int32} : hS (putM h a c) a (.inr (7, [.ref (a + 1), .ref (a + 2), .ref (a + 3), .int (c.1 0), .int v, .ref (a + 4), .int (c.1 2), .int (c.1 3), .int (c.1 4), .int (c.1 5), .int (c.1 6), .int (c.1 7), .ref (a + 5), .ref (a + 6), .ref (a + 7), .int (c.1 8), .ref (a + 8), .ref (a + 9), .ref (a + 10), .int (c.1 9), .int (c.1 10), .int (c.1 11), .ref (a + 11), .ref (a + 12), .ref (a + 13), .ref (a + 14), .ref (a + 15), .int (c.1 12), .ref (a + 16)])) = putM h a (upS c 1 v) := by
  unfold hS putM
  refine congrArg (fun z => (h.1, h.2.1, z)) ?_
  funext q
  by_cases hq : q = a
  · simp [hq, upS]
  · simp [hq, upS]
theorem nS2 {h : aH} {a : Nat} {c : Cc} {v : Int32} : hS (putM h a c) a (.inr (7, [.ref (a + 1), .ref (a + 2), .ref (a + 3), .int (c.1 0), .int (c.1 1), .ref (a + 4), .int v, .int (c.1 3), .int (c.1 4), .int (c.1 5), .int (c.1 6), .int (c.1 7), .ref (a + 5), .ref (a + 6), .ref (a + 7), .int (c.1 8), .ref (a + 8), .ref (a + 9), .ref (a + 10), .int (c.1 9), .int (c.1 10), .int (c.1 11), .ref (a + 11), .ref (a + 12), .ref (a + 13), .ref (a + 14), .ref (a + 15), .int (c.1 12), .ref (a + 16)])) = putM h a (upS c 2 v) := by
  unfold hS putM
  refine congrArg (fun z => (h.1, h.2.1, z)) ?_
  funext q
  by_cases hq : q = a
  · simp [hq, upS]
  · simp [hq, upS]
theorem nS3 {h : aH} {a : Nat} {c : Cc} {v : Int32} : hS (putM h a c) a (.inr (7, [.ref (a + 1), .ref (a + 2), .ref (a + 3), .int (c.1 0), .int (c.1 1), .ref (a + 4), .int (c.1 2), .int v, .int (c.1 4), .int (c.1 5), .int (c.1 6), .int (c.1 7), .ref (a + 5), .ref (a + 6), .ref (a + 7), .int (c.1 8), .ref (a + 8), .ref (a + 9), .ref (a + 10), .int (c.1 9), .int (c.1 10), .int (c.1 11), .ref (a + 11), .ref (a + 12), .ref (a + 13), .ref (a + 14), .ref (a + 15), .int (c.1 12), .ref (a + 16)])) = putM h a (upS c 3 v) := by
  unfold hS putM
  refine congrArg (fun z => (h.1, h.2.1, z)) ?_
  funext q
  by_cases hq : q = a
  · simp [hq, upS]
  · simp [hq, upS]
theorem nS4 {h : aH} {a : Nat} {c : Cc} {v : Int32} : hS (putM h a c) a (.inr (7, [.ref (a + 1), .ref (a + 2), .ref (a + 3), .int (c.1 0), .int (c.1 1), .ref (a + 4), .int (c.1 2), .int (c.1 3), .int v, .int (c.1 5), .int (c.1 6), .int (c.1 7), .ref (a + 5), .ref (a + 6), .ref (a + 7), .int (c.1 8), .ref (a + 8), .ref (a + 9), .ref (a + 10), .int (c.1 9), .int (c.1 10), .int (c.1 11), .ref (a + 11), .ref (a + 12), .ref (a + 13), .ref (a + 14), .ref (a + 15), .int (c.1 12), .ref (a + 16)])) = putM h a (upS c 4 v) := by
  unfold hS putM
  refine congrArg (fun z => (h.1, h.2.1, z)) ?_
  funext q
  by_cases hq : q = a
  · simp [hq, upS]
  · simp [hq, upS]
theorem nS5 {h : aH} {a : Nat} {c : Cc} {v : Int32} : hS (putM h a c) a (.inr (7, [.ref (a + 1), .ref (a + 2), .ref (a + 3), .int (c.1 0), .int (c.1 1), .ref (a + 4), .int (c.1 2), .int (c.1 3), .int (c.1 4), .int v, .int (c.1 6), .int (c.1 7), .ref (a + 5), .ref (a + 6), .ref (a + 7), .int (c.1 8), .ref (a + 8), .ref (a + 9), .ref (a + 10), .int (c.1 9), .int (c.1 10), .int (c.1 11), .ref (a + 11), .ref (a + 12), .ref (a + 13), .ref (a + 14), .ref (a + 15), .int (c.1 12), .ref (a + 16)])) = putM h a (upS c 5 v) := by
  unfold hS putM
  refine congrArg (fun z => (h.1, h.2.1, z)) ?_
  funext q
  by_cases hq : q = a
  · simp [hq, upS]
  · simp [hq, upS]
theorem nS6 {h : aH} {a : Nat} {c : Cc} {v : Int32} : hS (putM h a c) a (.inr (7, [.ref (a + 1), .ref (a + 2), .ref (a + 3), .int (c.1 0), .int (c.1 1), .ref (a + 4), .int (c.1 2), .int (c.1 3), .int (c.1 4), .int (c.1 5), .int v, .int (c.1 7), .ref (a + 5), .ref (a + 6), .ref (a + 7), .int (c.1 8), .ref (a + 8), .ref (a + 9), .ref (a + 10), .int (c.1 9), .int (c.1 10), .int (c.1 11), .ref (a + 11), .ref (a + 12), .ref (a + 13), .ref (a + 14), .ref (a + 15), .int (c.1 12), .ref (a + 16)])) = putM h a (upS c 6 v) := by
  unfold hS putM
  refine congrArg (fun z => (h.1, h.2.1, z)) ?_
  funext q
  by_cases hq : q = a
  · simp [hq, upS]
  · simp [hq, upS]
theorem nS7 {h : aH} {a : Nat} {c : Cc} {v : Int32} : hS (putM h a c) a (.inr (7, [.ref (a + 1), .ref (a + 2), .ref (a + 3), .int (c.1 0), .int (c.1 1), .ref (a + 4), .int (c.1 2), .int (c.1 3), .int (c.1 4), .int (c.1 5), .int (c.1 6), .int v, .ref (a + 5), .ref (a + 6), .ref (a + 7), .int (c.1 8), .ref (a + 8), .ref (a + 9), .ref (a + 10), .int (c.1 9), .int (c.1 10), .int (c.1 11), .ref (a + 11), .ref (a + 12), .ref (a + 13), .ref (a + 14), .ref (a + 15), .int (c.1 12), .ref (a + 16)])) = putM h a (upS c 7 v) := by
  unfold hS putM
  refine congrArg (fun z => (h.1, h.2.1, z)) ?_
  funext q
  by_cases hq : q = a
  · simp [hq, upS]
  · simp [hq, upS]
theorem nS8 {h : aH} {a : Nat} {c : Cc} {v : Int32} : hS (putM h a c) a (.inr (7, [.ref (a + 1), .ref (a + 2), .ref (a + 3), .int (c.1 0), .int (c.1 1), .ref (a + 4), .int (c.1 2), .int (c.1 3), .int (c.1 4), .int (c.1 5), .int (c.1 6), .int (c.1 7), .ref (a + 5), .ref (a + 6), .ref (a + 7), .int v, .ref (a + 8), .ref (a + 9), .ref (a + 10), .int (c.1 9), .int (c.1 10), .int (c.1 11), .ref (a + 11), .ref (a + 12), .ref (a + 13), .ref (a + 14), .ref (a + 15), .int (c.1 12), .ref (a + 16)])) = putM h a (upS c 8 v) := by
  unfold hS putM
  refine congrArg (fun z => (h.1, h.2.1, z)) ?_
  funext q
  by_cases hq : q = a
  · simp [hq, upS]
  · simp [hq, upS]
theorem nS9 {h : aH} {a : Nat} {c : Cc} {v : Int32} : hS (putM h a c) a (.inr (7, [.ref (a + 1), .ref (a + 2), .ref (a + 3), .int (c.1 0), .int (c.1 1), .ref (a + 4), .int (c.1 2), .int (c.1 3), .int (c.1 4), .int (c.1 5), .int (c.1 6), .int (c.1 7), .ref (a + 5), .ref (a + 6), .ref (a + 7), .int (c.1 8), .ref (a + 8), .ref (a + 9), .ref (a + 10), .int v, .int (c.1 10), .int (c.1 11), .ref (a + 11), .ref (a + 12), .ref (a + 13), .ref (a + 14), .ref (a + 15), .int (c.1 12), .ref (a + 16)])) = putM h a (upS c 9 v) := by
  unfold hS putM
  refine congrArg (fun z => (h.1, h.2.1, z)) ?_
  funext q
  by_cases hq : q = a
  · simp [hq, upS]
  · simp [hq, upS]
theorem nS10 {h : aH} {a : Nat} {c : Cc} {v : Int32} : hS (putM h a c) a (.inr (7, [.ref (a + 1), .ref (a + 2), .ref (a + 3), .int (c.1 0), .int (c.1 1), .ref (a + 4), .int (c.1 2), .int (c.1 3), .int (c.1 4), .int (c.1 5), .int (c.1 6), .int (c.1 7), .ref (a + 5), .ref (a + 6), .ref (a + 7), .int (c.1 8), .ref (a + 8), .ref (a + 9), .ref (a + 10), .int (c.1 9), .int v, .int (c.1 11), .ref (a + 11), .ref (a + 12), .ref (a + 13), .ref (a + 14), .ref (a + 15), .int (c.1 12), .ref (a + 16)])) = putM h a (upS c 10 v) := by
  unfold hS putM
  refine congrArg (fun z => (h.1, h.2.1, z)) ?_
  funext q
  by_cases hq : q = a
  · simp [hq, upS]
  · simp [hq, upS]
theorem nS11 {h : aH} {a : Nat} {c : Cc} {v : Int32} : hS (putM h a c) a (.inr (7, [.ref (a + 1), .ref (a + 2), .ref (a + 3), .int (c.1 0), .int (c.1 1), .ref (a + 4), .int (c.1 2), .int (c.1 3), .int (c.1 4), .int (c.1 5), .int (c.1 6), .int (c.1 7), .ref (a + 5), .ref (a + 6), .ref (a + 7), .int (c.1 8), .ref (a + 8), .ref (a + 9), .ref (a + 10), .int (c.1 9), .int (c.1 10), .int v, .ref (a + 11), .ref (a + 12), .ref (a + 13), .ref (a + 14), .ref (a + 15), .int (c.1 12), .ref (a + 16)])) = putM h a (upS c 11 v) := by
  unfold hS putM
  refine congrArg (fun z => (h.1, h.2.1, z)) ?_
  funext q
  by_cases hq : q = a
  · simp [hq, upS]
  · simp [hq, upS]
theorem nS12 {h : aH} {a : Nat} {c : Cc} {v : Int32} : hS (putM h a c) a (.inr (7, [.ref (a + 1), .ref (a + 2), .ref (a + 3), .int (c.1 0), .int (c.1 1), .ref (a + 4), .int (c.1 2), .int (c.1 3), .int (c.1 4), .int (c.1 5), .int (c.1 6), .int (c.1 7), .ref (a + 5), .ref (a + 6), .ref (a + 7), .int (c.1 8), .ref (a + 8), .ref (a + 9), .ref (a + 10), .int (c.1 9), .int (c.1 10), .int (c.1 11), .ref (a + 11), .ref (a + 12), .ref (a + 13), .ref (a + 14), .ref (a + 15), .int v, .ref (a + 16)])) = putM h a (upS c 12 v) := by
  unfold hS putM
  refine congrArg (fun z => (h.1, h.2.1, z)) ?_
  funext q
  by_cases hq : q = a
  · simp [hq, upS]
  · simp [hq, upS]
theorem i_ixz {z : Int} {n : Nat} {f : Nat → Prop} (h0 : 0 ≤ z) (h1 : z < n) (hn : n ≤ 1000000) : ix (Int32.ofInt z) n f = f z.toNat := by
  obtain ⟨j, rfl⟩ := Int.eq_ofNat_of_zero_le h0
  rw [i_ix (by omega) hn]
  rfl
theorem tn_n (a : Nat) : ((a : Int)).toNat = a := rfl
theorem tn_l (n : Nat) : (OfNat.ofNat n : Int).toNat = OfNat.ofNat n := rfl
theorem tn_a (n a : Nat) : ((OfNat.ofNat n : Int) + (a : Int)).toNat = (OfNat.ofNat n : Nat) + a := rfl
theorem upd_s {f : Nat → Int32} {i : Nat} {v : Int32} : upd f i v i = v := by simp [upd]
theorem upd_n {f : Nat → Int32} {i j : Nat} {v : Int32} (h : j ≠ i) : upd f i v j = f j := by simp [upd, h]
theorem br_T {a b : Prop} : br True a b = a := by simp [br]
theorem br_F {a b : Prop} : br False a b = b := by simp [br]

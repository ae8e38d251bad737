theorem mAJW {h : aH} {a J : Nat} {c : Cc} {f : Nat × (Nat → Int32) → Prop} {w : Wt f} (ha : a + 17 ≤ h.1) (hJ : J = 8 ∨ J = 9) : optW (hI (putM h a c) (a + (J + 1))) f w = f (34, c.2 J) := mAJ ha hJ
theorem upA_upA {c : Cc} {j : Nat} {g g' : Nat → Int32} : upA (upA c j g) j g' = upA c j g' := by
  unfold upA
  refine Prod.ext rfl ?_
  funext x
  by_cases hx : x = j
  · simp [hx]
  · simp [hx]
theorem upS_upS {c : Cc} {j : Nat} {v v' : Int32} : upS (upS c j v) j v' = upS c j v' := by
  unfold upS
  refine Prod.ext ?_ rfl
  funext x
  by_cases hx : x = j
  · simp [hx]
  · simp [hx]
theorem i_sm1 {a : Int} : a + -1 = a - 1 := rfl

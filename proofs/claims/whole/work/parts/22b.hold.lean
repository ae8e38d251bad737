theorem mAJW {h : aH} {a J : Nat} {c : Cc} {f : Nat × (Nat → Int32) → Prop} {w : Wt f} (ha : a + 17 ≤ h.1) (hJ : J = 8 ∨ J = 9) : optW (hI (putM h a c) (a + (J + 1))) f w = f (34, c.2 J) := mAJ ha hJ

/-! all scalars at once -/
def setM (c : Cc) (x0 x1 x2 x3 x4 x5 x6 x7 x8 x9 x10 x11 x12 : Int32) : Cc := (fun j => if j = 0 then x0 else if j = 1 then x1 else if j = 2 then x2 else if j = 3 then x3 else if j = 4 then x4 else if j = 5 then x5 else if j = 6 then x6 else if j = 7 then x7 else if j = 8 then x8 else if j = 9 then x9 else if j = 10 then x10 else if j = 11 then x11 else if j = 12 then x12 else c.1 j, c.2)
theorem setM_0 {c : Cc} {x0 x1 x2 x3 x4 x5 x6 x7 x8 x9 x10 x11 x12 : Int32} : (setM c x0 x1 x2 x3 x4 x5 x6 x7 x8 x9 x10 x11 x12).1 0 = x0 := by simp [setM]
theorem setM_1 {c : Cc} {x0 x1 x2 x3 x4 x5 x6 x7 x8 x9 x10 x11 x12 : Int32} : (setM c x0 x1 x2 x3 x4 x5 x6 x7 x8 x9 x10 x11 x12).1 1 = x1 := by simp [setM]
theorem setM_2 {c : Cc} {x0 x1 x2 x3 x4 x5 x6 x7 x8 x9 x10 x11 x12 : Int32} : (setM c x0 x1 x2 x3 x4 x5 x6 x7 x8 x9 x10 x11 x12).1 2 = x2 := by simp [setM]
theorem setM_3 {c : Cc} {x0 x1 x2 x3 x4 x5 x6 x7 x8 x9 x10 x11 x12 : Int32} : (setM c x0 x1 x2 x3 x4 x5 x6 x7 x8 x9 x10 x11 x12).1 3 = x3 := by simp [setM]
theorem setM_4 {c : Cc} {x0 x1 x2 x3 x4 x5 x6 x7 x8 x9 x10 x11 x12 : Int32} : (setM c x0 x1 x2 x3 x4 x5 x6 x7 x8 x9 x10 x11 x12).1 4 = x4 := by simp [setM]
theorem setM_5 {c : Cc} {x0 x1 x2 x3 x4 x5 x6 x7 x8 x9 x10 x11 x12 : Int32} : (setM c x0 x1 x2 x3 x4 x5 x6 x7 x8 x9 x10 x11 x12).1 5 = x5 := by simp [setM]
theorem setM_6 {c : Cc} {x0 x1 x2 x3 x4 x5 x6 x7 x8 x9 x10 x11 x12 : Int32} : (setM c x0 x1 x2 x3 x4 x5 x6 x7 x8 x9 x10 x11 x12).1 6 = x6 := by simp [setM]
theorem setM_7 {c : Cc} {x0 x1 x2 x3 x4 x5 x6 x7 x8 x9 x10 x11 x12 : Int32} : (setM c x0 x1 x2 x3 x4 x5 x6 x7 x8 x9 x10 x11 x12).1 7 = x7 := by simp [setM]
theorem setM_8 {c : Cc} {x0 x1 x2 x3 x4 x5 x6 x7 x8 x9 x10 x11 x12 : Int32} : (setM c x0 x1 x2 x3 x4 x5 x6 x7 x8 x9 x10 x11 x12).1 8 = x8 := by simp [setM]
theorem setM_9 {c : Cc} {x0 x1 x2 x3 x4 x5 x6 x7 x8 x9 x10 x11 x12 : Int32} : (setM c x0 x1 x2 x3 x4 x5 x6 x7 x8 x9 x10 x11 x12).1 9 = x9 := by simp [setM]
theorem setM_10 {c : Cc} {x0 x1 x2 x3 x4 x5 x6 x7 x8 x9 x10 x11 x12 : Int32} : (setM c x0 x1 x2 x3 x4 x5 x6 x7 x8 x9 x10 x11 x12).1 10 = x10 := by simp [setM]
theorem setM_11 {c : Cc} {x0 x1 x2 x3 x4 x5 x6 x7 x8 x9 x10 x11 x12 : Int32} : (setM c x0 x1 x2 x3 x4 x5 x6 x7 x8 x9 x10 x11 x12).1 11 = x11 := by simp [setM]
theorem setM_12 {c : Cc} {x0 x1 x2 x3 x4 x5 x6 x7 x8 x9 x10 x11 x12 : Int32} : (setM c x0 x1 x2 x3 x4 x5 x6 x7 x8 x9 x10 x11 x12).1 12 = x12 := by simp [setM]
theorem setM_r {c : Cc} {x0 x1 x2 x3 x4 x5 x6 x7 x8 x9 x10 x11 x12 : Int32} : (setM c x0 x1 x2 x3 x4 x5 x6 x7 x8 x9 x10 x11 x12).2 = c.2 := rfl
theorem setM_s {c : Cc} {x0 x1 x2 x3 x4 x5 x6 x7 x8 x9 x10 x11 x12 y0 y1 y2 y3 y4 y5 y6 y7 y8 y9 y10 y11 y12 : Int32} : setM (setM c x0 x1 x2 x3 x4 x5 x6 x7 x8 x9 x10 x11 x12) y0 y1 y2 y3 y4 y5 y6 y7 y8 y9 y10 y11 y12 = setM c y0 y1 y2 y3 y4 y5 y6 y7 y8 y9 y10 y11 y12 := by
  unfold setM
  refine Prod.ext ?_ rfl
  funext j
  dsimp only
  rcases Nat.lt_or_ge j 13 with hj | hj
  · match j, hj with
    | 0, _ => simp
    | 1, _ => simp
    | 2, _ => simp
    | 3, _ => simp
    | 4, _ => simp
    | 5, _ => simp
    | 6, _ => simp
    | 7, _ => simp
    | 8, _ => simp
    | 9, _ => simp
    | 10, _ => simp
    | 11, _ => simp
    | 12, _ => simp
    | q + 13, hj => omega
  · simp (disch := omega) only [if_neg]
theorem setM_u {c : Cc} {k : Nat} {v x0 x1 x2 x3 x4 x5 x6 x7 x8 x9 x10 x11 x12 : Int32} (hk : k < 13) : setM (upS c k v) x0 x1 x2 x3 x4 x5 x6 x7 x8 x9 x10 x11 x12 = setM c x0 x1 x2 x3 x4 x5 x6 x7 x8 x9 x10 x11 x12 := by
  unfold setM upS
  refine Prod.ext ?_ rfl
  funext j
  dsimp only
  rcases Nat.lt_or_ge j 13 with hj | hj
  · match j, hj with
    | 0, _ => simp
    | 1, _ => simp
    | 2, _ => simp
    | 3, _ => simp
    | 4, _ => simp
    | 5, _ => simp
    | 6, _ => simp
    | 7, _ => simp
    | 8, _ => simp
    | 9, _ => simp
    | 10, _ => simp
    | 11, _ => simp
    | 12, _ => simp
    | q + 13, hj => omega
  · simp (disch := omega) only [if_neg]
theorem setM_A {c : Cc} {k : Nat} {g : Nat → Int32} {x0 x1 x2 x3 x4 x5 x6 x7 x8 x9 x10 x11 x12 : Int32} : setM (upA c k g) x0 x1 x2 x3 x4 x5 x6 x7 x8 x9 x10 x11 x12 = upA (setM c x0 x1 x2 x3 x4 x5 x6 x7 x8 x9 x10 x11 x12) k g := rfl
theorem setM_t0 {c : Cc} {v : Int32} : setM c v (c.1 1) (c.1 2) (c.1 3) (c.1 4) (c.1 5) (c.1 6) (c.1 7) (c.1 8) (c.1 9) (c.1 10) (c.1 11) (c.1 12) = upS c 0 v := by
  unfold setM upS
  refine Prod.ext ?_ rfl
  funext j
  dsimp only
  rcases Nat.lt_or_ge j 13 with hj | hj
  · match j, hj with
    | 0, _ => simp
    | 1, _ => simp
    | 2, _ => simp
    | 3, _ => simp
    | 4, _ => simp
    | 5, _ => simp
    | 6, _ => simp
    | 7, _ => simp
    | 8, _ => simp
    | 9, _ => simp
    | 10, _ => simp
    | 11, _ => simp
    | 12, _ => simp
    | k + 13, hj => omega
  · simp (disch := omega) only [if_neg]
theorem setM_t1 {c : Cc} {v : Int32} : setM c (c.1 0) v (c.1 2) (c.1 3) (c.1 4) (c.1 5) (c.1 6) (c.1 7) (c.1 8) (c.1 9) (c.1 10) (c.1 11) (c.1 12) = upS c 1 v := by
  unfold setM upS
  refine Prod.ext ?_ rfl
  funext j
  dsimp only
  rcases Nat.lt_or_ge j 13 with hj | hj
  · match j, hj with
    | 0, _ => simp
    | 1, _ => simp
    | 2, _ => simp
    | 3, _ => simp
    | 4, _ => simp
    | 5, _ => simp
    | 6, _ => simp
    | 7, _ => simp
    | 8, _ => simp
    | 9, _ => simp
    | 10, _ => simp
    | 11, _ => simp
    | 12, _ => simp
    | k + 13, hj => omega
  · simp (disch := omega) only [if_neg]
theorem setM_t2 {c : Cc} {v : Int32} : setM c (c.1 0) (c.1 1) v (c.1 3) (c.1 4) (c.1 5) (c.1 6) (c.1 7) (c.1 8) (c.1 9) (c.1 10) (c.1 11) (c.1 12) = upS c 2 v := by
  unfold setM upS
  refine Prod.ext ?_ rfl
  funext j
  dsimp only
  rcases Nat.lt_or_ge j 13 with hj | hj
  · match j, hj with
    | 0, _ => simp
    | 1, _ => simp
    | 2, _ => simp
    | 3, _ => simp
    | 4, _ => simp
    | 5, _ => simp
    | 6, _ => simp
    | 7, _ => simp
    | 8, _ => simp
    | 9, _ => simp
    | 10, _ => simp
    | 11, _ => simp
    | 12, _ => simp
    | k + 13, hj => omega
  · simp (disch := omega) only [if_neg]
theorem setM_t3 {c : Cc} {v : Int32} : setM c (c.1 0) (c.1 1) (c.1 2) v (c.1 4) (c.1 5) (c.1 6) (c.1 7) (c.1 8) (c.1 9) (c.1 10) (c.1 11) (c.1 12) = upS c 3 v := by
  unfold setM upS
  refine Prod.ext ?_ rfl
  funext j
  dsimp only
  rcases Nat.lt_or_ge j 13 with hj | hj
  · match j, hj with
    | 0, _ => simp
    | 1, _ => simp
    | 2, _ => simp
    | 3, _ => simp
    | 4, _ => simp
    | 5, _ => simp
    | 6, _ => simp
    | 7, _ => simp
    | 8, _ => simp
    | 9, _ => simp
    | 10, _ => simp
    | 11, _ => simp
    | 12, _ => simp
    | k + 13, hj => omega
  · simp (disch := omega) only [if_neg]
theorem setM_t4 {c : Cc} {v : Int32} : setM c (c.1 0) (c.1 1) (c.1 2) (c.1 3) v (c.1 5) (c.1 6) (c.1 7) (c.1 8) (c.1 9) (c.1 10) (c.1 11) (c.1 12) = upS c 4 v := by
  unfold setM upS
  refine Prod.ext ?_ rfl
  funext j
  dsimp only
  rcases Nat.lt_or_ge j 13 with hj | hj
  · match j, hj with
    | 0, _ => simp
    | 1, _ => simp
    | 2, _ => simp
    | 3, _ => simp
    | 4, _ => simp
    | 5, _ => simp
    | 6, _ => simp
    | 7, _ => simp
    | 8, _ => simp
    | 9, _ => simp
    | 10, _ => simp
    | 11, _ => simp
    | 12, _ => simp
    | k + 13, hj => omega
  · simp (disch := omega) only [if_neg]
theorem setM_t5 {c : Cc} {v : Int32} : setM c (c.1 0) (c.1 1) (c.1 2) (c.1 3) (c.1 4) v (c.1 6) (c.1 7) (c.1 8) (c.1 9) (c.1 10) (c.1 11) (c.1 12) = upS c 5 v := by
  unfold setM upS
  refine Prod.ext ?_ rfl
  funext j
  dsimp only
  rcases Nat.lt_or_ge j 13 with hj | hj
  · match j, hj with
    | 0, _ => simp
    | 1, _ => simp
    | 2, _ => simp
    | 3, _ => simp
    | 4, _ => simp
    | 5, _ => simp
    | 6, _ => simp
    | 7, _ => simp
    | 8, _ => simp
    | 9, _ => simp
    | 10, _ => simp
    | 11, _ => simp
    | 12, _ => simp
    | k + 13, hj => omega
  · simp (disch := omega) only [if_neg]
theorem setM_t6 {c : Cc} {v : Int32} : setM c (c.1 0) (c.1 1) (c.1 2) (c.1 3) (c.1 4) (c.1 5) v (c.1 7) (c.1 8) (c.1 9) (c.1 10) (c.1 11) (c.1 12) = upS c 6 v := by
  unfold setM upS
  refine Prod.ext ?_ rfl
  funext j
  dsimp only
  rcases Nat.lt_or_ge j 13 with hj | hj
  · match j, hj with
    | 0, _ => simp
    | 1, _ => simp
    | 2, _ => simp
    | 3, _ => simp
    | 4, _ => simp
    | 5, _ => simp
    | 6, _ => simp
    | 7, _ => simp
    | 8, _ => simp
    | 9, _ => simp
    | 10, _ => simp
    | 11, _ => simp
    | 12, _ => simp
    | k + 13, hj => omega
  · simp (disch := omega) only [if_neg]
theorem setM_t7 {c : Cc} {v : Int32} : setM c (c.1 0) (c.1 1) (c.1 2) (c.1 3) (c.1 4) (c.1 5) (c.1 6) v (c.1 8) (c.1 9) (c.1 10) (c.1 11) (c.1 12) = upS c 7 v := by
  unfold setM upS
  refine Prod.ext ?_ rfl
  funext j
  dsimp only
  rcases Nat.lt_or_ge j 13 with hj | hj
  · match j, hj with
    | 0, _ => simp
    | 1, _ => simp
    | 2, _ => simp
    | 3, _ => simp
    | 4, _ => simp
    | 5, _ => simp
    | 6, _ => simp
    | 7, _ => simp
    | 8, _ => simp
    | 9, _ => simp
    | 10, _ => simp
    | 11, _ => simp
    | 12, _ => simp
    | k + 13, hj => omega
  · simp (disch := omega) only [if_neg]
theorem setM_t8 {c : Cc} {v : Int32} : setM c (c.1 0) (c.1 1) (c.1 2) (c.1 3) (c.1 4) (c.1 5) (c.1 6) (c.1 7) v (c.1 9) (c.1 10) (c.1 11) (c.1 12) = upS c 8 v := by
  unfold setM upS
  refine Prod.ext ?_ rfl
  funext j
  dsimp only
  rcases Nat.lt_or_ge j 13 with hj | hj
  · match j, hj with
    | 0, _ => simp
    | 1, _ => simp
    | 2, _ => simp
    | 3, _ => simp
    | 4, _ => simp
    | 5, _ => simp
    | 6, _ => simp
    | 7, _ => simp
    | 8, _ => simp
    | 9, _ => simp
    | 10, _ => simp
    | 11, _ => simp
    | 12, _ => simp
    | k + 13, hj => omega
  · simp (disch := omega) only [if_neg]
theorem setM_t9 {c : Cc} {v : Int32} : setM c (c.1 0) (c.1 1) (c.1 2) (c.1 3) (c.1 4) (c.1 5) (c.1 6) (c.1 7) (c.1 8) v (c.1 10) (c.1 11) (c.1 12) = upS c 9 v := by
  unfold setM upS
  refine Prod.ext ?_ rfl
  funext j
  dsimp only
  rcases Nat.lt_or_ge j 13 with hj | hj
  · match j, hj with
    | 0, _ => simp
    | 1, _ => simp
    | 2, _ => simp
    | 3, _ => simp
    | 4, _ => simp
    | 5, _ => simp
    | 6, _ => simp
    | 7, _ => simp
    | 8, _ => simp
    | 9, _ => simp
    | 10, _ => simp
    | 11, _ => simp
    | 12, _ => simp
    | k + 13, hj => omega
  · simp (disch := omega) only [if_neg]
theorem setM_t10 {c : Cc} {v : Int32} : setM c (c.1 0) (c.1 1) (c.1 2) (c.1 3) (c.1 4) (c.1 5) (c.1 6) (c.1 7) (c.1 8) (c.1 9) v (c.1 11) (c.1 12) = upS c 10 v := by
  unfold setM upS
  refine Prod.ext ?_ rfl
  funext j
  dsimp only
  rcases Nat.lt_or_ge j 13 with hj | hj
  · match j, hj with
    | 0, _ => simp
    | 1, _ => simp
    | 2, _ => simp
    | 3, _ => simp
    | 4, _ => simp
    | 5, _ => simp
    | 6, _ => simp
    | 7, _ => simp
    | 8, _ => simp
    | 9, _ => simp
    | 10, _ => simp
    | 11, _ => simp
    | 12, _ => simp
    | k + 13, hj => omega
  · simp (disch := omega) only [if_neg]
theorem setM_t11 {c : Cc} {v : Int32} : setM c (c.1 0) (c.1 1) (c.1 2) (c.1 3) (c.1 4) (c.1 5) (c.1 6) (c.1 7) (c.1 8) (c.1 9) (c.1 10) v (c.1 12) = upS c 11 v := by
  unfold setM upS
  refine Prod.ext ?_ rfl
  funext j
  dsimp only
  rcases Nat.lt_or_ge j 13 with hj | hj
  · match j, hj with
    | 0, _ => simp
    | 1, _ => simp
    | 2, _ => simp
    | 3, _ => simp
    | 4, _ => simp
    | 5, _ => simp
    | 6, _ => simp
    | 7, _ => simp
    | 8, _ => simp
    | 9, _ => simp
    | 10, _ => simp
    | 11, _ => simp
    | 12, _ => simp
    | k + 13, hj => omega
  · simp (disch := omega) only [if_neg]
theorem setM_t12 {c : Cc} {v : Int32} : setM c (c.1 0) (c.1 1) (c.1 2) (c.1 3) (c.1 4) (c.1 5) (c.1 6) (c.1 7) (c.1 8) (c.1 9) (c.1 10) (c.1 11) v = upS c 12 v := by
  unfold setM upS
  refine Prod.ext ?_ rfl
  funext j
  dsimp only
  rcases Nat.lt_or_ge j 13 with hj | hj
  · match j, hj with
    | 0, _ => simp
    | 1, _ => simp
    | 2, _ => simp
    | 3, _ => simp
    | 4, _ => simp
    | 5, _ => simp
    | 6, _ => simp
    | 7, _ => simp
    | 8, _ => simp
    | 9, _ => simp
    | 10, _ => simp
    | 11, _ => simp
    | 12, _ => simp
    | k + 13, hj => omega
  · simp (disch := omega) only [if_neg]
theorem nSx {h : aH} {a : Nat} {c : Cc} {x0 x1 x2 x3 x4 x5 x6 x7 x8 x9 x10 x11 x12 : Int32} : hS (putM h a c) a (.inr (7, [.ref (a + 1), .ref (a + 2), .ref (a + 3), .int x0, .int x1, .ref (a + 4), .int x2, .int x3, .int x4, .int x5, .int x6, .int x7, .ref (a + 5), .ref (a + 6), .ref (a + 7), .int x8, .ref (a + 8), .ref (a + 9), .ref (a + 10), .int x9, .int x10, .int x11, .ref (a + 11), .ref (a + 12), .ref (a + 13), .ref (a + 14), .ref (a + 15), .int x12, .ref (a + 16)])) = putM h a (setM c x0 x1 x2 x3 x4 x5 x6 x7 x8 x9 x10 x11 x12) := by
  unfold hS putM
  refine congrArg (fun z => (h.1, h.2.1, z)) ?_
  funext q
  by_cases hq : q = a
  · simp [hq, setM]
  · simp [hq, setM]
def setC (c : Cc) (x0 x1 x2 x3 x4 x5 x6 : Int32) : Cc := (fun j => if j = 0 then x0 else if j = 1 then x1 else if j = 2 then x2 else if j = 3 then x3 else if j = 4 then x4 else if j = 5 then x5 else if j = 6 then x6 else c.1 j, c.2)
theorem setC_0 {c : Cc} {x0 x1 x2 x3 x4 x5 x6 : Int32} : (setC c x0 x1 x2 x3 x4 x5 x6).1 0 = x0 := by simp [setC]
theorem setC_1 {c : Cc} {x0 x1 x2 x3 x4 x5 x6 : Int32} : (setC c x0 x1 x2 x3 x4 x5 x6).1 1 = x1 := by simp [setC]
theorem setC_2 {c : Cc} {x0 x1 x2 x3 x4 x5 x6 : Int32} : (setC c x0 x1 x2 x3 x4 x5 x6).1 2 = x2 := by simp [setC]
theorem setC_3 {c : Cc} {x0 x1 x2 x3 x4 x5 x6 : Int32} : (setC c x0 x1 x2 x3 x4 x5 x6).1 3 = x3 := by simp [setC]
theorem setC_4 {c : Cc} {x0 x1 x2 x3 x4 x5 x6 : Int32} : (setC c x0 x1 x2 x3 x4 x5 x6).1 4 = x4 := by simp [setC]
theorem setC_5 {c : Cc} {x0 x1 x2 x3 x4 x5 x6 : Int32} : (setC c x0 x1 x2 x3 x4 x5 x6).1 5 = x5 := by simp [setC]
theorem setC_6 {c : Cc} {x0 x1 x2 x3 x4 x5 x6 : Int32} : (setC c x0 x1 x2 x3 x4 x5 x6).1 6 = x6 := by simp [setC]
theorem setC_r {c : Cc} {x0 x1 x2 x3 x4 x5 x6 : Int32} : (setC c x0 x1 x2 x3 x4 x5 x6).2 = c.2 := rfl
theorem setC_s {c : Cc} {x0 x1 x2 x3 x4 x5 x6 y0 y1 y2 y3 y4 y5 y6 : Int32} : setC (setC c x0 x1 x2 x3 x4 x5 x6) y0 y1 y2 y3 y4 y5 y6 = setC c y0 y1 y2 y3 y4 y5 y6 := by
  unfold setC
  refine Prod.ext ?_ rfl
  funext j
  dsimp only
  rcases Nat.lt_or_ge j 7 with hj | hj
  · match j, hj with
    | 0, _ => simp
    | 1, _ => simp
    | 2, _ => simp
    | 3, _ => simp
    | 4, _ => simp
    | 5, _ => simp
    | 6, _ => simp
    | q + 7, hj => omega
  · simp (disch := omega) only [if_neg]
theorem setC_u {c : Cc} {k : Nat} {v x0 x1 x2 x3 x4 x5 x6 : Int32} (hk : k < 7) : setC (upS c k v) x0 x1 x2 x3 x4 x5 x6 = setC c x0 x1 x2 x3 x4 x5 x6 := by
  unfold setC upS
  refine Prod.ext ?_ rfl
  funext j
  dsimp only
  rcases Nat.lt_or_ge j 7 with hj | hj
  · match j, hj with
    | 0, _ => simp
    | 1, _ => simp
    | 2, _ => simp
    | 3, _ => simp
    | 4, _ => simp
    | 5, _ => simp
    | 6, _ => simp
    | q + 7, hj => omega
  · simp (disch := omega) only [if_neg]
theorem setC_A {c : Cc} {k : Nat} {g : Nat → Int32} {x0 x1 x2 x3 x4 x5 x6 : Int32} : setC (upA c k g) x0 x1 x2 x3 x4 x5 x6 = upA (setC c x0 x1 x2 x3 x4 x5 x6) k g := rfl
theorem setC_t0 {c : Cc} {v : Int32} : setC c v (c.1 1) (c.1 2) (c.1 3) (c.1 4) (c.1 5) (c.1 6) = upS c 0 v := by
  unfold setC upS
  refine Prod.ext ?_ rfl
  funext j
  dsimp only
  rcases Nat.lt_or_ge j 7 with hj | hj
  · match j, hj with
    | 0, _ => simp
    | 1, _ => simp
    | 2, _ => simp
    | 3, _ => simp
    | 4, _ => simp
    | 5, _ => simp
    | 6, _ => simp
    | k + 7, hj => omega
  · simp (disch := omega) only [if_neg]
theorem setC_t1 {c : Cc} {v : Int32} : setC c (c.1 0) v (c.1 2) (c.1 3) (c.1 4) (c.1 5) (c.1 6) = upS c 1 v := by
  unfold setC upS
  refine Prod.ext ?_ rfl
  funext j
  dsimp only
  rcases Nat.lt_or_ge j 7 with hj | hj
  · match j, hj with
    | 0, _ => simp
    | 1, _ => simp
    | 2, _ => simp
    | 3, _ => simp
    | 4, _ => simp
    | 5, _ => simp
    | 6, _ => simp
    | k + 7, hj => omega
  · simp (disch := omega) only [if_neg]
theorem setC_t2 {c : Cc} {v : Int32} : setC c (c.1 0) (c.1 1) v (c.1 3) (c.1 4) (c.1 5) (c.1 6) = upS c 2 v := by
  unfold setC upS
  refine Prod.ext ?_ rfl
  funext j
  dsimp only
  rcases Nat.lt_or_ge j 7 with hj | hj
  · match j, hj with
    | 0, _ => simp
    | 1, _ => simp
    | 2, _ => simp
    | 3, _ => simp
    | 4, _ => simp
    | 5, _ => simp
    | 6, _ => simp
    | k + 7, hj => omega
  · simp (disch := omega) only [if_neg]
theorem setC_t3 {c : Cc} {v : Int32} : setC c (c.1 0) (c.1 1) (c.1 2) v (c.1 4) (c.1 5) (c.1 6) = upS c 3 v := by
  unfold setC upS
  refine Prod.ext ?_ rfl
  funext j
  dsimp only
  rcases Nat.lt_or_ge j 7 with hj | hj
  · match j, hj with
    | 0, _ => simp
    | 1, _ => simp
    | 2, _ => simp
    | 3, _ => simp
    | 4, _ => simp
    | 5, _ => simp
    | 6, _ => simp
    | k + 7, hj => omega
  · simp (disch := omega) only [if_neg]
theorem setC_t4 {c : Cc} {v : Int32} : setC c (c.1 0) (c.1 1) (c.1 2) (c.1 3) v (c.1 5) (c.1 6) = upS c 4 v := by
  unfold setC upS
  refine Prod.ext ?_ rfl
  funext j
  dsimp only
  rcases Nat.lt_or_ge j 7 with hj | hj
  · match j, hj with
    | 0, _ => simp
    | 1, _ => simp
    | 2, _ => simp
    | 3, _ => simp
    | 4, _ => simp
    | 5, _ => simp
    | 6, _ => simp
    | k + 7, hj => omega
  · simp (disch := omega) only [if_neg]
theorem setC_t5 {c : Cc} {v : Int32} : setC c (c.1 0) (c.1 1) (c.1 2) (c.1 3) (c.1 4) v (c.1 6) = upS c 5 v := by
  unfold setC upS
  refine Prod.ext ?_ rfl
  funext j
  dsimp only
  rcases Nat.lt_or_ge j 7 with hj | hj
  · match j, hj with
    | 0, _ => simp
    | 1, _ => simp
    | 2, _ => simp
    | 3, _ => simp
    | 4, _ => simp
    | 5, _ => simp
    | 6, _ => simp
    | k + 7, hj => omega
  · simp (disch := omega) only [if_neg]
theorem setC_t6 {c : Cc} {v : Int32} : setC c (c.1 0) (c.1 1) (c.1 2) (c.1 3) (c.1 4) (c.1 5) v = upS c 6 v := by
  unfold setC upS
  refine Prod.ext ?_ rfl
  funext j
  dsimp only
  rcases Nat.lt_or_ge j 7 with hj | hj
  · match j, hj with
    | 0, _ => simp
    | 1, _ => simp
    | 2, _ => simp
    | 3, _ => simp
    | 4, _ => simp
    | 5, _ => simp
    | 6, _ => simp
    | k + 7, hj => omega
  · simp (disch := omega) only [if_neg]
theorem wSx {h : aH} {a : Nat} {c : Cc} {x0 x1 x2 x3 x4 x5 x6 : Int32} : hS (putC h a c) a (.inr (2, [.int x0, .int x1, .int x2, .int x3, .ref (a + 1), .ref (a + 2), .ref (a + 3), .ref (a + 4), .ref (a + 5), .int x4, .ref (a + 6), .ref (a + 7), .ref (a + 8), .int x5, .int x6])) = putC h a (setC c x0 x1 x2 x3 x4 x5 x6) := by
  unfold hS putC
  refine congrArg (fun z => (h.1, h.2.1, z)) ?_
  funext q
  by_cases hq : q = a
  · simp [hq, setC]
  · simp [hq, setC]
theorem upS_A {c : Cc} {j k : Nat} {g : Nat → Int32} {v : Int32} : upS (upA c j g) k v = upA (upS c k v) j g := rfl

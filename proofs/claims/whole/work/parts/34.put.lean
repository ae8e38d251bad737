/-! the object of the whole and all that it holds, as cells 0 to 292: scalars by object (0 itself, 1 reader, 2 acts, 3 foresight, 4 asks), rows (0..7 items, 8 lanes, 9 sizes, 10 tape, 11 leads, 12 bell, 13 bodies), castles (0 draft, 1 now, 2.. kept, 26 then, 27 waiting, 28, 29 images) -/
abbrev Xc : Type := (Nat → Nat → Int32) × (Nat → Nat → Int32) × (Nat → Cc)
def upX (w : Xc) (k : Nat) (g : Nat → Int32) : Xc := (fun j => if j = k then g else w.1 j, w.2)
def upR (w : Xc) (k : Nat) (g : Nat → Int32) : Xc := (w.1, fun j => if j = k then g else w.2.1 j, w.2.2)
def upC (w : Xc) (k : Nat) (c : Cc) : Xc := (w.1, w.2.1, fun j => if j = k then c else w.2.2 j)
theorem upX_1 {w : Xc} {k j : Nat} {g : Nat → Int32} : (upX w k g).1 j = if j = k then g else w.1 j := rfl
theorem upX_21 {w : Xc} {k : Nat} {g : Nat → Int32} : (upX w k g).2.1 = w.2.1 := rfl
theorem upX_22 {w : Xc} {k : Nat} {g : Nat → Int32} : (upX w k g).2.2 = w.2.2 := rfl
theorem upX_upX {w : Xc} {k : Nat} {g g' : Nat → Int32} : upX (upX w k g) k g' = upX w k g' := by
  obtain ⟨a, b, c⟩ := w
  unfold upX
  dsimp only
  congr 1
  all_goals first | rfl | (congr 1; funext x; by_cases hx : x = k <;> simp [hx]) | (funext x; by_cases hx : x = k <;> simp [hx])
theorem upX_id {w : Xc} {k : Nat} : upX w k (w.1 k) = w := by
  obtain ⟨a, b, c⟩ := w
  unfold upX
  dsimp only
  congr 1
  all_goals first | rfl | (congr 1; funext x; by_cases hx : x = k <;> simp [hx]) | (funext x; by_cases hx : x = k <;> simp [hx])
theorem upR_1 {w : Xc} {k : Nat} {g : Nat → Int32} : (upR w k g).1 = w.1 := rfl
theorem upR_21 {w : Xc} {k j : Nat} {g : Nat → Int32} : (upR w k g).2.1 j = if j = k then g else w.2.1 j := rfl
theorem upR_22 {w : Xc} {k : Nat} {g : Nat → Int32} : (upR w k g).2.2 = w.2.2 := rfl
theorem upR_upR {w : Xc} {k : Nat} {g g' : Nat → Int32} : upR (upR w k g) k g' = upR w k g' := by
  obtain ⟨a, b, c⟩ := w
  unfold upR
  dsimp only
  congr 1
  all_goals first | rfl | (congr 1; funext x; by_cases hx : x = k <;> simp [hx]) | (funext x; by_cases hx : x = k <;> simp [hx])
theorem upR_id {w : Xc} {k : Nat} : upR w k (w.2.1 k) = w := by
  obtain ⟨a, b, c⟩ := w
  unfold upR
  dsimp only
  congr 1
  all_goals first | rfl | (congr 1; funext x; by_cases hx : x = k <;> simp [hx]) | (funext x; by_cases hx : x = k <;> simp [hx])
theorem upC_1 {w : Xc} {k : Nat} {g : Cc} : (upC w k g).1 = w.1 := rfl
theorem upC_21 {w : Xc} {k : Nat} {g : Cc} : (upC w k g).2.1 = w.2.1 := rfl
theorem upC_22 {w : Xc} {k j : Nat} {g : Cc} : (upC w k g).2.2 j = if j = k then g else w.2.2 j := rfl
theorem upC_upC {w : Xc} {k : Nat} {g g' : Cc} : upC (upC w k g) k g' = upC w k g' := by
  obtain ⟨a, b, c⟩ := w
  unfold upC
  dsimp only
  congr 1
  all_goals first | rfl | (congr 1; funext x; by_cases hx : x = k <;> simp [hx]) | (funext x; by_cases hx : x = k <;> simp [hx])
theorem upC_id {w : Xc} {k : Nat} : upC w k (w.2.2 k) = w := by
  obtain ⟨a, b, c⟩ := w
  unfold upC
  dsimp only
  congr 1
  all_goals first | rfl | (congr 1; funext x; by_cases hx : x = k <;> simp [hx]) | (funext x; by_cases hx : x = k <;> simp [hx])
theorem upX_R {w : Xc} {j k : Nat} {g v : Nat → Int32} : upX (upR w j g) k v = upR (upX w k v) j g := rfl
theorem upX_C {w : Xc} {j k : Nat} {c : Cc} {v : Nat → Int32} : upX (upC w j c) k v = upC (upX w k v) j c := rfl
theorem upR_C {w : Xc} {j k : Nat} {c : Cc} {v : Nat → Int32} : upR (upC w j c) k v = upC (upR w k v) j c := rfl
def vec2 (x0 x1 : Int32) : Nat → Int32 := fun j => if j = 0 then x0 else if j = 1 then x1 else 0
theorem vec2_0 {x0 x1 : Int32} : vec2 x0 x1 0 = x0 := by simp [vec2]
theorem vec2_1 {x0 x1 : Int32} : vec2 x0 x1 1 = x1 := by simp [vec2]
def vec4 (x0 x1 x2 x3 : Int32) : Nat → Int32 := fun j => if j = 0 then x0 else if j = 1 then x1 else if j = 2 then x2 else if j = 3 then x3 else 0
theorem vec4_0 {x0 x1 x2 x3 : Int32} : vec4 x0 x1 x2 x3 0 = x0 := by simp [vec4]
theorem vec4_1 {x0 x1 x2 x3 : Int32} : vec4 x0 x1 x2 x3 1 = x1 := by simp [vec4]
theorem vec4_2 {x0 x1 x2 x3 : Int32} : vec4 x0 x1 x2 x3 2 = x2 := by simp [vec4]
theorem vec4_3 {x0 x1 x2 x3 : Int32} : vec4 x0 x1 x2 x3 3 = x3 := by simp [vec4]
def vec5 (x0 x1 x2 x3 x4 : Int32) : Nat → Int32 := fun j => if j = 0 then x0 else if j = 1 then x1 else if j = 2 then x2 else if j = 3 then x3 else if j = 4 then x4 else 0
theorem vec5_0 {x0 x1 x2 x3 x4 : Int32} : vec5 x0 x1 x2 x3 x4 0 = x0 := by simp [vec5]
theorem vec5_1 {x0 x1 x2 x3 x4 : Int32} : vec5 x0 x1 x2 x3 x4 1 = x1 := by simp [vec5]
theorem vec5_2 {x0 x1 x2 x3 x4 : Int32} : vec5 x0 x1 x2 x3 x4 2 = x2 := by simp [vec5]
theorem vec5_3 {x0 x1 x2 x3 x4 : Int32} : vec5 x0 x1 x2 x3 x4 3 = x3 := by simp [vec5]
theorem vec5_4 {x0 x1 x2 x3 x4 : Int32} : vec5 x0 x1 x2 x3 x4 4 = x4 := by simp [vec5]
def cellC (a : Nat) (c : Cc) (q : Nat) : aC := if q = a then .inr (2, [.int (c.1 0), .int (c.1 1), .int (c.1 2), .int (c.1 3), .ref (a + 1), .ref (a + 2), .ref (a + 3), .ref (a + 4), .ref (a + 5), .int (c.1 4), .ref (a + 6), .ref (a + 7), .ref (a + 8), .int (c.1 5), .int (c.1 6)]) else if q ≤ a + 5 then .inl (0, 5, .inl (c.2 (q - a - 1))) else .inl (0, 6, .inl (c.2 (q - a - 1)))
theorem putC_cell {h : aH} {a : Nat} {c : Cc} : putC h a c = (h.1, h.2.1, fun q => if a ≤ q ∧ q ≤ a + 8 then cellC a c q else h.2.2 q) := by
  unfold putC cellC
  refine congrArg (fun z => (h.1, h.2.1, z)) ?_
  funext q
  by_cases h0 : q = a
  · subst h0; simp
  · by_cases h5 : a < q ∧ q ≤ a + 5
    · have h1 : a ≤ q ∧ q ≤ a + 8 := by omega
      simp [h0, h5, h1]
    · by_cases h8 : a + 5 < q ∧ q ≤ a + 8
      · have h1 : a ≤ q ∧ q ≤ a + 8 := by omega
        have h2 : ¬ q ≤ a + 5 := by omega
        simp [h0, h5, h8, h1, h2]
      · have h1 : ¬ (a ≤ q ∧ q ≤ a + 8) := by omega
        simp [h0, h5, h8, h1]
def casA (k : Nat) : Nat := if k = 0 then 14 else if k = 1 then 24 else if k ≤ 25 then 35 + 9 * (k - 2) else if k = 26 then 252 else if k = 27 then 261 else if k = 28 then 273 else 282
def xcas (q : Nat) : Nat := if 14 ≤ q ∧ q ≤ 22 then 0 else if 24 ≤ q ∧ q ≤ 32 then 1 else if 35 ≤ q ∧ q ≤ 250 then 2 + (q - 35) / 9 else if 252 ≤ q ∧ q ≤ 260 then 26 else if 261 ≤ q ∧ q ≤ 269 then 27 else if 273 ≤ q ∧ q ≤ 281 then 28 else if 282 ≤ q ∧ q ≤ 290 then 29 else 99
theorem xcas_iff {q k : Nat} (hk : k < 30) : (xcas q = k) ↔ (casA k ≤ q ∧ q ≤ casA k + 8) := by
  unfold xcas casA
  repeat' split
  all_goals omega
def xoth (w : Xc) (q : Nat) : aC := if q = 0 then .inr (6, [.ref 1, .ref 13, .ref 24, .ref 33, .ref 251, .ref 272, .ref 291, .int (w.1 0 0), .int (w.1 0 1)]) else if q = 1 then .inr (5, [.ref 2, .ref 11, .ref 12]) else if q = 13 then .inr (4, [.ref 14, .ref 23, .int (w.1 1 0), .int (w.1 1 1), .int (w.1 1 2), .int (w.1 1 3)]) else if q = 33 then .inr (0, [.ref 34, .int (w.1 2 0), .int (w.1 2 1)]) else if q = 251 then .inr (3, [.ref 252, .ref 261, .ref 270, .ref 271, .int (w.1 3 0), .int (w.1 3 1)]) else if q = 291 then .inr (1, [.ref 292, .int (w.1 4 0), .int (w.1 4 1), .int (w.1 4 2), .int (w.1 4 3), .int (w.1 4 4)]) else if q = 2 then .inl (3, 8, .inr (.inr (.inr (.inr (fun i => if i < 8 then some (3 + i) else none))))) else if q = 34 then .inl (2, 24, .inr (.inr (.inr (.inr (fun i => if i < 24 then some (35 + 9 * i) else none))))) else if q = 272 then .inl (2, 2, .inr (.inr (.inr (.inr (fun i => if i < 2 then some (273 + 9 * i) else none))))) else if q = 11 then .inl (0, 8, .inl (w.2.1 8)) else if q = 12 then .inl (0, 8, .inl (w.2.1 9)) else if q = 23 then .inl (0, 120, .inl (w.2.1 10)) else if q = 270 then .inl (0, 32, .inl (w.2.1 11)) else if q = 271 then .inl (0, 12, .inl (w.2.1 12)) else if q = 292 then .inl (0, 16, .inl (w.2.1 13)) else if 3 ≤ q ∧ q ≤ 10 then .inl (0, 40, .inl (w.2.1 (q - 3))) else .inl (0, 0, .inl (fun _ => 0))
def xcell (w : Xc) (q : Nat) : aC := if xcas q = 99 then xoth w q else cellC (casA (xcas q)) (w.2.2 (xcas q)) q
def putX (h : aH) (w : Xc) : aH := (h.1, h.2.1, fun q => if q ≤ 292 then xcell w q else h.2.2 q)
theorem putX_1 {h : aH} {w : Xc} : (putX h w).1 = h.1 := rfl
theorem casA_le {k : Nat} (hk : k < 30) : casA k + 9 ≤ 292 := by
  unfold casA
  repeat' split
  all_goals omega
theorem X_putC {h : aH} {w : Xc} {k : Nat} {c : Cc} (hk : k < 30) : putC (putX h w) (casA k) c = putX h (upC w k c) := by
  rw [putC_cell]
  unfold putX
  refine congrArg (fun z => (h.1, h.2.1, z)) ?_
  funext q
  have hle := casA_le hk
  dsimp only
  by_cases hq : casA k ≤ q ∧ q ≤ casA k + 8
  · have hx := (xcas_iff (q := q) hk).2 hq
    rw [if_pos hq, if_pos (by omega)]
    unfold xcell
    rw [hx, if_neg (by omega), upC_22, if_pos rfl]
  · have hx : ¬ xcas q = k := fun e => hq ((xcas_iff hk).1 e)
    rw [if_neg hq]
    split
    · unfold xcell
      split
      · rfl
      · rw [upC_22, if_neg hx]
    · rfl
theorem X_C {h : aH} {w : Xc} {k : Nat} (hk : k < 30) : putC (putX h w) (casA k) (w.2.2 k) = putX h w := by rw [X_putC hk, upC_id]
theorem xH0 {h : aH} {w : Xc} (hb : 293 ≤ h.1) : hO (putX h w) 0 6 = some [.ref 1, .ref 13, .ref 24, .ref 33, .ref 251, .ref 272, .ref 291, .int (w.1 0 0), .int (w.1 0 1)] := by
  have h1 : 0 < (putX h w).1 := by show 0 < h.1; omega
  unfold hO
  rw [if_pos h1]
  simp [putX, xcell, xcas, xoth]
theorem xO0W {h : aH} {w : Xc} {f : List Value → Prop} {t : Wt f} (hb : 293 ≤ h.1) : optW (hO (putX h w) 0 6) f t = f [.ref 1, .ref 13, .ref 24, .ref 33, .ref 251, .ref 272, .ref 291, .int (w.1 0 0), .int (w.1 0 1)] := optW_of (xH0 hb)
theorem xH1 {h : aH} {w : Xc} (hb : 293 ≤ h.1) : hO (putX h w) 1 5 = some [.ref 2, .ref 11, .ref 12] := by
  have h1 : 1 < (putX h w).1 := by show 1 < h.1; omega
  unfold hO
  rw [if_pos h1]
  simp [putX, xcell, xcas, xoth]
theorem xO1W {h : aH} {w : Xc} {f : List Value → Prop} {t : Wt f} (hb : 293 ≤ h.1) : optW (hO (putX h w) 1 5) f t = f [.ref 2, .ref 11, .ref 12] := optW_of (xH1 hb)
theorem xH13 {h : aH} {w : Xc} (hb : 293 ≤ h.1) : hO (putX h w) 13 4 = some [.ref 14, .ref 23, .int (w.1 1 0), .int (w.1 1 1), .int (w.1 1 2), .int (w.1 1 3)] := by
  have h1 : 13 < (putX h w).1 := by show 13 < h.1; omega
  unfold hO
  rw [if_pos h1]
  simp [putX, xcell, xcas, xoth]
theorem xO13W {h : aH} {w : Xc} {f : List Value → Prop} {t : Wt f} (hb : 293 ≤ h.1) : optW (hO (putX h w) 13 4) f t = f [.ref 14, .ref 23, .int (w.1 1 0), .int (w.1 1 1), .int (w.1 1 2), .int (w.1 1 3)] := optW_of (xH13 hb)
theorem xH33 {h : aH} {w : Xc} (hb : 293 ≤ h.1) : hO (putX h w) 33 0 = some [.ref 34, .int (w.1 2 0), .int (w.1 2 1)] := by
  have h1 : 33 < (putX h w).1 := by show 33 < h.1; omega
  unfold hO
  rw [if_pos h1]
  simp [putX, xcell, xcas, xoth]
theorem xO33W {h : aH} {w : Xc} {f : List Value → Prop} {t : Wt f} (hb : 293 ≤ h.1) : optW (hO (putX h w) 33 0) f t = f [.ref 34, .int (w.1 2 0), .int (w.1 2 1)] := optW_of (xH33 hb)
theorem xH251 {h : aH} {w : Xc} (hb : 293 ≤ h.1) : hO (putX h w) 251 3 = some [.ref 252, .ref 261, .ref 270, .ref 271, .int (w.1 3 0), .int (w.1 3 1)] := by
  have h1 : 251 < (putX h w).1 := by show 251 < h.1; omega
  unfold hO
  rw [if_pos h1]
  simp [putX, xcell, xcas, xoth]
theorem xO251W {h : aH} {w : Xc} {f : List Value → Prop} {t : Wt f} (hb : 293 ≤ h.1) : optW (hO (putX h w) 251 3) f t = f [.ref 252, .ref 261, .ref 270, .ref 271, .int (w.1 3 0), .int (w.1 3 1)] := optW_of (xH251 hb)
theorem xH291 {h : aH} {w : Xc} (hb : 293 ≤ h.1) : hO (putX h w) 291 1 = some [.ref 292, .int (w.1 4 0), .int (w.1 4 1), .int (w.1 4 2), .int (w.1 4 3), .int (w.1 4 4)] := by
  have h1 : 291 < (putX h w).1 := by show 291 < h.1; omega
  unfold hO
  rw [if_pos h1]
  simp [putX, xcell, xcas, xoth]
theorem xO291W {h : aH} {w : Xc} {f : List Value → Prop} {t : Wt f} (hb : 293 ≤ h.1) : optW (hO (putX h w) 291 1) f t = f [.ref 292, .int (w.1 4 0), .int (w.1 4 1), .int (w.1 4 2), .int (w.1 4 3), .int (w.1 4 4)] := optW_of (xH291 hb)
theorem xI11 {h : aH} {w : Xc} (hb : 293 ≤ h.1) : hI (putX h w) 11 = some (8, w.2.1 8) := by
  have h1 : 11 < (putX h w).1 := by show 11 < h.1; omega
  unfold hI
  rw [if_pos h1]
  simp [putX, xcell, xcas, xoth]
theorem xA11W {h : aH} {w : Xc} {f : Nat × (Nat → Int32) → Prop} {t : Wt f} (hb : 293 ≤ h.1) : optW (hI (putX h w) 11) f t = f (8, w.2.1 8) := optW_of (xI11 hb)
theorem xI12 {h : aH} {w : Xc} (hb : 293 ≤ h.1) : hI (putX h w) 12 = some (8, w.2.1 9) := by
  have h1 : 12 < (putX h w).1 := by show 12 < h.1; omega
  unfold hI
  rw [if_pos h1]
  simp [putX, xcell, xcas, xoth]
theorem xA12W {h : aH} {w : Xc} {f : Nat × (Nat → Int32) → Prop} {t : Wt f} (hb : 293 ≤ h.1) : optW (hI (putX h w) 12) f t = f (8, w.2.1 9) := optW_of (xI12 hb)
theorem xI23 {h : aH} {w : Xc} (hb : 293 ≤ h.1) : hI (putX h w) 23 = some (120, w.2.1 10) := by
  have h1 : 23 < (putX h w).1 := by show 23 < h.1; omega
  unfold hI
  rw [if_pos h1]
  simp [putX, xcell, xcas, xoth]
theorem xA23W {h : aH} {w : Xc} {f : Nat × (Nat → Int32) → Prop} {t : Wt f} (hb : 293 ≤ h.1) : optW (hI (putX h w) 23) f t = f (120, w.2.1 10) := optW_of (xI23 hb)
theorem xI270 {h : aH} {w : Xc} (hb : 293 ≤ h.1) : hI (putX h w) 270 = some (32, w.2.1 11) := by
  have h1 : 270 < (putX h w).1 := by show 270 < h.1; omega
  unfold hI
  rw [if_pos h1]
  simp [putX, xcell, xcas, xoth]
theorem xA270W {h : aH} {w : Xc} {f : Nat × (Nat → Int32) → Prop} {t : Wt f} (hb : 293 ≤ h.1) : optW (hI (putX h w) 270) f t = f (32, w.2.1 11) := optW_of (xI270 hb)
theorem xI271 {h : aH} {w : Xc} (hb : 293 ≤ h.1) : hI (putX h w) 271 = some (12, w.2.1 12) := by
  have h1 : 271 < (putX h w).1 := by show 271 < h.1; omega
  unfold hI
  rw [if_pos h1]
  simp [putX, xcell, xcas, xoth]
theorem xA271W {h : aH} {w : Xc} {f : Nat × (Nat → Int32) → Prop} {t : Wt f} (hb : 293 ≤ h.1) : optW (hI (putX h w) 271) f t = f (12, w.2.1 12) := optW_of (xI271 hb)
theorem xI292 {h : aH} {w : Xc} (hb : 293 ≤ h.1) : hI (putX h w) 292 = some (16, w.2.1 13) := by
  have h1 : 292 < (putX h w).1 := by show 292 < h.1; omega
  unfold hI
  rw [if_pos h1]
  simp [putX, xcell, xcas, xoth]
theorem xA292W {h : aH} {w : Xc} {f : Nat × (Nat → Int32) → Prop} {t : Wt f} (hb : 293 ≤ h.1) : optW (hI (putX h w) 292) f t = f (16, w.2.1 13) := optW_of (xI292 hb)
theorem xP2 {h : aH} {w : Xc} (hb : 293 ≤ h.1) : hR (putX h w) 2 = some (3, 8, fun i => if i < 8 then some (3 + i) else none) := by
  have h1 : 2 < (putX h w).1 := by show 2 < h.1; omega
  unfold hR
  rw [if_pos h1]
  simp [putX, xcell, xcas, xoth]
theorem xR2W {h : aH} {w : Xc} {f : Nat × Nat × (Nat → Option Nat) → Prop} {t : Wt f} (hb : 293 ≤ h.1) : optW (hR (putX h w) 2) f t = f (3, 8, fun i => if i < 8 then some (3 + i) else none) := optW_of (xP2 hb)
theorem xP34 {h : aH} {w : Xc} (hb : 293 ≤ h.1) : hR (putX h w) 34 = some (2, 24, fun i => if i < 24 then some (35 + 9 * i) else none) := by
  have h1 : 34 < (putX h w).1 := by show 34 < h.1; omega
  unfold hR
  rw [if_pos h1]
  simp [putX, xcell, xcas, xoth]
theorem xR34W {h : aH} {w : Xc} {f : Nat × Nat × (Nat → Option Nat) → Prop} {t : Wt f} (hb : 293 ≤ h.1) : optW (hR (putX h w) 34) f t = f (2, 24, fun i => if i < 24 then some (35 + 9 * i) else none) := optW_of (xP34 hb)
theorem xP272 {h : aH} {w : Xc} (hb : 293 ≤ h.1) : hR (putX h w) 272 = some (2, 2, fun i => if i < 2 then some (273 + 9 * i) else none) := by
  have h1 : 272 < (putX h w).1 := by show 272 < h.1; omega
  unfold hR
  rw [if_pos h1]
  simp [putX, xcell, xcas, xoth]
theorem xR272W {h : aH} {w : Xc} {f : Nat × Nat × (Nat → Option Nat) → Prop} {t : Wt f} (hb : 293 ≤ h.1) : optW (hR (putX h w) 272) f t = f (2, 2, fun i => if i < 2 then some (273 + 9 * i) else none) := optW_of (xP272 hb)
theorem ifW {c : Prop} [Decidable c] {v : Nat} {f : Nat → Prop} {t : Wt f} (hc : c) : optW (if c then some v else none) f t = f v := by rw [if_pos hc]; rfl
theorem xItem {h : aH} {w : Xc} {r : Nat} (hb : 293 ≤ h.1) (hr : r < 8) : hI (putX h w) (3 + r) = some (40, w.2.1 r) := by
  have h1 : 3 + r < (putX h w).1 := by show 3 + r < h.1; omega
  have h2 : 3 + r ≤ 292 := by omega
  have h3 : xcas (3 + r) = 99 := by
    unfold xcas
    repeat' split
    all_goals omega
  unfold hI
  rw [if_pos h1]
  simp only [putX, h2, if_true, xcell, h3]
  have h4 : xoth w (3 + r) = .inl (0, 40, .inl (w.2.1 r)) := by
    unfold xoth
    simp (disch := omega) only [if_neg]
    rw [if_pos (by omega), show 3 + r - 3 = r by omega]
  rw [h4]
  rfl
theorem xItemW {h : aH} {w : Xc} {r : Nat} {f : Nat × (Nat → Int32) → Prop} {t : Wt f} (hb : 293 ≤ h.1) (hr : r < 8) : optW (hI (putX h w) (3 + r)) f t = f (40, w.2.1 r) := optW_of (xItem hb hr)
theorem xH14 {h : aH} {w : Xc} (hb : 293 ≤ h.1) : hO (putX h w) 14 2 = some [.int ((w.2.2 0).1 0), .int ((w.2.2 0).1 1), .int ((w.2.2 0).1 2), .int ((w.2.2 0).1 3), .ref 15, .ref 16, .ref 17, .ref 18, .ref 19, .int ((w.2.2 0).1 4), .ref 20, .ref 21, .ref 22, .int ((w.2.2 0).1 5), .int ((w.2.2 0).1 6)] := by
  have h1 : 14 < (putX h w).1 := by show 14 < h.1; omega
  unfold hO
  rw [if_pos h1]
  simp [putX, xcell, xcas, casA, cellC]
theorem xO14W {h : aH} {w : Xc} {f : List Value → Prop} {t : Wt f} (hb : 293 ≤ h.1) : optW (hO (putX h w) 14 2) f t = f [.int ((w.2.2 0).1 0), .int ((w.2.2 0).1 1), .int ((w.2.2 0).1 2), .int ((w.2.2 0).1 3), .ref 15, .ref 16, .ref 17, .ref 18, .ref 19, .int ((w.2.2 0).1 4), .ref 20, .ref 21, .ref 22, .int ((w.2.2 0).1 5), .int ((w.2.2 0).1 6)] := optW_of (xH14 hb)
theorem xI15 {h : aH} {w : Xc} (hb : 293 ≤ h.1) : hI (putX h w) 15 = some (5, (w.2.2 0).2 0) := by
  have h1 : 15 < (putX h w).1 := by show 15 < h.1; omega
  unfold hI
  rw [if_pos h1]
  simp [putX, xcell, xcas, casA, cellC]
theorem xA15W {h : aH} {w : Xc} {f : Nat × (Nat → Int32) → Prop} {t : Wt f} (hb : 293 ≤ h.1) : optW (hI (putX h w) 15) f t = f (5, (w.2.2 0).2 0) := optW_of (xI15 hb)
theorem zA15 {h : aH} {w : Xc} {g : Nat → Int32} : hS (putX h w) 15 (.inl (0, 5, .inl g)) = putX h (upC w 0 (upA (w.2.2 0) 0 g)) := by
  have e : hS (putC (putX h w) 14 (w.2.2 0)) (14 + 1) (.inl (0, 5, .inl g)) = _ := wA0
  rw [show putC (putX h w) 14 (w.2.2 0) = putX h w from X_C (k := 0) (by omega), show putC (putX h w) 14 (upA (w.2.2 0) 0 g) = putX h (upC w 0 (upA (w.2.2 0) 0 g)) from X_putC (k := 0) (by omega)] at e
  exact e
theorem xI16 {h : aH} {w : Xc} (hb : 293 ≤ h.1) : hI (putX h w) 16 = some (5, (w.2.2 0).2 1) := by
  have h1 : 16 < (putX h w).1 := by show 16 < h.1; omega
  unfold hI
  rw [if_pos h1]
  simp [putX, xcell, xcas, casA, cellC]
theorem xA16W {h : aH} {w : Xc} {f : Nat × (Nat → Int32) → Prop} {t : Wt f} (hb : 293 ≤ h.1) : optW (hI (putX h w) 16) f t = f (5, (w.2.2 0).2 1) := optW_of (xI16 hb)
theorem zA16 {h : aH} {w : Xc} {g : Nat → Int32} : hS (putX h w) 16 (.inl (0, 5, .inl g)) = putX h (upC w 0 (upA (w.2.2 0) 1 g)) := by
  have e : hS (putC (putX h w) 14 (w.2.2 0)) (14 + 2) (.inl (0, 5, .inl g)) = _ := wA1
  rw [show putC (putX h w) 14 (w.2.2 0) = putX h w from X_C (k := 0) (by omega), show putC (putX h w) 14 (upA (w.2.2 0) 1 g) = putX h (upC w 0 (upA (w.2.2 0) 1 g)) from X_putC (k := 0) (by omega)] at e
  exact e
theorem xI17 {h : aH} {w : Xc} (hb : 293 ≤ h.1) : hI (putX h w) 17 = some (5, (w.2.2 0).2 2) := by
  have h1 : 17 < (putX h w).1 := by show 17 < h.1; omega
  unfold hI
  rw [if_pos h1]
  simp [putX, xcell, xcas, casA, cellC]
theorem xA17W {h : aH} {w : Xc} {f : Nat × (Nat → Int32) → Prop} {t : Wt f} (hb : 293 ≤ h.1) : optW (hI (putX h w) 17) f t = f (5, (w.2.2 0).2 2) := optW_of (xI17 hb)
theorem zA17 {h : aH} {w : Xc} {g : Nat → Int32} : hS (putX h w) 17 (.inl (0, 5, .inl g)) = putX h (upC w 0 (upA (w.2.2 0) 2 g)) := by
  have e : hS (putC (putX h w) 14 (w.2.2 0)) (14 + 3) (.inl (0, 5, .inl g)) = _ := wA2
  rw [show putC (putX h w) 14 (w.2.2 0) = putX h w from X_C (k := 0) (by omega), show putC (putX h w) 14 (upA (w.2.2 0) 2 g) = putX h (upC w 0 (upA (w.2.2 0) 2 g)) from X_putC (k := 0) (by omega)] at e
  exact e
theorem xI18 {h : aH} {w : Xc} (hb : 293 ≤ h.1) : hI (putX h w) 18 = some (5, (w.2.2 0).2 3) := by
  have h1 : 18 < (putX h w).1 := by show 18 < h.1; omega
  unfold hI
  rw [if_pos h1]
  simp [putX, xcell, xcas, casA, cellC]
theorem xA18W {h : aH} {w : Xc} {f : Nat × (Nat → Int32) → Prop} {t : Wt f} (hb : 293 ≤ h.1) : optW (hI (putX h w) 18) f t = f (5, (w.2.2 0).2 3) := optW_of (xI18 hb)
theorem zA18 {h : aH} {w : Xc} {g : Nat → Int32} : hS (putX h w) 18 (.inl (0, 5, .inl g)) = putX h (upC w 0 (upA (w.2.2 0) 3 g)) := by
  have e : hS (putC (putX h w) 14 (w.2.2 0)) (14 + 4) (.inl (0, 5, .inl g)) = _ := wA3
  rw [show putC (putX h w) 14 (w.2.2 0) = putX h w from X_C (k := 0) (by omega), show putC (putX h w) 14 (upA (w.2.2 0) 3 g) = putX h (upC w 0 (upA (w.2.2 0) 3 g)) from X_putC (k := 0) (by omega)] at e
  exact e
theorem xI19 {h : aH} {w : Xc} (hb : 293 ≤ h.1) : hI (putX h w) 19 = some (5, (w.2.2 0).2 4) := by
  have h1 : 19 < (putX h w).1 := by show 19 < h.1; omega
  unfold hI
  rw [if_pos h1]
  simp [putX, xcell, xcas, casA, cellC]
theorem xA19W {h : aH} {w : Xc} {f : Nat × (Nat → Int32) → Prop} {t : Wt f} (hb : 293 ≤ h.1) : optW (hI (putX h w) 19) f t = f (5, (w.2.2 0).2 4) := optW_of (xI19 hb)
theorem zA19 {h : aH} {w : Xc} {g : Nat → Int32} : hS (putX h w) 19 (.inl (0, 5, .inl g)) = putX h (upC w 0 (upA (w.2.2 0) 4 g)) := by
  have e : hS (putC (putX h w) 14 (w.2.2 0)) (14 + 5) (.inl (0, 5, .inl g)) = _ := wA4
  rw [show putC (putX h w) 14 (w.2.2 0) = putX h w from X_C (k := 0) (by omega), show putC (putX h w) 14 (upA (w.2.2 0) 4 g) = putX h (upC w 0 (upA (w.2.2 0) 4 g)) from X_putC (k := 0) (by omega)] at e
  exact e
theorem xI20 {h : aH} {w : Xc} (hb : 293 ≤ h.1) : hI (putX h w) 20 = some (6, (w.2.2 0).2 5) := by
  have h1 : 20 < (putX h w).1 := by show 20 < h.1; omega
  unfold hI
  rw [if_pos h1]
  simp [putX, xcell, xcas, casA, cellC]
theorem xA20W {h : aH} {w : Xc} {f : Nat × (Nat → Int32) → Prop} {t : Wt f} (hb : 293 ≤ h.1) : optW (hI (putX h w) 20) f t = f (6, (w.2.2 0).2 5) := optW_of (xI20 hb)
theorem zA20 {h : aH} {w : Xc} {g : Nat → Int32} : hS (putX h w) 20 (.inl (0, 6, .inl g)) = putX h (upC w 0 (upA (w.2.2 0) 5 g)) := by
  have e : hS (putC (putX h w) 14 (w.2.2 0)) (14 + 6) (.inl (0, 6, .inl g)) = _ := wA5
  rw [show putC (putX h w) 14 (w.2.2 0) = putX h w from X_C (k := 0) (by omega), show putC (putX h w) 14 (upA (w.2.2 0) 5 g) = putX h (upC w 0 (upA (w.2.2 0) 5 g)) from X_putC (k := 0) (by omega)] at e
  exact e
theorem xI21 {h : aH} {w : Xc} (hb : 293 ≤ h.1) : hI (putX h w) 21 = some (6, (w.2.2 0).2 6) := by
  have h1 : 21 < (putX h w).1 := by show 21 < h.1; omega
  unfold hI
  rw [if_pos h1]
  simp [putX, xcell, xcas, casA, cellC]
theorem xA21W {h : aH} {w : Xc} {f : Nat × (Nat → Int32) → Prop} {t : Wt f} (hb : 293 ≤ h.1) : optW (hI (putX h w) 21) f t = f (6, (w.2.2 0).2 6) := optW_of (xI21 hb)
theorem zA21 {h : aH} {w : Xc} {g : Nat → Int32} : hS (putX h w) 21 (.inl (0, 6, .inl g)) = putX h (upC w 0 (upA (w.2.2 0) 6 g)) := by
  have e : hS (putC (putX h w) 14 (w.2.2 0)) (14 + 7) (.inl (0, 6, .inl g)) = _ := wA6
  rw [show putC (putX h w) 14 (w.2.2 0) = putX h w from X_C (k := 0) (by omega), show putC (putX h w) 14 (upA (w.2.2 0) 6 g) = putX h (upC w 0 (upA (w.2.2 0) 6 g)) from X_putC (k := 0) (by omega)] at e
  exact e
theorem xI22 {h : aH} {w : Xc} (hb : 293 ≤ h.1) : hI (putX h w) 22 = some (6, (w.2.2 0).2 7) := by
  have h1 : 22 < (putX h w).1 := by show 22 < h.1; omega
  unfold hI
  rw [if_pos h1]
  simp [putX, xcell, xcas, casA, cellC]
theorem xA22W {h : aH} {w : Xc} {f : Nat × (Nat → Int32) → Prop} {t : Wt f} (hb : 293 ≤ h.1) : optW (hI (putX h w) 22) f t = f (6, (w.2.2 0).2 7) := optW_of (xI22 hb)
theorem zA22 {h : aH} {w : Xc} {g : Nat → Int32} : hS (putX h w) 22 (.inl (0, 6, .inl g)) = putX h (upC w 0 (upA (w.2.2 0) 7 g)) := by
  have e : hS (putC (putX h w) 14 (w.2.2 0)) (14 + 8) (.inl (0, 6, .inl g)) = _ := wA7
  rw [show putC (putX h w) 14 (w.2.2 0) = putX h w from X_C (k := 0) (by omega), show putC (putX h w) 14 (upA (w.2.2 0) 7 g) = putX h (upC w 0 (upA (w.2.2 0) 7 g)) from X_putC (k := 0) (by omega)] at e
  exact e
theorem zC14 {h : aH} {w : Xc} {x0 x1 x2 x3 x4 x5 x6 : Int32} : hS (putX h w) 14 (.inr (2, [.int x0, .int x1, .int x2, .int x3, .ref 15, .ref 16, .ref 17, .ref 18, .ref 19, .int x4, .ref 20, .ref 21, .ref 22, .int x5, .int x6])) = putX h (upC w 0 (setC (w.2.2 0) x0 x1 x2 x3 x4 x5 x6)) := by
  have e : hS (putC (putX h w) 14 (w.2.2 0)) 14 (.inr (2, [.int x0, .int x1, .int x2, .int x3, .ref 15, .ref 16, .ref 17, .ref 18, .ref 19, .int x4, .ref 20, .ref 21, .ref 22, .int x5, .int x6])) = _ := wSx
  rw [show putC (putX h w) 14 (w.2.2 0) = putX h w from X_C (k := 0) (by omega), show putC (putX h w) 14 (setC (w.2.2 0) x0 x1 x2 x3 x4 x5 x6) = putX h (upC w 0 (setC (w.2.2 0) x0 x1 x2 x3 x4 x5 x6)) from X_putC (k := 0) (by omega)] at e
  exact e
theorem xH24 {h : aH} {w : Xc} (hb : 293 ≤ h.1) : hO (putX h w) 24 2 = some [.int ((w.2.2 1).1 0), .int ((w.2.2 1).1 1), .int ((w.2.2 1).1 2), .int ((w.2.2 1).1 3), .ref 25, .ref 26, .ref 27, .ref 28, .ref 29, .int ((w.2.2 1).1 4), .ref 30, .ref 31, .ref 32, .int ((w.2.2 1).1 5), .int ((w.2.2 1).1 6)] := by
  have h1 : 24 < (putX h w).1 := by show 24 < h.1; omega
  unfold hO
  rw [if_pos h1]
  simp [putX, xcell, xcas, casA, cellC]
theorem xO24W {h : aH} {w : Xc} {f : List Value → Prop} {t : Wt f} (hb : 293 ≤ h.1) : optW (hO (putX h w) 24 2) f t = f [.int ((w.2.2 1).1 0), .int ((w.2.2 1).1 1), .int ((w.2.2 1).1 2), .int ((w.2.2 1).1 3), .ref 25, .ref 26, .ref 27, .ref 28, .ref 29, .int ((w.2.2 1).1 4), .ref 30, .ref 31, .ref 32, .int ((w.2.2 1).1 5), .int ((w.2.2 1).1 6)] := optW_of (xH24 hb)
theorem xI25 {h : aH} {w : Xc} (hb : 293 ≤ h.1) : hI (putX h w) 25 = some (5, (w.2.2 1).2 0) := by
  have h1 : 25 < (putX h w).1 := by show 25 < h.1; omega
  unfold hI
  rw [if_pos h1]
  simp [putX, xcell, xcas, casA, cellC]
theorem xA25W {h : aH} {w : Xc} {f : Nat × (Nat → Int32) → Prop} {t : Wt f} (hb : 293 ≤ h.1) : optW (hI (putX h w) 25) f t = f (5, (w.2.2 1).2 0) := optW_of (xI25 hb)
theorem zA25 {h : aH} {w : Xc} {g : Nat → Int32} : hS (putX h w) 25 (.inl (0, 5, .inl g)) = putX h (upC w 1 (upA (w.2.2 1) 0 g)) := by
  have e : hS (putC (putX h w) 24 (w.2.2 1)) (24 + 1) (.inl (0, 5, .inl g)) = _ := wA0
  rw [show putC (putX h w) 24 (w.2.2 1) = putX h w from X_C (k := 1) (by omega), show putC (putX h w) 24 (upA (w.2.2 1) 0 g) = putX h (upC w 1 (upA (w.2.2 1) 0 g)) from X_putC (k := 1) (by omega)] at e
  exact e
theorem xI26 {h : aH} {w : Xc} (hb : 293 ≤ h.1) : hI (putX h w) 26 = some (5, (w.2.2 1).2 1) := by
  have h1 : 26 < (putX h w).1 := by show 26 < h.1; omega
  unfold hI
  rw [if_pos h1]
  simp [putX, xcell, xcas, casA, cellC]
theorem xA26W {h : aH} {w : Xc} {f : Nat × (Nat → Int32) → Prop} {t : Wt f} (hb : 293 ≤ h.1) : optW (hI (putX h w) 26) f t = f (5, (w.2.2 1).2 1) := optW_of (xI26 hb)
theorem zA26 {h : aH} {w : Xc} {g : Nat → Int32} : hS (putX h w) 26 (.inl (0, 5, .inl g)) = putX h (upC w 1 (upA (w.2.2 1) 1 g)) := by
  have e : hS (putC (putX h w) 24 (w.2.2 1)) (24 + 2) (.inl (0, 5, .inl g)) = _ := wA1
  rw [show putC (putX h w) 24 (w.2.2 1) = putX h w from X_C (k := 1) (by omega), show putC (putX h w) 24 (upA (w.2.2 1) 1 g) = putX h (upC w 1 (upA (w.2.2 1) 1 g)) from X_putC (k := 1) (by omega)] at e
  exact e
theorem xI27 {h : aH} {w : Xc} (hb : 293 ≤ h.1) : hI (putX h w) 27 = some (5, (w.2.2 1).2 2) := by
  have h1 : 27 < (putX h w).1 := by show 27 < h.1; omega
  unfold hI
  rw [if_pos h1]
  simp [putX, xcell, xcas, casA, cellC]
theorem xA27W {h : aH} {w : Xc} {f : Nat × (Nat → Int32) → Prop} {t : Wt f} (hb : 293 ≤ h.1) : optW (hI (putX h w) 27) f t = f (5, (w.2.2 1).2 2) := optW_of (xI27 hb)
theorem zA27 {h : aH} {w : Xc} {g : Nat → Int32} : hS (putX h w) 27 (.inl (0, 5, .inl g)) = putX h (upC w 1 (upA (w.2.2 1) 2 g)) := by
  have e : hS (putC (putX h w) 24 (w.2.2 1)) (24 + 3) (.inl (0, 5, .inl g)) = _ := wA2
  rw [show putC (putX h w) 24 (w.2.2 1) = putX h w from X_C (k := 1) (by omega), show putC (putX h w) 24 (upA (w.2.2 1) 2 g) = putX h (upC w 1 (upA (w.2.2 1) 2 g)) from X_putC (k := 1) (by omega)] at e
  exact e
theorem xI28 {h : aH} {w : Xc} (hb : 293 ≤ h.1) : hI (putX h w) 28 = some (5, (w.2.2 1).2 3) := by
  have h1 : 28 < (putX h w).1 := by show 28 < h.1; omega
  unfold hI
  rw [if_pos h1]
  simp [putX, xcell, xcas, casA, cellC]
theorem xA28W {h : aH} {w : Xc} {f : Nat × (Nat → Int32) → Prop} {t : Wt f} (hb : 293 ≤ h.1) : optW (hI (putX h w) 28) f t = f (5, (w.2.2 1).2 3) := optW_of (xI28 hb)
theorem zA28 {h : aH} {w : Xc} {g : Nat → Int32} : hS (putX h w) 28 (.inl (0, 5, .inl g)) = putX h (upC w 1 (upA (w.2.2 1) 3 g)) := by
  have e : hS (putC (putX h w) 24 (w.2.2 1)) (24 + 4) (.inl (0, 5, .inl g)) = _ := wA3
  rw [show putC (putX h w) 24 (w.2.2 1) = putX h w from X_C (k := 1) (by omega), show putC (putX h w) 24 (upA (w.2.2 1) 3 g) = putX h (upC w 1 (upA (w.2.2 1) 3 g)) from X_putC (k := 1) (by omega)] at e
  exact e
theorem xI29 {h : aH} {w : Xc} (hb : 293 ≤ h.1) : hI (putX h w) 29 = some (5, (w.2.2 1).2 4) := by
  have h1 : 29 < (putX h w).1 := by show 29 < h.1; omega
  unfold hI
  rw [if_pos h1]
  simp [putX, xcell, xcas, casA, cellC]
theorem xA29W {h : aH} {w : Xc} {f : Nat × (Nat → Int32) → Prop} {t : Wt f} (hb : 293 ≤ h.1) : optW (hI (putX h w) 29) f t = f (5, (w.2.2 1).2 4) := optW_of (xI29 hb)
theorem zA29 {h : aH} {w : Xc} {g : Nat → Int32} : hS (putX h w) 29 (.inl (0, 5, .inl g)) = putX h (upC w 1 (upA (w.2.2 1) 4 g)) := by
  have e : hS (putC (putX h w) 24 (w.2.2 1)) (24 + 5) (.inl (0, 5, .inl g)) = _ := wA4
  rw [show putC (putX h w) 24 (w.2.2 1) = putX h w from X_C (k := 1) (by omega), show putC (putX h w) 24 (upA (w.2.2 1) 4 g) = putX h (upC w 1 (upA (w.2.2 1) 4 g)) from X_putC (k := 1) (by omega)] at e
  exact e
theorem xI30 {h : aH} {w : Xc} (hb : 293 ≤ h.1) : hI (putX h w) 30 = some (6, (w.2.2 1).2 5) := by
  have h1 : 30 < (putX h w).1 := by show 30 < h.1; omega
  unfold hI
  rw [if_pos h1]
  simp [putX, xcell, xcas, casA, cellC]
theorem xA30W {h : aH} {w : Xc} {f : Nat × (Nat → Int32) → Prop} {t : Wt f} (hb : 293 ≤ h.1) : optW (hI (putX h w) 30) f t = f (6, (w.2.2 1).2 5) := optW_of (xI30 hb)
theorem zA30 {h : aH} {w : Xc} {g : Nat → Int32} : hS (putX h w) 30 (.inl (0, 6, .inl g)) = putX h (upC w 1 (upA (w.2.2 1) 5 g)) := by
  have e : hS (putC (putX h w) 24 (w.2.2 1)) (24 + 6) (.inl (0, 6, .inl g)) = _ := wA5
  rw [show putC (putX h w) 24 (w.2.2 1) = putX h w from X_C (k := 1) (by omega), show putC (putX h w) 24 (upA (w.2.2 1) 5 g) = putX h (upC w 1 (upA (w.2.2 1) 5 g)) from X_putC (k := 1) (by omega)] at e
  exact e
theorem xI31 {h : aH} {w : Xc} (hb : 293 ≤ h.1) : hI (putX h w) 31 = some (6, (w.2.2 1).2 6) := by
  have h1 : 31 < (putX h w).1 := by show 31 < h.1; omega
  unfold hI
  rw [if_pos h1]
  simp [putX, xcell, xcas, casA, cellC]
theorem xA31W {h : aH} {w : Xc} {f : Nat × (Nat → Int32) → Prop} {t : Wt f} (hb : 293 ≤ h.1) : optW (hI (putX h w) 31) f t = f (6, (w.2.2 1).2 6) := optW_of (xI31 hb)
theorem zA31 {h : aH} {w : Xc} {g : Nat → Int32} : hS (putX h w) 31 (.inl (0, 6, .inl g)) = putX h (upC w 1 (upA (w.2.2 1) 6 g)) := by
  have e : hS (putC (putX h w) 24 (w.2.2 1)) (24 + 7) (.inl (0, 6, .inl g)) = _ := wA6
  rw [show putC (putX h w) 24 (w.2.2 1) = putX h w from X_C (k := 1) (by omega), show putC (putX h w) 24 (upA (w.2.2 1) 6 g) = putX h (upC w 1 (upA (w.2.2 1) 6 g)) from X_putC (k := 1) (by omega)] at e
  exact e
theorem xI32 {h : aH} {w : Xc} (hb : 293 ≤ h.1) : hI (putX h w) 32 = some (6, (w.2.2 1).2 7) := by
  have h1 : 32 < (putX h w).1 := by show 32 < h.1; omega
  unfold hI
  rw [if_pos h1]
  simp [putX, xcell, xcas, casA, cellC]
theorem xA32W {h : aH} {w : Xc} {f : Nat × (Nat → Int32) → Prop} {t : Wt f} (hb : 293 ≤ h.1) : optW (hI (putX h w) 32) f t = f (6, (w.2.2 1).2 7) := optW_of (xI32 hb)
theorem zA32 {h : aH} {w : Xc} {g : Nat → Int32} : hS (putX h w) 32 (.inl (0, 6, .inl g)) = putX h (upC w 1 (upA (w.2.2 1) 7 g)) := by
  have e : hS (putC (putX h w) 24 (w.2.2 1)) (24 + 8) (.inl (0, 6, .inl g)) = _ := wA7
  rw [show putC (putX h w) 24 (w.2.2 1) = putX h w from X_C (k := 1) (by omega), show putC (putX h w) 24 (upA (w.2.2 1) 7 g) = putX h (upC w 1 (upA (w.2.2 1) 7 g)) from X_putC (k := 1) (by omega)] at e
  exact e
theorem zC24 {h : aH} {w : Xc} {x0 x1 x2 x3 x4 x5 x6 : Int32} : hS (putX h w) 24 (.inr (2, [.int x0, .int x1, .int x2, .int x3, .ref 25, .ref 26, .ref 27, .ref 28, .ref 29, .int x4, .ref 30, .ref 31, .ref 32, .int x5, .int x6])) = putX h (upC w 1 (setC (w.2.2 1) x0 x1 x2 x3 x4 x5 x6)) := by
  have e : hS (putC (putX h w) 24 (w.2.2 1)) 24 (.inr (2, [.int x0, .int x1, .int x2, .int x3, .ref 25, .ref 26, .ref 27, .ref 28, .ref 29, .int x4, .ref 30, .ref 31, .ref 32, .int x5, .int x6])) = _ := wSx
  rw [show putC (putX h w) 24 (w.2.2 1) = putX h w from X_C (k := 1) (by omega), show putC (putX h w) 24 (setC (w.2.2 1) x0 x1 x2 x3 x4 x5 x6) = putX h (upC w 1 (setC (w.2.2 1) x0 x1 x2 x3 x4 x5 x6)) from X_putC (k := 1) (by omega)] at e
  exact e
theorem xH252 {h : aH} {w : Xc} (hb : 293 ≤ h.1) : hO (putX h w) 252 2 = some [.int ((w.2.2 26).1 0), .int ((w.2.2 26).1 1), .int ((w.2.2 26).1 2), .int ((w.2.2 26).1 3), .ref 253, .ref 254, .ref 255, .ref 256, .ref 257, .int ((w.2.2 26).1 4), .ref 258, .ref 259, .ref 260, .int ((w.2.2 26).1 5), .int ((w.2.2 26).1 6)] := by
  have h1 : 252 < (putX h w).1 := by show 252 < h.1; omega
  unfold hO
  rw [if_pos h1]
  simp [putX, xcell, xcas, casA, cellC]
theorem xO252W {h : aH} {w : Xc} {f : List Value → Prop} {t : Wt f} (hb : 293 ≤ h.1) : optW (hO (putX h w) 252 2) f t = f [.int ((w.2.2 26).1 0), .int ((w.2.2 26).1 1), .int ((w.2.2 26).1 2), .int ((w.2.2 26).1 3), .ref 253, .ref 254, .ref 255, .ref 256, .ref 257, .int ((w.2.2 26).1 4), .ref 258, .ref 259, .ref 260, .int ((w.2.2 26).1 5), .int ((w.2.2 26).1 6)] := optW_of (xH252 hb)
theorem xI253 {h : aH} {w : Xc} (hb : 293 ≤ h.1) : hI (putX h w) 253 = some (5, (w.2.2 26).2 0) := by
  have h1 : 253 < (putX h w).1 := by show 253 < h.1; omega
  unfold hI
  rw [if_pos h1]
  simp [putX, xcell, xcas, casA, cellC]
theorem xA253W {h : aH} {w : Xc} {f : Nat × (Nat → Int32) → Prop} {t : Wt f} (hb : 293 ≤ h.1) : optW (hI (putX h w) 253) f t = f (5, (w.2.2 26).2 0) := optW_of (xI253 hb)
theorem zA253 {h : aH} {w : Xc} {g : Nat → Int32} : hS (putX h w) 253 (.inl (0, 5, .inl g)) = putX h (upC w 26 (upA (w.2.2 26) 0 g)) := by
  have e : hS (putC (putX h w) 252 (w.2.2 26)) (252 + 1) (.inl (0, 5, .inl g)) = _ := wA0
  rw [show putC (putX h w) 252 (w.2.2 26) = putX h w from X_C (k := 26) (by omega), show putC (putX h w) 252 (upA (w.2.2 26) 0 g) = putX h (upC w 26 (upA (w.2.2 26) 0 g)) from X_putC (k := 26) (by omega)] at e
  exact e
theorem xI254 {h : aH} {w : Xc} (hb : 293 ≤ h.1) : hI (putX h w) 254 = some (5, (w.2.2 26).2 1) := by
  have h1 : 254 < (putX h w).1 := by show 254 < h.1; omega
  unfold hI
  rw [if_pos h1]
  simp [putX, xcell, xcas, casA, cellC]
theorem xA254W {h : aH} {w : Xc} {f : Nat × (Nat → Int32) → Prop} {t : Wt f} (hb : 293 ≤ h.1) : optW (hI (putX h w) 254) f t = f (5, (w.2.2 26).2 1) := optW_of (xI254 hb)
theorem zA254 {h : aH} {w : Xc} {g : Nat → Int32} : hS (putX h w) 254 (.inl (0, 5, .inl g)) = putX h (upC w 26 (upA (w.2.2 26) 1 g)) := by
  have e : hS (putC (putX h w) 252 (w.2.2 26)) (252 + 2) (.inl (0, 5, .inl g)) = _ := wA1
  rw [show putC (putX h w) 252 (w.2.2 26) = putX h w from X_C (k := 26) (by omega), show putC (putX h w) 252 (upA (w.2.2 26) 1 g) = putX h (upC w 26 (upA (w.2.2 26) 1 g)) from X_putC (k := 26) (by omega)] at e
  exact e
theorem xI255 {h : aH} {w : Xc} (hb : 293 ≤ h.1) : hI (putX h w) 255 = some (5, (w.2.2 26).2 2) := by
  have h1 : 255 < (putX h w).1 := by show 255 < h.1; omega
  unfold hI
  rw [if_pos h1]
  simp [putX, xcell, xcas, casA, cellC]
theorem xA255W {h : aH} {w : Xc} {f : Nat × (Nat → Int32) → Prop} {t : Wt f} (hb : 293 ≤ h.1) : optW (hI (putX h w) 255) f t = f (5, (w.2.2 26).2 2) := optW_of (xI255 hb)
theorem zA255 {h : aH} {w : Xc} {g : Nat → Int32} : hS (putX h w) 255 (.inl (0, 5, .inl g)) = putX h (upC w 26 (upA (w.2.2 26) 2 g)) := by
  have e : hS (putC (putX h w) 252 (w.2.2 26)) (252 + 3) (.inl (0, 5, .inl g)) = _ := wA2
  rw [show putC (putX h w) 252 (w.2.2 26) = putX h w from X_C (k := 26) (by omega), show putC (putX h w) 252 (upA (w.2.2 26) 2 g) = putX h (upC w 26 (upA (w.2.2 26) 2 g)) from X_putC (k := 26) (by omega)] at e
  exact e
theorem xI256 {h : aH} {w : Xc} (hb : 293 ≤ h.1) : hI (putX h w) 256 = some (5, (w.2.2 26).2 3) := by
  have h1 : 256 < (putX h w).1 := by show 256 < h.1; omega
  unfold hI
  rw [if_pos h1]
  simp [putX, xcell, xcas, casA, cellC]
theorem xA256W {h : aH} {w : Xc} {f : Nat × (Nat → Int32) → Prop} {t : Wt f} (hb : 293 ≤ h.1) : optW (hI (putX h w) 256) f t = f (5, (w.2.2 26).2 3) := optW_of (xI256 hb)
theorem zA256 {h : aH} {w : Xc} {g : Nat → Int32} : hS (putX h w) 256 (.inl (0, 5, .inl g)) = putX h (upC w 26 (upA (w.2.2 26) 3 g)) := by
  have e : hS (putC (putX h w) 252 (w.2.2 26)) (252 + 4) (.inl (0, 5, .inl g)) = _ := wA3
  rw [show putC (putX h w) 252 (w.2.2 26) = putX h w from X_C (k := 26) (by omega), show putC (putX h w) 252 (upA (w.2.2 26) 3 g) = putX h (upC w 26 (upA (w.2.2 26) 3 g)) from X_putC (k := 26) (by omega)] at e
  exact e
theorem xI257 {h : aH} {w : Xc} (hb : 293 ≤ h.1) : hI (putX h w) 257 = some (5, (w.2.2 26).2 4) := by
  have h1 : 257 < (putX h w).1 := by show 257 < h.1; omega
  unfold hI
  rw [if_pos h1]
  simp [putX, xcell, xcas, casA, cellC]
theorem xA257W {h : aH} {w : Xc} {f : Nat × (Nat → Int32) → Prop} {t : Wt f} (hb : 293 ≤ h.1) : optW (hI (putX h w) 257) f t = f (5, (w.2.2 26).2 4) := optW_of (xI257 hb)
theorem zA257 {h : aH} {w : Xc} {g : Nat → Int32} : hS (putX h w) 257 (.inl (0, 5, .inl g)) = putX h (upC w 26 (upA (w.2.2 26) 4 g)) := by
  have e : hS (putC (putX h w) 252 (w.2.2 26)) (252 + 5) (.inl (0, 5, .inl g)) = _ := wA4
  rw [show putC (putX h w) 252 (w.2.2 26) = putX h w from X_C (k := 26) (by omega), show putC (putX h w) 252 (upA (w.2.2 26) 4 g) = putX h (upC w 26 (upA (w.2.2 26) 4 g)) from X_putC (k := 26) (by omega)] at e
  exact e
theorem xI258 {h : aH} {w : Xc} (hb : 293 ≤ h.1) : hI (putX h w) 258 = some (6, (w.2.2 26).2 5) := by
  have h1 : 258 < (putX h w).1 := by show 258 < h.1; omega
  unfold hI
  rw [if_pos h1]
  simp [putX, xcell, xcas, casA, cellC]
theorem xA258W {h : aH} {w : Xc} {f : Nat × (Nat → Int32) → Prop} {t : Wt f} (hb : 293 ≤ h.1) : optW (hI (putX h w) 258) f t = f (6, (w.2.2 26).2 5) := optW_of (xI258 hb)
theorem zA258 {h : aH} {w : Xc} {g : Nat → Int32} : hS (putX h w) 258 (.inl (0, 6, .inl g)) = putX h (upC w 26 (upA (w.2.2 26) 5 g)) := by
  have e : hS (putC (putX h w) 252 (w.2.2 26)) (252 + 6) (.inl (0, 6, .inl g)) = _ := wA5
  rw [show putC (putX h w) 252 (w.2.2 26) = putX h w from X_C (k := 26) (by omega), show putC (putX h w) 252 (upA (w.2.2 26) 5 g) = putX h (upC w 26 (upA (w.2.2 26) 5 g)) from X_putC (k := 26) (by omega)] at e
  exact e
theorem xI259 {h : aH} {w : Xc} (hb : 293 ≤ h.1) : hI (putX h w) 259 = some (6, (w.2.2 26).2 6) := by
  have h1 : 259 < (putX h w).1 := by show 259 < h.1; omega
  unfold hI
  rw [if_pos h1]
  simp [putX, xcell, xcas, casA, cellC]
theorem xA259W {h : aH} {w : Xc} {f : Nat × (Nat → Int32) → Prop} {t : Wt f} (hb : 293 ≤ h.1) : optW (hI (putX h w) 259) f t = f (6, (w.2.2 26).2 6) := optW_of (xI259 hb)
theorem zA259 {h : aH} {w : Xc} {g : Nat → Int32} : hS (putX h w) 259 (.inl (0, 6, .inl g)) = putX h (upC w 26 (upA (w.2.2 26) 6 g)) := by
  have e : hS (putC (putX h w) 252 (w.2.2 26)) (252 + 7) (.inl (0, 6, .inl g)) = _ := wA6
  rw [show putC (putX h w) 252 (w.2.2 26) = putX h w from X_C (k := 26) (by omega), show putC (putX h w) 252 (upA (w.2.2 26) 6 g) = putX h (upC w 26 (upA (w.2.2 26) 6 g)) from X_putC (k := 26) (by omega)] at e
  exact e
theorem xI260 {h : aH} {w : Xc} (hb : 293 ≤ h.1) : hI (putX h w) 260 = some (6, (w.2.2 26).2 7) := by
  have h1 : 260 < (putX h w).1 := by show 260 < h.1; omega
  unfold hI
  rw [if_pos h1]
  simp [putX, xcell, xcas, casA, cellC]
theorem xA260W {h : aH} {w : Xc} {f : Nat × (Nat → Int32) → Prop} {t : Wt f} (hb : 293 ≤ h.1) : optW (hI (putX h w) 260) f t = f (6, (w.2.2 26).2 7) := optW_of (xI260 hb)
theorem zA260 {h : aH} {w : Xc} {g : Nat → Int32} : hS (putX h w) 260 (.inl (0, 6, .inl g)) = putX h (upC w 26 (upA (w.2.2 26) 7 g)) := by
  have e : hS (putC (putX h w) 252 (w.2.2 26)) (252 + 8) (.inl (0, 6, .inl g)) = _ := wA7
  rw [show putC (putX h w) 252 (w.2.2 26) = putX h w from X_C (k := 26) (by omega), show putC (putX h w) 252 (upA (w.2.2 26) 7 g) = putX h (upC w 26 (upA (w.2.2 26) 7 g)) from X_putC (k := 26) (by omega)] at e
  exact e
theorem zC252 {h : aH} {w : Xc} {x0 x1 x2 x3 x4 x5 x6 : Int32} : hS (putX h w) 252 (.inr (2, [.int x0, .int x1, .int x2, .int x3, .ref 253, .ref 254, .ref 255, .ref 256, .ref 257, .int x4, .ref 258, .ref 259, .ref 260, .int x5, .int x6])) = putX h (upC w 26 (setC (w.2.2 26) x0 x1 x2 x3 x4 x5 x6)) := by
  have e : hS (putC (putX h w) 252 (w.2.2 26)) 252 (.inr (2, [.int x0, .int x1, .int x2, .int x3, .ref 253, .ref 254, .ref 255, .ref 256, .ref 257, .int x4, .ref 258, .ref 259, .ref 260, .int x5, .int x6])) = _ := wSx
  rw [show putC (putX h w) 252 (w.2.2 26) = putX h w from X_C (k := 26) (by omega), show putC (putX h w) 252 (setC (w.2.2 26) x0 x1 x2 x3 x4 x5 x6) = putX h (upC w 26 (setC (w.2.2 26) x0 x1 x2 x3 x4 x5 x6)) from X_putC (k := 26) (by omega)] at e
  exact e
theorem xH261 {h : aH} {w : Xc} (hb : 293 ≤ h.1) : hO (putX h w) 261 2 = some [.int ((w.2.2 27).1 0), .int ((w.2.2 27).1 1), .int ((w.2.2 27).1 2), .int ((w.2.2 27).1 3), .ref 262, .ref 263, .ref 264, .ref 265, .ref 266, .int ((w.2.2 27).1 4), .ref 267, .ref 268, .ref 269, .int ((w.2.2 27).1 5), .int ((w.2.2 27).1 6)] := by
  have h1 : 261 < (putX h w).1 := by show 261 < h.1; omega
  unfold hO
  rw [if_pos h1]
  simp [putX, xcell, xcas, casA, cellC]
theorem xO261W {h : aH} {w : Xc} {f : List Value → Prop} {t : Wt f} (hb : 293 ≤ h.1) : optW (hO (putX h w) 261 2) f t = f [.int ((w.2.2 27).1 0), .int ((w.2.2 27).1 1), .int ((w.2.2 27).1 2), .int ((w.2.2 27).1 3), .ref 262, .ref 263, .ref 264, .ref 265, .ref 266, .int ((w.2.2 27).1 4), .ref 267, .ref 268, .ref 269, .int ((w.2.2 27).1 5), .int ((w.2.2 27).1 6)] := optW_of (xH261 hb)
theorem xI262 {h : aH} {w : Xc} (hb : 293 ≤ h.1) : hI (putX h w) 262 = some (5, (w.2.2 27).2 0) := by
  have h1 : 262 < (putX h w).1 := by show 262 < h.1; omega
  unfold hI
  rw [if_pos h1]
  simp [putX, xcell, xcas, casA, cellC]
theorem xA262W {h : aH} {w : Xc} {f : Nat × (Nat → Int32) → Prop} {t : Wt f} (hb : 293 ≤ h.1) : optW (hI (putX h w) 262) f t = f (5, (w.2.2 27).2 0) := optW_of (xI262 hb)
theorem zA262 {h : aH} {w : Xc} {g : Nat → Int32} : hS (putX h w) 262 (.inl (0, 5, .inl g)) = putX h (upC w 27 (upA (w.2.2 27) 0 g)) := by
  have e : hS (putC (putX h w) 261 (w.2.2 27)) (261 + 1) (.inl (0, 5, .inl g)) = _ := wA0
  rw [show putC (putX h w) 261 (w.2.2 27) = putX h w from X_C (k := 27) (by omega), show putC (putX h w) 261 (upA (w.2.2 27) 0 g) = putX h (upC w 27 (upA (w.2.2 27) 0 g)) from X_putC (k := 27) (by omega)] at e
  exact e
theorem xI263 {h : aH} {w : Xc} (hb : 293 ≤ h.1) : hI (putX h w) 263 = some (5, (w.2.2 27).2 1) := by
  have h1 : 263 < (putX h w).1 := by show 263 < h.1; omega
  unfold hI
  rw [if_pos h1]
  simp [putX, xcell, xcas, casA, cellC]
theorem xA263W {h : aH} {w : Xc} {f : Nat × (Nat → Int32) → Prop} {t : Wt f} (hb : 293 ≤ h.1) : optW (hI (putX h w) 263) f t = f (5, (w.2.2 27).2 1) := optW_of (xI263 hb)
theorem zA263 {h : aH} {w : Xc} {g : Nat → Int32} : hS (putX h w) 263 (.inl (0, 5, .inl g)) = putX h (upC w 27 (upA (w.2.2 27) 1 g)) := by
  have e : hS (putC (putX h w) 261 (w.2.2 27)) (261 + 2) (.inl (0, 5, .inl g)) = _ := wA1
  rw [show putC (putX h w) 261 (w.2.2 27) = putX h w from X_C (k := 27) (by omega), show putC (putX h w) 261 (upA (w.2.2 27) 1 g) = putX h (upC w 27 (upA (w.2.2 27) 1 g)) from X_putC (k := 27) (by omega)] at e
  exact e
theorem xI264 {h : aH} {w : Xc} (hb : 293 ≤ h.1) : hI (putX h w) 264 = some (5, (w.2.2 27).2 2) := by
  have h1 : 264 < (putX h w).1 := by show 264 < h.1; omega
  unfold hI
  rw [if_pos h1]
  simp [putX, xcell, xcas, casA, cellC]
theorem xA264W {h : aH} {w : Xc} {f : Nat × (Nat → Int32) → Prop} {t : Wt f} (hb : 293 ≤ h.1) : optW (hI (putX h w) 264) f t = f (5, (w.2.2 27).2 2) := optW_of (xI264 hb)
theorem zA264 {h : aH} {w : Xc} {g : Nat → Int32} : hS (putX h w) 264 (.inl (0, 5, .inl g)) = putX h (upC w 27 (upA (w.2.2 27) 2 g)) := by
  have e : hS (putC (putX h w) 261 (w.2.2 27)) (261 + 3) (.inl (0, 5, .inl g)) = _ := wA2
  rw [show putC (putX h w) 261 (w.2.2 27) = putX h w from X_C (k := 27) (by omega), show putC (putX h w) 261 (upA (w.2.2 27) 2 g) = putX h (upC w 27 (upA (w.2.2 27) 2 g)) from X_putC (k := 27) (by omega)] at e
  exact e
theorem xI265 {h : aH} {w : Xc} (hb : 293 ≤ h.1) : hI (putX h w) 265 = some (5, (w.2.2 27).2 3) := by
  have h1 : 265 < (putX h w).1 := by show 265 < h.1; omega
  unfold hI
  rw [if_pos h1]
  simp [putX, xcell, xcas, casA, cellC]
theorem xA265W {h : aH} {w : Xc} {f : Nat × (Nat → Int32) → Prop} {t : Wt f} (hb : 293 ≤ h.1) : optW (hI (putX h w) 265) f t = f (5, (w.2.2 27).2 3) := optW_of (xI265 hb)
theorem zA265 {h : aH} {w : Xc} {g : Nat → Int32} : hS (putX h w) 265 (.inl (0, 5, .inl g)) = putX h (upC w 27 (upA (w.2.2 27) 3 g)) := by
  have e : hS (putC (putX h w) 261 (w.2.2 27)) (261 + 4) (.inl (0, 5, .inl g)) = _ := wA3
  rw [show putC (putX h w) 261 (w.2.2 27) = putX h w from X_C (k := 27) (by omega), show putC (putX h w) 261 (upA (w.2.2 27) 3 g) = putX h (upC w 27 (upA (w.2.2 27) 3 g)) from X_putC (k := 27) (by omega)] at e
  exact e
theorem xI266 {h : aH} {w : Xc} (hb : 293 ≤ h.1) : hI (putX h w) 266 = some (5, (w.2.2 27).2 4) := by
  have h1 : 266 < (putX h w).1 := by show 266 < h.1; omega
  unfold hI
  rw [if_pos h1]
  simp [putX, xcell, xcas, casA, cellC]
theorem xA266W {h : aH} {w : Xc} {f : Nat × (Nat → Int32) → Prop} {t : Wt f} (hb : 293 ≤ h.1) : optW (hI (putX h w) 266) f t = f (5, (w.2.2 27).2 4) := optW_of (xI266 hb)
theorem zA266 {h : aH} {w : Xc} {g : Nat → Int32} : hS (putX h w) 266 (.inl (0, 5, .inl g)) = putX h (upC w 27 (upA (w.2.2 27) 4 g)) := by
  have e : hS (putC (putX h w) 261 (w.2.2 27)) (261 + 5) (.inl (0, 5, .inl g)) = _ := wA4
  rw [show putC (putX h w) 261 (w.2.2 27) = putX h w from X_C (k := 27) (by omega), show putC (putX h w) 261 (upA (w.2.2 27) 4 g) = putX h (upC w 27 (upA (w.2.2 27) 4 g)) from X_putC (k := 27) (by omega)] at e
  exact e
theorem xI267 {h : aH} {w : Xc} (hb : 293 ≤ h.1) : hI (putX h w) 267 = some (6, (w.2.2 27).2 5) := by
  have h1 : 267 < (putX h w).1 := by show 267 < h.1; omega
  unfold hI
  rw [if_pos h1]
  simp [putX, xcell, xcas, casA, cellC]
theorem xA267W {h : aH} {w : Xc} {f : Nat × (Nat → Int32) → Prop} {t : Wt f} (hb : 293 ≤ h.1) : optW (hI (putX h w) 267) f t = f (6, (w.2.2 27).2 5) := optW_of (xI267 hb)
theorem zA267 {h : aH} {w : Xc} {g : Nat → Int32} : hS (putX h w) 267 (.inl (0, 6, .inl g)) = putX h (upC w 27 (upA (w.2.2 27) 5 g)) := by
  have e : hS (putC (putX h w) 261 (w.2.2 27)) (261 + 6) (.inl (0, 6, .inl g)) = _ := wA5
  rw [show putC (putX h w) 261 (w.2.2 27) = putX h w from X_C (k := 27) (by omega), show putC (putX h w) 261 (upA (w.2.2 27) 5 g) = putX h (upC w 27 (upA (w.2.2 27) 5 g)) from X_putC (k := 27) (by omega)] at e
  exact e
theorem xI268 {h : aH} {w : Xc} (hb : 293 ≤ h.1) : hI (putX h w) 268 = some (6, (w.2.2 27).2 6) := by
  have h1 : 268 < (putX h w).1 := by show 268 < h.1; omega
  unfold hI
  rw [if_pos h1]
  simp [putX, xcell, xcas, casA, cellC]
theorem xA268W {h : aH} {w : Xc} {f : Nat × (Nat → Int32) → Prop} {t : Wt f} (hb : 293 ≤ h.1) : optW (hI (putX h w) 268) f t = f (6, (w.2.2 27).2 6) := optW_of (xI268 hb)
theorem zA268 {h : aH} {w : Xc} {g : Nat → Int32} : hS (putX h w) 268 (.inl (0, 6, .inl g)) = putX h (upC w 27 (upA (w.2.2 27) 6 g)) := by
  have e : hS (putC (putX h w) 261 (w.2.2 27)) (261 + 7) (.inl (0, 6, .inl g)) = _ := wA6
  rw [show putC (putX h w) 261 (w.2.2 27) = putX h w from X_C (k := 27) (by omega), show putC (putX h w) 261 (upA (w.2.2 27) 6 g) = putX h (upC w 27 (upA (w.2.2 27) 6 g)) from X_putC (k := 27) (by omega)] at e
  exact e
theorem xI269 {h : aH} {w : Xc} (hb : 293 ≤ h.1) : hI (putX h w) 269 = some (6, (w.2.2 27).2 7) := by
  have h1 : 269 < (putX h w).1 := by show 269 < h.1; omega
  unfold hI
  rw [if_pos h1]
  simp [putX, xcell, xcas, casA, cellC]
theorem xA269W {h : aH} {w : Xc} {f : Nat × (Nat → Int32) → Prop} {t : Wt f} (hb : 293 ≤ h.1) : optW (hI (putX h w) 269) f t = f (6, (w.2.2 27).2 7) := optW_of (xI269 hb)
theorem zA269 {h : aH} {w : Xc} {g : Nat → Int32} : hS (putX h w) 269 (.inl (0, 6, .inl g)) = putX h (upC w 27 (upA (w.2.2 27) 7 g)) := by
  have e : hS (putC (putX h w) 261 (w.2.2 27)) (261 + 8) (.inl (0, 6, .inl g)) = _ := wA7
  rw [show putC (putX h w) 261 (w.2.2 27) = putX h w from X_C (k := 27) (by omega), show putC (putX h w) 261 (upA (w.2.2 27) 7 g) = putX h (upC w 27 (upA (w.2.2 27) 7 g)) from X_putC (k := 27) (by omega)] at e
  exact e
theorem zC261 {h : aH} {w : Xc} {x0 x1 x2 x3 x4 x5 x6 : Int32} : hS (putX h w) 261 (.inr (2, [.int x0, .int x1, .int x2, .int x3, .ref 262, .ref 263, .ref 264, .ref 265, .ref 266, .int x4, .ref 267, .ref 268, .ref 269, .int x5, .int x6])) = putX h (upC w 27 (setC (w.2.2 27) x0 x1 x2 x3 x4 x5 x6)) := by
  have e : hS (putC (putX h w) 261 (w.2.2 27)) 261 (.inr (2, [.int x0, .int x1, .int x2, .int x3, .ref 262, .ref 263, .ref 264, .ref 265, .ref 266, .int x4, .ref 267, .ref 268, .ref 269, .int x5, .int x6])) = _ := wSx
  rw [show putC (putX h w) 261 (w.2.2 27) = putX h w from X_C (k := 27) (by omega), show putC (putX h w) 261 (setC (w.2.2 27) x0 x1 x2 x3 x4 x5 x6) = putX h (upC w 27 (setC (w.2.2 27) x0 x1 x2 x3 x4 x5 x6)) from X_putC (k := 27) (by omega)] at e
  exact e
theorem xH273 {h : aH} {w : Xc} (hb : 293 ≤ h.1) : hO (putX h w) 273 2 = some [.int ((w.2.2 28).1 0), .int ((w.2.2 28).1 1), .int ((w.2.2 28).1 2), .int ((w.2.2 28).1 3), .ref 274, .ref 275, .ref 276, .ref 277, .ref 278, .int ((w.2.2 28).1 4), .ref 279, .ref 280, .ref 281, .int ((w.2.2 28).1 5), .int ((w.2.2 28).1 6)] := by
  have h1 : 273 < (putX h w).1 := by show 273 < h.1; omega
  unfold hO
  rw [if_pos h1]
  simp [putX, xcell, xcas, casA, cellC]
theorem xO273W {h : aH} {w : Xc} {f : List Value → Prop} {t : Wt f} (hb : 293 ≤ h.1) : optW (hO (putX h w) 273 2) f t = f [.int ((w.2.2 28).1 0), .int ((w.2.2 28).1 1), .int ((w.2.2 28).1 2), .int ((w.2.2 28).1 3), .ref 274, .ref 275, .ref 276, .ref 277, .ref 278, .int ((w.2.2 28).1 4), .ref 279, .ref 280, .ref 281, .int ((w.2.2 28).1 5), .int ((w.2.2 28).1 6)] := optW_of (xH273 hb)
theorem xI274 {h : aH} {w : Xc} (hb : 293 ≤ h.1) : hI (putX h w) 274 = some (5, (w.2.2 28).2 0) := by
  have h1 : 274 < (putX h w).1 := by show 274 < h.1; omega
  unfold hI
  rw [if_pos h1]
  simp [putX, xcell, xcas, casA, cellC]
theorem xA274W {h : aH} {w : Xc} {f : Nat × (Nat → Int32) → Prop} {t : Wt f} (hb : 293 ≤ h.1) : optW (hI (putX h w) 274) f t = f (5, (w.2.2 28).2 0) := optW_of (xI274 hb)
theorem zA274 {h : aH} {w : Xc} {g : Nat → Int32} : hS (putX h w) 274 (.inl (0, 5, .inl g)) = putX h (upC w 28 (upA (w.2.2 28) 0 g)) := by
  have e : hS (putC (putX h w) 273 (w.2.2 28)) (273 + 1) (.inl (0, 5, .inl g)) = _ := wA0
  rw [show putC (putX h w) 273 (w.2.2 28) = putX h w from X_C (k := 28) (by omega), show putC (putX h w) 273 (upA (w.2.2 28) 0 g) = putX h (upC w 28 (upA (w.2.2 28) 0 g)) from X_putC (k := 28) (by omega)] at e
  exact e
theorem xI275 {h : aH} {w : Xc} (hb : 293 ≤ h.1) : hI (putX h w) 275 = some (5, (w.2.2 28).2 1) := by
  have h1 : 275 < (putX h w).1 := by show 275 < h.1; omega
  unfold hI
  rw [if_pos h1]
  simp [putX, xcell, xcas, casA, cellC]
theorem xA275W {h : aH} {w : Xc} {f : Nat × (Nat → Int32) → Prop} {t : Wt f} (hb : 293 ≤ h.1) : optW (hI (putX h w) 275) f t = f (5, (w.2.2 28).2 1) := optW_of (xI275 hb)
theorem zA275 {h : aH} {w : Xc} {g : Nat → Int32} : hS (putX h w) 275 (.inl (0, 5, .inl g)) = putX h (upC w 28 (upA (w.2.2 28) 1 g)) := by
  have e : hS (putC (putX h w) 273 (w.2.2 28)) (273 + 2) (.inl (0, 5, .inl g)) = _ := wA1
  rw [show putC (putX h w) 273 (w.2.2 28) = putX h w from X_C (k := 28) (by omega), show putC (putX h w) 273 (upA (w.2.2 28) 1 g) = putX h (upC w 28 (upA (w.2.2 28) 1 g)) from X_putC (k := 28) (by omega)] at e
  exact e
theorem xI276 {h : aH} {w : Xc} (hb : 293 ≤ h.1) : hI (putX h w) 276 = some (5, (w.2.2 28).2 2) := by
  have h1 : 276 < (putX h w).1 := by show 276 < h.1; omega
  unfold hI
  rw [if_pos h1]
  simp [putX, xcell, xcas, casA, cellC]
theorem xA276W {h : aH} {w : Xc} {f : Nat × (Nat → Int32) → Prop} {t : Wt f} (hb : 293 ≤ h.1) : optW (hI (putX h w) 276) f t = f (5, (w.2.2 28).2 2) := optW_of (xI276 hb)
theorem zA276 {h : aH} {w : Xc} {g : Nat → Int32} : hS (putX h w) 276 (.inl (0, 5, .inl g)) = putX h (upC w 28 (upA (w.2.2 28) 2 g)) := by
  have e : hS (putC (putX h w) 273 (w.2.2 28)) (273 + 3) (.inl (0, 5, .inl g)) = _ := wA2
  rw [show putC (putX h w) 273 (w.2.2 28) = putX h w from X_C (k := 28) (by omega), show putC (putX h w) 273 (upA (w.2.2 28) 2 g) = putX h (upC w 28 (upA (w.2.2 28) 2 g)) from X_putC (k := 28) (by omega)] at e
  exact e
theorem xI277 {h : aH} {w : Xc} (hb : 293 ≤ h.1) : hI (putX h w) 277 = some (5, (w.2.2 28).2 3) := by
  have h1 : 277 < (putX h w).1 := by show 277 < h.1; omega
  unfold hI
  rw [if_pos h1]
  simp [putX, xcell, xcas, casA, cellC]
theorem xA277W {h : aH} {w : Xc} {f : Nat × (Nat → Int32) → Prop} {t : Wt f} (hb : 293 ≤ h.1) : optW (hI (putX h w) 277) f t = f (5, (w.2.2 28).2 3) := optW_of (xI277 hb)
theorem zA277 {h : aH} {w : Xc} {g : Nat → Int32} : hS (putX h w) 277 (.inl (0, 5, .inl g)) = putX h (upC w 28 (upA (w.2.2 28) 3 g)) := by
  have e : hS (putC (putX h w) 273 (w.2.2 28)) (273 + 4) (.inl (0, 5, .inl g)) = _ := wA3
  rw [show putC (putX h w) 273 (w.2.2 28) = putX h w from X_C (k := 28) (by omega), show putC (putX h w) 273 (upA (w.2.2 28) 3 g) = putX h (upC w 28 (upA (w.2.2 28) 3 g)) from X_putC (k := 28) (by omega)] at e
  exact e
theorem xI278 {h : aH} {w : Xc} (hb : 293 ≤ h.1) : hI (putX h w) 278 = some (5, (w.2.2 28).2 4) := by
  have h1 : 278 < (putX h w).1 := by show 278 < h.1; omega
  unfold hI
  rw [if_pos h1]
  simp [putX, xcell, xcas, casA, cellC]
theorem xA278W {h : aH} {w : Xc} {f : Nat × (Nat → Int32) → Prop} {t : Wt f} (hb : 293 ≤ h.1) : optW (hI (putX h w) 278) f t = f (5, (w.2.2 28).2 4) := optW_of (xI278 hb)
theorem zA278 {h : aH} {w : Xc} {g : Nat → Int32} : hS (putX h w) 278 (.inl (0, 5, .inl g)) = putX h (upC w 28 (upA (w.2.2 28) 4 g)) := by
  have e : hS (putC (putX h w) 273 (w.2.2 28)) (273 + 5) (.inl (0, 5, .inl g)) = _ := wA4
  rw [show putC (putX h w) 273 (w.2.2 28) = putX h w from X_C (k := 28) (by omega), show putC (putX h w) 273 (upA (w.2.2 28) 4 g) = putX h (upC w 28 (upA (w.2.2 28) 4 g)) from X_putC (k := 28) (by omega)] at e
  exact e
theorem xI279 {h : aH} {w : Xc} (hb : 293 ≤ h.1) : hI (putX h w) 279 = some (6, (w.2.2 28).2 5) := by
  have h1 : 279 < (putX h w).1 := by show 279 < h.1; omega
  unfold hI
  rw [if_pos h1]
  simp [putX, xcell, xcas, casA, cellC]
theorem xA279W {h : aH} {w : Xc} {f : Nat × (Nat → Int32) → Prop} {t : Wt f} (hb : 293 ≤ h.1) : optW (hI (putX h w) 279) f t = f (6, (w.2.2 28).2 5) := optW_of (xI279 hb)
theorem zA279 {h : aH} {w : Xc} {g : Nat → Int32} : hS (putX h w) 279 (.inl (0, 6, .inl g)) = putX h (upC w 28 (upA (w.2.2 28) 5 g)) := by
  have e : hS (putC (putX h w) 273 (w.2.2 28)) (273 + 6) (.inl (0, 6, .inl g)) = _ := wA5
  rw [show putC (putX h w) 273 (w.2.2 28) = putX h w from X_C (k := 28) (by omega), show putC (putX h w) 273 (upA (w.2.2 28) 5 g) = putX h (upC w 28 (upA (w.2.2 28) 5 g)) from X_putC (k := 28) (by omega)] at e
  exact e
theorem xI280 {h : aH} {w : Xc} (hb : 293 ≤ h.1) : hI (putX h w) 280 = some (6, (w.2.2 28).2 6) := by
  have h1 : 280 < (putX h w).1 := by show 280 < h.1; omega
  unfold hI
  rw [if_pos h1]
  simp [putX, xcell, xcas, casA, cellC]
theorem xA280W {h : aH} {w : Xc} {f : Nat × (Nat → Int32) → Prop} {t : Wt f} (hb : 293 ≤ h.1) : optW (hI (putX h w) 280) f t = f (6, (w.2.2 28).2 6) := optW_of (xI280 hb)
theorem zA280 {h : aH} {w : Xc} {g : Nat → Int32} : hS (putX h w) 280 (.inl (0, 6, .inl g)) = putX h (upC w 28 (upA (w.2.2 28) 6 g)) := by
  have e : hS (putC (putX h w) 273 (w.2.2 28)) (273 + 7) (.inl (0, 6, .inl g)) = _ := wA6
  rw [show putC (putX h w) 273 (w.2.2 28) = putX h w from X_C (k := 28) (by omega), show putC (putX h w) 273 (upA (w.2.2 28) 6 g) = putX h (upC w 28 (upA (w.2.2 28) 6 g)) from X_putC (k := 28) (by omega)] at e
  exact e
theorem xI281 {h : aH} {w : Xc} (hb : 293 ≤ h.1) : hI (putX h w) 281 = some (6, (w.2.2 28).2 7) := by
  have h1 : 281 < (putX h w).1 := by show 281 < h.1; omega
  unfold hI
  rw [if_pos h1]
  simp [putX, xcell, xcas, casA, cellC]
theorem xA281W {h : aH} {w : Xc} {f : Nat × (Nat → Int32) → Prop} {t : Wt f} (hb : 293 ≤ h.1) : optW (hI (putX h w) 281) f t = f (6, (w.2.2 28).2 7) := optW_of (xI281 hb)
theorem zA281 {h : aH} {w : Xc} {g : Nat → Int32} : hS (putX h w) 281 (.inl (0, 6, .inl g)) = putX h (upC w 28 (upA (w.2.2 28) 7 g)) := by
  have e : hS (putC (putX h w) 273 (w.2.2 28)) (273 + 8) (.inl (0, 6, .inl g)) = _ := wA7
  rw [show putC (putX h w) 273 (w.2.2 28) = putX h w from X_C (k := 28) (by omega), show putC (putX h w) 273 (upA (w.2.2 28) 7 g) = putX h (upC w 28 (upA (w.2.2 28) 7 g)) from X_putC (k := 28) (by omega)] at e
  exact e
theorem zC273 {h : aH} {w : Xc} {x0 x1 x2 x3 x4 x5 x6 : Int32} : hS (putX h w) 273 (.inr (2, [.int x0, .int x1, .int x2, .int x3, .ref 274, .ref 275, .ref 276, .ref 277, .ref 278, .int x4, .ref 279, .ref 280, .ref 281, .int x5, .int x6])) = putX h (upC w 28 (setC (w.2.2 28) x0 x1 x2 x3 x4 x5 x6)) := by
  have e : hS (putC (putX h w) 273 (w.2.2 28)) 273 (.inr (2, [.int x0, .int x1, .int x2, .int x3, .ref 274, .ref 275, .ref 276, .ref 277, .ref 278, .int x4, .ref 279, .ref 280, .ref 281, .int x5, .int x6])) = _ := wSx
  rw [show putC (putX h w) 273 (w.2.2 28) = putX h w from X_C (k := 28) (by omega), show putC (putX h w) 273 (setC (w.2.2 28) x0 x1 x2 x3 x4 x5 x6) = putX h (upC w 28 (setC (w.2.2 28) x0 x1 x2 x3 x4 x5 x6)) from X_putC (k := 28) (by omega)] at e
  exact e
theorem xH282 {h : aH} {w : Xc} (hb : 293 ≤ h.1) : hO (putX h w) 282 2 = some [.int ((w.2.2 29).1 0), .int ((w.2.2 29).1 1), .int ((w.2.2 29).1 2), .int ((w.2.2 29).1 3), .ref 283, .ref 284, .ref 285, .ref 286, .ref 287, .int ((w.2.2 29).1 4), .ref 288, .ref 289, .ref 290, .int ((w.2.2 29).1 5), .int ((w.2.2 29).1 6)] := by
  have h1 : 282 < (putX h w).1 := by show 282 < h.1; omega
  unfold hO
  rw [if_pos h1]
  simp [putX, xcell, xcas, casA, cellC]
theorem xO282W {h : aH} {w : Xc} {f : List Value → Prop} {t : Wt f} (hb : 293 ≤ h.1) : optW (hO (putX h w) 282 2) f t = f [.int ((w.2.2 29).1 0), .int ((w.2.2 29).1 1), .int ((w.2.2 29).1 2), .int ((w.2.2 29).1 3), .ref 283, .ref 284, .ref 285, .ref 286, .ref 287, .int ((w.2.2 29).1 4), .ref 288, .ref 289, .ref 290, .int ((w.2.2 29).1 5), .int ((w.2.2 29).1 6)] := optW_of (xH282 hb)
theorem xI283 {h : aH} {w : Xc} (hb : 293 ≤ h.1) : hI (putX h w) 283 = some (5, (w.2.2 29).2 0) := by
  have h1 : 283 < (putX h w).1 := by show 283 < h.1; omega
  unfold hI
  rw [if_pos h1]
  simp [putX, xcell, xcas, casA, cellC]
theorem xA283W {h : aH} {w : Xc} {f : Nat × (Nat → Int32) → Prop} {t : Wt f} (hb : 293 ≤ h.1) : optW (hI (putX h w) 283) f t = f (5, (w.2.2 29).2 0) := optW_of (xI283 hb)
theorem zA283 {h : aH} {w : Xc} {g : Nat → Int32} : hS (putX h w) 283 (.inl (0, 5, .inl g)) = putX h (upC w 29 (upA (w.2.2 29) 0 g)) := by
  have e : hS (putC (putX h w) 282 (w.2.2 29)) (282 + 1) (.inl (0, 5, .inl g)) = _ := wA0
  rw [show putC (putX h w) 282 (w.2.2 29) = putX h w from X_C (k := 29) (by omega), show putC (putX h w) 282 (upA (w.2.2 29) 0 g) = putX h (upC w 29 (upA (w.2.2 29) 0 g)) from X_putC (k := 29) (by omega)] at e
  exact e
theorem xI284 {h : aH} {w : Xc} (hb : 293 ≤ h.1) : hI (putX h w) 284 = some (5, (w.2.2 29).2 1) := by
  have h1 : 284 < (putX h w).1 := by show 284 < h.1; omega
  unfold hI
  rw [if_pos h1]
  simp [putX, xcell, xcas, casA, cellC]
theorem xA284W {h : aH} {w : Xc} {f : Nat × (Nat → Int32) → Prop} {t : Wt f} (hb : 293 ≤ h.1) : optW (hI (putX h w) 284) f t = f (5, (w.2.2 29).2 1) := optW_of (xI284 hb)
theorem zA284 {h : aH} {w : Xc} {g : Nat → Int32} : hS (putX h w) 284 (.inl (0, 5, .inl g)) = putX h (upC w 29 (upA (w.2.2 29) 1 g)) := by
  have e : hS (putC (putX h w) 282 (w.2.2 29)) (282 + 2) (.inl (0, 5, .inl g)) = _ := wA1
  rw [show putC (putX h w) 282 (w.2.2 29) = putX h w from X_C (k := 29) (by omega), show putC (putX h w) 282 (upA (w.2.2 29) 1 g) = putX h (upC w 29 (upA (w.2.2 29) 1 g)) from X_putC (k := 29) (by omega)] at e
  exact e
theorem xI285 {h : aH} {w : Xc} (hb : 293 ≤ h.1) : hI (putX h w) 285 = some (5, (w.2.2 29).2 2) := by
  have h1 : 285 < (putX h w).1 := by show 285 < h.1; omega
  unfold hI
  rw [if_pos h1]
  simp [putX, xcell, xcas, casA, cellC]
theorem xA285W {h : aH} {w : Xc} {f : Nat × (Nat → Int32) → Prop} {t : Wt f} (hb : 293 ≤ h.1) : optW (hI (putX h w) 285) f t = f (5, (w.2.2 29).2 2) := optW_of (xI285 hb)
theorem zA285 {h : aH} {w : Xc} {g : Nat → Int32} : hS (putX h w) 285 (.inl (0, 5, .inl g)) = putX h (upC w 29 (upA (w.2.2 29) 2 g)) := by
  have e : hS (putC (putX h w) 282 (w.2.2 29)) (282 + 3) (.inl (0, 5, .inl g)) = _ := wA2
  rw [show putC (putX h w) 282 (w.2.2 29) = putX h w from X_C (k := 29) (by omega), show putC (putX h w) 282 (upA (w.2.2 29) 2 g) = putX h (upC w 29 (upA (w.2.2 29) 2 g)) from X_putC (k := 29) (by omega)] at e
  exact e
theorem xI286 {h : aH} {w : Xc} (hb : 293 ≤ h.1) : hI (putX h w) 286 = some (5, (w.2.2 29).2 3) := by
  have h1 : 286 < (putX h w).1 := by show 286 < h.1; omega
  unfold hI
  rw [if_pos h1]
  simp [putX, xcell, xcas, casA, cellC]
theorem xA286W {h : aH} {w : Xc} {f : Nat × (Nat → Int32) → Prop} {t : Wt f} (hb : 293 ≤ h.1) : optW (hI (putX h w) 286) f t = f (5, (w.2.2 29).2 3) := optW_of (xI286 hb)
theorem zA286 {h : aH} {w : Xc} {g : Nat → Int32} : hS (putX h w) 286 (.inl (0, 5, .inl g)) = putX h (upC w 29 (upA (w.2.2 29) 3 g)) := by
  have e : hS (putC (putX h w) 282 (w.2.2 29)) (282 + 4) (.inl (0, 5, .inl g)) = _ := wA3
  rw [show putC (putX h w) 282 (w.2.2 29) = putX h w from X_C (k := 29) (by omega), show putC (putX h w) 282 (upA (w.2.2 29) 3 g) = putX h (upC w 29 (upA (w.2.2 29) 3 g)) from X_putC (k := 29) (by omega)] at e
  exact e
theorem xI287 {h : aH} {w : Xc} (hb : 293 ≤ h.1) : hI (putX h w) 287 = some (5, (w.2.2 29).2 4) := by
  have h1 : 287 < (putX h w).1 := by show 287 < h.1; omega
  unfold hI
  rw [if_pos h1]
  simp [putX, xcell, xcas, casA, cellC]
theorem xA287W {h : aH} {w : Xc} {f : Nat × (Nat → Int32) → Prop} {t : Wt f} (hb : 293 ≤ h.1) : optW (hI (putX h w) 287) f t = f (5, (w.2.2 29).2 4) := optW_of (xI287 hb)
theorem zA287 {h : aH} {w : Xc} {g : Nat → Int32} : hS (putX h w) 287 (.inl (0, 5, .inl g)) = putX h (upC w 29 (upA (w.2.2 29) 4 g)) := by
  have e : hS (putC (putX h w) 282 (w.2.2 29)) (282 + 5) (.inl (0, 5, .inl g)) = _ := wA4
  rw [show putC (putX h w) 282 (w.2.2 29) = putX h w from X_C (k := 29) (by omega), show putC (putX h w) 282 (upA (w.2.2 29) 4 g) = putX h (upC w 29 (upA (w.2.2 29) 4 g)) from X_putC (k := 29) (by omega)] at e
  exact e
theorem xI288 {h : aH} {w : Xc} (hb : 293 ≤ h.1) : hI (putX h w) 288 = some (6, (w.2.2 29).2 5) := by
  have h1 : 288 < (putX h w).1 := by show 288 < h.1; omega
  unfold hI
  rw [if_pos h1]
  simp [putX, xcell, xcas, casA, cellC]
theorem xA288W {h : aH} {w : Xc} {f : Nat × (Nat → Int32) → Prop} {t : Wt f} (hb : 293 ≤ h.1) : optW (hI (putX h w) 288) f t = f (6, (w.2.2 29).2 5) := optW_of (xI288 hb)
theorem zA288 {h : aH} {w : Xc} {g : Nat → Int32} : hS (putX h w) 288 (.inl (0, 6, .inl g)) = putX h (upC w 29 (upA (w.2.2 29) 5 g)) := by
  have e : hS (putC (putX h w) 282 (w.2.2 29)) (282 + 6) (.inl (0, 6, .inl g)) = _ := wA5
  rw [show putC (putX h w) 282 (w.2.2 29) = putX h w from X_C (k := 29) (by omega), show putC (putX h w) 282 (upA (w.2.2 29) 5 g) = putX h (upC w 29 (upA (w.2.2 29) 5 g)) from X_putC (k := 29) (by omega)] at e
  exact e
theorem xI289 {h : aH} {w : Xc} (hb : 293 ≤ h.1) : hI (putX h w) 289 = some (6, (w.2.2 29).2 6) := by
  have h1 : 289 < (putX h w).1 := by show 289 < h.1; omega
  unfold hI
  rw [if_pos h1]
  simp [putX, xcell, xcas, casA, cellC]
theorem xA289W {h : aH} {w : Xc} {f : Nat × (Nat → Int32) → Prop} {t : Wt f} (hb : 293 ≤ h.1) : optW (hI (putX h w) 289) f t = f (6, (w.2.2 29).2 6) := optW_of (xI289 hb)
theorem zA289 {h : aH} {w : Xc} {g : Nat → Int32} : hS (putX h w) 289 (.inl (0, 6, .inl g)) = putX h (upC w 29 (upA (w.2.2 29) 6 g)) := by
  have e : hS (putC (putX h w) 282 (w.2.2 29)) (282 + 7) (.inl (0, 6, .inl g)) = _ := wA6
  rw [show putC (putX h w) 282 (w.2.2 29) = putX h w from X_C (k := 29) (by omega), show putC (putX h w) 282 (upA (w.2.2 29) 6 g) = putX h (upC w 29 (upA (w.2.2 29) 6 g)) from X_putC (k := 29) (by omega)] at e
  exact e
theorem xI290 {h : aH} {w : Xc} (hb : 293 ≤ h.1) : hI (putX h w) 290 = some (6, (w.2.2 29).2 7) := by
  have h1 : 290 < (putX h w).1 := by show 290 < h.1; omega
  unfold hI
  rw [if_pos h1]
  simp [putX, xcell, xcas, casA, cellC]
theorem xA290W {h : aH} {w : Xc} {f : Nat × (Nat → Int32) → Prop} {t : Wt f} (hb : 293 ≤ h.1) : optW (hI (putX h w) 290) f t = f (6, (w.2.2 29).2 7) := optW_of (xI290 hb)
theorem zA290 {h : aH} {w : Xc} {g : Nat → Int32} : hS (putX h w) 290 (.inl (0, 6, .inl g)) = putX h (upC w 29 (upA (w.2.2 29) 7 g)) := by
  have e : hS (putC (putX h w) 282 (w.2.2 29)) (282 + 8) (.inl (0, 6, .inl g)) = _ := wA7
  rw [show putC (putX h w) 282 (w.2.2 29) = putX h w from X_C (k := 29) (by omega), show putC (putX h w) 282 (upA (w.2.2 29) 7 g) = putX h (upC w 29 (upA (w.2.2 29) 7 g)) from X_putC (k := 29) (by omega)] at e
  exact e
theorem zC282 {h : aH} {w : Xc} {x0 x1 x2 x3 x4 x5 x6 : Int32} : hS (putX h w) 282 (.inr (2, [.int x0, .int x1, .int x2, .int x3, .ref 283, .ref 284, .ref 285, .ref 286, .ref 287, .int x4, .ref 288, .ref 289, .ref 290, .int x5, .int x6])) = putX h (upC w 29 (setC (w.2.2 29) x0 x1 x2 x3 x4 x5 x6)) := by
  have e : hS (putC (putX h w) 282 (w.2.2 29)) 282 (.inr (2, [.int x0, .int x1, .int x2, .int x3, .ref 283, .ref 284, .ref 285, .ref 286, .ref 287, .int x4, .ref 288, .ref 289, .ref 290, .int x5, .int x6])) = _ := wSx
  rw [show putC (putX h w) 282 (w.2.2 29) = putX h w from X_C (k := 29) (by omega), show putC (putX h w) 282 (setC (w.2.2 29) x0 x1 x2 x3 x4 x5 x6) = putX h (upC w 29 (setC (w.2.2 29) x0 x1 x2 x3 x4 x5 x6)) from X_putC (k := 29) (by omega)] at e
  exact e
theorem X_hS {h : aH} {w w' : Xc} {a : Nat} {v : aC} (ha : a ≤ 292) (h0 : xcas a = 99) (h1 : xoth w' a = v) (h2 : ∀ q, q ≠ a → xcas q = 99 → xoth w' q = xoth w q) (h3 : w'.2.2 = w.2.2) : hS (putX h w) a v = putX h w' := by
  unfold hS putX
  refine congrArg (fun z => (h.1, h.2.1, z)) ?_
  funext q
  dsimp only
  by_cases hq : q = a
  · subst hq
    rw [if_pos rfl, if_pos ha]
    unfold xcell
    rw [if_pos h0, h1]
  · rw [if_neg hq]
    split
    · unfold xcell
      split
      · rename_i hx
        exact (h2 q hq hx).symm
      · rw [h3]
    · rfl
theorem zS0 {h : aH} {w : Xc} {x0 x1 : Int32} : hS (putX h w) 0 (.inr (6, [.ref 1, .ref 13, .ref 24, .ref 33, .ref 251, .ref 272, .ref 291, .int x0, .int x1])) = putX h (upX w 0 (vec2 x0 x1)) := X_hS (by omega) (by decide) (by simp [xoth, upX, vec2]) (fun q hq _ => by simp [xoth, upX, hq]) rfl
theorem zS13 {h : aH} {w : Xc} {x0 x1 x2 x3 : Int32} : hS (putX h w) 13 (.inr (4, [.ref 14, .ref 23, .int x0, .int x1, .int x2, .int x3])) = putX h (upX w 1 (vec4 x0 x1 x2 x3)) := X_hS (by omega) (by decide) (by simp [xoth, upX, vec4]) (fun q hq _ => by simp [xoth, upX, hq]) rfl
theorem zS33 {h : aH} {w : Xc} {x0 x1 : Int32} : hS (putX h w) 33 (.inr (0, [.ref 34, .int x0, .int x1])) = putX h (upX w 2 (vec2 x0 x1)) := X_hS (by omega) (by decide) (by simp [xoth, upX, vec2]) (fun q hq _ => by simp [xoth, upX, hq]) rfl
theorem zS251 {h : aH} {w : Xc} {x0 x1 : Int32} : hS (putX h w) 251 (.inr (3, [.ref 252, .ref 261, .ref 270, .ref 271, .int x0, .int x1])) = putX h (upX w 3 (vec2 x0 x1)) := X_hS (by omega) (by decide) (by simp [xoth, upX, vec2]) (fun q hq _ => by simp [xoth, upX, hq]) rfl
theorem zS291 {h : aH} {w : Xc} {x0 x1 x2 x3 x4 : Int32} : hS (putX h w) 291 (.inr (1, [.ref 292, .int x0, .int x1, .int x2, .int x3, .int x4])) = putX h (upX w 4 (vec5 x0 x1 x2 x3 x4)) := X_hS (by omega) (by decide) (by simp [xoth, upX, vec5]) (fun q hq _ => by simp [xoth, upX, hq]) rfl
theorem zA11 {h : aH} {w : Xc} {g : Nat → Int32} : hS (putX h w) 11 (.inl (0, 8, .inl g)) = putX h (upR w 8 g) := by
  refine X_hS (by omega) (by decide) (by simp [xoth, upR]) (fun q hq _ => ?_) rfl
  by_cases hr : 3 ≤ q ∧ q ≤ 10
  · have hj : ¬ q - 3 = 8 := by omega
    simp [xoth, upR, hq, hr, hj]
  · simp [xoth, upR, hq, hr]
theorem zA12 {h : aH} {w : Xc} {g : Nat → Int32} : hS (putX h w) 12 (.inl (0, 8, .inl g)) = putX h (upR w 9 g) := by
  refine X_hS (by omega) (by decide) (by simp [xoth, upR]) (fun q hq _ => ?_) rfl
  by_cases hr : 3 ≤ q ∧ q ≤ 10
  · have hj : ¬ q - 3 = 9 := by omega
    simp [xoth, upR, hq, hr, hj]
  · simp [xoth, upR, hq, hr]
theorem zA23 {h : aH} {w : Xc} {g : Nat → Int32} : hS (putX h w) 23 (.inl (0, 120, .inl g)) = putX h (upR w 10 g) := by
  refine X_hS (by omega) (by decide) (by simp [xoth, upR]) (fun q hq _ => ?_) rfl
  by_cases hr : 3 ≤ q ∧ q ≤ 10
  · have hj : ¬ q - 3 = 10 := by omega
    simp [xoth, upR, hq, hr, hj]
  · simp [xoth, upR, hq, hr]
theorem zA270 {h : aH} {w : Xc} {g : Nat → Int32} : hS (putX h w) 270 (.inl (0, 32, .inl g)) = putX h (upR w 11 g) := by
  refine X_hS (by omega) (by decide) (by simp [xoth, upR]) (fun q hq _ => ?_) rfl
  by_cases hr : 3 ≤ q ∧ q ≤ 10
  · have hj : ¬ q - 3 = 11 := by omega
    simp [xoth, upR, hq, hr, hj]
  · simp [xoth, upR, hq, hr]
theorem zA271 {h : aH} {w : Xc} {g : Nat → Int32} : hS (putX h w) 271 (.inl (0, 12, .inl g)) = putX h (upR w 12 g) := by
  refine X_hS (by omega) (by decide) (by simp [xoth, upR]) (fun q hq _ => ?_) rfl
  by_cases hr : 3 ≤ q ∧ q ≤ 10
  · have hj : ¬ q - 3 = 12 := by omega
    simp [xoth, upR, hq, hr, hj]
  · simp [xoth, upR, hq, hr]
theorem zA292 {h : aH} {w : Xc} {g : Nat → Int32} : hS (putX h w) 292 (.inl (0, 16, .inl g)) = putX h (upR w 13 g) := by
  refine X_hS (by omega) (by decide) (by simp [xoth, upR]) (fun q hq _ => ?_) rfl
  by_cases hr : 3 ≤ q ∧ q ≤ 10
  · have hj : ¬ q - 3 = 13 := by omega
    simp [xoth, upR, hq, hr, hj]
  · simp [xoth, upR, hq, hr]
theorem zItem {h : aH} {w : Xc} {r : Nat} {g : Nat → Int32} (hr : r < 8) : hS (putX h w) (3 + r) (.inl (0, 40, .inl g)) = putX h (upR w r g) := by
  have n8 : ¬ 8 = r := by omega
  have n9 : ¬ 9 = r := by omega
  have n10 : ¬ 10 = r := by omega
  have n11 : ¬ 11 = r := by omega
  have n12 : ¬ 12 = r := by omega
  have n13 : ¬ 13 = r := by omega
  refine X_hS (by omega) ?_ ?_ (fun q hq _ => ?_) rfl
  · unfold xcas
    repeat' split
    all_goals omega
  · unfold xoth
    simp (disch := omega) only [if_neg]
    rw [if_pos (by omega), show 3 + r - 3 = r by omega]
    simp [upR]
  · by_cases hx : 3 ≤ q ∧ q ≤ 10
    · have hj : ¬ q - 3 = r := by omega
      simp [xoth, upR, hx, hj, n8, n9, n10, n11, n12, n13]
    · simp [xoth, upR, hx, n8, n9, n10, n11, n12, n13]
theorem yx16_24 {w : Xc} {h : aH} {f : Option Value × aH → Prop} {t : Wt f} (hb : 293 ≤ h.1) : optW (cfOf cl2 16 [.ref 24] (putX h w)) f t = f (some (.int (b01 (0 < ((w.2.2 1).1 3)))), putX h w) := by
  have h1 : fdI (putX h w) 24 2 3 = some ((w.2.2 1).1 3) := by unfold fdI; rw [xH24 hb]; rfl
  have h2 : cfOf cl2 16 [.ref 24] (putX h w) = f16 [.ref 24] (putX h w) := rfl
  rw [h2]
  unfold f16
  dsimp only
  rw [h1]
  rfl
theorem yx16_273 {w : Xc} {h : aH} {f : Option Value × aH → Prop} {t : Wt f} (hb : 293 ≤ h.1) : optW (cfOf cl2 16 [.ref 273] (putX h w)) f t = f (some (.int (b01 (0 < ((w.2.2 28).1 3)))), putX h w) := by
  have h1 : fdI (putX h w) 273 2 3 = some ((w.2.2 28).1 3) := by unfold fdI; rw [xH273 hb]; rfl
  have h2 : cfOf cl2 16 [.ref 273] (putX h w) = f16 [.ref 273] (putX h w) := rfl
  rw [h2]
  unfold f16
  dsimp only
  rw [h1]
  rfl
theorem yx16_282 {w : Xc} {h : aH} {f : Option Value × aH → Prop} {t : Wt f} (hb : 293 ≤ h.1) : optW (cfOf cl2 16 [.ref 282] (putX h w)) f t = f (some (.int (b01 (0 < ((w.2.2 29).1 3)))), putX h w) := by
  have h1 : fdI (putX h w) 282 2 3 = some ((w.2.2 29).1 3) := by unfold fdI; rw [xH282 hb]; rfl
  have h2 : cfOf cl2 16 [.ref 282] (putX h w) = f16 [.ref 282] (putX h w) := rfl
  rw [h2]
  unfold f16
  dsimp only
  rw [h1]
  rfl
theorem yx17_24 {w : Xc} {v : Int32} {h : aH} {f : Option Value × aH → Prop} {t : Wt f} (hb : 293 ≤ h.1) : optW (cfOf cl2 17 [.ref 24, .int v] (putX h w)) f t = f (some (.int (b01 (Int32.ofInt 0 ≤ v ∧ v ≤ ((w.2.2 1).1 3) - Int32.ofInt 1))), putX h w) := by
  have h1 : fdI (putX h w) 24 2 3 = some ((w.2.2 1).1 3) := by unfold fdI; rw [xH24 hb]; rfl
  have h2 : cfOf cl2 17 [.ref 24, .int v] (putX h w) = f17 [.ref 24, .int v] (putX h w) := rfl
  rw [h2]
  unfold f17
  dsimp only
  rw [h1]
  rfl
theorem yx18_24 {w : Xc} {v : Int32} {h : aH} {f : Option Value × aH → Prop} {t : Wt f} (hb : 293 ≤ h.1) : optW (cfOf cl2 18 [.ref 24, .int v] (putX h w)) f t = f (some (.int (b01 (Int32.ofInt 0 ≤ v ∧ v ≤ ((w.2.2 1).1 4) - Int32.ofInt 1))), putX h w) := by
  have h1 : fdI (putX h w) 24 2 9 = some ((w.2.2 1).1 4) := by unfold fdI; rw [xH24 hb]; rfl
  have h2 : cfOf cl2 18 [.ref 24, .int v] (putX h w) = f18 [.ref 24, .int v] (putX h w) := rfl
  rw [h2]
  unfold f18
  dsimp only
  rw [h1]
  rfl
theorem yx19_24 {w : Xc} {v : Int32} {h : aH} {f : Option Value × aH → Prop} {t : Wt f} (hb : 293 ≤ h.1) : optW (cfOf cl2 19 [.ref 24, .int v] (putX h w)) f t = f (some (.int (b01 (Int32.ofInt 0 ≤ v ∧ v ≤ ((w.2.2 1).1 0) - Int32.ofInt 1))), putX h w) := by
  have h1 : fdI (putX h w) 24 2 0 = some ((w.2.2 1).1 0) := by unfold fdI; rw [xH24 hb]; rfl
  have h2 : cfOf cl2 19 [.ref 24, .int v] (putX h w) = f19 [.ref 24, .int v] (putX h w) := rfl
  rw [h2]
  unfold f19
  dsimp only
  rw [h1]
  rfl
theorem yx20_24 {w : Xc} {v : Int32} {h : aH} {f : Option Value × aH → Prop} {t : Wt f} (hb : 293 ≤ h.1) : optW (cfOf cl2 20 [.ref 24, .int v] (putX h w)) f t = f (some (.int (b01 (((((w.2.2 1).1 5) >>> (v &&& 31)) &&& Int32.ofInt 1) = Int32.ofInt 1))), putX h w) := by
  have h1 : fdI (putX h w) 24 2 13 = some ((w.2.2 1).1 5) := by unfold fdI; rw [xH24 hb]; rfl
  have h2 : cfOf cl2 20 [.ref 24, .int v] (putX h w) = f20 [.ref 24, .int v] (putX h w) := rfl
  rw [h2]
  unfold f20
  dsimp only
  rw [h1]
  rfl
theorem yx20_252 {w : Xc} {v : Int32} {h : aH} {f : Option Value × aH → Prop} {t : Wt f} (hb : 293 ≤ h.1) : optW (cfOf cl2 20 [.ref 252, .int v] (putX h w)) f t = f (some (.int (b01 (((((w.2.2 26).1 5) >>> (v &&& 31)) &&& Int32.ofInt 1) = Int32.ofInt 1))), putX h w) := by
  have h1 : fdI (putX h w) 252 2 13 = some ((w.2.2 26).1 5) := by unfold fdI; rw [xH252 hb]; rfl
  have h2 : cfOf cl2 20 [.ref 252, .int v] (putX h w) = f20 [.ref 252, .int v] (putX h w) := rfl
  rw [h2]
  unfold f20
  dsimp only
  rw [h1]
  rfl

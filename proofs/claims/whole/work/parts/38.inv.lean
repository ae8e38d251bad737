/-! what a run of calls holds, told once for both sides: rows (sizes, lanes, items), finding and fault, tape, castle (read or not), acts (how many, next place, by age), images, trace -/
abbrev Rw : Type := (Nat → Int) × (Nat → Nat) × (Nat → Nat → Int32)
abbrev Sg : Type := Rw × (Int32 × Int32) × (Nat × (Nat → Nat)) × (Bool × Kc) × (Nat × Nat × (Nat → Kc)) × (Nat → Option Kc) × (Nat × (Nat → Int32))
def K00 : Kc := (fun _ => 0, fun _ _ => 0)
def KOk (K : Kc) : Prop := KW K ∧ 1 ≤ K.1 3 ∧ K.1 2 ≤ 999 ∧ ∀ h, h < K.1 3 → K.2 3 h ≠ 1 → K.2 4 h = 0
def sLw (K K' : Kc) : Prop := K.1 0 = K'.1 0 ∧ K.1 1 = K'.1 1 ∧ K.1 3 = K'.1 3 ∧ K.1 4 = K'.1 4 ∧ (∀ h, K.2 0 h = K'.2 0 h) ∧ ∀ a, K.2 6 a = K'.2 6 a
def rOk (R : Rw) : Prop := ∀ r, r < 8 → -1 ≤ R.1 r ∧ R.1 r ≤ 40 ∧ R.2.1 r ≤ 2
def tOk (T : Nat × (Nat → Nat)) : Prop := T.1 ≤ 120 ∧ ∀ i, i < T.1 → T.2 i < 256
def cOk (C : Bool × Kc) : Prop := (C.1 = true ∧ KOk C.2) ∨ C = (false, K00)
def aOk (A : Nat × Nat × (Nat → Kc)) (C : Bool × Kc) : Prop := A.1 ≤ 24 ∧ A.2.1 < 24 ∧ ∀ j, j < A.1 → C.1 = true ∧ KOk (A.2.2 j) ∧ sLw (A.2.2 j) C.2
def iOk (I : Nat → Option Kc) (C : Bool × Kc) : Prop := ∀ k K, I k = some K → C.1 = true ∧ KOk K
def SOk (s : Sg) : Prop := rOk s.1 ∧ tOk s.2.2.1 ∧ cOk s.2.2.2.1 ∧ aOk s.2.2.2.2.1 s.2.2.2.1 ∧ iOk s.2.2.2.2.2.1 s.2.2.2.1 ∧ s.2.2.2.2.2.2.1 ≤ 16
def XsR (v : Nat → Nat → Int32) (R : Rw) : Prop := ∀ r, r < 8 → v 9 r = Int32.ofInt (R.1 r) ∧ v 8 r = Int32.ofInt (R.2.1 r : Int) ∧ ∀ i, i < 40 → v r i = R.2.2 r i
def XsF (v : Nat → Int32) (F : Int32 × Int32) : Prop := v 0 = F.2 ∧ v 1 = F.1
def XsT (l : Int32) (t : Nat → Int32) (T : Nat × (Nat → Nat)) : Prop := l = Int32.ofInt (T.1 : Int) ∧ ∀ i, i < T.1 → t i = Int32.ofInt (T.2 i : Int)
def XsN (c : Cc) (C : Bool × Kc) : Prop := ∃ l, CK c C.2 l
def XsA (v : Nat → Int32) (cs : Nat → Cc) (A : Nat × Nat × (Nat → Kc)) : Prop := v 0 = Int32.ofInt (A.2.1 : Int) ∧ v 1 = Int32.ofInt (A.1 : Int) ∧ ∀ j, j < A.1 → ∃ l, CK (cs (2 + (A.2.1 + 23 - j) % 24)) (A.2.2 j) l
def XsM (c0 c1 : Cc) (I : Nat → Option Kc) : Prop := (match I 0 with
  | none => c0.1 3 = Int32.ofInt 0
  | some K => ∃ l, CK c0 K l) ∧ (match I 1 with
  | none => c1.1 3 = Int32.ofInt 0
  | some K => ∃ l, CK c1 K l)
def XsB (n : Int32) (t : Nat → Int32) (B : Nat × (Nat → Int32)) : Prop := n = Int32.ofInt (B.1 : Int) ∧ ∀ i, i < B.1 → t i = B.2 i
def XsD (c : Cc) : Prop := c.1 2 = Int32.ofInt 0 ∧ c.1 5 = Int32.ofInt 0 ∧ c.1 6 = Int32.ofInt 0 ∧ ∀ h, h < 5 → c.2 2 h = Int32.ofInt 0 ∧ c.2 3 h = Int32.ofInt 0 ∧ c.2 4 h = Int32.ofInt 0
def XI (w : Xc) (s : Sg) : Prop := XsR w.2.1 s.1 ∧ XsF (w.1 0) s.2.1 ∧ XsT (w.1 1 0) (w.2.1 10) s.2.2.1 ∧ XsN (w.2.2 1) s.2.2.2.1 ∧ XsA (w.1 2) w.2.2 s.2.2.2.2.1 ∧ XsM (w.2.2 28) (w.2.2 29) s.2.2.2.2.2.1 ∧ XsB (w.1 4 0) (w.2.1 13) s.2.2.2.2.2.2 ∧ XsD (w.2.2 0)
def MsR (v : Nat → Nat → Int32) (R : Rw) : Prop := ∀ r, r < 8 → v 0 r = Int32.ofInt (R.1 r) ∧ v 1 r = Int32.ofInt (R.2.1 r : Int) ∧ ∀ i, i < 40 → v 2 (40 * r + i) = R.2.2 r i
def MsN (z : Int32) (g gn : Nat → Int32) (C : Bool × Kc) : Prop := z = Int32.ofInt (if C.1 = true then 1 else 0) ∧ RLw g C.2 ∧ ROf gn C.2
def MsA (n at' : Int32) (g : Nat → Int32) (A : Nat × Nat × (Nat → Kc)) : Prop := at' = Int32.ofInt (A.2.1 : Int) ∧ n = Int32.ofInt (A.1 : Int) ∧ ∀ j, j < A.1 → ROf (fun k => g (34 * ((A.2.1 + 23 - j) % 24) + k)) (A.2.2 j)
def MsM (z g gn : Nat → Int32) (I : Nat → Option Kc) : Prop := ∀ k, k < 2 → match I k with
  | none => z k = Int32.ofInt 0
  | some K => z k = Int32.ofInt 1 ∧ RLw (fun j => g (15 * k + j)) K ∧ ROf (fun j => gn (34 * k + j)) K
def MI (m : Cc) (s : Sg) : Prop := MsR m.2 s.1 ∧ (m.1 0 = s.2.1.1 ∧ m.1 7 = s.2.1.2) ∧ XsT (m.1 1) (m.2 3) s.2.2.1 ∧ MsN (m.1 8) (m.2 7) (m.2 8) s.2.2.2.1 ∧ MsA (m.1 10) (m.1 11) (m.2 10) s.2.2.2.2.1 ∧ MsM (m.2 12) (m.2 13) (m.2 14) s.2.2.2.2.2.1 ∧ XsB (m.1 12) (m.2 15) s.2.2.2.2.2.2
def RX (h : aH) (v : Value) (s : Sg) : aQ := fun r h' => r = some v ∧ ∃ w, h' = putX h w ∧ XI w s
def RM (h : aH) (b : Nat) (v : Value) (s : Sg) : aQ := fun r h' => r = some v ∧ ∃ m, h' = putM h b m ∧ MI m s
/-- the class's method k and the reference's k' answer alike and stay alike -/
def Both (k k' : Nat) (as : List Value) : Prop := ∀ (w : Xc) (m : Cc) (s : Sg), SOk s → XI w s → MI m s → ∃ (v : Int32) (s' : Sg), SOk s' ∧ (∀ (d N S : Nat), 20 ≤ d → ∀ h : aH, 293 ≤ h.1 → aAt d N S k (.ref 0 :: as) (putX h w) (RX h (.int v) s')) ∧ (∀ (d N S : Nat), 20 ≤ d → ∀ (h : aH) (b : Nat), b + 17 ≤ h.1 → aAt d N S k' (.ref b :: as) (putM h b m) (RM h b (.int v) s'))
theorem i_ex (v : Int32) : ∃ z : Int, v = Int32.ofInt z ∧ -2147483648 ≤ z ∧ z ≤ 2147483647 := ⟨v.toInt, (i_self v).symm, i_rng v⟩
/-- what foresight may write -/
def frX (w w' : Xc) : Prop := (∀ j, j ≠ 3 → w'.1 j = w.1 j) ∧ (∀ j, j ≠ 11 → j ≠ 12 → w'.2.1 j = w.2.1 j) ∧ (∀ j, j ≠ 26 → j ≠ 27 → w'.2.2 j = w.2.2 j)
def frN (m m' : Cc) : Prop := (∀ k, k ≠ 9 → m'.1 k = m.1 k) ∧ (∀ k, k ≠ 9 → k ≠ 11 → m'.2 k = m.2 k)
theorem frX_rfl {w : Xc} : frX w w := ⟨fun _ _ => rfl, fun _ _ _ => rfl, fun _ _ _ => rfl⟩
theorem frX_tr {w w' w'' : Xc} (h1 : frX w w') (h2 : frX w' w'') : frX w w'' := ⟨fun j hj => (h2.1 j hj).trans (h1.1 j hj), fun j hj hk => (h2.2.1 j hj hk).trans (h1.2.1 j hj hk), fun j hj hk => (h2.2.2 j hj hk).trans (h1.2.2 j hj hk)⟩
theorem frX_C {w : Xc} {k : Nat} {c : Cc} (hk : k = 26 ∨ k = 27) : frX w (upC w k c) := ⟨fun _ _ => rfl, fun _ _ _ => rfl, fun j h1 h2 => by rw [upC_22, if_neg (by omega)]⟩
theorem frX_R {w : Xc} {k : Nat} {g : Nat → Int32} (hk : k = 11 ∨ k = 12) : frX w (upR w k g) := ⟨fun _ _ => rfl, fun j h1 h2 => by rw [upR_21, if_neg (by omega)], fun _ _ _ => rfl⟩
theorem frX_X {w : Xc} {g : Nat → Int32} : frX w (upX w 3 g) := ⟨fun j h1 => by rw [upX_1, if_neg h1], fun _ _ _ => rfl, fun _ _ _ => rfl⟩
theorem frN_rfl {m : Cc} : frN m m := ⟨fun _ _ => rfl, fun _ _ _ => rfl⟩
theorem frN_tr {m m' m'' : Cc} (h1 : frN m m') (h2 : frN m' m'') : frN m m'' := ⟨fun k hk => (h2.1 k hk).trans (h1.1 k hk), fun k hk hj => (h2.2 k hk hj).trans (h1.2 k hk hj)⟩
theorem frN_M {m m' : Cc} (h : frM m m' 9) : frN m m' := ⟨h.1, fun k hk _ => h.2 k hk⟩
theorem frN_A {m : Cc} {J : Nat} {g : Nat → Int32} (hJ : J = 9 ∨ J = 11) : frN m (upA m J g) := ⟨fun _ _ => rfl, fun k h1 h2 => by rw [upA_2, if_neg (by omega)]⟩
theorem frN_S {m : Cc} {v : Int32} : frN m (upS m 9 v) := ⟨fun k h1 => by rw [upS_1, if_neg h1], fun _ _ _ => rfl⟩
theorem XI_fr {w w' : Xc} {s : Sg} (hf : frX w w') (hX : XI w s) : XI w' s := by
  obtain ⟨f1, f2, f3⟩ := hf
  obtain ⟨x1, x2, x3, x4, x5, x6, x7, x8⟩ := hX
  refine ⟨?_, ?_, ?_, ?_, ?_, ?_, ?_, ?_⟩
  · intro r hr
    rw [f2 9 (by omega) (by omega), f2 8 (by omega) (by omega), f2 r (by omega) (by omega)]
    exact x1 r hr
  · rw [f1 0 (by omega)]; exact x2
  · rw [f1 1 (by omega), f2 10 (by omega) (by omega)]; exact x3
  · rw [f3 1 (by omega) (by omega)]; exact x4
  · obtain ⟨y1, y2, y3⟩ := x5
    rw [f1 2 (by omega)]
    refine ⟨y1, y2, fun j hj => ?_⟩
    have := Nat.mod_lt (s.2.2.2.2.1.2.1 + 23 - j) (show 24 > 0 by omega)
    rw [f3 _ (by omega) (by omega)]
    exact y3 j hj
  · rw [f3 28 (by omega) (by omega), f3 29 (by omega) (by omega)]; exact x6
  · rw [f1 4 (by omega), f2 13 (by omega) (by omega)]; exact x7
  · rw [f3 0 (by omega) (by omega)]; exact x8
theorem MI_fr {m m' : Cc} {s : Sg} (hf : frN m m') (hM : MI m s) : MI m' s := by
  obtain ⟨f1, f2⟩ := hf
  obtain ⟨x1, x2, x3, x4, x5, x6, x7⟩ := hM
  unfold MI MsR
  rw [f1 0 (by omega), f1 7 (by omega), f1 1 (by omega), f1 8 (by omega), f1 10 (by omega), f1 11 (by omega), f1 12 (by omega)]
  rw [f2 0 (by omega) (by omega), f2 1 (by omega) (by omega), f2 2 (by omega) (by omega), f2 3 (by omega) (by omega), f2 7 (by omega) (by omega), f2 8 (by omega) (by omega), f2 10 (by omega) (by omega), f2 12 (by omega) (by omega), f2 13 (by omega) (by omega), f2 14 (by omega) (by omega), f2 15 (by omega) (by omega)]
  exact ⟨x1, x2, x3, x4, x5, x6, x7⟩
theorem b01_T {i : Decidable True} : @b01 True i = Int32.ofInt 1 := b01_t trivial
theorem b01_F {i : Decidable False} : @b01 False i = Int32.ofInt 0 := b01_f id

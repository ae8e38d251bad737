/-! the castle as numbers: scalars 0 ridges, 1 long, 2 hour, 3 hawks, 4 answers, 5 known (bits); rows 0 kind, 1 hunger, 2 ridge, 3 how, 4 aloft (hawks); 5 ridge, 6 worth, 7 drift (answers) -/
abbrev Kc : Type := (Nat → Nat) × (Nat → Nat → Nat)
def KW (K : Kc) : Prop := (2 ≤ K.1 0 ∧ K.1 0 ≤ 9) ∧ (1 ≤ K.1 1 ∧ K.1 1 ≤ 30) ∧ K.1 3 ≤ 5 ∧ K.1 4 ≤ 6 ∧ K.1 5 < 64 ∧
  (∀ h, h < K.1 3 → (1 ≤ K.2 0 h ∧ K.2 0 h ≤ 5) ∧ K.2 1 h ≤ 9 ∧ K.2 2 h < K.1 0 ∧ K.2 3 h ≤ 2 ∧ K.2 4 h < K.1 1) ∧
  (∀ a, a < K.1 4 → K.2 5 a < K.1 0 ∧ (1 ≤ K.2 6 a ∧ K.2 6 a ≤ 9) ∧ K.2 7 a ≤ 2)
def dst (x y : Nat) : Nat := if x < y then y - x else x - y
/-- the answer that is not known and nearest -/
def nearN (K : Kc) (r : Nat) : Nat → Option Nat
  | 0 => none
  | n + 1 => if (K.1 5).testBit n then nearN K r n else match nearN K r n with
    | none => some n
    | some a => if dst (K.2 5 n) r < dst (K.2 5 a) r then some n else some a
def worN (K : Kc) (r : Nat) : Nat → Option Nat
  | 0 => none
  | n + 1 => if (K.1 5).testBit n then worN K r n else match worN K r n with
    | none => some n
    | some a => if K.2 6 a < K.2 6 n ∨ (K.2 6 n = K.2 6 a ∧ dst (K.2 5 n) r < dst (K.2 5 a) r) then some n else some a
def encO (o : Option Nat) : Int := match o with
  | none => -1000000
  | some a => a
theorem nearN_lt {K : Kc} {r : Nat} : ∀ {n a : Nat}, nearN K r n = some a → a < n
  | 0, a, h => by cases h
  | n + 1, a, h => by
    unfold nearN at h
    split at h
    · exact Nat.lt_succ_of_lt (nearN_lt h)
    · split at h
      · cases h; omega
      · rename_i b hb
        have := nearN_lt hb
        split at h <;> cases h <;> omega
theorem worN_lt {K : Kc} {r : Nat} : ∀ {n a : Nat}, worN K r n = some a → a < n
  | 0, a, h => by cases h
  | n + 1, a, h => by
    unfold worN at h
    split at h
    · exact Nat.lt_succ_of_lt (worN_lt h)
    · split at h
      · cases h; omega
      · rename_i b hb
        have := worN_lt hb
        split at h <;> cases h <;> omega
theorem i_ite {c : Prop} [Decidable c] {a b : Int} : (if c then Int32.ofInt a else Int32.ofInt b) = Int32.ofInt (if c then a else b) := by split <;> rfl
theorem i_dst {x y : Nat} (hx : x < 1000) (hy : y < 1000) : (if Int32.ofInt (x : Int) < Int32.ofInt (y : Int) then Int32.ofInt (y : Int) - Int32.ofInt (x : Int) else Int32.ofInt (x : Int) - Int32.ofInt (y : Int)) = Int32.ofInt ((dst x y : Nat) : Int) := by
  rw [i_sub, i_sub, i_ite]
  congr 1
  unfold dst
  simp only [i_lt (show -2147483648 ≤ (x : Int) by omega) (by omega) (show -2147483648 ≤ (y : Int) by omega) (by omega)]
  split <;> split <;> omega
theorem i_dst2 {x y : Nat} (hx : x < 1000) (hy : y < 1000) : (if Int32.ofInt (x : Int) < Int32.ofInt (y : Int) then Int32.ofInt ((y : Int) - (x : Int)) else Int32.ofInt ((x : Int) - (y : Int))) = Int32.ofInt ((dst x y : Nat) : Int) := by
  rw [← i_dst hx hy, i_sub, i_sub]
theorem dst_lt {x y n : Nat} (hx : x < n) (hy : y < n) : dst x y < n := by
  unfold dst
  split <;> omega
theorem i_bit {m k : Nat} (hm : m < 64) (hk : k < 31) : ((Int32.ofInt (m : Int) >>> (Int32.ofInt (k : Int) &&& 31)) &&& Int32.ofInt 1 = Int32.ofInt 1) = (m.testBit k = true) := by
  rw [i_has (by omega) hk, i_eq (by split <;> omega) (by split <;> omega) (by omega) (by omega)]
  split <;> simp_all
/-- the reference's two rows hold this castle -/
def RLw (g : Nat → Int32) (K : Kc) : Prop := g 0 = Int32.ofInt (K.1 3 : Int) ∧ g 1 = Int32.ofInt (K.1 4 : Int) ∧ g 2 = Int32.ofInt (K.1 0 : Int) ∧ g 3 = Int32.ofInt (K.1 1 : Int) ∧ (∀ h, h < K.1 3 → g (4 + h) = Int32.ofInt (K.2 0 h : Int)) ∧ (∀ a, a < K.1 4 → g (9 + a) = Int32.ofInt (K.2 6 a : Int))
def ROf (g : Nat → Int32) (K : Kc) : Prop := g 0 = Int32.ofInt (K.1 2 : Int) ∧ g 1 = Int32.ofInt (K.1 5 : Int) ∧ (∀ a, a < K.1 4 → g (2 + a) = Int32.ofInt (K.2 5 a : Int) ∧ g (8 + a) = Int32.ofInt (K.2 7 a : Int)) ∧ (∀ h, h < K.1 3 → g (14 + h) = Int32.ofInt (K.2 1 h : Int) ∧ g (19 + h) = Int32.ofInt (K.2 2 h : Int) ∧ g (24 + h) = Int32.ofInt (K.2 3 h : Int) ∧ (K.2 3 h = 1 → g (29 + h) = Int32.ofInt (K.2 4 h : Int)))
theorem b01_z {c : Prop} [Decidable c] : (b01 c = Int32.ofInt 0) = ¬ c := b01_0
theorem b01_o {c : Prop} [Decidable c] : (b01 c = Int32.ofInt 1) = c := by
  unfold b01
  split
  · rename_i h
    simp [h]
  · rename_i h
    simp only [h, eq_iff_iff, iff_false]
    decide
theorem i_10 : (Int32.ofInt 1 = Int32.ofInt 0) = False := by simp only [eq_iff_iff, iff_false]; decide
theorem i_01 : (Int32.ofInt 0 = Int32.ofInt 1) = False := by simp only [eq_iff_iff, iff_false]; decide
theorem mAJ {h : aH} {a J : Nat} {c : Cc} {f : Nat × (Nat → Int32) → Prop} (ha : a + 17 ≤ h.1) (hJ : J = 8 ∨ J = 9) : opt (hI (putM h a c) (a + (J + 1))) f = f (34, c.2 J) := by
  rcases hJ with rfl | rfl
  · exact mA8 ha
  · exact mA9 ha
theorem nAJ {h : aH} {a J : Nat} {c : Cc} {g : Nat → Int32} (hJ : J = 8 ∨ J = 9) : hS (putM h a c) (a + (J + 1)) (.inl (0, 34, .inl g)) = putM h a (upA c J g) := by
  rcases hJ with rfl | rfl
  · exact nA8
  · exact nA9
theorem i_rem {a d : Int} (h0 : 0 ≤ a) (h1 : a ≤ 2147483647) (h2 : 0 < d) (h3 : d ≤ 2147483647) : Int32.ofInt a - Int32.ofInt a / Int32.ofInt d * Int32.ofInt d = Int32.ofInt (a % d) := by
  obtain ⟨x, rfl⟩ := Int.eq_ofNat_of_zero_le h0
  obtain ⟨y, rfl⟩ := Int.eq_ofNat_of_zero_le (Int.le_of_lt h2)
  have := pk_rem (a := x) (d := y) (by omega) (by omega) (by omega)
  rw [← Int.natCast_emod]
  exact this
/-- where a hawk goes for, moves to; what it takes -/
def goF (K : Kc) (h : Nat) : Option Nat := if K.2 0 h = 1 then nearN K (K.2 2 h) (K.1 4) else if K.2 0 h = 2 then worN K (K.2 2 h) (K.1 4) else none
def towd (x y k : Nat) : Nat := if dst x y ≤ k then y else if x < y then x + k else x - k
def movR (K : Kc) (h : Nat) : Nat := if K.2 0 h = 1 ∨ K.2 0 h = 2 then (match goF K h with
    | none => K.2 2 h
    | some a => towd (K.2 2 h) (K.2 5 a) (K.2 0 h)) else if K.2 0 h = 4 then (K.2 2 h + 1) % K.1 0 else if K.2 0 h = 5 then K.2 2 h - 1 else K.2 2 h
def limK (K : Kc) (h : Nat) : Int := if K.2 0 h = 2 then 9 else if K.2 0 h = 4 ∨ K.2 0 h = 5 then (K.2 1 h : Int) - 1 else K.2 1 h
def preyN (K : Kc) (h : Nat) : Nat → Option Nat
  | 0 => none
  | n + 1 => if K.2 5 n = K.2 2 h ∧ (K.1 5).testBit n = false ∧ (K.2 6 n : Int) ≤ limK K h then (match preyN K h n with
    | none => some n
    | some a => if K.2 6 a < K.2 6 n then some n else some a) else preyN K h n
theorem preyN_lt {K : Kc} {h : Nat} : ∀ {n a : Nat}, preyN K h n = some a → a < n
  | 0, a, q => by cases q
  | n + 1, a, q => by
    unfold preyN at q
    split at q
    · split at q
      · cases q; omega
      · rename_i b hb
        have := preyN_lt hb
        split at q <;> cases q <;> omega
    · exact Nat.lt_succ_of_lt (preyN_lt q)
def kA (K : Kc) (j i v : Nat) : Kc := (K.1, fun x y => if x = j ∧ y = i then v else K.2 x y)
def kS (K : Kc) (i v : Nat) : Kc := (fun x => if x = i then v else K.1 x, K.2)
theorem upA_id {c : Cc} {j : Nat} : upA c j (c.2 j) = c := by
  unfold upA
  refine Prod.ext rfl ?_
  funext x
  by_cases hx : x = j
  · simp [hx]
  · simp [hx]

/-! the castle as numbers: scalars 0 ridges, 1 long, 2 hour, 3 hawks, 4 answers, 5 known (bits); rows 0 kind, 1 hunger, 2 ridge, 3 how, 4 aloft (hawks); 5 ridge, 6 worth, 7 drift (answers) -/
abbrev Kc : Type := (Nat → Nat) × (Nat → Nat → Nat)
def KW (K : Kc) : Prop := (2 ≤ K.1 0 ∧ K.1 0 ≤ 9) ∧ (1 ≤ K.1 1 ∧ K.1 1 ≤ 30) ∧ K.1 3 ≤ 5 ∧ K.1 4 ≤ 6 ∧ K.1 5 < 64 ∧
  (∀ h, h < K.1 3 → (1 ≤ K.2 0 h ∧ K.2 0 h ≤ 5) ∧ K.2 1 h ≤ 9 ∧ K.2 2 h < K.1 0 ∧ K.2 3 h ≤ 2 ∧ K.2 4 h < K.1 1) ∧
  (∀ a, a < K.1 4 → K.2 5 a < K.1 0 ∧ (1 ≤ K.2 6 a ∧ K.2 6 a ≤ 9) ∧ K.2 7 a ≤ 2)
def dst (x y : Nat) : Nat := if x < y then y - x else x - y
/-- the answer that is not known and nearest -/
def nearN (K : Kc) (r : Nat) : Nat → Option Nat
  | 0 => none
  | n + 1 => if (K.1 5).testBit n then nearN K r n else match nearN K r n with
    | none => some n
    | some a => if dst (K.2 5 n) r < dst (K.2 5 a) r then some n else some a
def worN (K : Kc) (r : Nat) : Nat → Option Nat
  | 0 => none
  | n + 1 => if (K.1 5).testBit n then worN K r n else match worN K r n with
    | none => some n
    | some a => if K.2 6 a < K.2 6 n ∨ (K.2 6 n = K.2 6 a ∧ dst (K.2 5 n) r < dst (K.2 5 a) r) then some n else some a
def encO (o : Option Nat) : Int := match o with
  | none => -1000000
  | some a => a
theorem nearN_lt {K : Kc} {r : Nat} : ∀ {n a : Nat}, nearN K r n = some a → a < n
  | 0, a, h => by cases h
  | n + 1, a, h => by
    unfold nearN at h
    split at h
    · exact Nat.lt_succ_of_lt (nearN_lt h)
    · split at h
      · cases h; omega
      · rename_i b hb
        have := nearN_lt hb
        split at h <;> cases h <;> omega
theorem worN_lt {K : Kc} {r : Nat} : ∀ {n a : Nat}, worN K r n = some a → a < n
  | 0, a, h => by cases h
  | n + 1, a, h => by
    unfold worN at h
    split at h
    · exact Nat.lt_succ_of_lt (worN_lt h)
    · split at h
      · cases h; omega
      · rename_i b hb
        have := worN_lt hb
        split at h <;> cases h <;> omega
theorem i_ite {c : Prop} [Decidable c] {a b : Int} : (if c then Int32.ofInt a else Int32.ofInt b) = Int32.ofInt (if c then a else b) := by split <;> rfl
theorem i_dst {x y : Nat} (hx : x < 1000) (hy : y < 1000) : (if Int32.ofInt (x : Int) < Int32.ofInt (y : Int) then Int32.ofInt (y : Int) - Int32.ofInt (x : Int) else Int32.ofInt (x : Int) - Int32.ofInt (y : Int)) = Int32.ofInt ((dst x y : Nat) : Int) := by
  rw [i_sub, i_sub, i_ite]
  congr 1
  unfold dst
  simp only [i_lt (show -2147483648 ≤ (x : Int) by omega) (by omega) (show -2147483648 ≤ (y : Int) by omega) (by omega)]
  split <;> split <;> omega
theorem i_dst2 {x y : Nat} (hx : x < 1000) (hy : y < 1000) : (if Int32.ofInt (x : Int) < Int32.ofInt (y : Int) then Int32.ofInt ((y : Int) - (x : Int)) else Int32.ofInt ((x : Int) - (y : Int))) = Int32.ofInt ((dst x y : Nat) : Int) := by
  rw [← i_dst hx hy, i_sub, i_sub]
theorem dst_lt {x y n : Nat} (hx : x < n) (hy : y < n) : dst x y < n := by
  unfold dst
  split <;> omega
theorem i_bit {m k : Nat} (hm : m < 64) (hk : k < 31) : ((Int32.ofInt (m : Int) >>> (Int32.ofInt (k : Int) &&& 31)) &&& Int32.ofInt 1 = Int32.ofInt 1) = (m.testBit k = true) := by
  rw [i_has (by omega) hk, i_eq (by split <;> omega) (by split <;> omega) (by omega) (by omega)]
  split <;> simp_all
/-- the reference's two rows hold this castle -/
def RLw (g : Nat → Int32) (K : Kc) : Prop := g 0 = Int32.ofInt (K.1 3 : Int) ∧ g 1 = Int32.ofInt (K.1 4 : Int) ∧ g 2 = Int32.ofInt (K.1 0 : Int) ∧ g 3 = Int32.ofInt (K.1 1 : Int) ∧ (∀ h, h < K.1 3 → g (4 + h) = Int32.ofInt (K.2 0 h : Int)) ∧ (∀ a, a < K.1 4 → g (9 + a) = Int32.ofInt (K.2 6 a : Int))
def ROf (g : Nat → Int32) (K : Kc) : Prop := g 0 = Int32.ofInt (K.1 2 : Int) ∧ g 1 = Int32.ofInt (K.1 5 : Int) ∧ (∀ a, a < K.1 4 → g (2 + a) = Int32.ofInt (K.2 5 a : Int) ∧ g (8 + a) = Int32.ofInt (K.2 7 a : Int)) ∧ (∀ h, h < K.1 3 → g (14 + h) = Int32.ofInt (K.2 1 h : Int) ∧ g (19 + h) = Int32.ofInt (K.2 2 h : Int) ∧ g (24 + h) = Int32.ofInt (K.2 3 h : Int) ∧ (K.2 3 h = 1 → g (29 + h) = Int32.ofInt (K.2 4 h : Int)))
theorem b01_z {c : Prop} [Decidable c] : (b01 c = Int32.ofInt 0) = ¬ c := b01_0
theorem b01_o {c : Prop} [Decidable c] : (b01 c = Int32.ofInt 1) = c := by
  unfold b01
  split
  · rename_i h
    simp [h]
  · rename_i h
    simp only [h, eq_iff_iff, iff_false]
    decide
theorem i_10 : (Int32.ofInt 1 = Int32.ofInt 0) = False := by simp only [eq_iff_iff, iff_false]; decide
theorem i_01 : (Int32.ofInt 0 = Int32.ofInt 1) = False := by simp only [eq_iff_iff, iff_false]; decide

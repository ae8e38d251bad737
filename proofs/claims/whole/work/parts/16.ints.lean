/-! ints by their values: every number is Int32.ofInt of an integer -/
theorem i_add (a b : Int) : Int32.ofInt a + Int32.ofInt b = Int32.ofInt (a + b) := (Int32.ofInt_add a b).symm
theorem i_sub (a b : Int) : Int32.ofInt a - Int32.ofInt b = Int32.ofInt (a - b) := (Int32.ofInt_sub a b).symm
theorem i_mul (a b : Int) : Int32.ofInt a * Int32.ofInt b = Int32.ofInt (a * b) := (Int32.ofInt_mul a b).symm
theorem i_neg (a : Int) : - Int32.ofInt a = Int32.ofInt (-a) := (Int32.ofInt_neg a).symm
theorem i_to {a : Int} (h1 : -2147483648 ≤ a) (h2 : a ≤ 2147483647) : (Int32.ofInt a).toInt = a := Int32.toInt_ofInt_of_le h1 (by omega)
theorem i_lt {a b : Int} (h1 : -2147483648 ≤ a) (h2 : a ≤ 2147483647) (h3 : -2147483648 ≤ b) (h4 : b ≤ 2147483647) : (Int32.ofInt a < Int32.ofInt b) = (a < b) := by
  rw [Int32.lt_iff_toInt_lt, i_to h1 h2, i_to h3 h4]
theorem i_le {a b : Int} (h1 : -2147483648 ≤ a) (h2 : a ≤ 2147483647) (h3 : -2147483648 ≤ b) (h4 : b ≤ 2147483647) : (Int32.ofInt a ≤ Int32.ofInt b) = (a ≤ b) := by
  rw [Int32.le_iff_toInt_le, i_to h1 h2, i_to h3 h4]
theorem i_eq {a b : Int} (h1 : -2147483648 ≤ a) (h2 : a ≤ 2147483647) (h3 : -2147483648 ≤ b) (h4 : b ≤ 2147483647) : (Int32.ofInt a = Int32.ofInt b) = (a = b) := by
  rw [← Int32.toInt_inj, i_to h1 h2, i_to h3 h4]
theorem i_zero : (0 : Int32) = Int32.ofInt 0 := rfl
theorem i_one : (1 : Int32) = Int32.ofInt 1 := rfl
theorem i_nat (n : Nat) : Int32.ofNat n = Int32.ofInt (n : Int) := rfl
theorem i_self (v : Int32) : Int32.ofInt v.toInt = v := Int32.ofInt_toInt v
theorem i_rng (v : Int32) : -2147483648 ≤ v.toInt ∧ v.toInt ≤ 2147483647 := ⟨Int32.le_toInt v, Int32.toInt_le v⟩
theorem i_clamp {n : Nat} (h : n < 2147483648) : (Int32.ofInt (n : Int)).toNatClampNeg = n := by
  show (Int32.ofInt (n : Int)).toInt.toNat = n
  rw [i_to (by omega) (by omega)]
  omega
theorem i_ix {n j : Nat} {f : Nat → Prop} (h : j < n) (hn : n ≤ 1000000) : ix (Int32.ofInt (j : Int)) n f = f j := by
  unfold ix
  rw [i_clamp (by omega)]
  have : vp_in (Int32.ofInt (j : Int)) n := by
    unfold vp_in
    rw [i_clamp (by omega), i_zero, i_lt (by omega) (by omega) (by omega) (by omega)]
    omega
  simp [this]
theorem i_shr {m k : Nat} (hm : m < 2147483648) (hk : k < 31) : (Int32.ofInt (m : Int) >>> (Int32.ofInt (k : Int) &&& 31)) = Int32.ofInt ((m / 2 ^ k : Nat) : Int) := by
  have h0 : ∀ j, j < 31 → ((Int32.ofNat j &&& 31).toBitVec.smod 32).toNat = j := by decide +kernel
  exact pk_shrN (n := m) (by omega) (Int32.ofNat k &&& 31) k (h0 k hk)
theorem i_shl {m k : Nat} (hk : k < 31) (hm : m * 2 ^ k < 4294967296) : (Int32.ofInt (m : Int) <<< (Int32.ofInt (k : Int) &&& 31)) = Int32.ofInt ((m * 2 ^ k : Nat) : Int) := by
  have h0 : ∀ j, j < 31 → ((Int32.ofNat j &&& 31).toBitVec.smod 32).toNat = j := by decide +kernel
  exact pk_shlN (n := m) (Int32.ofNat k &&& 31) k (h0 k hk) (by omega)
theorem i_and1 (m : Nat) (hm : m < 4294967296) : (Int32.ofInt (m : Int) &&& Int32.ofInt 1) = Int32.ofInt ((m % 2 : Nat) : Int) := by
  have := pk_andN (n := m) hm (m := (1 : Int32)) 1 rfl
  exact this
/-- is bit k of m set -/
theorem i_has {m k : Nat} (hm : m < 2147483648) (hk : k < 31) : ((Int32.ofInt (m : Int) >>> (Int32.ofInt (k : Int) &&& 31)) &&& Int32.ofInt 1) = Int32.ofInt (if m.testBit k then 1 else 0) := by
  rw [i_shr hm hk, i_and1 _ (Nat.lt_of_le_of_lt (Nat.div_le_self _ _) (by omega))]
  congr 1
  rw [Nat.testBit_eq_decide_div_mod_eq]
  rcases Nat.mod_two_eq_zero_or_one (m / 2 ^ k) with h | h <;> simp [h]

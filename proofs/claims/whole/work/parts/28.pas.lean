/-! an hour, hawk by hawk: D is the castle behind the drift -/
def drS (K : Kc) (a : Nat) : Bool := (K.1 5).testBit a || K.2 7 a == 0
abbrev drT (K : Kc) (a : Nat) : Prop := (K.2 7 a = 1 ∧ K.2 5 a + 1 = K.1 0) ∨ (K.2 7 a = 2 ∧ K.2 5 a = 0)
/-- the new drift, the new ridge of an answer -/
def drD (K : Kc) (a : Nat) : Nat := if drS K a then K.2 7 a else if drT K a then 3 - K.2 7 a else K.2 7 a
def drR (K : Kc) (a : Nat) : Nat := if drS K a then K.2 5 a else if drD K a = 1 then K.2 5 a + 1 else K.2 5 a - 1
def mxD (K : Kc) (i : Nat) : Kc := (K.1, fun x y => if x = 5 ∧ y < i then drR K y else if x = 7 ∧ y < i then drD K y else K.2 x y)
/-- of hawk h, where it finds kb known: its ridge, what it takes -/
def rdN (D : Kc) (kb h : Nat) : Nat := if D.2 3 h = 1 ∧ 0 < D.2 1 h then movR (kS D 5 kb) h else D.2 2 h
def tkN (D : Kc) (kb h : Nat) : Option Nat := if D.2 3 h = 1 ∧ 0 < D.2 1 h then preyN (kA (kS D 5 kb) 2 h (rdN D kb h)) h (D.1 4) else none
def kbN (D : Kc) : Nat → Nat
  | 0 => D.1 5
  | n + 1 => match tkN D (kbN D n) n with
    | none => kbN D n
    | some a => kbN D n ||| 2 ^ a
def takN (D : Kc) (h : Nat) : Option Nat := tkN D (kbN D h) h
def ldN (D : Kc) : Nat → Int
  | 0 => 0
  | n + 1 => match takN D n with
    | none => ldN D n
    | some a => ldN D n + (if n % 2 = 0 then (D.2 6 a : Int) else -(D.2 6 a : Int))
def huN (D : Kc) (h : Nat) : Nat := match takN D h with
  | none => D.2 1 h
  | some a => D.2 1 h - D.2 6 a
def hoN (D : Kc) (h : Nat) : Nat := if D.2 3 h = 1 ∧ takN D h = none ∧ D.2 4 h + 1 = D.1 1 then 2 else D.2 3 h
def alN (D : Kc) (h : Nat) : Nat := if D.2 3 h = 1 then (if takN D h = none ∧ D.2 4 h + 1 < D.1 1 then D.2 4 h + 1 else 0) else D.2 4 h
def hiN (D : Kc) (h : Nat) : Nat := if D.1 2 % 3 = 2 ∧ takN D h = none ∧ hoN D h ≠ 2 ∧ huN D h < 9 then huN D h + 1 else huN D h
/-- hunts done of the hawks below i; hungers grown of those below j -/
def mxH (D : Kc) (i j : Nat) : Kc := (fun x => if x = 5 then kbN D i else D.1 x, fun x y => if x = 1 then (if y < j then hiN D y else if y < i then huN D y else D.2 1 y) else if x = 2 then (if y < i then rdN D (kbN D y) y else D.2 2 y) else if x = 3 then (if y < i then hoN D y else D.2 3 y) else if x = 4 then (if y < i then alN D y else D.2 4 y) else D.2 x y)
def pasK (K : Kc) : Kc := kS (mxH (mxD K (K.1 4)) (K.1 3) (K.1 3)) 2 (K.1 2 + 1)
def pasL (K : Kc) : Int := ldN (mxD K (K.1 4)) (K.1 3)
theorem nearN_congr {K K' : Kc} {r : Nat} (e1 : K.1 5 = K'.1 5) (e2 : ∀ a, K.2 5 a = K'.2 5 a) : ∀ n, nearN K r n = nearN K' r n
  | 0 => rfl
  | n + 1 => by simp only [nearN, nearN_congr e1 e2 n, e1, e2]
theorem worN_congr {K K' : Kc} {r : Nat} (e1 : K.1 5 = K'.1 5) (e2 : ∀ a, K.2 5 a = K'.2 5 a) (e3 : ∀ a, K.2 6 a = K'.2 6 a) : ∀ n, worN K r n = worN K' r n
  | 0 => rfl
  | n + 1 => by simp only [worN, worN_congr e1 e2 e3 n, e1, e2, e3]
def agH (K K' : Kc) (h : Nat) : Prop := K.1 5 = K'.1 5 ∧ K.1 4 = K'.1 4 ∧ K.1 0 = K'.1 0 ∧ (∀ a, K.2 5 a = K'.2 5 a) ∧ (∀ a, K.2 6 a = K'.2 6 a) ∧ K.2 0 h = K'.2 0 h ∧ K.2 1 h = K'.2 1 h ∧ K.2 2 h = K'.2 2 h
theorem movR_congr {K K' : Kc} {h : Nat} (e : agH K K' h) : movR K h = movR K' h := by
  obtain ⟨e1, e2, e3, e4, e5, e6, e7, e8⟩ := e
  unfold movR goF
  simp only [nearN_congr e1 e4, worN_congr e1 e4 e5, e2, e3, e4, e6, e8]
theorem preyN_congr {K K' : Kc} {h : Nat} (e : agH K K' h) : ∀ n, preyN K h n = preyN K' h n
  | 0 => rfl
  | n + 1 => by
    have ih := preyN_congr e n
    obtain ⟨e1, e2, e3, e4, e5, e6, e7, e8⟩ := e
    have hl : limK K h = limK K' h := by simp only [limK, e6, e7]
    rw [preyN_s, preyN_s, ih]
    simp only [e1, e4, e5, e8, hl]
theorem agH_mx {D : Kc} {i : Nat} {j : Nat} (hj : j ≤ i) : agH (mxH D i j) (kS D 5 (kbN D i)) i := by
  unfold agH mxH kS
  have h1 : ¬ i < j := by omega
  simp [h1]
theorem agH_kA {K K' : Kc} {h v : Nat} (e : agH K K' h) : agH (kA K 2 h v) (kA K' 2 h v) h := by
  obtain ⟨e1, e2, e3, e4, e5, e6, e7, e8⟩ := e
  unfold agH kA
  simp [e1, e2, e3, e4, e5, e6, e7]
theorem tkN_lt {D : Kc} {kb h a : Nat} (e : tkN D kb h = some a) : a < D.1 4 := by
  unfold tkN at e
  split at e
  · exact preyN_lt e
  · cases e
theorem or_lt64 {x a : Nat} (hx : x < 64) (ha : a < 6) : x ||| 2 ^ a < 64 := Nat.or_lt_two_pow (n := 6) hx (Nat.pow_lt_pow_right (by omega) ha)
theorem kbN_lt {D : Kc} (h5 : D.1 5 < 64) (h4 : D.1 4 ≤ 6) : ∀ n, kbN D n < 64
  | 0 => h5
  | n + 1 => by
    unfold kbN
    split
    · exact kbN_lt h5 h4 n
    · rename_i a ha
      exact or_lt64 (kbN_lt h5 h4 n) (by have := tkN_lt ha; omega)
theorem KW_kS5 {K : Kc} {v : Nat} (hW : KW K) (hv : v < 64) : KW (kS K 5 v) := by
  obtain ⟨w1, w2, w5, w6, w7, w8, w9⟩ := hW
  exact ⟨w1, w2, w5, w6, hv, w8, w9⟩
theorem drD_le {K : Kc} {a : Nat} (h : K.2 7 a ≤ 2) : drD K a ≤ 2 := by
  unfold drD
  split
  · exact h
  · by_cases h2 : drT K a
    · rw [if_pos h2]
      rcases h2 with h2 | h2 <;> omega
    · rw [if_neg h2]; exact h
theorem drR_lt {K : Kc} {a : Nat} (w : 2 ≤ K.1 0) (h : K.2 7 a ≤ 2) (h5 : K.2 5 a < K.1 0) : drR K a < K.1 0 := by
  unfold drR
  by_cases h1 : drS K a = true
  · rw [if_pos h1]; exact h5
  · rw [if_neg h1]
    unfold drD
    rw [if_neg h1]
    by_cases h2 : drT K a
    · rw [if_pos h2]
      rcases h2 with h2 | h2 <;> split <;> omega
    · rw [if_neg h2]
      split
      · rename_i h3
        have : ¬ K.2 5 a + 1 = K.1 0 := fun q => h2 (.inl ⟨h3, q⟩)
        omega
      · omega
theorem KW_mxD {K : Kc} (hW : KW K) (i : Nat) : KW (mxD K i) := by
  obtain ⟨w1, w2, w5, w6, w7, w8, w9⟩ := hW
  refine ⟨w1, w2, w5, w6, w7, fun h hh => ?_, fun a ha => ?_⟩
  · have := w8 h hh
    simpa [mxD] using this
  · obtain ⟨a1, a2, a3⟩ := w9 a ha
    have b1 := drR_lt (K := K) (a := a) (by omega) a3 a1
    have b2 := drD_le (K := K) (a := a) a3
    refine ⟨?_, by simpa [mxD] using a2, ?_⟩
    · show (if 5 = 5 ∧ a < i then drR K a else if 5 = 7 ∧ a < i then drD K a else K.2 5 a) < K.1 0
      simp only [true_and, Nat.reduceEqDiff, false_and, if_false]
      split <;> omega
    · show (if 7 = 5 ∧ a < i then drR K a else if 7 = 7 ∧ a < i then drD K a else K.2 7 a) ≤ 2
      simp only [true_and, Nat.reduceEqDiff, false_and, if_false]
      split <;> omega
theorem rdN_lt {D : Kc} {kb h : Nat} (hW : KW D) (hk : kb < 64) (hh : h < D.1 3) : rdN D kb h < D.1 0 := by
  unfold rdN
  split
  · exact movR_lt (KW_kS5 hW hk) hh
  · exact (hW.2.2.2.2.2.1 h hh).2.2.1
theorem KW_mxH {D : Kc} (hW : KW D) (i j : Nat) : KW (mxH D i j) := by
  have hW0 := hW
  obtain ⟨w1, w2, w5, w6, w7, w8, w9⟩ := hW
  have hkb := kbN_lt w7 w6
  refine ⟨w1, w2, w5, w6, hkb i, fun h hh => ?_, fun a ha => ?_⟩
  · have hh' : h < D.1 3 := hh
    obtain ⟨⟨g1, g2⟩, g3, g4, g5, g6⟩ := w8 h hh'
    have r1 := rdN_lt hW0 (hkb h) hh'
    have hu : huN D h ≤ 9 := by
      unfold huN
      split <;> omega
    have hi : hiN D h ≤ 9 := by
      unfold hiN
      split <;> omega
    have ho : hoN D h ≤ 2 := by
      unfold hoN
      split <;> omega
    have al : alN D h < D.1 1 := by
      unfold alN
      split
      · split <;> omega
      · exact g6
    refine ⟨⟨g1, g2⟩, ?_, ?_, ?_, ?_⟩
    · show (if h < j then hiN D h else if h < i then huN D h else D.2 1 h) ≤ 9
      split
      · exact hi
      · split <;> assumption
    · show (if h < i then rdN D (kbN D h) h else D.2 2 h) < D.1 0
      split <;> assumption
    · show (if h < i then hoN D h else D.2 3 h) ≤ 2
      split <;> assumption
    · show (if h < i then alN D h else D.2 4 h) < D.1 1
      split <;> assumption
  · exact w9 a ha
theorem KW_pas {K : Kc} (hW : KW K) : KW (pasK K) := by
  obtain ⟨w1, w2, w5, w6, w7, w8, w9⟩ := KW_mxH (KW_mxD hW (K.1 4)) (K.1 3) (K.1 3)
  exact ⟨w1, w2, w5, w6, w7, w8, w9⟩
theorem i_orp {x a : Nat} (hx : x < 64) (ha : a < 6) : Int32.ofInt (x : Int) ||| (Int32.ofInt 1 <<< (Int32.ofInt (a : Int) &&& 31)) = Int32.ofInt ((x ||| 2 ^ a : Nat) : Int) := by
  have h0 : ∀ x, x < 64 → ∀ a, a < 6 → Int32.ofInt ((x : Nat) : Int) ||| (Int32.ofInt 1 <<< (Int32.ofInt ((a : Nat) : Int) &&& 31)) = Int32.ofInt ((x ||| 2 ^ a : Nat) : Int) := by decide +kernel
  exact h0 x hx a ha

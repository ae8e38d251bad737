theorem mem_chunks {α : Type} (l : List α) (c : Nat) : ∀ (k : Nat) (q : α), q ∈ l → l.length ≤ c * k → ∃ i, i < k ∧ q ∈ (l.drop (c * i)).take c
  | 0, q, h, hl => by
    have : l.length = 0 := by omega
    rw [List.length_eq_zero_iff] at this
    rw [this] at h
    cases h
  | k + 1, q, h, hl => by
    obtain ⟨j, hj, hq⟩ := List.mem_iff_getElem.mp h
    refine ⟨j / c, ?_, ?_⟩
    · have hc : 0 < c := by
        rcases Nat.eq_zero_or_pos c with h0 | h0
        · rw [h0, Nat.zero_mul] at hl; omega
        · exact h0
      exact (Nat.div_lt_iff_lt_mul hc).mpr (by rw [Nat.mul_comm]; omega)
    · have hc : 0 < c := by
        rcases Nat.eq_zero_or_pos c with h0 | h0
        · rw [h0, Nat.zero_mul] at hl; omega
        · exact h0
      rw [List.mem_iff_getElem?]
      refine ⟨j % c, ?_⟩
      rw [List.getElem?_take, if_pos (Nat.mod_lt _ hc), List.getElem?_drop, Nat.div_add_mod, List.getElem?_eq_getElem hj, hq]
theorem dc_law : ∀ q ∈ cd226, okL q := by
  intro q hq
  obtain ⟨i, hi, hm⟩ := mem_chunks cd226 52 20 q hq (by decide +kernel)
  rcases (show i = 0 ∨ i = 1 ∨ i = 2 ∨ i = 3 ∨ i = 4 ∨ i = 5 ∨ i = 6 ∨ i = 7 ∨ i = 8 ∨ i = 9 ∨ i = 10 ∨ i = 11 ∨ i = 12 ∨ i = 13 ∨ i = 14 ∨ i = 15 ∨ i = 16 ∨ i = 17 ∨ i = 18 ∨ i = 19 by omega) with rfl | rfl | rfl | rfl | rfl | rfl | rfl | rfl | rfl | rfl | rfl | rfl | rfl | rfl | rfl | rfl | rfl | rfl | rfl | rfl
  · exact dcl_0 q hm
  · exact dcl_1 q hm
  · exact dcl_2 q hm
  · exact dcl_3 q hm
  · exact dcl_4 q hm
  · exact dcl_5 q hm
  · exact dcl_6 q hm
  · exact dcl_7 q hm
  · exact dcl_8 q hm
  · exact dcl_9 q hm
  · exact dcl_10 q hm
  · exact dcl_11 q hm
  · exact dcl_12 q hm
  · exact dcl_13 q hm
  · exact dcl_14 q hm
  · exact dcl_15 q hm
  · exact dcl_16 q hm
  · exact dcl_17 q hm
  · exact dcl_18 q hm
  · exact dcl_19 q hm

/-! the law's run -/
def s00 : Sg := ((fun _ => -1, fun _ => 0, fun _ _ => 0), (0, 0), (0, fun _ => 0), (false, K00), (0, 0, fun _ => K00), fun _ => none, (0, fun _ => 0))
theorem gk_8 {r : Nat} (hr : r < 8) : gk 8 r = Int32.ofInt (-1) := by
  unfold gk
  rw [if_pos hr]
theorem s00_ok : SOk s00 := by
  refine ⟨fun r hr => ⟨by show (-1 : Int) ≤ -1; omega, by show (-1 : Int) ≤ 40; omega, by show 0 ≤ 2; omega⟩, ⟨by decide, fun i hi => absurd hi (Nat.not_lt_zero i)⟩, .inr rfl, ⟨by decide, by decide, fun j hj => absurd hj (Nat.not_lt_zero j)⟩, fun k K hk => ?_, by decide⟩
  cases hk
theorem s00_X : XI w0 s00 := by
  refine ⟨fun r hr => ⟨gk_8 hr, rfl, fun i hi => ?_⟩, ⟨rfl, rfl⟩, ⟨rfl, fun i hi => absurd hi (Nat.not_lt_zero i)⟩, ⟨0, rfl, rfl, rfl, rfl, rfl, rfl, rfl, fun i hi => absurd hi (Nat.not_lt_zero i), fun i hi => absurd hi (Nat.not_lt_zero i)⟩, ⟨rfl, rfl, fun i hi => absurd hi (Nat.not_lt_zero i)⟩, ⟨rfl, rfl⟩, ⟨rfl, fun i hi => absurd hi (Nat.not_lt_zero i)⟩, ⟨rfl, rfl, rfl, fun i hi => ⟨rfl, rfl, rfl⟩⟩⟩
  show (if r = 9 then gk 8 else fun _ => 0) i = 0
  rw [if_neg (by omega)]
theorem s00_M : MI m0 s00 := by
  refine ⟨fun r hr => ⟨gk_8 hr, rfl, fun i hi => rfl⟩, ⟨rfl, rfl⟩, ⟨rfl, fun i hi => absurd hi (Nat.not_lt_zero i)⟩, ⟨rfl, ⟨rfl, rfl, rfl, rfl, fun i hi => absurd hi (Nat.not_lt_zero i), fun i hi => absurd hi (Nat.not_lt_zero i)⟩, ⟨rfl, rfl, fun i hi => absurd hi (Nat.not_lt_zero i), fun i hi => absurd hi (Nat.not_lt_zero i)⟩⟩, ⟨rfl, rfl, fun i hi => absurd hi (Nat.not_lt_zero i)⟩, fun k hk => rfl, ⟨rfl, fun i hi => absurd hi (Nat.not_lt_zero i)⟩⟩
theorem law_run (L : Nat) (hL : L ≤ 448) (xs : Nat → Int32) (P : aK) (hP : aClo (saX L xs) (aAt 40) 600000 7302250 (some .boolean) cd226 P (fun r _ => r = some (.int 1))) : P 0 [some (.float 2), none, none, none] [] (0, 0, fun _ => .inr (0, [])) := by
  refine nw0 hP (pc := 0) rfl rfl rfl (by omega) (ini90 (by omega)) rfl (by first | (show 0 ≤ 6; omega) | (show 0 ≤ 7; omega) | simp) (by show 0 + 1 + 292 ≤ 600000; omega) (by show 0 + 9 + 2314 ≤ 7302250; omega) ?_
  intro h1 n1 s1 f1 c1
  replace n1 : h1.1 = 293 := n1
  replace s1 : h1.2.1 = 2323 := s1
  refine lk hP (r := (.astore_n 1, 1, 0, 0, 0, 0)) rfl ?_
  refine ⟨by decide, rfl, ?_⟩
  show P 8 [some (.float 2), some (.ref 0), none, none] [] h1
  refine nw0 hP (pc := 8) rfl rfl rfl (by omega) (ini134 (by omega)) n1 (by first | (show 0 ≤ 6; omega) | (show 0 ≤ 7; omega) | simp) (by omega) (by omega) ?_
  intro h2 n2 s2 f2 c2
  refine lk hP (r := (.astore_n 2, 1, 0, 0, 0, 0)) rfl ?_
  refine ⟨by decide, rfl, ?_⟩
  show P 16 [some (.float 2), some (.ref 0), some (.ref 293), none] [] h2
  refine lk hP (r := (.iconst 0, 1, 0, 0, 0, 0)) rfl ?_
  refine lk hP (r := (.istore_n 3, 1, 0, 0, 0, 0)) rfl ?_
  refine ⟨by decide, rfl, ?_⟩
  show P 18 (LC 0) [] h2
  have e : h2 = putM (putX h2 w0) 293 m0 := by
    have ef : h2.2.2 = (putM (putX h2 w0) 293 m0).2.2 := by
      funext q
      show h2.2.2 q = if q = 293 then _ else if 293 < q ∧ q ≤ 293 + 16 then _ else (if q ≤ 292 then xcell w0 q else h2.2.2 q)
      by_cases a1 : q ≤ 292
      · rw [if_neg (by omega), if_neg (by omega), if_pos a1, f2 q (by omega)]
        exact c1 q (by omega) (by omega)
      · by_cases a2 : q = 293
        · rw [if_pos a2, a2]
          exact c2 293 (by omega) (by omega)
        · by_cases a3 : 293 < q ∧ q ≤ 293 + 16
          · rw [if_neg a2, if_pos a3, c2 q (by omega) (by omega)]
            show (if q = 293 then _ else if 293 < q ∧ q ≤ 293 + 16 then _ else _) = _
            rw [if_neg a2, if_pos a3]
          · rw [if_neg a2, if_neg a3, if_neg a1]
    exact Prod.ext rfl (Prod.ext rfl ef)
  rw [e]
  exact ls_loop hP hL (by omega) L 0 (by omega) (by omega) w0 m0 s00 s00_ok s00_X s00_M

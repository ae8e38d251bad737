/-! the law's run (to be proved) -/
def saX (L : Nat) (xs : Nat → Int32) : aS := fun j => match j with
  | 2 => some (L, xs)
  | j => sa0 j
theorem law_run (L : Nat) (hL : L ≤ 448) (xs : Nat → Int32) (P : aK) (hP : aClo (saX L xs) (aAt 40) 600000 7302250 (some .boolean) cd226 P (fun r _ => r = some (.int 1))) : P 0 [some (.float 2), none, none, none] [] (0, 0, fun _ => .inr (0, [])) := sorry

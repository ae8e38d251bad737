/-! new objects, cell by cell -/
def C00 : Cc := (fun _ => 0, fun _ _ => 0)
def gk (k : Nat) : Nat → Int32 := fun j => if j < k then Int32.ofInt (-1) else 0
theorem gk_0 : gk 0 = fun _ => 0 := by
  funext j
  unfold gk
  rw [if_neg (by omega)]
theorem gk_s {k : Nat} : upd (gk k) k (Int32.ofInt (-1)) = gk (k + 1) := by
  funext j
  by_cases e : j = k
  · subst e; rw [upd_s]; unfold gk; rw [if_pos (by omega)]
  · rw [upd_n e]
    unfold gk
    by_cases e2 : j < k
    · rw [if_pos e2, if_pos (by omega)]
    · rw [if_neg e2, if_neg (by omega)]
theorem i_n0 {n : Nat} (h : n ≤ 1000) : ¬ Int32.ofInt (n : Int) < 0 := by
  rw [i_zero, i_lt (by omega) (by omega) (by omega) (by omega)]
  omega
section INI
variable {sa : aS} {F : aF} {d N S : Nat} {rt : Option FieldType} {cd : List (Nat × aI)} {P : aK} {Q : aQ} {L : aL} {st : List Value} {h : aH}
theorem hN_2 {k q : Nat} {c : aC} : (hN h k c).2.2 q = if q = h.1 then c else h.2.2 q := rfl
theorem hS_2 {a q : Nat} {c : aC} : (hS h a c).2.2 q = if q = a then c else h.2.2 q := rfl
theorem hO_of {a c : Nat} {fs : List Value} (ha : a < h.1) (hc : h.2.2 a = .inr (c, fs)) : hO h a c = some fs := by
  unfold hO
  rw [if_pos ha, hc]
  simp
theorem hI_of {a n : Nat} {g : Nat → Int32} (ha : a < h.1) (hc : h.2.2 a = .inl (0, n, .inl g)) : hI h a = some (n, g) := by
  unfold hI
  rw [if_pos ha, hc]
  rfl
theorem hR_of {a n : Nat} {g : Nat → Option Nat} (ha : a < h.1) (hc : h.2.2 a = .inl (2, n, .inr (.inr (.inr (.inr g))))) : hR h a = some (2, n, g) := by
  unfold hR
  rw [if_pos ha, hc]
  rfl
theorem lkS (hP : aClo sa F N S rt cd P Q) {pc i len y z w a : Nat} (hl : lkp cd pc = some (.invokespecial i, len, 3, y, z, w)) (hs : st.length ≤ 4) (k : P (pc + 3) L st h) : P pc L (.ref a :: st) h := by
  refine lk hP hl ?_
  unfold ex1
  dsimp only
  rw [if_pos rfl]
  exact ⟨hs, k⟩
theorem pf (hP : aClo sa F N S rt cd P Q) {pc i len c y w a b : Nat} {fs : List Value} (hl : lkp cd pc = some (.putfield i, len, c, y, 2, w)) (ha : a < h.1) (hc : h.2.2 a = .inr (c, fs)) (hy : y < fs.length) (k : P (pc + 3) L st (hS h a (.inr (c, fs.set y (.ref b))))) : P pc L (.ref b :: .ref a :: st) h := by
  refine lk hP hl ?_
  show opt (hO h a c) fun fs => y < fs.length ∧ pvOk 2 (.ref b) ∧ P (pc + 3) L st (hS h a (.inr (c, fs.set y (.ref b))))
  rw [hO_of ha hc]
  exact ⟨hy, rfl, k⟩
theorem nwI (hP : aClo sa F N S rt cd P Q) {pc len x y z w n : Nat} (hl : lkp cd pc = some (.newarray .int, len, x, y, z, w)) (hn : n ≤ 1000) (h1 : h.1 + 1 ≤ N) (h2 : h.2.1 + n ≤ S) (k : P (pc + 2) L (.ref h.1 :: st) (hN h n (.inl (0, n, .inl (fun _ => 0))))) : P pc L (.int (Int32.ofInt (n : Int)) :: st) h := by
  refine lk hP hl ?_
  show ¬ Int32.ofInt (n : Int) < 0 ∧ (Int32.ofInt (n : Int)).toNatClampNeg ≤ 1000 ∧ h.1 + 1 ≤ N ∧ h.2.1 + (Int32.ofInt (n : Int)).toNatClampNeg ≤ S ∧ P (pc + 2) L (.ref h.1 :: st) (hN h (Int32.ofInt (n : Int)).toNatClampNeg (.inl (0, (Int32.ofInt (n : Int)).toNatClampNeg, .inl (fun _ => 0))))
  rw [i_clamp (by omega)]
  exact ⟨i_n0 hn, hn, h1, h2, k⟩
theorem nwZ (hP : aClo sa F N S rt cd P Q) {pc len x y z w n : Nat} (hl : lkp cd pc = some (.newarray .boolean, len, x, y, z, w)) (hn : n ≤ 1000) (h1 : h.1 + 1 ≤ N) (h2 : h.2.1 + n ≤ S) (k : P (pc + 2) L (.ref h.1 :: st) (hN h n (.inl (1, n, .inl (fun _ => 0))))) : P pc L (.int (Int32.ofInt (n : Int)) :: st) h := by
  refine lk hP hl ?_
  show ¬ Int32.ofInt (n : Int) < 0 ∧ (Int32.ofInt (n : Int)).toNatClampNeg ≤ 1000 ∧ h.1 + 1 ≤ N ∧ h.2.1 + (Int32.ofInt (n : Int)).toNatClampNeg ≤ S ∧ P (pc + 2) L (.ref h.1 :: st) (hN h (Int32.ofInt (n : Int)).toNatClampNeg (.inl (1, (Int32.ofInt (n : Int)).toNatClampNeg, .inl (fun _ => 0))))
  rw [i_clamp (by omega)]
  exact ⟨i_n0 hn, hn, h1, h2, k⟩
theorem nwR (hP : aClo sa F N S rt cd P Q) {pc i len x y z w n : Nat} (hl : lkp cd pc = some (.anewarray i, len, x, y, z, w)) (hn : n ≤ 1000) (h1 : h.1 + 1 ≤ N) (h2 : h.2.1 + n ≤ S) (k : P (pc + 3) L (.ref h.1 :: st) (hN h n (.inl (2, n, .inr (.inr (.inr (.inr (fun _ => none)))))))) : P pc L (.int (Int32.ofInt (n : Int)) :: st) h := by
  refine lk hP hl ?_
  show ¬ Int32.ofInt (n : Int) < 0 ∧ (Int32.ofInt (n : Int)).toNatClampNeg ≤ 1000 ∧ h.1 + 1 ≤ N ∧ h.2.1 + (Int32.ofInt (n : Int)).toNatClampNeg ≤ S ∧ P (pc + 3) L (.ref h.1 :: st) (hN h (Int32.ofInt (n : Int)).toNatClampNeg (.inl (2, (Int32.ofInt (n : Int)).toNatClampNeg, .inr (.inr (.inr (.inr (fun _ => none)))))))
  rw [i_clamp (by omega)]
  exact ⟨i_n0 hn, hn, h1, h2, k⟩
theorem nA (hP : aClo sa F N S rt cd P Q) {pc p1 n a c y w i : Nat} {fs : List Value} (h0 : lkp cd pc = some (.aload_n 0, 1, 0, 0, 0, 0)) (hp : ∀ (st : List Value) (h : aH), P p1 (some (.ref a) :: L) (.int (Int32.ofInt (n : Int)) :: st) h → P (pc + 1) (some (.ref a) :: L) st h) (h1 : lkp cd p1 = some (.newarray .int, 2, 0, 0, 0, 0)) (h2 : lkp cd (p1 + 2) = some (.putfield i, 3, c, y, 2, w)) (ha : a < h.1) (hc : h.2.2 a = .inr (c, fs)) (hy : y < fs.length) (hn : n ≤ 1000) (b1 : h.1 + 1 ≤ N) (b2 : h.2.1 + n ≤ S) (k : ∀ h' : aH, h'.1 = h.1 + 1 → h'.2.1 = h.2.1 + n → h'.2.2 a = .inr (c, fs.set y (.ref h.1)) → h'.2.2 h.1 = .inl (0, n, .inl (fun _ => 0)) → (∀ q, q ≠ a → q ≠ h.1 → h'.2.2 q = h.2.2 q) → P (p1 + 2 + 3) (some (.ref a) :: L) st h') : P pc (some (.ref a) :: L) st h := by
  refine lk hP h0 ?_
  show P (pc + 1) (some (.ref a) :: L) (.ref a :: st) h
  refine hp _ _ ?_
  refine nwI hP h1 hn b1 b2 ?_
  refine pf hP h2 (by show a < h.1 + 1; omega) (by rw [hN_2, if_neg (by omega)]; exact hc) hy ?_
  refine k _ rfl rfl ?_ ?_ ?_
  · rw [hS_2, if_pos rfl]
  · rw [hS_2, if_neg (by omega), hN_2, if_pos rfl]
  · intro q q1 q2
    rw [hS_2, if_neg q1, hN_2, if_neg q2]
theorem nB (hP : aClo sa F N S rt cd P Q) {pc p1 n a c y w i : Nat} {fs : List Value} (h0 : lkp cd pc = some (.aload_n 0, 1, 0, 0, 0, 0)) (hp : ∀ (st : List Value) (h : aH), P p1 (some (.ref a) :: L) (.int (Int32.ofInt (n : Int)) :: st) h → P (pc + 1) (some (.ref a) :: L) st h) (h1 : lkp cd p1 = some (.newarray .boolean, 2, 0, 0, 0, 0)) (h2 : lkp cd (p1 + 2) = some (.putfield i, 3, c, y, 2, w)) (ha : a < h.1) (hc : h.2.2 a = .inr (c, fs)) (hy : y < fs.length) (hn : n ≤ 1000) (b1 : h.1 + 1 ≤ N) (b2 : h.2.1 + n ≤ S) (k : ∀ h' : aH, h'.1 = h.1 + 1 → h'.2.1 = h.2.1 + n → h'.2.2 a = .inr (c, fs.set y (.ref h.1)) → h'.2.2 h.1 = .inl (1, n, .inl (fun _ => 0)) → (∀ q, q ≠ a → q ≠ h.1 → h'.2.2 q = h.2.2 q) → P (p1 + 2 + 3) (some (.ref a) :: L) st h') : P pc (some (.ref a) :: L) st h := by
  refine lk hP h0 ?_
  show P (pc + 1) (some (.ref a) :: L) (.ref a :: st) h
  refine hp _ _ ?_
  refine nwZ hP h1 hn b1 b2 ?_
  refine pf hP h2 (by show a < h.1 + 1; omega) (by rw [hN_2, if_neg (by omega)]; exact hc) hy ?_
  refine k _ rfl rfl ?_ ?_ ?_
  · rw [hS_2, if_pos rfl]
  · rw [hS_2, if_neg (by omega), hN_2, if_pos rfl]
  · intro q q1 q2
    rw [hS_2, if_neg q1, hN_2, if_neg q2]
theorem stA (hP : aClo sa F N S rt cd P Q) {pc p1 n b k : Nat} (h0 : lkp cd pc = some (.dup, 1, 0, 0, 0, 0)) (hp : ∀ (st : List Value) (h : aH), P p1 L (.int (Int32.ofInt (k : Int)) :: st) h → P (pc + 1) L st h) (h1 : lkp cd p1 = some (.iconst (-1), 1, 0, 0, 0, 0)) (h2 : lkp cd (p1 + 1) = some (.iastore, 1, 0, 0, 0, 0)) (hb : b < h.1) (hc : h.2.2 b = .inl (0, n, .inl (gk k))) (hk : k < n) (hn : n ≤ 1000) (kk : ∀ h' : aH, h'.1 = h.1 → h'.2.1 = h.2.1 → h'.2.2 b = .inl (0, n, .inl (gk (k + 1))) → (∀ q, q ≠ b → h'.2.2 q = h.2.2 q) → P (p1 + 1 + 1) L (.ref b :: st) h') : P pc L (.ref b :: st) h := by
  refine lk hP h0 ?_
  refine ⟨rfl, ?_⟩
  show P (pc + 1) L (.ref b :: .ref b :: st) h
  refine hp _ _ ?_
  refine lk hP h1 ?_
  show P (p1 + 1) L (.int (Int32.ofInt (-1)) :: .int (Int32.ofInt (k : Int)) :: .ref b :: .ref b :: st) h
  refine lk hP h2 ?_
  show opt (hI h b) fun q => ix (Int32.ofInt (k : Int)) q.1 fun j => P (p1 + 1 + 1) L (.ref b :: st) (hS h b (.inl (0, q.1, .inl (upd q.2 j (Int32.ofInt (-1))))))
  rw [hI_of hb hc]
  show ix (Int32.ofInt (k : Int)) n fun j => P (p1 + 1 + 1) L (.ref b :: st) (hS h b (.inl (0, n, .inl (upd (gk k) j (Int32.ofInt (-1))))))
  rw [i_ix hk (by omega), gk_s]
  exact kk _ rfl rfl (by rw [hS_2, if_pos rfl]) (fun q hq => by rw [hS_2, if_neg hq])
/-- a constructor's deed: so many cells behind its own, so many slots, each cell told -/
def IniS (d k c cells slots a : Nat) (Cell : Nat → aC) : Prop := ∀ h : aH, h.1 = a + 1 → h.2.2 a = .inr (c, dfT c) → aAt d (h.1 + cells) (h.2.1 + slots) k [.ref a] h (fun r h' => r = none ∧ h'.1 = h.1 + cells ∧ h'.2.1 = h.2.1 + slots ∧ (∀ q, q < a → h'.2.2 q = h.2.2 q) ∧ ∀ q, a ≤ q → q < a + 1 + cells → h'.2.2 q = Cell q)
theorem nw0 (hP : aClo sa (aAt d) N S rt cd P Q) {pc i1 c2 y2 i2 x3 k2 w3 cells slots a2 : Nat} {Cell : Nat → aC} (h1 : lkp cd pc = some (.new i1, 3, c2, y2, 0, 0)) (h2 : lkp cd (pc + 3) = some (.dup, 1, 0, 0, 0, 0)) (h3 : lkp cd (pc + 3 + 1) = some (.invokespecial i2, 3, x3, k2, 1, w3)) (hx : ¬ x3 = 3) (ini : IniS d k2 c2 cells slots a2 Cell) (ha2 : h.1 = a2) (hst : (st.map fun v => v.category).sum ≤ 7) (b1 : h.1 + 1 + cells ≤ N) (b2 : h.2.1 + y2 + slots ≤ S) (k : ∀ h' : aH, h'.1 = h.1 + 1 + cells → h'.2.1 = h.2.1 + y2 + slots → (∀ q, q < a2 → h'.2.2 q = h.2.2 q) → (∀ q, a2 ≤ q → q < a2 + 1 + cells → h'.2.2 q = Cell q) → P (pc + 3 + 1 + 3) L (.ref a2 :: st) h') : P pc L st h := by
  subst ha2
  refine lk hP h1 ?_
  refine (⟨by omega, by omega, ?_⟩ : h.1 + 1 ≤ N ∧ h.2.1 + y2 ≤ S ∧ P (pc + 3) L (.ref h.1 :: st) (hN h y2 (.inr (c2, dfT c2))))
  refine lk hP h2 ?_
  refine ⟨rfl, ?_⟩
  show P (pc + 3 + 1) L (.ref h.1 :: .ref h.1 :: st) (hN h y2 (.inr (c2, dfT c2)))
  refine lk hP h3 ?_
  unfold ex1
  dsimp only
  rw [if_neg hx]
  show 1 ≤ (Value.ref h.1 :: Value.ref h.1 :: st).length ∧ ((Value.ref h.1 :: st).map fun v => v.category).sum ≤ 8 ∧ ∃ mc ms : Nat, h.1 + 1 + mc ≤ N ∧ h.2.1 + y2 + ms ≤ S ∧ aAt d (h.1 + 1 + mc) (h.2.1 + y2 + ms) k2 [.ref h.1] (hN h y2 (.inr (c2, dfT c2))) fun r h' => h'.1 = h.1 + 1 + mc ∧ h'.2.1 = h.2.1 + y2 + ms ∧ P (pc + 3 + 1 + 3) L (pu r (.ref h.1 :: st)) h'
  refine ⟨by simp, by first | (show 1 + (st.map fun v => v.category).sum ≤ 8; omega) | (simp [Value.category]; omega), cells, slots, b1, b2, ?_⟩
  refine aAt_mono _ _ _ _ _ _ _ _ ?_ (ini (hN h y2 (.inr (c2, dfT c2))) rfl (by rw [hN_2, if_pos rfl]))
  rintro r h' ⟨rfl, e1, e2, e3, e4⟩
  exact ⟨e1, e2, k h' e1 e2 (fun q hq => by rw [e3 q hq, hN_2, if_neg (by omega)]) e4⟩
theorem nO (hP : aClo sa (aAt d) N S rt cd P Q) {pc i1 c2 y2 i2 x3 k2 w3 cells slots a2 a c y i w : Nat} {fs : List Value} {Cell : Nat → aC} (h0 : lkp cd pc = some (.aload_n 0, 1, 0, 0, 0, 0)) (h1 : lkp cd (pc + 1) = some (.new i1, 3, c2, y2, 0, 0)) (h2 : lkp cd (pc + 1 + 3) = some (.dup, 1, 0, 0, 0, 0)) (h3 : lkp cd (pc + 1 + 3 + 1) = some (.invokespecial i2, 3, x3, k2, 1, w3)) (hx : ¬ x3 = 3) (h4 : lkp cd (pc + 1 + 3 + 1 + 3) = some (.putfield i, 3, c, y, 2, w)) (ini : IniS d k2 c2 cells slots a2 Cell) (ha2 : h.1 = a2) (ha : a < h.1) (hc : h.2.2 a = .inr (c, fs)) (hy : y < fs.length) (hst : (st.map fun v => v.category).sum ≤ 6) (b1 : h.1 + 1 + cells ≤ N) (b2 : h.2.1 + y2 + slots ≤ S) (k : ∀ h' : aH, h'.1 = h.1 + 1 + cells → h'.2.1 = h.2.1 + y2 + slots → h'.2.2 a = .inr (c, fs.set y (.ref a2)) → (∀ q, a2 ≤ q → q < a2 + 1 + cells → h'.2.2 q = Cell q) → (∀ q, q ≠ a → q < a2 → h'.2.2 q = h.2.2 q) → P (pc + 1 + 3 + 1 + 3 + 3) (some (.ref a) :: L) st h') : P pc (some (.ref a) :: L) st h := by
  refine lk hP h0 ?_
  show P (pc + 1) (some (.ref a) :: L) (.ref a :: st) h
  refine nw0 hP h1 h2 h3 hx ini ha2 (by first | (show 1 + (st.map fun v => v.category).sum ≤ 7; omega) | (simp [Value.category]; omega)) b1 b2 (fun h' e1 e2 e3 e4 => ?_)
  refine pf hP h4 (by omega) (by rw [e3 a (by omega)]; exact hc) hy ?_
  refine k _ e1 e2 ?_ ?_ ?_
  · rw [hS_2, if_pos rfl]
  · intro q q1 q2
    rw [hS_2, if_neg (by omega)]; exact e4 q q1 q2
  · intro q q1 q2
    rw [hS_2, if_neg q1]; exact e3 q q2
theorem aS2 (hP : aClo sa F N S rt cd P Q) {pc n b v k : Nat} {g : Nat → Option Nat} {fs : List Value} (hl : lkp cd pc = some (.aastore, 1, 0, 0, 0, 0)) (hb : b < h.1) (hc : h.2.2 b = .inl (2, n, .inr (.inr (.inr (.inr g))))) (hv : v < h.1) (hc2 : h.2.2 v = .inr (2, fs)) (hk : k < n) (hn : n ≤ 1000) (kk : P (pc + 1) L st (hS h b (.inl (2, n, .inr (.inr (.inr (.inr (va_up g k (some v))))))))) : P pc L (.ref v :: .int (Int32.ofInt (k : Int)) :: .ref b :: st) h := by
  refine lk hP hl ?_
  show opt (hR h b) fun q => opt (hO h v 2) fun _ => q.1 = 2 ∧ ix (Int32.ofInt (k : Int)) q.2.1 fun k => P (pc + 1) L st (hS h b (.inl (2, q.2.1, .inr (.inr (.inr (.inr (va_up q.2.2 k (some v))))))))
  rw [hR_of hb hc, hO_of hv hc2]
  refine ⟨rfl, ?_⟩
  show ix (Int32.ofInt (k : Int)) n fun k => P (pc + 1) L st (hS h b (.inl (2, n, .inr (.inr (.inr (.inr (va_up g k (some v))))))))
  rw [i_ix hk (by omega)]
  exact kk
end INI
theorem ini11 {d a : Nat} (hd : 1 ≤ d) : IniS d 11 2 8 43 a (cellC a C00) := by
  intro h n0 o0
  generalize hNN : h.1 + 8 = N
  generalize hSS : h.2.1 + 43 = S
  obtain ⟨d, rfl⟩ : ∃ e, d = e + 1 := ⟨d - 1, by omega⟩
  have hd : 0 ≤ d := by omega
  refine at_in (k := 11) rfl (by simp [lg_sl, Value.category]) fun P hP => ?_
  dsimp only at hP ⊢
  simp only [entL_i, entL_r, entL_l, entL_n, List.replicate]
  refine lk hP (r := (.aload_n 0, 1, 0, 0, 0, 0)) rfl ?_
  refine lkS hP rfl (by simp) ?_
  refine nA hP (pc := 4) (p1 := 6) (n := 5) (h := h) rfl (fun st h k => lk hP (r := (.iconst 5, 1, 0, 0, 0, 0)) rfl k) rfl rfl (by omega) o0 (by simp [dfT]) (by omega) (by omega) (by omega) ?_
  intro h1 n1 s1 o1 c1 f1
  rw [n0] at n1 c1 o1 f1
  refine nA hP (pc := 11) (p1 := 13) (n := 5) (h := h1) rfl (fun st h k => lk hP (r := (.iconst 5, 1, 0, 0, 0, 0)) rfl k) rfl rfl (by omega) o1 (by simp [dfT]) (by omega) (by omega) (by omega) ?_
  intro h2 n2 s2 o2 c2 f2
  rw [n1] at n2 c2 o2 f2
  refine nA hP (pc := 18) (p1 := 20) (n := 5) (h := h2) rfl (fun st h k => lk hP (r := (.iconst 5, 1, 0, 0, 0, 0)) rfl k) rfl rfl (by omega) o2 (by simp [dfT]) (by omega) (by omega) (by omega) ?_
  intro h3 n3 s3 o3 c3 f3
  rw [n2] at n3 c3 o3 f3
  refine nA hP (pc := 25) (p1 := 27) (n := 5) (h := h3) rfl (fun st h k => lk hP (r := (.iconst 5, 1, 0, 0, 0, 0)) rfl k) rfl rfl (by omega) o3 (by simp [dfT]) (by omega) (by omega) (by omega) ?_
  intro h4 n4 s4 o4 c4 f4
  rw [n3] at n4 c4 o4 f4
  refine nA hP (pc := 32) (p1 := 34) (n := 5) (h := h4) rfl (fun st h k => lk hP (r := (.iconst 5, 1, 0, 0, 0, 0)) rfl k) rfl rfl (by omega) o4 (by simp [dfT]) (by omega) (by omega) (by omega) ?_
  intro h5 n5 s5 o5 c5 f5
  rw [n4] at n5 c5 o5 f5
  refine nA hP (pc := 39) (p1 := 42) (n := 6) (h := h5) rfl (fun st h k => lk hP (r := (.bipush 6, 2, 0, 0, 0, 0)) rfl k) rfl rfl (by omega) o5 (by simp [dfT]) (by omega) (by omega) (by omega) ?_
  intro h6 n6 s6 o6 c6 f6
  rw [n5] at n6 c6 o6 f6
  refine nA hP (pc := 47) (p1 := 50) (n := 6) (h := h6) rfl (fun st h k => lk hP (r := (.bipush 6, 2, 0, 0, 0, 0)) rfl k) rfl rfl (by omega) o6 (by simp [dfT]) (by omega) (by omega) (by omega) ?_
  intro h7 n7 s7 o7 c7 f7
  rw [n6] at n7 c7 o7 f7
  refine nA hP (pc := 55) (p1 := 58) (n := 6) (h := h7) rfl (fun st h k => lk hP (r := (.bipush 6, 2, 0, 0, 0, 0)) rfl k) rfl rfl (by omega) o7 (by simp [dfT]) (by omega) (by omega) (by omega) ?_
  intro h8 n8 s8 o8 c8 f8
  rw [n7] at n8 c8 o8 f8
  refine lk hP (r := (.return_, 1, 0, 0, 0, 0)) rfl ?_
  refine ⟨rfl, rfl, rfl, by omega, by omega, fun q hq => ?_, fun q hq1 hq2 => ?_⟩
  · rw [f8 q (by omega) (by omega), f7 q (by omega) (by omega), f6 q (by omega) (by omega), f5 q (by omega) (by omega), f4 q (by omega) (by omega), f3 q (by omega) (by omega), f2 q (by omega) (by omega), f1 q (by omega) (by omega)]
  · rcases (show q = a ∨ q = a + 1 ∨ q = a + 2 ∨ q = a + 3 ∨ q = a + 4 ∨ q = a + 5 ∨ q = a + 6 ∨ q = a + 7 ∨ q = a + 8 by omega) with e | e | e | e | e | e | e | e | e
    · rw [e, o8]; unfold cellC; rw [if_pos rfl]; simp [dfT, C00]
    · rw [e, f8 _ (by omega) (by omega), f7 _ (by omega) (by omega), f6 _ (by omega) (by omega), f5 _ (by omega) (by omega), f4 _ (by omega) (by omega), f3 _ (by omega) (by omega), f2 _ (by omega) (by omega)]; unfold cellC; rw [if_neg (by omega), if_pos (by omega)]; exact c1
    · rw [e, f8 _ (by omega) (by omega), f7 _ (by omega) (by omega), f6 _ (by omega) (by omega), f5 _ (by omega) (by omega), f4 _ (by omega) (by omega), f3 _ (by omega) (by omega)]; unfold cellC; rw [if_neg (by omega), if_pos (by omega)]; exact c2
    · rw [e, f8 _ (by omega) (by omega), f7 _ (by omega) (by omega), f6 _ (by omega) (by omega), f5 _ (by omega) (by omega), f4 _ (by omega) (by omega)]; unfold cellC; rw [if_neg (by omega), if_pos (by omega)]; exact c3
    · rw [e, f8 _ (by omega) (by omega), f7 _ (by omega) (by omega), f6 _ (by omega) (by omega), f5 _ (by omega) (by omega)]; unfold cellC; rw [if_neg (by omega), if_pos (by omega)]; exact c4
    · rw [e, f8 _ (by omega) (by omega), f7 _ (by omega) (by omega), f6 _ (by omega) (by omega)]; unfold cellC; rw [if_neg (by omega), if_pos (by omega)]; exact c5
    · rw [e, f8 _ (by omega) (by omega), f7 _ (by omega) (by omega)]; unfold cellC; rw [if_neg (by omega), if_neg (by omega)]; exact c6
    · rw [e, f8 _ (by omega) (by omega)]; unfold cellC; rw [if_neg (by omega), if_neg (by omega)]; exact c7
    · rw [e]; unfold cellC; rw [if_neg (by omega), if_neg (by omega)]; exact c8

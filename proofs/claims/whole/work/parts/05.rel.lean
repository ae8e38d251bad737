/-! how the small machine's states lie in the heap -/
theorem opt_e {α : Type} {x : Option α} {f : α → Prop} (h : opt x f) : ∃ v, x = some v ∧ f v := by
  cases x with
  | none => exact h.elim
  | some v => exact ⟨v, rfl, h⟩
theorem tI_e {st : List Value} {f : Int32 → List Value → Prop} (h : tI st f) : ∃ x s, st = .int x :: s ∧ f x s := by
  unfold tI at h
  split at h
  · exact ⟨_, _, rfl, h⟩
  · exact h.elim
theorem tJ_e {st : List Value} {f : Int64 → List Value → Prop} (h : tJ st f) : ∃ x s, st = .long x :: s ∧ f x s := by
  unfold tJ at h
  split at h
  · exact ⟨_, _, rfl, h⟩
  · exact h.elim
theorem tR_e {st : List Value} {f : Nat → List Value → Prop} (h : tR st f) : ∃ x s, st = .ref x :: s ∧ f x s := by
  unfold tR at h
  split at h
  · exact ⟨_, _, rfl, h⟩
  · exact h.elim
theorem lvG_e {L : aL} {i : Nat} {v : Value} (h : lvG L i = some v) : L[i]? = some (some v) := by
  unfold lvG at h
  split at h
  · rename_i w hw
    rw [hw, ← h]
  · cases h
theorem ldI_e {L : aL} {i : Nat} {f : Int32 → Prop} (h : ldI L i f) : ∃ x, L[i]? = some (some (.int x)) ∧ f x := by
  unfold ldI at h
  split at h
  · rename_i x hx
    exact ⟨x, lvG_e hx, h⟩
  · exact h.elim
theorem ldJ_e {L : aL} {i : Nat} {f : Int64 → Prop} (h : ldJ L i f) : ∃ x, L[i]? = some (some (.long x)) ∧ f x := by
  unfold ldJ at h
  split at h
  · rename_i x hx
    exact ⟨x, lvG_e hx, h⟩
  · exact h.elim
theorem ldR_e {L : aL} {i : Nat} {f : Value → Prop} (h : ldR L i f) : (∃ x, L[i]? = some (some (.ref x)) ∧ f (.ref x)) ∨ (∃ x, L[i]? = some (some (.float x)) ∧ f (.float x)) := by
  unfold ldR at h
  split at h
  · rename_i x hx
    exact Or.inl ⟨x, lvG_e hx, h⟩
  · rename_i x hx
    exact Or.inr ⟨x, lvG_e hx, h⟩
  · exact h.elim
theorem hO_e {h : aH} {a ci : Nat} {fs : List Value} (q : hO h a ci = some fs) : a < h.1 ∧ h.2.2 a = .inr (ci, fs) := by
  unfold hO at q
  split at q
  · rename_i ha
    split at q
    · rename_i c fs' hc
      split at q
      · rename_i he
        subst he
        cases q
        exact ⟨ha, hc⟩
      · cases q
    · cases q
  · cases q
theorem hI_e {h : aH} {a : Nat} {p : Nat × (Nat → Int32)} (q : hI h a = some p) : a < h.1 ∧ h.2.2 a = .inl (0, p.1, .inl p.2) := by
  unfold hI at q
  split at q
  · rename_i ha
    split at q
    · rename_i n f hc
      cases q
      exact ⟨ha, hc⟩
    · cases q
  · cases q
theorem hB_e {h : aH} {a : Nat} {p : Nat × (Nat → Int32)} (q : hB h a = some p) : a < h.1 ∧ h.2.2 a = .inl (1, p.1, .inl p.2) := by
  unfold hB at q
  split at q
  · rename_i ha
    split at q
    · rename_i n f hc
      cases q
      exact ⟨ha, hc⟩
    · cases q
  · cases q
theorem hR_e {h : aH} {a : Nat} {p : Nat × Nat × (Nat → Option Nat)} (q : hR h a = some p) : a < h.1 ∧ (p.1 = 2 ∨ p.1 = 3) ∧ h.2.2 a = .inl (p.1, p.2.1, .inr (.inr (.inr (.inr p.2.2)))) := by
  unfold hR at q
  split at q
  · rename_i ha
    split at q
    · rename_i n f hc
      cases q
      exact ⟨ha, Or.inl rfl, hc⟩
    · rename_i n f hc
      cases q
      exact ⟨ha, Or.inr rfl, hc⟩
    · cases q
  · cases q
/-- values, cells as the heap has them: cell k at sz + k; .float j stands for the static row j, at sp j -/
def cv (sz : Nat) (sp : Nat → Nat) : Value → Value
  | .ref k => .ref (sz + k)
  | .float j => .ref (sp j.toNat)
  | v => v
theorem cv_cat (sz : Nat) (sp : Nat → Nat) (v : Value) : (cv sz sp v).category = v.category := by cases v <;> rfl
def cE (sz : Nat) (sp : Nat → Nat) (cs : Nat → ClassId) : aC → va_E
  | .inr (c, fs) => .inr (c, fs.map (cv sz sp))
  | .inl (t, n, .inl f) => .inl (cs t, n, .inl f)
  | .inl (t, n, .inr (.inl f)) => .inl (cs t, n, .inr (.inl f))
  | .inl (t, n, .inr (.inr (.inl f))) => .inl (cs t, n, .inr (.inr (.inl f)))
  | .inl (t, n, .inr (.inr (.inr (.inl f)))) => .inl (cs t, n, .inr (.inr (.inr (.inl f))))
  | .inl (t, n, .inr (.inr (.inr (.inr f)))) => .inl (cs t, n, .inr (.inr (.inr (.inr (fun j => (f j).map (sz + ·))))))
def wsH (sz : Nat) (sp : Nat → Nat) (cs : Nat → ClassId) (h : aH) : va_W := (List.range h.1).map fun k => (sz + k, cE sz sp cs (h.2.2 k))
theorem wsH_at {sz : Nat} {sp : Nat → Nat} {cs : Nat → ClassId} {h : aH} {k : Nat} (hk : k < h.1) : (wsH sz sp cs h)[k]? = some (sz + k, cE sz sp cs (h.2.2 k)) := by
  unfold wsH
  rw [List.getElem?_map, List.getElem?_range hk]
  rfl
theorem wsH_inv {sz : Nat} {sp : Nat → Nat} {cs : Nat → ClassId} {h : aH} {k : Nat} {q : Nat × va_E} (hq : (wsH sz sp cs h)[k]? = some q) : k < h.1 ∧ q = (sz + k, cE sz sp cs (h.2.2 k)) := by
  have hk : k < h.1 := by
    have := (List.getElem?_eq_some_iff.mp hq).1
    simpa [wsH] using this
  rw [wsH_at hk] at hq
  exact ⟨hk, (Option.some.inj hq).symm⟩
theorem wsH_D {sz : Nat} {sp : Nat → Nat} {cs : Nat → ClassId} {h : aH} : va_D (fun q => sz ≤ q) (wsH sz sp cs h) := by
  refine ⟨fun i j p q hi hj hpq => ?_, fun k q hk => ?_⟩
  · obtain ⟨-, rfl⟩ := wsH_inv hi
    obtain ⟨-, rfl⟩ := wsH_inv hj
    dsimp only at hpq
    omega
  · obtain ⟨-, rfl⟩ := wsH_inv hk
    exact Nat.le_add_right _ _
theorem wsH_set {sz : Nat} {sp : Nat → Nat} {cs : Nat → ClassId} {h : aH} {a : Nat} {c : aC} : (wsH sz sp cs h).set a (sz + a, cE sz sp cs c) = wsH sz sp cs (hS h a c) := by
  apply List.ext_getElem?
  intro k
  rw [List.getElem?_set]
  by_cases hk : a = k
  · subst hk
    rw [if_pos rfl]
    by_cases hl : a < h.1
    · rw [if_pos (by simpa [wsH] using hl), wsH_at (h := hS h a c) hl]
      simp [hS]
    · rw [if_neg (by simpa [wsH] using hl)]
      symm
      apply List.getElem?_eq_none
      simp only [wsH, hS, List.length_map, List.length_range]
      omega
  · rw [if_neg hk]
    by_cases hl : k < h.1
    · rw [wsH_at hl, wsH_at (h := hS h a c) hl]
      simp only [hS]
      rw [if_neg (fun e => hk e.symm)]
    · rw [List.getElem?_eq_none (by simp only [wsH, List.length_map, List.length_range]; omega), List.getElem?_eq_none (by simp only [wsH, hS, List.length_map, List.length_range]; omega)]
/-- locals -/
def lvl (sz : Nat) (sp : Nat → Nat) : Nat → aL → List (Nat × Value)
  | _, [] => []
  | i, none :: r => lvl sz sp (i + 1) r
  | i, some v :: r => (i, cv sz sp v) :: lvl sz sp (i + 1) r
theorem lvl_mem {sz : Nat} {sp : Nat → Nat} {q : Nat × Value} : ∀ {L : aL} {i : Nat}, q ∈ lvl sz sp i L ↔ ∃ v, i ≤ q.1 ∧ L[q.1 - i]? = some (some v) ∧ q.2 = cv sz sp v := by
  intro L
  induction L with
  | nil => intro i; simp [lvl]
  | cons x r ih =>
    intro i
    cases x with
    | none =>
      rw [lvl, ih]
      constructor
      · rintro ⟨v, h1, h2, h3⟩
        refine ⟨v, by omega, ?_, h3⟩
        rw [show q.1 - i = (q.1 - (i + 1)) + 1 by omega, List.getElem?_cons_succ]
        exact h2
      · rintro ⟨v, h1, h2, h3⟩
        by_cases he : q.1 = i
        · rw [he, Nat.sub_self] at h2
          simp at h2
        · refine ⟨v, by omega, ?_, h3⟩
          rw [show q.1 - i = (q.1 - (i + 1)) + 1 by omega, List.getElem?_cons_succ] at h2
          exact h2
    | some w =>
      rw [lvl, List.mem_cons, ih]
      constructor
      · rintro (rfl | ⟨v, h1, h2, h3⟩)
        · exact ⟨w, Nat.le_refl _, by simp, rfl⟩
        · refine ⟨v, by omega, ?_, h3⟩
          rw [show q.1 - i = (q.1 - (i + 1)) + 1 by omega, List.getElem?_cons_succ]
          exact h2
      · rintro ⟨v, h1, h2, h3⟩
        by_cases he : q.1 = i
        · left
          rw [he, Nat.sub_self] at h2
          simp at h2
          subst h2
          obtain ⟨q1, q2⟩ := q
          dsimp only at he h3
          rw [he, h3]
        · right
          refine ⟨v, by omega, ?_, h3⟩
          rw [show q.1 - i = (q.1 - (i + 1)) + 1 by omega, List.getElem?_cons_succ] at h2
          exact h2
theorem lvl_in {sz : Nat} {sp : Nat → Nat} {L : aL} {i : Nat} {v : Value} (h : L[i]? = some (some v)) : (i, cv sz sp v) ∈ lvl sz sp 0 L := lvl_mem.mpr ⟨v, Nat.zero_le _, h, rfl⟩
def LR (sz : Nat) (sp : Nat → Nat) (ls : Array Slot) (nL : Nat) (L : aL) : Prop := L.length = nL ∧ lv_has ls nL (lvl sz sp 0 L)
theorem LR_at {sz : Nat} {sp : Nat → Nat} {ls : Array Slot} {nL : Nat} {L : aL} (h : LR sz sp ls nL L) {i : Nat} {v : Value} (hv : L[i]? = some (some v)) : ls[i]? = some (.val (cv sz sp v)) := h.2.2.2 _ (lvl_in hv)
theorem LR_set1 {sz : Nat} {sp : Nat → Nat} {ls' : Array Slot} {nL : Nat} {L : aL} {i : Nat} {v : Value} (hL : L.length = nL) (hi : i < L.length) (hB : lvB L i = true)
    (h : lv_has ls' nL ((i, cv sz sp v) :: (lvl sz sp 0 L).filter (fun q => !(q.1 == i) && !(q.1 + 1 == i && q.2.category == 2)))) : LR sz sp ls' nL (L.set i (some v)) := by
  refine ⟨by simp [hL], h.1, h.2.1, fun q hq => h.2.2 q ?_⟩
  obtain ⟨w, -, h2, h3⟩ := lvl_mem.mp hq
  rw [Nat.sub_zero, List.getElem?_set] at h2
  by_cases he : i = q.1
  · rw [if_pos he, if_pos hi] at h2
    cases h2
    obtain ⟨q1, q2⟩ := q
    dsimp only at he h3
    rw [← he, h3]
    exact List.mem_cons_self
  · rw [if_neg he] at h2
    refine List.mem_cons_of_mem _ (List.mem_filter.mpr ⟨lvl_mem.mpr ⟨w, Nat.zero_le _, by rw [Nat.sub_zero]; exact h2, h3⟩, ?_⟩)
    have hne : (q.1 == i) = false := by simp; exact fun e => he e.symm
    rw [hne]
    by_cases h1 : q.1 + 1 = i
    · subst h1
      unfold lvB at hB
      dsimp only at hB
      rw [h2] at hB
      dsimp only at hB
      rw [h3, cv_cat]
      have : w.category = 1 := by simpa using hB
      rw [this]
      simp
    · have : (q.1 + 1 == i) = false := by simp; exact h1
      rw [this]
      rfl
theorem LR_set2 {sz : Nat} {sp : Nat → Nat} {ls' : Array Slot} {nL : Nat} {L : aL} {i : Nat} {v : Value} (hL : L.length = nL) (hi : i + 1 < L.length) (hB : lvB L i = true)
    (h : lv_has ls' nL ((i, cv sz sp v) :: (lvl sz sp 0 L).filter (fun q => !(q.1 == i) && (!(q.1 == i + 1) && !(q.1 + 1 == i && q.2.category == 2))))) : LR sz sp ls' nL ((L.set i (some v)).set (i + 1) none) := by
  refine ⟨by simp [hL], h.1, h.2.1, fun q hq => h.2.2 q ?_⟩
  obtain ⟨w, -, h2, h3⟩ := lvl_mem.mp hq
  rw [Nat.sub_zero, List.getElem?_set, List.getElem?_set] at h2
  by_cases he2 : i + 1 = q.1
  · rw [if_pos he2] at h2
    split at h2 <;> simp at h2
  rw [if_neg he2] at h2
  by_cases he : i = q.1
  · rw [if_pos he, if_pos (by omega)] at h2
    cases h2
    obtain ⟨q1, q2⟩ := q
    dsimp only at he h3
    rw [← he, h3]
    exact List.mem_cons_self
  · rw [if_neg he] at h2
    refine List.mem_cons_of_mem _ (List.mem_filter.mpr ⟨lvl_mem.mpr ⟨w, Nat.zero_le _, by rw [Nat.sub_zero]; exact h2, h3⟩, ?_⟩)
    have hne : (q.1 == i) = false := by simp; exact fun e => he e.symm
    have hne2 : (q.1 == i + 1) = false := by simp; exact fun e => he2 e.symm
    rw [hne, hne2]
    by_cases h1 : q.1 + 1 = i
    · subst h1
      unfold lvB at hB
      dsimp only at hB
      rw [h2] at hB
      dsimp only at hB
      rw [h3, cv_cat]
      have : w.category = 1 := by simpa using hB
      rw [this]
      simp
    · have : (q.1 + 1 == i) = false := by simp; exact h1
      rw [this]
      rfl
theorem lg_sl_cv {sz : Nat} {sp : Nat → Nat} (as : List Value) : (lg_sl (as.map (cv sz sp))).length = (lg_sl as).length := by
  induction as with
  | nil => rfl
  | cons v r ih =>
    simp only [lg_sl, List.map_cons, List.flatMap_cons, List.length_append, cv_cat] at ih ⊢
    rw [ih]
    split <;> rfl
theorem lg_sl_cons (v : Value) (r : List Value) : (lg_sl (v :: r)).length = (if v.category = 2 then 2 else 1) + (lg_sl r).length := by
  simp only [lg_sl, List.flatMap_cons, List.length_append]
  split <;> rfl
theorem entL_len : ∀ (as : List Value) (n : Nat), (lg_sl as).length ≤ n → (entL as n).length = n
  | [], n, _ => by simp [entL]
  | v :: r, n, h => by
    rw [lg_sl_cons] at h
    rw [entL]
    split
    · rename_i hc
      rw [if_pos hc] at h
      simp only [List.length_cons]
      rw [entL_len r (n - 2) (by omega)]
      omega
    · rename_i hc
      rw [if_neg hc] at h
      simp only [List.length_cons]
      rw [entL_len r (n - 1) (by omega)]
      omega
theorem entL_args {sz : Nat} {sp : Nat → Nat} : ∀ (as : List Value) (n i : Nat) (q : Nat × Value), q ∈ lvl sz sp i (entL as n) → q ∈ lv_args i (as.map (cv sz sp))
  | [], n, i, q, h => by
    obtain ⟨v, -, h2, -⟩ := lvl_mem.mp h
    rw [entL] at h2
    rw [List.getElem?_replicate] at h2
    split at h2 <;> simp at h2
  | v :: r, n, i, q, h => by
    rw [entL] at h
    rw [List.map_cons, lv_args, cv_cat]
    split at h
    · rename_i hc
      rw [if_pos hc]
      rw [lvl, lvl] at h
      rcases List.mem_cons.mp h with h | h
      · exact List.mem_cons.mpr (Or.inl h)
      · exact List.mem_cons_of_mem _ (entL_args r _ _ q h)
    · rename_i hc
      rw [if_neg hc]
      rw [lvl] at h
      rcases List.mem_cons.mp h with h | h
      · exact List.mem_cons.mpr (Or.inl h)
      · exact List.mem_cons_of_mem _ (entL_args r _ _ q h)
theorem LR_entry {sz : Nat} {sp : Nat → Nat} {as : List Value} {n : Nat} (h : (lg_sl as).length ≤ n) : LR sz sp ((lg_sl (as.map (cv sz sp)) ++ List.replicate (n - (lg_sl (as.map (cv sz sp))).length) Slot.unset).toArray) n (entL as n) := by
  have hl := lv_entry (as.map (cv sz sp)) (n := n) (by rw [lg_sl_cv]; exact h)
  exact ⟨entL_len as n h, hl.1, hl.2.1, fun q hq => hl.2.2 q (entL_args as n 0 q hq)⟩

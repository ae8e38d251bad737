/-! running the small machine over a stretch of code -/
theorem opt_m {α : Type} {x : Option α} {f g : α → Prop} (h : ∀ v, f v → g v) (k : opt x f) : opt x g := by
  cases x with
  | none => exact k
  | some v => exact h v k
theorem tI_m {st : List Value} {f g : Int32 → List Value → Prop} (h : ∀ a s, f a s → g a s) (k : tI st f) : tI st g := by
  obtain ⟨a, s, rfl, k⟩ := tI_e k
  exact h a s k
theorem tJ_m {st : List Value} {f g : Int64 → List Value → Prop} (h : ∀ a s, f a s → g a s) (k : tJ st f) : tJ st g := by
  obtain ⟨a, s, rfl, k⟩ := tJ_e k
  exact h a s k
theorem tR_m {st : List Value} {f g : Nat → List Value → Prop} (h : ∀ a s, f a s → g a s) (k : tR st f) : tR st g := by
  obtain ⟨a, s, rfl, k⟩ := tR_e k
  exact h a s k
theorem ldI_m {L : aL} {i : Nat} {f g : Int32 → Prop} (h : ∀ a, f a → g a) (k : ldI L i f) : ldI L i g := by
  unfold ldI at k ⊢
  split at k
  · exact h _ k
  · exact k
theorem ldJ_m {L : aL} {i : Nat} {f g : Int64 → Prop} (h : ∀ a, f a → g a) (k : ldJ L i f) : ldJ L i g := by
  unfold ldJ at k ⊢
  split at k
  · exact h _ k
  · exact k
theorem ldR_m {L : aL} {i : Nat} {f g : Value → Prop} (h : ∀ a, f a → g a) (k : ldR L i f) : ldR L i g := by
  unfold ldR at k ⊢
  split at k
  · exact h _ k
  · exact h _ k
  · exact k
theorem lvS_m {L : aL} {i : Nat} {v : Value} {f g : aL → Prop} (h : ∀ a, f a → g a) (k : lvS L i v f) : lvS L i v g := ⟨k.1, k.2.1, h _ k.2.2⟩
theorem lvS2_m {L : aL} {i : Nat} {v : Value} {f g : aL → Prop} (h : ∀ a, f a → g a) (k : lvS2 L i v f) : lvS2 L i v g := ⟨k.1, k.2.1, h _ k.2.2⟩
theorem ix_m {i : Int32} {n : Nat} {f g : Nat → Prop} (h : ∀ a, f a → g a) (k : ix i n f) : ix i n g := ⟨k.1, h _ k.2⟩
theorem br_m {c a b a' b' : Prop} (h1 : a → a') (h2 : b → b') (k : br c a b) : br c a' b' := ⟨fun q => h1 (k.1 q), fun q => h2 (k.2 q)⟩
theorem jmp_m {P P' : aK} {pc : Nat} {off : Int} {L : aL} {s : List Value} {h : aH} (hP : ∀ pc L st h, P pc L st h → P' pc L st h) (k : jmp P pc off L s h) : jmp P' pc off L s h := ⟨k.1, hP _ _ _ _ k.2⟩
set_option maxHeartbeats 4000000 in
theorem ex1_mono {sa : aS} {F : aF} {N S : Nat} {rt : Option FieldType} {P P' : aK} {Q Q' : aQ} (hP : ∀ pc L st h, P pc L st h → P' pc L st h) (hQ : ∀ r h, Q r h → Q' r h) (hF : ∀ (N S k : Nat) (as : List Value) (h : aH) (Q Q' : aQ), (∀ r h, Q r h → Q' r h) → F N S k as h Q → F N S k as h Q')
    {pc : Nat} {L : aL} {st : List Value} {h : aH} {ins : Instr} {x y z w : Nat} (k : ex1 sa F N S rt P Q pc L st h ins x y z w) : ex1 sa F N S rt P' Q' pc L st h ins x y z w := by
  cases ins with
  | dup =>
    cases st with
    | nil => exact k
    | cons v s => exact ⟨k.1, hP _ _ _ _ k.2⟩
  | dup2 =>
    cases st with
    | nil => exact k
    | cons v s =>
      cases s with
      | nil => exact k
      | cons v2 s => exact ⟨k.1, k.2.1, hP _ _ _ _ k.2.2⟩
  | ifCond c off =>
    refine tI_m (fun a s k => ?_) k
    cases c <;> exact br_m (hP _ _ _ _) (hP _ _ _ _) k
  | if_icmp c off =>
    refine tI_m (fun a s k => tI_m (fun a s k => ?_) k) k
    cases c <;> exact br_m (hP _ _ _ _) (hP _ _ _ _) k
  | tableswitch df lo hi offs => exact tI_m (fun a s k => br_m (jmp_m hP) (opt_m fun _ => jmp_m hP) k) k
  | lookupswitch df ps => exact tI_m (fun a s k => jmp_m hP k) k
  | putfield i =>
    cases st with
    | nil => exact k
    | cons v s => exact tR_m (fun a s k => opt_m (fun _ k => ⟨k.1, k.2.1, hP _ _ _ _ k.2.2⟩) k) k
  | getfield i => exact tR_m (fun a s k => opt_m (fun _ k => opt_m (fun _ => hP _ _ _ _) k) k) k
  | iaload =>
    refine tI_m (fun a s k => ?_) k
    match s, k with
    | .ref a :: s, k => exact opt_m (fun _ k => ix_m (fun _ => hP _ _ _ _) k) k
    | .float j :: s, k => exact opt_m (fun _ k => ix_m (fun _ => hP _ _ _ _) k) k
  | arraylength =>
    match st, k with
    | .ref a :: s, k => exact opt_m (fun _ => hP _ _ _ _) k
    | .float j :: s, k => exact opt_m (fun _ => hP _ _ _ _) k
  | iastore => exact tI_m (fun a s k => tI_m (fun a s k => tR_m (fun a s k => opt_m (fun _ k => ix_m (fun _ => hP _ _ _ _) k) k) k) k) k
  | bastore => exact tI_m (fun a s k => tI_m (fun a s k => tR_m (fun a s k => opt_m (fun _ k => ix_m (fun _ => hP _ _ _ _) k) k) k) k) k
  | baload => exact tI_m (fun a s k => tR_m (fun a s k => opt_m (fun _ k => ix_m (fun _ => hP _ _ _ _) k) k) k) k
  | aaload => exact tI_m (fun a s k => tR_m (fun a s k => opt_m (fun _ k => ix_m (fun _ k => opt_m (fun _ => hP _ _ _ _) k) k) k) k) k
  | aastore => exact tR_m (fun a s k => tI_m (fun a s k => tR_m (fun a s k => opt_m (fun _ k => opt_m (fun _ k => ⟨k.1, ix_m (fun _ => hP _ _ _ _) k.2⟩) k) k) k) k) k
  | new i => exact ⟨k.1, k.2.1, hP _ _ _ _ k.2.2⟩
  | newarray t =>
    refine tI_m (fun a s k => ⟨k.1, k.2.1, k.2.2.1, k.2.2.2.1, ?_⟩) k
    have k5 := k.2.2.2.2
    cases t <;> first | exact hP _ _ _ _ k5 | exact k5
  | anewarray i => exact tI_m (fun a s k => ⟨k.1, k.2.1, k.2.2.1, k.2.2.2.1, hP _ _ _ _ k.2.2.2.2⟩) k
  | multianewarray i q => exact ⟨k.1, tI_m (fun a s k => tI_m (fun a s k => ⟨k.1, k.2.1, k.2.2.1, k.2.2.2.1, k.2.2.2.2.1, k.2.2.2.2.2.1, hP _ _ _ _ k.2.2.2.2.2.2⟩) k) k.2⟩
  | invokevirtual i =>
    refine ⟨k.1, k.2.1, ?_⟩
    have k3 := k.2.2
    revert k3
    split
    · intro k3
      exact opt_m (fun _ k => hF _ _ _ _ _ _ _ (fun _ _ => hP _ _ _ _) k) k3
    · exact fun k3 => k3
  | invokestatic i =>
    unfold ex1 at k ⊢
    dsimp only at k ⊢
    split at k
    · split at k
      · refine ⟨k.1, k.2.1, k.2.2.1, k.2.2.2.1, ?_⟩
        exact opt_m (fun _ k => opt_m (fun _ k => ⟨k.1, k.2.1, hP _ _ _ _ k.2.2⟩) k) k.2.2.2.2
      · exact k
    · exact tI_m (fun a s k => tI_m (fun a s k => ⟨k.1, hP _ _ _ _ k.2⟩) k) k
    · exact tI_m (fun a s k => tI_m (fun a s k => ⟨k.1, hP _ _ _ _ k.2⟩) k) k
    · exact tI_m (fun a s k => ⟨k.1, hP _ _ _ _ k.2⟩) k
    · exact ⟨k.1, k.2.1, hF _ _ _ _ _ _ _ (fun _ _ => hP _ _ _ _) k.2.2⟩
  | invokespecial i =>
    unfold ex1 at k ⊢
    dsimp only at k ⊢
    by_cases hx : x = 3
    · rw [if_pos hx] at k ⊢
      exact tR_m (fun a s k => ⟨k.1, hP _ _ _ _ k.2⟩) k
    · rw [if_neg hx] at k ⊢
      refine ⟨k.1, k.2.1, ?_⟩
      have k3 := k.2.2
      revert k3
      split
      · rintro ⟨mc, ms, g1, g2, k4⟩
        exact ⟨mc, ms, g1, g2, hF _ _ _ _ _ _ _ (fun _ _ k => ⟨k.1, k.2.1, hP _ _ _ _ k.2.2⟩) k4⟩
      · exact fun k3 => k3
  | ireturn => exact tI_m (fun a s k => ⟨k.1, k.2.1, hQ _ _ k.2.2⟩) k
  | lreturn => exact tJ_m (fun a s k => ⟨k.1, k.2.1, hQ _ _ k.2.2⟩) k
  | areturn => exact tR_m (fun a s k => ⟨k.1, k.2.1, hQ _ _ k.2.2⟩) k
  | return_ => exact ⟨k.1, k.2.1, hQ _ _ k.2.2⟩
  | iload i => exact ldI_m (fun _ => hP _ _ _ _) k
  | iload_n i => exact ldI_m (fun _ => hP _ _ _ _) k
  | lload i => exact ldJ_m (fun _ => hP _ _ _ _) k
  | lload_n i => exact ldJ_m (fun _ => hP _ _ _ _) k
  | aload i => exact ldR_m (f := fun v => P (pc + 2) L (v :: st) h) (fun _ => hP _ _ _ _) k
  | aload_n i => exact ldR_m (f := fun v => P (pc + 1) L (v :: st) h) (fun _ => hP _ _ _ _) k
  | istore i => exact tI_m (fun a s k => lvS_m (fun _ => hP _ _ _ _) k) k
  | istore_n i => exact tI_m (fun a s k => lvS_m (fun _ => hP _ _ _ _) k) k
  | lstore i => exact tJ_m (fun a s k => lvS2_m (fun _ => hP _ _ _ _) k) k
  | lstore_n i => exact tJ_m (fun a s k => lvS2_m (fun _ => hP _ _ _ _) k) k
  | astore i => exact tR_m (fun a s k => lvS_m (fun _ => hP _ _ _ _) k) k
  | astore_n i => exact tR_m (fun a s k => lvS_m (fun _ => hP _ _ _ _) k) k
  | iinc i n => exact ldI_m (fun _ k => lvS_m (fun _ => hP _ _ _ _) k) k
  | iadd => exact tI_m (fun a s k => tI_m (fun a s => hP _ _ _ _) k) k
  | isub => exact tI_m (fun a s k => tI_m (fun a s => hP _ _ _ _) k) k
  | imul => exact tI_m (fun a s k => tI_m (fun a s => hP _ _ _ _) k) k
  | iand => exact tI_m (fun a s k => tI_m (fun a s => hP _ _ _ _) k) k
  | ior => exact tI_m (fun a s k => tI_m (fun a s => hP _ _ _ _) k) k
  | ixor => exact tI_m (fun a s k => tI_m (fun a s => hP _ _ _ _) k) k
  | irem => exact tI_m (fun a s k => tI_m (fun a s k => ⟨k.1, hP _ _ _ _ k.2⟩) k) k
  | ineg => exact tI_m (fun a s => hP _ _ _ _) k
  | ishl => exact tI_m (fun a s k => tI_m (fun a s => hP _ _ _ _) k) k
  | ishr => exact tI_m (fun a s k => tI_m (fun a s => hP _ _ _ _) k) k
  | iushr => exact tI_m (fun a s k => tI_m (fun a s => hP _ _ _ _) k) k
  | ladd => exact tJ_m (fun a s k => tJ_m (fun a s => hP _ _ _ _) k) k
  | lmul => exact tJ_m (fun a s k => tJ_m (fun a s => hP _ _ _ _) k) k
  | ldiv => exact tJ_m (fun a s k => tJ_m (fun a s k => ⟨k.1, hP _ _ _ _ k.2⟩) k) k
  | lrem => exact tJ_m (fun a s k => tJ_m (fun a s k => ⟨k.1, hP _ _ _ _ k.2⟩) k) k
  | lcmp => exact tJ_m (fun a s k => tJ_m (fun a s => hP _ _ _ _) k) k
  | i2l => exact tI_m (fun a s => hP _ _ _ _) k
  | l2i => exact tJ_m (fun a s => hP _ _ _ _) k
  | i2b => exact tI_m (fun a s => hP _ _ _ _) k
  | i2s => exact tI_m (fun a s => hP _ _ _ _) k
  | iconst n => exact hP _ _ _ _ k
  | bipush n => exact hP _ _ _ _ k
  | sipush n => exact hP _ _ _ _ k
  | lconst n => exact hP _ _ _ _ k
  | ldc i => exact hP _ _ _ _ k
  | ldc_w i => exact hP _ _ _ _ k
  | ldc2_w i => exact hP _ _ _ _ k
  | goto off => exact hP _ _ _ _ k
  | getstatic i => exact hP _ _ _ _ k
  | _ => exact k
theorem aAt_mono : ∀ (d N S k : Nat) (as : List Value) (h : aH) (Q Q' : aQ), (∀ r h, Q r h → Q' r h) → aAt d N S k as h Q → aAt d N S k as h Q'
  | 0, _, _, _, _, _, _, _, _, h => h
  | d + 1, N, S, k, as, h, Q, Q', hQ, hh => by
    refine opt_m (fun r hr => ⟨hr.1, fun P hP => hr.2 P fun pc L st h' hex => hP pc L st h' ?_⟩) hh
    exact opt_m (fun _ k => ex1_mono (fun _ _ _ _ q => q) hQ (aAt_mono d) k) hex
/-- which of two, by a list of places -/
def sel : List Nat → Nat → Prop → Prop → Prop
  | [], _, _, b => b
  | k :: r, pc, a, b => if pc = k then a else sel r pc a b
theorem sel_nil {pc : Nat} {a b : Prop} : sel [] pc a b = b := rfl
theorem sel_eq {k : Nat} {r : List Nat} {a b : Prop} : sel (k :: r) k a b = a := by simp [sel]
theorem sel_ne {k pc : Nat} {r : List Nat} {a b : Prop} (h : (pc == k) = false) : sel (k :: r) pc a b = sel r pc a b := by
  have : ¬ pc = k := by simpa using h
  simp [sel, this]
/-- from here on, till one of these places -/
def exT (sa : aS) (F : aF) (N S : Nat) (rt : Option FieldType) (cd : List (Nat × aI)) (P : aK) (Q : aQ) (stops : List Nat) : Nat → aK
  | 0 => P
  | n + 1 => fun pc L st h => sel stops pc (P pc L st h) (exq sa F N S rt cd (exT sa F N S rt cd P Q stops n) Q pc L st h)
theorem exT_P {sa : aS} {d N S : Nat} {rt : Option FieldType} {cd : List (Nat × aI)} {P : aK} {Q : aQ} (hP : aClo sa (aAt d) N S rt cd P Q) (stops : List Nat) : ∀ (n pc : Nat) (L : aL) (st : List Value) (h : aH), exT sa (aAt d) N S rt cd P Q stops n pc L st h → P pc L st h
  | 0, _, _, _, _, q => q
  | n + 1, pc, L, st, h, q => by
    have key : ∀ r : List Nat, sel r pc (P pc L st h) (exq sa (aAt d) N S rt cd (exT sa (aAt d) N S rt cd P Q stops n) Q pc L st h) → P pc L st h := by
      intro r
      induction r with
      | nil => exact fun q => hP _ _ _ _ (opt_m (fun _ k => ex1_mono (exT_P hP stops n) (fun _ _ q => q) (aAt_mono d) k) q)
      | cons k r ih =>
        intro q
        unfold sel at q
        split at q
        · exact q
        · exact ih q
    exact key stops q
/-- one step surely, then on till one of these places -/
theorem runT {sa : aS} {d N S : Nat} {rt : Option FieldType} {cd : List (Nat × aI)} {P : aK} {Q : aQ} (hP : aClo sa (aAt d) N S rt cd P Q) (stops : List Nat) (n : Nat) {pc : Nat} {L : aL} {st : List Value} {h : aH} (k : exq sa (aAt d) N S rt cd (exT sa (aAt d) N S rt cd P Q stops n) Q pc L st h) : P pc L st h :=
  hP _ _ _ _ (opt_m (fun _ k => ex1_mono (exT_P hP stops n) (fun _ _ q => q) (aAt_mono d) k) k)
theorem exT_s {sa : aS} {F : aF} {N S : Nat} {rt : Option FieldType} {cd : List (Nat × aI)} {P : aK} {Q : aQ} {stops : List Nat} {n pc : Nat} {L : aL} {st : List Value} {h : aH} : exT sa F N S rt cd P Q stops (n + 1) pc L st h = sel stops pc (P pc L st h) (exq sa F N S rt cd (exT sa F N S rt cd P Q stops n) Q pc L st h) := rfl
theorem exT_0 {sa : aS} {F : aF} {N S : Nat} {rt : Option FieldType} {cd : List (Nat × aI)} {P : aK} {Q : aQ} {stops : List Nat} {pc : Nat} {L : aL} {st : List Value} {h : aH} : exT sa F N S rt cd P Q stops 0 pc L st h = P pc L st h := rfl
theorem opt_s {α : Type} {v : α} {f : α → Prop} : opt (some v) f = f v := rfl
theorem tI_c {x : Int32} {s : List Value} {f : Int32 → List Value → Prop} : tI (.int x :: s) f = f x s := rfl
theorem tJ_c {x : Int64} {s : List Value} {f : Int64 → List Value → Prop} : tJ (.long x :: s) f = f x s := rfl
theorem tR_c {x : Nat} {s : List Value} {f : Nat → List Value → Prop} : tR (.ref x :: s) f = f x s := rfl
theorem ldI_0 {x : Int32} {L : aL} {f : Int32 → Prop} : ldI (some (.int x) :: L) 0 f = f x := rfl
theorem ldI_s {v : Option Value} {L : aL} {i : Nat} {f : Int32 → Prop} : ldI (v :: L) (i + 1) f = ldI L i f := by simp [ldI, lvG]
theorem ldJ_0 {x : Int64} {L : aL} {f : Int64 → Prop} : ldJ (some (.long x) :: L) 0 f = f x := rfl
theorem ldJ_s {v : Option Value} {L : aL} {i : Nat} {f : Int64 → Prop} : ldJ (v :: L) (i + 1) f = ldJ L i f := by simp [ldJ, lvG]
theorem ldR_0 {x : Nat} {L : aL} {f : Value → Prop} : ldR (some (.ref x) :: L) 0 f = f (.ref x) := rfl
theorem ldR_f {x : UInt32} {L : aL} {f : Value → Prop} : ldR (some (.float x) :: L) 0 f = f (.float x) := rfl
theorem ldR_s {v : Option Value} {L : aL} {i : Nat} {f : Value → Prop} : ldR (v :: L) (i + 1) f = ldR L i f := by simp [ldR, lvG]
theorem lvS_0 {a : Option Value} {L : aL} {v : Value} {f : aL → Prop} : lvS (a :: L) 0 v f = f (some v :: L) := by simp [lvS, lvB]
theorem lvS_1n {b : Option Value} {L : aL} {v : Value} {f : aL → Prop} : lvS (none :: b :: L) 1 v f = f (none :: some v :: L) := by simp [lvS, lvB]
theorem lvS_1i {x : Int32} {b : Option Value} {L : aL} {v : Value} {f : aL → Prop} : lvS (some (.int x) :: b :: L) 1 v f = f (some (.int x) :: some v :: L) := by simp [lvS, lvB, Value.category]
theorem lvS_1r {x : Nat} {b : Option Value} {L : aL} {v : Value} {f : aL → Prop} : lvS (some (.ref x) :: b :: L) 1 v f = f (some (.ref x) :: some v :: L) := by simp [lvS, lvB, Value.category]
theorem lvS_1f {x : UInt32} {b : Option Value} {L : aL} {v : Value} {f : aL → Prop} : lvS (some (.float x) :: b :: L) 1 v f = f (some (.float x) :: some v :: L) := by simp [lvS, lvB, Value.category]
theorem lvS_s {a : Option Value} {L : aL} {i : Nat} {v : Value} {f : aL → Prop} : lvS (a :: L) (i + 2) v f = lvS L (i + 1) v (fun L' => f (a :: L')) := by
  simp [lvS, lvB]
  intros
  omega
theorem lvS2_0 {a b : Option Value} {L : aL} {v : Value} {f : aL → Prop} : lvS2 (a :: b :: L) 0 v f = f (some v :: none :: L) := by simp [lvS2, lvB]
theorem lvS2_1n {b c : Option Value} {L : aL} {v : Value} {f : aL → Prop} : lvS2 (none :: b :: c :: L) 1 v f = f (none :: some v :: none :: L) := by simp [lvS2, lvB]
theorem lvS2_1i {x : Int32} {b c : Option Value} {L : aL} {v : Value} {f : aL → Prop} : lvS2 (some (.int x) :: b :: c :: L) 1 v f = f (some (.int x) :: some v :: none :: L) := by simp [lvS2, lvB, Value.category]
theorem lvS2_1r {x : Nat} {b c : Option Value} {L : aL} {v : Value} {f : aL → Prop} : lvS2 (some (.ref x) :: b :: c :: L) 1 v f = f (some (.ref x) :: some v :: none :: L) := by simp [lvS2, lvB, Value.category]
theorem lvS2_s {a : Option Value} {L : aL} {i : Nat} {v : Value} {f : aL → Prop} : lvS2 (a :: L) (i + 2) v f = lvS2 L (i + 1) v (fun L' => f (a :: L')) := by
  simp [lvS2, lvB]
/-- into a method -/
theorem at_in {d N S k : Nat} {as : List Value} {h : aH} {Q : aQ} {r : mR} (hr : mtab[k]? = some r) (hl : (lg_sl as).length ≤ r.2.2.1) (hh : ∀ P : aK, aClo sa0 (aAt d) N S r.2.2.2.1 r.2.2.2.2.2 P Q → P 0 (entL as r.2.2.1) [] h) : aAt (d + 1) N S k as h Q := by
  show opt (mtab[k]?) _
  rw [hr]
  exact ⟨hl, hh⟩
theorem call_v0 {sa : aS} {d N S : Nat} {rt : Option FieldType} {cd : List (Nat × aI)} {P : aK} {Q : aQ} {pc : Nat} {L : aL} {h : aH} {i len x y z w : Nat} {s : List Value} {a : Nat} (hP : aClo sa (aAt d) N S rt cd P Q) (hl : lkp cd pc = some (.invokevirtual i, len, x, y, 1, w)) {fs : List Value} (ho : hO h a w = some fs) (hs : s.length ≤ 4) {R : aQ} (hc : aAt d h.1 h.2.1 y [.ref a] h R) (k : ∀ r h', R r h' → P (pc + 3) L (pu r s) h') : P pc L (.ref a :: s) h := by
  refine hP _ _ _ _ ?_
  unfold exq
  rw [hl]
  refine ⟨by simp only [List.length_cons]; omega, hs, ?_⟩
  show opt (hO h a w) _
  rw [ho]
  exact aAt_mono _ _ _ _ _ _ _ _ k hc
theorem call_v1 {sa : aS} {d N S : Nat} {rt : Option FieldType} {cd : List (Nat × aI)} {P : aK} {Q : aQ} {pc : Nat} {L : aL} {h : aH} {i len x y z w : Nat} {s : List Value} {v1 : Value} {a : Nat} (hP : aClo sa (aAt d) N S rt cd P Q) (hl : lkp cd pc = some (.invokevirtual i, len, x, y, 2, w)) {fs : List Value} (ho : hO h a w = some fs) (hs : s.length ≤ 4) {R : aQ} (hc : aAt d h.1 h.2.1 y [.ref a, v1] h R) (k : ∀ r h', R r h' → P (pc + 3) L (pu r s) h') : P pc L (v1 :: .ref a :: s) h := by
  refine hP _ _ _ _ ?_
  unfold exq
  rw [hl]
  refine ⟨by simp only [List.length_cons]; omega, hs, ?_⟩
  show opt (hO h a w) _
  rw [ho]
  exact aAt_mono _ _ _ _ _ _ _ _ k hc
theorem call_v2 {sa : aS} {d N S : Nat} {rt : Option FieldType} {cd : List (Nat × aI)} {P : aK} {Q : aQ} {pc : Nat} {L : aL} {h : aH} {i len x y z w : Nat} {s : List Value} {v1 v2 : Value} {a : Nat} (hP : aClo sa (aAt d) N S rt cd P Q) (hl : lkp cd pc = some (.invokevirtual i, len, x, y, 3, w)) {fs : List Value} (ho : hO h a w = some fs) (hs : s.length ≤ 4) {R : aQ} (hc : aAt d h.1 h.2.1 y [.ref a, v1, v2] h R) (k : ∀ r h', R r h' → P (pc + 3) L (pu r s) h') : P pc L (v2 :: v1 :: .ref a :: s) h := by
  refine hP _ _ _ _ ?_
  unfold exq
  rw [hl]
  refine ⟨by simp only [List.length_cons]; omega, hs, ?_⟩
  show opt (hO h a w) _
  rw [ho]
  exact aAt_mono _ _ _ _ _ _ _ _ k hc
theorem call_v3 {sa : aS} {d N S : Nat} {rt : Option FieldType} {cd : List (Nat × aI)} {P : aK} {Q : aQ} {pc : Nat} {L : aL} {h : aH} {i len x y z w : Nat} {s : List Value} {v1 v2 v3 : Value} {a : Nat} (hP : aClo sa (aAt d) N S rt cd P Q) (hl : lkp cd pc = some (.invokevirtual i, len, x, y, 4, w)) {fs : List Value} (ho : hO h a w = some fs) (hs : s.length ≤ 4) {R : aQ} (hc : aAt d h.1 h.2.1 y [.ref a, v1, v2, v3] h R) (k : ∀ r h', R r h' → P (pc + 3) L (pu r s) h') : P pc L (v3 :: v2 :: v1 :: .ref a :: s) h := by
  refine hP _ _ _ _ ?_
  unfold exq
  rw [hl]
  refine ⟨by simp only [List.length_cons]; omega, hs, ?_⟩
  show opt (hO h a w) _
  rw [ho]
  exact aAt_mono _ _ _ _ _ _ _ _ k hc
theorem call_v4 {sa : aS} {d N S : Nat} {rt : Option FieldType} {cd : List (Nat × aI)} {P : aK} {Q : aQ} {pc : Nat} {L : aL} {h : aH} {i len x y z w : Nat} {s : List Value} {v1 v2 v3 v4 : Value} {a : Nat} (hP : aClo sa (aAt d) N S rt cd P Q) (hl : lkp cd pc = some (.invokevirtual i, len, x, y, 5, w)) {fs : List Value} (ho : hO h a w = some fs) (hs : s.length ≤ 4) {R : aQ} (hc : aAt d h.1 h.2.1 y [.ref a, v1, v2, v3, v4] h R) (k : ∀ r h', R r h' → P (pc + 3) L (pu r s) h') : P pc L (v4 :: v3 :: v2 :: v1 :: .ref a :: s) h := by
  refine hP _ _ _ _ ?_
  unfold exq
  rw [hl]
  refine ⟨by simp only [List.length_cons]; omega, hs, ?_⟩
  show opt (hO h a w) _
  rw [ho]
  exact aAt_mono _ _ _ _ _ _ _ _ k hc
theorem call_v5 {sa : aS} {d N S : Nat} {rt : Option FieldType} {cd : List (Nat × aI)} {P : aK} {Q : aQ} {pc : Nat} {L : aL} {h : aH} {i len x y z w : Nat} {s : List Value} {v1 v2 v3 v4 v5 : Value} {a : Nat} (hP : aClo sa (aAt d) N S rt cd P Q) (hl : lkp cd pc = some (.invokevirtual i, len, x, y, 6, w)) {fs : List Value} (ho : hO h a w = some fs) (hs : s.length ≤ 4) {R : aQ} (hc : aAt d h.1 h.2.1 y [.ref a, v1, v2, v3, v4, v5] h R) (k : ∀ r h', R r h' → P (pc + 3) L (pu r s) h') : P pc L (v5 :: v4 :: v3 :: v2 :: v1 :: .ref a :: s) h := by
  refine hP _ _ _ _ ?_
  unfold exq
  rw [hl]
  refine ⟨by simp only [List.length_cons]; omega, hs, ?_⟩
  show opt (hO h a w) _
  rw [ho]
  exact aAt_mono _ _ _ _ _ _ _ _ k hc
theorem call_v6 {sa : aS} {d N S : Nat} {rt : Option FieldType} {cd : List (Nat × aI)} {P : aK} {Q : aQ} {pc : Nat} {L : aL} {h : aH} {i len x y z w : Nat} {s : List Value} {v1 v2 v3 v4 v5 v6 : Value} {a : Nat} (hP : aClo sa (aAt d) N S rt cd P Q) (hl : lkp cd pc = some (.invokevirtual i, len, x, y, 7, w)) {fs : List Value} (ho : hO h a w = some fs) (hs : s.length ≤ 4) {R : aQ} (hc : aAt d h.1 h.2.1 y [.ref a, v1, v2, v3, v4, v5, v6] h R) (k : ∀ r h', R r h' → P (pc + 3) L (pu r s) h') : P pc L (v6 :: v5 :: v4 :: v3 :: v2 :: v1 :: .ref a :: s) h := by
  refine hP _ _ _ _ ?_
  unfold exq
  rw [hl]
  refine ⟨by simp only [List.length_cons]; omega, hs, ?_⟩
  show opt (hO h a w) _
  rw [ho]
  exact aAt_mono _ _ _ _ _ _ _ _ k hc
theorem call_s0 {sa : aS} {d N S : Nat} {rt : Option FieldType} {cd : List (Nat × aI)} {P : aK} {Q : aQ} {pc : Nat} {L : aL} {h : aH} {i len x y z w : Nat} {s : List Value} (hP : aClo sa (aAt d) N S rt cd P Q) (hl : lkp cd pc = some (.invokestatic i, len, 1, y, 0, w)) (hs : s.length ≤ 4) {R : aQ} (hc : aAt d h.1 h.2.1 y [] h R) (k : ∀ r h', R r h' → P (pc + 3) L (pu r s) h') : P pc L (s) h := by
  refine hP _ _ _ _ ?_
  unfold exq
  rw [hl]
  refine ⟨by simp only [List.length_cons]; omega, hs, ?_⟩
  exact aAt_mono _ _ _ _ _ _ _ _ k hc
theorem call_s0n {sa : aS} {d N S : Nat} {rt : Option FieldType} {cd : List (Nat × aI)} {P : aK} {Q : aQ} {pc : Nat} {L : aL} {h : aH} {i len x y z w : Nat} {s : List Value} (hP : aClo sa (aAt d) N S rt cd P Q) (hl : lkp cd pc = some (.invokestatic i, len, 11, y, 0, w)) (hs : s.length ≤ 4) {R : aQ} (hc : aAt d h.1 h.2.1 y [] h R) (k : ∀ r h', R r h' → P (pc + 3) L (pu r s) h') : P pc L (s) h := by
  refine hP _ _ _ _ ?_
  unfold exq
  rw [hl]
  refine ⟨by simp only [List.length_cons]; omega, hs, ?_⟩
  exact aAt_mono _ _ _ _ _ _ _ _ k hc
theorem call_s1 {sa : aS} {d N S : Nat} {rt : Option FieldType} {cd : List (Nat × aI)} {P : aK} {Q : aQ} {pc : Nat} {L : aL} {h : aH} {i len x y z w : Nat} {s : List Value} {v1 : Value} (hP : aClo sa (aAt d) N S rt cd P Q) (hl : lkp cd pc = some (.invokestatic i, len, 1, y, 1, w)) (hs : s.length ≤ 4) {R : aQ} (hc : aAt d h.1 h.2.1 y [v1] h R) (k : ∀ r h', R r h' → P (pc + 3) L (pu r s) h') : P pc L (v1 :: s) h := by
  refine hP _ _ _ _ ?_
  unfold exq
  rw [hl]
  refine ⟨by simp only [List.length_cons]; omega, hs, ?_⟩
  exact aAt_mono _ _ _ _ _ _ _ _ k hc
theorem call_s1n {sa : aS} {d N S : Nat} {rt : Option FieldType} {cd : List (Nat × aI)} {P : aK} {Q : aQ} {pc : Nat} {L : aL} {h : aH} {i len x y z w : Nat} {s : List Value} {v1 : Value} (hP : aClo sa (aAt d) N S rt cd P Q) (hl : lkp cd pc = some (.invokestatic i, len, 11, y, 1, w)) (hs : s.length ≤ 4) {R : aQ} (hc : aAt d h.1 h.2.1 y [v1] h R) (k : ∀ r h', R r h' → P (pc + 3) L (pu r s) h') : P pc L (v1 :: s) h := by
  refine hP _ _ _ _ ?_
  unfold exq
  rw [hl]
  refine ⟨by simp only [List.length_cons]; omega, hs, ?_⟩
  exact aAt_mono _ _ _ _ _ _ _ _ k hc
theorem call_s2 {sa : aS} {d N S : Nat} {rt : Option FieldType} {cd : List (Nat × aI)} {P : aK} {Q : aQ} {pc : Nat} {L : aL} {h : aH} {i len x y z w : Nat} {s : List Value} {v1 v2 : Value} (hP : aClo sa (aAt d) N S rt cd P Q) (hl : lkp cd pc = some (.invokestatic i, len, 1, y, 2, w)) (hs : s.length ≤ 4) {R : aQ} (hc : aAt d h.1 h.2.1 y [v1, v2] h R) (k : ∀ r h', R r h' → P (pc + 3) L (pu r s) h') : P pc L (v2 :: v1 :: s) h := by
  refine hP _ _ _ _ ?_
  unfold exq
  rw [hl]
  refine ⟨by simp only [List.length_cons]; omega, hs, ?_⟩
  exact aAt_mono _ _ _ _ _ _ _ _ k hc
theorem call_s2n {sa : aS} {d N S : Nat} {rt : Option FieldType} {cd : List (Nat × aI)} {P : aK} {Q : aQ} {pc : Nat} {L : aL} {h : aH} {i len x y z w : Nat} {s : List Value} {v1 v2 : Value} (hP : aClo sa (aAt d) N S rt cd P Q) (hl : lkp cd pc = some (.invokestatic i, len, 11, y, 2, w)) (hs : s.length ≤ 4) {R : aQ} (hc : aAt d h.1 h.2.1 y [v1, v2] h R) (k : ∀ r h', R r h' → P (pc + 3) L (pu r s) h') : P pc L (v2 :: v1 :: s) h := by
  refine hP _ _ _ _ ?_
  unfold exq
  rw [hl]
  refine ⟨by simp only [List.length_cons]; omega, hs, ?_⟩
  exact aAt_mono _ _ _ _ _ _ _ _ k hc
theorem call_s3 {sa : aS} {d N S : Nat} {rt : Option FieldType} {cd : List (Nat × aI)} {P : aK} {Q : aQ} {pc : Nat} {L : aL} {h : aH} {i len x y z w : Nat} {s : List Value} {v1 v2 v3 : Value} (hP : aClo sa (aAt d) N S rt cd P Q) (hl : lkp cd pc = some (.invokestatic i, len, 1, y, 3, w)) (hs : s.length ≤ 4) {R : aQ} (hc : aAt d h.1 h.2.1 y [v1, v2, v3] h R) (k : ∀ r h', R r h' → P (pc + 3) L (pu r s) h') : P pc L (v3 :: v2 :: v1 :: s) h := by
  refine hP _ _ _ _ ?_
  unfold exq
  rw [hl]
  refine ⟨by simp only [List.length_cons]; omega, hs, ?_⟩
  exact aAt_mono _ _ _ _ _ _ _ _ k hc
theorem call_s3n {sa : aS} {d N S : Nat} {rt : Option FieldType} {cd : List (Nat × aI)} {P : aK} {Q : aQ} {pc : Nat} {L : aL} {h : aH} {i len x y z w : Nat} {s : List Value} {v1 v2 v3 : Value} (hP : aClo sa (aAt d) N S rt cd P Q) (hl : lkp cd pc = some (.invokestatic i, len, 11, y, 3, w)) (hs : s.length ≤ 4) {R : aQ} (hc : aAt d h.1 h.2.1 y [v1, v2, v3] h R) (k : ∀ r h', R r h' → P (pc + 3) L (pu r s) h') : P pc L (v3 :: v2 :: v1 :: s) h := by
  refine hP _ _ _ _ ?_
  unfold exq
  rw [hl]
  refine ⟨by simp only [List.length_cons]; omega, hs, ?_⟩
  exact aAt_mono _ _ _ _ _ _ _ _ k hc
theorem call_s4 {sa : aS} {d N S : Nat} {rt : Option FieldType} {cd : List (Nat × aI)} {P : aK} {Q : aQ} {pc : Nat} {L : aL} {h : aH} {i len x y z w : Nat} {s : List Value} {v1 v2 v3 v4 : Value} (hP : aClo sa (aAt d) N S rt cd P Q) (hl : lkp cd pc = some (.invokestatic i, len, 1, y, 4, w)) (hs : s.length ≤ 4) {R : aQ} (hc : aAt d h.1 h.2.1 y [v1, v2, v3, v4] h R) (k : ∀ r h', R r h' → P (pc + 3) L (pu r s) h') : P pc L (v4 :: v3 :: v2 :: v1 :: s) h := by
  refine hP _ _ _ _ ?_
  unfold exq
  rw [hl]
  refine ⟨by simp only [List.length_cons]; omega, hs, ?_⟩
  exact aAt_mono _ _ _ _ _ _ _ _ k hc
theorem call_s4n {sa : aS} {d N S : Nat} {rt : Option FieldType} {cd : List (Nat × aI)} {P : aK} {Q : aQ} {pc : Nat} {L : aL} {h : aH} {i len x y z w : Nat} {s : List Value} {v1 v2 v3 v4 : Value} (hP : aClo sa (aAt d) N S rt cd P Q) (hl : lkp cd pc = some (.invokestatic i, len, 11, y, 4, w)) (hs : s.length ≤ 4) {R : aQ} (hc : aAt d h.1 h.2.1 y [v1, v2, v3, v4] h R) (k : ∀ r h', R r h' → P (pc + 3) L (pu r s) h') : P pc L (v4 :: v3 :: v2 :: v1 :: s) h := by
  refine hP _ _ _ _ ?_
  unfold exq
  rw [hl]
  refine ⟨by simp only [List.length_cons]; omega, hs, ?_⟩
  exact aAt_mono _ _ _ _ _ _ _ _ k hc
theorem call_s5 {sa : aS} {d N S : Nat} {rt : Option FieldType} {cd : List (Nat × aI)} {P : aK} {Q : aQ} {pc : Nat} {L : aL} {h : aH} {i len x y z w : Nat} {s : List Value} {v1 v2 v3 v4 v5 : Value} (hP : aClo sa (aAt d) N S rt cd P Q) (hl : lkp cd pc = some (.invokestatic i, len, 1, y, 5, w)) (hs : s.length ≤ 4) {R : aQ} (hc : aAt d h.1 h.2.1 y [v1, v2, v3, v4, v5] h R) (k : ∀ r h', R r h' → P (pc + 3) L (pu r s) h') : P pc L (v5 :: v4 :: v3 :: v2 :: v1 :: s) h := by
  refine hP _ _ _ _ ?_
  unfold exq
  rw [hl]
  refine ⟨by simp only [List.length_cons]; omega, hs, ?_⟩
  exact aAt_mono _ _ _ _ _ _ _ _ k hc
theorem call_s5n {sa : aS} {d N S : Nat} {rt : Option FieldType} {cd : List (Nat × aI)} {P : aK} {Q : aQ} {pc : Nat} {L : aL} {h : aH} {i len x y z w : Nat} {s : List Value} {v1 v2 v3 v4 v5 : Value} (hP : aClo sa (aAt d) N S rt cd P Q) (hl : lkp cd pc = some (.invokestatic i, len, 11, y, 5, w)) (hs : s.length ≤ 4) {R : aQ} (hc : aAt d h.1 h.2.1 y [v1, v2, v3, v4, v5] h R) (k : ∀ r h', R r h' → P (pc + 3) L (pu r s) h') : P pc L (v5 :: v4 :: v3 :: v2 :: v1 :: s) h := by
  refine hP _ _ _ _ ?_
  unfold exq
  rw [hl]
  refine ⟨by simp only [List.length_cons]; omega, hs, ?_⟩
  exact aAt_mono _ _ _ _ _ _ _ _ k hc
def ald (sa : aS) (st : List Value) (h : aH) (f : Int32 → List Value → Prop) : Prop := tI st fun i s => (match s with
  | .ref a :: s => opt (hI h a) fun q => ix i q.1 fun k => f (q.2 k) s
  | .float j :: s => opt (sa j.toNat) fun q => ix i q.1 fun k => f (q.2 k) s
  | _ => False)
theorem ald_r {sa : aS} {i : Int32} {a : Nat} {s : List Value} {h : aH} {f : Int32 → List Value → Prop} : ald sa (.int i :: .ref a :: s) h f = opt (hI h a) fun q => ix i q.1 fun k => f (q.2 k) s := rfl
theorem ald_f {sa : aS} {i : Int32} {j : UInt32} {s : List Value} {h : aH} {f : Int32 → List Value → Prop} : ald sa (.int i :: .float j :: s) h f = opt (sa j.toNat) fun q => ix i q.1 fun k => f (q.2 k) s := rfl
def du1 (st : List Value) (f : Value → List Value → Prop) : Prop := match st with
  | v :: s => v.category = 1 ∧ f v s
  | _ => False
theorem du1_i {x : Int32} {s : List Value} {f : Value → List Value → Prop} : du1 (.int x :: s) f = f (.int x) s := by simp [du1, Value.category]
theorem du1_r {x : Nat} {s : List Value} {f : Value → List Value → Prop} : du1 (.ref x :: s) f = f (.ref x) s := by simp [du1, Value.category]
def du2 (st : List Value) (f : Value → Value → List Value → Prop) : Prop := match st with
  | v :: v2 :: s => v.category = 1 ∧ v2.category = 1 ∧ f v v2 s
  | _ => False
theorem du2_ir {x : Int32} {a : Nat} {s : List Value} {f : Value → Value → List Value → Prop} : du2 (.int x :: .ref a :: s) f = f (.int x) (.ref a) s := by simp [du2, Value.category]
def pfd (st : List Value) (h : aH) (x y z : Nat) (f : List Value → aH → Prop) : Prop := match st with
  | v :: s => tR s fun a s => opt (hO h a x) fun fs => y < fs.length ∧ pvOk z v ∧ f s (hS h a (.inr (x, fs.set y v)))
  | _ => False
theorem pfd_c {v : Value} {a : Nat} {s : List Value} {h : aH} {x y z : Nat} {f : List Value → aH → Prop} : pfd (v :: .ref a :: s) h x y z f = opt (hO h a x) fun fs => y < fs.length ∧ pvOk z v ∧ f s (hS h a (.inr (x, fs.set y v))) := rfl
def ivS (F : aF) (y z : Nat) (st : List Value) (h : aH) (f : Option Value → List Value → aH → Prop) : Prop := z ≤ st.length ∧ (st.drop z).length ≤ 4 ∧ F h.1 h.2.1 y (st.take z).reverse h fun r h' => f r (st.drop z) h'
def ivV (F : aF) (y z w : Nat) (st : List Value) (h : aH) (f : Option Value → List Value → aH → Prop) : Prop := z ≤ st.length ∧ (st.drop z).length ≤ 4 ∧ (match (st.take z).reverse with
    | .ref a :: as => opt (hO h a w) fun _ => F h.1 h.2.1 y (.ref a :: as) h fun r h' => f r (st.drop z) h'
    | _ => False)
def Fk (cf : Nat → List Value → aH → Option (Option Value × aH)) : aF := fun _ _ k as h Q => opt (cf k as h) fun p => Q p.1 p.2
theorem Fk_mono (cf : Nat → List Value → aH → Option (Option Value × aH)) : ∀ (N S k : Nat) (as : List Value) (h : aH) (Q Q' : aQ), (∀ r h, Q r h → Q' r h) → Fk cf N S k as h Q → Fk cf N S k as h Q' := fun _ _ _ _ _ _ _ hQ q => opt_m (fun p => hQ p.1 p.2) q
theorem ex1_F {sa : aS} {F F' : aF} {N S : Nat} {rt : Option FieldType} {P : aK} {Q : aQ} (hF : ∀ (N S k : Nat) (as : List Value) (h : aH) (Q : aQ), F N S k as h Q → F' N S k as h Q)
    {pc : Nat} {L : aL} {st : List Value} {h : aH} {ins : Instr} {x y z w : Nat} (k : ex1 sa F N S rt P Q pc L st h ins x y z w) : ex1 sa F' N S rt P Q pc L st h ins x y z w := by
  cases ins with
  | invokevirtual i =>
    refine ⟨k.1, k.2.1, ?_⟩
    have k3 := k.2.2
    revert k3
    split
    · intro k3
      exact opt_m (fun _ k => hF _ _ _ _ _ _ k) k3
    · exact fun k3 => k3
  | invokestatic i =>
    unfold ex1 at k ⊢
    dsimp only at k ⊢
    split at k
    · exact k
    · exact k
    · exact k
    · exact k
    · exact ⟨k.1, k.2.1, hF _ _ _ _ _ _ k.2.2⟩
  | invokespecial i =>
    unfold ex1 at k ⊢
    dsimp only at k ⊢
    by_cases hx : x = 3
    · rw [if_pos hx] at k ⊢
      exact k
    · rw [if_neg hx] at k ⊢
      refine ⟨k.1, k.2.1, ?_⟩
      have k3 := k.2.2
      revert k3
      split
      · rintro ⟨mc, ms, g1, g2, k4⟩
        exact ⟨mc, ms, g1, g2, hF _ _ _ _ _ _ k4⟩
      · exact fun k3 => k3
  | _ => exact k
/-- calls that a table of answers takes over -/
theorem exF_P {sa : aS} {d N S : Nat} {rt : Option FieldType} {cd : List (Nat × aI)} {P : aK} {Q : aQ} {cf : Nat → List Value → aH → Option (Option Value × aH)} (hcf : ∀ (N S k : Nat) (as : List Value) (h : aH) (p : Option Value × aH), cf k as h = some p → aAt d N S k as h (fun r h' => r = p.1 ∧ h' = p.2)) (hP : aClo sa (aAt d) N S rt cd P Q) (stops : List Nat) : ∀ (n pc : Nat) (L : aL) (st : List Value) (h : aH), exT sa (Fk cf) N S rt cd P Q stops n pc L st h → P pc L st h
  | 0, _, _, _, _, q => q
  | n + 1, pc, L, st, h, q => by
    have hF : ∀ (N S k : Nat) (as : List Value) (h : aH) (Q : aQ), Fk cf N S k as h Q → aAt d N S k as h Q := fun N S k as h Q q => by
      obtain ⟨p, hp, q⟩ := opt_e q
      exact aAt_mono _ _ _ _ _ _ _ _ (fun r h' e => by rw [e.1, e.2]; exact q) (hcf N S k as h p hp)
    have key : ∀ r : List Nat, sel r pc (P pc L st h) (exq sa (Fk cf) N S rt cd (exT sa (Fk cf) N S rt cd P Q stops n) Q pc L st h) → P pc L st h := by
      intro r
      induction r with
      | nil => exact fun q => hP _ _ _ _ (opt_m (fun _ k => ex1_F hF (ex1_mono (exF_P hcf hP stops n) (fun _ _ q => q) (Fk_mono cf) k)) q)
      | cons k r ih =>
        intro q
        unfold sel at q
        split at q
        · exact q
        · exact ih q
    exact key stops q
theorem runF {sa : aS} {d N S : Nat} {rt : Option FieldType} {cd : List (Nat × aI)} {P : aK} {Q : aQ} {cf : Nat → List Value → aH → Option (Option Value × aH)} (hcf : ∀ (N S k : Nat) (as : List Value) (h : aH) (p : Option Value × aH), cf k as h = some p → aAt d N S k as h (fun r h' => r = p.1 ∧ h' = p.2)) (hP : aClo sa (aAt d) N S rt cd P Q) (stops : List Nat) (n : Nat) {pc : Nat} {L : aL} {st : List Value} {h : aH} (k : exq sa (Fk cf) N S rt cd (exT sa (Fk cf) N S rt cd P Q stops n) Q pc L st h) : P pc L st h :=
  exF_P hcf hP [] 1 pc L st h (opt_m (fun _ k => ex1_mono (exF_P hcf hP stops n) (fun _ _ q => q) (Fk_mono cf) k) k)
theorem ivS0 {cf : Nat → List Value → aH → Option (Option Value × aH)} {y : Nat} {s : List Value} {h : aH} {f : Option Value → List Value → aH → Prop} : ivS (Fk cf) y 0 (s) h f = (s.length ≤ 4 ∧ opt (cf y [] h) fun p => f p.1 s p.2) := by
  simp [ivS, Fk]
theorem ivV0 {cf : Nat → List Value → aH → Option (Option Value × aH)} {y w a : Nat} {s : List Value} {h : aH} {f : Option Value → List Value → aH → Prop} : ivV (Fk cf) y 1 w (.ref a :: s) h f = (s.length ≤ 4 ∧ opt (hO h a w) fun _ => opt (cf y [.ref a] h) fun p => f p.1 s p.2) := by
  simp [ivV, Fk]
theorem ivS1 {cf : Nat → List Value → aH → Option (Option Value × aH)} {y : Nat} {v1 : Value} {s : List Value} {h : aH} {f : Option Value → List Value → aH → Prop} : ivS (Fk cf) y 1 (v1 :: s) h f = (s.length ≤ 4 ∧ opt (cf y [v1] h) fun p => f p.1 s p.2) := by
  simp [ivS, Fk]
theorem ivV1 {cf : Nat → List Value → aH → Option (Option Value × aH)} {y w a : Nat} {v1 : Value} {s : List Value} {h : aH} {f : Option Value → List Value → aH → Prop} : ivV (Fk cf) y 2 w (v1 :: .ref a :: s) h f = (s.length ≤ 4 ∧ opt (hO h a w) fun _ => opt (cf y [.ref a, v1] h) fun p => f p.1 s p.2) := by
  simp [ivV, Fk]
theorem ivS2 {cf : Nat → List Value → aH → Option (Option Value × aH)} {y : Nat} {v1 v2 : Value} {s : List Value} {h : aH} {f : Option Value → List Value → aH → Prop} : ivS (Fk cf) y 2 (v2 :: v1 :: s) h f = (s.length ≤ 4 ∧ opt (cf y [v1, v2] h) fun p => f p.1 s p.2) := by
  simp [ivS, Fk]
theorem ivV2 {cf : Nat → List Value → aH → Option (Option Value × aH)} {y w a : Nat} {v1 v2 : Value} {s : List Value} {h : aH} {f : Option Value → List Value → aH → Prop} : ivV (Fk cf) y 3 w (v2 :: v1 :: .ref a :: s) h f = (s.length ≤ 4 ∧ opt (hO h a w) fun _ => opt (cf y [.ref a, v1, v2] h) fun p => f p.1 s p.2) := by
  simp [ivV, Fk]
theorem ivS3 {cf : Nat → List Value → aH → Option (Option Value × aH)} {y : Nat} {v1 v2 v3 : Value} {s : List Value} {h : aH} {f : Option Value → List Value → aH → Prop} : ivS (Fk cf) y 3 (v3 :: v2 :: v1 :: s) h f = (s.length ≤ 4 ∧ opt (cf y [v1, v2, v3] h) fun p => f p.1 s p.2) := by
  simp [ivS, Fk]
theorem ivV3 {cf : Nat → List Value → aH → Option (Option Value × aH)} {y w a : Nat} {v1 v2 v3 : Value} {s : List Value} {h : aH} {f : Option Value → List Value → aH → Prop} : ivV (Fk cf) y 4 w (v3 :: v2 :: v1 :: .ref a :: s) h f = (s.length ≤ 4 ∧ opt (hO h a w) fun _ => opt (cf y [.ref a, v1, v2, v3] h) fun p => f p.1 s p.2) := by
  simp [ivV, Fk]
theorem ivS4 {cf : Nat → List Value → aH → Option (Option Value × aH)} {y : Nat} {v1 v2 v3 v4 : Value} {s : List Value} {h : aH} {f : Option Value → List Value → aH → Prop} : ivS (Fk cf) y 4 (v4 :: v3 :: v2 :: v1 :: s) h f = (s.length ≤ 4 ∧ opt (cf y [v1, v2, v3, v4] h) fun p => f p.1 s p.2) := by
  simp [ivS, Fk]
theorem ivV4 {cf : Nat → List Value → aH → Option (Option Value × aH)} {y w a : Nat} {v1 v2 v3 v4 : Value} {s : List Value} {h : aH} {f : Option Value → List Value → aH → Prop} : ivV (Fk cf) y 5 w (v4 :: v3 :: v2 :: v1 :: .ref a :: s) h f = (s.length ≤ 4 ∧ opt (hO h a w) fun _ => opt (cf y [.ref a, v1, v2, v3, v4] h) fun p => f p.1 s p.2) := by
  simp [ivV, Fk]
theorem ivS5 {cf : Nat → List Value → aH → Option (Option Value × aH)} {y : Nat} {v1 v2 v3 v4 v5 : Value} {s : List Value} {h : aH} {f : Option Value → List Value → aH → Prop} : ivS (Fk cf) y 5 (v5 :: v4 :: v3 :: v2 :: v1 :: s) h f = (s.length ≤ 4 ∧ opt (cf y [v1, v2, v3, v4, v5] h) fun p => f p.1 s p.2) := by
  simp [ivS, Fk]
theorem ivV5 {cf : Nat → List Value → aH → Option (Option Value × aH)} {y w a : Nat} {v1 v2 v3 v4 v5 : Value} {s : List Value} {h : aH} {f : Option Value → List Value → aH → Prop} : ivV (Fk cf) y 6 w (v5 :: v4 :: v3 :: v2 :: v1 :: .ref a :: s) h f = (s.length ≤ 4 ∧ opt (hO h a w) fun _ => opt (cf y [.ref a, v1, v2, v3, v4, v5] h) fun p => f p.1 s p.2) := by
  simp [ivV, Fk]
theorem ivS6 {cf : Nat → List Value → aH → Option (Option Value × aH)} {y : Nat} {v1 v2 v3 v4 v5 v6 : Value} {s : List Value} {h : aH} {f : Option Value → List Value → aH → Prop} : ivS (Fk cf) y 6 (v6 :: v5 :: v4 :: v3 :: v2 :: v1 :: s) h f = (s.length ≤ 4 ∧ opt (cf y [v1, v2, v3, v4, v5, v6] h) fun p => f p.1 s p.2) := by
  simp [ivS, Fk]
theorem ivV6 {cf : Nat → List Value → aH → Option (Option Value × aH)} {y w a : Nat} {v1 v2 v3 v4 v5 v6 : Value} {s : List Value} {h : aH} {f : Option Value → List Value → aH → Prop} : ivV (Fk cf) y 7 w (v6 :: v5 :: v4 :: v3 :: v2 :: v1 :: .ref a :: s) h f = (s.length ≤ 4 ∧ opt (hO h a w) fun _ => opt (cf y [.ref a, v1, v2, v3, v4, v5, v6] h) fun p => f p.1 s p.2) := by
  simp [ivV, Fk]

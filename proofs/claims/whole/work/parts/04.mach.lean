/-! a small machine over cells numbered from 0: what a method does, as the least predicate closed under its instructions -/
abbrev aC : Type := (Nat × vp_A) ⊕ (Nat × List Value)
abbrev aH : Type := Nat × Nat × (Nat → aC)
abbrev aL : Type := List (Option Value)
abbrev aI : Type := Instr × Nat × Nat × Nat × Nat × Nat
abbrev aK : Type := Nat → aL → List Value → aH → Prop
abbrev aQ : Type := Option Value → aH → Prop
abbrev aF : Type := Nat → Nat → Nat → List Value → aH → aQ → Prop
abbrev aS : Type := Nat → Option (Nat × (Nat → Int32))
def opt {α : Type} (x : Option α) (f : α → Prop) : Prop := match x with
  | some v => f v
  | none => False
def lkp {α : Type} : List (Nat × α) → Nat → Option α
  | [], _ => none
  | (k, v) :: r, q => if q = k then some v else lkp r q
def tI (st : List Value) (f : Int32 → List Value → Prop) : Prop := match st with
  | .int x :: s => f x s
  | _ => False
def tJ (st : List Value) (f : Int64 → List Value → Prop) : Prop := match st with
  | .long x :: s => f x s
  | _ => False
def tR (st : List Value) (f : Nat → List Value → Prop) : Prop := match st with
  | .ref x :: s => f x s
  | _ => False
def lvG (L : aL) (i : Nat) : Option Value := match L[i]? with
  | some (some v) => some v
  | _ => none
def lvB (L : aL) (i : Nat) : Bool := match i with
  | 0 => true
  | j + 1 => match L[j]? with
    | some (some v) => v.category == 1
    | _ => true
def lvS (L : aL) (i : Nat) (v : Value) (f : aL → Prop) : Prop := i < L.length ∧ lvB L i = true ∧ f (L.set i (some v))
def lvS2 (L : aL) (i : Nat) (v : Value) (f : aL → Prop) : Prop := i + 1 < L.length ∧ lvB L i = true ∧ f ((L.set i (some v)).set (i + 1) none)
def ldI (L : aL) (i : Nat) (f : Int32 → Prop) : Prop := match lvG L i with
  | some (.int x) => f x
  | _ => False
def ldJ (L : aL) (i : Nat) (f : Int64 → Prop) : Prop := match lvG L i with
  | some (.long x) => f x
  | _ => False
def ldR (L : aL) (i : Nat) (f : Value → Prop) : Prop := match lvG L i with
  | some (.ref x) => f (.ref x)
  | some (.float x) => f (.float x)
  | _ => False
def hO (h : aH) (a ci : Nat) : Option (List Value) := if a < h.1 then (match h.2.2 a with
  | .inr (c, fs) => if c = ci then some fs else none
  | .inl _ => none) else none
def hI (h : aH) (a : Nat) : Option (Nat × (Nat → Int32)) := if a < h.1 then (match h.2.2 a with
  | .inl (0, n, .inl f) => some (n, f)
  | _ => none) else none
def hB (h : aH) (a : Nat) : Option (Nat × (Nat → Int32)) := if a < h.1 then (match h.2.2 a with
  | .inl (1, n, .inl f) => some (n, f)
  | _ => none) else none
def hR (h : aH) (a : Nat) : Option (Nat × Nat × (Nat → Option Nat)) := if a < h.1 then (match h.2.2 a with
  | .inl (2, n, .inr (.inr (.inr (.inr f)))) => some (2, n, f)
  | .inl (3, n, .inr (.inr (.inr (.inr f)))) => some (3, n, f)
  | _ => none) else none
def hS (h : aH) (a : Nat) (c : aC) : aH := (h.1, h.2.1, fun q => if q = a then c else h.2.2 q)
def hN (h : aH) (k : Nat) (c : aC) : aH := (h.1 + 1, h.2.1 + k, fun q => if q = h.1 then c else h.2.2 q)
def hM (h : aH) (n k : Nat) : aH := (h.1 + 1 + n, h.2.1 + n + n * k, fun q => if q = h.1 then .inl (3, n, .inr (.inr (.inr (.inr (fun i => if i < n then some (h.1 + 1 + i) else none))))) else if h.1 < q then .inl (0, k, .inl (fun _ => 0)) else h.2.2 q)
def ix (i : Int32) (n : Nat) (f : Nat → Prop) : Prop := vp_in i n ∧ f i.toNatClampNeg
def br (c a b : Prop) : Prop := (c → a) ∧ (¬ c → b)
def pvOk (z : Nat) (v : Value) : Prop := match v with
  | .int n => z = 0 ∨ (z = 1 ∧ (n = 0 ∨ n = 1))
  | .ref _ => z = 2
  | _ => False
def pu (r : Option Value) (s : List Value) : List Value := match r with
  | some v => v :: s
  | none => s
def dfT (c : Nat) : List Value := match c with
  | 0 => [.null, .int 0, .int 0]
  | 1 => [.null, .int 0, .int 0, .int 0, .int 0, .int 0]
  | 2 => [.int 0, .int 0, .int 0, .int 0, .null, .null, .null, .null, .null, .int 0, .null, .null, .null, .int 0, .int 0]
  | 3 => [.null, .null, .null, .null, .int 0, .int 0]
  | 4 => [.null, .null, .int 0, .int 0, .int 0, .int 0]
  | 5 => [.null, .null, .null]
  | 6 => [.null, .null, .null, .null, .null, .null, .null, .int 0, .int 0]
  | 7 => [.null, .null, .null, .int 0, .int 0, .null, .int 0, .int 0, .int 0, .int 0, .int 0, .int 0, .null, .null, .null, .int 0, .null, .null, .null, .int 0, .int 0, .int 0, .null, .null, .null, .null, .null, .int 0, .null]
  | _ => []
def jmp (P : aK) (pc : Nat) (off : Int) (L : aL) (s : List Value) (h : aH) : Prop := 0 ≤ (pc : Int) + off ∧ P ((pc : Int) + off).toNat L s h
def ex1 (sa : aS) (F : aF) (N S : Nat) (rt : Option FieldType) (P : aK) (Q : aQ) (pc : Nat) (L : aL) (st : List Value) (h : aH) (ins : Instr) (x y z w : Nat) : Prop :=
  match ins with
  | .iconst n => P (pc + 1) L (.int (Int32.ofInt n) :: st) h
  | .bipush n => P (pc + 2) L (.int (Int32.ofInt n) :: st) h
  | .sipush n => P (pc + 3) L (.int (Int32.ofInt n) :: st) h
  | .lconst n => P (pc + 1) L (.long (Int64.ofInt ((n : Nat) : Int)) :: st) h
  | .ldc _ => P (pc + 2) L (.int (Int32.ofInt (if y = 0 then (x : Int) else -(x : Int))) :: st) h
  | .ldc_w _ => P (pc + 3) L (.int (Int32.ofInt (if y = 0 then (x : Int) else -(x : Int))) :: st) h
  | .ldc2_w _ => P (pc + 3) L (.long (Int64.ofInt (if y = 0 then (x : Int) else -(x : Int))) :: st) h
  | .iload i => ldI L i fun v => P (pc + 2) L (.int v :: st) h
  | .iload_n i => ldI L i fun v => P (pc + 1) L (.int v :: st) h
  | .lload i => ldJ L i fun v => P (pc + 2) L (.long v :: st) h
  | .lload_n i => ldJ L i fun v => P (pc + 1) L (.long v :: st) h
  | .aload i => ldR L i fun v => P (pc + 2) L (v :: st) h
  | .aload_n i => ldR L i fun v => P (pc + 1) L (v :: st) h
  | .istore i => tI st fun v s => lvS L i (.int v) fun L' => P (pc + 2) L' s h
  | .istore_n i => tI st fun v s => lvS L i (.int v) fun L' => P (pc + 1) L' s h
  | .lstore i => tJ st fun v s => lvS2 L i (.long v) fun L' => P (pc + 2) L' s h
  | .lstore_n i => tJ st fun v s => lvS2 L i (.long v) fun L' => P (pc + 1) L' s h
  | .astore i => tR st fun v s => lvS L i (.ref v) fun L' => P (pc + 2) L' s h
  | .astore_n i => tR st fun v s => lvS L i (.ref v) fun L' => P (pc + 1) L' s h
  | .iinc i n => ldI L i fun v => lvS L i (.int (v + Int32.ofInt n)) fun L' => P (pc + 3) L' st h
  | .iadd => tI st fun b s => tI s fun a s => P (pc + 1) L (.int (a + b) :: s) h
  | .isub => tI st fun b s => tI s fun a s => P (pc + 1) L (.int (a - b) :: s) h
  | .imul => tI st fun b s => tI s fun a s => P (pc + 1) L (.int (a * b) :: s) h
  | .iand => tI st fun b s => tI s fun a s => P (pc + 1) L (.int (a &&& b) :: s) h
  | .ior => tI st fun b s => tI s fun a s => P (pc + 1) L (.int (a ||| b) :: s) h
  | .ixor => tI st fun b s => tI s fun a s => P (pc + 1) L (.int (a ^^^ b) :: s) h
  | .irem => tI st fun b s => tI s fun a s => ¬ b = 0 ∧ P (pc + 1) L (.int (a - a / b * b) :: s) h
  | .ineg => tI st fun a s => P (pc + 1) L (.int (-a) :: s) h
  | .ishl => tI st fun b s => tI s fun a s => P (pc + 1) L (.int (a <<< (b &&& 31)) :: s) h
  | .ishr => tI st fun b s => tI s fun a s => P (pc + 1) L (.int (a >>> (b &&& 31)) :: s) h
  | .iushr => tI st fun b s => tI s fun a s => P (pc + 1) L (.int (a.toUInt32 >>> (b.toUInt32 &&& Int32.toUInt32 31)).toInt32 :: s) h
  | .ladd => tJ st fun b s => tJ s fun a s => P (pc + 1) L (.long (a + b) :: s) h
  | .lmul => tJ st fun b s => tJ s fun a s => P (pc + 1) L (.long (a * b) :: s) h
  | .ldiv => tJ st fun b s => tJ s fun a s => ¬ b = 0 ∧ P (pc + 1) L (.long (a / b) :: s) h
  | .lrem => tJ st fun b s => tJ s fun a s => ¬ b = 0 ∧ P (pc + 1) L (.long (a - a / b * b) :: s) h
  | .lcmp => tJ st fun b s => tJ s fun a s => P (pc + 1) L (.int (lg_cmp a b) :: s) h
  | .i2l => tI st fun a s => P (pc + 1) L (.long a.toInt64 :: s) h
  | .l2i => tJ st fun a s => P (pc + 1) L (.int a.toInt32 :: s) h
  | .i2b => tI st fun a s => P (pc + 1) L (.int a.toInt8.toInt32 :: s) h
  | .i2s => tI st fun a s => P (pc + 1) L (.int a.toInt16.toInt32 :: s) h
  | .dup => (match st with
    | v :: s => v.category = 1 ∧ P (pc + 1) L (v :: v :: s) h
    | _ => False)
  | .dup2 => (match st with
    | v :: v2 :: s => v.category = 1 ∧ v2.category = 1 ∧ P (pc + 1) L (v :: v2 :: v :: v2 :: s) h
    | _ => False)
  | .goto _ => P x L st h
  | .ifCond c _ => tI st fun a s => (match c with
    | .eq => br (a = 0) (P x L s h) (P (pc + 3) L s h)
    | .ne => br (a = 0) (P (pc + 3) L s h) (P x L s h)
    | .lt => br (a < 0) (P x L s h) (P (pc + 3) L s h)
    | .ge => br (0 ≤ a) (P x L s h) (P (pc + 3) L s h)
    | .gt => br (0 < a) (P x L s h) (P (pc + 3) L s h)
    | .le => br (a ≤ 0) (P x L s h) (P (pc + 3) L s h))
  | .if_icmp c _ => tI st fun b s => tI s fun a s => (match c with
    | .eq => br (a = b) (P x L s h) (P (pc + 3) L s h)
    | .ne => br (a = b) (P (pc + 3) L s h) (P x L s h)
    | .lt => br (a < b) (P x L s h) (P (pc + 3) L s h)
    | .ge => br (b ≤ a) (P x L s h) (P (pc + 3) L s h)
    | .gt => br (b < a) (P x L s h) (P (pc + 3) L s h)
    | .le => br (a ≤ b) (P x L s h) (P (pc + 3) L s h))
  | .tableswitch df lo hi offs => tI st fun a s => br (a.toInt < lo ∨ hi < a.toInt) (jmp P pc df L s h) (opt (offs[(a.toInt - lo).toNat]?) fun off => jmp P pc off L s h)
  | .lookupswitch df ps => tI st fun a s => jmp P pc (Op.lookupswitch.offset ps.toList df a.toInt) L s h
  | .getfield _ => tR st fun a s => opt (hO h a x) fun fs => opt (fs[y]?) fun v => P (pc + 3) L (v :: s) h
  | .putfield _ => (match st with
    | v :: s => tR s fun a s => opt (hO h a x) fun fs => y < fs.length ∧ pvOk z v ∧ P (pc + 3) L s (hS h a (.inr (x, fs.set y v)))
    | _ => False)
  | .getstatic _ => P (pc + 3) L (.float (UInt32.ofNat x) :: st) h
  | .iaload => tI st fun i s => (match s with
    | .ref a :: s => opt (hI h a) fun q => ix i q.1 fun k => P (pc + 1) L (.int (q.2 k) :: s) h
    | .float j :: s => opt (sa j.toNat) fun q => ix i q.1 fun k => P (pc + 1) L (.int (q.2 k) :: s) h
    | _ => False)
  | .iastore => tI st fun v s => tI s fun i s => tR s fun a s => opt (hI h a) fun q => ix i q.1 fun k => P (pc + 1) L s (hS h a (.inl (0, q.1, .inl (upd q.2 k v))))
  | .baload => tI st fun i s => tR s fun a s => opt (hB h a) fun q => ix i q.1 fun k => P (pc + 1) L (.int (q.2 k) :: s) h
  | .bastore => tI st fun v s => tI s fun i s => tR s fun a s => opt (hB h a) fun q => ix i q.1 fun k => P (pc + 1) L s (hS h a (.inl (1, q.1, .inl (upd q.2 k (vp_nar .boolean v)))))
  | .aaload => tI st fun i s => tR s fun a s => opt (hR h a) fun q => ix i q.2.1 fun k => opt (q.2.2 k) fun v => P (pc + 1) L (.ref v :: s) h
  | .aastore => tR st fun v s => tI s fun i s => tR s fun a s => opt (hR h a) fun q => opt (hO h v 2) fun _ => q.1 = 2 ∧ ix i q.2.1 fun k => P (pc + 1) L s (hS h a (.inl (2, q.2.1, .inr (.inr (.inr (.inr (va_up q.2.2 k (some v))))))))
  | .arraylength => (match st with
    | .ref a :: s => opt (hI h a) fun q => P (pc + 1) L (.int (Int32.ofNat q.1) :: s) h
    | .float j :: s => opt (sa j.toNat) fun q => P (pc + 1) L (.int (Int32.ofNat q.1) :: s) h
    | _ => False)
  | .new _ => h.1 + 1 ≤ N ∧ h.2.1 + y ≤ S ∧ P (pc + 3) L (.ref h.1 :: st) (hN h y (.inr (x, dfT x)))
  | .newarray t => tI st fun n s => ¬ n < 0 ∧ n.toNatClampNeg ≤ 1000 ∧ h.1 + 1 ≤ N ∧ h.2.1 + n.toNatClampNeg ≤ S ∧ (match t with
    | .int => P (pc + 2) L (.ref h.1 :: s) (hN h n.toNatClampNeg (.inl (0, n.toNatClampNeg, .inl (fun _ => 0))))
    | .boolean => P (pc + 2) L (.ref h.1 :: s) (hN h n.toNatClampNeg (.inl (1, n.toNatClampNeg, .inl (fun _ => 0))))
    | _ => False)
  | .anewarray _ => tI st fun n s => ¬ n < 0 ∧ n.toNatClampNeg ≤ 1000 ∧ h.1 + 1 ≤ N ∧ h.2.1 + n.toNatClampNeg ≤ S ∧ P (pc + 3) L (.ref h.1 :: s) (hN h n.toNatClampNeg (.inl (2, n.toNatClampNeg, .inr (.inr (.inr (.inr (fun _ => none)))))))
  | .multianewarray _ d => d = 2 ∧ tI st fun k s => tI s fun n s => ¬ n < 0 ∧ ¬ k < 0 ∧ n.toNatClampNeg ≤ 1000 ∧ k.toNatClampNeg ≤ 1000 ∧ h.1 + (1 + n.toNatClampNeg) ≤ N ∧ h.2.1 + (n.toNatClampNeg + n.toNatClampNeg * k.toNatClampNeg) ≤ S ∧ P (pc + 4) L (.ref h.1 :: s) (hM h n.toNatClampNeg k.toNatClampNeg)
  | .invokevirtual _ => z ≤ st.length ∧ (st.drop z).length ≤ 4 ∧ (match (st.take z).reverse with
    | .ref a :: as => opt (hO h a w) fun _ => F h.1 h.2.1 y (.ref a :: as) h fun r h' => P (pc + 3) L (pu r (st.drop z)) h'
    | _ => False)
  | .invokestatic _ => (match x with
    | 4 => (match st with
      | .int n :: .int dp :: .ref b :: .int sp :: .ref a :: s => s.length ≤ 4 ∧ ¬ sp < 0 ∧ ¬ dp < 0 ∧ ¬ n < 0 ∧ opt (hI h a) fun p => opt (hI h b) fun q => sp.toNatClampNeg + n.toNatClampNeg ≤ p.1 ∧ dp.toNatClampNeg + n.toNatClampNeg ≤ q.1 ∧ P (pc + 3) L s (hS h b (.inl (0, q.1, .inl (va_cpy p.2 q.2 sp.toNatClampNeg dp.toNatClampNeg n.toNatClampNeg))))
      | _ => False)
    | 5 => tI st fun b s => tI s fun a s => s.length ≤ 4 ∧ P (pc + 3) L (.int (if a < b then b else a) :: s) h
    | 6 => tI st fun b s => tI s fun a s => s.length ≤ 4 ∧ P (pc + 3) L (.int (if b < a then b else a) :: s) h
    | 7 => tI st fun a s => s.length ≤ 4 ∧ P (pc + 3) L (.int (if 0 ≤ a then a else 0 - a) :: s) h
    | _ => z ≤ st.length ∧ (st.drop z).length ≤ 4 ∧ F h.1 h.2.1 y (st.take z).reverse h fun r h' => P (pc + 3) L (pu r (st.drop z)) h')
  | .invokespecial _ => (if x = 3 then tR st fun _ s => s.length ≤ 4 ∧ P (pc + 3) L s h else z ≤ st.length ∧ ((st.drop z).map fun v => v.category).sum ≤ 8 ∧ (match (st.take z).reverse with
    | .ref a :: as => ∃ mc ms : Nat, h.1 + mc ≤ N ∧ h.2.1 + ms ≤ S ∧ F (h.1 + mc) (h.2.1 + ms) y (.ref a :: as) h fun r h' => h'.1 = h.1 + mc ∧ h'.2.1 = h.2.1 + ms ∧ P (pc + 3) L (pu r (st.drop z)) h'
    | _ => False))
  | .ireturn => tI st fun v s => s = [] ∧ (rt = some .int ∨ (rt = some .boolean ∧ (v = 0 ∨ v = 1))) ∧ Q (some (.int v)) h
  | .lreturn => tJ st fun v s => s = [] ∧ rt = some .long ∧ Q (some (.long v)) h
  | .areturn => tR st fun v s => s = [] ∧ rt = some (.object "HawkAsks$Castle") ∧ Q (some (.ref v)) h
  | .return_ => st = [] ∧ rt = none ∧ Q none h
  | _ => False
def exq (sa : aS) (F : aF) (N S : Nat) (rt : Option FieldType) (cd : List (Nat × aI)) (P : aK) (Q : aQ) (pc : Nat) (L : aL) (st : List Value) (h : aH) : Prop :=
  opt (lkp cd pc) fun r => ex1 sa F N S rt P Q pc L st h r.1 r.2.2.1 r.2.2.2.1 r.2.2.2.2.1 r.2.2.2.2.2
def aClo (sa : aS) (F : aF) (N S : Nat) (rt : Option FieldType) (cd : List (Nat × aI)) (P : aK) (Q : aQ) : Prop :=
  ∀ (pc : Nat) (L : aL) (st : List Value) (h : aH), exq sa F N S rt cd P Q pc L st h → P pc L st h
def entL : List Value → Nat → aL
  | [], n => List.replicate n none
  | v :: vs, n => if v.category = 2 then some v :: none :: entL vs (n - 2) else some v :: entL vs (n - 1)
def sa0 : aS := fun j => match j with
  | 0 => some (6, fun i => Int32.ofInt (([10, 11, 12, 11, 13, 14] : List Int).getD i 0))
  | 1 => some (6, fun i => Int32.ofInt (([20, 21, 24, 22, 23, 23] : List Int).getD i 0))
  | _ => none
def aAt : Nat → aF
  | 0 => fun _ _ _ _ _ _ => False
  | d + 1 => fun N S k as h Q => opt (mtab[k]?) fun r => (lg_sl as).length ≤ r.2.2.1 ∧ ∀ P : aK, aClo sa0 (aAt d) N S r.2.2.2.1 r.2.2.2.2.2 P Q → P 0 (entL as r.2.2.1) [] h

/-! each instruction of the small machine is one of the machine's -/
def gw_tbl : List Cond := lw_tbl.filter goodWord
theorem gw_in {w : Cond} (h : w ∈ lw_tbl) (hg : goodWord w = true) : w ∈ gw_tbl := List.mem_filter.mpr ⟨h, hg⟩
def isN : Cond → Bool
  | .methodLinkNest _ _ _ _ => true
  | _ => false
def ownS (o : Nat) : String := ([RX0, RX1, RX2, RX3, RX4, RX5, RX6, RX7, RJ6, RJ9, RL] : List String).getD o ""
def snm (j : Nat) : String := if j = 0 then "SIZE_BODIES" else "MARK_BODIES"
def tyN (c k : Nat) : FieldType := match c with
  | 0 => tyX0 k
  | 1 => tyX1 k
  | 2 => tyX2 k
  | 3 => tyX3 k
  | 4 => tyX4 k
  | 5 => tyX5 k
  | 6 => tyX6 k
  | _ => tyX7 k
def tagN (t : FieldType) : Nat := match t with
  | .int => 0
  | .boolean => 1
  | .object _ => 2
  | .array _ => 2
  | _ => 9
def tyl (cs : Nat → ClassId) : List (ClassId × FieldType) := [(cs 0, .int), (cs 1, .boolean), (cs 2, .object "HawkAsks$Castle"), (cs 3, .array .int)]
def insLen : Instr → Nat
  | .bipush _ => 2
  | .sipush _ => 3
  | .ldc _ => 2
  | .ldc_w _ => 3
  | .ldc2_w _ => 3
  | .iload _ => 2
  | .lload _ => 2
  | .aload _ => 2
  | .istore _ => 2
  | .lstore _ => 2
  | .astore _ => 2
  | .iinc _ _ => 3
  | .goto _ => 3
  | .ifCond _ _ => 3
  | .if_icmp _ _ => 3
  | .getfield _ => 3
  | .putfield _ => 3
  | .getstatic _ => 3
  | .new _ => 3
  | .newarray _ => 2
  | .anewarray _ => 3
  | .multianewarray _ _ => 4
  | .invokevirtual _ => 3
  | .invokestatic _ => 3
  | .invokespecial _ => 3
  | _ => 1
def finN (c k : Nat) : Bool := match vwCl[c]? with
  | some r => (r.2.1 k).2.2.2
  | none => false
/-- what a row of a method of class o must be, for its instruction -/
def okI (o : Nat) (ini : Bool) (pc : Nat) (ins : Instr) (len x y z w : Nat) : Bool :=
  match ins with
  | .tableswitch _ _ _ _ => true
  | .lookupswitch _ ps => (ps.toList.zip (ps.toList.drop 1)).all (fun (a, next) => a.1 < next.1)
  | .bipush n => len == 2 && (Int8.ofInt n).toInt32 == Int32.ofInt n
  | .sipush n => len == 3 && (Int16.ofInt n).toInt32 == Int32.ofInt n
  | .ldc i => len == 2 && lkp (kiT o) i == some (x, y)
  | .ldc_w i => len == 3 && lkp (kiT o) i == some (x, y)
  | .ldc2_w i => len == 3 && lkp (klT o) i == some (x, y)
  | .goto off => len == 3 && (pc : Int) + off == (x : Int)
  | .ifCond _ off => len == 3 && (pc : Int) + off == (x : Int)
  | .if_icmp _ off => len == 3 && (pc : Int) + off == (x : Int)
  | .getfield i => len == 3 && lkp (flT o) i == some (x, y)
  | .putfield i => len == 3 && lkp (flT o) i == some (x, y) && tagN (tyN x y) == z && finN x y == (w == 1) && (w == 0 || (ini && x == o))
  | .getstatic i => len == 3 && lkp (sfT o) i == some x
  | .invokevirtual i => len == 3 && lkp (mlT o) i == some (x, y, z) && x == 0
  | .invokestatic i => len == 3 && lkp (mlT o) i == some (x, y, z) && (x == 1 || x == 11 || x == 4 || x == 5 || x == 6 || x == 7)
  | .invokespecial i => len == 3 && lkp (mlT o) i == some (x, y, z) && (x == 2 || x == 12 || x == 3)
  | .new i => len == 3 && lkp (clT o) i == some x && (dfT x).length == y
  | .anewarray i => len == 3 && lkp (clT o) i == some 2
  | .multianewarray i _ => len == 4 && o == 5 && i == 11
  | i => len == insLen i
/-- all that holds while a method of class o runs -/
def EV (p : Program) (R : Room) (s : State) (m : MethodId) (args : Array Value) (meth : Method) (c : Code) (D : va_G) (cs : Nat → ClassId) (sz : Nat) (sp : Nat → Nat) (sa : aS) (cc : ByteArray) (nL o d N S n0 s0 : Nat) (ini : Bool) : Prop :=
  p.tables.exec = Jvm.exec ∧ c.code = cc ∧ c.maxLocals = nL ∧ s.vm.findClass (ownS o) = some m.cls ∧ (∀ w ∈ gw_tbl, w.before args s = true) ∧ va_K D vwCl (tyl cs) s ∧
  (∀ j q, sa j = some q → va_T .int (sp j) q.1 (fun i => .int (q.2 i)) (fun q => sz ≤ q) s s.heap) ∧ (∀ j, j < 2 → va_Z RX1 (snm j) "[I" (.ref (sp j)) (fun q => sz ≤ q) s s.heap) ∧
  (d + 1 ≤ R.frames ∧ 64 * (d + 1) ≤ R.locals) ∧ (N ≤ n0 + R.cells ∧ S ≤ s0 + R.slots) ∧ sz ≤ s.heap.size ∧ (ini = true → meth.name = "<init>") ∧
  (∀ w ∈ lw_tbl, isN w = true → va_Nw w s) ∧ va_AO "HawkAsks$Castle" s ∧ va_Nw (.arrayOver (.array .int)) s ∧ (∀ j q, sa0 j = some q → sa j = some q)
def WPd (p : Program) (l : Launch) (e : Env) (R : Room) (s : State) (m : MethodId) (args : Array Value) (below : List Frame) (meth : Method) (c : Code) (Qend : State → Prop) (D : va_G) (cs : Nat → ClassId) (sz : Nat) (sp : Nat → Nat) (nL N S n0 s0 : Nat) : aK := fun pc L st h =>
  n0 ≤ h.1 → h.1 ≤ N → s0 ≤ h.2.1 → h.2.1 ≤ S → ∀ (ls : Array Slot) (H : Heap) (locs : List Loc), LR sz sp ls nL L → H.size = sz + h.1 → va_P D vwCl (wsH sz sp cs h) H → va_S (fun q => sz ≤ q) s.heap H locs →
  W p l e R s m args below meth c H locs (h.1 - n0) (h.2.1 - s0) Qend (F0 m pc ls (st.map (cv sz sp)))
theorem lconst_ok : ∀ n : Fin 2, Int64.ofNat (n : Nat) = Int64.ofInt ((n : Nat) : Int) := by decide +kernel
section ST
variable {p : Program} {l : Launch} {e : Env} {R : Room} {s : State} {m : MethodId} {args : Array Value} {below : List Frame} {meth : Method} {c : Code} {Qend : State → Prop} {D : va_G} {cs : Nat → ClassId} {sz : Nat} {sp : Nat → Nat} {sa : aS} {cc : ByteArray} {nL o d N S n0 s0 : Nat} {ini : Bool}
variable {pc : Nat} {L : aL} {st : List Value} {h : aH}
theorem w_iconst (E : EV p R s m args meth c D cs sz sp sa cc nL o d N S n0 s0 ini) {n : Int} (hd : decode cc pc = .ok (.iconst n, 1)) (k : WPd p l e R s m args below meth c Qend D cs sz sp nL N S n0 s0 (pc + 1) L (.int (Int32.ofInt n) :: st) h) : WPd p l e R s m args below meth c Qend D cs sz sp nL N S n0 s0 pc L st h := by
  obtain ⟨hx, hb, -⟩ := E
  intro b1 b2 b3 b4 ls H locs hl hz hP hS
  exact lv_iconst hx hb hd rfl (k b1 b2 b3 b4 ls H locs hl hz hP hS)
theorem w_bipush (E : EV p R s m args meth c D cs sz sp sa cc nL o d N S n0 s0 ini) {n : Int} (hd : decode cc pc = .ok (.bipush n, 2)) (hn : (Int8.ofInt n).toInt32 = Int32.ofInt n) (k : WPd p l e R s m args below meth c Qend D cs sz sp nL N S n0 s0 (pc + 2) L (.int (Int32.ofInt n) :: st) h) : WPd p l e R s m args below meth c Qend D cs sz sp nL N S n0 s0 pc L st h := by
  obtain ⟨hx, hb, -⟩ := E
  intro b1 b2 b3 b4 ls H locs hl hz hP hS
  exact lv_bipush hx hb hd hn (k b1 b2 b3 b4 ls H locs hl hz hP hS)
theorem w_sipush (E : EV p R s m args meth c D cs sz sp sa cc nL o d N S n0 s0 ini) {n : Int} (hd : decode cc pc = .ok (.sipush n, 3)) (hn : (Int16.ofInt n).toInt32 = Int32.ofInt n) (k : WPd p l e R s m args below meth c Qend D cs sz sp nL N S n0 s0 (pc + 3) L (.int (Int32.ofInt n) :: st) h) : WPd p l e R s m args below meth c Qend D cs sz sp nL N S n0 s0 pc L st h := by
  obtain ⟨hx, hb, -⟩ := E
  intro b1 b2 b3 b4 ls H locs hl hz hP hS
  exact lv_sipush hx hb hd hn (k b1 b2 b3 b4 ls H locs hl hz hP hS)
theorem w_lconst (E : EV p R s m args meth c D cs sz sp sa cc nL o d N S n0 s0 ini) {n : Fin 2} (hd : decode cc pc = .ok (.lconst n, 1)) (k : WPd p l e R s m args below meth c Qend D cs sz sp nL N S n0 s0 (pc + 1) L (.long (Int64.ofInt ((n : Nat) : Int)) :: st) h) : WPd p l e R s m args below meth c Qend D cs sz sp nL N S n0 s0 pc L st h := by
  obtain ⟨hx, hb, -⟩ := E
  intro b1 b2 b3 b4 ls H locs hl hz hP hS
  exact lv_lconst hx hb hd (lconst_ok n) (k b1 b2 b3 b4 ls H locs hl hz hP hS)
theorem w_ldc (E : EV p R s m args meth c D cs sz sp sa cc nL o d N S n0 s0 ini) {i : Nat} {v : Int32} (hd : decode cc pc = .ok (.ldc i, 2)) (hw : Cond.constant (ownS o) i v ∈ gw_tbl) (k : WPd p l e R s m args below meth c Qend D cs sz sp nL N S n0 s0 (pc + 2) L (.int v :: st) h) : WPd p l e R s m args below meth c Qend D cs sz sp nL N S n0 s0 pc L st h := by
  obtain ⟨hx, hb, -, ho, ht, -⟩ := E
  intro b1 b2 b3 b4 ls H locs hl hz hP hS
  exact lv_ldc hx hb ho (ht _ hw) hd (k b1 b2 b3 b4 ls H locs hl hz hP hS)
theorem w_ldcw (E : EV p R s m args meth c D cs sz sp sa cc nL o d N S n0 s0 ini) {i : Nat} {v : Int32} (hd : decode cc pc = .ok (.ldc_w i, 3)) (hw : Cond.constant (ownS o) i v ∈ gw_tbl) (k : WPd p l e R s m args below meth c Qend D cs sz sp nL N S n0 s0 (pc + 3) L (.int v :: st) h) : WPd p l e R s m args below meth c Qend D cs sz sp nL N S n0 s0 pc L st h := by
  obtain ⟨hx, hb, -, ho, ht, -⟩ := E
  intro b1 b2 b3 b4 ls H locs hl hz hP hS
  exact lv_ldcw hx hb ho (ht _ hw) hd (k b1 b2 b3 b4 ls H locs hl hz hP hS)
theorem w_ldc2 (E : EV p R s m args meth c D cs sz sp sa cc nL o d N S n0 s0 ini) {i : Nat} {v : Int64} (hd : decode cc pc = .ok (.ldc2_w i, 3)) (hw : Cond.constantLong (ownS o) i v ∈ gw_tbl) (k : WPd p l e R s m args below meth c Qend D cs sz sp nL N S n0 s0 (pc + 3) L (.long v :: st) h) : WPd p l e R s m args below meth c Qend D cs sz sp nL N S n0 s0 pc L st h := by
  obtain ⟨hx, hb, -, ho, ht, -⟩ := E
  intro b1 b2 b3 b4 ls H locs hl hz hP hS
  exact lv_ldc2 hx hb ho (ht _ hw) hd (k b1 b2 b3 b4 ls H locs hl hz hP hS)
theorem w_iload (E : EV p R s m args meth c D cs sz sp sa cc nL o d N S n0 s0 ini) {i : Nat} (hd : decode cc pc = .ok (.iload i, 2)) (k : ldI L i fun v => WPd p l e R s m args below meth c Qend D cs sz sp nL N S n0 s0 (pc + 2) L (.int v :: st) h) : WPd p l e R s m args below meth c Qend D cs sz sp nL N S n0 s0 pc L st h := by
  obtain ⟨hx, hb, -⟩ := E
  obtain ⟨v, hv, k⟩ := ldI_e k
  intro b1 b2 b3 b4 ls H locs hl hz hP hS
  exact lv_iload hx hb hd (LR_at hl hv) (k b1 b2 b3 b4 ls H locs hl hz hP hS)
theorem w_iload_n (E : EV p R s m args meth c D cs sz sp sa cc nL o d N S n0 s0 ini) {i : Fin 4} (hd : decode cc pc = .ok (.iload_n i, 1)) (k : ldI L i fun v => WPd p l e R s m args below meth c Qend D cs sz sp nL N S n0 s0 (pc + 1) L (.int v :: st) h) : WPd p l e R s m args below meth c Qend D cs sz sp nL N S n0 s0 pc L st h := by
  obtain ⟨hx, hb, -⟩ := E
  obtain ⟨v, hv, k⟩ := ldI_e k
  intro b1 b2 b3 b4 ls H locs hl hz hP hS
  exact lv_iload_n hx hb hd rfl (LR_at hl hv) (k b1 b2 b3 b4 ls H locs hl hz hP hS)
theorem w_lload (E : EV p R s m args meth c D cs sz sp sa cc nL o d N S n0 s0 ini) {i : Nat} (hd : decode cc pc = .ok (.lload i, 2)) (k : ldJ L i fun v => WPd p l e R s m args below meth c Qend D cs sz sp nL N S n0 s0 (pc + 2) L (.long v :: st) h) : WPd p l e R s m args below meth c Qend D cs sz sp nL N S n0 s0 pc L st h := by
  obtain ⟨hx, hb, -⟩ := E
  obtain ⟨v, hv, k⟩ := ldJ_e k
  intro b1 b2 b3 b4 ls H locs hl hz hP hS
  exact lv_lload hx hb hd (LR_at hl hv) (k b1 b2 b3 b4 ls H locs hl hz hP hS)
theorem w_lload_n (E : EV p R s m args meth c D cs sz sp sa cc nL o d N S n0 s0 ini) {i : Fin 4} (hd : decode cc pc = .ok (.lload_n i, 1)) (k : ldJ L i fun v => WPd p l e R s m args below meth c Qend D cs sz sp nL N S n0 s0 (pc + 1) L (.long v :: st) h) : WPd p l e R s m args below meth c Qend D cs sz sp nL N S n0 s0 pc L st h := by
  obtain ⟨hx, hb, -⟩ := E
  obtain ⟨v, hv, k⟩ := ldJ_e k
  intro b1 b2 b3 b4 ls H locs hl hz hP hS
  exact lv_lload_n hx hb hd rfl (LR_at hl hv) (k b1 b2 b3 b4 ls H locs hl hz hP hS)
theorem w_aload (E : EV p R s m args meth c D cs sz sp sa cc nL o d N S n0 s0 ini) {i : Nat} (hd : decode cc pc = .ok (.aload i, 2)) (k : ldR L i fun v => WPd p l e R s m args below meth c Qend D cs sz sp nL N S n0 s0 (pc + 2) L (v :: st) h) : WPd p l e R s m args below meth c Qend D cs sz sp nL N S n0 s0 pc L st h := by
  obtain ⟨hx, hb, -⟩ := E
  intro b1 b2 b3 b4 ls H locs hl hz hP hS
  rcases ldR_e k with ⟨v, hv, k⟩ | ⟨v, hv, k⟩
  · exact lv_aload hx hb hd (LR_at hl hv) (k b1 b2 b3 b4 ls H locs hl hz hP hS)
  · exact lv_aload hx hb hd (LR_at hl hv) (k b1 b2 b3 b4 ls H locs hl hz hP hS)
theorem w_aload_n (E : EV p R s m args meth c D cs sz sp sa cc nL o d N S n0 s0 ini) {i : Fin 4} (hd : decode cc pc = .ok (.aload_n i, 1)) (k : ldR L i fun v => WPd p l e R s m args below meth c Qend D cs sz sp nL N S n0 s0 (pc + 1) L (v :: st) h) : WPd p l e R s m args below meth c Qend D cs sz sp nL N S n0 s0 pc L st h := by
  obtain ⟨hx, hb, -⟩ := E
  intro b1 b2 b3 b4 ls H locs hl hz hP hS
  rcases ldR_e k with ⟨v, hv, k⟩ | ⟨v, hv, k⟩
  · exact lv_aload_n hx hb hd rfl (LR_at hl hv) (k b1 b2 b3 b4 ls H locs hl hz hP hS)
  · exact lv_aload_n hx hb hd rfl (LR_at hl hv) (k b1 b2 b3 b4 ls H locs hl hz hP hS)
theorem w_istore (E : EV p R s m args meth c D cs sz sp sa cc nL o d N S n0 s0 ini) {i : Nat} (hd : decode cc pc = .ok (.istore i, 2)) (k : tI st fun v s' => lvS L i (.int v) fun L' => WPd p l e R s m args below meth c Qend D cs sz sp nL N S n0 s0 (pc + 2) L' s' h) : WPd p l e R s m args below meth c Qend D cs sz sp nL N S n0 s0 pc L st h := by
  obtain ⟨hx, hb, -⟩ := E
  obtain ⟨v, s', rfl, hi, hB, k⟩ := tI_e k
  intro b1 b2 b3 b4 ls H locs hl hz hP hS
  exact lv_istore hx hb hd hl.2 (by rw [← hl.1]; exact hi) rfl fun ls' hl' => k b1 b2 b3 b4 ls' H locs (LR_set1 hl.1 hi hB hl') hz hP hS
theorem w_istore_n (E : EV p R s m args meth c D cs sz sp sa cc nL o d N S n0 s0 ini) {i : Fin 4} (hd : decode cc pc = .ok (.istore_n i, 1)) (k : tI st fun v s' => lvS L i (.int v) fun L' => WPd p l e R s m args below meth c Qend D cs sz sp nL N S n0 s0 (pc + 1) L' s' h) : WPd p l e R s m args below meth c Qend D cs sz sp nL N S n0 s0 pc L st h := by
  obtain ⟨hx, hb, -⟩ := E
  obtain ⟨v, s', rfl, hi, hB, k⟩ := tI_e k
  intro b1 b2 b3 b4 ls H locs hl hz hP hS
  exact lv_istore_n hx hb hd rfl hl.2 (by rw [← hl.1]; exact hi) rfl fun ls' hl' => k b1 b2 b3 b4 ls' H locs (LR_set1 hl.1 hi hB hl') hz hP hS
theorem w_astore (E : EV p R s m args meth c D cs sz sp sa cc nL o d N S n0 s0 ini) {i : Nat} (hd : decode cc pc = .ok (.astore i, 2)) (k : tR st fun v s' => lvS L i (.ref v) fun L' => WPd p l e R s m args below meth c Qend D cs sz sp nL N S n0 s0 (pc + 2) L' s' h) : WPd p l e R s m args below meth c Qend D cs sz sp nL N S n0 s0 pc L st h := by
  obtain ⟨hx, hb, -⟩ := E
  obtain ⟨v, s', rfl, hi, hB, k⟩ := tR_e k
  intro b1 b2 b3 b4 ls H locs hl hz hP hS
  exact lv_astore hx hb hd hl.2 (by rw [← hl.1]; exact hi) rfl fun ls' hl' => k b1 b2 b3 b4 ls' H locs (LR_set1 (v := .ref v) hl.1 hi hB hl') hz hP hS
theorem w_astore_n (E : EV p R s m args meth c D cs sz sp sa cc nL o d N S n0 s0 ini) {i : Fin 4} (hd : decode cc pc = .ok (.astore_n i, 1)) (k : tR st fun v s' => lvS L i (.ref v) fun L' => WPd p l e R s m args below meth c Qend D cs sz sp nL N S n0 s0 (pc + 1) L' s' h) : WPd p l e R s m args below meth c Qend D cs sz sp nL N S n0 s0 pc L st h := by
  obtain ⟨hx, hb, -⟩ := E
  obtain ⟨v, s', rfl, hi, hB, k⟩ := tR_e k
  intro b1 b2 b3 b4 ls H locs hl hz hP hS
  exact lv_astore_n hx hb hd rfl hl.2 (by rw [← hl.1]; exact hi) rfl fun ls' hl' => k b1 b2 b3 b4 ls' H locs (LR_set1 (v := .ref v) hl.1 hi hB hl') hz hP hS
theorem w_lstore (E : EV p R s m args meth c D cs sz sp sa cc nL o d N S n0 s0 ini) {i : Nat} (hd : decode cc pc = .ok (.lstore i, 2)) (k : tJ st fun v s' => lvS2 L i (.long v) fun L' => WPd p l e R s m args below meth c Qend D cs sz sp nL N S n0 s0 (pc + 2) L' s' h) : WPd p l e R s m args below meth c Qend D cs sz sp nL N S n0 s0 pc L st h := by
  obtain ⟨hx, hb, -⟩ := E
  obtain ⟨v, s', rfl, hi, hB, k⟩ := tJ_e k
  intro b1 b2 b3 b4 ls H locs hl hz hP hS
  exact lv_lstore hx hb hd hl.2 (by rw [← hl.1]; exact hi) rfl fun ls' hl' => k b1 b2 b3 b4 ls' H locs (LR_set2 (v := .long v) hl.1 hi hB hl') hz hP hS
theorem w_lstore_n (E : EV p R s m args meth c D cs sz sp sa cc nL o d N S n0 s0 ini) {i : Fin 4} (hd : decode cc pc = .ok (.lstore_n i, 1)) (k : tJ st fun v s' => lvS2 L i (.long v) fun L' => WPd p l e R s m args below meth c Qend D cs sz sp nL N S n0 s0 (pc + 1) L' s' h) : WPd p l e R s m args below meth c Qend D cs sz sp nL N S n0 s0 pc L st h := by
  obtain ⟨hx, hb, -⟩ := E
  obtain ⟨v, s', rfl, hi, hB, k⟩ := tJ_e k
  intro b1 b2 b3 b4 ls H locs hl hz hP hS
  exact lv_lstore_n hx hb hd rfl hl.2 (by rw [← hl.1]; exact hi) rfl fun ls' hl' => k b1 b2 b3 b4 ls' H locs (LR_set2 (v := .long v) hl.1 hi hB hl') hz hP hS
theorem w_iinc (E : EV p R s m args meth c D cs sz sp sa cc nL o d N S n0 s0 ini) {i : Nat} {n : Int} (hd : decode cc pc = .ok (.iinc i n, 3)) (k : ldI L i fun v => lvS L i (.int (v + Int32.ofInt n)) fun L' => WPd p l e R s m args below meth c Qend D cs sz sp nL N S n0 s0 (pc + 3) L' st h) : WPd p l e R s m args below meth c Qend D cs sz sp nL N S n0 s0 pc L st h := by
  obtain ⟨hx, hb, -⟩ := E
  obtain ⟨v, hv, hi, hB, k⟩ := ldI_e k
  intro b1 b2 b3 b4 ls H locs hl hz hP hS
  obtain ⟨kk, hkk⟩ := List.getElem?_of_mem (lvl_in (sz := sz) (sp := sp) hv)
  exact lv_iinc hx hb hd hl.2 hkk rfl (by rw [← hl.1]; exact hi) rfl fun ls' hl' => k b1 b2 b3 b4 ls' H locs (LR_set1 (v := .int (v + Int32.ofInt n)) hl.1 hi hB hl') hz hP hS
theorem w_iadd (E : EV p R s m args meth c D cs sz sp sa cc nL o d N S n0 s0 ini) (hd : decode cc pc = .ok (.iadd, 1)) (k : tI st fun b s' => tI s' fun a s' => WPd p l e R s m args below meth c Qend D cs sz sp nL N S n0 s0 (pc + 1) L (.int (a + b) :: s') h) : WPd p l e R s m args below meth c Qend D cs sz sp nL N S n0 s0 pc L st h := by
  obtain ⟨hx, hb, -⟩ := E
  obtain ⟨b, s', rfl, k1⟩ := tI_e k
  obtain ⟨a, s', rfl, k⟩ := tI_e k1
  intro b1 b2 b3 b4 ls H locs hl hz hP hS
  exact lv_iadd hx hb hd (k b1 b2 b3 b4 ls H locs hl hz hP hS)
theorem w_isub (E : EV p R s m args meth c D cs sz sp sa cc nL o d N S n0 s0 ini) (hd : decode cc pc = .ok (.isub, 1)) (k : tI st fun b s' => tI s' fun a s' => WPd p l e R s m args below meth c Qend D cs sz sp nL N S n0 s0 (pc + 1) L (.int (a - b) :: s') h) : WPd p l e R s m args below meth c Qend D cs sz sp nL N S n0 s0 pc L st h := by
  obtain ⟨hx, hb, -⟩ := E
  obtain ⟨b, s', rfl, k1⟩ := tI_e k
  obtain ⟨a, s', rfl, k⟩ := tI_e k1
  intro b1 b2 b3 b4 ls H locs hl hz hP hS
  exact lv_isub hx hb hd (k b1 b2 b3 b4 ls H locs hl hz hP hS)
theorem w_imul (E : EV p R s m args meth c D cs sz sp sa cc nL o d N S n0 s0 ini) (hd : decode cc pc = .ok (.imul, 1)) (k : tI st fun b s' => tI s' fun a s' => WPd p l e R s m args below meth c Qend D cs sz sp nL N S n0 s0 (pc + 1) L (.int (a * b) :: s') h) : WPd p l e R s m args below meth c Qend D cs sz sp nL N S n0 s0 pc L st h := by
  obtain ⟨hx, hb, -⟩ := E
  obtain ⟨b, s', rfl, k1⟩ := tI_e k
  obtain ⟨a, s', rfl, k⟩ := tI_e k1
  intro b1 b2 b3 b4 ls H locs hl hz hP hS
  exact lv_imul hx hb hd (k b1 b2 b3 b4 ls H locs hl hz hP hS)
theorem w_iand (E : EV p R s m args meth c D cs sz sp sa cc nL o d N S n0 s0 ini) (hd : decode cc pc = .ok (.iand, 1)) (k : tI st fun b s' => tI s' fun a s' => WPd p l e R s m args below meth c Qend D cs sz sp nL N S n0 s0 (pc + 1) L (.int (a &&& b) :: s') h) : WPd p l e R s m args below meth c Qend D cs sz sp nL N S n0 s0 pc L st h := by
  obtain ⟨hx, hb, -⟩ := E
  obtain ⟨b, s', rfl, k1⟩ := tI_e k
  obtain ⟨a, s', rfl, k⟩ := tI_e k1
  intro b1 b2 b3 b4 ls H locs hl hz hP hS
  exact lv_iand hx hb hd (k b1 b2 b3 b4 ls H locs hl hz hP hS)
theorem w_ior (E : EV p R s m args meth c D cs sz sp sa cc nL o d N S n0 s0 ini) (hd : decode cc pc = .ok (.ior, 1)) (k : tI st fun b s' => tI s' fun a s' => WPd p l e R s m args below meth c Qend D cs sz sp nL N S n0 s0 (pc + 1) L (.int (a ||| b) :: s') h) : WPd p l e R s m args below meth c Qend D cs sz sp nL N S n0 s0 pc L st h := by
  obtain ⟨hx, hb, -⟩ := E
  obtain ⟨b, s', rfl, k1⟩ := tI_e k
  obtain ⟨a, s', rfl, k⟩ := tI_e k1
  intro b1 b2 b3 b4 ls H locs hl hz hP hS
  exact lv_ior hx hb hd (k b1 b2 b3 b4 ls H locs hl hz hP hS)
theorem w_ixor (E : EV p R s m args meth c D cs sz sp sa cc nL o d N S n0 s0 ini) (hd : decode cc pc = .ok (.ixor, 1)) (k : tI st fun b s' => tI s' fun a s' => WPd p l e R s m args below meth c Qend D cs sz sp nL N S n0 s0 (pc + 1) L (.int (a ^^^ b) :: s') h) : WPd p l e R s m args below meth c Qend D cs sz sp nL N S n0 s0 pc L st h := by
  obtain ⟨hx, hb, -⟩ := E
  obtain ⟨b, s', rfl, k1⟩ := tI_e k
  obtain ⟨a, s', rfl, k⟩ := tI_e k1
  intro b1 b2 b3 b4 ls H locs hl hz hP hS
  exact lv_ixor hx hb hd (k b1 b2 b3 b4 ls H locs hl hz hP hS)
theorem w_ishl (E : EV p R s m args meth c D cs sz sp sa cc nL o d N S n0 s0 ini) (hd : decode cc pc = .ok (.ishl, 1)) (k : tI st fun b s' => tI s' fun a s' => WPd p l e R s m args below meth c Qend D cs sz sp nL N S n0 s0 (pc + 1) L (.int (a <<< (b &&& 31)) :: s') h) : WPd p l e R s m args below meth c Qend D cs sz sp nL N S n0 s0 pc L st h := by
  obtain ⟨hx, hb, -⟩ := E
  obtain ⟨b, s', rfl, k1⟩ := tI_e k
  obtain ⟨a, s', rfl, k⟩ := tI_e k1
  intro b1 b2 b3 b4 ls H locs hl hz hP hS
  exact lv_ishl hx hb hd (k b1 b2 b3 b4 ls H locs hl hz hP hS)
theorem w_ishr (E : EV p R s m args meth c D cs sz sp sa cc nL o d N S n0 s0 ini) (hd : decode cc pc = .ok (.ishr, 1)) (k : tI st fun b s' => tI s' fun a s' => WPd p l e R s m args below meth c Qend D cs sz sp nL N S n0 s0 (pc + 1) L (.int (a >>> (b &&& 31)) :: s') h) : WPd p l e R s m args below meth c Qend D cs sz sp nL N S n0 s0 pc L st h := by
  obtain ⟨hx, hb, -⟩ := E
  obtain ⟨b, s', rfl, k1⟩ := tI_e k
  obtain ⟨a, s', rfl, k⟩ := tI_e k1
  intro b1 b2 b3 b4 ls H locs hl hz hP hS
  exact lv_ishr hx hb hd (k b1 b2 b3 b4 ls H locs hl hz hP hS)
theorem w_iushr (E : EV p R s m args meth c D cs sz sp sa cc nL o d N S n0 s0 ini) (hd : decode cc pc = .ok (.iushr, 1)) (k : tI st fun b s' => tI s' fun a s' => WPd p l e R s m args below meth c Qend D cs sz sp nL N S n0 s0 (pc + 1) L (.int (a.toUInt32 >>> (b.toUInt32 &&& Int32.toUInt32 31)).toInt32 :: s') h) : WPd p l e R s m args below meth c Qend D cs sz sp nL N S n0 s0 pc L st h := by
  obtain ⟨hx, hb, -⟩ := E
  obtain ⟨b, s', rfl, k1⟩ := tI_e k
  obtain ⟨a, s', rfl, k⟩ := tI_e k1
  intro b1 b2 b3 b4 ls H locs hl hz hP hS
  exact lv_iushr hx hb hd rfl (k b1 b2 b3 b4 ls H locs hl hz hP hS)
theorem w_irem (E : EV p R s m args meth c D cs sz sp sa cc nL o d N S n0 s0 ini) (hd : decode cc pc = .ok (.irem, 1)) (k : tI st fun b s' => tI s' fun a s' => ¬ b = 0 ∧ WPd p l e R s m args below meth c Qend D cs sz sp nL N S n0 s0 (pc + 1) L (.int (a - a / b * b) :: s') h) : WPd p l e R s m args below meth c Qend D cs sz sp nL N S n0 s0 pc L st h := by
  obtain ⟨hx, hb, -⟩ := E
  obtain ⟨b, s', rfl, k1⟩ := tI_e k
  obtain ⟨a, s', rfl, h0, k⟩ := tI_e k1
  intro b1 b2 b3 b4 ls H locs hl hz hP hS
  exact lv_irem hx hb hd h0 (k b1 b2 b3 b4 ls H locs hl hz hP hS)
theorem w_ineg (E : EV p R s m args meth c D cs sz sp sa cc nL o d N S n0 s0 ini) (hd : decode cc pc = .ok (.ineg, 1)) (k : tI st fun a s' => WPd p l e R s m args below meth c Qend D cs sz sp nL N S n0 s0 (pc + 1) L (.int (-a) :: s') h) : WPd p l e R s m args below meth c Qend D cs sz sp nL N S n0 s0 pc L st h := by
  obtain ⟨hx, hb, -⟩ := E
  obtain ⟨b, s', rfl, k⟩ := tI_e k
  intro b1 b2 b3 b4 ls H locs hl hz hP hS
  exact lv_ineg hx hb hd (k b1 b2 b3 b4 ls H locs hl hz hP hS)
theorem w_ladd (E : EV p R s m args meth c D cs sz sp sa cc nL o d N S n0 s0 ini) (hd : decode cc pc = .ok (.ladd, 1)) (k : tJ st fun b s' => tJ s' fun a s' => WPd p l e R s m args below meth c Qend D cs sz sp nL N S n0 s0 (pc + 1) L (.long (a + b) :: s') h) : WPd p l e R s m args below meth c Qend D cs sz sp nL N S n0 s0 pc L st h := by
  obtain ⟨hx, hb, -⟩ := E
  obtain ⟨b, s', rfl, k1⟩ := tJ_e k
  obtain ⟨a, s', rfl, k⟩ := tJ_e k1
  intro b1 b2 b3 b4 ls H locs hl hz hP hS
  exact lv_ladd hx hb hd (k b1 b2 b3 b4 ls H locs hl hz hP hS)
theorem w_lmul (E : EV p R s m args meth c D cs sz sp sa cc nL o d N S n0 s0 ini) (hd : decode cc pc = .ok (.lmul, 1)) (k : tJ st fun b s' => tJ s' fun a s' => WPd p l e R s m args below meth c Qend D cs sz sp nL N S n0 s0 (pc + 1) L (.long (a * b) :: s') h) : WPd p l e R s m args below meth c Qend D cs sz sp nL N S n0 s0 pc L st h := by
  obtain ⟨hx, hb, -⟩ := E
  obtain ⟨b, s', rfl, k1⟩ := tJ_e k
  obtain ⟨a, s', rfl, k⟩ := tJ_e k1
  intro b1 b2 b3 b4 ls H locs hl hz hP hS
  exact lv_lmul hx hb hd (k b1 b2 b3 b4 ls H locs hl hz hP hS)
theorem w_ldiv (E : EV p R s m args meth c D cs sz sp sa cc nL o d N S n0 s0 ini) (hd : decode cc pc = .ok (.ldiv, 1)) (k : tJ st fun b s' => tJ s' fun a s' => ¬ b = 0 ∧ WPd p l e R s m args below meth c Qend D cs sz sp nL N S n0 s0 (pc + 1) L (.long (a / b) :: s') h) : WPd p l e R s m args below meth c Qend D cs sz sp nL N S n0 s0 pc L st h := by
  obtain ⟨hx, hb, -⟩ := E
  obtain ⟨b, s', rfl, k1⟩ := tJ_e k
  obtain ⟨a, s', rfl, h0, k⟩ := tJ_e k1
  intro b1 b2 b3 b4 ls H locs hl hz hP hS
  exact lv_ldiv hx hb hd h0 (k b1 b2 b3 b4 ls H locs hl hz hP hS)
theorem w_lrem (E : EV p R s m args meth c D cs sz sp sa cc nL o d N S n0 s0 ini) (hd : decode cc pc = .ok (.lrem, 1)) (k : tJ st fun b s' => tJ s' fun a s' => ¬ b = 0 ∧ WPd p l e R s m args below meth c Qend D cs sz sp nL N S n0 s0 (pc + 1) L (.long (a - a / b * b) :: s') h) : WPd p l e R s m args below meth c Qend D cs sz sp nL N S n0 s0 pc L st h := by
  obtain ⟨hx, hb, -⟩ := E
  obtain ⟨b, s', rfl, k1⟩ := tJ_e k
  obtain ⟨a, s', rfl, h0, k⟩ := tJ_e k1
  intro b1 b2 b3 b4 ls H locs hl hz hP hS
  exact lv_lrem hx hb hd h0 (k b1 b2 b3 b4 ls H locs hl hz hP hS)
theorem w_lcmp (E : EV p R s m args meth c D cs sz sp sa cc nL o d N S n0 s0 ini) (hd : decode cc pc = .ok (.lcmp, 1)) (k : tJ st fun b s' => tJ s' fun a s' => WPd p l e R s m args below meth c Qend D cs sz sp nL N S n0 s0 (pc + 1) L (.int (lg_cmp a b) :: s') h) : WPd p l e R s m args below meth c Qend D cs sz sp nL N S n0 s0 pc L st h := by
  obtain ⟨hx, hb, -⟩ := E
  obtain ⟨b, s', rfl, k1⟩ := tJ_e k
  obtain ⟨a, s', rfl, k⟩ := tJ_e k1
  intro b1 b2 b3 b4 ls H locs hl hz hP hS
  exact W.lcmp hx hb hd (k b1 b2 b3 b4 ls H locs hl hz hP hS)
theorem w_i2l (E : EV p R s m args meth c D cs sz sp sa cc nL o d N S n0 s0 ini) (hd : decode cc pc = .ok (.i2l, 1)) (k : tI st fun a s' => WPd p l e R s m args below meth c Qend D cs sz sp nL N S n0 s0 (pc + 1) L (.long a.toInt64 :: s') h) : WPd p l e R s m args below meth c Qend D cs sz sp nL N S n0 s0 pc L st h := by
  obtain ⟨hx, hb, -⟩ := E
  obtain ⟨b, s', rfl, k⟩ := tI_e k
  intro b1 b2 b3 b4 ls H locs hl hz hP hS
  exact lv_i2l hx hb hd rfl (k b1 b2 b3 b4 ls H locs hl hz hP hS)
theorem w_l2i (E : EV p R s m args meth c D cs sz sp sa cc nL o d N S n0 s0 ini) (hd : decode cc pc = .ok (.l2i, 1)) (k : tJ st fun a s' => WPd p l e R s m args below meth c Qend D cs sz sp nL N S n0 s0 (pc + 1) L (.int a.toInt32 :: s') h) : WPd p l e R s m args below meth c Qend D cs sz sp nL N S n0 s0 pc L st h := by
  obtain ⟨hx, hb, -⟩ := E
  obtain ⟨b, s', rfl, k⟩ := tJ_e k
  intro b1 b2 b3 b4 ls H locs hl hz hP hS
  exact lv_l2i hx hb hd rfl (k b1 b2 b3 b4 ls H locs hl hz hP hS)
theorem w_i2b (E : EV p R s m args meth c D cs sz sp sa cc nL o d N S n0 s0 ini) (hd : decode cc pc = .ok (.i2b, 1)) (k : tI st fun a s' => WPd p l e R s m args below meth c Qend D cs sz sp nL N S n0 s0 (pc + 1) L (.int a.toInt8.toInt32 :: s') h) : WPd p l e R s m args below meth c Qend D cs sz sp nL N S n0 s0 pc L st h := by
  obtain ⟨hx, hb, -⟩ := E
  obtain ⟨b, s', rfl, k⟩ := tI_e k
  intro b1 b2 b3 b4 ls H locs hl hz hP hS
  exact lv_i2b hx hb hd rfl (k b1 b2 b3 b4 ls H locs hl hz hP hS)
theorem w_i2s (E : EV p R s m args meth c D cs sz sp sa cc nL o d N S n0 s0 ini) (hd : decode cc pc = .ok (.i2s, 1)) (k : tI st fun a s' => WPd p l e R s m args below meth c Qend D cs sz sp nL N S n0 s0 (pc + 1) L (.int a.toInt16.toInt32 :: s') h) : WPd p l e R s m args below meth c Qend D cs sz sp nL N S n0 s0 pc L st h := by
  obtain ⟨hx, hb, -⟩ := E
  obtain ⟨b, s', rfl, k⟩ := tI_e k
  intro b1 b2 b3 b4 ls H locs hl hz hP hS
  exact lv_i2s hx hb hd rfl (k b1 b2 b3 b4 ls H locs hl hz hP hS)
theorem w_dup (E : EV p R s m args meth c D cs sz sp sa cc nL o d N S n0 s0 ini) (hd : decode cc pc = .ok (.dup, 1)) {v : Value} (hv : v.category = 1) (k : WPd p l e R s m args below meth c Qend D cs sz sp nL N S n0 s0 (pc + 1) L (v :: v :: st) h) : WPd p l e R s m args below meth c Qend D cs sz sp nL N S n0 s0 pc L (v :: st) h := by
  obtain ⟨hx, hb, -⟩ := E
  intro b1 b2 b3 b4 ls H locs hl hz hP hS
  exact lv_dup hx hb hd (by rw [cv_cat]; exact hv) (k b1 b2 b3 b4 ls H locs hl hz hP hS)
theorem w_dup2 (E : EV p R s m args meth c D cs sz sp sa cc nL o d N S n0 s0 ini) (hd : decode cc pc = .ok (.dup2, 1)) {v v2 : Value} (hv : v.category = 1) (hv2 : v2.category = 1) (k : WPd p l e R s m args below meth c Qend D cs sz sp nL N S n0 s0 (pc + 1) L (v :: v2 :: v :: v2 :: st) h) : WPd p l e R s m args below meth c Qend D cs sz sp nL N S n0 s0 pc L (v :: v2 :: st) h := by
  obtain ⟨hx, hb, -⟩ := E
  intro b1 b2 b3 b4 ls H locs hl hz hP hS
  exact lv_dup2_11 hx hb hd (by rw [cv_cat]; exact hv) (by rw [cv_cat]; exact hv2) (k b1 b2 b3 b4 ls H locs hl hz hP hS)
theorem w_goto (E : EV p R s m args meth c D cs sz sp sa cc nL o d N S n0 s0 ini) {off : Int} {x : Nat} (hd : decode cc pc = .ok (.goto off, 3)) (ht : (pc : Int) + off = (x : Int)) (k : WPd p l e R s m args below meth c Qend D cs sz sp nL N S n0 s0 x L st h) : WPd p l e R s m args below meth c Qend D cs sz sp nL N S n0 s0 pc L st h := by
  obtain ⟨hx, hb, -⟩ := E
  intro b1 b2 b3 b4 ls H locs hl hz hP hS
  exact lv_goto hx hb hd ht (k b1 b2 b3 b4 ls H locs hl hz hP hS)
theorem w_if_eq (E : EV p R s m args meth c D cs sz sp sa cc nL o d N S n0 s0 ini) {off : Int} {x : Nat} (hd : decode cc pc = .ok (.ifCond .eq off, 3)) (ht : (pc : Int) + off = (x : Int)) (k : tI st fun a s' => br (a = 0) (WPd p l e R s m args below meth c Qend D cs sz sp nL N S n0 s0 x L s' h) (WPd p l e R s m args below meth c Qend D cs sz sp nL N S n0 s0 (pc + 3) L s' h)) : WPd p l e R s m args below meth c Qend D cs sz sp nL N S n0 s0 pc L st h := by
  obtain ⟨hx, hb, -⟩ := E
  obtain ⟨a, s', rfl, k⟩ := tI_e k
  intro b1 b2 b3 b4 ls H locs hl hz hP hS
  exact lv_if_eq hx hb hd ht (fun q => k.1 q b1 b2 b3 b4 ls H locs hl hz hP hS) (fun q => k.2 q b1 b2 b3 b4 ls H locs hl hz hP hS)
theorem w_ic_eq (E : EV p R s m args meth c D cs sz sp sa cc nL o d N S n0 s0 ini) {off : Int} {x : Nat} (hd : decode cc pc = .ok (.if_icmp .eq off, 3)) (ht : (pc : Int) + off = (x : Int)) (k : tI st fun b s' => tI s' fun a s' => br (a = b) (WPd p l e R s m args below meth c Qend D cs sz sp nL N S n0 s0 x L s' h) (WPd p l e R s m args below meth c Qend D cs sz sp nL N S n0 s0 (pc + 3) L s' h)) : WPd p l e R s m args below meth c Qend D cs sz sp nL N S n0 s0 pc L st h := by
  obtain ⟨hx, hb, -⟩ := E
  obtain ⟨b, s', rfl, k1⟩ := tI_e k
  obtain ⟨a, s', rfl, k⟩ := tI_e k1
  intro b1 b2 b3 b4 ls H locs hl hz hP hS
  exact lv_icmp_eq hx hb hd ht (fun q => k.1 q b1 b2 b3 b4 ls H locs hl hz hP hS) (fun q => k.2 q b1 b2 b3 b4 ls H locs hl hz hP hS)
theorem w_if_ne (E : EV p R s m args meth c D cs sz sp sa cc nL o d N S n0 s0 ini) {off : Int} {x : Nat} (hd : decode cc pc = .ok (.ifCond .ne off, 3)) (ht : (pc : Int) + off = (x : Int)) (k : tI st fun a s' => br (a = 0) (WPd p l e R s m args below meth c Qend D cs sz sp nL N S n0 s0 (pc + 3) L s' h) (WPd p l e R s m args below meth c Qend D cs sz sp nL N S n0 s0 x L s' h)) : WPd p l e R s m args below meth c Qend D cs sz sp nL N S n0 s0 pc L st h := by
  obtain ⟨hx, hb, -⟩ := E
  obtain ⟨a, s', rfl, k⟩ := tI_e k
  intro b1 b2 b3 b4 ls H locs hl hz hP hS
  exact lv_if_ne hx hb hd ht (fun q => k.2 q b1 b2 b3 b4 ls H locs hl hz hP hS) (fun q => k.1 q b1 b2 b3 b4 ls H locs hl hz hP hS)
theorem w_ic_ne (E : EV p R s m args meth c D cs sz sp sa cc nL o d N S n0 s0 ini) {off : Int} {x : Nat} (hd : decode cc pc = .ok (.if_icmp .ne off, 3)) (ht : (pc : Int) + off = (x : Int)) (k : tI st fun b s' => tI s' fun a s' => br (a = b) (WPd p l e R s m args below meth c Qend D cs sz sp nL N S n0 s0 (pc + 3) L s' h) (WPd p l e R s m args below meth c Qend D cs sz sp nL N S n0 s0 x L s' h)) : WPd p l e R s m args below meth c Qend D cs sz sp nL N S n0 s0 pc L st h := by
  obtain ⟨hx, hb, -⟩ := E
  obtain ⟨b, s', rfl, k1⟩ := tI_e k
  obtain ⟨a, s', rfl, k⟩ := tI_e k1
  intro b1 b2 b3 b4 ls H locs hl hz hP hS
  exact lv_icmp_ne hx hb hd ht (fun q => k.2 q b1 b2 b3 b4 ls H locs hl hz hP hS) (fun q => k.1 q b1 b2 b3 b4 ls H locs hl hz hP hS)
theorem w_if_lt (E : EV p R s m args meth c D cs sz sp sa cc nL o d N S n0 s0 ini) {off : Int} {x : Nat} (hd : decode cc pc = .ok (.ifCond .lt off, 3)) (ht : (pc : Int) + off = (x : Int)) (k : tI st fun a s' => br (a < 0) (WPd p l e R s m args below meth c Qend D cs sz sp nL N S n0 s0 x L s' h) (WPd p l e R s m args below meth c Qend D cs sz sp nL N S n0 s0 (pc + 3) L s' h)) : WPd p l e R s m args below meth c Qend D cs sz sp nL N S n0 s0 pc L st h := by
  obtain ⟨hx, hb, -⟩ := E
  obtain ⟨a, s', rfl, k⟩ := tI_e k
  intro b1 b2 b3 b4 ls H locs hl hz hP hS
  exact lv_if_lt hx hb hd ht (fun q => k.1 q b1 b2 b3 b4 ls H locs hl hz hP hS) (fun q => k.2 q b1 b2 b3 b4 ls H locs hl hz hP hS)
theorem w_ic_lt (E : EV p R s m args meth c D cs sz sp sa cc nL o d N S n0 s0 ini) {off : Int} {x : Nat} (hd : decode cc pc = .ok (.if_icmp .lt off, 3)) (ht : (pc : Int) + off = (x : Int)) (k : tI st fun b s' => tI s' fun a s' => br (a < b) (WPd p l e R s m args below meth c Qend D cs sz sp nL N S n0 s0 x L s' h) (WPd p l e R s m args below meth c Qend D cs sz sp nL N S n0 s0 (pc + 3) L s' h)) : WPd p l e R s m args below meth c Qend D cs sz sp nL N S n0 s0 pc L st h := by
  obtain ⟨hx, hb, -⟩ := E
  obtain ⟨b, s', rfl, k1⟩ := tI_e k
  obtain ⟨a, s', rfl, k⟩ := tI_e k1
  intro b1 b2 b3 b4 ls H locs hl hz hP hS
  exact lv_icmp_lt hx hb hd ht (fun q => k.1 q b1 b2 b3 b4 ls H locs hl hz hP hS) (fun q => k.2 q b1 b2 b3 b4 ls H locs hl hz hP hS)
theorem w_if_ge (E : EV p R s m args meth c D cs sz sp sa cc nL o d N S n0 s0 ini) {off : Int} {x : Nat} (hd : decode cc pc = .ok (.ifCond .ge off, 3)) (ht : (pc : Int) + off = (x : Int)) (k : tI st fun a s' => br (0 ≤ a) (WPd p l e R s m args below meth c Qend D cs sz sp nL N S n0 s0 x L s' h) (WPd p l e R s m args below meth c Qend D cs sz sp nL N S n0 s0 (pc + 3) L s' h)) : WPd p l e R s m args below meth c Qend D cs sz sp nL N S n0 s0 pc L st h := by
  obtain ⟨hx, hb, -⟩ := E
  obtain ⟨a, s', rfl, k⟩ := tI_e k
  intro b1 b2 b3 b4 ls H locs hl hz hP hS
  exact lv_if_ge hx hb hd ht (fun q => k.1 q b1 b2 b3 b4 ls H locs hl hz hP hS) (fun q => k.2 q b1 b2 b3 b4 ls H locs hl hz hP hS)
theorem w_ic_ge (E : EV p R s m args meth c D cs sz sp sa cc nL o d N S n0 s0 ini) {off : Int} {x : Nat} (hd : decode cc pc = .ok (.if_icmp .ge off, 3)) (ht : (pc : Int) + off = (x : Int)) (k : tI st fun b s' => tI s' fun a s' => br (b ≤ a) (WPd p l e R s m args below meth c Qend D cs sz sp nL N S n0 s0 x L s' h) (WPd p l e R s m args below meth c Qend D cs sz sp nL N S n0 s0 (pc + 3) L s' h)) : WPd p l e R s m args below meth c Qend D cs sz sp nL N S n0 s0 pc L st h := by
  obtain ⟨hx, hb, -⟩ := E
  obtain ⟨b, s', rfl, k1⟩ := tI_e k
  obtain ⟨a, s', rfl, k⟩ := tI_e k1
  intro b1 b2 b3 b4 ls H locs hl hz hP hS
  exact lv_icmp_ge hx hb hd ht (fun q => k.1 q b1 b2 b3 b4 ls H locs hl hz hP hS) (fun q => k.2 q b1 b2 b3 b4 ls H locs hl hz hP hS)
theorem w_if_gt (E : EV p R s m args meth c D cs sz sp sa cc nL o d N S n0 s0 ini) {off : Int} {x : Nat} (hd : decode cc pc = .ok (.ifCond .gt off, 3)) (ht : (pc : Int) + off = (x : Int)) (k : tI st fun a s' => br (0 < a) (WPd p l e R s m args below meth c Qend D cs sz sp nL N S n0 s0 x L s' h) (WPd p l e R s m args below meth c Qend D cs sz sp nL N S n0 s0 (pc + 3) L s' h)) : WPd p l e R s m args below meth c Qend D cs sz sp nL N S n0 s0 pc L st h := by
  obtain ⟨hx, hb, -⟩ := E
  obtain ⟨a, s', rfl, k⟩ := tI_e k
  intro b1 b2 b3 b4 ls H locs hl hz hP hS
  exact lv_if_gt hx hb hd ht (fun q => k.1 q b1 b2 b3 b4 ls H locs hl hz hP hS) (fun q => k.2 q b1 b2 b3 b4 ls H locs hl hz hP hS)
theorem w_ic_gt (E : EV p R s m args meth c D cs sz sp sa cc nL o d N S n0 s0 ini) {off : Int} {x : Nat} (hd : decode cc pc = .ok (.if_icmp .gt off, 3)) (ht : (pc : Int) + off = (x : Int)) (k : tI st fun b s' => tI s' fun a s' => br (b < a) (WPd p l e R s m args below meth c Qend D cs sz sp nL N S n0 s0 x L s' h) (WPd p l e R s m args below meth c Qend D cs sz sp nL N S n0 s0 (pc + 3) L s' h)) : WPd p l e R s m args below meth c Qend D cs sz sp nL N S n0 s0 pc L st h := by
  obtain ⟨hx, hb, -⟩ := E
  obtain ⟨b, s', rfl, k1⟩ := tI_e k
  obtain ⟨a, s', rfl, k⟩ := tI_e k1
  intro b1 b2 b3 b4 ls H locs hl hz hP hS
  exact lv_icmp_gt hx hb hd ht (fun q => k.1 q b1 b2 b3 b4 ls H locs hl hz hP hS) (fun q => k.2 q b1 b2 b3 b4 ls H locs hl hz hP hS)
theorem w_if_le (E : EV p R s m args meth c D cs sz sp sa cc nL o d N S n0 s0 ini) {off : Int} {x : Nat} (hd : decode cc pc = .ok (.ifCond .le off, 3)) (ht : (pc : Int) + off = (x : Int)) (k : tI st fun a s' => br (a ≤ 0) (WPd p l e R s m args below meth c Qend D cs sz sp nL N S n0 s0 x L s' h) (WPd p l e R s m args below meth c Qend D cs sz sp nL N S n0 s0 (pc + 3) L s' h)) : WPd p l e R s m args below meth c Qend D cs sz sp nL N S n0 s0 pc L st h := by
  obtain ⟨hx, hb, -⟩ := E
  obtain ⟨a, s', rfl, k⟩ := tI_e k
  intro b1 b2 b3 b4 ls H locs hl hz hP hS
  exact lv_if_le hx hb hd ht (fun q => k.1 q b1 b2 b3 b4 ls H locs hl hz hP hS) (fun q => k.2 q b1 b2 b3 b4 ls H locs hl hz hP hS)
theorem w_ic_le (E : EV p R s m args meth c D cs sz sp sa cc nL o d N S n0 s0 ini) {off : Int} {x : Nat} (hd : decode cc pc = .ok (.if_icmp .le off, 3)) (ht : (pc : Int) + off = (x : Int)) (k : tI st fun b s' => tI s' fun a s' => br (a ≤ b) (WPd p l e R s m args below meth c Qend D cs sz sp nL N S n0 s0 x L s' h) (WPd p l e R s m args below meth c Qend D cs sz sp nL N S n0 s0 (pc + 3) L s' h)) : WPd p l e R s m args below meth c Qend D cs sz sp nL N S n0 s0 pc L st h := by
  obtain ⟨hx, hb, -⟩ := E
  obtain ⟨b, s', rfl, k1⟩ := tI_e k
  obtain ⟨a, s', rfl, k⟩ := tI_e k1
  intro b1 b2 b3 b4 ls H locs hl hz hP hS
  exact lv_icmp_le hx hb hd ht (fun q => k.1 q b1 b2 b3 b4 ls H locs hl hz hP hS) (fun q => k.2 q b1 b2 b3 b4 ls H locs hl hz hP hS)
theorem w_tsw (E : EV p R s m args meth c D cs sz sp sa cc nL o d N S n0 s0 ini) {df lo hi : Int} {offs : Array Int} {len : Nat} (hd : decode cc pc = .ok (.tableswitch df lo hi offs, len)) (k : tI st fun a s' => br (a.toInt < lo ∨ hi < a.toInt) (jmp (WPd p l e R s m args below meth c Qend D cs sz sp nL N S n0 s0) pc df L s' h) (opt (offs[(a.toInt - lo).toNat]?) fun off => jmp (WPd p l e R s m args below meth c Qend D cs sz sp nL N S n0 s0) pc off L s' h)) : WPd p l e R s m args below meth c Qend D cs sz sp nL N S n0 s0 pc L st h := by
  obtain ⟨hx, hb, -⟩ := E
  obtain ⟨a, s', rfl, k⟩ := tI_e k
  intro b1 b2 b3 b4 ls H locs hl hz hP hS
  by_cases hq : a.toInt < lo ∨ hi < a.toInt
  · obtain ⟨h0, k⟩ := k.1 hq
    exact lv_tableOut hx hb hd hq (by omega) (k b1 b2 b3 b4 ls H locs hl hz hP hS)
  · obtain ⟨off, ho, h0, k⟩ := opt_e (k.2 hq)
    exact lv_tableIn hx hb hd (fun q => hq (Or.inl q)) (fun q => hq (Or.inr q)) ho (by omega) (k b1 b2 b3 b4 ls H locs hl hz hP hS)
theorem w_lsw (E : EV p R s m args meth c D cs sz sp sa cc nL o d N S n0 s0 ini) {df : Int} {ps : Array (Int × Int)} {len : Nat} (hd : decode cc pc = .ok (.lookupswitch df ps, len)) (hp : (ps.toList.zip (ps.toList.drop 1)).all (fun (a, next) => a.1 < next.1) = true) (k : tI st fun a s' => jmp (WPd p l e R s m args below meth c Qend D cs sz sp nL N S n0 s0) pc (Op.lookupswitch.offset ps.toList df a.toInt) L s' h) : WPd p l e R s m args below meth c Qend D cs sz sp nL N S n0 s0 pc L st h := by
  obtain ⟨hx, hb, -⟩ := E
  obtain ⟨a, s', rfl, h0, k⟩ := tI_e k
  intro b1 b2 b3 b4 ls H locs hl hz hP hS
  exact lv_lookup hx hb hd hp rfl (by omega) (k b1 b2 b3 b4 ls H locs hl hz hP hS)
end ST

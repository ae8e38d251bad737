/-! what the tables say of the links and of the methods: decided row by row -/
theorem lkp_mem {α : Type} : ∀ {l : List (Nat × α)} {i : Nat} {v : α}, lkp l i = some v → (i, v) ∈ l
  | [], _, _, h => by cases h
  | (k, w) :: r, i, v, h => by
    rw [lkp] at h
    split at h
    · rename_i e
      cases h
      rw [e]
      exact List.mem_cons_self
    · exact List.mem_cons_of_mem _ (lkp_mem h)
def flC (o : Nat) (q : Nat × Nat × Nat) : Bool := match vwCl[q.2.1]? with
  | some r => decide (q.2.2 < r.2.2) && decide (Cond.fieldLink (ownS o) q.1 (r.2.1 q.2.2).1 (r.2.1 q.2.2).2.1 (r.2.1 q.2.2).2.2.1 ∈ lw_tbl)
  | none => false
theorem flT_all : ∀ o ∈ List.range 11, ∀ q ∈ flT o, flC o q = true := by decide +kernel
theorem flT_ok {o i x y : Nat} (ho : o < 11) (h : lkp (flT o) i = some (x, y)) : ∃ (C : String) (T : u_T) (M : Nat), vwCl[x]? = some (C, T, M) ∧ y < M ∧ Cond.fieldLink (ownS o) i (T y).1 (T y).2.1 (T y).2.2.1 ∈ gw_tbl := by
  have h1 := flT_all o (List.mem_range.mpr ho) _ (lkp_mem h)
  unfold flC at h1
  dsimp only at h1
  split at h1
  · rename_i r hr
    rw [Bool.and_eq_true] at h1
    exact ⟨r.1, r.2.1, r.2.2, hr, of_decide_eq_true h1.1, gw_in (of_decide_eq_true h1.2) rfl⟩
  · cases h1
def clC (x : Nat) : Bool := match vwCl[x]? with
  | some r => (List.range r.2.2).all (fun k => parseFieldDescriptor (r.2.1 k).2.2.1 == some (tyN x k) && decide (defaultValue (tyN x k) = (dfT x).getD k .null) && decide ((r.2.1 k).1 = r.1)) && (List.range r.2.2).all (fun a => (List.range r.2.2).all (fun b => a == b || !((r.2.1 a).2.1 == (r.2.1 b).2.1))) && decide (Cond.instantiable r.1 r.2.2 ∈ lw_tbl) && decide (Cond.initialized r.1 ∈ lw_tbl) && decide (r.1 = ownS x) && decide ((dfT x).length = r.2.2)
  | none => true
theorem clC_all : ∀ x ∈ List.range 8, clC x = true := by decide +kernel
theorem clW_all : ∀ r ∈ vwCl, ∀ w ∈ u_ws r.1 r.2.1 r.2.2, w ∈ lw_tbl ∧ goodWord w = true := by decide +kernel
theorem dfT_cv : ∀ x ∈ List.range 8, ∀ v ∈ dfT x, v = .null ∨ v = .int 0 := by decide +kernel
theorem kiT_all : ∀ o ∈ List.range 11, ∀ q ∈ kiT o, Cond.constant (ownS o) q.1 (Int32.ofInt (if q.2.2 = 0 then (q.2.1 : Int) else -(q.2.1 : Int))) ∈ lw_tbl := by decide +kernel
theorem klT_all : ∀ o ∈ List.range 11, ∀ q ∈ klT o, Cond.constantLong (ownS o) q.1 (Int64.ofInt (if q.2.2 = 0 then (q.2.1 : Int) else -(q.2.1 : Int))) ∈ lw_tbl := by decide +kernel
theorem sfT_all : ∀ o ∈ List.range 11, ∀ q ∈ sfT o, q.2 < 2 ∧ Cond.fieldLink (ownS o) q.1 RX1 (snm q.2) "[I" ∈ lw_tbl := by decide +kernel
theorem clT_all : ∀ o ∈ List.range 11, ∀ q ∈ clT o, q.2 < 8 ∧ Cond.classLink (ownS o) q.1 (ownS q.2) ∈ lw_tbl := by decide +kernel
theorem arr_int : Cond.arrayClass .int ∈ lw_tbl := by decide +kernel
theorem arr_bool : Cond.arrayClass .boolean ∈ lw_tbl := by decide +kernel
theorem arr_obj : Cond.arrayOver (.object "HawkAsks$Castle") ∈ lw_tbl := by decide +kernel
theorem ao_spec {s : State} (h : va_Nw (.arrayOver (.array .int)) s) : ∃ comp c k, s.vm.findClass (FieldType.array .int).toString = some comp ∧ (s.vm.classes.findIdx? fun (x : Class) => match x.kind with | .array component _ => component == comp | _ => false) = some c ∧ s.vm.classes[c]? = some k ∧ k.kind = .array comp (.array .int) ∧ s.vm.findClass ("[" ++ (FieldType.array .int).toString) = some c := by
  unfold va_Nw Cond.before at h
  simp only [Cond.holds, Cond.value, beq_iff_eq] at h
  cases hc : s.vm.findClass (FieldType.array .int).toString with
  | none => simp [hc] at h
  | some comp =>
    simp only [hc, Option.bind_some, Option.bind_eq_some_iff, Option.map_eq_some_iff] at h
    obtain ⟨c, hi, k, hk, hb⟩ := h
    obtain ⟨hlt, hp, -⟩ := Array.findIdx?_eq_some_iff_getElem.mp hi
    have hkk : s.vm.classes[c] = k := (Array.getElem?_eq_some_iff.mp hk).2
    rw [hkk] at hp
    cases hkind : k.kind with
    | array component ty =>
      rw [hkind] at hb hp
      simp at hb hp
      exact ⟨comp, c, k, rfl, hi, hk, by rw [hkind, hp, hb.1], hb.2⟩
    | _ => rw [hkind] at hb; simp at hb
theorem ao_moved {u U : State} (hvm : u.vm.Alike U.vm) (h : va_Nw (.arrayOver (.array .int)) u) : va_Nw (.arrayOver (.array .int)) U := by
  obtain ⟨comp, c, k, h1, h2, h3, h4, h5⟩ := ao_spec h
  obtain ⟨k', hk', he⟩ := hvm.2.2 _ _ h3
  have hi : (U.vm.classes.findIdx? fun (x : Class) => match x.kind with | .array component _ => component == comp | _ => false) = some c := by
    have e1 := va_idx_bare U.vm comp
    have e2 := va_idx_bare u.vm comp
    have e3 : U.vm.bare = u.vm.bare := by first | exact hvm.bare_eq | exact hvm.bare_eq.symm
    rw [e3] at e1
    exact e1.symm.trans (e2.trans h2)
  have hkind : k'.kind = .array comp (.array .int) := by rw [he]; exact h4
  have f1 : U.vm.findClass (FieldType.array .int).toString = some comp := by rw [hvm.findClass]; exact h1
  have f2 : U.vm.findClass ("[" ++ (FieldType.array .int).toString) = some c := by rw [hvm.findClass]; exact h5
  unfold va_Nw Cond.before Cond.holds
  simp only [Cond.value]
  rw [f1, Option.bind_some]
  refine (congrArg (fun o : Option Nat => (o.bind (fun c => (U.vm.classes[c]?).map fun (k : Class) => match k.kind with | .array _ ty => decide (ty = FieldType.array .int) && decide (U.vm.findClass ("[" ++ (FieldType.array .int).toString) = some c) | _ => false) == some true)) hi).trans ?_
  simp [hk', hkind, f2]
theorem arr_arr : Cond.arrayOver (.array .int) ∈ lw_tbl := by decide +kernel
theorem cl_mna : Cond.classLink (ownS 5) 11 "[[I" ∈ lw_tbl := by decide +kernel
theorem cp_words : Cond.native arraycopyName ∈ lw_tbl ∧ Cond.static arraycopyName ∈ lw_tbl ∧ Cond.initialized "java/lang/System" ∈ lw_tbl := by decide +kernel
theorem oi_words : Cond.instanceMethod objectInit ∈ lw_tbl ∧ Cond.code objectInit ⟨#[0xb1]⟩ 1 none ∈ lw_tbl := by decide +kernel


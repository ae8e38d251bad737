/-! what the tables say of the links and of the methods: decided row by row -/
theorem lkp_mem {α : Type} : ∀ {l : List (Nat × α)} {i : Nat} {v : α}, lkp l i = some v → (i, v) ∈ l
  | [], _, _, h => by cases h
  | (k, w) :: r, i, v, h => by
    rw [lkp] at h
    split at h
    · rename_i e
      cases h
      rw [e]
      exact List.mem_cons_self
    · exact List.mem_cons_of_mem _ (lkp_mem h)
def flC (o : Nat) (q : Nat × Nat × Nat) : Bool := match vwCl[q.2.1]? with
  | some r => decide (q.2.2 < r.2.2) && decide (Cond.fieldLink (ownS o) q.1 (r.2.1 q.2.2).1 (r.2.1 q.2.2).2.1 (r.2.1 q.2.2).2.2.1 ∈ lw_tbl)
  | none => false
theorem flT_all : ∀ o ∈ List.range 11, ∀ q ∈ flT o, flC o q = true := by decide +kernel
theorem flT_ok {o i x y : Nat} (ho : o < 11) (h : lkp (flT o) i = some (x, y)) : ∃ (C : String) (T : u_T) (M : Nat), vwCl[x]? = some (C, T, M) ∧ y < M ∧ Cond.fieldLink (ownS o) i (T y).1 (T y).2.1 (T y).2.2.1 ∈ gw_tbl := by
  have h1 := flT_all o (List.mem_range.mpr ho) _ (lkp_mem h)
  unfold flC at h1
  dsimp only at h1
  split at h1
  · rename_i r hr
    rw [Bool.and_eq_true] at h1
    exact ⟨r.1, r.2.1, r.2.2, hr, of_decide_eq_true h1.1, gw_in (of_decide_eq_true h1.2) rfl⟩
  · cases h1
def clC (x : Nat) : Bool := match vwCl[x]? with
  | some r => (List.range r.2.2).all (fun k => parseFieldDescriptor (r.2.1 k).2.2.1 == some (tyN x k) && decide (defaultValue (tyN x k) = (dfT x).getD k .null) && decide ((r.2.1 k).1 = r.1)) && (List.range r.2.2).all (fun a => (List.range r.2.2).all (fun b => a == b || !((r.2.1 a).2.1 == (r.2.1 b).2.1))) && decide (Cond.instantiable r.1 r.2.2 ∈ lw_tbl) && decide (Cond.initialized r.1 ∈ lw_tbl) && decide (r.1 = ownS x) && decide ((dfT x).length = r.2.2)
  | none => true
theorem clC_all : ∀ x ∈ List.range 8, clC x = true := by decide +kernel
theorem clW_all : ∀ r ∈ vwCl, ∀ w ∈ u_ws r.1 r.2.1 r.2.2, w ∈ lw_tbl ∧ goodWord w = true := by decide +kernel
theorem dfT_cv : ∀ x ∈ List.range 8, ∀ v ∈ dfT x, v = .null ∨ v = .int 0 := by decide +kernel
theorem kiT_all : ∀ o ∈ List.range 11, ∀ q ∈ kiT o, Cond.constant (ownS o) q.1 (Int32.ofInt (if q.2.2 = 0 then (q.2.1 : Int) else -(q.2.1 : Int))) ∈ lw_tbl := by decide +kernel
theorem klT_all : ∀ o ∈ List.range 11, ∀ q ∈ klT o, Cond.constantLong (ownS o) q.1 (Int64.ofInt (if q.2.2 = 0 then (q.2.1 : Int) else -(q.2.1 : Int))) ∈ lw_tbl := by decide +kernel
theorem sfT_all : ∀ o ∈ List.range 11, ∀ q ∈ sfT o, q.2 < 2 ∧ Cond.fieldLink (ownS o) q.1 RX1 (snm q.2) "[I" ∈ lw_tbl := by decide +kernel
theorem clT_all : ∀ o ∈ List.range 11, ∀ q ∈ clT o, q.2 < 8 ∧ Cond.classLink (ownS o) q.1 (ownS q.2) ∈ lw_tbl := by decide +kernel
theorem arr_int : Cond.arrayClass .int ∈ lw_tbl := by decide +kernel
theorem arr_bool : Cond.arrayClass .boolean ∈ lw_tbl := by decide +kernel
theorem arr_obj : Cond.arrayOver (.object "HawkAsks$Castle") ∈ lw_tbl := by decide +kernel
theorem ao_moved {u U : State} (hvm : u.vm.Alike U.vm) (h : va_Nw (.arrayOver (.array .int)) u) : va_Nw (.arrayOver (.array .int)) U := by
  sorry
theorem arr_arr : Cond.arrayOver (.array .int) ∈ lw_tbl := by decide +kernel
theorem cl_mna : Cond.classLink (ownS 5) 11 "[[I" ∈ lw_tbl := by decide +kernel
theorem cp_words : Cond.native arraycopyName ∈ lw_tbl ∧ Cond.static arraycopyName ∈ lw_tbl ∧ Cond.initialized "java/lang/System" ∈ lw_tbl := by decide +kernel
theorem oi_words : Cond.instanceMethod objectInit ∈ lw_tbl ∧ Cond.code objectInit ⟨#[0xb1]⟩ 1 none ∈ lw_tbl := by decide +kernel


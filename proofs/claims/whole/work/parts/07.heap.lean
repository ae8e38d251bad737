/-! the instructions that touch cells -/
section SH
variable {p : Program} {l : Launch} {e : Env} {R : Room} {s : State} {m : MethodId} {args : Array Value} {below : List Frame} {meth : Method} {c : Code} {Qend : State → Prop} {D : va_G} {cs : Nat → ClassId} {sz : Nat} {sp : Nat → Nat} {sa : aS} {cc : ByteArray} {nL o d N S n0 s0 : Nat} {ini : Bool}
variable {pc : Nat} {L : aL} {st : List Value} {h : aH}
theorem ws_o {a x : Nat} {fs : List Value} (hq : hO h a x = some fs) : (wsH sz sp cs h)[a]? = some (sz + a, .inr (x, fs.map (cv sz sp))) := by
  obtain ⟨h1, h2⟩ := hO_e hq
  rw [wsH_at h1, h2]
  rfl
theorem ws_i {a : Nat} {q : Nat × (Nat → Int32)} (hq : hI h a = some q) : (wsH sz sp cs h)[a]? = some (sz + a, .inl (cs 0, q.1, .inl q.2)) := by
  obtain ⟨h1, h2⟩ := hI_e hq
  rw [wsH_at h1, h2]
  rfl
theorem ws_b {a : Nat} {q : Nat × (Nat → Int32)} (hq : hB h a = some q) : (wsH sz sp cs h)[a]? = some (sz + a, .inl (cs 1, q.1, .inl q.2)) := by
  obtain ⟨h1, h2⟩ := hB_e hq
  rw [wsH_at h1, h2]
  rfl
theorem ws_r {a : Nat} {q : Nat × Nat × (Nat → Option Nat)} (hq : hR h a = some q) : (wsH sz sp cs h)[a]? = some (sz + a, .inl (cs q.1, q.2.1, .inr (.inr (.inr (.inr (fun j => (q.2.2 j).map (sz + ·))))))) := by
  obtain ⟨h1, -, h2⟩ := hR_e hq
  rw [wsH_at h1, h2]
  rfl
/-- one cell of the world changed: the new world -/
theorem hS_P {a : Nat} {x : aC} {H H1 : Heap} (ha : a < h.1) (hP : va_P D vwCl (wsH sz sp cs h) H) (he : va_at D vwCl (sz + a, cE sz sp cs x) H1) (oq : ∀ q : Nat, q ≠ sz + a → H1[q]? = H[q]?) : va_P D vwCl (wsH sz sp cs (hS h a x)) H1 := by
  rw [← wsH_set]
  exact hP.set wsH_D (wsH_at ha) he oq
theorem w_getfield (E : EV p R s m args meth c D cs sz sp sa cc nL o d N S n0 s0 ini) {i x y : Nat} {C : String} {T : u_T} {M : Nat} (hd : decode cc pc = .ok (.getfield i, 3)) (hc : vwCl[x]? = some (C, T, M)) (hk : y < M) (hin : ∀ w ∈ u_ws C T M, w ∈ gw_tbl) (hlk : Cond.fieldLink (ownS o) i (T y).1 (T y).2.1 (T y).2.2.1 ∈ gw_tbl)
    (k : tR st fun a s' => opt (hO h a x) fun fs => opt (fs[y]?) fun v => WPd p l e R s m args below meth c Qend D cs sz sp nL N S n0 s0 (pc + 3) L (v :: s') h) : WPd p l e R s m args below meth c Qend D cs sz sp nL N S n0 s0 pc L st h := by
  obtain ⟨hx, hb, -, ho, ht, hK, -⟩ := E
  obtain ⟨a, s', rfl, k1⟩ := tR_e k
  obtain ⟨fs, hq, k2⟩ := opt_e k1
  obtain ⟨v, hv, k3⟩ := opt_e k2
  intro b1 b2 b3 b4 ls H locs hl hz hP hS
  exact va_get (D := D) (ci := x) (v := cv sz sp v) hx hb ht hin ho hK hP a (ws_o hq) hc y hk (ht _ hlk) (fun _ h9 => h9) (by rw [List.getElem?_map, hv]; rfl) hd (k3 b1 b2 b3 b4 ls H locs hl hz hP hS)
theorem pv_nar {ty : FieldType} {z : Nat} {v : Value} (ht : tagN ty = z) (hv : pvOk z v) : narrow ty (cv sz sp v) = cv sz sp v ∧ fits ty (cv sz sp v) = true := by
  cases v with
  | int n =>
    rcases hv with h0 | ⟨h1, h2⟩
    · subst h0
      cases ty <;> first | exact ⟨rfl, rfl⟩ | (simp [tagN] at ht)
    · subst h1
      cases ty <;> first | (simp [tagN] at ht; done) | (rcases h2 with rfl | rfl <;> exact ⟨rfl, rfl⟩)
  | ref a =>
    have hz : z = 2 := hv
    subst hz
    cases ty <;> first | exact ⟨rfl, rfl⟩ | (simp [tagN] at ht)
  | _ => exact hv.elim
theorem w_putfield (E : EV p R s m args meth c D cs sz sp sa cc nL o d N S n0 s0 ini) {i x y z : Nat} {C : String} {T : u_T} {M : Nat} (ty0 : Nat → FieldType) (hd : decode cc pc = .ok (.putfield i, 3)) (hc : vwCl[x]? = some (C, T, M)) (hk : y < M) (hin : ∀ w ∈ u_ws C T M, w ∈ gw_tbl) (hty : ∀ k, k < M → parseFieldDescriptor (T k).2.2.1 = some (ty0 k)) (hnm : ∀ a, a < M → ∀ b, b < M → a ≠ b → (T a).2.1 ≠ (T b).2.1)
    (hlk : Cond.fieldLink (ownS o) i (T y).1 (T y).2.1 (T y).2.2.1 ∈ gw_tbl) (htg : tagN (ty0 y) = z) (hfin : (T y).2.2.2 = false ∨ ((T y).2.2.2 = true ∧ ini = true ∧ (T y).1 = ownS o))
    {v : Value} {s' : List Value} (k : tR s' fun a s' => opt (hO h a x) fun fs => y < fs.length ∧ pvOk z v ∧ WPd p l e R s m args below meth c Qend D cs sz sp nL N S n0 s0 (pc + 3) L s' (hS h a (.inr (x, fs.set y v)))) : WPd p l e R s m args below meth c Qend D cs sz sp nL N S n0 s0 pc L (v :: s') h := by
  obtain ⟨hx, hb, -, ho, hts, hK, -, -, -, -, -, hini, -⟩ := E
  obtain ⟨a, s', rfl, k1⟩ := tR_e k
  obtain ⟨fs, hq, hlt, hpv, k2⟩ := opt_e k1
  intro b1 b2 b3 b4 ls H locs hl hz hP hS0
  have hnf := pv_nar (sz := sz) (sp := sp) htg hpv
  have hl2 : y < (fs.map (cv sz sp)).length := by rw [List.length_map]; exact hlt
  have hap := va_apart (own := ownS o) hts hin ty0 hty hnm hK hc
  obtain ⟨r, h1, cell, q1, q2, q3, q4⟩ := hP a _ (ws_o hq)
  have hr : r = (C, T, M) := Option.some.inj (h1.symm.trans hc)
  subst hr
  obtain ⟨hSl, hfc, kC, hkC, hkind⟩ := hK.1 x _ hc
  obtain ⟨cf, kf, fi, f, hi, hsl⟩ := hSl y hk
  have hlay := hts _ (hin _ (u_in_lay hk))
  have hst := (u_facts hfc hkC (u_lays hts hin hk) hi).1
  have kk : ∀ H' : Heap, H'[sz + a]? = some (cell.setSlot f.slot (cv sz sp v)) → H'.size = H.size → (∀ q, q ≠ sz + a → H'[q]? = H[q]?) → W p l e R s m args below meth c H' (locs ++ [⟨sz + a, f.slot⟩]) (h.1 - n0) (h.2.1 - s0) Qend (F0 m (pc + 3) ls (s'.map (cv sz sp))) := by
    intro H' e1 e2 e3
    rw [hsl] at e1 ⊢
    refine k2 b1 b2 b3 b4 ls H' _ hl (by rw [e2]; exact hz) (hS_P (hO_e hq).1 hP ?_ e3) (hS0.put e2 e3 (Nat.le_add_right _ _))
    refine ⟨_, hc, t_OB.to (V := updV (vp_V (fs.map (cv sz sp))) y (cv sz sp v)) ⟨_, e1, q2, q3, t_set q4 hap hk (cv sz sp v)⟩ (fun j _ => ?_)⟩
    rw [vp_updV_set hl2, ← List.map_set]
  rcases hfin with hfin | ⟨hfin, hi1, hdecl⟩
  · unfold u_lay at hlay
    rw [if_neg (by rw [hfin]; decide)] at hlay
    have h6 := u_store hfc hkC hkind hlay hi (hty y hk) hnf.1 hnf.2
    exact W.putK hx hb (f := f) ⟨ho, hts _ hlk, ⟨_, _, _, hi⟩, hst⟩ (by rw [q2]; exact h6) q1 q3 (by rw [hsl]; exact k2_hasslot (q4 y hk)) rfl rfl hd kk
  · unfold u_lay at hlay
    rw [if_pos hfin] at hlay
    have hcf : m.cls = cf := by
      obtain ⟨_, _, c', _, _, _, -, -, hf', -, -, -, hown2, -⟩ := Cond.laysFinal_spec hlay
      have e1 : c' = cf := by have := hi.symm.trans hf'; simp at this; exact this.1.symm
      rw [hdecl] at hown2
      rw [← e1]; exact Option.some.inj (ho.symm.trans hown2)
    have h6 := u_fits hfc hkC hkind (Or.inr hlay) hi (hty y hk) hnf.1 hnf.2
    exact W.putFinK hx hb ho (hts _ hlk) hi hst hcf (hini hi1) (by rw [q2]; exact h6) q1 q3 (by rw [hsl]; exact k2_hasslot (q4 y hk)) rfl rfl hd kk
theorem sp_nat {j : UInt32} {x : Nat} (hx : x < 2) (hj : j = UInt32.ofNat x) : j.toNat = x := by
  subst hj
  rcases (show x = 0 ∨ x = 1 by omega) with rfl | rfl <;> rfl
theorem w_getstatic (E : EV p R s m args meth c D cs sz sp sa cc nL o d N S n0 s0 ini) {i x : Nat} (hd : decode cc pc = .ok (.getstatic i, 3)) (hx2 : x < 2) (hlk : Cond.fieldLink (ownS o) i RX1 (snm x) "[I" ∈ gw_tbl) (k : WPd p l e R s m args below meth c Qend D cs sz sp nL N S n0 s0 (pc + 3) L (.float (UInt32.ofNat x) :: st) h) : WPd p l e R s m args below meth c Qend D cs sz sp nL N S n0 s0 pc L st h := by
  obtain ⟨hx, hb, -, ho, hts, hK, -, hZ, -⟩ := E
  intro b1 b2 b3 b4 ls H locs hl hz hP hS
  refine va_gets hx hb (hZ x hx2) hS ho (hts _ hlk) (fun _ q => q) hd ?_
  have := k b1 b2 b3 b4 ls H locs hl hz hP hS
  rw [List.map_cons, cv, sp_nat hx2 rfl] at this
  exact this
theorem w_iald_r (E : EV p R s m args meth c D cs sz sp sa cc nL o d N S n0 s0 ini) (hd : decode cc pc = .ok (.iaload, 1)) {i : Int32} {a : Nat} {s' : List Value} (k : opt (hI h a) fun q => ix i q.1 fun j => WPd p l e R s m args below meth c Qend D cs sz sp nL N S n0 s0 (pc + 1) L (.int (q.2 j) :: s') h) : WPd p l e R s m args below meth c Qend D cs sz sp nL N S n0 s0 pc L (.int i :: .ref a :: s') h := by
  obtain ⟨hx, hb, -, ho, hts, hK, -⟩ := E
  obtain ⟨q, hq, hin, k2⟩ := opt_e k
  intro b1 b2 b3 b4 ls H locs hl hz hP hS
  exact va_iald hx hb hK hP a 0 (ws_i hq) rfl hin hd (k2 b1 b2 b3 b4 ls H locs hl hz hP hS)
theorem w_iald_s (E : EV p R s m args meth c D cs sz sp sa cc nL o d N S n0 s0 ini) (hd : decode cc pc = .ok (.iaload, 1)) {i : Int32} {j : UInt32} {s' : List Value} (k : opt (sa j.toNat) fun q => ix i q.1 fun j => WPd p l e R s m args below meth c Qend D cs sz sp nL N S n0 s0 (pc + 1) L (.int (q.2 j) :: s') h) : WPd p l e R s m args below meth c Qend D cs sz sp nL N S n0 s0 pc L (.int i :: .float j :: s') h := by
  obtain ⟨hx, hb, -, ho, hts, hK, hT, -⟩ := E
  obtain ⟨q, hq, hin, k2⟩ := opt_e k
  intro b1 b2 b3 b4 ls H locs hl hz hP hS
  exact va_ti hx hb (hT _ _ hq) hS hin rfl hd (k2 b1 b2 b3 b4 ls H locs hl hz hP hS)
theorem w_bald (E : EV p R s m args meth c D cs sz sp sa cc nL o d N S n0 s0 ini) (hd : decode cc pc = .ok (.baload, 1)) (k : tI st fun i s' => tR s' fun a s' => opt (hB h a) fun q => ix i q.1 fun j => WPd p l e R s m args below meth c Qend D cs sz sp nL N S n0 s0 (pc + 1) L (.int (q.2 j) :: s') h) : WPd p l e R s m args below meth c Qend D cs sz sp nL N S n0 s0 pc L st h := by
  obtain ⟨hx, hb, -, ho, hts, hK, -⟩ := E
  obtain ⟨i, s', rfl, k1⟩ := tI_e k
  obtain ⟨a, s', rfl, k2⟩ := tR_e k1
  obtain ⟨q, hq, hin, k3⟩ := opt_e k2
  intro b1 b2 b3 b4 ls H locs hl hz hP hS
  exact va_zald hx hb hK hP a 1 (ws_b hq) rfl hin hd (k3 b1 b2 b3 b4 ls H locs hl hz hP hS)
theorem arr_up {cA : ClassId} {n j : Nat} {f : Nat → Int32} {x : Int32} : (vp_cell cA (n, .inl f)).setSlot j (.int x) = vp_cell cA (n, .inl (upd f j x)) := by
  rw [vp_cell_i, vp_cell_i, arrV_store]
  congr 1
  funext q
  by_cases hq : q = j
  · subst hq
    simp [updV, upd]
  · simp [updV, upd, hq]
theorem w_iast (E : EV p R s m args meth c D cs sz sp sa cc nL o d N S n0 s0 ini) (hd : decode cc pc = .ok (.iastore, 1)) (k : tI st fun v s' => tI s' fun i s' => tR s' fun a s' => opt (hI h a) fun q => ix i q.1 fun j => WPd p l e R s m args below meth c Qend D cs sz sp nL N S n0 s0 (pc + 1) L s' (hS h a (.inl (0, q.1, .inl (upd q.2 j v))))) : WPd p l e R s m args below meth c Qend D cs sz sp nL N S n0 s0 pc L st h := by
  obtain ⟨hx, hb, -, ho, hts, hK, -⟩ := E
  obtain ⟨v, s1, rfl, k1⟩ := tI_e k
  obtain ⟨i, s2, rfl, k2⟩ := tI_e k1
  obtain ⟨a, s', rfl, k3⟩ := tR_e k2
  obtain ⟨q, hq, hin, k4⟩ := opt_e k3
  intro b1 b2 b3 b4 ls H locs hl hz hP hS
  refine W.iast hx hb (hP a _ (ws_i hq)) ((hK.2 0 _ rfl).1 q.1 (fun j => .int (q.2 j))) (fun q => by cases q) (by show ¬ (i < 0 ∨ (arrV _ _ _).slots.size ≤ _); rw [arrV_size]; exact hin) rfl rfl hd fun H1 e1 z oq => ?_
  refine k4 b1 b2 b3 b4 ls H1 _ hl (by rw [z]; exact hz) (hS_P (hI_e hq).1 hP ?_ oq) (hS.put z oq (Nat.le_add_right _ _))
  show H1[sz + a]? = some (vp_cell _ _)
  rw [e1]
  exact congrArg some arr_up
theorem w_bast (E : EV p R s m args meth c D cs sz sp sa cc nL o d N S n0 s0 ini) (hd : decode cc pc = .ok (.bastore, 1)) (k : tI st fun v s' => tI s' fun i s' => tR s' fun a s' => opt (hB h a) fun q => ix i q.1 fun j => WPd p l e R s m args below meth c Qend D cs sz sp nL N S n0 s0 (pc + 1) L s' (hS h a (.inl (1, q.1, .inl (upd q.2 j (vp_nar .boolean v)))))) : WPd p l e R s m args below meth c Qend D cs sz sp nL N S n0 s0 pc L st h := by
  obtain ⟨hx, hb, -, ho, hts, hK, -⟩ := E
  obtain ⟨v, s1, rfl, k1⟩ := tI_e k
  obtain ⟨i, s2, rfl, k2⟩ := tI_e k1
  obtain ⟨a, s', rfl, k3⟩ := tR_e k2
  obtain ⟨q, hq, hin, k4⟩ := opt_e k3
  intro b1 b2 b3 b4 ls H locs hl hz hP hS
  refine W.zast hx hb (hP a _ (ws_b hq)) ((hK.2 1 _ rfl).1 q.1 (fun j => .int (q.2 j))) (fun q => by cases q) (by show ¬ (i < 0 ∨ (arrV _ _ _).slots.size ≤ _); rw [arrV_size]; exact hin) rfl rfl hd fun H1 e1 z oq => ?_
  refine k4 b1 b2 b3 b4 ls H1 _ hl (by rw [z]; exact hz) (hS_P (hB_e hq).1 hP ?_ oq) (hS.put z oq (Nat.le_add_right _ _))
  show H1[sz + a]? = some (vp_cell _ _)
  rw [e1]
  exact congrArg some (arr_up (x := vp_nar .boolean v))
theorem w_aald (E : EV p R s m args meth c D cs sz sp sa cc nL o d N S n0 s0 ini) (hd : decode cc pc = .ok (.aaload, 1)) (k : tI st fun i s' => tR s' fun a s' => opt (hR h a) fun q => ix i q.2.1 fun j => opt (q.2.2 j) fun v => WPd p l e R s m args below meth c Qend D cs sz sp nL N S n0 s0 (pc + 1) L (.ref v :: s') h) : WPd p l e R s m args below meth c Qend D cs sz sp nL N S n0 s0 pc L st h := by
  obtain ⟨hx, hb, -, ho, hts, hK, -⟩ := E
  obtain ⟨i, s1, rfl, k1⟩ := tI_e k
  obtain ⟨a, s', rfl, k2⟩ := tR_e k1
  obtain ⟨q, hq, hin, k3⟩ := opt_e k2
  obtain ⟨v, hv, k4⟩ := opt_e k3
  intro b1 b2 b3 b4 ls H locs hl hz hP hS
  have hlt : i.toNatClampNeg < q.2.1 := Nat.not_le.mp fun q => hin (Or.inr q)
  have hk := k4 b1 b2 b3 b4 ls H locs hl hz hP hS
  have hcell := hP a _ (ws_r hq)
  have hrd : (vp_cell (cs q.1) (q.2.1, .inr (.inr (.inr (.inr (fun j => (q.2.2 j).map (sz + ·))))))).slots[i.toNatClampNeg]? = some (.ref (sz + v)) := by
    show (arrV _ _ _).slots[_]? = _
    rw [arrV_read _ _ hlt]
    show some (va_rf (Option.map (fun x => sz + x) (q.2.2 i.toNatClampNeg))) = _
    rw [hv]
    rfl
  have hsz : ¬ (i < 0 ∨ (vp_cell (cs q.1) (q.2.1, .inr (.inr (.inr (.inr (fun j => (q.2.2 j).map (sz + ·))))))).slots.size ≤ i.toNatClampNeg) := by
    show ¬ (i < 0 ∨ (arrV _ _ _).slots.size ≤ _)
    rw [arrV_size]
    exact hin
  rcases (hR_e hq).2.1 with h2 | h3
  · exact W.aald (v := .ref (sz + v)) (ty := .object "HawkAsks$Castle") hx hb hcell (by have := (hK.2 2 _ rfl).1 q.2.1 (fun j => va_rf ((q.2.2 j).map (sz + ·))); rw [h2]; exact this) rfl (fun q => by cases q) hsz hrd rfl rfl hd hk
  · exact W.aald (v := .ref (sz + v)) (ty := .array .int) hx hb hcell (by have := (hK.2 3 _ rfl).1 q.2.1 (fun j => va_rf ((q.2.2 j).map (sz + ·))); rw [h3]; exact this) rfl (fun q => by cases q) hsz hrd rfl rfl hd hk
theorem w_aast (E : EV p R s m args meth c D cs sz sp sa cc nL o d N S n0 s0 ini) (hd : decode cc pc = .ok (.aastore, 1)) (k : tR st fun v s' => tI s' fun i s' => tR s' fun a s' => opt (hR h a) fun q => opt (hO h v 2) fun _ => q.1 = 2 ∧ ix i q.2.1 fun j => WPd p l e R s m args below meth c Qend D cs sz sp nL N S n0 s0 (pc + 1) L s' (hS h a (.inl (2, q.2.1, .inr (.inr (.inr (.inr (va_up q.2.2 j (some v))))))))) : WPd p l e R s m args below meth c Qend D cs sz sp nL N S n0 s0 pc L st h := by
  obtain ⟨hx, hb, -, ho, hts, hK, -⟩ := E
  obtain ⟨v, s1, rfl, k1⟩ := tR_e k
  obtain ⟨i, s2, rfl, k2⟩ := tI_e k1
  obtain ⟨a, s', rfl, k3⟩ := tR_e k2
  obtain ⟨q, hq, k4⟩ := opt_e k3
  obtain ⟨fs, hv, h2, hin, k5⟩ := opt_e k4
  intro b1 b2 b3 b4 ls H locs hl hz hP hS
  have hlt : i.toNatClampNeg < q.2.1 := Nat.not_le.mp fun q => hin (Or.inr q)
  have h0 : ¬ i < 0 := fun q => hin (Or.inl q)
  obtain ⟨r', hr', cellV, g1, g2, g3, -⟩ := hP v _ (ws_o hv)
  have hcls := (hK.1 2 _ rfl).2
  obtain ⟨kA, comp, kk1, kk2, kk3, -⟩ := (hK.2 2 _ rfl).2
  have hcomp : comp = D.1 2 := Option.some.inj (kk3.symm.trans hcls.1)
  subst hcomp
  obtain ⟨kC, hkC, -⟩ := hcls.2
  have hcell := hP a _ (ws_r hq)
  rw [h2] at hcell
  refine W.aast hx hb hcell (fun q h => by cases h) (fun h => by cases h) kk1 kk2 rfl hkC ⟨h0, by show _ < (arrV _ _ _).slots.size; rw [arrV_size]; exact hlt⟩ g1 (fun q h => by rw [g3] at h; cases h) (by rw [g2]; exact hkC) (by rw [g2]; exact va_assign hcls) rfl rfl hd fun H1 e1 z oq => ?_
  refine k5 b1 b2 b3 b4 ls H1 _ hl (by rw [z]; exact hz) (hS_P (hR_e hq).1 hP ?_ oq) (hS.put z oq (Nat.le_add_right _ _))
  show H1[sz + a]? = some (vp_cell _ _)
  rw [e1, vp_cell_q, vp_cell_q, arrV_store]
  congr 2
  funext q'
  by_cases hq' : q' = i.toNatClampNeg
  · subst hq'
    simp [updV, va_up, va_rf]
  · simp [updV, va_up, hq']
theorem w_alen_r (E : EV p R s m args meth c D cs sz sp sa cc nL o d N S n0 s0 ini) (hd : decode cc pc = .ok (.arraylength, 1)) {a : Nat} {s' : List Value} (k : opt (hI h a) fun q => WPd p l e R s m args below meth c Qend D cs sz sp nL N S n0 s0 (pc + 1) L (.int (Int32.ofNat q.1) :: s') h) : WPd p l e R s m args below meth c Qend D cs sz sp nL N S n0 s0 pc L (.ref a :: s') h := by
  obtain ⟨hx, hb, -, ho, hts, hK, -⟩ := E
  obtain ⟨q, hq, k2⟩ := opt_e k
  intro b1 b2 b3 b4 ls H locs hl hz hP hS
  exact va_alen hx hb hK hP a 0 (ws_i hq) (ty := .int) rfl rfl hd (k2 b1 b2 b3 b4 ls H locs hl hz hP hS)
theorem w_alen_s (E : EV p R s m args meth c D cs sz sp sa cc nL o d N S n0 s0 ini) (hd : decode cc pc = .ok (.arraylength, 1)) {j : UInt32} {s' : List Value} (k : opt (sa j.toNat) fun q => WPd p l e R s m args below meth c Qend D cs sz sp nL N S n0 s0 (pc + 1) L (.int (Int32.ofNat q.1) :: s') h) : WPd p l e R s m args below meth c Qend D cs sz sp nL N S n0 s0 pc L (.float j :: s') h := by
  obtain ⟨hx, hb, -, ho, hts, hK, hT, -⟩ := E
  obtain ⟨q, hq, k2⟩ := opt_e k
  intro b1 b2 b3 b4 ls H locs hl hz hP hS
  exact va_tlen hx hb (hT _ _ hq) hS rfl hd (k2 b1 b2 b3 b4 ls H locs hl hz hP hS)
/-- one cell more -/
theorem hN_P {j : Nat} {x : aC} {H H1 : Heap} (hz : H.size = sz + h.1) (hP : va_P D vwCl (wsH sz sp cs h) H) (he : va_at D vwCl (sz + h.1, cE sz sp cs x) H1) (oq : ∀ q : Nat, q < sz + h.1 → H1[q]? = H[q]?) : va_P D vwCl (wsH sz sp cs (hN h j x)) H1 := by
  intro k q hq
  obtain ⟨hk, rfl⟩ := wsH_inv hq
  have hk' : k < h.1 + 1 := hk
  by_cases he2 : k = h.1
  · subst he2
    simpa [hN] using he
  · have hk2 : k < h.1 := by omega
    have := (hP k _ (wsH_at hk2)).kept (H1 := H1) (oq (sz + k) (by omega))
    simpa [hN, he2] using this
theorem hN_S {H H1 : Heap} {locs : List Loc} {n : Nat} (hS : va_S (fun q => sz ≤ q) s.heap H locs) (z : H.size ≤ H1.size) (hn : H.size = n) (oq : ∀ q : Nat, q < n → H1[q]? = H[q]?) : va_S (fun q => sz ≤ q) s.heap H1 locs :=
  ⟨Nat.le_trans hS.1 z, fun x h1 h2 => (oq x (by rw [← hn]; exact Nat.lt_of_lt_of_le h1 hS.1)).trans (hS.2.1 x h1 h2), hS.2.2⟩
theorem w_new (E : EV p R s m args meth c D cs sz sp sa cc nL o d N S n0 s0 ini) {i x : Nat} {C : String} {T : u_T} {M : Nat} (ty0 : Nat → FieldType) (hd : decode cc pc = .ok (.new i, 3)) (hc : vwCl[x]? = some (C, T, M)) (hin : ∀ w ∈ u_ws C T M, w ∈ gw_tbl) (hty : ∀ k, k < M → parseFieldDescriptor (T k).2.2.1 = some (ty0 k)) (hcl : Cond.classLink (ownS o) i C ∈ gw_tbl) (hins : Cond.instantiable C M ∈ gw_tbl) (hini : Cond.initialized C ∈ gw_tbl)
    (hfs : ∀ j, j < M → defaultValue (ty0 j) = vp_V ((dfT x).map (cv sz sp)) j) (k : h.1 + 1 ≤ N ∧ h.2.1 + M ≤ S ∧ WPd p l e R s m args below meth c Qend D cs sz sp nL N S n0 s0 (pc + 3) L (.ref h.1 :: st) (hN h M (.inr (x, dfT x)))) : WPd p l e R s m args below meth c Qend D cs sz sp nL N S n0 s0 pc L st h := by
  obtain ⟨hx, hb, -, ho, hts, hK, -, -, -, ⟨hN1, hN2⟩, -⟩ := E
  obtain ⟨c1, c2, k⟩ := k
  intro b1 b2 b3 b4 ls H locs hl hz hP hS
  have hKn := hK.1 x _ hc
  refine W.newcK hx hb ho (hts _ hcl) (hts _ hins) (hts _ hini) rfl hd (by omega) (by omega) hKn.2.1 hz fun H1 kC hkC e1 z1 o1 => ?_
  have kk := k (by show n0 ≤ h.1 + 1; omega) (by show h.1 + 1 ≤ N; omega) (by show s0 ≤ h.2.1 + M; omega) (by show h.2.1 + M ≤ S; omega) ls H1 locs hl z1 (hN_P hz hP ⟨_, hc, (u_born ty0 hts hin hKn hkC e1 hty).to hfs⟩ o1) (hN_S hS (by omega) hz o1)
  rw [show (hN h M (.inr (x, dfT x))).1 - n0 = h.1 - n0 + 1 by show h.1 + 1 - n0 = _; omega, show (hN h M (.inr (x, dfT x))).2.1 - s0 = h.2.1 - s0 + M by show h.2.1 + M - s0 = _; omega] at kk
  exact kk
theorem w_newa (E : EV p R s m args meth c D cs sz sp sa cc nL o d N S n0 s0 ini) {t : ArrayType} {tg : Nat} (hd : decode cc pc = .ok (.newarray t, 2)) (htg : (t = .int ∧ tg = 0) ∨ (t = .boolean ∧ tg = 1)) (hw : Cond.arrayClass (newarray.typeOf t) ∈ gw_tbl) {n : Int32} {s' : List Value}
    (k : ¬ n < 0 ∧ n.toNatClampNeg ≤ 1000 ∧ h.1 + 1 ≤ N ∧ h.2.1 + n.toNatClampNeg ≤ S ∧ WPd p l e R s m args below meth c Qend D cs sz sp nL N S n0 s0 (pc + 2) L (.ref h.1 :: s') (hN h n.toNatClampNeg (.inl (tg, n.toNatClampNeg, .inl (fun _ => 0))))) : WPd p l e R s m args below meth c Qend D cs sz sp nL N S n0 s0 pc L (.int n :: s') h := by
  obtain ⟨hx, hb, -, ho, hts, hK, -, -, -, ⟨hN1, hN2⟩, -⟩ := E
  obtain ⟨c0, c00, c1, c2, k⟩ := k
  intro b1 b2 b3 b4 ls H locs hl hz hP hS
  refine va_newaK hx hb (hts _ hw) (g := F0 m pc ls (.int n :: s'.map (cv sz sp))) rfl hd rfl c0 rfl (by rcases htg with ⟨rfl, -⟩ | ⟨rfl, -⟩ <;> simp [newarray.typeOf, componentBytes] <;> omega) (by omega) (by omega) hz fun H1 cA e1 z1 o1 hAr hNm => ?_
  have hcs : cA = cs tg := by
    rcases htg with ⟨rfl, rfl⟩ | ⟨rfl, rfl⟩
    · exact Option.some.inj (hNm.symm.trans (hK.2 0 _ rfl).2)
    · exact Option.some.inj (hNm.symm.trans (hK.2 1 _ rfl).2)
  have kk := k (by show n0 ≤ h.1 + 1; omega) (by show h.1 + 1 ≤ N; omega) (by show s0 ≤ h.2.1 + n.toNatClampNeg; omega) (by show h.2.1 + n.toNatClampNeg ≤ S; omega) ls H1 locs hl z1 (hN_P hz hP (show H1[sz + h.1]? = some (vp_cell (cs tg) (n.toNatClampNeg, .inl (fun _ => 0))) by rw [e1, hcs, vp_cell_i]; rcases htg with ⟨rfl, -⟩ | ⟨rfl, -⟩ <;> rfl) o1) (hN_S hS (by omega) hz o1)
  rw [show (hN h n.toNatClampNeg (.inl (tg, n.toNatClampNeg, .inl (fun _ => 0)))).1 - n0 = h.1 - n0 + 1 by show h.1 + 1 - n0 = _; omega, show (hN h n.toNatClampNeg (.inl (tg, n.toNatClampNeg, .inl (fun _ => 0)))).2.1 - s0 = h.2.1 - s0 + n.toNatClampNeg by show h.2.1 + n.toNatClampNeg - s0 = _; omega] at kk
  exact kk
theorem w_anew (E : EV p R s m args meth c D cs sz sp sa cc nL o d N S n0 s0 ini) {i : Nat} (hd : decode cc pc = .ok (.anewarray i, 3)) (hcl : Cond.classLink (ownS o) i "HawkAsks$Castle" ∈ gw_tbl) {n : Int32} {s' : List Value}
    (k : ¬ n < 0 ∧ n.toNatClampNeg ≤ 1000 ∧ h.1 + 1 ≤ N ∧ h.2.1 + n.toNatClampNeg ≤ S ∧ WPd p l e R s m args below meth c Qend D cs sz sp nL N S n0 s0 (pc + 3) L (.ref h.1 :: s') (hN h n.toNatClampNeg (.inl (2, n.toNatClampNeg, .inr (.inr (.inr (.inr (fun _ => none)))))))) : WPd p l e R s m args below meth c Qend D cs sz sp nL N S n0 s0 pc L (.int n :: s') h := by
  obtain ⟨hx, hb, -, ho, hts, hK, -, -, -, ⟨hN1, hN2⟩, -, -, -, hov, -⟩ := E
  obtain ⟨c0, c00, c1, c2, k⟩ := k
  intro b1 b2 b3 b4 ls H locs hl hz hP hS
  refine W.anew hx hb ho (hts _ hcl) hov (g := F0 m pc ls (.int n :: s'.map (cv sz sp))) rfl hd rfl c0 (by omega) (by omega) (by omega) fun cA kA comp f1 f2 f3 f4 => ?_
  have hcs : cA = cs 2 := by
    obtain ⟨_, _, -, -, -, g4⟩ := (hK.2 2 _ rfl).2
    exact Option.some.inj (f1.symm.trans g4)
  generalize hH1 : H.push ({ cls := cA, slots := Array.replicate n.toNatClampNeg .null, vm := .none } : Cell) = H1
  have z1 : H1.size = H.size + 1 := by rw [← hH1, Array.size_push]
  have e1 : H1[H.size]? = some (arrV cA n.toNatClampNeg (fun _ => .null)) := by rw [← hH1, Array.getElem?_push_size, ← arrV_new]
  have o1 : ∀ q : Nat, q < H.size → H1[q]? = H[q]? := fun q hq => by rw [← hH1, Array.getElem?_push, if_neg (Nat.ne_of_lt hq)]
  rw [hz] at e1 z1 o1
  have kk := k (by show n0 ≤ h.1 + 1; omega) (by show h.1 + 1 ≤ N; omega) (by show s0 ≤ h.2.1 + n.toNatClampNeg; omega) (by show h.2.1 + n.toNatClampNeg ≤ S; omega) ls H1 locs hl z1 (hN_P hz hP (show H1[sz + h.1]? = some (vp_cell (cs 2) (n.toNatClampNeg, .inr (.inr (.inr (.inr (fun _ => none)))))) by rw [e1, hcs, vp_cell_q]; rfl) o1) (hN_S hS (by omega) hz o1)
  rw [show (hN h n.toNatClampNeg (.inl (2, n.toNatClampNeg, .inr (.inr (.inr (.inr (fun _ => none))))))).1 - n0 = h.1 - n0 + 1 by show h.1 + 1 - n0 = _; omega, show (hN h n.toNatClampNeg (.inl (2, n.toNatClampNeg, .inr (.inr (.inr (.inr (fun _ => none))))))).2.1 - s0 = h.2.1 - s0 + n.toNatClampNeg by show h.2.1 + n.toNatClampNeg - s0 = _; omega] at kk
  have hz' : Value.ref H.size = .ref (sz + h.1) := by rw [hz]
  rw [hz']
  exact kk
theorem outer_row (c0 : ClassId) (M h0 : Nat) : ∀ i : Nat, Jvm.Free.Multi.outerC c0 M h0 i = arrV c0 M (fun j => va_rf (if j < i then some (h0 + 1 + j) else none))
  | 0 => by
    show ({ cls := c0, slots := Array.replicate M .null, vm := .none } : Cell) = _
    rw [arrV_new]
    rfl
  | i + 1 => by
    show (Jvm.Free.Multi.outerC c0 M h0 i).setSlot i (.ref (h0 + 1 + i)) = _
    rw [outer_row c0 M h0 i, arrV_store]
    congr 1
    funext j
    by_cases hj : j = i
    · subst hj
      simp [updV, va_rf]
    · simp only [updV, hj, if_false]
      by_cases h1 : j < i
      · rw [if_pos h1, if_pos (by omega)]
      · rw [if_neg h1, if_neg (by omega)]
theorem w_mna (E : EV p R s m args meth c D cs sz sp sa cc nL o d N S n0 s0 ini) {i : Nat} (hd : decode cc pc = .ok (.multianewarray i 2, 4)) (hcl : Cond.classLink (ownS o) i "[[I" ∈ gw_tbl) (hw : Cond.arrayClass .int ∈ gw_tbl) {n k' : Int32} {s' : List Value}
    (k : ¬ n < 0 ∧ ¬ k' < 0 ∧ n.toNatClampNeg ≤ 1000 ∧ k'.toNatClampNeg ≤ 1000 ∧ h.1 + (1 + n.toNatClampNeg) ≤ N ∧ h.2.1 + (n.toNatClampNeg + n.toNatClampNeg * k'.toNatClampNeg) ≤ S ∧ WPd p l e R s m args below meth c Qend D cs sz sp nL N S n0 s0 (pc + 4) L (.ref h.1 :: s') (hM h n.toNatClampNeg k'.toNatClampNeg)) : WPd p l e R s m args below meth c Qend D cs sz sp nL N S n0 s0 pc L (.int k' :: .int n :: s') h := by
  obtain ⟨hx, hb, -, ho, hts, hK, -, -, -, ⟨hN1, hN2⟩, -, -, -, -, hov, -⟩ := E
  obtain ⟨c0, c00, c1, c2, c3, c4, k⟩ := k
  intro b1 b2 b3 b4 ls H locs hl hz hP hS
  intro T hT Xs
  obtain ⟨vm₁, cA, comp, -, fA, fC, hO, -, X', step⟩ := Jvm.Stand.multianewarray2F Xs hx ho (hts _ hcl) hov (hts _ hw) (g := F0 m pc ls (.int k' :: .int n :: s'.map (cv sz sp))) rfl (by rw [hb]; exact hd) rfl c0 c00 (by omega) (by simp [componentBytes]; omega) (by omega) rfl rfl (by omega) (by omega)
  have ec : cA = cs 3 := Option.some.inj (fA.symm.trans (hK.2 3 _ rfl).2)
  have ec2 : comp = cs 0 := Option.some.inj (fC.symm.trans (hK.2 0 _ rfl).2)
  subst ec; subst ec2
  generalize hF : Jvm.Free.Multi.fill (T.setVm vm₁) (cs 3) (cs 0) n.toNatClampNeg k'.toNatClampNeg (defaultValue .int) n.toNatClampNeg = F at X' step
  have hTh : (T.setVm vm₁).heap = H := hT
  obtain ⟨f1, f2, -, -⟩ := Jvm.Free.Multi.fill_facts (T.setVm vm₁) (cs 3) (cs 0) n.toNatClampNeg k'.toNatClampNeg (defaultValue .int) n.toNatClampNeg
  rw [hF, hTh] at f1 f2
  have hold : ∀ x : Nat, x < H.size → F.heap[x]? = H[x]? := fun x hx => by
    have := Jvm.Free.Multi.fill_old (T.setVm vm₁) (cs 3) (cs 0) n.toNatClampNeg k'.toNatClampNeg (defaultValue .int) (a := x) (by rw [hTh]; exact hx) n.toNatClampNeg
    rw [hF, hTh] at this
    exact this
  have hrow : ∀ j : Nat, j < n.toNatClampNeg → F.heap[H.size + 1 + j]? = some (vp_cell (cs 0) (k'.toNatClampNeg, .inl (fun _ => 0))) := fun j hj => by
    have := Jvm.Free.Multi.fill_inner (T.setVm vm₁) (cs 3) (cs 0) n.toNatClampNeg k'.toNatClampNeg (defaultValue .int) n.toNatClampNeg j hj
    rw [hF, hTh] at this
    rw [this, vp_cell_i]
    exact congrArg some (arrV_new _ _ _)
  have hout : Jvm.Free.Multi.outerC (cs 3) n.toNatClampNeg H.size n.toNatClampNeg = vp_cell (cs 3) (n.toNatClampNeg, .inr (.inr (.inr (.inr (fun j => (if j < n.toNatClampNeg then some (h.1 + 1 + j) else none).map (sz + ·)))))) := by
    rw [vp_cell_q, outer_row]
    congr 1
    funext j
    by_cases hj : j < n.toNatClampNeg
    · rw [if_pos hj, if_pos hj, hz]
      show Value.ref (sz + h.1 + 1 + j) = Value.ref (sz + (h.1 + 1 + j))
      rw [show sz + h.1 + 1 + j = sz + (h.1 + 1 + j) by omega]
    · rw [if_neg hj, if_neg hj]
      rfl
  rw [hout] at f2
  have hP1 : va_P D vwCl (wsH sz sp cs (hM h n.toNatClampNeg k'.toNatClampNeg)) F.heap := by
    intro k9 q hq
    obtain ⟨hk9, rfl⟩ := wsH_inv hq
    have hk9' : k9 < h.1 + 1 + n.toNatClampNeg := hk9
    by_cases h1 : k9 = h.1
    · subst h1
      have : (hM h n.toNatClampNeg k'.toNatClampNeg).2.2 h.1 = .inl (3, n.toNatClampNeg, .inr (.inr (.inr (.inr (fun i => if i < n.toNatClampNeg then some (h.1 + 1 + i) else none))))) := by simp [hM]
      rw [this]
      show F.heap[sz + h.1]? = some _
      rw [← hz]
      exact f2
    · by_cases h2 : h.1 < k9
      · have : (hM h n.toNatClampNeg k'.toNatClampNeg).2.2 k9 = .inl (0, k'.toNatClampNeg, .inl (fun _ => 0)) := by simp [hM, h1, h2]
        rw [this]
        show F.heap[sz + k9]? = some _
        have e9 : sz + k9 = H.size + 1 + (k9 - h.1 - 1) := by omega
        rw [e9]
        exact hrow _ (by omega)
      · have : (hM h n.toNatClampNeg k'.toNatClampNeg).2.2 k9 = h.2.2 k9 := by simp [hM, h1, h2]
        rw [this]
        exact (hP k9 _ (wsH_at (by omega))).kept (hold (sz + k9) (by omega))
  have kk := k (by show n0 ≤ h.1 + 1 + n.toNatClampNeg; omega) (by show h.1 + 1 + n.toNatClampNeg ≤ N; omega) (by show s0 ≤ h.2.1 + n.toNatClampNeg + n.toNatClampNeg * k'.toNatClampNeg; omega) (by show h.2.1 + n.toNatClampNeg + n.toNatClampNeg * k'.toNatClampNeg ≤ S; omega) ls F.heap locs hl (by rw [f1, hz]; show _ = sz + (h.1 + 1 + n.toNatClampNeg); omega) hP1 (hN_S hS (by rw [f1]; omega) rfl hold)
  rw [show (hM h n.toNatClampNeg k'.toNatClampNeg).1 - n0 = h.1 - n0 + 1 + n.toNatClampNeg by show h.1 + 1 + n.toNatClampNeg - n0 = _; omega, show (hM h n.toNatClampNeg k'.toNatClampNeg).2.1 - s0 = h.2.1 - s0 + n.toNatClampNeg + n.toNatClampNeg * k'.toNatClampNeg by show h.2.1 + n.toNatClampNeg + n.toNatClampNeg * k'.toNatClampNeg - s0 = _; omega] at kk
  obtain ⟨t, a1, b1⟩ := kk F rfl X'
  refine ⟨t, step t ?_, b1⟩
  have e : T.heap.size = sz + h.1 := by rw [hT, hz]
  rw [e]
  exact a1
end SH

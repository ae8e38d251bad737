/-! calls; then each method that the small machine runs is met -/
def rmd (d mc ms : Nat) : Room := { frames := d, cells := mc, slots := ms, locals := 64 * d }
def PcA (D : va_G) (cs : Nat → ClassId) (sz : Nat) (sp : Nat → Nat) (as : List Value) (h : aH) : Array Value → State → Prop := fun v U =>
  v = (as.map (cv sz sp)).toArray ∧ U.heap.size = sz + h.1 ∧ va_P D vwCl (wsH sz sp cs h) U.heap ∧ va_K D vwCl (tyl cs) U ∧ (∀ j q, sa0 j = some q → va_T .int (sp j) q.1 (fun i => .int (q.2 i)) (fun q => sz ≤ q) U U.heap) ∧ (∀ j, j < 2 → va_Z RX1 (snm j) "[I" (.ref (sp j)) (fun q => sz ≤ q) U U.heap) ∧
  (∀ w ∈ lw_tbl, isN w = true → va_Nw w U) ∧ va_AO "HawkAsks$Castle" U ∧ va_Nw (.arrayOver (.array .int)) U
def QcA (D : va_G) (cs : Nat → ClassId) (sz : Nat) (sp : Nat → Nat) (N S : Nat) (h : aH) (Q : aQ) : Array Value → State → Outcome → State → Prop := fun _ st oc t =>
  (∃ (r : Option Value) (h' : aH), oc = .returned (r.map (cv sz sp)) ∧ Q r h' ∧ h.1 ≤ h'.1 ∧ h'.1 ≤ N ∧ h.2.1 ≤ h'.2.1 ∧ h'.2.1 ≤ S ∧ t.heap.size = sz + h'.1 ∧ va_P D vwCl (wsH sz sp cs h') t.heap) ∧ va_F (fun q => sz ≤ q) st t
def FS (l : Launch) (D : va_G) (cs : Nat → ClassId) (sz : Nat) (sp : Nat → Nat) (d : Nat) (F : aF) : Prop := ∀ (N S k : Nat) (as : List Value) (h : aH) (Q : aQ), F N S k as h Q → h.1 ≤ N → h.2.1 ≤ S →
  ∀ r : mR, mtab[k]? = some r → Met l r.1 (Cond.code r.1 r.2.1 r.2.2.1 r.2.2.2.1 :: gw_tbl) (rmd d (N - h.1) (S - h.2.1)) (PcA D cs sz sp as h) (QcA D cs sz sp N S h Q) (N - h.1) (S - h.2.1) (fun q => sz ≤ q)
theorem cat_sum : ∀ l : List Value, (l.map fun v => v.category).sum ≤ 2 * l.length
  | [] => by simp
  | v :: r => by
    have h1 := cat_sum r
    have h2 : v.category ≤ 2 := by cases v <;> simp [Value.category]
    simp only [List.map_cons, List.sum_cons, List.length_cons]
    omega
theorem isN_warm {s U : State} {w : Cond} (hW : s.WarmedH U.vm) (hn : isN w = true) (h : va_Nw w s) : va_Nw w U := by
  cases w <;> first | exact va_Nw.warmM hW h | (simp [isN] at hn)
theorem good_gw : GoodIn gw_tbl gw_tbl := fun w h => ⟨h, good_of_word (List.mem_filter.mp h).2⟩
section SC
variable {p : Program} {l : Launch} {e : Env} {R : Room} {s : State} {m : MethodId} {args : Array Value} {below : List Frame} {meth : Method} {c : Code} {Qend : State → Prop} {D : va_G} {cs : Nat → ClassId} {sz : Nat} {sp : Nat → Nat} {sa : aS} {cc : ByteArray} {nL o d N S n0 s0 : Nat} {ini : Bool}
variable {pc : Nat} {L : aL} {st : List Value} {h : aH} {F : aF}
theorem pc_blind {as : List Value} : FrameBlind (PcA D cs sz sp as h) := by
  intro a U g mk q
  obtain ⟨q1, q2, q3, q4, q5, q6, q7, q8, q9⟩ := q
  refine ⟨q1, q2, q3, va_K.moved (u := U) (U := U.calling g mk a) (Vm.Alike.refl U.vm) q4, fun j q hq => va_T.moved (u := U) (U := U.calling g mk a) (Vm.Alike.refl U.vm) (q5 j q hq), fun j hj => va_Z.moved (u := U) (U := U.calling g mk a) (Vm.Alike.refl U.vm) (q6 j hj), fun w hw hn => ?_, va_AO.moved (u := U) (U := U.calling g mk a) (Vm.Alike.refl U.vm) q8, ao_moved (u := U) (U := U.calling g mk a) (Vm.Alike.refl U.vm) q9⟩
  have h1 := q7 w hw hn
  cases w <;> first | exact va_Nw.same rfl (u := U) (U := U.calling g mk a) rfl h1 | (simp [isN] at hn)
theorem pc_pre (E : EV p R s m args meth c D cs sz sp sa cc nL o d N S n0 s0 ini) {as : List Value} {H : Heap} {locs : List Loc} (hz : H.size = sz + h.1) (hP : va_P D vwCl (wsH sz sp cs h) H) (hS : va_S (fun q => sz ≤ q) s.heap H locs) : ∀ U : State, U.heap = H → s.WarmedH U.vm → PcA D cs sz sp as h (as.map (cv sz sp)).toArray U := by
  obtain ⟨hx, hb, -, ho, hts, hK, hT, hZ, -, -, -, -, hn, hao, haa, hsa⟩ := E
  intro U hU hW
  refine ⟨rfl, by rw [hU]; exact hz, by rw [hU]; exact hP, va_K.moved hW.alike hK, fun j q hq => ?_, fun j hj => ?_, fun w hw h1 => isN_warm hW h1 (hn w hw h1), va_AO.moved hW.alike hao, ao_moved hW.alike haa⟩
  · exact (va_T.moved hW.alike (hT j q (hsa j q hq))).kept (fun a h1 h2 => by rw [hU]; exact hS.2.1 a h1 h2)
  · exact (va_Z.moved hW.alike (hZ j hj)).kept (fun a h1 h2 => by rw [hU]; exact hS.2.1 a h1 h2)
/-- behind a call -/
theorem w_aft {mc ms N' S' : Nat} {Q : aQ} {a : Array Value} {H : Heap} {locs : List Loc} {ls : Array Slot} {st0 rest : List Value}
    (hr : va_Run p l e R s m args below meth c H locs (h.1 - n0) (h.2.1 - s0) mc ms (F0 m pc ls st0) rest (QcA D cs sz sp N' S' h Q a) (fun q => sz ≤ q)) (hS : va_S (fun q => sz ≤ q) s.heap H locs)
    (kk : ∀ (r : Option Value) (h' : aH) (H1 : Heap) (locs1 : List Loc), Q r h' → h.1 ≤ h'.1 → h'.1 ≤ N' → h.2.1 ≤ h'.2.1 → h'.2.1 ≤ S' → H1.size = sz + h'.1 → va_P D vwCl (wsH sz sp cs h') H1 → va_S (fun q => sz ≤ q) s.heap H1 locs1 → W p l e R s m args below meth c H1 locs1 (h.1 - n0 + mc) (h.2.1 - s0 + ms) Qend (F0 m (pc + 3) ls ((r.map (cv sz sp)).toList ++ rest))) :
    W p l e R s m args below meth c H locs (h.1 - n0) (h.2.1 - s0) Qend (F0 m pc ls st0) := by
  intro T hT X
  obtain ⟨v, st₀, t, T', L', h0, X', hL, e1, e2, ⟨⟨r, h', hv, hq, c1, c2, c3, c4, hz, hP⟩, hF1, hF2⟩, stp⟩ := hr T hT X
  cases hv
  rw [h0] at hF1 hF2
  have hS1 : va_S (fun q => sz ≤ q) s.heap T'.heap (locs ++ L') := by
    rw [e1]
    refine ⟨Nat.le_trans hS.1 hF1, fun q g1 g2 => ?_, fun q hq => ?_⟩
    · rw [hF2 q (Nat.lt_of_lt_of_le g1 hS.1) g2]
      exact hS.2.1 q g1 g2
    · rcases List.mem_append.mp hq with h | h
      · exact hS.2.2 q h
      · exact hL q h
  obtain ⟨t2, a1, b1⟩ := kk r h' T'.heap (locs ++ L') hq c1 c2 c3 c4 (by rw [e1]; exact hz) (by rw [e1]; exact hP) hS1 T' rfl X'
  exact ⟨t2, stp t2 a1, b1⟩
theorem pu_map (r : Option Value) (rest : List Value) : (r.map (cv sz sp)).toList ++ rest.map (cv sz sp) = (pu r rest).map (cv sz sp) := by
  cases r <;> rfl
theorem st_split {z : Nat} {a : Nat} {as : List Value} (hz : z ≤ st.length) (hq : (st.take z).reverse = .ref a :: as) : st.map (cv sz sp) = (as.map (cv sz sp)).reverse ++ .ref (sz + a) :: (st.drop z).map (cv sz sp) := by
  have h1 : st.take z = as.reverse ++ [.ref a] := by
    have := congrArg List.reverse hq
    rw [List.reverse_reverse] at this
    rw [this, List.reverse_cons]
  have h2 : st = st.take z ++ st.drop z := (List.take_append_drop z st).symm
  rw [h1] at h2
  conv => lhs; rw [h2]
  simp [List.map_reverse, cv]
theorem st_split2 {z : Nat} : st.map (cv sz sp) = (((st.take z).reverse).map (cv sz sp)).reverse ++ (st.drop z).map (cv sz sp) := by
  have h2 : st = st.take z ++ st.drop z := (List.take_append_drop z st).symm
  conv => lhs; rw [h2]
  simp [List.map_reverse]
theorem rest_ok {z : Nat} {ls : Array Slot} {q : List Value} (hz : (st.drop z).length ≤ 4) : 2 * (F0 m pc ls q).monitorRoom + ((((st.drop z).map (cv sz sp))).map fun v => v.category).sum ≤ 8 := by
  refine lv_room ?_
  have := cat_sum ((st.drop z).map (cv sz sp))
  rw [List.length_map] at this
  omega
theorem rest_ok2 {z : Nat} {ls : Array Slot} {q : List Value} (hz : ((st.drop z).map fun v => v.category).sum ≤ 8) : 2 * (F0 m pc ls q).monitorRoom + ((((st.drop z).map (cv sz sp))).map fun v => v.category).sum ≤ 8 := by
  refine lv_room ?_
  rw [List.map_map, show ((fun v : Value => v.category) ∘ cv sz sp) = fun v => v.category from funext fun v => cv_cat sz sp v]
  exact hz
set_option maxHeartbeats 4000000 in
theorem w_virt (E : EV p R s m args meth c D cs sz sp sa cc nL o d N S n0 s0 ini) (hF : FS l D cs sz sp d F) {i y z w : Nat} {r : mR} (hd : decode cc pc = .ok (.invokevirtual i, 3)) (hr : mtab[y]? = some r) (hM : MTP r) (hlk : Cond.methodLink (ownS o) i r.1 ∈ gw_tbl) (hin : Cond.instanceMethod r.1 ∈ gw_tbl) (hse : Cond.selects r.1.cls r.1 r.1 ∈ gw_tbl) (hpd : (parseMethodDescriptor r.1.desc).map (fun d => d.parameters.length) = some (z - 1)) (hz0 : 0 < z)
    {C : String} {T : u_T} {M : Nat} (hc : vwCl[w]? = some (C, T, M)) (hC : C = r.1.cls)
    (k : z ≤ st.length ∧ (st.drop z).length ≤ 4 ∧ (match (st.take z).reverse with
    | .ref a :: as => opt (hO h a w) fun _ => F h.1 h.2.1 y (.ref a :: as) h fun r h' => WPd p l e R s m args below meth c Qend D cs sz sp nL N S n0 s0 (pc + 3) L (pu r (st.drop z)) h'
    | _ => False)) : WPd p l e R s m args below meth c Qend D cs sz sp nL N S n0 s0 pc L st h := by
  have E0 := E
  obtain ⟨hx, hb, hml, ho, hts, hK, -, -, ⟨hf1, hf2⟩, ⟨hN1, hN2⟩, -⟩ := E
  obtain ⟨k1, k2, k3⟩ := k
  intro b1 b2 b3 b4 ls H locs hl hz hP hS
  split at k3
  · rename_i a as hta
    obtain ⟨fs, hq, k4⟩ := opt_e k3
    have hMet := hF _ _ _ _ _ _ k4 (Nat.le_refl _) (Nat.le_refl _) r hr
    rw [Nat.sub_self, Nat.sub_self] at hMet
    have hlen : as.length = z - 1 := by
      have := congrArg List.length hta
      simp only [List.length_reverse, List.length_take, List.length_cons] at this
      omega
    obtain ⟨hM1, hM2, hM3, hM4, hM5, hM6, hM7⟩ := hM
    have hcw : CallW R s args (ownS o) r.1.cls i r.1 r.2.1 r.2.2.1 r.2.2.2.1 (Cond.code r.1 r.2.1 r.2.2.1 r.2.2.2.1 :: gw_tbl) (rmd d 0 0) 0 0 (z - 1) := by
      refine cwV (z - 1) hts ?_ rfl rfl rfl ⟨rfl, hM3.1, hM3.2, hpd⟩ ⟨?_, ?_⟩
      · intro w hw
        unfold wsV at hw
        rcases List.mem_append.mp hw with hw | hw
        · simp only [List.mem_cons, List.not_mem_nil, or_false] at hw
          rcases hw with rfl | rfl | rfl | rfl
          · exact good_gw _ hlk
          · exact good_gw _ hin
          · exact good_gw _ hse
          · exact good_gw _ hM2
        · rcases List.mem_cons.mp hw with rfl | hw
          · exact good_gw _ hM1
          · exact good_gw _ hw
      · show d + 1 ≤ R.frames; exact hf1
      · show 8 + (r.2.2.1 + 11) + 64 * d ≤ R.locals; omega
    have hpre : PreV s H r.1.cls (sz + a) (PcA D cs sz sp (.ref a :: as) h) (as.map (cv sz sp)) :=
      ⟨pc_blind, by have := va_recv hK hP hc (ws_o hq); rw [← hC]; exact this, pc_pre E0 (as := .ref a :: as) hz hP hS⟩
    have hrun := va_runV (g := F0 m pc ls (st.map (cv sz sp))) (rest := (st.drop z).map (cv sz sp)) (locs := locs) (cells := h.1 - n0) (slots := h.2.1 - s0) (below := below) (e := e) (meth := meth) ⟨hx, hb, hml, ho, hts⟩ hMet hcw hpre rfl (by rw [List.length_map]; exact hlen) hl.2.1 (st_split k1 hta) (rest_ok k2) hd ⟨by omega, by omega⟩
    refine w_aft hrun hS fun r' h' H1 locs1 hq' c1 c2 c3 c4 hz1 hP1 hS1 => ?_
    have e1 : h'.1 = h.1 := by omega
    have e2 : h'.2.1 = h.2.1 := by omega
    rw [pu_map]
    have := hq' (by omega) (by omega) (by omega) (by omega) ls H1 locs1 hl hz1 hP1 hS1
    rw [e1, e2] at this
    exact this
  · exact k3.elim
set_option maxHeartbeats 4000000 in
theorem w_stat (E : EV p R s m args meth c D cs sz sp sa cc nL o d N S n0 s0 ini) (hF : FS l D cs sz sp d F) {i y z : Nat} {r : mR} (hd : decode cc pc = .ok (.invokestatic i, 3)) (hr : mtab[y]? = some r) (hM : MTP r) (hlk : Cond.methodLink (ownS o) i r.1 ∈ gw_tbl ∨ Cond.methodLinkNest (ownS o) i r.1 "HawkAsks" ∈ lw_tbl) (hst : Cond.static r.1 ∈ gw_tbl) (hpd : (parseMethodDescriptor r.1.desc).map (fun d => d.parameters.length) = some z)
    (k : z ≤ st.length ∧ (st.drop z).length ≤ 4 ∧ F h.1 h.2.1 y (st.take z).reverse h fun r h' => WPd p l e R s m args below meth c Qend D cs sz sp nL N S n0 s0 (pc + 3) L (pu r (st.drop z)) h') : WPd p l e R s m args below meth c Qend D cs sz sp nL N S n0 s0 pc L st h := by
  have E0 := E
  obtain ⟨hx, hb, hml, ho, hts, hK, -, -, ⟨hf1, hf2⟩, ⟨hN1, hN2⟩, -, -, hnw, -⟩ := E
  obtain ⟨k1, k2, k4⟩ := k
  intro b1 b2 b3 b4 ls H locs hl hz hP hS
  have hMet := hF _ _ _ _ _ _ k4 (Nat.le_refl _) (Nat.le_refl _) r hr
  rw [Nat.sub_self, Nat.sub_self] at hMet
  obtain ⟨hM1, hM2, hM3, hM4, hM5, hM6, hM7⟩ := hM
  have hG : GoodIn gw_tbl (Cond.code r.1 r.2.1 r.2.2.1 r.2.2.2.1 :: gw_tbl) := by
    intro w hw
    rcases List.mem_cons.mp hw with rfl | hw
    · exact good_gw _ hM1
    · exact good_gw _ hw
  have hR : (rmd d 0 0).frames + 1 ≤ R.frames ∧ 8 + (r.2.2.1 + 11) + (rmd d 0 0).locals ≤ R.locals := ⟨hf1, by show 8 + (r.2.2.1 + 11) + 64 * d ≤ R.locals; omega⟩
  have hlen : ((st.take z).reverse.map (cv sz sp)).length = z := by
    simp only [List.length_map, List.length_reverse, List.length_take]
    omega
  have hpre : PreS s H (PcA D cs sz sp (st.take z).reverse h) ((st.take z).reverse.map (cv sz sp)) := ⟨pc_blind, pc_pre E0 hz hP hS⟩
  have hrun : va_Run p l e R s m args below meth c H locs (h.1 - n0) (h.2.1 - s0) 0 0 (F0 m pc ls (st.map (cv sz sp))) ((st.drop z).map (cv sz sp)) (QcA D cs sz sp h.1 h.2.1 h (fun r h' => WPd p l e R s m args below meth c Qend D cs sz sp nL N S n0 s0 (pc + 3) L (pu r (st.drop z)) h') ((st.take z).reverse.map (cv sz sp)).toArray) (fun q => sz ≤ q) := by
    rcases hlk with hlk | hlk
    · exact va_runS (g := F0 m pc ls (st.map (cv sz sp))) ⟨hx, hb, hml, ho, hts⟩ hMet ⟨callB_of z hts hG rfl rfl rfl (hts _ hM2) (hts _ hlk) ⟨hM3.1, hM3.2, hpd⟩ hR, hts _ hst⟩ hpre rfl hlen hl.2.1 st_split2 (rest_ok k2) hd ⟨by omega, by omega⟩
    · exact va_runSN (g := F0 m pc ls (st.map (cv sz sp))) ⟨hx, hb, hml, ho, hts⟩ hMet ⟨va_cnB z hts hG rfl rfl rfl (hnw _ hlk rfl) (hts _ hM2) ⟨hM3.1, hM3.2, hpd⟩ hR, hts _ hst, trivial⟩ hpre rfl hlen hl.2.1 st_split2 (rest_ok k2) hd ⟨by omega, by omega⟩
  refine w_aft hrun hS fun r' h' H1 locs1 hq' c1 c2 c3 c4 hz1 hP1 hS1 => ?_
  have e1 : h'.1 = h.1 := by omega
  have e2 : h'.2.1 = h.2.1 := by omega
  rw [pu_map]
  have := hq' (by omega) (by omega) (by omega) (by omega) ls H1 locs1 hl hz1 hP1 hS1
  rw [e1, e2] at this
  exact this
set_option maxHeartbeats 4000000 in
theorem w_spec (E : EV p R s m args meth c D cs sz sp sa cc nL o d N S n0 s0 ini) (hF : FS l D cs sz sp d F) {i y z : Nat} {r : mR} (hd : decode cc pc = .ok (.invokespecial i, 3)) (hr : mtab[y]? = some r) (hM : MTP r) (hlk : Cond.methodLink (ownS o) i r.1 ∈ gw_tbl ∨ Cond.methodLinkNest (ownS o) i r.1 "HawkAsks" ∈ lw_tbl) (hin : Cond.instanceMethod r.1 ∈ gw_tbl) (hnm : r.1.name = "<init>") (hret : r.2.2.2.1 = none) (hpd : (parseMethodDescriptor r.1.desc).map (fun d => d.parameters.length) = some (z - 1)) (hz0 : 0 < z)
    (k : z ≤ st.length ∧ ((st.drop z).map fun v => v.category).sum ≤ 8 ∧ (match (st.take z).reverse with
    | .ref a :: as => ∃ mc ms : Nat, h.1 + mc ≤ N ∧ h.2.1 + ms ≤ S ∧ F (h.1 + mc) (h.2.1 + ms) y (.ref a :: as) h fun r h' => h'.1 = h.1 + mc ∧ h'.2.1 = h.2.1 + ms ∧ WPd p l e R s m args below meth c Qend D cs sz sp nL N S n0 s0 (pc + 3) L (pu r (st.drop z)) h'
    | _ => False)) : WPd p l e R s m args below meth c Qend D cs sz sp nL N S n0 s0 pc L st h := by
  have E0 := E
  obtain ⟨hx, hb, hml, ho, hts, hK, -, -, ⟨hf1, hf2⟩, ⟨hN1, hN2⟩, -, -, hnw, -⟩ := E
  obtain ⟨k1, k2, k3⟩ := k
  intro b1 b2 b3 b4 ls H locs hl hz hP hS
  split at k3
  · rename_i a as hta
    obtain ⟨mc, ms, g1, g2, k4⟩ := k3
    have hMet := hF _ _ _ _ _ _ k4 (by omega) (by omega) r hr
    rw [show h.1 + mc - h.1 = mc by omega, show h.2.1 + ms - h.2.1 = ms by omega] at hMet
    have hlen : (as.map (cv sz sp)).length = z - 1 := by
      have := congrArg List.length hta
      simp only [List.length_reverse, List.length_take, List.length_cons] at this
      rw [List.length_map]
      omega
    obtain ⟨hM1, hM2, hM3, hM4, hM5, hM6, hM7⟩ := hM
    have hG : GoodIn gw_tbl (Cond.code r.1 r.2.1 r.2.2.1 r.2.2.2.1 :: gw_tbl) := by
      intro w hw
      rcases List.mem_cons.mp hw with rfl | hw
      · exact good_gw _ hM1
      · exact good_gw _ hw
    have hR : (rmd d mc ms).frames + 1 ≤ R.frames ∧ 8 + (r.2.2.1 + 11) + (rmd d mc ms).locals ≤ R.locals := ⟨hf1, by show 8 + (r.2.2.1 + 11) + 64 * d ≤ R.locals; omega⟩
    have hpre : PreS s H (PcA D cs sz sp (.ref a :: as) h) (.ref (sz + a) :: as.map (cv sz sp)) := ⟨pc_blind, pc_pre E0 (as := .ref a :: as) hz hP hS⟩
    rw [hret] at hMet hG
    have hrun : va_Run p l e R s m args below meth c H locs (h.1 - n0) (h.2.1 - s0) mc ms (F0 m pc ls (st.map (cv sz sp))) ((st.drop z).map (cv sz sp)) (QcA D cs sz sp (h.1 + mc) (h.2.1 + ms) h (fun r h' => h'.1 = h.1 + mc ∧ h'.2.1 = h.2.1 + ms ∧ WPd p l e R s m args below meth c Qend D cs sz sp nL N S n0 s0 (pc + 3) L (pu r (st.drop z)) h') (Value.ref (sz + a) :: as.map (cv sz sp)).toArray) (fun q => sz ≤ q) := by
      rcases hlk with hlk | hlk
      · exact va_runI (g := F0 m pc ls (st.map (cv sz sp))) ⟨hx, hb, hml, ho, hts⟩ hMet ⟨callB_of (z - 1) hts hG rfl rfl rfl (hts _ hM2) (hts _ hlk) ⟨hM3.1, hM3.2, hpd⟩ hR, hnm, hts _ hin⟩ hpre rfl hlen hl.2.1 (st_split k1 hta) (rest_ok2 k2) hd ⟨by omega, by omega⟩
      · exact va_runIN (g := F0 m pc ls (st.map (cv sz sp))) ⟨hx, hb, hml, ho, hts⟩ hMet ⟨va_cnB (z - 1) hts hG rfl rfl rfl (hnw _ hlk rfl) (hts _ hM2) ⟨hM3.1, hM3.2, hpd⟩ hR, hnm, hts _ hin⟩ hpre rfl hlen hl.2.1 (st_split k1 hta) (rest_ok2 k2) hd ⟨by omega, by omega⟩
    refine w_aft hrun hS fun r' h' H1 locs1 hq' c1 c2 c3 c4 hz1 hP1 hS1 => ?_
    obtain ⟨e1, e2, hq'⟩ := hq'
    rw [pu_map]
    have := hq' (by omega) (by omega) (by omega) (by omega) ls H1 locs1 hl hz1 hP1 hS1
    rw [show h'.1 - n0 = h.1 - n0 + mc by omega, show h'.2.1 - s0 = h.2.1 - s0 + ms by omega] at this
    exact this
  · exact k3.elim
theorem w_oinit (E : EV p R s m args meth c D cs sz sp sa cc nL o d N S n0 s0 ini) {i : Nat} (hd : decode cc pc = .ok (.invokespecial i, 3)) (hlk : Cond.methodLink (ownS o) i objectInit ∈ gw_tbl) (k : tR st fun _ s' => s'.length ≤ 4 ∧ WPd p l e R s m args below meth c Qend D cs sz sp nL N S n0 s0 (pc + 3) L s' h) : WPd p l e R s m args below meth c Qend D cs sz sp nL N S n0 s0 pc L st h := by
  obtain ⟨hx, hb, hml, ho, hts, hK, -, -, ⟨hf1, hf2⟩, -⟩ := E
  obtain ⟨a, s', rfl, k1, k2⟩ := tR_e k
  intro b1 b2 b3 b4 ls H locs hl hz hP hS
  refine W.objInit hx hb ho (hts _ hlk) (hts _ (gw_in oi_words.1 rfl)) (hts _ (gw_in oi_words.2 rfl)) (g := F0 m pc ls ((Value.ref a :: s').map (cv sz sp))) rfl (by rw [hml]; exact hl.2.1) rfl hd (by omega) ?_ (k2 b1 b2 b3 b4 ls H locs hl hz hP hS)
  have := cat_sum (s'.map (cv sz sp))
  rw [List.length_map] at this
  show 2 * 0 + _ + 12 ≤ R.locals
  omega
theorem w_max (E : EV p R s m args meth c D cs sz sp sa cc nL o d N S n0 s0 ini) {i : Nat} (hd : decode cc pc = .ok (.invokestatic i, 3)) (hlk : Cond.methodLink (ownS o) i Lib.Math.max.name ∈ gw_tbl) (k : tI st fun b s' => tI s' fun a s' => s'.length ≤ 4 ∧ WPd p l e R s m args below meth c Qend D cs sz sp nL N S n0 s0 (pc + 3) L (.int (if a < b then b else a) :: s') h) : WPd p l e R s m args below meth c Qend D cs sz sp nL N S n0 s0 pc L st h := by
  obtain ⟨hx, hb, hml, ho, hts, hK, -, -, ⟨hf1, hf2⟩, ⟨hN1, hN2⟩, -⟩ := E
  obtain ⟨b, s1, rfl, k1⟩ := tI_e k
  obtain ⟨a, s', rfl, k2, k3⟩ := tI_e k1
  intro b1 b2 b3 b4 ls H locs hl hz hP hS
  refine va_mmax hx hb (by rw [hml]; exact hl.2.1.symm) ho (hts _ hlk) (hts _ jm_max.1) (hts _ jm_ini) (hts _ jm_max.2) (by omega) ?_ (by omega) (by omega) hd (k3 b1 b2 b3 b4 ls H locs hl hz hP hS)
  have := cat_sum (s'.map (cv sz sp))
  rw [List.length_map] at this
  omega
theorem w_min (E : EV p R s m args meth c D cs sz sp sa cc nL o d N S n0 s0 ini) {i : Nat} (hd : decode cc pc = .ok (.invokestatic i, 3)) (hlk : Cond.methodLink (ownS o) i Lib.Math.min.name ∈ gw_tbl) (k : tI st fun b s' => tI s' fun a s' => s'.length ≤ 4 ∧ WPd p l e R s m args below meth c Qend D cs sz sp nL N S n0 s0 (pc + 3) L (.int (if b < a then b else a) :: s') h) : WPd p l e R s m args below meth c Qend D cs sz sp nL N S n0 s0 pc L st h := by
  obtain ⟨hx, hb, hml, ho, hts, hK, -, -, ⟨hf1, hf2⟩, ⟨hN1, hN2⟩, -⟩ := E
  obtain ⟨b, s1, rfl, k1⟩ := tI_e k
  obtain ⟨a, s', rfl, k2, k3⟩ := tI_e k1
  intro b1 b2 b3 b4 ls H locs hl hz hP hS
  refine va_mmin hx hb (by rw [hml]; exact hl.2.1.symm) ho (hts _ hlk) (hts _ jm_min.1) (hts _ jm_ini) (hts _ jm_min.2) (by omega) ?_ (by omega) (by omega) hd (k3 b1 b2 b3 b4 ls H locs hl hz hP hS)
  have := cat_sum (s'.map (cv sz sp))
  rw [List.length_map] at this
  omega
theorem w_abs (E : EV p R s m args meth c D cs sz sp sa cc nL o d N S n0 s0 ini) {i : Nat} (hd : decode cc pc = .ok (.invokestatic i, 3)) (hlk : Cond.methodLink (ownS o) i Lib.Math.abs.name ∈ gw_tbl) (k : tI st fun a s' => s'.length ≤ 4 ∧ WPd p l e R s m args below meth c Qend D cs sz sp nL N S n0 s0 (pc + 3) L (.int (if 0 ≤ a then a else 0 - a) :: s') h) : WPd p l e R s m args below meth c Qend D cs sz sp nL N S n0 s0 pc L st h := by
  obtain ⟨hx, hb, hml, ho, hts, hK, -, -, ⟨hf1, hf2⟩, ⟨hN1, hN2⟩, -⟩ := E
  obtain ⟨a, s', rfl, k2, k3⟩ := tI_e k
  intro b1 b2 b3 b4 ls H locs hl hz hP hS
  refine va_mabs hx hb (by rw [hml]; exact hl.2.1.symm) ho (hts _ hlk) (hts _ jm_abs.1) (hts _ jm_ini) (hts _ jm_abs.2) (by omega) ?_ (by omega) (by omega) hd (k3 b1 b2 b3 b4 ls H locs hl hz hP hS)
  have := cat_sum (s'.map (cv sz sp))
  rw [List.length_map] at this
  omega
theorem w_copy (E : EV p R s m args meth c D cs sz sp sa cc nL o d N S n0 s0 ini) {i : Nat} (hd : decode cc pc = .ok (.invokestatic i, 3)) (hlk : Cond.methodLink (ownS o) i arraycopyName ∈ gw_tbl) {n dp sp0 : Int32} {b a : Nat} {s' : List Value}
    (k : s'.length ≤ 4 ∧ ¬ sp0 < 0 ∧ ¬ dp < 0 ∧ ¬ n < 0 ∧ opt (hI h a) fun p1 => opt (hI h b) fun q1 => sp0.toNatClampNeg + n.toNatClampNeg ≤ p1.1 ∧ dp.toNatClampNeg + n.toNatClampNeg ≤ q1.1 ∧ WPd p l e R s m args below meth c Qend D cs sz sp nL N S n0 s0 (pc + 3) L s' (hS h b (.inl (0, q1.1, .inl (va_cpy p1.2 q1.2 sp0.toNatClampNeg dp.toNatClampNeg n.toNatClampNeg))))) : WPd p l e R s m args below meth c Qend D cs sz sp nL N S n0 s0 pc L (.int n :: .int dp :: .ref b :: .int sp0 :: .ref a :: s') h := by
  obtain ⟨hx, hb, hml, ho, hts, hK, -, -, ⟨hf1, hf2⟩, ⟨hN1, hN2⟩, -⟩ := E
  obtain ⟨k1, c1, c2, c3, k2⟩ := k
  obtain ⟨p0, hp0, k3⟩ := opt_e k2
  obtain ⟨q0, hq0, c4, c5, k4⟩ := opt_e k3
  intro b1 b2 b3 b4 ls H locs hl hz hP hS
  have nn : ∀ z : Int32, ¬ z < 0 → z.toInt = (z.toNatClampNeg : Int) := by
    intro z hz
    have hz0 : (0 : Int) ≤ z.toInt := by
      have := Int32.not_lt.mp hz
      simpa using Int32.le_iff_toInt_le.mp this
    show z.toInt = ((z.toInt.toNat : Nat) : Int)
    omega
  have hcat := cat_sum (s'.map (cv sz sp))
  rw [List.length_map] at hcat
  have e9 : nativeFrameWords "java/lang/System" "arraycopy" 5 = 7 := by decide
  intro T hT X
  have hc0 : H[sz + a]? = some (vp_cell (cs 0) (p0.1, .inl p0.2)) := hP a _ (ws_i hp0)
  have hc1 : H[sz + b]? = some (vp_cell (cs 0) (q0.1, .inl q0.2)) := hP b _ (ws_i hq0)
  obtain ⟨-, k0, hk0, cm0, hkk0⟩ := (hK.2 0 _ rfl).1 p0.1 (fun j => .int (p0.2 j))
  obtain ⟨vm', X', step⟩ := X.arraycopy hx ho (hts _ hlk) (hts _ (gw_in cp_words.1 rfl)) (hts _ (gw_in cp_words.2.1 rfl)) (hts _ (gw_in cp_words.2.2 rfl)) (src := sz + a) (dst := sz + b) (cs := vp_cell (cs 0) (p0.1, .inl p0.2)) (cd := vp_cell (cs 0) (q0.1, .inl q0.2)) (srcPos := sp0) (destPos := dp) (n := n) (by rw [hT]; exact hc0) (by rw [hT]; exact hc1)
    (fun _ h => by cases h) (fun _ h => by cases h) (fun h => by cases h) (fun h => by cases h) hk0 hk0 hkk0 hkk0 (by simp [refKind]) c1 c2 c3
    (by rw [nn sp0 c1, nn n c3]; show ¬ _ > ((arrV (cs 0) p0.1 (fun j => .int (p0.2 j))).slots.size : Int); rw [arrV_size]; omega)
    (by rw [nn dp c2, nn n c3]; show ¬ _ > ((arrV (cs 0) q0.1 (fun j => .int (q0.2 j))).slots.size : Int); rw [arrV_size]; omega)
    (fun vm₁ _ i hi => by
      have e : (vp_cell (cs 0) (p0.1, .inl p0.2)).slots.getD (sp0.toNatClampNeg + i) .null = .int (p0.2 (sp0.toNatClampNeg + i)) := by
        show (arrV (cs 0) p0.1 (fun j => .int (p0.2 j))).slots.getD _ _ = _
        rw [Array.getD_eq_getD_getElem?, arrV_read _ _ (by omega)]
        rfl
      refine ⟨?_, ?_⟩
      · rw [e]
        rfl
      · rw [e]
        exact trivial)
    (g := F0 m pc ls ((Value.int n :: .int dp :: .ref b :: .int sp0 :: .ref a :: s').map (cv sz sp))) rfl (by rw [hml]; exact hl.2.1) (rest := s'.map (cv sz sp)) rfl (by rw [hb]; exact hd) (by omega) (by show 2 * 0 + _ + (nativeFrameWords "java/lang/System" "arraycopy" 5 + 11) ≤ _; rw [e9]; omega)
  have e1 : copied (vp_cell (cs 0) (p0.1, .inl p0.2)) (vp_cell (cs 0) (q0.1, .inl q0.2)) sp0 dp n = vp_cell (cs 0) (q0.1, .inl (va_cpy p0.2 q0.2 sp0.toNatClampNeg dp.toNatClampNeg n.toNatClampNeg)) := va_copied (fun z => .int z) (cs 0) (cs 0) p0.2 q0.2 c4
  rw [e1] at X' step
  have hlb : sz + b < H.size := (Array.getElem?_eq_some_iff.mp hc1).1
  generalize hce : vp_cell (cs 0) (q0.1, .inl (va_cpy p0.2 q0.2 sp0.toNatClampNeg dp.toNatClampNeg n.toNatClampNeg)) = ce at X' step
  have hheap : ((T.setVm vm').setCell (sz + b) ce).heap = H.setIfInBounds (sz + b) ce := by rw [← hT]; rfl
  have oq : ∀ q : Nat, q ≠ sz + b → (H.setIfInBounds (sz + b) ce)[q]? = H[q]? := fun q hq => by simp [Array.getElem?_setIfInBounds, Ne.symm hq]
  have kk := fun h1 h2 h3 => k4 b1 b2 b3 b4 ls (H.setIfInBounds (sz + b) ce) _ hl h1 h2 h3 _ hheap X'
  obtain ⟨t, a1, b1⟩ := kk (by simp; exact hz) (hS_P (hI_e hq0).1 hP (show (H.setIfInBounds (sz + b) ce)[sz + b]? = some (vp_cell _ _) by rw [hce]; simp [Array.getElem?_setIfInBounds, hlb]) oq) ⟨by simp; exact hS.1, fun q g1 g2 => by
      rw [oq q (fun e => g2 (by rw [e]; exact Nat.le_add_right _ _))]
      exact hS.2.1 q g1 g2, fun q hq => by
      rcases List.mem_append.mp hq with h | h
      · exact hS.2.2 q h
      · obtain ⟨z, -, hz⟩ := List.mem_map.mp h
        rw [← hz]
        exact Nat.le_add_right _ _⟩
  exact ⟨t, step t a1, b1⟩
end SC

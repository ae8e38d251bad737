/-! the small machine's step, whatever the instruction; a method that it runs is met -/
theorem cl_fx {x : Nat} {C : String} {T : u_T} {M : Nat} (hc : vwCl[x]? = some (C, T, M)) : (∀ k, k < M → parseFieldDescriptor (T k).2.2.1 = some (tyN x k)) ∧ (∀ a, a < M → ∀ b, b < M → a ≠ b → (T a).2.1 ≠ (T b).2.1) ∧ (∀ k, k < M → defaultValue (tyN x k) = (dfT x).getD k .null) ∧ (∀ k, k < M → (T k).1 = C) ∧ Cond.instantiable C M ∈ gw_tbl ∧ Cond.initialized C ∈ gw_tbl ∧ C = ownS x ∧ (dfT x).length = M := by
  have hx : x < 8 := (List.getElem?_eq_some_iff.mp hc).1
  have h1 := clC_all x (List.mem_range.mpr hx)
  unfold clC at h1
  rw [hc] at h1
  simp only [Bool.and_eq_true, decide_eq_true_eq, List.all_eq_true, List.mem_range, beq_iff_eq, Bool.or_eq_true, Bool.not_eq_true', beq_eq_false_iff_ne] at h1
  obtain ⟨⟨⟨⟨⟨h2, h3⟩, h4⟩, h5⟩, h6⟩, h7⟩ := h1
  refine ⟨fun k hk => (h2 k hk).1.1, fun a ha b hb hab => ?_, fun k hk => (h2 k hk).1.2, fun k hk => (h2 k hk).2, gw_in h4 rfl, gw_in h5 rfl, h6, h7⟩
  rcases h3 a ha b hb with h | h
  · exact absurd h hab
  · exact h
theorem cl_ws {x : Nat} {C : String} {T : u_T} {M : Nat} (hc : vwCl[x]? = some (C, T, M)) : ∀ w ∈ u_ws C T M, w ∈ gw_tbl := fun w hw => by
  have h1 := clW_all (C, T, M) (List.mem_of_getElem? hc) w hw
  exact gw_in h1.1 h1.2
theorem df_cv {x : Nat} (hx : x < 8) {sz : Nat} {sp : Nat → Nat} (j : Nat) : (dfT x).getD j .null = vp_V ((dfT x).map (cv sz sp)) j := by
  have h1 := dfT_cv x (List.mem_range.mpr hx)
  have h2 : (dfT x).map (cv sz sp) = dfT x := by
    conv => rhs; rw [← List.map_id (dfT x)]
    apply List.map_congr_left
    intro v hv
    rcases h1 v hv with rfl | rfl <;> rfl
  rw [h2]
  rfl
def moC (y w : Nat) : Bool := match mtab[y]? with
  | some r => decide (r.2.2.2.2.1 = w)
  | none => false
def okM (ins : Instr) (y w : Nat) : Bool := match ins with
  | .invokevirtual _ => moC y w
  | _ => true
def RH (W : aK) (Q : aQ) (rt : Option FieldType) (cc : ByteArray) : Prop :=
  (∀ (pc : Nat) (v : Int32) (L : aL) (h : aH), decode cc pc = .ok (.ireturn, 1) → (rt = some .int ∨ (rt = some .boolean ∧ (v = 0 ∨ v = 1))) → Q (some (.int v)) h → W pc L [.int v] h) ∧
  (∀ (pc : Nat) (v : Int64) (L : aL) (h : aH), decode cc pc = .ok (.lreturn, 1) → rt = some .long → Q (some (.long v)) h → W pc L [.long v] h) ∧
  (∀ (pc : Nat) (v : Nat) (L : aL) (h : aH), decode cc pc = .ok (.areturn, 1) → rt = some (.object "HawkAsks$Castle") → Q (some (.ref v)) h → W pc L [.ref v] h) ∧
  (∀ (pc : Nat) (L : aL) (h : aH), decode cc pc = .ok (.return_, 1) → rt = none → Q none h → W pc L [] h)
section SX
variable {p : Program} {l : Launch} {e : Env} {R : Room} {s : State} {m : MethodId} {args : Array Value} {below : List Frame} {meth : Method} {c : Code} {Qend : State → Prop} {D : va_G} {cs : Nat → ClassId} {sz : Nat} {sp : Nat → Nat} {sa : aS} {cc : ByteArray} {nL o d N S n0 s0 : Nat} {ini : Bool}
variable {pc : Nat} {L : aL} {st : List Value} {h : aH} {F : aF}
set_option maxHeartbeats 8000000 in
theorem w_ex (E : EV p R s m args meth c D cs sz sp sa cc nL o d N S n0 s0 ini) (hF : FS l D cs sz sp d F) (ho : o < 11) {rt : Option FieldType} {Q : aQ} (hR : RH (WPd p l e R s m args below meth c Qend D cs sz sp nL N S n0 s0) Q rt cc) {ins : Instr} {len x y z w : Nat} (hd : decode cc pc = .ok (ins, len)) (hok : okI o ini pc ins len x y z w = true) (hmo : okM ins y w = true) (hex : ex1 sa F N S rt (WPd p l e R s m args below meth c Qend D cs sz sp nL N S n0 s0) Q pc L st h ins x y z w) : WPd p l e R s m args below meth c Qend D cs sz sp nL N S n0 s0 pc L st h := by
  cases ins with
  | iadd =>
    have hl1 : len = 1 := by simpa [okI, insLen] using hok
    subst hl1
    exact w_iadd E hd hex
  | isub =>
    have hl1 : len = 1 := by simpa [okI, insLen] using hok
    subst hl1
    exact w_isub E hd hex
  | imul =>
    have hl1 : len = 1 := by simpa [okI, insLen] using hok
    subst hl1
    exact w_imul E hd hex
  | iand =>
    have hl1 : len = 1 := by simpa [okI, insLen] using hok
    subst hl1
    exact w_iand E hd hex
  | ior =>
    have hl1 : len = 1 := by simpa [okI, insLen] using hok
    subst hl1
    exact w_ior E hd hex
  | ixor =>
    have hl1 : len = 1 := by simpa [okI, insLen] using hok
    subst hl1
    exact w_ixor E hd hex
  | ishl =>
    have hl1 : len = 1 := by simpa [okI, insLen] using hok
    subst hl1
    exact w_ishl E hd hex
  | ishr =>
    have hl1 : len = 1 := by simpa [okI, insLen] using hok
    subst hl1
    exact w_ishr E hd hex
  | iushr =>
    have hl1 : len = 1 := by simpa [okI, insLen] using hok
    subst hl1
    exact w_iushr E hd hex
  | irem =>
    have hl1 : len = 1 := by simpa [okI, insLen] using hok
    subst hl1
    exact w_irem E hd hex
  | ineg =>
    have hl1 : len = 1 := by simpa [okI, insLen] using hok
    subst hl1
    exact w_ineg E hd hex
  | ladd =>
    have hl1 : len = 1 := by simpa [okI, insLen] using hok
    subst hl1
    exact w_ladd E hd hex
  | lmul =>
    have hl1 : len = 1 := by simpa [okI, insLen] using hok
    subst hl1
    exact w_lmul E hd hex
  | ldiv =>
    have hl1 : len = 1 := by simpa [okI, insLen] using hok
    subst hl1
    exact w_ldiv E hd hex
  | lrem =>
    have hl1 : len = 1 := by simpa [okI, insLen] using hok
    subst hl1
    exact w_lrem E hd hex
  | lcmp =>
    have hl1 : len = 1 := by simpa [okI, insLen] using hok
    subst hl1
    exact w_lcmp E hd hex
  | i2l =>
    have hl1 : len = 1 := by simpa [okI, insLen] using hok
    subst hl1
    exact w_i2l E hd hex
  | l2i =>
    have hl1 : len = 1 := by simpa [okI, insLen] using hok
    subst hl1
    exact w_l2i E hd hex
  | i2b =>
    have hl1 : len = 1 := by simpa [okI, insLen] using hok
    subst hl1
    exact w_i2b E hd hex
  | i2s =>
    have hl1 : len = 1 := by simpa [okI, insLen] using hok
    subst hl1
    exact w_i2s E hd hex
  | iconst n =>
    have hl1 : len = 1 := by simpa [okI, insLen] using hok
    subst hl1
    exact w_iconst E hd hex
  | lconst n =>
    have hl1 : len = 1 := by simpa [okI, insLen] using hok
    subst hl1
    exact w_lconst E hd hex
  | iload_n i =>
    have hl1 : len = 1 := by simpa [okI, insLen] using hok
    subst hl1
    exact w_iload_n E hd hex
  | lload_n i =>
    have hl1 : len = 1 := by simpa [okI, insLen] using hok
    subst hl1
    exact w_lload_n E hd hex
  | aload_n i =>
    have hl1 : len = 1 := by simpa [okI, insLen] using hok
    subst hl1
    exact w_aload_n E hd hex
  | istore_n i =>
    have hl1 : len = 1 := by simpa [okI, insLen] using hok
    subst hl1
    exact w_istore_n E hd hex
  | lstore_n i =>
    have hl1 : len = 1 := by simpa [okI, insLen] using hok
    subst hl1
    exact w_lstore_n E hd hex
  | astore_n i =>
    have hl1 : len = 1 := by simpa [okI, insLen] using hok
    subst hl1
    exact w_astore_n E hd hex
  | iload i =>
    have hl1 : len = 2 := by simpa [okI, insLen] using hok
    subst hl1
    exact w_iload E hd hex
  | lload i =>
    have hl1 : len = 2 := by simpa [okI, insLen] using hok
    subst hl1
    exact w_lload E hd hex
  | aload i =>
    have hl1 : len = 2 := by simpa [okI, insLen] using hok
    subst hl1
    exact w_aload E hd hex
  | istore i =>
    have hl1 : len = 2 := by simpa [okI, insLen] using hok
    subst hl1
    exact w_istore E hd hex
  | lstore i =>
    have hl1 : len = 2 := by simpa [okI, insLen] using hok
    subst hl1
    exact w_lstore E hd hex
  | astore i =>
    have hl1 : len = 2 := by simpa [okI, insLen] using hok
    subst hl1
    exact w_astore E hd hex
  | iinc i n =>
    have hl1 : len = 3 := by simpa [okI, insLen] using hok
    subst hl1
    exact w_iinc E hd hex
  | bipush n =>
    simp only [okI, Bool.and_eq_true, beq_iff_eq] at hok
    obtain ⟨rfl, hn⟩ := hok
    exact w_bipush E hd hn hex
  | sipush n =>
    simp only [okI, Bool.and_eq_true, beq_iff_eq] at hok
    obtain ⟨rfl, hn⟩ := hok
    exact w_sipush E hd hn hex
  | ldc i =>
    simp only [okI, Bool.and_eq_true, beq_iff_eq] at hok
    obtain ⟨rfl, hn⟩ := hok
    exact w_ldc E hd (gw_in (kiT_all o (List.mem_range.mpr ho) _ (lkp_mem hn)) rfl) hex
  | ldc_w i =>
    simp only [okI, Bool.and_eq_true, beq_iff_eq] at hok
    obtain ⟨rfl, hn⟩ := hok
    exact w_ldcw E hd (gw_in (kiT_all o (List.mem_range.mpr ho) _ (lkp_mem hn)) rfl) hex
  | ldc2_w i =>
    simp only [okI, Bool.and_eq_true, beq_iff_eq] at hok
    obtain ⟨rfl, hn⟩ := hok
    exact w_ldc2 E hd (gw_in (klT_all o (List.mem_range.mpr ho) _ (lkp_mem hn)) rfl) hex
  | dup =>
    have hl1 : len = 1 := by simpa [okI, insLen] using hok
    subst hl1
    cases st with
    | nil => exact hex.elim
    | cons v s' => exact w_dup E hd hex.1 hex.2
  | dup2 =>
    have hl1 : len = 1 := by simpa [okI, insLen] using hok
    subst hl1
    cases st with
    | nil => exact hex.elim
    | cons v s' =>
      cases s' with
      | nil => exact hex.elim
      | cons v2 s' => exact w_dup2 E hd hex.1 hex.2.1 hex.2.2
  | goto off =>
    simp only [okI, Bool.and_eq_true, beq_iff_eq] at hok
    obtain ⟨rfl, hn⟩ := hok
    exact w_goto E hd hn hex
  | ifCond q off =>
    simp only [okI, Bool.and_eq_true, beq_iff_eq] at hok
    obtain ⟨rfl, hn⟩ := hok
    cases q with
    | eq => exact w_if_eq E hd hn hex
    | ne => exact w_if_ne E hd hn hex
    | lt => exact w_if_lt E hd hn hex
    | ge => exact w_if_ge E hd hn hex
    | gt => exact w_if_gt E hd hn hex
    | le => exact w_if_le E hd hn hex
  | if_icmp q off =>
    simp only [okI, Bool.and_eq_true, beq_iff_eq] at hok
    obtain ⟨rfl, hn⟩ := hok
    cases q with
    | eq => exact w_ic_eq E hd hn hex
    | ne => exact w_ic_ne E hd hn hex
    | lt => exact w_ic_lt E hd hn hex
    | ge => exact w_ic_ge E hd hn hex
    | gt => exact w_ic_gt E hd hn hex
    | le => exact w_ic_le E hd hn hex
  | tableswitch df lo hi offs => exact w_tsw E hd hex
  | lookupswitch df ps => exact w_lsw E hd hok hex
  | getfield i =>
    simp only [okI, Bool.and_eq_true, beq_iff_eq] at hok
    obtain ⟨rfl, hn⟩ := hok
    obtain ⟨C, T, M, hc, hk, hlk⟩ := flT_ok ho hn
    exact w_getfield E hd hc hk (cl_ws hc) hlk hex
  | putfield i =>
    simp only [okI, Bool.and_eq_true, beq_iff_eq, Bool.or_eq_true] at hok
    obtain ⟨⟨⟨⟨rfl, hn⟩, htg⟩, hfi⟩, hw⟩ := hok
    obtain ⟨C, T, M, hc, hk, hlk⟩ := flT_ok ho hn
    obtain ⟨f1, f2, f3, f4, f5, f6, f7, f8⟩ := cl_fx hc
    cases st with
    | nil => exact hex.elim
    | cons v s' =>
      refine w_putfield E (tyN x) hd hc hk (cl_ws hc) f1 f2 hlk htg ?_ hex
      have hf9 : finN x y = (T y).2.2.2 := by unfold finN; rw [hc]
      rw [hf9] at hfi
      rcases hw with hw | ⟨hw1, hw2⟩
      · left
        rw [hfi, hw]
        rfl
      · by_cases hq : (T y).2.2.2 = false
        · exact Or.inl hq
        · right
          refine ⟨by simpa using hq, hw1, ?_⟩
          rw [f4 y hk, f7, hw2]
  | getstatic i =>
    simp only [okI, Bool.and_eq_true, beq_iff_eq] at hok
    obtain ⟨rfl, hn⟩ := hok
    have h9 := sfT_all o (List.mem_range.mpr ho) _ (lkp_mem hn)
    exact w_getstatic E hd h9.1 (gw_in h9.2 rfl) hex
  | iaload =>
    have hl1 : len = 1 := by simpa [okI, insLen] using hok
    subst hl1
    obtain ⟨i, s', rfl, k1⟩ := tI_e hex
    match s', k1 with
    | .ref a :: s', k1 => exact w_iald_r E hd k1
    | .float j :: s', k1 => exact w_iald_s E hd k1
  | iastore =>
    have hl1 : len = 1 := by simpa [okI, insLen] using hok
    subst hl1
    exact w_iast E hd hex
  | baload =>
    have hl1 : len = 1 := by simpa [okI, insLen] using hok
    subst hl1
    exact w_bald E hd hex
  | bastore =>
    have hl1 : len = 1 := by simpa [okI, insLen] using hok
    subst hl1
    exact w_bast E hd hex
  | aaload =>
    have hl1 : len = 1 := by simpa [okI, insLen] using hok
    subst hl1
    exact w_aald E hd hex
  | aastore =>
    have hl1 : len = 1 := by simpa [okI, insLen] using hok
    subst hl1
    exact w_aast E hd hex
  | arraylength =>
    have hl1 : len = 1 := by simpa [okI, insLen] using hok
    subst hl1
    match st, hex with
    | .ref a :: s', k1 => exact w_alen_r E hd k1
    | .float j :: s', k1 => exact w_alen_s E hd k1
  | new i =>
    simp only [okI, Bool.and_eq_true, beq_iff_eq] at hok
    obtain ⟨⟨rfl, hn⟩, hy⟩ := hok
    obtain ⟨h8, hcl⟩ := clT_all o (List.mem_range.mpr ho) _ (lkp_mem hn)
    dsimp only at h8 hcl
    obtain ⟨⟨C, T, M⟩, hc⟩ : ∃ r, vwCl[x]? = some r := ⟨_, List.getElem?_eq_getElem (show x < vwCl.length from h8)⟩
    obtain ⟨f1, f2, f3, f4, f5, f6, f7, f8⟩ := cl_fx hc
    have hM : M = y := by rw [← hy, f8]
    subst hM
    rw [← f7] at hcl
    exact w_new E (tyN x) hd hc (cl_ws hc) f1 (gw_in hcl rfl) f5 f6 (fun j hj => by rw [f3 j hj]; exact df_cv h8 j) hex
  | newarray t =>
    have hl1 : len = 2 := by simpa [okI, insLen] using hok
    subst hl1
    obtain ⟨n, s', rfl, k1⟩ := tI_e hex
    cases t with
    | int => exact w_newa E hd (Or.inl ⟨rfl, rfl⟩) (gw_in arr_int rfl) k1
    | boolean => exact w_newa E hd (Or.inr ⟨rfl, rfl⟩) (gw_in arr_bool rfl) k1
    | _ => exact k1.2.2.2.2.elim
  | anewarray i =>
    simp only [okI, Bool.and_eq_true, beq_iff_eq] at hok
    obtain ⟨rfl, hn⟩ := hok
    obtain ⟨h8, hcl⟩ := clT_all o (List.mem_range.mpr ho) _ (lkp_mem hn)
    obtain ⟨n, s', rfl, k1⟩ := tI_e hex
    exact w_anew E hd (gw_in hcl rfl) k1
  | multianewarray i q =>
    simp only [okI, Bool.and_eq_true, beq_iff_eq] at hok
    obtain ⟨⟨rfl, rfl⟩, rfl⟩ := hok
    obtain ⟨rfl, k0⟩ := hex
    obtain ⟨k', s1, rfl, k1⟩ := tI_e k0
    obtain ⟨n, s', rfl, k2⟩ := tI_e k1
    exact w_mna E hd (gw_in cl_mna rfl) (gw_in arr_int rfl) k2
  | invokevirtual i =>
    simp only [okI, Bool.and_eq_true, beq_iff_eq] at hok
    obtain ⟨⟨rfl, hn⟩, hx0⟩ := hok
    subst hx0
    have hw : moC y w = true := hmo
    rcases mlT_ok ho hn with ⟨h9, -⟩ | ⟨h9, -⟩ | ⟨h9, -⟩ | ⟨h9, -⟩ | ⟨h9, -⟩ | ⟨r, hr, hM, hq⟩
    · cases h9
    · cases h9
    · cases h9
    · cases h9
    · cases h9
    · rcases hq with ⟨-, q1, q2, q3, q4, q5, q6⟩ | ⟨h9, -⟩ | ⟨h9, -⟩ | ⟨h9, -⟩ | ⟨h9, -⟩
      · have hwr : w = r.2.2.2.2.1 := by
          unfold moC at hw
          rw [hr] at hw
          exact (of_decide_eq_true hw).symm
        subst hwr
        obtain ⟨⟨C, T, M⟩, hc⟩ : ∃ r', vwCl[r.2.2.2.2.1]? = some r' := ⟨_, List.getElem?_eq_getElem (show r.2.2.2.2.1 < vwCl.length from q6)⟩
        obtain ⟨f1, f2, f3, f4, f5, f6, f7, f8⟩ := cl_fx hc
        exact w_virt E hF hd hr hM q1 q2 q3 q4 q5 hc (by rw [f7, hM.2.2.2.2.2.1]) hex
      · cases h9
      · cases h9
      · cases h9
      · cases h9
  | invokestatic i =>
    simp only [okI, Bool.and_eq_true, beq_iff_eq, Bool.or_eq_true] at hok
    obtain ⟨⟨rfl, hn⟩, hx0⟩ := hok
    rcases mlT_ok ho hn with ⟨rfl, -⟩ | ⟨rfl, h9⟩ | ⟨rfl, h9⟩ | ⟨rfl, h9⟩ | ⟨rfl, h9⟩ | ⟨r, hr, hM, hq⟩
    · simp at hx0
    · match st, hex with
      | .int n :: .int dp :: .ref b :: .int sp0 :: .ref a :: s', k1 => exact w_copy E hd h9 k1
    · exact w_max E hd h9 hex
    · exact w_min E hd h9 hex
    · exact w_abs E hd h9 hex
    · rcases hq with ⟨rfl, -⟩ | ⟨rfl, q1, q2, q3⟩ | ⟨rfl, q1, q2, q3⟩ | ⟨rfl, -⟩ | ⟨rfl, -⟩
      · simp at hx0
      · exact w_stat E hF hd hr hM (Or.inl q1) q2 q3 hex
      · exact w_stat E hF hd hr hM (Or.inr q1) q2 q3 hex
      · simp at hx0
      · simp at hx0
  | invokespecial i =>
    simp only [okI, Bool.and_eq_true, beq_iff_eq, Bool.or_eq_true] at hok
    obtain ⟨⟨rfl, hn⟩, hx0⟩ := hok
    rcases mlT_ok ho hn with ⟨rfl, h9⟩ | ⟨rfl, -⟩ | ⟨rfl, -⟩ | ⟨rfl, -⟩ | ⟨rfl, -⟩ | ⟨r, hr, hM, hq⟩
    · exact w_oinit E hd h9 hex
    · simp at hx0
    · simp at hx0
    · simp at hx0
    · simp at hx0
    · rcases hq with ⟨rfl, -⟩ | ⟨rfl, -⟩ | ⟨rfl, -⟩ | ⟨rfl, q1, q2, q3, q4, q5, q6⟩ | ⟨rfl, q1, q2, q3, q4, q5, q6⟩
      · simp at hx0
      · simp at hx0
      · simp at hx0
      · exact w_spec E hF hd hr hM (Or.inl q1) q2 q3 q4 q5 q6 hex
      · exact w_spec E hF hd hr hM (Or.inr q1) q2 q3 q4 q5 q6 hex
  | ireturn =>
    have hl1 : len = 1 := by simpa [okI, insLen] using hok
    subst hl1
    obtain ⟨v, s', rfl, rfl, k1, k2⟩ := tI_e hex
    exact hR.1 pc v L h hd k1 k2
  | lreturn =>
    have hl1 : len = 1 := by simpa [okI, insLen] using hok
    subst hl1
    obtain ⟨v, s', rfl, rfl, k1, k2⟩ := tJ_e hex
    exact hR.2.1 pc v L h hd k1 k2
  | areturn =>
    have hl1 : len = 1 := by simpa [okI, insLen] using hok
    subst hl1
    obtain ⟨v, s', rfl, rfl, k1, k2⟩ := tR_e hex
    exact hR.2.2.1 pc v L h hd k1 k2
  | return_ =>
    have hl1 : len = 1 := by simpa [okI, insLen] using hok
    subst hl1
    obtain ⟨rfl, k1, k2⟩ := hex
    exact hR.2.2.2 pc L h hd k1 k2
  | _ => exact hex.elim
end SX

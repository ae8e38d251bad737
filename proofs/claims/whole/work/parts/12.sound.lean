/-! a method that the small machine runs is met -/
def rowOk (r : mR) : Prop := ∀ q ∈ r.2.2.2.2.2, decode r.2.1 q.1 = .ok (q.2.1, q.2.2.1) ∧ okI r.2.2.2.2.1 (r.1.name == "<init>") q.1 q.2.1 q.2.2.1 q.2.2.2.1 q.2.2.2.2.1 q.2.2.2.2.2.1 q.2.2.2.2.2.2 = true ∧ okM q.2.1 q.2.2.2.2.1 q.2.2.2.2.2.2 = true
set_option maxHeartbeats 4000000 in
theorem snd_step (hok : ∀ (k : Nat) (r : mR), mtab[k]? = some r → k < 226 → MTP r ∧ rowOk r) (hlaw : ∀ (k : Nat), 226 ≤ k → ∀ (d N S : Nat) (as : List Value) (h : aH) (Q : aQ), ¬ aAt d N S k as h Q) (l : Launch) (D : va_G) (cs : Nat → ClassId) (sz : Nat) (sp : Nat → Nat) (d : Nat) (ih : FS l D cs sz sp d (aAt d)) : FS l D cs sz sp (d + 1) (aAt (d + 1)) := by
  intro N S k as h Q hat hN hS r hr
  have hk : k < 226 := by
    rcases Nat.lt_or_ge k 226 with q | q
    · exact q
    · exact absurd hat (hlaw k q _ _ _ _ _ _)
  obtain ⟨hM, hrow⟩ := hok k r hr hk
  obtain ⟨hM1, hM2, hM3, hM4, hM5, hM6, hM7⟩ := hM
  have hat' : opt (mtab[k]?) fun r => (lg_sl as).length ≤ r.2.2.1 ∧ ∀ P : aK, aClo sa0 (aAt d) N S r.2.2.2.1 r.2.2.2.2.2 P Q → P 0 (entL as r.2.2.1) [] h := hat
  rw [hr] at hat'
  obtain ⟨hlen, hcl⟩ := hat'
  refine Met.ofW (cc := r.2.1) (maxL := r.2.2.1) (ret := r.2.2.2.1) hM5 rfl ?_
  intro p e s m args below meth c s₁ B hml hv
  obtain ⟨rfl, hz, hP, hK, hT, hZ, hn, hao, haa⟩ := hv
  have hx := B.exec
  have hb := B.bytes
  have hret := B.returns
  have hts0 := atoms_spec (ws := Cond.code r.1 r.2.1 r.2.2.1 r.2.2.2.1 :: gw_tbl) B.pre
  have hts : ∀ w ∈ gw_tbl, w.before (as.map (cv sz sp)).toArray s = true := fun w hw => hts0 w (List.mem_cons_of_mem _ hw)
  have hown : s.vm.findClass (ownS r.2.2.2.2.1) = some m.cls := by rw [hM6]; exact findClass_of_methodNamed B.named
  have hlocks := B.notSynchronized
  have hnm : meth.name = r.1.name := (name_of_methodNamed B.named B.method).1
  have E : EV p (headSpec (Cond.code r.1 r.2.1 r.2.2.1 r.2.2.2.1 :: gw_tbl) (rmd (d + 1) (N - h.1) (S - h.2.1))).room s m (as.map (cv sz sp)).toArray meth c D cs sz sp sa0 r.2.1 r.2.2.1 r.2.2.2.2.1 d N S h.1 h.2.1 (r.1.name == "<init>") := by
    refine ⟨hx, hb, hml, hown, hts, hK, hT, hZ, ⟨?_, ?_⟩, ⟨?_, ?_⟩, by rw [hz]; omega, fun q => by rw [hnm]; simpa using q, hn, hao, haa, fun _ _ q => q⟩
    · show d + 1 ≤ d + 1; omega
    · show 64 * (d + 1) ≤ 64 * (d + 1); omega
    · show N ≤ h.1 + (N - h.1); omega
    · show S ≤ h.2.1 + (S - h.2.1); omega
  have hR : RH (WPd p l e (headSpec (Cond.code r.1 r.2.1 r.2.2.1 r.2.2.2.1 :: gw_tbl) (rmd (d + 1) (N - h.1) (S - h.2.1))).room s m (as.map (cv sz sp)).toArray below meth c (MQ below (QcA D cs sz sp N S h Q) (as.map (cv sz sp)).toArray s (N - h.1) (S - h.2.1) (fun q => sz ≤ q)) D cs sz sp r.2.2.1 N S h.1 h.2.1) Q r.2.2.2.1 r.2.1 := by
    refine ⟨fun pc v L h' hd hrt hq => ?_, fun pc v L h' hd hrt hq => ?_, fun pc v L h' hd hrt hq => ?_, fun pc L h' hd hrt hq => ?_⟩
    · intro b1 b2 b3 b4 ls H locs hl hz' hP' hS'
      refine W.widen (k := N - h.1) (n := S - h.2.1) (by omega) (by omega) ?_
      rcases hrt with hrt | ⟨hrt, hv⟩
      · exact W.iret hx hb (hret.trans hrt) (fun t ht hW => ⟨⟨some (.int v), h', rfl, hq, b1, b2, b3, b4, by rw [ht]; exact hz', by rw [ht]; exact hP'⟩, hS'.F ht⟩) hS'.2.2 hd
      · exact W.zret hx hb (hret.trans hrt) (by rcases hv with rfl | rfl <;> rfl) (fun t ht hW => ⟨⟨some (.int v), h', rfl, hq, b1, b2, b3, b4, by rw [ht]; exact hz', by rw [ht]; exact hP'⟩, hS'.F ht⟩) hS'.2.2 hd
    · intro b1 b2 b3 b4 ls H locs hl hz' hP' hS'
      refine W.widen (k := N - h.1) (n := S - h.2.1) (by omega) (by omega) ?_
      exact W.lret hx hb (hret.trans hrt) (fun t ht hW => ⟨⟨some (.long v), h', rfl, hq, b1, b2, b3, b4, by rw [ht]; exact hz', by rw [ht]; exact hP'⟩, hS'.F ht⟩) hS'.2.2 hd
    · intro b1 b2 b3 b4 ls H locs hl hz' hP' hS'
      refine W.widen (k := N - h.1) (n := S - h.2.1) (by omega) (by omega) ?_
      exact W.aret (v := .ref (sz + v)) hx hb (hret.trans hrt) (Or.inl ⟨_, rfl⟩) (Or.inr ⟨_, rfl⟩) (fun t ht hW => ⟨⟨some (.ref v), h', rfl, hq, b1, b2, b3, b4, by rw [ht]; exact hz', by rw [ht]; exact hP'⟩, hS'.F ht⟩) hS'.2.2 hd
    · intro b1 b2 b3 b4 ls H locs hl hz' hP' hS'
      refine W.widen (k := N - h.1) (n := S - h.2.1) (by omega) (by omega) ?_
      exact W.vret hx hb (hret.trans hrt) (fun t ht hW => ⟨⟨none, h', rfl, hq, b1, b2, b3, b4, by rw [ht]; exact hz', by rw [ht]; exact hP'⟩, hS'.F ht⟩) hS'.2.2 hd
  have hfin := hcl (WPd p l e (headSpec (Cond.code r.1 r.2.1 r.2.2.1 r.2.2.2.1 :: gw_tbl) (rmd (d + 1) (N - h.1) (S - h.2.1))).room s m (as.map (cv sz sp)).toArray below meth c (MQ below (QcA D cs sz sp N S h Q) (as.map (cv sz sp)).toArray s (N - h.1) (S - h.2.1) (fun q => sz ≤ q)) D cs sz sp r.2.2.1 N S h.1 h.2.1) (fun pc L st h' hex => by
    obtain ⟨q, hq, hex⟩ := opt_e hex
    obtain ⟨g1, g2, g3⟩ := hrow (pc, q) (lkp_mem hq)
    exact w_ex E ih hM7 hR g1 g2 g3 hex)
  have := hfin (Nat.le_refl _) hN (Nat.le_refl _) hS _ s.heap [] (LR_entry hlen) hz hP va_S.rf
  rw [Nat.sub_self, Nat.sub_self] at this
  rw [lg_entry_eq]
  exact this
theorem snd_all (hok : ∀ (k : Nat) (r : mR), mtab[k]? = some r → k < 226 → MTP r ∧ rowOk r) (hlaw : ∀ (k : Nat), 226 ≤ k → ∀ (d N S : Nat) (as : List Value) (h : aH) (Q : aQ), ¬ aAt d N S k as h Q) (l : Launch) (D : va_G) (cs : Nat → ClassId) (sz : Nat) (sp : Nat → Nat) : ∀ d : Nat, FS l D cs sz sp d (aAt d)
  | 0 => fun _ _ _ _ _ _ h => h.elim
  | d + 1 => snd_step hok hlaw l D cs sz sp d (snd_all hok hlaw l D cs sz sp d)

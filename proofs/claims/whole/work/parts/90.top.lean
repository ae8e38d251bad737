/-! THE CLAIM OUT OF ONE WALK OF THE LAW'S BODY. Your part is whole_start (and what it stands on); all else here is the same for every law, but numbers. -/
def R_law : String := "HawkAsksLaw"
def lw_P (b : Addr) (xs : List Int32) (args : Array Value) (s : State) : Prop := args = #[.ref b] ∧ s.IntsAt b xs ∧ xs.length ≤ 448 ∧ (Jvm.Cond.and given_1 narrow_1).before args s = true
def lw_Q (_ : Array Value) (s : State) (o : Outcome) (t : State) : Prop := o = .returned (some (.int 1)) ∧ Framed s o t [] 600000 7302250
def lw_Z (below : List Frame) (a : Array Value) (s : State) : State → Prop := fun t => ∃ o, t.status = .running ∧ Ended t below o ∧ lw_Q a s o t
/-- the law's own end, with 1 on the stack, nothing written that was there before, its room as the claim has it -/
theorem lw_ret {p : Program} {l : Launch} {e : Env} {s : State} {m : MethodId} {below : List Frame} {meth : Method} {c : Code} {b : Nat} (hx : p.tables.exec = Jvm.exec) (hb : c.code = code) (hr : meth.sig.returnType = ret) (hlocks : meth.locks = false) {pc : Nat} {H : Heap} {ls : Array Slot} (hdg : decode code pc = .ok (.ireturn, 1)) : W p l e room_1 s m #[Value.ref b] below meth c H [] 600000 7302250 (lw_Z below #[Value.ref b] s) (F0 m pc ls [.int 1]) := by
  intro T hT X
  obtain ⟨fs, hret, hrun, hended, hW, hframe⟩ := X.leave (v := some (.int 1)) (hlocks := hlocks) (fun h => by rw [hr] at h; cases h)
  have hmeth' : T.vm.method? m = some meth := X.method'
  refine ⟨T.setFrames fs, ?_, .returned (some (.int 1)), hrun, hended, rfl, ⟨_, rfl⟩, hW, hframe⟩
  jvm_step X.here [X.here.top, hx, hb, hdg, hmeth', hr, ret, narrow_b1]
  (try refine ⟨rfl, ?_⟩); (try refine ⟨rfl, ?_⟩)
  first | (intro acts; rw [hret _ acts rfl rfl rfl]) | rw [hret _ _ rfl rfl rfl]
  exact Steps.refl _
/-- what holds at the law's entry: the machine, the code, the tables' words (any of lw_tbl by 'hts w (by decide +kernel)'), the script of L ints xs at the cell b, what the Statement gives of the start (any of its parts by flat_of_before) -/
def lw_At (p : Program) (s : State) (m : MethodId) (meth : Method) (c : Code) (b L : Nat) (xs : Nat → Int32) : Prop :=
  p.tables.exec = Jvm.exec ∧ c.code = code ∧ meth.sig.returnType = ret ∧ c.maxLocals = 4 ∧ s.vm.findClass R_law = some m.cls ∧ (∀ w ∈ lw_tbl, w.before #[Value.ref b] s = true) ∧ va_X b L xs s s.heap ∧ b < s.heap.size ∧ meth.locks = false ∧ (Jvm.Cond.and given_1 narrow_1).before #[Value.ref b] s = true
theorem ma_0 : ∀ r ∈ mtab_0, MTP r ∧ rowOk r := List.forall_mem_cons.mpr ⟨⟨mt_0, dc_0⟩, List.forall_mem_cons.mpr ⟨⟨mt_1, dc_1⟩, List.forall_mem_cons.mpr ⟨⟨mt_2, dc_2⟩, List.forall_mem_cons.mpr ⟨⟨mt_3, dc_3⟩, List.forall_mem_cons.mpr ⟨⟨mt_4, dc_4⟩, List.forall_mem_cons.mpr ⟨⟨mt_5, dc_5⟩, List.forall_mem_cons.mpr ⟨⟨mt_6, dc_6⟩, List.forall_mem_cons.mpr ⟨⟨mt_7, dc_7⟩, List.forall_mem_cons.mpr ⟨⟨mt_8, dc_8⟩, List.forall_mem_cons.mpr ⟨⟨mt_9, dc_9⟩, List.forall_mem_cons.mpr ⟨⟨mt_10, dc_10⟩, List.forall_mem_cons.mpr ⟨⟨mt_11, dc_11⟩, List.forall_mem_cons.mpr ⟨⟨mt_12, dc_12⟩, List.forall_mem_cons.mpr ⟨⟨mt_13, dc_13⟩, List.forall_mem_cons.mpr ⟨⟨mt_14, dc_14⟩, List.forall_mem_cons.mpr ⟨⟨mt_15, dc_15⟩, List.forall_mem_cons.mpr ⟨⟨mt_16, dc_16⟩, List.forall_mem_cons.mpr ⟨⟨mt_17, dc_17⟩, List.forall_mem_cons.mpr ⟨⟨mt_18, dc_18⟩, List.forall_mem_cons.mpr ⟨⟨mt_19, dc_19⟩, List.forall_mem_cons.mpr ⟨⟨mt_20, dc_20⟩, List.forall_mem_cons.mpr ⟨⟨mt_21, dc_21⟩, List.forall_mem_cons.mpr ⟨⟨mt_22, dc_22⟩, List.forall_mem_cons.mpr ⟨⟨mt_23, dc_23⟩, fun _ h => absurd h List.not_mem_nil⟩⟩⟩⟩⟩⟩⟩⟩⟩⟩⟩⟩⟩⟩⟩⟩⟩⟩⟩⟩⟩⟩⟩⟩
theorem ma_1 : ∀ r ∈ mtab_1, MTP r ∧ rowOk r := List.forall_mem_cons.mpr ⟨⟨mt_24, dc_24⟩, List.forall_mem_cons.mpr ⟨⟨mt_25, dc_25⟩, List.forall_mem_cons.mpr ⟨⟨mt_26, dc_26⟩, List.forall_mem_cons.mpr ⟨⟨mt_27, dc_27⟩, List.forall_mem_cons.mpr ⟨⟨mt_28, dc_28⟩, List.forall_mem_cons.mpr ⟨⟨mt_29, dc_29⟩, List.forall_mem_cons.mpr ⟨⟨mt_30, dc_30⟩, List.forall_mem_cons.mpr ⟨⟨mt_31, dc_31⟩, List.forall_mem_cons.mpr ⟨⟨mt_32, dc_32⟩, List.forall_mem_cons.mpr ⟨⟨mt_33, dc_33⟩, List.forall_mem_cons.mpr ⟨⟨mt_34, dc_34⟩, List.forall_mem_cons.mpr ⟨⟨mt_35, dc_35⟩, List.forall_mem_cons.mpr ⟨⟨mt_36, dc_36⟩, List.forall_mem_cons.mpr ⟨⟨mt_37, dc_37⟩, List.forall_mem_cons.mpr ⟨⟨mt_38, dc_38⟩, List.forall_mem_cons.mpr ⟨⟨mt_39, dc_39⟩, List.forall_mem_cons.mpr ⟨⟨mt_40, dc_40⟩, List.forall_mem_cons.mpr ⟨⟨mt_41, dc_41⟩, List.forall_mem_cons.mpr ⟨⟨mt_42, dc_42⟩, List.forall_mem_cons.mpr ⟨⟨mt_43, dc_43⟩, List.forall_mem_cons.mpr ⟨⟨mt_44, dc_44⟩, List.forall_mem_cons.mpr ⟨⟨mt_45, dc_45⟩, List.forall_mem_cons.mpr ⟨⟨mt_46, dc_46⟩, List.forall_mem_cons.mpr ⟨⟨mt_47, dc_47⟩, fun _ h => absurd h List.not_mem_nil⟩⟩⟩⟩⟩⟩⟩⟩⟩⟩⟩⟩⟩⟩⟩⟩⟩⟩⟩⟩⟩⟩⟩⟩
theorem ma_2 : ∀ r ∈ mtab_2, MTP r ∧ rowOk r := List.forall_mem_cons.mpr ⟨⟨mt_48, dc_48⟩, List.forall_mem_cons.mpr ⟨⟨mt_49, dc_49⟩, List.forall_mem_cons.mpr ⟨⟨mt_50, dc_50⟩, List.forall_mem_cons.mpr ⟨⟨mt_51, dc_51⟩, List.forall_mem_cons.mpr ⟨⟨mt_52, dc_52⟩, List.forall_mem_cons.mpr ⟨⟨mt_53, dc_53⟩, List.forall_mem_cons.mpr ⟨⟨mt_54, dc_54⟩, List.forall_mem_cons.mpr ⟨⟨mt_55, dc_55⟩, List.forall_mem_cons.mpr ⟨⟨mt_56, dc_56⟩, List.forall_mem_cons.mpr ⟨⟨mt_57, dc_57⟩, List.forall_mem_cons.mpr ⟨⟨mt_58, dc_58⟩, List.forall_mem_cons.mpr ⟨⟨mt_59, dc_59⟩, List.forall_mem_cons.mpr ⟨⟨mt_60, dc_60⟩, List.forall_mem_cons.mpr ⟨⟨mt_61, dc_61⟩, List.forall_mem_cons.mpr ⟨⟨mt_62, dc_62⟩, List.forall_mem_cons.mpr ⟨⟨mt_63, dc_63⟩, List.forall_mem_cons.mpr ⟨⟨mt_64, dc_64⟩, List.forall_mem_cons.mpr ⟨⟨mt_65, dc_65⟩, List.forall_mem_cons.mpr ⟨⟨mt_66, dc_66⟩, List.forall_mem_cons.mpr ⟨⟨mt_67, dc_67⟩, List.forall_mem_cons.mpr ⟨⟨mt_68, dc_68⟩, List.forall_mem_cons.mpr ⟨⟨mt_69, dc_69⟩, List.forall_mem_cons.mpr ⟨⟨mt_70, dc_70⟩, List.forall_mem_cons.mpr ⟨⟨mt_71, dc_71⟩, fun _ h => absurd h List.not_mem_nil⟩⟩⟩⟩⟩⟩⟩⟩⟩⟩⟩⟩⟩⟩⟩⟩⟩⟩⟩⟩⟩⟩⟩⟩
theorem ma_3 : ∀ r ∈ mtab_3, MTP r ∧ rowOk r := List.forall_mem_cons.mpr ⟨⟨mt_72, dc_72⟩, List.forall_mem_cons.mpr ⟨⟨mt_73, dc_73⟩, List.forall_mem_cons.mpr ⟨⟨mt_74, dc_74⟩, List.forall_mem_cons.mpr ⟨⟨mt_75, dc_75⟩, List.forall_mem_cons.mpr ⟨⟨mt_76, dc_76⟩, List.forall_mem_cons.mpr ⟨⟨mt_77, dc_77⟩, List.forall_mem_cons.mpr ⟨⟨mt_78, dc_78⟩, List.forall_mem_cons.mpr ⟨⟨mt_79, dc_79⟩, List.forall_mem_cons.mpr ⟨⟨mt_80, dc_80⟩, List.forall_mem_cons.mpr ⟨⟨mt_81, dc_81⟩, List.forall_mem_cons.mpr ⟨⟨mt_82, dc_82⟩, List.forall_mem_cons.mpr ⟨⟨mt_83, dc_83⟩, List.forall_mem_cons.mpr ⟨⟨mt_84, dc_84⟩, List.forall_mem_cons.mpr ⟨⟨mt_85, dc_85⟩, List.forall_mem_cons.mpr ⟨⟨mt_86, dc_86⟩, List.forall_mem_cons.mpr ⟨⟨mt_87, dc_87⟩, List.forall_mem_cons.mpr ⟨⟨mt_88, dc_88⟩, List.forall_mem_cons.mpr ⟨⟨mt_89, dc_89⟩, List.forall_mem_cons.mpr ⟨⟨mt_90, dc_90⟩, List.forall_mem_cons.mpr ⟨⟨mt_91, dc_91⟩, List.forall_mem_cons.mpr ⟨⟨mt_92, dc_92⟩, List.forall_mem_cons.mpr ⟨⟨mt_93, dc_93⟩, List.forall_mem_cons.mpr ⟨⟨mt_94, dc_94⟩, List.forall_mem_cons.mpr ⟨⟨mt_95, dc_95⟩, fun _ h => absurd h List.not_mem_nil⟩⟩⟩⟩⟩⟩⟩⟩⟩⟩⟩⟩⟩⟩⟩⟩⟩⟩⟩⟩⟩⟩⟩⟩
theorem ma_4 : ∀ r ∈ mtab_4, MTP r ∧ rowOk r := List.forall_mem_cons.mpr ⟨⟨mt_96, dc_96⟩, List.forall_mem_cons.mpr ⟨⟨mt_97, dc_97⟩, List.forall_mem_cons.mpr ⟨⟨mt_98, dc_98⟩, List.forall_mem_cons.mpr ⟨⟨mt_99, dc_99⟩, List.forall_mem_cons.mpr ⟨⟨mt_100, dc_100⟩, List.forall_mem_cons.mpr ⟨⟨mt_101, dc_101⟩, List.forall_mem_cons.mpr ⟨⟨mt_102, dc_102⟩, List.forall_mem_cons.mpr ⟨⟨mt_103, dc_103⟩, List.forall_mem_cons.mpr ⟨⟨mt_104, dc_104⟩, List.forall_mem_cons.mpr ⟨⟨mt_105, dc_105⟩, List.forall_mem_cons.mpr ⟨⟨mt_106, dc_106⟩, List.forall_mem_cons.mpr ⟨⟨mt_107, dc_107⟩, List.forall_mem_cons.mpr ⟨⟨mt_108, dc_108⟩, List.forall_mem_cons.mpr ⟨⟨mt_109, dc_109⟩, List.forall_mem_cons.mpr ⟨⟨mt_110, dc_110⟩, List.forall_mem_cons.mpr ⟨⟨mt_111, dc_111⟩, List.forall_mem_cons.mpr ⟨⟨mt_112, dc_112⟩, List.forall_mem_cons.mpr ⟨⟨mt_113, dc_113⟩, List.forall_mem_cons.mpr ⟨⟨mt_114, dc_114⟩, List.forall_mem_cons.mpr ⟨⟨mt_115, dc_115⟩, List.forall_mem_cons.mpr ⟨⟨mt_116, dc_116⟩, List.forall_mem_cons.mpr ⟨⟨mt_117, dc_117⟩, List.forall_mem_cons.mpr ⟨⟨mt_118, dc_118⟩, List.forall_mem_cons.mpr ⟨⟨mt_119, dc_119⟩, fun _ h => absurd h List.not_mem_nil⟩⟩⟩⟩⟩⟩⟩⟩⟩⟩⟩⟩⟩⟩⟩⟩⟩⟩⟩⟩⟩⟩⟩⟩
theorem ma_5 : ∀ r ∈ mtab_5, MTP r ∧ rowOk r := List.forall_mem_cons.mpr ⟨⟨mt_120, dc_120⟩, List.forall_mem_cons.mpr ⟨⟨mt_121, dc_121⟩, List.forall_mem_cons.mpr ⟨⟨mt_122, dc_122⟩, List.forall_mem_cons.mpr ⟨⟨mt_123, dc_123⟩, List.forall_mem_cons.mpr ⟨⟨mt_124, dc_124⟩, List.forall_mem_cons.mpr ⟨⟨mt_125, dc_125⟩, List.forall_mem_cons.mpr ⟨⟨mt_126, dc_126⟩, List.forall_mem_cons.mpr ⟨⟨mt_127, dc_127⟩, List.forall_mem_cons.mpr ⟨⟨mt_128, dc_128⟩, List.forall_mem_cons.mpr ⟨⟨mt_129, dc_129⟩, List.forall_mem_cons.mpr ⟨⟨mt_130, dc_130⟩, List.forall_mem_cons.mpr ⟨⟨mt_131, dc_131⟩, List.forall_mem_cons.mpr ⟨⟨mt_132, dc_132⟩, List.forall_mem_cons.mpr ⟨⟨mt_133, dc_133⟩, List.forall_mem_cons.mpr ⟨⟨mt_134, dc_134⟩, List.forall_mem_cons.mpr ⟨⟨mt_135, dc_135⟩, List.forall_mem_cons.mpr ⟨⟨mt_136, dc_136⟩, List.forall_mem_cons.mpr ⟨⟨mt_137, dc_137⟩, List.forall_mem_cons.mpr ⟨⟨mt_138, dc_138⟩, List.forall_mem_cons.mpr ⟨⟨mt_139, dc_139⟩, List.forall_mem_cons.mpr ⟨⟨mt_140, dc_140⟩, List.forall_mem_cons.mpr ⟨⟨mt_141, dc_141⟩, List.forall_mem_cons.mpr ⟨⟨mt_142, dc_142⟩, List.forall_mem_cons.mpr ⟨⟨mt_143, dc_143⟩, fun _ h => absurd h List.not_mem_nil⟩⟩⟩⟩⟩⟩⟩⟩⟩⟩⟩⟩⟩⟩⟩⟩⟩⟩⟩⟩⟩⟩⟩⟩
theorem ma_6 : ∀ r ∈ mtab_6, MTP r ∧ rowOk r := List.forall_mem_cons.mpr ⟨⟨mt_144, dc_144⟩, List.forall_mem_cons.mpr ⟨⟨mt_145, dc_145⟩, List.forall_mem_cons.mpr ⟨⟨mt_146, dc_146⟩, List.forall_mem_cons.mpr ⟨⟨mt_147, dc_147⟩, List.forall_mem_cons.mpr ⟨⟨mt_148, dc_148⟩, List.forall_mem_cons.mpr ⟨⟨mt_149, dc_149⟩, List.forall_mem_cons.mpr ⟨⟨mt_150, dc_150⟩, List.forall_mem_cons.mpr ⟨⟨mt_151, dc_151⟩, List.forall_mem_cons.mpr ⟨⟨mt_152, dc_152⟩, List.forall_mem_cons.mpr ⟨⟨mt_153, dc_153⟩, List.forall_mem_cons.mpr ⟨⟨mt_154, dc_154⟩, List.forall_mem_cons.mpr ⟨⟨mt_155, dc_155⟩, List.forall_mem_cons.mpr ⟨⟨mt_156, dc_156⟩, List.forall_mem_cons.mpr ⟨⟨mt_157, dc_157⟩, List.forall_mem_cons.mpr ⟨⟨mt_158, dc_158⟩, List.forall_mem_cons.mpr ⟨⟨mt_159, dc_159⟩, List.forall_mem_cons.mpr ⟨⟨mt_160, dc_160⟩, List.forall_mem_cons.mpr ⟨⟨mt_161, dc_161⟩, List.forall_mem_cons.mpr ⟨⟨mt_162, dc_162⟩, List.forall_mem_cons.mpr ⟨⟨mt_163, dc_163⟩, List.forall_mem_cons.mpr ⟨⟨mt_164, dc_164⟩, List.forall_mem_cons.mpr ⟨⟨mt_165, dc_165⟩, List.forall_mem_cons.mpr ⟨⟨mt_166, dc_166⟩, List.forall_mem_cons.mpr ⟨⟨mt_167, dc_167⟩, fun _ h => absurd h List.not_mem_nil⟩⟩⟩⟩⟩⟩⟩⟩⟩⟩⟩⟩⟩⟩⟩⟩⟩⟩⟩⟩⟩⟩⟩⟩
theorem ma_7 : ∀ r ∈ mtab_7, MTP r ∧ rowOk r := List.forall_mem_cons.mpr ⟨⟨mt_168, dc_168⟩, List.forall_mem_cons.mpr ⟨⟨mt_169, dc_169⟩, List.forall_mem_cons.mpr ⟨⟨mt_170, dc_170⟩, List.forall_mem_cons.mpr ⟨⟨mt_171, dc_171⟩, List.forall_mem_cons.mpr ⟨⟨mt_172, dc_172⟩, List.forall_mem_cons.mpr ⟨⟨mt_173, dc_173⟩, List.forall_mem_cons.mpr ⟨⟨mt_174, dc_174⟩, List.forall_mem_cons.mpr ⟨⟨mt_175, dc_175⟩, List.forall_mem_cons.mpr ⟨⟨mt_176, dc_176⟩, List.forall_mem_cons.mpr ⟨⟨mt_177, dc_177⟩, List.forall_mem_cons.mpr ⟨⟨mt_178, dc_178⟩, List.forall_mem_cons.mpr ⟨⟨mt_179, dc_179⟩, List.forall_mem_cons.mpr ⟨⟨mt_180, dc_180⟩, List.forall_mem_cons.mpr ⟨⟨mt_181, dc_181⟩, List.forall_mem_cons.mpr ⟨⟨mt_182, dc_182⟩, List.forall_mem_cons.mpr ⟨⟨mt_183, dc_183⟩, List.forall_mem_cons.mpr ⟨⟨mt_184, dc_184⟩, List.forall_mem_cons.mpr ⟨⟨mt_185, dc_185⟩, List.forall_mem_cons.mpr ⟨⟨mt_186, dc_186⟩, List.forall_mem_cons.mpr ⟨⟨mt_187, dc_187⟩, List.forall_mem_cons.mpr ⟨⟨mt_188, dc_188⟩, List.forall_mem_cons.mpr ⟨⟨mt_189, dc_189⟩, List.forall_mem_cons.mpr ⟨⟨mt_190, dc_190⟩, List.forall_mem_cons.mpr ⟨⟨mt_191, dc_191⟩, fun _ h => absurd h List.not_mem_nil⟩⟩⟩⟩⟩⟩⟩⟩⟩⟩⟩⟩⟩⟩⟩⟩⟩⟩⟩⟩⟩⟩⟩⟩
theorem ma_8 : ∀ r ∈ mtab_8, MTP r ∧ rowOk r := List.forall_mem_cons.mpr ⟨⟨mt_192, dc_192⟩, List.forall_mem_cons.mpr ⟨⟨mt_193, dc_193⟩, List.forall_mem_cons.mpr ⟨⟨mt_194, dc_194⟩, List.forall_mem_cons.mpr ⟨⟨mt_195, dc_195⟩, List.forall_mem_cons.mpr ⟨⟨mt_196, dc_196⟩, List.forall_mem_cons.mpr ⟨⟨mt_197, dc_197⟩, List.forall_mem_cons.mpr ⟨⟨mt_198, dc_198⟩, List.forall_mem_cons.mpr ⟨⟨mt_199, dc_199⟩, List.forall_mem_cons.mpr ⟨⟨mt_200, dc_200⟩, List.forall_mem_cons.mpr ⟨⟨mt_201, dc_201⟩, List.forall_mem_cons.mpr ⟨⟨mt_202, dc_202⟩, List.forall_mem_cons.mpr ⟨⟨mt_203, dc_203⟩, List.forall_mem_cons.mpr ⟨⟨mt_204, dc_204⟩, List.forall_mem_cons.mpr ⟨⟨mt_205, dc_205⟩, List.forall_mem_cons.mpr ⟨⟨mt_206, dc_206⟩, List.forall_mem_cons.mpr ⟨⟨mt_207, dc_207⟩, List.forall_mem_cons.mpr ⟨⟨mt_208, dc_208⟩, List.forall_mem_cons.mpr ⟨⟨mt_209, dc_209⟩, List.forall_mem_cons.mpr ⟨⟨mt_210, dc_210⟩, List.forall_mem_cons.mpr ⟨⟨mt_211, dc_211⟩, List.forall_mem_cons.mpr ⟨⟨mt_212, dc_212⟩, List.forall_mem_cons.mpr ⟨⟨mt_213, dc_213⟩, List.forall_mem_cons.mpr ⟨⟨mt_214, dc_214⟩, List.forall_mem_cons.mpr ⟨⟨mt_215, dc_215⟩, fun _ h => absurd h List.not_mem_nil⟩⟩⟩⟩⟩⟩⟩⟩⟩⟩⟩⟩⟩⟩⟩⟩⟩⟩⟩⟩⟩⟩⟩⟩
theorem ma_9 : ∀ r ∈ mtab_9, MTP r ∧ rowOk r := List.forall_mem_cons.mpr ⟨⟨mt_216, dc_216⟩, List.forall_mem_cons.mpr ⟨⟨mt_217, dc_217⟩, List.forall_mem_cons.mpr ⟨⟨mt_218, dc_218⟩, List.forall_mem_cons.mpr ⟨⟨mt_219, dc_219⟩, List.forall_mem_cons.mpr ⟨⟨mt_220, dc_220⟩, List.forall_mem_cons.mpr ⟨⟨mt_221, dc_221⟩, List.forall_mem_cons.mpr ⟨⟨mt_222, dc_222⟩, List.forall_mem_cons.mpr ⟨⟨mt_223, dc_223⟩, List.forall_mem_cons.mpr ⟨⟨mt_224, dc_224⟩, List.forall_mem_cons.mpr ⟨⟨mt_225, dc_225⟩, fun _ h => absurd h List.not_mem_nil⟩⟩⟩⟩⟩⟩⟩⟩⟩⟩
theorem ma_all : ∀ r ∈ mtab, MTP r ∧ rowOk r := List.forall_mem_append.mpr ⟨ma_0, List.forall_mem_append.mpr ⟨ma_1, List.forall_mem_append.mpr ⟨ma_2, List.forall_mem_append.mpr ⟨ma_3, List.forall_mem_append.mpr ⟨ma_4, List.forall_mem_append.mpr ⟨ma_5, List.forall_mem_append.mpr ⟨ma_6, List.forall_mem_append.mpr ⟨ma_7, List.forall_mem_append.mpr ⟨ma_8, ma_9⟩⟩⟩⟩⟩⟩⟩⟩⟩
theorem mtab_len : mtab.length = 226 := by decide +kernel
theorem hok_all : ∀ (k : Nat) (r : mR), mtab[k]? = some r → k < 226 → MTP r ∧ rowOk r := fun _ r hr _ => ma_all r (List.mem_of_getElem? hr)
theorem hlaw_all : ∀ (k : Nat), 226 ≤ k → ∀ (d N S : Nat) (as : List Value) (h : aH) (Q : aQ), ¬ aAt d N S k as h Q
  | _, _, 0, _, _, _, _, _ => fun h => h
  | k, hk, d + 1, N, S, as, h, Q => fun q => by
    have q' : opt (mtab[k]?) fun r => (lg_sl as).length ≤ r.2.2.1 ∧ ∀ P : aK, aClo sa0 (aAt d) N S r.2.2.2.1 r.2.2.2.2.2 P Q → P 0 (entL as r.2.2.1) [] h := q
    rw [List.getElem?_eq_none (by rw [mtab_len]; exact hk)] at q'
    exact q'
set_option maxHeartbeats 4000000 in
theorem st_arr {s : State} {b : Nat} (hts : ∀ w ∈ lw_tbl, w.before #[Value.ref b] s = true) (hgv : (Jvm.Cond.and given_1 narrow_1).before #[Value.ref b] s = true) : ∀ j, j < 2 → ∃ t : Nat, va_Z RX1 (snm j) "[I" (.ref t) (fun q => s.heap.size ≤ q) s s.heap ∧ ∀ q, sa0 j = some q → va_T .int t q.1 (fun i => .int (q.2 i)) (fun q => s.heap.size ≤ q) s s.heap := by
  have hs := flat_of_before _ hgv
  have hA : ∀ a : Nat, a < s.heap.size → ¬ (fun q => s.heap.size ≤ q) a := fun a h => Nat.not_le.mpr h
  intro j hj
  rcases (show j = 0 ∨ j = 1 by omega) with rfl | rfl
  · obtain ⟨t, h1, h2⟩ := va_Tof (args := #[Value.ref b]) (s := s) (tm := Term.static "HawkAsks$Asks" "SIZE_BODIES" "[I") (ty := .int) (N := 6) (f := fun i => .int (Int32.ofInt (([10, 11, 12, 11, 13, 14] : List Int).getD i 0))) (A := fun q => s.heap.size ≤ q) (by decide) (hs _ (by decide +kernel)) (va_eqt (z := 6) (hs _ (by decide +kernel))) (fun j hj => by
      rcases (show j = 0 ∨ j = 1 ∨ j = 2 ∨ j = 3 ∨ j = 4 ∨ j = 5 by omega) with rfl | rfl | rfl | rfl | rfl | rfl
      · exact va_eqt (z := 10) (hs _ (by decide +kernel))
      · exact va_eqt (z := 11) (hs _ (by decide +kernel))
      · exact va_eqt (z := 12) (hs _ (by decide +kernel))
      · exact va_eqt (z := 11) (hs _ (by decide +kernel))
      · exact va_eqt (z := 13) (hs _ (by decide +kernel))
      · exact va_eqt (z := 14) (hs _ (by decide +kernel))) hA
    refine ⟨t, va_Zof (hts _ (by decide +kernel)) (hts _ (by decide +kernel)) h1 hA, fun q hq => ?_⟩
    cases hq
    exact h2
  · obtain ⟨t, h1, h2⟩ := va_Tof (args := #[Value.ref b]) (s := s) (tm := Term.static "HawkAsks$Asks" "MARK_BODIES" "[I") (ty := .int) (N := 6) (f := fun i => .int (Int32.ofInt (([20, 21, 24, 22, 23, 23] : List Int).getD i 0))) (A := fun q => s.heap.size ≤ q) (by decide) (hs _ (by decide +kernel)) (va_eqt (z := 6) (hs _ (by decide +kernel))) (fun j hj => by
      rcases (show j = 0 ∨ j = 1 ∨ j = 2 ∨ j = 3 ∨ j = 4 ∨ j = 5 by omega) with rfl | rfl | rfl | rfl | rfl | rfl
      · exact va_eqt (z := 20) (hs _ (by decide +kernel))
      · exact va_eqt (z := 21) (hs _ (by decide +kernel))
      · exact va_eqt (z := 24) (hs _ (by decide +kernel))
      · exact va_eqt (z := 22) (hs _ (by decide +kernel))
      · exact va_eqt (z := 23) (hs _ (by decide +kernel))
      · exact va_eqt (z := 23) (hs _ (by decide +kernel))) hA
    refine ⟨t, va_Zof (hts _ (by decide +kernel)) (hts _ (by decide +kernel)) h1 hA, fun q hq => ?_⟩
    cases hq
    exact h2
theorem cls_all {s : State} {b : Nat} (hts : ∀ w ∈ lw_tbl, w.before #[Value.ref b] s = true) : ∃ D : va_G, ∀ (k : Nat) (q : vw_C), vwCl[k]? = some q → u_Kn s q.1 q.2.1 q.2.2 (D.1 k) (D.2 k) := by
  have h1 : ∀ k : Nat, ∃ z : ClassId × (Nat → Nat), ∀ q : vw_C, vwCl[k]? = some q → u_Kn s q.1 q.2.1 q.2.2 z.1 z.2 := by
    intro k
    cases hq : vwCl[k]? with
    | none => exact ⟨(0, fun _ => 0), fun q h => by cases h⟩
    | some r =>
      obtain ⟨C, T, M⟩ := r
      obtain ⟨f1, f2, f3, f4, f5, f6, f7, f8⟩ := cl_fx hq
      obtain ⟨cC, iS, h⟩ := u_known (C := C) (T := T) (N := M) (n := M) hts (fun w hw => (List.mem_filter.mp (cl_ws hq w hw)).1) (hts _ (List.mem_filter.mp f5).1)
      exact ⟨(cC, iS), fun q h9 => by cases h9; exact h⟩
  obtain ⟨f, hf⟩ := Classical.skolem.mp h1
  exact ⟨(fun k => (f k).1, fun k => (f k).2), hf⟩
theorem arr_all {s : State} {b : Nat} (hts : ∀ w ∈ lw_tbl, w.before #[Value.ref b] s = true) : ∃ cs : Nat → ClassId, ∀ (k : Nat) (q : ClassId × FieldType), (tyl cs)[k]? = some q → ArrOfT s q.1 q.2 ∧ va_RA s q.1 q.2 := by
  obtain ⟨c0, k0, m0, f0, g0, e0⟩ := Cond.arrayClass_spec (hts _ arr_int)
  obtain ⟨c1, k1, m1, f1, g1, e1⟩ := Cond.arrayClass_spec (hts _ arr_bool)
  obtain ⟨m2, c2, k2, a2, -, g2, e2, f2⟩ := Cond.arrayOver_spec (hts _ arr_obj)
  obtain ⟨m3, c3, k3, a3, -, g3, e3, f3⟩ := ao_spec (s := s) (hts _ arr_arr)
  refine ⟨fun k => match k with | 0 => c0 | 1 => c1 | 2 => c2 | _ => c3, fun k q hq => ?_⟩
  match k, hq with
  | 0, hq => cases hq; exact ⟨fun n z => ⟨(fun k h => by cases h), k0, g0, m0, e0⟩, f0⟩
  | 1, hq => cases hq; exact ⟨fun n z => ⟨(fun k h => by cases h), k1, g1, m1, e1⟩, f1⟩
  | 2, hq => cases hq; exact ⟨fun n z => ⟨(fun k h => by cases h), k2, g2, m2, e2⟩, k2, m2, g2, e2, a2, f2⟩
  | 3, hq => cases hq; exact ⟨fun n z => ⟨(fun k h => by cases h), k3, g3, m3, e3⟩, f3⟩
  | k + 4, hq => simp [tyl] at hq
set_option maxHeartbeats 4000000 in
theorem whole_start {p : Program} {e : Env} {s : State} {m : MethodId} {below : List Frame} {meth : Method} {c : Code} (l : Launch) {b L : Nat} {xs : Nat → Int32} (hL : L ≤ 448) (C0 : lw_At p s m meth c b L xs) : W p l e room_1 s m #[Value.ref b] below meth c s.heap [] 0 0 (lw_Z below #[Value.ref b] s) (entryFrame m ([Value.ref b] : List Value).toArray 4) := by
  obtain ⟨hx, hb, hr, hml, hown, hts, hX, hbl, hlocks, hgv⟩ := C0
  obtain ⟨D, hD⟩ := cls_all hts
  obtain ⟨cs, hcs⟩ := arr_all hts
  obtain ⟨t0, hz0, hv0⟩ := st_arr hts hgv 0 (by decide)
  obtain ⟨t1, hz1, hv1⟩ := st_arr hts hgv 1 (by decide)
  let sp : Nat → Nat := fun j => match j with | 0 => t0 | 1 => t1 | _ => b
  have hK : va_K D vwCl (tyl cs) s := ⟨hD, hcs⟩
  have hT : ∀ j q, saX L xs j = some q → va_T .int (sp j) q.1 (fun i => .int (q.2 i)) (fun q => s.heap.size ≤ q) s s.heap := by
    intro j q hq
    match j, hq with
    | 0, hq => exact hv0 q hq
    | 1, hq => exact hv1 q hq
    | 2, hq =>
      cases hq
      obtain ⟨scr, h1, h2, h3, h4, h5⟩ := hX
      exact ⟨scr, h1, h2, h3, Nat.le_of_eq h4.symm, by rw [h4], h5, Nat.not_le.mpr hbl⟩
    | j + 3, hq => exact absurd hq (by simp [saX, sa0])
  have hZ : ∀ j, j < 2 → va_Z RX1 (snm j) "[I" (.ref (sp j)) (fun q => s.heap.size ≤ q) s s.heap := by
    intro j hj
    rcases (show j = 0 ∨ j = 1 by omega) with rfl | rfl
    · exact hz0
    · exact hz1
  have E : EV p room_1 s m #[Value.ref b] meth c D cs s.heap.size sp (saX L xs) code 4 10 40 600000 7302250 0 0 false := by
    refine ⟨hx, hb, hml, hown, fun w hw => hts w (List.mem_filter.mp hw).1, hK, hT, hZ, ⟨by decide, by decide⟩, ⟨by decide, by decide⟩, Nat.le_refl _, (fun h => Bool.noConfusion h), fun w hw hn => ?_, hts _ arr_obj, hts _ arr_arr, fun j q hq => ?_⟩
    · have h1 := hts w hw
      cases w <;> first | exact va_Nw.of rfl h1 | (simp [isN] at hn)
    · match j, hq with
      | 0, hq => exact hq
      | 1, hq => exact hq
      | j + 2, hq => simp [sa0] at hq
  have hR : RH (WPd p l e room_1 s m #[Value.ref b] below meth c (lw_Z below #[Value.ref b] s) D cs s.heap.size sp 4 600000 7302250 0 0) (fun r _ => r = some (.int 1)) (some .boolean) code := by
    refine ⟨fun pc v L h' hd hrt hq => ?_, fun pc v L h' hd hrt hq => ?_, fun pc v L h' hd hrt hq => ?_, fun pc L h' hd hrt hq => ?_⟩
    · intro b1 b2 b3 b4 ls H locs hl hz' hP' hS'
      cases hq
      refine va_forget (fun q hq => hS'.2.2 q hq) ?_
      refine W.widen (k := 600000) (n := 7302250) (by omega) (by omega) ?_
      exact lw_ret hx hb hr hlocks hd
    · cases hrt
    · cases hrt
    · cases hrt
  have hfin := law_run L hL xs (WPd p l e room_1 s m #[Value.ref b] below meth c (lw_Z below #[Value.ref b] s) D cs s.heap.size sp 4 600000 7302250 0 0) (fun pc L st h' hex => by
    obtain ⟨q, hq, hex⟩ := opt_e hex
    obtain ⟨g1, g2, g3⟩ := dc_law (pc, q) (lkp_mem hq)
    exact w_ex E (snd_all hok_all hlaw_all l D cs s.heap.size sp 40) (by decide) hR g1 g2 g3 hex)
  have hP0 : va_P D vwCl (wsH s.heap.size sp cs (0, 0, fun _ => .inr (0, []))) s.heap := fun k q h => by simp [wsH] at h
  have hl0 : LR s.heap.size sp ((lg_sl ([Value.ref b] : List Value) ++ List.replicate (4 - (lg_sl ([Value.ref b] : List Value)).length) Slot.unset).toArray) 4 [some (.float 2), none, none, none] := by
    have := lv_entry ([Value.ref b]) (n := 4) (by simp [lg_sl, Value.category])
    exact ⟨rfl, this.1, this.2.1, fun q hq => this.2.2 q hq⟩
  have := hfin (Nat.le_refl _) (by decide) (Nat.le_refl _) (by decide) _ s.heap [] hl0 rfl hP0 va_S.rf
  rw [lg_entry_eq]
  exact this
-- ===== YOUR PART ENDS =====
set_option maxHeartbeats 4000000 in
theorem lw_walk (l : Launch) (b : Addr) (xs : List Int32) : MetFree l x (headSpec (Jvm.Cond.code x code maxLocals ret :: tables_1) room_1) (lw_P b xs) (fun _ _ _ _ _ => True) lw_Q := by
  refine MetFree.of_bodyS (code := code) (maxLocals := maxLocals) (ret := ret) (by decide) ?_ ?_
  · intro args s m h hn
    obtain ⟨meth, c, h1, h2, h3, h4, h5, h6, -, -⟩ := Cond.code_spec hn (atoms_spec (ws := Jvm.Cond.code x code maxLocals ret :: tables_1) h _ List.mem_cons_self)
    exact ⟨meth, c, h1, h2, h3, h4, h5, h6⟩
  · intro p e s m args below meth c s₁ B hml0 hP _
    obtain ⟨rfl, hx, hbd, hgv⟩ := hP
    obtain ⟨scr, harrAt, hlist, hof, hsmall⟩ := hx
    obtain ⟨hcb, hkn, -, -⟩ := State.arrayAt?_spec harrAt
    have hown : s.vm.findClass R_law = some m.cls := findClass_of_methodNamed B.named
    have hts0 : ∀ c ∈ (Jvm.Cond.code x code maxLocals ret :: tables_1), c.before #[Value.ref b] s = true := atoms_spec (ws := Jvm.Cond.code x code maxLocals ret :: tables_1) B.pre
    have hts : ∀ w ∈ lw_tbl, w.before #[Value.ref b] s = true := k2_hts_sels lw_privs (fun w hw => hts0 w (List.mem_cons_of_mem _ hw)) lw_privs_ok
    have hml : c.maxLocals = 4 := B.maxLocals_eq (hts0 _ List.mem_cons_self)
    have X₀ : Stand p l e room_1 s m #[Value.ref b] below meth c s₁ [] 0 0 := Stand.of_body B
    have hh0 : s₁.heap = s.heap := by rw [B.state]; rfl
    have hsz : scr.slots.size = xs.length := by rw [← Array.length_toList, hlist, List.length_map]
    have hval : ∀ j : Nat, j < xs.length → scr.slots[j]? = some (.int (xs.getD j 0)) := fun j hj => by
      rw [← Array.getElem?_toList, hlist]
      simp [hj]
    have hbl : b < s.heap.size := (Array.getElem?_eq_some_iff.mp hcb).1
    have hX : va_X b xs.length (fun j => xs.getD j 0) s s.heap := ⟨scr, hcb, hof, hkn, hsz, hval⟩
    have K : W p l e room_1 s m #[Value.ref b] below meth c s₁.heap [] 0 0 (lw_Z below #[Value.ref b] s) (entryFrame m ([Value.ref b] : List Value).toArray 4) := by
      rw [hh0]
      exact whole_start l hbd ⟨B.exec, B.bytes, B.returns, hml, hown, hts, hX, hbl, B.notSynchronized, hgv⟩
    obtain ⟨t, a1, o, b1, b2, b3⟩ := K s₁ rfl X₀
    exact ⟨t, o, a1, b1, b2, b3⟩
theorem lw_pre_spec {args : Array Value} {s : State} (h : (Jvm.Cond.and given_1 narrow_1).before args s = true) (hr : rest_1_c.before args s = true) : ∃ (b : Addr) (xs : List Int32), lw_P b xs args s := by
  have hs := flat_of_before _ h
  have hq := flat_of_before _ hr
  have hc : (Cond.count 1).before args s = true := hs _ (by decide +kernel)
  have harr : (Cond.arrayOf (.arg 0) .int).before args s = true := hs _ (by decide +kernel)
  have hle : (Cond.le (.length (.arg 0)) (.int 448)).before args s = true := hs _ (by decide +kernel)
  have hlen : (Cond.isInt (.length (.arg 0))).before args s = true := hq _ (by decide +kernel)
  have hall : (Cond.all (.arg 0) (.isInt (.elem (.arg 0) (.index 0)))).before args s = true := hq _ (by decide +kernel)
  obtain ⟨b, xs, hb, hx⟩ := State.ints_of_pre rfl harr hlen hall
  have hsm : xs.length < 2 ^ 31 := hx.choose_spec.2.2.2
  have hev : (Term.length (.arg 0)).eval args s none [] s = some (.int xs.length.toInt32) := hx.length_eval hb
  have hv := Cond.le_ints hev (show (Term.int 448).eval args s none [] s = some (.int 448) from rfl)
  have hd : xs.length.toInt32 ≤ 448 := by
    simpa [Cond.before, Cond.holds, hv] using hle
  have hN : xs.length ≤ 448 := (Int32.ofNat_le_ofNat hsm (by decide)).mp (show Int32.ofNat xs.length ≤ Int32.ofNat 448 from hd)
  exact ⟨b, xs, Cond.one_arg hc (show args[0]? = some (.ref b) from hb), hx, hN, h⟩
theorem lw_comes (l : Launch) : Comes l x (Jvm.Cond.code x code maxLocals ret :: tables_1) room_1 (fun tb e args s => Calls_1 tb e args s ∧ rest_1 tb e args s ∧ Pre_1 tb e args s)
    (fun _ _ args s o t => lw_Q args s o t) := by
  intro p e ha hc hk s m args below hf hfit hheap happ hpre
  obtain ⟨b, xs, hP⟩ := lw_pre_spec hpre.2.2 hpre.2.1
  obtain ⟨k, o, h1, h2, h3, hQ⟩ := lw_walk l b xs p e ha hc hk s m args below hf ((Spec.applies_iff_loose hf).mp happ).1 hP trivial
  exact ⟨k, o, h1, h2, h3, hQ⟩
theorem lw_frame {s t : State} {o : Outcome} {args : Array Value} (h : Framed s o t [] 600000 7302250) :
    Framed s o t (fieldLocs frame_1_writes args s ++ arrayLocs frame_1_arrays args s ++ staticLocs frame_1_statics s) 600000 7302250 := h
theorem lw_limb (L : Cond) (hL : ∀ (args : Array Value) (s t : State), L.after args s (.returned (some (.int 1))) t = true) :
    ArmFor flags0 classFile x code maxLocals ret World_1 tables_1 room_1 Calls_1 rest_1 Pre_1
      (fun tb e a s o t => postC L tb e a s o t ∧ Framed s o t (fieldLocs frame_1_writes a s ++ arrayLocs frame_1_arrays a s ++ staticLocs frame_1_statics s) 600000 7302250) := by
  intro l _ _ _ p e ha hc hk s m args below hf hfit hheap happ hpre
  obtain ⟨k, o, h1, h2, h3, rfl, hF⟩ := lw_comes l p e ha hc hk s m args below hf hfit hheap happ hpre
  exact ⟨k, _, h1, h2, h3, hL args s _, lw_frame hF⟩
theorem i_vc : Claimed_1_1 ∧ Claimed_1_2 := ⟨lw_limb limb_1_1 (fun args s t => by simp [limb_1_1, Cond.after, Cond.holds, Cond.value]), lw_limb limb_1_2 (fun args s t => Cond.after_iff.mpr (by
  first | (rw [show limb_1_2 = Cond.eq .result (.int 1) from rfl, Cond.eq_ints (x := 1) (y := 1) rfl rfl]; simp; done) | (simp [limb_1_2, Cond.value, Term.eval]; done)))⟩

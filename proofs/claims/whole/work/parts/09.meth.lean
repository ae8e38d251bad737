/-! the methods' and the links' words, by their places in the tables -/
abbrev mR : Type := MethodName × ByteArray × Nat × Option FieldType × Nat × List (Nat × aI)
def MTP (r : mR) : Prop := Cond.code r.1 r.2.1 r.2.2.1 r.2.2.2.1 ∈ gw_tbl ∧ Cond.initialized r.1.cls ∈ gw_tbl ∧ (r.1.cls ≠ "java/lang/invoke/MethodHandle" ∧ r.1.cls ≠ "java/lang/invoke/VarHandle") ∧ r.2.2.1 ≤ 40 ∧ plainName r.1.cls = true ∧ ownS r.2.2.2.2.1 = r.1.cls ∧ r.2.2.2.2.1 < 11
def MLP (o i x y z : Nat) : Prop :=
  (x = 3 ∧ Cond.methodLink (ownS o) i objectInit ∈ gw_tbl) ∨ (x = 4 ∧ Cond.methodLink (ownS o) i arraycopyName ∈ gw_tbl) ∨
  (x = 5 ∧ Cond.methodLink (ownS o) i Lib.Math.max.name ∈ gw_tbl) ∨ (x = 6 ∧ Cond.methodLink (ownS o) i Lib.Math.min.name ∈ gw_tbl) ∨ (x = 7 ∧ Cond.methodLink (ownS o) i Lib.Math.abs.name ∈ gw_tbl) ∨
  ∃ r : mR, mtab[y]? = some r ∧ MTP r ∧
    ((x = 0 ∧ Cond.methodLink (ownS o) i r.1 ∈ gw_tbl ∧ Cond.instanceMethod r.1 ∈ gw_tbl ∧ Cond.selects r.1.cls r.1 r.1 ∈ gw_tbl ∧ (parseMethodDescriptor r.1.desc).map (fun d => d.parameters.length) = some (z - 1) ∧ 0 < z ∧ r.2.2.2.2.1 < 8) ∨
     (x = 1 ∧ Cond.methodLink (ownS o) i r.1 ∈ gw_tbl ∧ Cond.static r.1 ∈ gw_tbl ∧ (parseMethodDescriptor r.1.desc).map (fun d => d.parameters.length) = some z) ∨
     (x = 11 ∧ Cond.methodLinkNest (ownS o) i r.1 "HawkAsks" ∈ lw_tbl ∧ Cond.static r.1 ∈ gw_tbl ∧ (parseMethodDescriptor r.1.desc).map (fun d => d.parameters.length) = some z) ∨
     (x = 2 ∧ Cond.methodLink (ownS o) i r.1 ∈ gw_tbl ∧ Cond.instanceMethod r.1 ∈ gw_tbl ∧ r.1.name = "<init>" ∧ r.2.2.2.1 = none ∧ (parseMethodDescriptor r.1.desc).map (fun d => d.parameters.length) = some (z - 1) ∧ 0 < z) ∨
     (x = 12 ∧ Cond.methodLinkNest (ownS o) i r.1 "HawkAsks" ∈ lw_tbl ∧ Cond.instanceMethod r.1 ∈ gw_tbl ∧ r.1.name = "<init>" ∧ r.2.2.2.1 = none ∧ (parseMethodDescriptor r.1.desc).map (fun d => d.parameters.length) = some (z - 1) ∧ 0 < z))
theorem pd_0 : (parseMethodDescriptor "()I").map (fun d => d.parameters.length) = some 0 := by decide +kernel
theorem pd_1 : (parseMethodDescriptor "()V").map (fun d => d.parameters.length) = some 0 := by decide +kernel
theorem pd_2 : (parseMethodDescriptor "()Z").map (fun d => d.parameters.length) = some 0 := by decide +kernel
theorem pd_3 : (parseMethodDescriptor "(I)I").map (fun d => d.parameters.length) = some 1 := by decide +kernel
theorem pd_4 : (parseMethodDescriptor "(I)V").map (fun d => d.parameters.length) = some 1 := by decide +kernel
theorem pd_5 : (parseMethodDescriptor "(I)Z").map (fun d => d.parameters.length) = some 1 := by decide +kernel
theorem pd_6 : (parseMethodDescriptor "(II)I").map (fun d => d.parameters.length) = some 2 := by decide +kernel
theorem pd_7 : (parseMethodDescriptor "(II)V").map (fun d => d.parameters.length) = some 2 := by decide +kernel
theorem pd_8 : (parseMethodDescriptor "(II)Z").map (fun d => d.parameters.length) = some 2 := by decide +kernel
theorem pd_9 : (parseMethodDescriptor "(III)I").map (fun d => d.parameters.length) = some 3 := by decide +kernel
theorem pd_10 : (parseMethodDescriptor "(III)J").map (fun d => d.parameters.length) = some 3 := by decide +kernel
theorem pd_11 : (parseMethodDescriptor "(III)V").map (fun d => d.parameters.length) = some 3 := by decide +kernel
theorem pd_12 : (parseMethodDescriptor "(III)Z").map (fun d => d.parameters.length) = some 3 := by decide +kernel
theorem pd_13 : (parseMethodDescriptor "(IIII)J").map (fun d => d.parameters.length) = some 4 := by decide +kernel
theorem pd_14 : (parseMethodDescriptor "(IIII)V").map (fun d => d.parameters.length) = some 4 := by decide +kernel
theorem pd_15 : (parseMethodDescriptor "(IIII)Z").map (fun d => d.parameters.length) = some 4 := by decide +kernel
theorem pd_16 : (parseMethodDescriptor "(IIIII)I").map (fun d => d.parameters.length) = some 5 := by decide +kernel
theorem pd_17 : (parseMethodDescriptor "(IIIII)V").map (fun d => d.parameters.length) = some 5 := by decide +kernel
theorem pd_18 : (parseMethodDescriptor "(IIIIII)I").map (fun d => d.parameters.length) = some 6 := by decide +kernel
theorem pd_19 : (parseMethodDescriptor "(I[III)V").map (fun d => d.parameters.length) = some 4 := by decide +kernel
theorem pd_20 : (parseMethodDescriptor "(J)V").map (fun d => d.parameters.length) = some 1 := by decide +kernel
theorem pd_21 : (parseMethodDescriptor "(JJ)J").map (fun d => d.parameters.length) = some 2 := by decide +kernel
theorem pd_22 : (parseMethodDescriptor "(LHawkAsks$Castle;)V").map (fun d => d.parameters.length) = some 1 := by decide +kernel
theorem pd_23 : (parseMethodDescriptor "(LHawkAsks$Castle;I)I").map (fun d => d.parameters.length) = some 2 := by decide +kernel
theorem pd_24 : (parseMethodDescriptor "(LHawkAsks$Castle;I)LHawkAsks$Castle;").map (fun d => d.parameters.length) = some 2 := by decide +kernel
theorem pd_25 : (parseMethodDescriptor "(LHawkAsks$Castle;II)I").map (fun d => d.parameters.length) = some 3 := by decide +kernel
theorem pd_26 : (parseMethodDescriptor "(LHawkAsks$Castle;II)LHawkAsks$Castle;").map (fun d => d.parameters.length) = some 3 := by decide +kernel
theorem pd_27 : (parseMethodDescriptor "(LHawkAsks$Castle;III)I").map (fun d => d.parameters.length) = some 4 := by decide +kernel
theorem pd_28 : (parseMethodDescriptor "(LHawkAsks$Castle;III)Z").map (fun d => d.parameters.length) = some 4 := by decide +kernel
theorem pd_29 : (parseMethodDescriptor "(LHawkAsks$Castle;IIII)J").map (fun d => d.parameters.length) = some 5 := by decide +kernel
theorem pd_30 : (parseMethodDescriptor "(Z)I").map (fun d => d.parameters.length) = some 1 := by decide +kernel
theorem pd_31 : (parseMethodDescriptor "([I)V").map (fun d => d.parameters.length) = some 1 := by decide +kernel
theorem pd_32 : (parseMethodDescriptor "([II)I").map (fun d => d.parameters.length) = some 2 := by decide +kernel
theorem pd_33 : (parseMethodDescriptor "([II)V").map (fun d => d.parameters.length) = some 2 := by decide +kernel
theorem pd_34 : (parseMethodDescriptor "([II)Z").map (fun d => d.parameters.length) = some 2 := by decide +kernel
theorem pd_35 : (parseMethodDescriptor "([IIII)Z").map (fun d => d.parameters.length) = some 4 := by decide +kernel
theorem pd_36 : (parseMethodDescriptor "([IIIII)I").map (fun d => d.parameters.length) = some 5 := by decide +kernel
theorem pd_37 : (parseMethodDescriptor "([IIZ)I").map (fun d => d.parameters.length) = some 3 := by decide +kernel
theorem cn_0 : (("HawkAsks$Acts" : String) ≠ "java/lang/invoke/MethodHandle" ∧ ("HawkAsks$Acts" : String) ≠ "java/lang/invoke/VarHandle") ∧ plainName "HawkAsks$Acts" = true := by decide +kernel
set_option maxRecDepth 100000 in
theorem ci_0 : Cond.initialized "HawkAsks$Acts" ∈ gw_tbl := gw_in (List.mem_of_getElem? (i := 75) rfl) rfl
theorem cn_1 : (("HawkAsks$Asks" : String) ≠ "java/lang/invoke/MethodHandle" ∧ ("HawkAsks$Asks" : String) ≠ "java/lang/invoke/VarHandle") ∧ plainName "HawkAsks$Asks" = true := by decide +kernel
set_option maxRecDepth 100000 in
theorem ci_1 : Cond.initialized "HawkAsks$Asks" ∈ gw_tbl := gw_in (List.mem_of_getElem? (i := 77) rfl) rfl
theorem cn_2 : (("HawkAsks$Castle" : String) ≠ "java/lang/invoke/MethodHandle" ∧ ("HawkAsks$Castle" : String) ≠ "java/lang/invoke/VarHandle") ∧ plainName "HawkAsks$Castle" = true := by decide +kernel
set_option maxRecDepth 100000 in
theorem ci_2 : Cond.initialized "HawkAsks$Castle" ∈ gw_tbl := gw_in (List.mem_of_getElem? (i := 74) rfl) rfl
theorem cn_3 : (("HawkAsks$Foresight" : String) ≠ "java/lang/invoke/MethodHandle" ∧ ("HawkAsks$Foresight" : String) ≠ "java/lang/invoke/VarHandle") ∧ plainName "HawkAsks$Foresight" = true := by decide +kernel
set_option maxRecDepth 100000 in
theorem ci_3 : Cond.initialized "HawkAsks$Foresight" ∈ gw_tbl := gw_in (List.mem_of_getElem? (i := 76) rfl) rfl
theorem cn_4 : (("HawkAsks$Reader" : String) ≠ "java/lang/invoke/MethodHandle" ∧ ("HawkAsks$Reader" : String) ≠ "java/lang/invoke/VarHandle") ∧ plainName "HawkAsks$Reader" = true := by decide +kernel
set_option maxRecDepth 100000 in
theorem ci_4 : Cond.initialized "HawkAsks$Reader" ∈ gw_tbl := gw_in (List.mem_of_getElem? (i := 73) rfl) rfl
theorem cn_5 : (("HawkAsks$Rows" : String) ≠ "java/lang/invoke/MethodHandle" ∧ ("HawkAsks$Rows" : String) ≠ "java/lang/invoke/VarHandle") ∧ plainName "HawkAsks$Rows" = true := by decide +kernel
set_option maxRecDepth 100000 in
theorem ci_5 : Cond.initialized "HawkAsks$Rows" ∈ gw_tbl := gw_in (List.mem_of_getElem? (i := 72) rfl) rfl
theorem cn_6 : (("HawkAsks" : String) ≠ "java/lang/invoke/MethodHandle" ∧ ("HawkAsks" : String) ≠ "java/lang/invoke/VarHandle") ∧ plainName "HawkAsks" = true := by decide +kernel
set_option maxRecDepth 100000 in
theorem ci_6 : Cond.initialized "HawkAsks" ∈ gw_tbl := gw_in (List.mem_of_getElem? (i := 71) rfl) rfl
theorem cn_7 : (("HawkAsksModel" : String) ≠ "java/lang/invoke/MethodHandle" ∧ ("HawkAsksModel" : String) ≠ "java/lang/invoke/VarHandle") ∧ plainName "HawkAsksModel" = true := by decide +kernel
set_option maxRecDepth 100000 in
theorem ci_7 : Cond.initialized "HawkAsksModel" ∈ gw_tbl := gw_in (List.mem_of_getElem? (i := 78) rfl) rfl
theorem cn_8 : (("java/lang/Integer" : String) ≠ "java/lang/invoke/MethodHandle" ∧ ("java/lang/Integer" : String) ≠ "java/lang/invoke/VarHandle") ∧ plainName "java/lang/Integer" = true := by decide +kernel
set_option maxRecDepth 100000 in
theorem ci_8 : Cond.initialized "java/lang/Integer" ∈ gw_tbl := gw_in (List.mem_of_getElem? (i := 81) rfl) rfl
set_option maxRecDepth 100000 in
theorem mt_0 : MTP (yX0_init, cX0_init, 2, none, 0, cd0) := ⟨gw_in (List.mem_of_getElem? (i := 225) rfl) rfl, ci_0, cn_0.1, by decide, cn_0.2, rfl, by decide⟩
set_option maxRecDepth 100000 in
theorem mt_1 : MTP (yX0_forget, cX0_forget, 1, none, 0, cd1) := ⟨gw_in (List.mem_of_getElem? (i := 480) rfl) rfl, ci_0, cn_0.1, by decide, cn_0.2, rfl, by decide⟩
set_option maxRecDepth 100000 in
theorem mt_2 : MTP (yX0_keep, cX0_keep, 2, none, 0, cd2) := ⟨gw_in (List.mem_of_getElem? (i := 506) rfl) rfl, ci_0, cn_0.1, by decide, cn_0.2, rfl, by decide⟩
set_option maxRecDepth 100000 in
theorem mt_3 : MTP (yX0_takeBack, cX0_takeBack, 2, none, 0, cd3) := ⟨gw_in (List.mem_of_getElem? (i := 493) rfl) rfl, ci_0, cn_0.1, by decide, cn_0.2, rfl, by decide⟩
set_option maxRecDepth 100000 in
theorem mt_4 : MTP (yX1_init, cX1_init, 1, none, 1, cd4) := ⟨gw_in (List.mem_of_getElem? (i := 272) rfl) rfl, ci_1, cn_1.1, by decide, cn_1.2, rfl, by decide⟩
set_option maxRecDepth 100000 in
theorem mt_5 : MTP (yX1_isA, cX1_isA, 2, some .boolean, 1, cd5) := ⟨gw_in (List.mem_of_getElem? (i := 833) rfl) rfl, ci_1, cn_1.1, by decide, cn_1.2, rfl, by decide⟩
set_option maxRecDepth 100000 in
theorem mt_6 : MTP (yX1_parent, cX1_parent, 1, some .int, 1, cd6) := ⟨gw_in (List.mem_of_getElem? (i := 836) rfl) rfl, ci_1, cn_1.1, by decide, cn_1.2, rfl, by decide⟩
set_option maxRecDepth 100000 in
theorem mt_7 : MTP (yX1_begin, cX1_begin, 5, none, 1, cd7) := ⟨gw_in (List.mem_of_getElem? (i := 844) rfl) rfl, ci_1, cn_1.1, by decide, cn_1.2, rfl, by decide⟩
set_option maxRecDepth 100000 in
theorem mt_8 : MTP (yX1_giveFor, cX1_giveFor, 2, some .int, 1, cd8) := ⟨gw_in (List.mem_of_getElem? (i := 849) rfl) rfl, ci_1, cn_1.1, by decide, cn_1.2, rfl, by decide⟩
set_option maxRecDepth 100000 in
theorem mt_9 : MTP (yX1_gives, cX1_gives, 4, some .int, 1, cd9) := ⟨gw_in (List.mem_of_getElem? (i := 857) rfl) rfl, ci_1, cn_1.1, by decide, cn_1.2, rfl, by decide⟩
set_option maxRecDepth 100000 in
theorem mt_10 : MTP (yX1_leave, cX1_leave, 2, none, 1, cd10) := ⟨gw_in (List.mem_of_getElem? (i := 861) rfl) rfl, ci_1, cn_1.1, by decide, cn_1.2, rfl, by decide⟩
set_option maxRecDepth 100000 in
theorem mt_11 : MTP (yX2_init, cX2_init, 1, none, 2, cd11) := ⟨gw_in (List.mem_of_getElem? (i := 120) rfl) rfl, ci_2, cn_2.1, by decide, cn_2.2, rfl, by decide⟩
set_option maxRecDepth 100000 in
theorem mt_12 : MTP (yX2_clear, cX2_clear, 1, none, 2, cd12) := ⟨gw_in (List.mem_of_getElem? (i := 415) rfl) rfl, ci_2, cn_2.1, by decide, cn_2.2, rfl, by decide⟩
set_option maxRecDepth 100000 in
theorem mt_13 : MTP (yX2_addAnswer, cX2_addAnswer, 4, none, 2, cd13) := ⟨gw_in (List.mem_of_getElem? (i := 456) rfl) rfl, ci_2, cn_2.1, by decide, cn_2.2, rfl, by decide⟩
set_option maxRecDepth 100000 in
theorem mt_14 : MTP (yX2_addHawk, cX2_addHawk, 3, none, 2, cd14) := ⟨gw_in (List.mem_of_getElem? (i := 471) rfl) rfl, ci_2, cn_2.1, by decide, cn_2.2, rfl, by decide⟩
set_option maxRecDepth 100000 in
theorem mt_15 : MTP (yX2_takeFrom, cX2_takeFrom, 3, none, 2, cd15) := ⟨gw_in (List.mem_of_getElem? (i := 476) rfl) rfl, ci_2, cn_2.1, by decide, cn_2.2, rfl, by decide⟩
set_option maxRecDepth 100000 in
theorem mt_16 : MTP (yX2_isRead, cX2_isRead, 1, some .boolean, 2, cd16) := ⟨gw_in (List.mem_of_getElem? (i := 502) rfl) rfl, ci_2, cn_2.1, by decide, cn_2.2, rfl, by decide⟩
set_option maxRecDepth 100000 in
theorem mt_17 : MTP (yX2_isHawk, cX2_isHawk, 2, some .boolean, 2, cd17) := ⟨gw_in (List.mem_of_getElem? (i := 577) rfl) rfl, ci_2, cn_2.1, by decide, cn_2.2, rfl, by decide⟩
set_option maxRecDepth 100000 in
theorem mt_18 : MTP (yX2_isAnswer, cX2_isAnswer, 2, some .boolean, 2, cd18) := ⟨gw_in (List.mem_of_getElem? (i := 610) rfl) rfl, ci_2, cn_2.1, by decide, cn_2.2, rfl, by decide⟩
set_option maxRecDepth 100000 in
theorem mt_19 : MTP (yX2_isRidge, cX2_isRidge, 2, some .boolean, 2, cd19) := ⟨gw_in (List.mem_of_getElem? (i := 614) rfl) rfl, ci_2, cn_2.1, by decide, cn_2.2, rfl, by decide⟩
set_option maxRecDepth 100000 in
theorem mt_20 : MTP (yX2_isKnown, cX2_isKnown, 2, some .boolean, 2, cd20) := ⟨gw_in (List.mem_of_getElem? (i := 521) rfl) rfl, ci_2, cn_2.1, by decide, cn_2.2, rfl, by decide⟩
set_option maxRecDepth 100000 in
theorem mt_21 : MTP (yX2_knownWorth, cX2_knownWorth, 3, some .int, 2, cd21) := ⟨gw_in (List.mem_of_getElem? (i := 569) rfl) rfl, ci_2, cn_2.1, by decide, cn_2.2, rfl, by decide⟩
set_option maxRecDepth 100000 in
theorem mt_22 : MTP (yX2_hawksThatAre, cX2_hawksThatAre, 4, some .int, 2, cd22) := ⟨gw_in (List.mem_of_getElem? (i := 590) rfl) rfl, ci_2, cn_2.1, by decide, cn_2.2, rfl, by decide⟩
set_option maxRecDepth 100000 in
theorem mt_23 : MTP (yX2_letGo, cX2_letGo, 2, none, 2, cd23) := ⟨gw_in (List.mem_of_getElem? (i := 582) rfl) rfl, ci_2, cn_2.1, by decide, cn_2.2, rfl, by decide⟩
set_option maxRecDepth 100000 in
theorem mt_24 : MTP (yX2_callBack, cX2_callBack, 2, none, 2, cd24) := ⟨gw_in (List.mem_of_getElem? (i := 598) rfl) rfl, ci_2, cn_2.1, by decide, cn_2.2, rfl, by decide⟩
set_option maxRecDepth 100000 in
theorem mt_25 : MTP (yX2_perchAll, cX2_perchAll, 4, none, 2, cd25) := ⟨gw_in (List.mem_of_getElem? (i := 694) rfl) rfl, ci_2, cn_2.1, by decide, cn_2.2, rfl, by decide⟩
set_option maxRecDepth 100000 in
theorem mt_26 : MTP (yX2_perch, cX2_perch, 3, none, 2, cd26) := ⟨gw_in (List.mem_of_getElem? (i := 586) rfl) rfl, ci_2, cn_2.1, by decide, cn_2.2, rfl, by decide⟩
set_option maxRecDepth 100000 in
theorem mt_27 : MTP (yX2_passHours, cX2_passHours, 5, none, 2, cd27) := ⟨gw_in (List.mem_of_getElem? (i := 513) rfl) rfl, ci_2, cn_2.1, by decide, cn_2.2, rfl, by decide⟩
set_option maxRecDepth 100000 in
theorem mt_28 : MTP (yX2_driftOn, cX2_driftOn, 2, none, 2, cd28) := ⟨gw_in (List.mem_of_getElem? (i := 517) rfl) rfl, ci_2, cn_2.1, by decide, cn_2.2, rfl, by decide⟩
set_option maxRecDepth 100000 in
theorem mt_29 : MTP (yX2_takesInFlight, cX2_takesInFlight, 3, some .boolean, 2, cd29) := ⟨gw_in (List.mem_of_getElem? (i := 525) rfl) rfl, ci_2, cn_2.1, by decide, cn_2.2, rfl, by decide⟩
set_option maxRecDepth 100000 in
theorem mt_30 : MTP (yX2_take, cX2_take, 3, none, 2, cd30) := ⟨gw_in (List.mem_of_getElem? (i := 565) rfl) rfl, ci_2, cn_2.1, by decide, cn_2.2, rfl, by decide⟩
set_option maxRecDepth 100000 in
theorem mt_31 : MTP (yX2_nextRidge, cX2_nextRidge, 4, some .int, 2, cd31) := ⟨gw_in (List.mem_of_getElem? (i := 545) rfl) rfl, ci_2, cn_2.1, by decide, cn_2.2, rfl, by decide⟩
set_option maxRecDepth 100000 in
theorem mt_32 : MTP (yX2_towards, cX2_towards, 5, some .int, 2, cd32) := ⟨gw_in (List.mem_of_getElem? (i := 549) rfl) rfl, ci_2, cn_2.1, by decide, cn_2.2, rfl, by decide⟩
set_option maxRecDepth 100000 in
theorem mt_33 : MTP (yX2_quarry, cX2_quarry, 2, some .int, 2, cd33) := ⟨gw_in (List.mem_of_getElem? (i := 529) rfl) rfl, ci_2, cn_2.1, by decide, cn_2.2, rfl, by decide⟩
set_option maxRecDepth 100000 in
theorem mt_34 : MTP (yX2_distance, cX2_distance, 3, some .int, 2, cd34) := ⟨gw_in (List.mem_of_getElem? (i := 740) rfl) rfl, ci_2, cn_2.1, by decide, cn_2.2, rfl, by decide⟩
set_option maxRecDepth 100000 in
theorem mt_35 : MTP (yX2_closest, cX2_closest, 6, some .int, 2, cd35) := ⟨gw_in (List.mem_of_getElem? (i := 533) rfl) rfl, ci_2, cn_2.1, by decide, cn_2.2, rfl, by decide⟩
set_option maxRecDepth 100000 in
theorem mt_36 : MTP (yX2_worthiest, cX2_worthiest, 7, some .int, 2, cd36) := ⟨gw_in (List.mem_of_getElem? (i := 541) rfl) rfl, ci_2, cn_2.1, by decide, cn_2.2, rfl, by decide⟩
set_option maxRecDepth 100000 in
theorem mt_37 : MTP (yX2_prey, cX2_prey, 5, some .int, 2, cd37) := ⟨gw_in (List.mem_of_getElem? (i := 557) rfl) rfl, ci_2, cn_2.1, by decide, cn_2.2, rfl, by decide⟩
set_option maxRecDepth 100000 in
theorem mt_38 : MTP (yX2_greatestTaken, cX2_greatestTaken, 2, some .int, 2, cd38) := ⟨gw_in (List.mem_of_getElem? (i := 561) rfl) rfl, ci_2, cn_2.1, by decide, cn_2.2, rfl, by decide⟩
set_option maxRecDepth 100000 in
theorem mt_39 : MTP (yX3_init, cX3_init, 1, none, 3, cd39) := ⟨gw_in (List.mem_of_getElem? (i := 245) rfl) rfl, ci_3, cn_3.1, by decide, cn_3.2, rfl, by decide⟩
set_option maxRecDepth 100000 in
theorem mt_40 : MTP (yX3_behind, cX3_behind, 3, some (.object "HawkAsks$Castle"), 3, cd40) := ⟨gw_in (List.mem_of_getElem? (i := 641) rfl) rfl, ci_3, cn_3.1, by decide, cn_3.2, rfl, by decide⟩
set_option maxRecDepth 100000 in
theorem mt_41 : MTP (yX3_hoursTillKnown, cX3_hoursTillKnown, 3, some .int, 3, cd41) := ⟨gw_in (List.mem_of_getElem? (i := 655) rfl) rfl, ci_3, cn_3.1, by decide, cn_3.2, rfl, by decide⟩
set_option maxRecDepth 100000 in
theorem mt_42 : MTP (yX3_runTillKnown, cX3_runTillKnown, 4, some .int, 3, cd42) := ⟨gw_in (List.mem_of_getElem? (i := 659) rfl) rfl, ci_3, cn_3.1, by decide, cn_3.2, rfl, by decide⟩
set_option maxRecDepth 100000 in
theorem mt_43 : MTP (yX3_hoursTillLost, cX3_hoursTillLost, 4, some .int, 3, cd43) := ⟨gw_in (List.mem_of_getElem? (i := 669) rfl) rfl, ci_3, cn_3.1, by decide, cn_3.2, rfl, by decide⟩
set_option maxRecDepth 100000 in
theorem mt_44 : MTP (yX3_firstKnown, cX3_firstKnown, 5, some .int, 3, cd44) := ⟨gw_in (List.mem_of_getElem? (i := 677) rfl) rfl, ci_3, cn_3.1, by decide, cn_3.2, rfl, by decide⟩
set_option maxRecDepth 100000 in
theorem mt_45 : MTP (yX3_bestFlight, cX3_bestFlight, 9, some .int, 3, cd45) := ⟨gw_in (List.mem_of_getElem? (i := 685) rfl) rfl, ci_3, cn_3.1, by decide, cn_3.2, rfl, by decide⟩
set_option maxRecDepth 100000 in
theorem mt_46 : MTP (yX3_flightOf, cX3_flightOf, 4, some (.object "HawkAsks$Castle"), 3, cd46) := ⟨gw_in (List.mem_of_getElem? (i := 690) rfl) rfl, ci_3, cn_3.1, by decide, cn_3.2, rfl, by decide⟩
set_option maxRecDepth 100000 in
theorem mt_47 : MTP (yX3_bestWait, cX3_bestWait, 9, some .int, 3, cd47) := ⟨gw_in (List.mem_of_getElem? (i := 709) rfl) rfl, ci_3, cn_3.1, by decide, cn_3.2, rfl, by decide⟩
set_option maxRecDepth 100000 in
theorem mt_48 : MTP (yX3_hungersThatServe, cX3_hungersThatServe, 7, some .int, 3, cd48) := ⟨gw_in (List.mem_of_getElem? (i := 718) rfl) rfl, ci_3, cn_3.1, by decide, cn_3.2, rfl, by decide⟩
set_option maxRecDepth 100000 in
theorem mt_49 : MTP (yX3_byTurns, cX3_byTurns, 6, some .int, 3, cd49) := ⟨gw_in (List.mem_of_getElem? (i := 726) rfl) rfl, ci_3, cn_3.1, by decide, cn_3.2, rfl, by decide⟩
set_option maxRecDepth 100000 in
theorem mt_50 : MTP (yX3_turn, cX3_turn, 8, some .int, 3, cd50) := ⟨gw_in (List.mem_of_getElem? (i := 729) rfl) rfl, ci_3, cn_3.1, by decide, cn_3.2, rfl, by decide⟩
set_option maxRecDepth 100000 in
theorem mt_51 : MTP (yX3_hear, cX3_hear, 5, none, 3, cd51) := ⟨gw_in (List.mem_of_getElem? (i := 751) rfl) rfl, ci_3, cn_3.1, by decide, cn_3.2, rfl, by decide⟩
set_option maxRecDepth 100000 in
theorem mt_52 : MTP (yX3_bellFits, cX3_bellFits, 2, some .boolean, 3, cd52) := ⟨gw_in (List.mem_of_getElem? (i := 760) rfl) rfl, ci_3, cn_3.1, by decide, cn_3.2, rfl, by decide⟩
set_option maxRecDepth 100000 in
theorem mt_53 : MTP (yX3_kindsThatFit, cX3_kindsThatFit, 5, some .int, 3, cd53) := ⟨gw_in (List.mem_of_getElem? (i := 756) rfl) rfl, ci_3, cn_3.1, by decide, cn_3.2, rfl, by decide⟩
set_option maxRecDepth 100000 in
theorem mt_54 : MTP (yX3_hungersThatFit, cX3_hungersThatFit, 5, some .int, 3, cd54) := ⟨gw_in (List.mem_of_getElem? (i := 764) rfl) rfl, ci_3, cn_3.1, by decide, cn_3.2, rfl, by decide⟩
set_option maxRecDepth 100000 in
theorem mt_55 : MTP (yX3_driftsThatFit, cX3_driftsThatFit, 5, some .int, 3, cd55) := ⟨gw_in (List.mem_of_getElem? (i := 772) rfl) rfl, ci_3, cn_3.1, by decide, cn_3.2, rfl, by decide⟩
set_option maxRecDepth 100000 in
theorem mt_56 : MTP (yX3_placesThatFit, cX3_placesThatFit, 5, some .int, 3, cd56) := ⟨gw_in (List.mem_of_getElem? (i := 776) rfl) rfl, ci_3, cn_3.1, by decide, cn_3.2, rfl, by decide⟩
set_option maxRecDepth 100000 in
theorem mt_57 : MTP (yX3_likelihood, cX3_likelihood, 14, some .long, 3, cd57) := ⟨gw_in (List.mem_of_getElem? (i := 785) rfl) rfl, ci_3, cn_3.1, by decide, cn_3.2, rfl, by decide⟩
set_option maxRecDepth 100000 in
theorem mt_58 : MTP (yX3_casesOf, cX3_casesOf, 6, some .long, 3, cd58) := ⟨gw_in (List.mem_of_getElem? (i := 788) rfl) rfl, ci_3, cn_3.1, by decide, cn_3.2, rfl, by decide⟩
set_option maxRecDepth 100000 in
theorem mt_59 : MTP (yX3_isKnownWithout, cX3_isKnownWithout, 5, some .boolean, 3, cd59) := ⟨gw_in (List.mem_of_getElem? (i := 792) rfl) rfl, ci_3, cn_3.1, by decide, cn_3.2, rfl, by decide⟩
set_option maxRecDepth 100000 in
theorem mt_60 : MTP (yX3_commonDivisor, cX3_commonDivisor, 7, some .long, 3, cd60) := ⟨gw_in (List.mem_of_getElem? (i := 795) rfl) rfl, ci_3, cn_3.1, by decide, cn_3.2, rfl, by decide⟩
set_option maxRecDepth 100000 in
theorem mt_61 : MTP (yX3_season, cX3_season, 7, some (.object "HawkAsks$Castle"), 3, cd61) := ⟨gw_in (List.mem_of_getElem? (i := 805) rfl) rfl, ci_3, cn_3.1, by decide, cn_3.2, rfl, by decide⟩
set_option maxRecDepth 100000 in
theorem mt_62 : MTP (yX3_drawOne, cX3_drawOne, 4, none, 3, cd62) := ⟨gw_in (List.mem_of_getElem? (i := 811) rfl) rfl, ci_3, cn_3.1, by decide, cn_3.2, rfl, by decide⟩
set_option maxRecDepth 100000 in
theorem mt_63 : MTP (yX4_init, cX4_init, 1, none, 4, cd63) := ⟨gw_in (List.mem_of_getElem? (i := 114) rfl) rfl, ci_4, cn_4.1, by decide, cn_4.2, rfl, by decide⟩
set_option maxRecDepth 100000 in
theorem mt_64 : MTP (yX4_takeByte, cX4_takeByte, 2, some .boolean, 4, cd64) := ⟨gw_in (List.mem_of_getElem? (i := 402) rfl) rfl, ci_4, cn_4.1, by decide, cn_4.2, rfl, by decide⟩
set_option maxRecDepth 100000 in
theorem mt_65 : MTP (yX4_readAll, cX4_readAll, 1, some .boolean, 4, cd65) := ⟨gw_in (List.mem_of_getElem? (i := 411) rfl) rfl, ci_4, cn_4.1, by decide, cn_4.2, rfl, by decide⟩
set_option maxRecDepth 100000 in
theorem mt_66 : MTP (yX4_readLaw, cX4_readLaw, 1, some .boolean, 4, cd66) := ⟨gw_in (List.mem_of_getElem? (i := 419) rfl) rfl, ci_4, cn_4.1, by decide, cn_4.2, rfl, by decide⟩
set_option maxRecDepth 100000 in
theorem mt_67 : MTP (yX4_readAnswers, cX4_readAnswers, 2, some .boolean, 4, cd67) := ⟨gw_in (List.mem_of_getElem? (i := 448) rfl) rfl, ci_4, cn_4.1, by decide, cn_4.2, rfl, by decide⟩
set_option maxRecDepth 100000 in
theorem mt_68 : MTP (yX4_readAnswer, cX4_readAnswer, 3, some .boolean, 4, cd68) := ⟨gw_in (List.mem_of_getElem? (i := 452) rfl) rfl, ci_4, cn_4.1, by decide, cn_4.2, rfl, by decide⟩
set_option maxRecDepth 100000 in
theorem mt_69 : MTP (yX4_readHawks, cX4_readHawks, 2, some .boolean, 4, cd69) := ⟨gw_in (List.mem_of_getElem? (i := 460) rfl) rfl, ci_4, cn_4.1, by decide, cn_4.2, rfl, by decide⟩
set_option maxRecDepth 100000 in
theorem mt_70 : MTP (yX4_readHawk, cX4_readHawk, 2, some .boolean, 4, cd70) := ⟨gw_in (List.mem_of_getElem? (i := 464) rfl) rfl, ci_4, cn_4.1, by decide, cn_4.2, rfl, by decide⟩
set_option maxRecDepth 100000 in
theorem mt_71 : MTP (yX4_sign, cX4_sign, 2, some .boolean, 4, cd71) := ⟨gw_in (List.mem_of_getElem? (i := 423) rfl) rfl, ci_4, cn_4.1, by decide, cn_4.2, rfl, by decide⟩
set_option maxRecDepth 100000 in
theorem mt_72 : MTP (yX4_number, cX4_number, 4, some .boolean, 4, cd72) := ⟨gw_in (List.mem_of_getElem? (i := 441) rfl) rfl, ci_4, cn_4.1, by decide, cn_4.2, rfl, by decide⟩
set_option maxRecDepth 100000 in
theorem mt_73 : MTP (yX4_fail, cX4_fail, 2, some .boolean, 4, cd73) := ⟨gw_in (List.mem_of_getElem? (i := 437) rfl) rfl, ci_4, cn_4.1, by decide, cn_4.2, rfl, by decide⟩
set_option maxRecDepth 100000 in
theorem mt_74 : MTP (yX4_byteHere, cX4_byteHere, 1, some .int, 4, cd74) := ⟨gw_in (List.mem_of_getElem? (i := 427) rfl) rfl, ci_4, cn_4.1, by decide, cn_4.2, rfl, by decide⟩
set_option maxRecDepth 100000 in
theorem mt_75 : MTP (yX4_byteAt, cX4_byteAt, 2, some .int, 4, cd75) := ⟨gw_in (List.mem_of_getElem? (i := 431) rfl) rfl, ci_4, cn_4.1, by decide, cn_4.2, rfl, by decide⟩
set_option maxRecDepth 100000 in
theorem mt_76 : MTP (yX4_isFigure, cX4_isFigure, 1, some .boolean, 4, cd76) := ⟨gw_in (List.mem_of_getElem? (i := 444) rfl) rfl, ci_4, cn_4.1, by decide, cn_4.2, rfl, by decide⟩
set_option maxRecDepth 100000 in
theorem mt_77 : MTP (yX4_kindOf, cX4_kindOf, 1, some .int, 4, cd77) := ⟨gw_in (List.mem_of_getElem? (i := 467) rfl) rfl, ci_4, cn_4.1, by decide, cn_4.2, rfl, by decide⟩
set_option maxRecDepth 100000 in
theorem mt_78 : MTP (yX5_init, cX5_init, 1, none, 5, cd78) := ⟨gw_in (List.mem_of_getElem? (i := 94) rfl) rfl, ci_5, cn_5.1, by decide, cn_5.2, rfl, by decide⟩
set_option maxRecDepth 100000 in
theorem mt_79 : MTP (yX5_isRow, cX5_isRow, 1, some .boolean, 5, cd79) := ⟨gw_in (List.mem_of_getElem? (i := 329) rfl) rfl, ci_5, cn_5.1, by decide, cn_5.2, rfl, by decide⟩
set_option maxRecDepth 100000 in
theorem mt_80 : MTP (yX5_isMissing, cX5_isMissing, 2, some .boolean, 5, cd80) := ⟨gw_in (List.mem_of_getElem? (i := 359) rfl) rfl, ci_5, cn_5.1, by decide, cn_5.2, rfl, by decide⟩
set_option maxRecDepth 100000 in
theorem mt_81 : MTP (yX5_howMany, cX5_howMany, 3, some .int, 5, cd81) := ⟨gw_in (List.mem_of_getElem? (i := 873) rfl) rfl, ci_5, cn_5.1, by decide, cn_5.2, rfl, by decide⟩
set_option maxRecDepth 100000 in
theorem mt_82 : MTP (yX5_begin, cX5_begin, 5, none, 5, cd82) := ⟨gw_in (List.mem_of_getElem? (i := 343) rfl) rfl, ci_5, cn_5.1, by decide, cn_5.2, rfl, by decide⟩
set_option maxRecDepth 100000 in
theorem mt_83 : MTP (yX5_end, cX5_end, 3, some .int, 5, cd83) := ⟨gw_in (List.mem_of_getElem? (i := 394) rfl) rfl, ci_5, cn_5.1, by decide, cn_5.2, rfl, by decide⟩
set_option maxRecDepth 100000 in
theorem mt_84 : MTP (yX5_put, cX5_put, 4, some .int, 5, cd84) := ⟨gw_in (List.mem_of_getElem? (i := 367) rfl) rfl, ci_5, cn_5.1, by decide, cn_5.2, rfl, by decide⟩
set_option maxRecDepth 100000 in
theorem mt_85 : MTP (yX5_move, cX5_move, 6, none, 5, cd85) := ⟨gw_in (List.mem_of_getElem? (i := 382) rfl) rfl, ci_5, cn_5.1, by decide, cn_5.2, rfl, by decide⟩
set_option maxRecDepth 100000 in
theorem mt_86 : MTP (yX5_findingOf, cX5_findingOf, 4, some .int, 5, cd86) := ⟨gw_in (List.mem_of_getElem? (i := 355) rfl) rfl, ci_5, cn_5.1, by decide, cn_5.2, rfl, by decide⟩
set_option maxRecDepth 100000 in
theorem mt_87 : MTP (yX5_findingOfTwo, cX5_findingOfTwo, 6, some .int, 5, cd87) := ⟨gw_in (List.mem_of_getElem? (i := 378) rfl) rfl, ci_5, cn_5.1, by decide, cn_5.2, rfl, by decide⟩
set_option maxRecDepth 100000 in
theorem mt_88 : MTP (yX5_holds, cX5_holds, 4, some .boolean, 5, cd88) := ⟨gw_in (List.mem_of_getElem? (i := 363) rfl) rfl, ci_5, cn_5.1, by decide, cn_5.2, rfl, by decide⟩
set_option maxRecDepth 100000 in
theorem mt_89 : MTP (yX5_narrowed, cX5_narrowed, 2, some .int, 5, cd89) := ⟨gw_in (List.mem_of_getElem? (i := 370) rfl) rfl, ci_5, cn_5.1, by decide, cn_5.2, rfl, by decide⟩
set_option maxRecDepth 100000 in
theorem mt_90 : MTP (yX6_init, cX6_init, 1, none, 6, cd90) := ⟨gw_in (List.mem_of_getElem? (i := 86) rfl) rfl, ci_6, cn_6.1, by decide, cn_6.2, rfl, by decide⟩
set_option maxRecDepth 100000 in
theorem mt_91 : MTP (yX6_row, cX6_row, 4, some .int, 6, cd91) := ⟨gw_in (List.mem_of_getElem? (i := 326) rfl) rfl, ci_6, cn_6.1, by decide, cn_6.2, rfl, by decide⟩
set_option maxRecDepth 100000 in
theorem mt_92 : MTP (yX6_set, cX6_set, 5, some .int, 6, cd92) := ⟨gw_in (List.mem_of_getElem? (i := 351) rfl) rfl, ci_6, cn_6.1, by decide, cn_6.2, rfl, by decide⟩
set_option maxRecDepth 100000 in
theorem mt_93 : MTP (yX6_copy, cX6_copy, 7, some .int, 6, cd93) := ⟨gw_in (List.mem_of_getElem? (i := 374) rfl) rfl, ci_6, cn_6.1, by decide, cn_6.2, rfl, by decide⟩
set_option maxRecDepth 100000 in
theorem mt_94 : MTP (yX6_drop, cX6_drop, 2, some .int, 6, cd94) := ⟨gw_in (List.mem_of_getElem? (i := 389) rfl) rfl, ci_6, cn_6.1, by decide, cn_6.2, rfl, by decide⟩
set_option maxRecDepth 100000 in
theorem mt_95 : MTP (yX6_feed, cX6_feed, 2, some .int, 6, cd95) := ⟨gw_in (List.mem_of_getElem? (i := 398) rfl) rfl, ci_6, cn_6.1, by decide, cn_6.2, rfl, by decide⟩
set_option maxRecDepth 100000 in
theorem mt_96 : MTP (yX6_castle, cX6_castle, 2, some .int, 6, cd96) := ⟨gw_in (List.mem_of_getElem? (i := 407) rfl) rfl, ci_6, cn_6.1, by decide, cn_6.2, rfl, by decide⟩
set_option maxRecDepth 100000 in
theorem mt_97 : MTP (yX6_fault, cX6_fault, 1, some .int, 6, cd97) := ⟨gw_in (List.mem_of_getElem? (i := 484) rfl) rfl, ci_6, cn_6.1, by decide, cn_6.2, rfl, by decide⟩
set_option maxRecDepth 100000 in
theorem mt_98 : MTP (yX6_undo, cX6_undo, 1, some .int, 6, cd98) := ⟨gw_in (List.mem_of_getElem? (i := 488) rfl) rfl, ci_6, cn_6.1, by decide, cn_6.2, rfl, by decide⟩
set_option maxRecDepth 100000 in
theorem mt_99 : MTP (yX6_hours, cX6_hours, 3, some .int, 6, cd99) := ⟨gw_in (List.mem_of_getElem? (i := 498) rfl) rfl, ci_6, cn_6.1, by decide, cn_6.2, rfl, by decide⟩
set_option maxRecDepth 100000 in
theorem mt_100 : MTP (yX6_fly, cX6_fly, 2, some .int, 6, cd100) := ⟨gw_in (List.mem_of_getElem? (i := 573) rfl) rfl, ci_6, cn_6.1, by decide, cn_6.2, rfl, by decide⟩
set_option maxRecDepth 100000 in
theorem mt_101 : MTP (yX6_call, cX6_call, 2, some .int, 6, cd101) := ⟨gw_in (List.mem_of_getElem? (i := 594) rfl) rfl, ci_6, cn_6.1, by decide, cn_6.2, rfl, by decide⟩
set_option maxRecDepth 100000 in
theorem mt_102 : MTP (yX6_starve, cX6_starve, 4, some .int, 6, cd102) := ⟨gw_in (List.mem_of_getElem? (i := 602) rfl) rfl, ci_6, cn_6.1, by decide, cn_6.2, rfl, by decide⟩
set_option maxRecDepth 100000 in
theorem mt_103 : MTP (yX6_lay, cX6_lay, 4, some .int, 6, cd103) := ⟨gw_in (List.mem_of_getElem? (i := 606) rfl) rfl, ci_6, cn_6.1, by decide, cn_6.2, rfl, by decide⟩
set_option maxRecDepth 100000 in
theorem mt_104 : MTP (yX6_hawk, cX6_hawk, 3, some .int, 6, cd104) := ⟨gw_in (List.mem_of_getElem? (i := 619) rfl) rfl, ci_6, cn_6.1, by decide, cn_6.2, rfl, by decide⟩
set_option maxRecDepth 100000 in
theorem mt_105 : MTP (yX6_answer, cX6_answer, 3, some .int, 6, cd105) := ⟨gw_in (List.mem_of_getElem? (i := 626) rfl) rfl, ci_6, cn_6.1, by decide, cn_6.2, rfl, by decide⟩
set_option maxRecDepth 100000 in
theorem mt_106 : MTP (yX6_stand, cX6_stand, 2, some .int, 6, cd106) := ⟨gw_in (List.mem_of_getElem? (i := 630) rfl) rfl, ci_6, cn_6.1, by decide, cn_6.2, rfl, by decide⟩
set_option maxRecDepth 100000 in
theorem mt_107 : MTP (yX6_ahead, cX6_ahead, 5, some .int, 6, cd107) := ⟨gw_in (List.mem_of_getElem? (i := 634) rfl) rfl, ci_6, cn_6.1, by decide, cn_6.2, rfl, by decide⟩
set_option maxRecDepth 100000 in
theorem mt_108 : MTP (yX6_later, cX6_later, 4, some .int, 6, cd108) := ⟨gw_in (List.mem_of_getElem? (i := 647) rfl) rfl, ci_6, cn_6.1, by decide, cn_6.2, rfl, by decide⟩
set_option maxRecDepth 100000 in
theorem mt_109 : MTP (yX6_known, cX6_known, 2, some .int, 6, cd109) := ⟨gw_in (List.mem_of_getElem? (i := 651) rfl) rfl, ci_6, cn_6.1, by decide, cn_6.2, rfl, by decide⟩
set_option maxRecDepth 100000 in
theorem mt_110 : MTP (yX6_lost, cX6_lost, 2, some .int, 6, cd110) := ⟨gw_in (List.mem_of_getElem? (i := 665) rfl) rfl, ci_6, cn_6.1, by decide, cn_6.2, rfl, by decide⟩
set_option maxRecDepth 100000 in
theorem mt_111 : MTP (yX6_first, cX6_first, 2, some .int, 6, cd111) := ⟨gw_in (List.mem_of_getElem? (i := 673) rfl) rfl, ci_6, cn_6.1, by decide, cn_6.2, rfl, by decide⟩
set_option maxRecDepth 100000 in
theorem mt_112 : MTP (yX6_flies, cX6_flies, 3, some .int, 6, cd112) := ⟨gw_in (List.mem_of_getElem? (i := 681) rfl) rfl, ci_6, cn_6.1, by decide, cn_6.2, rfl, by decide⟩
set_option maxRecDepth 100000 in
theorem mt_113 : MTP (yX6_waits, cX6_waits, 4, some .int, 6, cd113) := ⟨gw_in (List.mem_of_getElem? (i := 705) rfl) rfl, ci_6, cn_6.1, by decide, cn_6.2, rfl, by decide⟩
set_option maxRecDepth 100000 in
theorem mt_114 : MTP (yX6_starves, cX6_starves, 4, some .int, 6, cd114) := ⟨gw_in (List.mem_of_getElem? (i := 714) rfl) rfl, ci_6, cn_6.1, by decide, cn_6.2, rfl, by decide⟩
set_option maxRecDepth 100000 in
theorem mt_115 : MTP (yX6_falconers, cX6_falconers, 3, some .int, 6, cd115) := ⟨gw_in (List.mem_of_getElem? (i := 722) rfl) rfl, ci_6, cn_6.1, by decide, cn_6.2, rfl, by decide⟩
set_option maxRecDepth 100000 in
theorem mt_116 : MTP (yX6_nearest, cX6_nearest, 4, some .int, 6, cd116) := ⟨gw_in (List.mem_of_getElem? (i := 735) rfl) rfl, ci_6, cn_6.1, by decide, cn_6.2, rfl, by decide⟩
set_option maxRecDepth 100000 in
theorem mt_117 : MTP (yX6_who, cX6_who, 8, some .int, 6, cd117) := ⟨gw_in (List.mem_of_getElem? (i := 744) rfl) rfl, ci_6, cn_6.1, by decide, cn_6.2, rfl, by decide⟩
set_option maxRecDepth 100000 in
theorem mt_118 : MTP (yX6_what, cX6_what, 8, some .int, 6, cd118) := ⟨gw_in (List.mem_of_getElem? (i := 768) rfl) rfl, ci_6, cn_6.1, by decide, cn_6.2, rfl, by decide⟩
set_option maxRecDepth 100000 in
theorem mt_119 : MTP (yX6_moult, cX6_moult, 5, some .long, 6, cd119) := ⟨gw_in (List.mem_of_getElem? (i := 780) rfl) rfl, ci_6, cn_6.1, by decide, cn_6.2, rfl, by decide⟩
set_option maxRecDepth 100000 in
theorem mt_120 : MTP (yX6_drawn, cX6_drawn, 5, some .int, 6, cd120) := ⟨gw_in (List.mem_of_getElem? (i := 800) rfl) rfl, ci_6, cn_6.1, by decide, cn_6.2, rfl, by decide⟩
set_option maxRecDepth 100000 in
theorem mt_121 : MTP (yX6_image, cX6_image, 2, some .int, 6, cd121) := ⟨gw_in (List.mem_of_getElem? (i := 818) rfl) rfl, ci_6, cn_6.1, by decide, cn_6.2, rfl, by decide⟩
set_option maxRecDepth 100000 in
theorem mt_122 : MTP (yX6_restore, cX6_restore, 2, some .int, 6, cd122) := ⟨gw_in (List.mem_of_getElem? (i := 822) rfl) rfl, ci_6, cn_6.1, by decide, cn_6.2, rfl, by decide⟩
set_option maxRecDepth 100000 in
theorem mt_123 : MTP (yX6_kind, cX6_kind, 2, some .int, 6, cd123) := ⟨gw_in (List.mem_of_getElem? (i := 826) rfl) rfl, ci_6, cn_6.1, by decide, cn_6.2, rfl, by decide⟩
set_option maxRecDepth 100000 in
theorem mt_124 : MTP (yX6_as, cX6_as, 3, some .int, 6, cd124) := ⟨gw_in (List.mem_of_getElem? (i := 830) rfl) rfl, ci_6, cn_6.1, by decide, cn_6.2, rfl, by decide⟩
set_option maxRecDepth 100000 in
theorem mt_125 : MTP (yX6_ask, cX6_ask, 3, some .int, 6, cd125) := ⟨gw_in (List.mem_of_getElem? (i := 840) rfl) rfl, ci_6, cn_6.1, by decide, cn_6.2, rfl, by decide⟩
set_option maxRecDepth 100000 in
theorem mt_126 : MTP (yX6_trace, cX6_trace, 2, some .int, 6, cd126) := ⟨gw_in (List.mem_of_getElem? (i := 865) rfl) rfl, ci_6, cn_6.1, by decide, cn_6.2, rfl, by decide⟩
set_option maxRecDepth 100000 in
theorem mt_127 : MTP (yX6_count, cX6_count, 2, some .int, 6, cd127) := ⟨gw_in (List.mem_of_getElem? (i := 869) rfl) rfl, ci_6, cn_6.1, by decide, cn_6.2, rfl, by decide⟩
set_option maxRecDepth 100000 in
theorem mt_128 : MTP (yX6_status, cX6_status, 1, some .int, 6, cd128) := ⟨gw_in (List.mem_of_getElem? (i := 878) rfl) rfl, ci_6, cn_6.1, by decide, cn_6.2, rfl, by decide⟩
set_option maxRecDepth 100000 in
theorem mt_129 : MTP (yX6_found, cX6_found, 2, some .int, 6, cd129) := ⟨gw_in (List.mem_of_getElem? (i := 338) rfl) rfl, ci_6, cn_6.1, by decide, cn_6.2, rfl, by decide⟩
set_option maxRecDepth 100000 in
theorem mt_130 : MTP (yX6_clean, cX6_clean, 2, some .int, 6, cd130) := ⟨gw_in (List.mem_of_getElem? (i := 347) rfl) rfl, ci_6, cn_6.1, by decide, cn_6.2, rfl, by decide⟩
set_option maxRecDepth 100000 in
theorem mt_131 : MTP (yX6_within, cX6_within, 3, some .boolean, 6, cd131) := ⟨gw_in (List.mem_of_getElem? (i := 332) rfl) rfl, ci_6, cn_6.1, by decide, cn_6.2, rfl, by decide⟩
set_option maxRecDepth 100000 in
theorem mt_132 : MTP (yX6_isEither, cX6_isEither, 1, some .boolean, 6, cd132) := ⟨gw_in (List.mem_of_getElem? (i := 637) rfl) rfl, ci_6, cn_6.1, by decide, cn_6.2, rfl, by decide⟩
set_option maxRecDepth 100000 in
theorem mt_133 : MTP (yX6_isBell, cX6_isBell, 2, some .boolean, 6, cd133) := ⟨gw_in (List.mem_of_getElem? (i := 747) rfl) rfl, ci_6, cn_6.1, by decide, cn_6.2, rfl, by decide⟩
set_option maxRecDepth 100000 in
theorem mt_134 : MTP (yX7_init, cX7_init, 2, none, 7, cd134) := ⟨gw_in (List.mem_of_getElem? (i := 883) rfl) rfl, ci_7, cn_7.1, by decide, cn_7.2, rfl, by decide⟩
set_option maxRecDepth 100000 in
theorem mt_135 : MTP (yX7_in, cX7_in, 3, some .boolean, 7, cd135) := ⟨gw_in (List.mem_of_getElem? (i := 987) rfl) rfl, ci_7, cn_7.1, by decide, cn_7.2, rfl, by decide⟩
set_option maxRecDepth 100000 in
theorem mt_136 : MTP (yX7_has, cX7_has, 2, some .boolean, 7, cd136) := ⟨gw_in (List.mem_of_getElem? (i := 1097) rfl) rfl, ci_7, cn_7.1, by decide, cn_7.2, rfl, by decide⟩
set_option maxRecDepth 100000 in
theorem mt_137 : MTP (yX7_bits, cX7_bits, 3, some .int, 7, cd137) := ⟨gw_in (List.mem_of_getElem? (i := 1215) rfl) rfl, ci_7, cn_7.1, by decide, cn_7.2, rfl, by decide⟩
set_option maxRecDepth 100000 in
theorem mt_138 : MTP (yX7_meets, cX7_meets, 2, some .int, 7, cd138) := ⟨gw_in (List.mem_of_getElem? (i := 992) rfl) rfl, ci_7, cn_7.1, by decide, cn_7.2, rfl, by decide⟩
set_option maxRecDepth 100000 in
theorem mt_139 : MTP (yX7_well, cX7_well, 2, some .int, 7, cd139) := ⟨gw_in (List.mem_of_getElem? (i := 997) rfl) rfl, ci_7, cn_7.1, by decide, cn_7.2, rfl, by decide⟩
set_option maxRecDepth 100000 in
theorem mt_140 : MTP (yX7_status, cX7_status, 1, some .int, 7, cd140) := ⟨gw_in (List.mem_of_getElem? (i := 977) rfl) rfl, ci_7, cn_7.1, by decide, cn_7.2, rfl, by decide⟩
set_option maxRecDepth 100000 in
theorem mt_141 : MTP (yX7_isRow, cX7_isRow, 1, some .boolean, 7, cd141) := ⟨gw_in (List.mem_of_getElem? (i := 984) rfl) rfl, ci_7, cn_7.1, by decide, cn_7.2, rfl, by decide⟩
set_option maxRecDepth 100000 in
theorem mt_142 : MTP (yX7_isPart, cX7_isPart, 4, some .boolean, 7, cd142) := ⟨gw_in (List.mem_of_getElem? (i := 1009) rfl) rfl, ci_7, cn_7.1, by decide, cn_7.2, rfl, by decide⟩
set_option maxRecDepth 100000 in
theorem mt_143 : MTP (yX7_item, cX7_item, 3, some .int, 7, cd143) := ⟨gw_in (List.mem_of_getElem? (i := 1251) rfl) rfl, ci_7, cn_7.1, by decide, cn_7.2, rfl, by decide⟩
set_option maxRecDepth 100000 in
theorem mt_144 : MTP (yX7_row, cX7_row, 5, some .int, 7, cd144) := ⟨gw_in (List.mem_of_getElem? (i := 981) rfl) rfl, ci_7, cn_7.1, by decide, cn_7.2, rfl, by decide⟩
set_option maxRecDepth 100000 in
theorem mt_145 : MTP (yX7_set, cX7_set, 5, some .int, 7, cd145) := ⟨gw_in (List.mem_of_getElem? (i := 1001) rfl) rfl, ci_7, cn_7.1, by decide, cn_7.2, rfl, by decide⟩
set_option maxRecDepth 100000 in
theorem mt_146 : MTP (yX7_copy, cX7_copy, 9, some .int, 7, cd146) := ⟨gw_in (List.mem_of_getElem? (i := 1005) rfl) rfl, ci_7, cn_7.1, by decide, cn_7.2, rfl, by decide⟩
set_option maxRecDepth 100000 in
theorem mt_147 : MTP (yX7_drop, cX7_drop, 3, some .int, 7, cd147) := ⟨gw_in (List.mem_of_getElem? (i := 1013) rfl) rfl, ci_7, cn_7.1, by decide, cn_7.2, rfl, by decide⟩
set_option maxRecDepth 100000 in
theorem mt_148 : MTP (yX7_feed, cX7_feed, 2, some .int, 7, cd148) := ⟨gw_in (List.mem_of_getElem? (i := 1017) rfl) rfl, ci_7, cn_7.1, by decide, cn_7.2, rfl, by decide⟩
set_option maxRecDepth 100000 in
theorem mt_149 : MTP (yX7_byteAt, cX7_byteAt, 2, some .int, 7, cd149) := ⟨gw_in (List.mem_of_getElem? (i := 1034) rfl) rfl, ci_7, cn_7.1, by decide, cn_7.2, rfl, by decide⟩
set_option maxRecDepth 100000 in
theorem mt_150 : MTP (yX7_isFigure, cX7_isFigure, 1, some .boolean, 7, cd150) := ⟨gw_in (List.mem_of_getElem? (i := 1037) rfl) rfl, ci_7, cn_7.1, by decide, cn_7.2, rfl, by decide⟩
set_option maxRecDepth 100000 in
theorem mt_151 : MTP (yX7_reads, cX7_reads, 2, none, 7, cd151) := ⟨gw_in (List.mem_of_getElem? (i := 1030) rfl) rfl, ci_7, cn_7.1, by decide, cn_7.2, rfl, by decide⟩
set_option maxRecDepth 100000 in
theorem mt_152 : MTP (yX7_fails, cX7_fails, 2, some .boolean, 7, cd152) := ⟨gw_in (List.mem_of_getElem? (i := 1049) rfl) rfl, ci_7, cn_7.1, by decide, cn_7.2, rfl, by decide⟩
set_option maxRecDepth 100000 in
theorem mt_153 : MTP (yX7_told, cX7_told, 5, some .boolean, 7, cd153) := ⟨gw_in (List.mem_of_getElem? (i := 1045) rfl) rfl, ci_7, cn_7.1, by decide, cn_7.2, rfl, by decide⟩
set_option maxRecDepth 100000 in
theorem mt_154 : MTP (yX7_sign, cX7_sign, 2, some .boolean, 7, cd154) := ⟨gw_in (List.mem_of_getElem? (i := 1053) rfl) rfl, ci_7, cn_7.1, by decide, cn_7.2, rfl, by decide⟩
set_option maxRecDepth 100000 in
theorem mt_155 : MTP (yX7_readsLaw, cX7_readsLaw, 1, some .boolean, 7, cd155) := ⟨gw_in (List.mem_of_getElem? (i := 1041) rfl) rfl, ci_7, cn_7.1, by decide, cn_7.2, rfl, by decide⟩
set_option maxRecDepth 100000 in
theorem mt_156 : MTP (yX7_readsAnswer, cX7_readsAnswer, 2, some .boolean, 7, cd156) := ⟨gw_in (List.mem_of_getElem? (i := 1057) rfl) rfl, ci_7, cn_7.1, by decide, cn_7.2, rfl, by decide⟩
set_option maxRecDepth 100000 in
theorem mt_157 : MTP (yX7_sortOf, cX7_sortOf, 1, some .int, 7, cd157) := ⟨gw_in (List.mem_of_getElem? (i := 1064) rfl) rfl, ci_7, cn_7.1, by decide, cn_7.2, rfl, by decide⟩
set_option maxRecDepth 100000 in
theorem mt_158 : MTP (yX7_readsHawk, cX7_readsHawk, 3, some .boolean, 7, cd158) := ⟨gw_in (List.mem_of_getElem? (i := 1061) rfl) rfl, ci_7, cn_7.1, by decide, cn_7.2, rfl, by decide⟩
set_option maxRecDepth 100000 in
theorem mt_159 : MTP (yX7_readsAll, cX7_readsAll, 2, some .boolean, 7, cd159) := ⟨gw_in (List.mem_of_getElem? (i := 1026) rfl) rfl, ci_7, cn_7.1, by decide, cn_7.2, rfl, by decide⟩
set_option maxRecDepth 100000 in
theorem mt_160 : MTP (yX7_castle, cX7_castle, 4, some .int, 7, cd160) := ⟨gw_in (List.mem_of_getElem? (i := 1022) rfl) rfl, ci_7, cn_7.1, by decide, cn_7.2, rfl, by decide⟩
set_option maxRecDepth 100000 in
theorem mt_161 : MTP (yX7_fault, cX7_fault, 1, some .int, 7, cd161) := ⟨gw_in (List.mem_of_getElem? (i := 1069) rfl) rfl, ci_7, cn_7.1, by decide, cn_7.2, rfl, by decide⟩
set_option maxRecDepth 100000 in
theorem mt_162 : MTP (yX7_isHawk, cX7_isHawk, 2, some .boolean, 7, cd162) := ⟨gw_in (List.mem_of_getElem? (i := 1137) rfl) rfl, ci_7, cn_7.1, by decide, cn_7.2, rfl, by decide⟩
set_option maxRecDepth 100000 in
theorem mt_163 : MTP (yX7_isAnswer, cX7_isAnswer, 2, some .boolean, 7, cd163) := ⟨gw_in (List.mem_of_getElem? (i := 1165) rfl) rfl, ci_7, cn_7.1, by decide, cn_7.2, rfl, by decide⟩
set_option maxRecDepth 100000 in
theorem mt_164 : MTP (yX7_isRidge, cX7_isRidge, 2, some .boolean, 7, cd164) := ⟨gw_in (List.mem_of_getElem? (i := 1169) rfl) rfl, ci_7, cn_7.1, by decide, cn_7.2, rfl, by decide⟩
set_option maxRecDepth 100000 in
theorem mt_165 : MTP (yX7_apart, cX7_apart, 2, some .int, 7, cd165) := ⟨gw_in (List.mem_of_getElem? (i := 1118) rfl) rfl, ci_7, cn_7.1, by decide, cn_7.2, rfl, by decide⟩
set_option maxRecDepth 100000 in
theorem mt_166 : MTP (yX7_aims, cX7_aims, 9, some .int, 7, cd166) := ⟨gw_in (List.mem_of_getElem? (i := 1114) rfl) rfl, ci_7, cn_7.1, by decide, cn_7.2, rfl, by decide⟩
set_option maxRecDepth 100000 in
theorem mt_167 : MTP (yX7_goesFor, cX7_goesFor, 4, some .int, 7, cd167) := ⟨gw_in (List.mem_of_getElem? (i := 1110) rfl) rfl, ci_7, cn_7.1, by decide, cn_7.2, rfl, by decide⟩
set_option maxRecDepth 100000 in
theorem mt_168 : MTP (yX7_nearer, cX7_nearer, 3, some .int, 7, cd168) := ⟨gw_in (List.mem_of_getElem? (i := 1121) rfl) rfl, ci_7, cn_7.1, by decide, cn_7.2, rfl, by decide⟩
set_option maxRecDepth 100000 in
theorem mt_169 : MTP (yX7_moves, cX7_moves, 5, none, 7, cd169) := ⟨gw_in (List.mem_of_getElem? (i := 1106) rfl) rfl, ci_7, cn_7.1, by decide, cn_7.2, rfl, by decide⟩
set_option maxRecDepth 100000 in
theorem mt_170 : MTP (yX7_takes, cX7_takes, 8, some .int, 7, cd170) := ⟨gw_in (List.mem_of_getElem? (i := 1125) rfl) rfl, ci_7, cn_7.1, by decide, cn_7.2, rfl, by decide⟩
set_option maxRecDepth 100000 in
theorem mt_171 : MTP (yX7_drifts, cX7_drifts, 5, none, 7, cd171) := ⟨gw_in (List.mem_of_getElem? (i := 1094) rfl) rfl, ci_7, cn_7.1, by decide, cn_7.2, rfl, by decide⟩
set_option maxRecDepth 100000 in
theorem mt_172 : MTP (yX7_hunts, cX7_hunts, 5, some .boolean, 7, cd172) := ⟨gw_in (List.mem_of_getElem? (i := 1101) rfl) rfl, ci_7, cn_7.1, by decide, cn_7.2, rfl, by decide⟩
set_option maxRecDepth 100000 in
theorem mt_173 : MTP (yX7_passes, cX7_passes, 5, none, 7, cd173) := ⟨gw_in (List.mem_of_getElem? (i := 1090) rfl) rfl, ci_7, cn_7.1, by decide, cn_7.2, rfl, by decide⟩
set_option maxRecDepth 100000 in
theorem mt_174 : MTP (yX7_worthOf, cX7_worthOf, 4, some .int, 7, cd174) := ⟨gw_in (List.mem_of_getElem? (i := 1129) rfl) rfl, ci_7, cn_7.1, by decide, cn_7.2, rfl, by decide⟩
set_option maxRecDepth 100000 in
theorem mt_175 : MTP (yX7_are, cX7_are, 5, some .int, 7, cd175) := ⟨gw_in (List.mem_of_getElem? (i := 1145) rfl) rfl, ci_7, cn_7.1, by decide, cn_7.2, rfl, by decide⟩
set_option maxRecDepth 100000 in
theorem mt_176 : MTP (yX7_letsGo, cX7_letsGo, 3, none, 7, cd176) := ⟨gw_in (List.mem_of_getElem? (i := 1141) rfl) rfl, ci_7, cn_7.1, by decide, cn_7.2, rfl, by decide⟩
set_option maxRecDepth 100000 in
theorem mt_177 : MTP (yX7_callsBack, cX7_callsBack, 3, none, 7, cd177) := ⟨gw_in (List.mem_of_getElem? (i := 1153) rfl) rfl, ci_7, cn_7.1, by decide, cn_7.2, rfl, by decide⟩
set_option maxRecDepth 100000 in
theorem mt_178 : MTP (yX7_remember, cX7_remember, 2, none, 7, cd178) := ⟨gw_in (List.mem_of_getElem? (i := 1086) rfl) rfl, ci_7, cn_7.1, by decide, cn_7.2, rfl, by decide⟩
set_option maxRecDepth 100000 in
theorem mt_179 : MTP (yX7_undo, cX7_undo, 2, some .int, 7, cd179) := ⟨gw_in (List.mem_of_getElem? (i := 1073) rfl) rfl, ci_7, cn_7.1, by decide, cn_7.2, rfl, by decide⟩
set_option maxRecDepth 100000 in
theorem mt_180 : MTP (yX7_need, cX7_need, 2, some .int, 7, cd180) := ⟨gw_in (List.mem_of_getElem? (i := 1082) rfl) rfl, ci_7, cn_7.1, by decide, cn_7.2, rfl, by decide⟩
set_option maxRecDepth 100000 in
theorem mt_181 : MTP (yX7_hours, cX7_hours, 4, some .int, 7, cd181) := ⟨gw_in (List.mem_of_getElem? (i := 1078) rfl) rfl, ci_7, cn_7.1, by decide, cn_7.2, rfl, by decide⟩
set_option maxRecDepth 100000 in
theorem mt_182 : MTP (yX7_fly, cX7_fly, 2, some .int, 7, cd182) := ⟨gw_in (List.mem_of_getElem? (i := 1133) rfl) rfl, ci_7, cn_7.1, by decide, cn_7.2, rfl, by decide⟩
set_option maxRecDepth 100000 in
theorem mt_183 : MTP (yX7_call, cX7_call, 2, some .int, 7, cd183) := ⟨gw_in (List.mem_of_getElem? (i := 1149) rfl) rfl, ci_7, cn_7.1, by decide, cn_7.2, rfl, by decide⟩
set_option maxRecDepth 100000 in
theorem mt_184 : MTP (yX7_starve, cX7_starve, 4, some .int, 7, cd184) := ⟨gw_in (List.mem_of_getElem? (i := 1157) rfl) rfl, ci_7, cn_7.1, by decide, cn_7.2, rfl, by decide⟩
set_option maxRecDepth 100000 in
theorem mt_185 : MTP (yX7_lay, cX7_lay, 4, some .int, 7, cd185) := ⟨gw_in (List.mem_of_getElem? (i := 1161) rfl) rfl, ci_7, cn_7.1, by decide, cn_7.2, rfl, by decide⟩
set_option maxRecDepth 100000 in
theorem mt_186 : MTP (yX7_hawk, cX7_hawk, 3, some .int, 7, cd186) := ⟨gw_in (List.mem_of_getElem? (i := 1173) rfl) rfl, ci_7, cn_7.1, by decide, cn_7.2, rfl, by decide⟩
set_option maxRecDepth 100000 in
theorem mt_187 : MTP (yX7_answer, cX7_answer, 3, some .int, 7, cd187) := ⟨gw_in (List.mem_of_getElem? (i := 1177) rfl) rfl, ci_7, cn_7.1, by decide, cn_7.2, rfl, by decide⟩
set_option maxRecDepth 100000 in
theorem mt_188 : MTP (yX7_stand, cX7_stand, 3, some .int, 7, cd188) := ⟨gw_in (List.mem_of_getElem? (i := 1181) rfl) rfl, ci_7, cn_7.1, by decide, cn_7.2, rfl, by decide⟩
set_option maxRecDepth 100000 in
theorem mt_189 : MTP (yX7_copyNow, cX7_copyNow, 2, none, 7, cd189) := ⟨gw_in (List.mem_of_getElem? (i := 1192) rfl) rfl, ci_7, cn_7.1, by decide, cn_7.2, rfl, by decide⟩
set_option maxRecDepth 100000 in
theorem mt_190 : MTP (yX7_goesOn, cX7_goesOn, 3, none, 7, cd190) := ⟨gw_in (List.mem_of_getElem? (i := 1196) rfl) rfl, ci_7, cn_7.1, by decide, cn_7.2, rfl, by decide⟩
set_option maxRecDepth 100000 in
theorem mt_191 : MTP (yX7_isAhead, cX7_isAhead, 1, some .boolean, 7, cd191) := ⟨gw_in (List.mem_of_getElem? (i := 1188) rfl) rfl, ci_7, cn_7.1, by decide, cn_7.2, rfl, by decide⟩
set_option maxRecDepth 100000 in
theorem mt_192 : MTP (yX7_ahead, cX7_ahead, 4, some .int, 7, cd192) := ⟨gw_in (List.mem_of_getElem? (i := 1185) rfl) rfl, ci_7, cn_7.1, by decide, cn_7.2, rfl, by decide⟩
set_option maxRecDepth 100000 in
theorem mt_193 : MTP (yX7_later, cX7_later, 3, some .int, 7, cd193) := ⟨gw_in (List.mem_of_getElem? (i := 1200) rfl) rfl, ci_7, cn_7.1, by decide, cn_7.2, rfl, by decide⟩
set_option maxRecDepth 100000 in
theorem mt_194 : MTP (yX7_known, cX7_known, 3, some .int, 7, cd194) := ⟨gw_in (List.mem_of_getElem? (i := 1204) rfl) rfl, ci_7, cn_7.1, by decide, cn_7.2, rfl, by decide⟩
set_option maxRecDepth 100000 in
theorem mt_195 : MTP (yX7_lost, cX7_lost, 3, some .int, 7, cd195) := ⟨gw_in (List.mem_of_getElem? (i := 1208) rfl) rfl, ci_7, cn_7.1, by decide, cn_7.2, rfl, by decide⟩
set_option maxRecDepth 100000 in
theorem mt_196 : MTP (yX7_first, cX7_first, 5, some .int, 7, cd196) := ⟨gw_in (List.mem_of_getElem? (i := 1212) rfl) rfl, ci_7, cn_7.1, by decide, cn_7.2, rfl, by decide⟩
set_option maxRecDepth 100000 in
theorem mt_197 : MTP (yX7_flies, cX7_flies, 10, some .int, 7, cd197) := ⟨gw_in (List.mem_of_getElem? (i := 1219) rfl) rfl, ci_7, cn_7.1, by decide, cn_7.2, rfl, by decide⟩
set_option maxRecDepth 100000 in
theorem mt_198 : MTP (yX7_knownBy, cX7_knownBy, 5, some .int, 7, cd198) := ⟨gw_in (List.mem_of_getElem? (i := 1227) rfl) rfl, ci_7, cn_7.1, by decide, cn_7.2, rfl, by decide⟩
set_option maxRecDepth 100000 in
theorem mt_199 : MTP (yX7_waits, cX7_waits, 9, some .int, 7, cd199) := ⟨gw_in (List.mem_of_getElem? (i := 1223) rfl) rfl, ci_7, cn_7.1, by decide, cn_7.2, rfl, by decide⟩
set_option maxRecDepth 100000 in
theorem mt_200 : MTP (yX7_starves, cX7_starves, 6, some .int, 7, cd200) := ⟨gw_in (List.mem_of_getElem? (i := 1231) rfl) rfl, ci_7, cn_7.1, by decide, cn_7.2, rfl, by decide⟩
set_option maxRecDepth 100000 in
theorem mt_201 : MTP (yX7_falconers, cX7_falconers, 11, some .int, 7, cd201) := ⟨gw_in (List.mem_of_getElem? (i := 1235) rfl) rfl, ci_7, cn_7.1, by decide, cn_7.2, rfl, by decide⟩
set_option maxRecDepth 100000 in
theorem mt_202 : MTP (yX7_nearest, cX7_nearest, 4, some .int, 7, cd202) := ⟨gw_in (List.mem_of_getElem? (i := 1239) rfl) rfl, ci_7, cn_7.1, by decide, cn_7.2, rfl, by decide⟩
set_option maxRecDepth 100000 in
theorem mt_203 : MTP (yX7_isBell, cX7_isBell, 7, some .boolean, 7, cd203) := ⟨gw_in (List.mem_of_getElem? (i := 1247) rfl) rfl, ci_7, cn_7.1, by decide, cn_7.2, rfl, by decide⟩
set_option maxRecDepth 100000 in
theorem mt_204 : MTP (yX7_who, cX7_who, 10, some .int, 7, cd204) := ⟨gw_in (List.mem_of_getElem? (i := 1243) rfl) rfl, ci_7, cn_7.1, by decide, cn_7.2, rfl, by decide⟩
set_option maxRecDepth 100000 in
theorem mt_205 : MTP (yX7_what, cX7_what, 9, some .int, 7, cd205) := ⟨gw_in (List.mem_of_getElem? (i := 1255) rfl) rfl, ci_7, cn_7.1, by decide, cn_7.2, rfl, by decide⟩
set_option maxRecDepth 100000 in
theorem mt_206 : MTP (yX7_common, cX7_common, 10, some .long, 7, cd206) := ⟨gw_in (List.mem_of_getElem? (i := 1264) rfl) rfl, ci_7, cn_7.1, by decide, cn_7.2, rfl, by decide⟩
set_option maxRecDepth 100000 in
theorem mt_207 : MTP (yX7_moult, cX7_moult, 14, some .long, 7, cd207) := ⟨gw_in (List.mem_of_getElem? (i := 1259) rfl) rfl, ci_7, cn_7.1, by decide, cn_7.2, rfl, by decide⟩
set_option maxRecDepth 100000 in
theorem mt_208 : MTP (yX7_drawn, cX7_drawn, 10, some .int, 7, cd208) := ⟨gw_in (List.mem_of_getElem? (i := 1268) rfl) rfl, ci_7, cn_7.1, by decide, cn_7.2, rfl, by decide⟩
set_option maxRecDepth 100000 in
theorem mt_209 : MTP (yX7_image, cX7_image, 3, some .int, 7, cd209) := ⟨gw_in (List.mem_of_getElem? (i := 1277) rfl) rfl, ci_7, cn_7.1, by decide, cn_7.2, rfl, by decide⟩
set_option maxRecDepth 100000 in
theorem mt_210 : MTP (yX7_restore, cX7_restore, 3, some .int, 7, cd210) := ⟨gw_in (List.mem_of_getElem? (i := 1281) rfl) rfl, ci_7, cn_7.1, by decide, cn_7.2, rfl, by decide⟩
set_option maxRecDepth 100000 in
theorem mt_211 : MTP (yX7_kind, cX7_kind, 2, some .int, 7, cd211) := ⟨gw_in (List.mem_of_getElem? (i := 1285) rfl) rfl, ci_7, cn_7.1, by decide, cn_7.2, rfl, by decide⟩
set_option maxRecDepth 100000 in
theorem mt_212 : MTP (yX7_as, cX7_as, 5, some .int, 7, cd212) := ⟨gw_in (List.mem_of_getElem? (i := 1289) rfl) rfl, ci_7, cn_7.1, by decide, cn_7.2, rfl, by decide⟩
set_option maxRecDepth 100000 in
theorem mt_213 : MTP (yX7_leaves, cX7_leaves, 2, none, 7, cd213) := ⟨gw_in (List.mem_of_getElem? (i := 1301) rfl) rfl, ci_7, cn_7.1, by decide, cn_7.2, rfl, by decide⟩
set_option maxRecDepth 100000 in
theorem mt_214 : MTP (yX7_b10, cX7_b10, 2, some .int, 7, cd214) := ⟨gw_in (List.mem_of_getElem? (i := 1309) rfl) rfl, ci_7, cn_7.1, by decide, cn_7.2, rfl, by decide⟩
set_option maxRecDepth 100000 in
theorem mt_215 : MTP (yX7_b20, cX7_b20, 2, some .int, 7, cd215) := ⟨gw_in (List.mem_of_getElem? (i := 1321) rfl) rfl, ci_7, cn_7.1, by decide, cn_7.2, rfl, by decide⟩
set_option maxRecDepth 100000 in
theorem mt_216 : MTP (yX7_b21, cX7_b21, 2, some .int, 7, cd216) := ⟨gw_in (List.mem_of_getElem? (i := 1317) rfl) rfl, ci_7, cn_7.1, by decide, cn_7.2, rfl, by decide⟩
set_option maxRecDepth 100000 in
theorem mt_217 : MTP (yX7_markOfMerlin, cX7_markOfMerlin, 2, some .int, 7, cd217) := ⟨gw_in (List.mem_of_getElem? (i := 1313) rfl) rfl, ci_7, cn_7.1, by decide, cn_7.2, rfl, by decide⟩
set_option maxRecDepth 100000 in
theorem mt_218 : MTP (yX7_b11, cX7_b11, 3, some .int, 7, cd218) := ⟨gw_in (List.mem_of_getElem? (i := 1305) rfl) rfl, ci_7, cn_7.1, by decide, cn_7.2, rfl, by decide⟩
set_option maxRecDepth 100000 in
theorem mt_219 : MTP (yX7_b13, cX7_b13, 2, some .int, 7, cd219) := ⟨gw_in (List.mem_of_getElem? (i := 1325) rfl) rfl, ci_7, cn_7.1, by decide, cn_7.2, rfl, by decide⟩
set_option maxRecDepth 100000 in
theorem mt_220 : MTP (yX7_sizeOf, cX7_sizeOf, 2, some .int, 7, cd220) := ⟨gw_in (List.mem_of_getElem? (i := 1297) rfl) rfl, ci_7, cn_7.1, by decide, cn_7.2, rfl, by decide⟩
set_option maxRecDepth 100000 in
theorem mt_221 : MTP (yX7_markOf, cX7_markOf, 3, some .int, 7, cd221) := ⟨gw_in (List.mem_of_getElem? (i := 1329) rfl) rfl, ci_7, cn_7.1, by decide, cn_7.2, rfl, by decide⟩
set_option maxRecDepth 100000 in
theorem mt_222 : MTP (yX7_ask, cX7_ask, 3, some .int, 7, cd222) := ⟨gw_in (List.mem_of_getElem? (i := 1293) rfl) rfl, ci_7, cn_7.1, by decide, cn_7.2, rfl, by decide⟩
set_option maxRecDepth 100000 in
theorem mt_223 : MTP (yX7_trace, cX7_trace, 2, some .int, 7, cd223) := ⟨gw_in (List.mem_of_getElem? (i := 1333) rfl) rfl, ci_7, cn_7.1, by decide, cn_7.2, rfl, by decide⟩
set_option maxRecDepth 100000 in
theorem mt_224 : MTP (yX7_count, cX7_count, 4, some .int, 7, cd224) := ⟨gw_in (List.mem_of_getElem? (i := 1337) rfl) rfl, ci_7, cn_7.1, by decide, cn_7.2, rfl, by decide⟩
set_option maxRecDepth 100000 in
theorem mt_225 : MTP (yJ6_bitCount_0f7a4, cJ6_bitCount_0f7a4, 1, some .int, 8, cd225) := ⟨gw_in (List.mem_of_getElem? (i := 698) rfl) rfl, ci_8, cn_8.1, by decide, cn_8.2, rfl, by decide⟩
set_option maxRecDepth 100000 in
theorem ml_0_1 : MLP 0 1 3 0 1 := Or.inl ⟨rfl, gw_in (List.mem_of_getElem? (i := 226) rfl) rfl⟩
set_option maxRecDepth 100000 in
theorem ml_0_23 : MLP 0 23 0 15 2 := Or.inr (Or.inr (Or.inr (Or.inr (Or.inr ⟨_, rfl, mt_15, Or.inl ⟨rfl, gw_in (List.mem_of_getElem? (i := 494) rfl) rfl, gw_in (List.mem_of_getElem? (i := 474) rfl) rfl, gw_in (List.mem_of_getElem? (i := 475) rfl) rfl, pd_22, by decide, by decide⟩⟩))))
set_option maxRecDepth 100000 in
theorem ml_0_27 : MLP 0 27 6 0 2 := Or.inr (Or.inr (Or.inr (Or.inl ⟨rfl, gw_in (List.mem_of_getElem? (i := 507) rfl) rfl⟩)))
set_option maxRecDepth 100000 in
theorem ml_0_15 : MLP 0 15 12 11 1 := Or.inr (Or.inr (Or.inr (Or.inr (Or.inr ⟨_, rfl, mt_11, Or.inr (Or.inr (Or.inr (Or.inr ⟨rfl, List.mem_of_getElem? (i := 229) rfl, gw_in (List.mem_of_getElem? (i := 119) rfl) rfl, rfl, rfl, pd_1, by decide⟩)))⟩))))
set_option maxRecDepth 100000 in
theorem mlA_0 : ∀ q ∈ mlT 0, MLP 0 q.1 q.2.1 q.2.2.1 q.2.2.2 := List.forall_mem_cons.mpr ⟨ml_0_1, List.forall_mem_cons.mpr ⟨ml_0_23, List.forall_mem_cons.mpr ⟨ml_0_27, List.forall_mem_cons.mpr ⟨ml_0_15, fun _ h => absurd h List.not_mem_nil⟩⟩⟩⟩
set_option maxRecDepth 100000 in
theorem ml_1_3 : MLP 1 3 3 0 1 := Or.inl ⟨rfl, gw_in (List.mem_of_getElem? (i := 273) rfl) rfl⟩
set_option maxRecDepth 100000 in
theorem ml_1_15 : MLP 1 15 1 6 1 := Or.inr (Or.inr (Or.inr (Or.inr (Or.inr ⟨_, rfl, mt_6, Or.inr (Or.inl ⟨rfl, gw_in (List.mem_of_getElem? (i := 834) rfl) rfl, gw_in (List.mem_of_getElem? (i := 835) rfl) rfl, pd_3⟩)⟩))))
set_option maxRecDepth 100000 in
theorem ml_1_45 : MLP 1 45 0 9 3 := Or.inr (Or.inr (Or.inr (Or.inr (Or.inr ⟨_, rfl, mt_9, Or.inl ⟨rfl, gw_in (List.mem_of_getElem? (i := 854) rfl) rfl, gw_in (List.mem_of_getElem? (i := 856) rfl) rfl, gw_in (List.mem_of_getElem? (i := 26) rfl) rfl, pd_6, by decide, by decide⟩⟩))))
set_option maxRecDepth 100000 in
theorem ml_1_49 : MLP 1 49 0 10 2 := Or.inr (Or.inr (Or.inr (Or.inr (Or.inr ⟨_, rfl, mt_10, Or.inl ⟨rfl, gw_in (List.mem_of_getElem? (i := 858) rfl) rfl, gw_in (List.mem_of_getElem? (i := 860) rfl) rfl, gw_in (List.mem_of_getElem? (i := 27) rfl) rfl, pd_4, by decide, by decide⟩⟩))))
set_option maxRecDepth 100000 in
theorem ml_1_23 : MLP 1 23 11 131 3 := Or.inr (Or.inr (Or.inr (Or.inr (Or.inr ⟨_, rfl, mt_131, Or.inr (Or.inr (Or.inl ⟨rfl, List.mem_of_getElem? (i := 845) rfl, gw_in (List.mem_of_getElem? (i := 331) rfl) rfl, pd_12⟩))⟩))))
set_option maxRecDepth 100000 in
theorem mlA_1 : ∀ q ∈ mlT 1, MLP 1 q.1 q.2.1 q.2.2.1 q.2.2.2 := List.forall_mem_cons.mpr ⟨ml_1_3, List.forall_mem_cons.mpr ⟨ml_1_15, List.forall_mem_cons.mpr ⟨ml_1_45, List.forall_mem_cons.mpr ⟨ml_1_49, List.forall_mem_cons.mpr ⟨ml_1_23, fun _ h => absurd h List.not_mem_nil⟩⟩⟩⟩⟩
set_option maxRecDepth 100000 in
theorem ml_2_3 : MLP 2 3 3 0 1 := Or.inl ⟨rfl, gw_in (List.mem_of_getElem? (i := 121) rfl) rfl⟩
set_option maxRecDepth 100000 in
theorem ml_2_62 : MLP 2 62 0 20 2 := Or.inr (Or.inr (Or.inr (Or.inr (Or.inr ⟨_, rfl, mt_20, Or.inl ⟨rfl, gw_in (List.mem_of_getElem? (i := 518) rfl) rfl, gw_in (List.mem_of_getElem? (i := 519) rfl) rfl, gw_in (List.mem_of_getElem? (i := 520) rfl) rfl, pd_5, by decide, by decide⟩⟩))))
set_option maxRecDepth 100000 in
theorem ml_2_66 : MLP 2 66 0 26 3 := Or.inr (Or.inr (Or.inr (Or.inr (Or.inr ⟨_, rfl, mt_26, Or.inl ⟨rfl, gw_in (List.mem_of_getElem? (i := 583) rfl) rfl, gw_in (List.mem_of_getElem? (i := 585) rfl) rfl, gw_in (List.mem_of_getElem? (i := 20) rfl) rfl, pd_7, by decide, by decide⟩⟩))))
set_option maxRecDepth 100000 in
theorem ml_2_70 : MLP 2 70 0 28 2 := Or.inr (Or.inr (Or.inr (Or.inr (Or.inr ⟨_, rfl, mt_28, Or.inl ⟨rfl, gw_in (List.mem_of_getElem? (i := 514) rfl) rfl, gw_in (List.mem_of_getElem? (i := 516) rfl) rfl, gw_in (List.mem_of_getElem? (i := 13) rfl) rfl, pd_4, by decide, by decide⟩⟩))))
set_option maxRecDepth 100000 in
theorem ml_2_74 : MLP 2 74 0 29 2 := Or.inr (Or.inr (Or.inr (Or.inr (Or.inr ⟨_, rfl, mt_29, Or.inl ⟨rfl, gw_in (List.mem_of_getElem? (i := 522) rfl) rfl, gw_in (List.mem_of_getElem? (i := 524) rfl) rfl, gw_in (List.mem_of_getElem? (i := 14) rfl) rfl, pd_5, by decide, by decide⟩⟩))))
set_option maxRecDepth 100000 in
theorem ml_2_77 : MLP 2 77 0 33 2 := Or.inr (Or.inr (Or.inr (Or.inr (Or.inr ⟨_, rfl, mt_33, Or.inl ⟨rfl, gw_in (List.mem_of_getElem? (i := 526) rfl) rfl, gw_in (List.mem_of_getElem? (i := 527) rfl) rfl, gw_in (List.mem_of_getElem? (i := 528) rfl) rfl, pd_3, by decide, by decide⟩⟩))))
set_option maxRecDepth 100000 in
theorem ml_2_81 : MLP 2 81 0 31 3 := Or.inr (Or.inr (Or.inr (Or.inr (Or.inr ⟨_, rfl, mt_31, Or.inl ⟨rfl, gw_in (List.mem_of_getElem? (i := 542) rfl) rfl, gw_in (List.mem_of_getElem? (i := 544) rfl) rfl, gw_in (List.mem_of_getElem? (i := 16) rfl) rfl, pd_6, by decide, by decide⟩⟩))))
set_option maxRecDepth 100000 in
theorem ml_2_85 : MLP 2 85 0 37 2 := Or.inr (Or.inr (Or.inr (Or.inr (Or.inr ⟨_, rfl, mt_37, Or.inl ⟨rfl, gw_in (List.mem_of_getElem? (i := 554) rfl) rfl, gw_in (List.mem_of_getElem? (i := 555) rfl) rfl, gw_in (List.mem_of_getElem? (i := 556) rfl) rfl, pd_3, by decide, by decide⟩⟩))))
set_option maxRecDepth 100000 in
theorem ml_2_89 : MLP 2 89 0 30 3 := Or.inr (Or.inr (Or.inr (Or.inr (Or.inr ⟨_, rfl, mt_30, Or.inl ⟨rfl, gw_in (List.mem_of_getElem? (i := 562) rfl) rfl, gw_in (List.mem_of_getElem? (i := 564) rfl) rfl, gw_in (List.mem_of_getElem? (i := 19) rfl) rfl, pd_7, by decide, by decide⟩⟩))))
set_option maxRecDepth 100000 in
theorem ml_2_92 : MLP 2 92 5 0 2 := Or.inr (Or.inr (Or.inl ⟨rfl, gw_in (List.mem_of_getElem? (i := 551) rfl) rfl⟩))
set_option maxRecDepth 100000 in
theorem ml_2_97 : MLP 2 97 0 32 4 := Or.inr (Or.inr (Or.inr (Or.inr (Or.inr ⟨_, rfl, mt_32, Or.inl ⟨rfl, gw_in (List.mem_of_getElem? (i := 546) rfl) rfl, gw_in (List.mem_of_getElem? (i := 548) rfl) rfl, gw_in (List.mem_of_getElem? (i := 17) rfl) rfl, pd_9, by decide, by decide⟩⟩))))
set_option maxRecDepth 100000 in
theorem ml_2_101 : MLP 2 101 6 0 2 := Or.inr (Or.inr (Or.inr (Or.inl ⟨rfl, gw_in (List.mem_of_getElem? (i := 550) rfl) rfl⟩)))
set_option maxRecDepth 100000 in
theorem ml_2_104 : MLP 2 104 0 35 2 := Or.inr (Or.inr (Or.inr (Or.inr (Or.inr ⟨_, rfl, mt_35, Or.inl ⟨rfl, gw_in (List.mem_of_getElem? (i := 530) rfl) rfl, gw_in (List.mem_of_getElem? (i := 531) rfl) rfl, gw_in (List.mem_of_getElem? (i := 532) rfl) rfl, pd_3, by decide, by decide⟩⟩))))
set_option maxRecDepth 100000 in
theorem ml_2_107 : MLP 2 107 0 36 2 := Or.inr (Or.inr (Or.inr (Or.inr (Or.inr ⟨_, rfl, mt_36, Or.inl ⟨rfl, gw_in (List.mem_of_getElem? (i := 538) rfl) rfl, gw_in (List.mem_of_getElem? (i := 540) rfl) rfl, gw_in (List.mem_of_getElem? (i := 15) rfl) rfl, pd_3, by decide, by decide⟩⟩))))
set_option maxRecDepth 100000 in
theorem ml_2_110 : MLP 2 110 7 0 1 := Or.inr (Or.inr (Or.inr (Or.inr (Or.inl ⟨rfl, gw_in (List.mem_of_getElem? (i := 535) rfl) rfl⟩))))
set_option maxRecDepth 100000 in
theorem ml_2_113 : MLP 2 113 0 38 2 := Or.inr (Or.inr (Or.inr (Or.inr (Or.inr ⟨_, rfl, mt_38, Or.inl ⟨rfl, gw_in (List.mem_of_getElem? (i := 558) rfl) rfl, gw_in (List.mem_of_getElem? (i := 560) rfl) rfl, gw_in (List.mem_of_getElem? (i := 18) rfl) rfl, pd_3, by decide, by decide⟩⟩))))
set_option maxRecDepth 100000 in
theorem ml_2_58 : MLP 2 58 11 131 3 := Or.inr (Or.inr (Or.inr (Or.inr (Or.inr ⟨_, rfl, mt_131, Or.inr (Or.inr (Or.inl ⟨rfl, List.mem_of_getElem? (i := 578) rfl, gw_in (List.mem_of_getElem? (i := 331) rfl) rfl, pd_12⟩))⟩))))
set_option maxRecDepth 100000 in
theorem mlA_2 : ∀ q ∈ mlT 2, MLP 2 q.1 q.2.1 q.2.2.1 q.2.2.2 := List.forall_mem_cons.mpr ⟨ml_2_3, List.forall_mem_cons.mpr ⟨ml_2_62, List.forall_mem_cons.mpr ⟨ml_2_66, List.forall_mem_cons.mpr ⟨ml_2_70, List.forall_mem_cons.mpr ⟨ml_2_74, List.forall_mem_cons.mpr ⟨ml_2_77, List.forall_mem_cons.mpr ⟨ml_2_81, List.forall_mem_cons.mpr ⟨ml_2_85, List.forall_mem_cons.mpr ⟨ml_2_89, List.forall_mem_cons.mpr ⟨ml_2_92, List.forall_mem_cons.mpr ⟨ml_2_97, List.forall_mem_cons.mpr ⟨ml_2_101, List.forall_mem_cons.mpr ⟨ml_2_104, List.forall_mem_cons.mpr ⟨ml_2_107, List.forall_mem_cons.mpr ⟨ml_2_110, List.forall_mem_cons.mpr ⟨ml_2_113, List.forall_mem_cons.mpr ⟨ml_2_58, fun _ h => absurd h List.not_mem_nil⟩⟩⟩⟩⟩⟩⟩⟩⟩⟩⟩⟩⟩⟩⟩⟩⟩
set_option maxRecDepth 100000 in
theorem ml_3_3 : MLP 3 3 3 0 1 := Or.inl ⟨rfl, gw_in (List.mem_of_getElem? (i := 246) rfl) rfl⟩
set_option maxRecDepth 100000 in
theorem ml_3_28 : MLP 3 28 0 15 2 := Or.inr (Or.inr (Or.inr (Or.inr (Or.inr ⟨_, rfl, mt_15, Or.inl ⟨rfl, gw_in (List.mem_of_getElem? (i := 642) rfl) rfl, gw_in (List.mem_of_getElem? (i := 474) rfl) rfl, gw_in (List.mem_of_getElem? (i := 475) rfl) rfl, pd_22, by decide, by decide⟩⟩))))
set_option maxRecDepth 100000 in
theorem ml_3_32 : MLP 3 32 0 27 2 := Or.inr (Or.inr (Or.inr (Or.inr (Or.inr ⟨_, rfl, mt_27, Or.inl ⟨rfl, gw_in (List.mem_of_getElem? (i := 643) rfl) rfl, gw_in (List.mem_of_getElem? (i := 511) rfl) rfl, gw_in (List.mem_of_getElem? (i := 512) rfl) rfl, pd_4, by decide, by decide⟩⟩))))
set_option maxRecDepth 100000 in
theorem ml_3_36 : MLP 3 36 0 42 3 := Or.inr (Or.inr (Or.inr (Or.inr (Or.inr ⟨_, rfl, mt_42, Or.inl ⟨rfl, gw_in (List.mem_of_getElem? (i := 656) rfl) rfl, gw_in (List.mem_of_getElem? (i := 658) rfl) rfl, gw_in (List.mem_of_getElem? (i := 21) rfl) rfl, pd_6, by decide, by decide⟩⟩))))
set_option maxRecDepth 100000 in
theorem ml_3_40 : MLP 3 40 0 20 2 := Or.inr (Or.inr (Or.inr (Or.inr (Or.inr ⟨_, rfl, mt_20, Or.inl ⟨rfl, gw_in (List.mem_of_getElem? (i := 660) rfl) rfl, gw_in (List.mem_of_getElem? (i := 519) rfl) rfl, gw_in (List.mem_of_getElem? (i := 520) rfl) rfl, pd_5, by decide, by decide⟩⟩))))
set_option maxRecDepth 100000 in
theorem ml_3_52 : MLP 3 52 0 22 2 := Or.inr (Or.inr (Or.inr (Or.inr (Or.inr ⟨_, rfl, mt_22, Or.inl ⟨rfl, gw_in (List.mem_of_getElem? (i := 686) rfl) rfl, gw_in (List.mem_of_getElem? (i := 588) rfl) rfl, gw_in (List.mem_of_getElem? (i := 589) rfl) rfl, pd_3, by decide, by decide⟩⟩))))
set_option maxRecDepth 100000 in
theorem ml_3_56 : MLP 3 56 0 46 4 := Or.inr (Or.inr (Or.inr (Or.inr (Or.inr ⟨_, rfl, mt_46, Or.inl ⟨rfl, gw_in (List.mem_of_getElem? (i := 687) rfl) rfl, gw_in (List.mem_of_getElem? (i := 689) rfl) rfl, gw_in (List.mem_of_getElem? (i := 22) rfl) rfl, pd_26, by decide, by decide⟩⟩))))
set_option maxRecDepth 100000 in
theorem ml_3_60 : MLP 3 60 0 21 1 := Or.inr (Or.inr (Or.inr (Or.inr (Or.inr ⟨_, rfl, mt_21, Or.inl ⟨rfl, gw_in (List.mem_of_getElem? (i := 695) rfl) rfl, gw_in (List.mem_of_getElem? (i := 567) rfl) rfl, gw_in (List.mem_of_getElem? (i := 568) rfl) rfl, pd_0, by decide, by decide⟩⟩))))
set_option maxRecDepth 100000 in
theorem ml_3_64 : MLP 3 64 1 225 1 := Or.inr (Or.inr (Or.inr (Or.inr (Or.inr ⟨_, rfl, mt_225, Or.inr (Or.inl ⟨rfl, gw_in (List.mem_of_getElem? (i := 696) rfl) rfl, gw_in (List.mem_of_getElem? (i := 697) rfl) rfl, pd_3⟩)⟩))))
set_option maxRecDepth 100000 in
theorem ml_3_69 : MLP 3 69 0 25 3 := Or.inr (Or.inr (Or.inr (Or.inr (Or.inr ⟨_, rfl, mt_25, Or.inl ⟨rfl, gw_in (List.mem_of_getElem? (i := 691) rfl) rfl, gw_in (List.mem_of_getElem? (i := 692) rfl) rfl, gw_in (List.mem_of_getElem? (i := 693) rfl) rfl, pd_7, by decide, by decide⟩⟩))))
set_option maxRecDepth 100000 in
theorem ml_3_73 : MLP 3 73 0 23 2 := Or.inr (Or.inr (Or.inr (Or.inr (Or.inr ⟨_, rfl, mt_23, Or.inl ⟨rfl, gw_in (List.mem_of_getElem? (i := 710) rfl) rfl, gw_in (List.mem_of_getElem? (i := 580) rfl) rfl, gw_in (List.mem_of_getElem? (i := 581) rfl) rfl, pd_4, by decide, by decide⟩⟩))))
set_option maxRecDepth 100000 in
theorem ml_3_82 : MLP 3 82 1 50 5 := Or.inr (Or.inr (Or.inr (Or.inr (Or.inr ⟨_, rfl, mt_50, Or.inr (Or.inl ⟨rfl, gw_in (List.mem_of_getElem? (i := 727) rfl) rfl, gw_in (List.mem_of_getElem? (i := 728) rfl) rfl, pd_36⟩)⟩))))
set_option maxRecDepth 100000 in
theorem ml_3_86 : MLP 3 86 5 0 2 := Or.inr (Or.inr (Or.inl ⟨rfl, gw_in (List.mem_of_getElem? (i := 730) rfl) rfl⟩))
set_option maxRecDepth 100000 in
theorem ml_3_91 : MLP 3 91 6 0 2 := Or.inr (Or.inr (Or.inr (Or.inl ⟨rfl, gw_in (List.mem_of_getElem? (i := 731) rfl) rfl⟩)))
set_option maxRecDepth 100000 in
theorem ml_3_100 : MLP 3 100 4 0 5 := Or.inr (Or.inl ⟨rfl, gw_in (List.mem_of_getElem? (i := 752) rfl) rfl⟩)
set_option maxRecDepth 100000 in
theorem ml_3_112 : MLP 3 112 0 52 1 := Or.inr (Or.inr (Or.inr (Or.inr (Or.inr ⟨_, rfl, mt_52, Or.inl ⟨rfl, gw_in (List.mem_of_getElem? (i := 757) rfl) rfl, gw_in (List.mem_of_getElem? (i := 759) rfl) rfl, gw_in (List.mem_of_getElem? (i := 23) rfl) rfl, pd_2, by decide, by decide⟩⟩))))
set_option maxRecDepth 100000 in
theorem ml_3_125 : MLP 3 125 1 58 3 := Or.inr (Or.inr (Or.inr (Or.inr (Or.inr ⟨_, rfl, mt_58, Or.inr (Or.inl ⟨rfl, gw_in (List.mem_of_getElem? (i := 786) rfl) rfl, gw_in (List.mem_of_getElem? (i := 787) rfl) rfl, pd_10⟩)⟩))))
set_option maxRecDepth 100000 in
theorem ml_3_129 : MLP 3 129 0 59 5 := Or.inr (Or.inr (Or.inr (Or.inr (Or.inr ⟨_, rfl, mt_59, Or.inl ⟨rfl, gw_in (List.mem_of_getElem? (i := 789) rfl) rfl, gw_in (List.mem_of_getElem? (i := 791) rfl) rfl, gw_in (List.mem_of_getElem? (i := 24) rfl) rfl, pd_28, by decide, by decide⟩⟩))))
set_option maxRecDepth 100000 in
theorem ml_3_133 : MLP 3 133 1 60 2 := Or.inr (Or.inr (Or.inr (Or.inr (Or.inr ⟨_, rfl, mt_60, Or.inr (Or.inl ⟨rfl, gw_in (List.mem_of_getElem? (i := 793) rfl) rfl, gw_in (List.mem_of_getElem? (i := 794) rfl) rfl, pd_21⟩)⟩))))
set_option maxRecDepth 100000 in
theorem ml_3_143 : MLP 3 143 0 62 2 := Or.inr (Or.inr (Or.inr (Or.inr (Or.inr ⟨_, rfl, mt_62, Or.inl ⟨rfl, gw_in (List.mem_of_getElem? (i := 808) rfl) rfl, gw_in (List.mem_of_getElem? (i := 810) rfl) rfl, gw_in (List.mem_of_getElem? (i := 25) rfl) rfl, pd_20, by decide, by decide⟩⟩))))
set_option maxRecDepth 100000 in
theorem ml_3_154 : MLP 3 154 0 24 2 := Or.inr (Or.inr (Or.inr (Or.inr (Or.inr ⟨_, rfl, mt_24, Or.inl ⟨rfl, gw_in (List.mem_of_getElem? (i := 814) rfl) rfl, gw_in (List.mem_of_getElem? (i := 596) rfl) rfl, gw_in (List.mem_of_getElem? (i := 597) rfl) rfl, pd_4, by decide, by decide⟩⟩))))
set_option maxRecDepth 100000 in
theorem ml_3_11 : MLP 3 11 12 11 1 := Or.inr (Or.inr (Or.inr (Or.inr (Or.inr ⟨_, rfl, mt_11, Or.inr (Or.inr (Or.inr (Or.inr ⟨rfl, List.mem_of_getElem? (i := 248) rfl, gw_in (List.mem_of_getElem? (i := 119) rfl) rfl, rfl, rfl, pd_1, by decide⟩)))⟩))))
set_option maxRecDepth 100000 in
theorem mlA_3 : ∀ q ∈ mlT 3, MLP 3 q.1 q.2.1 q.2.2.1 q.2.2.2 := List.forall_mem_cons.mpr ⟨ml_3_3, List.forall_mem_cons.mpr ⟨ml_3_28, List.forall_mem_cons.mpr ⟨ml_3_32, List.forall_mem_cons.mpr ⟨ml_3_36, List.forall_mem_cons.mpr ⟨ml_3_40, List.forall_mem_cons.mpr ⟨ml_3_52, List.forall_mem_cons.mpr ⟨ml_3_56, List.forall_mem_cons.mpr ⟨ml_3_60, List.forall_mem_cons.mpr ⟨ml_3_64, List.forall_mem_cons.mpr ⟨ml_3_69, List.forall_mem_cons.mpr ⟨ml_3_73, List.forall_mem_cons.mpr ⟨ml_3_82, List.forall_mem_cons.mpr ⟨ml_3_86, List.forall_mem_cons.mpr ⟨ml_3_91, List.forall_mem_cons.mpr ⟨ml_3_100, List.forall_mem_cons.mpr ⟨ml_3_112, List.forall_mem_cons.mpr ⟨ml_3_125, List.forall_mem_cons.mpr ⟨ml_3_129, List.forall_mem_cons.mpr ⟨ml_3_133, List.forall_mem_cons.mpr ⟨ml_3_143, List.forall_mem_cons.mpr ⟨ml_3_154, List.forall_mem_cons.mpr ⟨ml_3_11, fun _ h => absurd h List.not_mem_nil⟩⟩⟩⟩⟩⟩⟩⟩⟩⟩⟩⟩⟩⟩⟩⟩⟩⟩⟩⟩⟩⟩
set_option maxRecDepth 100000 in
theorem ml_4_3 : MLP 4 3 3 0 1 := Or.inl ⟨rfl, gw_in (List.mem_of_getElem? (i := 115) rfl) rfl⟩
set_option maxRecDepth 100000 in
theorem ml_4_29 : MLP 4 29 0 12 1 := Or.inr (Or.inr (Or.inr (Or.inr (Or.inr ⟨_, rfl, mt_12, Or.inl ⟨rfl, gw_in (List.mem_of_getElem? (i := 412) rfl) rfl, gw_in (List.mem_of_getElem? (i := 413) rfl) rfl, gw_in (List.mem_of_getElem? (i := 414) rfl) rfl, pd_1, by decide, by decide⟩⟩))))
set_option maxRecDepth 100000 in
theorem ml_4_32 : MLP 4 32 0 66 1 := Or.inr (Or.inr (Or.inr (Or.inr (Or.inr ⟨_, rfl, mt_66, Or.inl ⟨rfl, gw_in (List.mem_of_getElem? (i := 416) rfl) rfl, gw_in (List.mem_of_getElem? (i := 418) rfl) rfl, gw_in (List.mem_of_getElem? (i := 3) rfl) rfl, pd_2, by decide, by decide⟩⟩))))
set_option maxRecDepth 100000 in
theorem ml_4_36 : MLP 4 36 0 67 1 := Or.inr (Or.inr (Or.inr (Or.inr (Or.inr ⟨_, rfl, mt_67, Or.inl ⟨rfl, gw_in (List.mem_of_getElem? (i := 445) rfl) rfl, gw_in (List.mem_of_getElem? (i := 447) rfl) rfl, gw_in (List.mem_of_getElem? (i := 9) rfl) rfl, pd_2, by decide, by decide⟩⟩))))
set_option maxRecDepth 100000 in
theorem ml_4_39 : MLP 4 39 0 69 1 := Or.inr (Or.inr (Or.inr (Or.inr (Or.inr ⟨_, rfl, mt_69, Or.inl ⟨rfl, gw_in (List.mem_of_getElem? (i := 457) rfl) rfl, gw_in (List.mem_of_getElem? (i := 459) rfl) rfl, gw_in (List.mem_of_getElem? (i := 11) rfl) rfl, pd_2, by decide, by decide⟩⟩))))
set_option maxRecDepth 100000 in
theorem ml_4_42 : MLP 4 42 0 71 2 := Or.inr (Or.inr (Or.inr (Or.inr (Or.inr ⟨_, rfl, mt_71, Or.inl ⟨rfl, gw_in (List.mem_of_getElem? (i := 420) rfl) rfl, gw_in (List.mem_of_getElem? (i := 422) rfl) rfl, gw_in (List.mem_of_getElem? (i := 4) rfl) rfl, pd_5, by decide, by decide⟩⟩))))
set_option maxRecDepth 100000 in
theorem ml_4_46 : MLP 4 46 0 72 3 := Or.inr (Or.inr (Or.inr (Or.inr (Or.inr ⟨_, rfl, mt_72, Or.inl ⟨rfl, gw_in (List.mem_of_getElem? (i := 438) rfl) rfl, gw_in (List.mem_of_getElem? (i := 440) rfl) rfl, gw_in (List.mem_of_getElem? (i := 8) rfl) rfl, pd_8, by decide, by decide⟩⟩))))
set_option maxRecDepth 100000 in
theorem ml_4_59 : MLP 4 59 0 74 1 := Or.inr (Or.inr (Or.inr (Or.inr (Or.inr ⟨_, rfl, mt_74, Or.inl ⟨rfl, gw_in (List.mem_of_getElem? (i := 424) rfl) rfl, gw_in (List.mem_of_getElem? (i := 426) rfl) rfl, gw_in (List.mem_of_getElem? (i := 5) rfl) rfl, pd_0, by decide, by decide⟩⟩))))
set_option maxRecDepth 100000 in
theorem ml_4_63 : MLP 4 63 0 68 1 := Or.inr (Or.inr (Or.inr (Or.inr (Or.inr ⟨_, rfl, mt_68, Or.inl ⟨rfl, gw_in (List.mem_of_getElem? (i := 449) rfl) rfl, gw_in (List.mem_of_getElem? (i := 451) rfl) rfl, gw_in (List.mem_of_getElem? (i := 10) rfl) rfl, pd_2, by decide, by decide⟩⟩))))
set_option maxRecDepth 100000 in
theorem ml_4_69 : MLP 4 69 0 73 2 := Or.inr (Or.inr (Or.inr (Or.inr (Or.inr ⟨_, rfl, mt_73, Or.inl ⟨rfl, gw_in (List.mem_of_getElem? (i := 434) rfl) rfl, gw_in (List.mem_of_getElem? (i := 436) rfl) rfl, gw_in (List.mem_of_getElem? (i := 7) rfl) rfl, pd_5, by decide, by decide⟩⟩))))
set_option maxRecDepth 100000 in
theorem ml_4_72 : MLP 4 72 0 13 4 := Or.inr (Or.inr (Or.inr (Or.inr (Or.inr ⟨_, rfl, mt_13, Or.inl ⟨rfl, gw_in (List.mem_of_getElem? (i := 453) rfl) rfl, gw_in (List.mem_of_getElem? (i := 454) rfl) rfl, gw_in (List.mem_of_getElem? (i := 455) rfl) rfl, pd_11, by decide, by decide⟩⟩))))
set_option maxRecDepth 100000 in
theorem ml_4_76 : MLP 4 76 0 70 1 := Or.inr (Or.inr (Or.inr (Or.inr (Or.inr ⟨_, rfl, mt_70, Or.inl ⟨rfl, gw_in (List.mem_of_getElem? (i := 461) rfl) rfl, gw_in (List.mem_of_getElem? (i := 463) rfl) rfl, gw_in (List.mem_of_getElem? (i := 12) rfl) rfl, pd_2, by decide, by decide⟩⟩))))
set_option maxRecDepth 100000 in
theorem ml_4_79 : MLP 4 79 1 77 1 := Or.inr (Or.inr (Or.inr (Or.inr (Or.inr ⟨_, rfl, mt_77, Or.inr (Or.inl ⟨rfl, gw_in (List.mem_of_getElem? (i := 465) rfl) rfl, gw_in (List.mem_of_getElem? (i := 466) rfl) rfl, pd_3⟩)⟩))))
set_option maxRecDepth 100000 in
theorem ml_4_86 : MLP 4 86 0 14 3 := Or.inr (Or.inr (Or.inr (Or.inr (Or.inr ⟨_, rfl, mt_14, Or.inl ⟨rfl, gw_in (List.mem_of_getElem? (i := 468) rfl) rfl, gw_in (List.mem_of_getElem? (i := 469) rfl) rfl, gw_in (List.mem_of_getElem? (i := 470) rfl) rfl, pd_7, by decide, by decide⟩⟩))))
set_option maxRecDepth 100000 in
theorem ml_4_90 : MLP 4 90 0 75 2 := Or.inr (Or.inr (Or.inr (Or.inr (Or.inr ⟨_, rfl, mt_75, Or.inl ⟨rfl, gw_in (List.mem_of_getElem? (i := 428) rfl) rfl, gw_in (List.mem_of_getElem? (i := 430) rfl) rfl, gw_in (List.mem_of_getElem? (i := 6) rfl) rfl, pd_3, by decide, by decide⟩⟩))))
set_option maxRecDepth 100000 in
theorem ml_4_93 : MLP 4 93 1 76 1 := Or.inr (Or.inr (Or.inr (Or.inr (Or.inr ⟨_, rfl, mt_76, Or.inr (Or.inl ⟨rfl, gw_in (List.mem_of_getElem? (i := 442) rfl) rfl, gw_in (List.mem_of_getElem? (i := 443) rfl) rfl, pd_5⟩)⟩))))
set_option maxRecDepth 100000 in
theorem ml_4_11 : MLP 4 11 12 11 1 := Or.inr (Or.inr (Or.inr (Or.inr (Or.inr ⟨_, rfl, mt_11, Or.inr (Or.inr (Or.inr (Or.inr ⟨rfl, List.mem_of_getElem? (i := 118) rfl, gw_in (List.mem_of_getElem? (i := 119) rfl) rfl, rfl, rfl, pd_1, by decide⟩)))⟩))))
set_option maxRecDepth 100000 in
theorem ml_4_96 : MLP 4 96 11 131 3 := Or.inr (Or.inr (Or.inr (Or.inr (Or.inr ⟨_, rfl, mt_131, Or.inr (Or.inr (Or.inl ⟨rfl, List.mem_of_getElem? (i := 432) rfl, gw_in (List.mem_of_getElem? (i := 331) rfl) rfl, pd_12⟩))⟩))))
set_option maxRecDepth 100000 in
theorem mlA_4 : ∀ q ∈ mlT 4, MLP 4 q.1 q.2.1 q.2.2.1 q.2.2.2 := List.forall_mem_cons.mpr ⟨ml_4_3, List.forall_mem_cons.mpr ⟨ml_4_29, List.forall_mem_cons.mpr ⟨ml_4_32, List.forall_mem_cons.mpr ⟨ml_4_36, List.forall_mem_cons.mpr ⟨ml_4_39, List.forall_mem_cons.mpr ⟨ml_4_42, List.forall_mem_cons.mpr ⟨ml_4_46, List.forall_mem_cons.mpr ⟨ml_4_59, List.forall_mem_cons.mpr ⟨ml_4_63, List.forall_mem_cons.mpr ⟨ml_4_69, List.forall_mem_cons.mpr ⟨ml_4_72, List.forall_mem_cons.mpr ⟨ml_4_76, List.forall_mem_cons.mpr ⟨ml_4_79, List.forall_mem_cons.mpr ⟨ml_4_86, List.forall_mem_cons.mpr ⟨ml_4_90, List.forall_mem_cons.mpr ⟨ml_4_93, List.forall_mem_cons.mpr ⟨ml_4_11, List.forall_mem_cons.mpr ⟨ml_4_96, fun _ h => absurd h List.not_mem_nil⟩⟩⟩⟩⟩⟩⟩⟩⟩⟩⟩⟩⟩⟩⟩⟩⟩⟩
set_option maxRecDepth 100000 in
theorem ml_5_3 : MLP 5 3 3 0 1 := Or.inl ⟨rfl, gw_in (List.mem_of_getElem? (i := 95) rfl) rfl⟩
set_option maxRecDepth 100000 in
theorem ml_5_27 : MLP 5 27 0 80 2 := Or.inr (Or.inr (Or.inr (Or.inr (Or.inr ⟨_, rfl, mt_80, Or.inl ⟨rfl, gw_in (List.mem_of_getElem? (i := 356) rfl) rfl, gw_in (List.mem_of_getElem? (i := 357) rfl) rfl, gw_in (List.mem_of_getElem? (i := 358) rfl) rfl, pd_5, by decide, by decide⟩⟩))))
set_option maxRecDepth 100000 in
theorem ml_5_31 : MLP 5 31 1 89 2 := Or.inr (Or.inr (Or.inr (Or.inr (Or.inr ⟨_, rfl, mt_89, Or.inr (Or.inl ⟨rfl, gw_in (List.mem_of_getElem? (i := 368) rfl) rfl, gw_in (List.mem_of_getElem? (i := 369) rfl) rfl, pd_6⟩)⟩))))
set_option maxRecDepth 100000 in
theorem ml_5_35 : MLP 5 35 4 0 5 := Or.inr (Or.inl ⟨rfl, gw_in (List.mem_of_getElem? (i := 383) rfl) rfl⟩)
set_option maxRecDepth 100000 in
theorem ml_5_41 : MLP 5 41 0 88 4 := Or.inr (Or.inr (Or.inr (Or.inr (Or.inr ⟨_, rfl, mt_88, Or.inl ⟨rfl, gw_in (List.mem_of_getElem? (i := 360) rfl) rfl, gw_in (List.mem_of_getElem? (i := 362) rfl) rfl, gw_in (List.mem_of_getElem? (i := 2) rfl) rfl, pd_12, by decide, by decide⟩⟩))))
set_option maxRecDepth 100000 in
theorem ml_5_23 : MLP 5 23 11 131 3 := Or.inr (Or.inr (Or.inr (Or.inr (Or.inr ⟨_, rfl, mt_131, Or.inr (Or.inr (Or.inl ⟨rfl, List.mem_of_getElem? (i := 330) rfl, gw_in (List.mem_of_getElem? (i := 331) rfl) rfl, pd_12⟩))⟩))))
set_option maxRecDepth 100000 in
theorem mlA_5 : ∀ q ∈ mlT 5, MLP 5 q.1 q.2.1 q.2.2.1 q.2.2.2 := List.forall_mem_cons.mpr ⟨ml_5_3, List.forall_mem_cons.mpr ⟨ml_5_27, List.forall_mem_cons.mpr ⟨ml_5_31, List.forall_mem_cons.mpr ⟨ml_5_35, List.forall_mem_cons.mpr ⟨ml_5_41, List.forall_mem_cons.mpr ⟨ml_5_23, fun _ h => absurd h List.not_mem_nil⟩⟩⟩⟩⟩⟩
set_option maxRecDepth 100000 in
theorem ml_6_1 : MLP 6 1 3 0 1 := Or.inl ⟨rfl, gw_in (List.mem_of_getElem? (i := 87) rfl) rfl⟩
set_option maxRecDepth 100000 in
theorem ml_6_32 : MLP 6 32 2 0 1 := Or.inr (Or.inr (Or.inr (Or.inr (Or.inr ⟨_, rfl, mt_0, Or.inr (Or.inr (Or.inr (Or.inl ⟨rfl, gw_in (List.mem_of_getElem? (i := 223) rfl) rfl, gw_in (List.mem_of_getElem? (i := 224) rfl) rfl, rfl, rfl, pd_1, by decide⟩)))⟩))))
set_option maxRecDepth 100000 in
theorem ml_6_55 : MLP 6 55 1 79 1 := Or.inr (Or.inr (Or.inr (Or.inr (Or.inr ⟨_, rfl, mt_79, Or.inr (Or.inl ⟨rfl, gw_in (List.mem_of_getElem? (i := 327) rfl) rfl, gw_in (List.mem_of_getElem? (i := 328) rfl) rfl, pd_5⟩)⟩))))
set_option maxRecDepth 100000 in
theorem ml_6_59 : MLP 6 59 1 131 3 := Or.inr (Or.inr (Or.inr (Or.inr (Or.inr ⟨_, rfl, mt_131, Or.inr (Or.inl ⟨rfl, gw_in (List.mem_of_getElem? (i := 333) rfl) rfl, gw_in (List.mem_of_getElem? (i := 331) rfl) rfl, pd_12⟩)⟩))))
set_option maxRecDepth 100000 in
theorem ml_6_64 : MLP 6 64 0 129 2 := Or.inr (Or.inr (Or.inr (Or.inr (Or.inr ⟨_, rfl, mt_129, Or.inl ⟨rfl, gw_in (List.mem_of_getElem? (i := 335) rfl) rfl, gw_in (List.mem_of_getElem? (i := 337) rfl) rfl, gw_in (List.mem_of_getElem? (i := 0) rfl) rfl, pd_3, by decide, by decide⟩⟩))))
set_option maxRecDepth 100000 in
theorem ml_6_68 : MLP 6 68 0 82 4 := Or.inr (Or.inr (Or.inr (Or.inr (Or.inr ⟨_, rfl, mt_82, Or.inl ⟨rfl, gw_in (List.mem_of_getElem? (i := 340) rfl) rfl, gw_in (List.mem_of_getElem? (i := 341) rfl) rfl, gw_in (List.mem_of_getElem? (i := 342) rfl) rfl, pd_11, by decide, by decide⟩⟩))))
set_option maxRecDepth 100000 in
theorem ml_6_72 : MLP 6 72 0 130 2 := Or.inr (Or.inr (Or.inr (Or.inr (Or.inr ⟨_, rfl, mt_130, Or.inl ⟨rfl, gw_in (List.mem_of_getElem? (i := 344) rfl) rfl, gw_in (List.mem_of_getElem? (i := 346) rfl) rfl, gw_in (List.mem_of_getElem? (i := 1) rfl) rfl, pd_3, by decide, by decide⟩⟩))))
set_option maxRecDepth 100000 in
theorem ml_6_75 : MLP 6 75 0 86 4 := Or.inr (Or.inr (Or.inr (Or.inr (Or.inr ⟨_, rfl, mt_86, Or.inl ⟨rfl, gw_in (List.mem_of_getElem? (i := 352) rfl) rfl, gw_in (List.mem_of_getElem? (i := 353) rfl) rfl, gw_in (List.mem_of_getElem? (i := 354) rfl) rfl, pd_9, by decide, by decide⟩⟩))))
set_option maxRecDepth 100000 in
theorem ml_6_79 : MLP 6 79 0 84 4 := Or.inr (Or.inr (Or.inr (Or.inr (Or.inr ⟨_, rfl, mt_84, Or.inl ⟨rfl, gw_in (List.mem_of_getElem? (i := 364) rfl) rfl, gw_in (List.mem_of_getElem? (i := 365) rfl) rfl, gw_in (List.mem_of_getElem? (i := 366) rfl) rfl, pd_9, by decide, by decide⟩⟩))))
set_option maxRecDepth 100000 in
theorem ml_6_82 : MLP 6 82 0 87 6 := Or.inr (Or.inr (Or.inr (Or.inr (Or.inr ⟨_, rfl, mt_87, Or.inl ⟨rfl, gw_in (List.mem_of_getElem? (i := 375) rfl) rfl, gw_in (List.mem_of_getElem? (i := 376) rfl) rfl, gw_in (List.mem_of_getElem? (i := 377) rfl) rfl, pd_16, by decide, by decide⟩⟩))))
set_option maxRecDepth 100000 in
theorem ml_6_86 : MLP 6 86 0 85 6 := Or.inr (Or.inr (Or.inr (Or.inr (Or.inr ⟨_, rfl, mt_85, Or.inl ⟨rfl, gw_in (List.mem_of_getElem? (i := 379) rfl) rfl, gw_in (List.mem_of_getElem? (i := 380) rfl) rfl, gw_in (List.mem_of_getElem? (i := 381) rfl) rfl, pd_17, by decide, by decide⟩⟩))))
set_option maxRecDepth 100000 in
theorem ml_6_90 : MLP 6 90 0 80 2 := Or.inr (Or.inr (Or.inr (Or.inr (Or.inr ⟨_, rfl, mt_80, Or.inl ⟨rfl, gw_in (List.mem_of_getElem? (i := 390) rfl) rfl, gw_in (List.mem_of_getElem? (i := 357) rfl) rfl, gw_in (List.mem_of_getElem? (i := 358) rfl) rfl, pd_5, by decide, by decide⟩⟩))))
set_option maxRecDepth 100000 in
theorem ml_6_93 : MLP 6 93 0 83 2 := Or.inr (Or.inr (Or.inr (Or.inr (Or.inr ⟨_, rfl, mt_83, Or.inl ⟨rfl, gw_in (List.mem_of_getElem? (i := 391) rfl) rfl, gw_in (List.mem_of_getElem? (i := 392) rfl) rfl, gw_in (List.mem_of_getElem? (i := 393) rfl) rfl, pd_3, by decide, by decide⟩⟩))))
set_option maxRecDepth 100000 in
theorem ml_6_96 : MLP 6 96 0 64 2 := Or.inr (Or.inr (Or.inr (Or.inr (Or.inr ⟨_, rfl, mt_64, Or.inl ⟨rfl, gw_in (List.mem_of_getElem? (i := 399) rfl) rfl, gw_in (List.mem_of_getElem? (i := 400) rfl) rfl, gw_in (List.mem_of_getElem? (i := 401) rfl) rfl, pd_5, by decide, by decide⟩⟩))))
set_option maxRecDepth 100000 in
theorem ml_6_104 : MLP 6 104 0 65 1 := Or.inr (Or.inr (Or.inr (Or.inr (Or.inr ⟨_, rfl, mt_65, Or.inl ⟨rfl, gw_in (List.mem_of_getElem? (i := 408) rfl) rfl, gw_in (List.mem_of_getElem? (i := 409) rfl) rfl, gw_in (List.mem_of_getElem? (i := 410) rfl) rfl, pd_2, by decide, by decide⟩⟩))))
set_option maxRecDepth 100000 in
theorem ml_6_121 : MLP 6 121 0 15 2 := Or.inr (Or.inr (Or.inr (Or.inr (Or.inr ⟨_, rfl, mt_15, Or.inl ⟨rfl, gw_in (List.mem_of_getElem? (i := 473) rfl) rfl, gw_in (List.mem_of_getElem? (i := 474) rfl) rfl, gw_in (List.mem_of_getElem? (i := 475) rfl) rfl, pd_22, by decide, by decide⟩⟩))))
set_option maxRecDepth 100000 in
theorem ml_6_125 : MLP 6 125 0 1 1 := Or.inr (Or.inr (Or.inr (Or.inr (Or.inr ⟨_, rfl, mt_1, Or.inl ⟨rfl, gw_in (List.mem_of_getElem? (i := 477) rfl) rfl, gw_in (List.mem_of_getElem? (i := 478) rfl) rfl, gw_in (List.mem_of_getElem? (i := 479) rfl) rfl, pd_1, by decide, by decide⟩⟩))))
set_option maxRecDepth 100000 in
theorem ml_6_135 : MLP 6 135 0 3 2 := Or.inr (Or.inr (Or.inr (Or.inr (Or.inr ⟨_, rfl, mt_3, Or.inl ⟨rfl, gw_in (List.mem_of_getElem? (i := 490) rfl) rfl, gw_in (List.mem_of_getElem? (i := 491) rfl) rfl, gw_in (List.mem_of_getElem? (i := 492) rfl) rfl, pd_22, by decide, by decide⟩⟩))))
set_option maxRecDepth 100000 in
theorem ml_6_138 : MLP 6 138 0 16 1 := Or.inr (Or.inr (Or.inr (Or.inr (Or.inr ⟨_, rfl, mt_16, Or.inl ⟨rfl, gw_in (List.mem_of_getElem? (i := 499) rfl) rfl, gw_in (List.mem_of_getElem? (i := 500) rfl) rfl, gw_in (List.mem_of_getElem? (i := 501) rfl) rfl, pd_2, by decide, by decide⟩⟩))))
set_option maxRecDepth 100000 in
theorem ml_6_144 : MLP 6 144 0 2 2 := Or.inr (Or.inr (Or.inr (Or.inr (Or.inr ⟨_, rfl, mt_2, Or.inl ⟨rfl, gw_in (List.mem_of_getElem? (i := 503) rfl) rfl, gw_in (List.mem_of_getElem? (i := 504) rfl) rfl, gw_in (List.mem_of_getElem? (i := 505) rfl) rfl, pd_22, by decide, by decide⟩⟩))))
set_option maxRecDepth 100000 in
theorem ml_6_147 : MLP 6 147 0 27 2 := Or.inr (Or.inr (Or.inr (Or.inr (Or.inr ⟨_, rfl, mt_27, Or.inl ⟨rfl, gw_in (List.mem_of_getElem? (i := 510) rfl) rfl, gw_in (List.mem_of_getElem? (i := 511) rfl) rfl, gw_in (List.mem_of_getElem? (i := 512) rfl) rfl, pd_4, by decide, by decide⟩⟩))))
set_option maxRecDepth 100000 in
theorem ml_6_151 : MLP 6 151 0 21 1 := Or.inr (Or.inr (Or.inr (Or.inr (Or.inr ⟨_, rfl, mt_21, Or.inl ⟨rfl, gw_in (List.mem_of_getElem? (i := 566) rfl) rfl, gw_in (List.mem_of_getElem? (i := 567) rfl) rfl, gw_in (List.mem_of_getElem? (i := 568) rfl) rfl, pd_0, by decide, by decide⟩⟩))))
set_option maxRecDepth 100000 in
theorem ml_6_155 : MLP 6 155 0 17 2 := Or.inr (Or.inr (Or.inr (Or.inr (Or.inr ⟨_, rfl, mt_17, Or.inl ⟨rfl, gw_in (List.mem_of_getElem? (i := 574) rfl) rfl, gw_in (List.mem_of_getElem? (i := 575) rfl) rfl, gw_in (List.mem_of_getElem? (i := 576) rfl) rfl, pd_5, by decide, by decide⟩⟩))))
set_option maxRecDepth 100000 in
theorem ml_6_162 : MLP 6 162 0 23 2 := Or.inr (Or.inr (Or.inr (Or.inr (Or.inr ⟨_, rfl, mt_23, Or.inl ⟨rfl, gw_in (List.mem_of_getElem? (i := 579) rfl) rfl, gw_in (List.mem_of_getElem? (i := 580) rfl) rfl, gw_in (List.mem_of_getElem? (i := 581) rfl) rfl, pd_4, by decide, by decide⟩⟩))))
set_option maxRecDepth 100000 in
theorem ml_6_165 : MLP 6 165 0 22 2 := Or.inr (Or.inr (Or.inr (Or.inr (Or.inr ⟨_, rfl, mt_22, Or.inl ⟨rfl, gw_in (List.mem_of_getElem? (i := 587) rfl) rfl, gw_in (List.mem_of_getElem? (i := 588) rfl) rfl, gw_in (List.mem_of_getElem? (i := 589) rfl) rfl, pd_3, by decide, by decide⟩⟩))))
set_option maxRecDepth 100000 in
theorem ml_6_168 : MLP 6 168 0 24 2 := Or.inr (Or.inr (Or.inr (Or.inr (Or.inr ⟨_, rfl, mt_24, Or.inl ⟨rfl, gw_in (List.mem_of_getElem? (i := 595) rfl) rfl, gw_in (List.mem_of_getElem? (i := 596) rfl) rfl, gw_in (List.mem_of_getElem? (i := 597) rfl) rfl, pd_4, by decide, by decide⟩⟩))))
set_option maxRecDepth 100000 in
theorem ml_6_174 : MLP 6 174 0 18 2 := Or.inr (Or.inr (Or.inr (Or.inr (Or.inr ⟨_, rfl, mt_18, Or.inl ⟨rfl, gw_in (List.mem_of_getElem? (i := 607) rfl) rfl, gw_in (List.mem_of_getElem? (i := 608) rfl) rfl, gw_in (List.mem_of_getElem? (i := 609) rfl) rfl, pd_5, by decide, by decide⟩⟩))))
set_option maxRecDepth 100000 in
theorem ml_6_177 : MLP 6 177 0 19 2 := Or.inr (Or.inr (Or.inr (Or.inr (Or.inr ⟨_, rfl, mt_19, Or.inl ⟨rfl, gw_in (List.mem_of_getElem? (i := 611) rfl) rfl, gw_in (List.mem_of_getElem? (i := 612) rfl) rfl, gw_in (List.mem_of_getElem? (i := 613) rfl) rfl, pd_5, by decide, by decide⟩⟩))))
set_option maxRecDepth 100000 in
theorem ml_6_183 : MLP 6 183 0 20 2 := Or.inr (Or.inr (Or.inr (Or.inr (Or.inr ⟨_, rfl, mt_20, Or.inl ⟨rfl, gw_in (List.mem_of_getElem? (i := 615) rfl) rfl, gw_in (List.mem_of_getElem? (i := 519) rfl) rfl, gw_in (List.mem_of_getElem? (i := 520) rfl) rfl, pd_5, by decide, by decide⟩⟩))))
set_option maxRecDepth 100000 in
theorem ml_6_192 : MLP 6 192 0 33 2 := Or.inr (Or.inr (Or.inr (Or.inr (Or.inr ⟨_, rfl, mt_33, Or.inl ⟨rfl, gw_in (List.mem_of_getElem? (i := 620) rfl) rfl, gw_in (List.mem_of_getElem? (i := 527) rfl) rfl, gw_in (List.mem_of_getElem? (i := 528) rfl) rfl, pd_3, by decide, by decide⟩⟩))))
set_option maxRecDepth 100000 in
theorem ml_6_195 : MLP 6 195 0 37 2 := Or.inr (Or.inr (Or.inr (Or.inr (Or.inr ⟨_, rfl, mt_37, Or.inl ⟨rfl, gw_in (List.mem_of_getElem? (i := 621) rfl) rfl, gw_in (List.mem_of_getElem? (i := 555) rfl) rfl, gw_in (List.mem_of_getElem? (i := 556) rfl) rfl, pd_3, by decide, by decide⟩⟩))))
set_option maxRecDepth 100000 in
theorem ml_6_214 : MLP 6 214 1 132 1 := Or.inr (Or.inr (Or.inr (Or.inr (Or.inr ⟨_, rfl, mt_132, Or.inr (Or.inl ⟨rfl, gw_in (List.mem_of_getElem? (i := 635) rfl) rfl, gw_in (List.mem_of_getElem? (i := 636) rfl) rfl, pd_5⟩)⟩))))
set_option maxRecDepth 100000 in
theorem ml_6_217 : MLP 6 217 0 40 3 := Or.inr (Or.inr (Or.inr (Or.inr (Or.inr ⟨_, rfl, mt_40, Or.inl ⟨rfl, gw_in (List.mem_of_getElem? (i := 638) rfl) rfl, gw_in (List.mem_of_getElem? (i := 639) rfl) rfl, gw_in (List.mem_of_getElem? (i := 640) rfl) rfl, pd_24, by decide, by decide⟩⟩))))
set_option maxRecDepth 100000 in
theorem ml_6_221 : MLP 6 221 0 41 3 := Or.inr (Or.inr (Or.inr (Or.inr (Or.inr ⟨_, rfl, mt_41, Or.inl ⟨rfl, gw_in (List.mem_of_getElem? (i := 652) rfl) rfl, gw_in (List.mem_of_getElem? (i := 653) rfl) rfl, gw_in (List.mem_of_getElem? (i := 654) rfl) rfl, pd_23, by decide, by decide⟩⟩))))
set_option maxRecDepth 100000 in
theorem ml_6_225 : MLP 6 225 0 43 3 := Or.inr (Or.inr (Or.inr (Or.inr (Or.inr ⟨_, rfl, mt_43, Or.inl ⟨rfl, gw_in (List.mem_of_getElem? (i := 666) rfl) rfl, gw_in (List.mem_of_getElem? (i := 667) rfl) rfl, gw_in (List.mem_of_getElem? (i := 668) rfl) rfl, pd_23, by decide, by decide⟩⟩))))
set_option maxRecDepth 100000 in
theorem ml_6_228 : MLP 6 228 0 44 3 := Or.inr (Or.inr (Or.inr (Or.inr (Or.inr ⟨_, rfl, mt_44, Or.inl ⟨rfl, gw_in (List.mem_of_getElem? (i := 674) rfl) rfl, gw_in (List.mem_of_getElem? (i := 675) rfl) rfl, gw_in (List.mem_of_getElem? (i := 676) rfl) rfl, pd_23, by decide, by decide⟩⟩))))
set_option maxRecDepth 100000 in
theorem ml_6_231 : MLP 6 231 0 45 4 := Or.inr (Or.inr (Or.inr (Or.inr (Or.inr ⟨_, rfl, mt_45, Or.inl ⟨rfl, gw_in (List.mem_of_getElem? (i := 682) rfl) rfl, gw_in (List.mem_of_getElem? (i := 683) rfl) rfl, gw_in (List.mem_of_getElem? (i := 684) rfl) rfl, pd_25, by decide, by decide⟩⟩))))
set_option maxRecDepth 100000 in
theorem ml_6_235 : MLP 6 235 0 47 5 := Or.inr (Or.inr (Or.inr (Or.inr (Or.inr ⟨_, rfl, mt_47, Or.inl ⟨rfl, gw_in (List.mem_of_getElem? (i := 706) rfl) rfl, gw_in (List.mem_of_getElem? (i := 707) rfl) rfl, gw_in (List.mem_of_getElem? (i := 708) rfl) rfl, pd_27, by decide, by decide⟩⟩))))
set_option maxRecDepth 100000 in
theorem ml_6_239 : MLP 6 239 0 48 5 := Or.inr (Or.inr (Or.inr (Or.inr (Or.inr ⟨_, rfl, mt_48, Or.inl ⟨rfl, gw_in (List.mem_of_getElem? (i := 715) rfl) rfl, gw_in (List.mem_of_getElem? (i := 716) rfl) rfl, gw_in (List.mem_of_getElem? (i := 717) rfl) rfl, pd_27, by decide, by decide⟩⟩))))
set_option maxRecDepth 100000 in
theorem ml_6_242 : MLP 6 242 0 49 4 := Or.inr (Or.inr (Or.inr (Or.inr (Or.inr ⟨_, rfl, mt_49, Or.inl ⟨rfl, gw_in (List.mem_of_getElem? (i := 723) rfl) rfl, gw_in (List.mem_of_getElem? (i := 724) rfl) rfl, gw_in (List.mem_of_getElem? (i := 725) rfl) rfl, pd_25, by decide, by decide⟩⟩))))
set_option maxRecDepth 100000 in
theorem ml_6_245 : MLP 6 245 0 35 2 := Or.inr (Or.inr (Or.inr (Or.inr (Or.inr ⟨_, rfl, mt_35, Or.inl ⟨rfl, gw_in (List.mem_of_getElem? (i := 736) rfl) rfl, gw_in (List.mem_of_getElem? (i := 531) rfl) rfl, gw_in (List.mem_of_getElem? (i := 532) rfl) rfl, pd_3, by decide, by decide⟩⟩))))
set_option maxRecDepth 100000 in
theorem ml_6_248 : MLP 6 248 0 34 3 := Or.inr (Or.inr (Or.inr (Or.inr (Or.inr ⟨_, rfl, mt_34, Or.inl ⟨rfl, gw_in (List.mem_of_getElem? (i := 737) rfl) rfl, gw_in (List.mem_of_getElem? (i := 738) rfl) rfl, gw_in (List.mem_of_getElem? (i := 739) rfl) rfl, pd_6, by decide, by decide⟩⟩))))
set_option maxRecDepth 100000 in
theorem ml_6_252 : MLP 6 252 1 133 2 := Or.inr (Or.inr (Or.inr (Or.inr (Or.inr ⟨_, rfl, mt_133, Or.inr (Or.inl ⟨rfl, gw_in (List.mem_of_getElem? (i := 745) rfl) rfl, gw_in (List.mem_of_getElem? (i := 746) rfl) rfl, pd_8⟩)⟩))))
set_option maxRecDepth 100000 in
theorem ml_6_260 : MLP 6 260 0 51 5 := Or.inr (Or.inr (Or.inr (Or.inr (Or.inr ⟨_, rfl, mt_51, Or.inl ⟨rfl, gw_in (List.mem_of_getElem? (i := 748) rfl) rfl, gw_in (List.mem_of_getElem? (i := 749) rfl) rfl, gw_in (List.mem_of_getElem? (i := 750) rfl) rfl, pd_19, by decide, by decide⟩⟩))))
set_option maxRecDepth 100000 in
theorem ml_6_264 : MLP 6 264 0 53 3 := Or.inr (Or.inr (Or.inr (Or.inr (Or.inr ⟨_, rfl, mt_53, Or.inl ⟨rfl, gw_in (List.mem_of_getElem? (i := 753) rfl) rfl, gw_in (List.mem_of_getElem? (i := 754) rfl) rfl, gw_in (List.mem_of_getElem? (i := 755) rfl) rfl, pd_23, by decide, by decide⟩⟩))))
set_option maxRecDepth 100000 in
theorem ml_6_267 : MLP 6 267 0 54 3 := Or.inr (Or.inr (Or.inr (Or.inr (Or.inr ⟨_, rfl, mt_54, Or.inl ⟨rfl, gw_in (List.mem_of_getElem? (i := 761) rfl) rfl, gw_in (List.mem_of_getElem? (i := 762) rfl) rfl, gw_in (List.mem_of_getElem? (i := 763) rfl) rfl, pd_23, by decide, by decide⟩⟩))))
set_option maxRecDepth 100000 in
theorem ml_6_270 : MLP 6 270 0 55 3 := Or.inr (Or.inr (Or.inr (Or.inr (Or.inr ⟨_, rfl, mt_55, Or.inl ⟨rfl, gw_in (List.mem_of_getElem? (i := 769) rfl) rfl, gw_in (List.mem_of_getElem? (i := 770) rfl) rfl, gw_in (List.mem_of_getElem? (i := 771) rfl) rfl, pd_23, by decide, by decide⟩⟩))))
set_option maxRecDepth 100000 in
theorem ml_6_273 : MLP 6 273 0 56 3 := Or.inr (Or.inr (Or.inr (Or.inr (Or.inr ⟨_, rfl, mt_56, Or.inl ⟨rfl, gw_in (List.mem_of_getElem? (i := 773) rfl) rfl, gw_in (List.mem_of_getElem? (i := 774) rfl) rfl, gw_in (List.mem_of_getElem? (i := 775) rfl) rfl, pd_23, by decide, by decide⟩⟩))))
set_option maxRecDepth 100000 in
theorem ml_6_278 : MLP 6 278 0 57 6 := Or.inr (Or.inr (Or.inr (Or.inr (Or.inr ⟨_, rfl, mt_57, Or.inl ⟨rfl, gw_in (List.mem_of_getElem? (i := 782) rfl) rfl, gw_in (List.mem_of_getElem? (i := 783) rfl) rfl, gw_in (List.mem_of_getElem? (i := 784) rfl) rfl, pd_29, by decide, by decide⟩⟩))))
set_option maxRecDepth 100000 in
theorem ml_6_283 : MLP 6 283 0 61 4 := Or.inr (Or.inr (Or.inr (Or.inr (Or.inr ⟨_, rfl, mt_61, Or.inl ⟨rfl, gw_in (List.mem_of_getElem? (i := 802) rfl) rfl, gw_in (List.mem_of_getElem? (i := 803) rfl) rfl, gw_in (List.mem_of_getElem? (i := 804) rfl) rfl, pd_26, by decide, by decide⟩⟩))))
set_option maxRecDepth 100000 in
theorem ml_6_290 : MLP 6 290 1 5 2 := Or.inr (Or.inr (Or.inr (Or.inr (Or.inr ⟨_, rfl, mt_5, Or.inr (Or.inl ⟨rfl, gw_in (List.mem_of_getElem? (i := 831) rfl) rfl, gw_in (List.mem_of_getElem? (i := 832) rfl) rfl, pd_8⟩)⟩))))
set_option maxRecDepth 100000 in
theorem ml_6_293 : MLP 6 293 0 7 5 := Or.inr (Or.inr (Or.inr (Or.inr (Or.inr ⟨_, rfl, mt_7, Or.inl ⟨rfl, gw_in (List.mem_of_getElem? (i := 841) rfl) rfl, gw_in (List.mem_of_getElem? (i := 842) rfl) rfl, gw_in (List.mem_of_getElem? (i := 843) rfl) rfl, pd_14, by decide, by decide⟩⟩))))
set_option maxRecDepth 100000 in
theorem ml_6_296 : MLP 6 296 0 8 2 := Or.inr (Or.inr (Or.inr (Or.inr (Or.inr ⟨_, rfl, mt_8, Or.inl ⟨rfl, gw_in (List.mem_of_getElem? (i := 846) rfl) rfl, gw_in (List.mem_of_getElem? (i := 847) rfl) rfl, gw_in (List.mem_of_getElem? (i := 848) rfl) rfl, pd_3, by decide, by decide⟩⟩))))
set_option maxRecDepth 100000 in
theorem ml_6_305 : MLP 6 305 0 81 1 := Or.inr (Or.inr (Or.inr (Or.inr (Or.inr ⟨_, rfl, mt_81, Or.inl ⟨rfl, gw_in (List.mem_of_getElem? (i := 870) rfl) rfl, gw_in (List.mem_of_getElem? (i := 871) rfl) rfl, gw_in (List.mem_of_getElem? (i := 872) rfl) rfl, pd_0, by decide, by decide⟩⟩))))
set_option maxRecDepth 100000 in
theorem ml_6_311 : MLP 6 311 1 225 1 := Or.inr (Or.inr (Or.inr (Or.inr (Or.inr ⟨_, rfl, mt_225, Or.inr (Or.inl ⟨rfl, gw_in (List.mem_of_getElem? (i := 874) rfl) rfl, gw_in (List.mem_of_getElem? (i := 697) rfl) rfl, pd_3⟩)⟩))))
set_option maxRecDepth 100000 in
theorem ml_6_9 : MLP 6 9 12 78 1 := Or.inr (Or.inr (Or.inr (Or.inr (Or.inr ⟨_, rfl, mt_78, Or.inr (Or.inr (Or.inr (Or.inr ⟨rfl, List.mem_of_getElem? (i := 92) rfl, gw_in (List.mem_of_getElem? (i := 93) rfl) rfl, rfl, rfl, pd_1, by decide⟩)))⟩))))
set_option maxRecDepth 100000 in
theorem ml_6_18 : MLP 6 18 12 63 1 := Or.inr (Or.inr (Or.inr (Or.inr (Or.inr ⟨_, rfl, mt_63, Or.inr (Or.inr (Or.inr (Or.inr ⟨rfl, List.mem_of_getElem? (i := 112) rfl, gw_in (List.mem_of_getElem? (i := 113) rfl) rfl, rfl, rfl, pd_1, by decide⟩)))⟩))))
set_option maxRecDepth 100000 in
theorem ml_6_25 : MLP 6 25 12 11 1 := Or.inr (Or.inr (Or.inr (Or.inr (Or.inr ⟨_, rfl, mt_11, Or.inr (Or.inr (Or.inr (Or.inr ⟨rfl, List.mem_of_getElem? (i := 220) rfl, gw_in (List.mem_of_getElem? (i := 119) rfl) rfl, rfl, rfl, pd_1, by decide⟩)))⟩))))
set_option maxRecDepth 100000 in
theorem ml_6_39 : MLP 6 39 12 39 1 := Or.inr (Or.inr (Or.inr (Or.inr (Or.inr ⟨_, rfl, mt_39, Or.inr (Or.inr (Or.inr (Or.inr ⟨rfl, List.mem_of_getElem? (i := 243) rfl, gw_in (List.mem_of_getElem? (i := 244) rfl) rfl, rfl, rfl, pd_1, by decide⟩)))⟩))))
set_option maxRecDepth 100000 in
theorem ml_6_50 : MLP 6 50 12 4 1 := Or.inr (Or.inr (Or.inr (Or.inr (Or.inr ⟨_, rfl, mt_4, Or.inr (Or.inr (Or.inr (Or.inr ⟨rfl, List.mem_of_getElem? (i := 270) rfl, gw_in (List.mem_of_getElem? (i := 271) rfl) rfl, rfl, rfl, pd_1, by decide⟩)))⟩))))
set_option maxRecDepth 100000 in
theorem mlA_6 : ∀ q ∈ mlT 6, MLP 6 q.1 q.2.1 q.2.2.1 q.2.2.2 := List.forall_mem_cons.mpr ⟨ml_6_1, List.forall_mem_cons.mpr ⟨ml_6_32, List.forall_mem_cons.mpr ⟨ml_6_55, List.forall_mem_cons.mpr ⟨ml_6_59, List.forall_mem_cons.mpr ⟨ml_6_64, List.forall_mem_cons.mpr ⟨ml_6_68, List.forall_mem_cons.mpr ⟨ml_6_72, List.forall_mem_cons.mpr ⟨ml_6_75, List.forall_mem_cons.mpr ⟨ml_6_79, List.forall_mem_cons.mpr ⟨ml_6_82, List.forall_mem_cons.mpr ⟨ml_6_86, List.forall_mem_cons.mpr ⟨ml_6_90, List.forall_mem_cons.mpr ⟨ml_6_93, List.forall_mem_cons.mpr ⟨ml_6_96, List.forall_mem_cons.mpr ⟨ml_6_104, List.forall_mem_cons.mpr ⟨ml_6_121, List.forall_mem_cons.mpr ⟨ml_6_125, List.forall_mem_cons.mpr ⟨ml_6_135, List.forall_mem_cons.mpr ⟨ml_6_138, List.forall_mem_cons.mpr ⟨ml_6_144, List.forall_mem_cons.mpr ⟨ml_6_147, List.forall_mem_cons.mpr ⟨ml_6_151, List.forall_mem_cons.mpr ⟨ml_6_155, List.forall_mem_cons.mpr ⟨ml_6_162, List.forall_mem_cons.mpr ⟨ml_6_165, List.forall_mem_cons.mpr ⟨ml_6_168, List.forall_mem_cons.mpr ⟨ml_6_174, List.forall_mem_cons.mpr ⟨ml_6_177, List.forall_mem_cons.mpr ⟨ml_6_183, List.forall_mem_cons.mpr ⟨ml_6_192, List.forall_mem_cons.mpr ⟨ml_6_195, List.forall_mem_cons.mpr ⟨ml_6_214, List.forall_mem_cons.mpr ⟨ml_6_217, List.forall_mem_cons.mpr ⟨ml_6_221, List.forall_mem_cons.mpr ⟨ml_6_225, List.forall_mem_cons.mpr ⟨ml_6_228, List.forall_mem_cons.mpr ⟨ml_6_231, List.forall_mem_cons.mpr ⟨ml_6_235, List.forall_mem_cons.mpr ⟨ml_6_239, List.forall_mem_cons.mpr ⟨ml_6_242, List.forall_mem_cons.mpr ⟨ml_6_245, List.forall_mem_cons.mpr ⟨ml_6_248, List.forall_mem_cons.mpr ⟨ml_6_252, List.forall_mem_cons.mpr ⟨ml_6_260, List.forall_mem_cons.mpr ⟨ml_6_264, List.forall_mem_cons.mpr ⟨ml_6_267, List.forall_mem_cons.mpr ⟨ml_6_270, List.forall_mem_cons.mpr ⟨ml_6_273, List.forall_mem_cons.mpr ⟨ml_6_278, List.forall_mem_cons.mpr ⟨ml_6_283, List.forall_mem_cons.mpr ⟨ml_6_290, List.forall_mem_cons.mpr ⟨ml_6_293, List.forall_mem_cons.mpr ⟨ml_6_296, List.forall_mem_cons.mpr ⟨ml_6_305, List.forall_mem_cons.mpr ⟨ml_6_311, List.forall_mem_cons.mpr ⟨ml_6_9, List.forall_mem_cons.mpr ⟨ml_6_18, List.forall_mem_cons.mpr ⟨ml_6_25, List.forall_mem_cons.mpr ⟨ml_6_39, List.forall_mem_cons.mpr ⟨ml_6_50, fun _ h => absurd h List.not_mem_nil⟩⟩⟩⟩⟩⟩⟩⟩⟩⟩⟩⟩⟩⟩⟩⟩⟩⟩⟩⟩⟩⟩⟩⟩⟩⟩⟩⟩⟩⟩⟩⟩⟩⟩⟩⟩⟩⟩⟩⟩⟩⟩⟩⟩⟩⟩⟩⟩⟩⟩⟩⟩⟩⟩⟩⟩⟩⟩⟩⟩
set_option maxRecDepth 100000 in
theorem ml_7_1 : MLP 7 1 3 0 1 := Or.inl ⟨rfl, gw_in (List.mem_of_getElem? (i := 884) rfl) rfl⟩
set_option maxRecDepth 100000 in
theorem ml_7_64 : MLP 7 64 1 135 3 := Or.inr (Or.inr (Or.inr (Or.inr (Or.inr ⟨_, rfl, mt_135, Or.inr (Or.inl ⟨rfl, gw_in (List.mem_of_getElem? (i := 985) rfl) rfl, gw_in (List.mem_of_getElem? (i := 986) rfl) rfl, pd_12⟩)⟩))))
set_option maxRecDepth 100000 in
theorem ml_7_68 : MLP 7 68 1 141 1 := Or.inr (Or.inr (Or.inr (Or.inr (Or.inr ⟨_, rfl, mt_141, Or.inr (Or.inl ⟨rfl, gw_in (List.mem_of_getElem? (i := 982) rfl) rfl, gw_in (List.mem_of_getElem? (i := 983) rfl) rfl, pd_5⟩)⟩))))
set_option maxRecDepth 100000 in
theorem ml_7_73 : MLP 7 73 0 138 2 := Or.inr (Or.inr (Or.inr (Or.inr (Or.inr ⟨_, rfl, mt_138, Or.inl ⟨rfl, gw_in (List.mem_of_getElem? (i := 989) rfl) rfl, gw_in (List.mem_of_getElem? (i := 991) rfl) rfl, gw_in (List.mem_of_getElem? (i := 28) rfl) rfl, pd_3, by decide, by decide⟩⟩))))
set_option maxRecDepth 100000 in
theorem ml_7_77 : MLP 7 77 0 139 2 := Or.inr (Or.inr (Or.inr (Or.inr (Or.inr ⟨_, rfl, mt_139, Or.inl ⟨rfl, gw_in (List.mem_of_getElem? (i := 994) rfl) rfl, gw_in (List.mem_of_getElem? (i := 996) rfl) rfl, gw_in (List.mem_of_getElem? (i := 29) rfl) rfl, pd_3, by decide, by decide⟩⟩))))
set_option maxRecDepth 100000 in
theorem ml_7_80 : MLP 7 80 0 142 4 := Or.inr (Or.inr (Or.inr (Or.inr (Or.inr ⟨_, rfl, mt_142, Or.inl ⟨rfl, gw_in (List.mem_of_getElem? (i := 1006) rfl) rfl, gw_in (List.mem_of_getElem? (i := 1008) rfl) rfl, gw_in (List.mem_of_getElem? (i := 30) rfl) rfl, pd_12, by decide, by decide⟩⟩))))
set_option maxRecDepth 100000 in
theorem ml_7_93 : MLP 7 93 0 149 2 := Or.inr (Or.inr (Or.inr (Or.inr (Or.inr ⟨_, rfl, mt_149, Or.inl ⟨rfl, gw_in (List.mem_of_getElem? (i := 1031) rfl) rfl, gw_in (List.mem_of_getElem? (i := 1033) rfl) rfl, gw_in (List.mem_of_getElem? (i := 33) rfl) rfl, pd_3, by decide, by decide⟩⟩))))
set_option maxRecDepth 100000 in
theorem ml_7_99 : MLP 7 99 1 150 1 := Or.inr (Or.inr (Or.inr (Or.inr (Or.inr ⟨_, rfl, mt_150, Or.inr (Or.inl ⟨rfl, gw_in (List.mem_of_getElem? (i := 1035) rfl) rfl, gw_in (List.mem_of_getElem? (i := 1036) rfl) rfl, pd_5⟩)⟩))))
set_option maxRecDepth 100000 in
theorem ml_7_108 : MLP 7 108 0 151 1 := Or.inr (Or.inr (Or.inr (Or.inr (Or.inr ⟨_, rfl, mt_151, Or.inl ⟨rfl, gw_in (List.mem_of_getElem? (i := 1027) rfl) rfl, gw_in (List.mem_of_getElem? (i := 1029) rfl) rfl, gw_in (List.mem_of_getElem? (i := 32) rfl) rfl, pd_1, by decide, by decide⟩⟩))))
set_option maxRecDepth 100000 in
theorem ml_7_111 : MLP 7 111 0 152 2 := Or.inr (Or.inr (Or.inr (Or.inr (Or.inr ⟨_, rfl, mt_152, Or.inl ⟨rfl, gw_in (List.mem_of_getElem? (i := 1046) rfl) rfl, gw_in (List.mem_of_getElem? (i := 1048) rfl) rfl, gw_in (List.mem_of_getElem? (i := 36) rfl) rfl, pd_5, by decide, by decide⟩⟩))))
set_option maxRecDepth 100000 in
theorem ml_7_114 : MLP 7 114 0 153 5 := Or.inr (Or.inr (Or.inr (Or.inr (Or.inr ⟨_, rfl, mt_153, Or.inl ⟨rfl, gw_in (List.mem_of_getElem? (i := 1042) rfl) rfl, gw_in (List.mem_of_getElem? (i := 1044) rfl) rfl, gw_in (List.mem_of_getElem? (i := 35) rfl) rfl, pd_35, by decide, by decide⟩⟩))))
set_option maxRecDepth 100000 in
theorem ml_7_118 : MLP 7 118 0 154 2 := Or.inr (Or.inr (Or.inr (Or.inr (Or.inr ⟨_, rfl, mt_154, Or.inl ⟨rfl, gw_in (List.mem_of_getElem? (i := 1050) rfl) rfl, gw_in (List.mem_of_getElem? (i := 1052) rfl) rfl, gw_in (List.mem_of_getElem? (i := 37) rfl) rfl, pd_5, by decide, by decide⟩⟩))))
set_option maxRecDepth 100000 in
theorem ml_7_121 : MLP 7 121 1 157 1 := Or.inr (Or.inr (Or.inr (Or.inr (Or.inr ⟨_, rfl, mt_157, Or.inr (Or.inl ⟨rfl, gw_in (List.mem_of_getElem? (i := 1062) rfl) rfl, gw_in (List.mem_of_getElem? (i := 1063) rfl) rfl, pd_3⟩)⟩))))
set_option maxRecDepth 100000 in
theorem ml_7_124 : MLP 7 124 0 155 1 := Or.inr (Or.inr (Or.inr (Or.inr (Or.inr ⟨_, rfl, mt_155, Or.inl ⟨rfl, gw_in (List.mem_of_getElem? (i := 1038) rfl) rfl, gw_in (List.mem_of_getElem? (i := 1040) rfl) rfl, gw_in (List.mem_of_getElem? (i := 34) rfl) rfl, pd_2, by decide, by decide⟩⟩))))
set_option maxRecDepth 100000 in
theorem ml_7_128 : MLP 7 128 0 156 1 := Or.inr (Or.inr (Or.inr (Or.inr (Or.inr ⟨_, rfl, mt_156, Or.inl ⟨rfl, gw_in (List.mem_of_getElem? (i := 1054) rfl) rfl, gw_in (List.mem_of_getElem? (i := 1056) rfl) rfl, gw_in (List.mem_of_getElem? (i := 38) rfl) rfl, pd_2, by decide, by decide⟩⟩))))
set_option maxRecDepth 100000 in
theorem ml_7_131 : MLP 7 131 0 158 1 := Or.inr (Or.inr (Or.inr (Or.inr (Or.inr ⟨_, rfl, mt_158, Or.inl ⟨rfl, gw_in (List.mem_of_getElem? (i := 1058) rfl) rfl, gw_in (List.mem_of_getElem? (i := 1060) rfl) rfl, gw_in (List.mem_of_getElem? (i := 39) rfl) rfl, pd_2, by decide, by decide⟩⟩))))
set_option maxRecDepth 100000 in
theorem ml_7_134 : MLP 7 134 0 159 1 := Or.inr (Or.inr (Or.inr (Or.inr (Or.inr ⟨_, rfl, mt_159, Or.inl ⟨rfl, gw_in (List.mem_of_getElem? (i := 1023) rfl) rfl, gw_in (List.mem_of_getElem? (i := 1025) rfl) rfl, gw_in (List.mem_of_getElem? (i := 31) rfl) rfl, pd_2, by decide, by decide⟩⟩))))
set_option maxRecDepth 100000 in
theorem ml_7_150 : MLP 7 150 1 165 2 := Or.inr (Or.inr (Or.inr (Or.inr (Or.inr ⟨_, rfl, mt_165, Or.inr (Or.inl ⟨rfl, gw_in (List.mem_of_getElem? (i := 1116) rfl) rfl, gw_in (List.mem_of_getElem? (i := 1117) rfl) rfl, pd_6⟩)⟩))))
set_option maxRecDepth 100000 in
theorem ml_7_154 : MLP 7 154 1 136 2 := Or.inr (Or.inr (Or.inr (Or.inr (Or.inr ⟨_, rfl, mt_136, Or.inr (Or.inl ⟨rfl, gw_in (List.mem_of_getElem? (i := 1095) rfl) rfl, gw_in (List.mem_of_getElem? (i := 1096) rfl) rfl, pd_8⟩)⟩))))
set_option maxRecDepth 100000 in
theorem ml_7_158 : MLP 7 158 0 166 4 := Or.inr (Or.inr (Or.inr (Or.inr (Or.inr ⟨_, rfl, mt_166, Or.inl ⟨rfl, gw_in (List.mem_of_getElem? (i := 1111) rfl) rfl, gw_in (List.mem_of_getElem? (i := 1113) rfl) rfl, gw_in (List.mem_of_getElem? (i := 47) rfl) rfl, pd_37, by decide, by decide⟩⟩))))
set_option maxRecDepth 100000 in
theorem ml_7_162 : MLP 7 162 0 167 3 := Or.inr (Or.inr (Or.inr (Or.inr (Or.inr ⟨_, rfl, mt_167, Or.inl ⟨rfl, gw_in (List.mem_of_getElem? (i := 1107) rfl) rfl, gw_in (List.mem_of_getElem? (i := 1109) rfl) rfl, gw_in (List.mem_of_getElem? (i := 46) rfl) rfl, pd_32, by decide, by decide⟩⟩))))
set_option maxRecDepth 100000 in
theorem ml_7_166 : MLP 7 166 1 168 3 := Or.inr (Or.inr (Or.inr (Or.inr (Or.inr ⟨_, rfl, mt_168, Or.inr (Or.inl ⟨rfl, gw_in (List.mem_of_getElem? (i := 1119) rfl) rfl, gw_in (List.mem_of_getElem? (i := 1120) rfl) rfl, pd_9⟩)⟩))))
set_option maxRecDepth 100000 in
theorem ml_7_170 : MLP 7 170 0 169 3 := Or.inr (Or.inr (Or.inr (Or.inr (Or.inr ⟨_, rfl, mt_169, Or.inl ⟨rfl, gw_in (List.mem_of_getElem? (i := 1103) rfl) rfl, gw_in (List.mem_of_getElem? (i := 1105) rfl) rfl, gw_in (List.mem_of_getElem? (i := 45) rfl) rfl, pd_33, by decide, by decide⟩⟩))))
set_option maxRecDepth 100000 in
theorem ml_7_174 : MLP 7 174 0 170 3 := Or.inr (Or.inr (Or.inr (Or.inr (Or.inr ⟨_, rfl, mt_170, Or.inl ⟨rfl, gw_in (List.mem_of_getElem? (i := 1122) rfl) rfl, gw_in (List.mem_of_getElem? (i := 1124) rfl) rfl, gw_in (List.mem_of_getElem? (i := 48) rfl) rfl, pd_32, by decide, by decide⟩⟩))))
set_option maxRecDepth 100000 in
theorem ml_7_180 : MLP 7 180 0 171 3 := Or.inr (Or.inr (Or.inr (Or.inr (Or.inr ⟨_, rfl, mt_171, Or.inl ⟨rfl, gw_in (List.mem_of_getElem? (i := 1091) rfl) rfl, gw_in (List.mem_of_getElem? (i := 1093) rfl) rfl, gw_in (List.mem_of_getElem? (i := 43) rfl) rfl, pd_33, by decide, by decide⟩⟩))))
set_option maxRecDepth 100000 in
theorem ml_7_183 : MLP 7 183 0 172 3 := Or.inr (Or.inr (Or.inr (Or.inr (Or.inr ⟨_, rfl, mt_172, Or.inl ⟨rfl, gw_in (List.mem_of_getElem? (i := 1098) rfl) rfl, gw_in (List.mem_of_getElem? (i := 1100) rfl) rfl, gw_in (List.mem_of_getElem? (i := 44) rfl) rfl, pd_34, by decide, by decide⟩⟩))))
set_option maxRecDepth 100000 in
theorem ml_7_191 : MLP 7 191 0 180 2 := Or.inr (Or.inr (Or.inr (Or.inr (Or.inr ⟨_, rfl, mt_180, Or.inl ⟨rfl, gw_in (List.mem_of_getElem? (i := 1079) rfl) rfl, gw_in (List.mem_of_getElem? (i := 1081) rfl) rfl, gw_in (List.mem_of_getElem? (i := 40) rfl) rfl, pd_30, by decide, by decide⟩⟩))))
set_option maxRecDepth 100000 in
theorem ml_7_195 : MLP 7 195 0 178 1 := Or.inr (Or.inr (Or.inr (Or.inr (Or.inr ⟨_, rfl, mt_178, Or.inl ⟨rfl, gw_in (List.mem_of_getElem? (i := 1083) rfl) rfl, gw_in (List.mem_of_getElem? (i := 1085) rfl) rfl, gw_in (List.mem_of_getElem? (i := 41) rfl) rfl, pd_1, by decide, by decide⟩⟩))))
set_option maxRecDepth 100000 in
theorem ml_7_198 : MLP 7 198 0 173 2 := Or.inr (Or.inr (Or.inr (Or.inr (Or.inr ⟨_, rfl, mt_173, Or.inl ⟨rfl, gw_in (List.mem_of_getElem? (i := 1087) rfl) rfl, gw_in (List.mem_of_getElem? (i := 1089) rfl) rfl, gw_in (List.mem_of_getElem? (i := 42) rfl) rfl, pd_31, by decide, by decide⟩⟩))))
set_option maxRecDepth 100000 in
theorem ml_7_202 : MLP 7 202 0 174 2 := Or.inr (Or.inr (Or.inr (Or.inr (Or.inr ⟨_, rfl, mt_174, Or.inl ⟨rfl, gw_in (List.mem_of_getElem? (i := 1126) rfl) rfl, gw_in (List.mem_of_getElem? (i := 1128) rfl) rfl, gw_in (List.mem_of_getElem? (i := 49) rfl) rfl, pd_3, by decide, by decide⟩⟩))))
set_option maxRecDepth 100000 in
theorem ml_7_205 : MLP 7 205 0 162 2 := Or.inr (Or.inr (Or.inr (Or.inr (Or.inr ⟨_, rfl, mt_162, Or.inl ⟨rfl, gw_in (List.mem_of_getElem? (i := 1134) rfl) rfl, gw_in (List.mem_of_getElem? (i := 1136) rfl) rfl, gw_in (List.mem_of_getElem? (i := 50) rfl) rfl, pd_5, by decide, by decide⟩⟩))))
set_option maxRecDepth 100000 in
theorem ml_7_208 : MLP 7 208 0 176 3 := Or.inr (Or.inr (Or.inr (Or.inr (Or.inr ⟨_, rfl, mt_176, Or.inl ⟨rfl, gw_in (List.mem_of_getElem? (i := 1138) rfl) rfl, gw_in (List.mem_of_getElem? (i := 1140) rfl) rfl, gw_in (List.mem_of_getElem? (i := 51) rfl) rfl, pd_33, by decide, by decide⟩⟩))))
set_option maxRecDepth 100000 in
theorem ml_7_211 : MLP 7 211 0 175 3 := Or.inr (Or.inr (Or.inr (Or.inr (Or.inr ⟨_, rfl, mt_175, Or.inl ⟨rfl, gw_in (List.mem_of_getElem? (i := 1142) rfl) rfl, gw_in (List.mem_of_getElem? (i := 1144) rfl) rfl, gw_in (List.mem_of_getElem? (i := 52) rfl) rfl, pd_32, by decide, by decide⟩⟩))))
set_option maxRecDepth 100000 in
theorem ml_7_214 : MLP 7 214 0 177 3 := Or.inr (Or.inr (Or.inr (Or.inr (Or.inr ⟨_, rfl, mt_177, Or.inl ⟨rfl, gw_in (List.mem_of_getElem? (i := 1150) rfl) rfl, gw_in (List.mem_of_getElem? (i := 1152) rfl) rfl, gw_in (List.mem_of_getElem? (i := 53) rfl) rfl, pd_33, by decide, by decide⟩⟩))))
set_option maxRecDepth 100000 in
theorem ml_7_217 : MLP 7 217 0 163 2 := Or.inr (Or.inr (Or.inr (Or.inr (Or.inr ⟨_, rfl, mt_163, Or.inl ⟨rfl, gw_in (List.mem_of_getElem? (i := 1162) rfl) rfl, gw_in (List.mem_of_getElem? (i := 1164) rfl) rfl, gw_in (List.mem_of_getElem? (i := 54) rfl) rfl, pd_5, by decide, by decide⟩⟩))))
set_option maxRecDepth 100000 in
theorem ml_7_220 : MLP 7 220 0 164 2 := Or.inr (Or.inr (Or.inr (Or.inr (Or.inr ⟨_, rfl, mt_164, Or.inl ⟨rfl, gw_in (List.mem_of_getElem? (i := 1166) rfl) rfl, gw_in (List.mem_of_getElem? (i := 1168) rfl) rfl, gw_in (List.mem_of_getElem? (i := 55) rfl) rfl, pd_5, by decide, by decide⟩⟩))))
set_option maxRecDepth 100000 in
theorem ml_7_223 : MLP 7 223 1 191 1 := Or.inr (Or.inr (Or.inr (Or.inr (Or.inr ⟨_, rfl, mt_191, Or.inr (Or.inl ⟨rfl, gw_in (List.mem_of_getElem? (i := 1186) rfl) rfl, gw_in (List.mem_of_getElem? (i := 1187) rfl) rfl, pd_5⟩)⟩))))
set_option maxRecDepth 100000 in
theorem ml_7_226 : MLP 7 226 0 189 1 := Or.inr (Or.inr (Or.inr (Or.inr (Or.inr ⟨_, rfl, mt_189, Or.inl ⟨rfl, gw_in (List.mem_of_getElem? (i := 1189) rfl) rfl, gw_in (List.mem_of_getElem? (i := 1191) rfl) rfl, gw_in (List.mem_of_getElem? (i := 56) rfl) rfl, pd_1, by decide, by decide⟩⟩))))
set_option maxRecDepth 100000 in
theorem ml_7_229 : MLP 7 229 0 190 2 := Or.inr (Or.inr (Or.inr (Or.inr (Or.inr ⟨_, rfl, mt_190, Or.inl ⟨rfl, gw_in (List.mem_of_getElem? (i := 1193) rfl) rfl, gw_in (List.mem_of_getElem? (i := 1195) rfl) rfl, gw_in (List.mem_of_getElem? (i := 57) rfl) rfl, pd_4, by decide, by decide⟩⟩))))
set_option maxRecDepth 100000 in
theorem ml_7_233 : MLP 7 233 1 137 1 := Or.inr (Or.inr (Or.inr (Or.inr (Or.inr ⟨_, rfl, mt_137, Or.inr (Or.inl ⟨rfl, gw_in (List.mem_of_getElem? (i := 1213) rfl) rfl, gw_in (List.mem_of_getElem? (i := 1214) rfl) rfl, pd_3⟩)⟩))))
set_option maxRecDepth 100000 in
theorem ml_7_236 : MLP 7 236 0 198 4 := Or.inr (Or.inr (Or.inr (Or.inr (Or.inr ⟨_, rfl, mt_198, Or.inl ⟨rfl, gw_in (List.mem_of_getElem? (i := 1224) rfl) rfl, gw_in (List.mem_of_getElem? (i := 1226) rfl) rfl, gw_in (List.mem_of_getElem? (i := 58) rfl) rfl, pd_9, by decide, by decide⟩⟩))))
set_option maxRecDepth 100000 in
theorem ml_7_239 : MLP 7 239 0 143 3 := Or.inr (Or.inr (Or.inr (Or.inr (Or.inr ⟨_, rfl, mt_143, Or.inl ⟨rfl, gw_in (List.mem_of_getElem? (i := 1248) rfl) rfl, gw_in (List.mem_of_getElem? (i := 1250) rfl) rfl, gw_in (List.mem_of_getElem? (i := 60) rfl) rfl, pd_6, by decide, by decide⟩⟩))))
set_option maxRecDepth 100000 in
theorem ml_7_242 : MLP 7 242 0 203 5 := Or.inr (Or.inr (Or.inr (Or.inr (Or.inr ⟨_, rfl, mt_203, Or.inl ⟨rfl, gw_in (List.mem_of_getElem? (i := 1244) rfl) rfl, gw_in (List.mem_of_getElem? (i := 1246) rfl) rfl, gw_in (List.mem_of_getElem? (i := 59) rfl) rfl, pd_15, by decide, by decide⟩⟩))))
set_option maxRecDepth 100000 in
theorem ml_7_250 : MLP 7 250 1 206 2 := Or.inr (Or.inr (Or.inr (Or.inr (Or.inr ⟨_, rfl, mt_206, Or.inr (Or.inl ⟨rfl, gw_in (List.mem_of_getElem? (i := 1262) rfl) rfl, gw_in (List.mem_of_getElem? (i := 1263) rfl) rfl, pd_21⟩)⟩))))
set_option maxRecDepth 100000 in
theorem ml_7_266 : MLP 7 266 0 213 2 := Or.inr (Or.inr (Or.inr (Or.inr (Or.inr ⟨_, rfl, mt_213, Or.inl ⟨rfl, gw_in (List.mem_of_getElem? (i := 1298) rfl) rfl, gw_in (List.mem_of_getElem? (i := 1300) rfl) rfl, gw_in (List.mem_of_getElem? (i := 62) rfl) rfl, pd_4, by decide, by decide⟩⟩))))
set_option maxRecDepth 100000 in
theorem ml_7_269 : MLP 7 269 0 215 2 := Or.inr (Or.inr (Or.inr (Or.inr (Or.inr ⟨_, rfl, mt_215, Or.inl ⟨rfl, gw_in (List.mem_of_getElem? (i := 1318) rfl) rfl, gw_in (List.mem_of_getElem? (i := 1320) rfl) rfl, gw_in (List.mem_of_getElem? (i := 67) rfl) rfl, pd_3, by decide, by decide⟩⟩))))
set_option maxRecDepth 100000 in
theorem ml_7_272 : MLP 7 272 0 216 2 := Or.inr (Or.inr (Or.inr (Or.inr (Or.inr ⟨_, rfl, mt_216, Or.inl ⟨rfl, gw_in (List.mem_of_getElem? (i := 1314) rfl) rfl, gw_in (List.mem_of_getElem? (i := 1316) rfl) rfl, gw_in (List.mem_of_getElem? (i := 66) rfl) rfl, pd_3, by decide, by decide⟩⟩))))
set_option maxRecDepth 100000 in
theorem ml_7_275 : MLP 7 275 0 214 2 := Or.inr (Or.inr (Or.inr (Or.inr (Or.inr ⟨_, rfl, mt_214, Or.inl ⟨rfl, gw_in (List.mem_of_getElem? (i := 1306) rfl) rfl, gw_in (List.mem_of_getElem? (i := 1308) rfl) rfl, gw_in (List.mem_of_getElem? (i := 64) rfl) rfl, pd_3, by decide, by decide⟩⟩))))
set_option maxRecDepth 100000 in
theorem ml_7_278 : MLP 7 278 0 217 2 := Or.inr (Or.inr (Or.inr (Or.inr (Or.inr ⟨_, rfl, mt_217, Or.inl ⟨rfl, gw_in (List.mem_of_getElem? (i := 1310) rfl) rfl, gw_in (List.mem_of_getElem? (i := 1312) rfl) rfl, gw_in (List.mem_of_getElem? (i := 65) rfl) rfl, pd_3, by decide, by decide⟩⟩))))
set_option maxRecDepth 100000 in
theorem ml_7_281 : MLP 7 281 0 218 2 := Or.inr (Or.inr (Or.inr (Or.inr (Or.inr ⟨_, rfl, mt_218, Or.inl ⟨rfl, gw_in (List.mem_of_getElem? (i := 1302) rfl) rfl, gw_in (List.mem_of_getElem? (i := 1304) rfl) rfl, gw_in (List.mem_of_getElem? (i := 63) rfl) rfl, pd_3, by decide, by decide⟩⟩))))
set_option maxRecDepth 100000 in
theorem ml_7_284 : MLP 7 284 0 219 2 := Or.inr (Or.inr (Or.inr (Or.inr (Or.inr ⟨_, rfl, mt_219, Or.inl ⟨rfl, gw_in (List.mem_of_getElem? (i := 1322) rfl) rfl, gw_in (List.mem_of_getElem? (i := 1324) rfl) rfl, gw_in (List.mem_of_getElem? (i := 68) rfl) rfl, pd_3, by decide, by decide⟩⟩))))
set_option maxRecDepth 100000 in
theorem ml_7_287 : MLP 7 287 0 220 2 := Or.inr (Or.inr (Or.inr (Or.inr (Or.inr ⟨_, rfl, mt_220, Or.inl ⟨rfl, gw_in (List.mem_of_getElem? (i := 1294) rfl) rfl, gw_in (List.mem_of_getElem? (i := 1296) rfl) rfl, gw_in (List.mem_of_getElem? (i := 61) rfl) rfl, pd_3, by decide, by decide⟩⟩))))
set_option maxRecDepth 100000 in
theorem ml_7_290 : MLP 7 290 0 221 2 := Or.inr (Or.inr (Or.inr (Or.inr (Or.inr ⟨_, rfl, mt_221, Or.inl ⟨rfl, gw_in (List.mem_of_getElem? (i := 1326) rfl) rfl, gw_in (List.mem_of_getElem? (i := 1328) rfl) rfl, gw_in (List.mem_of_getElem? (i := 69) rfl) rfl, pd_3, by decide, by decide⟩⟩))))
set_option maxRecDepth 100000 in
theorem mlA_7 : ∀ q ∈ mlT 7, MLP 7 q.1 q.2.1 q.2.2.1 q.2.2.2 := List.forall_mem_cons.mpr ⟨ml_7_1, List.forall_mem_cons.mpr ⟨ml_7_64, List.forall_mem_cons.mpr ⟨ml_7_68, List.forall_mem_cons.mpr ⟨ml_7_73, List.forall_mem_cons.mpr ⟨ml_7_77, List.forall_mem_cons.mpr ⟨ml_7_80, List.forall_mem_cons.mpr ⟨ml_7_93, List.forall_mem_cons.mpr ⟨ml_7_99, List.forall_mem_cons.mpr ⟨ml_7_108, List.forall_mem_cons.mpr ⟨ml_7_111, List.forall_mem_cons.mpr ⟨ml_7_114, List.forall_mem_cons.mpr ⟨ml_7_118, List.forall_mem_cons.mpr ⟨ml_7_121, List.forall_mem_cons.mpr ⟨ml_7_124, List.forall_mem_cons.mpr ⟨ml_7_128, List.forall_mem_cons.mpr ⟨ml_7_131, List.forall_mem_cons.mpr ⟨ml_7_134, List.forall_mem_cons.mpr ⟨ml_7_150, List.forall_mem_cons.mpr ⟨ml_7_154, List.forall_mem_cons.mpr ⟨ml_7_158, List.forall_mem_cons.mpr ⟨ml_7_162, List.forall_mem_cons.mpr ⟨ml_7_166, List.forall_mem_cons.mpr ⟨ml_7_170, List.forall_mem_cons.mpr ⟨ml_7_174, List.forall_mem_cons.mpr ⟨ml_7_180, List.forall_mem_cons.mpr ⟨ml_7_183, List.forall_mem_cons.mpr ⟨ml_7_191, List.forall_mem_cons.mpr ⟨ml_7_195, List.forall_mem_cons.mpr ⟨ml_7_198, List.forall_mem_cons.mpr ⟨ml_7_202, List.forall_mem_cons.mpr ⟨ml_7_205, List.forall_mem_cons.mpr ⟨ml_7_208, List.forall_mem_cons.mpr ⟨ml_7_211, List.forall_mem_cons.mpr ⟨ml_7_214, List.forall_mem_cons.mpr ⟨ml_7_217, List.forall_mem_cons.mpr ⟨ml_7_220, List.forall_mem_cons.mpr ⟨ml_7_223, List.forall_mem_cons.mpr ⟨ml_7_226, List.forall_mem_cons.mpr ⟨ml_7_229, List.forall_mem_cons.mpr ⟨ml_7_233, List.forall_mem_cons.mpr ⟨ml_7_236, List.forall_mem_cons.mpr ⟨ml_7_239, List.forall_mem_cons.mpr ⟨ml_7_242, List.forall_mem_cons.mpr ⟨ml_7_250, List.forall_mem_cons.mpr ⟨ml_7_266, List.forall_mem_cons.mpr ⟨ml_7_269, List.forall_mem_cons.mpr ⟨ml_7_272, List.forall_mem_cons.mpr ⟨ml_7_275, List.forall_mem_cons.mpr ⟨ml_7_278, List.forall_mem_cons.mpr ⟨ml_7_281, List.forall_mem_cons.mpr ⟨ml_7_284, List.forall_mem_cons.mpr ⟨ml_7_287, List.forall_mem_cons.mpr ⟨ml_7_290, fun _ h => absurd h List.not_mem_nil⟩⟩⟩⟩⟩⟩⟩⟩⟩⟩⟩⟩⟩⟩⟩⟩⟩⟩⟩⟩⟩⟩⟩⟩⟩⟩⟩⟩⟩⟩⟩⟩⟩⟩⟩⟩⟩⟩⟩⟩⟩⟩⟩⟩⟩⟩⟩⟩⟩⟩⟩⟩⟩
set_option maxRecDepth 100000 in
theorem ml_10_9 : MLP 10 9 2 90 1 := Or.inr (Or.inr (Or.inr (Or.inr (Or.inr ⟨_, rfl, mt_90, Or.inr (Or.inr (Or.inr (Or.inl ⟨rfl, gw_in (List.mem_of_getElem? (i := 84) rfl) rfl, gw_in (List.mem_of_getElem? (i := 85) rfl) rfl, rfl, rfl, pd_1, by decide⟩)))⟩))))
set_option maxRecDepth 100000 in
theorem ml_10_12 : MLP 10 12 2 134 1 := Or.inr (Or.inr (Or.inr (Or.inr (Or.inr ⟨_, rfl, mt_134, Or.inr (Or.inr (Or.inr (Or.inl ⟨rfl, gw_in (List.mem_of_getElem? (i := 881) rfl) rfl, gw_in (List.mem_of_getElem? (i := 882) rfl) rfl, rfl, rfl, pd_1, by decide⟩)))⟩))))
set_option maxRecDepth 100000 in
theorem ml_10_13 : MLP 10 13 0 91 4 := Or.inr (Or.inr (Or.inr (Or.inr (Or.inr ⟨_, rfl, mt_91, Or.inl ⟨rfl, gw_in (List.mem_of_getElem? (i := 323) rfl) rfl, gw_in (List.mem_of_getElem? (i := 324) rfl) rfl, gw_in (List.mem_of_getElem? (i := 325) rfl) rfl, pd_9, by decide, by decide⟩⟩))))
set_option maxRecDepth 100000 in
theorem ml_10_17 : MLP 10 17 0 144 4 := Or.inr (Or.inr (Or.inr (Or.inr (Or.inr ⟨_, rfl, mt_144, Or.inl ⟨rfl, gw_in (List.mem_of_getElem? (i := 978) rfl) rfl, gw_in (List.mem_of_getElem? (i := 979) rfl) rfl, gw_in (List.mem_of_getElem? (i := 980) rfl) rfl, pd_9, by decide, by decide⟩⟩))))
set_option maxRecDepth 100000 in
theorem ml_10_18 : MLP 10 18 0 92 4 := Or.inr (Or.inr (Or.inr (Or.inr (Or.inr ⟨_, rfl, mt_92, Or.inl ⟨rfl, gw_in (List.mem_of_getElem? (i := 348) rfl) rfl, gw_in (List.mem_of_getElem? (i := 349) rfl) rfl, gw_in (List.mem_of_getElem? (i := 350) rfl) rfl, pd_9, by decide, by decide⟩⟩))))
set_option maxRecDepth 100000 in
theorem ml_10_21 : MLP 10 21 0 145 4 := Or.inr (Or.inr (Or.inr (Or.inr (Or.inr ⟨_, rfl, mt_145, Or.inl ⟨rfl, gw_in (List.mem_of_getElem? (i := 998) rfl) rfl, gw_in (List.mem_of_getElem? (i := 999) rfl) rfl, gw_in (List.mem_of_getElem? (i := 1000) rfl) rfl, pd_9, by decide, by decide⟩⟩))))
set_option maxRecDepth 100000 in
theorem ml_10_22 : MLP 10 22 0 93 6 := Or.inr (Or.inr (Or.inr (Or.inr (Or.inr ⟨_, rfl, mt_93, Or.inl ⟨rfl, gw_in (List.mem_of_getElem? (i := 371) rfl) rfl, gw_in (List.mem_of_getElem? (i := 372) rfl) rfl, gw_in (List.mem_of_getElem? (i := 373) rfl) rfl, pd_16, by decide, by decide⟩⟩))))
set_option maxRecDepth 100000 in
theorem ml_10_26 : MLP 10 26 0 146 6 := Or.inr (Or.inr (Or.inr (Or.inr (Or.inr ⟨_, rfl, mt_146, Or.inl ⟨rfl, gw_in (List.mem_of_getElem? (i := 1002) rfl) rfl, gw_in (List.mem_of_getElem? (i := 1003) rfl) rfl, gw_in (List.mem_of_getElem? (i := 1004) rfl) rfl, pd_16, by decide, by decide⟩⟩))))
set_option maxRecDepth 100000 in
theorem ml_10_27 : MLP 10 27 0 94 2 := Or.inr (Or.inr (Or.inr (Or.inr (Or.inr ⟨_, rfl, mt_94, Or.inl ⟨rfl, gw_in (List.mem_of_getElem? (i := 386) rfl) rfl, gw_in (List.mem_of_getElem? (i := 387) rfl) rfl, gw_in (List.mem_of_getElem? (i := 388) rfl) rfl, pd_3, by decide, by decide⟩⟩))))
set_option maxRecDepth 100000 in
theorem ml_10_31 : MLP 10 31 0 147 2 := Or.inr (Or.inr (Or.inr (Or.inr (Or.inr ⟨_, rfl, mt_147, Or.inl ⟨rfl, gw_in (List.mem_of_getElem? (i := 1010) rfl) rfl, gw_in (List.mem_of_getElem? (i := 1011) rfl) rfl, gw_in (List.mem_of_getElem? (i := 1012) rfl) rfl, pd_3, by decide, by decide⟩⟩))))
set_option maxRecDepth 100000 in
theorem ml_10_32 : MLP 10 32 0 95 2 := Or.inr (Or.inr (Or.inr (Or.inr (Or.inr ⟨_, rfl, mt_95, Or.inl ⟨rfl, gw_in (List.mem_of_getElem? (i := 395) rfl) rfl, gw_in (List.mem_of_getElem? (i := 396) rfl) rfl, gw_in (List.mem_of_getElem? (i := 397) rfl) rfl, pd_3, by decide, by decide⟩⟩))))
set_option maxRecDepth 100000 in
theorem ml_10_35 : MLP 10 35 0 148 2 := Or.inr (Or.inr (Or.inr (Or.inr (Or.inr ⟨_, rfl, mt_148, Or.inl ⟨rfl, gw_in (List.mem_of_getElem? (i := 1014) rfl) rfl, gw_in (List.mem_of_getElem? (i := 1015) rfl) rfl, gw_in (List.mem_of_getElem? (i := 1016) rfl) rfl, pd_3, by decide, by decide⟩⟩))))
set_option maxRecDepth 100000 in
theorem ml_10_36 : MLP 10 36 0 96 1 := Or.inr (Or.inr (Or.inr (Or.inr (Or.inr ⟨_, rfl, mt_96, Or.inl ⟨rfl, gw_in (List.mem_of_getElem? (i := 404) rfl) rfl, gw_in (List.mem_of_getElem? (i := 405) rfl) rfl, gw_in (List.mem_of_getElem? (i := 406) rfl) rfl, pd_0, by decide, by decide⟩⟩))))
set_option maxRecDepth 100000 in
theorem ml_10_40 : MLP 10 40 0 160 1 := Or.inr (Or.inr (Or.inr (Or.inr (Or.inr ⟨_, rfl, mt_160, Or.inl ⟨rfl, gw_in (List.mem_of_getElem? (i := 1019) rfl) rfl, gw_in (List.mem_of_getElem? (i := 1020) rfl) rfl, gw_in (List.mem_of_getElem? (i := 1021) rfl) rfl, pd_0, by decide, by decide⟩⟩))))
set_option maxRecDepth 100000 in
theorem ml_10_41 : MLP 10 41 0 97 1 := Or.inr (Or.inr (Or.inr (Or.inr (Or.inr ⟨_, rfl, mt_97, Or.inl ⟨rfl, gw_in (List.mem_of_getElem? (i := 481) rfl) rfl, gw_in (List.mem_of_getElem? (i := 482) rfl) rfl, gw_in (List.mem_of_getElem? (i := 483) rfl) rfl, pd_0, by decide, by decide⟩⟩))))
set_option maxRecDepth 100000 in
theorem ml_10_44 : MLP 10 44 0 161 1 := Or.inr (Or.inr (Or.inr (Or.inr (Or.inr ⟨_, rfl, mt_161, Or.inl ⟨rfl, gw_in (List.mem_of_getElem? (i := 1066) rfl) rfl, gw_in (List.mem_of_getElem? (i := 1067) rfl) rfl, gw_in (List.mem_of_getElem? (i := 1068) rfl) rfl, pd_0, by decide, by decide⟩⟩))))
set_option maxRecDepth 100000 in
theorem ml_10_45 : MLP 10 45 0 98 1 := Or.inr (Or.inr (Or.inr (Or.inr (Or.inr ⟨_, rfl, mt_98, Or.inl ⟨rfl, gw_in (List.mem_of_getElem? (i := 485) rfl) rfl, gw_in (List.mem_of_getElem? (i := 486) rfl) rfl, gw_in (List.mem_of_getElem? (i := 487) rfl) rfl, pd_0, by decide, by decide⟩⟩))))
set_option maxRecDepth 100000 in
theorem ml_10_48 : MLP 10 48 0 179 1 := Or.inr (Or.inr (Or.inr (Or.inr (Or.inr ⟨_, rfl, mt_179, Or.inl ⟨rfl, gw_in (List.mem_of_getElem? (i := 1070) rfl) rfl, gw_in (List.mem_of_getElem? (i := 1071) rfl) rfl, gw_in (List.mem_of_getElem? (i := 1072) rfl) rfl, pd_0, by decide, by decide⟩⟩))))
set_option maxRecDepth 100000 in
theorem ml_10_49 : MLP 10 49 0 99 2 := Or.inr (Or.inr (Or.inr (Or.inr (Or.inr ⟨_, rfl, mt_99, Or.inl ⟨rfl, gw_in (List.mem_of_getElem? (i := 495) rfl) rfl, gw_in (List.mem_of_getElem? (i := 496) rfl) rfl, gw_in (List.mem_of_getElem? (i := 497) rfl) rfl, pd_3, by decide, by decide⟩⟩))))
set_option maxRecDepth 100000 in
theorem ml_10_52 : MLP 10 52 0 181 2 := Or.inr (Or.inr (Or.inr (Or.inr (Or.inr ⟨_, rfl, mt_181, Or.inl ⟨rfl, gw_in (List.mem_of_getElem? (i := 1075) rfl) rfl, gw_in (List.mem_of_getElem? (i := 1076) rfl) rfl, gw_in (List.mem_of_getElem? (i := 1077) rfl) rfl, pd_3, by decide, by decide⟩⟩))))
set_option maxRecDepth 100000 in
theorem ml_10_53 : MLP 10 53 0 100 2 := Or.inr (Or.inr (Or.inr (Or.inr (Or.inr ⟨_, rfl, mt_100, Or.inl ⟨rfl, gw_in (List.mem_of_getElem? (i := 570) rfl) rfl, gw_in (List.mem_of_getElem? (i := 571) rfl) rfl, gw_in (List.mem_of_getElem? (i := 572) rfl) rfl, pd_3, by decide, by decide⟩⟩))))
set_option maxRecDepth 100000 in
theorem ml_10_56 : MLP 10 56 0 182 2 := Or.inr (Or.inr (Or.inr (Or.inr (Or.inr ⟨_, rfl, mt_182, Or.inl ⟨rfl, gw_in (List.mem_of_getElem? (i := 1130) rfl) rfl, gw_in (List.mem_of_getElem? (i := 1131) rfl) rfl, gw_in (List.mem_of_getElem? (i := 1132) rfl) rfl, pd_3, by decide, by decide⟩⟩))))
set_option maxRecDepth 100000 in
theorem ml_10_57 : MLP 10 57 0 101 2 := Or.inr (Or.inr (Or.inr (Or.inr (Or.inr ⟨_, rfl, mt_101, Or.inl ⟨rfl, gw_in (List.mem_of_getElem? (i := 591) rfl) rfl, gw_in (List.mem_of_getElem? (i := 592) rfl) rfl, gw_in (List.mem_of_getElem? (i := 593) rfl) rfl, pd_3, by decide, by decide⟩⟩))))
set_option maxRecDepth 100000 in
theorem ml_10_60 : MLP 10 60 0 183 2 := Or.inr (Or.inr (Or.inr (Or.inr (Or.inr ⟨_, rfl, mt_183, Or.inl ⟨rfl, gw_in (List.mem_of_getElem? (i := 1146) rfl) rfl, gw_in (List.mem_of_getElem? (i := 1147) rfl) rfl, gw_in (List.mem_of_getElem? (i := 1148) rfl) rfl, pd_3, by decide, by decide⟩⟩))))
set_option maxRecDepth 100000 in
theorem ml_10_61 : MLP 10 61 0 102 3 := Or.inr (Or.inr (Or.inr (Or.inr (Or.inr ⟨_, rfl, mt_102, Or.inl ⟨rfl, gw_in (List.mem_of_getElem? (i := 599) rfl) rfl, gw_in (List.mem_of_getElem? (i := 600) rfl) rfl, gw_in (List.mem_of_getElem? (i := 601) rfl) rfl, pd_6, by decide, by decide⟩⟩))))
set_option maxRecDepth 100000 in
theorem ml_10_65 : MLP 10 65 0 184 3 := Or.inr (Or.inr (Or.inr (Or.inr (Or.inr ⟨_, rfl, mt_184, Or.inl ⟨rfl, gw_in (List.mem_of_getElem? (i := 1154) rfl) rfl, gw_in (List.mem_of_getElem? (i := 1155) rfl) rfl, gw_in (List.mem_of_getElem? (i := 1156) rfl) rfl, pd_6, by decide, by decide⟩⟩))))
set_option maxRecDepth 100000 in
theorem ml_10_66 : MLP 10 66 0 103 3 := Or.inr (Or.inr (Or.inr (Or.inr (Or.inr ⟨_, rfl, mt_103, Or.inl ⟨rfl, gw_in (List.mem_of_getElem? (i := 603) rfl) rfl, gw_in (List.mem_of_getElem? (i := 604) rfl) rfl, gw_in (List.mem_of_getElem? (i := 605) rfl) rfl, pd_6, by decide, by decide⟩⟩))))
set_option maxRecDepth 100000 in
theorem ml_10_69 : MLP 10 69 0 185 3 := Or.inr (Or.inr (Or.inr (Or.inr (Or.inr ⟨_, rfl, mt_185, Or.inl ⟨rfl, gw_in (List.mem_of_getElem? (i := 1158) rfl) rfl, gw_in (List.mem_of_getElem? (i := 1159) rfl) rfl, gw_in (List.mem_of_getElem? (i := 1160) rfl) rfl, pd_6, by decide, by decide⟩⟩))))
set_option maxRecDepth 100000 in
theorem ml_10_70 : MLP 10 70 0 104 3 := Or.inr (Or.inr (Or.inr (Or.inr (Or.inr ⟨_, rfl, mt_104, Or.inl ⟨rfl, gw_in (List.mem_of_getElem? (i := 616) rfl) rfl, gw_in (List.mem_of_getElem? (i := 617) rfl) rfl, gw_in (List.mem_of_getElem? (i := 618) rfl) rfl, pd_6, by decide, by decide⟩⟩))))
set_option maxRecDepth 100000 in
theorem ml_10_73 : MLP 10 73 0 186 3 := Or.inr (Or.inr (Or.inr (Or.inr (Or.inr ⟨_, rfl, mt_186, Or.inl ⟨rfl, gw_in (List.mem_of_getElem? (i := 1170) rfl) rfl, gw_in (List.mem_of_getElem? (i := 1171) rfl) rfl, gw_in (List.mem_of_getElem? (i := 1172) rfl) rfl, pd_6, by decide, by decide⟩⟩))))
set_option maxRecDepth 100000 in
theorem ml_10_74 : MLP 10 74 0 105 3 := Or.inr (Or.inr (Or.inr (Or.inr (Or.inr ⟨_, rfl, mt_105, Or.inl ⟨rfl, gw_in (List.mem_of_getElem? (i := 623) rfl) rfl, gw_in (List.mem_of_getElem? (i := 624) rfl) rfl, gw_in (List.mem_of_getElem? (i := 625) rfl) rfl, pd_6, by decide, by decide⟩⟩))))
set_option maxRecDepth 100000 in
theorem ml_10_77 : MLP 10 77 0 187 3 := Or.inr (Or.inr (Or.inr (Or.inr (Or.inr ⟨_, rfl, mt_187, Or.inl ⟨rfl, gw_in (List.mem_of_getElem? (i := 1174) rfl) rfl, gw_in (List.mem_of_getElem? (i := 1175) rfl) rfl, gw_in (List.mem_of_getElem? (i := 1176) rfl) rfl, pd_6, by decide, by decide⟩⟩))))
set_option maxRecDepth 100000 in
theorem ml_10_78 : MLP 10 78 0 106 2 := Or.inr (Or.inr (Or.inr (Or.inr (Or.inr ⟨_, rfl, mt_106, Or.inl ⟨rfl, gw_in (List.mem_of_getElem? (i := 627) rfl) rfl, gw_in (List.mem_of_getElem? (i := 628) rfl) rfl, gw_in (List.mem_of_getElem? (i := 629) rfl) rfl, pd_3, by decide, by decide⟩⟩))))
set_option maxRecDepth 100000 in
theorem ml_10_81 : MLP 10 81 0 188 2 := Or.inr (Or.inr (Or.inr (Or.inr (Or.inr ⟨_, rfl, mt_188, Or.inl ⟨rfl, gw_in (List.mem_of_getElem? (i := 1178) rfl) rfl, gw_in (List.mem_of_getElem? (i := 1179) rfl) rfl, gw_in (List.mem_of_getElem? (i := 1180) rfl) rfl, pd_3, by decide, by decide⟩⟩))))
set_option maxRecDepth 100000 in
theorem ml_10_82 : MLP 10 82 0 107 4 := Or.inr (Or.inr (Or.inr (Or.inr (Or.inr ⟨_, rfl, mt_107, Or.inl ⟨rfl, gw_in (List.mem_of_getElem? (i := 631) rfl) rfl, gw_in (List.mem_of_getElem? (i := 632) rfl) rfl, gw_in (List.mem_of_getElem? (i := 633) rfl) rfl, pd_9, by decide, by decide⟩⟩))))
set_option maxRecDepth 100000 in
theorem ml_10_85 : MLP 10 85 0 192 4 := Or.inr (Or.inr (Or.inr (Or.inr (Or.inr ⟨_, rfl, mt_192, Or.inl ⟨rfl, gw_in (List.mem_of_getElem? (i := 1182) rfl) rfl, gw_in (List.mem_of_getElem? (i := 1183) rfl) rfl, gw_in (List.mem_of_getElem? (i := 1184) rfl) rfl, pd_9, by decide, by decide⟩⟩))))
set_option maxRecDepth 100000 in
theorem ml_10_86 : MLP 10 86 0 108 3 := Or.inr (Or.inr (Or.inr (Or.inr (Or.inr ⟨_, rfl, mt_108, Or.inl ⟨rfl, gw_in (List.mem_of_getElem? (i := 644) rfl) rfl, gw_in (List.mem_of_getElem? (i := 645) rfl) rfl, gw_in (List.mem_of_getElem? (i := 646) rfl) rfl, pd_6, by decide, by decide⟩⟩))))
set_option maxRecDepth 100000 in
theorem ml_10_89 : MLP 10 89 0 193 3 := Or.inr (Or.inr (Or.inr (Or.inr (Or.inr ⟨_, rfl, mt_193, Or.inl ⟨rfl, gw_in (List.mem_of_getElem? (i := 1197) rfl) rfl, gw_in (List.mem_of_getElem? (i := 1198) rfl) rfl, gw_in (List.mem_of_getElem? (i := 1199) rfl) rfl, pd_6, by decide, by decide⟩⟩))))
set_option maxRecDepth 100000 in
theorem ml_10_90 : MLP 10 90 0 109 2 := Or.inr (Or.inr (Or.inr (Or.inr (Or.inr ⟨_, rfl, mt_109, Or.inl ⟨rfl, gw_in (List.mem_of_getElem? (i := 648) rfl) rfl, gw_in (List.mem_of_getElem? (i := 649) rfl) rfl, gw_in (List.mem_of_getElem? (i := 650) rfl) rfl, pd_3, by decide, by decide⟩⟩))))
set_option maxRecDepth 100000 in
theorem ml_10_93 : MLP 10 93 0 194 2 := Or.inr (Or.inr (Or.inr (Or.inr (Or.inr ⟨_, rfl, mt_194, Or.inl ⟨rfl, gw_in (List.mem_of_getElem? (i := 1201) rfl) rfl, gw_in (List.mem_of_getElem? (i := 1202) rfl) rfl, gw_in (List.mem_of_getElem? (i := 1203) rfl) rfl, pd_3, by decide, by decide⟩⟩))))
set_option maxRecDepth 100000 in
theorem ml_10_94 : MLP 10 94 0 110 2 := Or.inr (Or.inr (Or.inr (Or.inr (Or.inr ⟨_, rfl, mt_110, Or.inl ⟨rfl, gw_in (List.mem_of_getElem? (i := 662) rfl) rfl, gw_in (List.mem_of_getElem? (i := 663) rfl) rfl, gw_in (List.mem_of_getElem? (i := 664) rfl) rfl, pd_3, by decide, by decide⟩⟩))))
set_option maxRecDepth 100000 in
theorem ml_10_97 : MLP 10 97 0 195 2 := Or.inr (Or.inr (Or.inr (Or.inr (Or.inr ⟨_, rfl, mt_195, Or.inl ⟨rfl, gw_in (List.mem_of_getElem? (i := 1205) rfl) rfl, gw_in (List.mem_of_getElem? (i := 1206) rfl) rfl, gw_in (List.mem_of_getElem? (i := 1207) rfl) rfl, pd_3, by decide, by decide⟩⟩))))
set_option maxRecDepth 100000 in
theorem ml_10_98 : MLP 10 98 0 111 2 := Or.inr (Or.inr (Or.inr (Or.inr (Or.inr ⟨_, rfl, mt_111, Or.inl ⟨rfl, gw_in (List.mem_of_getElem? (i := 670) rfl) rfl, gw_in (List.mem_of_getElem? (i := 671) rfl) rfl, gw_in (List.mem_of_getElem? (i := 672) rfl) rfl, pd_3, by decide, by decide⟩⟩))))
set_option maxRecDepth 100000 in
theorem ml_10_101 : MLP 10 101 0 196 2 := Or.inr (Or.inr (Or.inr (Or.inr (Or.inr ⟨_, rfl, mt_196, Or.inl ⟨rfl, gw_in (List.mem_of_getElem? (i := 1209) rfl) rfl, gw_in (List.mem_of_getElem? (i := 1210) rfl) rfl, gw_in (List.mem_of_getElem? (i := 1211) rfl) rfl, pd_3, by decide, by decide⟩⟩))))
set_option maxRecDepth 100000 in
theorem ml_10_102 : MLP 10 102 0 112 3 := Or.inr (Or.inr (Or.inr (Or.inr (Or.inr ⟨_, rfl, mt_112, Or.inl ⟨rfl, gw_in (List.mem_of_getElem? (i := 678) rfl) rfl, gw_in (List.mem_of_getElem? (i := 679) rfl) rfl, gw_in (List.mem_of_getElem? (i := 680) rfl) rfl, pd_6, by decide, by decide⟩⟩))))
set_option maxRecDepth 100000 in
theorem ml_10_105 : MLP 10 105 0 197 3 := Or.inr (Or.inr (Or.inr (Or.inr (Or.inr ⟨_, rfl, mt_197, Or.inl ⟨rfl, gw_in (List.mem_of_getElem? (i := 1216) rfl) rfl, gw_in (List.mem_of_getElem? (i := 1217) rfl) rfl, gw_in (List.mem_of_getElem? (i := 1218) rfl) rfl, pd_6, by decide, by decide⟩⟩))))
set_option maxRecDepth 100000 in
theorem ml_10_106 : MLP 10 106 0 113 4 := Or.inr (Or.inr (Or.inr (Or.inr (Or.inr ⟨_, rfl, mt_113, Or.inl ⟨rfl, gw_in (List.mem_of_getElem? (i := 702) rfl) rfl, gw_in (List.mem_of_getElem? (i := 703) rfl) rfl, gw_in (List.mem_of_getElem? (i := 704) rfl) rfl, pd_9, by decide, by decide⟩⟩))))
set_option maxRecDepth 100000 in
theorem ml_10_109 : MLP 10 109 0 199 4 := Or.inr (Or.inr (Or.inr (Or.inr (Or.inr ⟨_, rfl, mt_199, Or.inl ⟨rfl, gw_in (List.mem_of_getElem? (i := 1220) rfl) rfl, gw_in (List.mem_of_getElem? (i := 1221) rfl) rfl, gw_in (List.mem_of_getElem? (i := 1222) rfl) rfl, pd_9, by decide, by decide⟩⟩))))
set_option maxRecDepth 100000 in
theorem ml_10_110 : MLP 10 110 0 114 4 := Or.inr (Or.inr (Or.inr (Or.inr (Or.inr ⟨_, rfl, mt_114, Or.inl ⟨rfl, gw_in (List.mem_of_getElem? (i := 711) rfl) rfl, gw_in (List.mem_of_getElem? (i := 712) rfl) rfl, gw_in (List.mem_of_getElem? (i := 713) rfl) rfl, pd_9, by decide, by decide⟩⟩))))
set_option maxRecDepth 100000 in
theorem ml_10_113 : MLP 10 113 0 200 4 := Or.inr (Or.inr (Or.inr (Or.inr (Or.inr ⟨_, rfl, mt_200, Or.inl ⟨rfl, gw_in (List.mem_of_getElem? (i := 1228) rfl) rfl, gw_in (List.mem_of_getElem? (i := 1229) rfl) rfl, gw_in (List.mem_of_getElem? (i := 1230) rfl) rfl, pd_9, by decide, by decide⟩⟩))))
set_option maxRecDepth 100000 in
theorem ml_10_114 : MLP 10 114 0 115 3 := Or.inr (Or.inr (Or.inr (Or.inr (Or.inr ⟨_, rfl, mt_115, Or.inl ⟨rfl, gw_in (List.mem_of_getElem? (i := 719) rfl) rfl, gw_in (List.mem_of_getElem? (i := 720) rfl) rfl, gw_in (List.mem_of_getElem? (i := 721) rfl) rfl, pd_6, by decide, by decide⟩⟩))))
set_option maxRecDepth 100000 in
theorem ml_10_117 : MLP 10 117 0 201 3 := Or.inr (Or.inr (Or.inr (Or.inr (Or.inr ⟨_, rfl, mt_201, Or.inl ⟨rfl, gw_in (List.mem_of_getElem? (i := 1232) rfl) rfl, gw_in (List.mem_of_getElem? (i := 1233) rfl) rfl, gw_in (List.mem_of_getElem? (i := 1234) rfl) rfl, pd_6, by decide, by decide⟩⟩))))
set_option maxRecDepth 100000 in
theorem ml_10_118 : MLP 10 118 0 116 3 := Or.inr (Or.inr (Or.inr (Or.inr (Or.inr ⟨_, rfl, mt_116, Or.inl ⟨rfl, gw_in (List.mem_of_getElem? (i := 732) rfl) rfl, gw_in (List.mem_of_getElem? (i := 733) rfl) rfl, gw_in (List.mem_of_getElem? (i := 734) rfl) rfl, pd_6, by decide, by decide⟩⟩))))
set_option maxRecDepth 100000 in
theorem ml_10_121 : MLP 10 121 0 202 3 := Or.inr (Or.inr (Or.inr (Or.inr (Or.inr ⟨_, rfl, mt_202, Or.inl ⟨rfl, gw_in (List.mem_of_getElem? (i := 1236) rfl) rfl, gw_in (List.mem_of_getElem? (i := 1237) rfl) rfl, gw_in (List.mem_of_getElem? (i := 1238) rfl) rfl, pd_6, by decide, by decide⟩⟩))))
set_option maxRecDepth 100000 in
theorem ml_10_122 : MLP 10 122 0 117 7 := Or.inr (Or.inr (Or.inr (Or.inr (Or.inr ⟨_, rfl, mt_117, Or.inl ⟨rfl, gw_in (List.mem_of_getElem? (i := 741) rfl) rfl, gw_in (List.mem_of_getElem? (i := 742) rfl) rfl, gw_in (List.mem_of_getElem? (i := 743) rfl) rfl, pd_18, by decide, by decide⟩⟩))))
set_option maxRecDepth 100000 in
theorem ml_10_126 : MLP 10 126 0 204 7 := Or.inr (Or.inr (Or.inr (Or.inr (Or.inr ⟨_, rfl, mt_204, Or.inl ⟨rfl, gw_in (List.mem_of_getElem? (i := 1240) rfl) rfl, gw_in (List.mem_of_getElem? (i := 1241) rfl) rfl, gw_in (List.mem_of_getElem? (i := 1242) rfl) rfl, pd_18, by decide, by decide⟩⟩))))
set_option maxRecDepth 100000 in
theorem ml_10_127 : MLP 10 127 0 118 7 := Or.inr (Or.inr (Or.inr (Or.inr (Or.inr ⟨_, rfl, mt_118, Or.inl ⟨rfl, gw_in (List.mem_of_getElem? (i := 765) rfl) rfl, gw_in (List.mem_of_getElem? (i := 766) rfl) rfl, gw_in (List.mem_of_getElem? (i := 767) rfl) rfl, pd_18, by decide, by decide⟩⟩))))
set_option maxRecDepth 100000 in
theorem ml_10_130 : MLP 10 130 0 205 7 := Or.inr (Or.inr (Or.inr (Or.inr (Or.inr ⟨_, rfl, mt_205, Or.inl ⟨rfl, gw_in (List.mem_of_getElem? (i := 1252) rfl) rfl, gw_in (List.mem_of_getElem? (i := 1253) rfl) rfl, gw_in (List.mem_of_getElem? (i := 1254) rfl) rfl, pd_18, by decide, by decide⟩⟩))))
set_option maxRecDepth 100000 in
theorem ml_10_131 : MLP 10 131 0 119 5 := Or.inr (Or.inr (Or.inr (Or.inr (Or.inr ⟨_, rfl, mt_119, Or.inl ⟨rfl, gw_in (List.mem_of_getElem? (i := 777) rfl) rfl, gw_in (List.mem_of_getElem? (i := 778) rfl) rfl, gw_in (List.mem_of_getElem? (i := 779) rfl) rfl, pd_13, by decide, by decide⟩⟩))))
set_option maxRecDepth 100000 in
theorem ml_10_135 : MLP 10 135 0 207 5 := Or.inr (Or.inr (Or.inr (Or.inr (Or.inr ⟨_, rfl, mt_207, Or.inl ⟨rfl, gw_in (List.mem_of_getElem? (i := 1256) rfl) rfl, gw_in (List.mem_of_getElem? (i := 1257) rfl) rfl, gw_in (List.mem_of_getElem? (i := 1258) rfl) rfl, pd_13, by decide, by decide⟩⟩))))
set_option maxRecDepth 100000 in
theorem ml_10_136 : MLP 10 136 0 120 4 := Or.inr (Or.inr (Or.inr (Or.inr (Or.inr ⟨_, rfl, mt_120, Or.inl ⟨rfl, gw_in (List.mem_of_getElem? (i := 797) rfl) rfl, gw_in (List.mem_of_getElem? (i := 798) rfl) rfl, gw_in (List.mem_of_getElem? (i := 799) rfl) rfl, pd_9, by decide, by decide⟩⟩))))
set_option maxRecDepth 100000 in
theorem ml_10_139 : MLP 10 139 0 208 4 := Or.inr (Or.inr (Or.inr (Or.inr (Or.inr ⟨_, rfl, mt_208, Or.inl ⟨rfl, gw_in (List.mem_of_getElem? (i := 1265) rfl) rfl, gw_in (List.mem_of_getElem? (i := 1266) rfl) rfl, gw_in (List.mem_of_getElem? (i := 1267) rfl) rfl, pd_9, by decide, by decide⟩⟩))))
set_option maxRecDepth 100000 in
theorem ml_10_140 : MLP 10 140 0 121 2 := Or.inr (Or.inr (Or.inr (Or.inr (Or.inr ⟨_, rfl, mt_121, Or.inl ⟨rfl, gw_in (List.mem_of_getElem? (i := 815) rfl) rfl, gw_in (List.mem_of_getElem? (i := 816) rfl) rfl, gw_in (List.mem_of_getElem? (i := 817) rfl) rfl, pd_3, by decide, by decide⟩⟩))))
set_option maxRecDepth 100000 in
theorem ml_10_143 : MLP 10 143 0 209 2 := Or.inr (Or.inr (Or.inr (Or.inr (Or.inr ⟨_, rfl, mt_209, Or.inl ⟨rfl, gw_in (List.mem_of_getElem? (i := 1274) rfl) rfl, gw_in (List.mem_of_getElem? (i := 1275) rfl) rfl, gw_in (List.mem_of_getElem? (i := 1276) rfl) rfl, pd_3, by decide, by decide⟩⟩))))
set_option maxRecDepth 100000 in
theorem ml_10_144 : MLP 10 144 0 122 2 := Or.inr (Or.inr (Or.inr (Or.inr (Or.inr ⟨_, rfl, mt_122, Or.inl ⟨rfl, gw_in (List.mem_of_getElem? (i := 819) rfl) rfl, gw_in (List.mem_of_getElem? (i := 820) rfl) rfl, gw_in (List.mem_of_getElem? (i := 821) rfl) rfl, pd_3, by decide, by decide⟩⟩))))
set_option maxRecDepth 100000 in
theorem ml_10_147 : MLP 10 147 0 210 2 := Or.inr (Or.inr (Or.inr (Or.inr (Or.inr ⟨_, rfl, mt_210, Or.inl ⟨rfl, gw_in (List.mem_of_getElem? (i := 1278) rfl) rfl, gw_in (List.mem_of_getElem? (i := 1279) rfl) rfl, gw_in (List.mem_of_getElem? (i := 1280) rfl) rfl, pd_3, by decide, by decide⟩⟩))))
set_option maxRecDepth 100000 in
theorem ml_10_148 : MLP 10 148 0 123 2 := Or.inr (Or.inr (Or.inr (Or.inr (Or.inr ⟨_, rfl, mt_123, Or.inl ⟨rfl, gw_in (List.mem_of_getElem? (i := 823) rfl) rfl, gw_in (List.mem_of_getElem? (i := 824) rfl) rfl, gw_in (List.mem_of_getElem? (i := 825) rfl) rfl, pd_3, by decide, by decide⟩⟩))))
set_option maxRecDepth 100000 in
theorem ml_10_151 : MLP 10 151 0 211 2 := Or.inr (Or.inr (Or.inr (Or.inr (Or.inr ⟨_, rfl, mt_211, Or.inl ⟨rfl, gw_in (List.mem_of_getElem? (i := 1282) rfl) rfl, gw_in (List.mem_of_getElem? (i := 1283) rfl) rfl, gw_in (List.mem_of_getElem? (i := 1284) rfl) rfl, pd_3, by decide, by decide⟩⟩))))
set_option maxRecDepth 100000 in
theorem ml_10_152 : MLP 10 152 0 124 3 := Or.inr (Or.inr (Or.inr (Or.inr (Or.inr ⟨_, rfl, mt_124, Or.inl ⟨rfl, gw_in (List.mem_of_getElem? (i := 827) rfl) rfl, gw_in (List.mem_of_getElem? (i := 828) rfl) rfl, gw_in (List.mem_of_getElem? (i := 829) rfl) rfl, pd_6, by decide, by decide⟩⟩))))
set_option maxRecDepth 100000 in
theorem ml_10_155 : MLP 10 155 0 212 3 := Or.inr (Or.inr (Or.inr (Or.inr (Or.inr ⟨_, rfl, mt_212, Or.inl ⟨rfl, gw_in (List.mem_of_getElem? (i := 1286) rfl) rfl, gw_in (List.mem_of_getElem? (i := 1287) rfl) rfl, gw_in (List.mem_of_getElem? (i := 1288) rfl) rfl, pd_6, by decide, by decide⟩⟩))))
set_option maxRecDepth 100000 in
theorem ml_10_156 : MLP 10 156 0 125 3 := Or.inr (Or.inr (Or.inr (Or.inr (Or.inr ⟨_, rfl, mt_125, Or.inl ⟨rfl, gw_in (List.mem_of_getElem? (i := 837) rfl) rfl, gw_in (List.mem_of_getElem? (i := 838) rfl) rfl, gw_in (List.mem_of_getElem? (i := 839) rfl) rfl, pd_6, by decide, by decide⟩⟩))))
set_option maxRecDepth 100000 in
theorem ml_10_159 : MLP 10 159 0 222 3 := Or.inr (Or.inr (Or.inr (Or.inr (Or.inr ⟨_, rfl, mt_222, Or.inl ⟨rfl, gw_in (List.mem_of_getElem? (i := 1290) rfl) rfl, gw_in (List.mem_of_getElem? (i := 1291) rfl) rfl, gw_in (List.mem_of_getElem? (i := 1292) rfl) rfl, pd_6, by decide, by decide⟩⟩))))
set_option maxRecDepth 100000 in
theorem ml_10_160 : MLP 10 160 0 126 2 := Or.inr (Or.inr (Or.inr (Or.inr (Or.inr ⟨_, rfl, mt_126, Or.inl ⟨rfl, gw_in (List.mem_of_getElem? (i := 862) rfl) rfl, gw_in (List.mem_of_getElem? (i := 863) rfl) rfl, gw_in (List.mem_of_getElem? (i := 864) rfl) rfl, pd_3, by decide, by decide⟩⟩))))
set_option maxRecDepth 100000 in
theorem ml_10_163 : MLP 10 163 0 223 2 := Or.inr (Or.inr (Or.inr (Or.inr (Or.inr ⟨_, rfl, mt_223, Or.inl ⟨rfl, gw_in (List.mem_of_getElem? (i := 1330) rfl) rfl, gw_in (List.mem_of_getElem? (i := 1331) rfl) rfl, gw_in (List.mem_of_getElem? (i := 1332) rfl) rfl, pd_3, by decide, by decide⟩⟩))))
set_option maxRecDepth 100000 in
theorem ml_10_164 : MLP 10 164 0 127 2 := Or.inr (Or.inr (Or.inr (Or.inr (Or.inr ⟨_, rfl, mt_127, Or.inl ⟨rfl, gw_in (List.mem_of_getElem? (i := 866) rfl) rfl, gw_in (List.mem_of_getElem? (i := 867) rfl) rfl, gw_in (List.mem_of_getElem? (i := 868) rfl) rfl, pd_3, by decide, by decide⟩⟩))))
set_option maxRecDepth 100000 in
theorem ml_10_167 : MLP 10 167 0 224 2 := Or.inr (Or.inr (Or.inr (Or.inr (Or.inr ⟨_, rfl, mt_224, Or.inl ⟨rfl, gw_in (List.mem_of_getElem? (i := 1334) rfl) rfl, gw_in (List.mem_of_getElem? (i := 1335) rfl) rfl, gw_in (List.mem_of_getElem? (i := 1336) rfl) rfl, pd_3, by decide, by decide⟩⟩))))
set_option maxRecDepth 100000 in
theorem ml_10_168 : MLP 10 168 0 128 1 := Or.inr (Or.inr (Or.inr (Or.inr (Or.inr ⟨_, rfl, mt_128, Or.inl ⟨rfl, gw_in (List.mem_of_getElem? (i := 875) rfl) rfl, gw_in (List.mem_of_getElem? (i := 876) rfl) rfl, gw_in (List.mem_of_getElem? (i := 877) rfl) rfl, pd_0, by decide, by decide⟩⟩))))
set_option maxRecDepth 100000 in
theorem ml_10_171 : MLP 10 171 0 140 1 := Or.inr (Or.inr (Or.inr (Or.inr (Or.inr ⟨_, rfl, mt_140, Or.inl ⟨rfl, gw_in (List.mem_of_getElem? (i := 974) rfl) rfl, gw_in (List.mem_of_getElem? (i := 975) rfl) rfl, gw_in (List.mem_of_getElem? (i := 976) rfl) rfl, pd_0, by decide, by decide⟩⟩))))
set_option maxRecDepth 100000 in
theorem mlA_10 : ∀ q ∈ mlT 10, MLP 10 q.1 q.2.1 q.2.2.1 q.2.2.2 := List.forall_mem_cons.mpr ⟨ml_10_9, List.forall_mem_cons.mpr ⟨ml_10_12, List.forall_mem_cons.mpr ⟨ml_10_13, List.forall_mem_cons.mpr ⟨ml_10_17, List.forall_mem_cons.mpr ⟨ml_10_18, List.forall_mem_cons.mpr ⟨ml_10_21, List.forall_mem_cons.mpr ⟨ml_10_22, List.forall_mem_cons.mpr ⟨ml_10_26, List.forall_mem_cons.mpr ⟨ml_10_27, List.forall_mem_cons.mpr ⟨ml_10_31, List.forall_mem_cons.mpr ⟨ml_10_32, List.forall_mem_cons.mpr ⟨ml_10_35, List.forall_mem_cons.mpr ⟨ml_10_36, List.forall_mem_cons.mpr ⟨ml_10_40, List.forall_mem_cons.mpr ⟨ml_10_41, List.forall_mem_cons.mpr ⟨ml_10_44, List.forall_mem_cons.mpr ⟨ml_10_45, List.forall_mem_cons.mpr ⟨ml_10_48, List.forall_mem_cons.mpr ⟨ml_10_49, List.forall_mem_cons.mpr ⟨ml_10_52, List.forall_mem_cons.mpr ⟨ml_10_53, List.forall_mem_cons.mpr ⟨ml_10_56, List.forall_mem_cons.mpr ⟨ml_10_57, List.forall_mem_cons.mpr ⟨ml_10_60, List.forall_mem_cons.mpr ⟨ml_10_61, List.forall_mem_cons.mpr ⟨ml_10_65, List.forall_mem_cons.mpr ⟨ml_10_66, List.forall_mem_cons.mpr ⟨ml_10_69, List.forall_mem_cons.mpr ⟨ml_10_70, List.forall_mem_cons.mpr ⟨ml_10_73, List.forall_mem_cons.mpr ⟨ml_10_74, List.forall_mem_cons.mpr ⟨ml_10_77, List.forall_mem_cons.mpr ⟨ml_10_78, List.forall_mem_cons.mpr ⟨ml_10_81, List.forall_mem_cons.mpr ⟨ml_10_82, List.forall_mem_cons.mpr ⟨ml_10_85, List.forall_mem_cons.mpr ⟨ml_10_86, List.forall_mem_cons.mpr ⟨ml_10_89, List.forall_mem_cons.mpr ⟨ml_10_90, List.forall_mem_cons.mpr ⟨ml_10_93, List.forall_mem_cons.mpr ⟨ml_10_94, List.forall_mem_cons.mpr ⟨ml_10_97, List.forall_mem_cons.mpr ⟨ml_10_98, List.forall_mem_cons.mpr ⟨ml_10_101, List.forall_mem_cons.mpr ⟨ml_10_102, List.forall_mem_cons.mpr ⟨ml_10_105, List.forall_mem_cons.mpr ⟨ml_10_106, List.forall_mem_cons.mpr ⟨ml_10_109, List.forall_mem_cons.mpr ⟨ml_10_110, List.forall_mem_cons.mpr ⟨ml_10_113, List.forall_mem_cons.mpr ⟨ml_10_114, List.forall_mem_cons.mpr ⟨ml_10_117, List.forall_mem_cons.mpr ⟨ml_10_118, List.forall_mem_cons.mpr ⟨ml_10_121, List.forall_mem_cons.mpr ⟨ml_10_122, List.forall_mem_cons.mpr ⟨ml_10_126, List.forall_mem_cons.mpr ⟨ml_10_127, List.forall_mem_cons.mpr ⟨ml_10_130, List.forall_mem_cons.mpr ⟨ml_10_131, List.forall_mem_cons.mpr ⟨ml_10_135, List.forall_mem_cons.mpr ⟨ml_10_136, List.forall_mem_cons.mpr ⟨ml_10_139, List.forall_mem_cons.mpr ⟨ml_10_140, List.forall_mem_cons.mpr ⟨ml_10_143, List.forall_mem_cons.mpr ⟨ml_10_144, List.forall_mem_cons.mpr ⟨ml_10_147, List.forall_mem_cons.mpr ⟨ml_10_148, List.forall_mem_cons.mpr ⟨ml_10_151, List.forall_mem_cons.mpr ⟨ml_10_152, List.forall_mem_cons.mpr ⟨ml_10_155, List.forall_mem_cons.mpr ⟨ml_10_156, List.forall_mem_cons.mpr ⟨ml_10_159, List.forall_mem_cons.mpr ⟨ml_10_160, List.forall_mem_cons.mpr ⟨ml_10_163, List.forall_mem_cons.mpr ⟨ml_10_164, List.forall_mem_cons.mpr ⟨ml_10_167, List.forall_mem_cons.mpr ⟨ml_10_168, List.forall_mem_cons.mpr ⟨ml_10_171, fun _ h => absurd h List.not_mem_nil⟩⟩⟩⟩⟩⟩⟩⟩⟩⟩⟩⟩⟩⟩⟩⟩⟩⟩⟩⟩⟩⟩⟩⟩⟩⟩⟩⟩⟩⟩⟩⟩⟩⟩⟩⟩⟩⟩⟩⟩⟩⟩⟩⟩⟩⟩⟩⟩⟩⟩⟩⟩⟩⟩⟩⟩⟩⟩⟩⟩⟩⟩⟩⟩⟩⟩⟩⟩⟩⟩⟩⟩⟩⟩⟩⟩⟩⟩
theorem mlT_ok {o i x y z : Nat} (ho : o < 11) (h : lkp (mlT o) i = some (x, y, z)) : MLP o i x y z := by
  have hm := lkp_mem h
  rcases (show o = 0 ∨ o = 1 ∨ o = 2 ∨ o = 3 ∨ o = 4 ∨ o = 5 ∨ o = 6 ∨ o = 7 ∨ o = 8 ∨ o = 9 ∨ o = 10 by omega) with rfl | rfl | rfl | rfl | rfl | rfl | rfl | rfl | rfl | rfl | rfl
  · exact mlA_0 _ hm
  · exact mlA_1 _ hm
  · exact mlA_2 _ hm
  · exact mlA_3 _ hm
  · exact mlA_4 _ hm
  · exact mlA_5 _ hm
  · exact mlA_6 _ hm
  · exact mlA_7 _ hm
  · exact absurd hm List.not_mem_nil
  · exact absurd hm List.not_mem_nil
  · exact mlA_10 _ hm
set_option maxRecDepth 100000 in
theorem jm_max : Cond.static Lib.Math.max.name ∈ gw_tbl ∧ Cond.code Lib.Math.max.name Lib.Math.max.code 2 (some .int) ∈ gw_tbl := ⟨gw_in (List.mem_of_getElem? (i := 552) rfl) rfl, gw_in (List.mem_of_getElem? (i := 553) rfl) rfl⟩
set_option maxRecDepth 100000 in
theorem jm_min : Cond.static Lib.Math.min.name ∈ gw_tbl ∧ Cond.code Lib.Math.min.name Lib.Math.min.code 2 (some .int) ∈ gw_tbl := ⟨gw_in (List.mem_of_getElem? (i := 508) rfl) rfl, gw_in (List.mem_of_getElem? (i := 509) rfl) rfl⟩
set_option maxRecDepth 100000 in
theorem jm_abs : Cond.static Lib.Math.abs.name ∈ gw_tbl ∧ Cond.code Lib.Math.abs.name Lib.Math.abs.code 1 (some .int) ∈ gw_tbl := ⟨gw_in (List.mem_of_getElem? (i := 536) rfl) rfl, gw_in (List.mem_of_getElem? (i := 537) rfl) rfl⟩
set_option maxRecDepth 100000 in
theorem jm_ini : Cond.initialized "java/lang/Math" ∈ gw_tbl := gw_in (List.mem_of_getElem? (i := 80) rfl) rfl

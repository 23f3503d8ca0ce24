theorem mi_X4_begin : Cond.instanceMethod yX4_begin ∈ gTab := gTab_in (gTb_4 _ (List.mem_of_getElem? (i := 98) rfl)) rfl
theorem ms_X4_begin : Cond.selects RX4 yX4_begin yX4_begin ∈ gTab := gTab_in (gTb_4 _ (List.mem_of_getElem? (i := 99) rfl)) rfl
theorem mc_X4_begin : Cond.code yX4_begin cX4_begin 4 none ∈ gTab := gTab_in (gTb_4 _ (List.mem_of_getElem? (i := 100) rfl)) rfl
theorem mh_X4_begin : yX4_begin.cls ≠ "java/lang/invoke/MethodHandle" ∧ yX4_begin.cls ≠ "java/lang/invoke/VarHandle" ∧ (parseMethodDescriptor yX4_begin.desc).map (fun d => d.parameters.length) = some 3 := by decide +kernel
theorem mi_X4_choose : Cond.instanceMethod yX4_choose ∈ gTab := gTab_in (gTb_4 _ (List.mem_of_getElem? (i := 102) rfl)) rfl
theorem ms_X4_choose : Cond.selects RX4 yX4_choose yX4_choose ∈ gTab := gTab_in (gTb_4 _ (List.mem_of_getElem? (i := 103) rfl)) rfl
theorem mc_X4_choose : Cond.code yX4_choose cX4_choose 3 none ∈ gTab := gTab_in (gTb_4 _ (List.mem_of_getElem? (i := 104) rfl)) rfl
theorem mh_X4_choose : yX4_choose.cls ≠ "java/lang/invoke/MethodHandle" ∧ yX4_choose.cls ≠ "java/lang/invoke/VarHandle" ∧ (parseMethodDescriptor yX4_choose.desc).map (fun d => d.parameters.length) = some 2 := by decide +kernel
theorem mi_X4_makePlan : Cond.instanceMethod yX4_makePlan ∈ gTab := gTab_in (gTb_4 _ (List.mem_of_getElem? (i := 106) rfl)) rfl
theorem ms_X4_makePlan : Cond.selects RX4 yX4_makePlan yX4_makePlan ∈ gTab := gTab_in (gTb_4 _ (List.mem_of_getElem? (i := 107) rfl)) rfl
theorem mc_X4_makePlan : Cond.code yX4_makePlan cX4_makePlan 8 (some .int) ∈ gTab := gTab_in (gTb_4 _ (List.mem_of_getElem? (i := 108) rfl)) rfl
theorem mh_X4_makePlan : yX4_makePlan.cls ≠ "java/lang/invoke/MethodHandle" ∧ yX4_makePlan.cls ≠ "java/lang/invoke/VarHandle" ∧ (parseMethodDescriptor yX4_makePlan.desc).map (fun d => d.parameters.length) = some 1 := by decide +kernel
theorem mi_X4_nextToLeave : Cond.instanceMethod yX4_nextToLeave ∈ gTab := gTab_in (gTb_4 _ (List.mem_of_getElem? (i := 111) rfl)) rfl
theorem ms_X4_nextToLeave : Cond.selects RX4 yX4_nextToLeave yX4_nextToLeave ∈ gTab := gTab_in (List.mem_of_getElem? (i := 29) rfl) rfl
theorem mc_X4_nextToLeave : Cond.code yX4_nextToLeave cX4_nextToLeave 5 (some .int) ∈ gTab := gTab_in (gTb_4 _ (List.mem_of_getElem? (i := 112) rfl)) rfl
theorem mh_X4_nextToLeave : yX4_nextToLeave.cls ≠ "java/lang/invoke/MethodHandle" ∧ yX4_nextToLeave.cls ≠ "java/lang/invoke/VarHandle" ∧ (parseMethodDescriptor yX4_nextToLeave.desc).map (fun d => d.parameters.length) = some 2 := by decide +kernel
theorem mi_X4_isLeftBefore : Cond.instanceMethod yX4_isLeftBefore ∈ gTab := gTab_in (gTb_4 _ (List.mem_of_getElem? (i := 115) rfl)) rfl
theorem ms_X4_isLeftBefore : Cond.selects RX4 yX4_isLeftBefore yX4_isLeftBefore ∈ gTab := gTab_in (List.mem_of_getElem? (i := 30) rfl) rfl
theorem mc_X4_isLeftBefore : Cond.code yX4_isLeftBefore cX4_isLeftBefore 5 (some .boolean) ∈ gTab := gTab_in (gTb_4 _ (List.mem_of_getElem? (i := 116) rfl)) rfl
theorem mh_X4_isLeftBefore : yX4_isLeftBefore.cls ≠ "java/lang/invoke/MethodHandle" ∧ yX4_isLeftBefore.cls ≠ "java/lang/invoke/VarHandle" ∧ (parseMethodDescriptor yX4_isLeftBefore.desc).map (fun d => d.parameters.length) = some 2 := by decide +kernel
theorem mi_X4_worthOf : Cond.instanceMethod yX4_worthOf ∈ gTab := gTab_in (gTb_4 _ (List.mem_of_getElem? (i := 119) rfl)) rfl
theorem ms_X4_worthOf : Cond.selects RX4 yX4_worthOf yX4_worthOf ∈ gTab := gTab_in (List.mem_of_getElem? (i := 31) rfl) rfl
theorem mc_X4_worthOf : Cond.code yX4_worthOf cX4_worthOf 4 (some .int) ∈ gTab := gTab_in (gTb_4 _ (List.mem_of_getElem? (i := 120) rfl)) rfl
theorem mh_X4_worthOf : yX4_worthOf.cls ≠ "java/lang/invoke/MethodHandle" ∧ yX4_worthOf.cls ≠ "java/lang/invoke/VarHandle" ∧ (parseMethodDescriptor yX4_worthOf.desc).map (fun d => d.parameters.length) = some 1 := by decide +kernel
theorem mi_X4_writePlan : Cond.instanceMethod yX4_writePlan ∈ gTab := gTab_in (gTb_4 _ (List.mem_of_getElem? (i := 189) rfl)) rfl
theorem ms_X4_writePlan : Cond.selects RX4 yX4_writePlan yX4_writePlan ∈ gTab := gTab_in (List.mem_of_getElem? (i := 44) rfl) rfl
theorem mc_X4_writePlan : Cond.code yX4_writePlan cX4_writePlan 7 (some .int) ∈ gTab := gTab_in (gTb_4 _ (List.mem_of_getElem? (i := 190) rfl)) rfl
theorem mh_X4_writePlan : yX4_writePlan.cls ≠ "java/lang/invoke/MethodHandle" ∧ yX4_writePlan.cls ≠ "java/lang/invoke/VarHandle" ∧ (parseMethodDescriptor yX4_writePlan.desc).map (fun d => d.parameters.length) = some 3 := by decide +kernel
theorem mi_X4_optionShift : Cond.static yX4_optionShift ∈ gTab := gTab_in (gTb_4 _ (List.mem_of_getElem? (i := 177) rfl)) rfl
theorem mc_X4_optionShift : Cond.code yX4_optionShift cX4_optionShift 1 (some .int) ∈ gTab := gTab_in (gTb_4 _ (List.mem_of_getElem? (i := 178) rfl)) rfl
theorem mh_X4_optionShift : yX4_optionShift.cls ≠ "java/lang/invoke/MethodHandle" ∧ yX4_optionShift.cls ≠ "java/lang/invoke/VarHandle" ∧ (parseMethodDescriptor yX4_optionShift.desc).map (fun d => d.parameters.length) = some 1 := by decide +kernel
theorem mi_X4_findWay : Cond.instanceMethod yX4_findWay ∈ gTab := gTab_in (gTb_4 _ (List.mem_of_getElem? (i := 131) rfl)) rfl
theorem ms_X4_findWay : Cond.selects RX4 yX4_findWay yX4_findWay ∈ gTab := gTab_in (List.mem_of_getElem? (i := 32) rfl) rfl
theorem mc_X4_findWay : Cond.code yX4_findWay cX4_findWay 4 (some .long) ∈ gTab := gTab_in (gTb_4 _ (List.mem_of_getElem? (i := 132) rfl)) rfl
theorem mh_X4_findWay : yX4_findWay.cls ≠ "java/lang/invoke/MethodHandle" ∧ yX4_findWay.cls ≠ "java/lang/invoke/VarHandle" ∧ (parseMethodDescriptor yX4_findWay.desc).map (fun d => d.parameters.length) = some 1 := by decide +kernel
theorem mi_X4_keepAllBut : Cond.instanceMethod yX4_keepAllBut ∈ gTab := gTab_in (gTb_4 _ (List.mem_of_getElem? (i := 135) rfl)) rfl
theorem ms_X4_keepAllBut : Cond.selects RX4 yX4_keepAllBut yX4_keepAllBut ∈ gTab := gTab_in (List.mem_of_getElem? (i := 33) rfl) rfl
theorem mc_X4_keepAllBut : Cond.code yX4_keepAllBut cX4_keepAllBut 4 none ∈ gTab := gTab_in (gTb_4 _ (List.mem_of_getElem? (i := 136) rfl)) rfl
theorem mh_X4_keepAllBut : yX4_keepAllBut.cls ≠ "java/lang/invoke/MethodHandle" ∧ yX4_keepAllBut.cls ≠ "java/lang/invoke/VarHandle" ∧ (parseMethodDescriptor yX4_keepAllBut.desc).map (fun d => d.parameters.length) = some 1 := by decide +kernel
theorem mi_X4_firstLease : Cond.instanceMethod yX4_firstLease ∈ gTab := gTab_in (gTb_4 _ (List.mem_of_getElem? (i := 139) rfl)) rfl
theorem ms_X4_firstLease : Cond.selects RX4 yX4_firstLease yX4_firstLease ∈ gTab := gTab_in (List.mem_of_getElem? (i := 34) rfl) rfl
theorem mc_X4_firstLease : Cond.code yX4_firstLease cX4_firstLease 3 (some .int) ∈ gTab := gTab_in (gTb_4 _ (List.mem_of_getElem? (i := 140) rfl)) rfl
theorem mh_X4_firstLease : yX4_firstLease.cls ≠ "java/lang/invoke/MethodHandle" ∧ yX4_firstLease.cls ≠ "java/lang/invoke/VarHandle" ∧ (parseMethodDescriptor yX4_firstLease.desc).map (fun d => d.parameters.length) = some 1 := by decide +kernel
theorem mi_X4_clearNextWays : Cond.instanceMethod yX4_clearNextWays ∈ gTab := gTab_in (gTb_4 _ (List.mem_of_getElem? (i := 147) rfl)) rfl
theorem ms_X4_clearNextWays : Cond.selects RX4 yX4_clearNextWays yX4_clearNextWays ∈ gTab := gTab_in (List.mem_of_getElem? (i := 35) rfl) rfl
theorem mc_X4_clearNextWays : Cond.code yX4_clearNextWays cX4_clearNextWays 2 none ∈ gTab := gTab_in (gTb_4 _ (List.mem_of_getElem? (i := 148) rfl)) rfl
theorem mh_X4_clearNextWays : yX4_clearNextWays.cls ≠ "java/lang/invoke/MethodHandle" ∧ yX4_clearNextWays.cls ≠ "java/lang/invoke/VarHandle" ∧ (parseMethodDescriptor yX4_clearNextWays.desc).map (fun d => d.parameters.length) = some 0 := by decide +kernel
theorem mi_X4_swapWays : Cond.instanceMethod yX4_swapWays ∈ gTab := gTab_in (gTb_4 _ (List.mem_of_getElem? (i := 181) rfl)) rfl
theorem ms_X4_swapWays : Cond.selects RX4 yX4_swapWays yX4_swapWays ∈ gTab := gTab_in (List.mem_of_getElem? (i := 42) rfl) rfl
theorem mc_X4_swapWays : Cond.code yX4_swapWays cX4_swapWays 2 none ∈ gTab := gTab_in (gTb_4 _ (List.mem_of_getElem? (i := 182) rfl)) rfl
theorem mh_X4_swapWays : yX4_swapWays.cls ≠ "java/lang/invoke/MethodHandle" ∧ yX4_swapWays.cls ≠ "java/lang/invoke/VarHandle" ∧ (parseMethodDescriptor yX4_swapWays.desc).map (fun d => d.parameters.length) = some 0 := by decide +kernel
theorem mi_X4_unpackLeases : Cond.instanceMethod yX4_unpackLeases ∈ gTab := gTab_in (gTb_4 _ (List.mem_of_getElem? (i := 185) rfl)) rfl
theorem ms_X4_unpackLeases : Cond.selects RX4 yX4_unpackLeases yX4_unpackLeases ∈ gTab := gTab_in (List.mem_of_getElem? (i := 43) rfl) rfl
theorem mc_X4_unpackLeases : Cond.code yX4_unpackLeases cX4_unpackLeases 5 none ∈ gTab := gTab_in (gTb_4 _ (List.mem_of_getElem? (i := 186) rfl)) rfl
theorem mh_X4_unpackLeases : yX4_unpackLeases.cls ≠ "java/lang/invoke/MethodHandle" ∧ yX4_unpackLeases.cls ≠ "java/lang/invoke/VarHandle" ∧ (parseMethodDescriptor yX4_unpackLeases.desc).map (fun d => d.parameters.length) = some 1 := by decide +kernel
theorem mi_X4_listOptions : Cond.instanceMethod yX4_listOptions ∈ gTab := gTab_in (gTb_4 _ (List.mem_of_getElem? (i := 152) rfl)) rfl
theorem ms_X4_listOptions : Cond.selects RX4 yX4_listOptions yX4_listOptions ∈ gTab := gTab_in (List.mem_of_getElem? (i := 36) rfl) rfl
theorem mc_X4_listOptions : Cond.code yX4_listOptions cX4_listOptions 9 none ∈ gTab := gTab_in (gTb_4 _ (List.mem_of_getElem? (i := 153) rfl)) rfl
theorem mh_X4_listOptions : yX4_listOptions.cls ≠ "java/lang/invoke/MethodHandle" ∧ yX4_listOptions.cls ≠ "java/lang/invoke/VarHandle" ∧ (parseMethodDescriptor yX4_listOptions.desc).map (fun d => d.parameters.length) = some 1 := by decide +kernel
theorem mi_X4_addOption : Cond.instanceMethod yX4_addOption ∈ gTab := gTab_in (gTb_4 _ (List.mem_of_getElem? (i := 166) rfl)) rfl
theorem ms_X4_addOption : Cond.selects RX4 yX4_addOption yX4_addOption ∈ gTab := gTab_in (List.mem_of_getElem? (i := 39) rfl) rfl
theorem mc_X4_addOption : Cond.code yX4_addOption cX4_addOption 5 none ∈ gTab := gTab_in (gTb_4 _ (List.mem_of_getElem? (i := 167) rfl)) rfl
theorem mh_X4_addOption : yX4_addOption.cls ≠ "java/lang/invoke/MethodHandle" ∧ yX4_addOption.cls ≠ "java/lang/invoke/VarHandle" ∧ (parseMethodDescriptor yX4_addOption.desc).map (fun d => d.parameters.length) = some 4 := by decide +kernel
theorem mi_X4_needsOf : Cond.instanceMethod yX4_needsOf ∈ gTab := gTab_in (gTb_4 _ (List.mem_of_getElem? (i := 157) rfl)) rfl
theorem ms_X4_needsOf : Cond.selects RX4 yX4_needsOf yX4_needsOf ∈ gTab := gTab_in (List.mem_of_getElem? (i := 37) rfl) rfl
theorem mc_X4_needsOf : Cond.code yX4_needsOf cX4_needsOf 4 (some .int) ∈ gTab := gTab_in (gTb_4 _ (List.mem_of_getElem? (i := 158) rfl)) rfl
theorem mh_X4_needsOf : yX4_needsOf.cls ≠ "java/lang/invoke/MethodHandle" ∧ yX4_needsOf.cls ≠ "java/lang/invoke/VarHandle" ∧ (parseMethodDescriptor yX4_needsOf.desc).map (fun d => d.parameters.length) = some 1 := by decide +kernel
theorem mi_X4_renewedWith : Cond.instanceMethod yX4_renewedWith ∈ gTab := gTab_in (gTb_4 _ (List.mem_of_getElem? (i := 161) rfl)) rfl
theorem ms_X4_renewedWith : Cond.selects RX4 yX4_renewedWith yX4_renewedWith ∈ gTab := gTab_in (List.mem_of_getElem? (i := 38) rfl) rfl
theorem mc_X4_renewedWith : Cond.code yX4_renewedWith cX4_renewedWith 4 (some .int) ∈ gTab := gTab_in (gTb_4 _ (List.mem_of_getElem? (i := 162) rfl)) rfl
theorem mh_X4_renewedWith : yX4_renewedWith.cls ≠ "java/lang/invoke/MethodHandle" ∧ yX4_renewedWith.cls ≠ "java/lang/invoke/VarHandle" ∧ (parseMethodDescriptor yX4_renewedWith.desc).map (fun d => d.parameters.length) = some 1 := by decide +kernel
theorem mi_X4_spread : Cond.instanceMethod yX4_spread ∈ gTab := gTab_in (gTb_4 _ (List.mem_of_getElem? (i := 170) rfl)) rfl
theorem ms_X4_spread : Cond.selects RX4 yX4_spread yX4_spread ∈ gTab := gTab_in (List.mem_of_getElem? (i := 40) rfl) rfl
theorem mc_X4_spread : Cond.code yX4_spread cX4_spread 9 none ∈ gTab := gTab_in (gTb_4 _ (List.mem_of_getElem? (i := 171) rfl)) rfl
theorem mh_X4_spread : yX4_spread.cls ≠ "java/lang/invoke/MethodHandle" ∧ yX4_spread.cls ≠ "java/lang/invoke/VarHandle" ∧ (parseMethodDescriptor yX4_spread.desc).map (fun d => d.parameters.length) = some 2 := by decide +kernel
theorem mi_X4_codeBehind : Cond.instanceMethod yX4_codeBehind ∈ gTab := gTab_in (gTb_4 _ (List.mem_of_getElem? (i := 174) rfl)) rfl
theorem ms_X4_codeBehind : Cond.selects RX4 yX4_codeBehind yX4_codeBehind ∈ gTab := gTab_in (List.mem_of_getElem? (i := 41) rfl) rfl
theorem mc_X4_codeBehind : Cond.code yX4_codeBehind cX4_codeBehind 7 (some .int) ∈ gTab := gTab_in (gTb_4 _ (List.mem_of_getElem? (i := 175) rfl)) rfl
theorem mh_X4_codeBehind : yX4_codeBehind.cls ≠ "java/lang/invoke/MethodHandle" ∧ yX4_codeBehind.cls ≠ "java/lang/invoke/VarHandle" ∧ (parseMethodDescriptor yX4_codeBehind.desc).map (fun d => d.parameters.length) = some 2 := by decide +kernel
theorem mi_X5_clear : Cond.instanceMethod yX5_clear ∈ gTab := gTab_in (gTb_3 _ (List.mem_of_getElem? (i := 24) rfl)) rfl
theorem ms_X5_clear : Cond.selects RX5 yX5_clear yX5_clear ∈ gTab := gTab_in (gTb_3 _ (List.mem_of_getElem? (i := 25) rfl)) rfl
theorem mc_X5_clear : Cond.code yX5_clear cX5_clear 1 none ∈ gTab := gTab_in (gTb_3 _ (List.mem_of_getElem? (i := 26) rfl)) rfl
theorem mh_X5_clear : yX5_clear.cls ≠ "java/lang/invoke/MethodHandle" ∧ yX5_clear.cls ≠ "java/lang/invoke/VarHandle" ∧ (parseMethodDescriptor yX5_clear.desc).map (fun d => d.parameters.length) = some 0 := by decide +kernel
theorem mi_X5_openTell : Cond.instanceMethod yX5_openTell ∈ gTab := gTab_in (gTb_3 _ (List.mem_of_getElem? (i := 96) rfl)) rfl
theorem ms_X5_openTell : Cond.selects RX5 yX5_openTell yX5_openTell ∈ gTab := gTab_in (gTb_3 _ (List.mem_of_getElem? (i := 97) rfl)) rfl
theorem mc_X5_openTell : Cond.code yX5_openTell cX5_openTell 5 (some (.object "GaugeWall$Tell")) ∈ gTab := gTab_in (gTb_3 _ (List.mem_of_getElem? (i := 98) rfl)) rfl
theorem mh_X5_openTell : yX5_openTell.cls ≠ "java/lang/invoke/MethodHandle" ∧ yX5_openTell.cls ≠ "java/lang/invoke/VarHandle" ∧ (parseMethodDescriptor yX5_openTell.desc).map (fun d => d.parameters.length) = some 1 := by decide +kernel
theorem mi_X5_addStep : Cond.instanceMethod yX5_addStep ∈ gTab := gTab_in (gTb_3 _ (List.mem_of_getElem? (i := 124) rfl)) rfl
theorem ms_X5_addStep : Cond.selects RX5 yX5_addStep yX5_addStep ∈ gTab := gTab_in (gTb_3 _ (List.mem_of_getElem? (i := 125) rfl)) rfl
theorem mc_X5_addStep : Cond.code yX5_addStep cX5_addStep 3 none ∈ gTab := gTab_in (gTb_3 _ (List.mem_of_getElem? (i := 126) rfl)) rfl
theorem mh_X5_addStep : yX5_addStep.cls ≠ "java/lang/invoke/MethodHandle" ∧ yX5_addStep.cls ≠ "java/lang/invoke/VarHandle" ∧ (parseMethodDescriptor yX5_addStep.desc).map (fun d => d.parameters.length) = some 2 := by decide +kernel
theorem mi_X5_evaluateLets : Cond.instanceMethod yX5_evaluateLets ∈ gTab := gTab_in (gTb_3 _ (List.mem_of_getElem? (i := 228) rfl)) rfl
theorem ms_X5_evaluateLets : Cond.selects RX5 yX5_evaluateLets yX5_evaluateLets ∈ gTab := gTab_in (gTb_3 _ (List.mem_of_getElem? (i := 229) rfl)) rfl
theorem mc_X5_evaluateLets : Cond.code yX5_evaluateLets cX5_evaluateLets 4 none ∈ gTab := gTab_in (gTb_3 _ (List.mem_of_getElem? (i := 230) rfl)) rfl
theorem mh_X5_evaluateLets : yX5_evaluateLets.cls ≠ "java/lang/invoke/MethodHandle" ∧ yX5_evaluateLets.cls ≠ "java/lang/invoke/VarHandle" ∧ (parseMethodDescriptor yX5_evaluateLets.desc).map (fun d => d.parameters.length) = some 1 := by decide +kernel
theorem mi_X5_evaluate : Cond.instanceMethod yX5_evaluate ∈ gTab := gTab_in (gTb_3 _ (List.mem_of_getElem? (i := 232) rfl)) rfl
theorem ms_X5_evaluate : Cond.selects RX5 yX5_evaluate yX5_evaluate ∈ gTab := gTab_in (gTb_3 _ (List.mem_of_getElem? (i := 233) rfl)) rfl
theorem mc_X5_evaluate : Cond.code yX5_evaluate cX5_evaluate 4 (some .long) ∈ gTab := gTab_in (gTb_3 _ (List.mem_of_getElem? (i := 234) rfl)) rfl
theorem mh_X5_evaluate : yX5_evaluate.cls ≠ "java/lang/invoke/MethodHandle" ∧ yX5_evaluate.cls ≠ "java/lang/invoke/VarHandle" ∧ (parseMethodDescriptor yX5_evaluate.desc).map (fun d => d.parameters.length) = some 2 := by decide +kernel
theorem mi_X5_doStep : Cond.instanceMethod yX5_doStep ∈ gTab := gTab_in (gTb_4 _ (List.mem_of_getElem? (i := 0) rfl)) rfl
theorem ms_X5_doStep : Cond.selects RX5 yX5_doStep yX5_doStep ∈ gTab := gTab_in (List.mem_of_getElem? (i := 22) rfl) rfl
theorem mc_X5_doStep : Cond.code yX5_doStep cX5_doStep 7 none ∈ gTab := gTab_in (gTb_4 _ (List.mem_of_getElem? (i := 1) rfl)) rfl
theorem mh_X5_doStep : yX5_doStep.cls ≠ "java/lang/invoke/MethodHandle" ∧ yX5_doStep.cls ≠ "java/lang/invoke/VarHandle" ∧ (parseMethodDescriptor yX5_doStep.desc).map (fun d => d.parameters.length) = some 2 := by decide +kernel
theorem mi_X5_combine : Cond.static yX5_combine ∈ gTab := gTab_in (gTb_4 _ (List.mem_of_getElem? (i := 11) rfl)) rfl
theorem mc_X5_combine : Cond.code yX5_combine cX5_combine 5 (some .long) ∈ gTab := gTab_in (gTb_4 _ (List.mem_of_getElem? (i := 12) rfl)) rfl
theorem mh_X5_combine : yX5_combine.cls ≠ "java/lang/invoke/MethodHandle" ∧ yX5_combine.cls ≠ "java/lang/invoke/VarHandle" ∧ (parseMethodDescriptor yX5_combine.desc).map (fun d => d.parameters.length) = some 3 := by decide +kernel
theorem mi_X5_push : Cond.instanceMethod yX5_push ∈ gTab := gTab_in (gTb_4 _ (List.mem_of_getElem? (i := 4) rfl)) rfl
theorem ms_X5_push : Cond.selects RX5 yX5_push yX5_push ∈ gTab := gTab_in (List.mem_of_getElem? (i := 23) rfl) rfl
theorem mc_X5_push : Cond.code yX5_push cX5_push 3 none ∈ gTab := gTab_in (gTb_4 _ (List.mem_of_getElem? (i := 5) rfl)) rfl
theorem mh_X5_push : yX5_push.cls ≠ "java/lang/invoke/MethodHandle" ∧ yX5_push.cls ≠ "java/lang/invoke/VarHandle" ∧ (parseMethodDescriptor yX5_push.desc).map (fun d => d.parameters.length) = some 1 := by decide +kernel
theorem mi_X5_pop : Cond.instanceMethod yX5_pop ∈ gTab := gTab_in (gTb_4 _ (List.mem_of_getElem? (i := 8) rfl)) rfl
theorem ms_X5_pop : Cond.selects RX5 yX5_pop yX5_pop ∈ gTab := gTab_in (List.mem_of_getElem? (i := 24) rfl) rfl
theorem mc_X5_pop : Cond.code yX5_pop cX5_pop 1 (some .long) ∈ gTab := gTab_in (gTb_4 _ (List.mem_of_getElem? (i := 9) rfl)) rfl
theorem mh_X5_pop : yX5_pop.cls ≠ "java/lang/invoke/MethodHandle" ∧ yX5_pop.cls ≠ "java/lang/invoke/VarHandle" ∧ (parseMethodDescriptor yX5_pop.desc).map (fun d => d.parameters.length) = some 0 := by decide +kernel
theorem mi_X6_addFact : Cond.instanceMethod yX6_addFact ∈ gTab := gTab_in (gTb_3 _ (List.mem_of_getElem? (i := 192) rfl)) rfl
theorem ms_X6_addFact : Cond.selects RX6 yX6_addFact yX6_addFact ∈ gTab := gTab_in (gTb_3 _ (List.mem_of_getElem? (i := 193) rfl)) rfl
theorem mc_X6_addFact : Cond.code yX6_addFact cX6_addFact 4 (some .int) ∈ gTab := gTab_in (gTb_3 _ (List.mem_of_getElem? (i := 194) rfl)) rfl
theorem mh_X6_addFact : yX6_addFact.cls ≠ "java/lang/invoke/MethodHandle" ∧ yX6_addFact.cls ≠ "java/lang/invoke/VarHandle" ∧ (parseMethodDescriptor yX6_addFact.desc).map (fun d => d.parameters.length) = some 3 := by decide +kernel
theorem mi_X6_addDown : Cond.instanceMethod yX6_addDown ∈ gTab := gTab_in (gTb_3 _ (List.mem_of_getElem? (i := 200) rfl)) rfl
theorem ms_X6_addDown : Cond.selects RX6 yX6_addDown yX6_addDown ∈ gTab := gTab_in (gTb_3 _ (List.mem_of_getElem? (i := 201) rfl)) rfl
theorem mc_X6_addDown : Cond.code yX6_addDown cX6_addDown 4 (some .boolean) ∈ gTab := gTab_in (gTb_3 _ (List.mem_of_getElem? (i := 202) rfl)) rfl
theorem mh_X6_addDown : yX6_addDown.cls ≠ "java/lang/invoke/MethodHandle" ∧ yX6_addDown.cls ≠ "java/lang/invoke/VarHandle" ∧ (parseMethodDescriptor yX6_addDown.desc).map (fun d => d.parameters.length) = some 3 := by decide +kernel
theorem mi_X6_downAt : Cond.instanceMethod yX6_downAt ∈ gTab := gTab_in (gTb_3 _ (List.mem_of_getElem? (i := 220) rfl)) rfl
theorem ms_X6_downAt : Cond.selects RX6 yX6_downAt yX6_downAt ∈ gTab := gTab_in (gTb_3 _ (List.mem_of_getElem? (i := 221) rfl)) rfl
theorem mc_X6_downAt : Cond.code yX6_downAt cX6_downAt 4 (some .int) ∈ gTab := gTab_in (gTb_3 _ (List.mem_of_getElem? (i := 222) rfl)) rfl
theorem mh_X6_downAt : yX6_downAt.cls ≠ "java/lang/invoke/MethodHandle" ∧ yX6_downAt.cls ≠ "java/lang/invoke/VarHandle" ∧ (parseMethodDescriptor yX6_downAt.desc).map (fun d => d.parameters.length) = some 1 := by decide +kernel
theorem mi_X6_valuesAt : Cond.instanceMethod yX6_valuesAt ∈ gTab := gTab_in (gTb_3 _ (List.mem_of_getElem? (i := 224) rfl)) rfl
theorem ms_X6_valuesAt : Cond.selects RX6 yX6_valuesAt yX6_valuesAt ∈ gTab := gTab_in (gTb_3 _ (List.mem_of_getElem? (i := 225) rfl)) rfl
theorem mc_X6_valuesAt : Cond.code yX6_valuesAt cX6_valuesAt 4 (some (.array .long)) ∈ gTab := gTab_in (gTb_3 _ (List.mem_of_getElem? (i := 226) rfl)) rfl
theorem mh_X6_valuesAt : yX6_valuesAt.cls ≠ "java/lang/invoke/MethodHandle" ∧ yX6_valuesAt.cls ≠ "java/lang/invoke/VarHandle" ∧ (parseMethodDescriptor yX6_valuesAt.desc).map (fun d => d.parameters.length) = some 1 := by decide +kernel
theorem mi_X6_costOf : Cond.instanceMethod yX6_costOf ∈ gTab := gTab_in (gTb_3 _ (List.mem_of_getElem? (i := 212) rfl)) rfl
theorem ms_X6_costOf : Cond.selects RX6 yX6_costOf yX6_costOf ∈ gTab := gTab_in (gTb_3 _ (List.mem_of_getElem? (i := 213) rfl)) rfl
theorem mc_X6_costOf : Cond.code yX6_costOf cX6_costOf 4 (some .int) ∈ gTab := gTab_in (gTb_3 _ (List.mem_of_getElem? (i := 214) rfl)) rfl
theorem mh_X6_costOf : yX6_costOf.cls ≠ "java/lang/invoke/MethodHandle" ∧ yX6_costOf.cls ≠ "java/lang/invoke/VarHandle" ∧ (parseMethodDescriptor yX6_costOf.desc).map (fun d => d.parameters.length) = some 1 := by decide +kernel
theorem mi_X6_pay : Cond.instanceMethod yX6_pay ∈ gTab := gTab_in (gTb_3 _ (List.mem_of_getElem? (i := 208) rfl)) rfl
theorem ms_X6_pay : Cond.selects RX6 yX6_pay yX6_pay ∈ gTab := gTab_in (gTb_3 _ (List.mem_of_getElem? (i := 209) rfl)) rfl
theorem mc_X6_pay : Cond.code yX6_pay cX6_pay 3 (some .boolean) ∈ gTab := gTab_in (gTb_3 _ (List.mem_of_getElem? (i := 210) rfl)) rfl
theorem mh_X6_pay : yX6_pay.cls ≠ "java/lang/invoke/MethodHandle" ∧ yX6_pay.cls ≠ "java/lang/invoke/VarHandle" ∧ (parseMethodDescriptor yX6_pay.desc).map (fun d => d.parameters.length) = some 1 := by decide +kernel
theorem mi_X6_startTick : Cond.instanceMethod yX6_startTick ∈ gTab := gTab_in (gTb_4 _ (List.mem_of_getElem? (i := 29) rfl)) rfl
theorem ms_X6_startTick : Cond.selects RX6 yX6_startTick yX6_startTick ∈ gTab := gTab_in (gTb_4 _ (List.mem_of_getElem? (i := 30) rfl)) rfl
theorem mc_X6_startTick : Cond.code yX6_startTick cX6_startTick 1 none ∈ gTab := gTab_in (gTb_4 _ (List.mem_of_getElem? (i := 31) rfl)) rfl
theorem mh_X6_startTick : yX6_startTick.cls ≠ "java/lang/invoke/MethodHandle" ∧ yX6_startTick.cls ≠ "java/lang/invoke/VarHandle" ∧ (parseMethodDescriptor yX6_startTick.desc).map (fun d => d.parameters.length) = some 0 := by decide +kernel
theorem mi_X7_append : Cond.instanceMethod yX7_append ∈ gTab := gTab_in (gTb_3 _ (List.mem_of_getElem? (i := 8) rfl)) rfl
theorem ms_X7_append : Cond.selects RX7 yX7_append yX7_append ∈ gTab := gTab_in (gTb_3 _ (List.mem_of_getElem? (i := 9) rfl)) rfl
theorem mc_X7_append : Cond.code yX7_append cX7_append 3 none ∈ gTab := gTab_in (gTb_3 _ (List.mem_of_getElem? (i := 10) rfl)) rfl
theorem mh_X7_append : yX7_append.cls ≠ "java/lang/invoke/MethodHandle" ∧ yX7_append.cls ≠ "java/lang/invoke/VarHandle" ∧ (parseMethodDescriptor yX7_append.desc).map (fun d => d.parameters.length) = some 1 := by decide +kernel
theorem mi_X7_byteAt : Cond.instanceMethod yX7_byteAt ∈ gTab := gTab_in (gTb_3 _ (List.mem_of_getElem? (i := 35) rfl)) rfl
theorem ms_X7_byteAt : Cond.selects RX7 yX7_byteAt yX7_byteAt ∈ gTab := gTab_in (gTb_3 _ (List.mem_of_getElem? (i := 36) rfl)) rfl
theorem mc_X7_byteAt : Cond.code yX7_byteAt cX7_byteAt 2 (some .int) ∈ gTab := gTab_in (gTb_3 _ (List.mem_of_getElem? (i := 37) rfl)) rfl
theorem mh_X7_byteAt : yX7_byteAt.cls ≠ "java/lang/invoke/MethodHandle" ∧ yX7_byteAt.cls ≠ "java/lang/invoke/VarHandle" ∧ (parseMethodDescriptor yX7_byteAt.desc).map (fun d => d.parameters.length) = some 1 := by decide +kernel
theorem mi_X9_split : Cond.instanceMethod yX9_split ∈ gTab := gTab_in (gTb_3 _ (List.mem_of_getElem? (i := 28) rfl)) rfl
theorem ms_X9_split : Cond.selects RX9 yX9_split yX9_split ∈ gTab := gTab_in (gTb_3 _ (List.mem_of_getElem? (i := 29) rfl)) rfl
theorem mc_X9_split : Cond.code yX9_split cX9_split 6 none ∈ gTab := gTab_in (gTb_3 _ (List.mem_of_getElem? (i := 30) rfl)) rfl
theorem mh_X9_split : yX9_split.cls ≠ "java/lang/invoke/MethodHandle" ∧ yX9_split.cls ≠ "java/lang/invoke/VarHandle" ∧ (parseMethodDescriptor yX9_split.desc).map (fun d => d.parameters.length) = some 1 := by decide +kernel
theorem mi_X9_kindAt : Cond.instanceMethod yX9_kindAt ∈ gTab := gTab_in (gTb_3 _ (List.mem_of_getElem? (i := 80) rfl)) rfl
theorem ms_X9_kindAt : Cond.selects RX9 yX9_kindAt yX9_kindAt ∈ gTab := gTab_in (gTb_3 _ (List.mem_of_getElem? (i := 81) rfl)) rfl
theorem mc_X9_kindAt : Cond.code yX9_kindAt cX9_kindAt 2 (some .int) ∈ gTab := gTab_in (gTb_3 _ (List.mem_of_getElem? (i := 82) rfl)) rfl
theorem mh_X9_kindAt : yX9_kindAt.cls ≠ "java/lang/invoke/MethodHandle" ∧ yX9_kindAt.cls ≠ "java/lang/invoke/VarHandle" ∧ (parseMethodDescriptor yX9_kindAt.desc).map (fun d => d.parameters.length) = some 1 := by decide +kernel
theorem mi_X9_placeAt : Cond.instanceMethod yX9_placeAt ∈ gTab := gTab_in (gTb_3 _ (List.mem_of_getElem? (i := 92) rfl)) rfl
theorem ms_X9_placeAt : Cond.selects RX9 yX9_placeAt yX9_placeAt ∈ gTab := gTab_in (gTb_3 _ (List.mem_of_getElem? (i := 93) rfl)) rfl
theorem mc_X9_placeAt : Cond.code yX9_placeAt cX9_placeAt 2 (some .int) ∈ gTab := gTab_in (gTb_3 _ (List.mem_of_getElem? (i := 94) rfl)) rfl
theorem mh_X9_placeAt : yX9_placeAt.cls ≠ "java/lang/invoke/MethodHandle" ∧ yX9_placeAt.cls ≠ "java/lang/invoke/VarHandle" ∧ (parseMethodDescriptor yX9_placeAt.desc).map (fun d => d.parameters.length) = some 1 := by decide +kernel
theorem mi_X9_valueAt : Cond.instanceMethod yX9_valueAt ∈ gTab := gTab_in (gTb_3 _ (List.mem_of_getElem? (i := 120) rfl)) rfl
theorem ms_X9_valueAt : Cond.selects RX9 yX9_valueAt yX9_valueAt ∈ gTab := gTab_in (gTb_3 _ (List.mem_of_getElem? (i := 121) rfl)) rfl
theorem mc_X9_valueAt : Cond.code yX9_valueAt cX9_valueAt 2 (some .long) ∈ gTab := gTab_in (gTb_3 _ (List.mem_of_getElem? (i := 122) rfl)) rfl
theorem mh_X9_valueAt : yX9_valueAt.cls ≠ "java/lang/invoke/MethodHandle" ∧ yX9_valueAt.cls ≠ "java/lang/invoke/VarHandle" ∧ (parseMethodDescriptor yX9_valueAt.desc).map (fun d => d.parameters.length) = some 1 := by decide +kernel
theorem mi_X9_addToken : Cond.instanceMethod yX9_addToken ∈ gTab := gTab_in (gTb_3 _ (List.mem_of_getElem? (i := 43) rfl)) rfl
theorem ms_X9_addToken : Cond.selects RX9 yX9_addToken yX9_addToken ∈ gTab := gTab_in (List.mem_of_getElem? (i := 0) rfl) rfl
theorem mc_X9_addToken : Cond.code yX9_addToken cX9_addToken 4 (some .int) ∈ gTab := gTab_in (gTb_3 _ (List.mem_of_getElem? (i := 44) rfl)) rfl
theorem mh_X9_addToken : yX9_addToken.cls ≠ "java/lang/invoke/MethodHandle" ∧ yX9_addToken.cls ≠ "java/lang/invoke/VarHandle" ∧ (parseMethodDescriptor yX9_addToken.desc).map (fun d => d.parameters.length) = some 2 := by decide +kernel
theorem mi_X9_addName : Cond.instanceMethod yX9_addName ∈ gTab := gTab_in (gTb_3 _ (List.mem_of_getElem? (i := 54) rfl)) rfl
theorem ms_X9_addName : Cond.selects RX9 yX9_addName yX9_addName ∈ gTab := gTab_in (List.mem_of_getElem? (i := 2) rfl) rfl
theorem mc_X9_addName : Cond.code yX9_addName cX9_addName 6 (some .int) ∈ gTab := gTab_in (gTb_3 _ (List.mem_of_getElem? (i := 55) rfl)) rfl
theorem mh_X9_addName : yX9_addName.cls ≠ "java/lang/invoke/MethodHandle" ∧ yX9_addName.cls ≠ "java/lang/invoke/VarHandle" ∧ (parseMethodDescriptor yX9_addName.desc).map (fun d => d.parameters.length) = some 2 := by decide +kernel
theorem mi_X9_addInt : Cond.instanceMethod yX9_addInt ∈ gTab := gTab_in (gTb_3 _ (List.mem_of_getElem? (i := 68) rfl)) rfl
theorem ms_X9_addInt : Cond.selects RX9 yX9_addInt yX9_addInt ∈ gTab := gTab_in (List.mem_of_getElem? (i := 3) rfl) rfl
theorem mc_X9_addInt : Cond.code yX9_addInt cX9_addInt 6 (some .int) ∈ gTab := gTab_in (gTb_3 _ (List.mem_of_getElem? (i := 69) rfl)) rfl
theorem mh_X9_addInt : yX9_addInt.cls ≠ "java/lang/invoke/MethodHandle" ∧ yX9_addInt.cls ≠ "java/lang/invoke/VarHandle" ∧ (parseMethodDescriptor yX9_addInt.desc).map (fun d => d.parameters.length) = some 2 := by decide +kernel
theorem mi_X9_put : Cond.instanceMethod yX9_put ∈ gTab := gTab_in (gTb_3 _ (List.mem_of_getElem? (i := 47) rfl)) rfl
theorem ms_X9_put : Cond.selects RX9 yX9_put yX9_put ∈ gTab := gTab_in (List.mem_of_getElem? (i := 1) rfl) rfl
theorem mc_X9_put : Cond.code yX9_put cX9_put 6 (some .int) ∈ gTab := gTab_in (gTb_3 _ (List.mem_of_getElem? (i := 48) rfl)) rfl
theorem mh_X9_put : yX9_put.cls ≠ "java/lang/invoke/MethodHandle" ∧ yX9_put.cls ≠ "java/lang/invoke/VarHandle" ∧ (parseMethodDescriptor yX9_put.desc).map (fun d => d.parameters.length) = some 4 := by decide +kernel
theorem mi_X9_skipBlanks : Cond.static yX9_skipBlanks ∈ gTab := gTab_in (gTb_3 _ (List.mem_of_getElem? (i := 32) rfl)) rfl
theorem mc_X9_skipBlanks : Cond.code yX9_skipBlanks cX9_skipBlanks 3 (some .int) ∈ gTab := gTab_in (gTb_3 _ (List.mem_of_getElem? (i := 33) rfl)) rfl
theorem mh_X9_skipBlanks : yX9_skipBlanks.cls ≠ "java/lang/invoke/MethodHandle" ∧ yX9_skipBlanks.cls ≠ "java/lang/invoke/VarHandle" ∧ (parseMethodDescriptor yX9_skipBlanks.desc).map (fun d => d.parameters.length) = some 2 := by decide +kernel
theorem mi_X9_kindOfWord : Cond.static yX9_kindOfWord ∈ gTab := gTab_in (gTb_3 _ (List.mem_of_getElem? (i := 60) rfl)) rfl
theorem mc_X9_kindOfWord : Cond.code yX9_kindOfWord cX9_kindOfWord 3 (some .int) ∈ gTab := gTab_in (gTb_3 _ (List.mem_of_getElem? (i := 61) rfl)) rfl
theorem mh_X9_kindOfWord : yX9_kindOfWord.cls ≠ "java/lang/invoke/MethodHandle" ∧ yX9_kindOfWord.cls ≠ "java/lang/invoke/VarHandle" ∧ (parseMethodDescriptor yX9_kindOfWord.desc).map (fun d => d.parameters.length) = some 1 := by decide +kernel
theorem mi_X9_isBlank : Cond.static yX9_isBlank ∈ gTab := gTab_in (gTb_3 _ (List.mem_of_getElem? (i := 39) rfl)) rfl
theorem mc_X9_isBlank : Cond.code yX9_isBlank cX9_isBlank 1 (some .boolean) ∈ gTab := gTab_in (gTb_3 _ (List.mem_of_getElem? (i := 40) rfl)) rfl
theorem mh_X9_isBlank : yX9_isBlank.cls ≠ "java/lang/invoke/MethodHandle" ∧ yX9_isBlank.cls ≠ "java/lang/invoke/VarHandle" ∧ (parseMethodDescriptor yX9_isBlank.desc).map (fun d => d.parameters.length) = some 1 := by decide +kernel
theorem mi_X9_isLetter : Cond.static yX9_isLetter ∈ gTab := gTab_in (gTb_3 _ (List.mem_of_getElem? (i := 50) rfl)) rfl
theorem mc_X9_isLetter : Cond.code yX9_isLetter cX9_isLetter 1 (some .boolean) ∈ gTab := gTab_in (gTb_3 _ (List.mem_of_getElem? (i := 51) rfl)) rfl
theorem mh_X9_isLetter : yX9_isLetter.cls ≠ "java/lang/invoke/MethodHandle" ∧ yX9_isLetter.cls ≠ "java/lang/invoke/VarHandle" ∧ (parseMethodDescriptor yX9_isLetter.desc).map (fun d => d.parameters.length) = some 1 := by decide +kernel
theorem mi_X9_isDigit : Cond.static yX9_isDigit ∈ gTab := gTab_in (gTb_3 _ (List.mem_of_getElem? (i := 57) rfl)) rfl
theorem mc_X9_isDigit : Cond.code yX9_isDigit cX9_isDigit 1 (some .boolean) ∈ gTab := gTab_in (gTb_3 _ (List.mem_of_getElem? (i := 58) rfl)) rfl
theorem mh_X9_isDigit : yX9_isDigit.cls ≠ "java/lang/invoke/MethodHandle" ∧ yX9_isDigit.cls ≠ "java/lang/invoke/VarHandle" ∧ (parseMethodDescriptor yX9_isDigit.desc).map (fun d => d.parameters.length) = some 1 := by decide +kernel
theorem mi_X9_isSign : Cond.static yX9_isSign ∈ gTab := gTab_in (gTb_3 _ (List.mem_of_getElem? (i := 73) rfl)) rfl
theorem mc_X9_isSign : Cond.code yX9_isSign cX9_isSign 1 (some .boolean) ∈ gTab := gTab_in (gTb_3 _ (List.mem_of_getElem? (i := 74) rfl)) rfl
theorem mh_X9_isSign : yX9_isSign.cls ≠ "java/lang/invoke/MethodHandle" ∧ yX9_isSign.cls ≠ "java/lang/invoke/VarHandle" ∧ (parseMethodDescriptor yX9_isSign.desc).map (fun d => d.parameters.length) = some 1 := by decide +kernel
theorem mi_X10_feed : Cond.instanceMethod yX10_feed ∈ gTab := gTab_in (gTb_3 _ (List.mem_of_getElem? (i := 4) rfl)) rfl
theorem ms_X10_feed : Cond.selects RX10 yX10_feed yX10_feed ∈ gTab := gTab_in (gTb_3 _ (List.mem_of_getElem? (i := 5) rfl)) rfl
theorem mc_X10_feed : Cond.code yX10_feed cX10_feed 6 (some .int) ∈ gTab := gTab_in (gTb_3 _ (List.mem_of_getElem? (i := 6) rfl)) rfl
theorem mh_X10_feed : yX10_feed.cls ≠ "java/lang/invoke/MethodHandle" ∧ yX10_feed.cls ≠ "java/lang/invoke/VarHandle" ∧ (parseMethodDescriptor yX10_feed.desc).map (fun d => d.parameters.length) = some 5 := by decide +kernel
theorem mi_X10_back : Cond.instanceMethod yX10_back ∈ gTab := gTab_in (gTb_3 _ (List.mem_of_getElem? (i := 12) rfl)) rfl
theorem ms_X10_back : Cond.selects RX10 yX10_back yX10_back ∈ gTab := gTab_in (gTb_3 _ (List.mem_of_getElem? (i := 13) rfl)) rfl
theorem mc_X10_back : Cond.code yX10_back cX10_back 2 (some .int) ∈ gTab := gTab_in (gTb_3 _ (List.mem_of_getElem? (i := 14) rfl)) rfl
theorem mh_X10_back : yX10_back.cls ≠ "java/lang/invoke/MethodHandle" ∧ yX10_back.cls ≠ "java/lang/invoke/VarHandle" ∧ (parseMethodDescriptor yX10_back.desc).map (fun d => d.parameters.length) = some 1 := by decide +kernel
theorem mi_X10_read : Cond.instanceMethod yX10_read ∈ gTab := gTab_in (gTb_3 _ (List.mem_of_getElem? (i := 16) rfl)) rfl
theorem ms_X10_read : Cond.selects RX10 yX10_read yX10_read ∈ gTab := gTab_in (gTb_3 _ (List.mem_of_getElem? (i := 17) rfl)) rfl
theorem mc_X10_read : Cond.code yX10_read cX10_read 2 (some .int) ∈ gTab := gTab_in (gTb_3 _ (List.mem_of_getElem? (i := 18) rfl)) rfl
theorem mh_X10_read : yX10_read.cls ≠ "java/lang/invoke/MethodHandle" ∧ yX10_read.cls ≠ "java/lang/invoke/VarHandle" ∧ (parseMethodDescriptor yX10_read.desc).map (fun d => d.parameters.length) = some 0 := by decide +kernel
theorem mi_X10_place : Cond.instanceMethod yX10_place ∈ gTab := gTab_in (gTb_3 _ (List.mem_of_getElem? (i := 173) rfl)) rfl
theorem ms_X10_place : Cond.selects RX10 yX10_place yX10_place ∈ gTab := gTab_in (gTb_3 _ (List.mem_of_getElem? (i := 174) rfl)) rfl
theorem mc_X10_place : Cond.code yX10_place cX10_place 1 (some .int) ∈ gTab := gTab_in (gTb_3 _ (List.mem_of_getElem? (i := 175) rfl)) rfl
theorem mh_X10_place : yX10_place.cls ≠ "java/lang/invoke/MethodHandle" ∧ yX10_place.cls ≠ "java/lang/invoke/VarHandle" ∧ (parseMethodDescriptor yX10_place.desc).map (fun d => d.parameters.length) = some 0 := by decide +kernel
theorem mi_X10_cost : Cond.instanceMethod yX10_cost ∈ gTab := gTab_in (gTb_3 _ (List.mem_of_getElem? (i := 177) rfl)) rfl
theorem ms_X10_cost : Cond.selects RX10 yX10_cost yX10_cost ∈ gTab := gTab_in (gTb_3 _ (List.mem_of_getElem? (i := 178) rfl)) rfl
theorem mc_X10_cost : Cond.code yX10_cost cX10_cost 3 (some .boolean) ∈ gTab := gTab_in (gTb_3 _ (List.mem_of_getElem? (i := 179) rfl)) rfl
theorem mh_X10_cost : yX10_cost.cls ≠ "java/lang/invoke/MethodHandle" ∧ yX10_cost.cls ≠ "java/lang/invoke/VarHandle" ∧ (parseMethodDescriptor yX10_cost.desc).map (fun d => d.parameters.length) = some 2 := by decide +kernel
theorem mi_X10_budget : Cond.instanceMethod yX10_budget ∈ gTab := gTab_in (gTb_3 _ (List.mem_of_getElem? (i := 184) rfl)) rfl
theorem ms_X10_budget : Cond.selects RX10 yX10_budget yX10_budget ∈ gTab := gTab_in (gTb_3 _ (List.mem_of_getElem? (i := 185) rfl)) rfl
theorem mc_X10_budget : Cond.code yX10_budget cX10_budget 2 (some .boolean) ∈ gTab := gTab_in (gTb_3 _ (List.mem_of_getElem? (i := 186) rfl)) rfl
theorem mh_X10_budget : yX10_budget.cls ≠ "java/lang/invoke/MethodHandle" ∧ yX10_budget.cls ≠ "java/lang/invoke/VarHandle" ∧ (parseMethodDescriptor yX10_budget.desc).map (fun d => d.parameters.length) = some 1 := by decide +kernel
theorem mi_X10_value : Cond.instanceMethod yX10_value ∈ gTab := gTab_in (gTb_3 _ (List.mem_of_getElem? (i := 188) rfl)) rfl
theorem ms_X10_value : Cond.selects RX10 yX10_value yX10_value ∈ gTab := gTab_in (gTb_3 _ (List.mem_of_getElem? (i := 189) rfl)) rfl
theorem mc_X10_value : Cond.code yX10_value cX10_value 4 (some .int) ∈ gTab := gTab_in (gTb_3 _ (List.mem_of_getElem? (i := 190) rfl)) rfl
theorem mh_X10_value : yX10_value.cls ≠ "java/lang/invoke/MethodHandle" ∧ yX10_value.cls ≠ "java/lang/invoke/VarHandle" ∧ (parseMethodDescriptor yX10_value.desc).map (fun d => d.parameters.length) = some 3 := by decide +kernel
theorem mi_X10_down : Cond.instanceMethod yX10_down ∈ gTab := gTab_in (gTb_3 _ (List.mem_of_getElem? (i := 196) rfl)) rfl
theorem ms_X10_down : Cond.selects RX10 yX10_down yX10_down ∈ gTab := gTab_in (gTb_3 _ (List.mem_of_getElem? (i := 197) rfl)) rfl
theorem mc_X10_down : Cond.code yX10_down cX10_down 4 (some .boolean) ∈ gTab := gTab_in (gTb_3 _ (List.mem_of_getElem? (i := 198) rfl)) rfl
theorem mh_X10_down : yX10_down.cls ≠ "java/lang/invoke/MethodHandle" ∧ yX10_down.cls ≠ "java/lang/invoke/VarHandle" ∧ (parseMethodDescriptor yX10_down.desc).map (fun d => d.parameters.length) = some 3 := by decide +kernel
theorem mi_X10_ask : Cond.instanceMethod yX10_ask ∈ gTab := gTab_in (gTb_3 _ (List.mem_of_getElem? (i := 204) rfl)) rfl
theorem ms_X10_ask : Cond.selects RX10 yX10_ask yX10_ask ∈ gTab := gTab_in (gTb_3 _ (List.mem_of_getElem? (i := 205) rfl)) rfl
theorem mc_X10_ask : Cond.code yX10_ask cX10_ask 2 (some .int) ∈ gTab := gTab_in (gTb_3 _ (List.mem_of_getElem? (i := 206) rfl)) rfl
theorem mh_X10_ask : yX10_ask.cls ≠ "java/lang/invoke/MethodHandle" ∧ yX10_ask.cls ≠ "java/lang/invoke/VarHandle" ∧ (parseMethodDescriptor yX10_ask.desc).map (fun d => d.parameters.length) = some 1 := by decide +kernel
theorem mi_X10_tick : Cond.instanceMethod yX10_tick ∈ gTab := gTab_in (gTb_4 _ (List.mem_of_getElem? (i := 25) rfl)) rfl
theorem ms_X10_tick : Cond.selects RX10 yX10_tick yX10_tick ∈ gTab := gTab_in (gTb_4 _ (List.mem_of_getElem? (i := 26) rfl)) rfl
theorem mc_X10_tick : Cond.code yX10_tick cX10_tick 2 (some .int) ∈ gTab := gTab_in (gTb_4 _ (List.mem_of_getElem? (i := 27) rfl)) rfl
theorem mh_X10_tick : yX10_tick.cls ≠ "java/lang/invoke/MethodHandle" ∧ yX10_tick.cls ≠ "java/lang/invoke/VarHandle" ∧ (parseMethodDescriptor yX10_tick.desc).map (fun d => d.parameters.length) = some 0 := by decide +kernel
theorem mi_X10_look : Cond.instanceMethod yX10_look ∈ gTab := gTab_in (gTb_4 _ (List.mem_of_getElem? (i := 37) rfl)) rfl
theorem ms_X10_look : Cond.selects RX10 yX10_look yX10_look ∈ gTab := gTab_in (gTb_4 _ (List.mem_of_getElem? (i := 38) rfl)) rfl
theorem mc_X10_look : Cond.code yX10_look cX10_look 2 (some .boolean) ∈ gTab := gTab_in (gTb_4 _ (List.mem_of_getElem? (i := 39) rfl)) rfl
theorem mh_X10_look : yX10_look.cls ≠ "java/lang/invoke/MethodHandle" ∧ yX10_look.cls ≠ "java/lang/invoke/VarHandle" ∧ (parseMethodDescriptor yX10_look.desc).map (fun d => d.parameters.length) = some 1 := by decide +kernel
theorem mi_X10_shows : Cond.instanceMethod yX10_shows ∈ gTab := gTab_in (gTb_4 _ (List.mem_of_getElem? (i := 45) rfl)) rfl
theorem ms_X10_shows : Cond.selects RX10 yX10_shows yX10_shows ∈ gTab := gTab_in (gTb_4 _ (List.mem_of_getElem? (i := 46) rfl)) rfl
theorem mc_X10_shows : Cond.code yX10_shows cX10_shows 2 (some .long) ∈ gTab := gTab_in (gTb_4 _ (List.mem_of_getElem? (i := 47) rfl)) rfl
theorem mh_X10_shows : yX10_shows.cls ≠ "java/lang/invoke/MethodHandle" ∧ yX10_shows.cls ≠ "java/lang/invoke/VarHandle" ∧ (parseMethodDescriptor yX10_shows.desc).map (fun d => d.parameters.length) = some 1 := by decide +kernel
theorem mi_X10_showed : Cond.instanceMethod yX10_showed ∈ gTab := gTab_in (gTb_4 _ (List.mem_of_getElem? (i := 49) rfl)) rfl
theorem ms_X10_showed : Cond.selects RX10 yX10_showed yX10_showed ∈ gTab := gTab_in (gTb_4 _ (List.mem_of_getElem? (i := 50) rfl)) rfl
theorem mc_X10_showed : Cond.code yX10_showed cX10_showed 3 (some .long) ∈ gTab := gTab_in (gTb_4 _ (List.mem_of_getElem? (i := 51) rfl)) rfl
theorem mh_X10_showed : yX10_showed.cls ≠ "java/lang/invoke/MethodHandle" ∧ yX10_showed.cls ≠ "java/lang/invoke/VarHandle" ∧ (parseMethodDescriptor yX10_showed.desc).map (fun d => d.parameters.length) = some 2 := by decide +kernel
theorem mi_X10_box : Cond.instanceMethod yX10_box ∈ gTab := gTab_in (gTb_4 _ (List.mem_of_getElem? (i := 58) rfl)) rfl
theorem ms_X10_box : Cond.selects RX10 yX10_box yX10_box ∈ gTab := gTab_in (gTb_4 _ (List.mem_of_getElem? (i := 59) rfl)) rfl
theorem mc_X10_box : Cond.code yX10_box cX10_box 4 (some .int) ∈ gTab := gTab_in (gTb_4 _ (List.mem_of_getElem? (i := 60) rfl)) rfl
theorem mh_X10_box : yX10_box.cls ≠ "java/lang/invoke/MethodHandle" ∧ yX10_box.cls ≠ "java/lang/invoke/VarHandle" ∧ (parseMethodDescriptor yX10_box.desc).map (fun d => d.parameters.length) = some 2 := by decide +kernel
theorem mi_X10_aged : Cond.instanceMethod yX10_aged ∈ gTab := gTab_in (gTb_4 _ (List.mem_of_getElem? (i := 76) rfl)) rfl
theorem ms_X10_aged : Cond.selects RX10 yX10_aged yX10_aged ∈ gTab := gTab_in (gTb_4 _ (List.mem_of_getElem? (i := 77) rfl)) rfl
theorem mc_X10_aged : Cond.code yX10_aged cX10_aged 3 (some .int) ∈ gTab := gTab_in (gTb_4 _ (List.mem_of_getElem? (i := 78) rfl)) rfl
theorem mh_X10_aged : yX10_aged.cls ≠ "java/lang/invoke/MethodHandle" ∧ yX10_aged.cls ≠ "java/lang/invoke/VarHandle" ∧ (parseMethodDescriptor yX10_aged.desc).map (fun d => d.parameters.length) = some 2 := by decide +kernel
theorem mi_X10_let : Cond.instanceMethod yX10_let ∈ gTab := gTab_in (gTb_4 _ (List.mem_of_getElem? (i := 80) rfl)) rfl
theorem ms_X10_let : Cond.selects RX10 yX10_let yX10_let ∈ gTab := gTab_in (gTb_4 _ (List.mem_of_getElem? (i := 81) rfl)) rfl
theorem mc_X10_let : Cond.code yX10_let cX10_let 2 (some .long) ∈ gTab := gTab_in (gTb_4 _ (List.mem_of_getElem? (i := 82) rfl)) rfl
theorem mh_X10_let : yX10_let.cls ≠ "java/lang/invoke/MethodHandle" ∧ yX10_let.cls ≠ "java/lang/invoke/VarHandle" ∧ (parseMethodDescriptor yX10_let.desc).map (fun d => d.parameters.length) = some 1 := by decide +kernel
theorem mi_X10_plan : Cond.instanceMethod yX10_plan ∈ gTab := gTab_in (gTb_4 _ (List.mem_of_getElem? (i := 84) rfl)) rfl
theorem ms_X10_plan : Cond.selects RX10 yX10_plan yX10_plan ∈ gTab := gTab_in (gTb_4 _ (List.mem_of_getElem? (i := 85) rfl)) rfl
theorem mc_X10_plan : Cond.code yX10_plan cX10_plan 4 (some .int) ∈ gTab := gTab_in (gTb_4 _ (List.mem_of_getElem? (i := 86) rfl)) rfl
theorem mh_X10_plan : yX10_plan.cls ≠ "java/lang/invoke/MethodHandle" ∧ yX10_plan.cls ≠ "java/lang/invoke/VarHandle" ∧ (parseMethodDescriptor yX10_plan.desc).map (fun d => d.parameters.length) = some 2 := by decide +kernel
theorem mi_X10_planned : Cond.instanceMethod yX10_planned ∈ gTab := gTab_in (gTb_4 _ (List.mem_of_getElem? (i := 192) rfl)) rfl
theorem ms_X10_planned : Cond.selects RX10 yX10_planned yX10_planned ∈ gTab := gTab_in (gTb_4 _ (List.mem_of_getElem? (i := 193) rfl)) rfl
theorem mc_X10_planned : Cond.code yX10_planned cX10_planned 2 (some .int) ∈ gTab := gTab_in (gTb_4 _ (List.mem_of_getElem? (i := 194) rfl)) rfl
theorem mh_X10_planned : yX10_planned.cls ≠ "java/lang/invoke/MethodHandle" ∧ yX10_planned.cls ≠ "java/lang/invoke/VarHandle" ∧ (parseMethodDescriptor yX10_planned.desc).map (fun d => d.parameters.length) = some 1 := by decide +kernel
theorem mi_X10_left : Cond.instanceMethod yX10_left ∈ gTab := gTab_in (gTb_4 _ (List.mem_of_getElem? (i := 196) rfl)) rfl
theorem ms_X10_left : Cond.selects RX10 yX10_left yX10_left ∈ gTab := gTab_in (gTb_4 _ (List.mem_of_getElem? (i := 197) rfl)) rfl
theorem mc_X10_left : Cond.code yX10_left cX10_left 1 (some .int) ∈ gTab := gTab_in (gTb_4 _ (List.mem_of_getElem? (i := 198) rfl)) rfl
theorem mh_X10_left : yX10_left.cls ≠ "java/lang/invoke/MethodHandle" ∧ yX10_left.cls ≠ "java/lang/invoke/VarHandle" ∧ (parseMethodDescriptor yX10_left.desc).map (fun d => d.parameters.length) = some 0 := by decide +kernel
theorem mi_X10_follow : Cond.instanceMethod yX10_follow ∈ gTab := gTab_in (gTb_4 _ (List.mem_of_getElem? (i := 200) rfl)) rfl
theorem ms_X10_follow : Cond.selects RX10 yX10_follow yX10_follow ∈ gTab := gTab_in (gTb_4 _ (List.mem_of_getElem? (i := 201) rfl)) rfl
theorem mc_X10_follow : Cond.code yX10_follow cX10_follow 2 (some .int) ∈ gTab := gTab_in (gTb_4 _ (List.mem_of_getElem? (i := 202) rfl)) rfl
theorem mh_X10_follow : yX10_follow.cls ≠ "java/lang/invoke/MethodHandle" ∧ yX10_follow.cls ≠ "java/lang/invoke/VarHandle" ∧ (parseMethodDescriptor yX10_follow.desc).map (fun d => d.parameters.length) = some 0 := by decide +kernel
theorem mi_X10_fix : Cond.instanceMethod yX10_fix ∈ gTab := gTab_in (gTb_4 _ (List.mem_of_getElem? (i := 206) rfl)) rfl
theorem ms_X10_fix : Cond.selects RX10 yX10_fix yX10_fix ∈ gTab := gTab_in (gTb_4 _ (List.mem_of_getElem? (i := 207) rfl)) rfl
theorem mc_X10_fix : Cond.code yX10_fix cX10_fix 4 (some .boolean) ∈ gTab := gTab_in (gTb_4 _ (List.mem_of_getElem? (i := 208) rfl)) rfl
theorem mh_X10_fix : yX10_fix.cls ≠ "java/lang/invoke/MethodHandle" ∧ yX10_fix.cls ≠ "java/lang/invoke/VarHandle" ∧ (parseMethodDescriptor yX10_fix.desc).map (fun d => d.parameters.length) = some 3 := by decide +kernel
theorem mi_X10_lay : Cond.instanceMethod yX10_lay ∈ gTab := gTab_in (gTb_4 _ (List.mem_of_getElem? (i := 222) rfl)) rfl
theorem ms_X10_lay : Cond.selects RX10 yX10_lay yX10_lay ∈ gTab := gTab_in (gTb_4 _ (List.mem_of_getElem? (i := 223) rfl)) rfl
theorem mc_X10_lay : Cond.code yX10_lay cX10_lay 2 (some .int) ∈ gTab := gTab_in (gTb_4 _ (List.mem_of_getElem? (i := 224) rfl)) rfl
theorem mh_X10_lay : yX10_lay.cls ≠ "java/lang/invoke/MethodHandle" ∧ yX10_lay.cls ≠ "java/lang/invoke/VarHandle" ∧ (parseMethodDescriptor yX10_lay.desc).map (fun d => d.parameters.length) = some 1 := by decide +kernel
theorem mi_X10_at : Cond.instanceMethod yX10_at ∈ gTab := gTab_in (gTb_5 _ (List.mem_of_getElem? (i := 18) rfl)) rfl
theorem ms_X10_at : Cond.selects RX10 yX10_at yX10_at ∈ gTab := gTab_in (gTb_5 _ (List.mem_of_getElem? (i := 19) rfl)) rfl
theorem mc_X10_at : Cond.code yX10_at cX10_at 3 (some .int) ∈ gTab := gTab_in (gTb_5 _ (List.mem_of_getElem? (i := 20) rfl)) rfl
theorem mh_X10_at : yX10_at.cls ≠ "java/lang/invoke/MethodHandle" ∧ yX10_at.cls ≠ "java/lang/invoke/VarHandle" ∧ (parseMethodDescriptor yX10_at.desc).map (fun d => d.parameters.length) = some 2 := by decide +kernel
theorem mi_X10_unseen : Cond.instanceMethod yX10_unseen ∈ gTab := gTab_in (gTb_5 _ (List.mem_of_getElem? (i := 22) rfl)) rfl
theorem ms_X10_unseen : Cond.selects RX10 yX10_unseen yX10_unseen ∈ gTab := gTab_in (gTb_5 _ (List.mem_of_getElem? (i := 23) rfl)) rfl
theorem mc_X10_unseen : Cond.code yX10_unseen cX10_unseen 6 (some .int) ∈ gTab := gTab_in (gTb_5 _ (List.mem_of_getElem? (i := 24) rfl)) rfl
theorem mh_X10_unseen : yX10_unseen.cls ≠ "java/lang/invoke/MethodHandle" ∧ yX10_unseen.cls ≠ "java/lang/invoke/VarHandle" ∧ (parseMethodDescriptor yX10_unseen.desc).map (fun d => d.parameters.length) = some 2 := by decide +kernel
theorem mi_X10_count : Cond.instanceMethod yX10_count ∈ gTab := gTab_in (gTb_5 _ (List.mem_of_getElem? (i := 26) rfl)) rfl
theorem ms_X10_count : Cond.selects RX10 yX10_count yX10_count ∈ gTab := gTab_in (gTb_5 _ (List.mem_of_getElem? (i := 27) rfl)) rfl
theorem mc_X10_count : Cond.code yX10_count cX10_count 2 (some .int) ∈ gTab := gTab_in (gTb_5 _ (List.mem_of_getElem? (i := 28) rfl)) rfl
theorem mh_X10_count : yX10_count.cls ≠ "java/lang/invoke/MethodHandle" ∧ yX10_count.cls ≠ "java/lang/invoke/VarHandle" ∧ (parseMethodDescriptor yX10_count.desc).map (fun d => d.parameters.length) = some 1 := by decide +kernel
theorem mi_X10_isSource : Cond.static yX10_isSource ∈ gTab := gTab_in (gTb_3 _ (List.mem_of_getElem? (i := 181) rfl)) rfl
theorem mc_X10_isSource : Cond.code yX10_isSource cX10_isSource 1 (some .boolean) ∈ gTab := gTab_in (gTb_3 _ (List.mem_of_getElem? (i := 182) rfl)) rfl
theorem mh_X10_isSource : yX10_isSource.cls ≠ "java/lang/invoke/MethodHandle" ∧ yX10_isSource.cls ≠ "java/lang/invoke/VarHandle" ∧ (parseMethodDescriptor yX10_isSource.desc).map (fun d => d.parameters.length) = some 1 := by decide +kernel
theorem mi_X10_isBox : Cond.instanceMethod yX10_isBox ∈ gTab := gTab_in (gTb_4 _ (List.mem_of_getElem? (i := 42) rfl)) rfl
theorem ms_X10_isBox : Cond.selects RX10 yX10_isBox yX10_isBox ∈ gTab := gTab_in (List.mem_of_getElem? (i := 25) rfl) rfl
theorem mc_X10_isBox : Cond.code yX10_isBox cX10_isBox 2 (some .boolean) ∈ gTab := gTab_in (gTb_4 _ (List.mem_of_getElem? (i := 43) rfl)) rfl
theorem mh_X10_isBox : yX10_isBox.cls ≠ "java/lang/invoke/MethodHandle" ∧ yX10_isBox.cls ≠ "java/lang/invoke/VarHandle" ∧ (parseMethodDescriptor yX10_isBox.desc).map (fun d => d.parameters.length) = some 1 := by decide +kernel
theorem mi_X10_isPast : Cond.instanceMethod yX10_isPast ∈ gTab := gTab_in (gTb_4 _ (List.mem_of_getElem? (i := 54) rfl)) rfl
theorem ms_X10_isPast : Cond.selects RX10 yX10_isPast yX10_isPast ∈ gTab := gTab_in (List.mem_of_getElem? (i := 26) rfl) rfl
theorem mc_X10_isPast : Cond.code yX10_isPast cX10_isPast 2 (some .boolean) ∈ gTab := gTab_in (gTb_4 _ (List.mem_of_getElem? (i := 55) rfl)) rfl
theorem mh_X10_isPast : yX10_isPast.cls ≠ "java/lang/invoke/MethodHandle" ∧ yX10_isPast.cls ≠ "java/lang/invoke/VarHandle" ∧ (parseMethodDescriptor yX10_isPast.desc).map (fun d => d.parameters.length) = some 1 := by decide +kernel

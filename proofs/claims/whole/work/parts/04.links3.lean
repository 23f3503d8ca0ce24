theorem mi_X10_isPlannable : Cond.instanceMethod yX10_isPlannable ∈ gTab := gTab_in (gTb_4 _ (List.mem_of_getElem? (i := 89) rfl)) rfl
theorem ms_X10_isPlannable : Cond.selects RX10 yX10_isPlannable yX10_isPlannable ∈ gTab := gTab_in (List.mem_of_getElem? (i := 28) rfl) rfl
theorem mc_X10_isPlannable : Cond.code yX10_isPlannable cX10_isPlannable 2 (some .boolean) ∈ gTab := gTab_in (gTb_4 _ (List.mem_of_getElem? (i := 90) rfl)) rfl
theorem mh_X10_isPlannable : yX10_isPlannable.cls ≠ "java/lang/invoke/MethodHandle" ∧ yX10_isPlannable.cls ≠ "java/lang/invoke/VarHandle" ∧ (parseMethodDescriptor yX10_isPlannable.desc).map (fun d => d.parameters.length) = some 1 := by decide +kernel
theorem mi_X10_hangDraft : Cond.instanceMethod yX10_hangDraft ∈ gTab := gTab_in (gTb_3 _ (List.mem_of_getElem? (i := 166) rfl)) rfl
theorem ms_X10_hangDraft : Cond.selects RX10 yX10_hangDraft yX10_hangDraft ∈ gTab := gTab_in (List.mem_of_getElem? (i := 20) rfl) rfl
theorem mc_X10_hangDraft : Cond.code yX10_hangDraft cX10_hangDraft 3 none ∈ gTab := gTab_in (gTb_3 _ (List.mem_of_getElem? (i := 167) rfl)) rfl
theorem mh_X10_hangDraft : yX10_hangDraft.cls ≠ "java/lang/invoke/MethodHandle" ∧ yX10_hangDraft.cls ≠ "java/lang/invoke/VarHandle" ∧ (parseMethodDescriptor yX10_hangDraft.desc).map (fun d => d.parameters.length) = some 0 := by decide +kernel
theorem mi_X10_renewBoxes : Cond.instanceMethod yX10_renewBoxes ∈ gTab := gTab_in (gTb_3 _ (List.mem_of_getElem? (i := 217) rfl)) rfl
theorem ms_X10_renewBoxes : Cond.selects RX10 yX10_renewBoxes yX10_renewBoxes ∈ gTab := gTab_in (List.mem_of_getElem? (i := 21) rfl) rfl
theorem mc_X10_renewBoxes : Cond.code yX10_renewBoxes cX10_renewBoxes 5 (some .int) ∈ gTab := gTab_in (gTb_3 _ (List.mem_of_getElem? (i := 218) rfl)) rfl
theorem mh_X10_renewBoxes : yX10_renewBoxes.cls ≠ "java/lang/invoke/MethodHandle" ∧ yX10_renewBoxes.cls ≠ "java/lang/invoke/VarHandle" ∧ (parseMethodDescriptor yX10_renewBoxes.desc).map (fun d => d.parameters.length) = some 0 := by decide +kernel
theorem mi_X10_ownSources : Cond.instanceMethod yX10_ownSources ∈ gTab := gTab_in (gTb_4 _ (List.mem_of_getElem? (i := 72) rfl)) rfl
theorem ms_X10_ownSources : Cond.selects RX10 yX10_ownSources yX10_ownSources ∈ gTab := gTab_in (List.mem_of_getElem? (i := 27) rfl) rfl
theorem mc_X10_ownSources : Cond.code yX10_ownSources cX10_ownSources 4 (some .int) ∈ gTab := gTab_in (gTb_4 _ (List.mem_of_getElem? (i := 73) rfl)) rfl
theorem mh_X10_ownSources : yX10_ownSources.cls ≠ "java/lang/invoke/MethodHandle" ∧ yX10_ownSources.cls ≠ "java/lang/invoke/VarHandle" ∧ (parseMethodDescriptor yX10_ownSources.desc).map (fun d => d.parameters.length) = some 1 := by decide +kernel
theorem mi_X10_staleBoxes : Cond.instanceMethod yX10_staleBoxes ∈ gTab := gTab_in (gTb_5 _ (List.mem_of_getElem? (i := 31) rfl)) rfl
theorem ms_X10_staleBoxes : Cond.selects RX10 yX10_staleBoxes yX10_staleBoxes ∈ gTab := gTab_in (List.mem_of_getElem? (i := 51) rfl) rfl
theorem mc_X10_staleBoxes : Cond.code yX10_staleBoxes cX10_staleBoxes 3 (some .int) ∈ gTab := gTab_in (gTb_5 _ (List.mem_of_getElem? (i := 32) rfl)) rfl
theorem mh_X10_staleBoxes : yX10_staleBoxes.cls ≠ "java/lang/invoke/MethodHandle" ∧ yX10_staleBoxes.cls ≠ "java/lang/invoke/VarHandle" ∧ (parseMethodDescriptor yX10_staleBoxes.desc).map (fun d => d.parameters.length) = some 0 := by decide +kernel
theorem mi_X10_canBeFixed : Cond.instanceMethod yX10_canBeFixed ∈ gTab := gTab_in (gTb_4 _ (List.mem_of_getElem? (i := 211) rfl)) rfl
theorem ms_X10_canBeFixed : Cond.selects RX10 yX10_canBeFixed yX10_canBeFixed ∈ gTab := gTab_in (List.mem_of_getElem? (i := 45) rfl) rfl
theorem mc_X10_canBeFixed : Cond.code yX10_canBeFixed cX10_canBeFixed 5 (some .boolean) ∈ gTab := gTab_in (gTb_4 _ (List.mem_of_getElem? (i := 212) rfl)) rfl
theorem mh_X10_canBeFixed : yX10_canBeFixed.cls ≠ "java/lang/invoke/MethodHandle" ∧ yX10_canBeFixed.cls ≠ "java/lang/invoke/VarHandle" ∧ (parseMethodDescriptor yX10_canBeFixed.desc).map (fun d => d.parameters.length) = some 3 := by decide +kernel
theorem mi_X10_fitsColumns : Cond.instanceMethod yX10_fitsColumns ∈ gTab := gTab_in (gTb_4 _ (List.mem_of_getElem? (i := 227) rfl)) rfl
theorem ms_X10_fitsColumns : Cond.selects RX10 yX10_fitsColumns yX10_fitsColumns ∈ gTab := gTab_in (List.mem_of_getElem? (i := 46) rfl) rfl
theorem mc_X10_fitsColumns : Cond.code yX10_fitsColumns cX10_fitsColumns 4 (some .boolean) ∈ gTab := gTab_in (gTb_4 _ (List.mem_of_getElem? (i := 228) rfl)) rfl
theorem mh_X10_fitsColumns : yX10_fitsColumns.cls ≠ "java/lang/invoke/MethodHandle" ∧ yX10_fitsColumns.cls ≠ "java/lang/invoke/VarHandle" ∧ (parseMethodDescriptor yX10_fitsColumns.desc).map (fun d => d.parameters.length) = some 1 := by decide +kernel
theorem mi_X11_feed : Cond.instanceMethod yX11_feed ∈ gTab := gTab_in (gTb_6 _ (List.mem_of_getElem? (i := 73) rfl)) rfl
theorem ms_X11_feed : Cond.selects RX11 yX11_feed yX11_feed ∈ gTab := gTab_in (gTb_6 _ (List.mem_of_getElem? (i := 74) rfl)) rfl
theorem mc_X11_feed : Cond.code yX11_feed cX11_feed 6 (some .int) ∈ gTab := gTab_in (gTb_6 _ (List.mem_of_getElem? (i := 75) rfl)) rfl
theorem mh_X11_feed : yX11_feed.cls ≠ "java/lang/invoke/MethodHandle" ∧ yX11_feed.cls ≠ "java/lang/invoke/VarHandle" ∧ (parseMethodDescriptor yX11_feed.desc).map (fun d => d.parameters.length) = some 5 := by decide +kernel
theorem mi_X11_put : Cond.instanceMethod yX11_put ∈ gTab := gTab_in (gTb_6 _ (List.mem_of_getElem? (i := 78) rfl)) rfl
theorem ms_X11_put : Cond.selects RX11 yX11_put yX11_put ∈ gTab := gTab_in (List.mem_of_getElem? (i := 52) rfl) rfl
theorem mc_X11_put : Cond.code yX11_put cX11_put 3 none ∈ gTab := gTab_in (gTb_6 _ (List.mem_of_getElem? (i := 79) rfl)) rfl
theorem mh_X11_put : yX11_put.cls ≠ "java/lang/invoke/MethodHandle" ∧ yX11_put.cls ≠ "java/lang/invoke/VarHandle" ∧ (parseMethodDescriptor yX11_put.desc).map (fun d => d.parameters.length) = some 1 := by decide +kernel
theorem mi_X11_back : Cond.instanceMethod yX11_back ∈ gTab := gTab_in (gTb_6 _ (List.mem_of_getElem? (i := 81) rfl)) rfl
theorem ms_X11_back : Cond.selects RX11 yX11_back yX11_back ∈ gTab := gTab_in (gTb_6 _ (List.mem_of_getElem? (i := 82) rfl)) rfl
theorem mc_X11_back : Cond.code yX11_back cX11_back 2 (some .int) ∈ gTab := gTab_in (gTb_6 _ (List.mem_of_getElem? (i := 83) rfl)) rfl
theorem mh_X11_back : yX11_back.cls ≠ "java/lang/invoke/MethodHandle" ∧ yX11_back.cls ≠ "java/lang/invoke/VarHandle" ∧ (parseMethodDescriptor yX11_back.desc).map (fun d => d.parameters.length) = some 1 := by decide +kernel
theorem mi_X11_at : Cond.instanceMethod yX11_at ∈ gTab := gTab_in (gTb_6 _ (List.mem_of_getElem? (i := 94) rfl)) rfl
theorem ms_X11_at : Cond.selects RX11 yX11_at yX11_at ∈ gTab := gTab_in (List.mem_of_getElem? (i := 54) rfl) rfl
theorem mc_X11_at : Cond.code yX11_at cX11_at 2 (some .int) ∈ gTab := gTab_in (gTb_6 _ (List.mem_of_getElem? (i := 95) rfl)) rfl
theorem mh_X11_at : yX11_at.cls ≠ "java/lang/invoke/MethodHandle" ∧ yX11_at.cls ≠ "java/lang/invoke/VarHandle" ∧ (parseMethodDescriptor yX11_at.desc).map (fun d => d.parameters.length) = some 1 := by decide +kernel
theorem mi_X11_isDigit : Cond.static yX11_isDigit ∈ gTab := gTab_in (gTb_5 _ (List.mem_of_getElem? (i := 48) rfl)) rfl
theorem mc_X11_isDigit : Cond.code yX11_isDigit cX11_isDigit 1 (some .boolean) ∈ gTab := gTab_in (gTb_5 _ (List.mem_of_getElem? (i := 49) rfl)) rfl
theorem mh_X11_isDigit : yX11_isDigit.cls ≠ "java/lang/invoke/MethodHandle" ∧ yX11_isDigit.cls ≠ "java/lang/invoke/VarHandle" ∧ (parseMethodDescriptor yX11_isDigit.desc).map (fun d => d.parameters.length) = some 1 := by decide +kernel
theorem mi_X11_isLetter : Cond.static yX11_isLetter ∈ gTab := gTab_in (gTb_6 _ (List.mem_of_getElem? (i := 101) rfl)) rfl
theorem mc_X11_isLetter : Cond.code yX11_isLetter cX11_isLetter 1 (some .boolean) ∈ gTab := gTab_in (gTb_6 _ (List.mem_of_getElem? (i := 102) rfl)) rfl
theorem mh_X11_isLetter : yX11_isLetter.cls ≠ "java/lang/invoke/MethodHandle" ∧ yX11_isLetter.cls ≠ "java/lang/invoke/VarHandle" ∧ (parseMethodDescriptor yX11_isLetter.desc).map (fun d => d.parameters.length) = some 1 := by decide +kernel
theorem mi_X11_more : Cond.static yX11_more ∈ gTab := gTab_in (gTb_5 _ (List.mem_of_getElem? (i := 44) rfl)) rfl
theorem mc_X11_more : Cond.code yX11_more cX11_more 3 (some .long) ∈ gTab := gTab_in (gTb_5 _ (List.mem_of_getElem? (i := 45) rfl)) rfl
theorem mh_X11_more : yX11_more.cls ≠ "java/lang/invoke/MethodHandle" ∧ yX11_more.cls ≠ "java/lang/invoke/VarHandle" ∧ (parseMethodDescriptor yX11_more.desc).map (fun d => d.parameters.length) = some 2 := by decide +kernel
theorem mi_X11_word : Cond.static yX11_word ∈ gTab := gTab_in (gTb_5 _ (List.mem_of_getElem? (i := 41) rfl)) rfl
theorem mc_X11_word : Cond.code yX11_word cX11_word 6 (some .long) ∈ gTab := gTab_in (gTb_5 _ (List.mem_of_getElem? (i := 42) rfl)) rfl
theorem mh_X11_word : yX11_word.cls ≠ "java/lang/invoke/MethodHandle" ∧ yX11_word.cls ≠ "java/lang/invoke/VarHandle" ∧ (parseMethodDescriptor yX11_word.desc).map (fun d => d.parameters.length) = some 6 := by decide +kernel
theorem mi_X11_token : Cond.instanceMethod yX11_token ∈ gTab := gTab_in (gTb_6 _ (List.mem_of_getElem? (i := 98) rfl)) rfl
theorem ms_X11_token : Cond.selects RX11 yX11_token yX11_token ∈ gTab := gTab_in (List.mem_of_getElem? (i := 55) rfl) rfl
theorem mc_X11_token : Cond.code yX11_token cX11_token 6 none ∈ gTab := gTab_in (gTb_6 _ (List.mem_of_getElem? (i := 99) rfl)) rfl
theorem mh_X11_token : yX11_token.cls ≠ "java/lang/invoke/MethodHandle" ∧ yX11_token.cls ≠ "java/lang/invoke/VarHandle" ∧ (parseMethodDescriptor yX11_token.desc).map (fun d => d.parameters.length) = some 4 := by decide +kernel
theorem mi_X11_cut : Cond.instanceMethod yX11_cut ∈ gTab := gTab_in (gTb_6 _ (List.mem_of_getElem? (i := 90) rfl)) rfl
theorem ms_X11_cut : Cond.selects RX11 yX11_cut yX11_cut ∈ gTab := gTab_in (List.mem_of_getElem? (i := 53) rfl) rfl
theorem mc_X11_cut : Cond.code yX11_cut cX11_cut 8 none ∈ gTab := gTab_in (gTb_6 _ (List.mem_of_getElem? (i := 91) rfl)) rfl
theorem mh_X11_cut : yX11_cut.cls ≠ "java/lang/invoke/MethodHandle" ∧ yX11_cut.cls ≠ "java/lang/invoke/VarHandle" ∧ (parseMethodDescriptor yX11_cut.desc).map (fun d => d.parameters.length) = some 0 := by decide +kernel
theorem mi_X11_is : Cond.instanceMethod yX11_is ∈ gTab := gTab_in (gTb_6 _ (List.mem_of_getElem? (i := 105) rfl)) rfl
theorem ms_X11_is : Cond.selects RX11 yX11_is yX11_is ∈ gTab := gTab_in (List.mem_of_getElem? (i := 56) rfl) rfl
theorem mc_X11_is : Cond.code yX11_is cX11_is 2 (some .boolean) ∈ gTab := gTab_in (gTb_6 _ (List.mem_of_getElem? (i := 106) rfl)) rfl
theorem mh_X11_is : yX11_is.cls ≠ "java/lang/invoke/MethodHandle" ∧ yX11_is.cls ≠ "java/lang/invoke/VarHandle" ∧ (parseMethodDescriptor yX11_is.desc).map (fun d => d.parameters.length) = some 1 := by decide +kernel
theorem mi_X11_fail : Cond.instanceMethod yX11_fail ∈ gTab := gTab_in (gTb_6 _ (List.mem_of_getElem? (i := 113) rfl)) rfl
theorem ms_X11_fail : Cond.selects RX11 yX11_fail yX11_fail ∈ gTab := gTab_in (List.mem_of_getElem? (i := 58) rfl) rfl
theorem mc_X11_fail : Cond.code yX11_fail cX11_fail 2 none ∈ gTab := gTab_in (gTb_6 _ (List.mem_of_getElem? (i := 114) rfl)) rfl
theorem mh_X11_fail : yX11_fail.cls ≠ "java/lang/invoke/MethodHandle" ∧ yX11_fail.cls ≠ "java/lang/invoke/VarHandle" ∧ (parseMethodDescriptor yX11_fail.desc).map (fun d => d.parameters.length) = some 1 := by decide +kernel
theorem mi_X11_wrong : Cond.instanceMethod yX11_wrong ∈ gTab := gTab_in (gTb_6 _ (List.mem_of_getElem? (i := 145) rfl)) rfl
theorem ms_X11_wrong : Cond.selects RX11 yX11_wrong yX11_wrong ∈ gTab := gTab_in (List.mem_of_getElem? (i := 66) rfl) rfl
theorem mc_X11_wrong : Cond.code yX11_wrong cX11_wrong 4 none ∈ gTab := gTab_in (gTb_6 _ (List.mem_of_getElem? (i := 146) rfl)) rfl
theorem mh_X11_wrong : yX11_wrong.cls ≠ "java/lang/invoke/MethodHandle" ∧ yX11_wrong.cls ≠ "java/lang/invoke/VarHandle" ∧ (parseMethodDescriptor yX11_wrong.desc).map (fun d => d.parameters.length) = some 2 := by decide +kernel
theorem mi_X11_next : Cond.instanceMethod yX11_next ∈ gTab := gTab_in (gTb_6 _ (List.mem_of_getElem? (i := 117) rfl)) rfl
theorem ms_X11_next : Cond.selects RX11 yX11_next yX11_next ∈ gTab := gTab_in (List.mem_of_getElem? (i := 59) rfl) rfl
theorem mc_X11_next : Cond.code yX11_next cX11_next 1 none ∈ gTab := gTab_in (gTb_6 _ (List.mem_of_getElem? (i := 118) rfl)) rfl
theorem mh_X11_next : yX11_next.cls ≠ "java/lang/invoke/MethodHandle" ∧ yX11_next.cls ≠ "java/lang/invoke/VarHandle" ∧ (parseMethodDescriptor yX11_next.desc).map (fun d => d.parameters.length) = some 0 := by decide +kernel
theorem mi_X11_must : Cond.instanceMethod yX11_must ∈ gTab := gTab_in (gTb_6 _ (List.mem_of_getElem? (i := 121) rfl)) rfl
theorem ms_X11_must : Cond.selects RX11 yX11_must yX11_must ∈ gTab := gTab_in (List.mem_of_getElem? (i := 60) rfl) rfl
theorem mc_X11_must : Cond.code yX11_must cX11_must 2 none ∈ gTab := gTab_in (gTb_6 _ (List.mem_of_getElem? (i := 122) rfl)) rfl
theorem mh_X11_must : yX11_must.cls ≠ "java/lang/invoke/MethodHandle" ∧ yX11_must.cls ≠ "java/lang/invoke/VarHandle" ∧ (parseMethodDescriptor yX11_must.desc).map (fun d => d.parameters.length) = some 1 := by decide +kernel
theorem mi_X11_read : Cond.instanceMethod yX11_read ∈ gTab := gTab_in (gTb_6 _ (List.mem_of_getElem? (i := 85) rfl)) rfl
theorem ms_X11_read : Cond.selects RX11 yX11_read yX11_read ∈ gTab := gTab_in (gTb_6 _ (List.mem_of_getElem? (i := 86) rfl)) rfl
theorem mc_X11_read : Cond.code yX11_read cX11_read 3 (some .int) ∈ gTab := gTab_in (gTb_6 _ (List.mem_of_getElem? (i := 87) rfl)) rfl
theorem mh_X11_read : yX11_read.cls ≠ "java/lang/invoke/MethodHandle" ∧ yX11_read.cls ≠ "java/lang/invoke/VarHandle" ∧ (parseMethodDescriptor yX11_read.desc).map (fun d => d.parameters.length) = some 0 := by decide +kernel
theorem mi_X11_place : Cond.instanceMethod yX11_place ∈ gTab := gTab_in (gTb_6 _ (List.mem_of_getElem? (i := 164) rfl)) rfl
theorem ms_X11_place : Cond.selects RX11 yX11_place yX11_place ∈ gTab := gTab_in (gTb_6 _ (List.mem_of_getElem? (i := 165) rfl)) rfl
theorem mc_X11_place : Cond.code yX11_place cX11_place 1 (some .int) ∈ gTab := gTab_in (gTb_6 _ (List.mem_of_getElem? (i := 166) rfl)) rfl
theorem mh_X11_place : yX11_place.cls ≠ "java/lang/invoke/MethodHandle" ∧ yX11_place.cls ≠ "java/lang/invoke/VarHandle" ∧ (parseMethodDescriptor yX11_place.desc).map (fun d => d.parameters.length) = some 0 := by decide +kernel
theorem mi_X11_told : Cond.instanceMethod yX11_told ∈ gTab := gTab_in (gTb_6 _ (List.mem_of_getElem? (i := 157) rfl)) rfl
theorem ms_X11_told : Cond.selects RX11 yX11_told yX11_told ∈ gTab := gTab_in (List.mem_of_getElem? (i := 69) rfl) rfl
theorem mc_X11_told : Cond.code yX11_told cX11_told 4 none ∈ gTab := gTab_in (gTb_6 _ (List.mem_of_getElem? (i := 158) rfl)) rfl
theorem mh_X11_told : yX11_told.cls ≠ "java/lang/invoke/MethodHandle" ∧ yX11_told.cls ≠ "java/lang/invoke/VarHandle" ∧ (parseMethodDescriptor yX11_told.desc).map (fun d => d.parameters.length) = some 1 := by decide +kernel
theorem mi_X11_sourceOf : Cond.instanceMethod yX11_sourceOf ∈ gTab := gTab_in (gTb_6 _ (List.mem_of_getElem? (i := 141) rfl)) rfl
theorem ms_X11_sourceOf : Cond.selects RX11 yX11_sourceOf yX11_sourceOf ∈ gTab := gTab_in (List.mem_of_getElem? (i := 65) rfl) rfl
theorem mc_X11_sourceOf : Cond.code yX11_sourceOf cX11_sourceOf 3 (some .int) ∈ gTab := gTab_in (gTb_6 _ (List.mem_of_getElem? (i := 142) rfl)) rfl
theorem mh_X11_sourceOf : yX11_sourceOf.cls ≠ "java/lang/invoke/MethodHandle" ∧ yX11_sourceOf.cls ≠ "java/lang/invoke/VarHandle" ∧ (parseMethodDescriptor yX11_sourceOf.desc).map (fun d => d.parameters.length) = some 1 := by decide +kernel
theorem mi_X11_inRange : Cond.instanceMethod yX11_inRange ∈ gTab := gTab_in (gTb_6 _ (List.mem_of_getElem? (i := 161) rfl)) rfl
theorem ms_X11_inRange : Cond.selects RX11 yX11_inRange yX11_inRange ∈ gTab := gTab_in (List.mem_of_getElem? (i := 70) rfl) rfl
theorem mc_X11_inRange : Cond.code yX11_inRange cX11_inRange 4 (some .int) ∈ gTab := gTab_in (gTb_6 _ (List.mem_of_getElem? (i := 162) rfl)) rfl
theorem mh_X11_inRange : yX11_inRange.cls ≠ "java/lang/invoke/MethodHandle" ∧ yX11_inRange.cls ≠ "java/lang/invoke/VarHandle" ∧ (parseMethodDescriptor yX11_inRange.desc).map (fun d => d.parameters.length) = some 2 := by decide +kernel
theorem mi_X11_tell : Cond.instanceMethod yX11_tell ∈ gTab := gTab_in (gTb_6 _ (List.mem_of_getElem? (i := 109) rfl)) rfl
theorem ms_X11_tell : Cond.selects RX11 yX11_tell yX11_tell ∈ gTab := gTab_in (List.mem_of_getElem? (i := 57) rfl) rfl
theorem mc_X11_tell : Cond.code yX11_tell cX11_tell 8 none ∈ gTab := gTab_in (gTb_6 _ (List.mem_of_getElem? (i := 110) rfl)) rfl
theorem mh_X11_tell : yX11_tell.cls ≠ "java/lang/invoke/MethodHandle" ∧ yX11_tell.cls ≠ "java/lang/invoke/VarHandle" ∧ (parseMethodDescriptor yX11_tell.desc).map (fun d => d.parameters.length) = some 0 := by decide +kernel
theorem mi_X11_emit : Cond.instanceMethod yX11_emit ∈ gTab := gTab_in (gTb_6 _ (List.mem_of_getElem? (i := 133) rfl)) rfl
theorem ms_X11_emit : Cond.selects RX11 yX11_emit yX11_emit ∈ gTab := gTab_in (List.mem_of_getElem? (i := 63) rfl) rfl
theorem mc_X11_emit : Cond.code yX11_emit cX11_emit 3 none ∈ gTab := gTab_in (gTb_6 _ (List.mem_of_getElem? (i := 134) rfl)) rfl
theorem mh_X11_emit : yX11_emit.cls ≠ "java/lang/invoke/MethodHandle" ∧ yX11_emit.cls ≠ "java/lang/invoke/VarHandle" ∧ (parseMethodDescriptor yX11_emit.desc).map (fun d => d.parameters.length) = some 2 := by decide +kernel
theorem mi_X11_named : Cond.instanceMethod yX11_named ∈ gTab := gTab_in (gTb_6 _ (List.mem_of_getElem? (i := 137) rfl)) rfl
theorem ms_X11_named : Cond.selects RX11 yX11_named yX11_named ∈ gTab := gTab_in (List.mem_of_getElem? (i := 64) rfl) rfl
theorem mc_X11_named : Cond.code yX11_named cX11_named 4 none ∈ gTab := gTab_in (gTb_6 _ (List.mem_of_getElem? (i := 138) rfl)) rfl
theorem mh_X11_named : yX11_named.cls ≠ "java/lang/invoke/MethodHandle" ∧ yX11_named.cls ≠ "java/lang/invoke/VarHandle" ∧ (parseMethodDescriptor yX11_named.desc).map (fun d => d.parameters.length) = some 1 := by decide +kernel
theorem mi_X11_comesOut : Cond.instanceMethod yX11_comesOut ∈ gTab := gTab_in (gTb_6 _ (List.mem_of_getElem? (i := 153) rfl)) rfl
theorem ms_X11_comesOut : Cond.selects RX11 yX11_comesOut yX11_comesOut ∈ gTab := gTab_in (List.mem_of_getElem? (i := 68) rfl) rfl
theorem mc_X11_comesOut : Cond.code yX11_comesOut cX11_comesOut 3 none ∈ gTab := gTab_in (gTb_6 _ (List.mem_of_getElem? (i := 154) rfl)) rfl
theorem mh_X11_comesOut : yX11_comesOut.cls ≠ "java/lang/invoke/MethodHandle" ∧ yX11_comesOut.cls ≠ "java/lang/invoke/VarHandle" ∧ (parseMethodDescriptor yX11_comesOut.desc).map (fun d => d.parameters.length) = some 1 := by decide +kernel
theorem mi_X11_opens : Cond.instanceMethod yX11_opens ∈ gTab := gTab_in (gTb_6 _ (List.mem_of_getElem? (i := 129) rfl)) rfl
theorem ms_X11_opens : Cond.selects RX11 yX11_opens yX11_opens ∈ gTab := gTab_in (List.mem_of_getElem? (i := 62) rfl) rfl
theorem mc_X11_opens : Cond.code yX11_opens cX11_opens 2 none ∈ gTab := gTab_in (gTb_6 _ (List.mem_of_getElem? (i := 130) rfl)) rfl
theorem mh_X11_opens : yX11_opens.cls ≠ "java/lang/invoke/MethodHandle" ∧ yX11_opens.cls ≠ "java/lang/invoke/VarHandle" ∧ (parseMethodDescriptor yX11_opens.desc).map (fun d => d.parameters.length) = some 1 := by decide +kernel
theorem mi_X11_inner : Cond.instanceMethod yX11_inner ∈ gTab := gTab_in (gTb_6 _ (List.mem_of_getElem? (i := 149) rfl)) rfl
theorem ms_X11_inner : Cond.selects RX11 yX11_inner yX11_inner ∈ gTab := gTab_in (List.mem_of_getElem? (i := 67) rfl) rfl
theorem mc_X11_inner : Cond.code yX11_inner cX11_inner 2 (some .int) ∈ gTab := gTab_in (gTb_6 _ (List.mem_of_getElem? (i := 150) rfl)) rfl
theorem mh_X11_inner : yX11_inner.cls ≠ "java/lang/invoke/MethodHandle" ∧ yX11_inner.cls ≠ "java/lang/invoke/VarHandle" ∧ (parseMethodDescriptor yX11_inner.desc).map (fun d => d.parameters.length) = some 0 := by decide +kernel
theorem mi_X11_expression : Cond.instanceMethod yX11_expression ∈ gTab := gTab_in (gTb_6 _ (List.mem_of_getElem? (i := 125) rfl)) rfl
theorem ms_X11_expression : Cond.selects RX11 yX11_expression yX11_expression ∈ gTab := gTab_in (List.mem_of_getElem? (i := 61) rfl) rfl
theorem mc_X11_expression : Cond.code yX11_expression cX11_expression 3 none ∈ gTab := gTab_in (gTb_6 _ (List.mem_of_getElem? (i := 126) rfl)) rfl
theorem mh_X11_expression : yX11_expression.cls ≠ "java/lang/invoke/MethodHandle" ∧ yX11_expression.cls ≠ "java/lang/invoke/VarHandle" ∧ (parseMethodDescriptor yX11_expression.desc).map (fun d => d.parameters.length) = some 0 := by decide +kernel
theorem mi_X11_isSource : Cond.static yX11_isSource ∈ gTab := gTab_in (gTb_6 _ (List.mem_of_getElem? (i := 172) rfl)) rfl
theorem mc_X11_isSource : Cond.code yX11_isSource cX11_isSource 1 (some .boolean) ∈ gTab := gTab_in (gTb_6 _ (List.mem_of_getElem? (i := 173) rfl)) rfl
theorem mh_X11_isSource : yX11_isSource.cls ≠ "java/lang/invoke/MethodHandle" ∧ yX11_isSource.cls ≠ "java/lang/invoke/VarHandle" ∧ (parseMethodDescriptor yX11_isSource.desc).map (fun d => d.parameters.length) = some 1 := by decide +kernel
theorem mi_X11_isBox : Cond.instanceMethod yX11_isBox ∈ gTab := gTab_in (gTb_6 _ (List.mem_of_getElem? (i := 216) rfl)) rfl
theorem ms_X11_isBox : Cond.selects RX11 yX11_isBox yX11_isBox ∈ gTab := gTab_in (List.mem_of_getElem? (i := 75) rfl) rfl
theorem mc_X11_isBox : Cond.code yX11_isBox cX11_isBox 2 (some .boolean) ∈ gTab := gTab_in (gTb_6 _ (List.mem_of_getElem? (i := 217) rfl)) rfl
theorem mh_X11_isBox : yX11_isBox.cls ≠ "java/lang/invoke/MethodHandle" ∧ yX11_isBox.cls ≠ "java/lang/invoke/VarHandle" ∧ (parseMethodDescriptor yX11_isBox.desc).map (fun d => d.parameters.length) = some 1 := by decide +kernel
theorem mi_X11_cost : Cond.instanceMethod yX11_cost ∈ gTab := gTab_in (gTb_6 _ (List.mem_of_getElem? (i := 168) rfl)) rfl
theorem ms_X11_cost : Cond.selects RX11 yX11_cost yX11_cost ∈ gTab := gTab_in (gTb_6 _ (List.mem_of_getElem? (i := 169) rfl)) rfl
theorem mc_X11_cost : Cond.code yX11_cost cX11_cost 3 (some .boolean) ∈ gTab := gTab_in (gTb_6 _ (List.mem_of_getElem? (i := 170) rfl)) rfl
theorem mh_X11_cost : yX11_cost.cls ≠ "java/lang/invoke/MethodHandle" ∧ yX11_cost.cls ≠ "java/lang/invoke/VarHandle" ∧ (parseMethodDescriptor yX11_cost.desc).map (fun d => d.parameters.length) = some 2 := by decide +kernel
theorem mi_X11_budget : Cond.instanceMethod yX11_budget ∈ gTab := gTab_in (gTb_6 _ (List.mem_of_getElem? (i := 175) rfl)) rfl
theorem ms_X11_budget : Cond.selects RX11 yX11_budget yX11_budget ∈ gTab := gTab_in (gTb_6 _ (List.mem_of_getElem? (i := 176) rfl)) rfl
theorem mc_X11_budget : Cond.code yX11_budget cX11_budget 2 (some .boolean) ∈ gTab := gTab_in (gTb_6 _ (List.mem_of_getElem? (i := 177) rfl)) rfl
theorem mh_X11_budget : yX11_budget.cls ≠ "java/lang/invoke/MethodHandle" ∧ yX11_budget.cls ≠ "java/lang/invoke/VarHandle" ∧ (parseMethodDescriptor yX11_budget.desc).map (fun d => d.parameters.length) = some 1 := by decide +kernel
theorem mi_X11_value : Cond.instanceMethod yX11_value ∈ gTab := gTab_in (gTb_6 _ (List.mem_of_getElem? (i := 179) rfl)) rfl
theorem ms_X11_value : Cond.selects RX11 yX11_value yX11_value ∈ gTab := gTab_in (gTb_6 _ (List.mem_of_getElem? (i := 180) rfl)) rfl
theorem mc_X11_value : Cond.code yX11_value cX11_value 4 (some .int) ∈ gTab := gTab_in (gTb_6 _ (List.mem_of_getElem? (i := 181) rfl)) rfl
theorem mh_X11_value : yX11_value.cls ≠ "java/lang/invoke/MethodHandle" ∧ yX11_value.cls ≠ "java/lang/invoke/VarHandle" ∧ (parseMethodDescriptor yX11_value.desc).map (fun d => d.parameters.length) = some 3 := by decide +kernel
theorem mi_X11_down : Cond.instanceMethod yX11_down ∈ gTab := gTab_in (gTb_6 _ (List.mem_of_getElem? (i := 183) rfl)) rfl
theorem ms_X11_down : Cond.selects RX11 yX11_down yX11_down ∈ gTab := gTab_in (gTb_6 _ (List.mem_of_getElem? (i := 184) rfl)) rfl
theorem mc_X11_down : Cond.code yX11_down cX11_down 4 (some .boolean) ∈ gTab := gTab_in (gTb_6 _ (List.mem_of_getElem? (i := 185) rfl)) rfl
theorem mh_X11_down : yX11_down.cls ≠ "java/lang/invoke/MethodHandle" ∧ yX11_down.cls ≠ "java/lang/invoke/VarHandle" ∧ (parseMethodDescriptor yX11_down.desc).map (fun d => d.parameters.length) = some 3 := by decide +kernel
theorem mi_X11_downAt : Cond.instanceMethod yX11_downAt ∈ gTab := gTab_in (gTb_6 _ (List.mem_of_getElem? (i := 196) rfl)) rfl
theorem ms_X11_downAt : Cond.selects RX11 yX11_downAt yX11_downAt ∈ gTab := gTab_in (List.mem_of_getElem? (i := 72) rfl) rfl
theorem mc_X11_downAt : Cond.code yX11_downAt cX11_downAt 4 (some .int) ∈ gTab := gTab_in (gTb_6 _ (List.mem_of_getElem? (i := 197) rfl)) rfl
theorem mh_X11_downAt : yX11_downAt.cls ≠ "java/lang/invoke/MethodHandle" ∧ yX11_downAt.cls ≠ "java/lang/invoke/VarHandle" ∧ (parseMethodDescriptor yX11_downAt.desc).map (fun d => d.parameters.length) = some 1 := by decide +kernel
theorem mi_X11_costs : Cond.instanceMethod yX11_costs ∈ gTab := gTab_in (gTb_6 _ (List.mem_of_getElem? (i := 192) rfl)) rfl
theorem ms_X11_costs : Cond.selects RX11 yX11_costs yX11_costs ∈ gTab := gTab_in (List.mem_of_getElem? (i := 71) rfl) rfl
theorem mc_X11_costs : Cond.code yX11_costs cX11_costs 4 (some .int) ∈ gTab := gTab_in (gTb_6 _ (List.mem_of_getElem? (i := 193) rfl)) rfl
theorem mh_X11_costs : yX11_costs.cls ≠ "java/lang/invoke/MethodHandle" ∧ yX11_costs.cls ≠ "java/lang/invoke/VarHandle" ∧ (parseMethodDescriptor yX11_costs.desc).map (fun d => d.parameters.length) = some 1 := by decide +kernel
theorem mi_X11_reckons : Cond.instanceMethod yX11_reckons ∈ gTab := gTab_in (gTb_6 _ (List.mem_of_getElem? (i := 200) rfl)) rfl
theorem ms_X11_reckons : Cond.selects RX11 yX11_reckons yX11_reckons ∈ gTab := gTab_in (List.mem_of_getElem? (i := 73) rfl) rfl
theorem mc_X11_reckons : Cond.code yX11_reckons cX11_reckons 4 none ∈ gTab := gTab_in (gTb_6 _ (List.mem_of_getElem? (i := 201) rfl)) rfl
theorem mh_X11_reckons : yX11_reckons.cls ≠ "java/lang/invoke/MethodHandle" ∧ yX11_reckons.cls ≠ "java/lang/invoke/VarHandle" ∧ (parseMethodDescriptor yX11_reckons.desc).map (fun d => d.parameters.length) = some 0 := by decide +kernel
theorem mi_X11_term : Cond.instanceMethod yX11_term ∈ gTab := gTab_in (gTb_6 _ (List.mem_of_getElem? (i := 204) rfl)) rfl
theorem ms_X11_term : Cond.selects RX11 yX11_term yX11_term ∈ gTab := gTab_in (List.mem_of_getElem? (i := 74) rfl) rfl
theorem mc_X11_term : Cond.code yX11_term cX11_term 10 (some .long) ∈ gTab := gTab_in (gTb_6 _ (List.mem_of_getElem? (i := 205) rfl)) rfl
theorem mh_X11_term : yX11_term.cls ≠ "java/lang/invoke/MethodHandle" ∧ yX11_term.cls ≠ "java/lang/invoke/VarHandle" ∧ (parseMethodDescriptor yX11_term.desc).map (fun d => d.parameters.length) = some 2 := by decide +kernel
theorem mi_X11_ask : Cond.instanceMethod yX11_ask ∈ gTab := gTab_in (gTb_6 _ (List.mem_of_getElem? (i := 187) rfl)) rfl
theorem ms_X11_ask : Cond.selects RX11 yX11_ask yX11_ask ∈ gTab := gTab_in (gTb_6 _ (List.mem_of_getElem? (i := 188) rfl)) rfl
theorem mc_X11_ask : Cond.code yX11_ask cX11_ask 6 (some .int) ∈ gTab := gTab_in (gTb_6 _ (List.mem_of_getElem? (i := 189) rfl)) rfl
theorem mh_X11_ask : yX11_ask.cls ≠ "java/lang/invoke/MethodHandle" ∧ yX11_ask.cls ≠ "java/lang/invoke/VarHandle" ∧ (parseMethodDescriptor yX11_ask.desc).map (fun d => d.parameters.length) = some 1 := by decide +kernel
theorem mi_X11_tick : Cond.instanceMethod yX11_tick ∈ gTab := gTab_in (gTb_6 _ (List.mem_of_getElem? (i := 207) rfl)) rfl
theorem ms_X11_tick : Cond.selects RX11 yX11_tick yX11_tick ∈ gTab := gTab_in (gTb_6 _ (List.mem_of_getElem? (i := 208) rfl)) rfl
theorem mc_X11_tick : Cond.code yX11_tick cX11_tick 2 (some .int) ∈ gTab := gTab_in (gTb_6 _ (List.mem_of_getElem? (i := 209) rfl)) rfl
theorem mh_X11_tick : yX11_tick.cls ≠ "java/lang/invoke/MethodHandle" ∧ yX11_tick.cls ≠ "java/lang/invoke/VarHandle" ∧ (parseMethodDescriptor yX11_tick.desc).map (fun d => d.parameters.length) = some 0 := by decide +kernel
theorem mi_X11_look : Cond.instanceMethod yX11_look ∈ gTab := gTab_in (gTb_6 _ (List.mem_of_getElem? (i := 211) rfl)) rfl
theorem ms_X11_look : Cond.selects RX11 yX11_look yX11_look ∈ gTab := gTab_in (gTb_6 _ (List.mem_of_getElem? (i := 212) rfl)) rfl
theorem mc_X11_look : Cond.code yX11_look cX11_look 2 (some .boolean) ∈ gTab := gTab_in (gTb_6 _ (List.mem_of_getElem? (i := 213) rfl)) rfl
theorem mh_X11_look : yX11_look.cls ≠ "java/lang/invoke/MethodHandle" ∧ yX11_look.cls ≠ "java/lang/invoke/VarHandle" ∧ (parseMethodDescriptor yX11_look.desc).map (fun d => d.parameters.length) = some 1 := by decide +kernel
theorem mi_X11_shows : Cond.instanceMethod yX11_shows ∈ gTab := gTab_in (gTb_6 _ (List.mem_of_getElem? (i := 219) rfl)) rfl
theorem ms_X11_shows : Cond.selects RX11 yX11_shows yX11_shows ∈ gTab := gTab_in (gTb_6 _ (List.mem_of_getElem? (i := 220) rfl)) rfl
theorem mc_X11_shows : Cond.code yX11_shows cX11_shows 2 (some .long) ∈ gTab := gTab_in (gTb_6 _ (List.mem_of_getElem? (i := 221) rfl)) rfl
theorem mh_X11_shows : yX11_shows.cls ≠ "java/lang/invoke/MethodHandle" ∧ yX11_shows.cls ≠ "java/lang/invoke/VarHandle" ∧ (parseMethodDescriptor yX11_shows.desc).map (fun d => d.parameters.length) = some 1 := by decide +kernel
theorem mi_X11_showed : Cond.instanceMethod yX11_showed ∈ gTab := gTab_in (gTb_6 _ (List.mem_of_getElem? (i := 223) rfl)) rfl
theorem ms_X11_showed : Cond.selects RX11 yX11_showed yX11_showed ∈ gTab := gTab_in (gTb_6 _ (List.mem_of_getElem? (i := 224) rfl)) rfl
theorem mc_X11_showed : Cond.code yX11_showed cX11_showed 3 (some .long) ∈ gTab := gTab_in (gTb_6 _ (List.mem_of_getElem? (i := 225) rfl)) rfl
theorem mh_X11_showed : yX11_showed.cls ≠ "java/lang/invoke/MethodHandle" ∧ yX11_showed.cls ≠ "java/lang/invoke/VarHandle" ∧ (parseMethodDescriptor yX11_showed.desc).map (fun d => d.parameters.length) = some 2 := by decide +kernel
theorem mi_X11_aged : Cond.instanceMethod yX11_aged ∈ gTab := gTab_in (gTb_6 _ (List.mem_of_getElem? (i := 227) rfl)) rfl
theorem ms_X11_aged : Cond.selects RX11 yX11_aged yX11_aged ∈ gTab := gTab_in (gTb_6 _ (List.mem_of_getElem? (i := 228) rfl)) rfl
theorem mc_X11_aged : Cond.code yX11_aged cX11_aged 4 (some .int) ∈ gTab := gTab_in (gTb_6 _ (List.mem_of_getElem? (i := 229) rfl)) rfl
theorem mh_X11_aged : yX11_aged.cls ≠ "java/lang/invoke/MethodHandle" ∧ yX11_aged.cls ≠ "java/lang/invoke/VarHandle" ∧ (parseMethodDescriptor yX11_aged.desc).map (fun d => d.parameters.length) = some 2 := by decide +kernel
theorem mi_X11_isStale : Cond.instanceMethod yX11_isStale ∈ gTab := gTab_in (gTb_6 _ (List.mem_of_getElem? (i := 236) rfl)) rfl
theorem ms_X11_isStale : Cond.selects RX11 yX11_isStale yX11_isStale ∈ gTab := gTab_in (List.mem_of_getElem? (i := 76) rfl) rfl
theorem mc_X11_isStale : Cond.code yX11_isStale cX11_isStale 2 (some .boolean) ∈ gTab := gTab_in (gTb_6 _ (List.mem_of_getElem? (i := 237) rfl)) rfl
theorem mh_X11_isStale : yX11_isStale.cls ≠ "java/lang/invoke/MethodHandle" ∧ yX11_isStale.cls ≠ "java/lang/invoke/VarHandle" ∧ (parseMethodDescriptor yX11_isStale.desc).map (fun d => d.parameters.length) = some 1 := by decide +kernel
theorem mi_X11_box : Cond.instanceMethod yX11_box ∈ gTab := gTab_in (gTb_6 _ (List.mem_of_getElem? (i := 231) rfl)) rfl
theorem ms_X11_box : Cond.selects RX11 yX11_box yX11_box ∈ gTab := gTab_in (gTb_6 _ (List.mem_of_getElem? (i := 232) rfl)) rfl
theorem mc_X11_box : Cond.code yX11_box cX11_box 6 (some .int) ∈ gTab := gTab_in (gTb_6 _ (List.mem_of_getElem? (i := 233) rfl)) rfl
theorem mh_X11_box : yX11_box.cls ≠ "java/lang/invoke/MethodHandle" ∧ yX11_box.cls ≠ "java/lang/invoke/VarHandle" ∧ (parseMethodDescriptor yX11_box.desc).map (fun d => d.parameters.length) = some 2 := by decide +kernel
theorem mi_X11_let : Cond.instanceMethod yX11_let ∈ gTab := gTab_in (gTb_6 _ (List.mem_of_getElem? (i := 239) rfl)) rfl
theorem ms_X11_let : Cond.selects RX11 yX11_let yX11_let ∈ gTab := gTab_in (gTb_7 _ (List.mem_of_getElem? (i := 0) rfl)) rfl
theorem mc_X11_let : Cond.code yX11_let cX11_let 2 (some .long) ∈ gTab := gTab_in (gTb_7 _ (List.mem_of_getElem? (i := 1) rfl)) rfl
theorem mh_X11_let : yX11_let.cls ≠ "java/lang/invoke/MethodHandle" ∧ yX11_let.cls ≠ "java/lang/invoke/VarHandle" ∧ (parseMethodDescriptor yX11_let.desc).map (fun d => d.parameters.length) = some 1 := by decide +kernel
theorem mi_X11_ages : Cond.instanceMethod yX11_ages ∈ gTab := gTab_in (gTb_7 _ (List.mem_of_getElem? (i := 39) rfl)) rfl
theorem ms_X11_ages : Cond.selects RX11 yX11_ages yX11_ages ∈ gTab := gTab_in (List.mem_of_getElem? (i := 84) rfl) rfl
theorem mc_X11_ages : Cond.code yX11_ages cX11_ages 8 (some .int) ∈ gTab := gTab_in (gTb_7 _ (List.mem_of_getElem? (i := 40) rfl)) rfl
theorem mh_X11_ages : yX11_ages.cls ≠ "java/lang/invoke/MethodHandle" ∧ yX11_ages.cls ≠ "java/lang/invoke/VarHandle" ∧ (parseMethodDescriptor yX11_ages.desc).map (fun d => d.parameters.length) = some 3 := by decide +kernel
theorem mi_X11_reckonsBack : Cond.instanceMethod yX11_reckonsBack ∈ gTab := gTab_in (gTb_7 _ (List.mem_of_getElem? (i := 23) rfl)) rfl
theorem ms_X11_reckonsBack : Cond.selects RX11 yX11_reckonsBack yX11_reckonsBack ∈ gTab := gTab_in (List.mem_of_getElem? (i := 80) rfl) rfl
theorem mc_X11_reckonsBack : Cond.code yX11_reckonsBack cX11_reckonsBack 5 (some .int) ∈ gTab := gTab_in (gTb_7 _ (List.mem_of_getElem? (i := 24) rfl)) rfl
theorem mh_X11_reckonsBack : yX11_reckonsBack.cls ≠ "java/lang/invoke/MethodHandle" ∧ yX11_reckonsBack.cls ≠ "java/lang/invoke/VarHandle" ∧ (parseMethodDescriptor yX11_reckonsBack.desc).map (fun d => d.parameters.length) = some 1 := by decide +kernel
theorem mi_X11_offers : Cond.instanceMethod yX11_offers ∈ gTab := gTab_in (gTb_7 _ (List.mem_of_getElem? (i := 31) rfl)) rfl
theorem ms_X11_offers : Cond.selects RX11 yX11_offers yX11_offers ∈ gTab := gTab_in (List.mem_of_getElem? (i := 82) rfl) rfl
theorem mc_X11_offers : Cond.code yX11_offers cX11_offers 6 none ∈ gTab := gTab_in (gTb_7 _ (List.mem_of_getElem? (i := 32) rfl)) rfl
theorem mh_X11_offers : yX11_offers.cls ≠ "java/lang/invoke/MethodHandle" ∧ yX11_offers.cls ≠ "java/lang/invoke/VarHandle" ∧ (parseMethodDescriptor yX11_offers.desc).map (fun d => d.parameters.length) = some 1 := by decide +kernel
theorem mi_X11_meets : Cond.instanceMethod yX11_meets ∈ gTab := gTab_in (gTb_7 _ (List.mem_of_getElem? (i := 35) rfl)) rfl
theorem ms_X11_meets : Cond.selects RX11 yX11_meets yX11_meets ∈ gTab := gTab_in (List.mem_of_getElem? (i := 83) rfl) rfl
theorem mc_X11_meets : Cond.code yX11_meets cX11_meets 5 none ∈ gTab := gTab_in (gTb_7 _ (List.mem_of_getElem? (i := 36) rfl)) rfl
theorem mh_X11_meets : yX11_meets.cls ≠ "java/lang/invoke/MethodHandle" ∧ yX11_meets.cls ≠ "java/lang/invoke/VarHandle" ∧ (parseMethodDescriptor yX11_meets.desc).map (fun d => d.parameters.length) = some 2 := by decide +kernel
theorem mi_X11_settles : Cond.instanceMethod yX11_settles ∈ gTab := gTab_in (gTb_7 _ (List.mem_of_getElem? (i := 43) rfl)) rfl
theorem ms_X11_settles : Cond.selects RX11 yX11_settles yX11_settles ∈ gTab := gTab_in (List.mem_of_getElem? (i := 85) rfl) rfl
theorem mc_X11_settles : Cond.code yX11_settles cX11_settles 7 none ∈ gTab := gTab_in (gTb_7 _ (List.mem_of_getElem? (i := 44) rfl)) rfl
theorem mh_X11_settles : yX11_settles.cls ≠ "java/lang/invoke/MethodHandle" ∧ yX11_settles.cls ≠ "java/lang/invoke/VarHandle" ∧ (parseMethodDescriptor yX11_settles.desc).map (fun d => d.parameters.length) = some 2 := by decide +kernel
theorem mi_X11_begins : Cond.instanceMethod yX11_begins ∈ gTab := gTab_in (gTb_7 _ (List.mem_of_getElem? (i := 27) rfl)) rfl
theorem ms_X11_begins : Cond.selects RX11 yX11_begins yX11_begins ∈ gTab := gTab_in (List.mem_of_getElem? (i := 81) rfl) rfl
theorem mc_X11_begins : Cond.code yX11_begins cX11_begins 5 (some .int) ∈ gTab := gTab_in (gTb_7 _ (List.mem_of_getElem? (i := 28) rfl)) rfl
theorem mh_X11_begins : yX11_begins.cls ≠ "java/lang/invoke/MethodHandle" ∧ yX11_begins.cls ≠ "java/lang/invoke/VarHandle" ∧ (parseMethodDescriptor yX11_begins.desc).map (fun d => d.parameters.length) = some 0 := by decide +kernel
theorem mi_X11_bits : Cond.static yX11_bits ∈ gTab := gTab_in (gTb_7 _ (List.mem_of_getElem? (i := 7) rfl)) rfl
theorem mc_X11_bits : Cond.code yX11_bits cX11_bits 3 (some .int) ∈ gTab := gTab_in (gTb_7 _ (List.mem_of_getElem? (i := 8) rfl)) rfl
theorem mh_X11_bits : yX11_bits.cls ≠ "java/lang/invoke/MethodHandle" ∧ yX11_bits.cls ≠ "java/lang/invoke/VarHandle" ∧ (parseMethodDescriptor yX11_bits.desc).map (fun d => d.parameters.length) = some 1 := by decide +kernel
theorem mi_X11_worthOf : Cond.instanceMethod yX11_worthOf ∈ gTab := gTab_in (gTb_7 _ (List.mem_of_getElem? (i := 15) rfl)) rfl
theorem ms_X11_worthOf : Cond.selects RX11 yX11_worthOf yX11_worthOf ∈ gTab := gTab_in (List.mem_of_getElem? (i := 78) rfl) rfl
theorem mc_X11_worthOf : Cond.code yX11_worthOf cX11_worthOf 4 (some .int) ∈ gTab := gTab_in (gTb_7 _ (List.mem_of_getElem? (i := 16) rfl)) rfl
theorem mh_X11_worthOf : yX11_worthOf.cls ≠ "java/lang/invoke/MethodHandle" ∧ yX11_worthOf.cls ≠ "java/lang/invoke/VarHandle" ∧ (parseMethodDescriptor yX11_worthOf.desc).map (fun d => d.parameters.length) = some 1 := by decide +kernel
theorem mi_X11_isAhead : Cond.instanceMethod yX11_isAhead ∈ gTab := gTab_in (gTb_7 _ (List.mem_of_getElem? (i := 11) rfl)) rfl
theorem ms_X11_isAhead : Cond.selects RX11 yX11_isAhead yX11_isAhead ∈ gTab := gTab_in (List.mem_of_getElem? (i := 77) rfl) rfl
theorem mc_X11_isAhead : Cond.code yX11_isAhead cX11_isAhead 4 (some .boolean) ∈ gTab := gTab_in (gTb_7 _ (List.mem_of_getElem? (i := 12) rfl)) rfl
theorem mh_X11_isAhead : yX11_isAhead.cls ≠ "java/lang/invoke/MethodHandle" ∧ yX11_isAhead.cls ≠ "java/lang/invoke/VarHandle" ∧ (parseMethodDescriptor yX11_isAhead.desc).map (fun d => d.parameters.length) = some 2 := by decide +kernel
theorem mi_X11_chooses : Cond.instanceMethod yX11_chooses ∈ gTab := gTab_in (gTb_7 _ (List.mem_of_getElem? (i := 19) rfl)) rfl
theorem ms_X11_chooses : Cond.selects RX11 yX11_chooses yX11_chooses ∈ gTab := gTab_in (List.mem_of_getElem? (i := 79) rfl) rfl
theorem mc_X11_chooses : Cond.code yX11_chooses cX11_chooses 3 none ∈ gTab := gTab_in (gTb_7 _ (List.mem_of_getElem? (i := 20) rfl)) rfl
theorem mh_X11_chooses : yX11_chooses.cls ≠ "java/lang/invoke/MethodHandle" ∧ yX11_chooses.cls ≠ "java/lang/invoke/VarHandle" ∧ (parseMethodDescriptor yX11_chooses.desc).map (fun d => d.parameters.length) = some 1 := by decide +kernel
theorem mi_X11_plan : Cond.instanceMethod yX11_plan ∈ gTab := gTab_in (gTb_7 _ (List.mem_of_getElem? (i := 3) rfl)) rfl
theorem ms_X11_plan : Cond.selects RX11 yX11_plan yX11_plan ∈ gTab := gTab_in (gTb_7 _ (List.mem_of_getElem? (i := 4) rfl)) rfl
theorem mc_X11_plan : Cond.code yX11_plan cX11_plan 8 (some .int) ∈ gTab := gTab_in (gTb_7 _ (List.mem_of_getElem? (i := 5) rfl)) rfl
theorem mh_X11_plan : yX11_plan.cls ≠ "java/lang/invoke/MethodHandle" ∧ yX11_plan.cls ≠ "java/lang/invoke/VarHandle" ∧ (parseMethodDescriptor yX11_plan.desc).map (fun d => d.parameters.length) = some 2 := by decide +kernel
theorem mi_X11_planned : Cond.instanceMethod yX11_planned ∈ gTab := gTab_in (gTb_7 _ (List.mem_of_getElem? (i := 47) rfl)) rfl
theorem ms_X11_planned : Cond.selects RX11 yX11_planned yX11_planned ∈ gTab := gTab_in (gTb_7 _ (List.mem_of_getElem? (i := 48) rfl)) rfl
theorem mc_X11_planned : Cond.code yX11_planned cX11_planned 2 (some .int) ∈ gTab := gTab_in (gTb_7 _ (List.mem_of_getElem? (i := 49) rfl)) rfl
theorem mh_X11_planned : yX11_planned.cls ≠ "java/lang/invoke/MethodHandle" ∧ yX11_planned.cls ≠ "java/lang/invoke/VarHandle" ∧ (parseMethodDescriptor yX11_planned.desc).map (fun d => d.parameters.length) = some 1 := by decide +kernel
theorem mi_X11_left : Cond.instanceMethod yX11_left ∈ gTab := gTab_in (gTb_7 _ (List.mem_of_getElem? (i := 51) rfl)) rfl
theorem ms_X11_left : Cond.selects RX11 yX11_left yX11_left ∈ gTab := gTab_in (gTb_7 _ (List.mem_of_getElem? (i := 52) rfl)) rfl
theorem mc_X11_left : Cond.code yX11_left cX11_left 1 (some .int) ∈ gTab := gTab_in (gTb_7 _ (List.mem_of_getElem? (i := 53) rfl)) rfl
theorem mh_X11_left : yX11_left.cls ≠ "java/lang/invoke/MethodHandle" ∧ yX11_left.cls ≠ "java/lang/invoke/VarHandle" ∧ (parseMethodDescriptor yX11_left.desc).map (fun d => d.parameters.length) = some 0 := by decide +kernel
theorem mi_X11_follow : Cond.instanceMethod yX11_follow ∈ gTab := gTab_in (gTb_7 _ (List.mem_of_getElem? (i := 55) rfl)) rfl
theorem ms_X11_follow : Cond.selects RX11 yX11_follow yX11_follow ∈ gTab := gTab_in (gTb_7 _ (List.mem_of_getElem? (i := 56) rfl)) rfl
theorem mc_X11_follow : Cond.code yX11_follow cX11_follow 1 (some .int) ∈ gTab := gTab_in (gTb_7 _ (List.mem_of_getElem? (i := 57) rfl)) rfl
theorem mh_X11_follow : yX11_follow.cls ≠ "java/lang/invoke/MethodHandle" ∧ yX11_follow.cls ≠ "java/lang/invoke/VarHandle" ∧ (parseMethodDescriptor yX11_follow.desc).map (fun d => d.parameters.length) = some 0 := by decide +kernel
theorem mi_X11_overlap : Cond.instanceMethod yX11_overlap ∈ gTab := gTab_in (gTb_7 _ (List.mem_of_getElem? (i := 65) rfl)) rfl
theorem ms_X11_overlap : Cond.selects RX11 yX11_overlap yX11_overlap ∈ gTab := gTab_in (List.mem_of_getElem? (i := 86) rfl) rfl
theorem mc_X11_overlap : Cond.code yX11_overlap cX11_overlap 9 (some .boolean) ∈ gTab := gTab_in (gTb_7 _ (List.mem_of_getElem? (i := 66) rfl)) rfl
theorem mh_X11_overlap : yX11_overlap.cls ≠ "java/lang/invoke/MethodHandle" ∧ yX11_overlap.cls ≠ "java/lang/invoke/VarHandle" ∧ (parseMethodDescriptor yX11_overlap.desc).map (fun d => d.parameters.length) = some 6 := by decide +kernel
theorem mi_X11_fix : Cond.instanceMethod yX11_fix ∈ gTab := gTab_in (gTb_7 _ (List.mem_of_getElem? (i := 60) rfl)) rfl
theorem ms_X11_fix : Cond.selects RX11 yX11_fix yX11_fix ∈ gTab := gTab_in (gTb_7 _ (List.mem_of_getElem? (i := 61) rfl)) rfl
theorem mc_X11_fix : Cond.code yX11_fix cX11_fix 5 (some .boolean) ∈ gTab := gTab_in (gTb_7 _ (List.mem_of_getElem? (i := 62) rfl)) rfl
theorem mh_X11_fix : yX11_fix.cls ≠ "java/lang/invoke/MethodHandle" ∧ yX11_fix.cls ≠ "java/lang/invoke/VarHandle" ∧ (parseMethodDescriptor yX11_fix.desc).map (fun d => d.parameters.length) = some 3 := by decide +kernel
theorem mi_X11_stands : Cond.instanceMethod yX11_stands ∈ gTab := gTab_in (gTb_7 _ (List.mem_of_getElem? (i := 73) rfl)) rfl
theorem ms_X11_stands : Cond.selects RX11 yX11_stands yX11_stands ∈ gTab := gTab_in (List.mem_of_getElem? (i := 87) rfl) rfl
theorem mc_X11_stands : Cond.code yX11_stands cX11_stands 6 none ∈ gTab := gTab_in (gTb_7 _ (List.mem_of_getElem? (i := 74) rfl)) rfl
theorem mh_X11_stands : yX11_stands.cls ≠ "java/lang/invoke/MethodHandle" ∧ yX11_stands.cls ≠ "java/lang/invoke/VarHandle" ∧ (parseMethodDescriptor yX11_stands.desc).map (fun d => d.parameters.length) = some 3 := by decide +kernel
theorem mi_X11_hasRoom : Cond.instanceMethod yX11_hasRoom ∈ gTab := gTab_in (gTb_7 _ (List.mem_of_getElem? (i := 81) rfl)) rfl
theorem ms_X11_hasRoom : Cond.selects RX11 yX11_hasRoom yX11_hasRoom ∈ gTab := gTab_in (List.mem_of_getElem? (i := 89) rfl) rfl
theorem mc_X11_hasRoom : Cond.code yX11_hasRoom cX11_hasRoom 6 (some .boolean) ∈ gTab := gTab_in (gTb_7 _ (List.mem_of_getElem? (i := 82) rfl)) rfl
theorem mh_X11_hasRoom : yX11_hasRoom.cls ≠ "java/lang/invoke/MethodHandle" ∧ yX11_hasRoom.cls ≠ "java/lang/invoke/VarHandle" ∧ (parseMethodDescriptor yX11_hasRoom.desc).map (fun d => d.parameters.length) = some 3 := by decide +kernel
theorem mi_X11_comes : Cond.instanceMethod yX11_comes ∈ gTab := gTab_in (gTb_7 _ (List.mem_of_getElem? (i := 77) rfl)) rfl
theorem ms_X11_comes : Cond.selects RX11 yX11_comes yX11_comes ∈ gTab := gTab_in (List.mem_of_getElem? (i := 88) rfl) rfl
theorem mc_X11_comes : Cond.code yX11_comes cX11_comes 5 none ∈ gTab := gTab_in (gTb_7 _ (List.mem_of_getElem? (i := 78) rfl)) rfl
theorem mh_X11_comes : yX11_comes.cls ≠ "java/lang/invoke/MethodHandle" ∧ yX11_comes.cls ≠ "java/lang/invoke/VarHandle" ∧ (parseMethodDescriptor yX11_comes.desc).map (fun d => d.parameters.length) = some 2 := by decide +kernel
theorem mi_X11_nextOrder : Cond.instanceMethod yX11_nextOrder ∈ gTab := gTab_in (gTb_7 _ (List.mem_of_getElem? (i := 85) rfl)) rfl
theorem ms_X11_nextOrder : Cond.selects RX11 yX11_nextOrder yX11_nextOrder ∈ gTab := gTab_in (List.mem_of_getElem? (i := 90) rfl) rfl
theorem mc_X11_nextOrder : Cond.code yX11_nextOrder cX11_nextOrder 7 (some .boolean) ∈ gTab := gTab_in (gTb_7 _ (List.mem_of_getElem? (i := 86) rfl)) rfl
theorem mh_X11_nextOrder : yX11_nextOrder.cls ≠ "java/lang/invoke/MethodHandle" ∧ yX11_nextOrder.cls ≠ "java/lang/invoke/VarHandle" ∧ (parseMethodDescriptor yX11_nextOrder.desc).map (fun d => d.parameters.length) = some 1 := by decide +kernel
theorem mi_X11_lay : Cond.instanceMethod yX11_lay ∈ gTab := gTab_in (gTb_7 _ (List.mem_of_getElem? (i := 68) rfl)) rfl
theorem ms_X11_lay : Cond.selects RX11 yX11_lay yX11_lay ∈ gTab := gTab_in (gTb_7 _ (List.mem_of_getElem? (i := 69) rfl)) rfl
theorem mc_X11_lay : Cond.code yX11_lay cX11_lay 9 (some .int) ∈ gTab := gTab_in (gTb_7 _ (List.mem_of_getElem? (i := 70) rfl)) rfl
theorem mh_X11_lay : yX11_lay.cls ≠ "java/lang/invoke/MethodHandle" ∧ yX11_lay.cls ≠ "java/lang/invoke/VarHandle" ∧ (parseMethodDescriptor yX11_lay.desc).map (fun d => d.parameters.length) = some 1 := by decide +kernel
theorem mi_X11_at_ : Cond.instanceMethod yX11_at_ ∈ gTab := gTab_in (gTb_7 _ (List.mem_of_getElem? (i := 88) rfl)) rfl
theorem ms_X11_at_ : Cond.selects RX11 yX11_at_ yX11_at_ ∈ gTab := gTab_in (gTb_7 _ (List.mem_of_getElem? (i := 89) rfl)) rfl
theorem mc_X11_at_ : Cond.code yX11_at_ cX11_at_ 3 (some .int) ∈ gTab := gTab_in (gTb_7 _ (List.mem_of_getElem? (i := 90) rfl)) rfl
theorem mh_X11_at_ : yX11_at_.cls ≠ "java/lang/invoke/MethodHandle" ∧ yX11_at_.cls ≠ "java/lang/invoke/VarHandle" ∧ (parseMethodDescriptor yX11_at_.desc).map (fun d => d.parameters.length) = some 2 := by decide +kernel
theorem mi_X11_unseen : Cond.instanceMethod yX11_unseen ∈ gTab := gTab_in (gTb_7 _ (List.mem_of_getElem? (i := 92) rfl)) rfl
theorem ms_X11_unseen : Cond.selects RX11 yX11_unseen yX11_unseen ∈ gTab := gTab_in (gTb_7 _ (List.mem_of_getElem? (i := 93) rfl)) rfl
theorem mc_X11_unseen : Cond.code yX11_unseen cX11_unseen 5 (some .int) ∈ gTab := gTab_in (gTb_7 _ (List.mem_of_getElem? (i := 94) rfl)) rfl
theorem mh_X11_unseen : yX11_unseen.cls ≠ "java/lang/invoke/MethodHandle" ∧ yX11_unseen.cls ≠ "java/lang/invoke/VarHandle" ∧ (parseMethodDescriptor yX11_unseen.desc).map (fun d => d.parameters.length) = some 2 := by decide +kernel
theorem mi_X11_count : Cond.instanceMethod yX11_count ∈ gTab := gTab_in (gTb_7 _ (List.mem_of_getElem? (i := 96) rfl)) rfl
theorem ms_X11_count : Cond.selects RX11 yX11_count yX11_count ∈ gTab := gTab_in (gTb_7 _ (List.mem_of_getElem? (i := 97) rfl)) rfl
theorem mc_X11_count : Cond.code yX11_count cX11_count 4 (some .int) ∈ gTab := gTab_in (gTb_7 _ (List.mem_of_getElem? (i := 98) rfl)) rfl
theorem mh_X11_count : yX11_count.cls ≠ "java/lang/invoke/MethodHandle" ∧ yX11_count.cls ≠ "java/lang/invoke/VarHandle" ∧ (parseMethodDescriptor yX11_count.desc).map (fun d => d.parameters.length) = some 1 := by decide +kernel
theorem mi_J6_compare_7cf53 : Cond.static yJ6_compare_7cf53 ∈ gTab := gTab_in (gTb_4 _ (List.mem_of_getElem? (i := 122) rfl)) rfl
theorem mc_J6_compare_7cf53 : Cond.code yJ6_compare_7cf53 cJ6_compare_7cf53 2 (some .int) ∈ gTab := gTab_in (gTb_4 _ (List.mem_of_getElem? (i := 123) rfl)) rfl
theorem mh_J6_compare_7cf53 : yJ6_compare_7cf53.cls ≠ "java/lang/invoke/MethodHandle" ∧ yJ6_compare_7cf53.cls ≠ "java/lang/invoke/VarHandle" ∧ (parseMethodDescriptor yJ6_compare_7cf53.desc).map (fun d => d.parameters.length) = some 2 := by decide +kernel
theorem mi_J6_lowestOneBit_0f7a4 : Cond.static yJ6_lowestOneBit_0f7a4 ∈ gTab := gTab_in (gTb_4 _ (List.mem_of_getElem? (i := 126) rfl)) rfl
theorem mc_J6_lowestOneBit_0f7a4 : Cond.code yJ6_lowestOneBit_0f7a4 cJ6_lowestOneBit_0f7a4 1 (some .int) ∈ gTab := gTab_in (gTb_4 _ (List.mem_of_getElem? (i := 127) rfl)) rfl
theorem mh_J6_lowestOneBit_0f7a4 : yJ6_lowestOneBit_0f7a4.cls ≠ "java/lang/invoke/MethodHandle" ∧ yJ6_lowestOneBit_0f7a4.cls ≠ "java/lang/invoke/VarHandle" ∧ (parseMethodDescriptor yJ6_lowestOneBit_0f7a4.desc).map (fun d => d.parameters.length) = some 1 := by decide +kernel
theorem mi_J6_bitCount_0f7a4 : Cond.static yJ6_bitCount_0f7a4 ∈ gTab := gTab_in (gTb_4 _ (List.mem_of_getElem? (i := 92) rfl)) rfl
theorem mc_J6_bitCount_0f7a4 : Cond.code yJ6_bitCount_0f7a4 cJ6_bitCount_0f7a4 1 (some .int) ∈ gTab := gTab_in (gTb_4 _ (List.mem_of_getElem? (i := 93) rfl)) rfl
theorem mh_J6_bitCount_0f7a4 : yJ6_bitCount_0f7a4.cls ≠ "java/lang/invoke/MethodHandle" ∧ yJ6_bitCount_0f7a4.cls ≠ "java/lang/invoke/VarHandle" ∧ (parseMethodDescriptor yJ6_bitCount_0f7a4.desc).map (fun d => d.parameters.length) = some 1 := by decide +kernel

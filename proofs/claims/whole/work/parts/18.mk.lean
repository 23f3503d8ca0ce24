abbrev cTb : List gMj := [((yX8_init, cX8_init, 1, none), 0, 0), ((yX0_init, cX0_init, 1, none), 2, 800), ((yX3_init, cX3_init, 1, none), 1, 10), ((yX7_init, cX7_init, 1, none), 1, 2000), ((yX9_init, cX9_init, 1, none), 3, 1203), ((yX2_init, cX2_init, 1, none), 4, 1207), ((yX6_init, cX6_init, 2, none), 9, 1338), ((yX1_init, cX1_init, 1, none), 5, 104), ((yX4_init, cX4_init, 1, none), 10, 5014), ((yX5_init, cX5_init, 2, none), 26, 1452), ((yX10_init, cX10_init, 2, none), 109, 17546), ((yX11_init, cX11_init, 2, none), 57, 150020)]
theorem ck_RX10_9 : Cond.classLink RX10 9 RX7 ∈ gTab := gTab_in (gTb_1 _ (List.mem_of_getElem? (i := 23) rfl)) rfl
theorem ck_RX10_16 : Cond.classLink RX10 16 RX2 ∈ gTab := gTab_in (gTb_1 _ (List.mem_of_getElem? (i := 39) rfl)) rfl
theorem ck_RX10_23 : Cond.classLink RX10 23 RX6 ∈ gTab := gTab_in (gTb_1 _ (List.mem_of_getElem? (i := 83) rfl)) rfl
theorem ck_RX10_30 : Cond.classLink RX10 30 RX0 ∈ gTab := gTab_in (gTb_1 _ (List.mem_of_getElem? (i := 144) rfl)) rfl
theorem ck_RX10_37 : Cond.classLink RX10 37 RX4 ∈ gTab := gTab_in (gTb_1 _ (List.mem_of_getElem? (i := 216) rfl)) rfl
theorem ck_RX10_44 : Cond.classLink RX10 44 RX3 ∈ gTab := gTab_in (gTb_2 _ (List.mem_of_getElem? (i := 35) rfl)) rfl
theorem ck_RX10_51 : Cond.classLink RX10 51 RX1 ∈ gTab := gTab_in (gTb_2 _ (List.mem_of_getElem? (i := 59) rfl)) rfl
theorem ck_RX10_58 : Cond.classLink RX10 58 RX5 ∈ gTab := gTab_in (gTb_2 _ (List.mem_of_getElem? (i := 98) rfl)) rfl
theorem ck_RX2_9 : Cond.classLink RX2 9 RX9 ∈ gTab := gTab_in (gTb_1 _ (List.mem_of_getElem? (i := 45) rfl)) rfl
theorem ck_RX4_13 : Cond.classLink RX4 13 RX0 ∈ gTab := gTab_in (gTb_1 _ (List.mem_of_getElem? (i := 222) rfl)) rfl
theorem ck_RX5_9 : Cond.classLink RX5 9 RX8 ∈ gTab := gTab_in (gTb_2 _ (List.mem_of_getElem? (i := 104) rfl)) rfl
theorem ck_RL_7 : Cond.classLink RL 7 RX10 ∈ gTab := gTab_in (gTb_1 _ (List.mem_of_getElem? (i := 15) rfl)) rfl
theorem ck_RL_10 : Cond.classLink RL 10 RX11 ∈ gTab := gTab_in (gTb_5 _ (List.mem_of_getElem? (i := 33) rfl)) rfl
theorem in_X10 : Cond.instantiable RX10 12 ∈ gTab := gTab_in (gTb_1 _ (List.mem_of_getElem? (i := 16) rfl)) rfl
theorem in_X0 : Cond.instantiable RX0 14 ∈ gTab := gTab_in (gTb_1 _ (List.mem_of_getElem? (i := 146) rfl)) rfl
theorem in_X1 : Cond.instantiable RX1 10 ∈ gTab := gTab_in (gTb_2 _ (List.mem_of_getElem? (i := 60) rfl)) rfl
theorem in_X2 : Cond.instantiable RX2 5 ∈ gTab := gTab_in (gTb_1 _ (List.mem_of_getElem? (i := 40) rfl)) rfl
theorem in_X3 : Cond.instantiable RX3 4 ∈ gTab := gTab_in (gTb_2 _ (List.mem_of_getElem? (i := 36) rfl)) rfl
theorem in_X4 : Cond.instantiable RX4 17 ∈ gTab := gTab_in (gTb_1 _ (List.mem_of_getElem? (i := 217) rfl)) rfl
theorem in_X5 : Cond.instantiable RX5 13 ∈ gTab := gTab_in (gTb_2 _ (List.mem_of_getElem? (i := 99) rfl)) rfl
theorem in_X6 : Cond.instantiable RX6 15 ∈ gTab := gTab_in (gTb_1 _ (List.mem_of_getElem? (i := 84) rfl)) rfl
theorem in_X7 : Cond.instantiable RX7 2 ∈ gTab := gTab_in (gTb_1 _ (List.mem_of_getElem? (i := 24) rfl)) rfl
theorem in_X8 : Cond.instantiable RX8 11 ∈ gTab := gTab_in (gTb_2 _ (List.mem_of_getElem? (i := 106) rfl)) rfl
theorem in_X9 : Cond.instantiable RX9 4 ∈ gTab := gTab_in (gTb_1 _ (List.mem_of_getElem? (i := 46) rfl)) rfl
theorem in_X11 : Cond.instantiable RX11 87 ∈ gTab := gTab_in (gTb_5 _ (List.mem_of_getElem? (i := 34) rfl)) rfl
theorem ac_byte : Cond.arrayClass (newarray.typeOf .byte) ∈ gTab := gTab_in (gTb_1 _ (List.mem_of_getElem? (i := 38) rfl)) rfl
theorem ac_int : Cond.arrayClass (newarray.typeOf .int) ∈ gTab := gTab_in (gTb_1 _ (List.mem_of_getElem? (i := 64) rfl)) rfl
theorem ac_long : Cond.arrayClass (newarray.typeOf .long) ∈ gTab := gTab_in (gTb_1 _ (List.mem_of_getElem? (i := 65) rfl)) rfl
theorem ac_boolean : Cond.arrayClass (newarray.typeOf .boolean) ∈ gTab := gTab_in (gTb_6 _ (List.mem_of_getElem? (i := 71) rfl)) rfl
theorem oj_i : Cond.instanceMethod Lib.objectInit ∈ gTab := gTab_in (gTb_1 _ (List.mem_of_getElem? (i := 21) rfl)) rfl
theorem oj_c : Cond.code Lib.objectInit ⟨#[0xb1]⟩ 1 none ∈ gTab := gTab_in (gTb_1 _ (List.mem_of_getElem? (i := 22) rfl)) rfl
theorem mz_RX10_3 : Cond.methodLink RX10 3 Lib.objectInit ∈ gTab := gTab_in (gTb_1 _ (List.mem_of_getElem? (i := 20) rfl)) rfl
theorem mz_RX10_11 : Cond.methodLink RX10 11 yX7_init ∈ gTab ∨ ∃ host, Cond.methodLinkNest RX10 11 yX7_init host ∈ gNest := Or.inr ⟨"GaugeWall", gNest_in (gTb_1 _ (List.mem_of_getElem? (i := 25) rfl)) rfl⟩
theorem mz_RX10_18 : Cond.methodLink RX10 18 yX2_init ∈ gTab ∨ ∃ host, Cond.methodLinkNest RX10 18 yX2_init host ∈ gNest := Or.inr ⟨"GaugeWall", gNest_in (gTb_1 _ (List.mem_of_getElem? (i := 41) rfl)) rfl⟩
theorem mz_RX10_25 : Cond.methodLink RX10 25 yX6_init ∈ gTab ∨ ∃ host, Cond.methodLinkNest RX10 25 yX6_init host ∈ gNest := Or.inl (gTab_in (gTb_1 _ (List.mem_of_getElem? (i := 85) rfl)) rfl)
theorem mz_RX10_36 : Cond.methodLink RX10 36 yX0_init ∈ gTab ∨ ∃ host, Cond.methodLinkNest RX10 36 yX0_init host ∈ gNest := Or.inr ⟨"GaugeWall", gNest_in (gTb_1 _ (List.mem_of_getElem? (i := 147) rfl)) rfl⟩
theorem mz_RX10_39 : Cond.methodLink RX10 39 yX4_init ∈ gTab ∨ ∃ host, Cond.methodLinkNest RX10 39 yX4_init host ∈ gNest := Or.inr ⟨"GaugeWall", gNest_in (gTb_1 _ (List.mem_of_getElem? (i := 218) rfl)) rfl⟩
theorem mz_RX10_46 : Cond.methodLink RX10 46 yX3_init ∈ gTab ∨ ∃ host, Cond.methodLinkNest RX10 46 yX3_init host ∈ gNest := Or.inr ⟨"GaugeWall", gNest_in (gTb_2 _ (List.mem_of_getElem? (i := 37) rfl)) rfl⟩
theorem mz_RX10_53 : Cond.methodLink RX10 53 yX1_init ∈ gTab ∨ ∃ host, Cond.methodLinkNest RX10 53 yX1_init host ∈ gNest := Or.inr ⟨"GaugeWall", gNest_in (gTb_2 _ (List.mem_of_getElem? (i := 61) rfl)) rfl⟩
theorem mz_RX10_60 : Cond.methodLink RX10 60 yX5_init ∈ gTab ∨ ∃ host, Cond.methodLinkNest RX10 60 yX5_init host ∈ gNest := Or.inl (gTab_in (gTb_2 _ (List.mem_of_getElem? (i := 100) rfl)) rfl)
theorem mz_RX0_3 : Cond.methodLink RX0 3 Lib.objectInit ∈ gTab := gTab_in (gTb_1 _ (List.mem_of_getElem? (i := 150) rfl)) rfl
theorem mz_RX1_3 : Cond.methodLink RX1 3 Lib.objectInit ∈ gTab := gTab_in (gTb_2 _ (List.mem_of_getElem? (i := 64) rfl)) rfl
theorem mz_RX2_3 : Cond.methodLink RX2 3 Lib.objectInit ∈ gTab := gTab_in (gTb_1 _ (List.mem_of_getElem? (i := 44) rfl)) rfl
theorem mz_RX2_11 : Cond.methodLink RX2 11 yX9_init ∈ gTab ∨ ∃ host, Cond.methodLinkNest RX2 11 yX9_init host ∈ gNest := Or.inr ⟨"GaugeWall", gNest_in (gTb_1 _ (List.mem_of_getElem? (i := 47) rfl)) rfl⟩
theorem mz_RX3_3 : Cond.methodLink RX3 3 Lib.objectInit ∈ gTab := gTab_in (gTb_2 _ (List.mem_of_getElem? (i := 40) rfl)) rfl
theorem mz_RX4_7 : Cond.methodLink RX4 7 Lib.objectInit ∈ gTab := gTab_in (gTb_1 _ (List.mem_of_getElem? (i := 221) rfl)) rfl
theorem mz_RX5_3 : Cond.methodLink RX5 3 Lib.objectInit ∈ gTab := gTab_in (gTb_2 _ (List.mem_of_getElem? (i := 103) rfl)) rfl
theorem mz_RX5_37 : Cond.methodLink RX5 37 yX8_init ∈ gTab ∨ ∃ host, Cond.methodLinkNest RX5 37 yX8_init host ∈ gNest := Or.inr ⟨"GaugeWall", gNest_in (gTb_2 _ (List.mem_of_getElem? (i := 107) rfl)) rfl⟩
theorem mz_RX6_3 : Cond.methodLink RX6 3 Lib.objectInit ∈ gTab := gTab_in (gTb_1 _ (List.mem_of_getElem? (i := 88) rfl)) rfl
theorem mz_RX7_3 : Cond.methodLink RX7 3 Lib.objectInit ∈ gTab := gTab_in (gTb_1 _ (List.mem_of_getElem? (i := 28) rfl)) rfl
theorem mz_RX8_1 : Cond.methodLink RX8 1 Lib.objectInit ∈ gTab := gTab_in (gTb_2 _ (List.mem_of_getElem? (i := 110) rfl)) rfl
theorem mz_RX9_3 : Cond.methodLink RX9 3 Lib.objectInit ∈ gTab := gTab_in (gTb_1 _ (List.mem_of_getElem? (i := 50) rfl)) rfl
theorem mz_RL_9 : Cond.methodLink RL 9 yX10_init ∈ gTab ∨ ∃ host, Cond.methodLinkNest RL 9 yX10_init host ∈ gNest := Or.inl (gTab_in (gTb_1 _ (List.mem_of_getElem? (i := 17) rfl)) rfl)
theorem mz_RL_12 : Cond.methodLink RL 12 yX11_init ∈ gTab ∨ ∃ host, Cond.methodLinkNest RL 12 yX11_init host ∈ gNest := Or.inl (gTab_in (gTb_5 _ (List.mem_of_getElem? (i := 35) rfl)) rfl)
theorem mz_RX11_7 : Cond.methodLink RX11 7 Lib.objectInit ∈ gTab := gTab_in (gTb_5 _ (List.mem_of_getElem? (i := 38) rfl)) rfl
theorem ji_X8 : Cond.instanceMethod yX8_init ∈ gTab := gTab_in (gTb_2 _ (List.mem_of_getElem? (i := 108) rfl)) rfl
theorem jc_X8 : Cond.code yX8_init cX8_init 1 none ∈ gTab := gTab_in (gTb_2 _ (List.mem_of_getElem? (i := 109) rfl)) rfl
theorem jh_X8 : yX8_init.cls ≠ "java/lang/invoke/MethodHandle" ∧ yX8_init.cls ≠ "java/lang/invoke/VarHandle" ∧ (parseMethodDescriptor yX8_init.desc).map (fun d => d.parameters.length) = some 0 := by decide +kernel
theorem ji_X0 : Cond.instanceMethod yX0_init ∈ gTab := gTab_in (gTb_1 _ (List.mem_of_getElem? (i := 148) rfl)) rfl
theorem jc_X0 : Cond.code yX0_init cX0_init 1 none ∈ gTab := gTab_in (gTb_1 _ (List.mem_of_getElem? (i := 149) rfl)) rfl
theorem jh_X0 : yX0_init.cls ≠ "java/lang/invoke/MethodHandle" ∧ yX0_init.cls ≠ "java/lang/invoke/VarHandle" ∧ (parseMethodDescriptor yX0_init.desc).map (fun d => d.parameters.length) = some 0 := by decide +kernel
theorem ji_X3 : Cond.instanceMethod yX3_init ∈ gTab := gTab_in (gTb_2 _ (List.mem_of_getElem? (i := 38) rfl)) rfl
theorem jc_X3 : Cond.code yX3_init cX3_init 1 none ∈ gTab := gTab_in (gTb_2 _ (List.mem_of_getElem? (i := 39) rfl)) rfl
theorem jh_X3 : yX3_init.cls ≠ "java/lang/invoke/MethodHandle" ∧ yX3_init.cls ≠ "java/lang/invoke/VarHandle" ∧ (parseMethodDescriptor yX3_init.desc).map (fun d => d.parameters.length) = some 0 := by decide +kernel
theorem ji_X7 : Cond.instanceMethod yX7_init ∈ gTab := gTab_in (gTb_1 _ (List.mem_of_getElem? (i := 26) rfl)) rfl
theorem jc_X7 : Cond.code yX7_init cX7_init 1 none ∈ gTab := gTab_in (gTb_1 _ (List.mem_of_getElem? (i := 27) rfl)) rfl
theorem jh_X7 : yX7_init.cls ≠ "java/lang/invoke/MethodHandle" ∧ yX7_init.cls ≠ "java/lang/invoke/VarHandle" ∧ (parseMethodDescriptor yX7_init.desc).map (fun d => d.parameters.length) = some 0 := by decide +kernel
theorem ji_X9 : Cond.instanceMethod yX9_init ∈ gTab := gTab_in (gTb_1 _ (List.mem_of_getElem? (i := 48) rfl)) rfl
theorem jc_X9 : Cond.code yX9_init cX9_init 1 none ∈ gTab := gTab_in (gTb_1 _ (List.mem_of_getElem? (i := 49) rfl)) rfl
theorem jh_X9 : yX9_init.cls ≠ "java/lang/invoke/MethodHandle" ∧ yX9_init.cls ≠ "java/lang/invoke/VarHandle" ∧ (parseMethodDescriptor yX9_init.desc).map (fun d => d.parameters.length) = some 0 := by decide +kernel
theorem ji_X2 : Cond.instanceMethod yX2_init ∈ gTab := gTab_in (gTb_1 _ (List.mem_of_getElem? (i := 42) rfl)) rfl
theorem jc_X2 : Cond.code yX2_init cX2_init 1 none ∈ gTab := gTab_in (gTb_1 _ (List.mem_of_getElem? (i := 43) rfl)) rfl
theorem jh_X2 : yX2_init.cls ≠ "java/lang/invoke/MethodHandle" ∧ yX2_init.cls ≠ "java/lang/invoke/VarHandle" ∧ (parseMethodDescriptor yX2_init.desc).map (fun d => d.parameters.length) = some 0 := by decide +kernel
theorem ji_X6 : Cond.instanceMethod yX6_init ∈ gTab := gTab_in (gTb_1 _ (List.mem_of_getElem? (i := 86) rfl)) rfl
theorem jc_X6 : Cond.code yX6_init cX6_init 2 none ∈ gTab := gTab_in (gTb_1 _ (List.mem_of_getElem? (i := 87) rfl)) rfl
theorem jh_X6 : yX6_init.cls ≠ "java/lang/invoke/MethodHandle" ∧ yX6_init.cls ≠ "java/lang/invoke/VarHandle" ∧ (parseMethodDescriptor yX6_init.desc).map (fun d => d.parameters.length) = some 0 := by decide +kernel
theorem ji_X1 : Cond.instanceMethod yX1_init ∈ gTab := gTab_in (gTb_2 _ (List.mem_of_getElem? (i := 62) rfl)) rfl
theorem jc_X1 : Cond.code yX1_init cX1_init 1 none ∈ gTab := gTab_in (gTb_2 _ (List.mem_of_getElem? (i := 63) rfl)) rfl
theorem jh_X1 : yX1_init.cls ≠ "java/lang/invoke/MethodHandle" ∧ yX1_init.cls ≠ "java/lang/invoke/VarHandle" ∧ (parseMethodDescriptor yX1_init.desc).map (fun d => d.parameters.length) = some 0 := by decide +kernel
theorem ji_X4 : Cond.instanceMethod yX4_init ∈ gTab := gTab_in (gTb_1 _ (List.mem_of_getElem? (i := 219) rfl)) rfl
theorem jc_X4 : Cond.code yX4_init cX4_init 1 none ∈ gTab := gTab_in (gTb_1 _ (List.mem_of_getElem? (i := 220) rfl)) rfl
theorem jh_X4 : yX4_init.cls ≠ "java/lang/invoke/MethodHandle" ∧ yX4_init.cls ≠ "java/lang/invoke/VarHandle" ∧ (parseMethodDescriptor yX4_init.desc).map (fun d => d.parameters.length) = some 0 := by decide +kernel
theorem ji_X5 : Cond.instanceMethod yX5_init ∈ gTab := gTab_in (gTb_2 _ (List.mem_of_getElem? (i := 101) rfl)) rfl
theorem jc_X5 : Cond.code yX5_init cX5_init 2 none ∈ gTab := gTab_in (gTb_2 _ (List.mem_of_getElem? (i := 102) rfl)) rfl
theorem jh_X5 : yX5_init.cls ≠ "java/lang/invoke/MethodHandle" ∧ yX5_init.cls ≠ "java/lang/invoke/VarHandle" ∧ (parseMethodDescriptor yX5_init.desc).map (fun d => d.parameters.length) = some 0 := by decide +kernel
theorem ji_X10 : Cond.instanceMethod yX10_init ∈ gTab := gTab_in (gTb_1 _ (List.mem_of_getElem? (i := 18) rfl)) rfl
theorem jc_X10 : Cond.code yX10_init cX10_init 2 none ∈ gTab := gTab_in (gTb_1 _ (List.mem_of_getElem? (i := 19) rfl)) rfl
theorem jh_X10 : yX10_init.cls ≠ "java/lang/invoke/MethodHandle" ∧ yX10_init.cls ≠ "java/lang/invoke/VarHandle" ∧ (parseMethodDescriptor yX10_init.desc).map (fun d => d.parameters.length) = some 0 := by decide +kernel
theorem ji_X11 : Cond.instanceMethod yX11_init ∈ gTab := gTab_in (gTb_5 _ (List.mem_of_getElem? (i := 36) rfl)) rfl
theorem jc_X11 : Cond.code yX11_init cX11_init 2 none ∈ gTab := gTab_in (gTb_5 _ (List.mem_of_getElem? (i := 37) rfl)) rfl
theorem jh_X11 : yX11_init.cls ≠ "java/lang/invoke/MethodHandle" ∧ yX11_init.cls ≠ "java/lang/invoke/VarHandle" ∧ (parseMethodDescriptor yX11_init.desc).map (fun d => d.parameters.length) = some 0 := by decide +kernel
theorem ff_RX10_12 : Cond.fieldLink RX10 12 (TX10 0).1 (TX10 0).2.1 (TX10 0).2.2.1 ∈ gTab := gTab_in (gTb_2 _ (List.mem_of_getElem? (i := 206) rfl)) rfl
theorem ff_RX10_19 : Cond.fieldLink RX10 19 (TX10 1).1 (TX10 1).2.1 (TX10 1).2.2.1 ∈ gTab := gTab_in (gTb_2 _ (List.mem_of_getElem? (i := 207) rfl)) rfl
theorem ff_RX10_26 : Cond.fieldLink RX10 26 (TX10 2).1 (TX10 2).2.1 (TX10 2).2.2.1 ∈ gTab := gTab_in (gTb_2 _ (List.mem_of_getElem? (i := 208) rfl)) rfl
theorem ff_RX10_32 : Cond.fieldLink RX10 32 (TX10 3).1 (TX10 3).2.1 (TX10 3).2.2.1 ∈ gTab := gTab_in (gTb_2 _ (List.mem_of_getElem? (i := 209) rfl)) rfl
theorem ff_RX10_40 : Cond.fieldLink RX10 40 (TX10 4).1 (TX10 4).2.1 (TX10 4).2.2.1 ∈ gTab := gTab_in (gTb_2 _ (List.mem_of_getElem? (i := 210) rfl)) rfl
theorem ff_RX10_47 : Cond.fieldLink RX10 47 (TX10 5).1 (TX10 5).2.1 (TX10 5).2.2.1 ∈ gTab := gTab_in (gTb_2 _ (List.mem_of_getElem? (i := 211) rfl)) rfl
theorem ff_RX10_54 : Cond.fieldLink RX10 54 (TX10 6).1 (TX10 6).2.1 (TX10 6).2.2.1 ∈ gTab := gTab_in (gTb_2 _ (List.mem_of_getElem? (i := 212) rfl)) rfl
theorem ff_RX0_9 : Cond.fieldLink RX0 9 (TX0 12).1 (TX0 12).2.1 (TX0 12).2.2.1 ∈ gTab := gTab_in (gTb_1 _ (List.mem_of_getElem? (i := 183) rfl)) rfl
theorem ff_RX0_15 : Cond.fieldLink RX0 15 (TX0 13).1 (TX0 13).2.1 (TX0 13).2.2.1 ∈ gTab := gTab_in (gTb_1 _ (List.mem_of_getElem? (i := 185) rfl)) rfl
theorem ff_RX1_11 : Cond.fieldLink RX1 11 (TX1 1).1 (TX1 1).2.1 (TX1 1).2.2.1 ∈ gTab := gTab_in (gTb_2 _ (List.mem_of_getElem? (i := 66) rfl)) rfl
theorem ff_RX1_15 : Cond.fieldLink RX1 15 (TX1 2).1 (TX1 2).2.1 (TX1 2).2.2.1 ∈ gTab := gTab_in (gTb_2 _ (List.mem_of_getElem? (i := 67) rfl)) rfl
theorem ff_RX1_18 : Cond.fieldLink RX1 18 (TX1 3).1 (TX1 3).2.1 (TX1 3).2.2.1 ∈ gTab := gTab_in (gTb_2 _ (List.mem_of_getElem? (i := 68) rfl)) rfl
theorem ff_RX1_21 : Cond.fieldLink RX1 21 (TX1 4).1 (TX1 4).2.1 (TX1 4).2.2.1 ∈ gTab := gTab_in (gTb_2 _ (List.mem_of_getElem? (i := 69) rfl)) rfl
theorem ff_RX1_24 : Cond.fieldLink RX1 24 (TX1 5).1 (TX1 5).2.1 (TX1 5).2.2.1 ∈ gTab := gTab_in (gTb_2 _ (List.mem_of_getElem? (i := 71) rfl)) rfl
theorem ff_RX2_12 : Cond.fieldLink RX2 12 (TX2 0).1 (TX2 0).2.1 (TX2 0).2.2.1 ∈ gTab := gTab_in (gTb_1 _ (List.mem_of_getElem? (i := 66) rfl)) rfl
theorem ff_RX3_9 : Cond.fieldLink RX3 9 (TX3 0).1 (TX3 0).2.1 (TX3 0).2.2.1 ∈ gTab := gTab_in (gTb_2 _ (List.mem_of_getElem? (i := 41) rfl)) rfl
theorem ff_RX4_15 : Cond.fieldLink RX4 15 (TX4 1).1 (TX4 1).2.1 (TX4 1).2.2.1 ∈ gTab := gTab_in (gTb_1 _ (List.mem_of_getElem? (i := 224) rfl)) rfl
theorem ff_RX4_19 : Cond.fieldLink RX4 19 (TX4 2).1 (TX4 2).2.1 (TX4 2).2.2.1 ∈ gTab := gTab_in (gTb_1 _ (List.mem_of_getElem? (i := 225) rfl)) rfl
theorem ff_RX4_23 : Cond.fieldLink RX4 23 (TX4 3).1 (TX4 3).2.1 (TX4 3).2.2.1 ∈ gTab := gTab_in (gTb_1 _ (List.mem_of_getElem? (i := 226) rfl)) rfl
theorem ff_RX4_26 : Cond.fieldLink RX4 26 (TX4 4).1 (TX4 4).2.1 (TX4 4).2.2.1 ∈ gTab := gTab_in (gTb_1 _ (List.mem_of_getElem? (i := 227) rfl)) rfl
theorem ff_RX4_29 : Cond.fieldLink RX4 29 (TX4 5).1 (TX4 5).2.1 (TX4 5).2.2.1 ∈ gTab := gTab_in (gTb_1 _ (List.mem_of_getElem? (i := 228) rfl)) rfl
theorem ff_RX4_32 : Cond.fieldLink RX4 32 (TX4 6).1 (TX4 6).2.1 (TX4 6).2.2.1 ∈ gTab := gTab_in (gTb_1 _ (List.mem_of_getElem? (i := 229) rfl)) rfl
theorem ff_RX4_35 : Cond.fieldLink RX4 35 (TX4 7).1 (TX4 7).2.1 (TX4 7).2.2.1 ∈ gTab := gTab_in (gTb_1 _ (List.mem_of_getElem? (i := 230) rfl)) rfl
theorem ff_RX4_38 : Cond.fieldLink RX4 38 (TX4 8).1 (TX4 8).2.1 (TX4 8).2.2.1 ∈ gTab := gTab_in (gTb_1 _ (List.mem_of_getElem? (i := 231) rfl)) rfl
theorem ff_RX5_11 : Cond.fieldLink RX5 11 (TX5 0).1 (TX5 0).2.1 (TX5 0).2.2.1 ∈ gTab := gTab_in (gTb_2 _ (List.mem_of_getElem? (i := 156) rfl)) rfl
theorem ff_RX5_17 : Cond.fieldLink RX5 17 (TX5 1).1 (TX5 1).2.1 (TX5 1).2.2.1 ∈ gTab := gTab_in (gTb_2 _ (List.mem_of_getElem? (i := 159) rfl)) rfl
theorem ff_RX5_21 : Cond.fieldLink RX5 21 (TX5 2).1 (TX5 2).2.1 (TX5 2).2.2.1 ∈ gTab := gTab_in (gTb_2 _ (List.mem_of_getElem? (i := 161) rfl)) rfl
theorem ff_RX5_24 : Cond.fieldLink RX5 24 (TX5 3).1 (TX5 3).2.1 (TX5 3).2.2.1 ∈ gTab := gTab_in (gTb_2 _ (List.mem_of_getElem? (i := 162) rfl)) rfl
theorem ff_RX5_27 : Cond.fieldLink RX5 27 (TX5 4).1 (TX5 4).2.1 (TX5 4).2.2.1 ∈ gTab := gTab_in (gTb_2 _ (List.mem_of_getElem? (i := 164) rfl)) rfl
theorem ff_RX5_30 : Cond.fieldLink RX5 30 (TX5 5).1 (TX5 5).2.1 (TX5 5).2.2.1 ∈ gTab := gTab_in (gTb_2 _ (List.mem_of_getElem? (i := 166) rfl)) rfl
theorem ff_RX5_34 : Cond.fieldLink RX5 34 (TX5 6).1 (TX5 6).2.1 (TX5 6).2.2.1 ∈ gTab := gTab_in (gTb_2 _ (List.mem_of_getElem? (i := 168) rfl)) rfl
theorem ff_RX6_9 : Cond.fieldLink RX6 9 (TX6 0).1 (TX6 0).2.1 (TX6 0).2.2.1 ∈ gTab := gTab_in (gTb_1 _ (List.mem_of_getElem? (i := 89) rfl)) rfl
theorem ff_RX6_15 : Cond.fieldLink RX6 15 (TX6 1).1 (TX6 1).2.1 (TX6 1).2.2.1 ∈ gTab := gTab_in (gTb_1 _ (List.mem_of_getElem? (i := 91) rfl)) rfl
theorem ff_RX6_18 : Cond.fieldLink RX6 18 (TX6 2).1 (TX6 2).2.1 (TX6 2).2.2.1 ∈ gTab := gTab_in (gTb_1 _ (List.mem_of_getElem? (i := 92) rfl)) rfl
theorem ff_RX6_21 : Cond.fieldLink RX6 21 (TX6 3).1 (TX6 3).2.1 (TX6 3).2.2.1 ∈ gTab := gTab_in (gTb_1 _ (List.mem_of_getElem? (i := 93) rfl)) rfl
theorem ff_RX6_24 : Cond.fieldLink RX6 24 (TX6 4).1 (TX6 4).2.1 (TX6 4).2.2.1 ∈ gTab := gTab_in (gTb_1 _ (List.mem_of_getElem? (i := 94) rfl)) rfl
theorem ff_RX6_27 : Cond.fieldLink RX6 27 (TX6 5).1 (TX6 5).2.1 (TX6 5).2.2.1 ∈ gTab := gTab_in (gTb_1 _ (List.mem_of_getElem? (i := 95) rfl)) rfl
theorem ff_RX6_30 : Cond.fieldLink RX6 30 (TX6 6).1 (TX6 6).2.1 (TX6 6).2.2.1 ∈ gTab := gTab_in (gTb_1 _ (List.mem_of_getElem? (i := 96) rfl)) rfl
theorem ff_RX6_33 : Cond.fieldLink RX6 33 (TX6 7).1 (TX6 7).2.1 (TX6 7).2.2.1 ∈ gTab := gTab_in (gTb_1 _ (List.mem_of_getElem? (i := 97) rfl)) rfl
theorem ff_RX6_36 : Cond.fieldLink RX6 36 (TX6 8).1 (TX6 8).2.1 (TX6 8).2.2.1 ∈ gTab := gTab_in (gTb_1 _ (List.mem_of_getElem? (i := 98) rfl)) rfl
theorem ff_RX7_9 : Cond.fieldLink RX7 9 (TX7 0).1 (TX7 0).2.1 (TX7 0).2.2.1 ∈ gTab := gTab_in (gTb_1 _ (List.mem_of_getElem? (i := 29) rfl)) rfl
theorem ff_RX9_9 : Cond.fieldLink RX9 9 (TX9 0).1 (TX9 0).2.1 (TX9 0).2.2.1 ∈ gTab := gTab_in (gTb_1 _ (List.mem_of_getElem? (i := 51) rfl)) rfl
theorem ff_RX9_15 : Cond.fieldLink RX9 15 (TX9 1).1 (TX9 1).2.1 (TX9 1).2.2.1 ∈ gTab := gTab_in (gTb_1 _ (List.mem_of_getElem? (i := 52) rfl)) rfl
theorem ff_RX9_18 : Cond.fieldLink RX9 18 (TX9 2).1 (TX9 2).2.1 (TX9 2).2.2.1 ∈ gTab := gTab_in (gTb_1 _ (List.mem_of_getElem? (i := 53) rfl)) rfl
theorem ff_RX11_13 : Cond.fieldLink RX11 13 (TX11 1).1 (TX11 1).2.1 (TX11 1).2.2.1 ∈ gTab := gTab_in (gTb_5 _ (List.mem_of_getElem? (i := 50) rfl)) rfl
theorem ff_RX11_17 : Cond.fieldLink RX11 17 (TX11 3).1 (TX11 3).2.1 (TX11 3).2.2.1 ∈ gTab := gTab_in (gTb_5 _ (List.mem_of_getElem? (i := 52) rfl)) rfl
theorem ff_RX11_20 : Cond.fieldLink RX11 20 (TX11 5).1 (TX11 5).2.1 (TX11 5).2.2.1 ∈ gTab := gTab_in (gTb_5 _ (List.mem_of_getElem? (i := 54) rfl)) rfl
theorem ff_RX11_24 : Cond.fieldLink RX11 24 (TX11 6).1 (TX11 6).2.1 (TX11 6).2.2.1 ∈ gTab := gTab_in (gTb_5 _ (List.mem_of_getElem? (i := 55) rfl)) rfl
theorem ff_RX11_27 : Cond.fieldLink RX11 27 (TX11 7).1 (TX11 7).2.1 (TX11 7).2.2.1 ∈ gTab := gTab_in (gTb_5 _ (List.mem_of_getElem? (i := 56) rfl)) rfl
theorem ff_RX11_30 : Cond.fieldLink RX11 30 (TX11 8).1 (TX11 8).2.1 (TX11 8).2.2.1 ∈ gTab := gTab_in (gTb_5 _ (List.mem_of_getElem? (i := 57) rfl)) rfl
theorem ff_RX11_34 : Cond.fieldLink RX11 34 (TX11 9).1 (TX11 9).2.1 (TX11 9).2.2.1 ∈ gTab := gTab_in (gTb_5 _ (List.mem_of_getElem? (i := 58) rfl)) rfl
theorem ff_RX11_40 : Cond.fieldLink RX11 40 (TX11 20).1 (TX11 20).2.1 (TX11 20).2.2.1 ∈ gTab := gTab_in (gTb_5 _ (List.mem_of_getElem? (i := 69) rfl)) rfl
theorem ff_RX11_43 : Cond.fieldLink RX11 43 (TX11 21).1 (TX11 21).2.1 (TX11 21).2.2.1 ∈ gTab := gTab_in (gTb_5 _ (List.mem_of_getElem? (i := 70) rfl)) rfl
theorem ff_RX11_46 : Cond.fieldLink RX11 46 (TX11 22).1 (TX11 22).2.1 (TX11 22).2.2.1 ∈ gTab := gTab_in (gTb_5 _ (List.mem_of_getElem? (i := 71) rfl)) rfl
theorem ff_RX11_49 : Cond.fieldLink RX11 49 (TX11 23).1 (TX11 23).2.1 (TX11 23).2.2.1 ∈ gTab := gTab_in (gTb_5 _ (List.mem_of_getElem? (i := 72) rfl)) rfl
theorem ff_RX11_52 : Cond.fieldLink RX11 52 (TX11 24).1 (TX11 24).2.1 (TX11 24).2.2.1 ∈ gTab := gTab_in (gTb_5 _ (List.mem_of_getElem? (i := 73) rfl)) rfl
theorem ff_RX11_55 : Cond.fieldLink RX11 55 (TX11 25).1 (TX11 25).2.1 (TX11 25).2.2.1 ∈ gTab := gTab_in (gTb_5 _ (List.mem_of_getElem? (i := 74) rfl)) rfl
theorem ff_RX11_58 : Cond.fieldLink RX11 58 (TX11 26).1 (TX11 26).2.1 (TX11 26).2.2.1 ∈ gTab := gTab_in (gTb_5 _ (List.mem_of_getElem? (i := 75) rfl)) rfl
theorem ff_RX11_61 : Cond.fieldLink RX11 61 (TX11 27).1 (TX11 27).2.1 (TX11 27).2.2.1 ∈ gTab := gTab_in (gTb_5 _ (List.mem_of_getElem? (i := 76) rfl)) rfl
theorem ff_RX11_64 : Cond.fieldLink RX11 64 (TX11 28).1 (TX11 28).2.1 (TX11 28).2.2.1 ∈ gTab := gTab_in (gTb_5 _ (List.mem_of_getElem? (i := 77) rfl)) rfl
theorem ff_RX11_67 : Cond.fieldLink RX11 67 (TX11 29).1 (TX11 29).2.1 (TX11 29).2.2.1 ∈ gTab := gTab_in (gTb_5 _ (List.mem_of_getElem? (i := 78) rfl)) rfl
theorem ff_RX11_70 : Cond.fieldLink RX11 70 (TX11 30).1 (TX11 30).2.1 (TX11 30).2.2.1 ∈ gTab := gTab_in (gTb_5 _ (List.mem_of_getElem? (i := 79) rfl)) rfl
theorem ff_RX11_73 : Cond.fieldLink RX11 73 (TX11 31).1 (TX11 31).2.1 (TX11 31).2.2.1 ∈ gTab := gTab_in (gTb_5 _ (List.mem_of_getElem? (i := 80) rfl)) rfl
theorem ff_RX11_76 : Cond.fieldLink RX11 76 (TX11 32).1 (TX11 32).2.1 (TX11 32).2.2.1 ∈ gTab := gTab_in (gTb_5 _ (List.mem_of_getElem? (i := 81) rfl)) rfl
theorem ff_RX11_79 : Cond.fieldLink RX11 79 (TX11 33).1 (TX11 33).2.1 (TX11 33).2.2.1 ∈ gTab := gTab_in (gTb_5 _ (List.mem_of_getElem? (i := 82) rfl)) rfl
theorem ff_RX11_82 : Cond.fieldLink RX11 82 (TX11 35).1 (TX11 35).2.1 (TX11 35).2.2.1 ∈ gTab := gTab_in (gTb_5 _ (List.mem_of_getElem? (i := 84) rfl)) rfl
theorem ff_RX11_85 : Cond.fieldLink RX11 85 (TX11 36).1 (TX11 36).2.1 (TX11 36).2.2.1 ∈ gTab := gTab_in (gTb_5 _ (List.mem_of_getElem? (i := 85) rfl)) rfl
theorem ff_RX11_88 : Cond.fieldLink RX11 88 (TX11 39).1 (TX11 39).2.1 (TX11 39).2.2.1 ∈ gTab := gTab_in (gTb_5 _ (List.mem_of_getElem? (i := 88) rfl)) rfl
theorem ff_RX11_91 : Cond.fieldLink RX11 91 (TX11 41).1 (TX11 41).2.1 (TX11 41).2.2.1 ∈ gTab := gTab_in (gTb_5 _ (List.mem_of_getElem? (i := 90) rfl)) rfl
theorem ff_RX11_94 : Cond.fieldLink RX11 94 (TX11 44).1 (TX11 44).2.1 (TX11 44).2.2.1 ∈ gTab := gTab_in (gTb_5 _ (List.mem_of_getElem? (i := 93) rfl)) rfl
theorem ff_RX11_97 : Cond.fieldLink RX11 97 (TX11 45).1 (TX11 45).2.1 (TX11 45).2.2.1 ∈ gTab := gTab_in (gTb_5 _ (List.mem_of_getElem? (i := 94) rfl)) rfl
theorem ff_RX11_100 : Cond.fieldLink RX11 100 (TX11 46).1 (TX11 46).2.1 (TX11 46).2.2.1 ∈ gTab := gTab_in (gTb_5 _ (List.mem_of_getElem? (i := 95) rfl)) rfl
theorem ff_RX11_103 : Cond.fieldLink RX11 103 (TX11 48).1 (TX11 48).2.1 (TX11 48).2.2.1 ∈ gTab := gTab_in (gTb_5 _ (List.mem_of_getElem? (i := 97) rfl)) rfl
theorem ff_RX11_106 : Cond.fieldLink RX11 106 (TX11 49).1 (TX11 49).2.1 (TX11 49).2.2.1 ∈ gTab := gTab_in (gTb_5 _ (List.mem_of_getElem? (i := 98) rfl)) rfl
theorem ff_RX11_109 : Cond.fieldLink RX11 109 (TX11 50).1 (TX11 50).2.1 (TX11 50).2.2.1 ∈ gTab := gTab_in (gTb_5 _ (List.mem_of_getElem? (i := 99) rfl)) rfl
theorem ff_RX11_112 : Cond.fieldLink RX11 112 (TX11 55).1 (TX11 55).2.1 (TX11 55).2.2.1 ∈ gTab := gTab_in (gTb_5 _ (List.mem_of_getElem? (i := 104) rfl)) rfl
theorem ff_RX11_115 : Cond.fieldLink RX11 115 (TX11 56).1 (TX11 56).2.1 (TX11 56).2.2.1 ∈ gTab := gTab_in (gTb_5 _ (List.mem_of_getElem? (i := 105) rfl)) rfl
theorem ff_RX11_118 : Cond.fieldLink RX11 118 (TX11 57).1 (TX11 57).2.1 (TX11 57).2.2.1 ∈ gTab := gTab_in (gTb_5 _ (List.mem_of_getElem? (i := 106) rfl)) rfl
theorem ff_RX11_121 : Cond.fieldLink RX11 121 (TX11 58).1 (TX11 58).2.1 (TX11 58).2.2.1 ∈ gTab := gTab_in (gTb_5 _ (List.mem_of_getElem? (i := 107) rfl)) rfl
theorem ff_RX11_124 : Cond.fieldLink RX11 124 (TX11 59).1 (TX11 59).2.1 (TX11 59).2.2.1 ∈ gTab := gTab_in (gTb_5 _ (List.mem_of_getElem? (i := 108) rfl)) rfl
theorem ff_RX11_127 : Cond.fieldLink RX11 127 (TX11 60).1 (TX11 60).2.1 (TX11 60).2.2.1 ∈ gTab := gTab_in (gTb_5 _ (List.mem_of_getElem? (i := 109) rfl)) rfl
theorem ff_RX11_130 : Cond.fieldLink RX11 130 (TX11 61).1 (TX11 61).2.1 (TX11 61).2.2.1 ∈ gTab := gTab_in (gTb_5 _ (List.mem_of_getElem? (i := 110) rfl)) rfl
theorem ff_RX11_133 : Cond.fieldLink RX11 133 (TX11 62).1 (TX11 62).2.1 (TX11 62).2.2.1 ∈ gTab := gTab_in (gTb_5 _ (List.mem_of_getElem? (i := 111) rfl)) rfl
theorem ff_RX11_136 : Cond.fieldLink RX11 136 (TX11 63).1 (TX11 63).2.1 (TX11 63).2.2.1 ∈ gTab := gTab_in (gTb_5 _ (List.mem_of_getElem? (i := 112) rfl)) rfl
theorem ff_RX11_139 : Cond.fieldLink RX11 139 (TX11 64).1 (TX11 64).2.1 (TX11 64).2.2.1 ∈ gTab := gTab_in (gTb_5 _ (List.mem_of_getElem? (i := 113) rfl)) rfl
theorem ff_RX11_142 : Cond.fieldLink RX11 142 (TX11 69).1 (TX11 69).2.1 (TX11 69).2.2.1 ∈ gTab := gTab_in (gTb_5 _ (List.mem_of_getElem? (i := 118) rfl)) rfl
theorem ff_RX11_146 : Cond.fieldLink RX11 146 (TX11 70).1 (TX11 70).2.1 (TX11 70).2.2.1 ∈ gTab := gTab_in (gTb_5 _ (List.mem_of_getElem? (i := 119) rfl)) rfl
theorem ff_RX11_149 : Cond.fieldLink RX11 149 (TX11 71).1 (TX11 71).2.1 (TX11 71).2.2.1 ∈ gTab := gTab_in (gTb_5 _ (List.mem_of_getElem? (i := 120) rfl)) rfl
theorem ff_RX11_152 : Cond.fieldLink RX11 152 (TX11 73).1 (TX11 73).2.1 (TX11 73).2.2.1 ∈ gTab := gTab_in (gTb_5 _ (List.mem_of_getElem? (i := 122) rfl)) rfl
theorem ff_RX11_155 : Cond.fieldLink RX11 155 (TX11 74).1 (TX11 74).2.1 (TX11 74).2.2.1 ∈ gTab := gTab_in (gTb_5 _ (List.mem_of_getElem? (i := 123) rfl)) rfl
theorem ff_RX11_159 : Cond.fieldLink RX11 159 (TX11 75).1 (TX11 75).2.1 (TX11 75).2.2.1 ∈ gTab := gTab_in (gTb_5 _ (List.mem_of_getElem? (i := 124) rfl)) rfl
theorem ff_RX11_162 : Cond.fieldLink RX11 162 (TX11 76).1 (TX11 76).2.1 (TX11 76).2.2.1 ∈ gTab := gTab_in (gTb_5 _ (List.mem_of_getElem? (i := 125) rfl)) rfl
theorem ff_RX11_165 : Cond.fieldLink RX11 165 (TX11 77).1 (TX11 77).2.1 (TX11 77).2.2.1 ∈ gTab := gTab_in (gTb_5 _ (List.mem_of_getElem? (i := 126) rfl)) rfl
theorem ff_RX11_168 : Cond.fieldLink RX11 168 (TX11 78).1 (TX11 78).2.1 (TX11 78).2.2.1 ∈ gTab := gTab_in (gTb_5 _ (List.mem_of_getElem? (i := 127) rfl)) rfl
theorem ff_RX11_171 : Cond.fieldLink RX11 171 (TX11 79).1 (TX11 79).2.1 (TX11 79).2.2.1 ∈ gTab := gTab_in (gTb_5 _ (List.mem_of_getElem? (i := 128) rfl)) rfl
theorem ff_RX11_174 : Cond.fieldLink RX11 174 (TX11 81).1 (TX11 81).2.1 (TX11 81).2.2.1 ∈ gTab := gTab_in (gTb_5 _ (List.mem_of_getElem? (i := 130) rfl)) rfl
theorem ff_RX11_177 : Cond.fieldLink RX11 177 (TX11 82).1 (TX11 82).2.1 (TX11 82).2.2.1 ∈ gTab := gTab_in (gTb_5 _ (List.mem_of_getElem? (i := 131) rfl)) rfl
theorem ff_RX11_180 : Cond.fieldLink RX11 180 (TX11 83).1 (TX11 83).2.1 (TX11 83).2.2.1 ∈ gTab := gTab_in (gTb_5 _ (List.mem_of_getElem? (i := 132) rfl)) rfl
theorem ff_RX11_183 : Cond.fieldLink RX11 183 (TX11 84).1 (TX11 84).2.1 (TX11 84).2.2.1 ∈ gTab := gTab_in (gTb_5 _ (List.mem_of_getElem? (i := 133) rfl)) rfl
theorem ff_RX11_186 : Cond.fieldLink RX11 186 (TX11 85).1 (TX11 85).2.1 (TX11 85).2.2.1 ∈ gTab := gTab_in (gTb_5 _ (List.mem_of_getElem? (i := 134) rfl)) rfl
theorem ff_RX11_189 : Cond.fieldLink RX11 189 (TX11 86).1 (TX11 86).2.1 (TX11 86).2.2.1 ∈ gTab := gTab_in (gTb_5 _ (List.mem_of_getElem? (i := 135) rfl)) rfl
theorem fl_RX3_9 : gLk RX3 9 0 (RX3, TX3, 4) := Or.inl (gTab_in (gTb_2 _ (List.mem_of_getElem? (i := 41) rfl)) rfl)
theorem mk_RX11_192 : Cond.methodLink RX11 192 yX11_word ∈ gTab := gTab_in (gTb_5 _ (List.mem_of_getElem? (i := 40) rfl)) rfl
theorem cs_RX11_145 : Cond.constant RX11 145 (45056) ∈ gTab := gTab_in (gTb_5 _ (List.mem_of_getElem? (i := 39) rfl)) rfl

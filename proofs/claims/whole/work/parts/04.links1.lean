theorem mk_RX2_70 : Cond.methodLink RX2 70 yX2_accept ∈ gTab := gTab_in (gTb_3 _ (List.mem_of_getElem? (i := 99) rfl)) rfl
theorem mk_RX2_82 : Cond.methodLink RX2 82 yX2_parseNumbers ∈ gTab := gTab_in (gTb_3 _ (List.mem_of_getElem? (i := 103) rfl)) rfl
theorem mk_RX2_91 : Cond.methodLink RX2 91 yX2_parseSum ∈ gTab := gTab_in (gTb_3 _ (List.mem_of_getElem? (i := 107) rfl)) rfl
theorem mk_RX2_97 : Cond.methodLink RX2 97 yX2_parseProduct ∈ gTab := gTab_in (gTb_3 _ (List.mem_of_getElem? (i := 111) rfl)) rfl
theorem mk_RX2_100 : Cond.methodLink RX2 100 yX5_addStep ∈ gTab := gTab_in (gTb_3 _ (List.mem_of_getElem? (i := 123) rfl)) rfl
theorem mk_RX2_103 : Cond.methodLink RX2 103 yX2_parseUnit ∈ gTab := gTab_in (gTb_3 _ (List.mem_of_getElem? (i := 115) rfl)) rfl
theorem mk_RX2_106 : Cond.methodLink RX2 106 yX9_valueAt ∈ gTab := gTab_in (gTb_3 _ (List.mem_of_getElem? (i := 119) rfl)) rfl
theorem mk_RX2_110 : Cond.methodLink RX2 110 yX2_parsePair ∈ gTab := gTab_in (gTb_3 _ (List.mem_of_getElem? (i := 127) rfl)) rfl
theorem mk_RX2_113 : Cond.methodLink RX2 113 yX2_openBracket ∈ gTab := gTab_in (gTb_3 _ (List.mem_of_getElem? (i := 131) rfl)) rfl
theorem mk_RX2_116 : Cond.methodLink RX2 116 yX2_parseInside ∈ gTab := gTab_in (gTb_3 _ (List.mem_of_getElem? (i := 135) rfl)) rfl
theorem mk_RX2_127 : Cond.methodLink RX2 127 yX2_sourceNamed ∈ gTab := gTab_in (gTb_3 _ (List.mem_of_getElem? (i := 143) rfl)) rfl
theorem mk_RX2_131 : Cond.methodLink RX2 131 yX2_isToldAhead ∈ gTab := gTab_in (gTb_3 _ (List.mem_of_getElem? (i := 148) rfl)) rfl
theorem mk_RX2_135 : Cond.methodLink RX2 135 yX2_resolveNames ∈ gTab := gTab_in (gTb_3 _ (List.mem_of_getElem? (i := 152) rfl)) rfl
theorem mk_RX2_141 : Cond.methodLink RX2 141 yX2_checkedInt ∈ gTab := gTab_in (gTb_3 _ (List.mem_of_getElem? (i := 160) rfl)) rfl
theorem mk_RX2_161 : Cond.methodLink RX2 161 yX2_resolveStep ∈ gTab := gTab_in (gTb_3 _ (List.mem_of_getElem? (i := 156) rfl)) rfl
theorem mk_RX4_62 : Cond.methodLink RX4 62 yX4_nextToLeave ∈ gTab := gTab_in (gTb_4 _ (List.mem_of_getElem? (i := 109) rfl)) rfl
theorem mk_RX4_66 : Cond.methodLink RX4 66 yX4_findWay ∈ gTab := gTab_in (gTb_4 _ (List.mem_of_getElem? (i := 129) rfl)) rfl
theorem mk_RX4_72 : Cond.methodLink RX4 72 yX4_writePlan ∈ gTab := gTab_in (gTb_4 _ (List.mem_of_getElem? (i := 187) rfl)) rfl
theorem mk_RX4_76 : Cond.methodLink RX4 76 yX4_isLeftBefore ∈ gTab := gTab_in (gTb_4 _ (List.mem_of_getElem? (i := 113) rfl)) rfl
theorem mk_RX4_80 : Cond.methodLink RX4 80 Lib.Math.max.name ∈ gTab := gTab_in (gTb_4 _ (List.mem_of_getElem? (i := 128) rfl)) rfl
theorem mk_RX4_85 : Cond.methodLink RX4 85 yX4_worthOf ∈ gTab := gTab_in (gTb_4 _ (List.mem_of_getElem? (i := 117) rfl)) rfl
theorem mk_RX4_89 : Cond.methodLink RX4 89 yJ6_compare_7cf53 ∈ gTab := gTab_in (gTb_4 _ (List.mem_of_getElem? (i := 121) rfl)) rfl
theorem mk_RX4_94 : Cond.methodLink RX4 94 yJ6_bitCount_0f7a4 ∈ gTab := gTab_in (gTb_4 _ (List.mem_of_getElem? (i := 124) rfl)) rfl
theorem mk_RX4_97 : Cond.methodLink RX4 97 yJ6_lowestOneBit_0f7a4 ∈ gTab := gTab_in (gTb_4 _ (List.mem_of_getElem? (i := 125) rfl)) rfl
theorem mk_RX4_113 : Cond.methodLink RX4 113 yX4_optionShift ∈ gTab := gTab_in (gTb_4 _ (List.mem_of_getElem? (i := 176) rfl)) rfl
theorem mk_RX4_116 : Cond.methodLink RX4 116 yX4_keepAllBut ∈ gTab := gTab_in (gTb_4 _ (List.mem_of_getElem? (i := 133) rfl)) rfl
theorem mk_RX4_120 : Cond.methodLink RX4 120 yX4_clearNextWays ∈ gTab := gTab_in (gTb_4 _ (List.mem_of_getElem? (i := 145) rfl)) rfl
theorem mk_RX4_123 : Cond.methodLink RX4 123 yX4_listOptions ∈ gTab := gTab_in (gTb_4 _ (List.mem_of_getElem? (i := 150) rfl)) rfl
theorem mk_RX4_126 : Cond.methodLink RX4 126 yX4_spread ∈ gTab := gTab_in (gTb_4 _ (List.mem_of_getElem? (i := 168) rfl)) rfl
theorem mk_RX4_130 : Cond.methodLink RX4 130 yX4_swapWays ∈ gTab := gTab_in (gTb_4 _ (List.mem_of_getElem? (i := 179) rfl)) rfl
theorem mk_RX4_136 : Cond.methodLink RX4 136 yX4_unpackLeases ∈ gTab := gTab_in (gTb_4 _ (List.mem_of_getElem? (i := 183) rfl)) rfl
theorem mk_RX4_142 : Cond.methodLink RX4 142 yX4_firstLease ∈ gTab := gTab_in (gTb_4 _ (List.mem_of_getElem? (i := 137) rfl)) rfl
theorem mk_RX4_149 : Cond.methodLink RX4 149 Lib.Math.min.name ∈ gTab := gTab_in (gTb_4 _ (List.mem_of_getElem? (i := 142) rfl)) rfl
theorem mk_RX4_152 : Cond.methodLink RX4 152 yX0_ageAt ∈ gTab := gTab_in (gTb_4 _ (List.mem_of_getElem? (i := 141) rfl)) rfl
theorem mk_RX4_163 : Cond.methodLink RX4 163 yX6_downAt ∈ gTab := gTab_in (gTb_4 _ (List.mem_of_getElem? (i := 154) rfl)) rfl
theorem mk_RX4_166 : Cond.methodLink RX4 166 yX4_needsOf ∈ gTab := gTab_in (gTb_4 _ (List.mem_of_getElem? (i := 155) rfl)) rfl
theorem mk_RX4_172 : Cond.methodLink RX4 172 yX4_renewedWith ∈ gTab := gTab_in (gTb_4 _ (List.mem_of_getElem? (i := 159) rfl)) rfl
theorem mk_RX4_175 : Cond.methodLink RX4 175 yX6_costOf ∈ gTab := gTab_in (gTb_4 _ (List.mem_of_getElem? (i := 163) rfl)) rfl
theorem mk_RX4_181 : Cond.methodLink RX4 181 yX4_addOption ∈ gTab := gTab_in (gTb_4 _ (List.mem_of_getElem? (i := 164) rfl)) rfl
theorem mk_RX4_188 : Cond.methodLink RX4 188 yX4_codeBehind ∈ gTab := gTab_in (gTb_4 _ (List.mem_of_getElem? (i := 172) rfl)) rfl
theorem mk_RX5_67 : Cond.methodLink RX5 67 yX5_evaluate ∈ gTab := gTab_in (gTb_3 _ (List.mem_of_getElem? (i := 231) rfl)) rfl
theorem mk_RX5_74 : Cond.methodLink RX5 74 Lib.Math.max.name ∈ gTab := gTab_in (gTb_3 _ (List.mem_of_getElem? (i := 235) rfl)) rfl
theorem mk_RX5_80 : Cond.methodLink RX5 80 yX5_doStep ∈ gTab := gTab_in (gTb_3 _ (List.mem_of_getElem? (i := 238) rfl)) rfl
theorem mk_RX5_84 : Cond.methodLink RX5 84 yX5_pop ∈ gTab := gTab_in (gTb_4 _ (List.mem_of_getElem? (i := 6) rfl)) rfl
theorem mk_RX5_88 : Cond.methodLink RX5 88 yX5_push ∈ gTab := gTab_in (gTb_4 _ (List.mem_of_getElem? (i := 2) rfl)) rfl
theorem mk_RX5_92 : Cond.methodLink RX5 92 yX5_combine ∈ gTab := gTab_in (gTb_4 _ (List.mem_of_getElem? (i := 10) rfl)) rfl
theorem mk_RX5_96 : Cond.methodLink RX5 96 Lib.MathLoose.min_long.x ∈ gTab := gTab_in (gTb_4 _ (List.mem_of_getElem? (i := 13) rfl)) rfl
theorem mk_RX5_100 : Cond.methodLink RX5 100 Lib.MathLoose.max_long.x ∈ gTab := gTab_in (gTb_4 _ (List.mem_of_getElem? (i := 16) rfl)) rfl
theorem mk_RX6_53 : Cond.methodLink RX6 53 yX6_costOf ∈ gTab := gTab_in (gTb_3 _ (List.mem_of_getElem? (i := 211) rfl)) rfl
theorem mk_RX9_26 : Cond.methodLink RX9 26 yX9_skipBlanks ∈ gTab := gTab_in (gTb_3 _ (List.mem_of_getElem? (i := 31) rfl)) rfl
theorem mk_RX9_30 : Cond.methodLink RX9 30 yX9_addToken ∈ gTab := gTab_in (gTb_3 _ (List.mem_of_getElem? (i := 41) rfl)) rfl
theorem mk_RX9_33 : Cond.methodLink RX9 33 yX7_byteAt ∈ gTab := gTab_in (gTb_3 _ (List.mem_of_getElem? (i := 34) rfl)) rfl
theorem mk_RX9_39 : Cond.methodLink RX9 39 yX9_put ∈ gTab := gTab_in (gTb_3 _ (List.mem_of_getElem? (i := 45) rfl)) rfl
theorem mk_RX9_43 : Cond.methodLink RX9 43 yX9_isLetter ∈ gTab := gTab_in (gTb_3 _ (List.mem_of_getElem? (i := 49) rfl)) rfl
theorem mk_RX9_47 : Cond.methodLink RX9 47 yX9_addName ∈ gTab := gTab_in (gTb_3 _ (List.mem_of_getElem? (i := 52) rfl)) rfl
theorem mk_RX9_50 : Cond.methodLink RX9 50 yX9_isDigit ∈ gTab := gTab_in (gTb_3 _ (List.mem_of_getElem? (i := 56) rfl)) rfl
theorem mk_RX9_53 : Cond.methodLink RX9 53 yX9_addInt ∈ gTab := gTab_in (gTb_3 _ (List.mem_of_getElem? (i := 66) rfl)) rfl
theorem mk_RX9_56 : Cond.methodLink RX9 56 yX9_isSign ∈ gTab := gTab_in (gTb_3 _ (List.mem_of_getElem? (i := 72) rfl)) rfl
theorem mk_RX9_62 : Cond.methodLink RX9 62 yX9_kindOfWord ∈ gTab := gTab_in (gTb_3 _ (List.mem_of_getElem? (i := 59) rfl)) rfl
theorem mk_RX9_70 : Cond.methodLink RX9 70 yX9_isBlank ∈ gTab := gTab_in (gTb_3 _ (List.mem_of_getElem? (i := 38) rfl)) rfl
theorem mk_RL_13 : Cond.methodLink RL 13 yX10_feed ∈ gTab := gTab_in (gTb_3 _ (List.mem_of_getElem? (i := 3) rfl)) rfl
theorem mk_RL_17 : Cond.methodLink RL 17 yX11_feed ∈ gTab := gTab_in (gTb_6 _ (List.mem_of_getElem? (i := 72) rfl)) rfl
theorem mk_RL_18 : Cond.methodLink RL 18 yX10_back ∈ gTab := gTab_in (gTb_3 _ (List.mem_of_getElem? (i := 11) rfl)) rfl
theorem mk_RL_22 : Cond.methodLink RL 22 yX11_back ∈ gTab := gTab_in (gTb_6 _ (List.mem_of_getElem? (i := 80) rfl)) rfl
theorem mk_RL_23 : Cond.methodLink RL 23 yX10_read ∈ gTab := gTab_in (gTb_3 _ (List.mem_of_getElem? (i := 15) rfl)) rfl
theorem mk_RL_27 : Cond.methodLink RL 27 yX11_read ∈ gTab := gTab_in (gTb_6 _ (List.mem_of_getElem? (i := 84) rfl)) rfl
theorem mk_RL_28 : Cond.methodLink RL 28 yX10_place ∈ gTab := gTab_in (gTb_3 _ (List.mem_of_getElem? (i := 172) rfl)) rfl
theorem mk_RL_31 : Cond.methodLink RL 31 yX11_place ∈ gTab := gTab_in (gTb_6 _ (List.mem_of_getElem? (i := 163) rfl)) rfl
theorem mk_RL_32 : Cond.methodLink RL 32 yX10_cost ∈ gTab := gTab_in (gTb_3 _ (List.mem_of_getElem? (i := 176) rfl)) rfl
theorem mk_RL_36 : Cond.methodLink RL 36 yX11_cost ∈ gTab := gTab_in (gTb_6 _ (List.mem_of_getElem? (i := 167) rfl)) rfl
theorem mk_RL_37 : Cond.methodLink RL 37 yX10_budget ∈ gTab := gTab_in (gTb_3 _ (List.mem_of_getElem? (i := 183) rfl)) rfl
theorem mk_RL_41 : Cond.methodLink RL 41 yX11_budget ∈ gTab := gTab_in (gTb_6 _ (List.mem_of_getElem? (i := 174) rfl)) rfl
theorem mk_RL_42 : Cond.methodLink RL 42 yX10_value ∈ gTab := gTab_in (gTb_3 _ (List.mem_of_getElem? (i := 187) rfl)) rfl
theorem mk_RL_46 : Cond.methodLink RL 46 yX11_value ∈ gTab := gTab_in (gTb_6 _ (List.mem_of_getElem? (i := 178) rfl)) rfl
theorem mk_RL_47 : Cond.methodLink RL 47 yX10_down ∈ gTab := gTab_in (gTb_3 _ (List.mem_of_getElem? (i := 195) rfl)) rfl
theorem mk_RL_51 : Cond.methodLink RL 51 yX11_down ∈ gTab := gTab_in (gTb_6 _ (List.mem_of_getElem? (i := 182) rfl)) rfl
theorem mk_RL_52 : Cond.methodLink RL 52 yX10_ask ∈ gTab := gTab_in (gTb_3 _ (List.mem_of_getElem? (i := 203) rfl)) rfl
theorem mk_RL_55 : Cond.methodLink RL 55 yX11_ask ∈ gTab := gTab_in (gTb_6 _ (List.mem_of_getElem? (i := 186) rfl)) rfl
theorem mk_RL_56 : Cond.methodLink RL 56 yX10_tick ∈ gTab := gTab_in (gTb_4 _ (List.mem_of_getElem? (i := 24) rfl)) rfl
theorem mk_RL_59 : Cond.methodLink RL 59 yX11_tick ∈ gTab := gTab_in (gTb_6 _ (List.mem_of_getElem? (i := 206) rfl)) rfl
theorem mk_RL_60 : Cond.methodLink RL 60 yX10_look ∈ gTab := gTab_in (gTb_4 _ (List.mem_of_getElem? (i := 36) rfl)) rfl
theorem mk_RL_63 : Cond.methodLink RL 63 yX11_look ∈ gTab := gTab_in (gTb_6 _ (List.mem_of_getElem? (i := 210) rfl)) rfl
theorem mk_RL_64 : Cond.methodLink RL 64 yX10_shows ∈ gTab := gTab_in (gTb_4 _ (List.mem_of_getElem? (i := 44) rfl)) rfl
theorem mk_RL_68 : Cond.methodLink RL 68 yX11_shows ∈ gTab := gTab_in (gTb_6 _ (List.mem_of_getElem? (i := 218) rfl)) rfl
theorem mk_RL_69 : Cond.methodLink RL 69 yX10_showed ∈ gTab := gTab_in (gTb_4 _ (List.mem_of_getElem? (i := 56) rfl)) rfl
theorem mk_RL_73 : Cond.methodLink RL 73 yX11_showed ∈ gTab := gTab_in (gTb_6 _ (List.mem_of_getElem? (i := 222) rfl)) rfl
theorem mk_RL_74 : Cond.methodLink RL 74 yX10_box ∈ gTab := gTab_in (gTb_4 _ (List.mem_of_getElem? (i := 57) rfl)) rfl
theorem mk_RL_78 : Cond.methodLink RL 78 yX11_box ∈ gTab := gTab_in (gTb_6 _ (List.mem_of_getElem? (i := 230) rfl)) rfl
theorem mk_RL_79 : Cond.methodLink RL 79 yX10_aged ∈ gTab := gTab_in (gTb_4 _ (List.mem_of_getElem? (i := 75) rfl)) rfl
theorem mk_RL_82 : Cond.methodLink RL 82 yX11_aged ∈ gTab := gTab_in (gTb_6 _ (List.mem_of_getElem? (i := 226) rfl)) rfl
theorem mk_RL_83 : Cond.methodLink RL 83 yX10_let ∈ gTab := gTab_in (gTb_4 _ (List.mem_of_getElem? (i := 79) rfl)) rfl
theorem mk_RL_86 : Cond.methodLink RL 86 yX11_let ∈ gTab := gTab_in (gTb_6 _ (List.mem_of_getElem? (i := 238) rfl)) rfl
theorem mk_RL_87 : Cond.methodLink RL 87 yX10_plan ∈ gTab := gTab_in (gTb_4 _ (List.mem_of_getElem? (i := 83) rfl)) rfl
theorem mk_RL_90 : Cond.methodLink RL 90 yX11_plan ∈ gTab := gTab_in (gTb_7 _ (List.mem_of_getElem? (i := 2) rfl)) rfl
theorem mk_RL_91 : Cond.methodLink RL 91 yX10_planned ∈ gTab := gTab_in (gTb_4 _ (List.mem_of_getElem? (i := 191) rfl)) rfl
theorem mk_RL_94 : Cond.methodLink RL 94 yX11_planned ∈ gTab := gTab_in (gTb_7 _ (List.mem_of_getElem? (i := 46) rfl)) rfl
theorem mk_RL_95 : Cond.methodLink RL 95 yX10_left ∈ gTab := gTab_in (gTb_4 _ (List.mem_of_getElem? (i := 195) rfl)) rfl
theorem mk_RL_98 : Cond.methodLink RL 98 yX11_left ∈ gTab := gTab_in (gTb_7 _ (List.mem_of_getElem? (i := 50) rfl)) rfl
theorem mk_RL_99 : Cond.methodLink RL 99 yX10_follow ∈ gTab := gTab_in (gTb_4 _ (List.mem_of_getElem? (i := 199) rfl)) rfl
theorem mk_RL_102 : Cond.methodLink RL 102 yX11_follow ∈ gTab := gTab_in (gTb_7 _ (List.mem_of_getElem? (i := 54) rfl)) rfl
theorem mk_RL_103 : Cond.methodLink RL 103 yX10_fix ∈ gTab := gTab_in (gTb_4 _ (List.mem_of_getElem? (i := 205) rfl)) rfl
theorem mk_RL_106 : Cond.methodLink RL 106 yX11_fix ∈ gTab := gTab_in (gTb_7 _ (List.mem_of_getElem? (i := 59) rfl)) rfl
theorem mk_RL_107 : Cond.methodLink RL 107 yX10_lay ∈ gTab := gTab_in (gTb_4 _ (List.mem_of_getElem? (i := 221) rfl)) rfl
theorem mk_RL_110 : Cond.methodLink RL 110 yX11_lay ∈ gTab := gTab_in (gTb_7 _ (List.mem_of_getElem? (i := 67) rfl)) rfl
theorem mk_RL_111 : Cond.methodLink RL 111 yX10_at ∈ gTab := gTab_in (gTb_5 _ (List.mem_of_getElem? (i := 17) rfl)) rfl
theorem mk_RL_114 : Cond.methodLink RL 114 yX11_at_ ∈ gTab := gTab_in (gTb_7 _ (List.mem_of_getElem? (i := 87) rfl)) rfl
theorem mk_RL_115 : Cond.methodLink RL 115 yX10_unseen ∈ gTab := gTab_in (gTb_5 _ (List.mem_of_getElem? (i := 21) rfl)) rfl
theorem mk_RL_118 : Cond.methodLink RL 118 yX11_unseen ∈ gTab := gTab_in (gTb_7 _ (List.mem_of_getElem? (i := 91) rfl)) rfl
theorem mk_RL_119 : Cond.methodLink RL 119 yX10_count ∈ gTab := gTab_in (gTb_5 _ (List.mem_of_getElem? (i := 25) rfl)) rfl
theorem mk_RL_122 : Cond.methodLink RL 122 yX11_count ∈ gTab := gTab_in (gTb_7 _ (List.mem_of_getElem? (i := 95) rfl)) rfl
theorem mk_RX11_202 : Cond.methodLink RX11 202 yX11_put ∈ gTab := gTab_in (gTb_6 _ (List.mem_of_getElem? (i := 76) rfl)) rfl
theorem mk_RX11_211 : Cond.methodLink RX11 211 yX11_isDigit ∈ gTab := gTab_in (gTb_5 _ (List.mem_of_getElem? (i := 47) rfl)) rfl
theorem mk_RX11_215 : Cond.methodLink RX11 215 yX11_more ∈ gTab := gTab_in (gTb_5 _ (List.mem_of_getElem? (i := 43) rfl)) rfl
theorem mk_RX11_222 : Cond.methodLink RX11 222 yX11_at ∈ gTab := gTab_in (gTb_6 _ (List.mem_of_getElem? (i := 92) rfl)) rfl
theorem mk_RX11_226 : Cond.methodLink RX11 226 yX11_token ∈ gTab := gTab_in (gTb_6 _ (List.mem_of_getElem? (i := 96) rfl)) rfl
theorem mk_RX11_230 : Cond.methodLink RX11 230 yX11_isLetter ∈ gTab := gTab_in (gTb_6 _ (List.mem_of_getElem? (i := 100) rfl)) rfl
theorem mk_RX11_248 : Cond.methodLink RX11 248 yX11_fail ∈ gTab := gTab_in (gTb_6 _ (List.mem_of_getElem? (i := 111) rfl)) rfl
theorem mk_RX11_251 : Cond.methodLink RX11 251 yX11_is ∈ gTab := gTab_in (gTb_6 _ (List.mem_of_getElem? (i := 103) rfl)) rfl
theorem mk_RX11_254 : Cond.methodLink RX11 254 yX11_next ∈ gTab := gTab_in (gTb_6 _ (List.mem_of_getElem? (i := 115) rfl)) rfl
theorem mk_RX11_257 : Cond.methodLink RX11 257 yX11_cut ∈ gTab := gTab_in (gTb_6 _ (List.mem_of_getElem? (i := 88) rfl)) rfl
theorem mk_RX11_272 : Cond.methodLink RX11 272 yX11_tell ∈ gTab := gTab_in (gTb_6 _ (List.mem_of_getElem? (i := 107) rfl)) rfl
theorem mk_RX11_282 : Cond.methodLink RX11 282 yX11_sourceOf ∈ gTab := gTab_in (gTb_6 _ (List.mem_of_getElem? (i := 139) rfl)) rfl
theorem mk_RX11_285 : Cond.methodLink RX11 285 yX11_wrong ∈ gTab := gTab_in (gTb_6 _ (List.mem_of_getElem? (i := 143) rfl)) rfl
theorem mk_RX11_289 : Cond.methodLink RX11 289 yX11_must ∈ gTab := gTab_in (gTb_6 _ (List.mem_of_getElem? (i := 119) rfl)) rfl
theorem mk_RX11_298 : Cond.methodLink RX11 298 yX11_expression ∈ gTab := gTab_in (gTb_6 _ (List.mem_of_getElem? (i := 123) rfl)) rfl
theorem mk_RX11_301 : Cond.methodLink RX11 301 yX11_told ∈ gTab := gTab_in (gTb_6 _ (List.mem_of_getElem? (i := 155) rfl)) rfl
theorem mk_RX11_304 : Cond.methodLink RX11 304 yX11_inRange ∈ gTab := gTab_in (gTb_6 _ (List.mem_of_getElem? (i := 159) rfl)) rfl
theorem mk_RX11_308 : Cond.methodLink RX11 308 yX11_emit ∈ gTab := gTab_in (gTb_6 _ (List.mem_of_getElem? (i := 131) rfl)) rfl
theorem mk_RX11_314 : Cond.methodLink RX11 314 yX11_opens ∈ gTab := gTab_in (gTb_6 _ (List.mem_of_getElem? (i := 127) rfl)) rfl
theorem mk_RX11_317 : Cond.methodLink RX11 317 yX11_named ∈ gTab := gTab_in (gTb_6 _ (List.mem_of_getElem? (i := 135) rfl)) rfl
theorem mk_RX11_320 : Cond.methodLink RX11 320 yX11_inner ∈ gTab := gTab_in (gTb_6 _ (List.mem_of_getElem? (i := 147) rfl)) rfl
theorem mk_RX11_324 : Cond.methodLink RX11 324 yX11_comesOut ∈ gTab := gTab_in (gTb_6 _ (List.mem_of_getElem? (i := 151) rfl)) rfl
theorem mk_RX11_328 : Cond.methodLink RX11 328 yX11_isSource ∈ gTab := gTab_in (gTb_6 _ (List.mem_of_getElem? (i := 171) rfl)) rfl
theorem mk_RX11_340 : Cond.methodLink RX11 340 yX11_term ∈ gTab := gTab_in (gTb_6 _ (List.mem_of_getElem? (i := 202) rfl)) rfl
theorem mk_RX11_347 : Cond.methodLink RX11 347 yX11_costs ∈ gTab := gTab_in (gTb_6 _ (List.mem_of_getElem? (i := 190) rfl)) rfl
theorem mk_RX11_356 : Cond.methodLink RX11 356 yX11_downAt ∈ gTab := gTab_in (gTb_6 _ (List.mem_of_getElem? (i := 194) rfl)) rfl
theorem mk_RX11_359 : Cond.methodLink RX11 359 yX11_reckons ∈ gTab := gTab_in (gTb_6 _ (List.mem_of_getElem? (i := 198) rfl)) rfl
theorem mk_RX11_362 : Cond.methodLink RX11 362 yX11_isBox ∈ gTab := gTab_in (gTb_6 _ (List.mem_of_getElem? (i := 214) rfl)) rfl
theorem mk_RX11_365 : Cond.methodLink RX11 365 yX11_isStale ∈ gTab := gTab_in (gTb_6 _ (List.mem_of_getElem? (i := 234) rfl)) rfl
theorem mk_RX11_371 : Cond.methodLink RX11 371 yX11_begins ∈ gTab := gTab_in (gTb_7 _ (List.mem_of_getElem? (i := 25) rfl)) rfl
theorem mk_RX11_374 : Cond.methodLink RX11 374 yX11_offers ∈ gTab := gTab_in (gTb_7 _ (List.mem_of_getElem? (i := 29) rfl)) rfl
theorem mk_RX11_377 : Cond.methodLink RX11 377 yX11_meets ∈ gTab := gTab_in (gTb_7 _ (List.mem_of_getElem? (i := 33) rfl)) rfl
theorem mk_RX11_380 : Cond.methodLink RX11 380 yX11_settles ∈ gTab := gTab_in (gTb_7 _ (List.mem_of_getElem? (i := 41) rfl)) rfl
theorem mk_RX11_383 : Cond.methodLink RX11 383 yX11_ages ∈ gTab := gTab_in (gTb_7 _ (List.mem_of_getElem? (i := 37) rfl)) rfl
theorem mk_RX11_388 : Cond.methodLink RX11 388 yX11_worthOf ∈ gTab := gTab_in (gTb_7 _ (List.mem_of_getElem? (i := 13) rfl)) rfl
theorem mk_RX11_391 : Cond.methodLink RX11 391 yX11_bits ∈ gTab := gTab_in (gTb_7 _ (List.mem_of_getElem? (i := 6) rfl)) rfl
theorem mk_RX11_394 : Cond.methodLink RX11 394 yX11_isAhead ∈ gTab := gTab_in (gTb_7 _ (List.mem_of_getElem? (i := 9) rfl)) rfl
theorem mk_RX11_398 : Cond.methodLink RX11 398 yX11_chooses ∈ gTab := gTab_in (gTb_7 _ (List.mem_of_getElem? (i := 17) rfl)) rfl
theorem mk_RX11_401 : Cond.methodLink RX11 401 yX11_reckonsBack ∈ gTab := gTab_in (gTb_7 _ (List.mem_of_getElem? (i := 21) rfl)) rfl
theorem mk_RX11_413 : Cond.methodLink RX11 413 yX11_ask ∈ gTab := gTab_in (gTb_7 _ (List.mem_of_getElem? (i := 58) rfl)) rfl
theorem mk_RX11_416 : Cond.methodLink RX11 416 yX11_overlap ∈ gTab := gTab_in (gTb_7 _ (List.mem_of_getElem? (i := 63) rfl)) rfl
theorem mk_RX11_420 : Cond.methodLink RX11 420 yX11_hasRoom ∈ gTab := gTab_in (gTb_7 _ (List.mem_of_getElem? (i := 79) rfl)) rfl
theorem mk_RX11_424 : Cond.methodLink RX11 424 yX11_stands ∈ gTab := gTab_in (gTb_7 _ (List.mem_of_getElem? (i := 71) rfl)) rfl
theorem mk_RX11_428 : Cond.methodLink RX11 428 yX11_comes ∈ gTab := gTab_in (gTb_7 _ (List.mem_of_getElem? (i := 75) rfl)) rfl
theorem mk_RX11_431 : Cond.methodLink RX11 431 yX11_nextOrder ∈ gTab := gTab_in (gTb_7 _ (List.mem_of_getElem? (i := 83) rfl)) rfl
theorem cs_RX1_40 : Cond.constant RX1 40 (2147483647) ∈ gTab := gTab_in (gTb_4 _ (List.mem_of_getElem? (i := 234) rfl)) rfl
theorem cs_RX11_387 : Cond.constant RX11 387 (1000000) ∈ gTab := gTab_in (gTb_7 _ (List.mem_of_getElem? (i := 45) rfl)) rfl
theorem cs_RJ6_265 : Cond.constant RJ6 265 (1431655765) ∈ gTab := gTab_in (gTb_4 _ (List.mem_of_getElem? (i := 94) rfl)) rfl
theorem cs_RJ6_266 : Cond.constant RJ6 266 (858993459) ∈ gTab := gTab_in (gTb_4 _ (List.mem_of_getElem? (i := 95) rfl)) rfl
theorem cs_RJ6_267 : Cond.constant RJ6 267 (252645135) ∈ gTab := gTab_in (gTb_4 _ (List.mem_of_getElem? (i := 96) rfl)) rfl
theorem cl_RX2_171 : Cond.constantLong RX2 171 (29488) ∈ gTab := gTab_in (gTb_3 _ (List.mem_of_getElem? (i := 146) rfl)) rfl
theorem cl_RX2_173 : Cond.constantLong RX2 173 (6) ∈ gTab := gTab_in (gTb_3 _ (List.mem_of_getElem? (i := 147) rfl)) rfl
theorem cl_RX4_70 : Cond.constantLong RX4 70 (9223372036854775807) ∈ gTab := gTab_in (gTb_4 _ (List.mem_of_getElem? (i := 149) rfl)) rfl
theorem cl_RX9_66 : Cond.constantLong RX9 66 (10) ∈ gTab := gTab_in (gTb_3 _ (List.mem_of_getElem? (i := 70) rfl)) rfl
theorem cl_RX9_68 : Cond.constantLong RX9 68 (48) ∈ gTab := gTab_in (gTb_3 _ (List.mem_of_getElem? (i := 71) rfl)) rfl
theorem cl_RX11_209 : Cond.constantLong RX11 209 (37) ∈ gTab := gTab_in (gTb_5 _ (List.mem_of_getElem? (i := 46) rfl)) rfl
theorem mn_X10 : Cond.initialized RX10 ∈ gTab := gTab_in (gTb_1 _ (List.mem_of_getElem? (i := 1) rfl)) rfl
theorem mn_X0 : Cond.initialized RX0 ∈ gTab := gTab_in (gTb_1 _ (List.mem_of_getElem? (i := 6) rfl)) rfl
theorem mn_X1 : Cond.initialized RX1 ∈ gTab := gTab_in (gTb_1 _ (List.mem_of_getElem? (i := 9) rfl)) rfl
theorem mn_X2 : Cond.initialized RX2 ∈ gTab := gTab_in (gTb_1 _ (List.mem_of_getElem? (i := 3) rfl)) rfl
theorem mn_X3 : Cond.initialized RX3 ∈ gTab := gTab_in (gTb_1 _ (List.mem_of_getElem? (i := 8) rfl)) rfl
theorem mn_X4 : Cond.initialized RX4 ∈ gTab := gTab_in (gTb_1 _ (List.mem_of_getElem? (i := 7) rfl)) rfl
theorem mn_X5 : Cond.initialized RX5 ∈ gTab := gTab_in (gTb_1 _ (List.mem_of_getElem? (i := 10) rfl)) rfl
theorem mn_X6 : Cond.initialized RX6 ∈ gTab := gTab_in (gTb_1 _ (List.mem_of_getElem? (i := 5) rfl)) rfl
theorem mn_X7 : Cond.initialized RX7 ∈ gTab := gTab_in (gTb_1 _ (List.mem_of_getElem? (i := 2) rfl)) rfl
theorem mn_X8 : Cond.initialized RX8 ∈ gTab := gTab_in (gTb_1 _ (List.mem_of_getElem? (i := 11) rfl)) rfl
theorem mn_X9 : Cond.initialized RX9 ∈ gTab := gTab_in (gTb_1 _ (List.mem_of_getElem? (i := 4) rfl)) rfl
theorem mn_L : Cond.initialized RL ∈ gTab := gTab_in (gTb_1 _ (List.mem_of_getElem? (i := 0) rfl)) rfl
theorem mn_X11 : Cond.initialized RX11 ∈ gTab := gTab_in (gTb_1 _ (List.mem_of_getElem? (i := 12) rfl)) rfl
theorem mn_J6 : Cond.initialized RJ6 ∈ gTab := gTab_in (gTb_1 _ (List.mem_of_getElem? (i := 14) rfl)) rfl
theorem mn_J9 : Cond.initialized RJ9 ∈ gTab := gTab_in (gTb_1 _ (List.mem_of_getElem? (i := 13) rfl)) rfl
theorem mi_mmax : Cond.static Lib.Math.max.name ∈ gTab := gTab_in (gTb_3 _ (List.mem_of_getElem? (i := 236) rfl)) rfl
theorem mc_mmax : Cond.code Lib.Math.max.name Lib.Math.max.code 2 (some .int) ∈ gTab := gTab_in (gTb_3 _ (List.mem_of_getElem? (i := 237) rfl)) rfl
theorem mi_mmin : Cond.static Lib.Math.min.name ∈ gTab := gTab_in (gTb_4 _ (List.mem_of_getElem? (i := 143) rfl)) rfl
theorem mc_mmin : Cond.code Lib.Math.min.name Lib.Math.min.code 2 (some .int) ∈ gTab := gTab_in (gTb_4 _ (List.mem_of_getElem? (i := 144) rfl)) rfl
theorem mi_mmaxL : Cond.static Lib.MathLoose.max_long.x ∈ gTab := gTab_in (gTb_4 _ (List.mem_of_getElem? (i := 17) rfl)) rfl
theorem mc_mmaxL : Cond.code Lib.MathLoose.max_long.x Lib.MathLoose.max_long.code 4 (some .long) ∈ gTab := gTab_in (gTb_4 _ (List.mem_of_getElem? (i := 18) rfl)) rfl
theorem mi_mminL : Cond.static Lib.MathLoose.min_long.x ∈ gTab := gTab_in (gTb_4 _ (List.mem_of_getElem? (i := 14) rfl)) rfl
theorem mc_mminL : Cond.code Lib.MathLoose.min_long.x Lib.MathLoose.min_long.code 4 (some .long) ∈ gTab := gTab_in (gTb_4 _ (List.mem_of_getElem? (i := 15) rfl)) rfl
theorem mi_X0_become : Cond.instanceMethod yX0_become ∈ gTab := gTab_in (gTb_3 _ (List.mem_of_getElem? (i := 169) rfl)) rfl
theorem ms_X0_become : Cond.selects RX0 yX0_become yX0_become ∈ gTab := gTab_in (gTb_3 _ (List.mem_of_getElem? (i := 170) rfl)) rfl
theorem mc_X0_become : Cond.code yX0_become cX0_become 4 none ∈ gTab := gTab_in (gTb_3 _ (List.mem_of_getElem? (i := 171) rfl)) rfl
theorem mh_X0_become : yX0_become.cls ≠ "java/lang/invoke/MethodHandle" ∧ yX0_become.cls ≠ "java/lang/invoke/VarHandle" ∧ (parseMethodDescriptor yX0_become.desc).map (fun d => d.parameters.length) = some 2 := by decide +kernel
theorem mi_X0_renew : Cond.instanceMethod yX0_renew ∈ gTab := gTab_in (gTb_4 _ (List.mem_of_getElem? (i := 21) rfl)) rfl
theorem ms_X0_renew : Cond.selects RX0 yX0_renew yX0_renew ∈ gTab := gTab_in (gTb_4 _ (List.mem_of_getElem? (i := 22) rfl)) rfl
theorem mc_X0_renew : Cond.code yX0_renew cX0_renew 4 none ∈ gTab := gTab_in (gTb_4 _ (List.mem_of_getElem? (i := 23) rfl)) rfl
theorem mh_X0_renew : yX0_renew.cls ≠ "java/lang/invoke/MethodHandle" ∧ yX0_renew.cls ≠ "java/lang/invoke/VarHandle" ∧ (parseMethodDescriptor yX0_renew.desc).map (fun d => d.parameters.length) = some 2 := by decide +kernel
theorem mi_X0_carryInto : Cond.instanceMethod yX0_carryInto ∈ gTab := gTab_in (gTb_4 _ (List.mem_of_getElem? (i := 33) rfl)) rfl
theorem ms_X0_carryInto : Cond.selects RX0 yX0_carryInto yX0_carryInto ∈ gTab := gTab_in (gTb_4 _ (List.mem_of_getElem? (i := 34) rfl)) rfl
theorem mc_X0_carryInto : Cond.code yX0_carryInto cX0_carryInto 2 none ∈ gTab := gTab_in (gTb_4 _ (List.mem_of_getElem? (i := 35) rfl)) rfl
theorem mh_X0_carryInto : yX0_carryInto.cls ≠ "java/lang/invoke/MethodHandle" ∧ yX0_carryInto.cls ≠ "java/lang/invoke/VarHandle" ∧ (parseMethodDescriptor yX0_carryInto.desc).map (fun d => d.parameters.length) = some 1 := by decide +kernel
theorem mi_X0_ageAt : Cond.instanceMethod yX0_ageAt ∈ gTab := gTab_in (gTb_4 _ (List.mem_of_getElem? (i := 66) rfl)) rfl
theorem ms_X0_ageAt : Cond.selects RX0 yX0_ageAt yX0_ageAt ∈ gTab := gTab_in (gTb_4 _ (List.mem_of_getElem? (i := 67) rfl)) rfl
theorem mc_X0_ageAt : Cond.code yX0_ageAt cX0_ageAt 2 (some .int) ∈ gTab := gTab_in (gTb_4 _ (List.mem_of_getElem? (i := 68) rfl)) rfl
theorem mh_X0_ageAt : yX0_ageAt.cls ≠ "java/lang/invoke/MethodHandle" ∧ yX0_ageAt.cls ≠ "java/lang/invoke/VarHandle" ∧ (parseMethodDescriptor yX0_ageAt.desc).map (fun d => d.parameters.length) = some 1 := by decide +kernel
theorem mi_X0_isStale : Cond.instanceMethod yX0_isStale ∈ gTab := gTab_in (gTb_4 _ (List.mem_of_getElem? (i := 62) rfl)) rfl
theorem ms_X0_isStale : Cond.selects RX0 yX0_isStale yX0_isStale ∈ gTab := gTab_in (gTb_4 _ (List.mem_of_getElem? (i := 63) rfl)) rfl
theorem mc_X0_isStale : Cond.code yX0_isStale cX0_isStale 3 (some .boolean) ∈ gTab := gTab_in (gTb_4 _ (List.mem_of_getElem? (i := 64) rfl)) rfl
theorem mh_X0_isStale : yX0_isStale.cls ≠ "java/lang/invoke/MethodHandle" ∧ yX0_isStale.cls ≠ "java/lang/invoke/VarHandle" ∧ (parseMethodDescriptor yX0_isStale.desc).map (fun d => d.parameters.length) = some 1 := by decide +kernel
theorem mi_X0_isFixed : Cond.instanceMethod yX0_isFixed ∈ gTab := gTab_in (gTb_4 _ (List.mem_of_getElem? (i := 218) rfl)) rfl
theorem ms_X0_isFixed : Cond.selects RX0 yX0_isFixed yX0_isFixed ∈ gTab := gTab_in (gTb_4 _ (List.mem_of_getElem? (i := 219) rfl)) rfl
theorem mc_X0_isFixed : Cond.code yX0_isFixed cX0_isFixed 1 (some .boolean) ∈ gTab := gTab_in (gTb_4 _ (List.mem_of_getElem? (i := 220) rfl)) rfl
theorem mh_X0_isFixed : yX0_isFixed.cls ≠ "java/lang/invoke/MethodHandle" ∧ yX0_isFixed.cls ≠ "java/lang/invoke/VarHandle" ∧ (parseMethodDescriptor yX0_isFixed.desc).map (fun d => d.parameters.length) = some 0 := by decide +kernel
theorem mi_X0_isFixedOver : Cond.instanceMethod yX0_isFixedOver ∈ gTab := gTab_in (gTb_4 _ (List.mem_of_getElem? (i := 214) rfl)) rfl
theorem ms_X0_isFixedOver : Cond.selects RX0 yX0_isFixedOver yX0_isFixedOver ∈ gTab := gTab_in (gTb_4 _ (List.mem_of_getElem? (i := 215) rfl)) rfl
theorem mc_X0_isFixedOver : Cond.code yX0_isFixedOver cX0_isFixedOver 4 (some .boolean) ∈ gTab := gTab_in (gTb_4 _ (List.mem_of_getElem? (i := 216) rfl)) rfl
theorem mh_X0_isFixedOver : yX0_isFixedOver.cls ≠ "java/lang/invoke/MethodHandle" ∧ yX0_isFixedOver.cls ≠ "java/lang/invoke/VarHandle" ∧ (parseMethodDescriptor yX0_isFixedOver.desc).map (fun d => d.parameters.length) = some 3 := by decide +kernel
theorem mi_X1_arrange : Cond.instanceMethod yX1_arrange ∈ gTab := gTab_in (gTb_4 _ (List.mem_of_getElem? (i := 231) rfl)) rfl
theorem ms_X1_arrange : Cond.selects RX1 yX1_arrange yX1_arrange ∈ gTab := gTab_in (gTb_4 _ (List.mem_of_getElem? (i := 232) rfl)) rfl
theorem mc_X1_arrange : Cond.code yX1_arrange cX1_arrange 9 (some .int) ∈ gTab := gTab_in (gTb_4 _ (List.mem_of_getElem? (i := 233) rfl)) rfl
theorem mh_X1_arrange : yX1_arrange.cls ≠ "java/lang/invoke/MethodHandle" ∧ yX1_arrange.cls ≠ "java/lang/invoke/VarHandle" ∧ (parseMethodDescriptor yX1_arrange.desc).map (fun d => d.parameters.length) = some 3 := by decide +kernel
theorem mi_X1_layFree : Cond.instanceMethod yX1_layFree ∈ gTab := gTab_in (gTb_5 _ (List.mem_of_getElem? (i := 6) rfl)) rfl
theorem ms_X1_layFree : Cond.selects RX1 yX1_layFree yX1_layFree ∈ gTab := gTab_in (List.mem_of_getElem? (i := 48) rfl) rfl
theorem mc_X1_layFree : Cond.code yX1_layFree cX1_layFree 6 none ∈ gTab := gTab_in (gTb_5 _ (List.mem_of_getElem? (i := 7) rfl)) rfl
theorem mh_X1_layFree : yX1_layFree.cls ≠ "java/lang/invoke/MethodHandle" ∧ yX1_layFree.cls ≠ "java/lang/invoke/VarHandle" ∧ (parseMethodDescriptor yX1_layFree.desc).map (fun d => d.parameters.length) = some 3 := by decide +kernel
theorem mi_X1_keepAsBest : Cond.instanceMethod yX1_keepAsBest ∈ gTab := gTab_in (gTb_5 _ (List.mem_of_getElem? (i := 10) rfl)) rfl
theorem ms_X1_keepAsBest : Cond.selects RX1 yX1_keepAsBest yX1_keepAsBest ∈ gTab := gTab_in (List.mem_of_getElem? (i := 49) rfl) rfl
theorem mc_X1_keepAsBest : Cond.code yX1_keepAsBest cX1_keepAsBest 4 none ∈ gTab := gTab_in (gTb_5 _ (List.mem_of_getElem? (i := 11) rfl)) rfl
theorem mh_X1_keepAsBest : yX1_keepAsBest.cls ≠ "java/lang/invoke/MethodHandle" ∧ yX1_keepAsBest.cls ≠ "java/lang/invoke/VarHandle" ∧ (parseMethodDescriptor yX1_keepAsBest.desc).map (fun d => d.parameters.length) = some 2 := by decide +kernel
theorem mi_X1_findRoom : Cond.instanceMethod yX1_findRoom ∈ gTab := gTab_in (gTb_5 _ (List.mem_of_getElem? (i := 14) rfl)) rfl
theorem ms_X1_findRoom : Cond.selects RX1 yX1_findRoom yX1_findRoom ∈ gTab := gTab_in (List.mem_of_getElem? (i := 50) rfl) rfl
theorem mc_X1_findRoom : Cond.code yX1_findRoom cX1_findRoom 9 (some .boolean) ∈ gTab := gTab_in (gTb_5 _ (List.mem_of_getElem? (i := 15) rfl)) rfl
theorem mh_X1_findRoom : yX1_findRoom.cls ≠ "java/lang/invoke/MethodHandle" ∧ yX1_findRoom.cls ≠ "java/lang/invoke/VarHandle" ∧ (parseMethodDescriptor yX1_findRoom.desc).map (fun d => d.parameters.length) = some 1 := by decide +kernel
theorem mi_X1_flip : Cond.instanceMethod yX1_flip ∈ gTab := gTab_in (gTb_4 _ (List.mem_of_getElem? (i := 238) rfl)) rfl
theorem ms_X1_flip : Cond.selects RX1 yX1_flip yX1_flip ∈ gTab := gTab_in (List.mem_of_getElem? (i := 47) rfl) rfl
theorem mc_X1_flip : Cond.code yX1_flip cX1_flip 4 none ∈ gTab := gTab_in (gTb_4 _ (List.mem_of_getElem? (i := 239) rfl)) rfl
theorem mh_X1_flip : yX1_flip.cls ≠ "java/lang/invoke/MethodHandle" ∧ yX1_flip.cls ≠ "java/lang/invoke/VarHandle" ∧ (parseMethodDescriptor yX1_flip.desc).map (fun d => d.parameters.length) = some 1 := by decide +kernel
theorem mi_X1_columnBits : Cond.static yX1_columnBits ∈ gTab := gTab_in (gTb_5 _ (List.mem_of_getElem? (i := 1) rfl)) rfl
theorem mc_X1_columnBits : Cond.code yX1_columnBits cX1_columnBits 2 (some .int) ∈ gTab := gTab_in (gTb_5 _ (List.mem_of_getElem? (i := 2) rfl)) rfl
theorem mh_X1_columnBits : yX1_columnBits.cls ≠ "java/lang/invoke/MethodHandle" ∧ yX1_columnBits.cls ≠ "java/lang/invoke/VarHandle" ∧ (parseMethodDescriptor yX1_columnBits.desc).map (fun d => d.parameters.length) = some 2 := by decide +kernel
theorem mi_X2_parse : Cond.instanceMethod yX2_parse ∈ gTab := gTab_in (gTb_3 _ (List.mem_of_getElem? (i := 20) rfl)) rfl
theorem ms_X2_parse : Cond.selects RX2 yX2_parse yX2_parse ∈ gTab := gTab_in (gTb_3 _ (List.mem_of_getElem? (i := 21) rfl)) rfl
theorem mc_X2_parse : Cond.code yX2_parse cX2_parse 4 (some .int) ∈ gTab := gTab_in (gTb_3 _ (List.mem_of_getElem? (i := 22) rfl)) rfl
theorem mh_X2_parse : yX2_parse.cls ≠ "java/lang/invoke/MethodHandle" ∧ yX2_parse.cls ≠ "java/lang/invoke/VarHandle" ∧ (parseMethodDescriptor yX2_parse.desc).map (fun d => d.parameters.length) = some 2 := by decide +kernel
theorem mi_X2_fail : Cond.instanceMethod yX2_fail ∈ gTab := gTab_in (gTb_3 _ (List.mem_of_getElem? (i := 89) rfl)) rfl
theorem ms_X2_fail : Cond.selects RX2 yX2_fail yX2_fail ∈ gTab := gTab_in (List.mem_of_getElem? (i := 6) rfl) rfl
theorem mc_X2_fail : Cond.code yX2_fail cX2_fail 3 none ∈ gTab := gTab_in (gTb_3 _ (List.mem_of_getElem? (i := 90) rfl)) rfl
theorem mh_X2_fail : yX2_fail.cls ≠ "java/lang/invoke/MethodHandle" ∧ yX2_fail.cls ≠ "java/lang/invoke/VarHandle" ∧ (parseMethodDescriptor yX2_fail.desc).map (fun d => d.parameters.length) = some 2 := by decide +kernel
theorem mi_X2_kind : Cond.instanceMethod yX2_kind ∈ gTab := gTab_in (gTb_3 _ (List.mem_of_getElem? (i := 77) rfl)) rfl
theorem ms_X2_kind : Cond.selects RX2 yX2_kind yX2_kind ∈ gTab := gTab_in (List.mem_of_getElem? (i := 4) rfl) rfl
theorem mc_X2_kind : Cond.code yX2_kind cX2_kind 1 (some .int) ∈ gTab := gTab_in (gTb_3 _ (List.mem_of_getElem? (i := 78) rfl)) rfl
theorem mh_X2_kind : yX2_kind.cls ≠ "java/lang/invoke/MethodHandle" ∧ yX2_kind.cls ≠ "java/lang/invoke/VarHandle" ∧ (parseMethodDescriptor yX2_kind.desc).map (fun d => d.parameters.length) = some 0 := by decide +kernel
theorem mi_X2_accept : Cond.instanceMethod yX2_accept ∈ gTab := gTab_in (gTb_3 _ (List.mem_of_getElem? (i := 101) rfl)) rfl
theorem ms_X2_accept : Cond.selects RX2 yX2_accept yX2_accept ∈ gTab := gTab_in (List.mem_of_getElem? (i := 7) rfl) rfl
theorem mc_X2_accept : Cond.code yX2_accept cX2_accept 2 none ∈ gTab := gTab_in (gTb_3 _ (List.mem_of_getElem? (i := 102) rfl)) rfl
theorem mh_X2_accept : yX2_accept.cls ≠ "java/lang/invoke/MethodHandle" ∧ yX2_accept.cls ≠ "java/lang/invoke/VarHandle" ∧ (parseMethodDescriptor yX2_accept.desc).map (fun d => d.parameters.length) = some 1 := by decide +kernel
theorem mi_X2_parseTell : Cond.instanceMethod yX2_parseTell ∈ gTab := gTab_in (gTb_3 _ (List.mem_of_getElem? (i := 85) rfl)) rfl
theorem ms_X2_parseTell : Cond.selects RX2 yX2_parseTell yX2_parseTell ∈ gTab := gTab_in (List.mem_of_getElem? (i := 5) rfl) rfl
theorem mc_X2_parseTell : Cond.code yX2_parseTell cX2_parseTell 3 none ∈ gTab := gTab_in (gTb_3 _ (List.mem_of_getElem? (i := 86) rfl)) rfl
theorem mh_X2_parseTell : yX2_parseTell.cls ≠ "java/lang/invoke/MethodHandle" ∧ yX2_parseTell.cls ≠ "java/lang/invoke/VarHandle" ∧ (parseMethodDescriptor yX2_parseTell.desc).map (fun d => d.parameters.length) = some 0 := by decide +kernel
theorem mi_X2_parseNumbers : Cond.instanceMethod yX2_parseNumbers ∈ gTab := gTab_in (gTb_3 _ (List.mem_of_getElem? (i := 105) rfl)) rfl
theorem ms_X2_parseNumbers : Cond.selects RX2 yX2_parseNumbers yX2_parseNumbers ∈ gTab := gTab_in (List.mem_of_getElem? (i := 8) rfl) rfl
theorem mc_X2_parseNumbers : Cond.code yX2_parseNumbers cX2_parseNumbers 1 none ∈ gTab := gTab_in (gTb_3 _ (List.mem_of_getElem? (i := 106) rfl)) rfl
theorem mh_X2_parseNumbers : yX2_parseNumbers.cls ≠ "java/lang/invoke/MethodHandle" ∧ yX2_parseNumbers.cls ≠ "java/lang/invoke/VarHandle" ∧ (parseMethodDescriptor yX2_parseNumbers.desc).map (fun d => d.parameters.length) = some 0 := by decide +kernel
theorem mi_X2_parseSum : Cond.instanceMethod yX2_parseSum ∈ gTab := gTab_in (gTb_3 _ (List.mem_of_getElem? (i := 109) rfl)) rfl
theorem ms_X2_parseSum : Cond.selects RX2 yX2_parseSum yX2_parseSum ∈ gTab := gTab_in (List.mem_of_getElem? (i := 9) rfl) rfl
theorem mc_X2_parseSum : Cond.code yX2_parseSum cX2_parseSum 4 none ∈ gTab := gTab_in (gTb_3 _ (List.mem_of_getElem? (i := 110) rfl)) rfl
theorem mh_X2_parseSum : yX2_parseSum.cls ≠ "java/lang/invoke/MethodHandle" ∧ yX2_parseSum.cls ≠ "java/lang/invoke/VarHandle" ∧ (parseMethodDescriptor yX2_parseSum.desc).map (fun d => d.parameters.length) = some 1 := by decide +kernel
theorem mi_X2_parseProduct : Cond.instanceMethod yX2_parseProduct ∈ gTab := gTab_in (gTb_3 _ (List.mem_of_getElem? (i := 113) rfl)) rfl
theorem ms_X2_parseProduct : Cond.selects RX2 yX2_parseProduct yX2_parseProduct ∈ gTab := gTab_in (List.mem_of_getElem? (i := 10) rfl) rfl
theorem mc_X2_parseProduct : Cond.code yX2_parseProduct cX2_parseProduct 3 none ∈ gTab := gTab_in (gTb_3 _ (List.mem_of_getElem? (i := 114) rfl)) rfl
theorem mh_X2_parseProduct : yX2_parseProduct.cls ≠ "java/lang/invoke/MethodHandle" ∧ yX2_parseProduct.cls ≠ "java/lang/invoke/VarHandle" ∧ (parseMethodDescriptor yX2_parseProduct.desc).map (fun d => d.parameters.length) = some 1 := by decide +kernel
theorem mi_X2_parseUnit : Cond.instanceMethod yX2_parseUnit ∈ gTab := gTab_in (gTb_3 _ (List.mem_of_getElem? (i := 117) rfl)) rfl
theorem ms_X2_parseUnit : Cond.selects RX2 yX2_parseUnit yX2_parseUnit ∈ gTab := gTab_in (List.mem_of_getElem? (i := 11) rfl) rfl
theorem mc_X2_parseUnit : Cond.code yX2_parseUnit cX2_parseUnit 3 none ∈ gTab := gTab_in (gTb_3 _ (List.mem_of_getElem? (i := 118) rfl)) rfl
theorem mh_X2_parseUnit : yX2_parseUnit.cls ≠ "java/lang/invoke/MethodHandle" ∧ yX2_parseUnit.cls ≠ "java/lang/invoke/VarHandle" ∧ (parseMethodDescriptor yX2_parseUnit.desc).map (fun d => d.parameters.length) = some 1 := by decide +kernel
theorem mi_X2_parsePair : Cond.instanceMethod yX2_parsePair ∈ gTab := gTab_in (gTb_3 _ (List.mem_of_getElem? (i := 129) rfl)) rfl
theorem ms_X2_parsePair : Cond.selects RX2 yX2_parsePair yX2_parsePair ∈ gTab := gTab_in (List.mem_of_getElem? (i := 12) rfl) rfl
theorem mc_X2_parsePair : Cond.code yX2_parsePair cX2_parsePair 2 none ∈ gTab := gTab_in (gTb_3 _ (List.mem_of_getElem? (i := 130) rfl)) rfl
theorem mh_X2_parsePair : yX2_parsePair.cls ≠ "java/lang/invoke/MethodHandle" ∧ yX2_parsePair.cls ≠ "java/lang/invoke/VarHandle" ∧ (parseMethodDescriptor yX2_parsePair.desc).map (fun d => d.parameters.length) = some 1 := by decide +kernel
theorem mi_X2_openBracket : Cond.instanceMethod yX2_openBracket ∈ gTab := gTab_in (gTb_3 _ (List.mem_of_getElem? (i := 133) rfl)) rfl
theorem ms_X2_openBracket : Cond.selects RX2 yX2_openBracket yX2_openBracket ∈ gTab := gTab_in (List.mem_of_getElem? (i := 13) rfl) rfl
theorem mc_X2_openBracket : Cond.code yX2_openBracket cX2_openBracket 2 none ∈ gTab := gTab_in (gTb_3 _ (List.mem_of_getElem? (i := 134) rfl)) rfl
theorem mh_X2_openBracket : yX2_openBracket.cls ≠ "java/lang/invoke/MethodHandle" ∧ yX2_openBracket.cls ≠ "java/lang/invoke/VarHandle" ∧ (parseMethodDescriptor yX2_openBracket.desc).map (fun d => d.parameters.length) = some 1 := by decide +kernel
theorem mi_X2_parseInside : Cond.instanceMethod yX2_parseInside ∈ gTab := gTab_in (gTb_3 _ (List.mem_of_getElem? (i := 137) rfl)) rfl
theorem ms_X2_parseInside : Cond.selects RX2 yX2_parseInside yX2_parseInside ∈ gTab := gTab_in (List.mem_of_getElem? (i := 14) rfl) rfl
theorem mc_X2_parseInside : Cond.code yX2_parseInside cX2_parseInside 2 none ∈ gTab := gTab_in (gTb_3 _ (List.mem_of_getElem? (i := 138) rfl)) rfl
theorem mh_X2_parseInside : yX2_parseInside.cls ≠ "java/lang/invoke/MethodHandle" ∧ yX2_parseInside.cls ≠ "java/lang/invoke/VarHandle" ∧ (parseMethodDescriptor yX2_parseInside.desc).map (fun d => d.parameters.length) = some 1 := by decide +kernel
theorem mi_X2_checkTell : Cond.instanceMethod yX2_checkTell ∈ gTab := gTab_in (gTb_3 _ (List.mem_of_getElem? (i := 141) rfl)) rfl
theorem ms_X2_checkTell : Cond.selects RX2 yX2_checkTell yX2_checkTell ∈ gTab := gTab_in (List.mem_of_getElem? (i := 15) rfl) rfl
theorem mc_X2_checkTell : Cond.code yX2_checkTell cX2_checkTell 4 none ∈ gTab := gTab_in (gTb_3 _ (List.mem_of_getElem? (i := 142) rfl)) rfl
theorem mh_X2_checkTell : yX2_checkTell.cls ≠ "java/lang/invoke/MethodHandle" ∧ yX2_checkTell.cls ≠ "java/lang/invoke/VarHandle" ∧ (parseMethodDescriptor yX2_checkTell.desc).map (fun d => d.parameters.length) = some 1 := by decide +kernel
theorem mi_X2_checkedInt : Cond.instanceMethod yX2_checkedInt ∈ gTab := gTab_in (gTb_3 _ (List.mem_of_getElem? (i := 162) rfl)) rfl
theorem ms_X2_checkedInt : Cond.selects RX2 yX2_checkedInt yX2_checkedInt ∈ gTab := gTab_in (List.mem_of_getElem? (i := 19) rfl) rfl
theorem mc_X2_checkedInt : Cond.code yX2_checkedInt cX2_checkedInt 5 (some .int) ∈ gTab := gTab_in (gTb_3 _ (List.mem_of_getElem? (i := 163) rfl)) rfl
theorem mh_X2_checkedInt : yX2_checkedInt.cls ≠ "java/lang/invoke/MethodHandle" ∧ yX2_checkedInt.cls ≠ "java/lang/invoke/VarHandle" ∧ (parseMethodDescriptor yX2_checkedInt.desc).map (fun d => d.parameters.length) = some 3 := by decide +kernel
theorem mi_X2_resolveNames : Cond.instanceMethod yX2_resolveNames ∈ gTab := gTab_in (gTb_3 _ (List.mem_of_getElem? (i := 154) rfl)) rfl
theorem ms_X2_resolveNames : Cond.selects RX2 yX2_resolveNames yX2_resolveNames ∈ gTab := gTab_in (List.mem_of_getElem? (i := 17) rfl) rfl
theorem mc_X2_resolveNames : Cond.code yX2_resolveNames cX2_resolveNames 5 (some .int) ∈ gTab := gTab_in (gTb_3 _ (List.mem_of_getElem? (i := 155) rfl)) rfl
theorem mh_X2_resolveNames : yX2_resolveNames.cls ≠ "java/lang/invoke/MethodHandle" ∧ yX2_resolveNames.cls ≠ "java/lang/invoke/VarHandle" ∧ (parseMethodDescriptor yX2_resolveNames.desc).map (fun d => d.parameters.length) = some 1 := by decide +kernel
theorem mi_X2_resolveStep : Cond.instanceMethod yX2_resolveStep ∈ gTab := gTab_in (gTb_3 _ (List.mem_of_getElem? (i := 158) rfl)) rfl
theorem ms_X2_resolveStep : Cond.selects RX2 yX2_resolveStep yX2_resolveStep ∈ gTab := gTab_in (List.mem_of_getElem? (i := 18) rfl) rfl
theorem mc_X2_resolveStep : Cond.code yX2_resolveStep cX2_resolveStep 9 (some .boolean) ∈ gTab := gTab_in (gTb_3 _ (List.mem_of_getElem? (i := 159) rfl)) rfl
theorem mh_X2_resolveStep : yX2_resolveStep.cls ≠ "java/lang/invoke/MethodHandle" ∧ yX2_resolveStep.cls ≠ "java/lang/invoke/VarHandle" ∧ (parseMethodDescriptor yX2_resolveStep.desc).map (fun d => d.parameters.length) = some 2 := by decide +kernel
theorem mi_X2_isToldAhead : Cond.instanceMethod yX2_isToldAhead ∈ gTab := gTab_in (gTb_3 _ (List.mem_of_getElem? (i := 150) rfl)) rfl
theorem ms_X2_isToldAhead : Cond.selects RX2 yX2_isToldAhead yX2_isToldAhead ∈ gTab := gTab_in (List.mem_of_getElem? (i := 16) rfl) rfl
theorem mc_X2_isToldAhead : Cond.code yX2_isToldAhead cX2_isToldAhead 5 (some .boolean) ∈ gTab := gTab_in (gTb_3 _ (List.mem_of_getElem? (i := 151) rfl)) rfl
theorem mh_X2_isToldAhead : yX2_isToldAhead.cls ≠ "java/lang/invoke/MethodHandle" ∧ yX2_isToldAhead.cls ≠ "java/lang/invoke/VarHandle" ∧ (parseMethodDescriptor yX2_isToldAhead.desc).map (fun d => d.parameters.length) = some 2 := by decide +kernel
theorem mi_X2_sourceNamed : Cond.static yX2_sourceNamed ∈ gTab := gTab_in (gTb_3 _ (List.mem_of_getElem? (i := 144) rfl)) rfl
theorem mc_X2_sourceNamed : Cond.code yX2_sourceNamed cX2_sourceNamed 4 (some .int) ∈ gTab := gTab_in (gTb_3 _ (List.mem_of_getElem? (i := 145) rfl)) rfl
theorem mh_X2_sourceNamed : yX2_sourceNamed.cls ≠ "java/lang/invoke/MethodHandle" ∧ yX2_sourceNamed.cls ≠ "java/lang/invoke/VarHandle" ∧ (parseMethodDescriptor yX2_sourceNamed.desc).map (fun d => d.parameters.length) = some 1 := by decide +kernel

theorem fl_RX10_12 : gLk RX10 12 0 (RX10, TX10, 12) := Or.inl (gTab_in (gTb_2 _ (List.mem_of_getElem? (i := 206) rfl)) rfl)
theorem fl_RX10_19 : gLk RX10 19 1 (RX10, TX10, 12) := Or.inl (gTab_in (gTb_2 _ (List.mem_of_getElem? (i := 207) rfl)) rfl)
theorem fl_RX10_26 : gLk RX10 26 2 (RX10, TX10, 12) := Or.inl (gTab_in (gTb_2 _ (List.mem_of_getElem? (i := 208) rfl)) rfl)
theorem fl_RX10_32 : gLk RX10 32 3 (RX10, TX10, 12) := Or.inl (gTab_in (gTb_2 _ (List.mem_of_getElem? (i := 209) rfl)) rfl)
theorem fl_RX10_40 : gLk RX10 40 4 (RX10, TX10, 12) := Or.inl (gTab_in (gTb_2 _ (List.mem_of_getElem? (i := 210) rfl)) rfl)
theorem fl_RX10_47 : gLk RX10 47 5 (RX10, TX10, 12) := Or.inl (gTab_in (gTb_2 _ (List.mem_of_getElem? (i := 211) rfl)) rfl)
theorem fl_RX10_54 : gLk RX10 54 6 (RX10, TX10, 12) := Or.inl (gTab_in (gTb_2 _ (List.mem_of_getElem? (i := 212) rfl)) rfl)
theorem fl_RX10_61 : gLk RX10 61 7 (RX10, TX10, 12) := Or.inl (gTab_in (gTb_2 _ (List.mem_of_getElem? (i := 213) rfl)) rfl)
theorem fl_RX10_65 : gLk RX10 65 8 (RX10, TX10, 12) := Or.inl (gTab_in (gTb_2 _ (List.mem_of_getElem? (i := 214) rfl)) rfl)
theorem fl_RX10_68 : gLk RX10 68 1 (RX7, TX7, 2) := Or.inr ⟨"GaugeWall", gNest_in (gTb_1 _ (List.mem_of_getElem? (i := 30) rfl)) rfl⟩
theorem fl_RX10_83 : gLk RX10 83 4 (RX2, TX2, 5) := Or.inr ⟨"GaugeWall", gNest_in (gTb_1 _ (List.mem_of_getElem? (i := 71) rfl)) rfl⟩
theorem fl_RX10_90 : gLk RX10 90 0 (RX6, TX6, 15) := Or.inr ⟨"GaugeWall", gNest_in (gTb_1 _ (List.mem_of_getElem? (i := 90) rfl)) rfl⟩
theorem fl_RX10_94 : gLk RX10 94 11 (RX6, TX6, 15) := Or.inr ⟨"GaugeWall", gNest_in (gTb_1 _ (List.mem_of_getElem? (i := 103) rfl)) rfl⟩
theorem fl_RX10_101 : gLk RX10 101 10 (RX10, TX10, 12) := Or.inl (gTab_in (gTb_2 _ (List.mem_of_getElem? (i := 216) rfl)) rfl)
theorem fl_RX10_118 : gLk RX10 118 9 (RX10, TX10, 12) := Or.inl (gTab_in (gTb_2 _ (List.mem_of_getElem? (i := 215) rfl)) rfl)
theorem fl_RX10_127 : gLk RX10 127 7 (RX0, TX0, 14) := Or.inr ⟨"GaugeWall", gNest_in (gTb_1 _ (List.mem_of_getElem? (i := 172) rfl)) rfl⟩
theorem fl_RX10_130 : gLk RX10 130 8 (RX0, TX0, 14) := Or.inr ⟨"GaugeWall", gNest_in (gTb_1 _ (List.mem_of_getElem? (i := 174) rfl)) rfl⟩
theorem fl_RX10_140 : gLk RX10 140 13 (RX0, TX0, 14) := Or.inr ⟨"GaugeWall", gNest_in (gTb_1 _ (List.mem_of_getElem? (i := 186) rfl)) rfl⟩
theorem fl_RX10_144 : gLk RX10 144 0 (RX0, TX0, 14) := Or.inr ⟨"GaugeWall", gNest_in (gTb_1 _ (List.mem_of_getElem? (i := 154) rfl)) rfl⟩
theorem fl_RX10_147 : gLk RX10 147 1 (RX0, TX0, 14) := Or.inr ⟨"GaugeWall", gNest_in (gTb_1 _ (List.mem_of_getElem? (i := 157) rfl)) rfl⟩
theorem fl_RX10_150 : gLk RX10 150 2 (RX0, TX0, 14) := Or.inr ⟨"GaugeWall", gNest_in (gTb_1 _ (List.mem_of_getElem? (i := 160) rfl)) rfl⟩
theorem fl_RX10_153 : gLk RX10 153 3 (RX0, TX0, 14) := Or.inr ⟨"GaugeWall", gNest_in (gTb_1 _ (List.mem_of_getElem? (i := 163) rfl)) rfl⟩
theorem fl_RX10_156 : gLk RX10 156 4 (RX0, TX0, 14) := Or.inr ⟨"GaugeWall", gNest_in (gTb_1 _ (List.mem_of_getElem? (i := 165) rfl)) rfl⟩
theorem fl_RX10_166 : gLk RX10 166 9 (RX0, TX0, 14) := Or.inr ⟨"GaugeWall", gNest_in (gTb_1 _ (List.mem_of_getElem? (i := 176) rfl)) rfl⟩
theorem fl_RX10_175 : gLk RX10 175 10 (RX5, TX5, 13) := Or.inr ⟨"GaugeWall", gNest_in (gTb_2 _ (List.mem_of_getElem? (i := 175) rfl)) rfl⟩
theorem fl_RX10_186 : gLk RX10 186 5 (RX5, TX5, 13) := Or.inr ⟨"GaugeWall", gNest_in (gTb_2 _ (List.mem_of_getElem? (i := 167) rfl)) rfl⟩
theorem fl_RX10_204 : gLk RX10 204 2 (RX3, TX3, 4) := Or.inr ⟨"GaugeWall", gNest_in (gTb_2 _ (List.mem_of_getElem? (i := 47) rfl)) rfl⟩
theorem fl_RX10_207 : gLk RX10 207 0 (RX3, TX3, 4) := Or.inr ⟨"GaugeWall", gNest_in (gTb_2 _ (List.mem_of_getElem? (i := 43) rfl)) rfl⟩
theorem fl_RX10_210 : gLk RX10 210 3 (RX3, TX3, 4) := Or.inr ⟨"GaugeWall", gNest_in (gTb_2 _ (List.mem_of_getElem? (i := 49) rfl)) rfl⟩
theorem fl_RX10_213 : gLk RX10 213 1 (RX3, TX3, 4) := Or.inr ⟨"GaugeWall", gNest_in (gTb_2 _ (List.mem_of_getElem? (i := 45) rfl)) rfl⟩
theorem fl_RX10_225 : gLk RX10 225 10 (RX0, TX0, 14) := Or.inr ⟨"GaugeWall", gNest_in (gTb_1 _ (List.mem_of_getElem? (i := 179) rfl)) rfl⟩
theorem fl_RX10_228 : gLk RX10 228 11 (RX0, TX0, 14) := Or.inr ⟨"GaugeWall", gNest_in (gTb_1 _ (List.mem_of_getElem? (i := 182) rfl)) rfl⟩
theorem fl_RX10_234 : gLk RX10 234 11 (RX10, TX10, 12) := Or.inl (gTab_in (gTb_2 _ (List.mem_of_getElem? (i := 217) rfl)) rfl)
theorem fl_RX10_242 : gLk RX10 242 4 (RX1, TX1, 10) := Or.inr ⟨"GaugeWall", gNest_in (gTb_2 _ (List.mem_of_getElem? (i := 70) rfl)) rfl⟩
theorem fl_RX10_245 : gLk RX10 245 5 (RX1, TX1, 10) := Or.inr ⟨"GaugeWall", gNest_in (gTb_2 _ (List.mem_of_getElem? (i := 72) rfl)) rfl⟩
theorem fl_RX10_248 : gLk RX10 248 9 (RX6, TX6, 15) := Or.inr ⟨"GaugeWall", gNest_in (gTb_1 _ (List.mem_of_getElem? (i := 100) rfl)) rfl⟩
theorem fl_RX10_251 : gLk RX10 251 13 (RX6, TX6, 15) := Or.inr ⟨"GaugeWall", gNest_in (gTb_1 _ (List.mem_of_getElem? (i := 110) rfl)) rfl⟩
theorem fl_RX10_254 : gLk RX10 254 14 (RX6, TX6, 15) := Or.inr ⟨"GaugeWall", gNest_in (gTb_1 _ (List.mem_of_getElem? (i := 112) rfl)) rfl⟩
theorem fl_RX10_257 : gLk RX10 257 12 (RX6, TX6, 15) := Or.inr ⟨"GaugeWall", gNest_in (gTb_1 _ (List.mem_of_getElem? (i := 107) rfl)) rfl⟩
theorem fl_RX10_268 : gLk RX10 268 9 (RX5, TX5, 13) := Or.inr ⟨"GaugeWall", gNest_in (gTb_2 _ (List.mem_of_getElem? (i := 173) rfl)) rfl⟩
theorem fl_RX10_269 : gLk RX10 269 0 (RX5, TX5, 13) := Or.inr ⟨"GaugeWall", gNest_in (gTb_2 _ (List.mem_of_getElem? (i := 158) rfl)) rfl⟩
theorem fl_RX10_273 : gLk RX10 273 1 (RX5, TX5, 13) := Or.inr ⟨"GaugeWall", gNest_in (gTb_2 _ (List.mem_of_getElem? (i := 160) rfl)) rfl⟩
theorem fl_RX10_283 : gLk RX10 283 12 (RX0, TX0, 14) := Or.inr ⟨"GaugeWall", gNest_in (gTb_1 _ (List.mem_of_getElem? (i := 184) rfl)) rfl⟩
theorem fl_RX10_286 : gLk RX10 286 5 (RX0, TX0, 14) := Or.inr ⟨"GaugeWall", gNest_in (gTb_1 _ (List.mem_of_getElem? (i := 168) rfl)) rfl⟩
theorem fl_RX10_289 : gLk RX10 289 6 (RX0, TX0, 14) := Or.inr ⟨"GaugeWall", gNest_in (gTb_1 _ (List.mem_of_getElem? (i := 170) rfl)) rfl⟩
theorem fl_RX0_9 : gLk RX0 9 12 (RX0, TX0, 14) := Or.inl (gTab_in (gTb_1 _ (List.mem_of_getElem? (i := 183) rfl)) rfl)
theorem fl_RX0_15 : gLk RX0 15 13 (RX0, TX0, 14) := Or.inl (gTab_in (gTb_1 _ (List.mem_of_getElem? (i := 185) rfl)) rfl)
theorem fl_RX0_19 : gLk RX0 19 4 (RX8, TX8, 11) := Or.inr ⟨"GaugeWall", gNest_in (gTb_2 _ (List.mem_of_getElem? (i := 117) rfl)) rfl⟩
theorem fl_RX0_25 : gLk RX0 25 0 (RX0, TX0, 14) := Or.inl (gTab_in (gTb_1 _ (List.mem_of_getElem? (i := 151) rfl)) rfl)
theorem fl_RX0_26 : gLk RX0 26 5 (RX8, TX8, 11) := Or.inr ⟨"GaugeWall", gNest_in (gTb_2 _ (List.mem_of_getElem? (i := 119) rfl)) rfl⟩
theorem fl_RX0_29 : gLk RX0 29 1 (RX0, TX0, 14) := Or.inl (gTab_in (gTb_1 _ (List.mem_of_getElem? (i := 155) rfl)) rfl)
theorem fl_RX0_30 : gLk RX0 30 6 (RX8, TX8, 11) := Or.inr ⟨"GaugeWall", gNest_in (gTb_2 _ (List.mem_of_getElem? (i := 121) rfl)) rfl⟩
theorem fl_RX0_33 : gLk RX0 33 2 (RX0, TX0, 14) := Or.inl (gTab_in (gTb_1 _ (List.mem_of_getElem? (i := 158) rfl)) rfl)
theorem fl_RX0_34 : gLk RX0 34 7 (RX8, TX8, 11) := Or.inr ⟨"GaugeWall", gNest_in (gTb_2 _ (List.mem_of_getElem? (i := 123) rfl)) rfl⟩
theorem fl_RX0_37 : gLk RX0 37 3 (RX0, TX0, 14) := Or.inl (gTab_in (gTb_1 _ (List.mem_of_getElem? (i := 161) rfl)) rfl)
theorem fl_RX0_38 : gLk RX0 38 8 (RX8, TX8, 11) := Or.inr ⟨"GaugeWall", gNest_in (gTb_2 _ (List.mem_of_getElem? (i := 125) rfl)) rfl⟩
theorem fl_RX0_41 : gLk RX0 41 4 (RX0, TX0, 14) := Or.inl (gTab_in (gTb_1 _ (List.mem_of_getElem? (i := 164) rfl)) rfl)
theorem fl_RX0_42 : gLk RX0 42 9 (RX8, TX8, 11) := Or.inr ⟨"GaugeWall", gNest_in (gTb_2 _ (List.mem_of_getElem? (i := 127) rfl)) rfl⟩
theorem fl_RX0_45 : gLk RX0 45 5 (RX0, TX0, 14) := Or.inl (gTab_in (gTb_1 _ (List.mem_of_getElem? (i := 167) rfl)) rfl)
theorem fl_RX0_46 : gLk RX0 46 10 (RX8, TX8, 11) := Or.inr ⟨"GaugeWall", gNest_in (gTb_2 _ (List.mem_of_getElem? (i := 130) rfl)) rfl⟩
theorem fl_RX0_49 : gLk RX0 49 6 (RX0, TX0, 14) := Or.inl (gTab_in (gTb_1 _ (List.mem_of_getElem? (i := 169) rfl)) rfl)
theorem fl_RX0_50 : gLk RX0 50 7 (RX0, TX0, 14) := Or.inl (gTab_in (gTb_1 _ (List.mem_of_getElem? (i := 171) rfl)) rfl)
theorem fl_RX0_53 : gLk RX0 53 8 (RX0, TX0, 14) := Or.inl (gTab_in (gTb_1 _ (List.mem_of_getElem? (i := 173) rfl)) rfl)
theorem fl_RX0_56 : gLk RX0 56 9 (RX0, TX0, 14) := Or.inl (gTab_in (gTb_1 _ (List.mem_of_getElem? (i := 175) rfl)) rfl)
theorem fl_RX0_59 : gLk RX0 59 10 (RX0, TX0, 14) := Or.inl (gTab_in (gTb_1 _ (List.mem_of_getElem? (i := 177) rfl)) rfl)
theorem fl_RX0_62 : gLk RX0 62 11 (RX0, TX0, 14) := Or.inl (gTab_in (gTb_1 _ (List.mem_of_getElem? (i := 180) rfl)) rfl)
theorem fl_RX1_11 : gLk RX1 11 1 (RX1, TX1, 10) := Or.inl (gTab_in (gTb_2 _ (List.mem_of_getElem? (i := 66) rfl)) rfl)
theorem fl_RX1_15 : gLk RX1 15 2 (RX1, TX1, 10) := Or.inl (gTab_in (gTb_2 _ (List.mem_of_getElem? (i := 67) rfl)) rfl)
theorem fl_RX1_18 : gLk RX1 18 3 (RX1, TX1, 10) := Or.inl (gTab_in (gTb_2 _ (List.mem_of_getElem? (i := 68) rfl)) rfl)
theorem fl_RX1_21 : gLk RX1 21 4 (RX1, TX1, 10) := Or.inl (gTab_in (gTb_2 _ (List.mem_of_getElem? (i := 69) rfl)) rfl)
theorem fl_RX1_24 : gLk RX1 24 5 (RX1, TX1, 10) := Or.inl (gTab_in (gTb_2 _ (List.mem_of_getElem? (i := 71) rfl)) rfl)
theorem fl_RX1_27 : gLk RX1 27 0 (RX1, TX1, 10) := Or.inl (gTab_in (gTb_2 _ (List.mem_of_getElem? (i := 65) rfl)) rfl)
theorem fl_RX1_31 : gLk RX1 31 6 (RX1, TX1, 10) := Or.inl (gTab_in (gTb_2 _ (List.mem_of_getElem? (i := 73) rfl)) rfl)
theorem fl_RX1_35 : gLk RX1 35 7 (RX1, TX1, 10) := Or.inl (gTab_in (gTb_2 _ (List.mem_of_getElem? (i := 74) rfl)) rfl)
theorem fl_RX1_41 : gLk RX1 41 8 (RX1, TX1, 10) := Or.inl (gTab_in (gTb_2 _ (List.mem_of_getElem? (i := 75) rfl)) rfl)
theorem fl_RX1_44 : gLk RX1 44 9 (RX1, TX1, 10) := Or.inl (gTab_in (gTb_2 _ (List.mem_of_getElem? (i := 76) rfl)) rfl)
theorem fl_RX1_53 : gLk RX1 53 10 (RX0, TX0, 14) := Or.inr ⟨"GaugeWall", gNest_in (gTb_1 _ (List.mem_of_getElem? (i := 178) rfl)) rfl⟩
theorem fl_RX1_56 : gLk RX1 56 11 (RX0, TX0, 14) := Or.inr ⟨"GaugeWall", gNest_in (gTb_1 _ (List.mem_of_getElem? (i := 181) rfl)) rfl⟩
theorem fl_RX1_63 : gLk RX1 63 3 (RX0, TX0, 14) := Or.inr ⟨"GaugeWall", gNest_in (gTb_1 _ (List.mem_of_getElem? (i := 162) rfl)) rfl⟩
theorem fl_RX1_72 : gLk RX1 72 0 (RX0, TX0, 14) := Or.inr ⟨"GaugeWall", gNest_in (gTb_1 _ (List.mem_of_getElem? (i := 152) rfl)) rfl⟩
theorem fl_RX1_87 : gLk RX1 87 2 (RX0, TX0, 14) := Or.inr ⟨"GaugeWall", gNest_in (gTb_1 _ (List.mem_of_getElem? (i := 159) rfl)) rfl⟩
theorem fl_RX2_12 : gLk RX2 12 0 (RX2, TX2, 5) := Or.inl (gTab_in (gTb_1 _ (List.mem_of_getElem? (i := 66) rfl)) rfl)
theorem fl_RX2_18 : gLk RX2 18 4 (RX2, TX2, 5) := Or.inl (gTab_in (gTb_1 _ (List.mem_of_getElem? (i := 70) rfl)) rfl)
theorem fl_RX2_22 : gLk RX2 22 1 (RX2, TX2, 5) := Or.inl (gTab_in (gTb_1 _ (List.mem_of_getElem? (i := 67) rfl)) rfl)
theorem fl_RX2_35 : gLk RX2 35 2 (RX2, TX2, 5) := Or.inl (gTab_in (gTb_1 _ (List.mem_of_getElem? (i := 68) rfl)) rfl)
theorem fl_RX2_38 : gLk RX2 38 3 (RX2, TX2, 5) := Or.inl (gTab_in (gTb_1 _ (List.mem_of_getElem? (i := 69) rfl)) rfl)
theorem fl_RX2_48 : gLk RX2 48 8 (RX5, TX5, 13) := Or.inr ⟨"GaugeWall", gNest_in (gTb_2 _ (List.mem_of_getElem? (i := 171) rfl)) rfl⟩
theorem fl_RX2_73 : gLk RX2 73 2 (RX8, TX8, 11) := Or.inr ⟨"GaugeWall", gNest_in (gTb_2 _ (List.mem_of_getElem? (i := 115) rfl)) rfl⟩
theorem fl_RX2_78 : gLk RX2 78 0 (RX8, TX8, 11) := Or.inr ⟨"GaugeWall", gNest_in (gTb_2 _ (List.mem_of_getElem? (i := 112) rfl)) rfl⟩
theorem fl_RX2_85 : gLk RX2 85 11 (RX5, TX5, 13) := Or.inr ⟨"GaugeWall", gNest_in (gTb_2 _ (List.mem_of_getElem? (i := 177) rfl)) rfl⟩
theorem fl_RX2_88 : gLk RX2 88 9 (RX8, TX8, 11) := Or.inr ⟨"GaugeWall", gNest_in (gTb_2 _ (List.mem_of_getElem? (i := 129) rfl)) rfl⟩
theorem fl_RX2_94 : gLk RX2 94 10 (RX8, TX8, 11) := Or.inr ⟨"GaugeWall", gNest_in (gTb_2 _ (List.mem_of_getElem? (i := 132) rfl)) rfl⟩
theorem fl_RX2_119 : gLk RX2 119 0 (RX5, TX5, 13) := Or.inr ⟨"GaugeWall", gNest_in (gTb_2 _ (List.mem_of_getElem? (i := 157) rfl)) rfl⟩
theorem fl_RX2_123 : gLk RX2 123 3 (RX8, TX8, 11) := Or.inr ⟨"GaugeWall", gNest_in (gTb_2 _ (List.mem_of_getElem? (i := 116) rfl)) rfl⟩
theorem fl_RX2_138 : gLk RX2 138 8 (RX8, TX8, 11) := Or.inr ⟨"GaugeWall", gNest_in (gTb_2 _ (List.mem_of_getElem? (i := 126) rfl)) rfl⟩
theorem fl_RX2_145 : gLk RX2 145 4 (RX8, TX8, 11) := Or.inr ⟨"GaugeWall", gNest_in (gTb_2 _ (List.mem_of_getElem? (i := 118) rfl)) rfl⟩
theorem fl_RX2_148 : gLk RX2 148 5 (RX8, TX8, 11) := Or.inr ⟨"GaugeWall", gNest_in (gTb_2 _ (List.mem_of_getElem? (i := 120) rfl)) rfl⟩
theorem fl_RX2_151 : gLk RX2 151 6 (RX8, TX8, 11) := Or.inr ⟨"GaugeWall", gNest_in (gTb_2 _ (List.mem_of_getElem? (i := 122) rfl)) rfl⟩
theorem fl_RX2_154 : gLk RX2 154 7 (RX8, TX8, 11) := Or.inr ⟨"GaugeWall", gNest_in (gTb_2 _ (List.mem_of_getElem? (i := 124) rfl)) rfl⟩
theorem fl_RX2_157 : gLk RX2 157 3 (RX5, TX5, 13) := Or.inr ⟨"GaugeWall", gNest_in (gTb_2 _ (List.mem_of_getElem? (i := 163) rfl)) rfl⟩
theorem fl_RX2_165 : gLk RX2 165 4 (RX5, TX5, 13) := Or.inr ⟨"GaugeWall", gNest_in (gTb_2 _ (List.mem_of_getElem? (i := 165) rfl)) rfl⟩
theorem fl_RX2_168 : gLk RX2 168 1 (RX8, TX8, 11) := Or.inr ⟨"GaugeWall", gNest_in (gTb_2 _ (List.mem_of_getElem? (i := 114) rfl)) rfl⟩
theorem fl_RX4_15 : gLk RX4 15 1 (RX4, TX4, 17) := Or.inl (gTab_in (gTb_1 _ (List.mem_of_getElem? (i := 224) rfl)) rfl)
theorem fl_RX4_19 : gLk RX4 19 2 (RX4, TX4, 17) := Or.inl (gTab_in (gTb_1 _ (List.mem_of_getElem? (i := 225) rfl)) rfl)
theorem fl_RX4_23 : gLk RX4 23 3 (RX4, TX4, 17) := Or.inl (gTab_in (gTb_1 _ (List.mem_of_getElem? (i := 226) rfl)) rfl)
theorem fl_RX4_26 : gLk RX4 26 4 (RX4, TX4, 17) := Or.inl (gTab_in (gTb_1 _ (List.mem_of_getElem? (i := 227) rfl)) rfl)
theorem fl_RX4_29 : gLk RX4 29 5 (RX4, TX4, 17) := Or.inl (gTab_in (gTb_1 _ (List.mem_of_getElem? (i := 228) rfl)) rfl)
theorem fl_RX4_32 : gLk RX4 32 6 (RX4, TX4, 17) := Or.inl (gTab_in (gTb_1 _ (List.mem_of_getElem? (i := 229) rfl)) rfl)
theorem fl_RX4_35 : gLk RX4 35 7 (RX4, TX4, 17) := Or.inl (gTab_in (gTb_1 _ (List.mem_of_getElem? (i := 230) rfl)) rfl)
theorem fl_RX4_38 : gLk RX4 38 8 (RX4, TX4, 17) := Or.inl (gTab_in (gTb_1 _ (List.mem_of_getElem? (i := 231) rfl)) rfl)
theorem fl_RX4_41 : gLk RX4 41 9 (RX4, TX4, 17) := Or.inl (gTab_in (gTb_1 _ (List.mem_of_getElem? (i := 232) rfl)) rfl)
theorem fl_RX4_45 : gLk RX4 45 10 (RX4, TX4, 17) := Or.inl (gTab_in (gTb_1 _ (List.mem_of_getElem? (i := 233) rfl)) rfl)
theorem fl_RX4_48 : gLk RX4 48 0 (RX4, TX4, 17) := Or.inl (gTab_in (gTb_1 _ (List.mem_of_getElem? (i := 223) rfl)) rfl)
theorem fl_RX4_52 : gLk RX4 52 15 (RX4, TX4, 17) := Or.inl (gTab_in (gTb_1 _ (List.mem_of_getElem? (i := 238) rfl)) rfl)
theorem fl_RX4_56 : gLk RX4 56 16 (RX4, TX4, 17) := Or.inl (gTab_in (gTb_1 _ (List.mem_of_getElem? (i := 239) rfl)) rfl)
theorem fl_RX4_59 : gLk RX4 59 11 (RX4, TX4, 17) := Or.inl (gTab_in (gTb_1 _ (List.mem_of_getElem? (i := 234) rfl)) rfl)
theorem fl_RX4_100 : gLk RX4 100 0 (RX0, TX0, 14) := Or.inr ⟨"GaugeWall", gNest_in (gTb_1 _ (List.mem_of_getElem? (i := 153) rfl)) rfl⟩
theorem fl_RX4_103 : gLk RX4 103 1 (RX3, TX3, 4) := Or.inr ⟨"GaugeWall", gNest_in (gTb_2 _ (List.mem_of_getElem? (i := 44) rfl)) rfl⟩
theorem fl_RX4_106 : gLk RX4 106 2 (RX3, TX3, 4) := Or.inr ⟨"GaugeWall", gNest_in (gTb_2 _ (List.mem_of_getElem? (i := 46) rfl)) rfl⟩
theorem fl_RX4_107 : gLk RX4 107 3 (RX3, TX3, 4) := Or.inr ⟨"GaugeWall", gNest_in (gTb_2 _ (List.mem_of_getElem? (i := 48) rfl)) rfl⟩
theorem fl_RX4_110 : gLk RX4 110 0 (RX3, TX3, 4) := Or.inr ⟨"GaugeWall", gNest_in (gTb_2 _ (List.mem_of_getElem? (i := 42) rfl)) rfl⟩
theorem fl_RX4_133 : gLk RX4 133 14 (RX4, TX4, 17) := Or.inl (gTab_in (gTb_1 _ (List.mem_of_getElem? (i := 237) rfl)) rfl)
theorem fl_RX4_139 : gLk RX4 139 12 (RX4, TX4, 17) := Or.inl (gTab_in (gTb_1 _ (List.mem_of_getElem? (i := 235) rfl)) rfl)
theorem fl_RX4_146 : gLk RX4 146 1 (RX0, TX0, 14) := Or.inr ⟨"GaugeWall", gNest_in (gTb_1 _ (List.mem_of_getElem? (i := 156) rfl)) rfl⟩
theorem fl_RX4_155 : gLk RX4 155 12 (RX6, TX6, 15) := Or.inr ⟨"GaugeWall", gNest_in (gTb_1 _ (List.mem_of_getElem? (i := 106) rfl)) rfl⟩
theorem fl_RX4_160 : gLk RX4 160 13 (RX6, TX6, 15) := Or.inr ⟨"GaugeWall", gNest_in (gTb_1 _ (List.mem_of_getElem? (i := 109) rfl)) rfl⟩
theorem fl_RX4_169 : gLk RX4 169 13 (RX4, TX4, 17) := Or.inl (gTab_in (gTb_1 _ (List.mem_of_getElem? (i := 236) rfl)) rfl)
theorem fl_RX4_178 : gLk RX4 178 11 (RX6, TX6, 15) := Or.inr ⟨"GaugeWall", gNest_in (gTb_1 _ (List.mem_of_getElem? (i := 104) rfl)) rfl⟩
theorem fl_RX4_185 : gLk RX4 185 4 (RX0, TX0, 14) := Or.inr ⟨"GaugeWall", gNest_in (gTb_1 _ (List.mem_of_getElem? (i := 166) rfl)) rfl⟩
theorem fl_RX5_11 : gLk RX5 11 0 (RX5, TX5, 13) := Or.inl (gTab_in (gTb_2 _ (List.mem_of_getElem? (i := 156) rfl)) rfl)
theorem fl_RX5_17 : gLk RX5 17 1 (RX5, TX5, 13) := Or.inl (gTab_in (gTb_2 _ (List.mem_of_getElem? (i := 159) rfl)) rfl)
theorem fl_RX5_21 : gLk RX5 21 2 (RX5, TX5, 13) := Or.inl (gTab_in (gTb_2 _ (List.mem_of_getElem? (i := 161) rfl)) rfl)
theorem fl_RX5_24 : gLk RX5 24 3 (RX5, TX5, 13) := Or.inl (gTab_in (gTb_2 _ (List.mem_of_getElem? (i := 162) rfl)) rfl)
theorem fl_RX5_27 : gLk RX5 27 4 (RX5, TX5, 13) := Or.inl (gTab_in (gTb_2 _ (List.mem_of_getElem? (i := 164) rfl)) rfl)
theorem fl_RX5_30 : gLk RX5 30 5 (RX5, TX5, 13) := Or.inl (gTab_in (gTb_2 _ (List.mem_of_getElem? (i := 166) rfl)) rfl)
theorem fl_RX5_34 : gLk RX5 34 6 (RX5, TX5, 13) := Or.inl (gTab_in (gTb_2 _ (List.mem_of_getElem? (i := 168) rfl)) rfl)
theorem fl_RX5_38 : gLk RX5 38 7 (RX5, TX5, 13) := Or.inl (gTab_in (gTb_2 _ (List.mem_of_getElem? (i := 169) rfl)) rfl)
theorem fl_RX5_41 : gLk RX5 41 8 (RX5, TX5, 13) := Or.inl (gTab_in (gTb_2 _ (List.mem_of_getElem? (i := 170) rfl)) rfl)
theorem fl_RX5_45 : gLk RX5 45 9 (RX5, TX5, 13) := Or.inl (gTab_in (gTb_2 _ (List.mem_of_getElem? (i := 172) rfl)) rfl)
theorem fl_RX5_48 : gLk RX5 48 10 (RX5, TX5, 13) := Or.inl (gTab_in (gTb_2 _ (List.mem_of_getElem? (i := 174) rfl)) rfl)
theorem fl_RX5_51 : gLk RX5 51 11 (RX5, TX5, 13) := Or.inl (gTab_in (gTb_2 _ (List.mem_of_getElem? (i := 176) rfl)) rfl)
theorem fl_RX5_54 : gLk RX5 54 0 (RX8, TX8, 11) := Or.inr ⟨"GaugeWall", gNest_in (gTb_2 _ (List.mem_of_getElem? (i := 111) rfl)) rfl⟩
theorem fl_RX5_58 : gLk RX5 58 1 (RX8, TX8, 11) := Or.inr ⟨"GaugeWall", gNest_in (gTb_2 _ (List.mem_of_getElem? (i := 113) rfl)) rfl⟩
theorem fl_RX5_61 : gLk RX5 61 9 (RX8, TX8, 11) := Or.inr ⟨"GaugeWall", gNest_in (gTb_2 _ (List.mem_of_getElem? (i := 128) rfl)) rfl⟩
theorem fl_RX5_64 : gLk RX5 64 10 (RX8, TX8, 11) := Or.inr ⟨"GaugeWall", gNest_in (gTb_2 _ (List.mem_of_getElem? (i := 131) rfl)) rfl⟩
theorem fl_RX5_71 : gLk RX5 71 12 (RX5, TX5, 13) := Or.inl (gTab_in (gTb_2 _ (List.mem_of_getElem? (i := 178) rfl)) rfl)
theorem fl_RX6_9 : gLk RX6 9 0 (RX6, TX6, 15) := Or.inl (gTab_in (gTb_1 _ (List.mem_of_getElem? (i := 89) rfl)) rfl)
theorem fl_RX6_15 : gLk RX6 15 1 (RX6, TX6, 15) := Or.inl (gTab_in (gTb_1 _ (List.mem_of_getElem? (i := 91) rfl)) rfl)
theorem fl_RX6_18 : gLk RX6 18 2 (RX6, TX6, 15) := Or.inl (gTab_in (gTb_1 _ (List.mem_of_getElem? (i := 92) rfl)) rfl)
theorem fl_RX6_21 : gLk RX6 21 3 (RX6, TX6, 15) := Or.inl (gTab_in (gTb_1 _ (List.mem_of_getElem? (i := 93) rfl)) rfl)
theorem fl_RX6_24 : gLk RX6 24 4 (RX6, TX6, 15) := Or.inl (gTab_in (gTb_1 _ (List.mem_of_getElem? (i := 94) rfl)) rfl)
theorem fl_RX6_27 : gLk RX6 27 5 (RX6, TX6, 15) := Or.inl (gTab_in (gTb_1 _ (List.mem_of_getElem? (i := 95) rfl)) rfl)
theorem fl_RX6_30 : gLk RX6 30 6 (RX6, TX6, 15) := Or.inl (gTab_in (gTb_1 _ (List.mem_of_getElem? (i := 96) rfl)) rfl)
theorem fl_RX6_33 : gLk RX6 33 7 (RX6, TX6, 15) := Or.inl (gTab_in (gTb_1 _ (List.mem_of_getElem? (i := 97) rfl)) rfl)
theorem fl_RX6_36 : gLk RX6 36 8 (RX6, TX6, 15) := Or.inl (gTab_in (gTb_1 _ (List.mem_of_getElem? (i := 98) rfl)) rfl)
theorem fl_RX6_40 : gLk RX6 40 11 (RX6, TX6, 15) := Or.inl (gTab_in (gTb_1 _ (List.mem_of_getElem? (i := 102) rfl)) rfl)
theorem fl_RX6_44 : gLk RX6 44 9 (RX6, TX6, 15) := Or.inl (gTab_in (gTb_1 _ (List.mem_of_getElem? (i := 99) rfl)) rfl)
theorem fl_RX6_47 : gLk RX6 47 10 (RX6, TX6, 15) := Or.inl (gTab_in (gTb_1 _ (List.mem_of_getElem? (i := 101) rfl)) rfl)
theorem fl_RX6_50 : gLk RX6 50 12 (RX6, TX6, 15) := Or.inl (gTab_in (gTb_1 _ (List.mem_of_getElem? (i := 105) rfl)) rfl)
theorem fl_RX6_57 : gLk RX6 57 13 (RX6, TX6, 15) := Or.inl (gTab_in (gTb_1 _ (List.mem_of_getElem? (i := 108) rfl)) rfl)
theorem fl_RX6_60 : gLk RX6 60 14 (RX6, TX6, 15) := Or.inl (gTab_in (gTb_1 _ (List.mem_of_getElem? (i := 111) rfl)) rfl)
theorem fl_RX7_9 : gLk RX7 9 0 (RX7, TX7, 2) := Or.inl (gTab_in (gTb_1 _ (List.mem_of_getElem? (i := 29) rfl)) rfl)
theorem fl_RX7_15 : gLk RX7 15 1 (RX7, TX7, 2) := Or.inl (gTab_in (gTb_1 _ (List.mem_of_getElem? (i := 31) rfl)) rfl)
theorem fl_RX9_9 : gLk RX9 9 0 (RX9, TX9, 4) := Or.inl (gTab_in (gTb_1 _ (List.mem_of_getElem? (i := 51) rfl)) rfl)
theorem fl_RX9_15 : gLk RX9 15 1 (RX9, TX9, 4) := Or.inl (gTab_in (gTb_1 _ (List.mem_of_getElem? (i := 52) rfl)) rfl)
theorem fl_RX9_18 : gLk RX9 18 2 (RX9, TX9, 4) := Or.inl (gTab_in (gTb_1 _ (List.mem_of_getElem? (i := 53) rfl)) rfl)
theorem fl_RX9_22 : gLk RX9 22 3 (RX9, TX9, 4) := Or.inl (gTab_in (gTb_1 _ (List.mem_of_getElem? (i := 54) rfl)) rfl)
theorem fl_RX9_59 : gLk RX9 59 1 (RX7, TX7, 2) := Or.inr ⟨"GaugeWall", gNest_in (gTb_1 _ (List.mem_of_getElem? (i := 32) rfl)) rfl⟩
theorem fs_RX9_73 : Cond.fieldLink RX9 73 "GaugeWall$Tokens" "WORDS" "[J" ∈ gTab := gTab_in (gTb_3 _ (List.mem_of_getElem? (i := 62) rfl)) rfl
theorem fs_RX9_76 : Cond.fieldLink RX9 76 "GaugeWall$Tokens" "WORD_KINDS" "[I" ∈ gTab := gTab_in (gTb_3 _ (List.mem_of_getElem? (i := 64) rfl)) rfl
theorem fl_RX11_13 : gLk RX11 13 1 (RX11, TX11, 87) := Or.inl (gTab_in (gTb_5 _ (List.mem_of_getElem? (i := 50) rfl)) rfl)
theorem fl_RX11_17 : gLk RX11 17 3 (RX11, TX11, 87) := Or.inl (gTab_in (gTb_5 _ (List.mem_of_getElem? (i := 52) rfl)) rfl)
theorem fl_RX11_20 : gLk RX11 20 5 (RX11, TX11, 87) := Or.inl (gTab_in (gTb_5 _ (List.mem_of_getElem? (i := 54) rfl)) rfl)
theorem fl_RX11_24 : gLk RX11 24 6 (RX11, TX11, 87) := Or.inl (gTab_in (gTb_5 _ (List.mem_of_getElem? (i := 55) rfl)) rfl)
theorem fl_RX11_27 : gLk RX11 27 7 (RX11, TX11, 87) := Or.inl (gTab_in (gTb_5 _ (List.mem_of_getElem? (i := 56) rfl)) rfl)
theorem fl_RX11_30 : gLk RX11 30 8 (RX11, TX11, 87) := Or.inl (gTab_in (gTb_5 _ (List.mem_of_getElem? (i := 57) rfl)) rfl)
theorem fl_RX11_34 : gLk RX11 34 9 (RX11, TX11, 87) := Or.inl (gTab_in (gTb_5 _ (List.mem_of_getElem? (i := 58) rfl)) rfl)
theorem fl_RX11_37 : gLk RX11 37 17 (RX11, TX11, 87) := Or.inl (gTab_in (gTb_5 _ (List.mem_of_getElem? (i := 66) rfl)) rfl)
theorem fl_RX11_40 : gLk RX11 40 20 (RX11, TX11, 87) := Or.inl (gTab_in (gTb_5 _ (List.mem_of_getElem? (i := 69) rfl)) rfl)
theorem fl_RX11_43 : gLk RX11 43 21 (RX11, TX11, 87) := Or.inl (gTab_in (gTb_5 _ (List.mem_of_getElem? (i := 70) rfl)) rfl)
theorem fl_RX11_46 : gLk RX11 46 22 (RX11, TX11, 87) := Or.inl (gTab_in (gTb_5 _ (List.mem_of_getElem? (i := 71) rfl)) rfl)
theorem fl_RX11_49 : gLk RX11 49 23 (RX11, TX11, 87) := Or.inl (gTab_in (gTb_5 _ (List.mem_of_getElem? (i := 72) rfl)) rfl)
theorem fl_RX11_52 : gLk RX11 52 24 (RX11, TX11, 87) := Or.inl (gTab_in (gTb_5 _ (List.mem_of_getElem? (i := 73) rfl)) rfl)
theorem fl_RX11_55 : gLk RX11 55 25 (RX11, TX11, 87) := Or.inl (gTab_in (gTb_5 _ (List.mem_of_getElem? (i := 74) rfl)) rfl)
theorem fl_RX11_58 : gLk RX11 58 26 (RX11, TX11, 87) := Or.inl (gTab_in (gTb_5 _ (List.mem_of_getElem? (i := 75) rfl)) rfl)
theorem fl_RX11_61 : gLk RX11 61 27 (RX11, TX11, 87) := Or.inl (gTab_in (gTb_5 _ (List.mem_of_getElem? (i := 76) rfl)) rfl)
theorem fl_RX11_64 : gLk RX11 64 28 (RX11, TX11, 87) := Or.inl (gTab_in (gTb_5 _ (List.mem_of_getElem? (i := 77) rfl)) rfl)
theorem fl_RX11_67 : gLk RX11 67 29 (RX11, TX11, 87) := Or.inl (gTab_in (gTb_5 _ (List.mem_of_getElem? (i := 78) rfl)) rfl)
theorem fl_RX11_70 : gLk RX11 70 30 (RX11, TX11, 87) := Or.inl (gTab_in (gTb_5 _ (List.mem_of_getElem? (i := 79) rfl)) rfl)
theorem fl_RX11_73 : gLk RX11 73 31 (RX11, TX11, 87) := Or.inl (gTab_in (gTb_5 _ (List.mem_of_getElem? (i := 80) rfl)) rfl)
theorem fl_RX11_76 : gLk RX11 76 32 (RX11, TX11, 87) := Or.inl (gTab_in (gTb_5 _ (List.mem_of_getElem? (i := 81) rfl)) rfl)
theorem fl_RX11_79 : gLk RX11 79 33 (RX11, TX11, 87) := Or.inl (gTab_in (gTb_5 _ (List.mem_of_getElem? (i := 82) rfl)) rfl)
theorem fl_RX11_82 : gLk RX11 82 35 (RX11, TX11, 87) := Or.inl (gTab_in (gTb_5 _ (List.mem_of_getElem? (i := 84) rfl)) rfl)
theorem fl_RX11_85 : gLk RX11 85 36 (RX11, TX11, 87) := Or.inl (gTab_in (gTb_5 _ (List.mem_of_getElem? (i := 85) rfl)) rfl)
theorem fl_RX11_88 : gLk RX11 88 39 (RX11, TX11, 87) := Or.inl (gTab_in (gTb_5 _ (List.mem_of_getElem? (i := 88) rfl)) rfl)
theorem fl_RX11_91 : gLk RX11 91 41 (RX11, TX11, 87) := Or.inl (gTab_in (gTb_5 _ (List.mem_of_getElem? (i := 90) rfl)) rfl)
theorem fl_RX11_94 : gLk RX11 94 44 (RX11, TX11, 87) := Or.inl (gTab_in (gTb_5 _ (List.mem_of_getElem? (i := 93) rfl)) rfl)
theorem fl_RX11_97 : gLk RX11 97 45 (RX11, TX11, 87) := Or.inl (gTab_in (gTb_5 _ (List.mem_of_getElem? (i := 94) rfl)) rfl)
theorem fl_RX11_100 : gLk RX11 100 46 (RX11, TX11, 87) := Or.inl (gTab_in (gTb_5 _ (List.mem_of_getElem? (i := 95) rfl)) rfl)
theorem fl_RX11_103 : gLk RX11 103 48 (RX11, TX11, 87) := Or.inl (gTab_in (gTb_5 _ (List.mem_of_getElem? (i := 97) rfl)) rfl)
theorem fl_RX11_106 : gLk RX11 106 49 (RX11, TX11, 87) := Or.inl (gTab_in (gTb_5 _ (List.mem_of_getElem? (i := 98) rfl)) rfl)
theorem fl_RX11_109 : gLk RX11 109 50 (RX11, TX11, 87) := Or.inl (gTab_in (gTb_5 _ (List.mem_of_getElem? (i := 99) rfl)) rfl)
theorem fl_RX11_112 : gLk RX11 112 55 (RX11, TX11, 87) := Or.inl (gTab_in (gTb_5 _ (List.mem_of_getElem? (i := 104) rfl)) rfl)
theorem fl_RX11_115 : gLk RX11 115 56 (RX11, TX11, 87) := Or.inl (gTab_in (gTb_5 _ (List.mem_of_getElem? (i := 105) rfl)) rfl)
theorem fl_RX11_118 : gLk RX11 118 57 (RX11, TX11, 87) := Or.inl (gTab_in (gTb_5 _ (List.mem_of_getElem? (i := 106) rfl)) rfl)
theorem fl_RX11_121 : gLk RX11 121 58 (RX11, TX11, 87) := Or.inl (gTab_in (gTb_5 _ (List.mem_of_getElem? (i := 107) rfl)) rfl)
theorem fl_RX11_124 : gLk RX11 124 59 (RX11, TX11, 87) := Or.inl (gTab_in (gTb_5 _ (List.mem_of_getElem? (i := 108) rfl)) rfl)
theorem fl_RX11_127 : gLk RX11 127 60 (RX11, TX11, 87) := Or.inl (gTab_in (gTb_5 _ (List.mem_of_getElem? (i := 109) rfl)) rfl)
theorem fl_RX11_130 : gLk RX11 130 61 (RX11, TX11, 87) := Or.inl (gTab_in (gTb_5 _ (List.mem_of_getElem? (i := 110) rfl)) rfl)
theorem fl_RX11_133 : gLk RX11 133 62 (RX11, TX11, 87) := Or.inl (gTab_in (gTb_5 _ (List.mem_of_getElem? (i := 111) rfl)) rfl)
theorem fl_RX11_136 : gLk RX11 136 63 (RX11, TX11, 87) := Or.inl (gTab_in (gTb_5 _ (List.mem_of_getElem? (i := 112) rfl)) rfl)
theorem fl_RX11_139 : gLk RX11 139 64 (RX11, TX11, 87) := Or.inl (gTab_in (gTb_5 _ (List.mem_of_getElem? (i := 113) rfl)) rfl)
theorem fl_RX11_142 : gLk RX11 142 69 (RX11, TX11, 87) := Or.inl (gTab_in (gTb_5 _ (List.mem_of_getElem? (i := 118) rfl)) rfl)
theorem fl_RX11_146 : gLk RX11 146 70 (RX11, TX11, 87) := Or.inl (gTab_in (gTb_5 _ (List.mem_of_getElem? (i := 119) rfl)) rfl)
theorem fl_RX11_149 : gLk RX11 149 71 (RX11, TX11, 87) := Or.inl (gTab_in (gTb_5 _ (List.mem_of_getElem? (i := 120) rfl)) rfl)
theorem fl_RX11_152 : gLk RX11 152 73 (RX11, TX11, 87) := Or.inl (gTab_in (gTb_5 _ (List.mem_of_getElem? (i := 122) rfl)) rfl)
theorem fl_RX11_155 : gLk RX11 155 74 (RX11, TX11, 87) := Or.inl (gTab_in (gTb_5 _ (List.mem_of_getElem? (i := 123) rfl)) rfl)
theorem fl_RX11_159 : gLk RX11 159 75 (RX11, TX11, 87) := Or.inl (gTab_in (gTb_5 _ (List.mem_of_getElem? (i := 124) rfl)) rfl)
theorem fl_RX11_162 : gLk RX11 162 76 (RX11, TX11, 87) := Or.inl (gTab_in (gTb_5 _ (List.mem_of_getElem? (i := 125) rfl)) rfl)
theorem fl_RX11_165 : gLk RX11 165 77 (RX11, TX11, 87) := Or.inl (gTab_in (gTb_5 _ (List.mem_of_getElem? (i := 126) rfl)) rfl)
theorem fl_RX11_168 : gLk RX11 168 78 (RX11, TX11, 87) := Or.inl (gTab_in (gTb_5 _ (List.mem_of_getElem? (i := 127) rfl)) rfl)
theorem fl_RX11_171 : gLk RX11 171 79 (RX11, TX11, 87) := Or.inl (gTab_in (gTb_5 _ (List.mem_of_getElem? (i := 128) rfl)) rfl)
theorem fl_RX11_174 : gLk RX11 174 81 (RX11, TX11, 87) := Or.inl (gTab_in (gTb_5 _ (List.mem_of_getElem? (i := 130) rfl)) rfl)
theorem fl_RX11_177 : gLk RX11 177 82 (RX11, TX11, 87) := Or.inl (gTab_in (gTb_5 _ (List.mem_of_getElem? (i := 131) rfl)) rfl)
theorem fl_RX11_180 : gLk RX11 180 83 (RX11, TX11, 87) := Or.inl (gTab_in (gTb_5 _ (List.mem_of_getElem? (i := 132) rfl)) rfl)
theorem fl_RX11_183 : gLk RX11 183 84 (RX11, TX11, 87) := Or.inl (gTab_in (gTb_5 _ (List.mem_of_getElem? (i := 133) rfl)) rfl)
theorem fl_RX11_186 : gLk RX11 186 85 (RX11, TX11, 87) := Or.inl (gTab_in (gTb_5 _ (List.mem_of_getElem? (i := 134) rfl)) rfl)
theorem fl_RX11_189 : gLk RX11 189 86 (RX11, TX11, 87) := Or.inl (gTab_in (gTb_5 _ (List.mem_of_getElem? (i := 135) rfl)) rfl)
theorem fl_RX11_196 : gLk RX11 196 42 (RX11, TX11, 87) := Or.inl (gTab_in (gTb_5 _ (List.mem_of_getElem? (i := 91) rfl)) rfl)
theorem fl_RX11_199 : gLk RX11 199 2 (RX11, TX11, 87) := Or.inl (gTab_in (gTb_5 _ (List.mem_of_getElem? (i := 51) rfl)) rfl)
theorem fl_RX11_206 : gLk RX11 206 4 (RX11, TX11, 87) := Or.inl (gTab_in (gTb_5 _ (List.mem_of_getElem? (i := 53) rfl)) rfl)
theorem fl_RX11_219 : gLk RX11 219 10 (RX11, TX11, 87) := Or.inl (gTab_in (gTb_5 _ (List.mem_of_getElem? (i := 59) rfl)) rfl)
theorem fl_RX11_233 : gLk RX11 233 13 (RX11, TX11, 87) := Or.inl (gTab_in (gTb_5 _ (List.mem_of_getElem? (i := 62) rfl)) rfl)
theorem fl_RX11_236 : gLk RX11 236 11 (RX11, TX11, 87) := Or.inl (gTab_in (gTb_5 _ (List.mem_of_getElem? (i := 60) rfl)) rfl)
theorem fl_RX11_239 : gLk RX11 239 14 (RX11, TX11, 87) := Or.inl (gTab_in (gTb_5 _ (List.mem_of_getElem? (i := 63) rfl)) rfl)
theorem fl_RX11_242 : gLk RX11 242 15 (RX11, TX11, 87) := Or.inl (gTab_in (gTb_5 _ (List.mem_of_getElem? (i := 64) rfl)) rfl)
theorem fl_RX11_245 : gLk RX11 245 16 (RX11, TX11, 87) := Or.inl (gTab_in (gTb_5 _ (List.mem_of_getElem? (i := 65) rfl)) rfl)
theorem fl_RX11_260 : gLk RX11 260 12 (RX11, TX11, 87) := Or.inl (gTab_in (gTb_5 _ (List.mem_of_getElem? (i := 61) rfl)) rfl)
theorem fl_RX11_263 : gLk RX11 263 18 (RX11, TX11, 87) := Or.inl (gTab_in (gTb_5 _ (List.mem_of_getElem? (i := 67) rfl)) rfl)
theorem fl_RX11_266 : gLk RX11 266 19 (RX11, TX11, 87) := Or.inl (gTab_in (gTb_5 _ (List.mem_of_getElem? (i := 68) rfl)) rfl)
theorem fl_RX11_269 : gLk RX11 269 34 (RX11, TX11, 87) := Or.inl (gTab_in (gTb_5 _ (List.mem_of_getElem? (i := 83) rfl)) rfl)
theorem fl_RX11_275 : gLk RX11 275 65 (RX11, TX11, 87) := Or.inl (gTab_in (gTb_5 _ (List.mem_of_getElem? (i := 114) rfl)) rfl)
theorem fl_RX11_279 : gLk RX11 279 80 (RX11, TX11, 87) := Or.inl (gTab_in (gTb_5 _ (List.mem_of_getElem? (i := 129) rfl)) rfl)
theorem fl_RX11_292 : gLk RX11 292 37 (RX11, TX11, 87) := Or.inl (gTab_in (gTb_5 _ (List.mem_of_getElem? (i := 86) rfl)) rfl)
theorem fl_RX11_295 : gLk RX11 295 38 (RX11, TX11, 87) := Or.inl (gTab_in (gTb_5 _ (List.mem_of_getElem? (i := 87) rfl)) rfl)
theorem fl_RX11_311 : gLk RX11 311 40 (RX11, TX11, 87) := Or.inl (gTab_in (gTb_5 _ (List.mem_of_getElem? (i := 89) rfl)) rfl)
theorem fl_RX11_331 : gLk RX11 331 43 (RX11, TX11, 87) := Or.inl (gTab_in (gTb_5 _ (List.mem_of_getElem? (i := 92) rfl)) rfl)
theorem fl_RX11_334 : gLk RX11 334 47 (RX11, TX11, 87) := Or.inl (gTab_in (gTb_5 _ (List.mem_of_getElem? (i := 96) rfl)) rfl)
theorem fl_RX11_337 : gLk RX11 337 51 (RX11, TX11, 87) := Or.inl (gTab_in (gTb_5 _ (List.mem_of_getElem? (i := 100) rfl)) rfl)
theorem fl_RX11_344 : gLk RX11 344 52 (RX11, TX11, 87) := Or.inl (gTab_in (gTb_5 _ (List.mem_of_getElem? (i := 101) rfl)) rfl)
theorem fl_RX11_350 : gLk RX11 350 53 (RX11, TX11, 87) := Or.inl (gTab_in (gTb_5 _ (List.mem_of_getElem? (i := 102) rfl)) rfl)
theorem fl_RX11_353 : gLk RX11 353 54 (RX11, TX11, 87) := Or.inl (gTab_in (gTb_5 _ (List.mem_of_getElem? (i := 103) rfl)) rfl)
theorem fl_RX11_368 : gLk RX11 368 72 (RX11, TX11, 87) := Or.inl (gTab_in (gTb_5 _ (List.mem_of_getElem? (i := 121) rfl)) rfl)
theorem fl_RX11_404 : gLk RX11 404 66 (RX11, TX11, 87) := Or.inl (gTab_in (gTb_5 _ (List.mem_of_getElem? (i := 115) rfl)) rfl)
theorem fl_RX11_407 : gLk RX11 407 67 (RX11, TX11, 87) := Or.inl (gTab_in (gTb_5 _ (List.mem_of_getElem? (i := 116) rfl)) rfl)
theorem fl_RX11_410 : gLk RX11 410 68 (RX11, TX11, 87) := Or.inl (gTab_in (gTb_5 _ (List.mem_of_getElem? (i := 117) rfl)) rfl)
theorem mk_RX10_72 : Cond.methodLink RX10 72 yX7_append ∈ gTab := gTab_in (gTb_3 _ (List.mem_of_getElem? (i := 7) rfl)) rfl
theorem mk_RX10_76 : Cond.methodLink RX10 76 yX2_parse ∈ gTab := gTab_in (gTb_3 _ (List.mem_of_getElem? (i := 19) rfl)) rfl
theorem mk_RX10_80 : Cond.methodLink RX10 80 yX10_hangDraft ∈ gTab := gTab_in (gTb_3 _ (List.mem_of_getElem? (i := 164) rfl)) rfl
theorem mk_RX10_86 : Cond.methodLink RX10 86 yX10_isSource ∈ gTab := gTab_in (gTb_3 _ (List.mem_of_getElem? (i := 180) rfl)) rfl
theorem mk_RX10_97 : Cond.methodLink RX10 97 yX6_addFact ∈ gTab := gTab_in (gTb_3 _ (List.mem_of_getElem? (i := 191) rfl)) rfl
theorem mk_RX10_104 : Cond.methodLink RX10 104 yX6_addDown ∈ gTab := gTab_in (gTb_3 _ (List.mem_of_getElem? (i := 199) rfl)) rfl
theorem mk_RX10_108 : Cond.methodLink RX10 108 yX6_pay ∈ gTab := gTab_in (gTb_3 _ (List.mem_of_getElem? (i := 207) rfl)) rfl
theorem mk_RX10_111 : Cond.methodLink RX10 111 yX10_renewBoxes ∈ gTab := gTab_in (gTb_3 _ (List.mem_of_getElem? (i := 215) rfl)) rfl
theorem mk_RX10_115 : Cond.methodLink RX10 115 yX6_startTick ∈ gTab := gTab_in (gTb_4 _ (List.mem_of_getElem? (i := 28) rfl)) rfl
theorem mk_RX10_121 : Cond.methodLink RX10 121 yX0_carryInto ∈ gTab := gTab_in (gTb_4 _ (List.mem_of_getElem? (i := 32) rfl)) rfl
theorem mk_RX10_124 : Cond.methodLink RX10 124 yX10_isBox ∈ gTab := gTab_in (gTb_4 _ (List.mem_of_getElem? (i := 40) rfl)) rfl
theorem mk_RX10_133 : Cond.methodLink RX10 133 yX10_showed ∈ gTab := gTab_in (gTb_4 _ (List.mem_of_getElem? (i := 48) rfl)) rfl
theorem mk_RX10_137 : Cond.methodLink RX10 137 yX10_isPast ∈ gTab := gTab_in (gTb_4 _ (List.mem_of_getElem? (i := 52) rfl)) rfl
theorem mk_RX10_159 : Cond.methodLink RX10 159 yX0_isStale ∈ gTab := gTab_in (gTb_4 _ (List.mem_of_getElem? (i := 61) rfl)) rfl
theorem mk_RX10_162 : Cond.methodLink RX10 162 yX0_ageAt ∈ gTab := gTab_in (gTb_4 _ (List.mem_of_getElem? (i := 69) rfl)) rfl
theorem mk_RX10_169 : Cond.methodLink RX10 169 yX10_ownSources ∈ gTab := gTab_in (gTb_4 _ (List.mem_of_getElem? (i := 70) rfl)) rfl
theorem mk_RX10_172 : Cond.methodLink RX10 172 yX6_costOf ∈ gTab := gTab_in (gTb_4 _ (List.mem_of_getElem? (i := 74) rfl)) rfl
theorem mk_RX10_178 : Cond.methodLink RX10 178 yX6_valuesAt ∈ gTab := gTab_in (gTb_3 _ (List.mem_of_getElem? (i := 223) rfl)) rfl
theorem mk_RX10_182 : Cond.methodLink RX10 182 yX5_evaluateLets ∈ gTab := gTab_in (gTb_3 _ (List.mem_of_getElem? (i := 227) rfl)) rfl
theorem mk_RX10_189 : Cond.methodLink RX10 189 yX10_isPlannable ∈ gTab := gTab_in (gTb_4 _ (List.mem_of_getElem? (i := 87) rfl)) rfl
theorem mk_RX10_192 : Cond.methodLink RX10 192 yX4_begin ∈ gTab := gTab_in (gTb_4 _ (List.mem_of_getElem? (i := 97) rfl)) rfl
theorem mk_RX10_196 : Cond.methodLink RX10 196 yX4_choose ∈ gTab := gTab_in (gTb_4 _ (List.mem_of_getElem? (i := 101) rfl)) rfl
theorem mk_RX10_200 : Cond.methodLink RX10 200 yX4_makePlan ∈ gTab := gTab_in (gTb_4 _ (List.mem_of_getElem? (i := 105) rfl)) rfl
theorem mk_RX10_216 : Cond.methodLink RX10 216 yX10_planned ∈ gTab := gTab_in (gTb_4 _ (List.mem_of_getElem? (i := 203) rfl)) rfl
theorem mk_RX10_219 : Cond.methodLink RX10 219 yX10_ask ∈ gTab := gTab_in (gTb_4 _ (List.mem_of_getElem? (i := 204) rfl)) rfl
theorem mk_RX10_222 : Cond.methodLink RX10 222 yX10_canBeFixed ∈ gTab := gTab_in (gTb_4 _ (List.mem_of_getElem? (i := 209) rfl)) rfl
theorem mk_RX10_231 : Cond.methodLink RX10 231 yX10_fitsColumns ∈ gTab := gTab_in (gTb_4 _ (List.mem_of_getElem? (i := 225) rfl)) rfl
theorem mk_RX10_238 : Cond.methodLink RX10 238 yX1_arrange ∈ gTab := gTab_in (gTb_4 _ (List.mem_of_getElem? (i := 230) rfl)) rfl
theorem mk_RX10_260 : Cond.methodLink RX10 260 yX10_staleBoxes ∈ gTab := gTab_in (gTb_5 _ (List.mem_of_getElem? (i := 29) rfl)) rfl
theorem mk_RX10_263 : Cond.methodLink RX10 263 yJ6_bitCount_0f7a4 ∈ gTab := gTab_in (gTb_4 _ (List.mem_of_getElem? (i := 91) rfl)) rfl
theorem mk_RX10_276 : Cond.methodLink RX10 276 yX0_become ∈ gTab := gTab_in (gTb_3 _ (List.mem_of_getElem? (i := 168) rfl)) rfl
theorem mk_RX10_280 : Cond.methodLink RX10 280 yX6_downAt ∈ gTab := gTab_in (gTb_3 _ (List.mem_of_getElem? (i := 219) rfl)) rfl
theorem mk_RX10_292 : Cond.methodLink RX10 292 yX5_evaluate ∈ gTab := gTab_in (gTb_4 _ (List.mem_of_getElem? (i := 19) rfl)) rfl
theorem mk_RX10_295 : Cond.methodLink RX10 295 yX0_renew ∈ gTab := gTab_in (gTb_4 _ (List.mem_of_getElem? (i := 20) rfl)) rfl
theorem mk_RX10_299 : Cond.methodLink RX10 299 yX0_isFixedOver ∈ gTab := gTab_in (gTb_4 _ (List.mem_of_getElem? (i := 213) rfl)) rfl
theorem mk_RX10_303 : Cond.methodLink RX10 303 yX0_isFixed ∈ gTab := gTab_in (gTb_4 _ (List.mem_of_getElem? (i := 229) rfl)) rfl
theorem mk_RX0_65 : Cond.methodLink RX0 65 yX0_ageAt ∈ gTab := gTab_in (gTb_4 _ (List.mem_of_getElem? (i := 65) rfl)) rfl
theorem mk_RX0_69 : Cond.methodLink RX0 69 yX0_isFixed ∈ gTab := gTab_in (gTb_4 _ (List.mem_of_getElem? (i := 217) rfl)) rfl
theorem mk_RX1_47 : Cond.methodLink RX1 47 yX0_isFixed ∈ gTab := gTab_in (gTb_4 _ (List.mem_of_getElem? (i := 235) rfl)) rfl
theorem mk_RX1_59 : Cond.methodLink RX1 59 yX1_flip ∈ gTab := gTab_in (gTb_4 _ (List.mem_of_getElem? (i := 236) rfl)) rfl
theorem mk_RX1_66 : Cond.methodLink RX1 66 Lib.Math.max.name ∈ gTab := gTab_in (gTb_5 _ (List.mem_of_getElem? (i := 3) rfl)) rfl
theorem mk_RX1_75 : Cond.methodLink RX1 75 yX1_layFree ∈ gTab := gTab_in (gTb_5 _ (List.mem_of_getElem? (i := 4) rfl)) rfl
theorem mk_RX1_79 : Cond.methodLink RX1 79 yX1_keepAsBest ∈ gTab := gTab_in (gTb_5 _ (List.mem_of_getElem? (i := 8) rfl)) rfl
theorem mk_RX1_83 : Cond.methodLink RX1 83 yX1_findRoom ∈ gTab := gTab_in (gTb_5 _ (List.mem_of_getElem? (i := 12) rfl)) rfl
theorem mk_RX1_90 : Cond.methodLink RX1 90 Lib.Math.min.name ∈ gTab := gTab_in (gTb_5 _ (List.mem_of_getElem? (i := 16) rfl)) rfl
theorem mk_RX1_93 : Cond.methodLink RX1 93 yX1_columnBits ∈ gTab := gTab_in (gTb_5 _ (List.mem_of_getElem? (i := 0) rfl)) rfl
theorem mk_RX2_26 : Cond.methodLink RX2 26 yX5_clear ∈ gTab := gTab_in (gTb_3 _ (List.mem_of_getElem? (i := 23) rfl)) rfl
theorem mk_RX2_31 : Cond.methodLink RX2 31 yX9_split ∈ gTab := gTab_in (gTb_3 _ (List.mem_of_getElem? (i := 27) rfl)) rfl
theorem mk_RX2_41 : Cond.methodLink RX2 41 yX2_kind ∈ gTab := gTab_in (gTb_3 _ (List.mem_of_getElem? (i := 75) rfl)) rfl
theorem mk_RX2_45 : Cond.methodLink RX2 45 yX2_parseTell ∈ gTab := gTab_in (gTb_3 _ (List.mem_of_getElem? (i := 83) rfl)) rfl
theorem mk_RX2_51 : Cond.methodLink RX2 51 yX2_checkTell ∈ gTab := gTab_in (gTb_3 _ (List.mem_of_getElem? (i := 139) rfl)) rfl
theorem mk_RX2_55 : Cond.methodLink RX2 55 yX9_placeAt ∈ gTab := gTab_in (gTb_3 _ (List.mem_of_getElem? (i := 91) rfl)) rfl
theorem mk_RX2_59 : Cond.methodLink RX2 59 yX9_kindAt ∈ gTab := gTab_in (gTb_3 _ (List.mem_of_getElem? (i := 79) rfl)) rfl
theorem mk_RX2_62 : Cond.methodLink RX2 62 yX2_fail ∈ gTab := gTab_in (gTb_3 _ (List.mem_of_getElem? (i := 87) rfl)) rfl
theorem mk_RX2_66 : Cond.methodLink RX2 66 yX5_openTell ∈ gTab := gTab_in (gTb_3 _ (List.mem_of_getElem? (i := 95) rfl)) rfl

/-! THE LAYOUT: cell k of the law stands at β + k -/
abbrev gLy : List (Nat ⊕ (Nat × Nat)) := [.inl 10, .inl 7, .inr (2, 2000), .inl 2, .inl 9, .inr (0, 401), .inr (0, 401), .inr (1, 401), .inl 6, .inr (0, 6), .inr (0, 400), .inr (0, 400), .inr (0, 400), .inr (0, 40), .inr (0, 40), .inr (0, 40), .inr (0, 6), .inr (1, 6), .inr (4, 6), .inl 0, .inr (0, 400), .inr (1, 400), .inl 0, .inr (0, 400), .inr (1, 400), .inl 0, .inr (0, 400), .inr (1, 400), .inl 0, .inr (0, 400), .inr (1, 400), .inl 0, .inr (0, 400), .inr (1, 400), .inl 0, .inr (0, 400), .inr (1, 400), .inl 4, .inr (4, 4), .inr (0, 4), .inr (4, 4), .inr (0, 4), .inr (0, 4), .inr (0, 160), .inr (0, 16), .inr (0, 16), .inr (1, 2401), .inr (1, 2401), .inl 3, .inr (0, 10), .inl 1, .inr (0, 80), .inr (0, 6), .inr (0, 6), .inr (0, 6), .inr (0, 6), .inl 5, .inr (5, 18), .inr (0, 6), .inr (0, 12), .inr (0, 400), .inr (0, 400), .inr (1, 12), .inr (1, 400), .inl 8, .inl 8, .inl 8, .inl 8, .inl 8, .inl 8, .inl 8, .inl 8, .inl 8, .inl 8, .inl 8, .inl 8, .inl 8, .inl 8, .inl 8, .inl 8, .inl 8, .inl 8, .inr (1, 6), .inl 5, .inr (5, 18), .inr (0, 6), .inr (0, 12), .inr (0, 400), .inr (0, 400), .inr (1, 12), .inr (1, 400), .inl 8, .inl 8, .inl 8, .inl 8, .inl 8, .inl 8, .inl 8, .inl 8, .inl 8, .inl 8, .inl 8, .inl 8, .inl 8, .inl 8, .inl 8, .inl 8, .inl 8, .inl 8, .inr (1, 6), .inl 11, .inr (2, 2000), .inr (2, 2000), .inr (0, 403), .inr (0, 403), .inr (0, 403), .inr (1, 403), .inr (1, 16), .inr (0, 2), .inr (0, 2), .inr (1, 24), .inr (0, 24), .inr (0, 24), .inr (0, 24), .inr (1, 12), .inr (0, 12), .inr (0, 12), .inr (0, 12), .inr (0, 12), .inr (0, 12), .inr (0, 12), .inr (0, 12), .inr (0, 1000), .inr (0, 1000), .inr (0, 64), .inr (0, 6), .inr (0, 400), .inr (0, 400), .inr (0, 400), .inr (0, 40), .inr (0, 40), .inr (0, 40), .inr (0, 6), .inr (1, 12), .inr (1, 500), .inr (1, 6), .inr (0, 6), .inr (0, 6), .inr (1, 2400), .inr (0, 2400), .inr (0, 6), .inr (0, 6), .inr (0, 10), .inr (0, 45056), .inr (0, 45056), .inr (0, 4), .inr (3, 45056), .inr (0, 64), .inr (0, 64), .inr (3, 6), .inr (0, 6), .inr (0, 6), .inr (0, 6), .inr (0, 6), .inr (0, 6), .inr (0, 6), .inr (0, 6), .inr (0, 100)]
def gLS (S : gSh) (β : Nat) : Prop := ∀ (k : Nat) (sh : Nat ⊕ (Nat × Nat)), gLy[k]? = some sh → S (β + k) = some sh
theorem S_0 {S : gSh} {β : Nat} (h : gLS S β) : S (β) = some (.inl 10) := h 0 _ rfl
theorem S_1 {S : gSh} {β : Nat} (h : gLS S β) : S (β + 1) = some (.inl 7) := h 1 _ rfl
theorem S_2 {S : gSh} {β : Nat} (h : gLS S β) : S (β + 2) = some (.inr (2, 2000)) := h 2 _ rfl
theorem S_3 {S : gSh} {β : Nat} (h : gLS S β) : S (β + 3) = some (.inl 2) := h 3 _ rfl
theorem S_4 {S : gSh} {β : Nat} (h : gLS S β) : S (β + 4) = some (.inl 9) := h 4 _ rfl
theorem S_5 {S : gSh} {β : Nat} (h : gLS S β) : S (β + 5) = some (.inr (0, 401)) := h 5 _ rfl
theorem S_6 {S : gSh} {β : Nat} (h : gLS S β) : S (β + 6) = some (.inr (0, 401)) := h 6 _ rfl
theorem S_7 {S : gSh} {β : Nat} (h : gLS S β) : S (β + 7) = some (.inr (1, 401)) := h 7 _ rfl
theorem S_8 {S : gSh} {β : Nat} (h : gLS S β) : S (β + 8) = some (.inl 6) := h 8 _ rfl
theorem S_9 {S : gSh} {β : Nat} (h : gLS S β) : S (β + 9) = some (.inr (0, 6)) := h 9 _ rfl
theorem S_10 {S : gSh} {β : Nat} (h : gLS S β) : S (β + 10) = some (.inr (0, 400)) := h 10 _ rfl
theorem S_11 {S : gSh} {β : Nat} (h : gLS S β) : S (β + 11) = some (.inr (0, 400)) := h 11 _ rfl
theorem S_12 {S : gSh} {β : Nat} (h : gLS S β) : S (β + 12) = some (.inr (0, 400)) := h 12 _ rfl
theorem S_13 {S : gSh} {β : Nat} (h : gLS S β) : S (β + 13) = some (.inr (0, 40)) := h 13 _ rfl
theorem S_14 {S : gSh} {β : Nat} (h : gLS S β) : S (β + 14) = some (.inr (0, 40)) := h 14 _ rfl
theorem S_15 {S : gSh} {β : Nat} (h : gLS S β) : S (β + 15) = some (.inr (0, 40)) := h 15 _ rfl
theorem S_16 {S : gSh} {β : Nat} (h : gLS S β) : S (β + 16) = some (.inr (0, 6)) := h 16 _ rfl
theorem S_17 {S : gSh} {β : Nat} (h : gLS S β) : S (β + 17) = some (.inr (1, 6)) := h 17 _ rfl
theorem S_18 {S : gSh} {β : Nat} (h : gLS S β) : S (β + 18) = some (.inr (4, 6)) := h 18 _ rfl
theorem S_19 {S : gSh} {β : Nat} (h : gLS S β) : S (β + 19) = some (.inl 0) := h 19 _ rfl
theorem S_20 {S : gSh} {β : Nat} (h : gLS S β) : S (β + 20) = some (.inr (0, 400)) := h 20 _ rfl
theorem S_21 {S : gSh} {β : Nat} (h : gLS S β) : S (β + 21) = some (.inr (1, 400)) := h 21 _ rfl
theorem S_22 {S : gSh} {β : Nat} (h : gLS S β) : S (β + 22) = some (.inl 0) := h 22 _ rfl
theorem S_23 {S : gSh} {β : Nat} (h : gLS S β) : S (β + 23) = some (.inr (0, 400)) := h 23 _ rfl
theorem S_24 {S : gSh} {β : Nat} (h : gLS S β) : S (β + 24) = some (.inr (1, 400)) := h 24 _ rfl
theorem S_25 {S : gSh} {β : Nat} (h : gLS S β) : S (β + 25) = some (.inl 0) := h 25 _ rfl
theorem S_26 {S : gSh} {β : Nat} (h : gLS S β) : S (β + 26) = some (.inr (0, 400)) := h 26 _ rfl
theorem S_27 {S : gSh} {β : Nat} (h : gLS S β) : S (β + 27) = some (.inr (1, 400)) := h 27 _ rfl
theorem S_28 {S : gSh} {β : Nat} (h : gLS S β) : S (β + 28) = some (.inl 0) := h 28 _ rfl
theorem S_29 {S : gSh} {β : Nat} (h : gLS S β) : S (β + 29) = some (.inr (0, 400)) := h 29 _ rfl
theorem S_30 {S : gSh} {β : Nat} (h : gLS S β) : S (β + 30) = some (.inr (1, 400)) := h 30 _ rfl
theorem S_31 {S : gSh} {β : Nat} (h : gLS S β) : S (β + 31) = some (.inl 0) := h 31 _ rfl
theorem S_32 {S : gSh} {β : Nat} (h : gLS S β) : S (β + 32) = some (.inr (0, 400)) := h 32 _ rfl
theorem S_33 {S : gSh} {β : Nat} (h : gLS S β) : S (β + 33) = some (.inr (1, 400)) := h 33 _ rfl
theorem S_34 {S : gSh} {β : Nat} (h : gLS S β) : S (β + 34) = some (.inl 0) := h 34 _ rfl
theorem S_35 {S : gSh} {β : Nat} (h : gLS S β) : S (β + 35) = some (.inr (0, 400)) := h 35 _ rfl
theorem S_36 {S : gSh} {β : Nat} (h : gLS S β) : S (β + 36) = some (.inr (1, 400)) := h 36 _ rfl
theorem S_37 {S : gSh} {β : Nat} (h : gLS S β) : S (β + 37) = some (.inl 4) := h 37 _ rfl
theorem S_38 {S : gSh} {β : Nat} (h : gLS S β) : S (β + 38) = some (.inr (4, 4)) := h 38 _ rfl
theorem S_39 {S : gSh} {β : Nat} (h : gLS S β) : S (β + 39) = some (.inr (0, 4)) := h 39 _ rfl
theorem S_40 {S : gSh} {β : Nat} (h : gLS S β) : S (β + 40) = some (.inr (4, 4)) := h 40 _ rfl
theorem S_41 {S : gSh} {β : Nat} (h : gLS S β) : S (β + 41) = some (.inr (0, 4)) := h 41 _ rfl
theorem S_42 {S : gSh} {β : Nat} (h : gLS S β) : S (β + 42) = some (.inr (0, 4)) := h 42 _ rfl
theorem S_43 {S : gSh} {β : Nat} (h : gLS S β) : S (β + 43) = some (.inr (0, 160)) := h 43 _ rfl
theorem S_44 {S : gSh} {β : Nat} (h : gLS S β) : S (β + 44) = some (.inr (0, 16)) := h 44 _ rfl
theorem S_45 {S : gSh} {β : Nat} (h : gLS S β) : S (β + 45) = some (.inr (0, 16)) := h 45 _ rfl
theorem S_46 {S : gSh} {β : Nat} (h : gLS S β) : S (β + 46) = some (.inr (1, 2401)) := h 46 _ rfl
theorem S_47 {S : gSh} {β : Nat} (h : gLS S β) : S (β + 47) = some (.inr (1, 2401)) := h 47 _ rfl
theorem S_48 {S : gSh} {β : Nat} (h : gLS S β) : S (β + 48) = some (.inl 3) := h 48 _ rfl
theorem S_49 {S : gSh} {β : Nat} (h : gLS S β) : S (β + 49) = some (.inr (0, 10)) := h 49 _ rfl
theorem S_50 {S : gSh} {β : Nat} (h : gLS S β) : S (β + 50) = some (.inl 1) := h 50 _ rfl
theorem S_51 {S : gSh} {β : Nat} (h : gLS S β) : S (β + 51) = some (.inr (0, 80)) := h 51 _ rfl
theorem S_52 {S : gSh} {β : Nat} (h : gLS S β) : S (β + 52) = some (.inr (0, 6)) := h 52 _ rfl
theorem S_53 {S : gSh} {β : Nat} (h : gLS S β) : S (β + 53) = some (.inr (0, 6)) := h 53 _ rfl
theorem S_54 {S : gSh} {β : Nat} (h : gLS S β) : S (β + 54) = some (.inr (0, 6)) := h 54 _ rfl
theorem S_55 {S : gSh} {β : Nat} (h : gLS S β) : S (β + 55) = some (.inr (0, 6)) := h 55 _ rfl
theorem S_56 {S : gSh} {β : Nat} (h : gLS S β) : S (β + 56) = some (.inl 5) := h 56 _ rfl
theorem S_57 {S : gSh} {β : Nat} (h : gLS S β) : S (β + 57) = some (.inr (5, 18)) := h 57 _ rfl
theorem S_58 {S : gSh} {β : Nat} (h : gLS S β) : S (β + 58) = some (.inr (0, 6)) := h 58 _ rfl
theorem S_59 {S : gSh} {β : Nat} (h : gLS S β) : S (β + 59) = some (.inr (0, 12)) := h 59 _ rfl
theorem S_60 {S : gSh} {β : Nat} (h : gLS S β) : S (β + 60) = some (.inr (0, 400)) := h 60 _ rfl
theorem S_61 {S : gSh} {β : Nat} (h : gLS S β) : S (β + 61) = some (.inr (0, 400)) := h 61 _ rfl
theorem S_62 {S : gSh} {β : Nat} (h : gLS S β) : S (β + 62) = some (.inr (1, 12)) := h 62 _ rfl
theorem S_63 {S : gSh} {β : Nat} (h : gLS S β) : S (β + 63) = some (.inr (1, 400)) := h 63 _ rfl
theorem S_64 {S : gSh} {β : Nat} (h : gLS S β) : S (β + 64) = some (.inl 8) := h 64 _ rfl
theorem S_65 {S : gSh} {β : Nat} (h : gLS S β) : S (β + 65) = some (.inl 8) := h 65 _ rfl
theorem S_66 {S : gSh} {β : Nat} (h : gLS S β) : S (β + 66) = some (.inl 8) := h 66 _ rfl
theorem S_67 {S : gSh} {β : Nat} (h : gLS S β) : S (β + 67) = some (.inl 8) := h 67 _ rfl
theorem S_68 {S : gSh} {β : Nat} (h : gLS S β) : S (β + 68) = some (.inl 8) := h 68 _ rfl
theorem S_69 {S : gSh} {β : Nat} (h : gLS S β) : S (β + 69) = some (.inl 8) := h 69 _ rfl
theorem S_70 {S : gSh} {β : Nat} (h : gLS S β) : S (β + 70) = some (.inl 8) := h 70 _ rfl
theorem S_71 {S : gSh} {β : Nat} (h : gLS S β) : S (β + 71) = some (.inl 8) := h 71 _ rfl
theorem S_72 {S : gSh} {β : Nat} (h : gLS S β) : S (β + 72) = some (.inl 8) := h 72 _ rfl
theorem S_73 {S : gSh} {β : Nat} (h : gLS S β) : S (β + 73) = some (.inl 8) := h 73 _ rfl
theorem S_74 {S : gSh} {β : Nat} (h : gLS S β) : S (β + 74) = some (.inl 8) := h 74 _ rfl
theorem S_75 {S : gSh} {β : Nat} (h : gLS S β) : S (β + 75) = some (.inl 8) := h 75 _ rfl
theorem S_76 {S : gSh} {β : Nat} (h : gLS S β) : S (β + 76) = some (.inl 8) := h 76 _ rfl
theorem S_77 {S : gSh} {β : Nat} (h : gLS S β) : S (β + 77) = some (.inl 8) := h 77 _ rfl
theorem S_78 {S : gSh} {β : Nat} (h : gLS S β) : S (β + 78) = some (.inl 8) := h 78 _ rfl
theorem S_79 {S : gSh} {β : Nat} (h : gLS S β) : S (β + 79) = some (.inl 8) := h 79 _ rfl
theorem S_80 {S : gSh} {β : Nat} (h : gLS S β) : S (β + 80) = some (.inl 8) := h 80 _ rfl
theorem S_81 {S : gSh} {β : Nat} (h : gLS S β) : S (β + 81) = some (.inl 8) := h 81 _ rfl
theorem S_82 {S : gSh} {β : Nat} (h : gLS S β) : S (β + 82) = some (.inr (1, 6)) := h 82 _ rfl
theorem S_83 {S : gSh} {β : Nat} (h : gLS S β) : S (β + 83) = some (.inl 5) := h 83 _ rfl
theorem S_84 {S : gSh} {β : Nat} (h : gLS S β) : S (β + 84) = some (.inr (5, 18)) := h 84 _ rfl
theorem S_85 {S : gSh} {β : Nat} (h : gLS S β) : S (β + 85) = some (.inr (0, 6)) := h 85 _ rfl
theorem S_86 {S : gSh} {β : Nat} (h : gLS S β) : S (β + 86) = some (.inr (0, 12)) := h 86 _ rfl
theorem S_87 {S : gSh} {β : Nat} (h : gLS S β) : S (β + 87) = some (.inr (0, 400)) := h 87 _ rfl
theorem S_88 {S : gSh} {β : Nat} (h : gLS S β) : S (β + 88) = some (.inr (0, 400)) := h 88 _ rfl
theorem S_89 {S : gSh} {β : Nat} (h : gLS S β) : S (β + 89) = some (.inr (1, 12)) := h 89 _ rfl
theorem S_90 {S : gSh} {β : Nat} (h : gLS S β) : S (β + 90) = some (.inr (1, 400)) := h 90 _ rfl
theorem S_91 {S : gSh} {β : Nat} (h : gLS S β) : S (β + 91) = some (.inl 8) := h 91 _ rfl
theorem S_92 {S : gSh} {β : Nat} (h : gLS S β) : S (β + 92) = some (.inl 8) := h 92 _ rfl
theorem S_93 {S : gSh} {β : Nat} (h : gLS S β) : S (β + 93) = some (.inl 8) := h 93 _ rfl
theorem S_94 {S : gSh} {β : Nat} (h : gLS S β) : S (β + 94) = some (.inl 8) := h 94 _ rfl
theorem S_95 {S : gSh} {β : Nat} (h : gLS S β) : S (β + 95) = some (.inl 8) := h 95 _ rfl
theorem S_96 {S : gSh} {β : Nat} (h : gLS S β) : S (β + 96) = some (.inl 8) := h 96 _ rfl
theorem S_97 {S : gSh} {β : Nat} (h : gLS S β) : S (β + 97) = some (.inl 8) := h 97 _ rfl
theorem S_98 {S : gSh} {β : Nat} (h : gLS S β) : S (β + 98) = some (.inl 8) := h 98 _ rfl
theorem S_99 {S : gSh} {β : Nat} (h : gLS S β) : S (β + 99) = some (.inl 8) := h 99 _ rfl
theorem S_100 {S : gSh} {β : Nat} (h : gLS S β) : S (β + 100) = some (.inl 8) := h 100 _ rfl
theorem S_101 {S : gSh} {β : Nat} (h : gLS S β) : S (β + 101) = some (.inl 8) := h 101 _ rfl
theorem S_102 {S : gSh} {β : Nat} (h : gLS S β) : S (β + 102) = some (.inl 8) := h 102 _ rfl
theorem S_103 {S : gSh} {β : Nat} (h : gLS S β) : S (β + 103) = some (.inl 8) := h 103 _ rfl
theorem S_104 {S : gSh} {β : Nat} (h : gLS S β) : S (β + 104) = some (.inl 8) := h 104 _ rfl
theorem S_105 {S : gSh} {β : Nat} (h : gLS S β) : S (β + 105) = some (.inl 8) := h 105 _ rfl
theorem S_106 {S : gSh} {β : Nat} (h : gLS S β) : S (β + 106) = some (.inl 8) := h 106 _ rfl
theorem S_107 {S : gSh} {β : Nat} (h : gLS S β) : S (β + 107) = some (.inl 8) := h 107 _ rfl
theorem S_108 {S : gSh} {β : Nat} (h : gLS S β) : S (β + 108) = some (.inl 8) := h 108 _ rfl
theorem S_109 {S : gSh} {β : Nat} (h : gLS S β) : S (β + 109) = some (.inr (1, 6)) := h 109 _ rfl
theorem S_110 {S : gSh} {β : Nat} (h : gLS S β) : S (β + 110) = some (.inl 11) := h 110 _ rfl
theorem S_111 {S : gSh} {β : Nat} (h : gLS S β) : S (β + 111) = some (.inr (2, 2000)) := h 111 _ rfl
theorem S_112 {S : gSh} {β : Nat} (h : gLS S β) : S (β + 112) = some (.inr (2, 2000)) := h 112 _ rfl
theorem S_113 {S : gSh} {β : Nat} (h : gLS S β) : S (β + 113) = some (.inr (0, 403)) := h 113 _ rfl
theorem S_114 {S : gSh} {β : Nat} (h : gLS S β) : S (β + 114) = some (.inr (0, 403)) := h 114 _ rfl
theorem S_115 {S : gSh} {β : Nat} (h : gLS S β) : S (β + 115) = some (.inr (0, 403)) := h 115 _ rfl
theorem S_116 {S : gSh} {β : Nat} (h : gLS S β) : S (β + 116) = some (.inr (1, 403)) := h 116 _ rfl
theorem S_117 {S : gSh} {β : Nat} (h : gLS S β) : S (β + 117) = some (.inr (1, 16)) := h 117 _ rfl
theorem S_118 {S : gSh} {β : Nat} (h : gLS S β) : S (β + 118) = some (.inr (0, 2)) := h 118 _ rfl
theorem S_119 {S : gSh} {β : Nat} (h : gLS S β) : S (β + 119) = some (.inr (0, 2)) := h 119 _ rfl
theorem S_120 {S : gSh} {β : Nat} (h : gLS S β) : S (β + 120) = some (.inr (1, 24)) := h 120 _ rfl
theorem S_121 {S : gSh} {β : Nat} (h : gLS S β) : S (β + 121) = some (.inr (0, 24)) := h 121 _ rfl
theorem S_122 {S : gSh} {β : Nat} (h : gLS S β) : S (β + 122) = some (.inr (0, 24)) := h 122 _ rfl
theorem S_123 {S : gSh} {β : Nat} (h : gLS S β) : S (β + 123) = some (.inr (0, 24)) := h 123 _ rfl
theorem S_124 {S : gSh} {β : Nat} (h : gLS S β) : S (β + 124) = some (.inr (1, 12)) := h 124 _ rfl
theorem S_125 {S : gSh} {β : Nat} (h : gLS S β) : S (β + 125) = some (.inr (0, 12)) := h 125 _ rfl
theorem S_126 {S : gSh} {β : Nat} (h : gLS S β) : S (β + 126) = some (.inr (0, 12)) := h 126 _ rfl
theorem S_127 {S : gSh} {β : Nat} (h : gLS S β) : S (β + 127) = some (.inr (0, 12)) := h 127 _ rfl
theorem S_128 {S : gSh} {β : Nat} (h : gLS S β) : S (β + 128) = some (.inr (0, 12)) := h 128 _ rfl
theorem S_129 {S : gSh} {β : Nat} (h : gLS S β) : S (β + 129) = some (.inr (0, 12)) := h 129 _ rfl
theorem S_130 {S : gSh} {β : Nat} (h : gLS S β) : S (β + 130) = some (.inr (0, 12)) := h 130 _ rfl
theorem S_131 {S : gSh} {β : Nat} (h : gLS S β) : S (β + 131) = some (.inr (0, 12)) := h 131 _ rfl
theorem S_132 {S : gSh} {β : Nat} (h : gLS S β) : S (β + 132) = some (.inr (0, 1000)) := h 132 _ rfl
theorem S_133 {S : gSh} {β : Nat} (h : gLS S β) : S (β + 133) = some (.inr (0, 1000)) := h 133 _ rfl
theorem S_134 {S : gSh} {β : Nat} (h : gLS S β) : S (β + 134) = some (.inr (0, 64)) := h 134 _ rfl
theorem S_135 {S : gSh} {β : Nat} (h : gLS S β) : S (β + 135) = some (.inr (0, 6)) := h 135 _ rfl
theorem S_136 {S : gSh} {β : Nat} (h : gLS S β) : S (β + 136) = some (.inr (0, 400)) := h 136 _ rfl
theorem S_137 {S : gSh} {β : Nat} (h : gLS S β) : S (β + 137) = some (.inr (0, 400)) := h 137 _ rfl
theorem S_138 {S : gSh} {β : Nat} (h : gLS S β) : S (β + 138) = some (.inr (0, 400)) := h 138 _ rfl
theorem S_139 {S : gSh} {β : Nat} (h : gLS S β) : S (β + 139) = some (.inr (0, 40)) := h 139 _ rfl
theorem S_140 {S : gSh} {β : Nat} (h : gLS S β) : S (β + 140) = some (.inr (0, 40)) := h 140 _ rfl
theorem S_141 {S : gSh} {β : Nat} (h : gLS S β) : S (β + 141) = some (.inr (0, 40)) := h 141 _ rfl
theorem S_142 {S : gSh} {β : Nat} (h : gLS S β) : S (β + 142) = some (.inr (0, 6)) := h 142 _ rfl
theorem S_143 {S : gSh} {β : Nat} (h : gLS S β) : S (β + 143) = some (.inr (1, 12)) := h 143 _ rfl
theorem S_144 {S : gSh} {β : Nat} (h : gLS S β) : S (β + 144) = some (.inr (1, 500)) := h 144 _ rfl
theorem S_145 {S : gSh} {β : Nat} (h : gLS S β) : S (β + 145) = some (.inr (1, 6)) := h 145 _ rfl
theorem S_146 {S : gSh} {β : Nat} (h : gLS S β) : S (β + 146) = some (.inr (0, 6)) := h 146 _ rfl
theorem S_147 {S : gSh} {β : Nat} (h : gLS S β) : S (β + 147) = some (.inr (0, 6)) := h 147 _ rfl
theorem S_148 {S : gSh} {β : Nat} (h : gLS S β) : S (β + 148) = some (.inr (1, 2400)) := h 148 _ rfl
theorem S_149 {S : gSh} {β : Nat} (h : gLS S β) : S (β + 149) = some (.inr (0, 2400)) := h 149 _ rfl
theorem S_150 {S : gSh} {β : Nat} (h : gLS S β) : S (β + 150) = some (.inr (0, 6)) := h 150 _ rfl
theorem S_151 {S : gSh} {β : Nat} (h : gLS S β) : S (β + 151) = some (.inr (0, 6)) := h 151 _ rfl
theorem S_152 {S : gSh} {β : Nat} (h : gLS S β) : S (β + 152) = some (.inr (0, 10)) := h 152 _ rfl
theorem S_153 {S : gSh} {β : Nat} (h : gLS S β) : S (β + 153) = some (.inr (0, 45056)) := h 153 _ rfl
theorem S_154 {S : gSh} {β : Nat} (h : gLS S β) : S (β + 154) = some (.inr (0, 45056)) := h 154 _ rfl
theorem S_155 {S : gSh} {β : Nat} (h : gLS S β) : S (β + 155) = some (.inr (0, 4)) := h 155 _ rfl
theorem S_156 {S : gSh} {β : Nat} (h : gLS S β) : S (β + 156) = some (.inr (3, 45056)) := h 156 _ rfl
theorem S_157 {S : gSh} {β : Nat} (h : gLS S β) : S (β + 157) = some (.inr (0, 64)) := h 157 _ rfl
theorem S_158 {S : gSh} {β : Nat} (h : gLS S β) : S (β + 158) = some (.inr (0, 64)) := h 158 _ rfl
theorem S_159 {S : gSh} {β : Nat} (h : gLS S β) : S (β + 159) = some (.inr (3, 6)) := h 159 _ rfl
theorem S_160 {S : gSh} {β : Nat} (h : gLS S β) : S (β + 160) = some (.inr (0, 6)) := h 160 _ rfl
theorem S_161 {S : gSh} {β : Nat} (h : gLS S β) : S (β + 161) = some (.inr (0, 6)) := h 161 _ rfl
theorem S_162 {S : gSh} {β : Nat} (h : gLS S β) : S (β + 162) = some (.inr (0, 6)) := h 162 _ rfl
theorem S_163 {S : gSh} {β : Nat} (h : gLS S β) : S (β + 163) = some (.inr (0, 6)) := h 163 _ rfl
theorem S_164 {S : gSh} {β : Nat} (h : gLS S β) : S (β + 164) = some (.inr (0, 6)) := h 164 _ rfl
theorem S_165 {S : gSh} {β : Nat} (h : gLS S β) : S (β + 165) = some (.inr (0, 6)) := h 165 _ rfl
theorem S_166 {S : gSh} {β : Nat} (h : gLS S β) : S (β + 166) = some (.inr (0, 6)) := h 166 _ rfl
theorem S_167 {S : gSh} {β : Nat} (h : gLS S β) : S (β + 167) = some (.inr (0, 100)) := h 167 _ rfl
/-- the pointers that no op moves -/
abbrev gPtF : List (Nat × Nat × Nat) := [(0, 0, 1), (0, 1, 3), (0, 2, 8), (0, 3, 18), (0, 4, 37), (0, 5, 48), (0, 6, 50), (1, 0, 2), (3, 0, 4), (4, 0, 5), (4, 1, 6), (4, 2, 7), (8, 0, 9), (8, 1, 10), (8, 2, 11), (8, 3, 12), (8, 4, 13), (8, 5, 14), (8, 6, 15), (8, 7, 16), (8, 8, 17), (18, 0, 19), (19, 12, 20), (19, 13, 21), (18, 1, 22), (22, 12, 23), (22, 13, 24), (18, 2, 25), (25, 12, 26), (25, 13, 27), (18, 3, 28), (28, 12, 29), (28, 13, 30), (18, 4, 31), (31, 12, 32), (31, 13, 33), (18, 5, 34), (34, 12, 35), (34, 13, 36), (37, 1, 38), (37, 2, 39), (37, 3, 40), (37, 4, 41), (37, 5, 42), (37, 6, 43), (37, 7, 44), (37, 8, 45), (48, 0, 49), (50, 1, 51), (50, 2, 52), (50, 3, 53), (50, 4, 54), (50, 5, 55), (56, 0, 57), (56, 1, 58), (56, 2, 59), (56, 3, 60), (56, 4, 61), (56, 5, 62), (56, 6, 63), (57, 0, 64), (57, 1, 65), (57, 2, 66), (57, 3, 67), (57, 4, 68), (57, 5, 69), (57, 6, 70), (57, 7, 71), (57, 8, 72), (57, 9, 73), (57, 10, 74), (57, 11, 75), (57, 12, 76), (57, 13, 77), (57, 14, 78), (57, 15, 79), (57, 16, 80), (57, 17, 81), (83, 0, 84), (83, 1, 85), (83, 2, 86), (83, 3, 87), (83, 4, 88), (83, 5, 89), (83, 6, 90), (84, 0, 91), (84, 1, 92), (84, 2, 93), (84, 3, 94), (84, 4, 95), (84, 5, 96), (84, 6, 97), (84, 7, 98), (84, 8, 99), (84, 9, 100), (84, 10, 101), (84, 11, 102), (84, 12, 103), (84, 13, 104), (84, 14, 105), (84, 15, 106), (84, 16, 107), (84, 17, 108), (110, 1, 111), (110, 3, 112), (110, 5, 113), (110, 6, 114), (110, 7, 115), (110, 8, 116), (110, 9, 117), (110, 20, 118), (110, 21, 119), (110, 22, 120), (110, 23, 121), (110, 24, 122), (110, 25, 123), (110, 26, 124), (110, 27, 125), (110, 28, 126), (110, 29, 127), (110, 30, 128), (110, 31, 129), (110, 32, 130), (110, 33, 131), (110, 35, 132), (110, 36, 133), (110, 39, 134), (110, 41, 135), (110, 44, 136), (110, 45, 137), (110, 46, 138), (110, 48, 139), (110, 49, 140), (110, 50, 141), (110, 55, 142), (110, 56, 143), (110, 57, 144), (110, 58, 145), (110, 59, 146), (110, 60, 147), (110, 61, 148), (110, 62, 149), (110, 63, 150), (110, 64, 151), (110, 69, 152), (110, 70, 153), (110, 71, 154), (110, 73, 155), (110, 74, 156), (110, 75, 157), (110, 76, 158), (110, 77, 159), (110, 78, 160), (110, 79, 161), (110, 81, 162), (110, 82, 163), (110, 83, 164), (110, 84, 165), (110, 85, 166), (110, 86, 167)]
def gPS (R : Nat → Nat → Nat) (β : Nat) : Prop := ∀ e ∈ gPtF, R (β + e.1) e.2.1 = β + e.2.2
theorem R_0_0 {R : Nat → Nat → Nat} {β : Nat} (h : gPS R β) : R (β) 0 = β + 1 := h (0, 0, 1) (List.mem_of_getElem? (i := 0) rfl)
theorem R_0_1 {R : Nat → Nat → Nat} {β : Nat} (h : gPS R β) : R (β) 1 = β + 3 := h (0, 1, 3) (List.mem_of_getElem? (i := 1) rfl)
theorem R_0_2 {R : Nat → Nat → Nat} {β : Nat} (h : gPS R β) : R (β) 2 = β + 8 := h (0, 2, 8) (List.mem_of_getElem? (i := 2) rfl)
theorem R_0_3 {R : Nat → Nat → Nat} {β : Nat} (h : gPS R β) : R (β) 3 = β + 18 := h (0, 3, 18) (List.mem_of_getElem? (i := 3) rfl)
theorem R_0_4 {R : Nat → Nat → Nat} {β : Nat} (h : gPS R β) : R (β) 4 = β + 37 := h (0, 4, 37) (List.mem_of_getElem? (i := 4) rfl)
theorem R_0_5 {R : Nat → Nat → Nat} {β : Nat} (h : gPS R β) : R (β) 5 = β + 48 := h (0, 5, 48) (List.mem_of_getElem? (i := 5) rfl)
theorem R_0_6 {R : Nat → Nat → Nat} {β : Nat} (h : gPS R β) : R (β) 6 = β + 50 := h (0, 6, 50) (List.mem_of_getElem? (i := 6) rfl)
theorem R_1_0 {R : Nat → Nat → Nat} {β : Nat} (h : gPS R β) : R (β + 1) 0 = β + 2 := h (1, 0, 2) (List.mem_of_getElem? (i := 7) rfl)
theorem R_3_0 {R : Nat → Nat → Nat} {β : Nat} (h : gPS R β) : R (β + 3) 0 = β + 4 := h (3, 0, 4) (List.mem_of_getElem? (i := 8) rfl)
theorem R_4_0 {R : Nat → Nat → Nat} {β : Nat} (h : gPS R β) : R (β + 4) 0 = β + 5 := h (4, 0, 5) (List.mem_of_getElem? (i := 9) rfl)
theorem R_4_1 {R : Nat → Nat → Nat} {β : Nat} (h : gPS R β) : R (β + 4) 1 = β + 6 := h (4, 1, 6) (List.mem_of_getElem? (i := 10) rfl)
theorem R_4_2 {R : Nat → Nat → Nat} {β : Nat} (h : gPS R β) : R (β + 4) 2 = β + 7 := h (4, 2, 7) (List.mem_of_getElem? (i := 11) rfl)
theorem R_8_0 {R : Nat → Nat → Nat} {β : Nat} (h : gPS R β) : R (β + 8) 0 = β + 9 := h (8, 0, 9) (List.mem_of_getElem? (i := 12) rfl)
theorem R_8_1 {R : Nat → Nat → Nat} {β : Nat} (h : gPS R β) : R (β + 8) 1 = β + 10 := h (8, 1, 10) (List.mem_of_getElem? (i := 13) rfl)
theorem R_8_2 {R : Nat → Nat → Nat} {β : Nat} (h : gPS R β) : R (β + 8) 2 = β + 11 := h (8, 2, 11) (List.mem_of_getElem? (i := 14) rfl)
theorem R_8_3 {R : Nat → Nat → Nat} {β : Nat} (h : gPS R β) : R (β + 8) 3 = β + 12 := h (8, 3, 12) (List.mem_of_getElem? (i := 15) rfl)
theorem R_8_4 {R : Nat → Nat → Nat} {β : Nat} (h : gPS R β) : R (β + 8) 4 = β + 13 := h (8, 4, 13) (List.mem_of_getElem? (i := 16) rfl)
theorem R_8_5 {R : Nat → Nat → Nat} {β : Nat} (h : gPS R β) : R (β + 8) 5 = β + 14 := h (8, 5, 14) (List.mem_of_getElem? (i := 17) rfl)
theorem R_8_6 {R : Nat → Nat → Nat} {β : Nat} (h : gPS R β) : R (β + 8) 6 = β + 15 := h (8, 6, 15) (List.mem_of_getElem? (i := 18) rfl)
theorem R_8_7 {R : Nat → Nat → Nat} {β : Nat} (h : gPS R β) : R (β + 8) 7 = β + 16 := h (8, 7, 16) (List.mem_of_getElem? (i := 19) rfl)
theorem R_8_8 {R : Nat → Nat → Nat} {β : Nat} (h : gPS R β) : R (β + 8) 8 = β + 17 := h (8, 8, 17) (List.mem_of_getElem? (i := 20) rfl)
theorem R_18_0 {R : Nat → Nat → Nat} {β : Nat} (h : gPS R β) : R (β + 18) 0 = β + 19 := h (18, 0, 19) (List.mem_of_getElem? (i := 21) rfl)
theorem R_19_12 {R : Nat → Nat → Nat} {β : Nat} (h : gPS R β) : R (β + 19) 12 = β + 20 := h (19, 12, 20) (List.mem_of_getElem? (i := 22) rfl)
theorem R_19_13 {R : Nat → Nat → Nat} {β : Nat} (h : gPS R β) : R (β + 19) 13 = β + 21 := h (19, 13, 21) (List.mem_of_getElem? (i := 23) rfl)
theorem R_18_1 {R : Nat → Nat → Nat} {β : Nat} (h : gPS R β) : R (β + 18) 1 = β + 22 := h (18, 1, 22) (List.mem_of_getElem? (i := 24) rfl)
theorem R_22_12 {R : Nat → Nat → Nat} {β : Nat} (h : gPS R β) : R (β + 22) 12 = β + 23 := h (22, 12, 23) (List.mem_of_getElem? (i := 25) rfl)
theorem R_22_13 {R : Nat → Nat → Nat} {β : Nat} (h : gPS R β) : R (β + 22) 13 = β + 24 := h (22, 13, 24) (List.mem_of_getElem? (i := 26) rfl)
theorem R_18_2 {R : Nat → Nat → Nat} {β : Nat} (h : gPS R β) : R (β + 18) 2 = β + 25 := h (18, 2, 25) (List.mem_of_getElem? (i := 27) rfl)
theorem R_25_12 {R : Nat → Nat → Nat} {β : Nat} (h : gPS R β) : R (β + 25) 12 = β + 26 := h (25, 12, 26) (List.mem_of_getElem? (i := 28) rfl)
theorem R_25_13 {R : Nat → Nat → Nat} {β : Nat} (h : gPS R β) : R (β + 25) 13 = β + 27 := h (25, 13, 27) (List.mem_of_getElem? (i := 29) rfl)
theorem R_18_3 {R : Nat → Nat → Nat} {β : Nat} (h : gPS R β) : R (β + 18) 3 = β + 28 := h (18, 3, 28) (List.mem_of_getElem? (i := 30) rfl)
theorem R_28_12 {R : Nat → Nat → Nat} {β : Nat} (h : gPS R β) : R (β + 28) 12 = β + 29 := h (28, 12, 29) (List.mem_of_getElem? (i := 31) rfl)
theorem R_28_13 {R : Nat → Nat → Nat} {β : Nat} (h : gPS R β) : R (β + 28) 13 = β + 30 := h (28, 13, 30) (List.mem_of_getElem? (i := 32) rfl)
theorem R_18_4 {R : Nat → Nat → Nat} {β : Nat} (h : gPS R β) : R (β + 18) 4 = β + 31 := h (18, 4, 31) (List.mem_of_getElem? (i := 33) rfl)
theorem R_31_12 {R : Nat → Nat → Nat} {β : Nat} (h : gPS R β) : R (β + 31) 12 = β + 32 := h (31, 12, 32) (List.mem_of_getElem? (i := 34) rfl)
theorem R_31_13 {R : Nat → Nat → Nat} {β : Nat} (h : gPS R β) : R (β + 31) 13 = β + 33 := h (31, 13, 33) (List.mem_of_getElem? (i := 35) rfl)
theorem R_18_5 {R : Nat → Nat → Nat} {β : Nat} (h : gPS R β) : R (β + 18) 5 = β + 34 := h (18, 5, 34) (List.mem_of_getElem? (i := 36) rfl)
theorem R_34_12 {R : Nat → Nat → Nat} {β : Nat} (h : gPS R β) : R (β + 34) 12 = β + 35 := h (34, 12, 35) (List.mem_of_getElem? (i := 37) rfl)
theorem R_34_13 {R : Nat → Nat → Nat} {β : Nat} (h : gPS R β) : R (β + 34) 13 = β + 36 := h (34, 13, 36) (List.mem_of_getElem? (i := 38) rfl)
theorem R_37_1 {R : Nat → Nat → Nat} {β : Nat} (h : gPS R β) : R (β + 37) 1 = β + 38 := h (37, 1, 38) (List.mem_of_getElem? (i := 39) rfl)
theorem R_37_2 {R : Nat → Nat → Nat} {β : Nat} (h : gPS R β) : R (β + 37) 2 = β + 39 := h (37, 2, 39) (List.mem_of_getElem? (i := 40) rfl)
theorem R_37_3 {R : Nat → Nat → Nat} {β : Nat} (h : gPS R β) : R (β + 37) 3 = β + 40 := h (37, 3, 40) (List.mem_of_getElem? (i := 41) rfl)
theorem R_37_4 {R : Nat → Nat → Nat} {β : Nat} (h : gPS R β) : R (β + 37) 4 = β + 41 := h (37, 4, 41) (List.mem_of_getElem? (i := 42) rfl)
theorem R_37_5 {R : Nat → Nat → Nat} {β : Nat} (h : gPS R β) : R (β + 37) 5 = β + 42 := h (37, 5, 42) (List.mem_of_getElem? (i := 43) rfl)
theorem R_37_6 {R : Nat → Nat → Nat} {β : Nat} (h : gPS R β) : R (β + 37) 6 = β + 43 := h (37, 6, 43) (List.mem_of_getElem? (i := 44) rfl)
theorem R_37_7 {R : Nat → Nat → Nat} {β : Nat} (h : gPS R β) : R (β + 37) 7 = β + 44 := h (37, 7, 44) (List.mem_of_getElem? (i := 45) rfl)
theorem R_37_8 {R : Nat → Nat → Nat} {β : Nat} (h : gPS R β) : R (β + 37) 8 = β + 45 := h (37, 8, 45) (List.mem_of_getElem? (i := 46) rfl)
theorem R_48_0 {R : Nat → Nat → Nat} {β : Nat} (h : gPS R β) : R (β + 48) 0 = β + 49 := h (48, 0, 49) (List.mem_of_getElem? (i := 47) rfl)
theorem R_50_1 {R : Nat → Nat → Nat} {β : Nat} (h : gPS R β) : R (β + 50) 1 = β + 51 := h (50, 1, 51) (List.mem_of_getElem? (i := 48) rfl)
theorem R_50_2 {R : Nat → Nat → Nat} {β : Nat} (h : gPS R β) : R (β + 50) 2 = β + 52 := h (50, 2, 52) (List.mem_of_getElem? (i := 49) rfl)
theorem R_50_3 {R : Nat → Nat → Nat} {β : Nat} (h : gPS R β) : R (β + 50) 3 = β + 53 := h (50, 3, 53) (List.mem_of_getElem? (i := 50) rfl)
theorem R_50_4 {R : Nat → Nat → Nat} {β : Nat} (h : gPS R β) : R (β + 50) 4 = β + 54 := h (50, 4, 54) (List.mem_of_getElem? (i := 51) rfl)
theorem R_50_5 {R : Nat → Nat → Nat} {β : Nat} (h : gPS R β) : R (β + 50) 5 = β + 55 := h (50, 5, 55) (List.mem_of_getElem? (i := 52) rfl)
theorem R_56_0 {R : Nat → Nat → Nat} {β : Nat} (h : gPS R β) : R (β + 56) 0 = β + 57 := h (56, 0, 57) (List.mem_of_getElem? (i := 53) rfl)
theorem R_56_1 {R : Nat → Nat → Nat} {β : Nat} (h : gPS R β) : R (β + 56) 1 = β + 58 := h (56, 1, 58) (List.mem_of_getElem? (i := 54) rfl)
theorem R_56_2 {R : Nat → Nat → Nat} {β : Nat} (h : gPS R β) : R (β + 56) 2 = β + 59 := h (56, 2, 59) (List.mem_of_getElem? (i := 55) rfl)
theorem R_56_3 {R : Nat → Nat → Nat} {β : Nat} (h : gPS R β) : R (β + 56) 3 = β + 60 := h (56, 3, 60) (List.mem_of_getElem? (i := 56) rfl)
theorem R_56_4 {R : Nat → Nat → Nat} {β : Nat} (h : gPS R β) : R (β + 56) 4 = β + 61 := h (56, 4, 61) (List.mem_of_getElem? (i := 57) rfl)
theorem R_56_5 {R : Nat → Nat → Nat} {β : Nat} (h : gPS R β) : R (β + 56) 5 = β + 62 := h (56, 5, 62) (List.mem_of_getElem? (i := 58) rfl)
theorem R_56_6 {R : Nat → Nat → Nat} {β : Nat} (h : gPS R β) : R (β + 56) 6 = β + 63 := h (56, 6, 63) (List.mem_of_getElem? (i := 59) rfl)
theorem R_57_0 {R : Nat → Nat → Nat} {β : Nat} (h : gPS R β) : R (β + 57) 0 = β + 64 := h (57, 0, 64) (List.mem_of_getElem? (i := 60) rfl)
theorem R_57_1 {R : Nat → Nat → Nat} {β : Nat} (h : gPS R β) : R (β + 57) 1 = β + 65 := h (57, 1, 65) (List.mem_of_getElem? (i := 61) rfl)
theorem R_57_2 {R : Nat → Nat → Nat} {β : Nat} (h : gPS R β) : R (β + 57) 2 = β + 66 := h (57, 2, 66) (List.mem_of_getElem? (i := 62) rfl)
theorem R_57_3 {R : Nat → Nat → Nat} {β : Nat} (h : gPS R β) : R (β + 57) 3 = β + 67 := h (57, 3, 67) (List.mem_of_getElem? (i := 63) rfl)
theorem R_57_4 {R : Nat → Nat → Nat} {β : Nat} (h : gPS R β) : R (β + 57) 4 = β + 68 := h (57, 4, 68) (List.mem_of_getElem? (i := 64) rfl)
theorem R_57_5 {R : Nat → Nat → Nat} {β : Nat} (h : gPS R β) : R (β + 57) 5 = β + 69 := h (57, 5, 69) (List.mem_of_getElem? (i := 65) rfl)
theorem R_57_6 {R : Nat → Nat → Nat} {β : Nat} (h : gPS R β) : R (β + 57) 6 = β + 70 := h (57, 6, 70) (List.mem_of_getElem? (i := 66) rfl)
theorem R_57_7 {R : Nat → Nat → Nat} {β : Nat} (h : gPS R β) : R (β + 57) 7 = β + 71 := h (57, 7, 71) (List.mem_of_getElem? (i := 67) rfl)
theorem R_57_8 {R : Nat → Nat → Nat} {β : Nat} (h : gPS R β) : R (β + 57) 8 = β + 72 := h (57, 8, 72) (List.mem_of_getElem? (i := 68) rfl)
theorem R_57_9 {R : Nat → Nat → Nat} {β : Nat} (h : gPS R β) : R (β + 57) 9 = β + 73 := h (57, 9, 73) (List.mem_of_getElem? (i := 69) rfl)
theorem R_57_10 {R : Nat → Nat → Nat} {β : Nat} (h : gPS R β) : R (β + 57) 10 = β + 74 := h (57, 10, 74) (List.mem_of_getElem? (i := 70) rfl)
theorem R_57_11 {R : Nat → Nat → Nat} {β : Nat} (h : gPS R β) : R (β + 57) 11 = β + 75 := h (57, 11, 75) (List.mem_of_getElem? (i := 71) rfl)
theorem R_57_12 {R : Nat → Nat → Nat} {β : Nat} (h : gPS R β) : R (β + 57) 12 = β + 76 := h (57, 12, 76) (List.mem_of_getElem? (i := 72) rfl)
theorem R_57_13 {R : Nat → Nat → Nat} {β : Nat} (h : gPS R β) : R (β + 57) 13 = β + 77 := h (57, 13, 77) (List.mem_of_getElem? (i := 73) rfl)
theorem R_57_14 {R : Nat → Nat → Nat} {β : Nat} (h : gPS R β) : R (β + 57) 14 = β + 78 := h (57, 14, 78) (List.mem_of_getElem? (i := 74) rfl)
theorem R_57_15 {R : Nat → Nat → Nat} {β : Nat} (h : gPS R β) : R (β + 57) 15 = β + 79 := h (57, 15, 79) (List.mem_of_getElem? (i := 75) rfl)
theorem R_57_16 {R : Nat → Nat → Nat} {β : Nat} (h : gPS R β) : R (β + 57) 16 = β + 80 := h (57, 16, 80) (List.mem_of_getElem? (i := 76) rfl)
theorem R_57_17 {R : Nat → Nat → Nat} {β : Nat} (h : gPS R β) : R (β + 57) 17 = β + 81 := h (57, 17, 81) (List.mem_of_getElem? (i := 77) rfl)
theorem R_83_0 {R : Nat → Nat → Nat} {β : Nat} (h : gPS R β) : R (β + 83) 0 = β + 84 := h (83, 0, 84) (List.mem_of_getElem? (i := 78) rfl)
theorem R_83_1 {R : Nat → Nat → Nat} {β : Nat} (h : gPS R β) : R (β + 83) 1 = β + 85 := h (83, 1, 85) (List.mem_of_getElem? (i := 79) rfl)
theorem R_83_2 {R : Nat → Nat → Nat} {β : Nat} (h : gPS R β) : R (β + 83) 2 = β + 86 := h (83, 2, 86) (List.mem_of_getElem? (i := 80) rfl)
theorem R_83_3 {R : Nat → Nat → Nat} {β : Nat} (h : gPS R β) : R (β + 83) 3 = β + 87 := h (83, 3, 87) (List.mem_of_getElem? (i := 81) rfl)
theorem R_83_4 {R : Nat → Nat → Nat} {β : Nat} (h : gPS R β) : R (β + 83) 4 = β + 88 := h (83, 4, 88) (List.mem_of_getElem? (i := 82) rfl)
theorem R_83_5 {R : Nat → Nat → Nat} {β : Nat} (h : gPS R β) : R (β + 83) 5 = β + 89 := h (83, 5, 89) (List.mem_of_getElem? (i := 83) rfl)
theorem R_83_6 {R : Nat → Nat → Nat} {β : Nat} (h : gPS R β) : R (β + 83) 6 = β + 90 := h (83, 6, 90) (List.mem_of_getElem? (i := 84) rfl)
theorem R_84_0 {R : Nat → Nat → Nat} {β : Nat} (h : gPS R β) : R (β + 84) 0 = β + 91 := h (84, 0, 91) (List.mem_of_getElem? (i := 85) rfl)
theorem R_84_1 {R : Nat → Nat → Nat} {β : Nat} (h : gPS R β) : R (β + 84) 1 = β + 92 := h (84, 1, 92) (List.mem_of_getElem? (i := 86) rfl)
theorem R_84_2 {R : Nat → Nat → Nat} {β : Nat} (h : gPS R β) : R (β + 84) 2 = β + 93 := h (84, 2, 93) (List.mem_of_getElem? (i := 87) rfl)
theorem R_84_3 {R : Nat → Nat → Nat} {β : Nat} (h : gPS R β) : R (β + 84) 3 = β + 94 := h (84, 3, 94) (List.mem_of_getElem? (i := 88) rfl)
theorem R_84_4 {R : Nat → Nat → Nat} {β : Nat} (h : gPS R β) : R (β + 84) 4 = β + 95 := h (84, 4, 95) (List.mem_of_getElem? (i := 89) rfl)
theorem R_84_5 {R : Nat → Nat → Nat} {β : Nat} (h : gPS R β) : R (β + 84) 5 = β + 96 := h (84, 5, 96) (List.mem_of_getElem? (i := 90) rfl)
theorem R_84_6 {R : Nat → Nat → Nat} {β : Nat} (h : gPS R β) : R (β + 84) 6 = β + 97 := h (84, 6, 97) (List.mem_of_getElem? (i := 91) rfl)
theorem R_84_7 {R : Nat → Nat → Nat} {β : Nat} (h : gPS R β) : R (β + 84) 7 = β + 98 := h (84, 7, 98) (List.mem_of_getElem? (i := 92) rfl)
theorem R_84_8 {R : Nat → Nat → Nat} {β : Nat} (h : gPS R β) : R (β + 84) 8 = β + 99 := h (84, 8, 99) (List.mem_of_getElem? (i := 93) rfl)
theorem R_84_9 {R : Nat → Nat → Nat} {β : Nat} (h : gPS R β) : R (β + 84) 9 = β + 100 := h (84, 9, 100) (List.mem_of_getElem? (i := 94) rfl)
theorem R_84_10 {R : Nat → Nat → Nat} {β : Nat} (h : gPS R β) : R (β + 84) 10 = β + 101 := h (84, 10, 101) (List.mem_of_getElem? (i := 95) rfl)
theorem R_84_11 {R : Nat → Nat → Nat} {β : Nat} (h : gPS R β) : R (β + 84) 11 = β + 102 := h (84, 11, 102) (List.mem_of_getElem? (i := 96) rfl)
theorem R_84_12 {R : Nat → Nat → Nat} {β : Nat} (h : gPS R β) : R (β + 84) 12 = β + 103 := h (84, 12, 103) (List.mem_of_getElem? (i := 97) rfl)
theorem R_84_13 {R : Nat → Nat → Nat} {β : Nat} (h : gPS R β) : R (β + 84) 13 = β + 104 := h (84, 13, 104) (List.mem_of_getElem? (i := 98) rfl)
theorem R_84_14 {R : Nat → Nat → Nat} {β : Nat} (h : gPS R β) : R (β + 84) 14 = β + 105 := h (84, 14, 105) (List.mem_of_getElem? (i := 99) rfl)
theorem R_84_15 {R : Nat → Nat → Nat} {β : Nat} (h : gPS R β) : R (β + 84) 15 = β + 106 := h (84, 15, 106) (List.mem_of_getElem? (i := 100) rfl)
theorem R_84_16 {R : Nat → Nat → Nat} {β : Nat} (h : gPS R β) : R (β + 84) 16 = β + 107 := h (84, 16, 107) (List.mem_of_getElem? (i := 101) rfl)
theorem R_84_17 {R : Nat → Nat → Nat} {β : Nat} (h : gPS R β) : R (β + 84) 17 = β + 108 := h (84, 17, 108) (List.mem_of_getElem? (i := 102) rfl)
theorem R_110_1 {R : Nat → Nat → Nat} {β : Nat} (h : gPS R β) : R (β + 110) 1 = β + 111 := h (110, 1, 111) (List.mem_of_getElem? (i := 103) rfl)
theorem R_110_3 {R : Nat → Nat → Nat} {β : Nat} (h : gPS R β) : R (β + 110) 3 = β + 112 := h (110, 3, 112) (List.mem_of_getElem? (i := 104) rfl)
theorem R_110_5 {R : Nat → Nat → Nat} {β : Nat} (h : gPS R β) : R (β + 110) 5 = β + 113 := h (110, 5, 113) (List.mem_of_getElem? (i := 105) rfl)
theorem R_110_6 {R : Nat → Nat → Nat} {β : Nat} (h : gPS R β) : R (β + 110) 6 = β + 114 := h (110, 6, 114) (List.mem_of_getElem? (i := 106) rfl)
theorem R_110_7 {R : Nat → Nat → Nat} {β : Nat} (h : gPS R β) : R (β + 110) 7 = β + 115 := h (110, 7, 115) (List.mem_of_getElem? (i := 107) rfl)
theorem R_110_8 {R : Nat → Nat → Nat} {β : Nat} (h : gPS R β) : R (β + 110) 8 = β + 116 := h (110, 8, 116) (List.mem_of_getElem? (i := 108) rfl)
theorem R_110_9 {R : Nat → Nat → Nat} {β : Nat} (h : gPS R β) : R (β + 110) 9 = β + 117 := h (110, 9, 117) (List.mem_of_getElem? (i := 109) rfl)
theorem R_110_20 {R : Nat → Nat → Nat} {β : Nat} (h : gPS R β) : R (β + 110) 20 = β + 118 := h (110, 20, 118) (List.mem_of_getElem? (i := 110) rfl)
theorem R_110_21 {R : Nat → Nat → Nat} {β : Nat} (h : gPS R β) : R (β + 110) 21 = β + 119 := h (110, 21, 119) (List.mem_of_getElem? (i := 111) rfl)
theorem R_110_22 {R : Nat → Nat → Nat} {β : Nat} (h : gPS R β) : R (β + 110) 22 = β + 120 := h (110, 22, 120) (List.mem_of_getElem? (i := 112) rfl)
theorem R_110_23 {R : Nat → Nat → Nat} {β : Nat} (h : gPS R β) : R (β + 110) 23 = β + 121 := h (110, 23, 121) (List.mem_of_getElem? (i := 113) rfl)
theorem R_110_24 {R : Nat → Nat → Nat} {β : Nat} (h : gPS R β) : R (β + 110) 24 = β + 122 := h (110, 24, 122) (List.mem_of_getElem? (i := 114) rfl)
theorem R_110_25 {R : Nat → Nat → Nat} {β : Nat} (h : gPS R β) : R (β + 110) 25 = β + 123 := h (110, 25, 123) (List.mem_of_getElem? (i := 115) rfl)
theorem R_110_26 {R : Nat → Nat → Nat} {β : Nat} (h : gPS R β) : R (β + 110) 26 = β + 124 := h (110, 26, 124) (List.mem_of_getElem? (i := 116) rfl)
theorem R_110_27 {R : Nat → Nat → Nat} {β : Nat} (h : gPS R β) : R (β + 110) 27 = β + 125 := h (110, 27, 125) (List.mem_of_getElem? (i := 117) rfl)
theorem R_110_28 {R : Nat → Nat → Nat} {β : Nat} (h : gPS R β) : R (β + 110) 28 = β + 126 := h (110, 28, 126) (List.mem_of_getElem? (i := 118) rfl)
theorem R_110_29 {R : Nat → Nat → Nat} {β : Nat} (h : gPS R β) : R (β + 110) 29 = β + 127 := h (110, 29, 127) (List.mem_of_getElem? (i := 119) rfl)
theorem R_110_30 {R : Nat → Nat → Nat} {β : Nat} (h : gPS R β) : R (β + 110) 30 = β + 128 := h (110, 30, 128) (List.mem_of_getElem? (i := 120) rfl)
theorem R_110_31 {R : Nat → Nat → Nat} {β : Nat} (h : gPS R β) : R (β + 110) 31 = β + 129 := h (110, 31, 129) (List.mem_of_getElem? (i := 121) rfl)
theorem R_110_32 {R : Nat → Nat → Nat} {β : Nat} (h : gPS R β) : R (β + 110) 32 = β + 130 := h (110, 32, 130) (List.mem_of_getElem? (i := 122) rfl)
theorem R_110_33 {R : Nat → Nat → Nat} {β : Nat} (h : gPS R β) : R (β + 110) 33 = β + 131 := h (110, 33, 131) (List.mem_of_getElem? (i := 123) rfl)
theorem R_110_35 {R : Nat → Nat → Nat} {β : Nat} (h : gPS R β) : R (β + 110) 35 = β + 132 := h (110, 35, 132) (List.mem_of_getElem? (i := 124) rfl)
theorem R_110_36 {R : Nat → Nat → Nat} {β : Nat} (h : gPS R β) : R (β + 110) 36 = β + 133 := h (110, 36, 133) (List.mem_of_getElem? (i := 125) rfl)
theorem R_110_39 {R : Nat → Nat → Nat} {β : Nat} (h : gPS R β) : R (β + 110) 39 = β + 134 := h (110, 39, 134) (List.mem_of_getElem? (i := 126) rfl)
theorem R_110_41 {R : Nat → Nat → Nat} {β : Nat} (h : gPS R β) : R (β + 110) 41 = β + 135 := h (110, 41, 135) (List.mem_of_getElem? (i := 127) rfl)
theorem R_110_44 {R : Nat → Nat → Nat} {β : Nat} (h : gPS R β) : R (β + 110) 44 = β + 136 := h (110, 44, 136) (List.mem_of_getElem? (i := 128) rfl)
theorem R_110_45 {R : Nat → Nat → Nat} {β : Nat} (h : gPS R β) : R (β + 110) 45 = β + 137 := h (110, 45, 137) (List.mem_of_getElem? (i := 129) rfl)
theorem R_110_46 {R : Nat → Nat → Nat} {β : Nat} (h : gPS R β) : R (β + 110) 46 = β + 138 := h (110, 46, 138) (List.mem_of_getElem? (i := 130) rfl)
theorem R_110_48 {R : Nat → Nat → Nat} {β : Nat} (h : gPS R β) : R (β + 110) 48 = β + 139 := h (110, 48, 139) (List.mem_of_getElem? (i := 131) rfl)
theorem R_110_49 {R : Nat → Nat → Nat} {β : Nat} (h : gPS R β) : R (β + 110) 49 = β + 140 := h (110, 49, 140) (List.mem_of_getElem? (i := 132) rfl)
theorem R_110_50 {R : Nat → Nat → Nat} {β : Nat} (h : gPS R β) : R (β + 110) 50 = β + 141 := h (110, 50, 141) (List.mem_of_getElem? (i := 133) rfl)
theorem R_110_55 {R : Nat → Nat → Nat} {β : Nat} (h : gPS R β) : R (β + 110) 55 = β + 142 := h (110, 55, 142) (List.mem_of_getElem? (i := 134) rfl)
theorem R_110_56 {R : Nat → Nat → Nat} {β : Nat} (h : gPS R β) : R (β + 110) 56 = β + 143 := h (110, 56, 143) (List.mem_of_getElem? (i := 135) rfl)
theorem R_110_57 {R : Nat → Nat → Nat} {β : Nat} (h : gPS R β) : R (β + 110) 57 = β + 144 := h (110, 57, 144) (List.mem_of_getElem? (i := 136) rfl)
theorem R_110_58 {R : Nat → Nat → Nat} {β : Nat} (h : gPS R β) : R (β + 110) 58 = β + 145 := h (110, 58, 145) (List.mem_of_getElem? (i := 137) rfl)
theorem R_110_59 {R : Nat → Nat → Nat} {β : Nat} (h : gPS R β) : R (β + 110) 59 = β + 146 := h (110, 59, 146) (List.mem_of_getElem? (i := 138) rfl)
theorem R_110_60 {R : Nat → Nat → Nat} {β : Nat} (h : gPS R β) : R (β + 110) 60 = β + 147 := h (110, 60, 147) (List.mem_of_getElem? (i := 139) rfl)
theorem R_110_61 {R : Nat → Nat → Nat} {β : Nat} (h : gPS R β) : R (β + 110) 61 = β + 148 := h (110, 61, 148) (List.mem_of_getElem? (i := 140) rfl)
theorem R_110_62 {R : Nat → Nat → Nat} {β : Nat} (h : gPS R β) : R (β + 110) 62 = β + 149 := h (110, 62, 149) (List.mem_of_getElem? (i := 141) rfl)
theorem R_110_63 {R : Nat → Nat → Nat} {β : Nat} (h : gPS R β) : R (β + 110) 63 = β + 150 := h (110, 63, 150) (List.mem_of_getElem? (i := 142) rfl)
theorem R_110_64 {R : Nat → Nat → Nat} {β : Nat} (h : gPS R β) : R (β + 110) 64 = β + 151 := h (110, 64, 151) (List.mem_of_getElem? (i := 143) rfl)
theorem R_110_69 {R : Nat → Nat → Nat} {β : Nat} (h : gPS R β) : R (β + 110) 69 = β + 152 := h (110, 69, 152) (List.mem_of_getElem? (i := 144) rfl)
theorem R_110_70 {R : Nat → Nat → Nat} {β : Nat} (h : gPS R β) : R (β + 110) 70 = β + 153 := h (110, 70, 153) (List.mem_of_getElem? (i := 145) rfl)
theorem R_110_71 {R : Nat → Nat → Nat} {β : Nat} (h : gPS R β) : R (β + 110) 71 = β + 154 := h (110, 71, 154) (List.mem_of_getElem? (i := 146) rfl)
theorem R_110_73 {R : Nat → Nat → Nat} {β : Nat} (h : gPS R β) : R (β + 110) 73 = β + 155 := h (110, 73, 155) (List.mem_of_getElem? (i := 147) rfl)
theorem R_110_74 {R : Nat → Nat → Nat} {β : Nat} (h : gPS R β) : R (β + 110) 74 = β + 156 := h (110, 74, 156) (List.mem_of_getElem? (i := 148) rfl)
theorem R_110_75 {R : Nat → Nat → Nat} {β : Nat} (h : gPS R β) : R (β + 110) 75 = β + 157 := h (110, 75, 157) (List.mem_of_getElem? (i := 149) rfl)
theorem R_110_76 {R : Nat → Nat → Nat} {β : Nat} (h : gPS R β) : R (β + 110) 76 = β + 158 := h (110, 76, 158) (List.mem_of_getElem? (i := 150) rfl)
theorem R_110_77 {R : Nat → Nat → Nat} {β : Nat} (h : gPS R β) : R (β + 110) 77 = β + 159 := h (110, 77, 159) (List.mem_of_getElem? (i := 151) rfl)
theorem R_110_78 {R : Nat → Nat → Nat} {β : Nat} (h : gPS R β) : R (β + 110) 78 = β + 160 := h (110, 78, 160) (List.mem_of_getElem? (i := 152) rfl)
theorem R_110_79 {R : Nat → Nat → Nat} {β : Nat} (h : gPS R β) : R (β + 110) 79 = β + 161 := h (110, 79, 161) (List.mem_of_getElem? (i := 153) rfl)
theorem R_110_81 {R : Nat → Nat → Nat} {β : Nat} (h : gPS R β) : R (β + 110) 81 = β + 162 := h (110, 81, 162) (List.mem_of_getElem? (i := 154) rfl)
theorem R_110_82 {R : Nat → Nat → Nat} {β : Nat} (h : gPS R β) : R (β + 110) 82 = β + 163 := h (110, 82, 163) (List.mem_of_getElem? (i := 155) rfl)
theorem R_110_83 {R : Nat → Nat → Nat} {β : Nat} (h : gPS R β) : R (β + 110) 83 = β + 164 := h (110, 83, 164) (List.mem_of_getElem? (i := 156) rfl)
theorem R_110_84 {R : Nat → Nat → Nat} {β : Nat} (h : gPS R β) : R (β + 110) 84 = β + 165 := h (110, 84, 165) (List.mem_of_getElem? (i := 157) rfl)
theorem R_110_85 {R : Nat → Nat → Nat} {β : Nat} (h : gPS R β) : R (β + 110) 85 = β + 166 := h (110, 85, 166) (List.mem_of_getElem? (i := 158) rfl)
theorem R_110_86 {R : Nat → Nat → Nat} {β : Nat} (h : gPS R β) : R (β + 110) 86 = β + 167 := h (110, 86, 167) (List.mem_of_getElem? (i := 159) rfl)
theorem gPS_U {R : Nat → Nat → Nat} {β a k v : Nat} (h : gPS R β) (hn : gPtF.all (fun e => !(e.1 == a && e.2.1 == k)) = true) : gPS (gU R (β + a) k v) β := by
  intro e he
  have := (List.all_eq_true.mp hn) e he
  rw [gU_n]
  · exact h e he
  · intro q
    have h1 : e.1 = a := by omega
    simp [h1, q.2] at this
/-- a chain of pointers, read through a list -/
def gFd (β : Nat) (R : Nat → Nat → Nat) : List (Nat × Nat × Nat) → (Nat → Nat → Nat)
  | [] => R
  | e :: l => gU (gFd β R l) (β + e.1) e.2.1 (β + e.2.2)
def gLkp (a k : Nat) : List (Nat × Nat × Nat) → Option Nat
  | [] => none
  | e :: l => if e.1 = a ∧ e.2.1 = k then some e.2.2 else gLkp a k l
theorem gFd_lk {β : Nat} {R : Nat → Nat → Nat} {a k c : Nat} : ∀ (l : List (Nat × Nat × Nat)), gLkp a k l = some c → gFd β R l (β + a) k = β + c
  | [], h => by simp [gLkp] at h
  | e :: l, h => by
    simp only [gLkp] at h
    simp only [gFd]
    by_cases q : e.1 = a ∧ e.2.1 = k
    · rw [if_pos q] at h
      cases h
      obtain ⟨rfl, rfl⟩ := q
      exact gU_s
    · rw [if_neg q] at h
      rw [gU_n (fun z => q ⟨by omega, z.2.symm⟩)]
      exact gFd_lk l h
theorem gFd_app {β : Nat} {R : Nat → Nat → Nat} : ∀ (l1 l2 : List (Nat × Nat × Nat)), gFd β (gFd β R l2) l1 = gFd β R (l1 ++ l2)
  | [], l2 => rfl
  | e :: l1, l2 => by simp only [gFd, List.cons_append]; rw [gFd_app l1 l2]
abbrev gC1 : List (Nat × Nat × Nat) := [(0, 8, 83), (83, 7, 109), (84, 17, 108), (84, 16, 107), (84, 15, 106), (84, 14, 105), (84, 13, 104), (84, 12, 103), (84, 11, 102), (84, 10, 101), (84, 9, 100), (84, 8, 99), (84, 7, 98), (84, 6, 97), (84, 5, 96), (84, 4, 95), (84, 3, 94), (84, 2, 93), (84, 1, 92), (84, 0, 91), (83, 6, 90), (83, 5, 89), (83, 4, 88), (83, 3, 87), (83, 2, 86), (83, 1, 85), (83, 0, 84), (0, 7, 56), (56, 7, 82), (57, 17, 81), (57, 16, 80), (57, 15, 79), (57, 14, 78), (57, 13, 77), (57, 12, 76), (57, 11, 75), (57, 10, 74), (57, 9, 73), (57, 8, 72), (57, 7, 71), (57, 6, 70), (57, 5, 69), (57, 4, 68), (57, 3, 67), (57, 2, 66), (57, 1, 65), (57, 0, 64), (56, 6, 63), (56, 5, 62), (56, 4, 61), (56, 3, 60), (56, 2, 59), (56, 1, 58), (56, 0, 57), (0, 6, 50), (50, 5, 55), (50, 4, 54), (50, 3, 53), (50, 2, 52), (50, 1, 51), (0, 5, 48), (48, 0, 49), (0, 4, 37), (37, 10, 47), (37, 9, 46), (37, 8, 45), (37, 7, 44), (37, 6, 43), (37, 5, 42), (37, 4, 41), (37, 3, 40), (37, 2, 39), (37, 1, 38), (18, 5, 34), (34, 13, 36), (34, 12, 35), (18, 4, 31), (31, 13, 33), (31, 12, 32), (18, 3, 28), (28, 13, 30), (28, 12, 29), (18, 2, 25), (25, 13, 27), (25, 12, 26), (18, 1, 22), (22, 13, 24), (22, 12, 23), (18, 0, 19), (19, 13, 21), (19, 12, 20), (0, 3, 18), (0, 2, 8), (8, 8, 17), (8, 7, 16), (8, 6, 15), (8, 5, 14), (8, 4, 13), (8, 3, 12), (8, 2, 11), (8, 1, 10), (8, 0, 9), (0, 1, 3), (3, 0, 4), (4, 2, 7), (4, 1, 6), (4, 0, 5), (0, 0, 1), (1, 0, 2)]
abbrev gC2l : List (Nat × Nat × Nat) := [(110, 86, 167), (110, 85, 166), (110, 84, 165), (110, 83, 164), (110, 82, 163), (110, 81, 162), (110, 79, 161), (110, 78, 160), (110, 77, 159), (110, 76, 158), (110, 75, 157), (110, 74, 156), (110, 73, 155), (110, 71, 154), (110, 70, 153), (110, 69, 152), (110, 64, 151), (110, 63, 150), (110, 62, 149), (110, 61, 148), (110, 60, 147), (110, 59, 146), (110, 58, 145), (110, 57, 144), (110, 56, 143), (110, 55, 142), (110, 50, 141), (110, 49, 140), (110, 48, 139), (110, 46, 138), (110, 45, 137), (110, 44, 136), (110, 41, 135), (110, 39, 134), (110, 36, 133), (110, 35, 132), (110, 33, 131), (110, 32, 130), (110, 31, 129), (110, 30, 128), (110, 29, 127), (110, 28, 126), (110, 27, 125), (110, 26, 124), (110, 25, 123), (110, 24, 122), (110, 23, 121), (110, 22, 120), (110, 21, 119), (110, 20, 118), (110, 9, 117), (110, 8, 116), (110, 7, 115), (110, 6, 114), (110, 5, 113), (110, 3, 112), (110, 1, 111)]
set_option maxRecDepth 20000 in
set_option maxHeartbeats 2000000 in
theorem g1R_fd {β : Nat} {R : Nat → Nat → Nat} : g1R β R = gFd β R gC1 := by
  simp only [g1R, gBR, gTR, gFd, Nat.add_assoc, Nat.reduceAdd, Nat.reduceMul, Nat.add_zero, Nat.mul_zero]
set_option maxRecDepth 20000 in
set_option maxHeartbeats 2000000 in
theorem g2R_fd {β : Nat} {R : Nat → Nat → Nat} : g2R (β + 110) (β + 111) R = gFd β R gC2l := by
  simp only [g2R, gFd, Nat.add_assoc, Nat.reduceAdd]
theorem g12_fd {β : Nat} {R : Nat → Nat → Nat} : g2R (β + 110) (β + 111) (g1R β R) = gFd β R (gC2l ++ gC1) := by rw [g1R_fd, g2R_fd, gFd_app]
theorem gPs_ok : ∀ e ∈ gPtF, gLkp e.1 e.2.1 (gC2l ++ gC1) = some e.2.2 := by decide +kernel
theorem gPS_start {β : Nat} {R : Nat → Nat → Nat} : gPS (g2R (β + 110) (β + 111) (g1R β R)) β := by
  intro e he
  rw [g12_fd]
  exact gFd_lk _ (gPs_ok e he)
theorem gLS_start {base tW tK b L : Nat} : gLS (g1S base tW tK b L) base := by
  intro k sh h
  exact gX_at h

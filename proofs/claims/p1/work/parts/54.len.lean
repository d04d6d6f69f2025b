/-! ===== the length of a code ===== -/
def q_lenL : List Int32 := [2, 2, 2, 3, 3, 3, 2, 2, 2, 2, 2, 3, 3, 3, 2, 2, 2, 2, 2, 3, 3, 3, 2, 2, 2, 2, 2, 3, 3, 3, 2, 2, 2, 2, 2, 3, 3, 3, 2, 2, 2, 2, 2, 3, 3, 3, 2, 2, 2, 2, 2, 3, 3, 3, 2, 2, 2, 2, 2, 3, 3, 3, 2, 2, 2, 2, 2, 3, 3, 3, 2, 2, 2, 2, 2, 3, 3, 3, 2, 2, 2, 2, 2, 3, 3, 3, 2, 2, 2, 2, 2, 3, 3, 3, 2, 2, 2, 2, 2, 3, 3, 3, 2, 2, 2, 2, 2, 3, 3, 3, 2, 2, 2, 2, 2, 3, 3, 3, 2, 2, 2, 2, 2, 3, 3, 3, 2, 2, 1, 1, 1, 1, 1, 1, 1, 1, 1, 1, 1, 1, 1, 1, 1, 1, 1, 1, 1, 1, 1, 1, 1, 1, 1, 1, 1, 1, 1, 3, 3, 3, 2, 2, 2, 2, 2, 2, 2, 2, 1, 1, 1, 1, 1, 1, 1, 1, 1, 1, 1, 1, 1, 1, 1, 1, 1, 1, 1, 1, 1, 1, 1, 1, 2, 2, 2, 3, 3, 3, 2, 2, 2, 2, 2, 3, 3, 3, 2, 2, 2, 2, 2, 3, 3, 3, 2, 2, 2, 2, 2, 3, 3, 3, 2, 2, 2, 2, 2, 3, 3, 3, 2, 2, 1, 1, 1, 1, 1, 1, 1, 1, 1, 1, 1, 1, 1, 1, 1, 1, 1, 1, 1, 1, 1, 1, 1, 1]
def q_len (c : Int32) : Int32 := q_lenL.getD c.toNatClampNeg 0
theorem q_lenX_0 (h : q_H) : q_Ca q_TB0 3 190 [.int 0] h (.inl (some (.int 2)), h) := ⟨60, rfl⟩
theorem q_lenX_1 (h : q_H) : q_Ca q_TB0 3 190 [.int 1] h (.inl (some (.int 2)), h) := ⟨60, rfl⟩
theorem q_lenX_2 (h : q_H) : q_Ca q_TB0 3 190 [.int 2] h (.inl (some (.int 2)), h) := ⟨60, rfl⟩
theorem q_lenX_3 (h : q_H) : q_Ca q_TB0 3 190 [.int 3] h (.inl (some (.int 3)), h) := ⟨60, rfl⟩
theorem q_lenX_4 (h : q_H) : q_Ca q_TB0 3 190 [.int 4] h (.inl (some (.int 3)), h) := ⟨60, rfl⟩
theorem q_lenX_5 (h : q_H) : q_Ca q_TB0 3 190 [.int 5] h (.inl (some (.int 3)), h) := ⟨60, rfl⟩
theorem q_lenX_6 (h : q_H) : q_Ca q_TB0 3 190 [.int 6] h (.inl (some (.int 2)), h) := ⟨60, rfl⟩
theorem q_lenX_7 (h : q_H) : q_Ca q_TB0 3 190 [.int 7] h (.inl (some (.int 2)), h) := ⟨60, rfl⟩
theorem q_lenX_8 (h : q_H) : q_Ca q_TB0 3 190 [.int 8] h (.inl (some (.int 2)), h) := ⟨60, rfl⟩
theorem q_lenX_9 (h : q_H) : q_Ca q_TB0 3 190 [.int 9] h (.inl (some (.int 2)), h) := ⟨60, rfl⟩
theorem q_lenX_10 (h : q_H) : q_Ca q_TB0 3 190 [.int 10] h (.inl (some (.int 2)), h) := ⟨60, rfl⟩
theorem q_lenX_11 (h : q_H) : q_Ca q_TB0 3 190 [.int 11] h (.inl (some (.int 3)), h) := ⟨60, rfl⟩
theorem q_lenX_12 (h : q_H) : q_Ca q_TB0 3 190 [.int 12] h (.inl (some (.int 3)), h) := ⟨60, rfl⟩
theorem q_lenX_13 (h : q_H) : q_Ca q_TB0 3 190 [.int 13] h (.inl (some (.int 3)), h) := ⟨60, rfl⟩
theorem q_lenX_14 (h : q_H) : q_Ca q_TB0 3 190 [.int 14] h (.inl (some (.int 2)), h) := ⟨60, rfl⟩
theorem q_lenX_15 (h : q_H) : q_Ca q_TB0 3 190 [.int 15] h (.inl (some (.int 2)), h) := ⟨60, rfl⟩
theorem q_lenX_16 (h : q_H) : q_Ca q_TB0 3 190 [.int 16] h (.inl (some (.int 2)), h) := ⟨60, rfl⟩
theorem q_lenX_17 (h : q_H) : q_Ca q_TB0 3 190 [.int 17] h (.inl (some (.int 2)), h) := ⟨60, rfl⟩
theorem q_lenX_18 (h : q_H) : q_Ca q_TB0 3 190 [.int 18] h (.inl (some (.int 2)), h) := ⟨60, rfl⟩
theorem q_lenX_19 (h : q_H) : q_Ca q_TB0 3 190 [.int 19] h (.inl (some (.int 3)), h) := ⟨60, rfl⟩
theorem q_lenX_20 (h : q_H) : q_Ca q_TB0 3 190 [.int 20] h (.inl (some (.int 3)), h) := ⟨60, rfl⟩
theorem q_lenX_21 (h : q_H) : q_Ca q_TB0 3 190 [.int 21] h (.inl (some (.int 3)), h) := ⟨60, rfl⟩
theorem q_lenX_22 (h : q_H) : q_Ca q_TB0 3 190 [.int 22] h (.inl (some (.int 2)), h) := ⟨60, rfl⟩
theorem q_lenX_23 (h : q_H) : q_Ca q_TB0 3 190 [.int 23] h (.inl (some (.int 2)), h) := ⟨60, rfl⟩
theorem q_lenX_24 (h : q_H) : q_Ca q_TB0 3 190 [.int 24] h (.inl (some (.int 2)), h) := ⟨60, rfl⟩
theorem q_lenX_25 (h : q_H) : q_Ca q_TB0 3 190 [.int 25] h (.inl (some (.int 2)), h) := ⟨60, rfl⟩
theorem q_lenX_26 (h : q_H) : q_Ca q_TB0 3 190 [.int 26] h (.inl (some (.int 2)), h) := ⟨60, rfl⟩
theorem q_lenX_27 (h : q_H) : q_Ca q_TB0 3 190 [.int 27] h (.inl (some (.int 3)), h) := ⟨60, rfl⟩
theorem q_lenX_28 (h : q_H) : q_Ca q_TB0 3 190 [.int 28] h (.inl (some (.int 3)), h) := ⟨60, rfl⟩
theorem q_lenX_29 (h : q_H) : q_Ca q_TB0 3 190 [.int 29] h (.inl (some (.int 3)), h) := ⟨60, rfl⟩
theorem q_lenX_30 (h : q_H) : q_Ca q_TB0 3 190 [.int 30] h (.inl (some (.int 2)), h) := ⟨60, rfl⟩
theorem q_lenX_31 (h : q_H) : q_Ca q_TB0 3 190 [.int 31] h (.inl (some (.int 2)), h) := ⟨60, rfl⟩
theorem q_lenX_32 (h : q_H) : q_Ca q_TB0 3 190 [.int 32] h (.inl (some (.int 2)), h) := ⟨60, rfl⟩
theorem q_lenX_33 (h : q_H) : q_Ca q_TB0 3 190 [.int 33] h (.inl (some (.int 2)), h) := ⟨60, rfl⟩
theorem q_lenX_34 (h : q_H) : q_Ca q_TB0 3 190 [.int 34] h (.inl (some (.int 2)), h) := ⟨60, rfl⟩
theorem q_lenX_35 (h : q_H) : q_Ca q_TB0 3 190 [.int 35] h (.inl (some (.int 3)), h) := ⟨60, rfl⟩
theorem q_lenX_36 (h : q_H) : q_Ca q_TB0 3 190 [.int 36] h (.inl (some (.int 3)), h) := ⟨60, rfl⟩
theorem q_lenX_37 (h : q_H) : q_Ca q_TB0 3 190 [.int 37] h (.inl (some (.int 3)), h) := ⟨60, rfl⟩
theorem q_lenX_38 (h : q_H) : q_Ca q_TB0 3 190 [.int 38] h (.inl (some (.int 2)), h) := ⟨60, rfl⟩
theorem q_lenX_39 (h : q_H) : q_Ca q_TB0 3 190 [.int 39] h (.inl (some (.int 2)), h) := ⟨60, rfl⟩
theorem q_lenX_40 (h : q_H) : q_Ca q_TB0 3 190 [.int 40] h (.inl (some (.int 2)), h) := ⟨60, rfl⟩
theorem q_lenX_41 (h : q_H) : q_Ca q_TB0 3 190 [.int 41] h (.inl (some (.int 2)), h) := ⟨60, rfl⟩
theorem q_lenX_42 (h : q_H) : q_Ca q_TB0 3 190 [.int 42] h (.inl (some (.int 2)), h) := ⟨60, rfl⟩
theorem q_lenX_43 (h : q_H) : q_Ca q_TB0 3 190 [.int 43] h (.inl (some (.int 3)), h) := ⟨60, rfl⟩
theorem q_lenX_44 (h : q_H) : q_Ca q_TB0 3 190 [.int 44] h (.inl (some (.int 3)), h) := ⟨60, rfl⟩
theorem q_lenX_45 (h : q_H) : q_Ca q_TB0 3 190 [.int 45] h (.inl (some (.int 3)), h) := ⟨60, rfl⟩
theorem q_lenX_46 (h : q_H) : q_Ca q_TB0 3 190 [.int 46] h (.inl (some (.int 2)), h) := ⟨60, rfl⟩
theorem q_lenX_47 (h : q_H) : q_Ca q_TB0 3 190 [.int 47] h (.inl (some (.int 2)), h) := ⟨60, rfl⟩
theorem q_lenX_48 (h : q_H) : q_Ca q_TB0 3 190 [.int 48] h (.inl (some (.int 2)), h) := ⟨60, rfl⟩
theorem q_lenX_49 (h : q_H) : q_Ca q_TB0 3 190 [.int 49] h (.inl (some (.int 2)), h) := ⟨60, rfl⟩
theorem q_lenX_50 (h : q_H) : q_Ca q_TB0 3 190 [.int 50] h (.inl (some (.int 2)), h) := ⟨60, rfl⟩
theorem q_lenX_51 (h : q_H) : q_Ca q_TB0 3 190 [.int 51] h (.inl (some (.int 3)), h) := ⟨60, rfl⟩
theorem q_lenX_52 (h : q_H) : q_Ca q_TB0 3 190 [.int 52] h (.inl (some (.int 3)), h) := ⟨60, rfl⟩
theorem q_lenX_53 (h : q_H) : q_Ca q_TB0 3 190 [.int 53] h (.inl (some (.int 3)), h) := ⟨60, rfl⟩
theorem q_lenX_54 (h : q_H) : q_Ca q_TB0 3 190 [.int 54] h (.inl (some (.int 2)), h) := ⟨60, rfl⟩
theorem q_lenX_55 (h : q_H) : q_Ca q_TB0 3 190 [.int 55] h (.inl (some (.int 2)), h) := ⟨60, rfl⟩
theorem q_lenX_56 (h : q_H) : q_Ca q_TB0 3 190 [.int 56] h (.inl (some (.int 2)), h) := ⟨60, rfl⟩
theorem q_lenX_57 (h : q_H) : q_Ca q_TB0 3 190 [.int 57] h (.inl (some (.int 2)), h) := ⟨60, rfl⟩
theorem q_lenX_58 (h : q_H) : q_Ca q_TB0 3 190 [.int 58] h (.inl (some (.int 2)), h) := ⟨60, rfl⟩
theorem q_lenX_59 (h : q_H) : q_Ca q_TB0 3 190 [.int 59] h (.inl (some (.int 3)), h) := ⟨60, rfl⟩
theorem q_lenX_60 (h : q_H) : q_Ca q_TB0 3 190 [.int 60] h (.inl (some (.int 3)), h) := ⟨60, rfl⟩
theorem q_lenX_61 (h : q_H) : q_Ca q_TB0 3 190 [.int 61] h (.inl (some (.int 3)), h) := ⟨60, rfl⟩
theorem q_lenX_62 (h : q_H) : q_Ca q_TB0 3 190 [.int 62] h (.inl (some (.int 2)), h) := ⟨60, rfl⟩
theorem q_lenX_63 (h : q_H) : q_Ca q_TB0 3 190 [.int 63] h (.inl (some (.int 2)), h) := ⟨60, rfl⟩
theorem q_lenX_64 (h : q_H) : q_Ca q_TB0 3 190 [.int 64] h (.inl (some (.int 2)), h) := ⟨60, rfl⟩
theorem q_lenX_65 (h : q_H) : q_Ca q_TB0 3 190 [.int 65] h (.inl (some (.int 2)), h) := ⟨60, rfl⟩
theorem q_lenX_66 (h : q_H) : q_Ca q_TB0 3 190 [.int 66] h (.inl (some (.int 2)), h) := ⟨60, rfl⟩
theorem q_lenX_67 (h : q_H) : q_Ca q_TB0 3 190 [.int 67] h (.inl (some (.int 3)), h) := ⟨60, rfl⟩
theorem q_lenX_68 (h : q_H) : q_Ca q_TB0 3 190 [.int 68] h (.inl (some (.int 3)), h) := ⟨60, rfl⟩
theorem q_lenX_69 (h : q_H) : q_Ca q_TB0 3 190 [.int 69] h (.inl (some (.int 3)), h) := ⟨60, rfl⟩
theorem q_lenX_70 (h : q_H) : q_Ca q_TB0 3 190 [.int 70] h (.inl (some (.int 2)), h) := ⟨60, rfl⟩
theorem q_lenX_71 (h : q_H) : q_Ca q_TB0 3 190 [.int 71] h (.inl (some (.int 2)), h) := ⟨60, rfl⟩
theorem q_lenX_72 (h : q_H) : q_Ca q_TB0 3 190 [.int 72] h (.inl (some (.int 2)), h) := ⟨60, rfl⟩
theorem q_lenX_73 (h : q_H) : q_Ca q_TB0 3 190 [.int 73] h (.inl (some (.int 2)), h) := ⟨60, rfl⟩
theorem q_lenX_74 (h : q_H) : q_Ca q_TB0 3 190 [.int 74] h (.inl (some (.int 2)), h) := ⟨60, rfl⟩
theorem q_lenX_75 (h : q_H) : q_Ca q_TB0 3 190 [.int 75] h (.inl (some (.int 3)), h) := ⟨60, rfl⟩
theorem q_lenX_76 (h : q_H) : q_Ca q_TB0 3 190 [.int 76] h (.inl (some (.int 3)), h) := ⟨60, rfl⟩
theorem q_lenX_77 (h : q_H) : q_Ca q_TB0 3 190 [.int 77] h (.inl (some (.int 3)), h) := ⟨60, rfl⟩
theorem q_lenX_78 (h : q_H) : q_Ca q_TB0 3 190 [.int 78] h (.inl (some (.int 2)), h) := ⟨60, rfl⟩
theorem q_lenX_79 (h : q_H) : q_Ca q_TB0 3 190 [.int 79] h (.inl (some (.int 2)), h) := ⟨60, rfl⟩
theorem q_lenX_80 (h : q_H) : q_Ca q_TB0 3 190 [.int 80] h (.inl (some (.int 2)), h) := ⟨60, rfl⟩
theorem q_lenX_81 (h : q_H) : q_Ca q_TB0 3 190 [.int 81] h (.inl (some (.int 2)), h) := ⟨60, rfl⟩
theorem q_lenX_82 (h : q_H) : q_Ca q_TB0 3 190 [.int 82] h (.inl (some (.int 2)), h) := ⟨60, rfl⟩
theorem q_lenX_83 (h : q_H) : q_Ca q_TB0 3 190 [.int 83] h (.inl (some (.int 3)), h) := ⟨60, rfl⟩
theorem q_lenX_84 (h : q_H) : q_Ca q_TB0 3 190 [.int 84] h (.inl (some (.int 3)), h) := ⟨60, rfl⟩
theorem q_lenX_85 (h : q_H) : q_Ca q_TB0 3 190 [.int 85] h (.inl (some (.int 3)), h) := ⟨60, rfl⟩
theorem q_lenX_86 (h : q_H) : q_Ca q_TB0 3 190 [.int 86] h (.inl (some (.int 2)), h) := ⟨60, rfl⟩
theorem q_lenX_87 (h : q_H) : q_Ca q_TB0 3 190 [.int 87] h (.inl (some (.int 2)), h) := ⟨60, rfl⟩
theorem q_lenX_88 (h : q_H) : q_Ca q_TB0 3 190 [.int 88] h (.inl (some (.int 2)), h) := ⟨60, rfl⟩
theorem q_lenX_89 (h : q_H) : q_Ca q_TB0 3 190 [.int 89] h (.inl (some (.int 2)), h) := ⟨60, rfl⟩
theorem q_lenX_90 (h : q_H) : q_Ca q_TB0 3 190 [.int 90] h (.inl (some (.int 2)), h) := ⟨60, rfl⟩
theorem q_lenX_91 (h : q_H) : q_Ca q_TB0 3 190 [.int 91] h (.inl (some (.int 3)), h) := ⟨60, rfl⟩
theorem q_lenX_92 (h : q_H) : q_Ca q_TB0 3 190 [.int 92] h (.inl (some (.int 3)), h) := ⟨60, rfl⟩
theorem q_lenX_93 (h : q_H) : q_Ca q_TB0 3 190 [.int 93] h (.inl (some (.int 3)), h) := ⟨60, rfl⟩
theorem q_lenX_94 (h : q_H) : q_Ca q_TB0 3 190 [.int 94] h (.inl (some (.int 2)), h) := ⟨60, rfl⟩
theorem q_lenX_95 (h : q_H) : q_Ca q_TB0 3 190 [.int 95] h (.inl (some (.int 2)), h) := ⟨60, rfl⟩
theorem q_lenX_96 (h : q_H) : q_Ca q_TB0 3 190 [.int 96] h (.inl (some (.int 2)), h) := ⟨60, rfl⟩
theorem q_lenX_97 (h : q_H) : q_Ca q_TB0 3 190 [.int 97] h (.inl (some (.int 2)), h) := ⟨60, rfl⟩
theorem q_lenX_98 (h : q_H) : q_Ca q_TB0 3 190 [.int 98] h (.inl (some (.int 2)), h) := ⟨60, rfl⟩
theorem q_lenX_99 (h : q_H) : q_Ca q_TB0 3 190 [.int 99] h (.inl (some (.int 3)), h) := ⟨60, rfl⟩
theorem q_lenX_100 (h : q_H) : q_Ca q_TB0 3 190 [.int 100] h (.inl (some (.int 3)), h) := ⟨60, rfl⟩
theorem q_lenX_101 (h : q_H) : q_Ca q_TB0 3 190 [.int 101] h (.inl (some (.int 3)), h) := ⟨60, rfl⟩
theorem q_lenX_102 (h : q_H) : q_Ca q_TB0 3 190 [.int 102] h (.inl (some (.int 2)), h) := ⟨60, rfl⟩
theorem q_lenX_103 (h : q_H) : q_Ca q_TB0 3 190 [.int 103] h (.inl (some (.int 2)), h) := ⟨60, rfl⟩
theorem q_lenX_104 (h : q_H) : q_Ca q_TB0 3 190 [.int 104] h (.inl (some (.int 2)), h) := ⟨60, rfl⟩
theorem q_lenX_105 (h : q_H) : q_Ca q_TB0 3 190 [.int 105] h (.inl (some (.int 2)), h) := ⟨60, rfl⟩
theorem q_lenX_106 (h : q_H) : q_Ca q_TB0 3 190 [.int 106] h (.inl (some (.int 2)), h) := ⟨60, rfl⟩
theorem q_lenX_107 (h : q_H) : q_Ca q_TB0 3 190 [.int 107] h (.inl (some (.int 3)), h) := ⟨60, rfl⟩
theorem q_lenX_108 (h : q_H) : q_Ca q_TB0 3 190 [.int 108] h (.inl (some (.int 3)), h) := ⟨60, rfl⟩
theorem q_lenX_109 (h : q_H) : q_Ca q_TB0 3 190 [.int 109] h (.inl (some (.int 3)), h) := ⟨60, rfl⟩
theorem q_lenX_110 (h : q_H) : q_Ca q_TB0 3 190 [.int 110] h (.inl (some (.int 2)), h) := ⟨60, rfl⟩
theorem q_lenX_111 (h : q_H) : q_Ca q_TB0 3 190 [.int 111] h (.inl (some (.int 2)), h) := ⟨60, rfl⟩
theorem q_lenX_112 (h : q_H) : q_Ca q_TB0 3 190 [.int 112] h (.inl (some (.int 2)), h) := ⟨60, rfl⟩
theorem q_lenX_113 (h : q_H) : q_Ca q_TB0 3 190 [.int 113] h (.inl (some (.int 2)), h) := ⟨60, rfl⟩
theorem q_lenX_114 (h : q_H) : q_Ca q_TB0 3 190 [.int 114] h (.inl (some (.int 2)), h) := ⟨60, rfl⟩
theorem q_lenX_115 (h : q_H) : q_Ca q_TB0 3 190 [.int 115] h (.inl (some (.int 3)), h) := ⟨60, rfl⟩
theorem q_lenX_116 (h : q_H) : q_Ca q_TB0 3 190 [.int 116] h (.inl (some (.int 3)), h) := ⟨60, rfl⟩
theorem q_lenX_117 (h : q_H) : q_Ca q_TB0 3 190 [.int 117] h (.inl (some (.int 3)), h) := ⟨60, rfl⟩
theorem q_lenX_118 (h : q_H) : q_Ca q_TB0 3 190 [.int 118] h (.inl (some (.int 2)), h) := ⟨60, rfl⟩
theorem q_lenX_119 (h : q_H) : q_Ca q_TB0 3 190 [.int 119] h (.inl (some (.int 2)), h) := ⟨60, rfl⟩
theorem q_lenX_120 (h : q_H) : q_Ca q_TB0 3 190 [.int 120] h (.inl (some (.int 2)), h) := ⟨60, rfl⟩
theorem q_lenX_121 (h : q_H) : q_Ca q_TB0 3 190 [.int 121] h (.inl (some (.int 2)), h) := ⟨60, rfl⟩
theorem q_lenX_122 (h : q_H) : q_Ca q_TB0 3 190 [.int 122] h (.inl (some (.int 2)), h) := ⟨60, rfl⟩
theorem q_lenX_123 (h : q_H) : q_Ca q_TB0 3 190 [.int 123] h (.inl (some (.int 3)), h) := ⟨60, rfl⟩
theorem q_lenX_124 (h : q_H) : q_Ca q_TB0 3 190 [.int 124] h (.inl (some (.int 3)), h) := ⟨60, rfl⟩
theorem q_lenX_125 (h : q_H) : q_Ca q_TB0 3 190 [.int 125] h (.inl (some (.int 3)), h) := ⟨60, rfl⟩
theorem q_lenX_126 (h : q_H) : q_Ca q_TB0 3 190 [.int 126] h (.inl (some (.int 2)), h) := ⟨60, rfl⟩
theorem q_lenX_127 (h : q_H) : q_Ca q_TB0 3 190 [.int 127] h (.inl (some (.int 2)), h) := ⟨60, rfl⟩
theorem q_lenX_128 (h : q_H) : q_Ca q_TB0 3 190 [.int 128] h (.inl (some (.int 1)), h) := ⟨60, rfl⟩
theorem q_lenX_129 (h : q_H) : q_Ca q_TB0 3 190 [.int 129] h (.inl (some (.int 1)), h) := ⟨60, rfl⟩
theorem q_lenX_130 (h : q_H) : q_Ca q_TB0 3 190 [.int 130] h (.inl (some (.int 1)), h) := ⟨60, rfl⟩
theorem q_lenX_131 (h : q_H) : q_Ca q_TB0 3 190 [.int 131] h (.inl (some (.int 1)), h) := ⟨60, rfl⟩
theorem q_lenX_132 (h : q_H) : q_Ca q_TB0 3 190 [.int 132] h (.inl (some (.int 1)), h) := ⟨60, rfl⟩
theorem q_lenX_133 (h : q_H) : q_Ca q_TB0 3 190 [.int 133] h (.inl (some (.int 1)), h) := ⟨60, rfl⟩
theorem q_lenX_134 (h : q_H) : q_Ca q_TB0 3 190 [.int 134] h (.inl (some (.int 1)), h) := ⟨60, rfl⟩
theorem q_lenX_135 (h : q_H) : q_Ca q_TB0 3 190 [.int 135] h (.inl (some (.int 1)), h) := ⟨60, rfl⟩
theorem q_lenX_136 (h : q_H) : q_Ca q_TB0 3 190 [.int 136] h (.inl (some (.int 1)), h) := ⟨60, rfl⟩
theorem q_lenX_137 (h : q_H) : q_Ca q_TB0 3 190 [.int 137] h (.inl (some (.int 1)), h) := ⟨60, rfl⟩
theorem q_lenX_138 (h : q_H) : q_Ca q_TB0 3 190 [.int 138] h (.inl (some (.int 1)), h) := ⟨60, rfl⟩
theorem q_lenX_139 (h : q_H) : q_Ca q_TB0 3 190 [.int 139] h (.inl (some (.int 1)), h) := ⟨60, rfl⟩
theorem q_lenX_140 (h : q_H) : q_Ca q_TB0 3 190 [.int 140] h (.inl (some (.int 1)), h) := ⟨60, rfl⟩
theorem q_lenX_141 (h : q_H) : q_Ca q_TB0 3 190 [.int 141] h (.inl (some (.int 1)), h) := ⟨60, rfl⟩
theorem q_lenX_142 (h : q_H) : q_Ca q_TB0 3 190 [.int 142] h (.inl (some (.int 1)), h) := ⟨60, rfl⟩
theorem q_lenX_143 (h : q_H) : q_Ca q_TB0 3 190 [.int 143] h (.inl (some (.int 1)), h) := ⟨60, rfl⟩
theorem q_lenX_144 (h : q_H) : q_Ca q_TB0 3 190 [.int 144] h (.inl (some (.int 1)), h) := ⟨60, rfl⟩
theorem q_lenX_145 (h : q_H) : q_Ca q_TB0 3 190 [.int 145] h (.inl (some (.int 1)), h) := ⟨60, rfl⟩
theorem q_lenX_146 (h : q_H) : q_Ca q_TB0 3 190 [.int 146] h (.inl (some (.int 1)), h) := ⟨60, rfl⟩
theorem q_lenX_147 (h : q_H) : q_Ca q_TB0 3 190 [.int 147] h (.inl (some (.int 1)), h) := ⟨60, rfl⟩
theorem q_lenX_148 (h : q_H) : q_Ca q_TB0 3 190 [.int 148] h (.inl (some (.int 1)), h) := ⟨60, rfl⟩
theorem q_lenX_149 (h : q_H) : q_Ca q_TB0 3 190 [.int 149] h (.inl (some (.int 1)), h) := ⟨60, rfl⟩
theorem q_lenX_150 (h : q_H) : q_Ca q_TB0 3 190 [.int 150] h (.inl (some (.int 1)), h) := ⟨60, rfl⟩
theorem q_lenX_151 (h : q_H) : q_Ca q_TB0 3 190 [.int 151] h (.inl (some (.int 1)), h) := ⟨60, rfl⟩
theorem q_lenX_152 (h : q_H) : q_Ca q_TB0 3 190 [.int 152] h (.inl (some (.int 1)), h) := ⟨60, rfl⟩
theorem q_lenX_153 (h : q_H) : q_Ca q_TB0 3 190 [.int 153] h (.inl (some (.int 1)), h) := ⟨60, rfl⟩
theorem q_lenX_154 (h : q_H) : q_Ca q_TB0 3 190 [.int 154] h (.inl (some (.int 1)), h) := ⟨60, rfl⟩
theorem q_lenX_155 (h : q_H) : q_Ca q_TB0 3 190 [.int 155] h (.inl (some (.int 1)), h) := ⟨60, rfl⟩
theorem q_lenX_156 (h : q_H) : q_Ca q_TB0 3 190 [.int 156] h (.inl (some (.int 1)), h) := ⟨60, rfl⟩
theorem q_lenX_157 (h : q_H) : q_Ca q_TB0 3 190 [.int 157] h (.inl (some (.int 3)), h) := ⟨60, rfl⟩
theorem q_lenX_158 (h : q_H) : q_Ca q_TB0 3 190 [.int 158] h (.inl (some (.int 3)), h) := ⟨60, rfl⟩
theorem q_lenX_159 (h : q_H) : q_Ca q_TB0 3 190 [.int 159] h (.inl (some (.int 3)), h) := ⟨60, rfl⟩
theorem q_lenX_160 (h : q_H) : q_Ca q_TB0 3 190 [.int 160] h (.inl (some (.int 2)), h) := ⟨60, rfl⟩
theorem q_lenX_161 (h : q_H) : q_Ca q_TB0 3 190 [.int 161] h (.inl (some (.int 2)), h) := ⟨60, rfl⟩
theorem q_lenX_162 (h : q_H) : q_Ca q_TB0 3 190 [.int 162] h (.inl (some (.int 2)), h) := ⟨60, rfl⟩
theorem q_lenX_163 (h : q_H) : q_Ca q_TB0 3 190 [.int 163] h (.inl (some (.int 2)), h) := ⟨60, rfl⟩
theorem q_lenX_164 (h : q_H) : q_Ca q_TB0 3 190 [.int 164] h (.inl (some (.int 2)), h) := ⟨60, rfl⟩
theorem q_lenX_165 (h : q_H) : q_Ca q_TB0 3 190 [.int 165] h (.inl (some (.int 2)), h) := ⟨60, rfl⟩
theorem q_lenX_166 (h : q_H) : q_Ca q_TB0 3 190 [.int 166] h (.inl (some (.int 2)), h) := ⟨60, rfl⟩
theorem q_lenX_167 (h : q_H) : q_Ca q_TB0 3 190 [.int 167] h (.inl (some (.int 2)), h) := ⟨60, rfl⟩
theorem q_lenX_168 (h : q_H) : q_Ca q_TB0 3 190 [.int 168] h (.inl (some (.int 1)), h) := ⟨60, rfl⟩
theorem q_lenX_169 (h : q_H) : q_Ca q_TB0 3 190 [.int 169] h (.inl (some (.int 1)), h) := ⟨60, rfl⟩
theorem q_lenX_170 (h : q_H) : q_Ca q_TB0 3 190 [.int 170] h (.inl (some (.int 1)), h) := ⟨60, rfl⟩
theorem q_lenX_171 (h : q_H) : q_Ca q_TB0 3 190 [.int 171] h (.inl (some (.int 1)), h) := ⟨60, rfl⟩
theorem q_lenX_172 (h : q_H) : q_Ca q_TB0 3 190 [.int 172] h (.inl (some (.int 1)), h) := ⟨60, rfl⟩
theorem q_lenX_173 (h : q_H) : q_Ca q_TB0 3 190 [.int 173] h (.inl (some (.int 1)), h) := ⟨60, rfl⟩
theorem q_lenX_174 (h : q_H) : q_Ca q_TB0 3 190 [.int 174] h (.inl (some (.int 1)), h) := ⟨60, rfl⟩
theorem q_lenX_175 (h : q_H) : q_Ca q_TB0 3 190 [.int 175] h (.inl (some (.int 1)), h) := ⟨60, rfl⟩
theorem q_lenX_176 (h : q_H) : q_Ca q_TB0 3 190 [.int 176] h (.inl (some (.int 1)), h) := ⟨60, rfl⟩
theorem q_lenX_177 (h : q_H) : q_Ca q_TB0 3 190 [.int 177] h (.inl (some (.int 1)), h) := ⟨60, rfl⟩
theorem q_lenX_178 (h : q_H) : q_Ca q_TB0 3 190 [.int 178] h (.inl (some (.int 1)), h) := ⟨60, rfl⟩
theorem q_lenX_179 (h : q_H) : q_Ca q_TB0 3 190 [.int 179] h (.inl (some (.int 1)), h) := ⟨60, rfl⟩
theorem q_lenX_180 (h : q_H) : q_Ca q_TB0 3 190 [.int 180] h (.inl (some (.int 1)), h) := ⟨60, rfl⟩
theorem q_lenX_181 (h : q_H) : q_Ca q_TB0 3 190 [.int 181] h (.inl (some (.int 1)), h) := ⟨60, rfl⟩
theorem q_lenX_182 (h : q_H) : q_Ca q_TB0 3 190 [.int 182] h (.inl (some (.int 1)), h) := ⟨60, rfl⟩
theorem q_lenX_183 (h : q_H) : q_Ca q_TB0 3 190 [.int 183] h (.inl (some (.int 1)), h) := ⟨60, rfl⟩
theorem q_lenX_184 (h : q_H) : q_Ca q_TB0 3 190 [.int 184] h (.inl (some (.int 1)), h) := ⟨60, rfl⟩
theorem q_lenX_185 (h : q_H) : q_Ca q_TB0 3 190 [.int 185] h (.inl (some (.int 1)), h) := ⟨60, rfl⟩
theorem q_lenX_186 (h : q_H) : q_Ca q_TB0 3 190 [.int 186] h (.inl (some (.int 1)), h) := ⟨60, rfl⟩
theorem q_lenX_187 (h : q_H) : q_Ca q_TB0 3 190 [.int 187] h (.inl (some (.int 1)), h) := ⟨60, rfl⟩
theorem q_lenX_188 (h : q_H) : q_Ca q_TB0 3 190 [.int 188] h (.inl (some (.int 1)), h) := ⟨60, rfl⟩
theorem q_lenX_189 (h : q_H) : q_Ca q_TB0 3 190 [.int 189] h (.inl (some (.int 1)), h) := ⟨60, rfl⟩
theorem q_lenX_190 (h : q_H) : q_Ca q_TB0 3 190 [.int 190] h (.inl (some (.int 1)), h) := ⟨60, rfl⟩
theorem q_lenX_191 (h : q_H) : q_Ca q_TB0 3 190 [.int 191] h (.inl (some (.int 1)), h) := ⟨60, rfl⟩
theorem q_lenX_192 (h : q_H) : q_Ca q_TB0 3 190 [.int 192] h (.inl (some (.int 2)), h) := ⟨60, rfl⟩
theorem q_lenX_193 (h : q_H) : q_Ca q_TB0 3 190 [.int 193] h (.inl (some (.int 2)), h) := ⟨60, rfl⟩
theorem q_lenX_194 (h : q_H) : q_Ca q_TB0 3 190 [.int 194] h (.inl (some (.int 2)), h) := ⟨60, rfl⟩
theorem q_lenX_195 (h : q_H) : q_Ca q_TB0 3 190 [.int 195] h (.inl (some (.int 3)), h) := ⟨60, rfl⟩
theorem q_lenX_196 (h : q_H) : q_Ca q_TB0 3 190 [.int 196] h (.inl (some (.int 3)), h) := ⟨60, rfl⟩
theorem q_lenX_197 (h : q_H) : q_Ca q_TB0 3 190 [.int 197] h (.inl (some (.int 3)), h) := ⟨60, rfl⟩
theorem q_lenX_198 (h : q_H) : q_Ca q_TB0 3 190 [.int 198] h (.inl (some (.int 2)), h) := ⟨60, rfl⟩
theorem q_lenX_199 (h : q_H) : q_Ca q_TB0 3 190 [.int 199] h (.inl (some (.int 2)), h) := ⟨60, rfl⟩
theorem q_lenX_200 (h : q_H) : q_Ca q_TB0 3 190 [.int 200] h (.inl (some (.int 2)), h) := ⟨60, rfl⟩
theorem q_lenX_201 (h : q_H) : q_Ca q_TB0 3 190 [.int 201] h (.inl (some (.int 2)), h) := ⟨60, rfl⟩
theorem q_lenX_202 (h : q_H) : q_Ca q_TB0 3 190 [.int 202] h (.inl (some (.int 2)), h) := ⟨60, rfl⟩
theorem q_lenX_203 (h : q_H) : q_Ca q_TB0 3 190 [.int 203] h (.inl (some (.int 3)), h) := ⟨60, rfl⟩
theorem q_lenX_204 (h : q_H) : q_Ca q_TB0 3 190 [.int 204] h (.inl (some (.int 3)), h) := ⟨60, rfl⟩
theorem q_lenX_205 (h : q_H) : q_Ca q_TB0 3 190 [.int 205] h (.inl (some (.int 3)), h) := ⟨60, rfl⟩
theorem q_lenX_206 (h : q_H) : q_Ca q_TB0 3 190 [.int 206] h (.inl (some (.int 2)), h) := ⟨60, rfl⟩
theorem q_lenX_207 (h : q_H) : q_Ca q_TB0 3 190 [.int 207] h (.inl (some (.int 2)), h) := ⟨60, rfl⟩
theorem q_lenX_208 (h : q_H) : q_Ca q_TB0 3 190 [.int 208] h (.inl (some (.int 2)), h) := ⟨60, rfl⟩
theorem q_lenX_209 (h : q_H) : q_Ca q_TB0 3 190 [.int 209] h (.inl (some (.int 2)), h) := ⟨60, rfl⟩
theorem q_lenX_210 (h : q_H) : q_Ca q_TB0 3 190 [.int 210] h (.inl (some (.int 2)), h) := ⟨60, rfl⟩
theorem q_lenX_211 (h : q_H) : q_Ca q_TB0 3 190 [.int 211] h (.inl (some (.int 3)), h) := ⟨60, rfl⟩
theorem q_lenX_212 (h : q_H) : q_Ca q_TB0 3 190 [.int 212] h (.inl (some (.int 3)), h) := ⟨60, rfl⟩
theorem q_lenX_213 (h : q_H) : q_Ca q_TB0 3 190 [.int 213] h (.inl (some (.int 3)), h) := ⟨60, rfl⟩
theorem q_lenX_214 (h : q_H) : q_Ca q_TB0 3 190 [.int 214] h (.inl (some (.int 2)), h) := ⟨60, rfl⟩
theorem q_lenX_215 (h : q_H) : q_Ca q_TB0 3 190 [.int 215] h (.inl (some (.int 2)), h) := ⟨60, rfl⟩
theorem q_lenX_216 (h : q_H) : q_Ca q_TB0 3 190 [.int 216] h (.inl (some (.int 2)), h) := ⟨60, rfl⟩
theorem q_lenX_217 (h : q_H) : q_Ca q_TB0 3 190 [.int 217] h (.inl (some (.int 2)), h) := ⟨60, rfl⟩
theorem q_lenX_218 (h : q_H) : q_Ca q_TB0 3 190 [.int 218] h (.inl (some (.int 2)), h) := ⟨60, rfl⟩
theorem q_lenX_219 (h : q_H) : q_Ca q_TB0 3 190 [.int 219] h (.inl (some (.int 3)), h) := ⟨60, rfl⟩
theorem q_lenX_220 (h : q_H) : q_Ca q_TB0 3 190 [.int 220] h (.inl (some (.int 3)), h) := ⟨60, rfl⟩
theorem q_lenX_221 (h : q_H) : q_Ca q_TB0 3 190 [.int 221] h (.inl (some (.int 3)), h) := ⟨60, rfl⟩
theorem q_lenX_222 (h : q_H) : q_Ca q_TB0 3 190 [.int 222] h (.inl (some (.int 2)), h) := ⟨60, rfl⟩
theorem q_lenX_223 (h : q_H) : q_Ca q_TB0 3 190 [.int 223] h (.inl (some (.int 2)), h) := ⟨60, rfl⟩
theorem q_lenX_224 (h : q_H) : q_Ca q_TB0 3 190 [.int 224] h (.inl (some (.int 2)), h) := ⟨60, rfl⟩
theorem q_lenX_225 (h : q_H) : q_Ca q_TB0 3 190 [.int 225] h (.inl (some (.int 2)), h) := ⟨60, rfl⟩
theorem q_lenX_226 (h : q_H) : q_Ca q_TB0 3 190 [.int 226] h (.inl (some (.int 2)), h) := ⟨60, rfl⟩
theorem q_lenX_227 (h : q_H) : q_Ca q_TB0 3 190 [.int 227] h (.inl (some (.int 3)), h) := ⟨60, rfl⟩
theorem q_lenX_228 (h : q_H) : q_Ca q_TB0 3 190 [.int 228] h (.inl (some (.int 3)), h) := ⟨60, rfl⟩
theorem q_lenX_229 (h : q_H) : q_Ca q_TB0 3 190 [.int 229] h (.inl (some (.int 3)), h) := ⟨60, rfl⟩
theorem q_lenX_230 (h : q_H) : q_Ca q_TB0 3 190 [.int 230] h (.inl (some (.int 2)), h) := ⟨60, rfl⟩
theorem q_lenX_231 (h : q_H) : q_Ca q_TB0 3 190 [.int 231] h (.inl (some (.int 2)), h) := ⟨60, rfl⟩
theorem q_lenX_232 (h : q_H) : q_Ca q_TB0 3 190 [.int 232] h (.inl (some (.int 1)), h) := ⟨60, rfl⟩
theorem q_lenX_233 (h : q_H) : q_Ca q_TB0 3 190 [.int 233] h (.inl (some (.int 1)), h) := ⟨60, rfl⟩
theorem q_lenX_234 (h : q_H) : q_Ca q_TB0 3 190 [.int 234] h (.inl (some (.int 1)), h) := ⟨60, rfl⟩
theorem q_lenX_235 (h : q_H) : q_Ca q_TB0 3 190 [.int 235] h (.inl (some (.int 1)), h) := ⟨60, rfl⟩
theorem q_lenX_236 (h : q_H) : q_Ca q_TB0 3 190 [.int 236] h (.inl (some (.int 1)), h) := ⟨60, rfl⟩
theorem q_lenX_237 (h : q_H) : q_Ca q_TB0 3 190 [.int 237] h (.inl (some (.int 1)), h) := ⟨60, rfl⟩
theorem q_lenX_238 (h : q_H) : q_Ca q_TB0 3 190 [.int 238] h (.inl (some (.int 1)), h) := ⟨60, rfl⟩
theorem q_lenX_239 (h : q_H) : q_Ca q_TB0 3 190 [.int 239] h (.inl (some (.int 1)), h) := ⟨60, rfl⟩
theorem q_lenX_240 (h : q_H) : q_Ca q_TB0 3 190 [.int 240] h (.inl (some (.int 1)), h) := ⟨60, rfl⟩
theorem q_lenX_241 (h : q_H) : q_Ca q_TB0 3 190 [.int 241] h (.inl (some (.int 1)), h) := ⟨60, rfl⟩
theorem q_lenX_242 (h : q_H) : q_Ca q_TB0 3 190 [.int 242] h (.inl (some (.int 1)), h) := ⟨60, rfl⟩
theorem q_lenX_243 (h : q_H) : q_Ca q_TB0 3 190 [.int 243] h (.inl (some (.int 1)), h) := ⟨60, rfl⟩
theorem q_lenX_244 (h : q_H) : q_Ca q_TB0 3 190 [.int 244] h (.inl (some (.int 1)), h) := ⟨60, rfl⟩
theorem q_lenX_245 (h : q_H) : q_Ca q_TB0 3 190 [.int 245] h (.inl (some (.int 1)), h) := ⟨60, rfl⟩
theorem q_lenX_246 (h : q_H) : q_Ca q_TB0 3 190 [.int 246] h (.inl (some (.int 1)), h) := ⟨60, rfl⟩
theorem q_lenX_247 (h : q_H) : q_Ca q_TB0 3 190 [.int 247] h (.inl (some (.int 1)), h) := ⟨60, rfl⟩
theorem q_lenX_248 (h : q_H) : q_Ca q_TB0 3 190 [.int 248] h (.inl (some (.int 1)), h) := ⟨60, rfl⟩
theorem q_lenX_249 (h : q_H) : q_Ca q_TB0 3 190 [.int 249] h (.inl (some (.int 1)), h) := ⟨60, rfl⟩
theorem q_lenX_250 (h : q_H) : q_Ca q_TB0 3 190 [.int 250] h (.inl (some (.int 1)), h) := ⟨60, rfl⟩
theorem q_lenX_251 (h : q_H) : q_Ca q_TB0 3 190 [.int 251] h (.inl (some (.int 1)), h) := ⟨60, rfl⟩
theorem q_lenX_252 (h : q_H) : q_Ca q_TB0 3 190 [.int 252] h (.inl (some (.int 1)), h) := ⟨60, rfl⟩
theorem q_lenX_253 (h : q_H) : q_Ca q_TB0 3 190 [.int 253] h (.inl (some (.int 1)), h) := ⟨60, rfl⟩
theorem q_lenX_254 (h : q_H) : q_Ca q_TB0 3 190 [.int 254] h (.inl (some (.int 1)), h) := ⟨60, rfl⟩
theorem q_lenX_255 (h : q_H) : q_Ca q_TB0 3 190 [.int 255] h (.inl (some (.int 1)), h) := ⟨60, rfl⟩
theorem q_lenXc0 (h : q_H) : ∀ j, 0 ≤ j → j ≤ 15 → q_Ca q_TB0 3 190 [.int (Int32.ofInt (0 + ((j : Nat) : Int)))] h (.inl (some (.int (q_len (Int32.ofInt (0 + (j : Int)))))), h) := by
  intro j h1 h2
  obtain ⟨i, rfl⟩ := Nat.exists_eq_add_of_le h1
  have h3 : i ≤ 15 := by omega
  match i, h3 with
  | 0, _ => exact q_lenX_0 h
  | 1, _ => exact q_lenX_1 h
  | 2, _ => exact q_lenX_2 h
  | 3, _ => exact q_lenX_3 h
  | 4, _ => exact q_lenX_4 h
  | 5, _ => exact q_lenX_5 h
  | 6, _ => exact q_lenX_6 h
  | 7, _ => exact q_lenX_7 h
  | 8, _ => exact q_lenX_8 h
  | 9, _ => exact q_lenX_9 h
  | 10, _ => exact q_lenX_10 h
  | 11, _ => exact q_lenX_11 h
  | 12, _ => exact q_lenX_12 h
  | 13, _ => exact q_lenX_13 h
  | 14, _ => exact q_lenX_14 h
  | 15, _ => exact q_lenX_15 h
  | i + 16, h3 => exact absurd h3 (by omega)
theorem q_lenXc1 (h : q_H) : ∀ j, 16 ≤ j → j ≤ 31 → q_Ca q_TB0 3 190 [.int (Int32.ofInt (0 + ((j : Nat) : Int)))] h (.inl (some (.int (q_len (Int32.ofInt (0 + (j : Int)))))), h) := by
  intro j h1 h2
  obtain ⟨i, rfl⟩ := Nat.exists_eq_add_of_le h1
  have h3 : i ≤ 15 := by omega
  match i, h3 with
  | 0, _ => exact q_lenX_16 h
  | 1, _ => exact q_lenX_17 h
  | 2, _ => exact q_lenX_18 h
  | 3, _ => exact q_lenX_19 h
  | 4, _ => exact q_lenX_20 h
  | 5, _ => exact q_lenX_21 h
  | 6, _ => exact q_lenX_22 h
  | 7, _ => exact q_lenX_23 h
  | 8, _ => exact q_lenX_24 h
  | 9, _ => exact q_lenX_25 h
  | 10, _ => exact q_lenX_26 h
  | 11, _ => exact q_lenX_27 h
  | 12, _ => exact q_lenX_28 h
  | 13, _ => exact q_lenX_29 h
  | 14, _ => exact q_lenX_30 h
  | 15, _ => exact q_lenX_31 h
  | i + 16, h3 => exact absurd h3 (by omega)
theorem q_lenXc2 (h : q_H) : ∀ j, 32 ≤ j → j ≤ 47 → q_Ca q_TB0 3 190 [.int (Int32.ofInt (0 + ((j : Nat) : Int)))] h (.inl (some (.int (q_len (Int32.ofInt (0 + (j : Int)))))), h) := by
  intro j h1 h2
  obtain ⟨i, rfl⟩ := Nat.exists_eq_add_of_le h1
  have h3 : i ≤ 15 := by omega
  match i, h3 with
  | 0, _ => exact q_lenX_32 h
  | 1, _ => exact q_lenX_33 h
  | 2, _ => exact q_lenX_34 h
  | 3, _ => exact q_lenX_35 h
  | 4, _ => exact q_lenX_36 h
  | 5, _ => exact q_lenX_37 h
  | 6, _ => exact q_lenX_38 h
  | 7, _ => exact q_lenX_39 h
  | 8, _ => exact q_lenX_40 h
  | 9, _ => exact q_lenX_41 h
  | 10, _ => exact q_lenX_42 h
  | 11, _ => exact q_lenX_43 h
  | 12, _ => exact q_lenX_44 h
  | 13, _ => exact q_lenX_45 h
  | 14, _ => exact q_lenX_46 h
  | 15, _ => exact q_lenX_47 h
  | i + 16, h3 => exact absurd h3 (by omega)
theorem q_lenXc3 (h : q_H) : ∀ j, 48 ≤ j → j ≤ 63 → q_Ca q_TB0 3 190 [.int (Int32.ofInt (0 + ((j : Nat) : Int)))] h (.inl (some (.int (q_len (Int32.ofInt (0 + (j : Int)))))), h) := by
  intro j h1 h2
  obtain ⟨i, rfl⟩ := Nat.exists_eq_add_of_le h1
  have h3 : i ≤ 15 := by omega
  match i, h3 with
  | 0, _ => exact q_lenX_48 h
  | 1, _ => exact q_lenX_49 h
  | 2, _ => exact q_lenX_50 h
  | 3, _ => exact q_lenX_51 h
  | 4, _ => exact q_lenX_52 h
  | 5, _ => exact q_lenX_53 h
  | 6, _ => exact q_lenX_54 h
  | 7, _ => exact q_lenX_55 h
  | 8, _ => exact q_lenX_56 h
  | 9, _ => exact q_lenX_57 h
  | 10, _ => exact q_lenX_58 h
  | 11, _ => exact q_lenX_59 h
  | 12, _ => exact q_lenX_60 h
  | 13, _ => exact q_lenX_61 h
  | 14, _ => exact q_lenX_62 h
  | 15, _ => exact q_lenX_63 h
  | i + 16, h3 => exact absurd h3 (by omega)
theorem q_lenXc4 (h : q_H) : ∀ j, 64 ≤ j → j ≤ 79 → q_Ca q_TB0 3 190 [.int (Int32.ofInt (0 + ((j : Nat) : Int)))] h (.inl (some (.int (q_len (Int32.ofInt (0 + (j : Int)))))), h) := by
  intro j h1 h2
  obtain ⟨i, rfl⟩ := Nat.exists_eq_add_of_le h1
  have h3 : i ≤ 15 := by omega
  match i, h3 with
  | 0, _ => exact q_lenX_64 h
  | 1, _ => exact q_lenX_65 h
  | 2, _ => exact q_lenX_66 h
  | 3, _ => exact q_lenX_67 h
  | 4, _ => exact q_lenX_68 h
  | 5, _ => exact q_lenX_69 h
  | 6, _ => exact q_lenX_70 h
  | 7, _ => exact q_lenX_71 h
  | 8, _ => exact q_lenX_72 h
  | 9, _ => exact q_lenX_73 h
  | 10, _ => exact q_lenX_74 h
  | 11, _ => exact q_lenX_75 h
  | 12, _ => exact q_lenX_76 h
  | 13, _ => exact q_lenX_77 h
  | 14, _ => exact q_lenX_78 h
  | 15, _ => exact q_lenX_79 h
  | i + 16, h3 => exact absurd h3 (by omega)
theorem q_lenXc5 (h : q_H) : ∀ j, 80 ≤ j → j ≤ 95 → q_Ca q_TB0 3 190 [.int (Int32.ofInt (0 + ((j : Nat) : Int)))] h (.inl (some (.int (q_len (Int32.ofInt (0 + (j : Int)))))), h) := by
  intro j h1 h2
  obtain ⟨i, rfl⟩ := Nat.exists_eq_add_of_le h1
  have h3 : i ≤ 15 := by omega
  match i, h3 with
  | 0, _ => exact q_lenX_80 h
  | 1, _ => exact q_lenX_81 h
  | 2, _ => exact q_lenX_82 h
  | 3, _ => exact q_lenX_83 h
  | 4, _ => exact q_lenX_84 h
  | 5, _ => exact q_lenX_85 h
  | 6, _ => exact q_lenX_86 h
  | 7, _ => exact q_lenX_87 h
  | 8, _ => exact q_lenX_88 h
  | 9, _ => exact q_lenX_89 h
  | 10, _ => exact q_lenX_90 h
  | 11, _ => exact q_lenX_91 h
  | 12, _ => exact q_lenX_92 h
  | 13, _ => exact q_lenX_93 h
  | 14, _ => exact q_lenX_94 h
  | 15, _ => exact q_lenX_95 h
  | i + 16, h3 => exact absurd h3 (by omega)
theorem q_lenXc6 (h : q_H) : ∀ j, 96 ≤ j → j ≤ 111 → q_Ca q_TB0 3 190 [.int (Int32.ofInt (0 + ((j : Nat) : Int)))] h (.inl (some (.int (q_len (Int32.ofInt (0 + (j : Int)))))), h) := by
  intro j h1 h2
  obtain ⟨i, rfl⟩ := Nat.exists_eq_add_of_le h1
  have h3 : i ≤ 15 := by omega
  match i, h3 with
  | 0, _ => exact q_lenX_96 h
  | 1, _ => exact q_lenX_97 h
  | 2, _ => exact q_lenX_98 h
  | 3, _ => exact q_lenX_99 h
  | 4, _ => exact q_lenX_100 h
  | 5, _ => exact q_lenX_101 h
  | 6, _ => exact q_lenX_102 h
  | 7, _ => exact q_lenX_103 h
  | 8, _ => exact q_lenX_104 h
  | 9, _ => exact q_lenX_105 h
  | 10, _ => exact q_lenX_106 h
  | 11, _ => exact q_lenX_107 h
  | 12, _ => exact q_lenX_108 h
  | 13, _ => exact q_lenX_109 h
  | 14, _ => exact q_lenX_110 h
  | 15, _ => exact q_lenX_111 h
  | i + 16, h3 => exact absurd h3 (by omega)
theorem q_lenXc7 (h : q_H) : ∀ j, 112 ≤ j → j ≤ 127 → q_Ca q_TB0 3 190 [.int (Int32.ofInt (0 + ((j : Nat) : Int)))] h (.inl (some (.int (q_len (Int32.ofInt (0 + (j : Int)))))), h) := by
  intro j h1 h2
  obtain ⟨i, rfl⟩ := Nat.exists_eq_add_of_le h1
  have h3 : i ≤ 15 := by omega
  match i, h3 with
  | 0, _ => exact q_lenX_112 h
  | 1, _ => exact q_lenX_113 h
  | 2, _ => exact q_lenX_114 h
  | 3, _ => exact q_lenX_115 h
  | 4, _ => exact q_lenX_116 h
  | 5, _ => exact q_lenX_117 h
  | 6, _ => exact q_lenX_118 h
  | 7, _ => exact q_lenX_119 h
  | 8, _ => exact q_lenX_120 h
  | 9, _ => exact q_lenX_121 h
  | 10, _ => exact q_lenX_122 h
  | 11, _ => exact q_lenX_123 h
  | 12, _ => exact q_lenX_124 h
  | 13, _ => exact q_lenX_125 h
  | 14, _ => exact q_lenX_126 h
  | 15, _ => exact q_lenX_127 h
  | i + 16, h3 => exact absurd h3 (by omega)
theorem q_lenXc8 (h : q_H) : ∀ j, 128 ≤ j → j ≤ 143 → q_Ca q_TB0 3 190 [.int (Int32.ofInt (0 + ((j : Nat) : Int)))] h (.inl (some (.int (q_len (Int32.ofInt (0 + (j : Int)))))), h) := by
  intro j h1 h2
  obtain ⟨i, rfl⟩ := Nat.exists_eq_add_of_le h1
  have h3 : i ≤ 15 := by omega
  match i, h3 with
  | 0, _ => exact q_lenX_128 h
  | 1, _ => exact q_lenX_129 h
  | 2, _ => exact q_lenX_130 h
  | 3, _ => exact q_lenX_131 h
  | 4, _ => exact q_lenX_132 h
  | 5, _ => exact q_lenX_133 h
  | 6, _ => exact q_lenX_134 h
  | 7, _ => exact q_lenX_135 h
  | 8, _ => exact q_lenX_136 h
  | 9, _ => exact q_lenX_137 h
  | 10, _ => exact q_lenX_138 h
  | 11, _ => exact q_lenX_139 h
  | 12, _ => exact q_lenX_140 h
  | 13, _ => exact q_lenX_141 h
  | 14, _ => exact q_lenX_142 h
  | 15, _ => exact q_lenX_143 h
  | i + 16, h3 => exact absurd h3 (by omega)
theorem q_lenXc9 (h : q_H) : ∀ j, 144 ≤ j → j ≤ 159 → q_Ca q_TB0 3 190 [.int (Int32.ofInt (0 + ((j : Nat) : Int)))] h (.inl (some (.int (q_len (Int32.ofInt (0 + (j : Int)))))), h) := by
  intro j h1 h2
  obtain ⟨i, rfl⟩ := Nat.exists_eq_add_of_le h1
  have h3 : i ≤ 15 := by omega
  match i, h3 with
  | 0, _ => exact q_lenX_144 h
  | 1, _ => exact q_lenX_145 h
  | 2, _ => exact q_lenX_146 h
  | 3, _ => exact q_lenX_147 h
  | 4, _ => exact q_lenX_148 h
  | 5, _ => exact q_lenX_149 h
  | 6, _ => exact q_lenX_150 h
  | 7, _ => exact q_lenX_151 h
  | 8, _ => exact q_lenX_152 h
  | 9, _ => exact q_lenX_153 h
  | 10, _ => exact q_lenX_154 h
  | 11, _ => exact q_lenX_155 h
  | 12, _ => exact q_lenX_156 h
  | 13, _ => exact q_lenX_157 h
  | 14, _ => exact q_lenX_158 h
  | 15, _ => exact q_lenX_159 h
  | i + 16, h3 => exact absurd h3 (by omega)
theorem q_lenXc10 (h : q_H) : ∀ j, 160 ≤ j → j ≤ 175 → q_Ca q_TB0 3 190 [.int (Int32.ofInt (0 + ((j : Nat) : Int)))] h (.inl (some (.int (q_len (Int32.ofInt (0 + (j : Int)))))), h) := by
  intro j h1 h2
  obtain ⟨i, rfl⟩ := Nat.exists_eq_add_of_le h1
  have h3 : i ≤ 15 := by omega
  match i, h3 with
  | 0, _ => exact q_lenX_160 h
  | 1, _ => exact q_lenX_161 h
  | 2, _ => exact q_lenX_162 h
  | 3, _ => exact q_lenX_163 h
  | 4, _ => exact q_lenX_164 h
  | 5, _ => exact q_lenX_165 h
  | 6, _ => exact q_lenX_166 h
  | 7, _ => exact q_lenX_167 h
  | 8, _ => exact q_lenX_168 h
  | 9, _ => exact q_lenX_169 h
  | 10, _ => exact q_lenX_170 h
  | 11, _ => exact q_lenX_171 h
  | 12, _ => exact q_lenX_172 h
  | 13, _ => exact q_lenX_173 h
  | 14, _ => exact q_lenX_174 h
  | 15, _ => exact q_lenX_175 h
  | i + 16, h3 => exact absurd h3 (by omega)
theorem q_lenXc11 (h : q_H) : ∀ j, 176 ≤ j → j ≤ 191 → q_Ca q_TB0 3 190 [.int (Int32.ofInt (0 + ((j : Nat) : Int)))] h (.inl (some (.int (q_len (Int32.ofInt (0 + (j : Int)))))), h) := by
  intro j h1 h2
  obtain ⟨i, rfl⟩ := Nat.exists_eq_add_of_le h1
  have h3 : i ≤ 15 := by omega
  match i, h3 with
  | 0, _ => exact q_lenX_176 h
  | 1, _ => exact q_lenX_177 h
  | 2, _ => exact q_lenX_178 h
  | 3, _ => exact q_lenX_179 h
  | 4, _ => exact q_lenX_180 h
  | 5, _ => exact q_lenX_181 h
  | 6, _ => exact q_lenX_182 h
  | 7, _ => exact q_lenX_183 h
  | 8, _ => exact q_lenX_184 h
  | 9, _ => exact q_lenX_185 h
  | 10, _ => exact q_lenX_186 h
  | 11, _ => exact q_lenX_187 h
  | 12, _ => exact q_lenX_188 h
  | 13, _ => exact q_lenX_189 h
  | 14, _ => exact q_lenX_190 h
  | 15, _ => exact q_lenX_191 h
  | i + 16, h3 => exact absurd h3 (by omega)
theorem q_lenXc12 (h : q_H) : ∀ j, 192 ≤ j → j ≤ 207 → q_Ca q_TB0 3 190 [.int (Int32.ofInt (0 + ((j : Nat) : Int)))] h (.inl (some (.int (q_len (Int32.ofInt (0 + (j : Int)))))), h) := by
  intro j h1 h2
  obtain ⟨i, rfl⟩ := Nat.exists_eq_add_of_le h1
  have h3 : i ≤ 15 := by omega
  match i, h3 with
  | 0, _ => exact q_lenX_192 h
  | 1, _ => exact q_lenX_193 h
  | 2, _ => exact q_lenX_194 h
  | 3, _ => exact q_lenX_195 h
  | 4, _ => exact q_lenX_196 h
  | 5, _ => exact q_lenX_197 h
  | 6, _ => exact q_lenX_198 h
  | 7, _ => exact q_lenX_199 h
  | 8, _ => exact q_lenX_200 h
  | 9, _ => exact q_lenX_201 h
  | 10, _ => exact q_lenX_202 h
  | 11, _ => exact q_lenX_203 h
  | 12, _ => exact q_lenX_204 h
  | 13, _ => exact q_lenX_205 h
  | 14, _ => exact q_lenX_206 h
  | 15, _ => exact q_lenX_207 h
  | i + 16, h3 => exact absurd h3 (by omega)
theorem q_lenXc13 (h : q_H) : ∀ j, 208 ≤ j → j ≤ 223 → q_Ca q_TB0 3 190 [.int (Int32.ofInt (0 + ((j : Nat) : Int)))] h (.inl (some (.int (q_len (Int32.ofInt (0 + (j : Int)))))), h) := by
  intro j h1 h2
  obtain ⟨i, rfl⟩ := Nat.exists_eq_add_of_le h1
  have h3 : i ≤ 15 := by omega
  match i, h3 with
  | 0, _ => exact q_lenX_208 h
  | 1, _ => exact q_lenX_209 h
  | 2, _ => exact q_lenX_210 h
  | 3, _ => exact q_lenX_211 h
  | 4, _ => exact q_lenX_212 h
  | 5, _ => exact q_lenX_213 h
  | 6, _ => exact q_lenX_214 h
  | 7, _ => exact q_lenX_215 h
  | 8, _ => exact q_lenX_216 h
  | 9, _ => exact q_lenX_217 h
  | 10, _ => exact q_lenX_218 h
  | 11, _ => exact q_lenX_219 h
  | 12, _ => exact q_lenX_220 h
  | 13, _ => exact q_lenX_221 h
  | 14, _ => exact q_lenX_222 h
  | 15, _ => exact q_lenX_223 h
  | i + 16, h3 => exact absurd h3 (by omega)
theorem q_lenXc14 (h : q_H) : ∀ j, 224 ≤ j → j ≤ 239 → q_Ca q_TB0 3 190 [.int (Int32.ofInt (0 + ((j : Nat) : Int)))] h (.inl (some (.int (q_len (Int32.ofInt (0 + (j : Int)))))), h) := by
  intro j h1 h2
  obtain ⟨i, rfl⟩ := Nat.exists_eq_add_of_le h1
  have h3 : i ≤ 15 := by omega
  match i, h3 with
  | 0, _ => exact q_lenX_224 h
  | 1, _ => exact q_lenX_225 h
  | 2, _ => exact q_lenX_226 h
  | 3, _ => exact q_lenX_227 h
  | 4, _ => exact q_lenX_228 h
  | 5, _ => exact q_lenX_229 h
  | 6, _ => exact q_lenX_230 h
  | 7, _ => exact q_lenX_231 h
  | 8, _ => exact q_lenX_232 h
  | 9, _ => exact q_lenX_233 h
  | 10, _ => exact q_lenX_234 h
  | 11, _ => exact q_lenX_235 h
  | 12, _ => exact q_lenX_236 h
  | 13, _ => exact q_lenX_237 h
  | 14, _ => exact q_lenX_238 h
  | 15, _ => exact q_lenX_239 h
  | i + 16, h3 => exact absurd h3 (by omega)
theorem q_lenXc15 (h : q_H) : ∀ j, 240 ≤ j → j ≤ 255 → q_Ca q_TB0 3 190 [.int (Int32.ofInt (0 + ((j : Nat) : Int)))] h (.inl (some (.int (q_len (Int32.ofInt (0 + (j : Int)))))), h) := by
  intro j h1 h2
  obtain ⟨i, rfl⟩ := Nat.exists_eq_add_of_le h1
  have h3 : i ≤ 15 := by omega
  match i, h3 with
  | 0, _ => exact q_lenX_240 h
  | 1, _ => exact q_lenX_241 h
  | 2, _ => exact q_lenX_242 h
  | 3, _ => exact q_lenX_243 h
  | 4, _ => exact q_lenX_244 h
  | 5, _ => exact q_lenX_245 h
  | 6, _ => exact q_lenX_246 h
  | 7, _ => exact q_lenX_247 h
  | 8, _ => exact q_lenX_248 h
  | 9, _ => exact q_lenX_249 h
  | 10, _ => exact q_lenX_250 h
  | 11, _ => exact q_lenX_251 h
  | 12, _ => exact q_lenX_252 h
  | 13, _ => exact q_lenX_253 h
  | 14, _ => exact q_lenX_254 h
  | 15, _ => exact q_lenX_255 h
  | i + 16, h3 => exact absurd h3 (by omega)
theorem q_lenX (h : q_H) : ∀ j, j ≤ 255 → q_Ca q_TB0 3 190 [.int (Int32.ofInt (0 + ((j : Nat) : Int)))] h (.inl (some (.int (q_len (Int32.ofInt (0 + (j : Int)))))), h) := by
  intro j hj
  by_cases h0 : j ≤ 15
  · exact q_lenXc0 h j (by omega) h0
  by_cases h1 : j ≤ 31
  · exact q_lenXc1 h j (by omega) h1
  by_cases h2 : j ≤ 47
  · exact q_lenXc2 h j (by omega) h2
  by_cases h3 : j ≤ 63
  · exact q_lenXc3 h j (by omega) h3
  by_cases h4 : j ≤ 79
  · exact q_lenXc4 h j (by omega) h4
  by_cases h5 : j ≤ 95
  · exact q_lenXc5 h j (by omega) h5
  by_cases h6 : j ≤ 111
  · exact q_lenXc6 h j (by omega) h6
  by_cases h7 : j ≤ 127
  · exact q_lenXc7 h j (by omega) h7
  by_cases h8 : j ≤ 143
  · exact q_lenXc8 h j (by omega) h8
  by_cases h9 : j ≤ 159
  · exact q_lenXc9 h j (by omega) h9
  by_cases h10 : j ≤ 175
  · exact q_lenXc10 h j (by omega) h10
  by_cases h11 : j ≤ 191
  · exact q_lenXc11 h j (by omega) h11
  by_cases h12 : j ≤ 207
  · exact q_lenXc12 h j (by omega) h12
  by_cases h13 : j ≤ 223
  · exact q_lenXc13 h j (by omega) h13
  by_cases h14 : j ≤ 239
  · exact q_lenXc14 h j (by omega) h14
  exact q_lenXc15 h j (by omega) hj
theorem q_lenX1 {c r : Int32} (h1 : 0 ≤ c.toInt) (h2 : c.toInt ≤ 255) (e : q_len c = r) (h : q_H) : q_Ca q_TB0 3 190 [.int c] h (.inl (some (.int r)), h) := by
  obtain ⟨j, hj, e2⟩ := q_en (l := 0) (n := 255) h1 h2
  rw [← e, e2]
  exact q_lenX h j hj
theorem q_lenM_0 (h : q_H) : q_Ca q_TB0 3 246 [.int 0] h (.inl (some (.int 2)), h) := ⟨60, rfl⟩
theorem q_lenM_1 (h : q_H) : q_Ca q_TB0 3 246 [.int 1] h (.inl (some (.int 2)), h) := ⟨60, rfl⟩
theorem q_lenM_2 (h : q_H) : q_Ca q_TB0 3 246 [.int 2] h (.inl (some (.int 2)), h) := ⟨60, rfl⟩
theorem q_lenM_3 (h : q_H) : q_Ca q_TB0 3 246 [.int 3] h (.inl (some (.int 3)), h) := ⟨60, rfl⟩
theorem q_lenM_4 (h : q_H) : q_Ca q_TB0 3 246 [.int 4] h (.inl (some (.int 3)), h) := ⟨60, rfl⟩
theorem q_lenM_5 (h : q_H) : q_Ca q_TB0 3 246 [.int 5] h (.inl (some (.int 3)), h) := ⟨60, rfl⟩
theorem q_lenM_6 (h : q_H) : q_Ca q_TB0 3 246 [.int 6] h (.inl (some (.int 2)), h) := ⟨60, rfl⟩
theorem q_lenM_7 (h : q_H) : q_Ca q_TB0 3 246 [.int 7] h (.inl (some (.int 2)), h) := ⟨60, rfl⟩
theorem q_lenM_8 (h : q_H) : q_Ca q_TB0 3 246 [.int 8] h (.inl (some (.int 2)), h) := ⟨60, rfl⟩
theorem q_lenM_9 (h : q_H) : q_Ca q_TB0 3 246 [.int 9] h (.inl (some (.int 2)), h) := ⟨60, rfl⟩
theorem q_lenM_10 (h : q_H) : q_Ca q_TB0 3 246 [.int 10] h (.inl (some (.int 2)), h) := ⟨60, rfl⟩
theorem q_lenM_11 (h : q_H) : q_Ca q_TB0 3 246 [.int 11] h (.inl (some (.int 3)), h) := ⟨60, rfl⟩
theorem q_lenM_12 (h : q_H) : q_Ca q_TB0 3 246 [.int 12] h (.inl (some (.int 3)), h) := ⟨60, rfl⟩
theorem q_lenM_13 (h : q_H) : q_Ca q_TB0 3 246 [.int 13] h (.inl (some (.int 3)), h) := ⟨60, rfl⟩
theorem q_lenM_14 (h : q_H) : q_Ca q_TB0 3 246 [.int 14] h (.inl (some (.int 2)), h) := ⟨60, rfl⟩
theorem q_lenM_15 (h : q_H) : q_Ca q_TB0 3 246 [.int 15] h (.inl (some (.int 2)), h) := ⟨60, rfl⟩
theorem q_lenM_16 (h : q_H) : q_Ca q_TB0 3 246 [.int 16] h (.inl (some (.int 2)), h) := ⟨60, rfl⟩
theorem q_lenM_17 (h : q_H) : q_Ca q_TB0 3 246 [.int 17] h (.inl (some (.int 2)), h) := ⟨60, rfl⟩
theorem q_lenM_18 (h : q_H) : q_Ca q_TB0 3 246 [.int 18] h (.inl (some (.int 2)), h) := ⟨60, rfl⟩
theorem q_lenM_19 (h : q_H) : q_Ca q_TB0 3 246 [.int 19] h (.inl (some (.int 3)), h) := ⟨60, rfl⟩
theorem q_lenM_20 (h : q_H) : q_Ca q_TB0 3 246 [.int 20] h (.inl (some (.int 3)), h) := ⟨60, rfl⟩
theorem q_lenM_21 (h : q_H) : q_Ca q_TB0 3 246 [.int 21] h (.inl (some (.int 3)), h) := ⟨60, rfl⟩
theorem q_lenM_22 (h : q_H) : q_Ca q_TB0 3 246 [.int 22] h (.inl (some (.int 2)), h) := ⟨60, rfl⟩
theorem q_lenM_23 (h : q_H) : q_Ca q_TB0 3 246 [.int 23] h (.inl (some (.int 2)), h) := ⟨60, rfl⟩
theorem q_lenM_24 (h : q_H) : q_Ca q_TB0 3 246 [.int 24] h (.inl (some (.int 2)), h) := ⟨60, rfl⟩
theorem q_lenM_25 (h : q_H) : q_Ca q_TB0 3 246 [.int 25] h (.inl (some (.int 2)), h) := ⟨60, rfl⟩
theorem q_lenM_26 (h : q_H) : q_Ca q_TB0 3 246 [.int 26] h (.inl (some (.int 2)), h) := ⟨60, rfl⟩
theorem q_lenM_27 (h : q_H) : q_Ca q_TB0 3 246 [.int 27] h (.inl (some (.int 3)), h) := ⟨60, rfl⟩
theorem q_lenM_28 (h : q_H) : q_Ca q_TB0 3 246 [.int 28] h (.inl (some (.int 3)), h) := ⟨60, rfl⟩
theorem q_lenM_29 (h : q_H) : q_Ca q_TB0 3 246 [.int 29] h (.inl (some (.int 3)), h) := ⟨60, rfl⟩
theorem q_lenM_30 (h : q_H) : q_Ca q_TB0 3 246 [.int 30] h (.inl (some (.int 2)), h) := ⟨60, rfl⟩
theorem q_lenM_31 (h : q_H) : q_Ca q_TB0 3 246 [.int 31] h (.inl (some (.int 2)), h) := ⟨60, rfl⟩
theorem q_lenM_32 (h : q_H) : q_Ca q_TB0 3 246 [.int 32] h (.inl (some (.int 2)), h) := ⟨60, rfl⟩
theorem q_lenM_33 (h : q_H) : q_Ca q_TB0 3 246 [.int 33] h (.inl (some (.int 2)), h) := ⟨60, rfl⟩
theorem q_lenM_34 (h : q_H) : q_Ca q_TB0 3 246 [.int 34] h (.inl (some (.int 2)), h) := ⟨60, rfl⟩
theorem q_lenM_35 (h : q_H) : q_Ca q_TB0 3 246 [.int 35] h (.inl (some (.int 3)), h) := ⟨60, rfl⟩
theorem q_lenM_36 (h : q_H) : q_Ca q_TB0 3 246 [.int 36] h (.inl (some (.int 3)), h) := ⟨60, rfl⟩
theorem q_lenM_37 (h : q_H) : q_Ca q_TB0 3 246 [.int 37] h (.inl (some (.int 3)), h) := ⟨60, rfl⟩
theorem q_lenM_38 (h : q_H) : q_Ca q_TB0 3 246 [.int 38] h (.inl (some (.int 2)), h) := ⟨60, rfl⟩
theorem q_lenM_39 (h : q_H) : q_Ca q_TB0 3 246 [.int 39] h (.inl (some (.int 2)), h) := ⟨60, rfl⟩
theorem q_lenM_40 (h : q_H) : q_Ca q_TB0 3 246 [.int 40] h (.inl (some (.int 2)), h) := ⟨60, rfl⟩
theorem q_lenM_41 (h : q_H) : q_Ca q_TB0 3 246 [.int 41] h (.inl (some (.int 2)), h) := ⟨60, rfl⟩
theorem q_lenM_42 (h : q_H) : q_Ca q_TB0 3 246 [.int 42] h (.inl (some (.int 2)), h) := ⟨60, rfl⟩
theorem q_lenM_43 (h : q_H) : q_Ca q_TB0 3 246 [.int 43] h (.inl (some (.int 3)), h) := ⟨60, rfl⟩
theorem q_lenM_44 (h : q_H) : q_Ca q_TB0 3 246 [.int 44] h (.inl (some (.int 3)), h) := ⟨60, rfl⟩
theorem q_lenM_45 (h : q_H) : q_Ca q_TB0 3 246 [.int 45] h (.inl (some (.int 3)), h) := ⟨60, rfl⟩
theorem q_lenM_46 (h : q_H) : q_Ca q_TB0 3 246 [.int 46] h (.inl (some (.int 2)), h) := ⟨60, rfl⟩
theorem q_lenM_47 (h : q_H) : q_Ca q_TB0 3 246 [.int 47] h (.inl (some (.int 2)), h) := ⟨60, rfl⟩
theorem q_lenM_48 (h : q_H) : q_Ca q_TB0 3 246 [.int 48] h (.inl (some (.int 2)), h) := ⟨60, rfl⟩
theorem q_lenM_49 (h : q_H) : q_Ca q_TB0 3 246 [.int 49] h (.inl (some (.int 2)), h) := ⟨60, rfl⟩
theorem q_lenM_50 (h : q_H) : q_Ca q_TB0 3 246 [.int 50] h (.inl (some (.int 2)), h) := ⟨60, rfl⟩
theorem q_lenM_51 (h : q_H) : q_Ca q_TB0 3 246 [.int 51] h (.inl (some (.int 3)), h) := ⟨60, rfl⟩
theorem q_lenM_52 (h : q_H) : q_Ca q_TB0 3 246 [.int 52] h (.inl (some (.int 3)), h) := ⟨60, rfl⟩
theorem q_lenM_53 (h : q_H) : q_Ca q_TB0 3 246 [.int 53] h (.inl (some (.int 3)), h) := ⟨60, rfl⟩
theorem q_lenM_54 (h : q_H) : q_Ca q_TB0 3 246 [.int 54] h (.inl (some (.int 2)), h) := ⟨60, rfl⟩
theorem q_lenM_55 (h : q_H) : q_Ca q_TB0 3 246 [.int 55] h (.inl (some (.int 2)), h) := ⟨60, rfl⟩
theorem q_lenM_56 (h : q_H) : q_Ca q_TB0 3 246 [.int 56] h (.inl (some (.int 2)), h) := ⟨60, rfl⟩
theorem q_lenM_57 (h : q_H) : q_Ca q_TB0 3 246 [.int 57] h (.inl (some (.int 2)), h) := ⟨60, rfl⟩
theorem q_lenM_58 (h : q_H) : q_Ca q_TB0 3 246 [.int 58] h (.inl (some (.int 2)), h) := ⟨60, rfl⟩
theorem q_lenM_59 (h : q_H) : q_Ca q_TB0 3 246 [.int 59] h (.inl (some (.int 3)), h) := ⟨60, rfl⟩
theorem q_lenM_60 (h : q_H) : q_Ca q_TB0 3 246 [.int 60] h (.inl (some (.int 3)), h) := ⟨60, rfl⟩
theorem q_lenM_61 (h : q_H) : q_Ca q_TB0 3 246 [.int 61] h (.inl (some (.int 3)), h) := ⟨60, rfl⟩
theorem q_lenM_62 (h : q_H) : q_Ca q_TB0 3 246 [.int 62] h (.inl (some (.int 2)), h) := ⟨60, rfl⟩
theorem q_lenM_63 (h : q_H) : q_Ca q_TB0 3 246 [.int 63] h (.inl (some (.int 2)), h) := ⟨60, rfl⟩
theorem q_lenM_64 (h : q_H) : q_Ca q_TB0 3 246 [.int 64] h (.inl (some (.int 2)), h) := ⟨60, rfl⟩
theorem q_lenM_65 (h : q_H) : q_Ca q_TB0 3 246 [.int 65] h (.inl (some (.int 2)), h) := ⟨60, rfl⟩
theorem q_lenM_66 (h : q_H) : q_Ca q_TB0 3 246 [.int 66] h (.inl (some (.int 2)), h) := ⟨60, rfl⟩
theorem q_lenM_67 (h : q_H) : q_Ca q_TB0 3 246 [.int 67] h (.inl (some (.int 3)), h) := ⟨60, rfl⟩
theorem q_lenM_68 (h : q_H) : q_Ca q_TB0 3 246 [.int 68] h (.inl (some (.int 3)), h) := ⟨60, rfl⟩
theorem q_lenM_69 (h : q_H) : q_Ca q_TB0 3 246 [.int 69] h (.inl (some (.int 3)), h) := ⟨60, rfl⟩
theorem q_lenM_70 (h : q_H) : q_Ca q_TB0 3 246 [.int 70] h (.inl (some (.int 2)), h) := ⟨60, rfl⟩
theorem q_lenM_71 (h : q_H) : q_Ca q_TB0 3 246 [.int 71] h (.inl (some (.int 2)), h) := ⟨60, rfl⟩
theorem q_lenM_72 (h : q_H) : q_Ca q_TB0 3 246 [.int 72] h (.inl (some (.int 2)), h) := ⟨60, rfl⟩
theorem q_lenM_73 (h : q_H) : q_Ca q_TB0 3 246 [.int 73] h (.inl (some (.int 2)), h) := ⟨60, rfl⟩
theorem q_lenM_74 (h : q_H) : q_Ca q_TB0 3 246 [.int 74] h (.inl (some (.int 2)), h) := ⟨60, rfl⟩
theorem q_lenM_75 (h : q_H) : q_Ca q_TB0 3 246 [.int 75] h (.inl (some (.int 3)), h) := ⟨60, rfl⟩
theorem q_lenM_76 (h : q_H) : q_Ca q_TB0 3 246 [.int 76] h (.inl (some (.int 3)), h) := ⟨60, rfl⟩
theorem q_lenM_77 (h : q_H) : q_Ca q_TB0 3 246 [.int 77] h (.inl (some (.int 3)), h) := ⟨60, rfl⟩
theorem q_lenM_78 (h : q_H) : q_Ca q_TB0 3 246 [.int 78] h (.inl (some (.int 2)), h) := ⟨60, rfl⟩
theorem q_lenM_79 (h : q_H) : q_Ca q_TB0 3 246 [.int 79] h (.inl (some (.int 2)), h) := ⟨60, rfl⟩
theorem q_lenM_80 (h : q_H) : q_Ca q_TB0 3 246 [.int 80] h (.inl (some (.int 2)), h) := ⟨60, rfl⟩
theorem q_lenM_81 (h : q_H) : q_Ca q_TB0 3 246 [.int 81] h (.inl (some (.int 2)), h) := ⟨60, rfl⟩
theorem q_lenM_82 (h : q_H) : q_Ca q_TB0 3 246 [.int 82] h (.inl (some (.int 2)), h) := ⟨60, rfl⟩
theorem q_lenM_83 (h : q_H) : q_Ca q_TB0 3 246 [.int 83] h (.inl (some (.int 3)), h) := ⟨60, rfl⟩
theorem q_lenM_84 (h : q_H) : q_Ca q_TB0 3 246 [.int 84] h (.inl (some (.int 3)), h) := ⟨60, rfl⟩
theorem q_lenM_85 (h : q_H) : q_Ca q_TB0 3 246 [.int 85] h (.inl (some (.int 3)), h) := ⟨60, rfl⟩
theorem q_lenM_86 (h : q_H) : q_Ca q_TB0 3 246 [.int 86] h (.inl (some (.int 2)), h) := ⟨60, rfl⟩
theorem q_lenM_87 (h : q_H) : q_Ca q_TB0 3 246 [.int 87] h (.inl (some (.int 2)), h) := ⟨60, rfl⟩
theorem q_lenM_88 (h : q_H) : q_Ca q_TB0 3 246 [.int 88] h (.inl (some (.int 2)), h) := ⟨60, rfl⟩
theorem q_lenM_89 (h : q_H) : q_Ca q_TB0 3 246 [.int 89] h (.inl (some (.int 2)), h) := ⟨60, rfl⟩
theorem q_lenM_90 (h : q_H) : q_Ca q_TB0 3 246 [.int 90] h (.inl (some (.int 2)), h) := ⟨60, rfl⟩
theorem q_lenM_91 (h : q_H) : q_Ca q_TB0 3 246 [.int 91] h (.inl (some (.int 3)), h) := ⟨60, rfl⟩
theorem q_lenM_92 (h : q_H) : q_Ca q_TB0 3 246 [.int 92] h (.inl (some (.int 3)), h) := ⟨60, rfl⟩
theorem q_lenM_93 (h : q_H) : q_Ca q_TB0 3 246 [.int 93] h (.inl (some (.int 3)), h) := ⟨60, rfl⟩
theorem q_lenM_94 (h : q_H) : q_Ca q_TB0 3 246 [.int 94] h (.inl (some (.int 2)), h) := ⟨60, rfl⟩
theorem q_lenM_95 (h : q_H) : q_Ca q_TB0 3 246 [.int 95] h (.inl (some (.int 2)), h) := ⟨60, rfl⟩
theorem q_lenM_96 (h : q_H) : q_Ca q_TB0 3 246 [.int 96] h (.inl (some (.int 2)), h) := ⟨60, rfl⟩
theorem q_lenM_97 (h : q_H) : q_Ca q_TB0 3 246 [.int 97] h (.inl (some (.int 2)), h) := ⟨60, rfl⟩
theorem q_lenM_98 (h : q_H) : q_Ca q_TB0 3 246 [.int 98] h (.inl (some (.int 2)), h) := ⟨60, rfl⟩
theorem q_lenM_99 (h : q_H) : q_Ca q_TB0 3 246 [.int 99] h (.inl (some (.int 3)), h) := ⟨60, rfl⟩
theorem q_lenM_100 (h : q_H) : q_Ca q_TB0 3 246 [.int 100] h (.inl (some (.int 3)), h) := ⟨60, rfl⟩
theorem q_lenM_101 (h : q_H) : q_Ca q_TB0 3 246 [.int 101] h (.inl (some (.int 3)), h) := ⟨60, rfl⟩
theorem q_lenM_102 (h : q_H) : q_Ca q_TB0 3 246 [.int 102] h (.inl (some (.int 2)), h) := ⟨60, rfl⟩
theorem q_lenM_103 (h : q_H) : q_Ca q_TB0 3 246 [.int 103] h (.inl (some (.int 2)), h) := ⟨60, rfl⟩
theorem q_lenM_104 (h : q_H) : q_Ca q_TB0 3 246 [.int 104] h (.inl (some (.int 2)), h) := ⟨60, rfl⟩
theorem q_lenM_105 (h : q_H) : q_Ca q_TB0 3 246 [.int 105] h (.inl (some (.int 2)), h) := ⟨60, rfl⟩
theorem q_lenM_106 (h : q_H) : q_Ca q_TB0 3 246 [.int 106] h (.inl (some (.int 2)), h) := ⟨60, rfl⟩
theorem q_lenM_107 (h : q_H) : q_Ca q_TB0 3 246 [.int 107] h (.inl (some (.int 3)), h) := ⟨60, rfl⟩
theorem q_lenM_108 (h : q_H) : q_Ca q_TB0 3 246 [.int 108] h (.inl (some (.int 3)), h) := ⟨60, rfl⟩
theorem q_lenM_109 (h : q_H) : q_Ca q_TB0 3 246 [.int 109] h (.inl (some (.int 3)), h) := ⟨60, rfl⟩
theorem q_lenM_110 (h : q_H) : q_Ca q_TB0 3 246 [.int 110] h (.inl (some (.int 2)), h) := ⟨60, rfl⟩
theorem q_lenM_111 (h : q_H) : q_Ca q_TB0 3 246 [.int 111] h (.inl (some (.int 2)), h) := ⟨60, rfl⟩
theorem q_lenM_112 (h : q_H) : q_Ca q_TB0 3 246 [.int 112] h (.inl (some (.int 2)), h) := ⟨60, rfl⟩
theorem q_lenM_113 (h : q_H) : q_Ca q_TB0 3 246 [.int 113] h (.inl (some (.int 2)), h) := ⟨60, rfl⟩
theorem q_lenM_114 (h : q_H) : q_Ca q_TB0 3 246 [.int 114] h (.inl (some (.int 2)), h) := ⟨60, rfl⟩
theorem q_lenM_115 (h : q_H) : q_Ca q_TB0 3 246 [.int 115] h (.inl (some (.int 3)), h) := ⟨60, rfl⟩
theorem q_lenM_116 (h : q_H) : q_Ca q_TB0 3 246 [.int 116] h (.inl (some (.int 3)), h) := ⟨60, rfl⟩
theorem q_lenM_117 (h : q_H) : q_Ca q_TB0 3 246 [.int 117] h (.inl (some (.int 3)), h) := ⟨60, rfl⟩
theorem q_lenM_118 (h : q_H) : q_Ca q_TB0 3 246 [.int 118] h (.inl (some (.int 2)), h) := ⟨60, rfl⟩
theorem q_lenM_119 (h : q_H) : q_Ca q_TB0 3 246 [.int 119] h (.inl (some (.int 2)), h) := ⟨60, rfl⟩
theorem q_lenM_120 (h : q_H) : q_Ca q_TB0 3 246 [.int 120] h (.inl (some (.int 2)), h) := ⟨60, rfl⟩
theorem q_lenM_121 (h : q_H) : q_Ca q_TB0 3 246 [.int 121] h (.inl (some (.int 2)), h) := ⟨60, rfl⟩
theorem q_lenM_122 (h : q_H) : q_Ca q_TB0 3 246 [.int 122] h (.inl (some (.int 2)), h) := ⟨60, rfl⟩
theorem q_lenM_123 (h : q_H) : q_Ca q_TB0 3 246 [.int 123] h (.inl (some (.int 3)), h) := ⟨60, rfl⟩
theorem q_lenM_124 (h : q_H) : q_Ca q_TB0 3 246 [.int 124] h (.inl (some (.int 3)), h) := ⟨60, rfl⟩
theorem q_lenM_125 (h : q_H) : q_Ca q_TB0 3 246 [.int 125] h (.inl (some (.int 3)), h) := ⟨60, rfl⟩
theorem q_lenM_126 (h : q_H) : q_Ca q_TB0 3 246 [.int 126] h (.inl (some (.int 2)), h) := ⟨60, rfl⟩
theorem q_lenM_127 (h : q_H) : q_Ca q_TB0 3 246 [.int 127] h (.inl (some (.int 2)), h) := ⟨60, rfl⟩
theorem q_lenM_128 (h : q_H) : q_Ca q_TB0 3 246 [.int 128] h (.inl (some (.int 1)), h) := ⟨60, rfl⟩
theorem q_lenM_129 (h : q_H) : q_Ca q_TB0 3 246 [.int 129] h (.inl (some (.int 1)), h) := ⟨60, rfl⟩
theorem q_lenM_130 (h : q_H) : q_Ca q_TB0 3 246 [.int 130] h (.inl (some (.int 1)), h) := ⟨60, rfl⟩
theorem q_lenM_131 (h : q_H) : q_Ca q_TB0 3 246 [.int 131] h (.inl (some (.int 1)), h) := ⟨60, rfl⟩
theorem q_lenM_132 (h : q_H) : q_Ca q_TB0 3 246 [.int 132] h (.inl (some (.int 1)), h) := ⟨60, rfl⟩
theorem q_lenM_133 (h : q_H) : q_Ca q_TB0 3 246 [.int 133] h (.inl (some (.int 1)), h) := ⟨60, rfl⟩
theorem q_lenM_134 (h : q_H) : q_Ca q_TB0 3 246 [.int 134] h (.inl (some (.int 1)), h) := ⟨60, rfl⟩
theorem q_lenM_135 (h : q_H) : q_Ca q_TB0 3 246 [.int 135] h (.inl (some (.int 1)), h) := ⟨60, rfl⟩
theorem q_lenM_136 (h : q_H) : q_Ca q_TB0 3 246 [.int 136] h (.inl (some (.int 1)), h) := ⟨60, rfl⟩
theorem q_lenM_137 (h : q_H) : q_Ca q_TB0 3 246 [.int 137] h (.inl (some (.int 1)), h) := ⟨60, rfl⟩
theorem q_lenM_138 (h : q_H) : q_Ca q_TB0 3 246 [.int 138] h (.inl (some (.int 1)), h) := ⟨60, rfl⟩
theorem q_lenM_139 (h : q_H) : q_Ca q_TB0 3 246 [.int 139] h (.inl (some (.int 1)), h) := ⟨60, rfl⟩
theorem q_lenM_140 (h : q_H) : q_Ca q_TB0 3 246 [.int 140] h (.inl (some (.int 1)), h) := ⟨60, rfl⟩
theorem q_lenM_141 (h : q_H) : q_Ca q_TB0 3 246 [.int 141] h (.inl (some (.int 1)), h) := ⟨60, rfl⟩
theorem q_lenM_142 (h : q_H) : q_Ca q_TB0 3 246 [.int 142] h (.inl (some (.int 1)), h) := ⟨60, rfl⟩
theorem q_lenM_143 (h : q_H) : q_Ca q_TB0 3 246 [.int 143] h (.inl (some (.int 1)), h) := ⟨60, rfl⟩
theorem q_lenM_144 (h : q_H) : q_Ca q_TB0 3 246 [.int 144] h (.inl (some (.int 1)), h) := ⟨60, rfl⟩
theorem q_lenM_145 (h : q_H) : q_Ca q_TB0 3 246 [.int 145] h (.inl (some (.int 1)), h) := ⟨60, rfl⟩
theorem q_lenM_146 (h : q_H) : q_Ca q_TB0 3 246 [.int 146] h (.inl (some (.int 1)), h) := ⟨60, rfl⟩
theorem q_lenM_147 (h : q_H) : q_Ca q_TB0 3 246 [.int 147] h (.inl (some (.int 1)), h) := ⟨60, rfl⟩
theorem q_lenM_148 (h : q_H) : q_Ca q_TB0 3 246 [.int 148] h (.inl (some (.int 1)), h) := ⟨60, rfl⟩
theorem q_lenM_149 (h : q_H) : q_Ca q_TB0 3 246 [.int 149] h (.inl (some (.int 1)), h) := ⟨60, rfl⟩
theorem q_lenM_150 (h : q_H) : q_Ca q_TB0 3 246 [.int 150] h (.inl (some (.int 1)), h) := ⟨60, rfl⟩
theorem q_lenM_151 (h : q_H) : q_Ca q_TB0 3 246 [.int 151] h (.inl (some (.int 1)), h) := ⟨60, rfl⟩
theorem q_lenM_152 (h : q_H) : q_Ca q_TB0 3 246 [.int 152] h (.inl (some (.int 1)), h) := ⟨60, rfl⟩
theorem q_lenM_153 (h : q_H) : q_Ca q_TB0 3 246 [.int 153] h (.inl (some (.int 1)), h) := ⟨60, rfl⟩
theorem q_lenM_154 (h : q_H) : q_Ca q_TB0 3 246 [.int 154] h (.inl (some (.int 1)), h) := ⟨60, rfl⟩
theorem q_lenM_155 (h : q_H) : q_Ca q_TB0 3 246 [.int 155] h (.inl (some (.int 1)), h) := ⟨60, rfl⟩
theorem q_lenM_156 (h : q_H) : q_Ca q_TB0 3 246 [.int 156] h (.inl (some (.int 1)), h) := ⟨60, rfl⟩
theorem q_lenM_157 (h : q_H) : q_Ca q_TB0 3 246 [.int 157] h (.inl (some (.int 3)), h) := ⟨60, rfl⟩
theorem q_lenM_158 (h : q_H) : q_Ca q_TB0 3 246 [.int 158] h (.inl (some (.int 3)), h) := ⟨60, rfl⟩
theorem q_lenM_159 (h : q_H) : q_Ca q_TB0 3 246 [.int 159] h (.inl (some (.int 3)), h) := ⟨60, rfl⟩
theorem q_lenM_160 (h : q_H) : q_Ca q_TB0 3 246 [.int 160] h (.inl (some (.int 2)), h) := ⟨60, rfl⟩
theorem q_lenM_161 (h : q_H) : q_Ca q_TB0 3 246 [.int 161] h (.inl (some (.int 2)), h) := ⟨60, rfl⟩
theorem q_lenM_162 (h : q_H) : q_Ca q_TB0 3 246 [.int 162] h (.inl (some (.int 2)), h) := ⟨60, rfl⟩
theorem q_lenM_163 (h : q_H) : q_Ca q_TB0 3 246 [.int 163] h (.inl (some (.int 2)), h) := ⟨60, rfl⟩
theorem q_lenM_164 (h : q_H) : q_Ca q_TB0 3 246 [.int 164] h (.inl (some (.int 2)), h) := ⟨60, rfl⟩
theorem q_lenM_165 (h : q_H) : q_Ca q_TB0 3 246 [.int 165] h (.inl (some (.int 2)), h) := ⟨60, rfl⟩
theorem q_lenM_166 (h : q_H) : q_Ca q_TB0 3 246 [.int 166] h (.inl (some (.int 2)), h) := ⟨60, rfl⟩
theorem q_lenM_167 (h : q_H) : q_Ca q_TB0 3 246 [.int 167] h (.inl (some (.int 2)), h) := ⟨60, rfl⟩
theorem q_lenM_168 (h : q_H) : q_Ca q_TB0 3 246 [.int 168] h (.inl (some (.int 1)), h) := ⟨60, rfl⟩
theorem q_lenM_169 (h : q_H) : q_Ca q_TB0 3 246 [.int 169] h (.inl (some (.int 1)), h) := ⟨60, rfl⟩
theorem q_lenM_170 (h : q_H) : q_Ca q_TB0 3 246 [.int 170] h (.inl (some (.int 1)), h) := ⟨60, rfl⟩
theorem q_lenM_171 (h : q_H) : q_Ca q_TB0 3 246 [.int 171] h (.inl (some (.int 1)), h) := ⟨60, rfl⟩
theorem q_lenM_172 (h : q_H) : q_Ca q_TB0 3 246 [.int 172] h (.inl (some (.int 1)), h) := ⟨60, rfl⟩
theorem q_lenM_173 (h : q_H) : q_Ca q_TB0 3 246 [.int 173] h (.inl (some (.int 1)), h) := ⟨60, rfl⟩
theorem q_lenM_174 (h : q_H) : q_Ca q_TB0 3 246 [.int 174] h (.inl (some (.int 1)), h) := ⟨60, rfl⟩
theorem q_lenM_175 (h : q_H) : q_Ca q_TB0 3 246 [.int 175] h (.inl (some (.int 1)), h) := ⟨60, rfl⟩
theorem q_lenM_176 (h : q_H) : q_Ca q_TB0 3 246 [.int 176] h (.inl (some (.int 1)), h) := ⟨60, rfl⟩
theorem q_lenM_177 (h : q_H) : q_Ca q_TB0 3 246 [.int 177] h (.inl (some (.int 1)), h) := ⟨60, rfl⟩
theorem q_lenM_178 (h : q_H) : q_Ca q_TB0 3 246 [.int 178] h (.inl (some (.int 1)), h) := ⟨60, rfl⟩
theorem q_lenM_179 (h : q_H) : q_Ca q_TB0 3 246 [.int 179] h (.inl (some (.int 1)), h) := ⟨60, rfl⟩
theorem q_lenM_180 (h : q_H) : q_Ca q_TB0 3 246 [.int 180] h (.inl (some (.int 1)), h) := ⟨60, rfl⟩
theorem q_lenM_181 (h : q_H) : q_Ca q_TB0 3 246 [.int 181] h (.inl (some (.int 1)), h) := ⟨60, rfl⟩
theorem q_lenM_182 (h : q_H) : q_Ca q_TB0 3 246 [.int 182] h (.inl (some (.int 1)), h) := ⟨60, rfl⟩
theorem q_lenM_183 (h : q_H) : q_Ca q_TB0 3 246 [.int 183] h (.inl (some (.int 1)), h) := ⟨60, rfl⟩
theorem q_lenM_184 (h : q_H) : q_Ca q_TB0 3 246 [.int 184] h (.inl (some (.int 1)), h) := ⟨60, rfl⟩
theorem q_lenM_185 (h : q_H) : q_Ca q_TB0 3 246 [.int 185] h (.inl (some (.int 1)), h) := ⟨60, rfl⟩
theorem q_lenM_186 (h : q_H) : q_Ca q_TB0 3 246 [.int 186] h (.inl (some (.int 1)), h) := ⟨60, rfl⟩
theorem q_lenM_187 (h : q_H) : q_Ca q_TB0 3 246 [.int 187] h (.inl (some (.int 1)), h) := ⟨60, rfl⟩
theorem q_lenM_188 (h : q_H) : q_Ca q_TB0 3 246 [.int 188] h (.inl (some (.int 1)), h) := ⟨60, rfl⟩
theorem q_lenM_189 (h : q_H) : q_Ca q_TB0 3 246 [.int 189] h (.inl (some (.int 1)), h) := ⟨60, rfl⟩
theorem q_lenM_190 (h : q_H) : q_Ca q_TB0 3 246 [.int 190] h (.inl (some (.int 1)), h) := ⟨60, rfl⟩
theorem q_lenM_191 (h : q_H) : q_Ca q_TB0 3 246 [.int 191] h (.inl (some (.int 1)), h) := ⟨60, rfl⟩
theorem q_lenM_192 (h : q_H) : q_Ca q_TB0 3 246 [.int 192] h (.inl (some (.int 2)), h) := ⟨60, rfl⟩
theorem q_lenM_193 (h : q_H) : q_Ca q_TB0 3 246 [.int 193] h (.inl (some (.int 2)), h) := ⟨60, rfl⟩
theorem q_lenM_194 (h : q_H) : q_Ca q_TB0 3 246 [.int 194] h (.inl (some (.int 2)), h) := ⟨60, rfl⟩
theorem q_lenM_195 (h : q_H) : q_Ca q_TB0 3 246 [.int 195] h (.inl (some (.int 3)), h) := ⟨60, rfl⟩
theorem q_lenM_196 (h : q_H) : q_Ca q_TB0 3 246 [.int 196] h (.inl (some (.int 3)), h) := ⟨60, rfl⟩
theorem q_lenM_197 (h : q_H) : q_Ca q_TB0 3 246 [.int 197] h (.inl (some (.int 3)), h) := ⟨60, rfl⟩
theorem q_lenM_198 (h : q_H) : q_Ca q_TB0 3 246 [.int 198] h (.inl (some (.int 2)), h) := ⟨60, rfl⟩
theorem q_lenM_199 (h : q_H) : q_Ca q_TB0 3 246 [.int 199] h (.inl (some (.int 2)), h) := ⟨60, rfl⟩
theorem q_lenM_200 (h : q_H) : q_Ca q_TB0 3 246 [.int 200] h (.inl (some (.int 2)), h) := ⟨60, rfl⟩
theorem q_lenM_201 (h : q_H) : q_Ca q_TB0 3 246 [.int 201] h (.inl (some (.int 2)), h) := ⟨60, rfl⟩
theorem q_lenM_202 (h : q_H) : q_Ca q_TB0 3 246 [.int 202] h (.inl (some (.int 2)), h) := ⟨60, rfl⟩
theorem q_lenM_203 (h : q_H) : q_Ca q_TB0 3 246 [.int 203] h (.inl (some (.int 3)), h) := ⟨60, rfl⟩
theorem q_lenM_204 (h : q_H) : q_Ca q_TB0 3 246 [.int 204] h (.inl (some (.int 3)), h) := ⟨60, rfl⟩
theorem q_lenM_205 (h : q_H) : q_Ca q_TB0 3 246 [.int 205] h (.inl (some (.int 3)), h) := ⟨60, rfl⟩
theorem q_lenM_206 (h : q_H) : q_Ca q_TB0 3 246 [.int 206] h (.inl (some (.int 2)), h) := ⟨60, rfl⟩
theorem q_lenM_207 (h : q_H) : q_Ca q_TB0 3 246 [.int 207] h (.inl (some (.int 2)), h) := ⟨60, rfl⟩
theorem q_lenM_208 (h : q_H) : q_Ca q_TB0 3 246 [.int 208] h (.inl (some (.int 2)), h) := ⟨60, rfl⟩
theorem q_lenM_209 (h : q_H) : q_Ca q_TB0 3 246 [.int 209] h (.inl (some (.int 2)), h) := ⟨60, rfl⟩
theorem q_lenM_210 (h : q_H) : q_Ca q_TB0 3 246 [.int 210] h (.inl (some (.int 2)), h) := ⟨60, rfl⟩
theorem q_lenM_211 (h : q_H) : q_Ca q_TB0 3 246 [.int 211] h (.inl (some (.int 3)), h) := ⟨60, rfl⟩
theorem q_lenM_212 (h : q_H) : q_Ca q_TB0 3 246 [.int 212] h (.inl (some (.int 3)), h) := ⟨60, rfl⟩
theorem q_lenM_213 (h : q_H) : q_Ca q_TB0 3 246 [.int 213] h (.inl (some (.int 3)), h) := ⟨60, rfl⟩
theorem q_lenM_214 (h : q_H) : q_Ca q_TB0 3 246 [.int 214] h (.inl (some (.int 2)), h) := ⟨60, rfl⟩
theorem q_lenM_215 (h : q_H) : q_Ca q_TB0 3 246 [.int 215] h (.inl (some (.int 2)), h) := ⟨60, rfl⟩
theorem q_lenM_216 (h : q_H) : q_Ca q_TB0 3 246 [.int 216] h (.inl (some (.int 2)), h) := ⟨60, rfl⟩
theorem q_lenM_217 (h : q_H) : q_Ca q_TB0 3 246 [.int 217] h (.inl (some (.int 2)), h) := ⟨60, rfl⟩
theorem q_lenM_218 (h : q_H) : q_Ca q_TB0 3 246 [.int 218] h (.inl (some (.int 2)), h) := ⟨60, rfl⟩
theorem q_lenM_219 (h : q_H) : q_Ca q_TB0 3 246 [.int 219] h (.inl (some (.int 3)), h) := ⟨60, rfl⟩
theorem q_lenM_220 (h : q_H) : q_Ca q_TB0 3 246 [.int 220] h (.inl (some (.int 3)), h) := ⟨60, rfl⟩
theorem q_lenM_221 (h : q_H) : q_Ca q_TB0 3 246 [.int 221] h (.inl (some (.int 3)), h) := ⟨60, rfl⟩
theorem q_lenM_222 (h : q_H) : q_Ca q_TB0 3 246 [.int 222] h (.inl (some (.int 2)), h) := ⟨60, rfl⟩
theorem q_lenM_223 (h : q_H) : q_Ca q_TB0 3 246 [.int 223] h (.inl (some (.int 2)), h) := ⟨60, rfl⟩
theorem q_lenM_224 (h : q_H) : q_Ca q_TB0 3 246 [.int 224] h (.inl (some (.int 2)), h) := ⟨60, rfl⟩
theorem q_lenM_225 (h : q_H) : q_Ca q_TB0 3 246 [.int 225] h (.inl (some (.int 2)), h) := ⟨60, rfl⟩
theorem q_lenM_226 (h : q_H) : q_Ca q_TB0 3 246 [.int 226] h (.inl (some (.int 2)), h) := ⟨60, rfl⟩
theorem q_lenM_227 (h : q_H) : q_Ca q_TB0 3 246 [.int 227] h (.inl (some (.int 3)), h) := ⟨60, rfl⟩
theorem q_lenM_228 (h : q_H) : q_Ca q_TB0 3 246 [.int 228] h (.inl (some (.int 3)), h) := ⟨60, rfl⟩
theorem q_lenM_229 (h : q_H) : q_Ca q_TB0 3 246 [.int 229] h (.inl (some (.int 3)), h) := ⟨60, rfl⟩
theorem q_lenM_230 (h : q_H) : q_Ca q_TB0 3 246 [.int 230] h (.inl (some (.int 2)), h) := ⟨60, rfl⟩
theorem q_lenM_231 (h : q_H) : q_Ca q_TB0 3 246 [.int 231] h (.inl (some (.int 2)), h) := ⟨60, rfl⟩
theorem q_lenM_232 (h : q_H) : q_Ca q_TB0 3 246 [.int 232] h (.inl (some (.int 1)), h) := ⟨60, rfl⟩
theorem q_lenM_233 (h : q_H) : q_Ca q_TB0 3 246 [.int 233] h (.inl (some (.int 1)), h) := ⟨60, rfl⟩
theorem q_lenM_234 (h : q_H) : q_Ca q_TB0 3 246 [.int 234] h (.inl (some (.int 1)), h) := ⟨60, rfl⟩
theorem q_lenM_235 (h : q_H) : q_Ca q_TB0 3 246 [.int 235] h (.inl (some (.int 1)), h) := ⟨60, rfl⟩
theorem q_lenM_236 (h : q_H) : q_Ca q_TB0 3 246 [.int 236] h (.inl (some (.int 1)), h) := ⟨60, rfl⟩
theorem q_lenM_237 (h : q_H) : q_Ca q_TB0 3 246 [.int 237] h (.inl (some (.int 1)), h) := ⟨60, rfl⟩
theorem q_lenM_238 (h : q_H) : q_Ca q_TB0 3 246 [.int 238] h (.inl (some (.int 1)), h) := ⟨60, rfl⟩
theorem q_lenM_239 (h : q_H) : q_Ca q_TB0 3 246 [.int 239] h (.inl (some (.int 1)), h) := ⟨60, rfl⟩
theorem q_lenM_240 (h : q_H) : q_Ca q_TB0 3 246 [.int 240] h (.inl (some (.int 1)), h) := ⟨60, rfl⟩
theorem q_lenM_241 (h : q_H) : q_Ca q_TB0 3 246 [.int 241] h (.inl (some (.int 1)), h) := ⟨60, rfl⟩
theorem q_lenM_242 (h : q_H) : q_Ca q_TB0 3 246 [.int 242] h (.inl (some (.int 1)), h) := ⟨60, rfl⟩
theorem q_lenM_243 (h : q_H) : q_Ca q_TB0 3 246 [.int 243] h (.inl (some (.int 1)), h) := ⟨60, rfl⟩
theorem q_lenM_244 (h : q_H) : q_Ca q_TB0 3 246 [.int 244] h (.inl (some (.int 1)), h) := ⟨60, rfl⟩
theorem q_lenM_245 (h : q_H) : q_Ca q_TB0 3 246 [.int 245] h (.inl (some (.int 1)), h) := ⟨60, rfl⟩
theorem q_lenM_246 (h : q_H) : q_Ca q_TB0 3 246 [.int 246] h (.inl (some (.int 1)), h) := ⟨60, rfl⟩
theorem q_lenM_247 (h : q_H) : q_Ca q_TB0 3 246 [.int 247] h (.inl (some (.int 1)), h) := ⟨60, rfl⟩
theorem q_lenM_248 (h : q_H) : q_Ca q_TB0 3 246 [.int 248] h (.inl (some (.int 1)), h) := ⟨60, rfl⟩
theorem q_lenM_249 (h : q_H) : q_Ca q_TB0 3 246 [.int 249] h (.inl (some (.int 1)), h) := ⟨60, rfl⟩
theorem q_lenM_250 (h : q_H) : q_Ca q_TB0 3 246 [.int 250] h (.inl (some (.int 1)), h) := ⟨60, rfl⟩
theorem q_lenM_251 (h : q_H) : q_Ca q_TB0 3 246 [.int 251] h (.inl (some (.int 1)), h) := ⟨60, rfl⟩
theorem q_lenM_252 (h : q_H) : q_Ca q_TB0 3 246 [.int 252] h (.inl (some (.int 1)), h) := ⟨60, rfl⟩
theorem q_lenM_253 (h : q_H) : q_Ca q_TB0 3 246 [.int 253] h (.inl (some (.int 1)), h) := ⟨60, rfl⟩
theorem q_lenM_254 (h : q_H) : q_Ca q_TB0 3 246 [.int 254] h (.inl (some (.int 1)), h) := ⟨60, rfl⟩
theorem q_lenM_255 (h : q_H) : q_Ca q_TB0 3 246 [.int 255] h (.inl (some (.int 1)), h) := ⟨60, rfl⟩
theorem q_lenMc0 (h : q_H) : ∀ j, 0 ≤ j → j ≤ 15 → q_Ca q_TB0 3 246 [.int (Int32.ofInt (0 + ((j : Nat) : Int)))] h (.inl (some (.int (q_len (Int32.ofInt (0 + (j : Int)))))), h) := by
  intro j h1 h2
  obtain ⟨i, rfl⟩ := Nat.exists_eq_add_of_le h1
  have h3 : i ≤ 15 := by omega
  match i, h3 with
  | 0, _ => exact q_lenM_0 h
  | 1, _ => exact q_lenM_1 h
  | 2, _ => exact q_lenM_2 h
  | 3, _ => exact q_lenM_3 h
  | 4, _ => exact q_lenM_4 h
  | 5, _ => exact q_lenM_5 h
  | 6, _ => exact q_lenM_6 h
  | 7, _ => exact q_lenM_7 h
  | 8, _ => exact q_lenM_8 h
  | 9, _ => exact q_lenM_9 h
  | 10, _ => exact q_lenM_10 h
  | 11, _ => exact q_lenM_11 h
  | 12, _ => exact q_lenM_12 h
  | 13, _ => exact q_lenM_13 h
  | 14, _ => exact q_lenM_14 h
  | 15, _ => exact q_lenM_15 h
  | i + 16, h3 => exact absurd h3 (by omega)
theorem q_lenMc1 (h : q_H) : ∀ j, 16 ≤ j → j ≤ 31 → q_Ca q_TB0 3 246 [.int (Int32.ofInt (0 + ((j : Nat) : Int)))] h (.inl (some (.int (q_len (Int32.ofInt (0 + (j : Int)))))), h) := by
  intro j h1 h2
  obtain ⟨i, rfl⟩ := Nat.exists_eq_add_of_le h1
  have h3 : i ≤ 15 := by omega
  match i, h3 with
  | 0, _ => exact q_lenM_16 h
  | 1, _ => exact q_lenM_17 h
  | 2, _ => exact q_lenM_18 h
  | 3, _ => exact q_lenM_19 h
  | 4, _ => exact q_lenM_20 h
  | 5, _ => exact q_lenM_21 h
  | 6, _ => exact q_lenM_22 h
  | 7, _ => exact q_lenM_23 h
  | 8, _ => exact q_lenM_24 h
  | 9, _ => exact q_lenM_25 h
  | 10, _ => exact q_lenM_26 h
  | 11, _ => exact q_lenM_27 h
  | 12, _ => exact q_lenM_28 h
  | 13, _ => exact q_lenM_29 h
  | 14, _ => exact q_lenM_30 h
  | 15, _ => exact q_lenM_31 h
  | i + 16, h3 => exact absurd h3 (by omega)
theorem q_lenMc2 (h : q_H) : ∀ j, 32 ≤ j → j ≤ 47 → q_Ca q_TB0 3 246 [.int (Int32.ofInt (0 + ((j : Nat) : Int)))] h (.inl (some (.int (q_len (Int32.ofInt (0 + (j : Int)))))), h) := by
  intro j h1 h2
  obtain ⟨i, rfl⟩ := Nat.exists_eq_add_of_le h1
  have h3 : i ≤ 15 := by omega
  match i, h3 with
  | 0, _ => exact q_lenM_32 h
  | 1, _ => exact q_lenM_33 h
  | 2, _ => exact q_lenM_34 h
  | 3, _ => exact q_lenM_35 h
  | 4, _ => exact q_lenM_36 h
  | 5, _ => exact q_lenM_37 h
  | 6, _ => exact q_lenM_38 h
  | 7, _ => exact q_lenM_39 h
  | 8, _ => exact q_lenM_40 h
  | 9, _ => exact q_lenM_41 h
  | 10, _ => exact q_lenM_42 h
  | 11, _ => exact q_lenM_43 h
  | 12, _ => exact q_lenM_44 h
  | 13, _ => exact q_lenM_45 h
  | 14, _ => exact q_lenM_46 h
  | 15, _ => exact q_lenM_47 h
  | i + 16, h3 => exact absurd h3 (by omega)
theorem q_lenMc3 (h : q_H) : ∀ j, 48 ≤ j → j ≤ 63 → q_Ca q_TB0 3 246 [.int (Int32.ofInt (0 + ((j : Nat) : Int)))] h (.inl (some (.int (q_len (Int32.ofInt (0 + (j : Int)))))), h) := by
  intro j h1 h2
  obtain ⟨i, rfl⟩ := Nat.exists_eq_add_of_le h1
  have h3 : i ≤ 15 := by omega
  match i, h3 with
  | 0, _ => exact q_lenM_48 h
  | 1, _ => exact q_lenM_49 h
  | 2, _ => exact q_lenM_50 h
  | 3, _ => exact q_lenM_51 h
  | 4, _ => exact q_lenM_52 h
  | 5, _ => exact q_lenM_53 h
  | 6, _ => exact q_lenM_54 h
  | 7, _ => exact q_lenM_55 h
  | 8, _ => exact q_lenM_56 h
  | 9, _ => exact q_lenM_57 h
  | 10, _ => exact q_lenM_58 h
  | 11, _ => exact q_lenM_59 h
  | 12, _ => exact q_lenM_60 h
  | 13, _ => exact q_lenM_61 h
  | 14, _ => exact q_lenM_62 h
  | 15, _ => exact q_lenM_63 h
  | i + 16, h3 => exact absurd h3 (by omega)
theorem q_lenMc4 (h : q_H) : ∀ j, 64 ≤ j → j ≤ 79 → q_Ca q_TB0 3 246 [.int (Int32.ofInt (0 + ((j : Nat) : Int)))] h (.inl (some (.int (q_len (Int32.ofInt (0 + (j : Int)))))), h) := by
  intro j h1 h2
  obtain ⟨i, rfl⟩ := Nat.exists_eq_add_of_le h1
  have h3 : i ≤ 15 := by omega
  match i, h3 with
  | 0, _ => exact q_lenM_64 h
  | 1, _ => exact q_lenM_65 h
  | 2, _ => exact q_lenM_66 h
  | 3, _ => exact q_lenM_67 h
  | 4, _ => exact q_lenM_68 h
  | 5, _ => exact q_lenM_69 h
  | 6, _ => exact q_lenM_70 h
  | 7, _ => exact q_lenM_71 h
  | 8, _ => exact q_lenM_72 h
  | 9, _ => exact q_lenM_73 h
  | 10, _ => exact q_lenM_74 h
  | 11, _ => exact q_lenM_75 h
  | 12, _ => exact q_lenM_76 h
  | 13, _ => exact q_lenM_77 h
  | 14, _ => exact q_lenM_78 h
  | 15, _ => exact q_lenM_79 h
  | i + 16, h3 => exact absurd h3 (by omega)
theorem q_lenMc5 (h : q_H) : ∀ j, 80 ≤ j → j ≤ 95 → q_Ca q_TB0 3 246 [.int (Int32.ofInt (0 + ((j : Nat) : Int)))] h (.inl (some (.int (q_len (Int32.ofInt (0 + (j : Int)))))), h) := by
  intro j h1 h2
  obtain ⟨i, rfl⟩ := Nat.exists_eq_add_of_le h1
  have h3 : i ≤ 15 := by omega
  match i, h3 with
  | 0, _ => exact q_lenM_80 h
  | 1, _ => exact q_lenM_81 h
  | 2, _ => exact q_lenM_82 h
  | 3, _ => exact q_lenM_83 h
  | 4, _ => exact q_lenM_84 h
  | 5, _ => exact q_lenM_85 h
  | 6, _ => exact q_lenM_86 h
  | 7, _ => exact q_lenM_87 h
  | 8, _ => exact q_lenM_88 h
  | 9, _ => exact q_lenM_89 h
  | 10, _ => exact q_lenM_90 h
  | 11, _ => exact q_lenM_91 h
  | 12, _ => exact q_lenM_92 h
  | 13, _ => exact q_lenM_93 h
  | 14, _ => exact q_lenM_94 h
  | 15, _ => exact q_lenM_95 h
  | i + 16, h3 => exact absurd h3 (by omega)
theorem q_lenMc6 (h : q_H) : ∀ j, 96 ≤ j → j ≤ 111 → q_Ca q_TB0 3 246 [.int (Int32.ofInt (0 + ((j : Nat) : Int)))] h (.inl (some (.int (q_len (Int32.ofInt (0 + (j : Int)))))), h) := by
  intro j h1 h2
  obtain ⟨i, rfl⟩ := Nat.exists_eq_add_of_le h1
  have h3 : i ≤ 15 := by omega
  match i, h3 with
  | 0, _ => exact q_lenM_96 h
  | 1, _ => exact q_lenM_97 h
  | 2, _ => exact q_lenM_98 h
  | 3, _ => exact q_lenM_99 h
  | 4, _ => exact q_lenM_100 h
  | 5, _ => exact q_lenM_101 h
  | 6, _ => exact q_lenM_102 h
  | 7, _ => exact q_lenM_103 h
  | 8, _ => exact q_lenM_104 h
  | 9, _ => exact q_lenM_105 h
  | 10, _ => exact q_lenM_106 h
  | 11, _ => exact q_lenM_107 h
  | 12, _ => exact q_lenM_108 h
  | 13, _ => exact q_lenM_109 h
  | 14, _ => exact q_lenM_110 h
  | 15, _ => exact q_lenM_111 h
  | i + 16, h3 => exact absurd h3 (by omega)
theorem q_lenMc7 (h : q_H) : ∀ j, 112 ≤ j → j ≤ 127 → q_Ca q_TB0 3 246 [.int (Int32.ofInt (0 + ((j : Nat) : Int)))] h (.inl (some (.int (q_len (Int32.ofInt (0 + (j : Int)))))), h) := by
  intro j h1 h2
  obtain ⟨i, rfl⟩ := Nat.exists_eq_add_of_le h1
  have h3 : i ≤ 15 := by omega
  match i, h3 with
  | 0, _ => exact q_lenM_112 h
  | 1, _ => exact q_lenM_113 h
  | 2, _ => exact q_lenM_114 h
  | 3, _ => exact q_lenM_115 h
  | 4, _ => exact q_lenM_116 h
  | 5, _ => exact q_lenM_117 h
  | 6, _ => exact q_lenM_118 h
  | 7, _ => exact q_lenM_119 h
  | 8, _ => exact q_lenM_120 h
  | 9, _ => exact q_lenM_121 h
  | 10, _ => exact q_lenM_122 h
  | 11, _ => exact q_lenM_123 h
  | 12, _ => exact q_lenM_124 h
  | 13, _ => exact q_lenM_125 h
  | 14, _ => exact q_lenM_126 h
  | 15, _ => exact q_lenM_127 h
  | i + 16, h3 => exact absurd h3 (by omega)
theorem q_lenMc8 (h : q_H) : ∀ j, 128 ≤ j → j ≤ 143 → q_Ca q_TB0 3 246 [.int (Int32.ofInt (0 + ((j : Nat) : Int)))] h (.inl (some (.int (q_len (Int32.ofInt (0 + (j : Int)))))), h) := by
  intro j h1 h2
  obtain ⟨i, rfl⟩ := Nat.exists_eq_add_of_le h1
  have h3 : i ≤ 15 := by omega
  match i, h3 with
  | 0, _ => exact q_lenM_128 h
  | 1, _ => exact q_lenM_129 h
  | 2, _ => exact q_lenM_130 h
  | 3, _ => exact q_lenM_131 h
  | 4, _ => exact q_lenM_132 h
  | 5, _ => exact q_lenM_133 h
  | 6, _ => exact q_lenM_134 h
  | 7, _ => exact q_lenM_135 h
  | 8, _ => exact q_lenM_136 h
  | 9, _ => exact q_lenM_137 h
  | 10, _ => exact q_lenM_138 h
  | 11, _ => exact q_lenM_139 h
  | 12, _ => exact q_lenM_140 h
  | 13, _ => exact q_lenM_141 h
  | 14, _ => exact q_lenM_142 h
  | 15, _ => exact q_lenM_143 h
  | i + 16, h3 => exact absurd h3 (by omega)
theorem q_lenMc9 (h : q_H) : ∀ j, 144 ≤ j → j ≤ 159 → q_Ca q_TB0 3 246 [.int (Int32.ofInt (0 + ((j : Nat) : Int)))] h (.inl (some (.int (q_len (Int32.ofInt (0 + (j : Int)))))), h) := by
  intro j h1 h2
  obtain ⟨i, rfl⟩ := Nat.exists_eq_add_of_le h1
  have h3 : i ≤ 15 := by omega
  match i, h3 with
  | 0, _ => exact q_lenM_144 h
  | 1, _ => exact q_lenM_145 h
  | 2, _ => exact q_lenM_146 h
  | 3, _ => exact q_lenM_147 h
  | 4, _ => exact q_lenM_148 h
  | 5, _ => exact q_lenM_149 h
  | 6, _ => exact q_lenM_150 h
  | 7, _ => exact q_lenM_151 h
  | 8, _ => exact q_lenM_152 h
  | 9, _ => exact q_lenM_153 h
  | 10, _ => exact q_lenM_154 h
  | 11, _ => exact q_lenM_155 h
  | 12, _ => exact q_lenM_156 h
  | 13, _ => exact q_lenM_157 h
  | 14, _ => exact q_lenM_158 h
  | 15, _ => exact q_lenM_159 h
  | i + 16, h3 => exact absurd h3 (by omega)
theorem q_lenMc10 (h : q_H) : ∀ j, 160 ≤ j → j ≤ 175 → q_Ca q_TB0 3 246 [.int (Int32.ofInt (0 + ((j : Nat) : Int)))] h (.inl (some (.int (q_len (Int32.ofInt (0 + (j : Int)))))), h) := by
  intro j h1 h2
  obtain ⟨i, rfl⟩ := Nat.exists_eq_add_of_le h1
  have h3 : i ≤ 15 := by omega
  match i, h3 with
  | 0, _ => exact q_lenM_160 h
  | 1, _ => exact q_lenM_161 h
  | 2, _ => exact q_lenM_162 h
  | 3, _ => exact q_lenM_163 h
  | 4, _ => exact q_lenM_164 h
  | 5, _ => exact q_lenM_165 h
  | 6, _ => exact q_lenM_166 h
  | 7, _ => exact q_lenM_167 h
  | 8, _ => exact q_lenM_168 h
  | 9, _ => exact q_lenM_169 h
  | 10, _ => exact q_lenM_170 h
  | 11, _ => exact q_lenM_171 h
  | 12, _ => exact q_lenM_172 h
  | 13, _ => exact q_lenM_173 h
  | 14, _ => exact q_lenM_174 h
  | 15, _ => exact q_lenM_175 h
  | i + 16, h3 => exact absurd h3 (by omega)
theorem q_lenMc11 (h : q_H) : ∀ j, 176 ≤ j → j ≤ 191 → q_Ca q_TB0 3 246 [.int (Int32.ofInt (0 + ((j : Nat) : Int)))] h (.inl (some (.int (q_len (Int32.ofInt (0 + (j : Int)))))), h) := by
  intro j h1 h2
  obtain ⟨i, rfl⟩ := Nat.exists_eq_add_of_le h1
  have h3 : i ≤ 15 := by omega
  match i, h3 with
  | 0, _ => exact q_lenM_176 h
  | 1, _ => exact q_lenM_177 h
  | 2, _ => exact q_lenM_178 h
  | 3, _ => exact q_lenM_179 h
  | 4, _ => exact q_lenM_180 h
  | 5, _ => exact q_lenM_181 h
  | 6, _ => exact q_lenM_182 h
  | 7, _ => exact q_lenM_183 h
  | 8, _ => exact q_lenM_184 h
  | 9, _ => exact q_lenM_185 h
  | 10, _ => exact q_lenM_186 h
  | 11, _ => exact q_lenM_187 h
  | 12, _ => exact q_lenM_188 h
  | 13, _ => exact q_lenM_189 h
  | 14, _ => exact q_lenM_190 h
  | 15, _ => exact q_lenM_191 h
  | i + 16, h3 => exact absurd h3 (by omega)
theorem q_lenMc12 (h : q_H) : ∀ j, 192 ≤ j → j ≤ 207 → q_Ca q_TB0 3 246 [.int (Int32.ofInt (0 + ((j : Nat) : Int)))] h (.inl (some (.int (q_len (Int32.ofInt (0 + (j : Int)))))), h) := by
  intro j h1 h2
  obtain ⟨i, rfl⟩ := Nat.exists_eq_add_of_le h1
  have h3 : i ≤ 15 := by omega
  match i, h3 with
  | 0, _ => exact q_lenM_192 h
  | 1, _ => exact q_lenM_193 h
  | 2, _ => exact q_lenM_194 h
  | 3, _ => exact q_lenM_195 h
  | 4, _ => exact q_lenM_196 h
  | 5, _ => exact q_lenM_197 h
  | 6, _ => exact q_lenM_198 h
  | 7, _ => exact q_lenM_199 h
  | 8, _ => exact q_lenM_200 h
  | 9, _ => exact q_lenM_201 h
  | 10, _ => exact q_lenM_202 h
  | 11, _ => exact q_lenM_203 h
  | 12, _ => exact q_lenM_204 h
  | 13, _ => exact q_lenM_205 h
  | 14, _ => exact q_lenM_206 h
  | 15, _ => exact q_lenM_207 h
  | i + 16, h3 => exact absurd h3 (by omega)
theorem q_lenMc13 (h : q_H) : ∀ j, 208 ≤ j → j ≤ 223 → q_Ca q_TB0 3 246 [.int (Int32.ofInt (0 + ((j : Nat) : Int)))] h (.inl (some (.int (q_len (Int32.ofInt (0 + (j : Int)))))), h) := by
  intro j h1 h2
  obtain ⟨i, rfl⟩ := Nat.exists_eq_add_of_le h1
  have h3 : i ≤ 15 := by omega
  match i, h3 with
  | 0, _ => exact q_lenM_208 h
  | 1, _ => exact q_lenM_209 h
  | 2, _ => exact q_lenM_210 h
  | 3, _ => exact q_lenM_211 h
  | 4, _ => exact q_lenM_212 h
  | 5, _ => exact q_lenM_213 h
  | 6, _ => exact q_lenM_214 h
  | 7, _ => exact q_lenM_215 h
  | 8, _ => exact q_lenM_216 h
  | 9, _ => exact q_lenM_217 h
  | 10, _ => exact q_lenM_218 h
  | 11, _ => exact q_lenM_219 h
  | 12, _ => exact q_lenM_220 h
  | 13, _ => exact q_lenM_221 h
  | 14, _ => exact q_lenM_222 h
  | 15, _ => exact q_lenM_223 h
  | i + 16, h3 => exact absurd h3 (by omega)
theorem q_lenMc14 (h : q_H) : ∀ j, 224 ≤ j → j ≤ 239 → q_Ca q_TB0 3 246 [.int (Int32.ofInt (0 + ((j : Nat) : Int)))] h (.inl (some (.int (q_len (Int32.ofInt (0 + (j : Int)))))), h) := by
  intro j h1 h2
  obtain ⟨i, rfl⟩ := Nat.exists_eq_add_of_le h1
  have h3 : i ≤ 15 := by omega
  match i, h3 with
  | 0, _ => exact q_lenM_224 h
  | 1, _ => exact q_lenM_225 h
  | 2, _ => exact q_lenM_226 h
  | 3, _ => exact q_lenM_227 h
  | 4, _ => exact q_lenM_228 h
  | 5, _ => exact q_lenM_229 h
  | 6, _ => exact q_lenM_230 h
  | 7, _ => exact q_lenM_231 h
  | 8, _ => exact q_lenM_232 h
  | 9, _ => exact q_lenM_233 h
  | 10, _ => exact q_lenM_234 h
  | 11, _ => exact q_lenM_235 h
  | 12, _ => exact q_lenM_236 h
  | 13, _ => exact q_lenM_237 h
  | 14, _ => exact q_lenM_238 h
  | 15, _ => exact q_lenM_239 h
  | i + 16, h3 => exact absurd h3 (by omega)
theorem q_lenMc15 (h : q_H) : ∀ j, 240 ≤ j → j ≤ 255 → q_Ca q_TB0 3 246 [.int (Int32.ofInt (0 + ((j : Nat) : Int)))] h (.inl (some (.int (q_len (Int32.ofInt (0 + (j : Int)))))), h) := by
  intro j h1 h2
  obtain ⟨i, rfl⟩ := Nat.exists_eq_add_of_le h1
  have h3 : i ≤ 15 := by omega
  match i, h3 with
  | 0, _ => exact q_lenM_240 h
  | 1, _ => exact q_lenM_241 h
  | 2, _ => exact q_lenM_242 h
  | 3, _ => exact q_lenM_243 h
  | 4, _ => exact q_lenM_244 h
  | 5, _ => exact q_lenM_245 h
  | 6, _ => exact q_lenM_246 h
  | 7, _ => exact q_lenM_247 h
  | 8, _ => exact q_lenM_248 h
  | 9, _ => exact q_lenM_249 h
  | 10, _ => exact q_lenM_250 h
  | 11, _ => exact q_lenM_251 h
  | 12, _ => exact q_lenM_252 h
  | 13, _ => exact q_lenM_253 h
  | 14, _ => exact q_lenM_254 h
  | 15, _ => exact q_lenM_255 h
  | i + 16, h3 => exact absurd h3 (by omega)
theorem q_lenM (h : q_H) : ∀ j, j ≤ 255 → q_Ca q_TB0 3 246 [.int (Int32.ofInt (0 + ((j : Nat) : Int)))] h (.inl (some (.int (q_len (Int32.ofInt (0 + (j : Int)))))), h) := by
  intro j hj
  by_cases h0 : j ≤ 15
  · exact q_lenMc0 h j (by omega) h0
  by_cases h1 : j ≤ 31
  · exact q_lenMc1 h j (by omega) h1
  by_cases h2 : j ≤ 47
  · exact q_lenMc2 h j (by omega) h2
  by_cases h3 : j ≤ 63
  · exact q_lenMc3 h j (by omega) h3
  by_cases h4 : j ≤ 79
  · exact q_lenMc4 h j (by omega) h4
  by_cases h5 : j ≤ 95
  · exact q_lenMc5 h j (by omega) h5
  by_cases h6 : j ≤ 111
  · exact q_lenMc6 h j (by omega) h6
  by_cases h7 : j ≤ 127
  · exact q_lenMc7 h j (by omega) h7
  by_cases h8 : j ≤ 143
  · exact q_lenMc8 h j (by omega) h8
  by_cases h9 : j ≤ 159
  · exact q_lenMc9 h j (by omega) h9
  by_cases h10 : j ≤ 175
  · exact q_lenMc10 h j (by omega) h10
  by_cases h11 : j ≤ 191
  · exact q_lenMc11 h j (by omega) h11
  by_cases h12 : j ≤ 207
  · exact q_lenMc12 h j (by omega) h12
  by_cases h13 : j ≤ 223
  · exact q_lenMc13 h j (by omega) h13
  by_cases h14 : j ≤ 239
  · exact q_lenMc14 h j (by omega) h14
  exact q_lenMc15 h j (by omega) hj
theorem q_lenM1 {c r : Int32} (h1 : 0 ≤ c.toInt) (h2 : c.toInt ≤ 255) (e : q_len c = r) (h : q_H) : q_Ca q_TB0 3 246 [.int c] h (.inl (some (.int r)), h) := by
  obtain ⟨j, hj, e2⟩ := q_en (l := 0) (n := 255) h1 h2
  rw [← e, e2]
  exact q_lenM h j hj
theorem q_lenM2 {c r : Int32} (h1 : 0 ≤ c.toInt) (h2 : c.toInt ≤ 255) (e : q_len c = r) (h : q_H) : q_Ca q_TB0 3 246 [.int (c &&& 255)] h (.inl (some (.int r)), h) := by
  have e3 := q_tbl1 (fun c => decide (c &&& 255 = c)) (l := 0) (n := 255) (by decide +kernel) h1 h2
  rw [of_decide_eq_true e3]
  exact q_lenM1 h1 h2 e h
theorem q_len3 {c : Int32} (h1 : 0 ≤ c.toInt) (h2 : c.toInt ≤ 255) : q_len c = 1 ∨ q_len c = 2 ∨ q_len c = 3 := by
  have e := q_tbl1 (fun c => decide (q_len c = 1) || (decide (q_len c = 2) || decide (q_len c = 3))) (l := 0) (n := 255) (by decide +kernel) h1 h2
  rw [Bool.or_eq_true, Bool.or_eq_true] at e
  rcases e with e | e | e
  · exact Or.inl (of_decide_eq_true e)
  · exact Or.inr (Or.inl (of_decide_eq_true e))
  · exact Or.inr (Or.inr (of_decide_eq_true e))

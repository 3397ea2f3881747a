/-! the cells that the constructors make, by a program of ours; 16.init proves that they do -/
def SH0 : List (Nat ⊕ (Nat × Nat)) := [.inl 11, .inl 1, .inl 4, .inr (0, 8), .inr (0, 8), .inr (0, 8), .inr (0, 8), .inr (0, 8), .inr (0, 8), .inr (0, 8), .inr (0, 8), .inr (0, 8), .inl 2, .inr (0, 20), .inr (0, 20), .inr (0, 20), .inr (0, 20), .inl 2, .inr (0, 8), .inr (0, 8), .inr (0, 8), .inr (0, 8), .inl 3, .inr (0, 8), .inr (0, 8), .inr (0, 8), .inl 3, .inr (0, 4), .inr (0, 4), .inr (0, 4), .inl 8, .inr (0, 7), .inr (0, 40), .inr (0, 40), .inr (0, 12), .inr (0, 3), .inl 5, .inr (0, 40), .inr (0, 40), .inr (0, 480), .inr (0, 12), .inl 7, .inr (0, 8), .inr (0, 20), .inl 9, .inr (0, 8), .inr (0, 8), .inr (0, 8), .inr (0, 8), .inr (0, 8), .inr (0, 64), .inr (0, 64), .inl 6, .inr (0, 8), .inr (0, 8), .inr (0, 8), .inr (0, 549), .inl 0, .inr (0, 60), .inr (0, 60), .inr (0, 60), .inl 10, .inr (0, 10), .inr (0, 10), .inr (0, 10), .inr (0, 10), .inr (0, 10), .inr (2, 3), .inr (0, 7), .inl 12, .inr (0, 8), .inr (0, 8), .inr (0, 8), .inr (0, 8), .inr (0, 8), .inr (0, 8), .inr (0, 8), .inr (0, 8), .inr (0, 8), .inr (0, 7), .inr (0, 40), .inr (0, 40), .inr (0, 12), .inr (0, 20), .inr (0, 20), .inr (0, 20), .inr (0, 8), .inr (0, 8), .inr (0, 8), .inr (1, 8), .inr (0, 8), .inr (0, 8), .inr (1, 8), .inr (0, 4), .inr (0, 4), .inr (0, 4), .inr (0, 3), .inr (0, 7), .inr (0, 60), .inr (0, 60), .inr (0, 60), .inr (0, 60), .inr (0, 40), .inr (0, 480), .inr (0, 12), .inr (0, 8), .inr (0, 20), .inr (1, 8), .inr (1, 8), .inr (0, 8), .inr (1, 4), .inr (0, 8), .inr (0, 8), .inr (0, 1708), .inr (0, 28), .inr (0, 10), .inr (0, 10), .inr (0, 10), .inr (0, 10), .inr (0, 10), .inr (0, 3), .inr (0, 3), .inr (0, 3), .inr (0, 8)]
def GR0 : List (List Nat) := [[2, 37, 42, 53, 58, 62, 68, 69, 0], [3, 13, 18, 23, 27, 31], [0, 4, 5, 6, 7, 8, 9, 10, 11, 12], [], [], [], [], [], [], [], [], [], [0, 0, 14, 15, 16, 17], [], [], [], [], [0, 0, 19, 20, 21, 22], [], [], [], [], [0, 0, 0, 24, 25, 26], [], [], [], [0, 0, 0, 28, 29, 30], [], [], [], [32, 33, 34, 35, 36, 0, 0], [], [], [], [], [], [2, 0, 0, 0, 38, 39, 40, 41], [], [], [], [], [2, 45, 0, 0, 0, 0, 0, 0, 0, 0, 0, 0, 43, 44], [], [], [2, 0, 46, 47, 48, 49, 50, 51, 52], [], [], [], [], [], [], [], [2, 37, 0, 0, 0, 0, 0, 54, 55, 56, 57], [], [], [], [], [2, 0, 0, 59, 60, 61], [], [], [], [0, 63, 64, 65, 66, 67], [], [], [], [], [], [], [], [71, 72, 73, 74, 75, 76, 77, 78, 79, 0, 80, 81, 82, 83, 84, 85, 86, 0, 87, 88, 89, 90, 0, 91, 92, 93, 0, 94, 95, 96, 0, 0, 0, 0, 0, 0, 97, 0, 98, 99, 100, 101, 102, 0, 0, 103, 0, 104, 105, 0, 0, 0, 0, 0, 106, 0, 0, 0, 0, 0, 0, 0, 0, 107, 108, 109, 110, 111, 112, 113, 0, 0, 114, 115, 0, 0, 0, 0, 116, 117, 118, 119, 120, 0, 0, 0, 121, 0, 122, 123, 0, 124, 0], [], [], [], [], [], [], [], [], [], [], [], [], [], [], [], [], [], [], [], [], [], [], [], [], [], [], [], [], [], [], [], [], [], [], [], [], [], [], [], [], [], [], [], [], [], [], [], [], [], [], [], [], [], []]
def G0 (p k : Nat) : Nat := (GR0.getD p []).getD k 0
def HT : List (Nat × Nat × Int) := [(12, 0, 20), (17, 0, 8), (22, 0, 8), (22, 1, 1), (26, 0, 4), (30, 6, 200), (31, 1, 100), (31, 2, 400), (31, 3, 900), (31, 4, 1600), (31, 5, 2500), (31, 6, 3600), (32, 0, 50), (32, 1, 50), (32, 2, 50), (32, 3, 50), (32, 4, 50), (32, 5, 50), (32, 6, 50), (32, 7, 50), (32, 8, 50), (32, 9, 50), (32, 10, 50), (32, 11, 50), (32, 12, 50), (32, 13, 50), (32, 14, 50), (32, 15, 50), (32, 16, 50), (32, 17, 50), (32, 18, 50), (32, 19, 50), (32, 20, 50), (32, 21, 50), (32, 22, 50), (32, 23, 50), (32, 24, 50), (32, 25, 50), (32, 26, 50), (32, 27, 50), (32, 28, 50), (32, 29, 50), (32, 30, 50), (32, 31, 50), (32, 32, 50), (32, 33, 50), (32, 34, 50), (32, 35, 50), (32, 36, 50), (32, 37, 50), (32, 38, 50), (32, 39, 50), (33, 0, 50), (33, 1, 50), (33, 2, 50), (33, 3, 50), (33, 4, 50), (33, 5, 50), (33, 6, 50), (33, 7, 50), (33, 8, 50), (33, 9, 50), (33, 10, 50), (33, 11, 50), (33, 12, 50), (33, 13, 50), (33, 14, 50), (33, 15, 50), (33, 16, 50), (33, 17, 50), (33, 18, 50), (33, 19, 50), (33, 20, 50), (33, 21, 50), (33, 22, 50), (33, 23, 50), (33, 24, 50), (33, 25, 50), (33, 26, 50), (33, 27, 50), (33, 28, 50), (33, 29, 50), (33, 30, 50), (33, 31, 50), (33, 32, 50), (33, 33, 50), (33, 34, 50), (33, 35, 50), (33, 36, 50), (33, 37, 50), (33, 38, 50), (33, 39, 50), (69, 37, 200), (69, 70, -9), (79, 1, 100), (79, 2, 400), (79, 3, 900), (79, 4, 1600), (79, 5, 2500), (79, 6, 3600), (80, 0, 50), (80, 1, 50), (80, 2, 50), (80, 3, 50), (80, 4, 50), (80, 5, 50), (80, 6, 50), (80, 7, 50), (80, 8, 50), (80, 9, 50), (80, 10, 50), (80, 11, 50), (80, 12, 50), (80, 13, 50), (80, 14, 50), (80, 15, 50), (80, 16, 50), (80, 17, 50), (80, 18, 50), (80, 19, 50), (80, 20, 50), (80, 21, 50), (80, 22, 50), (80, 23, 50), (80, 24, 50), (80, 25, 50), (80, 26, 50), (80, 27, 50), (80, 28, 50), (80, 29, 50), (80, 30, 50), (80, 31, 50), (80, 32, 50), (80, 33, 50), (80, 34, 50), (80, 35, 50), (80, 36, 50), (80, 37, 50), (80, 38, 50), (80, 39, 50), (81, 0, 50), (81, 1, 50), (81, 2, 50), (81, 3, 50), (81, 4, 50), (81, 5, 50), (81, 6, 50), (81, 7, 50), (81, 8, 50), (81, 9, 50), (81, 10, 50), (81, 11, 50), (81, 12, 50), (81, 13, 50), (81, 14, 50), (81, 15, 50), (81, 16, 50), (81, 17, 50), (81, 18, 50), (81, 19, 50), (81, 20, 50), (81, 21, 50), (81, 22, 50), (81, 23, 50), (81, 24, 50), (81, 25, 50), (81, 26, 50), (81, 27, 50), (81, 28, 50), (81, 29, 50), (81, 30, 50), (81, 31, 50), (81, 32, 50), (81, 33, 50), (81, 34, 50), (81, 35, 50), (81, 36, 50), (81, 37, 50), (81, 38, 50), (81, 39, 50), (104, 0, -9), (104, 1, -9), (104, 2, -9), (104, 3, -9), (104, 4, -9), (104, 5, -9), (104, 6, -9), (104, 7, -9), (104, 8, -9), (104, 9, -9), (104, 10, -9), (104, 11, -9)]
def wOK (w : WD) : Prop := w.1 = SH0 ∧ ∀ p k, p < 124 → k < 93 → w.2 p k = G0 p k
theorem sh_0 : SH0[0]? = some (.inl 11) := rfl
theorem sh_1 : SH0[1]? = some (.inl 1) := rfl
theorem sh_2 : SH0[2]? = some (.inl 4) := rfl
theorem sh_3 : SH0[3]? = some (.inr (0, 8)) := rfl
theorem sh_4 : SH0[4]? = some (.inr (0, 8)) := rfl
theorem sh_5 : SH0[5]? = some (.inr (0, 8)) := rfl
theorem sh_6 : SH0[6]? = some (.inr (0, 8)) := rfl
theorem sh_7 : SH0[7]? = some (.inr (0, 8)) := rfl
theorem sh_8 : SH0[8]? = some (.inr (0, 8)) := rfl
theorem sh_9 : SH0[9]? = some (.inr (0, 8)) := rfl
theorem sh_10 : SH0[10]? = some (.inr (0, 8)) := rfl
theorem sh_11 : SH0[11]? = some (.inr (0, 8)) := rfl
theorem sh_12 : SH0[12]? = some (.inl 2) := rfl
theorem sh_13 : SH0[13]? = some (.inr (0, 20)) := rfl
theorem sh_14 : SH0[14]? = some (.inr (0, 20)) := rfl
theorem sh_15 : SH0[15]? = some (.inr (0, 20)) := rfl
theorem sh_16 : SH0[16]? = some (.inr (0, 20)) := rfl
theorem sh_17 : SH0[17]? = some (.inl 2) := rfl
theorem sh_18 : SH0[18]? = some (.inr (0, 8)) := rfl
theorem sh_19 : SH0[19]? = some (.inr (0, 8)) := rfl
theorem sh_20 : SH0[20]? = some (.inr (0, 8)) := rfl
theorem sh_21 : SH0[21]? = some (.inr (0, 8)) := rfl
theorem sh_22 : SH0[22]? = some (.inl 3) := rfl
theorem sh_23 : SH0[23]? = some (.inr (0, 8)) := rfl
theorem sh_24 : SH0[24]? = some (.inr (0, 8)) := rfl
theorem sh_25 : SH0[25]? = some (.inr (0, 8)) := rfl
theorem sh_26 : SH0[26]? = some (.inl 3) := rfl
theorem sh_27 : SH0[27]? = some (.inr (0, 4)) := rfl
theorem sh_28 : SH0[28]? = some (.inr (0, 4)) := rfl
theorem sh_29 : SH0[29]? = some (.inr (0, 4)) := rfl
theorem sh_30 : SH0[30]? = some (.inl 8) := rfl
theorem sh_31 : SH0[31]? = some (.inr (0, 7)) := rfl
theorem sh_32 : SH0[32]? = some (.inr (0, 40)) := rfl
theorem sh_33 : SH0[33]? = some (.inr (0, 40)) := rfl
theorem sh_34 : SH0[34]? = some (.inr (0, 12)) := rfl
theorem sh_35 : SH0[35]? = some (.inr (0, 3)) := rfl
theorem sh_36 : SH0[36]? = some (.inl 5) := rfl
theorem sh_37 : SH0[37]? = some (.inr (0, 40)) := rfl
theorem sh_38 : SH0[38]? = some (.inr (0, 40)) := rfl
theorem sh_39 : SH0[39]? = some (.inr (0, 480)) := rfl
theorem sh_40 : SH0[40]? = some (.inr (0, 12)) := rfl
theorem sh_41 : SH0[41]? = some (.inl 7) := rfl
theorem sh_42 : SH0[42]? = some (.inr (0, 8)) := rfl
theorem sh_43 : SH0[43]? = some (.inr (0, 20)) := rfl
theorem sh_44 : SH0[44]? = some (.inl 9) := rfl
theorem sh_45 : SH0[45]? = some (.inr (0, 8)) := rfl
theorem sh_46 : SH0[46]? = some (.inr (0, 8)) := rfl
theorem sh_47 : SH0[47]? = some (.inr (0, 8)) := rfl
theorem sh_48 : SH0[48]? = some (.inr (0, 8)) := rfl
theorem sh_49 : SH0[49]? = some (.inr (0, 8)) := rfl
theorem sh_50 : SH0[50]? = some (.inr (0, 64)) := rfl
theorem sh_51 : SH0[51]? = some (.inr (0, 64)) := rfl
theorem sh_52 : SH0[52]? = some (.inl 6) := rfl
theorem sh_53 : SH0[53]? = some (.inr (0, 8)) := rfl
theorem sh_54 : SH0[54]? = some (.inr (0, 8)) := rfl
theorem sh_55 : SH0[55]? = some (.inr (0, 8)) := rfl
theorem sh_56 : SH0[56]? = some (.inr (0, 549)) := rfl
theorem sh_57 : SH0[57]? = some (.inl 0) := rfl
theorem sh_58 : SH0[58]? = some (.inr (0, 60)) := rfl
theorem sh_59 : SH0[59]? = some (.inr (0, 60)) := rfl
theorem sh_60 : SH0[60]? = some (.inr (0, 60)) := rfl
theorem sh_61 : SH0[61]? = some (.inl 10) := rfl
theorem sh_62 : SH0[62]? = some (.inr (0, 10)) := rfl
theorem sh_63 : SH0[63]? = some (.inr (0, 10)) := rfl
theorem sh_64 : SH0[64]? = some (.inr (0, 10)) := rfl
theorem sh_65 : SH0[65]? = some (.inr (0, 10)) := rfl
theorem sh_66 : SH0[66]? = some (.inr (0, 10)) := rfl
theorem sh_67 : SH0[67]? = some (.inr (2, 3)) := rfl
theorem sh_68 : SH0[68]? = some (.inr (0, 7)) := rfl
theorem sh_69 : SH0[69]? = some (.inl 12) := rfl
theorem sh_70 : SH0[70]? = some (.inr (0, 8)) := rfl
theorem sh_71 : SH0[71]? = some (.inr (0, 8)) := rfl
theorem sh_72 : SH0[72]? = some (.inr (0, 8)) := rfl
theorem sh_73 : SH0[73]? = some (.inr (0, 8)) := rfl
theorem sh_74 : SH0[74]? = some (.inr (0, 8)) := rfl
theorem sh_75 : SH0[75]? = some (.inr (0, 8)) := rfl
theorem sh_76 : SH0[76]? = some (.inr (0, 8)) := rfl
theorem sh_77 : SH0[77]? = some (.inr (0, 8)) := rfl
theorem sh_78 : SH0[78]? = some (.inr (0, 8)) := rfl
theorem sh_79 : SH0[79]? = some (.inr (0, 7)) := rfl
theorem sh_80 : SH0[80]? = some (.inr (0, 40)) := rfl
theorem sh_81 : SH0[81]? = some (.inr (0, 40)) := rfl
theorem sh_82 : SH0[82]? = some (.inr (0, 12)) := rfl
theorem sh_83 : SH0[83]? = some (.inr (0, 20)) := rfl
theorem sh_84 : SH0[84]? = some (.inr (0, 20)) := rfl
theorem sh_85 : SH0[85]? = some (.inr (0, 20)) := rfl
theorem sh_86 : SH0[86]? = some (.inr (0, 8)) := rfl
theorem sh_87 : SH0[87]? = some (.inr (0, 8)) := rfl
theorem sh_88 : SH0[88]? = some (.inr (0, 8)) := rfl
theorem sh_89 : SH0[89]? = some (.inr (1, 8)) := rfl
theorem sh_90 : SH0[90]? = some (.inr (0, 8)) := rfl
theorem sh_91 : SH0[91]? = some (.inr (0, 8)) := rfl
theorem sh_92 : SH0[92]? = some (.inr (1, 8)) := rfl
theorem sh_93 : SH0[93]? = some (.inr (0, 4)) := rfl
theorem sh_94 : SH0[94]? = some (.inr (0, 4)) := rfl
theorem sh_95 : SH0[95]? = some (.inr (0, 4)) := rfl
theorem sh_96 : SH0[96]? = some (.inr (0, 3)) := rfl
theorem sh_97 : SH0[97]? = some (.inr (0, 7)) := rfl
theorem sh_98 : SH0[98]? = some (.inr (0, 60)) := rfl
theorem sh_99 : SH0[99]? = some (.inr (0, 60)) := rfl
theorem sh_100 : SH0[100]? = some (.inr (0, 60)) := rfl
theorem sh_101 : SH0[101]? = some (.inr (0, 60)) := rfl
theorem sh_102 : SH0[102]? = some (.inr (0, 40)) := rfl
theorem sh_103 : SH0[103]? = some (.inr (0, 480)) := rfl
theorem sh_104 : SH0[104]? = some (.inr (0, 12)) := rfl
theorem sh_105 : SH0[105]? = some (.inr (0, 8)) := rfl
theorem sh_106 : SH0[106]? = some (.inr (0, 20)) := rfl
theorem sh_107 : SH0[107]? = some (.inr (1, 8)) := rfl
theorem sh_108 : SH0[108]? = some (.inr (1, 8)) := rfl
theorem sh_109 : SH0[109]? = some (.inr (0, 8)) := rfl
theorem sh_110 : SH0[110]? = some (.inr (1, 4)) := rfl
theorem sh_111 : SH0[111]? = some (.inr (0, 8)) := rfl
theorem sh_112 : SH0[112]? = some (.inr (0, 8)) := rfl
theorem sh_113 : SH0[113]? = some (.inr (0, 1708)) := rfl
theorem sh_114 : SH0[114]? = some (.inr (0, 28)) := rfl
theorem sh_115 : SH0[115]? = some (.inr (0, 10)) := rfl
theorem sh_116 : SH0[116]? = some (.inr (0, 10)) := rfl
theorem sh_117 : SH0[117]? = some (.inr (0, 10)) := rfl
theorem sh_118 : SH0[118]? = some (.inr (0, 10)) := rfl
theorem sh_119 : SH0[119]? = some (.inr (0, 10)) := rfl
theorem sh_120 : SH0[120]? = some (.inr (0, 3)) := rfl
theorem sh_121 : SH0[121]? = some (.inr (0, 3)) := rfl
theorem sh_122 : SH0[122]? = some (.inr (0, 3)) := rfl
theorem sh_123 : SH0[123]? = some (.inr (0, 8)) := rfl
theorem g_0_0 : G0 0 0 = 2 := by decide +kernel
theorem g_0_1 : G0 0 1 = 37 := by decide +kernel
theorem g_0_2 : G0 0 2 = 42 := by decide +kernel
theorem g_0_3 : G0 0 3 = 53 := by decide +kernel
theorem g_0_4 : G0 0 4 = 58 := by decide +kernel
theorem g_0_5 : G0 0 5 = 62 := by decide +kernel
theorem g_0_6 : G0 0 6 = 68 := by decide +kernel
theorem g_0_7 : G0 0 7 = 69 := by decide +kernel
theorem g_1_0 : G0 1 0 = 3 := by decide +kernel
theorem g_1_1 : G0 1 1 = 13 := by decide +kernel
theorem g_1_2 : G0 1 2 = 18 := by decide +kernel
theorem g_1_3 : G0 1 3 = 23 := by decide +kernel
theorem g_1_4 : G0 1 4 = 27 := by decide +kernel
theorem g_1_5 : G0 1 5 = 31 := by decide +kernel
theorem g_2_1 : G0 2 1 = 4 := by decide +kernel
theorem g_2_2 : G0 2 2 = 5 := by decide +kernel
theorem g_2_3 : G0 2 3 = 6 := by decide +kernel
theorem g_2_4 : G0 2 4 = 7 := by decide +kernel
theorem g_2_5 : G0 2 5 = 8 := by decide +kernel
theorem g_2_6 : G0 2 6 = 9 := by decide +kernel
theorem g_2_7 : G0 2 7 = 10 := by decide +kernel
theorem g_2_8 : G0 2 8 = 11 := by decide +kernel
theorem g_2_9 : G0 2 9 = 12 := by decide +kernel
theorem g_12_2 : G0 12 2 = 14 := by decide +kernel
theorem g_12_3 : G0 12 3 = 15 := by decide +kernel
theorem g_12_4 : G0 12 4 = 16 := by decide +kernel
theorem g_12_5 : G0 12 5 = 17 := by decide +kernel
theorem g_17_2 : G0 17 2 = 19 := by decide +kernel
theorem g_17_3 : G0 17 3 = 20 := by decide +kernel
theorem g_17_4 : G0 17 4 = 21 := by decide +kernel
theorem g_17_5 : G0 17 5 = 22 := by decide +kernel
theorem g_22_3 : G0 22 3 = 24 := by decide +kernel
theorem g_22_4 : G0 22 4 = 25 := by decide +kernel
theorem g_22_5 : G0 22 5 = 26 := by decide +kernel
theorem g_26_3 : G0 26 3 = 28 := by decide +kernel
theorem g_26_4 : G0 26 4 = 29 := by decide +kernel
theorem g_26_5 : G0 26 5 = 30 := by decide +kernel
theorem g_30_0 : G0 30 0 = 32 := by decide +kernel
theorem g_30_1 : G0 30 1 = 33 := by decide +kernel
theorem g_30_2 : G0 30 2 = 34 := by decide +kernel
theorem g_30_3 : G0 30 3 = 35 := by decide +kernel
theorem g_30_4 : G0 30 4 = 36 := by decide +kernel
theorem g_36_0 : G0 36 0 = 2 := by decide +kernel
theorem g_36_4 : G0 36 4 = 38 := by decide +kernel
theorem g_36_5 : G0 36 5 = 39 := by decide +kernel
theorem g_36_6 : G0 36 6 = 40 := by decide +kernel
theorem g_36_7 : G0 36 7 = 41 := by decide +kernel
theorem g_41_0 : G0 41 0 = 2 := by decide +kernel
theorem g_41_1 : G0 41 1 = 45 := by decide +kernel
theorem g_41_12 : G0 41 12 = 43 := by decide +kernel
theorem g_41_13 : G0 41 13 = 44 := by decide +kernel
theorem g_44_0 : G0 44 0 = 2 := by decide +kernel
theorem g_44_2 : G0 44 2 = 46 := by decide +kernel
theorem g_44_3 : G0 44 3 = 47 := by decide +kernel
theorem g_44_4 : G0 44 4 = 48 := by decide +kernel
theorem g_44_5 : G0 44 5 = 49 := by decide +kernel
theorem g_44_6 : G0 44 6 = 50 := by decide +kernel
theorem g_44_7 : G0 44 7 = 51 := by decide +kernel
theorem g_44_8 : G0 44 8 = 52 := by decide +kernel
theorem g_52_0 : G0 52 0 = 2 := by decide +kernel
theorem g_52_1 : G0 52 1 = 37 := by decide +kernel
theorem g_52_7 : G0 52 7 = 54 := by decide +kernel
theorem g_52_8 : G0 52 8 = 55 := by decide +kernel
theorem g_52_9 : G0 52 9 = 56 := by decide +kernel
theorem g_52_10 : G0 52 10 = 57 := by decide +kernel
theorem g_57_0 : G0 57 0 = 2 := by decide +kernel
theorem g_57_3 : G0 57 3 = 59 := by decide +kernel
theorem g_57_4 : G0 57 4 = 60 := by decide +kernel
theorem g_57_5 : G0 57 5 = 61 := by decide +kernel
theorem g_61_1 : G0 61 1 = 63 := by decide +kernel
theorem g_61_2 : G0 61 2 = 64 := by decide +kernel
theorem g_61_3 : G0 61 3 = 65 := by decide +kernel
theorem g_61_4 : G0 61 4 = 66 := by decide +kernel
theorem g_61_5 : G0 61 5 = 67 := by decide +kernel
theorem g_69_0 : G0 69 0 = 71 := by decide +kernel
theorem g_69_1 : G0 69 1 = 72 := by decide +kernel
theorem g_69_2 : G0 69 2 = 73 := by decide +kernel
theorem g_69_3 : G0 69 3 = 74 := by decide +kernel
theorem g_69_4 : G0 69 4 = 75 := by decide +kernel
theorem g_69_5 : G0 69 5 = 76 := by decide +kernel
theorem g_69_6 : G0 69 6 = 77 := by decide +kernel
theorem g_69_7 : G0 69 7 = 78 := by decide +kernel
theorem g_69_8 : G0 69 8 = 79 := by decide +kernel
theorem g_69_10 : G0 69 10 = 80 := by decide +kernel
theorem g_69_11 : G0 69 11 = 81 := by decide +kernel
theorem g_69_12 : G0 69 12 = 82 := by decide +kernel
theorem g_69_13 : G0 69 13 = 83 := by decide +kernel
theorem g_69_14 : G0 69 14 = 84 := by decide +kernel
theorem g_69_15 : G0 69 15 = 85 := by decide +kernel
theorem g_69_16 : G0 69 16 = 86 := by decide +kernel
theorem g_69_18 : G0 69 18 = 87 := by decide +kernel
theorem g_69_19 : G0 69 19 = 88 := by decide +kernel
theorem g_69_20 : G0 69 20 = 89 := by decide +kernel
theorem g_69_21 : G0 69 21 = 90 := by decide +kernel
theorem g_69_23 : G0 69 23 = 91 := by decide +kernel
theorem g_69_24 : G0 69 24 = 92 := by decide +kernel
theorem g_69_25 : G0 69 25 = 93 := by decide +kernel
theorem g_69_27 : G0 69 27 = 94 := by decide +kernel
theorem g_69_28 : G0 69 28 = 95 := by decide +kernel
theorem g_69_29 : G0 69 29 = 96 := by decide +kernel
theorem g_69_36 : G0 69 36 = 97 := by decide +kernel
theorem g_69_38 : G0 69 38 = 98 := by decide +kernel
theorem g_69_39 : G0 69 39 = 99 := by decide +kernel
theorem g_69_40 : G0 69 40 = 100 := by decide +kernel
theorem g_69_41 : G0 69 41 = 101 := by decide +kernel
theorem g_69_42 : G0 69 42 = 102 := by decide +kernel
theorem g_69_45 : G0 69 45 = 103 := by decide +kernel
theorem g_69_47 : G0 69 47 = 104 := by decide +kernel
theorem g_69_48 : G0 69 48 = 105 := by decide +kernel
theorem g_69_54 : G0 69 54 = 106 := by decide +kernel
theorem g_69_63 : G0 69 63 = 107 := by decide +kernel
theorem g_69_64 : G0 69 64 = 108 := by decide +kernel
theorem g_69_65 : G0 69 65 = 109 := by decide +kernel
theorem g_69_66 : G0 69 66 = 110 := by decide +kernel
theorem g_69_67 : G0 69 67 = 111 := by decide +kernel
theorem g_69_68 : G0 69 68 = 112 := by decide +kernel
theorem g_69_69 : G0 69 69 = 113 := by decide +kernel
theorem g_69_72 : G0 69 72 = 114 := by decide +kernel
theorem g_69_73 : G0 69 73 = 115 := by decide +kernel
theorem g_69_78 : G0 69 78 = 116 := by decide +kernel
theorem g_69_79 : G0 69 79 = 117 := by decide +kernel
theorem g_69_80 : G0 69 80 = 118 := by decide +kernel
theorem g_69_81 : G0 69 81 = 119 := by decide +kernel
theorem g_69_82 : G0 69 82 = 120 := by decide +kernel
theorem g_69_86 : G0 69 86 = 121 := by decide +kernel
theorem g_69_88 : G0 69 88 = 122 := by decide +kernel
theorem g_69_89 : G0 69 89 = 123 := by decide +kernel
theorem g_69_91 : G0 69 91 = 124 := by decide +kernel

/-! LEVEL 2: shapes and references of the one heap, cell by cell -/
theorem sA_0 : shA[0]? = some (.inl 9) := by decide +kernel
theorem sA_1 : shA[1]? = some (.inr (.byte, 700)) := by decide +kernel
theorem sA_2 : shA[2]? = some (.inl 3) := by decide +kernel
theorem sA_3 : shA[3]? = some (.inr (.int, 8)) := by decide +kernel
theorem sA_4 : shA[4]? = some (.inr (.int, 8)) := by decide +kernel
theorem sA_5 : shA[5]? = some (.inr (.int, 8)) := by decide +kernel
theorem sA_6 : shA[6]? = some (.inr (.int, 61)) := by decide +kernel
theorem sA_7 : shA[7]? = some (.inr (.int, 6)) := by decide +kernel
theorem sA_8 : shA[8]? = some (.inr (.int, 6)) := by decide +kernel
theorem sA_9 : shA[9]? = some (.inr (.int, 6)) := by decide +kernel
theorem sA_10 : shA[10]? = some (.inr (.int, 6)) := by decide +kernel
theorem sA_11 : shA[11]? = some (.inr (.int, 6)) := by decide +kernel
theorem sA_12 : shA[12]? = some (.inr (.int, 12)) := by decide +kernel
theorem sA_13 : shA[13]? = some (.inr (.int, 12)) := by decide +kernel
theorem sA_14 : shA[14]? = some (.inr (.int, 12)) := by decide +kernel
theorem sA_15 : shA[15]? = some (.inl 1) := by decide +kernel
theorem sA_16 : shA[16]? = some (.inr (.int, 64)) := by decide +kernel
theorem sA_17 : shA[17]? = some (.inr (.int, 64)) := by decide +kernel
theorem sA_18 : shA[18]? = some (.inr (.int, 3)) := by decide +kernel
theorem sA_19 : shA[19]? = some (.inr (.int, 3)) := by decide +kernel
theorem sA_20 : shA[20]? = some (.inr (.long, 64)) := by decide +kernel
theorem sA_21 : shA[21]? = some (.inl 3) := by decide +kernel
theorem sA_22 : shA[22]? = some (.inr (.int, 8)) := by decide +kernel
theorem sA_23 : shA[23]? = some (.inr (.int, 8)) := by decide +kernel
theorem sA_24 : shA[24]? = some (.inr (.int, 8)) := by decide +kernel
theorem sA_25 : shA[25]? = some (.inr (.int, 61)) := by decide +kernel
theorem sA_26 : shA[26]? = some (.inr (.int, 6)) := by decide +kernel
theorem sA_27 : shA[27]? = some (.inr (.int, 6)) := by decide +kernel
theorem sA_28 : shA[28]? = some (.inr (.int, 6)) := by decide +kernel
theorem sA_29 : shA[29]? = some (.inr (.int, 6)) := by decide +kernel
theorem sA_30 : shA[30]? = some (.inr (.int, 6)) := by decide +kernel
theorem sA_31 : shA[31]? = some (.inr (.int, 12)) := by decide +kernel
theorem sA_32 : shA[32]? = some (.inr (.int, 12)) := by decide +kernel
theorem sA_33 : shA[33]? = some (.inr (.int, 12)) := by decide +kernel
theorem sA_34 : shA[34]? = some (.inl 1) := by decide +kernel
theorem sA_35 : shA[35]? = some (.inr (.int, 64)) := by decide +kernel
theorem sA_36 : shA[36]? = some (.inr (.int, 64)) := by decide +kernel
theorem sA_37 : shA[37]? = some (.inr (.int, 3)) := by decide +kernel
theorem sA_38 : shA[38]? = some (.inr (.int, 3)) := by decide +kernel
theorem sA_39 : shA[39]? = some (.inr (.long, 64)) := by decide +kernel
theorem sA_40 : shA[40]? = some (.inl 7) := by decide +kernel
theorem sA_41 : shA[41]? = some (.inr (.int, 21)) := by decide +kernel
theorem sA_42 : shA[42]? = some (.inl 6) := by decide +kernel
theorem sA_43 : shA[43]? = some (.inl 0) := by decide +kernel
theorem sA_44 : shA[44]? = some (.inr (.int, 72)) := by decide +kernel
theorem sA_45 : shA[45]? = some (.inl 4) := by decide +kernel
theorem sA_46 : shA[46]? = some (.inr (.int, 6)) := by decide +kernel
theorem sA_47 : shA[47]? = some (.inr (.int, 6)) := by decide +kernel
theorem sA_48 : shA[48]? = some (.inr (.int, 6)) := by decide +kernel
theorem sA_49 : shA[49]? = some (.inr (.int, 6)) := by decide +kernel
theorem sA_50 : shA[50]? = some (.inr (.int, 6)) := by decide +kernel
theorem sA_51 : shA[51]? = some (.inr (.int, 6)) := by decide +kernel
theorem sA_52 : shA[52]? = some (.inr (.int, 6)) := by decide +kernel
theorem sA_53 : shA[53]? = some (.inr (.int, 8)) := by decide +kernel
theorem sA_54 : shA[54]? = some (.inr (.int, 8)) := by decide +kernel
theorem sA_55 : shA[55]? = some (.inr (.int, 13)) := by decide +kernel
theorem sA_56 : shA[56]? = some (.inr (.int, 13)) := by decide +kernel
theorem sA_57 : shA[57]? = some (.inr (.int, 13)) := by decide +kernel
theorem sA_58 : shA[58]? = some (.inr (.int, 13)) := by decide +kernel
theorem sA_59 : shA[59]? = some (.inl 4) := by decide +kernel
theorem sA_60 : shA[60]? = some (.inr (.int, 6)) := by decide +kernel
theorem sA_61 : shA[61]? = some (.inr (.int, 6)) := by decide +kernel
theorem sA_62 : shA[62]? = some (.inr (.int, 6)) := by decide +kernel
theorem sA_63 : shA[63]? = some (.inr (.int, 6)) := by decide +kernel
theorem sA_64 : shA[64]? = some (.inr (.int, 6)) := by decide +kernel
theorem sA_65 : shA[65]? = some (.inr (.int, 6)) := by decide +kernel
theorem sA_66 : shA[66]? = some (.inr (.int, 6)) := by decide +kernel
theorem sA_67 : shA[67]? = some (.inr (.int, 8)) := by decide +kernel
theorem sA_68 : shA[68]? = some (.inr (.int, 8)) := by decide +kernel
theorem sA_69 : shA[69]? = some (.inr (.int, 13)) := by decide +kernel
theorem sA_70 : shA[70]? = some (.inr (.int, 13)) := by decide +kernel
theorem sA_71 : shA[71]? = some (.inr (.int, 13)) := by decide +kernel
theorem sA_72 : shA[72]? = some (.inr (.int, 13)) := by decide +kernel
theorem sA_73 : shA[73]? = some (.inl 4) := by decide +kernel
theorem sA_74 : shA[74]? = some (.inr (.int, 6)) := by decide +kernel
theorem sA_75 : shA[75]? = some (.inr (.int, 6)) := by decide +kernel
theorem sA_76 : shA[76]? = some (.inr (.int, 6)) := by decide +kernel
theorem sA_77 : shA[77]? = some (.inr (.int, 6)) := by decide +kernel
theorem sA_78 : shA[78]? = some (.inr (.int, 6)) := by decide +kernel
theorem sA_79 : shA[79]? = some (.inr (.int, 6)) := by decide +kernel
theorem sA_80 : shA[80]? = some (.inr (.int, 6)) := by decide +kernel
theorem sA_81 : shA[81]? = some (.inr (.int, 8)) := by decide +kernel
theorem sA_82 : shA[82]? = some (.inr (.int, 8)) := by decide +kernel
theorem sA_83 : shA[83]? = some (.inr (.int, 13)) := by decide +kernel
theorem sA_84 : shA[84]? = some (.inr (.int, 13)) := by decide +kernel
theorem sA_85 : shA[85]? = some (.inr (.int, 13)) := by decide +kernel
theorem sA_86 : shA[86]? = some (.inr (.int, 13)) := by decide +kernel
theorem sA_87 : shA[87]? = some (.inl 2) := by decide +kernel
theorem sA_88 : shA[88]? = some (.inr (.long, 7)) := by decide +kernel
theorem sA_89 : shA[89]? = some (.inl 8) := by decide +kernel
theorem sA_90 : shA[90]? = some (.inr (.int, 20)) := by decide +kernel
theorem sA_91 : shA[91]? = some (.inr (.int, 20)) := by decide +kernel
theorem sA_92 : shA[92]? = some (.inl 5) := by decide +kernel
theorem sA_93 : shA[93]? = some (.inr (.int, 24)) := by decide +kernel
theorem sA_94 : shA[94]? = some (.inr (.int, 24)) := by decide +kernel
theorem sA_95 : shA[95]? = some (.inr (.int, 24)) := by decide +kernel
theorem sA_96 : shA[96]? = some (.inr (.int, 24)) := by decide +kernel
theorem sA_97 : shA[97]? = some (.inr (.boolean, 24)) := by decide +kernel
theorem sA_98 : shA[98]? = some (.inr (.boolean, 24)) := by decide +kernel
theorem sA_99 : shA[99]? = some (.inl 10) := by decide +kernel
theorem sA_100 : shA[100]? = some (.inr (.int, 700)) := by decide +kernel
theorem sA_101 : shA[101]? = some (.inr (.int, 16)) := by decide +kernel
theorem sA_102 : shA[102]? = some (.inr (.int, 16)) := by decide +kernel
theorem sA_103 : shA[103]? = some (.inr (.int, 16)) := by decide +kernel
theorem sA_104 : shA[104]? = some (.inr (.int, 16)) := by decide +kernel
theorem sA_105 : shA[105]? = some (.inr (.int, 12)) := by decide +kernel
theorem sA_106 : shA[106]? = some (.inr (.int, 12)) := by decide +kernel
theorem sA_107 : shA[107]? = some (.inr (.int, 12)) := by decide +kernel
theorem sA_108 : shA[108]? = some (.inr (.int, 12)) := by decide +kernel
theorem sA_109 : shA[109]? = some (.inr (.int, 12)) := by decide +kernel
theorem sA_110 : shA[110]? = some (.inr (.int, 24)) := by decide +kernel
theorem sA_111 : shA[111]? = some (.inr (.int, 24)) := by decide +kernel
theorem sA_112 : shA[112]? = some (.inr (.int, 24)) := by decide +kernel
theorem sA_113 : shA[113]? = some (.inr (.int, 6)) := by decide +kernel
theorem sA_114 : shA[114]? = some (.inr (.int, 6)) := by decide +kernel
theorem sA_115 : shA[115]? = some (.inr (.int, 128)) := by decide +kernel
theorem sA_116 : shA[116]? = some (.inr (.int, 128)) := by decide +kernel
theorem sA_117 : shA[117]? = some (.inr (.long, 7)) := by decide +kernel
theorem sA_118 : shA[118]? = some (.inr (.long, 64)) := by decide +kernel
theorem sA_119 : shA[119]? = some (.inr (.int, 23)) := by decide +kernel
theorem sA_120 : shA[120]? = some (.inr (.int, 23)) := by decide +kernel
theorem sA_121 : shA[121]? = some (.inr (.int, 23)) := by decide +kernel
theorem sA_122 : shA[122]? = some (.inr (.int, 23)) := by decide +kernel
theorem sA_123 : shA[123]? = some (.inr (.int, 23)) := by decide +kernel
theorem sA_124 : shA[124]? = some (.inr (.int, 138)) := by decide +kernel
theorem sA_125 : shA[125]? = some (.inr (.int, 138)) := by decide +kernel
theorem sA_126 : shA[126]? = some (.inr (.int, 138)) := by decide +kernel
theorem sA_127 : shA[127]? = some (.inr (.int, 138)) := by decide +kernel
theorem sA_128 : shA[128]? = some (.inr (.int, 138)) := by decide +kernel
theorem sA_129 : shA[129]? = some (.inr (.int, 138)) := by decide +kernel
theorem sA_130 : shA[130]? = some (.inr (.int, 138)) := by decide +kernel
theorem sA_131 : shA[131]? = some (.inr (.int, 184)) := by decide +kernel
theorem sA_132 : shA[132]? = some (.inr (.int, 64)) := by decide +kernel
theorem sA_133 : shA[133]? = some (.inr (.int, 24)) := by decide +kernel
theorem sA_134 : shA[134]? = some (.inr (.int, 24)) := by decide +kernel
theorem sA_135 : shA[135]? = some (.inr (.int, 24)) := by decide +kernel
theorem sA_136 : shA[136]? = some (.inr (.boolean, 24)) := by decide +kernel
theorem sA_137 : shA[137]? = some (.inr (.int, 24)) := by decide +kernel
theorem sA_138 : shA[138]? = some (.inr (.boolean, 24)) := by decide +kernel
theorem sA_139 : shA[139]? = some (.inr (.long, 1)) := by decide +kernel
def tA : List (Nat × Nat × Nat) := [(0, 0, 1), (0, 6, 40), (0, 7, 42), (0, 8, 45), (0, 9, 59), (0, 10, 73), (0, 12, 87), (0, 13, 89), (0, 14, 92), (2, 5, 3), (2, 6, 4), (2, 7, 5), (2, 8, 6), (2, 10, 7), (2, 11, 8), (2, 12, 9), (2, 13, 10), (2, 14, 11), (2, 16, 12), (2, 17, 13), (2, 18, 14), (2, 19, 15), (15, 2, 16), (15, 3, 17), (15, 5, 18), (15, 6, 19), (15, 7, 20), (21, 5, 22), (21, 6, 23), (21, 7, 24), (21, 8, 25), (21, 10, 26), (21, 11, 27), (21, 12, 28), (21, 13, 29), (21, 14, 30), (21, 16, 31), (21, 17, 32), (21, 18, 33), (21, 19, 34), (34, 2, 35), (34, 3, 36), (34, 5, 37), (34, 6, 38), (34, 7, 39), (40, 5, 1), (40, 6, 41), (42, 0, 40), (42, 1, 43), (43, 0, 40), (43, 1, 44), (45, 5, 46), (45, 6, 47), (45, 7, 48), (45, 8, 49), (45, 9, 50), (45, 10, 51), (45, 11, 52), (45, 12, 53), (45, 13, 54), (45, 15, 55), (45, 16, 56), (45, 17, 57), (45, 18, 58), (59, 5, 60), (59, 6, 61), (59, 7, 62), (59, 8, 63), (59, 9, 64), (59, 10, 65), (59, 11, 66), (59, 12, 67), (59, 13, 68), (59, 15, 69), (59, 16, 70), (59, 17, 71), (59, 18, 72), (73, 5, 74), (73, 6, 75), (73, 7, 76), (73, 8, 77), (73, 9, 78), (73, 10, 79), (73, 11, 80), (73, 12, 81), (73, 13, 82), (73, 15, 83), (73, 16, 84), (73, 17, 85), (73, 18, 86), (87, 1, 88), (89, 1, 90), (89, 2, 91), (92, 2, 93), (92, 3, 94), (92, 4, 95), (92, 5, 96), (92, 6, 97), (92, 7, 98), (99, 1, 100), (99, 3, 101), (99, 4, 102), (99, 5, 103), (99, 6, 104), (99, 7, 105), (99, 8, 106), (99, 9, 107), (99, 10, 108), (99, 11, 109), (99, 12, 110), (99, 13, 111), (99, 14, 112), (99, 15, 113), (99, 16, 114), (99, 17, 115), (99, 18, 116), (99, 32, 117), (99, 33, 118), (99, 35, 119), (99, 36, 120), (99, 37, 121), (99, 38, 122), (99, 39, 123), (99, 40, 124), (99, 41, 125), (99, 42, 126), (99, 43, 127), (99, 44, 128), (99, 45, 129), (99, 46, 130), (99, 47, 131), (99, 56, 132), (99, 59, 133), (99, 60, 134), (99, 61, 135), (99, 62, 136), (99, 63, 137), (99, 64, 138)]
/-- the references stand as the constructors laid them; P: the plan (2 or 21), 23 - P: the draft -/
def RefOK (d : xD) (P : Nat) : Prop := (∀ e ∈ tA, d.2.2 e.1 e.2.1 = some e.2.2) ∧ d.2.2 0 4 = some P ∧ d.2.2 0 5 = some (23 - P) ∧ d.2.2 87 0 = some P ∧ (P = 2 ∨ P = 21)
theorem RefOK.same {d d' : xD} {P : Nat} (h : RefOK d P) (e : d'.2.2 = d.2.2) : RefOK d' P := by unfold RefOK; rw [e]; exact h
theorem rf_0_0 {d : xD} {P : Nat} (h : RefOK d P) : d.2.2 0 0 = some 1 := h.1 (0, 0, 1) (by decide)
theorem rf_0_6 {d : xD} {P : Nat} (h : RefOK d P) : d.2.2 0 6 = some 40 := h.1 (0, 6, 40) (by decide)
theorem rf_0_7 {d : xD} {P : Nat} (h : RefOK d P) : d.2.2 0 7 = some 42 := h.1 (0, 7, 42) (by decide)
theorem rf_0_8 {d : xD} {P : Nat} (h : RefOK d P) : d.2.2 0 8 = some 45 := h.1 (0, 8, 45) (by decide)
theorem rf_0_9 {d : xD} {P : Nat} (h : RefOK d P) : d.2.2 0 9 = some 59 := h.1 (0, 9, 59) (by decide)
theorem rf_0_10 {d : xD} {P : Nat} (h : RefOK d P) : d.2.2 0 10 = some 73 := h.1 (0, 10, 73) (by decide)
theorem rf_0_12 {d : xD} {P : Nat} (h : RefOK d P) : d.2.2 0 12 = some 87 := h.1 (0, 12, 87) (by decide)
theorem rf_0_13 {d : xD} {P : Nat} (h : RefOK d P) : d.2.2 0 13 = some 89 := h.1 (0, 13, 89) (by decide)
theorem rf_0_14 {d : xD} {P : Nat} (h : RefOK d P) : d.2.2 0 14 = some 92 := h.1 (0, 14, 92) (by decide)
theorem rf_2_5 {d : xD} {P : Nat} (h : RefOK d P) : d.2.2 2 5 = some 3 := h.1 (2, 5, 3) (by decide)
theorem rf_2_6 {d : xD} {P : Nat} (h : RefOK d P) : d.2.2 2 6 = some 4 := h.1 (2, 6, 4) (by decide)
theorem rf_2_7 {d : xD} {P : Nat} (h : RefOK d P) : d.2.2 2 7 = some 5 := h.1 (2, 7, 5) (by decide)
theorem rf_2_8 {d : xD} {P : Nat} (h : RefOK d P) : d.2.2 2 8 = some 6 := h.1 (2, 8, 6) (by decide)
theorem rf_2_10 {d : xD} {P : Nat} (h : RefOK d P) : d.2.2 2 10 = some 7 := h.1 (2, 10, 7) (by decide)
theorem rf_2_11 {d : xD} {P : Nat} (h : RefOK d P) : d.2.2 2 11 = some 8 := h.1 (2, 11, 8) (by decide)
theorem rf_2_12 {d : xD} {P : Nat} (h : RefOK d P) : d.2.2 2 12 = some 9 := h.1 (2, 12, 9) (by decide)
theorem rf_2_13 {d : xD} {P : Nat} (h : RefOK d P) : d.2.2 2 13 = some 10 := h.1 (2, 13, 10) (by decide)
theorem rf_2_14 {d : xD} {P : Nat} (h : RefOK d P) : d.2.2 2 14 = some 11 := h.1 (2, 14, 11) (by decide)
theorem rf_2_16 {d : xD} {P : Nat} (h : RefOK d P) : d.2.2 2 16 = some 12 := h.1 (2, 16, 12) (by decide)
theorem rf_2_17 {d : xD} {P : Nat} (h : RefOK d P) : d.2.2 2 17 = some 13 := h.1 (2, 17, 13) (by decide)
theorem rf_2_18 {d : xD} {P : Nat} (h : RefOK d P) : d.2.2 2 18 = some 14 := h.1 (2, 18, 14) (by decide)
theorem rf_2_19 {d : xD} {P : Nat} (h : RefOK d P) : d.2.2 2 19 = some 15 := h.1 (2, 19, 15) (by decide)
theorem rf_15_2 {d : xD} {P : Nat} (h : RefOK d P) : d.2.2 15 2 = some 16 := h.1 (15, 2, 16) (by decide)
theorem rf_15_3 {d : xD} {P : Nat} (h : RefOK d P) : d.2.2 15 3 = some 17 := h.1 (15, 3, 17) (by decide)
theorem rf_15_5 {d : xD} {P : Nat} (h : RefOK d P) : d.2.2 15 5 = some 18 := h.1 (15, 5, 18) (by decide)
theorem rf_15_6 {d : xD} {P : Nat} (h : RefOK d P) : d.2.2 15 6 = some 19 := h.1 (15, 6, 19) (by decide)
theorem rf_15_7 {d : xD} {P : Nat} (h : RefOK d P) : d.2.2 15 7 = some 20 := h.1 (15, 7, 20) (by decide)
theorem rf_21_5 {d : xD} {P : Nat} (h : RefOK d P) : d.2.2 21 5 = some 22 := h.1 (21, 5, 22) (by decide)
theorem rf_21_6 {d : xD} {P : Nat} (h : RefOK d P) : d.2.2 21 6 = some 23 := h.1 (21, 6, 23) (by decide)
theorem rf_21_7 {d : xD} {P : Nat} (h : RefOK d P) : d.2.2 21 7 = some 24 := h.1 (21, 7, 24) (by decide)
theorem rf_21_8 {d : xD} {P : Nat} (h : RefOK d P) : d.2.2 21 8 = some 25 := h.1 (21, 8, 25) (by decide)
theorem rf_21_10 {d : xD} {P : Nat} (h : RefOK d P) : d.2.2 21 10 = some 26 := h.1 (21, 10, 26) (by decide)
theorem rf_21_11 {d : xD} {P : Nat} (h : RefOK d P) : d.2.2 21 11 = some 27 := h.1 (21, 11, 27) (by decide)
theorem rf_21_12 {d : xD} {P : Nat} (h : RefOK d P) : d.2.2 21 12 = some 28 := h.1 (21, 12, 28) (by decide)
theorem rf_21_13 {d : xD} {P : Nat} (h : RefOK d P) : d.2.2 21 13 = some 29 := h.1 (21, 13, 29) (by decide)
theorem rf_21_14 {d : xD} {P : Nat} (h : RefOK d P) : d.2.2 21 14 = some 30 := h.1 (21, 14, 30) (by decide)
theorem rf_21_16 {d : xD} {P : Nat} (h : RefOK d P) : d.2.2 21 16 = some 31 := h.1 (21, 16, 31) (by decide)
theorem rf_21_17 {d : xD} {P : Nat} (h : RefOK d P) : d.2.2 21 17 = some 32 := h.1 (21, 17, 32) (by decide)
theorem rf_21_18 {d : xD} {P : Nat} (h : RefOK d P) : d.2.2 21 18 = some 33 := h.1 (21, 18, 33) (by decide)
theorem rf_21_19 {d : xD} {P : Nat} (h : RefOK d P) : d.2.2 21 19 = some 34 := h.1 (21, 19, 34) (by decide)
theorem rf_34_2 {d : xD} {P : Nat} (h : RefOK d P) : d.2.2 34 2 = some 35 := h.1 (34, 2, 35) (by decide)
theorem rf_34_3 {d : xD} {P : Nat} (h : RefOK d P) : d.2.2 34 3 = some 36 := h.1 (34, 3, 36) (by decide)
theorem rf_34_5 {d : xD} {P : Nat} (h : RefOK d P) : d.2.2 34 5 = some 37 := h.1 (34, 5, 37) (by decide)
theorem rf_34_6 {d : xD} {P : Nat} (h : RefOK d P) : d.2.2 34 6 = some 38 := h.1 (34, 6, 38) (by decide)
theorem rf_34_7 {d : xD} {P : Nat} (h : RefOK d P) : d.2.2 34 7 = some 39 := h.1 (34, 7, 39) (by decide)
theorem rf_40_5 {d : xD} {P : Nat} (h : RefOK d P) : d.2.2 40 5 = some 1 := h.1 (40, 5, 1) (by decide)
theorem rf_40_6 {d : xD} {P : Nat} (h : RefOK d P) : d.2.2 40 6 = some 41 := h.1 (40, 6, 41) (by decide)
theorem rf_42_0 {d : xD} {P : Nat} (h : RefOK d P) : d.2.2 42 0 = some 40 := h.1 (42, 0, 40) (by decide)
theorem rf_42_1 {d : xD} {P : Nat} (h : RefOK d P) : d.2.2 42 1 = some 43 := h.1 (42, 1, 43) (by decide)
theorem rf_43_0 {d : xD} {P : Nat} (h : RefOK d P) : d.2.2 43 0 = some 40 := h.1 (43, 0, 40) (by decide)
theorem rf_43_1 {d : xD} {P : Nat} (h : RefOK d P) : d.2.2 43 1 = some 44 := h.1 (43, 1, 44) (by decide)
theorem rf_45_5 {d : xD} {P : Nat} (h : RefOK d P) : d.2.2 45 5 = some 46 := h.1 (45, 5, 46) (by decide)
theorem rf_45_6 {d : xD} {P : Nat} (h : RefOK d P) : d.2.2 45 6 = some 47 := h.1 (45, 6, 47) (by decide)
theorem rf_45_7 {d : xD} {P : Nat} (h : RefOK d P) : d.2.2 45 7 = some 48 := h.1 (45, 7, 48) (by decide)
theorem rf_45_8 {d : xD} {P : Nat} (h : RefOK d P) : d.2.2 45 8 = some 49 := h.1 (45, 8, 49) (by decide)
theorem rf_45_9 {d : xD} {P : Nat} (h : RefOK d P) : d.2.2 45 9 = some 50 := h.1 (45, 9, 50) (by decide)
theorem rf_45_10 {d : xD} {P : Nat} (h : RefOK d P) : d.2.2 45 10 = some 51 := h.1 (45, 10, 51) (by decide)
theorem rf_45_11 {d : xD} {P : Nat} (h : RefOK d P) : d.2.2 45 11 = some 52 := h.1 (45, 11, 52) (by decide)
theorem rf_45_12 {d : xD} {P : Nat} (h : RefOK d P) : d.2.2 45 12 = some 53 := h.1 (45, 12, 53) (by decide)
theorem rf_45_13 {d : xD} {P : Nat} (h : RefOK d P) : d.2.2 45 13 = some 54 := h.1 (45, 13, 54) (by decide)
theorem rf_45_15 {d : xD} {P : Nat} (h : RefOK d P) : d.2.2 45 15 = some 55 := h.1 (45, 15, 55) (by decide)
theorem rf_45_16 {d : xD} {P : Nat} (h : RefOK d P) : d.2.2 45 16 = some 56 := h.1 (45, 16, 56) (by decide)
theorem rf_45_17 {d : xD} {P : Nat} (h : RefOK d P) : d.2.2 45 17 = some 57 := h.1 (45, 17, 57) (by decide)
theorem rf_45_18 {d : xD} {P : Nat} (h : RefOK d P) : d.2.2 45 18 = some 58 := h.1 (45, 18, 58) (by decide)
theorem rf_59_5 {d : xD} {P : Nat} (h : RefOK d P) : d.2.2 59 5 = some 60 := h.1 (59, 5, 60) (by decide)
theorem rf_59_6 {d : xD} {P : Nat} (h : RefOK d P) : d.2.2 59 6 = some 61 := h.1 (59, 6, 61) (by decide)
theorem rf_59_7 {d : xD} {P : Nat} (h : RefOK d P) : d.2.2 59 7 = some 62 := h.1 (59, 7, 62) (by decide)
theorem rf_59_8 {d : xD} {P : Nat} (h : RefOK d P) : d.2.2 59 8 = some 63 := h.1 (59, 8, 63) (by decide)
theorem rf_59_9 {d : xD} {P : Nat} (h : RefOK d P) : d.2.2 59 9 = some 64 := h.1 (59, 9, 64) (by decide)
theorem rf_59_10 {d : xD} {P : Nat} (h : RefOK d P) : d.2.2 59 10 = some 65 := h.1 (59, 10, 65) (by decide)
theorem rf_59_11 {d : xD} {P : Nat} (h : RefOK d P) : d.2.2 59 11 = some 66 := h.1 (59, 11, 66) (by decide)
theorem rf_59_12 {d : xD} {P : Nat} (h : RefOK d P) : d.2.2 59 12 = some 67 := h.1 (59, 12, 67) (by decide)
theorem rf_59_13 {d : xD} {P : Nat} (h : RefOK d P) : d.2.2 59 13 = some 68 := h.1 (59, 13, 68) (by decide)
theorem rf_59_15 {d : xD} {P : Nat} (h : RefOK d P) : d.2.2 59 15 = some 69 := h.1 (59, 15, 69) (by decide)
theorem rf_59_16 {d : xD} {P : Nat} (h : RefOK d P) : d.2.2 59 16 = some 70 := h.1 (59, 16, 70) (by decide)
theorem rf_59_17 {d : xD} {P : Nat} (h : RefOK d P) : d.2.2 59 17 = some 71 := h.1 (59, 17, 71) (by decide)
theorem rf_59_18 {d : xD} {P : Nat} (h : RefOK d P) : d.2.2 59 18 = some 72 := h.1 (59, 18, 72) (by decide)
theorem rf_73_5 {d : xD} {P : Nat} (h : RefOK d P) : d.2.2 73 5 = some 74 := h.1 (73, 5, 74) (by decide)
theorem rf_73_6 {d : xD} {P : Nat} (h : RefOK d P) : d.2.2 73 6 = some 75 := h.1 (73, 6, 75) (by decide)
theorem rf_73_7 {d : xD} {P : Nat} (h : RefOK d P) : d.2.2 73 7 = some 76 := h.1 (73, 7, 76) (by decide)
theorem rf_73_8 {d : xD} {P : Nat} (h : RefOK d P) : d.2.2 73 8 = some 77 := h.1 (73, 8, 77) (by decide)
theorem rf_73_9 {d : xD} {P : Nat} (h : RefOK d P) : d.2.2 73 9 = some 78 := h.1 (73, 9, 78) (by decide)
theorem rf_73_10 {d : xD} {P : Nat} (h : RefOK d P) : d.2.2 73 10 = some 79 := h.1 (73, 10, 79) (by decide)
theorem rf_73_11 {d : xD} {P : Nat} (h : RefOK d P) : d.2.2 73 11 = some 80 := h.1 (73, 11, 80) (by decide)
theorem rf_73_12 {d : xD} {P : Nat} (h : RefOK d P) : d.2.2 73 12 = some 81 := h.1 (73, 12, 81) (by decide)
theorem rf_73_13 {d : xD} {P : Nat} (h : RefOK d P) : d.2.2 73 13 = some 82 := h.1 (73, 13, 82) (by decide)
theorem rf_73_15 {d : xD} {P : Nat} (h : RefOK d P) : d.2.2 73 15 = some 83 := h.1 (73, 15, 83) (by decide)
theorem rf_73_16 {d : xD} {P : Nat} (h : RefOK d P) : d.2.2 73 16 = some 84 := h.1 (73, 16, 84) (by decide)
theorem rf_73_17 {d : xD} {P : Nat} (h : RefOK d P) : d.2.2 73 17 = some 85 := h.1 (73, 17, 85) (by decide)
theorem rf_73_18 {d : xD} {P : Nat} (h : RefOK d P) : d.2.2 73 18 = some 86 := h.1 (73, 18, 86) (by decide)
theorem rf_87_1 {d : xD} {P : Nat} (h : RefOK d P) : d.2.2 87 1 = some 88 := h.1 (87, 1, 88) (by decide)
theorem rf_89_1 {d : xD} {P : Nat} (h : RefOK d P) : d.2.2 89 1 = some 90 := h.1 (89, 1, 90) (by decide)
theorem rf_89_2 {d : xD} {P : Nat} (h : RefOK d P) : d.2.2 89 2 = some 91 := h.1 (89, 2, 91) (by decide)
theorem rf_92_2 {d : xD} {P : Nat} (h : RefOK d P) : d.2.2 92 2 = some 93 := h.1 (92, 2, 93) (by decide)
theorem rf_92_3 {d : xD} {P : Nat} (h : RefOK d P) : d.2.2 92 3 = some 94 := h.1 (92, 3, 94) (by decide)
theorem rf_92_4 {d : xD} {P : Nat} (h : RefOK d P) : d.2.2 92 4 = some 95 := h.1 (92, 4, 95) (by decide)
theorem rf_92_5 {d : xD} {P : Nat} (h : RefOK d P) : d.2.2 92 5 = some 96 := h.1 (92, 5, 96) (by decide)
theorem rf_92_6 {d : xD} {P : Nat} (h : RefOK d P) : d.2.2 92 6 = some 97 := h.1 (92, 6, 97) (by decide)
theorem rf_92_7 {d : xD} {P : Nat} (h : RefOK d P) : d.2.2 92 7 = some 98 := h.1 (92, 7, 98) (by decide)
theorem rf_99_1 {d : xD} {P : Nat} (h : RefOK d P) : d.2.2 99 1 = some 100 := h.1 (99, 1, 100) (by decide)
theorem rf_99_3 {d : xD} {P : Nat} (h : RefOK d P) : d.2.2 99 3 = some 101 := h.1 (99, 3, 101) (by decide)
theorem rf_99_4 {d : xD} {P : Nat} (h : RefOK d P) : d.2.2 99 4 = some 102 := h.1 (99, 4, 102) (by decide)
theorem rf_99_5 {d : xD} {P : Nat} (h : RefOK d P) : d.2.2 99 5 = some 103 := h.1 (99, 5, 103) (by decide)
theorem rf_99_6 {d : xD} {P : Nat} (h : RefOK d P) : d.2.2 99 6 = some 104 := h.1 (99, 6, 104) (by decide)
theorem rf_99_7 {d : xD} {P : Nat} (h : RefOK d P) : d.2.2 99 7 = some 105 := h.1 (99, 7, 105) (by decide)
theorem rf_99_8 {d : xD} {P : Nat} (h : RefOK d P) : d.2.2 99 8 = some 106 := h.1 (99, 8, 106) (by decide)
theorem rf_99_9 {d : xD} {P : Nat} (h : RefOK d P) : d.2.2 99 9 = some 107 := h.1 (99, 9, 107) (by decide)
theorem rf_99_10 {d : xD} {P : Nat} (h : RefOK d P) : d.2.2 99 10 = some 108 := h.1 (99, 10, 108) (by decide)
theorem rf_99_11 {d : xD} {P : Nat} (h : RefOK d P) : d.2.2 99 11 = some 109 := h.1 (99, 11, 109) (by decide)
theorem rf_99_12 {d : xD} {P : Nat} (h : RefOK d P) : d.2.2 99 12 = some 110 := h.1 (99, 12, 110) (by decide)
theorem rf_99_13 {d : xD} {P : Nat} (h : RefOK d P) : d.2.2 99 13 = some 111 := h.1 (99, 13, 111) (by decide)
theorem rf_99_14 {d : xD} {P : Nat} (h : RefOK d P) : d.2.2 99 14 = some 112 := h.1 (99, 14, 112) (by decide)
theorem rf_99_15 {d : xD} {P : Nat} (h : RefOK d P) : d.2.2 99 15 = some 113 := h.1 (99, 15, 113) (by decide)
theorem rf_99_16 {d : xD} {P : Nat} (h : RefOK d P) : d.2.2 99 16 = some 114 := h.1 (99, 16, 114) (by decide)
theorem rf_99_17 {d : xD} {P : Nat} (h : RefOK d P) : d.2.2 99 17 = some 115 := h.1 (99, 17, 115) (by decide)
theorem rf_99_18 {d : xD} {P : Nat} (h : RefOK d P) : d.2.2 99 18 = some 116 := h.1 (99, 18, 116) (by decide)
theorem rf_99_32 {d : xD} {P : Nat} (h : RefOK d P) : d.2.2 99 32 = some 117 := h.1 (99, 32, 117) (by decide)
theorem rf_99_33 {d : xD} {P : Nat} (h : RefOK d P) : d.2.2 99 33 = some 118 := h.1 (99, 33, 118) (by decide)
theorem rf_99_35 {d : xD} {P : Nat} (h : RefOK d P) : d.2.2 99 35 = some 119 := h.1 (99, 35, 119) (by decide)
theorem rf_99_36 {d : xD} {P : Nat} (h : RefOK d P) : d.2.2 99 36 = some 120 := h.1 (99, 36, 120) (by decide)
theorem rf_99_37 {d : xD} {P : Nat} (h : RefOK d P) : d.2.2 99 37 = some 121 := h.1 (99, 37, 121) (by decide)
theorem rf_99_38 {d : xD} {P : Nat} (h : RefOK d P) : d.2.2 99 38 = some 122 := h.1 (99, 38, 122) (by decide)
theorem rf_99_39 {d : xD} {P : Nat} (h : RefOK d P) : d.2.2 99 39 = some 123 := h.1 (99, 39, 123) (by decide)
theorem rf_99_40 {d : xD} {P : Nat} (h : RefOK d P) : d.2.2 99 40 = some 124 := h.1 (99, 40, 124) (by decide)
theorem rf_99_41 {d : xD} {P : Nat} (h : RefOK d P) : d.2.2 99 41 = some 125 := h.1 (99, 41, 125) (by decide)
theorem rf_99_42 {d : xD} {P : Nat} (h : RefOK d P) : d.2.2 99 42 = some 126 := h.1 (99, 42, 126) (by decide)
theorem rf_99_43 {d : xD} {P : Nat} (h : RefOK d P) : d.2.2 99 43 = some 127 := h.1 (99, 43, 127) (by decide)
theorem rf_99_44 {d : xD} {P : Nat} (h : RefOK d P) : d.2.2 99 44 = some 128 := h.1 (99, 44, 128) (by decide)
theorem rf_99_45 {d : xD} {P : Nat} (h : RefOK d P) : d.2.2 99 45 = some 129 := h.1 (99, 45, 129) (by decide)
theorem rf_99_46 {d : xD} {P : Nat} (h : RefOK d P) : d.2.2 99 46 = some 130 := h.1 (99, 46, 130) (by decide)
theorem rf_99_47 {d : xD} {P : Nat} (h : RefOK d P) : d.2.2 99 47 = some 131 := h.1 (99, 47, 131) (by decide)
theorem rf_99_56 {d : xD} {P : Nat} (h : RefOK d P) : d.2.2 99 56 = some 132 := h.1 (99, 56, 132) (by decide)
theorem rf_99_59 {d : xD} {P : Nat} (h : RefOK d P) : d.2.2 99 59 = some 133 := h.1 (99, 59, 133) (by decide)
theorem rf_99_60 {d : xD} {P : Nat} (h : RefOK d P) : d.2.2 99 60 = some 134 := h.1 (99, 60, 134) (by decide)
theorem rf_99_61 {d : xD} {P : Nat} (h : RefOK d P) : d.2.2 99 61 = some 135 := h.1 (99, 61, 135) (by decide)
theorem rf_99_62 {d : xD} {P : Nat} (h : RefOK d P) : d.2.2 99 62 = some 136 := h.1 (99, 62, 136) (by decide)
theorem rf_99_63 {d : xD} {P : Nat} (h : RefOK d P) : d.2.2 99 63 = some 137 := h.1 (99, 63, 137) (by decide)
theorem rf_99_64 {d : xD} {P : Nat} (h : RefOK d P) : d.2.2 99 64 = some 138 := h.1 (99, 64, 138) (by decide)
def isPl (P : Nat) : Prop := P = 2 ∨ P = 21
theorem rp_5 {d : xD} {P p : Nat} (h : RefOK d P) (hp : isPl p) : d.2.2 p 5 = some (p + 1) := hp.elim (fun e => by subst e; exact rf_2_5 h) (fun e => by subst e; exact rf_21_5 h)
theorem rp_6 {d : xD} {P p : Nat} (h : RefOK d P) (hp : isPl p) : d.2.2 p 6 = some (p + 2) := hp.elim (fun e => by subst e; exact rf_2_6 h) (fun e => by subst e; exact rf_21_6 h)
theorem rp_7 {d : xD} {P p : Nat} (h : RefOK d P) (hp : isPl p) : d.2.2 p 7 = some (p + 3) := hp.elim (fun e => by subst e; exact rf_2_7 h) (fun e => by subst e; exact rf_21_7 h)
theorem rp_8 {d : xD} {P p : Nat} (h : RefOK d P) (hp : isPl p) : d.2.2 p 8 = some (p + 4) := hp.elim (fun e => by subst e; exact rf_2_8 h) (fun e => by subst e; exact rf_21_8 h)
theorem rp_10 {d : xD} {P p : Nat} (h : RefOK d P) (hp : isPl p) : d.2.2 p 10 = some (p + 5) := hp.elim (fun e => by subst e; exact rf_2_10 h) (fun e => by subst e; exact rf_21_10 h)
theorem rp_11 {d : xD} {P p : Nat} (h : RefOK d P) (hp : isPl p) : d.2.2 p 11 = some (p + 6) := hp.elim (fun e => by subst e; exact rf_2_11 h) (fun e => by subst e; exact rf_21_11 h)
theorem rp_12 {d : xD} {P p : Nat} (h : RefOK d P) (hp : isPl p) : d.2.2 p 12 = some (p + 7) := hp.elim (fun e => by subst e; exact rf_2_12 h) (fun e => by subst e; exact rf_21_12 h)
theorem rp_13 {d : xD} {P p : Nat} (h : RefOK d P) (hp : isPl p) : d.2.2 p 13 = some (p + 8) := hp.elim (fun e => by subst e; exact rf_2_13 h) (fun e => by subst e; exact rf_21_13 h)
theorem rp_14 {d : xD} {P p : Nat} (h : RefOK d P) (hp : isPl p) : d.2.2 p 14 = some (p + 9) := hp.elim (fun e => by subst e; exact rf_2_14 h) (fun e => by subst e; exact rf_21_14 h)
theorem rp_16 {d : xD} {P p : Nat} (h : RefOK d P) (hp : isPl p) : d.2.2 p 16 = some (p + 10) := hp.elim (fun e => by subst e; exact rf_2_16 h) (fun e => by subst e; exact rf_21_16 h)
theorem rp_17 {d : xD} {P p : Nat} (h : RefOK d P) (hp : isPl p) : d.2.2 p 17 = some (p + 11) := hp.elim (fun e => by subst e; exact rf_2_17 h) (fun e => by subst e; exact rf_21_17 h)
theorem rp_18 {d : xD} {P p : Nat} (h : RefOK d P) (hp : isPl p) : d.2.2 p 18 = some (p + 12) := hp.elim (fun e => by subst e; exact rf_2_18 h) (fun e => by subst e; exact rf_21_18 h)
theorem rp_19 {d : xD} {P p : Nat} (h : RefOK d P) (hp : isPl p) : d.2.2 p 19 = some (p + 13) := hp.elim (fun e => by subst e; exact rf_2_19 h) (fun e => by subst e; exact rf_21_19 h)
theorem rl_2 {d : xD} {P p : Nat} (h : RefOK d P) (hp : isPl p) : d.2.2 (p + 13) 2 = some (p + 14) := hp.elim (fun e => by subst e; exact rf_15_2 h) (fun e => by subst e; exact rf_34_2 h)
theorem rl_3 {d : xD} {P p : Nat} (h : RefOK d P) (hp : isPl p) : d.2.2 (p + 13) 3 = some (p + 15) := hp.elim (fun e => by subst e; exact rf_15_3 h) (fun e => by subst e; exact rf_34_3 h)
theorem rl_5 {d : xD} {P p : Nat} (h : RefOK d P) (hp : isPl p) : d.2.2 (p + 13) 5 = some (p + 16) := hp.elim (fun e => by subst e; exact rf_15_5 h) (fun e => by subst e; exact rf_34_5 h)
theorem rl_6 {d : xD} {P p : Nat} (h : RefOK d P) (hp : isPl p) : d.2.2 (p + 13) 6 = some (p + 17) := hp.elim (fun e => by subst e; exact rf_15_6 h) (fun e => by subst e; exact rf_34_6 h)
theorem rl_7 {d : xD} {P p : Nat} (h : RefOK d P) (hp : isPl p) : d.2.2 (p + 13) 7 = some (p + 18) := hp.elim (fun e => by subst e; exact rf_15_7 h) (fun e => by subst e; exact rf_34_7 h)
theorem sp_0 {p : Nat} (hp : isPl p) : shA[p]? = some (.inl 3) := hp.elim (fun e => by subst e; exact sA_2) (fun e => by subst e; exact sA_21)
theorem sp_1 {p : Nat} (hp : isPl p) : shA[p + 1]? = some (.inr (.int, 8)) := hp.elim (fun e => by subst e; exact sA_3) (fun e => by subst e; exact sA_22)
theorem sp_2 {p : Nat} (hp : isPl p) : shA[p + 2]? = some (.inr (.int, 8)) := hp.elim (fun e => by subst e; exact sA_4) (fun e => by subst e; exact sA_23)
theorem sp_3 {p : Nat} (hp : isPl p) : shA[p + 3]? = some (.inr (.int, 8)) := hp.elim (fun e => by subst e; exact sA_5) (fun e => by subst e; exact sA_24)
theorem sp_4 {p : Nat} (hp : isPl p) : shA[p + 4]? = some (.inr (.int, 61)) := hp.elim (fun e => by subst e; exact sA_6) (fun e => by subst e; exact sA_25)
theorem sp_5 {p : Nat} (hp : isPl p) : shA[p + 5]? = some (.inr (.int, 6)) := hp.elim (fun e => by subst e; exact sA_7) (fun e => by subst e; exact sA_26)
theorem sp_6 {p : Nat} (hp : isPl p) : shA[p + 6]? = some (.inr (.int, 6)) := hp.elim (fun e => by subst e; exact sA_8) (fun e => by subst e; exact sA_27)
theorem sp_7 {p : Nat} (hp : isPl p) : shA[p + 7]? = some (.inr (.int, 6)) := hp.elim (fun e => by subst e; exact sA_9) (fun e => by subst e; exact sA_28)
theorem sp_8 {p : Nat} (hp : isPl p) : shA[p + 8]? = some (.inr (.int, 6)) := hp.elim (fun e => by subst e; exact sA_10) (fun e => by subst e; exact sA_29)
theorem sp_9 {p : Nat} (hp : isPl p) : shA[p + 9]? = some (.inr (.int, 6)) := hp.elim (fun e => by subst e; exact sA_11) (fun e => by subst e; exact sA_30)
theorem sp_10 {p : Nat} (hp : isPl p) : shA[p + 10]? = some (.inr (.int, 12)) := hp.elim (fun e => by subst e; exact sA_12) (fun e => by subst e; exact sA_31)
theorem sp_11 {p : Nat} (hp : isPl p) : shA[p + 11]? = some (.inr (.int, 12)) := hp.elim (fun e => by subst e; exact sA_13) (fun e => by subst e; exact sA_32)
theorem sp_12 {p : Nat} (hp : isPl p) : shA[p + 12]? = some (.inr (.int, 12)) := hp.elim (fun e => by subst e; exact sA_14) (fun e => by subst e; exact sA_33)
theorem sp_13 {p : Nat} (hp : isPl p) : shA[p + 13]? = some (.inl 1) := hp.elim (fun e => by subst e; exact sA_15) (fun e => by subst e; exact sA_34)
theorem sp_14 {p : Nat} (hp : isPl p) : shA[p + 14]? = some (.inr (.int, 64)) := hp.elim (fun e => by subst e; exact sA_16) (fun e => by subst e; exact sA_35)
theorem sp_15 {p : Nat} (hp : isPl p) : shA[p + 15]? = some (.inr (.int, 64)) := hp.elim (fun e => by subst e; exact sA_17) (fun e => by subst e; exact sA_36)
theorem sp_16 {p : Nat} (hp : isPl p) : shA[p + 16]? = some (.inr (.int, 3)) := hp.elim (fun e => by subst e; exact sA_18) (fun e => by subst e; exact sA_37)
theorem sp_17 {p : Nat} (hp : isPl p) : shA[p + 17]? = some (.inr (.int, 3)) := hp.elim (fun e => by subst e; exact sA_19) (fun e => by subst e; exact sA_38)
theorem sp_18 {p : Nat} (hp : isPl p) : shA[p + 18]? = some (.inr (.long, 64)) := hp.elim (fun e => by subst e; exact sA_20) (fun e => by subst e; exact sA_39)
def isSc (q : Nat) : Prop := q = 45 ∨ q = 59 ∨ q = 73
theorem rs_5 {d : xD} {P q : Nat} (h : RefOK d P) (hq : isSc q) : d.2.2 q 5 = some (q + 1) := hq.elim (fun e => by subst e; exact rf_45_5 h) (fun e => e.elim (fun e => by subst e; exact rf_59_5 h) (fun e => by subst e; exact rf_73_5 h))
theorem rs_6 {d : xD} {P q : Nat} (h : RefOK d P) (hq : isSc q) : d.2.2 q 6 = some (q + 2) := hq.elim (fun e => by subst e; exact rf_45_6 h) (fun e => e.elim (fun e => by subst e; exact rf_59_6 h) (fun e => by subst e; exact rf_73_6 h))
theorem rs_7 {d : xD} {P q : Nat} (h : RefOK d P) (hq : isSc q) : d.2.2 q 7 = some (q + 3) := hq.elim (fun e => by subst e; exact rf_45_7 h) (fun e => e.elim (fun e => by subst e; exact rf_59_7 h) (fun e => by subst e; exact rf_73_7 h))
theorem rs_8 {d : xD} {P q : Nat} (h : RefOK d P) (hq : isSc q) : d.2.2 q 8 = some (q + 4) := hq.elim (fun e => by subst e; exact rf_45_8 h) (fun e => e.elim (fun e => by subst e; exact rf_59_8 h) (fun e => by subst e; exact rf_73_8 h))
theorem rs_9 {d : xD} {P q : Nat} (h : RefOK d P) (hq : isSc q) : d.2.2 q 9 = some (q + 5) := hq.elim (fun e => by subst e; exact rf_45_9 h) (fun e => e.elim (fun e => by subst e; exact rf_59_9 h) (fun e => by subst e; exact rf_73_9 h))
theorem rs_10 {d : xD} {P q : Nat} (h : RefOK d P) (hq : isSc q) : d.2.2 q 10 = some (q + 6) := hq.elim (fun e => by subst e; exact rf_45_10 h) (fun e => e.elim (fun e => by subst e; exact rf_59_10 h) (fun e => by subst e; exact rf_73_10 h))
theorem rs_11 {d : xD} {P q : Nat} (h : RefOK d P) (hq : isSc q) : d.2.2 q 11 = some (q + 7) := hq.elim (fun e => by subst e; exact rf_45_11 h) (fun e => e.elim (fun e => by subst e; exact rf_59_11 h) (fun e => by subst e; exact rf_73_11 h))
theorem rs_12 {d : xD} {P q : Nat} (h : RefOK d P) (hq : isSc q) : d.2.2 q 12 = some (q + 8) := hq.elim (fun e => by subst e; exact rf_45_12 h) (fun e => e.elim (fun e => by subst e; exact rf_59_12 h) (fun e => by subst e; exact rf_73_12 h))
theorem rs_13 {d : xD} {P q : Nat} (h : RefOK d P) (hq : isSc q) : d.2.2 q 13 = some (q + 9) := hq.elim (fun e => by subst e; exact rf_45_13 h) (fun e => e.elim (fun e => by subst e; exact rf_59_13 h) (fun e => by subst e; exact rf_73_13 h))
theorem rs_15 {d : xD} {P q : Nat} (h : RefOK d P) (hq : isSc q) : d.2.2 q 15 = some (q + 10) := hq.elim (fun e => by subst e; exact rf_45_15 h) (fun e => e.elim (fun e => by subst e; exact rf_59_15 h) (fun e => by subst e; exact rf_73_15 h))
theorem rs_16 {d : xD} {P q : Nat} (h : RefOK d P) (hq : isSc q) : d.2.2 q 16 = some (q + 11) := hq.elim (fun e => by subst e; exact rf_45_16 h) (fun e => e.elim (fun e => by subst e; exact rf_59_16 h) (fun e => by subst e; exact rf_73_16 h))
theorem rs_17 {d : xD} {P q : Nat} (h : RefOK d P) (hq : isSc q) : d.2.2 q 17 = some (q + 12) := hq.elim (fun e => by subst e; exact rf_45_17 h) (fun e => e.elim (fun e => by subst e; exact rf_59_17 h) (fun e => by subst e; exact rf_73_17 h))
theorem rs_18 {d : xD} {P q : Nat} (h : RefOK d P) (hq : isSc q) : d.2.2 q 18 = some (q + 13) := hq.elim (fun e => by subst e; exact rf_45_18 h) (fun e => e.elim (fun e => by subst e; exact rf_59_18 h) (fun e => by subst e; exact rf_73_18 h))
theorem ss_0 {q : Nat} (hq : isSc q) : shA[q]? = some (.inl 4) := hq.elim (fun e => by subst e; exact sA_45) (fun e => e.elim (fun e => by subst e; exact sA_59) (fun e => by subst e; exact sA_73))
theorem ss_1 {q : Nat} (hq : isSc q) : shA[q + 1]? = some (.inr (.int, 6)) := hq.elim (fun e => by subst e; exact sA_46) (fun e => e.elim (fun e => by subst e; exact sA_60) (fun e => by subst e; exact sA_74))
theorem ss_2 {q : Nat} (hq : isSc q) : shA[q + 2]? = some (.inr (.int, 6)) := hq.elim (fun e => by subst e; exact sA_47) (fun e => e.elim (fun e => by subst e; exact sA_61) (fun e => by subst e; exact sA_75))
theorem ss_3 {q : Nat} (hq : isSc q) : shA[q + 3]? = some (.inr (.int, 6)) := hq.elim (fun e => by subst e; exact sA_48) (fun e => e.elim (fun e => by subst e; exact sA_62) (fun e => by subst e; exact sA_76))
theorem ss_4 {q : Nat} (hq : isSc q) : shA[q + 4]? = some (.inr (.int, 6)) := hq.elim (fun e => by subst e; exact sA_49) (fun e => e.elim (fun e => by subst e; exact sA_63) (fun e => by subst e; exact sA_77))
theorem ss_5 {q : Nat} (hq : isSc q) : shA[q + 5]? = some (.inr (.int, 6)) := hq.elim (fun e => by subst e; exact sA_50) (fun e => e.elim (fun e => by subst e; exact sA_64) (fun e => by subst e; exact sA_78))
theorem ss_6 {q : Nat} (hq : isSc q) : shA[q + 6]? = some (.inr (.int, 6)) := hq.elim (fun e => by subst e; exact sA_51) (fun e => e.elim (fun e => by subst e; exact sA_65) (fun e => by subst e; exact sA_79))
theorem ss_7 {q : Nat} (hq : isSc q) : shA[q + 7]? = some (.inr (.int, 6)) := hq.elim (fun e => by subst e; exact sA_52) (fun e => e.elim (fun e => by subst e; exact sA_66) (fun e => by subst e; exact sA_80))
theorem ss_8 {q : Nat} (hq : isSc q) : shA[q + 8]? = some (.inr (.int, 8)) := hq.elim (fun e => by subst e; exact sA_53) (fun e => e.elim (fun e => by subst e; exact sA_67) (fun e => by subst e; exact sA_81))
theorem ss_9 {q : Nat} (hq : isSc q) : shA[q + 9]? = some (.inr (.int, 8)) := hq.elim (fun e => by subst e; exact sA_54) (fun e => e.elim (fun e => by subst e; exact sA_68) (fun e => by subst e; exact sA_82))
theorem ss_10 {q : Nat} (hq : isSc q) : shA[q + 10]? = some (.inr (.int, 13)) := hq.elim (fun e => by subst e; exact sA_55) (fun e => e.elim (fun e => by subst e; exact sA_69) (fun e => by subst e; exact sA_83))
theorem ss_11 {q : Nat} (hq : isSc q) : shA[q + 11]? = some (.inr (.int, 13)) := hq.elim (fun e => by subst e; exact sA_56) (fun e => e.elim (fun e => by subst e; exact sA_70) (fun e => by subst e; exact sA_84))
theorem ss_12 {q : Nat} (hq : isSc q) : shA[q + 12]? = some (.inr (.int, 13)) := hq.elim (fun e => by subst e; exact sA_57) (fun e => e.elim (fun e => by subst e; exact sA_71) (fun e => by subst e; exact sA_85))
theorem ss_13 {q : Nat} (hq : isSc q) : shA[q + 13]? = some (.inr (.int, 13)) := hq.elim (fun e => by subst e; exact sA_58) (fun e => e.elim (fun e => by subst e; exact sA_72) (fun e => by subst e; exact sA_86))

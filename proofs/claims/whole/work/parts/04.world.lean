/-! THE WORLD behind the two constructors: 127 cells of the class, 27 of the reference -/
def TT : List ex_T := [.inl (10, [some (some 1), some (some 3), some (some 5), some (some 30), some (some 32), some (some 61), none, some (some 90), some (some 109), some (some 111), some (some 117)]),
  .inl (4, [none, none, some (some 2)]),
  .inr (0, 16, []),
  .inl (1, [some (some 4), none, none, none]),
  .inr (1, 100, []),
  .inl (6, [some (some 6), some (some 7)]),
  .inr (0, 1024, []),
  .inr (5, 11, [some 8, some 10, some 12, some 14, some 16, some 18, some 20, some 22, some 24, some 26, some 28]),
  .inl (7, [some (some 9), none, some (some 1)]),
  .inr (0, 6, []),
  .inl (7, [some (some 11), none, some (some 1)]),
  .inr (0, 6, []),
  .inl (7, [some (some 13), none, some (some 1)]),
  .inr (0, 6, []),
  .inl (7, [some (some 15), none, some (some 1)]),
  .inr (0, 6, []),
  .inl (7, [some (some 17), none, some (some 1)]),
  .inr (0, 6, []),
  .inl (7, [some (some 19), none, some (some 1)]),
  .inr (0, 6, []),
  .inl (7, [some (some 21), none, some (some 1)]),
  .inr (0, 6, []),
  .inl (7, [some (some 23), none, some (some 1)]),
  .inr (0, 6, []),
  .inl (7, [some (some 25), none, some (some 1)]),
  .inr (0, 6, []),
  .inl (7, [some (some 27), none, some (some 1)]),
  .inr (0, 6, []),
  .inl (7, [some (some 29), none, some (some 1)]),
  .inr (0, 6, []),
  .inl (2, [some (some 5), some (some 31)]),
  .inr (0, 1024, []),
  .inl (8, [some (some 33), some (some 52), some (some 55), some (some 58)]),
  .inl (3, [none, none, none, none, some (some 34), some (some 35), some (some 36), some (some 37), some (some 38), some (some 39), some (some 50), some (some 51)]),
  .inr (0, 10, []),
  .inr (0, 10, []),
  .inr (0, 10, []),
  .inr (0, 10, []),
  .inr (0, 10, []),
  .inr (3, 10, [some 40, some 41, some 42, some 43, some 44, some 45, some 46, some 47, some 48, some 49]),
  .inr (0, 4, []),
  .inr (0, 4, []),
  .inr (0, 4, []),
  .inr (0, 4, []),
  .inr (0, 4, []),
  .inr (0, 4, []),
  .inr (0, 4, []),
  .inr (0, 4, []),
  .inr (0, 4, []),
  .inr (0, 4, []),
  .inr (0, 5, []),
  .inr (0, 5, []),
  .inl (5, [some (some 53), some (some 54), none]),
  .inr (0, 5, []),
  .inr (0, 5, []),
  .inl (5, [some (some 56), some (some 57), none]),
  .inr (0, 10, []),
  .inr (0, 10, []),
  .inl (5, [some (some 59), some (some 60), none]),
  .inr (0, 8, []),
  .inr (0, 8, []),
  .inl (8, [some (some 62), some (some 81), some (some 84), some (some 87)]),
  .inl (3, [none, none, none, none, some (some 63), some (some 64), some (some 65), some (some 66), some (some 67), some (some 68), some (some 79), some (some 80)]),
  .inr (0, 10, []),
  .inr (0, 10, []),
  .inr (0, 10, []),
  .inr (0, 10, []),
  .inr (0, 10, []),
  .inr (3, 10, [some 69, some 70, some 71, some 72, some 73, some 74, some 75, some 76, some 77, some 78]),
  .inr (0, 4, []),
  .inr (0, 4, []),
  .inr (0, 4, []),
  .inr (0, 4, []),
  .inr (0, 4, []),
  .inr (0, 4, []),
  .inr (0, 4, []),
  .inr (0, 4, []),
  .inr (0, 4, []),
  .inr (0, 4, []),
  .inr (0, 5, []),
  .inr (0, 5, []),
  .inl (5, [some (some 82), some (some 83), none]),
  .inr (0, 5, []),
  .inr (0, 5, []),
  .inl (5, [some (some 85), some (some 86), none]),
  .inr (0, 10, []),
  .inr (0, 10, []),
  .inl (5, [some (some 88), some (some 89), none]),
  .inr (0, 8, []),
  .inr (0, 8, []),
  .inl (3, [none, none, none, none, some (some 91), some (some 92), some (some 93), some (some 94), some (some 95), some (some 96), some (some 107), some (some 108)]),
  .inr (0, 10, []),
  .inr (0, 10, []),
  .inr (0, 10, []),
  .inr (0, 10, []),
  .inr (0, 10, []),
  .inr (3, 10, [some 97, some 98, some 99, some 100, some 101, some 102, some 103, some 104, some 105, some 106]),
  .inr (0, 4, []),
  .inr (0, 4, []),
  .inr (0, 4, []),
  .inr (0, 4, []),
  .inr (0, 4, []),
  .inr (0, 4, []),
  .inr (0, 4, []),
  .inr (0, 4, []),
  .inr (0, 4, []),
  .inr (0, 4, []),
  .inr (0, 5, []),
  .inr (0, 5, []),
  .inl (7, [some (some 110), none, some (some 1)]),
  .inr (0, 6, []),
  .inl (0, [some (some 1), some (some 112), some (some 114), some (some 116)]),
  .inl (7, [some (some 113), none, some (some 1)]),
  .inr (0, 6, []),
  .inl (7, [some (some 115), none, some (some 1)]),
  .inr (0, 6, []),
  .inr (0, 16, []),
  .inl (9, [some (some 118), some (some 119), some (some 120)]),
  .inr (0, 6, []),
  .inr (0, 6, []),
  .inr (4, 6, [some 121, some 122, some 123, some 124, some 125, some 126]),
  .inr (2, 60, []),
  .inr (2, 60, []),
  .inr (2, 60, []),
  .inr (2, 60, []),
  .inr (2, 60, []),
  .inr (2, 60, []),
  .inl (11, [none, none, some (some 128), some (some 129), some (some 130), none, none, none, some (some 131), some (some 132), some (some 133), some (some 134), some (some 135), some (some 136), some (some 137), some (some 138), some (some 139), none, some (some 140), none, none, some (some 141), none, some (some 142), some (some 143), none, some (some 144), some (some 145), none, some (some 146), some (some 147), none, some (some 148), some (some 149), some (some 150), none, none, none, some (some 151), some (some 152), some (some 153)]),
  .inr (0, 256, []),
  .inr (0, 15, []),
  .inr (0, 16, []),
  .inr (0, 10, []),
  .inr (0, 10, []),
  .inr (0, 10, []),
  .inr (0, 10, []),
  .inr (0, 10, []),
  .inr (0, 50, []),
  .inr (0, 40, []),
  .inr (0, 5, []),
  .inr (0, 5, []),
  .inr (0, 100, []),
  .inr (0, 5, []),
  .inr (0, 5, []),
  .inr (0, 5, []),
  .inr (0, 10, []),
  .inr (0, 10, []),
  .inr (0, 8, []),
  .inr (0, 8, []),
  .inr (0, 210, []),
  .inr (0, 210, []),
  .inr (0, 72, []),
  .inr (0, 6, []),
  .inr (0, 6, []),
  .inr (2, 360, [])]
theorem tt_0 : TT[0]? = some (.inl (10, [some (some 1), some (some 3), some (some 5), some (some 30), some (some 32), some (some 61), none, some (some 90), some (some 109), some (some 111), some (some 117)])) := rfl
theorem tt_1 : TT[1]? = some (.inl (4, [none, none, some (some 2)])) := rfl
theorem tt_2 : TT[2]? = some (.inr (0, 16, [])) := rfl
theorem tt_3 : TT[3]? = some (.inl (1, [some (some 4), none, none, none])) := rfl
theorem tt_4 : TT[4]? = some (.inr (1, 100, [])) := rfl
theorem tt_5 : TT[5]? = some (.inl (6, [some (some 6), some (some 7)])) := rfl
theorem tt_6 : TT[6]? = some (.inr (0, 1024, [])) := rfl
theorem tt_7 : TT[7]? = some (.inr (5, 11, [some 8, some 10, some 12, some 14, some 16, some 18, some 20, some 22, some 24, some 26, some 28])) := rfl
theorem tt_8 : TT[8]? = some (.inl (7, [some (some 9), none, some (some 1)])) := rfl
theorem tt_9 : TT[9]? = some (.inr (0, 6, [])) := rfl
theorem tt_10 : TT[10]? = some (.inl (7, [some (some 11), none, some (some 1)])) := rfl
theorem tt_11 : TT[11]? = some (.inr (0, 6, [])) := rfl
theorem tt_12 : TT[12]? = some (.inl (7, [some (some 13), none, some (some 1)])) := rfl
theorem tt_13 : TT[13]? = some (.inr (0, 6, [])) := rfl
theorem tt_14 : TT[14]? = some (.inl (7, [some (some 15), none, some (some 1)])) := rfl
theorem tt_15 : TT[15]? = some (.inr (0, 6, [])) := rfl
theorem tt_16 : TT[16]? = some (.inl (7, [some (some 17), none, some (some 1)])) := rfl
theorem tt_17 : TT[17]? = some (.inr (0, 6, [])) := rfl
theorem tt_18 : TT[18]? = some (.inl (7, [some (some 19), none, some (some 1)])) := rfl
theorem tt_19 : TT[19]? = some (.inr (0, 6, [])) := rfl
theorem tt_20 : TT[20]? = some (.inl (7, [some (some 21), none, some (some 1)])) := rfl
theorem tt_21 : TT[21]? = some (.inr (0, 6, [])) := rfl
theorem tt_22 : TT[22]? = some (.inl (7, [some (some 23), none, some (some 1)])) := rfl
theorem tt_23 : TT[23]? = some (.inr (0, 6, [])) := rfl
theorem tt_24 : TT[24]? = some (.inl (7, [some (some 25), none, some (some 1)])) := rfl
theorem tt_25 : TT[25]? = some (.inr (0, 6, [])) := rfl
theorem tt_26 : TT[26]? = some (.inl (7, [some (some 27), none, some (some 1)])) := rfl
theorem tt_27 : TT[27]? = some (.inr (0, 6, [])) := rfl
theorem tt_28 : TT[28]? = some (.inl (7, [some (some 29), none, some (some 1)])) := rfl
theorem tt_29 : TT[29]? = some (.inr (0, 6, [])) := rfl
theorem tt_30 : TT[30]? = some (.inl (2, [some (some 5), some (some 31)])) := rfl
theorem tt_31 : TT[31]? = some (.inr (0, 1024, [])) := rfl
theorem tt_32 : TT[32]? = some (.inl (8, [some (some 33), some (some 52), some (some 55), some (some 58)])) := rfl
theorem tt_33 : TT[33]? = some (.inl (3, [none, none, none, none, some (some 34), some (some 35), some (some 36), some (some 37), some (some 38), some (some 39), some (some 50), some (some 51)])) := rfl
theorem tt_34 : TT[34]? = some (.inr (0, 10, [])) := rfl
theorem tt_35 : TT[35]? = some (.inr (0, 10, [])) := rfl
theorem tt_36 : TT[36]? = some (.inr (0, 10, [])) := rfl
theorem tt_37 : TT[37]? = some (.inr (0, 10, [])) := rfl
theorem tt_38 : TT[38]? = some (.inr (0, 10, [])) := rfl
theorem tt_39 : TT[39]? = some (.inr (3, 10, [some 40, some 41, some 42, some 43, some 44, some 45, some 46, some 47, some 48, some 49])) := rfl
theorem tt_40 : TT[40]? = some (.inr (0, 4, [])) := rfl
theorem tt_41 : TT[41]? = some (.inr (0, 4, [])) := rfl
theorem tt_42 : TT[42]? = some (.inr (0, 4, [])) := rfl
theorem tt_43 : TT[43]? = some (.inr (0, 4, [])) := rfl
theorem tt_44 : TT[44]? = some (.inr (0, 4, [])) := rfl
theorem tt_45 : TT[45]? = some (.inr (0, 4, [])) := rfl
theorem tt_46 : TT[46]? = some (.inr (0, 4, [])) := rfl
theorem tt_47 : TT[47]? = some (.inr (0, 4, [])) := rfl
theorem tt_48 : TT[48]? = some (.inr (0, 4, [])) := rfl
theorem tt_49 : TT[49]? = some (.inr (0, 4, [])) := rfl
theorem tt_50 : TT[50]? = some (.inr (0, 5, [])) := rfl
theorem tt_51 : TT[51]? = some (.inr (0, 5, [])) := rfl
theorem tt_52 : TT[52]? = some (.inl (5, [some (some 53), some (some 54), none])) := rfl
theorem tt_53 : TT[53]? = some (.inr (0, 5, [])) := rfl
theorem tt_54 : TT[54]? = some (.inr (0, 5, [])) := rfl
theorem tt_55 : TT[55]? = some (.inl (5, [some (some 56), some (some 57), none])) := rfl
theorem tt_56 : TT[56]? = some (.inr (0, 10, [])) := rfl
theorem tt_57 : TT[57]? = some (.inr (0, 10, [])) := rfl
theorem tt_58 : TT[58]? = some (.inl (5, [some (some 59), some (some 60), none])) := rfl
theorem tt_59 : TT[59]? = some (.inr (0, 8, [])) := rfl
theorem tt_60 : TT[60]? = some (.inr (0, 8, [])) := rfl
theorem tt_61 : TT[61]? = some (.inl (8, [some (some 62), some (some 81), some (some 84), some (some 87)])) := rfl
theorem tt_62 : TT[62]? = some (.inl (3, [none, none, none, none, some (some 63), some (some 64), some (some 65), some (some 66), some (some 67), some (some 68), some (some 79), some (some 80)])) := rfl
theorem tt_63 : TT[63]? = some (.inr (0, 10, [])) := rfl
theorem tt_64 : TT[64]? = some (.inr (0, 10, [])) := rfl
theorem tt_65 : TT[65]? = some (.inr (0, 10, [])) := rfl
theorem tt_66 : TT[66]? = some (.inr (0, 10, [])) := rfl
theorem tt_67 : TT[67]? = some (.inr (0, 10, [])) := rfl
theorem tt_68 : TT[68]? = some (.inr (3, 10, [some 69, some 70, some 71, some 72, some 73, some 74, some 75, some 76, some 77, some 78])) := rfl
theorem tt_69 : TT[69]? = some (.inr (0, 4, [])) := rfl
theorem tt_70 : TT[70]? = some (.inr (0, 4, [])) := rfl
theorem tt_71 : TT[71]? = some (.inr (0, 4, [])) := rfl
theorem tt_72 : TT[72]? = some (.inr (0, 4, [])) := rfl
theorem tt_73 : TT[73]? = some (.inr (0, 4, [])) := rfl
theorem tt_74 : TT[74]? = some (.inr (0, 4, [])) := rfl
theorem tt_75 : TT[75]? = some (.inr (0, 4, [])) := rfl
theorem tt_76 : TT[76]? = some (.inr (0, 4, [])) := rfl
theorem tt_77 : TT[77]? = some (.inr (0, 4, [])) := rfl
theorem tt_78 : TT[78]? = some (.inr (0, 4, [])) := rfl
theorem tt_79 : TT[79]? = some (.inr (0, 5, [])) := rfl
theorem tt_80 : TT[80]? = some (.inr (0, 5, [])) := rfl
theorem tt_81 : TT[81]? = some (.inl (5, [some (some 82), some (some 83), none])) := rfl
theorem tt_82 : TT[82]? = some (.inr (0, 5, [])) := rfl
theorem tt_83 : TT[83]? = some (.inr (0, 5, [])) := rfl
theorem tt_84 : TT[84]? = some (.inl (5, [some (some 85), some (some 86), none])) := rfl
theorem tt_85 : TT[85]? = some (.inr (0, 10, [])) := rfl
theorem tt_86 : TT[86]? = some (.inr (0, 10, [])) := rfl
theorem tt_87 : TT[87]? = some (.inl (5, [some (some 88), some (some 89), none])) := rfl
theorem tt_88 : TT[88]? = some (.inr (0, 8, [])) := rfl
theorem tt_89 : TT[89]? = some (.inr (0, 8, [])) := rfl
theorem tt_90 : TT[90]? = some (.inl (3, [none, none, none, none, some (some 91), some (some 92), some (some 93), some (some 94), some (some 95), some (some 96), some (some 107), some (some 108)])) := rfl
theorem tt_91 : TT[91]? = some (.inr (0, 10, [])) := rfl
theorem tt_92 : TT[92]? = some (.inr (0, 10, [])) := rfl
theorem tt_93 : TT[93]? = some (.inr (0, 10, [])) := rfl
theorem tt_94 : TT[94]? = some (.inr (0, 10, [])) := rfl
theorem tt_95 : TT[95]? = some (.inr (0, 10, [])) := rfl
theorem tt_96 : TT[96]? = some (.inr (3, 10, [some 97, some 98, some 99, some 100, some 101, some 102, some 103, some 104, some 105, some 106])) := rfl
theorem tt_97 : TT[97]? = some (.inr (0, 4, [])) := rfl
theorem tt_98 : TT[98]? = some (.inr (0, 4, [])) := rfl
theorem tt_99 : TT[99]? = some (.inr (0, 4, [])) := rfl
theorem tt_100 : TT[100]? = some (.inr (0, 4, [])) := rfl
theorem tt_101 : TT[101]? = some (.inr (0, 4, [])) := rfl
theorem tt_102 : TT[102]? = some (.inr (0, 4, [])) := rfl
theorem tt_103 : TT[103]? = some (.inr (0, 4, [])) := rfl
theorem tt_104 : TT[104]? = some (.inr (0, 4, [])) := rfl
theorem tt_105 : TT[105]? = some (.inr (0, 4, [])) := rfl
theorem tt_106 : TT[106]? = some (.inr (0, 4, [])) := rfl
theorem tt_107 : TT[107]? = some (.inr (0, 5, [])) := rfl
theorem tt_108 : TT[108]? = some (.inr (0, 5, [])) := rfl
theorem tt_109 : TT[109]? = some (.inl (7, [some (some 110), none, some (some 1)])) := rfl
theorem tt_110 : TT[110]? = some (.inr (0, 6, [])) := rfl
theorem tt_111 : TT[111]? = some (.inl (0, [some (some 1), some (some 112), some (some 114), some (some 116)])) := rfl
theorem tt_112 : TT[112]? = some (.inl (7, [some (some 113), none, some (some 1)])) := rfl
theorem tt_113 : TT[113]? = some (.inr (0, 6, [])) := rfl
theorem tt_114 : TT[114]? = some (.inl (7, [some (some 115), none, some (some 1)])) := rfl
theorem tt_115 : TT[115]? = some (.inr (0, 6, [])) := rfl
theorem tt_116 : TT[116]? = some (.inr (0, 16, [])) := rfl
theorem tt_117 : TT[117]? = some (.inl (9, [some (some 118), some (some 119), some (some 120)])) := rfl
theorem tt_118 : TT[118]? = some (.inr (0, 6, [])) := rfl
theorem tt_119 : TT[119]? = some (.inr (0, 6, [])) := rfl
theorem tt_120 : TT[120]? = some (.inr (4, 6, [some 121, some 122, some 123, some 124, some 125, some 126])) := rfl
theorem tt_121 : TT[121]? = some (.inr (2, 60, [])) := rfl
theorem tt_122 : TT[122]? = some (.inr (2, 60, [])) := rfl
theorem tt_123 : TT[123]? = some (.inr (2, 60, [])) := rfl
theorem tt_124 : TT[124]? = some (.inr (2, 60, [])) := rfl
theorem tt_125 : TT[125]? = some (.inr (2, 60, [])) := rfl
theorem tt_126 : TT[126]? = some (.inr (2, 60, [])) := rfl
theorem tt_127 : TT[127]? = some (.inl (11, [none, none, some (some 128), some (some 129), some (some 130), none, none, none, some (some 131), some (some 132), some (some 133), some (some 134), some (some 135), some (some 136), some (some 137), some (some 138), some (some 139), none, some (some 140), none, none, some (some 141), none, some (some 142), some (some 143), none, some (some 144), some (some 145), none, some (some 146), some (some 147), none, some (some 148), some (some 149), some (some 150), none, none, none, some (some 151), some (some 152), some (some 153)])) := rfl
theorem tt_128 : TT[128]? = some (.inr (0, 256, [])) := rfl
theorem tt_129 : TT[129]? = some (.inr (0, 15, [])) := rfl
theorem tt_130 : TT[130]? = some (.inr (0, 16, [])) := rfl
theorem tt_131 : TT[131]? = some (.inr (0, 10, [])) := rfl
theorem tt_132 : TT[132]? = some (.inr (0, 10, [])) := rfl
theorem tt_133 : TT[133]? = some (.inr (0, 10, [])) := rfl
theorem tt_134 : TT[134]? = some (.inr (0, 10, [])) := rfl
theorem tt_135 : TT[135]? = some (.inr (0, 10, [])) := rfl
theorem tt_136 : TT[136]? = some (.inr (0, 50, [])) := rfl
theorem tt_137 : TT[137]? = some (.inr (0, 40, [])) := rfl
theorem tt_138 : TT[138]? = some (.inr (0, 5, [])) := rfl
theorem tt_139 : TT[139]? = some (.inr (0, 5, [])) := rfl
theorem tt_140 : TT[140]? = some (.inr (0, 100, [])) := rfl
theorem tt_141 : TT[141]? = some (.inr (0, 5, [])) := rfl
theorem tt_142 : TT[142]? = some (.inr (0, 5, [])) := rfl
theorem tt_143 : TT[143]? = some (.inr (0, 5, [])) := rfl
theorem tt_144 : TT[144]? = some (.inr (0, 10, [])) := rfl
theorem tt_145 : TT[145]? = some (.inr (0, 10, [])) := rfl
theorem tt_146 : TT[146]? = some (.inr (0, 8, [])) := rfl
theorem tt_147 : TT[147]? = some (.inr (0, 8, [])) := rfl
theorem tt_148 : TT[148]? = some (.inr (0, 210, [])) := rfl
theorem tt_149 : TT[149]? = some (.inr (0, 210, [])) := rfl
theorem tt_150 : TT[150]? = some (.inr (0, 72, [])) := rfl
theorem tt_151 : TT[151]? = some (.inr (0, 6, [])) := rfl
theorem tt_152 : TT[152]? = some (.inr (0, 6, [])) := rfl
theorem tt_153 : TT[153]? = some (.inr (2, 360, [])) := rfl
def NodesAt (b : Nat): Prop := TT[b]? = some (.inl (3, [none, none, none, none, some (some (b + 1)), some (some (b + 2)), some (some (b + 3)), some (some (b + 4)), some (some (b + 5)), some (some (b + 6)), some (some (b + 17)), some (some (b + 18))])) ∧ TT[b + 1]? = some (.inr (0, 10, [])) ∧ TT[b + 2]? = some (.inr (0, 10, [])) ∧ TT[b + 3]? = some (.inr (0, 10, [])) ∧ TT[b + 4]? = some (.inr (0, 10, [])) ∧ TT[b + 5]? = some (.inr (0, 10, [])) ∧ TT[b + 6]? = some (.inr (3, 10, [some (b + 7), some (b + 8), some (b + 9), some (b + 10), some (b + 11), some (b + 12), some (b + 13), some (b + 14), some (b + 15), some (b + 16)])) ∧ TT[b + 7]? = some (.inr (0, 4, [])) ∧ TT[b + 8]? = some (.inr (0, 4, [])) ∧ TT[b + 9]? = some (.inr (0, 4, [])) ∧ TT[b + 10]? = some (.inr (0, 4, [])) ∧ TT[b + 11]? = some (.inr (0, 4, [])) ∧ TT[b + 12]? = some (.inr (0, 4, [])) ∧ TT[b + 13]? = some (.inr (0, 4, [])) ∧ TT[b + 14]? = some (.inr (0, 4, [])) ∧ TT[b + 15]? = some (.inr (0, 4, [])) ∧ TT[b + 16]? = some (.inr (0, 4, [])) ∧ TT[b + 17]? = some (.inr (0, 5, [])) ∧ TT[b + 18]? = some (.inr (0, 5, []))
theorem nodes_0 {b : Nat} (h : NodesAt b) : TT[b]? = some (.inl (3, [none, none, none, none, some (some (b + 1)), some (some (b + 2)), some (some (b + 3)), some (some (b + 4)), some (some (b + 5)), some (some (b + 6)), some (some (b + 17)), some (some (b + 18))])) := h.1
theorem nodes_1 {b : Nat} (h : NodesAt b) : TT[b + 1]? = some (.inr (0, 10, [])) := h.2.1
theorem nodes_2 {b : Nat} (h : NodesAt b) : TT[b + 2]? = some (.inr (0, 10, [])) := h.2.2.1
theorem nodes_3 {b : Nat} (h : NodesAt b) : TT[b + 3]? = some (.inr (0, 10, [])) := h.2.2.2.1
theorem nodes_4 {b : Nat} (h : NodesAt b) : TT[b + 4]? = some (.inr (0, 10, [])) := h.2.2.2.2.1
theorem nodes_5 {b : Nat} (h : NodesAt b) : TT[b + 5]? = some (.inr (0, 10, [])) := h.2.2.2.2.2.1
theorem nodes_6 {b : Nat} (h : NodesAt b) : TT[b + 6]? = some (.inr (3, 10, [some (b + 7), some (b + 8), some (b + 9), some (b + 10), some (b + 11), some (b + 12), some (b + 13), some (b + 14), some (b + 15), some (b + 16)])) := h.2.2.2.2.2.2.1
theorem nodes_7 {b : Nat} (h : NodesAt b) : TT[b + 7]? = some (.inr (0, 4, [])) := h.2.2.2.2.2.2.2.1
theorem nodes_8 {b : Nat} (h : NodesAt b) : TT[b + 8]? = some (.inr (0, 4, [])) := h.2.2.2.2.2.2.2.2.1
theorem nodes_9 {b : Nat} (h : NodesAt b) : TT[b + 9]? = some (.inr (0, 4, [])) := h.2.2.2.2.2.2.2.2.2.1
theorem nodes_10 {b : Nat} (h : NodesAt b) : TT[b + 10]? = some (.inr (0, 4, [])) := h.2.2.2.2.2.2.2.2.2.2.1
theorem nodes_11 {b : Nat} (h : NodesAt b) : TT[b + 11]? = some (.inr (0, 4, [])) := h.2.2.2.2.2.2.2.2.2.2.2.1
theorem nodes_12 {b : Nat} (h : NodesAt b) : TT[b + 12]? = some (.inr (0, 4, [])) := h.2.2.2.2.2.2.2.2.2.2.2.2.1
theorem nodes_13 {b : Nat} (h : NodesAt b) : TT[b + 13]? = some (.inr (0, 4, [])) := h.2.2.2.2.2.2.2.2.2.2.2.2.2.1
theorem nodes_14 {b : Nat} (h : NodesAt b) : TT[b + 14]? = some (.inr (0, 4, [])) := h.2.2.2.2.2.2.2.2.2.2.2.2.2.2.1
theorem nodes_15 {b : Nat} (h : NodesAt b) : TT[b + 15]? = some (.inr (0, 4, [])) := h.2.2.2.2.2.2.2.2.2.2.2.2.2.2.2.1
theorem nodes_16 {b : Nat} (h : NodesAt b) : TT[b + 16]? = some (.inr (0, 4, [])) := h.2.2.2.2.2.2.2.2.2.2.2.2.2.2.2.2.1
theorem nodes_17 {b : Nat} (h : NodesAt b) : TT[b + 17]? = some (.inr (0, 5, [])) := h.2.2.2.2.2.2.2.2.2.2.2.2.2.2.2.2.2.1
theorem nodes_18 {b : Nat} (h : NodesAt b) : TT[b + 18]? = some (.inr (0, 5, [])) := h.2.2.2.2.2.2.2.2.2.2.2.2.2.2.2.2.2.2
theorem nodes_33_ : NodesAt 33 := ⟨rfl, rfl, rfl, rfl, rfl, rfl, rfl, rfl, rfl, rfl, rfl, rfl, rfl, rfl, rfl, rfl, rfl, rfl, rfl⟩
theorem nodes_62_ : NodesAt 62 := ⟨rfl, rfl, rfl, rfl, rfl, rfl, rfl, rfl, rfl, rfl, rfl, rfl, rfl, rfl, rfl, rfl, rfl, rfl, rfl⟩
theorem nodes_90_ : NodesAt 90 := ⟨rfl, rfl, rfl, rfl, rfl, rfl, rfl, rfl, rfl, rfl, rfl, rfl, rfl, rfl, rfl, rfl, rfl, rfl, rfl⟩
theorem nodes_row {b : Nat} (h : NodesAt b) {j : Nat} (hj : j < 10) : TT[b + 7 + j]? = some (.inr (0, 4, [])) := by
  match j, hj with
  | 0, _ => exact nodes_7 h
  | 1, _ => exact nodes_8 h
  | 2, _ => exact nodes_9 h
  | 3, _ => exact nodes_10 h
  | 4, _ => exact nodes_11 h
  | 5, _ => exact nodes_12 h
  | 6, _ => exact nodes_13 h
  | 7, _ => exact nodes_14 h
  | 8, _ => exact nodes_15 h
  | 9, _ => exact nodes_16 h
  | j + 10, hj => exact absurd hj (by omega)
theorem nodes_rowAt (b : Nat) {j : Nat} (hj : j < 10) : ([some (b + 7), some (b + 8), some (b + 9), some (b + 10), some (b + 11), some (b + 12), some (b + 13), some (b + 14), some (b + 15), some (b + 16)] : List (Option Nat))[j]? = some (some (b + 7 + j)) := by
  match j, hj with
  | 0, _ => rfl
  | 1, _ => rfl
  | 2, _ => rfl
  | 3, _ => rfl
  | 4, _ => rfl
  | 5, _ => rfl
  | 6, _ => rfl
  | 7, _ => rfl
  | 8, _ => rfl
  | 9, _ => rfl
  | j + 10, hj => exact absurd hj (by omega)
def SpanAt (b : Nat): Prop := TT[b]? = some (.inl (7, [some (some (b + 1)), none, some (some 1)])) ∧ TT[b + 1]? = some (.inr (0, 6, []))
theorem span_0 {b : Nat} (h : SpanAt b) : TT[b]? = some (.inl (7, [some (some (b + 1)), none, some (some 1)])) := h.1
theorem span_1 {b : Nat} (h : SpanAt b) : TT[b + 1]? = some (.inr (0, 6, [])) := h.2
theorem span_8_ : SpanAt 8 := ⟨rfl, rfl⟩
theorem span_10_ : SpanAt 10 := ⟨rfl, rfl⟩
theorem span_12_ : SpanAt 12 := ⟨rfl, rfl⟩
theorem span_14_ : SpanAt 14 := ⟨rfl, rfl⟩
theorem span_16_ : SpanAt 16 := ⟨rfl, rfl⟩
theorem span_18_ : SpanAt 18 := ⟨rfl, rfl⟩
theorem span_20_ : SpanAt 20 := ⟨rfl, rfl⟩
theorem span_22_ : SpanAt 22 := ⟨rfl, rfl⟩
theorem span_24_ : SpanAt 24 := ⟨rfl, rfl⟩
theorem span_26_ : SpanAt 26 := ⟨rfl, rfl⟩
theorem span_28_ : SpanAt 28 := ⟨rfl, rfl⟩
theorem span_109_ : SpanAt 109 := ⟨rfl, rfl⟩
theorem span_112_ : SpanAt 112 := ⟨rfl, rfl⟩
theorem span_114_ : SpanAt 114 := ⟨rfl, rfl⟩
theorem span_k {k : Nat} (h : k < 11) : SpanAt (8 + 2 * k) := by
  match k, h with
  | 0, _ => exact span_8_
  | 1, _ => exact span_10_
  | 2, _ => exact span_12_
  | 3, _ => exact span_14_
  | 4, _ => exact span_16_
  | 5, _ => exact span_18_
  | 6, _ => exact span_20_
  | 7, _ => exact span_22_
  | 8, _ => exact span_24_
  | 9, _ => exact span_26_
  | 10, _ => exact span_28_
  | k + 11, h => exact absurd h (by omega)
theorem spans_at {k : Nat} (h : k < 11) : ([some 8, some 10, some 12, some 14, some 16, some 18, some 20, some 22, some 24, some 26, some 28] : List (Option Nat))[k]? = some (some (8 + 2 * k)) := by
  match k, h with
  | 0, _ => rfl
  | 1, _ => rfl
  | 2, _ => rfl
  | 3, _ => rfl
  | 4, _ => rfl
  | 5, _ => rfl
  | 6, _ => rfl
  | 7, _ => rfl
  | 8, _ => rfl
  | 9, _ => rfl
  | 10, _ => rfl
  | k + 11, h => exact absurd h (by omega)
def PairsAt (N b : Nat): Prop := TT[b]? = some (.inl (5, [some (some (b + 1)), some (some (b + 2)), none])) ∧ TT[b + 1]? = some (.inr (0, N, [])) ∧ TT[b + 2]? = some (.inr (0, N, []))
theorem pairs_0 {b : Nat} {N : Nat} (h : PairsAt N b) : TT[b]? = some (.inl (5, [some (some (b + 1)), some (some (b + 2)), none])) := h.1
theorem pairs_1 {b : Nat} {N : Nat} (h : PairsAt N b) : TT[b + 1]? = some (.inr (0, N, [])) := h.2.1
theorem pairs_2 {b : Nat} {N : Nat} (h : PairsAt N b) : TT[b + 2]? = some (.inr (0, N, [])) := h.2.2
theorem pairs_52_ : PairsAt 5 52 := ⟨rfl, rfl, rfl⟩
theorem pairs_55_ : PairsAt 10 55 := ⟨rfl, rfl, rfl⟩
theorem pairs_58_ : PairsAt 8 58 := ⟨rfl, rfl, rfl⟩
theorem pairs_81_ : PairsAt 5 81 := ⟨rfl, rfl, rfl⟩
theorem pairs_84_ : PairsAt 10 84 := ⟨rfl, rfl, rfl⟩
theorem pairs_87_ : PairsAt 8 87 := ⟨rfl, rfl, rfl⟩
def StoreAt (b : Nat) : Prop := TT[b]? = some (.inl (8, [some (some (b + 1)), some (some (b + 20)), some (some (b + 23)), some (some (b + 26))])) ∧ NodesAt (b + 1) ∧ PairsAt 5 (b + 20) ∧ PairsAt 10 (b + 23) ∧ PairsAt 8 (b + 26)
theorem store_0 {b : Nat} (h : StoreAt b) : TT[b]? = some (.inl (8, [some (some (b + 1)), some (some (b + 20)), some (some (b + 23)), some (some (b + 26))])) := h.1
theorem store_n {b : Nat} (h : StoreAt b) : NodesAt (b + 1) := h.2.1
theorem store_p1 {b : Nat} (h : StoreAt b) : PairsAt 5 (b + 20) := h.2.2.1
theorem store_p2 {b : Nat} (h : StoreAt b) : PairsAt 10 (b + 23) := h.2.2.2.1
theorem store_p3 {b : Nat} (h : StoreAt b) : PairsAt 8 (b + 26) := h.2.2.2.2
theorem store_32_ : StoreAt 32 := ⟨rfl, nodes_33_, pairs_52_, pairs_55_, pairs_58_⟩
theorem store_61_ : StoreAt 61 := ⟨rfl, nodes_62_, pairs_81_, pairs_84_, pairs_87_⟩
theorem tapes_k {k : Nat} (h : k < 6) : TT[121 + k]? = some (.inr (2, 60, [])) := by
  match k, h with
  | 0, _ => rfl
  | 1, _ => rfl
  | 2, _ => rfl
  | 3, _ => rfl
  | 4, _ => rfl
  | 5, _ => rfl
  | k + 6, h => exact absurd h (by omega)
theorem tapes_at {k : Nat} (h : k < 6) : ([some 121, some 122, some 123, some 124, some 125, some 126] : List (Option Nat))[k]? = some (some (121 + k)) := by
  match k, h with
  | 0, _ => rfl
  | 1, _ => rfl
  | 2, _ => rfl
  | 3, _ => rfl
  | 4, _ => rfl
  | 5, _ => rfl
  | k + 6, h => exact absurd h (by omega)
/-- contracts of methods that make nothing, by what they answer: Ci an int, Cg a long, Cv nothing -/
abbrev Ci (d : Nat) (y : MethodName) (bytes : ByteArray) (maxL : Nat) (ret : Option FieldType) (As : List Value) (T : List ex_T) (σ : ex_S) (μ : ex_L) (Q : Int32 → ex_S → ex_L → Prop) : Prop :=
  Cl d 0 0 y bytes maxL ret As T σ μ (fun v T' σ' μ' => T' = T ∧ ∃ r, v = some (.int r) ∧ Q r σ' μ')
abbrev Cg (d : Nat) (y : MethodName) (bytes : ByteArray) (maxL : Nat) (ret : Option FieldType) (As : List Value) (T : List ex_T) (σ : ex_S) (μ : ex_L) (Q : Int64 → ex_S → ex_L → Prop) : Prop :=
  Cl d 0 0 y bytes maxL ret As T σ μ (fun v T' σ' μ' => T' = T ∧ ∃ r, v = some (.long r) ∧ Q r σ' μ')
abbrev Cv (d : Nat) (y : MethodName) (bytes : ByteArray) (maxL : Nat) (ret : Option FieldType) (As : List Value) (T : List ex_T) (σ : ex_S) (μ : ex_L) (Q : ex_S → ex_L → Prop) : Prop :=
  Cl d 0 0 y bytes maxL ret As T σ μ (fun v T' σ' μ' => T' = T ∧ v = none ∧ Q σ' μ')
section EVW
variable {own : String} {cc : ByteArray} {nL d mc ms : Nat} {nm : String} {rt : Option FieldType} {ex : List (Nat × Nat × (Nat → Int32))} {n0 : Nat} {Rq : ev_Q} {k n pc : Nat} {lv : List (Nat × Value)} {st : List Value} {T : List ex_T} {σ : ex_S} {μ : ex_L}
theorem e_callVq {idx na d' b ci maxL : Nat} {y : MethodName} {bytes : ByteArray} {ret : Option FieldType} {sl : List (Option (Option Nat))} {As rest : List Value} {Q : Option Value → ex_S → ex_L → Prop} (hd : decode cc pc = .ok (.invokevirtual idx, 3)) (hcv : ev_cvV own idx y bytes maxL ret na) (hna : As.length = na) (hT : T[b]? = some (.inl (ci, sl))) (hc : (vwCl[ci]?).map (fun q => q.1) = some y.cls) (hM : Cl d' 0 0 y bytes maxL ret (.ref b :: As) T σ μ (fun v T' σ' μ' => T' = T ∧ Q v σ' μ')) (hd' : d' + 1 ≤ d) (hk : k ≤ mc) (hk2 : n ≤ ms) (hst0 : st = As.reverse ++ .ref b :: rest) (hst : (rest.map fun v => v.category).sum ≤ 8)
    (K : ∀ (v : Option Value) (σ' : ex_S) (μ' : ex_L), Q v σ' μ' → Ev own cc nL d mc ms nm rt ex n0 Rq k n (pc + 3) lv (v.toList ++ rest) T σ' μ') : Ev own cc nL d mc ms nm rt ex n0 Rq k n pc lv st T σ μ := by
  intro p l e R s m args below meth c dC dI cls ad0 A Qf C F ad H locs ls h1 h2 hH hl
  obtain ⟨c1, c2, c3, c4, c5, c6, c7, c8, c9, c10, c11, c12, c13⟩ := id C
  obtain ⟨⟨w1, w2, w3, w4, w5⟩, w6, w7⟩ := hcv
  subst hst0
  have cw : CallW R s args own y.cls idx y bytes maxL ret (Cond.code y bytes maxL ret :: ev_ws) { frames := d', cells := 0, slots := 0, locals := 60 * d' } 0 0 na :=
    ⟨callB_of na c5 (ev_good w2) rfl rfl rfl (c5 _ w3) (c5 _ w1) w4 ⟨Nat.le_trans hd' c7, by show 8 + (maxL + 11) + 60 * d' ≤ R.locals; omega⟩, c5 _ w6, c5 _ w7⟩
  obtain ⟨q, hq1, hq2⟩ := Option.map_eq_some_iff.mp hc
  have hrc := va_recv c12.1 hH.1 hq1 (ev_w_get (ad := ad) (cls := cls) (σ := σ) (μ := μ) hT)
  rw [hq2] at hrc
  rw [ev_mapcons]
  refine ev_core c11 hH (va_runV (As := As.map (ev_v ad)) (rest := rest.map (ev_v ad)) ⟨c1, c2, c3, c4, c5⟩ (hM l dC dI cls ad H.size) cw ⟨ev_blind, hrc, ev_pre (.ref b :: As) C h1 hH⟩ rfl (by rw [List.length_map]; exact hna) hl.1 rfl (ev_room hst) hd ⟨by omega, by omega⟩) ?_
  intro v2 T' σ2 μ2 ad' H1 locs1 hpr hR ha hle hH1
  obtain ⟨e2, hQ⟩ := hR
  rw [e2] at hH1
  have hH2 : ev_H dC dI cls A s ad T σ2 μ2 H1 locs1 := by
    have e1 := ev_same (σ := σ2) (μ := μ2) (cls := cls) ha hH1.2.2.2
    unfold ev_H at hH1 ⊢
    rw [e1] at hH1
    exact hH1
  have kk := K v2 σ2 μ2 hQ p l e R s m args below meth c dC dI cls ad0 A Qf C F ad H1 locs1 ls h1 h2 hH2 hl
  rw [List.map_append, ev_vl hpr] at kk
  exact kk
theorem e_callVi {idx na d' b ci maxL : Nat} {y : MethodName} {bytes : ByteArray} {ret : Option FieldType} {sl : List (Option (Option Nat))} {As rest : List Value} {Q : Int32 → ex_S → ex_L → Prop} (hd : decode cc pc = .ok (.invokevirtual idx, 3)) (hcv : ev_cvV own idx y bytes maxL ret na) (hna : As.length = na) (hT : T[b]? = some (.inl (ci, sl))) (hc : (vwCl[ci]?).map (fun q => q.1) = some y.cls) (hM : Ci d' y bytes maxL ret (.ref b :: As) T σ μ Q) (hd' : d' + 1 ≤ d) (hk : k ≤ mc) (hk2 : n ≤ ms) (hst0 : st = As.reverse ++ .ref b :: rest) (hst : (rest.map fun v => v.category).sum ≤ 8)
    (K : ∀ (r : Int32) (σ' : ex_S) (μ' : ex_L), Q r σ' μ' → Ev own cc nL d mc ms nm rt ex n0 Rq k n (pc + 3) lv (.int r :: rest) T σ' μ') : Ev own cc nL d mc ms nm rt ex n0 Rq k n pc lv st T σ μ :=
  e_callVq (Q := fun v σ' μ' => ∃ r, v = some (.int r) ∧ Q r σ' μ') hd hcv hna hT hc hM hd' hk hk2 hst0 hst (fun v σ' μ' h => by obtain ⟨r, rfl, h⟩ := h; exact K r σ' μ' h)
theorem e_callVl {idx na d' b ci maxL : Nat} {y : MethodName} {bytes : ByteArray} {ret : Option FieldType} {sl : List (Option (Option Nat))} {As rest : List Value} {Q : Int64 → ex_S → ex_L → Prop} (hd : decode cc pc = .ok (.invokevirtual idx, 3)) (hcv : ev_cvV own idx y bytes maxL ret na) (hna : As.length = na) (hT : T[b]? = some (.inl (ci, sl))) (hc : (vwCl[ci]?).map (fun q => q.1) = some y.cls) (hM : Cg d' y bytes maxL ret (.ref b :: As) T σ μ Q) (hd' : d' + 1 ≤ d) (hk : k ≤ mc) (hk2 : n ≤ ms) (hst0 : st = As.reverse ++ .ref b :: rest) (hst : (rest.map fun v => v.category).sum ≤ 8)
    (K : ∀ (r : Int64) (σ' : ex_S) (μ' : ex_L), Q r σ' μ' → Ev own cc nL d mc ms nm rt ex n0 Rq k n (pc + 3) lv (.long r :: rest) T σ' μ') : Ev own cc nL d mc ms nm rt ex n0 Rq k n pc lv st T σ μ :=
  e_callVq (Q := fun v σ' μ' => ∃ r, v = some (.long r) ∧ Q r σ' μ') hd hcv hna hT hc hM hd' hk hk2 hst0 hst (fun v σ' μ' h => by obtain ⟨r, rfl, h⟩ := h; exact K r σ' μ' h)
theorem e_callVv {idx na d' b ci maxL : Nat} {y : MethodName} {bytes : ByteArray} {ret : Option FieldType} {sl : List (Option (Option Nat))} {As rest : List Value} {Q : ex_S → ex_L → Prop} (hd : decode cc pc = .ok (.invokevirtual idx, 3)) (hcv : ev_cvV own idx y bytes maxL ret na) (hna : As.length = na) (hT : T[b]? = some (.inl (ci, sl))) (hc : (vwCl[ci]?).map (fun q => q.1) = some y.cls) (hM : Cv d' y bytes maxL ret (.ref b :: As) T σ μ Q) (hd' : d' + 1 ≤ d) (hk : k ≤ mc) (hk2 : n ≤ ms) (hst0 : st = As.reverse ++ .ref b :: rest) (hst : (rest.map fun v => v.category).sum ≤ 8)
    (K : ∀ (σ' : ex_S) (μ' : ex_L), Q σ' μ' → Ev own cc nL d mc ms nm rt ex n0 Rq k n (pc + 3) lv rest T σ' μ') : Ev own cc nL d mc ms nm rt ex n0 Rq k n pc lv st T σ μ :=
  e_callVq (Q := fun v σ' μ' => v = none ∧ Q σ' μ') hd hcv hna hT hc hM hd' hk hk2 hst0 hst (fun v σ' μ' h => by obtain ⟨rfl, h⟩ := h; exact K σ' μ' h)
theorem e_callSq {idx na d' maxL : Nat} {y : MethodName} {bytes : ByteArray} {ret : Option FieldType} {As rest : List Value} {Q : Option Value → ex_S → ex_L → Prop} (hd : decode cc pc = .ok (.invokestatic idx, 3)) (hcv : ev_cvS own idx y bytes maxL ret na) (hna : As.length = na) (hM : Cl d' 0 0 y bytes maxL ret (As) T σ μ (fun v T' σ' μ' => T' = T ∧ Q v σ' μ')) (hd' : d' + 1 ≤ d) (hk : k ≤ mc) (hk2 : n ≤ ms) (hst0 : st = As.reverse ++ rest) (hst : (rest.map fun v => v.category).sum ≤ 8)
    (K : ∀ (v : Option Value) (σ' : ex_S) (μ' : ex_L), Q v σ' μ' → Ev own cc nL d mc ms nm rt ex n0 Rq k n (pc + 3) lv (v.toList ++ rest) T σ' μ') : Ev own cc nL d mc ms nm rt ex n0 Rq k n pc lv st T σ μ := by
  intro p l e R s m args below meth c dC dI cls ad0 A Qf C F ad H locs ls h1 h2 hH hl
  obtain ⟨c1, c2, c3, c4, c5, c6, c7, c8, c9, c10, c11, c12, c13⟩ := id C
  obtain ⟨⟨w1, w2, w3, w4, w5⟩, w6⟩ := hcv
  subst hst0
  have cw : CallB R s args own idx y bytes maxL ret (Cond.code y bytes maxL ret :: ev_ws) { frames := d', cells := 0, slots := 0, locals := 60 * d' } 0 0 na ∧ (Cond.static y).before args s = true :=
    ⟨callB_of na c5 (ev_good w2) rfl rfl rfl (c5 _ w3) (c5 _ w1) w4 ⟨Nat.le_trans hd' c7, by show 8 + (maxL + 11) + 60 * d' ≤ R.locals; omega⟩, c5 _ w6⟩
  rw [ev_mapapp]
  refine ev_core c11 hH (va_runS (As := As.map (ev_v ad)) (rest := rest.map (ev_v ad)) ⟨c1, c2, c3, c4, c5⟩ (hM l dC dI cls ad H.size) cw ⟨ev_blind, ev_pre As C h1 hH⟩ rfl (by rw [List.length_map]; exact hna) hl.1 rfl (ev_room hst) hd ⟨by omega, by omega⟩) ?_
  intro v2 T' σ2 μ2 ad' H1 locs1 hpr hR ha hle hH1
  obtain ⟨e2, hQ⟩ := hR
  rw [e2] at hH1
  have hH2 : ev_H dC dI cls A s ad T σ2 μ2 H1 locs1 := by
    have e1 := ev_same (σ := σ2) (μ := μ2) (cls := cls) ha hH1.2.2.2
    unfold ev_H at hH1 ⊢
    rw [e1] at hH1
    exact hH1
  have kk := K v2 σ2 μ2 hQ p l e R s m args below meth c dC dI cls ad0 A Qf C F ad H1 locs1 ls h1 h2 hH2 hl
  rw [List.map_append, ev_vl hpr] at kk
  exact kk
theorem e_callSi {idx na d' maxL : Nat} {y : MethodName} {bytes : ByteArray} {ret : Option FieldType} {As rest : List Value} {Q : Int32 → ex_S → ex_L → Prop} (hd : decode cc pc = .ok (.invokestatic idx, 3)) (hcv : ev_cvS own idx y bytes maxL ret na) (hna : As.length = na) (hM : Ci d' y bytes maxL ret (As) T σ μ Q) (hd' : d' + 1 ≤ d) (hk : k ≤ mc) (hk2 : n ≤ ms) (hst0 : st = As.reverse ++ rest) (hst : (rest.map fun v => v.category).sum ≤ 8)
    (K : ∀ (r : Int32) (σ' : ex_S) (μ' : ex_L), Q r σ' μ' → Ev own cc nL d mc ms nm rt ex n0 Rq k n (pc + 3) lv (.int r :: rest) T σ' μ') : Ev own cc nL d mc ms nm rt ex n0 Rq k n pc lv st T σ μ :=
  e_callSq (Q := fun v σ' μ' => ∃ r, v = some (.int r) ∧ Q r σ' μ') hd hcv hna hM hd' hk hk2 hst0 hst (fun v σ' μ' h => by obtain ⟨r, rfl, h⟩ := h; exact K r σ' μ' h)
theorem e_callSl {idx na d' maxL : Nat} {y : MethodName} {bytes : ByteArray} {ret : Option FieldType} {As rest : List Value} {Q : Int64 → ex_S → ex_L → Prop} (hd : decode cc pc = .ok (.invokestatic idx, 3)) (hcv : ev_cvS own idx y bytes maxL ret na) (hna : As.length = na) (hM : Cg d' y bytes maxL ret (As) T σ μ Q) (hd' : d' + 1 ≤ d) (hk : k ≤ mc) (hk2 : n ≤ ms) (hst0 : st = As.reverse ++ rest) (hst : (rest.map fun v => v.category).sum ≤ 8)
    (K : ∀ (r : Int64) (σ' : ex_S) (μ' : ex_L), Q r σ' μ' → Ev own cc nL d mc ms nm rt ex n0 Rq k n (pc + 3) lv (.long r :: rest) T σ' μ') : Ev own cc nL d mc ms nm rt ex n0 Rq k n pc lv st T σ μ :=
  e_callSq (Q := fun v σ' μ' => ∃ r, v = some (.long r) ∧ Q r σ' μ') hd hcv hna hM hd' hk hk2 hst0 hst (fun v σ' μ' h => by obtain ⟨r, rfl, h⟩ := h; exact K r σ' μ' h)
theorem e_callSv {idx na d' maxL : Nat} {y : MethodName} {bytes : ByteArray} {ret : Option FieldType} {As rest : List Value} {Q : ex_S → ex_L → Prop} (hd : decode cc pc = .ok (.invokestatic idx, 3)) (hcv : ev_cvS own idx y bytes maxL ret na) (hna : As.length = na) (hM : Cv d' y bytes maxL ret (As) T σ μ Q) (hd' : d' + 1 ≤ d) (hk : k ≤ mc) (hk2 : n ≤ ms) (hst0 : st = As.reverse ++ rest) (hst : (rest.map fun v => v.category).sum ≤ 8)
    (K : ∀ (σ' : ex_S) (μ' : ex_L), Q σ' μ' → Ev own cc nL d mc ms nm rt ex n0 Rq k n (pc + 3) lv rest T σ' μ') : Ev own cc nL d mc ms nm rt ex n0 Rq k n pc lv st T σ μ :=
  e_callSq (Q := fun v σ' μ' => v = none ∧ Q σ' μ') hd hcv hna hM hd' hk hk2 hst0 hst (fun v σ' μ' h => by obtain ⟨rfl, h⟩ := h; exact K σ' μ' h)
theorem e_callNq {idx na d' maxL : Nat} {y : MethodName} {bytes : ByteArray} {ret : Option FieldType} {As rest : List Value} {Q : Option Value → ex_S → ex_L → Prop} (hd : decode cc pc = .ok (.invokestatic idx, 3)) (hcv : ev_cvN y bytes maxL ret na) (hnl : ev_nl own idx y) (hna : As.length = na) (hM : Cl d' 0 0 y bytes maxL ret (As) T σ μ (fun v T' σ' μ' => T' = T ∧ Q v σ' μ')) (hd' : d' + 1 ≤ d) (hk : k ≤ mc) (hk2 : n ≤ ms) (hst0 : st = As.reverse ++ rest) (hst : (rest.map fun v => v.category).sum ≤ 8)
    (K : ∀ (v : Option Value) (σ' : ex_S) (μ' : ex_L), Q v σ' μ' → Ev own cc nL d mc ms nm rt ex n0 Rq k n (pc + 3) lv (v.toList ++ rest) T σ' μ') : Ev own cc nL d mc ms nm rt ex n0 Rq k n pc lv st T σ μ := by
  intro p l e R s m args below meth c dC dI cls ad0 A Qf C F ad H locs ls h1 h2 hH hl
  obtain ⟨c1, c2, c3, c4, c5, c6, c7, c8, c9, c10, c11, c12, c13⟩ := id C
  obtain ⟨w6, w2, w3, w4, w5⟩ := hcv
  subst hst0
  have cw : va_CN R s args own idx y RX10 bytes maxL ret (Cond.code y bytes maxL ret :: ev_ws) { frames := d', cells := 0, slots := 0, locals := 60 * d' } 0 0 na ∧ (Cond.static y).before args s = true ∧ True :=
    ⟨va_cnB na c5 (ev_good w2) rfl rfl rfl (hnl dC dI cls s c12) (c5 _ w3) w4 ⟨Nat.le_trans hd' c7, by show 8 + (maxL + 11) + 60 * d' ≤ R.locals; omega⟩, c5 _ w6, trivial⟩
  rw [ev_mapapp]
  refine ev_core c11 hH (va_runSN (As := As.map (ev_v ad)) (rest := rest.map (ev_v ad)) ⟨c1, c2, c3, c4, c5⟩ (hM l dC dI cls ad H.size) cw ⟨ev_blind, ev_pre As C h1 hH⟩ rfl (by rw [List.length_map]; exact hna) hl.1 rfl (ev_room hst) hd ⟨by omega, by omega⟩) ?_
  intro v2 T' σ2 μ2 ad' H1 locs1 hpr hR ha hle hH1
  obtain ⟨e2, hQ⟩ := hR
  rw [e2] at hH1
  have hH2 : ev_H dC dI cls A s ad T σ2 μ2 H1 locs1 := by
    have e1 := ev_same (σ := σ2) (μ := μ2) (cls := cls) ha hH1.2.2.2
    unfold ev_H at hH1 ⊢
    rw [e1] at hH1
    exact hH1
  have kk := K v2 σ2 μ2 hQ p l e R s m args below meth c dC dI cls ad0 A Qf C F ad H1 locs1 ls h1 h2 hH2 hl
  rw [List.map_append, ev_vl hpr] at kk
  exact kk
theorem e_callNi {idx na d' maxL : Nat} {y : MethodName} {bytes : ByteArray} {ret : Option FieldType} {As rest : List Value} {Q : Int32 → ex_S → ex_L → Prop} (hd : decode cc pc = .ok (.invokestatic idx, 3)) (hcv : ev_cvN y bytes maxL ret na) (hnl : ev_nl own idx y) (hna : As.length = na) (hM : Ci d' y bytes maxL ret (As) T σ μ Q) (hd' : d' + 1 ≤ d) (hk : k ≤ mc) (hk2 : n ≤ ms) (hst0 : st = As.reverse ++ rest) (hst : (rest.map fun v => v.category).sum ≤ 8)
    (K : ∀ (r : Int32) (σ' : ex_S) (μ' : ex_L), Q r σ' μ' → Ev own cc nL d mc ms nm rt ex n0 Rq k n (pc + 3) lv (.int r :: rest) T σ' μ') : Ev own cc nL d mc ms nm rt ex n0 Rq k n pc lv st T σ μ :=
  e_callNq (Q := fun v σ' μ' => ∃ r, v = some (.int r) ∧ Q r σ' μ') hd hcv hnl hna hM hd' hk hk2 hst0 hst (fun v σ' μ' h => by obtain ⟨r, rfl, h⟩ := h; exact K r σ' μ' h)
theorem e_callNl {idx na d' maxL : Nat} {y : MethodName} {bytes : ByteArray} {ret : Option FieldType} {As rest : List Value} {Q : Int64 → ex_S → ex_L → Prop} (hd : decode cc pc = .ok (.invokestatic idx, 3)) (hcv : ev_cvN y bytes maxL ret na) (hnl : ev_nl own idx y) (hna : As.length = na) (hM : Cg d' y bytes maxL ret (As) T σ μ Q) (hd' : d' + 1 ≤ d) (hk : k ≤ mc) (hk2 : n ≤ ms) (hst0 : st = As.reverse ++ rest) (hst : (rest.map fun v => v.category).sum ≤ 8)
    (K : ∀ (r : Int64) (σ' : ex_S) (μ' : ex_L), Q r σ' μ' → Ev own cc nL d mc ms nm rt ex n0 Rq k n (pc + 3) lv (.long r :: rest) T σ' μ') : Ev own cc nL d mc ms nm rt ex n0 Rq k n pc lv st T σ μ :=
  e_callNq (Q := fun v σ' μ' => ∃ r, v = some (.long r) ∧ Q r σ' μ') hd hcv hnl hna hM hd' hk hk2 hst0 hst (fun v σ' μ' h => by obtain ⟨r, rfl, h⟩ := h; exact K r σ' μ' h)
theorem e_callNv {idx na d' maxL : Nat} {y : MethodName} {bytes : ByteArray} {ret : Option FieldType} {As rest : List Value} {Q : ex_S → ex_L → Prop} (hd : decode cc pc = .ok (.invokestatic idx, 3)) (hcv : ev_cvN y bytes maxL ret na) (hnl : ev_nl own idx y) (hna : As.length = na) (hM : Cv d' y bytes maxL ret (As) T σ μ Q) (hd' : d' + 1 ≤ d) (hk : k ≤ mc) (hk2 : n ≤ ms) (hst0 : st = As.reverse ++ rest) (hst : (rest.map fun v => v.category).sum ≤ 8)
    (K : ∀ (σ' : ex_S) (μ' : ex_L), Q σ' μ' → Ev own cc nL d mc ms nm rt ex n0 Rq k n (pc + 3) lv rest T σ' μ') : Ev own cc nL d mc ms nm rt ex n0 Rq k n pc lv st T σ μ :=
  e_callNq (Q := fun v σ' μ' => v = none ∧ Q σ' μ') hd hcv hnl hna hM hd' hk hk2 hst0 hst (fun v σ' μ' h => by obtain ⟨rfl, h⟩ := h; exact K σ' μ' h)
theorem e_nameL {x : Int64} (K : ∀ y : Int64, y = x → Ev own cc nL d mc ms nm rt ex n0 Rq k n pc lv (.long y :: st) T σ μ) : Ev own cc nL d mc ms nm rt ex n0 Rq k n pc lv (.long x :: st) T σ μ := K x rfl
theorem e_reti {x : Int32} {Q : Int32 → ex_S → ex_L → Prop} (hd : decode cc pc = .ok (.ireturn, 1)) (hn : ev_nw rt x) (hk : k ≤ mc) (hk2 : n ≤ ms) (hQ : Q x σ μ) : Ev own cc nL d mc ms nm rt ex n0 (fun v T' σ' μ' => T' = T ∧ ∃ r, v = some (.int r) ∧ Q r σ' μ') k n pc lv [.int x] T σ μ := e_ret hd hn hk hk2 ⟨rfl, x, rfl, hQ⟩
theorem e_retl {x : Int64} {Q : Int64 → ex_S → ex_L → Prop} (hd : decode cc pc = .ok (.lreturn, 1)) (hk : k ≤ mc) (hk2 : n ≤ ms) (hQ : Q x σ μ) : Ev own cc nL d mc ms nm (some .long) ex n0 (fun v T' σ' μ' => T' = T ∧ ∃ r, v = some (.long r) ∧ Q r σ' μ') k n pc lv [.long x] T σ μ := e_lret hd rfl hk hk2 ⟨rfl, x, rfl, hQ⟩
theorem e_retv {Q : ex_S → ex_L → Prop} (hd : decode cc pc = .ok (.return_, 1)) (hk : k ≤ mc) (hk2 : n ≤ ms) (hQ : Q σ μ) : Ev own cc nL d mc ms nm none ex n0 (fun v T' σ' μ' => T' = T ∧ v = none ∧ Q σ' μ') k n pc lv [] T σ μ := e_vret hd rfl hk hk2 ⟨rfl, rfl, hQ⟩
theorem ev_nwi {x : Int32} : ev_nw (some .int) x := ⟨_, rfl, rfl⟩
theorem ev_nwb {x : Int32} (h : x = 0 ∨ x = 1) : ev_nw (some .boolean) x := by
  rcases h with rfl | rfl <;> exact ⟨_, rfl, by decide +kernel⟩
theorem ev_nw0 : ev_nw (some .boolean) 0 := ev_nwb (Or.inl rfl)
theorem ev_nw1 : ev_nw (some .boolean) 1 := ev_nwb (Or.inr rfl)
/-- a boolean as the machine has it -/
def bI (p : Prop) [Decidable p] : Int32 := if p then 1 else 0
theorem bI_01 (p : Prop) [Decidable p] : bI p = 0 ∨ bI p = 1 := by
  unfold bI
  split
  · exact Or.inr rfl
  · exact Or.inl rfl
theorem bI_t {p : Prop} [Decidable p] (h : p) : bI p = 1 := if_pos h
theorem bI_f {p : Prop} [Decidable p] (h : ¬ p) : bI p = 0 := if_neg h
theorem bI_eq1 {p : Prop} [Decidable p] : bI p = 1 ↔ p := by
  unfold bI
  split <;> simp [*]
theorem bI_eq0 {p : Prop} [Decidable p] : bI p = 0 ↔ ¬ p := by
  unfold bI
  split <;> simp [*]
end EVW

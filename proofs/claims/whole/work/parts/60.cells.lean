/-! the layout, cell by cell -/
theorem qc_0 : SHP[0]? = some (.inl (11, [some (some 1), some (some 65), some (some 129), some (some 131), some (some 152), some (some 155), some (some 159), none])) := rfl
theorem qc_1 : SHP[1]? = some (.inl (10, [some (some 2), some (some 3), some (some 4), some (some 5), some (some 6), some (some 11), some (some 15), none, none, none, none, none, none, none])) := rfl
theorem qc_2 : SHP[2]? = some (.inr (.inr (1, [some 19, some 22, some 25, some 28, some 31, some 34]))) := rfl
theorem qc_3 : SHP[3]? = some (.inr (.inr (2, [some 37, some 38, some 39, some 40, some 41, some 42, some 43, some 44, some 45, some 46, some 47, some 48, some 49, some 50, some 51, some 52]))) := rfl
theorem qc_4 : SHP[4]? = some (.inr (.inr (3, [some 53, some 54, some 55, some 56, some 57, some 58, some 59, some 60, some 61, some 62, some 63, some 64]))) := rfl
theorem qc_5 : SHP[5]? = some (.inr (.inl 24)) := rfl
theorem qc_6 : SHP[6]? = some (.inl (9, [some (some 7), some (some 8), some (some 9), some (some 10), none, none])) := rfl
theorem qc_7 : SHP[7]? = some (.inr (.inl 60)) := rfl
theorem qc_8 : SHP[8]? = some (.inr (.inl 60)) := rfl
theorem qc_9 : SHP[9]? = some (.inr (.inl 60)) := rfl
theorem qc_10 : SHP[10]? = some (.inr (.inl 60)) := rfl
theorem qc_11 : SHP[11]? = some (.inl (1, [some (some 12), some (some 13), some (some 14), none])) := rfl
theorem qc_12 : SHP[12]? = some (.inr (.inl 7)) := rfl
theorem qc_13 : SHP[13]? = some (.inr (.inl 7)) := rfl
theorem qc_14 : SHP[14]? = some (.inr (.inl 7)) := rfl
theorem qc_15 : SHP[15]? = some (.inl (1, [some (some 16), some (some 17), some (some 18), none])) := rfl
theorem qc_16 : SHP[16]? = some (.inr (.inl 7)) := rfl
theorem qc_17 : SHP[17]? = some (.inr (.inl 7)) := rfl
theorem qc_18 : SHP[18]? = some (.inr (.inl 7)) := rfl
theorem qc_19 : SHP[19]? = some (.inl (6, [none, none, none, none, none, none, none, none, none, none, some (some 20), some (some 21)])) := rfl
theorem qc_20 : SHP[20]? = some (.inr (.inl 12)) := rfl
theorem qc_21 : SHP[21]? = some (.inr (.inl 16)) := rfl
theorem qc_22 : SHP[22]? = some (.inl (6, [none, none, none, none, none, none, none, none, none, none, some (some 23), some (some 24)])) := rfl
theorem qc_23 : SHP[23]? = some (.inr (.inl 12)) := rfl
theorem qc_24 : SHP[24]? = some (.inr (.inl 16)) := rfl
theorem qc_25 : SHP[25]? = some (.inl (6, [none, none, none, none, none, none, none, none, none, none, some (some 26), some (some 27)])) := rfl
theorem qc_26 : SHP[26]? = some (.inr (.inl 12)) := rfl
theorem qc_27 : SHP[27]? = some (.inr (.inl 16)) := rfl
theorem qc_28 : SHP[28]? = some (.inl (6, [none, none, none, none, none, none, none, none, none, none, some (some 29), some (some 30)])) := rfl
theorem qc_29 : SHP[29]? = some (.inr (.inl 12)) := rfl
theorem qc_30 : SHP[30]? = some (.inr (.inl 16)) := rfl
theorem qc_31 : SHP[31]? = some (.inl (6, [none, none, none, none, none, none, none, none, none, none, some (some 32), some (some 33)])) := rfl
theorem qc_32 : SHP[32]? = some (.inr (.inl 12)) := rfl
theorem qc_33 : SHP[33]? = some (.inr (.inl 16)) := rfl
theorem qc_34 : SHP[34]? = some (.inl (6, [none, none, none, none, none, none, none, none, none, none, some (some 35), some (some 36)])) := rfl
theorem qc_35 : SHP[35]? = some (.inr (.inl 12)) := rfl
theorem qc_36 : SHP[36]? = some (.inr (.inl 16)) := rfl
theorem qc_37 : SHP[37]? = some (.inl (5, [none, none, none, none, none, none])) := rfl
theorem qc_38 : SHP[38]? = some (.inl (5, [none, none, none, none, none, none])) := rfl
theorem qc_39 : SHP[39]? = some (.inl (5, [none, none, none, none, none, none])) := rfl
theorem qc_40 : SHP[40]? = some (.inl (5, [none, none, none, none, none, none])) := rfl
theorem qc_41 : SHP[41]? = some (.inl (5, [none, none, none, none, none, none])) := rfl
theorem qc_42 : SHP[42]? = some (.inl (5, [none, none, none, none, none, none])) := rfl
theorem qc_43 : SHP[43]? = some (.inl (5, [none, none, none, none, none, none])) := rfl
theorem qc_44 : SHP[44]? = some (.inl (5, [none, none, none, none, none, none])) := rfl
theorem qc_45 : SHP[45]? = some (.inl (5, [none, none, none, none, none, none])) := rfl
theorem qc_46 : SHP[46]? = some (.inl (5, [none, none, none, none, none, none])) := rfl
theorem qc_47 : SHP[47]? = some (.inl (5, [none, none, none, none, none, none])) := rfl
theorem qc_48 : SHP[48]? = some (.inl (5, [none, none, none, none, none, none])) := rfl
theorem qc_49 : SHP[49]? = some (.inl (5, [none, none, none, none, none, none])) := rfl
theorem qc_50 : SHP[50]? = some (.inl (5, [none, none, none, none, none, none])) := rfl
theorem qc_51 : SHP[51]? = some (.inl (5, [none, none, none, none, none, none])) := rfl
theorem qc_52 : SHP[52]? = some (.inl (5, [none, none, none, none, none, none])) := rfl
theorem qc_53 : SHP[53]? = some (.inl (2, [none, none, none, none, none, none, none, none, none, none, none, none, none, none, none])) := rfl
theorem qc_54 : SHP[54]? = some (.inl (2, [none, none, none, none, none, none, none, none, none, none, none, none, none, none, none])) := rfl
theorem qc_55 : SHP[55]? = some (.inl (2, [none, none, none, none, none, none, none, none, none, none, none, none, none, none, none])) := rfl
theorem qc_56 : SHP[56]? = some (.inl (2, [none, none, none, none, none, none, none, none, none, none, none, none, none, none, none])) := rfl
theorem qc_57 : SHP[57]? = some (.inl (2, [none, none, none, none, none, none, none, none, none, none, none, none, none, none, none])) := rfl
theorem qc_58 : SHP[58]? = some (.inl (2, [none, none, none, none, none, none, none, none, none, none, none, none, none, none, none])) := rfl
theorem qc_59 : SHP[59]? = some (.inl (2, [none, none, none, none, none, none, none, none, none, none, none, none, none, none, none])) := rfl
theorem qc_60 : SHP[60]? = some (.inl (2, [none, none, none, none, none, none, none, none, none, none, none, none, none, none, none])) := rfl
theorem qc_61 : SHP[61]? = some (.inl (2, [none, none, none, none, none, none, none, none, none, none, none, none, none, none, none])) := rfl
theorem qc_62 : SHP[62]? = some (.inl (2, [none, none, none, none, none, none, none, none, none, none, none, none, none, none, none])) := rfl
theorem qc_63 : SHP[63]? = some (.inl (2, [none, none, none, none, none, none, none, none, none, none, none, none, none, none, none])) := rfl
theorem qc_64 : SHP[64]? = some (.inl (2, [none, none, none, none, none, none, none, none, none, none, none, none, none, none, none])) := rfl
theorem qc_65 : SHP[65]? = some (.inl (10, [some (some 66), some (some 67), some (some 68), some (some 69), some (some 70), some (some 75), some (some 79), none, none, none, none, none, none, none])) := rfl
theorem qc_66 : SHP[66]? = some (.inr (.inr (1, [some 83, some 86, some 89, some 92, some 95, some 98]))) := rfl
theorem qc_67 : SHP[67]? = some (.inr (.inr (2, [some 101, some 102, some 103, some 104, some 105, some 106, some 107, some 108, some 109, some 110, some 111, some 112, some 113, some 114, some 115, some 116]))) := rfl
theorem qc_68 : SHP[68]? = some (.inr (.inr (3, [some 117, some 118, some 119, some 120, some 121, some 122, some 123, some 124, some 125, some 126, some 127, some 128]))) := rfl
theorem qc_69 : SHP[69]? = some (.inr (.inl 24)) := rfl
theorem qc_70 : SHP[70]? = some (.inl (9, [some (some 71), some (some 72), some (some 73), some (some 74), none, none])) := rfl
theorem qc_71 : SHP[71]? = some (.inr (.inl 60)) := rfl
theorem qc_72 : SHP[72]? = some (.inr (.inl 60)) := rfl
theorem qc_73 : SHP[73]? = some (.inr (.inl 60)) := rfl
theorem qc_74 : SHP[74]? = some (.inr (.inl 60)) := rfl
theorem qc_75 : SHP[75]? = some (.inl (1, [some (some 76), some (some 77), some (some 78), none])) := rfl
theorem qc_76 : SHP[76]? = some (.inr (.inl 7)) := rfl
theorem qc_77 : SHP[77]? = some (.inr (.inl 7)) := rfl
theorem qc_78 : SHP[78]? = some (.inr (.inl 7)) := rfl
theorem qc_79 : SHP[79]? = some (.inl (1, [some (some 80), some (some 81), some (some 82), none])) := rfl
theorem qc_80 : SHP[80]? = some (.inr (.inl 7)) := rfl
theorem qc_81 : SHP[81]? = some (.inr (.inl 7)) := rfl
theorem qc_82 : SHP[82]? = some (.inr (.inl 7)) := rfl
theorem qc_83 : SHP[83]? = some (.inl (6, [none, none, none, none, none, none, none, none, none, none, some (some 84), some (some 85)])) := rfl
theorem qc_84 : SHP[84]? = some (.inr (.inl 12)) := rfl
theorem qc_85 : SHP[85]? = some (.inr (.inl 16)) := rfl
theorem qc_86 : SHP[86]? = some (.inl (6, [none, none, none, none, none, none, none, none, none, none, some (some 87), some (some 88)])) := rfl
theorem qc_87 : SHP[87]? = some (.inr (.inl 12)) := rfl
theorem qc_88 : SHP[88]? = some (.inr (.inl 16)) := rfl
theorem qc_89 : SHP[89]? = some (.inl (6, [none, none, none, none, none, none, none, none, none, none, some (some 90), some (some 91)])) := rfl
theorem qc_90 : SHP[90]? = some (.inr (.inl 12)) := rfl
theorem qc_91 : SHP[91]? = some (.inr (.inl 16)) := rfl
theorem qc_92 : SHP[92]? = some (.inl (6, [none, none, none, none, none, none, none, none, none, none, some (some 93), some (some 94)])) := rfl
theorem qc_93 : SHP[93]? = some (.inr (.inl 12)) := rfl
theorem qc_94 : SHP[94]? = some (.inr (.inl 16)) := rfl
theorem qc_95 : SHP[95]? = some (.inl (6, [none, none, none, none, none, none, none, none, none, none, some (some 96), some (some 97)])) := rfl
theorem qc_96 : SHP[96]? = some (.inr (.inl 12)) := rfl
theorem qc_97 : SHP[97]? = some (.inr (.inl 16)) := rfl
theorem qc_98 : SHP[98]? = some (.inl (6, [none, none, none, none, none, none, none, none, none, none, some (some 99), some (some 100)])) := rfl
theorem qc_99 : SHP[99]? = some (.inr (.inl 12)) := rfl
theorem qc_100 : SHP[100]? = some (.inr (.inl 16)) := rfl
theorem qc_101 : SHP[101]? = some (.inl (5, [none, none, none, none, none, none])) := rfl
theorem qc_102 : SHP[102]? = some (.inl (5, [none, none, none, none, none, none])) := rfl
theorem qc_103 : SHP[103]? = some (.inl (5, [none, none, none, none, none, none])) := rfl
theorem qc_104 : SHP[104]? = some (.inl (5, [none, none, none, none, none, none])) := rfl
theorem qc_105 : SHP[105]? = some (.inl (5, [none, none, none, none, none, none])) := rfl
theorem qc_106 : SHP[106]? = some (.inl (5, [none, none, none, none, none, none])) := rfl
theorem qc_107 : SHP[107]? = some (.inl (5, [none, none, none, none, none, none])) := rfl
theorem qc_108 : SHP[108]? = some (.inl (5, [none, none, none, none, none, none])) := rfl
theorem qc_109 : SHP[109]? = some (.inl (5, [none, none, none, none, none, none])) := rfl
theorem qc_110 : SHP[110]? = some (.inl (5, [none, none, none, none, none, none])) := rfl
theorem qc_111 : SHP[111]? = some (.inl (5, [none, none, none, none, none, none])) := rfl
theorem qc_112 : SHP[112]? = some (.inl (5, [none, none, none, none, none, none])) := rfl
theorem qc_113 : SHP[113]? = some (.inl (5, [none, none, none, none, none, none])) := rfl
theorem qc_114 : SHP[114]? = some (.inl (5, [none, none, none, none, none, none])) := rfl
theorem qc_115 : SHP[115]? = some (.inl (5, [none, none, none, none, none, none])) := rfl
theorem qc_116 : SHP[116]? = some (.inl (5, [none, none, none, none, none, none])) := rfl
theorem qc_117 : SHP[117]? = some (.inl (2, [none, none, none, none, none, none, none, none, none, none, none, none, none, none, none])) := rfl
theorem qc_118 : SHP[118]? = some (.inl (2, [none, none, none, none, none, none, none, none, none, none, none, none, none, none, none])) := rfl
theorem qc_119 : SHP[119]? = some (.inl (2, [none, none, none, none, none, none, none, none, none, none, none, none, none, none, none])) := rfl
theorem qc_120 : SHP[120]? = some (.inl (2, [none, none, none, none, none, none, none, none, none, none, none, none, none, none, none])) := rfl
theorem qc_121 : SHP[121]? = some (.inl (2, [none, none, none, none, none, none, none, none, none, none, none, none, none, none, none])) := rfl
theorem qc_122 : SHP[122]? = some (.inl (2, [none, none, none, none, none, none, none, none, none, none, none, none, none, none, none])) := rfl
theorem qc_123 : SHP[123]? = some (.inl (2, [none, none, none, none, none, none, none, none, none, none, none, none, none, none, none])) := rfl
theorem qc_124 : SHP[124]? = some (.inl (2, [none, none, none, none, none, none, none, none, none, none, none, none, none, none, none])) := rfl
theorem qc_125 : SHP[125]? = some (.inl (2, [none, none, none, none, none, none, none, none, none, none, none, none, none, none, none])) := rfl
theorem qc_126 : SHP[126]? = some (.inl (2, [none, none, none, none, none, none, none, none, none, none, none, none, none, none, none])) := rfl
theorem qc_127 : SHP[127]? = some (.inl (2, [none, none, none, none, none, none, none, none, none, none, none, none, none, none, none])) := rfl
theorem qc_128 : SHP[128]? = some (.inl (2, [none, none, none, none, none, none, none, none, none, none, none, none, none, none, none])) := rfl
theorem qc_129 : SHP[129]? = some (.inl (8, [some (some 130), none, none, none, none, none, none, none, none])) := rfl
theorem qc_130 : SHP[130]? = some (.inr (.inl 100)) := rfl
theorem qc_131 : SHP[131]? = some (.inl (4, [some (some 132), some (some 133), some (some 134), some (some 135), some (some 136), some (some 144), none, some (some 151), none, none, none])) := rfl
theorem qc_132 : SHP[132]? = some (.inr (.inl 6)) := rfl
theorem qc_133 : SHP[133]? = some (.inr (.inl 6)) := rfl
theorem qc_134 : SHP[134]? = some (.inr (.inl 7)) := rfl
theorem qc_135 : SHP[135]? = some (.inr (.inl 7)) := rfl
theorem qc_136 : SHP[136]? = some (.inr (.inr (4, [some 137, some 138, some 139, some 140, some 141, some 142, some 143]))) := rfl
theorem qc_137 : SHP[137]? = some (.inr (.inl 201)) := rfl
theorem qc_138 : SHP[138]? = some (.inr (.inl 201)) := rfl
theorem qc_139 : SHP[139]? = some (.inr (.inl 201)) := rfl
theorem qc_140 : SHP[140]? = some (.inr (.inl 201)) := rfl
theorem qc_141 : SHP[141]? = some (.inr (.inl 201)) := rfl
theorem qc_142 : SHP[142]? = some (.inr (.inl 201)) := rfl
theorem qc_143 : SHP[143]? = some (.inr (.inl 201)) := rfl
theorem qc_144 : SHP[144]? = some (.inr (.inr (4, [some 145, some 146, some 147, some 148, some 149, some 150]))) := rfl
theorem qc_145 : SHP[145]? = some (.inr (.inl 201)) := rfl
theorem qc_146 : SHP[146]? = some (.inr (.inl 201)) := rfl
theorem qc_147 : SHP[147]? = some (.inr (.inl 201)) := rfl
theorem qc_148 : SHP[148]? = some (.inr (.inl 201)) := rfl
theorem qc_149 : SHP[149]? = some (.inr (.inl 201)) := rfl
theorem qc_150 : SHP[150]? = some (.inr (.inl 201)) := rfl
theorem qc_151 : SHP[151]? = some (.inr (.inl 6)) := rfl
theorem qc_152 : SHP[152]? = some (.inl (7, [some (some 153), some (some 154)])) := rfl
theorem qc_153 : SHP[153]? = some (.inr (.inl 16)) := rfl
theorem qc_154 : SHP[154]? = some (.inr (.inl 16)) := rfl
theorem qc_155 : SHP[155]? = some (.inl (0, [some (some 156), some (some 157), some (some 158)])) := rfl
theorem qc_156 : SHP[156]? = some (.inr (.inl 6)) := rfl
theorem qc_157 : SHP[157]? = some (.inr (.inl 6)) := rfl
theorem qc_158 : SHP[158]? = some (.inr (.inl 12)) := rfl
theorem qc_159 : SHP[159]? = some (.inl (3, [some (some 160), some (some 169), some (some 177), none, none])) := rfl
theorem qc_160 : SHP[160]? = some (.inr (.inr (4, [some 161, some 162, some 163, some 164, some 165, some 166, some 167, some 168]))) := rfl
theorem qc_161 : SHP[161]? = some (.inr (.inl 128)) := rfl
theorem qc_162 : SHP[162]? = some (.inr (.inl 128)) := rfl
theorem qc_163 : SHP[163]? = some (.inr (.inl 128)) := rfl
theorem qc_164 : SHP[164]? = some (.inr (.inl 128)) := rfl
theorem qc_165 : SHP[165]? = some (.inr (.inl 128)) := rfl
theorem qc_166 : SHP[166]? = some (.inr (.inl 128)) := rfl
theorem qc_167 : SHP[167]? = some (.inr (.inl 128)) := rfl
theorem qc_168 : SHP[168]? = some (.inr (.inl 128)) := rfl
theorem qc_169 : SHP[169]? = some (.inr (.inr (4, [some 170, some 171, some 172, some 173, some 174, some 175, some 176]))) := rfl
theorem qc_170 : SHP[170]? = some (.inr (.inl 7)) := rfl
theorem qc_171 : SHP[171]? = some (.inr (.inl 7)) := rfl
theorem qc_172 : SHP[172]? = some (.inr (.inl 7)) := rfl
theorem qc_173 : SHP[173]? = some (.inr (.inl 7)) := rfl
theorem qc_174 : SHP[174]? = some (.inr (.inl 7)) := rfl
theorem qc_175 : SHP[175]? = some (.inr (.inl 7)) := rfl
theorem qc_176 : SHP[176]? = some (.inr (.inl 7)) := rfl
theorem qc_177 : SHP[177]? = some (.inr (.inl 7)) := rfl
theorem qc_178 : SHP[178]? = some (.inl (12, [some (some 179), some (some 180), some (some 181), some (some 182), some (some 183), some (some 184), some (some 185), some (some 186), some (some 187), some (some 188), some (some 189), some (some 190), some (some 191), some (some 192), none, none, none, some (some 193), none, none, none, none, none, none, some (some 194), some (some 195), some (some 196), some (some 197), some (some 198), some (some 199), none, some (some 200), none])) := rfl
theorem qc_179 : SHP[179]? = some (.inr (.inl 10)) := rfl
theorem qc_180 : SHP[180]? = some (.inr (.inl 63)) := rfl
theorem qc_181 : SHP[181]? = some (.inr (.inl 72)) := rfl
theorem qc_182 : SHP[182]? = some (.inr (.inl 96)) := rfl
theorem qc_183 : SHP[183]? = some (.inr (.inl 192)) := rfl
theorem qc_184 : SHP[184]? = some (.inr (.inl 24)) := rfl
theorem qc_185 : SHP[185]? = some (.inr (.inl 240)) := rfl
theorem qc_186 : SHP[186]? = some (.inr (.inl 42)) := rfl
theorem qc_187 : SHP[187]? = some (.inr (.inl 1407)) := rfl
theorem qc_188 : SHP[188]? = some (.inr (.inl 1407)) := rfl
theorem qc_189 : SHP[189]? = some (.inr (.inl 1407)) := rfl
theorem qc_190 : SHP[190]? = some (.inr (.inl 8)) := rfl
theorem qc_191 : SHP[191]? = some (.inr (.inl 8)) := rfl
theorem qc_192 : SHP[192]? = some (.inr (.inl 8)) := rfl
theorem qc_193 : SHP[193]? = some (.inr (.inl 100)) := rfl
theorem qc_194 : SHP[194]? = some (.inr (.inl 16)) := rfl
theorem qc_195 : SHP[195]? = some (.inr (.inl 16)) := rfl
theorem qc_196 : SHP[196]? = some (.inr (.inl 6)) := rfl
theorem qc_197 : SHP[197]? = some (.inr (.inl 6)) := rfl
theorem qc_198 : SHP[198]? = some (.inr (.inl 12)) := rfl
theorem qc_199 : SHP[199]? = some (.inr (.inl 1024)) := rfl
theorem qc_200 : SHP[200]? = some (.inr (.inl 745)) := rfl
theorem qs_site : ∀ s, s < 6 → SHP[19 + 3 * s]? = some (.inl (6, [none, none, none, none, none, none, none, none, none, none, some (some (20 + 3 * s)), some (some (21 + 3 * s))]))
  | 0, _ => rfl
  | 1, _ => rfl
  | 2, _ => rfl
  | 3, _ => rfl
  | 4, _ => rfl
  | 5, _ => rfl
  | s + 6, h => absurd h (by omega)
theorem qs_queue : ∀ s, s < 6 → SHP[20 + 3 * s]? = some (.inr (.inl 12))
  | 0, _ => rfl
  | 1, _ => rfl
  | 2, _ => rfl
  | 3, _ => rfl
  | 4, _ => rfl
  | 5, _ => rfl
  | s + 6, h => absurd h (by omega)
theorem qs_splug : ∀ s, s < 6 → SHP[21 + 3 * s]? = some (.inr (.inl 16))
  | 0, _ => rfl
  | 1, _ => rfl
  | 2, _ => rfl
  | 3, _ => rfl
  | 4, _ => rfl
  | 5, _ => rfl
  | s + 6, h => absurd h (by omega)
theorem qs_plug : ∀ s, s < 16 → SHP[37 + s]? = some (.inl (5, [none, none, none, none, none, none]))
  | 0, _ => rfl
  | 1, _ => rfl
  | 2, _ => rfl
  | 3, _ => rfl
  | 4, _ => rfl
  | 5, _ => rfl
  | 6, _ => rfl
  | 7, _ => rfl
  | 8, _ => rfl
  | 9, _ => rfl
  | 10, _ => rfl
  | 11, _ => rfl
  | 12, _ => rfl
  | 13, _ => rfl
  | 14, _ => rfl
  | 15, _ => rfl
  | s + 16, h => absurd h (by omega)
theorem qs_car : ∀ s, s < 12 → SHP[53 + s]? = some (.inl (2, [none, none, none, none, none, none, none, none, none, none, none, none, none, none, none]))
  | 0, _ => rfl
  | 1, _ => rfl
  | 2, _ => rfl
  | 3, _ => rfl
  | 4, _ => rfl
  | 5, _ => rfl
  | 6, _ => rfl
  | 7, _ => rfl
  | 8, _ => rfl
  | 9, _ => rfl
  | 10, _ => rfl
  | 11, _ => rfl
  | s + 12, h => absurd h (by omega)
theorem qk_site : ∀ s, s < 6 → SHP[83 + 3 * s]? = some (.inl (6, [none, none, none, none, none, none, none, none, none, none, some (some (84 + 3 * s)), some (some (85 + 3 * s))]))
  | 0, _ => rfl
  | 1, _ => rfl
  | 2, _ => rfl
  | 3, _ => rfl
  | 4, _ => rfl
  | 5, _ => rfl
  | s + 6, h => absurd h (by omega)
theorem qk_queue : ∀ s, s < 6 → SHP[84 + 3 * s]? = some (.inr (.inl 12))
  | 0, _ => rfl
  | 1, _ => rfl
  | 2, _ => rfl
  | 3, _ => rfl
  | 4, _ => rfl
  | 5, _ => rfl
  | s + 6, h => absurd h (by omega)
theorem qk_splug : ∀ s, s < 6 → SHP[85 + 3 * s]? = some (.inr (.inl 16))
  | 0, _ => rfl
  | 1, _ => rfl
  | 2, _ => rfl
  | 3, _ => rfl
  | 4, _ => rfl
  | 5, _ => rfl
  | s + 6, h => absurd h (by omega)
theorem qk_plug : ∀ s, s < 16 → SHP[101 + s]? = some (.inl (5, [none, none, none, none, none, none]))
  | 0, _ => rfl
  | 1, _ => rfl
  | 2, _ => rfl
  | 3, _ => rfl
  | 4, _ => rfl
  | 5, _ => rfl
  | 6, _ => rfl
  | 7, _ => rfl
  | 8, _ => rfl
  | 9, _ => rfl
  | 10, _ => rfl
  | 11, _ => rfl
  | 12, _ => rfl
  | 13, _ => rfl
  | 14, _ => rfl
  | 15, _ => rfl
  | s + 16, h => absurd h (by omega)
theorem qk_car : ∀ s, s < 12 → SHP[117 + s]? = some (.inl (2, [none, none, none, none, none, none, none, none, none, none, none, none, none, none, none]))
  | 0, _ => rfl
  | 1, _ => rfl
  | 2, _ => rfl
  | 3, _ => rfl
  | 4, _ => rfl
  | 5, _ => rfl
  | 6, _ => rfl
  | 7, _ => rfl
  | 8, _ => rfl
  | 9, _ => rfl
  | 10, _ => rfl
  | 11, _ => rfl
  | s + 12, h => absurd h (by omega)
theorem qs_arr : ∀ s, s < 7 → SHP[137 + s]? = some (.inr (.inl 201))
  | 0, _ => rfl
  | 1, _ => rfl
  | 2, _ => rfl
  | 3, _ => rfl
  | 4, _ => rfl
  | 5, _ => rfl
  | 6, _ => rfl
  | s + 7, h => absurd h (by omega)
theorem qs_chg : ∀ s, s < 6 → SHP[145 + s]? = some (.inr (.inl 201))
  | 0, _ => rfl
  | 1, _ => rfl
  | 2, _ => rfl
  | 3, _ => rfl
  | 4, _ => rfl
  | 5, _ => rfl
  | s + 6, h => absurd h (by omega)
theorem qs_best : ∀ s, s < 8 → SHP[161 + s]? = some (.inr (.inl 128))
  | 0, _ => rfl
  | 1, _ => rfl
  | 2, _ => rfl
  | 3, _ => rfl
  | 4, _ => rfl
  | 5, _ => rfl
  | 6, _ => rfl
  | 7, _ => rfl
  | s + 8, h => absurd h (by omega)
theorem qs_sco : ∀ s, s < 7 → SHP[170 + s]? = some (.inr (.inl 7))
  | 0, _ => rfl
  | 1, _ => rfl
  | 2, _ => rfl
  | 3, _ => rfl
  | 4, _ => rfl
  | 5, _ => rfl
  | 6, _ => rfl
  | s + 7, h => absurd h (by omega)
theorem qr_site : ∀ s, s < 6 → zk_rdR SHP (.ref 2) (.int (nI s)) = some (.ref (19 + 3 * s)) := by decide +kernel
theorem qr_plug : ∀ s, s < 16 → zk_rdR SHP (.ref 3) (.int (nI s)) = some (.ref (37 + s)) := by decide +kernel
theorem qr_car : ∀ s, s < 12 → zk_rdR SHP (.ref 4) (.int (nI s)) = some (.ref (53 + s)) := by decide +kernel
theorem qr_ksite : ∀ s, s < 6 → zk_rdR SHP (.ref 66) (.int (nI s)) = some (.ref (83 + 3 * s)) := by decide +kernel
theorem qr_kplug : ∀ s, s < 16 → zk_rdR SHP (.ref 67) (.int (nI s)) = some (.ref (101 + s)) := by decide +kernel
theorem qr_kcar : ∀ s, s < 12 → zk_rdR SHP (.ref 68) (.int (nI s)) = some (.ref (117 + s)) := by decide +kernel
theorem qr_arr : ∀ s, s < 7 → zk_rdR SHP (.ref 136) (.int (nI s)) = some (.ref (137 + s)) := by decide +kernel
theorem qr_chg : ∀ s, s < 6 → zk_rdR SHP (.ref 144) (.int (nI s)) = some (.ref (145 + s)) := by decide +kernel
theorem qr_best : ∀ s, s < 8 → zk_rdR SHP (.ref 160) (.int (nI s)) = some (.ref (161 + s)) := by decide +kernel
theorem qr_sco : ∀ s, s < 7 → zk_rdR SHP (.ref 169) (.int (nI s)) = some (.ref (170 + s)) := by decide +kernel
theorem qf_site_0 (s : Nat) (hs : s < 6) (h : zk_H) : zk_rdF SHP 6 0 (.ref (19 + 3 * s)) h = some (.int (h (19 + 3 * s) 0)) := by
  simp [zk_rdF, qs_site s hs, zk_av]
theorem qf_sitew_0 (s : Nat) (hs : s < 6) (x : Int32) (h : zk_H) : zk_wrF SHP 6 0 false (.ref (19 + 3 * s)) (.int x) h = some (zk_up h (19 + 3 * s) 0 x) := by
  simp [zk_wrF, qs_site s hs]
theorem qf_site_1 (s : Nat) (hs : s < 6) (h : zk_H) : zk_rdF SHP 6 1 (.ref (19 + 3 * s)) h = some (.int (h (19 + 3 * s) 1)) := by
  simp [zk_rdF, qs_site s hs, zk_av]
theorem qf_sitew_1 (s : Nat) (hs : s < 6) (x : Int32) (h : zk_H) : zk_wrF SHP 6 1 false (.ref (19 + 3 * s)) (.int x) h = some (zk_up h (19 + 3 * s) 1 x) := by
  simp [zk_wrF, qs_site s hs]
theorem qf_site_2 (s : Nat) (hs : s < 6) (h : zk_H) : zk_rdF SHP 6 2 (.ref (19 + 3 * s)) h = some (.int (h (19 + 3 * s) 2)) := by
  simp [zk_rdF, qs_site s hs, zk_av]
theorem qf_sitew_2 (s : Nat) (hs : s < 6) (x : Int32) (h : zk_H) : zk_wrF SHP 6 2 false (.ref (19 + 3 * s)) (.int x) h = some (zk_up h (19 + 3 * s) 2 x) := by
  simp [zk_wrF, qs_site s hs]
theorem qf_site_3 (s : Nat) (hs : s < 6) (h : zk_H) : zk_rdF SHP 6 3 (.ref (19 + 3 * s)) h = some (.int (h (19 + 3 * s) 3)) := by
  simp [zk_rdF, qs_site s hs, zk_av]
theorem qf_sitew_3 (s : Nat) (hs : s < 6) (x : Int32) (h : zk_H) : zk_wrF SHP 6 3 false (.ref (19 + 3 * s)) (.int x) h = some (zk_up h (19 + 3 * s) 3 x) := by
  simp [zk_wrF, qs_site s hs]
theorem qf_site_4 (s : Nat) (hs : s < 6) (h : zk_H) : zk_rdF SHP 6 4 (.ref (19 + 3 * s)) h = some (.int (h (19 + 3 * s) 4)) := by
  simp [zk_rdF, qs_site s hs, zk_av]
theorem qf_sitew_4 (s : Nat) (hs : s < 6) (x : Int32) (h : zk_H) : zk_wrF SHP 6 4 false (.ref (19 + 3 * s)) (.int x) h = some (zk_up h (19 + 3 * s) 4 x) := by
  simp [zk_wrF, qs_site s hs]
theorem qf_site_5 (s : Nat) (hs : s < 6) (h : zk_H) : zk_rdF SHP 6 5 (.ref (19 + 3 * s)) h = some (.int (h (19 + 3 * s) 5)) := by
  simp [zk_rdF, qs_site s hs, zk_av]
theorem qf_sitew_5 (s : Nat) (hs : s < 6) (x : Int32) (h : zk_H) : zk_wrF SHP 6 5 false (.ref (19 + 3 * s)) (.int x) h = some (zk_up h (19 + 3 * s) 5 x) := by
  simp [zk_wrF, qs_site s hs]
theorem qf_site_6 (s : Nat) (hs : s < 6) (h : zk_H) : zk_rdF SHP 6 6 (.ref (19 + 3 * s)) h = some (.int (h (19 + 3 * s) 6)) := by
  simp [zk_rdF, qs_site s hs, zk_av]
theorem qf_sitew_6 (s : Nat) (hs : s < 6) (x : Int32) (h : zk_H) : zk_wrF SHP 6 6 false (.ref (19 + 3 * s)) (.int x) h = some (zk_up h (19 + 3 * s) 6 x) := by
  simp [zk_wrF, qs_site s hs]
theorem qf_site_7 (s : Nat) (hs : s < 6) (h : zk_H) : zk_rdF SHP 6 7 (.ref (19 + 3 * s)) h = some (.int (h (19 + 3 * s) 7)) := by
  simp [zk_rdF, qs_site s hs, zk_av]
theorem qf_sitew_7 (s : Nat) (hs : s < 6) (x : Int32) (h : zk_H) : zk_wrF SHP 6 7 false (.ref (19 + 3 * s)) (.int x) h = some (zk_up h (19 + 3 * s) 7 x) := by
  simp [zk_wrF, qs_site s hs]
theorem qf_site_8 (s : Nat) (hs : s < 6) (h : zk_H) : zk_rdF SHP 6 8 (.ref (19 + 3 * s)) h = some (.int (h (19 + 3 * s) 8)) := by
  simp [zk_rdF, qs_site s hs, zk_av]
theorem qf_sitew_8 (s : Nat) (hs : s < 6) (x : Int32) (h : zk_H) : zk_wrF SHP 6 8 false (.ref (19 + 3 * s)) (.int x) h = some (zk_up h (19 + 3 * s) 8 x) := by
  simp [zk_wrF, qs_site s hs]
theorem qf_site_9 (s : Nat) (hs : s < 6) (h : zk_H) : zk_rdF SHP 6 9 (.ref (19 + 3 * s)) h = some (.int (h (19 + 3 * s) 9)) := by
  simp [zk_rdF, qs_site s hs, zk_av]
theorem qf_sitew_9 (s : Nat) (hs : s < 6) (x : Int32) (h : zk_H) : zk_wrF SHP 6 9 false (.ref (19 + 3 * s)) (.int x) h = some (zk_up h (19 + 3 * s) 9 x) := by
  simp [zk_wrF, qs_site s hs]
theorem qf_site_10 (s : Nat) (hs : s < 6) (h : zk_H) : zk_rdF SHP 6 10 (.ref (19 + 3 * s)) h = some (.ref (20 + 3 * s)) := by
  simp [zk_rdF, qs_site s hs, zk_av]
theorem qf_site_11 (s : Nat) (hs : s < 6) (h : zk_H) : zk_rdF SHP 6 11 (.ref (19 + 3 * s)) h = some (.ref (21 + 3 * s)) := by
  simp [zk_rdF, qs_site s hs, zk_av]
theorem qf_plug_0 (s : Nat) (hs : s < 16) (h : zk_H) : zk_rdF SHP 5 0 (.ref (37 + s)) h = some (.int (h (37 + s) 0)) := by
  simp [zk_rdF, qs_plug s hs, zk_av]
theorem qf_plugw_0 (s : Nat) (hs : s < 16) (x : Int32) (h : zk_H) : zk_wrF SHP 5 0 false (.ref (37 + s)) (.int x) h = some (zk_up h (37 + s) 0 x) := by
  simp [zk_wrF, qs_plug s hs]
theorem qf_plug_1 (s : Nat) (hs : s < 16) (h : zk_H) : zk_rdF SHP 5 1 (.ref (37 + s)) h = some (.int (h (37 + s) 1)) := by
  simp [zk_rdF, qs_plug s hs, zk_av]
theorem qf_plugw_1 (s : Nat) (hs : s < 16) (x : Int32) (h : zk_H) : zk_wrF SHP 5 1 false (.ref (37 + s)) (.int x) h = some (zk_up h (37 + s) 1 x) := by
  simp [zk_wrF, qs_plug s hs]
theorem qf_plug_2 (s : Nat) (hs : s < 16) (h : zk_H) : zk_rdF SHP 5 2 (.ref (37 + s)) h = some (.int (h (37 + s) 2)) := by
  simp [zk_rdF, qs_plug s hs, zk_av]
theorem qf_plugw_2 (s : Nat) (hs : s < 16) (x : Int32) (h : zk_H) : zk_wrF SHP 5 2 false (.ref (37 + s)) (.int x) h = some (zk_up h (37 + s) 2 x) := by
  simp [zk_wrF, qs_plug s hs]
theorem qf_plug_3 (s : Nat) (hs : s < 16) (h : zk_H) : zk_rdF SHP 5 3 (.ref (37 + s)) h = some (.int (h (37 + s) 3)) := by
  simp [zk_rdF, qs_plug s hs, zk_av]
theorem qf_plugw_3 (s : Nat) (hs : s < 16) (x : Int32) (h : zk_H) : zk_wrF SHP 5 3 false (.ref (37 + s)) (.int x) h = some (zk_up h (37 + s) 3 x) := by
  simp [zk_wrF, qs_plug s hs]
theorem qf_plug_4 (s : Nat) (hs : s < 16) (h : zk_H) : zk_rdF SHP 5 4 (.ref (37 + s)) h = some (.int (h (37 + s) 4)) := by
  simp [zk_rdF, qs_plug s hs, zk_av]
theorem qf_plugw_4 (s : Nat) (hs : s < 16) (x : Int32) (h : zk_H) : zk_wrF SHP 5 4 false (.ref (37 + s)) (.int x) h = some (zk_up h (37 + s) 4 x) := by
  simp [zk_wrF, qs_plug s hs]
theorem qf_plug_5 (s : Nat) (hs : s < 16) (h : zk_H) : zk_rdF SHP 5 5 (.ref (37 + s)) h = some (.int (h (37 + s) 5)) := by
  simp [zk_rdF, qs_plug s hs, zk_av]
theorem qf_plugw_5 (s : Nat) (hs : s < 16) (x : Int32) (h : zk_H) : zk_wrF SHP 5 5 false (.ref (37 + s)) (.int x) h = some (zk_up h (37 + s) 5 x) := by
  simp [zk_wrF, qs_plug s hs]
theorem qf_car_0 (s : Nat) (hs : s < 12) (h : zk_H) : zk_rdF SHP 2 0 (.ref (53 + s)) h = some (.int (h (53 + s) 0)) := by
  simp [zk_rdF, qs_car s hs, zk_av]
theorem qf_carw_0 (s : Nat) (hs : s < 12) (x : Int32) (h : zk_H) : zk_wrF SHP 2 0 false (.ref (53 + s)) (.int x) h = some (zk_up h (53 + s) 0 x) := by
  simp [zk_wrF, qs_car s hs]
theorem qf_car_1 (s : Nat) (hs : s < 12) (h : zk_H) : zk_rdF SHP 2 1 (.ref (53 + s)) h = some (.int (h (53 + s) 1)) := by
  simp [zk_rdF, qs_car s hs, zk_av]
theorem qf_carw_1 (s : Nat) (hs : s < 12) (x : Int32) (h : zk_H) : zk_wrF SHP 2 1 false (.ref (53 + s)) (.int x) h = some (zk_up h (53 + s) 1 x) := by
  simp [zk_wrF, qs_car s hs]
theorem qf_car_2 (s : Nat) (hs : s < 12) (h : zk_H) : zk_rdF SHP 2 2 (.ref (53 + s)) h = some (.int (h (53 + s) 2)) := by
  simp [zk_rdF, qs_car s hs, zk_av]
theorem qf_carw_2 (s : Nat) (hs : s < 12) (x : Int32) (h : zk_H) : zk_wrF SHP 2 2 false (.ref (53 + s)) (.int x) h = some (zk_up h (53 + s) 2 x) := by
  simp [zk_wrF, qs_car s hs]
theorem qf_car_3 (s : Nat) (hs : s < 12) (h : zk_H) : zk_rdF SHP 2 3 (.ref (53 + s)) h = some (.int (h (53 + s) 3)) := by
  simp [zk_rdF, qs_car s hs, zk_av]
theorem qf_carw_3 (s : Nat) (hs : s < 12) (x : Int32) (h : zk_H) : zk_wrF SHP 2 3 false (.ref (53 + s)) (.int x) h = some (zk_up h (53 + s) 3 x) := by
  simp [zk_wrF, qs_car s hs]
theorem qf_car_4 (s : Nat) (hs : s < 12) (h : zk_H) : zk_rdF SHP 2 4 (.ref (53 + s)) h = some (.int (h (53 + s) 4)) := by
  simp [zk_rdF, qs_car s hs, zk_av]
theorem qf_carw_4 (s : Nat) (hs : s < 12) (x : Int32) (h : zk_H) : zk_wrF SHP 2 4 false (.ref (53 + s)) (.int x) h = some (zk_up h (53 + s) 4 x) := by
  simp [zk_wrF, qs_car s hs]
theorem qf_car_5 (s : Nat) (hs : s < 12) (h : zk_H) : zk_rdF SHP 2 5 (.ref (53 + s)) h = some (.int (h (53 + s) 5)) := by
  simp [zk_rdF, qs_car s hs, zk_av]
theorem qf_carw_5 (s : Nat) (hs : s < 12) (x : Int32) (h : zk_H) : zk_wrF SHP 2 5 false (.ref (53 + s)) (.int x) h = some (zk_up h (53 + s) 5 x) := by
  simp [zk_wrF, qs_car s hs]
theorem qf_car_6 (s : Nat) (hs : s < 12) (h : zk_H) : zk_rdF SHP 2 6 (.ref (53 + s)) h = some (.int (h (53 + s) 6)) := by
  simp [zk_rdF, qs_car s hs, zk_av]
theorem qf_carw_6 (s : Nat) (hs : s < 12) (x : Int32) (h : zk_H) : zk_wrF SHP 2 6 false (.ref (53 + s)) (.int x) h = some (zk_up h (53 + s) 6 x) := by
  simp [zk_wrF, qs_car s hs]
theorem qf_car_7 (s : Nat) (hs : s < 12) (h : zk_H) : zk_rdF SHP 2 7 (.ref (53 + s)) h = some (.int (h (53 + s) 7)) := by
  simp [zk_rdF, qs_car s hs, zk_av]
theorem qf_carw_7 (s : Nat) (hs : s < 12) (x : Int32) (h : zk_H) : zk_wrF SHP 2 7 false (.ref (53 + s)) (.int x) h = some (zk_up h (53 + s) 7 x) := by
  simp [zk_wrF, qs_car s hs]
theorem qf_car_8 (s : Nat) (hs : s < 12) (h : zk_H) : zk_rdF SHP 2 8 (.ref (53 + s)) h = some (.int (h (53 + s) 8)) := by
  simp [zk_rdF, qs_car s hs, zk_av]
theorem qf_carw_8 (s : Nat) (hs : s < 12) (x : Int32) (h : zk_H) : zk_wrF SHP 2 8 false (.ref (53 + s)) (.int x) h = some (zk_up h (53 + s) 8 x) := by
  simp [zk_wrF, qs_car s hs]
theorem qf_car_9 (s : Nat) (hs : s < 12) (h : zk_H) : zk_rdF SHP 2 9 (.ref (53 + s)) h = some (.int (h (53 + s) 9)) := by
  simp [zk_rdF, qs_car s hs, zk_av]
theorem qf_carw_9 (s : Nat) (hs : s < 12) (x : Int32) (h : zk_H) : zk_wrF SHP 2 9 false (.ref (53 + s)) (.int x) h = some (zk_up h (53 + s) 9 x) := by
  simp [zk_wrF, qs_car s hs]
theorem qf_car_10 (s : Nat) (hs : s < 12) (h : zk_H) : zk_rdF SHP 2 10 (.ref (53 + s)) h = some (.int (h (53 + s) 10)) := by
  simp [zk_rdF, qs_car s hs, zk_av]
theorem qf_carw_10 (s : Nat) (hs : s < 12) (x : Int32) (h : zk_H) : zk_wrF SHP 2 10 false (.ref (53 + s)) (.int x) h = some (zk_up h (53 + s) 10 x) := by
  simp [zk_wrF, qs_car s hs]
theorem qf_car_11 (s : Nat) (hs : s < 12) (h : zk_H) : zk_rdF SHP 2 11 (.ref (53 + s)) h = some (.int (h (53 + s) 11)) := by
  simp [zk_rdF, qs_car s hs, zk_av]
theorem qf_carw_11 (s : Nat) (hs : s < 12) (x : Int32) (h : zk_H) : zk_wrF SHP 2 11 false (.ref (53 + s)) (.int x) h = some (zk_up h (53 + s) 11 x) := by
  simp [zk_wrF, qs_car s hs]
theorem qf_car_12 (s : Nat) (hs : s < 12) (h : zk_H) : zk_rdF SHP 2 12 (.ref (53 + s)) h = some (.int (h (53 + s) 12)) := by
  simp [zk_rdF, qs_car s hs, zk_av]
theorem qf_carw_12 (s : Nat) (hs : s < 12) (x : Int32) (h : zk_H) : zk_wrF SHP 2 12 false (.ref (53 + s)) (.int x) h = some (zk_up h (53 + s) 12 x) := by
  simp [zk_wrF, qs_car s hs]
theorem qf_car_13 (s : Nat) (hs : s < 12) (h : zk_H) : zk_rdF SHP 2 13 (.ref (53 + s)) h = some (.int (h (53 + s) 13)) := by
  simp [zk_rdF, qs_car s hs, zk_av]
theorem qf_carw_13 (s : Nat) (hs : s < 12) (x : Int32) (h : zk_H) : zk_wrF SHP 2 13 false (.ref (53 + s)) (.int x) h = some (zk_up h (53 + s) 13 x) := by
  simp [zk_wrF, qs_car s hs]
theorem qf_car_14 (s : Nat) (hs : s < 12) (h : zk_H) : zk_rdF SHP 2 14 (.ref (53 + s)) h = some (.int (h (53 + s) 14)) := by
  simp [zk_rdF, qs_car s hs, zk_av]
theorem qf_carw_14 (s : Nat) (hs : s < 12) (x : Int32) (h : zk_H) : zk_wrF SHP 2 14 false (.ref (53 + s)) (.int x) h = some (zk_up h (53 + s) 14 x) := by
  simp [zk_wrF, qs_car s hs]
theorem qg_site_0 (s : Nat) (hs : s < 6) (h : zk_H) : zk_rdF SHP 6 0 (.ref (83 + 3 * s)) h = some (.int (h (83 + 3 * s) 0)) := by
  simp [zk_rdF, qk_site s hs, zk_av]
theorem qg_sitew_0 (s : Nat) (hs : s < 6) (x : Int32) (h : zk_H) : zk_wrF SHP 6 0 false (.ref (83 + 3 * s)) (.int x) h = some (zk_up h (83 + 3 * s) 0 x) := by
  simp [zk_wrF, qk_site s hs]
theorem qg_site_1 (s : Nat) (hs : s < 6) (h : zk_H) : zk_rdF SHP 6 1 (.ref (83 + 3 * s)) h = some (.int (h (83 + 3 * s) 1)) := by
  simp [zk_rdF, qk_site s hs, zk_av]
theorem qg_sitew_1 (s : Nat) (hs : s < 6) (x : Int32) (h : zk_H) : zk_wrF SHP 6 1 false (.ref (83 + 3 * s)) (.int x) h = some (zk_up h (83 + 3 * s) 1 x) := by
  simp [zk_wrF, qk_site s hs]
theorem qg_site_2 (s : Nat) (hs : s < 6) (h : zk_H) : zk_rdF SHP 6 2 (.ref (83 + 3 * s)) h = some (.int (h (83 + 3 * s) 2)) := by
  simp [zk_rdF, qk_site s hs, zk_av]
theorem qg_sitew_2 (s : Nat) (hs : s < 6) (x : Int32) (h : zk_H) : zk_wrF SHP 6 2 false (.ref (83 + 3 * s)) (.int x) h = some (zk_up h (83 + 3 * s) 2 x) := by
  simp [zk_wrF, qk_site s hs]
theorem qg_site_3 (s : Nat) (hs : s < 6) (h : zk_H) : zk_rdF SHP 6 3 (.ref (83 + 3 * s)) h = some (.int (h (83 + 3 * s) 3)) := by
  simp [zk_rdF, qk_site s hs, zk_av]
theorem qg_sitew_3 (s : Nat) (hs : s < 6) (x : Int32) (h : zk_H) : zk_wrF SHP 6 3 false (.ref (83 + 3 * s)) (.int x) h = some (zk_up h (83 + 3 * s) 3 x) := by
  simp [zk_wrF, qk_site s hs]
theorem qg_site_4 (s : Nat) (hs : s < 6) (h : zk_H) : zk_rdF SHP 6 4 (.ref (83 + 3 * s)) h = some (.int (h (83 + 3 * s) 4)) := by
  simp [zk_rdF, qk_site s hs, zk_av]
theorem qg_sitew_4 (s : Nat) (hs : s < 6) (x : Int32) (h : zk_H) : zk_wrF SHP 6 4 false (.ref (83 + 3 * s)) (.int x) h = some (zk_up h (83 + 3 * s) 4 x) := by
  simp [zk_wrF, qk_site s hs]
theorem qg_site_5 (s : Nat) (hs : s < 6) (h : zk_H) : zk_rdF SHP 6 5 (.ref (83 + 3 * s)) h = some (.int (h (83 + 3 * s) 5)) := by
  simp [zk_rdF, qk_site s hs, zk_av]
theorem qg_sitew_5 (s : Nat) (hs : s < 6) (x : Int32) (h : zk_H) : zk_wrF SHP 6 5 false (.ref (83 + 3 * s)) (.int x) h = some (zk_up h (83 + 3 * s) 5 x) := by
  simp [zk_wrF, qk_site s hs]
theorem qg_site_6 (s : Nat) (hs : s < 6) (h : zk_H) : zk_rdF SHP 6 6 (.ref (83 + 3 * s)) h = some (.int (h (83 + 3 * s) 6)) := by
  simp [zk_rdF, qk_site s hs, zk_av]
theorem qg_sitew_6 (s : Nat) (hs : s < 6) (x : Int32) (h : zk_H) : zk_wrF SHP 6 6 false (.ref (83 + 3 * s)) (.int x) h = some (zk_up h (83 + 3 * s) 6 x) := by
  simp [zk_wrF, qk_site s hs]
theorem qg_site_7 (s : Nat) (hs : s < 6) (h : zk_H) : zk_rdF SHP 6 7 (.ref (83 + 3 * s)) h = some (.int (h (83 + 3 * s) 7)) := by
  simp [zk_rdF, qk_site s hs, zk_av]
theorem qg_sitew_7 (s : Nat) (hs : s < 6) (x : Int32) (h : zk_H) : zk_wrF SHP 6 7 false (.ref (83 + 3 * s)) (.int x) h = some (zk_up h (83 + 3 * s) 7 x) := by
  simp [zk_wrF, qk_site s hs]
theorem qg_site_8 (s : Nat) (hs : s < 6) (h : zk_H) : zk_rdF SHP 6 8 (.ref (83 + 3 * s)) h = some (.int (h (83 + 3 * s) 8)) := by
  simp [zk_rdF, qk_site s hs, zk_av]
theorem qg_sitew_8 (s : Nat) (hs : s < 6) (x : Int32) (h : zk_H) : zk_wrF SHP 6 8 false (.ref (83 + 3 * s)) (.int x) h = some (zk_up h (83 + 3 * s) 8 x) := by
  simp [zk_wrF, qk_site s hs]
theorem qg_site_9 (s : Nat) (hs : s < 6) (h : zk_H) : zk_rdF SHP 6 9 (.ref (83 + 3 * s)) h = some (.int (h (83 + 3 * s) 9)) := by
  simp [zk_rdF, qk_site s hs, zk_av]
theorem qg_sitew_9 (s : Nat) (hs : s < 6) (x : Int32) (h : zk_H) : zk_wrF SHP 6 9 false (.ref (83 + 3 * s)) (.int x) h = some (zk_up h (83 + 3 * s) 9 x) := by
  simp [zk_wrF, qk_site s hs]
theorem qg_site_10 (s : Nat) (hs : s < 6) (h : zk_H) : zk_rdF SHP 6 10 (.ref (83 + 3 * s)) h = some (.ref (84 + 3 * s)) := by
  simp [zk_rdF, qk_site s hs, zk_av]
theorem qg_site_11 (s : Nat) (hs : s < 6) (h : zk_H) : zk_rdF SHP 6 11 (.ref (83 + 3 * s)) h = some (.ref (85 + 3 * s)) := by
  simp [zk_rdF, qk_site s hs, zk_av]
theorem qg_plug_0 (s : Nat) (hs : s < 16) (h : zk_H) : zk_rdF SHP 5 0 (.ref (101 + s)) h = some (.int (h (101 + s) 0)) := by
  simp [zk_rdF, qk_plug s hs, zk_av]
theorem qg_plugw_0 (s : Nat) (hs : s < 16) (x : Int32) (h : zk_H) : zk_wrF SHP 5 0 false (.ref (101 + s)) (.int x) h = some (zk_up h (101 + s) 0 x) := by
  simp [zk_wrF, qk_plug s hs]
theorem qg_plug_1 (s : Nat) (hs : s < 16) (h : zk_H) : zk_rdF SHP 5 1 (.ref (101 + s)) h = some (.int (h (101 + s) 1)) := by
  simp [zk_rdF, qk_plug s hs, zk_av]
theorem qg_plugw_1 (s : Nat) (hs : s < 16) (x : Int32) (h : zk_H) : zk_wrF SHP 5 1 false (.ref (101 + s)) (.int x) h = some (zk_up h (101 + s) 1 x) := by
  simp [zk_wrF, qk_plug s hs]
theorem qg_plug_2 (s : Nat) (hs : s < 16) (h : zk_H) : zk_rdF SHP 5 2 (.ref (101 + s)) h = some (.int (h (101 + s) 2)) := by
  simp [zk_rdF, qk_plug s hs, zk_av]
theorem qg_plugw_2 (s : Nat) (hs : s < 16) (x : Int32) (h : zk_H) : zk_wrF SHP 5 2 false (.ref (101 + s)) (.int x) h = some (zk_up h (101 + s) 2 x) := by
  simp [zk_wrF, qk_plug s hs]
theorem qg_plug_3 (s : Nat) (hs : s < 16) (h : zk_H) : zk_rdF SHP 5 3 (.ref (101 + s)) h = some (.int (h (101 + s) 3)) := by
  simp [zk_rdF, qk_plug s hs, zk_av]
theorem qg_plugw_3 (s : Nat) (hs : s < 16) (x : Int32) (h : zk_H) : zk_wrF SHP 5 3 false (.ref (101 + s)) (.int x) h = some (zk_up h (101 + s) 3 x) := by
  simp [zk_wrF, qk_plug s hs]
theorem qg_plug_4 (s : Nat) (hs : s < 16) (h : zk_H) : zk_rdF SHP 5 4 (.ref (101 + s)) h = some (.int (h (101 + s) 4)) := by
  simp [zk_rdF, qk_plug s hs, zk_av]
theorem qg_plugw_4 (s : Nat) (hs : s < 16) (x : Int32) (h : zk_H) : zk_wrF SHP 5 4 false (.ref (101 + s)) (.int x) h = some (zk_up h (101 + s) 4 x) := by
  simp [zk_wrF, qk_plug s hs]
theorem qg_plug_5 (s : Nat) (hs : s < 16) (h : zk_H) : zk_rdF SHP 5 5 (.ref (101 + s)) h = some (.int (h (101 + s) 5)) := by
  simp [zk_rdF, qk_plug s hs, zk_av]
theorem qg_plugw_5 (s : Nat) (hs : s < 16) (x : Int32) (h : zk_H) : zk_wrF SHP 5 5 false (.ref (101 + s)) (.int x) h = some (zk_up h (101 + s) 5 x) := by
  simp [zk_wrF, qk_plug s hs]
theorem qg_car_0 (s : Nat) (hs : s < 12) (h : zk_H) : zk_rdF SHP 2 0 (.ref (117 + s)) h = some (.int (h (117 + s) 0)) := by
  simp [zk_rdF, qk_car s hs, zk_av]
theorem qg_carw_0 (s : Nat) (hs : s < 12) (x : Int32) (h : zk_H) : zk_wrF SHP 2 0 false (.ref (117 + s)) (.int x) h = some (zk_up h (117 + s) 0 x) := by
  simp [zk_wrF, qk_car s hs]
theorem qg_car_1 (s : Nat) (hs : s < 12) (h : zk_H) : zk_rdF SHP 2 1 (.ref (117 + s)) h = some (.int (h (117 + s) 1)) := by
  simp [zk_rdF, qk_car s hs, zk_av]
theorem qg_carw_1 (s : Nat) (hs : s < 12) (x : Int32) (h : zk_H) : zk_wrF SHP 2 1 false (.ref (117 + s)) (.int x) h = some (zk_up h (117 + s) 1 x) := by
  simp [zk_wrF, qk_car s hs]
theorem qg_car_2 (s : Nat) (hs : s < 12) (h : zk_H) : zk_rdF SHP 2 2 (.ref (117 + s)) h = some (.int (h (117 + s) 2)) := by
  simp [zk_rdF, qk_car s hs, zk_av]
theorem qg_carw_2 (s : Nat) (hs : s < 12) (x : Int32) (h : zk_H) : zk_wrF SHP 2 2 false (.ref (117 + s)) (.int x) h = some (zk_up h (117 + s) 2 x) := by
  simp [zk_wrF, qk_car s hs]
theorem qg_car_3 (s : Nat) (hs : s < 12) (h : zk_H) : zk_rdF SHP 2 3 (.ref (117 + s)) h = some (.int (h (117 + s) 3)) := by
  simp [zk_rdF, qk_car s hs, zk_av]
theorem qg_carw_3 (s : Nat) (hs : s < 12) (x : Int32) (h : zk_H) : zk_wrF SHP 2 3 false (.ref (117 + s)) (.int x) h = some (zk_up h (117 + s) 3 x) := by
  simp [zk_wrF, qk_car s hs]
theorem qg_car_4 (s : Nat) (hs : s < 12) (h : zk_H) : zk_rdF SHP 2 4 (.ref (117 + s)) h = some (.int (h (117 + s) 4)) := by
  simp [zk_rdF, qk_car s hs, zk_av]
theorem qg_carw_4 (s : Nat) (hs : s < 12) (x : Int32) (h : zk_H) : zk_wrF SHP 2 4 false (.ref (117 + s)) (.int x) h = some (zk_up h (117 + s) 4 x) := by
  simp [zk_wrF, qk_car s hs]
theorem qg_car_5 (s : Nat) (hs : s < 12) (h : zk_H) : zk_rdF SHP 2 5 (.ref (117 + s)) h = some (.int (h (117 + s) 5)) := by
  simp [zk_rdF, qk_car s hs, zk_av]
theorem qg_carw_5 (s : Nat) (hs : s < 12) (x : Int32) (h : zk_H) : zk_wrF SHP 2 5 false (.ref (117 + s)) (.int x) h = some (zk_up h (117 + s) 5 x) := by
  simp [zk_wrF, qk_car s hs]
theorem qg_car_6 (s : Nat) (hs : s < 12) (h : zk_H) : zk_rdF SHP 2 6 (.ref (117 + s)) h = some (.int (h (117 + s) 6)) := by
  simp [zk_rdF, qk_car s hs, zk_av]
theorem qg_carw_6 (s : Nat) (hs : s < 12) (x : Int32) (h : zk_H) : zk_wrF SHP 2 6 false (.ref (117 + s)) (.int x) h = some (zk_up h (117 + s) 6 x) := by
  simp [zk_wrF, qk_car s hs]
theorem qg_car_7 (s : Nat) (hs : s < 12) (h : zk_H) : zk_rdF SHP 2 7 (.ref (117 + s)) h = some (.int (h (117 + s) 7)) := by
  simp [zk_rdF, qk_car s hs, zk_av]
theorem qg_carw_7 (s : Nat) (hs : s < 12) (x : Int32) (h : zk_H) : zk_wrF SHP 2 7 false (.ref (117 + s)) (.int x) h = some (zk_up h (117 + s) 7 x) := by
  simp [zk_wrF, qk_car s hs]
theorem qg_car_8 (s : Nat) (hs : s < 12) (h : zk_H) : zk_rdF SHP 2 8 (.ref (117 + s)) h = some (.int (h (117 + s) 8)) := by
  simp [zk_rdF, qk_car s hs, zk_av]
theorem qg_carw_8 (s : Nat) (hs : s < 12) (x : Int32) (h : zk_H) : zk_wrF SHP 2 8 false (.ref (117 + s)) (.int x) h = some (zk_up h (117 + s) 8 x) := by
  simp [zk_wrF, qk_car s hs]
theorem qg_car_9 (s : Nat) (hs : s < 12) (h : zk_H) : zk_rdF SHP 2 9 (.ref (117 + s)) h = some (.int (h (117 + s) 9)) := by
  simp [zk_rdF, qk_car s hs, zk_av]
theorem qg_carw_9 (s : Nat) (hs : s < 12) (x : Int32) (h : zk_H) : zk_wrF SHP 2 9 false (.ref (117 + s)) (.int x) h = some (zk_up h (117 + s) 9 x) := by
  simp [zk_wrF, qk_car s hs]
theorem qg_car_10 (s : Nat) (hs : s < 12) (h : zk_H) : zk_rdF SHP 2 10 (.ref (117 + s)) h = some (.int (h (117 + s) 10)) := by
  simp [zk_rdF, qk_car s hs, zk_av]
theorem qg_carw_10 (s : Nat) (hs : s < 12) (x : Int32) (h : zk_H) : zk_wrF SHP 2 10 false (.ref (117 + s)) (.int x) h = some (zk_up h (117 + s) 10 x) := by
  simp [zk_wrF, qk_car s hs]
theorem qg_car_11 (s : Nat) (hs : s < 12) (h : zk_H) : zk_rdF SHP 2 11 (.ref (117 + s)) h = some (.int (h (117 + s) 11)) := by
  simp [zk_rdF, qk_car s hs, zk_av]
theorem qg_carw_11 (s : Nat) (hs : s < 12) (x : Int32) (h : zk_H) : zk_wrF SHP 2 11 false (.ref (117 + s)) (.int x) h = some (zk_up h (117 + s) 11 x) := by
  simp [zk_wrF, qk_car s hs]
theorem qg_car_12 (s : Nat) (hs : s < 12) (h : zk_H) : zk_rdF SHP 2 12 (.ref (117 + s)) h = some (.int (h (117 + s) 12)) := by
  simp [zk_rdF, qk_car s hs, zk_av]
theorem qg_carw_12 (s : Nat) (hs : s < 12) (x : Int32) (h : zk_H) : zk_wrF SHP 2 12 false (.ref (117 + s)) (.int x) h = some (zk_up h (117 + s) 12 x) := by
  simp [zk_wrF, qk_car s hs]
theorem qg_car_13 (s : Nat) (hs : s < 12) (h : zk_H) : zk_rdF SHP 2 13 (.ref (117 + s)) h = some (.int (h (117 + s) 13)) := by
  simp [zk_rdF, qk_car s hs, zk_av]
theorem qg_carw_13 (s : Nat) (hs : s < 12) (x : Int32) (h : zk_H) : zk_wrF SHP 2 13 false (.ref (117 + s)) (.int x) h = some (zk_up h (117 + s) 13 x) := by
  simp [zk_wrF, qk_car s hs]
theorem qg_car_14 (s : Nat) (hs : s < 12) (h : zk_H) : zk_rdF SHP 2 14 (.ref (117 + s)) h = some (.int (h (117 + s) 14)) := by
  simp [zk_rdF, qk_car s hs, zk_av]
theorem qg_carw_14 (s : Nat) (hs : s < 12) (x : Int32) (h : zk_H) : zk_wrF SHP 2 14 false (.ref (117 + s)) (.int x) h = some (zk_up h (117 + s) 14 x) := by
  simp [zk_wrF, qk_car s hs]
theorem qa_5 (i : Nat) (hi : i < 24) (h : zk_H) : zk_rdA SHP (.ref 5) (.int (nI i)) h = some (.int (h 5 i)) := by
  have e1 : (nI i).toInt = (i : Int) := nI_toInt (by omega)
  have e2 : (nI i).toNatClampNeg = i := nI_clamp (by omega)
  simp [zk_rdA, qc_5, e1, e2]
  omega
theorem qw_5 (i : Nat) (hi : i < 24) (x : Int32) (h : zk_H) : zk_wrA SHP (.ref 5) (.int (nI i)) (.int x) h = some (zk_up h 5 i x) := by
  have e1 : (nI i).toInt = (i : Int) := nI_toInt (by omega)
  have e2 : (nI i).toNatClampNeg = i := nI_clamp (by omega)
  simp [zk_wrA, qc_5, e1, e2]
  omega
theorem qa_7 (i : Nat) (hi : i < 60) (h : zk_H) : zk_rdA SHP (.ref 7) (.int (nI i)) h = some (.int (h 7 i)) := by
  have e1 : (nI i).toInt = (i : Int) := nI_toInt (by omega)
  have e2 : (nI i).toNatClampNeg = i := nI_clamp (by omega)
  simp [zk_rdA, qc_7, e1, e2]
  omega
theorem qw_7 (i : Nat) (hi : i < 60) (x : Int32) (h : zk_H) : zk_wrA SHP (.ref 7) (.int (nI i)) (.int x) h = some (zk_up h 7 i x) := by
  have e1 : (nI i).toInt = (i : Int) := nI_toInt (by omega)
  have e2 : (nI i).toNatClampNeg = i := nI_clamp (by omega)
  simp [zk_wrA, qc_7, e1, e2]
  omega
theorem qa_8 (i : Nat) (hi : i < 60) (h : zk_H) : zk_rdA SHP (.ref 8) (.int (nI i)) h = some (.int (h 8 i)) := by
  have e1 : (nI i).toInt = (i : Int) := nI_toInt (by omega)
  have e2 : (nI i).toNatClampNeg = i := nI_clamp (by omega)
  simp [zk_rdA, qc_8, e1, e2]
  omega
theorem qw_8 (i : Nat) (hi : i < 60) (x : Int32) (h : zk_H) : zk_wrA SHP (.ref 8) (.int (nI i)) (.int x) h = some (zk_up h 8 i x) := by
  have e1 : (nI i).toInt = (i : Int) := nI_toInt (by omega)
  have e2 : (nI i).toNatClampNeg = i := nI_clamp (by omega)
  simp [zk_wrA, qc_8, e1, e2]
  omega
theorem qa_9 (i : Nat) (hi : i < 60) (h : zk_H) : zk_rdA SHP (.ref 9) (.int (nI i)) h = some (.int (h 9 i)) := by
  have e1 : (nI i).toInt = (i : Int) := nI_toInt (by omega)
  have e2 : (nI i).toNatClampNeg = i := nI_clamp (by omega)
  simp [zk_rdA, qc_9, e1, e2]
  omega
theorem qw_9 (i : Nat) (hi : i < 60) (x : Int32) (h : zk_H) : zk_wrA SHP (.ref 9) (.int (nI i)) (.int x) h = some (zk_up h 9 i x) := by
  have e1 : (nI i).toInt = (i : Int) := nI_toInt (by omega)
  have e2 : (nI i).toNatClampNeg = i := nI_clamp (by omega)
  simp [zk_wrA, qc_9, e1, e2]
  omega
theorem qa_10 (i : Nat) (hi : i < 60) (h : zk_H) : zk_rdA SHP (.ref 10) (.int (nI i)) h = some (.int (h 10 i)) := by
  have e1 : (nI i).toInt = (i : Int) := nI_toInt (by omega)
  have e2 : (nI i).toNatClampNeg = i := nI_clamp (by omega)
  simp [zk_rdA, qc_10, e1, e2]
  omega
theorem qw_10 (i : Nat) (hi : i < 60) (x : Int32) (h : zk_H) : zk_wrA SHP (.ref 10) (.int (nI i)) (.int x) h = some (zk_up h 10 i x) := by
  have e1 : (nI i).toInt = (i : Int) := nI_toInt (by omega)
  have e2 : (nI i).toNatClampNeg = i := nI_clamp (by omega)
  simp [zk_wrA, qc_10, e1, e2]
  omega
theorem qa_12 (i : Nat) (hi : i < 7) (h : zk_H) : zk_rdA SHP (.ref 12) (.int (nI i)) h = some (.int (h 12 i)) := by
  have e1 : (nI i).toInt = (i : Int) := nI_toInt (by omega)
  have e2 : (nI i).toNatClampNeg = i := nI_clamp (by omega)
  simp [zk_rdA, qc_12, e1, e2]
  omega
theorem qw_12 (i : Nat) (hi : i < 7) (x : Int32) (h : zk_H) : zk_wrA SHP (.ref 12) (.int (nI i)) (.int x) h = some (zk_up h 12 i x) := by
  have e1 : (nI i).toInt = (i : Int) := nI_toInt (by omega)
  have e2 : (nI i).toNatClampNeg = i := nI_clamp (by omega)
  simp [zk_wrA, qc_12, e1, e2]
  omega
theorem qa_13 (i : Nat) (hi : i < 7) (h : zk_H) : zk_rdA SHP (.ref 13) (.int (nI i)) h = some (.int (h 13 i)) := by
  have e1 : (nI i).toInt = (i : Int) := nI_toInt (by omega)
  have e2 : (nI i).toNatClampNeg = i := nI_clamp (by omega)
  simp [zk_rdA, qc_13, e1, e2]
  omega
theorem qw_13 (i : Nat) (hi : i < 7) (x : Int32) (h : zk_H) : zk_wrA SHP (.ref 13) (.int (nI i)) (.int x) h = some (zk_up h 13 i x) := by
  have e1 : (nI i).toInt = (i : Int) := nI_toInt (by omega)
  have e2 : (nI i).toNatClampNeg = i := nI_clamp (by omega)
  simp [zk_wrA, qc_13, e1, e2]
  omega
theorem qa_14 (i : Nat) (hi : i < 7) (h : zk_H) : zk_rdA SHP (.ref 14) (.int (nI i)) h = some (.int (h 14 i)) := by
  have e1 : (nI i).toInt = (i : Int) := nI_toInt (by omega)
  have e2 : (nI i).toNatClampNeg = i := nI_clamp (by omega)
  simp [zk_rdA, qc_14, e1, e2]
  omega
theorem qw_14 (i : Nat) (hi : i < 7) (x : Int32) (h : zk_H) : zk_wrA SHP (.ref 14) (.int (nI i)) (.int x) h = some (zk_up h 14 i x) := by
  have e1 : (nI i).toInt = (i : Int) := nI_toInt (by omega)
  have e2 : (nI i).toNatClampNeg = i := nI_clamp (by omega)
  simp [zk_wrA, qc_14, e1, e2]
  omega
theorem qa_16 (i : Nat) (hi : i < 7) (h : zk_H) : zk_rdA SHP (.ref 16) (.int (nI i)) h = some (.int (h 16 i)) := by
  have e1 : (nI i).toInt = (i : Int) := nI_toInt (by omega)
  have e2 : (nI i).toNatClampNeg = i := nI_clamp (by omega)
  simp [zk_rdA, qc_16, e1, e2]
  omega
theorem qw_16 (i : Nat) (hi : i < 7) (x : Int32) (h : zk_H) : zk_wrA SHP (.ref 16) (.int (nI i)) (.int x) h = some (zk_up h 16 i x) := by
  have e1 : (nI i).toInt = (i : Int) := nI_toInt (by omega)
  have e2 : (nI i).toNatClampNeg = i := nI_clamp (by omega)
  simp [zk_wrA, qc_16, e1, e2]
  omega
theorem qa_17 (i : Nat) (hi : i < 7) (h : zk_H) : zk_rdA SHP (.ref 17) (.int (nI i)) h = some (.int (h 17 i)) := by
  have e1 : (nI i).toInt = (i : Int) := nI_toInt (by omega)
  have e2 : (nI i).toNatClampNeg = i := nI_clamp (by omega)
  simp [zk_rdA, qc_17, e1, e2]
  omega
theorem qw_17 (i : Nat) (hi : i < 7) (x : Int32) (h : zk_H) : zk_wrA SHP (.ref 17) (.int (nI i)) (.int x) h = some (zk_up h 17 i x) := by
  have e1 : (nI i).toInt = (i : Int) := nI_toInt (by omega)
  have e2 : (nI i).toNatClampNeg = i := nI_clamp (by omega)
  simp [zk_wrA, qc_17, e1, e2]
  omega
theorem qa_18 (i : Nat) (hi : i < 7) (h : zk_H) : zk_rdA SHP (.ref 18) (.int (nI i)) h = some (.int (h 18 i)) := by
  have e1 : (nI i).toInt = (i : Int) := nI_toInt (by omega)
  have e2 : (nI i).toNatClampNeg = i := nI_clamp (by omega)
  simp [zk_rdA, qc_18, e1, e2]
  omega
theorem qw_18 (i : Nat) (hi : i < 7) (x : Int32) (h : zk_H) : zk_wrA SHP (.ref 18) (.int (nI i)) (.int x) h = some (zk_up h 18 i x) := by
  have e1 : (nI i).toInt = (i : Int) := nI_toInt (by omega)
  have e2 : (nI i).toNatClampNeg = i := nI_clamp (by omega)
  simp [zk_wrA, qc_18, e1, e2]
  omega
theorem qa_69 (i : Nat) (hi : i < 24) (h : zk_H) : zk_rdA SHP (.ref 69) (.int (nI i)) h = some (.int (h 69 i)) := by
  have e1 : (nI i).toInt = (i : Int) := nI_toInt (by omega)
  have e2 : (nI i).toNatClampNeg = i := nI_clamp (by omega)
  simp [zk_rdA, qc_69, e1, e2]
  omega
theorem qw_69 (i : Nat) (hi : i < 24) (x : Int32) (h : zk_H) : zk_wrA SHP (.ref 69) (.int (nI i)) (.int x) h = some (zk_up h 69 i x) := by
  have e1 : (nI i).toInt = (i : Int) := nI_toInt (by omega)
  have e2 : (nI i).toNatClampNeg = i := nI_clamp (by omega)
  simp [zk_wrA, qc_69, e1, e2]
  omega
theorem qa_71 (i : Nat) (hi : i < 60) (h : zk_H) : zk_rdA SHP (.ref 71) (.int (nI i)) h = some (.int (h 71 i)) := by
  have e1 : (nI i).toInt = (i : Int) := nI_toInt (by omega)
  have e2 : (nI i).toNatClampNeg = i := nI_clamp (by omega)
  simp [zk_rdA, qc_71, e1, e2]
  omega
theorem qw_71 (i : Nat) (hi : i < 60) (x : Int32) (h : zk_H) : zk_wrA SHP (.ref 71) (.int (nI i)) (.int x) h = some (zk_up h 71 i x) := by
  have e1 : (nI i).toInt = (i : Int) := nI_toInt (by omega)
  have e2 : (nI i).toNatClampNeg = i := nI_clamp (by omega)
  simp [zk_wrA, qc_71, e1, e2]
  omega
theorem qa_72 (i : Nat) (hi : i < 60) (h : zk_H) : zk_rdA SHP (.ref 72) (.int (nI i)) h = some (.int (h 72 i)) := by
  have e1 : (nI i).toInt = (i : Int) := nI_toInt (by omega)
  have e2 : (nI i).toNatClampNeg = i := nI_clamp (by omega)
  simp [zk_rdA, qc_72, e1, e2]
  omega
theorem qw_72 (i : Nat) (hi : i < 60) (x : Int32) (h : zk_H) : zk_wrA SHP (.ref 72) (.int (nI i)) (.int x) h = some (zk_up h 72 i x) := by
  have e1 : (nI i).toInt = (i : Int) := nI_toInt (by omega)
  have e2 : (nI i).toNatClampNeg = i := nI_clamp (by omega)
  simp [zk_wrA, qc_72, e1, e2]
  omega
theorem qa_73 (i : Nat) (hi : i < 60) (h : zk_H) : zk_rdA SHP (.ref 73) (.int (nI i)) h = some (.int (h 73 i)) := by
  have e1 : (nI i).toInt = (i : Int) := nI_toInt (by omega)
  have e2 : (nI i).toNatClampNeg = i := nI_clamp (by omega)
  simp [zk_rdA, qc_73, e1, e2]
  omega
theorem qw_73 (i : Nat) (hi : i < 60) (x : Int32) (h : zk_H) : zk_wrA SHP (.ref 73) (.int (nI i)) (.int x) h = some (zk_up h 73 i x) := by
  have e1 : (nI i).toInt = (i : Int) := nI_toInt (by omega)
  have e2 : (nI i).toNatClampNeg = i := nI_clamp (by omega)
  simp [zk_wrA, qc_73, e1, e2]
  omega
theorem qa_74 (i : Nat) (hi : i < 60) (h : zk_H) : zk_rdA SHP (.ref 74) (.int (nI i)) h = some (.int (h 74 i)) := by
  have e1 : (nI i).toInt = (i : Int) := nI_toInt (by omega)
  have e2 : (nI i).toNatClampNeg = i := nI_clamp (by omega)
  simp [zk_rdA, qc_74, e1, e2]
  omega
theorem qw_74 (i : Nat) (hi : i < 60) (x : Int32) (h : zk_H) : zk_wrA SHP (.ref 74) (.int (nI i)) (.int x) h = some (zk_up h 74 i x) := by
  have e1 : (nI i).toInt = (i : Int) := nI_toInt (by omega)
  have e2 : (nI i).toNatClampNeg = i := nI_clamp (by omega)
  simp [zk_wrA, qc_74, e1, e2]
  omega
theorem qa_76 (i : Nat) (hi : i < 7) (h : zk_H) : zk_rdA SHP (.ref 76) (.int (nI i)) h = some (.int (h 76 i)) := by
  have e1 : (nI i).toInt = (i : Int) := nI_toInt (by omega)
  have e2 : (nI i).toNatClampNeg = i := nI_clamp (by omega)
  simp [zk_rdA, qc_76, e1, e2]
  omega
theorem qw_76 (i : Nat) (hi : i < 7) (x : Int32) (h : zk_H) : zk_wrA SHP (.ref 76) (.int (nI i)) (.int x) h = some (zk_up h 76 i x) := by
  have e1 : (nI i).toInt = (i : Int) := nI_toInt (by omega)
  have e2 : (nI i).toNatClampNeg = i := nI_clamp (by omega)
  simp [zk_wrA, qc_76, e1, e2]
  omega
theorem qa_77 (i : Nat) (hi : i < 7) (h : zk_H) : zk_rdA SHP (.ref 77) (.int (nI i)) h = some (.int (h 77 i)) := by
  have e1 : (nI i).toInt = (i : Int) := nI_toInt (by omega)
  have e2 : (nI i).toNatClampNeg = i := nI_clamp (by omega)
  simp [zk_rdA, qc_77, e1, e2]
  omega
theorem qw_77 (i : Nat) (hi : i < 7) (x : Int32) (h : zk_H) : zk_wrA SHP (.ref 77) (.int (nI i)) (.int x) h = some (zk_up h 77 i x) := by
  have e1 : (nI i).toInt = (i : Int) := nI_toInt (by omega)
  have e2 : (nI i).toNatClampNeg = i := nI_clamp (by omega)
  simp [zk_wrA, qc_77, e1, e2]
  omega
theorem qa_78 (i : Nat) (hi : i < 7) (h : zk_H) : zk_rdA SHP (.ref 78) (.int (nI i)) h = some (.int (h 78 i)) := by
  have e1 : (nI i).toInt = (i : Int) := nI_toInt (by omega)
  have e2 : (nI i).toNatClampNeg = i := nI_clamp (by omega)
  simp [zk_rdA, qc_78, e1, e2]
  omega
theorem qw_78 (i : Nat) (hi : i < 7) (x : Int32) (h : zk_H) : zk_wrA SHP (.ref 78) (.int (nI i)) (.int x) h = some (zk_up h 78 i x) := by
  have e1 : (nI i).toInt = (i : Int) := nI_toInt (by omega)
  have e2 : (nI i).toNatClampNeg = i := nI_clamp (by omega)
  simp [zk_wrA, qc_78, e1, e2]
  omega
theorem qa_80 (i : Nat) (hi : i < 7) (h : zk_H) : zk_rdA SHP (.ref 80) (.int (nI i)) h = some (.int (h 80 i)) := by
  have e1 : (nI i).toInt = (i : Int) := nI_toInt (by omega)
  have e2 : (nI i).toNatClampNeg = i := nI_clamp (by omega)
  simp [zk_rdA, qc_80, e1, e2]
  omega
theorem qw_80 (i : Nat) (hi : i < 7) (x : Int32) (h : zk_H) : zk_wrA SHP (.ref 80) (.int (nI i)) (.int x) h = some (zk_up h 80 i x) := by
  have e1 : (nI i).toInt = (i : Int) := nI_toInt (by omega)
  have e2 : (nI i).toNatClampNeg = i := nI_clamp (by omega)
  simp [zk_wrA, qc_80, e1, e2]
  omega
theorem qa_81 (i : Nat) (hi : i < 7) (h : zk_H) : zk_rdA SHP (.ref 81) (.int (nI i)) h = some (.int (h 81 i)) := by
  have e1 : (nI i).toInt = (i : Int) := nI_toInt (by omega)
  have e2 : (nI i).toNatClampNeg = i := nI_clamp (by omega)
  simp [zk_rdA, qc_81, e1, e2]
  omega
theorem qw_81 (i : Nat) (hi : i < 7) (x : Int32) (h : zk_H) : zk_wrA SHP (.ref 81) (.int (nI i)) (.int x) h = some (zk_up h 81 i x) := by
  have e1 : (nI i).toInt = (i : Int) := nI_toInt (by omega)
  have e2 : (nI i).toNatClampNeg = i := nI_clamp (by omega)
  simp [zk_wrA, qc_81, e1, e2]
  omega
theorem qa_82 (i : Nat) (hi : i < 7) (h : zk_H) : zk_rdA SHP (.ref 82) (.int (nI i)) h = some (.int (h 82 i)) := by
  have e1 : (nI i).toInt = (i : Int) := nI_toInt (by omega)
  have e2 : (nI i).toNatClampNeg = i := nI_clamp (by omega)
  simp [zk_rdA, qc_82, e1, e2]
  omega
theorem qw_82 (i : Nat) (hi : i < 7) (x : Int32) (h : zk_H) : zk_wrA SHP (.ref 82) (.int (nI i)) (.int x) h = some (zk_up h 82 i x) := by
  have e1 : (nI i).toInt = (i : Int) := nI_toInt (by omega)
  have e2 : (nI i).toNatClampNeg = i := nI_clamp (by omega)
  simp [zk_wrA, qc_82, e1, e2]
  omega
theorem qa_130 (i : Nat) (hi : i < 100) (h : zk_H) : zk_rdA SHP (.ref 130) (.int (nI i)) h = some (.int (h 130 i)) := by
  have e1 : (nI i).toInt = (i : Int) := nI_toInt (by omega)
  have e2 : (nI i).toNatClampNeg = i := nI_clamp (by omega)
  simp [zk_rdA, qc_130, e1, e2]
  omega
theorem qw_130 (i : Nat) (hi : i < 100) (x : Int32) (h : zk_H) : zk_wrA SHP (.ref 130) (.int (nI i)) (.int x) h = some (zk_up h 130 i x) := by
  have e1 : (nI i).toInt = (i : Int) := nI_toInt (by omega)
  have e2 : (nI i).toNatClampNeg = i := nI_clamp (by omega)
  simp [zk_wrA, qc_130, e1, e2]
  omega
theorem qa_132 (i : Nat) (hi : i < 6) (h : zk_H) : zk_rdA SHP (.ref 132) (.int (nI i)) h = some (.int (h 132 i)) := by
  have e1 : (nI i).toInt = (i : Int) := nI_toInt (by omega)
  have e2 : (nI i).toNatClampNeg = i := nI_clamp (by omega)
  simp [zk_rdA, qc_132, e1, e2]
  omega
theorem qw_132 (i : Nat) (hi : i < 6) (x : Int32) (h : zk_H) : zk_wrA SHP (.ref 132) (.int (nI i)) (.int x) h = some (zk_up h 132 i x) := by
  have e1 : (nI i).toInt = (i : Int) := nI_toInt (by omega)
  have e2 : (nI i).toNatClampNeg = i := nI_clamp (by omega)
  simp [zk_wrA, qc_132, e1, e2]
  omega
theorem qa_133 (i : Nat) (hi : i < 6) (h : zk_H) : zk_rdA SHP (.ref 133) (.int (nI i)) h = some (.int (h 133 i)) := by
  have e1 : (nI i).toInt = (i : Int) := nI_toInt (by omega)
  have e2 : (nI i).toNatClampNeg = i := nI_clamp (by omega)
  simp [zk_rdA, qc_133, e1, e2]
  omega
theorem qw_133 (i : Nat) (hi : i < 6) (x : Int32) (h : zk_H) : zk_wrA SHP (.ref 133) (.int (nI i)) (.int x) h = some (zk_up h 133 i x) := by
  have e1 : (nI i).toInt = (i : Int) := nI_toInt (by omega)
  have e2 : (nI i).toNatClampNeg = i := nI_clamp (by omega)
  simp [zk_wrA, qc_133, e1, e2]
  omega
theorem qa_134 (i : Nat) (hi : i < 7) (h : zk_H) : zk_rdA SHP (.ref 134) (.int (nI i)) h = some (.int (h 134 i)) := by
  have e1 : (nI i).toInt = (i : Int) := nI_toInt (by omega)
  have e2 : (nI i).toNatClampNeg = i := nI_clamp (by omega)
  simp [zk_rdA, qc_134, e1, e2]
  omega
theorem qw_134 (i : Nat) (hi : i < 7) (x : Int32) (h : zk_H) : zk_wrA SHP (.ref 134) (.int (nI i)) (.int x) h = some (zk_up h 134 i x) := by
  have e1 : (nI i).toInt = (i : Int) := nI_toInt (by omega)
  have e2 : (nI i).toNatClampNeg = i := nI_clamp (by omega)
  simp [zk_wrA, qc_134, e1, e2]
  omega
theorem qa_135 (i : Nat) (hi : i < 7) (h : zk_H) : zk_rdA SHP (.ref 135) (.int (nI i)) h = some (.int (h 135 i)) := by
  have e1 : (nI i).toInt = (i : Int) := nI_toInt (by omega)
  have e2 : (nI i).toNatClampNeg = i := nI_clamp (by omega)
  simp [zk_rdA, qc_135, e1, e2]
  omega
theorem qw_135 (i : Nat) (hi : i < 7) (x : Int32) (h : zk_H) : zk_wrA SHP (.ref 135) (.int (nI i)) (.int x) h = some (zk_up h 135 i x) := by
  have e1 : (nI i).toInt = (i : Int) := nI_toInt (by omega)
  have e2 : (nI i).toNatClampNeg = i := nI_clamp (by omega)
  simp [zk_wrA, qc_135, e1, e2]
  omega
theorem qa_151 (i : Nat) (hi : i < 6) (h : zk_H) : zk_rdA SHP (.ref 151) (.int (nI i)) h = some (.int (h 151 i)) := by
  have e1 : (nI i).toInt = (i : Int) := nI_toInt (by omega)
  have e2 : (nI i).toNatClampNeg = i := nI_clamp (by omega)
  simp [zk_rdA, qc_151, e1, e2]
  omega
theorem qw_151 (i : Nat) (hi : i < 6) (x : Int32) (h : zk_H) : zk_wrA SHP (.ref 151) (.int (nI i)) (.int x) h = some (zk_up h 151 i x) := by
  have e1 : (nI i).toInt = (i : Int) := nI_toInt (by omega)
  have e2 : (nI i).toNatClampNeg = i := nI_clamp (by omega)
  simp [zk_wrA, qc_151, e1, e2]
  omega
theorem qa_153 (i : Nat) (hi : i < 16) (h : zk_H) : zk_rdA SHP (.ref 153) (.int (nI i)) h = some (.int (h 153 i)) := by
  have e1 : (nI i).toInt = (i : Int) := nI_toInt (by omega)
  have e2 : (nI i).toNatClampNeg = i := nI_clamp (by omega)
  simp [zk_rdA, qc_153, e1, e2]
  omega
theorem qw_153 (i : Nat) (hi : i < 16) (x : Int32) (h : zk_H) : zk_wrA SHP (.ref 153) (.int (nI i)) (.int x) h = some (zk_up h 153 i x) := by
  have e1 : (nI i).toInt = (i : Int) := nI_toInt (by omega)
  have e2 : (nI i).toNatClampNeg = i := nI_clamp (by omega)
  simp [zk_wrA, qc_153, e1, e2]
  omega
theorem qa_154 (i : Nat) (hi : i < 16) (h : zk_H) : zk_rdA SHP (.ref 154) (.int (nI i)) h = some (.int (h 154 i)) := by
  have e1 : (nI i).toInt = (i : Int) := nI_toInt (by omega)
  have e2 : (nI i).toNatClampNeg = i := nI_clamp (by omega)
  simp [zk_rdA, qc_154, e1, e2]
  omega
theorem qw_154 (i : Nat) (hi : i < 16) (x : Int32) (h : zk_H) : zk_wrA SHP (.ref 154) (.int (nI i)) (.int x) h = some (zk_up h 154 i x) := by
  have e1 : (nI i).toInt = (i : Int) := nI_toInt (by omega)
  have e2 : (nI i).toNatClampNeg = i := nI_clamp (by omega)
  simp [zk_wrA, qc_154, e1, e2]
  omega
theorem qa_156 (i : Nat) (hi : i < 6) (h : zk_H) : zk_rdA SHP (.ref 156) (.int (nI i)) h = some (.int (h 156 i)) := by
  have e1 : (nI i).toInt = (i : Int) := nI_toInt (by omega)
  have e2 : (nI i).toNatClampNeg = i := nI_clamp (by omega)
  simp [zk_rdA, qc_156, e1, e2]
  omega
theorem qw_156 (i : Nat) (hi : i < 6) (x : Int32) (h : zk_H) : zk_wrA SHP (.ref 156) (.int (nI i)) (.int x) h = some (zk_up h 156 i x) := by
  have e1 : (nI i).toInt = (i : Int) := nI_toInt (by omega)
  have e2 : (nI i).toNatClampNeg = i := nI_clamp (by omega)
  simp [zk_wrA, qc_156, e1, e2]
  omega
theorem qa_157 (i : Nat) (hi : i < 6) (h : zk_H) : zk_rdA SHP (.ref 157) (.int (nI i)) h = some (.int (h 157 i)) := by
  have e1 : (nI i).toInt = (i : Int) := nI_toInt (by omega)
  have e2 : (nI i).toNatClampNeg = i := nI_clamp (by omega)
  simp [zk_rdA, qc_157, e1, e2]
  omega
theorem qw_157 (i : Nat) (hi : i < 6) (x : Int32) (h : zk_H) : zk_wrA SHP (.ref 157) (.int (nI i)) (.int x) h = some (zk_up h 157 i x) := by
  have e1 : (nI i).toInt = (i : Int) := nI_toInt (by omega)
  have e2 : (nI i).toNatClampNeg = i := nI_clamp (by omega)
  simp [zk_wrA, qc_157, e1, e2]
  omega
theorem qa_158 (i : Nat) (hi : i < 12) (h : zk_H) : zk_rdA SHP (.ref 158) (.int (nI i)) h = some (.int (h 158 i)) := by
  have e1 : (nI i).toInt = (i : Int) := nI_toInt (by omega)
  have e2 : (nI i).toNatClampNeg = i := nI_clamp (by omega)
  simp [zk_rdA, qc_158, e1, e2]
  omega
theorem qw_158 (i : Nat) (hi : i < 12) (x : Int32) (h : zk_H) : zk_wrA SHP (.ref 158) (.int (nI i)) (.int x) h = some (zk_up h 158 i x) := by
  have e1 : (nI i).toInt = (i : Int) := nI_toInt (by omega)
  have e2 : (nI i).toNatClampNeg = i := nI_clamp (by omega)
  simp [zk_wrA, qc_158, e1, e2]
  omega
theorem qa_177 (i : Nat) (hi : i < 7) (h : zk_H) : zk_rdA SHP (.ref 177) (.int (nI i)) h = some (.int (h 177 i)) := by
  have e1 : (nI i).toInt = (i : Int) := nI_toInt (by omega)
  have e2 : (nI i).toNatClampNeg = i := nI_clamp (by omega)
  simp [zk_rdA, qc_177, e1, e2]
  omega
theorem qw_177 (i : Nat) (hi : i < 7) (x : Int32) (h : zk_H) : zk_wrA SHP (.ref 177) (.int (nI i)) (.int x) h = some (zk_up h 177 i x) := by
  have e1 : (nI i).toInt = (i : Int) := nI_toInt (by omega)
  have e2 : (nI i).toNatClampNeg = i := nI_clamp (by omega)
  simp [zk_wrA, qc_177, e1, e2]
  omega
theorem qa_179 (i : Nat) (hi : i < 10) (h : zk_H) : zk_rdA SHP (.ref 179) (.int (nI i)) h = some (.int (h 179 i)) := by
  have e1 : (nI i).toInt = (i : Int) := nI_toInt (by omega)
  have e2 : (nI i).toNatClampNeg = i := nI_clamp (by omega)
  simp [zk_rdA, qc_179, e1, e2]
  omega
theorem qw_179 (i : Nat) (hi : i < 10) (x : Int32) (h : zk_H) : zk_wrA SHP (.ref 179) (.int (nI i)) (.int x) h = some (zk_up h 179 i x) := by
  have e1 : (nI i).toInt = (i : Int) := nI_toInt (by omega)
  have e2 : (nI i).toNatClampNeg = i := nI_clamp (by omega)
  simp [zk_wrA, qc_179, e1, e2]
  omega
theorem qa_180 (i : Nat) (hi : i < 63) (h : zk_H) : zk_rdA SHP (.ref 180) (.int (nI i)) h = some (.int (h 180 i)) := by
  have e1 : (nI i).toInt = (i : Int) := nI_toInt (by omega)
  have e2 : (nI i).toNatClampNeg = i := nI_clamp (by omega)
  simp [zk_rdA, qc_180, e1, e2]
  omega
theorem qw_180 (i : Nat) (hi : i < 63) (x : Int32) (h : zk_H) : zk_wrA SHP (.ref 180) (.int (nI i)) (.int x) h = some (zk_up h 180 i x) := by
  have e1 : (nI i).toInt = (i : Int) := nI_toInt (by omega)
  have e2 : (nI i).toNatClampNeg = i := nI_clamp (by omega)
  simp [zk_wrA, qc_180, e1, e2]
  omega
theorem qa_181 (i : Nat) (hi : i < 72) (h : zk_H) : zk_rdA SHP (.ref 181) (.int (nI i)) h = some (.int (h 181 i)) := by
  have e1 : (nI i).toInt = (i : Int) := nI_toInt (by omega)
  have e2 : (nI i).toNatClampNeg = i := nI_clamp (by omega)
  simp [zk_rdA, qc_181, e1, e2]
  omega
theorem qw_181 (i : Nat) (hi : i < 72) (x : Int32) (h : zk_H) : zk_wrA SHP (.ref 181) (.int (nI i)) (.int x) h = some (zk_up h 181 i x) := by
  have e1 : (nI i).toInt = (i : Int) := nI_toInt (by omega)
  have e2 : (nI i).toNatClampNeg = i := nI_clamp (by omega)
  simp [zk_wrA, qc_181, e1, e2]
  omega
theorem qa_182 (i : Nat) (hi : i < 96) (h : zk_H) : zk_rdA SHP (.ref 182) (.int (nI i)) h = some (.int (h 182 i)) := by
  have e1 : (nI i).toInt = (i : Int) := nI_toInt (by omega)
  have e2 : (nI i).toNatClampNeg = i := nI_clamp (by omega)
  simp [zk_rdA, qc_182, e1, e2]
  omega
theorem qw_182 (i : Nat) (hi : i < 96) (x : Int32) (h : zk_H) : zk_wrA SHP (.ref 182) (.int (nI i)) (.int x) h = some (zk_up h 182 i x) := by
  have e1 : (nI i).toInt = (i : Int) := nI_toInt (by omega)
  have e2 : (nI i).toNatClampNeg = i := nI_clamp (by omega)
  simp [zk_wrA, qc_182, e1, e2]
  omega
theorem qa_183 (i : Nat) (hi : i < 192) (h : zk_H) : zk_rdA SHP (.ref 183) (.int (nI i)) h = some (.int (h 183 i)) := by
  have e1 : (nI i).toInt = (i : Int) := nI_toInt (by omega)
  have e2 : (nI i).toNatClampNeg = i := nI_clamp (by omega)
  simp [zk_rdA, qc_183, e1, e2]
  omega
theorem qw_183 (i : Nat) (hi : i < 192) (x : Int32) (h : zk_H) : zk_wrA SHP (.ref 183) (.int (nI i)) (.int x) h = some (zk_up h 183 i x) := by
  have e1 : (nI i).toInt = (i : Int) := nI_toInt (by omega)
  have e2 : (nI i).toNatClampNeg = i := nI_clamp (by omega)
  simp [zk_wrA, qc_183, e1, e2]
  omega
theorem qa_184 (i : Nat) (hi : i < 24) (h : zk_H) : zk_rdA SHP (.ref 184) (.int (nI i)) h = some (.int (h 184 i)) := by
  have e1 : (nI i).toInt = (i : Int) := nI_toInt (by omega)
  have e2 : (nI i).toNatClampNeg = i := nI_clamp (by omega)
  simp [zk_rdA, qc_184, e1, e2]
  omega
theorem qw_184 (i : Nat) (hi : i < 24) (x : Int32) (h : zk_H) : zk_wrA SHP (.ref 184) (.int (nI i)) (.int x) h = some (zk_up h 184 i x) := by
  have e1 : (nI i).toInt = (i : Int) := nI_toInt (by omega)
  have e2 : (nI i).toNatClampNeg = i := nI_clamp (by omega)
  simp [zk_wrA, qc_184, e1, e2]
  omega
theorem qa_185 (i : Nat) (hi : i < 240) (h : zk_H) : zk_rdA SHP (.ref 185) (.int (nI i)) h = some (.int (h 185 i)) := by
  have e1 : (nI i).toInt = (i : Int) := nI_toInt (by omega)
  have e2 : (nI i).toNatClampNeg = i := nI_clamp (by omega)
  simp [zk_rdA, qc_185, e1, e2]
  omega
theorem qw_185 (i : Nat) (hi : i < 240) (x : Int32) (h : zk_H) : zk_wrA SHP (.ref 185) (.int (nI i)) (.int x) h = some (zk_up h 185 i x) := by
  have e1 : (nI i).toInt = (i : Int) := nI_toInt (by omega)
  have e2 : (nI i).toNatClampNeg = i := nI_clamp (by omega)
  simp [zk_wrA, qc_185, e1, e2]
  omega
theorem qa_186 (i : Nat) (hi : i < 42) (h : zk_H) : zk_rdA SHP (.ref 186) (.int (nI i)) h = some (.int (h 186 i)) := by
  have e1 : (nI i).toInt = (i : Int) := nI_toInt (by omega)
  have e2 : (nI i).toNatClampNeg = i := nI_clamp (by omega)
  simp [zk_rdA, qc_186, e1, e2]
  omega
theorem qw_186 (i : Nat) (hi : i < 42) (x : Int32) (h : zk_H) : zk_wrA SHP (.ref 186) (.int (nI i)) (.int x) h = some (zk_up h 186 i x) := by
  have e1 : (nI i).toInt = (i : Int) := nI_toInt (by omega)
  have e2 : (nI i).toNatClampNeg = i := nI_clamp (by omega)
  simp [zk_wrA, qc_186, e1, e2]
  omega
theorem qa_187 (i : Nat) (hi : i < 1407) (h : zk_H) : zk_rdA SHP (.ref 187) (.int (nI i)) h = some (.int (h 187 i)) := by
  have e1 : (nI i).toInt = (i : Int) := nI_toInt (by omega)
  have e2 : (nI i).toNatClampNeg = i := nI_clamp (by omega)
  simp [zk_rdA, qc_187, e1, e2]
  omega
theorem qw_187 (i : Nat) (hi : i < 1407) (x : Int32) (h : zk_H) : zk_wrA SHP (.ref 187) (.int (nI i)) (.int x) h = some (zk_up h 187 i x) := by
  have e1 : (nI i).toInt = (i : Int) := nI_toInt (by omega)
  have e2 : (nI i).toNatClampNeg = i := nI_clamp (by omega)
  simp [zk_wrA, qc_187, e1, e2]
  omega
theorem qa_188 (i : Nat) (hi : i < 1407) (h : zk_H) : zk_rdA SHP (.ref 188) (.int (nI i)) h = some (.int (h 188 i)) := by
  have e1 : (nI i).toInt = (i : Int) := nI_toInt (by omega)
  have e2 : (nI i).toNatClampNeg = i := nI_clamp (by omega)
  simp [zk_rdA, qc_188, e1, e2]
  omega
theorem qw_188 (i : Nat) (hi : i < 1407) (x : Int32) (h : zk_H) : zk_wrA SHP (.ref 188) (.int (nI i)) (.int x) h = some (zk_up h 188 i x) := by
  have e1 : (nI i).toInt = (i : Int) := nI_toInt (by omega)
  have e2 : (nI i).toNatClampNeg = i := nI_clamp (by omega)
  simp [zk_wrA, qc_188, e1, e2]
  omega
theorem qa_189 (i : Nat) (hi : i < 1407) (h : zk_H) : zk_rdA SHP (.ref 189) (.int (nI i)) h = some (.int (h 189 i)) := by
  have e1 : (nI i).toInt = (i : Int) := nI_toInt (by omega)
  have e2 : (nI i).toNatClampNeg = i := nI_clamp (by omega)
  simp [zk_rdA, qc_189, e1, e2]
  omega
theorem qw_189 (i : Nat) (hi : i < 1407) (x : Int32) (h : zk_H) : zk_wrA SHP (.ref 189) (.int (nI i)) (.int x) h = some (zk_up h 189 i x) := by
  have e1 : (nI i).toInt = (i : Int) := nI_toInt (by omega)
  have e2 : (nI i).toNatClampNeg = i := nI_clamp (by omega)
  simp [zk_wrA, qc_189, e1, e2]
  omega
theorem qa_190 (i : Nat) (hi : i < 8) (h : zk_H) : zk_rdA SHP (.ref 190) (.int (nI i)) h = some (.int (h 190 i)) := by
  have e1 : (nI i).toInt = (i : Int) := nI_toInt (by omega)
  have e2 : (nI i).toNatClampNeg = i := nI_clamp (by omega)
  simp [zk_rdA, qc_190, e1, e2]
  omega
theorem qw_190 (i : Nat) (hi : i < 8) (x : Int32) (h : zk_H) : zk_wrA SHP (.ref 190) (.int (nI i)) (.int x) h = some (zk_up h 190 i x) := by
  have e1 : (nI i).toInt = (i : Int) := nI_toInt (by omega)
  have e2 : (nI i).toNatClampNeg = i := nI_clamp (by omega)
  simp [zk_wrA, qc_190, e1, e2]
  omega
theorem qa_191 (i : Nat) (hi : i < 8) (h : zk_H) : zk_rdA SHP (.ref 191) (.int (nI i)) h = some (.int (h 191 i)) := by
  have e1 : (nI i).toInt = (i : Int) := nI_toInt (by omega)
  have e2 : (nI i).toNatClampNeg = i := nI_clamp (by omega)
  simp [zk_rdA, qc_191, e1, e2]
  omega
theorem qw_191 (i : Nat) (hi : i < 8) (x : Int32) (h : zk_H) : zk_wrA SHP (.ref 191) (.int (nI i)) (.int x) h = some (zk_up h 191 i x) := by
  have e1 : (nI i).toInt = (i : Int) := nI_toInt (by omega)
  have e2 : (nI i).toNatClampNeg = i := nI_clamp (by omega)
  simp [zk_wrA, qc_191, e1, e2]
  omega
theorem qa_192 (i : Nat) (hi : i < 8) (h : zk_H) : zk_rdA SHP (.ref 192) (.int (nI i)) h = some (.int (h 192 i)) := by
  have e1 : (nI i).toInt = (i : Int) := nI_toInt (by omega)
  have e2 : (nI i).toNatClampNeg = i := nI_clamp (by omega)
  simp [zk_rdA, qc_192, e1, e2]
  omega
theorem qw_192 (i : Nat) (hi : i < 8) (x : Int32) (h : zk_H) : zk_wrA SHP (.ref 192) (.int (nI i)) (.int x) h = some (zk_up h 192 i x) := by
  have e1 : (nI i).toInt = (i : Int) := nI_toInt (by omega)
  have e2 : (nI i).toNatClampNeg = i := nI_clamp (by omega)
  simp [zk_wrA, qc_192, e1, e2]
  omega
theorem qa_193 (i : Nat) (hi : i < 100) (h : zk_H) : zk_rdA SHP (.ref 193) (.int (nI i)) h = some (.int (h 193 i)) := by
  have e1 : (nI i).toInt = (i : Int) := nI_toInt (by omega)
  have e2 : (nI i).toNatClampNeg = i := nI_clamp (by omega)
  simp [zk_rdA, qc_193, e1, e2]
  omega
theorem qw_193 (i : Nat) (hi : i < 100) (x : Int32) (h : zk_H) : zk_wrA SHP (.ref 193) (.int (nI i)) (.int x) h = some (zk_up h 193 i x) := by
  have e1 : (nI i).toInt = (i : Int) := nI_toInt (by omega)
  have e2 : (nI i).toNatClampNeg = i := nI_clamp (by omega)
  simp [zk_wrA, qc_193, e1, e2]
  omega
theorem qa_194 (i : Nat) (hi : i < 16) (h : zk_H) : zk_rdA SHP (.ref 194) (.int (nI i)) h = some (.int (h 194 i)) := by
  have e1 : (nI i).toInt = (i : Int) := nI_toInt (by omega)
  have e2 : (nI i).toNatClampNeg = i := nI_clamp (by omega)
  simp [zk_rdA, qc_194, e1, e2]
  omega
theorem qw_194 (i : Nat) (hi : i < 16) (x : Int32) (h : zk_H) : zk_wrA SHP (.ref 194) (.int (nI i)) (.int x) h = some (zk_up h 194 i x) := by
  have e1 : (nI i).toInt = (i : Int) := nI_toInt (by omega)
  have e2 : (nI i).toNatClampNeg = i := nI_clamp (by omega)
  simp [zk_wrA, qc_194, e1, e2]
  omega
theorem qa_195 (i : Nat) (hi : i < 16) (h : zk_H) : zk_rdA SHP (.ref 195) (.int (nI i)) h = some (.int (h 195 i)) := by
  have e1 : (nI i).toInt = (i : Int) := nI_toInt (by omega)
  have e2 : (nI i).toNatClampNeg = i := nI_clamp (by omega)
  simp [zk_rdA, qc_195, e1, e2]
  omega
theorem qw_195 (i : Nat) (hi : i < 16) (x : Int32) (h : zk_H) : zk_wrA SHP (.ref 195) (.int (nI i)) (.int x) h = some (zk_up h 195 i x) := by
  have e1 : (nI i).toInt = (i : Int) := nI_toInt (by omega)
  have e2 : (nI i).toNatClampNeg = i := nI_clamp (by omega)
  simp [zk_wrA, qc_195, e1, e2]
  omega
theorem qa_196 (i : Nat) (hi : i < 6) (h : zk_H) : zk_rdA SHP (.ref 196) (.int (nI i)) h = some (.int (h 196 i)) := by
  have e1 : (nI i).toInt = (i : Int) := nI_toInt (by omega)
  have e2 : (nI i).toNatClampNeg = i := nI_clamp (by omega)
  simp [zk_rdA, qc_196, e1, e2]
  omega
theorem qw_196 (i : Nat) (hi : i < 6) (x : Int32) (h : zk_H) : zk_wrA SHP (.ref 196) (.int (nI i)) (.int x) h = some (zk_up h 196 i x) := by
  have e1 : (nI i).toInt = (i : Int) := nI_toInt (by omega)
  have e2 : (nI i).toNatClampNeg = i := nI_clamp (by omega)
  simp [zk_wrA, qc_196, e1, e2]
  omega
theorem qa_197 (i : Nat) (hi : i < 6) (h : zk_H) : zk_rdA SHP (.ref 197) (.int (nI i)) h = some (.int (h 197 i)) := by
  have e1 : (nI i).toInt = (i : Int) := nI_toInt (by omega)
  have e2 : (nI i).toNatClampNeg = i := nI_clamp (by omega)
  simp [zk_rdA, qc_197, e1, e2]
  omega
theorem qw_197 (i : Nat) (hi : i < 6) (x : Int32) (h : zk_H) : zk_wrA SHP (.ref 197) (.int (nI i)) (.int x) h = some (zk_up h 197 i x) := by
  have e1 : (nI i).toInt = (i : Int) := nI_toInt (by omega)
  have e2 : (nI i).toNatClampNeg = i := nI_clamp (by omega)
  simp [zk_wrA, qc_197, e1, e2]
  omega
theorem qa_198 (i : Nat) (hi : i < 12) (h : zk_H) : zk_rdA SHP (.ref 198) (.int (nI i)) h = some (.int (h 198 i)) := by
  have e1 : (nI i).toInt = (i : Int) := nI_toInt (by omega)
  have e2 : (nI i).toNatClampNeg = i := nI_clamp (by omega)
  simp [zk_rdA, qc_198, e1, e2]
  omega
theorem qw_198 (i : Nat) (hi : i < 12) (x : Int32) (h : zk_H) : zk_wrA SHP (.ref 198) (.int (nI i)) (.int x) h = some (zk_up h 198 i x) := by
  have e1 : (nI i).toInt = (i : Int) := nI_toInt (by omega)
  have e2 : (nI i).toNatClampNeg = i := nI_clamp (by omega)
  simp [zk_wrA, qc_198, e1, e2]
  omega
theorem qa_199 (i : Nat) (hi : i < 1024) (h : zk_H) : zk_rdA SHP (.ref 199) (.int (nI i)) h = some (.int (h 199 i)) := by
  have e1 : (nI i).toInt = (i : Int) := nI_toInt (by omega)
  have e2 : (nI i).toNatClampNeg = i := nI_clamp (by omega)
  simp [zk_rdA, qc_199, e1, e2]
  omega
theorem qw_199 (i : Nat) (hi : i < 1024) (x : Int32) (h : zk_H) : zk_wrA SHP (.ref 199) (.int (nI i)) (.int x) h = some (zk_up h 199 i x) := by
  have e1 : (nI i).toInt = (i : Int) := nI_toInt (by omega)
  have e2 : (nI i).toNatClampNeg = i := nI_clamp (by omega)
  simp [zk_wrA, qc_199, e1, e2]
  omega
theorem qa_200 (i : Nat) (hi : i < 745) (h : zk_H) : zk_rdA SHP (.ref 200) (.int (nI i)) h = some (.int (h 200 i)) := by
  have e1 : (nI i).toInt = (i : Int) := nI_toInt (by omega)
  have e2 : (nI i).toNatClampNeg = i := nI_clamp (by omega)
  simp [zk_rdA, qc_200, e1, e2]
  omega
theorem qw_200 (i : Nat) (hi : i < 745) (x : Int32) (h : zk_H) : zk_wrA SHP (.ref 200) (.int (nI i)) (.int x) h = some (zk_up h 200 i x) := by
  have e1 : (nI i).toInt = (i : Int) := nI_toInt (by omega)
  have e2 : (nI i).toNatClampNeg = i := nI_clamp (by omega)
  simp [zk_wrA, qc_200, e1, e2]
  omega
theorem qa_queue (s : Nat) (hs : s < 6) (i : Nat) (hi : i < 12) (h : zk_H) : zk_rdA SHP (.ref (20 + 3 * s)) (.int (nI i)) h = some (.int (h (20 + 3 * s) i)) := by
  have e1 : (nI i).toInt = (i : Int) := nI_toInt (by omega)
  have e2 : (nI i).toNatClampNeg = i := nI_clamp (by omega)
  simp [zk_rdA, qs_queue s hs, e1, e2]
  omega
theorem qw_queue (s : Nat) (hs : s < 6) (i : Nat) (hi : i < 12) (x : Int32) (h : zk_H) : zk_wrA SHP (.ref (20 + 3 * s)) (.int (nI i)) (.int x) h = some (zk_up h (20 + 3 * s) i x) := by
  have e1 : (nI i).toInt = (i : Int) := nI_toInt (by omega)
  have e2 : (nI i).toNatClampNeg = i := nI_clamp (by omega)
  simp [zk_wrA, qs_queue s hs, e1, e2]
  omega
theorem qa_splug (s : Nat) (hs : s < 6) (i : Nat) (hi : i < 16) (h : zk_H) : zk_rdA SHP (.ref (21 + 3 * s)) (.int (nI i)) h = some (.int (h (21 + 3 * s) i)) := by
  have e1 : (nI i).toInt = (i : Int) := nI_toInt (by omega)
  have e2 : (nI i).toNatClampNeg = i := nI_clamp (by omega)
  simp [zk_rdA, qs_splug s hs, e1, e2]
  omega
theorem qw_splug (s : Nat) (hs : s < 6) (i : Nat) (hi : i < 16) (x : Int32) (h : zk_H) : zk_wrA SHP (.ref (21 + 3 * s)) (.int (nI i)) (.int x) h = some (zk_up h (21 + 3 * s) i x) := by
  have e1 : (nI i).toInt = (i : Int) := nI_toInt (by omega)
  have e2 : (nI i).toNatClampNeg = i := nI_clamp (by omega)
  simp [zk_wrA, qs_splug s hs, e1, e2]
  omega
theorem qa_arr (s : Nat) (hs : s < 7) (i : Nat) (hi : i < 201) (h : zk_H) : zk_rdA SHP (.ref (137 + s)) (.int (nI i)) h = some (.int (h (137 + s) i)) := by
  have e1 : (nI i).toInt = (i : Int) := nI_toInt (by omega)
  have e2 : (nI i).toNatClampNeg = i := nI_clamp (by omega)
  simp [zk_rdA, qs_arr s hs, e1, e2]
  omega
theorem qw_arr (s : Nat) (hs : s < 7) (i : Nat) (hi : i < 201) (x : Int32) (h : zk_H) : zk_wrA SHP (.ref (137 + s)) (.int (nI i)) (.int x) h = some (zk_up h (137 + s) i x) := by
  have e1 : (nI i).toInt = (i : Int) := nI_toInt (by omega)
  have e2 : (nI i).toNatClampNeg = i := nI_clamp (by omega)
  simp [zk_wrA, qs_arr s hs, e1, e2]
  omega
theorem qa_chg (s : Nat) (hs : s < 6) (i : Nat) (hi : i < 201) (h : zk_H) : zk_rdA SHP (.ref (145 + s)) (.int (nI i)) h = some (.int (h (145 + s) i)) := by
  have e1 : (nI i).toInt = (i : Int) := nI_toInt (by omega)
  have e2 : (nI i).toNatClampNeg = i := nI_clamp (by omega)
  simp [zk_rdA, qs_chg s hs, e1, e2]
  omega
theorem qw_chg (s : Nat) (hs : s < 6) (i : Nat) (hi : i < 201) (x : Int32) (h : zk_H) : zk_wrA SHP (.ref (145 + s)) (.int (nI i)) (.int x) h = some (zk_up h (145 + s) i x) := by
  have e1 : (nI i).toInt = (i : Int) := nI_toInt (by omega)
  have e2 : (nI i).toNatClampNeg = i := nI_clamp (by omega)
  simp [zk_wrA, qs_chg s hs, e1, e2]
  omega
theorem qa_best (s : Nat) (hs : s < 8) (i : Nat) (hi : i < 128) (h : zk_H) : zk_rdA SHP (.ref (161 + s)) (.int (nI i)) h = some (.int (h (161 + s) i)) := by
  have e1 : (nI i).toInt = (i : Int) := nI_toInt (by omega)
  have e2 : (nI i).toNatClampNeg = i := nI_clamp (by omega)
  simp [zk_rdA, qs_best s hs, e1, e2]
  omega
theorem qw_best (s : Nat) (hs : s < 8) (i : Nat) (hi : i < 128) (x : Int32) (h : zk_H) : zk_wrA SHP (.ref (161 + s)) (.int (nI i)) (.int x) h = some (zk_up h (161 + s) i x) := by
  have e1 : (nI i).toInt = (i : Int) := nI_toInt (by omega)
  have e2 : (nI i).toNatClampNeg = i := nI_clamp (by omega)
  simp [zk_wrA, qs_best s hs, e1, e2]
  omega
theorem qa_sco (s : Nat) (hs : s < 7) (i : Nat) (hi : i < 7) (h : zk_H) : zk_rdA SHP (.ref (170 + s)) (.int (nI i)) h = some (.int (h (170 + s) i)) := by
  have e1 : (nI i).toInt = (i : Int) := nI_toInt (by omega)
  have e2 : (nI i).toNatClampNeg = i := nI_clamp (by omega)
  simp [zk_rdA, qs_sco s hs, e1, e2]
  omega
theorem qw_sco (s : Nat) (hs : s < 7) (i : Nat) (hi : i < 7) (x : Int32) (h : zk_H) : zk_wrA SHP (.ref (170 + s)) (.int (nI i)) (.int x) h = some (zk_up h (170 + s) i x) := by
  have e1 : (nI i).toInt = (i : Int) := nI_toInt (by omega)
  have e2 : (nI i).toNatClampNeg = i := nI_clamp (by omega)
  simp [zk_wrA, qs_sco s hs, e1, e2]
  omega

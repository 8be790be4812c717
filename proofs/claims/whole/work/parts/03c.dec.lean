theorem dX12_weighTrip_15 : decode cX12_weighTrip 15 = .ok (.iconst 1, 1) := by decide +kernel
theorem dX12_weighTrip_16 : decode cX12_weighTrip 16 = .ok (.if_icmp .lt 38, 3) := by decide +kernel
theorem dX12_weighTrip_19 : decode cX12_weighTrip 19 = .ok (.iconst 0, 1) := by decide +kernel
theorem dX12_weighTrip_20 : decode cX12_weighTrip 20 = .ok (.istore 5, 2) := by decide +kernel
theorem dX12_weighTrip_22 : decode cX12_weighTrip 22 = .ok (.iload 5, 2) := by decide +kernel
theorem dX12_weighTrip_24 : decode cX12_weighTrip 24 = .ok (.aload_n 0, 1) := by decide +kernel
theorem dX12_weighTrip_25 : decode cX12_weighTrip 25 = .ok (.iload_n 1, 1) := by decide +kernel
theorem dX12_weighTrip_26 : decode cX12_weighTrip 26 = .ok (.iconst 0, 1) := by decide +kernel
theorem dX12_weighTrip_27 : decode cX12_weighTrip 27 = .ok (.invokevirtual 84, 3) := by decide +kernel
theorem dX12_weighTrip_30 : decode cX12_weighTrip 30 = .ok (.if_icmp .gt 18, 3) := by decide +kernel
theorem dX12_weighTrip_33 : decode cX12_weighTrip 33 = .ok (.aload_n 0, 1) := by decide +kernel
theorem dX12_weighTrip_34 : decode cX12_weighTrip 34 = .ok (.iload_n 1, 1) := by decide +kernel
theorem dX12_weighTrip_35 : decode cX12_weighTrip 35 = .ok (.iload 4, 2) := by decide +kernel
theorem dX12_weighTrip_37 : decode cX12_weighTrip 37 = .ok (.iload 5, 2) := by decide +kernel
theorem dX12_weighTrip_39 : decode cX12_weighTrip 39 = .ok (.invokevirtual 139, 3) := by decide +kernel
theorem dX12_weighTrip_42 : decode cX12_weighTrip 42 = .ok (.iinc 5 1, 3) := by decide +kernel
theorem dX12_weighTrip_45 : decode cX12_weighTrip 45 = .ok (.goto (-23), 3) := by decide +kernel
theorem dX12_weighTrip_48 : decode cX12_weighTrip 48 = .ok (.iinc 4 (-1), 3) := by decide +kernel
theorem dX12_weighTrip_51 : decode cX12_weighTrip 51 = .ok (.goto (-38), 3) := by decide +kernel
theorem dX12_weighTrip_54 : decode cX12_weighTrip 54 = .ok (.aload_n 0, 1) := by decide +kernel
theorem dX12_weighTrip_55 : decode cX12_weighTrip 55 = .ok (.iload_n 1, 1) := by decide +kernel
theorem dX12_weighTrip_56 : decode cX12_weighTrip 56 = .ok (.iconst 0, 1) := by decide +kernel
theorem dX12_weighTrip_57 : decode cX12_weighTrip 57 = .ok (.aload_n 0, 1) := by decide +kernel
theorem dX12_weighTrip_58 : decode cX12_weighTrip 58 = .ok (.iload_n 1, 1) := by decide +kernel
theorem dX12_weighTrip_59 : decode cX12_weighTrip 59 = .ok (.iconst 4, 1) := by decide +kernel
theorem dX12_weighTrip_60 : decode cX12_weighTrip 60 = .ok (.invokevirtual 84, 3) := by decide +kernel
theorem dX12_weighTrip_63 : decode cX12_weighTrip 63 = .ok (.invokevirtual 132, 3) := by decide +kernel
theorem dX12_weighTrip_66 : decode cX12_weighTrip 66 = .ok (.aload_n 0, 1) := by decide +kernel
theorem dX12_weighTrip_67 : decode cX12_weighTrip 67 = .ok (.getfield 126, 3) := by decide +kernel
theorem dX12_weighTrip_70 : decode cX12_weighTrip 70 = .ok (.ldc 125, 2) := by decide +kernel
theorem dX12_weighTrip_72 : decode cX12_weighTrip 72 = .ok (.if_icmp .ge 7, 3) := by decide +kernel
theorem dX12_weighTrip_75 : decode cX12_weighTrip 75 = .ok (.iconst 1, 1) := by decide +kernel
theorem dX12_weighTrip_76 : decode cX12_weighTrip 76 = .ok (.goto 4, 3) := by decide +kernel
theorem dX12_weighTrip_79 : decode cX12_weighTrip 79 = .ok (.iconst 0, 1) := by decide +kernel
theorem dX12_weighTrip_80 : decode cX12_weighTrip 80 = .ok (.ireturn, 1) := by decide +kernel
theorem dX12_trip_0 : decode cX12_trip 0 = .ok (.aload_n 0, 1) := by decide +kernel
theorem dX12_trip_1 : decode cX12_trip 1 = .ok (.iload_n 1, 1) := by decide +kernel
theorem dX12_trip_2 : decode cX12_trip 2 = .ok (.invokevirtual 88, 3) := by decide +kernel
theorem dX12_trip_5 : decode cX12_trip 5 = .ok (.ifCond .eq 56, 3) := by decide +kernel
theorem dX12_trip_8 : decode cX12_trip 8 = .ok (.iload_n 2, 1) := by decide +kernel
theorem dX12_trip_9 : decode cX12_trip 9 = .ok (.iconst 0, 1) := by decide +kernel
theorem dX12_trip_10 : decode cX12_trip 10 = .ok (.sipush 998, 3) := by decide +kernel
theorem dX12_trip_13 : decode cX12_trip 13 = .ok (.invokestatic 76, 3) := by decide +kernel
theorem dX12_trip_16 : decode cX12_trip 16 = .ok (.ifCond .eq 45, 3) := by decide +kernel
theorem dX12_trip_19 : decode cX12_trip 19 = .ok (.iload_n 3, 1) := by decide +kernel
theorem dX12_trip_20 : decode cX12_trip 20 = .ok (.iload_n 2, 1) := by decide +kernel
theorem dX12_trip_21 : decode cX12_trip 21 = .ok (.iconst 1, 1) := by decide +kernel
theorem dX12_trip_22 : decode cX12_trip 22 = .ok (.iadd, 1) := by decide +kernel
theorem dX12_trip_23 : decode cX12_trip 23 = .ok (.sipush 999, 3) := by decide +kernel
theorem dX12_trip_26 : decode cX12_trip 26 = .ok (.invokestatic 76, 3) := by decide +kernel
theorem dX12_trip_29 : decode cX12_trip 29 = .ok (.ifCond .eq 32, 3) := by decide +kernel
theorem dX12_trip_32 : decode cX12_trip 32 = .ok (.iload 4, 2) := by decide +kernel
theorem dX12_trip_34 : decode cX12_trip 34 = .ok (.iconst 0, 1) := by decide +kernel
theorem dX12_trip_35 : decode cX12_trip 35 = .ok (.iconst 2, 1) := by decide +kernel
theorem dX12_trip_36 : decode cX12_trip 36 = .ok (.invokestatic 76, 3) := by decide +kernel
theorem dX12_trip_39 : decode cX12_trip 39 = .ok (.ifCond .ne 24, 3) := by decide +kernel
theorem dX12_trip_42 : decode cX12_trip 42 = .ok (.iload 4, 2) := by decide +kernel
theorem dX12_trip_44 : decode cX12_trip 44 = .ok (.bipush 10, 2) := by decide +kernel
theorem dX12_trip_46 : decode cX12_trip 46 = .ok (.bipush 9, 2) := by decide +kernel
theorem dX12_trip_48 : decode cX12_trip 48 = .ok (.aload_n 0, 1) := by decide +kernel
theorem dX12_trip_49 : decode cX12_trip 49 = .ok (.getfield 7, 3) := by decide +kernel
theorem dX12_trip_52 : decode cX12_trip 52 = .ok (.iconst 1, 1) := by decide +kernel
theorem dX12_trip_53 : decode cX12_trip 53 = .ok (.iaload, 1) := by decide +kernel
theorem dX12_trip_54 : decode cX12_trip 54 = .ok (.iadd, 1) := by decide +kernel
theorem dX12_trip_55 : decode cX12_trip 55 = .ok (.invokestatic 76, 3) := by decide +kernel
theorem dX12_trip_58 : decode cX12_trip 58 = .ok (.ifCond .ne 5, 3) := by decide +kernel
theorem dX12_trip_61 : decode cX12_trip 61 = .ok (.iconst (-1), 1) := by decide +kernel
theorem dX12_trip_62 : decode cX12_trip 62 = .ok (.ireturn, 1) := by decide +kernel
theorem dX12_trip_63 : decode cX12_trip 63 = .ok (.aload_n 0, 1) := by decide +kernel
theorem dX12_trip_64 : decode cX12_trip 64 = .ok (.iload_n 1, 1) := by decide +kernel
theorem dX12_trip_65 : decode cX12_trip 65 = .ok (.iload_n 2, 1) := by decide +kernel
theorem dX12_trip_66 : decode cX12_trip 66 = .ok (.iload_n 3, 1) := by decide +kernel
theorem dX12_trip_67 : decode cX12_trip 67 = .ok (.invokevirtual 142, 3) := by decide +kernel
theorem dX12_trip_70 : decode cX12_trip 70 = .ok (.ifCond .ne 6, 3) := by decide +kernel
theorem dX12_trip_73 : decode cX12_trip 73 = .ok (.bipush (-3), 2) := by decide +kernel
theorem dX12_trip_75 : decode cX12_trip 75 = .ok (.ireturn, 1) := by decide +kernel
theorem dX12_trip_76 : decode cX12_trip 76 = .ok (.iload 4, 2) := by decide +kernel
theorem dX12_trip_78 : decode cX12_trip 78 = .ok (.iconst 2, 1) := by decide +kernel
theorem dX12_trip_79 : decode cX12_trip 79 = .ok (.if_icmp .ge 20, 3) := by decide +kernel
theorem dX12_trip_82 : decode cX12_trip 82 = .ok (.iload 4, 2) := by decide +kernel
theorem dX12_trip_84 : decode cX12_trip 84 = .ok (.ifCond .ne 10, 3) := by decide +kernel
theorem dX12_trip_87 : decode cX12_trip 87 = .ok (.aload_n 0, 1) := by decide +kernel
theorem dX12_trip_88 : decode cX12_trip 88 = .ok (.getfield 126, 3) := by decide +kernel
theorem dX12_trip_91 : decode cX12_trip 91 = .ok (.goto 7, 3) := by decide +kernel
theorem dX12_trip_94 : decode cX12_trip 94 = .ok (.aload_n 0, 1) := by decide +kernel
theorem dX12_trip_95 : decode cX12_trip 95 = .ok (.getfield 129, 3) := by decide +kernel
theorem dX12_trip_98 : decode cX12_trip 98 = .ok (.ireturn, 1) := by decide +kernel
theorem dX12_trip_99 : decode cX12_trip 99 = .ok (.aload_n 0, 1) := by decide +kernel
theorem dX12_trip_100 : decode cX12_trip 100 = .ok (.iload_n 1, 1) := by decide +kernel
theorem dX12_trip_101 : decode cX12_trip 101 = .ok (.iconst 4, 1) := by decide +kernel
theorem dX12_trip_102 : decode cX12_trip 102 = .ok (.invokevirtual 84, 3) := by decide +kernel
theorem dX12_trip_105 : decode cX12_trip 105 = .ok (.istore 5, 2) := by decide +kernel
theorem dX12_trip_107 : decode cX12_trip 107 = .ok (.iconst 1, 1) := by decide +kernel
theorem dX12_trip_108 : decode cX12_trip 108 = .ok (.istore 6, 2) := by decide +kernel
theorem dX12_trip_110 : decode cX12_trip 110 = .ok (.iload 6, 2) := by decide +kernel
theorem dX12_trip_112 : decode cX12_trip 112 = .ok (.aload_n 0, 1) := by decide +kernel
theorem dX12_trip_113 : decode cX12_trip 113 = .ok (.getfield 118, 3) := by decide +kernel
theorem dX12_trip_116 : decode cX12_trip 116 = .ok (.if_icmp .gt 105, 3) := by decide +kernel
theorem dX12_trip_119 : decode cX12_trip 119 = .ok (.iload 5, 2) := by decide +kernel
theorem dX12_trip_121 : decode cX12_trip 121 = .ok (.aload_n 0, 1) := by decide +kernel
theorem dX12_trip_122 : decode cX12_trip 122 = .ok (.iload_n 1, 1) := by decide +kernel
theorem dX12_trip_123 : decode cX12_trip 123 = .ok (.aload_n 0, 1) := by decide +kernel
theorem dX12_trip_124 : decode cX12_trip 124 = .ok (.getfield 43, 3) := by decide +kernel
theorem dX12_trip_127 : decode cX12_trip 127 = .ok (.iload 6, 2) := by decide +kernel
theorem dX12_trip_129 : decode cX12_trip 129 = .ok (.iaload, 1) := by decide +kernel
theorem dX12_trip_130 : decode cX12_trip 130 = .ok (.aload_n 0, 1) := by decide +kernel
theorem dX12_trip_131 : decode cX12_trip 131 = .ok (.getfield 43, 3) := by decide +kernel
theorem dX12_trip_134 : decode cX12_trip 134 = .ok (.iload 6, 2) := by decide +kernel
theorem dX12_trip_136 : decode cX12_trip 136 = .ok (.iconst 1, 1) := by decide +kernel
theorem dX12_trip_137 : decode cX12_trip 137 = .ok (.isub, 1) := by decide +kernel
theorem dX12_trip_138 : decode cX12_trip 138 = .ok (.iaload, 1) := by decide +kernel
theorem dX12_trip_139 : decode cX12_trip 139 = .ok (.isub, 1) := by decide +kernel
theorem dX12_trip_140 : decode cX12_trip 140 = .ok (.invokevirtual 95, 3) := by decide +kernel
theorem dX12_trip_143 : decode cX12_trip 143 = .ok (.isub, 1) := by decide +kernel
theorem dX12_trip_144 : decode cX12_trip 144 = .ok (.istore 5, 2) := by decide +kernel
theorem dX12_trip_146 : decode cX12_trip 146 = .ok (.aload_n 0, 1) := by decide +kernel
theorem dX12_trip_147 : decode cX12_trip 147 = .ok (.getfield 40, 3) := by decide +kernel
theorem dX12_trip_150 : decode cX12_trip 150 = .ok (.sipush 201, 3) := by decide +kernel
theorem dX12_trip_153 : decode cX12_trip 153 = .ok (.iload 6, 2) := by decide +kernel
theorem dX12_trip_155 : decode cX12_trip 155 = .ok (.imul, 1) := by decide +kernel
theorem dX12_trip_156 : decode cX12_trip 156 = .ok (.iload 5, 2) := by decide +kernel
theorem dX12_trip_158 : decode cX12_trip 158 = .ok (.iadd, 1) := by decide +kernel
theorem dX12_trip_159 : decode cX12_trip 159 = .ok (.iaload, 1) := by decide +kernel
theorem dX12_trip_160 : decode cX12_trip 160 = .ok (.istore 7, 2) := by decide +kernel
theorem dX12_trip_162 : decode cX12_trip 162 = .ok (.iload 4, 2) := by decide +kernel
theorem dX12_trip_164 : decode cX12_trip 164 = .ok (.bipush 10, 2) := by decide +kernel
theorem dX12_trip_166 : decode cX12_trip 166 = .ok (.aload_n 0, 1) := by decide +kernel
theorem dX12_trip_167 : decode cX12_trip 167 = .ok (.getfield 46, 3) := by decide +kernel
theorem dX12_trip_170 : decode cX12_trip 170 = .ok (.iload 6, 2) := by decide +kernel
theorem dX12_trip_172 : decode cX12_trip 172 = .ok (.iaload, 1) := by decide +kernel
theorem dX12_trip_173 : decode cX12_trip 173 = .ok (.iadd, 1) := by decide +kernel
theorem dX12_trip_174 : decode cX12_trip 174 = .ok (.if_icmp .ne 6, 3) := by decide +kernel
theorem dX12_trip_177 : decode cX12_trip 177 = .ok (.iload 7, 2) := by decide +kernel
theorem dX12_trip_179 : decode cX12_trip 179 = .ok (.ireturn, 1) := by decide +kernel
theorem dX12_trip_180 : decode cX12_trip 180 = .ok (.iconst 0, 1) := by decide +kernel
theorem dX12_trip_181 : decode cX12_trip 181 = .ok (.istore 8, 2) := by decide +kernel
theorem dX12_trip_183 : decode cX12_trip 183 = .ok (.iload 8, 2) := by decide +kernel
theorem dX12_trip_185 : decode cX12_trip 185 = .ok (.iload 7, 2) := by decide +kernel
theorem dX12_trip_187 : decode cX12_trip 187 = .ok (.if_icmp .ge 28, 3) := by decide +kernel
theorem dX12_trip_190 : decode cX12_trip 190 = .ok (.iload 5, 2) := by decide +kernel
theorem dX12_trip_192 : decode cX12_trip 192 = .ok (.aload_n 0, 1) := by decide +kernel
theorem dX12_trip_193 : decode cX12_trip 193 = .ok (.iload_n 1, 1) := by decide +kernel
theorem dX12_trip_194 : decode cX12_trip 194 = .ok (.aload_n 0, 1) := by decide +kernel
theorem dX12_trip_195 : decode cX12_trip 195 = .ok (.getfield 49, 3) := by decide +kernel
theorem dX12_trip_198 : decode cX12_trip 198 = .ok (.iload 6, 2) := by decide +kernel
theorem dX12_trip_200 : decode cX12_trip 200 = .ok (.iaload, 1) := by decide +kernel
theorem dX12_trip_201 : decode cX12_trip 201 = .ok (.iload 5, 2) := by decide +kernel
theorem dX12_trip_203 : decode cX12_trip 203 = .ok (.invokevirtual 101, 3) := by decide +kernel
theorem dX12_trip_206 : decode cX12_trip 206 = .ok (.iadd, 1) := by decide +kernel
theorem dX12_trip_207 : decode cX12_trip 207 = .ok (.istore 5, 2) := by decide +kernel
theorem dX12_trip_209 : decode cX12_trip 209 = .ok (.iinc 8 1, 3) := by decide +kernel
theorem dX12_trip_212 : decode cX12_trip 212 = .ok (.goto (-29), 3) := by decide +kernel
theorem dX12_trip_215 : decode cX12_trip 215 = .ok (.iinc 6 1, 3) := by decide +kernel
theorem dX12_trip_218 : decode cX12_trip 218 = .ok (.goto (-108), 3) := by decide +kernel
theorem dX12_trip_221 : decode cX12_trip 221 = .ok (.iload 4, 2) := by decide +kernel
theorem dX12_trip_223 : decode cX12_trip 223 = .ok (.iconst 2, 1) := by decide +kernel
theorem dX12_trip_224 : decode cX12_trip 224 = .ok (.if_icmp .ne 35, 3) := by decide +kernel
theorem dX12_trip_227 : decode cX12_trip 227 = .ok (.iload 5, 2) := by decide +kernel
theorem dX12_trip_229 : decode cX12_trip 229 = .ok (.aload_n 0, 1) := by decide +kernel
theorem dX12_trip_230 : decode cX12_trip 230 = .ok (.iload_n 1, 1) := by decide +kernel
theorem dX12_trip_231 : decode cX12_trip 231 = .ok (.aload_n 0, 1) := by decide +kernel
theorem dX12_trip_232 : decode cX12_trip 232 = .ok (.getfield 43, 3) := by decide +kernel
theorem dX12_trip_235 : decode cX12_trip 235 = .ok (.aload_n 0, 1) := by decide +kernel
theorem dX12_trip_236 : decode cX12_trip 236 = .ok (.getfield 118, 3) := by decide +kernel
theorem dX12_trip_239 : decode cX12_trip 239 = .ok (.iconst 1, 1) := by decide +kernel
theorem dX12_trip_240 : decode cX12_trip 240 = .ok (.iadd, 1) := by decide +kernel
theorem dX12_trip_241 : decode cX12_trip 241 = .ok (.iaload, 1) := by decide +kernel
theorem dX12_trip_242 : decode cX12_trip 242 = .ok (.aload_n 0, 1) := by decide +kernel
theorem dX12_trip_243 : decode cX12_trip 243 = .ok (.getfield 43, 3) := by decide +kernel
theorem dX12_trip_246 : decode cX12_trip 246 = .ok (.aload_n 0, 1) := by decide +kernel
theorem dX12_trip_247 : decode cX12_trip 247 = .ok (.getfield 118, 3) := by decide +kernel
theorem dX12_trip_250 : decode cX12_trip 250 = .ok (.iaload, 1) := by decide +kernel
theorem dX12_trip_251 : decode cX12_trip 251 = .ok (.isub, 1) := by decide +kernel
theorem dX12_trip_252 : decode cX12_trip 252 = .ok (.invokevirtual 95, 3) := by decide +kernel
theorem dX12_trip_255 : decode cX12_trip 255 = .ok (.isub, 1) := by decide +kernel
theorem dX12_trip_256 : decode cX12_trip 256 = .ok (.goto 4, 3) := by decide +kernel
theorem dX12_trip_259 : decode cX12_trip 259 = .ok (.iconst 0, 1) := by decide +kernel
theorem dX12_trip_260 : decode cX12_trip 260 = .ok (.ireturn, 1) := by decide +kernel
theorem dX12_feed_0 : decode cX12_feed 0 = .ok (.iload_n 3, 1) := by decide +kernel
theorem dX12_feed_1 : decode cX12_feed 1 = .ok (.iconst 1, 1) := by decide +kernel
theorem dX12_feed_2 : decode cX12_feed 2 = .ok (.bipush 8, 2) := by decide +kernel
theorem dX12_feed_4 : decode cX12_feed 4 = .ok (.invokestatic 76, 3) := by decide +kernel
theorem dX12_feed_7 : decode cX12_feed 7 = .ok (.ifCond .ne 5, 3) := by decide +kernel
theorem dX12_feed_10 : decode cX12_feed 10 = .ok (.iconst (-1), 1) := by decide +kernel
theorem dX12_feed_11 : decode cX12_feed 11 = .ok (.ireturn, 1) := by decide +kernel
theorem dX12_feed_12 : decode cX12_feed 12 = .ok (.aload_n 0, 1) := by decide +kernel
theorem dX12_feed_13 : decode cX12_feed 13 = .ok (.getfield 145, 3) := by decide +kernel
theorem dX12_feed_16 : decode cX12_feed 16 = .ok (.iload_n 3, 1) := by decide +kernel
theorem dX12_feed_17 : decode cX12_feed 17 = .ok (.iadd, 1) := by decide +kernel
theorem dX12_feed_18 : decode cX12_feed 18 = .ok (.bipush 100, 2) := by decide +kernel
theorem dX12_feed_20 : decode cX12_feed 20 = .ok (.if_icmp .le 6, 3) := by decide +kernel
theorem dX12_feed_23 : decode cX12_feed 23 = .ok (.bipush (-2), 2) := by decide +kernel
theorem dX12_feed_25 : decode cX12_feed 25 = .ok (.ireturn, 1) := by decide +kernel
theorem dX12_feed_26 : decode cX12_feed 26 = .ok (.iconst 0, 1) := by decide +kernel
theorem dX12_feed_27 : decode cX12_feed 27 = .ok (.istore 4, 2) := by decide +kernel
theorem dX12_feed_29 : decode cX12_feed 29 = .ok (.iload 4, 2) := by decide +kernel
theorem dX12_feed_31 : decode cX12_feed 31 = .ok (.iload_n 3, 1) := by decide +kernel
theorem dX12_feed_32 : decode cX12_feed 32 = .ok (.if_icmp .ge 40, 3) := by decide +kernel
theorem dX12_feed_35 : decode cX12_feed 35 = .ok (.aload_n 0, 1) := by decide +kernel
theorem dX12_feed_36 : decode cX12_feed 36 = .ok (.getfield 52, 3) := by decide +kernel
theorem dX12_feed_39 : decode cX12_feed 39 = .ok (.aload_n 0, 1) := by decide +kernel
theorem dX12_feed_40 : decode cX12_feed 40 = .ok (.getfield 145, 3) := by decide +kernel
theorem dX12_feed_43 : decode cX12_feed 43 = .ok (.lload_n 1, 1) := by decide +kernel
theorem dX12_feed_44 : decode cX12_feed 44 = .ok (.bipush 8, 2) := by decide +kernel
theorem dX12_feed_46 : decode cX12_feed 46 = .ok (.iload 4, 2) := by decide +kernel
theorem dX12_feed_48 : decode cX12_feed 48 = .ok (.imul, 1) := by decide +kernel
theorem dX12_feed_49 : decode cX12_feed 49 = .ok (.lushr, 1) := by decide +kernel
theorem dX12_feed_50 : decode cX12_feed 50 = .ok (.ldc2_w 148, 3) := by decide +kernel
theorem dX12_feed_53 : decode cX12_feed 53 = .ok (.land, 1) := by decide +kernel
theorem dX12_feed_54 : decode cX12_feed 54 = .ok (.l2i, 1) := by decide +kernel
theorem dX12_feed_55 : decode cX12_feed 55 = .ok (.iastore, 1) := by decide +kernel
theorem dX12_feed_56 : decode cX12_feed 56 = .ok (.aload_n 0, 1) := by decide +kernel
theorem dX12_feed_57 : decode cX12_feed 57 = .ok (.dup, 1) := by decide +kernel
theorem dX12_feed_58 : decode cX12_feed 58 = .ok (.getfield 145, 3) := by decide +kernel
theorem dX12_feed_61 : decode cX12_feed 61 = .ok (.iconst 1, 1) := by decide +kernel
theorem dX12_feed_62 : decode cX12_feed 62 = .ok (.iadd, 1) := by decide +kernel
theorem dX12_feed_63 : decode cX12_feed 63 = .ok (.putfield 145, 3) := by decide +kernel
theorem dX12_feed_66 : decode cX12_feed 66 = .ok (.iinc 4 1, 3) := by decide +kernel
theorem dX12_feed_69 : decode cX12_feed 69 = .ok (.goto (-40), 3) := by decide +kernel
theorem dX12_feed_72 : decode cX12_feed 72 = .ok (.aload_n 0, 1) := by decide +kernel
theorem dX12_feed_73 : decode cX12_feed 73 = .ok (.getfield 145, 3) := by decide +kernel
theorem dX12_feed_76 : decode cX12_feed 76 = .ok (.ireturn, 1) := by decide +kernel
theorem dX12_isLetter_0 : decode cX12_isLetter 0 = .ok (.iload_n 0, 1) := by decide +kernel
theorem dX12_isLetter_1 : decode cX12_isLetter 1 = .ok (.bipush 97, 2) := by decide +kernel
theorem dX12_isLetter_3 : decode cX12_isLetter 3 = .ok (.if_icmp .lt 13, 3) := by decide +kernel
theorem dX12_isLetter_6 : decode cX12_isLetter 6 = .ok (.iload_n 0, 1) := by decide +kernel
theorem dX12_isLetter_7 : decode cX12_isLetter 7 = .ok (.bipush 122, 2) := by decide +kernel
theorem dX12_isLetter_9 : decode cX12_isLetter 9 = .ok (.if_icmp .gt 7, 3) := by decide +kernel
theorem dX12_isLetter_12 : decode cX12_isLetter 12 = .ok (.iconst 1, 1) := by decide +kernel
theorem dX12_isLetter_13 : decode cX12_isLetter 13 = .ok (.goto 4, 3) := by decide +kernel
theorem dX12_isLetter_16 : decode cX12_isLetter 16 = .ok (.iconst 0, 1) := by decide +kernel
theorem dX12_isLetter_17 : decode cX12_isLetter 17 = .ok (.ireturn, 1) := by decide +kernel
theorem dX12_isDigit_0 : decode cX12_isDigit 0 = .ok (.iload_n 0, 1) := by decide +kernel
theorem dX12_isDigit_1 : decode cX12_isDigit 1 = .ok (.bipush 48, 2) := by decide +kernel
theorem dX12_isDigit_3 : decode cX12_isDigit 3 = .ok (.if_icmp .lt 13, 3) := by decide +kernel
theorem dX12_isDigit_6 : decode cX12_isDigit 6 = .ok (.iload_n 0, 1) := by decide +kernel
theorem dX12_isDigit_7 : decode cX12_isDigit 7 = .ok (.bipush 57, 2) := by decide +kernel
theorem dX12_isDigit_9 : decode cX12_isDigit 9 = .ok (.if_icmp .gt 7, 3) := by decide +kernel
theorem dX12_isDigit_12 : decode cX12_isDigit 12 = .ok (.iconst 1, 1) := by decide +kernel
theorem dX12_isDigit_13 : decode cX12_isDigit 13 = .ok (.goto 4, 3) := by decide +kernel
theorem dX12_isDigit_16 : decode cX12_isDigit 16 = .ok (.iconst 0, 1) := by decide +kernel
theorem dX12_isDigit_17 : decode cX12_isDigit 17 = .ok (.ireturn, 1) := by decide +kernel
theorem dX12_advance_0 : decode cX12_advance 0 = .ok (.aload_n 0, 1) := by decide +kernel
theorem dX12_advance_1 : decode cX12_advance 1 = .ok (.getfield 150, 3) := by decide +kernel
theorem dX12_advance_4 : decode cX12_advance 4 = .ok (.istore_n 1, 1) := by decide +kernel
theorem dX12_advance_5 : decode cX12_advance 5 = .ok (.iload_n 1, 1) := by decide +kernel
theorem dX12_advance_6 : decode cX12_advance 6 = .ok (.aload_n 0, 1) := by decide +kernel
theorem dX12_advance_7 : decode cX12_advance 7 = .ok (.getfield 145, 3) := by decide +kernel
theorem dX12_advance_10 : decode cX12_advance 10 = .ok (.if_icmp .ge 20, 3) := by decide +kernel
theorem dX12_advance_13 : decode cX12_advance 13 = .ok (.aload_n 0, 1) := by decide +kernel
theorem dX12_advance_14 : decode cX12_advance 14 = .ok (.getfield 52, 3) := by decide +kernel
theorem dX12_advance_17 : decode cX12_advance 17 = .ok (.iload_n 1, 1) := by decide +kernel
theorem dX12_advance_18 : decode cX12_advance 18 = .ok (.iaload, 1) := by decide +kernel
theorem dX12_advance_19 : decode cX12_advance 19 = .ok (.bipush 32, 2) := by decide +kernel
theorem dX12_advance_21 : decode cX12_advance 21 = .ok (.if_icmp .ne 9, 3) := by decide +kernel
theorem dX12_advance_24 : decode cX12_advance 24 = .ok (.iinc 1 1, 3) := by decide +kernel
theorem dX12_advance_27 : decode cX12_advance 27 = .ok (.goto (-22), 3) := by decide +kernel
theorem dX12_advance_30 : decode cX12_advance 30 = .ok (.aload_n 0, 1) := by decide +kernel
theorem dX12_advance_31 : decode cX12_advance 31 = .ok (.iload_n 1, 1) := by decide +kernel
theorem dX12_advance_32 : decode cX12_advance 32 = .ok (.putfield 153, 3) := by decide +kernel
theorem dX12_advance_35 : decode cX12_advance 35 = .ok (.aload_n 0, 1) := by decide +kernel
theorem dX12_advance_36 : decode cX12_advance 36 = .ok (.iconst 0, 1) := by decide +kernel
theorem dX12_advance_37 : decode cX12_advance 37 = .ok (.putfield 156, 3) := by decide +kernel
theorem dX12_advance_40 : decode cX12_advance 40 = .ok (.iload_n 1, 1) := by decide +kernel
theorem dX12_advance_41 : decode cX12_advance 41 = .ok (.aload_n 0, 1) := by decide +kernel
theorem dX12_advance_42 : decode cX12_advance 42 = .ok (.getfield 145, 3) := by decide +kernel
theorem dX12_advance_45 : decode cX12_advance 45 = .ok (.if_icmp .ne 11, 3) := by decide +kernel
theorem dX12_advance_48 : decode cX12_advance 48 = .ok (.aload_n 0, 1) := by decide +kernel
theorem dX12_advance_49 : decode cX12_advance 49 = .ok (.iconst 0, 1) := by decide +kernel
theorem dX12_advance_50 : decode cX12_advance 50 = .ok (.putfield 159, 3) := by decide +kernel
theorem dX12_advance_53 : decode cX12_advance 53 = .ok (.goto 207, 3) := by decide +kernel
theorem dX12_advance_56 : decode cX12_advance 56 = .ok (.aload_n 0, 1) := by decide +kernel
theorem dX12_advance_57 : decode cX12_advance 57 = .ok (.getfield 52, 3) := by decide +kernel
theorem dX12_advance_60 : decode cX12_advance 60 = .ok (.iload_n 1, 1) := by decide +kernel
theorem dX12_advance_61 : decode cX12_advance 61 = .ok (.iaload, 1) := by decide +kernel
theorem dX12_advance_62 : decode cX12_advance 62 = .ok (.invokestatic 162, 3) := by decide +kernel
theorem dX12_advance_65 : decode cX12_advance 65 = .ok (.ifCond .eq 96, 3) := by decide +kernel
theorem dX12_advance_68 : decode cX12_advance 68 = .ok (.aload_n 0, 1) := by decide +kernel
theorem dX12_advance_69 : decode cX12_advance 69 = .ok (.iconst 1, 1) := by decide +kernel
theorem dX12_advance_70 : decode cX12_advance 70 = .ok (.putfield 159, 3) := by decide +kernel
theorem dX12_advance_73 : decode cX12_advance 73 = .ok (.iload_n 1, 1) := by decide +kernel
theorem dX12_advance_74 : decode cX12_advance 74 = .ok (.aload_n 0, 1) := by decide +kernel
theorem dX12_advance_75 : decode cX12_advance 75 = .ok (.getfield 145, 3) := by decide +kernel
theorem dX12_advance_78 : decode cX12_advance 78 = .ok (.if_icmp .ge 57, 3) := by decide +kernel
theorem dX12_advance_81 : decode cX12_advance 81 = .ok (.aload_n 0, 1) := by decide +kernel
theorem dX12_advance_82 : decode cX12_advance 82 = .ok (.getfield 52, 3) := by decide +kernel
theorem dX12_advance_85 : decode cX12_advance 85 = .ok (.iload_n 1, 1) := by decide +kernel
theorem dX12_advance_86 : decode cX12_advance 86 = .ok (.iaload, 1) := by decide +kernel
theorem dX12_advance_87 : decode cX12_advance 87 = .ok (.invokestatic 162, 3) := by decide +kernel
theorem dX12_advance_90 : decode cX12_advance 90 = .ok (.ifCond .eq 45, 3) := by decide +kernel
theorem dX12_advance_93 : decode cX12_advance 93 = .ok (.aload_n 0, 1) := by decide +kernel
theorem dX12_advance_94 : decode cX12_advance 94 = .ok (.iload_n 1, 1) := by decide +kernel
theorem dX12_advance_95 : decode cX12_advance 95 = .ok (.aload_n 0, 1) := by decide +kernel
theorem dX12_advance_96 : decode cX12_advance 96 = .ok (.getfield 153, 3) := by decide +kernel
theorem dX12_advance_99 : decode cX12_advance 99 = .ok (.isub, 1) := by decide +kernel
theorem dX12_advance_100 : decode cX12_advance 100 = .ok (.bipush 6, 2) := by decide +kernel
theorem dX12_advance_102 : decode cX12_advance 102 = .ok (.if_icmp .ge 23, 3) := by decide +kernel
theorem dX12_advance_105 : decode cX12_advance 105 = .ok (.bipush 27, 2) := by decide +kernel
theorem dX12_advance_107 : decode cX12_advance 107 = .ok (.aload_n 0, 1) := by decide +kernel
theorem dX12_advance_108 : decode cX12_advance 108 = .ok (.getfield 156, 3) := by decide +kernel
theorem dX12_advance_111 : decode cX12_advance 111 = .ok (.imul, 1) := by decide +kernel
theorem dX12_advance_112 : decode cX12_advance 112 = .ok (.aload_n 0, 1) := by decide +kernel
theorem dX12_advance_113 : decode cX12_advance 113 = .ok (.getfield 52, 3) := by decide +kernel
theorem dX12_advance_116 : decode cX12_advance 116 = .ok (.iload_n 1, 1) := by decide +kernel
theorem dX12_advance_117 : decode cX12_advance 117 = .ok (.iaload, 1) := by decide +kernel
theorem dX12_advance_118 : decode cX12_advance 118 = .ok (.iadd, 1) := by decide +kernel
theorem dX12_advance_119 : decode cX12_advance 119 = .ok (.bipush 96, 2) := by decide +kernel
theorem dX12_advance_121 : decode cX12_advance 121 = .ok (.isub, 1) := by decide +kernel
theorem dX12_advance_122 : decode cX12_advance 122 = .ok (.goto 4, 3) := by decide +kernel
theorem dX12_advance_125 : decode cX12_advance 125 = .ok (.iconst 0, 1) := by decide +kernel
theorem dX12_advance_126 : decode cX12_advance 126 = .ok (.putfield 156, 3) := by decide +kernel
theorem dX12_advance_129 : decode cX12_advance 129 = .ok (.iinc 1 1, 3) := by decide +kernel
theorem dX12_advance_132 : decode cX12_advance 132 = .ok (.goto (-59), 3) := by decide +kernel
theorem dX12_advance_135 : decode cX12_advance 135 = .ok (.aload_n 0, 1) := by decide +kernel
theorem dX12_advance_136 : decode cX12_advance 136 = .ok (.iload_n 1, 1) := by decide +kernel
theorem dX12_advance_137 : decode cX12_advance 137 = .ok (.aload_n 0, 1) := by decide +kernel
theorem dX12_advance_138 : decode cX12_advance 138 = .ok (.getfield 153, 3) := by decide +kernel
theorem dX12_advance_141 : decode cX12_advance 141 = .ok (.isub, 1) := by decide +kernel
theorem dX12_advance_142 : decode cX12_advance 142 = .ok (.bipush 6, 2) := by decide +kernel
theorem dX12_advance_144 : decode cX12_advance 144 = .ok (.if_icmp .le 7, 3) := by decide +kernel
theorem dX12_advance_147 : decode cX12_advance 147 = .ok (.iconst 0, 1) := by decide +kernel
theorem dX12_advance_148 : decode cX12_advance 148 = .ok (.goto 7, 3) := by decide +kernel
theorem dX12_advance_151 : decode cX12_advance 151 = .ok (.aload_n 0, 1) := by decide +kernel
theorem dX12_advance_152 : decode cX12_advance 152 = .ok (.getfield 156, 3) := by decide +kernel
theorem dX12_advance_155 : decode cX12_advance 155 = .ok (.putfield 156, 3) := by decide +kernel
theorem dX12_advance_158 : decode cX12_advance 158 = .ok (.goto 102, 3) := by decide +kernel
theorem dX12_advance_161 : decode cX12_advance 161 = .ok (.aload_n 0, 1) := by decide +kernel
theorem dX12_advance_162 : decode cX12_advance 162 = .ok (.getfield 52, 3) := by decide +kernel
theorem dX12_advance_165 : decode cX12_advance 165 = .ok (.iload_n 1, 1) := by decide +kernel
theorem dX12_advance_166 : decode cX12_advance 166 = .ok (.iaload, 1) := by decide +kernel
theorem dX12_advance_167 : decode cX12_advance 167 = .ok (.invokestatic 165, 3) := by decide +kernel
theorem dX12_advance_170 : decode cX12_advance 170 = .ok (.ifCond .eq 72, 3) := by decide +kernel
theorem dX12_advance_173 : decode cX12_advance 173 = .ok (.aload_n 0, 1) := by decide +kernel
theorem dX12_advance_174 : decode cX12_advance 174 = .ok (.iconst 2, 1) := by decide +kernel
theorem dX12_advance_175 : decode cX12_advance 175 = .ok (.putfield 159, 3) := by decide +kernel
theorem dX12_advance_178 : decode cX12_advance 178 = .ok (.iload_n 1, 1) := by decide +kernel
theorem dX12_advance_179 : decode cX12_advance 179 = .ok (.aload_n 0, 1) := by decide +kernel
theorem dX12_advance_180 : decode cX12_advance 180 = .ok (.getfield 145, 3) := by decide +kernel
theorem dX12_advance_183 : decode cX12_advance 183 = .ok (.if_icmp .ge 77, 3) := by decide +kernel
theorem dX12_advance_186 : decode cX12_advance 186 = .ok (.aload_n 0, 1) := by decide +kernel
theorem dX12_advance_187 : decode cX12_advance 187 = .ok (.getfield 52, 3) := by decide +kernel
theorem dX12_advance_190 : decode cX12_advance 190 = .ok (.iload_n 1, 1) := by decide +kernel
theorem dX12_advance_191 : decode cX12_advance 191 = .ok (.iaload, 1) := by decide +kernel
theorem dX12_advance_192 : decode cX12_advance 192 = .ok (.invokestatic 165, 3) := by decide +kernel
theorem dX12_advance_195 : decode cX12_advance 195 = .ok (.ifCond .eq 65, 3) := by decide +kernel
theorem dX12_advance_198 : decode cX12_advance 198 = .ok (.aload_n 0, 1) := by decide +kernel
theorem dX12_advance_199 : decode cX12_advance 199 = .ok (.iload_n 1, 1) := by decide +kernel
theorem dX12_advance_200 : decode cX12_advance 200 = .ok (.aload_n 0, 1) := by decide +kernel
theorem dX12_advance_201 : decode cX12_advance 201 = .ok (.getfield 153, 3) := by decide +kernel
theorem dX12_advance_204 : decode cX12_advance 204 = .ok (.isub, 1) := by decide +kernel
theorem dX12_advance_205 : decode cX12_advance 205 = .ok (.iconst 3, 1) := by decide +kernel
theorem dX12_advance_206 : decode cX12_advance 206 = .ok (.if_icmp .ge 23, 3) := by decide +kernel
theorem dX12_advance_209 : decode cX12_advance 209 = .ok (.bipush 10, 2) := by decide +kernel
theorem dX12_advance_211 : decode cX12_advance 211 = .ok (.aload_n 0, 1) := by decide +kernel
theorem dX12_advance_212 : decode cX12_advance 212 = .ok (.getfield 156, 3) := by decide +kernel
theorem dX12_advance_215 : decode cX12_advance 215 = .ok (.imul, 1) := by decide +kernel
theorem dX12_advance_216 : decode cX12_advance 216 = .ok (.aload_n 0, 1) := by decide +kernel
theorem dX12_advance_217 : decode cX12_advance 217 = .ok (.getfield 52, 3) := by decide +kernel
theorem dX12_advance_220 : decode cX12_advance 220 = .ok (.iload_n 1, 1) := by decide +kernel
theorem dX12_advance_221 : decode cX12_advance 221 = .ok (.iaload, 1) := by decide +kernel
theorem dX12_advance_222 : decode cX12_advance 222 = .ok (.iadd, 1) := by decide +kernel
theorem dX12_advance_223 : decode cX12_advance 223 = .ok (.bipush 48, 2) := by decide +kernel
theorem dX12_advance_225 : decode cX12_advance 225 = .ok (.isub, 1) := by decide +kernel
theorem dX12_advance_226 : decode cX12_advance 226 = .ok (.goto 7, 3) := by decide +kernel
theorem dX12_advance_229 : decode cX12_advance 229 = .ok (.aload_n 0, 1) := by decide +kernel
theorem dX12_advance_230 : decode cX12_advance 230 = .ok (.getfield 156, 3) := by decide +kernel
theorem dX12_advance_233 : decode cX12_advance 233 = .ok (.putfield 156, 3) := by decide +kernel
theorem dX12_advance_236 : decode cX12_advance 236 = .ok (.iinc 1 1, 3) := by decide +kernel
theorem dX12_advance_239 : decode cX12_advance 239 = .ok (.goto (-61), 3) := by decide +kernel
theorem dX12_advance_242 : decode cX12_advance 242 = .ok (.aload_n 0, 1) := by decide +kernel
theorem dX12_advance_243 : decode cX12_advance 243 = .ok (.iconst 3, 1) := by decide +kernel
theorem dX12_advance_244 : decode cX12_advance 244 = .ok (.putfield 159, 3) := by decide +kernel
theorem dX12_advance_247 : decode cX12_advance 247 = .ok (.aload_n 0, 1) := by decide +kernel
theorem dX12_advance_248 : decode cX12_advance 248 = .ok (.aload_n 0, 1) := by decide +kernel
theorem dX12_advance_249 : decode cX12_advance 249 = .ok (.getfield 52, 3) := by decide +kernel
theorem dX12_advance_252 : decode cX12_advance 252 = .ok (.iload_n 1, 1) := by decide +kernel
theorem dX12_advance_253 : decode cX12_advance 253 = .ok (.iaload, 1) := by decide +kernel
theorem dX12_advance_254 : decode cX12_advance 254 = .ok (.putfield 156, 3) := by decide +kernel
theorem dX12_advance_257 : decode cX12_advance 257 = .ok (.iinc 1 1, 3) := by decide +kernel
theorem dX12_advance_260 : decode cX12_advance 260 = .ok (.aload_n 0, 1) := by decide +kernel
theorem dX12_advance_261 : decode cX12_advance 261 = .ok (.iload_n 1, 1) := by decide +kernel
theorem dX12_advance_262 : decode cX12_advance 262 = .ok (.putfield 150, 3) := by decide +kernel
theorem dX12_advance_265 : decode cX12_advance 265 = .ok (.return_, 1) := by decide +kernel
theorem dX12_isGood_0 : decode cX12_isGood 0 = .ok (.aload_n 0, 1) := by decide +kernel
theorem dX12_isGood_1 : decode cX12_isGood 1 = .ok (.getfield 168, 3) := by decide +kernel
theorem dX12_isGood_4 : decode cX12_isGood 4 = .ok (.ifCond .ge 7, 3) := by decide +kernel
theorem dX12_isGood_7 : decode cX12_isGood 7 = .ok (.iconst 1, 1) := by decide +kernel
theorem dX12_isGood_8 : decode cX12_isGood 8 = .ok (.goto 4, 3) := by decide +kernel
theorem dX12_isGood_11 : decode cX12_isGood 11 = .ok (.iconst 0, 1) := by decide +kernel
theorem dX12_isGood_12 : decode cX12_isGood 12 = .ok (.ireturn, 1) := by decide +kernel
theorem dX12_wrong_0 : decode cX12_wrong 0 = .ok (.aload_n 0, 1) := by decide +kernel
theorem dX12_wrong_1 : decode cX12_wrong 1 = .ok (.aload_n 0, 1) := by decide +kernel
theorem dX12_wrong_2 : decode cX12_wrong 2 = .ok (.getfield 168, 3) := by decide +kernel
theorem dX12_wrong_5 : decode cX12_wrong 5 = .ok (.ifCond .ge 10, 3) := by decide +kernel
theorem dX12_wrong_8 : decode cX12_wrong 8 = .ok (.aload_n 0, 1) := by decide +kernel
theorem dX12_wrong_9 : decode cX12_wrong 9 = .ok (.getfield 153, 3) := by decide +kernel
theorem dX12_wrong_12 : decode cX12_wrong 12 = .ok (.goto 7, 3) := by decide +kernel
theorem dX12_wrong_15 : decode cX12_wrong 15 = .ok (.aload_n 0, 1) := by decide +kernel
theorem dX12_wrong_16 : decode cX12_wrong 16 = .ok (.getfield 168, 3) := by decide +kernel
theorem dX12_wrong_19 : decode cX12_wrong 19 = .ok (.putfield 168, 3) := by decide +kernel
theorem dX12_wrong_22 : decode cX12_wrong 22 = .ok (.return_, 1) := by decide +kernel
theorem dX12_wantNumber_0 : decode cX12_wantNumber 0 = .ok (.aload_n 0, 1) := by decide +kernel
theorem dX12_wantNumber_1 : decode cX12_wantNumber 1 = .ok (.getfield 156, 3) := by decide +kernel
theorem dX12_wantNumber_4 : decode cX12_wantNumber 4 = .ok (.istore_n 1, 1) := by decide +kernel
theorem dX12_wantNumber_5 : decode cX12_wantNumber 5 = .ok (.aload_n 0, 1) := by decide +kernel
theorem dX12_wantNumber_6 : decode cX12_wantNumber 6 = .ok (.invokevirtual 171, 3) := by decide +kernel
theorem dX12_wantNumber_9 : decode cX12_wantNumber 9 = .ok (.ifCond .eq 41, 3) := by decide +kernel
theorem dX12_wantNumber_12 : decode cX12_wantNumber 12 = .ok (.aload_n 0, 1) := by decide +kernel
theorem dX12_wantNumber_13 : decode cX12_wantNumber 13 = .ok (.getfield 159, 3) := by decide +kernel
theorem dX12_wantNumber_16 : decode cX12_wantNumber 16 = .ok (.iconst 2, 1) := by decide +kernel
theorem dX12_wantNumber_17 : decode cX12_wantNumber 17 = .ok (.if_icmp .ne 29, 3) := by decide +kernel
theorem dX12_wantNumber_20 : decode cX12_wantNumber 20 = .ok (.aload_n 0, 1) := by decide +kernel
theorem dX12_wantNumber_21 : decode cX12_wantNumber 21 = .ok (.getfield 150, 3) := by decide +kernel
theorem dX12_wantNumber_24 : decode cX12_wantNumber 24 = .ok (.aload_n 0, 1) := by decide +kernel
theorem dX12_wantNumber_25 : decode cX12_wantNumber 25 = .ok (.getfield 153, 3) := by decide +kernel
theorem dX12_wantNumber_28 : decode cX12_wantNumber 28 = .ok (.isub, 1) := by decide +kernel
theorem dX12_wantNumber_29 : decode cX12_wantNumber 29 = .ok (.iconst 3, 1) := by decide +kernel
theorem dX12_wantNumber_30 : decode cX12_wantNumber 30 = .ok (.if_icmp .gt 16, 3) := by decide +kernel
theorem dX12_wantNumber_33 : decode cX12_wantNumber 33 = .ok (.iload_n 1, 1) := by decide +kernel
theorem dX12_wantNumber_34 : decode cX12_wantNumber 34 = .ok (.bipush 100, 2) := by decide +kernel
theorem dX12_wantNumber_36 : decode cX12_wantNumber 36 = .ok (.if_icmp .gt 10, 3) := by decide +kernel
theorem dX12_wantNumber_39 : decode cX12_wantNumber 39 = .ok (.aload_n 0, 1) := by decide +kernel
theorem dX12_wantNumber_40 : decode cX12_wantNumber 40 = .ok (.invokevirtual 175, 3) := by decide +kernel
theorem dX12_wantNumber_43 : decode cX12_wantNumber 43 = .ok (.goto 7, 3) := by decide +kernel
theorem dX12_wantNumber_46 : decode cX12_wantNumber 46 = .ok (.aload_n 0, 1) := by decide +kernel
theorem dX12_wantNumber_47 : decode cX12_wantNumber 47 = .ok (.invokevirtual 178, 3) := by decide +kernel
theorem dX12_wantNumber_50 : decode cX12_wantNumber 50 = .ok (.iload_n 1, 1) := by decide +kernel
theorem dX12_wantNumber_51 : decode cX12_wantNumber 51 = .ok (.ireturn, 1) := by decide +kernel
theorem dX12_isWord_0 : decode cX12_isWord 0 = .ok (.aload_n 0, 1) := by decide +kernel
theorem dX12_isWord_1 : decode cX12_isWord 1 = .ok (.getfield 159, 3) := by decide +kernel
theorem dX12_isWord_4 : decode cX12_isWord 4 = .ok (.iconst 1, 1) := by decide +kernel
theorem dX12_isWord_5 : decode cX12_isWord 5 = .ok (.if_icmp .ne 15, 3) := by decide +kernel
theorem dX12_isWord_8 : decode cX12_isWord 8 = .ok (.aload_n 0, 1) := by decide +kernel
theorem dX12_isWord_9 : decode cX12_isWord 9 = .ok (.getfield 156, 3) := by decide +kernel
theorem dX12_isWord_12 : decode cX12_isWord 12 = .ok (.iload_n 1, 1) := by decide +kernel
theorem dX12_isWord_13 : decode cX12_isWord 13 = .ok (.if_icmp .ne 7, 3) := by decide +kernel
theorem dX12_isWord_16 : decode cX12_isWord 16 = .ok (.iconst 1, 1) := by decide +kernel
theorem dX12_isWord_17 : decode cX12_isWord 17 = .ok (.goto 4, 3) := by decide +kernel
theorem dX12_isWord_20 : decode cX12_isWord 20 = .ok (.iconst 0, 1) := by decide +kernel
theorem dX12_isWord_21 : decode cX12_isWord 21 = .ok (.ireturn, 1) := by decide +kernel
theorem dX12_want_0 : decode cX12_want 0 = .ok (.aload_n 0, 1) := by decide +kernel
theorem dX12_want_1 : decode cX12_want 1 = .ok (.invokevirtual 171, 3) := by decide +kernel
theorem dX12_want_4 : decode cX12_want 4 = .ok (.ifCond .eq 30, 3) := by decide +kernel
theorem dX12_want_7 : decode cX12_want 7 = .ok (.aload_n 0, 1) := by decide +kernel
theorem dX12_want_8 : decode cX12_want 8 = .ok (.getfield 159, 3) := by decide +kernel
theorem dX12_want_11 : decode cX12_want 11 = .ok (.iload_n 1, 1) := by decide +kernel
theorem dX12_want_12 : decode cX12_want 12 = .ok (.if_icmp .ne 18, 3) := by decide +kernel
theorem dX12_want_15 : decode cX12_want 15 = .ok (.aload_n 0, 1) := by decide +kernel
theorem dX12_want_16 : decode cX12_want 16 = .ok (.getfield 156, 3) := by decide +kernel
theorem dX12_want_19 : decode cX12_want 19 = .ok (.iload_n 2, 1) := by decide +kernel
theorem dX12_want_20 : decode cX12_want 20 = .ok (.if_icmp .ne 10, 3) := by decide +kernel
theorem dX12_want_23 : decode cX12_want 23 = .ok (.aload_n 0, 1) := by decide +kernel
theorem dX12_want_24 : decode cX12_want 24 = .ok (.invokevirtual 175, 3) := by decide +kernel
theorem dX12_want_27 : decode cX12_want 27 = .ok (.goto 7, 3) := by decide +kernel
theorem dX12_want_30 : decode cX12_want 30 = .ok (.aload_n 0, 1) := by decide +kernel
theorem dX12_want_31 : decode cX12_want 31 = .ok (.invokevirtual 178, 3) := by decide +kernel
theorem dX12_want_34 : decode cX12_want 34 = .ok (.return_, 1) := by decide +kernel
theorem dX12_wantShare_0 : decode cX12_wantShare 0 = .ok (.aload_n 0, 1) := by decide +kernel
theorem dX12_wantShare_1 : decode cX12_wantShare 1 = .ok (.ldc 181, 2) := by decide +kernel
theorem dX12_wantShare_3 : decode cX12_wantShare 3 = .ok (.invokevirtual 182, 3) := by decide +kernel
theorem dX12_wantShare_6 : decode cX12_wantShare 6 = .ok (.istore_n 2, 1) := by decide +kernel
theorem dX12_wantShare_7 : decode cX12_wantShare 7 = .ok (.iload_n 2, 1) := by decide +kernel
theorem dX12_wantShare_8 : decode cX12_wantShare 8 = .ok (.ifCond .ne 12, 3) := by decide +kernel
theorem dX12_wantShare_11 : decode cX12_wantShare 11 = .ok (.aload_n 0, 1) := by decide +kernel
theorem dX12_wantShare_12 : decode cX12_wantShare 12 = .ok (.ldc 185, 2) := by decide +kernel
theorem dX12_wantShare_14 : decode cX12_wantShare 14 = .ok (.invokevirtual 182, 3) := by decide +kernel
theorem dX12_wantShare_17 : decode cX12_wantShare 17 = .ok (.ifCond .eq 27, 3) := by decide +kernel
theorem dX12_wantShare_20 : decode cX12_wantShare 20 = .ok (.aload_n 0, 1) := by decide +kernel
theorem dX12_wantShare_21 : decode cX12_wantShare 21 = .ok (.getfield 13, 3) := by decide +kernel
theorem dX12_wantShare_24 : decode cX12_wantShare 24 = .ok (.iload_n 1, 1) := by decide +kernel
theorem dX12_wantShare_25 : decode cX12_wantShare 25 = .ok (.iconst 2, 1) := by decide +kernel
theorem dX12_wantShare_26 : decode cX12_wantShare 26 = .ok (.iadd, 1) := by decide +kernel
theorem dX12_wantShare_27 : decode cX12_wantShare 27 = .ok (.iload_n 2, 1) := by decide +kernel
theorem dX12_wantShare_28 : decode cX12_wantShare 28 = .ok (.ifCond .eq 7, 3) := by decide +kernel
theorem dX12_wantShare_31 : decode cX12_wantShare 31 = .ok (.iconst 1, 1) := by decide +kernel
theorem dX12_wantShare_32 : decode cX12_wantShare 32 = .ok (.goto 4, 3) := by decide +kernel
theorem dX12_wantShare_35 : decode cX12_wantShare 35 = .ok (.iconst 0, 1) := by decide +kernel
theorem dX12_wantShare_36 : decode cX12_wantShare 36 = .ok (.iastore, 1) := by decide +kernel
theorem dX12_wantShare_37 : decode cX12_wantShare 37 = .ok (.aload_n 0, 1) := by decide +kernel
theorem dX12_wantShare_38 : decode cX12_wantShare 38 = .ok (.invokevirtual 175, 3) := by decide +kernel
theorem dX12_wantShare_41 : decode cX12_wantShare 41 = .ok (.goto 7, 3) := by decide +kernel
theorem dX12_wantShare_44 : decode cX12_wantShare 44 = .ok (.aload_n 0, 1) := by decide +kernel
theorem dX12_wantShare_45 : decode cX12_wantShare 45 = .ok (.invokevirtual 178, 3) := by decide +kernel
theorem dX12_wantShare_48 : decode cX12_wantShare 48 = .ok (.return_, 1) := by decide +kernel
theorem dX12_read_0 : decode cX12_read 0 = .ok (.aload_n 0, 1) := by decide +kernel
theorem dX12_read_1 : decode cX12_read 1 = .ok (.iload_n 1, 1) := by decide +kernel
theorem dX12_read_2 : decode cX12_read 2 = .ok (.invokevirtual 80, 3) := by decide +kernel
theorem dX12_read_5 : decode cX12_read 5 = .ok (.ifCond .ne 10, 3) := by decide +kernel
theorem dX12_read_8 : decode cX12_read 8 = .ok (.aload_n 0, 1) := by decide +kernel
theorem dX12_read_9 : decode cX12_read 9 = .ok (.iconst 0, 1) := by decide +kernel
theorem dX12_read_10 : decode cX12_read 10 = .ok (.putfield 145, 3) := by decide +kernel
theorem dX12_read_13 : decode cX12_read 13 = .ok (.iconst (-1), 1) := by decide +kernel
theorem dX12_read_14 : decode cX12_read 14 = .ok (.ireturn, 1) := by decide +kernel
theorem dX12_read_15 : decode cX12_read 15 = .ok (.bipush 54, 2) := by decide +kernel
theorem dX12_read_17 : decode cX12_read 17 = .ok (.istore_n 2, 1) := by decide +kernel
theorem dX12_read_18 : decode cX12_read 18 = .ok (.aload_n 0, 1) := by decide +kernel
theorem dX12_read_19 : decode cX12_read 19 = .ok (.getfield 13, 3) := by decide +kernel
theorem dX12_read_22 : decode cX12_read 22 = .ok (.iload_n 2, 1) := by decide +kernel
theorem dX12_read_23 : decode cX12_read 23 = .ok (.iconst 2, 1) := by decide +kernel
theorem dX12_read_24 : decode cX12_read 24 = .ok (.iadd, 1) := by decide +kernel
theorem dX12_read_25 : decode cX12_read 25 = .ok (.iconst 0, 1) := by decide +kernel
theorem dX12_read_26 : decode cX12_read 26 = .ok (.iastore, 1) := by decide +kernel
theorem dX12_read_27 : decode cX12_read 27 = .ok (.aload_n 0, 1) := by decide +kernel
theorem dX12_read_28 : decode cX12_read 28 = .ok (.getfield 13, 3) := by decide +kernel
theorem dX12_read_31 : decode cX12_read 31 = .ok (.iload_n 2, 1) := by decide +kernel
theorem dX12_read_32 : decode cX12_read 32 = .ok (.iconst 3, 1) := by decide +kernel
theorem dX12_read_33 : decode cX12_read 33 = .ok (.iadd, 1) := by decide +kernel
theorem dX12_read_34 : decode cX12_read 34 = .ok (.bipush 100, 2) := by decide +kernel
theorem dX12_read_36 : decode cX12_read 36 = .ok (.iastore, 1) := by decide +kernel
theorem dX12_read_37 : decode cX12_read 37 = .ok (.aload_n 0, 1) := by decide +kernel
theorem dX12_read_38 : decode cX12_read 38 = .ok (.getfield 13, 3) := by decide +kernel
theorem dX12_read_41 : decode cX12_read 41 = .ok (.iload_n 2, 1) := by decide +kernel
theorem dX12_read_42 : decode cX12_read 42 = .ok (.iconst 4, 1) := by decide +kernel
theorem dX12_read_43 : decode cX12_read 43 = .ok (.iadd, 1) := by decide +kernel
theorem dX12_read_44 : decode cX12_read 44 = .ok (.iconst 0, 1) := by decide +kernel
theorem dX12_read_45 : decode cX12_read 45 = .ok (.iastore, 1) := by decide +kernel
theorem dX12_read_46 : decode cX12_read 46 = .ok (.aload_n 0, 1) := by decide +kernel
theorem dX12_read_47 : decode cX12_read 47 = .ok (.getfield 13, 3) := by decide +kernel
theorem dX12_read_50 : decode cX12_read 50 = .ok (.iload_n 2, 1) := by decide +kernel
theorem dX12_read_51 : decode cX12_read 51 = .ok (.iconst 5, 1) := by decide +kernel
theorem dX12_read_52 : decode cX12_read 52 = .ok (.iadd, 1) := by decide +kernel
theorem dX12_read_53 : decode cX12_read 53 = .ok (.bipush 100, 2) := by decide +kernel
theorem dX12_read_55 : decode cX12_read 55 = .ok (.iastore, 1) := by decide +kernel
theorem dX12_read_56 : decode cX12_read 56 = .ok (.aload_n 0, 1) := by decide +kernel
theorem dX12_read_57 : decode cX12_read 57 = .ok (.iconst (-1), 1) := by decide +kernel
theorem dX12_read_58 : decode cX12_read 58 = .ok (.putfield 168, 3) := by decide +kernel
theorem dX12_read_61 : decode cX12_read 61 = .ok (.aload_n 0, 1) := by decide +kernel
theorem dX12_read_62 : decode cX12_read 62 = .ok (.iconst 0, 1) := by decide +kernel
theorem dX12_read_63 : decode cX12_read 63 = .ok (.putfield 150, 3) := by decide +kernel
theorem dX12_read_66 : decode cX12_read 66 = .ok (.aload_n 0, 1) := by decide +kernel
theorem dX12_read_67 : decode cX12_read 67 = .ok (.invokevirtual 175, 3) := by decide +kernel
theorem dX12_read_70 : decode cX12_read 70 = .ok (.iconst 0, 1) := by decide +kernel
theorem dX12_read_71 : decode cX12_read 71 = .ok (.istore_n 3, 1) := by decide +kernel
theorem dX12_read_72 : decode cX12_read 72 = .ok (.iconst 0, 1) := by decide +kernel
theorem dX12_read_73 : decode cX12_read 73 = .ok (.istore 4, 2) := by decide +kernel
theorem dX12_read_75 : decode cX12_read 75 = .ok (.aload_n 0, 1) := by decide +kernel
theorem dX12_read_76 : decode cX12_read 76 = .ok (.getfield 159, 3) := by decide +kernel
theorem dX12_read_79 : decode cX12_read 79 = .ok (.ifCond .eq 152, 3) := by decide +kernel
theorem dX12_read_82 : decode cX12_read 82 = .ok (.aload_n 0, 1) := by decide +kernel
theorem dX12_read_83 : decode cX12_read 83 = .ok (.invokevirtual 171, 3) := by decide +kernel
theorem dX12_read_86 : decode cX12_read 86 = .ok (.ifCond .eq 145, 3) := by decide +kernel
theorem dX12_read_89 : decode cX12_read 89 = .ok (.aload_n 0, 1) := by decide +kernel
theorem dX12_read_90 : decode cX12_read 90 = .ok (.ldc 186, 2) := by decide +kernel
theorem dX12_read_92 : decode cX12_read 92 = .ok (.invokevirtual 182, 3) := by decide +kernel
theorem dX12_read_95 : decode cX12_read 95 = .ok (.ifCond .eq 7, 3) := by decide +kernel
theorem dX12_read_98 : decode cX12_read 98 = .ok (.iconst 0, 1) := by decide +kernel
theorem dX12_read_99 : decode cX12_read 99 = .ok (.goto 31, 3) := by decide +kernel
theorem dX12_read_102 : decode cX12_read 102 = .ok (.aload_n 0, 1) := by decide +kernel
theorem dX12_read_103 : decode cX12_read 103 = .ok (.sipush 2230, 3) := by decide +kernel
theorem dX12_read_106 : decode cX12_read 106 = .ok (.invokevirtual 182, 3) := by decide +kernel
theorem dX12_read_109 : decode cX12_read 109 = .ok (.ifCond .eq 7, 3) := by decide +kernel
theorem dX12_read_112 : decode cX12_read 112 = .ok (.iconst 1, 1) := by decide +kernel
theorem dX12_read_113 : decode cX12_read 113 = .ok (.goto 17, 3) := by decide +kernel
theorem dX12_read_116 : decode cX12_read 116 = .ok (.aload_n 0, 1) := by decide +kernel
theorem dX12_read_117 : decode cX12_read 117 = .ok (.ldc 187, 2) := by decide +kernel
theorem dX12_read_119 : decode cX12_read 119 = .ok (.invokevirtual 182, 3) := by decide +kernel
theorem dX12_read_122 : decode cX12_read 122 = .ok (.ifCond .eq 7, 3) := by decide +kernel
theorem dX12_read_125 : decode cX12_read 125 = .ok (.iconst 2, 1) := by decide +kernel
theorem dX12_read_126 : decode cX12_read 126 = .ok (.goto 4, 3) := by decide +kernel
theorem dX12_read_129 : decode cX12_read 129 = .ok (.iconst (-1), 1) := by decide +kernel
theorem dX12_read_130 : decode cX12_read 130 = .ok (.istore 5, 2) := by decide +kernel
theorem dX12_read_132 : decode cX12_read 132 = .ok (.iload 5, 2) := by decide +kernel
theorem dX12_read_134 : decode cX12_read 134 = .ok (.ifCond .lt 13, 3) := by decide +kernel
theorem dX12_read_137 : decode cX12_read 137 = .ok (.iload_n 3, 1) := by decide +kernel
theorem dX12_read_138 : decode cX12_read 138 = .ok (.iload 5, 2) := by decide +kernel
theorem dX12_read_140 : decode cX12_read 140 = .ok (.ishr, 1) := by decide +kernel
theorem dX12_read_141 : decode cX12_read 141 = .ok (.iconst 1, 1) := by decide +kernel
theorem dX12_read_142 : decode cX12_read 142 = .ok (.iand, 1) := by decide +kernel
theorem dX12_read_143 : decode cX12_read 143 = .ok (.iconst 1, 1) := by decide +kernel
theorem dX12_read_144 : decode cX12_read 144 = .ok (.if_icmp .ne 10, 3) := by decide +kernel
theorem dX12_read_147 : decode cX12_read 147 = .ok (.aload_n 0, 1) := by decide +kernel
theorem dX12_read_148 : decode cX12_read 148 = .ok (.invokevirtual 178, 3) := by decide +kernel
theorem dX12_read_151 : decode cX12_read 151 = .ok (.goto 77, 3) := by decide +kernel
theorem dX12_read_154 : decode cX12_read 154 = .ok (.iload_n 3, 1) := by decide +kernel
theorem dX12_read_155 : decode cX12_read 155 = .ok (.iconst 1, 1) := by decide +kernel
theorem dX12_read_156 : decode cX12_read 156 = .ok (.iload 5, 2) := by decide +kernel
theorem dX12_read_158 : decode cX12_read 158 = .ok (.ishl, 1) := by decide +kernel
theorem dX12_read_159 : decode cX12_read 159 = .ok (.ior, 1) := by decide +kernel
theorem dX12_read_160 : decode cX12_read 160 = .ok (.istore_n 3, 1) := by decide +kernel
theorem dX12_read_161 : decode cX12_read 161 = .ok (.aload_n 0, 1) := by decide +kernel
theorem dX12_read_162 : decode cX12_read 162 = .ok (.invokevirtual 175, 3) := by decide +kernel
theorem dX12_read_165 : decode cX12_read 165 = .ok (.iload 5, 2) := by decide +kernel
theorem dX12_read_167 : decode cX12_read 167 = .ok (.ifCond .ne 11, 3) := by decide +kernel
theorem dX12_read_170 : decode cX12_read 170 = .ok (.aload_n 0, 1) := by decide +kernel
theorem dX12_read_171 : decode cX12_read 171 = .ok (.iload_n 2, 1) := by decide +kernel
theorem dX12_read_172 : decode cX12_read 172 = .ok (.invokevirtual 188, 3) := by decide +kernel
theorem dX12_read_175 : decode cX12_read 175 = .ok (.goto 18, 3) := by decide +kernel
theorem dX12_read_178 : decode cX12_read 178 = .ok (.aload_n 0, 1) := by decide +kernel
theorem dX12_read_179 : decode cX12_read 179 = .ok (.getfield 13, 3) := by decide +kernel
theorem dX12_read_182 : decode cX12_read 182 = .ok (.iload_n 2, 1) := by decide +kernel
theorem dX12_read_183 : decode cX12_read 183 = .ok (.iconst 2, 1) := by decide +kernel
theorem dX12_read_184 : decode cX12_read 184 = .ok (.iadd, 1) := by decide +kernel
theorem dX12_read_185 : decode cX12_read 185 = .ok (.iload 5, 2) := by decide +kernel
theorem dX12_read_187 : decode cX12_read 187 = .ok (.iadd, 1) := by decide +kernel
theorem dX12_read_188 : decode cX12_read 188 = .ok (.aload_n 0, 1) := by decide +kernel
theorem dX12_read_189 : decode cX12_read 189 = .ok (.invokevirtual 192, 3) := by decide +kernel
theorem dX12_read_192 : decode cX12_read 192 = .ok (.iastore, 1) := by decide +kernel
theorem dX12_read_193 : decode cX12_read 193 = .ok (.iload 5, 2) := by decide +kernel
theorem dX12_read_195 : decode cX12_read 195 = .ok (.iconst 2, 1) := by decide +kernel
theorem dX12_read_196 : decode cX12_read 196 = .ok (.if_icmp .ne 22, 3) := by decide +kernel
theorem dX12_read_199 : decode cX12_read 199 = .ok (.aload_n 0, 1) := by decide +kernel
theorem dX12_read_200 : decode cX12_read 200 = .ok (.iconst 1, 1) := by decide +kernel
theorem dX12_read_201 : decode cX12_read 201 = .ok (.ldc 196, 2) := by decide +kernel
theorem dX12_read_203 : decode cX12_read 203 = .ok (.invokevirtual 197, 3) := by decide +kernel
theorem dX12_read_206 : decode cX12_read 206 = .ok (.aload_n 0, 1) := by decide +kernel
theorem dX12_read_207 : decode cX12_read 207 = .ok (.getfield 13, 3) := by decide +kernel
theorem dX12_read_210 : decode cX12_read 210 = .ok (.iload_n 2, 1) := by decide +kernel
theorem dX12_read_211 : decode cX12_read 211 = .ok (.iconst 5, 1) := by decide +kernel
theorem dX12_read_212 : decode cX12_read 212 = .ok (.iadd, 1) := by decide +kernel
theorem dX12_read_213 : decode cX12_read 213 = .ok (.aload_n 0, 1) := by decide +kernel
theorem dX12_read_214 : decode cX12_read 214 = .ok (.invokevirtual 192, 3) := by decide +kernel
theorem dX12_read_217 : decode cX12_read 217 = .ok (.iastore, 1) := by decide +kernel
theorem dX12_read_218 : decode cX12_read 218 = .ok (.aload_n 0, 1) := by decide +kernel
theorem dX12_read_219 : decode cX12_read 219 = .ok (.iconst 3, 1) := by decide +kernel
theorem dX12_read_220 : decode cX12_read 220 = .ok (.bipush 59, 2) := by decide +kernel
theorem dX12_read_222 : decode cX12_read 222 = .ok (.invokevirtual 197, 3) := by decide +kernel
theorem dX12_read_225 : decode cX12_read 225 = .ok (.iinc 4 1, 3) := by decide +kernel
theorem dX12_read_228 : decode cX12_read 228 = .ok (.goto (-153), 3) := by decide +kernel
theorem dX12_read_231 : decode cX12_read 231 = .ok (.aload_n 0, 1) := by decide +kernel
theorem dX12_read_232 : decode cX12_read 232 = .ok (.iconst 0, 1) := by decide +kernel
theorem dX12_read_233 : decode cX12_read 233 = .ok (.putfield 145, 3) := by decide +kernel
theorem dX12_read_236 : decode cX12_read 236 = .ok (.aload_n 0, 1) := by decide +kernel
theorem dX12_read_237 : decode cX12_read 237 = .ok (.invokevirtual 171, 3) := by decide +kernel
theorem dX12_read_240 : decode cX12_read 240 = .ok (.ifCond .ne 11, 3) := by decide +kernel
theorem dX12_read_243 : decode cX12_read 243 = .ok (.bipush (-100), 2) := by decide +kernel
theorem dX12_read_245 : decode cX12_read 245 = .ok (.aload_n 0, 1) := by decide +kernel
theorem dX12_read_246 : decode cX12_read 246 = .ok (.getfield 168, 3) := by decide +kernel
theorem dX12_read_249 : decode cX12_read 249 = .ok (.isub, 1) := by decide +kernel
theorem dX12_read_250 : decode cX12_read 250 = .ok (.ireturn, 1) := by decide +kernel
theorem dX12_read_251 : decode cX12_read 251 = .ok (.iconst 2, 1) := by decide +kernel
theorem dX12_read_252 : decode cX12_read 252 = .ok (.istore 5, 2) := by decide +kernel
theorem dX12_read_254 : decode cX12_read 254 = .ok (.iload 5, 2) := by decide +kernel
theorem dX12_read_256 : decode cX12_read 256 = .ok (.bipush 6, 2) := by decide +kernel
theorem dX12_read_258 : decode cX12_read 258 = .ok (.if_icmp .ge 30, 3) := by decide +kernel
theorem dX12_read_261 : decode cX12_read 261 = .ok (.aload_n 0, 1) := by decide +kernel
theorem dX12_read_262 : decode cX12_read 262 = .ok (.getfield 13, 3) := by decide +kernel
theorem dX12_read_265 : decode cX12_read 265 = .ok (.bipush 9, 2) := by decide +kernel
theorem dX12_read_267 : decode cX12_read 267 = .ok (.iload_n 1, 1) := by decide +kernel
theorem dX12_read_268 : decode cX12_read 268 = .ok (.imul, 1) := by decide +kernel
theorem dX12_read_269 : decode cX12_read 269 = .ok (.iload 5, 2) := by decide +kernel
theorem dX12_read_271 : decode cX12_read 271 = .ok (.iadd, 1) := by decide +kernel
theorem dX12_read_272 : decode cX12_read 272 = .ok (.aload_n 0, 1) := by decide +kernel
theorem dX12_read_273 : decode cX12_read 273 = .ok (.getfield 13, 3) := by decide +kernel
theorem dX12_read_276 : decode cX12_read 276 = .ok (.iload_n 2, 1) := by decide +kernel
theorem dX12_read_277 : decode cX12_read 277 = .ok (.iload 5, 2) := by decide +kernel
theorem dX12_read_279 : decode cX12_read 279 = .ok (.iadd, 1) := by decide +kernel
theorem dX12_read_280 : decode cX12_read 280 = .ok (.iaload, 1) := by decide +kernel
theorem dX12_read_281 : decode cX12_read 281 = .ok (.iastore, 1) := by decide +kernel
theorem dX12_read_282 : decode cX12_read 282 = .ok (.iinc 5 1, 3) := by decide +kernel
theorem dX12_read_285 : decode cX12_read 285 = .ok (.goto (-31), 3) := by decide +kernel
theorem dX12_read_288 : decode cX12_read 288 = .ok (.iload 4, 2) := by decide +kernel
theorem dX12_read_290 : decode cX12_read 290 = .ok (.ireturn, 1) := by decide +kernel
theorem dX12_siteOf_0 : decode cX12_siteOf 0 = .ok (.aload_n 0, 1) := by decide +kernel
theorem dX12_siteOf_1 : decode cX12_siteOf 1 = .ok (.iload_n 1, 1) := by decide +kernel
theorem dX12_siteOf_2 : decode cX12_siteOf 2 = .ok (.invokevirtual 80, 3) := by decide +kernel
theorem dX12_siteOf_5 : decode cX12_siteOf 5 = .ok (.ifCond .eq 27, 3) := by decide +kernel
theorem dX12_siteOf_8 : decode cX12_siteOf 8 = .ok (.iload_n 2, 1) := by decide +kernel
theorem dX12_siteOf_9 : decode cX12_siteOf 9 = .ok (.iconst 0, 1) := by decide +kernel
theorem dX12_siteOf_10 : decode cX12_siteOf 10 = .ok (.bipush 8, 2) := by decide +kernel
theorem dX12_siteOf_12 : decode cX12_siteOf 12 = .ok (.invokestatic 76, 3) := by decide +kernel
theorem dX12_siteOf_15 : decode cX12_siteOf 15 = .ok (.ifCond .eq 17, 3) := by decide +kernel
theorem dX12_siteOf_18 : decode cX12_siteOf 18 = .ok (.aload_n 0, 1) := by decide +kernel
theorem dX12_siteOf_19 : decode cX12_siteOf 19 = .ok (.getfield 13, 3) := by decide +kernel
theorem dX12_siteOf_22 : decode cX12_siteOf 22 = .ok (.bipush 9, 2) := by decide +kernel
theorem dX12_siteOf_24 : decode cX12_siteOf 24 = .ok (.iload_n 1, 1) := by decide +kernel
theorem dX12_siteOf_25 : decode cX12_siteOf 25 = .ok (.imul, 1) := by decide +kernel
theorem dX12_siteOf_26 : decode cX12_siteOf 26 = .ok (.iload_n 2, 1) := by decide +kernel
theorem dX12_siteOf_27 : decode cX12_siteOf 27 = .ok (.iadd, 1) := by decide +kernel
theorem dX12_siteOf_28 : decode cX12_siteOf 28 = .ok (.iaload, 1) := by decide +kernel
theorem dX12_siteOf_29 : decode cX12_siteOf 29 = .ok (.goto 4, 3) := by decide +kernel
theorem dX12_siteOf_32 : decode cX12_siteOf 32 = .ok (.iconst (-1), 1) := by decide +kernel
theorem dX12_siteOf_33 : decode cX12_siteOf 33 = .ok (.ireturn, 1) := by decide +kernel
theorem dX12_toQueue_0 : decode cX12_toQueue 0 = .ok (.aload_n 0, 1) := by decide +kernel
theorem dX12_toQueue_1 : decode cX12_toQueue 1 = .ok (.getfield 13, 3) := by decide +kernel
theorem dX12_toQueue_4 : decode cX12_toQueue 4 = .ok (.bipush 9, 2) := by decide +kernel
theorem dX12_toQueue_6 : decode cX12_toQueue 6 = .ok (.iload_n 2, 1) := by decide +kernel
theorem dX12_toQueue_7 : decode cX12_toQueue 7 = .ok (.imul, 1) := by decide +kernel
theorem dX12_toQueue_8 : decode cX12_toQueue 8 = .ok (.bipush 6, 2) := by decide +kernel
theorem dX12_toQueue_10 : decode cX12_toQueue 10 = .ok (.iadd, 1) := by decide +kernel
theorem dX12_toQueue_11 : decode cX12_toQueue 11 = .ok (.iaload, 1) := by decide +kernel
theorem dX12_toQueue_12 : decode cX12_toQueue 12 = .ok (.istore 4, 2) := by decide +kernel
theorem dX12_toQueue_14 : decode cX12_toQueue 14 = .ok (.iload_n 3, 1) := by decide +kernel
theorem dX12_toQueue_15 : decode cX12_toQueue 15 = .ok (.ifCond .eq 44, 3) := by decide +kernel
theorem dX12_toQueue_18 : decode cX12_toQueue 18 = .ok (.iload 4, 2) := by decide +kernel
theorem dX12_toQueue_20 : decode cX12_toQueue 20 = .ok (.istore 5, 2) := by decide +kernel
theorem dX12_toQueue_22 : decode cX12_toQueue 22 = .ok (.iload 5, 2) := by decide +kernel
theorem dX12_toQueue_24 : decode cX12_toQueue 24 = .ok (.ifCond .le 35, 3) := by decide +kernel
theorem dX12_toQueue_27 : decode cX12_toQueue 27 = .ok (.aload_n 0, 1) := by decide +kernel
theorem dX12_toQueue_28 : decode cX12_toQueue 28 = .ok (.getfield 16, 3) := by decide +kernel
theorem dX12_toQueue_31 : decode cX12_toQueue 31 = .ok (.bipush 12, 2) := by decide +kernel
theorem dX12_toQueue_33 : decode cX12_toQueue 33 = .ok (.iload_n 2, 1) := by decide +kernel
theorem dX12_toQueue_34 : decode cX12_toQueue 34 = .ok (.imul, 1) := by decide +kernel
theorem dX12_toQueue_35 : decode cX12_toQueue 35 = .ok (.iload 5, 2) := by decide +kernel
theorem dX12_toQueue_37 : decode cX12_toQueue 37 = .ok (.iadd, 1) := by decide +kernel
theorem dX12_toQueue_38 : decode cX12_toQueue 38 = .ok (.aload_n 0, 1) := by decide +kernel
theorem dX12_toQueue_39 : decode cX12_toQueue 39 = .ok (.getfield 16, 3) := by decide +kernel
theorem dX12_toQueue_42 : decode cX12_toQueue 42 = .ok (.bipush 12, 2) := by decide +kernel
theorem dX12_toQueue_44 : decode cX12_toQueue 44 = .ok (.iload_n 2, 1) := by decide +kernel
theorem dX12_toQueue_45 : decode cX12_toQueue 45 = .ok (.imul, 1) := by decide +kernel
theorem dX12_toQueue_46 : decode cX12_toQueue 46 = .ok (.iload 5, 2) := by decide +kernel
theorem dX12_toQueue_48 : decode cX12_toQueue 48 = .ok (.iadd, 1) := by decide +kernel
theorem dX12_toQueue_49 : decode cX12_toQueue 49 = .ok (.iconst 1, 1) := by decide +kernel
theorem dX12_toQueue_50 : decode cX12_toQueue 50 = .ok (.isub, 1) := by decide +kernel
theorem dX12_toQueue_51 : decode cX12_toQueue 51 = .ok (.iaload, 1) := by decide +kernel
theorem dX12_toQueue_52 : decode cX12_toQueue 52 = .ok (.iastore, 1) := by decide +kernel
theorem dX12_toQueue_53 : decode cX12_toQueue 53 = .ok (.iinc 5 (-1), 3) := by decide +kernel
theorem dX12_toQueue_56 : decode cX12_toQueue 56 = .ok (.goto (-34), 3) := by decide +kernel
theorem dX12_toQueue_59 : decode cX12_toQueue 59 = .ok (.aload_n 0, 1) := by decide +kernel
theorem dX12_toQueue_60 : decode cX12_toQueue 60 = .ok (.getfield 16, 3) := by decide +kernel
theorem dX12_toQueue_63 : decode cX12_toQueue 63 = .ok (.bipush 12, 2) := by decide +kernel
theorem dX12_toQueue_65 : decode cX12_toQueue 65 = .ok (.iload_n 2, 1) := by decide +kernel
theorem dX12_toQueue_66 : decode cX12_toQueue 66 = .ok (.imul, 1) := by decide +kernel
theorem dX12_toQueue_67 : decode cX12_toQueue 67 = .ok (.iload_n 3, 1) := by decide +kernel
theorem dX12_toQueue_68 : decode cX12_toQueue 68 = .ok (.ifCond .eq 7, 3) := by decide +kernel
theorem dX12_toQueue_71 : decode cX12_toQueue 71 = .ok (.iconst 0, 1) := by decide +kernel
theorem dX12_toQueue_72 : decode cX12_toQueue 72 = .ok (.goto 5, 3) := by decide +kernel
theorem dX12_toQueue_75 : decode cX12_toQueue 75 = .ok (.iload 4, 2) := by decide +kernel
theorem dX12_toQueue_77 : decode cX12_toQueue 77 = .ok (.iadd, 1) := by decide +kernel
theorem dX12_toQueue_78 : decode cX12_toQueue 78 = .ok (.iload_n 1, 1) := by decide +kernel
theorem dX12_toQueue_79 : decode cX12_toQueue 79 = .ok (.iastore, 1) := by decide +kernel
theorem dX12_toQueue_80 : decode cX12_toQueue 80 = .ok (.aload_n 0, 1) := by decide +kernel
theorem dX12_toQueue_81 : decode cX12_toQueue 81 = .ok (.getfield 13, 3) := by decide +kernel
theorem dX12_toQueue_84 : decode cX12_toQueue 84 = .ok (.bipush 9, 2) := by decide +kernel
theorem dX12_toQueue_86 : decode cX12_toQueue 86 = .ok (.iload_n 2, 1) := by decide +kernel
theorem dX12_toQueue_87 : decode cX12_toQueue 87 = .ok (.imul, 1) := by decide +kernel
theorem dX12_toQueue_88 : decode cX12_toQueue 88 = .ok (.bipush 6, 2) := by decide +kernel
theorem dX12_toQueue_90 : decode cX12_toQueue 90 = .ok (.iadd, 1) := by decide +kernel
theorem dX12_toQueue_91 : decode cX12_toQueue 91 = .ok (.dup2, 1) := by decide +kernel
theorem dX12_toQueue_92 : decode cX12_toQueue 92 = .ok (.iaload, 1) := by decide +kernel
theorem dX12_toQueue_93 : decode cX12_toQueue 93 = .ok (.iconst 1, 1) := by decide +kernel
theorem dX12_toQueue_94 : decode cX12_toQueue 94 = .ok (.iadd, 1) := by decide +kernel
theorem dX12_toQueue_95 : decode cX12_toQueue 95 = .ok (.iastore, 1) := by decide +kernel
theorem dX12_toQueue_96 : decode cX12_toQueue 96 = .ok (.aload_n 0, 1) := by decide +kernel
theorem dX12_toQueue_97 : decode cX12_toQueue 97 = .ok (.iload_n 1, 1) := by decide +kernel
theorem dX12_toQueue_98 : decode cX12_toQueue 98 = .ok (.iconst 5, 1) := by decide +kernel
theorem dX12_toQueue_99 : decode cX12_toQueue 99 = .ok (.bipush 100, 2) := by decide +kernel
theorem dX12_toQueue_101 : decode cX12_toQueue 101 = .ok (.iload_n 2, 1) := by decide +kernel
theorem dX12_toQueue_102 : decode cX12_toQueue 102 = .ok (.iadd, 1) := by decide +kernel
theorem dX12_toQueue_103 : decode cX12_toQueue 103 = .ok (.invokevirtual 201, 3) := by decide +kernel
theorem dX12_toQueue_106 : decode cX12_toQueue 106 = .ok (.return_, 1) := by decide +kernel
theorem dX12_fromQueue_0 : decode cX12_fromQueue 0 = .ok (.aload_n 0, 1) := by decide +kernel
theorem dX12_fromQueue_1 : decode cX12_fromQueue 1 = .ok (.iload_n 1, 1) := by decide +kernel
theorem dX12_fromQueue_2 : decode cX12_fromQueue 2 = .ok (.iconst 5, 1) := by decide +kernel
theorem dX12_fromQueue_3 : decode cX12_fromQueue 3 = .ok (.invokevirtual 84, 3) := by decide +kernel
theorem dX12_fromQueue_6 : decode cX12_fromQueue 6 = .ok (.bipush 100, 2) := by decide +kernel
theorem dX12_fromQueue_8 : decode cX12_fromQueue 8 = .ok (.isub, 1) := by decide +kernel
theorem dX12_fromQueue_9 : decode cX12_fromQueue 9 = .ok (.istore_n 2, 1) := by decide +kernel
theorem dX12_fromQueue_10 : decode cX12_fromQueue 10 = .ok (.aload_n 0, 1) := by decide +kernel
theorem dX12_fromQueue_11 : decode cX12_fromQueue 11 = .ok (.getfield 13, 3) := by decide +kernel
theorem dX12_fromQueue_14 : decode cX12_fromQueue 14 = .ok (.bipush 9, 2) := by decide +kernel
theorem dX12_fromQueue_16 : decode cX12_fromQueue 16 = .ok (.iload_n 2, 1) := by decide +kernel
theorem dX12_fromQueue_17 : decode cX12_fromQueue 17 = .ok (.imul, 1) := by decide +kernel
theorem dX12_fromQueue_18 : decode cX12_fromQueue 18 = .ok (.bipush 6, 2) := by decide +kernel
theorem dX12_fromQueue_20 : decode cX12_fromQueue 20 = .ok (.iadd, 1) := by decide +kernel
theorem dX12_fromQueue_21 : decode cX12_fromQueue 21 = .ok (.iaload, 1) := by decide +kernel
theorem dX12_fromQueue_22 : decode cX12_fromQueue 22 = .ok (.iconst 1, 1) := by decide +kernel
theorem dX12_fromQueue_23 : decode cX12_fromQueue 23 = .ok (.isub, 1) := by decide +kernel
theorem dX12_fromQueue_24 : decode cX12_fromQueue 24 = .ok (.istore_n 3, 1) := by decide +kernel
theorem dX12_fromQueue_25 : decode cX12_fromQueue 25 = .ok (.aload_n 0, 1) := by decide +kernel
theorem dX12_fromQueue_26 : decode cX12_fromQueue 26 = .ok (.iload_n 1, 1) := by decide +kernel
theorem dX12_fromQueue_27 : decode cX12_fromQueue 27 = .ok (.invokevirtual 105, 3) := by decide +kernel
theorem dX12_fromQueue_30 : decode cX12_fromQueue 30 = .ok (.istore 4, 2) := by decide +kernel
theorem dX12_fromQueue_32 : decode cX12_fromQueue 32 = .ok (.iload 4, 2) := by decide +kernel
theorem dX12_fromQueue_34 : decode cX12_fromQueue 34 = .ok (.iload_n 3, 1) := by decide +kernel
theorem dX12_fromQueue_35 : decode cX12_fromQueue 35 = .ok (.if_icmp .ge 35, 3) := by decide +kernel
theorem dX12_fromQueue_38 : decode cX12_fromQueue 38 = .ok (.aload_n 0, 1) := by decide +kernel
theorem dX12_fromQueue_39 : decode cX12_fromQueue 39 = .ok (.getfield 16, 3) := by decide +kernel
theorem dX12_fromQueue_42 : decode cX12_fromQueue 42 = .ok (.bipush 12, 2) := by decide +kernel
theorem dX12_fromQueue_44 : decode cX12_fromQueue 44 = .ok (.iload_n 2, 1) := by decide +kernel
theorem dX12_fromQueue_45 : decode cX12_fromQueue 45 = .ok (.imul, 1) := by decide +kernel
theorem dX12_fromQueue_46 : decode cX12_fromQueue 46 = .ok (.iload 4, 2) := by decide +kernel
theorem dX12_fromQueue_48 : decode cX12_fromQueue 48 = .ok (.iadd, 1) := by decide +kernel
theorem dX12_fromQueue_49 : decode cX12_fromQueue 49 = .ok (.aload_n 0, 1) := by decide +kernel
theorem dX12_fromQueue_50 : decode cX12_fromQueue 50 = .ok (.getfield 16, 3) := by decide +kernel
theorem dX12_fromQueue_53 : decode cX12_fromQueue 53 = .ok (.bipush 12, 2) := by decide +kernel
theorem dX12_fromQueue_55 : decode cX12_fromQueue 55 = .ok (.iload_n 2, 1) := by decide +kernel
theorem dX12_fromQueue_56 : decode cX12_fromQueue 56 = .ok (.imul, 1) := by decide +kernel
theorem dX12_fromQueue_57 : decode cX12_fromQueue 57 = .ok (.iload 4, 2) := by decide +kernel
theorem dX12_fromQueue_59 : decode cX12_fromQueue 59 = .ok (.iadd, 1) := by decide +kernel
theorem dX12_fromQueue_60 : decode cX12_fromQueue 60 = .ok (.iconst 1, 1) := by decide +kernel
theorem dX12_fromQueue_61 : decode cX12_fromQueue 61 = .ok (.iadd, 1) := by decide +kernel
theorem dX12_fromQueue_62 : decode cX12_fromQueue 62 = .ok (.iaload, 1) := by decide +kernel
theorem dX12_fromQueue_63 : decode cX12_fromQueue 63 = .ok (.iastore, 1) := by decide +kernel
theorem dX12_fromQueue_64 : decode cX12_fromQueue 64 = .ok (.iinc 4 1, 3) := by decide +kernel
theorem dX12_fromQueue_67 : decode cX12_fromQueue 67 = .ok (.goto (-35), 3) := by decide +kernel
theorem dX12_fromQueue_70 : decode cX12_fromQueue 70 = .ok (.aload_n 0, 1) := by decide +kernel
theorem dX12_fromQueue_71 : decode cX12_fromQueue 71 = .ok (.getfield 13, 3) := by decide +kernel
theorem dX12_fromQueue_74 : decode cX12_fromQueue 74 = .ok (.bipush 9, 2) := by decide +kernel
theorem dX12_fromQueue_76 : decode cX12_fromQueue 76 = .ok (.iload_n 2, 1) := by decide +kernel
theorem dX12_fromQueue_77 : decode cX12_fromQueue 77 = .ok (.imul, 1) := by decide +kernel
theorem dX12_fromQueue_78 : decode cX12_fromQueue 78 = .ok (.bipush 6, 2) := by decide +kernel
theorem dX12_fromQueue_80 : decode cX12_fromQueue 80 = .ok (.iadd, 1) := by decide +kernel
theorem dX12_fromQueue_81 : decode cX12_fromQueue 81 = .ok (.iload_n 3, 1) := by decide +kernel
theorem dX12_fromQueue_82 : decode cX12_fromQueue 82 = .ok (.iastore, 1) := by decide +kernel
theorem dX12_fromQueue_83 : decode cX12_fromQueue 83 = .ok (.return_, 1) := by decide +kernel
theorem dX12_come_0 : decode cX12_come 0 = .ok (.aload_n 0, 1) := by decide +kernel
theorem dX12_come_1 : decode cX12_come 1 = .ok (.iload_n 1, 1) := by decide +kernel
theorem dX12_come_2 : decode cX12_come 2 = .ok (.invokevirtual 88, 3) := by decide +kernel
theorem dX12_come_5 : decode cX12_come 5 = .ok (.ifCond .eq 41, 3) := by decide +kernel
theorem dX12_come_8 : decode cX12_come 8 = .ok (.aload_n 0, 1) := by decide +kernel
theorem dX12_come_9 : decode cX12_come 9 = .ok (.iload_n 2, 1) := by decide +kernel
theorem dX12_come_10 : decode cX12_come 10 = .ok (.invokevirtual 80, 3) := by decide +kernel
theorem dX12_come_13 : decode cX12_come 13 = .ok (.ifCond .eq 33, 3) := by decide +kernel
theorem dX12_come_16 : decode cX12_come 16 = .ok (.iload_n 3, 1) := by decide +kernel
theorem dX12_come_17 : decode cX12_come 17 = .ok (.aload_n 0, 1) := by decide +kernel
theorem dX12_come_18 : decode cX12_come 18 = .ok (.iload_n 1, 1) := by decide +kernel
theorem dX12_come_19 : decode cX12_come 19 = .ok (.iconst 4, 1) := by decide +kernel
theorem dX12_come_20 : decode cX12_come 20 = .ok (.invokevirtual 84, 3) := by decide +kernel
theorem dX12_come_23 : decode cX12_come 23 = .ok (.aload_n 0, 1) := by decide +kernel
theorem dX12_come_24 : decode cX12_come 24 = .ok (.iload_n 1, 1) := by decide +kernel
theorem dX12_come_25 : decode cX12_come 25 = .ok (.iconst 0, 1) := by decide +kernel
theorem dX12_come_26 : decode cX12_come 26 = .ok (.invokevirtual 84, 3) := by decide +kernel
theorem dX12_come_29 : decode cX12_come 29 = .ok (.invokestatic 76, 3) := by decide +kernel
theorem dX12_come_32 : decode cX12_come 32 = .ok (.ifCond .eq 14, 3) := by decide +kernel
theorem dX12_come_35 : decode cX12_come 35 = .ok (.iload 4, 2) := by decide +kernel
theorem dX12_come_37 : decode cX12_come 37 = .ok (.iconst 0, 1) := by decide +kernel
theorem dX12_come_38 : decode cX12_come 38 = .ok (.bipush 50, 2) := by decide +kernel
theorem dX12_come_40 : decode cX12_come 40 = .ok (.invokestatic 76, 3) := by decide +kernel
theorem dX12_come_43 : decode cX12_come 43 = .ok (.ifCond .ne 5, 3) := by decide +kernel
theorem dX12_come_46 : decode cX12_come 46 = .ok (.iconst (-1), 1) := by decide +kernel
theorem dX12_come_47 : decode cX12_come 47 = .ok (.ireturn, 1) := by decide +kernel
theorem dX12_come_48 : decode cX12_come 48 = .ok (.aload_n 0, 1) := by decide +kernel
theorem dX12_come_49 : decode cX12_come 49 = .ok (.iload_n 1, 1) := by decide +kernel
theorem dX12_come_50 : decode cX12_come 50 = .ok (.iconst 5, 1) := by decide +kernel
theorem dX12_come_51 : decode cX12_come 51 = .ok (.invokevirtual 84, 3) := by decide +kernel
theorem dX12_come_54 : decode cX12_come 54 = .ok (.ifCond .eq 6, 3) := by decide +kernel
theorem dX12_come_57 : decode cX12_come 57 = .ok (.bipush (-4), 2) := by decide +kernel
theorem dX12_come_59 : decode cX12_come 59 = .ok (.ireturn, 1) := by decide +kernel
theorem dX12_come_60 : decode cX12_come 60 = .ok (.aload_n 0, 1) := by decide +kernel
theorem dX12_come_61 : decode cX12_come 61 = .ok (.iload_n 1, 1) := by decide +kernel
theorem dX12_come_62 : decode cX12_come 62 = .ok (.bipush 6, 2) := by decide +kernel
theorem dX12_come_64 : decode cX12_come 64 = .ok (.iload_n 3, 1) := by decide +kernel
theorem dX12_come_65 : decode cX12_come 65 = .ok (.invokevirtual 201, 3) := by decide +kernel
theorem dX12_come_68 : decode cX12_come 68 = .ok (.aload_n 0, 1) := by decide +kernel
theorem dX12_come_69 : decode cX12_come 69 = .ok (.iload_n 1, 1) := by decide +kernel
theorem dX12_come_70 : decode cX12_come 70 = .ok (.bipush 7, 2) := by decide +kernel
theorem dX12_come_72 : decode cX12_come 72 = .ok (.iload 4, 2) := by decide +kernel
theorem dX12_come_74 : decode cX12_come 74 = .ok (.invokevirtual 201, 3) := by decide +kernel
theorem dX12_come_77 : decode cX12_come 77 = .ok (.aload_n 0, 1) := by decide +kernel
theorem dX12_come_78 : decode cX12_come 78 = .ok (.iload_n 1, 1) := by decide +kernel
theorem dX12_come_79 : decode cX12_come 79 = .ok (.bipush 12, 2) := by decide +kernel
theorem dX12_come_81 : decode cX12_come 81 = .ok (.iconst 0, 1) := by decide +kernel
theorem dX12_come_82 : decode cX12_come 82 = .ok (.invokevirtual 201, 3) := by decide +kernel
theorem dX12_come_85 : decode cX12_come 85 = .ok (.aload_n 0, 1) := by decide +kernel
theorem dX12_come_86 : decode cX12_come 86 = .ok (.iload_n 1, 1) := by decide +kernel
theorem dX12_come_87 : decode cX12_come 87 = .ok (.bipush 13, 2) := by decide +kernel
theorem dX12_come_89 : decode cX12_come 89 = .ok (.iconst 0, 1) := by decide +kernel
theorem dX12_come_90 : decode cX12_come 90 = .ok (.invokevirtual 201, 3) := by decide +kernel
theorem dX12_come_93 : decode cX12_come 93 = .ok (.aload_n 0, 1) := by decide +kernel
theorem dX12_come_94 : decode cX12_come 94 = .ok (.iload_n 1, 1) := by decide +kernel
theorem dX12_come_95 : decode cX12_come 95 = .ok (.iload_n 2, 1) := by decide +kernel
theorem dX12_come_96 : decode cX12_come 96 = .ok (.iconst 0, 1) := by decide +kernel
theorem dX12_come_97 : decode cX12_come 97 = .ok (.invokevirtual 204, 3) := by decide +kernel
theorem dX12_come_100 : decode cX12_come 100 = .ok (.aload_n 0, 1) := by decide +kernel
theorem dX12_come_101 : decode cX12_come 101 = .ok (.getfield 13, 3) := by decide +kernel
theorem dX12_come_104 : decode cX12_come 104 = .ok (.bipush 9, 2) := by decide +kernel
theorem dX12_come_106 : decode cX12_come 106 = .ok (.iload_n 2, 1) := by decide +kernel
theorem dX12_come_107 : decode cX12_come 107 = .ok (.imul, 1) := by decide +kernel
theorem dX12_come_108 : decode cX12_come 108 = .ok (.bipush 6, 2) := by decide +kernel
theorem dX12_come_110 : decode cX12_come 110 = .ok (.iadd, 1) := by decide +kernel
theorem dX12_come_111 : decode cX12_come 111 = .ok (.iaload, 1) := by decide +kernel
theorem dX12_come_112 : decode cX12_come 112 = .ok (.iconst 1, 1) := by decide +kernel
theorem dX12_come_113 : decode cX12_come 113 = .ok (.isub, 1) := by decide +kernel
theorem dX12_come_114 : decode cX12_come 114 = .ok (.ireturn, 1) := by decide +kernel
theorem dX12_goAway_0 : decode cX12_goAway 0 = .ok (.aload_n 0, 1) := by decide +kernel
theorem dX12_goAway_1 : decode cX12_goAway 1 = .ok (.iload_n 1, 1) := by decide +kernel
theorem dX12_goAway_2 : decode cX12_goAway 2 = .ok (.iconst 5, 1) := by decide +kernel
theorem dX12_goAway_3 : decode cX12_goAway 3 = .ok (.invokevirtual 84, 3) := by decide +kernel
theorem dX12_goAway_6 : decode cX12_goAway 6 = .ok (.istore_n 2, 1) := by decide +kernel
theorem dX12_goAway_7 : decode cX12_goAway 7 = .ok (.iload_n 2, 1) := by decide +kernel
theorem dX12_goAway_8 : decode cX12_goAway 8 = .ok (.sipush 200, 3) := by decide +kernel
theorem dX12_goAway_11 : decode cX12_goAway 11 = .ok (.if_icmp .lt 22, 3) := by decide +kernel
theorem dX12_goAway_14 : decode cX12_goAway 14 = .ok (.aload_n 0, 1) := by decide +kernel
theorem dX12_goAway_15 : decode cX12_goAway 15 = .ok (.getfield 19, 3) := by decide +kernel
theorem dX12_goAway_18 : decode cX12_goAway 18 = .ok (.bipush 6, 2) := by decide +kernel
theorem dX12_goAway_20 : decode cX12_goAway 20 = .ok (.iload_n 2, 1) := by decide +kernel
theorem dX12_goAway_21 : decode cX12_goAway 21 = .ok (.sipush 200, 3) := by decide +kernel
theorem dX12_goAway_24 : decode cX12_goAway 24 = .ok (.isub, 1) := by decide +kernel
theorem dX12_goAway_25 : decode cX12_goAway 25 = .ok (.imul, 1) := by decide +kernel
theorem dX12_goAway_26 : decode cX12_goAway 26 = .ok (.iconst 3, 1) := by decide +kernel
theorem dX12_goAway_27 : decode cX12_goAway 27 = .ok (.iadd, 1) := by decide +kernel
theorem dX12_goAway_28 : decode cX12_goAway 28 = .ok (.iconst (-1), 1) := by decide +kernel
theorem dX12_goAway_29 : decode cX12_goAway 29 = .ok (.iastore, 1) := by decide +kernel
theorem dX12_goAway_30 : decode cX12_goAway 30 = .ok (.goto 8, 3) := by decide +kernel
theorem dX12_goAway_33 : decode cX12_goAway 33 = .ok (.aload_n 0, 1) := by decide +kernel
theorem dX12_goAway_34 : decode cX12_goAway 34 = .ok (.iload_n 1, 1) := by decide +kernel
theorem dX12_goAway_35 : decode cX12_goAway 35 = .ok (.invokevirtual 207, 3) := by decide +kernel
theorem dX12_goAway_38 : decode cX12_goAway 38 = .ok (.aload_n 0, 1) := by decide +kernel
theorem dX12_goAway_39 : decode cX12_goAway 39 = .ok (.iload_n 1, 1) := by decide +kernel
theorem dX12_goAway_40 : decode cX12_goAway 40 = .ok (.iconst 5, 1) := by decide +kernel
theorem dX12_goAway_41 : decode cX12_goAway 41 = .ok (.iconst 0, 1) := by decide +kernel
theorem dX12_goAway_42 : decode cX12_goAway 42 = .ok (.invokevirtual 201, 3) := by decide +kernel
theorem dX12_goAway_45 : decode cX12_goAway 45 = .ok (.return_, 1) := by decide +kernel
theorem dX12_leave_0 : decode cX12_leave 0 = .ok (.aload_n 0, 1) := by decide +kernel
theorem dX12_leave_1 : decode cX12_leave 1 = .ok (.iload_n 1, 1) := by decide +kernel
theorem dX12_leave_2 : decode cX12_leave 2 = .ok (.invokevirtual 88, 3) := by decide +kernel
theorem dX12_leave_5 : decode cX12_leave 5 = .ok (.ifCond .ne 5, 3) := by decide +kernel
theorem dX12_leave_8 : decode cX12_leave 8 = .ok (.iconst (-1), 1) := by decide +kernel
theorem dX12_leave_9 : decode cX12_leave 9 = .ok (.ireturn, 1) := by decide +kernel
theorem dX12_leave_10 : decode cX12_leave 10 = .ok (.aload_n 0, 1) := by decide +kernel
theorem dX12_leave_11 : decode cX12_leave 11 = .ok (.iload_n 1, 1) := by decide +kernel
theorem dX12_leave_12 : decode cX12_leave 12 = .ok (.iconst 5, 1) := by decide +kernel
theorem dX12_leave_13 : decode cX12_leave 13 = .ok (.invokevirtual 84, 3) := by decide +kernel
theorem dX12_leave_16 : decode cX12_leave 16 = .ok (.istore_n 2, 1) := by decide +kernel
theorem dX12_leave_17 : decode cX12_leave 17 = .ok (.iload_n 2, 1) := by decide +kernel
theorem dX12_leave_18 : decode cX12_leave 18 = .ok (.ifCond .ne 6, 3) := by decide +kernel
theorem dX12_leave_21 : decode cX12_leave 21 = .ok (.bipush (-4), 2) := by decide +kernel
theorem dX12_leave_23 : decode cX12_leave 23 = .ok (.ireturn, 1) := by decide +kernel
theorem dX12_leave_24 : decode cX12_leave 24 = .ok (.aload_n 0, 1) := by decide +kernel
theorem dX12_leave_25 : decode cX12_leave 25 = .ok (.iload_n 1, 1) := by decide +kernel
theorem dX12_leave_26 : decode cX12_leave 26 = .ok (.invokevirtual 210, 3) := by decide +kernel
theorem dX12_leave_29 : decode cX12_leave 29 = .ok (.iload_n 2, 1) := by decide +kernel
theorem dX12_leave_30 : decode cX12_leave 30 = .ok (.ireturn, 1) := by decide +kernel
theorem dX12_go_0 : decode cX12_go 0 = .ok (.aload_n 0, 1) := by decide +kernel
theorem dX12_go_1 : decode cX12_go 1 = .ok (.iload_n 1, 1) := by decide +kernel
theorem dX12_go_2 : decode cX12_go 2 = .ok (.invokevirtual 88, 3) := by decide +kernel
theorem dX12_go_5 : decode cX12_go 5 = .ok (.ifCond .eq 14, 3) := by decide +kernel
theorem dX12_go_8 : decode cX12_go 8 = .ok (.iload_n 2, 1) := by decide +kernel
theorem dX12_go_9 : decode cX12_go 9 = .ok (.iconst 1, 1) := by decide +kernel
theorem dX12_go_10 : decode cX12_go 10 = .ok (.sipush 999, 3) := by decide +kernel
theorem dX12_go_13 : decode cX12_go 13 = .ok (.invokestatic 76, 3) := by decide +kernel
theorem dX12_go_16 : decode cX12_go 16 = .ok (.ifCond .ne 5, 3) := by decide +kernel
theorem dX12_go_19 : decode cX12_go 19 = .ok (.iconst (-1), 1) := by decide +kernel
theorem dX12_go_20 : decode cX12_go 20 = .ok (.ireturn, 1) := by decide +kernel
theorem dX12_go_21 : decode cX12_go 21 = .ok (.aload_n 0, 1) := by decide +kernel
theorem dX12_go_22 : decode cX12_go 22 = .ok (.iload_n 1, 1) := by decide +kernel
theorem dX12_go_23 : decode cX12_go 23 = .ok (.iconst 5, 1) := by decide +kernel
theorem dX12_go_24 : decode cX12_go 24 = .ok (.invokevirtual 84, 3) := by decide +kernel
theorem dX12_go_27 : decode cX12_go 27 = .ok (.ifCond .eq 6, 3) := by decide +kernel
theorem dX12_go_30 : decode cX12_go 30 = .ok (.bipush (-4), 2) := by decide +kernel
theorem dX12_go_32 : decode cX12_go 32 = .ok (.ireturn, 1) := by decide +kernel
theorem dX12_go_33 : decode cX12_go 33 = .ok (.aload_n 0, 1) := by decide +kernel
theorem dX12_go_34 : decode cX12_go 34 = .ok (.iload_n 1, 1) := by decide +kernel
theorem dX12_go_35 : decode cX12_go 35 = .ok (.iload_n 2, 1) := by decide +kernel
theorem dX12_go_36 : decode cX12_go 36 = .ok (.invokevirtual 95, 3) := by decide +kernel
theorem dX12_go_39 : decode cX12_go 39 = .ok (.istore_n 3, 1) := by decide +kernel
theorem dX12_go_40 : decode cX12_go 40 = .ok (.iload_n 3, 1) := by decide +kernel
theorem dX12_go_41 : decode cX12_go 41 = .ok (.aload_n 0, 1) := by decide +kernel
theorem dX12_go_42 : decode cX12_go 42 = .ok (.iload_n 1, 1) := by decide +kernel
theorem dX12_go_43 : decode cX12_go 43 = .ok (.iconst 4, 1) := by decide +kernel
theorem dX12_go_44 : decode cX12_go 44 = .ok (.invokevirtual 84, 3) := by decide +kernel
theorem dX12_go_47 : decode cX12_go 47 = .ok (.if_icmp .le 6, 3) := by decide +kernel
theorem dX12_go_50 : decode cX12_go 50 = .ok (.bipush (-3), 2) := by decide +kernel
theorem dX12_go_52 : decode cX12_go 52 = .ok (.ireturn, 1) := by decide +kernel
theorem dX12_go_53 : decode cX12_go 53 = .ok (.aload_n 0, 1) := by decide +kernel
theorem dX12_go_54 : decode cX12_go 54 = .ok (.iload_n 1, 1) := by decide +kernel
theorem dX12_go_55 : decode cX12_go 55 = .ok (.iconst 4, 1) := by decide +kernel
theorem dX12_go_56 : decode cX12_go 56 = .ok (.iload_n 3, 1) := by decide +kernel
theorem dX12_go_57 : decode cX12_go 57 = .ok (.ineg, 1) := by decide +kernel
theorem dX12_go_58 : decode cX12_go 58 = .ok (.invokevirtual 213, 3) := by decide +kernel
theorem dX12_go_61 : decode cX12_go 61 = .ok (.aload_n 0, 1) := by decide +kernel
theorem dX12_go_62 : decode cX12_go 62 = .ok (.iload_n 1, 1) := by decide +kernel
theorem dX12_go_63 : decode cX12_go 63 = .ok (.iconst 4, 1) := by decide +kernel
theorem dX12_go_64 : decode cX12_go 64 = .ok (.invokevirtual 84, 3) := by decide +kernel
theorem dX12_go_67 : decode cX12_go 67 = .ok (.ireturn, 1) := by decide +kernel
theorem dX12_fail_0 : decode cX12_fail 0 = .ok (.aload_n 0, 1) := by decide +kernel
theorem dX12_fail_1 : decode cX12_fail 1 = .ok (.iload_n 1, 1) := by decide +kernel
theorem dX12_fail_2 : decode cX12_fail 2 = .ok (.invokevirtual 98, 3) := by decide +kernel
theorem dX12_fail_5 : decode cX12_fail 5 = .ok (.ifCond .ne 5, 3) := by decide +kernel
theorem dX12_fail_8 : decode cX12_fail 8 = .ok (.iconst (-1), 1) := by decide +kernel
theorem dX12_fail_9 : decode cX12_fail 9 = .ok (.ireturn, 1) := by decide +kernel
theorem dX12_fail_10 : decode cX12_fail 10 = .ok (.iload_n 2, 1) := by decide +kernel
theorem dX12_fail_11 : decode cX12_fail 11 = .ok (.ifCond .eq 7, 3) := by decide +kernel
theorem dX12_fail_14 : decode cX12_fail 14 = .ok (.iconst 1, 1) := by decide +kernel
theorem dX12_fail_15 : decode cX12_fail 15 = .ok (.goto 4, 3) := by decide +kernel
theorem dX12_fail_18 : decode cX12_fail 18 = .ok (.iconst 0, 1) := by decide +kernel
theorem dX12_fail_19 : decode cX12_fail 19 = .ok (.istore_n 3, 1) := by decide +kernel
theorem dX12_fail_20 : decode cX12_fail 20 = .ok (.aload_n 0, 1) := by decide +kernel
theorem dX12_fail_21 : decode cX12_fail 21 = .ok (.getfield 19, 3) := by decide +kernel
theorem dX12_fail_24 : decode cX12_fail 24 = .ok (.bipush 6, 2) := by decide +kernel
theorem dX12_fail_26 : decode cX12_fail 26 = .ok (.iload_n 1, 1) := by decide +kernel
theorem dX12_fail_27 : decode cX12_fail 27 = .ok (.imul, 1) := by decide +kernel
theorem dX12_fail_28 : decode cX12_fail 28 = .ok (.iconst 4, 1) := by decide +kernel
theorem dX12_fail_29 : decode cX12_fail 29 = .ok (.iadd, 1) := by decide +kernel
theorem dX12_fail_30 : decode cX12_fail 30 = .ok (.iaload, 1) := by decide +kernel
theorem dX12_fail_31 : decode cX12_fail 31 = .ok (.iload_n 3, 1) := by decide +kernel
theorem dX12_fail_32 : decode cX12_fail 32 = .ok (.if_icmp .ne 7, 3) := by decide +kernel
theorem dX12_fail_35 : decode cX12_fail 35 = .ok (.iconst 0, 1) := by decide +kernel
theorem dX12_fail_36 : decode cX12_fail 36 = .ok (.goto 4, 3) := by decide +kernel
theorem dX12_fail_39 : decode cX12_fail 39 = .ok (.iconst 1, 1) := by decide +kernel
theorem dX12_fail_40 : decode cX12_fail 40 = .ok (.istore 4, 2) := by decide +kernel
theorem dX12_fail_42 : decode cX12_fail 42 = .ok (.aload_n 0, 1) := by decide +kernel
theorem dX12_fail_43 : decode cX12_fail 43 = .ok (.getfield 19, 3) := by decide +kernel
theorem dX12_fail_46 : decode cX12_fail 46 = .ok (.bipush 6, 2) := by decide +kernel
theorem dX12_fail_48 : decode cX12_fail 48 = .ok (.iload_n 1, 1) := by decide +kernel
theorem dX12_fail_49 : decode cX12_fail 49 = .ok (.imul, 1) := by decide +kernel
theorem dX12_fail_50 : decode cX12_fail 50 = .ok (.iconst 4, 1) := by decide +kernel
theorem dX12_fail_51 : decode cX12_fail 51 = .ok (.iadd, 1) := by decide +kernel
theorem dX12_fail_52 : decode cX12_fail 52 = .ok (.iload_n 3, 1) := by decide +kernel
theorem dX12_fail_53 : decode cX12_fail 53 = .ok (.iastore, 1) := by decide +kernel
theorem dX12_fail_54 : decode cX12_fail 54 = .ok (.iload 4, 2) := by decide +kernel
theorem dX12_fail_56 : decode cX12_fail 56 = .ok (.ireturn, 1) := by decide +kernel
theorem dX12_firstFor_0 : decode cX12_firstFor 0 = .ok (.iconst 0, 1) := by decide +kernel
theorem dX12_firstFor_1 : decode cX12_firstFor 1 = .ok (.istore_n 3, 1) := by decide +kernel
theorem dX12_firstFor_2 : decode cX12_firstFor 2 = .ok (.iload_n 3, 1) := by decide +kernel
theorem dX12_firstFor_3 : decode cX12_firstFor 3 = .ok (.aload_n 0, 1) := by decide +kernel
theorem dX12_firstFor_4 : decode cX12_firstFor 4 = .ok (.getfield 13, 3) := by decide +kernel
theorem dX12_firstFor_7 : decode cX12_firstFor 7 = .ok (.bipush 9, 2) := by decide +kernel
theorem dX12_firstFor_9 : decode cX12_firstFor 9 = .ok (.iload_n 1, 1) := by decide +kernel
theorem dX12_firstFor_10 : decode cX12_firstFor 10 = .ok (.imul, 1) := by decide +kernel
theorem dX12_firstFor_11 : decode cX12_firstFor 11 = .ok (.bipush 6, 2) := by decide +kernel
theorem dX12_firstFor_13 : decode cX12_firstFor 13 = .ok (.iadd, 1) := by decide +kernel
theorem dX12_firstFor_14 : decode cX12_firstFor 14 = .ok (.iaload, 1) := by decide +kernel
theorem dX12_firstFor_15 : decode cX12_firstFor 15 = .ok (.if_icmp .ge 61, 3) := by decide +kernel
theorem dX12_firstFor_18 : decode cX12_firstFor 18 = .ok (.aload_n 0, 1) := by decide +kernel
theorem dX12_firstFor_19 : decode cX12_firstFor 19 = .ok (.getfield 16, 3) := by decide +kernel
theorem dX12_firstFor_22 : decode cX12_firstFor 22 = .ok (.bipush 12, 2) := by decide +kernel
theorem dX12_firstFor_24 : decode cX12_firstFor 24 = .ok (.iload_n 1, 1) := by decide +kernel
theorem dX12_firstFor_25 : decode cX12_firstFor 25 = .ok (.imul, 1) := by decide +kernel
theorem dX12_firstFor_26 : decode cX12_firstFor 26 = .ok (.iload_n 3, 1) := by decide +kernel
theorem dX12_firstFor_27 : decode cX12_firstFor 27 = .ok (.iadd, 1) := by decide +kernel
theorem dX12_firstFor_28 : decode cX12_firstFor 28 = .ok (.iaload, 1) := by decide +kernel
theorem dX12_firstFor_29 : decode cX12_firstFor 29 = .ok (.istore 4, 2) := by decide +kernel
theorem dX12_firstFor_31 : decode cX12_firstFor 31 = .ok (.aload_n 0, 1) := by decide +kernel
theorem dX12_firstFor_32 : decode cX12_firstFor 32 = .ok (.iload 4, 2) := by decide +kernel
theorem dX12_firstFor_34 : decode cX12_firstFor 34 = .ok (.iconst 3, 1) := by decide +kernel
theorem dX12_firstFor_35 : decode cX12_firstFor 35 = .ok (.invokevirtual 84, 3) := by decide +kernel
theorem dX12_firstFor_38 : decode cX12_firstFor 38 = .ok (.aload_n 0, 1) := by decide +kernel
theorem dX12_firstFor_39 : decode cX12_firstFor 39 = .ok (.getfield 19, 3) := by decide +kernel
theorem dX12_firstFor_42 : decode cX12_firstFor 42 = .ok (.bipush 6, 2) := by decide +kernel
theorem dX12_firstFor_44 : decode cX12_firstFor 44 = .ok (.iload_n 2, 1) := by decide +kernel
theorem dX12_firstFor_45 : decode cX12_firstFor 45 = .ok (.imul, 1) := by decide +kernel
theorem dX12_firstFor_46 : decode cX12_firstFor 46 = .ok (.iconst 2, 1) := by decide +kernel
theorem dX12_firstFor_47 : decode cX12_firstFor 47 = .ok (.iadd, 1) := by decide +kernel
theorem dX12_firstFor_48 : decode cX12_firstFor 48 = .ok (.iaload, 1) := by decide +kernel
theorem dX12_firstFor_49 : decode cX12_firstFor 49 = .ok (.if_icmp .ne 21, 3) := by decide +kernel
theorem dX12_firstFor_52 : decode cX12_firstFor 52 = .ok (.aload_n 0, 1) := by decide +kernel
theorem dX12_firstFor_53 : decode cX12_firstFor 53 = .ok (.iload 4, 2) := by decide +kernel
theorem dX12_firstFor_55 : decode cX12_firstFor 55 = .ok (.bipush 12, 2) := by decide +kernel
theorem dX12_firstFor_57 : decode cX12_firstFor 57 = .ok (.invokevirtual 84, 3) := by decide +kernel
theorem dX12_firstFor_60 : decode cX12_firstFor 60 = .ok (.iload_n 2, 1) := by decide +kernel
theorem dX12_firstFor_61 : decode cX12_firstFor 61 = .ok (.ishr, 1) := by decide +kernel
theorem dX12_firstFor_62 : decode cX12_firstFor 62 = .ok (.iconst 1, 1) := by decide +kernel
theorem dX12_firstFor_63 : decode cX12_firstFor 63 = .ok (.iand, 1) := by decide +kernel
theorem dX12_firstFor_64 : decode cX12_firstFor 64 = .ok (.ifCond .ne 6, 3) := by decide +kernel
theorem dX12_firstFor_67 : decode cX12_firstFor 67 = .ok (.iload 4, 2) := by decide +kernel
theorem dX12_firstFor_69 : decode cX12_firstFor 69 = .ok (.ireturn, 1) := by decide +kernel
theorem dX12_firstFor_70 : decode cX12_firstFor 70 = .ok (.iinc 3 1, 3) := by decide +kernel
theorem dX12_firstFor_73 : decode cX12_firstFor 73 = .ok (.goto (-71), 3) := by decide +kernel
theorem dX12_firstFor_76 : decode cX12_firstFor 76 = .ok (.iconst (-1), 1) := by decide +kernel
theorem dX12_firstFor_77 : decode cX12_firstFor 77 = .ok (.ireturn, 1) := by decide +kernel
theorem dX12_takes_0 : decode cX12_takes 0 = .ok (.iconst 0, 1) := by decide +kernel
theorem dX12_takes_1 : decode cX12_takes 1 = .ok (.istore_n 2, 1) := by decide +kernel
theorem dX12_takes_2 : decode cX12_takes 2 = .ok (.iload_n 2, 1) := by decide +kernel
theorem dX12_takes_3 : decode cX12_takes 3 = .ok (.aload_n 0, 1) := by decide +kernel
theorem dX12_takes_4 : decode cX12_takes 4 = .ok (.getfield 7, 3) := by decide +kernel
theorem dX12_takes_7 : decode cX12_takes 7 = .ok (.iconst 2, 1) := by decide +kernel
theorem dX12_takes_8 : decode cX12_takes 8 = .ok (.iaload, 1) := by decide +kernel
theorem dX12_takes_9 : decode cX12_takes 9 = .ok (.if_icmp .ge 106, 3) := by decide +kernel
theorem dX12_takes_12 : decode cX12_takes 12 = .ok (.aload_n 0, 1) := by decide +kernel
theorem dX12_takes_13 : decode cX12_takes 13 = .ok (.getfield 19, 3) := by decide +kernel
theorem dX12_takes_16 : decode cX12_takes 16 = .ok (.bipush 6, 2) := by decide +kernel
theorem dX12_takes_18 : decode cX12_takes 18 = .ok (.iload_n 2, 1) := by decide +kernel
theorem dX12_takes_19 : decode cX12_takes 19 = .ok (.imul, 1) := by decide +kernel
theorem dX12_takes_20 : decode cX12_takes 20 = .ok (.iaload, 1) := by decide +kernel
theorem dX12_takes_21 : decode cX12_takes 21 = .ok (.iload_n 1, 1) := by decide +kernel
theorem dX12_takes_22 : decode cX12_takes 22 = .ok (.if_icmp .ne 87, 3) := by decide +kernel
theorem dX12_takes_25 : decode cX12_takes 25 = .ok (.aload_n 0, 1) := by decide +kernel
theorem dX12_takes_26 : decode cX12_takes 26 = .ok (.getfield 19, 3) := by decide +kernel
theorem dX12_takes_29 : decode cX12_takes 29 = .ok (.bipush 6, 2) := by decide +kernel
theorem dX12_takes_31 : decode cX12_takes 31 = .ok (.iload_n 2, 1) := by decide +kernel
theorem dX12_takes_32 : decode cX12_takes 32 = .ok (.imul, 1) := by decide +kernel
theorem dX12_takes_33 : decode cX12_takes 33 = .ok (.iconst 3, 1) := by decide +kernel
theorem dX12_takes_34 : decode cX12_takes 34 = .ok (.iadd, 1) := by decide +kernel
theorem dX12_takes_35 : decode cX12_takes 35 = .ok (.iaload, 1) := by decide +kernel
theorem dX12_takes_36 : decode cX12_takes 36 = .ok (.ifCond .ge 73, 3) := by decide +kernel
theorem dX12_takes_39 : decode cX12_takes 39 = .ok (.aload_n 0, 1) := by decide +kernel
theorem dX12_takes_40 : decode cX12_takes 40 = .ok (.iload_n 1, 1) := by decide +kernel
theorem dX12_takes_41 : decode cX12_takes 41 = .ok (.iload_n 2, 1) := by decide +kernel
theorem dX12_takes_42 : decode cX12_takes 42 = .ok (.invokevirtual 216, 3) := by decide +kernel
theorem dX12_takes_45 : decode cX12_takes 45 = .ok (.istore_n 3, 1) := by decide +kernel
theorem dX12_takes_46 : decode cX12_takes 46 = .ok (.iload_n 3, 1) := by decide +kernel
theorem dX12_takes_47 : decode cX12_takes 47 = .ok (.ifCond .lt 62, 3) := by decide +kernel
theorem dX12_takes_50 : decode cX12_takes 50 = .ok (.aload_n 0, 1) := by decide +kernel
theorem dX12_takes_51 : decode cX12_takes 51 = .ok (.iload_n 3, 1) := by decide +kernel
theorem dX12_takes_52 : decode cX12_takes 52 = .ok (.invokevirtual 207, 3) := by decide +kernel
theorem dX12_takes_55 : decode cX12_takes 55 = .ok (.aload_n 0, 1) := by decide +kernel
theorem dX12_takes_56 : decode cX12_takes 56 = .ok (.iload_n 3, 1) := by decide +kernel
theorem dX12_takes_57 : decode cX12_takes 57 = .ok (.iconst 5, 1) := by decide +kernel
theorem dX12_takes_58 : decode cX12_takes 58 = .ok (.sipush 200, 3) := by decide +kernel
theorem dX12_takes_61 : decode cX12_takes 61 = .ok (.iload_n 2, 1) := by decide +kernel
theorem dX12_takes_62 : decode cX12_takes 62 = .ok (.iadd, 1) := by decide +kernel
theorem dX12_takes_63 : decode cX12_takes 63 = .ok (.invokevirtual 201, 3) := by decide +kernel
theorem dX12_takes_66 : decode cX12_takes 66 = .ok (.aload_n 0, 1) := by decide +kernel
theorem dX12_takes_67 : decode cX12_takes 67 = .ok (.iload_n 3, 1) := by decide +kernel
theorem dX12_takes_68 : decode cX12_takes 68 = .ok (.bipush 12, 2) := by decide +kernel
theorem dX12_takes_70 : decode cX12_takes 70 = .ok (.aload_n 0, 1) := by decide +kernel
theorem dX12_takes_71 : decode cX12_takes 71 = .ok (.iload_n 3, 1) := by decide +kernel
theorem dX12_takes_72 : decode cX12_takes 72 = .ok (.bipush 12, 2) := by decide +kernel
theorem dX12_takes_74 : decode cX12_takes 74 = .ok (.invokevirtual 84, 3) := by decide +kernel
theorem dX12_takes_77 : decode cX12_takes 77 = .ok (.iconst 1, 1) := by decide +kernel
theorem dX12_takes_78 : decode cX12_takes 78 = .ok (.iload_n 2, 1) := by decide +kernel
theorem dX12_takes_79 : decode cX12_takes 79 = .ok (.ishl, 1) := by decide +kernel
theorem dX12_takes_80 : decode cX12_takes 80 = .ok (.ior, 1) := by decide +kernel
theorem dX12_takes_81 : decode cX12_takes 81 = .ok (.invokevirtual 201, 3) := by decide +kernel
theorem dX12_takes_84 : decode cX12_takes 84 = .ok (.aload_n 0, 1) := by decide +kernel
theorem dX12_takes_85 : decode cX12_takes 85 = .ok (.iload_n 3, 1) := by decide +kernel
theorem dX12_takes_86 : decode cX12_takes 86 = .ok (.bipush 14, 2) := by decide +kernel
theorem dX12_takes_88 : decode cX12_takes 88 = .ok (.aload_n 0, 1) := by decide +kernel
theorem dX12_takes_89 : decode cX12_takes 89 = .ok (.getfield 7, 3) := by decide +kernel
theorem dX12_takes_92 : decode cX12_takes 92 = .ok (.iconst 0, 1) := by decide +kernel
theorem dX12_takes_93 : decode cX12_takes 93 = .ok (.iaload, 1) := by decide +kernel
theorem dX12_takes_94 : decode cX12_takes 94 = .ok (.invokevirtual 201, 3) := by decide +kernel
theorem dX12_takes_97 : decode cX12_takes 97 = .ok (.aload_n 0, 1) := by decide +kernel
theorem dX12_takes_98 : decode cX12_takes 98 = .ok (.getfield 19, 3) := by decide +kernel
theorem dX12_takes_101 : decode cX12_takes 101 = .ok (.bipush 6, 2) := by decide +kernel
theorem dX12_takes_103 : decode cX12_takes 103 = .ok (.iload_n 2, 1) := by decide +kernel
theorem dX12_takes_104 : decode cX12_takes 104 = .ok (.imul, 1) := by decide +kernel
theorem dX12_takes_105 : decode cX12_takes 105 = .ok (.iconst 3, 1) := by decide +kernel
theorem dX12_takes_106 : decode cX12_takes 106 = .ok (.iadd, 1) := by decide +kernel
theorem dX12_takes_107 : decode cX12_takes 107 = .ok (.iload_n 3, 1) := by decide +kernel
theorem dX12_takes_108 : decode cX12_takes 108 = .ok (.iastore, 1) := by decide +kernel
theorem dX12_takes_109 : decode cX12_takes 109 = .ok (.iinc 2 1, 3) := by decide +kernel
theorem dX12_takes_112 : decode cX12_takes 112 = .ok (.goto (-110), 3) := by decide +kernel
theorem dX12_takes_115 : decode cX12_takes 115 = .ok (.return_, 1) := by decide +kernel
theorem dX12_fails_0 : decode cX12_fails 0 = .ok (.iconst 0, 1) := by decide +kernel
theorem dX12_fails_1 : decode cX12_fails 1 = .ok (.istore_n 2, 1) := by decide +kernel
theorem dX12_fails_2 : decode cX12_fails 2 = .ok (.iload_n 2, 1) := by decide +kernel
theorem dX12_fails_3 : decode cX12_fails 3 = .ok (.aload_n 0, 1) := by decide +kernel
theorem dX12_fails_4 : decode cX12_fails 4 = .ok (.getfield 7, 3) := by decide +kernel
theorem dX12_fails_7 : decode cX12_fails 7 = .ok (.iconst 2, 1) := by decide +kernel
theorem dX12_fails_8 : decode cX12_fails 8 = .ok (.iaload, 1) := by decide +kernel
theorem dX12_fails_9 : decode cX12_fails 9 = .ok (.if_icmp .ge 79, 3) := by decide +kernel
theorem dX12_fails_12 : decode cX12_fails 12 = .ok (.aload_n 0, 1) := by decide +kernel
theorem dX12_fails_13 : decode cX12_fails 13 = .ok (.getfield 19, 3) := by decide +kernel
theorem dX12_fails_16 : decode cX12_fails 16 = .ok (.bipush 6, 2) := by decide +kernel
theorem dX12_fails_18 : decode cX12_fails 18 = .ok (.iload_n 2, 1) := by decide +kernel
theorem dX12_fails_19 : decode cX12_fails 19 = .ok (.imul, 1) := by decide +kernel
theorem dX12_fails_20 : decode cX12_fails 20 = .ok (.iconst 3, 1) := by decide +kernel
theorem dX12_fails_21 : decode cX12_fails 21 = .ok (.iadd, 1) := by decide +kernel
theorem dX12_fails_22 : decode cX12_fails 22 = .ok (.iaload, 1) := by decide +kernel
theorem dX12_fails_23 : decode cX12_fails 23 = .ok (.istore_n 3, 1) := by decide +kernel
theorem dX12_fails_24 : decode cX12_fails 24 = .ok (.aload_n 0, 1) := by decide +kernel
theorem dX12_fails_25 : decode cX12_fails 25 = .ok (.getfield 19, 3) := by decide +kernel
theorem dX12_fails_28 : decode cX12_fails 28 = .ok (.bipush 6, 2) := by decide +kernel
theorem dX12_fails_30 : decode cX12_fails 30 = .ok (.iload_n 2, 1) := by decide +kernel
theorem dX12_fails_31 : decode cX12_fails 31 = .ok (.imul, 1) := by decide +kernel
theorem dX12_fails_32 : decode cX12_fails 32 = .ok (.iaload, 1) := by decide +kernel
theorem dX12_fails_33 : decode cX12_fails 33 = .ok (.iload_n 1, 1) := by decide +kernel
theorem dX12_fails_34 : decode cX12_fails 34 = .ok (.if_icmp .ne 48, 3) := by decide +kernel
theorem dX12_fails_37 : decode cX12_fails 37 = .ok (.iload_n 3, 1) := by decide +kernel
theorem dX12_fails_38 : decode cX12_fails 38 = .ok (.ifCond .lt 44, 3) := by decide +kernel
theorem dX12_fails_41 : decode cX12_fails 41 = .ok (.aload_n 0, 1) := by decide +kernel
theorem dX12_fails_42 : decode cX12_fails 42 = .ok (.getfield 19, 3) := by decide +kernel
theorem dX12_fails_45 : decode cX12_fails 45 = .ok (.bipush 6, 2) := by decide +kernel
theorem dX12_fails_47 : decode cX12_fails 47 = .ok (.iload_n 2, 1) := by decide +kernel
theorem dX12_fails_48 : decode cX12_fails 48 = .ok (.imul, 1) := by decide +kernel
theorem dX12_fails_49 : decode cX12_fails 49 = .ok (.iconst 4, 1) := by decide +kernel
theorem dX12_fails_50 : decode cX12_fails 50 = .ok (.iadd, 1) := by decide +kernel
theorem dX12_fails_51 : decode cX12_fails 51 = .ok (.iaload, 1) := by decide +kernel
theorem dX12_fails_52 : decode cX12_fails 52 = .ok (.iconst 1, 1) := by decide +kernel
theorem dX12_fails_53 : decode cX12_fails 53 = .ok (.if_icmp .ne 29, 3) := by decide +kernel
theorem dX12_fails_56 : decode cX12_fails 56 = .ok (.aload_n 0, 1) := by decide +kernel
theorem dX12_fails_57 : decode cX12_fails 57 = .ok (.iload_n 2, 1) := by decide +kernel
theorem dX12_fails_58 : decode cX12_fails 58 = .ok (.iload_n 3, 1) := by decide +kernel
theorem dX12_fails_59 : decode cX12_fails 59 = .ok (.iconst 1, 1) := by decide +kernel
theorem dX12_fails_60 : decode cX12_fails 60 = .ok (.invokevirtual 111, 3) := by decide +kernel
theorem dX12_fails_63 : decode cX12_fails 63 = .ok (.aload_n 0, 1) := by decide +kernel
theorem dX12_fails_64 : decode cX12_fails 64 = .ok (.getfield 19, 3) := by decide +kernel
theorem dX12_fails_67 : decode cX12_fails 67 = .ok (.bipush 6, 2) := by decide +kernel
theorem dX12_fails_69 : decode cX12_fails 69 = .ok (.iload_n 2, 1) := by decide +kernel
theorem dX12_fails_70 : decode cX12_fails 70 = .ok (.imul, 1) := by decide +kernel
theorem dX12_fails_71 : decode cX12_fails 71 = .ok (.iconst 3, 1) := by decide +kernel
theorem dX12_fails_72 : decode cX12_fails 72 = .ok (.iadd, 1) := by decide +kernel
theorem dX12_fails_73 : decode cX12_fails 73 = .ok (.iconst (-1), 1) := by decide +kernel
theorem dX12_fails_74 : decode cX12_fails 74 = .ok (.iastore, 1) := by decide +kernel
theorem dX12_fails_75 : decode cX12_fails 75 = .ok (.aload_n 0, 1) := by decide +kernel
theorem dX12_fails_76 : decode cX12_fails 76 = .ok (.iload_n 3, 1) := by decide +kernel
theorem dX12_fails_77 : decode cX12_fails 77 = .ok (.iload_n 1, 1) := by decide +kernel
theorem dX12_fails_78 : decode cX12_fails 78 = .ok (.iconst 1, 1) := by decide +kernel
theorem dX12_fails_79 : decode cX12_fails 79 = .ok (.invokevirtual 204, 3) := by decide +kernel
theorem dX12_fails_82 : decode cX12_fails 82 = .ok (.iinc 2 1, 3) := by decide +kernel
theorem dX12_fails_85 : decode cX12_fails 85 = .ok (.goto (-83), 3) := by decide +kernel
theorem dX12_fails_88 : decode cX12_fails 88 = .ok (.return_, 1) := by decide +kernel
theorem dX12_askAll_0 : decode cX12_askAll 0 = .ok (.iconst 0, 1) := by decide +kernel
theorem dX12_askAll_1 : decode cX12_askAll 1 = .ok (.istore_n 2, 1) := by decide +kernel
theorem dX12_askAll_2 : decode cX12_askAll 2 = .ok (.iconst 0, 1) := by decide +kernel
theorem dX12_askAll_3 : decode cX12_askAll 3 = .ok (.istore_n 3, 1) := by decide +kernel
theorem dX12_askAll_4 : decode cX12_askAll 4 = .ok (.iload_n 3, 1) := by decide +kernel
theorem dX12_askAll_5 : decode cX12_askAll 5 = .ok (.aload_n 0, 1) := by decide +kernel
theorem dX12_askAll_6 : decode cX12_askAll 6 = .ok (.getfield 7, 3) := by decide +kernel
theorem dX12_askAll_9 : decode cX12_askAll 9 = .ok (.iconst 2, 1) := by decide +kernel
theorem dX12_askAll_10 : decode cX12_askAll 10 = .ok (.iaload, 1) := by decide +kernel
theorem dX12_askAll_11 : decode cX12_askAll 11 = .ok (.if_icmp .ge 171, 3) := by decide +kernel
theorem dX12_askAll_14 : decode cX12_askAll 14 = .ok (.aload_n 0, 1) := by decide +kernel
theorem dX12_askAll_15 : decode cX12_askAll 15 = .ok (.getfield 19, 3) := by decide +kernel
theorem dX12_askAll_18 : decode cX12_askAll 18 = .ok (.bipush 6, 2) := by decide +kernel
theorem dX12_askAll_20 : decode cX12_askAll 20 = .ok (.iload_n 3, 1) := by decide +kernel
theorem dX12_askAll_21 : decode cX12_askAll 21 = .ok (.imul, 1) := by decide +kernel
theorem dX12_askAll_22 : decode cX12_askAll 22 = .ok (.iconst 3, 1) := by decide +kernel
theorem dX12_askAll_23 : decode cX12_askAll 23 = .ok (.iadd, 1) := by decide +kernel
theorem dX12_askAll_24 : decode cX12_askAll 24 = .ok (.iaload, 1) := by decide +kernel
theorem dX12_askAll_25 : decode cX12_askAll 25 = .ok (.istore 4, 2) := by decide +kernel
theorem dX12_askAll_27 : decode cX12_askAll 27 = .ok (.aload_n 0, 1) := by decide +kernel
theorem dX12_askAll_28 : decode cX12_askAll 28 = .ok (.getfield 55, 3) := by decide +kernel
theorem dX12_askAll_31 : decode cX12_askAll 31 = .ok (.iload_n 3, 1) := by decide +kernel
theorem dX12_askAll_32 : decode cX12_askAll 32 = .ok (.iconst 0, 1) := by decide +kernel
theorem dX12_askAll_33 : decode cX12_askAll 33 = .ok (.iastore, 1) := by decide +kernel
theorem dX12_askAll_34 : decode cX12_askAll 34 = .ok (.aload_n 0, 1) := by decide +kernel
theorem dX12_askAll_35 : decode cX12_askAll 35 = .ok (.getfield 58, 3) := by decide +kernel
theorem dX12_askAll_38 : decode cX12_askAll 38 = .ok (.iload_n 3, 1) := by decide +kernel
theorem dX12_askAll_39 : decode cX12_askAll 39 = .ok (.iconst 0, 1) := by decide +kernel
theorem dX12_askAll_40 : decode cX12_askAll 40 = .ok (.iastore, 1) := by decide +kernel
theorem dX12_askAll_41 : decode cX12_askAll 41 = .ok (.aload_n 0, 1) := by decide +kernel
theorem dX12_askAll_42 : decode cX12_askAll 42 = .ok (.getfield 19, 3) := by decide +kernel
theorem dX12_askAll_45 : decode cX12_askAll 45 = .ok (.bipush 6, 2) := by decide +kernel
theorem dX12_askAll_47 : decode cX12_askAll 47 = .ok (.iload_n 3, 1) := by decide +kernel
theorem dX12_askAll_48 : decode cX12_askAll 48 = .ok (.imul, 1) := by decide +kernel
theorem dX12_askAll_49 : decode cX12_askAll 49 = .ok (.iaload, 1) := by decide +kernel
theorem dX12_askAll_50 : decode cX12_askAll 50 = .ok (.iload_n 1, 1) := by decide +kernel
theorem dX12_askAll_51 : decode cX12_askAll 51 = .ok (.if_icmp .ne 125, 3) := by decide +kernel
theorem dX12_askAll_54 : decode cX12_askAll 54 = .ok (.iload 4, 2) := by decide +kernel
theorem dX12_askAll_56 : decode cX12_askAll 56 = .ok (.ifCond .ge 6, 3) := by decide +kernel
theorem dX12_askAll_59 : decode cX12_askAll 59 = .ok (.goto 117, 3) := by decide +kernel
theorem dX12_askAll_62 : decode cX12_askAll 62 = .ok (.aload_n 0, 1) := by decide +kernel
theorem dX12_askAll_63 : decode cX12_askAll 63 = .ok (.iload 4, 2) := by decide +kernel
theorem dX12_askAll_65 : decode cX12_askAll 65 = .ok (.bipush 14, 2) := by decide +kernel
theorem dX12_askAll_67 : decode cX12_askAll 67 = .ok (.invokevirtual 84, 3) := by decide +kernel
theorem dX12_askAll_70 : decode cX12_askAll 70 = .ok (.aload_n 0, 1) := by decide +kernel
theorem dX12_askAll_71 : decode cX12_askAll 71 = .ok (.getfield 7, 3) := by decide +kernel
theorem dX12_askAll_74 : decode cX12_askAll 74 = .ok (.iconst 0, 1) := by decide +kernel
theorem dX12_askAll_75 : decode cX12_askAll 75 = .ok (.iaload, 1) := by decide +kernel
theorem dX12_askAll_76 : decode cX12_askAll 76 = .ok (.if_icmp .ne 11, 3) := by decide +kernel
theorem dX12_askAll_79 : decode cX12_askAll 79 = .ok (.aload_n 0, 1) := by decide +kernel
theorem dX12_askAll_80 : decode cX12_askAll 80 = .ok (.iload_n 3, 1) := by decide +kernel
theorem dX12_askAll_81 : decode cX12_askAll 81 = .ok (.iload 4, 2) := by decide +kernel
theorem dX12_askAll_83 : decode cX12_askAll 83 = .ok (.iconst 0, 1) := by decide +kernel
theorem dX12_askAll_84 : decode cX12_askAll 84 = .ok (.invokevirtual 111, 3) := by decide +kernel
theorem dX12_askAll_87 : decode cX12_askAll 87 = .ok (.aload_n 0, 1) := by decide +kernel
theorem dX12_askAll_88 : decode cX12_askAll 88 = .ok (.iload 4, 2) := by decide +kernel
theorem dX12_askAll_90 : decode cX12_askAll 90 = .ok (.bipush 6, 2) := by decide +kernel
theorem dX12_askAll_92 : decode cX12_askAll 92 = .ok (.invokevirtual 84, 3) := by decide +kernel
theorem dX12_askAll_95 : decode cX12_askAll 95 = .ok (.aload_n 0, 1) := by decide +kernel
theorem dX12_askAll_96 : decode cX12_askAll 96 = .ok (.iload 4, 2) := by decide +kernel
theorem dX12_askAll_98 : decode cX12_askAll 98 = .ok (.iconst 4, 1) := by decide +kernel
theorem dX12_askAll_99 : decode cX12_askAll 99 = .ok (.invokevirtual 84, 3) := by decide +kernel
theorem dX12_askAll_102 : decode cX12_askAll 102 = .ok (.isub, 1) := by decide +kernel
theorem dX12_askAll_103 : decode cX12_askAll 103 = .ok (.istore 5, 2) := by decide +kernel
theorem dX12_askAll_105 : decode cX12_askAll 105 = .ok (.aload_n 0, 1) := by decide +kernel
theorem dX12_askAll_106 : decode cX12_askAll 106 = .ok (.iload 4, 2) := by decide +kernel
theorem dX12_askAll_108 : decode cX12_askAll 108 = .ok (.iload_n 3, 1) := by decide +kernel
theorem dX12_askAll_109 : decode cX12_askAll 109 = .ok (.aload_n 0, 1) := by decide +kernel
theorem dX12_askAll_110 : decode cX12_askAll 110 = .ok (.iload 4, 2) := by decide +kernel
theorem dX12_askAll_112 : decode cX12_askAll 112 = .ok (.iconst 4, 1) := by decide +kernel
theorem dX12_askAll_113 : decode cX12_askAll 113 = .ok (.invokevirtual 84, 3) := by decide +kernel
theorem dX12_askAll_116 : decode cX12_askAll 116 = .ok (.invokevirtual 101, 3) := by decide +kernel
theorem dX12_askAll_119 : decode cX12_askAll 119 = .ok (.istore 6, 2) := by decide +kernel
theorem dX12_askAll_121 : decode cX12_askAll 121 = .ok (.aload_n 0, 1) := by decide +kernel
theorem dX12_askAll_122 : decode cX12_askAll 122 = .ok (.iload 4, 2) := by decide +kernel
theorem dX12_askAll_124 : decode cX12_askAll 124 = .ok (.bipush 15, 2) := by decide +kernel
theorem dX12_askAll_126 : decode cX12_askAll 126 = .ok (.iload 5, 2) := by decide +kernel
theorem dX12_askAll_128 : decode cX12_askAll 128 = .ok (.ifCond .ne 7, 3) := by decide +kernel
theorem dX12_askAll_131 : decode cX12_askAll 131 = .ok (.iconst 1, 1) := by decide +kernel
theorem dX12_askAll_132 : decode cX12_askAll 132 = .ok (.goto 4, 3) := by decide +kernel
theorem dX12_askAll_135 : decode cX12_askAll 135 = .ok (.iconst 0, 1) := by decide +kernel
theorem dX12_askAll_136 : decode cX12_askAll 136 = .ok (.invokevirtual 201, 3) := by decide +kernel
theorem dX12_askAll_139 : decode cX12_askAll 139 = .ok (.aload_n 0, 1) := by decide +kernel
theorem dX12_askAll_140 : decode cX12_askAll 140 = .ok (.getfield 55, 3) := by decide +kernel
theorem dX12_askAll_143 : decode cX12_askAll 143 = .ok (.iload_n 3, 1) := by decide +kernel
theorem dX12_askAll_144 : decode cX12_askAll 144 = .ok (.iload 6, 2) := by decide +kernel
theorem dX12_askAll_146 : decode cX12_askAll 146 = .ok (.iload 5, 2) := by decide +kernel
theorem dX12_askAll_148 : decode cX12_askAll 148 = .ok (.if_icmp .ge 8, 3) := by decide +kernel
theorem dX12_askAll_151 : decode cX12_askAll 151 = .ok (.iload 6, 2) := by decide +kernel
theorem dX12_askAll_153 : decode cX12_askAll 153 = .ok (.goto 5, 3) := by decide +kernel
theorem dX12_askAll_156 : decode cX12_askAll 156 = .ok (.iload 5, 2) := by decide +kernel
theorem dX12_askAll_158 : decode cX12_askAll 158 = .ok (.iastore, 1) := by decide +kernel
theorem dX12_askAll_159 : decode cX12_askAll 159 = .ok (.iload_n 2, 1) := by decide +kernel
theorem dX12_askAll_160 : decode cX12_askAll 160 = .ok (.aload_n 0, 1) := by decide +kernel
theorem dX12_askAll_161 : decode cX12_askAll 161 = .ok (.getfield 55, 3) := by decide +kernel
theorem dX12_askAll_164 : decode cX12_askAll 164 = .ok (.iload_n 3, 1) := by decide +kernel
theorem dX12_askAll_165 : decode cX12_askAll 165 = .ok (.iaload, 1) := by decide +kernel
theorem dX12_askAll_166 : decode cX12_askAll 166 = .ok (.ifCond .le 7, 3) := by decide +kernel
theorem dX12_askAll_169 : decode cX12_askAll 169 = .ok (.iconst 1, 1) := by decide +kernel
theorem dX12_askAll_170 : decode cX12_askAll 170 = .ok (.goto 4, 3) := by decide +kernel
theorem dX12_askAll_173 : decode cX12_askAll 173 = .ok (.iconst 0, 1) := by decide +kernel
theorem dX12_askAll_174 : decode cX12_askAll 174 = .ok (.iadd, 1) := by decide +kernel
theorem dX12_askAll_175 : decode cX12_askAll 175 = .ok (.istore_n 2, 1) := by decide +kernel
theorem dX12_askAll_176 : decode cX12_askAll 176 = .ok (.iinc 3 1, 3) := by decide +kernel
theorem dX12_askAll_179 : decode cX12_askAll 179 = .ok (.goto (-175), 3) := by decide +kernel
theorem dX12_askAll_182 : decode cX12_askAll 182 = .ok (.iload_n 2, 1) := by decide +kernel
theorem dX12_askAll_183 : decode cX12_askAll 183 = .ok (.ireturn, 1) := by decide +kernel
theorem dX12_even_0 : decode cX12_even 0 = .ok (.aload_n 0, 1) := by decide +kernel
theorem dX12_even_1 : decode cX12_even 1 = .ok (.getfield 13, 3) := by decide +kernel
theorem dX12_even_4 : decode cX12_even 4 = .ok (.bipush 9, 2) := by decide +kernel
theorem dX12_even_6 : decode cX12_even 6 = .ok (.iload_n 1, 1) := by decide +kernel
theorem dX12_even_7 : decode cX12_even 7 = .ok (.imul, 1) := by decide +kernel
theorem dX12_even_8 : decode cX12_even 8 = .ok (.iconst 1, 1) := by decide +kernel
theorem dX12_even_9 : decode cX12_even 9 = .ok (.iadd, 1) := by decide +kernel
theorem dX12_even_10 : decode cX12_even 10 = .ok (.iaload, 1) := by decide +kernel
theorem dX12_even_11 : decode cX12_even 11 = .ok (.istore_n 3, 1) := by decide +kernel
theorem dX12_even_12 : decode cX12_even 12 = .ok (.iload_n 2, 1) := by decide +kernel
theorem dX12_even_13 : decode cX12_even 13 = .ok (.istore 4, 2) := by decide +kernel
theorem dX12_even_15 : decode cX12_even 15 = .ok (.iconst 0, 1) := by decide +kernel
theorem dX12_even_16 : decode cX12_even 16 = .ok (.istore 5, 2) := by decide +kernel
theorem dX12_even_18 : decode cX12_even 18 = .ok (.iload 5, 2) := by decide +kernel
theorem dX12_even_20 : decode cX12_even 20 = .ok (.aload_n 0, 1) := by decide +kernel
theorem dX12_even_21 : decode cX12_even 21 = .ok (.getfield 7, 3) := by decide +kernel
theorem dX12_even_24 : decode cX12_even 24 = .ok (.iconst 2, 1) := by decide +kernel
theorem dX12_even_25 : decode cX12_even 25 = .ok (.iaload, 1) := by decide +kernel
theorem dX12_even_26 : decode cX12_even 26 = .ok (.if_icmp .ge 67, 3) := by decide +kernel
theorem dX12_even_29 : decode cX12_even 29 = .ok (.aload_n 0, 1) := by decide +kernel
theorem dX12_even_30 : decode cX12_even 30 = .ok (.getfield 55, 3) := by decide +kernel
theorem dX12_even_33 : decode cX12_even 33 = .ok (.iload 5, 2) := by decide +kernel
theorem dX12_even_35 : decode cX12_even 35 = .ok (.iaload, 1) := by decide +kernel
theorem dX12_even_36 : decode cX12_even 36 = .ok (.ifCond .le 51, 3) := by decide +kernel
theorem dX12_even_39 : decode cX12_even 39 = .ok (.aload_n 0, 1) := by decide +kernel
theorem dX12_even_40 : decode cX12_even 40 = .ok (.getfield 58, 3) := by decide +kernel
theorem dX12_even_43 : decode cX12_even 43 = .ok (.iload 5, 2) := by decide +kernel
theorem dX12_even_45 : decode cX12_even 45 = .ok (.aload_n 0, 1) := by decide +kernel
theorem dX12_even_46 : decode cX12_even 46 = .ok (.getfield 55, 3) := by decide +kernel
theorem dX12_even_49 : decode cX12_even 49 = .ok (.iload 5, 2) := by decide +kernel
theorem dX12_even_51 : decode cX12_even 51 = .ok (.iaload, 1) := by decide +kernel
theorem dX12_even_52 : decode cX12_even 52 = .ok (.iload_n 3, 1) := by decide +kernel
theorem dX12_even_53 : decode cX12_even 53 = .ok (.iload 4, 2) := by decide +kernel
theorem dX12_even_55 : decode cX12_even 55 = .ok (.idiv, 1) := by decide +kernel
theorem dX12_even_56 : decode cX12_even 56 = .ok (.if_icmp .ge 13, 3) := by decide +kernel
theorem dX12_even_59 : decode cX12_even 59 = .ok (.aload_n 0, 1) := by decide +kernel
theorem dX12_even_60 : decode cX12_even 60 = .ok (.getfield 55, 3) := by decide +kernel
theorem dX12_even_63 : decode cX12_even 63 = .ok (.iload 5, 2) := by decide +kernel
theorem dX12_even_65 : decode cX12_even 65 = .ok (.iaload, 1) := by decide +kernel
theorem dX12_even_66 : decode cX12_even 66 = .ok (.goto 7, 3) := by decide +kernel
theorem dX12_even_69 : decode cX12_even 69 = .ok (.iload_n 3, 1) := by decide +kernel
theorem dX12_even_70 : decode cX12_even 70 = .ok (.iload 4, 2) := by decide +kernel
theorem dX12_even_72 : decode cX12_even 72 = .ok (.idiv, 1) := by decide +kernel
theorem dX12_even_73 : decode cX12_even 73 = .ok (.iastore, 1) := by decide +kernel
theorem dX12_even_74 : decode cX12_even 74 = .ok (.iload_n 3, 1) := by decide +kernel
theorem dX12_even_75 : decode cX12_even 75 = .ok (.aload_n 0, 1) := by decide +kernel
theorem dX12_even_76 : decode cX12_even 76 = .ok (.getfield 58, 3) := by decide +kernel
theorem dX12_even_79 : decode cX12_even 79 = .ok (.iload 5, 2) := by decide +kernel
theorem dX12_even_81 : decode cX12_even 81 = .ok (.iaload, 1) := by decide +kernel
theorem dX12_even_82 : decode cX12_even 82 = .ok (.isub, 1) := by decide +kernel
theorem dX12_even_83 : decode cX12_even 83 = .ok (.istore_n 3, 1) := by decide +kernel
theorem dX12_even_84 : decode cX12_even 84 = .ok (.iinc 4 (-1), 3) := by decide +kernel
theorem dX12_even_87 : decode cX12_even 87 = .ok (.iinc 5 1, 3) := by decide +kernel
theorem dX12_even_90 : decode cX12_even 90 = .ok (.goto (-72), 3) := by decide +kernel
theorem dX12_even_93 : decode cX12_even 93 = .ok (.iconst 1, 1) := by decide +kernel
theorem dX12_even_94 : decode cX12_even 94 = .ok (.istore 5, 2) := by decide +kernel
theorem dX12_even_96 : decode cX12_even 96 = .ok (.iload_n 3, 1) := by decide +kernel
theorem dX12_even_97 : decode cX12_even 97 = .ok (.ifCond .le 72, 3) := by decide +kernel
theorem dX12_even_100 : decode cX12_even 100 = .ok (.iload 5, 2) := by decide +kernel
theorem dX12_even_102 : decode cX12_even 102 = .ok (.ifCond .eq 67, 3) := by decide +kernel
theorem dX12_even_105 : decode cX12_even 105 = .ok (.iconst 0, 1) := by decide +kernel
theorem dX12_even_106 : decode cX12_even 106 = .ok (.istore 5, 2) := by decide +kernel
theorem dX12_even_108 : decode cX12_even 108 = .ok (.iconst 0, 1) := by decide +kernel
theorem dX12_even_109 : decode cX12_even 109 = .ok (.istore 6, 2) := by decide +kernel
theorem dX12_even_111 : decode cX12_even 111 = .ok (.iload 6, 2) := by decide +kernel
theorem dX12_even_113 : decode cX12_even 113 = .ok (.aload_n 0, 1) := by decide +kernel
theorem dX12_even_114 : decode cX12_even 114 = .ok (.getfield 7, 3) := by decide +kernel
theorem dX12_even_117 : decode cX12_even 117 = .ok (.iconst 2, 1) := by decide +kernel
theorem dX12_even_118 : decode cX12_even 118 = .ok (.iaload, 1) := by decide +kernel
theorem dX12_even_119 : decode cX12_even 119 = .ok (.if_icmp .ge 47, 3) := by decide +kernel
theorem dX12_even_122 : decode cX12_even 122 = .ok (.iload_n 3, 1) := by decide +kernel
theorem dX12_even_123 : decode cX12_even 123 = .ok (.ifCond .le 37, 3) := by decide +kernel
theorem dX12_even_126 : decode cX12_even 126 = .ok (.aload_n 0, 1) := by decide +kernel
theorem dX12_even_127 : decode cX12_even 127 = .ok (.getfield 58, 3) := by decide +kernel
theorem dX12_even_130 : decode cX12_even 130 = .ok (.iload 6, 2) := by decide +kernel
theorem dX12_even_132 : decode cX12_even 132 = .ok (.iaload, 1) := by decide +kernel
theorem dX12_even_133 : decode cX12_even 133 = .ok (.aload_n 0, 1) := by decide +kernel
theorem dX12_even_134 : decode cX12_even 134 = .ok (.getfield 55, 3) := by decide +kernel
theorem dX12_even_137 : decode cX12_even 137 = .ok (.iload 6, 2) := by decide +kernel
theorem dX12_even_139 : decode cX12_even 139 = .ok (.iaload, 1) := by decide +kernel
theorem dX12_even_140 : decode cX12_even 140 = .ok (.if_icmp .ge 20, 3) := by decide +kernel
theorem dX12_even_143 : decode cX12_even 143 = .ok (.aload_n 0, 1) := by decide +kernel
theorem dX12_even_144 : decode cX12_even 144 = .ok (.getfield 58, 3) := by decide +kernel
theorem dX12_even_147 : decode cX12_even 147 = .ok (.iload 6, 2) := by decide +kernel
theorem dX12_even_149 : decode cX12_even 149 = .ok (.dup2, 1) := by decide +kernel
theorem dX12_even_150 : decode cX12_even 150 = .ok (.iaload, 1) := by decide +kernel
theorem dX12_even_151 : decode cX12_even 151 = .ok (.iconst 1, 1) := by decide +kernel
theorem dX12_even_152 : decode cX12_even 152 = .ok (.iadd, 1) := by decide +kernel
theorem dX12_even_153 : decode cX12_even 153 = .ok (.iastore, 1) := by decide +kernel
theorem dX12_even_154 : decode cX12_even 154 = .ok (.iinc 3 (-1), 3) := by decide +kernel
theorem dX12_even_157 : decode cX12_even 157 = .ok (.iconst 1, 1) := by decide +kernel
theorem dX12_even_158 : decode cX12_even 158 = .ok (.istore 5, 2) := by decide +kernel
theorem dX12_even_160 : decode cX12_even 160 = .ok (.iinc 6 1, 3) := by decide +kernel
theorem dX12_even_163 : decode cX12_even 163 = .ok (.goto (-52), 3) := by decide +kernel
theorem dX12_even_166 : decode cX12_even 166 = .ok (.goto (-70), 3) := by decide +kernel
theorem dX12_even_169 : decode cX12_even 169 = .ok (.return_, 1) := by decide +kernel
theorem dX12_first_0 : decode cX12_first 0 = .ok (.aload_n 0, 1) := by decide +kernel
theorem dX12_first_1 : decode cX12_first 1 = .ok (.getfield 13, 3) := by decide +kernel
theorem dX12_first_4 : decode cX12_first 4 = .ok (.bipush 9, 2) := by decide +kernel
theorem dX12_first_6 : decode cX12_first 6 = .ok (.iload_n 1, 1) := by decide +kernel
theorem dX12_first_7 : decode cX12_first 7 = .ok (.imul, 1) := by decide +kernel
theorem dX12_first_8 : decode cX12_first 8 = .ok (.iconst 1, 1) := by decide +kernel
theorem dX12_first_9 : decode cX12_first 9 = .ok (.iadd, 1) := by decide +kernel
theorem dX12_first_10 : decode cX12_first 10 = .ok (.iaload, 1) := by decide +kernel
theorem dX12_first_11 : decode cX12_first 11 = .ok (.istore_n 3, 1) := by decide +kernel
theorem dX12_first_12 : decode cX12_first 12 = .ok (.iconst 0, 1) := by decide +kernel
theorem dX12_first_13 : decode cX12_first 13 = .ok (.istore 4, 2) := by decide +kernel
theorem dX12_first_15 : decode cX12_first 15 = .ok (.iconst 0, 1) := by decide +kernel
theorem dX12_first_16 : decode cX12_first 16 = .ok (.istore 5, 2) := by decide +kernel
theorem dX12_first_18 : decode cX12_first 18 = .ok (.iload 5, 2) := by decide +kernel
theorem dX12_first_20 : decode cX12_first 20 = .ok (.iload_n 2, 1) := by decide +kernel
theorem dX12_first_21 : decode cX12_first 21 = .ok (.if_icmp .ge 153, 3) := by decide +kernel
theorem dX12_first_24 : decode cX12_first 24 = .ok (.iconst (-1), 1) := by decide +kernel
theorem dX12_first_25 : decode cX12_first 25 = .ok (.istore 6, 2) := by decide +kernel
theorem dX12_first_27 : decode cX12_first 27 = .ok (.iconst 0, 1) := by decide +kernel
theorem dX12_first_28 : decode cX12_first 28 = .ok (.istore 7, 2) := by decide +kernel
theorem dX12_first_30 : decode cX12_first 30 = .ok (.iload 7, 2) := by decide +kernel
theorem dX12_first_32 : decode cX12_first 32 = .ok (.aload_n 0, 1) := by decide +kernel
theorem dX12_first_33 : decode cX12_first 33 = .ok (.getfield 7, 3) := by decide +kernel
theorem dX12_first_36 : decode cX12_first 36 = .ok (.iconst 2, 1) := by decide +kernel
theorem dX12_first_37 : decode cX12_first 37 = .ok (.iaload, 1) := by decide +kernel
theorem dX12_first_38 : decode cX12_first 38 = .ok (.if_icmp .ge 82, 3) := by decide +kernel
theorem dX12_first_41 : decode cX12_first 41 = .ok (.aload_n 0, 1) := by decide +kernel
theorem dX12_first_42 : decode cX12_first 42 = .ok (.getfield 55, 3) := by decide +kernel
theorem dX12_first_45 : decode cX12_first 45 = .ok (.iload 7, 2) := by decide +kernel
theorem dX12_first_47 : decode cX12_first 47 = .ok (.iaload, 1) := by decide +kernel
theorem dX12_first_48 : decode cX12_first 48 = .ok (.ifCond .le 66, 3) := by decide +kernel
theorem dX12_first_51 : decode cX12_first 51 = .ok (.iload 4, 2) := by decide +kernel
theorem dX12_first_53 : decode cX12_first 53 = .ok (.iload 7, 2) := by decide +kernel
theorem dX12_first_55 : decode cX12_first 55 = .ok (.ishr, 1) := by decide +kernel
theorem dX12_first_56 : decode cX12_first 56 = .ok (.iconst 1, 1) := by decide +kernel
theorem dX12_first_57 : decode cX12_first 57 = .ok (.iand, 1) := by decide +kernel
theorem dX12_first_58 : decode cX12_first 58 = .ok (.ifCond .ne 56, 3) := by decide +kernel
theorem dX12_first_61 : decode cX12_first 61 = .ok (.iload 6, 2) := by decide +kernel
theorem dX12_first_63 : decode cX12_first 63 = .ok (.ifCond .lt 42, 3) := by decide +kernel
theorem dX12_first_66 : decode cX12_first 66 = .ok (.aload_n 0, 1) := by decide +kernel
theorem dX12_first_67 : decode cX12_first 67 = .ok (.aload_n 0, 1) := by decide +kernel
theorem dX12_first_68 : decode cX12_first 68 = .ok (.getfield 19, 3) := by decide +kernel
theorem dX12_first_71 : decode cX12_first 71 = .ok (.bipush 6, 2) := by decide +kernel
theorem dX12_first_73 : decode cX12_first 73 = .ok (.iload 7, 2) := by decide +kernel
theorem dX12_first_75 : decode cX12_first 75 = .ok (.imul, 1) := by decide +kernel
theorem dX12_first_76 : decode cX12_first 76 = .ok (.iconst 3, 1) := by decide +kernel
theorem dX12_first_77 : decode cX12_first 77 = .ok (.iadd, 1) := by decide +kernel
theorem dX12_first_78 : decode cX12_first 78 = .ok (.iaload, 1) := by decide +kernel
theorem dX12_first_79 : decode cX12_first 79 = .ok (.bipush 14, 2) := by decide +kernel
theorem dX12_first_81 : decode cX12_first 81 = .ok (.invokevirtual 84, 3) := by decide +kernel
theorem dX12_first_84 : decode cX12_first 84 = .ok (.aload_n 0, 1) := by decide +kernel
theorem dX12_first_85 : decode cX12_first 85 = .ok (.aload_n 0, 1) := by decide +kernel
theorem dX12_first_86 : decode cX12_first 86 = .ok (.getfield 19, 3) := by decide +kernel
theorem dX12_first_89 : decode cX12_first 89 = .ok (.bipush 6, 2) := by decide +kernel
theorem dX12_first_91 : decode cX12_first 91 = .ok (.iload 6, 2) := by decide +kernel
theorem dX12_first_93 : decode cX12_first 93 = .ok (.imul, 1) := by decide +kernel
theorem dX12_first_94 : decode cX12_first 94 = .ok (.iconst 3, 1) := by decide +kernel
theorem dX12_first_95 : decode cX12_first 95 = .ok (.iadd, 1) := by decide +kernel
theorem dX12_first_96 : decode cX12_first 96 = .ok (.iaload, 1) := by decide +kernel
theorem dX12_first_97 : decode cX12_first 97 = .ok (.bipush 14, 2) := by decide +kernel
theorem dX12_first_99 : decode cX12_first 99 = .ok (.invokevirtual 84, 3) := by decide +kernel
theorem dX12_first_102 : decode cX12_first 102 = .ok (.if_icmp .ge 8, 3) := by decide +kernel
theorem dX12_first_105 : decode cX12_first 105 = .ok (.iload 7, 2) := by decide +kernel
theorem dX12_first_107 : decode cX12_first 107 = .ok (.goto 5, 3) := by decide +kernel
theorem dX12_first_110 : decode cX12_first 110 = .ok (.iload 6, 2) := by decide +kernel
theorem dX12_first_112 : decode cX12_first 112 = .ok (.istore 6, 2) := by decide +kernel
theorem dX12_first_114 : decode cX12_first 114 = .ok (.iinc 7 1, 3) := by decide +kernel
theorem dX12_first_117 : decode cX12_first 117 = .ok (.goto (-87), 3) := by decide +kernel
theorem dX12_first_120 : decode cX12_first 120 = .ok (.aload_n 0, 1) := by decide +kernel
theorem dX12_first_121 : decode cX12_first 121 = .ok (.getfield 58, 3) := by decide +kernel
theorem dX12_first_124 : decode cX12_first 124 = .ok (.iload 6, 2) := by decide +kernel
theorem dX12_first_126 : decode cX12_first 126 = .ok (.aload_n 0, 1) := by decide +kernel
theorem dX12_first_127 : decode cX12_first 127 = .ok (.getfield 55, 3) := by decide +kernel
theorem dX12_first_130 : decode cX12_first 130 = .ok (.iload 6, 2) := by decide +kernel
theorem dX12_first_132 : decode cX12_first 132 = .ok (.iaload, 1) := by decide +kernel
theorem dX12_first_133 : decode cX12_first 133 = .ok (.iload_n 3, 1) := by decide +kernel
theorem dX12_first_134 : decode cX12_first 134 = .ok (.if_icmp .ge 13, 3) := by decide +kernel
theorem dX12_first_137 : decode cX12_first 137 = .ok (.aload_n 0, 1) := by decide +kernel
theorem dX12_first_138 : decode cX12_first 138 = .ok (.getfield 55, 3) := by decide +kernel
theorem dX12_first_141 : decode cX12_first 141 = .ok (.iload 6, 2) := by decide +kernel
theorem dX12_first_143 : decode cX12_first 143 = .ok (.iaload, 1) := by decide +kernel
theorem dX12_first_144 : decode cX12_first 144 = .ok (.goto 4, 3) := by decide +kernel
theorem dX12_first_147 : decode cX12_first 147 = .ok (.iload_n 3, 1) := by decide +kernel
theorem dX12_first_148 : decode cX12_first 148 = .ok (.iastore, 1) := by decide +kernel
theorem dX12_first_149 : decode cX12_first 149 = .ok (.iload_n 3, 1) := by decide +kernel
theorem dX12_first_150 : decode cX12_first 150 = .ok (.aload_n 0, 1) := by decide +kernel
theorem dX12_first_151 : decode cX12_first 151 = .ok (.getfield 58, 3) := by decide +kernel
theorem dX12_first_154 : decode cX12_first 154 = .ok (.iload 6, 2) := by decide +kernel
theorem dX12_first_156 : decode cX12_first 156 = .ok (.iaload, 1) := by decide +kernel
theorem dX12_first_157 : decode cX12_first 157 = .ok (.isub, 1) := by decide +kernel
theorem dX12_first_158 : decode cX12_first 158 = .ok (.istore_n 3, 1) := by decide +kernel
theorem dX12_first_159 : decode cX12_first 159 = .ok (.iload 4, 2) := by decide +kernel
theorem dX12_first_161 : decode cX12_first 161 = .ok (.iconst 1, 1) := by decide +kernel
theorem dX12_first_162 : decode cX12_first 162 = .ok (.iload 6, 2) := by decide +kernel
theorem dX12_first_164 : decode cX12_first 164 = .ok (.ishl, 1) := by decide +kernel
theorem dX12_first_165 : decode cX12_first 165 = .ok (.ior, 1) := by decide +kernel
theorem dX12_first_166 : decode cX12_first 166 = .ok (.istore 4, 2) := by decide +kernel
theorem dX12_first_168 : decode cX12_first 168 = .ok (.iinc 5 1, 3) := by decide +kernel
theorem dX12_first_171 : decode cX12_first 171 = .ok (.goto (-153), 3) := by decide +kernel
theorem dX12_first_174 : decode cX12_first 174 = .ok (.return_, 1) := by decide +kernel
theorem dX12_isWaitedFor_0 : decode cX12_isWaitedFor 0 = .ok (.iconst 0, 1) := by decide +kernel
theorem dX12_isWaitedFor_1 : decode cX12_isWaitedFor 1 = .ok (.istore_n 3, 1) := by decide +kernel
theorem dX12_isWaitedFor_2 : decode cX12_isWaitedFor 2 = .ok (.iconst 0, 1) := by decide +kernel
theorem dX12_isWaitedFor_3 : decode cX12_isWaitedFor 3 = .ok (.istore 4, 2) := by decide +kernel
theorem dX12_isWaitedFor_5 : decode cX12_isWaitedFor 5 = .ok (.iload 4, 2) := by decide +kernel
theorem dX12_isWaitedFor_7 : decode cX12_isWaitedFor 7 = .ok (.aload_n 0, 1) := by decide +kernel
theorem dX12_isWaitedFor_8 : decode cX12_isWaitedFor 8 = .ok (.getfield 13, 3) := by decide +kernel
theorem dX12_isWaitedFor_11 : decode cX12_isWaitedFor 11 = .ok (.bipush 9, 2) := by decide +kernel
theorem dX12_isWaitedFor_13 : decode cX12_isWaitedFor 13 = .ok (.iload_n 1, 1) := by decide +kernel
theorem dX12_isWaitedFor_14 : decode cX12_isWaitedFor 14 = .ok (.imul, 1) := by decide +kernel
theorem dX12_isWaitedFor_15 : decode cX12_isWaitedFor 15 = .ok (.bipush 6, 2) := by decide +kernel
theorem dX12_isWaitedFor_17 : decode cX12_isWaitedFor 17 = .ok (.iadd, 1) := by decide +kernel
theorem dX12_isWaitedFor_18 : decode cX12_isWaitedFor 18 = .ok (.iaload, 1) := by decide +kernel
theorem dX12_isWaitedFor_19 : decode cX12_isWaitedFor 19 = .ok (.if_icmp .ge 40, 3) := by decide +kernel
theorem dX12_isWaitedFor_22 : decode cX12_isWaitedFor 22 = .ok (.iload_n 3, 1) := by decide +kernel
theorem dX12_isWaitedFor_23 : decode cX12_isWaitedFor 23 = .ok (.ifCond .ne 24, 3) := by decide +kernel
theorem dX12_isWaitedFor_26 : decode cX12_isWaitedFor 26 = .ok (.aload_n 0, 1) := by decide +kernel
theorem dX12_isWaitedFor_27 : decode cX12_isWaitedFor 27 = .ok (.aload_n 0, 1) := by decide +kernel
theorem dX12_isWaitedFor_28 : decode cX12_isWaitedFor 28 = .ok (.getfield 16, 3) := by decide +kernel
theorem dX12_isWaitedFor_31 : decode cX12_isWaitedFor 31 = .ok (.bipush 12, 2) := by decide +kernel
theorem dX12_isWaitedFor_33 : decode cX12_isWaitedFor 33 = .ok (.iload_n 1, 1) := by decide +kernel
theorem dX12_isWaitedFor_34 : decode cX12_isWaitedFor 34 = .ok (.imul, 1) := by decide +kernel
theorem dX12_isWaitedFor_35 : decode cX12_isWaitedFor 35 = .ok (.iload 4, 2) := by decide +kernel
theorem dX12_isWaitedFor_37 : decode cX12_isWaitedFor 37 = .ok (.iadd, 1) := by decide +kernel
theorem dX12_isWaitedFor_38 : decode cX12_isWaitedFor 38 = .ok (.iaload, 1) := by decide +kernel
theorem dX12_isWaitedFor_39 : decode cX12_isWaitedFor 39 = .ok (.iconst 3, 1) := by decide +kernel
theorem dX12_isWaitedFor_40 : decode cX12_isWaitedFor 40 = .ok (.invokevirtual 84, 3) := by decide +kernel
theorem dX12_isWaitedFor_43 : decode cX12_isWaitedFor 43 = .ok (.iload_n 2, 1) := by decide +kernel
theorem dX12_isWaitedFor_44 : decode cX12_isWaitedFor 44 = .ok (.if_icmp .ne 7, 3) := by decide +kernel
theorem dX12_isWaitedFor_47 : decode cX12_isWaitedFor 47 = .ok (.iconst 1, 1) := by decide +kernel
theorem dX12_isWaitedFor_48 : decode cX12_isWaitedFor 48 = .ok (.goto 4, 3) := by decide +kernel
theorem dX12_isWaitedFor_51 : decode cX12_isWaitedFor 51 = .ok (.iconst 0, 1) := by decide +kernel
theorem dX12_isWaitedFor_52 : decode cX12_isWaitedFor 52 = .ok (.istore_n 3, 1) := by decide +kernel
theorem dX12_isWaitedFor_53 : decode cX12_isWaitedFor 53 = .ok (.iinc 4 1, 3) := by decide +kernel
theorem dX12_isWaitedFor_56 : decode cX12_isWaitedFor 56 = .ok (.goto (-51), 3) := by decide +kernel
theorem dX12_isWaitedFor_59 : decode cX12_isWaitedFor 59 = .ok (.iload_n 3, 1) := by decide +kernel
theorem dX12_isWaitedFor_60 : decode cX12_isWaitedFor 60 = .ok (.ireturn, 1) := by decide +kernel
theorem dX12_ends_0 : decode cX12_ends 0 = .ok (.iconst 0, 1) := by decide +kernel
theorem dX12_ends_1 : decode cX12_ends 1 = .ok (.istore_n 2, 1) := by decide +kernel
theorem dX12_ends_2 : decode cX12_ends 2 = .ok (.iload_n 2, 1) := by decide +kernel
theorem dX12_ends_3 : decode cX12_ends 3 = .ok (.aload_n 0, 1) := by decide +kernel
theorem dX12_ends_4 : decode cX12_ends 4 = .ok (.getfield 7, 3) := by decide +kernel
theorem dX12_ends_7 : decode cX12_ends 7 = .ok (.iconst 2, 1) := by decide +kernel
theorem dX12_ends_8 : decode cX12_ends 8 = .ok (.iaload, 1) := by decide +kernel
theorem dX12_ends_9 : decode cX12_ends 9 = .ok (.if_icmp .ge 127, 3) := by decide +kernel
theorem dX12_ends_12 : decode cX12_ends 12 = .ok (.aload_n 0, 1) := by decide +kernel
theorem dX12_ends_13 : decode cX12_ends 13 = .ok (.getfield 19, 3) := by decide +kernel
theorem dX12_ends_16 : decode cX12_ends 16 = .ok (.bipush 6, 2) := by decide +kernel
theorem dX12_ends_18 : decode cX12_ends 18 = .ok (.iload_n 2, 1) := by decide +kernel
theorem dX12_ends_19 : decode cX12_ends 19 = .ok (.imul, 1) := by decide +kernel
theorem dX12_ends_20 : decode cX12_ends 20 = .ok (.iconst 3, 1) := by decide +kernel
theorem dX12_ends_21 : decode cX12_ends 21 = .ok (.iadd, 1) := by decide +kernel
theorem dX12_ends_22 : decode cX12_ends 22 = .ok (.iaload, 1) := by decide +kernel
theorem dX12_ends_23 : decode cX12_ends 23 = .ok (.istore_n 3, 1) := by decide +kernel
theorem dX12_ends_24 : decode cX12_ends 24 = .ok (.aload_n 0, 1) := by decide +kernel
theorem dX12_ends_25 : decode cX12_ends 25 = .ok (.getfield 19, 3) := by decide +kernel
theorem dX12_ends_28 : decode cX12_ends 28 = .ok (.bipush 6, 2) := by decide +kernel
theorem dX12_ends_30 : decode cX12_ends 30 = .ok (.iload_n 2, 1) := by decide +kernel
theorem dX12_ends_31 : decode cX12_ends 31 = .ok (.imul, 1) := by decide +kernel
theorem dX12_ends_32 : decode cX12_ends 32 = .ok (.iaload, 1) := by decide +kernel
theorem dX12_ends_33 : decode cX12_ends 33 = .ok (.iload_n 1, 1) := by decide +kernel
theorem dX12_ends_34 : decode cX12_ends 34 = .ok (.if_icmp .ne 96, 3) := by decide +kernel
theorem dX12_ends_37 : decode cX12_ends 37 = .ok (.iload_n 3, 1) := by decide +kernel
theorem dX12_ends_38 : decode cX12_ends 38 = .ok (.ifCond .ge 6, 3) := by decide +kernel
theorem dX12_ends_41 : decode cX12_ends 41 = .ok (.goto 89, 3) := by decide +kernel
theorem dX12_ends_44 : decode cX12_ends 44 = .ok (.bipush 100, 2) := by decide +kernel
theorem dX12_ends_46 : decode cX12_ends 46 = .ok (.aload_n 0, 1) := by decide +kernel
theorem dX12_ends_47 : decode cX12_ends 47 = .ok (.iload_n 3, 1) := by decide +kernel
theorem dX12_ends_48 : decode cX12_ends 48 = .ok (.iconst 4, 1) := by decide +kernel
theorem dX12_ends_49 : decode cX12_ends 49 = .ok (.invokevirtual 84, 3) := by decide +kernel
theorem dX12_ends_52 : decode cX12_ends 52 = .ok (.imul, 1) := by decide +kernel
theorem dX12_ends_53 : decode cX12_ends 53 = .ok (.aload_n 0, 1) := by decide +kernel
theorem dX12_ends_54 : decode cX12_ends 54 = .ok (.getfield 13, 3) := by decide +kernel
theorem dX12_ends_57 : decode cX12_ends 57 = .ok (.bipush 9, 2) := by decide +kernel
theorem dX12_ends_59 : decode cX12_ends 59 = .ok (.iload_n 1, 1) := by decide +kernel
theorem dX12_ends_60 : decode cX12_ends 60 = .ok (.imul, 1) := by decide +kernel
theorem dX12_ends_61 : decode cX12_ends 61 = .ok (.iconst 3, 1) := by decide +kernel
theorem dX12_ends_62 : decode cX12_ends 62 = .ok (.iadd, 1) := by decide +kernel
theorem dX12_ends_63 : decode cX12_ends 63 = .ok (.iaload, 1) := by decide +kernel
theorem dX12_ends_64 : decode cX12_ends 64 = .ok (.aload_n 0, 1) := by decide +kernel
theorem dX12_ends_65 : decode cX12_ends 65 = .ok (.iload_n 3, 1) := by decide +kernel
theorem dX12_ends_66 : decode cX12_ends 66 = .ok (.iconst 0, 1) := by decide +kernel
theorem dX12_ends_67 : decode cX12_ends 67 = .ok (.invokevirtual 84, 3) := by decide +kernel
theorem dX12_ends_70 : decode cX12_ends 70 = .ok (.imul, 1) := by decide +kernel
theorem dX12_ends_71 : decode cX12_ends 71 = .ok (.if_icmp .lt 7, 3) := by decide +kernel
theorem dX12_ends_74 : decode cX12_ends 74 = .ok (.iconst 1, 1) := by decide +kernel
theorem dX12_ends_75 : decode cX12_ends 75 = .ok (.goto 4, 3) := by decide +kernel
theorem dX12_ends_78 : decode cX12_ends 78 = .ok (.iconst 0, 1) := by decide +kernel
theorem dX12_ends_79 : decode cX12_ends 79 = .ok (.istore 4, 2) := by decide +kernel
theorem dX12_ends_81 : decode cX12_ends 81 = .ok (.iload 4, 2) := by decide +kernel
theorem dX12_ends_83 : decode cX12_ends 83 = .ok (.ifCond .eq 25, 3) := by decide +kernel
theorem dX12_ends_86 : decode cX12_ends 86 = .ok (.aload_n 0, 1) := by decide +kernel
theorem dX12_ends_87 : decode cX12_ends 87 = .ok (.iload_n 1, 1) := by decide +kernel
theorem dX12_ends_88 : decode cX12_ends 88 = .ok (.aload_n 0, 1) := by decide +kernel
theorem dX12_ends_89 : decode cX12_ends 89 = .ok (.iload_n 3, 1) := by decide +kernel
theorem dX12_ends_90 : decode cX12_ends 90 = .ok (.iconst 3, 1) := by decide +kernel
theorem dX12_ends_91 : decode cX12_ends 91 = .ok (.invokevirtual 84, 3) := by decide +kernel
theorem dX12_ends_94 : decode cX12_ends 94 = .ok (.invokevirtual 219, 3) := by decide +kernel
theorem dX12_ends_97 : decode cX12_ends 97 = .ok (.ifCond .eq 11, 3) := by decide +kernel
theorem dX12_ends_100 : decode cX12_ends 100 = .ok (.aload_n 0, 1) := by decide +kernel
theorem dX12_ends_101 : decode cX12_ends 101 = .ok (.iload_n 3, 1) := by decide +kernel
theorem dX12_ends_102 : decode cX12_ends 102 = .ok (.invokevirtual 210, 3) := by decide +kernel
theorem dX12_ends_105 : decode cX12_ends 105 = .ok (.goto 25, 3) := by decide +kernel
theorem dX12_ends_108 : decode cX12_ends 108 = .ok (.aload_n 0, 1) := by decide +kernel
theorem dX12_ends_109 : decode cX12_ends 109 = .ok (.iload_n 3, 1) := by decide +kernel
theorem dX12_ends_110 : decode cX12_ends 110 = .ok (.iconst 4, 1) := by decide +kernel
theorem dX12_ends_111 : decode cX12_ends 111 = .ok (.invokevirtual 84, 3) := by decide +kernel
theorem dX12_ends_114 : decode cX12_ends 114 = .ok (.aload_n 0, 1) := by decide +kernel
theorem dX12_ends_115 : decode cX12_ends 115 = .ok (.iload_n 3, 1) := by decide +kernel
theorem dX12_ends_116 : decode cX12_ends 116 = .ok (.bipush 6, 2) := by decide +kernel
theorem dX12_ends_118 : decode cX12_ends 118 = .ok (.invokevirtual 84, 3) := by decide +kernel
theorem dX12_ends_121 : decode cX12_ends 121 = .ok (.if_icmp .ne 9, 3) := by decide +kernel
theorem dX12_ends_124 : decode cX12_ends 124 = .ok (.aload_n 0, 1) := by decide +kernel
theorem dX12_ends_125 : decode cX12_ends 125 = .ok (.iload_n 3, 1) := by decide +kernel
theorem dX12_ends_126 : decode cX12_ends 126 = .ok (.iload_n 1, 1) := by decide +kernel
theorem dX12_ends_127 : decode cX12_ends 127 = .ok (.invokevirtual 223, 3) := by decide +kernel
theorem dX12_ends_130 : decode cX12_ends 130 = .ok (.iinc 2 1, 3) := by decide +kernel
theorem dX12_ends_133 : decode cX12_ends 133 = .ok (.goto (-131), 3) := by decide +kernel
theorem dX12_ends_136 : decode cX12_ends 136 = .ok (.return_, 1) := by decide +kernel
theorem dX12_idles_0 : decode cX12_idles 0 = .ok (.aload_n 0, 1) := by decide +kernel
theorem dX12_idles_1 : decode cX12_idles 1 = .ok (.iload_n 1, 1) := by decide +kernel
theorem dX12_idles_2 : decode cX12_idles 2 = .ok (.bipush 15, 2) := by decide +kernel
theorem dX12_idles_4 : decode cX12_idles 4 = .ok (.invokevirtual 84, 3) := by decide +kernel
theorem dX12_idles_7 : decode cX12_idles 7 = .ok (.iconst 1, 1) := by decide +kernel
theorem dX12_idles_8 : decode cX12_idles 8 = .ok (.if_icmp .ne 62, 3) := by decide +kernel
theorem dX12_idles_11 : decode cX12_idles 11 = .ok (.aload_n 0, 1) := by decide +kernel
theorem dX12_idles_12 : decode cX12_idles 12 = .ok (.iload_n 1, 1) := by decide +kernel
theorem dX12_idles_13 : decode cX12_idles 13 = .ok (.bipush 10, 2) := by decide +kernel
theorem dX12_idles_15 : decode cX12_idles 15 = .ok (.iconst 1, 1) := by decide +kernel
theorem dX12_idles_16 : decode cX12_idles 16 = .ok (.invokevirtual 213, 3) := by decide +kernel
theorem dX12_idles_19 : decode cX12_idles 19 = .ok (.aload_n 0, 1) := by decide +kernel
theorem dX12_idles_20 : decode cX12_idles 20 = .ok (.iload_n 1, 1) := by decide +kernel
theorem dX12_idles_21 : decode cX12_idles 21 = .ok (.bipush 13, 2) := by decide +kernel
theorem dX12_idles_23 : decode cX12_idles 23 = .ok (.iconst 1, 1) := by decide +kernel
theorem dX12_idles_24 : decode cX12_idles 24 = .ok (.invokevirtual 213, 3) := by decide +kernel
theorem dX12_idles_27 : decode cX12_idles 27 = .ok (.aload_n 0, 1) := by decide +kernel
theorem dX12_idles_28 : decode cX12_idles 28 = .ok (.iload_n 1, 1) := by decide +kernel
theorem dX12_idles_29 : decode cX12_idles 29 = .ok (.bipush 11, 2) := by decide +kernel
theorem dX12_idles_31 : decode cX12_idles 31 = .ok (.aload_n 0, 1) := by decide +kernel
theorem dX12_idles_32 : decode cX12_idles 32 = .ok (.iload_n 1, 1) := by decide +kernel
theorem dX12_idles_33 : decode cX12_idles 33 = .ok (.bipush 13, 2) := by decide +kernel
theorem dX12_idles_35 : decode cX12_idles 35 = .ok (.invokevirtual 84, 3) := by decide +kernel
theorem dX12_idles_38 : decode cX12_idles 38 = .ok (.aload_n 0, 1) := by decide +kernel
theorem dX12_idles_39 : decode cX12_idles 39 = .ok (.getfield 13, 3) := by decide +kernel
theorem dX12_idles_42 : decode cX12_idles 42 = .ok (.bipush 9, 2) := by decide +kernel
theorem dX12_idles_44 : decode cX12_idles 44 = .ok (.iload_n 2, 1) := by decide +kernel
theorem dX12_idles_45 : decode cX12_idles 45 = .ok (.imul, 1) := by decide +kernel
theorem dX12_idles_46 : decode cX12_idles 46 = .ok (.iconst 5, 1) := by decide +kernel
theorem dX12_idles_47 : decode cX12_idles 47 = .ok (.iadd, 1) := by decide +kernel
theorem dX12_idles_48 : decode cX12_idles 48 = .ok (.iaload, 1) := by decide +kernel
theorem dX12_idles_49 : decode cX12_idles 49 = .ok (.if_icmp .le 17, 3) := by decide +kernel
theorem dX12_idles_52 : decode cX12_idles 52 = .ok (.aload_n 0, 1) := by decide +kernel
theorem dX12_idles_53 : decode cX12_idles 53 = .ok (.getfield 13, 3) := by decide +kernel
theorem dX12_idles_56 : decode cX12_idles 56 = .ok (.bipush 9, 2) := by decide +kernel
theorem dX12_idles_58 : decode cX12_idles 58 = .ok (.iload_n 2, 1) := by decide +kernel
theorem dX12_idles_59 : decode cX12_idles 59 = .ok (.imul, 1) := by decide +kernel
theorem dX12_idles_60 : decode cX12_idles 60 = .ok (.iconst 4, 1) := by decide +kernel
theorem dX12_idles_61 : decode cX12_idles 61 = .ok (.iadd, 1) := by decide +kernel
theorem dX12_idles_62 : decode cX12_idles 62 = .ok (.iaload, 1) := by decide +kernel
theorem dX12_idles_63 : decode cX12_idles 63 = .ok (.goto 4, 3) := by decide +kernel
theorem dX12_idles_66 : decode cX12_idles 66 = .ok (.iconst 0, 1) := by decide +kernel
theorem dX12_idles_67 : decode cX12_idles 67 = .ok (.invokevirtual 213, 3) := by decide +kernel
theorem dX12_idles_70 : decode cX12_idles 70 = .ok (.aload_n 0, 1) := by decide +kernel
theorem dX12_idles_71 : decode cX12_idles 71 = .ok (.iload_n 1, 1) := by decide +kernel
theorem dX12_idles_72 : decode cX12_idles 72 = .ok (.bipush 13, 2) := by decide +kernel
theorem dX12_idles_74 : decode cX12_idles 74 = .ok (.invokevirtual 84, 3) := by decide +kernel
theorem dX12_idles_77 : decode cX12_idles 77 = .ok (.aload_n 0, 1) := by decide +kernel
theorem dX12_idles_78 : decode cX12_idles 78 = .ok (.iload_n 1, 1) := by decide +kernel
theorem dX12_idles_79 : decode cX12_idles 79 = .ok (.bipush 7, 2) := by decide +kernel
theorem dX12_idles_81 : decode cX12_idles 81 = .ok (.invokevirtual 84, 3) := by decide +kernel
theorem dX12_idles_84 : decode cX12_idles 84 = .ok (.if_icmp .lt 8, 3) := by decide +kernel
theorem dX12_idles_87 : decode cX12_idles 87 = .ok (.aload_n 0, 1) := by decide +kernel
theorem dX12_idles_88 : decode cX12_idles 88 = .ok (.iload_n 1, 1) := by decide +kernel
theorem dX12_idles_89 : decode cX12_idles 89 = .ok (.invokevirtual 210, 3) := by decide +kernel
theorem dX12_idles_92 : decode cX12_idles 92 = .ok (.return_, 1) := by decide +kernel
theorem dX12_tick_0 : decode cX12_tick 0 = .ok (.aload_n 0, 1) := by decide +kernel
theorem dX12_tick_1 : decode cX12_tick 1 = .ok (.iload_n 1, 1) := by decide +kernel
theorem dX12_tick_2 : decode cX12_tick 2 = .ok (.invokevirtual 226, 3) := by decide +kernel
theorem dX12_tick_5 : decode cX12_tick 5 = .ok (.aload_n 0, 1) := by decide +kernel
theorem dX12_tick_6 : decode cX12_tick 6 = .ok (.iload_n 1, 1) := by decide +kernel
theorem dX12_tick_7 : decode cX12_tick 7 = .ok (.invokevirtual 229, 3) := by decide +kernel
theorem dX12_tick_10 : decode cX12_tick 10 = .ok (.aload_n 0, 1) := by decide +kernel
theorem dX12_tick_11 : decode cX12_tick 11 = .ok (.iload_n 1, 1) := by decide +kernel
theorem dX12_tick_12 : decode cX12_tick 12 = .ok (.invokevirtual 232, 3) := by decide +kernel
theorem dX12_tick_15 : decode cX12_tick 15 = .ok (.istore_n 2, 1) := by decide +kernel
theorem dX12_tick_16 : decode cX12_tick 16 = .ok (.aload_n 0, 1) := by decide +kernel
theorem dX12_tick_17 : decode cX12_tick 17 = .ok (.getfield 13, 3) := by decide +kernel
theorem dX12_tick_20 : decode cX12_tick 20 = .ok (.bipush 9, 2) := by decide +kernel
theorem dX12_tick_22 : decode cX12_tick 22 = .ok (.iload_n 1, 1) := by decide +kernel
theorem dX12_tick_23 : decode cX12_tick 23 = .ok (.imul, 1) := by decide +kernel
theorem dX12_tick_24 : decode cX12_tick 24 = .ok (.iconst 2, 1) := by decide +kernel
theorem dX12_tick_25 : decode cX12_tick 25 = .ok (.iadd, 1) := by decide +kernel
theorem dX12_tick_26 : decode cX12_tick 26 = .ok (.iaload, 1) := by decide +kernel
theorem dX12_tick_27 : decode cX12_tick 27 = .ok (.ifCond .ne 12, 3) := by decide +kernel
theorem dX12_tick_30 : decode cX12_tick 30 = .ok (.aload_n 0, 1) := by decide +kernel
theorem dX12_tick_31 : decode cX12_tick 31 = .ok (.iload_n 1, 1) := by decide +kernel
theorem dX12_tick_32 : decode cX12_tick 32 = .ok (.iload_n 2, 1) := by decide +kernel
theorem dX12_tick_33 : decode cX12_tick 33 = .ok (.invokevirtual 235, 3) := by decide +kernel
theorem dX12_tick_36 : decode cX12_tick 36 = .ok (.goto 9, 3) := by decide +kernel
theorem dX12_tick_39 : decode cX12_tick 39 = .ok (.aload_n 0, 1) := by decide +kernel
theorem dX12_tick_40 : decode cX12_tick 40 = .ok (.iload_n 1, 1) := by decide +kernel
theorem dX12_tick_41 : decode cX12_tick 41 = .ok (.iload_n 2, 1) := by decide +kernel
theorem dX12_tick_42 : decode cX12_tick 42 = .ok (.invokevirtual 238, 3) := by decide +kernel
theorem dX12_tick_45 : decode cX12_tick 45 = .ok (.iconst 0, 1) := by decide +kernel
theorem dX12_tick_46 : decode cX12_tick 46 = .ok (.istore_n 3, 1) := by decide +kernel
theorem dX12_tick_47 : decode cX12_tick 47 = .ok (.iconst 0, 1) := by decide +kernel
theorem dX12_tick_48 : decode cX12_tick 48 = .ok (.istore 4, 2) := by decide +kernel
theorem dX12_tick_50 : decode cX12_tick 50 = .ok (.iload 4, 2) := by decide +kernel
theorem dX12_tick_52 : decode cX12_tick 52 = .ok (.aload_n 0, 1) := by decide +kernel
theorem dX12_tick_53 : decode cX12_tick 53 = .ok (.getfield 7, 3) := by decide +kernel
theorem dX12_tick_56 : decode cX12_tick 56 = .ok (.iconst 2, 1) := by decide +kernel
theorem dX12_tick_57 : decode cX12_tick 57 = .ok (.iaload, 1) := by decide +kernel
theorem dX12_tick_58 : decode cX12_tick 58 = .ok (.if_icmp .ge 105, 3) := by decide +kernel
theorem dX12_tick_61 : decode cX12_tick 61 = .ok (.aload_n 0, 1) := by decide +kernel
theorem dX12_tick_62 : decode cX12_tick 62 = .ok (.getfield 58, 3) := by decide +kernel
theorem dX12_tick_65 : decode cX12_tick 65 = .ok (.iload 4, 2) := by decide +kernel
theorem dX12_tick_67 : decode cX12_tick 67 = .ok (.iaload, 1) := by decide +kernel
theorem dX12_tick_68 : decode cX12_tick 68 = .ok (.ifCond .le 89, 3) := by decide +kernel
theorem dX12_tick_71 : decode cX12_tick 71 = .ok (.aload_n 0, 1) := by decide +kernel
theorem dX12_tick_72 : decode cX12_tick 72 = .ok (.getfield 19, 3) := by decide +kernel
theorem dX12_tick_75 : decode cX12_tick 75 = .ok (.bipush 6, 2) := by decide +kernel
theorem dX12_tick_77 : decode cX12_tick 77 = .ok (.iload 4, 2) := by decide +kernel
theorem dX12_tick_79 : decode cX12_tick 79 = .ok (.imul, 1) := by decide +kernel
theorem dX12_tick_80 : decode cX12_tick 80 = .ok (.iconst 3, 1) := by decide +kernel
theorem dX12_tick_81 : decode cX12_tick 81 = .ok (.iadd, 1) := by decide +kernel
theorem dX12_tick_82 : decode cX12_tick 82 = .ok (.iaload, 1) := by decide +kernel
theorem dX12_tick_83 : decode cX12_tick 83 = .ok (.istore 5, 2) := by decide +kernel
theorem dX12_tick_85 : decode cX12_tick 85 = .ok (.aload_n 0, 1) := by decide +kernel
theorem dX12_tick_86 : decode cX12_tick 86 = .ok (.iload 5, 2) := by decide +kernel
theorem dX12_tick_88 : decode cX12_tick 88 = .ok (.iconst 4, 1) := by decide +kernel
theorem dX12_tick_89 : decode cX12_tick 89 = .ok (.aload_n 0, 1) := by decide +kernel
theorem dX12_tick_90 : decode cX12_tick 90 = .ok (.getfield 58, 3) := by decide +kernel
theorem dX12_tick_93 : decode cX12_tick 93 = .ok (.iload 4, 2) := by decide +kernel
theorem dX12_tick_95 : decode cX12_tick 95 = .ok (.iaload, 1) := by decide +kernel
theorem dX12_tick_96 : decode cX12_tick 96 = .ok (.invokevirtual 213, 3) := by decide +kernel
theorem dX12_tick_99 : decode cX12_tick 99 = .ok (.aload_n 0, 1) := by decide +kernel
theorem dX12_tick_100 : decode cX12_tick 100 = .ok (.iload 5, 2) := by decide +kernel
theorem dX12_tick_102 : decode cX12_tick 102 = .ok (.bipush 8, 2) := by decide +kernel
theorem dX12_tick_104 : decode cX12_tick 104 = .ok (.aload_n 0, 1) := by decide +kernel
theorem dX12_tick_105 : decode cX12_tick 105 = .ok (.getfield 58, 3) := by decide +kernel
theorem dX12_tick_108 : decode cX12_tick 108 = .ok (.iload 4, 2) := by decide +kernel
theorem dX12_tick_110 : decode cX12_tick 110 = .ok (.iaload, 1) := by decide +kernel
theorem dX12_tick_111 : decode cX12_tick 111 = .ok (.invokevirtual 213, 3) := by decide +kernel
theorem dX12_tick_114 : decode cX12_tick 114 = .ok (.aload_n 0, 1) := by decide +kernel
theorem dX12_tick_115 : decode cX12_tick 115 = .ok (.iload 5, 2) := by decide +kernel
theorem dX12_tick_117 : decode cX12_tick 117 = .ok (.bipush 11, 2) := by decide +kernel
theorem dX12_tick_119 : decode cX12_tick 119 = .ok (.aload_n 0, 1) := by decide +kernel
theorem dX12_tick_120 : decode cX12_tick 120 = .ok (.getfield 58, 3) := by decide +kernel
theorem dX12_tick_123 : decode cX12_tick 123 = .ok (.iload 4, 2) := by decide +kernel
theorem dX12_tick_125 : decode cX12_tick 125 = .ok (.iaload, 1) := by decide +kernel
theorem dX12_tick_126 : decode cX12_tick 126 = .ok (.aload_n 0, 1) := by decide +kernel
theorem dX12_tick_127 : decode cX12_tick 127 = .ok (.getfield 25, 3) := by decide +kernel
theorem dX12_tick_130 : decode cX12_tick 130 = .ok (.aload_n 0, 1) := by decide +kernel
theorem dX12_tick_131 : decode cX12_tick 131 = .ok (.getfield 7, 3) := by decide +kernel
theorem dX12_tick_134 : decode cX12_tick 134 = .ok (.iconst 0, 1) := by decide +kernel
theorem dX12_tick_135 : decode cX12_tick 135 = .ok (.iaload, 1) := by decide +kernel
theorem dX12_tick_136 : decode cX12_tick 136 = .ok (.bipush 12, 2) := by decide +kernel
theorem dX12_tick_138 : decode cX12_tick 138 = .ok (.idiv, 1) := by decide +kernel
theorem dX12_tick_139 : decode cX12_tick 139 = .ok (.bipush 24, 2) := by decide +kernel
theorem dX12_tick_141 : decode cX12_tick 141 = .ok (.irem, 1) := by decide +kernel
theorem dX12_tick_142 : decode cX12_tick 142 = .ok (.iaload, 1) := by decide +kernel
theorem dX12_tick_143 : decode cX12_tick 143 = .ok (.imul, 1) := by decide +kernel
theorem dX12_tick_144 : decode cX12_tick 144 = .ok (.invokevirtual 213, 3) := by decide +kernel
theorem dX12_tick_147 : decode cX12_tick 147 = .ok (.iload_n 3, 1) := by decide +kernel
theorem dX12_tick_148 : decode cX12_tick 148 = .ok (.aload_n 0, 1) := by decide +kernel
theorem dX12_tick_149 : decode cX12_tick 149 = .ok (.getfield 58, 3) := by decide +kernel
theorem dX12_tick_152 : decode cX12_tick 152 = .ok (.iload 4, 2) := by decide +kernel
theorem dX12_tick_154 : decode cX12_tick 154 = .ok (.iaload, 1) := by decide +kernel
theorem dX12_tick_155 : decode cX12_tick 155 = .ok (.iadd, 1) := by decide +kernel
theorem dX12_tick_156 : decode cX12_tick 156 = .ok (.istore_n 3, 1) := by decide +kernel
theorem dX12_tick_157 : decode cX12_tick 157 = .ok (.iinc 4 1, 3) := by decide +kernel
theorem dX12_tick_160 : decode cX12_tick 160 = .ok (.goto (-110), 3) := by decide +kernel
theorem dX12_tick_163 : decode cX12_tick 163 = .ok (.aload_n 0, 1) := by decide +kernel
theorem dX12_tick_164 : decode cX12_tick 164 = .ok (.getfield 13, 3) := by decide +kernel
theorem dX12_tick_167 : decode cX12_tick 167 = .ok (.bipush 9, 2) := by decide +kernel
theorem dX12_tick_169 : decode cX12_tick 169 = .ok (.iload_n 1, 1) := by decide +kernel
theorem dX12_tick_170 : decode cX12_tick 170 = .ok (.imul, 1) := by decide +kernel
theorem dX12_tick_171 : decode cX12_tick 171 = .ok (.bipush 8, 2) := by decide +kernel
theorem dX12_tick_173 : decode cX12_tick 173 = .ok (.iadd, 1) := by decide +kernel
theorem dX12_tick_174 : decode cX12_tick 174 = .ok (.dup2, 1) := by decide +kernel
theorem dX12_tick_175 : decode cX12_tick 175 = .ok (.iaload, 1) := by decide +kernel
theorem dX12_tick_176 : decode cX12_tick 176 = .ok (.iload_n 3, 1) := by decide +kernel
theorem dX12_tick_177 : decode cX12_tick 177 = .ok (.iadd, 1) := by decide +kernel
theorem dX12_tick_178 : decode cX12_tick 178 = .ok (.iastore, 1) := by decide +kernel
theorem dX12_tick_179 : decode cX12_tick 179 = .ok (.aload_n 0, 1) := by decide +kernel
theorem dX12_tick_180 : decode cX12_tick 180 = .ok (.iload_n 1, 1) := by decide +kernel
theorem dX12_tick_181 : decode cX12_tick 181 = .ok (.invokevirtual 241, 3) := by decide +kernel
theorem dX12_tick_184 : decode cX12_tick 184 = .ok (.iconst 0, 1) := by decide +kernel
theorem dX12_tick_185 : decode cX12_tick 185 = .ok (.istore 4, 2) := by decide +kernel
theorem dX12_tick_187 : decode cX12_tick 187 = .ok (.iload 4, 2) := by decide +kernel
theorem dX12_tick_189 : decode cX12_tick 189 = .ok (.aload_n 0, 1) := by decide +kernel
theorem dX12_tick_190 : decode cX12_tick 190 = .ok (.getfield 13, 3) := by decide +kernel
theorem dX12_tick_193 : decode cX12_tick 193 = .ok (.bipush 9, 2) := by decide +kernel
theorem dX12_tick_195 : decode cX12_tick 195 = .ok (.iload_n 1, 1) := by decide +kernel
theorem dX12_tick_196 : decode cX12_tick 196 = .ok (.imul, 1) := by decide +kernel
theorem dX12_tick_197 : decode cX12_tick 197 = .ok (.bipush 6, 2) := by decide +kernel
theorem dX12_tick_199 : decode cX12_tick 199 = .ok (.iadd, 1) := by decide +kernel
theorem dX12_tick_200 : decode cX12_tick 200 = .ok (.iaload, 1) := by decide +kernel
theorem dX12_tick_201 : decode cX12_tick 201 = .ok (.if_icmp .ge 28, 3) := by decide +kernel
theorem dX12_tick_204 : decode cX12_tick 204 = .ok (.aload_n 0, 1) := by decide +kernel
theorem dX12_tick_205 : decode cX12_tick 205 = .ok (.aload_n 0, 1) := by decide +kernel
theorem dX12_tick_206 : decode cX12_tick 206 = .ok (.getfield 16, 3) := by decide +kernel
theorem dX12_tick_209 : decode cX12_tick 209 = .ok (.bipush 12, 2) := by decide +kernel
theorem dX12_tick_211 : decode cX12_tick 211 = .ok (.iload_n 1, 1) := by decide +kernel
theorem dX12_tick_212 : decode cX12_tick 212 = .ok (.imul, 1) := by decide +kernel
theorem dX12_tick_213 : decode cX12_tick 213 = .ok (.iload 4, 2) := by decide +kernel
theorem dX12_tick_215 : decode cX12_tick 215 = .ok (.iadd, 1) := by decide +kernel
theorem dX12_tick_216 : decode cX12_tick 216 = .ok (.iaload, 1) := by decide +kernel
theorem dX12_tick_217 : decode cX12_tick 217 = .ok (.bipush 9, 2) := by decide +kernel
theorem dX12_tick_219 : decode cX12_tick 219 = .ok (.iconst 1, 1) := by decide +kernel
theorem dX12_tick_220 : decode cX12_tick 220 = .ok (.invokevirtual 213, 3) := by decide +kernel
theorem dX12_tick_223 : decode cX12_tick 223 = .ok (.iinc 4 1, 3) := by decide +kernel
theorem dX12_tick_226 : decode cX12_tick 226 = .ok (.goto (-39), 3) := by decide +kernel
theorem dX12_tick_229 : decode cX12_tick 229 = .ok (.iload_n 3, 1) := by decide +kernel
theorem dX12_tick_230 : decode cX12_tick 230 = .ok (.ireturn, 1) := by decide +kernel
theorem dX12_ticks_0 : decode cX12_ticks 0 = .ok (.iload_n 1, 1) := by decide +kernel
theorem dX12_ticks_1 : decode cX12_ticks 1 = .ok (.iconst 1, 1) := by decide +kernel
theorem dX12_ticks_2 : decode cX12_ticks 2 = .ok (.bipush 100, 2) := by decide +kernel
theorem dX12_ticks_4 : decode cX12_ticks 4 = .ok (.invokestatic 76, 3) := by decide +kernel
theorem dX12_ticks_7 : decode cX12_ticks 7 = .ok (.ifCond .ne 5, 3) := by decide +kernel
theorem dX12_ticks_10 : decode cX12_ticks 10 = .ok (.iconst (-1), 1) := by decide +kernel
theorem dX12_ticks_11 : decode cX12_ticks 11 = .ok (.ireturn, 1) := by decide +kernel
theorem dX12_ticks_12 : decode cX12_ticks 12 = .ok (.aload_n 0, 1) := by decide +kernel
theorem dX12_ticks_13 : decode cX12_ticks 13 = .ok (.getfield 7, 3) := by decide +kernel
theorem dX12_ticks_16 : decode cX12_ticks 16 = .ok (.iconst 0, 1) := by decide +kernel
theorem dX12_ticks_17 : decode cX12_ticks 17 = .ok (.iaload, 1) := by decide +kernel
theorem dX12_ticks_18 : decode cX12_ticks 18 = .ok (.iload_n 1, 1) := by decide +kernel
theorem dX12_ticks_19 : decode cX12_ticks 19 = .ok (.iadd, 1) := by decide +kernel
theorem dX12_ticks_20 : decode cX12_ticks 20 = .ok (.sipush 2000, 3) := by decide +kernel
theorem dX12_ticks_23 : decode cX12_ticks 23 = .ok (.if_icmp .le 6, 3) := by decide +kernel
theorem dX12_ticks_26 : decode cX12_ticks 26 = .ok (.bipush (-4), 2) := by decide +kernel
theorem dX12_ticks_28 : decode cX12_ticks 28 = .ok (.ireturn, 1) := by decide +kernel
theorem dX12_ticks_29 : decode cX12_ticks 29 = .ok (.iconst 0, 1) := by decide +kernel
theorem dX12_ticks_30 : decode cX12_ticks 30 = .ok (.istore_n 2, 1) := by decide +kernel
theorem dX12_ticks_31 : decode cX12_ticks 31 = .ok (.iconst 0, 1) := by decide +kernel
theorem dX12_ticks_32 : decode cX12_ticks 32 = .ok (.istore_n 3, 1) := by decide +kernel
theorem dX12_ticks_33 : decode cX12_ticks 33 = .ok (.iload_n 3, 1) := by decide +kernel
theorem dX12_ticks_34 : decode cX12_ticks 34 = .ok (.iload_n 1, 1) := by decide +kernel
theorem dX12_ticks_35 : decode cX12_ticks 35 = .ok (.if_icmp .ge 48, 3) := by decide +kernel
theorem dX12_ticks_38 : decode cX12_ticks 38 = .ok (.iconst 0, 1) := by decide +kernel
theorem dX12_ticks_39 : decode cX12_ticks 39 = .ok (.istore 4, 2) := by decide +kernel
theorem dX12_ticks_41 : decode cX12_ticks 41 = .ok (.iload 4, 2) := by decide +kernel
theorem dX12_ticks_43 : decode cX12_ticks 43 = .ok (.aload_n 0, 1) := by decide +kernel
theorem dX12_ticks_44 : decode cX12_ticks 44 = .ok (.getfield 7, 3) := by decide +kernel
theorem dX12_ticks_47 : decode cX12_ticks 47 = .ok (.iconst 1, 1) := by decide +kernel
theorem dX12_ticks_48 : decode cX12_ticks 48 = .ok (.iaload, 1) := by decide +kernel
theorem dX12_ticks_49 : decode cX12_ticks 49 = .ok (.if_icmp .ge 18, 3) := by decide +kernel
theorem dX12_ticks_52 : decode cX12_ticks 52 = .ok (.iload_n 2, 1) := by decide +kernel
theorem dX12_ticks_53 : decode cX12_ticks 53 = .ok (.aload_n 0, 1) := by decide +kernel
theorem dX12_ticks_54 : decode cX12_ticks 54 = .ok (.iload 4, 2) := by decide +kernel
theorem dX12_ticks_56 : decode cX12_ticks 56 = .ok (.invokevirtual 244, 3) := by decide +kernel
theorem dX12_ticks_59 : decode cX12_ticks 59 = .ok (.iadd, 1) := by decide +kernel
theorem dX12_ticks_60 : decode cX12_ticks 60 = .ok (.istore_n 2, 1) := by decide +kernel
theorem dX12_ticks_61 : decode cX12_ticks 61 = .ok (.iinc 4 1, 3) := by decide +kernel
theorem dX12_ticks_64 : decode cX12_ticks 64 = .ok (.goto (-23), 3) := by decide +kernel
theorem dX12_ticks_67 : decode cX12_ticks 67 = .ok (.aload_n 0, 1) := by decide +kernel
theorem dX12_ticks_68 : decode cX12_ticks 68 = .ok (.getfield 7, 3) := by decide +kernel
theorem dX12_ticks_71 : decode cX12_ticks 71 = .ok (.iconst 0, 1) := by decide +kernel
theorem dX12_ticks_72 : decode cX12_ticks 72 = .ok (.dup2, 1) := by decide +kernel
theorem dX12_ticks_73 : decode cX12_ticks 73 = .ok (.iaload, 1) := by decide +kernel
theorem dX12_ticks_74 : decode cX12_ticks 74 = .ok (.iconst 1, 1) := by decide +kernel
theorem dX12_ticks_75 : decode cX12_ticks 75 = .ok (.iadd, 1) := by decide +kernel
theorem dX12_ticks_76 : decode cX12_ticks 76 = .ok (.iastore, 1) := by decide +kernel
theorem dX12_ticks_77 : decode cX12_ticks 77 = .ok (.iinc 3 1, 3) := by decide +kernel
theorem dX12_ticks_80 : decode cX12_ticks 80 = .ok (.goto (-47), 3) := by decide +kernel
theorem dX12_ticks_83 : decode cX12_ticks 83 = .ok (.aload_n 0, 1) := by decide +kernel
theorem dX12_ticks_84 : decode cX12_ticks 84 = .ok (.getfield 7, 3) := by decide +kernel
theorem dX12_ticks_87 : decode cX12_ticks 87 = .ok (.bipush 9, 2) := by decide +kernel
theorem dX12_ticks_89 : decode cX12_ticks 89 = .ok (.dup2, 1) := by decide +kernel
theorem dX12_ticks_90 : decode cX12_ticks 90 = .ok (.iaload, 1) := by decide +kernel
theorem dX12_ticks_91 : decode cX12_ticks 91 = .ok (.iload_n 2, 1) := by decide +kernel
theorem dX12_ticks_92 : decode cX12_ticks 92 = .ok (.iadd, 1) := by decide +kernel
theorem dX12_ticks_93 : decode cX12_ticks 93 = .ok (.iastore, 1) := by decide +kernel
theorem dX12_ticks_94 : decode cX12_ticks 94 = .ok (.iload_n 2, 1) := by decide +kernel
theorem dX12_ticks_95 : decode cX12_ticks 95 = .ok (.ireturn, 1) := by decide +kernel
theorem dX12_plugOf_0 : decode cX12_plugOf 0 = .ok (.aload_n 0, 1) := by decide +kernel
theorem dX12_plugOf_1 : decode cX12_plugOf 1 = .ok (.iload_n 1, 1) := by decide +kernel
theorem dX12_plugOf_2 : decode cX12_plugOf 2 = .ok (.invokevirtual 98, 3) := by decide +kernel
theorem dX12_plugOf_5 : decode cX12_plugOf 5 = .ok (.ifCond .ne 5, 3) := by decide +kernel
theorem dX12_plugOf_8 : decode cX12_plugOf 8 = .ok (.iconst (-1), 1) := by decide +kernel
theorem dX12_plugOf_9 : decode cX12_plugOf 9 = .ok (.ireturn, 1) := by decide +kernel
theorem dX12_plugOf_10 : decode cX12_plugOf 10 = .ok (.iconst 0, 1) := by decide +kernel
theorem dX12_plugOf_11 : decode cX12_plugOf 11 = .ok (.istore_n 3, 1) := by decide +kernel
theorem dX12_plugOf_12 : decode cX12_plugOf 12 = .ok (.iload_n 2, 1) := by decide +kernel
theorem dX12_plugOf_13 : decode cX12_plugOf 13 = .ok (.tableswitch 155 0 6 #[43, 43, 43, 55, 86, 100, 112], 43) := by decide +kernel
theorem dX12_plugOf_56 : decode cX12_plugOf 56 = .ok (.aload_n 0, 1) := by decide +kernel
theorem dX12_plugOf_57 : decode cX12_plugOf 57 = .ok (.getfield 19, 3) := by decide +kernel
theorem dX12_plugOf_60 : decode cX12_plugOf 60 = .ok (.bipush 6, 2) := by decide +kernel
theorem dX12_plugOf_62 : decode cX12_plugOf 62 = .ok (.iload_n 1, 1) := by decide +kernel
theorem dX12_plugOf_63 : decode cX12_plugOf 63 = .ok (.imul, 1) := by decide +kernel
theorem dX12_plugOf_64 : decode cX12_plugOf 64 = .ok (.iload_n 2, 1) := by decide +kernel
theorem dX12_plugOf_65 : decode cX12_plugOf 65 = .ok (.iadd, 1) := by decide +kernel
theorem dX12_plugOf_66 : decode cX12_plugOf 66 = .ok (.iaload, 1) := by decide +kernel
theorem dX12_plugOf_67 : decode cX12_plugOf 67 = .ok (.ireturn, 1) := by decide +kernel
theorem dX12_plugOf_68 : decode cX12_plugOf 68 = .ok (.aload_n 0, 1) := by decide +kernel
theorem dX12_plugOf_69 : decode cX12_plugOf 69 = .ok (.getfield 19, 3) := by decide +kernel
theorem dX12_plugOf_72 : decode cX12_plugOf 72 = .ok (.bipush 6, 2) := by decide +kernel
theorem dX12_plugOf_74 : decode cX12_plugOf 74 = .ok (.iload_n 1, 1) := by decide +kernel
theorem dX12_plugOf_75 : decode cX12_plugOf 75 = .ok (.imul, 1) := by decide +kernel
theorem dX12_plugOf_76 : decode cX12_plugOf 76 = .ok (.iconst 3, 1) := by decide +kernel
theorem dX12_plugOf_77 : decode cX12_plugOf 77 = .ok (.iadd, 1) := by decide +kernel
theorem dX12_plugOf_78 : decode cX12_plugOf 78 = .ok (.iaload, 1) := by decide +kernel
theorem dX12_plugOf_79 : decode cX12_plugOf 79 = .ok (.ifCond .ge 8, 3) := by decide +kernel
theorem dX12_plugOf_82 : decode cX12_plugOf 82 = .ok (.bipush (-3), 2) := by decide +kernel
theorem dX12_plugOf_84 : decode cX12_plugOf 84 = .ok (.goto 14, 3) := by decide +kernel
theorem dX12_plugOf_87 : decode cX12_plugOf 87 = .ok (.aload_n 0, 1) := by decide +kernel
theorem dX12_plugOf_88 : decode cX12_plugOf 88 = .ok (.getfield 19, 3) := by decide +kernel
theorem dX12_plugOf_91 : decode cX12_plugOf 91 = .ok (.bipush 6, 2) := by decide +kernel
theorem dX12_plugOf_93 : decode cX12_plugOf 93 = .ok (.iload_n 1, 1) := by decide +kernel
theorem dX12_plugOf_94 : decode cX12_plugOf 94 = .ok (.imul, 1) := by decide +kernel
theorem dX12_plugOf_95 : decode cX12_plugOf 95 = .ok (.iconst 3, 1) := by decide +kernel
theorem dX12_plugOf_96 : decode cX12_plugOf 96 = .ok (.iadd, 1) := by decide +kernel
theorem dX12_plugOf_97 : decode cX12_plugOf 97 = .ok (.iaload, 1) := by decide +kernel
theorem dX12_plugOf_98 : decode cX12_plugOf 98 = .ok (.ireturn, 1) := by decide +kernel
theorem dX12_plugOf_99 : decode cX12_plugOf 99 = .ok (.aload_n 0, 1) := by decide +kernel
theorem dX12_plugOf_100 : decode cX12_plugOf 100 = .ok (.iload_n 1, 1) := by decide +kernel
theorem dX12_plugOf_101 : decode cX12_plugOf 101 = .ok (.invokevirtual 115, 3) := by decide +kernel
theorem dX12_plugOf_104 : decode cX12_plugOf 104 = .ok (.ifCond .eq 7, 3) := by decide +kernel
theorem dX12_plugOf_107 : decode cX12_plugOf 107 = .ok (.iconst 1, 1) := by decide +kernel
theorem dX12_plugOf_108 : decode cX12_plugOf 108 = .ok (.goto 4, 3) := by decide +kernel
theorem dX12_plugOf_111 : decode cX12_plugOf 111 = .ok (.iconst 0, 1) := by decide +kernel
theorem dX12_plugOf_112 : decode cX12_plugOf 112 = .ok (.ireturn, 1) := by decide +kernel
theorem dX12_plugOf_113 : decode cX12_plugOf 113 = .ok (.aload_n 0, 1) := by decide +kernel
theorem dX12_plugOf_114 : decode cX12_plugOf 114 = .ok (.getfield 19, 3) := by decide +kernel
theorem dX12_plugOf_117 : decode cX12_plugOf 117 = .ok (.bipush 6, 2) := by decide +kernel
theorem dX12_plugOf_119 : decode cX12_plugOf 119 = .ok (.iload_n 1, 1) := by decide +kernel
theorem dX12_plugOf_120 : decode cX12_plugOf 120 = .ok (.imul, 1) := by decide +kernel
theorem dX12_plugOf_121 : decode cX12_plugOf 121 = .ok (.iconst 5, 1) := by decide +kernel
theorem dX12_plugOf_122 : decode cX12_plugOf 122 = .ok (.iadd, 1) := by decide +kernel
theorem dX12_plugOf_123 : decode cX12_plugOf 123 = .ok (.iaload, 1) := by decide +kernel
theorem dX12_plugOf_124 : decode cX12_plugOf 124 = .ok (.ireturn, 1) := by decide +kernel
theorem dX12_plugOf_125 : decode cX12_plugOf 125 = .ok (.iconst 0, 1) := by decide +kernel
theorem dX12_plugOf_126 : decode cX12_plugOf 126 = .ok (.istore 4, 2) := by decide +kernel
theorem dX12_plugOf_128 : decode cX12_plugOf 128 = .ok (.iload 4, 2) := by decide +kernel
theorem dX12_plugOf_130 : decode cX12_plugOf 130 = .ok (.aload_n 0, 1) := by decide +kernel
theorem dX12_plugOf_131 : decode cX12_plugOf 131 = .ok (.getfield 7, 3) := by decide +kernel
theorem dX12_plugOf_134 : decode cX12_plugOf 134 = .ok (.iconst 4, 1) := by decide +kernel
theorem dX12_plugOf_135 : decode cX12_plugOf 135 = .ok (.iaload, 1) := by decide +kernel
theorem dX12_plugOf_136 : decode cX12_plugOf 136 = .ok (.if_icmp .ge 30, 3) := by decide +kernel
theorem dX12_plugOf_139 : decode cX12_plugOf 139 = .ok (.iload_n 3, 1) := by decide +kernel
theorem dX12_plugOf_140 : decode cX12_plugOf 140 = .ok (.aload_n 0, 1) := by decide +kernel
theorem dX12_plugOf_141 : decode cX12_plugOf 141 = .ok (.getfield 28, 3) := by decide +kernel
theorem dX12_plugOf_144 : decode cX12_plugOf 144 = .ok (.iconst 4, 1) := by decide +kernel
theorem dX12_plugOf_145 : decode cX12_plugOf 145 = .ok (.iload 4, 2) := by decide +kernel
theorem dX12_plugOf_147 : decode cX12_plugOf 147 = .ok (.imul, 1) := by decide +kernel
theorem dX12_plugOf_148 : decode cX12_plugOf 148 = .ok (.iaload, 1) := by decide +kernel
theorem dX12_plugOf_149 : decode cX12_plugOf 149 = .ok (.iload_n 1, 1) := by decide +kernel
theorem dX12_plugOf_150 : decode cX12_plugOf 150 = .ok (.if_icmp .ne 7, 3) := by decide +kernel
theorem dX12_plugOf_153 : decode cX12_plugOf 153 = .ok (.iconst 1, 1) := by decide +kernel
theorem dX12_plugOf_154 : decode cX12_plugOf 154 = .ok (.goto 4, 3) := by decide +kernel
theorem dX12_plugOf_157 : decode cX12_plugOf 157 = .ok (.iconst 0, 1) := by decide +kernel
theorem dX12_plugOf_158 : decode cX12_plugOf 158 = .ok (.iadd, 1) := by decide +kernel
theorem dX12_plugOf_159 : decode cX12_plugOf 159 = .ok (.istore_n 3, 1) := by decide +kernel
theorem dX12_plugOf_160 : decode cX12_plugOf 160 = .ok (.iinc 4 1, 3) := by decide +kernel
theorem dX12_plugOf_163 : decode cX12_plugOf 163 = .ok (.goto (-35), 3) := by decide +kernel
theorem dX12_plugOf_166 : decode cX12_plugOf 166 = .ok (.iload_n 3, 1) := by decide +kernel
theorem dX12_plugOf_167 : decode cX12_plugOf 167 = .ok (.ireturn, 1) := by decide +kernel
theorem dX12_plugOf_168 : decode cX12_plugOf 168 = .ok (.iconst (-1), 1) := by decide +kernel
theorem dX12_plugOf_169 : decode cX12_plugOf 169 = .ok (.ireturn, 1) := by decide +kernel
theorem dX12_plugsOf_0 : decode cX12_plugsOf 0 = .ok (.iconst 0, 1) := by decide +kernel
theorem dX12_plugsOf_1 : decode cX12_plugsOf 1 = .ok (.istore_n 2, 1) := by decide +kernel
theorem dX12_plugsOf_2 : decode cX12_plugsOf 2 = .ok (.iconst 0, 1) := by decide +kernel
theorem dX12_plugsOf_3 : decode cX12_plugsOf 3 = .ok (.istore_n 3, 1) := by decide +kernel
theorem dX12_plugsOf_4 : decode cX12_plugsOf 4 = .ok (.iload_n 3, 1) := by decide +kernel
theorem dX12_plugsOf_5 : decode cX12_plugsOf 5 = .ok (.aload_n 0, 1) := by decide +kernel
theorem dX12_plugsOf_6 : decode cX12_plugsOf 6 = .ok (.getfield 7, 3) := by decide +kernel
theorem dX12_plugsOf_9 : decode cX12_plugsOf 9 = .ok (.iconst 2, 1) := by decide +kernel
theorem dX12_plugsOf_10 : decode cX12_plugsOf 10 = .ok (.iaload, 1) := by decide +kernel
theorem dX12_plugsOf_11 : decode cX12_plugsOf 11 = .ok (.if_icmp .ge 30, 3) := by decide +kernel
theorem dX12_plugsOf_14 : decode cX12_plugsOf 14 = .ok (.iload_n 2, 1) := by decide +kernel
theorem dX12_plugsOf_15 : decode cX12_plugsOf 15 = .ok (.aload_n 0, 1) := by decide +kernel
theorem dX12_plugsOf_16 : decode cX12_plugsOf 16 = .ok (.getfield 19, 3) := by decide +kernel
theorem dX12_plugsOf_19 : decode cX12_plugsOf 19 = .ok (.bipush 6, 2) := by decide +kernel
theorem dX12_plugsOf_21 : decode cX12_plugsOf 21 = .ok (.iload_n 3, 1) := by decide +kernel
theorem dX12_plugsOf_22 : decode cX12_plugsOf 22 = .ok (.imul, 1) := by decide +kernel
theorem dX12_plugsOf_23 : decode cX12_plugsOf 23 = .ok (.iaload, 1) := by decide +kernel
theorem dX12_plugsOf_24 : decode cX12_plugsOf 24 = .ok (.iload_n 1, 1) := by decide +kernel
theorem dX12_plugsOf_25 : decode cX12_plugsOf 25 = .ok (.if_icmp .ne 7, 3) := by decide +kernel
theorem dX12_plugsOf_28 : decode cX12_plugsOf 28 = .ok (.iconst 1, 1) := by decide +kernel
theorem dX12_plugsOf_29 : decode cX12_plugsOf 29 = .ok (.goto 4, 3) := by decide +kernel
theorem dX12_plugsOf_32 : decode cX12_plugsOf 32 = .ok (.iconst 0, 1) := by decide +kernel
theorem dX12_plugsOf_33 : decode cX12_plugsOf 33 = .ok (.iadd, 1) := by decide +kernel
theorem dX12_plugsOf_34 : decode cX12_plugsOf 34 = .ok (.istore_n 2, 1) := by decide +kernel
theorem dX12_plugsOf_35 : decode cX12_plugsOf 35 = .ok (.iinc 3 1, 3) := by decide +kernel
theorem dX12_plugsOf_38 : decode cX12_plugsOf 38 = .ok (.goto (-34), 3) := by decide +kernel
theorem dX12_plugsOf_41 : decode cX12_plugsOf 41 = .ok (.iload_n 2, 1) := by decide +kernel
theorem dX12_plugsOf_42 : decode cX12_plugsOf 42 = .ok (.ireturn, 1) := by decide +kernel
theorem dX12_advise_0 : decode cX12_advise 0 = .ok (.iconst 0, 1) := by decide +kernel
theorem dX12_advise_1 : decode cX12_advise 1 = .ok (.istore 4, 2) := by decide +kernel
theorem dX12_advise_3 : decode cX12_advise 3 = .ok (.iload 4, 2) := by decide +kernel
theorem dX12_advise_5 : decode cX12_advise 5 = .ok (.aload_n 0, 1) := by decide +kernel
theorem dX12_advise_6 : decode cX12_advise 6 = .ok (.getfield 7, 3) := by decide +kernel
theorem dX12_advise_9 : decode cX12_advise 9 = .ok (.iconst 1, 1) := by decide +kernel
theorem dX12_advise_10 : decode cX12_advise 10 = .ok (.iaload, 1) := by decide +kernel
theorem dX12_advise_11 : decode cX12_advise 11 = .ok (.if_icmp .ge 37, 3) := by decide +kernel
theorem dX12_advise_14 : decode cX12_advise 14 = .ok (.aload_n 0, 1) := by decide +kernel
theorem dX12_advise_15 : decode cX12_advise 15 = .ok (.getfield 61, 3) := by decide +kernel
theorem dX12_advise_18 : decode cX12_advise 18 = .ok (.iload 4, 2) := by decide +kernel
theorem dX12_advise_20 : decode cX12_advise 20 = .ok (.aload_n 0, 1) := by decide +kernel
theorem dX12_advise_21 : decode cX12_advise 21 = .ok (.getfield 13, 3) := by decide +kernel
theorem dX12_advise_24 : decode cX12_advise 24 = .ok (.bipush 9, 2) := by decide +kernel
theorem dX12_advise_26 : decode cX12_advise 26 = .ok (.iload 4, 2) := by decide +kernel
theorem dX12_advise_28 : decode cX12_advise 28 = .ok (.imul, 1) := by decide +kernel
theorem dX12_advise_29 : decode cX12_advise 29 = .ok (.bipush 7, 2) := by decide +kernel
theorem dX12_advise_31 : decode cX12_advise 31 = .ok (.iadd, 1) := by decide +kernel
theorem dX12_advise_32 : decode cX12_advise 32 = .ok (.iaload, 1) := by decide +kernel
theorem dX12_advise_33 : decode cX12_advise 33 = .ok (.iastore, 1) := by decide +kernel
theorem dX12_advise_34 : decode cX12_advise 34 = .ok (.aload_n 0, 1) := by decide +kernel
theorem dX12_advise_35 : decode cX12_advise 35 = .ok (.getfield 64, 3) := by decide +kernel
theorem dX12_advise_38 : decode cX12_advise 38 = .ok (.iload 4, 2) := by decide +kernel
theorem dX12_advise_40 : decode cX12_advise 40 = .ok (.iconst 0, 1) := by decide +kernel
theorem dX12_advise_41 : decode cX12_advise 41 = .ok (.iastore, 1) := by decide +kernel
theorem dX12_advise_42 : decode cX12_advise 42 = .ok (.iinc 4 1, 3) := by decide +kernel
theorem dX12_advise_45 : decode cX12_advise 45 = .ok (.goto (-42), 3) := by decide +kernel
theorem dX12_advise_48 : decode cX12_advise 48 = .ok (.iconst 0, 1) := by decide +kernel
theorem dX12_advise_49 : decode cX12_advise 49 = .ok (.istore 4, 2) := by decide +kernel
theorem dX12_advise_51 : decode cX12_advise 51 = .ok (.iconst 0, 1) := by decide +kernel
theorem dX12_advise_52 : decode cX12_advise 52 = .ok (.istore 5, 2) := by decide +kernel
theorem dX12_advise_54 : decode cX12_advise 54 = .ok (.iload 5, 2) := by decide +kernel
theorem dX12_advise_56 : decode cX12_advise 56 = .ok (.iload_n 1, 1) := by decide +kernel
theorem dX12_advise_57 : decode cX12_advise 57 = .ok (.if_icmp .ge 200, 3) := by decide +kernel
theorem dX12_advise_60 : decode cX12_advise 60 = .ok (.bipush (-3), 2) := by decide +kernel
theorem dX12_advise_62 : decode cX12_advise 62 = .ok (.istore 6, 2) := by decide +kernel
theorem dX12_advise_64 : decode cX12_advise 64 = .ok (.iconst 0, 1) := by decide +kernel
theorem dX12_advise_65 : decode cX12_advise 65 = .ok (.istore 7, 2) := by decide +kernel
theorem dX12_advise_67 : decode cX12_advise 67 = .ok (.iload 7, 2) := by decide +kernel
theorem dX12_advise_69 : decode cX12_advise 69 = .ok (.aload_n 0, 1) := by decide +kernel
theorem dX12_advise_70 : decode cX12_advise 70 = .ok (.getfield 7, 3) := by decide +kernel
theorem dX12_advise_73 : decode cX12_advise 73 = .ok (.iconst 1, 1) := by decide +kernel
theorem dX12_advise_74 : decode cX12_advise 74 = .ok (.iaload, 1) := by decide +kernel
theorem dX12_advise_75 : decode cX12_advise 75 = .ok (.if_icmp .ge 89, 3) := by decide +kernel
theorem dX12_advise_78 : decode cX12_advise 78 = .ok (.aload_n 0, 1) := by decide +kernel
theorem dX12_advise_79 : decode cX12_advise 79 = .ok (.getfield 13, 3) := by decide +kernel
theorem dX12_advise_82 : decode cX12_advise 82 = .ok (.bipush 9, 2) := by decide +kernel
theorem dX12_advise_84 : decode cX12_advise 84 = .ok (.iload 7, 2) := by decide +kernel
theorem dX12_advise_86 : decode cX12_advise 86 = .ok (.imul, 1) := by decide +kernel
theorem dX12_advise_87 : decode cX12_advise 87 = .ok (.iaload, 1) := by decide +kernel
theorem dX12_advise_88 : decode cX12_advise 88 = .ok (.istore 8, 2) := by decide +kernel
theorem dX12_advise_90 : decode cX12_advise 90 = .ok (.iload 8, 2) := by decide +kernel
theorem dX12_advise_92 : decode cX12_advise 92 = .ok (.iload_n 2, 1) := by decide +kernel
theorem dX12_advise_93 : decode cX12_advise 93 = .ok (.if_icmp .lt 65, 3) := by decide +kernel
theorem dX12_advise_96 : decode cX12_advise 96 = .ok (.aload_n 0, 1) := by decide +kernel
theorem dX12_advise_97 : decode cX12_advise 97 = .ok (.iload 5, 2) := by decide +kernel
theorem dX12_advise_99 : decode cX12_advise 99 = .ok (.iload 8, 2) := by decide +kernel
theorem dX12_advise_101 : decode cX12_advise 101 = .ok (.iload_n 2, 1) := by decide +kernel
theorem dX12_advise_102 : decode cX12_advise 102 = .ok (.isub, 1) := by decide +kernel
theorem dX12_advise_103 : decode cX12_advise 103 = .ok (.invokevirtual 95, 3) := by decide +kernel
theorem dX12_advise_106 : decode cX12_advise 106 = .ok (.aload_n 0, 1) := by decide +kernel
theorem dX12_advise_107 : decode cX12_advise 107 = .ok (.iload 5, 2) := by decide +kernel
theorem dX12_advise_109 : decode cX12_advise 109 = .ok (.iconst 4, 1) := by decide +kernel
theorem dX12_advise_110 : decode cX12_advise 110 = .ok (.invokevirtual 84, 3) := by decide +kernel
theorem dX12_advise_113 : decode cX12_advise 113 = .ok (.if_icmp .gt 45, 3) := by decide +kernel
theorem dX12_advise_116 : decode cX12_advise 116 = .ok (.aload_n 0, 1) := by decide +kernel
theorem dX12_advise_117 : decode cX12_advise 117 = .ok (.iload 7, 2) := by decide +kernel
theorem dX12_advise_119 : decode cX12_advise 119 = .ok (.iload 5, 2) := by decide +kernel
theorem dX12_advise_121 : decode cX12_advise 121 = .ok (.invokevirtual 122, 3) := by decide +kernel
theorem dX12_advise_124 : decode cX12_advise 124 = .ok (.ifCond .lt 34, 3) := by decide +kernel
theorem dX12_advise_127 : decode cX12_advise 127 = .ok (.iload 6, 2) := by decide +kernel
theorem dX12_advise_129 : decode cX12_advise 129 = .ok (.ifCond .lt 20, 3) := by decide +kernel
theorem dX12_advise_132 : decode cX12_advise 132 = .ok (.aload_n 0, 1) := by decide +kernel
theorem dX12_advise_133 : decode cX12_advise 133 = .ok (.getfield 61, 3) := by decide +kernel
theorem dX12_advise_136 : decode cX12_advise 136 = .ok (.iload 7, 2) := by decide +kernel
theorem dX12_advise_138 : decode cX12_advise 138 = .ok (.iaload, 1) := by decide +kernel
theorem dX12_advise_139 : decode cX12_advise 139 = .ok (.aload_n 0, 1) := by decide +kernel
theorem dX12_advise_140 : decode cX12_advise 140 = .ok (.getfield 61, 3) := by decide +kernel
theorem dX12_advise_143 : decode cX12_advise 143 = .ok (.iload 6, 2) := by decide +kernel
theorem dX12_advise_145 : decode cX12_advise 145 = .ok (.iaload, 1) := by decide +kernel
theorem dX12_advise_146 : decode cX12_advise 146 = .ok (.if_icmp .ge 8, 3) := by decide +kernel
theorem dX12_advise_149 : decode cX12_advise 149 = .ok (.iload 7, 2) := by decide +kernel
theorem dX12_advise_151 : decode cX12_advise 151 = .ok (.goto 5, 3) := by decide +kernel
theorem dX12_advise_154 : decode cX12_advise 154 = .ok (.iload 6, 2) := by decide +kernel
theorem dX12_advise_156 : decode cX12_advise 156 = .ok (.istore 6, 2) := by decide +kernel
theorem dX12_advise_158 : decode cX12_advise 158 = .ok (.iinc 7 1, 3) := by decide +kernel
theorem dX12_advise_161 : decode cX12_advise 161 = .ok (.goto (-94), 3) := by decide +kernel
theorem dX12_advise_164 : decode cX12_advise 164 = .ok (.aload_n 0, 1) := by decide +kernel
theorem dX12_advise_165 : decode cX12_advise 165 = .ok (.getfield 67, 3) := by decide +kernel
theorem dX12_advise_168 : decode cX12_advise 168 = .ok (.iload 5, 2) := by decide +kernel
theorem dX12_advise_170 : decode cX12_advise 170 = .ok (.iload 6, 2) := by decide +kernel
theorem dX12_advise_172 : decode cX12_advise 172 = .ok (.iastore, 1) := by decide +kernel
theorem dX12_advise_173 : decode cX12_advise 173 = .ok (.iload 6, 2) := by decide +kernel
theorem dX12_advise_175 : decode cX12_advise 175 = .ok (.ifCond .lt 76, 3) := by decide +kernel
theorem dX12_advise_178 : decode cX12_advise 178 = .ok (.aload_n 0, 1) := by decide +kernel
theorem dX12_advise_179 : decode cX12_advise 179 = .ok (.iload 6, 2) := by decide +kernel
theorem dX12_advise_181 : decode cX12_advise 181 = .ok (.invokevirtual 247, 3) := by decide +kernel
theorem dX12_advise_184 : decode cX12_advise 184 = .ok (.istore 7, 2) := by decide +kernel
theorem dX12_advise_186 : decode cX12_advise 186 = .ok (.aload_n 0, 1) := by decide +kernel
theorem dX12_advise_187 : decode cX12_advise 187 = .ok (.getfield 61, 3) := by decide +kernel
theorem dX12_advise_190 : decode cX12_advise 190 = .ok (.iload 6, 2) := by decide +kernel
theorem dX12_advise_192 : decode cX12_advise 192 = .ok (.dup2, 1) := by decide +kernel
theorem dX12_advise_193 : decode cX12_advise 193 = .ok (.iaload, 1) := by decide +kernel
theorem dX12_advise_194 : decode cX12_advise 194 = .ok (.iload_n 3, 1) := by decide +kernel
theorem dX12_advise_195 : decode cX12_advise 195 = .ok (.ifCond .eq 16, 3) := by decide +kernel
theorem dX12_advise_198 : decode cX12_advise 198 = .ok (.bipush 20, 2) := by decide +kernel
theorem dX12_advise_200 : decode cX12_advise 200 = .ok (.iload 7, 2) := by decide +kernel
theorem dX12_advise_202 : decode cX12_advise 202 = .ok (.iadd, 1) := by decide +kernel
theorem dX12_advise_203 : decode cX12_advise 203 = .ok (.iconst 1, 1) := by decide +kernel
theorem dX12_advise_204 : decode cX12_advise 204 = .ok (.isub, 1) := by decide +kernel
theorem dX12_advise_205 : decode cX12_advise 205 = .ok (.iload 7, 2) := by decide +kernel
theorem dX12_advise_207 : decode cX12_advise 207 = .ok (.idiv, 1) := by decide +kernel
theorem dX12_advise_208 : decode cX12_advise 208 = .ok (.goto 4, 3) := by decide +kernel
theorem dX12_advise_211 : decode cX12_advise 211 = .ok (.iconst 0, 1) := by decide +kernel
theorem dX12_advise_212 : decode cX12_advise 212 = .ok (.iadd, 1) := by decide +kernel
theorem dX12_advise_213 : decode cX12_advise 213 = .ok (.iastore, 1) := by decide +kernel
theorem dX12_advise_214 : decode cX12_advise 214 = .ok (.aload_n 0, 1) := by decide +kernel
theorem dX12_advise_215 : decode cX12_advise 215 = .ok (.getfield 64, 3) := by decide +kernel
theorem dX12_advise_218 : decode cX12_advise 218 = .ok (.iload 6, 2) := by decide +kernel
theorem dX12_advise_220 : decode cX12_advise 220 = .ok (.dup2, 1) := by decide +kernel
theorem dX12_advise_221 : decode cX12_advise 221 = .ok (.iaload, 1) := by decide +kernel
theorem dX12_advise_222 : decode cX12_advise 222 = .ok (.iconst 1, 1) := by decide +kernel
theorem dX12_advise_223 : decode cX12_advise 223 = .ok (.iadd, 1) := by decide +kernel
theorem dX12_advise_224 : decode cX12_advise 224 = .ok (.iastore, 1) := by decide +kernel
theorem dX12_advise_225 : decode cX12_advise 225 = .ok (.aload_n 0, 1) := by decide +kernel
theorem dX12_advise_226 : decode cX12_advise 226 = .ok (.getfield 64, 3) := by decide +kernel
theorem dX12_advise_229 : decode cX12_advise 229 = .ok (.iload 6, 2) := by decide +kernel
theorem dX12_advise_231 : decode cX12_advise 231 = .ok (.iaload, 1) := by decide +kernel
theorem dX12_advise_232 : decode cX12_advise 232 = .ok (.iload 4, 2) := by decide +kernel
theorem dX12_advise_234 : decode cX12_advise 234 = .ok (.if_icmp .le 13, 3) := by decide +kernel
theorem dX12_advise_237 : decode cX12_advise 237 = .ok (.aload_n 0, 1) := by decide +kernel
theorem dX12_advise_238 : decode cX12_advise 238 = .ok (.getfield 64, 3) := by decide +kernel
theorem dX12_advise_241 : decode cX12_advise 241 = .ok (.iload 6, 2) := by decide +kernel
theorem dX12_advise_243 : decode cX12_advise 243 = .ok (.iaload, 1) := by decide +kernel
theorem dX12_advise_244 : decode cX12_advise 244 = .ok (.goto 5, 3) := by decide +kernel
theorem dX12_advise_247 : decode cX12_advise 247 = .ok (.iload 4, 2) := by decide +kernel
theorem dX12_advise_249 : decode cX12_advise 249 = .ok (.istore 4, 2) := by decide +kernel
theorem dX12_advise_251 : decode cX12_advise 251 = .ok (.iinc 5 1, 3) := by decide +kernel
theorem dX12_advise_254 : decode cX12_advise 254 = .ok (.goto (-200), 3) := by decide +kernel
theorem dX12_advise_257 : decode cX12_advise 257 = .ok (.iload 4, 2) := by decide +kernel
theorem dX12_advise_259 : decode cX12_advise 259 = .ok (.ireturn, 1) := by decide +kernel
theorem dX12_advice_0 : decode cX12_advice 0 = .ok (.iload_n 1, 1) := by decide +kernel
theorem dX12_advice_1 : decode cX12_advice 1 = .ok (.iconst 1, 1) := by decide +kernel
theorem dX12_advice_2 : decode cX12_advice 2 = .ok (.aload_n 0, 1) := by decide +kernel
theorem dX12_advice_3 : decode cX12_advice 3 = .ok (.getfield 7, 3) := by decide +kernel
theorem dX12_advice_6 : decode cX12_advice 6 = .ok (.iconst 3, 1) := by decide +kernel
theorem dX12_advice_7 : decode cX12_advice 7 = .ok (.iaload, 1) := by decide +kernel
theorem dX12_advice_8 : decode cX12_advice 8 = .ok (.invokestatic 76, 3) := by decide +kernel
theorem dX12_advice_11 : decode cX12_advice 11 = .ok (.ifCond .eq 49, 3) := by decide +kernel
theorem dX12_advice_14 : decode cX12_advice 14 = .ok (.iload_n 2, 1) := by decide +kernel
theorem dX12_advice_15 : decode cX12_advice 15 = .ok (.iconst 0, 1) := by decide +kernel
theorem dX12_advice_16 : decode cX12_advice 16 = .ok (.sipush 999, 3) := by decide +kernel
theorem dX12_advice_19 : decode cX12_advice 19 = .ok (.invokestatic 76, 3) := by decide +kernel
theorem dX12_advice_22 : decode cX12_advice 22 = .ok (.ifCond .eq 38, 3) := by decide +kernel
theorem dX12_advice_25 : decode cX12_advice 25 = .ok (.iload_n 3, 1) := by decide +kernel
theorem dX12_advice_26 : decode cX12_advice 26 = .ok (.iconst 0, 1) := by decide +kernel
theorem dX12_advice_27 : decode cX12_advice 27 = .ok (.iconst 1, 1) := by decide +kernel
theorem dX12_advice_28 : decode cX12_advice 28 = .ok (.invokestatic 76, 3) := by decide +kernel
theorem dX12_advice_31 : decode cX12_advice 31 = .ok (.ifCond .ne 31, 3) := by decide +kernel
theorem dX12_advice_34 : decode cX12_advice 34 = .ok (.iload_n 3, 1) := by decide +kernel
theorem dX12_advice_35 : decode cX12_advice 35 = .ok (.bipush 10, 2) := by decide +kernel
theorem dX12_advice_37 : decode cX12_advice 37 = .ok (.bipush 9, 2) := by decide +kernel
theorem dX12_advice_39 : decode cX12_advice 39 = .ok (.iload_n 1, 1) := by decide +kernel
theorem dX12_advice_40 : decode cX12_advice 40 = .ok (.iadd, 1) := by decide +kernel
theorem dX12_advice_41 : decode cX12_advice 41 = .ok (.invokestatic 76, 3) := by decide +kernel
theorem dX12_advice_44 : decode cX12_advice 44 = .ok (.ifCond .ne 18, 3) := by decide +kernel
theorem dX12_advice_47 : decode cX12_advice 47 = .ok (.iload_n 3, 1) := by decide +kernel
theorem dX12_advice_48 : decode cX12_advice 48 = .ok (.bipush 30, 2) := by decide +kernel
theorem dX12_advice_50 : decode cX12_advice 50 = .ok (.bipush 29, 2) := by decide +kernel
theorem dX12_advice_52 : decode cX12_advice 52 = .ok (.iload_n 1, 1) := by decide +kernel
theorem dX12_advice_53 : decode cX12_advice 53 = .ok (.iadd, 1) := by decide +kernel
theorem dX12_advice_54 : decode cX12_advice 54 = .ok (.invokestatic 76, 3) := by decide +kernel
theorem dX12_advice_57 : decode cX12_advice 57 = .ok (.ifCond .ne 5, 3) := by decide +kernel
theorem dX12_advice_60 : decode cX12_advice 60 = .ok (.iconst (-1), 1) := by decide +kernel
theorem dX12_advice_61 : decode cX12_advice 61 = .ok (.ireturn, 1) := by decide +kernel
theorem dX12_advice_62 : decode cX12_advice 62 = .ok (.aload_n 0, 1) := by decide +kernel
theorem dX12_advice_63 : decode cX12_advice 63 = .ok (.iload_n 1, 1) := by decide +kernel
theorem dX12_advice_64 : decode cX12_advice 64 = .ok (.iload_n 2, 1) := by decide +kernel
theorem dX12_advice_65 : decode cX12_advice 65 = .ok (.iload_n 3, 1) := by decide +kernel
theorem dX12_advice_66 : decode cX12_advice 66 = .ok (.iconst 1, 1) := by decide +kernel
theorem dX12_advice_67 : decode cX12_advice 67 = .ok (.if_icmp .eq 9, 3) := by decide +kernel
theorem dX12_advice_70 : decode cX12_advice 70 = .ok (.iload_n 3, 1) := by decide +kernel
theorem dX12_advice_71 : decode cX12_advice 71 = .ok (.bipush 30, 2) := by decide +kernel
theorem dX12_advice_73 : decode cX12_advice 73 = .ok (.if_icmp .lt 7, 3) := by decide +kernel
theorem dX12_advice_76 : decode cX12_advice 76 = .ok (.iconst 1, 1) := by decide +kernel
theorem dX12_advice_77 : decode cX12_advice 77 = .ok (.goto 4, 3) := by decide +kernel
theorem dX12_advice_80 : decode cX12_advice 80 = .ok (.iconst 0, 1) := by decide +kernel
theorem dX12_advice_81 : decode cX12_advice 81 = .ok (.invokevirtual 250, 3) := by decide +kernel
theorem dX12_advice_84 : decode cX12_advice 84 = .ok (.istore 4, 2) := by decide +kernel
theorem dX12_advice_86 : decode cX12_advice 86 = .ok (.iload_n 3, 1) := by decide +kernel
theorem dX12_advice_87 : decode cX12_advice 87 = .ok (.iconst 2, 1) := by decide +kernel
theorem dX12_advice_88 : decode cX12_advice 88 = .ok (.if_icmp .ge 8, 3) := by decide +kernel
theorem dX12_advice_91 : decode cX12_advice 91 = .ok (.iload 4, 2) := by decide +kernel
theorem dX12_advice_93 : decode cX12_advice 93 = .ok (.goto 30, 3) := by decide +kernel
theorem dX12_advice_96 : decode cX12_advice 96 = .ok (.iload_n 3, 1) := by decide +kernel
theorem dX12_advice_97 : decode cX12_advice 97 = .ok (.bipush 30, 2) := by decide +kernel
theorem dX12_advice_99 : decode cX12_advice 99 = .ok (.if_icmp .ge 15, 3) := by decide +kernel
theorem dX12_advice_102 : decode cX12_advice 102 = .ok (.aload_n 0, 1) := by decide +kernel
theorem dX12_advice_103 : decode cX12_advice 103 = .ok (.getfield 67, 3) := by decide +kernel
theorem dX12_advice_106 : decode cX12_advice 106 = .ok (.iload_n 3, 1) := by decide +kernel
theorem dX12_advice_107 : decode cX12_advice 107 = .ok (.bipush 10, 2) := by decide +kernel
theorem dX12_advice_109 : decode cX12_advice 109 = .ok (.isub, 1) := by decide +kernel
theorem dX12_advice_110 : decode cX12_advice 110 = .ok (.iaload, 1) := by decide +kernel
theorem dX12_advice_111 : decode cX12_advice 111 = .ok (.goto 12, 3) := by decide +kernel
theorem dX12_advice_114 : decode cX12_advice 114 = .ok (.aload_n 0, 1) := by decide +kernel
theorem dX12_advice_115 : decode cX12_advice 115 = .ok (.getfield 67, 3) := by decide +kernel
theorem dX12_advice_118 : decode cX12_advice 118 = .ok (.iload_n 3, 1) := by decide +kernel
theorem dX12_advice_119 : decode cX12_advice 119 = .ok (.bipush 30, 2) := by decide +kernel
theorem dX12_advice_121 : decode cX12_advice 121 = .ok (.isub, 1) := by decide +kernel
theorem dX12_advice_122 : decode cX12_advice 122 = .ok (.iaload, 1) := by decide +kernel
theorem dX12_advice_123 : decode cX12_advice 123 = .ok (.ireturn, 1) := by decide +kernel
theorem dX12_line_0 : decode cX12_line 0 = .ok (.iload_n 2, 1) := by decide +kernel
theorem dX12_line_1 : decode cX12_line 1 = .ok (.iconst 0, 1) := by decide +kernel
theorem dX12_line_2 : decode cX12_line 2 = .ok (.bipush 11, 2) := by decide +kernel
theorem dX12_line_4 : decode cX12_line 4 = .ok (.invokestatic 76, 3) := by decide +kernel
theorem dX12_line_7 : decode cX12_line 7 = .ok (.ifCond .eq 26, 3) := by decide +kernel
theorem dX12_line_10 : decode cX12_line 10 = .ok (.iload_n 3, 1) := by decide +kernel
theorem dX12_line_11 : decode cX12_line 11 = .ok (.iconst 0, 1) := by decide +kernel
theorem dX12_line_12 : decode cX12_line 12 = .ok (.sipush 2000, 3) := by decide +kernel
theorem dX12_line_15 : decode cX12_line 15 = .ok (.invokestatic 76, 3) := by decide +kernel
theorem dX12_line_18 : decode cX12_line 18 = .ok (.ifCond .eq 15, 3) := by decide +kernel
theorem dX12_line_21 : decode cX12_line 21 = .ok (.iload 4, 2) := by decide +kernel
theorem dX12_line_23 : decode cX12_line 23 = .ok (.iconst 0, 1) := by decide +kernel
theorem dX12_line_24 : decode cX12_line 24 = .ok (.sipush 200, 3) := by decide +kernel
theorem dX12_line_27 : decode cX12_line 27 = .ok (.invokestatic 76, 3) := by decide +kernel
theorem dX12_line_30 : decode cX12_line 30 = .ok (.ifCond .ne 5, 3) := by decide +kernel
theorem dX12_line_33 : decode cX12_line 33 = .ok (.iconst (-1), 1) := by decide +kernel
theorem dX12_line_34 : decode cX12_line 34 = .ok (.ireturn, 1) := by decide +kernel
theorem dX12_line_35 : decode cX12_line 35 = .ok (.iload_n 1, 1) := by decide +kernel
theorem dX12_line_36 : decode cX12_line 36 = .ok (.ifCond .eq 8, 3) := by decide +kernel
theorem dX12_line_39 : decode cX12_line 39 = .ok (.bipush 6, 2) := by decide +kernel
theorem dX12_line_41 : decode cX12_line 41 = .ok (.goto 4, 3) := by decide +kernel
theorem dX12_line_44 : decode cX12_line 44 = .ok (.iconst 5, 1) := by decide +kernel
theorem dX12_line_45 : decode cX12_line 45 = .ok (.istore 5, 2) := by decide +kernel
theorem dX12_line_47 : decode cX12_line 47 = .ok (.aload_n 0, 1) := by decide +kernel
theorem dX12_line_48 : decode cX12_line 48 = .ok (.getfield 7, 3) := by decide +kernel
theorem dX12_line_51 : decode cX12_line 51 = .ok (.iload 5, 2) := by decide +kernel
theorem dX12_line_53 : decode cX12_line 53 = .ok (.iaload, 1) := by decide +kernel
theorem dX12_line_54 : decode cX12_line 54 = .ok (.bipush 7, 2) := by decide +kernel
theorem dX12_line_56 : decode cX12_line 56 = .ok (.if_icmp .ne 6, 3) := by decide +kernel
theorem dX12_line_59 : decode cX12_line 59 = .ok (.bipush (-2), 2) := by decide +kernel
theorem dX12_line_61 : decode cX12_line 61 = .ok (.ireturn, 1) := by decide +kernel
theorem dX12_line_62 : decode cX12_line 62 = .ok (.iconst 3, 1) := by decide +kernel
theorem dX12_line_63 : decode cX12_line 63 = .ok (.aload_n 0, 1) := by decide +kernel
theorem dX12_line_64 : decode cX12_line 64 = .ok (.getfield 7, 3) := by decide +kernel
theorem dX12_line_67 : decode cX12_line 67 = .ok (.iload 5, 2) := by decide +kernel
theorem dX12_line_69 : decode cX12_line 69 = .ok (.iaload, 1) := by decide +kernel
theorem dX12_line_70 : decode cX12_line 70 = .ok (.imul, 1) := by decide +kernel
theorem dX12_line_71 : decode cX12_line 71 = .ok (.iload_n 1, 1) := by decide +kernel
theorem dX12_line_72 : decode cX12_line 72 = .ok (.ifCond .eq 8, 3) := by decide +kernel
theorem dX12_line_75 : decode cX12_line 75 = .ok (.bipush 21, 2) := by decide +kernel
theorem dX12_line_77 : decode cX12_line 77 = .ok (.goto 4, 3) := by decide +kernel
theorem dX12_line_80 : decode cX12_line 80 = .ok (.iconst 0, 1) := by decide +kernel
theorem dX12_line_81 : decode cX12_line 81 = .ok (.iadd, 1) := by decide +kernel
theorem dX12_line_82 : decode cX12_line 82 = .ok (.istore 6, 2) := by decide +kernel
theorem dX12_line_84 : decode cX12_line 84 = .ok (.aload_n 0, 1) := by decide +kernel
theorem dX12_line_85 : decode cX12_line 85 = .ok (.getfield 31, 3) := by decide +kernel
theorem dX12_line_88 : decode cX12_line 88 = .ok (.iload 6, 2) := by decide +kernel
theorem dX12_line_90 : decode cX12_line 90 = .ok (.iload_n 2, 1) := by decide +kernel
theorem dX12_line_91 : decode cX12_line 91 = .ok (.iastore, 1) := by decide +kernel
theorem dX12_line_92 : decode cX12_line 92 = .ok (.aload_n 0, 1) := by decide +kernel
theorem dX12_line_93 : decode cX12_line 93 = .ok (.getfield 31, 3) := by decide +kernel
theorem dX12_line_96 : decode cX12_line 96 = .ok (.iload 6, 2) := by decide +kernel
theorem dX12_line_98 : decode cX12_line 98 = .ok (.iconst 1, 1) := by decide +kernel
theorem dX12_line_99 : decode cX12_line 99 = .ok (.iadd, 1) := by decide +kernel
theorem dX12_line_100 : decode cX12_line 100 = .ok (.iload_n 3, 1) := by decide +kernel
theorem dX12_line_101 : decode cX12_line 101 = .ok (.iastore, 1) := by decide +kernel
theorem dX12_line_102 : decode cX12_line 102 = .ok (.aload_n 0, 1) := by decide +kernel
theorem dX12_line_103 : decode cX12_line 103 = .ok (.getfield 31, 3) := by decide +kernel
theorem dX12_line_106 : decode cX12_line 106 = .ok (.iload 6, 2) := by decide +kernel
theorem dX12_line_108 : decode cX12_line 108 = .ok (.iconst 2, 1) := by decide +kernel
theorem dX12_line_109 : decode cX12_line 109 = .ok (.iadd, 1) := by decide +kernel
theorem dX12_line_110 : decode cX12_line 110 = .ok (.iload 4, 2) := by decide +kernel
theorem dX12_line_112 : decode cX12_line 112 = .ok (.iastore, 1) := by decide +kernel
theorem dX12_line_113 : decode cX12_line 113 = .ok (.aload_n 0, 1) := by decide +kernel
theorem dX12_line_114 : decode cX12_line 114 = .ok (.getfield 7, 3) := by decide +kernel
theorem dX12_line_117 : decode cX12_line 117 = .ok (.iload 5, 2) := by decide +kernel
theorem dX12_line_119 : decode cX12_line 119 = .ok (.dup2, 1) := by decide +kernel
theorem dX12_line_120 : decode cX12_line 120 = .ok (.iaload, 1) := by decide +kernel
theorem dX12_line_121 : decode cX12_line 121 = .ok (.iconst 1, 1) := by decide +kernel
theorem dX12_line_122 : decode cX12_line 122 = .ok (.iadd, 1) := by decide +kernel
theorem dX12_line_123 : decode cX12_line 123 = .ok (.iastore, 1) := by decide +kernel
theorem dX12_line_124 : decode cX12_line 124 = .ok (.aload_n 0, 1) := by decide +kernel
theorem dX12_line_125 : decode cX12_line 125 = .ok (.getfield 7, 3) := by decide +kernel
theorem dX12_line_128 : decode cX12_line 128 = .ok (.iload 5, 2) := by decide +kernel
theorem dX12_line_130 : decode cX12_line 130 = .ok (.iaload, 1) := by decide +kernel
theorem dX12_line_131 : decode cX12_line 131 = .ok (.iconst 1, 1) := by decide +kernel
theorem dX12_line_132 : decode cX12_line 132 = .ok (.isub, 1) := by decide +kernel
theorem dX12_line_133 : decode cX12_line 133 = .ok (.ireturn, 1) := by decide +kernel
theorem dX12_size_0 : decode cX12_size 0 = .ok (.iload_n 0, 1) := by decide +kernel
theorem dX12_size_1 : decode cX12_size 1 = .ok (.ifCond .ge 8, 3) := by decide +kernel
theorem dX12_size_4 : decode cX12_size 4 = .ok (.iload_n 0, 1) := by decide +kernel
theorem dX12_size_5 : decode cX12_size 5 = .ok (.ineg, 1) := by decide +kernel
theorem dX12_size_6 : decode cX12_size 6 = .ok (.goto 4, 3) := by decide +kernel
theorem dX12_size_9 : decode cX12_size 9 = .ok (.iload_n 0, 1) := by decide +kernel
theorem dX12_size_10 : decode cX12_size 10 = .ok (.ireturn, 1) := by decide +kernel
theorem dX12_unlike_0 : decode cX12_unlike 0 = .ok (.aload_n 0, 1) := by decide +kernel
theorem dX12_unlike_1 : decode cX12_unlike 1 = .ok (.getfield 31, 3) := by decide +kernel
theorem dX12_unlike_4 : decode cX12_unlike 4 = .ok (.iconst 3, 1) := by decide +kernel
theorem dX12_unlike_5 : decode cX12_unlike 5 = .ok (.iload_n 1, 1) := by decide +kernel
theorem dX12_unlike_6 : decode cX12_unlike 6 = .ok (.imul, 1) := by decide +kernel
theorem dX12_unlike_7 : decode cX12_unlike 7 = .ok (.iconst 2, 1) := by decide +kernel
theorem dX12_unlike_8 : decode cX12_unlike 8 = .ok (.iadd, 1) := by decide +kernel
theorem dX12_unlike_9 : decode cX12_unlike 9 = .ok (.iaload, 1) := by decide +kernel
theorem dX12_unlike_10 : decode cX12_unlike 10 = .ok (.aload_n 0, 1) := by decide +kernel
theorem dX12_unlike_11 : decode cX12_unlike 11 = .ok (.getfield 31, 3) := by decide +kernel
theorem dX12_unlike_14 : decode cX12_unlike 14 = .ok (.bipush 21, 2) := by decide +kernel
theorem dX12_unlike_16 : decode cX12_unlike 16 = .ok (.iconst 3, 1) := by decide +kernel
theorem dX12_unlike_17 : decode cX12_unlike 17 = .ok (.iload_n 2, 1) := by decide +kernel
theorem dX12_unlike_18 : decode cX12_unlike 18 = .ok (.imul, 1) := by decide +kernel
theorem dX12_unlike_19 : decode cX12_unlike 19 = .ok (.iadd, 1) := by decide +kernel
theorem dX12_unlike_20 : decode cX12_unlike 20 = .ok (.iconst 2, 1) := by decide +kernel
theorem dX12_unlike_21 : decode cX12_unlike 21 = .ok (.iadd, 1) := by decide +kernel
theorem dX12_unlike_22 : decode cX12_unlike 22 = .ok (.iaload, 1) := by decide +kernel
theorem dX12_unlike_23 : decode cX12_unlike 23 = .ok (.isub, 1) := by decide +kernel
theorem dX12_unlike_24 : decode cX12_unlike 24 = .ok (.invokestatic 254, 3) := by decide +kernel
theorem dX12_unlike_27 : decode cX12_unlike 27 = .ok (.ireturn, 1) := by decide +kernel
theorem dX12_mayBeOne_0 : decode cX12_mayBeOne 0 = .ok (.aload_n 0, 1) := by decide +kernel
theorem dX12_mayBeOne_1 : decode cX12_mayBeOne 1 = .ok (.getfield 31, 3) := by decide +kernel
theorem dX12_mayBeOne_4 : decode cX12_mayBeOne 4 = .ok (.iconst 3, 1) := by decide +kernel
theorem dX12_mayBeOne_5 : decode cX12_mayBeOne 5 = .ok (.iload_n 1, 1) := by decide +kernel
theorem dX12_mayBeOne_6 : decode cX12_mayBeOne 6 = .ok (.imul, 1) := by decide +kernel
theorem dX12_mayBeOne_7 : decode cX12_mayBeOne 7 = .ok (.iconst 1, 1) := by decide +kernel
theorem dX12_mayBeOne_8 : decode cX12_mayBeOne 8 = .ok (.iadd, 1) := by decide +kernel
theorem dX12_mayBeOne_9 : decode cX12_mayBeOne 9 = .ok (.iaload, 1) := by decide +kernel
theorem dX12_mayBeOne_10 : decode cX12_mayBeOne 10 = .ok (.aload_n 0, 1) := by decide +kernel
theorem dX12_mayBeOne_11 : decode cX12_mayBeOne 11 = .ok (.getfield 31, 3) := by decide +kernel
theorem dX12_mayBeOne_14 : decode cX12_mayBeOne 14 = .ok (.bipush 21, 2) := by decide +kernel
theorem dX12_mayBeOne_16 : decode cX12_mayBeOne 16 = .ok (.iconst 3, 1) := by decide +kernel
theorem dX12_mayBeOne_17 : decode cX12_mayBeOne 17 = .ok (.iload_n 2, 1) := by decide +kernel
theorem dX12_mayBeOne_18 : decode cX12_mayBeOne 18 = .ok (.imul, 1) := by decide +kernel
theorem dX12_mayBeOne_19 : decode cX12_mayBeOne 19 = .ok (.iadd, 1) := by decide +kernel
theorem dX12_mayBeOne_20 : decode cX12_mayBeOne 20 = .ok (.iconst 1, 1) := by decide +kernel
theorem dX12_mayBeOne_21 : decode cX12_mayBeOne 21 = .ok (.iadd, 1) := by decide +kernel
theorem dX12_mayBeOne_22 : decode cX12_mayBeOne 22 = .ok (.iaload, 1) := by decide +kernel
theorem dX12_mayBeOne_23 : decode cX12_mayBeOne 23 = .ok (.isub, 1) := by decide +kernel
theorem dX12_mayBeOne_24 : decode cX12_mayBeOne 24 = .ok (.invokestatic 254, 3) := by decide +kernel
theorem dX12_mayBeOne_27 : decode cX12_mayBeOne 27 = .ok (.iconst 2, 1) := by decide +kernel
theorem dX12_mayBeOne_28 : decode cX12_mayBeOne 28 = .ok (.if_icmp .gt 7, 3) := by decide +kernel
theorem dX12_mayBeOne_31 : decode cX12_mayBeOne 31 = .ok (.iconst 1, 1) := by decide +kernel
theorem dX12_mayBeOne_32 : decode cX12_mayBeOne 32 = .ok (.goto 4, 3) := by decide +kernel
theorem dX12_mayBeOne_35 : decode cX12_mayBeOne 35 = .ok (.iconst 0, 1) := by decide +kernel
theorem dX12_mayBeOne_36 : decode cX12_mayBeOne 36 = .ok (.istore_n 3, 1) := by decide +kernel
theorem dX12_mayBeOne_37 : decode cX12_mayBeOne 37 = .ok (.aload_n 0, 1) := by decide +kernel
theorem dX12_mayBeOne_38 : decode cX12_mayBeOne 38 = .ok (.getfield 31, 3) := by decide +kernel
theorem dX12_mayBeOne_41 : decode cX12_mayBeOne 41 = .ok (.iconst 3, 1) := by decide +kernel
theorem dX12_mayBeOne_42 : decode cX12_mayBeOne 42 = .ok (.iload_n 1, 1) := by decide +kernel
theorem dX12_mayBeOne_43 : decode cX12_mayBeOne 43 = .ok (.imul, 1) := by decide +kernel
theorem dX12_mayBeOne_44 : decode cX12_mayBeOne 44 = .ok (.iaload, 1) := by decide +kernel
theorem dX12_mayBeOne_45 : decode cX12_mayBeOne 45 = .ok (.aload_n 0, 1) := by decide +kernel
theorem dX12_mayBeOne_46 : decode cX12_mayBeOne 46 = .ok (.getfield 31, 3) := by decide +kernel
theorem dX12_mayBeOne_49 : decode cX12_mayBeOne 49 = .ok (.bipush 21, 2) := by decide +kernel
theorem dX12_mayBeOne_51 : decode cX12_mayBeOne 51 = .ok (.iconst 3, 1) := by decide +kernel
theorem dX12_mayBeOne_52 : decode cX12_mayBeOne 52 = .ok (.iload_n 2, 1) := by decide +kernel
theorem dX12_mayBeOne_53 : decode cX12_mayBeOne 53 = .ok (.imul, 1) := by decide +kernel
theorem dX12_mayBeOne_54 : decode cX12_mayBeOne 54 = .ok (.iadd, 1) := by decide +kernel
theorem dX12_mayBeOne_55 : decode cX12_mayBeOne 55 = .ok (.iaload, 1) := by decide +kernel
theorem dX12_mayBeOne_56 : decode cX12_mayBeOne 56 = .ok (.if_icmp .ne 27, 3) := by decide +kernel
theorem dX12_mayBeOne_59 : decode cX12_mayBeOne 59 = .ok (.iload_n 3, 1) := by decide +kernel
theorem dX12_mayBeOne_60 : decode cX12_mayBeOne 60 = .ok (.ifCond .eq 23, 3) := by decide +kernel
theorem dX12_mayBeOne_63 : decode cX12_mayBeOne 63 = .ok (.aload_n 0, 1) := by decide +kernel
theorem dX12_mayBeOne_64 : decode cX12_mayBeOne 64 = .ok (.iload_n 1, 1) := by decide +kernel
theorem dX12_mayBeOne_65 : decode cX12_mayBeOne 65 = .ok (.iload_n 2, 1) := by decide +kernel
theorem dX12_mayBeOne_66 : decode cX12_mayBeOne 66 = .ok (.invokevirtual 257, 3) := by decide +kernel
theorem dX12_mayBeOne_69 : decode cX12_mayBeOne 69 = .ok (.aload_n 0, 1) := by decide +kernel
theorem dX12_mayBeOne_70 : decode cX12_mayBeOne 70 = .ok (.getfield 7, 3) := by decide +kernel
theorem dX12_mayBeOne_73 : decode cX12_mayBeOne 73 = .ok (.bipush 8, 2) := by decide +kernel
theorem dX12_mayBeOne_75 : decode cX12_mayBeOne 75 = .ok (.iaload, 1) := by decide +kernel
theorem dX12_mayBeOne_76 : decode cX12_mayBeOne 76 = .ok (.if_icmp .gt 7, 3) := by decide +kernel
theorem dX12_mayBeOne_79 : decode cX12_mayBeOne 79 = .ok (.iconst 1, 1) := by decide +kernel
theorem dX12_mayBeOne_80 : decode cX12_mayBeOne 80 = .ok (.goto 4, 3) := by decide +kernel
theorem dX12_mayBeOne_83 : decode cX12_mayBeOne 83 = .ok (.iconst 0, 1) := by decide +kernel
theorem dX12_mayBeOne_84 : decode cX12_mayBeOne 84 = .ok (.ireturn, 1) := by decide +kernel
theorem dX12_pairs_0 : decode cX12_pairs 0 = .ok (.iload_n 3, 1) := by decide +kernel
theorem dX12_pairs_1 : decode cX12_pairs 1 = .ok (.iload_n 2, 1) := by decide +kernel
theorem dX12_pairs_2 : decode cX12_pairs 2 = .ok (.ishr, 1) := by decide +kernel
theorem dX12_pairs_3 : decode cX12_pairs 3 = .ok (.iconst 1, 1) := by decide +kernel
theorem dX12_pairs_4 : decode cX12_pairs 4 = .ok (.iand, 1) := by decide +kernel
theorem dX12_pairs_5 : decode cX12_pairs 5 = .ok (.iconst 1, 1) := by decide +kernel
theorem dX12_pairs_6 : decode cX12_pairs 6 = .ok (.if_icmp .eq 12, 3) := by decide +kernel
theorem dX12_pairs_9 : decode cX12_pairs 9 = .ok (.aload_n 0, 1) := by decide +kernel
theorem dX12_pairs_10 : decode cX12_pairs 10 = .ok (.iload_n 1, 1) := by decide +kernel
theorem dX12_pairs_11 : decode cX12_pairs 11 = .ok (.iload_n 2, 1) := by decide +kernel
theorem dX12_pairs_12 : decode cX12_pairs 12 = .ok (.invokevirtual 260, 3) := by decide +kernel
theorem dX12_pairs_15 : decode cX12_pairs 15 = .ok (.ifCond .ne 5, 3) := by decide +kernel
theorem dX12_pairs_18 : decode cX12_pairs 18 = .ok (.iconst (-1), 1) := by decide +kernel
theorem dX12_pairs_19 : decode cX12_pairs 19 = .ok (.ireturn, 1) := by decide +kernel
theorem dX12_pairs_20 : decode cX12_pairs 20 = .ok (.sipush 10000, 3) := by decide +kernel
theorem dX12_pairs_23 : decode cX12_pairs 23 = .ok (.aload_n 0, 1) := by decide +kernel
theorem dX12_pairs_24 : decode cX12_pairs 24 = .ok (.iload_n 1, 1) := by decide +kernel
theorem dX12_pairs_25 : decode cX12_pairs 25 = .ok (.iload_n 2, 1) := by decide +kernel
theorem dX12_pairs_26 : decode cX12_pairs 26 = .ok (.invokevirtual 257, 3) := by decide +kernel
theorem dX12_pairs_29 : decode cX12_pairs 29 = .ok (.isub, 1) := by decide +kernel
theorem dX12_pairs_30 : decode cX12_pairs 30 = .ok (.aload_n 0, 1) := by decide +kernel
theorem dX12_pairs_31 : decode cX12_pairs 31 = .ok (.getfield 70, 3) := by decide +kernel
theorem dX12_pairs_34 : decode cX12_pairs 34 = .ok (.sipush 128, 3) := by decide +kernel
theorem dX12_pairs_37 : decode cX12_pairs 37 = .ok (.iload_n 1, 1) := by decide +kernel
theorem dX12_pairs_38 : decode cX12_pairs 38 = .ok (.iconst 1, 1) := by decide +kernel
theorem dX12_pairs_39 : decode cX12_pairs 39 = .ok (.iadd, 1) := by decide +kernel
theorem dX12_pairs_40 : decode cX12_pairs 40 = .ok (.imul, 1) := by decide +kernel
theorem dX12_pairs_41 : decode cX12_pairs 41 = .ok (.iload_n 3, 1) := by decide +kernel
theorem dX12_pairs_42 : decode cX12_pairs 42 = .ok (.iconst 1, 1) := by decide +kernel
theorem dX12_pairs_43 : decode cX12_pairs 43 = .ok (.iload_n 2, 1) := by decide +kernel
theorem dX12_pairs_44 : decode cX12_pairs 44 = .ok (.ishl, 1) := by decide +kernel
theorem dX12_pairs_45 : decode cX12_pairs 45 = .ok (.ior, 1) := by decide +kernel
theorem dX12_pairs_46 : decode cX12_pairs 46 = .ok (.iadd, 1) := by decide +kernel
theorem dX12_pairs_47 : decode cX12_pairs 47 = .ok (.iaload, 1) := by decide +kernel
theorem dX12_pairs_48 : decode cX12_pairs 48 = .ok (.iadd, 1) := by decide +kernel
theorem dX12_pairs_49 : decode cX12_pairs 49 = .ok (.ireturn, 1) := by decide +kernel
theorem dX12_weighBooks_0 : decode cX12_weighBooks 0 = .ok (.aload_n 0, 1) := by decide +kernel
theorem dX12_weighBooks_1 : decode cX12_weighBooks 1 = .ok (.getfield 7, 3) := by decide +kernel
theorem dX12_weighBooks_4 : decode cX12_weighBooks 4 = .ok (.iconst 5, 1) := by decide +kernel
theorem dX12_weighBooks_5 : decode cX12_weighBooks 5 = .ok (.iaload, 1) := by decide +kernel
theorem dX12_weighBooks_6 : decode cX12_weighBooks 6 = .ok (.istore_n 1, 1) := by decide +kernel
theorem dX12_weighBooks_7 : decode cX12_weighBooks 7 = .ok (.iconst 0, 1) := by decide +kernel
theorem dX12_weighBooks_8 : decode cX12_weighBooks 8 = .ok (.istore_n 2, 1) := by decide +kernel
theorem dX12_weighBooks_9 : decode cX12_weighBooks 9 = .ok (.iload_n 2, 1) := by decide +kernel
theorem dX12_weighBooks_10 : decode cX12_weighBooks 10 = .ok (.sipush 128, 3) := by decide +kernel
theorem dX12_weighBooks_13 : decode cX12_weighBooks 13 = .ok (.if_icmp .ge 22, 3) := by decide +kernel
theorem dX12_weighBooks_16 : decode cX12_weighBooks 16 = .ok (.aload_n 0, 1) := by decide +kernel
theorem dX12_weighBooks_17 : decode cX12_weighBooks 17 = .ok (.getfield 70, 3) := by decide +kernel
theorem dX12_weighBooks_20 : decode cX12_weighBooks 20 = .ok (.sipush 128, 3) := by decide +kernel
theorem dX12_weighBooks_23 : decode cX12_weighBooks 23 = .ok (.iload_n 1, 1) := by decide +kernel
theorem dX12_weighBooks_24 : decode cX12_weighBooks 24 = .ok (.imul, 1) := by decide +kernel
theorem dX12_weighBooks_25 : decode cX12_weighBooks 25 = .ok (.iload_n 2, 1) := by decide +kernel
theorem dX12_weighBooks_26 : decode cX12_weighBooks 26 = .ok (.iadd, 1) := by decide +kernel
theorem dX12_weighBooks_27 : decode cX12_weighBooks 27 = .ok (.iconst 0, 1) := by decide +kernel
theorem dX12_weighBooks_28 : decode cX12_weighBooks 28 = .ok (.iastore, 1) := by decide +kernel
theorem dX12_weighBooks_29 : decode cX12_weighBooks 29 = .ok (.iinc 2 1, 3) := by decide +kernel
theorem dX12_weighBooks_32 : decode cX12_weighBooks 32 = .ok (.goto (-23), 3) := by decide +kernel
theorem dX12_weighBooks_35 : decode cX12_weighBooks 35 = .ok (.iload_n 1, 1) := by decide +kernel
theorem dX12_weighBooks_36 : decode cX12_weighBooks 36 = .ok (.iconst 1, 1) := by decide +kernel
theorem dX12_weighBooks_37 : decode cX12_weighBooks 37 = .ok (.isub, 1) := by decide +kernel
theorem dX12_weighBooks_38 : decode cX12_weighBooks 38 = .ok (.istore_n 2, 1) := by decide +kernel
theorem dX12_weighBooks_39 : decode cX12_weighBooks 39 = .ok (.iload_n 2, 1) := by decide +kernel
theorem dX12_weighBooks_40 : decode cX12_weighBooks 40 = .ok (.ifCond .lt 101, 3) := by decide +kernel
theorem dX12_weighBooks_43 : decode cX12_weighBooks 43 = .ok (.iconst 0, 1) := by decide +kernel
theorem dX12_weighBooks_44 : decode cX12_weighBooks 44 = .ok (.istore_n 3, 1) := by decide +kernel
theorem dX12_weighBooks_45 : decode cX12_weighBooks 45 = .ok (.iload_n 3, 1) := by decide +kernel
theorem dX12_weighBooks_46 : decode cX12_weighBooks 46 = .ok (.sipush 128, 3) := by decide +kernel
theorem dX12_weighBooks_49 : decode cX12_weighBooks 49 = .ok (.if_icmp .ge 86, 3) := by decide +kernel
theorem dX12_weighBooks_52 : decode cX12_weighBooks 52 = .ok (.aload_n 0, 1) := by decide +kernel
theorem dX12_weighBooks_53 : decode cX12_weighBooks 53 = .ok (.getfield 70, 3) := by decide +kernel
theorem dX12_weighBooks_56 : decode cX12_weighBooks 56 = .ok (.sipush 128, 3) := by decide +kernel
theorem dX12_weighBooks_59 : decode cX12_weighBooks 59 = .ok (.iload_n 2, 1) := by decide +kernel
theorem dX12_weighBooks_60 : decode cX12_weighBooks 60 = .ok (.iconst 1, 1) := by decide +kernel
theorem dX12_weighBooks_61 : decode cX12_weighBooks 61 = .ok (.iadd, 1) := by decide +kernel
theorem dX12_weighBooks_62 : decode cX12_weighBooks 62 = .ok (.imul, 1) := by decide +kernel
theorem dX12_weighBooks_63 : decode cX12_weighBooks 63 = .ok (.iload_n 3, 1) := by decide +kernel
theorem dX12_weighBooks_64 : decode cX12_weighBooks 64 = .ok (.iadd, 1) := by decide +kernel
theorem dX12_weighBooks_65 : decode cX12_weighBooks 65 = .ok (.iaload, 1) := by decide +kernel
theorem dX12_weighBooks_66 : decode cX12_weighBooks 66 = .ok (.istore 4, 2) := by decide +kernel
theorem dX12_weighBooks_68 : decode cX12_weighBooks 68 = .ok (.iconst 0, 1) := by decide +kernel
theorem dX12_weighBooks_69 : decode cX12_weighBooks 69 = .ok (.istore 5, 2) := by decide +kernel
theorem dX12_weighBooks_71 : decode cX12_weighBooks 71 = .ok (.iload 5, 2) := by decide +kernel
theorem dX12_weighBooks_73 : decode cX12_weighBooks 73 = .ok (.aload_n 0, 1) := by decide +kernel
theorem dX12_weighBooks_74 : decode cX12_weighBooks 74 = .ok (.getfield 7, 3) := by decide +kernel
theorem dX12_weighBooks_77 : decode cX12_weighBooks 77 = .ok (.bipush 6, 2) := by decide +kernel
theorem dX12_weighBooks_79 : decode cX12_weighBooks 79 = .ok (.iaload, 1) := by decide +kernel
theorem dX12_weighBooks_80 : decode cX12_weighBooks 80 = .ok (.if_icmp .ge 35, 3) := by decide +kernel
theorem dX12_weighBooks_83 : decode cX12_weighBooks 83 = .ok (.aload_n 0, 1) := by decide +kernel
theorem dX12_weighBooks_84 : decode cX12_weighBooks 84 = .ok (.iload_n 2, 1) := by decide +kernel
theorem dX12_weighBooks_85 : decode cX12_weighBooks 85 = .ok (.iload 5, 2) := by decide +kernel
theorem dX12_weighBooks_87 : decode cX12_weighBooks 87 = .ok (.iload_n 3, 1) := by decide +kernel
theorem dX12_weighBooks_88 : decode cX12_weighBooks 88 = .ok (.invokevirtual 263, 3) := by decide +kernel
theorem dX12_weighBooks_91 : decode cX12_weighBooks 91 = .ok (.istore 6, 2) := by decide +kernel
theorem dX12_weighBooks_93 : decode cX12_weighBooks 93 = .ok (.iload 6, 2) := by decide +kernel
theorem dX12_weighBooks_95 : decode cX12_weighBooks 95 = .ok (.iload 4, 2) := by decide +kernel
theorem dX12_weighBooks_97 : decode cX12_weighBooks 97 = .ok (.if_icmp .le 8, 3) := by decide +kernel
theorem dX12_weighBooks_100 : decode cX12_weighBooks 100 = .ok (.iload 6, 2) := by decide +kernel
theorem dX12_weighBooks_102 : decode cX12_weighBooks 102 = .ok (.goto 5, 3) := by decide +kernel
theorem dX12_weighBooks_105 : decode cX12_weighBooks 105 = .ok (.iload 4, 2) := by decide +kernel
theorem dX12_weighBooks_107 : decode cX12_weighBooks 107 = .ok (.istore 4, 2) := by decide +kernel
theorem dX12_weighBooks_109 : decode cX12_weighBooks 109 = .ok (.iinc 5 1, 3) := by decide +kernel
theorem dX12_weighBooks_112 : decode cX12_weighBooks 112 = .ok (.goto (-41), 3) := by decide +kernel
theorem dX12_weighBooks_115 : decode cX12_weighBooks 115 = .ok (.aload_n 0, 1) := by decide +kernel
theorem dX12_weighBooks_116 : decode cX12_weighBooks 116 = .ok (.getfield 70, 3) := by decide +kernel
theorem dX12_weighBooks_119 : decode cX12_weighBooks 119 = .ok (.sipush 128, 3) := by decide +kernel
theorem dX12_weighBooks_122 : decode cX12_weighBooks 122 = .ok (.iload_n 2, 1) := by decide +kernel
theorem dX12_weighBooks_123 : decode cX12_weighBooks 123 = .ok (.imul, 1) := by decide +kernel
theorem dX12_weighBooks_124 : decode cX12_weighBooks 124 = .ok (.iload_n 3, 1) := by decide +kernel
theorem dX12_weighBooks_125 : decode cX12_weighBooks 125 = .ok (.iadd, 1) := by decide +kernel
theorem dX12_weighBooks_126 : decode cX12_weighBooks 126 = .ok (.iload 4, 2) := by decide +kernel
theorem dX12_weighBooks_128 : decode cX12_weighBooks 128 = .ok (.iastore, 1) := by decide +kernel
theorem dX12_weighBooks_129 : decode cX12_weighBooks 129 = .ok (.iinc 3 1, 3) := by decide +kernel
theorem dX12_weighBooks_132 : decode cX12_weighBooks 132 = .ok (.goto (-87), 3) := by decide +kernel
theorem dX12_weighBooks_135 : decode cX12_weighBooks 135 = .ok (.iinc 2 (-1), 3) := by decide +kernel
theorem dX12_weighBooks_138 : decode cX12_weighBooks 138 = .ok (.goto (-99), 3) := by decide +kernel
theorem dX12_weighBooks_141 : decode cX12_weighBooks 141 = .ok (.return_, 1) := by decide +kernel
theorem dX12_joined_0 : decode cX12_joined 0 = .ok (.iload_n 1, 1) := by decide +kernel
theorem dX12_joined_1 : decode cX12_joined 1 = .ok (.iconst 0, 1) := by decide +kernel
theorem dX12_joined_2 : decode cX12_joined 2 = .ok (.iconst 1, 1) := by decide +kernel
theorem dX12_joined_3 : decode cX12_joined 3 = .ok (.invokestatic 76, 3) := by decide +kernel
theorem dX12_joined_6 : decode cX12_joined 6 = .ok (.ifCond .ne 23, 3) := by decide +kernel
theorem dX12_joined_9 : decode cX12_joined 9 = .ok (.iload_n 1, 1) := by decide +kernel
theorem dX12_joined_10 : decode cX12_joined 10 = .ok (.bipush 10, 2) := by decide +kernel
theorem dX12_joined_12 : decode cX12_joined 12 = .ok (.bipush 9, 2) := by decide +kernel
theorem dX12_joined_14 : decode cX12_joined 14 = .ok (.aload_n 0, 1) := by decide +kernel
theorem dX12_joined_15 : decode cX12_joined 15 = .ok (.getfield 7, 3) := by decide +kernel
theorem dX12_joined_18 : decode cX12_joined 18 = .ok (.iconst 5, 1) := by decide +kernel
theorem dX12_joined_19 : decode cX12_joined 19 = .ok (.iaload, 1) := by decide +kernel
theorem dX12_joined_20 : decode cX12_joined 20 = .ok (.iadd, 1) := by decide +kernel
theorem dX12_joined_21 : decode cX12_joined 21 = .ok (.invokestatic 76, 3) := by decide +kernel
theorem dX12_joined_24 : decode cX12_joined 24 = .ok (.ifCond .ne 5, 3) := by decide +kernel
theorem dX12_joined_27 : decode cX12_joined 27 = .ok (.iconst (-1), 1) := by decide +kernel
theorem dX12_joined_28 : decode cX12_joined 28 = .ok (.ireturn, 1) := by decide +kernel
theorem dX12_joined_29 : decode cX12_joined 29 = .ok (.aload_n 0, 1) := by decide +kernel
theorem dX12_joined_30 : decode cX12_joined 30 = .ok (.invokevirtual 266, 3) := by decide +kernel
theorem dX12_joined_33 : decode cX12_joined 33 = .ok (.iconst 0, 1) := by decide +kernel
theorem dX12_joined_34 : decode cX12_joined 34 = .ok (.istore_n 2, 1) := by decide +kernel
theorem dX12_joined_35 : decode cX12_joined 35 = .ok (.iconst 0, 1) := by decide +kernel
theorem dX12_joined_36 : decode cX12_joined 36 = .ok (.istore_n 3, 1) := by decide +kernel
theorem dX12_joined_37 : decode cX12_joined 37 = .ok (.iconst 0, 1) := by decide +kernel
theorem dX12_joined_38 : decode cX12_joined 38 = .ok (.istore 4, 2) := by decide +kernel
theorem dX12_joined_40 : decode cX12_joined 40 = .ok (.iconst 0, 1) := by decide +kernel
theorem dX12_joined_41 : decode cX12_joined 41 = .ok (.istore 5, 2) := by decide +kernel
theorem dX12_joined_43 : decode cX12_joined 43 = .ok (.iload 5, 2) := by decide +kernel
theorem dX12_joined_45 : decode cX12_joined 45 = .ok (.aload_n 0, 1) := by decide +kernel
theorem dX12_joined_46 : decode cX12_joined 46 = .ok (.getfield 7, 3) := by decide +kernel
theorem dX12_joined_49 : decode cX12_joined 49 = .ok (.iconst 5, 1) := by decide +kernel
theorem dX12_joined_50 : decode cX12_joined 50 = .ok (.iaload, 1) := by decide +kernel
theorem dX12_joined_51 : decode cX12_joined 51 = .ok (.if_icmp .ge 111, 3) := by decide +kernel
theorem dX12_joined_54 : decode cX12_joined 54 = .ok (.bipush (-3), 2) := by decide +kernel
theorem dX12_joined_56 : decode cX12_joined 56 = .ok (.istore 6, 2) := by decide +kernel
theorem dX12_joined_58 : decode cX12_joined 58 = .ok (.aload_n 0, 1) := by decide +kernel
theorem dX12_joined_59 : decode cX12_joined 59 = .ok (.getfield 7, 3) := by decide +kernel
theorem dX12_joined_62 : decode cX12_joined 62 = .ok (.bipush 6, 2) := by decide +kernel
theorem dX12_joined_64 : decode cX12_joined 64 = .ok (.iaload, 1) := by decide +kernel
theorem dX12_joined_65 : decode cX12_joined 65 = .ok (.iconst 1, 1) := by decide +kernel
theorem dX12_joined_66 : decode cX12_joined 66 = .ok (.isub, 1) := by decide +kernel
theorem dX12_joined_67 : decode cX12_joined 67 = .ok (.istore 7, 2) := by decide +kernel
theorem dX12_joined_69 : decode cX12_joined 69 = .ok (.iload 7, 2) := by decide +kernel
theorem dX12_joined_71 : decode cX12_joined 71 = .ok (.ifCond .lt 45, 3) := by decide +kernel
theorem dX12_joined_74 : decode cX12_joined 74 = .ok (.aload_n 0, 1) := by decide +kernel
theorem dX12_joined_75 : decode cX12_joined 75 = .ok (.iload 5, 2) := by decide +kernel
theorem dX12_joined_77 : decode cX12_joined 77 = .ok (.iload 7, 2) := by decide +kernel
theorem dX12_joined_79 : decode cX12_joined 79 = .ok (.iload 4, 2) := by decide +kernel
theorem dX12_joined_81 : decode cX12_joined 81 = .ok (.invokevirtual 263, 3) := by decide +kernel
theorem dX12_joined_84 : decode cX12_joined 84 = .ok (.aload_n 0, 1) := by decide +kernel
theorem dX12_joined_85 : decode cX12_joined 85 = .ok (.getfield 70, 3) := by decide +kernel
theorem dX12_joined_88 : decode cX12_joined 88 = .ok (.sipush 128, 3) := by decide +kernel
theorem dX12_joined_91 : decode cX12_joined 91 = .ok (.iload 5, 2) := by decide +kernel
theorem dX12_joined_93 : decode cX12_joined 93 = .ok (.imul, 1) := by decide +kernel
theorem dX12_joined_94 : decode cX12_joined 94 = .ok (.iload 4, 2) := by decide +kernel
theorem dX12_joined_96 : decode cX12_joined 96 = .ok (.iadd, 1) := by decide +kernel
theorem dX12_joined_97 : decode cX12_joined 97 = .ok (.iaload, 1) := by decide +kernel
theorem dX12_joined_98 : decode cX12_joined 98 = .ok (.if_icmp .ne 8, 3) := by decide +kernel
theorem dX12_joined_101 : decode cX12_joined 101 = .ok (.iload 7, 2) := by decide +kernel
theorem dX12_joined_103 : decode cX12_joined 103 = .ok (.goto 5, 3) := by decide +kernel
theorem dX12_joined_106 : decode cX12_joined 106 = .ok (.iload 6, 2) := by decide +kernel
theorem dX12_joined_108 : decode cX12_joined 108 = .ok (.istore 6, 2) := by decide +kernel
theorem dX12_joined_110 : decode cX12_joined 110 = .ok (.iinc 7 (-1), 3) := by decide +kernel
theorem dX12_joined_113 : decode cX12_joined 113 = .ok (.goto (-44), 3) := by decide +kernel
theorem dX12_joined_116 : decode cX12_joined 116 = .ok (.iload_n 1, 1) := by decide +kernel
theorem dX12_joined_117 : decode cX12_joined 117 = .ok (.bipush 10, 2) := by decide +kernel
theorem dX12_joined_119 : decode cX12_joined 119 = .ok (.iload 5, 2) := by decide +kernel
theorem dX12_joined_121 : decode cX12_joined 121 = .ok (.iadd, 1) := by decide +kernel
theorem dX12_joined_122 : decode cX12_joined 122 = .ok (.if_icmp .ne 6, 3) := by decide +kernel
theorem dX12_joined_125 : decode cX12_joined 125 = .ok (.iload 6, 2) := by decide +kernel
theorem dX12_joined_127 : decode cX12_joined 127 = .ok (.ireturn, 1) := by decide +kernel
theorem dX12_joined_128 : decode cX12_joined 128 = .ok (.iload 6, 2) := by decide +kernel
theorem dX12_joined_130 : decode cX12_joined 130 = .ok (.ifCond .lt 26, 3) := by decide +kernel
theorem dX12_joined_133 : decode cX12_joined 133 = .ok (.iinc 2 1, 3) := by decide +kernel
theorem dX12_joined_136 : decode cX12_joined 136 = .ok (.iload_n 3, 1) := by decide +kernel
theorem dX12_joined_137 : decode cX12_joined 137 = .ok (.aload_n 0, 1) := by decide +kernel
theorem dX12_joined_138 : decode cX12_joined 138 = .ok (.iload 5, 2) := by decide +kernel
theorem dX12_joined_140 : decode cX12_joined 140 = .ok (.iload 6, 2) := by decide +kernel
theorem dX12_joined_142 : decode cX12_joined 142 = .ok (.invokevirtual 257, 3) := by decide +kernel
theorem dX12_joined_145 : decode cX12_joined 145 = .ok (.iadd, 1) := by decide +kernel
theorem dX12_joined_146 : decode cX12_joined 146 = .ok (.istore_n 3, 1) := by decide +kernel
theorem dX12_joined_147 : decode cX12_joined 147 = .ok (.iload 4, 2) := by decide +kernel
theorem dX12_joined_149 : decode cX12_joined 149 = .ok (.iconst 1, 1) := by decide +kernel
theorem dX12_joined_150 : decode cX12_joined 150 = .ok (.iload 6, 2) := by decide +kernel
theorem dX12_joined_152 : decode cX12_joined 152 = .ok (.ishl, 1) := by decide +kernel
theorem dX12_joined_153 : decode cX12_joined 153 = .ok (.ior, 1) := by decide +kernel
theorem dX12_joined_154 : decode cX12_joined 154 = .ok (.istore 4, 2) := by decide +kernel
theorem dX12_joined_156 : decode cX12_joined 156 = .ok (.iinc 5 1, 3) := by decide +kernel
theorem dX12_joined_159 : decode cX12_joined 159 = .ok (.goto (-116), 3) := by decide +kernel
theorem dX12_joined_162 : decode cX12_joined 162 = .ok (.iload_n 1, 1) := by decide +kernel
theorem dX12_joined_163 : decode cX12_joined 163 = .ok (.ifCond .ne 7, 3) := by decide +kernel
theorem dX12_joined_166 : decode cX12_joined 166 = .ok (.iload_n 2, 1) := by decide +kernel
theorem dX12_joined_167 : decode cX12_joined 167 = .ok (.goto 4, 3) := by decide +kernel
theorem dX12_joined_170 : decode cX12_joined 170 = .ok (.iload_n 3, 1) := by decide +kernel
theorem dX12_joined_171 : decode cX12_joined 171 = .ok (.ireturn, 1) := by decide +kernel
theorem dX12_clear_0 : decode cX12_clear 0 = .ok (.aload_n 0, 1) := by decide +kernel
theorem dX12_clear_1 : decode cX12_clear 1 = .ok (.getfield 7, 3) := by decide +kernel
theorem dX12_clear_4 : decode cX12_clear 4 = .ok (.iconst 5, 1) := by decide +kernel
theorem dX12_clear_5 : decode cX12_clear 5 = .ok (.iaload, 1) := by decide +kernel
theorem dX12_clear_6 : decode cX12_clear 6 = .ok (.aload_n 0, 1) := by decide +kernel
theorem dX12_clear_7 : decode cX12_clear 7 = .ok (.getfield 7, 3) := by decide +kernel
theorem dX12_clear_10 : decode cX12_clear 10 = .ok (.bipush 6, 2) := by decide +kernel
theorem dX12_clear_12 : decode cX12_clear 12 = .ok (.iaload, 1) := by decide +kernel
theorem dX12_clear_13 : decode cX12_clear 13 = .ok (.iadd, 1) := by decide +kernel
theorem dX12_clear_14 : decode cX12_clear 14 = .ok (.istore_n 1, 1) := by decide +kernel
theorem dX12_clear_15 : decode cX12_clear 15 = .ok (.aload_n 0, 1) := by decide +kernel
theorem dX12_clear_16 : decode cX12_clear 16 = .ok (.getfield 7, 3) := by decide +kernel
theorem dX12_clear_19 : decode cX12_clear 19 = .ok (.iconst 5, 1) := by decide +kernel
theorem dX12_clear_20 : decode cX12_clear 20 = .ok (.iconst 0, 1) := by decide +kernel
theorem dX12_clear_21 : decode cX12_clear 21 = .ok (.iastore, 1) := by decide +kernel
theorem dX12_clear_22 : decode cX12_clear 22 = .ok (.aload_n 0, 1) := by decide +kernel
theorem dX12_clear_23 : decode cX12_clear 23 = .ok (.getfield 7, 3) := by decide +kernel
theorem dX12_clear_26 : decode cX12_clear 26 = .ok (.bipush 6, 2) := by decide +kernel
theorem dX12_clear_28 : decode cX12_clear 28 = .ok (.iconst 0, 1) := by decide +kernel
theorem dX12_clear_29 : decode cX12_clear 29 = .ok (.iastore, 1) := by decide +kernel
theorem dX12_clear_30 : decode cX12_clear 30 = .ok (.iload_n 1, 1) := by decide +kernel
theorem dX12_clear_31 : decode cX12_clear 31 = .ok (.ireturn, 1) := by decide +kernel
theorem dX12_many_0 : decode cX12_many 0 = .ok (.iconst 0, 1) := by decide +kernel
theorem dX12_many_1 : decode cX12_many 1 = .ok (.istore_n 2, 1) := by decide +kernel
theorem dX12_many_2 : decode cX12_many 2 = .ok (.iload_n 1, 1) := by decide +kernel
theorem dX12_many_3 : decode cX12_many 3 = .ok (.tableswitch 197 0 11 #[61, 61, 61, 61, 68, 103, 145, 145, 145, 154, 159, 167], 61) := by decide +kernel
theorem dX12_many_64 : decode cX12_many 64 = .ok (.aload_n 0, 1) := by decide +kernel
theorem dX12_many_65 : decode cX12_many 65 = .ok (.getfield 7, 3) := by decide +kernel
theorem dX12_many_68 : decode cX12_many 68 = .ok (.iload_n 1, 1) := by decide +kernel
theorem dX12_many_69 : decode cX12_many 69 = .ok (.iaload, 1) := by decide +kernel
theorem dX12_many_70 : decode cX12_many 70 = .ok (.ireturn, 1) := by decide +kernel
theorem dX12_many_71 : decode cX12_many 71 = .ok (.iconst 0, 1) := by decide +kernel
theorem dX12_many_72 : decode cX12_many 72 = .ok (.istore_n 3, 1) := by decide +kernel
theorem dX12_many_73 : decode cX12_many 73 = .ok (.iload_n 3, 1) := by decide +kernel
theorem dX12_many_74 : decode cX12_many 74 = .ok (.aload_n 0, 1) := by decide +kernel
theorem dX12_many_75 : decode cX12_many 75 = .ok (.getfield 7, 3) := by decide +kernel
theorem dX12_many_78 : decode cX12_many 78 = .ok (.iconst 1, 1) := by decide +kernel
theorem dX12_many_79 : decode cX12_many 79 = .ok (.iaload, 1) := by decide +kernel
theorem dX12_many_80 : decode cX12_many 80 = .ok (.if_icmp .ge 24, 3) := by decide +kernel
theorem dX12_many_83 : decode cX12_many 83 = .ok (.iload_n 2, 1) := by decide +kernel
theorem dX12_many_84 : decode cX12_many 84 = .ok (.aload_n 0, 1) := by decide +kernel
theorem dX12_many_85 : decode cX12_many 85 = .ok (.getfield 13, 3) := by decide +kernel
theorem dX12_many_88 : decode cX12_many 88 = .ok (.bipush 9, 2) := by decide +kernel
theorem dX12_many_90 : decode cX12_many 90 = .ok (.iload_n 3, 1) := by decide +kernel
theorem dX12_many_91 : decode cX12_many 91 = .ok (.imul, 1) := by decide +kernel
theorem dX12_many_92 : decode cX12_many 92 = .ok (.bipush 6, 2) := by decide +kernel
theorem dX12_many_94 : decode cX12_many 94 = .ok (.iadd, 1) := by decide +kernel
theorem dX12_many_95 : decode cX12_many 95 = .ok (.iaload, 1) := by decide +kernel
theorem dX12_many_96 : decode cX12_many 96 = .ok (.iadd, 1) := by decide +kernel
theorem dX12_many_97 : decode cX12_many 97 = .ok (.istore_n 2, 1) := by decide +kernel
theorem dX12_many_98 : decode cX12_many 98 = .ok (.iinc 3 1, 3) := by decide +kernel
theorem dX12_many_101 : decode cX12_many 101 = .ok (.goto (-28), 3) := by decide +kernel
theorem dX12_many_104 : decode cX12_many 104 = .ok (.iload_n 2, 1) := by decide +kernel
theorem dX12_many_105 : decode cX12_many 105 = .ok (.ireturn, 1) := by decide +kernel
theorem dX12_many_106 : decode cX12_many 106 = .ok (.iconst 0, 1) := by decide +kernel
theorem dX12_many_107 : decode cX12_many 107 = .ok (.istore_n 3, 1) := by decide +kernel
theorem dX12_many_108 : decode cX12_many 108 = .ok (.iload_n 3, 1) := by decide +kernel
theorem dX12_many_109 : decode cX12_many 109 = .ok (.aload_n 0, 1) := by decide +kernel
theorem dX12_many_110 : decode cX12_many 110 = .ok (.getfield 7, 3) := by decide +kernel
theorem dX12_many_113 : decode cX12_many 113 = .ok (.iconst 2, 1) := by decide +kernel
theorem dX12_many_114 : decode cX12_many 114 = .ok (.iaload, 1) := by decide +kernel
theorem dX12_many_115 : decode cX12_many 115 = .ok (.if_icmp .ge 31, 3) := by decide +kernel
theorem dX12_many_118 : decode cX12_many 118 = .ok (.iload_n 2, 1) := by decide +kernel
theorem dX12_many_119 : decode cX12_many 119 = .ok (.aload_n 0, 1) := by decide +kernel
theorem dX12_many_120 : decode cX12_many 120 = .ok (.getfield 19, 3) := by decide +kernel
theorem dX12_many_123 : decode cX12_many 123 = .ok (.bipush 6, 2) := by decide +kernel
theorem dX12_many_125 : decode cX12_many 125 = .ok (.iload_n 3, 1) := by decide +kernel
theorem dX12_many_126 : decode cX12_many 126 = .ok (.imul, 1) := by decide +kernel
theorem dX12_many_127 : decode cX12_many 127 = .ok (.iconst 3, 1) := by decide +kernel
theorem dX12_many_128 : decode cX12_many 128 = .ok (.iadd, 1) := by decide +kernel
theorem dX12_many_129 : decode cX12_many 129 = .ok (.iaload, 1) := by decide +kernel
theorem dX12_many_130 : decode cX12_many 130 = .ok (.ifCond .lt 7, 3) := by decide +kernel
theorem dX12_many_133 : decode cX12_many 133 = .ok (.iconst 1, 1) := by decide +kernel
theorem dX12_many_134 : decode cX12_many 134 = .ok (.goto 4, 3) := by decide +kernel
theorem dX12_many_137 : decode cX12_many 137 = .ok (.iconst 0, 1) := by decide +kernel
theorem dX12_many_138 : decode cX12_many 138 = .ok (.iadd, 1) := by decide +kernel
theorem dX12_many_139 : decode cX12_many 139 = .ok (.istore_n 2, 1) := by decide +kernel
theorem dX12_many_140 : decode cX12_many 140 = .ok (.iinc 3 1, 3) := by decide +kernel
theorem dX12_many_143 : decode cX12_many 143 = .ok (.goto (-35), 3) := by decide +kernel
theorem dX12_many_146 : decode cX12_many 146 = .ok (.iload_n 2, 1) := by decide +kernel
theorem dX12_many_147 : decode cX12_many 147 = .ok (.ireturn, 1) := by decide +kernel
theorem dX12_many_148 : decode cX12_many 148 = .ok (.aload_n 0, 1) := by decide +kernel
theorem dX12_many_149 : decode cX12_many 149 = .ok (.getfield 7, 3) := by decide +kernel
theorem dX12_many_152 : decode cX12_many 152 = .ok (.iload_n 1, 1) := by decide +kernel
theorem dX12_many_153 : decode cX12_many 153 = .ok (.iconst 2, 1) := by decide +kernel
theorem dX12_many_154 : decode cX12_many 154 = .ok (.isub, 1) := by decide +kernel
theorem dX12_many_155 : decode cX12_many 155 = .ok (.iaload, 1) := by decide +kernel
theorem dX12_many_156 : decode cX12_many 156 = .ok (.ireturn, 1) := by decide +kernel
theorem dX12_many_157 : decode cX12_many 157 = .ok (.aload_n 0, 1) := by decide +kernel
theorem dX12_many_158 : decode cX12_many 158 = .ok (.getfield 145, 3) := by decide +kernel
theorem dX12_many_161 : decode cX12_many 161 = .ok (.ireturn, 1) := by decide +kernel
theorem dX12_many_162 : decode cX12_many 162 = .ok (.aload_n 0, 1) := by decide +kernel
theorem dX12_many_163 : decode cX12_many 163 = .ok (.getfield 7, 3) := by decide +kernel
theorem dX12_many_166 : decode cX12_many 166 = .ok (.bipush 9, 2) := by decide +kernel
theorem dX12_many_168 : decode cX12_many 168 = .ok (.iaload, 1) := by decide +kernel
theorem dX12_many_169 : decode cX12_many 169 = .ok (.ireturn, 1) := by decide +kernel
theorem dX12_many_170 : decode cX12_many 170 = .ok (.iconst 0, 1) := by decide +kernel
theorem dX12_many_171 : decode cX12_many 171 = .ok (.istore_n 3, 1) := by decide +kernel
theorem dX12_many_172 : decode cX12_many 172 = .ok (.iload_n 3, 1) := by decide +kernel
theorem dX12_many_173 : decode cX12_many 173 = .ok (.aload_n 0, 1) := by decide +kernel
theorem dX12_many_174 : decode cX12_many 174 = .ok (.getfield 7, 3) := by decide +kernel
theorem dX12_many_177 : decode cX12_many 177 = .ok (.iconst 3, 1) := by decide +kernel
theorem dX12_many_178 : decode cX12_many 178 = .ok (.iaload, 1) := by decide +kernel
theorem dX12_many_179 : decode cX12_many 179 = .ok (.if_icmp .ge 19, 3) := by decide +kernel
theorem dX12_many_182 : decode cX12_many 182 = .ok (.iload_n 2, 1) := by decide +kernel
theorem dX12_many_183 : decode cX12_many 183 = .ok (.aload_n 0, 1) := by decide +kernel
theorem dX12_many_184 : decode cX12_many 184 = .ok (.iload_n 3, 1) := by decide +kernel
theorem dX12_many_185 : decode cX12_many 185 = .ok (.bipush 11, 2) := by decide +kernel
theorem dX12_many_187 : decode cX12_many 187 = .ok (.invokevirtual 84, 3) := by decide +kernel
theorem dX12_many_190 : decode cX12_many 190 = .ok (.iadd, 1) := by decide +kernel
theorem dX12_many_191 : decode cX12_many 191 = .ok (.istore_n 2, 1) := by decide +kernel
theorem dX12_many_192 : decode cX12_many 192 = .ok (.iinc 3 1, 3) := by decide +kernel
theorem dX12_many_195 : decode cX12_many 195 = .ok (.goto (-23), 3) := by decide +kernel
theorem dX12_many_198 : decode cX12_many 198 = .ok (.iload_n 2, 1) := by decide +kernel
theorem dX12_many_199 : decode cX12_many 199 = .ok (.ireturn, 1) := by decide +kernel
theorem dX12_many_200 : decode cX12_many 200 = .ok (.iconst (-1), 1) := by decide +kernel
theorem dX12_many_201 : decode cX12_many 201 = .ok (.ireturn, 1) := by decide +kernel
theorem dX12_move_0 : decode cX12_move 0 = .ok (.iconst 0, 1) := by decide +kernel
theorem dX12_move_1 : decode cX12_move 1 = .ok (.istore 4, 2) := by decide +kernel
theorem dX12_move_3 : decode cX12_move 3 = .ok (.iload 4, 2) := by decide +kernel
theorem dX12_move_5 : decode cX12_move 5 = .ok (.iload_n 2, 1) := by decide +kernel
theorem dX12_move_6 : decode cX12_move 6 = .ok (.if_icmp .ge 52, 3) := by decide +kernel
theorem dX12_move_9 : decode cX12_move 9 = .ok (.iload_n 3, 1) := by decide +kernel
theorem dX12_move_10 : decode cX12_move 10 = .ok (.ifCond .eq 19, 3) := by decide +kernel
theorem dX12_move_13 : decode cX12_move 13 = .ok (.aload_n 0, 1) := by decide +kernel
theorem dX12_move_14 : decode cX12_move 14 = .ok (.getfield 73, 3) := by decide +kernel
theorem dX12_move_17 : decode cX12_move 17 = .ok (.aload_n 0, 1) := by decide +kernel
theorem dX12_move_18 : decode cX12_move 18 = .ok (.getfield 269, 3) := by decide +kernel
theorem dX12_move_21 : decode cX12_move 21 = .ok (.aload_n 1, 1) := by decide +kernel
theorem dX12_move_22 : decode cX12_move 22 = .ok (.iload 4, 2) := by decide +kernel
theorem dX12_move_24 : decode cX12_move 24 = .ok (.iaload, 1) := by decide +kernel
theorem dX12_move_25 : decode cX12_move 25 = .ok (.iastore, 1) := by decide +kernel
theorem dX12_move_26 : decode cX12_move 26 = .ok (.goto 16, 3) := by decide +kernel
theorem dX12_move_29 : decode cX12_move 29 = .ok (.aload_n 1, 1) := by decide +kernel
theorem dX12_move_30 : decode cX12_move 30 = .ok (.iload 4, 2) := by decide +kernel
theorem dX12_move_32 : decode cX12_move 32 = .ok (.aload_n 0, 1) := by decide +kernel
theorem dX12_move_33 : decode cX12_move 33 = .ok (.getfield 73, 3) := by decide +kernel
theorem dX12_move_36 : decode cX12_move 36 = .ok (.aload_n 0, 1) := by decide +kernel
theorem dX12_move_37 : decode cX12_move 37 = .ok (.getfield 269, 3) := by decide +kernel
theorem dX12_move_40 : decode cX12_move 40 = .ok (.iaload, 1) := by decide +kernel
theorem dX12_move_41 : decode cX12_move 41 = .ok (.iastore, 1) := by decide +kernel
theorem dX12_move_42 : decode cX12_move 42 = .ok (.aload_n 0, 1) := by decide +kernel
theorem dX12_move_43 : decode cX12_move 43 = .ok (.dup, 1) := by decide +kernel
theorem dX12_move_44 : decode cX12_move 44 = .ok (.getfield 269, 3) := by decide +kernel
theorem dX12_move_47 : decode cX12_move 47 = .ok (.iconst 1, 1) := by decide +kernel
theorem dX12_move_48 : decode cX12_move 48 = .ok (.iadd, 1) := by decide +kernel
theorem dX12_move_49 : decode cX12_move 49 = .ok (.putfield 269, 3) := by decide +kernel
theorem dX12_move_52 : decode cX12_move 52 = .ok (.iinc 4 1, 3) := by decide +kernel
theorem dX12_move_55 : decode cX12_move 55 = .ok (.goto (-52), 3) := by decide +kernel
theorem dX12_move_58 : decode cX12_move 58 = .ok (.return_, 1) := by decide +kernel
theorem dX12_moveAll_0 : decode cX12_moveAll 0 = .ok (.aload_n 0, 1) := by decide +kernel
theorem dX12_moveAll_1 : decode cX12_moveAll 1 = .ok (.iconst 0, 1) := by decide +kernel
theorem dX12_moveAll_2 : decode cX12_moveAll 2 = .ok (.putfield 269, 3) := by decide +kernel
theorem dX12_moveAll_5 : decode cX12_moveAll 5 = .ok (.aload_n 0, 1) := by decide +kernel
theorem dX12_moveAll_6 : decode cX12_moveAll 6 = .ok (.aload_n 0, 1) := by decide +kernel
theorem dX12_moveAll_7 : decode cX12_moveAll 7 = .ok (.getfield 7, 3) := by decide +kernel
theorem dX12_moveAll_10 : decode cX12_moveAll 10 = .ok (.bipush 10, 2) := by decide +kernel
theorem dX12_moveAll_12 : decode cX12_moveAll 12 = .ok (.iload_n 1, 1) := by decide +kernel
theorem dX12_moveAll_13 : decode cX12_moveAll 13 = .ok (.invokevirtual 272, 3) := by decide +kernel
theorem dX12_moveAll_16 : decode cX12_moveAll 16 = .ok (.aload_n 0, 1) := by decide +kernel
theorem dX12_moveAll_17 : decode cX12_moveAll 17 = .ok (.aload_n 0, 1) := by decide +kernel
theorem dX12_moveAll_18 : decode cX12_moveAll 18 = .ok (.getfield 13, 3) := by decide +kernel
theorem dX12_moveAll_21 : decode cX12_moveAll 21 = .ok (.bipush 63, 2) := by decide +kernel
theorem dX12_moveAll_23 : decode cX12_moveAll 23 = .ok (.iload_n 1, 1) := by decide +kernel
theorem dX12_moveAll_24 : decode cX12_moveAll 24 = .ok (.invokevirtual 272, 3) := by decide +kernel
theorem dX12_moveAll_27 : decode cX12_moveAll 27 = .ok (.aload_n 0, 1) := by decide +kernel
theorem dX12_moveAll_28 : decode cX12_moveAll 28 = .ok (.aload_n 0, 1) := by decide +kernel
theorem dX12_moveAll_29 : decode cX12_moveAll 29 = .ok (.getfield 16, 3) := by decide +kernel
theorem dX12_moveAll_32 : decode cX12_moveAll 32 = .ok (.bipush 72, 2) := by decide +kernel
theorem dX12_moveAll_34 : decode cX12_moveAll 34 = .ok (.iload_n 1, 1) := by decide +kernel
theorem dX12_moveAll_35 : decode cX12_moveAll 35 = .ok (.invokevirtual 272, 3) := by decide +kernel
theorem dX12_moveAll_38 : decode cX12_moveAll 38 = .ok (.aload_n 0, 1) := by decide +kernel
theorem dX12_moveAll_39 : decode cX12_moveAll 39 = .ok (.aload_n 0, 1) := by decide +kernel
theorem dX12_moveAll_40 : decode cX12_moveAll 40 = .ok (.getfield 19, 3) := by decide +kernel
theorem dX12_moveAll_43 : decode cX12_moveAll 43 = .ok (.bipush 96, 2) := by decide +kernel
theorem dX12_moveAll_45 : decode cX12_moveAll 45 = .ok (.iload_n 1, 1) := by decide +kernel
theorem dX12_moveAll_46 : decode cX12_moveAll 46 = .ok (.invokevirtual 272, 3) := by decide +kernel
theorem dX12_moveAll_49 : decode cX12_moveAll 49 = .ok (.aload_n 0, 1) := by decide +kernel
theorem dX12_moveAll_50 : decode cX12_moveAll 50 = .ok (.aload_n 0, 1) := by decide +kernel
theorem dX12_moveAll_51 : decode cX12_moveAll 51 = .ok (.getfield 22, 3) := by decide +kernel
theorem dX12_moveAll_54 : decode cX12_moveAll 54 = .ok (.sipush 192, 3) := by decide +kernel
theorem dX12_moveAll_57 : decode cX12_moveAll 57 = .ok (.iload_n 1, 1) := by decide +kernel
theorem dX12_moveAll_58 : decode cX12_moveAll 58 = .ok (.invokevirtual 272, 3) := by decide +kernel
theorem dX12_moveAll_61 : decode cX12_moveAll 61 = .ok (.aload_n 0, 1) := by decide +kernel
theorem dX12_moveAll_62 : decode cX12_moveAll 62 = .ok (.aload_n 0, 1) := by decide +kernel
theorem dX12_moveAll_63 : decode cX12_moveAll 63 = .ok (.getfield 25, 3) := by decide +kernel
theorem dX12_moveAll_66 : decode cX12_moveAll 66 = .ok (.bipush 24, 2) := by decide +kernel
theorem dX12_moveAll_68 : decode cX12_moveAll 68 = .ok (.iload_n 1, 1) := by decide +kernel
theorem dX12_moveAll_69 : decode cX12_moveAll 69 = .ok (.invokevirtual 272, 3) := by decide +kernel
theorem dX12_moveAll_72 : decode cX12_moveAll 72 = .ok (.aload_n 0, 1) := by decide +kernel
theorem dX12_moveAll_73 : decode cX12_moveAll 73 = .ok (.aload_n 0, 1) := by decide +kernel
theorem dX12_moveAll_74 : decode cX12_moveAll 74 = .ok (.getfield 28, 3) := by decide +kernel
theorem dX12_moveAll_77 : decode cX12_moveAll 77 = .ok (.sipush 240, 3) := by decide +kernel
theorem dX12_moveAll_80 : decode cX12_moveAll 80 = .ok (.iload_n 1, 1) := by decide +kernel
theorem dX12_moveAll_81 : decode cX12_moveAll 81 = .ok (.invokevirtual 272, 3) := by decide +kernel
theorem dX12_moveAll_84 : decode cX12_moveAll 84 = .ok (.aload_n 0, 1) := by decide +kernel
theorem dX12_moveAll_85 : decode cX12_moveAll 85 = .ok (.aload_n 0, 1) := by decide +kernel
theorem dX12_moveAll_86 : decode cX12_moveAll 86 = .ok (.getfield 31, 3) := by decide +kernel
theorem dX12_moveAll_89 : decode cX12_moveAll 89 = .ok (.bipush 42, 2) := by decide +kernel
theorem dX12_moveAll_91 : decode cX12_moveAll 91 = .ok (.iload_n 1, 1) := by decide +kernel
theorem dX12_moveAll_92 : decode cX12_moveAll 92 = .ok (.invokevirtual 272, 3) := by decide +kernel
theorem dX12_moveAll_95 : decode cX12_moveAll 95 = .ok (.return_, 1) := by decide +kernel
theorem dX12_keep_0 : decode cX12_keep 0 = .ok (.aload_n 0, 1) := by decide +kernel
theorem dX12_keep_1 : decode cX12_keep 1 = .ok (.iconst 1, 1) := by decide +kernel
theorem dX12_keep_2 : decode cX12_keep 2 = .ok (.invokevirtual 276, 3) := by decide +kernel
theorem dX12_keep_5 : decode cX12_keep 5 = .ok (.aload_n 0, 1) := by decide +kernel
theorem dX12_keep_6 : decode cX12_keep 6 = .ok (.iconst 1, 1) := by decide +kernel
theorem dX12_keep_7 : decode cX12_keep 7 = .ok (.putfield 280, 3) := by decide +kernel
theorem dX12_keep_10 : decode cX12_keep 10 = .ok (.iconst 1, 1) := by decide +kernel
theorem dX12_keep_11 : decode cX12_keep 11 = .ok (.ireturn, 1) := by decide +kernel
theorem dX12_back_0 : decode cX12_back 0 = .ok (.aload_n 0, 1) := by decide +kernel
theorem dX12_back_1 : decode cX12_back 1 = .ok (.getfield 280, 3) := by decide +kernel
theorem dX12_back_4 : decode cX12_back 4 = .ok (.ifCond .ne 6, 3) := by decide +kernel
theorem dX12_back_7 : decode cX12_back 7 = .ok (.bipush (-3), 2) := by decide +kernel
theorem dX12_back_9 : decode cX12_back 9 = .ok (.ireturn, 1) := by decide +kernel
theorem dX12_back_10 : decode cX12_back 10 = .ok (.aload_n 0, 1) := by decide +kernel
theorem dX12_back_11 : decode cX12_back 11 = .ok (.iconst 0, 1) := by decide +kernel
theorem dX12_back_12 : decode cX12_back 12 = .ok (.invokevirtual 276, 3) := by decide +kernel
theorem dX12_back_15 : decode cX12_back 15 = .ok (.iconst 1, 1) := by decide +kernel
theorem dX12_back_16 : decode cX12_back 16 = .ok (.ireturn, 1) := by decide +kernel
theorem dJ6_bitCount_0f7a4_0 : decode cJ6_bitCount_0f7a4 0 = .ok (.iload_n 0, 1) := by decide +kernel
theorem dJ6_bitCount_0f7a4_1 : decode cJ6_bitCount_0f7a4 1 = .ok (.iload_n 0, 1) := by decide +kernel
theorem dJ6_bitCount_0f7a4_2 : decode cJ6_bitCount_0f7a4 2 = .ok (.iconst 1, 1) := by decide +kernel
theorem dJ6_bitCount_0f7a4_3 : decode cJ6_bitCount_0f7a4 3 = .ok (.iushr, 1) := by decide +kernel
theorem dJ6_bitCount_0f7a4_4 : decode cJ6_bitCount_0f7a4 4 = .ok (.ldc_w 265, 3) := by decide +kernel
theorem dJ6_bitCount_0f7a4_7 : decode cJ6_bitCount_0f7a4 7 = .ok (.iand, 1) := by decide +kernel
theorem dJ6_bitCount_0f7a4_8 : decode cJ6_bitCount_0f7a4 8 = .ok (.isub, 1) := by decide +kernel
theorem dJ6_bitCount_0f7a4_9 : decode cJ6_bitCount_0f7a4 9 = .ok (.istore_n 0, 1) := by decide +kernel
theorem dJ6_bitCount_0f7a4_10 : decode cJ6_bitCount_0f7a4 10 = .ok (.iload_n 0, 1) := by decide +kernel
theorem dJ6_bitCount_0f7a4_11 : decode cJ6_bitCount_0f7a4 11 = .ok (.ldc_w 266, 3) := by decide +kernel
theorem dJ6_bitCount_0f7a4_14 : decode cJ6_bitCount_0f7a4 14 = .ok (.iand, 1) := by decide +kernel
theorem dJ6_bitCount_0f7a4_15 : decode cJ6_bitCount_0f7a4 15 = .ok (.iload_n 0, 1) := by decide +kernel
theorem dJ6_bitCount_0f7a4_16 : decode cJ6_bitCount_0f7a4 16 = .ok (.iconst 2, 1) := by decide +kernel
theorem dJ6_bitCount_0f7a4_17 : decode cJ6_bitCount_0f7a4 17 = .ok (.iushr, 1) := by decide +kernel
theorem dJ6_bitCount_0f7a4_18 : decode cJ6_bitCount_0f7a4 18 = .ok (.ldc_w 266, 3) := by decide +kernel
theorem dJ6_bitCount_0f7a4_21 : decode cJ6_bitCount_0f7a4 21 = .ok (.iand, 1) := by decide +kernel
theorem dJ6_bitCount_0f7a4_22 : decode cJ6_bitCount_0f7a4 22 = .ok (.iadd, 1) := by decide +kernel
theorem dJ6_bitCount_0f7a4_23 : decode cJ6_bitCount_0f7a4 23 = .ok (.istore_n 0, 1) := by decide +kernel
theorem dJ6_bitCount_0f7a4_24 : decode cJ6_bitCount_0f7a4 24 = .ok (.iload_n 0, 1) := by decide +kernel
theorem dJ6_bitCount_0f7a4_25 : decode cJ6_bitCount_0f7a4 25 = .ok (.iload_n 0, 1) := by decide +kernel
theorem dJ6_bitCount_0f7a4_26 : decode cJ6_bitCount_0f7a4 26 = .ok (.iconst 4, 1) := by decide +kernel
theorem dJ6_bitCount_0f7a4_27 : decode cJ6_bitCount_0f7a4 27 = .ok (.iushr, 1) := by decide +kernel
theorem dJ6_bitCount_0f7a4_28 : decode cJ6_bitCount_0f7a4 28 = .ok (.iadd, 1) := by decide +kernel
theorem dJ6_bitCount_0f7a4_29 : decode cJ6_bitCount_0f7a4 29 = .ok (.ldc_w 267, 3) := by decide +kernel
theorem dJ6_bitCount_0f7a4_32 : decode cJ6_bitCount_0f7a4 32 = .ok (.iand, 1) := by decide +kernel
theorem dJ6_bitCount_0f7a4_33 : decode cJ6_bitCount_0f7a4 33 = .ok (.istore_n 0, 1) := by decide +kernel
theorem dJ6_bitCount_0f7a4_34 : decode cJ6_bitCount_0f7a4 34 = .ok (.iload_n 0, 1) := by decide +kernel
theorem dJ6_bitCount_0f7a4_35 : decode cJ6_bitCount_0f7a4 35 = .ok (.iload_n 0, 1) := by decide +kernel
theorem dJ6_bitCount_0f7a4_36 : decode cJ6_bitCount_0f7a4 36 = .ok (.bipush 8, 2) := by decide +kernel
theorem dJ6_bitCount_0f7a4_38 : decode cJ6_bitCount_0f7a4 38 = .ok (.iushr, 1) := by decide +kernel
theorem dJ6_bitCount_0f7a4_39 : decode cJ6_bitCount_0f7a4 39 = .ok (.iadd, 1) := by decide +kernel
theorem dJ6_bitCount_0f7a4_40 : decode cJ6_bitCount_0f7a4 40 = .ok (.istore_n 0, 1) := by decide +kernel
theorem dJ6_bitCount_0f7a4_41 : decode cJ6_bitCount_0f7a4 41 = .ok (.iload_n 0, 1) := by decide +kernel
theorem dJ6_bitCount_0f7a4_42 : decode cJ6_bitCount_0f7a4 42 = .ok (.iload_n 0, 1) := by decide +kernel
theorem dJ6_bitCount_0f7a4_43 : decode cJ6_bitCount_0f7a4 43 = .ok (.bipush 16, 2) := by decide +kernel
theorem dJ6_bitCount_0f7a4_45 : decode cJ6_bitCount_0f7a4 45 = .ok (.iushr, 1) := by decide +kernel
theorem dJ6_bitCount_0f7a4_46 : decode cJ6_bitCount_0f7a4 46 = .ok (.iadd, 1) := by decide +kernel
theorem dJ6_bitCount_0f7a4_47 : decode cJ6_bitCount_0f7a4 47 = .ok (.istore_n 0, 1) := by decide +kernel
theorem dJ6_bitCount_0f7a4_48 : decode cJ6_bitCount_0f7a4 48 = .ok (.iload_n 0, 1) := by decide +kernel
theorem dJ6_bitCount_0f7a4_49 : decode cJ6_bitCount_0f7a4 49 = .ok (.bipush 63, 2) := by decide +kernel
theorem dJ6_bitCount_0f7a4_51 : decode cJ6_bitCount_0f7a4 51 = .ok (.iand, 1) := by decide +kernel
theorem dJ6_bitCount_0f7a4_52 : decode cJ6_bitCount_0f7a4 52 = .ok (.ireturn, 1) := by decide +kernel
theorem dJ9_abs_0f7a4_0 : decode cJ9_abs_0f7a4 0 = .ok (.iload_n 0, 1) := by decide +kernel
theorem dJ9_abs_0f7a4_1 : decode cJ9_abs_0f7a4 1 = .ok (.ifCond .ge 8, 3) := by decide +kernel
theorem dJ9_abs_0f7a4_4 : decode cJ9_abs_0f7a4 4 = .ok (.iload_n 0, 1) := by decide +kernel
theorem dJ9_abs_0f7a4_5 : decode cJ9_abs_0f7a4 5 = .ok (.ineg, 1) := by decide +kernel
theorem dJ9_abs_0f7a4_6 : decode cJ9_abs_0f7a4 6 = .ok (.goto 4, 3) := by decide +kernel
theorem dJ9_abs_0f7a4_9 : decode cJ9_abs_0f7a4 9 = .ok (.iload_n 0, 1) := by decide +kernel
theorem dJ9_abs_0f7a4_10 : decode cJ9_abs_0f7a4 10 = .ok (.ireturn, 1) := by decide +kernel
theorem dJ9_max_7cf53_0 : decode cJ9_max_7cf53 0 = .ok (.iload_n 0, 1) := by decide +kernel
theorem dJ9_max_7cf53_1 : decode cJ9_max_7cf53 1 = .ok (.iload_n 1, 1) := by decide +kernel
theorem dJ9_max_7cf53_2 : decode cJ9_max_7cf53 2 = .ok (.if_icmp .lt 7, 3) := by decide +kernel
theorem dJ9_max_7cf53_5 : decode cJ9_max_7cf53 5 = .ok (.iload_n 0, 1) := by decide +kernel
theorem dJ9_max_7cf53_6 : decode cJ9_max_7cf53 6 = .ok (.goto 4, 3) := by decide +kernel
theorem dJ9_max_7cf53_9 : decode cJ9_max_7cf53 9 = .ok (.iload_n 1, 1) := by decide +kernel
theorem dJ9_max_7cf53_10 : decode cJ9_max_7cf53 10 = .ok (.ireturn, 1) := by decide +kernel
theorem dJ9_min_7cf53_0 : decode cJ9_min_7cf53 0 = .ok (.iload_n 0, 1) := by decide +kernel
theorem dJ9_min_7cf53_1 : decode cJ9_min_7cf53 1 = .ok (.iload_n 1, 1) := by decide +kernel
theorem dJ9_min_7cf53_2 : decode cJ9_min_7cf53 2 = .ok (.if_icmp .gt 7, 3) := by decide +kernel
theorem dJ9_min_7cf53_5 : decode cJ9_min_7cf53 5 = .ok (.iload_n 0, 1) := by decide +kernel
theorem dJ9_min_7cf53_6 : decode cJ9_min_7cf53 6 = .ok (.goto 4, 3) := by decide +kernel
theorem dJ9_min_7cf53_9 : decode cJ9_min_7cf53 9 = .ok (.iload_n 1, 1) := by decide +kernel
theorem dJ9_min_7cf53_10 : decode cJ9_min_7cf53 10 = .ok (.ireturn, 1) := by decide +kernel
theorem dJ0_length_8abf5_0 : decode cJ0_length_8abf5 0 = .ok (.aload_n 0, 1) := by decide +kernel
theorem dJ0_length_8abf5_1 : decode cJ0_length_8abf5 1 = .ok (.getfield 9, 3) := by decide +kernel
theorem dJ0_length_8abf5_4 : decode cJ0_length_8abf5 4 = .ok (.arraylength, 1) := by decide +kernel
theorem dJ0_length_8abf5_5 : decode cJ0_length_8abf5 5 = .ok (.aload_n 0, 1) := by decide +kernel
theorem dJ0_length_8abf5_6 : decode cJ0_length_8abf5 6 = .ok (.invokevirtual 335, 3) := by decide +kernel
theorem dJ0_length_8abf5_9 : decode cJ0_length_8abf5 9 = .ok (.ishr, 1) := by decide +kernel
theorem dJ0_length_8abf5_10 : decode cJ0_length_8abf5 10 = .ok (.ireturn, 1) := by decide +kernel
theorem dJ0_charAt_5068e_0 : decode cJ0_charAt_5068e 0 = .ok (.aload_n 0, 1) := by decide +kernel
theorem dJ0_charAt_5068e_1 : decode cJ0_charAt_5068e 1 = .ok (.invokevirtual 492, 3) := by decide +kernel
theorem dJ0_charAt_5068e_4 : decode cJ0_charAt_5068e 4 = .ok (.ifCond .eq 12, 3) := by decide +kernel
theorem dJ0_charAt_5068e_7 : decode cJ0_charAt_5068e 7 = .ok (.aload_n 0, 1) := by decide +kernel
theorem dJ0_charAt_5068e_8 : decode cJ0_charAt_5068e 8 = .ok (.getfield 9, 3) := by decide +kernel
theorem dJ0_charAt_5068e_11 : decode cJ0_charAt_5068e 11 = .ok (.iload_n 1, 1) := by decide +kernel
theorem dJ0_charAt_5068e_12 : decode cJ0_charAt_5068e 12 = .ok (.invokestatic 495, 3) := by decide +kernel
theorem dJ0_charAt_5068e_15 : decode cJ0_charAt_5068e 15 = .ok (.ireturn, 1) := by decide +kernel
theorem dJ0_charAt_5068e_16 : decode cJ0_charAt_5068e 16 = .ok (.aload_n 0, 1) := by decide +kernel
theorem dJ0_charAt_5068e_17 : decode cJ0_charAt_5068e 17 = .ok (.getfield 9, 3) := by decide +kernel
theorem dJ0_charAt_5068e_20 : decode cJ0_charAt_5068e 20 = .ok (.iload_n 1, 1) := by decide +kernel
theorem dJ0_charAt_5068e_21 : decode cJ0_charAt_5068e 21 = .ok (.invokestatic 498, 3) := by decide +kernel
theorem dJ0_charAt_5068e_24 : decode cJ0_charAt_5068e 24 = .ok (.ireturn, 1) := by decide +kernel
theorem dJ0_coder_7d493_0 : decode cJ0_coder_7d493 0 = .ok (.getstatic 38, 3) := by decide +kernel
theorem dJ0_coder_7d493_3 : decode cJ0_coder_7d493 3 = .ok (.ifCond .eq 10, 3) := by decide +kernel
theorem dJ0_coder_7d493_6 : decode cJ0_coder_7d493 6 = .ok (.aload_n 0, 1) := by decide +kernel
theorem dJ0_coder_7d493_7 : decode cJ0_coder_7d493 7 = .ok (.getfield 15, 3) := by decide +kernel
theorem dJ0_coder_7d493_10 : decode cJ0_coder_7d493 10 = .ok (.goto 4, 3) := by decide +kernel
theorem dJ0_coder_7d493_13 : decode cJ0_coder_7d493 13 = .ok (.iconst 1, 1) := by decide +kernel
theorem dJ0_coder_7d493_14 : decode cJ0_coder_7d493 14 = .ok (.ireturn, 1) := by decide +kernel
theorem dJ0_isLatin1_aae02_0 : decode cJ0_isLatin1_aae02 0 = .ok (.getstatic 38, 3) := by decide +kernel
theorem dJ0_isLatin1_aae02_3 : decode cJ0_isLatin1_aae02 3 = .ok (.ifCond .eq 14, 3) := by decide +kernel
theorem dJ0_isLatin1_aae02_6 : decode cJ0_isLatin1_aae02 6 = .ok (.aload_n 0, 1) := by decide +kernel
theorem dJ0_isLatin1_aae02_7 : decode cJ0_isLatin1_aae02 7 = .ok (.getfield 15, 3) := by decide +kernel
theorem dJ0_isLatin1_aae02_10 : decode cJ0_isLatin1_aae02 10 = .ok (.ifCond .ne 7, 3) := by decide +kernel
theorem dJ0_isLatin1_aae02_13 : decode cJ0_isLatin1_aae02 13 = .ok (.iconst 1, 1) := by decide +kernel
theorem dJ0_isLatin1_aae02_14 : decode cJ0_isLatin1_aae02 14 = .ok (.goto 4, 3) := by decide +kernel
theorem dJ0_isLatin1_aae02_17 : decode cJ0_isLatin1_aae02 17 = .ok (.iconst 0, 1) := by decide +kernel
theorem dJ0_isLatin1_aae02_18 : decode cJ0_isLatin1_aae02 18 = .ok (.ireturn, 1) := by decide +kernel
theorem dJ0_checkIndex_df160_0 : decode cJ0_checkIndex_df160 0 = .ok (.iload_n 0, 1) := by decide +kernel
theorem dJ0_checkIndex_df160_1 : decode cJ0_checkIndex_df160 1 = .ok (.iload_n 1, 1) := by decide +kernel
theorem dJ0_checkIndex_df160_2 : decode cJ0_checkIndex_df160 2 = .ok (.getstatic 1053, 3) := by decide +kernel
theorem dJ0_checkIndex_df160_5 : decode cJ0_checkIndex_df160 5 = .ok (.invokestatic 1059, 3) := by decide +kernel
theorem dJ0_checkIndex_df160_8 : decode cJ0_checkIndex_df160 8 = .ok (.pop, 1) := by decide +kernel
theorem dJ0_checkIndex_df160_9 : decode cJ0_checkIndex_df160 9 = .ok (.return_, 1) := by decide +kernel
theorem dJ1_charAt_3b067_0 : decode cJ1_charAt_3b067 0 = .ok (.iload_n 1, 1) := by decide +kernel
theorem dJ1_charAt_3b067_1 : decode cJ1_charAt_3b067 1 = .ok (.aload_n 0, 1) := by decide +kernel
theorem dJ1_charAt_3b067_2 : decode cJ1_charAt_3b067 2 = .ok (.arraylength, 1) := by decide +kernel
theorem dJ1_charAt_3b067_3 : decode cJ1_charAt_3b067 3 = .ok (.invokestatic 9, 3) := by decide +kernel
theorem dJ1_charAt_3b067_6 : decode cJ1_charAt_3b067 6 = .ok (.aload_n 0, 1) := by decide +kernel
theorem dJ1_charAt_3b067_7 : decode cJ1_charAt_3b067 7 = .ok (.iload_n 1, 1) := by decide +kernel
theorem dJ1_charAt_3b067_8 : decode cJ1_charAt_3b067 8 = .ok (.baload, 1) := by decide +kernel
theorem dJ1_charAt_3b067_9 : decode cJ1_charAt_3b067 9 = .ok (.sipush 255, 3) := by decide +kernel
theorem dJ1_charAt_3b067_12 : decode cJ1_charAt_3b067 12 = .ok (.iand, 1) := by decide +kernel
theorem dJ1_charAt_3b067_13 : decode cJ1_charAt_3b067 13 = .ok (.i2c, 1) := by decide +kernel
theorem dJ1_charAt_3b067_14 : decode cJ1_charAt_3b067 14 = .ok (.ireturn, 1) := by decide +kernel
theorem dJ2_getChar_3b067_0 : decode cJ2_getChar_3b067 0 = .ok (.getstatic 44, 3) := by decide +kernel
theorem dJ2_getChar_3b067_3 : decode cJ2_getChar_3b067 3 = .ok (.ifCond .ne 25, 3) := by decide +kernel
theorem dJ2_getChar_3b067_6 : decode cJ2_getChar_3b067 6 = .ok (.iload_n 1, 1) := by decide +kernel
theorem dJ2_getChar_3b067_7 : decode cJ2_getChar_3b067 7 = .ok (.ifCond .lt 11, 3) := by decide +kernel
theorem dJ2_getChar_3b067_10 : decode cJ2_getChar_3b067 10 = .ok (.iload_n 1, 1) := by decide +kernel
theorem dJ2_getChar_3b067_11 : decode cJ2_getChar_3b067 11 = .ok (.aload_n 0, 1) := by decide +kernel
theorem dJ2_getChar_3b067_12 : decode cJ2_getChar_3b067 12 = .ok (.invokestatic 48, 3) := by decide +kernel
theorem dJ2_getChar_3b067_15 : decode cJ2_getChar_3b067 15 = .ok (.if_icmp .lt 13, 3) := by decide +kernel
theorem dJ2_getChar_3b067_18 : decode cJ2_getChar_3b067 18 = .ok (.new 52, 3) := by decide +kernel
theorem dJ2_getChar_3b067_21 : decode cJ2_getChar_3b067 21 = .ok (.dup, 1) := by decide +kernel
theorem dJ2_getChar_3b067_22 : decode cJ2_getChar_3b067 22 = .ok (.ldc 54, 2) := by decide +kernel
theorem dJ2_getChar_3b067_24 : decode cJ2_getChar_3b067 24 = .ok (.invokespecial 56, 3) := by decide +kernel
theorem dJ2_getChar_3b067_27 : decode cJ2_getChar_3b067 27 = .ok (.athrow, 1) := by decide +kernel
theorem dJ2_getChar_3b067_28 : decode cJ2_getChar_3b067 28 = .ok (.iload_n 1, 1) := by decide +kernel
theorem dJ2_getChar_3b067_29 : decode cJ2_getChar_3b067 29 = .ok (.iconst 1, 1) := by decide +kernel
theorem dJ2_getChar_3b067_30 : decode cJ2_getChar_3b067 30 = .ok (.ishl, 1) := by decide +kernel
theorem dJ2_getChar_3b067_31 : decode cJ2_getChar_3b067 31 = .ok (.istore_n 1, 1) := by decide +kernel
theorem dJ2_getChar_3b067_32 : decode cJ2_getChar_3b067 32 = .ok (.aload_n 0, 1) := by decide +kernel
theorem dJ2_getChar_3b067_33 : decode cJ2_getChar_3b067 33 = .ok (.iload_n 1, 1) := by decide +kernel
theorem dJ2_getChar_3b067_34 : decode cJ2_getChar_3b067 34 = .ok (.iinc 1 1, 3) := by decide +kernel
theorem dJ2_getChar_3b067_37 : decode cJ2_getChar_3b067 37 = .ok (.baload, 1) := by decide +kernel
theorem dJ2_getChar_3b067_38 : decode cJ2_getChar_3b067 38 = .ok (.sipush 255, 3) := by decide +kernel
theorem dJ2_getChar_3b067_41 : decode cJ2_getChar_3b067 41 = .ok (.iand, 1) := by decide +kernel
theorem dJ2_getChar_3b067_42 : decode cJ2_getChar_3b067 42 = .ok (.getstatic 59, 3) := by decide +kernel
theorem dJ2_getChar_3b067_45 : decode cJ2_getChar_3b067 45 = .ok (.ishl, 1) := by decide +kernel
theorem dJ2_getChar_3b067_46 : decode cJ2_getChar_3b067 46 = .ok (.aload_n 0, 1) := by decide +kernel
theorem dJ2_getChar_3b067_47 : decode cJ2_getChar_3b067 47 = .ok (.iload_n 1, 1) := by decide +kernel
theorem dJ2_getChar_3b067_48 : decode cJ2_getChar_3b067 48 = .ok (.baload, 1) := by decide +kernel
theorem dJ2_getChar_3b067_49 : decode cJ2_getChar_3b067 49 = .ok (.sipush 255, 3) := by decide +kernel
theorem dJ2_getChar_3b067_52 : decode cJ2_getChar_3b067 52 = .ok (.iand, 1) := by decide +kernel
theorem dJ2_getChar_3b067_53 : decode cJ2_getChar_3b067 53 = .ok (.getstatic 63, 3) := by decide +kernel
theorem dJ2_getChar_3b067_56 : decode cJ2_getChar_3b067 56 = .ok (.ishl, 1) := by decide +kernel
theorem dJ2_getChar_3b067_57 : decode cJ2_getChar_3b067 57 = .ok (.ior, 1) := by decide +kernel
theorem dJ2_getChar_3b067_58 : decode cJ2_getChar_3b067 58 = .ok (.i2c, 1) := by decide +kernel
theorem dJ2_getChar_3b067_59 : decode cJ2_getChar_3b067 59 = .ok (.ireturn, 1) := by decide +kernel
theorem dJ2_length_9d52b_0 : decode cJ2_length_9d52b 0 = .ok (.aload_n 0, 1) := by decide +kernel
theorem dJ2_length_9d52b_1 : decode cJ2_length_9d52b 1 = .ok (.arraylength, 1) := by decide +kernel
theorem dJ2_length_9d52b_2 : decode cJ2_length_9d52b 2 = .ok (.iconst 1, 1) := by decide +kernel
theorem dJ2_length_9d52b_3 : decode cJ2_length_9d52b 3 = .ok (.ishr, 1) := by decide +kernel
theorem dJ2_length_9d52b_4 : decode cJ2_length_9d52b 4 = .ok (.ireturn, 1) := by decide +kernel
theorem dJ2_charAt_3b067_0 : decode cJ2_charAt_3b067 0 = .ok (.iload_n 1, 1) := by decide +kernel
theorem dJ2_charAt_3b067_1 : decode cJ2_charAt_3b067 1 = .ok (.aload_n 0, 1) := by decide +kernel
theorem dJ2_charAt_3b067_2 : decode cJ2_charAt_3b067 2 = .ok (.invokestatic 67, 3) := by decide +kernel
theorem dJ2_charAt_3b067_5 : decode cJ2_charAt_3b067 5 = .ok (.aload_n 0, 1) := by decide +kernel
theorem dJ2_charAt_3b067_6 : decode cJ2_charAt_3b067 6 = .ok (.iload_n 1, 1) := by decide +kernel
theorem dJ2_charAt_3b067_7 : decode cJ2_charAt_3b067 7 = .ok (.invokestatic 71, 3) := by decide +kernel
theorem dJ2_charAt_3b067_10 : decode cJ2_charAt_3b067 10 = .ok (.ireturn, 1) := by decide +kernel
theorem dJ2_checkIndex_2214a_0 : decode cJ2_checkIndex_2214a 0 = .ok (.iload_n 0, 1) := by decide +kernel
theorem dJ2_checkIndex_2214a_1 : decode cJ2_checkIndex_2214a 1 = .ok (.aload_n 1, 1) := by decide +kernel
theorem dJ2_checkIndex_2214a_2 : decode cJ2_checkIndex_2214a 2 = .ok (.invokestatic 48, 3) := by decide +kernel
theorem dJ2_checkIndex_2214a_5 : decode cJ2_checkIndex_2214a 5 = .ok (.invokestatic 414, 3) := by decide +kernel
theorem dJ2_checkIndex_2214a_8 : decode cJ2_checkIndex_2214a 8 = .ok (.return_, 1) := by decide +kernel
theorem dJ3_checkIndex_8e157_0 : decode cJ3_checkIndex_8e157 0 = .ok (.iload_n 0, 1) := by decide +kernel
theorem dJ3_checkIndex_8e157_1 : decode cJ3_checkIndex_8e157 1 = .ok (.ifCond .lt 8, 3) := by decide +kernel
theorem dJ3_checkIndex_8e157_4 : decode cJ3_checkIndex_8e157 4 = .ok (.iload_n 0, 1) := by decide +kernel
theorem dJ3_checkIndex_8e157_5 : decode cJ3_checkIndex_8e157 5 = .ok (.iload_n 1, 1) := by decide +kernel
theorem dJ3_checkIndex_8e157_6 : decode cJ3_checkIndex_8e157 6 = .ok (.if_icmp .lt 10, 3) := by decide +kernel
theorem dJ3_checkIndex_8e157_9 : decode cJ3_checkIndex_8e157 9 = .ok (.aload_n 2, 1) := by decide +kernel
theorem dJ3_checkIndex_8e157_10 : decode cJ3_checkIndex_8e157 10 = .ok (.iload_n 0, 1) := by decide +kernel
theorem dJ3_checkIndex_8e157_11 : decode cJ3_checkIndex_8e157 11 = .ok (.iload_n 1, 1) := by decide +kernel
theorem dJ3_checkIndex_8e157_12 : decode cJ3_checkIndex_8e157 12 = .ok (.invokestatic 95, 3) := by decide +kernel
theorem dJ3_checkIndex_8e157_15 : decode cJ3_checkIndex_8e157 15 = .ok (.athrow, 1) := by decide +kernel
theorem dJ3_checkIndex_8e157_16 : decode cJ3_checkIndex_8e157 16 = .ok (.iload_n 0, 1) := by decide +kernel
theorem dJ3_checkIndex_8e157_17 : decode cJ3_checkIndex_8e157 17 = .ok (.ireturn, 1) := by decide +kernel

/-! Work: fill, foretellWrite, foretellCut, foretell, touch for every state -/
theorem d_87_0 : decode (axt_b 87) 0 = .ok (.iconst 0, 1) := by decide +kernel
theorem d_87_1 : decode (axt_b 87) 1 = .ok (.istore_n 3, 1) := by decide +kernel
theorem d_87_2 : decode (axt_b 87) 2 = .ok (.iload_n 3, 1) := by decide +kernel
theorem d_87_3 : decode (axt_b 87) 3 = .ok (.aload_n 0, 1) := by decide +kernel
theorem d_87_4 : decode (axt_b 87) 4 = .ok (.getfield 65, 3) := by decide +kernel
theorem d_87_7 : decode (axt_b 87) 7 = .ok (.if_icmp .ge 57, 3) := by decide +kernel
theorem d_87_10 : decode (axt_b 87) 10 = .ok (.aload_n 0, 1) := by decide +kernel
theorem d_87_11 : decode (axt_b 87) 11 = .ok (.getfield 35, 3) := by decide +kernel
theorem d_87_14 : decode (axt_b 87) 14 = .ok (.iconst 2, 1) := by decide +kernel
theorem d_87_15 : decode (axt_b 87) 15 = .ok (.if_icmp .ne 43, 3) := by decide +kernel
theorem d_87_18 : decode (axt_b 87) 18 = .ok (.aload_n 0, 1) := by decide +kernel
theorem d_87_19 : decode (axt_b 87) 19 = .ok (.iload_n 3, 1) := by decide +kernel
theorem d_87_20 : decode (axt_b 87) 20 = .ok (.invokevirtual 156, 3) := by decide +kernel
theorem d_87_23 : decode (axt_b 87) 23 = .ok (.iload_n 1, 1) := by decide +kernel
theorem d_87_24 : decode (axt_b 87) 24 = .ok (.if_icmp .ne 34, 3) := by decide +kernel
theorem d_87_27 : decode (axt_b 87) 27 = .ok (.aload_n 2, 1) := by decide +kernel
theorem d_87_28 : decode (axt_b 87) 28 = .ok (.iconst 0, 1) := by decide +kernel
theorem d_87_29 : decode (axt_b 87) 29 = .ok (.aload_n 0, 1) := by decide +kernel
theorem d_87_30 : decode (axt_b 87) 30 = .ok (.getfield 18, 3) := by decide +kernel
theorem d_87_33 : decode (axt_b 87) 33 = .ok (.iload_n 3, 1) := by decide +kernel
theorem d_87_34 : decode (axt_b 87) 34 = .ok (.sipush 128, 3) := by decide +kernel
theorem d_87_37 : decode (axt_b 87) 37 = .ok (.imul, 1) := by decide +kernel
theorem d_87_38 : decode (axt_b 87) 38 = .ok (.sipush 128, 3) := by decide +kernel
theorem d_87_41 : decode (axt_b 87) 41 = .ok (.invokestatic 159, 3) := by decide +kernel
theorem d_87_44 : decode (axt_b 87) 44 = .ok (.aload_n 0, 1) := by decide +kernel
theorem d_87_45 : decode (axt_b 87) 45 = .ok (.dup, 1) := by decide +kernel
theorem d_87_46 : decode (axt_b 87) 46 = .ok (.getfield 59, 3) := by decide +kernel
theorem d_87_49 : decode (axt_b 87) 49 = .ok (.iconst 1, 1) := by decide +kernel
theorem d_87_50 : decode (axt_b 87) 50 = .ok (.iload_n 3, 1) := by decide +kernel
theorem d_87_51 : decode (axt_b 87) 51 = .ok (.ishl, 1) := by decide +kernel
theorem d_87_52 : decode (axt_b 87) 52 = .ok (.iconst (-1), 1) := by decide +kernel
theorem d_87_53 : decode (axt_b 87) 53 = .ok (.ixor, 1) := by decide +kernel
theorem d_87_54 : decode (axt_b 87) 54 = .ok (.iand, 1) := by decide +kernel
theorem d_87_55 : decode (axt_b 87) 55 = .ok (.putfield 59, 3) := by decide +kernel
theorem d_87_58 : decode (axt_b 87) 58 = .ok (.iinc 3 1, 3) := by decide +kernel
theorem d_87_61 : decode (axt_b 87) 61 = .ok (.goto (-59), 3) := by decide +kernel
theorem d_87_64 : decode (axt_b 87) 64 = .ok (.return_, 1) := by decide +kernel
theorem d_99_0 : decode (axt_b 99) 0 = .ok (.aload_n 0, 1) := by decide +kernel
theorem d_99_1 : decode (axt_b 99) 1 = .ok (.getfield 88, 3) := by decide +kernel
theorem d_99_4 : decode (axt_b 99) 4 = .ok (.ifCond .ge 7, 3) := by decide +kernel
theorem d_99_7 : decode (axt_b 99) 7 = .ok (.iconst 0, 1) := by decide +kernel
theorem d_99_8 : decode (axt_b 99) 8 = .ok (.goto 15, 3) := by decide +kernel
theorem d_99_11 : decode (axt_b 99) 11 = .ok (.aload_n 0, 1) := by decide +kernel
theorem d_99_12 : decode (axt_b 99) 12 = .ok (.getfield 26, 3) := by decide +kernel
theorem d_99_15 : decode (axt_b 99) 15 = .ok (.getfield 116, 3) := by decide +kernel
theorem d_99_18 : decode (axt_b 99) 18 = .ok (.aload_n 0, 1) := by decide +kernel
theorem d_99_19 : decode (axt_b 99) 19 = .ok (.getfield 88, 3) := by decide +kernel
theorem d_99_22 : decode (axt_b 99) 22 = .ok (.iaload, 1) := by decide +kernel
theorem d_99_23 : decode (axt_b 99) 23 = .ok (.istore_n 2, 1) := by decide +kernel
theorem d_99_24 : decode (axt_b 99) 24 = .ok (.aload_n 0, 1) := by decide +kernel
theorem d_99_25 : decode (axt_b 99) 25 = .ok (.getfield 12, 3) := by decide +kernel
theorem d_99_28 : decode (axt_b 99) 28 = .ok (.getfield 91, 3) := by decide +kernel
theorem d_99_31 : decode (axt_b 99) 31 = .ok (.tableswitch 251 0 9 #[53, 84, 91, 106, 125, 251, 169, 205, 251, 226], 53) := by decide +kernel
theorem d_99_84 : decode (axt_b 99) 84 = .ok (.aload_n 0, 1) := by decide +kernel
theorem d_99_85 : decode (axt_b 99) 85 = .ok (.getfield 88, 3) := by decide +kernel
theorem d_99_88 : decode (axt_b 99) 88 = .ok (.ifCond .lt 8, 3) := by decide +kernel
theorem d_99_91 : decode (axt_b 99) 91 = .ok (.bipush (-3), 2) := by decide +kernel
theorem d_99_93 : decode (axt_b 99) 93 = .ok (.goto 21, 3) := by decide +kernel
theorem d_99_96 : decode (axt_b 99) 96 = .ok (.aload_n 0, 1) := by decide +kernel
theorem d_99_97 : decode (axt_b 99) 97 = .ok (.getfield 26, 3) := by decide +kernel
theorem d_99_100 : decode (axt_b 99) 100 = .ok (.getfield 119, 3) := by decide +kernel
theorem d_99_103 : decode (axt_b 99) 103 = .ok (.bipush 48, 2) := by decide +kernel
theorem d_99_105 : decode (axt_b 99) 105 = .ok (.if_icmp .ne 8, 3) := by decide +kernel
theorem d_99_108 : decode (axt_b 99) 108 = .ok (.bipush (-4), 2) := by decide +kernel
theorem d_99_110 : decode (axt_b 99) 110 = .ok (.goto 4, 3) := by decide +kernel
theorem d_99_113 : decode (axt_b 99) 113 = .ok (.iconst 0, 1) := by decide +kernel
theorem d_99_114 : decode (axt_b 99) 114 = .ok (.ireturn, 1) := by decide +kernel
theorem d_99_115 : decode (axt_b 99) 115 = .ok (.aload_n 0, 1) := by decide +kernel
theorem d_99_116 : decode (axt_b 99) 116 = .ok (.iload_n 2, 1) := by decide +kernel
theorem d_99_117 : decode (axt_b 99) 117 = .ok (.iload_n 1, 1) := by decide +kernel
theorem d_99_118 : decode (axt_b 99) 118 = .ok (.invokevirtual 122, 3) := by decide +kernel
theorem d_99_121 : decode (axt_b 99) 121 = .ok (.ireturn, 1) := by decide +kernel
theorem d_99_122 : decode (axt_b 99) 122 = .ok (.aload_n 0, 1) := by decide +kernel
theorem d_99_123 : decode (axt_b 99) 123 = .ok (.getfield 12, 3) := by decide +kernel
theorem d_99_126 : decode (axt_b 99) 126 = .ok (.iload_n 2, 1) := by decide +kernel
theorem d_99_127 : decode (axt_b 99) 127 = .ok (.putfield 126, 3) := by decide +kernel
theorem d_99_130 : decode (axt_b 99) 130 = .ok (.aload_n 0, 1) := by decide +kernel
theorem d_99_131 : decode (axt_b 99) 131 = .ok (.iload_n 2, 1) := by decide +kernel
theorem d_99_132 : decode (axt_b 99) 132 = .ok (.iload_n 1, 1) := by decide +kernel
theorem d_99_133 : decode (axt_b 99) 133 = .ok (.invokevirtual 122, 3) := by decide +kernel
theorem d_99_136 : decode (axt_b 99) 136 = .ok (.ireturn, 1) := by decide +kernel
theorem d_99_137 : decode (axt_b 99) 137 = .ok (.aload_n 0, 1) := by decide +kernel
theorem d_99_138 : decode (axt_b 99) 138 = .ok (.getfield 88, 3) := by decide +kernel
theorem d_99_141 : decode (axt_b 99) 141 = .ok (.ifCond .ge 8, 3) := by decide +kernel
theorem d_99_144 : decode (axt_b 99) 144 = .ok (.bipush (-2), 2) := by decide +kernel
theorem d_99_146 : decode (axt_b 99) 146 = .ok (.goto 9, 3) := by decide +kernel
theorem d_99_149 : decode (axt_b 99) 149 = .ok (.aload_n 0, 1) := by decide +kernel
theorem d_99_150 : decode (axt_b 99) 150 = .ok (.iload_n 2, 1) := by decide +kernel
theorem d_99_151 : decode (axt_b 99) 151 = .ok (.iload_n 1, 1) := by decide +kernel
theorem d_99_152 : decode (axt_b 99) 152 = .ok (.invokevirtual 129, 3) := by decide +kernel
theorem d_99_155 : decode (axt_b 99) 155 = .ok (.ireturn, 1) := by decide +kernel
theorem d_99_156 : decode (axt_b 99) 156 = .ok (.aload_n 0, 1) := by decide +kernel
theorem d_99_157 : decode (axt_b 99) 157 = .ok (.iconst 0, 1) := by decide +kernel
theorem d_99_158 : decode (axt_b 99) 158 = .ok (.aload_n 0, 1) := by decide +kernel
theorem d_99_159 : decode (axt_b 99) 159 = .ok (.getfield 12, 3) := by decide +kernel
theorem d_99_162 : decode (axt_b 99) 162 = .ok (.getfield 132, 3) := by decide +kernel
theorem d_99_165 : decode (axt_b 99) 165 = .ok (.iload_n 2, 1) := by decide +kernel
theorem d_99_166 : decode (axt_b 99) 166 = .ok (.aload_n 0, 1) := by decide +kernel
theorem d_99_167 : decode (axt_b 99) 167 = .ok (.getfield 12, 3) := by decide +kernel
theorem d_99_170 : decode (axt_b 99) 170 = .ok (.getfield 126, 3) := by decide +kernel
theorem d_99_173 : decode (axt_b 99) 173 = .ok (.isub, 1) := by decide +kernel
theorem d_99_174 : decode (axt_b 99) 174 = .ok (.invokestatic 135, 3) := by decide +kernel
theorem d_99_177 : decode (axt_b 99) 177 = .ok (.invokestatic 140, 3) := by decide +kernel
theorem d_99_180 : decode (axt_b 99) 180 = .ok (.putfield 62, 3) := by decide +kernel
theorem d_99_183 : decode (axt_b 99) 183 = .ok (.aload_n 0, 1) := by decide +kernel
theorem d_99_184 : decode (axt_b 99) 184 = .ok (.getfield 88, 3) := by decide +kernel
theorem d_99_187 : decode (axt_b 99) 187 = .ok (.ifCond .ge 8, 3) := by decide +kernel
theorem d_99_190 : decode (axt_b 99) 190 = .ok (.bipush (-2), 2) := by decide +kernel
theorem d_99_192 : decode (axt_b 99) 192 = .ok (.goto 7, 3) := by decide +kernel
theorem d_99_195 : decode (axt_b 99) 195 = .ok (.aload_n 0, 1) := by decide +kernel
theorem d_99_196 : decode (axt_b 99) 196 = .ok (.getfield 62, 3) := by decide +kernel
theorem d_99_199 : decode (axt_b 99) 199 = .ok (.ireturn, 1) := by decide +kernel
theorem d_99_200 : decode (axt_b 99) 200 = .ok (.aload_n 0, 1) := by decide +kernel
theorem d_99_201 : decode (axt_b 99) 201 = .ok (.getfield 88, 3) := by decide +kernel
theorem d_99_204 : decode (axt_b 99) 204 = .ok (.ifCond .ge 8, 3) := by decide +kernel
theorem d_99_207 : decode (axt_b 99) 207 = .ok (.bipush (-2), 2) := by decide +kernel
theorem d_99_209 : decode (axt_b 99) 209 = .ok (.goto 26, 3) := by decide +kernel
theorem d_99_212 : decode (axt_b 99) 212 = .ok (.aload_n 0, 1) := by decide +kernel
theorem d_99_213 : decode (axt_b 99) 213 = .ok (.getfield 101, 3) := by decide +kernel
theorem d_99_216 : decode (axt_b 99) 216 = .ok (.ifCond .lt 18, 3) := by decide +kernel
theorem d_99_219 : decode (axt_b 99) 219 = .ok (.aload_n 0, 1) := by decide +kernel
theorem d_99_220 : decode (axt_b 99) 220 = .ok (.getfield 101, 3) := by decide +kernel
theorem d_99_223 : decode (axt_b 99) 223 = .ok (.aload_n 0, 1) := by decide +kernel
theorem d_99_224 : decode (axt_b 99) 224 = .ok (.getfield 88, 3) := by decide +kernel
theorem d_99_227 : decode (axt_b 99) 227 = .ok (.if_icmp .eq 7, 3) := by decide +kernel
theorem d_99_230 : decode (axt_b 99) 230 = .ok (.iconst 1, 1) := by decide +kernel
theorem d_99_231 : decode (axt_b 99) 231 = .ok (.goto 4, 3) := by decide +kernel
theorem d_99_234 : decode (axt_b 99) 234 = .ok (.iconst 0, 1) := by decide +kernel
theorem d_99_235 : decode (axt_b 99) 235 = .ok (.ireturn, 1) := by decide +kernel
theorem d_99_236 : decode (axt_b 99) 236 = .ok (.aload_n 0, 1) := by decide +kernel
theorem d_99_237 : decode (axt_b 99) 237 = .ok (.getfield 88, 3) := by decide +kernel
theorem d_99_240 : decode (axt_b 99) 240 = .ok (.ifCond .lt 10, 3) := by decide +kernel
theorem d_99_243 : decode (axt_b 99) 243 = .ok (.aload_n 0, 1) := by decide +kernel
theorem d_99_244 : decode (axt_b 99) 244 = .ok (.getfield 101, 3) := by decide +kernel
theorem d_99_247 : decode (axt_b 99) 247 = .ok (.ifCond .ge 8, 3) := by decide +kernel
theorem d_99_250 : decode (axt_b 99) 250 = .ok (.bipush (-2), 2) := by decide +kernel
theorem d_99_252 : decode (axt_b 99) 252 = .ok (.goto 4, 3) := by decide +kernel
theorem d_99_255 : decode (axt_b 99) 255 = .ok (.iconst 0, 1) := by decide +kernel
theorem d_99_256 : decode (axt_b 99) 256 = .ok (.ireturn, 1) := by decide +kernel
theorem d_99_257 : decode (axt_b 99) 257 = .ok (.aload_n 0, 1) := by decide +kernel
theorem d_99_258 : decode (axt_b 99) 258 = .ok (.getfield 101, 3) := by decide +kernel
theorem d_99_261 : decode (axt_b 99) 261 = .ok (.ifCond .ge 8, 3) := by decide +kernel
theorem d_99_264 : decode (axt_b 99) 264 = .ok (.bipush (-2), 2) := by decide +kernel
theorem d_99_266 : decode (axt_b 99) 266 = .ok (.goto 15, 3) := by decide +kernel
theorem d_99_269 : decode (axt_b 99) 269 = .ok (.aload_n 0, 1) := by decide +kernel
theorem d_99_270 : decode (axt_b 99) 270 = .ok (.getfield 26, 3) := by decide +kernel
theorem d_99_273 : decode (axt_b 99) 273 = .ok (.getfield 143, 3) := by decide +kernel
theorem d_99_276 : decode (axt_b 99) 276 = .ok (.aload_n 0, 1) := by decide +kernel
theorem d_99_277 : decode (axt_b 99) 277 = .ok (.getfield 101, 3) := by decide +kernel
theorem d_99_280 : decode (axt_b 99) 280 = .ok (.iaload, 1) := by decide +kernel
theorem d_99_281 : decode (axt_b 99) 281 = .ok (.ireturn, 1) := by decide +kernel
theorem d_99_282 : decode (axt_b 99) 282 = .ok (.aload_n 0, 1) := by decide +kernel
theorem d_99_283 : decode (axt_b 99) 283 = .ok (.getfield 88, 3) := by decide +kernel
theorem d_99_286 : decode (axt_b 99) 286 = .ok (.ifCond .ge 8, 3) := by decide +kernel
theorem d_99_289 : decode (axt_b 99) 289 = .ok (.bipush (-2), 2) := by decide +kernel
theorem d_99_291 : decode (axt_b 99) 291 = .ok (.goto 4, 3) := by decide +kernel
theorem d_99_294 : decode (axt_b 99) 294 = .ok (.iload_n 2, 1) := by decide +kernel
theorem d_99_295 : decode (axt_b 99) 295 = .ok (.ireturn, 1) := by decide +kernel
theorem d_100_0 : decode (axt_b 100) 0 = .ok (.aload_n 0, 1) := by decide +kernel
theorem d_100_1 : decode (axt_b 100) 1 = .ok (.getfield 12, 3) := by decide +kernel
theorem d_100_4 : decode (axt_b 100) 4 = .ok (.getfield 146, 3) := by decide +kernel
theorem d_100_7 : decode (axt_b 100) 7 = .ok (.ifCond .ne 7, 3) := by decide +kernel
theorem d_100_10 : decode (axt_b 100) 10 = .ok (.iconst 0, 1) := by decide +kernel
theorem d_100_11 : decode (axt_b 100) 11 = .ok (.goto 24, 3) := by decide +kernel
theorem d_100_14 : decode (axt_b 100) 14 = .ok (.iconst 0, 1) := by decide +kernel
theorem d_100_15 : decode (axt_b 100) 15 = .ok (.aload_n 0, 1) := by decide +kernel
theorem d_100_16 : decode (axt_b 100) 16 = .ok (.getfield 12, 3) := by decide +kernel
theorem d_100_19 : decode (axt_b 100) 19 = .ok (.getfield 126, 3) := by decide +kernel
theorem d_100_22 : decode (axt_b 100) 22 = .ok (.aload_n 0, 1) := by decide +kernel
theorem d_100_23 : decode (axt_b 100) 23 = .ok (.getfield 12, 3) := by decide +kernel
theorem d_100_26 : decode (axt_b 100) 26 = .ok (.getfield 146, 3) := by decide +kernel
theorem d_100_29 : decode (axt_b 100) 29 = .ok (.iadd, 1) := by decide +kernel
theorem d_100_30 : decode (axt_b 100) 30 = .ok (.iload_n 1, 1) := by decide +kernel
theorem d_100_31 : decode (axt_b 100) 31 = .ok (.isub, 1) := by decide +kernel
theorem d_100_32 : decode (axt_b 100) 32 = .ok (.invokestatic 140, 3) := by decide +kernel
theorem d_100_35 : decode (axt_b 100) 35 = .ok (.istore_n 3, 1) := by decide +kernel
theorem d_100_36 : decode (axt_b 100) 36 = .ok (.aload_n 0, 1) := by decide +kernel
theorem d_100_37 : decode (axt_b 100) 37 = .ok (.getfield 88, 3) := by decide +kernel
theorem d_100_40 : decode (axt_b 100) 40 = .ok (.ifCond .ge 15, 3) := by decide +kernel
theorem d_100_43 : decode (axt_b 100) 43 = .ok (.aload_n 0, 1) := by decide +kernel
theorem d_100_44 : decode (axt_b 100) 44 = .ok (.getfield 26, 3) := by decide +kernel
theorem d_100_47 : decode (axt_b 100) 47 = .ok (.getfield 119, 3) := by decide +kernel
theorem d_100_50 : decode (axt_b 100) 50 = .ok (.bipush 48, 2) := by decide +kernel
theorem d_100_52 : decode (axt_b 100) 52 = .ok (.if_icmp .eq 17, 3) := by decide +kernel
theorem d_100_55 : decode (axt_b 100) 55 = .ok (.iload_n 1, 1) := by decide +kernel
theorem d_100_56 : decode (axt_b 100) 56 = .ok (.iload_n 3, 1) := by decide +kernel
theorem d_100_57 : decode (axt_b 100) 57 = .ok (.iadd, 1) := by decide +kernel
theorem d_100_58 : decode (axt_b 100) 58 = .ok (.sipush 8192, 3) := by decide +kernel
theorem d_100_61 : decode (axt_b 100) 61 = .ok (.if_icmp .gt 8, 3) := by decide +kernel
theorem d_100_64 : decode (axt_b 100) 64 = .ok (.iload_n 3, 1) := by decide +kernel
theorem d_100_65 : decode (axt_b 100) 65 = .ok (.iload_n 2, 1) := by decide +kernel
theorem d_100_66 : decode (axt_b 100) 66 = .ok (.if_icmp .le 6, 3) := by decide +kernel
theorem d_100_69 : decode (axt_b 100) 69 = .ok (.bipush (-4), 2) := by decide +kernel
theorem d_100_71 : decode (axt_b 100) 71 = .ok (.ireturn, 1) := by decide +kernel
theorem d_100_72 : decode (axt_b 100) 72 = .ok (.aload_n 0, 1) := by decide +kernel
theorem d_100_73 : decode (axt_b 100) 73 = .ok (.aload_n 0, 1) := by decide +kernel
theorem d_100_74 : decode (axt_b 100) 74 = .ok (.getfield 12, 3) := by decide +kernel
theorem d_100_77 : decode (axt_b 100) 77 = .ok (.getfield 146, 3) := by decide +kernel
theorem d_100_80 : decode (axt_b 100) 80 = .ok (.putfield 62, 3) := by decide +kernel
theorem d_100_83 : decode (axt_b 100) 83 = .ok (.aload_n 0, 1) := by decide +kernel
theorem d_100_84 : decode (axt_b 100) 84 = .ok (.getfield 12, 3) := by decide +kernel
theorem d_100_87 : decode (axt_b 100) 87 = .ok (.getfield 146, 3) := by decide +kernel
theorem d_100_90 : decode (axt_b 100) 90 = .ok (.ireturn, 1) := by decide +kernel
theorem d_101_0 : decode (axt_b 101) 0 = .ok (.aload_n 0, 1) := by decide +kernel
theorem d_101_1 : decode (axt_b 101) 1 = .ok (.getfield 12, 3) := by decide +kernel
theorem d_101_4 : decode (axt_b 101) 4 = .ok (.getfield 126, 3) := by decide +kernel
theorem d_101_7 : decode (axt_b 101) 7 = .ok (.iload_n 1, 1) := by decide +kernel
theorem d_101_8 : decode (axt_b 101) 8 = .ok (.isub, 1) := by decide +kernel
theorem d_101_9 : decode (axt_b 101) 9 = .ok (.iload_n 2, 1) := by decide +kernel
theorem d_101_10 : decode (axt_b 101) 10 = .ok (.if_icmp .le 6, 3) := by decide +kernel
theorem d_101_13 : decode (axt_b 101) 13 = .ok (.bipush (-4), 2) := by decide +kernel
theorem d_101_15 : decode (axt_b 101) 15 = .ok (.ireturn, 1) := by decide +kernel
theorem d_101_16 : decode (axt_b 101) 16 = .ok (.aload_n 0, 1) := by decide +kernel
theorem d_101_17 : decode (axt_b 101) 17 = .ok (.getfield 12, 3) := by decide +kernel
theorem d_101_20 : decode (axt_b 101) 20 = .ok (.getfield 126, 3) := by decide +kernel
theorem d_101_23 : decode (axt_b 101) 23 = .ok (.sipush 448, 3) := by decide +kernel
theorem d_101_26 : decode (axt_b 101) 26 = .ok (.idiv, 1) := by decide +kernel
theorem d_101_27 : decode (axt_b 101) 27 = .ok (.istore_n 3, 1) := by decide +kernel
theorem d_101_28 : decode (axt_b 101) 28 = .ok (.aload_n 0, 1) := by decide +kernel
theorem d_101_29 : decode (axt_b 101) 29 = .ok (.getfield 12, 3) := by decide +kernel
theorem d_101_32 : decode (axt_b 101) 32 = .ok (.getfield 126, 3) := by decide +kernel
theorem d_101_35 : decode (axt_b 101) 35 = .ok (.iload_n 1, 1) := by decide +kernel
theorem d_101_36 : decode (axt_b 101) 36 = .ok (.if_icmp .ge 21, 3) := by decide +kernel
theorem d_101_39 : decode (axt_b 101) 39 = .ok (.aload_n 0, 1) := by decide +kernel
theorem d_101_40 : decode (axt_b 101) 40 = .ok (.getfield 12, 3) := by decide +kernel
theorem d_101_43 : decode (axt_b 101) 43 = .ok (.getfield 126, 3) := by decide +kernel
theorem d_101_46 : decode (axt_b 101) 46 = .ok (.sipush 448, 3) := by decide +kernel
theorem d_101_49 : decode (axt_b 101) 49 = .ok (.irem, 1) := by decide +kernel
theorem d_101_50 : decode (axt_b 101) 50 = .ok (.ifCond .eq 7, 3) := by decide +kernel
theorem d_101_53 : decode (axt_b 101) 53 = .ok (.iconst 1, 1) := by decide +kernel
theorem d_101_54 : decode (axt_b 101) 54 = .ok (.goto 4, 3) := by decide +kernel
theorem d_101_57 : decode (axt_b 101) 57 = .ok (.iconst 0, 1) := by decide +kernel
theorem d_101_58 : decode (axt_b 101) 58 = .ok (.istore 4, 2) := by decide +kernel
theorem d_101_60 : decode (axt_b 101) 60 = .ok (.aload_n 0, 1) := by decide +kernel
theorem d_101_61 : decode (axt_b 101) 61 = .ok (.iload 4, 2) := by decide +kernel
theorem d_101_63 : decode (axt_b 101) 63 = .ok (.ifCond .eq 27, 3) := by decide +kernel
theorem d_101_66 : decode (axt_b 101) 66 = .ok (.aload_n 0, 1) := by decide +kernel
theorem d_101_67 : decode (axt_b 101) 67 = .ok (.getfield 26, 3) := by decide +kernel
theorem d_101_70 : decode (axt_b 101) 70 = .ok (.getfield 48, 3) := by decide +kernel
theorem d_101_73 : decode (axt_b 101) 73 = .ok (.aload_n 0, 1) := by decide +kernel
theorem d_101_74 : decode (axt_b 101) 74 = .ok (.getfield 88, 3) := by decide +kernel
theorem d_101_77 : decode (axt_b 101) 77 = .ok (.bipush 20, 2) := by decide +kernel
theorem d_101_79 : decode (axt_b 101) 79 = .ok (.imul, 1) := by decide +kernel
theorem d_101_80 : decode (axt_b 101) 80 = .ok (.iload_n 3, 1) := by decide +kernel
theorem d_101_81 : decode (axt_b 101) 81 = .ok (.iadd, 1) := by decide +kernel
theorem d_101_82 : decode (axt_b 101) 82 = .ok (.iaload, 1) := by decide +kernel
theorem d_101_83 : decode (axt_b 101) 83 = .ok (.ifCond .lt 7, 3) := by decide +kernel
theorem d_101_86 : decode (axt_b 101) 86 = .ok (.iconst 1, 1) := by decide +kernel
theorem d_101_87 : decode (axt_b 101) 87 = .ok (.goto 4, 3) := by decide +kernel
theorem d_101_90 : decode (axt_b 101) 90 = .ok (.iconst 0, 1) := by decide +kernel
theorem d_101_91 : decode (axt_b 101) 91 = .ok (.putfield 62, 3) := by decide +kernel
theorem d_101_94 : decode (axt_b 101) 94 = .ok (.iload_n 1, 1) := by decide +kernel
theorem d_101_95 : decode (axt_b 101) 95 = .ok (.ireturn, 1) := by decide +kernel
theorem d_102_0 : decode (axt_b 102) 0 = .ok (.aload_n 0, 1) := by decide +kernel
theorem d_102_1 : decode (axt_b 102) 1 = .ok (.getfield 12, 3) := by decide +kernel
theorem d_102_4 : decode (axt_b 102) 4 = .ok (.getfield 91, 3) := by decide +kernel
theorem d_102_7 : decode (axt_b 102) 7 = .ok (.bipush 9, 2) := by decide +kernel
theorem d_102_9 : decode (axt_b 102) 9 = .ok (.if_icmp .ne 23, 3) := by decide +kernel
theorem d_102_12 : decode (axt_b 102) 12 = .ok (.aload_n 0, 1) := by decide +kernel
theorem d_102_13 : decode (axt_b 102) 13 = .ok (.getfield 26, 3) := by decide +kernel
theorem d_102_16 : decode (axt_b 102) 16 = .ok (.aload_n 0, 1) := by decide +kernel
theorem d_102_17 : decode (axt_b 102) 17 = .ok (.getfield 101, 3) := by decide +kernel
theorem d_102_20 : decode (axt_b 102) 20 = .ok (.aload_n 0, 1) := by decide +kernel
theorem d_102_21 : decode (axt_b 102) 21 = .ok (.getfield 12, 3) := by decide +kernel
theorem d_102_24 : decode (axt_b 102) 24 = .ok (.getfield 78, 3) := by decide +kernel
theorem d_102_27 : decode (axt_b 102) 27 = .ok (.bipush 100, 2) := by decide +kernel
theorem d_102_29 : decode (axt_b 102) 29 = .ok (.invokevirtual 149, 3) := by decide +kernel
theorem d_102_32 : decode (axt_b 102) 32 = .ok (.aload_n 0, 1) := by decide +kernel
theorem d_102_33 : decode (axt_b 102) 33 = .ok (.getfield 62, 3) := by decide +kernel
theorem d_102_36 : decode (axt_b 102) 36 = .ok (.ifCond .le 47, 3) := by decide +kernel
theorem d_102_39 : decode (axt_b 102) 39 = .ok (.aload_n 0, 1) := by decide +kernel
theorem d_102_40 : decode (axt_b 102) 40 = .ok (.aload_n 0, 1) := by decide +kernel
theorem d_102_41 : decode (axt_b 102) 41 = .ok (.getfield 12, 3) := by decide +kernel
theorem d_102_44 : decode (axt_b 102) 44 = .ok (.getfield 126, 3) := by decide +kernel
theorem d_102_47 : decode (axt_b 102) 47 = .ok (.sipush 448, 3) := by decide +kernel
theorem d_102_50 : decode (axt_b 102) 50 = .ok (.idiv, 1) := by decide +kernel
theorem d_102_51 : decode (axt_b 102) 51 = .ok (.putfield 153, 3) := by decide +kernel
theorem d_102_54 : decode (axt_b 102) 54 = .ok (.aload_n 0, 1) := by decide +kernel
theorem d_102_55 : decode (axt_b 102) 55 = .ok (.aload_n 0, 1) := by decide +kernel
theorem d_102_56 : decode (axt_b 102) 56 = .ok (.getfield 12, 3) := by decide +kernel
theorem d_102_59 : decode (axt_b 102) 59 = .ok (.getfield 126, 3) := by decide +kernel
theorem d_102_62 : decode (axt_b 102) 62 = .ok (.aload_n 0, 1) := by decide +kernel
theorem d_102_63 : decode (axt_b 102) 63 = .ok (.getfield 62, 3) := by decide +kernel
theorem d_102_66 : decode (axt_b 102) 66 = .ok (.iadd, 1) := by decide +kernel
theorem d_102_67 : decode (axt_b 102) 67 = .ok (.iconst 1, 1) := by decide +kernel
theorem d_102_68 : decode (axt_b 102) 68 = .ok (.isub, 1) := by decide +kernel
theorem d_102_69 : decode (axt_b 102) 69 = .ok (.sipush 448, 3) := by decide +kernel
theorem d_102_72 : decode (axt_b 102) 72 = .ok (.idiv, 1) := by decide +kernel
theorem d_102_73 : decode (axt_b 102) 73 = .ok (.aload_n 0, 1) := by decide +kernel
theorem d_102_74 : decode (axt_b 102) 74 = .ok (.getfield 153, 3) := by decide +kernel
theorem d_102_77 : decode (axt_b 102) 77 = .ok (.isub, 1) := by decide +kernel
theorem d_102_78 : decode (axt_b 102) 78 = .ok (.iconst 1, 1) := by decide +kernel
theorem d_102_79 : decode (axt_b 102) 79 = .ok (.iadd, 1) := by decide +kernel
theorem d_102_80 : decode (axt_b 102) 80 = .ok (.putfield 65, 3) := by decide +kernel
theorem d_102_83 : decode (axt_b 102) 83 = .ok (.iconst 0, 1) := by decide +kernel
theorem d_102_84 : decode (axt_b 102) 84 = .ok (.istore_n 1, 1) := by decide +kernel
theorem d_102_85 : decode (axt_b 102) 85 = .ok (.iload_n 1, 1) := by decide +kernel
theorem d_102_86 : decode (axt_b 102) 86 = .ok (.aload_n 0, 1) := by decide +kernel
theorem d_102_87 : decode (axt_b 102) 87 = .ok (.getfield 65, 3) := by decide +kernel
theorem d_102_90 : decode (axt_b 102) 90 = .ok (.if_icmp .ge 53, 3) := by decide +kernel
theorem d_102_93 : decode (axt_b 102) 93 = .ok (.aload_n 0, 1) := by decide +kernel
theorem d_102_94 : decode (axt_b 102) 94 = .ok (.getfield 88, 3) := by decide +kernel
theorem d_102_97 : decode (axt_b 102) 97 = .ok (.ifCond .lt 40, 3) := by decide +kernel
theorem d_102_100 : decode (axt_b 102) 100 = .ok (.aload_n 0, 1) := by decide +kernel
theorem d_102_101 : decode (axt_b 102) 101 = .ok (.getfield 26, 3) := by decide +kernel
theorem d_102_104 : decode (axt_b 102) 104 = .ok (.getfield 48, 3) := by decide +kernel
theorem d_102_107 : decode (axt_b 102) 107 = .ok (.aload_n 0, 1) := by decide +kernel
theorem d_102_108 : decode (axt_b 102) 108 = .ok (.getfield 88, 3) := by decide +kernel
theorem d_102_111 : decode (axt_b 102) 111 = .ok (.bipush 20, 2) := by decide +kernel
theorem d_102_113 : decode (axt_b 102) 113 = .ok (.imul, 1) := by decide +kernel
theorem d_102_114 : decode (axt_b 102) 114 = .ok (.aload_n 0, 1) := by decide +kernel
theorem d_102_115 : decode (axt_b 102) 115 = .ok (.getfield 153, 3) := by decide +kernel
theorem d_102_118 : decode (axt_b 102) 118 = .ok (.iadd, 1) := by decide +kernel
theorem d_102_119 : decode (axt_b 102) 119 = .ok (.iload_n 1, 1) := by decide +kernel
theorem d_102_120 : decode (axt_b 102) 120 = .ok (.iadd, 1) := by decide +kernel
theorem d_102_121 : decode (axt_b 102) 121 = .ok (.iaload, 1) := by decide +kernel
theorem d_102_122 : decode (axt_b 102) 122 = .ok (.ifCond .lt 15, 3) := by decide +kernel
theorem d_102_125 : decode (axt_b 102) 125 = .ok (.aload_n 0, 1) := by decide +kernel
theorem d_102_126 : decode (axt_b 102) 126 = .ok (.dup, 1) := by decide +kernel
theorem d_102_127 : decode (axt_b 102) 127 = .ok (.getfield 59, 3) := by decide +kernel
theorem d_102_130 : decode (axt_b 102) 130 = .ok (.iconst 1, 1) := by decide +kernel
theorem d_102_131 : decode (axt_b 102) 131 = .ok (.iload_n 1, 1) := by decide +kernel
theorem d_102_132 : decode (axt_b 102) 132 = .ok (.ishl, 1) := by decide +kernel
theorem d_102_133 : decode (axt_b 102) 133 = .ok (.ior, 1) := by decide +kernel
theorem d_102_134 : decode (axt_b 102) 134 = .ok (.putfield 59, 3) := by decide +kernel
theorem d_102_137 : decode (axt_b 102) 137 = .ok (.iinc 1 1, 3) := by decide +kernel
theorem d_102_140 : decode (axt_b 102) 140 = .ok (.goto (-55), 3) := by decide +kernel
theorem d_102_143 : decode (axt_b 102) 143 = .ok (.return_, 1) := by decide +kernel
theorem max0s {x z : Nat} (hx : x < 2 ^ 30) (hz : z < 2 ^ 30) : (if (0 : Int32) < nI x - nI z then nI x - nI z else 0) = nI (x - z) := by
  rcases Nat.lt_or_ge z x with h | h
  · rw [pk_sub (by omega), if_pos (by
      have := nI_lt (show 0 < x - z by omega) (by omega)
      exact this)]
  · rw [show x - z = 0 by omega]
    rcases Nat.eq_or_lt_of_le h with e | e
    · subst e
      rw [pk_sub (Nat.le_refl _), Nat.sub_self]
      rfl
    · have h1 := pk_sneg (a := x) (b := z) (by omega) e
      rw [if_neg (fun c => absurd (Int32.lt_trans c h1) (by decide))]
      rfl
theorem max0m {b x z : Nat} (hb : b < 2 ^ 30) (hx : x < 2 ^ 30) (hz : z < 2 ^ 30) : (if (0 : Int32) < (if nI x - nI z < nI b then nI x - nI z else nI b) then (if nI x - nI z < nI b then nI x - nI z else nI b) else 0) = nI (min b (x - z)) := by
  rcases Nat.lt_or_ge x z with h | h
  · have h1 := pk_sneg (a := x) (b := z) (by omega) h
    rw [if_pos (show nI x - nI z < nI b from by
      have h2 : (0 : Int32) ≤ nI b := nI_pos' (by omega)
      exact Int32.lt_of_lt_of_le h1 h2), if_neg (fun c => absurd (Int32.lt_trans c h1) (by decide)), show x - z = 0 by omega]
    rw [Nat.min_zero]
    rfl
  · rw [pk_sub h]
    by_cases c : x - z < b
    · rw [if_pos (nI_lt c (by omega)), Nat.min_eq_right (by omega)]
      by_cases d : x - z = 0
      · rw [d]
        rfl
      · exact if_pos (nI_lt (show 0 < x - z by omega) (by omega))
    · rw [if_neg (nI_nlt (by omega) (by omega)), Nat.min_eq_left (by omega)]
      by_cases d : b = 0
      · rw [d]
        rfl
      · exact if_pos (nI_lt (show 0 < b by omega) (by omega))
def OKf (jf : Nat → Int32) (y : Int32) : Prop := y = -1 ∨ ∃ p : Nat, p < 48 ∧ y = nI p ∧ ¬ jf p < 0
theorem in10 {x : Int32} (h : inR 10 x) : x = 0 ∨ x = 1 ∨ x = 2 ∨ x = 3 ∨ x = 4 ∨ x = 5 ∨ x = 6 ∨ x = 7 ∨ x = 8 ∨ x = 9 := by
  obtain ⟨k, hk, rfl⟩ := h
  rcases k with _ | _ | _ | _ | _ | _ | _ | _ | _ | _ | k
  · exact Or.inl rfl
  · exact Or.inr (Or.inl rfl)
  · exact Or.inr (Or.inr (Or.inl rfl))
  · exact Or.inr (Or.inr (Or.inr (Or.inl rfl)))
  · exact Or.inr (Or.inr (Or.inr (Or.inr (Or.inl rfl))))
  · exact Or.inr (Or.inr (Or.inr (Or.inr (Or.inr (Or.inl rfl)))))
  · exact Or.inr (Or.inr (Or.inr (Or.inr (Or.inr (Or.inr (Or.inl rfl))))))
  · exact Or.inr (Or.inr (Or.inr (Or.inr (Or.inr (Or.inr (Or.inr (Or.inl rfl)))))))
  · exact Or.inr (Or.inr (Or.inr (Or.inr (Or.inr (Or.inr (Or.inr (Or.inr (Or.inl rfl))))))))
  · exact Or.inr (Or.inr (Or.inr (Or.inr (Or.inr (Or.inr (Or.inr (Or.inr (Or.inr rfl))))))))
  · omega
/-- what foretell says of an OPERATION that can be done -/
def AnC (fl : Int32) (W Q : Nat → Int32) (y : Int32) : Prop :=
  (Q 0 = 8 ∨ Q 0 = 9 ∨ ((W 7 = -1 → (Q 0 = 0 ∨ Q 0 = 1 ∨ Q 0 = 2) ∧ ¬ fl = 48) ∧ (Q 0 = 7 → ¬ W 8 = -1) ∧ (Q 0 = 5 → W 9 = 0))) ∧
  (∃ s : Nat, s ≤ 2048 ∧ W 9 = nI s ∧ (0 < s → ∃ a : Nat, Q 1 = nI a ∧ a + s ≤ 8192)) ∧ (Q 0 = 2 → inR 8193 (Q 1)) ∧ (Q 0 = 9 → ¬ W 8 = -1) ∧ (Q 0 = 4 ∨ Q 0 = 9 → inR 2049 y)
/-- Work.neededAt -/
def ndB (W : Nat → Int32) (i : Nat) : Int32 := if nI i < W 11 ∧ ¬ (W 12 >>> (nI i &&& 31)) &&& 1 = 0 then ((W 7 * 20) + W 10) + nI i else -1
def G_87 (nn gg : Nat) (C me : Int32) (f u b : Nat → Int32) (x : Int32) : Nat → Nat → (Nat → Nat → Int32) → Int64 → Int64 → List Mg → St
  | 0, i, D, K, A, Y =>
    (D, K, A, Y)
  | k + 1, i, D, K, A, Y =>
    if ¬ (D 18 3) = 2 then
      G_87 nn gg C me f u b x k (i + 1) D K A Y
    else
      if ¬ (ndB (D 18) i) = x then
        G_87 nn gg C me f u b x k (i + 1) D K A Y
      else
        G_87 nn gg C me f u b x k (i + 1) (va_up (va_up D 18 (upd (D 18) 12 ((D 18 12) &&& ((1 <<< ((nI i) &&& 31)) ^^^ (-1))))) 21 (va_cpy b (D 21) 0 (i * 128) 128)) K A Y
def F_87 (nn gg : Nat) (C me : Int32) (f u b : Nat → Int32) (D : Nat → Nat → Int32) (K A : Int64) (Y : List Mg) (x : Int32) : St :=
  bnN ((D 18 11).toNatClampNeg) (fun c =>
    G_87 nn gg C me f u b x c 0 D K A Y)
theorem s_87 {L : Nat} {xs : Nat → Int32} {fr lo : Nat} {Z : ZT} {n nd nn gg : Nat} {C me : Int32} {f : Nat → Int32} {q : Nat} {u b : Nat → Int32} {uv : Int32} {h0 h : ax_H} {D : Nat → Nat → Int32} {K A : Int64} {Y : List Mg} {x : Int32} (hfr : 3 ≤ fr) (hlo : 60 ≤ lo) (hC : CS n nd nn gg f) (hS : NS Z n nd nn gg C me f q u b uv h0 h D K A Y) (hI : NI Z nn D) (hb : plT (b 1)) : ax_M L xs 87 fr lo [.ref (nd + 18), .int x, .ref (n + 1 + 1 + 2 * q + 1)] h (fun r h' => r = none ∧ PS Z n nd nn gg C me f q u b uv h0 h' (fun D' K' A' Y' => (D', K', A', Y') = F_87 nn gg C me f u b D K A Y x ∧ True)) := by
  have hC0 := hC
  obtain ⟨c, hc, hc2⟩ := hI.2.2.1.2.2.1
  have key : ∀ (k i : Nat) (h : ax_H) (D : Nat → Nat → Int32) (K A : Int64) (Y : List Mg), i + k = c → D 18 11 = nI c → NS Z n nd nn gg C me f q u b uv h0 h D K A Y → NI Z nn D → ax_A (ax_step L xs) ((87, 2, fr, lo), [(0, .ref (nd + 18)), (1, .int x), (2, .ref (n + 1 + 1 + 2 * q + 1)), (3, .int (nI i))], [], h) (fun r h' => r = none ∧ PS Z n nd nn gg C me f q u b uv h0 h' (fun D' K' A' Y' => (D', K', A', Y') = G_87 nn gg C me f u b x k i D K A Y ∧ True)) := by
    intro k
    induction k with
    | zero =>
      intro i h D K A Y hi hc2 hS hI
      have e0 : i = c := by omega
      subst e0
      obtain ⟨hnd, hn0, hnn3, hnn, hgg1, hgg, hRg⟩ := hC
      obtain ⟨hF, hN, hf, hn, hs, hp0, hu0⟩ := hS
      replace hF : ax_hs h [cNd n nd me D, cDk nd D, cAr nd 2 35840 D, cAr nd 3 4096 D, cAr nd 4 32 D, cAr nd 5 280 D, cAr nd 6 280 D, cLd n nd me D A, cAr nd 8 16 D, cAr nd 9 280 D, cTb nd gg D K, cAr nd 11 48 D, cAr nd 12 48 D, cAr nd 13 48 D, cAr nd 14 2400 D, cAr nd 15 512 D, cAr nd 16 961 D, cAr nd 17 961 D, cWk nd D, cWa nd D, cAr nd 20 612 D, cAr nd 21 1152 D, cRk n nn gg C, cOr n nn gg f] := hF
      refine ar_iload_n 3 d_87_2 rfl rfl ?_
      refine ar_aload_n 4 d_87_3 rfl rfl ?_
      refine ar_getf 7 d_87_4 rfl (ci := 10) (k := 11) rfl (hF.at 18 rfl) rfl ?_
      refine ar_icmp_ge 64 10 d_87_7 (by decide) rfl (fun _ => ?_) (fun c => absurd (by rw [hc2]; exact Int32.le_refl _) c)
      have hS9 : NS Z n nd nn gg C me f q u b uv h0 h D K A Y := ⟨hF, hN, hf, hn, hs, hp0, hu0⟩
      have hI9 : NI Z nn D := hI
      exact ar_ret d_87_64 rfl (⟨rfl, _, _, _, _, hS9, hI9, rfl, trivial⟩)
    | succ k ih =>
      intro i h D K A Y hi hc2 hS hI
      have hic : i < c := by omega
      obtain ⟨hnd, hn0, hnn3, hnn, hgg1, hgg, hRg⟩ := hC
      obtain ⟨hF, hN, hf, hn, hs, hp0, hu0⟩ := hS
      replace hF : ax_hs h [cNd n nd me D, cDk nd D, cAr nd 2 35840 D, cAr nd 3 4096 D, cAr nd 4 32 D, cAr nd 5 280 D, cAr nd 6 280 D, cLd n nd me D A, cAr nd 8 16 D, cAr nd 9 280 D, cTb nd gg D K, cAr nd 11 48 D, cAr nd 12 48 D, cAr nd 13 48 D, cAr nd 14 2400 D, cAr nd 15 512 D, cAr nd 16 961 D, cAr nd 17 961 D, cWk nd D, cWa nd D, cAr nd 20 612 D, cAr nd 21 1152 D, cRk n nn gg C, cOr n nn gg f] := hF
      refine ar_iload_n 3 d_87_2 rfl rfl ?_
      refine ar_aload_n 4 d_87_3 rfl rfl ?_
      refine ar_getf 7 d_87_4 rfl (ci := 10) (k := 11) rfl (hF.at 18 rfl) rfl ?_
      refine ar_icmp_ge 64 10 d_87_7 (by decide) rfl (fun c => absurd c (by rw [hc2]; exact nI_ge hic (by omega))) (fun _ => ?_)
      refine ar_aload_n 11 d_87_10 rfl rfl ?_
      refine ar_getf 14 d_87_11 rfl (ci := 10) (k := 3) rfl (hF.at 18 rfl) rfl ?_
      refine ar_iconst 15 (v := 2) d_87_14 rfl (by decide) ?_
      refine ar_icmp_ne 58 18 d_87_15 (by decide) rfl (fun cc1 => ?_) (fun cc1 => ?_)
      · refine ar_iinc 61 [(0, .ref (nd + 18)), (1, .int x), (2, .ref (n + 1 + 1 + 2 * q + 1)), (3, .int (nI (i + 1)))] d_87_58 rfl rfl (nI_1 i) (by decide) rfl ?_
        refine ar_goto 2 d_87_61 (by decide) ?_
        have hS1 : NS Z n nd nn gg C me f q u b uv h0 h D K A Y := ⟨hF, hN, hf, hn, hs, hp0, hu0⟩
        have hI1 : NI Z nn D := hI
        rw [← show G_87 nn gg C me f u b x k (i + 1) D K A Y = G_87 nn gg C me f u b x (k + 1) i D K A Y from eq_ifT cc1 (rfl)]
        exact ih (i + 1) h D K A Y (by omega) hc2 hS1 hI1
      · refine ar_aload_n 19 d_87_18 rfl rfl ?_
        refine ar_iload_n 20 d_87_19 rfl rfl ?_
        refine ar_call (r := []) (na := 0) (kd := 0) (cm := 88) (fr2 := fr - 1) (lo2 := lo - 21) 23 d_87_20 (ar_hoV (as := [.int (nI i)]) rfl rfl rfl (hF.at 18 rfl)) rfl (by omega) (show lo - 21 + (19 + 2) = lo by omega) (Nat.le_of_ble_eq_true rfl) (Nat.le_of_ble_eq_true rfl) (c_88 (hF.at 18 rfl)) ?_
        intro v hh hq
        obtain ⟨rfl, ehh⟩ := hq
        rw [ehh]
        clear ehh
        refine ar_iload_n 24 d_87_23 rfl rfl ?_
        refine ar_icmp_ne 58 27 d_87_24 (by decide) rfl (fun cc2 => ?_) (fun cc2 => ?_)
        · refine ar_iinc 61 [(0, .ref (nd + 18)), (1, .int x), (2, .ref (n + 1 + 1 + 2 * q + 1)), (3, .int (nI (i + 1)))] d_87_58 rfl rfl (nI_1 i) (by decide) rfl ?_
          refine ar_goto 2 d_87_61 (by decide) ?_
          have hS1 : NS Z n nd nn gg C me f q u b uv h0 h D K A Y := ⟨hF, hN, hf, hn, hs, hp0, hu0⟩
          have hI1 : NI Z nn D := hI
          rw [← show G_87 nn gg C me f u b x k (i + 1) D K A Y = G_87 nn gg C me f u b x (k + 1) i D K A Y from eq_ifF cc1 (eq_ifT cc2 (rfl))]
          exact ih (i + 1) h D K A Y (by omega) hc2 hS1 hI1
        · refine ar_aload_n 28 d_87_27 rfl rfl ?_
          refine ar_iconst 29 (v := 0) d_87_28 rfl (by decide) ?_
          refine ar_aload_n 30 d_87_29 rfl rfl ?_
          refine ar_getf 33 d_87_30 rfl (ci := 10) (k := 2) rfl (hF.at 18 rfl) rfl ?_
          refine ar_iload_n 34 d_87_33 rfl rfl ?_
          refine ar_sipush 37 (v := 128) d_87_34 rfl (by decide) ?_
          refine ar_imul 38 d_87_37 rfl ?_
          refine ar_top (x' := nI (i * 128)) (pk_mul i 128) ?_
          refine ar_sipush 41 (v := 128) d_87_38 rfl (by decide) ?_
          refine ar_copy 44 d_87_41 rfl rfl (by omega) (by show 0 + (nativeFrameWords "java/lang/System" "arraycopy" 5 + 11) ≤ lo; rw [nfw_copy]; omega) hN.mbc (hF.at 21 rfl) (by decide) (Int32.not_lt.mpr (nI_le (Nat.zero_le _) (by omega))) (by decide) (by show 0 + 128 ≤ 617; omega) (by rw [nI_clamp (by omega)]; show i * 128 + 128 ≤ 1152; omega) ?_
          replace hF : ax_hs (ax_put h (nd + 21) (.inl (0, 1152, .inl (va_cpy b (D 21) ((0 : Int32).toNatClampNeg) ((nI (i * 128)).toNatClampNeg) ((128 : Int32).toNatClampNeg))))) [cNd n nd me D, cDk nd D, cAr nd 2 35840 D, cAr nd 3 4096 D, cAr nd 4 32 D, cAr nd 5 280 D, cAr nd 6 280 D, cLd n nd me D A, cAr nd 8 16 D, cAr nd 9 280 D, cTb nd gg D K, cAr nd 11 48 D, cAr nd 12 48 D, cAr nd 13 48 D, cAr nd 14 2400 D, cAr nd 15 512 D, cAr nd 16 961 D, cAr nd 17 961 D, cWk nd D, cWa nd D, cAr nd 20 612 D, (nd + 21, .inl (0, 1152, .inl (va_cpy b (D 21) ((0 : Int32).toNatClampNeg) ((nI (i * 128)).toNatClampNeg) ((128 : Int32).toNatClampNeg)))), cRk n nn gg C, cOr n nn gg f] := hF.put 21 _ rfl rfl
          replace hf := hf.put (a := nd + 21) (c := .inl (0, 1152, .inl (va_cpy b (D 21) ((0 : Int32).toNatClampNeg) ((nI (i * 128)).toNatClampNeg) ((128 : Int32).toNatClampNeg)))) (Or.inr (by omega))
          replace hN := hN.put (a := nd + 21) (c := .inl (0, 1152, .inl (va_cpy b (D 21) ((0 : Int32).toNatClampNeg) ((nI (i * 128)).toNatClampNeg) ((128 : Int32).toNatClampNeg)))) (by omega)
          replace hn : (ax_put h (nd + 21) (.inl (0, 1152, .inl (va_cpy b (D 21) ((0 : Int32).toNatClampNeg) ((nI (i * 128)).toNatClampNeg) ((128 : Int32).toNatClampNeg))))).1 = h0.1 := hn
          replace hs : (ax_put h (nd + 21) (.inl (0, 1152, .inl (va_cpy b (D 21) ((0 : Int32).toNatClampNeg) ((nI (i * 128)).toNatClampNeg) ((128 : Int32).toNatClampNeg))))).2.1 = h0.2.1 := hs
          generalize ax_put h (nd + 21) (.inl (0, 1152, .inl (va_cpy b (D 21) ((0 : Int32).toNatClampNeg) ((nI (i * 128)).toNatClampNeg) ((128 : Int32).toNatClampNeg)))) = hp_3 at hF hf hN hn hs ⊢
          replace hF : ax_hs hp_3 [cNd n nd me D, cDk nd D, cAr nd 2 35840 D, cAr nd 3 4096 D, cAr nd 4 32 D, cAr nd 5 280 D, cAr nd 6 280 D, cLd n nd me D A, cAr nd 8 16 D, cAr nd 9 280 D, cTb nd gg D K, cAr nd 11 48 D, cAr nd 12 48 D, cAr nd 13 48 D, cAr nd 14 2400 D, cAr nd 15 512 D, cAr nd 16 961 D, cAr nd 17 961 D, cWk nd D, cWa nd D, cAr nd 20 612 D, (nd + 21, .inl (0, 1152, .inl (va_cpy b (D 21) 0 (i * 128) 128))), cRk n nn gg C, cOr n nn gg f] := by
            have e := hF
            rw [nI_clamp (show i * 128 < 2 ^ 31 by omega)] at e
            exact e
          refine ar_aload_n 45 d_87_44 rfl rfl ?_
          refine ar_dup 46 d_87_45 rfl rfl ?_
          refine ar_getf 49 d_87_46 rfl (ci := 10) (k := 12) rfl (hF.at 18 rfl) rfl ?_
          refine ar_iconst 50 (v := 1) d_87_49 rfl (by decide) ?_
          refine ar_iload_n 51 d_87_50 rfl rfl ?_
          refine ar_ishl 52 d_87_51 rfl ?_
          refine ar_iconst 53 (v := -1) d_87_52 rfl (by decide) ?_
          refine ar_ixor 54 d_87_53 rfl ?_
          refine ar_iand 55 d_87_54 rfl ?_
          refine ar_putf 58 [.ref (nd + 10), .ref (nd + 19), .ref (nd + 21), .int (D 18 3), .int (D 18 4), .int (D 18 5), .int (D 18 6), .int (D 18 7), .int (D 18 8), .int (D 18 9), .int (D 18 10), .int (D 18 11), .int ((D 18 12) &&& ((1 <<< ((nI i) &&& 31)) ^^^ (-1))), .int (D 18 13), .int (D 18 14)] d_87_55 rfl (ci := 10) (k := 12) rfl rfl (hF.at 18 rfl) (Nat.le_of_ble_eq_true rfl) rfl rfl rfl ?_
          replace hF : ax_hs (ax_put hp_3 (nd + 18) (.inr (10, [.ref (nd + 10), .ref (nd + 19), .ref (nd + 21), .int (D 18 3), .int (D 18 4), .int (D 18 5), .int (D 18 6), .int (D 18 7), .int (D 18 8), .int (D 18 9), .int (D 18 10), .int (D 18 11), .int ((D 18 12) &&& ((1 <<< ((nI i) &&& 31)) ^^^ (-1))), .int (D 18 13), .int (D 18 14)]))) [cNd n nd me D, cDk nd D, cAr nd 2 35840 D, cAr nd 3 4096 D, cAr nd 4 32 D, cAr nd 5 280 D, cAr nd 6 280 D, cLd n nd me D A, cAr nd 8 16 D, cAr nd 9 280 D, cTb nd gg D K, cAr nd 11 48 D, cAr nd 12 48 D, cAr nd 13 48 D, cAr nd 14 2400 D, cAr nd 15 512 D, cAr nd 16 961 D, cAr nd 17 961 D, (nd + 18, .inr (10, [.ref (nd + 10), .ref (nd + 19), .ref (nd + 21), .int (D 18 3), .int (D 18 4), .int (D 18 5), .int (D 18 6), .int (D 18 7), .int (D 18 8), .int (D 18 9), .int (D 18 10), .int (D 18 11), .int ((D 18 12) &&& ((1 <<< ((nI i) &&& 31)) ^^^ (-1))), .int (D 18 13), .int (D 18 14)])), cWa nd D, cAr nd 20 612 D, (nd + 21, .inl (0, 1152, .inl (va_cpy b (D 21) 0 (i * 128) 128))), cRk n nn gg C, cOr n nn gg f] := hF.put 18 _ rfl rfl
          replace hf := hf.put (a := nd + 18) (c := .inr (10, [.ref (nd + 10), .ref (nd + 19), .ref (nd + 21), .int (D 18 3), .int (D 18 4), .int (D 18 5), .int (D 18 6), .int (D 18 7), .int (D 18 8), .int (D 18 9), .int (D 18 10), .int (D 18 11), .int ((D 18 12) &&& ((1 <<< ((nI i) &&& 31)) ^^^ (-1))), .int (D 18 13), .int (D 18 14)])) (Or.inr (by omega))
          replace hN := hN.put (a := nd + 18) (c := .inr (10, [.ref (nd + 10), .ref (nd + 19), .ref (nd + 21), .int (D 18 3), .int (D 18 4), .int (D 18 5), .int (D 18 6), .int (D 18 7), .int (D 18 8), .int (D 18 9), .int (D 18 10), .int (D 18 11), .int ((D 18 12) &&& ((1 <<< ((nI i) &&& 31)) ^^^ (-1))), .int (D 18 13), .int (D 18 14)])) (by omega)
          replace hn : (ax_put hp_3 (nd + 18) (.inr (10, [.ref (nd + 10), .ref (nd + 19), .ref (nd + 21), .int (D 18 3), .int (D 18 4), .int (D 18 5), .int (D 18 6), .int (D 18 7), .int (D 18 8), .int (D 18 9), .int (D 18 10), .int (D 18 11), .int ((D 18 12) &&& ((1 <<< ((nI i) &&& 31)) ^^^ (-1))), .int (D 18 13), .int (D 18 14)]))).1 = h0.1 := hn
          replace hs : (ax_put hp_3 (nd + 18) (.inr (10, [.ref (nd + 10), .ref (nd + 19), .ref (nd + 21), .int (D 18 3), .int (D 18 4), .int (D 18 5), .int (D 18 6), .int (D 18 7), .int (D 18 8), .int (D 18 9), .int (D 18 10), .int (D 18 11), .int ((D 18 12) &&& ((1 <<< ((nI i) &&& 31)) ^^^ (-1))), .int (D 18 13), .int (D 18 14)]))).2.1 = h0.2.1 := hs
          generalize ax_put hp_3 (nd + 18) (.inr (10, [.ref (nd + 10), .ref (nd + 19), .ref (nd + 21), .int (D 18 3), .int (D 18 4), .int (D 18 5), .int (D 18 6), .int (D 18 7), .int (D 18 8), .int (D 18 9), .int (D 18 10), .int (D 18 11), .int ((D 18 12) &&& ((1 <<< ((nI i) &&& 31)) ^^^ (-1))), .int (D 18 13), .int (D 18 14)])) = hp_4 at hF hf hN hn hs ⊢
          refine ar_iinc 61 [(0, .ref (nd + 18)), (1, .int x), (2, .ref (n + 1 + 1 + 2 * q + 1)), (3, .int (nI (i + 1)))] d_87_58 rfl rfl (nI_1 i) (by decide) rfl ?_
          refine ar_goto 2 d_87_61 (by decide) ?_
          have hS1 : NS Z n nd nn gg C me f q u b uv h0 hp_4 (va_up (va_up D 18 (upd (D 18) 12 ((D 18 12) &&& ((1 <<< ((nI i) &&& 31)) ^^^ (-1))))) 21 (va_cpy b (D 21) 0 (i * 128) 128)) K A Y := ⟨hF, hN, hf, hn, hs, hp0, hu0⟩
          have hI1 : NI Z nn (va_up (va_up D 18 (upd (D 18) 12 ((D 18 12) &&& ((1 <<< ((nI i) &&& 31)) ^^^ (-1))))) 21 (va_cpy b (D 21) 0 (i * 128) 128)) := ⟨hI.1, hI.2.1, hI.2.2.1.cpy hb (by omega), hI.2.2.2⟩
          rw [← show G_87 nn gg C me f u b x k (i + 1) (va_up (va_up D 18 (upd (D 18) 12 ((D 18 12) &&& ((1 <<< ((nI i) &&& 31)) ^^^ (-1))))) 21 (va_cpy b (D 21) 0 (i * 128) 128)) K A Y = G_87 nn gg C me f u b x (k + 1) i D K A Y from eq_ifF cc1 (eq_ifF cc2 (rfl))]
          exact ih (i + 1) hp_4 (va_up (va_up D 18 (upd (D 18) 12 ((D 18 12) &&& ((1 <<< ((nI i) &&& 31)) ^^^ (-1))))) 21 (va_cpy b (D 21) 0 (i * 128) 128)) K A Y (by omega) hc2 hS1 hI1
  show ax_A (ax_step L xs) ((87, 0, fr, lo), [(0, .ref (nd + 18)), (1, .int x), (2, .ref (n + 1 + 1 + 2 * q + 1))], [], h) _
  refine ar_iconst 1 (v := 0) d_87_0 rfl (by decide) ?_
  refine ar_istore_n 2 [(0, .ref (nd + 18)), (1, .int x), (2, .ref (n + 1 + 1 + 2 * q + 1)), (3, .int 0)] d_87_1 rfl (by decide) rfl ?_
  rw [← show G_87 nn gg C me f u b x c 0 D K A Y = F_87 nn gg C me f u b D K A Y x from bnN_eq (cl_eq hc hc2) (rfl)]
  exact key c 0 h D K A Y (by omega) hc2 hS hI
theorem c_100E {L : Nat} {xs : Nat → Int32} {fr lo : Nat} {h : ax_H} {tb wk wa wb wd : Nat} {ws wo w5 w6 w7 w8 w9 w10 w11 w12 w13 w14 : Int32} {a1 a2 a3 a4 a5 a6 a7 : Nat} {g fl an : Int32} {kn : Int64} {a l z : Nat} {k0 k2 k3 k4 k6 ro : Int32} (hfr : 1 ≤ fr) (hlo : 40 ≤ lo) (ha : a ≤ 8192) (hl : l ≤ 2048) (hz : z ≤ 8192) (hF : ax_hs h [(wk, .inr (10, [.ref tb, .ref wa, .ref wb, .int ws, .int wo, .int w5, .int w6, .int w7, .int w8, .int w9, .int w10, .int w11, .int w12, .int w13, .int w14])), (wa, .inr (5, [.int k0, .int (nI a), .int k2, .int k3, .int k4, .int (nI l), .int k6, .ref wd])), (tb, .inr (6, [.int g, .ref a1, .ref a2, .ref a3, .ref a4, .ref a5, .ref a6, .ref a7, .long kn, .int fl, .int an]))]) : ax_M L xs 100 fr lo [.ref wk, .int (nI z), .int ro] h (fun r h' => (((w7 < 0 ∧ fl = 48) ∨ 8192 < nI (z + (if l = 0 then 0 else a + l - z)) ∨ ro < nI (if l = 0 then 0 else a + l - z)) ∧ r = some (.int (-4)) ∧ h' = h) ∨ (¬ ((w7 < 0 ∧ fl = 48) ∨ 8192 < nI (z + (if l = 0 then 0 else a + l - z)) ∨ ro < nI (if l = 0 then 0 else a + l - z)) ∧ r = some (.int (nI l)) ∧ (w7 < 0 → ¬ fl = 48) ∧ (0 < l → a + l ≤ 8192) ∧ h' = ax_put h wk (.inr (10, [.ref tb, .ref wa, .ref wb, .int ws, .int wo, .int w5, .int w6, .int w7, .int w8, .int (nI l), .int w10, .int w11, .int w12, .int w13, .int w14])))) := by
  show ax_A (ax_step L xs) ((100, 0, fr, lo), [(0, .ref wk), (1, .int (nI z)), (2, .int ro)], [], h) _
  refine ar_aload_n 1 d_100_0 rfl rfl ?_
  refine ar_getf 4 d_100_1 rfl (ci := 10) (k := 1) rfl (hF.at 0 rfl) rfl ?_
  refine ar_getf 7 d_100_4 rfl (ci := 5) (k := 5) rfl (hF.at 1 rfl) rfl ?_
  refine ar_if_ne 14 10 d_100_7 (by decide) rfl (fun c1 => ?_) (fun c1 => ?_)
  · have elg : (if l = 0 then 0 else a + l - z) = a + l - z := if_neg (fun e => c1 (by rw [e]; rfl))
    refine ar_iconst 15 (v := 0) d_100_14 rfl (by decide) ?_
    refine ar_aload_n 16 d_100_15 rfl rfl ?_
    refine ar_getf 19 d_100_16 rfl (ci := 10) (k := 1) rfl (hF.at 0 rfl) rfl ?_
    refine ar_getf 22 d_100_19 rfl (ci := 5) (k := 1) rfl (hF.at 1 rfl) rfl ?_
    refine ar_aload_n 23 d_100_22 rfl rfl ?_
    refine ar_getf 26 d_100_23 rfl (ci := 10) (k := 1) rfl (hF.at 0 rfl) rfl ?_
    refine ar_getf 29 d_100_26 rfl (ci := 5) (k := 5) rfl (hF.at 1 rfl) rfl ?_
    refine ar_iadd 30 d_100_29 rfl ?_
    refine ar_top (x' := nI (a + l)) (nI_add a l) ?_
    refine ar_iload_n 31 d_100_30 rfl rfl ?_
    refine ar_isub 32 d_100_31 rfl ?_
    refine ar_max 35 d_100_32 rfl rfl (by omega) (by show 0 + 13 ≤ lo; omega) (w := nI (a + l - z)) (max0s (by omega) (by omega)) ?_
    refine ar_istore_n 36 [(0, .ref wk), (1, .int (nI z)), (2, .int ro), (3, .int (nI (a + l - z)))] d_100_35 rfl (by decide) rfl ?_
    refine ar_aload_n 37 d_100_36 rfl rfl ?_
    refine ar_getf 40 d_100_37 rfl (ci := 10) (k := 7) rfl (hF.at 0 rfl) rfl ?_
    refine ar_if_ge 55 43 d_100_40 (by decide) rfl (fun c2 => ?_) (fun c2 => ?_)
    · refine ar_iload_n 56 d_100_55 rfl rfl ?_
      refine ar_iload_n 57 d_100_56 rfl rfl ?_
      refine ar_iadd 58 d_100_57 rfl ?_
      refine ar_top (x' := nI (z + (a + l - z))) (nI_add z _) ?_
      refine ar_sipush 61 (v := 8192) d_100_58 rfl (by decide) ?_
      refine ar_icmp_gt 69 64 d_100_61 (by decide) rfl (fun c4 => ?_) (fun c4 => ?_)
      · refine ar_bipush 71 (v := -4) d_100_69 rfl (by decide) ?_
        exact ar_iret d_100_71 rfl rfl (Or.inl ⟨by rw [elg]; exact Or.inr (Or.inl c4), rfl, rfl⟩)
      · refine ar_iload_n 65 d_100_64 rfl rfl ?_
        refine ar_iload_n 66 d_100_65 rfl rfl ?_
        refine ar_icmp_le 72 69 d_100_66 (by decide) rfl (fun c5 => ?_) (fun c5 => ?_)
        · refine ar_aload_n 73 d_100_72 rfl rfl ?_
          refine ar_aload_n 74 d_100_73 rfl rfl ?_
          refine ar_getf 77 d_100_74 rfl (ci := 10) (k := 1) rfl (hF.at 0 rfl) rfl ?_
          refine ar_getf 80 d_100_77 rfl (ci := 5) (k := 5) rfl (hF.at 1 rfl) rfl ?_
          refine ar_putf 83 [.ref tb, .ref wa, .ref wb, .int ws, .int wo, .int w5, .int w6, .int w7, .int w8, .int (nI l), .int w10, .int w11, .int w12, .int w13, .int w14] d_100_80 rfl (ci := 10) (k := 9) rfl rfl (hF.at 0 rfl) (Nat.le_of_ble_eq_true rfl) rfl rfl rfl ?_
          have hF : ax_hs (ax_put h wk (.inr (10, [.ref tb, .ref wa, .ref wb, .int ws, .int wo, .int w5, .int w6, .int w7, .int w8, .int (nI l), .int w10, .int w11, .int w12, .int w13, .int w14]))) [(wk, .inr (10, [.ref tb, .ref wa, .ref wb, .int ws, .int wo, .int w5, .int w6, .int w7, .int w8, .int (nI l), .int w10, .int w11, .int w12, .int w13, .int w14])), (wa, .inr (5, [.int k0, .int (nI a), .int k2, .int k3, .int k4, .int (nI l), .int k6, .ref wd])), (tb, .inr (6, [.int g, .ref a1, .ref a2, .ref a3, .ref a4, .ref a5, .ref a6, .ref a7, .long kn, .int fl, .int an]))] := hF.put 0 _ rfl rfl
          refine ar_aload_n 84 d_100_83 rfl rfl ?_
          refine ar_getf 87 d_100_84 rfl (ci := 10) (k := 1) rfl (hF.at 0 rfl) rfl ?_
          refine ar_getf 90 d_100_87 rfl (ci := 5) (k := 5) rfl (hF.at 1 rfl) rfl ?_
          exact ar_iret d_100_90 rfl rfl (Or.inr ⟨by rw [elg]; exact fun hz => hz.elim (fun z1 => absurd z1.1 (Int32.not_lt.mpr c2)) (fun z1 => z1.elim c4 (fun z2 => absurd c5 (Int32.not_le.mpr z2))), rfl, fun z => absurd z (Int32.not_lt.mpr c2), fun _ => by
              have h1 := Int32.not_lt.mp c4
              have h2 := (nI_leI (show z + (a + l - z) < 2 ^ 31 by omega) (show 8192 < 2 ^ 31 by omega)).mp h1
              omega, rfl⟩)
        · refine ar_bipush 71 (v := -4) d_100_69 rfl (by decide) ?_
          exact ar_iret d_100_71 rfl rfl (Or.inl ⟨by rw [elg]; exact Or.inr (Or.inr (Int32.not_le.mp c5)), rfl, rfl⟩)
    · refine ar_aload_n 44 d_100_43 rfl rfl ?_
      refine ar_getf 47 d_100_44 rfl (ci := 10) (k := 0) rfl (hF.at 0 rfl) rfl ?_
      refine ar_getf 50 d_100_47 rfl (ci := 6) (k := 9) rfl (hF.at 2 rfl) rfl ?_
      refine ar_bipush 52 (v := 48) d_100_50 rfl (by decide) ?_
      refine ar_icmp_eq 69 55 d_100_52 (by decide) rfl (fun c3 => ?_) (fun c3 => ?_)
      · refine ar_bipush 71 (v := -4) d_100_69 rfl (by decide) ?_
        exact ar_iret d_100_71 rfl rfl (Or.inl ⟨by rw [elg]; exact Or.inl ⟨Int32.not_le.mp c2, c3⟩, rfl, rfl⟩)
      · refine ar_iload_n 56 d_100_55 rfl rfl ?_
        refine ar_iload_n 57 d_100_56 rfl rfl ?_
        refine ar_iadd 58 d_100_57 rfl ?_
        refine ar_top (x' := nI (z + (a + l - z))) (nI_add z _) ?_
        refine ar_sipush 61 (v := 8192) d_100_58 rfl (by decide) ?_
        refine ar_icmp_gt 69 64 d_100_61 (by decide) rfl (fun c4 => ?_) (fun c4 => ?_)
        · refine ar_bipush 71 (v := -4) d_100_69 rfl (by decide) ?_
          exact ar_iret d_100_71 rfl rfl (Or.inl ⟨by rw [elg]; exact Or.inr (Or.inl c4), rfl, rfl⟩)
        · refine ar_iload_n 65 d_100_64 rfl rfl ?_
          refine ar_iload_n 66 d_100_65 rfl rfl ?_
          refine ar_icmp_le 72 69 d_100_66 (by decide) rfl (fun c5 => ?_) (fun c5 => ?_)
          · refine ar_aload_n 73 d_100_72 rfl rfl ?_
            refine ar_aload_n 74 d_100_73 rfl rfl ?_
            refine ar_getf 77 d_100_74 rfl (ci := 10) (k := 1) rfl (hF.at 0 rfl) rfl ?_
            refine ar_getf 80 d_100_77 rfl (ci := 5) (k := 5) rfl (hF.at 1 rfl) rfl ?_
            refine ar_putf 83 [.ref tb, .ref wa, .ref wb, .int ws, .int wo, .int w5, .int w6, .int w7, .int w8, .int (nI l), .int w10, .int w11, .int w12, .int w13, .int w14] d_100_80 rfl (ci := 10) (k := 9) rfl rfl (hF.at 0 rfl) (Nat.le_of_ble_eq_true rfl) rfl rfl rfl ?_
            have hF : ax_hs (ax_put h wk (.inr (10, [.ref tb, .ref wa, .ref wb, .int ws, .int wo, .int w5, .int w6, .int w7, .int w8, .int (nI l), .int w10, .int w11, .int w12, .int w13, .int w14]))) [(wk, .inr (10, [.ref tb, .ref wa, .ref wb, .int ws, .int wo, .int w5, .int w6, .int w7, .int w8, .int (nI l), .int w10, .int w11, .int w12, .int w13, .int w14])), (wa, .inr (5, [.int k0, .int (nI a), .int k2, .int k3, .int k4, .int (nI l), .int k6, .ref wd])), (tb, .inr (6, [.int g, .ref a1, .ref a2, .ref a3, .ref a4, .ref a5, .ref a6, .ref a7, .long kn, .int fl, .int an]))] := hF.put 0 _ rfl rfl
            refine ar_aload_n 84 d_100_83 rfl rfl ?_
            refine ar_getf 87 d_100_84 rfl (ci := 10) (k := 1) rfl (hF.at 0 rfl) rfl ?_
            refine ar_getf 90 d_100_87 rfl (ci := 5) (k := 5) rfl (hF.at 1 rfl) rfl ?_
            exact ar_iret d_100_90 rfl rfl (Or.inr ⟨by rw [elg]; exact fun hz => hz.elim (fun z1 => c3 z1.2) (fun z1 => z1.elim c4 (fun z2 => absurd c5 (Int32.not_le.mpr z2))), rfl, fun _ => c3, fun _ => by
              have h1 := Int32.not_lt.mp c4
              have h2 := (nI_leI (show z + (a + l - z) < 2 ^ 31 by omega) (show 8192 < 2 ^ 31 by omega)).mp h1
              omega, rfl⟩)
          · refine ar_bipush 71 (v := -4) d_100_69 rfl (by decide) ?_
            exact ar_iret d_100_71 rfl rfl (Or.inl ⟨by rw [elg]; exact Or.inr (Or.inr (Int32.not_le.mp c5)), rfl, rfl⟩)
  · have elg : (if l = 0 then 0 else a + l - z) = 0 := if_pos (nI_inj (b := 0) (by omega) (by omega) (Decidable.not_not.mp c1))
    refine ar_iconst 11 (v := 0) d_100_10 rfl (by decide) ?_
    refine ar_goto 35 d_100_11 (by decide) ?_
    refine ar_istore_n 36 [(0, .ref wk), (1, .int (nI z)), (2, .int ro), (3, .int 0)] d_100_35 rfl (by decide) rfl ?_
    refine ar_aload_n 37 d_100_36 rfl rfl ?_
    refine ar_getf 40 d_100_37 rfl (ci := 10) (k := 7) rfl (hF.at 0 rfl) rfl ?_
    refine ar_if_ge 55 43 d_100_40 (by decide) rfl (fun c2 => ?_) (fun c2 => ?_)
    · refine ar_iload_n 56 d_100_55 rfl rfl ?_
      refine ar_iload_n 57 d_100_56 rfl rfl ?_
      refine ar_iadd 58 d_100_57 rfl ?_
      refine ar_top (x' := nI z) (Int32.add_zero _) ?_
      refine ar_sipush 61 (v := 8192) d_100_58 rfl (by decide) ?_
      refine ar_icmp_gt 69 64 d_100_61 (by decide) rfl (fun c4 => ?_) (fun c4 => ?_)
      · refine ar_bipush 71 (v := -4) d_100_69 rfl (by decide) ?_
        exact ar_iret d_100_71 rfl rfl (Or.inl ⟨by rw [elg]; exact Or.inr (Or.inl c4), rfl, rfl⟩)
      · refine ar_iload_n 65 d_100_64 rfl rfl ?_
        refine ar_iload_n 66 d_100_65 rfl rfl ?_
        refine ar_icmp_le 72 69 d_100_66 (by decide) rfl (fun c5 => ?_) (fun c5 => ?_)
        · refine ar_aload_n 73 d_100_72 rfl rfl ?_
          refine ar_aload_n 74 d_100_73 rfl rfl ?_
          refine ar_getf 77 d_100_74 rfl (ci := 10) (k := 1) rfl (hF.at 0 rfl) rfl ?_
          refine ar_getf 80 d_100_77 rfl (ci := 5) (k := 5) rfl (hF.at 1 rfl) rfl ?_
          refine ar_putf 83 [.ref tb, .ref wa, .ref wb, .int ws, .int wo, .int w5, .int w6, .int w7, .int w8, .int (nI l), .int w10, .int w11, .int w12, .int w13, .int w14] d_100_80 rfl (ci := 10) (k := 9) rfl rfl (hF.at 0 rfl) (Nat.le_of_ble_eq_true rfl) rfl rfl rfl ?_
          have hF : ax_hs (ax_put h wk (.inr (10, [.ref tb, .ref wa, .ref wb, .int ws, .int wo, .int w5, .int w6, .int w7, .int w8, .int (nI l), .int w10, .int w11, .int w12, .int w13, .int w14]))) [(wk, .inr (10, [.ref tb, .ref wa, .ref wb, .int ws, .int wo, .int w5, .int w6, .int w7, .int w8, .int (nI l), .int w10, .int w11, .int w12, .int w13, .int w14])), (wa, .inr (5, [.int k0, .int (nI a), .int k2, .int k3, .int k4, .int (nI l), .int k6, .ref wd])), (tb, .inr (6, [.int g, .ref a1, .ref a2, .ref a3, .ref a4, .ref a5, .ref a6, .ref a7, .long kn, .int fl, .int an]))] := hF.put 0 _ rfl rfl
          refine ar_aload_n 84 d_100_83 rfl rfl ?_
          refine ar_getf 87 d_100_84 rfl (ci := 10) (k := 1) rfl (hF.at 0 rfl) rfl ?_
          refine ar_getf 90 d_100_87 rfl (ci := 5) (k := 5) rfl (hF.at 1 rfl) rfl ?_
          exact ar_iret d_100_90 rfl rfl (Or.inr ⟨by rw [elg]; exact fun hz => hz.elim (fun z1 => absurd z1.1 (Int32.not_lt.mpr c2)) (fun z1 => z1.elim c4 (fun z2 => absurd c5 (Int32.not_le.mpr z2))), rfl, fun z => absurd z (Int32.not_lt.mpr c2), fun h0 => absurd (Decidable.not_not.mp c1) (nI_nz9 h0 (by omega)), rfl⟩)
        · refine ar_bipush 71 (v := -4) d_100_69 rfl (by decide) ?_
          exact ar_iret d_100_71 rfl rfl (Or.inl ⟨by rw [elg]; exact Or.inr (Or.inr (Int32.not_le.mp c5)), rfl, rfl⟩)
    · refine ar_aload_n 44 d_100_43 rfl rfl ?_
      refine ar_getf 47 d_100_44 rfl (ci := 10) (k := 0) rfl (hF.at 0 rfl) rfl ?_
      refine ar_getf 50 d_100_47 rfl (ci := 6) (k := 9) rfl (hF.at 2 rfl) rfl ?_
      refine ar_bipush 52 (v := 48) d_100_50 rfl (by decide) ?_
      refine ar_icmp_eq 69 55 d_100_52 (by decide) rfl (fun c3 => ?_) (fun c3 => ?_)
      · refine ar_bipush 71 (v := -4) d_100_69 rfl (by decide) ?_
        exact ar_iret d_100_71 rfl rfl (Or.inl ⟨by rw [elg]; exact Or.inl ⟨Int32.not_le.mp c2, c3⟩, rfl, rfl⟩)
      · refine ar_iload_n 56 d_100_55 rfl rfl ?_
        refine ar_iload_n 57 d_100_56 rfl rfl ?_
        refine ar_iadd 58 d_100_57 rfl ?_
        refine ar_top (x' := nI z) (Int32.add_zero _) ?_
        refine ar_sipush 61 (v := 8192) d_100_58 rfl (by decide) ?_
        refine ar_icmp_gt 69 64 d_100_61 (by decide) rfl (fun c4 => ?_) (fun c4 => ?_)
        · refine ar_bipush 71 (v := -4) d_100_69 rfl (by decide) ?_
          exact ar_iret d_100_71 rfl rfl (Or.inl ⟨by rw [elg]; exact Or.inr (Or.inl c4), rfl, rfl⟩)
        · refine ar_iload_n 65 d_100_64 rfl rfl ?_
          refine ar_iload_n 66 d_100_65 rfl rfl ?_
          refine ar_icmp_le 72 69 d_100_66 (by decide) rfl (fun c5 => ?_) (fun c5 => ?_)
          · refine ar_aload_n 73 d_100_72 rfl rfl ?_
            refine ar_aload_n 74 d_100_73 rfl rfl ?_
            refine ar_getf 77 d_100_74 rfl (ci := 10) (k := 1) rfl (hF.at 0 rfl) rfl ?_
            refine ar_getf 80 d_100_77 rfl (ci := 5) (k := 5) rfl (hF.at 1 rfl) rfl ?_
            refine ar_putf 83 [.ref tb, .ref wa, .ref wb, .int ws, .int wo, .int w5, .int w6, .int w7, .int w8, .int (nI l), .int w10, .int w11, .int w12, .int w13, .int w14] d_100_80 rfl (ci := 10) (k := 9) rfl rfl (hF.at 0 rfl) (Nat.le_of_ble_eq_true rfl) rfl rfl rfl ?_
            have hF : ax_hs (ax_put h wk (.inr (10, [.ref tb, .ref wa, .ref wb, .int ws, .int wo, .int w5, .int w6, .int w7, .int w8, .int (nI l), .int w10, .int w11, .int w12, .int w13, .int w14]))) [(wk, .inr (10, [.ref tb, .ref wa, .ref wb, .int ws, .int wo, .int w5, .int w6, .int w7, .int w8, .int (nI l), .int w10, .int w11, .int w12, .int w13, .int w14])), (wa, .inr (5, [.int k0, .int (nI a), .int k2, .int k3, .int k4, .int (nI l), .int k6, .ref wd])), (tb, .inr (6, [.int g, .ref a1, .ref a2, .ref a3, .ref a4, .ref a5, .ref a6, .ref a7, .long kn, .int fl, .int an]))] := hF.put 0 _ rfl rfl
            refine ar_aload_n 84 d_100_83 rfl rfl ?_
            refine ar_getf 87 d_100_84 rfl (ci := 10) (k := 1) rfl (hF.at 0 rfl) rfl ?_
            refine ar_getf 90 d_100_87 rfl (ci := 5) (k := 5) rfl (hF.at 1 rfl) rfl ?_
            exact ar_iret d_100_90 rfl rfl (Or.inr ⟨by rw [elg]; exact fun hz => hz.elim (fun z1 => c3 z1.2) (fun z1 => z1.elim c4 (fun z2 => absurd c5 (Int32.not_le.mpr z2))), rfl, fun _ => c3, fun h0 => absurd (Decidable.not_not.mp c1) (nI_nz9 h0 (by omega)), rfl⟩)
          · refine ar_bipush 71 (v := -4) d_100_69 rfl (by decide) ?_
            exact ar_iret d_100_71 rfl rfl (Or.inl ⟨by rw [elg]; exact Or.inr (Or.inr (Int32.not_le.mp c5)), rfl, rfl⟩)
theorem c_101E {L : Nat} {xs : Nat → Int32} {fr lo : Nat} {h : ax_H} {tb wk wa wb wd : Nat} {ws wo w5 w6 w7 w8 w9 w10 w11 w12 w13 w14 : Int32} {a1 a2 a3 a4 a5 a6 a7 : Nat} {g fl an : Int32} {kn : Int64} {a f z : Nat} {vf : Nat → Int32} {k0 k2 k3 k4 k5 k6 ro : Int32} (ha : a ≤ 8192) (hz : z ≤ 8192) (hf : f < 48) (hF : ax_hs h [(wk, .inr (10, [.ref tb, .ref wa, .ref wb, .int ws, .int wo, .int w5, .int w6, .int (nI f), .int w8, .int w9, .int w10, .int w11, .int w12, .int w13, .int w14])), (wa, .inr (5, [.int k0, .int (nI a), .int k2, .int k3, .int k4, .int k5, .int k6, .ref wd])), (tb, .inr (6, [.int g, .ref a1, .ref a2, .ref a3, .ref a4, .ref a5, .ref a6, .ref a7, .long kn, .int fl, .int an])), (a6, .inl (0, 961, .inl vf))]) : ax_M L xs 101 fr lo [.ref wk, .int (nI z), .int ro] h (fun r h' => (¬ nI a - nI z ≤ ro ∧ r = some (.int (-4)) ∧ h' = h) ∨ (nI a - nI z ≤ ro ∧ r = some (.int (nI z)) ∧ ∃ s : Nat, s = (if a < z ∧ ¬ a % 448 = 0 ∧ ¬ vf (f * 20 + a / 448) < 0 then 1 else 0) ∧ s ≤ 1 ∧ (0 < s → a + s ≤ 8192) ∧ h' = ax_put h wk (.inr (10, [.ref tb, .ref wa, .ref wb, .int ws, .int wo, .int w5, .int w6, .int (nI f), .int w8, .int (nI s), .int w10, .int w11, .int w12, .int w13, .int w14])))) := by
  show ax_A (ax_step L xs) ((101, 0, fr, lo), [(0, .ref wk), (1, .int (nI z)), (2, .int ro)], [], h) _
  refine ar_aload_n 1 d_101_0 rfl rfl ?_
  refine ar_getf 4 d_101_1 rfl (ci := 10) (k := 1) rfl (hF.at 0 rfl) rfl ?_
  refine ar_getf 7 d_101_4 rfl (ci := 5) (k := 1) rfl (hF.at 1 rfl) rfl ?_
  refine ar_iload_n 8 d_101_7 rfl rfl ?_
  refine ar_isub 9 d_101_8 rfl ?_
  refine ar_iload_n 10 d_101_9 rfl rfl ?_
  refine ar_icmp_le 16 13 d_101_10 (by decide) rfl (fun c1 => ?_) (fun c1 => ?_)
  · refine ar_aload_n 17 d_101_16 rfl rfl ?_
    refine ar_getf 20 d_101_17 rfl (ci := 10) (k := 1) rfl (hF.at 0 rfl) rfl ?_
    refine ar_getf 23 d_101_20 rfl (ci := 5) (k := 1) rfl (hF.at 1 rfl) rfl ?_
    refine ar_sipush 26 (v := 448) d_101_23 rfl (by decide) ?_
    refine ar_idiv 27 d_101_26 rfl (by decide) ?_
    refine ar_top (x' := nI (a / 448)) (pk_div (d := 448) (by omega) (by omega) (by omega)) ?_
    refine ar_istore_n 28 [(0, .ref wk), (1, .int (nI z)), (2, .int ro), (3, .int (nI (a / 448)))] d_101_27 rfl (by decide) rfl ?_
    refine ar_aload_n 29 d_101_28 rfl rfl ?_
    refine ar_getf 32 d_101_29 rfl (ci := 10) (k := 1) rfl (hF.at 0 rfl) rfl ?_
    refine ar_getf 35 d_101_32 rfl (ci := 5) (k := 1) rfl (hF.at 1 rfl) rfl ?_
    refine ar_iload_n 36 d_101_35 rfl rfl ?_
    refine ar_icmp_ge 57 39 d_101_36 (by decide) rfl (fun c2 => ?_) (fun c2 => ?_)
    · refine ar_iconst 58 (v := 0) d_101_57 rfl (by decide) ?_
      refine ar_istore 60 [(0, .ref wk), (1, .int (nI z)), (2, .int ro), (3, .int (nI (a / 448))), (4, .int 0)] d_101_58 rfl (by decide) rfl ?_
      refine ar_aload_n 61 d_101_60 rfl rfl ?_
      refine ar_iload 63 d_101_61 rfl rfl ?_
      refine ar_if_eq 90 66 d_101_63 (by decide) rfl (fun _ => ?_) (fun c => absurd (by decide) c)
      refine ar_iconst 91 (v := 0) d_101_90 rfl (by decide) ?_
      refine ar_putf 94 [.ref tb, .ref wa, .ref wb, .int ws, .int wo, .int w5, .int w6, .int (nI f), .int w8, .int 0, .int w10, .int w11, .int w12, .int w13, .int w14] d_101_91 rfl (ci := 10) (k := 9) rfl rfl (hF.at 0 rfl) (Nat.le_of_ble_eq_true rfl) rfl rfl rfl ?_
      have hF : ax_hs (ax_put h wk (.inr (10, [.ref tb, .ref wa, .ref wb, .int ws, .int wo, .int w5, .int w6, .int (nI f), .int w8, .int 0, .int w10, .int w11, .int w12, .int w13, .int w14]))) [(wk, .inr (10, [.ref tb, .ref wa, .ref wb, .int ws, .int wo, .int w5, .int w6, .int (nI f), .int w8, .int 0, .int w10, .int w11, .int w12, .int w13, .int w14])), (wa, .inr (5, [.int k0, .int (nI a), .int k2, .int k3, .int k4, .int k5, .int k6, .ref wd])), (tb, .inr (6, [.int g, .ref a1, .ref a2, .ref a3, .ref a4, .ref a5, .ref a6, .ref a7, .long kn, .int fl, .int an])), (a6, .inl (0, 961, .inl vf))] := hF.put 0 _ rfl rfl
      refine ar_iload_n 95 d_101_94 rfl rfl ?_
      exact ar_iret d_101_95 rfl rfl (Or.inr ⟨c1, rfl, 0, (if_neg (fun e => nI_ge e.1 (by omega) c2)).symm, by omega, fun h0 => absurd h0 (by omega), rfl⟩)
    · have haz : a < z := (nI_ltI (by omega) (by omega)).mp (Int32.not_le.mp c2)
      refine ar_aload_n 40 d_101_39 rfl rfl ?_
      refine ar_getf 43 d_101_40 rfl (ci := 10) (k := 1) rfl (hF.at 0 rfl) rfl ?_
      refine ar_getf 46 d_101_43 rfl (ci := 5) (k := 1) rfl (hF.at 1 rfl) rfl ?_
      refine ar_sipush 49 (v := 448) d_101_46 rfl (by decide) ?_
      refine ar_irem 50 d_101_49 rfl (by decide) ?_
      refine ar_top (x' := nI (a % 448)) (pk_rem (d := 448) (by omega) (by omega) (by omega)) ?_
      refine ar_if_eq 57 53 d_101_50 (by decide) rfl (fun c3 => ?_) (fun c3 => ?_)
      · refine ar_iconst 58 (v := 0) d_101_57 rfl (by decide) ?_
        refine ar_istore 60 [(0, .ref wk), (1, .int (nI z)), (2, .int ro), (3, .int (nI (a / 448))), (4, .int 0)] d_101_58 rfl (by decide) rfl ?_
        refine ar_aload_n 61 d_101_60 rfl rfl ?_
        refine ar_iload 63 d_101_61 rfl rfl ?_
        refine ar_if_eq 90 66 d_101_63 (by decide) rfl (fun _ => ?_) (fun c => absurd (by decide) c)
        refine ar_iconst 91 (v := 0) d_101_90 rfl (by decide) ?_
        refine ar_putf 94 [.ref tb, .ref wa, .ref wb, .int ws, .int wo, .int w5, .int w6, .int (nI f), .int w8, .int 0, .int w10, .int w11, .int w12, .int w13, .int w14] d_101_91 rfl (ci := 10) (k := 9) rfl rfl (hF.at 0 rfl) (Nat.le_of_ble_eq_true rfl) rfl rfl rfl ?_
        have hF : ax_hs (ax_put h wk (.inr (10, [.ref tb, .ref wa, .ref wb, .int ws, .int wo, .int w5, .int w6, .int (nI f), .int w8, .int 0, .int w10, .int w11, .int w12, .int w13, .int w14]))) [(wk, .inr (10, [.ref tb, .ref wa, .ref wb, .int ws, .int wo, .int w5, .int w6, .int (nI f), .int w8, .int 0, .int w10, .int w11, .int w12, .int w13, .int w14])), (wa, .inr (5, [.int k0, .int (nI a), .int k2, .int k3, .int k4, .int k5, .int k6, .ref wd])), (tb, .inr (6, [.int g, .ref a1, .ref a2, .ref a3, .ref a4, .ref a5, .ref a6, .ref a7, .long kn, .int fl, .int an])), (a6, .inl (0, 961, .inl vf))] := hF.put 0 _ rfl rfl
        refine ar_iload_n 95 d_101_94 rfl rfl ?_
        exact ar_iret d_101_95 rfl rfl (Or.inr ⟨c1, rfl, 0, (if_neg (fun e => e.2.1 (nI_inj (b := 0) (by omega) (by omega) c3))).symm, by omega, fun h0 => absurd h0 (by omega), rfl⟩)
      · refine ar_iconst 54 (v := 1) d_101_53 rfl (by decide) ?_
        refine ar_goto 58 d_101_54 (by decide) ?_
        refine ar_istore 60 [(0, .ref wk), (1, .int (nI z)), (2, .int ro), (3, .int (nI (a / 448))), (4, .int 1)] d_101_58 rfl (by decide) rfl ?_
        refine ar_aload_n 61 d_101_60 rfl rfl ?_
        refine ar_iload 63 d_101_61 rfl rfl ?_
        refine ar_if_eq 90 66 d_101_63 (by decide) rfl (fun c => absurd c (by decide)) (fun _ => ?_)
        refine ar_aload_n 67 d_101_66 rfl rfl ?_
        refine ar_getf 70 d_101_67 rfl (ci := 10) (k := 0) rfl (hF.at 0 rfl) rfl ?_
        refine ar_getf 73 d_101_70 rfl (ci := 6) (k := 6) rfl (hF.at 2 rfl) rfl ?_
        refine ar_aload_n 74 d_101_73 rfl rfl ?_
        refine ar_getf 77 d_101_74 rfl (ci := 10) (k := 7) rfl (hF.at 0 rfl) rfl ?_
        refine ar_bipush 79 (v := 20) d_101_77 rfl (by decide) ?_
        refine ar_imul 80 d_101_79 rfl ?_
        refine ar_top (x' := nI (f * 20)) (pk_mul f 20) ?_
        refine ar_iload_n 81 d_101_80 rfl rfl ?_
        refine ar_iadd 82 d_101_81 rfl ?_
        refine ar_top (x' := nI (f * 20 + a / 448)) (nI_add _ _) ?_
        refine ar_iald 83 d_101_82 rfl (hF.at 3 rfl) (vin (by omega) (by decide)) ?_
        refine ar_top (x' := vf (f * 20 + a / 448)) (by rw [nI_clamp (by omega)]) ?_
        refine ar_if_lt 90 86 d_101_83 (by decide) rfl (fun c5 => ?_) (fun c5 => ?_)
        · refine ar_iconst 91 (v := 0) d_101_90 rfl (by decide) ?_
          refine ar_putf 94 [.ref tb, .ref wa, .ref wb, .int ws, .int wo, .int w5, .int w6, .int (nI f), .int w8, .int 0, .int w10, .int w11, .int w12, .int w13, .int w14] d_101_91 rfl (ci := 10) (k := 9) rfl rfl (hF.at 0 rfl) (Nat.le_of_ble_eq_true rfl) rfl rfl rfl ?_
          have hF : ax_hs (ax_put h wk (.inr (10, [.ref tb, .ref wa, .ref wb, .int ws, .int wo, .int w5, .int w6, .int (nI f), .int w8, .int 0, .int w10, .int w11, .int w12, .int w13, .int w14]))) [(wk, .inr (10, [.ref tb, .ref wa, .ref wb, .int ws, .int wo, .int w5, .int w6, .int (nI f), .int w8, .int 0, .int w10, .int w11, .int w12, .int w13, .int w14])), (wa, .inr (5, [.int k0, .int (nI a), .int k2, .int k3, .int k4, .int k5, .int k6, .ref wd])), (tb, .inr (6, [.int g, .ref a1, .ref a2, .ref a3, .ref a4, .ref a5, .ref a6, .ref a7, .long kn, .int fl, .int an])), (a6, .inl (0, 961, .inl vf))] := hF.put 0 _ rfl rfl
          refine ar_iload_n 95 d_101_94 rfl rfl ?_
          exact ar_iret d_101_95 rfl rfl (Or.inr ⟨c1, rfl, 0, (if_neg (fun e => e.2.2 c5)).symm, by omega, fun h0 => absurd h0 (by omega), rfl⟩)
        · refine ar_iconst 87 (v := 1) d_101_86 rfl (by decide) ?_
          refine ar_goto 91 d_101_87 (by decide) ?_
          refine ar_putf 94 [.ref tb, .ref wa, .ref wb, .int ws, .int wo, .int w5, .int w6, .int (nI f), .int w8, .int 1, .int w10, .int w11, .int w12, .int w13, .int w14] d_101_91 rfl (ci := 10) (k := 9) rfl rfl (hF.at 0 rfl) (Nat.le_of_ble_eq_true rfl) rfl rfl rfl ?_
          have hF : ax_hs (ax_put h wk (.inr (10, [.ref tb, .ref wa, .ref wb, .int ws, .int wo, .int w5, .int w6, .int (nI f), .int w8, .int 1, .int w10, .int w11, .int w12, .int w13, .int w14]))) [(wk, .inr (10, [.ref tb, .ref wa, .ref wb, .int ws, .int wo, .int w5, .int w6, .int (nI f), .int w8, .int 1, .int w10, .int w11, .int w12, .int w13, .int w14])), (wa, .inr (5, [.int k0, .int (nI a), .int k2, .int k3, .int k4, .int k5, .int k6, .ref wd])), (tb, .inr (6, [.int g, .ref a1, .ref a2, .ref a3, .ref a4, .ref a5, .ref a6, .ref a7, .long kn, .int fl, .int an])), (a6, .inl (0, 961, .inl vf))] := hF.put 0 _ rfl rfl
          refine ar_iload_n 95 d_101_94 rfl rfl ?_
          exact ar_iret d_101_95 rfl rfl (Or.inr ⟨c1, rfl, 1, (if_pos (⟨haz, fun e => c3 (by rw [e]; rfl), c5⟩)).symm, by omega, fun _ => by omega, rfl⟩)
  · refine ar_bipush 15 (v := -4) d_101_13 rfl (by decide) ?_
    exact ar_iret d_101_15 rfl rfl (Or.inl ⟨c1, rfl, rfl⟩)
theorem fst1_ok {P : Nat → Bool} (k : Nat) : fst1 P k 0 = -1 ∨ ∃ p : Nat, p < k ∧ fst1 P k 0 = nI p ∧ P p = true := by
  rcases fst1_spec P k 0 with ⟨j, _, h2, h3, _, h5⟩ | ⟨_, h2⟩
  · exact Or.inr ⟨j, by omega, h5, h3⟩
  · exact Or.inl h2

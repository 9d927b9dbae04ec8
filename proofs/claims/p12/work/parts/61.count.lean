/-! count, of the fresh store and of the reference as new; the reference's begin -/
theorem d_180_0 : decode (axt_b 180) 0 = .ok (.iload_n 1, 1) := by decide +kernel
theorem d_180_1 : decode (axt_b 180) 1 = .ok (.ifCond .lt 45, 3) := by decide +kernel
theorem d_180_4 : decode (axt_b 180) 4 = .ok (.iload_n 1, 1) := by decide +kernel
theorem d_180_5 : decode (axt_b 180) 5 = .ok (.bipush 9, 2) := by decide +kernel
theorem d_180_7 : decode (axt_b 180) 7 = .ok (.if_icmp .gt 39, 3) := by decide +kernel
theorem d_180_10 : decode (axt_b 180) 10 = .ok (.iload_n 1, 1) := by decide +kernel
theorem d_180_11 : decode (axt_b 180) 11 = .ok (.bipush 9, 2) := by decide +kernel
theorem d_180_13 : decode (axt_b 180) 13 = .ok (.if_icmp .eq 12, 3) := by decide +kernel
theorem d_180_16 : decode (axt_b 180) 16 = .ok (.aload_n 0, 1) := by decide +kernel
theorem d_180_17 : decode (axt_b 180) 17 = .ok (.getfield 20, 3) := by decide +kernel
theorem d_180_20 : decode (axt_b 180) 20 = .ok (.iconst 0, 1) := by decide +kernel
theorem d_180_21 : decode (axt_b 180) 21 = .ok (.iaload, 1) := by decide +kernel
theorem d_180_22 : decode (axt_b 180) 22 = .ok (.ifCond .eq 24, 3) := by decide +kernel
theorem d_180_25 : decode (axt_b 180) 25 = .ok (.iload_n 1, 1) := by decide +kernel
theorem d_180_26 : decode (axt_b 180) 26 = .ok (.bipush 6, 2) := by decide +kernel
theorem d_180_28 : decode (axt_b 180) 28 = .ok (.if_icmp .eq 9, 3) := by decide +kernel
theorem d_180_31 : decode (axt_b 180) 31 = .ok (.iload_n 1, 1) := by decide +kernel
theorem d_180_32 : decode (axt_b 180) 32 = .ok (.bipush 7, 2) := by decide +kernel
theorem d_180_34 : decode (axt_b 180) 34 = .ok (.if_icmp .ne 14, 3) := by decide +kernel
theorem d_180_37 : decode (axt_b 180) 37 = .ok (.aload_n 0, 1) := by decide +kernel
theorem d_180_38 : decode (axt_b 180) 38 = .ok (.getfield 20, 3) := by decide +kernel
theorem d_180_41 : decode (axt_b 180) 41 = .ok (.iconst 1, 1) := by decide +kernel
theorem d_180_42 : decode (axt_b 180) 42 = .ok (.iaload, 1) := by decide +kernel
theorem d_180_43 : decode (axt_b 180) 43 = .ok (.ifCond .ne 5, 3) := by decide +kernel
theorem d_180_46 : decode (axt_b 180) 46 = .ok (.iconst (-1), 1) := by decide +kernel
theorem d_180_47 : decode (axt_b 180) 47 = .ok (.ireturn, 1) := by decide +kernel
theorem d_180_48 : decode (axt_b 180) 48 = .ok (.iload_n 1, 1) := by decide +kernel
theorem d_180_49 : decode (axt_b 180) 49 = .ok (.iconst 1, 1) := by decide +kernel
theorem d_180_50 : decode (axt_b 180) 50 = .ok (.if_icmp .eq 13, 3) := by decide +kernel
theorem d_180_53 : decode (axt_b 180) 53 = .ok (.iload_n 1, 1) := by decide +kernel
theorem d_180_54 : decode (axt_b 180) 54 = .ok (.iconst 3, 1) := by decide +kernel
theorem d_180_55 : decode (axt_b 180) 55 = .ok (.if_icmp .eq 8, 3) := by decide +kernel
theorem d_180_58 : decode (axt_b 180) 58 = .ok (.iload_n 1, 1) := by decide +kernel
theorem d_180_59 : decode (axt_b 180) 59 = .ok (.iconst 4, 1) := by decide +kernel
theorem d_180_60 : decode (axt_b 180) 60 = .ok (.if_icmp .ne 14, 3) := by decide +kernel
theorem d_180_63 : decode (axt_b 180) 63 = .ok (.iload_n 2, 1) := by decide +kernel
theorem d_180_64 : decode (axt_b 180) 64 = .ok (.ifCond .lt 26, 3) := by decide +kernel
theorem d_180_67 : decode (axt_b 180) 67 = .ok (.iload_n 2, 1) := by decide +kernel
theorem d_180_68 : decode (axt_b 180) 68 = .ok (.sipush 8192, 3) := by decide +kernel
theorem d_180_71 : decode (axt_b 180) 71 = .ok (.if_icmp .gt 19, 3) := by decide +kernel
theorem d_180_74 : decode (axt_b 180) 74 = .ok (.iload_n 1, 1) := by decide +kernel
theorem d_180_75 : decode (axt_b 180) 75 = .ok (.iconst 4, 1) := by decide +kernel
theorem d_180_76 : decode (axt_b 180) 76 = .ok (.if_icmp .ne 16, 3) := by decide +kernel
theorem d_180_79 : decode (axt_b 180) 79 = .ok (.iload_n 3, 1) := by decide +kernel
theorem d_180_80 : decode (axt_b 180) 80 = .ok (.ifCond .lt 10, 3) := by decide +kernel
theorem d_180_83 : decode (axt_b 180) 83 = .ok (.iload_n 3, 1) := by decide +kernel
theorem d_180_84 : decode (axt_b 180) 84 = .ok (.sipush 2048, 3) := by decide +kernel
theorem d_180_87 : decode (axt_b 180) 87 = .ok (.if_icmp .le 5, 3) := by decide +kernel
theorem d_180_90 : decode (axt_b 180) 90 = .ok (.iconst (-1), 1) := by decide +kernel
theorem d_180_91 : decode (axt_b 180) 91 = .ok (.ireturn, 1) := by decide +kernel
theorem d_180_92 : decode (axt_b 180) 92 = .ok (.aload_n 0, 1) := by decide +kernel
theorem d_180_93 : decode (axt_b 180) 93 = .ok (.getfield 102, 3) := by decide +kernel
theorem d_180_96 : decode (axt_b 180) 96 = .ok (.bipush 12, 2) := by decide +kernel
theorem d_180_98 : decode (axt_b 180) 98 = .ok (.if_icmp .ne 6, 3) := by decide +kernel
theorem d_180_101 : decode (axt_b 180) 101 = .ok (.bipush (-4), 2) := by decide +kernel
theorem d_180_103 : decode (axt_b 180) 103 = .ok (.ireturn, 1) := by decide +kernel
theorem d_180_104 : decode (axt_b 180) 104 = .ok (.aload_n 0, 1) := by decide +kernel
theorem d_180_105 : decode (axt_b 180) 105 = .ok (.getfield 102, 3) := by decide +kernel
theorem d_180_108 : decode (axt_b 180) 108 = .ok (.istore 4, 2) := by decide +kernel
theorem d_180_110 : decode (axt_b 180) 110 = .ok (.aload_n 0, 1) := by decide +kernel
theorem d_180_111 : decode (axt_b 180) 111 = .ok (.getfield 50, 3) := by decide +kernel
theorem d_180_114 : decode (axt_b 180) 114 = .ok (.iload 4, 2) := by decide +kernel
theorem d_180_116 : decode (axt_b 180) 116 = .ok (.iload_n 1, 1) := by decide +kernel
theorem d_180_117 : decode (axt_b 180) 117 = .ok (.iastore, 1) := by decide +kernel
theorem d_180_118 : decode (axt_b 180) 118 = .ok (.aload_n 0, 1) := by decide +kernel
theorem d_180_119 : decode (axt_b 180) 119 = .ok (.getfield 53, 3) := by decide +kernel
theorem d_180_122 : decode (axt_b 180) 122 = .ok (.iload 4, 2) := by decide +kernel
theorem d_180_124 : decode (axt_b 180) 124 = .ok (.iload_n 2, 1) := by decide +kernel
theorem d_180_125 : decode (axt_b 180) 125 = .ok (.iastore, 1) := by decide +kernel
theorem d_180_126 : decode (axt_b 180) 126 = .ok (.aload_n 0, 1) := by decide +kernel
theorem d_180_127 : decode (axt_b 180) 127 = .ok (.getfield 56, 3) := by decide +kernel
theorem d_180_130 : decode (axt_b 180) 130 = .ok (.iload 4, 2) := by decide +kernel
theorem d_180_132 : decode (axt_b 180) 132 = .ok (.iload_n 3, 1) := by decide +kernel
theorem d_180_133 : decode (axt_b 180) 133 = .ok (.iastore, 1) := by decide +kernel
theorem d_180_134 : decode (axt_b 180) 134 = .ok (.iconst 0, 1) := by decide +kernel
theorem d_180_135 : decode (axt_b 180) 135 = .ok (.istore 5, 2) := by decide +kernel
theorem d_180_137 : decode (axt_b 180) 137 = .ok (.iload 5, 2) := by decide +kernel
theorem d_180_139 : decode (axt_b 180) 139 = .ok (.sipush 400, 3) := by decide +kernel
theorem d_180_142 : decode (axt_b 180) 142 = .ok (.if_icmp .ge 30, 3) := by decide +kernel
theorem d_180_145 : decode (axt_b 180) 145 = .ok (.aload_n 0, 1) := by decide +kernel
theorem d_180_146 : decode (axt_b 180) 146 = .ok (.getfield 59, 3) := by decide +kernel
theorem d_180_149 : decode (axt_b 180) 149 = .ok (.sipush 400, 3) := by decide +kernel
theorem d_180_152 : decode (axt_b 180) 152 = .ok (.iload 4, 2) := by decide +kernel
theorem d_180_154 : decode (axt_b 180) 154 = .ok (.imul, 1) := by decide +kernel
theorem d_180_155 : decode (axt_b 180) 155 = .ok (.iload 5, 2) := by decide +kernel
theorem d_180_157 : decode (axt_b 180) 157 = .ok (.iadd, 1) := by decide +kernel
theorem d_180_158 : decode (axt_b 180) 158 = .ok (.aload_n 0, 1) := by decide +kernel
theorem d_180_159 : decode (axt_b 180) 159 = .ok (.getfield 17, 3) := by decide +kernel
theorem d_180_162 : decode (axt_b 180) 162 = .ok (.iload 5, 2) := by decide +kernel
theorem d_180_164 : decode (axt_b 180) 164 = .ok (.baload, 1) := by decide +kernel
theorem d_180_165 : decode (axt_b 180) 165 = .ok (.bastore, 1) := by decide +kernel
theorem d_180_166 : decode (axt_b 180) 166 = .ok (.iinc 5 1, 3) := by decide +kernel
theorem d_180_169 : decode (axt_b 180) 169 = .ok (.goto (-32), 3) := by decide +kernel
theorem d_180_172 : decode (axt_b 180) 172 = .ok (.aload_n 0, 1) := by decide +kernel
theorem d_180_173 : decode (axt_b 180) 173 = .ok (.getfield 62, 3) := by decide +kernel
theorem d_180_176 : decode (axt_b 180) 176 = .ok (.iconst 2, 1) := by decide +kernel
theorem d_180_177 : decode (axt_b 180) 177 = .ok (.iload 4, 2) := by decide +kernel
theorem d_180_179 : decode (axt_b 180) 179 = .ok (.imul, 1) := by decide +kernel
theorem d_180_180 : decode (axt_b 180) 180 = .ok (.aload_n 0, 1) := by decide +kernel
theorem d_180_181 : decode (axt_b 180) 181 = .ok (.getfield 20, 3) := by decide +kernel
theorem d_180_184 : decode (axt_b 180) 184 = .ok (.iconst 0, 1) := by decide +kernel
theorem d_180_185 : decode (axt_b 180) 185 = .ok (.iaload, 1) := by decide +kernel
theorem d_180_186 : decode (axt_b 180) 186 = .ok (.iastore, 1) := by decide +kernel
theorem d_180_187 : decode (axt_b 180) 187 = .ok (.aload_n 0, 1) := by decide +kernel
theorem d_180_188 : decode (axt_b 180) 188 = .ok (.getfield 62, 3) := by decide +kernel
theorem d_180_191 : decode (axt_b 180) 191 = .ok (.iconst 2, 1) := by decide +kernel
theorem d_180_192 : decode (axt_b 180) 192 = .ok (.iload 4, 2) := by decide +kernel
theorem d_180_194 : decode (axt_b 180) 194 = .ok (.imul, 1) := by decide +kernel
theorem d_180_195 : decode (axt_b 180) 195 = .ok (.iconst 1, 1) := by decide +kernel
theorem d_180_196 : decode (axt_b 180) 196 = .ok (.iadd, 1) := by decide +kernel
theorem d_180_197 : decode (axt_b 180) 197 = .ok (.aload_n 0, 1) := by decide +kernel
theorem d_180_198 : decode (axt_b 180) 198 = .ok (.getfield 20, 3) := by decide +kernel
theorem d_180_201 : decode (axt_b 180) 201 = .ok (.iconst 1, 1) := by decide +kernel
theorem d_180_202 : decode (axt_b 180) 202 = .ok (.iaload, 1) := by decide +kernel
theorem d_180_203 : decode (axt_b 180) 203 = .ok (.iastore, 1) := by decide +kernel
theorem d_180_204 : decode (axt_b 180) 204 = .ok (.iconst 0, 1) := by decide +kernel
theorem d_180_205 : decode (axt_b 180) 205 = .ok (.istore 5, 2) := by decide +kernel
theorem d_180_207 : decode (axt_b 180) 207 = .ok (.iload 5, 2) := by decide +kernel
theorem d_180_209 : decode (axt_b 180) 209 = .ok (.aload_n 0, 1) := by decide +kernel
theorem d_180_210 : decode (axt_b 180) 210 = .ok (.getfield 95, 3) := by decide +kernel
theorem d_180_213 : decode (axt_b 180) 213 = .ok (.if_icmp .ge 30, 3) := by decide +kernel
theorem d_180_216 : decode (axt_b 180) 216 = .ok (.aload_n 0, 1) := by decide +kernel
theorem d_180_217 : decode (axt_b 180) 217 = .ok (.getfield 65, 3) := by decide +kernel
theorem d_180_220 : decode (axt_b 180) 220 = .ok (.sipush 2048, 3) := by decide +kernel
theorem d_180_223 : decode (axt_b 180) 223 = .ok (.iload 4, 2) := by decide +kernel
theorem d_180_225 : decode (axt_b 180) 225 = .ok (.imul, 1) := by decide +kernel
theorem d_180_226 : decode (axt_b 180) 226 = .ok (.iload 5, 2) := by decide +kernel
theorem d_180_228 : decode (axt_b 180) 228 = .ok (.iadd, 1) := by decide +kernel
theorem d_180_229 : decode (axt_b 180) 229 = .ok (.aload_n 0, 1) := by decide +kernel
theorem d_180_230 : decode (axt_b 180) 230 = .ok (.getfield 13, 3) := by decide +kernel
theorem d_180_233 : decode (axt_b 180) 233 = .ok (.iload 5, 2) := by decide +kernel
theorem d_180_235 : decode (axt_b 180) 235 = .ok (.baload, 1) := by decide +kernel
theorem d_180_236 : decode (axt_b 180) 236 = .ok (.bastore, 1) := by decide +kernel
theorem d_180_237 : decode (axt_b 180) 237 = .ok (.iinc 5 1, 3) := by decide +kernel
theorem d_180_240 : decode (axt_b 180) 240 = .ok (.goto (-33), 3) := by decide +kernel
theorem d_180_243 : decode (axt_b 180) 243 = .ok (.aload_n 0, 1) := by decide +kernel
theorem d_180_244 : decode (axt_b 180) 244 = .ok (.getfield 68, 3) := by decide +kernel
theorem d_180_247 : decode (axt_b 180) 247 = .ok (.iload 4, 2) := by decide +kernel
theorem d_180_249 : decode (axt_b 180) 249 = .ok (.aload_n 0, 1) := by decide +kernel
theorem d_180_250 : decode (axt_b 180) 250 = .ok (.getfield 95, 3) := by decide +kernel
theorem d_180_253 : decode (axt_b 180) 253 = .ok (.iastore, 1) := by decide +kernel
theorem d_180_254 : decode (axt_b 180) 254 = .ok (.iload_n 1, 1) := by decide +kernel
theorem d_180_255 : decode (axt_b 180) 255 = .ok (.iconst 1, 1) := by decide +kernel
theorem d_180_256 : decode (axt_b 180) 256 = .ok (.if_icmp .eq 8, 3) := by decide +kernel
theorem d_180_259 : decode (axt_b 180) 259 = .ok (.iload_n 1, 1) := by decide +kernel
theorem d_180_260 : decode (axt_b 180) 260 = .ok (.iconst 2, 1) := by decide +kernel
theorem d_180_261 : decode (axt_b 180) 261 = .ok (.if_icmp .ne 8, 3) := by decide +kernel
theorem d_180_264 : decode (axt_b 180) 264 = .ok (.aload_n 0, 1) := by decide +kernel
theorem d_180_265 : decode (axt_b 180) 265 = .ok (.iconst 0, 1) := by decide +kernel
theorem d_180_266 : decode (axt_b 180) 266 = .ok (.putfield 95, 3) := by decide +kernel
theorem d_180_269 : decode (axt_b 180) 269 = .ok (.aload_n 0, 1) := by decide +kernel
theorem d_180_270 : decode (axt_b 180) 270 = .ok (.dup, 1) := by decide +kernel
theorem d_180_271 : decode (axt_b 180) 271 = .ok (.getfield 102, 3) := by decide +kernel
theorem d_180_274 : decode (axt_b 180) 274 = .ok (.iconst 1, 1) := by decide +kernel
theorem d_180_275 : decode (axt_b 180) 275 = .ok (.iadd, 1) := by decide +kernel
theorem d_180_276 : decode (axt_b 180) 276 = .ok (.putfield 102, 3) := by decide +kernel
theorem d_180_279 : decode (axt_b 180) 279 = .ok (.aload_n 0, 1) := by decide +kernel
theorem d_180_280 : decode (axt_b 180) 280 = .ok (.dup, 1) := by decide +kernel
theorem d_180_281 : decode (axt_b 180) 281 = .ok (.getfield 105, 3) := by decide +kernel
theorem d_180_284 : decode (axt_b 180) 284 = .ok (.iconst 1, 1) := by decide +kernel
theorem d_180_285 : decode (axt_b 180) 285 = .ok (.iadd, 1) := by decide +kernel
theorem d_180_286 : decode (axt_b 180) 286 = .ok (.putfield 105, 3) := by decide +kernel
theorem d_180_289 : decode (axt_b 180) 289 = .ok (.aload_n 0, 1) := by decide +kernel
theorem d_180_290 : decode (axt_b 180) 290 = .ok (.iconst 0, 1) := by decide +kernel
theorem d_180_291 : decode (axt_b 180) 291 = .ok (.putfield 108, 3) := by decide +kernel
theorem d_180_294 : decode (axt_b 180) 294 = .ok (.aload_n 0, 1) := by decide +kernel
theorem d_180_295 : decode (axt_b 180) 295 = .ok (.getfield 105, 3) := by decide +kernel
theorem d_180_298 : decode (axt_b 180) 298 = .ok (.iconst 1, 1) := by decide +kernel
theorem d_180_299 : decode (axt_b 180) 299 = .ok (.isub, 1) := by decide +kernel
theorem d_180_300 : decode (axt_b 180) 300 = .ok (.ireturn, 1) := by decide +kernel
theorem cnt_in {x : Int32} (h : ¬ (x.toInt < 0 ∨ (10 : Int) < x.toInt)) : ∃ k, k < 11 ∧ x = nI k := by
  refine ⟨x.toInt.toNat, by omega, ?_⟩
  apply Int32.toInt.inj
  rw [nI_toInt' (by omega)]
  omega

/-! quiet NODES: floorMod, isActive, isKnown, isSafe of no ROOT, setClean, listed, hear of a LISTED, goOn with no work -/
theorem d_67_0 : decode (axt_b 67) 0 = .ok (.aload_n 1, 1) := by decide +kernel
theorem d_67_1 : decode (axt_b 67) 1 = .ok (.getfield 120, 3) := by decide +kernel
theorem d_67_4 : decode (axt_b 67) 4 = .ok (.iconst 2, 1) := by decide +kernel
theorem d_67_5 : decode (axt_b 67) 5 = .ok (.if_icmp .ne 12, 3) := by decide +kernel
theorem d_67_8 : decode (axt_b 67) 8 = .ok (.aload_n 0, 1) := by decide +kernel
theorem d_67_9 : decode (axt_b 67) 9 = .ok (.getfield 49, 3) := by decide +kernel
theorem d_67_12 : decode (axt_b 67) 12 = .ok (.aload_n 1, 1) := by decide +kernel
theorem d_67_13 : decode (axt_b 67) 13 = .ok (.invokevirtual 125, 3) := by decide +kernel
theorem d_67_16 : decode (axt_b 67) 16 = .ok (.return_, 1) := by decide +kernel
theorem d_67_17 : decode (axt_b 67) 17 = .ok (.aload_n 0, 1) := by decide +kernel
theorem d_67_18 : decode (axt_b 67) 18 = .ok (.dup, 1) := by decide +kernel
theorem d_67_19 : decode (axt_b 67) 19 = .ok (.getfield 78, 3) := by decide +kernel
theorem d_67_22 : decode (axt_b 67) 22 = .ok (.iconst 1, 1) := by decide +kernel
theorem d_67_23 : decode (axt_b 67) 23 = .ok (.aload_n 1, 1) := by decide +kernel
theorem d_67_24 : decode (axt_b 67) 24 = .ok (.getfield 129, 3) := by decide +kernel
theorem d_67_27 : decode (axt_b 67) 27 = .ok (.ishl, 1) := by decide +kernel
theorem d_67_28 : decode (axt_b 67) 28 = .ok (.ior, 1) := by decide +kernel
theorem d_67_29 : decode (axt_b 67) 29 = .ok (.putfield 78, 3) := by decide +kernel
theorem d_67_32 : decode (axt_b 67) 32 = .ok (.aload_n 1, 1) := by decide +kernel
theorem d_67_33 : decode (axt_b 67) 33 = .ok (.getfield 120, 3) := by decide +kernel
theorem d_67_36 : decode (axt_b 67) 36 = .ok (.tableswitch 76 5 11 #[44, 76, 52, 68, 76, 76, 60], 44) := by decide +kernel
theorem d_67_80 : decode (axt_b 67) 80 = .ok (.aload_n 0, 1) := by decide +kernel
theorem d_67_81 : decode (axt_b 67) 81 = .ok (.aload_n 1, 1) := by decide +kernel
theorem d_67_82 : decode (axt_b 67) 82 = .ok (.invokevirtual 132, 3) := by decide +kernel
theorem d_67_85 : decode (axt_b 67) 85 = .ok (.goto 27, 3) := by decide +kernel
theorem d_67_88 : decode (axt_b 67) 88 = .ok (.aload_n 0, 1) := by decide +kernel
theorem d_67_89 : decode (axt_b 67) 89 = .ok (.aload_n 1, 1) := by decide +kernel
theorem d_67_90 : decode (axt_b 67) 90 = .ok (.invokevirtual 135, 3) := by decide +kernel
theorem d_67_93 : decode (axt_b 67) 93 = .ok (.goto 19, 3) := by decide +kernel
theorem d_67_96 : decode (axt_b 67) 96 = .ok (.aload_n 0, 1) := by decide +kernel
theorem d_67_97 : decode (axt_b 67) 97 = .ok (.aload_n 1, 1) := by decide +kernel
theorem d_67_98 : decode (axt_b 67) 98 = .ok (.invokevirtual 138, 3) := by decide +kernel
theorem d_67_101 : decode (axt_b 67) 101 = .ok (.goto 11, 3) := by decide +kernel
theorem d_67_104 : decode (axt_b 67) 104 = .ok (.aload_n 0, 1) := by decide +kernel
theorem d_67_105 : decode (axt_b 67) 105 = .ok (.aload_n 1, 1) := by decide +kernel
theorem d_67_106 : decode (axt_b 67) 106 = .ok (.invokevirtual 141, 3) := by decide +kernel
theorem d_67_109 : decode (axt_b 67) 109 = .ok (.goto 3, 3) := by decide +kernel
theorem d_67_112 : decode (axt_b 67) 112 = .ok (.return_, 1) := by decide +kernel
theorem d_70_0 : decode (axt_b 70) 0 = .ok (.aload_n 0, 1) := by decide +kernel
theorem d_70_1 : decode (axt_b 70) 1 = .ok (.getfield 49, 3) := by decide +kernel
theorem d_70_4 : decode (axt_b 70) 4 = .ok (.invokevirtual 110, 3) := by decide +kernel
theorem d_70_7 : decode (axt_b 70) 7 = .ok (.ifCond .ne 17, 3) := by decide +kernel
theorem d_70_10 : decode (axt_b 70) 10 = .ok (.aload_n 0, 1) := by decide +kernel
theorem d_70_11 : decode (axt_b 70) 11 = .ok (.getfield 40, 3) := by decide +kernel
theorem d_70_14 : decode (axt_b 70) 14 = .ok (.invokevirtual 114, 3) := by decide +kernel
theorem d_70_17 : decode (axt_b 70) 17 = .ok (.ifCond .eq 7, 3) := by decide +kernel
theorem d_70_20 : decode (axt_b 70) 20 = .ok (.iconst 1, 1) := by decide +kernel
theorem d_70_21 : decode (axt_b 70) 21 = .ok (.goto 4, 3) := by decide +kernel
theorem d_70_24 : decode (axt_b 70) 24 = .ok (.iconst 0, 1) := by decide +kernel
theorem d_70_25 : decode (axt_b 70) 25 = .ok (.istore_n 2, 1) := by decide +kernel
theorem d_70_26 : decode (axt_b 70) 26 = .ok (.iload_n 2, 1) := by decide +kernel
theorem d_70_27 : decode (axt_b 70) 27 = .ok (.ifCond .eq 17, 3) := by decide +kernel
theorem d_70_30 : decode (axt_b 70) 30 = .ok (.aload_n 0, 1) := by decide +kernel
theorem d_70_31 : decode (axt_b 70) 31 = .ok (.sipush 960, 3) := by decide +kernel
theorem d_70_34 : decode (axt_b 70) 34 = .ok (.invokevirtual 192, 3) := by decide +kernel
theorem d_70_37 : decode (axt_b 70) 37 = .ok (.ifCond .eq 7, 3) := by decide +kernel
theorem d_70_40 : decode (axt_b 70) 40 = .ok (.iconst 1, 1) := by decide +kernel
theorem d_70_41 : decode (axt_b 70) 41 = .ok (.goto 4, 3) := by decide +kernel
theorem d_70_44 : decode (axt_b 70) 44 = .ok (.iconst 0, 1) := by decide +kernel
theorem d_70_45 : decode (axt_b 70) 45 = .ok (.istore_n 3, 1) := by decide +kernel
theorem d_70_46 : decode (axt_b 70) 46 = .ok (.iconst 0, 1) := by decide +kernel
theorem d_70_47 : decode (axt_b 70) 47 = .ok (.istore 4, 2) := by decide +kernel
theorem d_70_49 : decode (axt_b 70) 49 = .ok (.iconst 0, 1) := by decide +kernel
theorem d_70_50 : decode (axt_b 70) 50 = .ok (.istore 5, 2) := by decide +kernel
theorem d_70_52 : decode (axt_b 70) 52 = .ok (.iconst 0, 1) := by decide +kernel
theorem d_70_53 : decode (axt_b 70) 53 = .ok (.istore 6, 2) := by decide +kernel
theorem d_70_55 : decode (axt_b 70) 55 = .ok (.iload 6, 2) := by decide +kernel
theorem d_70_57 : decode (axt_b 70) 57 = .ok (.aload_n 1, 1) := by decide +kernel
theorem d_70_58 : decode (axt_b 70) 58 = .ok (.getfield 208, 3) := by decide +kernel
theorem d_70_61 : decode (axt_b 70) 61 = .ok (.if_icmp .ge 89, 3) := by decide +kernel
theorem d_70_64 : decode (axt_b 70) 64 = .ok (.aload_n 0, 1) := by decide +kernel
theorem d_70_65 : decode (axt_b 70) 65 = .ok (.aload_n 1, 1) := by decide +kernel
theorem d_70_66 : decode (axt_b 70) 66 = .ok (.getfield 219, 3) := by decide +kernel
theorem d_70_69 : decode (axt_b 70) 69 = .ok (.iload 6, 2) := by decide +kernel
theorem d_70_71 : decode (axt_b 70) 71 = .ok (.iaload, 1) := by decide +kernel
theorem d_70_72 : decode (axt_b 70) 72 = .ok (.aload_n 1, 1) := by decide +kernel
theorem d_70_73 : decode (axt_b 70) 73 = .ok (.getfield 129, 3) := by decide +kernel
theorem d_70_76 : decode (axt_b 70) 76 = .ok (.invokevirtual 251, 3) := by decide +kernel
theorem d_70_79 : decode (axt_b 70) 79 = .ok (.istore 7, 2) := by decide +kernel
theorem d_70_81 : decode (axt_b 70) 81 = .ok (.iload 7, 2) := by decide +kernel
theorem d_70_83 : decode (axt_b 70) 83 = .ok (.ifCond .ne 9, 3) := by decide +kernel
theorem d_70_86 : decode (axt_b 70) 86 = .ok (.iinc 4 1, 3) := by decide +kernel
theorem d_70_89 : decode (axt_b 70) 89 = .ok (.goto 30, 3) := by decide +kernel
theorem d_70_92 : decode (axt_b 70) 92 = .ok (.iload 7, 2) := by decide +kernel
theorem d_70_94 : decode (axt_b 70) 94 = .ok (.iconst 1, 1) := by decide +kernel
theorem d_70_95 : decode (axt_b 70) 95 = .ok (.if_icmp .ne 24, 3) := by decide +kernel
theorem d_70_98 : decode (axt_b 70) 98 = .ok (.iload_n 3, 1) := by decide +kernel
theorem d_70_99 : decode (axt_b 70) 99 = .ok (.ifCond .eq 20, 3) := by decide +kernel
theorem d_70_102 : decode (axt_b 70) 102 = .ok (.aload_n 0, 1) := by decide +kernel
theorem d_70_103 : decode (axt_b 70) 103 = .ok (.getfield 15, 3) := by decide +kernel
theorem d_70_106 : decode (axt_b 70) 106 = .ok (.iload 5, 2) := by decide +kernel
theorem d_70_108 : decode (axt_b 70) 108 = .ok (.aload_n 1, 1) := by decide +kernel
theorem d_70_109 : decode (axt_b 70) 109 = .ok (.getfield 219, 3) := by decide +kernel
theorem d_70_112 : decode (axt_b 70) 112 = .ok (.iload 6, 2) := by decide +kernel
theorem d_70_114 : decode (axt_b 70) 114 = .ok (.iaload, 1) := by decide +kernel
theorem d_70_115 : decode (axt_b 70) 115 = .ok (.iastore, 1) := by decide +kernel
theorem d_70_116 : decode (axt_b 70) 116 = .ok (.iinc 5 1, 3) := by decide +kernel
theorem d_70_119 : decode (axt_b 70) 119 = .ok (.iload 7, 2) := by decide +kernel
theorem d_70_121 : decode (axt_b 70) 121 = .ok (.iconst 2, 1) := by decide +kernel
theorem d_70_122 : decode (axt_b 70) 122 = .ok (.if_icmp .eq 7, 3) := by decide +kernel
theorem d_70_125 : decode (axt_b 70) 125 = .ok (.iload_n 2, 1) := by decide +kernel
theorem d_70_126 : decode (axt_b 70) 126 = .ok (.ifCond .ne 18, 3) := by decide +kernel
theorem d_70_129 : decode (axt_b 70) 129 = .ok (.aload_n 0, 1) := by decide +kernel
theorem d_70_130 : decode (axt_b 70) 130 = .ok (.aload_n 1, 1) := by decide +kernel
theorem d_70_131 : decode (axt_b 70) 131 = .ok (.getfield 219, 3) := by decide +kernel
theorem d_70_134 : decode (axt_b 70) 134 = .ok (.iload 6, 2) := by decide +kernel
theorem d_70_136 : decode (axt_b 70) 136 = .ok (.iaload, 1) := by decide +kernel
theorem d_70_137 : decode (axt_b 70) 137 = .ok (.aload_n 1, 1) := by decide +kernel
theorem d_70_138 : decode (axt_b 70) 138 = .ok (.getfield 129, 3) := by decide +kernel
theorem d_70_141 : decode (axt_b 70) 141 = .ok (.invokevirtual 254, 3) := by decide +kernel
theorem d_70_144 : decode (axt_b 70) 144 = .ok (.iinc 6 1, 3) := by decide +kernel
theorem d_70_147 : decode (axt_b 70) 147 = .ok (.goto (-92), 3) := by decide +kernel
theorem d_70_150 : decode (axt_b 70) 150 = .ok (.iload 5, 2) := by decide +kernel
theorem d_70_152 : decode (axt_b 70) 152 = .ok (.ifCond .le 53, 3) := by decide +kernel
theorem d_70_155 : decode (axt_b 70) 155 = .ok (.aload_n 0, 1) := by decide +kernel
theorem d_70_156 : decode (axt_b 70) 156 = .ok (.getfield 26, 3) := by decide +kernel
theorem d_70_159 : decode (axt_b 70) 159 = .ok (.bipush 12, 2) := by decide +kernel
theorem d_70_161 : decode (axt_b 70) 161 = .ok (.aload_n 0, 1) := by decide +kernel
theorem d_70_162 : decode (axt_b 70) 162 = .ok (.getfield 18, 3) := by decide +kernel
theorem d_70_165 : decode (axt_b 70) 165 = .ok (.aload_n 1, 1) := by decide +kernel
theorem d_70_166 : decode (axt_b 70) 166 = .ok (.getfield 129, 3) := by decide +kernel
theorem d_70_169 : decode (axt_b 70) 169 = .ok (.aload_n 0, 1) := by decide +kernel
theorem d_70_170 : decode (axt_b 70) 170 = .ok (.getfield 56, 3) := by decide +kernel
theorem d_70_173 : decode (axt_b 70) 173 = .ok (.aload_n 0, 1) := by decide +kernel
theorem d_70_174 : decode (axt_b 70) 174 = .ok (.getfield 59, 3) := by decide +kernel
theorem d_70_177 : decode (axt_b 70) 177 = .ok (.invokevirtual 101, 3) := by decide +kernel
theorem d_70_180 : decode (axt_b 70) 180 = .ok (.astore 6, 2) := by decide +kernel
theorem d_70_182 : decode (axt_b 70) 182 = .ok (.aload 6, 2) := by decide +kernel
theorem d_70_184 : decode (axt_b 70) 184 = .ok (.iload 5, 2) := by decide +kernel
theorem d_70_186 : decode (axt_b 70) 186 = .ok (.putfield 208, 3) := by decide +kernel
theorem d_70_189 : decode (axt_b 70) 189 = .ok (.aload_n 0, 1) := by decide +kernel
theorem d_70_190 : decode (axt_b 70) 190 = .ok (.getfield 15, 3) := by decide +kernel
theorem d_70_193 : decode (axt_b 70) 193 = .ok (.iconst 0, 1) := by decide +kernel
theorem d_70_194 : decode (axt_b 70) 194 = .ok (.aload 6, 2) := by decide +kernel
theorem d_70_196 : decode (axt_b 70) 196 = .ok (.getfield 219, 3) := by decide +kernel
theorem d_70_199 : decode (axt_b 70) 199 = .ok (.iconst 0, 1) := by decide +kernel
theorem d_70_200 : decode (axt_b 70) 200 = .ok (.iload 5, 2) := by decide +kernel
theorem d_70_202 : decode (axt_b 70) 202 = .ok (.invokestatic 222, 3) := by decide +kernel
theorem d_70_205 : decode (axt_b 70) 205 = .ok (.aload_n 1, 1) := by decide +kernel
theorem d_70_206 : decode (axt_b 70) 206 = .ok (.getfield 201, 3) := by decide +kernel
theorem d_70_209 : decode (axt_b 70) 209 = .ok (.ifCond .ne 7, 3) := by decide +kernel
theorem d_70_212 : decode (axt_b 70) 212 = .ok (.iconst 1, 1) := by decide +kernel
theorem d_70_213 : decode (axt_b 70) 213 = .ok (.goto 4, 3) := by decide +kernel
theorem d_70_216 : decode (axt_b 70) 216 = .ok (.iconst 0, 1) := by decide +kernel
theorem d_70_217 : decode (axt_b 70) 217 = .ok (.istore 6, 2) := by decide +kernel
theorem d_70_219 : decode (axt_b 70) 219 = .ok (.aload_n 0, 1) := by decide +kernel
theorem d_70_220 : decode (axt_b 70) 220 = .ok (.aload_n 1, 1) := by decide +kernel
theorem d_70_221 : decode (axt_b 70) 221 = .ok (.getfield 129, 3) := by decide +kernel
theorem d_70_224 : decode (axt_b 70) 224 = .ok (.iload_n 2, 1) := by decide +kernel
theorem d_70_225 : decode (axt_b 70) 225 = .ok (.ifCond .eq 21, 3) := by decide +kernel
theorem d_70_228 : decode (axt_b 70) 228 = .ok (.iload 6, 2) := by decide +kernel
theorem d_70_230 : decode (axt_b 70) 230 = .ok (.ifCond .eq 16, 3) := by decide +kernel
theorem d_70_233 : decode (axt_b 70) 233 = .ok (.iload 4, 2) := by decide +kernel
theorem d_70_235 : decode (axt_b 70) 235 = .ok (.aload_n 1, 1) := by decide +kernel
theorem d_70_236 : decode (axt_b 70) 236 = .ok (.getfield 208, 3) := by decide +kernel
theorem d_70_239 : decode (axt_b 70) 239 = .ok (.if_icmp .ne 7, 3) := by decide +kernel
theorem d_70_242 : decode (axt_b 70) 242 = .ok (.iconst 1, 1) := by decide +kernel
theorem d_70_243 : decode (axt_b 70) 243 = .ok (.goto 4, 3) := by decide +kernel
theorem d_70_246 : decode (axt_b 70) 246 = .ok (.iconst 0, 1) := by decide +kernel
theorem d_70_247 : decode (axt_b 70) 247 = .ok (.invokevirtual 258, 3) := by decide +kernel
theorem d_70_250 : decode (axt_b 70) 250 = .ok (.return_, 1) := by decide +kernel
theorem d_71_0 : decode (axt_b 71) 0 = .ok (.aload_n 0, 1) := by decide +kernel
theorem d_71_1 : decode (axt_b 71) 1 = .ok (.getfield 35, 3) := by decide +kernel
theorem d_71_4 : decode (axt_b 71) 4 = .ok (.iconst 1, 1) := by decide +kernel
theorem d_71_5 : decode (axt_b 71) 5 = .ok (.if_icmp .le 7, 3) := by decide +kernel
theorem d_71_8 : decode (axt_b 71) 8 = .ok (.iconst 1, 1) := by decide +kernel
theorem d_71_9 : decode (axt_b 71) 9 = .ok (.goto 4, 3) := by decide +kernel
theorem d_71_12 : decode (axt_b 71) 12 = .ok (.iconst 0, 1) := by decide +kernel
theorem d_71_13 : decode (axt_b 71) 13 = .ok (.ireturn, 1) := by decide +kernel
theorem d_72_0 : decode (axt_b 72) 0 = .ok (.aload_n 0, 1) := by decide +kernel
theorem d_72_1 : decode (axt_b 72) 1 = .ok (.getfield 46, 3) := by decide +kernel
theorem d_72_4 : decode (axt_b 72) 4 = .ok (.invokestatic 56, 3) := by decide +kernel
theorem d_72_7 : decode (axt_b 72) 7 = .ok (.aload_n 0, 1) := by decide +kernel
theorem d_72_8 : decode (axt_b 72) 8 = .ok (.getfield 50, 3) := by decide +kernel
theorem d_72_11 : decode (axt_b 72) 11 = .ok (.if_icmp .ne 7, 3) := by decide +kernel
theorem d_72_14 : decode (axt_b 72) 14 = .ok (.iconst 1, 1) := by decide +kernel
theorem d_72_15 : decode (axt_b 72) 15 = .ok (.goto 4, 3) := by decide +kernel
theorem d_72_18 : decode (axt_b 72) 18 = .ok (.iconst 0, 1) := by decide +kernel
theorem d_72_19 : decode (axt_b 72) 19 = .ok (.ireturn, 1) := by decide +kernel
theorem d_73_0 : decode (axt_b 73) 0 = .ok (.lload_n 0, 1) := by decide +kernel
theorem d_73_1 : decode (axt_b 73) 1 = .ok (.lload_n 0, 1) := by decide +kernel
theorem d_73_2 : decode (axt_b 73) 2 = .ok (.iconst 1, 1) := by decide +kernel
theorem d_73_3 : decode (axt_b 73) 3 = .ok (.lushr, 1) := by decide +kernel
theorem d_73_4 : decode (axt_b 73) 4 = .ok (.ldc2_w 314, 3) := by decide +kernel
theorem d_73_7 : decode (axt_b 73) 7 = .ok (.land, 1) := by decide +kernel
theorem d_73_8 : decode (axt_b 73) 8 = .ok (.lsub, 1) := by decide +kernel
theorem d_73_9 : decode (axt_b 73) 9 = .ok (.lstore_n 0, 1) := by decide +kernel
theorem d_73_10 : decode (axt_b 73) 10 = .ok (.lload_n 0, 1) := by decide +kernel
theorem d_73_11 : decode (axt_b 73) 11 = .ok (.ldc2_w 316, 3) := by decide +kernel
theorem d_73_14 : decode (axt_b 73) 14 = .ok (.land, 1) := by decide +kernel
theorem d_73_15 : decode (axt_b 73) 15 = .ok (.lload_n 0, 1) := by decide +kernel
theorem d_73_16 : decode (axt_b 73) 16 = .ok (.iconst 2, 1) := by decide +kernel
theorem d_73_17 : decode (axt_b 73) 17 = .ok (.lushr, 1) := by decide +kernel
theorem d_73_18 : decode (axt_b 73) 18 = .ok (.ldc2_w 316, 3) := by decide +kernel
theorem d_73_21 : decode (axt_b 73) 21 = .ok (.land, 1) := by decide +kernel
theorem d_73_22 : decode (axt_b 73) 22 = .ok (.ladd, 1) := by decide +kernel
theorem d_73_23 : decode (axt_b 73) 23 = .ok (.lstore_n 0, 1) := by decide +kernel
theorem d_73_24 : decode (axt_b 73) 24 = .ok (.lload_n 0, 1) := by decide +kernel
theorem d_73_25 : decode (axt_b 73) 25 = .ok (.lload_n 0, 1) := by decide +kernel
theorem d_73_26 : decode (axt_b 73) 26 = .ok (.iconst 4, 1) := by decide +kernel
theorem d_73_27 : decode (axt_b 73) 27 = .ok (.lushr, 1) := by decide +kernel
theorem d_73_28 : decode (axt_b 73) 28 = .ok (.ladd, 1) := by decide +kernel
theorem d_73_29 : decode (axt_b 73) 29 = .ok (.ldc2_w 318, 3) := by decide +kernel
theorem d_73_32 : decode (axt_b 73) 32 = .ok (.land, 1) := by decide +kernel
theorem d_73_33 : decode (axt_b 73) 33 = .ok (.lstore_n 0, 1) := by decide +kernel
theorem d_73_34 : decode (axt_b 73) 34 = .ok (.lload_n 0, 1) := by decide +kernel
theorem d_73_35 : decode (axt_b 73) 35 = .ok (.lload_n 0, 1) := by decide +kernel
theorem d_73_36 : decode (axt_b 73) 36 = .ok (.bipush 8, 2) := by decide +kernel
theorem d_73_38 : decode (axt_b 73) 38 = .ok (.lushr, 1) := by decide +kernel
theorem d_73_39 : decode (axt_b 73) 39 = .ok (.ladd, 1) := by decide +kernel
theorem d_73_40 : decode (axt_b 73) 40 = .ok (.lstore_n 0, 1) := by decide +kernel
theorem d_73_41 : decode (axt_b 73) 41 = .ok (.lload_n 0, 1) := by decide +kernel
theorem d_73_42 : decode (axt_b 73) 42 = .ok (.lload_n 0, 1) := by decide +kernel
theorem d_73_43 : decode (axt_b 73) 43 = .ok (.bipush 16, 2) := by decide +kernel
theorem d_73_45 : decode (axt_b 73) 45 = .ok (.lushr, 1) := by decide +kernel
theorem d_73_46 : decode (axt_b 73) 46 = .ok (.ladd, 1) := by decide +kernel
theorem d_73_47 : decode (axt_b 73) 47 = .ok (.lstore_n 0, 1) := by decide +kernel
theorem d_73_48 : decode (axt_b 73) 48 = .ok (.lload_n 0, 1) := by decide +kernel
theorem d_73_49 : decode (axt_b 73) 49 = .ok (.lload_n 0, 1) := by decide +kernel
theorem d_73_50 : decode (axt_b 73) 50 = .ok (.bipush 32, 2) := by decide +kernel
theorem d_73_52 : decode (axt_b 73) 52 = .ok (.lushr, 1) := by decide +kernel
theorem d_73_53 : decode (axt_b 73) 53 = .ok (.ladd, 1) := by decide +kernel
theorem d_73_54 : decode (axt_b 73) 54 = .ok (.lstore_n 0, 1) := by decide +kernel
theorem d_73_55 : decode (axt_b 73) 55 = .ok (.lload_n 0, 1) := by decide +kernel
theorem d_73_56 : decode (axt_b 73) 56 = .ok (.l2i, 1) := by decide +kernel
theorem d_73_57 : decode (axt_b 73) 57 = .ok (.bipush 127, 2) := by decide +kernel
theorem d_73_59 : decode (axt_b 73) 59 = .ok (.iand, 1) := by decide +kernel
theorem d_73_60 : decode (axt_b 73) 60 = .ok (.ireturn, 1) := by decide +kernel
theorem d_74_0 : decode (axt_b 74) 0 = .ok (.aload_n 0, 1) := by decide +kernel
theorem d_74_1 : decode (axt_b 74) 1 = .ok (.getfield 9, 3) := by decide +kernel
theorem d_74_4 : decode (axt_b 74) 4 = .ok (.aload_n 0, 1) := by decide +kernel
theorem d_74_5 : decode (axt_b 74) 5 = .ok (.getfield 40, 3) := by decide +kernel
theorem d_74_8 : decode (axt_b 74) 8 = .ok (.iload_n 1, 1) := by decide +kernel
theorem d_74_9 : decode (axt_b 74) 9 = .ok (.invokevirtual 170, 3) := by decide +kernel
theorem d_74_12 : decode (axt_b 74) 12 = .ok (.iaload, 1) := by decide +kernel
theorem d_74_13 : decode (axt_b 74) 13 = .ok (.istore_n 2, 1) := by decide +kernel
theorem d_74_14 : decode (axt_b 74) 14 = .ok (.aload_n 0, 1) := by decide +kernel
theorem d_74_15 : decode (axt_b 74) 15 = .ok (.getfield 40, 3) := by decide +kernel
theorem d_74_18 : decode (axt_b 74) 18 = .ok (.getfield 174, 3) := by decide +kernel
theorem d_74_21 : decode (axt_b 74) 21 = .ok (.iload_n 1, 1) := by decide +kernel
theorem d_74_22 : decode (axt_b 74) 22 = .ok (.iaload, 1) := by decide +kernel
theorem d_74_23 : decode (axt_b 74) 23 = .ok (.ifCond .lt 26, 3) := by decide +kernel
theorem d_74_26 : decode (axt_b 74) 26 = .ok (.iload_n 2, 1) := by decide +kernel
theorem d_74_27 : decode (axt_b 74) 27 = .ok (.ifCond .eq 22, 3) := by decide +kernel
theorem d_74_30 : decode (axt_b 74) 30 = .ok (.aload_n 0, 1) := by decide +kernel
theorem d_74_31 : decode (axt_b 74) 31 = .ok (.getfield 40, 3) := by decide +kernel
theorem d_74_34 : decode (axt_b 74) 34 = .ok (.getfield 177, 3) := by decide +kernel
theorem d_74_37 : decode (axt_b 74) 37 = .ok (.iload_n 1, 1) := by decide +kernel
theorem d_74_38 : decode (axt_b 74) 38 = .ok (.iaload, 1) := by decide +kernel
theorem d_74_39 : decode (axt_b 74) 39 = .ok (.iload_n 2, 1) := by decide +kernel
theorem d_74_40 : decode (axt_b 74) 40 = .ok (.iand, 1) := by decide +kernel
theorem d_74_41 : decode (axt_b 74) 41 = .ok (.iload_n 2, 1) := by decide +kernel
theorem d_74_42 : decode (axt_b 74) 42 = .ok (.if_icmp .ne 7, 3) := by decide +kernel
theorem d_74_45 : decode (axt_b 74) 45 = .ok (.iconst 1, 1) := by decide +kernel
theorem d_74_46 : decode (axt_b 74) 46 = .ok (.goto 4, 3) := by decide +kernel
theorem d_74_49 : decode (axt_b 74) 49 = .ok (.iconst 0, 1) := by decide +kernel
theorem d_74_50 : decode (axt_b 74) 50 = .ok (.ireturn, 1) := by decide +kernel
theorem d_75_0 : decode (axt_b 75) 0 = .ok (.iload_n 1, 1) := by decide +kernel
theorem d_75_1 : decode (axt_b 75) 1 = .ok (.bipush 20, 2) := by decide +kernel
theorem d_75_3 : decode (axt_b 75) 3 = .ok (.irem, 1) := by decide +kernel
theorem d_75_4 : decode (axt_b 75) 4 = .ok (.istore_n 2, 1) := by decide +kernel
theorem d_75_5 : decode (axt_b 75) 5 = .ok (.iload_n 1, 1) := by decide +kernel
theorem d_75_6 : decode (axt_b 75) 6 = .ok (.sipush 960, 3) := by decide +kernel
theorem d_75_9 : decode (axt_b 75) 9 = .ok (.if_icmp .eq 9, 3) := by decide +kernel
theorem d_75_12 : decode (axt_b 75) 12 = .ok (.iload_n 2, 1) := by decide +kernel
theorem d_75_13 : decode (axt_b 75) 13 = .ok (.bipush 19, 2) := by decide +kernel
theorem d_75_15 : decode (axt_b 75) 15 = .ok (.if_icmp .ne 7, 3) := by decide +kernel
theorem d_75_18 : decode (axt_b 75) 18 = .ok (.iconst 0, 1) := by decide +kernel
theorem d_75_19 : decode (axt_b 75) 19 = .ok (.goto 25, 3) := by decide +kernel
theorem d_75_22 : decode (axt_b 75) 22 = .ok (.aload_n 0, 1) := by decide +kernel
theorem d_75_23 : decode (axt_b 75) 23 = .ok (.getfield 9, 3) := by decide +kernel
theorem d_75_26 : decode (axt_b 75) 26 = .ok (.iload_n 1, 1) := by decide +kernel
theorem d_75_27 : decode (axt_b 75) 27 = .ok (.bipush 20, 2) := by decide +kernel
theorem d_75_29 : decode (axt_b 75) 29 = .ok (.idiv, 1) := by decide +kernel
theorem d_75_30 : decode (axt_b 75) 30 = .ok (.iaload, 1) := by decide +kernel
theorem d_75_31 : decode (axt_b 75) 31 = .ok (.bipush 31, 2) := by decide +kernel
theorem d_75_33 : decode (axt_b 75) 33 = .ok (.imul, 1) := by decide +kernel
theorem d_75_34 : decode (axt_b 75) 34 = .ok (.iload_n 2, 1) := by decide +kernel
theorem d_75_35 : decode (axt_b 75) 35 = .ok (.bipush 7, 2) := by decide +kernel
theorem d_75_37 : decode (axt_b 75) 37 = .ok (.imul, 1) := by decide +kernel
theorem d_75_38 : decode (axt_b 75) 38 = .ok (.iadd, 1) := by decide +kernel
theorem d_75_39 : decode (axt_b 75) 39 = .ok (.aload_n 0, 1) := by decide +kernel
theorem d_75_40 : decode (axt_b 75) 40 = .ok (.getfield 33, 3) := by decide +kernel
theorem d_75_43 : decode (axt_b 75) 43 = .ok (.irem, 1) := by decide +kernel
theorem d_75_44 : decode (axt_b 75) 44 = .ok (.ireturn, 1) := by decide +kernel
theorem d_82_0 : decode (axt_b 82) 0 = .ok (.aload_n 0, 1) := by decide +kernel
theorem d_82_1 : decode (axt_b 82) 1 = .ok (.iload_n 2, 1) := by decide +kernel
theorem d_82_2 : decode (axt_b 82) 2 = .ok (.ifCond .eq 14, 3) := by decide +kernel
theorem d_82_5 : decode (axt_b 82) 5 = .ok (.aload_n 0, 1) := by decide +kernel
theorem d_82_6 : decode (axt_b 82) 6 = .ok (.getfield 81, 3) := by decide +kernel
theorem d_82_9 : decode (axt_b 82) 9 = .ok (.iconst 1, 1) := by decide +kernel
theorem d_82_10 : decode (axt_b 82) 10 = .ok (.iload_n 1, 1) := by decide +kernel
theorem d_82_11 : decode (axt_b 82) 11 = .ok (.ishl, 1) := by decide +kernel
theorem d_82_12 : decode (axt_b 82) 12 = .ok (.ior, 1) := by decide +kernel
theorem d_82_13 : decode (axt_b 82) 13 = .ok (.goto 13, 3) := by decide +kernel
theorem d_82_16 : decode (axt_b 82) 16 = .ok (.aload_n 0, 1) := by decide +kernel
theorem d_82_17 : decode (axt_b 82) 17 = .ok (.getfield 81, 3) := by decide +kernel
theorem d_82_20 : decode (axt_b 82) 20 = .ok (.iconst 1, 1) := by decide +kernel
theorem d_82_21 : decode (axt_b 82) 21 = .ok (.iload_n 1, 1) := by decide +kernel
theorem d_82_22 : decode (axt_b 82) 22 = .ok (.ishl, 1) := by decide +kernel
theorem d_82_23 : decode (axt_b 82) 23 = .ok (.iconst (-1), 1) := by decide +kernel
theorem d_82_24 : decode (axt_b 82) 24 = .ok (.ixor, 1) := by decide +kernel
theorem d_82_25 : decode (axt_b 82) 25 = .ok (.iand, 1) := by decide +kernel
theorem d_82_26 : decode (axt_b 82) 26 = .ok (.putfield 81, 3) := by decide +kernel
theorem d_82_29 : decode (axt_b 82) 29 = .ok (.return_, 1) := by decide +kernel
theorem d_91_0 : decode (axt_b 91) 0 = .ok (.aload_n 0, 1) := by decide +kernel
theorem d_91_1 : decode (axt_b 91) 1 = .ok (.getfield 49, 3) := by decide +kernel
theorem d_91_4 : decode (axt_b 91) 4 = .ok (.getfield 72, 3) := by decide +kernel
theorem d_91_7 : decode (axt_b 91) 7 = .ok (.istore_n 1, 1) := by decide +kernel
theorem d_91_8 : decode (axt_b 91) 8 = .ok (.aload_n 0, 1) := by decide +kernel
theorem d_91_9 : decode (axt_b 91) 9 = .ok (.getfield 49, 3) := by decide +kernel
theorem d_91_12 : decode (axt_b 91) 12 = .ok (.getfield 72, 3) := by decide +kernel
theorem d_91_15 : decode (axt_b 91) 15 = .ok (.iconst 1, 1) := by decide +kernel
theorem d_91_16 : decode (axt_b 91) 16 = .ok (.if_icmp .ne 28, 3) := by decide +kernel
theorem d_91_19 : decode (axt_b 91) 19 = .ok (.aload_n 0, 1) := by decide +kernel
theorem d_91_20 : decode (axt_b 91) 20 = .ok (.getfield 40, 3) := by decide +kernel
theorem d_91_23 : decode (axt_b 91) 23 = .ok (.invokevirtual 114, 3) := by decide +kernel
theorem d_91_26 : decode (axt_b 91) 26 = .ok (.ifCond .eq 18, 3) := by decide +kernel
theorem d_91_29 : decode (axt_b 91) 29 = .ok (.aload_n 0, 1) := by decide +kernel
theorem d_91_30 : decode (axt_b 91) 30 = .ok (.iconst 0, 1) := by decide +kernel
theorem d_91_31 : decode (axt_b 91) 31 = .ok (.invokevirtual 144, 3) := by decide +kernel
theorem d_91_34 : decode (axt_b 91) 34 = .ok (.ifCond .eq 10, 3) := by decide +kernel
theorem d_91_37 : decode (axt_b 91) 37 = .ok (.aload_n 0, 1) := by decide +kernel
theorem d_91_38 : decode (axt_b 91) 38 = .ok (.getfield 49, 3) := by decide +kernel
theorem d_91_41 : decode (axt_b 91) 41 = .ok (.invokevirtual 148, 3) := by decide +kernel
theorem d_91_44 : decode (axt_b 91) 44 = .ok (.aload_n 0, 1) := by decide +kernel
theorem d_91_45 : decode (axt_b 91) 45 = .ok (.getfield 49, 3) := by decide +kernel
theorem d_91_48 : decode (axt_b 91) 48 = .ok (.getfield 72, 3) := by decide +kernel
theorem d_91_51 : decode (axt_b 91) 51 = .ok (.iconst 2, 1) := by decide +kernel
theorem d_91_52 : decode (axt_b 91) 52 = .ok (.if_icmp .ne 27, 3) := by decide +kernel
theorem d_91_55 : decode (axt_b 91) 55 = .ok (.aload_n 0, 1) := by decide +kernel
theorem d_91_56 : decode (axt_b 91) 56 = .ok (.getfield 49, 3) := by decide +kernel
theorem d_91_59 : decode (axt_b 91) 59 = .ok (.getfield 151, 3) := by decide +kernel
theorem d_91_62 : decode (axt_b 91) 62 = .ok (.ifCond .ne 17, 3) := by decide +kernel
theorem d_91_65 : decode (axt_b 91) 65 = .ok (.aload_n 0, 1) := by decide +kernel
theorem d_91_66 : decode (axt_b 91) 66 = .ok (.getfield 49, 3) := by decide +kernel
theorem d_91_69 : decode (axt_b 91) 69 = .ok (.invokevirtual 154, 3) := by decide +kernel
theorem d_91_72 : decode (axt_b 91) 72 = .ok (.aload_n 0, 1) := by decide +kernel
theorem d_91_73 : decode (axt_b 91) 73 = .ok (.getfield 49, 3) := by decide +kernel
theorem d_91_76 : decode (axt_b 91) 76 = .ok (.invokevirtual 157, 3) := by decide +kernel
theorem d_91_79 : decode (axt_b 91) 79 = .ok (.aload_n 0, 1) := by decide +kernel
theorem d_91_80 : decode (axt_b 91) 80 = .ok (.getfield 49, 3) := by decide +kernel
theorem d_91_83 : decode (axt_b 91) 83 = .ok (.getfield 72, 3) := by decide +kernel
theorem d_91_86 : decode (axt_b 91) 86 = .ok (.iconst 3, 1) := by decide +kernel
theorem d_91_87 : decode (axt_b 91) 87 = .ok (.if_icmp .ne 20, 3) := by decide +kernel
theorem d_91_90 : decode (axt_b 91) 90 = .ok (.aload_n 0, 1) := by decide +kernel
theorem d_91_91 : decode (axt_b 91) 91 = .ok (.iconst 0, 1) := by decide +kernel
theorem d_91_92 : decode (axt_b 91) 92 = .ok (.bipush 8, 2) := by decide +kernel
theorem d_91_94 : decode (axt_b 91) 94 = .ok (.invokevirtual 160, 3) := by decide +kernel
theorem d_91_97 : decode (axt_b 91) 97 = .ok (.ifCond .eq 10, 3) := by decide +kernel
theorem d_91_100 : decode (axt_b 91) 100 = .ok (.aload_n 0, 1) := by decide +kernel
theorem d_91_101 : decode (axt_b 91) 101 = .ok (.getfield 49, 3) := by decide +kernel
theorem d_91_104 : decode (axt_b 91) 104 = .ok (.invokevirtual 164, 3) := by decide +kernel
theorem d_91_107 : decode (axt_b 91) 107 = .ok (.aload_n 0, 1) := by decide +kernel
theorem d_91_108 : decode (axt_b 91) 108 = .ok (.getfield 49, 3) := by decide +kernel
theorem d_91_111 : decode (axt_b 91) 111 = .ok (.getfield 72, 3) := by decide +kernel
theorem d_91_114 : decode (axt_b 91) 114 = .ok (.iconst 4, 1) := by decide +kernel
theorem d_91_115 : decode (axt_b 91) 115 = .ok (.if_icmp .ne 32, 3) := by decide +kernel
theorem d_91_118 : decode (axt_b 91) 118 = .ok (.aload_n 0, 1) := by decide +kernel
theorem d_91_119 : decode (axt_b 91) 119 = .ok (.bipush 8, 2) := by decide +kernel
theorem d_91_121 : decode (axt_b 91) 121 = .ok (.bipush 9, 2) := by decide +kernel
theorem d_91_123 : decode (axt_b 91) 123 = .ok (.invokevirtual 160, 3) := by decide +kernel
theorem d_91_126 : decode (axt_b 91) 126 = .ok (.ifCond .eq 21, 3) := by decide +kernel
theorem d_91_129 : decode (axt_b 91) 129 = .ok (.aload_n 0, 1) := by decide +kernel
theorem d_91_130 : decode (axt_b 91) 130 = .ok (.iconst 0, 1) := by decide +kernel
theorem d_91_131 : decode (axt_b 91) 131 = .ok (.putfield 81, 3) := by decide +kernel
theorem d_91_134 : decode (axt_b 91) 134 = .ok (.aload_n 0, 1) := by decide +kernel
theorem d_91_135 : decode (axt_b 91) 135 = .ok (.iconst 0, 1) := by decide +kernel
theorem d_91_136 : decode (axt_b 91) 136 = .ok (.putfield 94, 3) := by decide +kernel
theorem d_91_139 : decode (axt_b 91) 139 = .ok (.aload_n 0, 1) := by decide +kernel
theorem d_91_140 : decode (axt_b 91) 140 = .ok (.getfield 49, 3) := by decide +kernel
theorem d_91_143 : decode (axt_b 91) 143 = .ok (.iconst 5, 1) := by decide +kernel
theorem d_91_144 : decode (axt_b 91) 144 = .ok (.putfield 72, 3) := by decide +kernel
theorem d_91_147 : decode (axt_b 91) 147 = .ok (.aload_n 0, 1) := by decide +kernel
theorem d_91_148 : decode (axt_b 91) 148 = .ok (.getfield 49, 3) := by decide +kernel
theorem d_91_151 : decode (axt_b 91) 151 = .ok (.getfield 72, 3) := by decide +kernel
theorem d_91_154 : decode (axt_b 91) 154 = .ok (.iconst 5, 1) := by decide +kernel
theorem d_91_155 : decode (axt_b 91) 155 = .ok (.if_icmp .ne 7, 3) := by decide +kernel
theorem d_91_158 : decode (axt_b 91) 158 = .ok (.aload_n 0, 1) := by decide +kernel
theorem d_91_159 : decode (axt_b 91) 159 = .ok (.invokevirtual 167, 3) := by decide +kernel
theorem d_91_162 : decode (axt_b 91) 162 = .ok (.aload_n 0, 1) := by decide +kernel
theorem d_91_163 : decode (axt_b 91) 163 = .ok (.getfield 49, 3) := by decide +kernel
theorem d_91_166 : decode (axt_b 91) 166 = .ok (.getfield 72, 3) := by decide +kernel
theorem d_91_169 : decode (axt_b 91) 169 = .ok (.iload_n 1, 1) := by decide +kernel
theorem d_91_170 : decode (axt_b 91) 170 = .ok (.if_icmp .eq 7, 3) := by decide +kernel
theorem d_91_173 : decode (axt_b 91) 173 = .ok (.aload_n 0, 1) := by decide +kernel
theorem d_91_174 : decode (axt_b 91) 174 = .ok (.invokevirtual 107, 3) := by decide +kernel
theorem d_91_177 : decode (axt_b 91) 177 = .ok (.return_, 1) := by decide +kernel
theorem nI_toInt' {n : Nat} (h : n < 2 ^ 31) : (nI n).toInt = (n : Int) := by
  unfold nI
  have hz : Int32.size = 4294967296 := rfl
  rw [Int32.toInt_ofNat', hz, Int.bmod_eq_of_le] <;> omega
theorem rem_toI {x : Int32} {c : Nat} (h0 : 0 < c) (hc : c < 2 ^ 31) : (x - x / nI c * nI c).toInt = x.toInt.tmod c := by
  have hx1 := Int32.le_toInt x
  have hx2 := Int32.toInt_lt x
  have hc' := nI_toInt' hc
  have hd : (x / nI c).toInt = x.toInt.tdiv c := by
    rw [Int32.toInt_div, hc']
    have h1 : (x.toInt.tdiv (c : Int)).natAbs ≤ x.toInt.natAbs := by
      rw [Int.natAbs_tdiv]
      exact Nat.div_le_self _ _
    by_cases hx : x.toInt.tdiv (c : Int) = 2 ^ 31
    · exfalso
      by_cases hs : 0 ≤ x.toInt
      · have : (x.toInt.tdiv (c : Int)).natAbs = 2 ^ 31 := by rw [hx]; rfl
        omega
      · have : x.toInt.tdiv (c : Int) ≤ 0 := by
          have h3 := Int.neg_tdiv (a := -x.toInt) (b := (c : Int))
          rw [Int.neg_neg] at h3
          rw [h3]
          have := Int.tdiv_nonneg (a := -x.toInt) (b := (c : Int)) (by omega) (by omega)
          omega
        omega
    · rw [Int.bmod_eq_of_le] <;> omega
  have hm := Int.tmod_add_mul_tdiv x.toInt c
  have hmod : (x.toInt.tmod c).natAbs < c := by
    rw [Int.natAbs_tmod]
    exact Nat.mod_lt _ (by simpa using h0)
  have hmod2 : (x.toInt.tmod c).natAbs ≤ x.toInt.natAbs := by
    rw [Int.natAbs_tmod]
    exact Nat.mod_le _ _
  have hp : x.toInt.tdiv c * c = x.toInt - x.toInt.tmod c := by rw [Int.mul_comm]; omega
  have hpn : (x.toInt.tdiv c * c).natAbs ≤ x.toInt.natAbs := by
    rw [Int.natAbs_mul, Int.natAbs_tdiv]
    exact Nat.div_mul_le_self x.toInt.natAbs c
  have hmul : (x / nI c * nI c).toInt.bmod (2^32) = (x.toInt.tdiv c * c).bmod (2^32) := by
    rw [Int32.toInt_mul, hd, hc', Int.bmod_bmod]
  rw [Int32.toInt_sub]
  have e : (x.toInt - (x / nI c * nI c).toInt).bmod (2 ^ 32) = (x.toInt - (x.toInt.tdiv c * c)).bmod (2 ^ 32) := by
    rw [Int32.toInt_mul, hd, hc', Int.sub_bmod_bmod]
  rw [e, hp]
  rw [Int.bmod_eq_of_le] <;> omega
theorem rem_nn9 {x : Int32} {c : Nat} (h0 : 0 < c) (hc : c < 2 ^ 31) (hx : 0 ≤ x.toInt) : ∃ k, k < c ∧ x - x / nI c * nI c = nI k := by
  have h := rem_toI (x := x) h0 hc
  have h1 : 0 ≤ x.toInt.tmod c := Int.tmod_nonneg _ hx
  have h2 : x.toInt.tmod c < c := Int.tmod_lt_of_pos _ (by omega)
  refine ⟨(x.toInt.tmod c).toNat, by omega, ?_⟩
  apply Int32.toInt.inj
  rw [h, nI_toInt' (by omega)]
  omega
theorem rem_neg9 {x : Int32} {c : Nat} (h0 : 0 < c) (hc : c < 2 ^ 31) (hx : x.toInt < 0) : ∃ k, k < c ∧ x - x / nI c * nI c = - nI k := by
  have h := rem_toI (x := x) h0 hc
  have hmod : (x.toInt.tmod c).natAbs < c := by
    rw [Int.natAbs_tmod]
    exact Nat.mod_lt _ (by simpa using h0)
  have h1 : x.toInt.tmod c ≤ 0 := by
    have h3 := Int.neg_tmod (a := -x.toInt) (b := (c : Int))
    rw [Int.neg_neg] at h3
    rw [h3]
    have := Int.tmod_nonneg (a := -x.toInt) (c : Int) (by omega)
    omega
  refine ⟨(x.toInt.tmod c).natAbs, hmod, ?_⟩
  apply Int32.toInt.inj
  rw [h, Int32.toInt_neg, nI_toInt' (by omega), Int.bmod_eq_of_le] <;> omega
theorem nI_negadd {k c : Nat} (hk : k ≤ c) (hc : c < 2 ^ 31) : - nI k + nI c = nI (c - k) := by
  apply Int32.toInt.inj
  have e : (- nI k).toInt = - (k : Int) := by
    rw [Int32.toInt_neg, nI_toInt' (by omega), Int.bmod_eq_of_le] <;> omega
  rw [Int32.toInt_add, e, nI_toInt' hc, nI_toInt' (by omega), Int.bmod_eq_of_le] <;> omega
theorem xor_sgn {x : Int32} {c : Nat} (hc : c < 2 ^ 31) : (x ^^^ nI c < 0) ↔ x.toInt < 0 := by
  have h0 : (0 : Int32).toInt = 0 := by decide
  rw [Int32.lt_iff_toInt_lt, h0]
  have e1 : (x ^^^ nI c).toInt = (x.toBitVec ^^^ (nI c).toBitVec).toInt := rfl
  have e2 : x.toInt = x.toBitVec.toInt := rfl
  have e3 : (nI c).toBitVec.msb = false := by
    rw [BitVec.msb_eq_toInt]
    have : (nI c).toBitVec.toInt = (nI c).toInt := rfl
    rw [this, nI_toInt' hc]
    exact decide_eq_false (by omega)
  have e4 : (x.toBitVec ^^^ (nI c).toBitVec).msb = x.toBitVec.msb := by rw [BitVec.msb_xor, e3, Bool.xor_false]
  rw [BitVec.msb_eq_toInt, BitVec.msb_eq_toInt] at e4
  rw [e1, e2]
  exact decide_eq_decide.mp e4
theorem ushr_nn (x : Int32) : 0 ≤ ((x.toUInt32 >>> ((8 : Int32).toUInt32 &&& Int32.toUInt32 31)).toInt32).toInt := by
  have e : ((8 : Int32).toUInt32 &&& Int32.toUInt32 31) = 8 := by decide
  rw [e]
  have h1 : (x.toUInt32 >>> 8).toNat < 2 ^ 31 := by
    rw [UInt32.toNat_shiftRight]
    have := x.toUInt32.toNat_lt
    have e8 : (8 : UInt32).toNat % 32 = 8 := by decide
    rw [e8, Nat.shiftRight_eq_div_pow]
    omega
  generalize x.toUInt32 >>> 8 = y at h1
  have h2 : y.toInt32.toInt = y.toBitVec.toInt := rfl
  rw [h2, BitVec.toInt_eq_toNat_of_lt]
  · exact Int.natCast_nonneg _
  · have : y.toBitVec.toNat = y.toNat := rfl
    omega
theorem nI_nz9 {c : Nat} (h0 : 0 < c) (hc : c < 2 ^ 31) : ¬ nI c = 0 := fun e => by
  have := nI_inj (b := 0) hc (by decide) e
  omega
theorem vin {i N : Nat} (h : i < N) (hN : N < 2 ^ 31) : vp_in (nI i) N := nI_in h hN
theorem c_50 {L : Nat} {xs : Nat → Int32} {fr lo : Nat} {h : ax_H} {x : Int32} {c : Nat} (h0 : 0 < c) (hc : c ≤ 128) : ax_M L xs 50 fr lo [.int x, .int (nI c)] h (fun r h' => ∃ k, k < c ∧ r = some (.int (nI k)) ∧ h' = h) := by
  show ax_A (ax_step L xs) ((50, 0, fr, lo), [(0, .int x), (1, .int (nI c))], [], h) _
  refine ar_iload_n 1 d_50_0 rfl rfl ?_
  refine ar_iload_n 2 d_50_1 rfl rfl ?_
  refine ar_irem 3 d_50_2 rfl (nI_nz9 (by omega) (by omega)) ?_
  refine ar_istore_n 4 [(0, .int x), (1, .int (nI c)), (2, .int (x - x / (nI c) * (nI c)))] d_50_3 rfl (by decide) rfl ?_
  refine ar_iload_n 5 d_50_4 rfl rfl ?_
  refine ar_iload_n 6 d_50_5 rfl rfl ?_
  refine ar_ixor 7 d_50_6 rfl ?_
  refine ar_if_ge 18 10 d_50_7 (by decide) rfl (fun c1 => ?_) (fun c1 => ?_)
  · obtain ⟨k, hk, e⟩ := rem_nn9 (x := x) h0 (by omega) (by have z1 := mt (xor_sgn (x := x) (c := c) (by omega)).mpr (Int32.not_lt.mpr c1); omega)
    refine ar_iload_n 19 d_50_18 rfl rfl ?_
    exact ar_iret d_50_19 rfl rfl (⟨k, hk, by rw [e], rfl⟩)
  · have hx := (xor_sgn (x := x) (c := c) (by omega)).mp (Int32.not_le.mp c1)
    obtain ⟨k, hk, e⟩ := rem_neg9 (x := x) h0 (by omega) hx
    refine ar_iload_n 11 d_50_10 rfl rfl ?_
    refine ar_if_eq 18 14 d_50_11 (by decide) rfl (fun c2 => ?_) (fun c2 => ?_)
    · refine ar_iload_n 19 d_50_18 rfl rfl ?_
      exact ar_iret d_50_19 rfl rfl (⟨0, h0, by rw [c2]; rfl, rfl⟩)
    · refine ar_iload_n 15 d_50_14 rfl rfl ?_
      refine ar_iload_n 16 d_50_15 rfl rfl ?_
      refine ar_iadd 17 d_50_16 rfl ?_
      exact ar_iret d_50_17 rfl rfl (⟨c - k, by have : k ≠ 0 := fun z => c2 (by rw [e, z]; decide); omega, by rw [e, nI_negadd (by omega) (by omega)], rfl⟩)
theorem c_71F {L : Nat} {xs : Nat → Int32} {fr lo : Nat} {h : ax_H} {tb wk wa wb : Nat} {ws wo w5 w6 w7 w8 w9 w10 w11 w12 w13 w14 : Int32} (hw : ws ≤ 1) (hF : ax_hs h [(wk, .inr (10, [.ref tb, .ref wa, .ref wb, .int ws, .int wo, .int w5, .int w6, .int w7, .int w8, .int w9, .int w10, .int w11, .int w12, .int w13, .int w14]))]) : ax_M L xs 71 fr lo [.ref wk] h (fun r h' => r = some (.int 0) ∧ h' = h) := by
  show ax_A (ax_step L xs) ((71, 0, fr, lo), [(0, .ref wk)], [], h) _
  refine ar_aload_n 1 d_71_0 rfl rfl ?_
  refine ar_getf 4 d_71_1 rfl (ci := 10) (k := 3) rfl (hF.at 0 rfl) rfl ?_
  refine ar_iconst 5 (v := 1) d_71_4 rfl (by decide) ?_
  refine ar_icmp_le 12 8 d_71_5 (by decide) rfl (fun _ => ?_) (fun c => absurd (hw) c)
  refine ar_iconst 13 (v := 0) d_71_12 rfl (by decide) ?_
  exact ar_iret d_71_13 rfl rfl (⟨rfl, rfl⟩)
theorem c_71T {L : Nat} {xs : Nat → Int32} {fr lo : Nat} {h : ax_H} {tb wk wa wb : Nat} {ws wo w5 w6 w7 w8 w9 w10 w11 w12 w13 w14 : Int32} (hw : ¬ ws ≤ 1) (hF : ax_hs h [(wk, .inr (10, [.ref tb, .ref wa, .ref wb, .int ws, .int wo, .int w5, .int w6, .int w7, .int w8, .int w9, .int w10, .int w11, .int w12, .int w13, .int w14]))]) : ax_M L xs 71 fr lo [.ref wk] h (fun r h' => r = some (.int 1) ∧ h' = h) := by
  show ax_A (ax_step L xs) ((71, 0, fr, lo), [(0, .ref wk)], [], h) _
  refine ar_aload_n 1 d_71_0 rfl rfl ?_
  refine ar_getf 4 d_71_1 rfl (ci := 10) (k := 3) rfl (hF.at 0 rfl) rfl ?_
  refine ar_iconst 5 (v := 1) d_71_4 rfl (by decide) ?_
  refine ar_icmp_le 12 8 d_71_5 (by decide) rfl (fun c => absurd c (hw)) (fun _ => ?_)
  refine ar_iconst 9 (v := 1) d_71_8 rfl (by decide) ?_
  refine ar_goto 13 d_71_9 (by decide) ?_
  exact ar_iret d_71_13 rfl rfl (⟨rfl, rfl⟩)

/-! the reference: deliver, lose, twice, stir, tick -/
theorem d_181_0 : decode (axt_b 181) 0 = .ok (.aload_n 0, 1) := by decide +kernel
theorem d_181_1 : decode (axt_b 181) 1 = .ok (.iconst 0, 1) := by decide +kernel
theorem d_181_2 : decode (axt_b 181) 2 = .ok (.putfield 108, 3) := by decide +kernel
theorem d_181_5 : decode (axt_b 181) 5 = .ok (.return_, 1) := by decide +kernel
theorem d_182_0 : decode (axt_b 182) 0 = .ok (.aload_n 0, 1) := by decide +kernel
theorem d_182_1 : decode (axt_b 182) 1 = .ok (.iconst 0, 1) := by decide +kernel
theorem d_182_2 : decode (axt_b 182) 2 = .ok (.putfield 108, 3) := by decide +kernel
theorem d_182_5 : decode (axt_b 182) 5 = .ok (.return_, 1) := by decide +kernel
theorem d_183_0 : decode (axt_b 183) 0 = .ok (.aload_n 0, 1) := by decide +kernel
theorem d_183_1 : decode (axt_b 183) 1 = .ok (.iconst 0, 1) := by decide +kernel
theorem d_183_2 : decode (axt_b 183) 2 = .ok (.putfield 108, 3) := by decide +kernel
theorem d_183_5 : decode (axt_b 183) 5 = .ok (.return_, 1) := by decide +kernel
theorem d_184_0 : decode (axt_b 184) 0 = .ok (.iload_n 1, 1) := by decide +kernel
theorem d_184_1 : decode (axt_b 184) 1 = .ok (.iconst 1, 1) := by decide +kernel
theorem d_184_2 : decode (axt_b 184) 2 = .ok (.if_icmp .lt 10, 3) := by decide +kernel
theorem d_184_5 : decode (axt_b 184) 5 = .ok (.iload_n 1, 1) := by decide +kernel
theorem d_184_6 : decode (axt_b 184) 6 = .ok (.sipush 500, 3) := by decide +kernel
theorem d_184_9 : decode (axt_b 184) 9 = .ok (.if_icmp .le 5, 3) := by decide +kernel
theorem d_184_12 : decode (axt_b 184) 12 = .ok (.iconst (-1), 1) := by decide +kernel
theorem d_184_13 : decode (axt_b 184) 13 = .ok (.ireturn, 1) := by decide +kernel
theorem d_184_14 : decode (axt_b 184) 14 = .ok (.aload_n 0, 1) := by decide +kernel
theorem d_184_15 : decode (axt_b 184) 15 = .ok (.iconst 0, 1) := by decide +kernel
theorem d_184_16 : decode (axt_b 184) 16 = .ok (.putfield 108, 3) := by decide +kernel
theorem d_184_19 : decode (axt_b 184) 19 = .ok (.iload_n 1, 1) := by decide +kernel
theorem d_184_20 : decode (axt_b 184) 20 = .ok (.ireturn, 1) := by decide +kernel
theorem d_185_0 : decode (axt_b 185) 0 = .ok (.iload_n 1, 1) := by decide +kernel
theorem d_185_1 : decode (axt_b 185) 1 = .ok (.iconst 1, 1) := by decide +kernel
theorem d_185_2 : decode (axt_b 185) 2 = .ok (.if_icmp .lt 9, 3) := by decide +kernel
theorem d_185_5 : decode (axt_b 185) 5 = .ok (.iload_n 1, 1) := by decide +kernel
theorem d_185_6 : decode (axt_b 185) 6 = .ok (.bipush 50, 2) := by decide +kernel
theorem d_185_8 : decode (axt_b 185) 8 = .ok (.if_icmp .le 5, 3) := by decide +kernel
theorem d_185_11 : decode (axt_b 185) 11 = .ok (.iconst (-1), 1) := by decide +kernel
theorem d_185_12 : decode (axt_b 185) 12 = .ok (.ireturn, 1) := by decide +kernel
theorem d_185_13 : decode (axt_b 185) 13 = .ok (.aload_n 0, 1) := by decide +kernel
theorem d_185_14 : decode (axt_b 185) 14 = .ok (.iconst 0, 1) := by decide +kernel
theorem d_185_15 : decode (axt_b 185) 15 = .ok (.putfield 108, 3) := by decide +kernel
theorem d_185_18 : decode (axt_b 185) 18 = .ok (.iload_n 1, 1) := by decide +kernel
theorem d_185_19 : decode (axt_b 185) 19 = .ok (.ireturn, 1) := by decide +kernel

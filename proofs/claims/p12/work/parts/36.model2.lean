/-! the reference: end, isUp, isDown, audit -/
theorem d_178_0 : decode (axt_b 178) 0 = .ok (.iload_n 1, 1) := by decide +kernel
theorem d_178_1 : decode (axt_b 178) 1 = .ok (.ifCond .lt 11, 3) := by decide +kernel
theorem d_178_4 : decode (axt_b 178) 4 = .ok (.iload_n 1, 1) := by decide +kernel
theorem d_178_5 : decode (axt_b 178) 5 = .ok (.aload_n 0, 1) := by decide +kernel
theorem d_178_6 : decode (axt_b 178) 6 = .ok (.getfield 95, 3) := by decide +kernel
theorem d_178_9 : decode (axt_b 178) 9 = .ok (.if_icmp .le 5, 3) := by decide +kernel
theorem d_178_12 : decode (axt_b 178) 12 = .ok (.iconst (-1), 1) := by decide +kernel
theorem d_178_13 : decode (axt_b 178) 13 = .ok (.ireturn, 1) := by decide +kernel
theorem d_178_14 : decode (axt_b 178) 14 = .ok (.aload_n 0, 1) := by decide +kernel
theorem d_178_15 : decode (axt_b 178) 15 = .ok (.iload_n 1, 1) := by decide +kernel
theorem d_178_16 : decode (axt_b 178) 16 = .ok (.putfield 95, 3) := by decide +kernel
theorem d_178_19 : decode (axt_b 178) 19 = .ok (.iload_n 1, 1) := by decide +kernel
theorem d_178_20 : decode (axt_b 178) 20 = .ok (.ireturn, 1) := by decide +kernel
theorem d_187_0 : decode (axt_b 187) 0 = .ok (.iload_n 1, 1) := by decide +kernel
theorem d_187_1 : decode (axt_b 187) 1 = .ok (.ifCond .lt 26, 3) := by decide +kernel
theorem d_187_4 : decode (axt_b 187) 4 = .ok (.iload_n 1, 1) := by decide +kernel
theorem d_187_5 : decode (axt_b 187) 5 = .ok (.aload_n 0, 1) := by decide +kernel
theorem d_187_6 : decode (axt_b 187) 6 = .ok (.getfield 80, 3) := by decide +kernel
theorem d_187_9 : decode (axt_b 187) 9 = .ok (.if_icmp .ge 18, 3) := by decide +kernel
theorem d_187_12 : decode (axt_b 187) 12 = .ok (.aload_n 0, 1) := by decide +kernel
theorem d_187_13 : decode (axt_b 187) 13 = .ok (.getfield 89, 3) := by decide +kernel
theorem d_187_16 : decode (axt_b 187) 16 = .ok (.iload_n 1, 1) := by decide +kernel
theorem d_187_17 : decode (axt_b 187) 17 = .ok (.ishr, 1) := by decide +kernel
theorem d_187_18 : decode (axt_b 187) 18 = .ok (.iconst 1, 1) := by decide +kernel
theorem d_187_19 : decode (axt_b 187) 19 = .ok (.iand, 1) := by decide +kernel
theorem d_187_20 : decode (axt_b 187) 20 = .ok (.ifCond .eq 7, 3) := by decide +kernel
theorem d_187_23 : decode (axt_b 187) 23 = .ok (.iconst 1, 1) := by decide +kernel
theorem d_187_24 : decode (axt_b 187) 24 = .ok (.goto 4, 3) := by decide +kernel
theorem d_187_27 : decode (axt_b 187) 27 = .ok (.iconst 0, 1) := by decide +kernel
theorem d_187_28 : decode (axt_b 187) 28 = .ok (.ireturn, 1) := by decide +kernel
theorem d_189_0 : decode (axt_b 189) 0 = .ok (.iload_n 1, 1) := by decide +kernel
theorem d_189_1 : decode (axt_b 189) 1 = .ok (.ifCond .lt 26, 3) := by decide +kernel
theorem d_189_4 : decode (axt_b 189) 4 = .ok (.iload_n 1, 1) := by decide +kernel
theorem d_189_5 : decode (axt_b 189) 5 = .ok (.aload_n 0, 1) := by decide +kernel
theorem d_189_6 : decode (axt_b 189) 6 = .ok (.getfield 80, 3) := by decide +kernel
theorem d_189_9 : decode (axt_b 189) 9 = .ok (.if_icmp .ge 18, 3) := by decide +kernel
theorem d_189_12 : decode (axt_b 189) 12 = .ok (.aload_n 0, 1) := by decide +kernel
theorem d_189_13 : decode (axt_b 189) 13 = .ok (.getfield 89, 3) := by decide +kernel
theorem d_189_16 : decode (axt_b 189) 16 = .ok (.iload_n 1, 1) := by decide +kernel
theorem d_189_17 : decode (axt_b 189) 17 = .ok (.ishr, 1) := by decide +kernel
theorem d_189_18 : decode (axt_b 189) 18 = .ok (.iconst 1, 1) := by decide +kernel
theorem d_189_19 : decode (axt_b 189) 19 = .ok (.iand, 1) := by decide +kernel
theorem d_189_20 : decode (axt_b 189) 20 = .ok (.ifCond .ne 7, 3) := by decide +kernel
theorem d_189_23 : decode (axt_b 189) 23 = .ok (.iconst 1, 1) := by decide +kernel
theorem d_189_24 : decode (axt_b 189) 24 = .ok (.goto 4, 3) := by decide +kernel
theorem d_189_27 : decode (axt_b 189) 27 = .ok (.iconst 0, 1) := by decide +kernel
theorem d_189_28 : decode (axt_b 189) 28 = .ok (.ireturn, 1) := by decide +kernel
theorem d_216_0 : decode (axt_b 216) 0 = .ok (.aload_n 0, 1) := by decide +kernel
theorem d_216_1 : decode (axt_b 216) 1 = .ok (.getfield 108, 3) := by decide +kernel
theorem d_216_4 : decode (axt_b 216) 4 = .ok (.ifCond .eq 7, 3) := by decide +kernel
theorem d_216_7 : decode (axt_b 216) 7 = .ok (.iconst 0, 1) := by decide +kernel
theorem d_216_8 : decode (axt_b 216) 8 = .ok (.goto 5, 3) := by decide +kernel
theorem d_216_11 : decode (axt_b 216) 11 = .ok (.bipush (-6), 2) := by decide +kernel
theorem d_216_13 : decode (axt_b 216) 13 = .ok (.ireturn, 1) := by decide +kernel

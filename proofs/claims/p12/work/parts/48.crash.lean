/-! tellMap, drawMap, map; crash -/
theorem d_135_0 : decode (axt_b 135) 0 = .ok (.iconst 0, 1) := by decide +kernel
theorem d_135_1 : decode (axt_b 135) 1 = .ok (.istore_n 1, 1) := by decide +kernel
theorem d_135_2 : decode (axt_b 135) 2 = .ok (.iload_n 1, 1) := by decide +kernel
theorem d_135_3 : decode (axt_b 135) 3 = .ok (.aload_n 0, 1) := by decide +kernel
theorem d_135_4 : decode (axt_b 135) 4 = .ok (.getfield 37, 3) := by decide +kernel
theorem d_135_7 : decode (axt_b 135) 7 = .ok (.getfield 45, 3) := by decide +kernel
theorem d_135_10 : decode (axt_b 135) 10 = .ok (.if_icmp .ge 45, 3) := by decide +kernel
theorem d_135_13 : decode (axt_b 135) 13 = .ok (.aload_n 0, 1) := by decide +kernel
theorem d_135_14 : decode (axt_b 135) 14 = .ok (.getfield 53, 3) := by decide +kernel
theorem d_135_17 : decode (axt_b 135) 17 = .ok (.iload_n 1, 1) := by decide +kernel
theorem d_135_18 : decode (axt_b 135) 18 = .ok (.ishr, 1) := by decide +kernel
theorem d_135_19 : decode (axt_b 135) 19 = .ok (.iconst 1, 1) := by decide +kernel
theorem d_135_20 : decode (axt_b 135) 20 = .ok (.iand, 1) := by decide +kernel
theorem d_135_21 : decode (axt_b 135) 21 = .ok (.ifCond .ne 28, 3) := by decide +kernel
theorem d_135_24 : decode (axt_b 135) 24 = .ok (.aload_n 0, 1) := by decide +kernel
theorem d_135_25 : decode (axt_b 135) 25 = .ok (.getfield 41, 3) := by decide +kernel
theorem d_135_28 : decode (axt_b 135) 28 = .ok (.iconst 0, 1) := by decide +kernel
theorem d_135_29 : decode (axt_b 135) 29 = .ok (.aload_n 0, 1) := by decide +kernel
theorem d_135_30 : decode (axt_b 135) 30 = .ok (.getfield 37, 3) := by decide +kernel
theorem d_135_33 : decode (axt_b 135) 33 = .ok (.getfield 45, 3) := by decide +kernel
theorem d_135_36 : decode (axt_b 135) 36 = .ok (.iload_n 1, 1) := by decide +kernel
theorem d_135_37 : decode (axt_b 135) 37 = .ok (.aload_n 0, 1) := by decide +kernel
theorem d_135_38 : decode (axt_b 135) 38 = .ok (.getfield 34, 3) := by decide +kernel
theorem d_135_41 : decode (axt_b 135) 41 = .ok (.aload_n 0, 1) := by decide +kernel
theorem d_135_42 : decode (axt_b 135) 42 = .ok (.getfield 50, 3) := by decide +kernel
theorem d_135_45 : decode (axt_b 135) 45 = .ok (.invokevirtual 116, 3) := by decide +kernel
theorem d_135_48 : decode (axt_b 135) 48 = .ok (.pop, 1) := by decide +kernel
theorem d_135_49 : decode (axt_b 135) 49 = .ok (.iinc 1 1, 3) := by decide +kernel
theorem d_135_52 : decode (axt_b 135) 52 = .ok (.goto (-50), 3) := by decide +kernel
theorem d_135_55 : decode (axt_b 135) 55 = .ok (.return_, 1) := by decide +kernel
theorem d_141_0 : decode (axt_b 141) 0 = .ok (.iload_n 1, 1) := by decide +kernel
theorem d_141_1 : decode (axt_b 141) 1 = .ok (.ifCond .lt 24, 3) := by decide +kernel
theorem d_141_4 : decode (axt_b 141) 4 = .ok (.iload_n 1, 1) := by decide +kernel
theorem d_141_5 : decode (axt_b 141) 5 = .ok (.aload_n 0, 1) := by decide +kernel
theorem d_141_6 : decode (axt_b 141) 6 = .ok (.getfield 63, 3) := by decide +kernel
theorem d_141_9 : decode (axt_b 141) 9 = .ok (.arraylength, 1) := by decide +kernel
theorem d_141_10 : decode (axt_b 141) 10 = .ok (.if_icmp .ge 15, 3) := by decide +kernel
theorem d_141_13 : decode (axt_b 141) 13 = .ok (.aload_n 0, 1) := by decide +kernel
theorem d_141_14 : decode (axt_b 141) 14 = .ok (.getfield 63, 3) := by decide +kernel
theorem d_141_17 : decode (axt_b 141) 17 = .ok (.iload_n 1, 1) := by decide +kernel
theorem d_141_18 : decode (axt_b 141) 18 = .ok (.aaload, 1) := by decide +kernel
theorem d_141_19 : decode (axt_b 141) 19 = .ok (.getfield 131, 3) := by decide +kernel
theorem d_141_22 : decode (axt_b 141) 22 = .ok (.ifCond .ne 5, 3) := by decide +kernel
theorem d_141_25 : decode (axt_b 141) 25 = .ok (.iconst 0, 1) := by decide +kernel
theorem d_141_26 : decode (axt_b 141) 26 = .ok (.ireturn, 1) := by decide +kernel
theorem d_141_27 : decode (axt_b 141) 27 = .ok (.aload_n 0, 1) := by decide +kernel
theorem d_141_28 : decode (axt_b 141) 28 = .ok (.iconst 0, 1) := by decide +kernel
theorem d_141_29 : decode (axt_b 141) 29 = .ok (.putfield 99, 3) := by decide +kernel
theorem d_141_32 : decode (axt_b 141) 32 = .ok (.aload_n 0, 1) := by decide +kernel
theorem d_141_33 : decode (axt_b 141) 33 = .ok (.getfield 63, 3) := by decide +kernel
theorem d_141_36 : decode (axt_b 141) 36 = .ok (.iload_n 1, 1) := by decide +kernel
theorem d_141_37 : decode (axt_b 141) 37 = .ok (.aaload, 1) := by decide +kernel
theorem d_141_38 : decode (axt_b 141) 38 = .ok (.iload_n 2, 1) := by decide +kernel
theorem d_141_39 : decode (axt_b 141) 39 = .ok (.iload_n 3, 1) := by decide +kernel
theorem d_141_40 : decode (axt_b 141) 40 = .ok (.invokevirtual 134, 3) := by decide +kernel
theorem d_141_43 : decode (axt_b 141) 43 = .ok (.iconst 1, 1) := by decide +kernel
theorem d_141_44 : decode (axt_b 141) 44 = .ok (.ireturn, 1) := by decide +kernel
theorem d_142_0 : decode (axt_b 142) 0 = .ok (.aload_n 0, 1) := by decide +kernel
theorem d_142_1 : decode (axt_b 142) 1 = .ok (.iconst 0, 1) := by decide +kernel
theorem d_142_2 : decode (axt_b 142) 2 = .ok (.putfield 49, 3) := by decide +kernel
theorem d_142_5 : decode (axt_b 142) 5 = .ok (.aload_n 0, 1) := by decide +kernel
theorem d_142_6 : decode (axt_b 142) 6 = .ok (.getfield 12, 3) := by decide +kernel
theorem d_142_9 : decode (axt_b 142) 9 = .ok (.iload_n 1, 1) := by decide +kernel
theorem d_142_10 : decode (axt_b 142) 10 = .ok (.iload_n 2, 1) := by decide +kernel
theorem d_142_11 : decode (axt_b 142) 11 = .ok (.invokevirtual 60, 3) := by decide +kernel
theorem d_142_14 : decode (axt_b 142) 14 = .ok (.aload_n 0, 1) := by decide +kernel
theorem d_142_15 : decode (axt_b 142) 15 = .ok (.getfield 18, 3) := by decide +kernel
theorem d_142_18 : decode (axt_b 142) 18 = .ok (.iconst (-1), 1) := by decide +kernel
theorem d_142_19 : decode (axt_b 142) 19 = .ok (.invokestatic 43, 3) := by decide +kernel
theorem d_142_22 : decode (axt_b 142) 22 = .ok (.aload_n 0, 1) := by decide +kernel
theorem d_142_23 : decode (axt_b 142) 23 = .ok (.getfield 39, 3) := by decide +kernel
theorem d_142_26 : decode (axt_b 142) 26 = .ok (.invokevirtual 63, 3) := by decide +kernel
theorem d_142_29 : decode (axt_b 142) 29 = .ok (.return_, 1) := by decide +kernel
theorem d_143_0 : decode (axt_b 143) 0 = .ok (.iconst 0, 1) := by decide +kernel
theorem d_143_1 : decode (axt_b 143) 1 = .ok (.istore_n 3, 1) := by decide +kernel
theorem d_143_2 : decode (axt_b 143) 2 = .ok (.iconst 0, 1) := by decide +kernel
theorem d_143_3 : decode (axt_b 143) 3 = .ok (.istore 4, 2) := by decide +kernel
theorem d_143_5 : decode (axt_b 143) 5 = .ok (.iload 4, 2) := by decide +kernel
theorem d_143_7 : decode (axt_b 143) 7 = .ok (.aload_n 0, 1) := by decide +kernel
theorem d_143_8 : decode (axt_b 143) 8 = .ok (.getfield 35, 3) := by decide +kernel
theorem d_143_11 : decode (axt_b 143) 11 = .ok (.if_icmp .ge 110, 3) := by decide +kernel
theorem d_143_14 : decode (axt_b 143) 14 = .ok (.aload_n 0, 1) := by decide +kernel
theorem d_143_15 : decode (axt_b 143) 15 = .ok (.getfield 19, 3) := by decide +kernel
theorem d_143_18 : decode (axt_b 143) 18 = .ok (.iload 4, 2) := by decide +kernel
theorem d_143_20 : decode (axt_b 143) 20 = .ok (.iaload, 1) := by decide +kernel
theorem d_143_21 : decode (axt_b 143) 21 = .ok (.sipush 128, 3) := by decide +kernel
theorem d_143_24 : decode (axt_b 143) 24 = .ok (.imul, 1) := by decide +kernel
theorem d_143_25 : decode (axt_b 143) 25 = .ok (.istore 5, 2) := by decide +kernel
theorem d_143_27 : decode (axt_b 143) 27 = .ok (.iload_n 1, 1) := by decide +kernel
theorem d_143_28 : decode (axt_b 143) 28 = .ok (.iload 4, 2) := by decide +kernel
theorem d_143_30 : decode (axt_b 143) 30 = .ok (.bipush 31, 2) := by decide +kernel
theorem d_143_32 : decode (axt_b 143) 32 = .ok (.iand, 1) := by decide +kernel
theorem d_143_33 : decode (axt_b 143) 33 = .ok (.iushr, 1) := by decide +kernel
theorem d_143_34 : decode (axt_b 143) 34 = .ok (.iconst 1, 1) := by decide +kernel
theorem d_143_35 : decode (axt_b 143) 35 = .ok (.iand, 1) := by decide +kernel
theorem d_143_36 : decode (axt_b 143) 36 = .ok (.ifCond .eq 28, 3) := by decide +kernel
theorem d_143_39 : decode (axt_b 143) 39 = .ok (.aload_n 0, 1) := by decide +kernel
theorem d_143_40 : decode (axt_b 143) 40 = .ok (.getfield 16, 3) := by decide +kernel
theorem d_143_43 : decode (axt_b 143) 43 = .ok (.iload 4, 2) := by decide +kernel
theorem d_143_45 : decode (axt_b 143) 45 = .ok (.sipush 128, 3) := by decide +kernel
theorem d_143_48 : decode (axt_b 143) 48 = .ok (.imul, 1) := by decide +kernel
theorem d_143_49 : decode (axt_b 143) 49 = .ok (.aload_n 0, 1) := by decide +kernel
theorem d_143_50 : decode (axt_b 143) 50 = .ok (.getfield 10, 3) := by decide +kernel
theorem d_143_53 : decode (axt_b 143) 53 = .ok (.iload 5, 2) := by decide +kernel
theorem d_143_55 : decode (axt_b 143) 55 = .ok (.sipush 128, 3) := by decide +kernel
theorem d_143_58 : decode (axt_b 143) 58 = .ok (.invokestatic 43, 3) := by decide +kernel
theorem d_143_61 : decode (axt_b 143) 61 = .ok (.goto 41, 3) := by decide +kernel
theorem d_143_64 : decode (axt_b 143) 64 = .ok (.iload_n 3, 1) := by decide +kernel
theorem d_143_65 : decode (axt_b 143) 65 = .ok (.ifCond .ne 37, 3) := by decide +kernel
theorem d_143_68 : decode (axt_b 143) 68 = .ok (.iconst 1, 1) := by decide +kernel
theorem d_143_69 : decode (axt_b 143) 69 = .ok (.istore_n 3, 1) := by decide +kernel
theorem d_143_70 : decode (axt_b 143) 70 = .ok (.aload_n 0, 1) := by decide +kernel
theorem d_143_71 : decode (axt_b 143) 71 = .ok (.getfield 16, 3) := by decide +kernel
theorem d_143_74 : decode (axt_b 143) 74 = .ok (.iload 4, 2) := by decide +kernel
theorem d_143_76 : decode (axt_b 143) 76 = .ok (.sipush 512, 3) := by decide +kernel
theorem d_143_79 : decode (axt_b 143) 79 = .ok (.imul, 1) := by decide +kernel
theorem d_143_80 : decode (axt_b 143) 80 = .ok (.aload_n 0, 1) := by decide +kernel
theorem d_143_81 : decode (axt_b 143) 81 = .ok (.getfield 10, 3) := by decide +kernel
theorem d_143_84 : decode (axt_b 143) 84 = .ok (.iload 5, 2) := by decide +kernel
theorem d_143_86 : decode (axt_b 143) 86 = .ok (.iconst 4, 1) := by decide +kernel
theorem d_143_87 : decode (axt_b 143) 87 = .ok (.imul, 1) := by decide +kernel
theorem d_143_88 : decode (axt_b 143) 88 = .ok (.iconst 0, 1) := by decide +kernel
theorem d_143_89 : decode (axt_b 143) 89 = .ok (.sipush 512, 3) := by decide +kernel
theorem d_143_92 : decode (axt_b 143) 92 = .ok (.iload_n 2, 1) := by decide +kernel
theorem d_143_93 : decode (axt_b 143) 93 = .ok (.invokestatic 55, 3) := by decide +kernel
theorem d_143_96 : decode (axt_b 143) 96 = .ok (.invokestatic 61, 3) := by decide +kernel
theorem d_143_99 : decode (axt_b 143) 99 = .ok (.invokestatic 64, 3) := by decide +kernel
theorem d_143_102 : decode (axt_b 143) 102 = .ok (.aload_n 0, 1) := by decide +kernel
theorem d_143_103 : decode (axt_b 143) 103 = .ok (.getfield 22, 3) := by decide +kernel
theorem d_143_106 : decode (axt_b 143) 106 = .ok (.aload_n 0, 1) := by decide +kernel
theorem d_143_107 : decode (axt_b 143) 107 = .ok (.getfield 19, 3) := by decide +kernel
theorem d_143_110 : decode (axt_b 143) 110 = .ok (.iload 4, 2) := by decide +kernel
theorem d_143_112 : decode (axt_b 143) 112 = .ok (.iaload, 1) := by decide +kernel
theorem d_143_113 : decode (axt_b 143) 113 = .ok (.iconst (-1), 1) := by decide +kernel
theorem d_143_114 : decode (axt_b 143) 114 = .ok (.iastore, 1) := by decide +kernel
theorem d_143_115 : decode (axt_b 143) 115 = .ok (.iinc 4 1, 3) := by decide +kernel
theorem d_143_118 : decode (axt_b 143) 118 = .ok (.goto (-113), 3) := by decide +kernel
theorem d_143_121 : decode (axt_b 143) 121 = .ok (.aload_n 0, 1) := by decide +kernel
theorem d_143_122 : decode (axt_b 143) 122 = .ok (.iconst 0, 1) := by decide +kernel
theorem d_143_123 : decode (axt_b 143) 123 = .ok (.putfield 35, 3) := by decide +kernel
theorem d_143_126 : decode (axt_b 143) 126 = .ok (.return_, 1) := by decide +kernel
theorem d_145_0 : decode (axt_b 145) 0 = .ok (.aload_n 0, 1) := by decide +kernel
theorem d_145_1 : decode (axt_b 145) 1 = .ok (.iconst 0, 1) := by decide +kernel
theorem d_145_2 : decode (axt_b 145) 2 = .ok (.putfield 99, 3) := by decide +kernel
theorem d_145_5 : decode (axt_b 145) 5 = .ok (.aload_n 0, 1) := by decide +kernel
theorem d_145_6 : decode (axt_b 145) 6 = .ok (.getfield 41, 3) := by decide +kernel
theorem d_145_9 : decode (axt_b 145) 9 = .ok (.iload_n 1, 1) := by decide +kernel
theorem d_145_10 : decode (axt_b 145) 10 = .ok (.aload_n 0, 1) := by decide +kernel
theorem d_145_11 : decode (axt_b 145) 11 = .ok (.invokevirtual 137, 3) := by decide +kernel
theorem d_145_14 : decode (axt_b 145) 14 = .ok (.iand, 1) := by decide +kernel
theorem d_145_15 : decode (axt_b 145) 15 = .ok (.invokevirtual 141, 3) := by decide +kernel
theorem d_145_18 : decode (axt_b 145) 18 = .ok (.aload_n 0, 1) := by decide +kernel
theorem d_145_19 : decode (axt_b 145) 19 = .ok (.getfield 41, 3) := by decide +kernel
theorem d_145_22 : decode (axt_b 145) 22 = .ok (.getfield 69, 3) := by decide +kernel
theorem d_145_25 : decode (axt_b 145) 25 = .ok (.ireturn, 1) := by decide +kernel
theorem d_146_0 : decode (axt_b 146) 0 = .ok (.iconst 1, 1) := by decide +kernel
theorem d_146_1 : decode (axt_b 146) 1 = .ok (.aload_n 0, 1) := by decide +kernel
theorem d_146_2 : decode (axt_b 146) 2 = .ok (.getfield 32, 3) := by decide +kernel
theorem d_146_5 : decode (axt_b 146) 5 = .ok (.getfield 58, 3) := by decide +kernel
theorem d_146_8 : decode (axt_b 146) 8 = .ok (.ishl, 1) := by decide +kernel
theorem d_146_9 : decode (axt_b 146) 9 = .ok (.iconst 1, 1) := by decide +kernel
theorem d_146_10 : decode (axt_b 146) 10 = .ok (.isub, 1) := by decide +kernel
theorem d_146_11 : decode (axt_b 146) 11 = .ok (.ireturn, 1) := by decide +kernel
theorem d_147_0 : decode (axt_b 147) 0 = .ok (.aload_n 0, 1) := by decide +kernel
theorem d_147_1 : decode (axt_b 147) 1 = .ok (.dup, 1) := by decide +kernel
theorem d_147_2 : decode (axt_b 147) 2 = .ok (.getfield 34, 3) := by decide +kernel
theorem d_147_5 : decode (axt_b 147) 5 = .ok (.iconst 1, 1) := by decide +kernel
theorem d_147_6 : decode (axt_b 147) 6 = .ok (.iadd, 1) := by decide +kernel
theorem d_147_7 : decode (axt_b 147) 7 = .ok (.putfield 34, 3) := by decide +kernel
theorem d_147_10 : decode (axt_b 147) 10 = .ok (.aload_n 0, 1) := by decide +kernel
theorem d_147_11 : decode (axt_b 147) 11 = .ok (.iload_n 1, 1) := by decide +kernel
theorem d_147_12 : decode (axt_b 147) 12 = .ok (.putfield 50, 3) := by decide +kernel
theorem d_147_15 : decode (axt_b 147) 15 = .ok (.aload_n 0, 1) := by decide +kernel
theorem d_147_16 : decode (axt_b 147) 16 = .ok (.iconst 0, 1) := by decide +kernel
theorem d_147_17 : decode (axt_b 147) 17 = .ok (.putfield 53, 3) := by decide +kernel
theorem d_147_20 : decode (axt_b 147) 20 = .ok (.aload_n 0, 1) := by decide +kernel
theorem d_147_21 : decode (axt_b 147) 21 = .ok (.invokevirtual 134, 3) := by decide +kernel
theorem d_147_24 : decode (axt_b 147) 24 = .ok (.return_, 1) := by decide +kernel
theorem c_146 {L : Nat} {xs : Nat → Int32} {fr lo : Nat} {s0 na tb od sn : Nat} {c0 c1 c2 c3 : Int32} {rk nt as nn gg o : Nat} {C : Int32} {h : ax_H} (hF : ax_hs h [(s0, .inr (0, [.ref rk, .ref nt, .ref as, .ref na, .ref tb, .ref od, .ref sn, .int c0, .int c1, .int c2, .int c3])), (rk, .inr (3, [.int (nI nn), .int C, .int (nI gg), .ref o]))]) : ax_M L xs 146 fr lo [.ref s0] h (fun r h' => r = some (.int (allN nn)) ∧ h' = h) := by
  show ax_A (ax_step L xs) ((146, 0, fr, lo), [(0, .ref s0)], [], h) _
  refine ar_iconst 1 (v := 1) d_146_0 rfl (by decide) ?_
  refine ar_aload_n 2 d_146_1 rfl rfl ?_
  refine ar_getf 5 d_146_2 rfl (ci := 0) (k := 0) rfl (hF.at 0 rfl) rfl ?_
  refine ar_getf 8 d_146_5 rfl (ci := 3) (k := 0) rfl (hF.at 1 rfl) rfl ?_
  refine ar_ishl 9 d_146_8 rfl ?_
  refine ar_iconst 10 (v := 1) d_146_9 rfl (by decide) ?_
  refine ar_isub 11 d_146_10 rfl ?_
  exact ar_iret d_146_11 rfl rfl (⟨rfl, rfl⟩)

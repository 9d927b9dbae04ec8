/-! judge, fetchIfNews, gotHave, gotLack for every state, exactly -/
theorem d_76_0 : decode (axt_b 76) 0 = .ok (.aload_n 0, 1) := by decide +kernel
theorem d_76_1 : decode (axt_b 76) 1 = .ok (.getfield 40, 3) := by decide +kernel
theorem d_76_4 : decode (axt_b 76) 4 = .ok (.iload_n 1, 1) := by decide +kernel
theorem d_76_5 : decode (axt_b 76) 5 = .ok (.invokevirtual 189, 3) := by decide +kernel
theorem d_76_8 : decode (axt_b 76) 8 = .ok (.istore_n 3, 1) := by decide +kernel
theorem d_76_9 : decode (axt_b 76) 9 = .ok (.iload_n 3, 1) := by decide +kernel
theorem d_76_10 : decode (axt_b 76) 10 = .ok (.ifCond .ge 37, 3) := by decide +kernel
theorem d_76_13 : decode (axt_b 76) 13 = .ok (.aload_n 0, 1) := by decide +kernel
theorem d_76_14 : decode (axt_b 76) 14 = .ok (.getfield 40, 3) := by decide +kernel
theorem d_76_17 : decode (axt_b 76) 17 = .ok (.invokevirtual 114, 3) := by decide +kernel
theorem d_76_20 : decode (axt_b 76) 20 = .ok (.ifCond .eq 25, 3) := by decide +kernel
theorem d_76_23 : decode (axt_b 76) 23 = .ok (.iload_n 1, 1) := by decide +kernel
theorem d_76_24 : decode (axt_b 76) 24 = .ok (.invokestatic 262, 3) := by decide +kernel
theorem d_76_27 : decode (axt_b 76) 27 = .ok (.aload_n 0, 1) := by decide +kernel
theorem d_76_28 : decode (axt_b 76) 28 = .ok (.getfield 40, 3) := by decide +kernel
theorem d_76_31 : decode (axt_b 76) 31 = .ok (.getfield 174, 3) := by decide +kernel
theorem d_76_34 : decode (axt_b 76) 34 = .ok (.sipush 960, 3) := by decide +kernel
theorem d_76_37 : decode (axt_b 76) 37 = .ok (.iaload, 1) := by decide +kernel
theorem d_76_38 : decode (axt_b 76) 38 = .ok (.if_icmp .gt 7, 3) := by decide +kernel
theorem d_76_41 : decode (axt_b 76) 41 = .ok (.iconst 1, 1) := by decide +kernel
theorem d_76_42 : decode (axt_b 76) 42 = .ok (.goto 4, 3) := by decide +kernel
theorem d_76_45 : decode (axt_b 76) 45 = .ok (.iconst 2, 1) := by decide +kernel
theorem d_76_46 : decode (axt_b 76) 46 = .ok (.ireturn, 1) := by decide +kernel
theorem d_76_47 : decode (axt_b 76) 47 = .ok (.aload_n 0, 1) := by decide +kernel
theorem d_76_48 : decode (axt_b 76) 48 = .ok (.getfield 40, 3) := by decide +kernel
theorem d_76_51 : decode (axt_b 76) 51 = .ok (.getfield 177, 3) := by decide +kernel
theorem d_76_54 : decode (axt_b 76) 54 = .ok (.iload_n 3, 1) := by decide +kernel
theorem d_76_55 : decode (axt_b 76) 55 = .ok (.dup2, 1) := by decide +kernel
theorem d_76_56 : decode (axt_b 76) 56 = .ok (.iaload, 1) := by decide +kernel
theorem d_76_57 : decode (axt_b 76) 57 = .ok (.iconst 1, 1) := by decide +kernel
theorem d_76_58 : decode (axt_b 76) 58 = .ok (.iload_n 2, 1) := by decide +kernel
theorem d_76_59 : decode (axt_b 76) 59 = .ok (.ishl, 1) := by decide +kernel
theorem d_76_60 : decode (axt_b 76) 60 = .ok (.ior, 1) := by decide +kernel
theorem d_76_61 : decode (axt_b 76) 61 = .ok (.iastore, 1) := by decide +kernel
theorem d_76_62 : decode (axt_b 76) 62 = .ok (.aload_n 0, 1) := by decide +kernel
theorem d_76_63 : decode (axt_b 76) 63 = .ok (.getfield 9, 3) := by decide +kernel
theorem d_76_66 : decode (axt_b 76) 66 = .ok (.aload_n 0, 1) := by decide +kernel
theorem d_76_67 : decode (axt_b 76) 67 = .ok (.getfield 40, 3) := by decide +kernel
theorem d_76_70 : decode (axt_b 76) 70 = .ok (.iload_n 3, 1) := by decide +kernel
theorem d_76_71 : decode (axt_b 76) 71 = .ok (.invokevirtual 170, 3) := by decide +kernel
theorem d_76_74 : decode (axt_b 76) 74 = .ok (.iaload, 1) := by decide +kernel
theorem d_76_75 : decode (axt_b 76) 75 = .ok (.istore 4, 2) := by decide +kernel
theorem d_76_77 : decode (axt_b 76) 77 = .ok (.iload 4, 2) := by decide +kernel
theorem d_76_79 : decode (axt_b 76) 79 = .ok (.iload_n 2, 1) := by decide +kernel
theorem d_76_80 : decode (axt_b 76) 80 = .ok (.ishr, 1) := by decide +kernel
theorem d_76_81 : decode (axt_b 76) 81 = .ok (.iconst 1, 1) := by decide +kernel
theorem d_76_82 : decode (axt_b 76) 82 = .ok (.iand, 1) := by decide +kernel
theorem d_76_83 : decode (axt_b 76) 83 = .ok (.ifCond .eq 5, 3) := by decide +kernel
theorem d_76_86 : decode (axt_b 76) 86 = .ok (.iconst 0, 1) := by decide +kernel
theorem d_76_87 : decode (axt_b 76) 87 = .ok (.ireturn, 1) := by decide +kernel
theorem d_76_88 : decode (axt_b 76) 88 = .ok (.iload 4, 2) := by decide +kernel
theorem d_76_90 : decode (axt_b 76) 90 = .ok (.ifCond .eq 24, 3) := by decide +kernel
theorem d_76_93 : decode (axt_b 76) 93 = .ok (.aload_n 0, 1) := by decide +kernel
theorem d_76_94 : decode (axt_b 76) 94 = .ok (.getfield 40, 3) := by decide +kernel
theorem d_76_97 : decode (axt_b 76) 97 = .ok (.getfield 177, 3) := by decide +kernel
theorem d_76_100 : decode (axt_b 76) 100 = .ok (.iload_n 3, 1) := by decide +kernel
theorem d_76_101 : decode (axt_b 76) 101 = .ok (.iaload, 1) := by decide +kernel
theorem d_76_102 : decode (axt_b 76) 102 = .ok (.iload 4, 2) := by decide +kernel
theorem d_76_104 : decode (axt_b 76) 104 = .ok (.iand, 1) := by decide +kernel
theorem d_76_105 : decode (axt_b 76) 105 = .ok (.iload 4, 2) := by decide +kernel
theorem d_76_107 : decode (axt_b 76) 107 = .ok (.if_icmp .ne 7, 3) := by decide +kernel
theorem d_76_110 : decode (axt_b 76) 110 = .ok (.iconst 1, 1) := by decide +kernel
theorem d_76_111 : decode (axt_b 76) 111 = .ok (.goto 4, 3) := by decide +kernel
theorem d_76_114 : decode (axt_b 76) 114 = .ok (.iconst 2, 1) := by decide +kernel
theorem d_76_115 : decode (axt_b 76) 115 = .ok (.ireturn, 1) := by decide +kernel
theorem d_79_0 : decode (axt_b 79) 0 = .ok (.iload_n 1, 1) := by decide +kernel
theorem d_79_1 : decode (axt_b 79) 1 = .ok (.invokestatic 265, 3) := by decide +kernel
theorem d_79_4 : decode (axt_b 79) 4 = .ok (.ifCond .eq 25, 3) := by decide +kernel
theorem d_79_7 : decode (axt_b 79) 7 = .ok (.iload_n 1, 1) := by decide +kernel
theorem d_79_8 : decode (axt_b 79) 8 = .ok (.invokestatic 262, 3) := by decide +kernel
theorem d_79_11 : decode (axt_b 79) 11 = .ok (.aload_n 0, 1) := by decide +kernel
theorem d_79_12 : decode (axt_b 79) 12 = .ok (.getfield 40, 3) := by decide +kernel
theorem d_79_15 : decode (axt_b 79) 15 = .ok (.getfield 174, 3) := by decide +kernel
theorem d_79_18 : decode (axt_b 79) 18 = .ok (.sipush 960, 3) := by decide +kernel
theorem d_79_21 : decode (axt_b 79) 21 = .ok (.iaload, 1) := by decide +kernel
theorem d_79_22 : decode (axt_b 79) 22 = .ok (.if_icmp .le 7, 3) := by decide +kernel
theorem d_79_25 : decode (axt_b 79) 25 = .ok (.iconst 1, 1) := by decide +kernel
theorem d_79_26 : decode (axt_b 79) 26 = .ok (.goto 4, 3) := by decide +kernel
theorem d_79_29 : decode (axt_b 79) 29 = .ok (.iconst 0, 1) := by decide +kernel
theorem d_79_30 : decode (axt_b 79) 30 = .ok (.istore_n 3, 1) := by decide +kernel
theorem d_79_31 : decode (axt_b 79) 31 = .ok (.aload_n 0, 1) := by decide +kernel
theorem d_79_32 : decode (axt_b 79) 32 = .ok (.getfield 40, 3) := by decide +kernel
theorem d_79_35 : decode (axt_b 79) 35 = .ok (.iload_n 1, 1) := by decide +kernel
theorem d_79_36 : decode (axt_b 79) 36 = .ok (.invokevirtual 189, 3) := by decide +kernel
theorem d_79_39 : decode (axt_b 79) 39 = .ok (.istore 4, 2) := by decide +kernel
theorem d_79_41 : decode (axt_b 79) 41 = .ok (.iload 4, 2) := by decide +kernel
theorem d_79_43 : decode (axt_b 79) 43 = .ok (.ifCond .lt 71, 3) := by decide +kernel
theorem d_79_46 : decode (axt_b 79) 46 = .ok (.iload 4, 2) := by decide +kernel
theorem d_79_48 : decode (axt_b 79) 48 = .ok (.sipush 960, 3) := by decide +kernel
theorem d_79_51 : decode (axt_b 79) 51 = .ok (.if_icmp .eq 63, 3) := by decide +kernel
theorem d_79_54 : decode (axt_b 79) 54 = .ok (.iload 4, 2) := by decide +kernel
theorem d_79_56 : decode (axt_b 79) 56 = .ok (.bipush 20, 2) := by decide +kernel
theorem d_79_58 : decode (axt_b 79) 58 = .ok (.irem, 1) := by decide +kernel
theorem d_79_59 : decode (axt_b 79) 59 = .ok (.bipush 19, 2) := by decide +kernel
theorem d_79_61 : decode (axt_b 79) 61 = .ok (.if_icmp .ne 53, 3) := by decide +kernel
theorem d_79_64 : decode (axt_b 79) 64 = .ok (.aload_n 0, 1) := by decide +kernel
theorem d_79_65 : decode (axt_b 79) 65 = .ok (.getfield 40, 3) := by decide +kernel
theorem d_79_68 : decode (axt_b 79) 68 = .ok (.iload 4, 2) := by decide +kernel
theorem d_79_70 : decode (axt_b 79) 70 = .ok (.bipush 20, 2) := by decide +kernel
theorem d_79_72 : decode (axt_b 79) 72 = .ok (.idiv, 1) := by decide +kernel
theorem d_79_73 : decode (axt_b 79) 73 = .ok (.invokevirtual 268, 3) := by decide +kernel
theorem d_79_76 : decode (axt_b 79) 76 = .ok (.ifCond .ne 38, 3) := by decide +kernel
theorem d_79_79 : decode (axt_b 79) 79 = .ok (.aload_n 0, 1) := by decide +kernel
theorem d_79_80 : decode (axt_b 79) 80 = .ok (.getfield 84, 3) := by decide +kernel
theorem d_79_83 : decode (axt_b 79) 83 = .ok (.iload 4, 2) := by decide +kernel
theorem d_79_85 : decode (axt_b 79) 85 = .ok (.bipush 20, 2) := by decide +kernel
theorem d_79_87 : decode (axt_b 79) 87 = .ok (.idiv, 1) := by decide +kernel
theorem d_79_88 : decode (axt_b 79) 88 = .ok (.lshr, 1) := by decide +kernel
theorem d_79_89 : decode (axt_b 79) 89 = .ok (.lconst 1, 1) := by decide +kernel
theorem d_79_90 : decode (axt_b 79) 90 = .ok (.land, 1) := by decide +kernel
theorem d_79_91 : decode (axt_b 79) 91 = .ok (.lconst 0, 1) := by decide +kernel
theorem d_79_92 : decode (axt_b 79) 92 = .ok (.lcmp, 1) := by decide +kernel
theorem d_79_93 : decode (axt_b 79) 93 = .ok (.ifCond .ne 21, 3) := by decide +kernel
theorem d_79_96 : decode (axt_b 79) 96 = .ok (.aload_n 0, 1) := by decide +kernel
theorem d_79_97 : decode (axt_b 79) 97 = .ok (.dup, 1) := by decide +kernel
theorem d_79_98 : decode (axt_b 79) 98 = .ok (.getfield 84, 3) := by decide +kernel
theorem d_79_101 : decode (axt_b 79) 101 = .ok (.lconst 1, 1) := by decide +kernel
theorem d_79_102 : decode (axt_b 79) 102 = .ok (.iload 4, 2) := by decide +kernel
theorem d_79_104 : decode (axt_b 79) 104 = .ok (.bipush 20, 2) := by decide +kernel
theorem d_79_106 : decode (axt_b 79) 106 = .ok (.idiv, 1) := by decide +kernel
theorem d_79_107 : decode (axt_b 79) 107 = .ok (.lshl, 1) := by decide +kernel
theorem d_79_108 : decode (axt_b 79) 108 = .ok (.lor, 1) := by decide +kernel
theorem d_79_109 : decode (axt_b 79) 109 = .ok (.putfield 84, 3) := by decide +kernel
theorem d_79_112 : decode (axt_b 79) 112 = .ok (.iconst 1, 1) := by decide +kernel
theorem d_79_113 : decode (axt_b 79) 113 = .ok (.istore_n 3, 1) := by decide +kernel
theorem d_79_114 : decode (axt_b 79) 114 = .ok (.iload_n 3, 1) := by decide +kernel
theorem d_79_115 : decode (axt_b 79) 115 = .ok (.ifCond .eq 29, 3) := by decide +kernel
theorem d_79_118 : decode (axt_b 79) 118 = .ok (.aload_n 0, 1) := by decide +kernel
theorem d_79_119 : decode (axt_b 79) 119 = .ok (.getfield 26, 3) := by decide +kernel
theorem d_79_122 : decode (axt_b 79) 122 = .ok (.bipush 6, 2) := by decide +kernel
theorem d_79_124 : decode (axt_b 79) 124 = .ok (.aload_n 0, 1) := by decide +kernel
theorem d_79_125 : decode (axt_b 79) 125 = .ok (.getfield 18, 3) := by decide +kernel
theorem d_79_128 : decode (axt_b 79) 128 = .ok (.iload_n 2, 1) := by decide +kernel
theorem d_79_129 : decode (axt_b 79) 129 = .ok (.aload_n 0, 1) := by decide +kernel
theorem d_79_130 : decode (axt_b 79) 130 = .ok (.getfield 56, 3) := by decide +kernel
theorem d_79_133 : decode (axt_b 79) 133 = .ok (.aload_n 0, 1) := by decide +kernel
theorem d_79_134 : decode (axt_b 79) 134 = .ok (.getfield 59, 3) := by decide +kernel
theorem d_79_137 : decode (axt_b 79) 137 = .ok (.invokevirtual 101, 3) := by decide +kernel
theorem d_79_140 : decode (axt_b 79) 140 = .ok (.iload_n 1, 1) := by decide +kernel
theorem d_79_141 : decode (axt_b 79) 141 = .ok (.putfield 195, 3) := by decide +kernel
theorem d_79_144 : decode (axt_b 79) 144 = .ok (.return_, 1) := by decide +kernel
theorem d_89_0 : decode (axt_b 89) 0 = .ok (.iconst 0, 1) := by decide +kernel
theorem d_89_1 : decode (axt_b 89) 1 = .ok (.istore_n 2, 1) := by decide +kernel
theorem d_89_2 : decode (axt_b 89) 2 = .ok (.iload_n 2, 1) := by decide +kernel
theorem d_89_3 : decode (axt_b 89) 3 = .ok (.aload_n 1, 1) := by decide +kernel
theorem d_89_4 : decode (axt_b 89) 4 = .ok (.getfield 208, 3) := by decide +kernel
theorem d_89_7 : decode (axt_b 89) 7 = .ok (.if_icmp .ge 57, 3) := by decide +kernel
theorem d_89_10 : decode (axt_b 89) 10 = .ok (.aload_n 0, 1) := by decide +kernel
theorem d_89_11 : decode (axt_b 89) 11 = .ok (.getfield 40, 3) := by decide +kernel
theorem d_89_14 : decode (axt_b 89) 14 = .ok (.aload_n 1, 1) := by decide +kernel
theorem d_89_15 : decode (axt_b 89) 15 = .ok (.getfield 219, 3) := by decide +kernel
theorem d_89_18 : decode (axt_b 89) 18 = .ok (.iload_n 2, 1) := by decide +kernel
theorem d_89_19 : decode (axt_b 89) 19 = .ok (.iaload, 1) := by decide +kernel
theorem d_89_20 : decode (axt_b 89) 20 = .ok (.invokevirtual 189, 3) := by decide +kernel
theorem d_89_23 : decode (axt_b 89) 23 = .ok (.istore_n 3, 1) := by decide +kernel
theorem d_89_24 : decode (axt_b 89) 24 = .ok (.iload_n 3, 1) := by decide +kernel
theorem d_89_25 : decode (axt_b 89) 25 = .ok (.ifCond .lt 24, 3) := by decide +kernel
theorem d_89_28 : decode (axt_b 89) 28 = .ok (.aload_n 0, 1) := by decide +kernel
theorem d_89_29 : decode (axt_b 89) 29 = .ok (.getfield 40, 3) := by decide +kernel
theorem d_89_32 : decode (axt_b 89) 32 = .ok (.getfield 177, 3) := by decide +kernel
theorem d_89_35 : decode (axt_b 89) 35 = .ok (.iload_n 3, 1) := by decide +kernel
theorem d_89_36 : decode (axt_b 89) 36 = .ok (.dup2, 1) := by decide +kernel
theorem d_89_37 : decode (axt_b 89) 37 = .ok (.iaload, 1) := by decide +kernel
theorem d_89_38 : decode (axt_b 89) 38 = .ok (.iconst 1, 1) := by decide +kernel
theorem d_89_39 : decode (axt_b 89) 39 = .ok (.aload_n 1, 1) := by decide +kernel
theorem d_89_40 : decode (axt_b 89) 40 = .ok (.getfield 129, 3) := by decide +kernel
theorem d_89_43 : decode (axt_b 89) 43 = .ok (.ishl, 1) := by decide +kernel
theorem d_89_44 : decode (axt_b 89) 44 = .ok (.ior, 1) := by decide +kernel
theorem d_89_45 : decode (axt_b 89) 45 = .ok (.iastore, 1) := by decide +kernel
theorem d_89_46 : decode (axt_b 89) 46 = .ok (.goto 12, 3) := by decide +kernel
theorem d_89_49 : decode (axt_b 89) 49 = .ok (.aload_n 0, 1) := by decide +kernel
theorem d_89_50 : decode (axt_b 89) 50 = .ok (.aload_n 1, 1) := by decide +kernel
theorem d_89_51 : decode (axt_b 89) 51 = .ok (.getfield 129, 3) := by decide +kernel
theorem d_89_54 : decode (axt_b 89) 54 = .ok (.iconst 0, 1) := by decide +kernel
theorem d_89_55 : decode (axt_b 89) 55 = .ok (.invokevirtual 258, 3) := by decide +kernel
theorem d_89_58 : decode (axt_b 89) 58 = .ok (.iinc 2 1, 3) := by decide +kernel
theorem d_89_61 : decode (axt_b 89) 61 = .ok (.goto (-59), 3) := by decide +kernel
theorem d_89_64 : decode (axt_b 89) 64 = .ok (.return_, 1) := by decide +kernel
theorem d_90_0 : decode (axt_b 90) 0 = .ok (.aload_n 0, 1) := by decide +kernel
theorem d_90_1 : decode (axt_b 90) 1 = .ok (.getfield 40, 3) := by decide +kernel
theorem d_90_4 : decode (axt_b 90) 4 = .ok (.aload_n 1, 1) := by decide +kernel
theorem d_90_5 : decode (axt_b 90) 5 = .ok (.getfield 195, 3) := by decide +kernel
theorem d_90_8 : decode (axt_b 90) 8 = .ok (.invokevirtual 189, 3) := by decide +kernel
theorem d_90_11 : decode (axt_b 90) 11 = .ok (.istore_n 2, 1) := by decide +kernel
theorem d_90_12 : decode (axt_b 90) 12 = .ok (.iload_n 2, 1) := by decide +kernel
theorem d_90_13 : decode (axt_b 90) 13 = .ok (.ifCond .lt 37, 3) := by decide +kernel
theorem d_90_16 : decode (axt_b 90) 16 = .ok (.aload_n 0, 1) := by decide +kernel
theorem d_90_17 : decode (axt_b 90) 17 = .ok (.getfield 40, 3) := by decide +kernel
theorem d_90_20 : decode (axt_b 90) 20 = .ok (.getfield 177, 3) := by decide +kernel
theorem d_90_23 : decode (axt_b 90) 23 = .ok (.iload_n 2, 1) := by decide +kernel
theorem d_90_24 : decode (axt_b 90) 24 = .ok (.dup2, 1) := by decide +kernel
theorem d_90_25 : decode (axt_b 90) 25 = .ok (.iaload, 1) := by decide +kernel
theorem d_90_26 : decode (axt_b 90) 26 = .ok (.iconst 1, 1) := by decide +kernel
theorem d_90_27 : decode (axt_b 90) 27 = .ok (.aload_n 1, 1) := by decide +kernel
theorem d_90_28 : decode (axt_b 90) 28 = .ok (.getfield 129, 3) := by decide +kernel
theorem d_90_31 : decode (axt_b 90) 31 = .ok (.ishl, 1) := by decide +kernel
theorem d_90_32 : decode (axt_b 90) 32 = .ok (.iconst (-1), 1) := by decide +kernel
theorem d_90_33 : decode (axt_b 90) 33 = .ok (.ixor, 1) := by decide +kernel
theorem d_90_34 : decode (axt_b 90) 34 = .ok (.iand, 1) := by decide +kernel
theorem d_90_35 : decode (axt_b 90) 35 = .ok (.iastore, 1) := by decide +kernel
theorem d_90_36 : decode (axt_b 90) 36 = .ok (.aload_n 0, 1) := by decide +kernel
theorem d_90_37 : decode (axt_b 90) 37 = .ok (.aload_n 1, 1) := by decide +kernel
theorem d_90_38 : decode (axt_b 90) 38 = .ok (.getfield 129, 3) := by decide +kernel
theorem d_90_41 : decode (axt_b 90) 41 = .ok (.iconst 0, 1) := by decide +kernel
theorem d_90_42 : decode (axt_b 90) 42 = .ok (.invokevirtual 258, 3) := by decide +kernel
theorem d_90_45 : decode (axt_b 90) 45 = .ok (.aload_n 0, 1) := by decide +kernel
theorem d_90_46 : decode (axt_b 90) 46 = .ok (.iconst 0, 1) := by decide +kernel
theorem d_90_47 : decode (axt_b 90) 47 = .ok (.putfield 94, 3) := by decide +kernel
theorem d_90_50 : decode (axt_b 90) 50 = .ok (.return_, 1) := by decide +kernel
def acB (x : Int32) : Int32 := if x ≤ 1 then 0 else 1
theorem c_71E {L : Nat} {xs : Nat → Int32} {fr lo : Nat} {h : ax_H} {tb wk wa wb : Nat} {ws wo w5 w6 w7 w8 w9 w10 w11 w12 w13 w14 : Int32} (gw : ax_g h wk = some (.inr (10, [.ref tb, .ref wa, .ref wb, .int ws, .int wo, .int w5, .int w6, .int w7, .int w8, .int w9, .int w10, .int w11, .int w12, .int w13, .int w14]))) : ax_M L xs 71 fr lo [.ref wk] h (fun r h' => r = some (.int (acB ws)) ∧ h' = h) := by
  by_cases hw : ws ≤ 1
  · exact ax_A.post (c_71F hw (ax_hs.one gw)) (fun r h' hq => ⟨by rw [hq.1, show acB ws = 0 from if_pos hw], hq.2⟩)
  · exact ax_A.post (c_71T hw (ax_hs.one gw)) (fun r h' hq => ⟨by rw [hq.1, show acB ws = 1 from if_neg hw], hq.2⟩)
def scB (cl x z : Int32) : Int32 := if z = 0 then cl &&& ((1 <<< (x &&& 31)) ^^^ (-1)) else cl ||| (1 <<< (x &&& 31))
theorem c_82E {L : Nat} {xs : Nat → Int32} {fr lo : Nat} {h : ax_H} {ld rk nt tb wk ma sp : Nat} {me ep st hd cl ni tu md : Int32} {ak : Int64} {x z : Int32} (gl : ax_g h ld = some (.inr (9, [.int me, .ref rk, .ref nt, .ref tb, .ref wk, .ref ma, .ref sp, .int ep, .int st, .int hd, .int cl, .long ak, .int ni, .int tu, .int md]))) : ax_M L xs 82 fr lo [.ref ld, .int x, .int z] h (fun r h' => r = none ∧ h' = ax_put h ld (.inr (9, [.int me, .ref rk, .ref nt, .ref tb, .ref wk, .ref ma, .ref sp, .int ep, .int st, .int hd, .int (scB cl x z), .long ak, .int ni, .int tu, .int md]))) := by
  show ax_A (ax_step L xs) ((82, 0, fr, lo), [(0, .ref ld), (1, .int x), (2, .int z)], [], h) _
  have hF := ax_hs.one gl
  refine ar_aload_n 1 d_82_0 rfl rfl ?_
  refine ar_iload_n 2 d_82_1 rfl rfl ?_
  refine ar_if_eq 16 5 d_82_2 (by decide) rfl (fun c1 => ?_) (fun c1 => ?_)
  · refine ar_aload_n 17 d_82_16 rfl rfl ?_
    refine ar_getf 20 d_82_17 rfl (ci := 9) (k := 10) rfl gl rfl ?_
    refine ar_iconst 21 (v := 1) d_82_20 rfl (by decide) ?_
    refine ar_iload_n 22 d_82_21 rfl rfl ?_
    refine ar_ishl 23 d_82_22 rfl ?_
    refine ar_iconst 24 (v := -1) d_82_23 rfl (by decide) ?_
    refine ar_ixor 25 d_82_24 rfl ?_
    refine ar_iand 26 d_82_25 rfl ?_
    refine ar_putf 29 [.int me, .ref rk, .ref nt, .ref tb, .ref wk, .ref ma, .ref sp, .int ep, .int st, .int hd, .int (cl &&& ((1 <<< (x &&& 31)) ^^^ (-1))), .long ak, .int ni, .int tu, .int md] d_82_26 rfl (ci := 9) (k := 10) rfl rfl gl (Nat.le_of_ble_eq_true rfl) rfl rfl rfl ?_
    have hF : ax_hs (ax_put h ld (.inr (9, [.int me, .ref rk, .ref nt, .ref tb, .ref wk, .ref ma, .ref sp, .int ep, .int st, .int hd, .int (cl &&& ((1 <<< (x &&& 31)) ^^^ (-1))), .long ak, .int ni, .int tu, .int md]))) [(ld, .inr (9, [.int me, .ref rk, .ref nt, .ref tb, .ref wk, .ref ma, .ref sp, .int ep, .int st, .int hd, .int (cl &&& ((1 <<< (x &&& 31)) ^^^ (-1))), .long ak, .int ni, .int tu, .int md]))] := hF.put 0 _ rfl rfl
    exact ar_ret d_82_29 rfl (⟨rfl, by rw [show scB cl x z = cl &&& ((1 <<< (x &&& 31)) ^^^ (-1)) from if_pos c1]⟩)
  · refine ar_aload_n 6 d_82_5 rfl rfl ?_
    refine ar_getf 9 d_82_6 rfl (ci := 9) (k := 10) rfl gl rfl ?_
    refine ar_iconst 10 (v := 1) d_82_9 rfl (by decide) ?_
    refine ar_iload_n 11 d_82_10 rfl rfl ?_
    refine ar_ishl 12 d_82_11 rfl ?_
    refine ar_ior 13 d_82_12 rfl ?_
    refine ar_goto 26 d_82_13 (by decide) ?_
    refine ar_putf 29 [.int me, .ref rk, .ref nt, .ref tb, .ref wk, .ref ma, .ref sp, .int ep, .int st, .int hd, .int (cl ||| (1 <<< (x &&& 31))), .long ak, .int ni, .int tu, .int md] d_82_26 rfl (ci := 9) (k := 10) rfl rfl gl (Nat.le_of_ble_eq_true rfl) rfl rfl rfl ?_
    have hF : ax_hs (ax_put h ld (.inr (9, [.int me, .ref rk, .ref nt, .ref tb, .ref wk, .ref ma, .ref sp, .int ep, .int st, .int hd, .int (cl ||| (1 <<< (x &&& 31))), .long ak, .int ni, .int tu, .int md]))) [(ld, .inr (9, [.int me, .ref rk, .ref nt, .ref tb, .ref wk, .ref ma, .ref sp, .int ep, .int st, .int hd, .int (cl ||| (1 <<< (x &&& 31))), .long ak, .int ni, .int tu, .int md]))] := hF.put 0 _ rfl rfl
    exact ar_ret d_82_29 rfl (⟨rfl, by rw [show scB cl x z = cl ||| (1 <<< (x &&& 31)) from if_neg c1]⟩)
def rdB (fm : Nat → Int32) (hd : Int32) (i : Nat) : Int32 := if ¬ fm i = 0 ∧ hd &&& fm i = fm i then 1 else 0
theorem c_92E {L : Nat} {xs : Nat → Int32} {fr lo : Nat} {h : ax_H} {ld rk nt tb wk ma sp : Nat} {me ep st hd cl ni tu md : Int32} {ak : Int64} {i : Nat} {fm : Nat → Int32} (hi : i < 16) (gl : ax_g h ld = some (.inr (9, [.int me, .ref rk, .ref nt, .ref tb, .ref wk, .ref ma, .ref sp, .int ep, .int st, .int hd, .int cl, .long ak, .int ni, .int tu, .int md]))) (gm : ax_g h ma = some (.inl (0, 16, .inl fm))) : ax_M L xs 92 fr lo [.ref ld, .int (nI i)] h (fun r h' => r = some (.int (rdB fm hd i)) ∧ h' = h) := c_92 hi gl gm
theorem c_127E {L : Nat} {xs : Nat → Int32} {fr lo : Nat} {h : ax_H} {ld rk nt tb wk ma sp nn gg o : Nat} {me ep st hd cl ni tu md : Int32} {ak : Int64} {C x : Int32} (hnn : nn ≤ 6) (hn0 : 0 < nn) (ht : inR nn tu) (gl : ax_g h ld = some (.inr (9, [.int me, .ref rk, .ref nt, .ref tb, .ref wk, .ref ma, .ref sp, .int ep, .int st, .int hd, .int cl, .long ak, .int ni, .int tu, .int md]))) (gr : ax_g h rk = some (.inr (3, [.int (nI nn), .int C, .int (nI gg), .ref o]))) : ax_M L xs 127 fr lo [.ref ld, .int x] h (fun r h' => r = some (.int (nI (oneO x nn nn tu.toNatClampNeg))) ∧ h' = h) := by
  obtain ⟨t, ht, rfl⟩ := ht
  rw [nI_clamp (by omega)]
  exact c_127 hnn hn0 ht gl gr
def kwB (k : Int64) (f : Nat) : Int32 := if knB k f = 0 then 0 else 1
theorem c_81E {L : Nat} {xs : Nat → Int32} {fr lo : Nat} {h : ax_H} {tb a1 a2 a3 a4 a5 a6 a7 : Nat} {g fl an : Int32} {kn : Int64} {f : Nat} (gt : ax_g h tb = some (.inr (6, [.int g, .ref a1, .ref a2, .ref a3, .ref a4, .ref a5, .ref a6, .ref a7, .long kn, .int fl, .int an]))) : ax_M L xs 81 fr lo [.ref tb, .int (nI f)] h (fun r h' => r = some (.int (kwB kn f)) ∧ h' = h) := c_81 gt
def F_76 (nn gg : Nat) (C me : Int32) (f u b : Nat → Int32) (D : Nat → Nat → Int32) (K A : Int64) (Y : List Mg) (x k : Int32) : SR :=
  if fndI (D 15) (D 16) x = -1 then
    if (knA K (D 10 9)) = 0 then
      (2, D, K, A, Y)
    else
      if ((D 16) 960) < (x - x / 512 * 512) then
        (2, D, K, A, Y)
      else
        (1, D, K, A, Y)
  else
    bnN ((fndI (D 15) (D 16) x).toNatClampNeg) (fun a1 =>
      if ((((D 8) (grp (D 11) gg a1)) >>> (k &&& 31)) &&& 1) = 0 then
        if ((D 8) (grp (D 11) gg a1)) = 0 then
          (2, va_up D 17 (upd (D 17) a1 (((D 17) a1) ||| (1 <<< (k &&& 31)))), K, A, Y)
        else
          if ¬ (((upd (D 17) a1 (((D 17) a1) ||| (1 <<< (k &&& 31)))) a1) &&& ((D 8) (grp (D 11) gg a1))) = ((D 8) (grp (D 11) gg a1)) then
            (2, va_up D 17 (upd (D 17) a1 (((D 17) a1) ||| (1 <<< (k &&& 31)))), K, A, Y)
          else
            (1, va_up D 17 (upd (D 17) a1 (((D 17) a1) ||| (1 <<< (k &&& 31)))), K, A, Y)
      else
        (0, va_up D 17 (upd (D 17) a1 (((D 17) a1) ||| (1 <<< (k &&& 31)))), K, A, Y))
theorem s_76 {L : Nat} {xs : Nat → Int32} {fr lo : Nat} {Z : ZT} {n nd nn gg : Nat} {C me : Int32} {f : Nat → Int32} {q : Nat} {u b : Nat → Int32} {uv : Int32} {h0 h : ax_H} {D : Nat → Nat → Int32} {K A : Int64} {Y : List Mg} {x k : Int32} (hfr : 3 ≤ fr) (hlo : 90 ≤ lo) (hC : CS n nd nn gg f) (hS : NS Z n nd nn gg C me f q u b uv h0 h D K A Y) (hI : NI Z nn D) : ax_M L xs 76 fr lo [.ref (nd + 7), .int x, .int k] h (fun r h' => ∃ y : Int32, r = some (.int y) ∧ PS Z n nd nn gg C me f q u b uv h0 h' (fun D' K' A' Y' => (y, D', K', A', Y') = F_76 nn gg C me f u b D K A Y x k ∧ True)) := by
  have hC0 := hC
  show ax_A (ax_step L xs) ((76, 0, fr, lo), [(0, .ref (nd + 7)), (1, .int x), (2, .int k)], [], h) _
  obtain ⟨hnd, hn0, hnn3, hnn, hgg1, hgg, hRg⟩ := hC
  obtain ⟨hF, hN, hf, hn, hs, hp0, hu0⟩ := hS
  replace hF : ax_hs h [cNd n nd me D, cDk nd D, cAr nd 2 35840 D, cAr nd 3 4096 D, cAr nd 4 32 D, cAr nd 5 280 D, cAr nd 6 280 D, cLd n nd me D A, cAr nd 8 16 D, cAr nd 9 280 D, cTb nd gg D K, cAr nd 11 48 D, cAr nd 12 48 D, cAr nd 13 48 D, cAr nd 14 2400 D, cAr nd 15 512 D, cAr nd 16 961 D, cAr nd 17 961 D, cWk nd D, cWa nd D, cAr nd 20 612 D, cAr nd 21 1152 D, cRk n nn gg C, cOr n nn gg f] := hF
  refine ar_aload_n 1 d_76_0 rfl rfl ?_
  refine ar_getf 4 d_76_1 rfl (ci := 9) (k := 3) rfl (hF.at 7 rfl) rfl ?_
  refine ar_iload_n 5 d_76_4 rfl rfl ?_
  refine ar_call (r := []) (na := 0) (kd := 0) (cm := 77) (fr2 := fr - 1) (lo2 := lo - 23) 8 d_76_5 (ar_hoV (as := [.int x]) rfl rfl rfl (hF.at 10 rfl)) rfl (by omega) (show lo - 23 + (19 + 4) = lo by omega) (Nat.le_of_ble_eq_true rfl) (Nat.le_of_ble_eq_true rfl) (c_77E (x := x) hI.2.1 (hF.at 10 rfl) (hF.at 15 rfl) (hF.at 16 rfl)) ?_
  intro v hh hq
  obtain ⟨rfl, ehh⟩ := hq
  rw [ehh]
  clear ehh
  rcases hI.2.1.fnd2 x with ey1 | ⟨t1, a1, ht1, hx1, ha1, ey1, hfd1⟩
  · refine ar_top (x' := -1) (ey1) ?_
    refine ar_istore_n 9 [(0, .ref (nd + 7)), (1, .int x), (2, .int k), (3, .int (-1))] d_76_8 rfl (by decide) rfl ?_
    refine ar_iload_n 10 d_76_9 rfl rfl ?_
    refine ar_if_ge 47 13 d_76_10 (by decide) rfl (fun c => absurd c (by decide)) (fun _ => ?_)
    refine ar_aload_n 14 d_76_13 rfl rfl ?_
    refine ar_getf 17 d_76_14 rfl (ci := 9) (k := 3) rfl (hF.at 7 rfl) rfl ?_
    refine ar_call (r := []) (na := 0) (kd := 0) (cm := 72) (fr2 := fr - 1) (lo2 := lo - 20) 20 d_76_17 (ar_hoV (as := []) rfl rfl rfl (hF.at 10 rfl)) rfl (by omega) (show lo - 20 + (19 + 1) = lo by omega) (Nat.le_of_ble_eq_true rfl) (Nat.le_of_ble_eq_true rfl) (c_72E (by omega) (by omega) (hF.at 10 rfl)) ?_
    intro v hh hq
    obtain ⟨rfl, ehh⟩ := hq
    rw [ehh]
    clear ehh
    refine ar_if_eq 45 23 d_76_20 (by decide) rfl (fun cc2 => ?_) (fun cc2 => ?_)
    · refine ar_iconst 46 (v := 2) d_76_45 rfl (by decide) ?_
      have hS9 : NS Z n nd nn gg C me f q u b uv h0 h D K A Y := ⟨hF, hN, hf, hn, hs, hp0, hu0⟩
      have hI9 : NI Z nn D := hI
      exact ar_iret d_76_46 rfl rfl (⟨_, rfl, _, _, _, _, hS9, hI9, eq_ifT ey1 (eq_ifT cc2 (rfl)), trivial⟩)
    · refine ar_iload_n 24 d_76_23 rfl rfl ?_
      refine ar_call (r := []) (na := 0) (kd := 0) (cm := 78) (fr2 := fr - 1) (lo2 := lo - 20) 27 d_76_24 (ar_hoS (as := [.int x]) rfl rfl rfl) rfl (by omega) (show lo - 20 + (19 + 1) = lo by omega) (Nat.le_of_ble_eq_true rfl) (Nat.le_of_ble_eq_true rfl) (c_78R) ?_
      intro v hh hq
      obtain ⟨rfl, ehh⟩ := hq
      rw [ehh]
      clear ehh
      refine ar_aload_n 28 d_76_27 rfl rfl ?_
      refine ar_getf 31 d_76_28 rfl (ci := 9) (k := 3) rfl (hF.at 7 rfl) rfl ?_
      refine ar_getf 34 d_76_31 rfl (ci := 6) (k := 6) rfl (hF.at 10 rfl) rfl ?_
      refine ar_sipush 37 (v := 960) d_76_34 rfl (by decide) ?_
      refine ar_ialdN 38 (e := 960) d_76_37 rfl (hF.at 16 rfl) (by omega) (by omega) ?_
      refine ar_icmp_gt 45 41 d_76_38 (by decide) rfl (fun cc3 => ?_) (fun cc3 => ?_)
      · refine ar_iconst 46 (v := 2) d_76_45 rfl (by decide) ?_
        have hS9 : NS Z n nd nn gg C me f q u b uv h0 h D K A Y := ⟨hF, hN, hf, hn, hs, hp0, hu0⟩
        have hI9 : NI Z nn D := hI
        exact ar_iret d_76_46 rfl rfl (⟨_, rfl, _, _, _, _, hS9, hI9, eq_ifT ey1 (eq_ifF cc2 (eq_ifT cc3 (rfl))), trivial⟩)
      · refine ar_iconst 42 (v := 1) d_76_41 rfl (by decide) ?_
        refine ar_goto 46 d_76_42 (by decide) ?_
        have hS9 : NS Z n nd nn gg C me f q u b uv h0 h D K A Y := ⟨hF, hN, hf, hn, hs, hp0, hu0⟩
        have hI9 : NI Z nn D := hI
        exact ar_iret d_76_46 rfl rfl (⟨_, rfl, _, _, _, _, hS9, hI9, eq_ifT ey1 (eq_ifF cc2 (eq_ifF cc3 (rfl))), trivial⟩)
  · refine ar_top (x' := nI a1) (ey1) ?_
    refine ar_istore_n 9 [(0, .ref (nd + 7)), (1, .int x), (2, .int k), (3, .int (nI a1))] d_76_8 rfl (by decide) rfl ?_
    refine ar_iload_n 10 d_76_9 rfl rfl ?_
    refine ar_if_ge 47 13 d_76_10 (by decide) rfl (fun _ => ?_) (fun c => absurd (nI_pos' (by omega)) c)
    refine ar_aload_n 48 d_76_47 rfl rfl ?_
    refine ar_getf 51 d_76_48 rfl (ci := 9) (k := 3) rfl (hF.at 7 rfl) rfl ?_
    refine ar_getf 54 d_76_51 rfl (ci := 6) (k := 7) rfl (hF.at 10 rfl) rfl ?_
    refine ar_iload_n 55 d_76_54 rfl rfl ?_
    refine ar_dup2 56 d_76_55 rfl rfl rfl ?_
    refine ar_ialdN 57 (e := a1) d_76_56 rfl (hF.at 17 rfl) (by omega) (by omega) ?_
    refine ar_iconst 58 (v := 1) d_76_57 rfl (by decide) ?_
    refine ar_iload_n 59 d_76_58 rfl rfl ?_
    refine ar_ishl 60 d_76_59 rfl ?_
    refine ar_ior 61 d_76_60 rfl ?_
    refine ar_iastN 62 (e := a1) d_76_61 rfl (hF.at 17 rfl) (by omega) (by omega) ?_
    replace hF : ax_hs (ax_put h (nd + 17) (.inl (0, 961, .inl (upd (D 17) a1 (((D 17) a1) ||| (1 <<< (k &&& 31))))))) [cNd n nd me D, cDk nd D, cAr nd 2 35840 D, cAr nd 3 4096 D, cAr nd 4 32 D, cAr nd 5 280 D, cAr nd 6 280 D, cLd n nd me D A, cAr nd 8 16 D, cAr nd 9 280 D, cTb nd gg D K, cAr nd 11 48 D, cAr nd 12 48 D, cAr nd 13 48 D, cAr nd 14 2400 D, cAr nd 15 512 D, cAr nd 16 961 D, (nd + 17, .inl (0, 961, .inl (upd (D 17) a1 (((D 17) a1) ||| (1 <<< (k &&& 31)))))), cWk nd D, cWa nd D, cAr nd 20 612 D, cAr nd 21 1152 D, cRk n nn gg C, cOr n nn gg f] := hF.put 17 _ rfl rfl
    replace hf := hf.put (a := nd + 17) (c := .inl (0, 961, .inl (upd (D 17) a1 (((D 17) a1) ||| (1 <<< (k &&& 31)))))) (Or.inr (by omega))
    replace hN := hN.put (a := nd + 17) (c := .inl (0, 961, .inl (upd (D 17) a1 (((D 17) a1) ||| (1 <<< (k &&& 31)))))) (by omega)
    replace hn : (ax_put h (nd + 17) (.inl (0, 961, .inl (upd (D 17) a1 (((D 17) a1) ||| (1 <<< (k &&& 31))))))).1 = h0.1 := hn
    replace hs : (ax_put h (nd + 17) (.inl (0, 961, .inl (upd (D 17) a1 (((D 17) a1) ||| (1 <<< (k &&& 31))))))).2.1 = h0.2.1 := hs
    generalize ax_put h (nd + 17) (.inl (0, 961, .inl (upd (D 17) a1 (((D 17) a1) ||| (1 <<< (k &&& 31)))))) = hp_4 at hF hf hN hn hs ⊢
    refine ar_aload_n 63 d_76_62 rfl rfl ?_
    refine ar_getf 66 d_76_63 rfl (ci := 9) (k := 5) rfl (hF.at 7 rfl) rfl ?_
    refine ar_aload_n 67 d_76_66 rfl rfl ?_
    refine ar_getf 70 d_76_67 rfl (ci := 9) (k := 3) rfl (hF.at 7 rfl) rfl ?_
    refine ar_iload_n 71 d_76_70 rfl rfl ?_
    refine ar_call (r := [.ref (nd + 8)]) (na := 0) (kd := 0) (cm := 75) (fr2 := fr - 1) (lo2 := lo - 22) 74 d_76_71 (ar_hoV (as := [.int (nI a1)]) rfl rfl rfl (hF.at 10 rfl)) rfl (by omega) (show lo - 22 + (19 + 3) = lo by omega) (Nat.le_of_ble_eq_true rfl) (Nat.le_of_ble_eq_true rfl) (c_75 ha1 (by omega) hgg (hI.2.1.grp ha1 (hfd1.id)) (hF.at 10 rfl) (hF.at 11 rfl)) ?_
    intro v hh hq
    obtain ⟨rfl, ehh⟩ := hq
    rw [ehh]
    clear ehh
    have hg5 := grp_lt (D 11) (show 0 < gg by omega) a1
    refine ar_ialdN 75 (e := grp (D 11) gg a1) d_76_74 rfl (hF.at 8 rfl) (by omega) (by omega) ?_
    refine ar_istore 77 [(0, .ref (nd + 7)), (1, .int x), (2, .int k), (3, .int (nI a1)), (4, .int ((D 8) (grp (D 11) gg a1)))] d_76_75 rfl (by decide) rfl ?_
    refine ar_iload 79 d_76_77 rfl rfl ?_
    refine ar_iload_n 80 d_76_79 rfl rfl ?_
    refine ar_ishr 81 d_76_80 rfl ?_
    refine ar_iconst 82 (v := 1) d_76_81 rfl (by decide) ?_
    refine ar_iand 83 d_76_82 rfl ?_
    refine ar_if_eq 88 86 d_76_83 (by decide) rfl (fun cc6 => ?_) (fun cc6 => ?_)
    · refine ar_iload 90 d_76_88 rfl rfl ?_
      refine ar_if_eq 114 93 d_76_90 (by decide) rfl (fun cc7 => ?_) (fun cc7 => ?_)
      · refine ar_iconst 115 (v := 2) d_76_114 rfl (by decide) ?_
        have hS9 : NS Z n nd nn gg C me f q u b uv h0 hp_4 (va_up D 17 (upd (D 17) a1 (((D 17) a1) ||| (1 <<< (k &&& 31))))) K A Y := ⟨hF, hN, hf, hn, hs, hp0, hu0⟩
        have hI9 : NI Z nn (va_up D 17 (upd (D 17) a1 (((D 17) a1) ||| (1 <<< (k &&& 31))))) := hI
        exact ar_iret d_76_115 rfl rfl (⟨_, rfl, _, _, _, _, hS9, hI9, eq_ifF (nI_ne1 ha1 ey1) (bnN_eq (cl_eq ha1 ey1) (eq_ifT cc6 (eq_ifT cc7 (rfl)))), trivial⟩)
      · refine ar_aload_n 94 d_76_93 rfl rfl ?_
        refine ar_getf 97 d_76_94 rfl (ci := 9) (k := 3) rfl (hF.at 7 rfl) rfl ?_
        refine ar_getf 100 d_76_97 rfl (ci := 6) (k := 7) rfl (hF.at 10 rfl) rfl ?_
        refine ar_iload_n 101 d_76_100 rfl rfl ?_
        refine ar_ialdN 102 (e := a1) d_76_101 rfl (hF.at 17 rfl) (by omega) (by omega) ?_
        refine ar_iload 104 d_76_102 rfl rfl ?_
        refine ar_iand 105 d_76_104 rfl ?_
        refine ar_iload 107 d_76_105 rfl rfl ?_
        refine ar_icmp_ne 114 110 d_76_107 (by decide) rfl (fun cc8 => ?_) (fun cc8 => ?_)
        · refine ar_iconst 115 (v := 2) d_76_114 rfl (by decide) ?_
          have hS9 : NS Z n nd nn gg C me f q u b uv h0 hp_4 (va_up D 17 (upd (D 17) a1 (((D 17) a1) ||| (1 <<< (k &&& 31))))) K A Y := ⟨hF, hN, hf, hn, hs, hp0, hu0⟩
          have hI9 : NI Z nn (va_up D 17 (upd (D 17) a1 (((D 17) a1) ||| (1 <<< (k &&& 31))))) := hI
          exact ar_iret d_76_115 rfl rfl (⟨_, rfl, _, _, _, _, hS9, hI9, eq_ifF (nI_ne1 ha1 ey1) (bnN_eq (cl_eq ha1 ey1) (eq_ifT cc6 (eq_ifF cc7 (eq_ifT cc8 (rfl))))), trivial⟩)
        · refine ar_iconst 111 (v := 1) d_76_110 rfl (by decide) ?_
          refine ar_goto 115 d_76_111 (by decide) ?_
          have hS9 : NS Z n nd nn gg C me f q u b uv h0 hp_4 (va_up D 17 (upd (D 17) a1 (((D 17) a1) ||| (1 <<< (k &&& 31))))) K A Y := ⟨hF, hN, hf, hn, hs, hp0, hu0⟩
          have hI9 : NI Z nn (va_up D 17 (upd (D 17) a1 (((D 17) a1) ||| (1 <<< (k &&& 31))))) := hI
          exact ar_iret d_76_115 rfl rfl (⟨_, rfl, _, _, _, _, hS9, hI9, eq_ifF (nI_ne1 ha1 ey1) (bnN_eq (cl_eq ha1 ey1) (eq_ifT cc6 (eq_ifF cc7 (eq_ifF cc8 (rfl))))), trivial⟩)
    · refine ar_iconst 87 (v := 0) d_76_86 rfl (by decide) ?_
      have hS9 : NS Z n nd nn gg C me f q u b uv h0 hp_4 (va_up D 17 (upd (D 17) a1 (((D 17) a1) ||| (1 <<< (k &&& 31))))) K A Y := ⟨hF, hN, hf, hn, hs, hp0, hu0⟩
      have hI9 : NI Z nn (va_up D 17 (upd (D 17) a1 (((D 17) a1) ||| (1 <<< (k &&& 31))))) := hI
      exact ar_iret d_76_87 rfl rfl (⟨_, rfl, _, _, _, _, hS9, hI9, eq_ifF (nI_ne1 ha1 ey1) (bnN_eq (cl_eq ha1 ey1) (eq_ifF cc6 (rfl))), trivial⟩)
def F_79 (nn gg : Nat) (C me : Int32) (f u b : Nat → Int32) (D : Nat → Nat → Int32) (K A : Int64) (Y : List Mg) (x k : Int32) : St :=
  if (rtB x) = 0 then
    if fndI (D 15) (D 16) x = -1 then
      (D, K, A, Y)
    else
      bnN ((fndI (D 15) (D 16) x).toNatClampNeg) (fun a2 =>
        if (nI a2) = 960 then
          (D, K, A, Y)
        else
          if ¬ (nI (a2 % 20)) = 19 then
            (D, K, A, Y)
          else
            if ¬ (kwB K (a2 / 20)) = 0 then
              (D, K, A, Y)
            else
              if ¬ (lg_cmp ((A >>> ((nI (a2 / 20)).toInt64 &&& 63)) &&& 1) 0) = 0 then
                (D, K, A, Y)
              else
                (D, K, A ||| (1 <<< ((nI (a2 / 20)).toInt64 &&& 63)), pst Y (va_up (mg 6 me k (D 7 7) (D 7 8)) 5 x, fun _ => 0)))
  else
    if (x - x / 512 * 512) ≤ ((D 16) 960) then
      if fndI (D 15) (D 16) x = -1 then
        (D, K, A, Y)
      else
        bnN ((fndI (D 15) (D 16) x).toNatClampNeg) (fun a11 =>
          if (nI a11) = 960 then
            (D, K, A, Y)
          else
            if ¬ (nI (a11 % 20)) = 19 then
              (D, K, A, Y)
            else
              if ¬ (kwB K (a11 / 20)) = 0 then
                (D, K, A, Y)
              else
                if ¬ (lg_cmp ((A >>> ((nI (a11 / 20)).toInt64 &&& 63)) &&& 1) 0) = 0 then
                  (D, K, A, Y)
                else
                  (D, K, A ||| (1 <<< ((nI (a11 / 20)).toInt64 &&& 63)), pst Y (va_up (mg 6 me k (D 7 7) (D 7 8)) 5 x, fun _ => 0)))
    else
      if fndI (D 15) (D 16) x = -1 then
        (D, K, A, pst Y (va_up (mg 6 me k (D 7 7) (D 7 8)) 5 x, fun _ => 0))
      else
        bnN ((fndI (D 15) (D 16) x).toNatClampNeg) (fun a19 =>
          if (nI a19) = 960 then
            (D, K, A, pst Y (va_up (mg 6 me k (D 7 7) (D 7 8)) 5 x, fun _ => 0))
          else
            if ¬ (nI (a19 % 20)) = 19 then
              (D, K, A, pst Y (va_up (mg 6 me k (D 7 7) (D 7 8)) 5 x, fun _ => 0))
            else
              if ¬ (kwB K (a19 / 20)) = 0 then
                (D, K, A, pst Y (va_up (mg 6 me k (D 7 7) (D 7 8)) 5 x, fun _ => 0))
              else
                if ¬ (lg_cmp ((A >>> ((nI (a19 / 20)).toInt64 &&& 63)) &&& 1) 0) = 0 then
                  (D, K, A, pst Y (va_up (mg 6 me k (D 7 7) (D 7 8)) 5 x, fun _ => 0))
                else
                  (D, K, A ||| (1 <<< ((nI (a19 / 20)).toInt64 &&& 63)), pst Y (va_up (mg 6 me k (D 7 7) (D 7 8)) 5 x, fun _ => 0)))
theorem s_79 {L : Nat} {xs : Nat → Int32} {fr lo : Nat} {Z : ZT} {n nd nn gg : Nat} {C me : Int32} {f : Nat → Int32} {q : Nat} {u b : Nat → Int32} {uv : Int32} {h0 h : ax_H} {D : Nat → Nat → Int32} {K A : Int64} {Y : List Mg} {x k : Int32} (hfr : 3 ≤ fr) (hlo : 90 ≤ lo) (hC : CS n nd nn gg f) (hS : NS Z n nd nn gg C me f q u b uv h0 h D K A Y) (hI : NI Z nn D) : ax_M L xs 79 fr lo [.ref (nd + 7), .int x, .int k] h (fun r h' => r = none ∧ PS Z n nd nn gg C me f q u b uv h0 h' (fun D' K' A' Y' => (D', K', A', Y') = F_79 nn gg C me f u b D K A Y x k ∧ True)) := by
  have hC0 := hC
  show ax_A (ax_step L xs) ((79, 0, fr, lo), [(0, .ref (nd + 7)), (1, .int x), (2, .int k)], [], h) _
  obtain ⟨hnd, hn0, hnn3, hnn, hgg1, hgg, hRg⟩ := hC
  obtain ⟨hF, hN, hf, hn, hs, hp0, hu0⟩ := hS
  replace hF : ax_hs h [cNd n nd me D, cDk nd D, cAr nd 2 35840 D, cAr nd 3 4096 D, cAr nd 4 32 D, cAr nd 5 280 D, cAr nd 6 280 D, cLd n nd me D A, cAr nd 8 16 D, cAr nd 9 280 D, cTb nd gg D K, cAr nd 11 48 D, cAr nd 12 48 D, cAr nd 13 48 D, cAr nd 14 2400 D, cAr nd 15 512 D, cAr nd 16 961 D, cAr nd 17 961 D, cWk nd D, cWa nd D, cAr nd 20 612 D, cAr nd 21 1152 D, cRk n nn gg C, cOr n nn gg f] := hF
  refine ar_iload_n 1 d_79_0 rfl rfl ?_
  refine ar_call (r := []) (na := 0) (kd := 0) (cm := 80) (fr2 := fr - 1) (lo2 := lo - 20) 4 d_79_1 (ar_hoS (as := [.int x]) rfl rfl rfl) rfl (by omega) (show lo - 20 + (19 + 1) = lo by omega) (Nat.le_of_ble_eq_true rfl) (Nat.le_of_ble_eq_true rfl) (c_80E) ?_
  intro v hh hq
  obtain ⟨rfl, ehh⟩ := hq
  rw [ehh]
  clear ehh
  refine ar_if_eq 29 7 d_79_4 (by decide) rfl (fun cc1 => ?_) (fun cc1 => ?_)
  · refine ar_iconst 30 (v := 0) d_79_29 rfl (by decide) ?_
    refine ar_istore_n 31 [(0, .ref (nd + 7)), (1, .int x), (2, .int k), (3, .int 0)] d_79_30 rfl (by decide) rfl ?_
    refine ar_aload_n 32 d_79_31 rfl rfl ?_
    refine ar_getf 35 d_79_32 rfl (ci := 9) (k := 3) rfl (hF.at 7 rfl) rfl ?_
    refine ar_iload_n 36 d_79_35 rfl rfl ?_
    refine ar_call (r := []) (na := 0) (kd := 0) (cm := 77) (fr2 := fr - 1) (lo2 := lo - 23) 39 d_79_36 (ar_hoV (as := [.int x]) rfl rfl rfl (hF.at 10 rfl)) rfl (by omega) (show lo - 23 + (19 + 4) = lo by omega) (Nat.le_of_ble_eq_true rfl) (Nat.le_of_ble_eq_true rfl) (c_77E (x := x) hI.2.1 (hF.at 10 rfl) (hF.at 15 rfl) (hF.at 16 rfl)) ?_
    intro v hh hq
    obtain ⟨rfl, ehh⟩ := hq
    rw [ehh]
    clear ehh
    rcases hI.2.1.fnd2 x with ey2 | ⟨t2, a2, ht2, hx2, ha2, ey2, hfd2⟩
    · refine ar_top (x' := -1) (ey2) ?_
      refine ar_istore 41 [(0, .ref (nd + 7)), (1, .int x), (2, .int k), (3, .int 0), (4, .int (-1))] d_79_39 rfl (by decide) rfl ?_
      refine ar_iload 43 d_79_41 rfl rfl ?_
      refine ar_if_lt 114 46 d_79_43 (by decide) rfl (fun _ => ?_) (fun c => absurd (by decide) c)
      refine ar_iload_n 115 d_79_114 rfl rfl ?_
      refine ar_if_eq 144 118 d_79_115 (by decide) rfl (fun _ => ?_) (fun c => absurd (by decide) c)
      have hS9 : NS Z n nd nn gg C me f q u b uv h0 h D K A Y := ⟨hF, hN, hf, hn, hs, hp0, hu0⟩
      have hI9 : NI Z nn D := hI
      exact ar_ret d_79_144 rfl (⟨rfl, _, _, _, _, hS9, hI9, eq_ifT cc1 (eq_ifT ey2 (rfl)), trivial⟩)
    · refine ar_top (x' := nI a2) (ey2) ?_
      refine ar_istore 41 [(0, .ref (nd + 7)), (1, .int x), (2, .int k), (3, .int 0), (4, .int (nI a2))] d_79_39 rfl (by decide) rfl ?_
      refine ar_iload 43 d_79_41 rfl rfl ?_
      refine ar_if_lt 114 46 d_79_43 (by decide) rfl (fun c => absurd c (nI_pos (by omega))) (fun _ => ?_)
      refine ar_iload 48 d_79_46 rfl rfl ?_
      refine ar_sipush 51 (v := 960) d_79_48 rfl (by decide) ?_
      refine ar_icmp_eq 114 54 d_79_51 (by decide) rfl (fun cc3 => ?_) (fun cc3 => ?_)
      · refine ar_iload_n 115 d_79_114 rfl rfl ?_
        refine ar_if_eq 144 118 d_79_115 (by decide) rfl (fun _ => ?_) (fun c => absurd (by decide) c)
        have hS9 : NS Z n nd nn gg C me f q u b uv h0 h D K A Y := ⟨hF, hN, hf, hn, hs, hp0, hu0⟩
        have hI9 : NI Z nn D := hI
        exact ar_ret d_79_144 rfl (⟨rfl, _, _, _, _, hS9, hI9, eq_ifT cc1 (eq_ifF (nI_ne1 ha2 ey2) (bnN_eq (cl_eq ha2 ey2) (eq_ifT cc3 (rfl)))), trivial⟩)
      · refine ar_iload 56 d_79_54 rfl rfl ?_
        refine ar_bipush 58 (v := 20) d_79_56 rfl (by decide) ?_
        refine ar_irem 59 d_79_58 rfl (by decide) ?_
        refine ar_top (x' := nI (a2 % 20)) (pk_rem (d := 20) (by omega) (by omega) (by omega)) ?_
        refine ar_bipush 61 (v := 19) d_79_59 rfl (by decide) ?_
        refine ar_icmp_ne 114 64 d_79_61 (by decide) rfl (fun cc4 => ?_) (fun cc4 => ?_)
        · refine ar_iload_n 115 d_79_114 rfl rfl ?_
          refine ar_if_eq 144 118 d_79_115 (by decide) rfl (fun _ => ?_) (fun c => absurd (by decide) c)
          have hS9 : NS Z n nd nn gg C me f q u b uv h0 h D K A Y := ⟨hF, hN, hf, hn, hs, hp0, hu0⟩
          have hI9 : NI Z nn D := hI
          exact ar_ret d_79_144 rfl (⟨rfl, _, _, _, _, hS9, hI9, eq_ifT cc1 (eq_ifF (nI_ne1 ha2 ey2) (bnN_eq (cl_eq ha2 ey2) (eq_ifF cc3 (eq_ifT cc4 (rfl))))), trivial⟩)
        · refine ar_aload_n 65 d_79_64 rfl rfl ?_
          refine ar_getf 68 d_79_65 rfl (ci := 9) (k := 3) rfl (hF.at 7 rfl) rfl ?_
          refine ar_iload 70 d_79_68 rfl rfl ?_
          refine ar_bipush 72 (v := 20) d_79_70 rfl (by decide) ?_
          refine ar_idiv 73 d_79_72 rfl (by decide) ?_
          refine ar_top (x' := nI (a2 / 20)) (pk_div (d := 20) (by omega) (by omega) (by omega)) ?_
          refine ar_call (r := []) (na := 0) (kd := 0) (cm := 81) (fr2 := fr - 1) (lo2 := lo - 21) 76 d_79_73 (ar_hoV (as := [.int (nI (a2 / 20))]) rfl rfl rfl (hF.at 10 rfl)) rfl (by omega) (show lo - 21 + (19 + 2) = lo by omega) (Nat.le_of_ble_eq_true rfl) (Nat.le_of_ble_eq_true rfl) (c_81E (f := (a2 / 20)) (hF.at 10 rfl)) ?_
          intro v hh hq
          obtain ⟨rfl, ehh⟩ := hq
          rw [ehh]
          clear ehh
          refine ar_if_ne 114 79 d_79_76 (by decide) rfl (fun cc5 => ?_) (fun cc5 => ?_)
          · refine ar_iload_n 115 d_79_114 rfl rfl ?_
            refine ar_if_eq 144 118 d_79_115 (by decide) rfl (fun _ => ?_) (fun c => absurd (by decide) c)
            have hS9 : NS Z n nd nn gg C me f q u b uv h0 h D K A Y := ⟨hF, hN, hf, hn, hs, hp0, hu0⟩
            have hI9 : NI Z nn D := hI
            exact ar_ret d_79_144 rfl (⟨rfl, _, _, _, _, hS9, hI9, eq_ifT cc1 (eq_ifF (nI_ne1 ha2 ey2) (bnN_eq (cl_eq ha2 ey2) (eq_ifF cc3 (eq_ifF cc4 (eq_ifT cc5 (rfl)))))), trivial⟩)
          · refine ar_aload_n 80 d_79_79 rfl rfl ?_
            refine ar_getf 83 d_79_80 rfl (ci := 9) (k := 11) rfl (hF.at 7 rfl) rfl ?_
            refine ar_iload 85 d_79_83 rfl rfl ?_
            refine ar_bipush 87 (v := 20) d_79_85 rfl (by decide) ?_
            refine ar_idiv 88 d_79_87 rfl (by decide) ?_
            refine ar_top (x' := nI (a2 / 20)) (pk_div (d := 20) (by omega) (by omega) (by omega)) ?_
            refine ar_lshr 89 d_79_88 rfl ?_
            refine ar_lconst 90 (v := 1) d_79_89 rfl (by decide) ?_
            refine ar_land 91 d_79_90 rfl ?_
            refine ar_lconst 92 (v := 0) d_79_91 rfl (by decide) ?_
            refine ar_lcmp 93 d_79_92 rfl ?_
            refine ar_if_ne 114 96 d_79_93 (by decide) rfl (fun cc6 => ?_) (fun cc6 => ?_)
            · refine ar_iload_n 115 d_79_114 rfl rfl ?_
              refine ar_if_eq 144 118 d_79_115 (by decide) rfl (fun _ => ?_) (fun c => absurd (by decide) c)
              have hS9 : NS Z n nd nn gg C me f q u b uv h0 h D K A Y := ⟨hF, hN, hf, hn, hs, hp0, hu0⟩
              have hI9 : NI Z nn D := hI
              exact ar_ret d_79_144 rfl (⟨rfl, _, _, _, _, hS9, hI9, eq_ifT cc1 (eq_ifF (nI_ne1 ha2 ey2) (bnN_eq (cl_eq ha2 ey2) (eq_ifF cc3 (eq_ifF cc4 (eq_ifF cc5 (eq_ifT cc6 (rfl))))))), trivial⟩)
            · refine ar_aload_n 97 d_79_96 rfl rfl ?_
              refine ar_dup 98 d_79_97 rfl rfl ?_
              refine ar_getf 101 d_79_98 rfl (ci := 9) (k := 11) rfl (hF.at 7 rfl) rfl ?_
              refine ar_lconst 102 (v := 1) d_79_101 rfl (by decide) ?_
              refine ar_iload 104 d_79_102 rfl rfl ?_
              refine ar_bipush 106 (v := 20) d_79_104 rfl (by decide) ?_
              refine ar_idiv 107 d_79_106 rfl (by decide) ?_
              refine ar_top (x' := nI (a2 / 20)) (pk_div (d := 20) (by omega) (by omega) (by omega)) ?_
              refine ar_lshl 108 d_79_107 rfl ?_
              refine ar_lor 109 d_79_108 rfl ?_
              refine ar_putf 112 [.int me, .ref (n + 264), .ref n, .ref (nd + 10), .ref (nd + 18), .ref (nd + 8), .ref (nd + 9), .int (D 7 7), .int (D 7 8), .int (D 7 9), .int (D 7 10), .long (A ||| (1 <<< ((nI (a2 / 20)).toInt64 &&& 63))), .int (D 7 12), .int (D 7 13), .int (D 7 14)] d_79_109 rfl (ci := 9) (k := 11) rfl rfl (hF.at 7 rfl) (Nat.le_of_ble_eq_true rfl) rfl rfl rfl ?_
              replace hF : ax_hs (ax_put h (nd + 7) (.inr (9, [.int me, .ref (n + 264), .ref n, .ref (nd + 10), .ref (nd + 18), .ref (nd + 8), .ref (nd + 9), .int (D 7 7), .int (D 7 8), .int (D 7 9), .int (D 7 10), .long (A ||| (1 <<< ((nI (a2 / 20)).toInt64 &&& 63))), .int (D 7 12), .int (D 7 13), .int (D 7 14)]))) [cNd n nd me D, cDk nd D, cAr nd 2 35840 D, cAr nd 3 4096 D, cAr nd 4 32 D, cAr nd 5 280 D, cAr nd 6 280 D, (nd + 7, .inr (9, [.int me, .ref (n + 264), .ref n, .ref (nd + 10), .ref (nd + 18), .ref (nd + 8), .ref (nd + 9), .int (D 7 7), .int (D 7 8), .int (D 7 9), .int (D 7 10), .long (A ||| (1 <<< ((nI (a2 / 20)).toInt64 &&& 63))), .int (D 7 12), .int (D 7 13), .int (D 7 14)])), cAr nd 8 16 D, cAr nd 9 280 D, cTb nd gg D K, cAr nd 11 48 D, cAr nd 12 48 D, cAr nd 13 48 D, cAr nd 14 2400 D, cAr nd 15 512 D, cAr nd 16 961 D, cAr nd 17 961 D, cWk nd D, cWa nd D, cAr nd 20 612 D, cAr nd 21 1152 D, cRk n nn gg C, cOr n nn gg f] := hF.put 7 _ rfl rfl
              replace hf := hf.put (a := nd + 7) (c := .inr (9, [.int me, .ref (n + 264), .ref n, .ref (nd + 10), .ref (nd + 18), .ref (nd + 8), .ref (nd + 9), .int (D 7 7), .int (D 7 8), .int (D 7 9), .int (D 7 10), .long (A ||| (1 <<< ((nI (a2 / 20)).toInt64 &&& 63))), .int (D 7 12), .int (D 7 13), .int (D 7 14)])) (Or.inr (by omega))
              replace hN := hN.put (a := nd + 7) (c := .inr (9, [.int me, .ref (n + 264), .ref n, .ref (nd + 10), .ref (nd + 18), .ref (nd + 8), .ref (nd + 9), .int (D 7 7), .int (D 7 8), .int (D 7 9), .int (D 7 10), .long (A ||| (1 <<< ((nI (a2 / 20)).toInt64 &&& 63))), .int (D 7 12), .int (D 7 13), .int (D 7 14)])) (by omega)
              replace hn : (ax_put h (nd + 7) (.inr (9, [.int me, .ref (n + 264), .ref n, .ref (nd + 10), .ref (nd + 18), .ref (nd + 8), .ref (nd + 9), .int (D 7 7), .int (D 7 8), .int (D 7 9), .int (D 7 10), .long (A ||| (1 <<< ((nI (a2 / 20)).toInt64 &&& 63))), .int (D 7 12), .int (D 7 13), .int (D 7 14)]))).1 = h0.1 := hn
              replace hs : (ax_put h (nd + 7) (.inr (9, [.int me, .ref (n + 264), .ref n, .ref (nd + 10), .ref (nd + 18), .ref (nd + 8), .ref (nd + 9), .int (D 7 7), .int (D 7 8), .int (D 7 9), .int (D 7 10), .long (A ||| (1 <<< ((nI (a2 / 20)).toInt64 &&& 63))), .int (D 7 12), .int (D 7 13), .int (D 7 14)]))).2.1 = h0.2.1 := hs
              generalize ax_put h (nd + 7) (.inr (9, [.int me, .ref (n + 264), .ref n, .ref (nd + 10), .ref (nd + 18), .ref (nd + 8), .ref (nd + 9), .int (D 7 7), .int (D 7 8), .int (D 7 9), .int (D 7 10), .long (A ||| (1 <<< ((nI (a2 / 20)).toInt64 &&& 63))), .int (D 7 12), .int (D 7 13), .int (D 7 14)])) = hp_7 at hF hf hN hn hs ⊢
              refine ar_iconst 113 (v := 1) d_79_112 rfl (by decide) ?_
              refine ar_istore_n 114 [(0, .ref (nd + 7)), (1, .int x), (2, .int k), (3, .int 1), (4, .int (nI a2))] d_79_113 rfl (by decide) rfl ?_
              refine ar_iload_n 115 d_79_114 rfl rfl ?_
              refine ar_if_eq 144 118 d_79_115 (by decide) rfl (fun c => absurd c (by decide)) (fun _ => ?_)
              refine ar_aload_n 119 d_79_118 rfl rfl ?_
              refine ar_getf 122 d_79_119 rfl (ci := 9) (k := 2) rfl (hF.at 7 rfl) rfl ?_
              refine ar_bipush 124 (v := 6) d_79_122 rfl (by decide) ?_
              refine ar_aload_n 125 d_79_124 rfl rfl ?_
              refine ar_getf 128 d_79_125 rfl (ci := 9) (k := 0) rfl (hF.at 7 rfl) rfl ?_
              refine ar_iload_n 129 d_79_128 rfl rfl ?_
              refine ar_aload_n 130 d_79_129 rfl rfl ?_
              refine ar_getf 133 d_79_130 rfl (ci := 9) (k := 7) rfl (hF.at 7 rfl) rfl ?_
              refine ar_aload_n 134 d_79_133 rfl rfl ?_
              refine ar_getf 137 d_79_134 rfl (ci := 9) (k := 8) rfl (hF.at 7 rfl) rfl ?_
              obtain ⟨zk, za, zc, hnet⟩ := hN.net
              refine ar_call (r := []) (na := 0) (kd := 0) (cm := 36) (fr2 := fr - 1) (lo2 := lo - 26) 140 d_79_137 (ar_hoV (as := [.int 6, .int me, .int k, .int (D 7 7), .int (D 7 8)]) rfl rfl rfl hnet) rfl (by omega) (show lo - 26 + (19 + 7) = lo by omega) (Nat.le_of_ble_eq_true rfl) (Nat.le_of_ble_eq_true rfl) (hN.post) ?_
              intro v hp_8 hq
              obtain ⟨m, bm, hm, hmq, rfl, hmm, hed, hf2, hz1, hz2⟩ := hq
              have hNm : NTA n (n + 1) (n + 1 + 1 + 2 * m) := Or.inr (by omega)
              have hNm1 : NTA n (n + 1) (n + 1 + 1 + 2 * m + 1) := Or.inr (by omega)
              replace hF : ax_hs hp_8 [cNd n nd me D, cDk nd D, cAr nd 2 35840 D, cAr nd 3 4096 D, cAr nd 4 32 D, cAr nd 5 280 D, cAr nd 6 280 D, (nd + 7, .inr (9, [.int me, .ref (n + 264), .ref n, .ref (nd + 10), .ref (nd + 18), .ref (nd + 8), .ref (nd + 9), .int (D 7 7), .int (D 7 8), .int (D 7 9), .int (D 7 10), .long (A ||| (1 <<< ((nI (a2 / 20)).toInt64 &&& 63))), .int (D 7 12), .int (D 7 13), .int (D 7 14)])), cAr nd 8 16 D, cAr nd 9 280 D, cTb nd gg D K, cAr nd 11 48 D, cAr nd 12 48 D, cAr nd 13 48 D, cAr nd 14 2400 D, cAr nd 15 512 D, cAr nd 16 961 D, cAr nd 17 961 D, cWk nd D, cWa nd D, cAr nd 20 612 D, cAr nd 21 1152 D, cRk n nn gg C, cOr n nn gg f] := hF.fr hf2 (far (n := n) (nd := nd) rfl hnd)
              replace hF : ax_hs hp_8 [(n + 1 + 1 + 2 * m, .inr (2, [.int 6, .int me, .int k, .int (D 7 7), .int (D 7 8), .int (-1), .int 0, .int 0, .ref (n + 1 + 1 + 2 * m + 1)])), (n + 1 + 1 + 2 * m + 1, .inl (0, 617, .inl bm)), cNd n nd me D, cDk nd D, cAr nd 2 35840 D, cAr nd 3 4096 D, cAr nd 4 32 D, cAr nd 5 280 D, cAr nd 6 280 D, (nd + 7, .inr (9, [.int me, .ref (n + 264), .ref n, .ref (nd + 10), .ref (nd + 18), .ref (nd + 8), .ref (nd + 9), .int (D 7 7), .int (D 7 8), .int (D 7 9), .int (D 7 10), .long (A ||| (1 <<< ((nI (a2 / 20)).toInt64 &&& 63))), .int (D 7 12), .int (D 7 13), .int (D 7 14)])), cAr nd 8 16 D, cAr nd 9 280 D, cTb nd gg D K, cAr nd 11 48 D, cAr nd 12 48 D, cAr nd 13 48 D, cAr nd 14 2400 D, cAr nd 15 512 D, cAr nd 16 961 D, cAr nd 17 961 D, cWk nd D, cWa nd D, cAr nd 20 612 D, cAr nd 21 1152 D, cRk n nn gg C, cOr n nn gg f] := hF.msg (far (n := n) (nd := nd) rfl hnd) hm hmm
              replace hf := hf.trC hf2 (fun _ _ z => Or.inl z)
              replace hn : hp_8.1 = h0.1 := by omega
              replace hs : hp_8.2.1 = h0.2.1 := by omega
              have hfm : ax_fr (fun x => x = n + 1 + 1 + 2 * m ∨ x = n + 1 + 1 + 2 * m + 1) hp_8 hp_8 := ax_fr.rf
              clear hN hnet hf2 hz1 hz2 hmm
              refine ar_iload_n 141 d_79_140 rfl rfl ?_
              refine ar_putf 144 [.int 6, .int me, .int k, .int (D 7 7), .int (D 7 8), .int x, .int 0, .int 0, .ref (n + 1 + 1 + 2 * m + 1)] d_79_141 rfl (ci := 2) (k := 5) rfl rfl (hF.at 0 rfl) (Nat.le_of_ble_eq_true rfl) rfl rfl rfl ?_
              replace hF : ax_hs (ax_put hp_8 (n + 1 + 1 + 2 * m) (.inr (2, [.int 6, .int me, .int k, .int (D 7 7), .int (D 7 8), .int x, .int 0, .int 0, .ref (n + 1 + 1 + 2 * m + 1)]))) [(n + 1 + 1 + 2 * m, .inr (2, [.int 6, .int me, .int k, .int (D 7 7), .int (D 7 8), .int x, .int 0, .int 0, .ref (n + 1 + 1 + 2 * m + 1)])), (n + 1 + 1 + 2 * m + 1, .inl (0, 617, .inl bm)), cNd n nd me D, cDk nd D, cAr nd 2 35840 D, cAr nd 3 4096 D, cAr nd 4 32 D, cAr nd 5 280 D, cAr nd 6 280 D, (nd + 7, .inr (9, [.int me, .ref (n + 264), .ref n, .ref (nd + 10), .ref (nd + 18), .ref (nd + 8), .ref (nd + 9), .int (D 7 7), .int (D 7 8), .int (D 7 9), .int (D 7 10), .long (A ||| (1 <<< ((nI (a2 / 20)).toInt64 &&& 63))), .int (D 7 12), .int (D 7 13), .int (D 7 14)])), cAr nd 8 16 D, cAr nd 9 280 D, cTb nd gg D K, cAr nd 11 48 D, cAr nd 12 48 D, cAr nd 13 48 D, cAr nd 14 2400 D, cAr nd 15 512 D, cAr nd 16 961 D, cAr nd 17 961 D, cWk nd D, cWa nd D, cAr nd 20 612 D, cAr nd 21 1152 D, cRk n nn gg C, cOr n nn gg f] := hF.put 0 _ rfl rfl
              replace hf := hf.put (a := n + 1 + 1 + 2 * m) (c := .inr (2, [.int 6, .int me, .int k, .int (D 7 7), .int (D 7 8), .int x, .int 0, .int 0, .ref (n + 1 + 1 + 2 * m + 1)])) (Or.inl hNm)
              replace hfm := hfm.put (a := n + 1 + 1 + 2 * m) (c := .inr (2, [.int 6, .int me, .int k, .int (D 7 7), .int (D 7 8), .int x, .int 0, .int 0, .ref (n + 1 + 1 + 2 * m + 1)])) (Or.inl rfl)
              replace hn : (ax_put hp_8 (n + 1 + 1 + 2 * m) (.inr (2, [.int 6, .int me, .int k, .int (D 7 7), .int (D 7 8), .int x, .int 0, .int 0, .ref (n + 1 + 1 + 2 * m + 1)]))).1 = h0.1 := hn
              replace hs : (ax_put hp_8 (n + 1 + 1 + 2 * m) (.inr (2, [.int 6, .int me, .int k, .int (D 7 7), .int (D 7 8), .int x, .int 0, .int 0, .ref (n + 1 + 1 + 2 * m + 1)]))).2.1 = h0.2.1 := hs
              generalize ax_put hp_8 (n + 1 + 1 + 2 * m) (.inr (2, [.int 6, .int me, .int k, .int (D 7 7), .int (D 7 8), .int x, .int 0, .int 0, .ref (n + 1 + 1 + 2 * m + 1)])) = hp_9 at hF hf hfm hn hs ⊢
              have hN : NeT Z hp_9 n q u b (pst Y (va_up (mg 6 me k (D 7 7) (D 7 8)) 5 x, fun _ => 0)) := hed _ (va_up (mg 6 me k (D 7 7) (D 7 8)) 5 x) bm _ hfm ⟨hF.at 0 rfl, hF.at 1 rfl⟩ (MI.head (Or.inr (Or.inr (Or.inr (Or.inl rfl))))) (smM.head (Or.inr (Or.inr (Or.inr (Or.inl rfl)))))
              replace hF := hF.sub (F' := [cNd n nd me D, cDk nd D, cAr nd 2 35840 D, cAr nd 3 4096 D, cAr nd 4 32 D, cAr nd 5 280 D, cAr nd 6 280 D, (nd + 7, .inr (9, [.int me, .ref (n + 264), .ref n, .ref (nd + 10), .ref (nd + 18), .ref (nd + 8), .ref (nd + 9), .int (D 7 7), .int (D 7 8), .int (D 7 9), .int (D 7 10), .long (A ||| (1 <<< ((nI (a2 / 20)).toInt64 &&& 63))), .int (D 7 12), .int (D 7 13), .int (D 7 14)])), cAr nd 8 16 D, cAr nd 9 280 D, cTb nd gg D K, cAr nd 11 48 D, cAr nd 12 48 D, cAr nd 13 48 D, cAr nd 14 2400 D, cAr nd 15 512 D, cAr nd 16 961 D, cAr nd 17 961 D, cWk nd D, cWa nd D, cAr nd 20 612 D, cAr nd 21 1152 D, cRk n nn gg C, cOr n nn gg f]) [2, 3, 4, 5, 6, 7, 8, 9, 10, 11, 12, 13, 14, 15, 16, 17, 18, 19, 20, 21, 22, 23, 24, 25] rfl rfl
              clear hed hfm hNm hNm1 hm hmq
              have hS9 : NS Z n nd nn gg C me f q u b uv h0 hp_9 D K (A ||| (1 <<< ((nI (a2 / 20)).toInt64 &&& 63))) (pst Y (va_up (mg 6 me k (D 7 7) (D 7 8)) 5 x, fun _ => 0)) := ⟨hF, hN, hf, hn, hs, hp0, hu0⟩
              have hI9 : NI Z nn D := hI
              exact ar_ret d_79_144 rfl (⟨rfl, _, _, _, _, hS9, hI9, eq_ifT cc1 (eq_ifF (nI_ne1 ha2 ey2) (bnN_eq (cl_eq ha2 ey2) (eq_ifF cc3 (eq_ifF cc4 (eq_ifF cc5 (eq_ifF cc6 (rfl))))))), trivial⟩)
  · refine ar_iload_n 8 d_79_7 rfl rfl ?_
    refine ar_call (r := []) (na := 0) (kd := 0) (cm := 78) (fr2 := fr - 1) (lo2 := lo - 20) 11 d_79_8 (ar_hoS (as := [.int x]) rfl rfl rfl) rfl (by omega) (show lo - 20 + (19 + 1) = lo by omega) (Nat.le_of_ble_eq_true rfl) (Nat.le_of_ble_eq_true rfl) (c_78R) ?_
    intro v hh hq
    obtain ⟨rfl, ehh⟩ := hq
    rw [ehh]
    clear ehh
    refine ar_aload_n 12 d_79_11 rfl rfl ?_
    refine ar_getf 15 d_79_12 rfl (ci := 9) (k := 3) rfl (hF.at 7 rfl) rfl ?_
    refine ar_getf 18 d_79_15 rfl (ci := 6) (k := 6) rfl (hF.at 10 rfl) rfl ?_
    refine ar_sipush 21 (v := 960) d_79_18 rfl (by decide) ?_
    refine ar_ialdN 22 (e := 960) d_79_21 rfl (hF.at 16 rfl) (by omega) (by omega) ?_
    refine ar_icmp_le 29 25 d_79_22 (by decide) rfl (fun cc10 => ?_) (fun cc10 => ?_)
    · refine ar_iconst 30 (v := 0) d_79_29 rfl (by decide) ?_
      refine ar_istore_n 31 [(0, .ref (nd + 7)), (1, .int x), (2, .int k), (3, .int 0)] d_79_30 rfl (by decide) rfl ?_
      refine ar_aload_n 32 d_79_31 rfl rfl ?_
      refine ar_getf 35 d_79_32 rfl (ci := 9) (k := 3) rfl (hF.at 7 rfl) rfl ?_
      refine ar_iload_n 36 d_79_35 rfl rfl ?_
      refine ar_call (r := []) (na := 0) (kd := 0) (cm := 77) (fr2 := fr - 1) (lo2 := lo - 23) 39 d_79_36 (ar_hoV (as := [.int x]) rfl rfl rfl (hF.at 10 rfl)) rfl (by omega) (show lo - 23 + (19 + 4) = lo by omega) (Nat.le_of_ble_eq_true rfl) (Nat.le_of_ble_eq_true rfl) (c_77E (x := x) hI.2.1 (hF.at 10 rfl) (hF.at 15 rfl) (hF.at 16 rfl)) ?_
      intro v hh hq
      obtain ⟨rfl, ehh⟩ := hq
      rw [ehh]
      clear ehh
      rcases hI.2.1.fnd2 x with ey11 | ⟨t11, a11, ht11, hx11, ha11, ey11, hfd11⟩
      · refine ar_top (x' := -1) (ey11) ?_
        refine ar_istore 41 [(0, .ref (nd + 7)), (1, .int x), (2, .int k), (3, .int 0), (4, .int (-1))] d_79_39 rfl (by decide) rfl ?_
        refine ar_iload 43 d_79_41 rfl rfl ?_
        refine ar_if_lt 114 46 d_79_43 (by decide) rfl (fun _ => ?_) (fun c => absurd (by decide) c)
        refine ar_iload_n 115 d_79_114 rfl rfl ?_
        refine ar_if_eq 144 118 d_79_115 (by decide) rfl (fun _ => ?_) (fun c => absurd (by decide) c)
        have hS9 : NS Z n nd nn gg C me f q u b uv h0 h D K A Y := ⟨hF, hN, hf, hn, hs, hp0, hu0⟩
        have hI9 : NI Z nn D := hI
        exact ar_ret d_79_144 rfl (⟨rfl, _, _, _, _, hS9, hI9, eq_ifF cc1 (eq_ifT cc10 (eq_ifT ey11 (rfl))), trivial⟩)
      · refine ar_top (x' := nI a11) (ey11) ?_
        refine ar_istore 41 [(0, .ref (nd + 7)), (1, .int x), (2, .int k), (3, .int 0), (4, .int (nI a11))] d_79_39 rfl (by decide) rfl ?_
        refine ar_iload 43 d_79_41 rfl rfl ?_
        refine ar_if_lt 114 46 d_79_43 (by decide) rfl (fun c => absurd c (nI_pos (by omega))) (fun _ => ?_)
        refine ar_iload 48 d_79_46 rfl rfl ?_
        refine ar_sipush 51 (v := 960) d_79_48 rfl (by decide) ?_
        refine ar_icmp_eq 114 54 d_79_51 (by decide) rfl (fun cc12 => ?_) (fun cc12 => ?_)
        · refine ar_iload_n 115 d_79_114 rfl rfl ?_
          refine ar_if_eq 144 118 d_79_115 (by decide) rfl (fun _ => ?_) (fun c => absurd (by decide) c)
          have hS9 : NS Z n nd nn gg C me f q u b uv h0 h D K A Y := ⟨hF, hN, hf, hn, hs, hp0, hu0⟩
          have hI9 : NI Z nn D := hI
          exact ar_ret d_79_144 rfl (⟨rfl, _, _, _, _, hS9, hI9, eq_ifF cc1 (eq_ifT cc10 (eq_ifF (nI_ne1 ha11 ey11) (bnN_eq (cl_eq ha11 ey11) (eq_ifT cc12 (rfl))))), trivial⟩)
        · refine ar_iload 56 d_79_54 rfl rfl ?_
          refine ar_bipush 58 (v := 20) d_79_56 rfl (by decide) ?_
          refine ar_irem 59 d_79_58 rfl (by decide) ?_
          refine ar_top (x' := nI (a11 % 20)) (pk_rem (d := 20) (by omega) (by omega) (by omega)) ?_
          refine ar_bipush 61 (v := 19) d_79_59 rfl (by decide) ?_
          refine ar_icmp_ne 114 64 d_79_61 (by decide) rfl (fun cc13 => ?_) (fun cc13 => ?_)
          · refine ar_iload_n 115 d_79_114 rfl rfl ?_
            refine ar_if_eq 144 118 d_79_115 (by decide) rfl (fun _ => ?_) (fun c => absurd (by decide) c)
            have hS9 : NS Z n nd nn gg C me f q u b uv h0 h D K A Y := ⟨hF, hN, hf, hn, hs, hp0, hu0⟩
            have hI9 : NI Z nn D := hI
            exact ar_ret d_79_144 rfl (⟨rfl, _, _, _, _, hS9, hI9, eq_ifF cc1 (eq_ifT cc10 (eq_ifF (nI_ne1 ha11 ey11) (bnN_eq (cl_eq ha11 ey11) (eq_ifF cc12 (eq_ifT cc13 (rfl)))))), trivial⟩)
          · refine ar_aload_n 65 d_79_64 rfl rfl ?_
            refine ar_getf 68 d_79_65 rfl (ci := 9) (k := 3) rfl (hF.at 7 rfl) rfl ?_
            refine ar_iload 70 d_79_68 rfl rfl ?_
            refine ar_bipush 72 (v := 20) d_79_70 rfl (by decide) ?_
            refine ar_idiv 73 d_79_72 rfl (by decide) ?_
            refine ar_top (x' := nI (a11 / 20)) (pk_div (d := 20) (by omega) (by omega) (by omega)) ?_
            refine ar_call (r := []) (na := 0) (kd := 0) (cm := 81) (fr2 := fr - 1) (lo2 := lo - 21) 76 d_79_73 (ar_hoV (as := [.int (nI (a11 / 20))]) rfl rfl rfl (hF.at 10 rfl)) rfl (by omega) (show lo - 21 + (19 + 2) = lo by omega) (Nat.le_of_ble_eq_true rfl) (Nat.le_of_ble_eq_true rfl) (c_81E (f := (a11 / 20)) (hF.at 10 rfl)) ?_
            intro v hh hq
            obtain ⟨rfl, ehh⟩ := hq
            rw [ehh]
            clear ehh
            refine ar_if_ne 114 79 d_79_76 (by decide) rfl (fun cc14 => ?_) (fun cc14 => ?_)
            · refine ar_iload_n 115 d_79_114 rfl rfl ?_
              refine ar_if_eq 144 118 d_79_115 (by decide) rfl (fun _ => ?_) (fun c => absurd (by decide) c)
              have hS9 : NS Z n nd nn gg C me f q u b uv h0 h D K A Y := ⟨hF, hN, hf, hn, hs, hp0, hu0⟩
              have hI9 : NI Z nn D := hI
              exact ar_ret d_79_144 rfl (⟨rfl, _, _, _, _, hS9, hI9, eq_ifF cc1 (eq_ifT cc10 (eq_ifF (nI_ne1 ha11 ey11) (bnN_eq (cl_eq ha11 ey11) (eq_ifF cc12 (eq_ifF cc13 (eq_ifT cc14 (rfl))))))), trivial⟩)
            · refine ar_aload_n 80 d_79_79 rfl rfl ?_
              refine ar_getf 83 d_79_80 rfl (ci := 9) (k := 11) rfl (hF.at 7 rfl) rfl ?_
              refine ar_iload 85 d_79_83 rfl rfl ?_
              refine ar_bipush 87 (v := 20) d_79_85 rfl (by decide) ?_
              refine ar_idiv 88 d_79_87 rfl (by decide) ?_
              refine ar_top (x' := nI (a11 / 20)) (pk_div (d := 20) (by omega) (by omega) (by omega)) ?_
              refine ar_lshr 89 d_79_88 rfl ?_
              refine ar_lconst 90 (v := 1) d_79_89 rfl (by decide) ?_
              refine ar_land 91 d_79_90 rfl ?_
              refine ar_lconst 92 (v := 0) d_79_91 rfl (by decide) ?_
              refine ar_lcmp 93 d_79_92 rfl ?_
              refine ar_if_ne 114 96 d_79_93 (by decide) rfl (fun cc15 => ?_) (fun cc15 => ?_)
              · refine ar_iload_n 115 d_79_114 rfl rfl ?_
                refine ar_if_eq 144 118 d_79_115 (by decide) rfl (fun _ => ?_) (fun c => absurd (by decide) c)
                have hS9 : NS Z n nd nn gg C me f q u b uv h0 h D K A Y := ⟨hF, hN, hf, hn, hs, hp0, hu0⟩
                have hI9 : NI Z nn D := hI
                exact ar_ret d_79_144 rfl (⟨rfl, _, _, _, _, hS9, hI9, eq_ifF cc1 (eq_ifT cc10 (eq_ifF (nI_ne1 ha11 ey11) (bnN_eq (cl_eq ha11 ey11) (eq_ifF cc12 (eq_ifF cc13 (eq_ifF cc14 (eq_ifT cc15 (rfl)))))))), trivial⟩)
              · refine ar_aload_n 97 d_79_96 rfl rfl ?_
                refine ar_dup 98 d_79_97 rfl rfl ?_
                refine ar_getf 101 d_79_98 rfl (ci := 9) (k := 11) rfl (hF.at 7 rfl) rfl ?_
                refine ar_lconst 102 (v := 1) d_79_101 rfl (by decide) ?_
                refine ar_iload 104 d_79_102 rfl rfl ?_
                refine ar_bipush 106 (v := 20) d_79_104 rfl (by decide) ?_
                refine ar_idiv 107 d_79_106 rfl (by decide) ?_
                refine ar_top (x' := nI (a11 / 20)) (pk_div (d := 20) (by omega) (by omega) (by omega)) ?_
                refine ar_lshl 108 d_79_107 rfl ?_
                refine ar_lor 109 d_79_108 rfl ?_
                refine ar_putf 112 [.int me, .ref (n + 264), .ref n, .ref (nd + 10), .ref (nd + 18), .ref (nd + 8), .ref (nd + 9), .int (D 7 7), .int (D 7 8), .int (D 7 9), .int (D 7 10), .long (A ||| (1 <<< ((nI (a11 / 20)).toInt64 &&& 63))), .int (D 7 12), .int (D 7 13), .int (D 7 14)] d_79_109 rfl (ci := 9) (k := 11) rfl rfl (hF.at 7 rfl) (Nat.le_of_ble_eq_true rfl) rfl rfl rfl ?_
                replace hF : ax_hs (ax_put h (nd + 7) (.inr (9, [.int me, .ref (n + 264), .ref n, .ref (nd + 10), .ref (nd + 18), .ref (nd + 8), .ref (nd + 9), .int (D 7 7), .int (D 7 8), .int (D 7 9), .int (D 7 10), .long (A ||| (1 <<< ((nI (a11 / 20)).toInt64 &&& 63))), .int (D 7 12), .int (D 7 13), .int (D 7 14)]))) [cNd n nd me D, cDk nd D, cAr nd 2 35840 D, cAr nd 3 4096 D, cAr nd 4 32 D, cAr nd 5 280 D, cAr nd 6 280 D, (nd + 7, .inr (9, [.int me, .ref (n + 264), .ref n, .ref (nd + 10), .ref (nd + 18), .ref (nd + 8), .ref (nd + 9), .int (D 7 7), .int (D 7 8), .int (D 7 9), .int (D 7 10), .long (A ||| (1 <<< ((nI (a11 / 20)).toInt64 &&& 63))), .int (D 7 12), .int (D 7 13), .int (D 7 14)])), cAr nd 8 16 D, cAr nd 9 280 D, cTb nd gg D K, cAr nd 11 48 D, cAr nd 12 48 D, cAr nd 13 48 D, cAr nd 14 2400 D, cAr nd 15 512 D, cAr nd 16 961 D, cAr nd 17 961 D, cWk nd D, cWa nd D, cAr nd 20 612 D, cAr nd 21 1152 D, cRk n nn gg C, cOr n nn gg f] := hF.put 7 _ rfl rfl
                replace hf := hf.put (a := nd + 7) (c := .inr (9, [.int me, .ref (n + 264), .ref n, .ref (nd + 10), .ref (nd + 18), .ref (nd + 8), .ref (nd + 9), .int (D 7 7), .int (D 7 8), .int (D 7 9), .int (D 7 10), .long (A ||| (1 <<< ((nI (a11 / 20)).toInt64 &&& 63))), .int (D 7 12), .int (D 7 13), .int (D 7 14)])) (Or.inr (by omega))
                replace hN := hN.put (a := nd + 7) (c := .inr (9, [.int me, .ref (n + 264), .ref n, .ref (nd + 10), .ref (nd + 18), .ref (nd + 8), .ref (nd + 9), .int (D 7 7), .int (D 7 8), .int (D 7 9), .int (D 7 10), .long (A ||| (1 <<< ((nI (a11 / 20)).toInt64 &&& 63))), .int (D 7 12), .int (D 7 13), .int (D 7 14)])) (by omega)
                replace hn : (ax_put h (nd + 7) (.inr (9, [.int me, .ref (n + 264), .ref n, .ref (nd + 10), .ref (nd + 18), .ref (nd + 8), .ref (nd + 9), .int (D 7 7), .int (D 7 8), .int (D 7 9), .int (D 7 10), .long (A ||| (1 <<< ((nI (a11 / 20)).toInt64 &&& 63))), .int (D 7 12), .int (D 7 13), .int (D 7 14)]))).1 = h0.1 := hn
                replace hs : (ax_put h (nd + 7) (.inr (9, [.int me, .ref (n + 264), .ref n, .ref (nd + 10), .ref (nd + 18), .ref (nd + 8), .ref (nd + 9), .int (D 7 7), .int (D 7 8), .int (D 7 9), .int (D 7 10), .long (A ||| (1 <<< ((nI (a11 / 20)).toInt64 &&& 63))), .int (D 7 12), .int (D 7 13), .int (D 7 14)]))).2.1 = h0.2.1 := hs
                generalize ax_put h (nd + 7) (.inr (9, [.int me, .ref (n + 264), .ref n, .ref (nd + 10), .ref (nd + 18), .ref (nd + 8), .ref (nd + 9), .int (D 7 7), .int (D 7 8), .int (D 7 9), .int (D 7 10), .long (A ||| (1 <<< ((nI (a11 / 20)).toInt64 &&& 63))), .int (D 7 12), .int (D 7 13), .int (D 7 14)])) = hp_16 at hF hf hN hn hs ⊢
                refine ar_iconst 113 (v := 1) d_79_112 rfl (by decide) ?_
                refine ar_istore_n 114 [(0, .ref (nd + 7)), (1, .int x), (2, .int k), (3, .int 1), (4, .int (nI a11))] d_79_113 rfl (by decide) rfl ?_
                refine ar_iload_n 115 d_79_114 rfl rfl ?_
                refine ar_if_eq 144 118 d_79_115 (by decide) rfl (fun c => absurd c (by decide)) (fun _ => ?_)
                refine ar_aload_n 119 d_79_118 rfl rfl ?_
                refine ar_getf 122 d_79_119 rfl (ci := 9) (k := 2) rfl (hF.at 7 rfl) rfl ?_
                refine ar_bipush 124 (v := 6) d_79_122 rfl (by decide) ?_
                refine ar_aload_n 125 d_79_124 rfl rfl ?_
                refine ar_getf 128 d_79_125 rfl (ci := 9) (k := 0) rfl (hF.at 7 rfl) rfl ?_
                refine ar_iload_n 129 d_79_128 rfl rfl ?_
                refine ar_aload_n 130 d_79_129 rfl rfl ?_
                refine ar_getf 133 d_79_130 rfl (ci := 9) (k := 7) rfl (hF.at 7 rfl) rfl ?_
                refine ar_aload_n 134 d_79_133 rfl rfl ?_
                refine ar_getf 137 d_79_134 rfl (ci := 9) (k := 8) rfl (hF.at 7 rfl) rfl ?_
                obtain ⟨zk, za, zc, hnet⟩ := hN.net
                refine ar_call (r := []) (na := 0) (kd := 0) (cm := 36) (fr2 := fr - 1) (lo2 := lo - 26) 140 d_79_137 (ar_hoV (as := [.int 6, .int me, .int k, .int (D 7 7), .int (D 7 8)]) rfl rfl rfl hnet) rfl (by omega) (show lo - 26 + (19 + 7) = lo by omega) (Nat.le_of_ble_eq_true rfl) (Nat.le_of_ble_eq_true rfl) (hN.post) ?_
                intro v hp_17 hq
                obtain ⟨m, bm, hm, hmq, rfl, hmm, hed, hf2, hz1, hz2⟩ := hq
                have hNm : NTA n (n + 1) (n + 1 + 1 + 2 * m) := Or.inr (by omega)
                have hNm1 : NTA n (n + 1) (n + 1 + 1 + 2 * m + 1) := Or.inr (by omega)
                replace hF : ax_hs hp_17 [cNd n nd me D, cDk nd D, cAr nd 2 35840 D, cAr nd 3 4096 D, cAr nd 4 32 D, cAr nd 5 280 D, cAr nd 6 280 D, (nd + 7, .inr (9, [.int me, .ref (n + 264), .ref n, .ref (nd + 10), .ref (nd + 18), .ref (nd + 8), .ref (nd + 9), .int (D 7 7), .int (D 7 8), .int (D 7 9), .int (D 7 10), .long (A ||| (1 <<< ((nI (a11 / 20)).toInt64 &&& 63))), .int (D 7 12), .int (D 7 13), .int (D 7 14)])), cAr nd 8 16 D, cAr nd 9 280 D, cTb nd gg D K, cAr nd 11 48 D, cAr nd 12 48 D, cAr nd 13 48 D, cAr nd 14 2400 D, cAr nd 15 512 D, cAr nd 16 961 D, cAr nd 17 961 D, cWk nd D, cWa nd D, cAr nd 20 612 D, cAr nd 21 1152 D, cRk n nn gg C, cOr n nn gg f] := hF.fr hf2 (far (n := n) (nd := nd) rfl hnd)
                replace hF : ax_hs hp_17 [(n + 1 + 1 + 2 * m, .inr (2, [.int 6, .int me, .int k, .int (D 7 7), .int (D 7 8), .int (-1), .int 0, .int 0, .ref (n + 1 + 1 + 2 * m + 1)])), (n + 1 + 1 + 2 * m + 1, .inl (0, 617, .inl bm)), cNd n nd me D, cDk nd D, cAr nd 2 35840 D, cAr nd 3 4096 D, cAr nd 4 32 D, cAr nd 5 280 D, cAr nd 6 280 D, (nd + 7, .inr (9, [.int me, .ref (n + 264), .ref n, .ref (nd + 10), .ref (nd + 18), .ref (nd + 8), .ref (nd + 9), .int (D 7 7), .int (D 7 8), .int (D 7 9), .int (D 7 10), .long (A ||| (1 <<< ((nI (a11 / 20)).toInt64 &&& 63))), .int (D 7 12), .int (D 7 13), .int (D 7 14)])), cAr nd 8 16 D, cAr nd 9 280 D, cTb nd gg D K, cAr nd 11 48 D, cAr nd 12 48 D, cAr nd 13 48 D, cAr nd 14 2400 D, cAr nd 15 512 D, cAr nd 16 961 D, cAr nd 17 961 D, cWk nd D, cWa nd D, cAr nd 20 612 D, cAr nd 21 1152 D, cRk n nn gg C, cOr n nn gg f] := hF.msg (far (n := n) (nd := nd) rfl hnd) hm hmm
                replace hf := hf.trC hf2 (fun _ _ z => Or.inl z)
                replace hn : hp_17.1 = h0.1 := by omega
                replace hs : hp_17.2.1 = h0.2.1 := by omega
                have hfm : ax_fr (fun x => x = n + 1 + 1 + 2 * m ∨ x = n + 1 + 1 + 2 * m + 1) hp_17 hp_17 := ax_fr.rf
                clear hN hnet hf2 hz1 hz2 hmm
                refine ar_iload_n 141 d_79_140 rfl rfl ?_
                refine ar_putf 144 [.int 6, .int me, .int k, .int (D 7 7), .int (D 7 8), .int x, .int 0, .int 0, .ref (n + 1 + 1 + 2 * m + 1)] d_79_141 rfl (ci := 2) (k := 5) rfl rfl (hF.at 0 rfl) (Nat.le_of_ble_eq_true rfl) rfl rfl rfl ?_
                replace hF : ax_hs (ax_put hp_17 (n + 1 + 1 + 2 * m) (.inr (2, [.int 6, .int me, .int k, .int (D 7 7), .int (D 7 8), .int x, .int 0, .int 0, .ref (n + 1 + 1 + 2 * m + 1)]))) [(n + 1 + 1 + 2 * m, .inr (2, [.int 6, .int me, .int k, .int (D 7 7), .int (D 7 8), .int x, .int 0, .int 0, .ref (n + 1 + 1 + 2 * m + 1)])), (n + 1 + 1 + 2 * m + 1, .inl (0, 617, .inl bm)), cNd n nd me D, cDk nd D, cAr nd 2 35840 D, cAr nd 3 4096 D, cAr nd 4 32 D, cAr nd 5 280 D, cAr nd 6 280 D, (nd + 7, .inr (9, [.int me, .ref (n + 264), .ref n, .ref (nd + 10), .ref (nd + 18), .ref (nd + 8), .ref (nd + 9), .int (D 7 7), .int (D 7 8), .int (D 7 9), .int (D 7 10), .long (A ||| (1 <<< ((nI (a11 / 20)).toInt64 &&& 63))), .int (D 7 12), .int (D 7 13), .int (D 7 14)])), cAr nd 8 16 D, cAr nd 9 280 D, cTb nd gg D K, cAr nd 11 48 D, cAr nd 12 48 D, cAr nd 13 48 D, cAr nd 14 2400 D, cAr nd 15 512 D, cAr nd 16 961 D, cAr nd 17 961 D, cWk nd D, cWa nd D, cAr nd 20 612 D, cAr nd 21 1152 D, cRk n nn gg C, cOr n nn gg f] := hF.put 0 _ rfl rfl
                replace hf := hf.put (a := n + 1 + 1 + 2 * m) (c := .inr (2, [.int 6, .int me, .int k, .int (D 7 7), .int (D 7 8), .int x, .int 0, .int 0, .ref (n + 1 + 1 + 2 * m + 1)])) (Or.inl hNm)
                replace hfm := hfm.put (a := n + 1 + 1 + 2 * m) (c := .inr (2, [.int 6, .int me, .int k, .int (D 7 7), .int (D 7 8), .int x, .int 0, .int 0, .ref (n + 1 + 1 + 2 * m + 1)])) (Or.inl rfl)
                replace hn : (ax_put hp_17 (n + 1 + 1 + 2 * m) (.inr (2, [.int 6, .int me, .int k, .int (D 7 7), .int (D 7 8), .int x, .int 0, .int 0, .ref (n + 1 + 1 + 2 * m + 1)]))).1 = h0.1 := hn
                replace hs : (ax_put hp_17 (n + 1 + 1 + 2 * m) (.inr (2, [.int 6, .int me, .int k, .int (D 7 7), .int (D 7 8), .int x, .int 0, .int 0, .ref (n + 1 + 1 + 2 * m + 1)]))).2.1 = h0.2.1 := hs
                generalize ax_put hp_17 (n + 1 + 1 + 2 * m) (.inr (2, [.int 6, .int me, .int k, .int (D 7 7), .int (D 7 8), .int x, .int 0, .int 0, .ref (n + 1 + 1 + 2 * m + 1)])) = hp_18 at hF hf hfm hn hs ⊢
                have hN : NeT Z hp_18 n q u b (pst Y (va_up (mg 6 me k (D 7 7) (D 7 8)) 5 x, fun _ => 0)) := hed _ (va_up (mg 6 me k (D 7 7) (D 7 8)) 5 x) bm _ hfm ⟨hF.at 0 rfl, hF.at 1 rfl⟩ (MI.head (Or.inr (Or.inr (Or.inr (Or.inl rfl))))) (smM.head (Or.inr (Or.inr (Or.inr (Or.inl rfl)))))
                replace hF := hF.sub (F' := [cNd n nd me D, cDk nd D, cAr nd 2 35840 D, cAr nd 3 4096 D, cAr nd 4 32 D, cAr nd 5 280 D, cAr nd 6 280 D, (nd + 7, .inr (9, [.int me, .ref (n + 264), .ref n, .ref (nd + 10), .ref (nd + 18), .ref (nd + 8), .ref (nd + 9), .int (D 7 7), .int (D 7 8), .int (D 7 9), .int (D 7 10), .long (A ||| (1 <<< ((nI (a11 / 20)).toInt64 &&& 63))), .int (D 7 12), .int (D 7 13), .int (D 7 14)])), cAr nd 8 16 D, cAr nd 9 280 D, cTb nd gg D K, cAr nd 11 48 D, cAr nd 12 48 D, cAr nd 13 48 D, cAr nd 14 2400 D, cAr nd 15 512 D, cAr nd 16 961 D, cAr nd 17 961 D, cWk nd D, cWa nd D, cAr nd 20 612 D, cAr nd 21 1152 D, cRk n nn gg C, cOr n nn gg f]) [2, 3, 4, 5, 6, 7, 8, 9, 10, 11, 12, 13, 14, 15, 16, 17, 18, 19, 20, 21, 22, 23, 24, 25] rfl rfl
                clear hed hfm hNm hNm1 hm hmq
                have hS9 : NS Z n nd nn gg C me f q u b uv h0 hp_18 D K (A ||| (1 <<< ((nI (a11 / 20)).toInt64 &&& 63))) (pst Y (va_up (mg 6 me k (D 7 7) (D 7 8)) 5 x, fun _ => 0)) := ⟨hF, hN, hf, hn, hs, hp0, hu0⟩
                have hI9 : NI Z nn D := hI
                exact ar_ret d_79_144 rfl (⟨rfl, _, _, _, _, hS9, hI9, eq_ifF cc1 (eq_ifT cc10 (eq_ifF (nI_ne1 ha11 ey11) (bnN_eq (cl_eq ha11 ey11) (eq_ifF cc12 (eq_ifF cc13 (eq_ifF cc14 (eq_ifF cc15 (rfl)))))))), trivial⟩)
    · refine ar_iconst 26 (v := 1) d_79_25 rfl (by decide) ?_
      refine ar_goto 30 d_79_26 (by decide) ?_
      refine ar_istore_n 31 [(0, .ref (nd + 7)), (1, .int x), (2, .int k), (3, .int 1)] d_79_30 rfl (by decide) rfl ?_
      refine ar_aload_n 32 d_79_31 rfl rfl ?_
      refine ar_getf 35 d_79_32 rfl (ci := 9) (k := 3) rfl (hF.at 7 rfl) rfl ?_
      refine ar_iload_n 36 d_79_35 rfl rfl ?_
      refine ar_call (r := []) (na := 0) (kd := 0) (cm := 77) (fr2 := fr - 1) (lo2 := lo - 23) 39 d_79_36 (ar_hoV (as := [.int x]) rfl rfl rfl (hF.at 10 rfl)) rfl (by omega) (show lo - 23 + (19 + 4) = lo by omega) (Nat.le_of_ble_eq_true rfl) (Nat.le_of_ble_eq_true rfl) (c_77E (x := x) hI.2.1 (hF.at 10 rfl) (hF.at 15 rfl) (hF.at 16 rfl)) ?_
      intro v hh hq
      obtain ⟨rfl, ehh⟩ := hq
      rw [ehh]
      clear ehh
      rcases hI.2.1.fnd2 x with ey19 | ⟨t19, a19, ht19, hx19, ha19, ey19, hfd19⟩
      · refine ar_top (x' := -1) (ey19) ?_
        refine ar_istore 41 [(0, .ref (nd + 7)), (1, .int x), (2, .int k), (3, .int 1), (4, .int (-1))] d_79_39 rfl (by decide) rfl ?_
        refine ar_iload 43 d_79_41 rfl rfl ?_
        refine ar_if_lt 114 46 d_79_43 (by decide) rfl (fun _ => ?_) (fun c => absurd (by decide) c)
        refine ar_iload_n 115 d_79_114 rfl rfl ?_
        refine ar_if_eq 144 118 d_79_115 (by decide) rfl (fun c => absurd c (by decide)) (fun _ => ?_)
        refine ar_aload_n 119 d_79_118 rfl rfl ?_
        refine ar_getf 122 d_79_119 rfl (ci := 9) (k := 2) rfl (hF.at 7 rfl) rfl ?_
        refine ar_bipush 124 (v := 6) d_79_122 rfl (by decide) ?_
        refine ar_aload_n 125 d_79_124 rfl rfl ?_
        refine ar_getf 128 d_79_125 rfl (ci := 9) (k := 0) rfl (hF.at 7 rfl) rfl ?_
        refine ar_iload_n 129 d_79_128 rfl rfl ?_
        refine ar_aload_n 130 d_79_129 rfl rfl ?_
        refine ar_getf 133 d_79_130 rfl (ci := 9) (k := 7) rfl (hF.at 7 rfl) rfl ?_
        refine ar_aload_n 134 d_79_133 rfl rfl ?_
        refine ar_getf 137 d_79_134 rfl (ci := 9) (k := 8) rfl (hF.at 7 rfl) rfl ?_
        obtain ⟨zk, za, zc, hnet⟩ := hN.net
        refine ar_call (r := []) (na := 0) (kd := 0) (cm := 36) (fr2 := fr - 1) (lo2 := lo - 26) 140 d_79_137 (ar_hoV (as := [.int 6, .int me, .int k, .int (D 7 7), .int (D 7 8)]) rfl rfl rfl hnet) rfl (by omega) (show lo - 26 + (19 + 7) = lo by omega) (Nat.le_of_ble_eq_true rfl) (Nat.le_of_ble_eq_true rfl) (hN.post) ?_
        intro v hp_20 hq
        obtain ⟨m, bm, hm, hmq, rfl, hmm, hed, hf2, hz1, hz2⟩ := hq
        have hNm : NTA n (n + 1) (n + 1 + 1 + 2 * m) := Or.inr (by omega)
        have hNm1 : NTA n (n + 1) (n + 1 + 1 + 2 * m + 1) := Or.inr (by omega)
        replace hF : ax_hs hp_20 [cNd n nd me D, cDk nd D, cAr nd 2 35840 D, cAr nd 3 4096 D, cAr nd 4 32 D, cAr nd 5 280 D, cAr nd 6 280 D, cLd n nd me D A, cAr nd 8 16 D, cAr nd 9 280 D, cTb nd gg D K, cAr nd 11 48 D, cAr nd 12 48 D, cAr nd 13 48 D, cAr nd 14 2400 D, cAr nd 15 512 D, cAr nd 16 961 D, cAr nd 17 961 D, cWk nd D, cWa nd D, cAr nd 20 612 D, cAr nd 21 1152 D, cRk n nn gg C, cOr n nn gg f] := hF.fr hf2 (far (n := n) (nd := nd) rfl hnd)
        replace hF : ax_hs hp_20 [(n + 1 + 1 + 2 * m, .inr (2, [.int 6, .int me, .int k, .int (D 7 7), .int (D 7 8), .int (-1), .int 0, .int 0, .ref (n + 1 + 1 + 2 * m + 1)])), (n + 1 + 1 + 2 * m + 1, .inl (0, 617, .inl bm)), cNd n nd me D, cDk nd D, cAr nd 2 35840 D, cAr nd 3 4096 D, cAr nd 4 32 D, cAr nd 5 280 D, cAr nd 6 280 D, cLd n nd me D A, cAr nd 8 16 D, cAr nd 9 280 D, cTb nd gg D K, cAr nd 11 48 D, cAr nd 12 48 D, cAr nd 13 48 D, cAr nd 14 2400 D, cAr nd 15 512 D, cAr nd 16 961 D, cAr nd 17 961 D, cWk nd D, cWa nd D, cAr nd 20 612 D, cAr nd 21 1152 D, cRk n nn gg C, cOr n nn gg f] := hF.msg (far (n := n) (nd := nd) rfl hnd) hm hmm
        replace hf := hf.trC hf2 (fun _ _ z => Or.inl z)
        replace hn : hp_20.1 = h0.1 := by omega
        replace hs : hp_20.2.1 = h0.2.1 := by omega
        have hfm : ax_fr (fun x => x = n + 1 + 1 + 2 * m ∨ x = n + 1 + 1 + 2 * m + 1) hp_20 hp_20 := ax_fr.rf
        clear hN hnet hf2 hz1 hz2 hmm
        refine ar_iload_n 141 d_79_140 rfl rfl ?_
        refine ar_putf 144 [.int 6, .int me, .int k, .int (D 7 7), .int (D 7 8), .int x, .int 0, .int 0, .ref (n + 1 + 1 + 2 * m + 1)] d_79_141 rfl (ci := 2) (k := 5) rfl rfl (hF.at 0 rfl) (Nat.le_of_ble_eq_true rfl) rfl rfl rfl ?_
        replace hF : ax_hs (ax_put hp_20 (n + 1 + 1 + 2 * m) (.inr (2, [.int 6, .int me, .int k, .int (D 7 7), .int (D 7 8), .int x, .int 0, .int 0, .ref (n + 1 + 1 + 2 * m + 1)]))) [(n + 1 + 1 + 2 * m, .inr (2, [.int 6, .int me, .int k, .int (D 7 7), .int (D 7 8), .int x, .int 0, .int 0, .ref (n + 1 + 1 + 2 * m + 1)])), (n + 1 + 1 + 2 * m + 1, .inl (0, 617, .inl bm)), cNd n nd me D, cDk nd D, cAr nd 2 35840 D, cAr nd 3 4096 D, cAr nd 4 32 D, cAr nd 5 280 D, cAr nd 6 280 D, cLd n nd me D A, cAr nd 8 16 D, cAr nd 9 280 D, cTb nd gg D K, cAr nd 11 48 D, cAr nd 12 48 D, cAr nd 13 48 D, cAr nd 14 2400 D, cAr nd 15 512 D, cAr nd 16 961 D, cAr nd 17 961 D, cWk nd D, cWa nd D, cAr nd 20 612 D, cAr nd 21 1152 D, cRk n nn gg C, cOr n nn gg f] := hF.put 0 _ rfl rfl
        replace hf := hf.put (a := n + 1 + 1 + 2 * m) (c := .inr (2, [.int 6, .int me, .int k, .int (D 7 7), .int (D 7 8), .int x, .int 0, .int 0, .ref (n + 1 + 1 + 2 * m + 1)])) (Or.inl hNm)
        replace hfm := hfm.put (a := n + 1 + 1 + 2 * m) (c := .inr (2, [.int 6, .int me, .int k, .int (D 7 7), .int (D 7 8), .int x, .int 0, .int 0, .ref (n + 1 + 1 + 2 * m + 1)])) (Or.inl rfl)
        replace hn : (ax_put hp_20 (n + 1 + 1 + 2 * m) (.inr (2, [.int 6, .int me, .int k, .int (D 7 7), .int (D 7 8), .int x, .int 0, .int 0, .ref (n + 1 + 1 + 2 * m + 1)]))).1 = h0.1 := hn
        replace hs : (ax_put hp_20 (n + 1 + 1 + 2 * m) (.inr (2, [.int 6, .int me, .int k, .int (D 7 7), .int (D 7 8), .int x, .int 0, .int 0, .ref (n + 1 + 1 + 2 * m + 1)]))).2.1 = h0.2.1 := hs
        generalize ax_put hp_20 (n + 1 + 1 + 2 * m) (.inr (2, [.int 6, .int me, .int k, .int (D 7 7), .int (D 7 8), .int x, .int 0, .int 0, .ref (n + 1 + 1 + 2 * m + 1)])) = hp_21 at hF hf hfm hn hs ⊢
        have hN : NeT Z hp_21 n q u b (pst Y (va_up (mg 6 me k (D 7 7) (D 7 8)) 5 x, fun _ => 0)) := hed _ (va_up (mg 6 me k (D 7 7) (D 7 8)) 5 x) bm _ hfm ⟨hF.at 0 rfl, hF.at 1 rfl⟩ (MI.head (Or.inr (Or.inr (Or.inr (Or.inl rfl))))) (smM.head (Or.inr (Or.inr (Or.inr (Or.inl rfl)))))
        replace hF := hF.sub (F' := [cNd n nd me D, cDk nd D, cAr nd 2 35840 D, cAr nd 3 4096 D, cAr nd 4 32 D, cAr nd 5 280 D, cAr nd 6 280 D, cLd n nd me D A, cAr nd 8 16 D, cAr nd 9 280 D, cTb nd gg D K, cAr nd 11 48 D, cAr nd 12 48 D, cAr nd 13 48 D, cAr nd 14 2400 D, cAr nd 15 512 D, cAr nd 16 961 D, cAr nd 17 961 D, cWk nd D, cWa nd D, cAr nd 20 612 D, cAr nd 21 1152 D, cRk n nn gg C, cOr n nn gg f]) [2, 3, 4, 5, 6, 7, 8, 9, 10, 11, 12, 13, 14, 15, 16, 17, 18, 19, 20, 21, 22, 23, 24, 25] rfl rfl
        clear hed hfm hNm hNm1 hm hmq
        have hS9 : NS Z n nd nn gg C me f q u b uv h0 hp_21 D K A (pst Y (va_up (mg 6 me k (D 7 7) (D 7 8)) 5 x, fun _ => 0)) := ⟨hF, hN, hf, hn, hs, hp0, hu0⟩
        have hI9 : NI Z nn D := hI
        exact ar_ret d_79_144 rfl (⟨rfl, _, _, _, _, hS9, hI9, eq_ifF cc1 (eq_ifF cc10 (eq_ifT ey19 (rfl))), trivial⟩)
      · refine ar_top (x' := nI a19) (ey19) ?_
        refine ar_istore 41 [(0, .ref (nd + 7)), (1, .int x), (2, .int k), (3, .int 1), (4, .int (nI a19))] d_79_39 rfl (by decide) rfl ?_
        refine ar_iload 43 d_79_41 rfl rfl ?_
        refine ar_if_lt 114 46 d_79_43 (by decide) rfl (fun c => absurd c (nI_pos (by omega))) (fun _ => ?_)
        refine ar_iload 48 d_79_46 rfl rfl ?_
        refine ar_sipush 51 (v := 960) d_79_48 rfl (by decide) ?_
        refine ar_icmp_eq 114 54 d_79_51 (by decide) rfl (fun cc22 => ?_) (fun cc22 => ?_)
        · refine ar_iload_n 115 d_79_114 rfl rfl ?_
          refine ar_if_eq 144 118 d_79_115 (by decide) rfl (fun c => absurd c (by decide)) (fun _ => ?_)
          refine ar_aload_n 119 d_79_118 rfl rfl ?_
          refine ar_getf 122 d_79_119 rfl (ci := 9) (k := 2) rfl (hF.at 7 rfl) rfl ?_
          refine ar_bipush 124 (v := 6) d_79_122 rfl (by decide) ?_
          refine ar_aload_n 125 d_79_124 rfl rfl ?_
          refine ar_getf 128 d_79_125 rfl (ci := 9) (k := 0) rfl (hF.at 7 rfl) rfl ?_
          refine ar_iload_n 129 d_79_128 rfl rfl ?_
          refine ar_aload_n 130 d_79_129 rfl rfl ?_
          refine ar_getf 133 d_79_130 rfl (ci := 9) (k := 7) rfl (hF.at 7 rfl) rfl ?_
          refine ar_aload_n 134 d_79_133 rfl rfl ?_
          refine ar_getf 137 d_79_134 rfl (ci := 9) (k := 8) rfl (hF.at 7 rfl) rfl ?_
          obtain ⟨zk, za, zc, hnet⟩ := hN.net
          refine ar_call (r := []) (na := 0) (kd := 0) (cm := 36) (fr2 := fr - 1) (lo2 := lo - 26) 140 d_79_137 (ar_hoV (as := [.int 6, .int me, .int k, .int (D 7 7), .int (D 7 8)]) rfl rfl rfl hnet) rfl (by omega) (show lo - 26 + (19 + 7) = lo by omega) (Nat.le_of_ble_eq_true rfl) (Nat.le_of_ble_eq_true rfl) (hN.post) ?_
          intro v hp_23 hq
          obtain ⟨m, bm, hm, hmq, rfl, hmm, hed, hf2, hz1, hz2⟩ := hq
          have hNm : NTA n (n + 1) (n + 1 + 1 + 2 * m) := Or.inr (by omega)
          have hNm1 : NTA n (n + 1) (n + 1 + 1 + 2 * m + 1) := Or.inr (by omega)
          replace hF : ax_hs hp_23 [cNd n nd me D, cDk nd D, cAr nd 2 35840 D, cAr nd 3 4096 D, cAr nd 4 32 D, cAr nd 5 280 D, cAr nd 6 280 D, cLd n nd me D A, cAr nd 8 16 D, cAr nd 9 280 D, cTb nd gg D K, cAr nd 11 48 D, cAr nd 12 48 D, cAr nd 13 48 D, cAr nd 14 2400 D, cAr nd 15 512 D, cAr nd 16 961 D, cAr nd 17 961 D, cWk nd D, cWa nd D, cAr nd 20 612 D, cAr nd 21 1152 D, cRk n nn gg C, cOr n nn gg f] := hF.fr hf2 (far (n := n) (nd := nd) rfl hnd)
          replace hF : ax_hs hp_23 [(n + 1 + 1 + 2 * m, .inr (2, [.int 6, .int me, .int k, .int (D 7 7), .int (D 7 8), .int (-1), .int 0, .int 0, .ref (n + 1 + 1 + 2 * m + 1)])), (n + 1 + 1 + 2 * m + 1, .inl (0, 617, .inl bm)), cNd n nd me D, cDk nd D, cAr nd 2 35840 D, cAr nd 3 4096 D, cAr nd 4 32 D, cAr nd 5 280 D, cAr nd 6 280 D, cLd n nd me D A, cAr nd 8 16 D, cAr nd 9 280 D, cTb nd gg D K, cAr nd 11 48 D, cAr nd 12 48 D, cAr nd 13 48 D, cAr nd 14 2400 D, cAr nd 15 512 D, cAr nd 16 961 D, cAr nd 17 961 D, cWk nd D, cWa nd D, cAr nd 20 612 D, cAr nd 21 1152 D, cRk n nn gg C, cOr n nn gg f] := hF.msg (far (n := n) (nd := nd) rfl hnd) hm hmm
          replace hf := hf.trC hf2 (fun _ _ z => Or.inl z)
          replace hn : hp_23.1 = h0.1 := by omega
          replace hs : hp_23.2.1 = h0.2.1 := by omega
          have hfm : ax_fr (fun x => x = n + 1 + 1 + 2 * m ∨ x = n + 1 + 1 + 2 * m + 1) hp_23 hp_23 := ax_fr.rf
          clear hN hnet hf2 hz1 hz2 hmm
          refine ar_iload_n 141 d_79_140 rfl rfl ?_
          refine ar_putf 144 [.int 6, .int me, .int k, .int (D 7 7), .int (D 7 8), .int x, .int 0, .int 0, .ref (n + 1 + 1 + 2 * m + 1)] d_79_141 rfl (ci := 2) (k := 5) rfl rfl (hF.at 0 rfl) (Nat.le_of_ble_eq_true rfl) rfl rfl rfl ?_
          replace hF : ax_hs (ax_put hp_23 (n + 1 + 1 + 2 * m) (.inr (2, [.int 6, .int me, .int k, .int (D 7 7), .int (D 7 8), .int x, .int 0, .int 0, .ref (n + 1 + 1 + 2 * m + 1)]))) [(n + 1 + 1 + 2 * m, .inr (2, [.int 6, .int me, .int k, .int (D 7 7), .int (D 7 8), .int x, .int 0, .int 0, .ref (n + 1 + 1 + 2 * m + 1)])), (n + 1 + 1 + 2 * m + 1, .inl (0, 617, .inl bm)), cNd n nd me D, cDk nd D, cAr nd 2 35840 D, cAr nd 3 4096 D, cAr nd 4 32 D, cAr nd 5 280 D, cAr nd 6 280 D, cLd n nd me D A, cAr nd 8 16 D, cAr nd 9 280 D, cTb nd gg D K, cAr nd 11 48 D, cAr nd 12 48 D, cAr nd 13 48 D, cAr nd 14 2400 D, cAr nd 15 512 D, cAr nd 16 961 D, cAr nd 17 961 D, cWk nd D, cWa nd D, cAr nd 20 612 D, cAr nd 21 1152 D, cRk n nn gg C, cOr n nn gg f] := hF.put 0 _ rfl rfl
          replace hf := hf.put (a := n + 1 + 1 + 2 * m) (c := .inr (2, [.int 6, .int me, .int k, .int (D 7 7), .int (D 7 8), .int x, .int 0, .int 0, .ref (n + 1 + 1 + 2 * m + 1)])) (Or.inl hNm)
          replace hfm := hfm.put (a := n + 1 + 1 + 2 * m) (c := .inr (2, [.int 6, .int me, .int k, .int (D 7 7), .int (D 7 8), .int x, .int 0, .int 0, .ref (n + 1 + 1 + 2 * m + 1)])) (Or.inl rfl)
          replace hn : (ax_put hp_23 (n + 1 + 1 + 2 * m) (.inr (2, [.int 6, .int me, .int k, .int (D 7 7), .int (D 7 8), .int x, .int 0, .int 0, .ref (n + 1 + 1 + 2 * m + 1)]))).1 = h0.1 := hn
          replace hs : (ax_put hp_23 (n + 1 + 1 + 2 * m) (.inr (2, [.int 6, .int me, .int k, .int (D 7 7), .int (D 7 8), .int x, .int 0, .int 0, .ref (n + 1 + 1 + 2 * m + 1)]))).2.1 = h0.2.1 := hs
          generalize ax_put hp_23 (n + 1 + 1 + 2 * m) (.inr (2, [.int 6, .int me, .int k, .int (D 7 7), .int (D 7 8), .int x, .int 0, .int 0, .ref (n + 1 + 1 + 2 * m + 1)])) = hp_24 at hF hf hfm hn hs ⊢
          have hN : NeT Z hp_24 n q u b (pst Y (va_up (mg 6 me k (D 7 7) (D 7 8)) 5 x, fun _ => 0)) := hed _ (va_up (mg 6 me k (D 7 7) (D 7 8)) 5 x) bm _ hfm ⟨hF.at 0 rfl, hF.at 1 rfl⟩ (MI.head (Or.inr (Or.inr (Or.inr (Or.inl rfl))))) (smM.head (Or.inr (Or.inr (Or.inr (Or.inl rfl)))))
          replace hF := hF.sub (F' := [cNd n nd me D, cDk nd D, cAr nd 2 35840 D, cAr nd 3 4096 D, cAr nd 4 32 D, cAr nd 5 280 D, cAr nd 6 280 D, cLd n nd me D A, cAr nd 8 16 D, cAr nd 9 280 D, cTb nd gg D K, cAr nd 11 48 D, cAr nd 12 48 D, cAr nd 13 48 D, cAr nd 14 2400 D, cAr nd 15 512 D, cAr nd 16 961 D, cAr nd 17 961 D, cWk nd D, cWa nd D, cAr nd 20 612 D, cAr nd 21 1152 D, cRk n nn gg C, cOr n nn gg f]) [2, 3, 4, 5, 6, 7, 8, 9, 10, 11, 12, 13, 14, 15, 16, 17, 18, 19, 20, 21, 22, 23, 24, 25] rfl rfl
          clear hed hfm hNm hNm1 hm hmq
          have hS9 : NS Z n nd nn gg C me f q u b uv h0 hp_24 D K A (pst Y (va_up (mg 6 me k (D 7 7) (D 7 8)) 5 x, fun _ => 0)) := ⟨hF, hN, hf, hn, hs, hp0, hu0⟩
          have hI9 : NI Z nn D := hI
          exact ar_ret d_79_144 rfl (⟨rfl, _, _, _, _, hS9, hI9, eq_ifF cc1 (eq_ifF cc10 (eq_ifF (nI_ne1 ha19 ey19) (bnN_eq (cl_eq ha19 ey19) (eq_ifT cc22 (rfl))))), trivial⟩)
        · refine ar_iload 56 d_79_54 rfl rfl ?_
          refine ar_bipush 58 (v := 20) d_79_56 rfl (by decide) ?_
          refine ar_irem 59 d_79_58 rfl (by decide) ?_
          refine ar_top (x' := nI (a19 % 20)) (pk_rem (d := 20) (by omega) (by omega) (by omega)) ?_
          refine ar_bipush 61 (v := 19) d_79_59 rfl (by decide) ?_
          refine ar_icmp_ne 114 64 d_79_61 (by decide) rfl (fun cc25 => ?_) (fun cc25 => ?_)
          · refine ar_iload_n 115 d_79_114 rfl rfl ?_
            refine ar_if_eq 144 118 d_79_115 (by decide) rfl (fun c => absurd c (by decide)) (fun _ => ?_)
            refine ar_aload_n 119 d_79_118 rfl rfl ?_
            refine ar_getf 122 d_79_119 rfl (ci := 9) (k := 2) rfl (hF.at 7 rfl) rfl ?_
            refine ar_bipush 124 (v := 6) d_79_122 rfl (by decide) ?_
            refine ar_aload_n 125 d_79_124 rfl rfl ?_
            refine ar_getf 128 d_79_125 rfl (ci := 9) (k := 0) rfl (hF.at 7 rfl) rfl ?_
            refine ar_iload_n 129 d_79_128 rfl rfl ?_
            refine ar_aload_n 130 d_79_129 rfl rfl ?_
            refine ar_getf 133 d_79_130 rfl (ci := 9) (k := 7) rfl (hF.at 7 rfl) rfl ?_
            refine ar_aload_n 134 d_79_133 rfl rfl ?_
            refine ar_getf 137 d_79_134 rfl (ci := 9) (k := 8) rfl (hF.at 7 rfl) rfl ?_
            obtain ⟨zk, za, zc, hnet⟩ := hN.net
            refine ar_call (r := []) (na := 0) (kd := 0) (cm := 36) (fr2 := fr - 1) (lo2 := lo - 26) 140 d_79_137 (ar_hoV (as := [.int 6, .int me, .int k, .int (D 7 7), .int (D 7 8)]) rfl rfl rfl hnet) rfl (by omega) (show lo - 26 + (19 + 7) = lo by omega) (Nat.le_of_ble_eq_true rfl) (Nat.le_of_ble_eq_true rfl) (hN.post) ?_
            intro v hp_26 hq
            obtain ⟨m, bm, hm, hmq, rfl, hmm, hed, hf2, hz1, hz2⟩ := hq
            have hNm : NTA n (n + 1) (n + 1 + 1 + 2 * m) := Or.inr (by omega)
            have hNm1 : NTA n (n + 1) (n + 1 + 1 + 2 * m + 1) := Or.inr (by omega)
            replace hF : ax_hs hp_26 [cNd n nd me D, cDk nd D, cAr nd 2 35840 D, cAr nd 3 4096 D, cAr nd 4 32 D, cAr nd 5 280 D, cAr nd 6 280 D, cLd n nd me D A, cAr nd 8 16 D, cAr nd 9 280 D, cTb nd gg D K, cAr nd 11 48 D, cAr nd 12 48 D, cAr nd 13 48 D, cAr nd 14 2400 D, cAr nd 15 512 D, cAr nd 16 961 D, cAr nd 17 961 D, cWk nd D, cWa nd D, cAr nd 20 612 D, cAr nd 21 1152 D, cRk n nn gg C, cOr n nn gg f] := hF.fr hf2 (far (n := n) (nd := nd) rfl hnd)
            replace hF : ax_hs hp_26 [(n + 1 + 1 + 2 * m, .inr (2, [.int 6, .int me, .int k, .int (D 7 7), .int (D 7 8), .int (-1), .int 0, .int 0, .ref (n + 1 + 1 + 2 * m + 1)])), (n + 1 + 1 + 2 * m + 1, .inl (0, 617, .inl bm)), cNd n nd me D, cDk nd D, cAr nd 2 35840 D, cAr nd 3 4096 D, cAr nd 4 32 D, cAr nd 5 280 D, cAr nd 6 280 D, cLd n nd me D A, cAr nd 8 16 D, cAr nd 9 280 D, cTb nd gg D K, cAr nd 11 48 D, cAr nd 12 48 D, cAr nd 13 48 D, cAr nd 14 2400 D, cAr nd 15 512 D, cAr nd 16 961 D, cAr nd 17 961 D, cWk nd D, cWa nd D, cAr nd 20 612 D, cAr nd 21 1152 D, cRk n nn gg C, cOr n nn gg f] := hF.msg (far (n := n) (nd := nd) rfl hnd) hm hmm
            replace hf := hf.trC hf2 (fun _ _ z => Or.inl z)
            replace hn : hp_26.1 = h0.1 := by omega
            replace hs : hp_26.2.1 = h0.2.1 := by omega
            have hfm : ax_fr (fun x => x = n + 1 + 1 + 2 * m ∨ x = n + 1 + 1 + 2 * m + 1) hp_26 hp_26 := ax_fr.rf
            clear hN hnet hf2 hz1 hz2 hmm
            refine ar_iload_n 141 d_79_140 rfl rfl ?_
            refine ar_putf 144 [.int 6, .int me, .int k, .int (D 7 7), .int (D 7 8), .int x, .int 0, .int 0, .ref (n + 1 + 1 + 2 * m + 1)] d_79_141 rfl (ci := 2) (k := 5) rfl rfl (hF.at 0 rfl) (Nat.le_of_ble_eq_true rfl) rfl rfl rfl ?_
            replace hF : ax_hs (ax_put hp_26 (n + 1 + 1 + 2 * m) (.inr (2, [.int 6, .int me, .int k, .int (D 7 7), .int (D 7 8), .int x, .int 0, .int 0, .ref (n + 1 + 1 + 2 * m + 1)]))) [(n + 1 + 1 + 2 * m, .inr (2, [.int 6, .int me, .int k, .int (D 7 7), .int (D 7 8), .int x, .int 0, .int 0, .ref (n + 1 + 1 + 2 * m + 1)])), (n + 1 + 1 + 2 * m + 1, .inl (0, 617, .inl bm)), cNd n nd me D, cDk nd D, cAr nd 2 35840 D, cAr nd 3 4096 D, cAr nd 4 32 D, cAr nd 5 280 D, cAr nd 6 280 D, cLd n nd me D A, cAr nd 8 16 D, cAr nd 9 280 D, cTb nd gg D K, cAr nd 11 48 D, cAr nd 12 48 D, cAr nd 13 48 D, cAr nd 14 2400 D, cAr nd 15 512 D, cAr nd 16 961 D, cAr nd 17 961 D, cWk nd D, cWa nd D, cAr nd 20 612 D, cAr nd 21 1152 D, cRk n nn gg C, cOr n nn gg f] := hF.put 0 _ rfl rfl
            replace hf := hf.put (a := n + 1 + 1 + 2 * m) (c := .inr (2, [.int 6, .int me, .int k, .int (D 7 7), .int (D 7 8), .int x, .int 0, .int 0, .ref (n + 1 + 1 + 2 * m + 1)])) (Or.inl hNm)
            replace hfm := hfm.put (a := n + 1 + 1 + 2 * m) (c := .inr (2, [.int 6, .int me, .int k, .int (D 7 7), .int (D 7 8), .int x, .int 0, .int 0, .ref (n + 1 + 1 + 2 * m + 1)])) (Or.inl rfl)
            replace hn : (ax_put hp_26 (n + 1 + 1 + 2 * m) (.inr (2, [.int 6, .int me, .int k, .int (D 7 7), .int (D 7 8), .int x, .int 0, .int 0, .ref (n + 1 + 1 + 2 * m + 1)]))).1 = h0.1 := hn
            replace hs : (ax_put hp_26 (n + 1 + 1 + 2 * m) (.inr (2, [.int 6, .int me, .int k, .int (D 7 7), .int (D 7 8), .int x, .int 0, .int 0, .ref (n + 1 + 1 + 2 * m + 1)]))).2.1 = h0.2.1 := hs
            generalize ax_put hp_26 (n + 1 + 1 + 2 * m) (.inr (2, [.int 6, .int me, .int k, .int (D 7 7), .int (D 7 8), .int x, .int 0, .int 0, .ref (n + 1 + 1 + 2 * m + 1)])) = hp_27 at hF hf hfm hn hs ⊢
            have hN : NeT Z hp_27 n q u b (pst Y (va_up (mg 6 me k (D 7 7) (D 7 8)) 5 x, fun _ => 0)) := hed _ (va_up (mg 6 me k (D 7 7) (D 7 8)) 5 x) bm _ hfm ⟨hF.at 0 rfl, hF.at 1 rfl⟩ (MI.head (Or.inr (Or.inr (Or.inr (Or.inl rfl))))) (smM.head (Or.inr (Or.inr (Or.inr (Or.inl rfl)))))
            replace hF := hF.sub (F' := [cNd n nd me D, cDk nd D, cAr nd 2 35840 D, cAr nd 3 4096 D, cAr nd 4 32 D, cAr nd 5 280 D, cAr nd 6 280 D, cLd n nd me D A, cAr nd 8 16 D, cAr nd 9 280 D, cTb nd gg D K, cAr nd 11 48 D, cAr nd 12 48 D, cAr nd 13 48 D, cAr nd 14 2400 D, cAr nd 15 512 D, cAr nd 16 961 D, cAr nd 17 961 D, cWk nd D, cWa nd D, cAr nd 20 612 D, cAr nd 21 1152 D, cRk n nn gg C, cOr n nn gg f]) [2, 3, 4, 5, 6, 7, 8, 9, 10, 11, 12, 13, 14, 15, 16, 17, 18, 19, 20, 21, 22, 23, 24, 25] rfl rfl
            clear hed hfm hNm hNm1 hm hmq
            have hS9 : NS Z n nd nn gg C me f q u b uv h0 hp_27 D K A (pst Y (va_up (mg 6 me k (D 7 7) (D 7 8)) 5 x, fun _ => 0)) := ⟨hF, hN, hf, hn, hs, hp0, hu0⟩
            have hI9 : NI Z nn D := hI
            exact ar_ret d_79_144 rfl (⟨rfl, _, _, _, _, hS9, hI9, eq_ifF cc1 (eq_ifF cc10 (eq_ifF (nI_ne1 ha19 ey19) (bnN_eq (cl_eq ha19 ey19) (eq_ifF cc22 (eq_ifT cc25 (rfl)))))), trivial⟩)
          · refine ar_aload_n 65 d_79_64 rfl rfl ?_
            refine ar_getf 68 d_79_65 rfl (ci := 9) (k := 3) rfl (hF.at 7 rfl) rfl ?_
            refine ar_iload 70 d_79_68 rfl rfl ?_
            refine ar_bipush 72 (v := 20) d_79_70 rfl (by decide) ?_
            refine ar_idiv 73 d_79_72 rfl (by decide) ?_
            refine ar_top (x' := nI (a19 / 20)) (pk_div (d := 20) (by omega) (by omega) (by omega)) ?_
            refine ar_call (r := []) (na := 0) (kd := 0) (cm := 81) (fr2 := fr - 1) (lo2 := lo - 21) 76 d_79_73 (ar_hoV (as := [.int (nI (a19 / 20))]) rfl rfl rfl (hF.at 10 rfl)) rfl (by omega) (show lo - 21 + (19 + 2) = lo by omega) (Nat.le_of_ble_eq_true rfl) (Nat.le_of_ble_eq_true rfl) (c_81E (f := (a19 / 20)) (hF.at 10 rfl)) ?_
            intro v hh hq
            obtain ⟨rfl, ehh⟩ := hq
            rw [ehh]
            clear ehh
            refine ar_if_ne 114 79 d_79_76 (by decide) rfl (fun cc28 => ?_) (fun cc28 => ?_)
            · refine ar_iload_n 115 d_79_114 rfl rfl ?_
              refine ar_if_eq 144 118 d_79_115 (by decide) rfl (fun c => absurd c (by decide)) (fun _ => ?_)
              refine ar_aload_n 119 d_79_118 rfl rfl ?_
              refine ar_getf 122 d_79_119 rfl (ci := 9) (k := 2) rfl (hF.at 7 rfl) rfl ?_
              refine ar_bipush 124 (v := 6) d_79_122 rfl (by decide) ?_
              refine ar_aload_n 125 d_79_124 rfl rfl ?_
              refine ar_getf 128 d_79_125 rfl (ci := 9) (k := 0) rfl (hF.at 7 rfl) rfl ?_
              refine ar_iload_n 129 d_79_128 rfl rfl ?_
              refine ar_aload_n 130 d_79_129 rfl rfl ?_
              refine ar_getf 133 d_79_130 rfl (ci := 9) (k := 7) rfl (hF.at 7 rfl) rfl ?_
              refine ar_aload_n 134 d_79_133 rfl rfl ?_
              refine ar_getf 137 d_79_134 rfl (ci := 9) (k := 8) rfl (hF.at 7 rfl) rfl ?_
              obtain ⟨zk, za, zc, hnet⟩ := hN.net
              refine ar_call (r := []) (na := 0) (kd := 0) (cm := 36) (fr2 := fr - 1) (lo2 := lo - 26) 140 d_79_137 (ar_hoV (as := [.int 6, .int me, .int k, .int (D 7 7), .int (D 7 8)]) rfl rfl rfl hnet) rfl (by omega) (show lo - 26 + (19 + 7) = lo by omega) (Nat.le_of_ble_eq_true rfl) (Nat.le_of_ble_eq_true rfl) (hN.post) ?_
              intro v hp_29 hq
              obtain ⟨m, bm, hm, hmq, rfl, hmm, hed, hf2, hz1, hz2⟩ := hq
              have hNm : NTA n (n + 1) (n + 1 + 1 + 2 * m) := Or.inr (by omega)
              have hNm1 : NTA n (n + 1) (n + 1 + 1 + 2 * m + 1) := Or.inr (by omega)
              replace hF : ax_hs hp_29 [cNd n nd me D, cDk nd D, cAr nd 2 35840 D, cAr nd 3 4096 D, cAr nd 4 32 D, cAr nd 5 280 D, cAr nd 6 280 D, cLd n nd me D A, cAr nd 8 16 D, cAr nd 9 280 D, cTb nd gg D K, cAr nd 11 48 D, cAr nd 12 48 D, cAr nd 13 48 D, cAr nd 14 2400 D, cAr nd 15 512 D, cAr nd 16 961 D, cAr nd 17 961 D, cWk nd D, cWa nd D, cAr nd 20 612 D, cAr nd 21 1152 D, cRk n nn gg C, cOr n nn gg f] := hF.fr hf2 (far (n := n) (nd := nd) rfl hnd)
              replace hF : ax_hs hp_29 [(n + 1 + 1 + 2 * m, .inr (2, [.int 6, .int me, .int k, .int (D 7 7), .int (D 7 8), .int (-1), .int 0, .int 0, .ref (n + 1 + 1 + 2 * m + 1)])), (n + 1 + 1 + 2 * m + 1, .inl (0, 617, .inl bm)), cNd n nd me D, cDk nd D, cAr nd 2 35840 D, cAr nd 3 4096 D, cAr nd 4 32 D, cAr nd 5 280 D, cAr nd 6 280 D, cLd n nd me D A, cAr nd 8 16 D, cAr nd 9 280 D, cTb nd gg D K, cAr nd 11 48 D, cAr nd 12 48 D, cAr nd 13 48 D, cAr nd 14 2400 D, cAr nd 15 512 D, cAr nd 16 961 D, cAr nd 17 961 D, cWk nd D, cWa nd D, cAr nd 20 612 D, cAr nd 21 1152 D, cRk n nn gg C, cOr n nn gg f] := hF.msg (far (n := n) (nd := nd) rfl hnd) hm hmm
              replace hf := hf.trC hf2 (fun _ _ z => Or.inl z)
              replace hn : hp_29.1 = h0.1 := by omega
              replace hs : hp_29.2.1 = h0.2.1 := by omega
              have hfm : ax_fr (fun x => x = n + 1 + 1 + 2 * m ∨ x = n + 1 + 1 + 2 * m + 1) hp_29 hp_29 := ax_fr.rf
              clear hN hnet hf2 hz1 hz2 hmm
              refine ar_iload_n 141 d_79_140 rfl rfl ?_
              refine ar_putf 144 [.int 6, .int me, .int k, .int (D 7 7), .int (D 7 8), .int x, .int 0, .int 0, .ref (n + 1 + 1 + 2 * m + 1)] d_79_141 rfl (ci := 2) (k := 5) rfl rfl (hF.at 0 rfl) (Nat.le_of_ble_eq_true rfl) rfl rfl rfl ?_
              replace hF : ax_hs (ax_put hp_29 (n + 1 + 1 + 2 * m) (.inr (2, [.int 6, .int me, .int k, .int (D 7 7), .int (D 7 8), .int x, .int 0, .int 0, .ref (n + 1 + 1 + 2 * m + 1)]))) [(n + 1 + 1 + 2 * m, .inr (2, [.int 6, .int me, .int k, .int (D 7 7), .int (D 7 8), .int x, .int 0, .int 0, .ref (n + 1 + 1 + 2 * m + 1)])), (n + 1 + 1 + 2 * m + 1, .inl (0, 617, .inl bm)), cNd n nd me D, cDk nd D, cAr nd 2 35840 D, cAr nd 3 4096 D, cAr nd 4 32 D, cAr nd 5 280 D, cAr nd 6 280 D, cLd n nd me D A, cAr nd 8 16 D, cAr nd 9 280 D, cTb nd gg D K, cAr nd 11 48 D, cAr nd 12 48 D, cAr nd 13 48 D, cAr nd 14 2400 D, cAr nd 15 512 D, cAr nd 16 961 D, cAr nd 17 961 D, cWk nd D, cWa nd D, cAr nd 20 612 D, cAr nd 21 1152 D, cRk n nn gg C, cOr n nn gg f] := hF.put 0 _ rfl rfl
              replace hf := hf.put (a := n + 1 + 1 + 2 * m) (c := .inr (2, [.int 6, .int me, .int k, .int (D 7 7), .int (D 7 8), .int x, .int 0, .int 0, .ref (n + 1 + 1 + 2 * m + 1)])) (Or.inl hNm)
              replace hfm := hfm.put (a := n + 1 + 1 + 2 * m) (c := .inr (2, [.int 6, .int me, .int k, .int (D 7 7), .int (D 7 8), .int x, .int 0, .int 0, .ref (n + 1 + 1 + 2 * m + 1)])) (Or.inl rfl)
              replace hn : (ax_put hp_29 (n + 1 + 1 + 2 * m) (.inr (2, [.int 6, .int me, .int k, .int (D 7 7), .int (D 7 8), .int x, .int 0, .int 0, .ref (n + 1 + 1 + 2 * m + 1)]))).1 = h0.1 := hn
              replace hs : (ax_put hp_29 (n + 1 + 1 + 2 * m) (.inr (2, [.int 6, .int me, .int k, .int (D 7 7), .int (D 7 8), .int x, .int 0, .int 0, .ref (n + 1 + 1 + 2 * m + 1)]))).2.1 = h0.2.1 := hs
              generalize ax_put hp_29 (n + 1 + 1 + 2 * m) (.inr (2, [.int 6, .int me, .int k, .int (D 7 7), .int (D 7 8), .int x, .int 0, .int 0, .ref (n + 1 + 1 + 2 * m + 1)])) = hp_30 at hF hf hfm hn hs ⊢
              have hN : NeT Z hp_30 n q u b (pst Y (va_up (mg 6 me k (D 7 7) (D 7 8)) 5 x, fun _ => 0)) := hed _ (va_up (mg 6 me k (D 7 7) (D 7 8)) 5 x) bm _ hfm ⟨hF.at 0 rfl, hF.at 1 rfl⟩ (MI.head (Or.inr (Or.inr (Or.inr (Or.inl rfl))))) (smM.head (Or.inr (Or.inr (Or.inr (Or.inl rfl)))))
              replace hF := hF.sub (F' := [cNd n nd me D, cDk nd D, cAr nd 2 35840 D, cAr nd 3 4096 D, cAr nd 4 32 D, cAr nd 5 280 D, cAr nd 6 280 D, cLd n nd me D A, cAr nd 8 16 D, cAr nd 9 280 D, cTb nd gg D K, cAr nd 11 48 D, cAr nd 12 48 D, cAr nd 13 48 D, cAr nd 14 2400 D, cAr nd 15 512 D, cAr nd 16 961 D, cAr nd 17 961 D, cWk nd D, cWa nd D, cAr nd 20 612 D, cAr nd 21 1152 D, cRk n nn gg C, cOr n nn gg f]) [2, 3, 4, 5, 6, 7, 8, 9, 10, 11, 12, 13, 14, 15, 16, 17, 18, 19, 20, 21, 22, 23, 24, 25] rfl rfl
              clear hed hfm hNm hNm1 hm hmq
              have hS9 : NS Z n nd nn gg C me f q u b uv h0 hp_30 D K A (pst Y (va_up (mg 6 me k (D 7 7) (D 7 8)) 5 x, fun _ => 0)) := ⟨hF, hN, hf, hn, hs, hp0, hu0⟩
              have hI9 : NI Z nn D := hI
              exact ar_ret d_79_144 rfl (⟨rfl, _, _, _, _, hS9, hI9, eq_ifF cc1 (eq_ifF cc10 (eq_ifF (nI_ne1 ha19 ey19) (bnN_eq (cl_eq ha19 ey19) (eq_ifF cc22 (eq_ifF cc25 (eq_ifT cc28 (rfl))))))), trivial⟩)
            · refine ar_aload_n 80 d_79_79 rfl rfl ?_
              refine ar_getf 83 d_79_80 rfl (ci := 9) (k := 11) rfl (hF.at 7 rfl) rfl ?_
              refine ar_iload 85 d_79_83 rfl rfl ?_
              refine ar_bipush 87 (v := 20) d_79_85 rfl (by decide) ?_
              refine ar_idiv 88 d_79_87 rfl (by decide) ?_
              refine ar_top (x' := nI (a19 / 20)) (pk_div (d := 20) (by omega) (by omega) (by omega)) ?_
              refine ar_lshr 89 d_79_88 rfl ?_
              refine ar_lconst 90 (v := 1) d_79_89 rfl (by decide) ?_
              refine ar_land 91 d_79_90 rfl ?_
              refine ar_lconst 92 (v := 0) d_79_91 rfl (by decide) ?_
              refine ar_lcmp 93 d_79_92 rfl ?_
              refine ar_if_ne 114 96 d_79_93 (by decide) rfl (fun cc31 => ?_) (fun cc31 => ?_)
              · refine ar_iload_n 115 d_79_114 rfl rfl ?_
                refine ar_if_eq 144 118 d_79_115 (by decide) rfl (fun c => absurd c (by decide)) (fun _ => ?_)
                refine ar_aload_n 119 d_79_118 rfl rfl ?_
                refine ar_getf 122 d_79_119 rfl (ci := 9) (k := 2) rfl (hF.at 7 rfl) rfl ?_
                refine ar_bipush 124 (v := 6) d_79_122 rfl (by decide) ?_
                refine ar_aload_n 125 d_79_124 rfl rfl ?_
                refine ar_getf 128 d_79_125 rfl (ci := 9) (k := 0) rfl (hF.at 7 rfl) rfl ?_
                refine ar_iload_n 129 d_79_128 rfl rfl ?_
                refine ar_aload_n 130 d_79_129 rfl rfl ?_
                refine ar_getf 133 d_79_130 rfl (ci := 9) (k := 7) rfl (hF.at 7 rfl) rfl ?_
                refine ar_aload_n 134 d_79_133 rfl rfl ?_
                refine ar_getf 137 d_79_134 rfl (ci := 9) (k := 8) rfl (hF.at 7 rfl) rfl ?_
                obtain ⟨zk, za, zc, hnet⟩ := hN.net
                refine ar_call (r := []) (na := 0) (kd := 0) (cm := 36) (fr2 := fr - 1) (lo2 := lo - 26) 140 d_79_137 (ar_hoV (as := [.int 6, .int me, .int k, .int (D 7 7), .int (D 7 8)]) rfl rfl rfl hnet) rfl (by omega) (show lo - 26 + (19 + 7) = lo by omega) (Nat.le_of_ble_eq_true rfl) (Nat.le_of_ble_eq_true rfl) (hN.post) ?_
                intro v hp_32 hq
                obtain ⟨m, bm, hm, hmq, rfl, hmm, hed, hf2, hz1, hz2⟩ := hq
                have hNm : NTA n (n + 1) (n + 1 + 1 + 2 * m) := Or.inr (by omega)
                have hNm1 : NTA n (n + 1) (n + 1 + 1 + 2 * m + 1) := Or.inr (by omega)
                replace hF : ax_hs hp_32 [cNd n nd me D, cDk nd D, cAr nd 2 35840 D, cAr nd 3 4096 D, cAr nd 4 32 D, cAr nd 5 280 D, cAr nd 6 280 D, cLd n nd me D A, cAr nd 8 16 D, cAr nd 9 280 D, cTb nd gg D K, cAr nd 11 48 D, cAr nd 12 48 D, cAr nd 13 48 D, cAr nd 14 2400 D, cAr nd 15 512 D, cAr nd 16 961 D, cAr nd 17 961 D, cWk nd D, cWa nd D, cAr nd 20 612 D, cAr nd 21 1152 D, cRk n nn gg C, cOr n nn gg f] := hF.fr hf2 (far (n := n) (nd := nd) rfl hnd)
                replace hF : ax_hs hp_32 [(n + 1 + 1 + 2 * m, .inr (2, [.int 6, .int me, .int k, .int (D 7 7), .int (D 7 8), .int (-1), .int 0, .int 0, .ref (n + 1 + 1 + 2 * m + 1)])), (n + 1 + 1 + 2 * m + 1, .inl (0, 617, .inl bm)), cNd n nd me D, cDk nd D, cAr nd 2 35840 D, cAr nd 3 4096 D, cAr nd 4 32 D, cAr nd 5 280 D, cAr nd 6 280 D, cLd n nd me D A, cAr nd 8 16 D, cAr nd 9 280 D, cTb nd gg D K, cAr nd 11 48 D, cAr nd 12 48 D, cAr nd 13 48 D, cAr nd 14 2400 D, cAr nd 15 512 D, cAr nd 16 961 D, cAr nd 17 961 D, cWk nd D, cWa nd D, cAr nd 20 612 D, cAr nd 21 1152 D, cRk n nn gg C, cOr n nn gg f] := hF.msg (far (n := n) (nd := nd) rfl hnd) hm hmm
                replace hf := hf.trC hf2 (fun _ _ z => Or.inl z)
                replace hn : hp_32.1 = h0.1 := by omega
                replace hs : hp_32.2.1 = h0.2.1 := by omega
                have hfm : ax_fr (fun x => x = n + 1 + 1 + 2 * m ∨ x = n + 1 + 1 + 2 * m + 1) hp_32 hp_32 := ax_fr.rf
                clear hN hnet hf2 hz1 hz2 hmm
                refine ar_iload_n 141 d_79_140 rfl rfl ?_
                refine ar_putf 144 [.int 6, .int me, .int k, .int (D 7 7), .int (D 7 8), .int x, .int 0, .int 0, .ref (n + 1 + 1 + 2 * m + 1)] d_79_141 rfl (ci := 2) (k := 5) rfl rfl (hF.at 0 rfl) (Nat.le_of_ble_eq_true rfl) rfl rfl rfl ?_
                replace hF : ax_hs (ax_put hp_32 (n + 1 + 1 + 2 * m) (.inr (2, [.int 6, .int me, .int k, .int (D 7 7), .int (D 7 8), .int x, .int 0, .int 0, .ref (n + 1 + 1 + 2 * m + 1)]))) [(n + 1 + 1 + 2 * m, .inr (2, [.int 6, .int me, .int k, .int (D 7 7), .int (D 7 8), .int x, .int 0, .int 0, .ref (n + 1 + 1 + 2 * m + 1)])), (n + 1 + 1 + 2 * m + 1, .inl (0, 617, .inl bm)), cNd n nd me D, cDk nd D, cAr nd 2 35840 D, cAr nd 3 4096 D, cAr nd 4 32 D, cAr nd 5 280 D, cAr nd 6 280 D, cLd n nd me D A, cAr nd 8 16 D, cAr nd 9 280 D, cTb nd gg D K, cAr nd 11 48 D, cAr nd 12 48 D, cAr nd 13 48 D, cAr nd 14 2400 D, cAr nd 15 512 D, cAr nd 16 961 D, cAr nd 17 961 D, cWk nd D, cWa nd D, cAr nd 20 612 D, cAr nd 21 1152 D, cRk n nn gg C, cOr n nn gg f] := hF.put 0 _ rfl rfl
                replace hf := hf.put (a := n + 1 + 1 + 2 * m) (c := .inr (2, [.int 6, .int me, .int k, .int (D 7 7), .int (D 7 8), .int x, .int 0, .int 0, .ref (n + 1 + 1 + 2 * m + 1)])) (Or.inl hNm)
                replace hfm := hfm.put (a := n + 1 + 1 + 2 * m) (c := .inr (2, [.int 6, .int me, .int k, .int (D 7 7), .int (D 7 8), .int x, .int 0, .int 0, .ref (n + 1 + 1 + 2 * m + 1)])) (Or.inl rfl)
                replace hn : (ax_put hp_32 (n + 1 + 1 + 2 * m) (.inr (2, [.int 6, .int me, .int k, .int (D 7 7), .int (D 7 8), .int x, .int 0, .int 0, .ref (n + 1 + 1 + 2 * m + 1)]))).1 = h0.1 := hn
                replace hs : (ax_put hp_32 (n + 1 + 1 + 2 * m) (.inr (2, [.int 6, .int me, .int k, .int (D 7 7), .int (D 7 8), .int x, .int 0, .int 0, .ref (n + 1 + 1 + 2 * m + 1)]))).2.1 = h0.2.1 := hs
                generalize ax_put hp_32 (n + 1 + 1 + 2 * m) (.inr (2, [.int 6, .int me, .int k, .int (D 7 7), .int (D 7 8), .int x, .int 0, .int 0, .ref (n + 1 + 1 + 2 * m + 1)])) = hp_33 at hF hf hfm hn hs ⊢
                have hN : NeT Z hp_33 n q u b (pst Y (va_up (mg 6 me k (D 7 7) (D 7 8)) 5 x, fun _ => 0)) := hed _ (va_up (mg 6 me k (D 7 7) (D 7 8)) 5 x) bm _ hfm ⟨hF.at 0 rfl, hF.at 1 rfl⟩ (MI.head (Or.inr (Or.inr (Or.inr (Or.inl rfl))))) (smM.head (Or.inr (Or.inr (Or.inr (Or.inl rfl)))))
                replace hF := hF.sub (F' := [cNd n nd me D, cDk nd D, cAr nd 2 35840 D, cAr nd 3 4096 D, cAr nd 4 32 D, cAr nd 5 280 D, cAr nd 6 280 D, cLd n nd me D A, cAr nd 8 16 D, cAr nd 9 280 D, cTb nd gg D K, cAr nd 11 48 D, cAr nd 12 48 D, cAr nd 13 48 D, cAr nd 14 2400 D, cAr nd 15 512 D, cAr nd 16 961 D, cAr nd 17 961 D, cWk nd D, cWa nd D, cAr nd 20 612 D, cAr nd 21 1152 D, cRk n nn gg C, cOr n nn gg f]) [2, 3, 4, 5, 6, 7, 8, 9, 10, 11, 12, 13, 14, 15, 16, 17, 18, 19, 20, 21, 22, 23, 24, 25] rfl rfl
                clear hed hfm hNm hNm1 hm hmq
                have hS9 : NS Z n nd nn gg C me f q u b uv h0 hp_33 D K A (pst Y (va_up (mg 6 me k (D 7 7) (D 7 8)) 5 x, fun _ => 0)) := ⟨hF, hN, hf, hn, hs, hp0, hu0⟩
                have hI9 : NI Z nn D := hI
                exact ar_ret d_79_144 rfl (⟨rfl, _, _, _, _, hS9, hI9, eq_ifF cc1 (eq_ifF cc10 (eq_ifF (nI_ne1 ha19 ey19) (bnN_eq (cl_eq ha19 ey19) (eq_ifF cc22 (eq_ifF cc25 (eq_ifF cc28 (eq_ifT cc31 (rfl)))))))), trivial⟩)
              · refine ar_aload_n 97 d_79_96 rfl rfl ?_
                refine ar_dup 98 d_79_97 rfl rfl ?_
                refine ar_getf 101 d_79_98 rfl (ci := 9) (k := 11) rfl (hF.at 7 rfl) rfl ?_
                refine ar_lconst 102 (v := 1) d_79_101 rfl (by decide) ?_
                refine ar_iload 104 d_79_102 rfl rfl ?_
                refine ar_bipush 106 (v := 20) d_79_104 rfl (by decide) ?_
                refine ar_idiv 107 d_79_106 rfl (by decide) ?_
                refine ar_top (x' := nI (a19 / 20)) (pk_div (d := 20) (by omega) (by omega) (by omega)) ?_
                refine ar_lshl 108 d_79_107 rfl ?_
                refine ar_lor 109 d_79_108 rfl ?_
                refine ar_putf 112 [.int me, .ref (n + 264), .ref n, .ref (nd + 10), .ref (nd + 18), .ref (nd + 8), .ref (nd + 9), .int (D 7 7), .int (D 7 8), .int (D 7 9), .int (D 7 10), .long (A ||| (1 <<< ((nI (a19 / 20)).toInt64 &&& 63))), .int (D 7 12), .int (D 7 13), .int (D 7 14)] d_79_109 rfl (ci := 9) (k := 11) rfl rfl (hF.at 7 rfl) (Nat.le_of_ble_eq_true rfl) rfl rfl rfl ?_
                replace hF : ax_hs (ax_put h (nd + 7) (.inr (9, [.int me, .ref (n + 264), .ref n, .ref (nd + 10), .ref (nd + 18), .ref (nd + 8), .ref (nd + 9), .int (D 7 7), .int (D 7 8), .int (D 7 9), .int (D 7 10), .long (A ||| (1 <<< ((nI (a19 / 20)).toInt64 &&& 63))), .int (D 7 12), .int (D 7 13), .int (D 7 14)]))) [cNd n nd me D, cDk nd D, cAr nd 2 35840 D, cAr nd 3 4096 D, cAr nd 4 32 D, cAr nd 5 280 D, cAr nd 6 280 D, (nd + 7, .inr (9, [.int me, .ref (n + 264), .ref n, .ref (nd + 10), .ref (nd + 18), .ref (nd + 8), .ref (nd + 9), .int (D 7 7), .int (D 7 8), .int (D 7 9), .int (D 7 10), .long (A ||| (1 <<< ((nI (a19 / 20)).toInt64 &&& 63))), .int (D 7 12), .int (D 7 13), .int (D 7 14)])), cAr nd 8 16 D, cAr nd 9 280 D, cTb nd gg D K, cAr nd 11 48 D, cAr nd 12 48 D, cAr nd 13 48 D, cAr nd 14 2400 D, cAr nd 15 512 D, cAr nd 16 961 D, cAr nd 17 961 D, cWk nd D, cWa nd D, cAr nd 20 612 D, cAr nd 21 1152 D, cRk n nn gg C, cOr n nn gg f] := hF.put 7 _ rfl rfl
                replace hf := hf.put (a := nd + 7) (c := .inr (9, [.int me, .ref (n + 264), .ref n, .ref (nd + 10), .ref (nd + 18), .ref (nd + 8), .ref (nd + 9), .int (D 7 7), .int (D 7 8), .int (D 7 9), .int (D 7 10), .long (A ||| (1 <<< ((nI (a19 / 20)).toInt64 &&& 63))), .int (D 7 12), .int (D 7 13), .int (D 7 14)])) (Or.inr (by omega))
                replace hN := hN.put (a := nd + 7) (c := .inr (9, [.int me, .ref (n + 264), .ref n, .ref (nd + 10), .ref (nd + 18), .ref (nd + 8), .ref (nd + 9), .int (D 7 7), .int (D 7 8), .int (D 7 9), .int (D 7 10), .long (A ||| (1 <<< ((nI (a19 / 20)).toInt64 &&& 63))), .int (D 7 12), .int (D 7 13), .int (D 7 14)])) (by omega)
                replace hn : (ax_put h (nd + 7) (.inr (9, [.int me, .ref (n + 264), .ref n, .ref (nd + 10), .ref (nd + 18), .ref (nd + 8), .ref (nd + 9), .int (D 7 7), .int (D 7 8), .int (D 7 9), .int (D 7 10), .long (A ||| (1 <<< ((nI (a19 / 20)).toInt64 &&& 63))), .int (D 7 12), .int (D 7 13), .int (D 7 14)]))).1 = h0.1 := hn
                replace hs : (ax_put h (nd + 7) (.inr (9, [.int me, .ref (n + 264), .ref n, .ref (nd + 10), .ref (nd + 18), .ref (nd + 8), .ref (nd + 9), .int (D 7 7), .int (D 7 8), .int (D 7 9), .int (D 7 10), .long (A ||| (1 <<< ((nI (a19 / 20)).toInt64 &&& 63))), .int (D 7 12), .int (D 7 13), .int (D 7 14)]))).2.1 = h0.2.1 := hs
                generalize ax_put h (nd + 7) (.inr (9, [.int me, .ref (n + 264), .ref n, .ref (nd + 10), .ref (nd + 18), .ref (nd + 8), .ref (nd + 9), .int (D 7 7), .int (D 7 8), .int (D 7 9), .int (D 7 10), .long (A ||| (1 <<< ((nI (a19 / 20)).toInt64 &&& 63))), .int (D 7 12), .int (D 7 13), .int (D 7 14)])) = hp_34 at hF hf hN hn hs ⊢
                refine ar_iconst 113 (v := 1) d_79_112 rfl (by decide) ?_
                refine ar_istore_n 114 [(0, .ref (nd + 7)), (1, .int x), (2, .int k), (3, .int 1), (4, .int (nI a19))] d_79_113 rfl (by decide) rfl ?_
                refine ar_iload_n 115 d_79_114 rfl rfl ?_
                refine ar_if_eq 144 118 d_79_115 (by decide) rfl (fun c => absurd c (by decide)) (fun _ => ?_)
                refine ar_aload_n 119 d_79_118 rfl rfl ?_
                refine ar_getf 122 d_79_119 rfl (ci := 9) (k := 2) rfl (hF.at 7 rfl) rfl ?_
                refine ar_bipush 124 (v := 6) d_79_122 rfl (by decide) ?_
                refine ar_aload_n 125 d_79_124 rfl rfl ?_
                refine ar_getf 128 d_79_125 rfl (ci := 9) (k := 0) rfl (hF.at 7 rfl) rfl ?_
                refine ar_iload_n 129 d_79_128 rfl rfl ?_
                refine ar_aload_n 130 d_79_129 rfl rfl ?_
                refine ar_getf 133 d_79_130 rfl (ci := 9) (k := 7) rfl (hF.at 7 rfl) rfl ?_
                refine ar_aload_n 134 d_79_133 rfl rfl ?_
                refine ar_getf 137 d_79_134 rfl (ci := 9) (k := 8) rfl (hF.at 7 rfl) rfl ?_
                obtain ⟨zk, za, zc, hnet⟩ := hN.net
                refine ar_call (r := []) (na := 0) (kd := 0) (cm := 36) (fr2 := fr - 1) (lo2 := lo - 26) 140 d_79_137 (ar_hoV (as := [.int 6, .int me, .int k, .int (D 7 7), .int (D 7 8)]) rfl rfl rfl hnet) rfl (by omega) (show lo - 26 + (19 + 7) = lo by omega) (Nat.le_of_ble_eq_true rfl) (Nat.le_of_ble_eq_true rfl) (hN.post) ?_
                intro v hp_35 hq
                obtain ⟨m, bm, hm, hmq, rfl, hmm, hed, hf2, hz1, hz2⟩ := hq
                have hNm : NTA n (n + 1) (n + 1 + 1 + 2 * m) := Or.inr (by omega)
                have hNm1 : NTA n (n + 1) (n + 1 + 1 + 2 * m + 1) := Or.inr (by omega)
                replace hF : ax_hs hp_35 [cNd n nd me D, cDk nd D, cAr nd 2 35840 D, cAr nd 3 4096 D, cAr nd 4 32 D, cAr nd 5 280 D, cAr nd 6 280 D, (nd + 7, .inr (9, [.int me, .ref (n + 264), .ref n, .ref (nd + 10), .ref (nd + 18), .ref (nd + 8), .ref (nd + 9), .int (D 7 7), .int (D 7 8), .int (D 7 9), .int (D 7 10), .long (A ||| (1 <<< ((nI (a19 / 20)).toInt64 &&& 63))), .int (D 7 12), .int (D 7 13), .int (D 7 14)])), cAr nd 8 16 D, cAr nd 9 280 D, cTb nd gg D K, cAr nd 11 48 D, cAr nd 12 48 D, cAr nd 13 48 D, cAr nd 14 2400 D, cAr nd 15 512 D, cAr nd 16 961 D, cAr nd 17 961 D, cWk nd D, cWa nd D, cAr nd 20 612 D, cAr nd 21 1152 D, cRk n nn gg C, cOr n nn gg f] := hF.fr hf2 (far (n := n) (nd := nd) rfl hnd)
                replace hF : ax_hs hp_35 [(n + 1 + 1 + 2 * m, .inr (2, [.int 6, .int me, .int k, .int (D 7 7), .int (D 7 8), .int (-1), .int 0, .int 0, .ref (n + 1 + 1 + 2 * m + 1)])), (n + 1 + 1 + 2 * m + 1, .inl (0, 617, .inl bm)), cNd n nd me D, cDk nd D, cAr nd 2 35840 D, cAr nd 3 4096 D, cAr nd 4 32 D, cAr nd 5 280 D, cAr nd 6 280 D, (nd + 7, .inr (9, [.int me, .ref (n + 264), .ref n, .ref (nd + 10), .ref (nd + 18), .ref (nd + 8), .ref (nd + 9), .int (D 7 7), .int (D 7 8), .int (D 7 9), .int (D 7 10), .long (A ||| (1 <<< ((nI (a19 / 20)).toInt64 &&& 63))), .int (D 7 12), .int (D 7 13), .int (D 7 14)])), cAr nd 8 16 D, cAr nd 9 280 D, cTb nd gg D K, cAr nd 11 48 D, cAr nd 12 48 D, cAr nd 13 48 D, cAr nd 14 2400 D, cAr nd 15 512 D, cAr nd 16 961 D, cAr nd 17 961 D, cWk nd D, cWa nd D, cAr nd 20 612 D, cAr nd 21 1152 D, cRk n nn gg C, cOr n nn gg f] := hF.msg (far (n := n) (nd := nd) rfl hnd) hm hmm
                replace hf := hf.trC hf2 (fun _ _ z => Or.inl z)
                replace hn : hp_35.1 = h0.1 := by omega
                replace hs : hp_35.2.1 = h0.2.1 := by omega
                have hfm : ax_fr (fun x => x = n + 1 + 1 + 2 * m ∨ x = n + 1 + 1 + 2 * m + 1) hp_35 hp_35 := ax_fr.rf
                clear hN hnet hf2 hz1 hz2 hmm
                refine ar_iload_n 141 d_79_140 rfl rfl ?_
                refine ar_putf 144 [.int 6, .int me, .int k, .int (D 7 7), .int (D 7 8), .int x, .int 0, .int 0, .ref (n + 1 + 1 + 2 * m + 1)] d_79_141 rfl (ci := 2) (k := 5) rfl rfl (hF.at 0 rfl) (Nat.le_of_ble_eq_true rfl) rfl rfl rfl ?_
                replace hF : ax_hs (ax_put hp_35 (n + 1 + 1 + 2 * m) (.inr (2, [.int 6, .int me, .int k, .int (D 7 7), .int (D 7 8), .int x, .int 0, .int 0, .ref (n + 1 + 1 + 2 * m + 1)]))) [(n + 1 + 1 + 2 * m, .inr (2, [.int 6, .int me, .int k, .int (D 7 7), .int (D 7 8), .int x, .int 0, .int 0, .ref (n + 1 + 1 + 2 * m + 1)])), (n + 1 + 1 + 2 * m + 1, .inl (0, 617, .inl bm)), cNd n nd me D, cDk nd D, cAr nd 2 35840 D, cAr nd 3 4096 D, cAr nd 4 32 D, cAr nd 5 280 D, cAr nd 6 280 D, (nd + 7, .inr (9, [.int me, .ref (n + 264), .ref n, .ref (nd + 10), .ref (nd + 18), .ref (nd + 8), .ref (nd + 9), .int (D 7 7), .int (D 7 8), .int (D 7 9), .int (D 7 10), .long (A ||| (1 <<< ((nI (a19 / 20)).toInt64 &&& 63))), .int (D 7 12), .int (D 7 13), .int (D 7 14)])), cAr nd 8 16 D, cAr nd 9 280 D, cTb nd gg D K, cAr nd 11 48 D, cAr nd 12 48 D, cAr nd 13 48 D, cAr nd 14 2400 D, cAr nd 15 512 D, cAr nd 16 961 D, cAr nd 17 961 D, cWk nd D, cWa nd D, cAr nd 20 612 D, cAr nd 21 1152 D, cRk n nn gg C, cOr n nn gg f] := hF.put 0 _ rfl rfl
                replace hf := hf.put (a := n + 1 + 1 + 2 * m) (c := .inr (2, [.int 6, .int me, .int k, .int (D 7 7), .int (D 7 8), .int x, .int 0, .int 0, .ref (n + 1 + 1 + 2 * m + 1)])) (Or.inl hNm)
                replace hfm := hfm.put (a := n + 1 + 1 + 2 * m) (c := .inr (2, [.int 6, .int me, .int k, .int (D 7 7), .int (D 7 8), .int x, .int 0, .int 0, .ref (n + 1 + 1 + 2 * m + 1)])) (Or.inl rfl)
                replace hn : (ax_put hp_35 (n + 1 + 1 + 2 * m) (.inr (2, [.int 6, .int me, .int k, .int (D 7 7), .int (D 7 8), .int x, .int 0, .int 0, .ref (n + 1 + 1 + 2 * m + 1)]))).1 = h0.1 := hn
                replace hs : (ax_put hp_35 (n + 1 + 1 + 2 * m) (.inr (2, [.int 6, .int me, .int k, .int (D 7 7), .int (D 7 8), .int x, .int 0, .int 0, .ref (n + 1 + 1 + 2 * m + 1)]))).2.1 = h0.2.1 := hs
                generalize ax_put hp_35 (n + 1 + 1 + 2 * m) (.inr (2, [.int 6, .int me, .int k, .int (D 7 7), .int (D 7 8), .int x, .int 0, .int 0, .ref (n + 1 + 1 + 2 * m + 1)])) = hp_36 at hF hf hfm hn hs ⊢
                have hN : NeT Z hp_36 n q u b (pst Y (va_up (mg 6 me k (D 7 7) (D 7 8)) 5 x, fun _ => 0)) := hed _ (va_up (mg 6 me k (D 7 7) (D 7 8)) 5 x) bm _ hfm ⟨hF.at 0 rfl, hF.at 1 rfl⟩ (MI.head (Or.inr (Or.inr (Or.inr (Or.inl rfl))))) (smM.head (Or.inr (Or.inr (Or.inr (Or.inl rfl)))))
                replace hF := hF.sub (F' := [cNd n nd me D, cDk nd D, cAr nd 2 35840 D, cAr nd 3 4096 D, cAr nd 4 32 D, cAr nd 5 280 D, cAr nd 6 280 D, (nd + 7, .inr (9, [.int me, .ref (n + 264), .ref n, .ref (nd + 10), .ref (nd + 18), .ref (nd + 8), .ref (nd + 9), .int (D 7 7), .int (D 7 8), .int (D 7 9), .int (D 7 10), .long (A ||| (1 <<< ((nI (a19 / 20)).toInt64 &&& 63))), .int (D 7 12), .int (D 7 13), .int (D 7 14)])), cAr nd 8 16 D, cAr nd 9 280 D, cTb nd gg D K, cAr nd 11 48 D, cAr nd 12 48 D, cAr nd 13 48 D, cAr nd 14 2400 D, cAr nd 15 512 D, cAr nd 16 961 D, cAr nd 17 961 D, cWk nd D, cWa nd D, cAr nd 20 612 D, cAr nd 21 1152 D, cRk n nn gg C, cOr n nn gg f]) [2, 3, 4, 5, 6, 7, 8, 9, 10, 11, 12, 13, 14, 15, 16, 17, 18, 19, 20, 21, 22, 23, 24, 25] rfl rfl
                clear hed hfm hNm hNm1 hm hmq
                have hS9 : NS Z n nd nn gg C me f q u b uv h0 hp_36 D K (A ||| (1 <<< ((nI (a19 / 20)).toInt64 &&& 63))) (pst Y (va_up (mg 6 me k (D 7 7) (D 7 8)) 5 x, fun _ => 0)) := ⟨hF, hN, hf, hn, hs, hp0, hu0⟩
                have hI9 : NI Z nn D := hI
                exact ar_ret d_79_144 rfl (⟨rfl, _, _, _, _, hS9, hI9, eq_ifF cc1 (eq_ifF cc10 (eq_ifF (nI_ne1 ha19 ey19) (bnN_eq (cl_eq ha19 ey19) (eq_ifF cc22 (eq_ifF cc25 (eq_ifF cc28 (eq_ifF cc31 (rfl)))))))), trivial⟩)
def F_90 (nn gg : Nat) (C me : Int32) (f u b : Nat → Int32) (D : Nat → Nat → Int32) (K A : Int64) (Y : List Mg)  : St :=
  if fndI (D 15) (D 16) (u 5) = -1 then
    (D, K, A, Y)
  else
    bnN ((fndI (D 15) (D 16) (u 5)).toNatClampNeg) (fun a1 =>
      (va_up (va_up D 7 (upd (upd (D 7) 10 (scB (D 7 10) (u 1) 0)) 14 0)) 17 (upd (D 17) a1 (((D 17) a1) &&& ((1 <<< ((u 1) &&& 31)) ^^^ (-1)))), K, A, Y))
theorem s_90 {L : Nat} {xs : Nat → Int32} {fr lo : Nat} {Z : ZT} {n nd nn gg : Nat} {C me : Int32} {f : Nat → Int32} {q : Nat} {u b : Nat → Int32} {uv : Int32} {h0 h : ax_H} {D : Nat → Nat → Int32} {K A : Int64} {Y : List Mg}  (hfr : 3 ≤ fr) (hlo : 90 ≤ lo) (hC : CS n nd nn gg f) (hS : NS Z n nd nn gg C me f q u b uv h0 h D K A Y) (hI : NI Z nn D) : ax_M L xs 90 fr lo [.ref (nd + 7), .ref (n + 1 + 1 + 2 * q)] h (fun r h' => r = none ∧ PS Z n nd nn gg C me f q u b uv h0 h' (fun D' K' A' Y' => (D', K', A', Y') = F_90 nn gg C me f u b D K A Y ∧ True)) := by
  have hC0 := hC
  show ax_A (ax_step L xs) ((90, 0, fr, lo), [(0, .ref (nd + 7)), (1, .ref (n + 1 + 1 + 2 * q))], [], h) _
  obtain ⟨hnd, hn0, hnn3, hnn, hgg1, hgg, hRg⟩ := hC
  obtain ⟨hF, hN, hf, hn, hs, hp0, hu0⟩ := hS
  replace hF : ax_hs h [cNd n nd me D, cDk nd D, cAr nd 2 35840 D, cAr nd 3 4096 D, cAr nd 4 32 D, cAr nd 5 280 D, cAr nd 6 280 D, cLd n nd me D A, cAr nd 8 16 D, cAr nd 9 280 D, cTb nd gg D K, cAr nd 11 48 D, cAr nd 12 48 D, cAr nd 13 48 D, cAr nd 14 2400 D, cAr nd 15 512 D, cAr nd 16 961 D, cAr nd 17 961 D, cWk nd D, cWa nd D, cAr nd 20 612 D, cAr nd 21 1152 D, cRk n nn gg C, cOr n nn gg f] := hF
  refine ar_aload_n 1 d_90_0 rfl rfl ?_
  refine ar_getf 4 d_90_1 rfl (ci := 9) (k := 3) rfl (hF.at 7 rfl) rfl ?_
  refine ar_aload_n 5 d_90_4 rfl rfl ?_
  refine ar_getf 8 d_90_5 rfl (ci := 2) (k := 5) rfl hN.mgc rfl ?_
  refine ar_call (r := []) (na := 0) (kd := 0) (cm := 77) (fr2 := fr - 1) (lo2 := lo - 23) 11 d_90_8 (ar_hoV (as := [.int (u 5)]) rfl rfl rfl (hF.at 10 rfl)) rfl (by omega) (show lo - 23 + (19 + 4) = lo by omega) (Nat.le_of_ble_eq_true rfl) (Nat.le_of_ble_eq_true rfl) (c_77E (x := u 5) hI.2.1 (hF.at 10 rfl) (hF.at 15 rfl) (hF.at 16 rfl)) ?_
  intro v hh hq
  obtain ⟨rfl, ehh⟩ := hq
  rw [ehh]
  clear ehh
  rcases hI.2.1.fnd2 (u 5) with ey1 | ⟨t1, a1, ht1, hx1, ha1, ey1, hfd1⟩
  · refine ar_top (x' := -1) (ey1) ?_
    refine ar_istore_n 12 [(0, .ref (nd + 7)), (1, .ref (n + 1 + 1 + 2 * q)), (2, .int (-1))] d_90_11 rfl (by decide) rfl ?_
    refine ar_iload_n 13 d_90_12 rfl rfl ?_
    refine ar_if_lt 50 16 d_90_13 (by decide) rfl (fun _ => ?_) (fun c => absurd (by decide) c)
    have hS9 : NS Z n nd nn gg C me f q u b uv h0 h D K A Y := ⟨hF, hN, hf, hn, hs, hp0, hu0⟩
    have hI9 : NI Z nn D := hI
    exact ar_ret d_90_50 rfl (⟨rfl, _, _, _, _, hS9, hI9, eq_ifT ey1 (rfl), trivial⟩)
  · refine ar_top (x' := nI a1) (ey1) ?_
    refine ar_istore_n 12 [(0, .ref (nd + 7)), (1, .ref (n + 1 + 1 + 2 * q)), (2, .int (nI a1))] d_90_11 rfl (by decide) rfl ?_
    refine ar_iload_n 13 d_90_12 rfl rfl ?_
    refine ar_if_lt 50 16 d_90_13 (by decide) rfl (fun c => absurd c (nI_pos (by omega))) (fun _ => ?_)
    refine ar_aload_n 17 d_90_16 rfl rfl ?_
    refine ar_getf 20 d_90_17 rfl (ci := 9) (k := 3) rfl (hF.at 7 rfl) rfl ?_
    refine ar_getf 23 d_90_20 rfl (ci := 6) (k := 7) rfl (hF.at 10 rfl) rfl ?_
    refine ar_iload_n 24 d_90_23 rfl rfl ?_
    refine ar_dup2 25 d_90_24 rfl rfl rfl ?_
    refine ar_ialdN 26 (e := a1) d_90_25 rfl (hF.at 17 rfl) (by omega) (by omega) ?_
    refine ar_iconst 27 (v := 1) d_90_26 rfl (by decide) ?_
    refine ar_aload_n 28 d_90_27 rfl rfl ?_
    refine ar_getf 31 d_90_28 rfl (ci := 2) (k := 1) rfl hN.mgc rfl ?_
    refine ar_ishl 32 d_90_31 rfl ?_
    refine ar_iconst 33 (v := -1) d_90_32 rfl (by decide) ?_
    refine ar_ixor 34 d_90_33 rfl ?_
    refine ar_iand 35 d_90_34 rfl ?_
    refine ar_iastN 36 (e := a1) d_90_35 rfl (hF.at 17 rfl) (by omega) (by omega) ?_
    replace hF : ax_hs (ax_put h (nd + 17) (.inl (0, 961, .inl (upd (D 17) a1 (((D 17) a1) &&& ((1 <<< ((u 1) &&& 31)) ^^^ (-1))))))) [cNd n nd me D, cDk nd D, cAr nd 2 35840 D, cAr nd 3 4096 D, cAr nd 4 32 D, cAr nd 5 280 D, cAr nd 6 280 D, cLd n nd me D A, cAr nd 8 16 D, cAr nd 9 280 D, cTb nd gg D K, cAr nd 11 48 D, cAr nd 12 48 D, cAr nd 13 48 D, cAr nd 14 2400 D, cAr nd 15 512 D, cAr nd 16 961 D, (nd + 17, .inl (0, 961, .inl (upd (D 17) a1 (((D 17) a1) &&& ((1 <<< ((u 1) &&& 31)) ^^^ (-1)))))), cWk nd D, cWa nd D, cAr nd 20 612 D, cAr nd 21 1152 D, cRk n nn gg C, cOr n nn gg f] := hF.put 17 _ rfl rfl
    replace hf := hf.put (a := nd + 17) (c := .inl (0, 961, .inl (upd (D 17) a1 (((D 17) a1) &&& ((1 <<< ((u 1) &&& 31)) ^^^ (-1)))))) (Or.inr (by omega))
    replace hN := hN.put (a := nd + 17) (c := .inl (0, 961, .inl (upd (D 17) a1 (((D 17) a1) &&& ((1 <<< ((u 1) &&& 31)) ^^^ (-1)))))) (by omega)
    replace hn : (ax_put h (nd + 17) (.inl (0, 961, .inl (upd (D 17) a1 (((D 17) a1) &&& ((1 <<< ((u 1) &&& 31)) ^^^ (-1))))))).1 = h0.1 := hn
    replace hs : (ax_put h (nd + 17) (.inl (0, 961, .inl (upd (D 17) a1 (((D 17) a1) &&& ((1 <<< ((u 1) &&& 31)) ^^^ (-1))))))).2.1 = h0.2.1 := hs
    generalize ax_put h (nd + 17) (.inl (0, 961, .inl (upd (D 17) a1 (((D 17) a1) &&& ((1 <<< ((u 1) &&& 31)) ^^^ (-1)))))) = hp_2 at hF hf hN hn hs ⊢
    refine ar_aload_n 37 d_90_36 rfl rfl ?_
    refine ar_aload_n 38 d_90_37 rfl rfl ?_
    refine ar_getf 41 d_90_38 rfl (ci := 2) (k := 1) rfl hN.mgc rfl ?_
    refine ar_iconst 42 (v := 0) d_90_41 rfl (by decide) ?_
    refine ar_call (r := []) (na := 0) (kd := 0) (cm := 82) (fr2 := fr - 1) (lo2 := lo - 22) 45 d_90_42 (ar_hoV (as := [.int (u 1), .int 0]) rfl rfl rfl (hF.at 7 rfl)) rfl (by omega) (show lo - 22 + (19 + 3) = lo by omega) (Nat.le_of_ble_eq_true rfl) (Nat.le_of_ble_eq_true rfl) (c_82E (hF.at 7 rfl)) ?_
    intro v hh hq
    obtain ⟨rfl, rfl⟩ := hq
    replace hF : ax_hs (ax_put hp_2 (nd + 7) (.inr (9, [.int me, .ref (n + 264), .ref n, .ref (nd + 10), .ref (nd + 18), .ref (nd + 8), .ref (nd + 9), .int (D 7 7), .int (D 7 8), .int (D 7 9), .int (scB (D 7 10) (u 1) 0), .long A, .int (D 7 12), .int (D 7 13), .int (D 7 14)]))) [cNd n nd me D, cDk nd D, cAr nd 2 35840 D, cAr nd 3 4096 D, cAr nd 4 32 D, cAr nd 5 280 D, cAr nd 6 280 D, (nd + 7, .inr (9, [.int me, .ref (n + 264), .ref n, .ref (nd + 10), .ref (nd + 18), .ref (nd + 8), .ref (nd + 9), .int (D 7 7), .int (D 7 8), .int (D 7 9), .int (scB (D 7 10) (u 1) 0), .long A, .int (D 7 12), .int (D 7 13), .int (D 7 14)])), cAr nd 8 16 D, cAr nd 9 280 D, cTb nd gg D K, cAr nd 11 48 D, cAr nd 12 48 D, cAr nd 13 48 D, cAr nd 14 2400 D, cAr nd 15 512 D, cAr nd 16 961 D, (nd + 17, .inl (0, 961, .inl (upd (D 17) a1 (((D 17) a1) &&& ((1 <<< ((u 1) &&& 31)) ^^^ (-1)))))), cWk nd D, cWa nd D, cAr nd 20 612 D, cAr nd 21 1152 D, cRk n nn gg C, cOr n nn gg f] := hF.put 7 _ rfl rfl
    replace hf := hf.put (a := nd + 7) (c := .inr (9, [.int me, .ref (n + 264), .ref n, .ref (nd + 10), .ref (nd + 18), .ref (nd + 8), .ref (nd + 9), .int (D 7 7), .int (D 7 8), .int (D 7 9), .int (scB (D 7 10) (u 1) 0), .long A, .int (D 7 12), .int (D 7 13), .int (D 7 14)])) (Or.inr (by omega))
    replace hN := hN.put (a := nd + 7) (c := .inr (9, [.int me, .ref (n + 264), .ref n, .ref (nd + 10), .ref (nd + 18), .ref (nd + 8), .ref (nd + 9), .int (D 7 7), .int (D 7 8), .int (D 7 9), .int (scB (D 7 10) (u 1) 0), .long A, .int (D 7 12), .int (D 7 13), .int (D 7 14)])) (by omega)
    replace hn : (ax_put hp_2 (nd + 7) (.inr (9, [.int me, .ref (n + 264), .ref n, .ref (nd + 10), .ref (nd + 18), .ref (nd + 8), .ref (nd + 9), .int (D 7 7), .int (D 7 8), .int (D 7 9), .int (scB (D 7 10) (u 1) 0), .long A, .int (D 7 12), .int (D 7 13), .int (D 7 14)]))).1 = h0.1 := hn
    replace hs : (ax_put hp_2 (nd + 7) (.inr (9, [.int me, .ref (n + 264), .ref n, .ref (nd + 10), .ref (nd + 18), .ref (nd + 8), .ref (nd + 9), .int (D 7 7), .int (D 7 8), .int (D 7 9), .int (scB (D 7 10) (u 1) 0), .long A, .int (D 7 12), .int (D 7 13), .int (D 7 14)]))).2.1 = h0.2.1 := hs
    generalize ax_put hp_2 (nd + 7) (.inr (9, [.int me, .ref (n + 264), .ref n, .ref (nd + 10), .ref (nd + 18), .ref (nd + 8), .ref (nd + 9), .int (D 7 7), .int (D 7 8), .int (D 7 9), .int (scB (D 7 10) (u 1) 0), .long A, .int (D 7 12), .int (D 7 13), .int (D 7 14)])) = hp_3 at hF hf hN hn hs ⊢
    refine ar_aload_n 46 d_90_45 rfl rfl ?_
    refine ar_iconst 47 (v := 0) d_90_46 rfl (by decide) ?_
    refine ar_putf 50 [.int me, .ref (n + 264), .ref n, .ref (nd + 10), .ref (nd + 18), .ref (nd + 8), .ref (nd + 9), .int (D 7 7), .int (D 7 8), .int (D 7 9), .int (scB (D 7 10) (u 1) 0), .long A, .int (D 7 12), .int (D 7 13), .int 0] d_90_47 rfl (ci := 9) (k := 14) rfl rfl (hF.at 7 rfl) (Nat.le_of_ble_eq_true rfl) rfl rfl rfl ?_
    replace hF : ax_hs (ax_put hp_3 (nd + 7) (.inr (9, [.int me, .ref (n + 264), .ref n, .ref (nd + 10), .ref (nd + 18), .ref (nd + 8), .ref (nd + 9), .int (D 7 7), .int (D 7 8), .int (D 7 9), .int (scB (D 7 10) (u 1) 0), .long A, .int (D 7 12), .int (D 7 13), .int 0]))) [cNd n nd me D, cDk nd D, cAr nd 2 35840 D, cAr nd 3 4096 D, cAr nd 4 32 D, cAr nd 5 280 D, cAr nd 6 280 D, (nd + 7, .inr (9, [.int me, .ref (n + 264), .ref n, .ref (nd + 10), .ref (nd + 18), .ref (nd + 8), .ref (nd + 9), .int (D 7 7), .int (D 7 8), .int (D 7 9), .int (scB (D 7 10) (u 1) 0), .long A, .int (D 7 12), .int (D 7 13), .int 0])), cAr nd 8 16 D, cAr nd 9 280 D, cTb nd gg D K, cAr nd 11 48 D, cAr nd 12 48 D, cAr nd 13 48 D, cAr nd 14 2400 D, cAr nd 15 512 D, cAr nd 16 961 D, (nd + 17, .inl (0, 961, .inl (upd (D 17) a1 (((D 17) a1) &&& ((1 <<< ((u 1) &&& 31)) ^^^ (-1)))))), cWk nd D, cWa nd D, cAr nd 20 612 D, cAr nd 21 1152 D, cRk n nn gg C, cOr n nn gg f] := hF.put 7 _ rfl rfl
    replace hf := hf.put (a := nd + 7) (c := .inr (9, [.int me, .ref (n + 264), .ref n, .ref (nd + 10), .ref (nd + 18), .ref (nd + 8), .ref (nd + 9), .int (D 7 7), .int (D 7 8), .int (D 7 9), .int (scB (D 7 10) (u 1) 0), .long A, .int (D 7 12), .int (D 7 13), .int 0])) (Or.inr (by omega))
    replace hN := hN.put (a := nd + 7) (c := .inr (9, [.int me, .ref (n + 264), .ref n, .ref (nd + 10), .ref (nd + 18), .ref (nd + 8), .ref (nd + 9), .int (D 7 7), .int (D 7 8), .int (D 7 9), .int (scB (D 7 10) (u 1) 0), .long A, .int (D 7 12), .int (D 7 13), .int 0])) (by omega)
    replace hn : (ax_put hp_3 (nd + 7) (.inr (9, [.int me, .ref (n + 264), .ref n, .ref (nd + 10), .ref (nd + 18), .ref (nd + 8), .ref (nd + 9), .int (D 7 7), .int (D 7 8), .int (D 7 9), .int (scB (D 7 10) (u 1) 0), .long A, .int (D 7 12), .int (D 7 13), .int 0]))).1 = h0.1 := hn
    replace hs : (ax_put hp_3 (nd + 7) (.inr (9, [.int me, .ref (n + 264), .ref n, .ref (nd + 10), .ref (nd + 18), .ref (nd + 8), .ref (nd + 9), .int (D 7 7), .int (D 7 8), .int (D 7 9), .int (scB (D 7 10) (u 1) 0), .long A, .int (D 7 12), .int (D 7 13), .int 0]))).2.1 = h0.2.1 := hs
    generalize ax_put hp_3 (nd + 7) (.inr (9, [.int me, .ref (n + 264), .ref n, .ref (nd + 10), .ref (nd + 18), .ref (nd + 8), .ref (nd + 9), .int (D 7 7), .int (D 7 8), .int (D 7 9), .int (scB (D 7 10) (u 1) 0), .long A, .int (D 7 12), .int (D 7 13), .int 0])) = hp_4 at hF hf hN hn hs ⊢
    have hS9 : NS Z n nd nn gg C me f q u b uv h0 hp_4 (va_up (va_up D 7 (upd (upd (D 7) 10 (scB (D 7 10) (u 1) 0)) 14 0)) 17 (upd (D 17) a1 (((D 17) a1) &&& ((1 <<< ((u 1) &&& 31)) ^^^ (-1))))) K A Y := ⟨hF, hN, hf, hn, hs, hp0, hu0⟩
    have hI9 : NI Z nn (va_up (va_up D 7 (upd (upd (D 7) 10 (scB (D 7 10) (u 1) 0)) 14 0)) 17 (upd (D 17) a1 (((D 17) a1) &&& ((1 <<< ((u 1) &&& 31)) ^^^ (-1))))) := hI
    exact ar_ret d_90_50 rfl (⟨rfl, _, _, _, _, hS9, hI9, eq_ifF (nI_ne1 ha1 ey1) (bnN_eq (cl_eq ha1 ey1) (rfl)), trivial⟩)
def G_89 (nn gg : Nat) (C me : Int32) (f u b : Nat → Int32)  : Nat → Nat → (Nat → Nat → Int32) → Int64 → Int64 → List Mg → St
  | 0, i, D, K, A, Y =>
    (D, K, A, Y)
  | k + 1, i, D, K, A, Y =>
    if fndI (D 15) (D 16) (b i) = -1 then
      G_89 nn gg C me f u b k (i + 1) (va_up D 7 (upd (D 7) 10 (scB (D 7 10) (u 1) 0))) K A Y
    else
      bnN ((fndI (D 15) (D 16) (b i)).toNatClampNeg) (fun a1 =>
        G_89 nn gg C me f u b k (i + 1) (va_up D 17 (upd (D 17) a1 (((D 17) a1) ||| (1 <<< ((u 1) &&& 31))))) K A Y)
def F_89 (nn gg : Nat) (C me : Int32) (f u b : Nat → Int32) (D : Nat → Nat → Int32) (K A : Int64) (Y : List Mg)  : St :=
  bnN ((u 7).toNatClampNeg) (fun cnt =>
    G_89 nn gg C me f u b cnt 0 D K A Y)
theorem s_89 {L : Nat} {xs : Nat → Int32} {fr lo : Nat} {Z : ZT} {n nd nn gg : Nat} {C me : Int32} {f : Nat → Int32} {q : Nat} {u b : Nat → Int32} {uv : Int32} {h0 h : ax_H} {D : Nat → Nat → Int32} {K A : Int64} {Y : List Mg}  (hfr : 3 ≤ fr) (hlo : 90 ≤ lo) (hC : CS n nd nn gg f) (hS : NS Z n nd nn gg C me f q u b uv h0 h D K A Y) (hI : NI Z nn D) (hu : inR 281 (u 7)) : ax_M L xs 89 fr lo [.ref (nd + 7), .ref (n + 1 + 1 + 2 * q)] h (fun r h' => r = none ∧ PS Z n nd nn gg C me f q u b uv h0 h' (fun D' K' A' Y' => (D', K', A', Y') = F_89 nn gg C me f u b D K A Y ∧ True)) := by
  have hC0 := hC
  obtain ⟨cnt, hcnt, hu⟩ := hu
  have key : ∀ (k i : Nat) (h : ax_H) (D : Nat → Nat → Int32) (K A : Int64) (Y : List Mg), i + k = cnt → NS Z n nd nn gg C me f q u b uv h0 h D K A Y → NI Z nn D → ax_A (ax_step L xs) ((89, 2, fr, lo), [(0, .ref (nd + 7)), (1, .ref (n + 1 + 1 + 2 * q)), (2, .int (nI i))], [], h) (fun r h' => r = none ∧ PS Z n nd nn gg C me f q u b uv h0 h' (fun D' K' A' Y' => (D', K', A', Y') = G_89 nn gg C me f u b k i D K A Y ∧ True)) := by
    intro k
    induction k with
    | zero =>
      intro i h D K A Y hi hS hI
      have e0 : i = cnt := by omega
      subst e0
      obtain ⟨hnd, hn0, hnn3, hnn, hgg1, hgg, hRg⟩ := hC
      obtain ⟨hF, hN, hf, hn, hs, hp0, hu0⟩ := hS
      replace hF : ax_hs h [cNd n nd me D, cDk nd D, cAr nd 2 35840 D, cAr nd 3 4096 D, cAr nd 4 32 D, cAr nd 5 280 D, cAr nd 6 280 D, cLd n nd me D A, cAr nd 8 16 D, cAr nd 9 280 D, cTb nd gg D K, cAr nd 11 48 D, cAr nd 12 48 D, cAr nd 13 48 D, cAr nd 14 2400 D, cAr nd 15 512 D, cAr nd 16 961 D, cAr nd 17 961 D, cWk nd D, cWa nd D, cAr nd 20 612 D, cAr nd 21 1152 D, cRk n nn gg C, cOr n nn gg f] := hF
      refine ar_iload_n 3 d_89_2 rfl rfl ?_
      refine ar_aload_n 4 d_89_3 rfl rfl ?_
      refine ar_getf 7 d_89_4 rfl (ci := 2) (k := 7) rfl hN.mgc rfl ?_
      refine ar_icmp_ge 64 10 d_89_7 (by decide) rfl (fun _ => ?_) (fun c => absurd (by rw [hu]; exact Int32.le_refl _) c)
      have hS9 : NS Z n nd nn gg C me f q u b uv h0 h D K A Y := ⟨hF, hN, hf, hn, hs, hp0, hu0⟩
      have hI9 : NI Z nn D := hI
      exact ar_ret d_89_64 rfl (⟨rfl, _, _, _, _, hS9, hI9, rfl, trivial⟩)
    | succ k ih =>
      intro i h D K A Y hi hS hI
      have hic : i < cnt := by omega
      obtain ⟨hnd, hn0, hnn3, hnn, hgg1, hgg, hRg⟩ := hC
      obtain ⟨hF, hN, hf, hn, hs, hp0, hu0⟩ := hS
      replace hF : ax_hs h [cNd n nd me D, cDk nd D, cAr nd 2 35840 D, cAr nd 3 4096 D, cAr nd 4 32 D, cAr nd 5 280 D, cAr nd 6 280 D, cLd n nd me D A, cAr nd 8 16 D, cAr nd 9 280 D, cTb nd gg D K, cAr nd 11 48 D, cAr nd 12 48 D, cAr nd 13 48 D, cAr nd 14 2400 D, cAr nd 15 512 D, cAr nd 16 961 D, cAr nd 17 961 D, cWk nd D, cWa nd D, cAr nd 20 612 D, cAr nd 21 1152 D, cRk n nn gg C, cOr n nn gg f] := hF
      refine ar_iload_n 3 d_89_2 rfl rfl ?_
      refine ar_aload_n 4 d_89_3 rfl rfl ?_
      refine ar_getf 7 d_89_4 rfl (ci := 2) (k := 7) rfl hN.mgc rfl ?_
      refine ar_icmp_ge 64 10 d_89_7 (by decide) rfl (fun c => absurd c (by rw [hu]; exact nI_ge hic (by omega))) (fun _ => ?_)
      refine ar_aload_n 11 d_89_10 rfl rfl ?_
      refine ar_getf 14 d_89_11 rfl (ci := 9) (k := 3) rfl (hF.at 7 rfl) rfl ?_
      refine ar_aload_n 15 d_89_14 rfl rfl ?_
      refine ar_getf 18 d_89_15 rfl (ci := 2) (k := 8) rfl hN.mgc rfl ?_
      refine ar_iload_n 19 d_89_18 rfl rfl ?_
      refine ar_ialdN 20 (e := i) d_89_19 rfl hN.mbc (by omega) (by omega) ?_
      refine ar_call (r := []) (na := 0) (kd := 0) (cm := 77) (fr2 := fr - 1) (lo2 := lo - 23) 23 d_89_20 (ar_hoV (as := [.int (b i)]) rfl rfl rfl (hF.at 10 rfl)) rfl (by omega) (show lo - 23 + (19 + 4) = lo by omega) (Nat.le_of_ble_eq_true rfl) (Nat.le_of_ble_eq_true rfl) (c_77E (x := b i) hI.2.1 (hF.at 10 rfl) (hF.at 15 rfl) (hF.at 16 rfl)) ?_
      intro v hh hq
      obtain ⟨rfl, ehh⟩ := hq
      rw [ehh]
      clear ehh
      rcases hI.2.1.fnd2 (b i) with ey1 | ⟨t1, a1, ht1, hx1, ha1, ey1, hfd1⟩
      · refine ar_top (x' := -1) (ey1) ?_
        refine ar_istore_n 24 [(0, .ref (nd + 7)), (1, .ref (n + 1 + 1 + 2 * q)), (2, .int (nI i)), (3, .int (-1))] d_89_23 rfl (by decide) rfl ?_
        refine ar_iload_n 25 d_89_24 rfl rfl ?_
        refine ar_if_lt 49 28 d_89_25 (by decide) rfl (fun _ => ?_) (fun c => absurd (by decide) c)
        refine ar_aload_n 50 d_89_49 rfl rfl ?_
        refine ar_aload_n 51 d_89_50 rfl rfl ?_
        refine ar_getf 54 d_89_51 rfl (ci := 2) (k := 1) rfl hN.mgc rfl ?_
        refine ar_iconst 55 (v := 0) d_89_54 rfl (by decide) ?_
        refine ar_call (r := []) (na := 0) (kd := 0) (cm := 82) (fr2 := fr - 1) (lo2 := lo - 22) 58 d_89_55 (ar_hoV (as := [.int (u 1), .int 0]) rfl rfl rfl (hF.at 7 rfl)) rfl (by omega) (show lo - 22 + (19 + 3) = lo by omega) (Nat.le_of_ble_eq_true rfl) (Nat.le_of_ble_eq_true rfl) (c_82E (hF.at 7 rfl)) ?_
        intro v hh hq
        obtain ⟨rfl, rfl⟩ := hq
        replace hF : ax_hs (ax_put h (nd + 7) (.inr (9, [.int me, .ref (n + 264), .ref n, .ref (nd + 10), .ref (nd + 18), .ref (nd + 8), .ref (nd + 9), .int (D 7 7), .int (D 7 8), .int (D 7 9), .int (scB (D 7 10) (u 1) 0), .long A, .int (D 7 12), .int (D 7 13), .int (D 7 14)]))) [cNd n nd me D, cDk nd D, cAr nd 2 35840 D, cAr nd 3 4096 D, cAr nd 4 32 D, cAr nd 5 280 D, cAr nd 6 280 D, (nd + 7, .inr (9, [.int me, .ref (n + 264), .ref n, .ref (nd + 10), .ref (nd + 18), .ref (nd + 8), .ref (nd + 9), .int (D 7 7), .int (D 7 8), .int (D 7 9), .int (scB (D 7 10) (u 1) 0), .long A, .int (D 7 12), .int (D 7 13), .int (D 7 14)])), cAr nd 8 16 D, cAr nd 9 280 D, cTb nd gg D K, cAr nd 11 48 D, cAr nd 12 48 D, cAr nd 13 48 D, cAr nd 14 2400 D, cAr nd 15 512 D, cAr nd 16 961 D, cAr nd 17 961 D, cWk nd D, cWa nd D, cAr nd 20 612 D, cAr nd 21 1152 D, cRk n nn gg C, cOr n nn gg f] := hF.put 7 _ rfl rfl
        replace hf := hf.put (a := nd + 7) (c := .inr (9, [.int me, .ref (n + 264), .ref n, .ref (nd + 10), .ref (nd + 18), .ref (nd + 8), .ref (nd + 9), .int (D 7 7), .int (D 7 8), .int (D 7 9), .int (scB (D 7 10) (u 1) 0), .long A, .int (D 7 12), .int (D 7 13), .int (D 7 14)])) (Or.inr (by omega))
        replace hN := hN.put (a := nd + 7) (c := .inr (9, [.int me, .ref (n + 264), .ref n, .ref (nd + 10), .ref (nd + 18), .ref (nd + 8), .ref (nd + 9), .int (D 7 7), .int (D 7 8), .int (D 7 9), .int (scB (D 7 10) (u 1) 0), .long A, .int (D 7 12), .int (D 7 13), .int (D 7 14)])) (by omega)
        replace hn : (ax_put h (nd + 7) (.inr (9, [.int me, .ref (n + 264), .ref n, .ref (nd + 10), .ref (nd + 18), .ref (nd + 8), .ref (nd + 9), .int (D 7 7), .int (D 7 8), .int (D 7 9), .int (scB (D 7 10) (u 1) 0), .long A, .int (D 7 12), .int (D 7 13), .int (D 7 14)]))).1 = h0.1 := hn
        replace hs : (ax_put h (nd + 7) (.inr (9, [.int me, .ref (n + 264), .ref n, .ref (nd + 10), .ref (nd + 18), .ref (nd + 8), .ref (nd + 9), .int (D 7 7), .int (D 7 8), .int (D 7 9), .int (scB (D 7 10) (u 1) 0), .long A, .int (D 7 12), .int (D 7 13), .int (D 7 14)]))).2.1 = h0.2.1 := hs
        generalize ax_put h (nd + 7) (.inr (9, [.int me, .ref (n + 264), .ref n, .ref (nd + 10), .ref (nd + 18), .ref (nd + 8), .ref (nd + 9), .int (D 7 7), .int (D 7 8), .int (D 7 9), .int (scB (D 7 10) (u 1) 0), .long A, .int (D 7 12), .int (D 7 13), .int (D 7 14)])) = hp_2 at hF hf hN hn hs ⊢
        refine ar_iinc 61 [(0, .ref (nd + 7)), (1, .ref (n + 1 + 1 + 2 * q)), (2, .int (nI (i + 1))), (3, .int (-1))] d_89_58 rfl rfl (nI_1 i) (by decide) rfl ?_
        refine ar_goto 2 d_89_61 (by decide) ?_
        refine ar_wk [0, 1, 2] rfl (by simp) ?_
        have hS1 : NS Z n nd nn gg C me f q u b uv h0 hp_2 (va_up D 7 (upd (D 7) 10 (scB (D 7 10) (u 1) 0))) K A Y := ⟨hF, hN, hf, hn, hs, hp0, hu0⟩
        have hI1 : NI Z nn (va_up D 7 (upd (D 7) 10 (scB (D 7 10) (u 1) 0))) := hI
        rw [← show G_89 nn gg C me f u b k (i + 1) (va_up D 7 (upd (D 7) 10 (scB (D 7 10) (u 1) 0))) K A Y = G_89 nn gg C me f u b (k + 1) i D K A Y from eq_ifT ey1 (rfl)]
        exact ih (i + 1) hp_2 (va_up D 7 (upd (D 7) 10 (scB (D 7 10) (u 1) 0))) K A Y (by omega) hS1 hI1
      · refine ar_top (x' := nI a1) (ey1) ?_
        refine ar_istore_n 24 [(0, .ref (nd + 7)), (1, .ref (n + 1 + 1 + 2 * q)), (2, .int (nI i)), (3, .int (nI a1))] d_89_23 rfl (by decide) rfl ?_
        refine ar_iload_n 25 d_89_24 rfl rfl ?_
        refine ar_if_lt 49 28 d_89_25 (by decide) rfl (fun c => absurd c (nI_pos (by omega))) (fun _ => ?_)
        refine ar_aload_n 29 d_89_28 rfl rfl ?_
        refine ar_getf 32 d_89_29 rfl (ci := 9) (k := 3) rfl (hF.at 7 rfl) rfl ?_
        refine ar_getf 35 d_89_32 rfl (ci := 6) (k := 7) rfl (hF.at 10 rfl) rfl ?_
        refine ar_iload_n 36 d_89_35 rfl rfl ?_
        refine ar_dup2 37 d_89_36 rfl rfl rfl ?_
        refine ar_ialdN 38 (e := a1) d_89_37 rfl (hF.at 17 rfl) (by omega) (by omega) ?_
        refine ar_iconst 39 (v := 1) d_89_38 rfl (by decide) ?_
        refine ar_aload_n 40 d_89_39 rfl rfl ?_
        refine ar_getf 43 d_89_40 rfl (ci := 2) (k := 1) rfl hN.mgc rfl ?_
        refine ar_ishl 44 d_89_43 rfl ?_
        refine ar_ior 45 d_89_44 rfl ?_
        refine ar_iastN 46 (e := a1) d_89_45 rfl (hF.at 17 rfl) (by omega) (by omega) ?_
        replace hF : ax_hs (ax_put h (nd + 17) (.inl (0, 961, .inl (upd (D 17) a1 (((D 17) a1) ||| (1 <<< ((u 1) &&& 31))))))) [cNd n nd me D, cDk nd D, cAr nd 2 35840 D, cAr nd 3 4096 D, cAr nd 4 32 D, cAr nd 5 280 D, cAr nd 6 280 D, cLd n nd me D A, cAr nd 8 16 D, cAr nd 9 280 D, cTb nd gg D K, cAr nd 11 48 D, cAr nd 12 48 D, cAr nd 13 48 D, cAr nd 14 2400 D, cAr nd 15 512 D, cAr nd 16 961 D, (nd + 17, .inl (0, 961, .inl (upd (D 17) a1 (((D 17) a1) ||| (1 <<< ((u 1) &&& 31)))))), cWk nd D, cWa nd D, cAr nd 20 612 D, cAr nd 21 1152 D, cRk n nn gg C, cOr n nn gg f] := hF.put 17 _ rfl rfl
        replace hf := hf.put (a := nd + 17) (c := .inl (0, 961, .inl (upd (D 17) a1 (((D 17) a1) ||| (1 <<< ((u 1) &&& 31)))))) (Or.inr (by omega))
        replace hN := hN.put (a := nd + 17) (c := .inl (0, 961, .inl (upd (D 17) a1 (((D 17) a1) ||| (1 <<< ((u 1) &&& 31)))))) (by omega)
        replace hn : (ax_put h (nd + 17) (.inl (0, 961, .inl (upd (D 17) a1 (((D 17) a1) ||| (1 <<< ((u 1) &&& 31))))))).1 = h0.1 := hn
        replace hs : (ax_put h (nd + 17) (.inl (0, 961, .inl (upd (D 17) a1 (((D 17) a1) ||| (1 <<< ((u 1) &&& 31))))))).2.1 = h0.2.1 := hs
        generalize ax_put h (nd + 17) (.inl (0, 961, .inl (upd (D 17) a1 (((D 17) a1) ||| (1 <<< ((u 1) &&& 31)))))) = hp_3 at hF hf hN hn hs ⊢
        refine ar_goto 58 d_89_46 (by decide) ?_
        refine ar_iinc 61 [(0, .ref (nd + 7)), (1, .ref (n + 1 + 1 + 2 * q)), (2, .int (nI (i + 1))), (3, .int (nI a1))] d_89_58 rfl rfl (nI_1 i) (by decide) rfl ?_
        refine ar_goto 2 d_89_61 (by decide) ?_
        refine ar_wk [0, 1, 2] rfl (by simp) ?_
        have hS1 : NS Z n nd nn gg C me f q u b uv h0 hp_3 (va_up D 17 (upd (D 17) a1 (((D 17) a1) ||| (1 <<< ((u 1) &&& 31))))) K A Y := ⟨hF, hN, hf, hn, hs, hp0, hu0⟩
        have hI1 : NI Z nn (va_up D 17 (upd (D 17) a1 (((D 17) a1) ||| (1 <<< ((u 1) &&& 31))))) := hI
        rw [← show G_89 nn gg C me f u b k (i + 1) (va_up D 17 (upd (D 17) a1 (((D 17) a1) ||| (1 <<< ((u 1) &&& 31))))) K A Y = G_89 nn gg C me f u b (k + 1) i D K A Y from eq_ifF (nI_ne1 ha1 ey1) (bnN_eq (cl_eq ha1 ey1) (rfl))]
        exact ih (i + 1) hp_3 (va_up D 17 (upd (D 17) a1 (((D 17) a1) ||| (1 <<< ((u 1) &&& 31))))) K A Y (by omega) hS1 hI1
  show ax_A (ax_step L xs) ((89, 0, fr, lo), [(0, .ref (nd + 7)), (1, .ref (n + 1 + 1 + 2 * q))], [], h) _
  refine ar_iconst 1 (v := 0) d_89_0 rfl (by decide) ?_
  refine ar_istore_n 2 [(0, .ref (nd + 7)), (1, .ref (n + 1 + 1 + 2 * q)), (2, .int 0)] d_89_1 rfl (by decide) rfl ?_
  rw [← show G_89 nn gg C me f u b cnt 0 D K A Y = F_89 nn gg C me f u b D K A Y from bnN_eq (cl_eq hcnt hu) (rfl)]
  exact key cnt 0 h D K A Y (by omega) hS hI

/-! the fresh store: answer, told, file, where, onDisk, holds, audit, end -/
theorem d_160_0 : decode (axt_b 160) 0 = .ok (.iload_n 1, 1) := by decide +kernel
theorem d_160_1 : decode (axt_b 160) 1 = .ok (.ifCond .lt 14, 3) := by decide +kernel
theorem d_160_4 : decode (axt_b 160) 4 = .ok (.iload_n 1, 1) := by decide +kernel
theorem d_160_5 : decode (axt_b 160) 5 = .ok (.aload_n 0, 1) := by decide +kernel
theorem d_160_6 : decode (axt_b 160) 6 = .ok (.getfield 41, 3) := by decide +kernel
theorem d_160_9 : decode (axt_b 160) 9 = .ok (.getfield 93, 3) := by decide +kernel
theorem d_160_12 : decode (axt_b 160) 12 = .ok (.if_icmp .lt 5, 3) := by decide +kernel
theorem d_160_15 : decode (axt_b 160) 15 = .ok (.iconst (-1), 1) := by decide +kernel
theorem d_160_16 : decode (axt_b 160) 16 = .ok (.ireturn, 1) := by decide +kernel
theorem d_160_17 : decode (axt_b 160) 17 = .ok (.iload_n 1, 1) := by decide +kernel
theorem d_160_18 : decode (axt_b 160) 18 = .ok (.aload_n 0, 1) := by decide +kernel
theorem d_160_19 : decode (axt_b 160) 19 = .ok (.getfield 41, 3) := by decide +kernel
theorem d_160_22 : decode (axt_b 160) 22 = .ok (.getfield 96, 3) := by decide +kernel
theorem d_160_25 : decode (axt_b 160) 25 = .ok (.if_icmp .ge 15, 3) := by decide +kernel
theorem d_160_28 : decode (axt_b 160) 28 = .ok (.aload_n 0, 1) := by decide +kernel
theorem d_160_29 : decode (axt_b 160) 29 = .ok (.getfield 41, 3) := by decide +kernel
theorem d_160_32 : decode (axt_b 160) 32 = .ok (.getfield 170, 3) := by decide +kernel
theorem d_160_35 : decode (axt_b 160) 35 = .ok (.iload_n 1, 1) := by decide +kernel
theorem d_160_36 : decode (axt_b 160) 36 = .ok (.iaload, 1) := by decide +kernel
theorem d_160_37 : decode (axt_b 160) 37 = .ok (.goto 5, 3) := by decide +kernel
theorem d_160_40 : decode (axt_b 160) 40 = .ok (.bipush (-5), 2) := by decide +kernel
theorem d_160_42 : decode (axt_b 160) 42 = .ok (.ireturn, 1) := by decide +kernel
theorem d_161_0 : decode (axt_b 161) 0 = .ok (.iload_n 1, 1) := by decide +kernel
theorem d_161_1 : decode (axt_b 161) 1 = .ok (.aload_n 0, 1) := by decide +kernel
theorem d_161_2 : decode (axt_b 161) 2 = .ok (.getfield 41, 3) := by decide +kernel
theorem d_161_5 : decode (axt_b 161) 5 = .ok (.getfield 173, 3) := by decide +kernel
theorem d_161_8 : decode (axt_b 161) 8 = .ok (.if_icmp .lt 14, 3) := by decide +kernel
theorem d_161_11 : decode (axt_b 161) 11 = .ok (.iload_n 1, 1) := by decide +kernel
theorem d_161_12 : decode (axt_b 161) 12 = .ok (.aload_n 0, 1) := by decide +kernel
theorem d_161_13 : decode (axt_b 161) 13 = .ok (.getfield 41, 3) := by decide +kernel
theorem d_161_16 : decode (axt_b 161) 16 = .ok (.getfield 96, 3) := by decide +kernel
theorem d_161_19 : decode (axt_b 161) 19 = .ok (.if_icmp .lt 6, 3) := by decide +kernel
theorem d_161_22 : decode (axt_b 161) 22 = .ok (.bipush (-2), 2) := by decide +kernel
theorem d_161_24 : decode (axt_b 161) 24 = .ok (.ireturn, 1) := by decide +kernel
theorem d_161_25 : decode (axt_b 161) 25 = .ok (.aload_n 0, 1) := by decide +kernel
theorem d_161_26 : decode (axt_b 161) 26 = .ok (.getfield 41, 3) := by decide +kernel
theorem d_161_29 : decode (axt_b 161) 29 = .ok (.getfield 176, 3) := by decide +kernel
theorem d_161_32 : decode (axt_b 161) 32 = .ok (.iload_n 1, 1) := by decide +kernel
theorem d_161_33 : decode (axt_b 161) 33 = .ok (.aload_n 0, 1) := by decide +kernel
theorem d_161_34 : decode (axt_b 161) 34 = .ok (.getfield 41, 3) := by decide +kernel
theorem d_161_37 : decode (axt_b 161) 37 = .ok (.getfield 176, 3) := by decide +kernel
theorem d_161_40 : decode (axt_b 161) 40 = .ok (.arraylength, 1) := by decide +kernel
theorem d_161_41 : decode (axt_b 161) 41 = .ok (.irem, 1) := by decide +kernel
theorem d_161_42 : decode (axt_b 161) 42 = .ok (.aaload, 1) := by decide +kernel
theorem d_161_43 : decode (axt_b 161) 43 = .ok (.astore_n 3, 1) := by decide +kernel
theorem d_161_44 : decode (axt_b 161) 44 = .ok (.iload_n 2, 1) := by decide +kernel
theorem d_161_45 : decode (axt_b 161) 45 = .ok (.ifCond .lt 11, 3) := by decide +kernel
theorem d_161_48 : decode (axt_b 161) 48 = .ok (.iload_n 2, 1) := by decide +kernel
theorem d_161_49 : decode (axt_b 161) 49 = .ok (.aload_n 3, 1) := by decide +kernel
theorem d_161_50 : decode (axt_b 161) 50 = .ok (.getfield 180, 3) := by decide +kernel
theorem d_161_53 : decode (axt_b 161) 53 = .ok (.if_icmp .lt 6, 3) := by decide +kernel
theorem d_161_56 : decode (axt_b 161) 56 = .ok (.bipush (-2), 2) := by decide +kernel
theorem d_161_58 : decode (axt_b 161) 58 = .ok (.ireturn, 1) := by decide +kernel
theorem d_161_59 : decode (axt_b 161) 59 = .ok (.aload_n 3, 1) := by decide +kernel
theorem d_161_60 : decode (axt_b 161) 60 = .ok (.getfield 185, 3) := by decide +kernel
theorem d_161_63 : decode (axt_b 161) 63 = .ok (.sipush 400, 3) := by decide +kernel
theorem d_161_66 : decode (axt_b 161) 66 = .ok (.iload_n 2, 1) := by decide +kernel
theorem d_161_67 : decode (axt_b 161) 67 = .ok (.iadd, 1) := by decide +kernel
theorem d_161_68 : decode (axt_b 161) 68 = .ok (.invokestatic 188, 3) := by decide +kernel
theorem d_161_71 : decode (axt_b 161) 71 = .ok (.ireturn, 1) := by decide +kernel
theorem d_163_0 : decode (axt_b 163) 0 = .ok (.iload_n 2, 1) := by decide +kernel
theorem d_163_1 : decode (axt_b 163) 1 = .ok (.ifCond .lt 8, 3) := by decide +kernel
theorem d_163_4 : decode (axt_b 163) 4 = .ok (.iload_n 2, 1) := by decide +kernel
theorem d_163_5 : decode (axt_b 163) 5 = .ok (.iconst 3, 1) := by decide +kernel
theorem d_163_6 : decode (axt_b 163) 6 = .ok (.if_icmp .le 5, 3) := by decide +kernel
theorem d_163_9 : decode (axt_b 163) 9 = .ok (.iconst (-1), 1) := by decide +kernel
theorem d_163_10 : decode (axt_b 163) 10 = .ok (.ireturn, 1) := by decide +kernel
theorem d_163_11 : decode (axt_b 163) 11 = .ok (.aload_n 0, 1) := by decide +kernel
theorem d_163_12 : decode (axt_b 163) 12 = .ok (.getfield 99, 3) := by decide +kernel
theorem d_163_15 : decode (axt_b 163) 15 = .ok (.ifCond .ne 6, 3) := by decide +kernel
theorem d_163_18 : decode (axt_b 163) 18 = .ok (.bipush (-6), 2) := by decide +kernel
theorem d_163_20 : decode (axt_b 163) 20 = .ok (.ireturn, 1) := by decide +kernel
theorem d_163_21 : decode (axt_b 163) 21 = .ok (.iload_n 1, 1) := by decide +kernel
theorem d_163_22 : decode (axt_b 163) 22 = .ok (.ifCond .lt 14, 3) := by decide +kernel
theorem d_163_25 : decode (axt_b 163) 25 = .ok (.iload_n 1, 1) := by decide +kernel
theorem d_163_26 : decode (axt_b 163) 26 = .ok (.aload_n 0, 1) := by decide +kernel
theorem d_163_27 : decode (axt_b 163) 27 = .ok (.getfield 54, 3) := by decide +kernel
theorem d_163_30 : decode (axt_b 163) 30 = .ok (.getfield 194, 3) := by decide +kernel
theorem d_163_33 : decode (axt_b 163) 33 = .ok (.if_icmp .lt 6, 3) := by decide +kernel
theorem d_163_36 : decode (axt_b 163) 36 = .ok (.bipush (-2), 2) := by decide +kernel
theorem d_163_38 : decode (axt_b 163) 38 = .ok (.ireturn, 1) := by decide +kernel
theorem d_163_39 : decode (axt_b 163) 39 = .ok (.aload_n 0, 1) := by decide +kernel
theorem d_163_40 : decode (axt_b 163) 40 = .ok (.getfield 16, 3) := by decide +kernel
theorem d_163_43 : decode (axt_b 163) 43 = .ok (.iload_n 1, 1) := by decide +kernel
theorem d_163_44 : decode (axt_b 163) 44 = .ok (.iaload, 1) := by decide +kernel
theorem d_163_45 : decode (axt_b 163) 45 = .ok (.istore_n 3, 1) := by decide +kernel
theorem d_163_46 : decode (axt_b 163) 46 = .ok (.iload_n 2, 1) := by decide +kernel
theorem d_163_47 : decode (axt_b 163) 47 = .ok (.ifCond .ne 13, 3) := by decide +kernel
theorem d_163_50 : decode (axt_b 163) 50 = .ok (.aload_n 0, 1) := by decide +kernel
theorem d_163_51 : decode (axt_b 163) 51 = .ok (.getfield 54, 3) := by decide +kernel
theorem d_163_54 : decode (axt_b 163) 54 = .ok (.getfield 197, 3) := by decide +kernel
theorem d_163_57 : decode (axt_b 163) 57 = .ok (.iload_n 3, 1) := by decide +kernel
theorem d_163_58 : decode (axt_b 163) 58 = .ok (.iaload, 1) := by decide +kernel
theorem d_163_59 : decode (axt_b 163) 59 = .ok (.ireturn, 1) := by decide +kernel
theorem d_163_60 : decode (axt_b 163) 60 = .ok (.iload_n 2, 1) := by decide +kernel
theorem d_163_61 : decode (axt_b 163) 61 = .ok (.iconst 1, 1) := by decide +kernel
theorem d_163_62 : decode (axt_b 163) 62 = .ok (.if_icmp .ne 13, 3) := by decide +kernel
theorem d_163_65 : decode (axt_b 163) 65 = .ok (.aload_n 0, 1) := by decide +kernel
theorem d_163_66 : decode (axt_b 163) 66 = .ok (.getfield 54, 3) := by decide +kernel
theorem d_163_69 : decode (axt_b 163) 69 = .ok (.getfield 200, 3) := by decide +kernel
theorem d_163_72 : decode (axt_b 163) 72 = .ok (.iload_n 3, 1) := by decide +kernel
theorem d_163_73 : decode (axt_b 163) 73 = .ok (.iaload, 1) := by decide +kernel
theorem d_163_74 : decode (axt_b 163) 74 = .ok (.ireturn, 1) := by decide +kernel
theorem d_163_75 : decode (axt_b 163) 75 = .ok (.iload_n 2, 1) := by decide +kernel
theorem d_163_76 : decode (axt_b 163) 76 = .ok (.iconst 2, 1) := by decide +kernel
theorem d_163_77 : decode (axt_b 163) 77 = .ok (.if_icmp .ne 15, 3) := by decide +kernel
theorem d_163_80 : decode (axt_b 163) 80 = .ok (.aload_n 0, 1) := by decide +kernel
theorem d_163_81 : decode (axt_b 163) 81 = .ok (.getfield 54, 3) := by decide +kernel
theorem d_163_84 : decode (axt_b 163) 84 = .ok (.getfield 203, 3) := by decide +kernel
theorem d_163_87 : decode (axt_b 163) 87 = .ok (.iload_n 3, 1) := by decide +kernel
theorem d_163_88 : decode (axt_b 163) 88 = .ok (.iaload, 1) := by decide +kernel
theorem d_163_89 : decode (axt_b 163) 89 = .ok (.goto 11, 3) := by decide +kernel
theorem d_163_92 : decode (axt_b 163) 92 = .ok (.aload_n 0, 1) := by decide +kernel
theorem d_163_93 : decode (axt_b 163) 93 = .ok (.getfield 54, 3) := by decide +kernel
theorem d_163_96 : decode (axt_b 163) 96 = .ok (.iload_n 3, 1) := by decide +kernel
theorem d_163_97 : decode (axt_b 163) 97 = .ok (.invokevirtual 206, 3) := by decide +kernel
theorem d_163_100 : decode (axt_b 163) 100 = .ok (.ireturn, 1) := by decide +kernel
theorem d_164_0 : decode (axt_b 164) 0 = .ok (.aload_n 0, 1) := by decide +kernel
theorem d_164_1 : decode (axt_b 164) 1 = .ok (.getfield 99, 3) := by decide +kernel
theorem d_164_4 : decode (axt_b 164) 4 = .ok (.ifCond .ne 6, 3) := by decide +kernel
theorem d_164_7 : decode (axt_b 164) 7 = .ok (.bipush (-6), 2) := by decide +kernel
theorem d_164_9 : decode (axt_b 164) 9 = .ok (.ireturn, 1) := by decide +kernel
theorem d_164_10 : decode (axt_b 164) 10 = .ok (.aload_n 0, 1) := by decide +kernel
theorem d_164_11 : decode (axt_b 164) 11 = .ok (.iload_n 1, 1) := by decide +kernel
theorem d_164_12 : decode (axt_b 164) 12 = .ok (.iload_n 2, 1) := by decide +kernel
theorem d_164_13 : decode (axt_b 164) 13 = .ok (.invokevirtual 209, 3) := by decide +kernel
theorem d_164_16 : decode (axt_b 164) 16 = .ok (.istore 4, 2) := by decide +kernel
theorem d_164_18 : decode (axt_b 164) 18 = .ok (.iload 4, 2) := by decide +kernel
theorem d_164_20 : decode (axt_b 164) 20 = .ok (.ifCond .lt 18, 3) := by decide +kernel
theorem d_164_23 : decode (axt_b 164) 23 = .ok (.iload_n 3, 1) := by decide +kernel
theorem d_164_24 : decode (axt_b 164) 24 = .ok (.ifCond .lt 14, 3) := by decide +kernel
theorem d_164_27 : decode (axt_b 164) 27 = .ok (.iload_n 3, 1) := by decide +kernel
theorem d_164_28 : decode (axt_b 164) 28 = .ok (.aload_n 0, 1) := by decide +kernel
theorem d_164_29 : decode (axt_b 164) 29 = .ok (.getfield 32, 3) := by decide +kernel
theorem d_164_32 : decode (axt_b 164) 32 = .ok (.getfield 147, 3) := by decide +kernel
theorem d_164_35 : decode (axt_b 164) 35 = .ok (.if_icmp .lt 6, 3) := by decide +kernel
theorem d_164_38 : decode (axt_b 164) 38 = .ok (.bipush (-2), 2) := by decide +kernel
theorem d_164_40 : decode (axt_b 164) 40 = .ok (.ireturn, 1) := by decide +kernel
theorem d_164_41 : decode (axt_b 164) 41 = .ok (.aload_n 0, 1) := by decide +kernel
theorem d_164_42 : decode (axt_b 164) 42 = .ok (.getfield 32, 3) := by decide +kernel
theorem d_164_45 : decode (axt_b 164) 45 = .ok (.aload_n 0, 1) := by decide +kernel
theorem d_164_46 : decode (axt_b 164) 46 = .ok (.getfield 54, 3) := by decide +kernel
theorem d_164_49 : decode (axt_b 164) 49 = .ok (.iload 4, 2) := by decide +kernel
theorem d_164_51 : decode (axt_b 164) 51 = .ok (.invokevirtual 212, 3) := by decide +kernel
theorem d_164_54 : decode (axt_b 164) 54 = .ok (.iload_n 3, 1) := by decide +kernel
theorem d_164_55 : decode (axt_b 164) 55 = .ok (.aload_n 0, 1) := by decide +kernel
theorem d_164_56 : decode (axt_b 164) 56 = .ok (.getfield 41, 3) := by decide +kernel
theorem d_164_59 : decode (axt_b 164) 59 = .ok (.getfield 72, 3) := by decide +kernel
theorem d_164_62 : decode (axt_b 164) 62 = .ok (.invokevirtual 215, 3) := by decide +kernel
theorem d_164_65 : decode (axt_b 164) 65 = .ok (.ireturn, 1) := by decide +kernel
theorem d_166_0 : decode (axt_b 166) 0 = .ok (.aload_n 0, 1) := by decide +kernel
theorem d_166_1 : decode (axt_b 166) 1 = .ok (.iload_n 1, 1) := by decide +kernel
theorem d_166_2 : decode (axt_b 166) 2 = .ok (.iload_n 2, 1) := by decide +kernel
theorem d_166_3 : decode (axt_b 166) 3 = .ok (.iload_n 3, 1) := by decide +kernel
theorem d_166_4 : decode (axt_b 166) 4 = .ok (.invokevirtual 218, 3) := by decide +kernel
theorem d_166_7 : decode (axt_b 166) 7 = .ok (.istore 5, 2) := by decide +kernel
theorem d_166_9 : decode (axt_b 166) 9 = .ok (.iload 5, 2) := by decide +kernel
theorem d_166_11 : decode (axt_b 166) 11 = .ok (.ifCond .ge 6, 3) := by decide +kernel
theorem d_166_14 : decode (axt_b 166) 14 = .ok (.iload 5, 2) := by decide +kernel
theorem d_166_16 : decode (axt_b 166) 16 = .ok (.ireturn, 1) := by decide +kernel
theorem d_166_17 : decode (axt_b 166) 17 = .ok (.sipush 448, 3) := by decide +kernel
theorem d_166_20 : decode (axt_b 166) 20 = .ok (.aload_n 0, 1) := by decide +kernel
theorem d_166_21 : decode (axt_b 166) 21 = .ok (.getfield 54, 3) := by decide +kernel
theorem d_166_24 : decode (axt_b 166) 24 = .ok (.getfield 197, 3) := by decide +kernel
theorem d_166_27 : decode (axt_b 166) 27 = .ok (.aload_n 0, 1) := by decide +kernel
theorem d_166_28 : decode (axt_b 166) 28 = .ok (.getfield 16, 3) := by decide +kernel
theorem d_166_31 : decode (axt_b 166) 31 = .ok (.iload_n 1, 1) := by decide +kernel
theorem d_166_32 : decode (axt_b 166) 32 = .ok (.iaload, 1) := by decide +kernel
theorem d_166_33 : decode (axt_b 166) 33 = .ok (.iaload, 1) := by decide +kernel
theorem d_166_34 : decode (axt_b 166) 34 = .ok (.iload_n 2, 1) := by decide +kernel
theorem d_166_35 : decode (axt_b 166) 35 = .ok (.sipush 448, 3) := by decide +kernel
theorem d_166_38 : decode (axt_b 166) 38 = .ok (.imul, 1) := by decide +kernel
theorem d_166_39 : decode (axt_b 166) 39 = .ok (.isub, 1) := by decide +kernel
theorem d_166_40 : decode (axt_b 166) 40 = .ok (.invokestatic 221, 3) := by decide +kernel
theorem d_166_43 : decode (axt_b 166) 43 = .ok (.istore 6, 2) := by decide +kernel
theorem d_166_45 : decode (axt_b 166) 45 = .ok (.aload_n 0, 1) := by decide +kernel
theorem d_166_46 : decode (axt_b 166) 46 = .ok (.getfield 63, 3) := by decide +kernel
theorem d_166_49 : decode (axt_b 166) 49 = .ok (.iload 5, 2) := by decide +kernel
theorem d_166_51 : decode (axt_b 166) 51 = .ok (.aaload, 1) := by decide +kernel
theorem d_166_52 : decode (axt_b 166) 52 = .ok (.getfield 150, 3) := by decide +kernel
theorem d_166_55 : decode (axt_b 166) 55 = .ok (.aload_n 0, 1) := by decide +kernel
theorem d_166_56 : decode (axt_b 166) 56 = .ok (.getfield 54, 3) := by decide +kernel
theorem d_166_59 : decode (axt_b 166) 59 = .ok (.aload_n 0, 1) := by decide +kernel
theorem d_166_60 : decode (axt_b 166) 60 = .ok (.iload_n 1, 1) := by decide +kernel
theorem d_166_61 : decode (axt_b 166) 61 = .ok (.iload_n 2, 1) := by decide +kernel
theorem d_166_62 : decode (axt_b 166) 62 = .ok (.invokevirtual 209, 3) := by decide +kernel
theorem d_166_65 : decode (axt_b 166) 65 = .ok (.invokevirtual 224, 3) := by decide +kernel
theorem d_166_68 : decode (axt_b 166) 68 = .ok (.invokevirtual 227, 3) := by decide +kernel
theorem d_166_71 : decode (axt_b 166) 71 = .ok (.istore 7, 2) := by decide +kernel
theorem d_166_73 : decode (axt_b 166) 73 = .ok (.iload 4, 2) := by decide +kernel
theorem d_166_75 : decode (axt_b 166) 75 = .ok (.ifCond .lt 15, 3) := by decide +kernel
theorem d_166_78 : decode (axt_b 166) 78 = .ok (.iload 4, 2) := by decide +kernel
theorem d_166_80 : decode (axt_b 166) 80 = .ok (.iload 6, 2) := by decide +kernel
theorem d_166_82 : decode (axt_b 166) 82 = .ok (.if_icmp .ge 8, 3) := by decide +kernel
theorem d_166_85 : decode (axt_b 166) 85 = .ok (.iload 7, 2) := by decide +kernel
theorem d_166_87 : decode (axt_b 166) 87 = .ok (.ifCond .ge 6, 3) := by decide +kernel
theorem d_166_90 : decode (axt_b 166) 90 = .ok (.bipush (-2), 2) := by decide +kernel
theorem d_166_92 : decode (axt_b 166) 92 = .ok (.ireturn, 1) := by decide +kernel
theorem d_166_93 : decode (axt_b 166) 93 = .ok (.aload_n 0, 1) := by decide +kernel
theorem d_166_94 : decode (axt_b 166) 94 = .ok (.getfield 63, 3) := by decide +kernel
theorem d_166_97 : decode (axt_b 166) 97 = .ok (.iload 5, 2) := by decide +kernel
theorem d_166_99 : decode (axt_b 166) 99 = .ok (.aaload, 1) := by decide +kernel
theorem d_166_100 : decode (axt_b 166) 100 = .ok (.getfield 150, 3) := by decide +kernel
theorem d_166_103 : decode (axt_b 166) 103 = .ok (.getfield 230, 3) := by decide +kernel
theorem d_166_106 : decode (axt_b 166) 106 = .ok (.iload 7, 2) := by decide +kernel
theorem d_166_108 : decode (axt_b 166) 108 = .ok (.sipush 512, 3) := by decide +kernel
theorem d_166_111 : decode (axt_b 166) 111 = .ok (.imul, 1) := by decide +kernel
theorem d_166_112 : decode (axt_b 166) 112 = .ok (.bipush 60, 2) := by decide +kernel
theorem d_166_114 : decode (axt_b 166) 114 = .ok (.iadd, 1) := by decide +kernel
theorem d_166_115 : decode (axt_b 166) 115 = .ok (.iload 4, 2) := by decide +kernel
theorem d_166_117 : decode (axt_b 166) 117 = .ok (.iadd, 1) := by decide +kernel
theorem d_166_118 : decode (axt_b 166) 118 = .ok (.invokestatic 188, 3) := by decide +kernel
theorem d_166_121 : decode (axt_b 166) 121 = .ok (.ireturn, 1) := by decide +kernel
theorem d_167_0 : decode (axt_b 167) 0 = .ok (.iload_n 1, 1) := by decide +kernel
theorem d_167_1 : decode (axt_b 167) 1 = .ok (.ifCond .lt 12, 3) := by decide +kernel
theorem d_167_4 : decode (axt_b 167) 4 = .ok (.iload_n 1, 1) := by decide +kernel
theorem d_167_5 : decode (axt_b 167) 5 = .ok (.aload_n 0, 1) := by decide +kernel
theorem d_167_6 : decode (axt_b 167) 6 = .ok (.getfield 63, 3) := by decide +kernel
theorem d_167_9 : decode (axt_b 167) 9 = .ok (.arraylength, 1) := by decide +kernel
theorem d_167_10 : decode (axt_b 167) 10 = .ok (.if_icmp .lt 5, 3) := by decide +kernel
theorem d_167_13 : decode (axt_b 167) 13 = .ok (.iconst (-1), 1) := by decide +kernel
theorem d_167_14 : decode (axt_b 167) 14 = .ok (.ireturn, 1) := by decide +kernel
theorem d_167_15 : decode (axt_b 167) 15 = .ok (.aload_n 0, 1) := by decide +kernel
theorem d_167_16 : decode (axt_b 167) 16 = .ok (.getfield 99, 3) := by decide +kernel
theorem d_167_19 : decode (axt_b 167) 19 = .ok (.ifCond .ne 6, 3) := by decide +kernel
theorem d_167_22 : decode (axt_b 167) 22 = .ok (.bipush (-6), 2) := by decide +kernel
theorem d_167_24 : decode (axt_b 167) 24 = .ok (.ireturn, 1) := by decide +kernel
theorem d_167_25 : decode (axt_b 167) 25 = .ok (.aload_n 0, 1) := by decide +kernel
theorem d_167_26 : decode (axt_b 167) 26 = .ok (.getfield 63, 3) := by decide +kernel
theorem d_167_29 : decode (axt_b 167) 29 = .ok (.iload_n 1, 1) := by decide +kernel
theorem d_167_30 : decode (axt_b 167) 30 = .ok (.aaload, 1) := by decide +kernel
theorem d_167_31 : decode (axt_b 167) 31 = .ok (.getfield 150, 3) := by decide +kernel
theorem d_167_34 : decode (axt_b 167) 34 = .ok (.astore_n 2, 1) := by decide +kernel
theorem d_167_35 : decode (axt_b 167) 35 = .ok (.iconst 0, 1) := by decide +kernel
theorem d_167_36 : decode (axt_b 167) 36 = .ok (.istore_n 3, 1) := by decide +kernel
theorem d_167_37 : decode (axt_b 167) 37 = .ok (.iconst 0, 1) := by decide +kernel
theorem d_167_38 : decode (axt_b 167) 38 = .ok (.istore 4, 2) := by decide +kernel
theorem d_167_40 : decode (axt_b 167) 40 = .ok (.iload 4, 2) := by decide +kernel
theorem d_167_42 : decode (axt_b 167) 42 = .ok (.sipush 280, 3) := by decide +kernel
theorem d_167_45 : decode (axt_b 167) 45 = .ok (.if_icmp .ge 33, 3) := by decide +kernel
theorem d_167_48 : decode (axt_b 167) 48 = .ok (.aload_n 2, 1) := by decide +kernel
theorem d_167_49 : decode (axt_b 167) 49 = .ok (.iload 4, 2) := by decide +kernel
theorem d_167_51 : decode (axt_b 167) 51 = .ok (.invokevirtual 233, 3) := by decide +kernel
theorem d_167_54 : decode (axt_b 167) 54 = .ok (.ifCond .eq 18, 3) := by decide +kernel
theorem d_167_57 : decode (axt_b 167) 57 = .ok (.aload_n 2, 1) := by decide +kernel
theorem d_167_58 : decode (axt_b 167) 58 = .ok (.iload 4, 2) := by decide +kernel
theorem d_167_60 : decode (axt_b 167) 60 = .ok (.invokevirtual 237, 3) := by decide +kernel
theorem d_167_63 : decode (axt_b 167) 63 = .ok (.invokestatic 238, 3) := by decide +kernel
theorem d_167_66 : decode (axt_b 167) 66 = .ok (.ifCond .eq 6, 3) := by decide +kernel
theorem d_167_69 : decode (axt_b 167) 69 = .ok (.iinc 3 1, 3) := by decide +kernel
theorem d_167_72 : decode (axt_b 167) 72 = .ok (.iinc 4 1, 3) := by decide +kernel
theorem d_167_75 : decode (axt_b 167) 75 = .ok (.goto (-35), 3) := by decide +kernel
theorem d_167_78 : decode (axt_b 167) 78 = .ok (.iload_n 3, 1) := by decide +kernel
theorem d_167_79 : decode (axt_b 167) 79 = .ok (.ireturn, 1) := by decide +kernel
theorem d_169_0 : decode (axt_b 169) 0 = .ok (.aload_n 0, 1) := by decide +kernel
theorem d_169_1 : decode (axt_b 169) 1 = .ok (.getfield 99, 3) := by decide +kernel
theorem d_169_4 : decode (axt_b 169) 4 = .ok (.ifCond .ne 6, 3) := by decide +kernel
theorem d_169_7 : decode (axt_b 169) 7 = .ok (.bipush (-6), 2) := by decide +kernel
theorem d_169_9 : decode (axt_b 169) 9 = .ok (.ireturn, 1) := by decide +kernel
theorem d_169_10 : decode (axt_b 169) 10 = .ok (.aload_n 0, 1) := by decide +kernel
theorem d_169_11 : decode (axt_b 169) 11 = .ok (.getfield 54, 3) := by decide +kernel
theorem d_169_14 : decode (axt_b 169) 14 = .ok (.getfield 241, 3) := by decide +kernel
theorem d_169_17 : decode (axt_b 169) 17 = .ok (.iconst 0, 1) := by decide +kernel
theorem d_169_18 : decode (axt_b 169) 18 = .ok (.invokestatic 244, 3) := by decide +kernel
theorem d_169_21 : decode (axt_b 169) 21 = .ok (.iconst 0, 1) := by decide +kernel
theorem d_169_22 : decode (axt_b 169) 22 = .ok (.istore_n 1, 1) := by decide +kernel
theorem d_169_23 : decode (axt_b 169) 23 = .ok (.iconst 0, 1) := by decide +kernel
theorem d_169_24 : decode (axt_b 169) 24 = .ok (.istore_n 2, 1) := by decide +kernel
theorem d_169_25 : decode (axt_b 169) 25 = .ok (.iload_n 2, 1) := by decide +kernel
theorem d_169_26 : decode (axt_b 169) 26 = .ok (.aload_n 0, 1) := by decide +kernel
theorem d_169_27 : decode (axt_b 169) 27 = .ok (.getfield 63, 3) := by decide +kernel
theorem d_169_30 : decode (axt_b 169) 30 = .ok (.arraylength, 1) := by decide +kernel
theorem d_169_31 : decode (axt_b 169) 31 = .ok (.if_icmp .ge 17, 3) := by decide +kernel
theorem d_169_34 : decode (axt_b 169) 34 = .ok (.iload_n 1, 1) := by decide +kernel
theorem d_169_35 : decode (axt_b 169) 35 = .ok (.aload_n 0, 1) := by decide +kernel
theorem d_169_36 : decode (axt_b 169) 36 = .ok (.iload_n 2, 1) := by decide +kernel
theorem d_169_37 : decode (axt_b 169) 37 = .ok (.invokevirtual 250, 3) := by decide +kernel
theorem d_169_40 : decode (axt_b 169) 40 = .ok (.iadd, 1) := by decide +kernel
theorem d_169_41 : decode (axt_b 169) 41 = .ok (.istore_n 1, 1) := by decide +kernel
theorem d_169_42 : decode (axt_b 169) 42 = .ok (.iinc 2 1, 3) := by decide +kernel
theorem d_169_45 : decode (axt_b 169) 45 = .ok (.goto (-20), 3) := by decide +kernel
theorem d_169_48 : decode (axt_b 169) 48 = .ok (.iconst 0, 1) := by decide +kernel
theorem d_169_49 : decode (axt_b 169) 49 = .ok (.istore_n 2, 1) := by decide +kernel
theorem d_169_50 : decode (axt_b 169) 50 = .ok (.iload_n 2, 1) := by decide +kernel
theorem d_169_51 : decode (axt_b 169) 51 = .ok (.sipush 961, 3) := by decide +kernel
theorem d_169_54 : decode (axt_b 169) 54 = .ok (.if_icmp .ge 44, 3) := by decide +kernel
theorem d_169_57 : decode (axt_b 169) 57 = .ok (.aload_n 0, 1) := by decide +kernel
theorem d_169_58 : decode (axt_b 169) 58 = .ok (.getfield 54, 3) := by decide +kernel
theorem d_169_61 : decode (axt_b 169) 61 = .ok (.getfield 253, 3) := by decide +kernel
theorem d_169_64 : decode (axt_b 169) 64 = .ok (.iload_n 2, 1) := by decide +kernel
theorem d_169_65 : decode (axt_b 169) 65 = .ok (.iaload, 1) := by decide +kernel
theorem d_169_66 : decode (axt_b 169) 66 = .ok (.ifCond .lt 26, 3) := by decide +kernel
theorem d_169_69 : decode (axt_b 169) 69 = .ok (.iload_n 1, 1) := by decide +kernel
theorem d_169_70 : decode (axt_b 169) 70 = .ok (.aload_n 0, 1) := by decide +kernel
theorem d_169_71 : decode (axt_b 169) 71 = .ok (.getfield 32, 3) := by decide +kernel
theorem d_169_74 : decode (axt_b 169) 74 = .ok (.getfield 147, 3) := by decide +kernel
theorem d_169_77 : decode (axt_b 169) 77 = .ok (.aload_n 0, 1) := by decide +kernel
theorem d_169_78 : decode (axt_b 169) 78 = .ok (.getfield 54, 3) := by decide +kernel
theorem d_169_81 : decode (axt_b 169) 81 = .ok (.getfield 241, 3) := by decide +kernel
theorem d_169_84 : decode (axt_b 169) 84 = .ok (.iload_n 2, 1) := by decide +kernel
theorem d_169_85 : decode (axt_b 169) 85 = .ok (.iaload, 1) := by decide +kernel
theorem d_169_86 : decode (axt_b 169) 86 = .ok (.invokestatic 256, 3) := by decide +kernel
theorem d_169_89 : decode (axt_b 169) 89 = .ok (.isub, 1) := by decide +kernel
theorem d_169_90 : decode (axt_b 169) 90 = .ok (.iadd, 1) := by decide +kernel
theorem d_169_91 : decode (axt_b 169) 91 = .ok (.istore_n 1, 1) := by decide +kernel
theorem d_169_92 : decode (axt_b 169) 92 = .ok (.iinc 2 1, 3) := by decide +kernel
theorem d_169_95 : decode (axt_b 169) 95 = .ok (.goto (-45), 3) := by decide +kernel
theorem d_169_98 : decode (axt_b 169) 98 = .ok (.iload_n 1, 1) := by decide +kernel
theorem d_169_99 : decode (axt_b 169) 99 = .ok (.ireturn, 1) := by decide +kernel

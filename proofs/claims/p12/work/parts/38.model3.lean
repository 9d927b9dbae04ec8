/-! the reference as new: answer, told, file, where, onDisk, holds -/
theorem d_208_0 : decode (axt_b 208) 0 = .ok (.iload_n 1, 1) := by decide +kernel
theorem d_208_1 : decode (axt_b 208) 1 = .ok (.ifCond .lt 11, 3) := by decide +kernel
theorem d_208_4 : decode (axt_b 208) 4 = .ok (.iload_n 1, 1) := by decide +kernel
theorem d_208_5 : decode (axt_b 208) 5 = .ok (.aload_n 0, 1) := by decide +kernel
theorem d_208_6 : decode (axt_b 208) 6 = .ok (.getfield 105, 3) := by decide +kernel
theorem d_208_9 : decode (axt_b 208) 9 = .ok (.if_icmp .lt 5, 3) := by decide +kernel
theorem d_208_12 : decode (axt_b 208) 12 = .ok (.iconst (-1), 1) := by decide +kernel
theorem d_208_13 : decode (axt_b 208) 13 = .ok (.ireturn, 1) := by decide +kernel
theorem d_208_14 : decode (axt_b 208) 14 = .ok (.iload_n 1, 1) := by decide +kernel
theorem d_208_15 : decode (axt_b 208) 15 = .ok (.aload_n 0, 1) := by decide +kernel
theorem d_208_16 : decode (axt_b 208) 16 = .ok (.getfield 105, 3) := by decide +kernel
theorem d_208_19 : decode (axt_b 208) 19 = .ok (.aload_n 0, 1) := by decide +kernel
theorem d_208_20 : decode (axt_b 208) 20 = .ok (.getfield 102, 3) := by decide +kernel
theorem d_208_23 : decode (axt_b 208) 23 = .ok (.isub, 1) := by decide +kernel
theorem d_208_24 : decode (axt_b 208) 24 = .ok (.if_icmp .lt 8, 3) := by decide +kernel
theorem d_208_27 : decode (axt_b 208) 27 = .ok (.bipush (-5), 2) := by decide +kernel
theorem d_208_29 : decode (axt_b 208) 29 = .ok (.goto 9, 3) := by decide +kernel
theorem d_208_32 : decode (axt_b 208) 32 = .ok (.aload_n 0, 1) := by decide +kernel
theorem d_208_33 : decode (axt_b 208) 33 = .ok (.getfield 71, 3) := by decide +kernel
theorem d_208_36 : decode (axt_b 208) 36 = .ok (.iload_n 1, 1) := by decide +kernel
theorem d_208_37 : decode (axt_b 208) 37 = .ok (.iaload, 1) := by decide +kernel
theorem d_208_38 : decode (axt_b 208) 38 = .ok (.ireturn, 1) := by decide +kernel
theorem d_209_0 : decode (axt_b 209) 0 = .ok (.iload_n 1, 1) := by decide +kernel
theorem d_209_1 : decode (axt_b 209) 1 = .ok (.aload_n 0, 1) := by decide +kernel
theorem d_209_2 : decode (axt_b 209) 2 = .ok (.getfield 174, 3) := by decide +kernel
theorem d_209_5 : decode (axt_b 209) 5 = .ok (.isub, 1) := by decide +kernel
theorem d_209_6 : decode (axt_b 209) 6 = .ok (.istore_n 3, 1) := by decide +kernel
theorem d_209_7 : decode (axt_b 209) 7 = .ok (.iload_n 1, 1) := by decide +kernel
theorem d_209_8 : decode (axt_b 209) 8 = .ok (.ifCond .lt 29, 3) := by decide +kernel
theorem d_209_11 : decode (axt_b 209) 11 = .ok (.iload_n 3, 1) := by decide +kernel
theorem d_209_12 : decode (axt_b 209) 12 = .ok (.ifCond .lt 25, 3) := by decide +kernel
theorem d_209_15 : decode (axt_b 209) 15 = .ok (.iload_n 3, 1) := by decide +kernel
theorem d_209_16 : decode (axt_b 209) 16 = .ok (.aload_n 0, 1) := by decide +kernel
theorem d_209_17 : decode (axt_b 209) 17 = .ok (.getfield 177, 3) := by decide +kernel
theorem d_209_20 : decode (axt_b 209) 20 = .ok (.if_icmp .ge 17, 3) := by decide +kernel
theorem d_209_23 : decode (axt_b 209) 23 = .ok (.iload_n 2, 1) := by decide +kernel
theorem d_209_24 : decode (axt_b 209) 24 = .ok (.ifCond .lt 13, 3) := by decide +kernel
theorem d_209_27 : decode (axt_b 209) 27 = .ok (.iload_n 2, 1) := by decide +kernel
theorem d_209_28 : decode (axt_b 209) 28 = .ok (.aload_n 0, 1) := by decide +kernel
theorem d_209_29 : decode (axt_b 209) 29 = .ok (.getfield 77, 3) := by decide +kernel
theorem d_209_32 : decode (axt_b 209) 32 = .ok (.iload_n 3, 1) := by decide +kernel
theorem d_209_33 : decode (axt_b 209) 33 = .ok (.iaload, 1) := by decide +kernel
theorem d_209_34 : decode (axt_b 209) 34 = .ok (.if_icmp .lt 6, 3) := by decide +kernel
theorem d_209_37 : decode (axt_b 209) 37 = .ok (.bipush (-2), 2) := by decide +kernel
theorem d_209_39 : decode (axt_b 209) 39 = .ok (.ireturn, 1) := by decide +kernel
theorem d_209_40 : decode (axt_b 209) 40 = .ok (.aload_n 0, 1) := by decide +kernel
theorem d_209_41 : decode (axt_b 209) 41 = .ok (.getfield 74, 3) := by decide +kernel
theorem d_209_44 : decode (axt_b 209) 44 = .ok (.sipush 2048, 3) := by decide +kernel
theorem d_209_47 : decode (axt_b 209) 47 = .ok (.iload_n 3, 1) := by decide +kernel
theorem d_209_48 : decode (axt_b 209) 48 = .ok (.imul, 1) := by decide +kernel
theorem d_209_49 : decode (axt_b 209) 49 = .ok (.iload_n 2, 1) := by decide +kernel
theorem d_209_50 : decode (axt_b 209) 50 = .ok (.iadd, 1) := by decide +kernel
theorem d_209_51 : decode (axt_b 209) 51 = .ok (.iaload, 1) := by decide +kernel
theorem d_209_52 : decode (axt_b 209) 52 = .ok (.ireturn, 1) := by decide +kernel
theorem d_210_0 : decode (axt_b 210) 0 = .ok (.iload_n 2, 1) := by decide +kernel
theorem d_210_1 : decode (axt_b 210) 1 = .ok (.ifCond .lt 8, 3) := by decide +kernel
theorem d_210_4 : decode (axt_b 210) 4 = .ok (.iload_n 2, 1) := by decide +kernel
theorem d_210_5 : decode (axt_b 210) 5 = .ok (.iconst 3, 1) := by decide +kernel
theorem d_210_6 : decode (axt_b 210) 6 = .ok (.if_icmp .le 5, 3) := by decide +kernel
theorem d_210_9 : decode (axt_b 210) 9 = .ok (.iconst (-1), 1) := by decide +kernel
theorem d_210_10 : decode (axt_b 210) 10 = .ok (.ireturn, 1) := by decide +kernel
theorem d_210_11 : decode (axt_b 210) 11 = .ok (.aload_n 0, 1) := by decide +kernel
theorem d_210_12 : decode (axt_b 210) 12 = .ok (.getfield 108, 3) := by decide +kernel
theorem d_210_15 : decode (axt_b 210) 15 = .ok (.ifCond .ne 6, 3) := by decide +kernel
theorem d_210_18 : decode (axt_b 210) 18 = .ok (.bipush (-6), 2) := by decide +kernel
theorem d_210_20 : decode (axt_b 210) 20 = .ok (.ireturn, 1) := by decide +kernel
theorem d_210_21 : decode (axt_b 210) 21 = .ok (.iload_n 1, 1) := by decide +kernel
theorem d_210_22 : decode (axt_b 210) 22 = .ok (.ifCond .lt 11, 3) := by decide +kernel
theorem d_210_25 : decode (axt_b 210) 25 = .ok (.iload_n 1, 1) := by decide +kernel
theorem d_210_26 : decode (axt_b 210) 26 = .ok (.aload_n 0, 1) := by decide +kernel
theorem d_210_27 : decode (axt_b 210) 27 = .ok (.getfield 122, 3) := by decide +kernel
theorem d_210_30 : decode (axt_b 210) 30 = .ok (.if_icmp .lt 6, 3) := by decide +kernel
theorem d_210_33 : decode (axt_b 210) 33 = .ok (.bipush (-2), 2) := by decide +kernel
theorem d_210_35 : decode (axt_b 210) 35 = .ok (.ireturn, 1) := by decide +kernel
theorem d_210_36 : decode (axt_b 210) 36 = .ok (.aload_n 0, 1) := by decide +kernel
theorem d_210_37 : decode (axt_b 210) 37 = .ok (.getfield 24, 3) := by decide +kernel
theorem d_210_40 : decode (axt_b 210) 40 = .ok (.iload_n 1, 1) := by decide +kernel
theorem d_210_41 : decode (axt_b 210) 41 = .ok (.iaload, 1) := by decide +kernel
theorem d_210_42 : decode (axt_b 210) 42 = .ok (.istore_n 3, 1) := by decide +kernel
theorem d_210_43 : decode (axt_b 210) 43 = .ok (.iload_n 2, 1) := by decide +kernel
theorem d_210_44 : decode (axt_b 210) 44 = .ok (.ifCond .ne 12, 3) := by decide +kernel
theorem d_210_47 : decode (axt_b 210) 47 = .ok (.aload_n 0, 1) := by decide +kernel
theorem d_210_48 : decode (axt_b 210) 48 = .ok (.getfield 40, 3) := by decide +kernel
theorem d_210_51 : decode (axt_b 210) 51 = .ok (.iload_n 3, 1) := by decide +kernel
theorem d_210_52 : decode (axt_b 210) 52 = .ok (.iaload, 1) := by decide +kernel
theorem d_210_53 : decode (axt_b 210) 53 = .ok (.goto 36, 3) := by decide +kernel
theorem d_210_56 : decode (axt_b 210) 56 = .ok (.iload_n 2, 1) := by decide +kernel
theorem d_210_57 : decode (axt_b 210) 57 = .ok (.iconst 1, 1) := by decide +kernel
theorem d_210_58 : decode (axt_b 210) 58 = .ok (.if_icmp .ne 12, 3) := by decide +kernel
theorem d_210_61 : decode (axt_b 210) 61 = .ok (.aload_n 0, 1) := by decide +kernel
theorem d_210_62 : decode (axt_b 210) 62 = .ok (.getfield 37, 3) := by decide +kernel
theorem d_210_65 : decode (axt_b 210) 65 = .ok (.iload_n 3, 1) := by decide +kernel
theorem d_210_66 : decode (axt_b 210) 66 = .ok (.iaload, 1) := by decide +kernel
theorem d_210_67 : decode (axt_b 210) 67 = .ok (.goto 22, 3) := by decide +kernel
theorem d_210_70 : decode (axt_b 210) 70 = .ok (.iload_n 2, 1) := by decide +kernel
theorem d_210_71 : decode (axt_b 210) 71 = .ok (.iconst 2, 1) := by decide +kernel
theorem d_210_72 : decode (axt_b 210) 72 = .ok (.if_icmp .ne 12, 3) := by decide +kernel
theorem d_210_75 : decode (axt_b 210) 75 = .ok (.aload_n 0, 1) := by decide +kernel
theorem d_210_76 : decode (axt_b 210) 76 = .ok (.getfield 34, 3) := by decide +kernel
theorem d_210_79 : decode (axt_b 210) 79 = .ok (.iload_n 3, 1) := by decide +kernel
theorem d_210_80 : decode (axt_b 210) 80 = .ok (.iaload, 1) := by decide +kernel
theorem d_210_81 : decode (axt_b 210) 81 = .ok (.goto 8, 3) := by decide +kernel
theorem d_210_84 : decode (axt_b 210) 84 = .ok (.aload_n 0, 1) := by decide +kernel
theorem d_210_85 : decode (axt_b 210) 85 = .ok (.iload_n 3, 1) := by decide +kernel
theorem d_210_86 : decode (axt_b 210) 86 = .ok (.invokevirtual 192, 3) := by decide +kernel
theorem d_210_89 : decode (axt_b 210) 89 = .ok (.ireturn, 1) := by decide +kernel
theorem d_211_0 : decode (axt_b 211) 0 = .ok (.aload_n 0, 1) := by decide +kernel
theorem d_211_1 : decode (axt_b 211) 1 = .ok (.getfield 108, 3) := by decide +kernel
theorem d_211_4 : decode (axt_b 211) 4 = .ok (.ifCond .ne 6, 3) := by decide +kernel
theorem d_211_7 : decode (axt_b 211) 7 = .ok (.bipush (-6), 2) := by decide +kernel
theorem d_211_9 : decode (axt_b 211) 9 = .ok (.ireturn, 1) := by decide +kernel
theorem d_211_10 : decode (axt_b 211) 10 = .ok (.iload_n 1, 1) := by decide +kernel
theorem d_211_11 : decode (axt_b 211) 11 = .ok (.ifCond .lt 52, 3) := by decide +kernel
theorem d_211_14 : decode (axt_b 211) 14 = .ok (.iload_n 1, 1) := by decide +kernel
theorem d_211_15 : decode (axt_b 211) 15 = .ok (.aload_n 0, 1) := by decide +kernel
theorem d_211_16 : decode (axt_b 211) 16 = .ok (.getfield 122, 3) := by decide +kernel
theorem d_211_19 : decode (axt_b 211) 19 = .ok (.if_icmp .ge 44, 3) := by decide +kernel
theorem d_211_22 : decode (axt_b 211) 22 = .ok (.iload_n 2, 1) := by decide +kernel
theorem d_211_23 : decode (axt_b 211) 23 = .ok (.ifCond .lt 40, 3) := by decide +kernel
theorem d_211_26 : decode (axt_b 211) 26 = .ok (.iload_n 2, 1) := by decide +kernel
theorem d_211_27 : decode (axt_b 211) 27 = .ok (.bipush 18, 2) := by decide +kernel
theorem d_211_29 : decode (axt_b 211) 29 = .ok (.if_icmp .gt 34, 3) := by decide +kernel
theorem d_211_32 : decode (axt_b 211) 32 = .ok (.iload_n 3, 1) := by decide +kernel
theorem d_211_33 : decode (axt_b 211) 33 = .ok (.ifCond .lt 30, 3) := by decide +kernel
theorem d_211_36 : decode (axt_b 211) 36 = .ok (.iload_n 3, 1) := by decide +kernel
theorem d_211_37 : decode (axt_b 211) 37 = .ok (.aload_n 0, 1) := by decide +kernel
theorem d_211_38 : decode (axt_b 211) 38 = .ok (.getfield 83, 3) := by decide +kernel
theorem d_211_41 : decode (axt_b 211) 41 = .ok (.if_icmp .ge 22, 3) := by decide +kernel
theorem d_211_44 : decode (axt_b 211) 44 = .ok (.aload_n 0, 1) := by decide +kernel
theorem d_211_45 : decode (axt_b 211) 45 = .ok (.getfield 47, 3) := by decide +kernel
theorem d_211_48 : decode (axt_b 211) 48 = .ok (.bipush 19, 2) := by decide +kernel
theorem d_211_50 : decode (axt_b 211) 50 = .ok (.aload_n 0, 1) := by decide +kernel
theorem d_211_51 : decode (axt_b 211) 51 = .ok (.getfield 24, 3) := by decide +kernel
theorem d_211_54 : decode (axt_b 211) 54 = .ok (.iload_n 1, 1) := by decide +kernel
theorem d_211_55 : decode (axt_b 211) 55 = .ok (.iaload, 1) := by decide +kernel
theorem d_211_56 : decode (axt_b 211) 56 = .ok (.imul, 1) := by decide +kernel
theorem d_211_57 : decode (axt_b 211) 57 = .ok (.iload_n 2, 1) := by decide +kernel
theorem d_211_58 : decode (axt_b 211) 58 = .ok (.iadd, 1) := by decide +kernel
theorem d_211_59 : decode (axt_b 211) 59 = .ok (.baload, 1) := by decide +kernel
theorem d_211_60 : decode (axt_b 211) 60 = .ok (.ifCond .ne 6, 3) := by decide +kernel
theorem d_211_63 : decode (axt_b 211) 63 = .ok (.bipush (-2), 2) := by decide +kernel
theorem d_211_65 : decode (axt_b 211) 65 = .ok (.ireturn, 1) := by decide +kernel
theorem d_211_66 : decode (axt_b 211) 66 = .ok (.iconst 0, 1) := by decide +kernel
theorem d_211_67 : decode (axt_b 211) 67 = .ok (.istore 4, 2) := by decide +kernel
theorem d_211_69 : decode (axt_b 211) 69 = .ok (.aload_n 0, 1) := by decide +kernel
theorem d_211_70 : decode (axt_b 211) 70 = .ok (.aload_n 0, 1) := by decide +kernel
theorem d_211_71 : decode (axt_b 211) 71 = .ok (.getfield 24, 3) := by decide +kernel
theorem d_211_74 : decode (axt_b 211) 74 = .ok (.iload_n 1, 1) := by decide +kernel
theorem d_211_75 : decode (axt_b 211) 75 = .ok (.iaload, 1) := by decide +kernel
theorem d_211_76 : decode (axt_b 211) 76 = .ok (.iload_n 2, 1) := by decide +kernel
theorem d_211_77 : decode (axt_b 211) 77 = .ok (.iload 4, 2) := by decide +kernel
theorem d_211_79 : decode (axt_b 211) 79 = .ok (.invokevirtual 202, 3) := by decide +kernel
theorem d_211_82 : decode (axt_b 211) 82 = .ok (.iload_n 3, 1) := by decide +kernel
theorem d_211_83 : decode (axt_b 211) 83 = .ok (.if_icmp .eq 9, 3) := by decide +kernel
theorem d_211_86 : decode (axt_b 211) 86 = .ok (.iinc 4 1, 3) := by decide +kernel
theorem d_211_89 : decode (axt_b 211) 89 = .ok (.goto (-20), 3) := by decide +kernel
theorem d_211_92 : decode (axt_b 211) 92 = .ok (.iload 4, 2) := by decide +kernel
theorem d_211_94 : decode (axt_b 211) 94 = .ok (.ireturn, 1) := by decide +kernel
theorem d_214_0 : decode (axt_b 214) 0 = .ok (.aload_n 0, 1) := by decide +kernel
theorem d_214_1 : decode (axt_b 214) 1 = .ok (.iload_n 1, 1) := by decide +kernel
theorem d_214_2 : decode (axt_b 214) 2 = .ok (.iload_n 2, 1) := by decide +kernel
theorem d_214_3 : decode (axt_b 214) 3 = .ok (.iload_n 3, 1) := by decide +kernel
theorem d_214_4 : decode (axt_b 214) 4 = .ok (.invokevirtual 205, 3) := by decide +kernel
theorem d_214_7 : decode (axt_b 214) 7 = .ok (.istore 5, 2) := by decide +kernel
theorem d_214_9 : decode (axt_b 214) 9 = .ok (.iload 5, 2) := by decide +kernel
theorem d_214_11 : decode (axt_b 214) 11 = .ok (.ifCond .ge 6, 3) := by decide +kernel
theorem d_214_14 : decode (axt_b 214) 14 = .ok (.iload 5, 2) := by decide +kernel
theorem d_214_16 : decode (axt_b 214) 16 = .ok (.ireturn, 1) := by decide +kernel
theorem d_214_17 : decode (axt_b 214) 17 = .ok (.sipush 448, 3) := by decide +kernel
theorem d_214_20 : decode (axt_b 214) 20 = .ok (.iload_n 2, 1) := by decide +kernel
theorem d_214_21 : decode (axt_b 214) 21 = .ok (.imul, 1) := by decide +kernel
theorem d_214_22 : decode (axt_b 214) 22 = .ok (.iload 4, 2) := by decide +kernel
theorem d_214_24 : decode (axt_b 214) 24 = .ok (.iadd, 1) := by decide +kernel
theorem d_214_25 : decode (axt_b 214) 25 = .ok (.istore 6, 2) := by decide +kernel
theorem d_214_27 : decode (axt_b 214) 27 = .ok (.iload 4, 2) := by decide +kernel
theorem d_214_29 : decode (axt_b 214) 29 = .ok (.ifCond .lt 27, 3) := by decide +kernel
theorem d_214_32 : decode (axt_b 214) 32 = .ok (.iload 4, 2) := by decide +kernel
theorem d_214_34 : decode (axt_b 214) 34 = .ok (.sipush 448, 3) := by decide +kernel
theorem d_214_37 : decode (axt_b 214) 37 = .ok (.if_icmp .ge 19, 3) := by decide +kernel
theorem d_214_40 : decode (axt_b 214) 40 = .ok (.iload 6, 2) := by decide +kernel
theorem d_214_42 : decode (axt_b 214) 42 = .ok (.aload_n 0, 1) := by decide +kernel
theorem d_214_43 : decode (axt_b 214) 43 = .ok (.getfield 40, 3) := by decide +kernel
theorem d_214_46 : decode (axt_b 214) 46 = .ok (.aload_n 0, 1) := by decide +kernel
theorem d_214_47 : decode (axt_b 214) 47 = .ok (.getfield 24, 3) := by decide +kernel
theorem d_214_50 : decode (axt_b 214) 50 = .ok (.iload_n 1, 1) := by decide +kernel
theorem d_214_51 : decode (axt_b 214) 51 = .ok (.iaload, 1) := by decide +kernel
theorem d_214_52 : decode (axt_b 214) 52 = .ok (.iaload, 1) := by decide +kernel
theorem d_214_53 : decode (axt_b 214) 53 = .ok (.if_icmp .lt 6, 3) := by decide +kernel
theorem d_214_56 : decode (axt_b 214) 56 = .ok (.bipush (-2), 2) := by decide +kernel
theorem d_214_58 : decode (axt_b 214) 58 = .ok (.ireturn, 1) := by decide +kernel
theorem d_214_59 : decode (axt_b 214) 59 = .ok (.aload_n 0, 1) := by decide +kernel
theorem d_214_60 : decode (axt_b 214) 60 = .ok (.getfield 44, 3) := by decide +kernel
theorem d_214_63 : decode (axt_b 214) 63 = .ok (.sipush 8192, 3) := by decide +kernel
theorem d_214_66 : decode (axt_b 214) 66 = .ok (.aload_n 0, 1) := by decide +kernel
theorem d_214_67 : decode (axt_b 214) 67 = .ok (.getfield 24, 3) := by decide +kernel
theorem d_214_70 : decode (axt_b 214) 70 = .ok (.iload_n 1, 1) := by decide +kernel
theorem d_214_71 : decode (axt_b 214) 71 = .ok (.iaload, 1) := by decide +kernel
theorem d_214_72 : decode (axt_b 214) 72 = .ok (.imul, 1) := by decide +kernel
theorem d_214_73 : decode (axt_b 214) 73 = .ok (.iload 6, 2) := by decide +kernel
theorem d_214_75 : decode (axt_b 214) 75 = .ok (.iadd, 1) := by decide +kernel
theorem d_214_76 : decode (axt_b 214) 76 = .ok (.baload, 1) := by decide +kernel
theorem d_214_77 : decode (axt_b 214) 77 = .ok (.sipush 255, 3) := by decide +kernel
theorem d_214_80 : decode (axt_b 214) 80 = .ok (.iand, 1) := by decide +kernel
theorem d_214_81 : decode (axt_b 214) 81 = .ok (.ireturn, 1) := by decide +kernel
theorem d_215_0 : decode (axt_b 215) 0 = .ok (.iload_n 1, 1) := by decide +kernel
theorem d_215_1 : decode (axt_b 215) 1 = .ok (.ifCond .lt 11, 3) := by decide +kernel
theorem d_215_4 : decode (axt_b 215) 4 = .ok (.iload_n 1, 1) := by decide +kernel
theorem d_215_5 : decode (axt_b 215) 5 = .ok (.aload_n 0, 1) := by decide +kernel
theorem d_215_6 : decode (axt_b 215) 6 = .ok (.getfield 80, 3) := by decide +kernel
theorem d_215_9 : decode (axt_b 215) 9 = .ok (.if_icmp .lt 5, 3) := by decide +kernel
theorem d_215_12 : decode (axt_b 215) 12 = .ok (.iconst (-1), 1) := by decide +kernel
theorem d_215_13 : decode (axt_b 215) 13 = .ok (.ireturn, 1) := by decide +kernel
theorem d_215_14 : decode (axt_b 215) 14 = .ok (.aload_n 0, 1) := by decide +kernel
theorem d_215_15 : decode (axt_b 215) 15 = .ok (.getfield 108, 3) := by decide +kernel
theorem d_215_18 : decode (axt_b 215) 18 = .ok (.ifCond .ne 6, 3) := by decide +kernel
theorem d_215_21 : decode (axt_b 215) 21 = .ok (.bipush (-6), 2) := by decide +kernel
theorem d_215_23 : decode (axt_b 215) 23 = .ok (.ireturn, 1) := by decide +kernel
theorem d_215_24 : decode (axt_b 215) 24 = .ok (.iconst 0, 1) := by decide +kernel
theorem d_215_25 : decode (axt_b 215) 25 = .ok (.istore_n 2, 1) := by decide +kernel
theorem d_215_26 : decode (axt_b 215) 26 = .ok (.iconst 0, 1) := by decide +kernel
theorem d_215_27 : decode (axt_b 215) 27 = .ok (.istore_n 3, 1) := by decide +kernel
theorem d_215_28 : decode (axt_b 215) 28 = .ok (.iload_n 3, 1) := by decide +kernel
theorem d_215_29 : decode (axt_b 215) 29 = .ok (.aload_n 0, 1) := by decide +kernel
theorem d_215_30 : decode (axt_b 215) 30 = .ok (.getfield 122, 3) := by decide +kernel
theorem d_215_33 : decode (axt_b 215) 33 = .ok (.if_icmp .ge 73, 3) := by decide +kernel
theorem d_215_36 : decode (axt_b 215) 36 = .ok (.iconst 0, 1) := by decide +kernel
theorem d_215_37 : decode (axt_b 215) 37 = .ok (.istore 4, 2) := by decide +kernel
theorem d_215_39 : decode (axt_b 215) 39 = .ok (.iload 4, 2) := by decide +kernel
theorem d_215_41 : decode (axt_b 215) 41 = .ok (.bipush 19, 2) := by decide +kernel
theorem d_215_43 : decode (axt_b 215) 43 = .ok (.if_icmp .ge 57, 3) := by decide +kernel
theorem d_215_46 : decode (axt_b 215) 46 = .ok (.iload_n 2, 1) := by decide +kernel
theorem d_215_47 : decode (axt_b 215) 47 = .ok (.aload_n 0, 1) := by decide +kernel
theorem d_215_48 : decode (axt_b 215) 48 = .ok (.getfield 47, 3) := by decide +kernel
theorem d_215_51 : decode (axt_b 215) 51 = .ok (.bipush 19, 2) := by decide +kernel
theorem d_215_53 : decode (axt_b 215) 53 = .ok (.aload_n 0, 1) := by decide +kernel
theorem d_215_54 : decode (axt_b 215) 54 = .ok (.getfield 24, 3) := by decide +kernel
theorem d_215_57 : decode (axt_b 215) 57 = .ok (.iload_n 3, 1) := by decide +kernel
theorem d_215_58 : decode (axt_b 215) 58 = .ok (.iaload, 1) := by decide +kernel
theorem d_215_59 : decode (axt_b 215) 59 = .ok (.imul, 1) := by decide +kernel
theorem d_215_60 : decode (axt_b 215) 60 = .ok (.iload 4, 2) := by decide +kernel
theorem d_215_62 : decode (axt_b 215) 62 = .ok (.iadd, 1) := by decide +kernel
theorem d_215_63 : decode (axt_b 215) 63 = .ok (.baload, 1) := by decide +kernel
theorem d_215_64 : decode (axt_b 215) 64 = .ok (.ifCond .eq 27, 3) := by decide +kernel
theorem d_215_67 : decode (axt_b 215) 67 = .ok (.aload_n 0, 1) := by decide +kernel
theorem d_215_68 : decode (axt_b 215) 68 = .ok (.aload_n 0, 1) := by decide +kernel
theorem d_215_69 : decode (axt_b 215) 69 = .ok (.getfield 24, 3) := by decide +kernel
theorem d_215_72 : decode (axt_b 215) 72 = .ok (.iload_n 3, 1) := by decide +kernel
theorem d_215_73 : decode (axt_b 215) 73 = .ok (.iaload, 1) := by decide +kernel
theorem d_215_74 : decode (axt_b 215) 74 = .ok (.iload 4, 2) := by decide +kernel
theorem d_215_76 : decode (axt_b 215) 76 = .ok (.iload_n 1, 1) := by decide +kernel
theorem d_215_77 : decode (axt_b 215) 77 = .ok (.invokevirtual 202, 3) := by decide +kernel
theorem d_215_80 : decode (axt_b 215) 80 = .ok (.aload_n 0, 1) := by decide +kernel
theorem d_215_81 : decode (axt_b 215) 81 = .ok (.getfield 83, 3) := by decide +kernel
theorem d_215_84 : decode (axt_b 215) 84 = .ok (.if_icmp .ge 7, 3) := by decide +kernel
theorem d_215_87 : decode (axt_b 215) 87 = .ok (.iconst 1, 1) := by decide +kernel
theorem d_215_88 : decode (axt_b 215) 88 = .ok (.goto 4, 3) := by decide +kernel
theorem d_215_91 : decode (axt_b 215) 91 = .ok (.iconst 0, 1) := by decide +kernel
theorem d_215_92 : decode (axt_b 215) 92 = .ok (.iadd, 1) := by decide +kernel
theorem d_215_93 : decode (axt_b 215) 93 = .ok (.istore_n 2, 1) := by decide +kernel
theorem d_215_94 : decode (axt_b 215) 94 = .ok (.iinc 4 1, 3) := by decide +kernel
theorem d_215_97 : decode (axt_b 215) 97 = .ok (.goto (-58), 3) := by decide +kernel
theorem d_215_100 : decode (axt_b 215) 100 = .ok (.iinc 3 1, 3) := by decide +kernel
theorem d_215_103 : decode (axt_b 215) 103 = .ok (.goto (-75), 3) := by decide +kernel
theorem d_215_106 : decode (axt_b 215) 106 = .ok (.iload_n 2, 1) := by decide +kernel
theorem d_215_107 : decode (axt_b 215) 107 = .ok (.ireturn, 1) := by decide +kernel

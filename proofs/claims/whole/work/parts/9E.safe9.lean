/-! Work: makeFile, copySpan, lengthen, cut, rename, swap for every state -/
theorem d_105_0 : decode (axt_b 105) 0 = .ok (.aload_n 0, 1) := by decide +kernel
theorem d_105_1 : decode (axt_b 105) 1 = .ok (.aload_n 0, 1) := by decide +kernel
theorem d_105_2 : decode (axt_b 105) 2 = .ok (.getfield 26, 3) := by decide +kernel
theorem d_105_5 : decode (axt_b 105) 5 = .ok (.aload_n 0, 1) := by decide +kernel
theorem d_105_6 : decode (axt_b 105) 6 = .ok (.getfield 22, 3) := by decide +kernel
theorem d_105_9 : decode (axt_b 105) 9 = .ok (.invokevirtual 188, 3) := by decide +kernel
theorem d_105_12 : decode (axt_b 105) 12 = .ok (.putfield 88, 3) := by decide +kernel
theorem d_105_15 : decode (axt_b 105) 15 = .ok (.aload_n 0, 1) := by decide +kernel
theorem d_105_16 : decode (axt_b 105) 16 = .ok (.getfield 26, 3) := by decide +kernel
theorem d_105_19 : decode (axt_b 105) 19 = .ok (.aload_n 0, 1) := by decide +kernel
theorem d_105_20 : decode (axt_b 105) 20 = .ok (.getfield 88, 3) := by decide +kernel
theorem d_105_23 : decode (axt_b 105) 23 = .ok (.aload_n 0, 1) := by decide +kernel
theorem d_105_24 : decode (axt_b 105) 24 = .ok (.getfield 12, 3) := by decide +kernel
theorem d_105_27 : decode (axt_b 105) 27 = .ok (.getfield 78, 3) := by decide +kernel
theorem d_105_30 : decode (axt_b 105) 30 = .ok (.iconst 0, 1) := by decide +kernel
theorem d_105_31 : decode (axt_b 105) 31 = .ok (.aload_n 0, 1) := by decide +kernel
theorem d_105_32 : decode (axt_b 105) 32 = .ok (.getfield 12, 3) := by decide +kernel
theorem d_105_35 : decode (axt_b 105) 35 = .ok (.getfield 81, 3) := by decide +kernel
theorem d_105_38 : decode (axt_b 105) 38 = .ok (.invokevirtual 191, 3) := by decide +kernel
theorem d_105_41 : decode (axt_b 105) 41 = .ok (.aload_n 0, 1) := by decide +kernel
theorem d_105_42 : decode (axt_b 105) 42 = .ok (.aload_n 0, 1) := by decide +kernel
theorem d_105_43 : decode (axt_b 105) 43 = .ok (.getfield 88, 3) := by decide +kernel
theorem d_105_46 : decode (axt_b 105) 46 = .ok (.putfield 68, 3) := by decide +kernel
theorem d_105_49 : decode (axt_b 105) 49 = .ok (.return_, 1) := by decide +kernel
theorem d_107_0 : decode (axt_b 107) 0 = .ok (.iconst 0, 1) := by decide +kernel
theorem d_107_1 : decode (axt_b 107) 1 = .ok (.istore_n 2, 1) := by decide +kernel
theorem d_107_2 : decode (axt_b 107) 2 = .ok (.iload_n 2, 1) := by decide +kernel
theorem d_107_3 : decode (axt_b 107) 3 = .ok (.aload_n 0, 1) := by decide +kernel
theorem d_107_4 : decode (axt_b 107) 4 = .ok (.getfield 65, 3) := by decide +kernel
theorem d_107_7 : decode (axt_b 107) 7 = .ok (.if_icmp .ge 139, 3) := by decide +kernel
theorem d_107_10 : decode (axt_b 107) 10 = .ok (.aload_n 0, 1) := by decide +kernel
theorem d_107_11 : decode (axt_b 107) 11 = .ok (.getfield 153, 3) := by decide +kernel
theorem d_107_14 : decode (axt_b 107) 14 = .ok (.iload_n 2, 1) := by decide +kernel
theorem d_107_15 : decode (axt_b 107) 15 = .ok (.iadd, 1) := by decide +kernel
theorem d_107_16 : decode (axt_b 107) 16 = .ok (.sipush 448, 3) := by decide +kernel
theorem d_107_19 : decode (axt_b 107) 19 = .ok (.imul, 1) := by decide +kernel
theorem d_107_20 : decode (axt_b 107) 20 = .ok (.istore_n 3, 1) := by decide +kernel
theorem d_107_21 : decode (axt_b 107) 21 = .ok (.aload_n 0, 1) := by decide +kernel
theorem d_107_22 : decode (axt_b 107) 22 = .ok (.getfield 12, 3) := by decide +kernel
theorem d_107_25 : decode (axt_b 107) 25 = .ok (.getfield 126, 3) := by decide +kernel
theorem d_107_28 : decode (axt_b 107) 28 = .ok (.iload_n 3, 1) := by decide +kernel
theorem d_107_29 : decode (axt_b 107) 29 = .ok (.invokestatic 140, 3) := by decide +kernel
theorem d_107_32 : decode (axt_b 107) 32 = .ok (.istore 4, 2) := by decide +kernel
theorem d_107_34 : decode (axt_b 107) 34 = .ok (.aload_n 0, 1) := by decide +kernel
theorem d_107_35 : decode (axt_b 107) 35 = .ok (.getfield 12, 3) := by decide +kernel
theorem d_107_38 : decode (axt_b 107) 38 = .ok (.getfield 126, 3) := by decide +kernel
theorem d_107_41 : decode (axt_b 107) 41 = .ok (.aload_n 0, 1) := by decide +kernel
theorem d_107_42 : decode (axt_b 107) 42 = .ok (.getfield 62, 3) := by decide +kernel
theorem d_107_45 : decode (axt_b 107) 45 = .ok (.iadd, 1) := by decide +kernel
theorem d_107_46 : decode (axt_b 107) 46 = .ok (.iload_n 3, 1) := by decide +kernel
theorem d_107_47 : decode (axt_b 107) 47 = .ok (.sipush 448, 3) := by decide +kernel
theorem d_107_50 : decode (axt_b 107) 50 = .ok (.iadd, 1) := by decide +kernel
theorem d_107_51 : decode (axt_b 107) 51 = .ok (.invokestatic 135, 3) := by decide +kernel
theorem d_107_54 : decode (axt_b 107) 54 = .ok (.istore 5, 2) := by decide +kernel
theorem d_107_56 : decode (axt_b 107) 56 = .ok (.sipush 400, 3) := by decide +kernel
theorem d_107_59 : decode (axt_b 107) 59 = .ok (.iload 4, 2) := by decide +kernel
theorem d_107_61 : decode (axt_b 107) 61 = .ok (.iadd, 1) := by decide +kernel
theorem d_107_62 : decode (axt_b 107) 62 = .ok (.aload_n 0, 1) := by decide +kernel
theorem d_107_63 : decode (axt_b 107) 63 = .ok (.getfield 12, 3) := by decide +kernel
theorem d_107_66 : decode (axt_b 107) 66 = .ok (.getfield 126, 3) := by decide +kernel
theorem d_107_69 : decode (axt_b 107) 69 = .ok (.isub, 1) := by decide +kernel
theorem d_107_70 : decode (axt_b 107) 70 = .ok (.istore 6, 2) := by decide +kernel
theorem d_107_72 : decode (axt_b 107) 72 = .ok (.iload_n 2, 1) := by decide +kernel
theorem d_107_73 : decode (axt_b 107) 73 = .ok (.sipush 512, 3) := by decide +kernel
theorem d_107_76 : decode (axt_b 107) 76 = .ok (.imul, 1) := by decide +kernel
theorem d_107_77 : decode (axt_b 107) 77 = .ok (.bipush 60, 2) := by decide +kernel
theorem d_107_79 : decode (axt_b 107) 79 = .ok (.iadd, 1) := by decide +kernel
theorem d_107_80 : decode (axt_b 107) 80 = .ok (.iload 4, 2) := by decide +kernel
theorem d_107_82 : decode (axt_b 107) 82 = .ok (.iadd, 1) := by decide +kernel
theorem d_107_83 : decode (axt_b 107) 83 = .ok (.iload_n 3, 1) := by decide +kernel
theorem d_107_84 : decode (axt_b 107) 84 = .ok (.isub, 1) := by decide +kernel
theorem d_107_85 : decode (axt_b 107) 85 = .ok (.istore 7, 2) := by decide +kernel
theorem d_107_87 : decode (axt_b 107) 87 = .ok (.iload_n 1, 1) := by decide +kernel
theorem d_107_88 : decode (axt_b 107) 88 = .ok (.ifCond .eq 29, 3) := by decide +kernel
theorem d_107_91 : decode (axt_b 107) 91 = .ok (.aload_n 0, 1) := by decide +kernel
theorem d_107_92 : decode (axt_b 107) 92 = .ok (.getfield 12, 3) := by decide +kernel
theorem d_107_95 : decode (axt_b 107) 95 = .ok (.getfield 78, 3) := by decide +kernel
theorem d_107_98 : decode (axt_b 107) 98 = .ok (.iload 6, 2) := by decide +kernel
theorem d_107_100 : decode (axt_b 107) 100 = .ok (.aload_n 0, 1) := by decide +kernel
theorem d_107_101 : decode (axt_b 107) 101 = .ok (.getfield 18, 3) := by decide +kernel
theorem d_107_104 : decode (axt_b 107) 104 = .ok (.iload 7, 2) := by decide +kernel
theorem d_107_106 : decode (axt_b 107) 106 = .ok (.iload 5, 2) := by decide +kernel
theorem d_107_108 : decode (axt_b 107) 108 = .ok (.iload 4, 2) := by decide +kernel
theorem d_107_110 : decode (axt_b 107) 110 = .ok (.isub, 1) := by decide +kernel
theorem d_107_111 : decode (axt_b 107) 111 = .ok (.invokestatic 195, 3) := by decide +kernel
theorem d_107_114 : decode (axt_b 107) 114 = .ok (.goto 26, 3) := by decide +kernel
theorem d_107_117 : decode (axt_b 107) 117 = .ok (.aload_n 0, 1) := by decide +kernel
theorem d_107_118 : decode (axt_b 107) 118 = .ok (.getfield 18, 3) := by decide +kernel
theorem d_107_121 : decode (axt_b 107) 121 = .ok (.iload 7, 2) := by decide +kernel
theorem d_107_123 : decode (axt_b 107) 123 = .ok (.aload_n 0, 1) := by decide +kernel
theorem d_107_124 : decode (axt_b 107) 124 = .ok (.getfield 12, 3) := by decide +kernel
theorem d_107_127 : decode (axt_b 107) 127 = .ok (.getfield 78, 3) := by decide +kernel
theorem d_107_130 : decode (axt_b 107) 130 = .ok (.iload 6, 2) := by decide +kernel
theorem d_107_132 : decode (axt_b 107) 132 = .ok (.iload 5, 2) := by decide +kernel
theorem d_107_134 : decode (axt_b 107) 134 = .ok (.iload 4, 2) := by decide +kernel
theorem d_107_136 : decode (axt_b 107) 136 = .ok (.isub, 1) := by decide +kernel
theorem d_107_137 : decode (axt_b 107) 137 = .ok (.invokestatic 195, 3) := by decide +kernel
theorem d_107_140 : decode (axt_b 107) 140 = .ok (.iinc 2 1, 3) := by decide +kernel
theorem d_107_143 : decode (axt_b 107) 143 = .ok (.goto (-141), 3) := by decide +kernel
theorem d_107_146 : decode (axt_b 107) 146 = .ok (.return_, 1) := by decide +kernel
theorem d_108_0 : decode (axt_b 108) 0 = .ok (.aload_n 0, 1) := by decide +kernel
theorem d_108_1 : decode (axt_b 108) 1 = .ok (.getfield 62, 3) := by decide +kernel
theorem d_108_4 : decode (axt_b 108) 4 = .ok (.ifCond .le 42, 3) := by decide +kernel
theorem d_108_7 : decode (axt_b 108) 7 = .ok (.aload_n 0, 1) := by decide +kernel
theorem d_108_8 : decode (axt_b 108) 8 = .ok (.getfield 26, 3) := by decide +kernel
theorem d_108_11 : decode (axt_b 108) 11 = .ok (.getfield 116, 3) := by decide +kernel
theorem d_108_14 : decode (axt_b 108) 14 = .ok (.aload_n 0, 1) := by decide +kernel
theorem d_108_15 : decode (axt_b 108) 15 = .ok (.getfield 88, 3) := by decide +kernel
theorem d_108_18 : decode (axt_b 108) 18 = .ok (.aload_n 0, 1) := by decide +kernel
theorem d_108_19 : decode (axt_b 108) 19 = .ok (.getfield 26, 3) := by decide +kernel
theorem d_108_22 : decode (axt_b 108) 22 = .ok (.getfield 116, 3) := by decide +kernel
theorem d_108_25 : decode (axt_b 108) 25 = .ok (.aload_n 0, 1) := by decide +kernel
theorem d_108_26 : decode (axt_b 108) 26 = .ok (.getfield 88, 3) := by decide +kernel
theorem d_108_29 : decode (axt_b 108) 29 = .ok (.iaload, 1) := by decide +kernel
theorem d_108_30 : decode (axt_b 108) 30 = .ok (.aload_n 0, 1) := by decide +kernel
theorem d_108_31 : decode (axt_b 108) 31 = .ok (.getfield 12, 3) := by decide +kernel
theorem d_108_34 : decode (axt_b 108) 34 = .ok (.getfield 126, 3) := by decide +kernel
theorem d_108_37 : decode (axt_b 108) 37 = .ok (.aload_n 0, 1) := by decide +kernel
theorem d_108_38 : decode (axt_b 108) 38 = .ok (.getfield 62, 3) := by decide +kernel
theorem d_108_41 : decode (axt_b 108) 41 = .ok (.iadd, 1) := by decide +kernel
theorem d_108_42 : decode (axt_b 108) 42 = .ok (.invokestatic 140, 3) := by decide +kernel
theorem d_108_45 : decode (axt_b 108) 45 = .ok (.iastore, 1) := by decide +kernel
theorem d_108_46 : decode (axt_b 108) 46 = .ok (.aload_n 0, 1) := by decide +kernel
theorem d_108_47 : decode (axt_b 108) 47 = .ok (.aload_n 0, 1) := by decide +kernel
theorem d_108_48 : decode (axt_b 108) 48 = .ok (.getfield 88, 3) := by decide +kernel
theorem d_108_51 : decode (axt_b 108) 51 = .ok (.putfield 68, 3) := by decide +kernel
theorem d_108_54 : decode (axt_b 108) 54 = .ok (.return_, 1) := by decide +kernel
theorem d_109_0 : decode (axt_b 109) 0 = .ok (.aload_n 0, 1) := by decide +kernel
theorem d_109_1 : decode (axt_b 109) 1 = .ok (.getfield 65, 3) := by decide +kernel
theorem d_109_4 : decode (axt_b 109) 4 = .ok (.ifCond .le 31, 3) := by decide +kernel
theorem d_109_7 : decode (axt_b 109) 7 = .ok (.aload_n 0, 1) := by decide +kernel
theorem d_109_8 : decode (axt_b 109) 8 = .ok (.getfield 12, 3) := by decide +kernel
theorem d_109_11 : decode (axt_b 109) 11 = .ok (.getfield 126, 3) := by decide +kernel
theorem d_109_14 : decode (axt_b 109) 14 = .ok (.sipush 448, 3) := by decide +kernel
theorem d_109_17 : decode (axt_b 109) 17 = .ok (.irem, 1) := by decide +kernel
theorem d_109_18 : decode (axt_b 109) 18 = .ok (.istore_n 1, 1) := by decide +kernel
theorem d_109_19 : decode (axt_b 109) 19 = .ok (.aload_n 0, 1) := by decide +kernel
theorem d_109_20 : decode (axt_b 109) 20 = .ok (.getfield 18, 3) := by decide +kernel
theorem d_109_23 : decode (axt_b 109) 23 = .ok (.bipush 60, 2) := by decide +kernel
theorem d_109_25 : decode (axt_b 109) 25 = .ok (.iload_n 1, 1) := by decide +kernel
theorem d_109_26 : decode (axt_b 109) 26 = .ok (.iadd, 1) := by decide +kernel
theorem d_109_27 : decode (axt_b 109) 27 = .ok (.sipush 448, 3) := by decide +kernel
theorem d_109_30 : decode (axt_b 109) 30 = .ok (.iload_n 1, 1) := by decide +kernel
theorem d_109_31 : decode (axt_b 109) 31 = .ok (.isub, 1) := by decide +kernel
theorem d_109_32 : decode (axt_b 109) 32 = .ok (.invokestatic 201, 3) := by decide +kernel
theorem d_109_35 : decode (axt_b 109) 35 = .ok (.iconst 0, 1) := by decide +kernel
theorem d_109_36 : decode (axt_b 109) 36 = .ok (.istore_n 1, 1) := by decide +kernel
theorem d_109_37 : decode (axt_b 109) 37 = .ok (.iload_n 1, 1) := by decide +kernel
theorem d_109_38 : decode (axt_b 109) 38 = .ok (.bipush 19, 2) := by decide +kernel
theorem d_109_40 : decode (axt_b 109) 40 = .ok (.if_icmp .ge 42, 3) := by decide +kernel
theorem d_109_43 : decode (axt_b 109) 43 = .ok (.iload_n 1, 1) := by decide +kernel
theorem d_109_44 : decode (axt_b 109) 44 = .ok (.sipush 448, 3) := by decide +kernel
theorem d_109_47 : decode (axt_b 109) 47 = .ok (.imul, 1) := by decide +kernel
theorem d_109_48 : decode (axt_b 109) 48 = .ok (.aload_n 0, 1) := by decide +kernel
theorem d_109_49 : decode (axt_b 109) 49 = .ok (.getfield 12, 3) := by decide +kernel
theorem d_109_52 : decode (axt_b 109) 52 = .ok (.getfield 126, 3) := by decide +kernel
theorem d_109_55 : decode (axt_b 109) 55 = .ok (.if_icmp .lt 21, 3) := by decide +kernel
theorem d_109_58 : decode (axt_b 109) 58 = .ok (.aload_n 0, 1) := by decide +kernel
theorem d_109_59 : decode (axt_b 109) 59 = .ok (.getfield 26, 3) := by decide +kernel
theorem d_109_62 : decode (axt_b 109) 62 = .ok (.getfield 48, 3) := by decide +kernel
theorem d_109_65 : decode (axt_b 109) 65 = .ok (.aload_n 0, 1) := by decide +kernel
theorem d_109_66 : decode (axt_b 109) 66 = .ok (.getfield 88, 3) := by decide +kernel
theorem d_109_69 : decode (axt_b 109) 69 = .ok (.bipush 20, 2) := by decide +kernel
theorem d_109_71 : decode (axt_b 109) 71 = .ok (.imul, 1) := by decide +kernel
theorem d_109_72 : decode (axt_b 109) 72 = .ok (.iload_n 1, 1) := by decide +kernel
theorem d_109_73 : decode (axt_b 109) 73 = .ok (.iadd, 1) := by decide +kernel
theorem d_109_74 : decode (axt_b 109) 74 = .ok (.iconst (-1), 1) := by decide +kernel
theorem d_109_75 : decode (axt_b 109) 75 = .ok (.iastore, 1) := by decide +kernel
theorem d_109_76 : decode (axt_b 109) 76 = .ok (.iinc 1 1, 3) := by decide +kernel
theorem d_109_79 : decode (axt_b 109) 79 = .ok (.goto (-42), 3) := by decide +kernel
theorem d_109_82 : decode (axt_b 109) 82 = .ok (.aload_n 0, 1) := by decide +kernel
theorem d_109_83 : decode (axt_b 109) 83 = .ok (.getfield 26, 3) := by decide +kernel
theorem d_109_86 : decode (axt_b 109) 86 = .ok (.getfield 116, 3) := by decide +kernel
theorem d_109_89 : decode (axt_b 109) 89 = .ok (.aload_n 0, 1) := by decide +kernel
theorem d_109_90 : decode (axt_b 109) 90 = .ok (.getfield 88, 3) := by decide +kernel
theorem d_109_93 : decode (axt_b 109) 93 = .ok (.aload_n 0, 1) := by decide +kernel
theorem d_109_94 : decode (axt_b 109) 94 = .ok (.getfield 12, 3) := by decide +kernel
theorem d_109_97 : decode (axt_b 109) 97 = .ok (.getfield 126, 3) := by decide +kernel
theorem d_109_100 : decode (axt_b 109) 100 = .ok (.iastore, 1) := by decide +kernel
theorem d_109_101 : decode (axt_b 109) 101 = .ok (.aload_n 0, 1) := by decide +kernel
theorem d_109_102 : decode (axt_b 109) 102 = .ok (.aload_n 0, 1) := by decide +kernel
theorem d_109_103 : decode (axt_b 109) 103 = .ok (.getfield 88, 3) := by decide +kernel
theorem d_109_106 : decode (axt_b 109) 106 = .ok (.putfield 68, 3) := by decide +kernel
theorem d_109_109 : decode (axt_b 109) 109 = .ok (.return_, 1) := by decide +kernel
theorem d_112_0 : decode (axt_b 112) 0 = .ok (.aload_n 0, 1) := by decide +kernel
theorem d_112_1 : decode (axt_b 112) 1 = .ok (.getfield 101, 3) := by decide +kernel
theorem d_112_4 : decode (axt_b 112) 4 = .ok (.aload_n 0, 1) := by decide +kernel
theorem d_112_5 : decode (axt_b 112) 5 = .ok (.getfield 88, 3) := by decide +kernel
theorem d_112_8 : decode (axt_b 112) 8 = .ok (.if_icmp .ne 4, 3) := by decide +kernel
theorem d_112_11 : decode (axt_b 112) 11 = .ok (.return_, 1) := by decide +kernel
theorem d_112_12 : decode (axt_b 112) 12 = .ok (.aload_n 0, 1) := by decide +kernel
theorem d_112_13 : decode (axt_b 112) 13 = .ok (.getfield 101, 3) := by decide +kernel
theorem d_112_16 : decode (axt_b 112) 16 = .ok (.ifCond .lt 14, 3) := by decide +kernel
theorem d_112_19 : decode (axt_b 112) 19 = .ok (.aload_n 0, 1) := by decide +kernel
theorem d_112_20 : decode (axt_b 112) 20 = .ok (.getfield 26, 3) := by decide +kernel
theorem d_112_23 : decode (axt_b 112) 23 = .ok (.aload_n 0, 1) := by decide +kernel
theorem d_112_24 : decode (axt_b 112) 24 = .ok (.getfield 101, 3) := by decide +kernel
theorem d_112_27 : decode (axt_b 112) 27 = .ok (.invokevirtual 178, 3) := by decide +kernel
theorem d_112_30 : decode (axt_b 112) 30 = .ok (.aload_n 0, 1) := by decide +kernel
theorem d_112_31 : decode (axt_b 112) 31 = .ok (.getfield 26, 3) := by decide +kernel
theorem d_112_34 : decode (axt_b 112) 34 = .ok (.aload_n 0, 1) := by decide +kernel
theorem d_112_35 : decode (axt_b 112) 35 = .ok (.getfield 88, 3) := by decide +kernel
theorem d_112_38 : decode (axt_b 112) 38 = .ok (.aload_n 0, 1) := by decide +kernel
theorem d_112_39 : decode (axt_b 112) 39 = .ok (.getfield 12, 3) := by decide +kernel
theorem d_112_42 : decode (axt_b 112) 42 = .ok (.getfield 78, 3) := by decide +kernel
theorem d_112_45 : decode (axt_b 112) 45 = .ok (.bipush 50, 2) := by decide +kernel
theorem d_112_47 : decode (axt_b 112) 47 = .ok (.aload_n 0, 1) := by decide +kernel
theorem d_112_48 : decode (axt_b 112) 48 = .ok (.getfield 12, 3) := by decide +kernel
theorem d_112_51 : decode (axt_b 112) 51 = .ok (.getfield 98, 3) := by decide +kernel
theorem d_112_54 : decode (axt_b 112) 54 = .ok (.invokevirtual 191, 3) := by decide +kernel
theorem d_112_57 : decode (axt_b 112) 57 = .ok (.aload_n 0, 1) := by decide +kernel
theorem d_112_58 : decode (axt_b 112) 58 = .ok (.aload_n 0, 1) := by decide +kernel
theorem d_112_59 : decode (axt_b 112) 59 = .ok (.getfield 88, 3) := by decide +kernel
theorem d_112_62 : decode (axt_b 112) 62 = .ok (.putfield 68, 3) := by decide +kernel
theorem d_112_65 : decode (axt_b 112) 65 = .ok (.return_, 1) := by decide +kernel
theorem d_113_0 : decode (axt_b 113) 0 = .ok (.aload_n 0, 1) := by decide +kernel
theorem d_113_1 : decode (axt_b 113) 1 = .ok (.getfield 101, 3) := by decide +kernel
theorem d_113_4 : decode (axt_b 113) 4 = .ok (.aload_n 0, 1) := by decide +kernel
theorem d_113_5 : decode (axt_b 113) 5 = .ok (.getfield 88, 3) := by decide +kernel
theorem d_113_8 : decode (axt_b 113) 8 = .ok (.if_icmp .ne 4, 3) := by decide +kernel
theorem d_113_11 : decode (axt_b 113) 11 = .ok (.return_, 1) := by decide +kernel
theorem d_113_12 : decode (axt_b 113) 12 = .ok (.aload_n 0, 1) := by decide +kernel
theorem d_113_13 : decode (axt_b 113) 13 = .ok (.getfield 26, 3) := by decide +kernel
theorem d_113_16 : decode (axt_b 113) 16 = .ok (.aload_n 0, 1) := by decide +kernel
theorem d_113_17 : decode (axt_b 113) 17 = .ok (.getfield 88, 3) := by decide +kernel
theorem d_113_20 : decode (axt_b 113) 20 = .ok (.aload_n 0, 1) := by decide +kernel
theorem d_113_21 : decode (axt_b 113) 21 = .ok (.getfield 12, 3) := by decide +kernel
theorem d_113_24 : decode (axt_b 113) 24 = .ok (.getfield 78, 3) := by decide +kernel
theorem d_113_27 : decode (axt_b 113) 27 = .ok (.bipush 50, 2) := by decide +kernel
theorem d_113_29 : decode (axt_b 113) 29 = .ok (.aload_n 0, 1) := by decide +kernel
theorem d_113_30 : decode (axt_b 113) 30 = .ok (.getfield 12, 3) := by decide +kernel
theorem d_113_33 : decode (axt_b 113) 33 = .ok (.getfield 98, 3) := by decide +kernel
theorem d_113_36 : decode (axt_b 113) 36 = .ok (.invokevirtual 191, 3) := by decide +kernel
theorem d_113_39 : decode (axt_b 113) 39 = .ok (.aload_n 0, 1) := by decide +kernel
theorem d_113_40 : decode (axt_b 113) 40 = .ok (.getfield 26, 3) := by decide +kernel
theorem d_113_43 : decode (axt_b 113) 43 = .ok (.aload_n 0, 1) := by decide +kernel
theorem d_113_44 : decode (axt_b 113) 44 = .ok (.getfield 101, 3) := by decide +kernel
theorem d_113_47 : decode (axt_b 113) 47 = .ok (.aload_n 0, 1) := by decide +kernel
theorem d_113_48 : decode (axt_b 113) 48 = .ok (.getfield 12, 3) := by decide +kernel
theorem d_113_51 : decode (axt_b 113) 51 = .ok (.getfield 78, 3) := by decide +kernel
theorem d_113_54 : decode (axt_b 113) 54 = .ok (.iconst 0, 1) := by decide +kernel
theorem d_113_55 : decode (axt_b 113) 55 = .ok (.aload_n 0, 1) := by decide +kernel
theorem d_113_56 : decode (axt_b 113) 56 = .ok (.getfield 12, 3) := by decide +kernel
theorem d_113_59 : decode (axt_b 113) 59 = .ok (.getfield 81, 3) := by decide +kernel
theorem d_113_62 : decode (axt_b 113) 62 = .ok (.invokevirtual 191, 3) := by decide +kernel
theorem d_113_65 : decode (axt_b 113) 65 = .ok (.aload_n 0, 1) := by decide +kernel
theorem d_113_66 : decode (axt_b 113) 66 = .ok (.aload_n 0, 1) := by decide +kernel
theorem d_113_67 : decode (axt_b 113) 67 = .ok (.getfield 88, 3) := by decide +kernel
theorem d_113_70 : decode (axt_b 113) 70 = .ok (.putfield 68, 3) := by decide +kernel
theorem d_113_73 : decode (axt_b 113) 73 = .ok (.aload_n 0, 1) := by decide +kernel
theorem d_113_74 : decode (axt_b 113) 74 = .ok (.aload_n 0, 1) := by decide +kernel
theorem d_113_75 : decode (axt_b 113) 75 = .ok (.getfield 101, 3) := by decide +kernel
theorem d_113_78 : decode (axt_b 113) 78 = .ok (.putfield 71, 3) := by decide +kernel
theorem d_113_81 : decode (axt_b 113) 81 = .ok (.return_, 1) := by decide +kernel
def PB (B : Nat → Int32) : Prop := ∀ i, i < 9 → ¬ B (i * 128) = 0 → plT (B (i * 128 + 1))
def FI (D : Nat → Nat → Int32) : Prop := ∃ f : Nat, f < 48 ∧ D 18 7 = nI f ∧ ¬ D 11 f < 0
/-- what sealItems needs -/
def SI (D : Nat → Nat → Int32) : Prop := SpC (D 18) (D 19) ∧ OKf (D 11) (D 18 13) ∧ OKf (D 11) (D 18 14) ∧ (D 18 11 = 0 ∨ FI D) ∧ PB (D 21)
theorem WI.ch {Z : ZT} {fl fl' : Int32} {jf jf' W W' Q B B' : Nat → Int32} (hW : WI Z fl jf W Q B) (h3 : ¬ W 3 = 2) (e3 : W' 3 = W 3) (e4 : W' 4 = W 4) (e5 : W' 5 = W 5) (e11 : W' 11 = W 11) (hB : PB B') : WI Z fl' jf' W' Q B' := by
  obtain ⟨w1, w2, w3, w4, w5, w6, w7, w8⟩ := hW
  refine ⟨w1, by rw [e3]; exact w2, by rw [e11]; exact w3, fun z => ?_, fun z => absurd (e3.symm.trans z) h3, fun z => ?_, fun z => ?_, fun i hi h => (hB i hi h).gd⟩
  · rw [e4]
    exact w4 (by rw [← e3]; exact z)
  · rw [e4]
    exact w6 (by rw [← e3]; exact z)
  · rw [e5]
    exact w7 (e3.symm.trans z)
theorem PB.of {B B' : Nat → Int32} (hB : PB B) (h : ∀ i, i < 9 → B' (i * 128) = B (i * 128) ∧ B' (i * 128 + 1) = B (i * 128 + 1)) : PB B' := fun i hi z => by
  rw [(h i hi).1] at z
  rw [(h i hi).2]
  exact hB i hi z
theorem mvB_out {F : Nat → Int32} {i j : Nat} : ∀ (m k : Nat) (t : Nat → Int32) (x : Nat), (x < (j + k) / 4 ∨ (j + k + m + 3) / 4 ≤ x) → mvB F i j m k t x = t x
  | 0, _, _, _, _ => rfl
  | m + 1, k, t, x, h => by
    show mvB F i j m (k + 1) _ x = t x
    rw [mvB_out m (k + 1) _ x (by omega), pk_un (by omega)]
theorem mvF_out {F t : Nat → Int32} {i j n x : Nat} (h : x < j / 4 ∨ (j + n + 3) / 4 ≤ x) : mvF F i j n t x = t x := by
  unfold mvF
  split
  · rw [mvB_out _ _ _ _ (by omega), pk_cpy_out (by omega)]
  · exact mvB_out _ _ _ _ (by omega)
theorem clB_out : ∀ (m k : Nat) (t : Nat → Int32) (x : Nat), (x < k / 4 ∨ (k + m + 3) / 4 ≤ x) → clB m k t x = t x
  | 0, _, _, _, _ => rfl
  | m + 1, k, t, x, h => by
    show clB m (k + 1) _ x = t x
    rw [clB_out m (k + 1) _ x (by omega), pk_un (by omega)]
theorem maxN {x y : Nat} (hx : x < 2 ^ 31) (hy : y < 2 ^ 31) : (if nI x < nI y then nI y else nI x) = nI (max x y) := by
  by_cases h : x < y
  · rw [if_pos (nI_lt h hy), Nat.max_eq_right (by omega)]
  · rw [if_neg (nI_nlt (by omega) hx), Nat.max_eq_left (by omega)]
theorem minN {x y : Nat} (hx : x < 2 ^ 31) (hy : y < 2 ^ 31) : (if nI y < nI x then nI y else nI x) = nI (min x y) := by
  by_cases h : y < x
  · rw [if_pos (nI_lt h hx), Nat.min_eq_right (by omega)]
  · rw [if_neg (nI_nlt (by omega) hy), Nat.min_eq_left (by omega)]
theorem OKf.up {jf : Nat → Int32} {y x : Int32} {f : Nat} (h : OKf jf y) (hx : ¬ x < 0) : OKf (upd jf f x) y := by
  rcases h with e | ⟨p, hp, e, hj⟩
  · exact Or.inl e
  · refine Or.inr ⟨p, hp, e, ?_⟩
    by_cases z : p = f
    · rw [z, pk_us]
      exact hx
    · rw [pk_un z]
      exact hj
theorem OKf.rm {jf : Nat → Int32} {y : Int32} {f : Nat} (h : OKf jf y) (hy : ¬ y = nI f) : OKf (upd jf f (-1)) y := by
  rcases h with e | ⟨p, hp, e, hj⟩
  · exact Or.inl e
  · refine Or.inr ⟨p, hp, e, ?_⟩
    rw [pk_un (fun z => hy (by rw [e, z]))]
    exact hj
theorem TI.id512 {Z : ZT} {fl : Int32} {jf zf nf fo vf : Nat → Int32} (hT : TI Z fl jf zf nf fo vf) {f : Nat} (hf : f < 48) (hj : ¬ jf f < 0) : (jf f).toNatClampNeg < 512 := by
  obtain ⟨i, hi, e⟩ := hT.jn hf hj
  rw [e, nI_clamp (by omega)]
  exact hi
def F_105 (nn gg : Nat) (C me : Int32) (f u b : Nat → Int32) (D : Nat → Nat → Int32) (K A : Int64) (Y : List Mg)  : St :=
  bnN ((D 18 4).toNatClampNeg) (fun o =>
    (va_up (va_up (va_up (va_up (va_up (va_up D 10 (upd (D 10) 9 (D 10 9 + 1))) 11 (upd (D 11) (addF (D 11) 47 0) (nI o))) 13 (upd (D 13) (addF (D 11) 47 0) (D 19 3))) 14 (va_cpy (D 20) (D 14) 0 (addF (D 11) 47 0 * 50) 50)) 15 (upd (D 15) o (nI (addF (D 11) 47 0)))) 18 (upd (upd (D 18) 7 (nI (addF (D 11) 47 0))) 13 (nI (addF (D 11) 47 0))), K ||| (1 <<< ((nI (addF (D 11) 47 0)).toInt64 &&& 63)), A, Y))
set_option maxRecDepth 100000 in
theorem s_105 {L : Nat} {xs : Nat → Int32} {fr lo : Nat} {Z : ZT} {n nd nn gg : Nat} {C me : Int32} {f : Nat → Int32} {q : Nat} {u b : Nat → Int32} {uv : Int32} {h0 h : ax_H} {D : Nat → Nat → Int32} {K A : Int64} {Y : List Mg}  (hfr : 3 ≤ fr) (hlo : 70 ≤ lo) (hC : CS n nd nn gg f) (hS : NS Z n nd nn gg C me f q u b uv h0 h D K A Y) (hI : NI Z nn D) (hne0 : ¬ D 18 3 = 0) (h3 : ¬ D 18 3 = 2) (hX : SpC (D 18) (D 19) ∧ OKf (D 11) (D 18 13) ∧ OKf (D 11) (D 18 14) ∧ PB (D 21)) (h48 : ¬ D 10 9 = 48) (h8 : OKf (D 11) (D 18 8)) : ax_M L xs 105 fr lo [.ref (nd + 18)] h (fun r h' => r = none ∧ PS Z n nd nn gg C me f q u b uv h0 h' (fun D' K' A' Y' => (D', K', A', Y') = F_105 nn gg C me f u b D K A Y ∧ SI D' ∧ FI D' ∧ OKf (D' 11) (D' 18 8) ∧ D' 18 3 = D 18 3 ∧ (D' 19 = D 19 ∧ D' 18 8 = D 18 8))) := by
  have hC0 := hC
  show ax_A (ax_step L xs) ((105, 0, fr, lo), [(0, .ref (nd + 18))], [], h) _
  obtain ⟨hnd, hn0, hnn3, hnn, hgg1, hgg, hRg⟩ := hC
  obtain ⟨hF, hN, hf, hn, hs, hp0, hu0⟩ := hS
  replace hF : ax_hs h [cNd n nd me D, cDk nd D, cAr nd 2 35840 D, cAr nd 3 4096 D, cAr nd 4 32 D, cAr nd 5 280 D, cAr nd 6 280 D, cLd n nd me D A, cAr nd 8 16 D, cAr nd 9 280 D, cTb nd gg D K, cAr nd 11 48 D, cAr nd 12 48 D, cAr nd 13 48 D, cAr nd 14 2400 D, cAr nd 15 512 D, cAr nd 16 961 D, cAr nd 17 961 D, cWk nd D, cWa nd D, cAr nd 20 612 D, cAr nd 21 1152 D, cRk n nn gg C, cOr n nn gg f] := hF
  obtain ⟨o, ho, eo, -⟩ := hI.2.2.1.2.2.2.1 hne0
  obtain ⟨hT2, hF48⟩ := hI.2.1.add h48 ho
  obtain ⟨l0, hl0, el0⟩ := hI.2.2.1.1.2.2.2.1
  refine ar_aload_n 1 d_105_0 rfl rfl ?_
  refine ar_aload_n 2 d_105_1 rfl rfl ?_
  refine ar_getf 5 d_105_2 rfl (ci := 10) (k := 0) rfl (hF.at 18 rfl) rfl ?_
  refine ar_aload_n 6 d_105_5 rfl rfl ?_
  refine ar_getf 9 d_105_6 rfl (ci := 10) (k := 4) rfl (hF.at 18 rfl) rfl ?_
  refine ar_top (x' := nI o) (eo) ?_
  refine ar_call (r := [.ref (nd + 18)]) (na := 0) (kd := 0) (cm := 106) (fr2 := fr - 1) (lo2 := lo - 22) 12 d_105_9 (ar_hoV (as := [.int (nI o)]) rfl rfl rfl (hF.at 10 rfl)) rfl (by omega) (show lo - 22 + (19 + 3) = lo by omega) (Nat.le_of_ble_eq_true rfl) (Nat.le_of_ble_eq_true rfl) (c_106 ho (hF.sub (F' := [cTb nd gg D K, cAr nd 11 48 D, cAr nd 15 512 D]) [10, 11, 15] rfl rfl) rfl rfl (by omega)) ?_
  intro v hp_1 hq
  obtain ⟨rfl, qF, qn, qs, qf⟩ := hq
  have qF : ax_hs hp_1 [(nd + 10, .inr (6, [.int (nI gg), .ref (nd + 11), .ref (nd + 12), .ref (nd + 13), .ref (nd + 14), .ref (nd + 15), .ref (nd + 16), .ref (nd + 17), .long (K ||| (1 <<< ((nI (addF (D 11) 47 0)).toInt64 &&& 63))), .int (D 10 9 + 1), .int (D 10 10)])), (nd + 11, .inl (0, 48, .inl (upd (D 11) (addF (D 11) 47 0) (nI o)))), (nd + 15, .inl (0, 512, .inl (upd (D 15) o (nI (addF (D 11) 47 0)))))] := qF
  replace hF : ax_hs hp_1 [cNd n nd me D, cDk nd D, cAr nd 2 35840 D, cAr nd 3 4096 D, cAr nd 4 32 D, cAr nd 5 280 D, cAr nd 6 280 D, cLd n nd me D A, cAr nd 8 16 D, cAr nd 9 280 D, cAr nd 12 48 D, cAr nd 13 48 D, cAr nd 14 2400 D, cAr nd 16 961 D, cAr nd 17 961 D, cWk nd D, cWa nd D, cAr nd 20 612 D, cAr nd 21 1152 D, cRk n nn gg C, cOr n nn gg f, (nd + 10, .inr (6, [.int (nI gg), .ref (nd + 11), .ref (nd + 12), .ref (nd + 13), .ref (nd + 14), .ref (nd + 15), .ref (nd + 16), .ref (nd + 17), .long (K ||| (1 <<< ((nI (addF (D 11) 47 0)).toInt64 &&& 63))), .int (D 10 9 + 1), .int (D 10 10)])), (nd + 11, .inl (0, 48, .inl (upd (D 11) (addF (D 11) 47 0) (nI o)))), (nd + 15, .inl (0, 512, .inl (upd (D 15) o (nI (addF (D 11) 47 0)))))] := ax_hs.call (rest := [cNd n nd me D, cDk nd D, cAr nd 2 35840 D, cAr nd 3 4096 D, cAr nd 4 32 D, cAr nd 5 280 D, cAr nd 6 280 D, cLd n nd me D A, cAr nd 8 16 D, cAr nd 9 280 D, cAr nd 12 48 D, cAr nd 13 48 D, cAr nd 14 2400 D, cAr nd 16 961 D, cAr nd 17 961 D, cWk nd D, cWa nd D, cAr nd 20 612 D, cAr nd 21 1152 D, cRk n nn gg C, cOr n nn gg f]) [10, 11, 15] [0, 1, 2, 3, 4, 5, 6, 7, 8, 9, 12, 13, 14, 16, 17, 18, 19, 20, 21, 22, 23] hF qf qF rfl rfl rfl [10, 11, 15] rfl rfl [10, 11, 15] (news := []) rfl rfl (fun _ z => absurd z List.not_mem_nil) rfl
  replace hF := hF.sub (F' := [cNd n nd me D, cDk nd D, cAr nd 2 35840 D, cAr nd 3 4096 D, cAr nd 4 32 D, cAr nd 5 280 D, cAr nd 6 280 D, cLd n nd me D A, cAr nd 8 16 D, cAr nd 9 280 D, (nd + 10, .inr (6, [.int (nI gg), .ref (nd + 11), .ref (nd + 12), .ref (nd + 13), .ref (nd + 14), .ref (nd + 15), .ref (nd + 16), .ref (nd + 17), .long (K ||| (1 <<< ((nI (addF (D 11) 47 0)).toInt64 &&& 63))), .int (D 10 9 + 1), .int (D 10 10)])), (nd + 11, .inl (0, 48, .inl (upd (D 11) (addF (D 11) 47 0) (nI o)))), cAr nd 12 48 D, cAr nd 13 48 D, cAr nd 14 2400 D, (nd + 15, .inl (0, 512, .inl (upd (D 15) o (nI (addF (D 11) 47 0))))), cAr nd 16 961 D, cAr nd 17 961 D, cWk nd D, cWa nd D, cAr nd 20 612 D, cAr nd 21 1152 D, cRk n nn gg C, cOr n nn gg f]) [0, 1, 2, 3, 4, 5, 6, 7, 8, 9, 21, 22, 10, 11, 12, 23, 13, 14, 15, 16, 17, 18, 19, 20] rfl rfl
  replace hN := hN.fr qf (fun x hx z => by simp only [List.mem_cons, List.not_mem_nil, or_false] at z; unfold NTA at hx; omega)
  replace hf := hf.trC qf (fun x _ z => Or.inr (by simp only [List.mem_cons, List.not_mem_nil, or_false] at z; omega))
  replace hn : hp_1.1 = h0.1 := by omega
  replace hs : hp_1.2.1 = h0.2.1 := by omega
  clear qF qn qs qf
  refine ar_putf 15 [.ref (nd + 10), .ref (nd + 19), .ref (nd + 21), .int (D 18 3), .int (D 18 4), .int (D 18 5), .int (D 18 6), .int (nI (addF (D 11) 47 0)), .int (D 18 8), .int (D 18 9), .int (D 18 10), .int (D 18 11), .int (D 18 12), .int (D 18 13), .int (D 18 14)] d_105_12 rfl (ci := 10) (k := 7) rfl rfl (hF.at 18 rfl) (Nat.le_of_ble_eq_true rfl) rfl rfl rfl ?_
  replace hF : ax_hs (ax_put hp_1 (nd + 18) (.inr (10, [.ref (nd + 10), .ref (nd + 19), .ref (nd + 21), .int (D 18 3), .int (D 18 4), .int (D 18 5), .int (D 18 6), .int (nI (addF (D 11) 47 0)), .int (D 18 8), .int (D 18 9), .int (D 18 10), .int (D 18 11), .int (D 18 12), .int (D 18 13), .int (D 18 14)]))) [cNd n nd me D, cDk nd D, cAr nd 2 35840 D, cAr nd 3 4096 D, cAr nd 4 32 D, cAr nd 5 280 D, cAr nd 6 280 D, cLd n nd me D A, cAr nd 8 16 D, cAr nd 9 280 D, (nd + 10, .inr (6, [.int (nI gg), .ref (nd + 11), .ref (nd + 12), .ref (nd + 13), .ref (nd + 14), .ref (nd + 15), .ref (nd + 16), .ref (nd + 17), .long (K ||| (1 <<< ((nI (addF (D 11) 47 0)).toInt64 &&& 63))), .int (D 10 9 + 1), .int (D 10 10)])), (nd + 11, .inl (0, 48, .inl (upd (D 11) (addF (D 11) 47 0) (nI o)))), cAr nd 12 48 D, cAr nd 13 48 D, cAr nd 14 2400 D, (nd + 15, .inl (0, 512, .inl (upd (D 15) o (nI (addF (D 11) 47 0))))), cAr nd 16 961 D, cAr nd 17 961 D, (nd + 18, .inr (10, [.ref (nd + 10), .ref (nd + 19), .ref (nd + 21), .int (D 18 3), .int (D 18 4), .int (D 18 5), .int (D 18 6), .int (nI (addF (D 11) 47 0)), .int (D 18 8), .int (D 18 9), .int (D 18 10), .int (D 18 11), .int (D 18 12), .int (D 18 13), .int (D 18 14)])), cWa nd D, cAr nd 20 612 D, cAr nd 21 1152 D, cRk n nn gg C, cOr n nn gg f] := hF.put 18 _ rfl rfl
  replace hf := hf.put (a := nd + 18) (c := .inr (10, [.ref (nd + 10), .ref (nd + 19), .ref (nd + 21), .int (D 18 3), .int (D 18 4), .int (D 18 5), .int (D 18 6), .int (nI (addF (D 11) 47 0)), .int (D 18 8), .int (D 18 9), .int (D 18 10), .int (D 18 11), .int (D 18 12), .int (D 18 13), .int (D 18 14)])) (Or.inr (by omega))
  replace hN := hN.put (a := nd + 18) (c := .inr (10, [.ref (nd + 10), .ref (nd + 19), .ref (nd + 21), .int (D 18 3), .int (D 18 4), .int (D 18 5), .int (D 18 6), .int (nI (addF (D 11) 47 0)), .int (D 18 8), .int (D 18 9), .int (D 18 10), .int (D 18 11), .int (D 18 12), .int (D 18 13), .int (D 18 14)])) (by omega)
  replace hn : (ax_put hp_1 (nd + 18) (.inr (10, [.ref (nd + 10), .ref (nd + 19), .ref (nd + 21), .int (D 18 3), .int (D 18 4), .int (D 18 5), .int (D 18 6), .int (nI (addF (D 11) 47 0)), .int (D 18 8), .int (D 18 9), .int (D 18 10), .int (D 18 11), .int (D 18 12), .int (D 18 13), .int (D 18 14)]))).1 = h0.1 := hn
  replace hs : (ax_put hp_1 (nd + 18) (.inr (10, [.ref (nd + 10), .ref (nd + 19), .ref (nd + 21), .int (D 18 3), .int (D 18 4), .int (D 18 5), .int (D 18 6), .int (nI (addF (D 11) 47 0)), .int (D 18 8), .int (D 18 9), .int (D 18 10), .int (D 18 11), .int (D 18 12), .int (D 18 13), .int (D 18 14)]))).2.1 = h0.2.1 := hs
  generalize ax_put hp_1 (nd + 18) (.inr (10, [.ref (nd + 10), .ref (nd + 19), .ref (nd + 21), .int (D 18 3), .int (D 18 4), .int (D 18 5), .int (D 18 6), .int (nI (addF (D 11) 47 0)), .int (D 18 8), .int (D 18 9), .int (D 18 10), .int (D 18 11), .int (D 18 12), .int (D 18 13), .int (D 18 14)])) = hp_2 at hF hf hN hn hs ⊢
  refine ar_aload_n 16 d_105_15 rfl rfl ?_
  refine ar_getf 19 d_105_16 rfl (ci := 10) (k := 0) rfl (hF.at 18 rfl) rfl ?_
  refine ar_aload_n 20 d_105_19 rfl rfl ?_
  refine ar_getf 23 d_105_20 rfl (ci := 10) (k := 7) rfl (hF.at 18 rfl) rfl ?_
  refine ar_aload_n 24 d_105_23 rfl rfl ?_
  refine ar_getf 27 d_105_24 rfl (ci := 10) (k := 1) rfl (hF.at 18 rfl) rfl ?_
  refine ar_getf 30 d_105_27 rfl (ci := 5) (k := 7) rfl (hF.at 19 rfl) rfl ?_
  refine ar_iconst 31 (v := 0) d_105_30 rfl (by decide) ?_
  refine ar_aload_n 32 d_105_31 rfl rfl ?_
  refine ar_getf 35 d_105_32 rfl (ci := 10) (k := 1) rfl (hF.at 18 rfl) rfl ?_
  refine ar_getf 38 d_105_35 rfl (ci := 5) (k := 3) rfl (hF.at 19 rfl) rfl ?_
  refine ar_call (r := []) (na := 0) (kd := 0) (cm := 86) (fr2 := fr - 1) (lo2 := lo - 24) 41 d_105_38 (ar_hoV (as := [.int (nI (addF (D 11) 47 0)), .ref (nd + 20), .int 0, .int (D 19 3)]) rfl rfl rfl (hF.at 10 rfl)) rfl (by omega) (show lo - 24 + (19 + 5) = lo by omega) (Nat.le_of_ble_eq_true rfl) (Nat.le_of_ble_eq_true rfl) (c_86 (by omega) (by omega) hF48 (by decide) (by omega) (hF.sub (F' := [(nd + 10, .inr (6, [.int (nI gg), .ref (nd + 11), .ref (nd + 12), .ref (nd + 13), .ref (nd + 14), .ref (nd + 15), .ref (nd + 16), .ref (nd + 17), .long (K ||| (1 <<< ((nI (addF (D 11) 47 0)).toInt64 &&& 63))), .int (D 10 9 + 1), .int (D 10 10)])), cAr nd 13 48 D, cAr nd 14 2400 D, cAr nd 20 612 D]) [10, 13, 14, 20] rfl rfl) rfl rfl (by omega) (p := 0)) ?_
  intro v hp_3 hq
  obtain ⟨rfl, qF, qn, qs, qf⟩ := hq
  have qF : ax_hs hp_3 [(nd + 10, .inr (6, [.int (nI gg), .ref (nd + 11), .ref (nd + 12), .ref (nd + 13), .ref (nd + 14), .ref (nd + 15), .ref (nd + 16), .ref (nd + 17), .long (K ||| (1 <<< ((nI (addF (D 11) 47 0)).toInt64 &&& 63))), .int (D 10 9 + 1), .int (D 10 10)])), (nd + 13, .inl (0, 48, .inl (upd (D 13) (addF (D 11) 47 0) (D 19 3)))), (nd + 14, .inl (0, 2400, .inl (va_cpy (D 20) (D 14) 0 (addF (D 11) 47 0 * 50) 50))), cAr nd 20 612 D] := qF
  replace hF : ax_hs hp_3 [cNd n nd me D, cDk nd D, cAr nd 2 35840 D, cAr nd 3 4096 D, cAr nd 4 32 D, cAr nd 5 280 D, cAr nd 6 280 D, cLd n nd me D A, cAr nd 8 16 D, cAr nd 9 280 D, (nd + 11, .inl (0, 48, .inl (upd (D 11) (addF (D 11) 47 0) (nI o)))), cAr nd 12 48 D, (nd + 15, .inl (0, 512, .inl (upd (D 15) o (nI (addF (D 11) 47 0))))), cAr nd 16 961 D, cAr nd 17 961 D, (nd + 18, .inr (10, [.ref (nd + 10), .ref (nd + 19), .ref (nd + 21), .int (D 18 3), .int (D 18 4), .int (D 18 5), .int (D 18 6), .int (nI (addF (D 11) 47 0)), .int (D 18 8), .int (D 18 9), .int (D 18 10), .int (D 18 11), .int (D 18 12), .int (D 18 13), .int (D 18 14)])), cWa nd D, cAr nd 21 1152 D, cRk n nn gg C, cOr n nn gg f, (nd + 10, .inr (6, [.int (nI gg), .ref (nd + 11), .ref (nd + 12), .ref (nd + 13), .ref (nd + 14), .ref (nd + 15), .ref (nd + 16), .ref (nd + 17), .long (K ||| (1 <<< ((nI (addF (D 11) 47 0)).toInt64 &&& 63))), .int (D 10 9 + 1), .int (D 10 10)])), (nd + 13, .inl (0, 48, .inl (upd (D 13) (addF (D 11) 47 0) (D 19 3)))), (nd + 14, .inl (0, 2400, .inl (va_cpy (D 20) (D 14) 0 (addF (D 11) 47 0 * 50) 50))), cAr nd 20 612 D] := ax_hs.call (rest := [cNd n nd me D, cDk nd D, cAr nd 2 35840 D, cAr nd 3 4096 D, cAr nd 4 32 D, cAr nd 5 280 D, cAr nd 6 280 D, cLd n nd me D A, cAr nd 8 16 D, cAr nd 9 280 D, (nd + 11, .inl (0, 48, .inl (upd (D 11) (addF (D 11) 47 0) (nI o)))), cAr nd 12 48 D, (nd + 15, .inl (0, 512, .inl (upd (D 15) o (nI (addF (D 11) 47 0))))), cAr nd 16 961 D, cAr nd 17 961 D, (nd + 18, .inr (10, [.ref (nd + 10), .ref (nd + 19), .ref (nd + 21), .int (D 18 3), .int (D 18 4), .int (D 18 5), .int (D 18 6), .int (nI (addF (D 11) 47 0)), .int (D 18 8), .int (D 18 9), .int (D 18 10), .int (D 18 11), .int (D 18 12), .int (D 18 13), .int (D 18 14)])), cWa nd D, cAr nd 21 1152 D, cRk n nn gg C, cOr n nn gg f]) [10, 13, 14, 20] [0, 1, 2, 3, 4, 5, 6, 7, 8, 9, 11, 12, 15, 16, 17, 18, 19, 21, 22, 23] hF qf qF rfl rfl rfl [13, 14] rfl rfl [10, 13, 14, 20] (news := []) rfl rfl (fun _ z => absurd z List.not_mem_nil) rfl
  replace hF := hF.sub (F' := [cNd n nd me D, cDk nd D, cAr nd 2 35840 D, cAr nd 3 4096 D, cAr nd 4 32 D, cAr nd 5 280 D, cAr nd 6 280 D, cLd n nd me D A, cAr nd 8 16 D, cAr nd 9 280 D, (nd + 10, .inr (6, [.int (nI gg), .ref (nd + 11), .ref (nd + 12), .ref (nd + 13), .ref (nd + 14), .ref (nd + 15), .ref (nd + 16), .ref (nd + 17), .long (K ||| (1 <<< ((nI (addF (D 11) 47 0)).toInt64 &&& 63))), .int (D 10 9 + 1), .int (D 10 10)])), (nd + 11, .inl (0, 48, .inl (upd (D 11) (addF (D 11) 47 0) (nI o)))), cAr nd 12 48 D, (nd + 13, .inl (0, 48, .inl (upd (D 13) (addF (D 11) 47 0) (D 19 3)))), (nd + 14, .inl (0, 2400, .inl (va_cpy (D 20) (D 14) 0 (addF (D 11) 47 0 * 50) 50))), (nd + 15, .inl (0, 512, .inl (upd (D 15) o (nI (addF (D 11) 47 0))))), cAr nd 16 961 D, cAr nd 17 961 D, (nd + 18, .inr (10, [.ref (nd + 10), .ref (nd + 19), .ref (nd + 21), .int (D 18 3), .int (D 18 4), .int (D 18 5), .int (D 18 6), .int (nI (addF (D 11) 47 0)), .int (D 18 8), .int (D 18 9), .int (D 18 10), .int (D 18 11), .int (D 18 12), .int (D 18 13), .int (D 18 14)])), cWa nd D, cAr nd 20 612 D, cAr nd 21 1152 D, cRk n nn gg C, cOr n nn gg f]) [0, 1, 2, 3, 4, 5, 6, 7, 8, 9, 20, 10, 11, 21, 22, 12, 13, 14, 15, 16, 23, 17, 18, 19] rfl rfl
  replace hN := hN.fr qf (fun x hx z => by simp only [List.mem_cons, List.not_mem_nil, or_false] at z; unfold NTA at hx; omega)
  replace hf := hf.trC qf (fun x _ z => Or.inr (by simp only [List.mem_cons, List.not_mem_nil, or_false] at z; omega))
  replace hn : hp_3.1 = h0.1 := by omega
  replace hs : hp_3.2.1 = h0.2.1 := by omega
  clear qF qn qs qf
  refine ar_aload_n 42 d_105_41 rfl rfl ?_
  refine ar_aload_n 43 d_105_42 rfl rfl ?_
  refine ar_getf 46 d_105_43 rfl (ci := 10) (k := 7) rfl (hF.at 18 rfl) rfl ?_
  refine ar_putf 49 [.ref (nd + 10), .ref (nd + 19), .ref (nd + 21), .int (D 18 3), .int (D 18 4), .int (D 18 5), .int (D 18 6), .int (nI (addF (D 11) 47 0)), .int (D 18 8), .int (D 18 9), .int (D 18 10), .int (D 18 11), .int (D 18 12), .int (nI (addF (D 11) 47 0)), .int (D 18 14)] d_105_46 rfl (ci := 10) (k := 13) rfl rfl (hF.at 18 rfl) (Nat.le_of_ble_eq_true rfl) rfl rfl rfl ?_
  replace hF : ax_hs (ax_put hp_3 (nd + 18) (.inr (10, [.ref (nd + 10), .ref (nd + 19), .ref (nd + 21), .int (D 18 3), .int (D 18 4), .int (D 18 5), .int (D 18 6), .int (nI (addF (D 11) 47 0)), .int (D 18 8), .int (D 18 9), .int (D 18 10), .int (D 18 11), .int (D 18 12), .int (nI (addF (D 11) 47 0)), .int (D 18 14)]))) [cNd n nd me D, cDk nd D, cAr nd 2 35840 D, cAr nd 3 4096 D, cAr nd 4 32 D, cAr nd 5 280 D, cAr nd 6 280 D, cLd n nd me D A, cAr nd 8 16 D, cAr nd 9 280 D, (nd + 10, .inr (6, [.int (nI gg), .ref (nd + 11), .ref (nd + 12), .ref (nd + 13), .ref (nd + 14), .ref (nd + 15), .ref (nd + 16), .ref (nd + 17), .long (K ||| (1 <<< ((nI (addF (D 11) 47 0)).toInt64 &&& 63))), .int (D 10 9 + 1), .int (D 10 10)])), (nd + 11, .inl (0, 48, .inl (upd (D 11) (addF (D 11) 47 0) (nI o)))), cAr nd 12 48 D, (nd + 13, .inl (0, 48, .inl (upd (D 13) (addF (D 11) 47 0) (D 19 3)))), (nd + 14, .inl (0, 2400, .inl (va_cpy (D 20) (D 14) 0 (addF (D 11) 47 0 * 50) 50))), (nd + 15, .inl (0, 512, .inl (upd (D 15) o (nI (addF (D 11) 47 0))))), cAr nd 16 961 D, cAr nd 17 961 D, (nd + 18, .inr (10, [.ref (nd + 10), .ref (nd + 19), .ref (nd + 21), .int (D 18 3), .int (D 18 4), .int (D 18 5), .int (D 18 6), .int (nI (addF (D 11) 47 0)), .int (D 18 8), .int (D 18 9), .int (D 18 10), .int (D 18 11), .int (D 18 12), .int (nI (addF (D 11) 47 0)), .int (D 18 14)])), cWa nd D, cAr nd 20 612 D, cAr nd 21 1152 D, cRk n nn gg C, cOr n nn gg f] := hF.put 18 _ rfl rfl
  replace hf := hf.put (a := nd + 18) (c := .inr (10, [.ref (nd + 10), .ref (nd + 19), .ref (nd + 21), .int (D 18 3), .int (D 18 4), .int (D 18 5), .int (D 18 6), .int (nI (addF (D 11) 47 0)), .int (D 18 8), .int (D 18 9), .int (D 18 10), .int (D 18 11), .int (D 18 12), .int (nI (addF (D 11) 47 0)), .int (D 18 14)])) (Or.inr (by omega))
  replace hN := hN.put (a := nd + 18) (c := .inr (10, [.ref (nd + 10), .ref (nd + 19), .ref (nd + 21), .int (D 18 3), .int (D 18 4), .int (D 18 5), .int (D 18 6), .int (nI (addF (D 11) 47 0)), .int (D 18 8), .int (D 18 9), .int (D 18 10), .int (D 18 11), .int (D 18 12), .int (nI (addF (D 11) 47 0)), .int (D 18 14)])) (by omega)
  replace hn : (ax_put hp_3 (nd + 18) (.inr (10, [.ref (nd + 10), .ref (nd + 19), .ref (nd + 21), .int (D 18 3), .int (D 18 4), .int (D 18 5), .int (D 18 6), .int (nI (addF (D 11) 47 0)), .int (D 18 8), .int (D 18 9), .int (D 18 10), .int (D 18 11), .int (D 18 12), .int (nI (addF (D 11) 47 0)), .int (D 18 14)]))).1 = h0.1 := hn
  replace hs : (ax_put hp_3 (nd + 18) (.inr (10, [.ref (nd + 10), .ref (nd + 19), .ref (nd + 21), .int (D 18 3), .int (D 18 4), .int (D 18 5), .int (D 18 6), .int (nI (addF (D 11) 47 0)), .int (D 18 8), .int (D 18 9), .int (D 18 10), .int (D 18 11), .int (D 18 12), .int (nI (addF (D 11) 47 0)), .int (D 18 14)]))).2.1 = h0.2.1 := hs
  generalize ax_put hp_3 (nd + 18) (.inr (10, [.ref (nd + 10), .ref (nd + 19), .ref (nd + 21), .int (D 18 3), .int (D 18 4), .int (D 18 5), .int (D 18 6), .int (nI (addF (D 11) 47 0)), .int (D 18 8), .int (D 18 9), .int (D 18 10), .int (D 18 11), .int (D 18 12), .int (nI (addF (D 11) 47 0)), .int (D 18 14)])) = hp_4 at hF hf hN hn hs ⊢
  have hS9 : NS Z n nd nn gg C me f q u b uv h0 hp_4 (va_up (va_up (va_up (va_up (va_up (va_up D 10 (upd (D 10) 9 (D 10 9 + 1))) 11 (upd (D 11) (addF (D 11) 47 0) (nI o))) 13 (upd (D 13) (addF (D 11) 47 0) (D 19 3))) 14 (va_cpy (D 20) (D 14) 0 (addF (D 11) 47 0 * 50) 50)) 15 (upd (D 15) o (nI (addF (D 11) 47 0)))) 18 (upd (upd (D 18) 7 (nI (addF (D 11) 47 0))) 13 (nI (addF (D 11) 47 0)))) (K ||| (1 <<< ((nI (addF (D 11) 47 0)).toInt64 &&& 63))) A Y := ⟨hF, hN, hf, hn, hs, hp0, hu0⟩
  have hI9 : NI Z nn (va_up (va_up (va_up (va_up (va_up (va_up D 10 (upd (D 10) 9 (D 10 9 + 1))) 11 (upd (D 11) (addF (D 11) 47 0) (nI o))) 13 (upd (D 13) (addF (D 11) 47 0) (D 19 3))) 14 (va_cpy (D 20) (D 14) 0 (addF (D 11) 47 0 * 50) 50)) 15 (upd (D 15) o (nI (addF (D 11) 47 0)))) 18 (upd (upd (D 18) 7 (nI (addF (D 11) 47 0))) 13 (nI (addF (D 11) 47 0)))) := ⟨hI.1, hT2.name ⟨l0, by omega, el0⟩, hI.2.2.1.ch h3 rfl rfl rfl rfl hX.2.2.2, hI.2.2.2⟩
  exact ar_ret d_105_49 rfl (⟨rfl, _, _, _, _, hS9, hI9, bnN_eq (cl_eq ho eo) (rfl), ⟨hX.1, Or.inr ⟨addF (D 11) 47 0, hF48, rfl, by show ¬ upd (D 11) (addF (D 11) 47 0) (nI o) (addF (D 11) 47 0) < 0; rw [pk_us]; exact nI_pos (by omega)⟩, hX.2.2.1.up (nI_pos (by omega)), Or.inr ⟨addF (D 11) 47 0, hF48, rfl, by show ¬ upd (D 11) (addF (D 11) 47 0) (nI o) (addF (D 11) 47 0) < 0; rw [pk_us]; exact nI_pos (by omega)⟩, hX.2.2.2⟩, ⟨addF (D 11) 47 0, hF48, rfl, by show ¬ upd (D 11) (addF (D 11) 47 0) (nI o) (addF (D 11) 47 0) < 0; rw [pk_us]; exact nI_pos (by omega)⟩, h8.up (nI_pos (by omega)), rfl, rfl, rfl⟩)
def G_107 (nn gg : Nat) (C me : Int32) (f u b : Nat → Int32) (zz : Int32) : Nat → Nat → (Nat → Nat → Int32) → Int64 → Int64 → List Mg → St
  | 0, i, D1, K, A, Y =>
    (D1, K, A, Y)
  | k + 1, i, D1, K, A, Y =>
    bnN ((D1 19 1).toNatClampNeg) (fun a =>
      bnN ((D1 18 9).toNatClampNeg) (fun sp =>
        if zz = 0 then
          G_107 nn gg C me f u b zz k (i + 1) (va_up D1 20 (mvF (D1 21) (i * 512 + 60 + max a ((a / 448 + i) * 448) - ((a / 448 + i) * 448)) (400 + max a ((a / 448 + i) * 448) - a) (min (a + sp) (((a / 448 + i) * 448) + 448) - max a ((a / 448 + i) * 448)) (D1 20))) K A Y
        else
          G_107 nn gg C me f u b zz k (i + 1) (va_up D1 21 (mvF (D1 20) (400 + max a ((a / 448 + i) * 448) - a) (i * 512 + 60 + max a ((a / 448 + i) * 448) - ((a / 448 + i) * 448)) (min (a + sp) (((a / 448 + i) * 448) + 448) - max a ((a / 448 + i) * 448)) (D1 21))) K A Y))
def F_107 (nn gg : Nat) (C me : Int32) (f u b : Nat → Int32) (D : Nat → Nat → Int32) (K A : Int64) (Y : List Mg) (zz : Int32) : St :=
  bnN ((D 18 11).toNatClampNeg) (fun c =>
    G_107 nn gg C me f u b zz c 0 D K A Y)
set_option maxRecDepth 100000 in
theorem s_107 {L : Nat} {xs : Nat → Int32} {fr lo : Nat} {Z : ZT} {n nd nn gg : Nat} {C me : Int32} {f : Nat → Int32} {q : Nat} {u b : Nat → Int32} {uv : Int32} {h0 h : ax_H} {D : Nat → Nat → Int32} {K A : Int64} {Y : List Mg} {zz : Int32} (hfr : 3 ≤ fr) (hlo : 80 ≤ lo) (hC : CS n nd nn gg f) (hS : NS Z n nd nn gg C me f q u b uv h0 h D K A Y) (hI : NI Z nn D) (h3 : ¬ D 18 3 = 2) (hX : SI D) : ax_M L xs 107 fr lo [.ref (nd + 18), .int zz] h (fun r h' => r = none ∧ PS Z n nd nn gg C me f q u b uv h0 h' (fun D' K' A' Y' => (D', K', A', Y') = F_107 nn gg C me f u b D K A Y zz ∧ (∀ c, c ≠ 20 → c ≠ 21 → D' c = D c) ∧ PB (D' 21))) := by
  have hC0 := hC
  obtain ⟨⟨sp, c, hsp, e9, e11, hs0, hs1⟩, -, -, -, hPB⟩ := hX
  have hc7 : c < 7 := by
    rcases Nat.eq_zero_or_pos sp with e | e
    · have := hs0 e
      omega
    · obtain ⟨a, _, ha, _, ec⟩ := hs1 e
      omega
  have key : ∀ (k i : Nat) (h : ax_H) (D1 : Nat → Nat → Int32) (K A : Int64) (Y : List Mg), i + k = c → NS Z n nd nn gg C me f q u b uv h0 h D1 K A Y → NI Z nn D1 → (∀ c, c ≠ 20 → c ≠ 21 → D1 c = D c) ∧ PB (D1 21) → ax_A (ax_step L xs) ((107, 2, fr, lo), [(0, .ref (nd + 18)), (1, .int zz), (2, .int (nI i))], [], h) (fun r h' => r = none ∧ PS Z n nd nn gg C me f q u b uv h0 h' (fun D' K' A' Y' => (D', K', A', Y') = G_107 nn gg C me f u b zz k i D1 K A Y ∧ (∀ c, c ≠ 20 → c ≠ 21 → D' c = D c) ∧ PB (D' 21))) := by
    intro k
    induction k with
    | zero =>
      intro i h D1 K A Y hi hS hI hR
      have e0 : i = c := by omega
      subst e0
      have e18 : D1 18 = D 18 := hR.1 18 (by decide) (by decide)
      obtain ⟨hnd, hn0, hnn3, hnn, hgg1, hgg, hRg⟩ := hC
      obtain ⟨hF, hN, hf, hn, hs, hp0, hu0⟩ := hS
      replace hF : ax_hs h [cNd n nd me D1, cDk nd D1, cAr nd 2 35840 D1, cAr nd 3 4096 D1, cAr nd 4 32 D1, cAr nd 5 280 D1, cAr nd 6 280 D1, cLd n nd me D1 A, cAr nd 8 16 D1, cAr nd 9 280 D1, cTb nd gg D1 K, cAr nd 11 48 D1, cAr nd 12 48 D1, cAr nd 13 48 D1, cAr nd 14 2400 D1, cAr nd 15 512 D1, cAr nd 16 961 D1, cAr nd 17 961 D1, cWk nd D1, cWa nd D1, cAr nd 20 612 D1, cAr nd 21 1152 D1, cRk n nn gg C, cOr n nn gg f] := hF
      refine ar_iload_n 3 d_107_2 rfl rfl ?_
      refine ar_aload_n 4 d_107_3 rfl rfl ?_
      refine ar_getf 7 d_107_4 rfl (ci := 10) (k := 11) rfl (hF.at 18 rfl) rfl ?_
      refine ar_icmp_ge 146 10 d_107_7 (by decide) rfl (fun _ => ?_) (fun c => absurd (by rw [e18, e11]; exact Int32.le_refl _) c)
      have hS9 : NS Z n nd nn gg C me f q u b uv h0 h D1 K A Y := ⟨hF, hN, hf, hn, hs, hp0, hu0⟩
      have hI9 : NI Z nn D1 := hI
      exact ar_ret d_107_146 rfl (⟨rfl, _, _, _, _, hS9, hI9, rfl, hR⟩)
    | succ k ih =>
      intro i h D1 K A Y hi hS hI hR
      have hic : i < c := by omega
      have hsp0 : 0 < sp := Nat.pos_of_ne_zero (fun z => by have := hs0 z; omega)
      obtain ⟨a, ea, ha, e10, ec⟩ := hs1 hsp0
      have e18 : D1 18 = D 18 := hR.1 18 (by decide) (by decide)
      have e19 : D1 19 = D 19 := hR.1 19 (by decide) (by decide)
      have hc6 : c ≤ 6 := by omega
      have hst : (a / 448 + i) * 448 < a + sp := by omega
      have hst2 : a < (a / 448 + i) * 448 + 448 := by omega
      have hst3 : (a / 448 + i) * 448 ≤ 8192 := by omega
      obtain ⟨hnd, hn0, hnn3, hnn, hgg1, hgg, hRg⟩ := hC
      obtain ⟨hF, hN, hf, hn, hs, hp0, hu0⟩ := hS
      replace hF : ax_hs h [cNd n nd me D1, cDk nd D1, cAr nd 2 35840 D1, cAr nd 3 4096 D1, cAr nd 4 32 D1, cAr nd 5 280 D1, cAr nd 6 280 D1, cLd n nd me D1 A, cAr nd 8 16 D1, cAr nd 9 280 D1, cTb nd gg D1 K, cAr nd 11 48 D1, cAr nd 12 48 D1, cAr nd 13 48 D1, cAr nd 14 2400 D1, cAr nd 15 512 D1, cAr nd 16 961 D1, cAr nd 17 961 D1, cWk nd D1, cWa nd D1, cAr nd 20 612 D1, cAr nd 21 1152 D1, cRk n nn gg C, cOr n nn gg f] := hF
      refine ar_iload_n 3 d_107_2 rfl rfl ?_
      refine ar_aload_n 4 d_107_3 rfl rfl ?_
      refine ar_getf 7 d_107_4 rfl (ci := 10) (k := 11) rfl (hF.at 18 rfl) rfl ?_
      refine ar_icmp_ge 146 10 d_107_7 (by decide) rfl (fun c => absurd c (by rw [e18, e11]; exact nI_ge hic (by omega))) (fun _ => ?_)
      refine ar_aload_n 11 d_107_10 rfl rfl ?_
      refine ar_getf 14 d_107_11 rfl (ci := 10) (k := 10) rfl (hF.at 18 rfl) rfl ?_
      refine ar_top (x' := nI (a / 448)) (by rw [e18]; exact e10) ?_
      refine ar_iload_n 15 d_107_14 rfl rfl ?_
      refine ar_iadd 16 d_107_15 rfl ?_
      refine ar_top (x' := nI (a / 448 + i)) (nI_add _ _) ?_
      refine ar_sipush 19 (v := 448) d_107_16 rfl (by decide) ?_
      refine ar_imul 20 d_107_19 rfl ?_
      refine ar_top (x' := nI ((a / 448 + i) * 448)) (pk_mul _ 448) ?_
      refine ar_istore_n 21 [(0, .ref (nd + 18)), (1, .int zz), (2, .int (nI i)), (3, .int (nI ((a / 448 + i) * 448)))] d_107_20 rfl (by decide) rfl ?_
      refine ar_aload_n 22 d_107_21 rfl rfl ?_
      refine ar_getf 25 d_107_22 rfl (ci := 10) (k := 1) rfl (hF.at 18 rfl) rfl ?_
      refine ar_getf 28 d_107_25 rfl (ci := 5) (k := 1) rfl (hF.at 19 rfl) rfl ?_
      refine ar_top (x' := nI a) (by rw [e19]; exact ea) ?_
      refine ar_iload_n 29 d_107_28 rfl rfl ?_
      refine ar_max 32 d_107_29 rfl rfl (by omega) (by show 0 + 13 ≤ lo; omega) (w := nI (max a ((a / 448 + i) * 448))) (maxN (by omega) (by omega)) ?_
      refine ar_istore 34 [(0, .ref (nd + 18)), (1, .int zz), (2, .int (nI i)), (3, .int (nI ((a / 448 + i) * 448))), (4, .int (nI (max a ((a / 448 + i) * 448))))] d_107_32 rfl (by decide) rfl ?_
      refine ar_aload_n 35 d_107_34 rfl rfl ?_
      refine ar_getf 38 d_107_35 rfl (ci := 10) (k := 1) rfl (hF.at 18 rfl) rfl ?_
      refine ar_getf 41 d_107_38 rfl (ci := 5) (k := 1) rfl (hF.at 19 rfl) rfl ?_
      refine ar_top (x' := nI a) (by rw [e19]; exact ea) ?_
      refine ar_aload_n 42 d_107_41 rfl rfl ?_
      refine ar_getf 45 d_107_42 rfl (ci := 10) (k := 9) rfl (hF.at 18 rfl) rfl ?_
      refine ar_top (x' := nI sp) (by rw [e18]; exact e9) ?_
      refine ar_iadd 46 d_107_45 rfl ?_
      refine ar_top (x' := nI (a + sp)) (nI_add _ _) ?_
      refine ar_iload_n 47 d_107_46 rfl rfl ?_
      refine ar_sipush 50 (v := 448) d_107_47 rfl (by decide) ?_
      refine ar_iadd 51 d_107_50 rfl ?_
      refine ar_top (x' := nI (((a / 448 + i) * 448) + 448)) (nI_add _ 448) ?_
      refine ar_min 54 d_107_51 rfl rfl (by omega) (by show 0 + 13 ≤ lo; omega) (w := nI (min (a + sp) (((a / 448 + i) * 448) + 448))) (minN (by omega) (by omega)) ?_
      refine ar_istore 56 [(0, .ref (nd + 18)), (1, .int zz), (2, .int (nI i)), (3, .int (nI ((a / 448 + i) * 448))), (4, .int (nI (max a ((a / 448 + i) * 448)))), (5, .int (nI (min (a + sp) (((a / 448 + i) * 448) + 448))))] d_107_54 rfl (by decide) rfl ?_
      refine ar_sipush 59 (v := 400) d_107_56 rfl (by decide) ?_
      refine ar_iload 61 d_107_59 rfl rfl ?_
      refine ar_iadd 62 d_107_61 rfl ?_
      refine ar_top (x' := nI (400 + max a ((a / 448 + i) * 448))) (nI_add 400 _) ?_
      refine ar_aload_n 63 d_107_62 rfl rfl ?_
      refine ar_getf 66 d_107_63 rfl (ci := 10) (k := 1) rfl (hF.at 18 rfl) rfl ?_
      refine ar_getf 69 d_107_66 rfl (ci := 5) (k := 1) rfl (hF.at 19 rfl) rfl ?_
      refine ar_top (x' := nI a) (by rw [e19]; exact ea) ?_
      refine ar_isub 70 d_107_69 rfl ?_
      refine ar_top (x' := nI (400 + max a ((a / 448 + i) * 448) - a)) (pk_sub (by omega)) ?_
      refine ar_istore 72 [(0, .ref (nd + 18)), (1, .int zz), (2, .int (nI i)), (3, .int (nI ((a / 448 + i) * 448))), (4, .int (nI (max a ((a / 448 + i) * 448)))), (5, .int (nI (min (a + sp) (((a / 448 + i) * 448) + 448)))), (6, .int (nI (400 + max a ((a / 448 + i) * 448) - a)))] d_107_70 rfl (by decide) rfl ?_
      refine ar_iload_n 73 d_107_72 rfl rfl ?_
      refine ar_sipush 76 (v := 512) d_107_73 rfl (by decide) ?_
      refine ar_imul 77 d_107_76 rfl ?_
      refine ar_top (x' := nI (i * 512)) (pk_mul _ 512) ?_
      refine ar_bipush 79 (v := 60) d_107_77 rfl (by decide) ?_
      refine ar_iadd 80 d_107_79 rfl ?_
      refine ar_top (x' := nI (i * 512 + 60)) (nI_add _ 60) ?_
      refine ar_iload 82 d_107_80 rfl rfl ?_
      refine ar_iadd 83 d_107_82 rfl ?_
      refine ar_top (x' := nI (i * 512 + 60 + max a ((a / 448 + i) * 448))) (nI_add _ _) ?_
      refine ar_iload_n 84 d_107_83 rfl rfl ?_
      refine ar_isub 85 d_107_84 rfl ?_
      refine ar_top (x' := nI (i * 512 + 60 + max a ((a / 448 + i) * 448) - ((a / 448 + i) * 448))) (pk_sub (by omega)) ?_
      refine ar_istore 87 [(0, .ref (nd + 18)), (1, .int zz), (2, .int (nI i)), (3, .int (nI ((a / 448 + i) * 448))), (4, .int (nI (max a ((a / 448 + i) * 448)))), (5, .int (nI (min (a + sp) (((a / 448 + i) * 448) + 448)))), (6, .int (nI (400 + max a ((a / 448 + i) * 448) - a))), (7, .int (nI (i * 512 + 60 + max a ((a / 448 + i) * 448) - ((a / 448 + i) * 448))))] d_107_85 rfl (by decide) rfl ?_
      refine ar_iload_n 88 d_107_87 rfl rfl ?_
      refine ar_if_eq 117 91 d_107_88 (by decide) rfl (fun c1 => ?_) (fun c1 => ?_)
      · refine ar_aload_n 118 d_107_117 rfl rfl ?_
        refine ar_getf 121 d_107_118 rfl (ci := 10) (k := 2) rfl (hF.at 18 rfl) rfl ?_
        refine ar_iload 123 d_107_121 rfl rfl ?_
        refine ar_aload_n 124 d_107_123 rfl rfl ?_
        refine ar_getf 127 d_107_124 rfl (ci := 10) (k := 1) rfl (hF.at 18 rfl) rfl ?_
        refine ar_getf 130 d_107_127 rfl (ci := 5) (k := 7) rfl (hF.at 19 rfl) rfl ?_
        refine ar_iload 132 d_107_130 rfl rfl ?_
        refine ar_iload 134 d_107_132 rfl rfl ?_
        refine ar_iload 136 d_107_134 rfl rfl ?_
        refine ar_isub 137 d_107_136 rfl ?_
        refine ar_top (x' := nI (min (a + sp) (((a / 448 + i) * 448) + 448) - max a ((a / 448 + i) * 448))) (pk_sub (by omega)) ?_
        refine ar_call (r := []) (na := 0) (kd := 0) (cm := 43) (fr2 := fr - 1) (lo2 := lo - 27) 140 d_107_137 (ar_hoS (as := [.ref (nd + 21), .int (nI (i * 512 + 60 + max a ((a / 448 + i) * 448) - ((a / 448 + i) * 448))), .ref (nd + 20), .int (nI (400 + max a ((a / 448 + i) * 448) - a)), .int (nI (min (a + sp) (((a / 448 + i) * 448) + 448) - max a ((a / 448 + i) * 448)))]) rfl rfl rfl) rfl (by omega) (show lo - 27 + (19 + 8) = lo by omega) (Nat.le_of_ble_eq_true rfl) (Nat.le_of_ble_eq_true rfl) (c_43 (i := (i * 512 + 60 + max a ((a / 448 + i) * 448) - ((a / 448 + i) * 448))) (j := (400 + max a ((a / 448 + i) * 448) - a)) (n0 := (min (a + sp) (((a / 448 + i) * 448) + 448) - max a ((a / 448 + i) * 448))) (by omega) (by omega) (by decide) (by decide) (by omega) (by omega) (hF.sub (F' := [cAr nd 21 1152 D1, cAr nd 20 612 D1]) [21, 20] rfl rfl) rfl rfl (by omega)) ?_
        intro v hp_2 hq
        obtain ⟨rfl, qF, qn, qs, qf⟩ := hq
        have qF : ax_hs hp_2 [cAr nd 21 1152 D1, (nd + 20, .inl (0, 612, .inl (mvF (D1 21) (i * 512 + 60 + max a ((a / 448 + i) * 448) - ((a / 448 + i) * 448)) (400 + max a ((a / 448 + i) * 448) - a) (min (a + sp) (((a / 448 + i) * 448) + 448) - max a ((a / 448 + i) * 448)) (D1 20))))] := qF
        replace hF : ax_hs hp_2 [cNd n nd me D1, cDk nd D1, cAr nd 2 35840 D1, cAr nd 3 4096 D1, cAr nd 4 32 D1, cAr nd 5 280 D1, cAr nd 6 280 D1, cLd n nd me D1 A, cAr nd 8 16 D1, cAr nd 9 280 D1, cTb nd gg D1 K, cAr nd 11 48 D1, cAr nd 12 48 D1, cAr nd 13 48 D1, cAr nd 14 2400 D1, cAr nd 15 512 D1, cAr nd 16 961 D1, cAr nd 17 961 D1, cWk nd D1, cWa nd D1, cRk n nn gg C, cOr n nn gg f, cAr nd 21 1152 D1, (nd + 20, .inl (0, 612, .inl (mvF (D1 21) (i * 512 + 60 + max a ((a / 448 + i) * 448) - ((a / 448 + i) * 448)) (400 + max a ((a / 448 + i) * 448) - a) (min (a + sp) (((a / 448 + i) * 448) + 448) - max a ((a / 448 + i) * 448)) (D1 20))))] := ax_hs.call (rest := [cNd n nd me D1, cDk nd D1, cAr nd 2 35840 D1, cAr nd 3 4096 D1, cAr nd 4 32 D1, cAr nd 5 280 D1, cAr nd 6 280 D1, cLd n nd me D1 A, cAr nd 8 16 D1, cAr nd 9 280 D1, cTb nd gg D1 K, cAr nd 11 48 D1, cAr nd 12 48 D1, cAr nd 13 48 D1, cAr nd 14 2400 D1, cAr nd 15 512 D1, cAr nd 16 961 D1, cAr nd 17 961 D1, cWk nd D1, cWa nd D1, cRk n nn gg C, cOr n nn gg f]) [21, 20] [0, 1, 2, 3, 4, 5, 6, 7, 8, 9, 10, 11, 12, 13, 14, 15, 16, 17, 18, 19, 22, 23] hF qf qF rfl rfl rfl [20] rfl rfl [21, 20] (news := []) rfl rfl (fun _ z => absurd z List.not_mem_nil) rfl
        replace hF := hF.sub (F' := [cNd n nd me D1, cDk nd D1, cAr nd 2 35840 D1, cAr nd 3 4096 D1, cAr nd 4 32 D1, cAr nd 5 280 D1, cAr nd 6 280 D1, cLd n nd me D1 A, cAr nd 8 16 D1, cAr nd 9 280 D1, cTb nd gg D1 K, cAr nd 11 48 D1, cAr nd 12 48 D1, cAr nd 13 48 D1, cAr nd 14 2400 D1, cAr nd 15 512 D1, cAr nd 16 961 D1, cAr nd 17 961 D1, cWk nd D1, cWa nd D1, (nd + 20, .inl (0, 612, .inl (mvF (D1 21) (i * 512 + 60 + max a ((a / 448 + i) * 448) - ((a / 448 + i) * 448)) (400 + max a ((a / 448 + i) * 448) - a) (min (a + sp) (((a / 448 + i) * 448) + 448) - max a ((a / 448 + i) * 448)) (D1 20)))), cAr nd 21 1152 D1, cRk n nn gg C, cOr n nn gg f]) [0, 1, 2, 3, 4, 5, 6, 7, 8, 9, 10, 11, 12, 13, 14, 15, 16, 17, 18, 19, 23, 22, 20, 21] rfl rfl
        replace hN := hN.fr qf (fun x hx z => by simp only [List.mem_cons, List.not_mem_nil, or_false] at z; unfold NTA at hx; omega)
        replace hf := hf.trC qf (fun x _ z => Or.inr (by simp only [List.mem_cons, List.not_mem_nil, or_false] at z; omega))
        replace hn : hp_2.1 = h0.1 := by omega
        replace hs : hp_2.2.1 = h0.2.1 := by omega
        clear qF qn qs qf
        refine ar_iinc 143 [(0, .ref (nd + 18)), (1, .int zz), (2, .int (nI (i + 1))), (3, .int (nI ((a / 448 + i) * 448))), (4, .int (nI (max a ((a / 448 + i) * 448)))), (5, .int (nI (min (a + sp) (((a / 448 + i) * 448) + 448)))), (6, .int (nI (400 + max a ((a / 448 + i) * 448) - a))), (7, .int (nI (i * 512 + 60 + max a ((a / 448 + i) * 448) - ((a / 448 + i) * 448))))] d_107_140 rfl rfl (nI_1 i) (by decide) rfl ?_
        refine ar_goto 2 d_107_143 (by decide) ?_
        refine ar_wk [0, 1, 2] rfl (by simp) ?_
        have hS1 : NS Z n nd nn gg C me f q u b uv h0 hp_2 (va_up D1 20 (mvF (D1 21) (i * 512 + 60 + max a ((a / 448 + i) * 448) - ((a / 448 + i) * 448)) (400 + max a ((a / 448 + i) * 448) - a) (min (a + sp) (((a / 448 + i) * 448) + 448) - max a ((a / 448 + i) * 448)) (D1 20))) K A Y := ⟨hF, hN, hf, hn, hs, hp0, hu0⟩
        have hI1 : NI Z nn (va_up D1 20 (mvF (D1 21) (i * 512 + 60 + max a ((a / 448 + i) * 448) - ((a / 448 + i) * 448)) (400 + max a ((a / 448 + i) * 448) - a) (min (a + sp) (((a / 448 + i) * 448) + 448) - max a ((a / 448 + i) * 448)) (D1 20))) := ⟨hI.1, hI.2.1, hI.2.2.1.ch (fun z => h3 (by rw [← e18]; exact z)) rfl rfl rfl rfl hR.2, hI.2.2.2⟩
        rw [← show G_107 nn gg C me f u b zz k (i + 1) (va_up D1 20 (mvF (D1 21) (i * 512 + 60 + max a ((a / 448 + i) * 448) - ((a / 448 + i) * 448)) (400 + max a ((a / 448 + i) * 448) - a) (min (a + sp) (((a / 448 + i) * 448) + 448) - max a ((a / 448 + i) * 448)) (D1 20))) K A Y = G_107 nn gg C me f u b zz (k + 1) i D1 K A Y from bnN_eq (cl_eq (show a < 8193 by omega) (by rw [e19]; exact ea)) (bnN_eq (cl_eq (show sp < 2049 by omega) (by rw [e18]; exact e9)) (eq_ifT c1 (rfl)))]
        exact ih (i + 1) hp_2 (va_up D1 20 (mvF (D1 21) (i * 512 + 60 + max a ((a / 448 + i) * 448) - ((a / 448 + i) * 448)) (400 + max a ((a / 448 + i) * 448) - a) (min (a + sp) (((a / 448 + i) * 448) + 448) - max a ((a / 448 + i) * 448)) (D1 20))) K A Y (by omega) hS1 hI1 ⟨fun c h1 h2 => (show (va_up D1 20 (mvF (D1 21) (i * 512 + 60 + max a ((a / 448 + i) * 448) - ((a / 448 + i) * 448)) (400 + max a ((a / 448 + i) * 448) - a) (min (a + sp) (((a / 448 + i) * 448) + 448) - max a ((a / 448 + i) * 448)) (D1 20))) c = D1 c from if_neg (h1)).trans (hR.1 c h1 h2), hR.2⟩
      · refine ar_aload_n 92 d_107_91 rfl rfl ?_
        refine ar_getf 95 d_107_92 rfl (ci := 10) (k := 1) rfl (hF.at 18 rfl) rfl ?_
        refine ar_getf 98 d_107_95 rfl (ci := 5) (k := 7) rfl (hF.at 19 rfl) rfl ?_
        refine ar_iload 100 d_107_98 rfl rfl ?_
        refine ar_aload_n 101 d_107_100 rfl rfl ?_
        refine ar_getf 104 d_107_101 rfl (ci := 10) (k := 2) rfl (hF.at 18 rfl) rfl ?_
        refine ar_iload 106 d_107_104 rfl rfl ?_
        refine ar_iload 108 d_107_106 rfl rfl ?_
        refine ar_iload 110 d_107_108 rfl rfl ?_
        refine ar_isub 111 d_107_110 rfl ?_
        refine ar_top (x' := nI (min (a + sp) (((a / 448 + i) * 448) + 448) - max a ((a / 448 + i) * 448))) (pk_sub (by omega)) ?_
        refine ar_call (r := []) (na := 0) (kd := 0) (cm := 43) (fr2 := fr - 1) (lo2 := lo - 27) 114 d_107_111 (ar_hoS (as := [.ref (nd + 20), .int (nI (400 + max a ((a / 448 + i) * 448) - a)), .ref (nd + 21), .int (nI (i * 512 + 60 + max a ((a / 448 + i) * 448) - ((a / 448 + i) * 448))), .int (nI (min (a + sp) (((a / 448 + i) * 448) + 448) - max a ((a / 448 + i) * 448)))]) rfl rfl rfl) rfl (by omega) (show lo - 27 + (19 + 8) = lo by omega) (Nat.le_of_ble_eq_true rfl) (Nat.le_of_ble_eq_true rfl) (c_43 (i := (400 + max a ((a / 448 + i) * 448) - a)) (j := (i * 512 + 60 + max a ((a / 448 + i) * 448) - ((a / 448 + i) * 448))) (n0 := (min (a + sp) (((a / 448 + i) * 448) + 448) - max a ((a / 448 + i) * 448))) (by omega) (by omega) (by decide) (by decide) (by omega) (by omega) (hF.sub (F' := [cAr nd 20 612 D1, cAr nd 21 1152 D1]) [20, 21] rfl rfl) rfl rfl (by omega)) ?_
        intro v hp_1 hq
        obtain ⟨rfl, qF, qn, qs, qf⟩ := hq
        have qF : ax_hs hp_1 [cAr nd 20 612 D1, (nd + 21, .inl (0, 1152, .inl (mvF (D1 20) (400 + max a ((a / 448 + i) * 448) - a) (i * 512 + 60 + max a ((a / 448 + i) * 448) - ((a / 448 + i) * 448)) (min (a + sp) (((a / 448 + i) * 448) + 448) - max a ((a / 448 + i) * 448)) (D1 21))))] := qF
        replace hF : ax_hs hp_1 [cNd n nd me D1, cDk nd D1, cAr nd 2 35840 D1, cAr nd 3 4096 D1, cAr nd 4 32 D1, cAr nd 5 280 D1, cAr nd 6 280 D1, cLd n nd me D1 A, cAr nd 8 16 D1, cAr nd 9 280 D1, cTb nd gg D1 K, cAr nd 11 48 D1, cAr nd 12 48 D1, cAr nd 13 48 D1, cAr nd 14 2400 D1, cAr nd 15 512 D1, cAr nd 16 961 D1, cAr nd 17 961 D1, cWk nd D1, cWa nd D1, cRk n nn gg C, cOr n nn gg f, cAr nd 20 612 D1, (nd + 21, .inl (0, 1152, .inl (mvF (D1 20) (400 + max a ((a / 448 + i) * 448) - a) (i * 512 + 60 + max a ((a / 448 + i) * 448) - ((a / 448 + i) * 448)) (min (a + sp) (((a / 448 + i) * 448) + 448) - max a ((a / 448 + i) * 448)) (D1 21))))] := ax_hs.call (rest := [cNd n nd me D1, cDk nd D1, cAr nd 2 35840 D1, cAr nd 3 4096 D1, cAr nd 4 32 D1, cAr nd 5 280 D1, cAr nd 6 280 D1, cLd n nd me D1 A, cAr nd 8 16 D1, cAr nd 9 280 D1, cTb nd gg D1 K, cAr nd 11 48 D1, cAr nd 12 48 D1, cAr nd 13 48 D1, cAr nd 14 2400 D1, cAr nd 15 512 D1, cAr nd 16 961 D1, cAr nd 17 961 D1, cWk nd D1, cWa nd D1, cRk n nn gg C, cOr n nn gg f]) [20, 21] [0, 1, 2, 3, 4, 5, 6, 7, 8, 9, 10, 11, 12, 13, 14, 15, 16, 17, 18, 19, 22, 23] hF qf qF rfl rfl rfl [21] rfl rfl [20, 21] (news := []) rfl rfl (fun _ z => absurd z List.not_mem_nil) rfl
        replace hF := hF.sub (F' := [cNd n nd me D1, cDk nd D1, cAr nd 2 35840 D1, cAr nd 3 4096 D1, cAr nd 4 32 D1, cAr nd 5 280 D1, cAr nd 6 280 D1, cLd n nd me D1 A, cAr nd 8 16 D1, cAr nd 9 280 D1, cTb nd gg D1 K, cAr nd 11 48 D1, cAr nd 12 48 D1, cAr nd 13 48 D1, cAr nd 14 2400 D1, cAr nd 15 512 D1, cAr nd 16 961 D1, cAr nd 17 961 D1, cWk nd D1, cWa nd D1, cAr nd 20 612 D1, (nd + 21, .inl (0, 1152, .inl (mvF (D1 20) (400 + max a ((a / 448 + i) * 448) - a) (i * 512 + 60 + max a ((a / 448 + i) * 448) - ((a / 448 + i) * 448)) (min (a + sp) (((a / 448 + i) * 448) + 448) - max a ((a / 448 + i) * 448)) (D1 21)))), cRk n nn gg C, cOr n nn gg f]) [0, 1, 2, 3, 4, 5, 6, 7, 8, 9, 10, 11, 12, 13, 14, 15, 16, 17, 18, 19, 22, 23, 20, 21] rfl rfl
        replace hN := hN.fr qf (fun x hx z => by simp only [List.mem_cons, List.not_mem_nil, or_false] at z; unfold NTA at hx; omega)
        replace hf := hf.trC qf (fun x _ z => Or.inr (by simp only [List.mem_cons, List.not_mem_nil, or_false] at z; omega))
        replace hn : hp_1.1 = h0.1 := by omega
        replace hs : hp_1.2.1 = h0.2.1 := by omega
        clear qF qn qs qf
        refine ar_goto 140 d_107_114 (by decide) ?_
        refine ar_iinc 143 [(0, .ref (nd + 18)), (1, .int zz), (2, .int (nI (i + 1))), (3, .int (nI ((a / 448 + i) * 448))), (4, .int (nI (max a ((a / 448 + i) * 448)))), (5, .int (nI (min (a + sp) (((a / 448 + i) * 448) + 448)))), (6, .int (nI (400 + max a ((a / 448 + i) * 448) - a))), (7, .int (nI (i * 512 + 60 + max a ((a / 448 + i) * 448) - ((a / 448 + i) * 448))))] d_107_140 rfl rfl (nI_1 i) (by decide) rfl ?_
        refine ar_goto 2 d_107_143 (by decide) ?_
        refine ar_wk [0, 1, 2] rfl (by simp) ?_
        have hPB2 : PB (mvF (D1 20) (400 + max a ((a / 448 + i) * 448) - a) (i * 512 + 60 + max a ((a / 448 + i) * 448) - ((a / 448 + i) * 448)) (min (a + sp) (((a / 448 + i) * 448) + 448) - max a ((a / 448 + i) * 448)) (D1 21)) := hR.2.of (fun b hb => ⟨mvF_out (by omega), mvF_out (by omega)⟩)
        have hS1 : NS Z n nd nn gg C me f q u b uv h0 hp_1 (va_up D1 21 (mvF (D1 20) (400 + max a ((a / 448 + i) * 448) - a) (i * 512 + 60 + max a ((a / 448 + i) * 448) - ((a / 448 + i) * 448)) (min (a + sp) (((a / 448 + i) * 448) + 448) - max a ((a / 448 + i) * 448)) (D1 21))) K A Y := ⟨hF, hN, hf, hn, hs, hp0, hu0⟩
        have hI1 : NI Z nn (va_up D1 21 (mvF (D1 20) (400 + max a ((a / 448 + i) * 448) - a) (i * 512 + 60 + max a ((a / 448 + i) * 448) - ((a / 448 + i) * 448)) (min (a + sp) (((a / 448 + i) * 448) + 448) - max a ((a / 448 + i) * 448)) (D1 21))) := ⟨hI.1, hI.2.1, hI.2.2.1.ch (fun z => h3 (by rw [← e18]; exact z)) rfl rfl rfl rfl hPB2, hI.2.2.2⟩
        rw [← show G_107 nn gg C me f u b zz k (i + 1) (va_up D1 21 (mvF (D1 20) (400 + max a ((a / 448 + i) * 448) - a) (i * 512 + 60 + max a ((a / 448 + i) * 448) - ((a / 448 + i) * 448)) (min (a + sp) (((a / 448 + i) * 448) + 448) - max a ((a / 448 + i) * 448)) (D1 21))) K A Y = G_107 nn gg C me f u b zz (k + 1) i D1 K A Y from bnN_eq (cl_eq (show a < 8193 by omega) (by rw [e19]; exact ea)) (bnN_eq (cl_eq (show sp < 2049 by omega) (by rw [e18]; exact e9)) (eq_ifF c1 (rfl)))]
        exact ih (i + 1) hp_1 (va_up D1 21 (mvF (D1 20) (400 + max a ((a / 448 + i) * 448) - a) (i * 512 + 60 + max a ((a / 448 + i) * 448) - ((a / 448 + i) * 448)) (min (a + sp) (((a / 448 + i) * 448) + 448) - max a ((a / 448 + i) * 448)) (D1 21))) K A Y (by omega) hS1 hI1 ⟨fun c h1 h2 => (show (va_up D1 21 (mvF (D1 20) (400 + max a ((a / 448 + i) * 448) - a) (i * 512 + 60 + max a ((a / 448 + i) * 448) - ((a / 448 + i) * 448)) (min (a + sp) (((a / 448 + i) * 448) + 448) - max a ((a / 448 + i) * 448)) (D1 21))) c = D1 c from if_neg (h2)).trans (hR.1 c h1 h2), hPB2⟩
  show ax_A (ax_step L xs) ((107, 0, fr, lo), [(0, .ref (nd + 18)), (1, .int zz)], [], h) _
  refine ar_iconst 1 (v := 0) d_107_0 rfl (by decide) ?_
  refine ar_istore_n 2 [(0, .ref (nd + 18)), (1, .int zz), (2, .int 0)] d_107_1 rfl (by decide) rfl ?_
  rw [← show G_107 nn gg C me f u b zz c 0 D K A Y = F_107 nn gg C me f u b D K A Y zz from bnN_eq (cl_eq hc7 e11) (rfl)]
  exact key c 0 h D K A Y (by omega) hS hI ⟨fun _ _ _ => rfl, hPB⟩
def F_108 (nn gg : Nat) (C me : Int32) (f u b : Nat → Int32) (D : Nat → Nat → Int32) (K A : Int64) (Y : List Mg)  : St :=
  bnN ((D 18 7).toNatClampNeg) (fun fi =>
    bnN ((D 12 fi).toNatClampNeg) (fun z =>
      bnN ((D 18 9).toNatClampNeg) (fun sp =>
        if (nI sp) ≤ 0 then
          (va_up D 18 (upd (D 18) 13 (nI fi)), K, A, Y)
        else
          bnN ((D 19 1).toNatClampNeg) (fun a =>
            (va_up (va_up D 12 (upd (D 12) fi (nI (max z (a + sp))))) 18 (upd (D 18) 13 (nI fi)), K, A, Y)))))
theorem s_108 {L : Nat} {xs : Nat → Int32} {fr lo : Nat} {Z : ZT} {n nd nn gg : Nat} {C me : Int32} {f : Nat → Int32} {q : Nat} {u b : Nat → Int32} {uv : Int32} {h0 h : ax_H} {D : Nat → Nat → Int32} {K A : Int64} {Y : List Mg}  (hfr : 2 ≤ fr) (hlo : 60 ≤ lo) (hC : CS n nd nn gg f) (hS : NS Z n nd nn gg C me f q u b uv h0 h D K A Y) (hI : NI Z nn D) (h3 : ¬ D 18 3 = 2) (hX : SI D) (hFI : FI D) : ax_M L xs 108 fr lo [.ref (nd + 18)] h (fun r h' => r = none ∧ PS Z n nd nn gg C me f q u b uv h0 h' (fun D' K' A' Y' => (D', K', A', Y') = F_108 nn gg C me f u b D K A Y ∧ SI D' ∧ D' 18 3 = D 18 3)) := by
  have hC0 := hC
  show ax_A (ax_step L xs) ((108, 0, fr, lo), [(0, .ref (nd + 18))], [], h) _
  obtain ⟨hnd, hn0, hnn3, hnn, hgg1, hgg, hRg⟩ := hC
  obtain ⟨hF, hN, hf, hn, hs, hp0, hu0⟩ := hS
  replace hF : ax_hs h [cNd n nd me D, cDk nd D, cAr nd 2 35840 D, cAr nd 3 4096 D, cAr nd 4 32 D, cAr nd 5 280 D, cAr nd 6 280 D, cLd n nd me D A, cAr nd 8 16 D, cAr nd 9 280 D, cTb nd gg D K, cAr nd 11 48 D, cAr nd 12 48 D, cAr nd 13 48 D, cAr nd 14 2400 D, cAr nd 15 512 D, cAr nd 16 961 D, cAr nd 17 961 D, cWk nd D, cWa nd D, cAr nd 20 612 D, cAr nd 21 1152 D, cRk n nn gg C, cOr n nn gg f] := hF
  obtain ⟨fi, hfi, e7, hfj⟩ := hFI
  obtain ⟨z, hz, ez⟩ := (hI.2.1.2.2.2.1 fi hfi).1
  obtain ⟨sp, c, hsp, e9, e11, hs0, hs1⟩ := hX.1
  refine ar_aload_n 1 d_108_0 rfl rfl ?_
  refine ar_getf 4 d_108_1 rfl (ci := 10) (k := 9) rfl (hF.at 18 rfl) rfl ?_
  refine ar_top (x' := nI sp) (e9) ?_
  refine ar_if_le 46 7 d_108_4 (by decide) rfl (fun c1 => ?_) (fun c1 => ?_)
  · refine ar_aload_n 47 d_108_46 rfl rfl ?_
    refine ar_aload_n 48 d_108_47 rfl rfl ?_
    refine ar_getf 51 d_108_48 rfl (ci := 10) (k := 7) rfl (hF.at 18 rfl) rfl ?_
    refine ar_top (x' := nI fi) (e7) ?_
    refine ar_putf 54 [.ref (nd + 10), .ref (nd + 19), .ref (nd + 21), .int (D 18 3), .int (D 18 4), .int (D 18 5), .int (D 18 6), .int (D 18 7), .int (D 18 8), .int (D 18 9), .int (D 18 10), .int (D 18 11), .int (D 18 12), .int (nI fi), .int (D 18 14)] d_108_51 rfl (ci := 10) (k := 13) rfl rfl (hF.at 18 rfl) (Nat.le_of_ble_eq_true rfl) rfl rfl rfl ?_
    replace hF : ax_hs (ax_put h (nd + 18) (.inr (10, [.ref (nd + 10), .ref (nd + 19), .ref (nd + 21), .int (D 18 3), .int (D 18 4), .int (D 18 5), .int (D 18 6), .int (D 18 7), .int (D 18 8), .int (D 18 9), .int (D 18 10), .int (D 18 11), .int (D 18 12), .int (nI fi), .int (D 18 14)]))) [cNd n nd me D, cDk nd D, cAr nd 2 35840 D, cAr nd 3 4096 D, cAr nd 4 32 D, cAr nd 5 280 D, cAr nd 6 280 D, cLd n nd me D A, cAr nd 8 16 D, cAr nd 9 280 D, cTb nd gg D K, cAr nd 11 48 D, cAr nd 12 48 D, cAr nd 13 48 D, cAr nd 14 2400 D, cAr nd 15 512 D, cAr nd 16 961 D, cAr nd 17 961 D, (nd + 18, .inr (10, [.ref (nd + 10), .ref (nd + 19), .ref (nd + 21), .int (D 18 3), .int (D 18 4), .int (D 18 5), .int (D 18 6), .int (D 18 7), .int (D 18 8), .int (D 18 9), .int (D 18 10), .int (D 18 11), .int (D 18 12), .int (nI fi), .int (D 18 14)])), cWa nd D, cAr nd 20 612 D, cAr nd 21 1152 D, cRk n nn gg C, cOr n nn gg f] := hF.put 18 _ rfl rfl
    replace hf := hf.put (a := nd + 18) (c := .inr (10, [.ref (nd + 10), .ref (nd + 19), .ref (nd + 21), .int (D 18 3), .int (D 18 4), .int (D 18 5), .int (D 18 6), .int (D 18 7), .int (D 18 8), .int (D 18 9), .int (D 18 10), .int (D 18 11), .int (D 18 12), .int (nI fi), .int (D 18 14)])) (Or.inr (by omega))
    replace hN := hN.put (a := nd + 18) (c := .inr (10, [.ref (nd + 10), .ref (nd + 19), .ref (nd + 21), .int (D 18 3), .int (D 18 4), .int (D 18 5), .int (D 18 6), .int (D 18 7), .int (D 18 8), .int (D 18 9), .int (D 18 10), .int (D 18 11), .int (D 18 12), .int (nI fi), .int (D 18 14)])) (by omega)
    replace hn : (ax_put h (nd + 18) (.inr (10, [.ref (nd + 10), .ref (nd + 19), .ref (nd + 21), .int (D 18 3), .int (D 18 4), .int (D 18 5), .int (D 18 6), .int (D 18 7), .int (D 18 8), .int (D 18 9), .int (D 18 10), .int (D 18 11), .int (D 18 12), .int (nI fi), .int (D 18 14)]))).1 = h0.1 := hn
    replace hs : (ax_put h (nd + 18) (.inr (10, [.ref (nd + 10), .ref (nd + 19), .ref (nd + 21), .int (D 18 3), .int (D 18 4), .int (D 18 5), .int (D 18 6), .int (D 18 7), .int (D 18 8), .int (D 18 9), .int (D 18 10), .int (D 18 11), .int (D 18 12), .int (nI fi), .int (D 18 14)]))).2.1 = h0.2.1 := hs
    generalize ax_put h (nd + 18) (.inr (10, [.ref (nd + 10), .ref (nd + 19), .ref (nd + 21), .int (D 18 3), .int (D 18 4), .int (D 18 5), .int (D 18 6), .int (D 18 7), .int (D 18 8), .int (D 18 9), .int (D 18 10), .int (D 18 11), .int (D 18 12), .int (nI fi), .int (D 18 14)])) = hp_1 at hF hf hN hn hs ⊢
    have hS9 : NS Z n nd nn gg C me f q u b uv h0 hp_1 (va_up D 18 (upd (D 18) 13 (nI fi))) K A Y := ⟨hF, hN, hf, hn, hs, hp0, hu0⟩
    have hI9 : NI Z nn (va_up D 18 (upd (D 18) 13 (nI fi))) := ⟨hI.1, hI.2.1, hI.2.2.1.ch h3 rfl rfl rfl rfl hX.2.2.2.2, hI.2.2.2⟩
    exact ar_ret d_108_54 rfl (⟨rfl, _, _, _, _, hS9, hI9, bnN_eq (cl_eq hfi e7) (bnN_eq (cl_eq hz ez) (bnN_eq (cl_eq (show sp < 2049 by omega) e9) (eq_ifT c1 (rfl)))), ⟨hX.1, Or.inr ⟨fi, hfi, rfl, hfj⟩, hX.2.2.1, Or.inr ⟨fi, hfi, e7, hfj⟩, hX.2.2.2.2⟩, rfl⟩)
  · obtain ⟨a, ea, ha, -, -⟩ := hs1 (Nat.pos_of_ne_zero (fun z => c1 (by rw [z]; decide)))
    refine ar_aload_n 8 d_108_7 rfl rfl ?_
    refine ar_getf 11 d_108_8 rfl (ci := 10) (k := 0) rfl (hF.at 18 rfl) rfl ?_
    refine ar_getf 14 d_108_11 rfl (ci := 6) (k := 2) rfl (hF.at 10 rfl) rfl ?_
    refine ar_aload_n 15 d_108_14 rfl rfl ?_
    refine ar_getf 18 d_108_15 rfl (ci := 10) (k := 7) rfl (hF.at 18 rfl) rfl ?_
    refine ar_top (x' := nI fi) (e7) ?_
    refine ar_aload_n 19 d_108_18 rfl rfl ?_
    refine ar_getf 22 d_108_19 rfl (ci := 10) (k := 0) rfl (hF.at 18 rfl) rfl ?_
    refine ar_getf 25 d_108_22 rfl (ci := 6) (k := 2) rfl (hF.at 10 rfl) rfl ?_
    refine ar_aload_n 26 d_108_25 rfl rfl ?_
    refine ar_getf 29 d_108_26 rfl (ci := 10) (k := 7) rfl (hF.at 18 rfl) rfl ?_
    refine ar_top (x' := nI fi) (e7) ?_
    refine ar_ialdN 30 (e := fi) d_108_29 rfl (hF.at 12 rfl) (by omega) (by omega) ?_
    refine ar_top (x' := nI z) (ez) ?_
    refine ar_aload_n 31 d_108_30 rfl rfl ?_
    refine ar_getf 34 d_108_31 rfl (ci := 10) (k := 1) rfl (hF.at 18 rfl) rfl ?_
    refine ar_getf 37 d_108_34 rfl (ci := 5) (k := 1) rfl (hF.at 19 rfl) rfl ?_
    refine ar_top (x' := nI a) (ea) ?_
    refine ar_aload_n 38 d_108_37 rfl rfl ?_
    refine ar_getf 41 d_108_38 rfl (ci := 10) (k := 9) rfl (hF.at 18 rfl) rfl ?_
    refine ar_top (x' := nI sp) (e9) ?_
    refine ar_iadd 42 d_108_41 rfl ?_
    refine ar_top (x' := nI (a + sp)) (nI_add _ _) ?_
    refine ar_max 45 d_108_42 rfl rfl (by omega) (by show 2 + 13 ≤ lo; omega) (w := nI (max z (a + sp))) (maxN (by omega) (by omega)) ?_
    refine ar_iastN 46 (e := fi) d_108_45 rfl (hF.at 12 rfl) (by omega) (by omega) ?_
    replace hF : ax_hs (ax_put h (nd + 12) (.inl (0, 48, .inl (upd (D 12) fi (nI (max z (a + sp))))))) [cNd n nd me D, cDk nd D, cAr nd 2 35840 D, cAr nd 3 4096 D, cAr nd 4 32 D, cAr nd 5 280 D, cAr nd 6 280 D, cLd n nd me D A, cAr nd 8 16 D, cAr nd 9 280 D, cTb nd gg D K, cAr nd 11 48 D, (nd + 12, .inl (0, 48, .inl (upd (D 12) fi (nI (max z (a + sp)))))), cAr nd 13 48 D, cAr nd 14 2400 D, cAr nd 15 512 D, cAr nd 16 961 D, cAr nd 17 961 D, cWk nd D, cWa nd D, cAr nd 20 612 D, cAr nd 21 1152 D, cRk n nn gg C, cOr n nn gg f] := hF.put 12 _ rfl rfl
    replace hf := hf.put (a := nd + 12) (c := .inl (0, 48, .inl (upd (D 12) fi (nI (max z (a + sp)))))) (Or.inr (by omega))
    replace hN := hN.put (a := nd + 12) (c := .inl (0, 48, .inl (upd (D 12) fi (nI (max z (a + sp)))))) (by omega)
    replace hn : (ax_put h (nd + 12) (.inl (0, 48, .inl (upd (D 12) fi (nI (max z (a + sp))))))).1 = h0.1 := hn
    replace hs : (ax_put h (nd + 12) (.inl (0, 48, .inl (upd (D 12) fi (nI (max z (a + sp))))))).2.1 = h0.2.1 := hs
    generalize ax_put h (nd + 12) (.inl (0, 48, .inl (upd (D 12) fi (nI (max z (a + sp)))))) = hp_2 at hF hf hN hn hs ⊢
    refine ar_aload_n 47 d_108_46 rfl rfl ?_
    refine ar_aload_n 48 d_108_47 rfl rfl ?_
    refine ar_getf 51 d_108_48 rfl (ci := 10) (k := 7) rfl (hF.at 18 rfl) rfl ?_
    refine ar_top (x' := nI fi) (e7) ?_
    refine ar_putf 54 [.ref (nd + 10), .ref (nd + 19), .ref (nd + 21), .int (D 18 3), .int (D 18 4), .int (D 18 5), .int (D 18 6), .int (D 18 7), .int (D 18 8), .int (D 18 9), .int (D 18 10), .int (D 18 11), .int (D 18 12), .int (nI fi), .int (D 18 14)] d_108_51 rfl (ci := 10) (k := 13) rfl rfl (hF.at 18 rfl) (Nat.le_of_ble_eq_true rfl) rfl rfl rfl ?_
    replace hF : ax_hs (ax_put hp_2 (nd + 18) (.inr (10, [.ref (nd + 10), .ref (nd + 19), .ref (nd + 21), .int (D 18 3), .int (D 18 4), .int (D 18 5), .int (D 18 6), .int (D 18 7), .int (D 18 8), .int (D 18 9), .int (D 18 10), .int (D 18 11), .int (D 18 12), .int (nI fi), .int (D 18 14)]))) [cNd n nd me D, cDk nd D, cAr nd 2 35840 D, cAr nd 3 4096 D, cAr nd 4 32 D, cAr nd 5 280 D, cAr nd 6 280 D, cLd n nd me D A, cAr nd 8 16 D, cAr nd 9 280 D, cTb nd gg D K, cAr nd 11 48 D, (nd + 12, .inl (0, 48, .inl (upd (D 12) fi (nI (max z (a + sp)))))), cAr nd 13 48 D, cAr nd 14 2400 D, cAr nd 15 512 D, cAr nd 16 961 D, cAr nd 17 961 D, (nd + 18, .inr (10, [.ref (nd + 10), .ref (nd + 19), .ref (nd + 21), .int (D 18 3), .int (D 18 4), .int (D 18 5), .int (D 18 6), .int (D 18 7), .int (D 18 8), .int (D 18 9), .int (D 18 10), .int (D 18 11), .int (D 18 12), .int (nI fi), .int (D 18 14)])), cWa nd D, cAr nd 20 612 D, cAr nd 21 1152 D, cRk n nn gg C, cOr n nn gg f] := hF.put 18 _ rfl rfl
    replace hf := hf.put (a := nd + 18) (c := .inr (10, [.ref (nd + 10), .ref (nd + 19), .ref (nd + 21), .int (D 18 3), .int (D 18 4), .int (D 18 5), .int (D 18 6), .int (D 18 7), .int (D 18 8), .int (D 18 9), .int (D 18 10), .int (D 18 11), .int (D 18 12), .int (nI fi), .int (D 18 14)])) (Or.inr (by omega))
    replace hN := hN.put (a := nd + 18) (c := .inr (10, [.ref (nd + 10), .ref (nd + 19), .ref (nd + 21), .int (D 18 3), .int (D 18 4), .int (D 18 5), .int (D 18 6), .int (D 18 7), .int (D 18 8), .int (D 18 9), .int (D 18 10), .int (D 18 11), .int (D 18 12), .int (nI fi), .int (D 18 14)])) (by omega)
    replace hn : (ax_put hp_2 (nd + 18) (.inr (10, [.ref (nd + 10), .ref (nd + 19), .ref (nd + 21), .int (D 18 3), .int (D 18 4), .int (D 18 5), .int (D 18 6), .int (D 18 7), .int (D 18 8), .int (D 18 9), .int (D 18 10), .int (D 18 11), .int (D 18 12), .int (nI fi), .int (D 18 14)]))).1 = h0.1 := hn
    replace hs : (ax_put hp_2 (nd + 18) (.inr (10, [.ref (nd + 10), .ref (nd + 19), .ref (nd + 21), .int (D 18 3), .int (D 18 4), .int (D 18 5), .int (D 18 6), .int (D 18 7), .int (D 18 8), .int (D 18 9), .int (D 18 10), .int (D 18 11), .int (D 18 12), .int (nI fi), .int (D 18 14)]))).2.1 = h0.2.1 := hs
    generalize ax_put hp_2 (nd + 18) (.inr (10, [.ref (nd + 10), .ref (nd + 19), .ref (nd + 21), .int (D 18 3), .int (D 18 4), .int (D 18 5), .int (D 18 6), .int (D 18 7), .int (D 18 8), .int (D 18 9), .int (D 18 10), .int (D 18 11), .int (D 18 12), .int (nI fi), .int (D 18 14)])) = hp_3 at hF hf hN hn hs ⊢
    have hS9 : NS Z n nd nn gg C me f q u b uv h0 hp_3 (va_up (va_up D 12 (upd (D 12) fi (nI (max z (a + sp))))) 18 (upd (D 18) 13 (nI fi))) K A Y := ⟨hF, hN, hf, hn, hs, hp0, hu0⟩
    have hI9 : NI Z nn (va_up (va_up D 12 (upd (D 12) fi (nI (max z (a + sp))))) 18 (upd (D 18) 13 (nI fi))) := ⟨hI.1, hI.2.1.size ⟨max z (a + sp), by omega, rfl⟩, hI.2.2.1.ch h3 rfl rfl rfl rfl hX.2.2.2.2, hI.2.2.2⟩
    exact ar_ret d_108_54 rfl (⟨rfl, _, _, _, _, hS9, hI9, bnN_eq (cl_eq hfi e7) (bnN_eq (cl_eq hz ez) (bnN_eq (cl_eq (show sp < 2049 by omega) e9) (eq_ifF c1 (bnN_eq (cl_eq (show a < 8193 by omega) ea) (rfl))))), ⟨hX.1, Or.inr ⟨fi, hfi, rfl, hfj⟩, hX.2.2.1, Or.inr ⟨fi, hfi, e7, hfj⟩, hX.2.2.2.2⟩, rfl⟩)

/-! Table, exactly: knows, readRoot, readRecord, writeRecord, writeRoot -/
theorem d_84_0 : decode (axt_b 84) 0 = .ok (.aload_n 0, 1) := by decide +kernel
theorem d_84_1 : decode (axt_b 84) 1 = .ok (.invokevirtual 37, 3) := by decide +kernel
theorem d_84_4 : decode (axt_b 84) 4 = .ok (.iload_n 2, 1) := by decide +kernel
theorem d_84_5 : decode (axt_b 84) 5 = .ok (.bipush 15, 2) := by decide +kernel
theorem d_84_7 : decode (axt_b 84) 7 = .ok (.iadd, 1) := by decide +kernel
theorem d_84_8 : decode (axt_b 84) 8 = .ok (.istore_n 3, 1) := by decide +kernel
theorem d_84_9 : decode (axt_b 84) 9 = .ok (.aload_n 0, 1) := by decide +kernel
theorem d_84_10 : decode (axt_b 84) 10 = .ok (.getfield 27, 3) := by decide +kernel
theorem d_84_13 : decode (axt_b 84) 13 = .ok (.sipush 960, 3) := by decide +kernel
theorem d_84_16 : decode (axt_b 84) 16 = .ok (.aload_n 1, 1) := by decide +kernel
theorem d_84_17 : decode (axt_b 84) 17 = .ok (.iload_n 2, 1) := by decide +kernel
theorem d_84_18 : decode (axt_b 84) 18 = .ok (.iconst 1, 1) := by decide +kernel
theorem d_84_19 : decode (axt_b 84) 19 = .ok (.iadd, 1) := by decide +kernel
theorem d_84_20 : decode (axt_b 84) 20 = .ok (.iaload, 1) := by decide +kernel
theorem d_84_21 : decode (axt_b 84) 21 = .ok (.invokestatic 79, 3) := by decide +kernel
theorem d_84_24 : decode (axt_b 84) 24 = .ok (.iastore, 1) := by decide +kernel
theorem d_84_25 : decode (axt_b 84) 25 = .ok (.aload_n 0, 1) := by decide +kernel
theorem d_84_26 : decode (axt_b 84) 26 = .ok (.iconst 0, 1) := by decide +kernel
theorem d_84_27 : decode (axt_b 84) 27 = .ok (.bipush 48, 2) := by decide +kernel
theorem d_84_29 : decode (axt_b 84) 29 = .ok (.aload_n 1, 1) := by decide +kernel
theorem d_84_30 : decode (axt_b 84) 30 = .ok (.iload_n 3, 1) := by decide +kernel
theorem d_84_31 : decode (axt_b 84) 31 = .ok (.iaload, 1) := by decide +kernel
theorem d_84_32 : decode (axt_b 84) 32 = .ok (.invokestatic 83, 3) := by decide +kernel
theorem d_84_35 : decode (axt_b 84) 35 = .ok (.invokestatic 89, 3) := by decide +kernel
theorem d_84_38 : decode (axt_b 84) 38 = .ok (.putfield 50, 3) := by decide +kernel
theorem d_84_41 : decode (axt_b 84) 41 = .ok (.aload_n 0, 1) := by decide +kernel
theorem d_84_42 : decode (axt_b 84) 42 = .ok (.aload_n 1, 1) := by decide +kernel
theorem d_84_43 : decode (axt_b 84) 43 = .ok (.iload_n 3, 1) := by decide +kernel
theorem d_84_44 : decode (axt_b 84) 44 = .ok (.iconst 1, 1) := by decide +kernel
theorem d_84_45 : decode (axt_b 84) 45 = .ok (.iadd, 1) := by decide +kernel
theorem d_84_46 : decode (axt_b 84) 46 = .ok (.iaload, 1) := by decide +kernel
theorem d_84_47 : decode (axt_b 84) 47 = .ok (.putfield 53, 3) := by decide +kernel
theorem d_84_50 : decode (axt_b 84) 50 = .ok (.iconst 0, 1) := by decide +kernel
theorem d_84_51 : decode (axt_b 84) 51 = .ok (.istore 4, 2) := by decide +kernel
theorem d_84_53 : decode (axt_b 84) 53 = .ok (.iload 4, 2) := by decide +kernel
theorem d_84_55 : decode (axt_b 84) 55 = .ok (.aload_n 0, 1) := by decide +kernel
theorem d_84_56 : decode (axt_b 84) 56 = .ok (.getfield 50, 3) := by decide +kernel
theorem d_84_59 : decode (axt_b 84) 59 = .ok (.if_icmp .ge 67, 3) := by decide +kernel
theorem d_84_62 : decode (axt_b 84) 62 = .ok (.aload_n 0, 1) := by decide +kernel
theorem d_84_63 : decode (axt_b 84) 63 = .ok (.getfield 9, 3) := by decide +kernel
theorem d_84_66 : decode (axt_b 84) 66 = .ok (.iload 4, 2) := by decide +kernel
theorem d_84_68 : decode (axt_b 84) 68 = .ok (.aload_n 1, 1) := by decide +kernel
theorem d_84_69 : decode (axt_b 84) 69 = .ok (.iload_n 3, 1) := by decide +kernel
theorem d_84_70 : decode (axt_b 84) 70 = .ok (.iconst 2, 1) := by decide +kernel
theorem d_84_71 : decode (axt_b 84) 71 = .ok (.iadd, 1) := by decide +kernel
theorem d_84_72 : decode (axt_b 84) 72 = .ok (.iconst 2, 1) := by decide +kernel
theorem d_84_73 : decode (axt_b 84) 73 = .ok (.iload 4, 2) := by decide +kernel
theorem d_84_75 : decode (axt_b 84) 75 = .ok (.imul, 1) := by decide +kernel
theorem d_84_76 : decode (axt_b 84) 76 = .ok (.iadd, 1) := by decide +kernel
theorem d_84_77 : decode (axt_b 84) 77 = .ok (.iaload, 1) := by decide +kernel
theorem d_84_78 : decode (axt_b 84) 78 = .ok (.sipush 511, 3) := by decide +kernel
theorem d_84_81 : decode (axt_b 84) 81 = .ok (.iand, 1) := by decide +kernel
theorem d_84_82 : decode (axt_b 84) 82 = .ok (.iastore, 1) := by decide +kernel
theorem d_84_83 : decode (axt_b 84) 83 = .ok (.aload_n 0, 1) := by decide +kernel
theorem d_84_84 : decode (axt_b 84) 84 = .ok (.getfield 24, 3) := by decide +kernel
theorem d_84_87 : decode (axt_b 84) 87 = .ok (.aload_n 0, 1) := by decide +kernel
theorem d_84_88 : decode (axt_b 84) 88 = .ok (.getfield 9, 3) := by decide +kernel
theorem d_84_91 : decode (axt_b 84) 91 = .ok (.iload 4, 2) := by decide +kernel
theorem d_84_93 : decode (axt_b 84) 93 = .ok (.iaload, 1) := by decide +kernel
theorem d_84_94 : decode (axt_b 84) 94 = .ok (.iload 4, 2) := by decide +kernel
theorem d_84_96 : decode (axt_b 84) 96 = .ok (.iastore, 1) := by decide +kernel
theorem d_84_97 : decode (axt_b 84) 97 = .ok (.aload_n 0, 1) := by decide +kernel
theorem d_84_98 : decode (axt_b 84) 98 = .ok (.getfield 27, 3) := by decide +kernel
theorem d_84_101 : decode (axt_b 84) 101 = .ok (.iload 4, 2) := by decide +kernel
theorem d_84_103 : decode (axt_b 84) 103 = .ok (.bipush 20, 2) := by decide +kernel
theorem d_84_105 : decode (axt_b 84) 105 = .ok (.imul, 1) := by decide +kernel
theorem d_84_106 : decode (axt_b 84) 106 = .ok (.bipush 19, 2) := by decide +kernel
theorem d_84_108 : decode (axt_b 84) 108 = .ok (.iadd, 1) := by decide +kernel
theorem d_84_109 : decode (axt_b 84) 109 = .ok (.aload_n 1, 1) := by decide +kernel
theorem d_84_110 : decode (axt_b 84) 110 = .ok (.iload_n 3, 1) := by decide +kernel
theorem d_84_111 : decode (axt_b 84) 111 = .ok (.iconst 3, 1) := by decide +kernel
theorem d_84_112 : decode (axt_b 84) 112 = .ok (.iadd, 1) := by decide +kernel
theorem d_84_113 : decode (axt_b 84) 113 = .ok (.iconst 2, 1) := by decide +kernel
theorem d_84_114 : decode (axt_b 84) 114 = .ok (.iload 4, 2) := by decide +kernel
theorem d_84_116 : decode (axt_b 84) 116 = .ok (.imul, 1) := by decide +kernel
theorem d_84_117 : decode (axt_b 84) 117 = .ok (.iadd, 1) := by decide +kernel
theorem d_84_118 : decode (axt_b 84) 118 = .ok (.iaload, 1) := by decide +kernel
theorem d_84_119 : decode (axt_b 84) 119 = .ok (.iastore, 1) := by decide +kernel
theorem d_84_120 : decode (axt_b 84) 120 = .ok (.iinc 4 1, 3) := by decide +kernel
theorem d_84_123 : decode (axt_b 84) 123 = .ok (.goto (-70), 3) := by decide +kernel
theorem d_84_126 : decode (axt_b 84) 126 = .ok (.return_, 1) := by decide +kernel
theorem d_85_0 : decode (axt_b 85) 0 = .ok (.aload_n 0, 1) := by decide +kernel
theorem d_85_1 : decode (axt_b 85) 1 = .ok (.aload_n 1, 1) := by decide +kernel
theorem d_85_2 : decode (axt_b 85) 2 = .ok (.iload_n 2, 1) := by decide +kernel
theorem d_85_3 : decode (axt_b 85) 3 = .ok (.iconst 1, 1) := by decide +kernel
theorem d_85_4 : decode (axt_b 85) 4 = .ok (.iadd, 1) := by decide +kernel
theorem d_85_5 : decode (axt_b 85) 5 = .ok (.iaload, 1) := by decide +kernel
theorem d_85_6 : decode (axt_b 85) 6 = .ok (.invokevirtual 96, 3) := by decide +kernel
theorem d_85_9 : decode (axt_b 85) 9 = .ok (.istore_n 3, 1) := by decide +kernel
theorem d_85_10 : decode (axt_b 85) 10 = .ok (.iload_n 3, 1) := by decide +kernel
theorem d_85_11 : decode (axt_b 85) 11 = .ok (.ifCond .lt 23, 3) := by decide +kernel
theorem d_85_14 : decode (axt_b 85) 14 = .ok (.iload_n 3, 1) := by decide +kernel
theorem d_85_15 : decode (axt_b 85) 15 = .ok (.bipush 20, 2) := by decide +kernel
theorem d_85_17 : decode (axt_b 85) 17 = .ok (.irem, 1) := by decide +kernel
theorem d_85_18 : decode (axt_b 85) 18 = .ok (.bipush 19, 2) := by decide +kernel
theorem d_85_20 : decode (axt_b 85) 20 = .ok (.if_icmp .ne 14, 3) := by decide +kernel
theorem d_85_23 : decode (axt_b 85) 23 = .ok (.aload_n 0, 1) := by decide +kernel
theorem d_85_24 : decode (axt_b 85) 24 = .ok (.iload_n 3, 1) := by decide +kernel
theorem d_85_25 : decode (axt_b 85) 25 = .ok (.bipush 20, 2) := by decide +kernel
theorem d_85_27 : decode (axt_b 85) 27 = .ok (.idiv, 1) := by decide +kernel
theorem d_85_28 : decode (axt_b 85) 28 = .ok (.invokevirtual 99, 3) := by decide +kernel
theorem d_85_31 : decode (axt_b 85) 31 = .ok (.ifCond .eq 4, 3) := by decide +kernel
theorem d_85_34 : decode (axt_b 85) 34 = .ok (.return_, 1) := by decide +kernel
theorem d_85_35 : decode (axt_b 85) 35 = .ok (.iload_n 3, 1) := by decide +kernel
theorem d_85_36 : decode (axt_b 85) 36 = .ok (.bipush 20, 2) := by decide +kernel
theorem d_85_38 : decode (axt_b 85) 38 = .ok (.idiv, 1) := by decide +kernel
theorem d_85_39 : decode (axt_b 85) 39 = .ok (.istore 4, 2) := by decide +kernel
theorem d_85_41 : decode (axt_b 85) 41 = .ok (.iload_n 2, 1) := by decide +kernel
theorem d_85_42 : decode (axt_b 85) 42 = .ok (.bipush 15, 2) := by decide +kernel
theorem d_85_44 : decode (axt_b 85) 44 = .ok (.iadd, 1) := by decide +kernel
theorem d_85_45 : decode (axt_b 85) 45 = .ok (.istore 5, 2) := by decide +kernel
theorem d_85_47 : decode (axt_b 85) 47 = .ok (.aload_n 0, 1) := by decide +kernel
theorem d_85_48 : decode (axt_b 85) 48 = .ok (.getfield 15, 3) := by decide +kernel
theorem d_85_51 : decode (axt_b 85) 51 = .ok (.iload 4, 2) := by decide +kernel
theorem d_85_53 : decode (axt_b 85) 53 = .ok (.aload_n 1, 1) := by decide +kernel
theorem d_85_54 : decode (axt_b 85) 54 = .ok (.iload 5, 2) := by decide +kernel
theorem d_85_56 : decode (axt_b 85) 56 = .ok (.iaload, 1) := by decide +kernel
theorem d_85_57 : decode (axt_b 85) 57 = .ok (.iastore, 1) := by decide +kernel
theorem d_85_58 : decode (axt_b 85) 58 = .ok (.aload_n 0, 1) := by decide +kernel
theorem d_85_59 : decode (axt_b 85) 59 = .ok (.iload 4, 2) := by decide +kernel
theorem d_85_61 : decode (axt_b 85) 61 = .ok (.aload_n 1, 1) := by decide +kernel
theorem d_85_62 : decode (axt_b 85) 62 = .ok (.iload 5, 2) := by decide +kernel
theorem d_85_64 : decode (axt_b 85) 64 = .ok (.iconst 2, 1) := by decide +kernel
theorem d_85_65 : decode (axt_b 85) 65 = .ok (.iadd, 1) := by decide +kernel
theorem d_85_66 : decode (axt_b 85) 66 = .ok (.aload_n 1, 1) := by decide +kernel
theorem d_85_67 : decode (axt_b 85) 67 = .ok (.iload 5, 2) := by decide +kernel
theorem d_85_69 : decode (axt_b 85) 69 = .ok (.iconst 1, 1) := by decide +kernel
theorem d_85_70 : decode (axt_b 85) 70 = .ok (.iadd, 1) := by decide +kernel
theorem d_85_71 : decode (axt_b 85) 71 = .ok (.iaload, 1) := by decide +kernel
theorem d_85_72 : decode (axt_b 85) 72 = .ok (.invokevirtual 103, 3) := by decide +kernel
theorem d_85_75 : decode (axt_b 85) 75 = .ok (.aload_n 1, 1) := by decide +kernel
theorem d_85_76 : decode (axt_b 85) 76 = .ok (.iload 5, 2) := by decide +kernel
theorem d_85_78 : decode (axt_b 85) 78 = .ok (.iconst 2, 1) := by decide +kernel
theorem d_85_79 : decode (axt_b 85) 79 = .ok (.iadd, 1) := by decide +kernel
theorem d_85_80 : decode (axt_b 85) 80 = .ok (.bipush 50, 2) := by decide +kernel
theorem d_85_82 : decode (axt_b 85) 82 = .ok (.iadd, 1) := by decide +kernel
theorem d_85_83 : decode (axt_b 85) 83 = .ok (.aload_n 0, 1) := by decide +kernel
theorem d_85_84 : decode (axt_b 85) 84 = .ok (.getfield 27, 3) := by decide +kernel
theorem d_85_87 : decode (axt_b 85) 87 = .ok (.iload 4, 2) := by decide +kernel
theorem d_85_89 : decode (axt_b 85) 89 = .ok (.bipush 20, 2) := by decide +kernel
theorem d_85_91 : decode (axt_b 85) 91 = .ok (.imul, 1) := by decide +kernel
theorem d_85_92 : decode (axt_b 85) 92 = .ok (.bipush 19, 2) := by decide +kernel
theorem d_85_94 : decode (axt_b 85) 94 = .ok (.invokestatic 68, 3) := by decide +kernel
theorem d_85_97 : decode (axt_b 85) 97 = .ok (.aload_n 0, 1) := by decide +kernel
theorem d_85_98 : decode (axt_b 85) 98 = .ok (.dup, 1) := by decide +kernel
theorem d_85_99 : decode (axt_b 85) 99 = .ok (.getfield 46, 3) := by decide +kernel
theorem d_85_102 : decode (axt_b 85) 102 = .ok (.lconst 1, 1) := by decide +kernel
theorem d_85_103 : decode (axt_b 85) 103 = .ok (.iload 4, 2) := by decide +kernel
theorem d_85_105 : decode (axt_b 85) 105 = .ok (.lshl, 1) := by decide +kernel
theorem d_85_106 : decode (axt_b 85) 106 = .ok (.lor, 1) := by decide +kernel
theorem d_85_107 : decode (axt_b 85) 107 = .ok (.putfield 46, 3) := by decide +kernel
theorem d_85_110 : decode (axt_b 85) 110 = .ok (.return_, 1) := by decide +kernel
theorem d_118_0 : decode (axt_b 118) 0 = .ok (.iload_n 3, 1) := by decide +kernel
theorem d_118_1 : decode (axt_b 118) 1 = .ok (.bipush 15, 2) := by decide +kernel
theorem d_118_3 : decode (axt_b 118) 3 = .ok (.iadd, 1) := by decide +kernel
theorem d_118_4 : decode (axt_b 118) 4 = .ok (.istore 4, 2) := by decide +kernel
theorem d_118_6 : decode (axt_b 118) 6 = .ok (.aload_n 2, 1) := by decide +kernel
theorem d_118_7 : decode (axt_b 118) 7 = .ok (.iload 4, 2) := by decide +kernel
theorem d_118_9 : decode (axt_b 118) 9 = .ok (.aload_n 0, 1) := by decide +kernel
theorem d_118_10 : decode (axt_b 118) 10 = .ok (.getfield 15, 3) := by decide +kernel
theorem d_118_13 : decode (axt_b 118) 13 = .ok (.iload_n 1, 1) := by decide +kernel
theorem d_118_14 : decode (axt_b 118) 14 = .ok (.iaload, 1) := by decide +kernel
theorem d_118_15 : decode (axt_b 118) 15 = .ok (.iastore, 1) := by decide +kernel
theorem d_118_16 : decode (axt_b 118) 16 = .ok (.aload_n 2, 1) := by decide +kernel
theorem d_118_17 : decode (axt_b 118) 17 = .ok (.iload 4, 2) := by decide +kernel
theorem d_118_19 : decode (axt_b 118) 19 = .ok (.iconst 1, 1) := by decide +kernel
theorem d_118_20 : decode (axt_b 118) 20 = .ok (.iadd, 1) := by decide +kernel
theorem d_118_21 : decode (axt_b 118) 21 = .ok (.aload_n 0, 1) := by decide +kernel
theorem d_118_22 : decode (axt_b 118) 22 = .ok (.getfield 18, 3) := by decide +kernel
theorem d_118_25 : decode (axt_b 118) 25 = .ok (.iload_n 1, 1) := by decide +kernel
theorem d_118_26 : decode (axt_b 118) 26 = .ok (.iaload, 1) := by decide +kernel
theorem d_118_27 : decode (axt_b 118) 27 = .ok (.iastore, 1) := by decide +kernel
theorem d_118_28 : decode (axt_b 118) 28 = .ok (.aload_n 0, 1) := by decide +kernel
theorem d_118_29 : decode (axt_b 118) 29 = .ok (.iload_n 1, 1) := by decide +kernel
theorem d_118_30 : decode (axt_b 118) 30 = .ok (.aload_n 2, 1) := by decide +kernel
theorem d_118_31 : decode (axt_b 118) 31 = .ok (.iload 4, 2) := by decide +kernel
theorem d_118_33 : decode (axt_b 118) 33 = .ok (.iconst 2, 1) := by decide +kernel
theorem d_118_34 : decode (axt_b 118) 34 = .ok (.iadd, 1) := by decide +kernel
theorem d_118_35 : decode (axt_b 118) 35 = .ok (.invokevirtual 92, 3) := by decide +kernel
theorem d_118_38 : decode (axt_b 118) 38 = .ok (.aload_n 0, 1) := by decide +kernel
theorem d_118_39 : decode (axt_b 118) 39 = .ok (.getfield 27, 3) := by decide +kernel
theorem d_118_42 : decode (axt_b 118) 42 = .ok (.iload_n 1, 1) := by decide +kernel
theorem d_118_43 : decode (axt_b 118) 43 = .ok (.bipush 20, 2) := by decide +kernel
theorem d_118_45 : decode (axt_b 118) 45 = .ok (.imul, 1) := by decide +kernel
theorem d_118_46 : decode (axt_b 118) 46 = .ok (.aload_n 2, 1) := by decide +kernel
theorem d_118_47 : decode (axt_b 118) 47 = .ok (.iload 4, 2) := by decide +kernel
theorem d_118_49 : decode (axt_b 118) 49 = .ok (.iconst 2, 1) := by decide +kernel
theorem d_118_50 : decode (axt_b 118) 50 = .ok (.iadd, 1) := by decide +kernel
theorem d_118_51 : decode (axt_b 118) 51 = .ok (.bipush 50, 2) := by decide +kernel
theorem d_118_53 : decode (axt_b 118) 53 = .ok (.iadd, 1) := by decide +kernel
theorem d_118_54 : decode (axt_b 118) 54 = .ok (.bipush 19, 2) := by decide +kernel
theorem d_118_56 : decode (axt_b 118) 56 = .ok (.invokestatic 68, 3) := by decide +kernel
theorem d_118_59 : decode (axt_b 118) 59 = .ok (.return_, 1) := by decide +kernel
theorem d_122_0 : decode (axt_b 122) 0 = .ok (.iload_n 2, 1) := by decide +kernel
theorem d_122_1 : decode (axt_b 122) 1 = .ok (.bipush 15, 2) := by decide +kernel
theorem d_122_3 : decode (axt_b 122) 3 = .ok (.iadd, 1) := by decide +kernel
theorem d_122_4 : decode (axt_b 122) 4 = .ok (.istore_n 3, 1) := by decide +kernel
theorem d_122_5 : decode (axt_b 122) 5 = .ok (.aload_n 1, 1) := by decide +kernel
theorem d_122_6 : decode (axt_b 122) 6 = .ok (.iload_n 3, 1) := by decide +kernel
theorem d_122_7 : decode (axt_b 122) 7 = .ok (.aload_n 0, 1) := by decide +kernel
theorem d_122_8 : decode (axt_b 122) 8 = .ok (.getfield 50, 3) := by decide +kernel
theorem d_122_11 : decode (axt_b 122) 11 = .ok (.iastore, 1) := by decide +kernel
theorem d_122_12 : decode (axt_b 122) 12 = .ok (.aload_n 1, 1) := by decide +kernel
theorem d_122_13 : decode (axt_b 122) 13 = .ok (.iload_n 3, 1) := by decide +kernel
theorem d_122_14 : decode (axt_b 122) 14 = .ok (.iconst 1, 1) := by decide +kernel
theorem d_122_15 : decode (axt_b 122) 15 = .ok (.iadd, 1) := by decide +kernel
theorem d_122_16 : decode (axt_b 122) 16 = .ok (.aload_n 0, 1) := by decide +kernel
theorem d_122_17 : decode (axt_b 122) 17 = .ok (.getfield 53, 3) := by decide +kernel
theorem d_122_20 : decode (axt_b 122) 20 = .ok (.iastore, 1) := by decide +kernel
theorem d_122_21 : decode (axt_b 122) 21 = .ok (.iconst 0, 1) := by decide +kernel
theorem d_122_22 : decode (axt_b 122) 22 = .ok (.istore 4, 2) := by decide +kernel
theorem d_122_24 : decode (axt_b 122) 24 = .ok (.iconst 0, 1) := by decide +kernel
theorem d_122_25 : decode (axt_b 122) 25 = .ok (.istore 5, 2) := by decide +kernel
theorem d_122_27 : decode (axt_b 122) 27 = .ok (.iload 5, 2) := by decide +kernel
theorem d_122_29 : decode (axt_b 122) 29 = .ok (.sipush 512, 3) := by decide +kernel
theorem d_122_32 : decode (axt_b 122) 32 = .ok (.if_icmp .ge 69, 3) := by decide +kernel
theorem d_122_35 : decode (axt_b 122) 35 = .ok (.iload 4, 2) := by decide +kernel
theorem d_122_37 : decode (axt_b 122) 37 = .ok (.bipush 48, 2) := by decide +kernel
theorem d_122_39 : decode (axt_b 122) 39 = .ok (.if_icmp .ge 62, 3) := by decide +kernel
theorem d_122_42 : decode (axt_b 122) 42 = .ok (.aload_n 0, 1) := by decide +kernel
theorem d_122_43 : decode (axt_b 122) 43 = .ok (.getfield 24, 3) := by decide +kernel
theorem d_122_46 : decode (axt_b 122) 46 = .ok (.iload 5, 2) := by decide +kernel
theorem d_122_48 : decode (axt_b 122) 48 = .ok (.iaload, 1) := by decide +kernel
theorem d_122_49 : decode (axt_b 122) 49 = .ok (.ifCond .lt 46, 3) := by decide +kernel
theorem d_122_52 : decode (axt_b 122) 52 = .ok (.aload_n 1, 1) := by decide +kernel
theorem d_122_53 : decode (axt_b 122) 53 = .ok (.iload_n 3, 1) := by decide +kernel
theorem d_122_54 : decode (axt_b 122) 54 = .ok (.iconst 2, 1) := by decide +kernel
theorem d_122_55 : decode (axt_b 122) 55 = .ok (.iadd, 1) := by decide +kernel
theorem d_122_56 : decode (axt_b 122) 56 = .ok (.iconst 2, 1) := by decide +kernel
theorem d_122_57 : decode (axt_b 122) 57 = .ok (.iload 4, 2) := by decide +kernel
theorem d_122_59 : decode (axt_b 122) 59 = .ok (.imul, 1) := by decide +kernel
theorem d_122_60 : decode (axt_b 122) 60 = .ok (.iadd, 1) := by decide +kernel
theorem d_122_61 : decode (axt_b 122) 61 = .ok (.iload 5, 2) := by decide +kernel
theorem d_122_63 : decode (axt_b 122) 63 = .ok (.iastore, 1) := by decide +kernel
theorem d_122_64 : decode (axt_b 122) 64 = .ok (.aload_n 1, 1) := by decide +kernel
theorem d_122_65 : decode (axt_b 122) 65 = .ok (.iload_n 3, 1) := by decide +kernel
theorem d_122_66 : decode (axt_b 122) 66 = .ok (.iconst 3, 1) := by decide +kernel
theorem d_122_67 : decode (axt_b 122) 67 = .ok (.iadd, 1) := by decide +kernel
theorem d_122_68 : decode (axt_b 122) 68 = .ok (.iconst 2, 1) := by decide +kernel
theorem d_122_69 : decode (axt_b 122) 69 = .ok (.iload 4, 2) := by decide +kernel
theorem d_122_71 : decode (axt_b 122) 71 = .ok (.imul, 1) := by decide +kernel
theorem d_122_72 : decode (axt_b 122) 72 = .ok (.iadd, 1) := by decide +kernel
theorem d_122_73 : decode (axt_b 122) 73 = .ok (.aload_n 0, 1) := by decide +kernel
theorem d_122_74 : decode (axt_b 122) 74 = .ok (.getfield 27, 3) := by decide +kernel
theorem d_122_77 : decode (axt_b 122) 77 = .ok (.aload_n 0, 1) := by decide +kernel
theorem d_122_78 : decode (axt_b 122) 78 = .ok (.getfield 24, 3) := by decide +kernel
theorem d_122_81 : decode (axt_b 122) 81 = .ok (.iload 5, 2) := by decide +kernel
theorem d_122_83 : decode (axt_b 122) 83 = .ok (.iaload, 1) := by decide +kernel
theorem d_122_84 : decode (axt_b 122) 84 = .ok (.bipush 20, 2) := by decide +kernel
theorem d_122_86 : decode (axt_b 122) 86 = .ok (.imul, 1) := by decide +kernel
theorem d_122_87 : decode (axt_b 122) 87 = .ok (.bipush 19, 2) := by decide +kernel
theorem d_122_89 : decode (axt_b 122) 89 = .ok (.iadd, 1) := by decide +kernel
theorem d_122_90 : decode (axt_b 122) 90 = .ok (.iaload, 1) := by decide +kernel
theorem d_122_91 : decode (axt_b 122) 91 = .ok (.iastore, 1) := by decide +kernel
theorem d_122_92 : decode (axt_b 122) 92 = .ok (.iinc 4 1, 3) := by decide +kernel
theorem d_122_95 : decode (axt_b 122) 95 = .ok (.iinc 5 1, 3) := by decide +kernel
theorem d_122_98 : decode (axt_b 122) 98 = .ok (.goto (-71), 3) := by decide +kernel
theorem d_122_101 : decode (axt_b 122) 101 = .ok (.return_, 1) := by decide +kernel
def knB (kn : Int64) (f : Nat) : Int64 := (kn >>> ((nI f).toInt64 &&& 63)) &&& 1
theorem lg_cmp0 {x y : Int64} : lg_cmp x y = 0 ↔ x = y := by
  unfold lg_cmp
  by_cases h : x > y
  · rw [if_pos h]
    exact ⟨fun z => absurd z (by decide), fun z => by subst z; exact absurd h (Int64.lt_irrefl)⟩
  · rw [if_neg h]
    by_cases e : x = y
    · rw [if_pos e]
      exact ⟨fun _ => e, fun _ => rfl⟩
    · rw [if_neg e]
      exact ⟨fun z => absurd z (by decide), fun z => absurd z e⟩
theorem c_81 {L : Nat} {xs : Nat → Int32} {fr lo : Nat} {h : ax_H} {tb a1 a2 a3 a4 a5 a6 a7 : Nat} {g fl an : Int32} {kn : Int64} {f : Nat} (gt : ax_g h tb = some (.inr (6, [.int g, .ref a1, .ref a2, .ref a3, .ref a4, .ref a5, .ref a6, .ref a7, .long kn, .int fl, .int an]))) : ax_M L xs 81 fr lo [.ref tb, .int (nI f)] h (fun r h' => r = some (.int (if knB kn f = 0 then 0 else 1)) ∧ h' = h) := by
  show ax_A (ax_step L xs) ((81, 0, fr, lo), [(0, .ref tb), (1, .int (nI f))], [], h) _
  refine ar_aload_n 1 d_81_0 rfl rfl ?_
  refine ar_getf 4 d_81_1 rfl (ci := 6) (k := 8) rfl gt rfl ?_
  refine ar_iload_n 5 d_81_4 rfl rfl ?_
  refine ar_lshr 6 d_81_5 rfl ?_
  refine ar_lconst 7 (v := 1) d_81_6 rfl (by decide) ?_
  refine ar_land 8 d_81_7 rfl ?_
  refine ar_lconst 9 (v := 0) d_81_8 rfl (by decide) ?_
  refine ar_lcmp 10 d_81_9 rfl ?_
  refine ar_if_eq 17 13 d_81_10 (by decide) rfl (fun c1 => ?_) (fun c1 => ?_)
  · refine ar_iconst 18 (v := 0) d_81_17 rfl (by decide) ?_
    exact ar_iret d_81_18 rfl rfl (⟨by rw [if_pos (show knB kn f = 0 from lg_cmp0.mp c1)], rfl⟩)
  · refine ar_iconst 14 (v := 1) d_81_13 rfl (by decide) ?_
    refine ar_goto 18 d_81_14 (by decide) ?_
    exact ar_iret d_81_18 rfl rfl (⟨by rw [if_neg (show ¬ knB kn f = 0 from fun z => c1 (lg_cmp0.mpr z))], rfl⟩)
theorem c_78R {L : Nat} {xs : Nat → Int32} {fr lo : Nat} {h : ax_H} {x : Int32} : ax_M L xs 78 fr lo [.int x] h (fun r h' => r = some (.int (x - x / 512 * 512)) ∧ h' = h) := by
  show ax_A (ax_step L xs) ((78, 0, fr, lo), [(0, .int x)], [], h) _
  refine ar_iload_n 1 d_78_0 rfl rfl ?_
  refine ar_sipush 4 (v := 512) d_78_1 rfl (by decide) ?_
  refine ar_irem 5 d_78_4 rfl (by decide) ?_
  exact ar_iret d_78_5 rfl rfl (⟨rfl, rfl⟩)
def rrJ (wf : Nat → Int32) (p : Nat) (jf : Nat → Int32) : Nat → (Nat → Int32)
  | 0 => jf
  | k + 1 => upd (rrJ wf p jf k) k ((wf (p + 17 + 2 * k)) &&& 511)
def rrO (wf : Nat → Int32) (p : Nat) (fo : Nat → Int32) : Nat → (Nat → Int32)
  | 0 => fo
  | k + 1 => upd (rrO wf p fo k) ((wf (p + 17 + 2 * k)) &&& 511).toNatClampNeg (nI k)
def rrV (wf : Nat → Int32) (p : Nat) (vf : Nat → Int32) : Nat → (Nat → Int32)
  | 0 => vf
  | k + 1 => upd (rrV wf p vf k) (k * 20 + 19) (wf (p + 18 + 2 * k))
theorem lp_84 {L : Nat} {xs : Nat → Int32} {fr lo n sl : Nat} {tb a1 a2 a3 a4 a5 a6 a7 b N p c : Nat} {g an : Int32} {jf fo vf wf : Nat → Int32} {post : ax_Po} (hc : c ≤ 48) (hN : N < 2 ^ 31) (hp : p + 128 ≤ N) : ∀ (k i : Nat) (h : ax_H), i + k = c → ax_hs h [(tb, .inr (6, [.int g, .ref a1, .ref a2, .ref a3, .ref a4, .ref a5, .ref a6, .ref a7, .long 0, .int (nI c), .int an])), (a1, .inl (0, 48, .inl (rrJ wf p jf i))), (a5, .inl (0, 512, .inl (rrO wf p fo i))), (a6, .inl (0, 961, .inl (rrV wf p vf i))), (b, .inl (0, N, .inl wf))] → h.1 = n → h.2.1 = sl → (∀ h', ax_hs h' [(tb, .inr (6, [.int g, .ref a1, .ref a2, .ref a3, .ref a4, .ref a5, .ref a6, .ref a7, .long 0, .int (nI c), .int an])), (a1, .inl (0, 48, .inl (rrJ wf p jf c))), (a5, .inl (0, 512, .inl (rrO wf p fo c))), (a6, .inl (0, 961, .inl (rrV wf p vf c))), (b, .inl (0, N, .inl wf))] → h'.1 = n → h'.2.1 = sl → ax_fr (fun x => x ∈ [a1, a5, a6]) h h' → post none h') → ax_A (ax_step L xs) ((84, 53, fr, lo), [(0, .ref tb), (1, .ref b), (2, .int (nI p)), (3, .int (nI (p + 15))), (4, .int (nI i))], [], h) post := by
  intro k
  induction k with
  | zero =>
    intro i h hi hF hn hs kk
    have e : i = c := by omega
    subst e
    refine ar_iload 55 d_84_53 rfl rfl ?_
    refine ar_aload_n 56 d_84_55 rfl rfl ?_
    refine ar_getf 59 d_84_56 rfl (ci := 6) (k := 9) rfl (hF.at 0 rfl) rfl ?_
    refine ar_icmp_ge 126 62 d_84_59 (by decide) rfl (fun _ => ?_) (fun c => absurd (Int32.le_refl _) c)
    exact ar_ret d_84_126 rfl (kk h hF hn hs ax_fr.rf)
  | succ k ih =>
    intro i h hi hF hn hs kk
    have hic : i < c := by omega
    have hbase : h.1 = n := hn
    have hbasl : h.2.1 = sl := hs
    have hf : ax_fr (fun x => x ∈ [a1, a5, a6]) h h := ax_fr.rf
    refine ar_iload 55 d_84_53 rfl rfl ?_
    refine ar_aload_n 56 d_84_55 rfl rfl ?_
    refine ar_getf 59 d_84_56 rfl (ci := 6) (k := 9) rfl (hF.at 0 rfl) rfl ?_
    refine ar_icmp_ge 126 62 d_84_59 (by decide) rfl (fun c => absurd c (nI_ge hic (by omega))) (fun _ => ?_)
    refine ar_aload_n 63 d_84_62 rfl rfl ?_
    refine ar_getf 66 d_84_63 rfl (ci := 6) (k := 1) rfl (hF.at 0 rfl) rfl ?_
    refine ar_iload 68 d_84_66 rfl rfl ?_
    refine ar_aload_n 69 d_84_68 rfl rfl ?_
    refine ar_iload_n 70 d_84_69 rfl rfl ?_
    refine ar_iconst 71 (v := 2) d_84_70 rfl (by decide) ?_
    refine ar_iadd 72 d_84_71 rfl ?_
    refine ar_top (x' := nI (p + 15 + 2)) (nI_add (p + 15) 2) ?_
    refine ar_iconst 73 (v := 2) d_84_72 rfl (by decide) ?_
    refine ar_iload 75 d_84_73 rfl rfl ?_
    refine ar_imul 76 d_84_75 rfl ?_
    refine ar_top (x' := nI (2 * i)) (pk_mul 2 i) ?_
    refine ar_iadd 77 d_84_76 rfl ?_
    refine ar_top (x' := nI (p + 17 + 2 * i)) (nI_add (p + 17) (2 * i)) ?_
    refine ar_iald 78 d_84_77 rfl (hF.at 4 rfl) (nI_in (by omega) (by omega)) ?_
    refine ar_top (x' := wf (p + 17 + 2 * i)) (by rw [nI_clamp (by omega)]) ?_
    refine ar_sipush 81 (v := 511) d_84_78 rfl (by decide) ?_
    refine ar_iand 82 d_84_81 rfl ?_
    refine ar_iast 83 d_84_82 rfl (hF.at 1 rfl) (nI_in (by omega) (by omega)) ?_
    replace hF : ax_hs (ax_put h a1 (.inl (0, 48, .inl (upd (rrJ wf p jf i) (nI i).toNatClampNeg ((wf (p + 17 + 2 * i)) &&& 511))))) [(tb, .inr (6, [.int g, .ref a1, .ref a2, .ref a3, .ref a4, .ref a5, .ref a6, .ref a7, .long 0, .int (nI c), .int an])), (a1, .inl (0, 48, .inl (upd (rrJ wf p jf i) (nI i).toNatClampNeg ((wf (p + 17 + 2 * i)) &&& 511)))), (a5, .inl (0, 512, .inl (rrO wf p fo i))), (a6, .inl (0, 961, .inl (rrV wf p vf i))), (b, .inl (0, N, .inl wf))] := hF.put 1 _ rfl rfl
    replace hf := hf.put (a := a1) (c := .inl (0, 48, .inl (upd (rrJ wf p jf i) (nI i).toNatClampNeg ((wf (p + 17 + 2 * i)) &&& 511)))) (by simp)
    replace hn : (ax_put h a1 (.inl (0, 48, .inl (upd (rrJ wf p jf i) (nI i).toNatClampNeg ((wf (p + 17 + 2 * i)) &&& 511))))).1 = n := hn
    replace hs : (ax_put h a1 (.inl (0, 48, .inl (upd (rrJ wf p jf i) (nI i).toNatClampNeg ((wf (p + 17 + 2 * i)) &&& 511))))).2.1 = sl := hs
    generalize ax_put h a1 (.inl (0, 48, .inl (upd (rrJ wf p jf i) (nI i).toNatClampNeg ((wf (p + 17 + 2 * i)) &&& 511)))) = h1 at hF hf hn hs ⊢
    refine ar_aload_n 84 d_84_83 rfl rfl ?_
    refine ar_getf 87 d_84_84 rfl (ci := 6) (k := 5) rfl (hF.at 0 rfl) rfl ?_
    refine ar_aload_n 88 d_84_87 rfl rfl ?_
    refine ar_getf 91 d_84_88 rfl (ci := 6) (k := 1) rfl (hF.at 0 rfl) rfl ?_
    refine ar_iload 93 d_84_91 rfl rfl ?_
    refine ar_iald 94 d_84_93 rfl (hF.at 1 rfl) (nI_in (by omega) (by omega)) ?_
    refine ar_top (x' := (wf (p + 17 + 2 * i)) &&& 511) (by rw [nI_clamp (by omega)]; exact upd_s _ _ _) ?_
    refine ar_iload 96 d_84_94 rfl rfl ?_
    refine ar_iast 97 d_84_96 rfl (hF.at 2 rfl) (pk_andIn _ 9 rfl (by omega)) ?_
    replace hF : ax_hs (ax_put h1 a5 (.inl (0, 512, .inl (upd (rrO wf p fo i) ((wf (p + 17 + 2 * i)) &&& 511).toNatClampNeg (nI i))))) [(tb, .inr (6, [.int g, .ref a1, .ref a2, .ref a3, .ref a4, .ref a5, .ref a6, .ref a7, .long 0, .int (nI c), .int an])), (a1, .inl (0, 48, .inl (upd (rrJ wf p jf i) (nI i).toNatClampNeg ((wf (p + 17 + 2 * i)) &&& 511)))), (a5, .inl (0, 512, .inl (upd (rrO wf p fo i) ((wf (p + 17 + 2 * i)) &&& 511).toNatClampNeg (nI i)))), (a6, .inl (0, 961, .inl (rrV wf p vf i))), (b, .inl (0, N, .inl wf))] := hF.put 2 _ rfl rfl
    replace hf := hf.put (a := a5) (c := .inl (0, 512, .inl (upd (rrO wf p fo i) ((wf (p + 17 + 2 * i)) &&& 511).toNatClampNeg (nI i)))) (by simp)
    replace hn : (ax_put h1 a5 (.inl (0, 512, .inl (upd (rrO wf p fo i) ((wf (p + 17 + 2 * i)) &&& 511).toNatClampNeg (nI i))))).1 = n := hn
    replace hs : (ax_put h1 a5 (.inl (0, 512, .inl (upd (rrO wf p fo i) ((wf (p + 17 + 2 * i)) &&& 511).toNatClampNeg (nI i))))).2.1 = sl := hs
    generalize ax_put h1 a5 (.inl (0, 512, .inl (upd (rrO wf p fo i) ((wf (p + 17 + 2 * i)) &&& 511).toNatClampNeg (nI i)))) = h2 at hF hf hn hs ⊢
    refine ar_aload_n 98 d_84_97 rfl rfl ?_
    refine ar_getf 101 d_84_98 rfl (ci := 6) (k := 6) rfl (hF.at 0 rfl) rfl ?_
    refine ar_iload 103 d_84_101 rfl rfl ?_
    refine ar_bipush 105 (v := 20) d_84_103 rfl (by decide) ?_
    refine ar_imul 106 d_84_105 rfl ?_
    refine ar_top (x' := nI (i * 20)) (pk_mul i 20) ?_
    refine ar_bipush 108 (v := 19) d_84_106 rfl (by decide) ?_
    refine ar_iadd 109 d_84_108 rfl ?_
    refine ar_top (x' := nI (i * 20 + 19)) (nI_add (i * 20) 19) ?_
    refine ar_aload_n 110 d_84_109 rfl rfl ?_
    refine ar_iload_n 111 d_84_110 rfl rfl ?_
    refine ar_iconst 112 (v := 3) d_84_111 rfl (by decide) ?_
    refine ar_iadd 113 d_84_112 rfl ?_
    refine ar_top (x' := nI (p + 15 + 3)) (nI_add (p + 15) 3) ?_
    refine ar_iconst 114 (v := 2) d_84_113 rfl (by decide) ?_
    refine ar_iload 116 d_84_114 rfl rfl ?_
    refine ar_imul 117 d_84_116 rfl ?_
    refine ar_top (x' := nI (2 * i)) (pk_mul 2 i) ?_
    refine ar_iadd 118 d_84_117 rfl ?_
    refine ar_top (x' := nI (p + 18 + 2 * i)) (nI_add (p + 18) (2 * i)) ?_
    refine ar_iald 119 d_84_118 rfl (hF.at 4 rfl) (nI_in (by omega) (by omega)) ?_
    refine ar_top (x' := wf (p + 18 + 2 * i)) (by rw [nI_clamp (by omega)]) ?_
    refine ar_iast 120 d_84_119 rfl (hF.at 3 rfl) (nI_in (by omega) (by omega)) ?_
    replace hF : ax_hs (ax_put h2 a6 (.inl (0, 961, .inl (upd (rrV wf p vf i) (nI (i * 20 + 19)).toNatClampNeg (wf (p + 18 + 2 * i)))))) [(tb, .inr (6, [.int g, .ref a1, .ref a2, .ref a3, .ref a4, .ref a5, .ref a6, .ref a7, .long 0, .int (nI c), .int an])), (a1, .inl (0, 48, .inl (upd (rrJ wf p jf i) (nI i).toNatClampNeg ((wf (p + 17 + 2 * i)) &&& 511)))), (a5, .inl (0, 512, .inl (upd (rrO wf p fo i) ((wf (p + 17 + 2 * i)) &&& 511).toNatClampNeg (nI i)))), (a6, .inl (0, 961, .inl (upd (rrV wf p vf i) (nI (i * 20 + 19)).toNatClampNeg (wf (p + 18 + 2 * i))))), (b, .inl (0, N, .inl wf))] := hF.put 3 _ rfl rfl
    replace hf := hf.put (a := a6) (c := .inl (0, 961, .inl (upd (rrV wf p vf i) (nI (i * 20 + 19)).toNatClampNeg (wf (p + 18 + 2 * i))))) (by simp)
    replace hn : (ax_put h2 a6 (.inl (0, 961, .inl (upd (rrV wf p vf i) (nI (i * 20 + 19)).toNatClampNeg (wf (p + 18 + 2 * i)))))).1 = n := hn
    replace hs : (ax_put h2 a6 (.inl (0, 961, .inl (upd (rrV wf p vf i) (nI (i * 20 + 19)).toNatClampNeg (wf (p + 18 + 2 * i)))))).2.1 = sl := hs
    generalize ax_put h2 a6 (.inl (0, 961, .inl (upd (rrV wf p vf i) (nI (i * 20 + 19)).toNatClampNeg (wf (p + 18 + 2 * i))))) = h3 at hF hf hn hs ⊢
    refine ar_iinc 123 [(0, .ref tb), (1, .ref b), (2, .int (nI p)), (3, .int (nI (p + 15))), (4, .int (nI (i + 1)))] d_84_120 rfl rfl (nI_1 i) (by decide) rfl ?_
    refine ar_goto 53 d_84_123 (by decide) ?_
    rw [nI_clamp (show i < 2 ^ 31 by omega), nI_clamp (show i * 20 + 19 < 2 ^ 31 by omega)] at hF
    exact ih (i + 1) h3 (by omega) hF hn hs (fun h' j1 j2 j3 j4 => kk h' j1 j2 j3 (hf.tr j4))
theorem c_84 {L : Nat} {xs : Nat → Int32} {fr lo : Nat} {h : ax_H} {n sl : Nat} {tb a1 a2 a3 a4 a5 a6 a7 : Nat} {g fl an : Int32} {kn : Int64} {b N p c : Nat} {jf zf fo vf hv wf : Nat → Int32} (hfr : 2 ≤ fr) (hlo : 60 ≤ lo) (hN : N < 2 ^ 31) (hp : p + 128 ≤ N) (hc : c ≤ 48) (hcl : clI (wf (p + 15)) 0 48 = nI c) (hF : ax_hs h [(tb, .inr (6, [.int g, .ref a1, .ref a2, .ref a3, .ref a4, .ref a5, .ref a6, .ref a7, .long kn, .int fl, .int an])), (a1, .inl (0, 48, .inl jf)), (a2, .inl (0, 48, .inl zf)), (a5, .inl (0, 512, .inl fo)), (a6, .inl (0, 961, .inl vf)), (a7, .inl (0, 961, .inl hv)), (b, .inl (0, N, .inl wf))]) (hn : h.1 = n) (hs : h.2.1 = sl) (hn0 : 0 < n) : ax_M L xs 84 fr lo [.ref tb, .ref b, .int (nI p)] h (fun r h' => r = none ∧ ax_hs h' [(tb, .inr (6, [.int g, .ref a1, .ref a2, .ref a3, .ref a4, .ref a5, .ref a6, .ref a7, .long 0, .int (nI c), .int (wf (p + 16))])), (a1, .inl (0, 48, .inl (rrJ wf p (ax_fill jf 0 48 (-1)) c))), (a2, .inl (0, 48, .inl (ax_fill zf 0 48 0))), (a5, .inl (0, 512, .inl (rrO wf p (ax_fill fo 0 512 (-1)) c))), (a6, .inl (0, 961, .inl (rrV wf p (upd (ax_fill vf 0 961 (-1)) 960 ((wf (p + 1)) - (wf (p + 1)) / 512 * 512)) c))), (a7, .inl (0, 961, .inl (ax_fill hv 0 961 0))), (b, .inl (0, N, .inl wf))] ∧ h'.1 = n ∧ h'.2.1 = sl ∧ ax_fr (fun x => x ∈ [tb, a1, a2, a5, a6, a7]) h h') := by
  show ax_A (ax_step L xs) ((84, 0, fr, lo), [(0, .ref tb), (1, .ref b), (2, .int (nI p))], [], h) _
  have hbase : h.1 = n := hn
  have hbasl : h.2.1 = sl := hs
  have hf : ax_fr (fun x => x ∈ [tb, a1, a2, a5, a6, a7]) h h := ax_fr.rf
  refine ar_aload_n 1 d_84_0 rfl rfl ?_
  refine ar_call (r := []) (na := 0) (kd := 0) (cm := 12) (fr2 := fr - 1) (lo2 := lo - 20) 4 d_84_1 (ar_hoV (as := []) rfl rfl rfl (hF.at 0 rfl)) rfl (by omega) (show lo - 20 + (19 + 1) = lo by omega) (Nat.le_of_ble_eq_true rfl) (Nat.le_of_ble_eq_true rfl) (c_12 (by omega) (by omega) (hF.sub (F' := [(tb, .inr (6, [.int g, .ref a1, .ref a2, .ref a3, .ref a4, .ref a5, .ref a6, .ref a7, .long kn, .int fl, .int an])), (a1, .inl (0, 48, .inl jf)), (a2, .inl (0, 48, .inl zf)), (a5, .inl (0, 512, .inl fo)), (a6, .inl (0, 961, .inl vf)), (a7, .inl (0, 961, .inl hv))]) [0, 1, 2, 3, 4, 5] rfl rfl) hn hs (by omega)) ?_
  intro v h1 hq
  obtain ⟨rfl, qF, qn, qs, qf⟩ := hq
  have qF : ax_hs h1 [(tb, .inr (6, [.int g, .ref a1, .ref a2, .ref a3, .ref a4, .ref a5, .ref a6, .ref a7, .long 0, .int 0, .int 0])), (a1, .inl (0, 48, .inl (ax_fill jf 0 48 (-1)))), (a2, .inl (0, 48, .inl (ax_fill zf 0 48 0))), (a5, .inl (0, 512, .inl (ax_fill fo 0 512 (-1)))), (a6, .inl (0, 961, .inl (ax_fill vf 0 961 (-1)))), (a7, .inl (0, 961, .inl (ax_fill hv 0 961 0)))] := qF
  replace hF : ax_hs h1 [(b, .inl (0, N, .inl wf)), (tb, .inr (6, [.int g, .ref a1, .ref a2, .ref a3, .ref a4, .ref a5, .ref a6, .ref a7, .long 0, .int 0, .int 0])), (a1, .inl (0, 48, .inl (ax_fill jf 0 48 (-1)))), (a2, .inl (0, 48, .inl (ax_fill zf 0 48 0))), (a5, .inl (0, 512, .inl (ax_fill fo 0 512 (-1)))), (a6, .inl (0, 961, .inl (ax_fill vf 0 961 (-1)))), (a7, .inl (0, 961, .inl (ax_fill hv 0 961 0)))] := ax_hs.call (rest := [(b, .inl (0, N, .inl wf))]) [0, 1, 2, 3, 4, 5] [6] hF qf qF rfl rfl rfl [0, 1, 2, 3, 4, 5] rfl rfl [0, 1, 2, 3, 4, 5] (news := []) rfl rfl (fun _ z => absurd z List.not_mem_nil) rfl
  replace hf := hf.trC qf (by intro x hx hB; simp at hB; first | (rcases hB with rfl | rfl | rfl | rfl | rfl | rfl <;> first | omega | simp) | omega | simp [hB])
  replace hn : h1.1 = n := by omega
  replace hs : h1.2.1 = sl := by omega
  have qf0 := qf
  clear qF qn qs qf
  refine ar_iload_n 5 d_84_4 rfl rfl ?_
  refine ar_bipush 7 (v := 15) d_84_5 rfl (by decide) ?_
  refine ar_iadd 8 d_84_7 rfl ?_
  refine ar_top (x' := nI (p + 15)) (nI_add p 15) ?_
  refine ar_istore_n 9 [(0, .ref tb), (1, .ref b), (2, .int (nI p)), (3, .int (nI (p + 15)))] d_84_8 rfl (by decide) rfl ?_
  refine ar_aload_n 10 d_84_9 rfl rfl ?_
  refine ar_getf 13 d_84_10 rfl (ci := 6) (k := 6) rfl (hF.at 1 rfl) rfl ?_
  refine ar_sipush 16 (v := 960) d_84_13 rfl (by decide) ?_
  refine ar_aload_n 17 d_84_16 rfl rfl ?_
  refine ar_iload_n 18 d_84_17 rfl rfl ?_
  refine ar_iconst 19 (v := 1) d_84_18 rfl (by decide) ?_
  refine ar_iadd 20 d_84_19 rfl ?_
  refine ar_top (x' := nI (p + 1)) (nI_add p 1) ?_
  refine ar_iald 21 d_84_20 rfl (hF.at 0 rfl) (nI_in (by omega) (by omega)) ?_
  refine ar_top (x' := wf (p + 1)) (by rw [nI_clamp (by omega)]) ?_
  refine ar_call (r := [.int 960, .ref a6]) (na := 0) (kd := 0) (cm := 78) (fr2 := fr - 1) (lo2 := lo - 20) 24 d_84_21 (ar_hoS (as := [.int (wf (p + 1))]) rfl rfl rfl) rfl (by omega) (show lo - 20 + (19 + 1) = lo by omega) (Nat.le_of_ble_eq_true rfl) (Nat.le_of_ble_eq_true rfl) (c_78R) ?_
  intro v hh hq
  obtain ⟨rfl, ehh⟩ := hq
  rw [ehh]
  clear ehh
  refine ar_iast 25 d_84_24 rfl (hF.at 5 rfl) (vin (i := 960) (by decide) (by decide)) ?_
  replace hF : ax_hs (ax_put h1 a6 (.inl (0, 961, .inl (upd (ax_fill vf 0 961 (-1)) ((960 : Int32).toNatClampNeg) ((wf (p + 1)) - (wf (p + 1)) / 512 * 512))))) [(b, .inl (0, N, .inl wf)), (tb, .inr (6, [.int g, .ref a1, .ref a2, .ref a3, .ref a4, .ref a5, .ref a6, .ref a7, .long 0, .int 0, .int 0])), (a1, .inl (0, 48, .inl (ax_fill jf 0 48 (-1)))), (a2, .inl (0, 48, .inl (ax_fill zf 0 48 0))), (a5, .inl (0, 512, .inl (ax_fill fo 0 512 (-1)))), (a6, .inl (0, 961, .inl (upd (ax_fill vf 0 961 (-1)) ((960 : Int32).toNatClampNeg) ((wf (p + 1)) - (wf (p + 1)) / 512 * 512)))), (a7, .inl (0, 961, .inl (ax_fill hv 0 961 0)))] := hF.put 5 _ rfl rfl
  replace hf := hf.put (a := a6) (c := .inl (0, 961, .inl (upd (ax_fill vf 0 961 (-1)) ((960 : Int32).toNatClampNeg) ((wf (p + 1)) - (wf (p + 1)) / 512 * 512)))) (by simp)
  replace hn : (ax_put h1 a6 (.inl (0, 961, .inl (upd (ax_fill vf 0 961 (-1)) ((960 : Int32).toNatClampNeg) ((wf (p + 1)) - (wf (p + 1)) / 512 * 512))))).1 = n := hn
  replace hs : (ax_put h1 a6 (.inl (0, 961, .inl (upd (ax_fill vf 0 961 (-1)) ((960 : Int32).toNatClampNeg) ((wf (p + 1)) - (wf (p + 1)) / 512 * 512))))).2.1 = sl := hs
  generalize ax_put h1 a6 (.inl (0, 961, .inl (upd (ax_fill vf 0 961 (-1)) ((960 : Int32).toNatClampNeg) ((wf (p + 1)) - (wf (p + 1)) / 512 * 512)))) = h2 at hF hf hn hs ⊢
  refine ar_aload_n 26 d_84_25 rfl rfl ?_
  refine ar_iconst 27 (v := 0) d_84_26 rfl (by decide) ?_
  refine ar_bipush 29 (v := 48) d_84_27 rfl (by decide) ?_
  refine ar_aload_n 30 d_84_29 rfl rfl ?_
  refine ar_iload_n 31 d_84_30 rfl rfl ?_
  refine ar_iald 32 d_84_31 rfl (hF.at 0 rfl) (nI_in (by omega) (by omega)) ?_
  refine ar_top (x' := wf (p + 15)) (by rw [nI_clamp (by omega)]) ?_
  refine ar_min 35 d_84_32 rfl rfl (by omega) (by show 2 + 13 ≤ lo; omega) (w := if wf (p + 15) < 48 then wf (p + 15) else 48) (rfl) ?_
  refine ar_max 38 d_84_35 rfl rfl (by omega) (by show 1 + 13 ≤ lo; omega) (w := clI (wf (p + 15)) 0 48) (rfl) ?_
  refine ar_top (x' := nI c) hcl ?_
  refine ar_putf 41 [.int g, .ref a1, .ref a2, .ref a3, .ref a4, .ref a5, .ref a6, .ref a7, .long 0, .int (nI c), .int 0] d_84_38 rfl (ci := 6) (k := 9) rfl rfl (hF.at 1 rfl) (Nat.le_of_ble_eq_true rfl) rfl rfl rfl ?_
  replace hF : ax_hs (ax_put h2 tb (.inr (6, [.int g, .ref a1, .ref a2, .ref a3, .ref a4, .ref a5, .ref a6, .ref a7, .long 0, .int (nI c), .int 0]))) [(b, .inl (0, N, .inl wf)), (tb, .inr (6, [.int g, .ref a1, .ref a2, .ref a3, .ref a4, .ref a5, .ref a6, .ref a7, .long 0, .int (nI c), .int 0])), (a1, .inl (0, 48, .inl (ax_fill jf 0 48 (-1)))), (a2, .inl (0, 48, .inl (ax_fill zf 0 48 0))), (a5, .inl (0, 512, .inl (ax_fill fo 0 512 (-1)))), (a6, .inl (0, 961, .inl (upd (ax_fill vf 0 961 (-1)) ((960 : Int32).toNatClampNeg) ((wf (p + 1)) - (wf (p + 1)) / 512 * 512)))), (a7, .inl (0, 961, .inl (ax_fill hv 0 961 0)))] := hF.put 1 _ rfl rfl
  replace hf := hf.put (a := tb) (c := .inr (6, [.int g, .ref a1, .ref a2, .ref a3, .ref a4, .ref a5, .ref a6, .ref a7, .long 0, .int (nI c), .int 0])) (by simp)
  replace hn : (ax_put h2 tb (.inr (6, [.int g, .ref a1, .ref a2, .ref a3, .ref a4, .ref a5, .ref a6, .ref a7, .long 0, .int (nI c), .int 0]))).1 = n := hn
  replace hs : (ax_put h2 tb (.inr (6, [.int g, .ref a1, .ref a2, .ref a3, .ref a4, .ref a5, .ref a6, .ref a7, .long 0, .int (nI c), .int 0]))).2.1 = sl := hs
  generalize ax_put h2 tb (.inr (6, [.int g, .ref a1, .ref a2, .ref a3, .ref a4, .ref a5, .ref a6, .ref a7, .long 0, .int (nI c), .int 0])) = h3 at hF hf hn hs ⊢
  refine ar_aload_n 42 d_84_41 rfl rfl ?_
  refine ar_aload_n 43 d_84_42 rfl rfl ?_
  refine ar_iload_n 44 d_84_43 rfl rfl ?_
  refine ar_iconst 45 (v := 1) d_84_44 rfl (by decide) ?_
  refine ar_iadd 46 d_84_45 rfl ?_
  refine ar_top (x' := nI (p + 16)) (nI_add (p + 15) 1) ?_
  refine ar_iald 47 d_84_46 rfl (hF.at 0 rfl) (nI_in (by omega) (by omega)) ?_
  refine ar_top (x' := wf (p + 16)) (by rw [nI_clamp (by omega)]) ?_
  refine ar_putf 50 [.int g, .ref a1, .ref a2, .ref a3, .ref a4, .ref a5, .ref a6, .ref a7, .long 0, .int (nI c), .int (wf (p + 16))] d_84_47 rfl (ci := 6) (k := 10) rfl rfl (hF.at 1 rfl) (Nat.le_of_ble_eq_true rfl) rfl rfl rfl ?_
  replace hF : ax_hs (ax_put h3 tb (.inr (6, [.int g, .ref a1, .ref a2, .ref a3, .ref a4, .ref a5, .ref a6, .ref a7, .long 0, .int (nI c), .int (wf (p + 16))]))) [(b, .inl (0, N, .inl wf)), (tb, .inr (6, [.int g, .ref a1, .ref a2, .ref a3, .ref a4, .ref a5, .ref a6, .ref a7, .long 0, .int (nI c), .int (wf (p + 16))])), (a1, .inl (0, 48, .inl (ax_fill jf 0 48 (-1)))), (a2, .inl (0, 48, .inl (ax_fill zf 0 48 0))), (a5, .inl (0, 512, .inl (ax_fill fo 0 512 (-1)))), (a6, .inl (0, 961, .inl (upd (ax_fill vf 0 961 (-1)) ((960 : Int32).toNatClampNeg) ((wf (p + 1)) - (wf (p + 1)) / 512 * 512)))), (a7, .inl (0, 961, .inl (ax_fill hv 0 961 0)))] := hF.put 1 _ rfl rfl
  replace hf := hf.put (a := tb) (c := .inr (6, [.int g, .ref a1, .ref a2, .ref a3, .ref a4, .ref a5, .ref a6, .ref a7, .long 0, .int (nI c), .int (wf (p + 16))])) (by simp)
  replace hn : (ax_put h3 tb (.inr (6, [.int g, .ref a1, .ref a2, .ref a3, .ref a4, .ref a5, .ref a6, .ref a7, .long 0, .int (nI c), .int (wf (p + 16))]))).1 = n := hn
  replace hs : (ax_put h3 tb (.inr (6, [.int g, .ref a1, .ref a2, .ref a3, .ref a4, .ref a5, .ref a6, .ref a7, .long 0, .int (nI c), .int (wf (p + 16))]))).2.1 = sl := hs
  generalize ax_put h3 tb (.inr (6, [.int g, .ref a1, .ref a2, .ref a3, .ref a4, .ref a5, .ref a6, .ref a7, .long 0, .int (nI c), .int (wf (p + 16))])) = h4 at hF hf hn hs ⊢
  refine ar_iconst 51 (v := 0) d_84_50 rfl (by decide) ?_
  refine ar_istore 53 [(0, .ref tb), (1, .ref b), (2, .int (nI p)), (3, .int (nI (p + 15))), (4, .int 0)] d_84_51 rfl (by decide) rfl ?_
  have hF8 := hF.sub (F' := [(tb, .inr (6, [.int g, .ref a1, .ref a2, .ref a3, .ref a4, .ref a5, .ref a6, .ref a7, .long 0, .int (nI c), .int (wf (p + 16))])), (a1, .inl (0, 48, .inl (ax_fill jf 0 48 (-1)))), (a5, .inl (0, 512, .inl (ax_fill fo 0 512 (-1)))), (a6, .inl (0, 961, .inl (upd (ax_fill vf 0 961 (-1)) 960 ((wf (p + 1)) - (wf (p + 1)) / 512 * 512)))), (b, .inl (0, N, .inl wf))]) [1, 2, 4, 5, 0] rfl rfl
  have hF7 := hF.sub (F' := [(a2, .inl (0, 48, .inl (ax_fill zf 0 48 0))), (a7, .inl (0, 961, .inl (ax_fill hv 0 961 0)))]) [3, 6] rfl rfl
  refine lp_84 hc hN hp c 0 h4 (by omega) hF8 hn hs (fun h' qF qn qs qf => ?_)
  have hR := hF7.fr qf (by intro x hx z; exact ax_hs.apartA hF [3, 6] [2, 4, 5] (by decide) rfl rfl x.1 (List.mem_map.mpr ⟨x, hx, rfl⟩) z)
  have hG := hR.app qF (by intro i j p q hp hq; exact ax_hs.apart2 hF [3, 6] [1, 2, 4, 5, 0] (by decide) rfl rfl hp hq)
  exact ⟨rfl, hG.sub (F' := [(tb, .inr (6, [.int g, .ref a1, .ref a2, .ref a3, .ref a4, .ref a5, .ref a6, .ref a7, .long 0, .int (nI c), .int (wf (p + 16))])), (a1, .inl (0, 48, .inl (rrJ wf p (ax_fill jf 0 48 (-1)) c))), (a2, .inl (0, 48, .inl (ax_fill zf 0 48 0))), (a5, .inl (0, 512, .inl (rrO wf p (ax_fill fo 0 512 (-1)) c))), (a6, .inl (0, 961, .inl (rrV wf p (upd (ax_fill vf 0 961 (-1)) 960 ((wf (p + 1)) - (wf (p + 1)) / 512 * 512)) c))), (a7, .inl (0, 961, .inl (ax_fill hv 0 961 0))), (b, .inl (0, N, .inl wf))]) [2, 3, 0, 4, 5, 1, 6] rfl rfl, qn, qs, hf.tr (qf.mono (by intro x hx; simp at hx; rcases hx with rfl | rfl | rfl <;> simp))⟩


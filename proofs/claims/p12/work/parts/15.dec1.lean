/-! what the bytes say (printed by program) -/
theorem d_0_0 : decode (axt_b 0) 0 = .ok (.aload_n 0, 1) := by decide +kernel
theorem d_0_1 : decode (axt_b 0) 1 = .ok (.invokespecial 3, 3) := by decide +kernel
theorem d_0_4 : decode (axt_b 0) 4 = .ok (.aload_n 0, 1) := by decide +kernel
theorem d_0_5 : decode (axt_b 0) 5 = .ok (.new 9, 3) := by decide +kernel
theorem d_0_8 : decode (axt_b 0) 8 = .ok (.dup, 1) := by decide +kernel
theorem d_0_9 : decode (axt_b 0) 9 = .ok (.invokespecial 11, 3) := by decide +kernel
theorem d_0_12 : decode (axt_b 0) 12 = .ok (.putfield 12, 3) := by decide +kernel
theorem d_0_15 : decode (axt_b 0) 15 = .ok (.aload_n 0, 1) := by decide +kernel
theorem d_0_16 : decode (axt_b 0) 16 = .ok (.bipush 48, 2) := by decide +kernel
theorem d_0_18 : decode (axt_b 0) 18 = .ok (.newarray .int, 2) := by decide +kernel
theorem d_0_20 : decode (axt_b 0) 20 = .ok (.putfield 16, 3) := by decide +kernel
theorem d_0_23 : decode (axt_b 0) 23 = .ok (.aload_n 0, 1) := by decide +kernel
theorem d_0_24 : decode (axt_b 0) 24 = .ok (.sipush 961, 3) := by decide +kernel
theorem d_0_27 : decode (axt_b 0) 27 = .ok (.newarray .int, 2) := by decide +kernel
theorem d_0_29 : decode (axt_b 0) 29 = .ok (.putfield 20, 3) := by decide +kernel
theorem d_0_32 : decode (axt_b 0) 32 = .ok (.aload_n 0, 1) := by decide +kernel
theorem d_0_33 : decode (axt_b 0) 33 = .ok (.new 23, 3) := by decide +kernel
theorem d_0_36 : decode (axt_b 0) 36 = .ok (.dup, 1) := by decide +kernel
theorem d_0_37 : decode (axt_b 0) 37 = .ok (.iload_n 1, 1) := by decide +kernel
theorem d_0_38 : decode (axt_b 0) 38 = .ok (.iconst 3, 1) := by decide +kernel
theorem d_0_39 : decode (axt_b 0) 39 = .ok (.bipush 6, 2) := by decide +kernel
theorem d_0_41 : decode (axt_b 0) 41 = .ok (.invokestatic 25, 3) := by decide +kernel
theorem d_0_44 : decode (axt_b 0) 44 = .ok (.iload_n 2, 1) := by decide +kernel
theorem d_0_45 : decode (axt_b 0) 45 = .ok (.iconst 2, 1) := by decide +kernel
theorem d_0_46 : decode (axt_b 0) 46 = .ok (.iconst 3, 1) := by decide +kernel
theorem d_0_47 : decode (axt_b 0) 47 = .ok (.invokestatic 25, 3) := by decide +kernel
theorem d_0_50 : decode (axt_b 0) 50 = .ok (.iload_n 3, 1) := by decide +kernel
theorem d_0_51 : decode (axt_b 0) 51 = .ok (.iconst 1, 1) := by decide +kernel
theorem d_0_52 : decode (axt_b 0) 52 = .ok (.bipush 16, 2) := by decide +kernel
theorem d_0_54 : decode (axt_b 0) 54 = .ok (.invokestatic 25, 3) := by decide +kernel
theorem d_0_57 : decode (axt_b 0) 57 = .ok (.invokespecial 29, 3) := by decide +kernel
theorem d_0_60 : decode (axt_b 0) 60 = .ok (.putfield 32, 3) := by decide +kernel
theorem d_0_63 : decode (axt_b 0) 63 = .ok (.aload_n 0, 1) := by decide +kernel
theorem d_0_64 : decode (axt_b 0) 64 = .ok (.new 36, 3) := by decide +kernel
theorem d_0_67 : decode (axt_b 0) 67 = .ok (.dup, 1) := by decide +kernel
theorem d_0_68 : decode (axt_b 0) 68 = .ok (.aload_n 0, 1) := by decide +kernel
theorem d_0_69 : decode (axt_b 0) 69 = .ok (.getfield 32, 3) := by decide +kernel
theorem d_0_72 : decode (axt_b 0) 72 = .ok (.aload_n 0, 1) := by decide +kernel
theorem d_0_73 : decode (axt_b 0) 73 = .ok (.getfield 12, 3) := by decide +kernel
theorem d_0_76 : decode (axt_b 0) 76 = .ok (.invokespecial 38, 3) := by decide +kernel
theorem d_0_79 : decode (axt_b 0) 79 = .ok (.putfield 41, 3) := by decide +kernel
theorem d_0_82 : decode (axt_b 0) 82 = .ok (.aload_n 0, 1) := by decide +kernel
theorem d_0_83 : decode (axt_b 0) 83 = .ok (.new 45, 3) := by decide +kernel
theorem d_0_86 : decode (axt_b 0) 86 = .ok (.dup, 1) := by decide +kernel
theorem d_0_87 : decode (axt_b 0) 87 = .ok (.aload_n 0, 1) := by decide +kernel
theorem d_0_88 : decode (axt_b 0) 88 = .ok (.getfield 32, 3) := by decide +kernel
theorem d_0_91 : decode (axt_b 0) 91 = .ok (.getfield 47, 3) := by decide +kernel
theorem d_0_94 : decode (axt_b 0) 94 = .ok (.invokespecial 51, 3) := by decide +kernel
theorem d_0_97 : decode (axt_b 0) 97 = .ok (.putfield 54, 3) := by decide +kernel
theorem d_0_100 : decode (axt_b 0) 100 = .ok (.aload_n 0, 1) := by decide +kernel
theorem d_0_101 : decode (axt_b 0) 101 = .ok (.aload_n 0, 1) := by decide +kernel
theorem d_0_102 : decode (axt_b 0) 102 = .ok (.getfield 32, 3) := by decide +kernel
theorem d_0_105 : decode (axt_b 0) 105 = .ok (.getfield 58, 3) := by decide +kernel
theorem d_0_108 : decode (axt_b 0) 108 = .ok (.anewarray 61, 3) := by decide +kernel
theorem d_0_111 : decode (axt_b 0) 111 = .ok (.putfield 63, 3) := by decide +kernel
theorem d_0_114 : decode (axt_b 0) 114 = .ok (.iconst 0, 1) := by decide +kernel
theorem d_0_115 : decode (axt_b 0) 115 = .ok (.istore 4, 2) := by decide +kernel
theorem d_0_117 : decode (axt_b 0) 117 = .ok (.iload 4, 2) := by decide +kernel
theorem d_0_119 : decode (axt_b 0) 119 = .ok (.aload_n 0, 1) := by decide +kernel
theorem d_0_120 : decode (axt_b 0) 120 = .ok (.getfield 32, 3) := by decide +kernel
theorem d_0_123 : decode (axt_b 0) 123 = .ok (.getfield 58, 3) := by decide +kernel
theorem d_0_126 : decode (axt_b 0) 126 = .ok (.if_icmp .ge 57, 3) := by decide +kernel
theorem d_0_129 : decode (axt_b 0) 129 = .ok (.aload_n 0, 1) := by decide +kernel
theorem d_0_130 : decode (axt_b 0) 130 = .ok (.getfield 63, 3) := by decide +kernel
theorem d_0_133 : decode (axt_b 0) 133 = .ok (.iload 4, 2) := by decide +kernel
theorem d_0_135 : decode (axt_b 0) 135 = .ok (.new 61, 3) := by decide +kernel
theorem d_0_138 : decode (axt_b 0) 138 = .ok (.dup, 1) := by decide +kernel
theorem d_0_139 : decode (axt_b 0) 139 = .ok (.iload 4, 2) := by decide +kernel
theorem d_0_141 : decode (axt_b 0) 141 = .ok (.aload_n 0, 1) := by decide +kernel
theorem d_0_142 : decode (axt_b 0) 142 = .ok (.getfield 32, 3) := by decide +kernel
theorem d_0_145 : decode (axt_b 0) 145 = .ok (.aload_n 0, 1) := by decide +kernel
theorem d_0_146 : decode (axt_b 0) 146 = .ok (.getfield 12, 3) := by decide +kernel
theorem d_0_149 : decode (axt_b 0) 149 = .ok (.invokespecial 66, 3) := by decide +kernel
theorem d_0_152 : decode (axt_b 0) 152 = .ok (.aastore, 1) := by decide +kernel
theorem d_0_153 : decode (axt_b 0) 153 = .ok (.aload_n 0, 1) := by decide +kernel
theorem d_0_154 : decode (axt_b 0) 154 = .ok (.getfield 63, 3) := by decide +kernel
theorem d_0_157 : decode (axt_b 0) 157 = .ok (.iload 4, 2) := by decide +kernel
theorem d_0_159 : decode (axt_b 0) 159 = .ok (.aaload, 1) := by decide +kernel
theorem d_0_160 : decode (axt_b 0) 160 = .ok (.aload_n 0, 1) := by decide +kernel
theorem d_0_161 : decode (axt_b 0) 161 = .ok (.getfield 41, 3) := by decide +kernel
theorem d_0_164 : decode (axt_b 0) 164 = .ok (.getfield 69, 3) := by decide +kernel
theorem d_0_167 : decode (axt_b 0) 167 = .ok (.aload_n 0, 1) := by decide +kernel
theorem d_0_168 : decode (axt_b 0) 168 = .ok (.getfield 41, 3) := by decide +kernel
theorem d_0_171 : decode (axt_b 0) 171 = .ok (.getfield 72, 3) := by decide +kernel
theorem d_0_174 : decode (axt_b 0) 174 = .ok (.invokevirtual 75, 3) := by decide +kernel
theorem d_0_177 : decode (axt_b 0) 177 = .ok (.iinc 4 1, 3) := by decide +kernel
theorem d_0_180 : decode (axt_b 0) 180 = .ok (.goto (-63), 3) := by decide +kernel
theorem d_0_183 : decode (axt_b 0) 183 = .ok (.return_, 1) := by decide +kernel
theorem d_2_0 : decode (axt_b 2) 0 = .ok (.aload_n 0, 1) := by decide +kernel
theorem d_2_1 : decode (axt_b 2) 1 = .ok (.invokespecial 3, 3) := by decide +kernel
theorem d_2_4 : decode (axt_b 2) 4 = .ok (.aload_n 0, 1) := by decide +kernel
theorem d_2_5 : decode (axt_b 2) 5 = .ok (.sipush 128, 3) := by decide +kernel
theorem d_2_8 : decode (axt_b 2) 8 = .ok (.anewarray 9, 3) := by decide +kernel
theorem d_2_11 : decode (axt_b 2) 11 = .ok (.putfield 11, 3) := by decide +kernel
theorem d_2_14 : decode (axt_b 2) 14 = .ok (.aload_n 0, 1) := by decide +kernel
theorem d_2_15 : decode (axt_b 2) 15 = .ok (.new 9, 3) := by decide +kernel
theorem d_2_18 : decode (axt_b 2) 18 = .ok (.dup, 1) := by decide +kernel
theorem d_2_19 : decode (axt_b 2) 19 = .ok (.invokespecial 17, 3) := by decide +kernel
theorem d_2_22 : decode (axt_b 2) 22 = .ok (.putfield 18, 3) := by decide +kernel
theorem d_2_25 : decode (axt_b 2) 25 = .ok (.aload_n 0, 1) := by decide +kernel
theorem d_2_26 : decode (axt_b 2) 26 = .ok (.new 9, 3) := by decide +kernel
theorem d_2_29 : decode (axt_b 2) 29 = .ok (.dup, 1) := by decide +kernel
theorem d_2_30 : decode (axt_b 2) 30 = .ok (.invokespecial 17, 3) := by decide +kernel
theorem d_2_33 : decode (axt_b 2) 33 = .ok (.putfield 22, 3) := by decide +kernel
theorem d_2_36 : decode (axt_b 2) 36 = .ok (.iconst 0, 1) := by decide +kernel
theorem d_2_37 : decode (axt_b 2) 37 = .ok (.istore_n 1, 1) := by decide +kernel
theorem d_2_38 : decode (axt_b 2) 38 = .ok (.iload_n 1, 1) := by decide +kernel
theorem d_2_39 : decode (axt_b 2) 39 = .ok (.aload_n 0, 1) := by decide +kernel
theorem d_2_40 : decode (axt_b 2) 40 = .ok (.getfield 11, 3) := by decide +kernel
theorem d_2_43 : decode (axt_b 2) 43 = .ok (.arraylength, 1) := by decide +kernel
theorem d_2_44 : decode (axt_b 2) 44 = .ok (.if_icmp .ge 22, 3) := by decide +kernel
theorem d_2_47 : decode (axt_b 2) 47 = .ok (.aload_n 0, 1) := by decide +kernel
theorem d_2_48 : decode (axt_b 2) 48 = .ok (.getfield 11, 3) := by decide +kernel
theorem d_2_51 : decode (axt_b 2) 51 = .ok (.iload_n 1, 1) := by decide +kernel
theorem d_2_52 : decode (axt_b 2) 52 = .ok (.new 9, 3) := by decide +kernel
theorem d_2_55 : decode (axt_b 2) 55 = .ok (.dup, 1) := by decide +kernel
theorem d_2_56 : decode (axt_b 2) 56 = .ok (.invokespecial 17, 3) := by decide +kernel
theorem d_2_59 : decode (axt_b 2) 59 = .ok (.aastore, 1) := by decide +kernel
theorem d_2_60 : decode (axt_b 2) 60 = .ok (.iinc 1 1, 3) := by decide +kernel
theorem d_2_63 : decode (axt_b 2) 63 = .ok (.goto (-25), 3) := by decide +kernel
theorem d_2_66 : decode (axt_b 2) 66 = .ok (.return_, 1) := by decide +kernel
theorem d_3_0 : decode (axt_b 3) 0 = .ok (.aload_n 0, 1) := by decide +kernel
theorem d_3_1 : decode (axt_b 3) 1 = .ok (.invokespecial 3, 3) := by decide +kernel
theorem d_3_4 : decode (axt_b 3) 4 = .ok (.aload_n 0, 1) := by decide +kernel
theorem d_3_5 : decode (axt_b 3) 5 = .ok (.sipush 617, 3) := by decide +kernel
theorem d_3_8 : decode (axt_b 3) 8 = .ok (.newarray .int, 2) := by decide +kernel
theorem d_3_10 : decode (axt_b 3) 10 = .ok (.putfield 9, 3) := by decide +kernel
theorem d_3_13 : decode (axt_b 3) 13 = .ok (.return_, 1) := by decide +kernel
theorem d_4_0 : decode (axt_b 4) 0 = .ok (.iload_n 1, 1) := by decide +kernel
theorem d_4_1 : decode (axt_b 4) 1 = .ok (.iload_n 2, 1) := by decide +kernel
theorem d_4_2 : decode (axt_b 4) 2 = .ok (.iload_n 0, 1) := by decide +kernel
theorem d_4_3 : decode (axt_b 4) 3 = .ok (.invokestatic 221, 3) := by decide +kernel
theorem d_4_6 : decode (axt_b 4) 6 = .ok (.invokestatic 270, 3) := by decide +kernel
theorem d_4_9 : decode (axt_b 4) 9 = .ok (.ireturn, 1) := by decide +kernel
theorem d_7_0 : decode (axt_b 7) 0 = .ok (.aload_n 0, 1) := by decide +kernel
theorem d_7_1 : decode (axt_b 7) 1 = .ok (.invokespecial 3, 3) := by decide +kernel
theorem d_7_4 : decode (axt_b 7) 4 = .ok (.aload_n 0, 1) := by decide +kernel
theorem d_7_5 : decode (axt_b 7) 5 = .ok (.iload_n 1, 1) := by decide +kernel
theorem d_7_6 : decode (axt_b 7) 6 = .ok (.putfield 9, 3) := by decide +kernel
theorem d_7_9 : decode (axt_b 7) 9 = .ok (.aload_n 0, 1) := by decide +kernel
theorem d_7_10 : decode (axt_b 7) 10 = .ok (.iload_n 2, 1) := by decide +kernel
theorem d_7_11 : decode (axt_b 7) 11 = .ok (.putfield 15, 3) := by decide +kernel
theorem d_7_14 : decode (axt_b 7) 14 = .ok (.aload_n 0, 1) := by decide +kernel
theorem d_7_15 : decode (axt_b 7) 15 = .ok (.iload_n 3, 1) := by decide +kernel
theorem d_7_16 : decode (axt_b 7) 16 = .ok (.putfield 18, 3) := by decide +kernel
theorem d_7_19 : decode (axt_b 7) 19 = .ok (.aload_n 0, 1) := by decide +kernel
theorem d_7_20 : decode (axt_b 7) 20 = .ok (.iload_n 3, 1) := by decide +kernel
theorem d_7_21 : decode (axt_b 7) 21 = .ok (.iload_n 1, 1) := by decide +kernel
theorem d_7_22 : decode (axt_b 7) 22 = .ok (.imul, 1) := by decide +kernel
theorem d_7_23 : decode (axt_b 7) 23 = .ok (.newarray .int, 2) := by decide +kernel
theorem d_7_25 : decode (axt_b 7) 25 = .ok (.putfield 21, 3) := by decide +kernel
theorem d_7_28 : decode (axt_b 7) 28 = .ok (.iconst 0, 1) := by decide +kernel
theorem d_7_29 : decode (axt_b 7) 29 = .ok (.istore 4, 2) := by decide +kernel
theorem d_7_31 : decode (axt_b 7) 31 = .ok (.iload 4, 2) := by decide +kernel
theorem d_7_33 : decode (axt_b 7) 33 = .ok (.iload_n 3, 1) := by decide +kernel
theorem d_7_34 : decode (axt_b 7) 34 = .ok (.if_icmp .ge 108, 3) := by decide +kernel
theorem d_7_37 : decode (axt_b 7) 37 = .ok (.iconst 0, 1) := by decide +kernel
theorem d_7_38 : decode (axt_b 7) 38 = .ok (.istore 5, 2) := by decide +kernel
theorem d_7_40 : decode (axt_b 7) 40 = .ok (.iload 5, 2) := by decide +kernel
theorem d_7_42 : decode (axt_b 7) 42 = .ok (.iload_n 1, 1) := by decide +kernel
theorem d_7_43 : decode (axt_b 7) 43 = .ok (.if_icmp .ge 93, 3) := by decide +kernel
theorem d_7_46 : decode (axt_b 7) 46 = .ok (.iload 5, 2) := by decide +kernel
theorem d_7_48 : decode (axt_b 7) 48 = .ok (.istore 6, 2) := by decide +kernel
theorem d_7_50 : decode (axt_b 7) 50 = .ok (.iload 6, 2) := by decide +kernel
theorem d_7_52 : decode (axt_b 7) 52 = .ok (.ifCond .le 64, 3) := by decide +kernel
theorem d_7_55 : decode (axt_b 7) 55 = .ok (.iload 4, 2) := by decide +kernel
theorem d_7_57 : decode (axt_b 7) 57 = .ok (.iload 5, 2) := by decide +kernel
theorem d_7_59 : decode (axt_b 7) 59 = .ok (.invokestatic 25, 3) := by decide +kernel
theorem d_7_62 : decode (axt_b 7) 62 = .ok (.iload 4, 2) := by decide +kernel
theorem d_7_64 : decode (axt_b 7) 64 = .ok (.aload_n 0, 1) := by decide +kernel
theorem d_7_65 : decode (axt_b 7) 65 = .ok (.getfield 21, 3) := by decide +kernel
theorem d_7_68 : decode (axt_b 7) 68 = .ok (.iload 4, 2) := by decide +kernel
theorem d_7_70 : decode (axt_b 7) 70 = .ok (.iload_n 1, 1) := by decide +kernel
theorem d_7_71 : decode (axt_b 7) 71 = .ok (.imul, 1) := by decide +kernel
theorem d_7_72 : decode (axt_b 7) 72 = .ok (.iload 6, 2) := by decide +kernel
theorem d_7_74 : decode (axt_b 7) 74 = .ok (.iadd, 1) := by decide +kernel
theorem d_7_75 : decode (axt_b 7) 75 = .ok (.iconst 1, 1) := by decide +kernel
theorem d_7_76 : decode (axt_b 7) 76 = .ok (.isub, 1) := by decide +kernel
theorem d_7_77 : decode (axt_b 7) 77 = .ok (.iaload, 1) := by decide +kernel
theorem d_7_78 : decode (axt_b 7) 78 = .ok (.invokestatic 25, 3) := by decide +kernel
theorem d_7_81 : decode (axt_b 7) 81 = .ok (.if_icmp .le 35, 3) := by decide +kernel
theorem d_7_84 : decode (axt_b 7) 84 = .ok (.aload_n 0, 1) := by decide +kernel
theorem d_7_85 : decode (axt_b 7) 85 = .ok (.getfield 21, 3) := by decide +kernel
theorem d_7_88 : decode (axt_b 7) 88 = .ok (.iload 4, 2) := by decide +kernel
theorem d_7_90 : decode (axt_b 7) 90 = .ok (.iload_n 1, 1) := by decide +kernel
theorem d_7_91 : decode (axt_b 7) 91 = .ok (.imul, 1) := by decide +kernel
theorem d_7_92 : decode (axt_b 7) 92 = .ok (.iload 6, 2) := by decide +kernel
theorem d_7_94 : decode (axt_b 7) 94 = .ok (.iadd, 1) := by decide +kernel
theorem d_7_95 : decode (axt_b 7) 95 = .ok (.aload_n 0, 1) := by decide +kernel
theorem d_7_96 : decode (axt_b 7) 96 = .ok (.getfield 21, 3) := by decide +kernel
theorem d_7_99 : decode (axt_b 7) 99 = .ok (.iload 4, 2) := by decide +kernel
theorem d_7_101 : decode (axt_b 7) 101 = .ok (.iload_n 1, 1) := by decide +kernel
theorem d_7_102 : decode (axt_b 7) 102 = .ok (.imul, 1) := by decide +kernel
theorem d_7_103 : decode (axt_b 7) 103 = .ok (.iload 6, 2) := by decide +kernel
theorem d_7_105 : decode (axt_b 7) 105 = .ok (.iadd, 1) := by decide +kernel
theorem d_7_106 : decode (axt_b 7) 106 = .ok (.iconst 1, 1) := by decide +kernel
theorem d_7_107 : decode (axt_b 7) 107 = .ok (.isub, 1) := by decide +kernel
theorem d_7_108 : decode (axt_b 7) 108 = .ok (.iaload, 1) := by decide +kernel
theorem d_7_109 : decode (axt_b 7) 109 = .ok (.iastore, 1) := by decide +kernel
theorem d_7_110 : decode (axt_b 7) 110 = .ok (.iinc 6 (-1), 3) := by decide +kernel
theorem d_7_113 : decode (axt_b 7) 113 = .ok (.goto (-63), 3) := by decide +kernel
theorem d_7_116 : decode (axt_b 7) 116 = .ok (.aload_n 0, 1) := by decide +kernel
theorem d_7_117 : decode (axt_b 7) 117 = .ok (.getfield 21, 3) := by decide +kernel
theorem d_7_120 : decode (axt_b 7) 120 = .ok (.iload 4, 2) := by decide +kernel
theorem d_7_122 : decode (axt_b 7) 122 = .ok (.iload_n 1, 1) := by decide +kernel
theorem d_7_123 : decode (axt_b 7) 123 = .ok (.imul, 1) := by decide +kernel
theorem d_7_124 : decode (axt_b 7) 124 = .ok (.iload 6, 2) := by decide +kernel
theorem d_7_126 : decode (axt_b 7) 126 = .ok (.iadd, 1) := by decide +kernel
theorem d_7_127 : decode (axt_b 7) 127 = .ok (.iload 5, 2) := by decide +kernel
theorem d_7_129 : decode (axt_b 7) 129 = .ok (.iastore, 1) := by decide +kernel
theorem d_7_130 : decode (axt_b 7) 130 = .ok (.iinc 5 1, 3) := by decide +kernel
theorem d_7_133 : decode (axt_b 7) 133 = .ok (.goto (-93), 3) := by decide +kernel
theorem d_7_136 : decode (axt_b 7) 136 = .ok (.iinc 4 1, 3) := by decide +kernel
theorem d_7_139 : decode (axt_b 7) 139 = .ok (.goto (-108), 3) := by decide +kernel
theorem d_7_142 : decode (axt_b 7) 142 = .ok (.return_, 1) := by decide +kernel
theorem d_8_0 : decode (axt_b 8) 0 = .ok (.iload_n 0, 1) := by decide +kernel
theorem d_8_1 : decode (axt_b 8) 1 = .ok (.ldc 29, 2) := by decide +kernel
theorem d_8_3 : decode (axt_b 8) 3 = .ok (.imul, 1) := by decide +kernel
theorem d_8_4 : decode (axt_b 8) 4 = .ok (.iload_n 1, 1) := by decide +kernel
theorem d_8_5 : decode (axt_b 8) 5 = .ok (.sipush 30011, 3) := by decide +kernel
theorem d_8_8 : decode (axt_b 8) 8 = .ok (.imul, 1) := by decide +kernel
theorem d_8_9 : decode (axt_b 8) 9 = .ok (.iadd, 1) := by decide +kernel
theorem d_8_10 : decode (axt_b 8) 10 = .ok (.sipush 12345, 3) := by decide +kernel
theorem d_8_13 : decode (axt_b 8) 13 = .ok (.iadd, 1) := by decide +kernel
theorem d_8_14 : decode (axt_b 8) 14 = .ok (.istore_n 2, 1) := by decide +kernel
theorem d_8_15 : decode (axt_b 8) 15 = .ok (.iload_n 2, 1) := by decide +kernel
theorem d_8_16 : decode (axt_b 8) 16 = .ok (.iload_n 2, 1) := by decide +kernel
theorem d_8_17 : decode (axt_b 8) 17 = .ok (.bipush 7, 2) := by decide +kernel
theorem d_8_19 : decode (axt_b 8) 19 = .ok (.iushr, 1) := by decide +kernel
theorem d_8_20 : decode (axt_b 8) 20 = .ok (.ixor, 1) := by decide +kernel
theorem d_8_21 : decode (axt_b 8) 21 = .ok (.ldc 30, 2) := by decide +kernel
theorem d_8_23 : decode (axt_b 8) 23 = .ok (.imul, 1) := by decide +kernel
theorem d_8_24 : decode (axt_b 8) 24 = .ok (.istore_n 2, 1) := by decide +kernel
theorem d_8_25 : decode (axt_b 8) 25 = .ok (.iload_n 2, 1) := by decide +kernel
theorem d_8_26 : decode (axt_b 8) 26 = .ok (.iload_n 2, 1) := by decide +kernel
theorem d_8_27 : decode (axt_b 8) 27 = .ok (.bipush 13, 2) := by decide +kernel
theorem d_8_29 : decode (axt_b 8) 29 = .ok (.iushr, 1) := by decide +kernel
theorem d_8_30 : decode (axt_b 8) 30 = .ok (.ixor, 1) := by decide +kernel
theorem d_8_31 : decode (axt_b 8) 31 = .ok (.ldc 31, 2) := by decide +kernel
theorem d_8_33 : decode (axt_b 8) 33 = .ok (.imul, 1) := by decide +kernel
theorem d_8_34 : decode (axt_b 8) 34 = .ok (.istore_n 2, 1) := by decide +kernel
theorem d_8_35 : decode (axt_b 8) 35 = .ok (.iload_n 2, 1) := by decide +kernel
theorem d_8_36 : decode (axt_b 8) 36 = .ok (.iload_n 2, 1) := by decide +kernel
theorem d_8_37 : decode (axt_b 8) 37 = .ok (.bipush 16, 2) := by decide +kernel
theorem d_8_39 : decode (axt_b 8) 39 = .ok (.iushr, 1) := by decide +kernel
theorem d_8_40 : decode (axt_b 8) 40 = .ok (.ixor, 1) := by decide +kernel
theorem d_8_41 : decode (axt_b 8) 41 = .ok (.ldc 32, 2) := by decide +kernel
theorem d_8_43 : decode (axt_b 8) 43 = .ok (.iand, 1) := by decide +kernel
theorem d_8_44 : decode (axt_b 8) 44 = .ok (.ireturn, 1) := by decide +kernel
theorem d_9_0 : decode (axt_b 9) 0 = .ok (.aload_n 0, 1) := by decide +kernel
theorem d_9_1 : decode (axt_b 9) 1 = .ok (.invokespecial 3, 3) := by decide +kernel
theorem d_9_4 : decode (axt_b 9) 4 = .ok (.aload_n 0, 1) := by decide +kernel
theorem d_9_5 : decode (axt_b 9) 5 = .ok (.sipush 512, 3) := by decide +kernel
theorem d_9_8 : decode (axt_b 9) 8 = .ok (.newarray .int, 2) := by decide +kernel
theorem d_9_10 : decode (axt_b 9) 10 = .ok (.putfield 9, 3) := by decide +kernel
theorem d_9_13 : decode (axt_b 9) 13 = .ok (.aload_n 0, 1) := by decide +kernel
theorem d_9_14 : decode (axt_b 9) 14 = .ok (.bipush 100, 2) := by decide +kernel
theorem d_9_16 : decode (axt_b 9) 16 = .ok (.newarray .int, 2) := by decide +kernel
theorem d_9_18 : decode (axt_b 9) 18 = .ok (.putfield 15, 3) := by decide +kernel
theorem d_9_21 : decode (axt_b 9) 21 = .ok (.aload_n 0, 1) := by decide +kernel
theorem d_9_22 : decode (axt_b 9) 22 = .ok (.iconst 2, 1) := by decide +kernel
theorem d_9_23 : decode (axt_b 9) 23 = .ok (.newarray .int, 2) := by decide +kernel
theorem d_9_25 : decode (axt_b 9) 25 = .ok (.putfield 18, 3) := by decide +kernel
theorem d_9_28 : decode (axt_b 9) 28 = .ok (.aload_n 0, 1) := by decide +kernel
theorem d_9_29 : decode (axt_b 9) 29 = .ok (.bipush 24, 2) := by decide +kernel
theorem d_9_31 : decode (axt_b 9) 31 = .ok (.anewarray 21, 3) := by decide +kernel
theorem d_9_34 : decode (axt_b 9) 34 = .ok (.putfield 23, 3) := by decide +kernel
theorem d_9_37 : decode (axt_b 9) 37 = .ok (.aload_n 0, 1) := by decide +kernel
theorem d_9_38 : decode (axt_b 9) 38 = .ok (.sipush 512, 3) := by decide +kernel
theorem d_9_41 : decode (axt_b 9) 41 = .ok (.newarray .int, 2) := by decide +kernel
theorem d_9_43 : decode (axt_b 9) 43 = .ok (.putfield 27, 3) := by decide +kernel
theorem d_9_46 : decode (axt_b 9) 46 = .ok (.aload_n 0, 1) := by decide +kernel
theorem d_9_47 : decode (axt_b 9) 47 = .ok (.iconst (-1), 1) := by decide +kernel
theorem d_9_48 : decode (axt_b 9) 48 = .ok (.putfield 30, 3) := by decide +kernel
theorem d_9_51 : decode (axt_b 9) 51 = .ok (.aload_n 0, 1) := by decide +kernel
theorem d_9_52 : decode (axt_b 9) 52 = .ok (.iconst 1, 1) := by decide +kernel
theorem d_9_53 : decode (axt_b 9) 53 = .ok (.putfield 34, 3) := by decide +kernel
theorem d_9_56 : decode (axt_b 9) 56 = .ok (.aload_n 0, 1) := by decide +kernel
theorem d_9_57 : decode (axt_b 9) 57 = .ok (.aload_n 1, 1) := by decide +kernel
theorem d_9_58 : decode (axt_b 9) 58 = .ok (.putfield 37, 3) := by decide +kernel
theorem d_9_61 : decode (axt_b 9) 61 = .ok (.aload_n 0, 1) := by decide +kernel
theorem d_9_62 : decode (axt_b 9) 62 = .ok (.aload_n 2, 1) := by decide +kernel
theorem d_9_63 : decode (axt_b 9) 63 = .ok (.putfield 41, 3) := by decide +kernel
theorem d_9_66 : decode (axt_b 9) 66 = .ok (.aload_n 0, 1) := by decide +kernel
theorem d_9_67 : decode (axt_b 9) 67 = .ok (.iconst 1, 1) := by decide +kernel
theorem d_9_68 : decode (axt_b 9) 68 = .ok (.aload_n 1, 1) := by decide +kernel
theorem d_9_69 : decode (axt_b 9) 69 = .ok (.getfield 45, 3) := by decide +kernel
theorem d_9_72 : decode (axt_b 9) 72 = .ok (.ishl, 1) := by decide +kernel
theorem d_9_73 : decode (axt_b 9) 73 = .ok (.iconst 1, 1) := by decide +kernel
theorem d_9_74 : decode (axt_b 9) 74 = .ok (.isub, 1) := by decide +kernel
theorem d_9_75 : decode (axt_b 9) 75 = .ok (.putfield 50, 3) := by decide +kernel
theorem d_9_78 : decode (axt_b 9) 78 = .ok (.aload_n 0, 1) := by decide +kernel
theorem d_9_79 : decode (axt_b 9) 79 = .ok (.aload_n 0, 1) := by decide +kernel
theorem d_9_80 : decode (axt_b 9) 80 = .ok (.getfield 50, 3) := by decide +kernel
theorem d_9_83 : decode (axt_b 9) 83 = .ok (.putfield 53, 3) := by decide +kernel
theorem d_9_86 : decode (axt_b 9) 86 = .ok (.iconst 0, 1) := by decide +kernel
theorem d_9_87 : decode (axt_b 9) 87 = .ok (.istore_n 3, 1) := by decide +kernel
theorem d_9_88 : decode (axt_b 9) 88 = .ok (.iload_n 3, 1) := by decide +kernel
theorem d_9_89 : decode (axt_b 9) 89 = .ok (.aload_n 0, 1) := by decide +kernel
theorem d_9_90 : decode (axt_b 9) 90 = .ok (.getfield 23, 3) := by decide +kernel
theorem d_9_93 : decode (axt_b 9) 93 = .ok (.arraylength, 1) := by decide +kernel
theorem d_9_94 : decode (axt_b 9) 94 = .ok (.if_icmp .ge 22, 3) := by decide +kernel
theorem d_9_97 : decode (axt_b 9) 97 = .ok (.aload_n 0, 1) := by decide +kernel
theorem d_9_98 : decode (axt_b 9) 98 = .ok (.getfield 23, 3) := by decide +kernel
theorem d_9_101 : decode (axt_b 9) 101 = .ok (.iload_n 3, 1) := by decide +kernel
theorem d_9_102 : decode (axt_b 9) 102 = .ok (.new 21, 3) := by decide +kernel
theorem d_9_105 : decode (axt_b 9) 105 = .ok (.dup, 1) := by decide +kernel
theorem d_9_106 : decode (axt_b 9) 106 = .ok (.invokespecial 56, 3) := by decide +kernel
theorem d_9_109 : decode (axt_b 9) 109 = .ok (.aastore, 1) := by decide +kernel
theorem d_9_110 : decode (axt_b 9) 110 = .ok (.iinc 3 1, 3) := by decide +kernel
theorem d_9_113 : decode (axt_b 9) 113 = .ok (.goto (-25), 3) := by decide +kernel
theorem d_9_116 : decode (axt_b 9) 116 = .ok (.return_, 1) := by decide +kernel
theorem d_10_0 : decode (axt_b 10) 0 = .ok (.aload_n 0, 1) := by decide +kernel
theorem d_10_1 : decode (axt_b 10) 1 = .ok (.invokespecial 3, 3) := by decide +kernel
theorem d_10_4 : decode (axt_b 10) 4 = .ok (.aload_n 0, 1) := by decide +kernel
theorem d_10_5 : decode (axt_b 10) 5 = .ok (.sipush 612, 3) := by decide +kernel
theorem d_10_8 : decode (axt_b 10) 8 = .ok (.newarray .int, 2) := by decide +kernel
theorem d_10_10 : decode (axt_b 10) 10 = .ok (.putfield 9, 3) := by decide +kernel
theorem d_10_13 : decode (axt_b 10) 13 = .ok (.return_, 1) := by decide +kernel
theorem d_11_0 : decode (axt_b 11) 0 = .ok (.aload_n 0, 1) := by decide +kernel
theorem d_11_1 : decode (axt_b 11) 1 = .ok (.invokespecial 3, 3) := by decide +kernel
theorem d_11_4 : decode (axt_b 11) 4 = .ok (.aload_n 0, 1) := by decide +kernel
theorem d_11_5 : decode (axt_b 11) 5 = .ok (.bipush 48, 2) := by decide +kernel
theorem d_11_7 : decode (axt_b 11) 7 = .ok (.newarray .int, 2) := by decide +kernel
theorem d_11_9 : decode (axt_b 11) 9 = .ok (.putfield 9, 3) := by decide +kernel
theorem d_11_12 : decode (axt_b 11) 12 = .ok (.aload_n 0, 1) := by decide +kernel
theorem d_11_13 : decode (axt_b 11) 13 = .ok (.bipush 48, 2) := by decide +kernel
theorem d_11_15 : decode (axt_b 11) 15 = .ok (.newarray .int, 2) := by decide +kernel
theorem d_11_17 : decode (axt_b 11) 17 = .ok (.putfield 15, 3) := by decide +kernel
theorem d_11_20 : decode (axt_b 11) 20 = .ok (.aload_n 0, 1) := by decide +kernel
theorem d_11_21 : decode (axt_b 11) 21 = .ok (.bipush 48, 2) := by decide +kernel
theorem d_11_23 : decode (axt_b 11) 23 = .ok (.newarray .int, 2) := by decide +kernel
theorem d_11_25 : decode (axt_b 11) 25 = .ok (.putfield 18, 3) := by decide +kernel
theorem d_11_28 : decode (axt_b 11) 28 = .ok (.aload_n 0, 1) := by decide +kernel
theorem d_11_29 : decode (axt_b 11) 29 = .ok (.sipush 2400, 3) := by decide +kernel
theorem d_11_32 : decode (axt_b 11) 32 = .ok (.newarray .int, 2) := by decide +kernel
theorem d_11_34 : decode (axt_b 11) 34 = .ok (.putfield 21, 3) := by decide +kernel
theorem d_11_37 : decode (axt_b 11) 37 = .ok (.aload_n 0, 1) := by decide +kernel
theorem d_11_38 : decode (axt_b 11) 38 = .ok (.sipush 512, 3) := by decide +kernel
theorem d_11_41 : decode (axt_b 11) 41 = .ok (.newarray .int, 2) := by decide +kernel
theorem d_11_43 : decode (axt_b 11) 43 = .ok (.putfield 24, 3) := by decide +kernel
theorem d_11_46 : decode (axt_b 11) 46 = .ok (.aload_n 0, 1) := by decide +kernel
theorem d_11_47 : decode (axt_b 11) 47 = .ok (.sipush 961, 3) := by decide +kernel
theorem d_11_50 : decode (axt_b 11) 50 = .ok (.newarray .int, 2) := by decide +kernel
theorem d_11_52 : decode (axt_b 11) 52 = .ok (.putfield 27, 3) := by decide +kernel
theorem d_11_55 : decode (axt_b 11) 55 = .ok (.aload_n 0, 1) := by decide +kernel
theorem d_11_56 : decode (axt_b 11) 56 = .ok (.sipush 961, 3) := by decide +kernel
theorem d_11_59 : decode (axt_b 11) 59 = .ok (.newarray .int, 2) := by decide +kernel
theorem d_11_61 : decode (axt_b 11) 61 = .ok (.putfield 30, 3) := by decide +kernel
theorem d_11_64 : decode (axt_b 11) 64 = .ok (.aload_n 0, 1) := by decide +kernel
theorem d_11_65 : decode (axt_b 11) 65 = .ok (.iload_n 1, 1) := by decide +kernel
theorem d_11_66 : decode (axt_b 11) 66 = .ok (.putfield 33, 3) := by decide +kernel
theorem d_11_69 : decode (axt_b 11) 69 = .ok (.aload_n 0, 1) := by decide +kernel
theorem d_11_70 : decode (axt_b 11) 70 = .ok (.invokevirtual 37, 3) := by decide +kernel
theorem d_11_73 : decode (axt_b 11) 73 = .ok (.return_, 1) := by decide +kernel
theorem d_12_0 : decode (axt_b 12) 0 = .ok (.aload_n 0, 1) := by decide +kernel
theorem d_12_1 : decode (axt_b 12) 1 = .ok (.getfield 9, 3) := by decide +kernel
theorem d_12_4 : decode (axt_b 12) 4 = .ok (.iconst (-1), 1) := by decide +kernel
theorem d_12_5 : decode (axt_b 12) 5 = .ok (.invokestatic 40, 3) := by decide +kernel
theorem d_12_8 : decode (axt_b 12) 8 = .ok (.aload_n 0, 1) := by decide +kernel
theorem d_12_9 : decode (axt_b 12) 9 = .ok (.getfield 15, 3) := by decide +kernel
theorem d_12_12 : decode (axt_b 12) 12 = .ok (.iconst 0, 1) := by decide +kernel
theorem d_12_13 : decode (axt_b 12) 13 = .ok (.invokestatic 40, 3) := by decide +kernel
theorem d_12_16 : decode (axt_b 12) 16 = .ok (.aload_n 0, 1) := by decide +kernel
theorem d_12_17 : decode (axt_b 12) 17 = .ok (.getfield 24, 3) := by decide +kernel
theorem d_12_20 : decode (axt_b 12) 20 = .ok (.iconst (-1), 1) := by decide +kernel
theorem d_12_21 : decode (axt_b 12) 21 = .ok (.invokestatic 40, 3) := by decide +kernel
theorem d_12_24 : decode (axt_b 12) 24 = .ok (.aload_n 0, 1) := by decide +kernel
theorem d_12_25 : decode (axt_b 12) 25 = .ok (.getfield 27, 3) := by decide +kernel
theorem d_12_28 : decode (axt_b 12) 28 = .ok (.iconst (-1), 1) := by decide +kernel
theorem d_12_29 : decode (axt_b 12) 29 = .ok (.invokestatic 40, 3) := by decide +kernel
theorem d_12_32 : decode (axt_b 12) 32 = .ok (.aload_n 0, 1) := by decide +kernel
theorem d_12_33 : decode (axt_b 12) 33 = .ok (.getfield 30, 3) := by decide +kernel
theorem d_12_36 : decode (axt_b 12) 36 = .ok (.iconst 0, 1) := by decide +kernel
theorem d_12_37 : decode (axt_b 12) 37 = .ok (.invokestatic 40, 3) := by decide +kernel
theorem d_12_40 : decode (axt_b 12) 40 = .ok (.aload_n 0, 1) := by decide +kernel
theorem d_12_41 : decode (axt_b 12) 41 = .ok (.lconst 0, 1) := by decide +kernel
theorem d_12_42 : decode (axt_b 12) 42 = .ok (.putfield 46, 3) := by decide +kernel
theorem d_12_45 : decode (axt_b 12) 45 = .ok (.aload_n 0, 1) := by decide +kernel
theorem d_12_46 : decode (axt_b 12) 46 = .ok (.iconst 0, 1) := by decide +kernel
theorem d_12_47 : decode (axt_b 12) 47 = .ok (.putfield 50, 3) := by decide +kernel
theorem d_12_50 : decode (axt_b 12) 50 = .ok (.aload_n 0, 1) := by decide +kernel
theorem d_12_51 : decode (axt_b 12) 51 = .ok (.iconst 0, 1) := by decide +kernel
theorem d_12_52 : decode (axt_b 12) 52 = .ok (.putfield 53, 3) := by decide +kernel
theorem d_12_55 : decode (axt_b 12) 55 = .ok (.return_, 1) := by decide +kernel
theorem d_13_0 : decode (axt_b 13) 0 = .ok (.iconst 0, 1) := by decide +kernel
theorem d_13_1 : decode (axt_b 13) 1 = .ok (.istore_n 2, 1) := by decide +kernel
theorem d_13_2 : decode (axt_b 13) 2 = .ok (.aload_n 0, 1) := by decide +kernel
theorem d_13_3 : decode (axt_b 13) 3 = .ok (.arraylength, 1) := by decide +kernel
theorem d_13_4 : decode (axt_b 13) 4 = .ok (.istore_n 3, 1) := by decide +kernel
theorem d_13_5 : decode (axt_b 13) 5 = .ok (.iload_n 2, 1) := by decide +kernel
theorem d_13_6 : decode (axt_b 13) 6 = .ok (.iload_n 3, 1) := by decide +kernel
theorem d_13_7 : decode (axt_b 13) 7 = .ok (.if_icmp .ge 13, 3) := by decide +kernel
theorem d_13_10 : decode (axt_b 13) 10 = .ok (.aload_n 0, 1) := by decide +kernel
theorem d_13_11 : decode (axt_b 13) 11 = .ok (.iload_n 2, 1) := by decide +kernel
theorem d_13_12 : decode (axt_b 13) 12 = .ok (.iload_n 1, 1) := by decide +kernel
theorem d_13_13 : decode (axt_b 13) 13 = .ok (.iastore, 1) := by decide +kernel
theorem d_13_14 : decode (axt_b 13) 14 = .ok (.iinc 2 1, 3) := by decide +kernel
theorem d_13_17 : decode (axt_b 13) 17 = .ok (.goto (-12), 3) := by decide +kernel
theorem d_13_20 : decode (axt_b 13) 20 = .ok (.return_, 1) := by decide +kernel
theorem d_14_0 : decode (axt_b 14) 0 = .ok (.aload_n 0, 1) := by decide +kernel
theorem d_14_1 : decode (axt_b 14) 1 = .ok (.invokespecial 3, 3) := by decide +kernel
theorem d_14_4 : decode (axt_b 14) 4 = .ok (.aload_n 0, 1) := by decide +kernel
theorem d_14_5 : decode (axt_b 14) 5 = .ok (.new 9, 3) := by decide +kernel
theorem d_14_8 : decode (axt_b 14) 8 = .ok (.dup, 1) := by decide +kernel
theorem d_14_9 : decode (axt_b 14) 9 = .ok (.invokespecial 11, 3) := by decide +kernel
theorem d_14_12 : decode (axt_b 14) 12 = .ok (.putfield 12, 3) := by decide +kernel
theorem d_14_15 : decode (axt_b 14) 15 = .ok (.aload_n 0, 1) := by decide +kernel
theorem d_14_16 : decode (axt_b 14) 16 = .ok (.sipush 280, 3) := by decide +kernel
theorem d_14_19 : decode (axt_b 14) 19 = .ok (.newarray .int, 2) := by decide +kernel
theorem d_14_21 : decode (axt_b 14) 21 = .ok (.putfield 18, 3) := by decide +kernel
theorem d_14_24 : decode (axt_b 14) 24 = .ok (.aload_n 0, 1) := by decide +kernel
theorem d_14_25 : decode (axt_b 14) 25 = .ok (.iload_n 1, 1) := by decide +kernel
theorem d_14_26 : decode (axt_b 14) 26 = .ok (.putfield 22, 3) := by decide +kernel
theorem d_14_29 : decode (axt_b 14) 29 = .ok (.aload_n 0, 1) := by decide +kernel
theorem d_14_30 : decode (axt_b 14) 30 = .ok (.aload_n 2, 1) := by decide +kernel
theorem d_14_31 : decode (axt_b 14) 31 = .ok (.putfield 26, 3) := by decide +kernel
theorem d_14_34 : decode (axt_b 14) 34 = .ok (.aload_n 0, 1) := by decide +kernel
theorem d_14_35 : decode (axt_b 14) 35 = .ok (.aload_n 3, 1) := by decide +kernel
theorem d_14_36 : decode (axt_b 14) 36 = .ok (.putfield 30, 3) := by decide +kernel
theorem d_14_39 : decode (axt_b 14) 39 = .ok (.aload_n 0, 1) := by decide +kernel
theorem d_14_40 : decode (axt_b 14) 40 = .ok (.new 34, 3) := by decide +kernel
theorem d_14_43 : decode (axt_b 14) 43 = .ok (.dup, 1) := by decide +kernel
theorem d_14_44 : decode (axt_b 14) 44 = .ok (.iload_n 1, 1) := by decide +kernel
theorem d_14_45 : decode (axt_b 14) 45 = .ok (.aload_n 2, 1) := by decide +kernel
theorem d_14_46 : decode (axt_b 14) 46 = .ok (.aload_n 3, 1) := by decide +kernel
theorem d_14_47 : decode (axt_b 14) 47 = .ok (.invokespecial 36, 3) := by decide +kernel
theorem d_14_50 : decode (axt_b 14) 50 = .ok (.putfield 39, 3) := by decide +kernel
theorem d_14_53 : decode (axt_b 14) 53 = .ok (.aload_n 0, 1) := by decide +kernel
theorem d_14_54 : decode (axt_b 14) 54 = .ok (.getfield 18, 3) := by decide +kernel
theorem d_14_57 : decode (axt_b 14) 57 = .ok (.iconst (-1), 1) := by decide +kernel
theorem d_14_58 : decode (axt_b 14) 58 = .ok (.invokestatic 43, 3) := by decide +kernel
theorem d_14_61 : decode (axt_b 14) 61 = .ok (.return_, 1) := by decide +kernel
theorem d_15_0 : decode (axt_b 15) 0 = .ok (.aload_n 0, 1) := by decide +kernel
theorem d_15_1 : decode (axt_b 15) 1 = .ok (.invokespecial 3, 3) := by decide +kernel
theorem d_15_4 : decode (axt_b 15) 4 = .ok (.aload_n 0, 1) := by decide +kernel
theorem d_15_5 : decode (axt_b 15) 5 = .ok (.ldc 9, 2) := by decide +kernel
theorem d_15_7 : decode (axt_b 15) 7 = .ok (.newarray .int, 2) := by decide +kernel
theorem d_15_9 : decode (axt_b 15) 9 = .ok (.putfield 10, 3) := by decide +kernel
theorem d_15_12 : decode (axt_b 15) 12 = .ok (.aload_n 0, 1) := by decide +kernel
theorem d_15_13 : decode (axt_b 15) 13 = .ok (.sipush 4096, 3) := by decide +kernel
theorem d_15_16 : decode (axt_b 15) 16 = .ok (.newarray .int, 2) := by decide +kernel
theorem d_15_18 : decode (axt_b 15) 18 = .ok (.putfield 16, 3) := by decide +kernel
theorem d_15_21 : decode (axt_b 15) 21 = .ok (.aload_n 0, 1) := by decide +kernel
theorem d_15_22 : decode (axt_b 15) 22 = .ok (.bipush 32, 2) := by decide +kernel
theorem d_15_24 : decode (axt_b 15) 24 = .ok (.newarray .int, 2) := by decide +kernel
theorem d_15_26 : decode (axt_b 15) 26 = .ok (.putfield 19, 3) := by decide +kernel
theorem d_15_29 : decode (axt_b 15) 29 = .ok (.aload_n 0, 1) := by decide +kernel
theorem d_15_30 : decode (axt_b 15) 30 = .ok (.sipush 280, 3) := by decide +kernel
theorem d_15_33 : decode (axt_b 15) 33 = .ok (.newarray .int, 2) := by decide +kernel
theorem d_15_35 : decode (axt_b 15) 35 = .ok (.putfield 22, 3) := by decide +kernel
theorem d_15_38 : decode (axt_b 15) 38 = .ok (.aload_n 0, 1) := by decide +kernel
theorem d_15_39 : decode (axt_b 15) 39 = .ok (.getfield 22, 3) := by decide +kernel
theorem d_15_42 : decode (axt_b 15) 42 = .ok (.iconst (-1), 1) := by decide +kernel
theorem d_15_43 : decode (axt_b 15) 43 = .ok (.invokestatic 25, 3) := by decide +kernel
theorem d_15_46 : decode (axt_b 15) 46 = .ok (.return_, 1) := by decide +kernel
theorem d_16_0 : decode (axt_b 16) 0 = .ok (.aload_n 0, 1) := by decide +kernel
theorem d_16_1 : decode (axt_b 16) 1 = .ok (.invokespecial 3, 3) := by decide +kernel
theorem d_16_4 : decode (axt_b 16) 4 = .ok (.aload_n 0, 1) := by decide +kernel
theorem d_16_5 : decode (axt_b 16) 5 = .ok (.bipush 16, 2) := by decide +kernel
theorem d_16_7 : decode (axt_b 16) 7 = .ok (.newarray .int, 2) := by decide +kernel
theorem d_16_9 : decode (axt_b 16) 9 = .ok (.putfield 9, 3) := by decide +kernel
theorem d_16_12 : decode (axt_b 16) 12 = .ok (.aload_n 0, 1) := by decide +kernel
theorem d_16_13 : decode (axt_b 16) 13 = .ok (.sipush 280, 3) := by decide +kernel
theorem d_16_16 : decode (axt_b 16) 16 = .ok (.newarray .int, 2) := by decide +kernel
theorem d_16_18 : decode (axt_b 16) 18 = .ok (.putfield 15, 3) := by decide +kernel
theorem d_16_21 : decode (axt_b 16) 21 = .ok (.aload_n 0, 1) := by decide +kernel
theorem d_16_22 : decode (axt_b 16) 22 = .ok (.iload_n 1, 1) := by decide +kernel
theorem d_16_23 : decode (axt_b 16) 23 = .ok (.putfield 18, 3) := by decide +kernel
theorem d_16_26 : decode (axt_b 16) 26 = .ok (.aload_n 0, 1) := by decide +kernel
theorem d_16_27 : decode (axt_b 16) 27 = .ok (.aload_n 2, 1) := by decide +kernel
theorem d_16_28 : decode (axt_b 16) 28 = .ok (.putfield 22, 3) := by decide +kernel
theorem d_16_31 : decode (axt_b 16) 31 = .ok (.aload_n 0, 1) := by decide +kernel
theorem d_16_32 : decode (axt_b 16) 32 = .ok (.aload_n 3, 1) := by decide +kernel
theorem d_16_33 : decode (axt_b 16) 33 = .ok (.putfield 26, 3) := by decide +kernel
theorem d_16_36 : decode (axt_b 16) 36 = .ok (.aload_n 0, 1) := by decide +kernel
theorem d_16_37 : decode (axt_b 16) 37 = .ok (.new 30, 3) := by decide +kernel
theorem d_16_40 : decode (axt_b 16) 40 = .ok (.dup, 1) := by decide +kernel
theorem d_16_41 : decode (axt_b 16) 41 = .ok (.aload_n 2, 1) := by decide +kernel
theorem d_16_42 : decode (axt_b 16) 42 = .ok (.getfield 32, 3) := by decide +kernel
theorem d_16_45 : decode (axt_b 16) 45 = .ok (.invokespecial 37, 3) := by decide +kernel
theorem d_16_48 : decode (axt_b 16) 48 = .ok (.putfield 40, 3) := by decide +kernel
theorem d_16_51 : decode (axt_b 16) 51 = .ok (.aload_n 0, 1) := by decide +kernel
theorem d_16_52 : decode (axt_b 16) 52 = .ok (.new 44, 3) := by decide +kernel
theorem d_16_55 : decode (axt_b 16) 55 = .ok (.dup, 1) := by decide +kernel
theorem d_16_56 : decode (axt_b 16) 56 = .ok (.aload_n 0, 1) := by decide +kernel
theorem d_16_57 : decode (axt_b 16) 57 = .ok (.getfield 40, 3) := by decide +kernel
theorem d_16_60 : decode (axt_b 16) 60 = .ok (.invokespecial 46, 3) := by decide +kernel
theorem d_16_63 : decode (axt_b 16) 63 = .ok (.putfield 49, 3) := by decide +kernel
theorem d_16_66 : decode (axt_b 16) 66 = .ok (.return_, 1) := by decide +kernel
theorem d_17_0 : decode (axt_b 17) 0 = .ok (.aload_n 0, 1) := by decide +kernel
theorem d_17_1 : decode (axt_b 17) 1 = .ok (.invokespecial 3, 3) := by decide +kernel
theorem d_17_4 : decode (axt_b 17) 4 = .ok (.aload_n 0, 1) := by decide +kernel
theorem d_17_5 : decode (axt_b 17) 5 = .ok (.new 9, 3) := by decide +kernel
theorem d_17_8 : decode (axt_b 17) 8 = .ok (.dup, 1) := by decide +kernel
theorem d_17_9 : decode (axt_b 17) 9 = .ok (.invokespecial 11, 3) := by decide +kernel
theorem d_17_12 : decode (axt_b 17) 12 = .ok (.putfield 12, 3) := by decide +kernel
theorem d_17_15 : decode (axt_b 17) 15 = .ok (.aload_n 0, 1) := by decide +kernel
theorem d_17_16 : decode (axt_b 17) 16 = .ok (.sipush 1152, 3) := by decide +kernel
theorem d_17_19 : decode (axt_b 17) 19 = .ok (.newarray .int, 2) := by decide +kernel
theorem d_17_21 : decode (axt_b 17) 21 = .ok (.putfield 18, 3) := by decide +kernel
theorem d_17_24 : decode (axt_b 17) 24 = .ok (.aload_n 0, 1) := by decide +kernel
theorem d_17_25 : decode (axt_b 17) 25 = .ok (.iconst (-1), 1) := by decide +kernel
theorem d_17_26 : decode (axt_b 17) 26 = .ok (.putfield 22, 3) := by decide +kernel
theorem d_17_29 : decode (axt_b 17) 29 = .ok (.aload_n 0, 1) := by decide +kernel
theorem d_17_30 : decode (axt_b 17) 30 = .ok (.aload_n 1, 1) := by decide +kernel
theorem d_17_31 : decode (axt_b 17) 31 = .ok (.putfield 26, 3) := by decide +kernel
theorem d_17_34 : decode (axt_b 17) 34 = .ok (.return_, 1) := by decide +kernel
theorem d_18_0 : decode (axt_b 18) 0 = .ok (.aload_n 0, 1) := by decide +kernel
theorem d_18_1 : decode (axt_b 18) 1 = .ok (.iconst 1, 1) := by decide +kernel
theorem d_18_2 : decode (axt_b 18) 2 = .ok (.putfield 49, 3) := by decide +kernel
theorem d_18_5 : decode (axt_b 18) 5 = .ok (.aload_n 0, 1) := by decide +kernel
theorem d_18_6 : decode (axt_b 18) 6 = .ok (.invokevirtual 53, 3) := by decide +kernel
theorem d_18_9 : decode (axt_b 18) 9 = .ok (.aload_n 0, 1) := by decide +kernel
theorem d_18_10 : decode (axt_b 18) 10 = .ok (.iload_n 1, 1) := by decide +kernel
theorem d_18_11 : decode (axt_b 18) 11 = .ok (.iload_n 2, 1) := by decide +kernel
theorem d_18_12 : decode (axt_b 18) 12 = .ok (.invokevirtual 56, 3) := by decide +kernel
theorem d_18_15 : decode (axt_b 18) 15 = .ok (.return_, 1) := by decide +kernel
theorem d_19_0 : decode (axt_b 19) 0 = .ok (.iconst 0, 1) := by decide +kernel
theorem d_19_1 : decode (axt_b 19) 1 = .ok (.istore_n 1, 1) := by decide +kernel
theorem d_19_2 : decode (axt_b 19) 2 = .ok (.iload_n 1, 1) := by decide +kernel
theorem d_19_3 : decode (axt_b 19) 3 = .ok (.sipush 280, 3) := by decide +kernel
theorem d_19_6 : decode (axt_b 19) 6 = .ok (.if_icmp .ge 79, 3) := by decide +kernel
theorem d_19_9 : decode (axt_b 19) 9 = .ok (.aload_n 0, 1) := by decide +kernel
theorem d_19_10 : decode (axt_b 19) 10 = .ok (.getfield 12, 3) := by decide +kernel
theorem d_19_13 : decode (axt_b 19) 13 = .ok (.iload_n 1, 1) := by decide +kernel
theorem d_19_14 : decode (axt_b 19) 14 = .ok (.invokevirtual 66, 3) := by decide +kernel
theorem d_19_17 : decode (axt_b 19) 17 = .ok (.ifCond .eq 14, 3) := by decide +kernel
theorem d_19_20 : decode (axt_b 19) 20 = .ok (.aload_n 0, 1) := by decide +kernel
theorem d_19_21 : decode (axt_b 19) 21 = .ok (.getfield 12, 3) := by decide +kernel
theorem d_19_24 : decode (axt_b 19) 24 = .ok (.iload_n 1, 1) := by decide +kernel
theorem d_19_25 : decode (axt_b 19) 25 = .ok (.invokevirtual 70, 3) := by decide +kernel
theorem d_19_28 : decode (axt_b 19) 28 = .ok (.goto 4, 3) := by decide +kernel
theorem d_19_31 : decode (axt_b 19) 31 = .ok (.iconst (-1), 1) := by decide +kernel
theorem d_19_32 : decode (axt_b 19) 32 = .ok (.istore_n 2, 1) := by decide +kernel
theorem d_19_33 : decode (axt_b 19) 33 = .ok (.iload_n 2, 1) := by decide +kernel
theorem d_19_34 : decode (axt_b 19) 34 = .ok (.ifCond .lt 38, 3) := by decide +kernel
theorem d_19_37 : decode (axt_b 19) 37 = .ok (.aload_n 0, 1) := by decide +kernel
theorem d_19_38 : decode (axt_b 19) 38 = .ok (.iload_n 2, 1) := by decide +kernel
theorem d_19_39 : decode (axt_b 19) 39 = .ok (.invokevirtual 74, 3) := by decide +kernel
theorem d_19_42 : decode (axt_b 19) 42 = .ok (.ifCond .lt 30, 3) := by decide +kernel
theorem d_19_45 : decode (axt_b 19) 45 = .ok (.aload_n 0, 1) := by decide +kernel
theorem d_19_46 : decode (axt_b 19) 46 = .ok (.getfield 12, 3) := by decide +kernel
theorem d_19_49 : decode (axt_b 19) 49 = .ok (.invokevirtual 77, 3) := by decide +kernel
theorem d_19_52 : decode (axt_b 19) 52 = .ok (.ifCond .eq 10, 3) := by decide +kernel
theorem d_19_55 : decode (axt_b 19) 55 = .ok (.aload_n 0, 1) := by decide +kernel
theorem d_19_56 : decode (axt_b 19) 56 = .ok (.getfield 12, 3) := by decide +kernel
theorem d_19_59 : decode (axt_b 19) 59 = .ok (.invokevirtual 81, 3) := by decide +kernel
theorem d_19_62 : decode (axt_b 19) 62 = .ok (.aload_n 0, 1) := by decide +kernel
theorem d_19_63 : decode (axt_b 19) 63 = .ok (.getfield 12, 3) := by decide +kernel
theorem d_19_66 : decode (axt_b 19) 66 = .ok (.iload_n 1, 1) := by decide +kernel
theorem d_19_67 : decode (axt_b 19) 67 = .ok (.invokevirtual 84, 3) := by decide +kernel
theorem d_19_70 : decode (axt_b 19) 70 = .ok (.iconst (-1), 1) := by decide +kernel
theorem d_19_71 : decode (axt_b 19) 71 = .ok (.istore_n 2, 1) := by decide +kernel
theorem d_19_72 : decode (axt_b 19) 72 = .ok (.aload_n 0, 1) := by decide +kernel
theorem d_19_73 : decode (axt_b 19) 73 = .ok (.getfield 18, 3) := by decide +kernel
theorem d_19_76 : decode (axt_b 19) 76 = .ok (.iload_n 1, 1) := by decide +kernel
theorem d_19_77 : decode (axt_b 19) 77 = .ok (.iload_n 2, 1) := by decide +kernel
theorem d_19_78 : decode (axt_b 19) 78 = .ok (.iastore, 1) := by decide +kernel
theorem d_19_79 : decode (axt_b 19) 79 = .ok (.iinc 1 1, 3) := by decide +kernel
theorem d_19_82 : decode (axt_b 19) 82 = .ok (.goto (-80), 3) := by decide +kernel
theorem d_19_85 : decode (axt_b 19) 85 = .ok (.return_, 1) := by decide +kernel
theorem d_20_0 : decode (axt_b 20) 0 = .ok (.aload_n 0, 1) := by decide +kernel
theorem d_20_1 : decode (axt_b 20) 1 = .ok (.getfield 10, 3) := by decide +kernel
theorem d_20_4 : decode (axt_b 20) 4 = .ok (.iload_n 1, 1) := by decide +kernel
theorem d_20_5 : decode (axt_b 20) 5 = .ok (.sipush 128, 3) := by decide +kernel
theorem d_20_8 : decode (axt_b 20) 8 = .ok (.imul, 1) := by decide +kernel
theorem d_20_9 : decode (axt_b 20) 9 = .ok (.iaload, 1) := by decide +kernel
theorem d_20_10 : decode (axt_b 20) 10 = .ok (.bipush 24, 2) := by decide +kernel
theorem d_20_12 : decode (axt_b 20) 12 = .ok (.iushr, 1) := by decide +kernel
theorem d_20_13 : decode (axt_b 20) 13 = .ok (.istore_n 2, 1) := by decide +kernel
theorem d_20_14 : decode (axt_b 20) 14 = .ok (.aload_n 0, 1) := by decide +kernel
theorem d_20_15 : decode (axt_b 20) 15 = .ok (.getfield 10, 3) := by decide +kernel
theorem d_20_18 : decode (axt_b 20) 18 = .ok (.iload_n 1, 1) := by decide +kernel
theorem d_20_19 : decode (axt_b 20) 19 = .ok (.sipush 128, 3) := by decide +kernel
theorem d_20_22 : decode (axt_b 20) 22 = .ok (.imul, 1) := by decide +kernel
theorem d_20_23 : decode (axt_b 20) 23 = .ok (.bipush 127, 2) := by decide +kernel
theorem d_20_25 : decode (axt_b 20) 25 = .ok (.iadd, 1) := by decide +kernel
theorem d_20_26 : decode (axt_b 20) 26 = .ok (.iaload, 1) := by decide +kernel
theorem d_20_27 : decode (axt_b 20) 27 = .ok (.sipush 255, 3) := by decide +kernel
theorem d_20_30 : decode (axt_b 20) 30 = .ok (.iand, 1) := by decide +kernel
theorem d_20_31 : decode (axt_b 20) 31 = .ok (.istore_n 3, 1) := by decide +kernel
theorem d_20_32 : decode (axt_b 20) 32 = .ok (.iload_n 2, 1) := by decide +kernel
theorem d_20_33 : decode (axt_b 20) 33 = .ok (.ifCond .eq 12, 3) := by decide +kernel
theorem d_20_36 : decode (axt_b 20) 36 = .ok (.iload_n 2, 1) := by decide +kernel
theorem d_20_37 : decode (axt_b 20) 37 = .ok (.iload_n 3, 1) := by decide +kernel
theorem d_20_38 : decode (axt_b 20) 38 = .ok (.if_icmp .ne 7, 3) := by decide +kernel
theorem d_20_41 : decode (axt_b 20) 41 = .ok (.iconst 1, 1) := by decide +kernel
theorem d_20_42 : decode (axt_b 20) 42 = .ok (.goto 4, 3) := by decide +kernel
theorem d_20_45 : decode (axt_b 20) 45 = .ok (.iconst 0, 1) := by decide +kernel
theorem d_20_46 : decode (axt_b 20) 46 = .ok (.ireturn, 1) := by decide +kernel
theorem d_21_0 : decode (axt_b 21) 0 = .ok (.aload_n 0, 1) := by decide +kernel
theorem d_21_1 : decode (axt_b 21) 1 = .ok (.getfield 10, 3) := by decide +kernel
theorem d_21_4 : decode (axt_b 21) 4 = .ok (.iload_n 1, 1) := by decide +kernel
theorem d_21_5 : decode (axt_b 21) 5 = .ok (.sipush 128, 3) := by decide +kernel
theorem d_21_8 : decode (axt_b 21) 8 = .ok (.imul, 1) := by decide +kernel
theorem d_21_9 : decode (axt_b 21) 9 = .ok (.iconst 1, 1) := by decide +kernel
theorem d_21_10 : decode (axt_b 21) 10 = .ok (.iadd, 1) := by decide +kernel
theorem d_21_11 : decode (axt_b 21) 11 = .ok (.iaload, 1) := by decide +kernel
theorem d_21_12 : decode (axt_b 21) 12 = .ok (.ireturn, 1) := by decide +kernel
theorem d_22_0 : decode (axt_b 22) 0 = .ok (.iconst 0, 1) := by decide +kernel
theorem d_22_1 : decode (axt_b 22) 1 = .ok (.istore_n 2, 1) := by decide +kernel
theorem d_22_2 : decode (axt_b 22) 2 = .ok (.iload_n 2, 1) := by decide +kernel
theorem d_22_3 : decode (axt_b 22) 3 = .ok (.sipush 280, 3) := by decide +kernel
theorem d_22_6 : decode (axt_b 22) 6 = .ok (.if_icmp .ge 21, 3) := by decide +kernel
theorem d_22_9 : decode (axt_b 22) 9 = .ok (.aload_n 0, 1) := by decide +kernel
theorem d_22_10 : decode (axt_b 22) 10 = .ok (.getfield 18, 3) := by decide +kernel
theorem d_22_13 : decode (axt_b 22) 13 = .ok (.iload_n 2, 1) := by decide +kernel
theorem d_22_14 : decode (axt_b 22) 14 = .ok (.iaload, 1) := by decide +kernel
theorem d_22_15 : decode (axt_b 22) 15 = .ok (.iload_n 1, 1) := by decide +kernel
theorem d_22_16 : decode (axt_b 22) 16 = .ok (.if_icmp .ne 5, 3) := by decide +kernel
theorem d_22_19 : decode (axt_b 22) 19 = .ok (.iload_n 2, 1) := by decide +kernel
theorem d_22_20 : decode (axt_b 22) 20 = .ok (.ireturn, 1) := by decide +kernel
theorem d_22_21 : decode (axt_b 22) 21 = .ok (.iinc 2 1, 3) := by decide +kernel
theorem d_22_24 : decode (axt_b 22) 24 = .ok (.goto (-22), 3) := by decide +kernel
theorem d_22_27 : decode (axt_b 22) 27 = .ok (.iconst (-1), 1) := by decide +kernel
theorem d_22_28 : decode (axt_b 22) 28 = .ok (.ireturn, 1) := by decide +kernel
theorem d_23_0 : decode (axt_b 23) 0 = .ok (.aload_n 0, 1) := by decide +kernel
theorem d_23_1 : decode (axt_b 23) 1 = .ok (.getfield 35, 3) := by decide +kernel
theorem d_23_4 : decode (axt_b 23) 4 = .ok (.bipush 32, 2) := by decide +kernel
theorem d_23_6 : decode (axt_b 23) 6 = .ok (.if_icmp .ne 7, 3) := by decide +kernel
theorem d_23_9 : decode (axt_b 23) 9 = .ok (.iconst 1, 1) := by decide +kernel
theorem d_23_10 : decode (axt_b 23) 10 = .ok (.goto 4, 3) := by decide +kernel
theorem d_23_13 : decode (axt_b 23) 13 = .ok (.iconst 0, 1) := by decide +kernel
theorem d_23_14 : decode (axt_b 23) 14 = .ok (.ireturn, 1) := by decide +kernel
theorem d_24_0 : decode (axt_b 24) 0 = .ok (.iconst 0, 1) := by decide +kernel
theorem d_24_1 : decode (axt_b 24) 1 = .ok (.istore_n 1, 1) := by decide +kernel
theorem d_24_2 : decode (axt_b 24) 2 = .ok (.iload_n 1, 1) := by decide +kernel
theorem d_24_3 : decode (axt_b 24) 3 = .ok (.aload_n 0, 1) := by decide +kernel
theorem d_24_4 : decode (axt_b 24) 4 = .ok (.getfield 35, 3) := by decide +kernel
theorem d_24_7 : decode (axt_b 24) 7 = .ok (.if_icmp .ge 50, 3) := by decide +kernel
theorem d_24_10 : decode (axt_b 24) 10 = .ok (.aload_n 0, 1) := by decide +kernel
theorem d_24_11 : decode (axt_b 24) 11 = .ok (.getfield 16, 3) := by decide +kernel
theorem d_24_14 : decode (axt_b 24) 14 = .ok (.iload_n 1, 1) := by decide +kernel
theorem d_24_15 : decode (axt_b 24) 15 = .ok (.sipush 128, 3) := by decide +kernel
theorem d_24_18 : decode (axt_b 24) 18 = .ok (.imul, 1) := by decide +kernel
theorem d_24_19 : decode (axt_b 24) 19 = .ok (.aload_n 0, 1) := by decide +kernel
theorem d_24_20 : decode (axt_b 24) 20 = .ok (.getfield 10, 3) := by decide +kernel
theorem d_24_23 : decode (axt_b 24) 23 = .ok (.aload_n 0, 1) := by decide +kernel
theorem d_24_24 : decode (axt_b 24) 24 = .ok (.getfield 19, 3) := by decide +kernel
theorem d_24_27 : decode (axt_b 24) 27 = .ok (.iload_n 1, 1) := by decide +kernel
theorem d_24_28 : decode (axt_b 24) 28 = .ok (.iaload, 1) := by decide +kernel
theorem d_24_29 : decode (axt_b 24) 29 = .ok (.sipush 128, 3) := by decide +kernel
theorem d_24_32 : decode (axt_b 24) 32 = .ok (.imul, 1) := by decide +kernel
theorem d_24_33 : decode (axt_b 24) 33 = .ok (.sipush 128, 3) := by decide +kernel
theorem d_24_36 : decode (axt_b 24) 36 = .ok (.invokestatic 43, 3) := by decide +kernel
theorem d_24_39 : decode (axt_b 24) 39 = .ok (.aload_n 0, 1) := by decide +kernel
theorem d_24_40 : decode (axt_b 24) 40 = .ok (.getfield 22, 3) := by decide +kernel
theorem d_24_43 : decode (axt_b 24) 43 = .ok (.aload_n 0, 1) := by decide +kernel
theorem d_24_44 : decode (axt_b 24) 44 = .ok (.getfield 19, 3) := by decide +kernel
theorem d_24_47 : decode (axt_b 24) 47 = .ok (.iload_n 1, 1) := by decide +kernel
theorem d_24_48 : decode (axt_b 24) 48 = .ok (.iaload, 1) := by decide +kernel
theorem d_24_49 : decode (axt_b 24) 49 = .ok (.iconst (-1), 1) := by decide +kernel
theorem d_24_50 : decode (axt_b 24) 50 = .ok (.iastore, 1) := by decide +kernel
theorem d_24_51 : decode (axt_b 24) 51 = .ok (.iinc 1 1, 3) := by decide +kernel
theorem d_24_54 : decode (axt_b 24) 54 = .ok (.goto (-52), 3) := by decide +kernel
theorem d_24_57 : decode (axt_b 24) 57 = .ok (.aload_n 0, 1) := by decide +kernel
theorem d_24_58 : decode (axt_b 24) 58 = .ok (.iconst 0, 1) := by decide +kernel
theorem d_24_59 : decode (axt_b 24) 59 = .ok (.putfield 35, 3) := by decide +kernel
theorem d_24_62 : decode (axt_b 24) 62 = .ok (.return_, 1) := by decide +kernel
theorem d_25_0 : decode (axt_b 25) 0 = .ok (.aload_n 0, 1) := by decide +kernel
theorem d_25_1 : decode (axt_b 25) 1 = .ok (.iload_n 1, 1) := by decide +kernel
theorem d_25_2 : decode (axt_b 25) 2 = .ok (.invokevirtual 39, 3) := by decide +kernel
theorem d_25_5 : decode (axt_b 25) 5 = .ok (.istore_n 2, 1) := by decide +kernel
theorem d_25_6 : decode (axt_b 25) 6 = .ok (.iload_n 2, 1) := by decide +kernel
theorem d_25_7 : decode (axt_b 25) 7 = .ok (.ifCond .lt 23, 3) := by decide +kernel
theorem d_25_10 : decode (axt_b 25) 10 = .ok (.aload_n 0, 1) := by decide +kernel
theorem d_25_11 : decode (axt_b 25) 11 = .ok (.getfield 16, 3) := by decide +kernel
theorem d_25_14 : decode (axt_b 25) 14 = .ok (.iload_n 2, 1) := by decide +kernel
theorem d_25_15 : decode (axt_b 25) 15 = .ok (.sipush 128, 3) := by decide +kernel
theorem d_25_18 : decode (axt_b 25) 18 = .ok (.imul, 1) := by decide +kernel
theorem d_25_19 : decode (axt_b 25) 19 = .ok (.iload_n 2, 1) := by decide +kernel
theorem d_25_20 : decode (axt_b 25) 20 = .ok (.iconst 1, 1) := by decide +kernel
theorem d_25_21 : decode (axt_b 25) 21 = .ok (.iadd, 1) := by decide +kernel
theorem d_25_22 : decode (axt_b 25) 22 = .ok (.sipush 128, 3) := by decide +kernel
theorem d_25_25 : decode (axt_b 25) 25 = .ok (.imul, 1) := by decide +kernel
theorem d_25_26 : decode (axt_b 25) 26 = .ok (.iconst 0, 1) := by decide +kernel
theorem d_25_27 : decode (axt_b 25) 27 = .ok (.invokestatic 52, 3) := by decide +kernel
theorem d_25_30 : decode (axt_b 25) 30 = .ok (.return_, 1) := by decide +kernel
theorem d_26_0 : decode (axt_b 26) 0 = .ok (.aload_n 0, 1) := by decide +kernel
theorem d_26_1 : decode (axt_b 26) 1 = .ok (.getfield 22, 3) := by decide +kernel
theorem d_26_4 : decode (axt_b 26) 4 = .ok (.iload_n 1, 1) := by decide +kernel
theorem d_26_5 : decode (axt_b 26) 5 = .ok (.iaload, 1) := by decide +kernel
theorem d_26_6 : decode (axt_b 26) 6 = .ok (.ifCond .ge 42, 3) := by decide +kernel
theorem d_26_9 : decode (axt_b 26) 9 = .ok (.aload_n 0, 1) := by decide +kernel
theorem d_26_10 : decode (axt_b 26) 10 = .ok (.getfield 35, 3) := by decide +kernel
theorem d_26_13 : decode (axt_b 26) 13 = .ok (.bipush 32, 2) := by decide +kernel
theorem d_26_15 : decode (axt_b 26) 15 = .ok (.if_icmp .ge 33, 3) := by decide +kernel
theorem d_26_18 : decode (axt_b 26) 18 = .ok (.aload_n 0, 1) := by decide +kernel
theorem d_26_19 : decode (axt_b 26) 19 = .ok (.getfield 22, 3) := by decide +kernel
theorem d_26_22 : decode (axt_b 26) 22 = .ok (.iload_n 1, 1) := by decide +kernel
theorem d_26_23 : decode (axt_b 26) 23 = .ok (.aload_n 0, 1) := by decide +kernel
theorem d_26_24 : decode (axt_b 26) 24 = .ok (.getfield 35, 3) := by decide +kernel
theorem d_26_27 : decode (axt_b 26) 27 = .ok (.iastore, 1) := by decide +kernel
theorem d_26_28 : decode (axt_b 26) 28 = .ok (.aload_n 0, 1) := by decide +kernel
theorem d_26_29 : decode (axt_b 26) 29 = .ok (.getfield 19, 3) := by decide +kernel
theorem d_26_32 : decode (axt_b 26) 32 = .ok (.aload_n 0, 1) := by decide +kernel
theorem d_26_33 : decode (axt_b 26) 33 = .ok (.getfield 35, 3) := by decide +kernel
theorem d_26_36 : decode (axt_b 26) 36 = .ok (.iload_n 1, 1) := by decide +kernel
theorem d_26_37 : decode (axt_b 26) 37 = .ok (.iastore, 1) := by decide +kernel
theorem d_26_38 : decode (axt_b 26) 38 = .ok (.aload_n 0, 1) := by decide +kernel
theorem d_26_39 : decode (axt_b 26) 39 = .ok (.dup, 1) := by decide +kernel
theorem d_26_40 : decode (axt_b 26) 40 = .ok (.getfield 35, 3) := by decide +kernel
theorem d_26_43 : decode (axt_b 26) 43 = .ok (.iconst 1, 1) := by decide +kernel
theorem d_26_44 : decode (axt_b 26) 44 = .ok (.iadd, 1) := by decide +kernel
theorem d_26_45 : decode (axt_b 26) 45 = .ok (.putfield 35, 3) := by decide +kernel
theorem d_26_48 : decode (axt_b 26) 48 = .ok (.aload_n 0, 1) := by decide +kernel
theorem d_26_49 : decode (axt_b 26) 49 = .ok (.getfield 22, 3) := by decide +kernel
theorem d_26_52 : decode (axt_b 26) 52 = .ok (.iload_n 1, 1) := by decide +kernel
theorem d_26_53 : decode (axt_b 26) 53 = .ok (.iaload, 1) := by decide +kernel
theorem d_26_54 : decode (axt_b 26) 54 = .ok (.ireturn, 1) := by decide +kernel
theorem d_27_0 : decode (axt_b 27) 0 = .ok (.aload_n 0, 1) := by decide +kernel
theorem d_27_1 : decode (axt_b 27) 1 = .ok (.arraylength, 1) := by decide +kernel
theorem d_27_2 : decode (axt_b 27) 2 = .ok (.iload_n 1, 1) := by decide +kernel
theorem d_27_3 : decode (axt_b 27) 3 = .ok (.iload_n 2, 1) := by decide +kernel
theorem d_27_4 : decode (axt_b 27) 4 = .ok (.invokestatic 13, 3) := by decide +kernel
theorem d_27_7 : decode (axt_b 27) 7 = .ok (.iload_n 1, 1) := by decide +kernel
theorem d_27_8 : decode (axt_b 27) 8 = .ok (.istore 4, 2) := by decide +kernel
theorem d_27_10 : decode (axt_b 27) 10 = .ok (.iload 4, 2) := by decide +kernel
theorem d_27_12 : decode (axt_b 27) 12 = .ok (.iload_n 2, 1) := by decide +kernel
theorem d_27_13 : decode (axt_b 27) 13 = .ok (.if_icmp .ge 14, 3) := by decide +kernel
theorem d_27_16 : decode (axt_b 27) 16 = .ok (.aload_n 0, 1) := by decide +kernel
theorem d_27_17 : decode (axt_b 27) 17 = .ok (.iload 4, 2) := by decide +kernel
theorem d_27_19 : decode (axt_b 27) 19 = .ok (.iload_n 3, 1) := by decide +kernel
theorem d_27_20 : decode (axt_b 27) 20 = .ok (.iastore, 1) := by decide +kernel
theorem d_27_21 : decode (axt_b 27) 21 = .ok (.iinc 4 1, 3) := by decide +kernel
theorem d_27_24 : decode (axt_b 27) 24 = .ok (.goto (-14), 3) := by decide +kernel
theorem d_27_27 : decode (axt_b 27) 27 = .ok (.return_, 1) := by decide +kernel
theorem d_28_0 : decode (axt_b 28) 0 = .ok (.iload_n 1, 1) := by decide +kernel
theorem d_28_1 : decode (axt_b 28) 1 = .ok (.iload_n 2, 1) := by decide +kernel
theorem d_28_2 : decode (axt_b 28) 2 = .ok (.if_icmp .le 44, 3) := by decide +kernel
theorem d_28_46 : decode (axt_b 28) 46 = .ok (.iload_n 1, 1) := by decide +kernel
theorem d_28_47 : decode (axt_b 28) 47 = .ok (.ifCond .ge 12, 3) := by decide +kernel
theorem d_28_59 : decode (axt_b 28) 59 = .ok (.iload_n 2, 1) := by decide +kernel
theorem d_28_60 : decode (axt_b 28) 60 = .ok (.iload_n 0, 1) := by decide +kernel
theorem d_28_61 : decode (axt_b 28) 61 = .ok (.if_icmp .le 12, 3) := by decide +kernel
theorem d_28_73 : decode (axt_b 28) 73 = .ok (.return_, 1) := by decide +kernel
theorem d_29_0 : decode (axt_b 29) 0 = .ok (.aload_n 0, 1) := by decide +kernel
theorem d_29_1 : decode (axt_b 29) 1 = .ok (.iload_n 1, 1) := by decide +kernel
theorem d_29_2 : decode (axt_b 29) 2 = .ok (.putfield 88, 3) := by decide +kernel
theorem d_29_5 : decode (axt_b 29) 5 = .ok (.aload_n 0, 1) := by decide +kernel
theorem d_29_6 : decode (axt_b 29) 6 = .ok (.iload_n 2, 1) := by decide +kernel
theorem d_29_7 : decode (axt_b 29) 7 = .ok (.putfield 91, 3) := by decide +kernel
theorem d_29_10 : decode (axt_b 29) 10 = .ok (.aload_n 0, 1) := by decide +kernel
theorem d_29_11 : decode (axt_b 29) 11 = .ok (.invokevirtual 94, 3) := by decide +kernel
theorem d_29_14 : decode (axt_b 29) 14 = .ok (.ifCond .eq 21, 3) := by decide +kernel
theorem d_29_17 : decode (axt_b 29) 17 = .ok (.aload_n 0, 1) := by decide +kernel
theorem d_29_18 : decode (axt_b 29) 18 = .ok (.getfield 39, 3) := by decide +kernel
theorem d_29_21 : decode (axt_b 29) 21 = .ok (.aload_n 0, 1) := by decide +kernel
theorem d_29_22 : decode (axt_b 29) 22 = .ok (.getfield 88, 3) := by decide +kernel
theorem d_29_25 : decode (axt_b 29) 25 = .ok (.aload_n 0, 1) := by decide +kernel
theorem d_29_26 : decode (axt_b 29) 26 = .ok (.getfield 91, 3) := by decide +kernel
theorem d_29_29 : decode (axt_b 29) 29 = .ok (.invokevirtual 97, 3) := by decide +kernel
theorem d_29_32 : decode (axt_b 29) 32 = .ok (.goto 10, 3) := by decide +kernel
theorem d_29_35 : decode (axt_b 29) 35 = .ok (.aload_n 0, 1) := by decide +kernel
theorem d_29_36 : decode (axt_b 29) 36 = .ok (.getfield 39, 3) := by decide +kernel
theorem d_29_39 : decode (axt_b 29) 39 = .ok (.invokevirtual 63, 3) := by decide +kernel
theorem d_29_42 : decode (axt_b 29) 42 = .ok (.return_, 1) := by decide +kernel
theorem d_30_0 : decode (axt_b 30) 0 = .ok (.aload_n 0, 1) := by decide +kernel
theorem d_30_1 : decode (axt_b 30) 1 = .ok (.getfield 26, 3) := by decide +kernel
theorem d_30_4 : decode (axt_b 30) 4 = .ok (.iconst 0, 1) := by decide +kernel
theorem d_30_5 : decode (axt_b 30) 5 = .ok (.iconst 0, 1) := by decide +kernel
theorem d_30_6 : decode (axt_b 30) 6 = .ok (.aload_n 0, 1) := by decide +kernel
theorem d_30_7 : decode (axt_b 30) 7 = .ok (.getfield 91, 3) := by decide +kernel
theorem d_30_10 : decode (axt_b 30) 10 = .ok (.invokevirtual 100, 3) := by decide +kernel
theorem d_30_13 : decode (axt_b 30) 13 = .ok (.aload_n 0, 1) := by decide +kernel
theorem d_30_14 : decode (axt_b 30) 14 = .ok (.getfield 22, 3) := by decide +kernel
theorem d_30_17 : decode (axt_b 30) 17 = .ok (.if_icmp .ne 7, 3) := by decide +kernel
theorem d_30_20 : decode (axt_b 30) 20 = .ok (.iconst 1, 1) := by decide +kernel
theorem d_30_21 : decode (axt_b 30) 21 = .ok (.goto 4, 3) := by decide +kernel
theorem d_30_24 : decode (axt_b 30) 24 = .ok (.iconst 0, 1) := by decide +kernel
theorem d_30_25 : decode (axt_b 30) 25 = .ok (.ireturn, 1) := by decide +kernel
theorem d_31_0 : decode (axt_b 31) 0 = .ok (.iconst 0, 1) := by decide +kernel
theorem d_31_1 : decode (axt_b 31) 1 = .ok (.istore 4, 2) := by decide +kernel
theorem d_31_3 : decode (axt_b 31) 3 = .ok (.iconst 0, 1) := by decide +kernel
theorem d_31_4 : decode (axt_b 31) 4 = .ok (.istore 5, 2) := by decide +kernel
theorem d_31_6 : decode (axt_b 31) 6 = .ok (.iload 5, 2) := by decide +kernel
theorem d_31_8 : decode (axt_b 31) 8 = .ok (.aload_n 0, 1) := by decide +kernel
theorem d_31_9 : decode (axt_b 31) 9 = .ok (.getfield 9, 3) := by decide +kernel
theorem d_31_12 : decode (axt_b 31) 12 = .ok (.if_icmp .ge 46, 3) := by decide +kernel
theorem d_31_15 : decode (axt_b 31) 15 = .ok (.aload_n 0, 1) := by decide +kernel
theorem d_31_16 : decode (axt_b 31) 16 = .ok (.getfield 21, 3) := by decide +kernel
theorem d_31_19 : decode (axt_b 31) 19 = .ok (.iload_n 1, 1) := by decide +kernel
theorem d_31_20 : decode (axt_b 31) 20 = .ok (.aload_n 0, 1) := by decide +kernel
theorem d_31_21 : decode (axt_b 31) 21 = .ok (.getfield 9, 3) := by decide +kernel
theorem d_31_24 : decode (axt_b 31) 24 = .ok (.imul, 1) := by decide +kernel
theorem d_31_25 : decode (axt_b 31) 25 = .ok (.iload 5, 2) := by decide +kernel
theorem d_31_27 : decode (axt_b 31) 27 = .ok (.iadd, 1) := by decide +kernel
theorem d_31_28 : decode (axt_b 31) 28 = .ok (.iaload, 1) := by decide +kernel
theorem d_31_29 : decode (axt_b 31) 29 = .ok (.istore 6, 2) := by decide +kernel
theorem d_31_31 : decode (axt_b 31) 31 = .ok (.iload_n 3, 1) := by decide +kernel
theorem d_31_32 : decode (axt_b 31) 32 = .ok (.iload 6, 2) := by decide +kernel
theorem d_31_34 : decode (axt_b 31) 34 = .ok (.ishr, 1) := by decide +kernel
theorem d_31_35 : decode (axt_b 31) 35 = .ok (.iconst 1, 1) := by decide +kernel
theorem d_31_36 : decode (axt_b 31) 36 = .ok (.iand, 1) := by decide +kernel
theorem d_31_37 : decode (axt_b 31) 37 = .ok (.ifCond .eq 15, 3) := by decide +kernel
theorem d_31_40 : decode (axt_b 31) 40 = .ok (.iload 4, 2) := by decide +kernel
theorem d_31_42 : decode (axt_b 31) 42 = .ok (.iload_n 2, 1) := by decide +kernel
theorem d_31_43 : decode (axt_b 31) 43 = .ok (.if_icmp .ne 6, 3) := by decide +kernel
theorem d_31_46 : decode (axt_b 31) 46 = .ok (.iload 6, 2) := by decide +kernel
theorem d_31_48 : decode (axt_b 31) 48 = .ok (.ireturn, 1) := by decide +kernel
theorem d_31_49 : decode (axt_b 31) 49 = .ok (.iinc 4 1, 3) := by decide +kernel
theorem d_31_52 : decode (axt_b 31) 52 = .ok (.iinc 5 1, 3) := by decide +kernel
theorem d_31_55 : decode (axt_b 31) 55 = .ok (.goto (-49), 3) := by decide +kernel
theorem d_31_58 : decode (axt_b 31) 58 = .ok (.iconst (-1), 1) := by decide +kernel
theorem d_31_59 : decode (axt_b 31) 59 = .ok (.ireturn, 1) := by decide +kernel
theorem d_32_0 : decode (axt_b 32) 0 = .ok (.aload_n 0, 1) := by decide +kernel
theorem d_32_1 : decode (axt_b 32) 1 = .ok (.invokevirtual 53, 3) := by decide +kernel
theorem d_32_4 : decode (axt_b 32) 4 = .ok (.aload_n 0, 1) := by decide +kernel
theorem d_32_5 : decode (axt_b 32) 5 = .ok (.iload_n 1, 1) := by decide +kernel
theorem d_32_6 : decode (axt_b 32) 6 = .ok (.putfield 56, 3) := by decide +kernel
theorem d_32_9 : decode (axt_b 32) 9 = .ok (.aload_n 0, 1) := by decide +kernel
theorem d_32_10 : decode (axt_b 32) 10 = .ok (.iload_n 2, 1) := by decide +kernel
theorem d_32_11 : decode (axt_b 32) 11 = .ok (.putfield 59, 3) := by decide +kernel
theorem d_32_14 : decode (axt_b 32) 14 = .ok (.iconst 0, 1) := by decide +kernel
theorem d_32_15 : decode (axt_b 32) 15 = .ok (.istore_n 3, 1) := by decide +kernel
theorem d_32_16 : decode (axt_b 32) 16 = .ok (.iload_n 3, 1) := by decide +kernel
theorem d_32_17 : decode (axt_b 32) 17 = .ok (.aload_n 0, 1) := by decide +kernel
theorem d_32_18 : decode (axt_b 32) 18 = .ok (.getfield 22, 3) := by decide +kernel
theorem d_32_21 : decode (axt_b 32) 21 = .ok (.getfield 32, 3) := by decide +kernel
theorem d_32_24 : decode (axt_b 32) 24 = .ok (.if_icmp .ge 27, 3) := by decide +kernel
theorem d_32_27 : decode (axt_b 32) 27 = .ok (.aload_n 0, 1) := by decide +kernel
theorem d_32_28 : decode (axt_b 32) 28 = .ok (.getfield 9, 3) := by decide +kernel
theorem d_32_31 : decode (axt_b 32) 31 = .ok (.iload_n 3, 1) := by decide +kernel
theorem d_32_32 : decode (axt_b 32) 32 = .ok (.aload_n 0, 1) := by decide +kernel
theorem d_32_33 : decode (axt_b 32) 33 = .ok (.getfield 22, 3) := by decide +kernel
theorem d_32_36 : decode (axt_b 32) 36 = .ok (.iload_n 3, 1) := by decide +kernel
theorem d_32_37 : decode (axt_b 32) 37 = .ok (.aload_n 0, 1) := by decide +kernel
theorem d_32_38 : decode (axt_b 32) 38 = .ok (.getfield 59, 3) := by decide +kernel
theorem d_32_41 : decode (axt_b 32) 41 = .ok (.invokevirtual 62, 3) := by decide +kernel
theorem d_32_44 : decode (axt_b 32) 44 = .ok (.iastore, 1) := by decide +kernel
theorem d_32_45 : decode (axt_b 32) 45 = .ok (.iinc 3 1, 3) := by decide +kernel
theorem d_32_48 : decode (axt_b 32) 48 = .ok (.goto (-32), 3) := by decide +kernel
theorem d_32_51 : decode (axt_b 32) 51 = .ok (.aload_n 0, 1) := by decide +kernel
theorem d_32_52 : decode (axt_b 32) 52 = .ok (.invokevirtual 66, 3) := by decide +kernel
theorem d_32_55 : decode (axt_b 32) 55 = .ok (.return_, 1) := by decide +kernel
theorem d_33_0 : decode (axt_b 33) 0 = .ok (.aload_n 0, 1) := by decide +kernel
theorem d_33_1 : decode (axt_b 33) 1 = .ok (.getfield 40, 3) := by decide +kernel
theorem d_33_4 : decode (axt_b 33) 4 = .ok (.invokevirtual 69, 3) := by decide +kernel
theorem d_33_7 : decode (axt_b 33) 7 = .ok (.aload_n 0, 1) := by decide +kernel
theorem d_33_8 : decode (axt_b 33) 8 = .ok (.getfield 49, 3) := by decide +kernel
theorem d_33_11 : decode (axt_b 33) 11 = .ok (.iconst 0, 1) := by decide +kernel
theorem d_33_12 : decode (axt_b 33) 12 = .ok (.putfield 72, 3) := by decide +kernel
theorem d_33_15 : decode (axt_b 33) 15 = .ok (.aload_n 0, 1) := by decide +kernel
theorem d_33_16 : decode (axt_b 33) 16 = .ok (.getfield 49, 3) := by decide +kernel
theorem d_33_19 : decode (axt_b 33) 19 = .ok (.iconst (-1), 1) := by decide +kernel
theorem d_33_20 : decode (axt_b 33) 20 = .ok (.putfield 75, 3) := by decide +kernel
theorem d_33_23 : decode (axt_b 33) 23 = .ok (.aload_n 0, 1) := by decide +kernel
theorem d_33_24 : decode (axt_b 33) 24 = .ok (.iconst 0, 1) := by decide +kernel
theorem d_33_25 : decode (axt_b 33) 25 = .ok (.putfield 78, 3) := by decide +kernel
theorem d_33_28 : decode (axt_b 33) 28 = .ok (.aload_n 0, 1) := by decide +kernel
theorem d_33_29 : decode (axt_b 33) 29 = .ok (.iconst 0, 1) := by decide +kernel
theorem d_33_30 : decode (axt_b 33) 30 = .ok (.putfield 81, 3) := by decide +kernel
theorem d_33_33 : decode (axt_b 33) 33 = .ok (.aload_n 0, 1) := by decide +kernel
theorem d_33_34 : decode (axt_b 33) 34 = .ok (.lconst 0, 1) := by decide +kernel
theorem d_33_35 : decode (axt_b 33) 35 = .ok (.putfield 84, 3) := by decide +kernel
theorem d_33_38 : decode (axt_b 33) 38 = .ok (.aload_n 0, 1) := by decide +kernel
theorem d_33_39 : decode (axt_b 33) 39 = .ok (.iconst 0, 1) := by decide +kernel
theorem d_33_40 : decode (axt_b 33) 40 = .ok (.putfield 88, 3) := by decide +kernel
theorem d_33_43 : decode (axt_b 33) 43 = .ok (.aload_n 0, 1) := by decide +kernel
theorem d_33_44 : decode (axt_b 33) 44 = .ok (.iconst 0, 1) := by decide +kernel
theorem d_33_45 : decode (axt_b 33) 45 = .ok (.putfield 91, 3) := by decide +kernel
theorem d_33_48 : decode (axt_b 33) 48 = .ok (.aload_n 0, 1) := by decide +kernel
theorem d_33_49 : decode (axt_b 33) 49 = .ok (.iconst 0, 1) := by decide +kernel
theorem d_33_50 : decode (axt_b 33) 50 = .ok (.putfield 94, 3) := by decide +kernel
theorem d_33_53 : decode (axt_b 33) 53 = .ok (.return_, 1) := by decide +kernel
theorem d_34_0 : decode (axt_b 34) 0 = .ok (.iconst 0, 1) := by decide +kernel
theorem d_34_1 : decode (axt_b 34) 1 = .ok (.istore_n 3, 1) := by decide +kernel
theorem d_34_2 : decode (axt_b 34) 2 = .ok (.iconst 0, 1) := by decide +kernel
theorem d_34_3 : decode (axt_b 34) 3 = .ok (.istore 4, 2) := by decide +kernel
theorem d_34_5 : decode (axt_b 34) 5 = .ok (.iconst 0, 1) := by decide +kernel
theorem d_34_6 : decode (axt_b 34) 6 = .ok (.istore 5, 2) := by decide +kernel
theorem d_34_8 : decode (axt_b 34) 8 = .ok (.iload 5, 2) := by decide +kernel
theorem d_34_10 : decode (axt_b 34) 10 = .ok (.aload_n 0, 1) := by decide +kernel
theorem d_34_11 : decode (axt_b 34) 11 = .ok (.getfield 9, 3) := by decide +kernel
theorem d_34_14 : decode (axt_b 34) 14 = .ok (.if_icmp .ge 53, 3) := by decide +kernel
theorem d_34_17 : decode (axt_b 34) 17 = .ok (.iload 4, 2) := by decide +kernel
theorem d_34_19 : decode (axt_b 34) 19 = .ok (.aload_n 0, 1) := by decide +kernel
theorem d_34_20 : decode (axt_b 34) 20 = .ok (.getfield 15, 3) := by decide +kernel
theorem d_34_23 : decode (axt_b 34) 23 = .ok (.if_icmp .ge 44, 3) := by decide +kernel
theorem d_34_26 : decode (axt_b 34) 26 = .ok (.aload_n 0, 1) := by decide +kernel
theorem d_34_27 : decode (axt_b 34) 27 = .ok (.getfield 21, 3) := by decide +kernel
theorem d_34_30 : decode (axt_b 34) 30 = .ok (.iload_n 1, 1) := by decide +kernel
theorem d_34_31 : decode (axt_b 34) 31 = .ok (.aload_n 0, 1) := by decide +kernel
theorem d_34_32 : decode (axt_b 34) 32 = .ok (.getfield 9, 3) := by decide +kernel
theorem d_34_35 : decode (axt_b 34) 35 = .ok (.imul, 1) := by decide +kernel
theorem d_34_36 : decode (axt_b 34) 36 = .ok (.iload 5, 2) := by decide +kernel
theorem d_34_38 : decode (axt_b 34) 38 = .ok (.iadd, 1) := by decide +kernel
theorem d_34_39 : decode (axt_b 34) 39 = .ok (.iaload, 1) := by decide +kernel
theorem d_34_40 : decode (axt_b 34) 40 = .ok (.istore 6, 2) := by decide +kernel
theorem d_34_42 : decode (axt_b 34) 42 = .ok (.iload_n 2, 1) := by decide +kernel
theorem d_34_43 : decode (axt_b 34) 43 = .ok (.iload 6, 2) := by decide +kernel
theorem d_34_45 : decode (axt_b 34) 45 = .ok (.ishr, 1) := by decide +kernel
theorem d_34_46 : decode (axt_b 34) 46 = .ok (.iconst 1, 1) := by decide +kernel
theorem d_34_47 : decode (axt_b 34) 47 = .ok (.iand, 1) := by decide +kernel
theorem d_34_48 : decode (axt_b 34) 48 = .ok (.ifCond .eq 13, 3) := by decide +kernel
theorem d_34_51 : decode (axt_b 34) 51 = .ok (.iload_n 3, 1) := by decide +kernel
theorem d_34_52 : decode (axt_b 34) 52 = .ok (.iconst 1, 1) := by decide +kernel
theorem d_34_53 : decode (axt_b 34) 53 = .ok (.iload 6, 2) := by decide +kernel
theorem d_34_55 : decode (axt_b 34) 55 = .ok (.ishl, 1) := by decide +kernel
theorem d_34_56 : decode (axt_b 34) 56 = .ok (.ior, 1) := by decide +kernel
theorem d_34_57 : decode (axt_b 34) 57 = .ok (.istore_n 3, 1) := by decide +kernel
theorem d_34_58 : decode (axt_b 34) 58 = .ok (.iinc 4 1, 3) := by decide +kernel
theorem d_34_61 : decode (axt_b 34) 61 = .ok (.iinc 5 1, 3) := by decide +kernel
theorem d_34_64 : decode (axt_b 34) 64 = .ok (.goto (-56), 3) := by decide +kernel
theorem d_34_67 : decode (axt_b 34) 67 = .ok (.iload 4, 2) := by decide +kernel
theorem d_34_69 : decode (axt_b 34) 69 = .ok (.aload_n 0, 1) := by decide +kernel
theorem d_34_70 : decode (axt_b 34) 70 = .ok (.getfield 15, 3) := by decide +kernel
theorem d_34_73 : decode (axt_b 34) 73 = .ok (.if_icmp .ne 7, 3) := by decide +kernel
theorem d_34_76 : decode (axt_b 34) 76 = .ok (.iload_n 3, 1) := by decide +kernel
theorem d_34_77 : decode (axt_b 34) 77 = .ok (.goto 4, 3) := by decide +kernel
theorem d_34_80 : decode (axt_b 34) 80 = .ok (.iconst 0, 1) := by decide +kernel
theorem d_34_81 : decode (axt_b 34) 81 = .ok (.ireturn, 1) := by decide +kernel
theorem d_35_0 : decode (axt_b 35) 0 = .ok (.iconst 0, 1) := by decide +kernel
theorem d_35_1 : decode (axt_b 35) 1 = .ok (.istore_n 1, 1) := by decide +kernel
theorem d_35_2 : decode (axt_b 35) 2 = .ok (.iload_n 1, 1) := by decide +kernel
theorem d_35_3 : decode (axt_b 35) 3 = .ok (.aload_n 0, 1) := by decide +kernel
theorem d_35_4 : decode (axt_b 35) 4 = .ok (.getfield 22, 3) := by decide +kernel
theorem d_35_7 : decode (axt_b 35) 7 = .ok (.getfield 98, 3) := by decide +kernel
theorem d_35_10 : decode (axt_b 35) 10 = .ok (.if_icmp .ge 42, 3) := by decide +kernel
theorem d_35_13 : decode (axt_b 35) 13 = .ok (.aload_n 0, 1) := by decide +kernel
theorem d_35_14 : decode (axt_b 35) 14 = .ok (.getfield 81, 3) := by decide +kernel
theorem d_35_17 : decode (axt_b 35) 17 = .ok (.iload_n 1, 1) := by decide +kernel
theorem d_35_18 : decode (axt_b 35) 18 = .ok (.ishr, 1) := by decide +kernel
theorem d_35_19 : decode (axt_b 35) 19 = .ok (.iconst 1, 1) := by decide +kernel
theorem d_35_20 : decode (axt_b 35) 20 = .ok (.iand, 1) := by decide +kernel
theorem d_35_21 : decode (axt_b 35) 21 = .ok (.ifCond .ne 25, 3) := by decide +kernel
theorem d_35_24 : decode (axt_b 35) 24 = .ok (.aload_n 0, 1) := by decide +kernel
theorem d_35_25 : decode (axt_b 35) 25 = .ok (.getfield 26, 3) := by decide +kernel
theorem d_35_28 : decode (axt_b 35) 28 = .ok (.iconst 4, 1) := by decide +kernel
theorem d_35_29 : decode (axt_b 35) 29 = .ok (.aload_n 0, 1) := by decide +kernel
theorem d_35_30 : decode (axt_b 35) 30 = .ok (.getfield 18, 3) := by decide +kernel
theorem d_35_33 : decode (axt_b 35) 33 = .ok (.iload_n 1, 1) := by decide +kernel
theorem d_35_34 : decode (axt_b 35) 34 = .ok (.aload_n 0, 1) := by decide +kernel
theorem d_35_35 : decode (axt_b 35) 35 = .ok (.getfield 56, 3) := by decide +kernel
theorem d_35_38 : decode (axt_b 35) 38 = .ok (.aload_n 0, 1) := by decide +kernel
theorem d_35_39 : decode (axt_b 35) 39 = .ok (.getfield 59, 3) := by decide +kernel
theorem d_35_42 : decode (axt_b 35) 42 = .ok (.invokevirtual 101, 3) := by decide +kernel
theorem d_35_45 : decode (axt_b 35) 45 = .ok (.pop, 1) := by decide +kernel
theorem d_35_46 : decode (axt_b 35) 46 = .ok (.iinc 1 1, 3) := by decide +kernel
theorem d_35_49 : decode (axt_b 35) 49 = .ok (.goto (-47), 3) := by decide +kernel
theorem d_35_52 : decode (axt_b 35) 52 = .ok (.return_, 1) := by decide +kernel
theorem d_36_0 : decode (axt_b 36) 0 = .ok (.aload_n 0, 1) := by decide +kernel
theorem d_36_1 : decode (axt_b 36) 1 = .ok (.getfield 22, 3) := by decide +kernel
theorem d_36_4 : decode (axt_b 36) 4 = .ok (.astore 6, 2) := by decide +kernel
theorem d_36_6 : decode (axt_b 36) 6 = .ok (.aload_n 0, 1) := by decide +kernel
theorem d_36_7 : decode (axt_b 36) 7 = .ok (.getfield 25, 3) := by decide +kernel
theorem d_36_10 : decode (axt_b 36) 10 = .ok (.aload_n 0, 1) := by decide +kernel
theorem d_36_11 : decode (axt_b 36) 11 = .ok (.getfield 11, 3) := by decide +kernel
theorem d_36_14 : decode (axt_b 36) 14 = .ok (.arraylength, 1) := by decide +kernel
theorem d_36_15 : decode (axt_b 36) 15 = .ok (.if_icmp .ge 24, 3) := by decide +kernel
theorem d_36_18 : decode (axt_b 36) 18 = .ok (.aload_n 0, 1) := by decide +kernel
theorem d_36_19 : decode (axt_b 36) 19 = .ok (.getfield 11, 3) := by decide +kernel
theorem d_36_22 : decode (axt_b 36) 22 = .ok (.aload_n 0, 1) := by decide +kernel
theorem d_36_23 : decode (axt_b 36) 23 = .ok (.getfield 25, 3) := by decide +kernel
theorem d_36_26 : decode (axt_b 36) 26 = .ok (.aaload, 1) := by decide +kernel
theorem d_36_27 : decode (axt_b 36) 27 = .ok (.astore 6, 2) := by decide +kernel
theorem d_36_29 : decode (axt_b 36) 29 = .ok (.aload_n 0, 1) := by decide +kernel
theorem d_36_30 : decode (axt_b 36) 30 = .ok (.dup, 1) := by decide +kernel
theorem d_36_31 : decode (axt_b 36) 31 = .ok (.getfield 25, 3) := by decide +kernel
theorem d_36_34 : decode (axt_b 36) 34 = .ok (.iconst 1, 1) := by decide +kernel
theorem d_36_35 : decode (axt_b 36) 35 = .ok (.iadd, 1) := by decide +kernel
theorem d_36_36 : decode (axt_b 36) 36 = .ok (.putfield 25, 3) := by decide +kernel
theorem d_36_39 : decode (axt_b 36) 39 = .ok (.aload 6, 2) := by decide +kernel
theorem d_36_41 : decode (axt_b 36) 41 = .ok (.iload_n 1, 1) := by decide +kernel
theorem d_36_42 : decode (axt_b 36) 42 = .ok (.putfield 29, 3) := by decide +kernel
theorem d_36_45 : decode (axt_b 36) 45 = .ok (.aload 6, 2) := by decide +kernel
theorem d_36_47 : decode (axt_b 36) 47 = .ok (.iload_n 2, 1) := by decide +kernel
theorem d_36_48 : decode (axt_b 36) 48 = .ok (.putfield 32, 3) := by decide +kernel
theorem d_36_51 : decode (axt_b 36) 51 = .ok (.aload 6, 2) := by decide +kernel
theorem d_36_53 : decode (axt_b 36) 53 = .ok (.iload_n 3, 1) := by decide +kernel
theorem d_36_54 : decode (axt_b 36) 54 = .ok (.putfield 35, 3) := by decide +kernel
theorem d_36_57 : decode (axt_b 36) 57 = .ok (.aload 6, 2) := by decide +kernel
theorem d_36_59 : decode (axt_b 36) 59 = .ok (.iload 4, 2) := by decide +kernel
theorem d_36_61 : decode (axt_b 36) 61 = .ok (.putfield 38, 3) := by decide +kernel
theorem d_36_64 : decode (axt_b 36) 64 = .ok (.aload 6, 2) := by decide +kernel
theorem d_36_66 : decode (axt_b 36) 66 = .ok (.iload 5, 2) := by decide +kernel
theorem d_36_68 : decode (axt_b 36) 68 = .ok (.putfield 41, 3) := by decide +kernel
theorem d_36_71 : decode (axt_b 36) 71 = .ok (.aload 6, 2) := by decide +kernel
theorem d_36_73 : decode (axt_b 36) 73 = .ok (.iconst (-1), 1) := by decide +kernel
theorem d_36_74 : decode (axt_b 36) 74 = .ok (.putfield 44, 3) := by decide +kernel
theorem d_36_77 : decode (axt_b 36) 77 = .ok (.aload 6, 2) := by decide +kernel
theorem d_36_79 : decode (axt_b 36) 79 = .ok (.iconst 0, 1) := by decide +kernel
theorem d_36_80 : decode (axt_b 36) 80 = .ok (.putfield 47, 3) := by decide +kernel
theorem d_36_83 : decode (axt_b 36) 83 = .ok (.aload 6, 2) := by decide +kernel
theorem d_36_85 : decode (axt_b 36) 85 = .ok (.iconst 0, 1) := by decide +kernel
theorem d_36_86 : decode (axt_b 36) 86 = .ok (.putfield 50, 3) := by decide +kernel
theorem d_36_89 : decode (axt_b 36) 89 = .ok (.aload 6, 2) := by decide +kernel
theorem d_36_91 : decode (axt_b 36) 91 = .ok (.areturn, 1) := by decide +kernel
theorem d_37_0 : decode (axt_b 37) 0 = .ok (.aload_n 0, 1) := by decide +kernel
theorem d_37_1 : decode (axt_b 37) 1 = .ok (.getfield 41, 3) := by decide +kernel
theorem d_37_4 : decode (axt_b 37) 4 = .ok (.getfield 79, 3) := by decide +kernel
theorem d_37_7 : decode (axt_b 37) 7 = .ok (.bipush 20, 2) := by decide +kernel
theorem d_37_9 : decode (axt_b 37) 9 = .ok (.iadd, 1) := by decide +kernel
theorem d_37_10 : decode (axt_b 37) 10 = .ok (.sipush 2048, 3) := by decide +kernel
theorem d_37_13 : decode (axt_b 37) 13 = .ok (.if_icmp .le 6, 3) := by decide +kernel
theorem d_37_16 : decode (axt_b 37) 16 = .ok (.bipush (-4), 2) := by decide +kernel
theorem d_37_18 : decode (axt_b 37) 18 = .ok (.ireturn, 1) := by decide +kernel
theorem d_37_19 : decode (axt_b 37) 19 = .ok (.aload_n 0, 1) := by decide +kernel
theorem d_37_20 : decode (axt_b 37) 20 = .ok (.getfield 41, 3) := by decide +kernel
theorem d_37_23 : decode (axt_b 37) 23 = .ok (.iload_n 1, 1) := by decide +kernel
theorem d_37_24 : decode (axt_b 37) 24 = .ok (.invokevirtual 82, 3) := by decide +kernel
theorem d_37_27 : decode (axt_b 37) 27 = .ok (.aload_n 0, 1) := by decide +kernel
theorem d_37_28 : decode (axt_b 37) 28 = .ok (.getfield 41, 3) := by decide +kernel
theorem d_37_31 : decode (axt_b 37) 31 = .ok (.iload_n 2, 1) := by decide +kernel
theorem d_37_32 : decode (axt_b 37) 32 = .ok (.invokevirtual 82, 3) := by decide +kernel
theorem d_37_35 : decode (axt_b 37) 35 = .ok (.aload_n 0, 1) := by decide +kernel
theorem d_37_36 : decode (axt_b 37) 36 = .ok (.getfield 41, 3) := by decide +kernel
theorem d_37_39 : decode (axt_b 37) 39 = .ok (.iload_n 3, 1) := by decide +kernel
theorem d_37_40 : decode (axt_b 37) 40 = .ok (.invokevirtual 82, 3) := by decide +kernel
theorem d_37_43 : decode (axt_b 37) 43 = .ok (.aload_n 0, 1) := by decide +kernel
theorem d_37_44 : decode (axt_b 37) 44 = .ok (.getfield 41, 3) := by decide +kernel
theorem d_37_47 : decode (axt_b 37) 47 = .ok (.iload 4, 2) := by decide +kernel
theorem d_37_49 : decode (axt_b 37) 49 = .ok (.invokevirtual 82, 3) := by decide +kernel
theorem d_37_52 : decode (axt_b 37) 52 = .ok (.aload_n 0, 1) := by decide +kernel
theorem d_37_53 : decode (axt_b 37) 53 = .ok (.getfield 41, 3) := by decide +kernel
theorem d_37_56 : decode (axt_b 37) 56 = .ok (.iload 5, 2) := by decide +kernel
theorem d_37_58 : decode (axt_b 37) 58 = .ok (.invokevirtual 82, 3) := by decide +kernel
theorem d_37_61 : decode (axt_b 37) 61 = .ok (.aload_n 0, 1) := by decide +kernel
theorem d_37_62 : decode (axt_b 37) 62 = .ok (.getfield 41, 3) := by decide +kernel
theorem d_37_65 : decode (axt_b 37) 65 = .ok (.getfield 79, 3) := by decide +kernel
theorem d_37_68 : decode (axt_b 37) 68 = .ok (.ireturn, 1) := by decide +kernel
theorem d_38_0 : decode (axt_b 38) 0 = .ok (.bipush 24, 2) := by decide +kernel
theorem d_38_2 : decode (axt_b 38) 2 = .ok (.istore_n 2, 1) := by decide +kernel
theorem d_38_3 : decode (axt_b 38) 3 = .ok (.iload_n 2, 1) := by decide +kernel
theorem d_38_4 : decode (axt_b 38) 4 = .ok (.ifCond .lt 33, 3) := by decide +kernel
theorem d_38_7 : decode (axt_b 38) 7 = .ok (.aload_n 0, 1) := by decide +kernel
theorem d_38_8 : decode (axt_b 38) 8 = .ok (.getfield 9, 3) := by decide +kernel
theorem d_38_11 : decode (axt_b 38) 11 = .ok (.aload_n 0, 1) := by decide +kernel
theorem d_38_12 : decode (axt_b 38) 12 = .ok (.getfield 57, 3) := by decide +kernel
theorem d_38_15 : decode (axt_b 38) 15 = .ok (.iload_n 1, 1) := by decide +kernel
theorem d_38_16 : decode (axt_b 38) 16 = .ok (.iload_n 2, 1) := by decide +kernel
theorem d_38_17 : decode (axt_b 38) 17 = .ok (.iushr, 1) := by decide +kernel
theorem d_38_18 : decode (axt_b 38) 18 = .ok (.invokestatic 60, 3) := by decide +kernel
theorem d_38_21 : decode (axt_b 38) 21 = .ok (.aload_n 0, 1) := by decide +kernel
theorem d_38_22 : decode (axt_b 38) 22 = .ok (.dup, 1) := by decide +kernel
theorem d_38_23 : decode (axt_b 38) 23 = .ok (.getfield 57, 3) := by decide +kernel
theorem d_38_26 : decode (axt_b 38) 26 = .ok (.iconst 1, 1) := by decide +kernel
theorem d_38_27 : decode (axt_b 38) 27 = .ok (.iadd, 1) := by decide +kernel
theorem d_38_28 : decode (axt_b 38) 28 = .ok (.putfield 57, 3) := by decide +kernel
theorem d_38_31 : decode (axt_b 38) 31 = .ok (.iinc 2 (-8), 3) := by decide +kernel
theorem d_38_34 : decode (axt_b 38) 34 = .ok (.goto (-31), 3) := by decide +kernel
theorem d_38_37 : decode (axt_b 38) 37 = .ok (.return_, 1) := by decide +kernel
theorem d_39_0 : decode (axt_b 39) 0 = .ok (.bipush 24, 2) := by decide +kernel
theorem d_39_2 : decode (axt_b 39) 2 = .ok (.bipush 8, 2) := by decide +kernel
theorem d_39_4 : decode (axt_b 39) 4 = .ok (.iload_n 1, 1) := by decide +kernel
theorem d_39_5 : decode (axt_b 39) 5 = .ok (.iconst 3, 1) := by decide +kernel
theorem d_39_6 : decode (axt_b 39) 6 = .ok (.iand, 1) := by decide +kernel
theorem d_39_7 : decode (axt_b 39) 7 = .ok (.imul, 1) := by decide +kernel
theorem d_39_8 : decode (axt_b 39) 8 = .ok (.isub, 1) := by decide +kernel
theorem d_39_9 : decode (axt_b 39) 9 = .ok (.istore_n 3, 1) := by decide +kernel
theorem d_39_10 : decode (axt_b 39) 10 = .ok (.aload_n 0, 1) := by decide +kernel
theorem d_39_11 : decode (axt_b 39) 11 = .ok (.iload_n 1, 1) := by decide +kernel
theorem d_39_12 : decode (axt_b 39) 12 = .ok (.iconst 2, 1) := by decide +kernel
theorem d_39_13 : decode (axt_b 39) 13 = .ok (.ishr, 1) := by decide +kernel
theorem d_39_14 : decode (axt_b 39) 14 = .ok (.aload_n 0, 1) := by decide +kernel
theorem d_39_15 : decode (axt_b 39) 15 = .ok (.iload_n 1, 1) := by decide +kernel
theorem d_39_16 : decode (axt_b 39) 16 = .ok (.iconst 2, 1) := by decide +kernel
theorem d_39_17 : decode (axt_b 39) 17 = .ok (.ishr, 1) := by decide +kernel
theorem d_39_18 : decode (axt_b 39) 18 = .ok (.iaload, 1) := by decide +kernel
theorem d_39_19 : decode (axt_b 39) 19 = .ok (.sipush 255, 3) := by decide +kernel
theorem d_39_22 : decode (axt_b 39) 22 = .ok (.iload_n 3, 1) := by decide +kernel
theorem d_39_23 : decode (axt_b 39) 23 = .ok (.ishl, 1) := by decide +kernel
theorem d_39_24 : decode (axt_b 39) 24 = .ok (.iconst (-1), 1) := by decide +kernel
theorem d_39_25 : decode (axt_b 39) 25 = .ok (.ixor, 1) := by decide +kernel
theorem d_39_26 : decode (axt_b 39) 26 = .ok (.iand, 1) := by decide +kernel
theorem d_39_27 : decode (axt_b 39) 27 = .ok (.iload_n 2, 1) := by decide +kernel
theorem d_39_28 : decode (axt_b 39) 28 = .ok (.sipush 255, 3) := by decide +kernel
theorem d_39_31 : decode (axt_b 39) 31 = .ok (.iand, 1) := by decide +kernel
theorem d_39_32 : decode (axt_b 39) 32 = .ok (.iload_n 3, 1) := by decide +kernel
theorem d_39_33 : decode (axt_b 39) 33 = .ok (.ishl, 1) := by decide +kernel
theorem d_39_34 : decode (axt_b 39) 34 = .ok (.ior, 1) := by decide +kernel
theorem d_39_35 : decode (axt_b 39) 35 = .ok (.iastore, 1) := by decide +kernel
theorem d_39_36 : decode (axt_b 39) 36 = .ok (.return_, 1) := by decide +kernel
theorem d_40_0 : decode (axt_b 40) 0 = .ok (.iload_n 1, 1) := by decide +kernel
theorem d_40_1 : decode (axt_b 40) 1 = .ok (.ifCond .lt 14, 3) := by decide +kernel
theorem d_40_4 : decode (axt_b 40) 4 = .ok (.iload_n 1, 1) := by decide +kernel
theorem d_40_5 : decode (axt_b 40) 5 = .ok (.aload_n 0, 1) := by decide +kernel
theorem d_40_6 : decode (axt_b 40) 6 = .ok (.getfield 41, 3) := by decide +kernel
theorem d_40_9 : decode (axt_b 40) 9 = .ok (.getfield 79, 3) := by decide +kernel
theorem d_40_12 : decode (axt_b 40) 12 = .ok (.if_icmp .le 5, 3) := by decide +kernel
theorem d_40_15 : decode (axt_b 40) 15 = .ok (.iconst (-1), 1) := by decide +kernel
theorem d_40_16 : decode (axt_b 40) 16 = .ok (.ireturn, 1) := by decide +kernel
theorem d_40_17 : decode (axt_b 40) 17 = .ok (.aload_n 0, 1) := by decide +kernel
theorem d_40_18 : decode (axt_b 40) 18 = .ok (.getfield 41, 3) := by decide +kernel
theorem d_40_21 : decode (axt_b 40) 21 = .ok (.iload_n 1, 1) := by decide +kernel
theorem d_40_22 : decode (axt_b 40) 22 = .ok (.putfield 79, 3) := by decide +kernel
theorem d_40_25 : decode (axt_b 40) 25 = .ok (.iload_n 1, 1) := by decide +kernel
theorem d_40_26 : decode (axt_b 40) 26 = .ok (.ireturn, 1) := by decide +kernel
theorem d_41_0 : decode (axt_b 41) 0 = .ok (.iload_n 1, 1) := by decide +kernel
theorem d_41_1 : decode (axt_b 41) 1 = .ok (.ifCond .lt 21, 3) := by decide +kernel
theorem d_41_4 : decode (axt_b 41) 4 = .ok (.iload_n 1, 1) := by decide +kernel
theorem d_41_5 : decode (axt_b 41) 5 = .ok (.iconst 1, 1) := by decide +kernel
theorem d_41_6 : decode (axt_b 41) 6 = .ok (.if_icmp .gt 16, 3) := by decide +kernel
theorem d_41_9 : decode (axt_b 41) 9 = .ok (.aload_n 0, 1) := by decide +kernel
theorem d_41_10 : decode (axt_b 41) 10 = .ok (.getfield 41, 3) := by decide +kernel
theorem d_41_13 : decode (axt_b 41) 13 = .ok (.getfield 79, 3) := by decide +kernel
theorem d_41_16 : decode (axt_b 41) 16 = .ok (.sipush 200, 3) := by decide +kernel
theorem d_41_19 : decode (axt_b 41) 19 = .ok (.if_icmp .le 5, 3) := by decide +kernel
theorem d_41_22 : decode (axt_b 41) 22 = .ok (.iconst (-1), 1) := by decide +kernel
theorem d_41_23 : decode (axt_b 41) 23 = .ok (.ireturn, 1) := by decide +kernel
theorem d_41_24 : decode (axt_b 41) 24 = .ok (.aload_n 0, 1) := by decide +kernel
theorem d_41_25 : decode (axt_b 41) 25 = .ok (.getfield 41, 3) := by decide +kernel
theorem d_41_28 : decode (axt_b 41) 28 = .ok (.iload_n 1, 1) := by decide +kernel
theorem d_41_29 : decode (axt_b 41) 29 = .ok (.invokevirtual 85, 3) := by decide +kernel
theorem d_41_32 : decode (axt_b 41) 32 = .ok (.ireturn, 1) := by decide +kernel
theorem d_42_0 : decode (axt_b 42) 0 = .ok (.aload_n 0, 1) := by decide +kernel
theorem d_42_1 : decode (axt_b 42) 1 = .ok (.getfield 15, 3) := by decide +kernel
theorem d_42_4 : decode (axt_b 42) 4 = .ok (.iload_n 1, 1) := by decide +kernel
theorem d_42_5 : decode (axt_b 42) 5 = .ok (.bipush 50, 2) := by decide +kernel
theorem d_42_7 : decode (axt_b 42) 7 = .ok (.imul, 1) := by decide +kernel
theorem d_42_8 : decode (axt_b 42) 8 = .ok (.iload_n 1, 1) := by decide +kernel
theorem d_42_9 : decode (axt_b 42) 9 = .ok (.iconst 1, 1) := by decide +kernel
theorem d_42_10 : decode (axt_b 42) 10 = .ok (.iadd, 1) := by decide +kernel
theorem d_42_11 : decode (axt_b 42) 11 = .ok (.bipush 50, 2) := by decide +kernel
theorem d_42_13 : decode (axt_b 42) 13 = .ok (.imul, 1) := by decide +kernel
theorem d_42_14 : decode (axt_b 42) 14 = .ok (.iconst 0, 1) := by decide +kernel
theorem d_42_15 : decode (axt_b 42) 15 = .ok (.invokestatic 65, 3) := by decide +kernel
theorem d_42_18 : decode (axt_b 42) 18 = .ok (.aload_n 0, 1) := by decide +kernel
theorem d_42_19 : decode (axt_b 42) 19 = .ok (.getfield 9, 3) := by decide +kernel
theorem d_42_22 : decode (axt_b 42) 22 = .ok (.iconst 0, 1) := by decide +kernel
theorem d_42_23 : decode (axt_b 42) 23 = .ok (.aload_n 0, 1) := by decide +kernel
theorem d_42_24 : decode (axt_b 42) 24 = .ok (.getfield 15, 3) := by decide +kernel
theorem d_42_27 : decode (axt_b 42) 27 = .ok (.iload_n 1, 1) := by decide +kernel
theorem d_42_28 : decode (axt_b 42) 28 = .ok (.sipush 200, 3) := by decide +kernel
theorem d_42_31 : decode (axt_b 42) 31 = .ok (.imul, 1) := by decide +kernel
theorem d_42_32 : decode (axt_b 42) 32 = .ok (.aload_n 0, 1) := by decide +kernel
theorem d_42_33 : decode (axt_b 42) 33 = .ok (.getfield 57, 3) := by decide +kernel
theorem d_42_36 : decode (axt_b 42) 36 = .ok (.invokestatic 71, 3) := by decide +kernel
theorem d_42_39 : decode (axt_b 42) 39 = .ok (.aload_n 0, 1) := by decide +kernel
theorem d_42_40 : decode (axt_b 42) 40 = .ok (.getfield 18, 3) := by decide +kernel
theorem d_42_43 : decode (axt_b 42) 43 = .ok (.iload_n 1, 1) := by decide +kernel
theorem d_42_44 : decode (axt_b 42) 44 = .ok (.aload_n 0, 1) := by decide +kernel
theorem d_42_45 : decode (axt_b 42) 45 = .ok (.getfield 57, 3) := by decide +kernel
theorem d_42_48 : decode (axt_b 42) 48 = .ok (.iastore, 1) := by decide +kernel
theorem d_42_49 : decode (axt_b 42) 49 = .ok (.aload_n 0, 1) := by decide +kernel
theorem d_42_50 : decode (axt_b 42) 50 = .ok (.iconst 0, 1) := by decide +kernel
theorem d_42_51 : decode (axt_b 42) 51 = .ok (.putfield 57, 3) := by decide +kernel
theorem d_42_54 : decode (axt_b 42) 54 = .ok (.aload_n 0, 1) := by decide +kernel
theorem d_42_55 : decode (axt_b 42) 55 = .ok (.getfield 18, 3) := by decide +kernel
theorem d_42_58 : decode (axt_b 42) 58 = .ok (.iload_n 1, 1) := by decide +kernel
theorem d_42_59 : decode (axt_b 42) 59 = .ok (.iaload, 1) := by decide +kernel
theorem d_42_60 : decode (axt_b 42) 60 = .ok (.ireturn, 1) := by decide +kernel
theorem d_43_0 : decode (axt_b 43) 0 = .ok (.iconst 0, 1) := by decide +kernel
theorem d_43_1 : decode (axt_b 43) 1 = .ok (.istore 5, 2) := by decide +kernel
theorem d_43_3 : decode (axt_b 43) 3 = .ok (.iload_n 1, 1) := by decide +kernel
theorem d_43_4 : decode (axt_b 43) 4 = .ok (.iconst 3, 1) := by decide +kernel
theorem d_43_5 : decode (axt_b 43) 5 = .ok (.iand, 1) := by decide +kernel
theorem d_43_6 : decode (axt_b 43) 6 = .ok (.ifCond .ne 32, 3) := by decide +kernel
theorem d_43_9 : decode (axt_b 43) 9 = .ok (.iload_n 3, 1) := by decide +kernel
theorem d_43_10 : decode (axt_b 43) 10 = .ok (.iconst 3, 1) := by decide +kernel
theorem d_43_11 : decode (axt_b 43) 11 = .ok (.iand, 1) := by decide +kernel
theorem d_43_12 : decode (axt_b 43) 12 = .ok (.ifCond .ne 26, 3) := by decide +kernel
theorem d_43_15 : decode (axt_b 43) 15 = .ok (.aload_n 0, 1) := by decide +kernel
theorem d_43_16 : decode (axt_b 43) 16 = .ok (.iload_n 1, 1) := by decide +kernel
theorem d_43_17 : decode (axt_b 43) 17 = .ok (.iconst 2, 1) := by decide +kernel
theorem d_43_18 : decode (axt_b 43) 18 = .ok (.ishr, 1) := by decide +kernel
theorem d_43_19 : decode (axt_b 43) 19 = .ok (.aload_n 2, 1) := by decide +kernel
theorem d_43_20 : decode (axt_b 43) 20 = .ok (.iload_n 3, 1) := by decide +kernel
theorem d_43_21 : decode (axt_b 43) 21 = .ok (.iconst 2, 1) := by decide +kernel
theorem d_43_22 : decode (axt_b 43) 22 = .ok (.ishr, 1) := by decide +kernel
theorem d_43_23 : decode (axt_b 43) 23 = .ok (.iload 4, 2) := by decide +kernel
theorem d_43_25 : decode (axt_b 43) 25 = .ok (.iconst 2, 1) := by decide +kernel
theorem d_43_26 : decode (axt_b 43) 26 = .ok (.ishr, 1) := by decide +kernel
theorem d_43_27 : decode (axt_b 43) 27 = .ok (.invokestatic 9, 3) := by decide +kernel
theorem d_43_30 : decode (axt_b 43) 30 = .ok (.iload 4, 2) := by decide +kernel
theorem d_43_32 : decode (axt_b 43) 32 = .ok (.iconst 2, 1) := by decide +kernel
theorem d_43_33 : decode (axt_b 43) 33 = .ok (.ishr, 1) := by decide +kernel
theorem d_43_34 : decode (axt_b 43) 34 = .ok (.iconst 2, 1) := by decide +kernel
theorem d_43_35 : decode (axt_b 43) 35 = .ok (.ishl, 1) := by decide +kernel
theorem d_43_36 : decode (axt_b 43) 36 = .ok (.istore 5, 2) := by decide +kernel
theorem d_43_38 : decode (axt_b 43) 38 = .ok (.iload 5, 2) := by decide +kernel
theorem d_43_40 : decode (axt_b 43) 40 = .ok (.iload 4, 2) := by decide +kernel
theorem d_43_42 : decode (axt_b 43) 42 = .ok (.if_icmp .ge 81, 3) := by decide +kernel
theorem d_43_45 : decode (axt_b 43) 45 = .ok (.aload_n 0, 1) := by decide +kernel
theorem d_43_46 : decode (axt_b 43) 46 = .ok (.iload_n 1, 1) := by decide +kernel
theorem d_43_47 : decode (axt_b 43) 47 = .ok (.iload 5, 2) := by decide +kernel
theorem d_43_49 : decode (axt_b 43) 49 = .ok (.iadd, 1) := by decide +kernel
theorem d_43_50 : decode (axt_b 43) 50 = .ok (.iconst 2, 1) := by decide +kernel
theorem d_43_51 : decode (axt_b 43) 51 = .ok (.ishr, 1) := by decide +kernel
theorem d_43_52 : decode (axt_b 43) 52 = .ok (.iaload, 1) := by decide +kernel
theorem d_43_53 : decode (axt_b 43) 53 = .ok (.bipush 24, 2) := by decide +kernel
theorem d_43_55 : decode (axt_b 43) 55 = .ok (.bipush 8, 2) := by decide +kernel
theorem d_43_57 : decode (axt_b 43) 57 = .ok (.iload_n 1, 1) := by decide +kernel
theorem d_43_58 : decode (axt_b 43) 58 = .ok (.iload 5, 2) := by decide +kernel
theorem d_43_60 : decode (axt_b 43) 60 = .ok (.iadd, 1) := by decide +kernel
theorem d_43_61 : decode (axt_b 43) 61 = .ok (.iconst 3, 1) := by decide +kernel
theorem d_43_62 : decode (axt_b 43) 62 = .ok (.iand, 1) := by decide +kernel
theorem d_43_63 : decode (axt_b 43) 63 = .ok (.imul, 1) := by decide +kernel
theorem d_43_64 : decode (axt_b 43) 64 = .ok (.isub, 1) := by decide +kernel
theorem d_43_65 : decode (axt_b 43) 65 = .ok (.iushr, 1) := by decide +kernel
theorem d_43_66 : decode (axt_b 43) 66 = .ok (.sipush 255, 3) := by decide +kernel
theorem d_43_69 : decode (axt_b 43) 69 = .ok (.iand, 1) := by decide +kernel
theorem d_43_70 : decode (axt_b 43) 70 = .ok (.istore 6, 2) := by decide +kernel
theorem d_43_72 : decode (axt_b 43) 72 = .ok (.bipush 24, 2) := by decide +kernel
theorem d_43_74 : decode (axt_b 43) 74 = .ok (.bipush 8, 2) := by decide +kernel
theorem d_43_76 : decode (axt_b 43) 76 = .ok (.iload_n 3, 1) := by decide +kernel
theorem d_43_77 : decode (axt_b 43) 77 = .ok (.iload 5, 2) := by decide +kernel
theorem d_43_79 : decode (axt_b 43) 79 = .ok (.iadd, 1) := by decide +kernel
theorem d_43_80 : decode (axt_b 43) 80 = .ok (.iconst 3, 1) := by decide +kernel
theorem d_43_81 : decode (axt_b 43) 81 = .ok (.iand, 1) := by decide +kernel
theorem d_43_82 : decode (axt_b 43) 82 = .ok (.imul, 1) := by decide +kernel
theorem d_43_83 : decode (axt_b 43) 83 = .ok (.isub, 1) := by decide +kernel
theorem d_43_84 : decode (axt_b 43) 84 = .ok (.istore 7, 2) := by decide +kernel
theorem d_43_86 : decode (axt_b 43) 86 = .ok (.aload_n 2, 1) := by decide +kernel
theorem d_43_87 : decode (axt_b 43) 87 = .ok (.iload_n 3, 1) := by decide +kernel
theorem d_43_88 : decode (axt_b 43) 88 = .ok (.iload 5, 2) := by decide +kernel
theorem d_43_90 : decode (axt_b 43) 90 = .ok (.iadd, 1) := by decide +kernel
theorem d_43_91 : decode (axt_b 43) 91 = .ok (.iconst 2, 1) := by decide +kernel
theorem d_43_92 : decode (axt_b 43) 92 = .ok (.ishr, 1) := by decide +kernel
theorem d_43_93 : decode (axt_b 43) 93 = .ok (.aload_n 2, 1) := by decide +kernel
theorem d_43_94 : decode (axt_b 43) 94 = .ok (.iload_n 3, 1) := by decide +kernel
theorem d_43_95 : decode (axt_b 43) 95 = .ok (.iload 5, 2) := by decide +kernel
theorem d_43_97 : decode (axt_b 43) 97 = .ok (.iadd, 1) := by decide +kernel
theorem d_43_98 : decode (axt_b 43) 98 = .ok (.iconst 2, 1) := by decide +kernel
theorem d_43_99 : decode (axt_b 43) 99 = .ok (.ishr, 1) := by decide +kernel
theorem d_43_100 : decode (axt_b 43) 100 = .ok (.iaload, 1) := by decide +kernel
theorem d_43_101 : decode (axt_b 43) 101 = .ok (.sipush 255, 3) := by decide +kernel
theorem d_43_104 : decode (axt_b 43) 104 = .ok (.iload 7, 2) := by decide +kernel
theorem d_43_106 : decode (axt_b 43) 106 = .ok (.ishl, 1) := by decide +kernel
theorem d_43_107 : decode (axt_b 43) 107 = .ok (.iconst (-1), 1) := by decide +kernel
theorem d_43_108 : decode (axt_b 43) 108 = .ok (.ixor, 1) := by decide +kernel
theorem d_43_109 : decode (axt_b 43) 109 = .ok (.iand, 1) := by decide +kernel
theorem d_43_110 : decode (axt_b 43) 110 = .ok (.iload 6, 2) := by decide +kernel
theorem d_43_112 : decode (axt_b 43) 112 = .ok (.iload 7, 2) := by decide +kernel
theorem d_43_114 : decode (axt_b 43) 114 = .ok (.ishl, 1) := by decide +kernel
theorem d_43_115 : decode (axt_b 43) 115 = .ok (.ior, 1) := by decide +kernel
theorem d_43_116 : decode (axt_b 43) 116 = .ok (.iastore, 1) := by decide +kernel
theorem d_43_117 : decode (axt_b 43) 117 = .ok (.iinc 5 1, 3) := by decide +kernel
theorem d_43_120 : decode (axt_b 43) 120 = .ok (.goto (-82), 3) := by decide +kernel
theorem d_43_123 : decode (axt_b 43) 123 = .ok (.return_, 1) := by decide +kernel
theorem d_44_0 : decode (axt_b 44) 0 = .ok (.aload_n 0, 1) := by decide +kernel
theorem d_44_1 : decode (axt_b 44) 1 = .ok (.getfield 41, 3) := by decide +kernel
theorem d_44_4 : decode (axt_b 44) 4 = .ok (.iload_n 1, 1) := by decide +kernel
theorem d_44_5 : decode (axt_b 44) 5 = .ok (.iload_n 2, 1) := by decide +kernel
theorem d_44_6 : decode (axt_b 44) 6 = .ok (.iload_n 3, 1) := by decide +kernel
theorem d_44_7 : decode (axt_b 44) 7 = .ok (.invokevirtual 89, 3) := by decide +kernel
theorem d_44_10 : decode (axt_b 44) 10 = .ok (.ifCond .ne 5, 3) := by decide +kernel
theorem d_44_13 : decode (axt_b 44) 13 = .ok (.iconst (-1), 1) := by decide +kernel
theorem d_44_14 : decode (axt_b 44) 14 = .ok (.ireturn, 1) := by decide +kernel
theorem d_44_15 : decode (axt_b 44) 15 = .ok (.aload_n 0, 1) := by decide +kernel
theorem d_44_16 : decode (axt_b 44) 16 = .ok (.getfield 41, 3) := by decide +kernel
theorem d_44_19 : decode (axt_b 44) 19 = .ok (.getfield 93, 3) := by decide +kernel
theorem d_44_22 : decode (axt_b 44) 22 = .ok (.aload_n 0, 1) := by decide +kernel
theorem d_44_23 : decode (axt_b 44) 23 = .ok (.getfield 41, 3) := by decide +kernel
theorem d_44_26 : decode (axt_b 44) 26 = .ok (.getfield 96, 3) := by decide +kernel
theorem d_44_29 : decode (axt_b 44) 29 = .ok (.isub, 1) := by decide +kernel
theorem d_44_30 : decode (axt_b 44) 30 = .ok (.bipush 12, 2) := by decide +kernel
theorem d_44_32 : decode (axt_b 44) 32 = .ok (.if_icmp .ge 16, 3) := by decide +kernel
theorem d_44_35 : decode (axt_b 44) 35 = .ok (.aload_n 0, 1) := by decide +kernel
theorem d_44_36 : decode (axt_b 44) 36 = .ok (.getfield 41, 3) := by decide +kernel
theorem d_44_39 : decode (axt_b 44) 39 = .ok (.getfield 93, 3) := by decide +kernel
theorem d_44_42 : decode (axt_b 44) 42 = .ok (.sipush 512, 3) := by decide +kernel
theorem d_44_45 : decode (axt_b 44) 45 = .ok (.if_icmp .lt 6, 3) := by decide +kernel
theorem d_44_48 : decode (axt_b 44) 48 = .ok (.bipush (-4), 2) := by decide +kernel
theorem d_44_50 : decode (axt_b 44) 50 = .ok (.ireturn, 1) := by decide +kernel
theorem d_44_51 : decode (axt_b 44) 51 = .ok (.aload_n 0, 1) := by decide +kernel
theorem d_44_52 : decode (axt_b 44) 52 = .ok (.iconst 0, 1) := by decide +kernel
theorem d_44_53 : decode (axt_b 44) 53 = .ok (.putfield 99, 3) := by decide +kernel
theorem d_44_56 : decode (axt_b 44) 56 = .ok (.aload_n 0, 1) := by decide +kernel
theorem d_44_57 : decode (axt_b 44) 57 = .ok (.getfield 41, 3) := by decide +kernel
theorem d_44_60 : decode (axt_b 44) 60 = .ok (.iload_n 1, 1) := by decide +kernel
theorem d_44_61 : decode (axt_b 44) 61 = .ok (.iload_n 2, 1) := by decide +kernel
theorem d_44_62 : decode (axt_b 44) 62 = .ok (.iload_n 3, 1) := by decide +kernel
theorem d_44_63 : decode (axt_b 44) 63 = .ok (.invokevirtual 103, 3) := by decide +kernel
theorem d_44_66 : decode (axt_b 44) 66 = .ok (.ireturn, 1) := by decide +kernel
theorem d_45_0 : decode (axt_b 45) 0 = .ok (.iload_n 1, 1) := by decide +kernel
theorem d_45_1 : decode (axt_b 45) 1 = .ok (.ifCond .lt 24, 3) := by decide +kernel
theorem d_45_4 : decode (axt_b 45) 4 = .ok (.iload_n 1, 1) := by decide +kernel
theorem d_45_5 : decode (axt_b 45) 5 = .ok (.bipush 9, 2) := by decide +kernel
theorem d_45_7 : decode (axt_b 45) 7 = .ok (.if_icmp .gt 18, 3) := by decide +kernel
theorem d_45_10 : decode (axt_b 45) 10 = .ok (.iload_n 1, 1) := by decide +kernel
theorem d_45_11 : decode (axt_b 45) 11 = .ok (.bipush 9, 2) := by decide +kernel
theorem d_45_13 : decode (axt_b 45) 13 = .ok (.if_icmp .eq 14, 3) := by decide +kernel
theorem d_45_16 : decode (axt_b 45) 16 = .ok (.aload_n 0, 1) := by decide +kernel
theorem d_45_17 : decode (axt_b 45) 17 = .ok (.getfield 18, 3) := by decide +kernel
theorem d_45_20 : decode (axt_b 45) 20 = .ok (.iconst 0, 1) := by decide +kernel
theorem d_45_21 : decode (axt_b 45) 21 = .ok (.iaload, 1) := by decide +kernel
theorem d_45_22 : decode (axt_b 45) 22 = .ok (.ifCond .ne 5, 3) := by decide +kernel
theorem d_45_25 : decode (axt_b 45) 25 = .ok (.iconst 0, 1) := by decide +kernel
theorem d_45_26 : decode (axt_b 45) 26 = .ok (.ireturn, 1) := by decide +kernel
theorem d_45_27 : decode (axt_b 45) 27 = .ok (.iload_n 1, 1) := by decide +kernel
theorem d_45_28 : decode (axt_b 45) 28 = .ok (.bipush 6, 2) := by decide +kernel
theorem d_45_30 : decode (axt_b 45) 30 = .ok (.if_icmp .eq 9, 3) := by decide +kernel
theorem d_45_33 : decode (axt_b 45) 33 = .ok (.iload_n 1, 1) := by decide +kernel
theorem d_45_34 : decode (axt_b 45) 34 = .ok (.bipush 7, 2) := by decide +kernel
theorem d_45_36 : decode (axt_b 45) 36 = .ok (.if_icmp .ne 14, 3) := by decide +kernel
theorem d_45_39 : decode (axt_b 45) 39 = .ok (.aload_n 0, 1) := by decide +kernel
theorem d_45_40 : decode (axt_b 45) 40 = .ok (.getfield 18, 3) := by decide +kernel
theorem d_45_43 : decode (axt_b 45) 43 = .ok (.iconst 1, 1) := by decide +kernel
theorem d_45_44 : decode (axt_b 45) 44 = .ok (.iaload, 1) := by decide +kernel
theorem d_45_45 : decode (axt_b 45) 45 = .ok (.ifCond .ne 5, 3) := by decide +kernel
theorem d_45_48 : decode (axt_b 45) 48 = .ok (.iconst 0, 1) := by decide +kernel
theorem d_45_49 : decode (axt_b 45) 49 = .ok (.ireturn, 1) := by decide +kernel
theorem d_45_50 : decode (axt_b 45) 50 = .ok (.iload_n 1, 1) := by decide +kernel
theorem d_45_51 : decode (axt_b 45) 51 = .ok (.iconst 1, 1) := by decide +kernel
theorem d_45_52 : decode (axt_b 45) 52 = .ok (.if_icmp .eq 13, 3) := by decide +kernel
theorem d_45_55 : decode (axt_b 45) 55 = .ok (.iload_n 1, 1) := by decide +kernel
theorem d_45_56 : decode (axt_b 45) 56 = .ok (.iconst 3, 1) := by decide +kernel
theorem d_45_57 : decode (axt_b 45) 57 = .ok (.if_icmp .eq 8, 3) := by decide +kernel
theorem d_45_60 : decode (axt_b 45) 60 = .ok (.iload_n 1, 1) := by decide +kernel
theorem d_45_61 : decode (axt_b 45) 61 = .ok (.iconst 4, 1) := by decide +kernel
theorem d_45_62 : decode (axt_b 45) 62 = .ok (.if_icmp .ne 16, 3) := by decide +kernel
theorem d_45_65 : decode (axt_b 45) 65 = .ok (.iload_n 2, 1) := by decide +kernel
theorem d_45_66 : decode (axt_b 45) 66 = .ok (.ifCond .lt 10, 3) := by decide +kernel
theorem d_45_69 : decode (axt_b 45) 69 = .ok (.iload_n 2, 1) := by decide +kernel
theorem d_45_70 : decode (axt_b 45) 70 = .ok (.sipush 8192, 3) := by decide +kernel
theorem d_45_73 : decode (axt_b 45) 73 = .ok (.if_icmp .le 5, 3) := by decide +kernel
theorem d_45_76 : decode (axt_b 45) 76 = .ok (.iconst 0, 1) := by decide +kernel
theorem d_45_77 : decode (axt_b 45) 77 = .ok (.ireturn, 1) := by decide +kernel
theorem d_45_78 : decode (axt_b 45) 78 = .ok (.iload_n 1, 1) := by decide +kernel
theorem d_45_79 : decode (axt_b 45) 79 = .ok (.iconst 4, 1) := by decide +kernel
theorem d_45_80 : decode (axt_b 45) 80 = .ok (.if_icmp .ne 14, 3) := by decide +kernel
theorem d_45_83 : decode (axt_b 45) 83 = .ok (.iload_n 3, 1) := by decide +kernel
theorem d_45_84 : decode (axt_b 45) 84 = .ok (.ifCond .lt 14, 3) := by decide +kernel
theorem d_45_87 : decode (axt_b 45) 87 = .ok (.iload_n 3, 1) := by decide +kernel
theorem d_45_88 : decode (axt_b 45) 88 = .ok (.sipush 2048, 3) := by decide +kernel
theorem d_45_91 : decode (axt_b 45) 91 = .ok (.if_icmp .gt 7, 3) := by decide +kernel
theorem d_45_94 : decode (axt_b 45) 94 = .ok (.iconst 1, 1) := by decide +kernel
theorem d_45_95 : decode (axt_b 45) 95 = .ok (.goto 4, 3) := by decide +kernel
theorem d_45_98 : decode (axt_b 45) 98 = .ok (.iconst 0, 1) := by decide +kernel
theorem d_45_99 : decode (axt_b 45) 99 = .ok (.ireturn, 1) := by decide +kernel
theorem d_46_0 : decode (axt_b 46) 0 = .ok (.aload_n 0, 1) := by decide +kernel
theorem d_46_1 : decode (axt_b 46) 1 = .ok (.getfield 23, 3) := by decide +kernel
theorem d_46_4 : decode (axt_b 46) 4 = .ok (.aload_n 0, 1) := by decide +kernel
theorem d_46_5 : decode (axt_b 46) 5 = .ok (.getfield 75, 3) := by decide +kernel
theorem d_46_8 : decode (axt_b 46) 8 = .ok (.aload_n 0, 1) := by decide +kernel
theorem d_46_9 : decode (axt_b 46) 9 = .ok (.getfield 23, 3) := by decide +kernel
theorem d_46_12 : decode (axt_b 46) 12 = .ok (.arraylength, 1) := by decide +kernel
theorem d_46_13 : decode (axt_b 46) 13 = .ok (.irem, 1) := by decide +kernel
theorem d_46_14 : decode (axt_b 46) 14 = .ok (.aaload, 1) := by decide +kernel
theorem d_46_15 : decode (axt_b 46) 15 = .ok (.astore 4, 2) := by decide +kernel
theorem d_46_17 : decode (axt_b 46) 17 = .ok (.aload 4, 2) := by decide +kernel
theorem d_46_19 : decode (axt_b 46) 19 = .ok (.iload_n 1, 1) := by decide +kernel
theorem d_46_20 : decode (axt_b 46) 20 = .ok (.putfield 78, 3) := by decide +kernel
theorem d_46_23 : decode (axt_b 46) 23 = .ok (.aload 4, 2) := by decide +kernel
theorem d_46_25 : decode (axt_b 46) 25 = .ok (.iload_n 2, 1) := by decide +kernel
theorem d_46_26 : decode (axt_b 46) 26 = .ok (.putfield 81, 3) := by decide +kernel
theorem d_46_29 : decode (axt_b 46) 29 = .ok (.aload 4, 2) := by decide +kernel
theorem d_46_31 : decode (axt_b 46) 31 = .ok (.iload_n 3, 1) := by decide +kernel
theorem d_46_32 : decode (axt_b 46) 32 = .ok (.putfield 84, 3) := by decide +kernel
theorem d_46_35 : decode (axt_b 46) 35 = .ok (.aload 4, 2) := by decide +kernel
theorem d_46_37 : decode (axt_b 46) 37 = .ok (.aload_n 0, 1) := by decide +kernel
theorem d_46_38 : decode (axt_b 46) 38 = .ok (.getfield 18, 3) := by decide +kernel
theorem d_46_41 : decode (axt_b 46) 41 = .ok (.iconst 0, 1) := by decide +kernel
theorem d_46_42 : decode (axt_b 46) 42 = .ok (.iaload, 1) := by decide +kernel
theorem d_46_43 : decode (axt_b 46) 43 = .ok (.putfield 87, 3) := by decide +kernel
theorem d_46_46 : decode (axt_b 46) 46 = .ok (.aload 4, 2) := by decide +kernel
theorem d_46_48 : decode (axt_b 46) 48 = .ok (.aload_n 0, 1) := by decide +kernel
theorem d_46_49 : decode (axt_b 46) 49 = .ok (.getfield 18, 3) := by decide +kernel
theorem d_46_52 : decode (axt_b 46) 52 = .ok (.iconst 1, 1) := by decide +kernel
theorem d_46_53 : decode (axt_b 46) 53 = .ok (.iaload, 1) := by decide +kernel
theorem d_46_54 : decode (axt_b 46) 54 = .ok (.putfield 90, 3) := by decide +kernel
theorem d_46_57 : decode (axt_b 46) 57 = .ok (.aload 4, 2) := by decide +kernel
theorem d_46_59 : decode (axt_b 46) 59 = .ok (.iconst 0, 1) := by decide +kernel
theorem d_46_60 : decode (axt_b 46) 60 = .ok (.putfield 93, 3) := by decide +kernel
theorem d_46_63 : decode (axt_b 46) 63 = .ok (.aload 4, 2) := by decide +kernel
theorem d_46_65 : decode (axt_b 46) 65 = .ok (.iconst 0, 1) := by decide +kernel
theorem d_46_66 : decode (axt_b 46) 66 = .ok (.putfield 94, 3) := by decide +kernel
theorem d_46_69 : decode (axt_b 46) 69 = .ok (.aload_n 0, 1) := by decide +kernel
theorem d_46_70 : decode (axt_b 46) 70 = .ok (.getfield 15, 3) := by decide +kernel
theorem d_46_73 : decode (axt_b 46) 73 = .ok (.iconst 0, 1) := by decide +kernel
theorem d_46_74 : decode (axt_b 46) 74 = .ok (.aload 4, 2) := by decide +kernel
theorem d_46_76 : decode (axt_b 46) 76 = .ok (.getfield 97, 3) := by decide +kernel
theorem d_46_79 : decode (axt_b 46) 79 = .ok (.iconst 0, 1) := by decide +kernel
theorem d_46_80 : decode (axt_b 46) 80 = .ok (.bipush 100, 2) := by decide +kernel
theorem d_46_82 : decode (axt_b 46) 82 = .ok (.invokestatic 100, 3) := by decide +kernel
theorem d_46_85 : decode (axt_b 46) 85 = .ok (.iload_n 1, 1) := by decide +kernel
theorem d_46_86 : decode (axt_b 46) 86 = .ok (.iconst 1, 1) := by decide +kernel
theorem d_46_87 : decode (axt_b 46) 87 = .ok (.if_icmp .eq 8, 3) := by decide +kernel
theorem d_46_90 : decode (axt_b 46) 90 = .ok (.iload_n 1, 1) := by decide +kernel
theorem d_46_91 : decode (axt_b 46) 91 = .ok (.iconst 2, 1) := by decide +kernel
theorem d_46_92 : decode (axt_b 46) 92 = .ok (.if_icmp .ne 35, 3) := by decide +kernel
theorem d_46_95 : decode (axt_b 46) 95 = .ok (.aload_n 0, 1) := by decide +kernel
theorem d_46_96 : decode (axt_b 46) 96 = .ok (.getfield 9, 3) := by decide +kernel
theorem d_46_99 : decode (axt_b 46) 99 = .ok (.iconst 0, 1) := by decide +kernel
theorem d_46_100 : decode (axt_b 46) 100 = .ok (.aload 4, 2) := by decide +kernel
theorem d_46_102 : decode (axt_b 46) 102 = .ok (.getfield 97, 3) := by decide +kernel
theorem d_46_105 : decode (axt_b 46) 105 = .ok (.bipush 100, 2) := by decide +kernel
theorem d_46_107 : decode (axt_b 46) 107 = .ok (.sipush 512, 3) := by decide +kernel
theorem d_46_110 : decode (axt_b 46) 110 = .ok (.invokestatic 100, 3) := by decide +kernel
theorem d_46_113 : decode (axt_b 46) 113 = .ok (.aload 4, 2) := by decide +kernel
theorem d_46_115 : decode (axt_b 46) 115 = .ok (.aload_n 0, 1) := by decide +kernel
theorem d_46_116 : decode (axt_b 46) 116 = .ok (.getfield 57, 3) := by decide +kernel
theorem d_46_119 : decode (axt_b 46) 119 = .ok (.putfield 93, 3) := by decide +kernel
theorem d_46_122 : decode (axt_b 46) 122 = .ok (.aload_n 0, 1) := by decide +kernel
theorem d_46_123 : decode (axt_b 46) 123 = .ok (.iconst 0, 1) := by decide +kernel
theorem d_46_124 : decode (axt_b 46) 124 = .ok (.putfield 57, 3) := by decide +kernel
theorem d_46_127 : decode (axt_b 46) 127 = .ok (.aload_n 0, 1) := by decide +kernel
theorem d_46_128 : decode (axt_b 46) 128 = .ok (.dup, 1) := by decide +kernel
theorem d_46_129 : decode (axt_b 46) 129 = .ok (.getfield 75, 3) := by decide +kernel
theorem d_46_132 : decode (axt_b 46) 132 = .ok (.iconst 1, 1) := by decide +kernel
theorem d_46_133 : decode (axt_b 46) 133 = .ok (.iadd, 1) := by decide +kernel
theorem d_46_134 : decode (axt_b 46) 134 = .ok (.putfield 75, 3) := by decide +kernel
theorem d_46_137 : decode (axt_b 46) 137 = .ok (.aload_n 0, 1) := by decide +kernel
theorem d_46_138 : decode (axt_b 46) 138 = .ok (.getfield 106, 3) := by decide +kernel
theorem d_46_141 : decode (axt_b 46) 141 = .ok (.aload_n 0, 1) := by decide +kernel
theorem d_46_142 : decode (axt_b 46) 142 = .ok (.getfield 75, 3) := by decide +kernel
theorem d_46_145 : decode (axt_b 46) 145 = .ok (.iconst 1, 1) := by decide +kernel
theorem d_46_146 : decode (axt_b 46) 146 = .ok (.isub, 1) := by decide +kernel
theorem d_46_147 : decode (axt_b 46) 147 = .ok (.if_icmp .ne 7, 3) := by decide +kernel
theorem d_46_150 : decode (axt_b 46) 150 = .ok (.aload_n 0, 1) := by decide +kernel
theorem d_46_151 : decode (axt_b 46) 151 = .ok (.invokevirtual 109, 3) := by decide +kernel
theorem d_46_154 : decode (axt_b 46) 154 = .ok (.aload_n 0, 1) := by decide +kernel
theorem d_46_155 : decode (axt_b 46) 155 = .ok (.getfield 75, 3) := by decide +kernel
theorem d_46_158 : decode (axt_b 46) 158 = .ok (.iconst 1, 1) := by decide +kernel
theorem d_46_159 : decode (axt_b 46) 159 = .ok (.isub, 1) := by decide +kernel
theorem d_46_160 : decode (axt_b 46) 160 = .ok (.ireturn, 1) := by decide +kernel
theorem d_47_0 : decode (axt_b 47) 0 = .ok (.aload_n 0, 1) := by decide +kernel
theorem d_47_1 : decode (axt_b 47) 1 = .ok (.getfield 37, 3) := by decide +kernel
theorem d_47_4 : decode (axt_b 47) 4 = .ok (.iconst 0, 1) := by decide +kernel
theorem d_47_5 : decode (axt_b 47) 5 = .ok (.iconst 0, 1) := by decide +kernel
theorem d_47_6 : decode (axt_b 47) 6 = .ok (.aload_n 0, 1) := by decide +kernel
theorem d_47_7 : decode (axt_b 47) 7 = .ok (.getfield 50, 3) := by decide +kernel
theorem d_47_10 : decode (axt_b 47) 10 = .ok (.invokevirtual 112, 3) := by decide +kernel
theorem d_47_13 : decode (axt_b 47) 13 = .ok (.istore_n 1, 1) := by decide +kernel
theorem d_47_14 : decode (axt_b 47) 14 = .ok (.aload_n 0, 1) := by decide +kernel
theorem d_47_15 : decode (axt_b 47) 15 = .ok (.getfield 106, 3) := by decide +kernel
theorem d_47_18 : decode (axt_b 47) 18 = .ok (.aload_n 0, 1) := by decide +kernel
theorem d_47_19 : decode (axt_b 47) 19 = .ok (.getfield 75, 3) := by decide +kernel
theorem d_47_22 : decode (axt_b 47) 22 = .ok (.if_icmp .eq 7, 3) := by decide +kernel
theorem d_47_25 : decode (axt_b 47) 25 = .ok (.iload_n 1, 1) := by decide +kernel
theorem d_47_26 : decode (axt_b 47) 26 = .ok (.ifCond .ge 4, 3) := by decide +kernel
theorem d_47_29 : decode (axt_b 47) 29 = .ok (.return_, 1) := by decide +kernel
theorem d_47_30 : decode (axt_b 47) 30 = .ok (.aload_n 0, 1) := by decide +kernel
theorem d_47_31 : decode (axt_b 47) 31 = .ok (.getfield 23, 3) := by decide +kernel
theorem d_47_34 : decode (axt_b 47) 34 = .ok (.aload_n 0, 1) := by decide +kernel
theorem d_47_35 : decode (axt_b 47) 35 = .ok (.getfield 106, 3) := by decide +kernel
theorem d_47_38 : decode (axt_b 47) 38 = .ok (.aload_n 0, 1) := by decide +kernel
theorem d_47_39 : decode (axt_b 47) 39 = .ok (.getfield 23, 3) := by decide +kernel
theorem d_47_42 : decode (axt_b 47) 42 = .ok (.arraylength, 1) := by decide +kernel
theorem d_47_43 : decode (axt_b 47) 43 = .ok (.irem, 1) := by decide +kernel
theorem d_47_44 : decode (axt_b 47) 44 = .ok (.aaload, 1) := by decide +kernel
theorem d_47_45 : decode (axt_b 47) 45 = .ok (.astore_n 2, 1) := by decide +kernel
theorem d_47_46 : decode (axt_b 47) 46 = .ok (.aload_n 0, 1) := by decide +kernel
theorem d_47_47 : decode (axt_b 47) 47 = .ok (.getfield 41, 3) := by decide +kernel
theorem d_47_50 : decode (axt_b 47) 50 = .ok (.iconst 2, 1) := by decide +kernel
theorem d_47_51 : decode (axt_b 47) 51 = .ok (.aload_n 0, 1) := by decide +kernel
theorem d_47_52 : decode (axt_b 47) 52 = .ok (.getfield 37, 3) := by decide +kernel
theorem d_47_55 : decode (axt_b 47) 55 = .ok (.getfield 45, 3) := by decide +kernel
theorem d_47_58 : decode (axt_b 47) 58 = .ok (.iload_n 1, 1) := by decide +kernel
theorem d_47_59 : decode (axt_b 47) 59 = .ok (.aload_n 0, 1) := by decide +kernel
theorem d_47_60 : decode (axt_b 47) 60 = .ok (.getfield 34, 3) := by decide +kernel
theorem d_47_63 : decode (axt_b 47) 63 = .ok (.aload_n 0, 1) := by decide +kernel
theorem d_47_64 : decode (axt_b 47) 64 = .ok (.getfield 50, 3) := by decide +kernel
theorem d_47_67 : decode (axt_b 47) 67 = .ok (.invokevirtual 116, 3) := by decide +kernel
theorem d_47_70 : decode (axt_b 47) 70 = .ok (.astore_n 3, 1) := by decide +kernel
theorem d_47_71 : decode (axt_b 47) 71 = .ok (.aload_n 3, 1) := by decide +kernel
theorem d_47_72 : decode (axt_b 47) 72 = .ok (.aload_n 0, 1) := by decide +kernel
theorem d_47_73 : decode (axt_b 47) 73 = .ok (.getfield 106, 3) := by decide +kernel
theorem d_47_76 : decode (axt_b 47) 76 = .ok (.putfield 122, 3) := by decide +kernel
theorem d_47_79 : decode (axt_b 47) 79 = .ok (.aload_n 3, 1) := by decide +kernel
theorem d_47_80 : decode (axt_b 47) 80 = .ok (.aload_n 0, 1) := by decide +kernel
theorem d_47_81 : decode (axt_b 47) 81 = .ok (.getfield 30, 3) := by decide +kernel
theorem d_47_84 : decode (axt_b 47) 84 = .ok (.putfield 127, 3) := by decide +kernel
theorem d_47_87 : decode (axt_b 47) 87 = .ok (.aload_n 2, 1) := by decide +kernel
theorem d_47_88 : decode (axt_b 47) 88 = .ok (.aload_n 3, 1) := by decide +kernel
theorem d_47_89 : decode (axt_b 47) 89 = .ok (.invokevirtual 130, 3) := by decide +kernel
theorem d_47_92 : decode (axt_b 47) 92 = .ok (.return_, 1) := by decide +kernel
theorem d_48_0 : decode (axt_b 48) 0 = .ok (.aload_n 1, 1) := by decide +kernel
theorem d_48_1 : decode (axt_b 48) 1 = .ok (.aload_n 0, 1) := by decide +kernel
theorem d_48_2 : decode (axt_b 48) 2 = .ok (.getfield 15, 3) := by decide +kernel
theorem d_48_5 : decode (axt_b 48) 5 = .ok (.putfield 19, 3) := by decide +kernel
theorem d_48_8 : decode (axt_b 48) 8 = .ok (.aload_n 1, 1) := by decide +kernel
theorem d_48_9 : decode (axt_b 48) 9 = .ok (.getfield 24, 3) := by decide +kernel
theorem d_48_12 : decode (axt_b 48) 12 = .ok (.iconst 0, 1) := by decide +kernel
theorem d_48_13 : decode (axt_b 48) 13 = .ok (.aload_n 0, 1) := by decide +kernel
theorem d_48_14 : decode (axt_b 48) 14 = .ok (.getfield 27, 3) := by decide +kernel
theorem d_48_17 : decode (axt_b 48) 17 = .ok (.iastore, 1) := by decide +kernel
theorem d_48_18 : decode (axt_b 48) 18 = .ok (.aload_n 1, 1) := by decide +kernel
theorem d_48_19 : decode (axt_b 48) 19 = .ok (.getfield 24, 3) := by decide +kernel
theorem d_48_22 : decode (axt_b 48) 22 = .ok (.iconst 1, 1) := by decide +kernel
theorem d_48_23 : decode (axt_b 48) 23 = .ok (.aload_n 0, 1) := by decide +kernel
theorem d_48_24 : decode (axt_b 48) 24 = .ok (.getfield 30, 3) := by decide +kernel
theorem d_48_27 : decode (axt_b 48) 27 = .ok (.iastore, 1) := by decide +kernel
theorem d_48_28 : decode (axt_b 48) 28 = .ok (.aload_n 1, 1) := by decide +kernel
theorem d_48_29 : decode (axt_b 48) 29 = .ok (.getfield 24, 3) := by decide +kernel
theorem d_48_32 : decode (axt_b 48) 32 = .ok (.iconst 2, 1) := by decide +kernel
theorem d_48_33 : decode (axt_b 48) 33 = .ok (.aload_n 0, 1) := by decide +kernel
theorem d_48_34 : decode (axt_b 48) 34 = .ok (.getfield 33, 3) := by decide +kernel
theorem d_48_37 : decode (axt_b 48) 37 = .ok (.iastore, 1) := by decide +kernel
theorem d_48_38 : decode (axt_b 48) 38 = .ok (.aload_n 1, 1) := by decide +kernel
theorem d_48_39 : decode (axt_b 48) 39 = .ok (.getfield 24, 3) := by decide +kernel
theorem d_48_42 : decode (axt_b 48) 42 = .ok (.iconst 3, 1) := by decide +kernel
theorem d_48_43 : decode (axt_b 48) 43 = .ok (.aload_n 0, 1) := by decide +kernel
theorem d_48_44 : decode (axt_b 48) 44 = .ok (.getfield 36, 3) := by decide +kernel
theorem d_48_47 : decode (axt_b 48) 47 = .ok (.iastore, 1) := by decide +kernel
theorem d_48_48 : decode (axt_b 48) 48 = .ok (.aload_n 1, 1) := by decide +kernel
theorem d_48_49 : decode (axt_b 48) 49 = .ok (.getfield 24, 3) := by decide +kernel
theorem d_48_52 : decode (axt_b 48) 52 = .ok (.iconst 4, 1) := by decide +kernel
theorem d_48_53 : decode (axt_b 48) 53 = .ok (.aload_n 0, 1) := by decide +kernel
theorem d_48_54 : decode (axt_b 48) 54 = .ok (.getfield 39, 3) := by decide +kernel
theorem d_48_57 : decode (axt_b 48) 57 = .ok (.iastore, 1) := by decide +kernel
theorem d_48_58 : decode (axt_b 48) 58 = .ok (.aload_n 0, 1) := by decide +kernel
theorem d_48_59 : decode (axt_b 48) 59 = .ok (.getfield 9, 3) := by decide +kernel
theorem d_48_62 : decode (axt_b 48) 62 = .ok (.iconst 0, 1) := by decide +kernel
theorem d_48_63 : decode (axt_b 48) 63 = .ok (.aload_n 1, 1) := by decide +kernel
theorem d_48_64 : decode (axt_b 48) 64 = .ok (.getfield 24, 3) := by decide +kernel
theorem d_48_67 : decode (axt_b 48) 67 = .ok (.iconst 5, 1) := by decide +kernel
theorem d_48_68 : decode (axt_b 48) 68 = .ok (.bipush 100, 2) := by decide +kernel
theorem d_48_70 : decode (axt_b 48) 70 = .ok (.aload_n 0, 1) := by decide +kernel
theorem d_48_71 : decode (axt_b 48) 71 = .ok (.getfield 15, 3) := by decide +kernel
theorem d_48_74 : decode (axt_b 48) 74 = .ok (.iconst 3, 1) := by decide +kernel
theorem d_48_75 : decode (axt_b 48) 75 = .ok (.iadd, 1) := by decide +kernel
theorem d_48_76 : decode (axt_b 48) 76 = .ok (.iconst 4, 1) := by decide +kernel
theorem d_48_77 : decode (axt_b 48) 77 = .ok (.idiv, 1) := by decide +kernel
theorem d_48_78 : decode (axt_b 48) 78 = .ok (.iadd, 1) := by decide +kernel
theorem d_48_79 : decode (axt_b 48) 79 = .ok (.invokestatic 42, 3) := by decide +kernel
theorem d_48_82 : decode (axt_b 48) 82 = .ok (.return_, 1) := by decide +kernel
theorem d_49_0 : decode (axt_b 49) 0 = .ok (.aload_n 0, 1) := by decide +kernel
theorem d_49_1 : decode (axt_b 49) 1 = .ok (.iconst 0, 1) := by decide +kernel
theorem d_49_2 : decode (axt_b 49) 2 = .ok (.putfield 99, 3) := by decide +kernel
theorem d_49_5 : decode (axt_b 49) 5 = .ok (.aload_n 0, 1) := by decide +kernel
theorem d_49_6 : decode (axt_b 49) 6 = .ok (.getfield 12, 3) := by decide +kernel
theorem d_49_9 : decode (axt_b 49) 9 = .ok (.getfield 106, 3) := by decide +kernel
theorem d_49_12 : decode (axt_b 49) 12 = .ok (.ifCond .le 25, 3) := by decide +kernel
theorem d_49_15 : decode (axt_b 49) 15 = .ok (.aload_n 0, 1) := by decide +kernel
theorem d_49_16 : decode (axt_b 49) 16 = .ok (.aload_n 0, 1) := by decide +kernel
theorem d_49_17 : decode (axt_b 49) 17 = .ok (.getfield 12, 3) := by decide +kernel
theorem d_49_20 : decode (axt_b 49) 20 = .ok (.iload_n 1, 1) := by decide +kernel
theorem d_49_21 : decode (axt_b 49) 21 = .ok (.aload_n 0, 1) := by decide +kernel
theorem d_49_22 : decode (axt_b 49) 22 = .ok (.getfield 12, 3) := by decide +kernel
theorem d_49_25 : decode (axt_b 49) 25 = .ok (.getfield 106, 3) := by decide +kernel
theorem d_49_28 : decode (axt_b 49) 28 = .ok (.invokestatic 109, 3) := by decide +kernel
theorem d_49_31 : decode (axt_b 49) 31 = .ok (.invokevirtual 115, 3) := by decide +kernel
theorem d_49_34 : decode (axt_b 49) 34 = .ok (.invokevirtual 119, 3) := by decide +kernel
theorem d_49_37 : decode (axt_b 49) 37 = .ok (.return_, 1) := by decide +kernel
theorem d_50_0 : decode (axt_b 50) 0 = .ok (.iload_n 0, 1) := by decide +kernel
theorem d_50_1 : decode (axt_b 50) 1 = .ok (.iload_n 1, 1) := by decide +kernel
theorem d_50_2 : decode (axt_b 50) 2 = .ok (.irem, 1) := by decide +kernel
theorem d_50_3 : decode (axt_b 50) 3 = .ok (.istore_n 2, 1) := by decide +kernel
theorem d_50_4 : decode (axt_b 50) 4 = .ok (.iload_n 0, 1) := by decide +kernel
theorem d_50_5 : decode (axt_b 50) 5 = .ok (.iload_n 1, 1) := by decide +kernel
theorem d_50_6 : decode (axt_b 50) 6 = .ok (.ixor, 1) := by decide +kernel
theorem d_50_7 : decode (axt_b 50) 7 = .ok (.ifCond .ge 11, 3) := by decide +kernel
theorem d_50_10 : decode (axt_b 50) 10 = .ok (.iload_n 2, 1) := by decide +kernel
theorem d_50_11 : decode (axt_b 50) 11 = .ok (.ifCond .eq 7, 3) := by decide +kernel
theorem d_50_14 : decode (axt_b 50) 14 = .ok (.iload_n 2, 1) := by decide +kernel
theorem d_50_15 : decode (axt_b 50) 15 = .ok (.iload_n 1, 1) := by decide +kernel
theorem d_50_16 : decode (axt_b 50) 16 = .ok (.iadd, 1) := by decide +kernel
theorem d_50_17 : decode (axt_b 50) 17 = .ok (.ireturn, 1) := by decide +kernel
theorem d_50_18 : decode (axt_b 50) 18 = .ok (.iload_n 2, 1) := by decide +kernel
theorem d_50_19 : decode (axt_b 50) 19 = .ok (.ireturn, 1) := by decide +kernel
theorem d_51_0 : decode (axt_b 51) 0 = .ok (.aload_n 0, 1) := by decide +kernel
theorem d_51_1 : decode (axt_b 51) 1 = .ok (.getfield 11, 3) := by decide +kernel
theorem d_51_4 : decode (axt_b 51) 4 = .ok (.iload_n 1, 1) := by decide +kernel
theorem d_51_5 : decode (axt_b 51) 5 = .ok (.aaload, 1) := by decide +kernel
theorem d_51_6 : decode (axt_b 51) 6 = .ok (.astore_n 2, 1) := by decide +kernel
theorem d_51_7 : decode (axt_b 51) 7 = .ok (.aload_n 0, 1) := by decide +kernel
theorem d_51_8 : decode (axt_b 51) 8 = .ok (.dup, 1) := by decide +kernel
theorem d_51_9 : decode (axt_b 51) 9 = .ok (.getfield 25, 3) := by decide +kernel
theorem d_51_12 : decode (axt_b 51) 12 = .ok (.iconst 1, 1) := by decide +kernel
theorem d_51_13 : decode (axt_b 51) 13 = .ok (.isub, 1) := by decide +kernel
theorem d_51_14 : decode (axt_b 51) 14 = .ok (.putfield 25, 3) := by decide +kernel
theorem d_51_17 : decode (axt_b 51) 17 = .ok (.aload_n 0, 1) := by decide +kernel
theorem d_51_18 : decode (axt_b 51) 18 = .ok (.getfield 11, 3) := by decide +kernel
theorem d_51_21 : decode (axt_b 51) 21 = .ok (.iload_n 1, 1) := by decide +kernel
theorem d_51_22 : decode (axt_b 51) 22 = .ok (.aload_n 0, 1) := by decide +kernel
theorem d_51_23 : decode (axt_b 51) 23 = .ok (.getfield 11, 3) := by decide +kernel
theorem d_51_26 : decode (axt_b 51) 26 = .ok (.aload_n 0, 1) := by decide +kernel
theorem d_51_27 : decode (axt_b 51) 27 = .ok (.getfield 25, 3) := by decide +kernel
theorem d_51_30 : decode (axt_b 51) 30 = .ok (.aaload, 1) := by decide +kernel
theorem d_51_31 : decode (axt_b 51) 31 = .ok (.aastore, 1) := by decide +kernel
theorem d_51_32 : decode (axt_b 51) 32 = .ok (.aload_n 0, 1) := by decide +kernel
theorem d_51_33 : decode (axt_b 51) 33 = .ok (.getfield 11, 3) := by decide +kernel
theorem d_51_36 : decode (axt_b 51) 36 = .ok (.aload_n 0, 1) := by decide +kernel
theorem d_51_37 : decode (axt_b 51) 37 = .ok (.getfield 25, 3) := by decide +kernel
theorem d_51_40 : decode (axt_b 51) 40 = .ok (.aload_n 0, 1) := by decide +kernel
theorem d_51_41 : decode (axt_b 51) 41 = .ok (.getfield 18, 3) := by decide +kernel
theorem d_51_44 : decode (axt_b 51) 44 = .ok (.aastore, 1) := by decide +kernel
theorem d_51_45 : decode (axt_b 51) 45 = .ok (.aload_n 0, 1) := by decide +kernel
theorem d_51_46 : decode (axt_b 51) 46 = .ok (.aload_n 2, 1) := by decide +kernel
theorem d_51_47 : decode (axt_b 51) 47 = .ok (.putfield 18, 3) := by decide +kernel
theorem d_51_50 : decode (axt_b 51) 50 = .ok (.aload_n 2, 1) := by decide +kernel
theorem d_51_51 : decode (axt_b 51) 51 = .ok (.areturn, 1) := by decide +kernel
theorem d_52_0 : decode (axt_b 52) 0 = .ok (.aload_n 1, 1) := by decide +kernel
theorem d_52_1 : decode (axt_b 52) 1 = .ok (.getfield 273, 3) := by decide +kernel
theorem d_52_4 : decode (axt_b 52) 4 = .ok (.aload_n 0, 1) := by decide +kernel
theorem d_52_5 : decode (axt_b 52) 5 = .ok (.getfield 32, 3) := by decide +kernel
theorem d_52_8 : decode (axt_b 52) 8 = .ok (.getfield 58, 3) := by decide +kernel
theorem d_52_11 : decode (axt_b 52) 11 = .ok (.if_icmp .ne 14, 3) := by decide +kernel
theorem d_52_14 : decode (axt_b 52) 14 = .ok (.aload_n 0, 1) := by decide +kernel
theorem d_52_15 : decode (axt_b 52) 15 = .ok (.getfield 41, 3) := by decide +kernel
theorem d_52_18 : decode (axt_b 52) 18 = .ok (.aload_n 1, 1) := by decide +kernel
theorem d_52_19 : decode (axt_b 52) 19 = .ok (.invokevirtual 278, 3) := by decide +kernel
theorem d_52_22 : decode (axt_b 52) 22 = .ok (.goto 50, 3) := by decide +kernel
theorem d_52_25 : decode (axt_b 52) 25 = .ok (.aload_n 1, 1) := by decide +kernel
theorem d_52_26 : decode (axt_b 52) 26 = .ok (.getfield 273, 3) := by decide +kernel
theorem d_52_29 : decode (axt_b 52) 29 = .ok (.ifCond .lt 43, 3) := by decide +kernel
theorem d_52_32 : decode (axt_b 52) 32 = .ok (.aload_n 1, 1) := by decide +kernel
theorem d_52_33 : decode (axt_b 52) 33 = .ok (.getfield 273, 3) := by decide +kernel
theorem d_52_36 : decode (axt_b 52) 36 = .ok (.aload_n 0, 1) := by decide +kernel
theorem d_52_37 : decode (axt_b 52) 37 = .ok (.getfield 63, 3) := by decide +kernel
theorem d_52_40 : decode (axt_b 52) 40 = .ok (.arraylength, 1) := by decide +kernel
theorem d_52_41 : decode (axt_b 52) 41 = .ok (.if_icmp .ge 31, 3) := by decide +kernel
theorem d_52_44 : decode (axt_b 52) 44 = .ok (.aload_n 0, 1) := by decide +kernel
theorem d_52_45 : decode (axt_b 52) 45 = .ok (.getfield 63, 3) := by decide +kernel
theorem d_52_48 : decode (axt_b 52) 48 = .ok (.aload_n 1, 1) := by decide +kernel
theorem d_52_49 : decode (axt_b 52) 49 = .ok (.getfield 273, 3) := by decide +kernel
theorem d_52_52 : decode (axt_b 52) 52 = .ok (.aaload, 1) := by decide +kernel
theorem d_52_53 : decode (axt_b 52) 53 = .ok (.getfield 131, 3) := by decide +kernel
theorem d_52_56 : decode (axt_b 52) 56 = .ok (.ifCond .eq 16, 3) := by decide +kernel
theorem d_52_59 : decode (axt_b 52) 59 = .ok (.aload_n 0, 1) := by decide +kernel
theorem d_52_60 : decode (axt_b 52) 60 = .ok (.getfield 63, 3) := by decide +kernel
theorem d_52_63 : decode (axt_b 52) 63 = .ok (.aload_n 1, 1) := by decide +kernel
theorem d_52_64 : decode (axt_b 52) 64 = .ok (.getfield 273, 3) := by decide +kernel
theorem d_52_67 : decode (axt_b 52) 67 = .ok (.aaload, 1) := by decide +kernel
theorem d_52_68 : decode (axt_b 52) 68 = .ok (.aload_n 1, 1) := by decide +kernel
theorem d_52_69 : decode (axt_b 52) 69 = .ok (.invokevirtual 281, 3) := by decide +kernel
theorem d_52_72 : decode (axt_b 52) 72 = .ok (.return_, 1) := by decide +kernel
theorem d_53_0 : decode (axt_b 53) 0 = .ok (.aload_n 1, 1) := by decide +kernel
theorem d_53_1 : decode (axt_b 53) 1 = .ok (.getfield 137, 3) := by decide +kernel
theorem d_53_4 : decode (axt_b 53) 4 = .ok (.iconst 1, 1) := by decide +kernel
theorem d_53_5 : decode (axt_b 53) 5 = .ok (.if_icmp .ne 32, 3) := by decide +kernel
theorem d_53_8 : decode (axt_b 53) 8 = .ok (.aload_n 1, 1) := by decide +kernel
theorem d_53_9 : decode (axt_b 53) 9 = .ok (.getfield 138, 3) := by decide +kernel
theorem d_53_12 : decode (axt_b 53) 12 = .ok (.aload_n 0, 1) := by decide +kernel
theorem d_53_13 : decode (axt_b 53) 13 = .ok (.getfield 34, 3) := by decide +kernel
theorem d_53_16 : decode (axt_b 53) 16 = .ok (.if_icmp .ne 21, 3) := by decide +kernel
theorem d_53_19 : decode (axt_b 53) 19 = .ok (.aload_n 0, 1) := by decide +kernel
theorem d_53_20 : decode (axt_b 53) 20 = .ok (.dup, 1) := by decide +kernel
theorem d_53_21 : decode (axt_b 53) 21 = .ok (.getfield 53, 3) := by decide +kernel
theorem d_53_24 : decode (axt_b 53) 24 = .ok (.iconst 1, 1) := by decide +kernel
theorem d_53_25 : decode (axt_b 53) 25 = .ok (.aload_n 1, 1) := by decide +kernel
theorem d_53_26 : decode (axt_b 53) 26 = .ok (.getfield 139, 3) := by decide +kernel
theorem d_53_29 : decode (axt_b 53) 29 = .ok (.ishl, 1) := by decide +kernel
theorem d_53_30 : decode (axt_b 53) 30 = .ok (.ior, 1) := by decide +kernel
theorem d_53_31 : decode (axt_b 53) 31 = .ok (.putfield 53, 3) := by decide +kernel
theorem d_53_34 : decode (axt_b 53) 34 = .ok (.goto 128, 3) := by decide +kernel
theorem d_53_37 : decode (axt_b 53) 37 = .ok (.aload_n 1, 1) := by decide +kernel
theorem d_53_38 : decode (axt_b 53) 38 = .ok (.getfield 137, 3) := by decide +kernel
theorem d_53_41 : decode (axt_b 53) 41 = .ok (.iconst 3, 1) := by decide +kernel
theorem d_53_42 : decode (axt_b 53) 42 = .ok (.if_icmp .ne 120, 3) := by decide +kernel
theorem d_53_45 : decode (axt_b 53) 45 = .ok (.aload_n 1, 1) := by decide +kernel
theorem d_53_46 : decode (axt_b 53) 46 = .ok (.getfield 122, 3) := by decide +kernel
theorem d_53_49 : decode (axt_b 53) 49 = .ok (.aload_n 0, 1) := by decide +kernel
theorem d_53_50 : decode (axt_b 53) 50 = .ok (.getfield 106, 3) := by decide +kernel
theorem d_53_53 : decode (axt_b 53) 53 = .ok (.if_icmp .ne 109, 3) := by decide +kernel
theorem d_53_56 : decode (axt_b 53) 56 = .ok (.aload_n 0, 1) := by decide +kernel
theorem d_53_57 : decode (axt_b 53) 57 = .ok (.getfield 106, 3) := by decide +kernel
theorem d_53_60 : decode (axt_b 53) 60 = .ok (.aload_n 0, 1) := by decide +kernel
theorem d_53_61 : decode (axt_b 53) 61 = .ok (.getfield 75, 3) := by decide +kernel
theorem d_53_64 : decode (axt_b 53) 64 = .ok (.if_icmp .ge 98, 3) := by decide +kernel
theorem d_53_67 : decode (axt_b 53) 67 = .ok (.aload_n 0, 1) := by decide +kernel
theorem d_53_68 : decode (axt_b 53) 68 = .ok (.getfield 23, 3) := by decide +kernel
theorem d_53_71 : decode (axt_b 53) 71 = .ok (.aload_n 0, 1) := by decide +kernel
theorem d_53_72 : decode (axt_b 53) 72 = .ok (.getfield 106, 3) := by decide +kernel
theorem d_53_75 : decode (axt_b 53) 75 = .ok (.aload_n 0, 1) := by decide +kernel
theorem d_53_76 : decode (axt_b 53) 76 = .ok (.getfield 23, 3) := by decide +kernel
theorem d_53_79 : decode (axt_b 53) 79 = .ok (.arraylength, 1) := by decide +kernel
theorem d_53_80 : decode (axt_b 53) 80 = .ok (.irem, 1) := by decide +kernel
theorem d_53_81 : decode (axt_b 53) 81 = .ok (.aaload, 1) := by decide +kernel
theorem d_53_82 : decode (axt_b 53) 82 = .ok (.astore_n 2, 1) := by decide +kernel
theorem d_53_83 : decode (axt_b 53) 83 = .ok (.aload_n 2, 1) := by decide +kernel
theorem d_53_84 : decode (axt_b 53) 84 = .ok (.aload_n 1, 1) := by decide +kernel
theorem d_53_85 : decode (axt_b 53) 85 = .ok (.getfield 142, 3) := by decide +kernel
theorem d_53_88 : decode (axt_b 53) 88 = .ok (.putfield 94, 3) := by decide +kernel
theorem d_53_91 : decode (axt_b 53) 91 = .ok (.aload_n 1, 1) := by decide +kernel
theorem d_53_92 : decode (axt_b 53) 92 = .ok (.getfield 145, 3) := by decide +kernel
theorem d_53_95 : decode (axt_b 53) 95 = .ok (.iconst 0, 1) := by decide +kernel
theorem d_53_96 : decode (axt_b 53) 96 = .ok (.aload_n 2, 1) := by decide +kernel
theorem d_53_97 : decode (axt_b 53) 97 = .ok (.getfield 97, 3) := by decide +kernel
theorem d_53_100 : decode (axt_b 53) 100 = .ok (.bipush 100, 2) := by decide +kernel
theorem d_53_102 : decode (axt_b 53) 102 = .ok (.aload_n 1, 1) := by decide +kernel
theorem d_53_103 : decode (axt_b 53) 103 = .ok (.getfield 142, 3) := by decide +kernel
theorem d_53_106 : decode (axt_b 53) 106 = .ok (.iconst 3, 1) := by decide +kernel
theorem d_53_107 : decode (axt_b 53) 107 = .ok (.iadd, 1) := by decide +kernel
theorem d_53_108 : decode (axt_b 53) 108 = .ok (.iconst 4, 1) := by decide +kernel
theorem d_53_109 : decode (axt_b 53) 109 = .ok (.idiv, 1) := by decide +kernel
theorem d_53_110 : decode (axt_b 53) 110 = .ok (.invokestatic 100, 3) := by decide +kernel
theorem d_53_113 : decode (axt_b 53) 113 = .ok (.aload_n 0, 1) := by decide +kernel
theorem d_53_114 : decode (axt_b 53) 114 = .ok (.getfield 27, 3) := by decide +kernel
theorem d_53_117 : decode (axt_b 53) 117 = .ok (.aload_n 0, 1) := by decide +kernel
theorem d_53_118 : decode (axt_b 53) 118 = .ok (.getfield 106, 3) := by decide +kernel
theorem d_53_121 : decode (axt_b 53) 121 = .ok (.aload_n 1, 1) := by decide +kernel
theorem d_53_122 : decode (axt_b 53) 122 = .ok (.getfield 127, 3) := by decide +kernel
theorem d_53_125 : decode (axt_b 53) 125 = .ok (.iastore, 1) := by decide +kernel
theorem d_53_126 : decode (axt_b 53) 126 = .ok (.aload_n 2, 1) := by decide +kernel
theorem d_53_127 : decode (axt_b 53) 127 = .ok (.invokevirtual 148, 3) := by decide +kernel
theorem d_53_130 : decode (axt_b 53) 130 = .ok (.ifCond .eq 18, 3) := by decide +kernel
theorem d_53_133 : decode (axt_b 53) 133 = .ok (.aload_n 1, 1) := by decide +kernel
theorem d_53_134 : decode (axt_b 53) 134 = .ok (.getfield 127, 3) := by decide +kernel
theorem d_53_137 : decode (axt_b 53) 137 = .ok (.ifCond .lt 11, 3) := by decide +kernel
theorem d_53_140 : decode (axt_b 53) 140 = .ok (.aload_n 0, 1) := by decide +kernel
theorem d_53_141 : decode (axt_b 53) 141 = .ok (.aload_n 0, 1) := by decide +kernel
theorem d_53_142 : decode (axt_b 53) 142 = .ok (.getfield 106, 3) := by decide +kernel
theorem d_53_145 : decode (axt_b 53) 145 = .ok (.putfield 30, 3) := by decide +kernel
theorem d_53_148 : decode (axt_b 53) 148 = .ok (.aload_n 0, 1) := by decide +kernel
theorem d_53_149 : decode (axt_b 53) 149 = .ok (.dup, 1) := by decide +kernel
theorem d_53_150 : decode (axt_b 53) 150 = .ok (.getfield 106, 3) := by decide +kernel
theorem d_53_153 : decode (axt_b 53) 153 = .ok (.iconst 1, 1) := by decide +kernel
theorem d_53_154 : decode (axt_b 53) 154 = .ok (.iadd, 1) := by decide +kernel
theorem d_53_155 : decode (axt_b 53) 155 = .ok (.putfield 106, 3) := by decide +kernel
theorem d_53_158 : decode (axt_b 53) 158 = .ok (.aload_n 0, 1) := by decide +kernel
theorem d_53_159 : decode (axt_b 53) 159 = .ok (.invokevirtual 109, 3) := by decide +kernel
theorem d_53_162 : decode (axt_b 53) 162 = .ok (.return_, 1) := by decide +kernel
theorem d_54_0 : decode (axt_b 54) 0 = .ok (.aload_n 0, 1) := by decide +kernel
theorem d_54_1 : decode (axt_b 54) 1 = .ok (.getfield 27, 3) := by decide +kernel
theorem d_54_4 : decode (axt_b 54) 4 = .ok (.iconst 4, 1) := by decide +kernel
theorem d_54_5 : decode (axt_b 54) 5 = .ok (.if_icmp .eq 25, 3) := by decide +kernel
theorem d_54_8 : decode (axt_b 54) 8 = .ok (.aload_n 0, 1) := by decide +kernel
theorem d_54_9 : decode (axt_b 54) 9 = .ok (.getfield 27, 3) := by decide +kernel
theorem d_54_12 : decode (axt_b 54) 12 = .ok (.bipush 8, 2) := by decide +kernel
theorem d_54_14 : decode (axt_b 54) 14 = .ok (.if_icmp .eq 16, 3) := by decide +kernel
theorem d_54_17 : decode (axt_b 54) 17 = .ok (.aload_n 0, 1) := by decide +kernel
theorem d_54_18 : decode (axt_b 54) 18 = .ok (.getfield 27, 3) := by decide +kernel
theorem d_54_21 : decode (axt_b 54) 21 = .ok (.bipush 9, 2) := by decide +kernel
theorem d_54_23 : decode (axt_b 54) 23 = .ok (.if_icmp .eq 7, 3) := by decide +kernel
theorem d_54_26 : decode (axt_b 54) 26 = .ok (.iconst 1, 1) := by decide +kernel
theorem d_54_27 : decode (axt_b 54) 27 = .ok (.goto 4, 3) := by decide +kernel
theorem d_54_30 : decode (axt_b 54) 30 = .ok (.iconst 0, 1) := by decide +kernel
theorem d_54_31 : decode (axt_b 54) 31 = .ok (.ireturn, 1) := by decide +kernel
theorem d_55_0 : decode (axt_b 55) 0 = .ok (.aload_n 1, 1) := by decide +kernel
theorem d_55_1 : decode (axt_b 55) 1 = .ok (.getfield 115, 3) := by decide +kernel
theorem d_55_4 : decode (axt_b 55) 4 = .ok (.aload_n 0, 1) := by decide +kernel
theorem d_55_5 : decode (axt_b 55) 5 = .ok (.getfield 88, 3) := by decide +kernel
theorem d_55_8 : decode (axt_b 55) 8 = .ok (.if_icmp .ge 4, 3) := by decide +kernel
theorem d_55_11 : decode (axt_b 55) 11 = .ok (.return_, 1) := by decide +kernel
theorem d_55_12 : decode (axt_b 55) 12 = .ok (.aload_n 1, 1) := by decide +kernel
theorem d_55_13 : decode (axt_b 55) 13 = .ok (.getfield 115, 3) := by decide +kernel
theorem d_55_16 : decode (axt_b 55) 16 = .ok (.aload_n 0, 1) := by decide +kernel
theorem d_55_17 : decode (axt_b 55) 17 = .ok (.getfield 88, 3) := by decide +kernel
theorem d_55_20 : decode (axt_b 55) 20 = .ok (.if_icmp .le 15, 3) := by decide +kernel
theorem d_55_23 : decode (axt_b 55) 23 = .ok (.aload_n 0, 1) := by decide +kernel
theorem d_55_24 : decode (axt_b 55) 24 = .ok (.aload_n 1, 1) := by decide +kernel
theorem d_55_25 : decode (axt_b 55) 25 = .ok (.getfield 115, 3) := by decide +kernel
theorem d_55_28 : decode (axt_b 55) 28 = .ok (.aload_n 1, 1) := by decide +kernel
theorem d_55_29 : decode (axt_b 55) 29 = .ok (.getfield 118, 3) := by decide +kernel
theorem d_55_32 : decode (axt_b 55) 32 = .ok (.invokevirtual 56, 3) := by decide +kernel
theorem d_55_35 : decode (axt_b 55) 35 = .ok (.aload_n 1, 1) := by decide +kernel
theorem d_55_36 : decode (axt_b 55) 36 = .ok (.getfield 119, 3) := by decide +kernel
theorem d_55_39 : decode (axt_b 55) 39 = .ok (.tableswitch 165 0 12 #[65, 165, 165, 165, 96, 165, 107, 165, 165, 128, 149, 165, 157], 65) := by decide +kernel
theorem d_55_104 : decode (axt_b 55) 104 = .ok (.aload_n 0, 1) := by decide +kernel
theorem d_55_105 : decode (axt_b 55) 105 = .ok (.getfield 30, 3) := by decide +kernel
theorem d_55_108 : decode (axt_b 55) 108 = .ok (.iconst 1, 1) := by decide +kernel
theorem d_55_109 : decode (axt_b 55) 109 = .ok (.aload_n 0, 1) := by decide +kernel
theorem d_55_110 : decode (axt_b 55) 110 = .ok (.getfield 22, 3) := by decide +kernel
theorem d_55_113 : decode (axt_b 55) 113 = .ok (.aload_n 0, 1) := by decide +kernel
theorem d_55_114 : decode (axt_b 55) 114 = .ok (.getfield 26, 3) := by decide +kernel
theorem d_55_117 : decode (axt_b 55) 117 = .ok (.getfield 122, 3) := by decide +kernel
theorem d_55_120 : decode (axt_b 55) 120 = .ok (.aload_n 0, 1) := by decide +kernel
theorem d_55_121 : decode (axt_b 55) 121 = .ok (.getfield 88, 3) := by decide +kernel
theorem d_55_124 : decode (axt_b 55) 124 = .ok (.aload_n 0, 1) := by decide +kernel
theorem d_55_125 : decode (axt_b 55) 125 = .ok (.getfield 91, 3) := by decide +kernel
theorem d_55_128 : decode (axt_b 55) 128 = .ok (.invokevirtual 125, 3) := by decide +kernel
theorem d_55_131 : decode (axt_b 55) 131 = .ok (.pop, 1) := by decide +kernel
theorem d_55_132 : decode (axt_b 55) 132 = .ok (.goto 94, 3) := by decide +kernel
theorem d_55_135 : decode (axt_b 55) 135 = .ok (.aload_n 0, 1) := by decide +kernel
theorem d_55_136 : decode (axt_b 55) 136 = .ok (.aload_n 1, 1) := by decide +kernel
theorem d_55_137 : decode (axt_b 55) 137 = .ok (.getfield 131, 3) := by decide +kernel
theorem d_55_140 : decode (axt_b 55) 140 = .ok (.invokevirtual 134, 3) := by decide +kernel
theorem d_55_143 : decode (axt_b 55) 143 = .ok (.goto 83, 3) := by decide +kernel
theorem d_55_146 : decode (axt_b 55) 146 = .ok (.aload_n 0, 1) := by decide +kernel
theorem d_55_147 : decode (axt_b 55) 147 = .ok (.bipush 7, 2) := by decide +kernel
theorem d_55_149 : decode (axt_b 55) 149 = .ok (.aload_n 1, 1) := by decide +kernel
theorem d_55_150 : decode (axt_b 55) 150 = .ok (.getfield 137, 3) := by decide +kernel
theorem d_55_153 : decode (axt_b 55) 153 = .ok (.aload_n 1, 1) := by decide +kernel
theorem d_55_154 : decode (axt_b 55) 154 = .ok (.getfield 131, 3) := by decide +kernel
theorem d_55_157 : decode (axt_b 55) 157 = .ok (.aload_n 1, 1) := by decide +kernel
theorem d_55_158 : decode (axt_b 55) 158 = .ok (.getfield 131, 3) := by decide +kernel
theorem d_55_161 : decode (axt_b 55) 161 = .ok (.invokevirtual 140, 3) := by decide +kernel
theorem d_55_164 : decode (axt_b 55) 164 = .ok (.goto 62, 3) := by decide +kernel
theorem d_55_167 : decode (axt_b 55) 167 = .ok (.aload_n 0, 1) := by decide +kernel
theorem d_55_168 : decode (axt_b 55) 168 = .ok (.bipush 10, 2) := by decide +kernel
theorem d_55_170 : decode (axt_b 55) 170 = .ok (.aload_n 1, 1) := by decide +kernel
theorem d_55_171 : decode (axt_b 55) 171 = .ok (.getfield 137, 3) := by decide +kernel
theorem d_55_174 : decode (axt_b 55) 174 = .ok (.aload_n 1, 1) := by decide +kernel
theorem d_55_175 : decode (axt_b 55) 175 = .ok (.getfield 144, 3) := by decide +kernel
theorem d_55_178 : decode (axt_b 55) 178 = .ok (.aload_n 1, 1) := by decide +kernel
theorem d_55_179 : decode (axt_b 55) 179 = .ok (.getfield 131, 3) := by decide +kernel
theorem d_55_182 : decode (axt_b 55) 182 = .ok (.invokevirtual 140, 3) := by decide +kernel
theorem d_55_185 : decode (axt_b 55) 185 = .ok (.goto 41, 3) := by decide +kernel
theorem d_55_188 : decode (axt_b 55) 188 = .ok (.aload_n 0, 1) := by decide +kernel
theorem d_55_189 : decode (axt_b 55) 189 = .ok (.aload_n 1, 1) := by decide +kernel
theorem d_55_190 : decode (axt_b 55) 190 = .ok (.invokevirtual 147, 3) := by decide +kernel
theorem d_55_193 : decode (axt_b 55) 193 = .ok (.goto 33, 3) := by decide +kernel
theorem d_55_196 : decode (axt_b 55) 196 = .ok (.aload_n 0, 1) := by decide +kernel
theorem d_55_197 : decode (axt_b 55) 197 = .ok (.aload_n 1, 1) := by decide +kernel
theorem d_55_198 : decode (axt_b 55) 198 = .ok (.invokevirtual 151, 3) := by decide +kernel
theorem d_55_201 : decode (axt_b 55) 201 = .ok (.goto 25, 3) := by decide +kernel
theorem d_55_204 : decode (axt_b 55) 204 = .ok (.aload_n 0, 1) := by decide +kernel
theorem d_55_205 : decode (axt_b 55) 205 = .ok (.invokevirtual 94, 3) := by decide +kernel
theorem d_55_208 : decode (axt_b 55) 208 = .ok (.ifCond .eq 18, 3) := by decide +kernel
theorem d_55_211 : decode (axt_b 55) 211 = .ok (.aload_n 0, 1) := by decide +kernel
theorem d_55_212 : decode (axt_b 55) 212 = .ok (.getfield 39, 3) := by decide +kernel
theorem d_55_215 : decode (axt_b 55) 215 = .ok (.aload_n 1, 1) := by decide +kernel
theorem d_55_216 : decode (axt_b 55) 216 = .ok (.invokevirtual 154, 3) := by decide +kernel
theorem d_55_219 : decode (axt_b 55) 219 = .ok (.aload_n 0, 1) := by decide +kernel
theorem d_55_220 : decode (axt_b 55) 220 = .ok (.getfield 39, 3) := by decide +kernel
theorem d_55_223 : decode (axt_b 55) 223 = .ok (.invokevirtual 112, 3) := by decide +kernel
theorem d_55_226 : decode (axt_b 55) 226 = .ok (.return_, 1) := by decide +kernel
theorem d_56_0 : decode (axt_b 56) 0 = .ok (.aload_n 0, 1) := by decide +kernel
theorem d_56_1 : decode (axt_b 56) 1 = .ok (.getfield 30, 3) := by decide +kernel
theorem d_56_4 : decode (axt_b 56) 4 = .ok (.iconst 5, 1) := by decide +kernel
theorem d_56_5 : decode (axt_b 56) 5 = .ok (.aload_n 0, 1) := by decide +kernel
theorem d_56_6 : decode (axt_b 56) 6 = .ok (.getfield 22, 3) := by decide +kernel
theorem d_56_9 : decode (axt_b 56) 9 = .ok (.iload_n 1, 1) := by decide +kernel
theorem d_56_10 : decode (axt_b 56) 10 = .ok (.aload_n 0, 1) := by decide +kernel
theorem d_56_11 : decode (axt_b 56) 11 = .ok (.getfield 88, 3) := by decide +kernel
theorem d_56_14 : decode (axt_b 56) 14 = .ok (.aload_n 0, 1) := by decide +kernel
theorem d_56_15 : decode (axt_b 56) 15 = .ok (.getfield 91, 3) := by decide +kernel
theorem d_56_18 : decode (axt_b 56) 18 = .ok (.invokevirtual 125, 3) := by decide +kernel
theorem d_56_21 : decode (axt_b 56) 21 = .ok (.astore_n 2, 1) := by decide +kernel
theorem d_56_22 : decode (axt_b 56) 22 = .ok (.iconst 0, 1) := by decide +kernel
theorem d_56_23 : decode (axt_b 56) 23 = .ok (.istore_n 3, 1) := by decide +kernel
theorem d_56_24 : decode (axt_b 56) 24 = .ok (.iload_n 3, 1) := by decide +kernel
theorem d_56_25 : decode (axt_b 56) 25 = .ok (.sipush 280, 3) := by decide +kernel
theorem d_56_28 : decode (axt_b 56) 28 = .ok (.if_icmp .ge 54, 3) := by decide +kernel
theorem d_56_31 : decode (axt_b 56) 31 = .ok (.aload_n 0, 1) := by decide +kernel
theorem d_56_32 : decode (axt_b 56) 32 = .ok (.getfield 18, 3) := by decide +kernel
theorem d_56_35 : decode (axt_b 56) 35 = .ok (.iload_n 3, 1) := by decide +kernel
theorem d_56_36 : decode (axt_b 56) 36 = .ok (.iaload, 1) := by decide +kernel
theorem d_56_37 : decode (axt_b 56) 37 = .ok (.ifCond .lt 39, 3) := by decide +kernel
theorem d_56_40 : decode (axt_b 56) 40 = .ok (.aload_n 0, 1) := by decide +kernel
theorem d_56_41 : decode (axt_b 56) 41 = .ok (.getfield 12, 3) := by decide +kernel
theorem d_56_44 : decode (axt_b 56) 44 = .ok (.iload_n 3, 1) := by decide +kernel
theorem d_56_45 : decode (axt_b 56) 45 = .ok (.invokevirtual 157, 3) := by decide +kernel
theorem d_56_48 : decode (axt_b 56) 48 = .ok (.ifCond .ne 28, 3) := by decide +kernel
theorem d_56_51 : decode (axt_b 56) 51 = .ok (.aload_n 2, 1) := by decide +kernel
theorem d_56_52 : decode (axt_b 56) 52 = .ok (.getfield 160, 3) := by decide +kernel
theorem d_56_55 : decode (axt_b 56) 55 = .ok (.aload_n 2, 1) := by decide +kernel
theorem d_56_56 : decode (axt_b 56) 56 = .ok (.getfield 163, 3) := by decide +kernel
theorem d_56_59 : decode (axt_b 56) 59 = .ok (.aload_n 0, 1) := by decide +kernel
theorem d_56_60 : decode (axt_b 56) 60 = .ok (.getfield 18, 3) := by decide +kernel
theorem d_56_63 : decode (axt_b 56) 63 = .ok (.iload_n 3, 1) := by decide +kernel
theorem d_56_64 : decode (axt_b 56) 64 = .ok (.iaload, 1) := by decide +kernel
theorem d_56_65 : decode (axt_b 56) 65 = .ok (.iastore, 1) := by decide +kernel
theorem d_56_66 : decode (axt_b 56) 66 = .ok (.aload_n 2, 1) := by decide +kernel
theorem d_56_67 : decode (axt_b 56) 67 = .ok (.dup, 1) := by decide +kernel
theorem d_56_68 : decode (axt_b 56) 68 = .ok (.getfield 163, 3) := by decide +kernel
theorem d_56_71 : decode (axt_b 56) 71 = .ok (.iconst 1, 1) := by decide +kernel
theorem d_56_72 : decode (axt_b 56) 72 = .ok (.iadd, 1) := by decide +kernel
theorem d_56_73 : decode (axt_b 56) 73 = .ok (.putfield 163, 3) := by decide +kernel
theorem d_56_76 : decode (axt_b 56) 76 = .ok (.iinc 3 1, 3) := by decide +kernel
theorem d_56_79 : decode (axt_b 56) 79 = .ok (.goto (-55), 3) := by decide +kernel
theorem d_56_82 : decode (axt_b 56) 82 = .ok (.aload_n 2, 1) := by decide +kernel
theorem d_56_83 : decode (axt_b 56) 83 = .ok (.aload_n 0, 1) := by decide +kernel
theorem d_56_84 : decode (axt_b 56) 84 = .ok (.getfield 12, 3) := by decide +kernel
theorem d_56_87 : decode (axt_b 56) 87 = .ok (.getfield 166, 3) := by decide +kernel
theorem d_56_90 : decode (axt_b 56) 90 = .ok (.putfield 144, 3) := by decide +kernel
theorem d_56_93 : decode (axt_b 56) 93 = .ok (.return_, 1) := by decide +kernel


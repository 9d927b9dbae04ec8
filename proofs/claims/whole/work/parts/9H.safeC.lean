/-! Leader: areSafe, poll, tell, fetchStripe, putBlock, push, sendTo, mend for every state, exactly -/
theorem d_119_0 : decode (axt_b 119) 0 = .ok (.iload_n 1, 1) := by decide +kernel
theorem d_119_1 : decode (axt_b 119) 1 = .ok (.istore_n 3, 1) := by decide +kernel
theorem d_119_2 : decode (axt_b 119) 2 = .ok (.iload_n 3, 1) := by decide +kernel
theorem d_119_3 : decode (axt_b 119) 3 = .ok (.iload_n 2, 1) := by decide +kernel
theorem d_119_4 : decode (axt_b 119) 4 = .ok (.if_icmp .ge 67, 3) := by decide +kernel
theorem d_119_7 : decode (axt_b 119) 7 = .ok (.aload_n 0, 1) := by decide +kernel
theorem d_119_8 : decode (axt_b 119) 8 = .ok (.getfield 49, 3) := by decide +kernel
theorem d_119_11 : decode (axt_b 119) 11 = .ok (.getfield 180, 3) := by decide +kernel
theorem d_119_14 : decode (axt_b 119) 14 = .ok (.iload_n 3, 1) := by decide +kernel
theorem d_119_15 : decode (axt_b 119) 15 = .ok (.sipush 128, 3) := by decide +kernel
theorem d_119_18 : decode (axt_b 119) 18 = .ok (.imul, 1) := by decide +kernel
theorem d_119_19 : decode (axt_b 119) 19 = .ok (.invokestatic 183, 3) := by decide +kernel
theorem d_119_22 : decode (axt_b 119) 22 = .ok (.ifCond .eq 43, 3) := by decide +kernel
theorem d_119_25 : decode (axt_b 119) 25 = .ok (.aload_n 0, 1) := by decide +kernel
theorem d_119_26 : decode (axt_b 119) 26 = .ok (.getfield 40, 3) := by decide +kernel
theorem d_119_29 : decode (axt_b 119) 29 = .ok (.aload_n 0, 1) := by decide +kernel
theorem d_119_30 : decode (axt_b 119) 30 = .ok (.getfield 49, 3) := by decide +kernel
theorem d_119_33 : decode (axt_b 119) 33 = .ok (.getfield 180, 3) := by decide +kernel
theorem d_119_36 : decode (axt_b 119) 36 = .ok (.iload_n 3, 1) := by decide +kernel
theorem d_119_37 : decode (axt_b 119) 37 = .ok (.sipush 128, 3) := by decide +kernel
theorem d_119_40 : decode (axt_b 119) 40 = .ok (.imul, 1) := by decide +kernel
theorem d_119_41 : decode (axt_b 119) 41 = .ok (.iconst 1, 1) := by decide +kernel
theorem d_119_42 : decode (axt_b 119) 42 = .ok (.iadd, 1) := by decide +kernel
theorem d_119_43 : decode (axt_b 119) 43 = .ok (.iaload, 1) := by decide +kernel
theorem d_119_44 : decode (axt_b 119) 44 = .ok (.invokevirtual 189, 3) := by decide +kernel
theorem d_119_47 : decode (axt_b 119) 47 = .ok (.istore 4, 2) := by decide +kernel
theorem d_119_49 : decode (axt_b 119) 49 = .ok (.iload 4, 2) := by decide +kernel
theorem d_119_51 : decode (axt_b 119) 51 = .ok (.ifCond .lt 12, 3) := by decide +kernel
theorem d_119_54 : decode (axt_b 119) 54 = .ok (.aload_n 0, 1) := by decide +kernel
theorem d_119_55 : decode (axt_b 119) 55 = .ok (.iload 4, 2) := by decide +kernel
theorem d_119_57 : decode (axt_b 119) 57 = .ok (.invokevirtual 192, 3) := by decide +kernel
theorem d_119_60 : decode (axt_b 119) 60 = .ok (.ifCond .ne 5, 3) := by decide +kernel
theorem d_119_63 : decode (axt_b 119) 63 = .ok (.iconst 0, 1) := by decide +kernel
theorem d_119_64 : decode (axt_b 119) 64 = .ok (.ireturn, 1) := by decide +kernel
theorem d_119_65 : decode (axt_b 119) 65 = .ok (.iinc 3 1, 3) := by decide +kernel
theorem d_119_68 : decode (axt_b 119) 68 = .ok (.goto (-66), 3) := by decide +kernel
theorem d_119_71 : decode (axt_b 119) 71 = .ok (.iconst 1, 1) := by decide +kernel
theorem d_119_72 : decode (axt_b 119) 72 = .ok (.ireturn, 1) := by decide +kernel
theorem d_123_0 : decode (axt_b 123) 0 = .ok (.aload_n 0, 1) := by decide +kernel
theorem d_123_1 : decode (axt_b 123) 1 = .ok (.getfield 26, 3) := by decide +kernel
theorem d_123_4 : decode (axt_b 123) 4 = .ok (.iconst 3, 1) := by decide +kernel
theorem d_123_5 : decode (axt_b 123) 5 = .ok (.aload_n 0, 1) := by decide +kernel
theorem d_123_6 : decode (axt_b 123) 6 = .ok (.getfield 18, 3) := by decide +kernel
theorem d_123_9 : decode (axt_b 123) 9 = .ok (.aload_n 0, 1) := by decide +kernel
theorem d_123_10 : decode (axt_b 123) 10 = .ok (.getfield 22, 3) := by decide +kernel
theorem d_123_13 : decode (axt_b 123) 13 = .ok (.getfield 98, 3) := by decide +kernel
theorem d_123_16 : decode (axt_b 123) 16 = .ok (.aload_n 0, 1) := by decide +kernel
theorem d_123_17 : decode (axt_b 123) 17 = .ok (.getfield 56, 3) := by decide +kernel
theorem d_123_20 : decode (axt_b 123) 20 = .ok (.aload_n 0, 1) := by decide +kernel
theorem d_123_21 : decode (axt_b 123) 21 = .ok (.getfield 59, 3) := by decide +kernel
theorem d_123_24 : decode (axt_b 123) 24 = .ok (.invokevirtual 101, 3) := by decide +kernel
theorem d_123_27 : decode (axt_b 123) 27 = .ok (.astore_n 1, 1) := by decide +kernel
theorem d_123_28 : decode (axt_b 123) 28 = .ok (.aload_n 1, 1) := by decide +kernel
theorem d_123_29 : decode (axt_b 123) 29 = .ok (.aload_n 0, 1) := by decide +kernel
theorem d_123_30 : decode (axt_b 123) 30 = .ok (.getfield 49, 3) := by decide +kernel
theorem d_123_33 : decode (axt_b 123) 33 = .ok (.getfield 75, 3) := by decide +kernel
theorem d_123_36 : decode (axt_b 123) 36 = .ok (.putfield 195, 3) := by decide +kernel
theorem d_123_39 : decode (axt_b 123) 39 = .ok (.aload_n 1, 1) := by decide +kernel
theorem d_123_40 : decode (axt_b 123) 40 = .ok (.aload_n 0, 1) := by decide +kernel
theorem d_123_41 : decode (axt_b 123) 41 = .ok (.getfield 49, 3) := by decide +kernel
theorem d_123_44 : decode (axt_b 123) 44 = .ok (.getfield 198, 3) := by decide +kernel
theorem d_123_47 : decode (axt_b 123) 47 = .ok (.putfield 201, 3) := by decide +kernel
theorem d_123_50 : decode (axt_b 123) 50 = .ok (.aload_n 1, 1) := by decide +kernel
theorem d_123_51 : decode (axt_b 123) 51 = .ok (.aload_n 0, 1) := by decide +kernel
theorem d_123_52 : decode (axt_b 123) 52 = .ok (.getfield 49, 3) := by decide +kernel
theorem d_123_55 : decode (axt_b 123) 55 = .ok (.invokevirtual 204, 3) := by decide +kernel
theorem d_123_58 : decode (axt_b 123) 58 = .ok (.putfield 208, 3) := by decide +kernel
theorem d_123_61 : decode (axt_b 123) 61 = .ok (.aload_n 0, 1) := by decide +kernel
theorem d_123_62 : decode (axt_b 123) 62 = .ok (.getfield 49, 3) := by decide +kernel
theorem d_123_65 : decode (axt_b 123) 65 = .ok (.getfield 211, 3) := by decide +kernel
theorem d_123_68 : decode (axt_b 123) 68 = .ok (.getfield 214, 3) := by decide +kernel
theorem d_123_71 : decode (axt_b 123) 71 = .ok (.bipush 100, 2) := by decide +kernel
theorem d_123_73 : decode (axt_b 123) 73 = .ok (.aload_n 1, 1) := by decide +kernel
theorem d_123_74 : decode (axt_b 123) 74 = .ok (.getfield 219, 3) := by decide +kernel
theorem d_123_77 : decode (axt_b 123) 77 = .ok (.iconst 0, 1) := by decide +kernel
theorem d_123_78 : decode (axt_b 123) 78 = .ok (.aload_n 1, 1) := by decide +kernel
theorem d_123_79 : decode (axt_b 123) 79 = .ok (.getfield 208, 3) := by decide +kernel
theorem d_123_82 : decode (axt_b 123) 82 = .ok (.iconst 3, 1) := by decide +kernel
theorem d_123_83 : decode (axt_b 123) 83 = .ok (.iadd, 1) := by decide +kernel
theorem d_123_84 : decode (axt_b 123) 84 = .ok (.iconst 4, 1) := by decide +kernel
theorem d_123_85 : decode (axt_b 123) 85 = .ok (.idiv, 1) := by decide +kernel
theorem d_123_86 : decode (axt_b 123) 86 = .ok (.invokestatic 222, 3) := by decide +kernel
theorem d_123_89 : decode (axt_b 123) 89 = .ok (.aload_n 0, 1) := by decide +kernel
theorem d_123_90 : decode (axt_b 123) 90 = .ok (.getfield 49, 3) := by decide +kernel
theorem d_123_93 : decode (axt_b 123) 93 = .ok (.iconst 0, 1) := by decide +kernel
theorem d_123_94 : decode (axt_b 123) 94 = .ok (.putfield 72, 3) := by decide +kernel
theorem d_123_97 : decode (axt_b 123) 97 = .ok (.return_, 1) := by decide +kernel
theorem d_126_0 : decode (axt_b 126) 0 = .ok (.iload_n 1, 1) := by decide +kernel
theorem d_126_1 : decode (axt_b 126) 1 = .ok (.ifCond .lt 75, 3) := by decide +kernel
theorem d_126_4 : decode (axt_b 126) 4 = .ok (.aload_n 0, 1) := by decide +kernel
theorem d_126_5 : decode (axt_b 126) 5 = .ok (.getfield 40, 3) := by decide +kernel
theorem d_126_8 : decode (axt_b 126) 8 = .ok (.getfield 177, 3) := by decide +kernel
theorem d_126_11 : decode (axt_b 126) 11 = .ok (.iload_n 1, 1) := by decide +kernel
theorem d_126_12 : decode (axt_b 126) 12 = .ok (.iaload, 1) := by decide +kernel
theorem d_126_13 : decode (axt_b 126) 13 = .ok (.ifCond .eq 63, 3) := by decide +kernel
theorem d_126_16 : decode (axt_b 126) 16 = .ok (.aload_n 0, 1) := by decide +kernel
theorem d_126_17 : decode (axt_b 126) 17 = .ok (.aload_n 0, 1) := by decide +kernel
theorem d_126_18 : decode (axt_b 126) 18 = .ok (.getfield 40, 3) := by decide +kernel
theorem d_126_21 : decode (axt_b 126) 21 = .ok (.iload_n 1, 1) := by decide +kernel
theorem d_126_22 : decode (axt_b 126) 22 = .ok (.invokevirtual 170, 3) := by decide +kernel
theorem d_126_25 : decode (axt_b 126) 25 = .ok (.invokevirtual 144, 3) := by decide +kernel
theorem d_126_28 : decode (axt_b 126) 28 = .ok (.ifCond .eq 48, 3) := by decide +kernel
theorem d_126_31 : decode (axt_b 126) 31 = .ok (.aload_n 0, 1) := by decide +kernel
theorem d_126_32 : decode (axt_b 126) 32 = .ok (.getfield 26, 3) := by decide +kernel
theorem d_126_35 : decode (axt_b 126) 35 = .ok (.bipush 6, 2) := by decide +kernel
theorem d_126_37 : decode (axt_b 126) 37 = .ok (.aload_n 0, 1) := by decide +kernel
theorem d_126_38 : decode (axt_b 126) 38 = .ok (.getfield 18, 3) := by decide +kernel
theorem d_126_41 : decode (axt_b 126) 41 = .ok (.aload_n 0, 1) := by decide +kernel
theorem d_126_42 : decode (axt_b 126) 42 = .ok (.aload_n 0, 1) := by decide +kernel
theorem d_126_43 : decode (axt_b 126) 43 = .ok (.getfield 40, 3) := by decide +kernel
theorem d_126_46 : decode (axt_b 126) 46 = .ok (.getfield 177, 3) := by decide +kernel
theorem d_126_49 : decode (axt_b 126) 49 = .ok (.iload_n 1, 1) := by decide +kernel
theorem d_126_50 : decode (axt_b 126) 50 = .ok (.iaload, 1) := by decide +kernel
theorem d_126_51 : decode (axt_b 126) 51 = .ok (.invokevirtual 237, 3) := by decide +kernel
theorem d_126_54 : decode (axt_b 126) 54 = .ok (.aload_n 0, 1) := by decide +kernel
theorem d_126_55 : decode (axt_b 126) 55 = .ok (.getfield 56, 3) := by decide +kernel
theorem d_126_58 : decode (axt_b 126) 58 = .ok (.aload_n 0, 1) := by decide +kernel
theorem d_126_59 : decode (axt_b 126) 59 = .ok (.getfield 59, 3) := by decide +kernel
theorem d_126_62 : decode (axt_b 126) 62 = .ok (.invokevirtual 101, 3) := by decide +kernel
theorem d_126_65 : decode (axt_b 126) 65 = .ok (.aload_n 0, 1) := by decide +kernel
theorem d_126_66 : decode (axt_b 126) 66 = .ok (.getfield 40, 3) := by decide +kernel
theorem d_126_69 : decode (axt_b 126) 69 = .ok (.iload_n 1, 1) := by decide +kernel
theorem d_126_70 : decode (axt_b 126) 70 = .ok (.invokevirtual 240, 3) := by decide +kernel
theorem d_126_73 : decode (axt_b 126) 73 = .ok (.putfield 195, 3) := by decide +kernel
theorem d_126_76 : decode (axt_b 126) 76 = .ok (.return_, 1) := by decide +kernel
theorem d_128_0 : decode (axt_b 128) 0 = .ok (.iload_n 1, 1) := by decide +kernel
theorem d_128_1 : decode (axt_b 128) 1 = .ok (.sipush 128, 3) := by decide +kernel
theorem d_128_4 : decode (axt_b 128) 4 = .ok (.imul, 1) := by decide +kernel
theorem d_128_5 : decode (axt_b 128) 5 = .ok (.istore_n 2, 1) := by decide +kernel
theorem d_128_6 : decode (axt_b 128) 6 = .ok (.aload_n 0, 1) := by decide +kernel
theorem d_128_7 : decode (axt_b 128) 7 = .ok (.getfield 49, 3) := by decide +kernel
theorem d_128_10 : decode (axt_b 128) 10 = .ok (.getfield 180, 3) := by decide +kernel
theorem d_128_13 : decode (axt_b 128) 13 = .ok (.iload_n 2, 1) := by decide +kernel
theorem d_128_14 : decode (axt_b 128) 14 = .ok (.invokestatic 183, 3) := by decide +kernel
theorem d_128_17 : decode (axt_b 128) 17 = .ok (.ifCond .eq 24, 3) := by decide +kernel
theorem d_128_20 : decode (axt_b 128) 20 = .ok (.aload_n 0, 1) := by decide +kernel
theorem d_128_21 : decode (axt_b 128) 21 = .ok (.getfield 40, 3) := by decide +kernel
theorem d_128_24 : decode (axt_b 128) 24 = .ok (.aload_n 0, 1) := by decide +kernel
theorem d_128_25 : decode (axt_b 128) 25 = .ok (.getfield 49, 3) := by decide +kernel
theorem d_128_28 : decode (axt_b 128) 28 = .ok (.getfield 180, 3) := by decide +kernel
theorem d_128_31 : decode (axt_b 128) 31 = .ok (.iload_n 2, 1) := by decide +kernel
theorem d_128_32 : decode (axt_b 128) 32 = .ok (.iconst 1, 1) := by decide +kernel
theorem d_128_33 : decode (axt_b 128) 33 = .ok (.iadd, 1) := by decide +kernel
theorem d_128_34 : decode (axt_b 128) 34 = .ok (.iaload, 1) := by decide +kernel
theorem d_128_35 : decode (axt_b 128) 35 = .ok (.invokevirtual 189, 3) := by decide +kernel
theorem d_128_38 : decode (axt_b 128) 38 = .ok (.goto 4, 3) := by decide +kernel
theorem d_128_41 : decode (axt_b 128) 41 = .ok (.iconst (-1), 1) := by decide +kernel
theorem d_128_42 : decode (axt_b 128) 42 = .ok (.istore_n 3, 1) := by decide +kernel
theorem d_128_43 : decode (axt_b 128) 43 = .ok (.iload_n 3, 1) := by decide +kernel
theorem d_128_44 : decode (axt_b 128) 44 = .ok (.ifCond .ge 7, 3) := by decide +kernel
theorem d_128_47 : decode (axt_b 128) 47 = .ok (.iconst 0, 1) := by decide +kernel
theorem d_128_48 : decode (axt_b 128) 48 = .ok (.goto 28, 3) := by decide +kernel
theorem d_128_51 : decode (axt_b 128) 51 = .ok (.aload_n 0, 1) := by decide +kernel
theorem d_128_52 : decode (axt_b 128) 52 = .ok (.getfield 9, 3) := by decide +kernel
theorem d_128_55 : decode (axt_b 128) 55 = .ok (.aload_n 0, 1) := by decide +kernel
theorem d_128_56 : decode (axt_b 128) 56 = .ok (.getfield 40, 3) := by decide +kernel
theorem d_128_59 : decode (axt_b 128) 59 = .ok (.iload_n 3, 1) := by decide +kernel
theorem d_128_60 : decode (axt_b 128) 60 = .ok (.invokevirtual 170, 3) := by decide +kernel
theorem d_128_63 : decode (axt_b 128) 63 = .ok (.iaload, 1) := by decide +kernel
theorem d_128_64 : decode (axt_b 128) 64 = .ok (.aload_n 0, 1) := by decide +kernel
theorem d_128_65 : decode (axt_b 128) 65 = .ok (.getfield 40, 3) := by decide +kernel
theorem d_128_68 : decode (axt_b 128) 68 = .ok (.getfield 177, 3) := by decide +kernel
theorem d_128_71 : decode (axt_b 128) 71 = .ok (.iload_n 3, 1) := by decide +kernel
theorem d_128_72 : decode (axt_b 128) 72 = .ok (.iaload, 1) := by decide +kernel
theorem d_128_73 : decode (axt_b 128) 73 = .ok (.iconst (-1), 1) := by decide +kernel
theorem d_128_74 : decode (axt_b 128) 74 = .ok (.ixor, 1) := by decide +kernel
theorem d_128_75 : decode (axt_b 128) 75 = .ok (.iand, 1) := by decide +kernel
theorem d_128_76 : decode (axt_b 128) 76 = .ok (.istore 4, 2) := by decide +kernel
theorem d_128_78 : decode (axt_b 128) 78 = .ok (.iconst 0, 1) := by decide +kernel
theorem d_128_79 : decode (axt_b 128) 79 = .ok (.istore 5, 2) := by decide +kernel
theorem d_128_81 : decode (axt_b 128) 81 = .ok (.iload 5, 2) := by decide +kernel
theorem d_128_83 : decode (axt_b 128) 83 = .ok (.aload_n 0, 1) := by decide +kernel
theorem d_128_84 : decode (axt_b 128) 84 = .ok (.getfield 22, 3) := by decide +kernel
theorem d_128_87 : decode (axt_b 128) 87 = .ok (.getfield 98, 3) := by decide +kernel
theorem d_128_90 : decode (axt_b 128) 90 = .ok (.if_icmp .ge 80, 3) := by decide +kernel
theorem d_128_93 : decode (axt_b 128) 93 = .ok (.iload 4, 2) := by decide +kernel
theorem d_128_95 : decode (axt_b 128) 95 = .ok (.iload 5, 2) := by decide +kernel
theorem d_128_97 : decode (axt_b 128) 97 = .ok (.ishr, 1) := by decide +kernel
theorem d_128_98 : decode (axt_b 128) 98 = .ok (.iconst 1, 1) := by decide +kernel
theorem d_128_99 : decode (axt_b 128) 99 = .ok (.iand, 1) := by decide +kernel
theorem d_128_100 : decode (axt_b 128) 100 = .ok (.ifCond .eq 64, 3) := by decide +kernel
theorem d_128_103 : decode (axt_b 128) 103 = .ok (.aload_n 0, 1) := by decide +kernel
theorem d_128_104 : decode (axt_b 128) 104 = .ok (.getfield 26, 3) := by decide +kernel
theorem d_128_107 : decode (axt_b 128) 107 = .ok (.bipush 10, 2) := by decide +kernel
theorem d_128_109 : decode (axt_b 128) 109 = .ok (.aload_n 0, 1) := by decide +kernel
theorem d_128_110 : decode (axt_b 128) 110 = .ok (.getfield 18, 3) := by decide +kernel
theorem d_128_113 : decode (axt_b 128) 113 = .ok (.iload 5, 2) := by decide +kernel
theorem d_128_115 : decode (axt_b 128) 115 = .ok (.aload_n 0, 1) := by decide +kernel
theorem d_128_116 : decode (axt_b 128) 116 = .ok (.getfield 56, 3) := by decide +kernel
theorem d_128_119 : decode (axt_b 128) 119 = .ok (.aload_n 0, 1) := by decide +kernel
theorem d_128_120 : decode (axt_b 128) 120 = .ok (.getfield 59, 3) := by decide +kernel
theorem d_128_123 : decode (axt_b 128) 123 = .ok (.invokevirtual 101, 3) := by decide +kernel
theorem d_128_126 : decode (axt_b 128) 126 = .ok (.astore 6, 2) := by decide +kernel
theorem d_128_128 : decode (axt_b 128) 128 = .ok (.aload 6, 2) := by decide +kernel
theorem d_128_130 : decode (axt_b 128) 130 = .ok (.aload_n 0, 1) := by decide +kernel
theorem d_128_131 : decode (axt_b 128) 131 = .ok (.getfield 49, 3) := by decide +kernel
theorem d_128_134 : decode (axt_b 128) 134 = .ok (.getfield 180, 3) := by decide +kernel
theorem d_128_137 : decode (axt_b 128) 137 = .ok (.iload_n 2, 1) := by decide +kernel
theorem d_128_138 : decode (axt_b 128) 138 = .ok (.iconst 1, 1) := by decide +kernel
theorem d_128_139 : decode (axt_b 128) 139 = .ok (.iadd, 1) := by decide +kernel
theorem d_128_140 : decode (axt_b 128) 140 = .ok (.iaload, 1) := by decide +kernel
theorem d_128_141 : decode (axt_b 128) 141 = .ok (.putfield 195, 3) := by decide +kernel
theorem d_128_144 : decode (axt_b 128) 144 = .ok (.aload_n 0, 1) := by decide +kernel
theorem d_128_145 : decode (axt_b 128) 145 = .ok (.getfield 49, 3) := by decide +kernel
theorem d_128_148 : decode (axt_b 128) 148 = .ok (.getfield 180, 3) := by decide +kernel
theorem d_128_151 : decode (axt_b 128) 151 = .ok (.iload_n 2, 1) := by decide +kernel
theorem d_128_152 : decode (axt_b 128) 152 = .ok (.aload 6, 2) := by decide +kernel
theorem d_128_154 : decode (axt_b 128) 154 = .ok (.getfield 219, 3) := by decide +kernel
theorem d_128_157 : decode (axt_b 128) 157 = .ok (.iconst 0, 1) := by decide +kernel
theorem d_128_158 : decode (axt_b 128) 158 = .ok (.sipush 128, 3) := by decide +kernel
theorem d_128_161 : decode (axt_b 128) 161 = .ok (.invokestatic 222, 3) := by decide +kernel
theorem d_128_164 : decode (axt_b 128) 164 = .ok (.iinc 5 1, 3) := by decide +kernel
theorem d_128_167 : decode (axt_b 128) 167 = .ok (.goto (-86), 3) := by decide +kernel
theorem d_128_170 : decode (axt_b 128) 170 = .ok (.return_, 1) := by decide +kernel
theorem d_139_0 : decode (axt_b 139) 0 = .ok (.aload_n 0, 1) := by decide +kernel
theorem d_139_1 : decode (axt_b 139) 1 = .ok (.getfield 40, 3) := by decide +kernel
theorem d_139_4 : decode (axt_b 139) 4 = .ok (.getfield 177, 3) := by decide +kernel
theorem d_139_7 : decode (axt_b 139) 7 = .ok (.iload_n 2, 1) := by decide +kernel
theorem d_139_8 : decode (axt_b 139) 8 = .ok (.iaload, 1) := by decide +kernel
theorem d_139_9 : decode (axt_b 139) 9 = .ok (.ifCond .ne 5, 3) := by decide +kernel
theorem d_139_12 : decode (axt_b 139) 12 = .ok (.iconst 0, 1) := by decide +kernel
theorem d_139_13 : decode (axt_b 139) 13 = .ok (.ireturn, 1) := by decide +kernel
theorem d_139_14 : decode (axt_b 139) 14 = .ok (.iconst 0, 1) := by decide +kernel
theorem d_139_15 : decode (axt_b 139) 15 = .ok (.istore_n 3, 1) := by decide +kernel
theorem d_139_16 : decode (axt_b 139) 16 = .ok (.iload_n 3, 1) := by decide +kernel
theorem d_139_17 : decode (axt_b 139) 17 = .ok (.aload_n 0, 1) := by decide +kernel
theorem d_139_18 : decode (axt_b 139) 18 = .ok (.getfield 22, 3) := by decide +kernel
theorem d_139_21 : decode (axt_b 139) 21 = .ok (.getfield 98, 3) := by decide +kernel
theorem d_139_24 : decode (axt_b 139) 24 = .ok (.if_icmp .ge 72, 3) := by decide +kernel
theorem d_139_27 : decode (axt_b 139) 27 = .ok (.iload_n 1, 1) := by decide +kernel
theorem d_139_28 : decode (axt_b 139) 28 = .ok (.iload_n 3, 1) := by decide +kernel
theorem d_139_29 : decode (axt_b 139) 29 = .ok (.ishr, 1) := by decide +kernel
theorem d_139_30 : decode (axt_b 139) 30 = .ok (.iconst 1, 1) := by decide +kernel
theorem d_139_31 : decode (axt_b 139) 31 = .ok (.iand, 1) := by decide +kernel
theorem d_139_32 : decode (axt_b 139) 32 = .ok (.ifCond .eq 58, 3) := by decide +kernel
theorem d_139_35 : decode (axt_b 139) 35 = .ok (.aload_n 0, 1) := by decide +kernel
theorem d_139_36 : decode (axt_b 139) 36 = .ok (.getfield 26, 3) := by decide +kernel
theorem d_139_39 : decode (axt_b 139) 39 = .ok (.bipush 9, 2) := by decide +kernel
theorem d_139_41 : decode (axt_b 139) 41 = .ok (.aload_n 0, 1) := by decide +kernel
theorem d_139_42 : decode (axt_b 139) 42 = .ok (.getfield 18, 3) := by decide +kernel
theorem d_139_45 : decode (axt_b 139) 45 = .ok (.aload_n 0, 1) := by decide +kernel
theorem d_139_46 : decode (axt_b 139) 46 = .ok (.aload_n 0, 1) := by decide +kernel
theorem d_139_47 : decode (axt_b 139) 47 = .ok (.getfield 40, 3) := by decide +kernel
theorem d_139_50 : decode (axt_b 139) 50 = .ok (.getfield 177, 3) := by decide +kernel
theorem d_139_53 : decode (axt_b 139) 53 = .ok (.iload_n 2, 1) := by decide +kernel
theorem d_139_54 : decode (axt_b 139) 54 = .ok (.iaload, 1) := by decide +kernel
theorem d_139_55 : decode (axt_b 139) 55 = .ok (.invokevirtual 237, 3) := by decide +kernel
theorem d_139_58 : decode (axt_b 139) 58 = .ok (.aload_n 0, 1) := by decide +kernel
theorem d_139_59 : decode (axt_b 139) 59 = .ok (.getfield 56, 3) := by decide +kernel
theorem d_139_62 : decode (axt_b 139) 62 = .ok (.aload_n 0, 1) := by decide +kernel
theorem d_139_63 : decode (axt_b 139) 63 = .ok (.getfield 59, 3) := by decide +kernel
theorem d_139_66 : decode (axt_b 139) 66 = .ok (.invokevirtual 101, 3) := by decide +kernel
theorem d_139_69 : decode (axt_b 139) 69 = .ok (.astore 4, 2) := by decide +kernel
theorem d_139_71 : decode (axt_b 139) 71 = .ok (.aload 4, 2) := by decide +kernel
theorem d_139_73 : decode (axt_b 139) 73 = .ok (.aload_n 0, 1) := by decide +kernel
theorem d_139_74 : decode (axt_b 139) 74 = .ok (.getfield 40, 3) := by decide +kernel
theorem d_139_77 : decode (axt_b 139) 77 = .ok (.iload_n 2, 1) := by decide +kernel
theorem d_139_78 : decode (axt_b 139) 78 = .ok (.invokevirtual 240, 3) := by decide +kernel
theorem d_139_81 : decode (axt_b 139) 81 = .ok (.putfield 195, 3) := by decide +kernel
theorem d_139_84 : decode (axt_b 139) 84 = .ok (.aload 4, 2) := by decide +kernel
theorem d_139_86 : decode (axt_b 139) 86 = .ok (.iload_n 3, 1) := by decide +kernel
theorem d_139_87 : decode (axt_b 139) 87 = .ok (.putfield 201, 3) := by decide +kernel
theorem d_139_90 : decode (axt_b 139) 90 = .ok (.iinc 3 1, 3) := by decide +kernel
theorem d_139_93 : decode (axt_b 139) 93 = .ok (.goto (-77), 3) := by decide +kernel
theorem d_139_96 : decode (axt_b 139) 96 = .ok (.iload_n 1, 1) := by decide +kernel
theorem d_139_97 : decode (axt_b 139) 97 = .ok (.invokestatic 246, 3) := by decide +kernel
theorem d_139_100 : decode (axt_b 139) 100 = .ok (.ireturn, 1) := by decide +kernel
def seB (x : Int32) : Int32 := if x = 0 then 0 else 1
theorem c_120E {L : Nat} {xs : Nat → Int32} {fr lo : Nat} {h : ax_H} {a N i : Nat} {wf : Nat → Int32} (hN : N < 2 ^ 31) (hi : i < N) (hF : ax_hs h [(a, .inl (0, N, .inl wf))]) : ax_M L xs 120 fr lo [.ref a, .int (nI i)] h (fun r h' => r = some (.int (seB (wf i))) ∧ h' = h) := c_120 hN hi hF
theorem rlv_told {u : Nat → Int32} {tl : Nat} (h : u 0 = 3) (h7 : u 7 = nI tl) (ht : tl < 2049) : rlv u = (tl + 3) / 4 := by
  unfold rlv
  rw [if_neg (by rw [h]; decide), if_pos h, h7, show nI tl + 3 = nI (tl + 3) from nI_add _ 3, show nI (tl + 3) / 4 = nI ((tl + 3) / 4) from pk_div (d := 4) (by omega) (by omega) (by omega), nI_clamp (by omega)]
theorem rlv_item {u : Nat → Int32} (h : u 0 = 7 ∨ u 0 = 10) : rlv u = 128 := by
  have hk : ∀ x : Int32, (x = 7 ∨ x = 10) → ¬ x = 2 ∧ ¬ x = 3 ∧ ¬ (x = 5 ∨ x = 11 ∨ x = 12) := by
    rintro x (rfl | rfl) <;> decide
  unfold rlv
  rw [if_neg (hk _ h).1, if_neg (hk _ h).2.1, if_neg (hk _ h).2.2, if_pos h]
theorem sm_cpo {u b c : Nat → Int32} {o d : Nat} (hd : rlv u ≤ d) : smM (u, va_cpy c b o 0 d) (u, fun j => c (o + j)) := smM.all hd (fun i hi => by
  unfold va_cpy
  rw [if_pos (by omega)]
  congr 1
  try omega)
def arS (gg : Nat) (D : Nat → Nat → Int32) : Nat → Nat → Int32
  | 0, i =>
    1
  | k + 1, i =>
    if (seB ((D 21) (i * 128))) = 0 then
      arS gg D k (i + 1)
    else
      if fndI (D 15) (D 16) ((D 21) (i * 128 + 1)) = -1 then
        0
      else
        bnN ((fndI (D 15) (D 16) ((D 21) (i * 128 + 1))).toNatClampNeg) (fun a2 =>
          if ¬ (sfB (D 8) (D 11) (D 16) (D 17) gg a2) = 0 then
            arS gg D k (i + 1)
          else
            0)
theorem s_119 {L : Nat} {xs : Nat → Int32} {fr lo : Nat} {Z : ZT} {n nd nn gg : Nat} {C me : Int32} {f : Nat → Int32} {q : Nat} {u b : Nat → Int32} {uv : Int32} {h0 h : ax_H} {D : Nat → Nat → Int32} {K A : Int64} {Y : List Mg} {i0 j0 : Nat} (hfr : 3 ≤ fr) (hlo : 90 ≤ lo) (hC : CS n nd nn gg f) (hS : NS Z n nd nn gg C me f q u b uv h0 h D K A Y) (hI : NI Z nn D) (hij : i0 ≤ j0) (hj9 : j0 ≤ 9) : ax_M L xs 119 fr lo [.ref (nd + 7), .int (nI i0), .int (nI j0)] h (fun r h' => ∃ y : Int32, r = some (.int y) ∧ y = arS gg D (j0 - i0) i0 ∧ h' = h) := by
  obtain ⟨hnd, hn0, hnn3, hnn, hgg1, hgg, hRg⟩ := hC
  obtain ⟨hF, hN, hf, hn, hs, hp0, hu0⟩ := hS
  replace hF : ax_hs h [cNd n nd me D, cDk nd D, cAr nd 2 35840 D, cAr nd 3 4096 D, cAr nd 4 32 D, cAr nd 5 280 D, cAr nd 6 280 D, cLd n nd me D A, cAr nd 8 16 D, cAr nd 9 280 D, cTb nd gg D K, cAr nd 11 48 D, cAr nd 12 48 D, cAr nd 13 48 D, cAr nd 14 2400 D, cAr nd 15 512 D, cAr nd 16 961 D, cAr nd 17 961 D, cWk nd D, cWa nd D, cAr nd 20 612 D, cAr nd 21 1152 D, cRk n nn gg C, cOr n nn gg f] := hF
  have key : ∀ (k i : Nat), i + k = j0 → ax_A (ax_step L xs) ((119, 2, fr, lo), [(0, .ref (nd + 7)), (1, .int (nI i0)), (2, .int (nI j0)), (3, .int (nI i))], [], h) (fun r h' => ∃ y : Int32, r = some (.int y) ∧ y = arS gg D k i ∧ h' = h) := by
    intro k
    induction k with
    | zero =>
      intro i hi
      have e0 : i = j0 := by omega
      subst e0
      refine ar_iload_n 3 d_119_2 rfl rfl ?_
      refine ar_iload_n 4 d_119_3 rfl rfl ?_
      refine ar_icmp_ge 71 7 d_119_4 (by decide) rfl (fun _ => ?_) (fun c => absurd (Int32.le_refl _) c)
      refine ar_iconst 72 (v := 1) d_119_71 rfl (by decide) ?_
      exact ar_iret d_119_72 rfl rfl (⟨_, rfl, rfl, rfl⟩)
    | succ k ih =>
      intro i hi
      have hic : i < j0 := by omega
      refine ar_iload_n 3 d_119_2 rfl rfl ?_
      refine ar_iload_n 4 d_119_3 rfl rfl ?_
      refine ar_icmp_ge 71 7 d_119_4 (by decide) rfl (fun c => absurd c (nI_ge hic (by omega))) (fun _ => ?_)
      refine ar_aload_n 8 d_119_7 rfl rfl ?_
      refine ar_getf 11 d_119_8 rfl (ci := 9) (k := 4) rfl (hF.at 7 rfl) rfl ?_
      refine ar_getf 14 d_119_11 rfl (ci := 10) (k := 2) rfl (hF.at 18 rfl) rfl ?_
      refine ar_iload_n 15 d_119_14 rfl rfl ?_
      refine ar_sipush 18 (v := 128) d_119_15 rfl (by decide) ?_
      refine ar_imul 19 d_119_18 rfl ?_
      refine ar_top (x' := nI (i * 128)) (pk_mul _ 128) ?_
      refine ar_call (r := []) (na := 0) (kd := 0) (cm := 120) (fr2 := fr - 1) (lo2 := lo - 21) 22 d_119_19 (ar_hoS (as := [.ref (nd + 21), .int (nI (i * 128))]) rfl rfl rfl) rfl (by omega) (show lo - 21 + (19 + 2) = lo by omega) (Nat.le_of_ble_eq_true rfl) (Nat.le_of_ble_eq_true rfl) (c_120E (i := i * 128) (by decide) (by omega) (ax_hs.one (hF.at 21 rfl))) ?_
      intro v hh hq
      obtain ⟨rfl, ehh⟩ := hq
      rw [ehh]
      clear ehh
      refine ar_if_eq 65 25 d_119_22 (by decide) rfl (fun cc1 => ?_) (fun cc1 => ?_)
      · refine ar_iinc 68 [(0, .ref (nd + 7)), (1, .int (nI i0)), (2, .int (nI j0)), (3, .int (nI (i + 1)))] d_119_65 rfl rfl (nI_1 i) (by decide) rfl ?_
        refine ar_goto 2 d_119_68 (by decide) ?_
        rw [← show arS gg D k (i + 1) = arS gg D (k + 1) i from eq_ifT cc1 (rfl)]
        exact ih (i + 1) (by omega)
      · refine ar_aload_n 26 d_119_25 rfl rfl ?_
        refine ar_getf 29 d_119_26 rfl (ci := 9) (k := 3) rfl (hF.at 7 rfl) rfl ?_
        refine ar_aload_n 30 d_119_29 rfl rfl ?_
        refine ar_getf 33 d_119_30 rfl (ci := 9) (k := 4) rfl (hF.at 7 rfl) rfl ?_
        refine ar_getf 36 d_119_33 rfl (ci := 10) (k := 2) rfl (hF.at 18 rfl) rfl ?_
        refine ar_iload_n 37 d_119_36 rfl rfl ?_
        refine ar_sipush 40 (v := 128) d_119_37 rfl (by decide) ?_
        refine ar_imul 41 d_119_40 rfl ?_
        refine ar_top (x' := nI (i * 128)) (pk_mul _ 128) ?_
        refine ar_iconst 42 (v := 1) d_119_41 rfl (by decide) ?_
        refine ar_iadd 43 d_119_42 rfl ?_
        refine ar_top (x' := nI (i * 128 + 1)) (nI_1 _) ?_
        refine ar_ialdN 44 (e := i * 128 + 1) d_119_43 rfl (hF.at 21 rfl) (by omega) (by omega) ?_
        refine ar_call (r := []) (na := 0) (kd := 0) (cm := 77) (fr2 := fr - 1) (lo2 := lo - 23) 47 d_119_44 (ar_hoV (as := [.int ((D 21) (i * 128 + 1))]) rfl rfl rfl (hF.at 10 rfl)) rfl (by omega) (show lo - 23 + (19 + 4) = lo by omega) (Nat.le_of_ble_eq_true rfl) (Nat.le_of_ble_eq_true rfl) (c_77E (x := (D 21) (i * 128 + 1)) hI.2.1 (hF.at 10 rfl) (hF.at 15 rfl) (hF.at 16 rfl)) ?_
        intro v hh hq
        obtain ⟨rfl, ehh⟩ := hq
        rw [ehh]
        clear ehh
        rcases hI.2.1.fnd2 ((D 21) (i * 128 + 1)) with ey2 | ⟨t2, a2, ht2, hx2, ha2, ey2, hfd2⟩
        · refine ar_top (x' := -1) (ey2) ?_
          refine ar_istore 49 [(0, .ref (nd + 7)), (1, .int (nI i0)), (2, .int (nI j0)), (3, .int (nI i)), (4, .int (-1))] d_119_47 rfl (by decide) rfl ?_
          refine ar_iload 51 d_119_49 rfl rfl ?_
          refine ar_if_lt 63 54 d_119_51 (by decide) rfl (fun _ => ?_) (fun c => absurd (by decide) c)
          refine ar_iconst 64 (v := 0) d_119_63 rfl (by decide) ?_
          exact ar_iret d_119_64 rfl rfl (⟨_, rfl, eq_ifF cc1 (eq_ifT ey2 (rfl)), rfl⟩)
        · refine ar_top (x' := nI a2) (ey2) ?_
          refine ar_istore 49 [(0, .ref (nd + 7)), (1, .int (nI i0)), (2, .int (nI j0)), (3, .int (nI i)), (4, .int (nI a2))] d_119_47 rfl (by decide) rfl ?_
          refine ar_iload 51 d_119_49 rfl rfl ?_
          refine ar_if_lt 63 54 d_119_51 (by decide) rfl (fun c => absurd c (nI_pos (by omega))) (fun _ => ?_)
          refine ar_aload_n 55 d_119_54 rfl rfl ?_
          refine ar_iload 57 d_119_55 rfl rfl ?_
          refine ar_call (r := []) (na := 0) (kd := 0) (cm := 74) (fr2 := fr - 1) (lo2 := lo - 22) 60 d_119_57 (ar_hoV (as := [.int (nI a2)]) rfl rfl rfl (hF.at 7 rfl)) rfl (by omega) (show lo - 22 + (19 + 3) = lo by omega) (Nat.le_of_ble_eq_true rfl) (Nat.le_of_ble_eq_true rfl) (c_74E (by omega) (by omega) (by omega) hgg ha2 hI.2.1 (hfd2.id) (hF.at 7 rfl) (hF.at 10 rfl) (hF.at 8 rfl) (hF.at 11 rfl) (hF.at 16 rfl) (hF.at 17 rfl)) ?_
          intro v hh hq
          obtain ⟨rfl, ehh⟩ := hq
          rw [ehh]
          clear ehh
          refine ar_if_ne 65 63 d_119_60 (by decide) rfl (fun cc3 => ?_) (fun cc3 => ?_)
          · refine ar_iinc 68 [(0, .ref (nd + 7)), (1, .int (nI i0)), (2, .int (nI j0)), (3, .int (nI (i + 1))), (4, .int (nI a2))] d_119_65 rfl rfl (nI_1 i) (by decide) rfl ?_
            refine ar_goto 2 d_119_68 (by decide) ?_
            refine ar_wk [0, 1, 2, 3] rfl (by simp) ?_
            rw [← show arS gg D k (i + 1) = arS gg D (k + 1) i from eq_ifF cc1 (eq_ifF (nI_ne1 ha2 ey2) (bnN_eq (cl_eq ha2 ey2) (eq_ifT cc3 (rfl))))]
            exact ih (i + 1) (by omega)
          · refine ar_iconst 64 (v := 0) d_119_63 rfl (by decide) ?_
            exact ar_iret d_119_64 rfl rfl (⟨_, rfl, eq_ifF cc1 (eq_ifF (nI_ne1 ha2 ey2) (bnN_eq (cl_eq ha2 ey2) (eq_ifF cc3 (rfl)))), rfl⟩)
  show ax_A (ax_step L xs) ((119, 0, fr, lo), [(0, .ref (nd + 7)), (1, .int (nI i0)), (2, .int (nI j0))], [], h) _
  refine ar_iload_n 1 d_119_0 rfl rfl ?_
  refine ar_istore_n 2 [(0, .ref (nd + 7)), (1, .int (nI i0)), (2, .int (nI j0)), (3, .int (nI i0))] d_119_1 rfl (by decide) rfl ?_
  exact key (j0 - i0) i0 (by omega)
def G_35 (nn gg : Nat) (C me : Int32) (f u b : Nat → Int32)  : Nat → Nat → (Nat → Nat → Int32) → Int64 → Int64 → List Mg → St
  | 0, i, D, K, A, Y =>
    (D, K, A, Y)
  | k + 1, i, D, K, A, Y =>
    if ¬ (((D 7 10) >>> ((nI i) &&& 31)) &&& 1) = 0 then
      G_35 nn gg C me f u b k (i + 1) D K A Y
    else
      G_35 nn gg C me f u b k (i + 1) D K A (pst Y (mg 4 me (nI i) (D 7 7) (D 7 8), fun _ => 0))
def F_35 (nn gg : Nat) (C me : Int32) (f u b : Nat → Int32) (D : Nat → Nat → Int32) (K A : Int64) (Y : List Mg) : St := G_35 nn gg C me f u b nn 0 D K A Y
theorem s_35 {L : Nat} {xs : Nat → Int32} {fr lo : Nat} {Z : ZT} {n nd nn gg : Nat} {C me : Int32} {f : Nat → Int32} {q : Nat} {u b : Nat → Int32} {uv : Int32} {h0 h : ax_H} {D : Nat → Nat → Int32} {K A : Int64} {Y : List Mg}  (hfr : 1 ≤ fr) (hlo : 40 ≤ lo) (hC : CS n nd nn gg f) (hS : NS Z n nd nn gg C me f q u b uv h0 h D K A Y) (hI : NI Z nn D) : ax_M L xs 35 fr lo [.ref (nd + 7)] h (fun r h' => r = none ∧ PS Z n nd nn gg C me f q u b uv h0 h' (fun D' K' A' Y' => (D', K', A', Y') = F_35 nn gg C me f u b D K A Y ∧ True)) := by
  have hC0 := hC
  have key : ∀ (k i : Nat) (h : ax_H) (D : Nat → Nat → Int32) (K A : Int64) (Y : List Mg), i + k = nn → NS Z n nd nn gg C me f q u b uv h0 h D K A Y → NI Z nn D → ax_A (ax_step L xs) ((35, 2, fr, lo), [(0, .ref (nd + 7)), (1, .int (nI i))], [], h) (fun r h' => r = none ∧ PS Z n nd nn gg C me f q u b uv h0 h' (fun D' K' A' Y' => (D', K', A', Y') = G_35 nn gg C me f u b k i D K A Y ∧ True)) := by
    intro k
    induction k with
    | zero =>
      intro i h D K A Y hi hS hI
      have e0 : i = nn := by omega
      obtain ⟨hnd, hn0, hnn3, hnn, hgg1, hgg, hRg⟩ := hC
      obtain ⟨hF, hN, hf, hn, hs, hp0, hu0⟩ := hS
      replace hF : ax_hs h [cNd n nd me D, cDk nd D, cAr nd 2 35840 D, cAr nd 3 4096 D, cAr nd 4 32 D, cAr nd 5 280 D, cAr nd 6 280 D, cLd n nd me D A, cAr nd 8 16 D, cAr nd 9 280 D, cTb nd gg D K, cAr nd 11 48 D, cAr nd 12 48 D, cAr nd 13 48 D, cAr nd 14 2400 D, cAr nd 15 512 D, cAr nd 16 961 D, cAr nd 17 961 D, cWk nd D, cWa nd D, cAr nd 20 612 D, cAr nd 21 1152 D, cRk n nn gg C, cOr n nn gg f] := hF
      refine ar_iload_n 3 d_35_2 rfl rfl ?_
      refine ar_aload_n 4 d_35_3 rfl rfl ?_
      refine ar_getf 7 d_35_4 rfl (ci := 9) (k := 1) rfl (hF.at 7 rfl) rfl ?_
      refine ar_getf 10 d_35_7 rfl (ci := 3) (k := 0) rfl (hF.at 22 rfl) rfl ?_
      refine ar_icmp_ge 52 13 d_35_10 (by decide) rfl (fun _ => ?_) (fun c => absurd (by rw [e0]; exact Int32.le_refl _) c)
      have hS9 : NS Z n nd nn gg C me f q u b uv h0 h D K A Y := ⟨hF, hN, hf, hn, hs, hp0, hu0⟩
      have hI9 : NI Z nn D := hI
      exact ar_ret d_35_52 rfl (⟨rfl, _, _, _, _, hS9, hI9, rfl, trivial⟩)
    | succ k ih =>
      intro i h D K A Y hi hS hI
      have hic : i < nn := by omega
      obtain ⟨hnd, hn0, hnn3, hnn, hgg1, hgg, hRg⟩ := hC
      obtain ⟨hF, hN, hf, hn, hs, hp0, hu0⟩ := hS
      replace hF : ax_hs h [cNd n nd me D, cDk nd D, cAr nd 2 35840 D, cAr nd 3 4096 D, cAr nd 4 32 D, cAr nd 5 280 D, cAr nd 6 280 D, cLd n nd me D A, cAr nd 8 16 D, cAr nd 9 280 D, cTb nd gg D K, cAr nd 11 48 D, cAr nd 12 48 D, cAr nd 13 48 D, cAr nd 14 2400 D, cAr nd 15 512 D, cAr nd 16 961 D, cAr nd 17 961 D, cWk nd D, cWa nd D, cAr nd 20 612 D, cAr nd 21 1152 D, cRk n nn gg C, cOr n nn gg f] := hF
      refine ar_iload_n 3 d_35_2 rfl rfl ?_
      refine ar_aload_n 4 d_35_3 rfl rfl ?_
      refine ar_getf 7 d_35_4 rfl (ci := 9) (k := 1) rfl (hF.at 7 rfl) rfl ?_
      refine ar_getf 10 d_35_7 rfl (ci := 3) (k := 0) rfl (hF.at 22 rfl) rfl ?_
      refine ar_icmp_ge 52 13 d_35_10 (by decide) rfl (fun c => absurd c (nI_ge hic (by omega))) (fun _ => ?_)
      refine ar_aload_n 14 d_35_13 rfl rfl ?_
      refine ar_getf 17 d_35_14 rfl (ci := 9) (k := 10) rfl (hF.at 7 rfl) rfl ?_
      refine ar_iload_n 18 d_35_17 rfl rfl ?_
      refine ar_ishr 19 d_35_18 rfl ?_
      refine ar_iconst 20 (v := 1) d_35_19 rfl (by decide) ?_
      refine ar_iand 21 d_35_20 rfl ?_
      refine ar_if_ne 46 24 d_35_21 (by decide) rfl (fun cc1 => ?_) (fun cc1 => ?_)
      · refine ar_iinc 49 [(0, .ref (nd + 7)), (1, .int (nI (i + 1)))] d_35_46 rfl rfl (nI_1 i) (by decide) rfl ?_
        refine ar_goto 2 d_35_49 (by decide) ?_
        have hS1 : NS Z n nd nn gg C me f q u b uv h0 h D K A Y := ⟨hF, hN, hf, hn, hs, hp0, hu0⟩
        have hI1 : NI Z nn D := hI
        rw [← show G_35 nn gg C me f u b k (i + 1) D K A Y = G_35 nn gg C me f u b (k + 1) i D K A Y from eq_ifT cc1 (rfl)]
        exact ih (i + 1) h D K A Y (by omega) hS1 hI1
      · refine ar_aload_n 25 d_35_24 rfl rfl ?_
        refine ar_getf 28 d_35_25 rfl (ci := 9) (k := 2) rfl (hF.at 7 rfl) rfl ?_
        refine ar_iconst 29 (v := 4) d_35_28 rfl (by decide) ?_
        refine ar_aload_n 30 d_35_29 rfl rfl ?_
        refine ar_getf 33 d_35_30 rfl (ci := 9) (k := 0) rfl (hF.at 7 rfl) rfl ?_
        refine ar_iload_n 34 d_35_33 rfl rfl ?_
        refine ar_aload_n 35 d_35_34 rfl rfl ?_
        refine ar_getf 38 d_35_35 rfl (ci := 9) (k := 7) rfl (hF.at 7 rfl) rfl ?_
        refine ar_aload_n 39 d_35_38 rfl rfl ?_
        refine ar_getf 42 d_35_39 rfl (ci := 9) (k := 8) rfl (hF.at 7 rfl) rfl ?_
        obtain ⟨zk, za, zc, hnet⟩ := hN.net
        refine ar_call (r := []) (na := 0) (kd := 0) (cm := 36) (fr2 := fr - 1) (lo2 := lo - 26) 45 d_35_42 (ar_hoV (as := [.int 4, .int me, .int (nI i), .int (D 7 7), .int (D 7 8)]) rfl rfl rfl hnet) rfl (by omega) (show lo - 26 + (19 + 7) = lo by omega) (Nat.le_of_ble_eq_true rfl) (Nat.le_of_ble_eq_true rfl) (hN.post) ?_
        intro v hp_2 hq
        obtain ⟨m, bm, hm, hmq, rfl, hmm, hed, hf2, hz1, hz2⟩ := hq
        have hNm : NTA n (n + 1) (n + 1 + 1 + 2 * m) := Or.inr (by omega)
        have hNm1 : NTA n (n + 1) (n + 1 + 1 + 2 * m + 1) := Or.inr (by omega)
        replace hF : ax_hs hp_2 [cNd n nd me D, cDk nd D, cAr nd 2 35840 D, cAr nd 3 4096 D, cAr nd 4 32 D, cAr nd 5 280 D, cAr nd 6 280 D, cLd n nd me D A, cAr nd 8 16 D, cAr nd 9 280 D, cTb nd gg D K, cAr nd 11 48 D, cAr nd 12 48 D, cAr nd 13 48 D, cAr nd 14 2400 D, cAr nd 15 512 D, cAr nd 16 961 D, cAr nd 17 961 D, cWk nd D, cWa nd D, cAr nd 20 612 D, cAr nd 21 1152 D, cRk n nn gg C, cOr n nn gg f] := hF.fr hf2 (far (n := n) (nd := nd) rfl hnd)
        replace hF : ax_hs hp_2 [(n + 1 + 1 + 2 * m, .inr (2, [.int 4, .int me, .int (nI i), .int (D 7 7), .int (D 7 8), .int (-1), .int 0, .int 0, .ref (n + 1 + 1 + 2 * m + 1)])), (n + 1 + 1 + 2 * m + 1, .inl (0, 617, .inl bm)), cNd n nd me D, cDk nd D, cAr nd 2 35840 D, cAr nd 3 4096 D, cAr nd 4 32 D, cAr nd 5 280 D, cAr nd 6 280 D, cLd n nd me D A, cAr nd 8 16 D, cAr nd 9 280 D, cTb nd gg D K, cAr nd 11 48 D, cAr nd 12 48 D, cAr nd 13 48 D, cAr nd 14 2400 D, cAr nd 15 512 D, cAr nd 16 961 D, cAr nd 17 961 D, cWk nd D, cWa nd D, cAr nd 20 612 D, cAr nd 21 1152 D, cRk n nn gg C, cOr n nn gg f] := hF.msg (far (n := n) (nd := nd) rfl hnd) hm hmm
        replace hf := hf.trC hf2 (fun _ _ z => Or.inl z)
        replace hn : hp_2.1 = h0.1 := by omega
        replace hs : hp_2.2.1 = h0.2.1 := by omega
        have hfm : ax_fr (fun x => x = n + 1 + 1 + 2 * m ∨ x = n + 1 + 1 + 2 * m + 1) hp_2 hp_2 := ax_fr.rf
        clear hN hnet hf2 hz1 hz2 hmm
        refine ar_pop 46 d_35_45 rfl rfl ?_
        refine ar_iinc 49 [(0, .ref (nd + 7)), (1, .int (nI (i + 1)))] d_35_46 rfl rfl (nI_1 i) (by decide) rfl ?_
        refine ar_goto 2 d_35_49 (by decide) ?_
        have hN : NeT Z hp_2 n q u b (pst Y (mg 4 me (nI i) (D 7 7) (D 7 8), fun _ => 0)) := hed _ (mg 4 me (nI i) (D 7 7) (D 7 8)) bm _ hfm ⟨hF.at 0 rfl, hF.at 1 rfl⟩ (MI.head (Or.inr (Or.inr (Or.inl rfl)))) (smM.head (Or.inr (Or.inr (Or.inl rfl))))
        replace hF := hF.sub (F' := [cNd n nd me D, cDk nd D, cAr nd 2 35840 D, cAr nd 3 4096 D, cAr nd 4 32 D, cAr nd 5 280 D, cAr nd 6 280 D, cLd n nd me D A, cAr nd 8 16 D, cAr nd 9 280 D, cTb nd gg D K, cAr nd 11 48 D, cAr nd 12 48 D, cAr nd 13 48 D, cAr nd 14 2400 D, cAr nd 15 512 D, cAr nd 16 961 D, cAr nd 17 961 D, cWk nd D, cWa nd D, cAr nd 20 612 D, cAr nd 21 1152 D, cRk n nn gg C, cOr n nn gg f]) [2, 3, 4, 5, 6, 7, 8, 9, 10, 11, 12, 13, 14, 15, 16, 17, 18, 19, 20, 21, 22, 23, 24, 25] rfl rfl
        clear hed hfm hNm hNm1 hm hmq
        have hS1 : NS Z n nd nn gg C me f q u b uv h0 hp_2 D K A (pst Y (mg 4 me (nI i) (D 7 7) (D 7 8), fun _ => 0)) := ⟨hF, hN, hf, hn, hs, hp0, hu0⟩
        have hI1 : NI Z nn D := hI
        rw [← show G_35 nn gg C me f u b k (i + 1) D K A (pst Y (mg 4 me (nI i) (D 7 7) (D 7 8), fun _ => 0)) = G_35 nn gg C me f u b (k + 1) i D K A Y from eq_ifF cc1 (rfl)]
        exact ih (i + 1) hp_2 D K A (pst Y (mg 4 me (nI i) (D 7 7) (D 7 8), fun _ => 0)) (by omega) hS1 hI1
  show ax_A (ax_step L xs) ((35, 0, fr, lo), [(0, .ref (nd + 7))], [], h) _
  obtain ⟨hnd, hn0, hnn3, hnn, hgg1, hgg, hRg⟩ := hC
  refine ar_iconst 1 (v := 0) d_35_0 rfl (by decide) ?_
  refine ar_istore_n 2 [(0, .ref (nd + 7)), (1, .int 0)] d_35_1 rfl (by decide) rfl ?_
  exact key nn 0 h D K A Y (by omega) hS hI
def G_139 (nn gg : Nat) (C me : Int32) (f u b : Nat → Int32) (x : Int32) (a : Nat) : Nat → Nat → (Nat → Nat → Int32) → Int64 → Int64 → List Mg → SR
  | 0, i, D, K, A, Y =>
    (bcI x, D, K, A, Y)
  | k + 1, i, D, K, A, Y =>
    if ((x >>> ((nI i) &&& 31)) &&& 1) = 0 then
      G_139 nn gg C me f u b x a k (i + 1) D K A Y
    else
      G_139 nn gg C me f u b x a k (i + 1) D K A (pst Y (va_up (va_up (mg 9 me (nI (oneO ((D 17) a) nn nn ((D 7 13)).toNatClampNeg)) (D 7 7) (D 7 8)) 5 (tgA (D 11) (D 16) a)) 6 (nI i), fun _ => 0))
def F_139 (nn gg : Nat) (C me : Int32) (f u b : Nat → Int32) (D : Nat → Nat → Int32) (K A : Int64) (Y : List Mg) (x : Int32) (a : Nat) : SR :=
  if ¬ ((D 17) a) = 0 then
    G_139 nn gg C me f u b x a nn 0 D K A Y
  else
    (0, D, K, A, Y)
theorem s_139 {L : Nat} {xs : Nat → Int32} {fr lo : Nat} {Z : ZT} {n nd nn gg : Nat} {C me : Int32} {f : Nat → Int32} {q : Nat} {u b : Nat → Int32} {uv : Int32} {h0 h : ax_H} {D : Nat → Nat → Int32} {K A : Int64} {Y : List Mg} {x : Int32} {a : Nat} (hfr : 3 ≤ fr) (hlo : 80 ≤ lo) (hC : CS n nd nn gg f) (hS : NS Z n nd nn gg C me f q u b uv h0 h D K A Y) (hI : NI Z nn D) (ha : a < 961) : ax_M L xs 139 fr lo [.ref (nd + 7), .int x, .int (nI a)] h (fun r h' => ∃ y : Int32, r = some (.int y) ∧ PS Z n nd nn gg C me f q u b uv h0 h' (fun D' K' A' Y' => (y, D', K', A', Y') = F_139 nn gg C me f u b D K A Y x a ∧ True)) := by
  have hC0 := hC
  have key : ∀ (k i : Nat) (h : ax_H) (D : Nat → Nat → Int32) (K A : Int64) (Y : List Mg), i + k = nn → NS Z n nd nn gg C me f q u b uv h0 h D K A Y → NI Z nn D → ax_A (ax_step L xs) ((139, 16, fr, lo), [(0, .ref (nd + 7)), (1, .int x), (2, .int (nI a)), (3, .int (nI i))], [], h) (fun r h' => ∃ y : Int32, r = some (.int y) ∧ PS Z n nd nn gg C me f q u b uv h0 h' (fun D' K' A' Y' => (y, D', K', A', Y') = G_139 nn gg C me f u b x a k i D K A Y ∧ True)) := by
    intro k
    induction k with
    | zero =>
      intro i h D K A Y hi hS hI
      have e0 : i = nn := by omega
      obtain ⟨hnd, hn0, hnn3, hnn, hgg1, hgg, hRg⟩ := hC
      obtain ⟨hF, hN, hf, hn, hs, hp0, hu0⟩ := hS
      replace hF : ax_hs h [cNd n nd me D, cDk nd D, cAr nd 2 35840 D, cAr nd 3 4096 D, cAr nd 4 32 D, cAr nd 5 280 D, cAr nd 6 280 D, cLd n nd me D A, cAr nd 8 16 D, cAr nd 9 280 D, cTb nd gg D K, cAr nd 11 48 D, cAr nd 12 48 D, cAr nd 13 48 D, cAr nd 14 2400 D, cAr nd 15 512 D, cAr nd 16 961 D, cAr nd 17 961 D, cWk nd D, cWa nd D, cAr nd 20 612 D, cAr nd 21 1152 D, cRk n nn gg C, cOr n nn gg f] := hF
      refine ar_iload_n 17 d_139_16 rfl rfl ?_
      refine ar_aload_n 18 d_139_17 rfl rfl ?_
      refine ar_getf 21 d_139_18 rfl (ci := 9) (k := 1) rfl (hF.at 7 rfl) rfl ?_
      refine ar_getf 24 d_139_21 rfl (ci := 3) (k := 0) rfl (hF.at 22 rfl) rfl ?_
      refine ar_icmp_ge 96 27 d_139_24 (by decide) rfl (fun _ => ?_) (fun c => absurd (by rw [e0]; exact Int32.le_refl _) c)
      refine ar_iload_n 97 d_139_96 rfl rfl ?_
      refine ar_call (r := []) (na := 0) (kd := 0) (cm := 140) (fr2 := fr - 1) (lo2 := lo - 20) 100 d_139_97 (ar_hoS (as := [.int x]) rfl rfl rfl) rfl (by omega) (show lo - 20 + (19 + 1) = lo by omega) (Nat.le_of_ble_eq_true rfl) (Nat.le_of_ble_eq_true rfl) (c_140E) ?_
      intro v hh hq
      obtain ⟨rfl, ehh⟩ := hq
      rw [ehh]
      clear ehh
      have hS9 : NS Z n nd nn gg C me f q u b uv h0 h D K A Y := ⟨hF, hN, hf, hn, hs, hp0, hu0⟩
      have hI9 : NI Z nn D := hI
      exact ar_iret d_139_100 rfl rfl (⟨_, rfl, _, _, _, _, hS9, hI9, rfl, trivial⟩)
    | succ k ih =>
      intro i h D K A Y hi hS hI
      have hic : i < nn := by omega
      obtain ⟨hnd, hn0, hnn3, hnn, hgg1, hgg, hRg⟩ := hC
      obtain ⟨hF, hN, hf, hn, hs, hp0, hu0⟩ := hS
      replace hF : ax_hs h [cNd n nd me D, cDk nd D, cAr nd 2 35840 D, cAr nd 3 4096 D, cAr nd 4 32 D, cAr nd 5 280 D, cAr nd 6 280 D, cLd n nd me D A, cAr nd 8 16 D, cAr nd 9 280 D, cTb nd gg D K, cAr nd 11 48 D, cAr nd 12 48 D, cAr nd 13 48 D, cAr nd 14 2400 D, cAr nd 15 512 D, cAr nd 16 961 D, cAr nd 17 961 D, cWk nd D, cWa nd D, cAr nd 20 612 D, cAr nd 21 1152 D, cRk n nn gg C, cOr n nn gg f] := hF
      refine ar_iload_n 17 d_139_16 rfl rfl ?_
      refine ar_aload_n 18 d_139_17 rfl rfl ?_
      refine ar_getf 21 d_139_18 rfl (ci := 9) (k := 1) rfl (hF.at 7 rfl) rfl ?_
      refine ar_getf 24 d_139_21 rfl (ci := 3) (k := 0) rfl (hF.at 22 rfl) rfl ?_
      refine ar_icmp_ge 96 27 d_139_24 (by decide) rfl (fun c => absurd c (nI_ge hic (by omega))) (fun _ => ?_)
      refine ar_iload_n 28 d_139_27 rfl rfl ?_
      refine ar_iload_n 29 d_139_28 rfl rfl ?_
      refine ar_ishr 30 d_139_29 rfl ?_
      refine ar_iconst 31 (v := 1) d_139_30 rfl (by decide) ?_
      refine ar_iand 32 d_139_31 rfl ?_
      refine ar_if_eq 90 35 d_139_32 (by decide) rfl (fun cc1 => ?_) (fun cc1 => ?_)
      · refine ar_iinc 93 [(0, .ref (nd + 7)), (1, .int x), (2, .int (nI a)), (3, .int (nI (i + 1)))] d_139_90 rfl rfl (nI_1 i) (by decide) rfl ?_
        refine ar_goto 16 d_139_93 (by decide) ?_
        have hS1 : NS Z n nd nn gg C me f q u b uv h0 h D K A Y := ⟨hF, hN, hf, hn, hs, hp0, hu0⟩
        have hI1 : NI Z nn D := hI
        rw [← show G_139 nn gg C me f u b x a k (i + 1) D K A Y = G_139 nn gg C me f u b x a (k + 1) i D K A Y from eq_ifT cc1 (rfl)]
        exact ih (i + 1) h D K A Y (by omega) hS1 hI1
      · refine ar_aload_n 36 d_139_35 rfl rfl ?_
        refine ar_getf 39 d_139_36 rfl (ci := 9) (k := 2) rfl (hF.at 7 rfl) rfl ?_
        refine ar_bipush 41 (v := 9) d_139_39 rfl (by decide) ?_
        refine ar_aload_n 42 d_139_41 rfl rfl ?_
        refine ar_getf 45 d_139_42 rfl (ci := 9) (k := 0) rfl (hF.at 7 rfl) rfl ?_
        refine ar_aload_n 46 d_139_45 rfl rfl ?_
        refine ar_aload_n 47 d_139_46 rfl rfl ?_
        refine ar_getf 50 d_139_47 rfl (ci := 9) (k := 3) rfl (hF.at 7 rfl) rfl ?_
        refine ar_getf 53 d_139_50 rfl (ci := 6) (k := 7) rfl (hF.at 10 rfl) rfl ?_
        refine ar_iload_n 54 d_139_53 rfl rfl ?_
        refine ar_ialdN 55 (e := a) d_139_54 rfl (hF.at 17 rfl) (by omega) (by omega) ?_
        refine ar_call (r := [.int me, .int 9, .ref n]) (na := 0) (kd := 0) (cm := 127) (fr2 := fr - 1) (lo2 := lo - 23) 58 d_139_55 (ar_hoV (as := [.int ((D 17) a)]) rfl rfl rfl (hF.at 7 rfl)) rfl (by omega) (show lo - 23 + (19 + 4) = lo by omega) (Nat.le_of_ble_eq_true rfl) (Nat.le_of_ble_eq_true rfl) (c_127E hnn (by omega) hI.2.2.2.2 (hF.at 7 rfl) (hF.at 22 rfl)) ?_
        intro v hh hq
        obtain ⟨rfl, ehh⟩ := hq
        rw [ehh]
        clear ehh
        have hv2 : oneO ((D 17) a) nn nn ((D 7 13)).toNatClampNeg < nn := oneO_lt ((D 17) a) (by omega) nn _ (inR_cl hI.2.2.2.2)
        refine ar_aload_n 59 d_139_58 rfl rfl ?_
        refine ar_getf 62 d_139_59 rfl (ci := 9) (k := 7) rfl (hF.at 7 rfl) rfl ?_
        refine ar_aload_n 63 d_139_62 rfl rfl ?_
        refine ar_getf 66 d_139_63 rfl (ci := 9) (k := 8) rfl (hF.at 7 rfl) rfl ?_
        obtain ⟨zk, za, zc, hnet⟩ := hN.net
        refine ar_call (r := []) (na := 0) (kd := 0) (cm := 36) (fr2 := fr - 1) (lo2 := lo - 26) 69 d_139_66 (ar_hoV (as := [.int 9, .int me, .int (nI (oneO ((D 17) a) nn nn ((D 7 13)).toNatClampNeg)), .int (D 7 7), .int (D 7 8)]) rfl rfl rfl hnet) rfl (by omega) (show lo - 26 + (19 + 7) = lo by omega) (Nat.le_of_ble_eq_true rfl) (Nat.le_of_ble_eq_true rfl) (hN.post) ?_
        intro v hp_3 hq
        obtain ⟨m, bm, hm, hmq, rfl, hmm, hed, hf2, hz1, hz2⟩ := hq
        have hNm : NTA n (n + 1) (n + 1 + 1 + 2 * m) := Or.inr (by omega)
        have hNm1 : NTA n (n + 1) (n + 1 + 1 + 2 * m + 1) := Or.inr (by omega)
        replace hF : ax_hs hp_3 [cNd n nd me D, cDk nd D, cAr nd 2 35840 D, cAr nd 3 4096 D, cAr nd 4 32 D, cAr nd 5 280 D, cAr nd 6 280 D, cLd n nd me D A, cAr nd 8 16 D, cAr nd 9 280 D, cTb nd gg D K, cAr nd 11 48 D, cAr nd 12 48 D, cAr nd 13 48 D, cAr nd 14 2400 D, cAr nd 15 512 D, cAr nd 16 961 D, cAr nd 17 961 D, cWk nd D, cWa nd D, cAr nd 20 612 D, cAr nd 21 1152 D, cRk n nn gg C, cOr n nn gg f] := hF.fr hf2 (far (n := n) (nd := nd) rfl hnd)
        replace hF : ax_hs hp_3 [(n + 1 + 1 + 2 * m, .inr (2, [.int 9, .int me, .int (nI (oneO ((D 17) a) nn nn ((D 7 13)).toNatClampNeg)), .int (D 7 7), .int (D 7 8), .int (-1), .int 0, .int 0, .ref (n + 1 + 1 + 2 * m + 1)])), (n + 1 + 1 + 2 * m + 1, .inl (0, 617, .inl bm)), cNd n nd me D, cDk nd D, cAr nd 2 35840 D, cAr nd 3 4096 D, cAr nd 4 32 D, cAr nd 5 280 D, cAr nd 6 280 D, cLd n nd me D A, cAr nd 8 16 D, cAr nd 9 280 D, cTb nd gg D K, cAr nd 11 48 D, cAr nd 12 48 D, cAr nd 13 48 D, cAr nd 14 2400 D, cAr nd 15 512 D, cAr nd 16 961 D, cAr nd 17 961 D, cWk nd D, cWa nd D, cAr nd 20 612 D, cAr nd 21 1152 D, cRk n nn gg C, cOr n nn gg f] := hF.msg (far (n := n) (nd := nd) rfl hnd) hm hmm
        replace hf := hf.trC hf2 (fun _ _ z => Or.inl z)
        replace hn : hp_3.1 = h0.1 := by omega
        replace hs : hp_3.2.1 = h0.2.1 := by omega
        have hfm : ax_fr (fun x => x = n + 1 + 1 + 2 * m ∨ x = n + 1 + 1 + 2 * m + 1) hp_3 hp_3 := ax_fr.rf
        clear hN hnet hf2 hz1 hz2 hmm
        refine ar_astore 71 [(0, .ref (nd + 7)), (1, .int x), (2, .int (nI a)), (3, .int (nI i)), (4, .ref (n + 1 + 1 + 2 * m))] d_139_69 rfl (by decide) rfl ?_
        refine ar_aload 73 d_139_71 rfl rfl ?_
        refine ar_aload_n 74 d_139_73 rfl rfl ?_
        refine ar_getf 77 d_139_74 rfl (ci := 9) (k := 3) rfl (hF.at 9 rfl) rfl ?_
        refine ar_iload_n 78 d_139_77 rfl rfl ?_
        refine ar_call (r := [.ref (n + 1 + 1 + 2 * m)]) (na := 0) (kd := 0) (cm := 116) (fr2 := fr - 1) (lo2 := lo - 22) 81 d_139_78 (ar_hoV (as := [.int (nI a)]) rfl rfl rfl (hF.at 12 rfl)) rfl (by omega) (show lo - 22 + (19 + 3) = lo by omega) (Nat.le_of_ble_eq_true rfl) (Nat.le_of_ble_eq_true rfl) (c_116 (a := a) (by omega) (hF.at 12 rfl) (hF.at 13 rfl) (hF.at 18 rfl)) ?_
        intro v hh hq
        obtain ⟨rfl, ehh⟩ := hq
        rw [ehh]
        clear ehh
        refine ar_putf 84 [.int 9, .int me, .int (nI (oneO ((D 17) a) nn nn ((D 7 13)).toNatClampNeg)), .int (D 7 7), .int (D 7 8), .int (tgA (D 11) (D 16) a), .int 0, .int 0, .ref (n + 1 + 1 + 2 * m + 1)] d_139_81 rfl (ci := 2) (k := 5) rfl rfl (hF.at 0 rfl) (Nat.le_of_ble_eq_true rfl) rfl rfl rfl ?_
        replace hF : ax_hs (ax_put hp_3 (n + 1 + 1 + 2 * m) (.inr (2, [.int 9, .int me, .int (nI (oneO ((D 17) a) nn nn ((D 7 13)).toNatClampNeg)), .int (D 7 7), .int (D 7 8), .int (tgA (D 11) (D 16) a), .int 0, .int 0, .ref (n + 1 + 1 + 2 * m + 1)]))) [(n + 1 + 1 + 2 * m, .inr (2, [.int 9, .int me, .int (nI (oneO ((D 17) a) nn nn ((D 7 13)).toNatClampNeg)), .int (D 7 7), .int (D 7 8), .int (tgA (D 11) (D 16) a), .int 0, .int 0, .ref (n + 1 + 1 + 2 * m + 1)])), (n + 1 + 1 + 2 * m + 1, .inl (0, 617, .inl bm)), cNd n nd me D, cDk nd D, cAr nd 2 35840 D, cAr nd 3 4096 D, cAr nd 4 32 D, cAr nd 5 280 D, cAr nd 6 280 D, cLd n nd me D A, cAr nd 8 16 D, cAr nd 9 280 D, cTb nd gg D K, cAr nd 11 48 D, cAr nd 12 48 D, cAr nd 13 48 D, cAr nd 14 2400 D, cAr nd 15 512 D, cAr nd 16 961 D, cAr nd 17 961 D, cWk nd D, cWa nd D, cAr nd 20 612 D, cAr nd 21 1152 D, cRk n nn gg C, cOr n nn gg f] := hF.put 0 _ rfl rfl
        replace hf := hf.put (a := n + 1 + 1 + 2 * m) (c := .inr (2, [.int 9, .int me, .int (nI (oneO ((D 17) a) nn nn ((D 7 13)).toNatClampNeg)), .int (D 7 7), .int (D 7 8), .int (tgA (D 11) (D 16) a), .int 0, .int 0, .ref (n + 1 + 1 + 2 * m + 1)])) (Or.inl hNm)
        replace hfm := hfm.put (a := n + 1 + 1 + 2 * m) (c := .inr (2, [.int 9, .int me, .int (nI (oneO ((D 17) a) nn nn ((D 7 13)).toNatClampNeg)), .int (D 7 7), .int (D 7 8), .int (tgA (D 11) (D 16) a), .int 0, .int 0, .ref (n + 1 + 1 + 2 * m + 1)])) (Or.inl rfl)
        replace hn : (ax_put hp_3 (n + 1 + 1 + 2 * m) (.inr (2, [.int 9, .int me, .int (nI (oneO ((D 17) a) nn nn ((D 7 13)).toNatClampNeg)), .int (D 7 7), .int (D 7 8), .int (tgA (D 11) (D 16) a), .int 0, .int 0, .ref (n + 1 + 1 + 2 * m + 1)]))).1 = h0.1 := hn
        replace hs : (ax_put hp_3 (n + 1 + 1 + 2 * m) (.inr (2, [.int 9, .int me, .int (nI (oneO ((D 17) a) nn nn ((D 7 13)).toNatClampNeg)), .int (D 7 7), .int (D 7 8), .int (tgA (D 11) (D 16) a), .int 0, .int 0, .ref (n + 1 + 1 + 2 * m + 1)]))).2.1 = h0.2.1 := hs
        generalize ax_put hp_3 (n + 1 + 1 + 2 * m) (.inr (2, [.int 9, .int me, .int (nI (oneO ((D 17) a) nn nn ((D 7 13)).toNatClampNeg)), .int (D 7 7), .int (D 7 8), .int (tgA (D 11) (D 16) a), .int 0, .int 0, .ref (n + 1 + 1 + 2 * m + 1)])) = hp_4 at hF hf hfm hn hs ⊢
        refine ar_aload 86 d_139_84 rfl rfl ?_
        refine ar_iload_n 87 d_139_86 rfl rfl ?_
        refine ar_putf 90 [.int 9, .int me, .int (nI (oneO ((D 17) a) nn nn ((D 7 13)).toNatClampNeg)), .int (D 7 7), .int (D 7 8), .int (tgA (D 11) (D 16) a), .int (nI i), .int 0, .ref (n + 1 + 1 + 2 * m + 1)] d_139_87 rfl (ci := 2) (k := 6) rfl rfl (hF.at 0 rfl) (Nat.le_of_ble_eq_true rfl) rfl rfl rfl ?_
        replace hF : ax_hs (ax_put hp_4 (n + 1 + 1 + 2 * m) (.inr (2, [.int 9, .int me, .int (nI (oneO ((D 17) a) nn nn ((D 7 13)).toNatClampNeg)), .int (D 7 7), .int (D 7 8), .int (tgA (D 11) (D 16) a), .int (nI i), .int 0, .ref (n + 1 + 1 + 2 * m + 1)]))) [(n + 1 + 1 + 2 * m, .inr (2, [.int 9, .int me, .int (nI (oneO ((D 17) a) nn nn ((D 7 13)).toNatClampNeg)), .int (D 7 7), .int (D 7 8), .int (tgA (D 11) (D 16) a), .int (nI i), .int 0, .ref (n + 1 + 1 + 2 * m + 1)])), (n + 1 + 1 + 2 * m + 1, .inl (0, 617, .inl bm)), cNd n nd me D, cDk nd D, cAr nd 2 35840 D, cAr nd 3 4096 D, cAr nd 4 32 D, cAr nd 5 280 D, cAr nd 6 280 D, cLd n nd me D A, cAr nd 8 16 D, cAr nd 9 280 D, cTb nd gg D K, cAr nd 11 48 D, cAr nd 12 48 D, cAr nd 13 48 D, cAr nd 14 2400 D, cAr nd 15 512 D, cAr nd 16 961 D, cAr nd 17 961 D, cWk nd D, cWa nd D, cAr nd 20 612 D, cAr nd 21 1152 D, cRk n nn gg C, cOr n nn gg f] := hF.put 0 _ rfl rfl
        replace hf := hf.put (a := n + 1 + 1 + 2 * m) (c := .inr (2, [.int 9, .int me, .int (nI (oneO ((D 17) a) nn nn ((D 7 13)).toNatClampNeg)), .int (D 7 7), .int (D 7 8), .int (tgA (D 11) (D 16) a), .int (nI i), .int 0, .ref (n + 1 + 1 + 2 * m + 1)])) (Or.inl hNm)
        replace hfm := hfm.put (a := n + 1 + 1 + 2 * m) (c := .inr (2, [.int 9, .int me, .int (nI (oneO ((D 17) a) nn nn ((D 7 13)).toNatClampNeg)), .int (D 7 7), .int (D 7 8), .int (tgA (D 11) (D 16) a), .int (nI i), .int 0, .ref (n + 1 + 1 + 2 * m + 1)])) (Or.inl rfl)
        replace hn : (ax_put hp_4 (n + 1 + 1 + 2 * m) (.inr (2, [.int 9, .int me, .int (nI (oneO ((D 17) a) nn nn ((D 7 13)).toNatClampNeg)), .int (D 7 7), .int (D 7 8), .int (tgA (D 11) (D 16) a), .int (nI i), .int 0, .ref (n + 1 + 1 + 2 * m + 1)]))).1 = h0.1 := hn
        replace hs : (ax_put hp_4 (n + 1 + 1 + 2 * m) (.inr (2, [.int 9, .int me, .int (nI (oneO ((D 17) a) nn nn ((D 7 13)).toNatClampNeg)), .int (D 7 7), .int (D 7 8), .int (tgA (D 11) (D 16) a), .int (nI i), .int 0, .ref (n + 1 + 1 + 2 * m + 1)]))).2.1 = h0.2.1 := hs
        generalize ax_put hp_4 (n + 1 + 1 + 2 * m) (.inr (2, [.int 9, .int me, .int (nI (oneO ((D 17) a) nn nn ((D 7 13)).toNatClampNeg)), .int (D 7 7), .int (D 7 8), .int (tgA (D 11) (D 16) a), .int (nI i), .int 0, .ref (n + 1 + 1 + 2 * m + 1)])) = hp_5 at hF hf hfm hn hs ⊢
        refine ar_iinc 93 [(0, .ref (nd + 7)), (1, .int x), (2, .int (nI a)), (3, .int (nI (i + 1))), (4, .ref (n + 1 + 1 + 2 * m))] d_139_90 rfl rfl (nI_1 i) (by decide) rfl ?_
        refine ar_goto 16 d_139_93 (by decide) ?_
        have hN : NeT Z hp_5 n q u b (pst Y (va_up (va_up (mg 9 me (nI (oneO ((D 17) a) nn nn ((D 7 13)).toNatClampNeg)) (D 7 7) (D 7 8)) 5 (tgA (D 11) (D 16) a)) 6 (nI i), fun _ => 0)) := hed _ (va_up (va_up (mg 9 me (nI (oneO ((D 17) a) nn nn ((D 7 13)).toNatClampNeg)) (D 7 7) (D 7 8)) 5 (tgA (D 11) (D 16) a)) 6 (nI i)) bm _ hfm ⟨hF.at 0 rfl, hF.at 1 rfl⟩ (MI.head (Or.inr (Or.inr (Or.inr (Or.inr (Or.inr (rfl))))))) (smM.head (Or.inr (Or.inr (Or.inr (Or.inr (Or.inr (rfl)))))))
        replace hF := hF.sub (F' := [cNd n nd me D, cDk nd D, cAr nd 2 35840 D, cAr nd 3 4096 D, cAr nd 4 32 D, cAr nd 5 280 D, cAr nd 6 280 D, cLd n nd me D A, cAr nd 8 16 D, cAr nd 9 280 D, cTb nd gg D K, cAr nd 11 48 D, cAr nd 12 48 D, cAr nd 13 48 D, cAr nd 14 2400 D, cAr nd 15 512 D, cAr nd 16 961 D, cAr nd 17 961 D, cWk nd D, cWa nd D, cAr nd 20 612 D, cAr nd 21 1152 D, cRk n nn gg C, cOr n nn gg f]) [2, 3, 4, 5, 6, 7, 8, 9, 10, 11, 12, 13, 14, 15, 16, 17, 18, 19, 20, 21, 22, 23, 24, 25] rfl rfl
        clear hed hfm hNm hNm1 hm hmq
        refine ar_wk [0, 1, 2, 3] rfl (by simp) ?_
        have hS1 : NS Z n nd nn gg C me f q u b uv h0 hp_5 D K A (pst Y (va_up (va_up (mg 9 me (nI (oneO ((D 17) a) nn nn ((D 7 13)).toNatClampNeg)) (D 7 7) (D 7 8)) 5 (tgA (D 11) (D 16) a)) 6 (nI i), fun _ => 0)) := ⟨hF, hN, hf, hn, hs, hp0, hu0⟩
        have hI1 : NI Z nn D := hI
        rw [← show G_139 nn gg C me f u b x a k (i + 1) D K A (pst Y (va_up (va_up (mg 9 me (nI (oneO ((D 17) a) nn nn ((D 7 13)).toNatClampNeg)) (D 7 7) (D 7 8)) 5 (tgA (D 11) (D 16) a)) 6 (nI i), fun _ => 0)) = G_139 nn gg C me f u b x a (k + 1) i D K A Y from eq_ifF cc1 (rfl)]
        exact ih (i + 1) hp_5 D K A (pst Y (va_up (va_up (mg 9 me (nI (oneO ((D 17) a) nn nn ((D 7 13)).toNatClampNeg)) (D 7 7) (D 7 8)) 5 (tgA (D 11) (D 16) a)) 6 (nI i), fun _ => 0)) (by omega) hS1 hI1
  show ax_A (ax_step L xs) ((139, 0, fr, lo), [(0, .ref (nd + 7)), (1, .int x), (2, .int (nI a))], [], h) _
  have hS0 := hS
  obtain ⟨hnd, hn0, hnn3, hnn, hgg1, hgg, hRg⟩ := hC
  obtain ⟨hF, hN, hf, hn, hs, hp0, hu0⟩ := hS
  replace hF : ax_hs h [cNd n nd me D, cDk nd D, cAr nd 2 35840 D, cAr nd 3 4096 D, cAr nd 4 32 D, cAr nd 5 280 D, cAr nd 6 280 D, cLd n nd me D A, cAr nd 8 16 D, cAr nd 9 280 D, cTb nd gg D K, cAr nd 11 48 D, cAr nd 12 48 D, cAr nd 13 48 D, cAr nd 14 2400 D, cAr nd 15 512 D, cAr nd 16 961 D, cAr nd 17 961 D, cWk nd D, cWa nd D, cAr nd 20 612 D, cAr nd 21 1152 D, cRk n nn gg C, cOr n nn gg f] := hF
  refine ar_aload_n 1 d_139_0 rfl rfl ?_
  refine ar_getf 4 d_139_1 rfl (ci := 9) (k := 3) rfl (hF.at 7 rfl) rfl ?_
  refine ar_getf 7 d_139_4 rfl (ci := 6) (k := 7) rfl (hF.at 10 rfl) rfl ?_
  refine ar_iload_n 8 d_139_7 rfl rfl ?_
  refine ar_ialdN 9 (e := a) d_139_8 rfl (hF.at 17 rfl) (by omega) (by omega) ?_
  refine ar_if_ne 14 12 d_139_9 (by decide) rfl (fun cc1 => ?_) (fun cc1 => ?_)
  · refine ar_iconst 15 (v := 0) d_139_14 rfl (by decide) ?_
    refine ar_istore_n 16 [(0, .ref (nd + 7)), (1, .int x), (2, .int (nI a)), (3, .int 0)] d_139_15 rfl (by decide) rfl ?_
    rw [← show G_139 nn gg C me f u b x a nn 0 D K A Y = F_139 nn gg C me f u b D K A Y x a from eq_ifT cc1 (rfl)]
    exact key nn 0 h D K A Y (by omega) hS0 hI
  · refine ar_iconst 13 (v := 0) d_139_12 rfl (by decide) ?_
    have hS9 : NS Z n nd nn gg C me f q u b uv h0 h D K A Y := ⟨hF, hN, hf, hn, hs, hp0, hu0⟩
    have hI9 : NI Z nn D := hI
    exact ar_iret d_139_13 rfl rfl (⟨_, rfl, _, _, _, _, hS9, hI9, eq_ifF cc1 (rfl), trivial⟩)
def G_138 (nn gg : Nat) (C me : Int32) (f u b : Nat → Int32)  : Nat → Nat → Int32 → (Nat → Nat → Int32) → Int64 → Int64 → List Mg → St
  | 0, i, oo, D, K, A, Y =>
    (D, K, A, Y)
  | k + 1, i, oo, D, K, A, Y =>
    bnN ((D 7 12).toNatClampNeg) (fun a =>
      if 24 ≤ oo then
        (D, K, A, Y)
      else
        if ((D 16) a) < 0 then
          G_138 nn gg C me f u b k (i + 1) oo (va_up D 7 (upd (D 7) 12 (nI ((a + 1) % 961)))) K A Y
        else
          if ¬ (sfB (D 8) (D 11) (D 16) (D 17) gg a) = 0 then
            G_138 nn gg C me f u b k (i + 1) oo (va_up D 7 (upd (D 7) 12 (nI ((a + 1) % 961)))) K A Y
          else
            bnR (F_139 nn gg C me f u b (va_up D 7 (upd (upd (D 7) 12 (nI ((a + 1) % 961))) 14 0)) K A Y ((((D 8) (grp (D 11) gg a)) &&& (((D 17) a) ^^^ (-1))) &&& (D 7 9)) a) (fun y7 D8 K8 A8 Y8 =>
              G_138 nn gg C me f u b k (i + 1) (oo + y7) D8 K8 A8 Y8))
def F_138 (nn gg : Nat) (C me : Int32) (f u b : Nat → Int32) (D : Nat → Nat → Int32) (K A : Int64) (Y : List Mg)  : St :=
  G_138 nn gg C me f u b 961 0 0 (va_up D 7 (upd (D 7) 14 1)) K A Y
theorem s_138 {L : Nat} {xs : Nat → Int32} {fr lo : Nat} {Z : ZT} {n nd nn gg : Nat} {C me : Int32} {f : Nat → Int32} {q : Nat} {u b : Nat → Int32} {uv : Int32} {h0 h : ax_H} {D : Nat → Nat → Int32} {K A : Int64} {Y : List Mg}  (hfr : 5 ≤ fr) (hlo : 130 ≤ lo) (hC : CS n nd nn gg f) (hS : NS Z n nd nn gg C me f q u b uv h0 h D K A Y) (hI : NI Z nn D) : ax_M L xs 138 fr lo [.ref (nd + 7)] h (fun r h' => r = none ∧ PS Z n nd nn gg C me f q u b uv h0 h' (fun D' K' A' Y' => (D', K', A', Y') = F_138 nn gg C me f u b D K A Y ∧ True)) := by
  have hC0 := hC
  have key : ∀ (k i : Nat) (oo : Int32) (h : ax_H) (D : Nat → Nat → Int32) (K A : Int64) (Y : List Mg), i + k = 961 → NS Z n nd nn gg C me f q u b uv h0 h D K A Y → NI Z nn D → ax_A (ax_step L xs) ((138, 9, fr, lo), [(0, .ref (nd + 7)), (1, .int oo), (2, .int (nI i))], [], h) (fun r h' => r = none ∧ PS Z n nd nn gg C me f q u b uv h0 h' (fun D' K' A' Y' => (D', K', A', Y') = G_138 nn gg C me f u b k i oo D K A Y ∧ True)) := by
    intro k
    induction k with
    | zero =>
      intro i oo h D K A Y hi hS hI
      have e0 : i = 961 := by omega
      subst e0
      obtain ⟨hnd, hn0, hnn3, hnn, hgg1, hgg, hRg⟩ := hC
      obtain ⟨hF, hN, hf, hn, hs, hp0, hu0⟩ := hS
      replace hF : ax_hs h [cNd n nd me D, cDk nd D, cAr nd 2 35840 D, cAr nd 3 4096 D, cAr nd 4 32 D, cAr nd 5 280 D, cAr nd 6 280 D, cLd n nd me D A, cAr nd 8 16 D, cAr nd 9 280 D, cTb nd gg D K, cAr nd 11 48 D, cAr nd 12 48 D, cAr nd 13 48 D, cAr nd 14 2400 D, cAr nd 15 512 D, cAr nd 16 961 D, cAr nd 17 961 D, cWk nd D, cWa nd D, cAr nd 20 612 D, cAr nd 21 1152 D, cRk n nn gg C, cOr n nn gg f] := hF
      refine ar_iload_n 10 d_138_9 rfl rfl ?_
      refine ar_sipush 13 (v := 961) d_138_10 rfl (by decide) ?_
      refine ar_icmp_ge 110 16 d_138_13 (by decide) rfl (fun _ => ?_) (fun c => absurd (Int32.le_refl _) c)
      have hS9 : NS Z n nd nn gg C me f q u b uv h0 h D K A Y := ⟨hF, hN, hf, hn, hs, hp0, hu0⟩
      have hI9 : NI Z nn D := hI
      exact ar_ret d_138_110 rfl (⟨rfl, _, _, _, _, hS9, hI9, rfl, trivial⟩)
    | succ k ih =>
      intro i oo h D K A Y hi hS hI
      have hic : i < 961 := by omega
      obtain ⟨a, ha, ea⟩ := hI.2.2.2.1
      obtain ⟨hnd, hn0, hnn3, hnn, hgg1, hgg, hRg⟩ := hC
      obtain ⟨hF, hN, hf, hn, hs, hp0, hu0⟩ := hS
      replace hF : ax_hs h [cNd n nd me D, cDk nd D, cAr nd 2 35840 D, cAr nd 3 4096 D, cAr nd 4 32 D, cAr nd 5 280 D, cAr nd 6 280 D, cLd n nd me D A, cAr nd 8 16 D, cAr nd 9 280 D, cTb nd gg D K, cAr nd 11 48 D, cAr nd 12 48 D, cAr nd 13 48 D, cAr nd 14 2400 D, cAr nd 15 512 D, cAr nd 16 961 D, cAr nd 17 961 D, cWk nd D, cWa nd D, cAr nd 20 612 D, cAr nd 21 1152 D, cRk n nn gg C, cOr n nn gg f] := hF
      refine ar_iload_n 10 d_138_9 rfl rfl ?_
      refine ar_sipush 13 (v := 961) d_138_10 rfl (by decide) ?_
      refine ar_icmp_ge 110 16 d_138_13 (by decide) rfl (fun c => absurd c (nI_ge hic (by decide))) (fun _ => ?_)
      refine ar_iload_n 17 d_138_16 rfl rfl ?_
      refine ar_bipush 19 (v := 24) d_138_17 rfl (by decide) ?_
      refine ar_icmp_ge 110 22 d_138_19 (by decide) rfl (fun cc1 => ?_) (fun cc1 => ?_)
      · have hS9 : NS Z n nd nn gg C me f q u b uv h0 h D K A Y := ⟨hF, hN, hf, hn, hs, hp0, hu0⟩
        have hI9 : NI Z nn D := hI
        exact ar_ret d_138_110 rfl (⟨rfl, _, _, _, _, hS9, hI9, bnN_eq (cl_eq ha ea) (eq_ifT cc1 (rfl)), trivial⟩)
      · refine ar_aload_n 23 d_138_22 rfl rfl ?_
        refine ar_getf 26 d_138_23 rfl (ci := 9) (k := 12) rfl (hF.at 7 rfl) rfl ?_
        refine ar_top (x' := nI a) (ea) ?_
        refine ar_istore_n 27 [(0, .ref (nd + 7)), (1, .int oo), (2, .int (nI i)), (3, .int (nI a))] d_138_26 rfl (by decide) rfl ?_
        refine ar_aload_n 28 d_138_27 rfl rfl ?_
        refine ar_aload_n 29 d_138_28 rfl rfl ?_
        refine ar_getf 32 d_138_29 rfl (ci := 9) (k := 12) rfl (hF.at 7 rfl) rfl ?_
        refine ar_top (x' := nI a) (ea) ?_
        refine ar_iconst 33 (v := 1) d_138_32 rfl (by decide) ?_
        refine ar_iadd 34 d_138_33 rfl ?_
        refine ar_top (x' := nI (a + 1)) (nI_1 a) ?_
        refine ar_sipush 37 (v := 961) d_138_34 rfl (by decide) ?_
        refine ar_irem 38 d_138_37 rfl (by decide) ?_
        refine ar_top (x' := nI ((a + 1) % 961)) (pk_rem (d := 961) (by omega) (by omega) (by omega)) ?_
        refine ar_putf 41 [.int me, .ref (n + 264), .ref n, .ref (nd + 10), .ref (nd + 18), .ref (nd + 8), .ref (nd + 9), .int (D 7 7), .int (D 7 8), .int (D 7 9), .int (D 7 10), .long A, .int (nI ((a + 1) % 961)), .int (D 7 13), .int (D 7 14)] d_138_38 rfl (ci := 9) (k := 12) rfl rfl (hF.at 7 rfl) (Nat.le_of_ble_eq_true rfl) rfl rfl rfl ?_
        replace hF : ax_hs (ax_put h (nd + 7) (.inr (9, [.int me, .ref (n + 264), .ref n, .ref (nd + 10), .ref (nd + 18), .ref (nd + 8), .ref (nd + 9), .int (D 7 7), .int (D 7 8), .int (D 7 9), .int (D 7 10), .long A, .int (nI ((a + 1) % 961)), .int (D 7 13), .int (D 7 14)]))) [cNd n nd me D, cDk nd D, cAr nd 2 35840 D, cAr nd 3 4096 D, cAr nd 4 32 D, cAr nd 5 280 D, cAr nd 6 280 D, (nd + 7, .inr (9, [.int me, .ref (n + 264), .ref n, .ref (nd + 10), .ref (nd + 18), .ref (nd + 8), .ref (nd + 9), .int (D 7 7), .int (D 7 8), .int (D 7 9), .int (D 7 10), .long A, .int (nI ((a + 1) % 961)), .int (D 7 13), .int (D 7 14)])), cAr nd 8 16 D, cAr nd 9 280 D, cTb nd gg D K, cAr nd 11 48 D, cAr nd 12 48 D, cAr nd 13 48 D, cAr nd 14 2400 D, cAr nd 15 512 D, cAr nd 16 961 D, cAr nd 17 961 D, cWk nd D, cWa nd D, cAr nd 20 612 D, cAr nd 21 1152 D, cRk n nn gg C, cOr n nn gg f] := hF.put 7 _ rfl rfl
        replace hf := hf.put (a := nd + 7) (c := .inr (9, [.int me, .ref (n + 264), .ref n, .ref (nd + 10), .ref (nd + 18), .ref (nd + 8), .ref (nd + 9), .int (D 7 7), .int (D 7 8), .int (D 7 9), .int (D 7 10), .long A, .int (nI ((a + 1) % 961)), .int (D 7 13), .int (D 7 14)])) (Or.inr (by omega))
        replace hN := hN.put (a := nd + 7) (c := .inr (9, [.int me, .ref (n + 264), .ref n, .ref (nd + 10), .ref (nd + 18), .ref (nd + 8), .ref (nd + 9), .int (D 7 7), .int (D 7 8), .int (D 7 9), .int (D 7 10), .long A, .int (nI ((a + 1) % 961)), .int (D 7 13), .int (D 7 14)])) (by omega)
        replace hn : (ax_put h (nd + 7) (.inr (9, [.int me, .ref (n + 264), .ref n, .ref (nd + 10), .ref (nd + 18), .ref (nd + 8), .ref (nd + 9), .int (D 7 7), .int (D 7 8), .int (D 7 9), .int (D 7 10), .long A, .int (nI ((a + 1) % 961)), .int (D 7 13), .int (D 7 14)]))).1 = h0.1 := hn
        replace hs : (ax_put h (nd + 7) (.inr (9, [.int me, .ref (n + 264), .ref n, .ref (nd + 10), .ref (nd + 18), .ref (nd + 8), .ref (nd + 9), .int (D 7 7), .int (D 7 8), .int (D 7 9), .int (D 7 10), .long A, .int (nI ((a + 1) % 961)), .int (D 7 13), .int (D 7 14)]))).2.1 = h0.2.1 := hs
        generalize ax_put h (nd + 7) (.inr (9, [.int me, .ref (n + 264), .ref n, .ref (nd + 10), .ref (nd + 18), .ref (nd + 8), .ref (nd + 9), .int (D 7 7), .int (D 7 8), .int (D 7 9), .int (D 7 10), .long A, .int (nI ((a + 1) % 961)), .int (D 7 13), .int (D 7 14)])) = hp_2 at hF hf hN hn hs ⊢
        refine ar_aload_n 42 d_138_41 rfl rfl ?_
        refine ar_getf 45 d_138_42 rfl (ci := 9) (k := 3) rfl (hF.at 7 rfl) rfl ?_
        refine ar_getf 48 d_138_45 rfl (ci := 6) (k := 6) rfl (hF.at 10 rfl) rfl ?_
        refine ar_iload_n 49 d_138_48 rfl rfl ?_
        refine ar_ialdN 50 (e := a) d_138_49 rfl (hF.at 16 rfl) (by omega) (by omega) ?_
        refine ar_if_lt 104 53 d_138_50 (by decide) rfl (fun cc3 => ?_) (fun cc3 => ?_)
        · refine ar_iinc 107 [(0, .ref (nd + 7)), (1, .int oo), (2, .int (nI (i + 1))), (3, .int (nI a))] d_138_104 rfl rfl (nI_1 i) (by decide) rfl ?_
          refine ar_goto 9 d_138_107 (by decide) ?_
          refine ar_wk [0, 1, 2] rfl (by simp) ?_
          have hS1 : NS Z n nd nn gg C me f q u b uv h0 hp_2 (va_up D 7 (upd (D 7) 12 (nI ((a + 1) % 961)))) K A Y := ⟨hF, hN, hf, hn, hs, hp0, hu0⟩
          have hI1 : NI Z nn (va_up D 7 (upd (D 7) 12 (nI ((a + 1) % 961)))) := ⟨hI.1, hI.2.1, hI.2.2.1, ⟨(a + 1) % 961, Nat.mod_lt _ (by decide), rfl⟩, hI.2.2.2.2⟩
          rw [← show G_138 nn gg C me f u b k (i + 1) oo (va_up D 7 (upd (D 7) 12 (nI ((a + 1) % 961)))) K A Y = G_138 nn gg C me f u b (k + 1) i oo D K A Y from bnN_eq (cl_eq ha ea) (eq_ifF cc1 (eq_ifT cc3 (rfl)))]
          exact ih (i + 1) oo hp_2 (va_up D 7 (upd (D 7) 12 (nI ((a + 1) % 961)))) K A Y (by omega) hS1 hI1
        · have hgj : a = 960 ∨ ¬ D 11 (a / 20) < 0 := by
            rcases Nat.lt_or_ge a 960 with z | z
            · exact Or.inr (hI.2.1.2.2.1 a z cc3)
            · exact Or.inl (by omega)
          refine ar_aload_n 54 d_138_53 rfl rfl ?_
          refine ar_iload_n 55 d_138_54 rfl rfl ?_
          refine ar_call (r := []) (na := 0) (kd := 0) (cm := 74) (fr2 := fr - 1) (lo2 := lo - 22) 58 d_138_55 (ar_hoV (as := [.int (nI a)]) rfl rfl rfl (hF.at 7 rfl)) rfl (by omega) (show lo - 22 + (19 + 3) = lo by omega) (Nat.le_of_ble_eq_true rfl) (Nat.le_of_ble_eq_true rfl) (c_74E (by omega) (by omega) (by omega) hgg (by omega) hI.2.1 (hgj) (hF.at 7 rfl) (hF.at 10 rfl) (hF.at 8 rfl) (hF.at 11 rfl) (hF.at 16 rfl) (hF.at 17 rfl)) ?_
          intro v hh hq
          obtain ⟨rfl, ehh⟩ := hq
          rw [ehh]
          clear ehh
          refine ar_if_ne 104 61 d_138_58 (by decide) rfl (fun cc4 => ?_) (fun cc4 => ?_)
          · refine ar_iinc 107 [(0, .ref (nd + 7)), (1, .int oo), (2, .int (nI (i + 1))), (3, .int (nI a))] d_138_104 rfl rfl (nI_1 i) (by decide) rfl ?_
            refine ar_goto 9 d_138_107 (by decide) ?_
            refine ar_wk [0, 1, 2] rfl (by simp) ?_
            have hS1 : NS Z n nd nn gg C me f q u b uv h0 hp_2 (va_up D 7 (upd (D 7) 12 (nI ((a + 1) % 961)))) K A Y := ⟨hF, hN, hf, hn, hs, hp0, hu0⟩
            have hI1 : NI Z nn (va_up D 7 (upd (D 7) 12 (nI ((a + 1) % 961)))) := ⟨hI.1, hI.2.1, hI.2.2.1, ⟨(a + 1) % 961, Nat.mod_lt _ (by decide), rfl⟩, hI.2.2.2.2⟩
            rw [← show G_138 nn gg C me f u b k (i + 1) oo (va_up D 7 (upd (D 7) 12 (nI ((a + 1) % 961)))) K A Y = G_138 nn gg C me f u b (k + 1) i oo D K A Y from bnN_eq (cl_eq ha ea) (eq_ifF cc1 (eq_ifF cc3 (eq_ifT cc4 (rfl))))]
            exact ih (i + 1) oo hp_2 (va_up D 7 (upd (D 7) 12 (nI ((a + 1) % 961)))) K A Y (by omega) hS1 hI1
          · refine ar_aload_n 62 d_138_61 rfl rfl ?_
            refine ar_iconst 63 (v := 0) d_138_62 rfl (by decide) ?_
            refine ar_putf 66 [.int me, .ref (n + 264), .ref n, .ref (nd + 10), .ref (nd + 18), .ref (nd + 8), .ref (nd + 9), .int (D 7 7), .int (D 7 8), .int (D 7 9), .int (D 7 10), .long A, .int (nI ((a + 1) % 961)), .int (D 7 13), .int 0] d_138_63 rfl (ci := 9) (k := 14) rfl rfl (hF.at 7 rfl) (Nat.le_of_ble_eq_true rfl) rfl rfl rfl ?_
            replace hF : ax_hs (ax_put hp_2 (nd + 7) (.inr (9, [.int me, .ref (n + 264), .ref n, .ref (nd + 10), .ref (nd + 18), .ref (nd + 8), .ref (nd + 9), .int (D 7 7), .int (D 7 8), .int (D 7 9), .int (D 7 10), .long A, .int (nI ((a + 1) % 961)), .int (D 7 13), .int 0]))) [cNd n nd me D, cDk nd D, cAr nd 2 35840 D, cAr nd 3 4096 D, cAr nd 4 32 D, cAr nd 5 280 D, cAr nd 6 280 D, (nd + 7, .inr (9, [.int me, .ref (n + 264), .ref n, .ref (nd + 10), .ref (nd + 18), .ref (nd + 8), .ref (nd + 9), .int (D 7 7), .int (D 7 8), .int (D 7 9), .int (D 7 10), .long A, .int (nI ((a + 1) % 961)), .int (D 7 13), .int 0])), cAr nd 8 16 D, cAr nd 9 280 D, cTb nd gg D K, cAr nd 11 48 D, cAr nd 12 48 D, cAr nd 13 48 D, cAr nd 14 2400 D, cAr nd 15 512 D, cAr nd 16 961 D, cAr nd 17 961 D, cWk nd D, cWa nd D, cAr nd 20 612 D, cAr nd 21 1152 D, cRk n nn gg C, cOr n nn gg f] := hF.put 7 _ rfl rfl
            replace hf := hf.put (a := nd + 7) (c := .inr (9, [.int me, .ref (n + 264), .ref n, .ref (nd + 10), .ref (nd + 18), .ref (nd + 8), .ref (nd + 9), .int (D 7 7), .int (D 7 8), .int (D 7 9), .int (D 7 10), .long A, .int (nI ((a + 1) % 961)), .int (D 7 13), .int 0])) (Or.inr (by omega))
            replace hN := hN.put (a := nd + 7) (c := .inr (9, [.int me, .ref (n + 264), .ref n, .ref (nd + 10), .ref (nd + 18), .ref (nd + 8), .ref (nd + 9), .int (D 7 7), .int (D 7 8), .int (D 7 9), .int (D 7 10), .long A, .int (nI ((a + 1) % 961)), .int (D 7 13), .int 0])) (by omega)
            replace hn : (ax_put hp_2 (nd + 7) (.inr (9, [.int me, .ref (n + 264), .ref n, .ref (nd + 10), .ref (nd + 18), .ref (nd + 8), .ref (nd + 9), .int (D 7 7), .int (D 7 8), .int (D 7 9), .int (D 7 10), .long A, .int (nI ((a + 1) % 961)), .int (D 7 13), .int 0]))).1 = h0.1 := hn
            replace hs : (ax_put hp_2 (nd + 7) (.inr (9, [.int me, .ref (n + 264), .ref n, .ref (nd + 10), .ref (nd + 18), .ref (nd + 8), .ref (nd + 9), .int (D 7 7), .int (D 7 8), .int (D 7 9), .int (D 7 10), .long A, .int (nI ((a + 1) % 961)), .int (D 7 13), .int 0]))).2.1 = h0.2.1 := hs
            generalize ax_put hp_2 (nd + 7) (.inr (9, [.int me, .ref (n + 264), .ref n, .ref (nd + 10), .ref (nd + 18), .ref (nd + 8), .ref (nd + 9), .int (D 7 7), .int (D 7 8), .int (D 7 9), .int (D 7 10), .long A, .int (nI ((a + 1) % 961)), .int (D 7 13), .int 0])) = hp_5 at hF hf hN hn hs ⊢
            refine ar_iload_n 67 d_138_66 rfl rfl ?_
            refine ar_aload_n 68 d_138_67 rfl rfl ?_
            refine ar_aload_n 69 d_138_68 rfl rfl ?_
            refine ar_getf 72 d_138_69 rfl (ci := 9) (k := 5) rfl (hF.at 7 rfl) rfl ?_
            refine ar_aload_n 73 d_138_72 rfl rfl ?_
            refine ar_getf 76 d_138_73 rfl (ci := 9) (k := 3) rfl (hF.at 7 rfl) rfl ?_
            refine ar_iload_n 77 d_138_76 rfl rfl ?_
            refine ar_call (r := [.ref (nd + 8), .ref (nd + 7), .int oo]) (na := 0) (kd := 0) (cm := 75) (fr2 := fr - 1) (lo2 := lo - 22) 80 d_138_77 (ar_hoV (as := [.int (nI a)]) rfl rfl rfl (hF.at 10 rfl)) rfl (by omega) (show lo - 22 + (19 + 3) = lo by omega) (Nat.le_of_ble_eq_true rfl) (Nat.le_of_ble_eq_true rfl) (c_75 (by omega) (by omega) hgg (hI.2.1.grp (by omega) hgj) (hF.at 10 rfl) (hF.at 11 rfl)) ?_
            intro v hh hq
            obtain ⟨rfl, ehh⟩ := hq
            rw [ehh]
            clear ehh
            have hg6 := grp_lt (D 11) (show 0 < gg by omega) a
            refine ar_ialdN 81 (e := grp (D 11) gg a) d_138_80 rfl (hF.at 8 rfl) (by omega) (by omega) ?_
            refine ar_aload_n 82 d_138_81 rfl rfl ?_
            refine ar_getf 85 d_138_82 rfl (ci := 9) (k := 3) rfl (hF.at 7 rfl) rfl ?_
            refine ar_getf 88 d_138_85 rfl (ci := 6) (k := 7) rfl (hF.at 10 rfl) rfl ?_
            refine ar_iload_n 89 d_138_88 rfl rfl ?_
            refine ar_ialdN 90 (e := a) d_138_89 rfl (hF.at 17 rfl) (by omega) (by omega) ?_
            refine ar_iconst 91 (v := -1) d_138_90 rfl (by decide) ?_
            refine ar_ixor 92 d_138_91 rfl ?_
            refine ar_iand 93 d_138_92 rfl ?_
            refine ar_aload_n 94 d_138_93 rfl rfl ?_
            refine ar_getf 97 d_138_94 rfl (ci := 9) (k := 9) rfl (hF.at 7 rfl) rfl ?_
            refine ar_iand 98 d_138_97 rfl ?_
            refine ar_iload_n 99 d_138_98 rfl rfl ?_
            have hS1 : NS Z n nd nn gg C me f q u b uv h0 hp_5 (va_up D 7 (upd (upd (D 7) 12 (nI ((a + 1) % 961))) 14 0)) K A Y := ⟨hF, hN, hf, hn, hs, hp0, hu0⟩
            have hI1 : NI Z nn (va_up D 7 (upd (upd (D 7) 12 (nI ((a + 1) % 961))) 14 0)) := ⟨hI.1, hI.2.1, hI.2.2.1, ⟨(a + 1) % 961, Nat.mod_lt _ (by decide), rfl⟩, hI.2.2.2.2⟩
            refine ar_call (r := [.int oo]) (na := 0) (kd := 0) (cm := 139) (fr2 := fr - 1) (lo2 := lo - 24) 102 d_138_99 (ar_hoV (as := [.int ((((D 8) (grp (D 11) gg a)) &&& (((D 17) a) ^^^ (-1))) &&& (D 7 9)), .int (nI a)]) rfl rfl rfl (hF.at 7 rfl)) rfl (by omega) (show lo - 24 + (19 + 5) = lo by omega) (Nat.le_of_ble_eq_true rfl) (Nat.le_of_ble_eq_true rfl) (s_139 (by omega) (by omega) hC0 hS1 hI1 ha) ?_
            intro v hp_8 hq
            obtain ⟨y7, rfl, D8, K8, A8, Y8, hS2, hI2, hE8, -⟩ := hq
            clear hS1 hI1 hF hN hf hn hs hp0 hu0
            obtain ⟨hF, hN, hf, hn, hs, hp0, hu0⟩ := hS2
            replace hF : ax_hs hp_8 [cNd n nd me D8, cDk nd D8, cAr nd 2 35840 D8, cAr nd 3 4096 D8, cAr nd 4 32 D8, cAr nd 5 280 D8, cAr nd 6 280 D8, cLd n nd me D8 A8, cAr nd 8 16 D8, cAr nd 9 280 D8, cTb nd gg D8 K8, cAr nd 11 48 D8, cAr nd 12 48 D8, cAr nd 13 48 D8, cAr nd 14 2400 D8, cAr nd 15 512 D8, cAr nd 16 961 D8, cAr nd 17 961 D8, cWk nd D8, cWa nd D8, cAr nd 20 612 D8, cAr nd 21 1152 D8, cRk n nn gg C, cOr n nn gg f] := hF
            have hI8 := hI2
            clear hI2
            refine ar_iadd 103 d_138_102 rfl ?_
            refine ar_istore_n 104 [(0, .ref (nd + 7)), (1, .int (oo + y7)), (2, .int (nI i)), (3, .int (nI a))] d_138_103 rfl (by decide) rfl ?_
            refine ar_iinc 107 [(0, .ref (nd + 7)), (1, .int (oo + y7)), (2, .int (nI (i + 1))), (3, .int (nI a))] d_138_104 rfl rfl (nI_1 i) (by decide) rfl ?_
            refine ar_goto 9 d_138_107 (by decide) ?_
            refine ar_wk [0, 1, 2] rfl (by simp) ?_
            have hS1 : NS Z n nd nn gg C me f q u b uv h0 hp_8 D8 K8 A8 Y8 := ⟨hF, hN, hf, hn, hs, hp0, hu0⟩
            have hI1 : NI Z nn D8 := hI8
            rw [← show G_138 nn gg C me f u b k (i + 1) (oo + y7) D8 K8 A8 Y8 = G_138 nn gg C me f u b (k + 1) i oo D K A Y from bnN_eq (cl_eq ha ea) (eq_ifF cc1 (eq_ifF cc3 (eq_ifF cc4 (bnR_eq hE8 (rfl)))))]
            exact ih (i + 1) (oo + y7) hp_8 D8 K8 A8 Y8 (by omega) hS1 hI1
  show ax_A (ax_step L xs) ((138, 0, fr, lo), [(0, .ref (nd + 7))], [], h) _
  obtain ⟨hnd, hn0, hnn3, hnn, hgg1, hgg, hRg⟩ := hC
  obtain ⟨hF, hN, hf, hn, hs, hp0, hu0⟩ := hS
  replace hF : ax_hs h [cNd n nd me D, cDk nd D, cAr nd 2 35840 D, cAr nd 3 4096 D, cAr nd 4 32 D, cAr nd 5 280 D, cAr nd 6 280 D, cLd n nd me D A, cAr nd 8 16 D, cAr nd 9 280 D, cTb nd gg D K, cAr nd 11 48 D, cAr nd 12 48 D, cAr nd 13 48 D, cAr nd 14 2400 D, cAr nd 15 512 D, cAr nd 16 961 D, cAr nd 17 961 D, cWk nd D, cWa nd D, cAr nd 20 612 D, cAr nd 21 1152 D, cRk n nn gg C, cOr n nn gg f] := hF
  refine ar_iconst 1 (v := 0) d_138_0 rfl (by decide) ?_
  refine ar_istore_n 2 [(0, .ref (nd + 7)), (1, .int 0)] d_138_1 rfl (by decide) rfl ?_
  refine ar_aload_n 3 d_138_2 rfl rfl ?_
  refine ar_iconst 4 (v := 1) d_138_3 rfl (by decide) ?_
  refine ar_putf 7 [.int me, .ref (n + 264), .ref n, .ref (nd + 10), .ref (nd + 18), .ref (nd + 8), .ref (nd + 9), .int (D 7 7), .int (D 7 8), .int (D 7 9), .int (D 7 10), .long A, .int (D 7 12), .int (D 7 13), .int 1] d_138_4 rfl (ci := 9) (k := 14) rfl rfl (hF.at 7 rfl) (Nat.le_of_ble_eq_true rfl) rfl rfl rfl ?_
  replace hF : ax_hs (ax_put h (nd + 7) (.inr (9, [.int me, .ref (n + 264), .ref n, .ref (nd + 10), .ref (nd + 18), .ref (nd + 8), .ref (nd + 9), .int (D 7 7), .int (D 7 8), .int (D 7 9), .int (D 7 10), .long A, .int (D 7 12), .int (D 7 13), .int 1]))) [cNd n nd me D, cDk nd D, cAr nd 2 35840 D, cAr nd 3 4096 D, cAr nd 4 32 D, cAr nd 5 280 D, cAr nd 6 280 D, (nd + 7, .inr (9, [.int me, .ref (n + 264), .ref n, .ref (nd + 10), .ref (nd + 18), .ref (nd + 8), .ref (nd + 9), .int (D 7 7), .int (D 7 8), .int (D 7 9), .int (D 7 10), .long A, .int (D 7 12), .int (D 7 13), .int 1])), cAr nd 8 16 D, cAr nd 9 280 D, cTb nd gg D K, cAr nd 11 48 D, cAr nd 12 48 D, cAr nd 13 48 D, cAr nd 14 2400 D, cAr nd 15 512 D, cAr nd 16 961 D, cAr nd 17 961 D, cWk nd D, cWa nd D, cAr nd 20 612 D, cAr nd 21 1152 D, cRk n nn gg C, cOr n nn gg f] := hF.put 7 _ rfl rfl
  replace hf := hf.put (a := nd + 7) (c := .inr (9, [.int me, .ref (n + 264), .ref n, .ref (nd + 10), .ref (nd + 18), .ref (nd + 8), .ref (nd + 9), .int (D 7 7), .int (D 7 8), .int (D 7 9), .int (D 7 10), .long A, .int (D 7 12), .int (D 7 13), .int 1])) (Or.inr (by omega))
  replace hN := hN.put (a := nd + 7) (c := .inr (9, [.int me, .ref (n + 264), .ref n, .ref (nd + 10), .ref (nd + 18), .ref (nd + 8), .ref (nd + 9), .int (D 7 7), .int (D 7 8), .int (D 7 9), .int (D 7 10), .long A, .int (D 7 12), .int (D 7 13), .int 1])) (by omega)
  replace hn : (ax_put h (nd + 7) (.inr (9, [.int me, .ref (n + 264), .ref n, .ref (nd + 10), .ref (nd + 18), .ref (nd + 8), .ref (nd + 9), .int (D 7 7), .int (D 7 8), .int (D 7 9), .int (D 7 10), .long A, .int (D 7 12), .int (D 7 13), .int 1]))).1 = h0.1 := hn
  replace hs : (ax_put h (nd + 7) (.inr (9, [.int me, .ref (n + 264), .ref n, .ref (nd + 10), .ref (nd + 18), .ref (nd + 8), .ref (nd + 9), .int (D 7 7), .int (D 7 8), .int (D 7 9), .int (D 7 10), .long A, .int (D 7 12), .int (D 7 13), .int 1]))).2.1 = h0.2.1 := hs
  generalize ax_put h (nd + 7) (.inr (9, [.int me, .ref (n + 264), .ref n, .ref (nd + 10), .ref (nd + 18), .ref (nd + 8), .ref (nd + 9), .int (D 7 7), .int (D 7 8), .int (D 7 9), .int (D 7 10), .long A, .int (D 7 12), .int (D 7 13), .int 1])) = hp_1 at hF hf hN hn hs ⊢
  refine ar_iconst 8 (v := 0) d_138_7 rfl (by decide) ?_
  refine ar_istore_n 9 [(0, .ref (nd + 7)), (1, .int 0), (2, .int 0)] d_138_8 rfl (by decide) rfl ?_
  have hS1 : NS Z n nd nn gg C me f q u b uv h0 hp_1 (va_up D 7 (upd (D 7) 14 1)) K A Y := ⟨hF, hN, hf, hn, hs, hp0, hu0⟩
  have hI1 : NI Z nn (va_up D 7 (upd (D 7) 14 1)) := hI
  rw [← show G_138 nn gg C me f u b 961 0 0 (va_up D 7 (upd (D 7) 14 1)) K A Y = F_138 nn gg C me f u b D K A Y from rfl]
  exact key 961 0 0 hp_1 (va_up D 7 (upd (D 7) 14 1)) K A Y (by omega) hS1 hI1
def F_123 (nn gg : Nat) (C me : Int32) (f u b : Nat → Int32) (D : Nat → Nat → Int32) (K A : Int64) (Y : List Mg)  : St :=
  bnN ((if ¬ D 18 5 < 0 ∧ (D 19 0 = 4 ∨ D 19 0 = 9) then D 18 5 else 0).toNatClampNeg) (fun tl =>
    (va_up D 18 (upd (D 18) 3 0), K, A, pst Y (va_up (va_up (va_up (mg 3 me (nI nn) (D 7 7) (D 7 8)) 5 (D 18 4)) 6 (D 18 5)) 7 (nI tl), fun j => D 20 (100 + j))))
set_option maxRecDepth 100000 in
theorem s_123 {L : Nat} {xs : Nat → Int32} {fr lo : Nat} {Z : ZT} {n nd nn gg : Nat} {C me : Int32} {f : Nat → Int32} {q : Nat} {u b : Nat → Int32} {uv : Int32} {h0 h : ax_H} {D : Nat → Nat → Int32} {K A : Int64} {Y : List Mg}  (hfr : 3 ≤ fr) (hlo : 80 ≤ lo) (hC : CS n nd nn gg f) (hS : NS Z n nd nn gg C me f q u b uv h0 h D K A Y) (hI : NI Z nn D) (h5 : D 18 3 = 5) : ax_M L xs 123 fr lo [.ref (nd + 7)] h (fun r h' => r = none ∧ PS Z n nd nn gg C me f q u b uv h0 h' (fun D' K' A' Y' => (D', K', A', Y') = F_123 nn gg C me f u b D K A Y ∧ True)) := by
  have hC0 := hC
  show ax_A (ax_step L xs) ((123, 0, fr, lo), [(0, .ref (nd + 7))], [], h) _
  obtain ⟨hnd, hn0, hnn3, hnn, hgg1, hgg, hRg⟩ := hC
  obtain ⟨hF, hN, hf, hn, hs, hp0, hu0⟩ := hS
  replace hF : ax_hs h [cNd n nd me D, cDk nd D, cAr nd 2 35840 D, cAr nd 3 4096 D, cAr nd 4 32 D, cAr nd 5 280 D, cAr nd 6 280 D, cLd n nd me D A, cAr nd 8 16 D, cAr nd 9 280 D, cTb nd gg D K, cAr nd 11 48 D, cAr nd 12 48 D, cAr nd 13 48 D, cAr nd 14 2400 D, cAr nd 15 512 D, cAr nd 16 961 D, cAr nd 17 961 D, cWk nd D, cWa nd D, cAr nd 20 612 D, cAr nd 21 1152 D, cRk n nn gg C, cOr n nn gg f] := hF
  obtain ⟨tl, htl, etl⟩ : inR 2049 (if ¬ D 18 5 < 0 ∧ (D 19 0 = 4 ∨ D 19 0 = 9) then D 18 5 else 0) := by
    split
    · next hh => exact (hI.2.2.1.2.2.2.2.2.2.1 h5 hh.2).resolve_left hh.1
    · exact ⟨0, by decide, rfl⟩
  refine ar_aload_n 1 d_123_0 rfl rfl ?_
  refine ar_getf 4 d_123_1 rfl (ci := 9) (k := 2) rfl (hF.at 7 rfl) rfl ?_
  refine ar_iconst 5 (v := 3) d_123_4 rfl (by decide) ?_
  refine ar_aload_n 6 d_123_5 rfl rfl ?_
  refine ar_getf 9 d_123_6 rfl (ci := 9) (k := 0) rfl (hF.at 7 rfl) rfl ?_
  refine ar_aload_n 10 d_123_9 rfl rfl ?_
  refine ar_getf 13 d_123_10 rfl (ci := 9) (k := 1) rfl (hF.at 7 rfl) rfl ?_
  refine ar_getf 16 d_123_13 rfl (ci := 3) (k := 0) rfl (hF.at 22 rfl) rfl ?_
  refine ar_aload_n 17 d_123_16 rfl rfl ?_
  refine ar_getf 20 d_123_17 rfl (ci := 9) (k := 7) rfl (hF.at 7 rfl) rfl ?_
  refine ar_aload_n 21 d_123_20 rfl rfl ?_
  refine ar_getf 24 d_123_21 rfl (ci := 9) (k := 8) rfl (hF.at 7 rfl) rfl ?_
  obtain ⟨zk, za, zc, hnet⟩ := hN.net
  refine ar_call (r := []) (na := 0) (kd := 0) (cm := 36) (fr2 := fr - 1) (lo2 := lo - 26) 27 d_123_24 (ar_hoV (as := [.int 3, .int me, .int (nI nn), .int (D 7 7), .int (D 7 8)]) rfl rfl rfl hnet) rfl (by omega) (show lo - 26 + (19 + 7) = lo by omega) (Nat.le_of_ble_eq_true rfl) (Nat.le_of_ble_eq_true rfl) (hN.post) ?_
  intro v hp_1 hq
  obtain ⟨m, bm, hm, hmq, rfl, hmm, hed, hf2, hz1, hz2⟩ := hq
  have hNm : NTA n (n + 1) (n + 1 + 1 + 2 * m) := Or.inr (by omega)
  have hNm1 : NTA n (n + 1) (n + 1 + 1 + 2 * m + 1) := Or.inr (by omega)
  replace hF : ax_hs hp_1 [cNd n nd me D, cDk nd D, cAr nd 2 35840 D, cAr nd 3 4096 D, cAr nd 4 32 D, cAr nd 5 280 D, cAr nd 6 280 D, cLd n nd me D A, cAr nd 8 16 D, cAr nd 9 280 D, cTb nd gg D K, cAr nd 11 48 D, cAr nd 12 48 D, cAr nd 13 48 D, cAr nd 14 2400 D, cAr nd 15 512 D, cAr nd 16 961 D, cAr nd 17 961 D, cWk nd D, cWa nd D, cAr nd 20 612 D, cAr nd 21 1152 D, cRk n nn gg C, cOr n nn gg f] := hF.fr hf2 (far (n := n) (nd := nd) rfl hnd)
  replace hF : ax_hs hp_1 [(n + 1 + 1 + 2 * m, .inr (2, [.int 3, .int me, .int (nI nn), .int (D 7 7), .int (D 7 8), .int (-1), .int 0, .int 0, .ref (n + 1 + 1 + 2 * m + 1)])), (n + 1 + 1 + 2 * m + 1, .inl (0, 617, .inl bm)), cNd n nd me D, cDk nd D, cAr nd 2 35840 D, cAr nd 3 4096 D, cAr nd 4 32 D, cAr nd 5 280 D, cAr nd 6 280 D, cLd n nd me D A, cAr nd 8 16 D, cAr nd 9 280 D, cTb nd gg D K, cAr nd 11 48 D, cAr nd 12 48 D, cAr nd 13 48 D, cAr nd 14 2400 D, cAr nd 15 512 D, cAr nd 16 961 D, cAr nd 17 961 D, cWk nd D, cWa nd D, cAr nd 20 612 D, cAr nd 21 1152 D, cRk n nn gg C, cOr n nn gg f] := hF.msg (far (n := n) (nd := nd) rfl hnd) hm hmm
  replace hf := hf.trC hf2 (fun _ _ z => Or.inl z)
  replace hn : hp_1.1 = h0.1 := by omega
  replace hs : hp_1.2.1 = h0.2.1 := by omega
  have hfm : ax_fr (fun x => x = n + 1 + 1 + 2 * m ∨ x = n + 1 + 1 + 2 * m + 1) hp_1 hp_1 := ax_fr.rf
  clear hN hnet hf2 hz1 hz2 hmm
  refine ar_astore_n 28 [(0, .ref (nd + 7)), (1, .ref (n + 1 + 1 + 2 * m))] d_123_27 rfl (by decide) rfl ?_
  refine ar_aload_n 29 d_123_28 rfl rfl ?_
  refine ar_aload_n 30 d_123_29 rfl rfl ?_
  refine ar_getf 33 d_123_30 rfl (ci := 9) (k := 4) rfl (hF.at 9 rfl) rfl ?_
  refine ar_getf 36 d_123_33 rfl (ci := 10) (k := 4) rfl (hF.at 20 rfl) rfl ?_
  refine ar_putf 39 [.int 3, .int me, .int (nI nn), .int (D 7 7), .int (D 7 8), .int (D 18 4), .int 0, .int 0, .ref (n + 1 + 1 + 2 * m + 1)] d_123_36 rfl (ci := 2) (k := 5) rfl rfl (hF.at 0 rfl) (Nat.le_of_ble_eq_true rfl) rfl rfl rfl ?_
  replace hF : ax_hs (ax_put hp_1 (n + 1 + 1 + 2 * m) (.inr (2, [.int 3, .int me, .int (nI nn), .int (D 7 7), .int (D 7 8), .int (D 18 4), .int 0, .int 0, .ref (n + 1 + 1 + 2 * m + 1)]))) [(n + 1 + 1 + 2 * m, .inr (2, [.int 3, .int me, .int (nI nn), .int (D 7 7), .int (D 7 8), .int (D 18 4), .int 0, .int 0, .ref (n + 1 + 1 + 2 * m + 1)])), (n + 1 + 1 + 2 * m + 1, .inl (0, 617, .inl bm)), cNd n nd me D, cDk nd D, cAr nd 2 35840 D, cAr nd 3 4096 D, cAr nd 4 32 D, cAr nd 5 280 D, cAr nd 6 280 D, cLd n nd me D A, cAr nd 8 16 D, cAr nd 9 280 D, cTb nd gg D K, cAr nd 11 48 D, cAr nd 12 48 D, cAr nd 13 48 D, cAr nd 14 2400 D, cAr nd 15 512 D, cAr nd 16 961 D, cAr nd 17 961 D, cWk nd D, cWa nd D, cAr nd 20 612 D, cAr nd 21 1152 D, cRk n nn gg C, cOr n nn gg f] := hF.put 0 _ rfl rfl
  replace hf := hf.put (a := n + 1 + 1 + 2 * m) (c := .inr (2, [.int 3, .int me, .int (nI nn), .int (D 7 7), .int (D 7 8), .int (D 18 4), .int 0, .int 0, .ref (n + 1 + 1 + 2 * m + 1)])) (Or.inl hNm)
  replace hfm := hfm.put (a := n + 1 + 1 + 2 * m) (c := .inr (2, [.int 3, .int me, .int (nI nn), .int (D 7 7), .int (D 7 8), .int (D 18 4), .int 0, .int 0, .ref (n + 1 + 1 + 2 * m + 1)])) (Or.inl rfl)
  replace hn : (ax_put hp_1 (n + 1 + 1 + 2 * m) (.inr (2, [.int 3, .int me, .int (nI nn), .int (D 7 7), .int (D 7 8), .int (D 18 4), .int 0, .int 0, .ref (n + 1 + 1 + 2 * m + 1)]))).1 = h0.1 := hn
  replace hs : (ax_put hp_1 (n + 1 + 1 + 2 * m) (.inr (2, [.int 3, .int me, .int (nI nn), .int (D 7 7), .int (D 7 8), .int (D 18 4), .int 0, .int 0, .ref (n + 1 + 1 + 2 * m + 1)]))).2.1 = h0.2.1 := hs
  generalize ax_put hp_1 (n + 1 + 1 + 2 * m) (.inr (2, [.int 3, .int me, .int (nI nn), .int (D 7 7), .int (D 7 8), .int (D 18 4), .int 0, .int 0, .ref (n + 1 + 1 + 2 * m + 1)])) = hp_2 at hF hf hfm hn hs ⊢
  refine ar_aload_n 40 d_123_39 rfl rfl ?_
  refine ar_aload_n 41 d_123_40 rfl rfl ?_
  refine ar_getf 44 d_123_41 rfl (ci := 9) (k := 4) rfl (hF.at 9 rfl) rfl ?_
  refine ar_getf 47 d_123_44 rfl (ci := 10) (k := 5) rfl (hF.at 20 rfl) rfl ?_
  refine ar_putf 50 [.int 3, .int me, .int (nI nn), .int (D 7 7), .int (D 7 8), .int (D 18 4), .int (D 18 5), .int 0, .ref (n + 1 + 1 + 2 * m + 1)] d_123_47 rfl (ci := 2) (k := 6) rfl rfl (hF.at 0 rfl) (Nat.le_of_ble_eq_true rfl) rfl rfl rfl ?_
  replace hF : ax_hs (ax_put hp_2 (n + 1 + 1 + 2 * m) (.inr (2, [.int 3, .int me, .int (nI nn), .int (D 7 7), .int (D 7 8), .int (D 18 4), .int (D 18 5), .int 0, .ref (n + 1 + 1 + 2 * m + 1)]))) [(n + 1 + 1 + 2 * m, .inr (2, [.int 3, .int me, .int (nI nn), .int (D 7 7), .int (D 7 8), .int (D 18 4), .int (D 18 5), .int 0, .ref (n + 1 + 1 + 2 * m + 1)])), (n + 1 + 1 + 2 * m + 1, .inl (0, 617, .inl bm)), cNd n nd me D, cDk nd D, cAr nd 2 35840 D, cAr nd 3 4096 D, cAr nd 4 32 D, cAr nd 5 280 D, cAr nd 6 280 D, cLd n nd me D A, cAr nd 8 16 D, cAr nd 9 280 D, cTb nd gg D K, cAr nd 11 48 D, cAr nd 12 48 D, cAr nd 13 48 D, cAr nd 14 2400 D, cAr nd 15 512 D, cAr nd 16 961 D, cAr nd 17 961 D, cWk nd D, cWa nd D, cAr nd 20 612 D, cAr nd 21 1152 D, cRk n nn gg C, cOr n nn gg f] := hF.put 0 _ rfl rfl
  replace hf := hf.put (a := n + 1 + 1 + 2 * m) (c := .inr (2, [.int 3, .int me, .int (nI nn), .int (D 7 7), .int (D 7 8), .int (D 18 4), .int (D 18 5), .int 0, .ref (n + 1 + 1 + 2 * m + 1)])) (Or.inl hNm)
  replace hfm := hfm.put (a := n + 1 + 1 + 2 * m) (c := .inr (2, [.int 3, .int me, .int (nI nn), .int (D 7 7), .int (D 7 8), .int (D 18 4), .int (D 18 5), .int 0, .ref (n + 1 + 1 + 2 * m + 1)])) (Or.inl rfl)
  replace hn : (ax_put hp_2 (n + 1 + 1 + 2 * m) (.inr (2, [.int 3, .int me, .int (nI nn), .int (D 7 7), .int (D 7 8), .int (D 18 4), .int (D 18 5), .int 0, .ref (n + 1 + 1 + 2 * m + 1)]))).1 = h0.1 := hn
  replace hs : (ax_put hp_2 (n + 1 + 1 + 2 * m) (.inr (2, [.int 3, .int me, .int (nI nn), .int (D 7 7), .int (D 7 8), .int (D 18 4), .int (D 18 5), .int 0, .ref (n + 1 + 1 + 2 * m + 1)]))).2.1 = h0.2.1 := hs
  generalize ax_put hp_2 (n + 1 + 1 + 2 * m) (.inr (2, [.int 3, .int me, .int (nI nn), .int (D 7 7), .int (D 7 8), .int (D 18 4), .int (D 18 5), .int 0, .ref (n + 1 + 1 + 2 * m + 1)])) = hp_3 at hF hf hfm hn hs ⊢
  refine ar_aload_n 51 d_123_50 rfl rfl ?_
  refine ar_aload_n 52 d_123_51 rfl rfl ?_
  refine ar_getf 55 d_123_52 rfl (ci := 9) (k := 4) rfl (hF.at 9 rfl) rfl ?_
  refine ar_call (r := [.ref (n + 1 + 1 + 2 * m)]) (na := 0) (kd := 0) (cm := 124) (fr2 := fr - 1) (lo2 := lo - 20) 58 d_123_55 (ar_hoV (as := []) rfl rfl rfl (hF.at 20 rfl)) rfl (by omega) (show lo - 20 + (19 + 1) = lo by omega) (Nat.le_of_ble_eq_true rfl) (Nat.le_of_ble_eq_true rfl) (c_124 (hF.at 20 rfl) (hF.at 21 rfl)) ?_
  intro v hh hq
  obtain ⟨rfl, ehh⟩ := hq
  rw [ehh]
  clear ehh
  refine ar_top (x' := nI tl) (etl) ?_
  refine ar_putf 61 [.int 3, .int me, .int (nI nn), .int (D 7 7), .int (D 7 8), .int (D 18 4), .int (D 18 5), .int (nI tl), .ref (n + 1 + 1 + 2 * m + 1)] d_123_58 rfl (ci := 2) (k := 7) rfl rfl (hF.at 0 rfl) (Nat.le_of_ble_eq_true rfl) rfl rfl rfl ?_
  replace hF : ax_hs (ax_put hp_3 (n + 1 + 1 + 2 * m) (.inr (2, [.int 3, .int me, .int (nI nn), .int (D 7 7), .int (D 7 8), .int (D 18 4), .int (D 18 5), .int (nI tl), .ref (n + 1 + 1 + 2 * m + 1)]))) [(n + 1 + 1 + 2 * m, .inr (2, [.int 3, .int me, .int (nI nn), .int (D 7 7), .int (D 7 8), .int (D 18 4), .int (D 18 5), .int (nI tl), .ref (n + 1 + 1 + 2 * m + 1)])), (n + 1 + 1 + 2 * m + 1, .inl (0, 617, .inl bm)), cNd n nd me D, cDk nd D, cAr nd 2 35840 D, cAr nd 3 4096 D, cAr nd 4 32 D, cAr nd 5 280 D, cAr nd 6 280 D, cLd n nd me D A, cAr nd 8 16 D, cAr nd 9 280 D, cTb nd gg D K, cAr nd 11 48 D, cAr nd 12 48 D, cAr nd 13 48 D, cAr nd 14 2400 D, cAr nd 15 512 D, cAr nd 16 961 D, cAr nd 17 961 D, cWk nd D, cWa nd D, cAr nd 20 612 D, cAr nd 21 1152 D, cRk n nn gg C, cOr n nn gg f] := hF.put 0 _ rfl rfl
  replace hf := hf.put (a := n + 1 + 1 + 2 * m) (c := .inr (2, [.int 3, .int me, .int (nI nn), .int (D 7 7), .int (D 7 8), .int (D 18 4), .int (D 18 5), .int (nI tl), .ref (n + 1 + 1 + 2 * m + 1)])) (Or.inl hNm)
  replace hfm := hfm.put (a := n + 1 + 1 + 2 * m) (c := .inr (2, [.int 3, .int me, .int (nI nn), .int (D 7 7), .int (D 7 8), .int (D 18 4), .int (D 18 5), .int (nI tl), .ref (n + 1 + 1 + 2 * m + 1)])) (Or.inl rfl)
  replace hn : (ax_put hp_3 (n + 1 + 1 + 2 * m) (.inr (2, [.int 3, .int me, .int (nI nn), .int (D 7 7), .int (D 7 8), .int (D 18 4), .int (D 18 5), .int (nI tl), .ref (n + 1 + 1 + 2 * m + 1)]))).1 = h0.1 := hn
  replace hs : (ax_put hp_3 (n + 1 + 1 + 2 * m) (.inr (2, [.int 3, .int me, .int (nI nn), .int (D 7 7), .int (D 7 8), .int (D 18 4), .int (D 18 5), .int (nI tl), .ref (n + 1 + 1 + 2 * m + 1)]))).2.1 = h0.2.1 := hs
  generalize ax_put hp_3 (n + 1 + 1 + 2 * m) (.inr (2, [.int 3, .int me, .int (nI nn), .int (D 7 7), .int (D 7 8), .int (D 18 4), .int (D 18 5), .int (nI tl), .ref (n + 1 + 1 + 2 * m + 1)])) = hp_4 at hF hf hfm hn hs ⊢
  refine ar_aload_n 62 d_123_61 rfl rfl ?_
  refine ar_getf 65 d_123_62 rfl (ci := 9) (k := 4) rfl (hF.at 9 rfl) rfl ?_
  refine ar_getf 68 d_123_65 rfl (ci := 10) (k := 1) rfl (hF.at 20 rfl) rfl ?_
  refine ar_getf 71 d_123_68 rfl (ci := 5) (k := 7) rfl (hF.at 21 rfl) rfl ?_
  refine ar_bipush 73 (v := 100) d_123_71 rfl (by decide) ?_
  refine ar_aload_n 74 d_123_73 rfl rfl ?_
  refine ar_getf 77 d_123_74 rfl (ci := 2) (k := 8) rfl (hF.at 0 rfl) rfl ?_
  refine ar_iconst 78 (v := 0) d_123_77 rfl (by decide) ?_
  refine ar_aload_n 79 d_123_78 rfl rfl ?_
  refine ar_getf 82 d_123_79 rfl (ci := 2) (k := 7) rfl (hF.at 0 rfl) rfl ?_
  refine ar_iconst 83 (v := 3) d_123_82 rfl (by decide) ?_
  refine ar_iadd 84 d_123_83 rfl ?_
  refine ar_top (x' := nI (tl + 3)) (nI_add _ 3) ?_
  refine ar_iconst 85 (v := 4) d_123_84 rfl (by decide) ?_
  refine ar_idiv 86 d_123_85 rfl (by decide) ?_
  refine ar_top (x' := nI ((tl + 3) / 4)) (pk_div (d := 4) (by omega) (by omega) (by omega)) ?_
  refine ar_copy 89 d_123_86 rfl rfl (by omega) (by show 0 + (nativeFrameWords "java/lang/System" "arraycopy" 5 + 11) ≤ lo; rw [nfw_copy]; omega) (hF.at 22 rfl) (hF.at 1 rfl) (by decide) (by decide) (Int32.not_lt.mpr (nI_le (Nat.zero_le _) (by omega))) (by rw [nI_clamp (by omega)]; show 100 + (tl + 3) / 4 ≤ 612; omega) (by rw [nI_clamp (by omega)]; show 0 + (tl + 3) / 4 ≤ 617; omega) ?_
  replace hF : ax_hs (ax_put hp_4 (n + 1 + 1 + 2 * m + 1) (.inl (0, 617, .inl (va_cpy (D 20) bm ((100 : Int32).toNatClampNeg) ((0 : Int32).toNatClampNeg) ((nI ((tl + 3) / 4)).toNatClampNeg))))) [(n + 1 + 1 + 2 * m, .inr (2, [.int 3, .int me, .int (nI nn), .int (D 7 7), .int (D 7 8), .int (D 18 4), .int (D 18 5), .int (nI tl), .ref (n + 1 + 1 + 2 * m + 1)])), (n + 1 + 1 + 2 * m + 1, .inl (0, 617, .inl (va_cpy (D 20) bm ((100 : Int32).toNatClampNeg) ((0 : Int32).toNatClampNeg) ((nI ((tl + 3) / 4)).toNatClampNeg)))), cNd n nd me D, cDk nd D, cAr nd 2 35840 D, cAr nd 3 4096 D, cAr nd 4 32 D, cAr nd 5 280 D, cAr nd 6 280 D, cLd n nd me D A, cAr nd 8 16 D, cAr nd 9 280 D, cTb nd gg D K, cAr nd 11 48 D, cAr nd 12 48 D, cAr nd 13 48 D, cAr nd 14 2400 D, cAr nd 15 512 D, cAr nd 16 961 D, cAr nd 17 961 D, cWk nd D, cWa nd D, cAr nd 20 612 D, cAr nd 21 1152 D, cRk n nn gg C, cOr n nn gg f] := hF.put 1 _ rfl rfl
  replace hf := hf.put (a := n + 1 + 1 + 2 * m + 1) (c := .inl (0, 617, .inl (va_cpy (D 20) bm ((100 : Int32).toNatClampNeg) ((0 : Int32).toNatClampNeg) ((nI ((tl + 3) / 4)).toNatClampNeg)))) (Or.inl hNm1)
  replace hfm := hfm.put (a := n + 1 + 1 + 2 * m + 1) (c := .inl (0, 617, .inl (va_cpy (D 20) bm ((100 : Int32).toNatClampNeg) ((0 : Int32).toNatClampNeg) ((nI ((tl + 3) / 4)).toNatClampNeg)))) (Or.inr rfl)
  replace hn : (ax_put hp_4 (n + 1 + 1 + 2 * m + 1) (.inl (0, 617, .inl (va_cpy (D 20) bm ((100 : Int32).toNatClampNeg) ((0 : Int32).toNatClampNeg) ((nI ((tl + 3) / 4)).toNatClampNeg))))).1 = h0.1 := hn
  replace hs : (ax_put hp_4 (n + 1 + 1 + 2 * m + 1) (.inl (0, 617, .inl (va_cpy (D 20) bm ((100 : Int32).toNatClampNeg) ((0 : Int32).toNatClampNeg) ((nI ((tl + 3) / 4)).toNatClampNeg))))).2.1 = h0.2.1 := hs
  generalize ax_put hp_4 (n + 1 + 1 + 2 * m + 1) (.inl (0, 617, .inl (va_cpy (D 20) bm ((100 : Int32).toNatClampNeg) ((0 : Int32).toNatClampNeg) ((nI ((tl + 3) / 4)).toNatClampNeg)))) = hp_5 at hF hf hfm hn hs ⊢
  have hN : NeT Z hp_5 n q u b (pst Y (va_up (va_up (va_up (mg 3 me (nI nn) (D 7 7) (D 7 8)) 5 (D 18 4)) 6 (D 18 5)) 7 (nI tl), fun j => D 20 (100 + j))) := hed _ (va_up (va_up (va_up (mg 3 me (nI nn) (D 7 7) (D 7 8)) 5 (D 18 4)) 6 (D 18 5)) 7 (nI tl)) (va_cpy (D 20) bm ((100 : Int32).toNatClampNeg) ((0 : Int32).toNatClampNeg) ((nI ((tl + 3) / 4)).toNatClampNeg)) _ hfm ⟨hF.at 0 rfl, hF.at 1 rfl⟩ (MI.told rfl ⟨tl, htl, rfl⟩) (by rw [nI_clamp (by omega)]; exact sm_cpo (o := 100) (Nat.le_of_eq (rlv_told rfl rfl htl)))
  replace hF := hF.sub (F' := [cNd n nd me D, cDk nd D, cAr nd 2 35840 D, cAr nd 3 4096 D, cAr nd 4 32 D, cAr nd 5 280 D, cAr nd 6 280 D, cLd n nd me D A, cAr nd 8 16 D, cAr nd 9 280 D, cTb nd gg D K, cAr nd 11 48 D, cAr nd 12 48 D, cAr nd 13 48 D, cAr nd 14 2400 D, cAr nd 15 512 D, cAr nd 16 961 D, cAr nd 17 961 D, cWk nd D, cWa nd D, cAr nd 20 612 D, cAr nd 21 1152 D, cRk n nn gg C, cOr n nn gg f]) [2, 3, 4, 5, 6, 7, 8, 9, 10, 11, 12, 13, 14, 15, 16, 17, 18, 19, 20, 21, 22, 23, 24, 25] rfl rfl
  clear hed hfm hNm hNm1 hm hmq
  refine ar_aload_n 90 d_123_89 rfl rfl ?_
  refine ar_getf 93 d_123_90 rfl (ci := 9) (k := 4) rfl (hF.at 7 rfl) rfl ?_
  refine ar_iconst 94 (v := 0) d_123_93 rfl (by decide) ?_
  refine ar_putf 97 [.ref (nd + 10), .ref (nd + 19), .ref (nd + 21), .int 0, .int (D 18 4), .int (D 18 5), .int (D 18 6), .int (D 18 7), .int (D 18 8), .int (D 18 9), .int (D 18 10), .int (D 18 11), .int (D 18 12), .int (D 18 13), .int (D 18 14)] d_123_94 rfl (ci := 10) (k := 3) rfl rfl (hF.at 18 rfl) (Nat.le_of_ble_eq_true rfl) rfl rfl rfl ?_
  replace hF : ax_hs (ax_put hp_5 (nd + 18) (.inr (10, [.ref (nd + 10), .ref (nd + 19), .ref (nd + 21), .int 0, .int (D 18 4), .int (D 18 5), .int (D 18 6), .int (D 18 7), .int (D 18 8), .int (D 18 9), .int (D 18 10), .int (D 18 11), .int (D 18 12), .int (D 18 13), .int (D 18 14)]))) [cNd n nd me D, cDk nd D, cAr nd 2 35840 D, cAr nd 3 4096 D, cAr nd 4 32 D, cAr nd 5 280 D, cAr nd 6 280 D, cLd n nd me D A, cAr nd 8 16 D, cAr nd 9 280 D, cTb nd gg D K, cAr nd 11 48 D, cAr nd 12 48 D, cAr nd 13 48 D, cAr nd 14 2400 D, cAr nd 15 512 D, cAr nd 16 961 D, cAr nd 17 961 D, (nd + 18, .inr (10, [.ref (nd + 10), .ref (nd + 19), .ref (nd + 21), .int 0, .int (D 18 4), .int (D 18 5), .int (D 18 6), .int (D 18 7), .int (D 18 8), .int (D 18 9), .int (D 18 10), .int (D 18 11), .int (D 18 12), .int (D 18 13), .int (D 18 14)])), cWa nd D, cAr nd 20 612 D, cAr nd 21 1152 D, cRk n nn gg C, cOr n nn gg f] := hF.put 18 _ rfl rfl
  replace hf := hf.put (a := nd + 18) (c := .inr (10, [.ref (nd + 10), .ref (nd + 19), .ref (nd + 21), .int 0, .int (D 18 4), .int (D 18 5), .int (D 18 6), .int (D 18 7), .int (D 18 8), .int (D 18 9), .int (D 18 10), .int (D 18 11), .int (D 18 12), .int (D 18 13), .int (D 18 14)])) (Or.inr (by omega))
  replace hN := hN.put (a := nd + 18) (c := .inr (10, [.ref (nd + 10), .ref (nd + 19), .ref (nd + 21), .int 0, .int (D 18 4), .int (D 18 5), .int (D 18 6), .int (D 18 7), .int (D 18 8), .int (D 18 9), .int (D 18 10), .int (D 18 11), .int (D 18 12), .int (D 18 13), .int (D 18 14)])) (by omega)
  replace hn : (ax_put hp_5 (nd + 18) (.inr (10, [.ref (nd + 10), .ref (nd + 19), .ref (nd + 21), .int 0, .int (D 18 4), .int (D 18 5), .int (D 18 6), .int (D 18 7), .int (D 18 8), .int (D 18 9), .int (D 18 10), .int (D 18 11), .int (D 18 12), .int (D 18 13), .int (D 18 14)]))).1 = h0.1 := hn
  replace hs : (ax_put hp_5 (nd + 18) (.inr (10, [.ref (nd + 10), .ref (nd + 19), .ref (nd + 21), .int 0, .int (D 18 4), .int (D 18 5), .int (D 18 6), .int (D 18 7), .int (D 18 8), .int (D 18 9), .int (D 18 10), .int (D 18 11), .int (D 18 12), .int (D 18 13), .int (D 18 14)]))).2.1 = h0.2.1 := hs
  generalize ax_put hp_5 (nd + 18) (.inr (10, [.ref (nd + 10), .ref (nd + 19), .ref (nd + 21), .int 0, .int (D 18 4), .int (D 18 5), .int (D 18 6), .int (D 18 7), .int (D 18 8), .int (D 18 9), .int (D 18 10), .int (D 18 11), .int (D 18 12), .int (D 18 13), .int (D 18 14)])) = hp_6 at hF hf hN hn hs ⊢
  have hS9 : NS Z n nd nn gg C me f q u b uv h0 hp_6 (va_up D 18 (upd (D 18) 3 0)) K A (pst Y (va_up (va_up (va_up (mg 3 me (nI nn) (D 7 7) (D 7 8)) 5 (D 18 4)) 6 (D 18 5)) 7 (nI tl), fun j => D 20 (100 + j))) := ⟨hF, hN, hf, hn, hs, hp0, hu0⟩
  have hI9 : NI Z nn (va_up D 18 (upd (D 18) 3 0)) := ⟨hI.1, hI.2.1, WI.idle rfl hI.2.2.1.1 hI.2.2.1.2.2.1 hI.2.2.1.2.2.2.2.2.2.2, hI.2.2.2⟩
  exact ar_ret d_123_97 rfl (⟨rfl, _, _, _, _, hS9, hI9, bnN_eq (cl_eq htl etl) (rfl), trivial⟩)
def F_126 (nn gg : Nat) (C me : Int32) (f u b : Nat → Int32) (D : Nat → Nat → Int32) (K A : Int64) (Y : List Mg) (y : Int32) : St :=
  if y < 0 then
    (D, K, A, Y)
  else
    bnN (y.toNatClampNeg) (fun a =>
      if ((D 17) a) = 0 then
        (D, K, A, Y)
      else
        if (rdB (D 8) (D 7 9) (grp (D 11) gg a)) = 0 then
          (D, K, A, Y)
        else
          (D, K, A, pst Y (va_up (mg 6 me (nI (oneO ((D 17) a) nn nn ((D 7 13)).toNatClampNeg)) (D 7 7) (D 7 8)) 5 (tgA (D 11) (D 16) a), fun _ => 0)))
theorem s_126 {L : Nat} {xs : Nat → Int32} {fr lo : Nat} {Z : ZT} {n nd nn gg : Nat} {C me : Int32} {f : Nat → Int32} {q : Nat} {u b : Nat → Int32} {uv : Int32} {h0 h : ax_H} {D : Nat → Nat → Int32} {K A : Int64} {Y : List Mg} {y : Int32} (hfr : 3 ≤ fr) (hlo : 80 ≤ lo) (hC : CS n nd nn gg f) (hS : NS Z n nd nn gg C me f q u b uv h0 h D K A Y) (hI : NI Z nn D) (hy : y < 0 ∨ ∃ a : Nat, a < 961 ∧ y = nI a ∧ (a = 960 ∨ ¬ D 11 (a / 20) < 0)) : ax_M L xs 126 fr lo [.ref (nd + 7), .int y] h (fun r h' => r = none ∧ PS Z n nd nn gg C me f q u b uv h0 h' (fun D' K' A' Y' => (D', K', A', Y') = F_126 nn gg C me f u b D K A Y y ∧ ∀ c, D' c = D c)) := by
  have hC0 := hC
  show ax_A (ax_step L xs) ((126, 0, fr, lo), [(0, .ref (nd + 7)), (1, .int y)], [], h) _
  obtain ⟨hnd, hn0, hnn3, hnn, hgg1, hgg, hRg⟩ := hC
  obtain ⟨hF, hN, hf, hn, hs, hp0, hu0⟩ := hS
  replace hF : ax_hs h [cNd n nd me D, cDk nd D, cAr nd 2 35840 D, cAr nd 3 4096 D, cAr nd 4 32 D, cAr nd 5 280 D, cAr nd 6 280 D, cLd n nd me D A, cAr nd 8 16 D, cAr nd 9 280 D, cTb nd gg D K, cAr nd 11 48 D, cAr nd 12 48 D, cAr nd 13 48 D, cAr nd 14 2400 D, cAr nd 15 512 D, cAr nd 16 961 D, cAr nd 17 961 D, cWk nd D, cWa nd D, cAr nd 20 612 D, cAr nd 21 1152 D, cRk n nn gg C, cOr n nn gg f] := hF
  rcases hy with hy | ⟨a, ha, rfl, hgj⟩
  · refine ar_iload_n 1 d_126_0 rfl rfl ?_
    refine ar_if_lt 76 4 d_126_1 (by decide) rfl (fun _ => ?_) (fun c => absurd (hy) c)
    have hS9 : NS Z n nd nn gg C me f q u b uv h0 h D K A Y := ⟨hF, hN, hf, hn, hs, hp0, hu0⟩
    have hI9 : NI Z nn D := hI
    exact ar_ret d_126_76 rfl (⟨rfl, _, _, _, _, hS9, hI9, eq_ifT hy (rfl), fun _ => rfl⟩)
  · refine ar_iload_n 1 d_126_0 rfl rfl ?_
    refine ar_if_lt 76 4 d_126_1 (by decide) rfl (fun c => absurd c (nI_pos (by omega))) (fun _ => ?_)
    refine ar_aload_n 5 d_126_4 rfl rfl ?_
    refine ar_getf 8 d_126_5 rfl (ci := 9) (k := 3) rfl (hF.at 7 rfl) rfl ?_
    refine ar_getf 11 d_126_8 rfl (ci := 6) (k := 7) rfl (hF.at 10 rfl) rfl ?_
    refine ar_iload_n 12 d_126_11 rfl rfl ?_
    refine ar_ialdN 13 (e := a) d_126_12 rfl (hF.at 17 rfl) (by omega) (by omega) ?_
    refine ar_if_eq 76 16 d_126_13 (by decide) rfl (fun cc1 => ?_) (fun cc1 => ?_)
    · have hS9 : NS Z n nd nn gg C me f q u b uv h0 h D K A Y := ⟨hF, hN, hf, hn, hs, hp0, hu0⟩
      have hI9 : NI Z nn D := hI
      exact ar_ret d_126_76 rfl (⟨rfl, _, _, _, _, hS9, hI9, eq_ifF (nI_pos (by omega)) (bnN_eq ((nI_clamp (by omega)).symm) (eq_ifT cc1 (rfl))), fun _ => rfl⟩)
    · refine ar_aload_n 17 d_126_16 rfl rfl ?_
      refine ar_aload_n 18 d_126_17 rfl rfl ?_
      refine ar_getf 21 d_126_18 rfl (ci := 9) (k := 3) rfl (hF.at 7 rfl) rfl ?_
      refine ar_iload_n 22 d_126_21 rfl rfl ?_
      refine ar_call (r := [.ref (nd + 7)]) (na := 0) (kd := 0) (cm := 75) (fr2 := fr - 1) (lo2 := lo - 22) 25 d_126_22 (ar_hoV (as := [.int (nI a)]) rfl rfl rfl (hF.at 10 rfl)) rfl (by omega) (show lo - 22 + (19 + 3) = lo by omega) (Nat.le_of_ble_eq_true rfl) (Nat.le_of_ble_eq_true rfl) (c_75 (by omega) (by omega) hgg (hI.2.1.grp (by omega) hgj) (hF.at 10 rfl) (hF.at 11 rfl)) ?_
      intro v hh hq
      obtain ⟨rfl, ehh⟩ := hq
      rw [ehh]
      clear ehh
      have hg2 := grp_lt (D 11) (show 0 < gg by omega) a
      refine ar_call (r := []) (na := 0) (kd := 0) (cm := 92) (fr2 := fr - 1) (lo2 := lo - 21) 28 d_126_25 (ar_hoV (as := [.int (nI (grp (D 11) gg a))]) rfl rfl rfl (hF.at 7 rfl)) rfl (by omega) (show lo - 21 + (19 + 2) = lo by omega) (Nat.le_of_ble_eq_true rfl) (Nat.le_of_ble_eq_true rfl) (c_92E (i := (grp (D 11) gg a)) (by omega) (hF.at 7 rfl) (hF.at 8 rfl)) ?_
      intro v hh hq
      obtain ⟨rfl, ehh⟩ := hq
      rw [ehh]
      clear ehh
      refine ar_if_eq 76 31 d_126_28 (by decide) rfl (fun cc3 => ?_) (fun cc3 => ?_)
      · have hS9 : NS Z n nd nn gg C me f q u b uv h0 h D K A Y := ⟨hF, hN, hf, hn, hs, hp0, hu0⟩
        have hI9 : NI Z nn D := hI
        exact ar_ret d_126_76 rfl (⟨rfl, _, _, _, _, hS9, hI9, eq_ifF (nI_pos (by omega)) (bnN_eq ((nI_clamp (by omega)).symm) (eq_ifF cc1 (eq_ifT cc3 (rfl)))), fun _ => rfl⟩)
      · refine ar_aload_n 32 d_126_31 rfl rfl ?_
        refine ar_getf 35 d_126_32 rfl (ci := 9) (k := 2) rfl (hF.at 7 rfl) rfl ?_
        refine ar_bipush 37 (v := 6) d_126_35 rfl (by decide) ?_
        refine ar_aload_n 38 d_126_37 rfl rfl ?_
        refine ar_getf 41 d_126_38 rfl (ci := 9) (k := 0) rfl (hF.at 7 rfl) rfl ?_
        refine ar_aload_n 42 d_126_41 rfl rfl ?_
        refine ar_aload_n 43 d_126_42 rfl rfl ?_
        refine ar_getf 46 d_126_43 rfl (ci := 9) (k := 3) rfl (hF.at 7 rfl) rfl ?_
        refine ar_getf 49 d_126_46 rfl (ci := 6) (k := 7) rfl (hF.at 10 rfl) rfl ?_
        refine ar_iload_n 50 d_126_49 rfl rfl ?_
        refine ar_ialdN 51 (e := a) d_126_50 rfl (hF.at 17 rfl) (by omega) (by omega) ?_
        refine ar_call (r := [.int me, .int 6, .ref n]) (na := 0) (kd := 0) (cm := 127) (fr2 := fr - 1) (lo2 := lo - 23) 54 d_126_51 (ar_hoV (as := [.int ((D 17) a)]) rfl rfl rfl (hF.at 7 rfl)) rfl (by omega) (show lo - 23 + (19 + 4) = lo by omega) (Nat.le_of_ble_eq_true rfl) (Nat.le_of_ble_eq_true rfl) (c_127E hnn (by omega) hI.2.2.2.2 (hF.at 7 rfl) (hF.at 22 rfl)) ?_
        intro v hh hq
        obtain ⟨rfl, ehh⟩ := hq
        rw [ehh]
        clear ehh
        have hv4 : oneO ((D 17) a) nn nn ((D 7 13)).toNatClampNeg < nn := oneO_lt ((D 17) a) (by omega) nn _ (inR_cl hI.2.2.2.2)
        refine ar_aload_n 55 d_126_54 rfl rfl ?_
        refine ar_getf 58 d_126_55 rfl (ci := 9) (k := 7) rfl (hF.at 7 rfl) rfl ?_
        refine ar_aload_n 59 d_126_58 rfl rfl ?_
        refine ar_getf 62 d_126_59 rfl (ci := 9) (k := 8) rfl (hF.at 7 rfl) rfl ?_
        obtain ⟨zk, za, zc, hnet⟩ := hN.net
        refine ar_call (r := []) (na := 0) (kd := 0) (cm := 36) (fr2 := fr - 1) (lo2 := lo - 26) 65 d_126_62 (ar_hoV (as := [.int 6, .int me, .int (nI (oneO ((D 17) a) nn nn ((D 7 13)).toNatClampNeg)), .int (D 7 7), .int (D 7 8)]) rfl rfl rfl hnet) rfl (by omega) (show lo - 26 + (19 + 7) = lo by omega) (Nat.le_of_ble_eq_true rfl) (Nat.le_of_ble_eq_true rfl) (hN.post) ?_
        intro v hp_5 hq
        obtain ⟨m, bm, hm, hmq, rfl, hmm, hed, hf2, hz1, hz2⟩ := hq
        have hNm : NTA n (n + 1) (n + 1 + 1 + 2 * m) := Or.inr (by omega)
        have hNm1 : NTA n (n + 1) (n + 1 + 1 + 2 * m + 1) := Or.inr (by omega)
        replace hF : ax_hs hp_5 [cNd n nd me D, cDk nd D, cAr nd 2 35840 D, cAr nd 3 4096 D, cAr nd 4 32 D, cAr nd 5 280 D, cAr nd 6 280 D, cLd n nd me D A, cAr nd 8 16 D, cAr nd 9 280 D, cTb nd gg D K, cAr nd 11 48 D, cAr nd 12 48 D, cAr nd 13 48 D, cAr nd 14 2400 D, cAr nd 15 512 D, cAr nd 16 961 D, cAr nd 17 961 D, cWk nd D, cWa nd D, cAr nd 20 612 D, cAr nd 21 1152 D, cRk n nn gg C, cOr n nn gg f] := hF.fr hf2 (far (n := n) (nd := nd) rfl hnd)
        replace hF : ax_hs hp_5 [(n + 1 + 1 + 2 * m, .inr (2, [.int 6, .int me, .int (nI (oneO ((D 17) a) nn nn ((D 7 13)).toNatClampNeg)), .int (D 7 7), .int (D 7 8), .int (-1), .int 0, .int 0, .ref (n + 1 + 1 + 2 * m + 1)])), (n + 1 + 1 + 2 * m + 1, .inl (0, 617, .inl bm)), cNd n nd me D, cDk nd D, cAr nd 2 35840 D, cAr nd 3 4096 D, cAr nd 4 32 D, cAr nd 5 280 D, cAr nd 6 280 D, cLd n nd me D A, cAr nd 8 16 D, cAr nd 9 280 D, cTb nd gg D K, cAr nd 11 48 D, cAr nd 12 48 D, cAr nd 13 48 D, cAr nd 14 2400 D, cAr nd 15 512 D, cAr nd 16 961 D, cAr nd 17 961 D, cWk nd D, cWa nd D, cAr nd 20 612 D, cAr nd 21 1152 D, cRk n nn gg C, cOr n nn gg f] := hF.msg (far (n := n) (nd := nd) rfl hnd) hm hmm
        replace hf := hf.trC hf2 (fun _ _ z => Or.inl z)
        replace hn : hp_5.1 = h0.1 := by omega
        replace hs : hp_5.2.1 = h0.2.1 := by omega
        have hfm : ax_fr (fun x => x = n + 1 + 1 + 2 * m ∨ x = n + 1 + 1 + 2 * m + 1) hp_5 hp_5 := ax_fr.rf
        clear hN hnet hf2 hz1 hz2 hmm
        refine ar_aload_n 66 d_126_65 rfl rfl ?_
        refine ar_getf 69 d_126_66 rfl (ci := 9) (k := 3) rfl (hF.at 9 rfl) rfl ?_
        refine ar_iload_n 70 d_126_69 rfl rfl ?_
        refine ar_call (r := [.ref (n + 1 + 1 + 2 * m)]) (na := 0) (kd := 0) (cm := 116) (fr2 := fr - 1) (lo2 := lo - 22) 73 d_126_70 (ar_hoV (as := [.int (nI a)]) rfl rfl rfl (hF.at 12 rfl)) rfl (by omega) (show lo - 22 + (19 + 3) = lo by omega) (Nat.le_of_ble_eq_true rfl) (Nat.le_of_ble_eq_true rfl) (c_116 (a := a) (by omega) (hF.at 12 rfl) (hF.at 13 rfl) (hF.at 18 rfl)) ?_
        intro v hh hq
        obtain ⟨rfl, ehh⟩ := hq
        rw [ehh]
        clear ehh
        refine ar_putf 76 [.int 6, .int me, .int (nI (oneO ((D 17) a) nn nn ((D 7 13)).toNatClampNeg)), .int (D 7 7), .int (D 7 8), .int (tgA (D 11) (D 16) a), .int 0, .int 0, .ref (n + 1 + 1 + 2 * m + 1)] d_126_73 rfl (ci := 2) (k := 5) rfl rfl (hF.at 0 rfl) (Nat.le_of_ble_eq_true rfl) rfl rfl rfl ?_
        replace hF : ax_hs (ax_put hp_5 (n + 1 + 1 + 2 * m) (.inr (2, [.int 6, .int me, .int (nI (oneO ((D 17) a) nn nn ((D 7 13)).toNatClampNeg)), .int (D 7 7), .int (D 7 8), .int (tgA (D 11) (D 16) a), .int 0, .int 0, .ref (n + 1 + 1 + 2 * m + 1)]))) [(n + 1 + 1 + 2 * m, .inr (2, [.int 6, .int me, .int (nI (oneO ((D 17) a) nn nn ((D 7 13)).toNatClampNeg)), .int (D 7 7), .int (D 7 8), .int (tgA (D 11) (D 16) a), .int 0, .int 0, .ref (n + 1 + 1 + 2 * m + 1)])), (n + 1 + 1 + 2 * m + 1, .inl (0, 617, .inl bm)), cNd n nd me D, cDk nd D, cAr nd 2 35840 D, cAr nd 3 4096 D, cAr nd 4 32 D, cAr nd 5 280 D, cAr nd 6 280 D, cLd n nd me D A, cAr nd 8 16 D, cAr nd 9 280 D, cTb nd gg D K, cAr nd 11 48 D, cAr nd 12 48 D, cAr nd 13 48 D, cAr nd 14 2400 D, cAr nd 15 512 D, cAr nd 16 961 D, cAr nd 17 961 D, cWk nd D, cWa nd D, cAr nd 20 612 D, cAr nd 21 1152 D, cRk n nn gg C, cOr n nn gg f] := hF.put 0 _ rfl rfl
        replace hf := hf.put (a := n + 1 + 1 + 2 * m) (c := .inr (2, [.int 6, .int me, .int (nI (oneO ((D 17) a) nn nn ((D 7 13)).toNatClampNeg)), .int (D 7 7), .int (D 7 8), .int (tgA (D 11) (D 16) a), .int 0, .int 0, .ref (n + 1 + 1 + 2 * m + 1)])) (Or.inl hNm)
        replace hfm := hfm.put (a := n + 1 + 1 + 2 * m) (c := .inr (2, [.int 6, .int me, .int (nI (oneO ((D 17) a) nn nn ((D 7 13)).toNatClampNeg)), .int (D 7 7), .int (D 7 8), .int (tgA (D 11) (D 16) a), .int 0, .int 0, .ref (n + 1 + 1 + 2 * m + 1)])) (Or.inl rfl)
        replace hn : (ax_put hp_5 (n + 1 + 1 + 2 * m) (.inr (2, [.int 6, .int me, .int (nI (oneO ((D 17) a) nn nn ((D 7 13)).toNatClampNeg)), .int (D 7 7), .int (D 7 8), .int (tgA (D 11) (D 16) a), .int 0, .int 0, .ref (n + 1 + 1 + 2 * m + 1)]))).1 = h0.1 := hn
        replace hs : (ax_put hp_5 (n + 1 + 1 + 2 * m) (.inr (2, [.int 6, .int me, .int (nI (oneO ((D 17) a) nn nn ((D 7 13)).toNatClampNeg)), .int (D 7 7), .int (D 7 8), .int (tgA (D 11) (D 16) a), .int 0, .int 0, .ref (n + 1 + 1 + 2 * m + 1)]))).2.1 = h0.2.1 := hs
        generalize ax_put hp_5 (n + 1 + 1 + 2 * m) (.inr (2, [.int 6, .int me, .int (nI (oneO ((D 17) a) nn nn ((D 7 13)).toNatClampNeg)), .int (D 7 7), .int (D 7 8), .int (tgA (D 11) (D 16) a), .int 0, .int 0, .ref (n + 1 + 1 + 2 * m + 1)])) = hp_6 at hF hf hfm hn hs ⊢
        have hN : NeT Z hp_6 n q u b (pst Y (va_up (mg 6 me (nI (oneO ((D 17) a) nn nn ((D 7 13)).toNatClampNeg)) (D 7 7) (D 7 8)) 5 (tgA (D 11) (D 16) a), fun _ => 0)) := hed _ (va_up (mg 6 me (nI (oneO ((D 17) a) nn nn ((D 7 13)).toNatClampNeg)) (D 7 7) (D 7 8)) 5 (tgA (D 11) (D 16) a)) bm _ hfm ⟨hF.at 0 rfl, hF.at 1 rfl⟩ (MI.head (Or.inr (Or.inr (Or.inr (Or.inl rfl))))) (smM.head (Or.inr (Or.inr (Or.inr (Or.inl rfl)))))
        replace hF := hF.sub (F' := [cNd n nd me D, cDk nd D, cAr nd 2 35840 D, cAr nd 3 4096 D, cAr nd 4 32 D, cAr nd 5 280 D, cAr nd 6 280 D, cLd n nd me D A, cAr nd 8 16 D, cAr nd 9 280 D, cTb nd gg D K, cAr nd 11 48 D, cAr nd 12 48 D, cAr nd 13 48 D, cAr nd 14 2400 D, cAr nd 15 512 D, cAr nd 16 961 D, cAr nd 17 961 D, cWk nd D, cWa nd D, cAr nd 20 612 D, cAr nd 21 1152 D, cRk n nn gg C, cOr n nn gg f]) [2, 3, 4, 5, 6, 7, 8, 9, 10, 11, 12, 13, 14, 15, 16, 17, 18, 19, 20, 21, 22, 23, 24, 25] rfl rfl
        clear hed hfm hNm hNm1 hm hmq
        have hS9 : NS Z n nd nn gg C me f q u b uv h0 hp_6 D K A (pst Y (va_up (mg 6 me (nI (oneO ((D 17) a) nn nn ((D 7 13)).toNatClampNeg)) (D 7 7) (D 7 8)) 5 (tgA (D 11) (D 16) a), fun _ => 0)) := ⟨hF, hN, hf, hn, hs, hp0, hu0⟩
        have hI9 : NI Z nn D := hI
        exact ar_ret d_126_76 rfl (⟨rfl, _, _, _, _, hS9, hI9, eq_ifF (nI_pos (by omega)) (bnN_eq ((nI_clamp (by omega)).symm) (eq_ifF cc1 (eq_ifF cc3 (rfl)))), fun _ => rfl⟩)
theorem zshr (k : Int32) : (0 : Int32) >>> k = 0 := by simp
theorem gd.cpy {Z : ZT} {B bm : Nat → Int32} {o : Nat} (h : gd Z B o) : gd Z (va_cpy B bm o 0 128) 0 := by
  intro k hk e
  rw [pk_cpy_in (by omega) (by omega)] at e
  rw [pk_cpy_in (by omega) (by omega), pk_cpy_in (by omega) (by omega)]
  exact h k hk e
def G_128 (nn gg : Nat) (C me : Int32) (f u b : Nat → Int32) (j : Nat) (y4 : Int32) : Nat → Nat → (Nat → Nat → Int32) → Int64 → Int64 → List Mg → St
  | 0, i, D, K, A, Y =>
    (D, K, A, Y)
  | k + 1, i, D, K, A, Y =>
    if ((y4 >>> ((nI i) &&& 31)) &&& 1) = 0 then
      G_128 nn gg C me f u b j y4 k (i + 1) D K A Y
    else
      G_128 nn gg C me f u b j y4 k (i + 1) D K A (pst Y (va_up (mg 10 me (nI i) (D 7 7) (D 7 8)) 5 ((D 21) (j * 128 + 1)), fun x => D 21 (j * 128 + x)))
def F_128 (nn gg : Nat) (C me : Int32) (f u b : Nat → Int32) (D : Nat → Nat → Int32) (K A : Int64) (Y : List Mg) (j : Nat) : St :=
  if (seB ((D 21) (j * 128))) = 0 then
    G_128 nn gg C me f u b j 0 nn 0 D K A Y
  else
    if fndI (D 15) (D 16) ((D 21) (j * 128 + 1)) = -1 then
      G_128 nn gg C me f u b j 0 nn 0 D K A Y
    else
      bnN ((fndI (D 15) (D 16) ((D 21) (j * 128 + 1))).toNatClampNeg) (fun a2 =>
        G_128 nn gg C me f u b j (((D 8) (grp (D 11) gg a2)) &&& (((D 17) a2) ^^^ (-1))) nn 0 D K A Y)
set_option maxRecDepth 100000 in
theorem s_128 {L : Nat} {xs : Nat → Int32} {fr lo : Nat} {Z : ZT} {n nd nn gg : Nat} {C me : Int32} {f : Nat → Int32} {q : Nat} {u b : Nat → Int32} {uv : Int32} {h0 h : ax_H} {D : Nat → Nat → Int32} {K A : Int64} {Y : List Mg} {j : Nat} (hfr : 3 ≤ fr) (hlo : 90 ≤ lo) (hC : CS n nd nn gg f) (hS : NS Z n nd nn gg C me f q u b uv h0 h D K A Y) (hI : NI Z nn D) (hj : j < 9) : ax_M L xs 128 fr lo [.ref (nd + 7), .int (nI j)] h (fun r h' => r = none ∧ PS Z n nd nn gg C me f q u b uv h0 h' (fun D' K' A' Y' => (D', K', A', Y') = F_128 nn gg C me f u b D K A Y j ∧ ∀ c, D' c = D c)) := by
  have hC0 := hC
  have key : ∀ (k i : Nat) (y3 y4 : Int32) (h : ax_H) (K A : Int64) (Y : List Mg), i + k = nn → (y4 = 0 ∨ ¬ D 21 (j * 128) = 0) → NS Z n nd nn gg C me f q u b uv h0 h D K A Y → ax_A (ax_step L xs) ((128, 81, fr, lo), [(0, .ref (nd + 7)), (1, .int (nI j)), (2, .int (nI (j * 128))), (3, .int y3), (4, .int y4), (5, .int (nI i))], [], h) (fun r h' => r = none ∧ PS Z n nd nn gg C me f q u b uv h0 h' (fun D' K' A' Y' => (D', K', A', Y') = G_128 nn gg C me f u b j y4 k i D K A Y ∧ ∀ c, D' c = D c)) := by
    intro k
    induction k with
    | zero =>
      intro i y3 y4 h K A Y hi hy4 hS
      have e0 : i = nn := by omega
      obtain ⟨hnd, hn0, hnn3, hnn, hgg1, hgg, hRg⟩ := hC
      obtain ⟨hF, hN, hf, hn, hs, hp0, hu0⟩ := hS
      replace hF : ax_hs h [cNd n nd me D, cDk nd D, cAr nd 2 35840 D, cAr nd 3 4096 D, cAr nd 4 32 D, cAr nd 5 280 D, cAr nd 6 280 D, cLd n nd me D A, cAr nd 8 16 D, cAr nd 9 280 D, cTb nd gg D K, cAr nd 11 48 D, cAr nd 12 48 D, cAr nd 13 48 D, cAr nd 14 2400 D, cAr nd 15 512 D, cAr nd 16 961 D, cAr nd 17 961 D, cWk nd D, cWa nd D, cAr nd 20 612 D, cAr nd 21 1152 D, cRk n nn gg C, cOr n nn gg f] := hF
      refine ar_iload 83 d_128_81 rfl rfl ?_
      refine ar_aload_n 84 d_128_83 rfl rfl ?_
      refine ar_getf 87 d_128_84 rfl (ci := 9) (k := 1) rfl (hF.at 7 rfl) rfl ?_
      refine ar_getf 90 d_128_87 rfl (ci := 3) (k := 0) rfl (hF.at 22 rfl) rfl ?_
      refine ar_icmp_ge 170 93 d_128_90 (by decide) rfl (fun _ => ?_) (fun c => absurd (by rw [e0]; exact Int32.le_refl _) c)
      have hS9 : NS Z n nd nn gg C me f q u b uv h0 h D K A Y := ⟨hF, hN, hf, hn, hs, hp0, hu0⟩
      have hI9 : NI Z nn D := hI
      exact ar_ret d_128_170 rfl (⟨rfl, _, _, _, _, hS9, hI9, rfl, fun _ => rfl⟩)
    | succ k ih =>
      intro i y3 y4 h K A Y hi hy4 hS
      have hic : i < nn := by omega
      obtain ⟨hnd, hn0, hnn3, hnn, hgg1, hgg, hRg⟩ := hC
      obtain ⟨hF, hN, hf, hn, hs, hp0, hu0⟩ := hS
      replace hF : ax_hs h [cNd n nd me D, cDk nd D, cAr nd 2 35840 D, cAr nd 3 4096 D, cAr nd 4 32 D, cAr nd 5 280 D, cAr nd 6 280 D, cLd n nd me D A, cAr nd 8 16 D, cAr nd 9 280 D, cTb nd gg D K, cAr nd 11 48 D, cAr nd 12 48 D, cAr nd 13 48 D, cAr nd 14 2400 D, cAr nd 15 512 D, cAr nd 16 961 D, cAr nd 17 961 D, cWk nd D, cWa nd D, cAr nd 20 612 D, cAr nd 21 1152 D, cRk n nn gg C, cOr n nn gg f] := hF
      refine ar_iload 83 d_128_81 rfl rfl ?_
      refine ar_aload_n 84 d_128_83 rfl rfl ?_
      refine ar_getf 87 d_128_84 rfl (ci := 9) (k := 1) rfl (hF.at 7 rfl) rfl ?_
      refine ar_getf 90 d_128_87 rfl (ci := 3) (k := 0) rfl (hF.at 22 rfl) rfl ?_
      refine ar_icmp_ge 170 93 d_128_90 (by decide) rfl (fun c => absurd c (nI_ge hic (by omega))) (fun _ => ?_)
      refine ar_iload 95 d_128_93 rfl rfl ?_
      refine ar_iload 97 d_128_95 rfl rfl ?_
      refine ar_ishr 98 d_128_97 rfl ?_
      refine ar_iconst 99 (v := 1) d_128_98 rfl (by decide) ?_
      refine ar_iand 100 d_128_99 rfl ?_
      refine ar_if_eq 164 103 d_128_100 (by decide) rfl (fun c1 => ?_) (fun c1 => ?_)
      · refine ar_iinc 167 [(0, .ref (nd + 7)), (1, .int (nI j)), (2, .int (nI (j * 128))), (3, .int y3), (4, .int y4), (5, .int (nI (i + 1)))] d_128_164 rfl rfl (nI_1 i) (by decide) rfl ?_
        refine ar_goto 81 d_128_167 (by decide) ?_
        have hS1 : NS Z n nd nn gg C me f q u b uv h0 h D K A Y := ⟨hF, hN, hf, hn, hs, hp0, hu0⟩
        have hI1 : NI Z nn D := hI
        rw [← show G_128 nn gg C me f u b j y4 k (i + 1) D K A Y = G_128 nn gg C me f u b j y4 (k + 1) i D K A Y from eq_ifT c1 (rfl)]
        exact ih (i + 1) y3 y4 h _ _ _ (by omega) hy4 hS1
      · have hsl : ¬ D 21 (j * 128) = 0 := hy4.resolve_left (fun z => c1 (by rw [z, zshr]; rfl))
        have hgd := hI.2.2.1.2.2.2.2.2.2.2 j hj hsl
        refine ar_aload_n 104 d_128_103 rfl rfl ?_
        refine ar_getf 107 d_128_104 rfl (ci := 9) (k := 2) rfl (hF.at 7 rfl) rfl ?_
        refine ar_bipush 109 (v := 10) d_128_107 rfl (by decide) ?_
        refine ar_aload_n 110 d_128_109 rfl rfl ?_
        refine ar_getf 113 d_128_110 rfl (ci := 9) (k := 0) rfl (hF.at 7 rfl) rfl ?_
        refine ar_iload 115 d_128_113 rfl rfl ?_
        refine ar_aload_n 116 d_128_115 rfl rfl ?_
        refine ar_getf 119 d_128_116 rfl (ci := 9) (k := 7) rfl (hF.at 7 rfl) rfl ?_
        refine ar_aload_n 120 d_128_119 rfl rfl ?_
        refine ar_getf 123 d_128_120 rfl (ci := 9) (k := 8) rfl (hF.at 7 rfl) rfl ?_
        obtain ⟨zk, za, zc, hnet⟩ := hN.net
        refine ar_call (r := []) (na := 0) (kd := 0) (cm := 36) (fr2 := fr - 1) (lo2 := lo - 26) 126 d_128_123 (ar_hoV (as := [.int 10, .int me, .int (nI i), .int (D 7 7), .int (D 7 8)]) rfl rfl rfl hnet) rfl (by omega) (show lo - 26 + (19 + 7) = lo by omega) (Nat.le_of_ble_eq_true rfl) (Nat.le_of_ble_eq_true rfl) (hN.post) ?_
        intro v hp_1 hq
        obtain ⟨m, bm, hm, hmq, rfl, hmm, hed, hf2, hz1, hz2⟩ := hq
        have hNm : NTA n (n + 1) (n + 1 + 1 + 2 * m) := Or.inr (by omega)
        have hNm1 : NTA n (n + 1) (n + 1 + 1 + 2 * m + 1) := Or.inr (by omega)
        replace hF : ax_hs hp_1 [cNd n nd me D, cDk nd D, cAr nd 2 35840 D, cAr nd 3 4096 D, cAr nd 4 32 D, cAr nd 5 280 D, cAr nd 6 280 D, cLd n nd me D A, cAr nd 8 16 D, cAr nd 9 280 D, cTb nd gg D K, cAr nd 11 48 D, cAr nd 12 48 D, cAr nd 13 48 D, cAr nd 14 2400 D, cAr nd 15 512 D, cAr nd 16 961 D, cAr nd 17 961 D, cWk nd D, cWa nd D, cAr nd 20 612 D, cAr nd 21 1152 D, cRk n nn gg C, cOr n nn gg f] := hF.fr hf2 (far (n := n) (nd := nd) rfl hnd)
        replace hF : ax_hs hp_1 [(n + 1 + 1 + 2 * m, .inr (2, [.int 10, .int me, .int (nI i), .int (D 7 7), .int (D 7 8), .int (-1), .int 0, .int 0, .ref (n + 1 + 1 + 2 * m + 1)])), (n + 1 + 1 + 2 * m + 1, .inl (0, 617, .inl bm)), cNd n nd me D, cDk nd D, cAr nd 2 35840 D, cAr nd 3 4096 D, cAr nd 4 32 D, cAr nd 5 280 D, cAr nd 6 280 D, cLd n nd me D A, cAr nd 8 16 D, cAr nd 9 280 D, cTb nd gg D K, cAr nd 11 48 D, cAr nd 12 48 D, cAr nd 13 48 D, cAr nd 14 2400 D, cAr nd 15 512 D, cAr nd 16 961 D, cAr nd 17 961 D, cWk nd D, cWa nd D, cAr nd 20 612 D, cAr nd 21 1152 D, cRk n nn gg C, cOr n nn gg f] := hF.msg (far (n := n) (nd := nd) rfl hnd) hm hmm
        replace hf := hf.trC hf2 (fun _ _ z => Or.inl z)
        replace hn : hp_1.1 = h0.1 := by omega
        replace hs : hp_1.2.1 = h0.2.1 := by omega
        have hfm : ax_fr (fun x => x = n + 1 + 1 + 2 * m ∨ x = n + 1 + 1 + 2 * m + 1) hp_1 hp_1 := ax_fr.rf
        clear hN hnet hf2 hz1 hz2 hmm
        refine ar_astore 128 [(0, .ref (nd + 7)), (1, .int (nI j)), (2, .int (nI (j * 128))), (3, .int y3), (4, .int y4), (5, .int (nI i)), (6, .ref (n + 1 + 1 + 2 * m))] d_128_126 rfl (by decide) rfl ?_
        refine ar_aload 130 d_128_128 rfl rfl ?_
        refine ar_aload_n 131 d_128_130 rfl rfl ?_
        refine ar_getf 134 d_128_131 rfl (ci := 9) (k := 4) rfl (hF.at 9 rfl) rfl ?_
        refine ar_getf 137 d_128_134 rfl (ci := 10) (k := 2) rfl (hF.at 20 rfl) rfl ?_
        refine ar_iload_n 138 d_128_137 rfl rfl ?_
        refine ar_iconst 139 (v := 1) d_128_138 rfl (by decide) ?_
        refine ar_iadd 140 d_128_139 rfl ?_
        refine ar_top (x' := nI (j * 128 + 1)) (nI_1 _) ?_
        refine ar_ialdN 141 (e := j * 128 + 1) d_128_140 rfl (hF.at 23 rfl) (by omega) (by omega) ?_
        refine ar_putf 144 [.int 10, .int me, .int (nI i), .int (D 7 7), .int (D 7 8), .int ((D 21) (j * 128 + 1)), .int 0, .int 0, .ref (n + 1 + 1 + 2 * m + 1)] d_128_141 rfl (ci := 2) (k := 5) rfl rfl (hF.at 0 rfl) (Nat.le_of_ble_eq_true rfl) rfl rfl rfl ?_
        replace hF : ax_hs (ax_put hp_1 (n + 1 + 1 + 2 * m) (.inr (2, [.int 10, .int me, .int (nI i), .int (D 7 7), .int (D 7 8), .int ((D 21) (j * 128 + 1)), .int 0, .int 0, .ref (n + 1 + 1 + 2 * m + 1)]))) [(n + 1 + 1 + 2 * m, .inr (2, [.int 10, .int me, .int (nI i), .int (D 7 7), .int (D 7 8), .int ((D 21) (j * 128 + 1)), .int 0, .int 0, .ref (n + 1 + 1 + 2 * m + 1)])), (n + 1 + 1 + 2 * m + 1, .inl (0, 617, .inl bm)), cNd n nd me D, cDk nd D, cAr nd 2 35840 D, cAr nd 3 4096 D, cAr nd 4 32 D, cAr nd 5 280 D, cAr nd 6 280 D, cLd n nd me D A, cAr nd 8 16 D, cAr nd 9 280 D, cTb nd gg D K, cAr nd 11 48 D, cAr nd 12 48 D, cAr nd 13 48 D, cAr nd 14 2400 D, cAr nd 15 512 D, cAr nd 16 961 D, cAr nd 17 961 D, cWk nd D, cWa nd D, cAr nd 20 612 D, cAr nd 21 1152 D, cRk n nn gg C, cOr n nn gg f] := hF.put 0 _ rfl rfl
        replace hf := hf.put (a := n + 1 + 1 + 2 * m) (c := .inr (2, [.int 10, .int me, .int (nI i), .int (D 7 7), .int (D 7 8), .int ((D 21) (j * 128 + 1)), .int 0, .int 0, .ref (n + 1 + 1 + 2 * m + 1)])) (Or.inl hNm)
        replace hfm := hfm.put (a := n + 1 + 1 + 2 * m) (c := .inr (2, [.int 10, .int me, .int (nI i), .int (D 7 7), .int (D 7 8), .int ((D 21) (j * 128 + 1)), .int 0, .int 0, .ref (n + 1 + 1 + 2 * m + 1)])) (Or.inl rfl)
        replace hn : (ax_put hp_1 (n + 1 + 1 + 2 * m) (.inr (2, [.int 10, .int me, .int (nI i), .int (D 7 7), .int (D 7 8), .int ((D 21) (j * 128 + 1)), .int 0, .int 0, .ref (n + 1 + 1 + 2 * m + 1)]))).1 = h0.1 := hn
        replace hs : (ax_put hp_1 (n + 1 + 1 + 2 * m) (.inr (2, [.int 10, .int me, .int (nI i), .int (D 7 7), .int (D 7 8), .int ((D 21) (j * 128 + 1)), .int 0, .int 0, .ref (n + 1 + 1 + 2 * m + 1)]))).2.1 = h0.2.1 := hs
        generalize ax_put hp_1 (n + 1 + 1 + 2 * m) (.inr (2, [.int 10, .int me, .int (nI i), .int (D 7 7), .int (D 7 8), .int ((D 21) (j * 128 + 1)), .int 0, .int 0, .ref (n + 1 + 1 + 2 * m + 1)])) = hp_2 at hF hf hfm hn hs ⊢
        refine ar_aload_n 145 d_128_144 rfl rfl ?_
        refine ar_getf 148 d_128_145 rfl (ci := 9) (k := 4) rfl (hF.at 9 rfl) rfl ?_
        refine ar_getf 151 d_128_148 rfl (ci := 10) (k := 2) rfl (hF.at 20 rfl) rfl ?_
        refine ar_iload_n 152 d_128_151 rfl rfl ?_
        refine ar_aload 154 d_128_152 rfl rfl ?_
        refine ar_getf 157 d_128_154 rfl (ci := 2) (k := 8) rfl (hF.at 0 rfl) rfl ?_
        refine ar_iconst 158 (v := 0) d_128_157 rfl (by decide) ?_
        refine ar_sipush 161 (v := 128) d_128_158 rfl (by decide) ?_
        refine ar_copy 164 d_128_161 rfl rfl (by omega) (by show 0 + (nativeFrameWords "java/lang/System" "arraycopy" 5 + 11) ≤ lo; rw [nfw_copy]; omega) (hF.at 23 rfl) (hF.at 1 rfl) (Int32.not_lt.mpr (nI_le (Nat.zero_le _) (by omega))) (by decide) (by decide) (by rw [nI_clamp (by omega)]; show j * 128 + 128 ≤ 1152; omega) (by show 0 + 128 ≤ 617; omega) ?_
        replace hF : ax_hs (ax_put hp_2 (n + 1 + 1 + 2 * m + 1) (.inl (0, 617, .inl (va_cpy (D 21) bm ((nI (j * 128)).toNatClampNeg) ((0 : Int32).toNatClampNeg) ((128 : Int32).toNatClampNeg))))) [(n + 1 + 1 + 2 * m, .inr (2, [.int 10, .int me, .int (nI i), .int (D 7 7), .int (D 7 8), .int ((D 21) (j * 128 + 1)), .int 0, .int 0, .ref (n + 1 + 1 + 2 * m + 1)])), (n + 1 + 1 + 2 * m + 1, .inl (0, 617, .inl (va_cpy (D 21) bm ((nI (j * 128)).toNatClampNeg) ((0 : Int32).toNatClampNeg) ((128 : Int32).toNatClampNeg)))), cNd n nd me D, cDk nd D, cAr nd 2 35840 D, cAr nd 3 4096 D, cAr nd 4 32 D, cAr nd 5 280 D, cAr nd 6 280 D, cLd n nd me D A, cAr nd 8 16 D, cAr nd 9 280 D, cTb nd gg D K, cAr nd 11 48 D, cAr nd 12 48 D, cAr nd 13 48 D, cAr nd 14 2400 D, cAr nd 15 512 D, cAr nd 16 961 D, cAr nd 17 961 D, cWk nd D, cWa nd D, cAr nd 20 612 D, cAr nd 21 1152 D, cRk n nn gg C, cOr n nn gg f] := hF.put 1 _ rfl rfl
        replace hf := hf.put (a := n + 1 + 1 + 2 * m + 1) (c := .inl (0, 617, .inl (va_cpy (D 21) bm ((nI (j * 128)).toNatClampNeg) ((0 : Int32).toNatClampNeg) ((128 : Int32).toNatClampNeg)))) (Or.inl hNm1)
        replace hfm := hfm.put (a := n + 1 + 1 + 2 * m + 1) (c := .inl (0, 617, .inl (va_cpy (D 21) bm ((nI (j * 128)).toNatClampNeg) ((0 : Int32).toNatClampNeg) ((128 : Int32).toNatClampNeg)))) (Or.inr rfl)
        replace hn : (ax_put hp_2 (n + 1 + 1 + 2 * m + 1) (.inl (0, 617, .inl (va_cpy (D 21) bm ((nI (j * 128)).toNatClampNeg) ((0 : Int32).toNatClampNeg) ((128 : Int32).toNatClampNeg))))).1 = h0.1 := hn
        replace hs : (ax_put hp_2 (n + 1 + 1 + 2 * m + 1) (.inl (0, 617, .inl (va_cpy (D 21) bm ((nI (j * 128)).toNatClampNeg) ((0 : Int32).toNatClampNeg) ((128 : Int32).toNatClampNeg))))).2.1 = h0.2.1 := hs
        generalize ax_put hp_2 (n + 1 + 1 + 2 * m + 1) (.inl (0, 617, .inl (va_cpy (D 21) bm ((nI (j * 128)).toNatClampNeg) ((0 : Int32).toNatClampNeg) ((128 : Int32).toNatClampNeg)))) = hp_3 at hF hf hfm hn hs ⊢
        have hN : NeT Z hp_3 n q u b (pst Y (va_up (mg 10 me (nI i) (D 7 7) (D 7 8)) 5 ((D 21) (j * 128 + 1)), fun x => D 21 (j * 128 + x))) := hed _ (va_up (mg 10 me (nI i) (D 7 7) (D 7 8)) 5 ((D 21) (j * 128 + 1))) (va_cpy (D 21) bm ((nI (j * 128)).toNatClampNeg) ((0 : Int32).toNatClampNeg) ((128 : Int32).toNatClampNeg)) _ hfm ⟨hF.at 0 rfl, hF.at 1 rfl⟩ (MI.item (Or.inr rfl) (fun _ => ⟨by
            show va_cpy (D 21) bm (nI (j * 128)).toNatClampNeg 0 128 1 = D 21 (j * 128 + 1)
            rw [nI_clamp (by omega), pk_cpy_in (by omega) (by omega)], by
            show gd Z (va_cpy (D 21) bm (nI (j * 128)).toNatClampNeg 0 128) 0
            rw [nI_clamp (by omega)]
            exact hgd.cpy⟩)) (by rw [nI_clamp (by omega)]; exact sm_cpo (o := j * 128) (Nat.le_of_eq (rlv_item (Or.inr rfl))))
        replace hF := hF.sub (F' := [cNd n nd me D, cDk nd D, cAr nd 2 35840 D, cAr nd 3 4096 D, cAr nd 4 32 D, cAr nd 5 280 D, cAr nd 6 280 D, cLd n nd me D A, cAr nd 8 16 D, cAr nd 9 280 D, cTb nd gg D K, cAr nd 11 48 D, cAr nd 12 48 D, cAr nd 13 48 D, cAr nd 14 2400 D, cAr nd 15 512 D, cAr nd 16 961 D, cAr nd 17 961 D, cWk nd D, cWa nd D, cAr nd 20 612 D, cAr nd 21 1152 D, cRk n nn gg C, cOr n nn gg f]) [2, 3, 4, 5, 6, 7, 8, 9, 10, 11, 12, 13, 14, 15, 16, 17, 18, 19, 20, 21, 22, 23, 24, 25] rfl rfl
        clear hed hfm hNm hNm1 hm hmq
        refine ar_iinc 167 [(0, .ref (nd + 7)), (1, .int (nI j)), (2, .int (nI (j * 128))), (3, .int y3), (4, .int y4), (5, .int (nI (i + 1))), (6, .ref (n + 1 + 1 + 2 * m))] d_128_164 rfl rfl (nI_1 i) (by decide) rfl ?_
        refine ar_goto 81 d_128_167 (by decide) ?_
        refine ar_wk [0, 1, 2, 3, 4, 5] rfl (by simp) ?_
        have hS1 : NS Z n nd nn gg C me f q u b uv h0 hp_3 D K A (pst Y (va_up (mg 10 me (nI i) (D 7 7) (D 7 8)) 5 ((D 21) (j * 128 + 1)), fun x => D 21 (j * 128 + x))) := ⟨hF, hN, hf, hn, hs, hp0, hu0⟩
        have hI1 : NI Z nn D := hI
        rw [← show G_128 nn gg C me f u b j y4 k (i + 1) D K A (pst Y (va_up (mg 10 me (nI i) (D 7 7) (D 7 8)) 5 ((D 21) (j * 128 + 1)), fun x => D 21 (j * 128 + x))) = G_128 nn gg C me f u b j y4 (k + 1) i D K A Y from eq_ifF c1 (rfl)]
        exact ih (i + 1) y3 y4 hp_3 _ _ _ (by omega) hy4 hS1
  show ax_A (ax_step L xs) ((128, 0, fr, lo), [(0, .ref (nd + 7)), (1, .int (nI j))], [], h) _
  have hS0 := hS
  obtain ⟨hnd, hn0, hnn3, hnn, hgg1, hgg, hRg⟩ := hC
  obtain ⟨hF, hN, hf, hn, hs, hp0, hu0⟩ := hS
  replace hF : ax_hs h [cNd n nd me D, cDk nd D, cAr nd 2 35840 D, cAr nd 3 4096 D, cAr nd 4 32 D, cAr nd 5 280 D, cAr nd 6 280 D, cLd n nd me D A, cAr nd 8 16 D, cAr nd 9 280 D, cTb nd gg D K, cAr nd 11 48 D, cAr nd 12 48 D, cAr nd 13 48 D, cAr nd 14 2400 D, cAr nd 15 512 D, cAr nd 16 961 D, cAr nd 17 961 D, cWk nd D, cWa nd D, cAr nd 20 612 D, cAr nd 21 1152 D, cRk n nn gg C, cOr n nn gg f] := hF
  refine ar_iload_n 1 d_128_0 rfl rfl ?_
  refine ar_sipush 4 (v := 128) d_128_1 rfl (by decide) ?_
  refine ar_imul 5 d_128_4 rfl ?_
  refine ar_top (x' := nI (j * 128)) (pk_mul _ 128) ?_
  refine ar_istore_n 6 [(0, .ref (nd + 7)), (1, .int (nI j)), (2, .int (nI (j * 128)))] d_128_5 rfl (by decide) rfl ?_
  refine ar_aload_n 7 d_128_6 rfl rfl ?_
  refine ar_getf 10 d_128_7 rfl (ci := 9) (k := 4) rfl (hF.at 7 rfl) rfl ?_
  refine ar_getf 13 d_128_10 rfl (ci := 10) (k := 2) rfl (hF.at 18 rfl) rfl ?_
  refine ar_iload_n 14 d_128_13 rfl rfl ?_
  refine ar_call (r := []) (na := 0) (kd := 0) (cm := 120) (fr2 := fr - 1) (lo2 := lo - 21) 17 d_128_14 (ar_hoS (as := [.ref (nd + 21), .int (nI (j * 128))]) rfl rfl rfl) rfl (by omega) (show lo - 21 + (19 + 2) = lo by omega) (Nat.le_of_ble_eq_true rfl) (Nat.le_of_ble_eq_true rfl) (c_120E (i := j * 128) (by decide) (by omega) (ax_hs.one (hF.at 21 rfl))) ?_
  intro v hh hq
  obtain ⟨rfl, ehh⟩ := hq
  rw [ehh]
  clear ehh
  refine ar_if_eq 41 20 d_128_17 (by decide) rfl (fun cc1 => ?_) (fun cc1 => ?_)
  · refine ar_iconst 42 (v := -1) d_128_41 rfl (by decide) ?_
    refine ar_istore_n 43 [(0, .ref (nd + 7)), (1, .int (nI j)), (2, .int (nI (j * 128))), (3, .int (-1))] d_128_42 rfl (by decide) rfl ?_
    refine ar_iload_n 44 d_128_43 rfl rfl ?_
    refine ar_if_ge 51 47 d_128_44 (by decide) rfl (fun c => absurd c (by decide)) (fun _ => ?_)
    refine ar_iconst 48 (v := 0) d_128_47 rfl (by decide) ?_
    refine ar_goto 76 d_128_48 (by decide) ?_
    refine ar_istore 78 [(0, .ref (nd + 7)), (1, .int (nI j)), (2, .int (nI (j * 128))), (3, .int (-1)), (4, .int 0)] d_128_76 rfl (by decide) rfl ?_
    refine ar_iconst 79 (v := 0) d_128_78 rfl (by decide) ?_
    refine ar_istore 81 [(0, .ref (nd + 7)), (1, .int (nI j)), (2, .int (nI (j * 128))), (3, .int (-1)), (4, .int 0), (5, .int 0)] d_128_79 rfl (by decide) rfl ?_
    rw [← show G_128 nn gg C me f u b j 0 nn 0 D K A Y = F_128 nn gg C me f u b D K A Y j from eq_ifT cc1 (rfl)]
    exact key nn 0 _ _ h _ _ _ (by omega) (Or.inl rfl) hS0
  · have hsl : ¬ D 21 (j * 128) = 0 := fun z => cc1 (if_pos z)
    refine ar_aload_n 21 d_128_20 rfl rfl ?_
    refine ar_getf 24 d_128_21 rfl (ci := 9) (k := 3) rfl (hF.at 7 rfl) rfl ?_
    refine ar_aload_n 25 d_128_24 rfl rfl ?_
    refine ar_getf 28 d_128_25 rfl (ci := 9) (k := 4) rfl (hF.at 7 rfl) rfl ?_
    refine ar_getf 31 d_128_28 rfl (ci := 10) (k := 2) rfl (hF.at 18 rfl) rfl ?_
    refine ar_iload_n 32 d_128_31 rfl rfl ?_
    refine ar_iconst 33 (v := 1) d_128_32 rfl (by decide) ?_
    refine ar_iadd 34 d_128_33 rfl ?_
    refine ar_top (x' := nI (j * 128 + 1)) (nI_1 _) ?_
    refine ar_ialdN 35 (e := j * 128 + 1) d_128_34 rfl (hF.at 21 rfl) (by omega) (by omega) ?_
    refine ar_call (r := []) (na := 0) (kd := 0) (cm := 77) (fr2 := fr - 1) (lo2 := lo - 23) 38 d_128_35 (ar_hoV (as := [.int ((D 21) (j * 128 + 1))]) rfl rfl rfl (hF.at 10 rfl)) rfl (by omega) (show lo - 23 + (19 + 4) = lo by omega) (Nat.le_of_ble_eq_true rfl) (Nat.le_of_ble_eq_true rfl) (c_77E (x := (D 21) (j * 128 + 1)) hI.2.1 (hF.at 10 rfl) (hF.at 15 rfl) (hF.at 16 rfl)) ?_
    intro v hh hq
    obtain ⟨rfl, ehh⟩ := hq
    rw [ehh]
    clear ehh
    rcases hI.2.1.fnd2 ((D 21) (j * 128 + 1)) with ey2 | ⟨t2, a2, ht2, hx2, ha2, ey2, hfd2⟩
    · refine ar_top (x' := -1) (ey2) ?_
      refine ar_goto 42 d_128_38 (by decide) ?_
      refine ar_istore_n 43 [(0, .ref (nd + 7)), (1, .int (nI j)), (2, .int (nI (j * 128))), (3, .int (-1))] d_128_42 rfl (by decide) rfl ?_
      refine ar_iload_n 44 d_128_43 rfl rfl ?_
      refine ar_if_ge 51 47 d_128_44 (by decide) rfl (fun c => absurd c (by decide)) (fun _ => ?_)
      refine ar_iconst 48 (v := 0) d_128_47 rfl (by decide) ?_
      refine ar_goto 76 d_128_48 (by decide) ?_
      refine ar_istore 78 [(0, .ref (nd + 7)), (1, .int (nI j)), (2, .int (nI (j * 128))), (3, .int (-1)), (4, .int 0)] d_128_76 rfl (by decide) rfl ?_
      refine ar_iconst 79 (v := 0) d_128_78 rfl (by decide) ?_
      refine ar_istore 81 [(0, .ref (nd + 7)), (1, .int (nI j)), (2, .int (nI (j * 128))), (3, .int (-1)), (4, .int 0), (5, .int 0)] d_128_79 rfl (by decide) rfl ?_
      rw [← show G_128 nn gg C me f u b j 0 nn 0 D K A Y = F_128 nn gg C me f u b D K A Y j from eq_ifF cc1 (eq_ifT ey2 (rfl))]
      exact key nn 0 _ _ h _ _ _ (by omega) (Or.inl rfl) hS0
    · refine ar_top (x' := nI a2) (ey2) ?_
      refine ar_goto 42 d_128_38 (by decide) ?_
      refine ar_istore_n 43 [(0, .ref (nd + 7)), (1, .int (nI j)), (2, .int (nI (j * 128))), (3, .int (nI a2))] d_128_42 rfl (by decide) rfl ?_
      refine ar_iload_n 44 d_128_43 rfl rfl ?_
      refine ar_if_ge 51 47 d_128_44 (by decide) rfl (fun _ => ?_) (fun c => absurd (nI_pos' (by omega)) c)
      refine ar_aload_n 52 d_128_51 rfl rfl ?_
      refine ar_getf 55 d_128_52 rfl (ci := 9) (k := 5) rfl (hF.at 7 rfl) rfl ?_
      refine ar_aload_n 56 d_128_55 rfl rfl ?_
      refine ar_getf 59 d_128_56 rfl (ci := 9) (k := 3) rfl (hF.at 7 rfl) rfl ?_
      refine ar_iload_n 60 d_128_59 rfl rfl ?_
      refine ar_call (r := [.ref (nd + 8)]) (na := 0) (kd := 0) (cm := 75) (fr2 := fr - 1) (lo2 := lo - 22) 63 d_128_60 (ar_hoV (as := [.int (nI a2)]) rfl rfl rfl (hF.at 10 rfl)) rfl (by omega) (show lo - 22 + (19 + 3) = lo by omega) (Nat.le_of_ble_eq_true rfl) (Nat.le_of_ble_eq_true rfl) (c_75 ha2 (by omega) hgg (hI.2.1.grp ha2 (hfd2.id)) (hF.at 10 rfl) (hF.at 11 rfl)) ?_
      intro v hh hq
      obtain ⟨rfl, ehh⟩ := hq
      rw [ehh]
      clear ehh
      have hg3 := grp_lt (D 11) (show 0 < gg by omega) a2
      refine ar_ialdN 64 (e := grp (D 11) gg a2) d_128_63 rfl (hF.at 8 rfl) (by omega) (by omega) ?_
      refine ar_aload_n 65 d_128_64 rfl rfl ?_
      refine ar_getf 68 d_128_65 rfl (ci := 9) (k := 3) rfl (hF.at 7 rfl) rfl ?_
      refine ar_getf 71 d_128_68 rfl (ci := 6) (k := 7) rfl (hF.at 10 rfl) rfl ?_
      refine ar_iload_n 72 d_128_71 rfl rfl ?_
      refine ar_ialdN 73 (e := a2) d_128_72 rfl (hF.at 17 rfl) (by omega) (by omega) ?_
      refine ar_iconst 74 (v := -1) d_128_73 rfl (by decide) ?_
      refine ar_ixor 75 d_128_74 rfl ?_
      refine ar_iand 76 d_128_75 rfl ?_
      refine ar_istore 78 [(0, .ref (nd + 7)), (1, .int (nI j)), (2, .int (nI (j * 128))), (3, .int (nI a2)), (4, .int (((D 8) (grp (D 11) gg a2)) &&& (((D 17) a2) ^^^ (-1))))] d_128_76 rfl (by decide) rfl ?_
      refine ar_iconst 79 (v := 0) d_128_78 rfl (by decide) ?_
      refine ar_istore 81 [(0, .ref (nd + 7)), (1, .int (nI j)), (2, .int (nI (j * 128))), (3, .int (nI a2)), (4, .int (((D 8) (grp (D 11) gg a2)) &&& (((D 17) a2) ^^^ (-1)))), (5, .int 0)] d_128_79 rfl (by decide) rfl ?_
      rw [← show G_128 nn gg C me f u b j (((D 8) (grp (D 11) gg a2)) &&& (((D 17) a2) ^^^ (-1))) nn 0 D K A Y = F_128 nn gg C me f u b D K A Y j from eq_ifF cc1 (eq_ifF (nI_ne1 ha2 ey2) (bnN_eq (cl_eq ha2 ey2) (rfl)))]
      exact key nn 0 _ _ h _ _ _ (by omega) (Or.inr hsl) hS0

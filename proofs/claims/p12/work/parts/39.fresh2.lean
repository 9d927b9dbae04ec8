/-! the store with all NODES up: restart, replace, countUp, count -/
theorem d_144_0 : decode (axt_b 144) 0 = .ok (.iload_n 1, 1) := by decide +kernel
theorem d_144_1 : decode (axt_b 144) 1 = .ok (.ifCond .lt 24, 3) := by decide +kernel
theorem d_144_4 : decode (axt_b 144) 4 = .ok (.iload_n 1, 1) := by decide +kernel
theorem d_144_5 : decode (axt_b 144) 5 = .ok (.aload_n 0, 1) := by decide +kernel
theorem d_144_6 : decode (axt_b 144) 6 = .ok (.getfield 63, 3) := by decide +kernel
theorem d_144_9 : decode (axt_b 144) 9 = .ok (.arraylength, 1) := by decide +kernel
theorem d_144_10 : decode (axt_b 144) 10 = .ok (.if_icmp .ge 15, 3) := by decide +kernel
theorem d_144_13 : decode (axt_b 144) 13 = .ok (.aload_n 0, 1) := by decide +kernel
theorem d_144_14 : decode (axt_b 144) 14 = .ok (.getfield 63, 3) := by decide +kernel
theorem d_144_17 : decode (axt_b 144) 17 = .ok (.iload_n 1, 1) := by decide +kernel
theorem d_144_18 : decode (axt_b 144) 18 = .ok (.aaload, 1) := by decide +kernel
theorem d_144_19 : decode (axt_b 144) 19 = .ok (.getfield 131, 3) := by decide +kernel
theorem d_144_22 : decode (axt_b 144) 22 = .ok (.ifCond .eq 5, 3) := by decide +kernel
theorem d_144_25 : decode (axt_b 144) 25 = .ok (.iconst 0, 1) := by decide +kernel
theorem d_144_26 : decode (axt_b 144) 26 = .ok (.ireturn, 1) := by decide +kernel
theorem d_144_27 : decode (axt_b 144) 27 = .ok (.aload_n 0, 1) := by decide +kernel
theorem d_144_28 : decode (axt_b 144) 28 = .ok (.iconst 0, 1) := by decide +kernel
theorem d_144_29 : decode (axt_b 144) 29 = .ok (.putfield 99, 3) := by decide +kernel
theorem d_144_32 : decode (axt_b 144) 32 = .ok (.aload_n 0, 1) := by decide +kernel
theorem d_144_33 : decode (axt_b 144) 33 = .ok (.getfield 63, 3) := by decide +kernel
theorem d_144_36 : decode (axt_b 144) 36 = .ok (.iload_n 1, 1) := by decide +kernel
theorem d_144_37 : decode (axt_b 144) 37 = .ok (.aaload, 1) := by decide +kernel
theorem d_144_38 : decode (axt_b 144) 38 = .ok (.aload_n 0, 1) := by decide +kernel
theorem d_144_39 : decode (axt_b 144) 39 = .ok (.getfield 41, 3) := by decide +kernel
theorem d_144_42 : decode (axt_b 144) 42 = .ok (.getfield 69, 3) := by decide +kernel
theorem d_144_45 : decode (axt_b 144) 45 = .ok (.aload_n 0, 1) := by decide +kernel
theorem d_144_46 : decode (axt_b 144) 46 = .ok (.getfield 41, 3) := by decide +kernel
theorem d_144_49 : decode (axt_b 144) 49 = .ok (.getfield 72, 3) := by decide +kernel
theorem d_144_52 : decode (axt_b 144) 52 = .ok (.invokevirtual 75, 3) := by decide +kernel
theorem d_144_55 : decode (axt_b 144) 55 = .ok (.iconst 1, 1) := by decide +kernel
theorem d_144_56 : decode (axt_b 144) 56 = .ok (.ireturn, 1) := by decide +kernel
theorem d_148_0 : decode (axt_b 148) 0 = .ok (.iload_n 1, 1) := by decide +kernel
theorem d_148_1 : decode (axt_b 148) 1 = .ok (.ifCond .lt 40, 3) := by decide +kernel
theorem d_148_4 : decode (axt_b 148) 4 = .ok (.iload_n 1, 1) := by decide +kernel
theorem d_148_5 : decode (axt_b 148) 5 = .ok (.aload_n 0, 1) := by decide +kernel
theorem d_148_6 : decode (axt_b 148) 6 = .ok (.getfield 63, 3) := by decide +kernel
theorem d_148_9 : decode (axt_b 148) 9 = .ok (.arraylength, 1) := by decide +kernel
theorem d_148_10 : decode (axt_b 148) 10 = .ok (.if_icmp .ge 31, 3) := by decide +kernel
theorem d_148_13 : decode (axt_b 148) 13 = .ok (.aload_n 0, 1) := by decide +kernel
theorem d_148_14 : decode (axt_b 148) 14 = .ok (.getfield 63, 3) := by decide +kernel
theorem d_148_17 : decode (axt_b 148) 17 = .ok (.iload_n 1, 1) := by decide +kernel
theorem d_148_18 : decode (axt_b 148) 18 = .ok (.aaload, 1) := by decide +kernel
theorem d_148_19 : decode (axt_b 148) 19 = .ok (.getfield 131, 3) := by decide +kernel
theorem d_148_22 : decode (axt_b 148) 22 = .ok (.ifCond .ne 19, 3) := by decide +kernel
theorem d_148_25 : decode (axt_b 148) 25 = .ok (.aload_n 0, 1) := by decide +kernel
theorem d_148_26 : decode (axt_b 148) 26 = .ok (.getfield 144, 3) := by decide +kernel
theorem d_148_29 : decode (axt_b 148) 29 = .ok (.aload_n 0, 1) := by decide +kernel
theorem d_148_30 : decode (axt_b 148) 30 = .ok (.getfield 32, 3) := by decide +kernel
theorem d_148_33 : decode (axt_b 148) 33 = .ok (.getfield 147, 3) := by decide +kernel
theorem d_148_36 : decode (axt_b 148) 36 = .ok (.iconst 1, 1) := by decide +kernel
theorem d_148_37 : decode (axt_b 148) 37 = .ok (.isub, 1) := by decide +kernel
theorem d_148_38 : decode (axt_b 148) 38 = .ok (.if_icmp .lt 5, 3) := by decide +kernel
theorem d_148_41 : decode (axt_b 148) 41 = .ok (.iconst 0, 1) := by decide +kernel
theorem d_148_42 : decode (axt_b 148) 42 = .ok (.ireturn, 1) := by decide +kernel
theorem d_148_43 : decode (axt_b 148) 43 = .ok (.aload_n 0, 1) := by decide +kernel
theorem d_148_44 : decode (axt_b 148) 44 = .ok (.iconst 0, 1) := by decide +kernel
theorem d_148_45 : decode (axt_b 148) 45 = .ok (.putfield 99, 3) := by decide +kernel
theorem d_148_48 : decode (axt_b 148) 48 = .ok (.aload_n 0, 1) := by decide +kernel
theorem d_148_49 : decode (axt_b 148) 49 = .ok (.dup, 1) := by decide +kernel
theorem d_148_50 : decode (axt_b 148) 50 = .ok (.getfield 144, 3) := by decide +kernel
theorem d_148_53 : decode (axt_b 148) 53 = .ok (.iconst 1, 1) := by decide +kernel
theorem d_148_54 : decode (axt_b 148) 54 = .ok (.iadd, 1) := by decide +kernel
theorem d_148_55 : decode (axt_b 148) 55 = .ok (.putfield 144, 3) := by decide +kernel
theorem d_148_58 : decode (axt_b 148) 58 = .ok (.aload_n 0, 1) := by decide +kernel
theorem d_148_59 : decode (axt_b 148) 59 = .ok (.getfield 63, 3) := by decide +kernel
theorem d_148_62 : decode (axt_b 148) 62 = .ok (.iload_n 1, 1) := by decide +kernel
theorem d_148_63 : decode (axt_b 148) 63 = .ok (.aaload, 1) := by decide +kernel
theorem d_148_64 : decode (axt_b 148) 64 = .ok (.getfield 150, 3) := by decide +kernel
theorem d_148_67 : decode (axt_b 148) 67 = .ok (.invokevirtual 154, 3) := by decide +kernel
theorem d_148_70 : decode (axt_b 148) 70 = .ok (.aload_n 0, 1) := by decide +kernel
theorem d_148_71 : decode (axt_b 148) 71 = .ok (.getfield 41, 3) := by decide +kernel
theorem d_148_74 : decode (axt_b 148) 74 = .ok (.aload_n 0, 1) := by decide +kernel
theorem d_148_75 : decode (axt_b 148) 75 = .ok (.getfield 41, 3) := by decide +kernel
theorem d_148_78 : decode (axt_b 148) 78 = .ok (.getfield 72, 3) := by decide +kernel
theorem d_148_81 : decode (axt_b 148) 81 = .ok (.invokevirtual 141, 3) := by decide +kernel
theorem d_148_84 : decode (axt_b 148) 84 = .ok (.iconst 1, 1) := by decide +kernel
theorem d_148_85 : decode (axt_b 148) 85 = .ok (.ireturn, 1) := by decide +kernel
theorem d_172_0 : decode (axt_b 172) 0 = .ok (.iload_n 1, 1) := by decide +kernel
theorem d_172_1 : decode (axt_b 172) 1 = .ok (.tableswitch 148 0 10 #[59, 67, 72, 77, 85, 101, 109, 114, 122, 127, 135], 59) := by decide +kernel
theorem d_172_60 : decode (axt_b 172) 60 = .ok (.aload_n 0, 1) := by decide +kernel
theorem d_172_61 : decode (axt_b 172) 61 = .ok (.getfield 54, 3) := by decide +kernel
theorem d_172_64 : decode (axt_b 172) 64 = .ok (.getfield 194, 3) := by decide +kernel
theorem d_172_67 : decode (axt_b 172) 67 = .ok (.ireturn, 1) := by decide +kernel
theorem d_172_68 : decode (axt_b 172) 68 = .ok (.aload_n 0, 1) := by decide +kernel
theorem d_172_69 : decode (axt_b 172) 69 = .ok (.getfield 261, 3) := by decide +kernel
theorem d_172_72 : decode (axt_b 172) 72 = .ok (.ireturn, 1) := by decide +kernel
theorem d_172_73 : decode (axt_b 172) 73 = .ok (.aload_n 0, 1) := by decide +kernel
theorem d_172_74 : decode (axt_b 172) 74 = .ok (.getfield 264, 3) := by decide +kernel
theorem d_172_77 : decode (axt_b 172) 77 = .ok (.ireturn, 1) := by decide +kernel
theorem d_172_78 : decode (axt_b 172) 78 = .ok (.aload_n 0, 1) := by decide +kernel
theorem d_172_79 : decode (axt_b 172) 79 = .ok (.getfield 41, 3) := by decide +kernel
theorem d_172_82 : decode (axt_b 172) 82 = .ok (.getfield 93, 3) := by decide +kernel
theorem d_172_85 : decode (axt_b 172) 85 = .ok (.ireturn, 1) := by decide +kernel
theorem d_172_86 : decode (axt_b 172) 86 = .ok (.aload_n 0, 1) := by decide +kernel
theorem d_172_87 : decode (axt_b 172) 87 = .ok (.getfield 41, 3) := by decide +kernel
theorem d_172_90 : decode (axt_b 172) 90 = .ok (.getfield 93, 3) := by decide +kernel
theorem d_172_93 : decode (axt_b 172) 93 = .ok (.aload_n 0, 1) := by decide +kernel
theorem d_172_94 : decode (axt_b 172) 94 = .ok (.getfield 41, 3) := by decide +kernel
theorem d_172_97 : decode (axt_b 172) 97 = .ok (.getfield 96, 3) := by decide +kernel
theorem d_172_100 : decode (axt_b 172) 100 = .ok (.isub, 1) := by decide +kernel
theorem d_172_101 : decode (axt_b 172) 101 = .ok (.ireturn, 1) := by decide +kernel
theorem d_172_102 : decode (axt_b 172) 102 = .ok (.aload_n 0, 1) := by decide +kernel
theorem d_172_103 : decode (axt_b 172) 103 = .ok (.getfield 41, 3) := by decide +kernel
theorem d_172_106 : decode (axt_b 172) 106 = .ok (.getfield 69, 3) := by decide +kernel
theorem d_172_109 : decode (axt_b 172) 109 = .ok (.ireturn, 1) := by decide +kernel
theorem d_172_110 : decode (axt_b 172) 110 = .ok (.aload_n 0, 1) := by decide +kernel
theorem d_172_111 : decode (axt_b 172) 111 = .ok (.invokevirtual 267, 3) := by decide +kernel
theorem d_172_114 : decode (axt_b 172) 114 = .ok (.ireturn, 1) := by decide +kernel
theorem d_172_115 : decode (axt_b 172) 115 = .ok (.aload_n 0, 1) := by decide +kernel
theorem d_172_116 : decode (axt_b 172) 116 = .ok (.getfield 41, 3) := by decide +kernel
theorem d_172_119 : decode (axt_b 172) 119 = .ok (.getfield 72, 3) := by decide +kernel
theorem d_172_122 : decode (axt_b 172) 122 = .ok (.ireturn, 1) := by decide +kernel
theorem d_172_123 : decode (axt_b 172) 123 = .ok (.aload_n 0, 1) := by decide +kernel
theorem d_172_124 : decode (axt_b 172) 124 = .ok (.getfield 144, 3) := by decide +kernel
theorem d_172_127 : decode (axt_b 172) 127 = .ok (.ireturn, 1) := by decide +kernel
theorem d_172_128 : decode (axt_b 172) 128 = .ok (.aload_n 0, 1) := by decide +kernel
theorem d_172_129 : decode (axt_b 172) 129 = .ok (.getfield 41, 3) := by decide +kernel
theorem d_172_132 : decode (axt_b 172) 132 = .ok (.getfield 79, 3) := by decide +kernel
theorem d_172_135 : decode (axt_b 172) 135 = .ok (.ireturn, 1) := by decide +kernel
theorem d_172_136 : decode (axt_b 172) 136 = .ok (.aload_n 0, 1) := by decide +kernel
theorem d_172_137 : decode (axt_b 172) 137 = .ok (.getfield 99, 3) := by decide +kernel
theorem d_172_140 : decode (axt_b 172) 140 = .ok (.ifCond .eq 7, 3) := by decide +kernel
theorem d_172_143 : decode (axt_b 172) 143 = .ok (.iconst 1, 1) := by decide +kernel
theorem d_172_144 : decode (axt_b 172) 144 = .ok (.goto 4, 3) := by decide +kernel
theorem d_172_147 : decode (axt_b 172) 147 = .ok (.iconst 0, 1) := by decide +kernel
theorem d_172_148 : decode (axt_b 172) 148 = .ok (.ireturn, 1) := by decide +kernel
theorem d_172_149 : decode (axt_b 172) 149 = .ok (.iconst (-1), 1) := by decide +kernel
theorem d_172_150 : decode (axt_b 172) 150 = .ok (.ireturn, 1) := by decide +kernel
theorem d_173_0 : decode (axt_b 173) 0 = .ok (.iconst 0, 1) := by decide +kernel
theorem d_173_1 : decode (axt_b 173) 1 = .ok (.istore_n 1, 1) := by decide +kernel
theorem d_173_2 : decode (axt_b 173) 2 = .ok (.iconst 0, 1) := by decide +kernel
theorem d_173_3 : decode (axt_b 173) 3 = .ok (.istore_n 2, 1) := by decide +kernel
theorem d_173_4 : decode (axt_b 173) 4 = .ok (.iload_n 2, 1) := by decide +kernel
theorem d_173_5 : decode (axt_b 173) 5 = .ok (.aload_n 0, 1) := by decide +kernel
theorem d_173_6 : decode (axt_b 173) 6 = .ok (.getfield 63, 3) := by decide +kernel
theorem d_173_9 : decode (axt_b 173) 9 = .ok (.arraylength, 1) := by decide +kernel
theorem d_173_10 : decode (axt_b 173) 10 = .ok (.if_icmp .ge 24, 3) := by decide +kernel
theorem d_173_13 : decode (axt_b 173) 13 = .ok (.aload_n 0, 1) := by decide +kernel
theorem d_173_14 : decode (axt_b 173) 14 = .ok (.getfield 63, 3) := by decide +kernel
theorem d_173_17 : decode (axt_b 173) 17 = .ok (.iload_n 2, 1) := by decide +kernel
theorem d_173_18 : decode (axt_b 173) 18 = .ok (.aaload, 1) := by decide +kernel
theorem d_173_19 : decode (axt_b 173) 19 = .ok (.getfield 131, 3) := by decide +kernel
theorem d_173_22 : decode (axt_b 173) 22 = .ok (.ifCond .eq 6, 3) := by decide +kernel
theorem d_173_25 : decode (axt_b 173) 25 = .ok (.iinc 1 1, 3) := by decide +kernel
theorem d_173_28 : decode (axt_b 173) 28 = .ok (.iinc 2 1, 3) := by decide +kernel
theorem d_173_31 : decode (axt_b 173) 31 = .ok (.goto (-27), 3) := by decide +kernel
theorem d_173_34 : decode (axt_b 173) 34 = .ok (.iload_n 1, 1) := by decide +kernel
theorem d_173_35 : decode (axt_b 173) 35 = .ok (.ireturn, 1) := by decide +kernel

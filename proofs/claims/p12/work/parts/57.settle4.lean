/-! isDone, isClean, publish, readCatalogue, where no ITEM is anywhere -/
theorem d_80_0 : decode (axt_b 80) 0 = .ok (.iload_n 0, 1) := by decide +kernel
theorem d_80_1 : decode (axt_b 80) 1 = .ok (.sipush 10240, 3) := by decide +kernel
theorem d_80_4 : decode (axt_b 80) 4 = .ok (.idiv, 1) := by decide +kernel
theorem d_80_5 : decode (axt_b 80) 5 = .ok (.sipush 512, 3) := by decide +kernel
theorem d_80_8 : decode (axt_b 80) 8 = .ok (.if_icmp .ne 7, 3) := by decide +kernel
theorem d_80_11 : decode (axt_b 80) 11 = .ok (.iconst 1, 1) := by decide +kernel
theorem d_80_12 : decode (axt_b 80) 12 = .ok (.goto 4, 3) := by decide +kernel
theorem d_80_15 : decode (axt_b 80) 15 = .ok (.iconst 0, 1) := by decide +kernel
theorem d_80_16 : decode (axt_b 80) 16 = .ok (.ireturn, 1) := by decide +kernel
theorem d_150_0 : decode (axt_b 150) 0 = .ok (.aload_n 0, 1) := by decide +kernel
theorem d_150_1 : decode (axt_b 150) 1 = .ok (.iconst 0, 1) := by decide +kernel
theorem d_150_2 : decode (axt_b 150) 2 = .ok (.putfield 99, 3) := by decide +kernel
theorem d_150_5 : decode (axt_b 150) 5 = .ok (.aload_n 0, 1) := by decide +kernel
theorem d_150_6 : decode (axt_b 150) 6 = .ok (.getfield 41, 3) := by decide +kernel
theorem d_150_9 : decode (axt_b 150) 9 = .ok (.getfield 93, 3) := by decide +kernel
theorem d_150_12 : decode (axt_b 150) 12 = .ok (.aload_n 0, 1) := by decide +kernel
theorem d_150_13 : decode (axt_b 150) 13 = .ok (.getfield 41, 3) := by decide +kernel
theorem d_150_16 : decode (axt_b 150) 16 = .ok (.getfield 96, 3) := by decide +kernel
theorem d_150_19 : decode (axt_b 150) 19 = .ok (.isub, 1) := by decide +kernel
theorem d_150_20 : decode (axt_b 150) 20 = .ok (.istore_n 1, 1) := by decide +kernel
theorem d_150_21 : decode (axt_b 150) 21 = .ok (.aload_n 0, 1) := by decide +kernel
theorem d_150_22 : decode (axt_b 150) 22 = .ok (.getfield 41, 3) := by decide +kernel
theorem d_150_25 : decode (axt_b 150) 25 = .ok (.aload_n 0, 1) := by decide +kernel
theorem d_150_26 : decode (axt_b 150) 26 = .ok (.invokevirtual 137, 3) := by decide +kernel
theorem d_150_29 : decode (axt_b 150) 29 = .ok (.invokevirtual 141, 3) := by decide +kernel
theorem d_150_32 : decode (axt_b 150) 32 = .ok (.iconst 0, 1) := by decide +kernel
theorem d_150_33 : decode (axt_b 150) 33 = .ok (.istore_n 2, 1) := by decide +kernel
theorem d_150_34 : decode (axt_b 150) 34 = .ok (.iload_n 2, 1) := by decide +kernel
theorem d_150_35 : decode (axt_b 150) 35 = .ok (.aload_n 0, 1) := by decide +kernel
theorem d_150_36 : decode (axt_b 150) 36 = .ok (.getfield 63, 3) := by decide +kernel
theorem d_150_39 : decode (axt_b 150) 39 = .ok (.arraylength, 1) := by decide +kernel
theorem d_150_40 : decode (axt_b 150) 40 = .ok (.if_icmp .ge 44, 3) := by decide +kernel
theorem d_150_43 : decode (axt_b 150) 43 = .ok (.aload_n 0, 1) := by decide +kernel
theorem d_150_44 : decode (axt_b 150) 44 = .ok (.getfield 63, 3) := by decide +kernel
theorem d_150_47 : decode (axt_b 150) 47 = .ok (.iload_n 2, 1) := by decide +kernel
theorem d_150_48 : decode (axt_b 150) 48 = .ok (.aaload, 1) := by decide +kernel
theorem d_150_49 : decode (axt_b 150) 49 = .ok (.getfield 131, 3) := by decide +kernel
theorem d_150_52 : decode (axt_b 150) 52 = .ok (.ifCond .ne 26, 3) := by decide +kernel
theorem d_150_55 : decode (axt_b 150) 55 = .ok (.aload_n 0, 1) := by decide +kernel
theorem d_150_56 : decode (axt_b 150) 56 = .ok (.getfield 63, 3) := by decide +kernel
theorem d_150_59 : decode (axt_b 150) 59 = .ok (.iload_n 2, 1) := by decide +kernel
theorem d_150_60 : decode (axt_b 150) 60 = .ok (.aaload, 1) := by decide +kernel
theorem d_150_61 : decode (axt_b 150) 61 = .ok (.aload_n 0, 1) := by decide +kernel
theorem d_150_62 : decode (axt_b 150) 62 = .ok (.getfield 41, 3) := by decide +kernel
theorem d_150_65 : decode (axt_b 150) 65 = .ok (.getfield 69, 3) := by decide +kernel
theorem d_150_68 : decode (axt_b 150) 68 = .ok (.aload_n 0, 1) := by decide +kernel
theorem d_150_69 : decode (axt_b 150) 69 = .ok (.getfield 41, 3) := by decide +kernel
theorem d_150_72 : decode (axt_b 150) 72 = .ok (.getfield 72, 3) := by decide +kernel
theorem d_150_75 : decode (axt_b 150) 75 = .ok (.invokevirtual 75, 3) := by decide +kernel
theorem d_150_78 : decode (axt_b 150) 78 = .ok (.iinc 2 1, 3) := by decide +kernel
theorem d_150_81 : decode (axt_b 150) 81 = .ok (.goto (-47), 3) := by decide +kernel
theorem d_150_84 : decode (axt_b 150) 84 = .ok (.iconst 0, 1) := by decide +kernel
theorem d_150_85 : decode (axt_b 150) 85 = .ok (.istore_n 2, 1) := by decide +kernel
theorem d_150_86 : decode (axt_b 150) 86 = .ok (.iload_n 2, 1) := by decide +kernel
theorem d_150_87 : decode (axt_b 150) 87 = .ok (.sipush 2000, 3) := by decide +kernel
theorem d_150_90 : decode (axt_b 150) 90 = .ok (.if_icmp .gt 60, 3) := by decide +kernel
theorem d_150_93 : decode (axt_b 150) 93 = .ok (.aload_n 0, 1) := by decide +kernel
theorem d_150_94 : decode (axt_b 150) 94 = .ok (.invokevirtual 159, 3) := by decide +kernel
theorem d_150_97 : decode (axt_b 150) 97 = .ok (.ifCond .ne 53, 3) := by decide +kernel
theorem d_150_100 : decode (axt_b 150) 100 = .ok (.iload_n 2, 1) := by decide +kernel
theorem d_150_101 : decode (axt_b 150) 101 = .ok (.ifCond .le 7, 3) := by decide +kernel
theorem d_150_104 : decode (axt_b 150) 104 = .ok (.aload_n 0, 1) := by decide +kernel
theorem d_150_105 : decode (axt_b 150) 105 = .ok (.invokevirtual 128, 3) := by decide +kernel
theorem d_150_108 : decode (axt_b 150) 108 = .ok (.iconst 0, 1) := by decide +kernel
theorem d_150_109 : decode (axt_b 150) 109 = .ok (.istore_n 3, 1) := by decide +kernel
theorem d_150_110 : decode (axt_b 150) 110 = .ok (.iload_n 3, 1) := by decide +kernel
theorem d_150_111 : decode (axt_b 150) 111 = .ok (.ldc 163, 2) := by decide +kernel
theorem d_150_113 : decode (axt_b 150) 113 = .ok (.if_icmp .ge 31, 3) := by decide +kernel
theorem d_150_116 : decode (axt_b 150) 116 = .ok (.aload_n 0, 1) := by decide +kernel
theorem d_150_117 : decode (axt_b 150) 117 = .ok (.getfield 12, 3) := by decide +kernel
theorem d_150_120 : decode (axt_b 150) 120 = .ok (.getfield 106, 3) := by decide +kernel
theorem d_150_123 : decode (axt_b 150) 123 = .ok (.ifCond .le 21, 3) := by decide +kernel
theorem d_150_126 : decode (axt_b 150) 126 = .ok (.aload_n 0, 1) := by decide +kernel
theorem d_150_127 : decode (axt_b 150) 127 = .ok (.aload_n 0, 1) := by decide +kernel
theorem d_150_128 : decode (axt_b 150) 128 = .ok (.getfield 12, 3) := by decide +kernel
theorem d_150_131 : decode (axt_b 150) 131 = .ok (.iconst 0, 1) := by decide +kernel
theorem d_150_132 : decode (axt_b 150) 132 = .ok (.invokevirtual 115, 3) := by decide +kernel
theorem d_150_135 : decode (axt_b 150) 135 = .ok (.invokevirtual 119, 3) := by decide +kernel
theorem d_150_138 : decode (axt_b 150) 138 = .ok (.iinc 3 1, 3) := by decide +kernel
theorem d_150_141 : decode (axt_b 150) 141 = .ok (.goto (-31), 3) := by decide +kernel
theorem d_150_144 : decode (axt_b 150) 144 = .ok (.iinc 2 1, 3) := by decide +kernel
theorem d_150_147 : decode (axt_b 150) 147 = .ok (.goto (-61), 3) := by decide +kernel
theorem d_150_150 : decode (axt_b 150) 150 = .ok (.aload_n 0, 1) := by decide +kernel
theorem d_150_151 : decode (axt_b 150) 151 = .ok (.invokevirtual 159, 3) := by decide +kernel
theorem d_150_154 : decode (axt_b 150) 154 = .ok (.ifCond .ne 6, 3) := by decide +kernel
theorem d_150_157 : decode (axt_b 150) 157 = .ok (.bipush (-7), 2) := by decide +kernel
theorem d_150_159 : decode (axt_b 150) 159 = .ok (.ireturn, 1) := by decide +kernel
theorem d_150_160 : decode (axt_b 150) 160 = .ok (.aload_n 0, 1) := by decide +kernel
theorem d_150_161 : decode (axt_b 150) 161 = .ok (.getfield 41, 3) := by decide +kernel
theorem d_150_164 : decode (axt_b 150) 164 = .ok (.invokevirtual 164, 3) := by decide +kernel
theorem d_150_167 : decode (axt_b 150) 167 = .ok (.aload_n 0, 1) := by decide +kernel
theorem d_150_168 : decode (axt_b 150) 168 = .ok (.invokevirtual 167, 3) := by decide +kernel
theorem d_150_171 : decode (axt_b 150) 171 = .ok (.aload_n 0, 1) := by decide +kernel
theorem d_150_172 : decode (axt_b 150) 172 = .ok (.iconst 0, 1) := by decide +kernel
theorem d_150_173 : decode (axt_b 150) 173 = .ok (.putfield 144, 3) := by decide +kernel
theorem d_150_176 : decode (axt_b 150) 176 = .ok (.aload_n 0, 1) := by decide +kernel
theorem d_150_177 : decode (axt_b 150) 177 = .ok (.iconst 1, 1) := by decide +kernel
theorem d_150_178 : decode (axt_b 150) 178 = .ok (.putfield 99, 3) := by decide +kernel
theorem d_150_181 : decode (axt_b 150) 181 = .ok (.iload_n 1, 1) := by decide +kernel
theorem d_150_182 : decode (axt_b 150) 182 = .ok (.ireturn, 1) := by decide +kernel
theorem d_151_0 : decode (axt_b 151) 0 = .ok (.aload_n 0, 1) := by decide +kernel
theorem d_151_1 : decode (axt_b 151) 1 = .ok (.getfield 41, 3) := by decide +kernel
theorem d_151_4 : decode (axt_b 151) 4 = .ok (.getfield 286, 3) := by decide +kernel
theorem d_151_7 : decode (axt_b 151) 7 = .ok (.aload_n 0, 1) := by decide +kernel
theorem d_151_8 : decode (axt_b 151) 8 = .ok (.getfield 41, 3) := by decide +kernel
theorem d_151_11 : decode (axt_b 151) 11 = .ok (.getfield 93, 3) := by decide +kernel
theorem d_151_14 : decode (axt_b 151) 14 = .ok (.if_icmp .lt 30, 3) := by decide +kernel
theorem d_151_17 : decode (axt_b 151) 17 = .ok (.aload_n 0, 1) := by decide +kernel
theorem d_151_18 : decode (axt_b 151) 18 = .ok (.getfield 41, 3) := by decide +kernel
theorem d_151_21 : decode (axt_b 151) 21 = .ok (.getfield 289, 3) := by decide +kernel
theorem d_151_24 : decode (axt_b 151) 24 = .ok (.aload_n 0, 1) := by decide +kernel
theorem d_151_25 : decode (axt_b 151) 25 = .ok (.getfield 41, 3) := by decide +kernel
theorem d_151_28 : decode (axt_b 151) 28 = .ok (.getfield 72, 3) := by decide +kernel
theorem d_151_31 : decode (axt_b 151) 31 = .ok (.if_icmp .ne 13, 3) := by decide +kernel
theorem d_151_34 : decode (axt_b 151) 34 = .ok (.aload_n 0, 1) := by decide +kernel
theorem d_151_35 : decode (axt_b 151) 35 = .ok (.getfield 12, 3) := by decide +kernel
theorem d_151_38 : decode (axt_b 151) 38 = .ok (.getfield 106, 3) := by decide +kernel
theorem d_151_41 : decode (axt_b 151) 41 = .ok (.ifCond .le 5, 3) := by decide +kernel
theorem d_151_44 : decode (axt_b 151) 44 = .ok (.iconst 0, 1) := by decide +kernel
theorem d_151_45 : decode (axt_b 151) 45 = .ok (.ireturn, 1) := by decide +kernel
theorem d_151_46 : decode (axt_b 151) 46 = .ok (.iconst 0, 1) := by decide +kernel
theorem d_151_47 : decode (axt_b 151) 47 = .ok (.istore_n 1, 1) := by decide +kernel
theorem d_151_48 : decode (axt_b 151) 48 = .ok (.iload_n 1, 1) := by decide +kernel
theorem d_151_49 : decode (axt_b 151) 49 = .ok (.aload_n 0, 1) := by decide +kernel
theorem d_151_50 : decode (axt_b 151) 50 = .ok (.getfield 63, 3) := by decide +kernel
theorem d_151_53 : decode (axt_b 151) 53 = .ok (.arraylength, 1) := by decide +kernel
theorem d_151_54 : decode (axt_b 151) 54 = .ok (.if_icmp .ge 26, 3) := by decide +kernel
theorem d_151_57 : decode (axt_b 151) 57 = .ok (.aload_n 0, 1) := by decide +kernel
theorem d_151_58 : decode (axt_b 151) 58 = .ok (.getfield 63, 3) := by decide +kernel
theorem d_151_61 : decode (axt_b 151) 61 = .ok (.iload_n 1, 1) := by decide +kernel
theorem d_151_62 : decode (axt_b 151) 62 = .ok (.aaload, 1) := by decide +kernel
theorem d_151_63 : decode (axt_b 151) 63 = .ok (.getfield 150, 3) := by decide +kernel
theorem d_151_66 : decode (axt_b 151) 66 = .ok (.getfield 292, 3) := by decide +kernel
theorem d_151_69 : decode (axt_b 151) 69 = .ok (.ifCond .le 5, 3) := by decide +kernel
theorem d_151_72 : decode (axt_b 151) 72 = .ok (.iconst 0, 1) := by decide +kernel
theorem d_151_73 : decode (axt_b 151) 73 = .ok (.ireturn, 1) := by decide +kernel
theorem d_151_74 : decode (axt_b 151) 74 = .ok (.iinc 1 1, 3) := by decide +kernel
theorem d_151_77 : decode (axt_b 151) 77 = .ok (.goto (-29), 3) := by decide +kernel
theorem d_151_80 : decode (axt_b 151) 80 = .ok (.aload_n 0, 1) := by decide +kernel
theorem d_151_81 : decode (axt_b 151) 81 = .ok (.getfield 32, 3) := by decide +kernel
theorem d_151_84 : decode (axt_b 151) 84 = .ok (.iconst 0, 1) := by decide +kernel
theorem d_151_85 : decode (axt_b 151) 85 = .ok (.iconst 0, 1) := by decide +kernel
theorem d_151_86 : decode (axt_b 151) 86 = .ok (.aload_n 0, 1) := by decide +kernel
theorem d_151_87 : decode (axt_b 151) 87 = .ok (.getfield 41, 3) := by decide +kernel
theorem d_151_90 : decode (axt_b 151) 90 = .ok (.getfield 72, 3) := by decide +kernel
theorem d_151_93 : decode (axt_b 151) 93 = .ok (.invokevirtual 215, 3) := by decide +kernel
theorem d_151_96 : decode (axt_b 151) 96 = .ok (.istore_n 1, 1) := by decide +kernel
theorem d_151_97 : decode (axt_b 151) 97 = .ok (.iload_n 1, 1) := by decide +kernel
theorem d_151_98 : decode (axt_b 151) 98 = .ok (.ifCond .lt 22, 3) := by decide +kernel
theorem d_151_101 : decode (axt_b 151) 101 = .ok (.aload_n 0, 1) := by decide +kernel
theorem d_151_102 : decode (axt_b 151) 102 = .ok (.getfield 63, 3) := by decide +kernel
theorem d_151_105 : decode (axt_b 151) 105 = .ok (.iload_n 1, 1) := by decide +kernel
theorem d_151_106 : decode (axt_b 151) 106 = .ok (.aaload, 1) := by decide +kernel
theorem d_151_107 : decode (axt_b 151) 107 = .ok (.getfield 293, 3) := by decide +kernel
theorem d_151_110 : decode (axt_b 151) 110 = .ok (.invokevirtual 297, 3) := by decide +kernel
theorem d_151_113 : decode (axt_b 151) 113 = .ok (.ifCond .eq 7, 3) := by decide +kernel
theorem d_151_116 : decode (axt_b 151) 116 = .ok (.iconst 1, 1) := by decide +kernel
theorem d_151_117 : decode (axt_b 151) 117 = .ok (.goto 4, 3) := by decide +kernel
theorem d_151_120 : decode (axt_b 151) 120 = .ok (.iconst 0, 1) := by decide +kernel
theorem d_151_121 : decode (axt_b 151) 121 = .ok (.ireturn, 1) := by decide +kernel
theorem d_152_0 : decode (axt_b 152) 0 = .ok (.aload_n 0, 1) := by decide +kernel
theorem d_152_1 : decode (axt_b 152) 1 = .ok (.getfield 49, 3) := by decide +kernel
theorem d_152_4 : decode (axt_b 152) 4 = .ok (.invokevirtual 110, 3) := by decide +kernel
theorem d_152_7 : decode (axt_b 152) 7 = .ok (.ifCond .ne 31, 3) := by decide +kernel
theorem d_152_10 : decode (axt_b 152) 10 = .ok (.aload_n 0, 1) := by decide +kernel
theorem d_152_11 : decode (axt_b 152) 11 = .ok (.getfield 40, 3) := by decide +kernel
theorem d_152_14 : decode (axt_b 152) 14 = .ok (.invokevirtual 114, 3) := by decide +kernel
theorem d_152_17 : decode (axt_b 152) 17 = .ok (.ifCond .eq 21, 3) := by decide +kernel
theorem d_152_20 : decode (axt_b 152) 20 = .ok (.aload_n 0, 1) := by decide +kernel
theorem d_152_21 : decode (axt_b 152) 21 = .ok (.getfield 81, 3) := by decide +kernel
theorem d_152_24 : decode (axt_b 152) 24 = .ok (.iconst 1, 1) := by decide +kernel
theorem d_152_25 : decode (axt_b 152) 25 = .ok (.aload_n 0, 1) := by decide +kernel
theorem d_152_26 : decode (axt_b 152) 26 = .ok (.getfield 22, 3) := by decide +kernel
theorem d_152_29 : decode (axt_b 152) 29 = .ok (.getfield 98, 3) := by decide +kernel
theorem d_152_32 : decode (axt_b 152) 32 = .ok (.ishl, 1) := by decide +kernel
theorem d_152_33 : decode (axt_b 152) 33 = .ok (.iconst 1, 1) := by decide +kernel
theorem d_152_34 : decode (axt_b 152) 34 = .ok (.isub, 1) := by decide +kernel
theorem d_152_35 : decode (axt_b 152) 35 = .ok (.if_icmp .eq 5, 3) := by decide +kernel
theorem d_152_38 : decode (axt_b 152) 38 = .ok (.iconst 0, 1) := by decide +kernel
theorem d_152_39 : decode (axt_b 152) 39 = .ok (.ireturn, 1) := by decide +kernel
theorem d_152_40 : decode (axt_b 152) 40 = .ok (.iconst 0, 1) := by decide +kernel
theorem d_152_41 : decode (axt_b 152) 41 = .ok (.istore_n 1, 1) := by decide +kernel
theorem d_152_42 : decode (axt_b 152) 42 = .ok (.iload_n 1, 1) := by decide +kernel
theorem d_152_43 : decode (axt_b 152) 43 = .ok (.sipush 961, 3) := by decide +kernel
theorem d_152_46 : decode (axt_b 152) 46 = .ok (.if_icmp .ge 31, 3) := by decide +kernel
theorem d_152_49 : decode (axt_b 152) 49 = .ok (.aload_n 0, 1) := by decide +kernel
theorem d_152_50 : decode (axt_b 152) 50 = .ok (.getfield 40, 3) := by decide +kernel
theorem d_152_53 : decode (axt_b 152) 53 = .ok (.getfield 174, 3) := by decide +kernel
theorem d_152_56 : decode (axt_b 152) 56 = .ok (.iload_n 1, 1) := by decide +kernel
theorem d_152_57 : decode (axt_b 152) 57 = .ok (.iaload, 1) := by decide +kernel
theorem d_152_58 : decode (axt_b 152) 58 = .ok (.ifCond .lt 13, 3) := by decide +kernel
theorem d_152_61 : decode (axt_b 152) 61 = .ok (.aload_n 0, 1) := by decide +kernel
theorem d_152_62 : decode (axt_b 152) 62 = .ok (.iload_n 1, 1) := by decide +kernel
theorem d_152_63 : decode (axt_b 152) 63 = .ok (.invokevirtual 192, 3) := by decide +kernel
theorem d_152_66 : decode (axt_b 152) 66 = .ok (.ifCond .ne 5, 3) := by decide +kernel
theorem d_152_69 : decode (axt_b 152) 69 = .ok (.iconst 0, 1) := by decide +kernel
theorem d_152_70 : decode (axt_b 152) 70 = .ok (.ireturn, 1) := by decide +kernel
theorem d_152_71 : decode (axt_b 152) 71 = .ok (.iinc 1 1, 3) := by decide +kernel
theorem d_152_74 : decode (axt_b 152) 74 = .ok (.goto (-32), 3) := by decide +kernel
theorem d_152_77 : decode (axt_b 152) 77 = .ok (.iconst 1, 1) := by decide +kernel
theorem d_152_78 : decode (axt_b 152) 78 = .ok (.ireturn, 1) := by decide +kernel
theorem d_153_0 : decode (axt_b 153) 0 = .ok (.aload_n 0, 1) := by decide +kernel
theorem d_153_1 : decode (axt_b 153) 1 = .ok (.aload_n 0, 1) := by decide +kernel
theorem d_153_2 : decode (axt_b 153) 2 = .ok (.getfield 152, 3) := by decide +kernel
theorem d_153_5 : decode (axt_b 153) 5 = .ok (.putfield 155, 3) := by decide +kernel
theorem d_153_8 : decode (axt_b 153) 8 = .ok (.aload_n 0, 1) := by decide +kernel
theorem d_153_9 : decode (axt_b 153) 9 = .ok (.aload_n 0, 1) := by decide +kernel
theorem d_153_10 : decode (axt_b 153) 10 = .ok (.getfield 75, 3) := by decide +kernel
theorem d_153_13 : decode (axt_b 153) 13 = .ok (.putfield 152, 3) := by decide +kernel
theorem d_153_16 : decode (axt_b 153) 16 = .ok (.return_, 1) := by decide +kernel
theorem d_154_0 : decode (axt_b 154) 0 = .ok (.aload_n 0, 1) := by decide +kernel
theorem d_154_1 : decode (axt_b 154) 1 = .ok (.getfield 54, 3) := by decide +kernel
theorem d_154_4 : decode (axt_b 154) 4 = .ok (.invokevirtual 302, 3) := by decide +kernel
theorem d_154_7 : decode (axt_b 154) 7 = .ok (.aload_n 0, 1) := by decide +kernel
theorem d_154_8 : decode (axt_b 154) 8 = .ok (.iconst 0, 1) := by decide +kernel
theorem d_154_9 : decode (axt_b 154) 9 = .ok (.putfield 261, 3) := by decide +kernel
theorem d_154_12 : decode (axt_b 154) 12 = .ok (.aload_n 0, 1) := by decide +kernel
theorem d_154_13 : decode (axt_b 154) 13 = .ok (.iconst 0, 1) := by decide +kernel
theorem d_154_14 : decode (axt_b 154) 14 = .ok (.putfield 264, 3) := by decide +kernel
theorem d_154_17 : decode (axt_b 154) 17 = .ok (.aload_n 0, 1) := by decide +kernel
theorem d_154_18 : decode (axt_b 154) 18 = .ok (.getfield 32, 3) := by decide +kernel
theorem d_154_21 : decode (axt_b 154) 21 = .ok (.iconst 0, 1) := by decide +kernel
theorem d_154_22 : decode (axt_b 154) 22 = .ok (.iconst 0, 1) := by decide +kernel
theorem d_154_23 : decode (axt_b 154) 23 = .ok (.aload_n 0, 1) := by decide +kernel
theorem d_154_24 : decode (axt_b 154) 24 = .ok (.getfield 41, 3) := by decide +kernel
theorem d_154_27 : decode (axt_b 154) 27 = .ok (.getfield 72, 3) := by decide +kernel
theorem d_154_30 : decode (axt_b 154) 30 = .ok (.invokevirtual 215, 3) := by decide +kernel
theorem d_154_33 : decode (axt_b 154) 33 = .ok (.istore_n 1, 1) := by decide +kernel
theorem d_154_34 : decode (axt_b 154) 34 = .ok (.iload_n 1, 1) := by decide +kernel
theorem d_154_35 : decode (axt_b 154) 35 = .ok (.ifCond .ge 4, 3) := by decide +kernel
theorem d_154_38 : decode (axt_b 154) 38 = .ok (.return_, 1) := by decide +kernel
theorem d_154_39 : decode (axt_b 154) 39 = .ok (.aload_n 0, 1) := by decide +kernel
theorem d_154_40 : decode (axt_b 154) 40 = .ok (.getfield 63, 3) := by decide +kernel
theorem d_154_43 : decode (axt_b 154) 43 = .ok (.iload_n 1, 1) := by decide +kernel
theorem d_154_44 : decode (axt_b 154) 44 = .ok (.aaload, 1) := by decide +kernel
theorem d_154_45 : decode (axt_b 154) 45 = .ok (.getfield 150, 3) := by decide +kernel
theorem d_154_48 : decode (axt_b 154) 48 = .ok (.astore_n 2, 1) := by decide +kernel
theorem d_154_49 : decode (axt_b 154) 49 = .ok (.aload_n 2, 1) := by decide +kernel
theorem d_154_50 : decode (axt_b 154) 50 = .ok (.invokevirtual 305, 3) := by decide +kernel
theorem d_154_53 : decode (axt_b 154) 53 = .ok (.istore_n 3, 1) := by decide +kernel
theorem d_154_54 : decode (axt_b 154) 54 = .ok (.iload_n 3, 1) := by decide +kernel
theorem d_154_55 : decode (axt_b 154) 55 = .ok (.ifCond .lt 19, 3) := by decide +kernel
theorem d_154_58 : decode (axt_b 154) 58 = .ok (.aload_n 0, 1) := by decide +kernel
theorem d_154_59 : decode (axt_b 154) 59 = .ok (.getfield 54, 3) := by decide +kernel
theorem d_154_62 : decode (axt_b 154) 62 = .ok (.aload_n 2, 1) := by decide +kernel
theorem d_154_63 : decode (axt_b 154) 63 = .ok (.getfield 230, 3) := by decide +kernel
theorem d_154_66 : decode (axt_b 154) 66 = .ok (.iload_n 3, 1) := by decide +kernel
theorem d_154_67 : decode (axt_b 154) 67 = .ok (.sipush 128, 3) := by decide +kernel
theorem d_154_70 : decode (axt_b 154) 70 = .ok (.imul, 1) := by decide +kernel
theorem d_154_71 : decode (axt_b 154) 71 = .ok (.invokevirtual 308, 3) := by decide +kernel
theorem d_154_74 : decode (axt_b 154) 74 = .ok (.iconst 0, 1) := by decide +kernel
theorem d_154_75 : decode (axt_b 154) 75 = .ok (.istore 4, 2) := by decide +kernel
theorem d_154_77 : decode (axt_b 154) 77 = .ok (.iload 4, 2) := by decide +kernel
theorem d_154_79 : decode (axt_b 154) 79 = .ok (.aload_n 0, 1) := by decide +kernel
theorem d_154_80 : decode (axt_b 154) 80 = .ok (.getfield 54, 3) := by decide +kernel
theorem d_154_83 : decode (axt_b 154) 83 = .ok (.getfield 194, 3) := by decide +kernel
theorem d_154_86 : decode (axt_b 154) 86 = .ok (.if_icmp .ge 95, 3) := by decide +kernel
theorem d_154_89 : decode (axt_b 154) 89 = .ok (.aload_n 2, 1) := by decide +kernel
theorem d_154_90 : decode (axt_b 154) 90 = .ok (.aload_n 0, 1) := by decide +kernel
theorem d_154_91 : decode (axt_b 154) 91 = .ok (.getfield 54, 3) := by decide +kernel
theorem d_154_94 : decode (axt_b 154) 94 = .ok (.iload 4, 2) := by decide +kernel
theorem d_154_96 : decode (axt_b 154) 96 = .ok (.bipush 20, 2) := by decide +kernel
theorem d_154_98 : decode (axt_b 154) 98 = .ok (.imul, 1) := by decide +kernel
theorem d_154_99 : decode (axt_b 154) 99 = .ok (.bipush 19, 2) := by decide +kernel
theorem d_154_101 : decode (axt_b 154) 101 = .ok (.iadd, 1) := by decide +kernel
theorem d_154_102 : decode (axt_b 154) 102 = .ok (.invokevirtual 224, 3) := by decide +kernel
theorem d_154_105 : decode (axt_b 154) 105 = .ok (.invokevirtual 227, 3) := by decide +kernel
theorem d_154_108 : decode (axt_b 154) 108 = .ok (.istore 5, 2) := by decide +kernel
theorem d_154_110 : decode (axt_b 154) 110 = .ok (.iload 5, 2) := by decide +kernel
theorem d_154_112 : decode (axt_b 154) 112 = .ok (.ifCond .lt 20, 3) := by decide +kernel
theorem d_154_115 : decode (axt_b 154) 115 = .ok (.aload_n 0, 1) := by decide +kernel
theorem d_154_116 : decode (axt_b 154) 116 = .ok (.getfield 54, 3) := by decide +kernel
theorem d_154_119 : decode (axt_b 154) 119 = .ok (.aload_n 2, 1) := by decide +kernel
theorem d_154_120 : decode (axt_b 154) 120 = .ok (.getfield 230, 3) := by decide +kernel
theorem d_154_123 : decode (axt_b 154) 123 = .ok (.iload 5, 2) := by decide +kernel
theorem d_154_125 : decode (axt_b 154) 125 = .ok (.sipush 128, 3) := by decide +kernel
theorem d_154_128 : decode (axt_b 154) 128 = .ok (.imul, 1) := by decide +kernel
theorem d_154_129 : decode (axt_b 154) 129 = .ok (.invokevirtual 311, 3) := by decide +kernel
theorem d_154_132 : decode (axt_b 154) 132 = .ok (.aload_n 0, 1) := by decide +kernel
theorem d_154_133 : decode (axt_b 154) 133 = .ok (.dup, 1) := by decide +kernel
theorem d_154_134 : decode (axt_b 154) 134 = .ok (.getfield 261, 3) := by decide +kernel
theorem d_154_137 : decode (axt_b 154) 137 = .ok (.aload_n 0, 1) := by decide +kernel
theorem d_154_138 : decode (axt_b 154) 138 = .ok (.getfield 54, 3) := by decide +kernel
theorem d_154_141 : decode (axt_b 154) 141 = .ok (.getfield 197, 3) := by decide +kernel
theorem d_154_144 : decode (axt_b 154) 144 = .ok (.iload 4, 2) := by decide +kernel
theorem d_154_146 : decode (axt_b 154) 146 = .ok (.iaload, 1) := by decide +kernel
theorem d_154_147 : decode (axt_b 154) 147 = .ok (.iadd, 1) := by decide +kernel
theorem d_154_148 : decode (axt_b 154) 148 = .ok (.putfield 261, 3) := by decide +kernel
theorem d_154_151 : decode (axt_b 154) 151 = .ok (.aload_n 0, 1) := by decide +kernel
theorem d_154_152 : decode (axt_b 154) 152 = .ok (.dup, 1) := by decide +kernel
theorem d_154_153 : decode (axt_b 154) 153 = .ok (.getfield 264, 3) := by decide +kernel
theorem d_154_156 : decode (axt_b 154) 156 = .ok (.aload_n 0, 1) := by decide +kernel
theorem d_154_157 : decode (axt_b 154) 157 = .ok (.getfield 54, 3) := by decide +kernel
theorem d_154_160 : decode (axt_b 154) 160 = .ok (.iload 4, 2) := by decide +kernel
theorem d_154_162 : decode (axt_b 154) 162 = .ok (.invokevirtual 206, 3) := by decide +kernel
theorem d_154_165 : decode (axt_b 154) 165 = .ok (.iadd, 1) := by decide +kernel
theorem d_154_166 : decode (axt_b 154) 166 = .ok (.putfield 264, 3) := by decide +kernel
theorem d_154_169 : decode (axt_b 154) 169 = .ok (.aload_n 0, 1) := by decide +kernel
theorem d_154_170 : decode (axt_b 154) 170 = .ok (.iload 4, 2) := by decide +kernel
theorem d_154_172 : decode (axt_b 154) 172 = .ok (.invokevirtual 314, 3) := by decide +kernel
theorem d_154_175 : decode (axt_b 154) 175 = .ok (.iinc 4 1, 3) := by decide +kernel
theorem d_154_178 : decode (axt_b 154) 178 = .ok (.goto (-101), 3) := by decide +kernel
theorem d_154_181 : decode (axt_b 154) 181 = .ok (.return_, 1) := by decide +kernel
theorem d_155_0 : decode (axt_b 155) 0 = .ok (.iconst (-1), 1) := by decide +kernel
theorem d_155_1 : decode (axt_b 155) 1 = .ok (.istore_n 1, 1) := by decide +kernel
theorem d_155_2 : decode (axt_b 155) 2 = .ok (.iconst 0, 1) := by decide +kernel
theorem d_155_3 : decode (axt_b 155) 3 = .ok (.istore_n 2, 1) := by decide +kernel
theorem d_155_4 : decode (axt_b 155) 4 = .ok (.iload_n 2, 1) := by decide +kernel
theorem d_155_5 : decode (axt_b 155) 5 = .ok (.sipush 280, 3) := by decide +kernel
theorem d_155_8 : decode (axt_b 155) 8 = .ok (.if_icmp .ge 47, 3) := by decide +kernel
theorem d_155_11 : decode (axt_b 155) 11 = .ok (.aload_n 0, 1) := by decide +kernel
theorem d_155_12 : decode (axt_b 155) 12 = .ok (.iload_n 2, 1) := by decide +kernel
theorem d_155_13 : decode (axt_b 155) 13 = .ok (.invokevirtual 70, 3) := by decide +kernel
theorem d_155_16 : decode (axt_b 155) 16 = .ok (.invokestatic 77, 3) := by decide +kernel
theorem d_155_19 : decode (axt_b 155) 19 = .ok (.ifCond .eq 30, 3) := by decide +kernel
theorem d_155_22 : decode (axt_b 155) 22 = .ok (.aload_n 0, 1) := by decide +kernel
theorem d_155_23 : decode (axt_b 155) 23 = .ok (.iload_n 2, 1) := by decide +kernel
theorem d_155_24 : decode (axt_b 155) 24 = .ok (.invokevirtual 73, 3) := by decide +kernel
theorem d_155_27 : decode (axt_b 155) 27 = .ok (.ifCond .eq 22, 3) := by decide +kernel
theorem d_155_30 : decode (axt_b 155) 30 = .ok (.iload_n 1, 1) := by decide +kernel
theorem d_155_31 : decode (axt_b 155) 31 = .ok (.ifCond .lt 16, 3) := by decide +kernel
theorem d_155_34 : decode (axt_b 155) 34 = .ok (.aload_n 0, 1) := by decide +kernel
theorem d_155_35 : decode (axt_b 155) 35 = .ok (.iload_n 2, 1) := by decide +kernel
theorem d_155_36 : decode (axt_b 155) 36 = .ok (.invokevirtual 70, 3) := by decide +kernel
theorem d_155_39 : decode (axt_b 155) 39 = .ok (.aload_n 0, 1) := by decide +kernel
theorem d_155_40 : decode (axt_b 155) 40 = .ok (.iload_n 1, 1) := by decide +kernel
theorem d_155_41 : decode (axt_b 155) 41 = .ok (.invokevirtual 70, 3) := by decide +kernel
theorem d_155_44 : decode (axt_b 155) 44 = .ok (.if_icmp .le 5, 3) := by decide +kernel
theorem d_155_47 : decode (axt_b 155) 47 = .ok (.iload_n 2, 1) := by decide +kernel
theorem d_155_48 : decode (axt_b 155) 48 = .ok (.istore_n 1, 1) := by decide +kernel
theorem d_155_49 : decode (axt_b 155) 49 = .ok (.iinc 2 1, 3) := by decide +kernel
theorem d_155_52 : decode (axt_b 155) 52 = .ok (.goto (-48), 3) := by decide +kernel
theorem d_155_55 : decode (axt_b 155) 55 = .ok (.iload_n 1, 1) := by decide +kernel
theorem d_155_56 : decode (axt_b 155) 56 = .ok (.ireturn, 1) := by decide +kernel
theorem c_21 {L : Nat} {xs : Nat → Int32} {fr lo : Nat} {h : ax_H} {dk da db dc dd : Nat} {dn : Int32} {ff : Nat → Int32} {i : Nat} (hi : i < 280) (hF : ax_hs h [(dk, .inr (8, [.ref da, .ref db, .ref dc, .ref dd, .int dn])), (da, .inl (0, 35840, .inl ff))]) : ax_M L xs 21 fr lo [.ref dk, .int (nI i)] h (fun r h' => r = some (.int (ff (i * 128 + 1))) ∧ h' = h) := by
  show ax_A (ax_step L xs) ((21, 0, fr, lo), [(0, .ref dk), (1, .int (nI i))], [], h) _
  refine ar_aload_n 1 d_21_0 rfl rfl ?_
  refine ar_getf 4 d_21_1 rfl (ci := 8) (k := 0) rfl (hF.at 0 rfl) rfl ?_
  refine ar_iload_n 5 d_21_4 rfl rfl ?_
  refine ar_sipush 8 (v := 128) d_21_5 rfl (by decide) ?_
  refine ar_imul 9 d_21_8 rfl ?_
  refine ar_top (x' := nI (i * 128)) (pk_mul i 128) ?_
  refine ar_iconst 10 (v := 1) d_21_9 rfl (by decide) ?_
  refine ar_iadd 11 d_21_10 rfl ?_
  refine ar_top (x' := nI (i * 128 + 1)) (nI_add (i * 128) 1) ?_
  refine ar_iald 12 d_21_11 rfl (hF.at 1 rfl) (nI_in (by omega) (by omega)) ?_
  refine ar_top (x' := ff (i * 128 + 1)) (by rw [nI_clamp (by omega)]) ?_
  exact ar_iret d_21_12 rfl rfl (⟨rfl, rfl⟩)

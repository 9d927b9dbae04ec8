/-! a TICK of a quiet NODE -/
theorem d_60_0 : decode (axt_b 60) 0 = .ok (.aload_n 0, 1) := by decide +kernel
theorem d_60_1 : decode (axt_b 60) 1 = .ok (.getfield 12, 3) := by decide +kernel
theorem d_60_4 : decode (axt_b 60) 4 = .ok (.getfield 166, 3) := by decide +kernel
theorem d_60_7 : decode (axt_b 60) 7 = .ok (.ifCond .ne 4, 3) := by decide +kernel
theorem d_60_10 : decode (axt_b 60) 10 = .ok (.return_, 1) := by decide +kernel
theorem d_60_11 : decode (axt_b 60) 11 = .ok (.aload_n 0, 1) := by decide +kernel
theorem d_60_12 : decode (axt_b 60) 12 = .ok (.getfield 30, 3) := by decide +kernel
theorem d_60_15 : decode (axt_b 60) 15 = .ok (.bipush 11, 2) := by decide +kernel
theorem d_60_17 : decode (axt_b 60) 17 = .ok (.aload_n 0, 1) := by decide +kernel
theorem d_60_18 : decode (axt_b 60) 18 = .ok (.getfield 22, 3) := by decide +kernel
theorem d_60_21 : decode (axt_b 60) 21 = .ok (.aload_n 0, 1) := by decide +kernel
theorem d_60_22 : decode (axt_b 60) 22 = .ok (.getfield 26, 3) := by decide +kernel
theorem d_60_25 : decode (axt_b 60) 25 = .ok (.iconst 0, 1) := by decide +kernel
theorem d_60_26 : decode (axt_b 60) 26 = .ok (.iconst 0, 1) := by decide +kernel
theorem d_60_27 : decode (axt_b 60) 27 = .ok (.aload_n 0, 1) := by decide +kernel
theorem d_60_28 : decode (axt_b 60) 28 = .ok (.getfield 91, 3) := by decide +kernel
theorem d_60_31 : decode (axt_b 60) 31 = .ok (.invokevirtual 100, 3) := by decide +kernel
theorem d_60_34 : decode (axt_b 60) 34 = .ok (.aload_n 0, 1) := by decide +kernel
theorem d_60_35 : decode (axt_b 60) 35 = .ok (.getfield 88, 3) := by decide +kernel
theorem d_60_38 : decode (axt_b 60) 38 = .ok (.aload_n 0, 1) := by decide +kernel
theorem d_60_39 : decode (axt_b 60) 39 = .ok (.getfield 91, 3) := by decide +kernel
theorem d_60_42 : decode (axt_b 60) 42 = .ok (.invokevirtual 125, 3) := by decide +kernel
theorem d_60_45 : decode (axt_b 60) 45 = .ok (.astore_n 1, 1) := by decide +kernel
theorem d_60_46 : decode (axt_b 60) 46 = .ok (.iconst 0, 1) := by decide +kernel
theorem d_60_47 : decode (axt_b 60) 47 = .ok (.istore_n 2, 1) := by decide +kernel
theorem d_60_48 : decode (axt_b 60) 48 = .ok (.iload_n 2, 1) := by decide +kernel
theorem d_60_49 : decode (axt_b 60) 49 = .ok (.aload_n 0, 1) := by decide +kernel
theorem d_60_50 : decode (axt_b 60) 50 = .ok (.getfield 12, 3) := by decide +kernel
theorem d_60_53 : decode (axt_b 60) 53 = .ok (.getfield 166, 3) := by decide +kernel
theorem d_60_56 : decode (axt_b 60) 56 = .ok (.if_icmp .ge 47, 3) := by decide +kernel
theorem d_60_59 : decode (axt_b 60) 59 = .ok (.aload_n 0, 1) := by decide +kernel
theorem d_60_60 : decode (axt_b 60) 60 = .ok (.getfield 18, 3) := by decide +kernel
theorem d_60_63 : decode (axt_b 60) 63 = .ok (.aload_n 0, 1) := by decide +kernel
theorem d_60_64 : decode (axt_b 60) 64 = .ok (.getfield 12, 3) := by decide +kernel
theorem d_60_67 : decode (axt_b 60) 67 = .ok (.iload_n 2, 1) := by decide +kernel
theorem d_60_68 : decode (axt_b 60) 68 = .ok (.invokevirtual 184, 3) := by decide +kernel
theorem d_60_71 : decode (axt_b 60) 71 = .ok (.iaload, 1) := by decide +kernel
theorem d_60_72 : decode (axt_b 60) 72 = .ok (.istore_n 3, 1) := by decide +kernel
theorem d_60_73 : decode (axt_b 60) 73 = .ok (.iload_n 3, 1) := by decide +kernel
theorem d_60_74 : decode (axt_b 60) 74 = .ok (.ifCond .lt 23, 3) := by decide +kernel
theorem d_60_77 : decode (axt_b 60) 77 = .ok (.aload_n 1, 1) := by decide +kernel
theorem d_60_78 : decode (axt_b 60) 78 = .ok (.getfield 160, 3) := by decide +kernel
theorem d_60_81 : decode (axt_b 60) 81 = .ok (.aload_n 1, 1) := by decide +kernel
theorem d_60_82 : decode (axt_b 60) 82 = .ok (.getfield 163, 3) := by decide +kernel
theorem d_60_85 : decode (axt_b 60) 85 = .ok (.iload_n 3, 1) := by decide +kernel
theorem d_60_86 : decode (axt_b 60) 86 = .ok (.iastore, 1) := by decide +kernel
theorem d_60_87 : decode (axt_b 60) 87 = .ok (.aload_n 1, 1) := by decide +kernel
theorem d_60_88 : decode (axt_b 60) 88 = .ok (.dup, 1) := by decide +kernel
theorem d_60_89 : decode (axt_b 60) 89 = .ok (.getfield 163, 3) := by decide +kernel
theorem d_60_92 : decode (axt_b 60) 92 = .ok (.iconst 1, 1) := by decide +kernel
theorem d_60_93 : decode (axt_b 60) 93 = .ok (.iadd, 1) := by decide +kernel
theorem d_60_94 : decode (axt_b 60) 94 = .ok (.putfield 163, 3) := by decide +kernel
theorem d_60_97 : decode (axt_b 60) 97 = .ok (.iinc 2 1, 3) := by decide +kernel
theorem d_60_100 : decode (axt_b 60) 100 = .ok (.goto (-52), 3) := by decide +kernel
theorem d_60_103 : decode (axt_b 60) 103 = .ok (.aload_n 0, 1) := by decide +kernel
theorem d_60_104 : decode (axt_b 60) 104 = .ok (.getfield 12, 3) := by decide +kernel
theorem d_60_107 : decode (axt_b 60) 107 = .ok (.invokevirtual 81, 3) := by decide +kernel
theorem d_60_110 : decode (axt_b 60) 110 = .ok (.return_, 1) := by decide +kernel
theorem d_125_0 : decode (axt_b 125) 0 = .ok (.aload_n 0, 1) := by decide +kernel
theorem d_125_1 : decode (axt_b 125) 1 = .ok (.getfield 49, 3) := by decide +kernel
theorem d_125_4 : decode (axt_b 125) 4 = .ok (.getfield 72, 3) := by decide +kernel
theorem d_125_7 : decode (axt_b 125) 7 = .ok (.iconst 2, 1) := by decide +kernel
theorem d_125_8 : decode (axt_b 125) 8 = .ok (.if_icmp .ne 32, 3) := by decide +kernel
theorem d_125_11 : decode (axt_b 125) 11 = .ok (.iconst 0, 1) := by decide +kernel
theorem d_125_12 : decode (axt_b 125) 12 = .ok (.istore_n 1, 1) := by decide +kernel
theorem d_125_13 : decode (axt_b 125) 13 = .ok (.iload_n 1, 1) := by decide +kernel
theorem d_125_14 : decode (axt_b 125) 14 = .ok (.bipush 6, 2) := by decide +kernel
theorem d_125_16 : decode (axt_b 125) 16 = .ok (.if_icmp .ge 21, 3) := by decide +kernel
theorem d_125_19 : decode (axt_b 125) 19 = .ok (.aload_n 0, 1) := by decide +kernel
theorem d_125_20 : decode (axt_b 125) 20 = .ok (.aload_n 0, 1) := by decide +kernel
theorem d_125_21 : decode (axt_b 125) 21 = .ok (.getfield 49, 3) := by decide +kernel
theorem d_125_24 : decode (axt_b 125) 24 = .ok (.iload_n 1, 1) := by decide +kernel
theorem d_125_25 : decode (axt_b 125) 25 = .ok (.invokevirtual 228, 3) := by decide +kernel
theorem d_125_28 : decode (axt_b 125) 28 = .ok (.invokevirtual 231, 3) := by decide +kernel
theorem d_125_31 : decode (axt_b 125) 31 = .ok (.iinc 1 1, 3) := by decide +kernel
theorem d_125_34 : decode (axt_b 125) 34 = .ok (.goto (-21), 3) := by decide +kernel
theorem d_125_37 : decode (axt_b 125) 37 = .ok (.goto 53, 3) := by decide +kernel
theorem d_125_40 : decode (axt_b 125) 40 = .ok (.aload_n 0, 1) := by decide +kernel
theorem d_125_41 : decode (axt_b 125) 41 = .ok (.getfield 49, 3) := by decide +kernel
theorem d_125_44 : decode (axt_b 125) 44 = .ok (.getfield 72, 3) := by decide +kernel
theorem d_125_47 : decode (axt_b 125) 47 = .ok (.iconst 3, 1) := by decide +kernel
theorem d_125_48 : decode (axt_b 125) 48 = .ok (.if_icmp .ne 25, 3) := by decide +kernel
theorem d_125_51 : decode (axt_b 125) 51 = .ok (.iconst 0, 1) := by decide +kernel
theorem d_125_52 : decode (axt_b 125) 52 = .ok (.istore_n 1, 1) := by decide +kernel
theorem d_125_53 : decode (axt_b 125) 53 = .ok (.iload_n 1, 1) := by decide +kernel
theorem d_125_54 : decode (axt_b 125) 54 = .ok (.bipush 8, 2) := by decide +kernel
theorem d_125_56 : decode (axt_b 125) 56 = .ok (.if_icmp .ge 14, 3) := by decide +kernel
theorem d_125_59 : decode (axt_b 125) 59 = .ok (.aload_n 0, 1) := by decide +kernel
theorem d_125_60 : decode (axt_b 125) 60 = .ok (.iload_n 1, 1) := by decide +kernel
theorem d_125_61 : decode (axt_b 125) 61 = .ok (.invokevirtual 234, 3) := by decide +kernel
theorem d_125_64 : decode (axt_b 125) 64 = .ok (.iinc 1 1, 3) := by decide +kernel
theorem d_125_67 : decode (axt_b 125) 67 = .ok (.goto (-14), 3) := by decide +kernel
theorem d_125_70 : decode (axt_b 125) 70 = .ok (.goto 20, 3) := by decide +kernel
theorem d_125_73 : decode (axt_b 125) 73 = .ok (.aload_n 0, 1) := by decide +kernel
theorem d_125_74 : decode (axt_b 125) 74 = .ok (.getfield 49, 3) := by decide +kernel
theorem d_125_77 : decode (axt_b 125) 77 = .ok (.getfield 72, 3) := by decide +kernel
theorem d_125_80 : decode (axt_b 125) 80 = .ok (.iconst 4, 1) := by decide +kernel
theorem d_125_81 : decode (axt_b 125) 81 = .ok (.if_icmp .ne 9, 3) := by decide +kernel
theorem d_125_84 : decode (axt_b 125) 84 = .ok (.aload_n 0, 1) := by decide +kernel
theorem d_125_85 : decode (axt_b 125) 85 = .ok (.bipush 8, 2) := by decide +kernel
theorem d_125_87 : decode (axt_b 125) 87 = .ok (.invokevirtual 234, 3) := by decide +kernel
theorem d_125_90 : decode (axt_b 125) 90 = .ok (.return_, 1) := by decide +kernel
theorem d_136_0 : decode (axt_b 136) 0 = .ok (.aload_n 0, 1) := by decide +kernel
theorem d_136_1 : decode (axt_b 136) 1 = .ok (.invokevirtual 106, 3) := by decide +kernel
theorem d_136_4 : decode (axt_b 136) 4 = .ok (.aload_n 0, 1) := by decide +kernel
theorem d_136_5 : decode (axt_b 136) 5 = .ok (.invokevirtual 94, 3) := by decide +kernel
theorem d_136_8 : decode (axt_b 136) 8 = .ok (.ifCond .eq 17, 3) := by decide +kernel
theorem d_136_11 : decode (axt_b 136) 11 = .ok (.aload_n 0, 1) := by decide +kernel
theorem d_136_12 : decode (axt_b 136) 12 = .ok (.getfield 39, 3) := by decide +kernel
theorem d_136_15 : decode (axt_b 136) 15 = .ok (.invokevirtual 109, 3) := by decide +kernel
theorem d_136_18 : decode (axt_b 136) 18 = .ok (.aload_n 0, 1) := by decide +kernel
theorem d_136_19 : decode (axt_b 136) 19 = .ok (.getfield 39, 3) := by decide +kernel
theorem d_136_22 : decode (axt_b 136) 22 = .ok (.invokevirtual 112, 3) := by decide +kernel
theorem d_136_25 : decode (axt_b 136) 25 = .ok (.return_, 1) := by decide +kernel
theorem d_137_0 : decode (axt_b 137) 0 = .ok (.aload_n 0, 1) := by decide +kernel
theorem d_137_1 : decode (axt_b 137) 1 = .ok (.lconst 0, 1) := by decide +kernel
theorem d_137_2 : decode (axt_b 137) 2 = .ok (.putfield 84, 3) := by decide +kernel
theorem d_137_5 : decode (axt_b 137) 5 = .ok (.aload_n 0, 1) := by decide +kernel
theorem d_137_6 : decode (axt_b 137) 6 = .ok (.aload_n 0, 1) := by decide +kernel
theorem d_137_7 : decode (axt_b 137) 7 = .ok (.getfield 91, 3) := by decide +kernel
theorem d_137_10 : decode (axt_b 137) 10 = .ok (.iconst 1, 1) := by decide +kernel
theorem d_137_11 : decode (axt_b 137) 11 = .ok (.iadd, 1) := by decide +kernel
theorem d_137_12 : decode (axt_b 137) 12 = .ok (.aload_n 0, 1) := by decide +kernel
theorem d_137_13 : decode (axt_b 137) 13 = .ok (.getfield 22, 3) := by decide +kernel
theorem d_137_16 : decode (axt_b 137) 16 = .ok (.getfield 98, 3) := by decide +kernel
theorem d_137_19 : decode (axt_b 137) 19 = .ok (.irem, 1) := by decide +kernel
theorem d_137_20 : decode (axt_b 137) 20 = .ok (.putfield 91, 3) := by decide +kernel
theorem d_137_23 : decode (axt_b 137) 23 = .ok (.aload_n 0, 1) := by decide +kernel
theorem d_137_24 : decode (axt_b 137) 24 = .ok (.getfield 49, 3) := by decide +kernel
theorem d_137_27 : decode (axt_b 137) 27 = .ok (.getfield 72, 3) := by decide +kernel
theorem d_137_30 : decode (axt_b 137) 30 = .ok (.iconst 3, 1) := by decide +kernel
theorem d_137_31 : decode (axt_b 137) 31 = .ok (.if_icmp .eq 18, 3) := by decide +kernel
theorem d_137_34 : decode (axt_b 137) 34 = .ok (.aload_n 0, 1) := by decide +kernel
theorem d_137_35 : decode (axt_b 137) 35 = .ok (.getfield 49, 3) := by decide +kernel
theorem d_137_38 : decode (axt_b 137) 38 = .ok (.getfield 72, 3) := by decide +kernel
theorem d_137_41 : decode (axt_b 137) 41 = .ok (.iconst 4, 1) := by decide +kernel
theorem d_137_42 : decode (axt_b 137) 42 = .ok (.if_icmp .eq 7, 3) := by decide +kernel
theorem d_137_45 : decode (axt_b 137) 45 = .ok (.aload_n 0, 1) := by decide +kernel
theorem d_137_46 : decode (axt_b 137) 46 = .ok (.invokevirtual 66, 3) := by decide +kernel
theorem d_137_49 : decode (axt_b 137) 49 = .ok (.aload_n 0, 1) := by decide +kernel
theorem d_137_50 : decode (axt_b 137) 50 = .ok (.invokevirtual 107, 3) := by decide +kernel
theorem d_137_53 : decode (axt_b 137) 53 = .ok (.aload_n 0, 1) := by decide +kernel
theorem d_137_54 : decode (axt_b 137) 54 = .ok (.getfield 49, 3) := by decide +kernel
theorem d_137_57 : decode (axt_b 137) 57 = .ok (.invokevirtual 110, 3) := by decide +kernel
theorem d_137_60 : decode (axt_b 137) 60 = .ok (.ifCond .ne 24, 3) := by decide +kernel
theorem d_137_63 : decode (axt_b 137) 63 = .ok (.aload_n 0, 1) := by decide +kernel
theorem d_137_64 : decode (axt_b 137) 64 = .ok (.getfield 40, 3) := by decide +kernel
theorem d_137_67 : decode (axt_b 137) 67 = .ok (.invokevirtual 114, 3) := by decide +kernel
theorem d_137_70 : decode (axt_b 137) 70 = .ok (.ifCond .eq 14, 3) := by decide +kernel
theorem d_137_73 : decode (axt_b 137) 73 = .ok (.aload_n 0, 1) := by decide +kernel
theorem d_137_74 : decode (axt_b 137) 74 = .ok (.getfield 94, 3) := by decide +kernel
theorem d_137_77 : decode (axt_b 137) 77 = .ok (.ifCond .ne 7, 3) := by decide +kernel
theorem d_137_80 : decode (axt_b 137) 80 = .ok (.aload_n 0, 1) := by decide +kernel
theorem d_137_81 : decode (axt_b 137) 81 = .ok (.invokevirtual 117, 3) := by decide +kernel
theorem d_137_84 : decode (axt_b 137) 84 = .ok (.return_, 1) := by decide +kernel
theorem d_138_0 : decode (axt_b 138) 0 = .ok (.iconst 0, 1) := by decide +kernel
theorem d_138_1 : decode (axt_b 138) 1 = .ok (.istore_n 1, 1) := by decide +kernel
theorem d_138_2 : decode (axt_b 138) 2 = .ok (.aload_n 0, 1) := by decide +kernel
theorem d_138_3 : decode (axt_b 138) 3 = .ok (.iconst 1, 1) := by decide +kernel
theorem d_138_4 : decode (axt_b 138) 4 = .ok (.putfield 94, 3) := by decide +kernel
theorem d_138_7 : decode (axt_b 138) 7 = .ok (.iconst 0, 1) := by decide +kernel
theorem d_138_8 : decode (axt_b 138) 8 = .ok (.istore_n 2, 1) := by decide +kernel
theorem d_138_9 : decode (axt_b 138) 9 = .ok (.iload_n 2, 1) := by decide +kernel
theorem d_138_10 : decode (axt_b 138) 10 = .ok (.sipush 961, 3) := by decide +kernel
theorem d_138_13 : decode (axt_b 138) 13 = .ok (.if_icmp .ge 97, 3) := by decide +kernel
theorem d_138_16 : decode (axt_b 138) 16 = .ok (.iload_n 1, 1) := by decide +kernel
theorem d_138_17 : decode (axt_b 138) 17 = .ok (.bipush 24, 2) := by decide +kernel
theorem d_138_19 : decode (axt_b 138) 19 = .ok (.if_icmp .ge 91, 3) := by decide +kernel
theorem d_138_22 : decode (axt_b 138) 22 = .ok (.aload_n 0, 1) := by decide +kernel
theorem d_138_23 : decode (axt_b 138) 23 = .ok (.getfield 88, 3) := by decide +kernel
theorem d_138_26 : decode (axt_b 138) 26 = .ok (.istore_n 3, 1) := by decide +kernel
theorem d_138_27 : decode (axt_b 138) 27 = .ok (.aload_n 0, 1) := by decide +kernel
theorem d_138_28 : decode (axt_b 138) 28 = .ok (.aload_n 0, 1) := by decide +kernel
theorem d_138_29 : decode (axt_b 138) 29 = .ok (.getfield 88, 3) := by decide +kernel
theorem d_138_32 : decode (axt_b 138) 32 = .ok (.iconst 1, 1) := by decide +kernel
theorem d_138_33 : decode (axt_b 138) 33 = .ok (.iadd, 1) := by decide +kernel
theorem d_138_34 : decode (axt_b 138) 34 = .ok (.sipush 961, 3) := by decide +kernel
theorem d_138_37 : decode (axt_b 138) 37 = .ok (.irem, 1) := by decide +kernel
theorem d_138_38 : decode (axt_b 138) 38 = .ok (.putfield 88, 3) := by decide +kernel
theorem d_138_41 : decode (axt_b 138) 41 = .ok (.aload_n 0, 1) := by decide +kernel
theorem d_138_42 : decode (axt_b 138) 42 = .ok (.getfield 40, 3) := by decide +kernel
theorem d_138_45 : decode (axt_b 138) 45 = .ok (.getfield 174, 3) := by decide +kernel
theorem d_138_48 : decode (axt_b 138) 48 = .ok (.iload_n 3, 1) := by decide +kernel
theorem d_138_49 : decode (axt_b 138) 49 = .ok (.iaload, 1) := by decide +kernel
theorem d_138_50 : decode (axt_b 138) 50 = .ok (.ifCond .lt 54, 3) := by decide +kernel
theorem d_138_53 : decode (axt_b 138) 53 = .ok (.aload_n 0, 1) := by decide +kernel
theorem d_138_54 : decode (axt_b 138) 54 = .ok (.iload_n 3, 1) := by decide +kernel
theorem d_138_55 : decode (axt_b 138) 55 = .ok (.invokevirtual 192, 3) := by decide +kernel
theorem d_138_58 : decode (axt_b 138) 58 = .ok (.ifCond .ne 46, 3) := by decide +kernel
theorem d_138_61 : decode (axt_b 138) 61 = .ok (.aload_n 0, 1) := by decide +kernel
theorem d_138_62 : decode (axt_b 138) 62 = .ok (.iconst 0, 1) := by decide +kernel
theorem d_138_63 : decode (axt_b 138) 63 = .ok (.putfield 94, 3) := by decide +kernel
theorem d_138_66 : decode (axt_b 138) 66 = .ok (.iload_n 1, 1) := by decide +kernel
theorem d_138_67 : decode (axt_b 138) 67 = .ok (.aload_n 0, 1) := by decide +kernel
theorem d_138_68 : decode (axt_b 138) 68 = .ok (.aload_n 0, 1) := by decide +kernel
theorem d_138_69 : decode (axt_b 138) 69 = .ok (.getfield 9, 3) := by decide +kernel
theorem d_138_72 : decode (axt_b 138) 72 = .ok (.aload_n 0, 1) := by decide +kernel
theorem d_138_73 : decode (axt_b 138) 73 = .ok (.getfield 40, 3) := by decide +kernel
theorem d_138_76 : decode (axt_b 138) 76 = .ok (.iload_n 3, 1) := by decide +kernel
theorem d_138_77 : decode (axt_b 138) 77 = .ok (.invokevirtual 170, 3) := by decide +kernel
theorem d_138_80 : decode (axt_b 138) 80 = .ok (.iaload, 1) := by decide +kernel
theorem d_138_81 : decode (axt_b 138) 81 = .ok (.aload_n 0, 1) := by decide +kernel
theorem d_138_82 : decode (axt_b 138) 82 = .ok (.getfield 40, 3) := by decide +kernel
theorem d_138_85 : decode (axt_b 138) 85 = .ok (.getfield 177, 3) := by decide +kernel
theorem d_138_88 : decode (axt_b 138) 88 = .ok (.iload_n 3, 1) := by decide +kernel
theorem d_138_89 : decode (axt_b 138) 89 = .ok (.iaload, 1) := by decide +kernel
theorem d_138_90 : decode (axt_b 138) 90 = .ok (.iconst (-1), 1) := by decide +kernel
theorem d_138_91 : decode (axt_b 138) 91 = .ok (.ixor, 1) := by decide +kernel
theorem d_138_92 : decode (axt_b 138) 92 = .ok (.iand, 1) := by decide +kernel
theorem d_138_93 : decode (axt_b 138) 93 = .ok (.aload_n 0, 1) := by decide +kernel
theorem d_138_94 : decode (axt_b 138) 94 = .ok (.getfield 78, 3) := by decide +kernel
theorem d_138_97 : decode (axt_b 138) 97 = .ok (.iand, 1) := by decide +kernel
theorem d_138_98 : decode (axt_b 138) 98 = .ok (.iload_n 3, 1) := by decide +kernel
theorem d_138_99 : decode (axt_b 138) 99 = .ok (.invokevirtual 243, 3) := by decide +kernel
theorem d_138_102 : decode (axt_b 138) 102 = .ok (.iadd, 1) := by decide +kernel
theorem d_138_103 : decode (axt_b 138) 103 = .ok (.istore_n 1, 1) := by decide +kernel
theorem d_138_104 : decode (axt_b 138) 104 = .ok (.iinc 2 1, 3) := by decide +kernel
theorem d_138_107 : decode (axt_b 138) 107 = .ok (.goto (-98), 3) := by decide +kernel
theorem d_138_110 : decode (axt_b 138) 110 = .ok (.return_, 1) := by decide +kernel
theorem c_60z {L : Nat} {xs : Nat → Int32} {fr lo : Nat} {h : ax_H} {nd rk nt dk ld tg da db dc dd : Nat} {me up ne ns : Int32} (hF : ax_hs h [(nd, .inr (7, [.int me, .ref rk, .ref nt, .ref dk, .ref ld, .ref tg, .int up, .int ne, .int ns])), (dk, .inr (8, [.ref da, .ref db, .ref dc, .ref dd, .int 0]))]) : ax_M L xs 60 fr lo [.ref nd] h (fun r h' => r = none ∧ h' = h) := by
  show ax_A (ax_step L xs) ((60, 0, fr, lo), [(0, .ref nd)], [], h) _
  refine ar_aload_n 1 d_60_0 rfl rfl ?_
  refine ar_getf 4 d_60_1 rfl (ci := 7) (k := 3) rfl (hF.at 0 rfl) rfl ?_
  refine ar_getf 7 d_60_4 rfl (ci := 8) (k := 4) rfl (hF.at 1 rfl) rfl ?_
  refine ar_if_ne 11 10 d_60_7 (by decide) rfl (fun c => absurd c (by decide)) (fun _ => ?_)
  exact ar_ret d_60_10 rfl (⟨rfl, rfl⟩)
theorem c_125z {L : Nat} {xs : Nat → Int32} {fr lo : Nat} {h : ax_H} {ld rk nt tb wk ma sp wa wb : Nat} {me ep st hd cl ni tu md wo w5 w6 w7 w8 w9 w10 w11 w12 w13 w14 : Int32} {ak : Int64} (hF : ax_hs h [(ld, .inr (9, [.int me, .ref rk, .ref nt, .ref tb, .ref wk, .ref ma, .ref sp, .int ep, .int st, .int hd, .int cl, .long ak, .int ni, .int tu, .int md])), (wk, .inr (10, [.ref tb, .ref wa, .ref wb, .int 0, .int wo, .int w5, .int w6, .int w7, .int w8, .int w9, .int w10, .int w11, .int w12, .int w13, .int w14]))]) : ax_M L xs 125 fr lo [.ref ld] h (fun r h' => r = none ∧ h' = h) := by
  show ax_A (ax_step L xs) ((125, 0, fr, lo), [(0, .ref ld)], [], h) _
  refine ar_aload_n 1 d_125_0 rfl rfl ?_
  refine ar_getf 4 d_125_1 rfl (ci := 9) (k := 4) rfl (hF.at 0 rfl) rfl ?_
  refine ar_getf 7 d_125_4 rfl (ci := 10) (k := 3) rfl (hF.at 1 rfl) rfl ?_
  refine ar_iconst 8 (v := 2) d_125_7 rfl (by decide) ?_
  refine ar_icmp_ne 40 11 d_125_8 (by decide) rfl (fun _ => ?_) (fun c => absurd (by decide) c)
  refine ar_aload_n 41 d_125_40 rfl rfl ?_
  refine ar_getf 44 d_125_41 rfl (ci := 9) (k := 4) rfl (hF.at 0 rfl) rfl ?_
  refine ar_getf 47 d_125_44 rfl (ci := 10) (k := 3) rfl (hF.at 1 rfl) rfl ?_
  refine ar_iconst 48 (v := 3) d_125_47 rfl (by decide) ?_
  refine ar_icmp_ne 73 51 d_125_48 (by decide) rfl (fun _ => ?_) (fun c => absurd (by decide) c)
  refine ar_aload_n 74 d_125_73 rfl rfl ?_
  refine ar_getf 77 d_125_74 rfl (ci := 9) (k := 4) rfl (hF.at 0 rfl) rfl ?_
  refine ar_getf 80 d_125_77 rfl (ci := 10) (k := 3) rfl (hF.at 1 rfl) rfl ?_
  refine ar_iconst 81 (v := 4) d_125_80 rfl (by decide) ?_
  refine ar_icmp_ne 90 84 d_125_81 (by decide) rfl (fun _ => ?_) (fun c => absurd (by decide) c)
  exact ar_ret d_125_90 rfl (⟨rfl, rfl⟩)
theorem lp_138 {L : Nat} {xs : Nat → Int32} {fr lo n sl : Nat} {ld rk nt tb wk ma sp a1 a2 a3 a4 a5 a6 a7 : Nat} {me ep st hd cl tu g an : Int32} {ak : Int64} {f6 : Nat → Int32} {post : ax_Po} (hv : ∀ i, i < 961 → f6 i < 0) : ∀ (r i k : Nat) (h : ax_H), i + r = 961 → k < 961 → ax_hs h [(ld, .inr (9, [.int me, .ref rk, .ref nt, .ref tb, .ref wk, .ref ma, .ref sp, .int ep, .int st, .int hd, .int cl, .long ak, .int (nI k), .int tu, .int 1])), (tb, .inr (6, [.int g, .ref a1, .ref a2, .ref a3, .ref a4, .ref a5, .ref a6, .ref a7, .long 0, .int 0, .int an])), (a6, .inl (0, 961, .inl f6))] → h.1 = n → h.2.1 = sl → (∀ h' k, k < 961 → ax_hs h' [(ld, .inr (9, [.int me, .ref rk, .ref nt, .ref tb, .ref wk, .ref ma, .ref sp, .int ep, .int st, .int hd, .int cl, .long ak, .int (nI k), .int tu, .int 1])), (tb, .inr (6, [.int g, .ref a1, .ref a2, .ref a3, .ref a4, .ref a5, .ref a6, .ref a7, .long 0, .int 0, .int an])), (a6, .inl (0, 961, .inl f6))] → h'.1 = n → h'.2.1 = sl → ax_fr (fun x => x ∈ [ld]) h h' → post none h') → ax_A (ax_step L xs) ((138, 9, fr, lo), [(0, .ref ld), (1, .int 0), (2, .int (nI i))], [], h) post := by
  intro r
  induction r with
  | zero =>
    intro i k h hi hk hF hn hs kk
    have e : i = 961 := by omega
    subst e
    refine ar_iload_n 10 d_138_9 rfl rfl ?_
    refine ar_sipush 13 (v := 961) d_138_10 rfl (by decide) ?_
    refine ar_top (x' := nI 961) rfl ?_
    refine ar_icmp_ge 110 16 d_138_13 (by decide) rfl (fun _ => ?_) (fun c => absurd (Int32.le_refl _) c)
    exact ar_ret d_138_110 rfl (kk h k hk hF hn hs ax_fr.rf)
  | succ r ih =>
    intro i k h hi hk hF hn hs kk
    obtain ⟨k2, hk2, ek⟩ := rem_nn9 (x := nI (k + 1)) (c := 961) (by omega) (by omega) (by rw [nI_toInt' (by omega)]; omega)
    have hbase : h.1 = n := hn
    have hbasl : h.2.1 = sl := hs
    have hf : ax_fr (fun x => x ∈ [ld]) h h := ax_fr.rf
    refine ar_iload_n 10 d_138_9 rfl rfl ?_
    refine ar_sipush 13 (v := 961) d_138_10 rfl (by decide) ?_
    refine ar_top (x' := nI 961) rfl ?_
    refine ar_icmp_ge 110 16 d_138_13 (by decide) rfl (fun c => absurd c (nI_ge (by omega) (by omega))) (fun _ => ?_)
    refine ar_iload_n 17 d_138_16 rfl rfl ?_
    refine ar_bipush 19 (v := 24) d_138_17 rfl (by decide) ?_
    refine ar_icmp_ge 110 22 d_138_19 (by decide) rfl (fun c => absurd c (by decide)) (fun _ => ?_)
    refine ar_aload_n 23 d_138_22 rfl rfl ?_
    refine ar_getf 26 d_138_23 rfl (ci := 9) (k := 12) rfl (hF.at 0 rfl) rfl ?_
    refine ar_istore_n 27 [(0, .ref ld), (1, .int 0), (2, .int (nI i)), (3, .int (nI k))] d_138_26 rfl (by decide) rfl ?_
    refine ar_aload_n 28 d_138_27 rfl rfl ?_
    refine ar_aload_n 29 d_138_28 rfl rfl ?_
    refine ar_getf 32 d_138_29 rfl (ci := 9) (k := 12) rfl (hF.at 0 rfl) rfl ?_
    refine ar_iconst 33 (v := 1) d_138_32 rfl (by decide) ?_
    refine ar_iadd 34 d_138_33 rfl ?_
    refine ar_top (x' := nI (k + 1)) ((nI_succ k).symm) ?_
    refine ar_sipush 37 (v := 961) d_138_34 rfl (by decide) ?_
    refine ar_irem 38 d_138_37 rfl (by decide) ?_
    refine ar_top (x' := nI k2) (ek) ?_
    refine ar_putf 41 [.int me, .ref rk, .ref nt, .ref tb, .ref wk, .ref ma, .ref sp, .int ep, .int st, .int hd, .int cl, .long ak, .int (nI k2), .int tu, .int 1] d_138_38 rfl (ci := 9) (k := 12) rfl rfl (hF.at 0 rfl) (Nat.le_of_ble_eq_true rfl) rfl rfl rfl ?_
    replace hF : ax_hs (ax_put h ld (.inr (9, [.int me, .ref rk, .ref nt, .ref tb, .ref wk, .ref ma, .ref sp, .int ep, .int st, .int hd, .int cl, .long ak, .int (nI k2), .int tu, .int 1]))) [(ld, .inr (9, [.int me, .ref rk, .ref nt, .ref tb, .ref wk, .ref ma, .ref sp, .int ep, .int st, .int hd, .int cl, .long ak, .int (nI k2), .int tu, .int 1])), (tb, .inr (6, [.int g, .ref a1, .ref a2, .ref a3, .ref a4, .ref a5, .ref a6, .ref a7, .long 0, .int 0, .int an])), (a6, .inl (0, 961, .inl f6))] := hF.put 0 _ rfl rfl
    replace hf := hf.put (a := ld) (c := .inr (9, [.int me, .ref rk, .ref nt, .ref tb, .ref wk, .ref ma, .ref sp, .int ep, .int st, .int hd, .int cl, .long ak, .int (nI k2), .int tu, .int 1])) (by simp)
    replace hn : (ax_put h ld (.inr (9, [.int me, .ref rk, .ref nt, .ref tb, .ref wk, .ref ma, .ref sp, .int ep, .int st, .int hd, .int cl, .long ak, .int (nI k2), .int tu, .int 1]))).1 = n := hn
    replace hs : (ax_put h ld (.inr (9, [.int me, .ref rk, .ref nt, .ref tb, .ref wk, .ref ma, .ref sp, .int ep, .int st, .int hd, .int cl, .long ak, .int (nI k2), .int tu, .int 1]))).2.1 = sl := hs
    generalize ax_put h ld (.inr (9, [.int me, .ref rk, .ref nt, .ref tb, .ref wk, .ref ma, .ref sp, .int ep, .int st, .int hd, .int cl, .long ak, .int (nI k2), .int tu, .int 1])) = h1 at hF hf hn hs ⊢
    refine ar_aload_n 42 d_138_41 rfl rfl ?_
    refine ar_getf 45 d_138_42 rfl (ci := 9) (k := 3) rfl (hF.at 0 rfl) rfl ?_
    refine ar_getf 48 d_138_45 rfl (ci := 6) (k := 6) rfl (hF.at 1 rfl) rfl ?_
    refine ar_iload_n 49 d_138_48 rfl rfl ?_
    refine ar_iald 50 d_138_49 rfl (hF.at 2 rfl) (nI_in hk (by omega)) ?_
    refine ar_if_lt 104 53 d_138_50 (by decide) rfl (fun _ => ?_) (fun c => absurd (by rw [nI_clamp (by omega)]; exact hv k hk) c)
    refine ar_iinc 107 [(0, .ref ld), (1, .int 0), (2, .int (nI (i + 1))), (3, .int (nI k))] d_138_104 rfl rfl ((nI_succ i).symm) (by decide) rfl ?_
    refine ar_goto 9 d_138_107 (by decide) ?_
    refine ar_wk [0, 1, 2] rfl (by simp) ?_
    exact ih (i + 1) k2 h1 (by omega) hk2 hF hn hs (fun h' k' j0 j1 j2 j3 j4 => kk h' k' j0 j1 j2 j3 (hf.tr j4))
theorem c_138z {L : Nat} {xs : Nat → Int32} {fr lo : Nat} {h : ax_H} {ld rk nt tb wk ma sp a1 a2 a3 a4 a5 a6 a7 : Nat} {me ep st hd cl tu md g an : Int32} {ak : Int64} {f6 : Nat → Int32} {k n sl : Nat} (hv : ∀ i, i < 961 → f6 i < 0) (hk : k < 961) (hF : ax_hs h [(ld, .inr (9, [.int me, .ref rk, .ref nt, .ref tb, .ref wk, .ref ma, .ref sp, .int ep, .int st, .int hd, .int cl, .long ak, .int (nI k), .int tu, .int md])), (tb, .inr (6, [.int g, .ref a1, .ref a2, .ref a3, .ref a4, .ref a5, .ref a6, .ref a7, .long 0, .int 0, .int an])), (a6, .inl (0, 961, .inl f6))]) (hn : h.1 = n) (hs : h.2.1 = sl) : ax_M L xs 138 fr lo [.ref ld] h (fun r h' => ∃ k', r = none ∧ k' < 961 ∧ ax_hs h' [(ld, .inr (9, [.int me, .ref rk, .ref nt, .ref tb, .ref wk, .ref ma, .ref sp, .int ep, .int st, .int hd, .int cl, .long ak, .int (nI k'), .int tu, .int 1])), (tb, .inr (6, [.int g, .ref a1, .ref a2, .ref a3, .ref a4, .ref a5, .ref a6, .ref a7, .long 0, .int 0, .int an])), (a6, .inl (0, 961, .inl f6))] ∧ h'.1 = n ∧ h'.2.1 = sl ∧ ax_fr (fun x => x ∈ [ld]) h h') := by
  show ax_A (ax_step L xs) ((138, 0, fr, lo), [(0, .ref ld)], [], h) _
  have hbase : h.1 = n := hn
  have hbasl : h.2.1 = sl := hs
  have hf : ax_fr (fun x => x ∈ [ld]) h h := ax_fr.rf
  refine ar_iconst 1 (v := 0) d_138_0 rfl (by decide) ?_
  refine ar_istore_n 2 [(0, .ref ld), (1, .int 0)] d_138_1 rfl (by decide) rfl ?_
  refine ar_aload_n 3 d_138_2 rfl rfl ?_
  refine ar_iconst 4 (v := 1) d_138_3 rfl (by decide) ?_
  refine ar_putf 7 [.int me, .ref rk, .ref nt, .ref tb, .ref wk, .ref ma, .ref sp, .int ep, .int st, .int hd, .int cl, .long ak, .int (nI k), .int tu, .int 1] d_138_4 rfl (ci := 9) (k := 14) rfl rfl (hF.at 0 rfl) (Nat.le_of_ble_eq_true rfl) rfl rfl rfl ?_
  replace hF : ax_hs (ax_put h ld (.inr (9, [.int me, .ref rk, .ref nt, .ref tb, .ref wk, .ref ma, .ref sp, .int ep, .int st, .int hd, .int cl, .long ak, .int (nI k), .int tu, .int 1]))) [(ld, .inr (9, [.int me, .ref rk, .ref nt, .ref tb, .ref wk, .ref ma, .ref sp, .int ep, .int st, .int hd, .int cl, .long ak, .int (nI k), .int tu, .int 1])), (tb, .inr (6, [.int g, .ref a1, .ref a2, .ref a3, .ref a4, .ref a5, .ref a6, .ref a7, .long 0, .int 0, .int an])), (a6, .inl (0, 961, .inl f6))] := hF.put 0 _ rfl rfl
  replace hf := hf.put (a := ld) (c := .inr (9, [.int me, .ref rk, .ref nt, .ref tb, .ref wk, .ref ma, .ref sp, .int ep, .int st, .int hd, .int cl, .long ak, .int (nI k), .int tu, .int 1])) (by simp)
  replace hn : (ax_put h ld (.inr (9, [.int me, .ref rk, .ref nt, .ref tb, .ref wk, .ref ma, .ref sp, .int ep, .int st, .int hd, .int cl, .long ak, .int (nI k), .int tu, .int 1]))).1 = n := hn
  replace hs : (ax_put h ld (.inr (9, [.int me, .ref rk, .ref nt, .ref tb, .ref wk, .ref ma, .ref sp, .int ep, .int st, .int hd, .int cl, .long ak, .int (nI k), .int tu, .int 1]))).2.1 = sl := hs
  generalize ax_put h ld (.inr (9, [.int me, .ref rk, .ref nt, .ref tb, .ref wk, .ref ma, .ref sp, .int ep, .int st, .int hd, .int cl, .long ak, .int (nI k), .int tu, .int 1])) = h1 at hF hf hn hs ⊢
  refine ar_iconst 8 (v := 0) d_138_7 rfl (by decide) ?_
  refine ar_istore_n 9 [(0, .ref ld), (1, .int 0), (2, .int 0)] d_138_8 rfl (by decide) rfl ?_
  exact lp_138 hv 961 0 k h1 (by omega) hk hF hn hs (fun h' k' j0 j1 j2 j3 j4 => ⟨k', rfl, j0, j1, j2, j3, hf.tr j4⟩)
theorem c_137P {L : Nat} {xs : Nat → Int32} {fr lo : Nat} {h : ax_H} {ld rk nt tb wk ma sp wa wb a1 a2 a3 a4 a5 a6 a7 w q nn gg o k t n sl : Nat} {C me ep st hd cl md g an wo w5 w6 w7 w8 w9 w10 w11 w12 w13 w14 : Int32} {ak : Int64} {f6 u b : Nat → Int32} {P : (Nat → Int32) → Prop} (hfr : 2 ≤ fr) (hlo : 90 ≤ lo) (hnn : nn ≤ 6) (hn3 : 0 < nn) (hk : k < 961) (ht : t < nn) (hv : ∀ i, i < 961 → f6 i < 0) (hA_ld : ¬ NTA nt w ld) (hA_wk : ¬ NTA nt w wk) (hA_tb : ¬ NTA nt w tb) (hA_a6 : ¬ NTA nt w a6) (hA_rk : ¬ NTA nt w rk) (hP : ∀ n, n < nn → P (mg 4 me (nI n) ep st)) (hN : NTP h nt w P q u b) (hF : ax_hs h [(ld, .inr (9, [.int me, .ref rk, .ref nt, .ref tb, .ref wk, .ref ma, .ref sp, .int ep, .int st, .int hd, .int cl, .long ak, .int (nI k), .int (nI t), .int md])), (wk, .inr (10, [.ref tb, .ref wa, .ref wb, .int 0, .int wo, .int w5, .int w6, .int w7, .int w8, .int w9, .int w10, .int w11, .int w12, .int w13, .int w14])), (tb, .inr (6, [.int g, .ref a1, .ref a2, .ref a3, .ref a4, .ref a5, .ref a6, .ref a7, .long 0, .int 0, .int an])), (a6, .inl (0, 961, .inl f6)), (rk, .inr (3, [.int (nI nn), .int C, .int (nI gg), .ref o]))]) (hn : h.1 = n) (hs : h.2.1 = sl) (hn0 : 0 < n) : ax_M L xs 137 fr lo [.ref ld] h (fun r h' => ∃ k' t' md', r = none ∧ k' < 961 ∧ t' < nn ∧ ax_hs h' [(ld, .inr (9, [.int me, .ref rk, .ref nt, .ref tb, .ref wk, .ref ma, .ref sp, .int ep, .int st, .int hd, .int cl, .long 0, .int (nI k'), .int (nI t'), .int md'])), (wk, .inr (10, [.ref tb, .ref wa, .ref wb, .int 0, .int wo, .int w5, .int w6, .int w7, .int w8, .int w9, .int w10, .int w11, .int w12, .int w13, .int w14])), (tb, .inr (6, [.int g, .ref a1, .ref a2, .ref a3, .ref a4, .ref a5, .ref a6, .ref a7, .long 0, .int 0, .int an])), (a6, .inl (0, 961, .inl f6)), (rk, .inr (3, [.int (nI nn), .int C, .int (nI gg), .ref o]))] ∧ NTP h' nt w P q u b ∧ h'.1 = n ∧ h'.2.1 = sl ∧ ax_fr (fun x => NTA nt w x ∨ x ∈ [ld]) h h') := by
  show ax_A (ax_step L xs) ((137, 0, fr, lo), [(0, .ref ld)], [], h) _
  have hbase : h.1 = n := hn
  have hbasl : h.2.1 = sl := hs
  have hf : ax_fr (fun x => x ∈ [ld]) h h := ax_fr.rf
  replace hf : ax_fr (fun x => NTA nt w x ∨ x ∈ [ld]) h h := ax_fr.rf
  have hld0 : ax_fr (fun x => x ∈ [ld]) h h := ax_fr.rf
  obtain ⟨t2, ht2, et⟩ := rem_nn9 (x := nI (t + 1)) (c := nn) (by omega) (by omega) (by rw [nI_toInt' (by omega)]; omega)
  refine ar_aload_n 1 d_137_0 rfl rfl ?_
  refine ar_lconst 2 (v := 0) d_137_1 rfl (by decide) ?_
  refine ar_putf 5 [.int me, .ref rk, .ref nt, .ref tb, .ref wk, .ref ma, .ref sp, .int ep, .int st, .int hd, .int cl, .long 0, .int (nI k), .int (nI t), .int md] d_137_2 rfl (ci := 9) (k := 11) rfl rfl (hF.at 0 rfl) (Nat.le_of_ble_eq_true rfl) rfl rfl rfl ?_
  replace hF : ax_hs (ax_put h ld (.inr (9, [.int me, .ref rk, .ref nt, .ref tb, .ref wk, .ref ma, .ref sp, .int ep, .int st, .int hd, .int cl, .long 0, .int (nI k), .int (nI t), .int md]))) [(ld, .inr (9, [.int me, .ref rk, .ref nt, .ref tb, .ref wk, .ref ma, .ref sp, .int ep, .int st, .int hd, .int cl, .long 0, .int (nI k), .int (nI t), .int md])), (wk, .inr (10, [.ref tb, .ref wa, .ref wb, .int 0, .int wo, .int w5, .int w6, .int w7, .int w8, .int w9, .int w10, .int w11, .int w12, .int w13, .int w14])), (tb, .inr (6, [.int g, .ref a1, .ref a2, .ref a3, .ref a4, .ref a5, .ref a6, .ref a7, .long 0, .int 0, .int an])), (a6, .inl (0, 961, .inl f6)), (rk, .inr (3, [.int (nI nn), .int C, .int (nI gg), .ref o]))] := hF.put 0 _ rfl rfl
  replace hf := hf.put (a := ld) (c := .inr (9, [.int me, .ref rk, .ref nt, .ref tb, .ref wk, .ref ma, .ref sp, .int ep, .int st, .int hd, .int cl, .long 0, .int (nI k), .int (nI t), .int md])) (by simp)
  replace hld0 := hld0.put (a := ld) (c := .inr (9, [.int me, .ref rk, .ref nt, .ref tb, .ref wk, .ref ma, .ref sp, .int ep, .int st, .int hd, .int cl, .long 0, .int (nI k), .int (nI t), .int md])) (by simp)
  replace hn : (ax_put h ld (.inr (9, [.int me, .ref rk, .ref nt, .ref tb, .ref wk, .ref ma, .ref sp, .int ep, .int st, .int hd, .int cl, .long 0, .int (nI k), .int (nI t), .int md]))).1 = n := hn
  replace hs : (ax_put h ld (.inr (9, [.int me, .ref rk, .ref nt, .ref tb, .ref wk, .ref ma, .ref sp, .int ep, .int st, .int hd, .int cl, .long 0, .int (nI k), .int (nI t), .int md]))).2.1 = sl := hs
  generalize ax_put h ld (.inr (9, [.int me, .ref rk, .ref nt, .ref tb, .ref wk, .ref ma, .ref sp, .int ep, .int st, .int hd, .int cl, .long 0, .int (nI k), .int (nI t), .int md])) = h1 at hF hf hld0 hn hs ⊢
  refine ar_aload_n 6 d_137_5 rfl rfl ?_
  refine ar_aload_n 7 d_137_6 rfl rfl ?_
  refine ar_getf 10 d_137_7 rfl (ci := 9) (k := 13) rfl (hF.at 0 rfl) rfl ?_
  refine ar_iconst 11 (v := 1) d_137_10 rfl (by decide) ?_
  refine ar_iadd 12 d_137_11 rfl ?_
  refine ar_top (x' := nI (t + 1)) ((nI_succ t).symm) ?_
  refine ar_aload_n 13 d_137_12 rfl rfl ?_
  refine ar_getf 16 d_137_13 rfl (ci := 9) (k := 1) rfl (hF.at 0 rfl) rfl ?_
  refine ar_getf 19 d_137_16 rfl (ci := 3) (k := 0) rfl (hF.at 4 rfl) rfl ?_
  refine ar_irem 20 d_137_19 rfl (nI_nz9 (by omega) (by omega)) ?_
  refine ar_top (x' := nI t2) (et) ?_
  refine ar_putf 23 [.int me, .ref rk, .ref nt, .ref tb, .ref wk, .ref ma, .ref sp, .int ep, .int st, .int hd, .int cl, .long 0, .int (nI k), .int (nI t2), .int md] d_137_20 rfl (ci := 9) (k := 13) rfl rfl (hF.at 0 rfl) (Nat.le_of_ble_eq_true rfl) rfl rfl rfl ?_
  replace hF : ax_hs (ax_put h1 ld (.inr (9, [.int me, .ref rk, .ref nt, .ref tb, .ref wk, .ref ma, .ref sp, .int ep, .int st, .int hd, .int cl, .long 0, .int (nI k), .int (nI t2), .int md]))) [(ld, .inr (9, [.int me, .ref rk, .ref nt, .ref tb, .ref wk, .ref ma, .ref sp, .int ep, .int st, .int hd, .int cl, .long 0, .int (nI k), .int (nI t2), .int md])), (wk, .inr (10, [.ref tb, .ref wa, .ref wb, .int 0, .int wo, .int w5, .int w6, .int w7, .int w8, .int w9, .int w10, .int w11, .int w12, .int w13, .int w14])), (tb, .inr (6, [.int g, .ref a1, .ref a2, .ref a3, .ref a4, .ref a5, .ref a6, .ref a7, .long 0, .int 0, .int an])), (a6, .inl (0, 961, .inl f6)), (rk, .inr (3, [.int (nI nn), .int C, .int (nI gg), .ref o]))] := hF.put 0 _ rfl rfl
  replace hf := hf.put (a := ld) (c := .inr (9, [.int me, .ref rk, .ref nt, .ref tb, .ref wk, .ref ma, .ref sp, .int ep, .int st, .int hd, .int cl, .long 0, .int (nI k), .int (nI t2), .int md])) (by simp)
  replace hld0 := hld0.put (a := ld) (c := .inr (9, [.int me, .ref rk, .ref nt, .ref tb, .ref wk, .ref ma, .ref sp, .int ep, .int st, .int hd, .int cl, .long 0, .int (nI k), .int (nI t2), .int md])) (by simp)
  replace hn : (ax_put h1 ld (.inr (9, [.int me, .ref rk, .ref nt, .ref tb, .ref wk, .ref ma, .ref sp, .int ep, .int st, .int hd, .int cl, .long 0, .int (nI k), .int (nI t2), .int md]))).1 = n := hn
  replace hs : (ax_put h1 ld (.inr (9, [.int me, .ref rk, .ref nt, .ref tb, .ref wk, .ref ma, .ref sp, .int ep, .int st, .int hd, .int cl, .long 0, .int (nI k), .int (nI t2), .int md]))).2.1 = sl := hs
  generalize ax_put h1 ld (.inr (9, [.int me, .ref rk, .ref nt, .ref tb, .ref wk, .ref ma, .ref sp, .int ep, .int st, .int hd, .int cl, .long 0, .int (nI k), .int (nI t2), .int md])) = h2 at hF hf hld0 hn hs ⊢
  refine ar_aload_n 24 d_137_23 rfl rfl ?_
  refine ar_getf 27 d_137_24 rfl (ci := 9) (k := 4) rfl (hF.at 0 rfl) rfl ?_
  refine ar_getf 30 d_137_27 rfl (ci := 10) (k := 3) rfl (hF.at 1 rfl) rfl ?_
  refine ar_iconst 31 (v := 3) d_137_30 rfl (by decide) ?_
  refine ar_icmp_eq 49 34 d_137_31 (by decide) rfl (fun c => absurd c (by decide)) (fun _ => ?_)
  refine ar_aload_n 35 d_137_34 rfl rfl ?_
  refine ar_getf 38 d_137_35 rfl (ci := 9) (k := 4) rfl (hF.at 0 rfl) rfl ?_
  refine ar_getf 41 d_137_38 rfl (ci := 10) (k := 3) rfl (hF.at 1 rfl) rfl ?_
  refine ar_iconst 42 (v := 4) d_137_41 rfl (by decide) ?_
  refine ar_icmp_eq 49 45 d_137_42 (by decide) rfl (fun c => absurd c (by decide)) (fun _ => ?_)
  refine ar_aload_n 46 d_137_45 rfl rfl ?_
  have hld := hld0
  have hN : NTP h2 nt w P q u b := hN.fr hld (by intro x hx hB; simp at hB; subst hB; exact absurd hx hA_ld)
  refine ar_call (r := []) (na := 0) (kd := 0) (cm := 35) (fr2 := fr - 1) (lo2 := lo - 21) 49 d_137_46 (ar_hoV (as := []) rfl rfl rfl (hF.at 0 rfl)) rfl (by omega) (show lo - 21 + (19 + 2) = lo by omega) (Nat.le_of_ble_eq_true rfl) (Nat.le_of_ble_eq_true rfl) (c_35P (by omega) (by omega) hnn hA_ld hA_rk hP (hF.sub (F' := [(ld, .inr (9, [.int me, .ref rk, .ref nt, .ref tb, .ref wk, .ref ma, .ref sp, .int ep, .int st, .int hd, .int cl, .long 0, .int (nI k), .int (nI t2), .int md])), (rk, .inr (3, [.int (nI nn), .int C, .int (nI gg), .ref o]))]) [0, 4] rfl rfl) hN) ?_
  intro v h9 hq
  obtain ⟨rfl, hN2, qf, qn, qs⟩ := hq
  replace hF : ax_hs h9 [(ld, .inr (9, [.int me, .ref rk, .ref nt, .ref tb, .ref wk, .ref ma, .ref sp, .int ep, .int st, .int hd, .int cl, .long 0, .int (nI k), .int (nI t2), .int md])), (wk, .inr (10, [.ref tb, .ref wa, .ref wb, .int 0, .int wo, .int w5, .int w6, .int w7, .int w8, .int w9, .int w10, .int w11, .int w12, .int w13, .int w14])), (tb, .inr (6, [.int g, .ref a1, .ref a2, .ref a3, .ref a4, .ref a5, .ref a6, .ref a7, .long 0, .int 0, .int an])), (a6, .inl (0, 961, .inl f6)), (rk, .inr (3, [.int (nI nn), .int C, .int (nI gg), .ref o]))] := hF.fr qf (by intro x hx; simp at hx; rcases hx with rfl | rfl | rfl | rfl | rfl <;> assumption)
  replace hf := hf.tr (qf.mono (fun x hx => Or.inl hx))
  replace hn : h9.1 = n := qn.trans hn
  replace hs : h9.2.1 = sl := qs.trans hs
  refine ar_aload_n 50 d_137_49 rfl rfl ?_
  refine ar_call (r := []) (na := 0) (kd := 0) (cm := 125) (fr2 := fr - 1) (lo2 := lo - 21) 53 d_137_50 (ar_hoV (as := []) rfl rfl rfl (hF.at 0 rfl)) rfl (by omega) (show lo - 21 + (19 + 2) = lo by omega) (Nat.le_of_ble_eq_true rfl) (Nat.le_of_ble_eq_true rfl) (c_125z (hF.sub (F' := [(ld, .inr (9, [.int me, .ref rk, .ref nt, .ref tb, .ref wk, .ref ma, .ref sp, .int ep, .int st, .int hd, .int cl, .long 0, .int (nI k), .int (nI t2), .int md])), (wk, .inr (10, [.ref tb, .ref wa, .ref wb, .int 0, .int wo, .int w5, .int w6, .int w7, .int w8, .int w9, .int w10, .int w11, .int w12, .int w13, .int w14]))]) [0, 1] rfl rfl)) ?_
  intro v hh hq
  obtain ⟨rfl, ehh⟩ := hq
  rw [ehh]
  clear ehh
  refine ar_aload_n 54 d_137_53 rfl rfl ?_
  refine ar_getf 57 d_137_54 rfl (ci := 9) (k := 4) rfl (hF.at 0 rfl) rfl ?_
  refine ar_call (r := []) (na := 0) (kd := 0) (cm := 71) (fr2 := fr - 1) (lo2 := lo - 20) 60 d_137_57 (ar_hoV (as := []) rfl rfl rfl (hF.at 1 rfl)) rfl (by omega) (show lo - 20 + (19 + 1) = lo by omega) (Nat.le_of_ble_eq_true rfl) (Nat.le_of_ble_eq_true rfl) (c_71F (by decide) (hF.sub (F' := [(wk, .inr (10, [.ref tb, .ref wa, .ref wb, .int 0, .int wo, .int w5, .int w6, .int w7, .int w8, .int w9, .int w10, .int w11, .int w12, .int w13, .int w14]))]) [1] rfl rfl)) ?_
  intro v hh hq
  obtain ⟨rfl, ehh⟩ := hq
  rw [ehh]
  clear ehh
  refine ar_if_ne 84 63 d_137_60 (by decide) rfl (fun c => absurd c (by decide)) (fun _ => ?_)
  refine ar_aload_n 64 d_137_63 rfl rfl ?_
  refine ar_getf 67 d_137_64 rfl (ci := 9) (k := 3) rfl (hF.at 0 rfl) rfl ?_
  refine ar_call (r := []) (na := 0) (kd := 0) (cm := 72) (fr2 := fr - 1) (lo2 := lo - 20) 70 d_137_67 (ar_hoV (as := []) rfl rfl rfl (hF.at 2 rfl)) rfl (by omega) (show lo - 20 + (19 + 1) = lo by omega) (Nat.le_of_ble_eq_true rfl) (Nat.le_of_ble_eq_true rfl) (c_72z (by omega) (by omega) (hF.sub (F' := [(tb, .inr (6, [.int g, .ref a1, .ref a2, .ref a3, .ref a4, .ref a5, .ref a6, .ref a7, .long 0, .int 0, .int an]))]) [2] rfl rfl)) ?_
  intro v hh hq
  obtain ⟨rfl, ehh⟩ := hq
  rw [ehh]
  clear ehh
  refine ar_if_eq 84 73 d_137_70 (by decide) rfl (fun c => absurd c (by decide)) (fun _ => ?_)
  refine ar_aload_n 74 d_137_73 rfl rfl ?_
  refine ar_getf 77 d_137_74 rfl (ci := 9) (k := 14) rfl (hF.at 0 rfl) rfl ?_
  refine ar_if_ne 84 80 d_137_77 (by decide) rfl (fun c1 => ?_) (fun c1 => ?_)
  · exact ar_ret d_137_84 rfl (⟨k, t2, md, rfl, hk, ht2, hF, hN2, hn, hs, hf⟩)
  · refine ar_aload_n 81 d_137_80 rfl rfl ?_
    refine ar_call (r := []) (na := 0) (kd := 0) (cm := 138) (fr2 := fr - 1) (lo2 := lo - 23) 84 d_137_81 (ar_hoV (as := []) rfl rfl rfl (hF.at 0 rfl)) rfl (by omega) (show lo - 23 + (19 + 4) = lo by omega) (Nat.le_of_ble_eq_true rfl) (Nat.le_of_ble_eq_true rfl) (c_138z hv hk (hF.sub (F' := [(ld, .inr (9, [.int me, .ref rk, .ref nt, .ref tb, .ref wk, .ref ma, .ref sp, .int ep, .int st, .int hd, .int cl, .long 0, .int (nI k), .int (nI t2), .int md])), (tb, .inr (6, [.int g, .ref a1, .ref a2, .ref a3, .ref a4, .ref a5, .ref a6, .ref a7, .long 0, .int 0, .int an])), (a6, .inl (0, 961, .inl f6))]) [0, 2, 3] rfl rfl) hn hs) ?_
    intro v h10 hq
    obtain ⟨k', rfl, hk', qF, qn2, qs2, qf2⟩ := hq
    have hR := (hF.sub (F' := [(wk, .inr (10, [.ref tb, .ref wa, .ref wb, .int 0, .int wo, .int w5, .int w6, .int w7, .int w8, .int w9, .int w10, .int w11, .int w12, .int w13, .int w14])), (rk, .inr (3, [.int (nI nn), .int C, .int (nI gg), .ref o]))]) [1, 4] rfl rfl).fr qf2 (by intro x hx z; exact ax_hs.apartA hF [1, 4] [0] (by decide) rfl rfl x.1 (List.mem_map.mpr ⟨x, hx, rfl⟩) z)
    have hN3 := hN2.fr qf2 (by intro x hx hB; simp at hB; subst hB; exact absurd hx hA_ld)
    have hF3 : ax_hs h10 [(wk, .inr (10, [.ref tb, .ref wa, .ref wb, .int 0, .int wo, .int w5, .int w6, .int w7, .int w8, .int w9, .int w10, .int w11, .int w12, .int w13, .int w14])), (rk, .inr (3, [.int (nI nn), .int C, .int (nI gg), .ref o])), (ld, .inr (9, [.int me, .ref rk, .ref nt, .ref tb, .ref wk, .ref ma, .ref sp, .int ep, .int st, .int hd, .int cl, .long 0, .int (nI k'), .int (nI t2), .int 1])), (tb, .inr (6, [.int g, .ref a1, .ref a2, .ref a3, .ref a4, .ref a5, .ref a6, .ref a7, .long 0, .int 0, .int an])), (a6, .inl (0, 961, .inl f6))] := hR.app qF (by intro i j p q hp hq; exact ax_hs.apart2 hF [1, 4] [0, 2, 3] (by decide) rfl rfl hp hq)
    exact ar_ret d_137_84 rfl (⟨k', t2, 1, rfl, hk', ht2, hF3.sub [2, 0, 3, 4, 1] rfl rfl, hN3, qn2, qs2, hf.tr (qf2.mono (fun x hx => Or.inr hx))⟩)
theorem c_136F {L : Nat} {xs : Nat → Int32} {fr lo : Nat} {h : ax_H} {nd rk nt dk ld tg da db dc dd nn gg o : Nat} {C me up ne ns : Int32} {f : Nat → Int32} (hfr : 2 ≤ fr) (hlo : 60 ≤ lo) (hgg : gg ≤ 16) (hg1 : 0 < gg) (hnn : nn ≤ 6) (hl : ¬ nof f 0 ns nn 0 0 = me) (hF : ax_hs h [(nd, .inr (7, [.int me, .ref rk, .ref nt, .ref dk, .ref ld, .ref tg, .int up, .int ne, .int ns])), (dk, .inr (8, [.ref da, .ref db, .ref dc, .ref dd, .int 0])), (rk, .inr (3, [.int (nI nn), .int C, .int (nI gg), .ref o])), (o, .inl (0, gg * nn, .inl f))]) : ax_M L xs 136 fr lo [.ref nd] h (fun r h' => r = none ∧ h' = h) := by
  show ax_A (ax_step L xs) ((136, 0, fr, lo), [(0, .ref nd)], [], h) _
  refine ar_aload_n 1 d_136_0 rfl rfl ?_
  refine ar_call (r := []) (na := 0) (kd := 0) (cm := 60) (fr2 := fr - 1) (lo2 := lo - 23) 4 d_136_1 (ar_hoV (as := []) rfl rfl rfl (hF.at 0 rfl)) rfl (by omega) (show lo - 23 + (19 + 4) = lo by omega) (Nat.le_of_ble_eq_true rfl) (Nat.le_of_ble_eq_true rfl) (c_60z (hF.sub (F' := [(nd, .inr (7, [.int me, .ref rk, .ref nt, .ref dk, .ref ld, .ref tg, .int up, .int ne, .int ns])), (dk, .inr (8, [.ref da, .ref db, .ref dc, .ref dd, .int 0]))]) [0, 1] rfl rfl)) ?_
  intro v hh hq
  obtain ⟨rfl, ehh⟩ := hq
  rw [ehh]
  clear ehh
  refine ar_aload_n 5 d_136_4 rfl rfl ?_
  refine ar_call (r := []) (na := 0) (kd := 0) (cm := 30) (fr2 := fr - 1) (lo2 := lo - 20) 8 d_136_5 (ar_hoV (as := []) rfl rfl rfl (hF.at 0 rfl)) rfl (by omega) (show lo - 20 + (19 + 1) = lo by omega) (Nat.le_of_ble_eq_true rfl) (Nat.le_of_ble_eq_true rfl) (c_30F (by omega) (by omega) hgg hg1 hnn hl (hF.sub (F' := [(nd, .inr (7, [.int me, .ref rk, .ref nt, .ref dk, .ref ld, .ref tg, .int up, .int ne, .int ns])), (rk, .inr (3, [.int (nI nn), .int C, .int (nI gg), .ref o])), (o, .inl (0, gg * nn, .inl f))]) [0, 2, 3] rfl rfl)) ?_
  intro v hh hq
  obtain ⟨rfl, ehh⟩ := hq
  rw [ehh]
  clear ehh
  refine ar_if_eq 25 11 d_136_8 (by decide) rfl (fun _ => ?_) (fun c => absurd (rfl) c)
  exact ar_ret d_136_25 rfl (⟨rfl, rfl⟩)
theorem c_136T {L : Nat} {xs : Nat → Int32} {fr lo : Nat} {h : ax_H} {nd dk tg da db dc dd ld rk nt tb wk ma sp wa wb a1 a2 a3 a4 a5 a6 a7 w q nn gg o k t : Nat} {C up ne ns me ep st hd cl md g an wo w5 w6 w7 w8 w9 w10 w11 w12 w13 w14 : Int32} {ak : Int64} {f f6 u b : Nat → Int32} {P : (Nat → Int32) → Prop} (hfr : 3 ≤ fr) (hlo : 120 ≤ lo) (hgg : gg ≤ 16) (hg1 : 0 < gg) (hnn : nn ≤ 6) (hn3 : 0 < nn) (hn0 : 0 < h.1) (hl : nof f 0 ns nn 0 0 = me) (hk : k < 961) (ht : t < nn) (hv : ∀ i, i < 961 → f6 i < 0) (hA_nd : ¬ NTA nt w nd) (hA_ld : ¬ NTA nt w ld) (hA_wk : ¬ NTA nt w wk) (hA_tb : ¬ NTA nt w tb) (hA_a6 : ¬ NTA nt w a6) (hA_rk : ¬ NTA nt w rk) (hP : ∀ n, n < nn → P (mg 4 me (nI n) ep st)) (hN : NTP h nt w P q u b) (hF : ax_hs h [(nd, .inr (7, [.int me, .ref rk, .ref nt, .ref dk, .ref ld, .ref tg, .int up, .int ne, .int ns])), (dk, .inr (8, [.ref da, .ref db, .ref dc, .ref dd, .int 0])), (o, .inl (0, gg * nn, .inl f)), (ld, .inr (9, [.int me, .ref rk, .ref nt, .ref tb, .ref wk, .ref ma, .ref sp, .int ep, .int st, .int hd, .int cl, .long ak, .int (nI k), .int (nI t), .int md])), (wk, .inr (10, [.ref tb, .ref wa, .ref wb, .int 0, .int wo, .int w5, .int w6, .int w7, .int w8, .int w9, .int w10, .int w11, .int w12, .int w13, .int w14])), (tb, .inr (6, [.int g, .ref a1, .ref a2, .ref a3, .ref a4, .ref a5, .ref a6, .ref a7, .long 0, .int 0, .int an])), (a6, .inl (0, 961, .inl f6)), (rk, .inr (3, [.int (nI nn), .int C, .int (nI gg), .ref o]))]) : ax_M L xs 136 fr lo [.ref nd] h (fun r h' => ∃ k' t' md', r = none ∧ k' < 961 ∧ t' < nn ∧ ax_hs h' [(ld, .inr (9, [.int me, .ref rk, .ref nt, .ref tb, .ref wk, .ref ma, .ref sp, .int ep, .int st, .int hd, .int cl, .long 0, .int (nI k'), .int (nI t'), .int md'])), (wk, .inr (10, [.ref tb, .ref wa, .ref wb, .int 0, .int wo, .int w5, .int w6, .int w7, .int w8, .int w9, .int w10, .int w11, .int w12, .int w13, .int w14])), (tb, .inr (6, [.int g, .ref a1, .ref a2, .ref a3, .ref a4, .ref a5, .ref a6, .ref a7, .long 0, .int 0, .int an])), (a6, .inl (0, 961, .inl f6)), (rk, .inr (3, [.int (nI nn), .int C, .int (nI gg), .ref o]))] ∧ NTP h' nt w P q u b ∧ h'.1 = h.1 ∧ h'.2.1 = h.2.1 ∧ ax_fr (fun x => NTA nt w x ∨ x ∈ [ld]) h h') := by
  show ax_A (ax_step L xs) ((136, 0, fr, lo), [(0, .ref nd)], [], h) _
  refine ar_aload_n 1 d_136_0 rfl rfl ?_
  refine ar_call (r := []) (na := 0) (kd := 0) (cm := 60) (fr2 := fr - 1) (lo2 := lo - 23) 4 d_136_1 (ar_hoV (as := []) rfl rfl rfl (hF.at 0 rfl)) rfl (by omega) (show lo - 23 + (19 + 4) = lo by omega) (Nat.le_of_ble_eq_true rfl) (Nat.le_of_ble_eq_true rfl) (c_60z (hF.sub (F' := [(nd, .inr (7, [.int me, .ref rk, .ref nt, .ref dk, .ref ld, .ref tg, .int up, .int ne, .int ns])), (dk, .inr (8, [.ref da, .ref db, .ref dc, .ref dd, .int 0]))]) [0, 1] rfl rfl)) ?_
  intro v hh hq
  obtain ⟨rfl, ehh⟩ := hq
  rw [ehh]
  clear ehh
  refine ar_aload_n 5 d_136_4 rfl rfl ?_
  refine ar_call (r := []) (na := 0) (kd := 0) (cm := 30) (fr2 := fr - 1) (lo2 := lo - 20) 8 d_136_5 (ar_hoV (as := []) rfl rfl rfl (hF.at 0 rfl)) rfl (by omega) (show lo - 20 + (19 + 1) = lo by omega) (Nat.le_of_ble_eq_true rfl) (Nat.le_of_ble_eq_true rfl) (c_30T (by omega) (by omega) hgg hg1 hnn hl (hF.sub (F' := [(nd, .inr (7, [.int me, .ref rk, .ref nt, .ref dk, .ref ld, .ref tg, .int up, .int ne, .int ns])), (rk, .inr (3, [.int (nI nn), .int C, .int (nI gg), .ref o])), (o, .inl (0, gg * nn, .inl f))]) [0, 7, 2] rfl rfl)) ?_
  intro v hh hq
  obtain ⟨rfl, ehh⟩ := hq
  rw [ehh]
  clear ehh
  refine ar_if_eq 25 11 d_136_8 (by decide) rfl (fun c => absurd c (by decide)) (fun _ => ?_)
  refine ar_aload_n 12 d_136_11 rfl rfl ?_
  refine ar_getf 15 d_136_12 rfl (ci := 7) (k := 4) rfl (hF.at 0 rfl) rfl ?_
  refine ar_call (r := []) (na := 0) (kd := 0) (cm := 137) (fr2 := fr - 1) (lo2 := lo - 20) 18 d_136_15 (ar_hoV (as := []) rfl rfl rfl (hF.at 3 rfl)) rfl (by omega) (show lo - 20 + (19 + 1) = lo by omega) (Nat.le_of_ble_eq_true rfl) (Nat.le_of_ble_eq_true rfl) (c_137P (by omega) (by omega) hnn hn3 hk ht hv hA_ld hA_wk hA_tb hA_a6 hA_rk hP hN (hF.sub (F' := [(ld, .inr (9, [.int me, .ref rk, .ref nt, .ref tb, .ref wk, .ref ma, .ref sp, .int ep, .int st, .int hd, .int cl, .long ak, .int (nI k), .int (nI t), .int md])), (wk, .inr (10, [.ref tb, .ref wa, .ref wb, .int 0, .int wo, .int w5, .int w6, .int w7, .int w8, .int w9, .int w10, .int w11, .int w12, .int w13, .int w14])), (tb, .inr (6, [.int g, .ref a1, .ref a2, .ref a3, .ref a4, .ref a5, .ref a6, .ref a7, .long 0, .int 0, .int an])), (a6, .inl (0, 961, .inl f6)), (rk, .inr (3, [.int (nI nn), .int C, .int (nI gg), .ref o]))]) [3, 4, 5, 6, 7] rfl rfl) rfl rfl hn0) ?_
  intro v h9 hq
  obtain ⟨k', t', md', rfl, hk', ht', qF, hN2, qn, qs, qf⟩ := hq
  have hR := (hF.sub (F' := [(nd, .inr (7, [.int me, .ref rk, .ref nt, .ref dk, .ref ld, .ref tg, .int up, .int ne, .int ns]))]) [0] rfl rfl).fr qf (by intro x hx z; simp at hx; subst hx; rcases z with z | z; exact hA_nd z; exact ax_hs.apart hF 0 [3] (by decide) rfl rfl z)
  refine ar_aload_n 19 d_136_18 rfl rfl ?_
  refine ar_getf 22 d_136_19 rfl (ci := 7) (k := 4) rfl (hR.at 0 rfl) rfl ?_
  refine ar_call (r := []) (na := 0) (kd := 0) (cm := 91) (fr2 := fr - 1) (lo2 := lo - 21) 25 d_136_22 (ar_hoV (as := []) rfl rfl rfl (qF.at 0 rfl)) rfl (by omega) (show lo - 21 + (19 + 2) = lo by omega) (Nat.le_of_ble_eq_true rfl) (Nat.le_of_ble_eq_true rfl) (c_910 (qF.sub (F' := [(ld, .inr (9, [.int me, .ref rk, .ref nt, .ref tb, .ref wk, .ref ma, .ref sp, .int ep, .int st, .int hd, .int cl, .long 0, .int (nI k'), .int (nI t'), .int md'])), (wk, .inr (10, [.ref tb, .ref wa, .ref wb, .int 0, .int wo, .int w5, .int w6, .int w7, .int w8, .int w9, .int w10, .int w11, .int w12, .int w13, .int w14]))]) [0, 1] rfl rfl)) ?_
  intro v hh hq
  obtain ⟨rfl, ehh⟩ := hq
  rw [ehh]
  clear ehh
  exact ar_ret d_136_25 rfl (⟨k', t', md', rfl, hk', ht', qF, hN2, qn, qs, qf⟩)

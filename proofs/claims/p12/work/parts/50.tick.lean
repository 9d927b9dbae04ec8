/-! a TICK of a quiet NODE -/
theorem d_60_0 : decode (axt_b 60) 0 = .ok (.aload_n 0, 1) := by decide +kernel
theorem d_60_1 : decode (axt_b 60) 1 = .ok (.getfield 12, 3) := by decide +kernel
theorem d_60_4 : decode (axt_b 60) 4 = .ok (.getfield 166, 3) := by decide +kernel
theorem d_60_7 : decode (axt_b 60) 7 = .ok (.ifCond .ne 4, 3) := by decide +kernel
theorem d_60_10 : decode (axt_b 60) 10 = .ok (.return_, 1) := by decide +kernel
theorem d_60_11 : decode (axt_b 60) 11 = .ok (.aload_n 0, 1) := by decide +kernel
theorem d_60_12 : decode (axt_b 60) 12 = .ok (.getfield 30, 3) := by decide +kernel
theorem d_60_15 : decode (axt_b 60) 15 = .ok (.bipush 11, 2) := by decide +kernel
theorem d_60_17 : decode (axt_b 60) 17 = .ok (.aload_n 0, 1) := by decide +kernel
theorem d_60_18 : decode (axt_b 60) 18 = .ok (.getfield 22, 3) := by decide +kernel
theorem d_60_21 : decode (axt_b 60) 21 = .ok (.aload_n 0, 1) := by decide +kernel
theorem d_60_22 : decode (axt_b 60) 22 = .ok (.getfield 26, 3) := by decide +kernel
theorem d_60_25 : decode (axt_b 60) 25 = .ok (.iconst 0, 1) := by decide +kernel
theorem d_60_26 : decode (axt_b 60) 26 = .ok (.iconst 0, 1) := by decide +kernel
theorem d_60_27 : decode (axt_b 60) 27 = .ok (.aload_n 0, 1) := by decide +kernel
theorem d_60_28 : decode (axt_b 60) 28 = .ok (.getfield 91, 3) := by decide +kernel
theorem d_60_31 : decode (axt_b 60) 31 = .ok (.invokevirtual 100, 3) := by decide +kernel
theorem d_60_34 : decode (axt_b 60) 34 = .ok (.aload_n 0, 1) := by decide +kernel
theorem d_60_35 : decode (axt_b 60) 35 = .ok (.getfield 88, 3) := by decide +kernel
theorem d_60_38 : decode (axt_b 60) 38 = .ok (.aload_n 0, 1) := by decide +kernel
theorem d_60_39 : decode (axt_b 60) 39 = .ok (.getfield 91, 3) := by decide +kernel
theorem d_60_42 : decode (axt_b 60) 42 = .ok (.invokevirtual 125, 3) := by decide +kernel
theorem d_60_45 : decode (axt_b 60) 45 = .ok (.astore_n 1, 1) := by decide +kernel
theorem d_60_46 : decode (axt_b 60) 46 = .ok (.iconst 0, 1) := by decide +kernel
theorem d_60_47 : decode (axt_b 60) 47 = .ok (.istore_n 2, 1) := by decide +kernel
theorem d_60_48 : decode (axt_b 60) 48 = .ok (.iload_n 2, 1) := by decide +kernel
theorem d_60_49 : decode (axt_b 60) 49 = .ok (.aload_n 0, 1) := by decide +kernel
theorem d_60_50 : decode (axt_b 60) 50 = .ok (.getfield 12, 3) := by decide +kernel
theorem d_60_53 : decode (axt_b 60) 53 = .ok (.getfield 166, 3) := by decide +kernel
theorem d_60_56 : decode (axt_b 60) 56 = .ok (.if_icmp .ge 47, 3) := by decide +kernel
theorem d_60_59 : decode (axt_b 60) 59 = .ok (.aload_n 0, 1) := by decide +kernel
theorem d_60_60 : decode (axt_b 60) 60 = .ok (.getfield 18, 3) := by decide +kernel
theorem d_60_63 : decode (axt_b 60) 63 = .ok (.aload_n 0, 1) := by decide +kernel
theorem d_60_64 : decode (axt_b 60) 64 = .ok (.getfield 12, 3) := by decide +kernel
theorem d_60_67 : decode (axt_b 60) 67 = .ok (.iload_n 2, 1) := by decide +kernel
theorem d_60_68 : decode (axt_b 60) 68 = .ok (.invokevirtual 184, 3) := by decide +kernel
theorem d_60_71 : decode (axt_b 60) 71 = .ok (.iaload, 1) := by decide +kernel
theorem d_60_72 : decode (axt_b 60) 72 = .ok (.istore_n 3, 1) := by decide +kernel
theorem d_60_73 : decode (axt_b 60) 73 = .ok (.iload_n 3, 1) := by decide +kernel
theorem d_60_74 : decode (axt_b 60) 74 = .ok (.ifCond .lt 23, 3) := by decide +kernel
theorem d_60_77 : decode (axt_b 60) 77 = .ok (.aload_n 1, 1) := by decide +kernel
theorem d_60_78 : decode (axt_b 60) 78 = .ok (.getfield 160, 3) := by decide +kernel
theorem d_60_81 : decode (axt_b 60) 81 = .ok (.aload_n 1, 1) := by decide +kernel
theorem d_60_82 : decode (axt_b 60) 82 = .ok (.getfield 163, 3) := by decide +kernel
theorem d_60_85 : decode (axt_b 60) 85 = .ok (.iload_n 3, 1) := by decide +kernel
theorem d_60_86 : decode (axt_b 60) 86 = .ok (.iastore, 1) := by decide +kernel
theorem d_60_87 : decode (axt_b 60) 87 = .ok (.aload_n 1, 1) := by decide +kernel
theorem d_60_88 : decode (axt_b 60) 88 = .ok (.dup, 1) := by decide +kernel
theorem d_60_89 : decode (axt_b 60) 89 = .ok (.getfield 163, 3) := by decide +kernel
theorem d_60_92 : decode (axt_b 60) 92 = .ok (.iconst 1, 1) := by decide +kernel
theorem d_60_93 : decode (axt_b 60) 93 = .ok (.iadd, 1) := by decide +kernel
theorem d_60_94 : decode (axt_b 60) 94 = .ok (.putfield 163, 3) := by decide +kernel
theorem d_60_97 : decode (axt_b 60) 97 = .ok (.iinc 2 1, 3) := by decide +kernel
theorem d_60_100 : decode (axt_b 60) 100 = .ok (.goto (-52), 3) := by decide +kernel
theorem d_60_103 : decode (axt_b 60) 103 = .ok (.aload_n 0, 1) := by decide +kernel
theorem d_60_104 : decode (axt_b 60) 104 = .ok (.getfield 12, 3) := by decide +kernel
theorem d_60_107 : decode (axt_b 60) 107 = .ok (.invokevirtual 81, 3) := by decide +kernel
theorem d_60_110 : decode (axt_b 60) 110 = .ok (.return_, 1) := by decide +kernel
theorem d_125_0 : decode (axt_b 125) 0 = .ok (.aload_n 0, 1) := by decide +kernel
theorem d_125_1 : decode (axt_b 125) 1 = .ok (.getfield 49, 3) := by decide +kernel
theorem d_125_4 : decode (axt_b 125) 4 = .ok (.getfield 72, 3) := by decide +kernel
theorem d_125_7 : decode (axt_b 125) 7 = .ok (.iconst 2, 1) := by decide +kernel
theorem d_125_8 : decode (axt_b 125) 8 = .ok (.if_icmp .ne 32, 3) := by decide +kernel
theorem d_125_11 : decode (axt_b 125) 11 = .ok (.iconst 0, 1) := by decide +kernel
theorem d_125_12 : decode (axt_b 125) 12 = .ok (.istore_n 1, 1) := by decide +kernel
theorem d_125_13 : decode (axt_b 125) 13 = .ok (.iload_n 1, 1) := by decide +kernel
theorem d_125_14 : decode (axt_b 125) 14 = .ok (.bipush 6, 2) := by decide +kernel
theorem d_125_16 : decode (axt_b 125) 16 = .ok (.if_icmp .ge 21, 3) := by decide +kernel
theorem d_125_19 : decode (axt_b 125) 19 = .ok (.aload_n 0, 1) := by decide +kernel
theorem d_125_20 : decode (axt_b 125) 20 = .ok (.aload_n 0, 1) := by decide +kernel
theorem d_125_21 : decode (axt_b 125) 21 = .ok (.getfield 49, 3) := by decide +kernel
theorem d_125_24 : decode (axt_b 125) 24 = .ok (.iload_n 1, 1) := by decide +kernel
theorem d_125_25 : decode (axt_b 125) 25 = .ok (.invokevirtual 228, 3) := by decide +kernel
theorem d_125_28 : decode (axt_b 125) 28 = .ok (.invokevirtual 231, 3) := by decide +kernel
theorem d_125_31 : decode (axt_b 125) 31 = .ok (.iinc 1 1, 3) := by decide +kernel
theorem d_125_34 : decode (axt_b 125) 34 = .ok (.goto (-21), 3) := by decide +kernel
theorem d_125_37 : decode (axt_b 125) 37 = .ok (.goto 53, 3) := by decide +kernel
theorem d_125_40 : decode (axt_b 125) 40 = .ok (.aload_n 0, 1) := by decide +kernel
theorem d_125_41 : decode (axt_b 125) 41 = .ok (.getfield 49, 3) := by decide +kernel
theorem d_125_44 : decode (axt_b 125) 44 = .ok (.getfield 72, 3) := by decide +kernel
theorem d_125_47 : decode (axt_b 125) 47 = .ok (.iconst 3, 1) := by decide +kernel
theorem d_125_48 : decode (axt_b 125) 48 = .ok (.if_icmp .ne 25, 3) := by decide +kernel
theorem d_125_51 : decode (axt_b 125) 51 = .ok (.iconst 0, 1) := by decide +kernel
theorem d_125_52 : decode (axt_b 125) 52 = .ok (.istore_n 1, 1) := by decide +kernel
theorem d_125_53 : decode (axt_b 125) 53 = .ok (.iload_n 1, 1) := by decide +kernel
theorem d_125_54 : decode (axt_b 125) 54 = .ok (.bipush 8, 2) := by decide +kernel
theorem d_125_56 : decode (axt_b 125) 56 = .ok (.if_icmp .ge 14, 3) := by decide +kernel
theorem d_125_59 : decode (axt_b 125) 59 = .ok (.aload_n 0, 1) := by decide +kernel
theorem d_125_60 : decode (axt_b 125) 60 = .ok (.iload_n 1, 1) := by decide +kernel
theorem d_125_61 : decode (axt_b 125) 61 = .ok (.invokevirtual 234, 3) := by decide +kernel
theorem d_125_64 : decode (axt_b 125) 64 = .ok (.iinc 1 1, 3) := by decide +kernel
theorem d_125_67 : decode (axt_b 125) 67 = .ok (.goto (-14), 3) := by decide +kernel
theorem d_125_70 : decode (axt_b 125) 70 = .ok (.goto 20, 3) := by decide +kernel
theorem d_125_73 : decode (axt_b 125) 73 = .ok (.aload_n 0, 1) := by decide +kernel
theorem d_125_74 : decode (axt_b 125) 74 = .ok (.getfield 49, 3) := by decide +kernel
theorem d_125_77 : decode (axt_b 125) 77 = .ok (.getfield 72, 3) := by decide +kernel
theorem d_125_80 : decode (axt_b 125) 80 = .ok (.iconst 4, 1) := by decide +kernel
theorem d_125_81 : decode (axt_b 125) 81 = .ok (.if_icmp .ne 9, 3) := by decide +kernel
theorem d_125_84 : decode (axt_b 125) 84 = .ok (.aload_n 0, 1) := by decide +kernel
theorem d_125_85 : decode (axt_b 125) 85 = .ok (.bipush 8, 2) := by decide +kernel
theorem d_125_87 : decode (axt_b 125) 87 = .ok (.invokevirtual 234, 3) := by decide +kernel
theorem d_125_90 : decode (axt_b 125) 90 = .ok (.return_, 1) := by decide +kernel
theorem d_136_0 : decode (axt_b 136) 0 = .ok (.aload_n 0, 1) := by decide +kernel
theorem d_136_1 : decode (axt_b 136) 1 = .ok (.invokevirtual 106, 3) := by decide +kernel
theorem d_136_4 : decode (axt_b 136) 4 = .ok (.aload_n 0, 1) := by decide +kernel
theorem d_136_5 : decode (axt_b 136) 5 = .ok (.invokevirtual 94, 3) := by decide +kernel
theorem d_136_8 : decode (axt_b 136) 8 = .ok (.ifCond .eq 17, 3) := by decide +kernel
theorem d_136_11 : decode (axt_b 136) 11 = .ok (.aload_n 0, 1) := by decide +kernel
theorem d_136_12 : decode (axt_b 136) 12 = .ok (.getfield 39, 3) := by decide +kernel
theorem d_136_15 : decode (axt_b 136) 15 = .ok (.invokevirtual 109, 3) := by decide +kernel
theorem d_136_18 : decode (axt_b 136) 18 = .ok (.aload_n 0, 1) := by decide +kernel
theorem d_136_19 : decode (axt_b 136) 19 = .ok (.getfield 39, 3) := by decide +kernel
theorem d_136_22 : decode (axt_b 136) 22 = .ok (.invokevirtual 112, 3) := by decide +kernel
theorem d_136_25 : decode (axt_b 136) 25 = .ok (.return_, 1) := by decide +kernel
theorem d_137_0 : decode (axt_b 137) 0 = .ok (.aload_n 0, 1) := by decide +kernel
theorem d_137_1 : decode (axt_b 137) 1 = .ok (.lconst 0, 1) := by decide +kernel
theorem d_137_2 : decode (axt_b 137) 2 = .ok (.putfield 84, 3) := by decide +kernel
theorem d_137_5 : decode (axt_b 137) 5 = .ok (.aload_n 0, 1) := by decide +kernel
theorem d_137_6 : decode (axt_b 137) 6 = .ok (.aload_n 0, 1) := by decide +kernel
theorem d_137_7 : decode (axt_b 137) 7 = .ok (.getfield 91, 3) := by decide +kernel
theorem d_137_10 : decode (axt_b 137) 10 = .ok (.iconst 1, 1) := by decide +kernel
theorem d_137_11 : decode (axt_b 137) 11 = .ok (.iadd, 1) := by decide +kernel
theorem d_137_12 : decode (axt_b 137) 12 = .ok (.aload_n 0, 1) := by decide +kernel
theorem d_137_13 : decode (axt_b 137) 13 = .ok (.getfield 22, 3) := by decide +kernel
theorem d_137_16 : decode (axt_b 137) 16 = .ok (.getfield 98, 3) := by decide +kernel
theorem d_137_19 : decode (axt_b 137) 19 = .ok (.irem, 1) := by decide +kernel
theorem d_137_20 : decode (axt_b 137) 20 = .ok (.putfield 91, 3) := by decide +kernel
theorem d_137_23 : decode (axt_b 137) 23 = .ok (.aload_n 0, 1) := by decide +kernel
theorem d_137_24 : decode (axt_b 137) 24 = .ok (.getfield 49, 3) := by decide +kernel
theorem d_137_27 : decode (axt_b 137) 27 = .ok (.getfield 72, 3) := by decide +kernel
theorem d_137_30 : decode (axt_b 137) 30 = .ok (.iconst 3, 1) := by decide +kernel
theorem d_137_31 : decode (axt_b 137) 31 = .ok (.if_icmp .eq 18, 3) := by decide +kernel
theorem d_137_34 : decode (axt_b 137) 34 = .ok (.aload_n 0, 1) := by decide +kernel
theorem d_137_35 : decode (axt_b 137) 35 = .ok (.getfield 49, 3) := by decide +kernel
theorem d_137_38 : decode (axt_b 137) 38 = .ok (.getfield 72, 3) := by decide +kernel
theorem d_137_41 : decode (axt_b 137) 41 = .ok (.iconst 4, 1) := by decide +kernel
theorem d_137_42 : decode (axt_b 137) 42 = .ok (.if_icmp .eq 7, 3) := by decide +kernel
theorem d_137_45 : decode (axt_b 137) 45 = .ok (.aload_n 0, 1) := by decide +kernel
theorem d_137_46 : decode (axt_b 137) 46 = .ok (.invokevirtual 66, 3) := by decide +kernel
theorem d_137_49 : decode (axt_b 137) 49 = .ok (.aload_n 0, 1) := by decide +kernel
theorem d_137_50 : decode (axt_b 137) 50 = .ok (.invokevirtual 107, 3) := by decide +kernel
theorem d_137_53 : decode (axt_b 137) 53 = .ok (.aload_n 0, 1) := by decide +kernel
theorem d_137_54 : decode (axt_b 137) 54 = .ok (.getfield 49, 3) := by decide +kernel
theorem d_137_57 : decode (axt_b 137) 57 = .ok (.invokevirtual 110, 3) := by decide +kernel
theorem d_137_60 : decode (axt_b 137) 60 = .ok (.ifCond .ne 24, 3) := by decide +kernel
theorem d_137_63 : decode (axt_b 137) 63 = .ok (.aload_n 0, 1) := by decide +kernel
theorem d_137_64 : decode (axt_b 137) 64 = .ok (.getfield 40, 3) := by decide +kernel
theorem d_137_67 : decode (axt_b 137) 67 = .ok (.invokevirtual 114, 3) := by decide +kernel
theorem d_137_70 : decode (axt_b 137) 70 = .ok (.ifCond .eq 14, 3) := by decide +kernel
theorem d_137_73 : decode (axt_b 137) 73 = .ok (.aload_n 0, 1) := by decide +kernel
theorem d_137_74 : decode (axt_b 137) 74 = .ok (.getfield 94, 3) := by decide +kernel
theorem d_137_77 : decode (axt_b 137) 77 = .ok (.ifCond .ne 7, 3) := by decide +kernel
theorem d_137_80 : decode (axt_b 137) 80 = .ok (.aload_n 0, 1) := by decide +kernel
theorem d_137_81 : decode (axt_b 137) 81 = .ok (.invokevirtual 117, 3) := by decide +kernel
theorem d_137_84 : decode (axt_b 137) 84 = .ok (.return_, 1) := by decide +kernel
theorem d_138_0 : decode (axt_b 138) 0 = .ok (.iconst 0, 1) := by decide +kernel
theorem d_138_1 : decode (axt_b 138) 1 = .ok (.istore_n 1, 1) := by decide +kernel
theorem d_138_2 : decode (axt_b 138) 2 = .ok (.aload_n 0, 1) := by decide +kernel
theorem d_138_3 : decode (axt_b 138) 3 = .ok (.iconst 1, 1) := by decide +kernel
theorem d_138_4 : decode (axt_b 138) 4 = .ok (.putfield 94, 3) := by decide +kernel
theorem d_138_7 : decode (axt_b 138) 7 = .ok (.iconst 0, 1) := by decide +kernel
theorem d_138_8 : decode (axt_b 138) 8 = .ok (.istore_n 2, 1) := by decide +kernel
theorem d_138_9 : decode (axt_b 138) 9 = .ok (.iload_n 2, 1) := by decide +kernel
theorem d_138_10 : decode (axt_b 138) 10 = .ok (.sipush 961, 3) := by decide +kernel
theorem d_138_13 : decode (axt_b 138) 13 = .ok (.if_icmp .ge 97, 3) := by decide +kernel
theorem d_138_16 : decode (axt_b 138) 16 = .ok (.iload_n 1, 1) := by decide +kernel
theorem d_138_17 : decode (axt_b 138) 17 = .ok (.bipush 24, 2) := by decide +kernel
theorem d_138_19 : decode (axt_b 138) 19 = .ok (.if_icmp .ge 91, 3) := by decide +kernel
theorem d_138_22 : decode (axt_b 138) 22 = .ok (.aload_n 0, 1) := by decide +kernel
theorem d_138_23 : decode (axt_b 138) 23 = .ok (.getfield 88, 3) := by decide +kernel
theorem d_138_26 : decode (axt_b 138) 26 = .ok (.istore_n 3, 1) := by decide +kernel
theorem d_138_27 : decode (axt_b 138) 27 = .ok (.aload_n 0, 1) := by decide +kernel
theorem d_138_28 : decode (axt_b 138) 28 = .ok (.aload_n 0, 1) := by decide +kernel
theorem d_138_29 : decode (axt_b 138) 29 = .ok (.getfield 88, 3) := by decide +kernel
theorem d_138_32 : decode (axt_b 138) 32 = .ok (.iconst 1, 1) := by decide +kernel
theorem d_138_33 : decode (axt_b 138) 33 = .ok (.iadd, 1) := by decide +kernel
theorem d_138_34 : decode (axt_b 138) 34 = .ok (.sipush 961, 3) := by decide +kernel
theorem d_138_37 : decode (axt_b 138) 37 = .ok (.irem, 1) := by decide +kernel
theorem d_138_38 : decode (axt_b 138) 38 = .ok (.putfield 88, 3) := by decide +kernel
theorem d_138_41 : decode (axt_b 138) 41 = .ok (.aload_n 0, 1) := by decide +kernel
theorem d_138_42 : decode (axt_b 138) 42 = .ok (.getfield 40, 3) := by decide +kernel
theorem d_138_45 : decode (axt_b 138) 45 = .ok (.getfield 174, 3) := by decide +kernel
theorem d_138_48 : decode (axt_b 138) 48 = .ok (.iload_n 3, 1) := by decide +kernel
theorem d_138_49 : decode (axt_b 138) 49 = .ok (.iaload, 1) := by decide +kernel
theorem d_138_50 : decode (axt_b 138) 50 = .ok (.ifCond .lt 54, 3) := by decide +kernel
theorem d_138_53 : decode (axt_b 138) 53 = .ok (.aload_n 0, 1) := by decide +kernel
theorem d_138_54 : decode (axt_b 138) 54 = .ok (.iload_n 3, 1) := by decide +kernel
theorem d_138_55 : decode (axt_b 138) 55 = .ok (.invokevirtual 192, 3) := by decide +kernel
theorem d_138_58 : decode (axt_b 138) 58 = .ok (.ifCond .ne 46, 3) := by decide +kernel
theorem d_138_61 : decode (axt_b 138) 61 = .ok (.aload_n 0, 1) := by decide +kernel
theorem d_138_62 : decode (axt_b 138) 62 = .ok (.iconst 0, 1) := by decide +kernel
theorem d_138_63 : decode (axt_b 138) 63 = .ok (.putfield 94, 3) := by decide +kernel
theorem d_138_66 : decode (axt_b 138) 66 = .ok (.iload_n 1, 1) := by decide +kernel
theorem d_138_67 : decode (axt_b 138) 67 = .ok (.aload_n 0, 1) := by decide +kernel
theorem d_138_68 : decode (axt_b 138) 68 = .ok (.aload_n 0, 1) := by decide +kernel
theorem d_138_69 : decode (axt_b 138) 69 = .ok (.getfield 9, 3) := by decide +kernel
theorem d_138_72 : decode (axt_b 138) 72 = .ok (.aload_n 0, 1) := by decide +kernel
theorem d_138_73 : decode (axt_b 138) 73 = .ok (.getfield 40, 3) := by decide +kernel
theorem d_138_76 : decode (axt_b 138) 76 = .ok (.iload_n 3, 1) := by decide +kernel
theorem d_138_77 : decode (axt_b 138) 77 = .ok (.invokevirtual 170, 3) := by decide +kernel
theorem d_138_80 : decode (axt_b 138) 80 = .ok (.iaload, 1) := by decide +kernel
theorem d_138_81 : decode (axt_b 138) 81 = .ok (.aload_n 0, 1) := by decide +kernel
theorem d_138_82 : decode (axt_b 138) 82 = .ok (.getfield 40, 3) := by decide +kernel
theorem d_138_85 : decode (axt_b 138) 85 = .ok (.getfield 177, 3) := by decide +kernel
theorem d_138_88 : decode (axt_b 138) 88 = .ok (.iload_n 3, 1) := by decide +kernel
theorem d_138_89 : decode (axt_b 138) 89 = .ok (.iaload, 1) := by decide +kernel
theorem d_138_90 : decode (axt_b 138) 90 = .ok (.iconst (-1), 1) := by decide +kernel
theorem d_138_91 : decode (axt_b 138) 91 = .ok (.ixor, 1) := by decide +kernel
theorem d_138_92 : decode (axt_b 138) 92 = .ok (.iand, 1) := by decide +kernel
theorem d_138_93 : decode (axt_b 138) 93 = .ok (.aload_n 0, 1) := by decide +kernel
theorem d_138_94 : decode (axt_b 138) 94 = .ok (.getfield 78, 3) := by decide +kernel
theorem d_138_97 : decode (axt_b 138) 97 = .ok (.iand, 1) := by decide +kernel
theorem d_138_98 : decode (axt_b 138) 98 = .ok (.iload_n 3, 1) := by decide +kernel
theorem d_138_99 : decode (axt_b 138) 99 = .ok (.invokevirtual 243, 3) := by decide +kernel
theorem d_138_102 : decode (axt_b 138) 102 = .ok (.iadd, 1) := by decide +kernel
theorem d_138_103 : decode (axt_b 138) 103 = .ok (.istore_n 1, 1) := by decide +kernel
theorem d_138_104 : decode (axt_b 138) 104 = .ok (.iinc 2 1, 3) := by decide +kernel
theorem d_138_107 : decode (axt_b 138) 107 = .ok (.goto (-98), 3) := by decide +kernel
theorem d_138_110 : decode (axt_b 138) 110 = .ok (.return_, 1) := by decide +kernel

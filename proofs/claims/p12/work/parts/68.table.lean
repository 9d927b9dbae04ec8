/-! Table and Bytes, exactly: compare, named, firstAfter, total, laidOf, knows, versionOf, isRoot, isStripe, renew, setName, copyName -/
theorem d_78_0 : decode (axt_b 78) 0 = .ok (.iload_n 0, 1) := by decide +kernel
theorem d_78_1 : decode (axt_b 78) 1 = .ok (.sipush 512, 3) := by decide +kernel
theorem d_78_4 : decode (axt_b 78) 4 = .ok (.irem, 1) := by decide +kernel
theorem d_78_5 : decode (axt_b 78) 5 = .ok (.ireturn, 1) := by decide +kernel
theorem d_81_0 : decode (axt_b 81) 0 = .ok (.aload_n 0, 1) := by decide +kernel
theorem d_81_1 : decode (axt_b 81) 1 = .ok (.getfield 46, 3) := by decide +kernel
theorem d_81_4 : decode (axt_b 81) 4 = .ok (.iload_n 1, 1) := by decide +kernel
theorem d_81_5 : decode (axt_b 81) 5 = .ok (.lshr, 1) := by decide +kernel
theorem d_81_6 : decode (axt_b 81) 6 = .ok (.lconst 1, 1) := by decide +kernel
theorem d_81_7 : decode (axt_b 81) 7 = .ok (.land, 1) := by decide +kernel
theorem d_81_8 : decode (axt_b 81) 8 = .ok (.lconst 0, 1) := by decide +kernel
theorem d_81_9 : decode (axt_b 81) 9 = .ok (.lcmp, 1) := by decide +kernel
theorem d_81_10 : decode (axt_b 81) 10 = .ok (.ifCond .eq 7, 3) := by decide +kernel
theorem d_81_13 : decode (axt_b 81) 13 = .ok (.iconst 1, 1) := by decide +kernel
theorem d_81_14 : decode (axt_b 81) 14 = .ok (.goto 4, 3) := by decide +kernel
theorem d_81_17 : decode (axt_b 81) 17 = .ok (.iconst 0, 1) := by decide +kernel
theorem d_81_18 : decode (axt_b 81) 18 = .ok (.ireturn, 1) := by decide +kernel
theorem d_86_0 : decode (axt_b 86) 0 = .ok (.aload_n 2, 1) := by decide +kernel
theorem d_86_1 : decode (axt_b 86) 1 = .ok (.iload_n 3, 1) := by decide +kernel
theorem d_86_2 : decode (axt_b 86) 2 = .ok (.aload_n 0, 1) := by decide +kernel
theorem d_86_3 : decode (axt_b 86) 3 = .ok (.getfield 21, 3) := by decide +kernel
theorem d_86_6 : decode (axt_b 86) 6 = .ok (.iload_n 1, 1) := by decide +kernel
theorem d_86_7 : decode (axt_b 86) 7 = .ok (.bipush 50, 2) := by decide +kernel
theorem d_86_9 : decode (axt_b 86) 9 = .ok (.imul, 1) := by decide +kernel
theorem d_86_10 : decode (axt_b 86) 10 = .ok (.bipush 50, 2) := by decide +kernel
theorem d_86_12 : decode (axt_b 86) 12 = .ok (.invokestatic 68, 3) := by decide +kernel
theorem d_86_15 : decode (axt_b 86) 15 = .ok (.aload_n 0, 1) := by decide +kernel
theorem d_86_16 : decode (axt_b 86) 16 = .ok (.getfield 18, 3) := by decide +kernel
theorem d_86_19 : decode (axt_b 86) 19 = .ok (.iload_n 1, 1) := by decide +kernel
theorem d_86_20 : decode (axt_b 86) 20 = .ok (.iload 4, 2) := by decide +kernel
theorem d_86_22 : decode (axt_b 86) 22 = .ok (.iastore, 1) := by decide +kernel
theorem d_86_23 : decode (axt_b 86) 23 = .ok (.return_, 1) := by decide +kernel
theorem d_94_0 : decode (axt_b 94) 0 = .ok (.iconst 0, 1) := by decide +kernel
theorem d_94_1 : decode (axt_b 94) 1 = .ok (.istore 4, 2) := by decide +kernel
theorem d_94_3 : decode (axt_b 94) 3 = .ok (.iload 4, 2) := by decide +kernel
theorem d_94_5 : decode (axt_b 94) 5 = .ok (.bipush 48, 2) := by decide +kernel
theorem d_94_7 : decode (axt_b 94) 7 = .ok (.if_icmp .ge 52, 3) := by decide +kernel
theorem d_94_10 : decode (axt_b 94) 10 = .ok (.aload_n 0, 1) := by decide +kernel
theorem d_94_11 : decode (axt_b 94) 11 = .ok (.getfield 9, 3) := by decide +kernel
theorem d_94_14 : decode (axt_b 94) 14 = .ok (.iload 4, 2) := by decide +kernel
theorem d_94_16 : decode (axt_b 94) 16 = .ok (.iaload, 1) := by decide +kernel
theorem d_94_17 : decode (axt_b 94) 17 = .ok (.ifCond .lt 36, 3) := by decide +kernel
theorem d_94_20 : decode (axt_b 94) 20 = .ok (.aload_n 0, 1) := by decide +kernel
theorem d_94_21 : decode (axt_b 94) 21 = .ok (.getfield 18, 3) := by decide +kernel
theorem d_94_24 : decode (axt_b 94) 24 = .ok (.iload 4, 2) := by decide +kernel
theorem d_94_26 : decode (axt_b 94) 26 = .ok (.iaload, 1) := by decide +kernel
theorem d_94_27 : decode (axt_b 94) 27 = .ok (.iload_n 3, 1) := by decide +kernel
theorem d_94_28 : decode (axt_b 94) 28 = .ok (.if_icmp .ne 25, 3) := by decide +kernel
theorem d_94_31 : decode (axt_b 94) 31 = .ok (.aload_n 0, 1) := by decide +kernel
theorem d_94_32 : decode (axt_b 94) 32 = .ok (.getfield 21, 3) := by decide +kernel
theorem d_94_35 : decode (axt_b 94) 35 = .ok (.iload 4, 2) := by decide +kernel
theorem d_94_37 : decode (axt_b 94) 37 = .ok (.bipush 50, 2) := by decide +kernel
theorem d_94_39 : decode (axt_b 94) 39 = .ok (.imul, 1) := by decide +kernel
theorem d_94_40 : decode (axt_b 94) 40 = .ok (.iload_n 3, 1) := by decide +kernel
theorem d_94_41 : decode (axt_b 94) 41 = .ok (.aload_n 1, 1) := by decide +kernel
theorem d_94_42 : decode (axt_b 94) 42 = .ok (.iload_n 2, 1) := by decide +kernel
theorem d_94_43 : decode (axt_b 94) 43 = .ok (.iload_n 3, 1) := by decide +kernel
theorem d_94_44 : decode (axt_b 94) 44 = .ok (.invokestatic 62, 3) := by decide +kernel
theorem d_94_47 : decode (axt_b 94) 47 = .ok (.ifCond .ne 6, 3) := by decide +kernel
theorem d_94_50 : decode (axt_b 94) 50 = .ok (.iload 4, 2) := by decide +kernel
theorem d_94_52 : decode (axt_b 94) 52 = .ok (.ireturn, 1) := by decide +kernel
theorem d_94_53 : decode (axt_b 94) 53 = .ok (.iinc 4 1, 3) := by decide +kernel
theorem d_94_56 : decode (axt_b 94) 56 = .ok (.goto (-53), 3) := by decide +kernel
theorem d_94_59 : decode (axt_b 94) 59 = .ok (.iconst (-1), 1) := by decide +kernel
theorem d_94_60 : decode (axt_b 94) 60 = .ok (.ireturn, 1) := by decide +kernel
theorem d_95_0 : decode (axt_b 95) 0 = .ok (.iconst 0, 1) := by decide +kernel
theorem d_95_1 : decode (axt_b 95) 1 = .ok (.istore 6, 2) := by decide +kernel
theorem d_95_3 : decode (axt_b 95) 3 = .ok (.iload 6, 2) := by decide +kernel
theorem d_95_5 : decode (axt_b 95) 5 = .ok (.bipush 50, 2) := by decide +kernel
theorem d_95_7 : decode (axt_b 95) 7 = .ok (.if_icmp .ge 48, 3) := by decide +kernel
theorem d_95_10 : decode (axt_b 95) 10 = .ok (.aload_n 0, 1) := by decide +kernel
theorem d_95_11 : decode (axt_b 95) 11 = .ok (.iload_n 1, 1) := by decide +kernel
theorem d_95_12 : decode (axt_b 95) 12 = .ok (.iload 6, 2) := by decide +kernel
theorem d_95_14 : decode (axt_b 95) 14 = .ok (.iadd, 1) := by decide +kernel
theorem d_95_15 : decode (axt_b 95) 15 = .ok (.iaload, 1) := by decide +kernel
theorem d_95_16 : decode (axt_b 95) 16 = .ok (.aload_n 3, 1) := by decide +kernel
theorem d_95_17 : decode (axt_b 95) 17 = .ok (.iload 4, 2) := by decide +kernel
theorem d_95_19 : decode (axt_b 95) 19 = .ok (.iload 6, 2) := by decide +kernel
theorem d_95_21 : decode (axt_b 95) 21 = .ok (.iadd, 1) := by decide +kernel
theorem d_95_22 : decode (axt_b 95) 22 = .ok (.iaload, 1) := by decide +kernel
theorem d_95_23 : decode (axt_b 95) 23 = .ok (.if_icmp .eq 26, 3) := by decide +kernel
theorem d_95_26 : decode (axt_b 95) 26 = .ok (.aload_n 0, 1) := by decide +kernel
theorem d_95_27 : decode (axt_b 95) 27 = .ok (.iload_n 1, 1) := by decide +kernel
theorem d_95_28 : decode (axt_b 95) 28 = .ok (.iload 6, 2) := by decide +kernel
theorem d_95_30 : decode (axt_b 95) 30 = .ok (.iadd, 1) := by decide +kernel
theorem d_95_31 : decode (axt_b 95) 31 = .ok (.iaload, 1) := by decide +kernel
theorem d_95_32 : decode (axt_b 95) 32 = .ok (.ldc 17, 2) := by decide +kernel
theorem d_95_34 : decode (axt_b 95) 34 = .ok (.ixor, 1) := by decide +kernel
theorem d_95_35 : decode (axt_b 95) 35 = .ok (.aload_n 3, 1) := by decide +kernel
theorem d_95_36 : decode (axt_b 95) 36 = .ok (.iload 4, 2) := by decide +kernel
theorem d_95_38 : decode (axt_b 95) 38 = .ok (.iload 6, 2) := by decide +kernel
theorem d_95_40 : decode (axt_b 95) 40 = .ok (.iadd, 1) := by decide +kernel
theorem d_95_41 : decode (axt_b 95) 41 = .ok (.iaload, 1) := by decide +kernel
theorem d_95_42 : decode (axt_b 95) 42 = .ok (.ldc 17, 2) := by decide +kernel
theorem d_95_44 : decode (axt_b 95) 44 = .ok (.ixor, 1) := by decide +kernel
theorem d_95_45 : decode (axt_b 95) 45 = .ok (.invokestatic 18, 3) := by decide +kernel
theorem d_95_48 : decode (axt_b 95) 48 = .ok (.ireturn, 1) := by decide +kernel
theorem d_95_49 : decode (axt_b 95) 49 = .ok (.iinc 6 1, 3) := by decide +kernel
theorem d_95_52 : decode (axt_b 95) 52 = .ok (.goto (-49), 3) := by decide +kernel
theorem d_95_55 : decode (axt_b 95) 55 = .ok (.iload_n 2, 1) := by decide +kernel
theorem d_95_56 : decode (axt_b 95) 56 = .ok (.iload 5, 2) := by decide +kernel
theorem d_95_58 : decode (axt_b 95) 58 = .ok (.invokestatic 18, 3) := by decide +kernel
theorem d_95_61 : decode (axt_b 95) 61 = .ok (.ireturn, 1) := by decide +kernel
theorem d_96_0 : decode (axt_b 96) 0 = .ok (.iload_n 0, 1) := by decide +kernel
theorem d_96_1 : decode (axt_b 96) 1 = .ok (.iload_n 1, 1) := by decide +kernel
theorem d_96_2 : decode (axt_b 96) 2 = .ok (.if_icmp .ge 7, 3) := by decide +kernel
theorem d_96_5 : decode (axt_b 96) 5 = .ok (.iconst (-1), 1) := by decide +kernel
theorem d_96_6 : decode (axt_b 96) 6 = .ok (.goto 13, 3) := by decide +kernel
theorem d_96_9 : decode (axt_b 96) 9 = .ok (.iload_n 0, 1) := by decide +kernel
theorem d_96_10 : decode (axt_b 96) 10 = .ok (.iload_n 1, 1) := by decide +kernel
theorem d_96_11 : decode (axt_b 96) 11 = .ok (.if_icmp .ne 7, 3) := by decide +kernel
theorem d_96_14 : decode (axt_b 96) 14 = .ok (.iconst 0, 1) := by decide +kernel
theorem d_96_15 : decode (axt_b 96) 15 = .ok (.goto 4, 3) := by decide +kernel
theorem d_96_18 : decode (axt_b 96) 18 = .ok (.iconst 1, 1) := by decide +kernel
theorem d_96_19 : decode (axt_b 96) 19 = .ok (.ireturn, 1) := by decide +kernel
theorem d_97_0 : decode (axt_b 97) 0 = .ok (.iconst (-1), 1) := by decide +kernel
theorem d_97_1 : decode (axt_b 97) 1 = .ok (.istore_n 3, 1) := by decide +kernel
theorem d_97_2 : decode (axt_b 97) 2 = .ok (.iconst 0, 1) := by decide +kernel
theorem d_97_3 : decode (axt_b 97) 3 = .ok (.istore 4, 2) := by decide +kernel
theorem d_97_5 : decode (axt_b 97) 5 = .ok (.iload 4, 2) := by decide +kernel
theorem d_97_7 : decode (axt_b 97) 7 = .ok (.bipush 48, 2) := by decide +kernel
theorem d_97_9 : decode (axt_b 97) 9 = .ok (.if_icmp .ge 88, 3) := by decide +kernel
theorem d_97_12 : decode (axt_b 97) 12 = .ok (.iload 4, 2) := by decide +kernel
theorem d_97_14 : decode (axt_b 97) 14 = .ok (.bipush 50, 2) := by decide +kernel
theorem d_97_16 : decode (axt_b 97) 16 = .ok (.imul, 1) := by decide +kernel
theorem d_97_17 : decode (axt_b 97) 17 = .ok (.istore 5, 2) := by decide +kernel
theorem d_97_19 : decode (axt_b 97) 19 = .ok (.aload_n 0, 1) := by decide +kernel
theorem d_97_20 : decode (axt_b 97) 20 = .ok (.getfield 9, 3) := by decide +kernel
theorem d_97_23 : decode (axt_b 97) 23 = .ok (.iload 4, 2) := by decide +kernel
theorem d_97_25 : decode (axt_b 97) 25 = .ok (.iaload, 1) := by decide +kernel
theorem d_97_26 : decode (axt_b 97) 26 = .ok (.ifCond .lt 65, 3) := by decide +kernel
theorem d_97_29 : decode (axt_b 97) 29 = .ok (.aload_n 0, 1) := by decide +kernel
theorem d_97_30 : decode (axt_b 97) 30 = .ok (.getfield 21, 3) := by decide +kernel
theorem d_97_33 : decode (axt_b 97) 33 = .ok (.iload 5, 2) := by decide +kernel
theorem d_97_35 : decode (axt_b 97) 35 = .ok (.aload_n 0, 1) := by decide +kernel
theorem d_97_36 : decode (axt_b 97) 36 = .ok (.getfield 18, 3) := by decide +kernel
theorem d_97_39 : decode (axt_b 97) 39 = .ok (.iload 4, 2) := by decide +kernel
theorem d_97_41 : decode (axt_b 97) 41 = .ok (.iaload, 1) := by decide +kernel
theorem d_97_42 : decode (axt_b 97) 42 = .ok (.aload_n 1, 1) := by decide +kernel
theorem d_97_43 : decode (axt_b 97) 43 = .ok (.iconst 0, 1) := by decide +kernel
theorem d_97_44 : decode (axt_b 97) 44 = .ok (.iload_n 2, 1) := by decide +kernel
theorem d_97_45 : decode (axt_b 97) 45 = .ok (.invokestatic 62, 3) := by decide +kernel
theorem d_97_48 : decode (axt_b 97) 48 = .ok (.ifCond .le 43, 3) := by decide +kernel
theorem d_97_51 : decode (axt_b 97) 51 = .ok (.iload_n 3, 1) := by decide +kernel
theorem d_97_52 : decode (axt_b 97) 52 = .ok (.ifCond .lt 36, 3) := by decide +kernel
theorem d_97_55 : decode (axt_b 97) 55 = .ok (.aload_n 0, 1) := by decide +kernel
theorem d_97_56 : decode (axt_b 97) 56 = .ok (.getfield 21, 3) := by decide +kernel
theorem d_97_59 : decode (axt_b 97) 59 = .ok (.iload 5, 2) := by decide +kernel
theorem d_97_61 : decode (axt_b 97) 61 = .ok (.aload_n 0, 1) := by decide +kernel
theorem d_97_62 : decode (axt_b 97) 62 = .ok (.getfield 18, 3) := by decide +kernel
theorem d_97_65 : decode (axt_b 97) 65 = .ok (.iload 4, 2) := by decide +kernel
theorem d_97_67 : decode (axt_b 97) 67 = .ok (.iaload, 1) := by decide +kernel
theorem d_97_68 : decode (axt_b 97) 68 = .ok (.aload_n 0, 1) := by decide +kernel
theorem d_97_69 : decode (axt_b 97) 69 = .ok (.getfield 21, 3) := by decide +kernel
theorem d_97_72 : decode (axt_b 97) 72 = .ok (.iload_n 3, 1) := by decide +kernel
theorem d_97_73 : decode (axt_b 97) 73 = .ok (.bipush 50, 2) := by decide +kernel
theorem d_97_75 : decode (axt_b 97) 75 = .ok (.imul, 1) := by decide +kernel
theorem d_97_76 : decode (axt_b 97) 76 = .ok (.aload_n 0, 1) := by decide +kernel
theorem d_97_77 : decode (axt_b 97) 77 = .ok (.getfield 18, 3) := by decide +kernel
theorem d_97_80 : decode (axt_b 97) 80 = .ok (.iload_n 3, 1) := by decide +kernel
theorem d_97_81 : decode (axt_b 97) 81 = .ok (.iaload, 1) := by decide +kernel
theorem d_97_82 : decode (axt_b 97) 82 = .ok (.invokestatic 62, 3) := by decide +kernel
theorem d_97_85 : decode (axt_b 97) 85 = .ok (.ifCond .ge 6, 3) := by decide +kernel
theorem d_97_88 : decode (axt_b 97) 88 = .ok (.iload 4, 2) := by decide +kernel
theorem d_97_90 : decode (axt_b 97) 90 = .ok (.istore_n 3, 1) := by decide +kernel
theorem d_97_91 : decode (axt_b 97) 91 = .ok (.iinc 4 1, 3) := by decide +kernel
theorem d_97_94 : decode (axt_b 97) 94 = .ok (.goto (-89), 3) := by decide +kernel
theorem d_97_97 : decode (axt_b 97) 97 = .ok (.iload_n 3, 1) := by decide +kernel
theorem d_97_98 : decode (axt_b 97) 98 = .ok (.ireturn, 1) := by decide +kernel
theorem d_98_0 : decode (axt_b 98) 0 = .ok (.iconst 0, 1) := by decide +kernel
theorem d_98_1 : decode (axt_b 98) 1 = .ok (.istore_n 1, 1) := by decide +kernel
theorem d_98_2 : decode (axt_b 98) 2 = .ok (.iconst 0, 1) := by decide +kernel
theorem d_98_3 : decode (axt_b 98) 3 = .ok (.istore_n 2, 1) := by decide +kernel
theorem d_98_4 : decode (axt_b 98) 4 = .ok (.iload_n 2, 1) := by decide +kernel
theorem d_98_5 : decode (axt_b 98) 5 = .ok (.bipush 48, 2) := by decide +kernel
theorem d_98_7 : decode (axt_b 98) 7 = .ok (.if_icmp .ge 18, 3) := by decide +kernel
theorem d_98_10 : decode (axt_b 98) 10 = .ok (.iload_n 1, 1) := by decide +kernel
theorem d_98_11 : decode (axt_b 98) 11 = .ok (.aload_n 0, 1) := by decide +kernel
theorem d_98_12 : decode (axt_b 98) 12 = .ok (.getfield 15, 3) := by decide +kernel
theorem d_98_15 : decode (axt_b 98) 15 = .ok (.iload_n 2, 1) := by decide +kernel
theorem d_98_16 : decode (axt_b 98) 16 = .ok (.iaload, 1) := by decide +kernel
theorem d_98_17 : decode (axt_b 98) 17 = .ok (.iadd, 1) := by decide +kernel
theorem d_98_18 : decode (axt_b 98) 18 = .ok (.istore_n 1, 1) := by decide +kernel
theorem d_98_19 : decode (axt_b 98) 19 = .ok (.iinc 2 1, 3) := by decide +kernel
theorem d_98_22 : decode (axt_b 98) 22 = .ok (.goto (-18), 3) := by decide +kernel
theorem d_98_25 : decode (axt_b 98) 25 = .ok (.iload_n 1, 1) := by decide +kernel
theorem d_98_26 : decode (axt_b 98) 26 = .ok (.ireturn, 1) := by decide +kernel
theorem d_103_0 : decode (axt_b 103) 0 = .ok (.aload_n 0, 1) := by decide +kernel
theorem d_103_1 : decode (axt_b 103) 1 = .ok (.getfield 21, 3) := by decide +kernel
theorem d_103_4 : decode (axt_b 103) 4 = .ok (.iload_n 1, 1) := by decide +kernel
theorem d_103_5 : decode (axt_b 103) 5 = .ok (.bipush 50, 2) := by decide +kernel
theorem d_103_7 : decode (axt_b 103) 7 = .ok (.imul, 1) := by decide +kernel
theorem d_103_8 : decode (axt_b 103) 8 = .ok (.aload_n 2, 1) := by decide +kernel
theorem d_103_9 : decode (axt_b 103) 9 = .ok (.iload_n 3, 1) := by decide +kernel
theorem d_103_10 : decode (axt_b 103) 10 = .ok (.bipush 50, 2) := by decide +kernel
theorem d_103_12 : decode (axt_b 103) 12 = .ok (.invokestatic 68, 3) := by decide +kernel
theorem d_103_15 : decode (axt_b 103) 15 = .ok (.return_, 1) := by decide +kernel
theorem d_115_0 : decode (axt_b 115) 0 = .ok (.aload_n 0, 1) := by decide +kernel
theorem d_115_1 : decode (axt_b 115) 1 = .ok (.getfield 27, 3) := by decide +kernel
theorem d_115_4 : decode (axt_b 115) 4 = .ok (.iload_n 1, 1) := by decide +kernel
theorem d_115_5 : decode (axt_b 115) 5 = .ok (.iload_n 2, 1) := by decide +kernel
theorem d_115_6 : decode (axt_b 115) 6 = .ok (.iastore, 1) := by decide +kernel
theorem d_115_7 : decode (axt_b 115) 7 = .ok (.aload_n 0, 1) := by decide +kernel
theorem d_115_8 : decode (axt_b 115) 8 = .ok (.getfield 30, 3) := by decide +kernel
theorem d_115_11 : decode (axt_b 115) 11 = .ok (.iload_n 1, 1) := by decide +kernel
theorem d_115_12 : decode (axt_b 115) 12 = .ok (.iconst 0, 1) := by decide +kernel
theorem d_115_13 : decode (axt_b 115) 13 = .ok (.iastore, 1) := by decide +kernel
theorem d_115_14 : decode (axt_b 115) 14 = .ok (.return_, 1) := by decide +kernel
theorem d_157_0 : decode (axt_b 157) 0 = .ok (.iconst 0, 1) := by decide +kernel
theorem d_157_1 : decode (axt_b 157) 1 = .ok (.istore_n 2, 1) := by decide +kernel
theorem d_157_2 : decode (axt_b 157) 2 = .ok (.iconst 0, 1) := by decide +kernel
theorem d_157_3 : decode (axt_b 157) 3 = .ok (.istore_n 3, 1) := by decide +kernel
theorem d_157_4 : decode (axt_b 157) 4 = .ok (.iload_n 3, 1) := by decide +kernel
theorem d_157_5 : decode (axt_b 157) 5 = .ok (.bipush 19, 2) := by decide +kernel
theorem d_157_7 : decode (axt_b 157) 7 = .ok (.if_icmp .ge 26, 3) := by decide +kernel
theorem d_157_10 : decode (axt_b 157) 10 = .ok (.aload_n 0, 1) := by decide +kernel
theorem d_157_11 : decode (axt_b 157) 11 = .ok (.getfield 27, 3) := by decide +kernel
theorem d_157_14 : decode (axt_b 157) 14 = .ok (.iload_n 1, 1) := by decide +kernel
theorem d_157_15 : decode (axt_b 157) 15 = .ok (.bipush 20, 2) := by decide +kernel
theorem d_157_17 : decode (axt_b 157) 17 = .ok (.imul, 1) := by decide +kernel
theorem d_157_18 : decode (axt_b 157) 18 = .ok (.iload_n 3, 1) := by decide +kernel
theorem d_157_19 : decode (axt_b 157) 19 = .ok (.iadd, 1) := by decide +kernel
theorem d_157_20 : decode (axt_b 157) 20 = .ok (.iaload, 1) := by decide +kernel
theorem d_157_21 : decode (axt_b 157) 21 = .ok (.ifCond .lt 6, 3) := by decide +kernel
theorem d_157_24 : decode (axt_b 157) 24 = .ok (.iinc 2 1, 3) := by decide +kernel
theorem d_157_27 : decode (axt_b 157) 27 = .ok (.iinc 3 1, 3) := by decide +kernel
theorem d_157_30 : decode (axt_b 157) 30 = .ok (.goto (-26), 3) := by decide +kernel
theorem d_157_33 : decode (axt_b 157) 33 = .ok (.iload_n 2, 1) := by decide +kernel
theorem d_157_34 : decode (axt_b 157) 34 = .ok (.ireturn, 1) := by decide +kernel
theorem d_159_0 : decode (axt_b 159) 0 = .ok (.aload_n 0, 1) := by decide +kernel
theorem d_159_1 : decode (axt_b 159) 1 = .ok (.getfield 21, 3) := by decide +kernel
theorem d_159_4 : decode (axt_b 159) 4 = .ok (.iload_n 1, 1) := by decide +kernel
theorem d_159_5 : decode (axt_b 159) 5 = .ok (.bipush 50, 2) := by decide +kernel
theorem d_159_7 : decode (axt_b 159) 7 = .ok (.imul, 1) := by decide +kernel
theorem d_159_8 : decode (axt_b 159) 8 = .ok (.aload_n 0, 1) := by decide +kernel
theorem d_159_9 : decode (axt_b 159) 9 = .ok (.getfield 18, 3) := by decide +kernel
theorem d_159_12 : decode (axt_b 159) 12 = .ok (.iload_n 1, 1) := by decide +kernel
theorem d_159_13 : decode (axt_b 159) 13 = .ok (.iaload, 1) := by decide +kernel
theorem d_159_14 : decode (axt_b 159) 14 = .ok (.aload_n 0, 1) := by decide +kernel
theorem d_159_15 : decode (axt_b 159) 15 = .ok (.getfield 21, 3) := by decide +kernel
theorem d_159_18 : decode (axt_b 159) 18 = .ok (.iload_n 2, 1) := by decide +kernel
theorem d_159_19 : decode (axt_b 159) 19 = .ok (.bipush 50, 2) := by decide +kernel
theorem d_159_21 : decode (axt_b 159) 21 = .ok (.imul, 1) := by decide +kernel
theorem d_159_22 : decode (axt_b 159) 22 = .ok (.aload_n 0, 1) := by decide +kernel
theorem d_159_23 : decode (axt_b 159) 23 = .ok (.getfield 18, 3) := by decide +kernel
theorem d_159_26 : decode (axt_b 159) 26 = .ok (.iload_n 2, 1) := by decide +kernel
theorem d_159_27 : decode (axt_b 159) 27 = .ok (.iaload, 1) := by decide +kernel
theorem d_159_28 : decode (axt_b 159) 28 = .ok (.invokestatic 62, 3) := by decide +kernel
theorem d_159_31 : decode (axt_b 159) 31 = .ok (.ireturn, 1) := by decide +kernel
theorem d_168_0 : decode (axt_b 168) 0 = .ok (.iload_n 0, 1) := by decide +kernel
theorem d_168_1 : decode (axt_b 168) 1 = .ok (.sipush 10240, 3) := by decide +kernel
theorem d_168_4 : decode (axt_b 168) 4 = .ok (.idiv, 1) := by decide +kernel
theorem d_168_5 : decode (axt_b 168) 5 = .ok (.sipush 512, 3) := by decide +kernel
theorem d_168_8 : decode (axt_b 168) 8 = .ok (.if_icmp .eq 20, 3) := by decide +kernel
theorem d_168_11 : decode (axt_b 168) 11 = .ok (.iload_n 0, 1) := by decide +kernel
theorem d_168_12 : decode (axt_b 168) 12 = .ok (.sipush 512, 3) := by decide +kernel
theorem d_168_15 : decode (axt_b 168) 15 = .ok (.idiv, 1) := by decide +kernel
theorem d_168_16 : decode (axt_b 168) 16 = .ok (.bipush 20, 2) := by decide +kernel
theorem d_168_18 : decode (axt_b 168) 18 = .ok (.irem, 1) := by decide +kernel
theorem d_168_19 : decode (axt_b 168) 19 = .ok (.bipush 19, 2) := by decide +kernel
theorem d_168_21 : decode (axt_b 168) 21 = .ok (.if_icmp .ge 7, 3) := by decide +kernel
theorem d_168_24 : decode (axt_b 168) 24 = .ok (.iconst 1, 1) := by decide +kernel
theorem d_168_25 : decode (axt_b 168) 25 = .ok (.goto 4, 3) := by decide +kernel
theorem d_168_28 : decode (axt_b 168) 28 = .ok (.iconst 0, 1) := by decide +kernel
theorem d_168_29 : decode (axt_b 168) 29 = .ok (.ireturn, 1) := by decide +kernel
def cmpI (x y : Int32) : Int32 := if x < y then -1 else if x = y then 0 else 1
theorem c_96 {L : Nat} {xs : Nat → Int32} {fr lo : Nat} {h : ax_H} {x y : Int32} : ax_M L xs 96 fr lo [.int x, .int y] h (fun r h' => r = some (.int (cmpI x y)) ∧ h' = h) := by
  show ax_A (ax_step L xs) ((96, 0, fr, lo), [(0, .int x), (1, .int y)], [], h) _
  refine ar_iload_n 1 d_96_0 rfl rfl ?_
  refine ar_iload_n 2 d_96_1 rfl rfl ?_
  refine ar_icmp_ge 9 5 d_96_2 (by decide) rfl (fun c1 => ?_) (fun c1 => ?_)
  · refine ar_iload_n 10 d_96_9 rfl rfl ?_
    refine ar_iload_n 11 d_96_10 rfl rfl ?_
    refine ar_icmp_ne 18 14 d_96_11 (by decide) rfl (fun c2 => ?_) (fun c2 => ?_)
    · refine ar_iconst 19 (v := 1) d_96_18 rfl (by decide) ?_
      exact ar_iret d_96_19 rfl rfl (⟨by rw [cmpI, if_neg (Int32.not_lt.mpr c1), if_neg c2], rfl⟩)
    · refine ar_iconst 15 (v := 0) d_96_14 rfl (by decide) ?_
      refine ar_goto 19 d_96_15 (by decide) ?_
      exact ar_iret d_96_19 rfl rfl (⟨by rw [cmpI, if_neg (Int32.not_lt.mpr c1), if_pos (Decidable.not_not.mp c2)], rfl⟩)
  · refine ar_iconst 6 (v := -1) d_96_5 rfl (by decide) ?_
    refine ar_goto 19 d_96_6 (by decide) ?_
    exact ar_iret d_96_19 rfl rfl (⟨by rw [cmpI, if_pos (Int32.not_le.mp c1)], rfl⟩)
/-- two NAMES, word by word without sign, then their lengths -/
def cmpW (f g : Nat → Int32) (p q : Nat) (x y : Int32) : Nat → Nat → Int32
  | 0, _ => cmpI x y
  | k + 1, i => if f (p + i) = g (q + i) then cmpW f g p q x y k (i + 1) else cmpI (f (p + i) ^^^ (-2147483648)) (g (q + i) ^^^ (-2147483648))
theorem c_95 {L : Nat} {xs : Nat → Int32} {fr lo : Nat} {h : ax_H} {a b N1 N2 p q : Nat} {f g : Nat → Int32} {x y : Int32} (hfr : 1 ≤ fr) (hlo : 30 ≤ lo) (hN1 : N1 < 2 ^ 31) (hN2 : N2 < 2 ^ 31) (hp : p + 50 ≤ N1) (hq : q + 50 ≤ N2) (ga : ax_g h a = some (.inl (0, N1, .inl f))) (gb : ax_g h b = some (.inl (0, N2, .inl g))) : ax_M L xs 95 fr lo [.ref a, .int (nI p), .int x, .ref b, .int (nI q), .int y] h (fun r h' => r = some (.int (cmpW f g p q x y 50 0)) ∧ h' = h) := by
  have key : ∀ (k i : Nat), i + k = 50 → ax_A (ax_step L xs) ((95, 3, fr, lo), [(0, .ref a), (1, .int (nI p)), (2, .int x), (3, .ref b), (4, .int (nI q)), (5, .int y), (6, .int (nI i))], [], h) (fun r h' => r = some (.int (cmpW f g p q x y k i)) ∧ h' = h) := by
    intro k
    induction k with
    | zero =>
      intro i hi
      have e0 : i = 50 := by omega
      subst e0
      refine ar_iload 5 d_95_3 rfl rfl ?_
      refine ar_bipush 7 (v := 50) d_95_5 rfl (by decide) ?_
      refine ar_top (x' := nI 50) rfl ?_
      refine ar_icmp_ge 55 10 d_95_7 (by decide) rfl (fun _ => ?_) (fun c => absurd (Int32.le_refl _) c)
      refine ar_iload_n 56 d_95_55 rfl rfl ?_
      refine ar_iload 58 d_95_56 rfl rfl ?_
      refine ar_call (r := []) (na := 0) (kd := 0) (cm := 96) (fr2 := fr - 1) (lo2 := lo - 21) 61 d_95_58 (ar_hoS (as := [.int x, .int y]) rfl rfl rfl) rfl (by omega) (show lo - 21 + (19 + 2) = lo by omega) (Nat.le_of_ble_eq_true rfl) (Nat.le_of_ble_eq_true rfl) (c_96) ?_
      intro v hh hq
      obtain ⟨rfl, ehh⟩ := hq
      rw [ehh]
      clear ehh
      exact ar_iret d_95_61 rfl rfl (⟨rfl, rfl⟩)
    | succ k ih =>
      intro i hi
      have hi9 : i < 50 := by omega
      refine ar_iload 5 d_95_3 rfl rfl ?_
      refine ar_bipush 7 (v := 50) d_95_5 rfl (by decide) ?_
      refine ar_top (x' := nI 50) rfl ?_
      refine ar_icmp_ge 55 10 d_95_7 (by decide) rfl (fun c => absurd c (nI_ge hi9 (by omega))) (fun _ => ?_)
      refine ar_aload_n 11 d_95_10 rfl rfl ?_
      refine ar_iload_n 12 d_95_11 rfl rfl ?_
      refine ar_iload 14 d_95_12 rfl rfl ?_
      refine ar_iadd 15 d_95_14 rfl ?_
      refine ar_top (x' := nI (p + i)) (nI_add p i) ?_
      refine ar_iald 16 d_95_15 rfl ga (nI_in (by omega) (by omega)) ?_
      refine ar_top (x' := f (p + i)) (by rw [nI_clamp (by omega)]) ?_
      refine ar_aload_n 17 d_95_16 rfl rfl ?_
      refine ar_iload 19 d_95_17 rfl rfl ?_
      refine ar_iload 21 d_95_19 rfl rfl ?_
      refine ar_iadd 22 d_95_21 rfl ?_
      refine ar_top (x' := nI (q + i)) (nI_add q i) ?_
      refine ar_iald 23 d_95_22 rfl gb (nI_in (by omega) (by omega)) ?_
      refine ar_top (x' := g (q + i)) (by rw [nI_clamp (by omega)]) ?_
      refine ar_icmp_eq 49 26 d_95_23 (by decide) rfl (fun c1 => ?_) (fun c1 => ?_)
      · refine ar_iinc 52 [(0, .ref a), (1, .int (nI p)), (2, .int x), (3, .ref b), (4, .int (nI q)), (5, .int y), (6, .int (nI (i + 1)))] d_95_49 rfl rfl (nI_1 i) (by decide) rfl ?_
        refine ar_goto 3 d_95_52 (by decide) ?_
        rw [show cmpW f g p q x y (k + 1) i = cmpW f g p q x y k (i + 1) from if_pos c1]
        exact ih (i + 1) (by omega)
      · refine ar_aload_n 27 d_95_26 rfl rfl ?_
        refine ar_iload_n 28 d_95_27 rfl rfl ?_
        refine ar_iload 30 d_95_28 rfl rfl ?_
        refine ar_iadd 31 d_95_30 rfl ?_
        refine ar_top (x' := nI (p + i)) (nI_add p i) ?_
        refine ar_iald 32 d_95_31 rfl ga (nI_in (by omega) (by omega)) ?_
        refine ar_top (x' := f (p + i)) (by rw [nI_clamp (by omega)]) ?_
        refine ar_ldc 34 d_95_32 rfl (v := -2147483648) rfl ?_
        refine ar_ixor 35 d_95_34 rfl ?_
        refine ar_aload_n 36 d_95_35 rfl rfl ?_
        refine ar_iload 38 d_95_36 rfl rfl ?_
        refine ar_iload 40 d_95_38 rfl rfl ?_
        refine ar_iadd 41 d_95_40 rfl ?_
        refine ar_top (x' := nI (q + i)) (nI_add q i) ?_
        refine ar_iald 42 d_95_41 rfl gb (nI_in (by omega) (by omega)) ?_
        refine ar_top (x' := g (q + i)) (by rw [nI_clamp (by omega)]) ?_
        refine ar_ldc 44 d_95_42 rfl (v := -2147483648) rfl ?_
        refine ar_ixor 45 d_95_44 rfl ?_
        refine ar_call (r := []) (na := 0) (kd := 0) (cm := 96) (fr2 := fr - 1) (lo2 := lo - 21) 48 d_95_45 (ar_hoS (as := [.int ((f (p + i)) ^^^ (-2147483648)), .int ((g (q + i)) ^^^ (-2147483648))]) rfl rfl rfl) rfl (by omega) (show lo - 21 + (19 + 2) = lo by omega) (Nat.le_of_ble_eq_true rfl) (Nat.le_of_ble_eq_true rfl) (c_96) ?_
        intro v hh hq
        obtain ⟨rfl, ehh⟩ := hq
        rw [ehh]
        clear ehh
        exact ar_iret d_95_48 rfl rfl (⟨by rw [show cmpW f g p q x y (k + 1) i = cmpI (f (p + i) ^^^ (-2147483648)) (g (q + i) ^^^ (-2147483648)) from if_neg c1], rfl⟩)
  show ax_A (ax_step L xs) ((95, 0, fr, lo), [(0, .ref a), (1, .int (nI p)), (2, .int x), (3, .ref b), (4, .int (nI q)), (5, .int y)], [], h) _
  refine ar_iconst 1 (v := 0) d_95_0 rfl (by decide) ?_
  refine ar_istore 3 [(0, .ref a), (1, .int (nI p)), (2, .int x), (3, .ref b), (4, .int (nI q)), (5, .int y), (6, .int 0)] d_95_1 rfl (by decide) rfl ?_
  exact key 50 0 (by omega)
def nmC (mf nf : Nat → Int32) (i j : Nat) : Int32 := cmpW mf mf (i * 50) (j * 50) (nf i) (nf j) 50 0
theorem c_159 {L : Nat} {xs : Nat → Int32} {fr lo : Nat} {h : ax_H} {tb a1 a2 a3 a4 a5 a6 a7 : Nat} {g fl an : Int32} {kn : Int64} {i j : Nat} {nf mf : Nat → Int32} (hfr : 2 ≤ fr) (hlo : 60 ≤ lo) (hi : i < 48) (hj : j < 48) (gt : ax_g h tb = some (.inr (6, [.int g, .ref a1, .ref a2, .ref a3, .ref a4, .ref a5, .ref a6, .ref a7, .long kn, .int fl, .int an]))) (g3 : ax_g h a3 = some (.inl (0, 48, .inl nf))) (g4 : ax_g h a4 = some (.inl (0, 2400, .inl mf))) : ax_M L xs 159 fr lo [.ref tb, .int (nI i), .int (nI j)] h (fun r h' => r = some (.int (nmC mf nf i j)) ∧ h' = h) := by
  show ax_A (ax_step L xs) ((159, 0, fr, lo), [(0, .ref tb), (1, .int (nI i)), (2, .int (nI j))], [], h) _
  refine ar_aload_n 1 d_159_0 rfl rfl ?_
  refine ar_getf 4 d_159_1 rfl (ci := 6) (k := 4) rfl gt rfl ?_
  refine ar_iload_n 5 d_159_4 rfl rfl ?_
  refine ar_bipush 7 (v := 50) d_159_5 rfl (by decide) ?_
  refine ar_imul 8 d_159_7 rfl ?_
  refine ar_top (x' := nI (i * 50)) (pk_mul i 50) ?_
  refine ar_aload_n 9 d_159_8 rfl rfl ?_
  refine ar_getf 12 d_159_9 rfl (ci := 6) (k := 3) rfl gt rfl ?_
  refine ar_iload_n 13 d_159_12 rfl rfl ?_
  refine ar_iald 14 d_159_13 rfl g3 (nI_in (by omega) (by omega)) ?_
  refine ar_top (x' := nf i) (by rw [nI_clamp (by omega)]) ?_
  refine ar_aload_n 15 d_159_14 rfl rfl ?_
  refine ar_getf 18 d_159_15 rfl (ci := 6) (k := 4) rfl gt rfl ?_
  refine ar_iload_n 19 d_159_18 rfl rfl ?_
  refine ar_bipush 21 (v := 50) d_159_19 rfl (by decide) ?_
  refine ar_imul 22 d_159_21 rfl ?_
  refine ar_top (x' := nI (j * 50)) (pk_mul j 50) ?_
  refine ar_aload_n 23 d_159_22 rfl rfl ?_
  refine ar_getf 26 d_159_23 rfl (ci := 6) (k := 3) rfl gt rfl ?_
  refine ar_iload_n 27 d_159_26 rfl rfl ?_
  refine ar_iald 28 d_159_27 rfl g3 (nI_in (by omega) (by omega)) ?_
  refine ar_top (x' := nf j) (by rw [nI_clamp (by omega)]) ?_
  refine ar_call (r := []) (na := 0) (kd := 0) (cm := 95) (fr2 := fr - 1) (lo2 := lo - 26) 31 d_159_28 (ar_hoS (as := [.ref a4, .int (nI (i * 50)), .int (nf i), .ref a4, .int (nI (j * 50)), .int (nf j)]) rfl rfl rfl) rfl (by omega) (show lo - 26 + (19 + 7) = lo by omega) (Nat.le_of_ble_eq_true rfl) (Nat.le_of_ble_eq_true rfl) (c_95 (by omega) (by omega) (by decide) (by decide) (by omega) (by omega) g4 g4) ?_
  intro v hh hq
  obtain ⟨rfl, ehh⟩ := hq
  rw [ehh]
  clear ehh
  exact ar_iret d_159_31 rfl rfl (⟨rfl, rfl⟩)
theorem c_94 {L : Nat} {xs : Nat → Int32} {fr lo : Nat} {h : ax_H} {tb a1 a2 a3 a4 a5 a6 a7 : Nat} {g fl an : Int32} {kn : Int64} {b N p : Nat} {jf nf mf wf : Nat → Int32} {x : Int32} (hfr : 2 ≤ fr) (hlo : 60 ≤ lo) (hN : N < 2 ^ 31) (hp : p + 50 ≤ N) (gt : ax_g h tb = some (.inr (6, [.int g, .ref a1, .ref a2, .ref a3, .ref a4, .ref a5, .ref a6, .ref a7, .long kn, .int fl, .int an]))) (g1 : ax_g h a1 = some (.inl (0, 48, .inl jf))) (g3 : ax_g h a3 = some (.inl (0, 48, .inl nf))) (g4 : ax_g h a4 = some (.inl (0, 2400, .inl mf))) (gb : ax_g h b = some (.inl (0, N, .inl wf))) : ax_M L xs 94 fr lo [.ref tb, .ref b, .int (nI p), .int x] h (fun r h' => r = some (.int (fst1 (fun i => decide (¬ jf i < 0 ∧ nf i = x ∧ cmpW mf wf (i * 50) p x x 50 0 = 0)) 48 0)) ∧ h' = h) := by
  have key : ∀ (k i : Nat), i + k = 48 → ax_A (ax_step L xs) ((94, 3, fr, lo), [(0, .ref tb), (1, .ref b), (2, .int (nI p)), (3, .int x), (4, .int (nI i))], [], h) (fun r h' => r = some (.int (fst1 (fun i => decide (¬ jf i < 0 ∧ nf i = x ∧ cmpW mf wf (i * 50) p x x 50 0 = 0)) k i)) ∧ h' = h) := by
    intro k
    induction k with
    | zero =>
      intro i hi
      have e0 : i = 48 := by omega
      subst e0
      refine ar_iload 5 d_94_3 rfl rfl ?_
      refine ar_bipush 7 (v := 48) d_94_5 rfl (by decide) ?_
      refine ar_top (x' := nI 48) rfl ?_
      refine ar_icmp_ge 59 10 d_94_7 (by decide) rfl (fun _ => ?_) (fun c => absurd (Int32.le_refl _) c)
      refine ar_iconst 60 (v := -1) d_94_59 rfl (by decide) ?_
      exact ar_iret d_94_60 rfl rfl (⟨rfl, rfl⟩)
    | succ k ih =>
      intro i hi
      have hi9 : i < 48 := by omega
      refine ar_iload 5 d_94_3 rfl rfl ?_
      refine ar_bipush 7 (v := 48) d_94_5 rfl (by decide) ?_
      refine ar_top (x' := nI 48) rfl ?_
      refine ar_icmp_ge 59 10 d_94_7 (by decide) rfl (fun c => absurd c (nI_ge hi9 (by omega))) (fun _ => ?_)
      refine ar_aload_n 11 d_94_10 rfl rfl ?_
      refine ar_getf 14 d_94_11 rfl (ci := 6) (k := 1) rfl gt rfl ?_
      refine ar_iload 16 d_94_14 rfl rfl ?_
      refine ar_iald 17 d_94_16 rfl g1 (nI_in (by omega) (by omega)) ?_
      refine ar_top (x' := jf i) (by rw [nI_clamp (by omega)]) ?_
      refine ar_if_lt 53 20 d_94_17 (by decide) rfl (fun c1 => ?_) (fun c1 => ?_)
      · refine ar_iinc 56 [(0, .ref tb), (1, .ref b), (2, .int (nI p)), (3, .int x), (4, .int (nI (i + 1)))] d_94_53 rfl rfl (nI_1 i) (by decide) rfl ?_
        refine ar_goto 3 d_94_56 (by decide) ?_
        rw [show fst1 (fun i => decide (¬ jf i < 0 ∧ nf i = x ∧ cmpW mf wf (i * 50) p x x 50 0 = 0)) (k + 1) i = fst1 (fun i => decide (¬ jf i < 0 ∧ nf i = x ∧ cmpW mf wf (i * 50) p x x 50 0 = 0)) k (i + 1) from if_neg (fun z => (of_decide_eq_true z).1 c1)]
        exact ih (i + 1) (by omega)
      · refine ar_aload_n 21 d_94_20 rfl rfl ?_
        refine ar_getf 24 d_94_21 rfl (ci := 6) (k := 3) rfl gt rfl ?_
        refine ar_iload 26 d_94_24 rfl rfl ?_
        refine ar_iald 27 d_94_26 rfl g3 (nI_in (by omega) (by omega)) ?_
        refine ar_top (x' := nf i) (by rw [nI_clamp (by omega)]) ?_
        refine ar_iload_n 28 d_94_27 rfl rfl ?_
        refine ar_icmp_ne 53 31 d_94_28 (by decide) rfl (fun c2 => ?_) (fun c2 => ?_)
        · refine ar_iinc 56 [(0, .ref tb), (1, .ref b), (2, .int (nI p)), (3, .int x), (4, .int (nI (i + 1)))] d_94_53 rfl rfl (nI_1 i) (by decide) rfl ?_
          refine ar_goto 3 d_94_56 (by decide) ?_
          rw [show fst1 (fun i => decide (¬ jf i < 0 ∧ nf i = x ∧ cmpW mf wf (i * 50) p x x 50 0 = 0)) (k + 1) i = fst1 (fun i => decide (¬ jf i < 0 ∧ nf i = x ∧ cmpW mf wf (i * 50) p x x 50 0 = 0)) k (i + 1) from if_neg (fun z => c2 (of_decide_eq_true z).2.1)]
          exact ih (i + 1) (by omega)
        · refine ar_aload_n 32 d_94_31 rfl rfl ?_
          refine ar_getf 35 d_94_32 rfl (ci := 6) (k := 4) rfl gt rfl ?_
          refine ar_iload 37 d_94_35 rfl rfl ?_
          refine ar_bipush 39 (v := 50) d_94_37 rfl (by decide) ?_
          refine ar_imul 40 d_94_39 rfl ?_
          refine ar_top (x' := nI (i * 50)) (pk_mul i 50) ?_
          refine ar_iload_n 41 d_94_40 rfl rfl ?_
          refine ar_aload_n 42 d_94_41 rfl rfl ?_
          refine ar_iload_n 43 d_94_42 rfl rfl ?_
          refine ar_iload_n 44 d_94_43 rfl rfl ?_
          refine ar_call (r := []) (na := 0) (kd := 0) (cm := 95) (fr2 := fr - 1) (lo2 := lo - 26) 47 d_94_44 (ar_hoS (as := [.ref a4, .int (nI (i * 50)), .int x, .ref b, .int (nI p), .int x]) rfl rfl rfl) rfl (by omega) (show lo - 26 + (19 + 7) = lo by omega) (Nat.le_of_ble_eq_true rfl) (Nat.le_of_ble_eq_true rfl) (c_95 (by omega) (by omega) (by decide) hN (by omega) hp g4 gb) ?_
          intro v hh hq
          obtain ⟨rfl, ehh⟩ := hq
          rw [ehh]
          clear ehh
          refine ar_if_ne 53 50 d_94_47 (by decide) rfl (fun c3 => ?_) (fun c3 => ?_)
          · refine ar_iinc 56 [(0, .ref tb), (1, .ref b), (2, .int (nI p)), (3, .int x), (4, .int (nI (i + 1)))] d_94_53 rfl rfl (nI_1 i) (by decide) rfl ?_
            refine ar_goto 3 d_94_56 (by decide) ?_
            rw [show fst1 (fun i => decide (¬ jf i < 0 ∧ nf i = x ∧ cmpW mf wf (i * 50) p x x 50 0 = 0)) (k + 1) i = fst1 (fun i => decide (¬ jf i < 0 ∧ nf i = x ∧ cmpW mf wf (i * 50) p x x 50 0 = 0)) k (i + 1) from if_neg (fun z => c3 (of_decide_eq_true z).2.2)]
            exact ih (i + 1) (by omega)
          · refine ar_iload 52 d_94_50 rfl rfl ?_
            exact ar_iret d_94_52 rfl rfl (⟨by rw [show fst1 (fun i => decide (¬ jf i < 0 ∧ nf i = x ∧ cmpW mf wf (i * 50) p x x 50 0 = 0)) (k + 1) i = nI i from if_pos (decide_eq_true ⟨c1, Decidable.not_not.mp c2, Decidable.not_not.mp c3⟩)], rfl⟩)
  show ax_A (ax_step L xs) ((94, 0, fr, lo), [(0, .ref tb), (1, .ref b), (2, .int (nI p)), (3, .int x)], [], h) _
  refine ar_iconst 1 (v := 0) d_94_0 rfl (by decide) ?_
  refine ar_istore 3 [(0, .ref tb), (1, .ref b), (2, .int (nI p)), (3, .int x), (4, .int 0)] d_94_1 rfl (by decide) rfl ?_
  exact key 48 0 (by omega)
def totS (zf : Nat → Int32) : Nat → Nat → Int32 → Int32
  | 0, _, r => r
  | k + 1, i, r => totS zf k (i + 1) (r + zf i)
def laidS (vf : Nat → Int32) (b : Nat) : Nat → Nat → Nat → Nat
  | 0, _, r => r
  | k + 1, i, r => if vf (b + i) < 0 then laidS vf b k (i + 1) r else laidS vf b k (i + 1) (r + 1)
theorem c_98 {L : Nat} {xs : Nat → Int32} {fr lo : Nat} {h : ax_H} {tb a1 a2 a3 a4 a5 a6 a7 : Nat} {g fl an : Int32} {kn : Int64} {zf : Nat → Int32} (gt : ax_g h tb = some (.inr (6, [.int g, .ref a1, .ref a2, .ref a3, .ref a4, .ref a5, .ref a6, .ref a7, .long kn, .int fl, .int an]))) (g2 : ax_g h a2 = some (.inl (0, 48, .inl zf))) : ax_M L xs 98 fr lo [.ref tb] h (fun r h' => r = some (.int (totS zf 48 0 0)) ∧ h' = h) := by
  have key : ∀ (k i : Nat) (y : Int32), i + k = 48 → ax_A (ax_step L xs) ((98, 4, fr, lo), [(0, .ref tb), (1, .int y), (2, .int (nI i))], [], h) (fun r h' => r = some (.int (totS zf k i y)) ∧ h' = h) := by
    intro k
    induction k with
    | zero =>
      intro i y hi
      have e0 : i = 48 := by omega
      subst e0
      refine ar_iload_n 5 d_98_4 rfl rfl ?_
      refine ar_bipush 7 (v := 48) d_98_5 rfl (by decide) ?_
      refine ar_top (x' := nI 48) rfl ?_
      refine ar_icmp_ge 25 10 d_98_7 (by decide) rfl (fun _ => ?_) (fun c => absurd (Int32.le_refl _) c)
      refine ar_iload_n 26 d_98_25 rfl rfl ?_
      exact ar_iret d_98_26 rfl rfl (⟨rfl, rfl⟩)
    | succ k ih =>
      intro i y hi
      have hi9 : i < 48 := by omega
      refine ar_iload_n 5 d_98_4 rfl rfl ?_
      refine ar_bipush 7 (v := 48) d_98_5 rfl (by decide) ?_
      refine ar_top (x' := nI 48) rfl ?_
      refine ar_icmp_ge 25 10 d_98_7 (by decide) rfl (fun c => absurd c (nI_ge hi9 (by omega))) (fun _ => ?_)
      refine ar_iload_n 11 d_98_10 rfl rfl ?_
      refine ar_aload_n 12 d_98_11 rfl rfl ?_
      refine ar_getf 15 d_98_12 rfl (ci := 6) (k := 2) rfl gt rfl ?_
      refine ar_iload_n 16 d_98_15 rfl rfl ?_
      refine ar_iald 17 d_98_16 rfl g2 (nI_in (by omega) (by omega)) ?_
      refine ar_top (x' := zf i) (by rw [nI_clamp (by omega)]) ?_
      refine ar_iadd 18 d_98_17 rfl ?_
      refine ar_istore_n 19 [(0, .ref tb), (1, .int (y + (zf i))), (2, .int (nI i))] d_98_18 rfl (by decide) rfl ?_
      refine ar_iinc 22 [(0, .ref tb), (1, .int (y + (zf i))), (2, .int (nI (i + 1)))] d_98_19 rfl rfl (nI_1 i) (by decide) rfl ?_
      refine ar_goto 4 d_98_22 (by decide) ?_
      exact ih (i + 1) (y + zf i) (by omega)
  show ax_A (ax_step L xs) ((98, 0, fr, lo), [(0, .ref tb)], [], h) _
  refine ar_iconst 1 (v := 0) d_98_0 rfl (by decide) ?_
  refine ar_istore_n 2 [(0, .ref tb), (1, .int 0)] d_98_1 rfl (by decide) rfl ?_
  refine ar_iconst 3 (v := 0) d_98_2 rfl (by decide) ?_
  refine ar_istore_n 4 [(0, .ref tb), (1, .int 0), (2, .int 0)] d_98_3 rfl (by decide) rfl ?_
  exact key 48 0 0 (by omega)
theorem c_157 {L : Nat} {xs : Nat → Int32} {fr lo : Nat} {h : ax_H} {tb a1 a2 a3 a4 a5 a6 a7 : Nat} {g fl an : Int32} {kn : Int64} {f : Nat} {vf : Nat → Int32} (hf : f < 48) (gt : ax_g h tb = some (.inr (6, [.int g, .ref a1, .ref a2, .ref a3, .ref a4, .ref a5, .ref a6, .ref a7, .long kn, .int fl, .int an]))) (g6 : ax_g h a6 = some (.inl (0, 961, .inl vf))) : ax_M L xs 157 fr lo [.ref tb, .int (nI f)] h (fun r h' => r = some (.int (nI (laidS vf (f * 20) 19 0 0))) ∧ h' = h) := by
  have key : ∀ (k i y : Nat), i + k = 19 → ax_A (ax_step L xs) ((157, 4, fr, lo), [(0, .ref tb), (1, .int (nI f)), (2, .int (nI y)), (3, .int (nI i))], [], h) (fun r h' => r = some (.int (nI (laidS vf (f * 20) k i y))) ∧ h' = h) := by
    intro k
    induction k with
    | zero =>
      intro i y hi
      have e0 : i = 19 := by omega
      subst e0
      refine ar_iload_n 5 d_157_4 rfl rfl ?_
      refine ar_bipush 7 (v := 19) d_157_5 rfl (by decide) ?_
      refine ar_top (x' := nI 19) rfl ?_
      refine ar_icmp_ge 33 10 d_157_7 (by decide) rfl (fun _ => ?_) (fun c => absurd (Int32.le_refl _) c)
      refine ar_iload_n 34 d_157_33 rfl rfl ?_
      exact ar_iret d_157_34 rfl rfl (⟨rfl, rfl⟩)
    | succ k ih =>
      intro i y hi
      have hi9 : i < 19 := by omega
      refine ar_iload_n 5 d_157_4 rfl rfl ?_
      refine ar_bipush 7 (v := 19) d_157_5 rfl (by decide) ?_
      refine ar_top (x' := nI 19) rfl ?_
      refine ar_icmp_ge 33 10 d_157_7 (by decide) rfl (fun c => absurd c (nI_ge hi9 (by omega))) (fun _ => ?_)
      refine ar_aload_n 11 d_157_10 rfl rfl ?_
      refine ar_getf 14 d_157_11 rfl (ci := 6) (k := 6) rfl gt rfl ?_
      refine ar_iload_n 15 d_157_14 rfl rfl ?_
      refine ar_bipush 17 (v := 20) d_157_15 rfl (by decide) ?_
      refine ar_imul 18 d_157_17 rfl ?_
      refine ar_top (x' := nI (f * 20)) (pk_mul f 20) ?_
      refine ar_iload_n 19 d_157_18 rfl rfl ?_
      refine ar_iadd 20 d_157_19 rfl ?_
      refine ar_top (x' := nI (f * 20 + i)) (nI_add (f * 20) i) ?_
      refine ar_iald 21 d_157_20 rfl g6 (nI_in (by omega) (by omega)) ?_
      refine ar_top (x' := vf (f * 20 + i)) (by rw [nI_clamp (by omega)]) ?_
      refine ar_if_lt 27 24 d_157_21 (by decide) rfl (fun c1 => ?_) (fun c1 => ?_)
      · refine ar_iinc 30 [(0, .ref tb), (1, .int (nI f)), (2, .int (nI y)), (3, .int (nI (i + 1)))] d_157_27 rfl rfl (nI_1 i) (by decide) rfl ?_
        refine ar_goto 4 d_157_30 (by decide) ?_
        rw [show laidS vf (f * 20) (k + 1) i y = laidS vf (f * 20) k (i + 1) y from if_pos c1]
        exact ih (i + 1) y (by omega)
      · refine ar_iinc 27 [(0, .ref tb), (1, .int (nI f)), (2, .int (nI (y + 1))), (3, .int (nI i))] d_157_24 rfl rfl (nI_1 y) (by decide) rfl ?_
        refine ar_iinc 30 [(0, .ref tb), (1, .int (nI f)), (2, .int (nI (y + 1))), (3, .int (nI (i + 1)))] d_157_27 rfl rfl (nI_1 i) (by decide) rfl ?_
        refine ar_goto 4 d_157_30 (by decide) ?_
        rw [show laidS vf (f * 20) (k + 1) i y = laidS vf (f * 20) k (i + 1) (y + 1) from if_neg c1]
        exact ih (i + 1) (y + 1) (by omega)
  show ax_A (ax_step L xs) ((157, 0, fr, lo), [(0, .ref tb), (1, .int (nI f))], [], h) _
  refine ar_iconst 1 (v := 0) d_157_0 rfl (by decide) ?_
  refine ar_istore_n 2 [(0, .ref tb), (1, .int (nI f)), (2, .int 0)] d_157_1 rfl (by decide) rfl ?_
  refine ar_iconst 3 (v := 0) d_157_2 rfl (by decide) ?_
  refine ar_istore_n 4 [(0, .ref tb), (1, .int (nI f)), (2, .int 0), (3, .int 0)] d_157_3 rfl (by decide) rfl ?_
  exact key 19 0 0 (by omega)
theorem c_80 {L : Nat} {xs : Nat → Int32} {fr lo : Nat} {h : ax_H} {t : Nat} (ht : t < 2 ^ 31) : ax_M L xs 80 fr lo [.int (nI t)] h (fun r h' => r = some (.int (if t / 10240 = 512 then 1 else 0)) ∧ h' = h) := by
  show ax_A (ax_step L xs) ((80, 0, fr, lo), [(0, .int (nI t))], [], h) _
  refine ar_iload_n 1 d_80_0 rfl rfl ?_
  refine ar_sipush 4 (v := 10240) d_80_1 rfl (by decide) ?_
  refine ar_idiv 5 d_80_4 rfl (by decide) ?_
  refine ar_top (x' := nI (t / 10240)) (pk_div (d := 10240) ht (by omega) (by omega)) ?_
  refine ar_sipush 8 (v := 512) d_80_5 rfl (by decide) ?_
  refine ar_top (x' := nI 512) rfl ?_
  refine ar_icmp_ne 15 11 d_80_8 (by decide) rfl (fun c1 => ?_) (fun c1 => ?_)
  · refine ar_iconst 16 (v := 0) d_80_15 rfl (by decide) ?_
    exact ar_iret d_80_16 rfl rfl (⟨by rw [if_neg (fun z => c1 (by rw [z]))], rfl⟩)
  · refine ar_iconst 12 (v := 1) d_80_11 rfl (by decide) ?_
    refine ar_goto 16 d_80_12 (by decide) ?_
    exact ar_iret d_80_16 rfl rfl (⟨by rw [if_pos (nI_inj (by omega) (by omega) (Decidable.not_not.mp c1))], rfl⟩)

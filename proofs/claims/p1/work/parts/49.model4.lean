/-! the reference: feed; name with an empty TAPE; crash, restart, map, replace; settle with nothing waiting; count -/
theorem d_176_0 : decode (axt_b 176) 0 = .ok (.aload_n 0, 1) := by decide +kernel
theorem d_176_1 : decode (axt_b 176) 1 = .ok (.getfield 95, 3) := by decide +kernel
theorem d_176_4 : decode (axt_b 176) 4 = .ok (.bipush 20, 2) := by decide +kernel
theorem d_176_6 : decode (axt_b 176) 6 = .ok (.iadd, 1) := by decide +kernel
theorem d_176_7 : decode (axt_b 176) 7 = .ok (.sipush 2048, 3) := by decide +kernel
theorem d_176_10 : decode (axt_b 176) 10 = .ok (.if_icmp .le 6, 3) := by decide +kernel
theorem d_176_13 : decode (axt_b 176) 13 = .ok (.bipush (-4), 2) := by decide +kernel
theorem d_176_15 : decode (axt_b 176) 15 = .ok (.ireturn, 1) := by decide +kernel
theorem d_176_16 : decode (axt_b 176) 16 = .ok (.aload_n 0, 1) := by decide +kernel
theorem d_176_17 : decode (axt_b 176) 17 = .ok (.iload_n 1, 1) := by decide +kernel
theorem d_176_18 : decode (axt_b 176) 18 = .ok (.invokevirtual 98, 3) := by decide +kernel
theorem d_176_21 : decode (axt_b 176) 21 = .ok (.aload_n 0, 1) := by decide +kernel
theorem d_176_22 : decode (axt_b 176) 22 = .ok (.iload_n 2, 1) := by decide +kernel
theorem d_176_23 : decode (axt_b 176) 23 = .ok (.invokevirtual 98, 3) := by decide +kernel
theorem d_176_26 : decode (axt_b 176) 26 = .ok (.aload_n 0, 1) := by decide +kernel
theorem d_176_27 : decode (axt_b 176) 27 = .ok (.iload_n 3, 1) := by decide +kernel
theorem d_176_28 : decode (axt_b 176) 28 = .ok (.invokevirtual 98, 3) := by decide +kernel
theorem d_176_31 : decode (axt_b 176) 31 = .ok (.aload_n 0, 1) := by decide +kernel
theorem d_176_32 : decode (axt_b 176) 32 = .ok (.iload 4, 2) := by decide +kernel
theorem d_176_34 : decode (axt_b 176) 34 = .ok (.invokevirtual 98, 3) := by decide +kernel
theorem d_176_37 : decode (axt_b 176) 37 = .ok (.aload_n 0, 1) := by decide +kernel
theorem d_176_38 : decode (axt_b 176) 38 = .ok (.iload 5, 2) := by decide +kernel
theorem d_176_40 : decode (axt_b 176) 40 = .ok (.invokevirtual 98, 3) := by decide +kernel
theorem d_176_43 : decode (axt_b 176) 43 = .ok (.aload_n 0, 1) := by decide +kernel
theorem d_176_44 : decode (axt_b 176) 44 = .ok (.getfield 95, 3) := by decide +kernel
theorem d_176_47 : decode (axt_b 176) 47 = .ok (.ireturn, 1) := by decide +kernel
theorem d_177_0 : decode (axt_b 177) 0 = .ok (.bipush 24, 2) := by decide +kernel
theorem d_177_2 : decode (axt_b 177) 2 = .ok (.istore_n 2, 1) := by decide +kernel
theorem d_177_3 : decode (axt_b 177) 3 = .ok (.iload_n 2, 1) := by decide +kernel
theorem d_177_4 : decode (axt_b 177) 4 = .ok (.ifCond .lt 32, 3) := by decide +kernel
theorem d_177_7 : decode (axt_b 177) 7 = .ok (.aload_n 0, 1) := by decide +kernel
theorem d_177_8 : decode (axt_b 177) 8 = .ok (.getfield 13, 3) := by decide +kernel
theorem d_177_11 : decode (axt_b 177) 11 = .ok (.aload_n 0, 1) := by decide +kernel
theorem d_177_12 : decode (axt_b 177) 12 = .ok (.getfield 95, 3) := by decide +kernel
theorem d_177_15 : decode (axt_b 177) 15 = .ok (.iload_n 1, 1) := by decide +kernel
theorem d_177_16 : decode (axt_b 177) 16 = .ok (.iload_n 2, 1) := by decide +kernel
theorem d_177_17 : decode (axt_b 177) 17 = .ok (.ishr, 1) := by decide +kernel
theorem d_177_18 : decode (axt_b 177) 18 = .ok (.i2b, 1) := by decide +kernel
theorem d_177_19 : decode (axt_b 177) 19 = .ok (.bastore, 1) := by decide +kernel
theorem d_177_20 : decode (axt_b 177) 20 = .ok (.aload_n 0, 1) := by decide +kernel
theorem d_177_21 : decode (axt_b 177) 21 = .ok (.dup, 1) := by decide +kernel
theorem d_177_22 : decode (axt_b 177) 22 = .ok (.getfield 95, 3) := by decide +kernel
theorem d_177_25 : decode (axt_b 177) 25 = .ok (.iconst 1, 1) := by decide +kernel
theorem d_177_26 : decode (axt_b 177) 26 = .ok (.iadd, 1) := by decide +kernel
theorem d_177_27 : decode (axt_b 177) 27 = .ok (.putfield 95, 3) := by decide +kernel
theorem d_177_30 : decode (axt_b 177) 30 = .ok (.iinc 2 (-8), 3) := by decide +kernel
theorem d_177_33 : decode (axt_b 177) 33 = .ok (.goto (-30), 3) := by decide +kernel
theorem d_177_36 : decode (axt_b 177) 36 = .ok (.return_, 1) := by decide +kernel
theorem d_179_0 : decode (axt_b 179) 0 = .ok (.iload_n 1, 1) := by decide +kernel
theorem d_179_1 : decode (axt_b 179) 1 = .ok (.ifCond .lt 18, 3) := by decide +kernel
theorem d_179_4 : decode (axt_b 179) 4 = .ok (.iload_n 1, 1) := by decide +kernel
theorem d_179_5 : decode (axt_b 179) 5 = .ok (.iconst 1, 1) := by decide +kernel
theorem d_179_6 : decode (axt_b 179) 6 = .ok (.if_icmp .gt 13, 3) := by decide +kernel
theorem d_179_9 : decode (axt_b 179) 9 = .ok (.aload_n 0, 1) := by decide +kernel
theorem d_179_10 : decode (axt_b 179) 10 = .ok (.getfield 95, 3) := by decide +kernel
theorem d_179_13 : decode (axt_b 179) 13 = .ok (.sipush 200, 3) := by decide +kernel
theorem d_179_16 : decode (axt_b 179) 16 = .ok (.if_icmp .le 5, 3) := by decide +kernel
theorem d_179_19 : decode (axt_b 179) 19 = .ok (.iconst (-1), 1) := by decide +kernel
theorem d_179_20 : decode (axt_b 179) 20 = .ok (.ireturn, 1) := by decide +kernel
theorem d_179_21 : decode (axt_b 179) 21 = .ok (.iconst 0, 1) := by decide +kernel
theorem d_179_22 : decode (axt_b 179) 22 = .ok (.istore_n 2, 1) := by decide +kernel
theorem d_179_23 : decode (axt_b 179) 23 = .ok (.iload_n 2, 1) := by decide +kernel
theorem d_179_24 : decode (axt_b 179) 24 = .ok (.aload_n 0, 1) := by decide +kernel
theorem d_179_25 : decode (axt_b 179) 25 = .ok (.getfield 95, 3) := by decide +kernel
theorem d_179_28 : decode (axt_b 179) 28 = .ok (.if_icmp .ge 27, 3) := by decide +kernel
theorem d_179_31 : decode (axt_b 179) 31 = .ok (.aload_n 0, 1) := by decide +kernel
theorem d_179_32 : decode (axt_b 179) 32 = .ok (.getfield 17, 3) := by decide +kernel
theorem d_179_35 : decode (axt_b 179) 35 = .ok (.sipush 200, 3) := by decide +kernel
theorem d_179_38 : decode (axt_b 179) 38 = .ok (.iload_n 1, 1) := by decide +kernel
theorem d_179_39 : decode (axt_b 179) 39 = .ok (.imul, 1) := by decide +kernel
theorem d_179_40 : decode (axt_b 179) 40 = .ok (.iload_n 2, 1) := by decide +kernel
theorem d_179_41 : decode (axt_b 179) 41 = .ok (.iadd, 1) := by decide +kernel
theorem d_179_42 : decode (axt_b 179) 42 = .ok (.aload_n 0, 1) := by decide +kernel
theorem d_179_43 : decode (axt_b 179) 43 = .ok (.getfield 13, 3) := by decide +kernel
theorem d_179_46 : decode (axt_b 179) 46 = .ok (.iload_n 2, 1) := by decide +kernel
theorem d_179_47 : decode (axt_b 179) 47 = .ok (.baload, 1) := by decide +kernel
theorem d_179_48 : decode (axt_b 179) 48 = .ok (.bastore, 1) := by decide +kernel
theorem d_179_49 : decode (axt_b 179) 49 = .ok (.iinc 2 1, 3) := by decide +kernel
theorem d_179_52 : decode (axt_b 179) 52 = .ok (.goto (-29), 3) := by decide +kernel
theorem d_179_55 : decode (axt_b 179) 55 = .ok (.aload_n 0, 1) := by decide +kernel
theorem d_179_56 : decode (axt_b 179) 56 = .ok (.getfield 20, 3) := by decide +kernel
theorem d_179_59 : decode (axt_b 179) 59 = .ok (.iload_n 1, 1) := by decide +kernel
theorem d_179_60 : decode (axt_b 179) 60 = .ok (.aload_n 0, 1) := by decide +kernel
theorem d_179_61 : decode (axt_b 179) 61 = .ok (.getfield 95, 3) := by decide +kernel
theorem d_179_64 : decode (axt_b 179) 64 = .ok (.iastore, 1) := by decide +kernel
theorem d_179_65 : decode (axt_b 179) 65 = .ok (.aload_n 0, 1) := by decide +kernel
theorem d_179_66 : decode (axt_b 179) 66 = .ok (.iconst 0, 1) := by decide +kernel
theorem d_179_67 : decode (axt_b 179) 67 = .ok (.putfield 95, 3) := by decide +kernel
theorem d_179_70 : decode (axt_b 179) 70 = .ok (.aload_n 0, 1) := by decide +kernel
theorem d_179_71 : decode (axt_b 179) 71 = .ok (.getfield 20, 3) := by decide +kernel
theorem d_179_74 : decode (axt_b 179) 74 = .ok (.iload_n 1, 1) := by decide +kernel
theorem d_179_75 : decode (axt_b 179) 75 = .ok (.iaload, 1) := by decide +kernel
theorem d_179_76 : decode (axt_b 179) 76 = .ok (.ireturn, 1) := by decide +kernel
theorem d_186_0 : decode (axt_b 186) 0 = .ok (.aload_n 0, 1) := by decide +kernel
theorem d_186_1 : decode (axt_b 186) 1 = .ok (.iload_n 1, 1) := by decide +kernel
theorem d_186_2 : decode (axt_b 186) 2 = .ok (.invokevirtual 112, 3) := by decide +kernel
theorem d_186_5 : decode (axt_b 186) 5 = .ok (.ifCond .ne 5, 3) := by decide +kernel
theorem d_186_8 : decode (axt_b 186) 8 = .ok (.iconst 0, 1) := by decide +kernel
theorem d_186_9 : decode (axt_b 186) 9 = .ok (.ireturn, 1) := by decide +kernel
theorem d_186_10 : decode (axt_b 186) 10 = .ok (.aload_n 0, 1) := by decide +kernel
theorem d_186_11 : decode (axt_b 186) 11 = .ok (.dup, 1) := by decide +kernel
theorem d_186_12 : decode (axt_b 186) 12 = .ok (.getfield 89, 3) := by decide +kernel
theorem d_186_15 : decode (axt_b 186) 15 = .ok (.iconst 1, 1) := by decide +kernel
theorem d_186_16 : decode (axt_b 186) 16 = .ok (.iload_n 1, 1) := by decide +kernel
theorem d_186_17 : decode (axt_b 186) 17 = .ok (.ishl, 1) := by decide +kernel
theorem d_186_18 : decode (axt_b 186) 18 = .ok (.ixor, 1) := by decide +kernel
theorem d_186_19 : decode (axt_b 186) 19 = .ok (.putfield 89, 3) := by decide +kernel
theorem d_186_22 : decode (axt_b 186) 22 = .ok (.aload_n 0, 1) := by decide +kernel
theorem d_186_23 : decode (axt_b 186) 23 = .ok (.iconst 0, 1) := by decide +kernel
theorem d_186_24 : decode (axt_b 186) 24 = .ok (.putfield 108, 3) := by decide +kernel
theorem d_186_27 : decode (axt_b 186) 27 = .ok (.iconst 1, 1) := by decide +kernel
theorem d_186_28 : decode (axt_b 186) 28 = .ok (.ireturn, 1) := by decide +kernel
theorem d_188_0 : decode (axt_b 188) 0 = .ok (.aload_n 0, 1) := by decide +kernel
theorem d_188_1 : decode (axt_b 188) 1 = .ok (.iload_n 1, 1) := by decide +kernel
theorem d_188_2 : decode (axt_b 188) 2 = .ok (.invokevirtual 116, 3) := by decide +kernel
theorem d_188_5 : decode (axt_b 188) 5 = .ok (.ifCond .ne 5, 3) := by decide +kernel
theorem d_188_8 : decode (axt_b 188) 8 = .ok (.iconst 0, 1) := by decide +kernel
theorem d_188_9 : decode (axt_b 188) 9 = .ok (.ireturn, 1) := by decide +kernel
theorem d_188_10 : decode (axt_b 188) 10 = .ok (.aload_n 0, 1) := by decide +kernel
theorem d_188_11 : decode (axt_b 188) 11 = .ok (.dup, 1) := by decide +kernel
theorem d_188_12 : decode (axt_b 188) 12 = .ok (.getfield 89, 3) := by decide +kernel
theorem d_188_15 : decode (axt_b 188) 15 = .ok (.iconst 1, 1) := by decide +kernel
theorem d_188_16 : decode (axt_b 188) 16 = .ok (.iload_n 1, 1) := by decide +kernel
theorem d_188_17 : decode (axt_b 188) 17 = .ok (.ishl, 1) := by decide +kernel
theorem d_188_18 : decode (axt_b 188) 18 = .ok (.ixor, 1) := by decide +kernel
theorem d_188_19 : decode (axt_b 188) 19 = .ok (.putfield 89, 3) := by decide +kernel
theorem d_188_22 : decode (axt_b 188) 22 = .ok (.aload_n 0, 1) := by decide +kernel
theorem d_188_23 : decode (axt_b 188) 23 = .ok (.iconst 0, 1) := by decide +kernel
theorem d_188_24 : decode (axt_b 188) 24 = .ok (.putfield 108, 3) := by decide +kernel
theorem d_188_27 : decode (axt_b 188) 27 = .ok (.iconst 1, 1) := by decide +kernel
theorem d_188_28 : decode (axt_b 188) 28 = .ok (.ireturn, 1) := by decide +kernel
theorem d_190_0 : decode (axt_b 190) 0 = .ok (.aload_n 0, 1) := by decide +kernel
theorem d_190_1 : decode (axt_b 190) 1 = .ok (.iload_n 1, 1) := by decide +kernel
theorem d_190_2 : decode (axt_b 190) 2 = .ok (.iconst 1, 1) := by decide +kernel
theorem d_190_3 : decode (axt_b 190) 3 = .ok (.aload_n 0, 1) := by decide +kernel
theorem d_190_4 : decode (axt_b 190) 4 = .ok (.getfield 80, 3) := by decide +kernel
theorem d_190_7 : decode (axt_b 190) 7 = .ok (.ishl, 1) := by decide +kernel
theorem d_190_8 : decode (axt_b 190) 8 = .ok (.iconst 1, 1) := by decide +kernel
theorem d_190_9 : decode (axt_b 190) 9 = .ok (.isub, 1) := by decide +kernel
theorem d_190_10 : decode (axt_b 190) 10 = .ok (.iand, 1) := by decide +kernel
theorem d_190_11 : decode (axt_b 190) 11 = .ok (.putfield 92, 3) := by decide +kernel
theorem d_190_14 : decode (axt_b 190) 14 = .ok (.aload_n 0, 1) := by decide +kernel
theorem d_190_15 : decode (axt_b 190) 15 = .ok (.dup, 1) := by decide +kernel
theorem d_190_16 : decode (axt_b 190) 16 = .ok (.getfield 7, 3) := by decide +kernel
theorem d_190_19 : decode (axt_b 190) 19 = .ok (.iconst 1, 1) := by decide +kernel
theorem d_190_20 : decode (axt_b 190) 20 = .ok (.iadd, 1) := by decide +kernel
theorem d_190_21 : decode (axt_b 190) 21 = .ok (.putfield 7, 3) := by decide +kernel
theorem d_190_24 : decode (axt_b 190) 24 = .ok (.aload_n 0, 1) := by decide +kernel
theorem d_190_25 : decode (axt_b 190) 25 = .ok (.iconst 0, 1) := by decide +kernel
theorem d_190_26 : decode (axt_b 190) 26 = .ok (.putfield 108, 3) := by decide +kernel
theorem d_190_29 : decode (axt_b 190) 29 = .ok (.aload_n 0, 1) := by decide +kernel
theorem d_190_30 : decode (axt_b 190) 30 = .ok (.getfield 7, 3) := by decide +kernel
theorem d_190_33 : decode (axt_b 190) 33 = .ok (.ireturn, 1) := by decide +kernel
theorem d_191_0 : decode (axt_b 191) 0 = .ok (.aload_n 0, 1) := by decide +kernel
theorem d_191_1 : decode (axt_b 191) 1 = .ok (.iload_n 1, 1) := by decide +kernel
theorem d_191_2 : decode (axt_b 191) 2 = .ok (.invokevirtual 116, 3) := by decide +kernel
theorem d_191_5 : decode (axt_b 191) 5 = .ok (.ifCond .eq 16, 3) := by decide +kernel
theorem d_191_8 : decode (axt_b 191) 8 = .ok (.aload_n 0, 1) := by decide +kernel
theorem d_191_9 : decode (axt_b 191) 9 = .ok (.getfield 119, 3) := by decide +kernel
theorem d_191_12 : decode (axt_b 191) 12 = .ok (.aload_n 0, 1) := by decide +kernel
theorem d_191_13 : decode (axt_b 191) 13 = .ok (.getfield 83, 3) := by decide +kernel
theorem d_191_16 : decode (axt_b 191) 16 = .ok (.iconst 1, 1) := by decide +kernel
theorem d_191_17 : decode (axt_b 191) 17 = .ok (.isub, 1) := by decide +kernel
theorem d_191_18 : decode (axt_b 191) 18 = .ok (.if_icmp .ne 5, 3) := by decide +kernel
theorem d_191_21 : decode (axt_b 191) 21 = .ok (.iconst 0, 1) := by decide +kernel
theorem d_191_22 : decode (axt_b 191) 22 = .ok (.ireturn, 1) := by decide +kernel
theorem d_191_23 : decode (axt_b 191) 23 = .ok (.aload_n 0, 1) := by decide +kernel
theorem d_191_24 : decode (axt_b 191) 24 = .ok (.dup, 1) := by decide +kernel
theorem d_191_25 : decode (axt_b 191) 25 = .ok (.getfield 119, 3) := by decide +kernel
theorem d_191_28 : decode (axt_b 191) 28 = .ok (.iconst 1, 1) := by decide +kernel
theorem d_191_29 : decode (axt_b 191) 29 = .ok (.iadd, 1) := by decide +kernel
theorem d_191_30 : decode (axt_b 191) 30 = .ok (.putfield 119, 3) := by decide +kernel
theorem d_191_33 : decode (axt_b 191) 33 = .ok (.aload_n 0, 1) := by decide +kernel
theorem d_191_34 : decode (axt_b 191) 34 = .ok (.dup, 1) := by decide +kernel
theorem d_191_35 : decode (axt_b 191) 35 = .ok (.getfield 7, 3) := by decide +kernel
theorem d_191_38 : decode (axt_b 191) 38 = .ok (.iconst 1, 1) := by decide +kernel
theorem d_191_39 : decode (axt_b 191) 39 = .ok (.iadd, 1) := by decide +kernel
theorem d_191_40 : decode (axt_b 191) 40 = .ok (.putfield 7, 3) := by decide +kernel
theorem d_191_43 : decode (axt_b 191) 43 = .ok (.aload_n 0, 1) := by decide +kernel
theorem d_191_44 : decode (axt_b 191) 44 = .ok (.iconst 0, 1) := by decide +kernel
theorem d_191_45 : decode (axt_b 191) 45 = .ok (.putfield 108, 3) := by decide +kernel
theorem d_191_48 : decode (axt_b 191) 48 = .ok (.iconst 1, 1) := by decide +kernel
theorem d_191_49 : decode (axt_b 191) 49 = .ok (.ireturn, 1) := by decide +kernel
theorem d_192_0 : decode (axt_b 192) 0 = .ok (.aload_n 0, 1) := by decide +kernel
theorem d_192_1 : decode (axt_b 192) 1 = .ok (.getfield 102, 3) := by decide +kernel
theorem d_192_4 : decode (axt_b 192) 4 = .ok (.istore_n 1, 1) := by decide +kernel
theorem d_192_5 : decode (axt_b 192) 5 = .ok (.aload_n 0, 1) := by decide +kernel
theorem d_192_6 : decode (axt_b 192) 6 = .ok (.aload_n 0, 1) := by decide +kernel
theorem d_192_7 : decode (axt_b 192) 7 = .ok (.getfield 105, 3) := by decide +kernel
theorem d_192_10 : decode (axt_b 192) 10 = .ok (.iload_n 1, 1) := by decide +kernel
theorem d_192_11 : decode (axt_b 192) 11 = .ok (.isub, 1) := by decide +kernel
theorem d_192_12 : decode (axt_b 192) 12 = .ok (.putfield 174, 3) := by decide +kernel
theorem d_192_15 : decode (axt_b 192) 15 = .ok (.aload_n 0, 1) := by decide +kernel
theorem d_192_16 : decode (axt_b 192) 16 = .ok (.iload_n 1, 1) := by decide +kernel
theorem d_192_17 : decode (axt_b 192) 17 = .ok (.putfield 177, 3) := by decide +kernel
theorem d_192_20 : decode (axt_b 192) 20 = .ok (.iconst 0, 1) := by decide +kernel
theorem d_192_21 : decode (axt_b 192) 21 = .ok (.istore_n 2, 1) := by decide +kernel
theorem d_192_22 : decode (axt_b 192) 22 = .ok (.iload_n 2, 1) := by decide +kernel
theorem d_192_23 : decode (axt_b 192) 23 = .ok (.iload_n 1, 1) := by decide +kernel
theorem d_192_24 : decode (axt_b 192) 24 = .ok (.if_icmp .ge 81, 3) := by decide +kernel
theorem d_192_27 : decode (axt_b 192) 27 = .ok (.aload_n 0, 1) := by decide +kernel
theorem d_192_28 : decode (axt_b 192) 28 = .ok (.getfield 174, 3) := by decide +kernel
theorem d_192_31 : decode (axt_b 192) 31 = .ok (.iload_n 2, 1) := by decide +kernel
theorem d_192_32 : decode (axt_b 192) 32 = .ok (.iadd, 1) := by decide +kernel
theorem d_192_33 : decode (axt_b 192) 33 = .ok (.istore_n 3, 1) := by decide +kernel
theorem d_192_34 : decode (axt_b 192) 34 = .ok (.iload_n 3, 1) := by decide +kernel
theorem d_192_35 : decode (axt_b 192) 35 = .ok (.aload_n 0, 1) := by decide +kernel
theorem d_192_36 : decode (axt_b 192) 36 = .ok (.getfield 71, 3) := by decide +kernel
theorem d_192_39 : decode (axt_b 192) 39 = .ok (.arraylength, 1) := by decide +kernel
theorem d_192_40 : decode (axt_b 192) 40 = .ok (.if_icmp .lt 47, 3) := by decide +kernel
theorem d_192_43 : decode (axt_b 192) 43 = .ok (.iconst 2, 1) := by decide +kernel
theorem d_192_44 : decode (axt_b 192) 44 = .ok (.aload_n 0, 1) := by decide +kernel
theorem d_192_45 : decode (axt_b 192) 45 = .ok (.getfield 71, 3) := by decide +kernel
theorem d_192_48 : decode (axt_b 192) 48 = .ok (.arraylength, 1) := by decide +kernel
theorem d_192_49 : decode (axt_b 192) 49 = .ok (.imul, 1) := by decide +kernel
theorem d_192_50 : decode (axt_b 192) 50 = .ok (.newarray .int, 2) := by decide +kernel
theorem d_192_52 : decode (axt_b 192) 52 = .ok (.astore 4, 2) := by decide +kernel
theorem d_192_54 : decode (axt_b 192) 54 = .ok (.iconst 0, 1) := by decide +kernel
theorem d_192_55 : decode (axt_b 192) 55 = .ok (.istore 5, 2) := by decide +kernel
theorem d_192_57 : decode (axt_b 192) 57 = .ok (.iload 5, 2) := by decide +kernel
theorem d_192_59 : decode (axt_b 192) 59 = .ok (.iload_n 3, 1) := by decide +kernel
theorem d_192_60 : decode (axt_b 192) 60 = .ok (.if_icmp .ge 21, 3) := by decide +kernel
theorem d_192_63 : decode (axt_b 192) 63 = .ok (.aload 4, 2) := by decide +kernel
theorem d_192_65 : decode (axt_b 192) 65 = .ok (.iload 5, 2) := by decide +kernel
theorem d_192_67 : decode (axt_b 192) 67 = .ok (.aload_n 0, 1) := by decide +kernel
theorem d_192_68 : decode (axt_b 192) 68 = .ok (.getfield 71, 3) := by decide +kernel
theorem d_192_71 : decode (axt_b 192) 71 = .ok (.iload 5, 2) := by decide +kernel
theorem d_192_73 : decode (axt_b 192) 73 = .ok (.iaload, 1) := by decide +kernel
theorem d_192_74 : decode (axt_b 192) 74 = .ok (.iastore, 1) := by decide +kernel
theorem d_192_75 : decode (axt_b 192) 75 = .ok (.iinc 5 1, 3) := by decide +kernel
theorem d_192_78 : decode (axt_b 192) 78 = .ok (.goto (-21), 3) := by decide +kernel
theorem d_192_81 : decode (axt_b 192) 81 = .ok (.aload_n 0, 1) := by decide +kernel
theorem d_192_82 : decode (axt_b 192) 82 = .ok (.aload 4, 2) := by decide +kernel
theorem d_192_84 : decode (axt_b 192) 84 = .ok (.putfield 71, 3) := by decide +kernel
theorem d_192_87 : decode (axt_b 192) 87 = .ok (.aload_n 0, 1) := by decide +kernel
theorem d_192_88 : decode (axt_b 192) 88 = .ok (.getfield 71, 3) := by decide +kernel
theorem d_192_91 : decode (axt_b 192) 91 = .ok (.iload_n 3, 1) := by decide +kernel
theorem d_192_92 : decode (axt_b 192) 92 = .ok (.aload_n 0, 1) := by decide +kernel
theorem d_192_93 : decode (axt_b 192) 93 = .ok (.iload_n 2, 1) := by decide +kernel
theorem d_192_94 : decode (axt_b 192) 94 = .ok (.iload_n 3, 1) := by decide +kernel
theorem d_192_95 : decode (axt_b 192) 95 = .ok (.invokevirtual 180, 3) := by decide +kernel
theorem d_192_98 : decode (axt_b 192) 98 = .ok (.iastore, 1) := by decide +kernel
theorem d_192_99 : decode (axt_b 192) 99 = .ok (.iinc 2 1, 3) := by decide +kernel
theorem d_192_102 : decode (axt_b 192) 102 = .ok (.goto (-80), 3) := by decide +kernel
theorem d_192_105 : decode (axt_b 192) 105 = .ok (.aload_n 0, 1) := by decide +kernel
theorem d_192_106 : decode (axt_b 192) 106 = .ok (.iconst 0, 1) := by decide +kernel
theorem d_192_107 : decode (axt_b 192) 107 = .ok (.putfield 102, 3) := by decide +kernel
theorem d_192_110 : decode (axt_b 192) 110 = .ok (.aload_n 0, 1) := by decide +kernel
theorem d_192_111 : decode (axt_b 192) 111 = .ok (.iconst 1, 1) := by decide +kernel
theorem d_192_112 : decode (axt_b 192) 112 = .ok (.aload_n 0, 1) := by decide +kernel
theorem d_192_113 : decode (axt_b 192) 113 = .ok (.getfield 80, 3) := by decide +kernel
theorem d_192_116 : decode (axt_b 192) 116 = .ok (.ishl, 1) := by decide +kernel
theorem d_192_117 : decode (axt_b 192) 117 = .ok (.iconst 1, 1) := by decide +kernel
theorem d_192_118 : decode (axt_b 192) 118 = .ok (.isub, 1) := by decide +kernel
theorem d_192_119 : decode (axt_b 192) 119 = .ok (.putfield 89, 3) := by decide +kernel
theorem d_192_122 : decode (axt_b 192) 122 = .ok (.aload_n 0, 1) := by decide +kernel
theorem d_192_123 : decode (axt_b 192) 123 = .ok (.aload_n 0, 1) := by decide +kernel
theorem d_192_124 : decode (axt_b 192) 124 = .ok (.getfield 89, 3) := by decide +kernel
theorem d_192_127 : decode (axt_b 192) 127 = .ok (.putfield 92, 3) := by decide +kernel
theorem d_192_130 : decode (axt_b 192) 130 = .ok (.aload_n 0, 1) := by decide +kernel
theorem d_192_131 : decode (axt_b 192) 131 = .ok (.dup, 1) := by decide +kernel
theorem d_192_132 : decode (axt_b 192) 132 = .ok (.getfield 7, 3) := by decide +kernel
theorem d_192_135 : decode (axt_b 192) 135 = .ok (.iconst 1, 1) := by decide +kernel
theorem d_192_136 : decode (axt_b 192) 136 = .ok (.iadd, 1) := by decide +kernel
theorem d_192_137 : decode (axt_b 192) 137 = .ok (.putfield 7, 3) := by decide +kernel
theorem d_192_140 : decode (axt_b 192) 140 = .ok (.aload_n 0, 1) := by decide +kernel
theorem d_192_141 : decode (axt_b 192) 141 = .ok (.iconst 0, 1) := by decide +kernel
theorem d_192_142 : decode (axt_b 192) 142 = .ok (.putfield 119, 3) := by decide +kernel
theorem d_192_145 : decode (axt_b 192) 145 = .ok (.aload_n 0, 1) := by decide +kernel
theorem d_192_146 : decode (axt_b 192) 146 = .ok (.iconst 1, 1) := by decide +kernel
theorem d_192_147 : decode (axt_b 192) 147 = .ok (.putfield 108, 3) := by decide +kernel
theorem d_192_150 : decode (axt_b 192) 150 = .ok (.aload_n 0, 1) := by decide +kernel
theorem d_192_151 : decode (axt_b 192) 151 = .ok (.aload_n 0, 1) := by decide +kernel
theorem d_192_152 : decode (axt_b 192) 152 = .ok (.getfield 122, 3) := by decide +kernel
theorem d_192_155 : decode (axt_b 192) 155 = .ok (.putfield 183, 3) := by decide +kernel
theorem d_192_158 : decode (axt_b 192) 158 = .ok (.aload_n 0, 1) := by decide +kernel
theorem d_192_159 : decode (axt_b 192) 159 = .ok (.aload_n 0, 1) := by decide +kernel
theorem d_192_160 : decode (axt_b 192) 160 = .ok (.getfield 136, 3) := by decide +kernel
theorem d_192_163 : decode (axt_b 192) 163 = .ok (.putfield 186, 3) := by decide +kernel
theorem d_192_166 : decode (axt_b 192) 166 = .ok (.aload_n 0, 1) := by decide +kernel
theorem d_192_167 : decode (axt_b 192) 167 = .ok (.iconst 0, 1) := by decide +kernel
theorem d_192_168 : decode (axt_b 192) 168 = .ok (.putfield 189, 3) := by decide +kernel
theorem d_192_171 : decode (axt_b 192) 171 = .ok (.iconst 0, 1) := by decide +kernel
theorem d_192_172 : decode (axt_b 192) 172 = .ok (.istore_n 2, 1) := by decide +kernel
theorem d_192_173 : decode (axt_b 192) 173 = .ok (.iload_n 2, 1) := by decide +kernel
theorem d_192_174 : decode (axt_b 192) 174 = .ok (.aload_n 0, 1) := by decide +kernel
theorem d_192_175 : decode (axt_b 192) 175 = .ok (.getfield 122, 3) := by decide +kernel
theorem d_192_178 : decode (axt_b 192) 178 = .ok (.if_icmp .ge 28, 3) := by decide +kernel
theorem d_192_181 : decode (axt_b 192) 181 = .ok (.aload_n 0, 1) := by decide +kernel
theorem d_192_182 : decode (axt_b 192) 182 = .ok (.dup, 1) := by decide +kernel
theorem d_192_183 : decode (axt_b 192) 183 = .ok (.getfield 189, 3) := by decide +kernel
theorem d_192_186 : decode (axt_b 192) 186 = .ok (.aload_n 0, 1) := by decide +kernel
theorem d_192_187 : decode (axt_b 192) 187 = .ok (.aload_n 0, 1) := by decide +kernel
theorem d_192_188 : decode (axt_b 192) 188 = .ok (.getfield 24, 3) := by decide +kernel
theorem d_192_191 : decode (axt_b 192) 191 = .ok (.iload_n 2, 1) := by decide +kernel
theorem d_192_192 : decode (axt_b 192) 192 = .ok (.iaload, 1) := by decide +kernel
theorem d_192_193 : decode (axt_b 192) 193 = .ok (.invokevirtual 192, 3) := by decide +kernel
theorem d_192_196 : decode (axt_b 192) 196 = .ok (.iadd, 1) := by decide +kernel
theorem d_192_197 : decode (axt_b 192) 197 = .ok (.putfield 189, 3) := by decide +kernel
theorem d_192_200 : decode (axt_b 192) 200 = .ok (.iinc 2 1, 3) := by decide +kernel
theorem d_192_203 : decode (axt_b 192) 203 = .ok (.goto (-30), 3) := by decide +kernel
theorem d_192_206 : decode (axt_b 192) 206 = .ok (.iload_n 1, 1) := by decide +kernel
theorem d_192_207 : decode (axt_b 192) 207 = .ok (.ireturn, 1) := by decide +kernel
theorem d_217_0 : decode (axt_b 217) 0 = .ok (.iload_n 1, 1) := by decide +kernel
theorem d_217_1 : decode (axt_b 217) 1 = .ok (.tableswitch 125 0 10 #[59, 64, 69, 74, 79, 84, 89, 97, 102, 107, 112], 59) := by decide +kernel
theorem d_217_60 : decode (axt_b 217) 60 = .ok (.aload_n 0, 1) := by decide +kernel
theorem d_217_61 : decode (axt_b 217) 61 = .ok (.getfield 183, 3) := by decide +kernel
theorem d_217_64 : decode (axt_b 217) 64 = .ok (.ireturn, 1) := by decide +kernel
theorem d_217_65 : decode (axt_b 217) 65 = .ok (.aload_n 0, 1) := by decide +kernel
theorem d_217_66 : decode (axt_b 217) 66 = .ok (.getfield 186, 3) := by decide +kernel
theorem d_217_69 : decode (axt_b 217) 69 = .ok (.ireturn, 1) := by decide +kernel
theorem d_217_70 : decode (axt_b 217) 70 = .ok (.aload_n 0, 1) := by decide +kernel
theorem d_217_71 : decode (axt_b 217) 71 = .ok (.getfield 189, 3) := by decide +kernel
theorem d_217_74 : decode (axt_b 217) 74 = .ok (.ireturn, 1) := by decide +kernel
theorem d_217_75 : decode (axt_b 217) 75 = .ok (.aload_n 0, 1) := by decide +kernel
theorem d_217_76 : decode (axt_b 217) 76 = .ok (.getfield 105, 3) := by decide +kernel
theorem d_217_79 : decode (axt_b 217) 79 = .ok (.ireturn, 1) := by decide +kernel
theorem d_217_80 : decode (axt_b 217) 80 = .ok (.aload_n 0, 1) := by decide +kernel
theorem d_217_81 : decode (axt_b 217) 81 = .ok (.getfield 102, 3) := by decide +kernel
theorem d_217_84 : decode (axt_b 217) 84 = .ok (.ireturn, 1) := by decide +kernel
theorem d_217_85 : decode (axt_b 217) 85 = .ok (.aload_n 0, 1) := by decide +kernel
theorem d_217_86 : decode (axt_b 217) 86 = .ok (.getfield 7, 3) := by decide +kernel
theorem d_217_89 : decode (axt_b 217) 89 = .ok (.ireturn, 1) := by decide +kernel
theorem d_217_90 : decode (axt_b 217) 90 = .ok (.aload_n 0, 1) := by decide +kernel
theorem d_217_91 : decode (axt_b 217) 91 = .ok (.getfield 89, 3) := by decide +kernel
theorem d_217_94 : decode (axt_b 217) 94 = .ok (.invokestatic 208, 3) := by decide +kernel
theorem d_217_97 : decode (axt_b 217) 97 = .ok (.ireturn, 1) := by decide +kernel
theorem d_217_98 : decode (axt_b 217) 98 = .ok (.aload_n 0, 1) := by decide +kernel
theorem d_217_99 : decode (axt_b 217) 99 = .ok (.getfield 92, 3) := by decide +kernel
theorem d_217_102 : decode (axt_b 217) 102 = .ok (.ireturn, 1) := by decide +kernel
theorem d_217_103 : decode (axt_b 217) 103 = .ok (.aload_n 0, 1) := by decide +kernel
theorem d_217_104 : decode (axt_b 217) 104 = .ok (.getfield 119, 3) := by decide +kernel
theorem d_217_107 : decode (axt_b 217) 107 = .ok (.ireturn, 1) := by decide +kernel
theorem d_217_108 : decode (axt_b 217) 108 = .ok (.aload_n 0, 1) := by decide +kernel
theorem d_217_109 : decode (axt_b 217) 109 = .ok (.getfield 95, 3) := by decide +kernel
theorem d_217_112 : decode (axt_b 217) 112 = .ok (.ireturn, 1) := by decide +kernel
theorem d_217_113 : decode (axt_b 217) 113 = .ok (.aload_n 0, 1) := by decide +kernel
theorem d_217_114 : decode (axt_b 217) 114 = .ok (.getfield 108, 3) := by decide +kernel
theorem d_217_117 : decode (axt_b 217) 117 = .ok (.ifCond .eq 7, 3) := by decide +kernel
theorem d_217_120 : decode (axt_b 217) 120 = .ok (.iconst 1, 1) := by decide +kernel
theorem d_217_121 : decode (axt_b 217) 121 = .ok (.goto 4, 3) := by decide +kernel
theorem d_217_124 : decode (axt_b 217) 124 = .ok (.iconst 0, 1) := by decide +kernel
theorem d_217_125 : decode (axt_b 217) 125 = .ok (.ireturn, 1) := by decide +kernel
theorem d_217_126 : decode (axt_b 217) 126 = .ok (.iconst (-1), 1) := by decide +kernel
theorem d_217_127 : decode (axt_b 217) 127 = .ok (.ireturn, 1) := by decide +kernel
theorem d_218_0 : decode (axt_b 218) 0 = .ok (.iconst 0, 1) := by decide +kernel
theorem d_218_1 : decode (axt_b 218) 1 = .ok (.istore_n 1, 1) := by decide +kernel
theorem d_218_2 : decode (axt_b 218) 2 = .ok (.iload_n 0, 1) := by decide +kernel
theorem d_218_3 : decode (axt_b 218) 3 = .ok (.istore_n 2, 1) := by decide +kernel
theorem d_218_4 : decode (axt_b 218) 4 = .ok (.iload_n 2, 1) := by decide +kernel
theorem d_218_5 : decode (axt_b 218) 5 = .ok (.ifCond .eq 15, 3) := by decide +kernel
theorem d_218_8 : decode (axt_b 218) 8 = .ok (.iinc 1 1, 3) := by decide +kernel
theorem d_218_11 : decode (axt_b 218) 11 = .ok (.iload_n 2, 1) := by decide +kernel
theorem d_218_12 : decode (axt_b 218) 12 = .ok (.iload_n 2, 1) := by decide +kernel
theorem d_218_13 : decode (axt_b 218) 13 = .ok (.iconst 1, 1) := by decide +kernel
theorem d_218_14 : decode (axt_b 218) 14 = .ok (.isub, 1) := by decide +kernel
theorem d_218_15 : decode (axt_b 218) 15 = .ok (.iand, 1) := by decide +kernel
theorem d_218_16 : decode (axt_b 218) 16 = .ok (.istore_n 2, 1) := by decide +kernel
theorem d_218_17 : decode (axt_b 218) 17 = .ok (.goto (-13), 3) := by decide +kernel
theorem d_218_20 : decode (axt_b 218) 20 = .ok (.iload_n 1, 1) := by decide +kernel
theorem d_218_21 : decode (axt_b 218) 21 = .ok (.ireturn, 1) := by decide +kernel
theorem n_177 {L : Nat} {xs : Nat → Int32} {fr lo m n sl : Nat} {h : ax_H} {fs : List Value} {a8 l : Nat} {tf : Nat → Int32} {wd : Int32} (hl4 : l + 4 ≤ 2048) (hl : fs.length = 39) (z8 : fs[8]? = some (.ref a8)) (z9 : fs[9]? = some (.int (nI l))) (hF : ax_hs h [(m, .inr (11, fs)), (a8, .inl (1, 2048, .inl tf))]) (hn : h.1 = n) (hs : h.2.1 = sl) (hn0 : 0 < n) : ax_M L xs 177 fr lo [.ref m, .int wd] h (fun r h' => ∃ fs' tf', r = none ∧ fs'.length = 39 ∧ fs'[8]? = some (.ref a8) ∧ fs'[9]? = some (.int (nI (l + 4))) ∧ (∀ k, k ≠ 9 → fs'[k]? = fs[k]?) ∧ ax_hs h' [(m, .inr (11, fs')), (a8, .inl (1, 2048, .inl tf'))] ∧ h'.1 = n ∧ h'.2.1 = sl ∧ ax_fr (fun x => x ∈ [m, a8]) h h') := by
  show ax_A (ax_step L xs) ((177, 0, fr, lo), [(0, .ref m), (1, .int wd)], [], h) _
  have hbase : h.1 = n := hn
  have hbasl : h.2.1 = sl := hs
  have hf : ax_fr (fun x => x ∈ [m, a8]) h h := ax_fr.rf
  have hO : ∀ k, k ≠ 9 → fs[k]? = fs[k]? := fun _ _ => rfl
  refine ar_bipush 2 (v := 24) d_177_0 rfl (by decide) ?_
  refine ar_istore_n 3 [(0, .ref m), (1, .int wd), (2, .int 24)] d_177_2 rfl (by decide) rfl ?_
  refine ar_iload_n 4 d_177_3 rfl rfl ?_
  refine ar_if_lt 36 7 d_177_4 (by decide) rfl (fun c => absurd c (by decide)) (fun _ => ?_)
  refine ar_aload_n 8 d_177_7 rfl rfl ?_
  refine ar_getf 11 d_177_8 rfl (ci := 11) (k := 8) rfl (hF.at 0 rfl) z8 ?_
  refine ar_aload_n 12 d_177_11 rfl rfl ?_
  refine ar_getf 15 d_177_12 rfl (ci := 11) (k := 9) rfl (hF.at 0 rfl) z9 ?_
  refine ar_iload_n 16 d_177_15 rfl rfl ?_
  refine ar_iload_n 17 d_177_16 rfl rfl ?_
  refine ar_ishr 18 d_177_17 rfl ?_
  refine ar_i2b 19 d_177_18 rfl ?_
  refine ar_bast 20 d_177_19 rfl (hF.at 1 rfl) (nI_in (by omega) (by omega)) ?_
  replace hF : ax_hs (ax_put h a8 (.inl (1, 2048, .inl (upd tf (nI l).toNatClampNeg (vp_nar .byte ((wd >>> (24 &&& 31)).toInt8.toInt32)))))) [(m, .inr (11, fs)), (a8, .inl (1, 2048, .inl (upd tf (nI l).toNatClampNeg (vp_nar .byte ((wd >>> (24 &&& 31)).toInt8.toInt32)))))] := hF.put 1 _ rfl rfl
  replace hf := hf.put (a := a8) (c := .inl (1, 2048, .inl (upd tf (nI l).toNatClampNeg (vp_nar .byte ((wd >>> (24 &&& 31)).toInt8.toInt32))))) (by simp)
  replace hn : (ax_put h a8 (.inl (1, 2048, .inl (upd tf (nI l).toNatClampNeg (vp_nar .byte ((wd >>> (24 &&& 31)).toInt8.toInt32)))))).1 = n := hn
  replace hs : (ax_put h a8 (.inl (1, 2048, .inl (upd tf (nI l).toNatClampNeg (vp_nar .byte ((wd >>> (24 &&& 31)).toInt8.toInt32)))))).2.1 = sl := hs
  generalize ax_put h a8 (.inl (1, 2048, .inl (upd tf (nI l).toNatClampNeg (vp_nar .byte ((wd >>> (24 &&& 31)).toInt8.toInt32))))) = h1 at hF hf hn hs ⊢
  refine ar_aload_n 21 d_177_20 rfl rfl ?_
  refine ar_dup 22 d_177_21 rfl rfl ?_
  refine ar_getf 25 d_177_22 rfl (ci := 11) (k := 9) rfl (hF.at 0 rfl) z9 ?_
  refine ar_iconst 26 (v := 1) d_177_25 rfl (by decide) ?_
  refine ar_iadd 27 d_177_26 rfl ?_
  refine ar_top (x' := nI (l + 1)) ((nI_succ (l)).symm) ?_
  refine ar_putf 30 (fs.set 9 (.int (nI (l + 1)))) d_177_27 rfl (ci := 11) (k := 9) rfl rfl (hF.at 0 rfl) (by rw [hl]; decide) rfl rfl rfl ?_
  replace hF : ax_hs (ax_put h1 m (.inr (11, (fs.set 9 (.int (nI (l + 1))))))) [(m, .inr (11, (fs.set 9 (.int (nI (l + 1)))))), (a8, .inl (1, 2048, .inl (upd tf (nI l).toNatClampNeg (vp_nar .byte ((wd >>> (24 &&& 31)).toInt8.toInt32)))))] := hF.put 0 _ rfl rfl
  replace hf := hf.put (a := m) (c := .inr (11, (fs.set 9 (.int (nI (l + 1)))))) (by simp)
  replace hn : (ax_put h1 m (.inr (11, (fs.set 9 (.int (nI (l + 1))))))).1 = n := hn
  replace hs : (ax_put h1 m (.inr (11, (fs.set 9 (.int (nI (l + 1))))))).2.1 = sl := hs
  generalize ax_put h1 m (.inr (11, (fs.set 9 (.int (nI (l + 1)))))) = h2 at hF hf hn hs ⊢
  replace z8 : (fs.set 9 (.int (nI (l + 1))))[8]? = some (.ref a8) := (List.getElem?_set_ne (by decide)).trans z8
  replace z9 : (fs.set 9 (.int (nI (l + 1))))[9]? = some (.int (nI (l + 1))) := List.getElem?_set_self (by rw [hl]; decide)
  replace hO : ∀ k, k ≠ 9 → (fs.set 9 (.int (nI (l + 1))))[k]? = fs[k]? := fun k y9 => (List.getElem?_set_ne (Ne.symm y9)).trans (hO k y9)
  replace hl : (fs.set 9 (.int (nI (l + 1)))).length = 39 := (List.length_set ..).trans hl
  generalize (fs.set 9 (.int (nI (l + 1)))) = fs1 at hF hl hO z8 z9 ⊢
  refine ar_iinc 33 [(0, .ref m), (1, .int wd), (2, .int 16)] d_177_30 rfl rfl (by decide) (by decide) rfl ?_
  refine ar_goto 3 d_177_33 (by decide) ?_
  refine ar_iload_n 4 d_177_3 rfl rfl ?_
  refine ar_if_lt 36 7 d_177_4 (by decide) rfl (fun c => absurd c (by decide)) (fun _ => ?_)
  refine ar_aload_n 8 d_177_7 rfl rfl ?_
  refine ar_getf 11 d_177_8 rfl (ci := 11) (k := 8) rfl (hF.at 0 rfl) z8 ?_
  refine ar_aload_n 12 d_177_11 rfl rfl ?_
  refine ar_getf 15 d_177_12 rfl (ci := 11) (k := 9) rfl (hF.at 0 rfl) z9 ?_
  refine ar_iload_n 16 d_177_15 rfl rfl ?_
  refine ar_iload_n 17 d_177_16 rfl rfl ?_
  refine ar_ishr 18 d_177_17 rfl ?_
  refine ar_i2b 19 d_177_18 rfl ?_
  refine ar_bast 20 d_177_19 rfl (hF.at 1 rfl) (nI_in (by omega) (by omega)) ?_
  replace hF : ax_hs (ax_put h2 a8 (.inl (1, 2048, .inl (upd (upd tf (nI l).toNatClampNeg (vp_nar .byte ((wd >>> (24 &&& 31)).toInt8.toInt32))) (nI (l + 1)).toNatClampNeg (vp_nar .byte ((wd >>> (16 &&& 31)).toInt8.toInt32)))))) [(m, .inr (11, fs1)), (a8, .inl (1, 2048, .inl (upd (upd tf (nI l).toNatClampNeg (vp_nar .byte ((wd >>> (24 &&& 31)).toInt8.toInt32))) (nI (l + 1)).toNatClampNeg (vp_nar .byte ((wd >>> (16 &&& 31)).toInt8.toInt32)))))] := hF.put 1 _ rfl rfl
  replace hf := hf.put (a := a8) (c := .inl (1, 2048, .inl (upd (upd tf (nI l).toNatClampNeg (vp_nar .byte ((wd >>> (24 &&& 31)).toInt8.toInt32))) (nI (l + 1)).toNatClampNeg (vp_nar .byte ((wd >>> (16 &&& 31)).toInt8.toInt32))))) (by simp)
  replace hn : (ax_put h2 a8 (.inl (1, 2048, .inl (upd (upd tf (nI l).toNatClampNeg (vp_nar .byte ((wd >>> (24 &&& 31)).toInt8.toInt32))) (nI (l + 1)).toNatClampNeg (vp_nar .byte ((wd >>> (16 &&& 31)).toInt8.toInt32)))))).1 = n := hn
  replace hs : (ax_put h2 a8 (.inl (1, 2048, .inl (upd (upd tf (nI l).toNatClampNeg (vp_nar .byte ((wd >>> (24 &&& 31)).toInt8.toInt32))) (nI (l + 1)).toNatClampNeg (vp_nar .byte ((wd >>> (16 &&& 31)).toInt8.toInt32)))))).2.1 = sl := hs
  generalize ax_put h2 a8 (.inl (1, 2048, .inl (upd (upd tf (nI l).toNatClampNeg (vp_nar .byte ((wd >>> (24 &&& 31)).toInt8.toInt32))) (nI (l + 1)).toNatClampNeg (vp_nar .byte ((wd >>> (16 &&& 31)).toInt8.toInt32))))) = h3 at hF hf hn hs ⊢
  refine ar_aload_n 21 d_177_20 rfl rfl ?_
  refine ar_dup 22 d_177_21 rfl rfl ?_
  refine ar_getf 25 d_177_22 rfl (ci := 11) (k := 9) rfl (hF.at 0 rfl) z9 ?_
  refine ar_iconst 26 (v := 1) d_177_25 rfl (by decide) ?_
  refine ar_iadd 27 d_177_26 rfl ?_
  refine ar_top (x' := nI (l + 2)) ((nI_succ (l + 1)).symm) ?_
  refine ar_putf 30 (fs1.set 9 (.int (nI (l + 2)))) d_177_27 rfl (ci := 11) (k := 9) rfl rfl (hF.at 0 rfl) (by rw [hl]; decide) rfl rfl rfl ?_
  replace hF : ax_hs (ax_put h3 m (.inr (11, (fs1.set 9 (.int (nI (l + 2))))))) [(m, .inr (11, (fs1.set 9 (.int (nI (l + 2)))))), (a8, .inl (1, 2048, .inl (upd (upd tf (nI l).toNatClampNeg (vp_nar .byte ((wd >>> (24 &&& 31)).toInt8.toInt32))) (nI (l + 1)).toNatClampNeg (vp_nar .byte ((wd >>> (16 &&& 31)).toInt8.toInt32)))))] := hF.put 0 _ rfl rfl
  replace hf := hf.put (a := m) (c := .inr (11, (fs1.set 9 (.int (nI (l + 2)))))) (by simp)
  replace hn : (ax_put h3 m (.inr (11, (fs1.set 9 (.int (nI (l + 2))))))).1 = n := hn
  replace hs : (ax_put h3 m (.inr (11, (fs1.set 9 (.int (nI (l + 2))))))).2.1 = sl := hs
  generalize ax_put h3 m (.inr (11, (fs1.set 9 (.int (nI (l + 2)))))) = h4 at hF hf hn hs ⊢
  replace z8 : (fs1.set 9 (.int (nI (l + 2))))[8]? = some (.ref a8) := (List.getElem?_set_ne (by decide)).trans z8
  replace z9 : (fs1.set 9 (.int (nI (l + 2))))[9]? = some (.int (nI (l + 2))) := List.getElem?_set_self (by rw [hl]; decide)
  replace hO : ∀ k, k ≠ 9 → (fs1.set 9 (.int (nI (l + 2))))[k]? = fs[k]? := fun k y9 => (List.getElem?_set_ne (Ne.symm y9)).trans (hO k y9)
  replace hl : (fs1.set 9 (.int (nI (l + 2)))).length = 39 := (List.length_set ..).trans hl
  generalize (fs1.set 9 (.int (nI (l + 2)))) = fs2 at hF hl hO z8 z9 ⊢
  refine ar_iinc 33 [(0, .ref m), (1, .int wd), (2, .int 8)] d_177_30 rfl rfl (by decide) (by decide) rfl ?_
  refine ar_goto 3 d_177_33 (by decide) ?_
  refine ar_iload_n 4 d_177_3 rfl rfl ?_
  refine ar_if_lt 36 7 d_177_4 (by decide) rfl (fun c => absurd c (by decide)) (fun _ => ?_)
  refine ar_aload_n 8 d_177_7 rfl rfl ?_
  refine ar_getf 11 d_177_8 rfl (ci := 11) (k := 8) rfl (hF.at 0 rfl) z8 ?_
  refine ar_aload_n 12 d_177_11 rfl rfl ?_
  refine ar_getf 15 d_177_12 rfl (ci := 11) (k := 9) rfl (hF.at 0 rfl) z9 ?_
  refine ar_iload_n 16 d_177_15 rfl rfl ?_
  refine ar_iload_n 17 d_177_16 rfl rfl ?_
  refine ar_ishr 18 d_177_17 rfl ?_
  refine ar_i2b 19 d_177_18 rfl ?_
  refine ar_bast 20 d_177_19 rfl (hF.at 1 rfl) (nI_in (by omega) (by omega)) ?_
  replace hF : ax_hs (ax_put h4 a8 (.inl (1, 2048, .inl (upd (upd (upd tf (nI l).toNatClampNeg (vp_nar .byte ((wd >>> (24 &&& 31)).toInt8.toInt32))) (nI (l + 1)).toNatClampNeg (vp_nar .byte ((wd >>> (16 &&& 31)).toInt8.toInt32))) (nI (l + 2)).toNatClampNeg (vp_nar .byte ((wd >>> (8 &&& 31)).toInt8.toInt32)))))) [(m, .inr (11, fs2)), (a8, .inl (1, 2048, .inl (upd (upd (upd tf (nI l).toNatClampNeg (vp_nar .byte ((wd >>> (24 &&& 31)).toInt8.toInt32))) (nI (l + 1)).toNatClampNeg (vp_nar .byte ((wd >>> (16 &&& 31)).toInt8.toInt32))) (nI (l + 2)).toNatClampNeg (vp_nar .byte ((wd >>> (8 &&& 31)).toInt8.toInt32)))))] := hF.put 1 _ rfl rfl
  replace hf := hf.put (a := a8) (c := .inl (1, 2048, .inl (upd (upd (upd tf (nI l).toNatClampNeg (vp_nar .byte ((wd >>> (24 &&& 31)).toInt8.toInt32))) (nI (l + 1)).toNatClampNeg (vp_nar .byte ((wd >>> (16 &&& 31)).toInt8.toInt32))) (nI (l + 2)).toNatClampNeg (vp_nar .byte ((wd >>> (8 &&& 31)).toInt8.toInt32))))) (by simp)
  replace hn : (ax_put h4 a8 (.inl (1, 2048, .inl (upd (upd (upd tf (nI l).toNatClampNeg (vp_nar .byte ((wd >>> (24 &&& 31)).toInt8.toInt32))) (nI (l + 1)).toNatClampNeg (vp_nar .byte ((wd >>> (16 &&& 31)).toInt8.toInt32))) (nI (l + 2)).toNatClampNeg (vp_nar .byte ((wd >>> (8 &&& 31)).toInt8.toInt32)))))).1 = n := hn
  replace hs : (ax_put h4 a8 (.inl (1, 2048, .inl (upd (upd (upd tf (nI l).toNatClampNeg (vp_nar .byte ((wd >>> (24 &&& 31)).toInt8.toInt32))) (nI (l + 1)).toNatClampNeg (vp_nar .byte ((wd >>> (16 &&& 31)).toInt8.toInt32))) (nI (l + 2)).toNatClampNeg (vp_nar .byte ((wd >>> (8 &&& 31)).toInt8.toInt32)))))).2.1 = sl := hs
  generalize ax_put h4 a8 (.inl (1, 2048, .inl (upd (upd (upd tf (nI l).toNatClampNeg (vp_nar .byte ((wd >>> (24 &&& 31)).toInt8.toInt32))) (nI (l + 1)).toNatClampNeg (vp_nar .byte ((wd >>> (16 &&& 31)).toInt8.toInt32))) (nI (l + 2)).toNatClampNeg (vp_nar .byte ((wd >>> (8 &&& 31)).toInt8.toInt32))))) = h5 at hF hf hn hs ⊢
  refine ar_aload_n 21 d_177_20 rfl rfl ?_
  refine ar_dup 22 d_177_21 rfl rfl ?_
  refine ar_getf 25 d_177_22 rfl (ci := 11) (k := 9) rfl (hF.at 0 rfl) z9 ?_
  refine ar_iconst 26 (v := 1) d_177_25 rfl (by decide) ?_
  refine ar_iadd 27 d_177_26 rfl ?_
  refine ar_top (x' := nI (l + 3)) ((nI_succ (l + 2)).symm) ?_
  refine ar_putf 30 (fs2.set 9 (.int (nI (l + 3)))) d_177_27 rfl (ci := 11) (k := 9) rfl rfl (hF.at 0 rfl) (by rw [hl]; decide) rfl rfl rfl ?_
  replace hF : ax_hs (ax_put h5 m (.inr (11, (fs2.set 9 (.int (nI (l + 3))))))) [(m, .inr (11, (fs2.set 9 (.int (nI (l + 3)))))), (a8, .inl (1, 2048, .inl (upd (upd (upd tf (nI l).toNatClampNeg (vp_nar .byte ((wd >>> (24 &&& 31)).toInt8.toInt32))) (nI (l + 1)).toNatClampNeg (vp_nar .byte ((wd >>> (16 &&& 31)).toInt8.toInt32))) (nI (l + 2)).toNatClampNeg (vp_nar .byte ((wd >>> (8 &&& 31)).toInt8.toInt32)))))] := hF.put 0 _ rfl rfl
  replace hf := hf.put (a := m) (c := .inr (11, (fs2.set 9 (.int (nI (l + 3)))))) (by simp)
  replace hn : (ax_put h5 m (.inr (11, (fs2.set 9 (.int (nI (l + 3))))))).1 = n := hn
  replace hs : (ax_put h5 m (.inr (11, (fs2.set 9 (.int (nI (l + 3))))))).2.1 = sl := hs
  generalize ax_put h5 m (.inr (11, (fs2.set 9 (.int (nI (l + 3)))))) = h6 at hF hf hn hs ⊢
  replace z8 : (fs2.set 9 (.int (nI (l + 3))))[8]? = some (.ref a8) := (List.getElem?_set_ne (by decide)).trans z8
  replace z9 : (fs2.set 9 (.int (nI (l + 3))))[9]? = some (.int (nI (l + 3))) := List.getElem?_set_self (by rw [hl]; decide)
  replace hO : ∀ k, k ≠ 9 → (fs2.set 9 (.int (nI (l + 3))))[k]? = fs[k]? := fun k y9 => (List.getElem?_set_ne (Ne.symm y9)).trans (hO k y9)
  replace hl : (fs2.set 9 (.int (nI (l + 3)))).length = 39 := (List.length_set ..).trans hl
  generalize (fs2.set 9 (.int (nI (l + 3)))) = fs3 at hF hl hO z8 z9 ⊢
  refine ar_iinc 33 [(0, .ref m), (1, .int wd), (2, .int 0)] d_177_30 rfl rfl (by decide) (by decide) rfl ?_
  refine ar_goto 3 d_177_33 (by decide) ?_
  refine ar_iload_n 4 d_177_3 rfl rfl ?_
  refine ar_if_lt 36 7 d_177_4 (by decide) rfl (fun c => absurd c (by decide)) (fun _ => ?_)
  refine ar_aload_n 8 d_177_7 rfl rfl ?_
  refine ar_getf 11 d_177_8 rfl (ci := 11) (k := 8) rfl (hF.at 0 rfl) z8 ?_
  refine ar_aload_n 12 d_177_11 rfl rfl ?_
  refine ar_getf 15 d_177_12 rfl (ci := 11) (k := 9) rfl (hF.at 0 rfl) z9 ?_
  refine ar_iload_n 16 d_177_15 rfl rfl ?_
  refine ar_iload_n 17 d_177_16 rfl rfl ?_
  refine ar_ishr 18 d_177_17 rfl ?_
  refine ar_i2b 19 d_177_18 rfl ?_
  refine ar_bast 20 d_177_19 rfl (hF.at 1 rfl) (nI_in (by omega) (by omega)) ?_
  replace hF : ax_hs (ax_put h6 a8 (.inl (1, 2048, .inl (upd (upd (upd (upd tf (nI l).toNatClampNeg (vp_nar .byte ((wd >>> (24 &&& 31)).toInt8.toInt32))) (nI (l + 1)).toNatClampNeg (vp_nar .byte ((wd >>> (16 &&& 31)).toInt8.toInt32))) (nI (l + 2)).toNatClampNeg (vp_nar .byte ((wd >>> (8 &&& 31)).toInt8.toInt32))) (nI (l + 3)).toNatClampNeg (vp_nar .byte ((wd >>> (0 &&& 31)).toInt8.toInt32)))))) [(m, .inr (11, fs3)), (a8, .inl (1, 2048, .inl (upd (upd (upd (upd tf (nI l).toNatClampNeg (vp_nar .byte ((wd >>> (24 &&& 31)).toInt8.toInt32))) (nI (l + 1)).toNatClampNeg (vp_nar .byte ((wd >>> (16 &&& 31)).toInt8.toInt32))) (nI (l + 2)).toNatClampNeg (vp_nar .byte ((wd >>> (8 &&& 31)).toInt8.toInt32))) (nI (l + 3)).toNatClampNeg (vp_nar .byte ((wd >>> (0 &&& 31)).toInt8.toInt32)))))] := hF.put 1 _ rfl rfl
  replace hf := hf.put (a := a8) (c := .inl (1, 2048, .inl (upd (upd (upd (upd tf (nI l).toNatClampNeg (vp_nar .byte ((wd >>> (24 &&& 31)).toInt8.toInt32))) (nI (l + 1)).toNatClampNeg (vp_nar .byte ((wd >>> (16 &&& 31)).toInt8.toInt32))) (nI (l + 2)).toNatClampNeg (vp_nar .byte ((wd >>> (8 &&& 31)).toInt8.toInt32))) (nI (l + 3)).toNatClampNeg (vp_nar .byte ((wd >>> (0 &&& 31)).toInt8.toInt32))))) (by simp)
  replace hn : (ax_put h6 a8 (.inl (1, 2048, .inl (upd (upd (upd (upd tf (nI l).toNatClampNeg (vp_nar .byte ((wd >>> (24 &&& 31)).toInt8.toInt32))) (nI (l + 1)).toNatClampNeg (vp_nar .byte ((wd >>> (16 &&& 31)).toInt8.toInt32))) (nI (l + 2)).toNatClampNeg (vp_nar .byte ((wd >>> (8 &&& 31)).toInt8.toInt32))) (nI (l + 3)).toNatClampNeg (vp_nar .byte ((wd >>> (0 &&& 31)).toInt8.toInt32)))))).1 = n := hn
  replace hs : (ax_put h6 a8 (.inl (1, 2048, .inl (upd (upd (upd (upd tf (nI l).toNatClampNeg (vp_nar .byte ((wd >>> (24 &&& 31)).toInt8.toInt32))) (nI (l + 1)).toNatClampNeg (vp_nar .byte ((wd >>> (16 &&& 31)).toInt8.toInt32))) (nI (l + 2)).toNatClampNeg (vp_nar .byte ((wd >>> (8 &&& 31)).toInt8.toInt32))) (nI (l + 3)).toNatClampNeg (vp_nar .byte ((wd >>> (0 &&& 31)).toInt8.toInt32)))))).2.1 = sl := hs
  generalize ax_put h6 a8 (.inl (1, 2048, .inl (upd (upd (upd (upd tf (nI l).toNatClampNeg (vp_nar .byte ((wd >>> (24 &&& 31)).toInt8.toInt32))) (nI (l + 1)).toNatClampNeg (vp_nar .byte ((wd >>> (16 &&& 31)).toInt8.toInt32))) (nI (l + 2)).toNatClampNeg (vp_nar .byte ((wd >>> (8 &&& 31)).toInt8.toInt32))) (nI (l + 3)).toNatClampNeg (vp_nar .byte ((wd >>> (0 &&& 31)).toInt8.toInt32))))) = h7 at hF hf hn hs ⊢
  refine ar_aload_n 21 d_177_20 rfl rfl ?_
  refine ar_dup 22 d_177_21 rfl rfl ?_
  refine ar_getf 25 d_177_22 rfl (ci := 11) (k := 9) rfl (hF.at 0 rfl) z9 ?_
  refine ar_iconst 26 (v := 1) d_177_25 rfl (by decide) ?_
  refine ar_iadd 27 d_177_26 rfl ?_
  refine ar_top (x' := nI (l + 4)) ((nI_succ (l + 3)).symm) ?_
  refine ar_putf 30 (fs3.set 9 (.int (nI (l + 4)))) d_177_27 rfl (ci := 11) (k := 9) rfl rfl (hF.at 0 rfl) (by rw [hl]; decide) rfl rfl rfl ?_
  replace hF : ax_hs (ax_put h7 m (.inr (11, (fs3.set 9 (.int (nI (l + 4))))))) [(m, .inr (11, (fs3.set 9 (.int (nI (l + 4)))))), (a8, .inl (1, 2048, .inl (upd (upd (upd (upd tf (nI l).toNatClampNeg (vp_nar .byte ((wd >>> (24 &&& 31)).toInt8.toInt32))) (nI (l + 1)).toNatClampNeg (vp_nar .byte ((wd >>> (16 &&& 31)).toInt8.toInt32))) (nI (l + 2)).toNatClampNeg (vp_nar .byte ((wd >>> (8 &&& 31)).toInt8.toInt32))) (nI (l + 3)).toNatClampNeg (vp_nar .byte ((wd >>> (0 &&& 31)).toInt8.toInt32)))))] := hF.put 0 _ rfl rfl
  replace hf := hf.put (a := m) (c := .inr (11, (fs3.set 9 (.int (nI (l + 4)))))) (by simp)
  replace hn : (ax_put h7 m (.inr (11, (fs3.set 9 (.int (nI (l + 4))))))).1 = n := hn
  replace hs : (ax_put h7 m (.inr (11, (fs3.set 9 (.int (nI (l + 4))))))).2.1 = sl := hs
  generalize ax_put h7 m (.inr (11, (fs3.set 9 (.int (nI (l + 4)))))) = h8 at hF hf hn hs ⊢
  replace z8 : (fs3.set 9 (.int (nI (l + 4))))[8]? = some (.ref a8) := (List.getElem?_set_ne (by decide)).trans z8
  replace z9 : (fs3.set 9 (.int (nI (l + 4))))[9]? = some (.int (nI (l + 4))) := List.getElem?_set_self (by rw [hl]; decide)
  replace hO : ∀ k, k ≠ 9 → (fs3.set 9 (.int (nI (l + 4))))[k]? = fs[k]? := fun k y9 => (List.getElem?_set_ne (Ne.symm y9)).trans (hO k y9)
  replace hl : (fs3.set 9 (.int (nI (l + 4)))).length = 39 := (List.length_set ..).trans hl
  generalize (fs3.set 9 (.int (nI (l + 4)))) = fs4 at hF hl hO z8 z9 ⊢
  refine ar_iinc 33 [(0, .ref m), (1, .int wd), (2, .int (-8))] d_177_30 rfl rfl (by decide) (by decide) rfl ?_
  refine ar_goto 3 d_177_33 (by decide) ?_
  refine ar_iload_n 4 d_177_3 rfl rfl ?_
  refine ar_if_lt 36 7 d_177_4 (by decide) rfl (fun _ => ?_) (fun c => absurd (by decide) c)
  exact ar_ret d_177_36 rfl (⟨_, _, rfl, hl, z8, z9, hO, hF, hn, hs, hf⟩)
theorem n_176 {L : Nat} {xs : Nat → Int32} {fr lo m n sl : Nat} {h : ax_H} {fs : List Value} {a8 l : Nat} {tf : Nat → Int32} {xa xb xc xd xe : Int32} (hfr : 1 ≤ fr) (hlo : 40 ≤ lo) (hl20 : l + 20 ≤ 2048) (hl : fs.length = 39) (z8 : fs[8]? = some (.ref a8)) (z9 : fs[9]? = some (.int (nI l))) (hF : ax_hs h [(m, .inr (11, fs)), (a8, .inl (1, 2048, .inl tf))]) (hn : h.1 = n) (hs : h.2.1 = sl) (hn0 : 0 < n) : ax_M L xs 176 fr lo [.ref m, .int xa, .int xb, .int xc, .int xd, .int xe] h (fun r h' => r = some (.int (nI (l + 20))) ∧ h'.1 = n ∧ h'.2.1 = sl ∧ ax_fr (fun x => x ∈ [m, a8]) h h') := by
  show ax_A (ax_step L xs) ((176, 0, fr, lo), [(0, .ref m), (1, .int xa), (2, .int xb), (3, .int xc), (4, .int xd), (5, .int xe)], [], h) _
  have hbase : h.1 = n := hn
  have hbasl : h.2.1 = sl := hs
  have hf : ax_fr (fun x => x ∈ [m, a8]) h h := ax_fr.rf
  refine ar_aload_n 1 d_176_0 rfl rfl ?_
  refine ar_getf 4 d_176_1 rfl (ci := 11) (k := 9) rfl (hF.at 0 rfl) z9 ?_
  refine ar_bipush 6 (v := 20) d_176_4 rfl (by decide) ?_
  refine ar_iadd 7 d_176_6 rfl ?_
  refine ar_top (x' := nI (l + 20)) (nI_add l 20) ?_
  refine ar_sipush 10 (v := 2048) d_176_7 rfl (by decide) ?_
  refine ar_icmp_le 16 13 d_176_10 (by decide) rfl (fun _ => ?_) (fun c => absurd (nI_le hl20 (by omega)) c)
  refine ar_aload_n 17 d_176_16 rfl rfl ?_
  refine ar_iload_n 18 d_176_17 rfl rfl ?_
  refine ar_call (r := []) (na := 0) (kd := 0) (cm := 177) (fr2 := fr - 1) (lo2 := lo - 22) 21 d_176_18 (ar_hoV (as := [.int xa]) rfl rfl rfl (hF.at 0 rfl)) rfl (by omega) (show lo - 22 + (19 + 3) = lo by omega) (Nat.le_of_ble_eq_true rfl) (Nat.le_of_ble_eq_true rfl) (n_177 (l := l) (by omega) hl z8 z9 hF hn hs (by omega)) ?_
  intro v h20 hq
  obtain ⟨fs1, tf1, rfl, hl, z8, z9, -, hF, hn, hs, qf⟩ := hq
  replace hf := hf.tr qf
  clear qf
  refine ar_aload_n 22 d_176_21 rfl rfl ?_
  refine ar_iload_n 23 d_176_22 rfl rfl ?_
  refine ar_call (r := []) (na := 0) (kd := 0) (cm := 177) (fr2 := fr - 1) (lo2 := lo - 22) 26 d_176_23 (ar_hoV (as := [.int xb]) rfl rfl rfl (hF.at 0 rfl)) rfl (by omega) (show lo - 22 + (19 + 3) = lo by omega) (Nat.le_of_ble_eq_true rfl) (Nat.le_of_ble_eq_true rfl) (n_177 (l := l + 4) (by omega) hl z8 z9 hF hn hs (by omega)) ?_
  intro v h21 hq
  obtain ⟨fs2, tf2, rfl, hl, z8, z9, -, hF, hn, hs, qf⟩ := hq
  replace hf := hf.tr qf
  clear qf
  refine ar_aload_n 27 d_176_26 rfl rfl ?_
  refine ar_iload_n 28 d_176_27 rfl rfl ?_
  refine ar_call (r := []) (na := 0) (kd := 0) (cm := 177) (fr2 := fr - 1) (lo2 := lo - 22) 31 d_176_28 (ar_hoV (as := [.int xc]) rfl rfl rfl (hF.at 0 rfl)) rfl (by omega) (show lo - 22 + (19 + 3) = lo by omega) (Nat.le_of_ble_eq_true rfl) (Nat.le_of_ble_eq_true rfl) (n_177 (l := l + 8) (by omega) hl z8 z9 hF hn hs (by omega)) ?_
  intro v h22 hq
  obtain ⟨fs3, tf3, rfl, hl, z8, z9, -, hF, hn, hs, qf⟩ := hq
  replace hf := hf.tr qf
  clear qf
  refine ar_aload_n 32 d_176_31 rfl rfl ?_
  refine ar_iload 34 d_176_32 rfl rfl ?_
  refine ar_call (r := []) (na := 0) (kd := 0) (cm := 177) (fr2 := fr - 1) (lo2 := lo - 22) 37 d_176_34 (ar_hoV (as := [.int xd]) rfl rfl rfl (hF.at 0 rfl)) rfl (by omega) (show lo - 22 + (19 + 3) = lo by omega) (Nat.le_of_ble_eq_true rfl) (Nat.le_of_ble_eq_true rfl) (n_177 (l := l + 12) (by omega) hl z8 z9 hF hn hs (by omega)) ?_
  intro v h23 hq
  obtain ⟨fs4, tf4, rfl, hl, z8, z9, -, hF, hn, hs, qf⟩ := hq
  replace hf := hf.tr qf
  clear qf
  refine ar_aload_n 38 d_176_37 rfl rfl ?_
  refine ar_iload 40 d_176_38 rfl rfl ?_
  refine ar_call (r := []) (na := 0) (kd := 0) (cm := 177) (fr2 := fr - 1) (lo2 := lo - 22) 43 d_176_40 (ar_hoV (as := [.int xe]) rfl rfl rfl (hF.at 0 rfl)) rfl (by omega) (show lo - 22 + (19 + 3) = lo by omega) (Nat.le_of_ble_eq_true rfl) (Nat.le_of_ble_eq_true rfl) (n_177 (l := l + 16) (by omega) hl z8 z9 hF hn hs (by omega)) ?_
  intro v h24 hq
  obtain ⟨fs5, tf5, rfl, hl, z8, z9, -, hF, hn, hs, qf⟩ := hq
  replace hf := hf.tr qf
  clear qf
  refine ar_aload_n 44 d_176_43 rfl rfl ?_
  refine ar_getf 47 d_176_44 rfl (ci := 11) (k := 9) rfl (hF.at 0 rfl) z9 ?_
  exact ar_iret d_176_47 rfl rfl (⟨rfl, hn, hs, hf⟩)
theorem n_179y {L : Nat} {xs : Nat → Int32} {fr lo m n sl : Nat} {h : ax_H} {fs : List Value} {a11 k : Nat} {lf : Nat → Int32} (hk : k < 2) (hl : fs.length = 39) (z9 : fs[9]? = some (.int 0)) (z11 : fs[11]? = some (.ref a11)) (hF : ax_hs h [(m, .inr (11, fs)), (a11, .inl (0, 2, .inl lf))]) (hn : h.1 = n) (hs : h.2.1 = sl) (hn0 : 0 < n) : ax_M L xs 179 fr lo [.ref m, .int (nI k)] h (fun r h' => r = some (.int 0) ∧ h'.1 = n ∧ h'.2.1 = sl) := by
  show ax_A (ax_step L xs) ((179, 0, fr, lo), [(0, .ref m), (1, .int (nI k))], [], h) _
  have hbase : h.1 = n := hn
  have hbasl : h.2.1 = sl := hs
  have hf : ax_fr (fun x => x ∈ [m, a11]) h h := ax_fr.rf
  refine ar_iload_n 1 d_179_0 rfl rfl ?_
  refine ar_if_lt 19 4 d_179_1 (by decide) rfl (fun c => absurd c (Int32.not_lt.mpr (nI_le (Nat.zero_le k) (by omega)))) (fun _ => ?_)
  refine ar_iload_n 5 d_179_4 rfl rfl ?_
  refine ar_iconst 6 (v := 1) d_179_5 rfl (by decide) ?_
  refine ar_icmp_gt 19 9 d_179_6 (by decide) rfl (fun c => absurd c (Int32.not_lt.mpr (nI_le (b := 1) (by omega) (by omega)))) (fun _ => ?_)
  refine ar_aload_n 10 d_179_9 rfl rfl ?_
  refine ar_getf 13 d_179_10 rfl (ci := 11) (k := 9) rfl (hF.at 0 rfl) z9 ?_
  refine ar_sipush 16 (v := 200) d_179_13 rfl (by decide) ?_
  refine ar_icmp_le 21 19 d_179_16 (by decide) rfl (fun _ => ?_) (fun c => absurd (by decide) c)
  refine ar_iconst 22 (v := 0) d_179_21 rfl (by decide) ?_
  refine ar_istore_n 23 [(0, .ref m), (1, .int (nI k)), (2, .int 0)] d_179_22 rfl (by decide) rfl ?_
  refine ar_iload_n 24 d_179_23 rfl rfl ?_
  refine ar_aload_n 25 d_179_24 rfl rfl ?_
  refine ar_getf 28 d_179_25 rfl (ci := 11) (k := 9) rfl (hF.at 0 rfl) z9 ?_
  refine ar_icmp_ge 55 31 d_179_28 (by decide) rfl (fun _ => ?_) (fun c => absurd (Int32.le_refl _) c)
  refine ar_aload_n 56 d_179_55 rfl rfl ?_
  refine ar_getf 59 d_179_56 rfl (ci := 11) (k := 11) rfl (hF.at 0 rfl) z11 ?_
  refine ar_iload_n 60 d_179_59 rfl rfl ?_
  refine ar_aload_n 61 d_179_60 rfl rfl ?_
  refine ar_getf 64 d_179_61 rfl (ci := 11) (k := 9) rfl (hF.at 0 rfl) z9 ?_
  refine ar_iast 65 d_179_64 rfl (hF.at 1 rfl) (nI_in hk (by omega)) ?_
  replace hF : ax_hs (ax_put h a11 (.inl (0, 2, .inl (upd lf (nI k).toNatClampNeg 0)))) [(m, .inr (11, fs)), (a11, .inl (0, 2, .inl (upd lf (nI k).toNatClampNeg 0)))] := hF.put 1 _ rfl rfl
  replace hf := hf.put (a := a11) (c := .inl (0, 2, .inl (upd lf (nI k).toNatClampNeg 0))) (by simp)
  replace hn : (ax_put h a11 (.inl (0, 2, .inl (upd lf (nI k).toNatClampNeg 0)))).1 = n := hn
  replace hs : (ax_put h a11 (.inl (0, 2, .inl (upd lf (nI k).toNatClampNeg 0)))).2.1 = sl := hs
  generalize ax_put h a11 (.inl (0, 2, .inl (upd lf (nI k).toNatClampNeg 0))) = h1 at hF hf hn hs ⊢
  refine ar_aload_n 66 d_179_65 rfl rfl ?_
  refine ar_iconst 67 (v := 0) d_179_66 rfl (by decide) ?_
  refine ar_putf 70 (fs.set 9 (.int 0)) d_179_67 rfl (ci := 11) (k := 9) rfl rfl (hF.at 0 rfl) (by rw [hl]; decide) rfl rfl rfl ?_
  replace hF : ax_hs (ax_put h1 m (.inr (11, (fs.set 9 (.int 0))))) [(m, .inr (11, (fs.set 9 (.int 0)))), (a11, .inl (0, 2, .inl (upd lf (nI k).toNatClampNeg 0)))] := hF.put 0 _ rfl rfl
  replace hf := hf.put (a := m) (c := .inr (11, (fs.set 9 (.int 0)))) (by simp)
  replace hn : (ax_put h1 m (.inr (11, (fs.set 9 (.int 0))))).1 = n := hn
  replace hs : (ax_put h1 m (.inr (11, (fs.set 9 (.int 0))))).2.1 = sl := hs
  generalize ax_put h1 m (.inr (11, (fs.set 9 (.int 0)))) = h2 at hF hf hn hs ⊢
  replace z11 : (fs.set 9 (.int 0))[11]? = some (.ref a11) := (List.getElem?_set_ne (by decide)).trans z11
  replace z9 : (fs.set 9 (.int 0))[9]? = some (.int 0) := List.getElem?_set_self (by rw [hl]; decide)
  replace hl : (fs.set 9 (.int 0)).length = 39 := (List.length_set ..).trans hl
  generalize (fs.set 9 (.int 0)) = fs1 at hF hl z9 z11 ⊢
  refine ar_aload_n 71 d_179_70 rfl rfl ?_
  refine ar_getf 74 d_179_71 rfl (ci := 11) (k := 11) rfl (hF.at 0 rfl) z11 ?_
  refine ar_iload_n 75 d_179_74 rfl rfl ?_
  refine ar_iald 76 d_179_75 rfl (hF.at 1 rfl) (nI_in hk (by omega)) ?_
  refine ar_top (x' := 0) (upd_s _ _ _) ?_
  exact ar_iret d_179_76 rfl rfl (⟨rfl, hn, hs⟩)
theorem n_179n {L : Nat} {xs : Nat → Int32} {fr lo m : Nat} {h : ax_H} {x : Int32} (hx : x < 0 ∨ 1 < x) : ax_M L xs 179 fr lo [.ref m, .int x] h (fun r h' => r = some (.int (-1)) ∧ h' = h) := by
  show ax_A (ax_step L xs) ((179, 0, fr, lo), [(0, .ref m), (1, .int x)], [], h) _
  refine ar_iload_n 1 d_179_0 rfl rfl ?_
  refine ar_if_lt 19 4 d_179_1 (by decide) rfl (fun c1 => ?_) (fun c1 => ?_)
  · refine ar_iconst 20 (v := -1) d_179_19 rfl (by decide) ?_
    exact ar_iret d_179_20 rfl rfl (⟨rfl, rfl⟩)
  · refine ar_iload_n 5 d_179_4 rfl rfl ?_
    refine ar_iconst 6 (v := 1) d_179_5 rfl (by decide) ?_
    refine ar_icmp_gt 19 9 d_179_6 (by decide) rfl (fun _ => ?_) (fun c => absurd (hx.resolve_left c1) c)
    refine ar_iconst 20 (v := -1) d_179_19 rfl (by decide) ?_
    exact ar_iret d_179_20 rfl rfl (⟨rfl, rfl⟩)
theorem n_186 {L : Nat} {xs : Nat → Int32} {fr lo m n sl : Nat} {h : ax_H} {fs : List Value} {x t u c7 y z : Int32} (hfr : 1 ≤ fr) (hlo : 40 ≤ lo) (hl : fs.length = 39) (z0 : fs[0]? = some (.int t)) (z3 : fs[3]? = some (.int u)) (z7 : fs[7]? = some (.int c7)) (hF : ax_hs h [(m, .inr (11, fs))]) (hn : h.1 = n) (hs : h.2.1 = sl) (hn0 : 0 < n) : ax_M L xs 186 fr lo [.ref m, .int x, .int y, .int z] h (fun r h' => (¬ x < 0 ∧ ¬ t ≤ x ∧ ¬ ((u >>> (x &&& 31)) &&& 1 = 0) ∧ r = some (.int 1) ∧ h'.1 = n ∧ h'.2.1 = sl) ∨ ((x < 0 ∨ t ≤ x ∨ (u >>> (x &&& 31)) &&& 1 = 0) ∧ r = some (.int 0) ∧ h'.1 = n ∧ h'.2.1 = sl)) := by
  show ax_A (ax_step L xs) ((186, 0, fr, lo), [(0, .ref m), (1, .int x), (2, .int y), (3, .int z)], [], h) _
  have hbase : h.1 = n := hn
  have hbasl : h.2.1 = sl := hs
  have hf : ax_fr (fun x => x ∈ [m]) h h := ax_fr.rf
  refine ar_aload_n 1 d_186_0 rfl rfl ?_
  refine ar_iload_n 2 d_186_1 rfl rfl ?_
  have hg := hF.at 0 rfl
  refine ar_call (r := []) (na := 0) (kd := 0) (cm := 187) (fr2 := fr - 1) (lo2 := lo - 21) 5 d_186_2 (ar_hoV (as := [.int x]) rfl rfl rfl (hF.at 0 rfl)) rfl (by omega) (show lo - 21 + (19 + 2) = lo by omega) (Nat.le_of_ble_eq_true rfl) (Nat.le_of_ble_eq_true rfl) (c_187 (hF.at 0 rfl) z0 z3) ?_
  intro v hh hq
  obtain (⟨d1, d2, d3, rfl, ehh⟩ | ⟨d1, rfl, ehh⟩) := hq
  · rw [ehh]
    refine ar_if_ne 10 8 d_186_5 (by decide) rfl (fun _ => ?_) (fun c => absurd (by decide) c)
    refine ar_aload_n 11 d_186_10 rfl rfl ?_
    refine ar_dup 12 d_186_11 rfl rfl ?_
    refine ar_getf 15 d_186_12 rfl (ci := 11) (k := 3) rfl (hF.at 0 rfl) z3 ?_
    refine ar_iconst 16 (v := 1) d_186_15 rfl (by decide) ?_
    refine ar_iload_n 17 d_186_16 rfl rfl ?_
    refine ar_ishl 18 d_186_17 rfl ?_
    refine ar_ixor 19 d_186_18 rfl ?_
    refine ar_putf 22 (fs.set 3 (.int (u ^^^ (1 <<< (x &&& 31))))) d_186_19 rfl (ci := 11) (k := 3) rfl rfl (hF.at 0 rfl) (by rw [hl]; decide) rfl rfl rfl ?_
    replace hF : ax_hs (ax_put h m (.inr (11, (fs.set 3 (.int (u ^^^ (1 <<< (x &&& 31)))))))) [(m, .inr (11, (fs.set 3 (.int (u ^^^ (1 <<< (x &&& 31)))))))] := hF.put 0 _ rfl rfl
    replace hf := hf.put (a := m) (c := .inr (11, (fs.set 3 (.int (u ^^^ (1 <<< (x &&& 31))))))) (by simp)
    replace hn : (ax_put h m (.inr (11, (fs.set 3 (.int (u ^^^ (1 <<< (x &&& 31)))))))).1 = n := hn
    replace hs : (ax_put h m (.inr (11, (fs.set 3 (.int (u ^^^ (1 <<< (x &&& 31)))))))).2.1 = sl := hs
    generalize ax_put h m (.inr (11, (fs.set 3 (.int (u ^^^ (1 <<< (x &&& 31))))))) = h1 at hF hf hn hs ⊢
    replace z0 : (fs.set 3 (.int (u ^^^ (1 <<< (x &&& 31)))))[0]? = some (.int t) := (List.getElem?_set_ne (by decide)).trans z0
    replace z7 : (fs.set 3 (.int (u ^^^ (1 <<< (x &&& 31)))))[7]? = some (.int c7) := (List.getElem?_set_ne (by decide)).trans z7
    replace z3 : (fs.set 3 (.int (u ^^^ (1 <<< (x &&& 31)))))[3]? = some (.int (u ^^^ (1 <<< (x &&& 31)))) := List.getElem?_set_self (by rw [hl]; decide)
    replace hl : (fs.set 3 (.int (u ^^^ (1 <<< (x &&& 31))))).length = 39 := (List.length_set ..).trans hl
    generalize (fs.set 3 (.int (u ^^^ (1 <<< (x &&& 31))))) = fs1 at hF hl z0 z3 z7 ⊢
    refine ar_aload_n 23 d_186_22 rfl rfl ?_
    refine ar_iconst 24 (v := 0) d_186_23 rfl (by decide) ?_
    refine ar_putf 27 (fs1.set 7 (.int 0)) d_186_24 rfl (ci := 11) (k := 7) rfl rfl (hF.at 0 rfl) (by rw [hl]; decide) rfl rfl rfl ?_
    replace hF : ax_hs (ax_put h1 m (.inr (11, (fs1.set 7 (.int 0))))) [(m, .inr (11, (fs1.set 7 (.int 0))))] := hF.put 0 _ rfl rfl
    replace hf := hf.put (a := m) (c := .inr (11, (fs1.set 7 (.int 0)))) (by simp)
    replace hn : (ax_put h1 m (.inr (11, (fs1.set 7 (.int 0))))).1 = n := hn
    replace hs : (ax_put h1 m (.inr (11, (fs1.set 7 (.int 0))))).2.1 = sl := hs
    generalize ax_put h1 m (.inr (11, (fs1.set 7 (.int 0)))) = h2 at hF hf hn hs ⊢
    replace z0 : (fs1.set 7 (.int 0))[0]? = some (.int t) := (List.getElem?_set_ne (by decide)).trans z0
    replace z3 : (fs1.set 7 (.int 0))[3]? = some (.int (u ^^^ (1 <<< (x &&& 31)))) := (List.getElem?_set_ne (by decide)).trans z3
    replace z7 : (fs1.set 7 (.int 0))[7]? = some (.int 0) := List.getElem?_set_self (by rw [hl]; decide)
    replace hl : (fs1.set 7 (.int 0)).length = 39 := (List.length_set ..).trans hl
    generalize (fs1.set 7 (.int 0)) = fs2 at hF hl z0 z3 z7 ⊢
    refine ar_iconst 28 (v := 1) d_186_27 rfl (by decide) ?_
    exact ar_iret d_186_28 rfl rfl (Or.inl ⟨d1, d2, d3, rfl, hn, hs⟩)
  · rw [ehh]
    refine ar_if_ne 10 8 d_186_5 (by decide) rfl (fun c => absurd c (by decide)) (fun _ => ?_)
    refine ar_iconst 9 (v := 0) d_186_8 rfl (by decide) ?_
    exact ar_iret d_186_9 rfl rfl (Or.inr ⟨d1, rfl, hn, hs⟩)
theorem n_188 {L : Nat} {xs : Nat → Int32} {fr lo m n sl : Nat} {h : ax_H} {fs : List Value} {x t u c7 : Int32} (hfr : 1 ≤ fr) (hlo : 40 ≤ lo) (hl : fs.length = 39) (z0 : fs[0]? = some (.int t)) (z3 : fs[3]? = some (.int u)) (z7 : fs[7]? = some (.int c7)) (hF : ax_hs h [(m, .inr (11, fs))]) (hn : h.1 = n) (hs : h.2.1 = sl) (hn0 : 0 < n) : ax_M L xs 188 fr lo [.ref m, .int x] h (fun r h' => (¬ x < 0 ∧ ¬ t ≤ x ∧ ¬ ((u >>> (x &&& 31)) &&& 1 ≠ 0) ∧ r = some (.int 1) ∧ h'.1 = n ∧ h'.2.1 = sl) ∨ ((x < 0 ∨ t ≤ x ∨ (u >>> (x &&& 31)) &&& 1 ≠ 0) ∧ r = some (.int 0) ∧ h'.1 = n ∧ h'.2.1 = sl)) := by
  show ax_A (ax_step L xs) ((188, 0, fr, lo), [(0, .ref m), (1, .int x)], [], h) _
  have hbase : h.1 = n := hn
  have hbasl : h.2.1 = sl := hs
  have hf : ax_fr (fun x => x ∈ [m]) h h := ax_fr.rf
  refine ar_aload_n 1 d_188_0 rfl rfl ?_
  refine ar_iload_n 2 d_188_1 rfl rfl ?_
  have hg := hF.at 0 rfl
  refine ar_call (r := []) (na := 0) (kd := 0) (cm := 189) (fr2 := fr - 1) (lo2 := lo - 21) 5 d_188_2 (ar_hoV (as := [.int x]) rfl rfl rfl (hF.at 0 rfl)) rfl (by omega) (show lo - 21 + (19 + 2) = lo by omega) (Nat.le_of_ble_eq_true rfl) (Nat.le_of_ble_eq_true rfl) (c_189 (hF.at 0 rfl) z0 z3) ?_
  intro v hh hq
  obtain (⟨d1, d2, d3, rfl, ehh⟩ | ⟨d1, rfl, ehh⟩) := hq
  · rw [ehh]
    refine ar_if_ne 10 8 d_188_5 (by decide) rfl (fun _ => ?_) (fun c => absurd (by decide) c)
    refine ar_aload_n 11 d_188_10 rfl rfl ?_
    refine ar_dup 12 d_188_11 rfl rfl ?_
    refine ar_getf 15 d_188_12 rfl (ci := 11) (k := 3) rfl (hF.at 0 rfl) z3 ?_
    refine ar_iconst 16 (v := 1) d_188_15 rfl (by decide) ?_
    refine ar_iload_n 17 d_188_16 rfl rfl ?_
    refine ar_ishl 18 d_188_17 rfl ?_
    refine ar_ixor 19 d_188_18 rfl ?_
    refine ar_putf 22 (fs.set 3 (.int (u ^^^ (1 <<< (x &&& 31))))) d_188_19 rfl (ci := 11) (k := 3) rfl rfl (hF.at 0 rfl) (by rw [hl]; decide) rfl rfl rfl ?_
    replace hF : ax_hs (ax_put h m (.inr (11, (fs.set 3 (.int (u ^^^ (1 <<< (x &&& 31)))))))) [(m, .inr (11, (fs.set 3 (.int (u ^^^ (1 <<< (x &&& 31)))))))] := hF.put 0 _ rfl rfl
    replace hf := hf.put (a := m) (c := .inr (11, (fs.set 3 (.int (u ^^^ (1 <<< (x &&& 31))))))) (by simp)
    replace hn : (ax_put h m (.inr (11, (fs.set 3 (.int (u ^^^ (1 <<< (x &&& 31)))))))).1 = n := hn
    replace hs : (ax_put h m (.inr (11, (fs.set 3 (.int (u ^^^ (1 <<< (x &&& 31)))))))).2.1 = sl := hs
    generalize ax_put h m (.inr (11, (fs.set 3 (.int (u ^^^ (1 <<< (x &&& 31))))))) = h1 at hF hf hn hs ⊢
    replace z0 : (fs.set 3 (.int (u ^^^ (1 <<< (x &&& 31)))))[0]? = some (.int t) := (List.getElem?_set_ne (by decide)).trans z0
    replace z7 : (fs.set 3 (.int (u ^^^ (1 <<< (x &&& 31)))))[7]? = some (.int c7) := (List.getElem?_set_ne (by decide)).trans z7
    replace z3 : (fs.set 3 (.int (u ^^^ (1 <<< (x &&& 31)))))[3]? = some (.int (u ^^^ (1 <<< (x &&& 31)))) := List.getElem?_set_self (by rw [hl]; decide)
    replace hl : (fs.set 3 (.int (u ^^^ (1 <<< (x &&& 31))))).length = 39 := (List.length_set ..).trans hl
    generalize (fs.set 3 (.int (u ^^^ (1 <<< (x &&& 31))))) = fs1 at hF hl z0 z3 z7 ⊢
    refine ar_aload_n 23 d_188_22 rfl rfl ?_
    refine ar_iconst 24 (v := 0) d_188_23 rfl (by decide) ?_
    refine ar_putf 27 (fs1.set 7 (.int 0)) d_188_24 rfl (ci := 11) (k := 7) rfl rfl (hF.at 0 rfl) (by rw [hl]; decide) rfl rfl rfl ?_
    replace hF : ax_hs (ax_put h1 m (.inr (11, (fs1.set 7 (.int 0))))) [(m, .inr (11, (fs1.set 7 (.int 0))))] := hF.put 0 _ rfl rfl
    replace hf := hf.put (a := m) (c := .inr (11, (fs1.set 7 (.int 0)))) (by simp)
    replace hn : (ax_put h1 m (.inr (11, (fs1.set 7 (.int 0))))).1 = n := hn
    replace hs : (ax_put h1 m (.inr (11, (fs1.set 7 (.int 0))))).2.1 = sl := hs
    generalize ax_put h1 m (.inr (11, (fs1.set 7 (.int 0)))) = h2 at hF hf hn hs ⊢
    replace z0 : (fs1.set 7 (.int 0))[0]? = some (.int t) := (List.getElem?_set_ne (by decide)).trans z0
    replace z3 : (fs1.set 7 (.int 0))[3]? = some (.int (u ^^^ (1 <<< (x &&& 31)))) := (List.getElem?_set_ne (by decide)).trans z3
    replace z7 : (fs1.set 7 (.int 0))[7]? = some (.int 0) := List.getElem?_set_self (by rw [hl]; decide)
    replace hl : (fs1.set 7 (.int 0)).length = 39 := (List.length_set ..).trans hl
    generalize (fs1.set 7 (.int 0)) = fs2 at hF hl z0 z3 z7 ⊢
    refine ar_iconst 28 (v := 1) d_188_27 rfl (by decide) ?_
    exact ar_iret d_188_28 rfl rfl (Or.inl ⟨d1, d2, d3, rfl, hn, hs⟩)
  · rw [ehh]
    refine ar_if_ne 10 8 d_188_5 (by decide) rfl (fun c => absurd c (by decide)) (fun _ => ?_)
    refine ar_iconst 9 (v := 0) d_188_8 rfl (by decide) ?_
    exact ar_iret d_188_9 rfl rfl (Or.inr ⟨d1, rfl, hn, hs⟩)
theorem n_190 {L : Nat} {xs : Nat → Int32} {fr lo m n sl : Nat} {h : ax_H} {fs : List Value} {x t iu ep c7 : Int32} (hl : fs.length = 39) (z0 : fs[0]? = some (.int t)) (z4 : fs[4]? = some (.int iu)) (z5 : fs[5]? = some (.int ep)) (z7 : fs[7]? = some (.int c7)) (hF : ax_hs h [(m, .inr (11, fs))]) (hn : h.1 = n) (hs : h.2.1 = sl) (hn0 : 0 < n) : ax_M L xs 190 fr lo [.ref m, .int x] h (fun r h' => r = some (.int (ep + 1)) ∧ h'.1 = n ∧ h'.2.1 = sl) := by
  show ax_A (ax_step L xs) ((190, 0, fr, lo), [(0, .ref m), (1, .int x)], [], h) _
  have hbase : h.1 = n := hn
  have hbasl : h.2.1 = sl := hs
  have hf : ax_fr (fun x => x ∈ [m]) h h := ax_fr.rf
  refine ar_aload_n 1 d_190_0 rfl rfl ?_
  refine ar_iload_n 2 d_190_1 rfl rfl ?_
  refine ar_iconst 3 (v := 1) d_190_2 rfl (by decide) ?_
  refine ar_aload_n 4 d_190_3 rfl rfl ?_
  refine ar_getf 7 d_190_4 rfl (ci := 11) (k := 0) rfl (hF.at 0 rfl) z0 ?_
  refine ar_ishl 8 d_190_7 rfl ?_
  refine ar_iconst 9 (v := 1) d_190_8 rfl (by decide) ?_
  refine ar_isub 10 d_190_9 rfl ?_
  refine ar_iand 11 d_190_10 rfl ?_
  refine ar_putf 14 (fs.set 4 (.int (x &&& ((1 <<< (t &&& 31)) - 1)))) d_190_11 rfl (ci := 11) (k := 4) rfl rfl (hF.at 0 rfl) (by rw [hl]; decide) rfl rfl rfl ?_
  replace hF : ax_hs (ax_put h m (.inr (11, (fs.set 4 (.int (x &&& ((1 <<< (t &&& 31)) - 1))))))) [(m, .inr (11, (fs.set 4 (.int (x &&& ((1 <<< (t &&& 31)) - 1))))))] := hF.put 0 _ rfl rfl
  replace hf := hf.put (a := m) (c := .inr (11, (fs.set 4 (.int (x &&& ((1 <<< (t &&& 31)) - 1)))))) (by simp)
  replace hn : (ax_put h m (.inr (11, (fs.set 4 (.int (x &&& ((1 <<< (t &&& 31)) - 1))))))).1 = n := hn
  replace hs : (ax_put h m (.inr (11, (fs.set 4 (.int (x &&& ((1 <<< (t &&& 31)) - 1))))))).2.1 = sl := hs
  generalize ax_put h m (.inr (11, (fs.set 4 (.int (x &&& ((1 <<< (t &&& 31)) - 1)))))) = h1 at hF hf hn hs ⊢
  replace z0 : (fs.set 4 (.int (x &&& ((1 <<< (t &&& 31)) - 1))))[0]? = some (.int t) := (List.getElem?_set_ne (by decide)).trans z0
  replace z5 : (fs.set 4 (.int (x &&& ((1 <<< (t &&& 31)) - 1))))[5]? = some (.int ep) := (List.getElem?_set_ne (by decide)).trans z5
  replace z7 : (fs.set 4 (.int (x &&& ((1 <<< (t &&& 31)) - 1))))[7]? = some (.int c7) := (List.getElem?_set_ne (by decide)).trans z7
  replace z4 : (fs.set 4 (.int (x &&& ((1 <<< (t &&& 31)) - 1))))[4]? = some (.int (x &&& ((1 <<< (t &&& 31)) - 1))) := List.getElem?_set_self (by rw [hl]; decide)
  replace hl : (fs.set 4 (.int (x &&& ((1 <<< (t &&& 31)) - 1)))).length = 39 := (List.length_set ..).trans hl
  generalize (fs.set 4 (.int (x &&& ((1 <<< (t &&& 31)) - 1)))) = fs1 at hF hl z0 z4 z5 z7 ⊢
  refine ar_aload_n 15 d_190_14 rfl rfl ?_
  refine ar_dup 16 d_190_15 rfl rfl ?_
  refine ar_getf 19 d_190_16 rfl (ci := 11) (k := 5) rfl (hF.at 0 rfl) z5 ?_
  refine ar_iconst 20 (v := 1) d_190_19 rfl (by decide) ?_
  refine ar_iadd 21 d_190_20 rfl ?_
  refine ar_putf 24 (fs1.set 5 (.int (ep + 1))) d_190_21 rfl (ci := 11) (k := 5) rfl rfl (hF.at 0 rfl) (by rw [hl]; decide) rfl rfl rfl ?_
  replace hF : ax_hs (ax_put h1 m (.inr (11, (fs1.set 5 (.int (ep + 1)))))) [(m, .inr (11, (fs1.set 5 (.int (ep + 1)))))] := hF.put 0 _ rfl rfl
  replace hf := hf.put (a := m) (c := .inr (11, (fs1.set 5 (.int (ep + 1))))) (by simp)
  replace hn : (ax_put h1 m (.inr (11, (fs1.set 5 (.int (ep + 1)))))).1 = n := hn
  replace hs : (ax_put h1 m (.inr (11, (fs1.set 5 (.int (ep + 1)))))).2.1 = sl := hs
  generalize ax_put h1 m (.inr (11, (fs1.set 5 (.int (ep + 1))))) = h2 at hF hf hn hs ⊢
  replace z0 : (fs1.set 5 (.int (ep + 1)))[0]? = some (.int t) := (List.getElem?_set_ne (by decide)).trans z0
  replace z4 : (fs1.set 5 (.int (ep + 1)))[4]? = some (.int (x &&& ((1 <<< (t &&& 31)) - 1))) := (List.getElem?_set_ne (by decide)).trans z4
  replace z7 : (fs1.set 5 (.int (ep + 1)))[7]? = some (.int c7) := (List.getElem?_set_ne (by decide)).trans z7
  replace z5 : (fs1.set 5 (.int (ep + 1)))[5]? = some (.int (ep + 1)) := List.getElem?_set_self (by rw [hl]; decide)
  replace hl : (fs1.set 5 (.int (ep + 1))).length = 39 := (List.length_set ..).trans hl
  generalize (fs1.set 5 (.int (ep + 1))) = fs2 at hF hl z0 z4 z5 z7 ⊢
  refine ar_aload_n 25 d_190_24 rfl rfl ?_
  refine ar_iconst 26 (v := 0) d_190_25 rfl (by decide) ?_
  refine ar_putf 29 (fs2.set 7 (.int 0)) d_190_26 rfl (ci := 11) (k := 7) rfl rfl (hF.at 0 rfl) (by rw [hl]; decide) rfl rfl rfl ?_
  replace hF : ax_hs (ax_put h2 m (.inr (11, (fs2.set 7 (.int 0))))) [(m, .inr (11, (fs2.set 7 (.int 0))))] := hF.put 0 _ rfl rfl
  replace hf := hf.put (a := m) (c := .inr (11, (fs2.set 7 (.int 0)))) (by simp)
  replace hn : (ax_put h2 m (.inr (11, (fs2.set 7 (.int 0))))).1 = n := hn
  replace hs : (ax_put h2 m (.inr (11, (fs2.set 7 (.int 0))))).2.1 = sl := hs
  generalize ax_put h2 m (.inr (11, (fs2.set 7 (.int 0)))) = h3 at hF hf hn hs ⊢
  replace z0 : (fs2.set 7 (.int 0))[0]? = some (.int t) := (List.getElem?_set_ne (by decide)).trans z0
  replace z4 : (fs2.set 7 (.int 0))[4]? = some (.int (x &&& ((1 <<< (t &&& 31)) - 1))) := (List.getElem?_set_ne (by decide)).trans z4
  replace z5 : (fs2.set 7 (.int 0))[5]? = some (.int (ep + 1)) := (List.getElem?_set_ne (by decide)).trans z5
  replace z7 : (fs2.set 7 (.int 0))[7]? = some (.int 0) := List.getElem?_set_self (by rw [hl]; decide)
  replace hl : (fs2.set 7 (.int 0)).length = 39 := (List.length_set ..).trans hl
  generalize (fs2.set 7 (.int 0)) = fs3 at hF hl z0 z4 z5 z7 ⊢
  refine ar_aload_n 30 d_190_29 rfl rfl ?_
  refine ar_getf 33 d_190_30 rfl (ci := 11) (k := 5) rfl (hF.at 0 rfl) z5 ?_
  exact ar_iret d_190_33 rfl rfl (⟨rfl, hn, hs⟩)
theorem n_191 {L : Nat} {xs : Nat → Int32} {fr lo m n sl : Nat} {h : ax_H} {fs : List Value} {x t u : Int32} (hfr : 1 ≤ fr) (hlo : 40 ≤ lo) (hd : ¬ (¬ x < 0 ∧ ¬ t ≤ x ∧ ¬ ((u >>> (x &&& 31)) &&& 1 ≠ 0))) (hl : fs.length = 39) (z0 : fs[0]? = some (.int t)) (z3 : fs[3]? = some (.int u)) (hF : ax_hs h [(m, .inr (11, fs))]) (hn : h.1 = n) (hs : h.2.1 = sl) (hn0 : 0 < n) : ax_M L xs 191 fr lo [.ref m, .int x] h (fun r h' => r = some (.int 0) ∧ h'.1 = n ∧ h'.2.1 = sl) := by
  show ax_A (ax_step L xs) ((191, 0, fr, lo), [(0, .ref m), (1, .int x)], [], h) _
  have hbase : h.1 = n := hn
  have hbasl : h.2.1 = sl := hs
  have hf : ax_fr (fun x => x ∈ [m]) h h := ax_fr.rf
  refine ar_aload_n 1 d_191_0 rfl rfl ?_
  refine ar_iload_n 2 d_191_1 rfl rfl ?_
  refine ar_call (r := []) (na := 0) (kd := 0) (cm := 189) (fr2 := fr - 1) (lo2 := lo - 21) 5 d_191_2 (ar_hoV (as := [.int x]) rfl rfl rfl (hF.at 0 rfl)) rfl (by omega) (show lo - 21 + (19 + 2) = lo by omega) (Nat.le_of_ble_eq_true rfl) (Nat.le_of_ble_eq_true rfl) (c_189 (hF.at 0 rfl) z0 z3) ?_
  intro v hh hq
  obtain (⟨d1, d2, d3, rfl, ehh⟩ | ⟨d1, rfl, ehh⟩) := hq
  · exact absurd ⟨d1, d2, d3⟩ hd
  · rw [ehh]
    refine ar_if_eq 21 8 d_191_5 (by decide) rfl (fun _ => ?_) (fun c => absurd (rfl) c)
    refine ar_iconst 22 (v := 0) d_191_21 rfl (by decide) ?_
    exact ar_iret d_191_22 rfl rfl (⟨rfl, hn, hs⟩)
theorem n_192z {L : Nat} {xs : Nat → Int32} {fr lo m n sl : Nat} {h : ax_H} {fs : List Value} {t u iu ep rp c7 to s22 s23 s24 op s37 s38 : Int32} (hl : fs.length = 39) (z0 : fs[0]? = some (.int t)) (z3 : fs[3]? = some (.int u)) (z4 : fs[4]? = some (.int iu)) (z5 : fs[5]? = some (.int ep)) (z6 : fs[6]? = some (.int rp)) (z7 : fs[7]? = some (.int c7)) (z20 : fs[20]? = some (.int 0)) (z21 : fs[21]? = some (.int to)) (z22 : fs[22]? = some (.int s22)) (z23 : fs[23]? = some (.int s23)) (z24 : fs[24]? = some (.int s24)) (z25 : fs[25]? = some (.int op)) (z26 : fs[26]? = some (.int 0)) (z37 : fs[37]? = some (.int s37)) (z38 : fs[38]? = some (.int s38)) (hF : ax_hs h [(m, .inr (11, fs))]) (hn : h.1 = n) (hs : h.2.1 = sl) (hn0 : 0 < n) : ax_M L xs 192 fr lo [.ref m] h (fun r h' => r = some (.int 0) ∧ h'.1 = n ∧ h'.2.1 = sl) := by
  show ax_A (ax_step L xs) ((192, 0, fr, lo), [(0, .ref m)], [], h) _
  have hbase : h.1 = n := hn
  have hbasl : h.2.1 = sl := hs
  have hf : ax_fr (fun x => x ∈ [m]) h h := ax_fr.rf
  refine ar_aload_n 1 d_192_0 rfl rfl ?_
  refine ar_getf 4 d_192_1 rfl (ci := 11) (k := 26) rfl (hF.at 0 rfl) z26 ?_
  refine ar_istore_n 5 [(0, .ref m), (1, .int 0)] d_192_4 rfl (by decide) rfl ?_
  refine ar_aload_n 6 d_192_5 rfl rfl ?_
  refine ar_aload_n 7 d_192_6 rfl rfl ?_
  refine ar_getf 10 d_192_7 rfl (ci := 11) (k := 25) rfl (hF.at 0 rfl) z25 ?_
  refine ar_iload_n 11 d_192_10 rfl rfl ?_
  refine ar_isub 12 d_192_11 rfl ?_
  refine ar_putf 15 (fs.set 37 (.int (op - 0))) d_192_12 rfl (ci := 11) (k := 37) rfl rfl (hF.at 0 rfl) (by rw [hl]; decide) rfl rfl rfl ?_
  replace hF : ax_hs (ax_put h m (.inr (11, (fs.set 37 (.int (op - 0)))))) [(m, .inr (11, (fs.set 37 (.int (op - 0)))))] := hF.put 0 _ rfl rfl
  replace hf := hf.put (a := m) (c := .inr (11, (fs.set 37 (.int (op - 0))))) (by simp)
  replace hn : (ax_put h m (.inr (11, (fs.set 37 (.int (op - 0)))))).1 = n := hn
  replace hs : (ax_put h m (.inr (11, (fs.set 37 (.int (op - 0)))))).2.1 = sl := hs
  generalize ax_put h m (.inr (11, (fs.set 37 (.int (op - 0))))) = h1 at hF hf hn hs ⊢
  replace z0 : (fs.set 37 (.int (op - 0)))[0]? = some (.int t) := (List.getElem?_set_ne (by decide)).trans z0
  replace z3 : (fs.set 37 (.int (op - 0)))[3]? = some (.int u) := (List.getElem?_set_ne (by decide)).trans z3
  replace z4 : (fs.set 37 (.int (op - 0)))[4]? = some (.int iu) := (List.getElem?_set_ne (by decide)).trans z4
  replace z5 : (fs.set 37 (.int (op - 0)))[5]? = some (.int ep) := (List.getElem?_set_ne (by decide)).trans z5
  replace z6 : (fs.set 37 (.int (op - 0)))[6]? = some (.int rp) := (List.getElem?_set_ne (by decide)).trans z6
  replace z7 : (fs.set 37 (.int (op - 0)))[7]? = some (.int c7) := (List.getElem?_set_ne (by decide)).trans z7
  replace z20 : (fs.set 37 (.int (op - 0)))[20]? = some (.int 0) := (List.getElem?_set_ne (by decide)).trans z20
  replace z21 : (fs.set 37 (.int (op - 0)))[21]? = some (.int to) := (List.getElem?_set_ne (by decide)).trans z21
  replace z22 : (fs.set 37 (.int (op - 0)))[22]? = some (.int s22) := (List.getElem?_set_ne (by decide)).trans z22
  replace z23 : (fs.set 37 (.int (op - 0)))[23]? = some (.int s23) := (List.getElem?_set_ne (by decide)).trans z23
  replace z24 : (fs.set 37 (.int (op - 0)))[24]? = some (.int s24) := (List.getElem?_set_ne (by decide)).trans z24
  replace z25 : (fs.set 37 (.int (op - 0)))[25]? = some (.int op) := (List.getElem?_set_ne (by decide)).trans z25
  replace z26 : (fs.set 37 (.int (op - 0)))[26]? = some (.int 0) := (List.getElem?_set_ne (by decide)).trans z26
  replace z38 : (fs.set 37 (.int (op - 0)))[38]? = some (.int s38) := (List.getElem?_set_ne (by decide)).trans z38
  replace z37 : (fs.set 37 (.int (op - 0)))[37]? = some (.int (op - 0)) := List.getElem?_set_self (by rw [hl]; decide)
  replace hl : (fs.set 37 (.int (op - 0))).length = 39 := (List.length_set ..).trans hl
  generalize (fs.set 37 (.int (op - 0))) = fs1 at hF hl z0 z3 z4 z5 z6 z7 z20 z21 z22 z23 z24 z25 z26 z37 z38 ⊢
  refine ar_aload_n 16 d_192_15 rfl rfl ?_
  refine ar_iload_n 17 d_192_16 rfl rfl ?_
  refine ar_putf 20 (fs1.set 38 (.int 0)) d_192_17 rfl (ci := 11) (k := 38) rfl rfl (hF.at 0 rfl) (by rw [hl]; decide) rfl rfl rfl ?_
  replace hF : ax_hs (ax_put h1 m (.inr (11, (fs1.set 38 (.int 0))))) [(m, .inr (11, (fs1.set 38 (.int 0))))] := hF.put 0 _ rfl rfl
  replace hf := hf.put (a := m) (c := .inr (11, (fs1.set 38 (.int 0)))) (by simp)
  replace hn : (ax_put h1 m (.inr (11, (fs1.set 38 (.int 0))))).1 = n := hn
  replace hs : (ax_put h1 m (.inr (11, (fs1.set 38 (.int 0))))).2.1 = sl := hs
  generalize ax_put h1 m (.inr (11, (fs1.set 38 (.int 0)))) = h2 at hF hf hn hs ⊢
  replace z0 : (fs1.set 38 (.int 0))[0]? = some (.int t) := (List.getElem?_set_ne (by decide)).trans z0
  replace z3 : (fs1.set 38 (.int 0))[3]? = some (.int u) := (List.getElem?_set_ne (by decide)).trans z3
  replace z4 : (fs1.set 38 (.int 0))[4]? = some (.int iu) := (List.getElem?_set_ne (by decide)).trans z4
  replace z5 : (fs1.set 38 (.int 0))[5]? = some (.int ep) := (List.getElem?_set_ne (by decide)).trans z5
  replace z6 : (fs1.set 38 (.int 0))[6]? = some (.int rp) := (List.getElem?_set_ne (by decide)).trans z6
  replace z7 : (fs1.set 38 (.int 0))[7]? = some (.int c7) := (List.getElem?_set_ne (by decide)).trans z7
  replace z20 : (fs1.set 38 (.int 0))[20]? = some (.int 0) := (List.getElem?_set_ne (by decide)).trans z20
  replace z21 : (fs1.set 38 (.int 0))[21]? = some (.int to) := (List.getElem?_set_ne (by decide)).trans z21
  replace z22 : (fs1.set 38 (.int 0))[22]? = some (.int s22) := (List.getElem?_set_ne (by decide)).trans z22
  replace z23 : (fs1.set 38 (.int 0))[23]? = some (.int s23) := (List.getElem?_set_ne (by decide)).trans z23
  replace z24 : (fs1.set 38 (.int 0))[24]? = some (.int s24) := (List.getElem?_set_ne (by decide)).trans z24
  replace z25 : (fs1.set 38 (.int 0))[25]? = some (.int op) := (List.getElem?_set_ne (by decide)).trans z25
  replace z26 : (fs1.set 38 (.int 0))[26]? = some (.int 0) := (List.getElem?_set_ne (by decide)).trans z26
  replace z37 : (fs1.set 38 (.int 0))[37]? = some (.int (op - 0)) := (List.getElem?_set_ne (by decide)).trans z37
  replace z38 : (fs1.set 38 (.int 0))[38]? = some (.int 0) := List.getElem?_set_self (by rw [hl]; decide)
  replace hl : (fs1.set 38 (.int 0)).length = 39 := (List.length_set ..).trans hl
  generalize (fs1.set 38 (.int 0)) = fs2 at hF hl z0 z3 z4 z5 z6 z7 z20 z21 z22 z23 z24 z25 z26 z37 z38 ⊢
  refine ar_iconst 21 (v := 0) d_192_20 rfl (by decide) ?_
  refine ar_istore_n 22 [(0, .ref m), (1, .int 0), (2, .int 0)] d_192_21 rfl (by decide) rfl ?_
  refine ar_iload_n 23 d_192_22 rfl rfl ?_
  refine ar_iload_n 24 d_192_23 rfl rfl ?_
  refine ar_icmp_ge 105 27 d_192_24 (by decide) rfl (fun _ => ?_) (fun c => absurd (Int32.le_refl _) c)
  refine ar_aload_n 106 d_192_105 rfl rfl ?_
  refine ar_iconst 107 (v := 0) d_192_106 rfl (by decide) ?_
  refine ar_putf 110 (fs2.set 26 (.int 0)) d_192_107 rfl (ci := 11) (k := 26) rfl rfl (hF.at 0 rfl) (by rw [hl]; decide) rfl rfl rfl ?_
  replace hF : ax_hs (ax_put h2 m (.inr (11, (fs2.set 26 (.int 0))))) [(m, .inr (11, (fs2.set 26 (.int 0))))] := hF.put 0 _ rfl rfl
  replace hf := hf.put (a := m) (c := .inr (11, (fs2.set 26 (.int 0)))) (by simp)
  replace hn : (ax_put h2 m (.inr (11, (fs2.set 26 (.int 0))))).1 = n := hn
  replace hs : (ax_put h2 m (.inr (11, (fs2.set 26 (.int 0))))).2.1 = sl := hs
  generalize ax_put h2 m (.inr (11, (fs2.set 26 (.int 0)))) = h3 at hF hf hn hs ⊢
  replace z0 : (fs2.set 26 (.int 0))[0]? = some (.int t) := (List.getElem?_set_ne (by decide)).trans z0
  replace z3 : (fs2.set 26 (.int 0))[3]? = some (.int u) := (List.getElem?_set_ne (by decide)).trans z3
  replace z4 : (fs2.set 26 (.int 0))[4]? = some (.int iu) := (List.getElem?_set_ne (by decide)).trans z4
  replace z5 : (fs2.set 26 (.int 0))[5]? = some (.int ep) := (List.getElem?_set_ne (by decide)).trans z5
  replace z6 : (fs2.set 26 (.int 0))[6]? = some (.int rp) := (List.getElem?_set_ne (by decide)).trans z6
  replace z7 : (fs2.set 26 (.int 0))[7]? = some (.int c7) := (List.getElem?_set_ne (by decide)).trans z7
  replace z20 : (fs2.set 26 (.int 0))[20]? = some (.int 0) := (List.getElem?_set_ne (by decide)).trans z20
  replace z21 : (fs2.set 26 (.int 0))[21]? = some (.int to) := (List.getElem?_set_ne (by decide)).trans z21
  replace z22 : (fs2.set 26 (.int 0))[22]? = some (.int s22) := (List.getElem?_set_ne (by decide)).trans z22
  replace z23 : (fs2.set 26 (.int 0))[23]? = some (.int s23) := (List.getElem?_set_ne (by decide)).trans z23
  replace z24 : (fs2.set 26 (.int 0))[24]? = some (.int s24) := (List.getElem?_set_ne (by decide)).trans z24
  replace z25 : (fs2.set 26 (.int 0))[25]? = some (.int op) := (List.getElem?_set_ne (by decide)).trans z25
  replace z37 : (fs2.set 26 (.int 0))[37]? = some (.int (op - 0)) := (List.getElem?_set_ne (by decide)).trans z37
  replace z38 : (fs2.set 26 (.int 0))[38]? = some (.int 0) := (List.getElem?_set_ne (by decide)).trans z38
  replace z26 : (fs2.set 26 (.int 0))[26]? = some (.int 0) := List.getElem?_set_self (by rw [hl]; decide)
  replace hl : (fs2.set 26 (.int 0)).length = 39 := (List.length_set ..).trans hl
  generalize (fs2.set 26 (.int 0)) = fs3 at hF hl z0 z3 z4 z5 z6 z7 z20 z21 z22 z23 z24 z25 z26 z37 z38 ⊢
  refine ar_aload_n 111 d_192_110 rfl rfl ?_
  refine ar_iconst 112 (v := 1) d_192_111 rfl (by decide) ?_
  refine ar_aload_n 113 d_192_112 rfl rfl ?_
  refine ar_getf 116 d_192_113 rfl (ci := 11) (k := 0) rfl (hF.at 0 rfl) z0 ?_
  refine ar_ishl 117 d_192_116 rfl ?_
  refine ar_iconst 118 (v := 1) d_192_117 rfl (by decide) ?_
  refine ar_isub 119 d_192_118 rfl ?_
  refine ar_putf 122 (fs3.set 3 (.int ((1 <<< (t &&& 31)) - 1))) d_192_119 rfl (ci := 11) (k := 3) rfl rfl (hF.at 0 rfl) (by rw [hl]; decide) rfl rfl rfl ?_
  replace hF : ax_hs (ax_put h3 m (.inr (11, (fs3.set 3 (.int ((1 <<< (t &&& 31)) - 1)))))) [(m, .inr (11, (fs3.set 3 (.int ((1 <<< (t &&& 31)) - 1)))))] := hF.put 0 _ rfl rfl
  replace hf := hf.put (a := m) (c := .inr (11, (fs3.set 3 (.int ((1 <<< (t &&& 31)) - 1))))) (by simp)
  replace hn : (ax_put h3 m (.inr (11, (fs3.set 3 (.int ((1 <<< (t &&& 31)) - 1)))))).1 = n := hn
  replace hs : (ax_put h3 m (.inr (11, (fs3.set 3 (.int ((1 <<< (t &&& 31)) - 1)))))).2.1 = sl := hs
  generalize ax_put h3 m (.inr (11, (fs3.set 3 (.int ((1 <<< (t &&& 31)) - 1))))) = h4 at hF hf hn hs ⊢
  replace z0 : (fs3.set 3 (.int ((1 <<< (t &&& 31)) - 1)))[0]? = some (.int t) := (List.getElem?_set_ne (by decide)).trans z0
  replace z4 : (fs3.set 3 (.int ((1 <<< (t &&& 31)) - 1)))[4]? = some (.int iu) := (List.getElem?_set_ne (by decide)).trans z4
  replace z5 : (fs3.set 3 (.int ((1 <<< (t &&& 31)) - 1)))[5]? = some (.int ep) := (List.getElem?_set_ne (by decide)).trans z5
  replace z6 : (fs3.set 3 (.int ((1 <<< (t &&& 31)) - 1)))[6]? = some (.int rp) := (List.getElem?_set_ne (by decide)).trans z6
  replace z7 : (fs3.set 3 (.int ((1 <<< (t &&& 31)) - 1)))[7]? = some (.int c7) := (List.getElem?_set_ne (by decide)).trans z7
  replace z20 : (fs3.set 3 (.int ((1 <<< (t &&& 31)) - 1)))[20]? = some (.int 0) := (List.getElem?_set_ne (by decide)).trans z20
  replace z21 : (fs3.set 3 (.int ((1 <<< (t &&& 31)) - 1)))[21]? = some (.int to) := (List.getElem?_set_ne (by decide)).trans z21
  replace z22 : (fs3.set 3 (.int ((1 <<< (t &&& 31)) - 1)))[22]? = some (.int s22) := (List.getElem?_set_ne (by decide)).trans z22
  replace z23 : (fs3.set 3 (.int ((1 <<< (t &&& 31)) - 1)))[23]? = some (.int s23) := (List.getElem?_set_ne (by decide)).trans z23
  replace z24 : (fs3.set 3 (.int ((1 <<< (t &&& 31)) - 1)))[24]? = some (.int s24) := (List.getElem?_set_ne (by decide)).trans z24
  replace z25 : (fs3.set 3 (.int ((1 <<< (t &&& 31)) - 1)))[25]? = some (.int op) := (List.getElem?_set_ne (by decide)).trans z25
  replace z26 : (fs3.set 3 (.int ((1 <<< (t &&& 31)) - 1)))[26]? = some (.int 0) := (List.getElem?_set_ne (by decide)).trans z26
  replace z37 : (fs3.set 3 (.int ((1 <<< (t &&& 31)) - 1)))[37]? = some (.int (op - 0)) := (List.getElem?_set_ne (by decide)).trans z37
  replace z38 : (fs3.set 3 (.int ((1 <<< (t &&& 31)) - 1)))[38]? = some (.int 0) := (List.getElem?_set_ne (by decide)).trans z38
  replace z3 : (fs3.set 3 (.int ((1 <<< (t &&& 31)) - 1)))[3]? = some (.int ((1 <<< (t &&& 31)) - 1)) := List.getElem?_set_self (by rw [hl]; decide)
  replace hl : (fs3.set 3 (.int ((1 <<< (t &&& 31)) - 1))).length = 39 := (List.length_set ..).trans hl
  generalize (fs3.set 3 (.int ((1 <<< (t &&& 31)) - 1))) = fs4 at hF hl z0 z3 z4 z5 z6 z7 z20 z21 z22 z23 z24 z25 z26 z37 z38 ⊢
  refine ar_aload_n 123 d_192_122 rfl rfl ?_
  refine ar_aload_n 124 d_192_123 rfl rfl ?_
  refine ar_getf 127 d_192_124 rfl (ci := 11) (k := 3) rfl (hF.at 0 rfl) z3 ?_
  refine ar_putf 130 (fs4.set 4 (.int ((1 <<< (t &&& 31)) - 1))) d_192_127 rfl (ci := 11) (k := 4) rfl rfl (hF.at 0 rfl) (by rw [hl]; decide) rfl rfl rfl ?_
  replace hF : ax_hs (ax_put h4 m (.inr (11, (fs4.set 4 (.int ((1 <<< (t &&& 31)) - 1)))))) [(m, .inr (11, (fs4.set 4 (.int ((1 <<< (t &&& 31)) - 1)))))] := hF.put 0 _ rfl rfl
  replace hf := hf.put (a := m) (c := .inr (11, (fs4.set 4 (.int ((1 <<< (t &&& 31)) - 1))))) (by simp)
  replace hn : (ax_put h4 m (.inr (11, (fs4.set 4 (.int ((1 <<< (t &&& 31)) - 1)))))).1 = n := hn
  replace hs : (ax_put h4 m (.inr (11, (fs4.set 4 (.int ((1 <<< (t &&& 31)) - 1)))))).2.1 = sl := hs
  generalize ax_put h4 m (.inr (11, (fs4.set 4 (.int ((1 <<< (t &&& 31)) - 1))))) = h5 at hF hf hn hs ⊢
  replace z0 : (fs4.set 4 (.int ((1 <<< (t &&& 31)) - 1)))[0]? = some (.int t) := (List.getElem?_set_ne (by decide)).trans z0
  replace z3 : (fs4.set 4 (.int ((1 <<< (t &&& 31)) - 1)))[3]? = some (.int ((1 <<< (t &&& 31)) - 1)) := (List.getElem?_set_ne (by decide)).trans z3
  replace z5 : (fs4.set 4 (.int ((1 <<< (t &&& 31)) - 1)))[5]? = some (.int ep) := (List.getElem?_set_ne (by decide)).trans z5
  replace z6 : (fs4.set 4 (.int ((1 <<< (t &&& 31)) - 1)))[6]? = some (.int rp) := (List.getElem?_set_ne (by decide)).trans z6
  replace z7 : (fs4.set 4 (.int ((1 <<< (t &&& 31)) - 1)))[7]? = some (.int c7) := (List.getElem?_set_ne (by decide)).trans z7
  replace z20 : (fs4.set 4 (.int ((1 <<< (t &&& 31)) - 1)))[20]? = some (.int 0) := (List.getElem?_set_ne (by decide)).trans z20
  replace z21 : (fs4.set 4 (.int ((1 <<< (t &&& 31)) - 1)))[21]? = some (.int to) := (List.getElem?_set_ne (by decide)).trans z21
  replace z22 : (fs4.set 4 (.int ((1 <<< (t &&& 31)) - 1)))[22]? = some (.int s22) := (List.getElem?_set_ne (by decide)).trans z22
  replace z23 : (fs4.set 4 (.int ((1 <<< (t &&& 31)) - 1)))[23]? = some (.int s23) := (List.getElem?_set_ne (by decide)).trans z23
  replace z24 : (fs4.set 4 (.int ((1 <<< (t &&& 31)) - 1)))[24]? = some (.int s24) := (List.getElem?_set_ne (by decide)).trans z24
  replace z25 : (fs4.set 4 (.int ((1 <<< (t &&& 31)) - 1)))[25]? = some (.int op) := (List.getElem?_set_ne (by decide)).trans z25
  replace z26 : (fs4.set 4 (.int ((1 <<< (t &&& 31)) - 1)))[26]? = some (.int 0) := (List.getElem?_set_ne (by decide)).trans z26
  replace z37 : (fs4.set 4 (.int ((1 <<< (t &&& 31)) - 1)))[37]? = some (.int (op - 0)) := (List.getElem?_set_ne (by decide)).trans z37
  replace z38 : (fs4.set 4 (.int ((1 <<< (t &&& 31)) - 1)))[38]? = some (.int 0) := (List.getElem?_set_ne (by decide)).trans z38
  replace z4 : (fs4.set 4 (.int ((1 <<< (t &&& 31)) - 1)))[4]? = some (.int ((1 <<< (t &&& 31)) - 1)) := List.getElem?_set_self (by rw [hl]; decide)
  replace hl : (fs4.set 4 (.int ((1 <<< (t &&& 31)) - 1))).length = 39 := (List.length_set ..).trans hl
  generalize (fs4.set 4 (.int ((1 <<< (t &&& 31)) - 1))) = fs5 at hF hl z0 z3 z4 z5 z6 z7 z20 z21 z22 z23 z24 z25 z26 z37 z38 ⊢
  refine ar_aload_n 131 d_192_130 rfl rfl ?_
  refine ar_dup 132 d_192_131 rfl rfl ?_
  refine ar_getf 135 d_192_132 rfl (ci := 11) (k := 5) rfl (hF.at 0 rfl) z5 ?_
  refine ar_iconst 136 (v := 1) d_192_135 rfl (by decide) ?_
  refine ar_iadd 137 d_192_136 rfl ?_
  refine ar_putf 140 (fs5.set 5 (.int (ep + 1))) d_192_137 rfl (ci := 11) (k := 5) rfl rfl (hF.at 0 rfl) (by rw [hl]; decide) rfl rfl rfl ?_
  replace hF : ax_hs (ax_put h5 m (.inr (11, (fs5.set 5 (.int (ep + 1)))))) [(m, .inr (11, (fs5.set 5 (.int (ep + 1)))))] := hF.put 0 _ rfl rfl
  replace hf := hf.put (a := m) (c := .inr (11, (fs5.set 5 (.int (ep + 1))))) (by simp)
  replace hn : (ax_put h5 m (.inr (11, (fs5.set 5 (.int (ep + 1)))))).1 = n := hn
  replace hs : (ax_put h5 m (.inr (11, (fs5.set 5 (.int (ep + 1)))))).2.1 = sl := hs
  generalize ax_put h5 m (.inr (11, (fs5.set 5 (.int (ep + 1))))) = h6 at hF hf hn hs ⊢
  replace z0 : (fs5.set 5 (.int (ep + 1)))[0]? = some (.int t) := (List.getElem?_set_ne (by decide)).trans z0
  replace z3 : (fs5.set 5 (.int (ep + 1)))[3]? = some (.int ((1 <<< (t &&& 31)) - 1)) := (List.getElem?_set_ne (by decide)).trans z3
  replace z4 : (fs5.set 5 (.int (ep + 1)))[4]? = some (.int ((1 <<< (t &&& 31)) - 1)) := (List.getElem?_set_ne (by decide)).trans z4
  replace z6 : (fs5.set 5 (.int (ep + 1)))[6]? = some (.int rp) := (List.getElem?_set_ne (by decide)).trans z6
  replace z7 : (fs5.set 5 (.int (ep + 1)))[7]? = some (.int c7) := (List.getElem?_set_ne (by decide)).trans z7
  replace z20 : (fs5.set 5 (.int (ep + 1)))[20]? = some (.int 0) := (List.getElem?_set_ne (by decide)).trans z20
  replace z21 : (fs5.set 5 (.int (ep + 1)))[21]? = some (.int to) := (List.getElem?_set_ne (by decide)).trans z21
  replace z22 : (fs5.set 5 (.int (ep + 1)))[22]? = some (.int s22) := (List.getElem?_set_ne (by decide)).trans z22
  replace z23 : (fs5.set 5 (.int (ep + 1)))[23]? = some (.int s23) := (List.getElem?_set_ne (by decide)).trans z23
  replace z24 : (fs5.set 5 (.int (ep + 1)))[24]? = some (.int s24) := (List.getElem?_set_ne (by decide)).trans z24
  replace z25 : (fs5.set 5 (.int (ep + 1)))[25]? = some (.int op) := (List.getElem?_set_ne (by decide)).trans z25
  replace z26 : (fs5.set 5 (.int (ep + 1)))[26]? = some (.int 0) := (List.getElem?_set_ne (by decide)).trans z26
  replace z37 : (fs5.set 5 (.int (ep + 1)))[37]? = some (.int (op - 0)) := (List.getElem?_set_ne (by decide)).trans z37
  replace z38 : (fs5.set 5 (.int (ep + 1)))[38]? = some (.int 0) := (List.getElem?_set_ne (by decide)).trans z38
  replace z5 : (fs5.set 5 (.int (ep + 1)))[5]? = some (.int (ep + 1)) := List.getElem?_set_self (by rw [hl]; decide)
  replace hl : (fs5.set 5 (.int (ep + 1))).length = 39 := (List.length_set ..).trans hl
  generalize (fs5.set 5 (.int (ep + 1))) = fs6 at hF hl z0 z3 z4 z5 z6 z7 z20 z21 z22 z23 z24 z25 z26 z37 z38 ⊢
  refine ar_aload_n 141 d_192_140 rfl rfl ?_
  refine ar_iconst 142 (v := 0) d_192_141 rfl (by decide) ?_
  refine ar_putf 145 (fs6.set 6 (.int 0)) d_192_142 rfl (ci := 11) (k := 6) rfl rfl (hF.at 0 rfl) (by rw [hl]; decide) rfl rfl rfl ?_
  replace hF : ax_hs (ax_put h6 m (.inr (11, (fs6.set 6 (.int 0))))) [(m, .inr (11, (fs6.set 6 (.int 0))))] := hF.put 0 _ rfl rfl
  replace hf := hf.put (a := m) (c := .inr (11, (fs6.set 6 (.int 0)))) (by simp)
  replace hn : (ax_put h6 m (.inr (11, (fs6.set 6 (.int 0))))).1 = n := hn
  replace hs : (ax_put h6 m (.inr (11, (fs6.set 6 (.int 0))))).2.1 = sl := hs
  generalize ax_put h6 m (.inr (11, (fs6.set 6 (.int 0)))) = h7 at hF hf hn hs ⊢
  replace z0 : (fs6.set 6 (.int 0))[0]? = some (.int t) := (List.getElem?_set_ne (by decide)).trans z0
  replace z3 : (fs6.set 6 (.int 0))[3]? = some (.int ((1 <<< (t &&& 31)) - 1)) := (List.getElem?_set_ne (by decide)).trans z3
  replace z4 : (fs6.set 6 (.int 0))[4]? = some (.int ((1 <<< (t &&& 31)) - 1)) := (List.getElem?_set_ne (by decide)).trans z4
  replace z5 : (fs6.set 6 (.int 0))[5]? = some (.int (ep + 1)) := (List.getElem?_set_ne (by decide)).trans z5
  replace z7 : (fs6.set 6 (.int 0))[7]? = some (.int c7) := (List.getElem?_set_ne (by decide)).trans z7
  replace z20 : (fs6.set 6 (.int 0))[20]? = some (.int 0) := (List.getElem?_set_ne (by decide)).trans z20
  replace z21 : (fs6.set 6 (.int 0))[21]? = some (.int to) := (List.getElem?_set_ne (by decide)).trans z21
  replace z22 : (fs6.set 6 (.int 0))[22]? = some (.int s22) := (List.getElem?_set_ne (by decide)).trans z22
  replace z23 : (fs6.set 6 (.int 0))[23]? = some (.int s23) := (List.getElem?_set_ne (by decide)).trans z23
  replace z24 : (fs6.set 6 (.int 0))[24]? = some (.int s24) := (List.getElem?_set_ne (by decide)).trans z24
  replace z25 : (fs6.set 6 (.int 0))[25]? = some (.int op) := (List.getElem?_set_ne (by decide)).trans z25
  replace z26 : (fs6.set 6 (.int 0))[26]? = some (.int 0) := (List.getElem?_set_ne (by decide)).trans z26
  replace z37 : (fs6.set 6 (.int 0))[37]? = some (.int (op - 0)) := (List.getElem?_set_ne (by decide)).trans z37
  replace z38 : (fs6.set 6 (.int 0))[38]? = some (.int 0) := (List.getElem?_set_ne (by decide)).trans z38
  replace z6 : (fs6.set 6 (.int 0))[6]? = some (.int 0) := List.getElem?_set_self (by rw [hl]; decide)
  replace hl : (fs6.set 6 (.int 0)).length = 39 := (List.length_set ..).trans hl
  generalize (fs6.set 6 (.int 0)) = fs7 at hF hl z0 z3 z4 z5 z6 z7 z20 z21 z22 z23 z24 z25 z26 z37 z38 ⊢
  refine ar_aload_n 146 d_192_145 rfl rfl ?_
  refine ar_iconst 147 (v := 1) d_192_146 rfl (by decide) ?_
  refine ar_putf 150 (fs7.set 7 (.int 1)) d_192_147 rfl (ci := 11) (k := 7) rfl rfl (hF.at 0 rfl) (by rw [hl]; decide) rfl rfl rfl ?_
  replace hF : ax_hs (ax_put h7 m (.inr (11, (fs7.set 7 (.int 1))))) [(m, .inr (11, (fs7.set 7 (.int 1))))] := hF.put 0 _ rfl rfl
  replace hf := hf.put (a := m) (c := .inr (11, (fs7.set 7 (.int 1)))) (by simp)
  replace hn : (ax_put h7 m (.inr (11, (fs7.set 7 (.int 1))))).1 = n := hn
  replace hs : (ax_put h7 m (.inr (11, (fs7.set 7 (.int 1))))).2.1 = sl := hs
  generalize ax_put h7 m (.inr (11, (fs7.set 7 (.int 1)))) = h8 at hF hf hn hs ⊢
  replace z0 : (fs7.set 7 (.int 1))[0]? = some (.int t) := (List.getElem?_set_ne (by decide)).trans z0
  replace z3 : (fs7.set 7 (.int 1))[3]? = some (.int ((1 <<< (t &&& 31)) - 1)) := (List.getElem?_set_ne (by decide)).trans z3
  replace z4 : (fs7.set 7 (.int 1))[4]? = some (.int ((1 <<< (t &&& 31)) - 1)) := (List.getElem?_set_ne (by decide)).trans z4
  replace z5 : (fs7.set 7 (.int 1))[5]? = some (.int (ep + 1)) := (List.getElem?_set_ne (by decide)).trans z5
  replace z6 : (fs7.set 7 (.int 1))[6]? = some (.int 0) := (List.getElem?_set_ne (by decide)).trans z6
  replace z20 : (fs7.set 7 (.int 1))[20]? = some (.int 0) := (List.getElem?_set_ne (by decide)).trans z20
  replace z21 : (fs7.set 7 (.int 1))[21]? = some (.int to) := (List.getElem?_set_ne (by decide)).trans z21
  replace z22 : (fs7.set 7 (.int 1))[22]? = some (.int s22) := (List.getElem?_set_ne (by decide)).trans z22
  replace z23 : (fs7.set 7 (.int 1))[23]? = some (.int s23) := (List.getElem?_set_ne (by decide)).trans z23
  replace z24 : (fs7.set 7 (.int 1))[24]? = some (.int s24) := (List.getElem?_set_ne (by decide)).trans z24
  replace z25 : (fs7.set 7 (.int 1))[25]? = some (.int op) := (List.getElem?_set_ne (by decide)).trans z25
  replace z26 : (fs7.set 7 (.int 1))[26]? = some (.int 0) := (List.getElem?_set_ne (by decide)).trans z26
  replace z37 : (fs7.set 7 (.int 1))[37]? = some (.int (op - 0)) := (List.getElem?_set_ne (by decide)).trans z37
  replace z38 : (fs7.set 7 (.int 1))[38]? = some (.int 0) := (List.getElem?_set_ne (by decide)).trans z38
  replace z7 : (fs7.set 7 (.int 1))[7]? = some (.int 1) := List.getElem?_set_self (by rw [hl]; decide)
  replace hl : (fs7.set 7 (.int 1)).length = 39 := (List.length_set ..).trans hl
  generalize (fs7.set 7 (.int 1)) = fs8 at hF hl z0 z3 z4 z5 z6 z7 z20 z21 z22 z23 z24 z25 z26 z37 z38 ⊢
  refine ar_aload_n 151 d_192_150 rfl rfl ?_
  refine ar_aload_n 152 d_192_151 rfl rfl ?_
  refine ar_getf 155 d_192_152 rfl (ci := 11) (k := 20) rfl (hF.at 0 rfl) z20 ?_
  refine ar_putf 158 (fs8.set 22 (.int 0)) d_192_155 rfl (ci := 11) (k := 22) rfl rfl (hF.at 0 rfl) (by rw [hl]; decide) rfl rfl rfl ?_
  replace hF : ax_hs (ax_put h8 m (.inr (11, (fs8.set 22 (.int 0))))) [(m, .inr (11, (fs8.set 22 (.int 0))))] := hF.put 0 _ rfl rfl
  replace hf := hf.put (a := m) (c := .inr (11, (fs8.set 22 (.int 0)))) (by simp)
  replace hn : (ax_put h8 m (.inr (11, (fs8.set 22 (.int 0))))).1 = n := hn
  replace hs : (ax_put h8 m (.inr (11, (fs8.set 22 (.int 0))))).2.1 = sl := hs
  generalize ax_put h8 m (.inr (11, (fs8.set 22 (.int 0)))) = h9 at hF hf hn hs ⊢
  replace z0 : (fs8.set 22 (.int 0))[0]? = some (.int t) := (List.getElem?_set_ne (by decide)).trans z0
  replace z3 : (fs8.set 22 (.int 0))[3]? = some (.int ((1 <<< (t &&& 31)) - 1)) := (List.getElem?_set_ne (by decide)).trans z3
  replace z4 : (fs8.set 22 (.int 0))[4]? = some (.int ((1 <<< (t &&& 31)) - 1)) := (List.getElem?_set_ne (by decide)).trans z4
  replace z5 : (fs8.set 22 (.int 0))[5]? = some (.int (ep + 1)) := (List.getElem?_set_ne (by decide)).trans z5
  replace z6 : (fs8.set 22 (.int 0))[6]? = some (.int 0) := (List.getElem?_set_ne (by decide)).trans z6
  replace z7 : (fs8.set 22 (.int 0))[7]? = some (.int 1) := (List.getElem?_set_ne (by decide)).trans z7
  replace z20 : (fs8.set 22 (.int 0))[20]? = some (.int 0) := (List.getElem?_set_ne (by decide)).trans z20
  replace z21 : (fs8.set 22 (.int 0))[21]? = some (.int to) := (List.getElem?_set_ne (by decide)).trans z21
  replace z23 : (fs8.set 22 (.int 0))[23]? = some (.int s23) := (List.getElem?_set_ne (by decide)).trans z23
  replace z24 : (fs8.set 22 (.int 0))[24]? = some (.int s24) := (List.getElem?_set_ne (by decide)).trans z24
  replace z25 : (fs8.set 22 (.int 0))[25]? = some (.int op) := (List.getElem?_set_ne (by decide)).trans z25
  replace z26 : (fs8.set 22 (.int 0))[26]? = some (.int 0) := (List.getElem?_set_ne (by decide)).trans z26
  replace z37 : (fs8.set 22 (.int 0))[37]? = some (.int (op - 0)) := (List.getElem?_set_ne (by decide)).trans z37
  replace z38 : (fs8.set 22 (.int 0))[38]? = some (.int 0) := (List.getElem?_set_ne (by decide)).trans z38
  replace z22 : (fs8.set 22 (.int 0))[22]? = some (.int 0) := List.getElem?_set_self (by rw [hl]; decide)
  replace hl : (fs8.set 22 (.int 0)).length = 39 := (List.length_set ..).trans hl
  generalize (fs8.set 22 (.int 0)) = fs9 at hF hl z0 z3 z4 z5 z6 z7 z20 z21 z22 z23 z24 z25 z26 z37 z38 ⊢
  refine ar_aload_n 159 d_192_158 rfl rfl ?_
  refine ar_aload_n 160 d_192_159 rfl rfl ?_
  refine ar_getf 163 d_192_160 rfl (ci := 11) (k := 21) rfl (hF.at 0 rfl) z21 ?_
  refine ar_putf 166 (fs9.set 23 (.int to)) d_192_163 rfl (ci := 11) (k := 23) rfl rfl (hF.at 0 rfl) (by rw [hl]; decide) rfl rfl rfl ?_
  replace hF : ax_hs (ax_put h9 m (.inr (11, (fs9.set 23 (.int to))))) [(m, .inr (11, (fs9.set 23 (.int to))))] := hF.put 0 _ rfl rfl
  replace hf := hf.put (a := m) (c := .inr (11, (fs9.set 23 (.int to)))) (by simp)
  replace hn : (ax_put h9 m (.inr (11, (fs9.set 23 (.int to))))).1 = n := hn
  replace hs : (ax_put h9 m (.inr (11, (fs9.set 23 (.int to))))).2.1 = sl := hs
  generalize ax_put h9 m (.inr (11, (fs9.set 23 (.int to)))) = h10 at hF hf hn hs ⊢
  replace z0 : (fs9.set 23 (.int to))[0]? = some (.int t) := (List.getElem?_set_ne (by decide)).trans z0
  replace z3 : (fs9.set 23 (.int to))[3]? = some (.int ((1 <<< (t &&& 31)) - 1)) := (List.getElem?_set_ne (by decide)).trans z3
  replace z4 : (fs9.set 23 (.int to))[4]? = some (.int ((1 <<< (t &&& 31)) - 1)) := (List.getElem?_set_ne (by decide)).trans z4
  replace z5 : (fs9.set 23 (.int to))[5]? = some (.int (ep + 1)) := (List.getElem?_set_ne (by decide)).trans z5
  replace z6 : (fs9.set 23 (.int to))[6]? = some (.int 0) := (List.getElem?_set_ne (by decide)).trans z6
  replace z7 : (fs9.set 23 (.int to))[7]? = some (.int 1) := (List.getElem?_set_ne (by decide)).trans z7
  replace z20 : (fs9.set 23 (.int to))[20]? = some (.int 0) := (List.getElem?_set_ne (by decide)).trans z20
  replace z21 : (fs9.set 23 (.int to))[21]? = some (.int to) := (List.getElem?_set_ne (by decide)).trans z21
  replace z22 : (fs9.set 23 (.int to))[22]? = some (.int 0) := (List.getElem?_set_ne (by decide)).trans z22
  replace z24 : (fs9.set 23 (.int to))[24]? = some (.int s24) := (List.getElem?_set_ne (by decide)).trans z24
  replace z25 : (fs9.set 23 (.int to))[25]? = some (.int op) := (List.getElem?_set_ne (by decide)).trans z25
  replace z26 : (fs9.set 23 (.int to))[26]? = some (.int 0) := (List.getElem?_set_ne (by decide)).trans z26
  replace z37 : (fs9.set 23 (.int to))[37]? = some (.int (op - 0)) := (List.getElem?_set_ne (by decide)).trans z37
  replace z38 : (fs9.set 23 (.int to))[38]? = some (.int 0) := (List.getElem?_set_ne (by decide)).trans z38
  replace z23 : (fs9.set 23 (.int to))[23]? = some (.int to) := List.getElem?_set_self (by rw [hl]; decide)
  replace hl : (fs9.set 23 (.int to)).length = 39 := (List.length_set ..).trans hl
  generalize (fs9.set 23 (.int to)) = fs10 at hF hl z0 z3 z4 z5 z6 z7 z20 z21 z22 z23 z24 z25 z26 z37 z38 ⊢
  refine ar_aload_n 167 d_192_166 rfl rfl ?_
  refine ar_iconst 168 (v := 0) d_192_167 rfl (by decide) ?_
  refine ar_putf 171 (fs10.set 24 (.int 0)) d_192_168 rfl (ci := 11) (k := 24) rfl rfl (hF.at 0 rfl) (by rw [hl]; decide) rfl rfl rfl ?_
  replace hF : ax_hs (ax_put h10 m (.inr (11, (fs10.set 24 (.int 0))))) [(m, .inr (11, (fs10.set 24 (.int 0))))] := hF.put 0 _ rfl rfl
  replace hf := hf.put (a := m) (c := .inr (11, (fs10.set 24 (.int 0)))) (by simp)
  replace hn : (ax_put h10 m (.inr (11, (fs10.set 24 (.int 0))))).1 = n := hn
  replace hs : (ax_put h10 m (.inr (11, (fs10.set 24 (.int 0))))).2.1 = sl := hs
  generalize ax_put h10 m (.inr (11, (fs10.set 24 (.int 0)))) = h11 at hF hf hn hs ⊢
  replace z0 : (fs10.set 24 (.int 0))[0]? = some (.int t) := (List.getElem?_set_ne (by decide)).trans z0
  replace z3 : (fs10.set 24 (.int 0))[3]? = some (.int ((1 <<< (t &&& 31)) - 1)) := (List.getElem?_set_ne (by decide)).trans z3
  replace z4 : (fs10.set 24 (.int 0))[4]? = some (.int ((1 <<< (t &&& 31)) - 1)) := (List.getElem?_set_ne (by decide)).trans z4
  replace z5 : (fs10.set 24 (.int 0))[5]? = some (.int (ep + 1)) := (List.getElem?_set_ne (by decide)).trans z5
  replace z6 : (fs10.set 24 (.int 0))[6]? = some (.int 0) := (List.getElem?_set_ne (by decide)).trans z6
  replace z7 : (fs10.set 24 (.int 0))[7]? = some (.int 1) := (List.getElem?_set_ne (by decide)).trans z7
  replace z20 : (fs10.set 24 (.int 0))[20]? = some (.int 0) := (List.getElem?_set_ne (by decide)).trans z20
  replace z21 : (fs10.set 24 (.int 0))[21]? = some (.int to) := (List.getElem?_set_ne (by decide)).trans z21
  replace z22 : (fs10.set 24 (.int 0))[22]? = some (.int 0) := (List.getElem?_set_ne (by decide)).trans z22
  replace z23 : (fs10.set 24 (.int 0))[23]? = some (.int to) := (List.getElem?_set_ne (by decide)).trans z23
  replace z25 : (fs10.set 24 (.int 0))[25]? = some (.int op) := (List.getElem?_set_ne (by decide)).trans z25
  replace z26 : (fs10.set 24 (.int 0))[26]? = some (.int 0) := (List.getElem?_set_ne (by decide)).trans z26
  replace z37 : (fs10.set 24 (.int 0))[37]? = some (.int (op - 0)) := (List.getElem?_set_ne (by decide)).trans z37
  replace z38 : (fs10.set 24 (.int 0))[38]? = some (.int 0) := (List.getElem?_set_ne (by decide)).trans z38
  replace z24 : (fs10.set 24 (.int 0))[24]? = some (.int 0) := List.getElem?_set_self (by rw [hl]; decide)
  replace hl : (fs10.set 24 (.int 0)).length = 39 := (List.length_set ..).trans hl
  generalize (fs10.set 24 (.int 0)) = fs11 at hF hl z0 z3 z4 z5 z6 z7 z20 z21 z22 z23 z24 z25 z26 z37 z38 ⊢
  refine ar_iconst 172 (v := 0) d_192_171 rfl (by decide) ?_
  refine ar_istore_n 173 [(0, .ref m), (1, .int 0), (2, .int 0)] d_192_172 rfl (by decide) rfl ?_
  refine ar_iload_n 174 d_192_173 rfl rfl ?_
  refine ar_aload_n 175 d_192_174 rfl rfl ?_
  refine ar_getf 178 d_192_175 rfl (ci := 11) (k := 20) rfl (hF.at 0 rfl) z20 ?_
  refine ar_icmp_ge 206 181 d_192_178 (by decide) rfl (fun _ => ?_) (fun c => absurd (Int32.le_refl _) c)
  refine ar_iload_n 207 d_192_206 rfl rfl ?_
  exact ar_iret d_192_207 rfl rfl (⟨rfl, hn, hs⟩)
theorem n_218_3 {L : Nat} {xs : Nat → Int32} {fr lo : Nat} {h : ax_H} : ax_M L xs 218 fr lo [.int 7] h (fun r h' => r = some (.int 3) ∧ h' = h) := by
  show ax_A (ax_step L xs) ((218, 0, fr, lo), [(0, .int 7)], [], h) _
  refine ar_iconst 1 (v := 0) d_218_0 rfl (by decide) ?_
  refine ar_istore_n 2 [(0, .int 7), (1, .int 0)] d_218_1 rfl (by decide) rfl ?_
  refine ar_iload_n 3 d_218_2 rfl rfl ?_
  refine ar_istore_n 4 [(0, .int 7), (1, .int 0), (2, .int 7)] d_218_3 rfl (by decide) rfl ?_
  refine ar_iload_n 5 d_218_4 rfl rfl ?_
  refine ar_if_eq 20 8 d_218_5 (by decide) rfl (fun c => absurd c (by decide)) (fun _ => ?_)
  refine ar_iinc 11 [(0, .int 7), (1, .int 1), (2, .int 7)] d_218_8 rfl rfl (by decide) (by decide) rfl ?_
  refine ar_iload_n 12 d_218_11 rfl rfl ?_
  refine ar_iload_n 13 d_218_12 rfl rfl ?_
  refine ar_iconst 14 (v := 1) d_218_13 rfl (by decide) ?_
  refine ar_isub 15 d_218_14 rfl ?_
  refine ar_iand 16 d_218_15 rfl ?_
  refine ar_top (x' := 6) (by decide) ?_
  refine ar_istore_n 17 [(0, .int 7), (1, .int 1), (2, .int 6)] d_218_16 rfl (by decide) rfl ?_
  refine ar_goto 4 d_218_17 (by decide) ?_
  refine ar_iload_n 5 d_218_4 rfl rfl ?_
  refine ar_if_eq 20 8 d_218_5 (by decide) rfl (fun c => absurd c (by decide)) (fun _ => ?_)
  refine ar_iinc 11 [(0, .int 7), (1, .int 2), (2, .int 6)] d_218_8 rfl rfl (by decide) (by decide) rfl ?_
  refine ar_iload_n 12 d_218_11 rfl rfl ?_
  refine ar_iload_n 13 d_218_12 rfl rfl ?_
  refine ar_iconst 14 (v := 1) d_218_13 rfl (by decide) ?_
  refine ar_isub 15 d_218_14 rfl ?_
  refine ar_iand 16 d_218_15 rfl ?_
  refine ar_top (x' := 4) (by decide) ?_
  refine ar_istore_n 17 [(0, .int 7), (1, .int 2), (2, .int 4)] d_218_16 rfl (by decide) rfl ?_
  refine ar_goto 4 d_218_17 (by decide) ?_
  refine ar_iload_n 5 d_218_4 rfl rfl ?_
  refine ar_if_eq 20 8 d_218_5 (by decide) rfl (fun c => absurd c (by decide)) (fun _ => ?_)
  refine ar_iinc 11 [(0, .int 7), (1, .int 3), (2, .int 4)] d_218_8 rfl rfl (by decide) (by decide) rfl ?_
  refine ar_iload_n 12 d_218_11 rfl rfl ?_
  refine ar_iload_n 13 d_218_12 rfl rfl ?_
  refine ar_iconst 14 (v := 1) d_218_13 rfl (by decide) ?_
  refine ar_isub 15 d_218_14 rfl ?_
  refine ar_iand 16 d_218_15 rfl ?_
  refine ar_top (x' := 0) (by decide) ?_
  refine ar_istore_n 17 [(0, .int 7), (1, .int 3), (2, .int 0)] d_218_16 rfl (by decide) rfl ?_
  refine ar_goto 4 d_218_17 (by decide) ?_
  refine ar_iload_n 5 d_218_4 rfl rfl ?_
  refine ar_if_eq 20 8 d_218_5 (by decide) rfl (fun _ => ?_) (fun c => absurd (rfl) c)
  refine ar_iload_n 21 d_218_20 rfl rfl ?_
  exact ar_iret d_218_21 rfl rfl (⟨rfl, rfl⟩)
theorem n_218_4 {L : Nat} {xs : Nat → Int32} {fr lo : Nat} {h : ax_H} : ax_M L xs 218 fr lo [.int 15] h (fun r h' => r = some (.int 4) ∧ h' = h) := by
  show ax_A (ax_step L xs) ((218, 0, fr, lo), [(0, .int 15)], [], h) _
  refine ar_iconst 1 (v := 0) d_218_0 rfl (by decide) ?_
  refine ar_istore_n 2 [(0, .int 15), (1, .int 0)] d_218_1 rfl (by decide) rfl ?_
  refine ar_iload_n 3 d_218_2 rfl rfl ?_
  refine ar_istore_n 4 [(0, .int 15), (1, .int 0), (2, .int 15)] d_218_3 rfl (by decide) rfl ?_
  refine ar_iload_n 5 d_218_4 rfl rfl ?_
  refine ar_if_eq 20 8 d_218_5 (by decide) rfl (fun c => absurd c (by decide)) (fun _ => ?_)
  refine ar_iinc 11 [(0, .int 15), (1, .int 1), (2, .int 15)] d_218_8 rfl rfl (by decide) (by decide) rfl ?_
  refine ar_iload_n 12 d_218_11 rfl rfl ?_
  refine ar_iload_n 13 d_218_12 rfl rfl ?_
  refine ar_iconst 14 (v := 1) d_218_13 rfl (by decide) ?_
  refine ar_isub 15 d_218_14 rfl ?_
  refine ar_iand 16 d_218_15 rfl ?_
  refine ar_top (x' := 14) (by decide) ?_
  refine ar_istore_n 17 [(0, .int 15), (1, .int 1), (2, .int 14)] d_218_16 rfl (by decide) rfl ?_
  refine ar_goto 4 d_218_17 (by decide) ?_
  refine ar_iload_n 5 d_218_4 rfl rfl ?_
  refine ar_if_eq 20 8 d_218_5 (by decide) rfl (fun c => absurd c (by decide)) (fun _ => ?_)
  refine ar_iinc 11 [(0, .int 15), (1, .int 2), (2, .int 14)] d_218_8 rfl rfl (by decide) (by decide) rfl ?_
  refine ar_iload_n 12 d_218_11 rfl rfl ?_
  refine ar_iload_n 13 d_218_12 rfl rfl ?_
  refine ar_iconst 14 (v := 1) d_218_13 rfl (by decide) ?_
  refine ar_isub 15 d_218_14 rfl ?_
  refine ar_iand 16 d_218_15 rfl ?_
  refine ar_top (x' := 12) (by decide) ?_
  refine ar_istore_n 17 [(0, .int 15), (1, .int 2), (2, .int 12)] d_218_16 rfl (by decide) rfl ?_
  refine ar_goto 4 d_218_17 (by decide) ?_
  refine ar_iload_n 5 d_218_4 rfl rfl ?_
  refine ar_if_eq 20 8 d_218_5 (by decide) rfl (fun c => absurd c (by decide)) (fun _ => ?_)
  refine ar_iinc 11 [(0, .int 15), (1, .int 3), (2, .int 12)] d_218_8 rfl rfl (by decide) (by decide) rfl ?_
  refine ar_iload_n 12 d_218_11 rfl rfl ?_
  refine ar_iload_n 13 d_218_12 rfl rfl ?_
  refine ar_iconst 14 (v := 1) d_218_13 rfl (by decide) ?_
  refine ar_isub 15 d_218_14 rfl ?_
  refine ar_iand 16 d_218_15 rfl ?_
  refine ar_top (x' := 8) (by decide) ?_
  refine ar_istore_n 17 [(0, .int 15), (1, .int 3), (2, .int 8)] d_218_16 rfl (by decide) rfl ?_
  refine ar_goto 4 d_218_17 (by decide) ?_
  refine ar_iload_n 5 d_218_4 rfl rfl ?_
  refine ar_if_eq 20 8 d_218_5 (by decide) rfl (fun c => absurd c (by decide)) (fun _ => ?_)
  refine ar_iinc 11 [(0, .int 15), (1, .int 4), (2, .int 8)] d_218_8 rfl rfl (by decide) (by decide) rfl ?_
  refine ar_iload_n 12 d_218_11 rfl rfl ?_
  refine ar_iload_n 13 d_218_12 rfl rfl ?_
  refine ar_iconst 14 (v := 1) d_218_13 rfl (by decide) ?_
  refine ar_isub 15 d_218_14 rfl ?_
  refine ar_iand 16 d_218_15 rfl ?_
  refine ar_top (x' := 0) (by decide) ?_
  refine ar_istore_n 17 [(0, .int 15), (1, .int 4), (2, .int 0)] d_218_16 rfl (by decide) rfl ?_
  refine ar_goto 4 d_218_17 (by decide) ?_
  refine ar_iload_n 5 d_218_4 rfl rfl ?_
  refine ar_if_eq 20 8 d_218_5 (by decide) rfl (fun _ => ?_) (fun c => absurd (rfl) c)
  refine ar_iload_n 21 d_218_20 rfl rfl ?_
  exact ar_iret d_218_21 rfl rfl (⟨rfl, rfl⟩)
theorem n_218_5 {L : Nat} {xs : Nat → Int32} {fr lo : Nat} {h : ax_H} : ax_M L xs 218 fr lo [.int 31] h (fun r h' => r = some (.int 5) ∧ h' = h) := by
  show ax_A (ax_step L xs) ((218, 0, fr, lo), [(0, .int 31)], [], h) _
  refine ar_iconst 1 (v := 0) d_218_0 rfl (by decide) ?_
  refine ar_istore_n 2 [(0, .int 31), (1, .int 0)] d_218_1 rfl (by decide) rfl ?_
  refine ar_iload_n 3 d_218_2 rfl rfl ?_
  refine ar_istore_n 4 [(0, .int 31), (1, .int 0), (2, .int 31)] d_218_3 rfl (by decide) rfl ?_
  refine ar_iload_n 5 d_218_4 rfl rfl ?_
  refine ar_if_eq 20 8 d_218_5 (by decide) rfl (fun c => absurd c (by decide)) (fun _ => ?_)
  refine ar_iinc 11 [(0, .int 31), (1, .int 1), (2, .int 31)] d_218_8 rfl rfl (by decide) (by decide) rfl ?_
  refine ar_iload_n 12 d_218_11 rfl rfl ?_
  refine ar_iload_n 13 d_218_12 rfl rfl ?_
  refine ar_iconst 14 (v := 1) d_218_13 rfl (by decide) ?_
  refine ar_isub 15 d_218_14 rfl ?_
  refine ar_iand 16 d_218_15 rfl ?_
  refine ar_top (x' := 30) (by decide) ?_
  refine ar_istore_n 17 [(0, .int 31), (1, .int 1), (2, .int 30)] d_218_16 rfl (by decide) rfl ?_
  refine ar_goto 4 d_218_17 (by decide) ?_
  refine ar_iload_n 5 d_218_4 rfl rfl ?_
  refine ar_if_eq 20 8 d_218_5 (by decide) rfl (fun c => absurd c (by decide)) (fun _ => ?_)
  refine ar_iinc 11 [(0, .int 31), (1, .int 2), (2, .int 30)] d_218_8 rfl rfl (by decide) (by decide) rfl ?_
  refine ar_iload_n 12 d_218_11 rfl rfl ?_
  refine ar_iload_n 13 d_218_12 rfl rfl ?_
  refine ar_iconst 14 (v := 1) d_218_13 rfl (by decide) ?_
  refine ar_isub 15 d_218_14 rfl ?_
  refine ar_iand 16 d_218_15 rfl ?_
  refine ar_top (x' := 28) (by decide) ?_
  refine ar_istore_n 17 [(0, .int 31), (1, .int 2), (2, .int 28)] d_218_16 rfl (by decide) rfl ?_
  refine ar_goto 4 d_218_17 (by decide) ?_
  refine ar_iload_n 5 d_218_4 rfl rfl ?_
  refine ar_if_eq 20 8 d_218_5 (by decide) rfl (fun c => absurd c (by decide)) (fun _ => ?_)
  refine ar_iinc 11 [(0, .int 31), (1, .int 3), (2, .int 28)] d_218_8 rfl rfl (by decide) (by decide) rfl ?_
  refine ar_iload_n 12 d_218_11 rfl rfl ?_
  refine ar_iload_n 13 d_218_12 rfl rfl ?_
  refine ar_iconst 14 (v := 1) d_218_13 rfl (by decide) ?_
  refine ar_isub 15 d_218_14 rfl ?_
  refine ar_iand 16 d_218_15 rfl ?_
  refine ar_top (x' := 24) (by decide) ?_
  refine ar_istore_n 17 [(0, .int 31), (1, .int 3), (2, .int 24)] d_218_16 rfl (by decide) rfl ?_
  refine ar_goto 4 d_218_17 (by decide) ?_
  refine ar_iload_n 5 d_218_4 rfl rfl ?_
  refine ar_if_eq 20 8 d_218_5 (by decide) rfl (fun c => absurd c (by decide)) (fun _ => ?_)
  refine ar_iinc 11 [(0, .int 31), (1, .int 4), (2, .int 24)] d_218_8 rfl rfl (by decide) (by decide) rfl ?_
  refine ar_iload_n 12 d_218_11 rfl rfl ?_
  refine ar_iload_n 13 d_218_12 rfl rfl ?_
  refine ar_iconst 14 (v := 1) d_218_13 rfl (by decide) ?_
  refine ar_isub 15 d_218_14 rfl ?_
  refine ar_iand 16 d_218_15 rfl ?_
  refine ar_top (x' := 16) (by decide) ?_
  refine ar_istore_n 17 [(0, .int 31), (1, .int 4), (2, .int 16)] d_218_16 rfl (by decide) rfl ?_
  refine ar_goto 4 d_218_17 (by decide) ?_
  refine ar_iload_n 5 d_218_4 rfl rfl ?_
  refine ar_if_eq 20 8 d_218_5 (by decide) rfl (fun c => absurd c (by decide)) (fun _ => ?_)
  refine ar_iinc 11 [(0, .int 31), (1, .int 5), (2, .int 16)] d_218_8 rfl rfl (by decide) (by decide) rfl ?_
  refine ar_iload_n 12 d_218_11 rfl rfl ?_
  refine ar_iload_n 13 d_218_12 rfl rfl ?_
  refine ar_iconst 14 (v := 1) d_218_13 rfl (by decide) ?_
  refine ar_isub 15 d_218_14 rfl ?_
  refine ar_iand 16 d_218_15 rfl ?_
  refine ar_top (x' := 0) (by decide) ?_
  refine ar_istore_n 17 [(0, .int 31), (1, .int 5), (2, .int 0)] d_218_16 rfl (by decide) rfl ?_
  refine ar_goto 4 d_218_17 (by decide) ?_
  refine ar_iload_n 5 d_218_4 rfl rfl ?_
  refine ar_if_eq 20 8 d_218_5 (by decide) rfl (fun _ => ?_) (fun c => absurd (rfl) c)
  refine ar_iload_n 21 d_218_20 rfl rfl ?_
  exact ar_iret d_218_21 rfl rfl (⟨rfl, rfl⟩)
theorem n_218_6 {L : Nat} {xs : Nat → Int32} {fr lo : Nat} {h : ax_H} : ax_M L xs 218 fr lo [.int 63] h (fun r h' => r = some (.int 6) ∧ h' = h) := by
  show ax_A (ax_step L xs) ((218, 0, fr, lo), [(0, .int 63)], [], h) _
  refine ar_iconst 1 (v := 0) d_218_0 rfl (by decide) ?_
  refine ar_istore_n 2 [(0, .int 63), (1, .int 0)] d_218_1 rfl (by decide) rfl ?_
  refine ar_iload_n 3 d_218_2 rfl rfl ?_
  refine ar_istore_n 4 [(0, .int 63), (1, .int 0), (2, .int 63)] d_218_3 rfl (by decide) rfl ?_
  refine ar_iload_n 5 d_218_4 rfl rfl ?_
  refine ar_if_eq 20 8 d_218_5 (by decide) rfl (fun c => absurd c (by decide)) (fun _ => ?_)
  refine ar_iinc 11 [(0, .int 63), (1, .int 1), (2, .int 63)] d_218_8 rfl rfl (by decide) (by decide) rfl ?_
  refine ar_iload_n 12 d_218_11 rfl rfl ?_
  refine ar_iload_n 13 d_218_12 rfl rfl ?_
  refine ar_iconst 14 (v := 1) d_218_13 rfl (by decide) ?_
  refine ar_isub 15 d_218_14 rfl ?_
  refine ar_iand 16 d_218_15 rfl ?_
  refine ar_top (x' := 62) (by decide) ?_
  refine ar_istore_n 17 [(0, .int 63), (1, .int 1), (2, .int 62)] d_218_16 rfl (by decide) rfl ?_
  refine ar_goto 4 d_218_17 (by decide) ?_
  refine ar_iload_n 5 d_218_4 rfl rfl ?_
  refine ar_if_eq 20 8 d_218_5 (by decide) rfl (fun c => absurd c (by decide)) (fun _ => ?_)
  refine ar_iinc 11 [(0, .int 63), (1, .int 2), (2, .int 62)] d_218_8 rfl rfl (by decide) (by decide) rfl ?_
  refine ar_iload_n 12 d_218_11 rfl rfl ?_
  refine ar_iload_n 13 d_218_12 rfl rfl ?_
  refine ar_iconst 14 (v := 1) d_218_13 rfl (by decide) ?_
  refine ar_isub 15 d_218_14 rfl ?_
  refine ar_iand 16 d_218_15 rfl ?_
  refine ar_top (x' := 60) (by decide) ?_
  refine ar_istore_n 17 [(0, .int 63), (1, .int 2), (2, .int 60)] d_218_16 rfl (by decide) rfl ?_
  refine ar_goto 4 d_218_17 (by decide) ?_
  refine ar_iload_n 5 d_218_4 rfl rfl ?_
  refine ar_if_eq 20 8 d_218_5 (by decide) rfl (fun c => absurd c (by decide)) (fun _ => ?_)
  refine ar_iinc 11 [(0, .int 63), (1, .int 3), (2, .int 60)] d_218_8 rfl rfl (by decide) (by decide) rfl ?_
  refine ar_iload_n 12 d_218_11 rfl rfl ?_
  refine ar_iload_n 13 d_218_12 rfl rfl ?_
  refine ar_iconst 14 (v := 1) d_218_13 rfl (by decide) ?_
  refine ar_isub 15 d_218_14 rfl ?_
  refine ar_iand 16 d_218_15 rfl ?_
  refine ar_top (x' := 56) (by decide) ?_
  refine ar_istore_n 17 [(0, .int 63), (1, .int 3), (2, .int 56)] d_218_16 rfl (by decide) rfl ?_
  refine ar_goto 4 d_218_17 (by decide) ?_
  refine ar_iload_n 5 d_218_4 rfl rfl ?_
  refine ar_if_eq 20 8 d_218_5 (by decide) rfl (fun c => absurd c (by decide)) (fun _ => ?_)
  refine ar_iinc 11 [(0, .int 63), (1, .int 4), (2, .int 56)] d_218_8 rfl rfl (by decide) (by decide) rfl ?_
  refine ar_iload_n 12 d_218_11 rfl rfl ?_
  refine ar_iload_n 13 d_218_12 rfl rfl ?_
  refine ar_iconst 14 (v := 1) d_218_13 rfl (by decide) ?_
  refine ar_isub 15 d_218_14 rfl ?_
  refine ar_iand 16 d_218_15 rfl ?_
  refine ar_top (x' := 48) (by decide) ?_
  refine ar_istore_n 17 [(0, .int 63), (1, .int 4), (2, .int 48)] d_218_16 rfl (by decide) rfl ?_
  refine ar_goto 4 d_218_17 (by decide) ?_
  refine ar_iload_n 5 d_218_4 rfl rfl ?_
  refine ar_if_eq 20 8 d_218_5 (by decide) rfl (fun c => absurd c (by decide)) (fun _ => ?_)
  refine ar_iinc 11 [(0, .int 63), (1, .int 5), (2, .int 48)] d_218_8 rfl rfl (by decide) (by decide) rfl ?_
  refine ar_iload_n 12 d_218_11 rfl rfl ?_
  refine ar_iload_n 13 d_218_12 rfl rfl ?_
  refine ar_iconst 14 (v := 1) d_218_13 rfl (by decide) ?_
  refine ar_isub 15 d_218_14 rfl ?_
  refine ar_iand 16 d_218_15 rfl ?_
  refine ar_top (x' := 32) (by decide) ?_
  refine ar_istore_n 17 [(0, .int 63), (1, .int 5), (2, .int 32)] d_218_16 rfl (by decide) rfl ?_
  refine ar_goto 4 d_218_17 (by decide) ?_
  refine ar_iload_n 5 d_218_4 rfl rfl ?_
  refine ar_if_eq 20 8 d_218_5 (by decide) rfl (fun c => absurd c (by decide)) (fun _ => ?_)
  refine ar_iinc 11 [(0, .int 63), (1, .int 6), (2, .int 32)] d_218_8 rfl rfl (by decide) (by decide) rfl ?_
  refine ar_iload_n 12 d_218_11 rfl rfl ?_
  refine ar_iload_n 13 d_218_12 rfl rfl ?_
  refine ar_iconst 14 (v := 1) d_218_13 rfl (by decide) ?_
  refine ar_isub 15 d_218_14 rfl ?_
  refine ar_iand 16 d_218_15 rfl ?_
  refine ar_top (x' := 0) (by decide) ?_
  refine ar_istore_n 17 [(0, .int 63), (1, .int 6), (2, .int 0)] d_218_16 rfl (by decide) rfl ?_
  refine ar_goto 4 d_218_17 (by decide) ?_
  refine ar_iload_n 5 d_218_4 rfl rfl ?_
  refine ar_if_eq 20 8 d_218_5 (by decide) rfl (fun _ => ?_) (fun c => absurd (rfl) c)
  refine ar_iload_n 21 d_218_20 rfl rfl ?_
  exact ar_iret d_218_21 rfl rfl (⟨rfl, rfl⟩)
theorem n_218 {L : Nat} {xs : Nat → Int32} {fr lo nn : Nat} {h : ax_H} (h3 : 3 ≤ nn) (h6 : nn ≤ 6) : ax_M L xs 218 fr lo [.int (allN nn)] h (fun r h' => r = some (.int (nI nn)) ∧ h' = h) := by
  rcases (show nn = 3 ∨ nn = 4 ∨ nn = 5 ∨ nn = 6 by omega) with rfl | rfl | rfl | rfl
  · rw [show allN 3 = 7 from by decide]; exact n_218_3
  · rw [show allN 4 = 15 from by decide]; exact n_218_4
  · rw [show allN 5 = 31 from by decide]; exact n_218_5
  · rw [show allN 6 = 63 from by decide]; exact n_218_6

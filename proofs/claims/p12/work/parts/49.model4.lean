/-! the reference: feed; name with an empty TAPE; crash, restart, map, replace; settle with nothing waiting; count -/
theorem d_176_0 : decode (axt_b 176) 0 = .ok (.aload_n 0, 1) := by decide +kernel
theorem d_176_1 : decode (axt_b 176) 1 = .ok (.getfield 95, 3) := by decide +kernel
theorem d_176_4 : decode (axt_b 176) 4 = .ok (.bipush 20, 2) := by decide +kernel
theorem d_176_6 : decode (axt_b 176) 6 = .ok (.iadd, 1) := by decide +kernel
theorem d_176_7 : decode (axt_b 176) 7 = .ok (.sipush 2048, 3) := by decide +kernel
theorem d_176_10 : decode (axt_b 176) 10 = .ok (.if_icmp .le 6, 3) := by decide +kernel
theorem d_176_13 : decode (axt_b 176) 13 = .ok (.bipush (-4), 2) := by decide +kernel
theorem d_176_15 : decode (axt_b 176) 15 = .ok (.ireturn, 1) := by decide +kernel
theorem d_176_16 : decode (axt_b 176) 16 = .ok (.aload_n 0, 1) := by decide +kernel
theorem d_176_17 : decode (axt_b 176) 17 = .ok (.iload_n 1, 1) := by decide +kernel
theorem d_176_18 : decode (axt_b 176) 18 = .ok (.invokevirtual 98, 3) := by decide +kernel
theorem d_176_21 : decode (axt_b 176) 21 = .ok (.aload_n 0, 1) := by decide +kernel
theorem d_176_22 : decode (axt_b 176) 22 = .ok (.iload_n 2, 1) := by decide +kernel
theorem d_176_23 : decode (axt_b 176) 23 = .ok (.invokevirtual 98, 3) := by decide +kernel
theorem d_176_26 : decode (axt_b 176) 26 = .ok (.aload_n 0, 1) := by decide +kernel
theorem d_176_27 : decode (axt_b 176) 27 = .ok (.iload_n 3, 1) := by decide +kernel
theorem d_176_28 : decode (axt_b 176) 28 = .ok (.invokevirtual 98, 3) := by decide +kernel
theorem d_176_31 : decode (axt_b 176) 31 = .ok (.aload_n 0, 1) := by decide +kernel
theorem d_176_32 : decode (axt_b 176) 32 = .ok (.iload 4, 2) := by decide +kernel
theorem d_176_34 : decode (axt_b 176) 34 = .ok (.invokevirtual 98, 3) := by decide +kernel
theorem d_176_37 : decode (axt_b 176) 37 = .ok (.aload_n 0, 1) := by decide +kernel
theorem d_176_38 : decode (axt_b 176) 38 = .ok (.iload 5, 2) := by decide +kernel
theorem d_176_40 : decode (axt_b 176) 40 = .ok (.invokevirtual 98, 3) := by decide +kernel
theorem d_176_43 : decode (axt_b 176) 43 = .ok (.aload_n 0, 1) := by decide +kernel
theorem d_176_44 : decode (axt_b 176) 44 = .ok (.getfield 95, 3) := by decide +kernel
theorem d_176_47 : decode (axt_b 176) 47 = .ok (.ireturn, 1) := by decide +kernel
theorem d_177_0 : decode (axt_b 177) 0 = .ok (.bipush 24, 2) := by decide +kernel
theorem d_177_2 : decode (axt_b 177) 2 = .ok (.istore_n 2, 1) := by decide +kernel
theorem d_177_3 : decode (axt_b 177) 3 = .ok (.iload_n 2, 1) := by decide +kernel
theorem d_177_4 : decode (axt_b 177) 4 = .ok (.ifCond .lt 32, 3) := by decide +kernel
theorem d_177_7 : decode (axt_b 177) 7 = .ok (.aload_n 0, 1) := by decide +kernel
theorem d_177_8 : decode (axt_b 177) 8 = .ok (.getfield 13, 3) := by decide +kernel
theorem d_177_11 : decode (axt_b 177) 11 = .ok (.aload_n 0, 1) := by decide +kernel
theorem d_177_12 : decode (axt_b 177) 12 = .ok (.getfield 95, 3) := by decide +kernel
theorem d_177_15 : decode (axt_b 177) 15 = .ok (.iload_n 1, 1) := by decide +kernel
theorem d_177_16 : decode (axt_b 177) 16 = .ok (.iload_n 2, 1) := by decide +kernel
theorem d_177_17 : decode (axt_b 177) 17 = .ok (.ishr, 1) := by decide +kernel
theorem d_177_18 : decode (axt_b 177) 18 = .ok (.i2b, 1) := by decide +kernel
theorem d_177_19 : decode (axt_b 177) 19 = .ok (.bastore, 1) := by decide +kernel
theorem d_177_20 : decode (axt_b 177) 20 = .ok (.aload_n 0, 1) := by decide +kernel
theorem d_177_21 : decode (axt_b 177) 21 = .ok (.dup, 1) := by decide +kernel
theorem d_177_22 : decode (axt_b 177) 22 = .ok (.getfield 95, 3) := by decide +kernel
theorem d_177_25 : decode (axt_b 177) 25 = .ok (.iconst 1, 1) := by decide +kernel
theorem d_177_26 : decode (axt_b 177) 26 = .ok (.iadd, 1) := by decide +kernel
theorem d_177_27 : decode (axt_b 177) 27 = .ok (.putfield 95, 3) := by decide +kernel
theorem d_177_30 : decode (axt_b 177) 30 = .ok (.iinc 2 (-8), 3) := by decide +kernel
theorem d_177_33 : decode (axt_b 177) 33 = .ok (.goto (-30), 3) := by decide +kernel
theorem d_177_36 : decode (axt_b 177) 36 = .ok (.return_, 1) := by decide +kernel
theorem d_179_0 : decode (axt_b 179) 0 = .ok (.iload_n 1, 1) := by decide +kernel
theorem d_179_1 : decode (axt_b 179) 1 = .ok (.ifCond .lt 18, 3) := by decide +kernel
theorem d_179_4 : decode (axt_b 179) 4 = .ok (.iload_n 1, 1) := by decide +kernel
theorem d_179_5 : decode (axt_b 179) 5 = .ok (.iconst 1, 1) := by decide +kernel
theorem d_179_6 : decode (axt_b 179) 6 = .ok (.if_icmp .gt 13, 3) := by decide +kernel
theorem d_179_9 : decode (axt_b 179) 9 = .ok (.aload_n 0, 1) := by decide +kernel
theorem d_179_10 : decode (axt_b 179) 10 = .ok (.getfield 95, 3) := by decide +kernel
theorem d_179_13 : decode (axt_b 179) 13 = .ok (.sipush 200, 3) := by decide +kernel
theorem d_179_16 : decode (axt_b 179) 16 = .ok (.if_icmp .le 5, 3) := by decide +kernel
theorem d_179_19 : decode (axt_b 179) 19 = .ok (.iconst (-1), 1) := by decide +kernel
theorem d_179_20 : decode (axt_b 179) 20 = .ok (.ireturn, 1) := by decide +kernel
theorem d_179_21 : decode (axt_b 179) 21 = .ok (.iconst 0, 1) := by decide +kernel
theorem d_179_22 : decode (axt_b 179) 22 = .ok (.istore_n 2, 1) := by decide +kernel
theorem d_179_23 : decode (axt_b 179) 23 = .ok (.iload_n 2, 1) := by decide +kernel
theorem d_179_24 : decode (axt_b 179) 24 = .ok (.aload_n 0, 1) := by decide +kernel
theorem d_179_25 : decode (axt_b 179) 25 = .ok (.getfield 95, 3) := by decide +kernel
theorem d_179_28 : decode (axt_b 179) 28 = .ok (.if_icmp .ge 27, 3) := by decide +kernel
theorem d_179_31 : decode (axt_b 179) 31 = .ok (.aload_n 0, 1) := by decide +kernel
theorem d_179_32 : decode (axt_b 179) 32 = .ok (.getfield 17, 3) := by decide +kernel
theorem d_179_35 : decode (axt_b 179) 35 = .ok (.sipush 200, 3) := by decide +kernel
theorem d_179_38 : decode (axt_b 179) 38 = .ok (.iload_n 1, 1) := by decide +kernel
theorem d_179_39 : decode (axt_b 179) 39 = .ok (.imul, 1) := by decide +kernel
theorem d_179_40 : decode (axt_b 179) 40 = .ok (.iload_n 2, 1) := by decide +kernel
theorem d_179_41 : decode (axt_b 179) 41 = .ok (.iadd, 1) := by decide +kernel
theorem d_179_42 : decode (axt_b 179) 42 = .ok (.aload_n 0, 1) := by decide +kernel
theorem d_179_43 : decode (axt_b 179) 43 = .ok (.getfield 13, 3) := by decide +kernel
theorem d_179_46 : decode (axt_b 179) 46 = .ok (.iload_n 2, 1) := by decide +kernel
theorem d_179_47 : decode (axt_b 179) 47 = .ok (.baload, 1) := by decide +kernel
theorem d_179_48 : decode (axt_b 179) 48 = .ok (.bastore, 1) := by decide +kernel
theorem d_179_49 : decode (axt_b 179) 49 = .ok (.iinc 2 1, 3) := by decide +kernel
theorem d_179_52 : decode (axt_b 179) 52 = .ok (.goto (-29), 3) := by decide +kernel
theorem d_179_55 : decode (axt_b 179) 55 = .ok (.aload_n 0, 1) := by decide +kernel
theorem d_179_56 : decode (axt_b 179) 56 = .ok (.getfield 20, 3) := by decide +kernel
theorem d_179_59 : decode (axt_b 179) 59 = .ok (.iload_n 1, 1) := by decide +kernel
theorem d_179_60 : decode (axt_b 179) 60 = .ok (.aload_n 0, 1) := by decide +kernel
theorem d_179_61 : decode (axt_b 179) 61 = .ok (.getfield 95, 3) := by decide +kernel
theorem d_179_64 : decode (axt_b 179) 64 = .ok (.iastore, 1) := by decide +kernel
theorem d_179_65 : decode (axt_b 179) 65 = .ok (.aload_n 0, 1) := by decide +kernel
theorem d_179_66 : decode (axt_b 179) 66 = .ok (.iconst 0, 1) := by decide +kernel
theorem d_179_67 : decode (axt_b 179) 67 = .ok (.putfield 95, 3) := by decide +kernel
theorem d_179_70 : decode (axt_b 179) 70 = .ok (.aload_n 0, 1) := by decide +kernel
theorem d_179_71 : decode (axt_b 179) 71 = .ok (.getfield 20, 3) := by decide +kernel
theorem d_179_74 : decode (axt_b 179) 74 = .ok (.iload_n 1, 1) := by decide +kernel
theorem d_179_75 : decode (axt_b 179) 75 = .ok (.iaload, 1) := by decide +kernel
theorem d_179_76 : decode (axt_b 179) 76 = .ok (.ireturn, 1) := by decide +kernel
theorem d_186_0 : decode (axt_b 186) 0 = .ok (.aload_n 0, 1) := by decide +kernel
theorem d_186_1 : decode (axt_b 186) 1 = .ok (.iload_n 1, 1) := by decide +kernel
theorem d_186_2 : decode (axt_b 186) 2 = .ok (.invokevirtual 112, 3) := by decide +kernel
theorem d_186_5 : decode (axt_b 186) 5 = .ok (.ifCond .ne 5, 3) := by decide +kernel
theorem d_186_8 : decode (axt_b 186) 8 = .ok (.iconst 0, 1) := by decide +kernel
theorem d_186_9 : decode (axt_b 186) 9 = .ok (.ireturn, 1) := by decide +kernel
theorem d_186_10 : decode (axt_b 186) 10 = .ok (.aload_n 0, 1) := by decide +kernel
theorem d_186_11 : decode (axt_b 186) 11 = .ok (.dup, 1) := by decide +kernel
theorem d_186_12 : decode (axt_b 186) 12 = .ok (.getfield 89, 3) := by decide +kernel
theorem d_186_15 : decode (axt_b 186) 15 = .ok (.iconst 1, 1) := by decide +kernel
theorem d_186_16 : decode (axt_b 186) 16 = .ok (.iload_n 1, 1) := by decide +kernel
theorem d_186_17 : decode (axt_b 186) 17 = .ok (.ishl, 1) := by decide +kernel
theorem d_186_18 : decode (axt_b 186) 18 = .ok (.ixor, 1) := by decide +kernel
theorem d_186_19 : decode (axt_b 186) 19 = .ok (.putfield 89, 3) := by decide +kernel
theorem d_186_22 : decode (axt_b 186) 22 = .ok (.aload_n 0, 1) := by decide +kernel
theorem d_186_23 : decode (axt_b 186) 23 = .ok (.iconst 0, 1) := by decide +kernel
theorem d_186_24 : decode (axt_b 186) 24 = .ok (.putfield 108, 3) := by decide +kernel
theorem d_186_27 : decode (axt_b 186) 27 = .ok (.iconst 1, 1) := by decide +kernel
theorem d_186_28 : decode (axt_b 186) 28 = .ok (.ireturn, 1) := by decide +kernel
theorem d_188_0 : decode (axt_b 188) 0 = .ok (.aload_n 0, 1) := by decide +kernel
theorem d_188_1 : decode (axt_b 188) 1 = .ok (.iload_n 1, 1) := by decide +kernel
theorem d_188_2 : decode (axt_b 188) 2 = .ok (.invokevirtual 116, 3) := by decide +kernel
theorem d_188_5 : decode (axt_b 188) 5 = .ok (.ifCond .ne 5, 3) := by decide +kernel
theorem d_188_8 : decode (axt_b 188) 8 = .ok (.iconst 0, 1) := by decide +kernel
theorem d_188_9 : decode (axt_b 188) 9 = .ok (.ireturn, 1) := by decide +kernel
theorem d_188_10 : decode (axt_b 188) 10 = .ok (.aload_n 0, 1) := by decide +kernel
theorem d_188_11 : decode (axt_b 188) 11 = .ok (.dup, 1) := by decide +kernel
theorem d_188_12 : decode (axt_b 188) 12 = .ok (.getfield 89, 3) := by decide +kernel
theorem d_188_15 : decode (axt_b 188) 15 = .ok (.iconst 1, 1) := by decide +kernel
theorem d_188_16 : decode (axt_b 188) 16 = .ok (.iload_n 1, 1) := by decide +kernel
theorem d_188_17 : decode (axt_b 188) 17 = .ok (.ishl, 1) := by decide +kernel
theorem d_188_18 : decode (axt_b 188) 18 = .ok (.ixor, 1) := by decide +kernel
theorem d_188_19 : decode (axt_b 188) 19 = .ok (.putfield 89, 3) := by decide +kernel
theorem d_188_22 : decode (axt_b 188) 22 = .ok (.aload_n 0, 1) := by decide +kernel
theorem d_188_23 : decode (axt_b 188) 23 = .ok (.iconst 0, 1) := by decide +kernel
theorem d_188_24 : decode (axt_b 188) 24 = .ok (.putfield 108, 3) := by decide +kernel
theorem d_188_27 : decode (axt_b 188) 27 = .ok (.iconst 1, 1) := by decide +kernel
theorem d_188_28 : decode (axt_b 188) 28 = .ok (.ireturn, 1) := by decide +kernel
theorem d_190_0 : decode (axt_b 190) 0 = .ok (.aload_n 0, 1) := by decide +kernel
theorem d_190_1 : decode (axt_b 190) 1 = .ok (.iload_n 1, 1) := by decide +kernel
theorem d_190_2 : decode (axt_b 190) 2 = .ok (.iconst 1, 1) := by decide +kernel
theorem d_190_3 : decode (axt_b 190) 3 = .ok (.aload_n 0, 1) := by decide +kernel
theorem d_190_4 : decode (axt_b 190) 4 = .ok (.getfield 80, 3) := by decide +kernel
theorem d_190_7 : decode (axt_b 190) 7 = .ok (.ishl, 1) := by decide +kernel
theorem d_190_8 : decode (axt_b 190) 8 = .ok (.iconst 1, 1) := by decide +kernel
theorem d_190_9 : decode (axt_b 190) 9 = .ok (.isub, 1) := by decide +kernel
theorem d_190_10 : decode (axt_b 190) 10 = .ok (.iand, 1) := by decide +kernel
theorem d_190_11 : decode (axt_b 190) 11 = .ok (.putfield 92, 3) := by decide +kernel
theorem d_190_14 : decode (axt_b 190) 14 = .ok (.aload_n 0, 1) := by decide +kernel
theorem d_190_15 : decode (axt_b 190) 15 = .ok (.dup, 1) := by decide +kernel
theorem d_190_16 : decode (axt_b 190) 16 = .ok (.getfield 7, 3) := by decide +kernel
theorem d_190_19 : decode (axt_b 190) 19 = .ok (.iconst 1, 1) := by decide +kernel
theorem d_190_20 : decode (axt_b 190) 20 = .ok (.iadd, 1) := by decide +kernel
theorem d_190_21 : decode (axt_b 190) 21 = .ok (.putfield 7, 3) := by decide +kernel
theorem d_190_24 : decode (axt_b 190) 24 = .ok (.aload_n 0, 1) := by decide +kernel
theorem d_190_25 : decode (axt_b 190) 25 = .ok (.iconst 0, 1) := by decide +kernel
theorem d_190_26 : decode (axt_b 190) 26 = .ok (.putfield 108, 3) := by decide +kernel
theorem d_190_29 : decode (axt_b 190) 29 = .ok (.aload_n 0, 1) := by decide +kernel
theorem d_190_30 : decode (axt_b 190) 30 = .ok (.getfield 7, 3) := by decide +kernel
theorem d_190_33 : decode (axt_b 190) 33 = .ok (.ireturn, 1) := by decide +kernel
theorem d_191_0 : decode (axt_b 191) 0 = .ok (.aload_n 0, 1) := by decide +kernel
theorem d_191_1 : decode (axt_b 191) 1 = .ok (.iload_n 1, 1) := by decide +kernel
theorem d_191_2 : decode (axt_b 191) 2 = .ok (.invokevirtual 116, 3) := by decide +kernel
theorem d_191_5 : decode (axt_b 191) 5 = .ok (.ifCond .eq 16, 3) := by decide +kernel
theorem d_191_8 : decode (axt_b 191) 8 = .ok (.aload_n 0, 1) := by decide +kernel
theorem d_191_9 : decode (axt_b 191) 9 = .ok (.getfield 119, 3) := by decide +kernel
theorem d_191_12 : decode (axt_b 191) 12 = .ok (.aload_n 0, 1) := by decide +kernel
theorem d_191_13 : decode (axt_b 191) 13 = .ok (.getfield 83, 3) := by decide +kernel
theorem d_191_16 : decode (axt_b 191) 16 = .ok (.iconst 1, 1) := by decide +kernel
theorem d_191_17 : decode (axt_b 191) 17 = .ok (.isub, 1) := by decide +kernel
theorem d_191_18 : decode (axt_b 191) 18 = .ok (.if_icmp .ne 5, 3) := by decide +kernel
theorem d_191_21 : decode (axt_b 191) 21 = .ok (.iconst 0, 1) := by decide +kernel
theorem d_191_22 : decode (axt_b 191) 22 = .ok (.ireturn, 1) := by decide +kernel
theorem d_191_23 : decode (axt_b 191) 23 = .ok (.aload_n 0, 1) := by decide +kernel
theorem d_191_24 : decode (axt_b 191) 24 = .ok (.dup, 1) := by decide +kernel
theorem d_191_25 : decode (axt_b 191) 25 = .ok (.getfield 119, 3) := by decide +kernel
theorem d_191_28 : decode (axt_b 191) 28 = .ok (.iconst 1, 1) := by decide +kernel
theorem d_191_29 : decode (axt_b 191) 29 = .ok (.iadd, 1) := by decide +kernel
theorem d_191_30 : decode (axt_b 191) 30 = .ok (.putfield 119, 3) := by decide +kernel
theorem d_191_33 : decode (axt_b 191) 33 = .ok (.aload_n 0, 1) := by decide +kernel
theorem d_191_34 : decode (axt_b 191) 34 = .ok (.dup, 1) := by decide +kernel
theorem d_191_35 : decode (axt_b 191) 35 = .ok (.getfield 7, 3) := by decide +kernel
theorem d_191_38 : decode (axt_b 191) 38 = .ok (.iconst 1, 1) := by decide +kernel
theorem d_191_39 : decode (axt_b 191) 39 = .ok (.iadd, 1) := by decide +kernel
theorem d_191_40 : decode (axt_b 191) 40 = .ok (.putfield 7, 3) := by decide +kernel
theorem d_191_43 : decode (axt_b 191) 43 = .ok (.aload_n 0, 1) := by decide +kernel
theorem d_191_44 : decode (axt_b 191) 44 = .ok (.iconst 0, 1) := by decide +kernel
theorem d_191_45 : decode (axt_b 191) 45 = .ok (.putfield 108, 3) := by decide +kernel
theorem d_191_48 : decode (axt_b 191) 48 = .ok (.iconst 1, 1) := by decide +kernel
theorem d_191_49 : decode (axt_b 191) 49 = .ok (.ireturn, 1) := by decide +kernel
theorem d_192_0 : decode (axt_b 192) 0 = .ok (.aload_n 0, 1) := by decide +kernel
theorem d_192_1 : decode (axt_b 192) 1 = .ok (.getfield 102, 3) := by decide +kernel
theorem d_192_4 : decode (axt_b 192) 4 = .ok (.istore_n 1, 1) := by decide +kernel
theorem d_192_5 : decode (axt_b 192) 5 = .ok (.aload_n 0, 1) := by decide +kernel
theorem d_192_6 : decode (axt_b 192) 6 = .ok (.aload_n 0, 1) := by decide +kernel
theorem d_192_7 : decode (axt_b 192) 7 = .ok (.getfield 105, 3) := by decide +kernel
theorem d_192_10 : decode (axt_b 192) 10 = .ok (.iload_n 1, 1) := by decide +kernel
theorem d_192_11 : decode (axt_b 192) 11 = .ok (.isub, 1) := by decide +kernel
theorem d_192_12 : decode (axt_b 192) 12 = .ok (.putfield 174, 3) := by decide +kernel
theorem d_192_15 : decode (axt_b 192) 15 = .ok (.aload_n 0, 1) := by decide +kernel
theorem d_192_16 : decode (axt_b 192) 16 = .ok (.iload_n 1, 1) := by decide +kernel
theorem d_192_17 : decode (axt_b 192) 17 = .ok (.putfield 177, 3) := by decide +kernel
theorem d_192_20 : decode (axt_b 192) 20 = .ok (.iconst 0, 1) := by decide +kernel
theorem d_192_21 : decode (axt_b 192) 21 = .ok (.istore_n 2, 1) := by decide +kernel
theorem d_192_22 : decode (axt_b 192) 22 = .ok (.iload_n 2, 1) := by decide +kernel
theorem d_192_23 : decode (axt_b 192) 23 = .ok (.iload_n 1, 1) := by decide +kernel
theorem d_192_24 : decode (axt_b 192) 24 = .ok (.if_icmp .ge 81, 3) := by decide +kernel
theorem d_192_27 : decode (axt_b 192) 27 = .ok (.aload_n 0, 1) := by decide +kernel
theorem d_192_28 : decode (axt_b 192) 28 = .ok (.getfield 174, 3) := by decide +kernel
theorem d_192_31 : decode (axt_b 192) 31 = .ok (.iload_n 2, 1) := by decide +kernel
theorem d_192_32 : decode (axt_b 192) 32 = .ok (.iadd, 1) := by decide +kernel
theorem d_192_33 : decode (axt_b 192) 33 = .ok (.istore_n 3, 1) := by decide +kernel
theorem d_192_34 : decode (axt_b 192) 34 = .ok (.iload_n 3, 1) := by decide +kernel
theorem d_192_35 : decode (axt_b 192) 35 = .ok (.aload_n 0, 1) := by decide +kernel
theorem d_192_36 : decode (axt_b 192) 36 = .ok (.getfield 71, 3) := by decide +kernel
theorem d_192_39 : decode (axt_b 192) 39 = .ok (.arraylength, 1) := by decide +kernel
theorem d_192_40 : decode (axt_b 192) 40 = .ok (.if_icmp .lt 47, 3) := by decide +kernel
theorem d_192_43 : decode (axt_b 192) 43 = .ok (.iconst 2, 1) := by decide +kernel
theorem d_192_44 : decode (axt_b 192) 44 = .ok (.aload_n 0, 1) := by decide +kernel
theorem d_192_45 : decode (axt_b 192) 45 = .ok (.getfield 71, 3) := by decide +kernel
theorem d_192_48 : decode (axt_b 192) 48 = .ok (.arraylength, 1) := by decide +kernel
theorem d_192_49 : decode (axt_b 192) 49 = .ok (.imul, 1) := by decide +kernel
theorem d_192_50 : decode (axt_b 192) 50 = .ok (.newarray .int, 2) := by decide +kernel
theorem d_192_52 : decode (axt_b 192) 52 = .ok (.astore 4, 2) := by decide +kernel
theorem d_192_54 : decode (axt_b 192) 54 = .ok (.iconst 0, 1) := by decide +kernel
theorem d_192_55 : decode (axt_b 192) 55 = .ok (.istore 5, 2) := by decide +kernel
theorem d_192_57 : decode (axt_b 192) 57 = .ok (.iload 5, 2) := by decide +kernel
theorem d_192_59 : decode (axt_b 192) 59 = .ok (.iload_n 3, 1) := by decide +kernel
theorem d_192_60 : decode (axt_b 192) 60 = .ok (.if_icmp .ge 21, 3) := by decide +kernel
theorem d_192_63 : decode (axt_b 192) 63 = .ok (.aload 4, 2) := by decide +kernel
theorem d_192_65 : decode (axt_b 192) 65 = .ok (.iload 5, 2) := by decide +kernel
theorem d_192_67 : decode (axt_b 192) 67 = .ok (.aload_n 0, 1) := by decide +kernel
theorem d_192_68 : decode (axt_b 192) 68 = .ok (.getfield 71, 3) := by decide +kernel
theorem d_192_71 : decode (axt_b 192) 71 = .ok (.iload 5, 2) := by decide +kernel
theorem d_192_73 : decode (axt_b 192) 73 = .ok (.iaload, 1) := by decide +kernel
theorem d_192_74 : decode (axt_b 192) 74 = .ok (.iastore, 1) := by decide +kernel
theorem d_192_75 : decode (axt_b 192) 75 = .ok (.iinc 5 1, 3) := by decide +kernel
theorem d_192_78 : decode (axt_b 192) 78 = .ok (.goto (-21), 3) := by decide +kernel
theorem d_192_81 : decode (axt_b 192) 81 = .ok (.aload_n 0, 1) := by decide +kernel
theorem d_192_82 : decode (axt_b 192) 82 = .ok (.aload 4, 2) := by decide +kernel
theorem d_192_84 : decode (axt_b 192) 84 = .ok (.putfield 71, 3) := by decide +kernel
theorem d_192_87 : decode (axt_b 192) 87 = .ok (.aload_n 0, 1) := by decide +kernel
theorem d_192_88 : decode (axt_b 192) 88 = .ok (.getfield 71, 3) := by decide +kernel
theorem d_192_91 : decode (axt_b 192) 91 = .ok (.iload_n 3, 1) := by decide +kernel
theorem d_192_92 : decode (axt_b 192) 92 = .ok (.aload_n 0, 1) := by decide +kernel
theorem d_192_93 : decode (axt_b 192) 93 = .ok (.iload_n 2, 1) := by decide +kernel
theorem d_192_94 : decode (axt_b 192) 94 = .ok (.iload_n 3, 1) := by decide +kernel
theorem d_192_95 : decode (axt_b 192) 95 = .ok (.invokevirtual 180, 3) := by decide +kernel
theorem d_192_98 : decode (axt_b 192) 98 = .ok (.iastore, 1) := by decide +kernel
theorem d_192_99 : decode (axt_b 192) 99 = .ok (.iinc 2 1, 3) := by decide +kernel
theorem d_192_102 : decode (axt_b 192) 102 = .ok (.goto (-80), 3) := by decide +kernel
theorem d_192_105 : decode (axt_b 192) 105 = .ok (.aload_n 0, 1) := by decide +kernel
theorem d_192_106 : decode (axt_b 192) 106 = .ok (.iconst 0, 1) := by decide +kernel
theorem d_192_107 : decode (axt_b 192) 107 = .ok (.putfield 102, 3) := by decide +kernel
theorem d_192_110 : decode (axt_b 192) 110 = .ok (.aload_n 0, 1) := by decide +kernel
theorem d_192_111 : decode (axt_b 192) 111 = .ok (.iconst 1, 1) := by decide +kernel
theorem d_192_112 : decode (axt_b 192) 112 = .ok (.aload_n 0, 1) := by decide +kernel
theorem d_192_113 : decode (axt_b 192) 113 = .ok (.getfield 80, 3) := by decide +kernel
theorem d_192_116 : decode (axt_b 192) 116 = .ok (.ishl, 1) := by decide +kernel
theorem d_192_117 : decode (axt_b 192) 117 = .ok (.iconst 1, 1) := by decide +kernel
theorem d_192_118 : decode (axt_b 192) 118 = .ok (.isub, 1) := by decide +kernel
theorem d_192_119 : decode (axt_b 192) 119 = .ok (.putfield 89, 3) := by decide +kernel
theorem d_192_122 : decode (axt_b 192) 122 = .ok (.aload_n 0, 1) := by decide +kernel
theorem d_192_123 : decode (axt_b 192) 123 = .ok (.aload_n 0, 1) := by decide +kernel
theorem d_192_124 : decode (axt_b 192) 124 = .ok (.getfield 89, 3) := by decide +kernel
theorem d_192_127 : decode (axt_b 192) 127 = .ok (.putfield 92, 3) := by decide +kernel
theorem d_192_130 : decode (axt_b 192) 130 = .ok (.aload_n 0, 1) := by decide +kernel
theorem d_192_131 : decode (axt_b 192) 131 = .ok (.dup, 1) := by decide +kernel
theorem d_192_132 : decode (axt_b 192) 132 = .ok (.getfield 7, 3) := by decide +kernel
theorem d_192_135 : decode (axt_b 192) 135 = .ok (.iconst 1, 1) := by decide +kernel
theorem d_192_136 : decode (axt_b 192) 136 = .ok (.iadd, 1) := by decide +kernel
theorem d_192_137 : decode (axt_b 192) 137 = .ok (.putfield 7, 3) := by decide +kernel
theorem d_192_140 : decode (axt_b 192) 140 = .ok (.aload_n 0, 1) := by decide +kernel
theorem d_192_141 : decode (axt_b 192) 141 = .ok (.iconst 0, 1) := by decide +kernel
theorem d_192_142 : decode (axt_b 192) 142 = .ok (.putfield 119, 3) := by decide +kernel
theorem d_192_145 : decode (axt_b 192) 145 = .ok (.aload_n 0, 1) := by decide +kernel
theorem d_192_146 : decode (axt_b 192) 146 = .ok (.iconst 1, 1) := by decide +kernel
theorem d_192_147 : decode (axt_b 192) 147 = .ok (.putfield 108, 3) := by decide +kernel
theorem d_192_150 : decode (axt_b 192) 150 = .ok (.aload_n 0, 1) := by decide +kernel
theorem d_192_151 : decode (axt_b 192) 151 = .ok (.aload_n 0, 1) := by decide +kernel
theorem d_192_152 : decode (axt_b 192) 152 = .ok (.getfield 122, 3) := by decide +kernel
theorem d_192_155 : decode (axt_b 192) 155 = .ok (.putfield 183, 3) := by decide +kernel
theorem d_192_158 : decode (axt_b 192) 158 = .ok (.aload_n 0, 1) := by decide +kernel
theorem d_192_159 : decode (axt_b 192) 159 = .ok (.aload_n 0, 1) := by decide +kernel
theorem d_192_160 : decode (axt_b 192) 160 = .ok (.getfield 136, 3) := by decide +kernel
theorem d_192_163 : decode (axt_b 192) 163 = .ok (.putfield 186, 3) := by decide +kernel
theorem d_192_166 : decode (axt_b 192) 166 = .ok (.aload_n 0, 1) := by decide +kernel
theorem d_192_167 : decode (axt_b 192) 167 = .ok (.iconst 0, 1) := by decide +kernel
theorem d_192_168 : decode (axt_b 192) 168 = .ok (.putfield 189, 3) := by decide +kernel
theorem d_192_171 : decode (axt_b 192) 171 = .ok (.iconst 0, 1) := by decide +kernel
theorem d_192_172 : decode (axt_b 192) 172 = .ok (.istore_n 2, 1) := by decide +kernel
theorem d_192_173 : decode (axt_b 192) 173 = .ok (.iload_n 2, 1) := by decide +kernel
theorem d_192_174 : decode (axt_b 192) 174 = .ok (.aload_n 0, 1) := by decide +kernel
theorem d_192_175 : decode (axt_b 192) 175 = .ok (.getfield 122, 3) := by decide +kernel
theorem d_192_178 : decode (axt_b 192) 178 = .ok (.if_icmp .ge 28, 3) := by decide +kernel
theorem d_192_181 : decode (axt_b 192) 181 = .ok (.aload_n 0, 1) := by decide +kernel
theorem d_192_182 : decode (axt_b 192) 182 = .ok (.dup, 1) := by decide +kernel
theorem d_192_183 : decode (axt_b 192) 183 = .ok (.getfield 189, 3) := by decide +kernel
theorem d_192_186 : decode (axt_b 192) 186 = .ok (.aload_n 0, 1) := by decide +kernel
theorem d_192_187 : decode (axt_b 192) 187 = .ok (.aload_n 0, 1) := by decide +kernel
theorem d_192_188 : decode (axt_b 192) 188 = .ok (.getfield 24, 3) := by decide +kernel
theorem d_192_191 : decode (axt_b 192) 191 = .ok (.iload_n 2, 1) := by decide +kernel
theorem d_192_192 : decode (axt_b 192) 192 = .ok (.iaload, 1) := by decide +kernel
theorem d_192_193 : decode (axt_b 192) 193 = .ok (.invokevirtual 192, 3) := by decide +kernel
theorem d_192_196 : decode (axt_b 192) 196 = .ok (.iadd, 1) := by decide +kernel
theorem d_192_197 : decode (axt_b 192) 197 = .ok (.putfield 189, 3) := by decide +kernel
theorem d_192_200 : decode (axt_b 192) 200 = .ok (.iinc 2 1, 3) := by decide +kernel
theorem d_192_203 : decode (axt_b 192) 203 = .ok (.goto (-30), 3) := by decide +kernel
theorem d_192_206 : decode (axt_b 192) 206 = .ok (.iload_n 1, 1) := by decide +kernel
theorem d_192_207 : decode (axt_b 192) 207 = .ok (.ireturn, 1) := by decide +kernel
theorem d_217_0 : decode (axt_b 217) 0 = .ok (.iload_n 1, 1) := by decide +kernel
theorem d_217_1 : decode (axt_b 217) 1 = .ok (.tableswitch 125 0 10 #[59, 64, 69, 74, 79, 84, 89, 97, 102, 107, 112], 59) := by decide +kernel
theorem d_217_60 : decode (axt_b 217) 60 = .ok (.aload_n 0, 1) := by decide +kernel
theorem d_217_61 : decode (axt_b 217) 61 = .ok (.getfield 183, 3) := by decide +kernel
theorem d_217_64 : decode (axt_b 217) 64 = .ok (.ireturn, 1) := by decide +kernel
theorem d_217_65 : decode (axt_b 217) 65 = .ok (.aload_n 0, 1) := by decide +kernel
theorem d_217_66 : decode (axt_b 217) 66 = .ok (.getfield 186, 3) := by decide +kernel
theorem d_217_69 : decode (axt_b 217) 69 = .ok (.ireturn, 1) := by decide +kernel
theorem d_217_70 : decode (axt_b 217) 70 = .ok (.aload_n 0, 1) := by decide +kernel
theorem d_217_71 : decode (axt_b 217) 71 = .ok (.getfield 189, 3) := by decide +kernel
theorem d_217_74 : decode (axt_b 217) 74 = .ok (.ireturn, 1) := by decide +kernel
theorem d_217_75 : decode (axt_b 217) 75 = .ok (.aload_n 0, 1) := by decide +kernel
theorem d_217_76 : decode (axt_b 217) 76 = .ok (.getfield 105, 3) := by decide +kernel
theorem d_217_79 : decode (axt_b 217) 79 = .ok (.ireturn, 1) := by decide +kernel
theorem d_217_80 : decode (axt_b 217) 80 = .ok (.aload_n 0, 1) := by decide +kernel
theorem d_217_81 : decode (axt_b 217) 81 = .ok (.getfield 102, 3) := by decide +kernel
theorem d_217_84 : decode (axt_b 217) 84 = .ok (.ireturn, 1) := by decide +kernel
theorem d_217_85 : decode (axt_b 217) 85 = .ok (.aload_n 0, 1) := by decide +kernel
theorem d_217_86 : decode (axt_b 217) 86 = .ok (.getfield 7, 3) := by decide +kernel
theorem d_217_89 : decode (axt_b 217) 89 = .ok (.ireturn, 1) := by decide +kernel
theorem d_217_90 : decode (axt_b 217) 90 = .ok (.aload_n 0, 1) := by decide +kernel
theorem d_217_91 : decode (axt_b 217) 91 = .ok (.getfield 89, 3) := by decide +kernel
theorem d_217_94 : decode (axt_b 217) 94 = .ok (.invokestatic 208, 3) := by decide +kernel
theorem d_217_97 : decode (axt_b 217) 97 = .ok (.ireturn, 1) := by decide +kernel
theorem d_217_98 : decode (axt_b 217) 98 = .ok (.aload_n 0, 1) := by decide +kernel
theorem d_217_99 : decode (axt_b 217) 99 = .ok (.getfield 92, 3) := by decide +kernel
theorem d_217_102 : decode (axt_b 217) 102 = .ok (.ireturn, 1) := by decide +kernel
theorem d_217_103 : decode (axt_b 217) 103 = .ok (.aload_n 0, 1) := by decide +kernel
theorem d_217_104 : decode (axt_b 217) 104 = .ok (.getfield 119, 3) := by decide +kernel
theorem d_217_107 : decode (axt_b 217) 107 = .ok (.ireturn, 1) := by decide +kernel
theorem d_217_108 : decode (axt_b 217) 108 = .ok (.aload_n 0, 1) := by decide +kernel
theorem d_217_109 : decode (axt_b 217) 109 = .ok (.getfield 95, 3) := by decide +kernel
theorem d_217_112 : decode (axt_b 217) 112 = .ok (.ireturn, 1) := by decide +kernel
theorem d_217_113 : decode (axt_b 217) 113 = .ok (.aload_n 0, 1) := by decide +kernel
theorem d_217_114 : decode (axt_b 217) 114 = .ok (.getfield 108, 3) := by decide +kernel
theorem d_217_117 : decode (axt_b 217) 117 = .ok (.ifCond .eq 7, 3) := by decide +kernel
theorem d_217_120 : decode (axt_b 217) 120 = .ok (.iconst 1, 1) := by decide +kernel
theorem d_217_121 : decode (axt_b 217) 121 = .ok (.goto 4, 3) := by decide +kernel
theorem d_217_124 : decode (axt_b 217) 124 = .ok (.iconst 0, 1) := by decide +kernel
theorem d_217_125 : decode (axt_b 217) 125 = .ok (.ireturn, 1) := by decide +kernel
theorem d_217_126 : decode (axt_b 217) 126 = .ok (.iconst (-1), 1) := by decide +kernel
theorem d_217_127 : decode (axt_b 217) 127 = .ok (.ireturn, 1) := by decide +kernel
theorem d_218_0 : decode (axt_b 218) 0 = .ok (.iconst 0, 1) := by decide +kernel
theorem d_218_1 : decode (axt_b 218) 1 = .ok (.istore_n 1, 1) := by decide +kernel
theorem d_218_2 : decode (axt_b 218) 2 = .ok (.iload_n 0, 1) := by decide +kernel
theorem d_218_3 : decode (axt_b 218) 3 = .ok (.istore_n 2, 1) := by decide +kernel
theorem d_218_4 : decode (axt_b 218) 4 = .ok (.iload_n 2, 1) := by decide +kernel
theorem d_218_5 : decode (axt_b 218) 5 = .ok (.ifCond .eq 15, 3) := by decide +kernel
theorem d_218_8 : decode (axt_b 218) 8 = .ok (.iinc 1 1, 3) := by decide +kernel
theorem d_218_11 : decode (axt_b 218) 11 = .ok (.iload_n 2, 1) := by decide +kernel
theorem d_218_12 : decode (axt_b 218) 12 = .ok (.iload_n 2, 1) := by decide +kernel
theorem d_218_13 : decode (axt_b 218) 13 = .ok (.iconst 1, 1) := by decide +kernel
theorem d_218_14 : decode (axt_b 218) 14 = .ok (.isub, 1) := by decide +kernel
theorem d_218_15 : decode (axt_b 218) 15 = .ok (.iand, 1) := by decide +kernel
theorem d_218_16 : decode (axt_b 218) 16 = .ok (.istore_n 2, 1) := by decide +kernel
theorem d_218_17 : decode (axt_b 218) 17 = .ok (.goto (-13), 3) := by decide +kernel
theorem d_218_20 : decode (axt_b 218) 20 = .ok (.iload_n 1, 1) := by decide +kernel
theorem d_218_21 : decode (axt_b 218) 21 = .ok (.ireturn, 1) := by decide +kernel

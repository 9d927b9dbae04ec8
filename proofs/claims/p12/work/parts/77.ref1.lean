/-! the reference, exactly: draw, stripes, compare, find, leave -/
theorem d_194_0 : decode (axt_b 194) 0 = .ok (.iconst 0, 1) := by decide +kernel
theorem d_194_1 : decode (axt_b 194) 1 = .ok (.istore_n 3, 1) := by decide +kernel
theorem d_194_2 : decode (axt_b 194) 2 = .ok (.iload_n 3, 1) := by decide +kernel
theorem d_194_3 : decode (axt_b 194) 3 = .ok (.aload_n 0, 1) := by decide +kernel
theorem d_194_4 : decode (axt_b 194) 4 = .ok (.getfield 122, 3) := by decide +kernel
theorem d_194_7 : decode (axt_b 194) 7 = .ok (.if_icmp .ge 31, 3) := by decide +kernel
theorem d_194_10 : decode (axt_b 194) 10 = .ok (.aload_n 0, 1) := by decide +kernel
theorem d_194_11 : decode (axt_b 194) 11 = .ok (.aload_n 0, 1) := by decide +kernel
theorem d_194_12 : decode (axt_b 194) 12 = .ok (.getfield 24, 3) := by decide +kernel
theorem d_194_15 : decode (axt_b 194) 15 = .ok (.iload_n 3, 1) := by decide +kernel
theorem d_194_16 : decode (axt_b 194) 16 = .ok (.iaload, 1) := by decide +kernel
theorem d_194_17 : decode (axt_b 194) 17 = .ok (.iload_n 1, 1) := by decide +kernel
theorem d_194_18 : decode (axt_b 194) 18 = .ok (.iload_n 2, 1) := by decide +kernel
theorem d_194_19 : decode (axt_b 194) 19 = .ok (.invokevirtual 125, 3) := by decide +kernel
theorem d_194_22 : decode (axt_b 194) 22 = .ok (.ifCond .ne 10, 3) := by decide +kernel
theorem d_194_25 : decode (axt_b 194) 25 = .ok (.aload_n 0, 1) := by decide +kernel
theorem d_194_26 : decode (axt_b 194) 26 = .ok (.getfield 24, 3) := by decide +kernel
theorem d_194_29 : decode (axt_b 194) 29 = .ok (.iload_n 3, 1) := by decide +kernel
theorem d_194_30 : decode (axt_b 194) 30 = .ok (.iaload, 1) := by decide +kernel
theorem d_194_31 : decode (axt_b 194) 31 = .ok (.ireturn, 1) := by decide +kernel
theorem d_194_32 : decode (axt_b 194) 32 = .ok (.iinc 3 1, 3) := by decide +kernel
theorem d_194_35 : decode (axt_b 194) 35 = .ok (.goto (-33), 3) := by decide +kernel
theorem d_194_38 : decode (axt_b 194) 38 = .ok (.iconst (-1), 1) := by decide +kernel
theorem d_194_39 : decode (axt_b 194) 39 = .ok (.ireturn, 1) := by decide +kernel
theorem d_195_0 : decode (axt_b 195) 0 = .ok (.aload_n 0, 1) := by decide +kernel
theorem d_195_1 : decode (axt_b 195) 1 = .ok (.getfield 62, 3) := by decide +kernel
theorem d_195_4 : decode (axt_b 195) 4 = .ok (.iconst 2, 1) := by decide +kernel
theorem d_195_5 : decode (axt_b 195) 5 = .ok (.iload_n 2, 1) := by decide +kernel
theorem d_195_6 : decode (axt_b 195) 6 = .ok (.imul, 1) := by decide +kernel
theorem d_195_7 : decode (axt_b 195) 7 = .ok (.iload_n 3, 1) := by decide +kernel
theorem d_195_8 : decode (axt_b 195) 8 = .ok (.iadd, 1) := by decide +kernel
theorem d_195_9 : decode (axt_b 195) 9 = .ok (.iaload, 1) := by decide +kernel
theorem d_195_10 : decode (axt_b 195) 10 = .ok (.istore 4, 2) := by decide +kernel
theorem d_195_12 : decode (axt_b 195) 12 = .ok (.aload_n 0, 1) := by decide +kernel
theorem d_195_13 : decode (axt_b 195) 13 = .ok (.getfield 34, 3) := by decide +kernel
theorem d_195_16 : decode (axt_b 195) 16 = .ok (.iload_n 1, 1) := by decide +kernel
theorem d_195_17 : decode (axt_b 195) 17 = .ok (.iaload, 1) := by decide +kernel
theorem d_195_18 : decode (axt_b 195) 18 = .ok (.istore 5, 2) := by decide +kernel
theorem d_195_20 : decode (axt_b 195) 20 = .ok (.iconst 0, 1) := by decide +kernel
theorem d_195_21 : decode (axt_b 195) 21 = .ok (.istore 6, 2) := by decide +kernel
theorem d_195_23 : decode (axt_b 195) 23 = .ok (.iload 6, 2) := by decide +kernel
theorem d_195_25 : decode (axt_b 195) 25 = .ok (.iload 4, 2) := by decide +kernel
theorem d_195_27 : decode (axt_b 195) 27 = .ok (.if_icmp .ge 73, 3) := by decide +kernel
theorem d_195_30 : decode (axt_b 195) 30 = .ok (.iload 6, 2) := by decide +kernel
theorem d_195_32 : decode (axt_b 195) 32 = .ok (.iload 5, 2) := by decide +kernel
theorem d_195_34 : decode (axt_b 195) 34 = .ok (.if_icmp .ge 66, 3) := by decide +kernel
theorem d_195_37 : decode (axt_b 195) 37 = .ok (.aload_n 0, 1) := by decide +kernel
theorem d_195_38 : decode (axt_b 195) 38 = .ok (.getfield 31, 3) := by decide +kernel
theorem d_195_41 : decode (axt_b 195) 41 = .ok (.sipush 200, 3) := by decide +kernel
theorem d_195_44 : decode (axt_b 195) 44 = .ok (.iload_n 1, 1) := by decide +kernel
theorem d_195_45 : decode (axt_b 195) 45 = .ok (.imul, 1) := by decide +kernel
theorem d_195_46 : decode (axt_b 195) 46 = .ok (.iload 6, 2) := by decide +kernel
theorem d_195_48 : decode (axt_b 195) 48 = .ok (.iadd, 1) := by decide +kernel
theorem d_195_49 : decode (axt_b 195) 49 = .ok (.baload, 1) := by decide +kernel
theorem d_195_50 : decode (axt_b 195) 50 = .ok (.sipush 255, 3) := by decide +kernel
theorem d_195_53 : decode (axt_b 195) 53 = .ok (.iand, 1) := by decide +kernel
theorem d_195_54 : decode (axt_b 195) 54 = .ok (.istore 7, 2) := by decide +kernel
theorem d_195_56 : decode (axt_b 195) 56 = .ok (.aload_n 0, 1) := by decide +kernel
theorem d_195_57 : decode (axt_b 195) 57 = .ok (.getfield 59, 3) := by decide +kernel
theorem d_195_60 : decode (axt_b 195) 60 = .ok (.sipush 400, 3) := by decide +kernel
theorem d_195_63 : decode (axt_b 195) 63 = .ok (.iload_n 2, 1) := by decide +kernel
theorem d_195_64 : decode (axt_b 195) 64 = .ok (.imul, 1) := by decide +kernel
theorem d_195_65 : decode (axt_b 195) 65 = .ok (.sipush 200, 3) := by decide +kernel
theorem d_195_68 : decode (axt_b 195) 68 = .ok (.iload_n 3, 1) := by decide +kernel
theorem d_195_69 : decode (axt_b 195) 69 = .ok (.imul, 1) := by decide +kernel
theorem d_195_70 : decode (axt_b 195) 70 = .ok (.iadd, 1) := by decide +kernel
theorem d_195_71 : decode (axt_b 195) 71 = .ok (.iload 6, 2) := by decide +kernel
theorem d_195_73 : decode (axt_b 195) 73 = .ok (.iadd, 1) := by decide +kernel
theorem d_195_74 : decode (axt_b 195) 74 = .ok (.baload, 1) := by decide +kernel
theorem d_195_75 : decode (axt_b 195) 75 = .ok (.sipush 255, 3) := by decide +kernel
theorem d_195_78 : decode (axt_b 195) 78 = .ok (.iand, 1) := by decide +kernel
theorem d_195_79 : decode (axt_b 195) 79 = .ok (.istore 8, 2) := by decide +kernel
theorem d_195_81 : decode (axt_b 195) 81 = .ok (.iload 7, 2) := by decide +kernel
theorem d_195_83 : decode (axt_b 195) 83 = .ok (.iload 8, 2) := by decide +kernel
theorem d_195_85 : decode (axt_b 195) 85 = .ok (.if_icmp .eq 9, 3) := by decide +kernel
theorem d_195_88 : decode (axt_b 195) 88 = .ok (.iload 7, 2) := by decide +kernel
theorem d_195_90 : decode (axt_b 195) 90 = .ok (.iload 8, 2) := by decide +kernel
theorem d_195_92 : decode (axt_b 195) 92 = .ok (.isub, 1) := by decide +kernel
theorem d_195_93 : decode (axt_b 195) 93 = .ok (.ireturn, 1) := by decide +kernel
theorem d_195_94 : decode (axt_b 195) 94 = .ok (.iinc 6 1, 3) := by decide +kernel
theorem d_195_97 : decode (axt_b 195) 97 = .ok (.goto (-74), 3) := by decide +kernel
theorem d_195_100 : decode (axt_b 195) 100 = .ok (.iload 5, 2) := by decide +kernel
theorem d_195_102 : decode (axt_b 195) 102 = .ok (.iload 4, 2) := by decide +kernel
theorem d_195_104 : decode (axt_b 195) 104 = .ok (.isub, 1) := by decide +kernel
theorem d_195_105 : decode (axt_b 195) 105 = .ok (.ireturn, 1) := by decide +kernel
theorem d_203_0 : decode (axt_b 203) 0 = .ok (.iconst 0, 1) := by decide +kernel
theorem d_203_1 : decode (axt_b 203) 1 = .ok (.istore_n 2, 1) := by decide +kernel
theorem d_203_2 : decode (axt_b 203) 2 = .ok (.iconst 0, 1) := by decide +kernel
theorem d_203_3 : decode (axt_b 203) 3 = .ok (.istore_n 3, 1) := by decide +kernel
theorem d_203_4 : decode (axt_b 203) 4 = .ok (.iload_n 3, 1) := by decide +kernel
theorem d_203_5 : decode (axt_b 203) 5 = .ok (.aload_n 0, 1) := by decide +kernel
theorem d_203_6 : decode (axt_b 203) 6 = .ok (.getfield 122, 3) := by decide +kernel
theorem d_203_9 : decode (axt_b 203) 9 = .ok (.if_icmp .ge 37, 3) := by decide +kernel
theorem d_203_12 : decode (axt_b 203) 12 = .ok (.aload_n 0, 1) := by decide +kernel
theorem d_203_13 : decode (axt_b 203) 13 = .ok (.getfield 24, 3) := by decide +kernel
theorem d_203_16 : decode (axt_b 203) 16 = .ok (.iload_n 3, 1) := by decide +kernel
theorem d_203_17 : decode (axt_b 203) 17 = .ok (.iaload, 1) := by decide +kernel
theorem d_203_18 : decode (axt_b 203) 18 = .ok (.iload_n 1, 1) := by decide +kernel
theorem d_203_19 : decode (axt_b 203) 19 = .ok (.if_icmp .ne 6, 3) := by decide +kernel
theorem d_203_22 : decode (axt_b 203) 22 = .ok (.goto 18, 3) := by decide +kernel
theorem d_203_25 : decode (axt_b 203) 25 = .ok (.aload_n 0, 1) := by decide +kernel
theorem d_203_26 : decode (axt_b 203) 26 = .ok (.getfield 24, 3) := by decide +kernel
theorem d_203_29 : decode (axt_b 203) 29 = .ok (.iload_n 2, 1) := by decide +kernel
theorem d_203_30 : decode (axt_b 203) 30 = .ok (.aload_n 0, 1) := by decide +kernel
theorem d_203_31 : decode (axt_b 203) 31 = .ok (.getfield 24, 3) := by decide +kernel
theorem d_203_34 : decode (axt_b 203) 34 = .ok (.iload_n 3, 1) := by decide +kernel
theorem d_203_35 : decode (axt_b 203) 35 = .ok (.iaload, 1) := by decide +kernel
theorem d_203_36 : decode (axt_b 203) 36 = .ok (.iastore, 1) := by decide +kernel
theorem d_203_37 : decode (axt_b 203) 37 = .ok (.iinc 2 1, 3) := by decide +kernel
theorem d_203_40 : decode (axt_b 203) 40 = .ok (.iinc 3 1, 3) := by decide +kernel
theorem d_203_43 : decode (axt_b 203) 43 = .ok (.goto (-39), 3) := by decide +kernel
theorem d_203_46 : decode (axt_b 203) 46 = .ok (.aload_n 0, 1) := by decide +kernel
theorem d_203_47 : decode (axt_b 203) 47 = .ok (.iload_n 2, 1) := by decide +kernel
theorem d_203_48 : decode (axt_b 203) 48 = .ok (.putfield 122, 3) := by decide +kernel
theorem d_203_51 : decode (axt_b 203) 51 = .ok (.return_, 1) := by decide +kernel
theorem d_207_0 : decode (axt_b 207) 0 = .ok (.iconst 0, 1) := by decide +kernel
theorem d_207_1 : decode (axt_b 207) 1 = .ok (.istore_n 2, 1) := by decide +kernel
theorem d_207_2 : decode (axt_b 207) 2 = .ok (.iconst 0, 1) := by decide +kernel
theorem d_207_3 : decode (axt_b 207) 3 = .ok (.istore_n 3, 1) := by decide +kernel
theorem d_207_4 : decode (axt_b 207) 4 = .ok (.iload_n 3, 1) := by decide +kernel
theorem d_207_5 : decode (axt_b 207) 5 = .ok (.bipush 19, 2) := by decide +kernel
theorem d_207_7 : decode (axt_b 207) 7 = .ok (.if_icmp .ge 31, 3) := by decide +kernel
theorem d_207_10 : decode (axt_b 207) 10 = .ok (.iload_n 2, 1) := by decide +kernel
theorem d_207_11 : decode (axt_b 207) 11 = .ok (.aload_n 0, 1) := by decide +kernel
theorem d_207_12 : decode (axt_b 207) 12 = .ok (.getfield 47, 3) := by decide +kernel
theorem d_207_15 : decode (axt_b 207) 15 = .ok (.bipush 19, 2) := by decide +kernel
theorem d_207_17 : decode (axt_b 207) 17 = .ok (.iload_n 1, 1) := by decide +kernel
theorem d_207_18 : decode (axt_b 207) 18 = .ok (.imul, 1) := by decide +kernel
theorem d_207_19 : decode (axt_b 207) 19 = .ok (.iload_n 3, 1) := by decide +kernel
theorem d_207_20 : decode (axt_b 207) 20 = .ok (.iadd, 1) := by decide +kernel
theorem d_207_21 : decode (axt_b 207) 21 = .ok (.baload, 1) := by decide +kernel
theorem d_207_22 : decode (axt_b 207) 22 = .ok (.ifCond .eq 7, 3) := by decide +kernel
theorem d_207_25 : decode (axt_b 207) 25 = .ok (.iconst 1, 1) := by decide +kernel
theorem d_207_26 : decode (axt_b 207) 26 = .ok (.goto 4, 3) := by decide +kernel
theorem d_207_29 : decode (axt_b 207) 29 = .ok (.iconst 0, 1) := by decide +kernel
theorem d_207_30 : decode (axt_b 207) 30 = .ok (.iadd, 1) := by decide +kernel
theorem d_207_31 : decode (axt_b 207) 31 = .ok (.istore_n 2, 1) := by decide +kernel
theorem d_207_32 : decode (axt_b 207) 32 = .ok (.iinc 3 1, 3) := by decide +kernel
theorem d_207_35 : decode (axt_b 207) 35 = .ok (.goto (-31), 3) := by decide +kernel
theorem d_207_38 : decode (axt_b 207) 38 = .ok (.iload_n 2, 1) := by decide +kernel
theorem d_207_39 : decode (axt_b 207) 39 = .ok (.ireturn, 1) := by decide +kernel
theorem d_213_0 : decode (axt_b 213) 0 = .ok (.iload_n 0, 1) := by decide +kernel
theorem d_213_1 : decode (axt_b 213) 1 = .ok (.ldc 195, 2) := by decide +kernel
theorem d_213_3 : decode (axt_b 213) 3 = .ok (.imul, 1) := by decide +kernel
theorem d_213_4 : decode (axt_b 213) 4 = .ok (.iload_n 1, 1) := by decide +kernel
theorem d_213_5 : decode (axt_b 213) 5 = .ok (.sipush 30011, 3) := by decide +kernel
theorem d_213_8 : decode (axt_b 213) 8 = .ok (.imul, 1) := by decide +kernel
theorem d_213_9 : decode (axt_b 213) 9 = .ok (.iadd, 1) := by decide +kernel
theorem d_213_10 : decode (axt_b 213) 10 = .ok (.sipush 12345, 3) := by decide +kernel
theorem d_213_13 : decode (axt_b 213) 13 = .ok (.iadd, 1) := by decide +kernel
theorem d_213_14 : decode (axt_b 213) 14 = .ok (.istore_n 2, 1) := by decide +kernel
theorem d_213_15 : decode (axt_b 213) 15 = .ok (.iload_n 2, 1) := by decide +kernel
theorem d_213_16 : decode (axt_b 213) 16 = .ok (.iload_n 2, 1) := by decide +kernel
theorem d_213_17 : decode (axt_b 213) 17 = .ok (.bipush 7, 2) := by decide +kernel
theorem d_213_19 : decode (axt_b 213) 19 = .ok (.iushr, 1) := by decide +kernel
theorem d_213_20 : decode (axt_b 213) 20 = .ok (.ixor, 1) := by decide +kernel
theorem d_213_21 : decode (axt_b 213) 21 = .ok (.ldc 196, 2) := by decide +kernel
theorem d_213_23 : decode (axt_b 213) 23 = .ok (.imul, 1) := by decide +kernel
theorem d_213_24 : decode (axt_b 213) 24 = .ok (.istore_n 2, 1) := by decide +kernel
theorem d_213_25 : decode (axt_b 213) 25 = .ok (.iload_n 2, 1) := by decide +kernel
theorem d_213_26 : decode (axt_b 213) 26 = .ok (.iload_n 2, 1) := by decide +kernel
theorem d_213_27 : decode (axt_b 213) 27 = .ok (.bipush 13, 2) := by decide +kernel
theorem d_213_29 : decode (axt_b 213) 29 = .ok (.iushr, 1) := by decide +kernel
theorem d_213_30 : decode (axt_b 213) 30 = .ok (.ixor, 1) := by decide +kernel
theorem d_213_31 : decode (axt_b 213) 31 = .ok (.ldc 197, 2) := by decide +kernel
theorem d_213_33 : decode (axt_b 213) 33 = .ok (.imul, 1) := by decide +kernel
theorem d_213_34 : decode (axt_b 213) 34 = .ok (.istore_n 2, 1) := by decide +kernel
theorem d_213_35 : decode (axt_b 213) 35 = .ok (.iload_n 2, 1) := by decide +kernel
theorem d_213_36 : decode (axt_b 213) 36 = .ok (.iload_n 2, 1) := by decide +kernel
theorem d_213_37 : decode (axt_b 213) 37 = .ok (.bipush 16, 2) := by decide +kernel
theorem d_213_39 : decode (axt_b 213) 39 = .ok (.iushr, 1) := by decide +kernel
theorem d_213_40 : decode (axt_b 213) 40 = .ok (.ixor, 1) := by decide +kernel
theorem d_213_41 : decode (axt_b 213) 41 = .ok (.ldc 198, 2) := by decide +kernel
theorem d_213_43 : decode (axt_b 213) 43 = .ok (.iand, 1) := by decide +kernel
theorem d_213_44 : decode (axt_b 213) 44 = .ok (.ireturn, 1) := by decide +kernel
def drw (x y : Int32) : Int32 := ((((((((x * 40503) + (y * 30011)) + 12345) ^^^ (((((x * 40503) + (y * 30011)) + 12345).toUInt32 >>> ((7 : Int32).toUInt32 &&& Int32.toUInt32 31)).toInt32)) * 73244475) ^^^ (((((((x * 40503) + (y * 30011)) + 12345) ^^^ (((((x * 40503) + (y * 30011)) + 12345).toUInt32 >>> ((7 : Int32).toUInt32 &&& Int32.toUInt32 31)).toInt32)) * 73244475).toUInt32 >>> ((13 : Int32).toUInt32 &&& Int32.toUInt32 31)).toInt32)) * 19349663) ^^^ (((((((((x * 40503) + (y * 30011)) + 12345) ^^^ (((((x * 40503) + (y * 30011)) + 12345).toUInt32 >>> ((7 : Int32).toUInt32 &&& Int32.toUInt32 31)).toInt32)) * 73244475) ^^^ (((((((x * 40503) + (y * 30011)) + 12345) ^^^ (((((x * 40503) + (y * 30011)) + 12345).toUInt32 >>> ((7 : Int32).toUInt32 &&& Int32.toUInt32 31)).toInt32)) * 73244475).toUInt32 >>> ((13 : Int32).toUInt32 &&& Int32.toUInt32 31)).toInt32)) * 19349663).toUInt32 >>> ((16 : Int32).toUInt32 &&& Int32.toUInt32 31)).toInt32)) &&& 2147483647
theorem n_213 {L : Nat} {xs : Nat → Int32} {fr lo : Nat} {h : ax_H} {x y : Int32} : ax_M L xs 213 fr lo [.int x, .int y] h (fun r h' => r = some (.int (drw x y)) ∧ h' = h) := by
  show ax_A (ax_step L xs) ((213, 0, fr, lo), [(0, .int x), (1, .int y)], [], h) _
  refine ar_iload_n 1 d_213_0 rfl rfl ?_
  refine ar_ldc 3 d_213_1 rfl (v := 40503) rfl ?_
  refine ar_imul 4 d_213_3 rfl ?_
  refine ar_iload_n 5 d_213_4 rfl rfl ?_
  refine ar_sipush 8 (v := 30011) d_213_5 rfl (by decide) ?_
  refine ar_imul 9 d_213_8 rfl ?_
  refine ar_iadd 10 d_213_9 rfl ?_
  refine ar_sipush 13 (v := 12345) d_213_10 rfl (by decide) ?_
  refine ar_iadd 14 d_213_13 rfl ?_
  refine ar_istore_n 15 [(0, .int x), (1, .int y), (2, .int (((x * 40503) + (y * 30011)) + 12345))] d_213_14 rfl (by decide) rfl ?_
  refine ar_iload_n 16 d_213_15 rfl rfl ?_
  refine ar_iload_n 17 d_213_16 rfl rfl ?_
  refine ar_bipush 19 (v := 7) d_213_17 rfl (by decide) ?_
  refine ar_iushr 20 d_213_19 rfl ?_
  refine ar_ixor 21 d_213_20 rfl ?_
  refine ar_ldc 23 d_213_21 rfl (v := 73244475) rfl ?_
  refine ar_imul 24 d_213_23 rfl ?_
  refine ar_istore_n 25 [(0, .int x), (1, .int y), (2, .int (((((x * 40503) + (y * 30011)) + 12345) ^^^ (((((x * 40503) + (y * 30011)) + 12345).toUInt32 >>> ((7 : Int32).toUInt32 &&& Int32.toUInt32 31)).toInt32)) * 73244475))] d_213_24 rfl (by decide) rfl ?_
  refine ar_iload_n 26 d_213_25 rfl rfl ?_
  refine ar_iload_n 27 d_213_26 rfl rfl ?_
  refine ar_bipush 29 (v := 13) d_213_27 rfl (by decide) ?_
  refine ar_iushr 30 d_213_29 rfl ?_
  refine ar_ixor 31 d_213_30 rfl ?_
  refine ar_ldc 33 d_213_31 rfl (v := 19349663) rfl ?_
  refine ar_imul 34 d_213_33 rfl ?_
  refine ar_istore_n 35 [(0, .int x), (1, .int y), (2, .int (((((((x * 40503) + (y * 30011)) + 12345) ^^^ (((((x * 40503) + (y * 30011)) + 12345).toUInt32 >>> ((7 : Int32).toUInt32 &&& Int32.toUInt32 31)).toInt32)) * 73244475) ^^^ (((((((x * 40503) + (y * 30011)) + 12345) ^^^ (((((x * 40503) + (y * 30011)) + 12345).toUInt32 >>> ((7 : Int32).toUInt32 &&& Int32.toUInt32 31)).toInt32)) * 73244475).toUInt32 >>> ((13 : Int32).toUInt32 &&& Int32.toUInt32 31)).toInt32)) * 19349663))] d_213_34 rfl (by decide) rfl ?_
  refine ar_iload_n 36 d_213_35 rfl rfl ?_
  refine ar_iload_n 37 d_213_36 rfl rfl ?_
  refine ar_bipush 39 (v := 16) d_213_37 rfl (by decide) ?_
  refine ar_iushr 40 d_213_39 rfl ?_
  refine ar_ixor 41 d_213_40 rfl ?_
  refine ar_ldc 43 d_213_41 rfl (v := 2147483647) rfl ?_
  refine ar_iand 44 d_213_43 rfl ?_
  exact ar_iret d_213_44 rfl rfl (⟨rfl, rfl⟩)
def strS (lf : Nat → Int32) (b : Nat) : Nat → Nat → Nat → Nat
  | 0, _, r => r
  | k + 1, i, r => if lf (b + i) = 0 then strS lf b k (i + 1) r else strS lf b k (i + 1) (r + 1)
theorem n_207 {L : Nat} {xs : Nat → Int32} {fr lo m : Nat} {h : ax_H} {fs : List Value} {a19 f : Nat} {lf : Nat → Int32} (hf : f < 48) (hg : ax_g h m = some (.inr (11, fs))) (z19 : fs[19]? = some (.ref a19)) (g19 : ax_g h a19 = some (.inl (2, 912, .inl lf))) : ax_M L xs 207 fr lo [.ref m, .int (nI f)] h (fun r h' => r = some (.int (nI (strS lf (19 * f) 19 0 0))) ∧ h' = h) := by
  have key : ∀ (k i y : Nat), i + k = 19 → ax_A (ax_step L xs) ((207, 4, fr, lo), [(0, .ref m), (1, .int (nI f)), (2, .int (nI y)), (3, .int (nI i))], [], h) (fun r h' => r = some (.int (nI (strS lf (19 * f) k i y))) ∧ h' = h) := by
    intro k
    induction k with
    | zero =>
      intro i y hi
      have e0 : i = 19 := by omega
      subst e0
      refine ar_iload_n 5 d_207_4 rfl rfl ?_
      refine ar_bipush 7 (v := 19) d_207_5 rfl (by decide) ?_
      refine ar_top (x' := nI 19) rfl ?_
      refine ar_icmp_ge 38 10 d_207_7 (by decide) rfl (fun _ => ?_) (fun c => absurd (Int32.le_refl _) c)
      refine ar_iload_n 39 d_207_38 rfl rfl ?_
      exact ar_iret d_207_39 rfl rfl (⟨rfl, rfl⟩)
    | succ k ih =>
      intro i y hi
      have hi9 : i < 19 := by omega
      refine ar_iload_n 5 d_207_4 rfl rfl ?_
      refine ar_bipush 7 (v := 19) d_207_5 rfl (by decide) ?_
      refine ar_top (x' := nI 19) rfl ?_
      refine ar_icmp_ge 38 10 d_207_7 (by decide) rfl (fun c => absurd c (nI_ge hi9 (by omega))) (fun _ => ?_)
      refine ar_iload_n 11 d_207_10 rfl rfl ?_
      refine ar_aload_n 12 d_207_11 rfl rfl ?_
      refine ar_getf 15 d_207_12 rfl (ci := 11) (k := 19) rfl hg z19 ?_
      refine ar_bipush 17 (v := 19) d_207_15 rfl (by decide) ?_
      refine ar_iload_n 18 d_207_17 rfl rfl ?_
      refine ar_imul 19 d_207_18 rfl ?_
      refine ar_top (x' := nI (19 * f)) (pk_mul 19 f) ?_
      refine ar_iload_n 20 d_207_19 rfl rfl ?_
      refine ar_iadd 21 d_207_20 rfl ?_
      refine ar_top (x' := nI (19 * f + i)) (nI_add (19 * f) i) ?_
      refine ar_zald 22 d_207_21 rfl g19 (nI_in (by omega) (by omega)) ?_
      refine ar_top (x' := lf (19 * f + i)) (by rw [nI_clamp (by omega)]) ?_
      refine ar_if_eq 29 25 d_207_22 (by decide) rfl (fun c1 => ?_) (fun c1 => ?_)
      · refine ar_iconst 30 (v := 0) d_207_29 rfl (by decide) ?_
        refine ar_iadd 31 d_207_30 rfl ?_
        refine ar_top (x' := nI y) (Int32.add_zero _) ?_
        refine ar_istore_n 32 [(0, .ref m), (1, .int (nI f)), (2, .int (nI y)), (3, .int (nI i))] d_207_31 rfl (by decide) rfl ?_
        refine ar_iinc 35 [(0, .ref m), (1, .int (nI f)), (2, .int (nI y)), (3, .int (nI (i + 1)))] d_207_32 rfl rfl (nI_1 i) (by decide) rfl ?_
        refine ar_goto 4 d_207_35 (by decide) ?_
        rw [show strS lf (19 * f) (k + 1) i y = strS lf (19 * f) k (i + 1) y from if_pos c1]
        exact ih (i + 1) y (by omega)
      · refine ar_iconst 26 (v := 1) d_207_25 rfl (by decide) ?_
        refine ar_goto 30 d_207_26 (by decide) ?_
        refine ar_iadd 31 d_207_30 rfl ?_
        refine ar_top (x' := nI (y + 1)) (nI_1 y) ?_
        refine ar_istore_n 32 [(0, .ref m), (1, .int (nI f)), (2, .int (nI (y + 1))), (3, .int (nI i))] d_207_31 rfl (by decide) rfl ?_
        refine ar_iinc 35 [(0, .ref m), (1, .int (nI f)), (2, .int (nI (y + 1))), (3, .int (nI (i + 1)))] d_207_32 rfl rfl (nI_1 i) (by decide) rfl ?_
        refine ar_goto 4 d_207_35 (by decide) ?_
        rw [show strS lf (19 * f) (k + 1) i y = strS lf (19 * f) k (i + 1) (y + 1) from if_neg c1]
        exact ih (i + 1) (y + 1) (by omega)
  show ax_A (ax_step L xs) ((207, 0, fr, lo), [(0, .ref m), (1, .int (nI f))], [], h) _
  refine ar_iconst 1 (v := 0) d_207_0 rfl (by decide) ?_
  refine ar_istore_n 2 [(0, .ref m), (1, .int (nI f)), (2, .int 0)] d_207_1 rfl (by decide) rfl ?_
  refine ar_iconst 3 (v := 0) d_207_2 rfl (by decide) ?_
  refine ar_istore_n 4 [(0, .ref m), (1, .int (nI f)), (2, .int 0), (3, .int 0)] d_207_3 rfl (by decide) rfl ?_
  exact key 19 0 0 (by omega)
/-- the reference's order of NAMES: byte by byte, then by length -/
def mcmp (ff pf : Nat → Int32) (a b n m : Nat) : Nat → Nat → Int32
  | 0, _ => nI m - nI n
  | k + 1, i => if n ≤ i ∨ m ≤ i then nI m - nI n else if (ff (a + i)) &&& 255 = (pf (b + i)) &&& 255 then mcmp ff pf a b n m k (i + 1) else ((ff (a + i)) &&& 255) - ((pf (b + i)) &&& 255)
theorem n_195 {L : Nat} {xs : Nat → Int32} {fr lo m : Nat} {h : ax_H} {fs : List Value} {a14 a15 a30 a31 f w e n k : Nat} {ff lf pf qf : Nat → Int32} (hf : f < 48) (hw : w < 12) (he : e < 2) (hn : qf (2 * w + e) = nI n) (hn2 : n ≤ 200) (hk : lf f = nI k) (hk2 : k ≤ 200) (hg : ax_g h m = some (.inr (11, fs))) (z14 : fs[14]? = some (.ref a14)) (z15 : fs[15]? = some (.ref a15)) (z30 : fs[30]? = some (.ref a30)) (z31 : fs[31]? = some (.ref a31)) (g14 : ax_g h a14 = some (.inl (1, 9600, .inl ff))) (g15 : ax_g h a15 = some (.inl (0, 48, .inl lf))) (g30 : ax_g h a30 = some (.inl (1, 4800, .inl pf))) (g31 : ax_g h a31 = some (.inl (0, 24, .inl qf))) : ax_M L xs 195 fr lo [.ref m, .int (nI f), .int (nI w), .int (nI e)] h (fun r h' => r = some (.int (mcmp ff pf (200 * f) (400 * w + 200 * e) n k 200 0)) ∧ h' = h) := by
  have key : ∀ (j i : Nat), i + j = 200 → ax_A (ax_step L xs) ((195, 23, fr, lo), [(0, .ref m), (1, .int (nI f)), (2, .int (nI w)), (3, .int (nI e)), (4, .int (nI n)), (5, .int (nI k)), (6, .int (nI i))], [], h) (fun r h' => r = some (.int (mcmp ff pf (200 * f) (400 * w + 200 * e) n k j i)) ∧ h' = h) := by
    intro j
    induction j with
    | zero =>
      intro i hi
      refine ar_iload 25 d_195_23 rfl rfl ?_
      refine ar_iload 27 d_195_25 rfl rfl ?_
      refine ar_icmp_ge 100 30 d_195_27 (by decide) rfl (fun _ => ?_) (fun c => absurd (nI_le (by omega) (by omega)) c)
      refine ar_iload 102 d_195_100 rfl rfl ?_
      refine ar_iload 104 d_195_102 rfl rfl ?_
      refine ar_isub 105 d_195_104 rfl ?_
      exact ar_iret d_195_105 rfl rfl (⟨rfl, rfl⟩)
    | succ j ih =>
      intro i hi
      refine ar_iload 25 d_195_23 rfl rfl ?_
      refine ar_iload 27 d_195_25 rfl rfl ?_
      refine ar_icmp_ge 100 30 d_195_27 (by decide) rfl (fun c1 => ?_) (fun c1 => ?_)
      · refine ar_iload 102 d_195_100 rfl rfl ?_
        refine ar_iload 104 d_195_102 rfl rfl ?_
        refine ar_isub 105 d_195_104 rfl ?_
        exact ar_iret d_195_105 rfl rfl (⟨by rw [show mcmp ff pf (200 * f) (400 * w + 200 * e) n k (j + 1) i = nI k - nI n from if_pos (Or.inl ((nI_leI (by omega) (by omega)).mp c1))], rfl⟩)
      · refine ar_iload 32 d_195_30 rfl rfl ?_
        refine ar_iload 34 d_195_32 rfl rfl ?_
        refine ar_icmp_ge 100 37 d_195_34 (by decide) rfl (fun c2 => ?_) (fun c2 => ?_)
        · refine ar_iload 102 d_195_100 rfl rfl ?_
          refine ar_iload 104 d_195_102 rfl rfl ?_
          refine ar_isub 105 d_195_104 rfl ?_
          exact ar_iret d_195_105 rfl rfl (⟨by rw [show mcmp ff pf (200 * f) (400 * w + 200 * e) n k (j + 1) i = nI k - nI n from if_pos (Or.inr ((nI_leI (by omega) (by omega)).mp c2))], rfl⟩)
        · have k1 : ¬ (n ≤ i ∨ k ≤ i) := fun z => z.elim (fun q => c1 (nI_le q (by omega))) (fun q => c2 (nI_le q (by omega)))
          refine ar_aload_n 38 d_195_37 rfl rfl ?_
          refine ar_getf 41 d_195_38 rfl (ci := 11) (k := 14) rfl hg z14 ?_
          refine ar_sipush 44 (v := 200) d_195_41 rfl (by decide) ?_
          refine ar_iload_n 45 d_195_44 rfl rfl ?_
          refine ar_imul 46 d_195_45 rfl ?_
          refine ar_top (x' := nI (200 * f)) (pk_mul 200 f) ?_
          refine ar_iload 48 d_195_46 rfl rfl ?_
          refine ar_iadd 49 d_195_48 rfl ?_
          refine ar_top (x' := nI (200 * f + i)) (nI_add (200 * f) i) ?_
          refine ar_bald 50 d_195_49 rfl g14 (nI_in (by omega) (by omega)) ?_
          refine ar_top (x' := ff (200 * f + i)) (by rw [nI_clamp (by omega)]) ?_
          refine ar_sipush 53 (v := 255) d_195_50 rfl (by decide) ?_
          refine ar_iand 54 d_195_53 rfl ?_
          refine ar_istore 56 [(0, .ref m), (1, .int (nI f)), (2, .int (nI w)), (3, .int (nI e)), (4, .int (nI n)), (5, .int (nI k)), (6, .int (nI i)), (7, .int ((ff (200 * f + i)) &&& 255))] d_195_54 rfl (by decide) rfl ?_
          refine ar_aload_n 57 d_195_56 rfl rfl ?_
          refine ar_getf 60 d_195_57 rfl (ci := 11) (k := 30) rfl hg z30 ?_
          refine ar_sipush 63 (v := 400) d_195_60 rfl (by decide) ?_
          refine ar_iload_n 64 d_195_63 rfl rfl ?_
          refine ar_imul 65 d_195_64 rfl ?_
          refine ar_top (x' := nI (400 * w)) (pk_mul 400 w) ?_
          refine ar_sipush 68 (v := 200) d_195_65 rfl (by decide) ?_
          refine ar_iload_n 69 d_195_68 rfl rfl ?_
          refine ar_imul 70 d_195_69 rfl ?_
          refine ar_top (x' := nI (200 * e)) (pk_mul 200 e) ?_
          refine ar_iadd 71 d_195_70 rfl ?_
          refine ar_top (x' := nI (400 * w + 200 * e)) (nI_add (400 * w) (200 * e)) ?_
          refine ar_iload 73 d_195_71 rfl rfl ?_
          refine ar_iadd 74 d_195_73 rfl ?_
          refine ar_top (x' := nI (400 * w + 200 * e + i)) (nI_add (400 * w + 200 * e) i) ?_
          refine ar_bald 75 d_195_74 rfl g30 (nI_in (by omega) (by omega)) ?_
          refine ar_top (x' := pf (400 * w + 200 * e + i)) (by rw [nI_clamp (by omega)]) ?_
          refine ar_sipush 78 (v := 255) d_195_75 rfl (by decide) ?_
          refine ar_iand 79 d_195_78 rfl ?_
          refine ar_istore 81 [(0, .ref m), (1, .int (nI f)), (2, .int (nI w)), (3, .int (nI e)), (4, .int (nI n)), (5, .int (nI k)), (6, .int (nI i)), (7, .int ((ff (200 * f + i)) &&& 255)), (8, .int ((pf (400 * w + 200 * e + i)) &&& 255))] d_195_79 rfl (by decide) rfl ?_
          refine ar_iload 83 d_195_81 rfl rfl ?_
          refine ar_iload 85 d_195_83 rfl rfl ?_
          refine ar_icmp_eq 94 88 d_195_85 (by decide) rfl (fun c3 => ?_) (fun c3 => ?_)
          · refine ar_iinc 97 [(0, .ref m), (1, .int (nI f)), (2, .int (nI w)), (3, .int (nI e)), (4, .int (nI n)), (5, .int (nI k)), (6, .int (nI (i + 1))), (7, .int ((ff (200 * f + i)) &&& 255)), (8, .int ((pf (400 * w + 200 * e + i)) &&& 255))] d_195_94 rfl rfl (nI_1 i) (by decide) rfl ?_
            refine ar_goto 23 d_195_97 (by decide) ?_
            refine ar_wk [0, 1, 2, 3, 4, 5, 6] rfl (by simp) ?_
            rw [show mcmp ff pf (200 * f) (400 * w + 200 * e) n k (j + 1) i = mcmp ff pf (200 * f) (400 * w + 200 * e) n k j (i + 1) from (if_neg k1).trans (if_pos c3)]
            exact ih (i + 1) (by omega)
          · refine ar_iload 90 d_195_88 rfl rfl ?_
            refine ar_iload 92 d_195_90 rfl rfl ?_
            refine ar_isub 93 d_195_92 rfl ?_
            exact ar_iret d_195_93 rfl rfl (⟨by rw [show mcmp ff pf (200 * f) (400 * w + 200 * e) n k (j + 1) i = ((ff (200 * f + i)) &&& 255) - ((pf (400 * w + 200 * e + i)) &&& 255) from (if_neg k1).trans (if_neg c3)], rfl⟩)
  show ax_A (ax_step L xs) ((195, 0, fr, lo), [(0, .ref m), (1, .int (nI f)), (2, .int (nI w)), (3, .int (nI e))], [], h) _
  refine ar_aload_n 1 d_195_0 rfl rfl ?_
  refine ar_getf 4 d_195_1 rfl (ci := 11) (k := 31) rfl hg z31 ?_
  refine ar_iconst 5 (v := 2) d_195_4 rfl (by decide) ?_
  refine ar_iload_n 6 d_195_5 rfl rfl ?_
  refine ar_imul 7 d_195_6 rfl ?_
  refine ar_top (x' := nI (2 * w)) (pk_mul 2 w) ?_
  refine ar_iload_n 8 d_195_7 rfl rfl ?_
  refine ar_iadd 9 d_195_8 rfl ?_
  refine ar_top (x' := nI (2 * w + e)) (nI_add (2 * w) e) ?_
  refine ar_iald 10 d_195_9 rfl g31 (nI_in (by omega) (by omega)) ?_
  refine ar_top (x' := nI n) (by rw [nI_clamp (by omega)]; exact hn) ?_
  refine ar_istore 12 [(0, .ref m), (1, .int (nI f)), (2, .int (nI w)), (3, .int (nI e)), (4, .int (nI n))] d_195_10 rfl (by decide) rfl ?_
  refine ar_aload_n 13 d_195_12 rfl rfl ?_
  refine ar_getf 16 d_195_13 rfl (ci := 11) (k := 15) rfl hg z15 ?_
  refine ar_iload_n 17 d_195_16 rfl rfl ?_
  refine ar_iald 18 d_195_17 rfl g15 (nI_in (by omega) (by omega)) ?_
  refine ar_top (x' := nI k) (by rw [nI_clamp (by omega)]; exact hk) ?_
  refine ar_istore 20 [(0, .ref m), (1, .int (nI f)), (2, .int (nI w)), (3, .int (nI e)), (4, .int (nI n)), (5, .int (nI k))] d_195_18 rfl (by decide) rfl ?_
  refine ar_iconst 21 (v := 0) d_195_20 rfl (by decide) ?_
  refine ar_istore 23 [(0, .ref m), (1, .int (nI f)), (2, .int (nI w)), (3, .int (nI e)), (4, .int (nI n)), (5, .int (nI k)), (6, .int 0)] d_195_21 rfl (by decide) rfl ?_
  exact key 200 0 (by omega)


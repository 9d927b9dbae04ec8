/-! bitCount, isKnown, isRoot, find, firstAfter, Bytes.move, Bytes.clear for every state -/
theorem d_110_0 : decode (axt_b 110) 0 = .ok (.iload_n 1, 1) := by decide +kernel
theorem d_110_1 : decode (axt_b 110) 1 = .ok (.istore_n 3, 1) := by decide +kernel
theorem d_110_2 : decode (axt_b 110) 2 = .ok (.iload_n 3, 1) := by decide +kernel
theorem d_110_3 : decode (axt_b 110) 3 = .ok (.iload_n 1, 1) := by decide +kernel
theorem d_110_4 : decode (axt_b 110) 4 = .ok (.iload_n 2, 1) := by decide +kernel
theorem d_110_5 : decode (axt_b 110) 5 = .ok (.iadd, 1) := by decide +kernel
theorem d_110_6 : decode (axt_b 110) 6 = .ok (.if_icmp .ge 32, 3) := by decide +kernel
theorem d_110_9 : decode (axt_b 110) 9 = .ok (.aload_n 0, 1) := by decide +kernel
theorem d_110_10 : decode (axt_b 110) 10 = .ok (.iload_n 3, 1) := by decide +kernel
theorem d_110_11 : decode (axt_b 110) 11 = .ok (.iconst 2, 1) := by decide +kernel
theorem d_110_12 : decode (axt_b 110) 12 = .ok (.ishr, 1) := by decide +kernel
theorem d_110_13 : decode (axt_b 110) 13 = .ok (.dup2, 1) := by decide +kernel
theorem d_110_14 : decode (axt_b 110) 14 = .ok (.iaload, 1) := by decide +kernel
theorem d_110_15 : decode (axt_b 110) 15 = .ok (.sipush 255, 3) := by decide +kernel
theorem d_110_18 : decode (axt_b 110) 18 = .ok (.bipush 24, 2) := by decide +kernel
theorem d_110_20 : decode (axt_b 110) 20 = .ok (.bipush 8, 2) := by decide +kernel
theorem d_110_22 : decode (axt_b 110) 22 = .ok (.iload_n 3, 1) := by decide +kernel
theorem d_110_23 : decode (axt_b 110) 23 = .ok (.iconst 3, 1) := by decide +kernel
theorem d_110_24 : decode (axt_b 110) 24 = .ok (.iand, 1) := by decide +kernel
theorem d_110_25 : decode (axt_b 110) 25 = .ok (.imul, 1) := by decide +kernel
theorem d_110_26 : decode (axt_b 110) 26 = .ok (.isub, 1) := by decide +kernel
theorem d_110_27 : decode (axt_b 110) 27 = .ok (.ishl, 1) := by decide +kernel
theorem d_110_28 : decode (axt_b 110) 28 = .ok (.iconst (-1), 1) := by decide +kernel
theorem d_110_29 : decode (axt_b 110) 29 = .ok (.ixor, 1) := by decide +kernel
theorem d_110_30 : decode (axt_b 110) 30 = .ok (.iand, 1) := by decide +kernel
theorem d_110_31 : decode (axt_b 110) 31 = .ok (.iastore, 1) := by decide +kernel
theorem d_110_32 : decode (axt_b 110) 32 = .ok (.iinc 3 1, 3) := by decide +kernel
theorem d_110_35 : decode (axt_b 110) 35 = .ok (.goto (-33), 3) := by decide +kernel
theorem d_110_38 : decode (axt_b 110) 38 = .ok (.return_, 1) := by decide +kernel
theorem d_140_0 : decode (axt_b 140) 0 = .ok (.iload_n 0, 1) := by decide +kernel
theorem d_140_1 : decode (axt_b 140) 1 = .ok (.iload_n 0, 1) := by decide +kernel
theorem d_140_2 : decode (axt_b 140) 2 = .ok (.iconst 1, 1) := by decide +kernel
theorem d_140_3 : decode (axt_b 140) 3 = .ok (.iushr, 1) := by decide +kernel
theorem d_140_4 : decode (axt_b 140) 4 = .ok (.ldc_w 265, 3) := by decide +kernel
theorem d_140_7 : decode (axt_b 140) 7 = .ok (.iand, 1) := by decide +kernel
theorem d_140_8 : decode (axt_b 140) 8 = .ok (.isub, 1) := by decide +kernel
theorem d_140_9 : decode (axt_b 140) 9 = .ok (.istore_n 0, 1) := by decide +kernel
theorem d_140_10 : decode (axt_b 140) 10 = .ok (.iload_n 0, 1) := by decide +kernel
theorem d_140_11 : decode (axt_b 140) 11 = .ok (.ldc_w 266, 3) := by decide +kernel
theorem d_140_14 : decode (axt_b 140) 14 = .ok (.iand, 1) := by decide +kernel
theorem d_140_15 : decode (axt_b 140) 15 = .ok (.iload_n 0, 1) := by decide +kernel
theorem d_140_16 : decode (axt_b 140) 16 = .ok (.iconst 2, 1) := by decide +kernel
theorem d_140_17 : decode (axt_b 140) 17 = .ok (.iushr, 1) := by decide +kernel
theorem d_140_18 : decode (axt_b 140) 18 = .ok (.ldc_w 266, 3) := by decide +kernel
theorem d_140_21 : decode (axt_b 140) 21 = .ok (.iand, 1) := by decide +kernel
theorem d_140_22 : decode (axt_b 140) 22 = .ok (.iadd, 1) := by decide +kernel
theorem d_140_23 : decode (axt_b 140) 23 = .ok (.istore_n 0, 1) := by decide +kernel
theorem d_140_24 : decode (axt_b 140) 24 = .ok (.iload_n 0, 1) := by decide +kernel
theorem d_140_25 : decode (axt_b 140) 25 = .ok (.iload_n 0, 1) := by decide +kernel
theorem d_140_26 : decode (axt_b 140) 26 = .ok (.iconst 4, 1) := by decide +kernel
theorem d_140_27 : decode (axt_b 140) 27 = .ok (.iushr, 1) := by decide +kernel
theorem d_140_28 : decode (axt_b 140) 28 = .ok (.iadd, 1) := by decide +kernel
theorem d_140_29 : decode (axt_b 140) 29 = .ok (.ldc_w 267, 3) := by decide +kernel
theorem d_140_32 : decode (axt_b 140) 32 = .ok (.iand, 1) := by decide +kernel
theorem d_140_33 : decode (axt_b 140) 33 = .ok (.istore_n 0, 1) := by decide +kernel
theorem d_140_34 : decode (axt_b 140) 34 = .ok (.iload_n 0, 1) := by decide +kernel
theorem d_140_35 : decode (axt_b 140) 35 = .ok (.iload_n 0, 1) := by decide +kernel
theorem d_140_36 : decode (axt_b 140) 36 = .ok (.bipush 8, 2) := by decide +kernel
theorem d_140_38 : decode (axt_b 140) 38 = .ok (.iushr, 1) := by decide +kernel
theorem d_140_39 : decode (axt_b 140) 39 = .ok (.iadd, 1) := by decide +kernel
theorem d_140_40 : decode (axt_b 140) 40 = .ok (.istore_n 0, 1) := by decide +kernel
theorem d_140_41 : decode (axt_b 140) 41 = .ok (.iload_n 0, 1) := by decide +kernel
theorem d_140_42 : decode (axt_b 140) 42 = .ok (.iload_n 0, 1) := by decide +kernel
theorem d_140_43 : decode (axt_b 140) 43 = .ok (.bipush 16, 2) := by decide +kernel
theorem d_140_45 : decode (axt_b 140) 45 = .ok (.iushr, 1) := by decide +kernel
theorem d_140_46 : decode (axt_b 140) 46 = .ok (.iadd, 1) := by decide +kernel
theorem d_140_47 : decode (axt_b 140) 47 = .ok (.istore_n 0, 1) := by decide +kernel
theorem d_140_48 : decode (axt_b 140) 48 = .ok (.iload_n 0, 1) := by decide +kernel
theorem d_140_49 : decode (axt_b 140) 49 = .ok (.bipush 63, 2) := by decide +kernel
theorem d_140_51 : decode (axt_b 140) 51 = .ok (.iand, 1) := by decide +kernel
theorem d_140_52 : decode (axt_b 140) 52 = .ok (.ireturn, 1) := by decide +kernel
def bcL (k : Int64) : Int32 :=
  let y1 : Int64 := k - (((k.toUInt64 >>> ((1 : Int32).toInt64.toUInt64 &&& Int64.toUInt64 63)).toInt64) &&& 6148914691236517205)
  let y2 : Int64 := (y1 &&& 3689348814741910323) + (((y1.toUInt64 >>> ((2 : Int32).toInt64.toUInt64 &&& Int64.toUInt64 63)).toInt64) &&& 3689348814741910323)
  let y3 : Int64 := (y2 + ((y2.toUInt64 >>> ((4 : Int32).toInt64.toUInt64 &&& Int64.toUInt64 63)).toInt64)) &&& 1085102592571150095
  let y4 : Int64 := y3 + ((y3.toUInt64 >>> ((8 : Int32).toInt64.toUInt64 &&& Int64.toUInt64 63)).toInt64)
  let y5 : Int64 := y4 + ((y4.toUInt64 >>> ((16 : Int32).toInt64.toUInt64 &&& Int64.toUInt64 63)).toInt64)
  let y6 : Int64 := y5 + ((y5.toUInt64 >>> ((32 : Int32).toInt64.toUInt64 &&& Int64.toUInt64 63)).toInt64)
  y6.toInt32 &&& 127
theorem c_73E {L : Nat} {xs : Nat → Int32} {fr lo : Nat} {h : ax_H} {k : Int64} : ax_M L xs 73 fr lo [.long k] h (fun r h' => r = some (.int (bcL k)) ∧ h' = h) := by
  show ax_A (ax_step L xs) ((73, 0, fr, lo), [(0, .long k)], [], h) _
  refine ar_lload_n 1 d_73_0 rfl rfl ?_
  refine ar_lload_n 2 d_73_1 rfl rfl ?_
  refine ar_iconst 3 (v := 1) d_73_2 rfl (by decide) ?_
  refine ar_lushr 4 d_73_3 rfl ?_
  refine ar_ldc2_w 7 d_73_4 rfl (v := 6148914691236517205) rfl ?_
  refine ar_land 8 d_73_7 rfl ?_
  refine ar_lsub 9 d_73_8 rfl ?_
  refine ar_lstore_n 10 [(0, .long (k - (((k.toUInt64 >>> ((1 : Int32).toInt64.toUInt64 &&& Int64.toUInt64 63)).toInt64) &&& 6148914691236517205)))] d_73_9 rfl (by decide) rfl ?_
  generalize hy1 : k - (((k.toUInt64 >>> ((1 : Int32).toInt64.toUInt64 &&& Int64.toUInt64 63)).toInt64) &&& 6148914691236517205) = y1
  refine ar_lload_n 11 d_73_10 rfl rfl ?_
  refine ar_ldc2_w 14 d_73_11 rfl (v := 3689348814741910323) rfl ?_
  refine ar_land 15 d_73_14 rfl ?_
  refine ar_lload_n 16 d_73_15 rfl rfl ?_
  refine ar_iconst 17 (v := 2) d_73_16 rfl (by decide) ?_
  refine ar_lushr 18 d_73_17 rfl ?_
  refine ar_ldc2_w 21 d_73_18 rfl (v := 3689348814741910323) rfl ?_
  refine ar_land 22 d_73_21 rfl ?_
  refine ar_ladd 23 d_73_22 rfl ?_
  refine ar_lstore_n 24 [(0, .long ((y1 &&& 3689348814741910323) + (((y1.toUInt64 >>> ((2 : Int32).toInt64.toUInt64 &&& Int64.toUInt64 63)).toInt64) &&& 3689348814741910323)))] d_73_23 rfl (by decide) rfl ?_
  generalize hy2 : (y1 &&& 3689348814741910323) + (((y1.toUInt64 >>> ((2 : Int32).toInt64.toUInt64 &&& Int64.toUInt64 63)).toInt64) &&& 3689348814741910323) = y2
  refine ar_lload_n 25 d_73_24 rfl rfl ?_
  refine ar_lload_n 26 d_73_25 rfl rfl ?_
  refine ar_iconst 27 (v := 4) d_73_26 rfl (by decide) ?_
  refine ar_lushr 28 d_73_27 rfl ?_
  refine ar_ladd 29 d_73_28 rfl ?_
  refine ar_ldc2_w 32 d_73_29 rfl (v := 1085102592571150095) rfl ?_
  refine ar_land 33 d_73_32 rfl ?_
  refine ar_lstore_n 34 [(0, .long ((y2 + ((y2.toUInt64 >>> ((4 : Int32).toInt64.toUInt64 &&& Int64.toUInt64 63)).toInt64)) &&& 1085102592571150095))] d_73_33 rfl (by decide) rfl ?_
  generalize hy3 : (y2 + ((y2.toUInt64 >>> ((4 : Int32).toInt64.toUInt64 &&& Int64.toUInt64 63)).toInt64)) &&& 1085102592571150095 = y3
  refine ar_lload_n 35 d_73_34 rfl rfl ?_
  refine ar_lload_n 36 d_73_35 rfl rfl ?_
  refine ar_bipush 38 (v := 8) d_73_36 rfl (by decide) ?_
  refine ar_lushr 39 d_73_38 rfl ?_
  refine ar_ladd 40 d_73_39 rfl ?_
  refine ar_lstore_n 41 [(0, .long (y3 + ((y3.toUInt64 >>> ((8 : Int32).toInt64.toUInt64 &&& Int64.toUInt64 63)).toInt64)))] d_73_40 rfl (by decide) rfl ?_
  generalize hy4 : y3 + ((y3.toUInt64 >>> ((8 : Int32).toInt64.toUInt64 &&& Int64.toUInt64 63)).toInt64) = y4
  refine ar_lload_n 42 d_73_41 rfl rfl ?_
  refine ar_lload_n 43 d_73_42 rfl rfl ?_
  refine ar_bipush 45 (v := 16) d_73_43 rfl (by decide) ?_
  refine ar_lushr 46 d_73_45 rfl ?_
  refine ar_ladd 47 d_73_46 rfl ?_
  refine ar_lstore_n 48 [(0, .long (y4 + ((y4.toUInt64 >>> ((16 : Int32).toInt64.toUInt64 &&& Int64.toUInt64 63)).toInt64)))] d_73_47 rfl (by decide) rfl ?_
  generalize hy5 : y4 + ((y4.toUInt64 >>> ((16 : Int32).toInt64.toUInt64 &&& Int64.toUInt64 63)).toInt64) = y5
  refine ar_lload_n 49 d_73_48 rfl rfl ?_
  refine ar_lload_n 50 d_73_49 rfl rfl ?_
  refine ar_bipush 52 (v := 32) d_73_50 rfl (by decide) ?_
  refine ar_lushr 53 d_73_52 rfl ?_
  refine ar_ladd 54 d_73_53 rfl ?_
  refine ar_lstore_n 55 [(0, .long (y5 + ((y5.toUInt64 >>> ((32 : Int32).toInt64.toUInt64 &&& Int64.toUInt64 63)).toInt64)))] d_73_54 rfl (by decide) rfl ?_
  generalize hy6 : y5 + ((y5.toUInt64 >>> ((32 : Int32).toInt64.toUInt64 &&& Int64.toUInt64 63)).toInt64) = y6
  refine ar_lload_n 56 d_73_55 rfl rfl ?_
  refine ar_l2i 57 d_73_56 rfl ?_
  refine ar_bipush 59 (v := 127) d_73_57 rfl (by decide) ?_
  refine ar_iand 60 d_73_59 rfl ?_
  exact ar_iret d_73_60 rfl rfl (⟨by subst hy1 hy2 hy3 hy4 hy5 hy6; rfl, rfl⟩)
def bcI (k : Int32) : Int32 :=
  let y1 : Int32 := k - (((k.toUInt32 >>> ((1 : Int32).toUInt32 &&& Int32.toUInt32 31)).toInt32) &&& 1431655765)
  let y2 : Int32 := (y1 &&& 858993459) + (((y1.toUInt32 >>> ((2 : Int32).toUInt32 &&& Int32.toUInt32 31)).toInt32) &&& 858993459)
  let y3 : Int32 := (y2 + ((y2.toUInt32 >>> ((4 : Int32).toUInt32 &&& Int32.toUInt32 31)).toInt32)) &&& 252645135
  let y4 : Int32 := y3 + ((y3.toUInt32 >>> ((8 : Int32).toUInt32 &&& Int32.toUInt32 31)).toInt32)
  let y5 : Int32 := y4 + ((y4.toUInt32 >>> ((16 : Int32).toUInt32 &&& Int32.toUInt32 31)).toInt32)
  y5 &&& 63
theorem c_140E {L : Nat} {xs : Nat → Int32} {fr lo : Nat} {h : ax_H} {k : Int32} : ax_M L xs 140 fr lo [.int k] h (fun r h' => r = some (.int (bcI k)) ∧ h' = h) := by
  show ax_A (ax_step L xs) ((140, 0, fr, lo), [(0, .int k)], [], h) _
  refine ar_iload_n 1 d_140_0 rfl rfl ?_
  refine ar_iload_n 2 d_140_1 rfl rfl ?_
  refine ar_iconst 3 (v := 1) d_140_2 rfl (by decide) ?_
  refine ar_iushr 4 d_140_3 rfl ?_
  refine ar_ldc_w 7 d_140_4 rfl (v := 1431655765) rfl ?_
  refine ar_iand 8 d_140_7 rfl ?_
  refine ar_isub 9 d_140_8 rfl ?_
  refine ar_istore_n 10 [(0, .int (k - (((k.toUInt32 >>> ((1 : Int32).toUInt32 &&& Int32.toUInt32 31)).toInt32) &&& 1431655765)))] d_140_9 rfl (by decide) rfl ?_
  generalize hy1 : k - (((k.toUInt32 >>> ((1 : Int32).toUInt32 &&& Int32.toUInt32 31)).toInt32) &&& 1431655765) = y1
  refine ar_iload_n 11 d_140_10 rfl rfl ?_
  refine ar_ldc_w 14 d_140_11 rfl (v := 858993459) rfl ?_
  refine ar_iand 15 d_140_14 rfl ?_
  refine ar_iload_n 16 d_140_15 rfl rfl ?_
  refine ar_iconst 17 (v := 2) d_140_16 rfl (by decide) ?_
  refine ar_iushr 18 d_140_17 rfl ?_
  refine ar_ldc_w 21 d_140_18 rfl (v := 858993459) rfl ?_
  refine ar_iand 22 d_140_21 rfl ?_
  refine ar_iadd 23 d_140_22 rfl ?_
  refine ar_istore_n 24 [(0, .int ((y1 &&& 858993459) + (((y1.toUInt32 >>> ((2 : Int32).toUInt32 &&& Int32.toUInt32 31)).toInt32) &&& 858993459)))] d_140_23 rfl (by decide) rfl ?_
  generalize hy2 : (y1 &&& 858993459) + (((y1.toUInt32 >>> ((2 : Int32).toUInt32 &&& Int32.toUInt32 31)).toInt32) &&& 858993459) = y2
  refine ar_iload_n 25 d_140_24 rfl rfl ?_
  refine ar_iload_n 26 d_140_25 rfl rfl ?_
  refine ar_iconst 27 (v := 4) d_140_26 rfl (by decide) ?_
  refine ar_iushr 28 d_140_27 rfl ?_
  refine ar_iadd 29 d_140_28 rfl ?_
  refine ar_ldc_w 32 d_140_29 rfl (v := 252645135) rfl ?_
  refine ar_iand 33 d_140_32 rfl ?_
  refine ar_istore_n 34 [(0, .int ((y2 + ((y2.toUInt32 >>> ((4 : Int32).toUInt32 &&& Int32.toUInt32 31)).toInt32)) &&& 252645135))] d_140_33 rfl (by decide) rfl ?_
  generalize hy3 : (y2 + ((y2.toUInt32 >>> ((4 : Int32).toUInt32 &&& Int32.toUInt32 31)).toInt32)) &&& 252645135 = y3
  refine ar_iload_n 35 d_140_34 rfl rfl ?_
  refine ar_iload_n 36 d_140_35 rfl rfl ?_
  refine ar_bipush 38 (v := 8) d_140_36 rfl (by decide) ?_
  refine ar_iushr 39 d_140_38 rfl ?_
  refine ar_iadd 40 d_140_39 rfl ?_
  refine ar_istore_n 41 [(0, .int (y3 + ((y3.toUInt32 >>> ((8 : Int32).toUInt32 &&& Int32.toUInt32 31)).toInt32)))] d_140_40 rfl (by decide) rfl ?_
  generalize hy4 : y3 + ((y3.toUInt32 >>> ((8 : Int32).toUInt32 &&& Int32.toUInt32 31)).toInt32) = y4
  refine ar_iload_n 42 d_140_41 rfl rfl ?_
  refine ar_iload_n 43 d_140_42 rfl rfl ?_
  refine ar_bipush 45 (v := 16) d_140_43 rfl (by decide) ?_
  refine ar_iushr 46 d_140_45 rfl ?_
  refine ar_iadd 47 d_140_46 rfl ?_
  refine ar_istore_n 48 [(0, .int (y4 + ((y4.toUInt32 >>> ((16 : Int32).toUInt32 &&& Int32.toUInt32 31)).toInt32)))] d_140_47 rfl (by decide) rfl ?_
  generalize hy5 : y4 + ((y4.toUInt32 >>> ((16 : Int32).toUInt32 &&& Int32.toUInt32 31)).toInt32) = y5
  refine ar_iload_n 49 d_140_48 rfl rfl ?_
  refine ar_bipush 51 (v := 63) d_140_49 rfl (by decide) ?_
  refine ar_iand 52 d_140_51 rfl ?_
  exact ar_iret d_140_52 rfl rfl (⟨by subst hy1 hy2 hy3 hy4 hy5; rfl, rfl⟩)
def knA (k : Int64) (fl : Int32) : Int32 := if bcL k = fl then 1 else 0
theorem c_72E {L : Nat} {xs : Nat → Int32} {fr lo : Nat} {h : ax_H} {tb a1 a2 a3 a4 a5 a6 a7 : Nat} {g fl an : Int32} {kn : Int64} (hfr : 1 ≤ fr) (hlo : 40 ≤ lo) (gt : ax_g h tb = some (.inr (6, [.int g, .ref a1, .ref a2, .ref a3, .ref a4, .ref a5, .ref a6, .ref a7, .long kn, .int fl, .int an]))) : ax_M L xs 72 fr lo [.ref tb] h (fun r h' => r = some (.int (knA kn fl)) ∧ h' = h) := by
  show ax_A (ax_step L xs) ((72, 0, fr, lo), [(0, .ref tb)], [], h) _
  refine ar_aload_n 1 d_72_0 rfl rfl ?_
  refine ar_getf 4 d_72_1 rfl (ci := 6) (k := 8) rfl gt rfl ?_
  refine ar_call (r := []) (na := 0) (kd := 0) (cm := 73) (fr2 := fr - 1) (lo2 := lo - 21) 7 d_72_4 (ar_hoS (as := [.long kn]) rfl rfl rfl) rfl (by omega) (show lo - 21 + (19 + 2) = lo by omega) (Nat.le_of_ble_eq_true rfl) (Nat.le_of_ble_eq_true rfl) (c_73E) ?_
  intro v hh hq
  obtain ⟨rfl, ehh⟩ := hq
  rw [ehh]
  clear ehh
  refine ar_aload_n 8 d_72_7 rfl rfl ?_
  refine ar_getf 11 d_72_8 rfl (ci := 6) (k := 9) rfl gt rfl ?_
  refine ar_icmp_ne 18 14 d_72_11 (by decide) rfl (fun c1 => ?_) (fun c1 => ?_)
  · refine ar_iconst 19 (v := 0) d_72_18 rfl (by decide) ?_
    exact ar_iret d_72_19 rfl rfl (⟨by rw [show knA kn fl = 0 from if_neg c1], rfl⟩)
  · refine ar_iconst 15 (v := 1) d_72_14 rfl (by decide) ?_
    refine ar_goto 19 d_72_15 (by decide) ?_
    exact ar_iret d_72_19 rfl rfl (⟨by rw [show knA kn fl = 1 from if_pos (Decidable.not_not.mp c1)], rfl⟩)
def rtB (x : Int32) : Int32 := if x / 10240 = 512 then 1 else 0
theorem c_80E {L : Nat} {xs : Nat → Int32} {fr lo : Nat} {h : ax_H} {x : Int32} : ax_M L xs 80 fr lo [.int x] h (fun r h' => r = some (.int (rtB x)) ∧ h' = h) := by
  show ax_A (ax_step L xs) ((80, 0, fr, lo), [(0, .int x)], [], h) _
  refine ar_iload_n 1 d_80_0 rfl rfl ?_
  refine ar_sipush 4 (v := 10240) d_80_1 rfl (by decide) ?_
  refine ar_idiv 5 d_80_4 rfl (by decide) ?_
  refine ar_sipush 8 (v := 512) d_80_5 rfl (by decide) ?_
  refine ar_icmp_ne 15 11 d_80_8 (by decide) rfl (fun c1 => ?_) (fun c1 => ?_)
  · refine ar_iconst 16 (v := 0) d_80_15 rfl (by decide) ?_
    exact ar_iret d_80_16 rfl rfl (⟨by rw [show rtB x = 0 from if_neg c1], rfl⟩)
  · refine ar_iconst 12 (v := 1) d_80_11 rfl (by decide) ?_
    refine ar_goto 16 d_80_12 (by decide) ?_
    exact ar_iret d_80_16 rfl rfl (⟨by rw [show rtB x = 1 from if_pos (Decidable.not_not.mp c1)], rfl⟩)
theorem rtB_or (x : Int32) : (rtB x = 0 ∧ ∀ t : Nat, t < 2 ^ 31 → x = nI t → ¬ t / 10240 = 512) ∨ (rtB x = 1 ∧ ∃ t : Nat, t < 2 ^ 31 ∧ x = nI t ∧ t / 10240 = 512) := by
  by_cases hx : x < 0
  · have hne : ¬ x / 10240 = 512 := fun e => by
      have h0 : (0 : Int32).toInt = 0 := by decide
      have h1 := div_toI (x := x) (c := 10240) (by omega) (by omega) (by rw [Int32.lt_iff_toInt_lt, h0] at hx; exact hx)
      have h2 : (x / nI 10240).toInt = 512 := by
        have e' : x / nI 10240 = 512 := e
        rw [e']
        decide
      omega
    exact Or.inl ⟨if_neg hne, fun t ht e _ => nI_pos ht (e ▸ hx)⟩
  · obtain ⟨t, ht, rfl⟩ := nI_of hx
    have e1 : (nI t : Int32) / 10240 = nI (t / 10240) := pk_div (d := 10240) (by omega) (by omega) (by omega)
    by_cases e : t / 10240 = 512
    · exact Or.inr ⟨if_pos (by rw [e1, e]; rfl), t, ht, rfl, e⟩
    · exact Or.inl ⟨if_neg (fun z => e (nI_inj (b := 512) (by omega) (by omega) (by rw [← e1, z]; rfl))), fun t' ht' e' => by
        rw [← nI_inj ht ht' e']
        exact e⟩
def FD (jf vf : Nat → Int32) (t a : Nat) : Prop := vf a = nI (t % 512) ∧ ((a = 960 ∧ t / 10240 = 512) ∨ (a < 960 ∧ t / 10240 < 512 ∧ ¬ jf (a / 20) < 0 ∧ a % 20 = t / 512 % 20))
theorem TI.fo {Z : ZT} {fl : Int32} {jf zf nf fo vf : Nat → Int32} (hT : TI Z fl jf zf nf fo vf) : ∀ i, i < 512 → (fo i).toNatClampNeg < 48 := fun i hi => by
  rcases hT.1 i hi with e | ⟨f, hf, e, _⟩
  · rw [e]
    decide
  · rw [e, nI_clamp (by omega)]
    exact hf
theorem TI.find {Z : ZT} {fl : Int32} {jf zf nf fo vf : Nat → Int32} (hT : TI Z fl jf zf nf fo vf) (t : Nat) : tfind fo vf t = -1 ∨ ∃ a : Nat, a < 961 ∧ tfind fo vf t = nI a ∧ FD jf vf t a := by
  unfold tfind
  split
  · next h1 =>
    split
    · next h2 => exact Or.inr ⟨960, by omega, rfl, h2, Or.inl ⟨rfl, h1⟩⟩
    · exact Or.inl rfl
  · split
    · next h1 h2 =>
      obtain ⟨f, hf, e, e2⟩ := (hT.1 _ h2.1).resolve_left (fun z => h2.2 (by rw [z]; decide))
      rw [e, nI_clamp (by omega)]
      have h5 : t / 512 % 20 < 20 := Nat.mod_lt _ (by decide)
      split
      · next h3 => exact Or.inr ⟨f * 20 + t / 512 % 20, by omega, rfl, h3, Or.inr ⟨by omega, h2.1, by rw [show (f * 20 + t / 512 % 20) / 20 = f by omega, e2]; exact nI_pos (by omega), by omega⟩⟩
      · exact Or.inl rfl
    · exact Or.inl rfl
theorem TI.grp {Z : ZT} {fl : Int32} {jf zf nf fo vf : Nat → Int32} (hT : TI Z fl jf zf nf fo vf) {a : Nat} (ha : a < 961) (h : a = 960 ∨ ¬ jf (a / 20) < 0) : ¬ (a = 960 ∨ a % 20 = 19) → ¬ jf (a / 20) < 0 ∧ (jf (a / 20)).toNatClampNeg < 512 := fun z => by
  have h1 : ¬ jf (a / 20) < 0 := h.resolve_left (fun e => z (Or.inl e))
  refine ⟨h1, ?_⟩
  obtain ⟨i, hi, e⟩ := (hT.2.1 (a / 20) (by omega)).resolve_left (fun e => h1 (by rw [e]; decide))
  rw [e, nI_clamp (by omega)]
  exact hi
theorem FD.id {jf vf : Nat → Int32} {t a : Nat} (h : FD jf vf t a) : a = 960 ∨ ¬ jf (a / 20) < 0 := by
  rcases h.2 with h1 | h1
  · exact Or.inl h1.1
  · exact Or.inr h1.2.2.1
theorem grp_lt (jf : Nat → Int32) {G : Nat} (hG : 0 < G) (a : Nat) : grp jf G a < G := by
  unfold grp
  split
  · exact hG
  · exact Nat.mod_lt _ hG

def fndI (fo vf : Nat → Int32) (x : Int32) : Int32 := if x < 0 then -1 else tfind fo vf x.toNatClampNeg
theorem c_77E {L : Nat} {xs : Nat → Int32} {fr lo : Nat} {h : ax_H} {tb a1 a2 a3 a4 a5 a6 a7 : Nat} {g fl an : Int32} {kn : Int64} {Z : ZT} {jf zf nf fo vf : Nat → Int32} {x : Int32} (hT : TI Z fl jf zf nf fo vf) (gt : ax_g h tb = some (.inr (6, [.int g, .ref a1, .ref a2, .ref a3, .ref a4, .ref a5, .ref a6, .ref a7, .long kn, .int fl, .int an]))) (g5 : ax_g h a5 = some (.inl (0, 512, .inl fo))) (g6 : ax_g h a6 = some (.inl (0, 961, .inl vf))) : ax_M L xs 77 fr lo [.ref tb, .int x] h (fun r h' => r = some (.int (fndI fo vf x)) ∧ h' = h) := by
  by_cases hx : x < 0
  · refine ax_A.post (c_77M hx) (fun r h' hq => ?_)
    exact ⟨by rw [hq.1, show fndI fo vf x = -1 from if_pos hx], hq.2⟩
  · obtain ⟨t, ht, rfl⟩ := nI_of hx
    refine ax_A.post (c_77 ht hT.fo gt g5 g6) (fun r h' hq => ?_)
    refine ⟨?_, hq.2⟩
    rw [hq.1, show fndI fo vf (nI t) = tfind fo vf (nI t).toNatClampNeg from if_neg hx, nI_clamp ht]
theorem TI.fnd2 {Z : ZT} {fl : Int32} {jf zf nf fo vf : Nat → Int32} (hT : TI Z fl jf zf nf fo vf) (x : Int32) : fndI fo vf x = -1 ∨ ∃ t a : Nat, t < 2 ^ 31 ∧ x = nI t ∧ a < 961 ∧ fndI fo vf x = nI a ∧ FD jf vf t a := by
  by_cases hx : x < 0
  · exact Or.inl (if_pos hx)
  · obtain ⟨t, ht, rfl⟩ := nI_of hx
    have e0 : fndI fo vf (nI t) = tfind fo vf t := by
      rw [show fndI fo vf (nI t) = tfind fo vf (nI t).toNatClampNeg from if_neg hx, nI_clamp ht]
    rcases hT.find t with e | ⟨a, ha, e, e2⟩
    · exact Or.inl (e0.trans e)
    · exact Or.inr ⟨t, a, ht, rfl, ha, e0.trans e, e2⟩
def sfB (fm jf vf hv : Nat → Int32) (gg a : Nat) : Int32 := if 0 ≤ vf a ∧ ¬ fm (grp jf gg a) = 0 ∧ hv a &&& fm (grp jf gg a) = fm (grp jf gg a) then 1 else 0
theorem c_74E {L : Nat} {xs : Nat → Int32} {fr lo : Nat} {h : ax_H} {ld rk nt tb wk ma sp a1 a2 a3 a4 a5 a6 a7 gg a : Nat} {me ep st hd cl ni tu md fl an : Int32} {ak kn : Int64} {Z : ZT} {fm jf zf nf fo vf hv : Nat → Int32} (hfr : 1 ≤ fr) (hlo : 40 ≤ lo) (hg1 : 0 < gg) (hgg : gg ≤ 16) (ha : a < 961) (hT : TI Z fl jf zf nf fo vf) (hj : a = 960 ∨ ¬ jf (a / 20) < 0) (gl : ax_g h ld = some (.inr (9, [.int me, .ref rk, .ref nt, .ref tb, .ref wk, .ref ma, .ref sp, .int ep, .int st, .int hd, .int cl, .long ak, .int ni, .int tu, .int md]))) (gt : ax_g h tb = some (.inr (6, [.int (nI gg), .ref a1, .ref a2, .ref a3, .ref a4, .ref a5, .ref a6, .ref a7, .long kn, .int fl, .int an]))) (gm : ax_g h ma = some (.inl (0, 16, .inl fm))) (g1 : ax_g h a1 = some (.inl (0, 48, .inl jf))) (g6 : ax_g h a6 = some (.inl (0, 961, .inl vf))) (g7 : ax_g h a7 = some (.inl (0, 961, .inl hv))) : ax_M L xs 74 fr lo [.ref ld, .int (nI a)] h (fun r h' => r = some (.int (sfB fm jf vf hv gg a)) ∧ h' = h) := by
  show ax_A (ax_step L xs) ((74, 0, fr, lo), [(0, .ref ld), (1, .int (nI a))], [], h) _
  refine ar_aload_n 1 d_74_0 rfl rfl ?_
  refine ar_getf 4 d_74_1 rfl (ci := 9) (k := 5) rfl gl rfl ?_
  refine ar_aload_n 5 d_74_4 rfl rfl ?_
  refine ar_getf 8 d_74_5 rfl (ci := 9) (k := 3) rfl gl rfl ?_
  refine ar_iload_n 9 d_74_8 rfl rfl ?_
  refine ar_call (r := [.ref ma]) (na := 0) (kd := 0) (cm := 75) (fr2 := fr - 1) (lo2 := lo - 22) 12 d_74_9 (ar_hoV (as := [.int (nI a)]) rfl rfl rfl gt) rfl (by omega) (show lo - 22 + (19 + 3) = lo by omega) (Nat.le_of_ble_eq_true rfl) (Nat.le_of_ble_eq_true rfl) (c_75 ha (by omega) hgg (hT.grp ha hj) gt g1) ?_
  intro v hh hq
  obtain ⟨rfl, ehh⟩ := hq
  rw [ehh]
  clear ehh
  have hg := grp_lt jf (show 0 < gg by omega) a
  refine ar_iald 13 d_74_12 rfl gm (vin (by omega) (by omega)) ?_
  refine ar_top (x' := fm (grp jf gg a)) (by rw [nI_clamp (by omega)]) ?_
  refine ar_istore_n 14 [(0, .ref ld), (1, .int (nI a)), (2, .int (fm (grp jf gg a)))] d_74_13 rfl (by decide) rfl ?_
  refine ar_aload_n 15 d_74_14 rfl rfl ?_
  refine ar_getf 18 d_74_15 rfl (ci := 9) (k := 3) rfl gl rfl ?_
  refine ar_getf 21 d_74_18 rfl (ci := 6) (k := 6) rfl gt rfl ?_
  refine ar_iload_n 22 d_74_21 rfl rfl ?_
  refine ar_iald 23 d_74_22 rfl g6 (vin ha (by omega)) ?_
  refine ar_top (x' := vf a) (by rw [nI_clamp (by omega)]) ?_
  refine ar_if_lt 49 26 d_74_23 (by decide) rfl (fun c1 => ?_) (fun c1 => ?_)
  · refine ar_iconst 50 (v := 0) d_74_49 rfl (by decide) ?_
    exact ar_iret d_74_50 rfl rfl (⟨by rw [show sfB fm jf vf hv gg a = 0 from if_neg (fun z => absurd c1 (Int32.not_lt.mpr z.1))], rfl⟩)
  · refine ar_iload_n 27 d_74_26 rfl rfl ?_
    refine ar_if_eq 49 30 d_74_27 (by decide) rfl (fun c2 => ?_) (fun c2 => ?_)
    · refine ar_iconst 50 (v := 0) d_74_49 rfl (by decide) ?_
      exact ar_iret d_74_50 rfl rfl (⟨by rw [show sfB fm jf vf hv gg a = 0 from if_neg (fun z => z.2.1 c2)], rfl⟩)
    · refine ar_aload_n 31 d_74_30 rfl rfl ?_
      refine ar_getf 34 d_74_31 rfl (ci := 9) (k := 3) rfl gl rfl ?_
      refine ar_getf 37 d_74_34 rfl (ci := 6) (k := 7) rfl gt rfl ?_
      refine ar_iload_n 38 d_74_37 rfl rfl ?_
      refine ar_iald 39 d_74_38 rfl g7 (vin ha (by omega)) ?_
      refine ar_top (x' := hv a) (by rw [nI_clamp (by omega)]) ?_
      refine ar_iload_n 40 d_74_39 rfl rfl ?_
      refine ar_iand 41 d_74_40 rfl ?_
      refine ar_iload_n 42 d_74_41 rfl rfl ?_
      refine ar_icmp_ne 49 45 d_74_42 (by decide) rfl (fun c3 => ?_) (fun c3 => ?_)
      · refine ar_iconst 50 (v := 0) d_74_49 rfl (by decide) ?_
        exact ar_iret d_74_50 rfl rfl (⟨by rw [show sfB fm jf vf hv gg a = 0 from if_neg (fun z => c3 z.2.2)], rfl⟩)
      · refine ar_iconst 46 (v := 1) d_74_45 rfl (by decide) ?_
        refine ar_goto 50 d_74_46 (by decide) ?_
        exact ar_iret d_74_50 rfl rfl (⟨by rw [show sfB fm jf vf hv gg a = 1 from if_pos (⟨Int32.not_lt.mp c1, c2, Decidable.not_not.mp c3⟩)], rfl⟩)

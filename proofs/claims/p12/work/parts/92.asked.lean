/-! Bytes.at; Asked: changes, readFrom, writeTo, exactly -/
theorem d_69_0 : decode (axt_b 69) 0 = .ok (.aload_n 0, 1) := by decide +kernel
theorem d_69_1 : decode (axt_b 69) 1 = .ok (.aload_n 1, 1) := by decide +kernel
theorem d_69_2 : decode (axt_b 69) 2 = .ok (.getfield 19, 3) := by decide +kernel
theorem d_69_5 : decode (axt_b 69) 5 = .ok (.putfield 15, 3) := by decide +kernel
theorem d_69_8 : decode (axt_b 69) 8 = .ok (.aload_n 0, 1) := by decide +kernel
theorem d_69_9 : decode (axt_b 69) 9 = .ok (.aload_n 1, 1) := by decide +kernel
theorem d_69_10 : decode (axt_b 69) 10 = .ok (.getfield 24, 3) := by decide +kernel
theorem d_69_13 : decode (axt_b 69) 13 = .ok (.iconst 0, 1) := by decide +kernel
theorem d_69_14 : decode (axt_b 69) 14 = .ok (.iaload, 1) := by decide +kernel
theorem d_69_15 : decode (axt_b 69) 15 = .ok (.putfield 27, 3) := by decide +kernel
theorem d_69_18 : decode (axt_b 69) 18 = .ok (.aload_n 0, 1) := by decide +kernel
theorem d_69_19 : decode (axt_b 69) 19 = .ok (.aload_n 1, 1) := by decide +kernel
theorem d_69_20 : decode (axt_b 69) 20 = .ok (.getfield 24, 3) := by decide +kernel
theorem d_69_23 : decode (axt_b 69) 23 = .ok (.iconst 1, 1) := by decide +kernel
theorem d_69_24 : decode (axt_b 69) 24 = .ok (.iaload, 1) := by decide +kernel
theorem d_69_25 : decode (axt_b 69) 25 = .ok (.putfield 30, 3) := by decide +kernel
theorem d_69_28 : decode (axt_b 69) 28 = .ok (.aload_n 0, 1) := by decide +kernel
theorem d_69_29 : decode (axt_b 69) 29 = .ok (.aload_n 1, 1) := by decide +kernel
theorem d_69_30 : decode (axt_b 69) 30 = .ok (.getfield 24, 3) := by decide +kernel
theorem d_69_33 : decode (axt_b 69) 33 = .ok (.iconst 2, 1) := by decide +kernel
theorem d_69_34 : decode (axt_b 69) 34 = .ok (.iaload, 1) := by decide +kernel
theorem d_69_35 : decode (axt_b 69) 35 = .ok (.putfield 33, 3) := by decide +kernel
theorem d_69_38 : decode (axt_b 69) 38 = .ok (.aload_n 0, 1) := by decide +kernel
theorem d_69_39 : decode (axt_b 69) 39 = .ok (.aload_n 1, 1) := by decide +kernel
theorem d_69_40 : decode (axt_b 69) 40 = .ok (.getfield 24, 3) := by decide +kernel
theorem d_69_43 : decode (axt_b 69) 43 = .ok (.iconst 3, 1) := by decide +kernel
theorem d_69_44 : decode (axt_b 69) 44 = .ok (.iaload, 1) := by decide +kernel
theorem d_69_45 : decode (axt_b 69) 45 = .ok (.putfield 36, 3) := by decide +kernel
theorem d_69_48 : decode (axt_b 69) 48 = .ok (.aload_n 0, 1) := by decide +kernel
theorem d_69_49 : decode (axt_b 69) 49 = .ok (.aload_n 1, 1) := by decide +kernel
theorem d_69_50 : decode (axt_b 69) 50 = .ok (.getfield 24, 3) := by decide +kernel
theorem d_69_53 : decode (axt_b 69) 53 = .ok (.iconst 4, 1) := by decide +kernel
theorem d_69_54 : decode (axt_b 69) 54 = .ok (.iaload, 1) := by decide +kernel
theorem d_69_55 : decode (axt_b 69) 55 = .ok (.putfield 39, 3) := by decide +kernel
theorem d_69_58 : decode (axt_b 69) 58 = .ok (.aload_n 1, 1) := by decide +kernel
theorem d_69_59 : decode (axt_b 69) 59 = .ok (.getfield 24, 3) := by decide +kernel
theorem d_69_62 : decode (axt_b 69) 62 = .ok (.iconst 5, 1) := by decide +kernel
theorem d_69_63 : decode (axt_b 69) 63 = .ok (.aload_n 0, 1) := by decide +kernel
theorem d_69_64 : decode (axt_b 69) 64 = .ok (.getfield 9, 3) := by decide +kernel
theorem d_69_67 : decode (axt_b 69) 67 = .ok (.iconst 0, 1) := by decide +kernel
theorem d_69_68 : decode (axt_b 69) 68 = .ok (.bipush 100, 2) := by decide +kernel
theorem d_69_70 : decode (axt_b 69) 70 = .ok (.aload_n 0, 1) := by decide +kernel
theorem d_69_71 : decode (axt_b 69) 71 = .ok (.getfield 15, 3) := by decide +kernel
theorem d_69_74 : decode (axt_b 69) 74 = .ok (.iconst 3, 1) := by decide +kernel
theorem d_69_75 : decode (axt_b 69) 75 = .ok (.iadd, 1) := by decide +kernel
theorem d_69_76 : decode (axt_b 69) 76 = .ok (.iconst 4, 1) := by decide +kernel
theorem d_69_77 : decode (axt_b 69) 77 = .ok (.idiv, 1) := by decide +kernel
theorem d_69_78 : decode (axt_b 69) 78 = .ok (.iadd, 1) := by decide +kernel
theorem d_69_79 : decode (axt_b 69) 79 = .ok (.invokestatic 42, 3) := by decide +kernel
theorem d_69_82 : decode (axt_b 69) 82 = .ok (.return_, 1) := by decide +kernel
theorem d_162_0 : decode (axt_b 162) 0 = .ok (.aload_n 0, 1) := by decide +kernel
theorem d_162_1 : decode (axt_b 162) 1 = .ok (.iload_n 1, 1) := by decide +kernel
theorem d_162_2 : decode (axt_b 162) 2 = .ok (.iconst 2, 1) := by decide +kernel
theorem d_162_3 : decode (axt_b 162) 3 = .ok (.ishr, 1) := by decide +kernel
theorem d_162_4 : decode (axt_b 162) 4 = .ok (.iaload, 1) := by decide +kernel
theorem d_162_5 : decode (axt_b 162) 5 = .ok (.bipush 24, 2) := by decide +kernel
theorem d_162_7 : decode (axt_b 162) 7 = .ok (.bipush 8, 2) := by decide +kernel
theorem d_162_9 : decode (axt_b 162) 9 = .ok (.iload_n 1, 1) := by decide +kernel
theorem d_162_10 : decode (axt_b 162) 10 = .ok (.iconst 3, 1) := by decide +kernel
theorem d_162_11 : decode (axt_b 162) 11 = .ok (.iand, 1) := by decide +kernel
theorem d_162_12 : decode (axt_b 162) 12 = .ok (.imul, 1) := by decide +kernel
theorem d_162_13 : decode (axt_b 162) 13 = .ok (.isub, 1) := by decide +kernel
theorem d_162_14 : decode (axt_b 162) 14 = .ok (.iushr, 1) := by decide +kernel
theorem d_162_15 : decode (axt_b 162) 15 = .ok (.sipush 255, 3) := by decide +kernel
theorem d_162_18 : decode (axt_b 162) 18 = .ok (.iand, 1) := by decide +kernel
theorem d_162_19 : decode (axt_b 162) 19 = .ok (.ireturn, 1) := by decide +kernel
/-- byte k of words -/
def bytA (f : Nat → Int32) (k : Nat) : Int32 := (((f (k / 4)).toUInt32 >>> ((24 - (8 * ((nI k) &&& 3))).toUInt32 &&& Int32.toUInt32 31)).toInt32) &&& 255
theorem c_162 {L : Nat} {xs : Nat → Int32} {fr lo : Nat} {h : ax_H} {a N k : Nat} {f : Nat → Int32} (hN : N < 2 ^ 29) (hk : k / 4 < N) (ga : ax_g h a = some (.inl (0, N, .inl f))) : ax_M L xs 162 fr lo [.ref a, .int (nI k)] h (fun r h' => r = some (.int (bytA f k)) ∧ h' = h) := by
  show ax_A (ax_step L xs) ((162, 0, fr, lo), [(0, .ref a), (1, .int (nI k))], [], h) _
  refine ar_aload_n 1 d_162_0 rfl rfl ?_
  refine ar_iload_n 2 d_162_1 rfl rfl ?_
  refine ar_iconst 3 (v := 2) d_162_2 rfl (by decide) ?_
  refine ar_ishr 4 d_162_3 rfl ?_
  refine ar_top (x' := nI (k / 4)) (shr2 (by omega)) ?_
  refine ar_iald 5 d_162_4 rfl ga (nI_in (by omega) (by omega)) ?_
  refine ar_top (x' := f (k / 4)) (by rw [nI_clamp (by omega)]) ?_
  refine ar_bipush 7 (v := 24) d_162_5 rfl (by decide) ?_
  refine ar_bipush 9 (v := 8) d_162_7 rfl (by decide) ?_
  refine ar_iload_n 10 d_162_9 rfl rfl ?_
  refine ar_iconst 11 (v := 3) d_162_10 rfl (by decide) ?_
  refine ar_iand 12 d_162_11 rfl ?_
  refine ar_imul 13 d_162_12 rfl ?_
  refine ar_isub 14 d_162_13 rfl ?_
  refine ar_iushr 15 d_162_14 rfl ?_
  refine ar_sipush 18 (v := 255) d_162_15 rfl (by decide) ?_
  refine ar_iand 19 d_162_18 rfl ?_
  exact ar_iret d_162_19 rfl rfl (⟨rfl, rfl⟩)
theorem c_54 {L : Nat} {xs : Nat → Int32} {fr lo : Nat} {h : ax_H} {ao wd : Nat} {k0 k1 k2 k3 k4 k5 k6 : Int32} (ga : ax_g h ao = some (.inr (5, [.int k0, .int k1, .int k2, .int k3, .int k4, .int k5, .int k6, .ref wd]))) : ax_M L xs 54 fr lo [.ref ao] h (fun r h' => r = some (.int (if k0 = 4 ∨ k0 = 8 ∨ k0 = 9 then 0 else 1)) ∧ h' = h) := by
  show ax_A (ax_step L xs) ((54, 0, fr, lo), [(0, .ref ao)], [], h) _
  refine ar_aload_n 1 d_54_0 rfl rfl ?_
  refine ar_getf 4 d_54_1 rfl (ci := 5) (k := 0) rfl ga rfl ?_
  refine ar_iconst 5 (v := 4) d_54_4 rfl (by decide) ?_
  refine ar_icmp_eq 30 8 d_54_5 (by decide) rfl (fun c1 => ?_) (fun c1 => ?_)
  · refine ar_iconst 31 (v := 0) d_54_30 rfl (by decide) ?_
    exact ar_iret d_54_31 rfl rfl (⟨by rw [if_pos (Or.inl c1)], rfl⟩)
  · refine ar_aload_n 9 d_54_8 rfl rfl ?_
    refine ar_getf 12 d_54_9 rfl (ci := 5) (k := 0) rfl ga rfl ?_
    refine ar_bipush 14 (v := 8) d_54_12 rfl (by decide) ?_
    refine ar_icmp_eq 30 17 d_54_14 (by decide) rfl (fun c2 => ?_) (fun c2 => ?_)
    · refine ar_iconst 31 (v := 0) d_54_30 rfl (by decide) ?_
      exact ar_iret d_54_31 rfl rfl (⟨by rw [if_pos (Or.inr (Or.inl c2))], rfl⟩)
    · refine ar_aload_n 18 d_54_17 rfl rfl ?_
      refine ar_getf 21 d_54_18 rfl (ci := 5) (k := 0) rfl ga rfl ?_
      refine ar_bipush 23 (v := 9) d_54_21 rfl (by decide) ?_
      refine ar_icmp_eq 30 26 d_54_23 (by decide) rfl (fun c3 => ?_) (fun c3 => ?_)
      · refine ar_iconst 31 (v := 0) d_54_30 rfl (by decide) ?_
        exact ar_iret d_54_31 rfl rfl (⟨by rw [if_pos (Or.inr (Or.inr c3))], rfl⟩)
      · refine ar_iconst 27 (v := 1) d_54_26 rfl (by decide) ?_
        refine ar_goto 31 d_54_27 (by decide) ?_
        exact ar_iret d_54_31 rfl rfl (⟨by rw [if_neg (fun z => z.elim c1 (fun q => q.elim c2 c3))], rfl⟩)
theorem c_69 {L : Nat} {xs : Nat → Int32} {fr lo : Nat} {h : ax_H} {n sl : Nat} {ao wd mm mb l : Nat} {k0 k1 k2 k3 k4 k5 k6 u0 u1 u2 u3 u4 u5 u6 : Int32} {wf bf : Nat → Int32} (hfr : 1 ≤ fr) (hlo : 30 ≤ lo) (hl : l ≤ 2048) (hF : ax_hs h [(ao, .inr (5, [.int k0, .int k1, .int k2, .int k3, .int k4, .int k5, .int k6, .ref wd])), (wd, .inl (0, 612, .inl wf)), (mm, .inr (2, [.int u0, .int u1, .int u2, .int u3, .int u4, .int u5, .int u6, .int (nI l), .ref mb])), (mb, .inl (0, 617, .inl bf))]) (hn : h.1 = n) (hs : h.2.1 = sl) (hn0 : 0 < n) : ax_M L xs 69 fr lo [.ref ao, .ref mm] h (fun r h' => r = none ∧ ax_hs h' [(ao, .inr (5, [.int (bf 0), .int (bf 1), .int (bf 2), .int (bf 3), .int (bf 4), .int (nI l), .int k6, .ref wd])), (wd, .inl (0, 612, .inl (va_cpy bf wf 5 0 (100 + (l + 3) / 4)))), (mm, .inr (2, [.int u0, .int u1, .int u2, .int u3, .int u4, .int u5, .int u6, .int (nI l), .ref mb])), (mb, .inl (0, 617, .inl bf))] ∧ h'.1 = n ∧ h'.2.1 = sl ∧ ax_fr (fun x => x ∈ [ao, wd]) h h') := by
  show ax_A (ax_step L xs) ((69, 0, fr, lo), [(0, .ref ao), (1, .ref mm)], [], h) _
  have hbase : h.1 = n := hn
  have hbasl : h.2.1 = sl := hs
  have hf : ax_fr (fun x => x ∈ [ao, wd]) h h := ax_fr.rf
  refine ar_aload_n 1 d_69_0 rfl rfl ?_
  refine ar_aload_n 2 d_69_1 rfl rfl ?_
  refine ar_getf 5 d_69_2 rfl (ci := 2) (k := 7) rfl (hF.at 2 rfl) rfl ?_
  refine ar_putf 8 [.int k0, .int k1, .int k2, .int k3, .int k4, .int (nI l), .int k6, .ref wd] d_69_5 rfl (ci := 5) (k := 5) rfl rfl (hF.at 0 rfl) (Nat.le_of_ble_eq_true rfl) rfl rfl rfl ?_
  replace hF : ax_hs (ax_put h ao (.inr (5, [.int k0, .int k1, .int k2, .int k3, .int k4, .int (nI l), .int k6, .ref wd]))) [(ao, .inr (5, [.int k0, .int k1, .int k2, .int k3, .int k4, .int (nI l), .int k6, .ref wd])), (wd, .inl (0, 612, .inl wf)), (mm, .inr (2, [.int u0, .int u1, .int u2, .int u3, .int u4, .int u5, .int u6, .int (nI l), .ref mb])), (mb, .inl (0, 617, .inl bf))] := hF.put 0 _ rfl rfl
  replace hf := hf.put (a := ao) (c := .inr (5, [.int k0, .int k1, .int k2, .int k3, .int k4, .int (nI l), .int k6, .ref wd])) (by simp)
  replace hn : (ax_put h ao (.inr (5, [.int k0, .int k1, .int k2, .int k3, .int k4, .int (nI l), .int k6, .ref wd]))).1 = n := hn
  replace hs : (ax_put h ao (.inr (5, [.int k0, .int k1, .int k2, .int k3, .int k4, .int (nI l), .int k6, .ref wd]))).2.1 = sl := hs
  generalize ax_put h ao (.inr (5, [.int k0, .int k1, .int k2, .int k3, .int k4, .int (nI l), .int k6, .ref wd])) = h1 at hF hf hn hs ⊢
  refine ar_aload_n 9 d_69_8 rfl rfl ?_
  refine ar_aload_n 10 d_69_9 rfl rfl ?_
  refine ar_getf 13 d_69_10 rfl (ci := 2) (k := 8) rfl (hF.at 2 rfl) rfl ?_
  refine ar_iconst 14 (v := 0) d_69_13 rfl (by decide) ?_
  refine ar_iald 15 d_69_14 rfl (hF.at 3 rfl) (vin (i := 0) (by decide) (by decide)) ?_
  refine ar_putf 18 [.int (bf ((0 : Int32).toNatClampNeg)), .int k1, .int k2, .int k3, .int k4, .int (nI l), .int k6, .ref wd] d_69_15 rfl (ci := 5) (k := 0) rfl rfl (hF.at 0 rfl) (Nat.le_of_ble_eq_true rfl) rfl rfl rfl ?_
  replace hF : ax_hs (ax_put h1 ao (.inr (5, [.int (bf ((0 : Int32).toNatClampNeg)), .int k1, .int k2, .int k3, .int k4, .int (nI l), .int k6, .ref wd]))) [(ao, .inr (5, [.int (bf ((0 : Int32).toNatClampNeg)), .int k1, .int k2, .int k3, .int k4, .int (nI l), .int k6, .ref wd])), (wd, .inl (0, 612, .inl wf)), (mm, .inr (2, [.int u0, .int u1, .int u2, .int u3, .int u4, .int u5, .int u6, .int (nI l), .ref mb])), (mb, .inl (0, 617, .inl bf))] := hF.put 0 _ rfl rfl
  replace hf := hf.put (a := ao) (c := .inr (5, [.int (bf ((0 : Int32).toNatClampNeg)), .int k1, .int k2, .int k3, .int k4, .int (nI l), .int k6, .ref wd])) (by simp)
  replace hn : (ax_put h1 ao (.inr (5, [.int (bf ((0 : Int32).toNatClampNeg)), .int k1, .int k2, .int k3, .int k4, .int (nI l), .int k6, .ref wd]))).1 = n := hn
  replace hs : (ax_put h1 ao (.inr (5, [.int (bf ((0 : Int32).toNatClampNeg)), .int k1, .int k2, .int k3, .int k4, .int (nI l), .int k6, .ref wd]))).2.1 = sl := hs
  generalize ax_put h1 ao (.inr (5, [.int (bf ((0 : Int32).toNatClampNeg)), .int k1, .int k2, .int k3, .int k4, .int (nI l), .int k6, .ref wd])) = h2 at hF hf hn hs ⊢
  refine ar_aload_n 19 d_69_18 rfl rfl ?_
  refine ar_aload_n 20 d_69_19 rfl rfl ?_
  refine ar_getf 23 d_69_20 rfl (ci := 2) (k := 8) rfl (hF.at 2 rfl) rfl ?_
  refine ar_iconst 24 (v := 1) d_69_23 rfl (by decide) ?_
  refine ar_iald 25 d_69_24 rfl (hF.at 3 rfl) (vin (i := 1) (by decide) (by decide)) ?_
  refine ar_putf 28 [.int (bf ((0 : Int32).toNatClampNeg)), .int (bf ((1 : Int32).toNatClampNeg)), .int k2, .int k3, .int k4, .int (nI l), .int k6, .ref wd] d_69_25 rfl (ci := 5) (k := 1) rfl rfl (hF.at 0 rfl) (Nat.le_of_ble_eq_true rfl) rfl rfl rfl ?_
  replace hF : ax_hs (ax_put h2 ao (.inr (5, [.int (bf ((0 : Int32).toNatClampNeg)), .int (bf ((1 : Int32).toNatClampNeg)), .int k2, .int k3, .int k4, .int (nI l), .int k6, .ref wd]))) [(ao, .inr (5, [.int (bf ((0 : Int32).toNatClampNeg)), .int (bf ((1 : Int32).toNatClampNeg)), .int k2, .int k3, .int k4, .int (nI l), .int k6, .ref wd])), (wd, .inl (0, 612, .inl wf)), (mm, .inr (2, [.int u0, .int u1, .int u2, .int u3, .int u4, .int u5, .int u6, .int (nI l), .ref mb])), (mb, .inl (0, 617, .inl bf))] := hF.put 0 _ rfl rfl
  replace hf := hf.put (a := ao) (c := .inr (5, [.int (bf ((0 : Int32).toNatClampNeg)), .int (bf ((1 : Int32).toNatClampNeg)), .int k2, .int k3, .int k4, .int (nI l), .int k6, .ref wd])) (by simp)
  replace hn : (ax_put h2 ao (.inr (5, [.int (bf ((0 : Int32).toNatClampNeg)), .int (bf ((1 : Int32).toNatClampNeg)), .int k2, .int k3, .int k4, .int (nI l), .int k6, .ref wd]))).1 = n := hn
  replace hs : (ax_put h2 ao (.inr (5, [.int (bf ((0 : Int32).toNatClampNeg)), .int (bf ((1 : Int32).toNatClampNeg)), .int k2, .int k3, .int k4, .int (nI l), .int k6, .ref wd]))).2.1 = sl := hs
  generalize ax_put h2 ao (.inr (5, [.int (bf ((0 : Int32).toNatClampNeg)), .int (bf ((1 : Int32).toNatClampNeg)), .int k2, .int k3, .int k4, .int (nI l), .int k6, .ref wd])) = h3 at hF hf hn hs ⊢
  refine ar_aload_n 29 d_69_28 rfl rfl ?_
  refine ar_aload_n 30 d_69_29 rfl rfl ?_
  refine ar_getf 33 d_69_30 rfl (ci := 2) (k := 8) rfl (hF.at 2 rfl) rfl ?_
  refine ar_iconst 34 (v := 2) d_69_33 rfl (by decide) ?_
  refine ar_iald 35 d_69_34 rfl (hF.at 3 rfl) (vin (i := 2) (by decide) (by decide)) ?_
  refine ar_putf 38 [.int (bf ((0 : Int32).toNatClampNeg)), .int (bf ((1 : Int32).toNatClampNeg)), .int (bf ((2 : Int32).toNatClampNeg)), .int k3, .int k4, .int (nI l), .int k6, .ref wd] d_69_35 rfl (ci := 5) (k := 2) rfl rfl (hF.at 0 rfl) (Nat.le_of_ble_eq_true rfl) rfl rfl rfl ?_
  replace hF : ax_hs (ax_put h3 ao (.inr (5, [.int (bf ((0 : Int32).toNatClampNeg)), .int (bf ((1 : Int32).toNatClampNeg)), .int (bf ((2 : Int32).toNatClampNeg)), .int k3, .int k4, .int (nI l), .int k6, .ref wd]))) [(ao, .inr (5, [.int (bf ((0 : Int32).toNatClampNeg)), .int (bf ((1 : Int32).toNatClampNeg)), .int (bf ((2 : Int32).toNatClampNeg)), .int k3, .int k4, .int (nI l), .int k6, .ref wd])), (wd, .inl (0, 612, .inl wf)), (mm, .inr (2, [.int u0, .int u1, .int u2, .int u3, .int u4, .int u5, .int u6, .int (nI l), .ref mb])), (mb, .inl (0, 617, .inl bf))] := hF.put 0 _ rfl rfl
  replace hf := hf.put (a := ao) (c := .inr (5, [.int (bf ((0 : Int32).toNatClampNeg)), .int (bf ((1 : Int32).toNatClampNeg)), .int (bf ((2 : Int32).toNatClampNeg)), .int k3, .int k4, .int (nI l), .int k6, .ref wd])) (by simp)
  replace hn : (ax_put h3 ao (.inr (5, [.int (bf ((0 : Int32).toNatClampNeg)), .int (bf ((1 : Int32).toNatClampNeg)), .int (bf ((2 : Int32).toNatClampNeg)), .int k3, .int k4, .int (nI l), .int k6, .ref wd]))).1 = n := hn
  replace hs : (ax_put h3 ao (.inr (5, [.int (bf ((0 : Int32).toNatClampNeg)), .int (bf ((1 : Int32).toNatClampNeg)), .int (bf ((2 : Int32).toNatClampNeg)), .int k3, .int k4, .int (nI l), .int k6, .ref wd]))).2.1 = sl := hs
  generalize ax_put h3 ao (.inr (5, [.int (bf ((0 : Int32).toNatClampNeg)), .int (bf ((1 : Int32).toNatClampNeg)), .int (bf ((2 : Int32).toNatClampNeg)), .int k3, .int k4, .int (nI l), .int k6, .ref wd])) = h4 at hF hf hn hs ⊢
  refine ar_aload_n 39 d_69_38 rfl rfl ?_
  refine ar_aload_n 40 d_69_39 rfl rfl ?_
  refine ar_getf 43 d_69_40 rfl (ci := 2) (k := 8) rfl (hF.at 2 rfl) rfl ?_
  refine ar_iconst 44 (v := 3) d_69_43 rfl (by decide) ?_
  refine ar_iald 45 d_69_44 rfl (hF.at 3 rfl) (vin (i := 3) (by decide) (by decide)) ?_
  refine ar_putf 48 [.int (bf ((0 : Int32).toNatClampNeg)), .int (bf ((1 : Int32).toNatClampNeg)), .int (bf ((2 : Int32).toNatClampNeg)), .int (bf ((3 : Int32).toNatClampNeg)), .int k4, .int (nI l), .int k6, .ref wd] d_69_45 rfl (ci := 5) (k := 3) rfl rfl (hF.at 0 rfl) (Nat.le_of_ble_eq_true rfl) rfl rfl rfl ?_
  replace hF : ax_hs (ax_put h4 ao (.inr (5, [.int (bf ((0 : Int32).toNatClampNeg)), .int (bf ((1 : Int32).toNatClampNeg)), .int (bf ((2 : Int32).toNatClampNeg)), .int (bf ((3 : Int32).toNatClampNeg)), .int k4, .int (nI l), .int k6, .ref wd]))) [(ao, .inr (5, [.int (bf ((0 : Int32).toNatClampNeg)), .int (bf ((1 : Int32).toNatClampNeg)), .int (bf ((2 : Int32).toNatClampNeg)), .int (bf ((3 : Int32).toNatClampNeg)), .int k4, .int (nI l), .int k6, .ref wd])), (wd, .inl (0, 612, .inl wf)), (mm, .inr (2, [.int u0, .int u1, .int u2, .int u3, .int u4, .int u5, .int u6, .int (nI l), .ref mb])), (mb, .inl (0, 617, .inl bf))] := hF.put 0 _ rfl rfl
  replace hf := hf.put (a := ao) (c := .inr (5, [.int (bf ((0 : Int32).toNatClampNeg)), .int (bf ((1 : Int32).toNatClampNeg)), .int (bf ((2 : Int32).toNatClampNeg)), .int (bf ((3 : Int32).toNatClampNeg)), .int k4, .int (nI l), .int k6, .ref wd])) (by simp)
  replace hn : (ax_put h4 ao (.inr (5, [.int (bf ((0 : Int32).toNatClampNeg)), .int (bf ((1 : Int32).toNatClampNeg)), .int (bf ((2 : Int32).toNatClampNeg)), .int (bf ((3 : Int32).toNatClampNeg)), .int k4, .int (nI l), .int k6, .ref wd]))).1 = n := hn
  replace hs : (ax_put h4 ao (.inr (5, [.int (bf ((0 : Int32).toNatClampNeg)), .int (bf ((1 : Int32).toNatClampNeg)), .int (bf ((2 : Int32).toNatClampNeg)), .int (bf ((3 : Int32).toNatClampNeg)), .int k4, .int (nI l), .int k6, .ref wd]))).2.1 = sl := hs
  generalize ax_put h4 ao (.inr (5, [.int (bf ((0 : Int32).toNatClampNeg)), .int (bf ((1 : Int32).toNatClampNeg)), .int (bf ((2 : Int32).toNatClampNeg)), .int (bf ((3 : Int32).toNatClampNeg)), .int k4, .int (nI l), .int k6, .ref wd])) = h5 at hF hf hn hs ⊢
  refine ar_aload_n 49 d_69_48 rfl rfl ?_
  refine ar_aload_n 50 d_69_49 rfl rfl ?_
  refine ar_getf 53 d_69_50 rfl (ci := 2) (k := 8) rfl (hF.at 2 rfl) rfl ?_
  refine ar_iconst 54 (v := 4) d_69_53 rfl (by decide) ?_
  refine ar_iald 55 d_69_54 rfl (hF.at 3 rfl) (vin (i := 4) (by decide) (by decide)) ?_
  refine ar_putf 58 [.int (bf ((0 : Int32).toNatClampNeg)), .int (bf ((1 : Int32).toNatClampNeg)), .int (bf ((2 : Int32).toNatClampNeg)), .int (bf ((3 : Int32).toNatClampNeg)), .int (bf ((4 : Int32).toNatClampNeg)), .int (nI l), .int k6, .ref wd] d_69_55 rfl (ci := 5) (k := 4) rfl rfl (hF.at 0 rfl) (Nat.le_of_ble_eq_true rfl) rfl rfl rfl ?_
  replace hF : ax_hs (ax_put h5 ao (.inr (5, [.int (bf ((0 : Int32).toNatClampNeg)), .int (bf ((1 : Int32).toNatClampNeg)), .int (bf ((2 : Int32).toNatClampNeg)), .int (bf ((3 : Int32).toNatClampNeg)), .int (bf ((4 : Int32).toNatClampNeg)), .int (nI l), .int k6, .ref wd]))) [(ao, .inr (5, [.int (bf ((0 : Int32).toNatClampNeg)), .int (bf ((1 : Int32).toNatClampNeg)), .int (bf ((2 : Int32).toNatClampNeg)), .int (bf ((3 : Int32).toNatClampNeg)), .int (bf ((4 : Int32).toNatClampNeg)), .int (nI l), .int k6, .ref wd])), (wd, .inl (0, 612, .inl wf)), (mm, .inr (2, [.int u0, .int u1, .int u2, .int u3, .int u4, .int u5, .int u6, .int (nI l), .ref mb])), (mb, .inl (0, 617, .inl bf))] := hF.put 0 _ rfl rfl
  replace hf := hf.put (a := ao) (c := .inr (5, [.int (bf ((0 : Int32).toNatClampNeg)), .int (bf ((1 : Int32).toNatClampNeg)), .int (bf ((2 : Int32).toNatClampNeg)), .int (bf ((3 : Int32).toNatClampNeg)), .int (bf ((4 : Int32).toNatClampNeg)), .int (nI l), .int k6, .ref wd])) (by simp)
  replace hn : (ax_put h5 ao (.inr (5, [.int (bf ((0 : Int32).toNatClampNeg)), .int (bf ((1 : Int32).toNatClampNeg)), .int (bf ((2 : Int32).toNatClampNeg)), .int (bf ((3 : Int32).toNatClampNeg)), .int (bf ((4 : Int32).toNatClampNeg)), .int (nI l), .int k6, .ref wd]))).1 = n := hn
  replace hs : (ax_put h5 ao (.inr (5, [.int (bf ((0 : Int32).toNatClampNeg)), .int (bf ((1 : Int32).toNatClampNeg)), .int (bf ((2 : Int32).toNatClampNeg)), .int (bf ((3 : Int32).toNatClampNeg)), .int (bf ((4 : Int32).toNatClampNeg)), .int (nI l), .int k6, .ref wd]))).2.1 = sl := hs
  generalize ax_put h5 ao (.inr (5, [.int (bf ((0 : Int32).toNatClampNeg)), .int (bf ((1 : Int32).toNatClampNeg)), .int (bf ((2 : Int32).toNatClampNeg)), .int (bf ((3 : Int32).toNatClampNeg)), .int (bf ((4 : Int32).toNatClampNeg)), .int (nI l), .int k6, .ref wd])) = h6 at hF hf hn hs ⊢
  refine ar_aload_n 59 d_69_58 rfl rfl ?_
  refine ar_getf 62 d_69_59 rfl (ci := 2) (k := 8) rfl (hF.at 2 rfl) rfl ?_
  refine ar_iconst 63 (v := 5) d_69_62 rfl (by decide) ?_
  refine ar_aload_n 64 d_69_63 rfl rfl ?_
  refine ar_getf 67 d_69_64 rfl (ci := 5) (k := 7) rfl (hF.at 0 rfl) rfl ?_
  refine ar_iconst 68 (v := 0) d_69_67 rfl (by decide) ?_
  refine ar_bipush 70 (v := 100) d_69_68 rfl (by decide) ?_
  refine ar_aload_n 71 d_69_70 rfl rfl ?_
  refine ar_getf 74 d_69_71 rfl (ci := 5) (k := 5) rfl (hF.at 0 rfl) rfl ?_
  refine ar_iconst 75 (v := 3) d_69_74 rfl (by decide) ?_
  refine ar_iadd 76 d_69_75 rfl ?_
  refine ar_top (x' := nI (l + 3)) (nI_add l 3) ?_
  refine ar_iconst 77 (v := 4) d_69_76 rfl (by decide) ?_
  refine ar_idiv 78 d_69_77 rfl (by decide) ?_
  refine ar_top (x' := nI ((l + 3) / 4)) (pk_div (d := 4) (by omega) (by omega) (by omega)) ?_
  refine ar_iadd 79 d_69_78 rfl ?_
  refine ar_top (x' := nI (100 + (l + 3) / 4)) (nI_add 100 _) ?_
  refine ar_copy 82 d_69_79 rfl rfl (by omega) (by show 0 + (nativeFrameWords "java/lang/System" "arraycopy" 5 + 11) ≤ lo; rw [nfw_copy]; omega) (hF.at 3 rfl) (hF.at 1 rfl) (by decide) (by decide) (Int32.not_lt.mpr (nI_le (Nat.zero_le _) (by omega))) (by rw [nI_clamp (by omega)]; show 5 + (100 + (l + 3) / 4) ≤ 617; omega) (by rw [nI_clamp (by omega)]; show 0 + (100 + (l + 3) / 4) ≤ 612; omega) ?_
  replace hF : ax_hs (ax_put h6 wd (.inl (0, 612, .inl (va_cpy bf wf ((5 : Int32).toNatClampNeg) ((0 : Int32).toNatClampNeg) ((nI (100 + (l + 3) / 4)).toNatClampNeg))))) [(ao, .inr (5, [.int (bf ((0 : Int32).toNatClampNeg)), .int (bf ((1 : Int32).toNatClampNeg)), .int (bf ((2 : Int32).toNatClampNeg)), .int (bf ((3 : Int32).toNatClampNeg)), .int (bf ((4 : Int32).toNatClampNeg)), .int (nI l), .int k6, .ref wd])), (wd, .inl (0, 612, .inl (va_cpy bf wf ((5 : Int32).toNatClampNeg) ((0 : Int32).toNatClampNeg) ((nI (100 + (l + 3) / 4)).toNatClampNeg)))), (mm, .inr (2, [.int u0, .int u1, .int u2, .int u3, .int u4, .int u5, .int u6, .int (nI l), .ref mb])), (mb, .inl (0, 617, .inl bf))] := hF.put 1 _ rfl rfl
  replace hf := hf.put (a := wd) (c := .inl (0, 612, .inl (va_cpy bf wf ((5 : Int32).toNatClampNeg) ((0 : Int32).toNatClampNeg) ((nI (100 + (l + 3) / 4)).toNatClampNeg)))) (by simp)
  replace hn : (ax_put h6 wd (.inl (0, 612, .inl (va_cpy bf wf ((5 : Int32).toNatClampNeg) ((0 : Int32).toNatClampNeg) ((nI (100 + (l + 3) / 4)).toNatClampNeg))))).1 = n := hn
  replace hs : (ax_put h6 wd (.inl (0, 612, .inl (va_cpy bf wf ((5 : Int32).toNatClampNeg) ((0 : Int32).toNatClampNeg) ((nI (100 + (l + 3) / 4)).toNatClampNeg))))).2.1 = sl := hs
  generalize ax_put h6 wd (.inl (0, 612, .inl (va_cpy bf wf ((5 : Int32).toNatClampNeg) ((0 : Int32).toNatClampNeg) ((nI (100 + (l + 3) / 4)).toNatClampNeg)))) = h7 at hF hf hn hs ⊢
  rw [nI_clamp (show (100 + (l + 3) / 4) < 2 ^ 31 by omega)] at hF
  have hF9 : ax_hs _ [(ao, .inr (5, [.int (bf 0), .int (bf 1), .int (bf 2), .int (bf 3), .int (bf 4), .int (nI l), .int k6, .ref wd])), (wd, .inl (0, 612, .inl (va_cpy bf wf 5 0 (100 + (l + 3) / 4)))), (mm, .inr (2, [.int u0, .int u1, .int u2, .int u3, .int u4, .int u5, .int u6, .int (nI l), .ref mb])), (mb, .inl (0, 617, .inl bf))] := hF
  exact ar_ret d_69_82 rfl (⟨rfl, hF9, hn, hs, hf⟩)
theorem c_48X {L : Nat} {xs : Nat → Int32} {fr lo : Nat} {h : ax_H} {n sl : Nat} {ao wd mm mb l : Nat} {k0 k1 k2 k3 k4 k6 u0 u1 u2 u3 u4 u5 u6 u7 : Int32} {wf bf : Nat → Int32} (hfr : 1 ≤ fr) (hlo : 30 ≤ lo) (hl : l ≤ 2048) (hF : ax_hs h [(ao, .inr (5, [.int k0, .int k1, .int k2, .int k3, .int k4, .int (nI l), .int k6, .ref wd])), (wd, .inl (0, 612, .inl wf)), (mm, .inr (2, [.int u0, .int u1, .int u2, .int u3, .int u4, .int u5, .int u6, .int u7, .ref mb])), (mb, .inl (0, 617, .inl bf))]) (hn : h.1 = n) (hs : h.2.1 = sl) (hn0 : 0 < n) : ax_M L xs 48 fr lo [.ref ao, .ref mm] h (fun r h' => r = none ∧ ax_hs h' [(ao, .inr (5, [.int k0, .int k1, .int k2, .int k3, .int k4, .int (nI l), .int k6, .ref wd])), (wd, .inl (0, 612, .inl wf)), (mm, .inr (2, [.int u0, .int u1, .int u2, .int u3, .int u4, .int u5, .int u6, .int (nI l), .ref mb])), (mb, .inl (0, 617, .inl (va_cpy wf (upd (upd (upd (upd (upd bf 0 k0) 1 k1) 2 k2) 3 k3) 4 k4) 0 5 (100 + (l + 3) / 4))))] ∧ h'.1 = n ∧ h'.2.1 = sl ∧ ax_fr (fun x => x ∈ [mm, mb]) h h') := by
  show ax_A (ax_step L xs) ((48, 0, fr, lo), [(0, .ref ao), (1, .ref mm)], [], h) _
  have hbase : h.1 = n := hn
  have hbasl : h.2.1 = sl := hs
  have hf : ax_fr (fun x => x ∈ [mm, mb]) h h := ax_fr.rf
  refine ar_aload_n 1 d_48_0 rfl rfl ?_
  refine ar_aload_n 2 d_48_1 rfl rfl ?_
  refine ar_getf 5 d_48_2 rfl (ci := 5) (k := 5) rfl (hF.at 0 rfl) rfl ?_
  refine ar_putf 8 [.int u0, .int u1, .int u2, .int u3, .int u4, .int u5, .int u6, .int (nI l), .ref mb] d_48_5 rfl (ci := 2) (k := 7) rfl rfl (hF.at 2 rfl) (Nat.le_of_ble_eq_true rfl) rfl rfl rfl ?_
  replace hF : ax_hs (ax_put h mm (.inr (2, [.int u0, .int u1, .int u2, .int u3, .int u4, .int u5, .int u6, .int (nI l), .ref mb]))) [(ao, .inr (5, [.int k0, .int k1, .int k2, .int k3, .int k4, .int (nI l), .int k6, .ref wd])), (wd, .inl (0, 612, .inl wf)), (mm, .inr (2, [.int u0, .int u1, .int u2, .int u3, .int u4, .int u5, .int u6, .int (nI l), .ref mb])), (mb, .inl (0, 617, .inl bf))] := hF.put 2 _ rfl rfl
  replace hf := hf.put (a := mm) (c := .inr (2, [.int u0, .int u1, .int u2, .int u3, .int u4, .int u5, .int u6, .int (nI l), .ref mb])) (by simp)
  replace hn : (ax_put h mm (.inr (2, [.int u0, .int u1, .int u2, .int u3, .int u4, .int u5, .int u6, .int (nI l), .ref mb]))).1 = n := hn
  replace hs : (ax_put h mm (.inr (2, [.int u0, .int u1, .int u2, .int u3, .int u4, .int u5, .int u6, .int (nI l), .ref mb]))).2.1 = sl := hs
  generalize ax_put h mm (.inr (2, [.int u0, .int u1, .int u2, .int u3, .int u4, .int u5, .int u6, .int (nI l), .ref mb])) = h1 at hF hf hn hs ⊢
  refine ar_aload_n 9 d_48_8 rfl rfl ?_
  refine ar_getf 12 d_48_9 rfl (ci := 2) (k := 8) rfl (hF.at 2 rfl) rfl ?_
  refine ar_iconst 13 (v := 0) d_48_12 rfl (by decide) ?_
  refine ar_aload_n 14 d_48_13 rfl rfl ?_
  refine ar_getf 17 d_48_14 rfl (ci := 5) (k := 0) rfl (hF.at 0 rfl) rfl ?_
  refine ar_iast 18 d_48_17 rfl (hF.at 3 rfl) (vin (i := 0) (by decide) (by decide)) ?_
  replace hF : ax_hs (ax_put h1 mb (.inl (0, 617, .inl (upd bf ((0 : Int32).toNatClampNeg) k0)))) [(ao, .inr (5, [.int k0, .int k1, .int k2, .int k3, .int k4, .int (nI l), .int k6, .ref wd])), (wd, .inl (0, 612, .inl wf)), (mm, .inr (2, [.int u0, .int u1, .int u2, .int u3, .int u4, .int u5, .int u6, .int (nI l), .ref mb])), (mb, .inl (0, 617, .inl (upd bf ((0 : Int32).toNatClampNeg) k0)))] := hF.put 3 _ rfl rfl
  replace hf := hf.put (a := mb) (c := .inl (0, 617, .inl (upd bf ((0 : Int32).toNatClampNeg) k0))) (by simp)
  replace hn : (ax_put h1 mb (.inl (0, 617, .inl (upd bf ((0 : Int32).toNatClampNeg) k0)))).1 = n := hn
  replace hs : (ax_put h1 mb (.inl (0, 617, .inl (upd bf ((0 : Int32).toNatClampNeg) k0)))).2.1 = sl := hs
  generalize ax_put h1 mb (.inl (0, 617, .inl (upd bf ((0 : Int32).toNatClampNeg) k0))) = h2 at hF hf hn hs ⊢
  refine ar_aload_n 19 d_48_18 rfl rfl ?_
  refine ar_getf 22 d_48_19 rfl (ci := 2) (k := 8) rfl (hF.at 2 rfl) rfl ?_
  refine ar_iconst 23 (v := 1) d_48_22 rfl (by decide) ?_
  refine ar_aload_n 24 d_48_23 rfl rfl ?_
  refine ar_getf 27 d_48_24 rfl (ci := 5) (k := 1) rfl (hF.at 0 rfl) rfl ?_
  refine ar_iast 28 d_48_27 rfl (hF.at 3 rfl) (vin (i := 1) (by decide) (by decide)) ?_
  replace hF : ax_hs (ax_put h2 mb (.inl (0, 617, .inl (upd (upd bf ((0 : Int32).toNatClampNeg) k0) ((1 : Int32).toNatClampNeg) k1)))) [(ao, .inr (5, [.int k0, .int k1, .int k2, .int k3, .int k4, .int (nI l), .int k6, .ref wd])), (wd, .inl (0, 612, .inl wf)), (mm, .inr (2, [.int u0, .int u1, .int u2, .int u3, .int u4, .int u5, .int u6, .int (nI l), .ref mb])), (mb, .inl (0, 617, .inl (upd (upd bf ((0 : Int32).toNatClampNeg) k0) ((1 : Int32).toNatClampNeg) k1)))] := hF.put 3 _ rfl rfl
  replace hf := hf.put (a := mb) (c := .inl (0, 617, .inl (upd (upd bf ((0 : Int32).toNatClampNeg) k0) ((1 : Int32).toNatClampNeg) k1))) (by simp)
  replace hn : (ax_put h2 mb (.inl (0, 617, .inl (upd (upd bf ((0 : Int32).toNatClampNeg) k0) ((1 : Int32).toNatClampNeg) k1)))).1 = n := hn
  replace hs : (ax_put h2 mb (.inl (0, 617, .inl (upd (upd bf ((0 : Int32).toNatClampNeg) k0) ((1 : Int32).toNatClampNeg) k1)))).2.1 = sl := hs
  generalize ax_put h2 mb (.inl (0, 617, .inl (upd (upd bf ((0 : Int32).toNatClampNeg) k0) ((1 : Int32).toNatClampNeg) k1))) = h3 at hF hf hn hs ⊢
  refine ar_aload_n 29 d_48_28 rfl rfl ?_
  refine ar_getf 32 d_48_29 rfl (ci := 2) (k := 8) rfl (hF.at 2 rfl) rfl ?_
  refine ar_iconst 33 (v := 2) d_48_32 rfl (by decide) ?_
  refine ar_aload_n 34 d_48_33 rfl rfl ?_
  refine ar_getf 37 d_48_34 rfl (ci := 5) (k := 2) rfl (hF.at 0 rfl) rfl ?_
  refine ar_iast 38 d_48_37 rfl (hF.at 3 rfl) (vin (i := 2) (by decide) (by decide)) ?_
  replace hF : ax_hs (ax_put h3 mb (.inl (0, 617, .inl (upd (upd (upd bf ((0 : Int32).toNatClampNeg) k0) ((1 : Int32).toNatClampNeg) k1) ((2 : Int32).toNatClampNeg) k2)))) [(ao, .inr (5, [.int k0, .int k1, .int k2, .int k3, .int k4, .int (nI l), .int k6, .ref wd])), (wd, .inl (0, 612, .inl wf)), (mm, .inr (2, [.int u0, .int u1, .int u2, .int u3, .int u4, .int u5, .int u6, .int (nI l), .ref mb])), (mb, .inl (0, 617, .inl (upd (upd (upd bf ((0 : Int32).toNatClampNeg) k0) ((1 : Int32).toNatClampNeg) k1) ((2 : Int32).toNatClampNeg) k2)))] := hF.put 3 _ rfl rfl
  replace hf := hf.put (a := mb) (c := .inl (0, 617, .inl (upd (upd (upd bf ((0 : Int32).toNatClampNeg) k0) ((1 : Int32).toNatClampNeg) k1) ((2 : Int32).toNatClampNeg) k2))) (by simp)
  replace hn : (ax_put h3 mb (.inl (0, 617, .inl (upd (upd (upd bf ((0 : Int32).toNatClampNeg) k0) ((1 : Int32).toNatClampNeg) k1) ((2 : Int32).toNatClampNeg) k2)))).1 = n := hn
  replace hs : (ax_put h3 mb (.inl (0, 617, .inl (upd (upd (upd bf ((0 : Int32).toNatClampNeg) k0) ((1 : Int32).toNatClampNeg) k1) ((2 : Int32).toNatClampNeg) k2)))).2.1 = sl := hs
  generalize ax_put h3 mb (.inl (0, 617, .inl (upd (upd (upd bf ((0 : Int32).toNatClampNeg) k0) ((1 : Int32).toNatClampNeg) k1) ((2 : Int32).toNatClampNeg) k2))) = h4 at hF hf hn hs ⊢
  refine ar_aload_n 39 d_48_38 rfl rfl ?_
  refine ar_getf 42 d_48_39 rfl (ci := 2) (k := 8) rfl (hF.at 2 rfl) rfl ?_
  refine ar_iconst 43 (v := 3) d_48_42 rfl (by decide) ?_
  refine ar_aload_n 44 d_48_43 rfl rfl ?_
  refine ar_getf 47 d_48_44 rfl (ci := 5) (k := 3) rfl (hF.at 0 rfl) rfl ?_
  refine ar_iast 48 d_48_47 rfl (hF.at 3 rfl) (vin (i := 3) (by decide) (by decide)) ?_
  replace hF : ax_hs (ax_put h4 mb (.inl (0, 617, .inl (upd (upd (upd (upd bf ((0 : Int32).toNatClampNeg) k0) ((1 : Int32).toNatClampNeg) k1) ((2 : Int32).toNatClampNeg) k2) ((3 : Int32).toNatClampNeg) k3)))) [(ao, .inr (5, [.int k0, .int k1, .int k2, .int k3, .int k4, .int (nI l), .int k6, .ref wd])), (wd, .inl (0, 612, .inl wf)), (mm, .inr (2, [.int u0, .int u1, .int u2, .int u3, .int u4, .int u5, .int u6, .int (nI l), .ref mb])), (mb, .inl (0, 617, .inl (upd (upd (upd (upd bf ((0 : Int32).toNatClampNeg) k0) ((1 : Int32).toNatClampNeg) k1) ((2 : Int32).toNatClampNeg) k2) ((3 : Int32).toNatClampNeg) k3)))] := hF.put 3 _ rfl rfl
  replace hf := hf.put (a := mb) (c := .inl (0, 617, .inl (upd (upd (upd (upd bf ((0 : Int32).toNatClampNeg) k0) ((1 : Int32).toNatClampNeg) k1) ((2 : Int32).toNatClampNeg) k2) ((3 : Int32).toNatClampNeg) k3))) (by simp)
  replace hn : (ax_put h4 mb (.inl (0, 617, .inl (upd (upd (upd (upd bf ((0 : Int32).toNatClampNeg) k0) ((1 : Int32).toNatClampNeg) k1) ((2 : Int32).toNatClampNeg) k2) ((3 : Int32).toNatClampNeg) k3)))).1 = n := hn
  replace hs : (ax_put h4 mb (.inl (0, 617, .inl (upd (upd (upd (upd bf ((0 : Int32).toNatClampNeg) k0) ((1 : Int32).toNatClampNeg) k1) ((2 : Int32).toNatClampNeg) k2) ((3 : Int32).toNatClampNeg) k3)))).2.1 = sl := hs
  generalize ax_put h4 mb (.inl (0, 617, .inl (upd (upd (upd (upd bf ((0 : Int32).toNatClampNeg) k0) ((1 : Int32).toNatClampNeg) k1) ((2 : Int32).toNatClampNeg) k2) ((3 : Int32).toNatClampNeg) k3))) = h5 at hF hf hn hs ⊢
  refine ar_aload_n 49 d_48_48 rfl rfl ?_
  refine ar_getf 52 d_48_49 rfl (ci := 2) (k := 8) rfl (hF.at 2 rfl) rfl ?_
  refine ar_iconst 53 (v := 4) d_48_52 rfl (by decide) ?_
  refine ar_aload_n 54 d_48_53 rfl rfl ?_
  refine ar_getf 57 d_48_54 rfl (ci := 5) (k := 4) rfl (hF.at 0 rfl) rfl ?_
  refine ar_iast 58 d_48_57 rfl (hF.at 3 rfl) (vin (i := 4) (by decide) (by decide)) ?_
  replace hF : ax_hs (ax_put h5 mb (.inl (0, 617, .inl (upd (upd (upd (upd (upd bf ((0 : Int32).toNatClampNeg) k0) ((1 : Int32).toNatClampNeg) k1) ((2 : Int32).toNatClampNeg) k2) ((3 : Int32).toNatClampNeg) k3) ((4 : Int32).toNatClampNeg) k4)))) [(ao, .inr (5, [.int k0, .int k1, .int k2, .int k3, .int k4, .int (nI l), .int k6, .ref wd])), (wd, .inl (0, 612, .inl wf)), (mm, .inr (2, [.int u0, .int u1, .int u2, .int u3, .int u4, .int u5, .int u6, .int (nI l), .ref mb])), (mb, .inl (0, 617, .inl (upd (upd (upd (upd (upd bf ((0 : Int32).toNatClampNeg) k0) ((1 : Int32).toNatClampNeg) k1) ((2 : Int32).toNatClampNeg) k2) ((3 : Int32).toNatClampNeg) k3) ((4 : Int32).toNatClampNeg) k4)))] := hF.put 3 _ rfl rfl
  replace hf := hf.put (a := mb) (c := .inl (0, 617, .inl (upd (upd (upd (upd (upd bf ((0 : Int32).toNatClampNeg) k0) ((1 : Int32).toNatClampNeg) k1) ((2 : Int32).toNatClampNeg) k2) ((3 : Int32).toNatClampNeg) k3) ((4 : Int32).toNatClampNeg) k4))) (by simp)
  replace hn : (ax_put h5 mb (.inl (0, 617, .inl (upd (upd (upd (upd (upd bf ((0 : Int32).toNatClampNeg) k0) ((1 : Int32).toNatClampNeg) k1) ((2 : Int32).toNatClampNeg) k2) ((3 : Int32).toNatClampNeg) k3) ((4 : Int32).toNatClampNeg) k4)))).1 = n := hn
  replace hs : (ax_put h5 mb (.inl (0, 617, .inl (upd (upd (upd (upd (upd bf ((0 : Int32).toNatClampNeg) k0) ((1 : Int32).toNatClampNeg) k1) ((2 : Int32).toNatClampNeg) k2) ((3 : Int32).toNatClampNeg) k3) ((4 : Int32).toNatClampNeg) k4)))).2.1 = sl := hs
  generalize ax_put h5 mb (.inl (0, 617, .inl (upd (upd (upd (upd (upd bf ((0 : Int32).toNatClampNeg) k0) ((1 : Int32).toNatClampNeg) k1) ((2 : Int32).toNatClampNeg) k2) ((3 : Int32).toNatClampNeg) k3) ((4 : Int32).toNatClampNeg) k4))) = h6 at hF hf hn hs ⊢
  refine ar_aload_n 59 d_48_58 rfl rfl ?_
  refine ar_getf 62 d_48_59 rfl (ci := 5) (k := 7) rfl (hF.at 0 rfl) rfl ?_
  refine ar_iconst 63 (v := 0) d_48_62 rfl (by decide) ?_
  refine ar_aload_n 64 d_48_63 rfl rfl ?_
  refine ar_getf 67 d_48_64 rfl (ci := 2) (k := 8) rfl (hF.at 2 rfl) rfl ?_
  refine ar_iconst 68 (v := 5) d_48_67 rfl (by decide) ?_
  refine ar_bipush 70 (v := 100) d_48_68 rfl (by decide) ?_
  refine ar_aload_n 71 d_48_70 rfl rfl ?_
  refine ar_getf 74 d_48_71 rfl (ci := 5) (k := 5) rfl (hF.at 0 rfl) rfl ?_
  refine ar_iconst 75 (v := 3) d_48_74 rfl (by decide) ?_
  refine ar_iadd 76 d_48_75 rfl ?_
  refine ar_top (x' := nI (l + 3)) (nI_add l 3) ?_
  refine ar_iconst 77 (v := 4) d_48_76 rfl (by decide) ?_
  refine ar_idiv 78 d_48_77 rfl (by decide) ?_
  refine ar_top (x' := nI ((l + 3) / 4)) (pk_div (d := 4) (by omega) (by omega) (by omega)) ?_
  refine ar_iadd 79 d_48_78 rfl ?_
  refine ar_top (x' := nI (100 + (l + 3) / 4)) (nI_add 100 _) ?_
  refine ar_copy 82 d_48_79 rfl rfl (by omega) (by show 0 + (nativeFrameWords "java/lang/System" "arraycopy" 5 + 11) ≤ lo; rw [nfw_copy]; omega) (hF.at 1 rfl) (hF.at 3 rfl) (by decide) (by decide) (Int32.not_lt.mpr (nI_le (Nat.zero_le _) (by omega))) (by rw [nI_clamp (by omega)]; show 0 + (100 + (l + 3) / 4) ≤ 612; omega) (by rw [nI_clamp (by omega)]; show 5 + (100 + (l + 3) / 4) ≤ 617; omega) ?_
  replace hF : ax_hs (ax_put h6 mb (.inl (0, 617, .inl (va_cpy wf (upd (upd (upd (upd (upd bf ((0 : Int32).toNatClampNeg) k0) ((1 : Int32).toNatClampNeg) k1) ((2 : Int32).toNatClampNeg) k2) ((3 : Int32).toNatClampNeg) k3) ((4 : Int32).toNatClampNeg) k4) ((0 : Int32).toNatClampNeg) ((5 : Int32).toNatClampNeg) ((nI (100 + (l + 3) / 4)).toNatClampNeg))))) [(ao, .inr (5, [.int k0, .int k1, .int k2, .int k3, .int k4, .int (nI l), .int k6, .ref wd])), (wd, .inl (0, 612, .inl wf)), (mm, .inr (2, [.int u0, .int u1, .int u2, .int u3, .int u4, .int u5, .int u6, .int (nI l), .ref mb])), (mb, .inl (0, 617, .inl (va_cpy wf (upd (upd (upd (upd (upd bf ((0 : Int32).toNatClampNeg) k0) ((1 : Int32).toNatClampNeg) k1) ((2 : Int32).toNatClampNeg) k2) ((3 : Int32).toNatClampNeg) k3) ((4 : Int32).toNatClampNeg) k4) ((0 : Int32).toNatClampNeg) ((5 : Int32).toNatClampNeg) ((nI (100 + (l + 3) / 4)).toNatClampNeg))))] := hF.put 3 _ rfl rfl
  replace hf := hf.put (a := mb) (c := .inl (0, 617, .inl (va_cpy wf (upd (upd (upd (upd (upd bf ((0 : Int32).toNatClampNeg) k0) ((1 : Int32).toNatClampNeg) k1) ((2 : Int32).toNatClampNeg) k2) ((3 : Int32).toNatClampNeg) k3) ((4 : Int32).toNatClampNeg) k4) ((0 : Int32).toNatClampNeg) ((5 : Int32).toNatClampNeg) ((nI (100 + (l + 3) / 4)).toNatClampNeg)))) (by simp)
  replace hn : (ax_put h6 mb (.inl (0, 617, .inl (va_cpy wf (upd (upd (upd (upd (upd bf ((0 : Int32).toNatClampNeg) k0) ((1 : Int32).toNatClampNeg) k1) ((2 : Int32).toNatClampNeg) k2) ((3 : Int32).toNatClampNeg) k3) ((4 : Int32).toNatClampNeg) k4) ((0 : Int32).toNatClampNeg) ((5 : Int32).toNatClampNeg) ((nI (100 + (l + 3) / 4)).toNatClampNeg))))).1 = n := hn
  replace hs : (ax_put h6 mb (.inl (0, 617, .inl (va_cpy wf (upd (upd (upd (upd (upd bf ((0 : Int32).toNatClampNeg) k0) ((1 : Int32).toNatClampNeg) k1) ((2 : Int32).toNatClampNeg) k2) ((3 : Int32).toNatClampNeg) k3) ((4 : Int32).toNatClampNeg) k4) ((0 : Int32).toNatClampNeg) ((5 : Int32).toNatClampNeg) ((nI (100 + (l + 3) / 4)).toNatClampNeg))))).2.1 = sl := hs
  generalize ax_put h6 mb (.inl (0, 617, .inl (va_cpy wf (upd (upd (upd (upd (upd bf ((0 : Int32).toNatClampNeg) k0) ((1 : Int32).toNatClampNeg) k1) ((2 : Int32).toNatClampNeg) k2) ((3 : Int32).toNatClampNeg) k3) ((4 : Int32).toNatClampNeg) k4) ((0 : Int32).toNatClampNeg) ((5 : Int32).toNatClampNeg) ((nI (100 + (l + 3) / 4)).toNatClampNeg)))) = h7 at hF hf hn hs ⊢
  rw [nI_clamp (show (100 + (l + 3) / 4) < 2 ^ 31 by omega)] at hF
  have hF9 : ax_hs _ [(ao, .inr (5, [.int k0, .int k1, .int k2, .int k3, .int k4, .int (nI l), .int k6, .ref wd])), (wd, .inl (0, 612, .inl wf)), (mm, .inr (2, [.int u0, .int u1, .int u2, .int u3, .int u4, .int u5, .int u6, .int (nI l), .ref mb])), (mb, .inl (0, 617, .inl (va_cpy wf (upd (upd (upd (upd (upd bf 0 k0) 1 k1) 2 k2) 3 k3) 4 k4) 0 5 (100 + (l + 3) / 4))))] := hF
  exact ar_ret d_48_82 rfl (⟨rfl, hF9, hn, hs, hf⟩)


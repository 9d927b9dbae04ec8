/-! the reference, exactly: cut, read -/
theorem d_200_0 : decode (axt_b 200) 0 = .ok (.aload_n 0, 1) := by decide +kernel
theorem d_200_1 : decode (axt_b 200) 1 = .ok (.iload_n 1, 1) := by decide +kernel
theorem d_200_2 : decode (axt_b 200) 2 = .ok (.iconst 0, 1) := by decide +kernel
theorem d_200_3 : decode (axt_b 200) 3 = .ok (.invokevirtual 139, 3) := by decide +kernel
theorem d_200_6 : decode (axt_b 200) 6 = .ok (.istore_n 2, 1) := by decide +kernel
theorem d_200_7 : decode (axt_b 200) 7 = .ok (.iload_n 2, 1) := by decide +kernel
theorem d_200_8 : decode (axt_b 200) 8 = .ok (.ifCond .ge 6, 3) := by decide +kernel
theorem d_200_11 : decode (axt_b 200) 11 = .ok (.bipush (-2), 2) := by decide +kernel
theorem d_200_13 : decode (axt_b 200) 13 = .ok (.ireturn, 1) := by decide +kernel
theorem d_200_14 : decode (axt_b 200) 14 = .ok (.aload_n 0, 1) := by decide +kernel
theorem d_200_15 : decode (axt_b 200) 15 = .ok (.getfield 40, 3) := by decide +kernel
theorem d_200_18 : decode (axt_b 200) 18 = .ok (.iload_n 2, 1) := by decide +kernel
theorem d_200_19 : decode (axt_b 200) 19 = .ok (.iaload, 1) := by decide +kernel
theorem d_200_20 : decode (axt_b 200) 20 = .ok (.istore_n 3, 1) := by decide +kernel
theorem d_200_21 : decode (axt_b 200) 21 = .ok (.aload_n 0, 1) := by decide +kernel
theorem d_200_22 : decode (axt_b 200) 22 = .ok (.getfield 136, 3) := by decide +kernel
theorem d_200_25 : decode (axt_b 200) 25 = .ok (.iload_n 3, 1) := by decide +kernel
theorem d_200_26 : decode (axt_b 200) 26 = .ok (.isub, 1) := by decide +kernel
theorem d_200_27 : decode (axt_b 200) 27 = .ok (.aload_n 0, 1) := by decide +kernel
theorem d_200_28 : decode (axt_b 200) 28 = .ok (.getfield 53, 3) := by decide +kernel
theorem d_200_31 : decode (axt_b 200) 31 = .ok (.iload_n 1, 1) := by decide +kernel
theorem d_200_32 : decode (axt_b 200) 32 = .ok (.iaload, 1) := by decide +kernel
theorem d_200_33 : decode (axt_b 200) 33 = .ok (.iadd, 1) := by decide +kernel
theorem d_200_34 : decode (axt_b 200) 34 = .ok (.ldc 143, 2) := by decide +kernel
theorem d_200_36 : decode (axt_b 200) 36 = .ok (.if_icmp .le 6, 3) := by decide +kernel
theorem d_200_39 : decode (axt_b 200) 39 = .ok (.bipush (-4), 2) := by decide +kernel
theorem d_200_41 : decode (axt_b 200) 41 = .ok (.ireturn, 1) := by decide +kernel
theorem d_200_42 : decode (axt_b 200) 42 = .ok (.aload_n 0, 1) := by decide +kernel
theorem d_200_43 : decode (axt_b 200) 43 = .ok (.iload_n 2, 1) := by decide +kernel
theorem d_200_44 : decode (axt_b 200) 44 = .ok (.aload_n 0, 1) := by decide +kernel
theorem d_200_45 : decode (axt_b 200) 45 = .ok (.getfield 53, 3) := by decide +kernel
theorem d_200_48 : decode (axt_b 200) 48 = .ok (.iload_n 1, 1) := by decide +kernel
theorem d_200_49 : decode (axt_b 200) 49 = .ok (.iaload, 1) := by decide +kernel
theorem d_200_50 : decode (axt_b 200) 50 = .ok (.invokevirtual 147, 3) := by decide +kernel
theorem d_200_53 : decode (axt_b 200) 53 = .ok (.iload_n 3, 1) := by decide +kernel
theorem d_200_54 : decode (axt_b 200) 54 = .ok (.ireturn, 1) := by decide +kernel
theorem d_201_0 : decode (axt_b 201) 0 = .ok (.aload_n 0, 1) := by decide +kernel
theorem d_201_1 : decode (axt_b 201) 1 = .ok (.iload_n 1, 1) := by decide +kernel
theorem d_201_2 : decode (axt_b 201) 2 = .ok (.iconst 0, 1) := by decide +kernel
theorem d_201_3 : decode (axt_b 201) 3 = .ok (.invokevirtual 139, 3) := by decide +kernel
theorem d_201_6 : decode (axt_b 201) 6 = .ok (.istore_n 2, 1) := by decide +kernel
theorem d_201_7 : decode (axt_b 201) 7 = .ok (.iload_n 2, 1) := by decide +kernel
theorem d_201_8 : decode (axt_b 201) 8 = .ok (.ifCond .ge 6, 3) := by decide +kernel
theorem d_201_11 : decode (axt_b 201) 11 = .ok (.bipush (-2), 2) := by decide +kernel
theorem d_201_13 : decode (axt_b 201) 13 = .ok (.ireturn, 1) := by decide +kernel
theorem d_201_14 : decode (axt_b 201) 14 = .ok (.aload_n 0, 1) := by decide +kernel
theorem d_201_15 : decode (axt_b 201) 15 = .ok (.getfield 40, 3) := by decide +kernel
theorem d_201_18 : decode (axt_b 201) 18 = .ok (.iload_n 2, 1) := by decide +kernel
theorem d_201_19 : decode (axt_b 201) 19 = .ok (.iaload, 1) := by decide +kernel
theorem d_201_20 : decode (axt_b 201) 20 = .ok (.aload_n 0, 1) := by decide +kernel
theorem d_201_21 : decode (axt_b 201) 21 = .ok (.getfield 53, 3) := by decide +kernel
theorem d_201_24 : decode (axt_b 201) 24 = .ok (.iload_n 1, 1) := by decide +kernel
theorem d_201_25 : decode (axt_b 201) 25 = .ok (.iaload, 1) := by decide +kernel
theorem d_201_26 : decode (axt_b 201) 26 = .ok (.isub, 1) := by decide +kernel
theorem d_201_27 : decode (axt_b 201) 27 = .ok (.istore_n 3, 1) := by decide +kernel
theorem d_201_28 : decode (axt_b 201) 28 = .ok (.iload_n 3, 1) := by decide +kernel
theorem d_201_29 : decode (axt_b 201) 29 = .ok (.aload_n 0, 1) := by decide +kernel
theorem d_201_30 : decode (axt_b 201) 30 = .ok (.getfield 56, 3) := by decide +kernel
theorem d_201_33 : decode (axt_b 201) 33 = .ok (.iload_n 1, 1) := by decide +kernel
theorem d_201_34 : decode (axt_b 201) 34 = .ok (.iaload, 1) := by decide +kernel
theorem d_201_35 : decode (axt_b 201) 35 = .ok (.if_icmp .le 10, 3) := by decide +kernel
theorem d_201_38 : decode (axt_b 201) 38 = .ok (.aload_n 0, 1) := by decide +kernel
theorem d_201_39 : decode (axt_b 201) 39 = .ok (.getfield 56, 3) := by decide +kernel
theorem d_201_42 : decode (axt_b 201) 42 = .ok (.iload_n 1, 1) := by decide +kernel
theorem d_201_43 : decode (axt_b 201) 43 = .ok (.iaload, 1) := by decide +kernel
theorem d_201_44 : decode (axt_b 201) 44 = .ok (.istore_n 3, 1) := by decide +kernel
theorem d_201_45 : decode (axt_b 201) 45 = .ok (.iload_n 3, 1) := by decide +kernel
theorem d_201_46 : decode (axt_b 201) 46 = .ok (.ifCond .ge 5, 3) := by decide +kernel
theorem d_201_49 : decode (axt_b 201) 49 = .ok (.iconst 0, 1) := by decide +kernel
theorem d_201_50 : decode (axt_b 201) 50 = .ok (.istore_n 3, 1) := by decide +kernel
theorem d_201_51 : decode (axt_b 201) 51 = .ok (.iconst 0, 1) := by decide +kernel
theorem d_201_52 : decode (axt_b 201) 52 = .ok (.istore 4, 2) := by decide +kernel
theorem d_201_54 : decode (axt_b 201) 54 = .ok (.iload 4, 2) := by decide +kernel
theorem d_201_56 : decode (axt_b 201) 56 = .ok (.iload_n 3, 1) := by decide +kernel
theorem d_201_57 : decode (axt_b 201) 57 = .ok (.if_icmp .ge 46, 3) := by decide +kernel
theorem d_201_60 : decode (axt_b 201) 60 = .ok (.aload_n 0, 1) := by decide +kernel
theorem d_201_61 : decode (axt_b 201) 61 = .ok (.getfield 74, 3) := by decide +kernel
theorem d_201_64 : decode (axt_b 201) 64 = .ok (.sipush 2048, 3) := by decide +kernel
theorem d_201_67 : decode (axt_b 201) 67 = .ok (.iload_n 1, 1) := by decide +kernel
theorem d_201_68 : decode (axt_b 201) 68 = .ok (.imul, 1) := by decide +kernel
theorem d_201_69 : decode (axt_b 201) 69 = .ok (.iload 4, 2) := by decide +kernel
theorem d_201_71 : decode (axt_b 201) 71 = .ok (.iadd, 1) := by decide +kernel
theorem d_201_72 : decode (axt_b 201) 72 = .ok (.aload_n 0, 1) := by decide +kernel
theorem d_201_73 : decode (axt_b 201) 73 = .ok (.getfield 44, 3) := by decide +kernel
theorem d_201_76 : decode (axt_b 201) 76 = .ok (.sipush 8192, 3) := by decide +kernel
theorem d_201_79 : decode (axt_b 201) 79 = .ok (.iload_n 2, 1) := by decide +kernel
theorem d_201_80 : decode (axt_b 201) 80 = .ok (.imul, 1) := by decide +kernel
theorem d_201_81 : decode (axt_b 201) 81 = .ok (.aload_n 0, 1) := by decide +kernel
theorem d_201_82 : decode (axt_b 201) 82 = .ok (.getfield 53, 3) := by decide +kernel
theorem d_201_85 : decode (axt_b 201) 85 = .ok (.iload_n 1, 1) := by decide +kernel
theorem d_201_86 : decode (axt_b 201) 86 = .ok (.iaload, 1) := by decide +kernel
theorem d_201_87 : decode (axt_b 201) 87 = .ok (.iadd, 1) := by decide +kernel
theorem d_201_88 : decode (axt_b 201) 88 = .ok (.iload 4, 2) := by decide +kernel
theorem d_201_90 : decode (axt_b 201) 90 = .ok (.iadd, 1) := by decide +kernel
theorem d_201_91 : decode (axt_b 201) 91 = .ok (.baload, 1) := by decide +kernel
theorem d_201_92 : decode (axt_b 201) 92 = .ok (.sipush 255, 3) := by decide +kernel
theorem d_201_95 : decode (axt_b 201) 95 = .ok (.iand, 1) := by decide +kernel
theorem d_201_96 : decode (axt_b 201) 96 = .ok (.iastore, 1) := by decide +kernel
theorem d_201_97 : decode (axt_b 201) 97 = .ok (.iinc 4 1, 3) := by decide +kernel
theorem d_201_100 : decode (axt_b 201) 100 = .ok (.goto (-46), 3) := by decide +kernel
theorem d_201_103 : decode (axt_b 201) 103 = .ok (.aload_n 0, 1) := by decide +kernel
theorem d_201_104 : decode (axt_b 201) 104 = .ok (.getfield 77, 3) := by decide +kernel
theorem d_201_107 : decode (axt_b 201) 107 = .ok (.iload_n 1, 1) := by decide +kernel
theorem d_201_108 : decode (axt_b 201) 108 = .ok (.iload_n 3, 1) := by decide +kernel
theorem d_201_109 : decode (axt_b 201) 109 = .ok (.iastore, 1) := by decide +kernel
theorem d_201_110 : decode (axt_b 201) 110 = .ok (.iload_n 3, 1) := by decide +kernel
theorem d_201_111 : decode (axt_b 201) 111 = .ok (.ireturn, 1) := by decide +kernel
theorem n_200N {L : Nat} {xs : Nat → Int32} {fr lo m : Nat} {h : ax_H} {fs : List Value} {a12 a14 a15 a30 a31 w c n1 : Nat} {og ff lf pf ql : Nat → Int32} (hfr : 2 ≤ fr) (hlo : 80 ≤ lo) (hc : c ≤ 48) (hw : w < 12) (hn1 : ql (2 * w + 0) = nI n1) (hn2 : n1 ≤ 200) (hog : ∀ i, i < c → ¬ og i < 0 ∧ (og i).toNatClampNeg < 48) (hlf : ∀ f, f < 48 → ¬ lf f < 0 ∧ (lf f).toNatClampNeg ≤ 200) (hv : mfnd ff pf lf og (400 * w + 200 * 0) n1 c 0 = -1) (z12 : fs[12]? = some (.ref a12)) (z14 : fs[14]? = some (.ref a14)) (z15 : fs[15]? = some (.ref a15)) (z20 : fs[20]? = some (.int (nI c))) (z30 : fs[30]? = some (.ref a30)) (z31 : fs[31]? = some (.ref a31)) (hF : ax_hs h [(m, .inr (11, fs)), (a12, .inl (0, 48, .inl og)), (a14, .inl (1, 9600, .inl ff)), (a15, .inl (0, 48, .inl lf)), (a30, .inl (1, 4800, .inl pf)), (a31, .inl (0, 24, .inl ql))]) : ax_M L xs 200 fr lo [.ref m, .int (nI w)] h (fun r h' => r = some (.int (-2)) ∧ h' = h) := by
  show ax_A (ax_step L xs) ((200, 0, fr, lo), [(0, .ref m), (1, .int (nI w))], [], h) _
  refine ar_aload_n 1 d_200_0 rfl rfl ?_
  refine ar_iload_n 2 d_200_1 rfl rfl ?_
  refine ar_iconst 3 (v := 0) d_200_2 rfl (by decide) ?_
  refine ar_call (r := []) (na := 0) (kd := 0) (cm := 194) (fr2 := fr - 1) (lo2 := lo - 23) 6 d_200_3 (ar_hoV (as := [.int (nI w), .int 0]) rfl rfl rfl (hF.at 0 rfl)) rfl (by omega) (show lo - 23 + (19 + 4) = lo by omega) (Nat.le_of_ble_eq_true rfl) (Nat.le_of_ble_eq_true rfl) (n_194 (e := 0) (by omega) (by omega) hc hw (by omega) hn1 hn2 hog hlf (hF.at 0 rfl) z12 z14 z15 z20 z30 z31 (hF.at 1 rfl) (hF.at 2 rfl) (hF.at 3 rfl) (hF.at 4 rfl) (hF.at 5 rfl)) ?_
  intro v hh hq
  obtain ⟨rfl, ehh⟩ := hq
  rw [ehh]
  clear ehh
  refine ar_top (x' := -1) (hv) ?_
  refine ar_istore_n 7 [(0, .ref m), (1, .int (nI w)), (2, .int (-1))] d_200_6 rfl (by decide) rfl ?_
  refine ar_iload_n 8 d_200_7 rfl rfl ?_
  refine ar_if_ge 14 11 d_200_8 (by decide) rfl (fun c => absurd c (by decide)) (fun _ => ?_)
  refine ar_bipush 13 (v := -2) d_200_11 rfl (by decide) ?_
  exact ar_iret d_200_13 rfl rfl (⟨rfl, rfl⟩)
theorem n_201N {L : Nat} {xs : Nat → Int32} {fr lo m : Nat} {h : ax_H} {fs : List Value} {a12 a14 a15 a30 a31 w c n1 : Nat} {og ff lf pf ql : Nat → Int32} (hfr : 2 ≤ fr) (hlo : 80 ≤ lo) (hc : c ≤ 48) (hw : w < 12) (hn1 : ql (2 * w + 0) = nI n1) (hn2 : n1 ≤ 200) (hog : ∀ i, i < c → ¬ og i < 0 ∧ (og i).toNatClampNeg < 48) (hlf : ∀ f, f < 48 → ¬ lf f < 0 ∧ (lf f).toNatClampNeg ≤ 200) (hv : mfnd ff pf lf og (400 * w + 200 * 0) n1 c 0 = -1) (z12 : fs[12]? = some (.ref a12)) (z14 : fs[14]? = some (.ref a14)) (z15 : fs[15]? = some (.ref a15)) (z20 : fs[20]? = some (.int (nI c))) (z30 : fs[30]? = some (.ref a30)) (z31 : fs[31]? = some (.ref a31)) (hF : ax_hs h [(m, .inr (11, fs)), (a12, .inl (0, 48, .inl og)), (a14, .inl (1, 9600, .inl ff)), (a15, .inl (0, 48, .inl lf)), (a30, .inl (1, 4800, .inl pf)), (a31, .inl (0, 24, .inl ql))]) : ax_M L xs 201 fr lo [.ref m, .int (nI w)] h (fun r h' => r = some (.int (-2)) ∧ h' = h) := by
  show ax_A (ax_step L xs) ((201, 0, fr, lo), [(0, .ref m), (1, .int (nI w))], [], h) _
  refine ar_aload_n 1 d_201_0 rfl rfl ?_
  refine ar_iload_n 2 d_201_1 rfl rfl ?_
  refine ar_iconst 3 (v := 0) d_201_2 rfl (by decide) ?_
  refine ar_call (r := []) (na := 0) (kd := 0) (cm := 194) (fr2 := fr - 1) (lo2 := lo - 23) 6 d_201_3 (ar_hoV (as := [.int (nI w), .int 0]) rfl rfl rfl (hF.at 0 rfl)) rfl (by omega) (show lo - 23 + (19 + 4) = lo by omega) (Nat.le_of_ble_eq_true rfl) (Nat.le_of_ble_eq_true rfl) (n_194 (e := 0) (by omega) (by omega) hc hw (by omega) hn1 hn2 hog hlf (hF.at 0 rfl) z12 z14 z15 z20 z30 z31 (hF.at 1 rfl) (hF.at 2 rfl) (hF.at 3 rfl) (hF.at 4 rfl) (hF.at 5 rfl)) ?_
  intro v hh hq
  obtain ⟨rfl, ehh⟩ := hq
  rw [ehh]
  clear ehh
  refine ar_top (x' := -1) (hv) ?_
  refine ar_istore_n 7 [(0, .ref m), (1, .int (nI w)), (2, .int (-1))] d_201_6 rfl (by decide) rfl ?_
  refine ar_iload_n 8 d_201_7 rfl rfl ?_
  refine ar_if_ge 14 11 d_201_8 (by decide) rfl (fun c => absurd c (by decide)) (fun _ => ?_)
  refine ar_bipush 13 (v := -2) d_201_11 rfl (by decide) ?_
  exact ar_iret d_201_13 rfl rfl (⟨rfl, rfl⟩)
theorem n_200F {L : Nat} {xs : Nat → Int32} {fr lo m : Nat} {h : ax_H} {fs : List Value} {a17 a18 a19 a28 to f y z a12 a14 a15 a30 a31 w c n1 : Nat} {zf bf la fa og ff lf pf ql : Nat → Int32} (hfr : 2 ≤ fr) (hlo : 80 ≤ lo) (hc : c ≤ 48) (hw : w < 12) (hn1 : ql (2 * w + 0) = nI n1) (hn2 : n1 ≤ 200) (hog : ∀ i, i < c → ¬ og i < 0 ∧ (og i).toNatClampNeg < 48) (hlf : ∀ f, f < 48 → ¬ lf f < 0 ∧ (lf f).toNatClampNeg ≤ 200) (hv : mfnd ff pf lf og (400 * w + 200 * 0) n1 c 0 = nI f) (hf0 : f < 48) (hzf : zf f = nI y) (hy : y ≤ 8192) (hfa : fa w = nI z) (hz : z ≤ 8192) (hto : y ≤ to) (hto2 : to ≤ 32768) (hfull : 32768 < to - y + z) (z12 : fs[12]? = some (.ref a12)) (z14 : fs[14]? = some (.ref a14)) (z15 : fs[15]? = some (.ref a15)) (z17 : fs[17]? = some (.ref a17)) (z18 : fs[18]? = some (.ref a18)) (z19 : fs[19]? = some (.ref a19)) (z20 : fs[20]? = some (.int (nI c))) (z21 : fs[21]? = some (.int (nI to))) (z28 : fs[28]? = some (.ref a28)) (z30 : fs[30]? = some (.ref a30)) (z31 : fs[31]? = some (.ref a31)) (hF : ax_hs h [(m, .inr (11, fs)), (a12, .inl (0, 48, .inl og)), (a14, .inl (1, 9600, .inl ff)), (a15, .inl (0, 48, .inl lf)), (a30, .inl (1, 4800, .inl pf)), (a31, .inl (0, 24, .inl ql)), (a17, .inl (0, 48, .inl zf)), (a18, .inl (1, 393216, .inl bf)), (a19, .inl (2, 912, .inl la)), (a28, .inl (0, 12, .inl fa))]) : ax_M L xs 200 fr lo [.ref m, .int (nI w)] h (fun r h' => r = some (.int (-4)) ∧ h' = h) := by
  show ax_A (ax_step L xs) ((200, 0, fr, lo), [(0, .ref m), (1, .int (nI w))], [], h) _
  refine ar_aload_n 1 d_200_0 rfl rfl ?_
  refine ar_iload_n 2 d_200_1 rfl rfl ?_
  refine ar_iconst 3 (v := 0) d_200_2 rfl (by decide) ?_
  refine ar_call (r := []) (na := 0) (kd := 0) (cm := 194) (fr2 := fr - 1) (lo2 := lo - 23) 6 d_200_3 (ar_hoV (as := [.int (nI w), .int 0]) rfl rfl rfl (hF.at 0 rfl)) rfl (by omega) (show lo - 23 + (19 + 4) = lo by omega) (Nat.le_of_ble_eq_true rfl) (Nat.le_of_ble_eq_true rfl) (n_194 (e := 0) (by omega) (by omega) hc hw (by omega) hn1 hn2 hog hlf (hF.at 0 rfl) z12 z14 z15 z20 z30 z31 (hF.at 1 rfl) (hF.at 2 rfl) (hF.at 3 rfl) (hF.at 4 rfl) (hF.at 5 rfl)) ?_
  intro v hh hq
  obtain ⟨rfl, ehh⟩ := hq
  rw [ehh]
  clear ehh
  refine ar_top (x' := nI f) (hv) ?_
  refine ar_istore_n 7 [(0, .ref m), (1, .int (nI w)), (2, .int (nI f))] d_200_6 rfl (by decide) rfl ?_
  refine ar_iload_n 8 d_200_7 rfl rfl ?_
  refine ar_if_ge 14 11 d_200_8 (by decide) rfl (fun _ => ?_) (fun c => absurd (nI_pos' (by omega)) c)
  refine ar_aload_n 15 d_200_14 rfl rfl ?_
  refine ar_getf 18 d_200_15 rfl (ci := 11) (k := 17) rfl (hF.at 0 rfl) z17 ?_
  refine ar_iload_n 19 d_200_18 rfl rfl ?_
  refine ar_iald 20 d_200_19 rfl (hF.at 6 rfl) (nI_in (by omega) (by omega)) ?_
  refine ar_top (x' := nI y) (by rw [nI_clamp (by omega)]; exact hzf) ?_
  refine ar_istore_n 21 [(0, .ref m), (1, .int (nI w)), (2, .int (nI f)), (3, .int (nI y))] d_200_20 rfl (by decide) rfl ?_
  refine ar_aload_n 22 d_200_21 rfl rfl ?_
  refine ar_getf 25 d_200_22 rfl (ci := 11) (k := 21) rfl (hF.at 0 rfl) z21 ?_
  refine ar_iload_n 26 d_200_25 rfl rfl ?_
  refine ar_isub 27 d_200_26 rfl ?_
  refine ar_top (x' := nI (to - y)) (by rw [show nI to = nI (to - y) + nI y by rw [nI_add, Nat.sub_add_cancel hto]]; exact Int32.add_sub_cancel _ _) ?_
  refine ar_aload_n 28 d_200_27 rfl rfl ?_
  refine ar_getf 31 d_200_28 rfl (ci := 11) (k := 28) rfl (hF.at 0 rfl) z28 ?_
  refine ar_iload_n 32 d_200_31 rfl rfl ?_
  refine ar_iald 33 d_200_32 rfl (hF.at 9 rfl) (nI_in (by omega) (by omega)) ?_
  refine ar_top (x' := nI z) (by rw [nI_clamp (by omega)]; exact hfa) ?_
  refine ar_iadd 34 d_200_33 rfl ?_
  refine ar_top (x' := nI (to - y + z)) (nI_add _ _) ?_
  refine ar_ldc 36 d_200_34 rfl (v := 32768) rfl ?_
  refine ar_top (x' := nI 32768) (by decide +kernel) ?_
  refine ar_icmp_le 42 39 d_200_36 (by decide) rfl (fun c => absurd c (nI_ge hfull (by omega))) (fun _ => ?_)
  refine ar_bipush 41 (v := -4) d_200_39 rfl (by decide) ?_
  exact ar_iret d_200_41 rfl rfl (⟨rfl, rfl⟩)
theorem n_200Y {L : Nat} {xs : Nat → Int32} {fr lo m n sl : Nat} {h : ax_H} {fs : List Value} {a17 a18 a19 a28 to f y z a12 a14 a15 a30 a31 w c n1 : Nat} {zf bf la fa og ff lf pf ql : Nat → Int32} (hfr : 2 ≤ fr) (hlo : 80 ≤ lo) (hc : c ≤ 48) (hw : w < 12) (hn1 : ql (2 * w + 0) = nI n1) (hn2 : n1 ≤ 200) (hog : ∀ i, i < c → ¬ og i < 0 ∧ (og i).toNatClampNeg < 48) (hlf : ∀ f, f < 48 → ¬ lf f < 0 ∧ (lf f).toNatClampNeg ≤ 200) (hv : mfnd ff pf lf og (400 * w + 200 * 0) n1 c 0 = nI f) (hf0 : f < 48) (hzf : zf f = nI y) (hy : y ≤ 8192) (hfa : fa w = nI z) (hz : z ≤ 8192) (hto : y ≤ to) (hto2 : to ≤ 32768) (hfull : to - y + z ≤ 32768) (hl : fs.length = 39) (z12 : fs[12]? = some (.ref a12)) (z14 : fs[14]? = some (.ref a14)) (z15 : fs[15]? = some (.ref a15)) (z17 : fs[17]? = some (.ref a17)) (z18 : fs[18]? = some (.ref a18)) (z19 : fs[19]? = some (.ref a19)) (z20 : fs[20]? = some (.int (nI c))) (z21 : fs[21]? = some (.int (nI to))) (z28 : fs[28]? = some (.ref a28)) (z30 : fs[30]? = some (.ref a30)) (z31 : fs[31]? = some (.ref a31)) (hF : ax_hs h [(m, .inr (11, fs)), (a12, .inl (0, 48, .inl og)), (a14, .inl (1, 9600, .inl ff)), (a15, .inl (0, 48, .inl lf)), (a30, .inl (1, 4800, .inl pf)), (a31, .inl (0, 24, .inl ql)), (a17, .inl (0, 48, .inl zf)), (a18, .inl (1, 393216, .inl bf)), (a19, .inl (2, 912, .inl la)), (a28, .inl (0, 12, .inl fa))]) (hn : h.1 = n) (hs : h.2.1 = sl) (hn0 : 0 < n) : ax_M L xs 200 fr lo [.ref m, .int (nI w)] h (fun r h' => ∃ fs', r = some (.int (nI y)) ∧ fs'.length = 39 ∧ fs'[21]? = some (.int (nI to + (nI z - nI y))) ∧ (∀ k, k ≠ 21 → fs'[k]? = fs[k]?) ∧ ax_hs h' [(m, .inr (11, fs')), (a12, .inl (0, 48, .inl og)), (a14, .inl (1, 9600, .inl ff)), (a15, .inl (0, 48, .inl lf)), (a30, .inl (1, 4800, .inl pf)), (a31, .inl (0, 24, .inl ql)), (a17, .inl (0, 48, .inl (upd zf f (nI z)))), (a18, .inl (1, 393216, .inl (rgF (fun _ => vp_nar .byte 0) (8192 * f + y) (z - y) bf))), (a19, .inl (2, 912, .inl (laF (19 * f) z la 19))), (a28, .inl (0, 12, .inl fa))] ∧ h'.1 = n ∧ h'.2.1 = sl ∧ ax_fr (fun x => x ∈ [m, a17, a18, a19]) h h') := by
  show ax_A (ax_step L xs) ((200, 0, fr, lo), [(0, .ref m), (1, .int (nI w))], [], h) _
  have hbase : h.1 = n := hn
  have hbasl : h.2.1 = sl := hs
  have hf : ax_fr (fun x => x ∈ [m, a17, a18, a19]) h h := ax_fr.rf
  have hO : ∀ k, k ≠ 21 → fs[k]? = fs[k]? := fun _ _ => rfl
  refine ar_aload_n 1 d_200_0 rfl rfl ?_
  refine ar_iload_n 2 d_200_1 rfl rfl ?_
  refine ar_iconst 3 (v := 0) d_200_2 rfl (by decide) ?_
  refine ar_call (r := []) (na := 0) (kd := 0) (cm := 194) (fr2 := fr - 1) (lo2 := lo - 23) 6 d_200_3 (ar_hoV (as := [.int (nI w), .int 0]) rfl rfl rfl (hF.at 0 rfl)) rfl (by omega) (show lo - 23 + (19 + 4) = lo by omega) (Nat.le_of_ble_eq_true rfl) (Nat.le_of_ble_eq_true rfl) (n_194 (e := 0) (by omega) (by omega) hc hw (by omega) hn1 hn2 hog hlf (hF.at 0 rfl) z12 z14 z15 z20 z30 z31 (hF.at 1 rfl) (hF.at 2 rfl) (hF.at 3 rfl) (hF.at 4 rfl) (hF.at 5 rfl)) ?_
  intro v hh hq
  obtain ⟨rfl, ehh⟩ := hq
  rw [ehh]
  clear ehh
  refine ar_top (x' := nI f) (hv) ?_
  refine ar_istore_n 7 [(0, .ref m), (1, .int (nI w)), (2, .int (nI f))] d_200_6 rfl (by decide) rfl ?_
  refine ar_iload_n 8 d_200_7 rfl rfl ?_
  refine ar_if_ge 14 11 d_200_8 (by decide) rfl (fun _ => ?_) (fun c => absurd (nI_pos' (by omega)) c)
  refine ar_aload_n 15 d_200_14 rfl rfl ?_
  refine ar_getf 18 d_200_15 rfl (ci := 11) (k := 17) rfl (hF.at 0 rfl) z17 ?_
  refine ar_iload_n 19 d_200_18 rfl rfl ?_
  refine ar_iald 20 d_200_19 rfl (hF.at 6 rfl) (nI_in (by omega) (by omega)) ?_
  refine ar_top (x' := nI y) (by rw [nI_clamp (by omega)]; exact hzf) ?_
  refine ar_istore_n 21 [(0, .ref m), (1, .int (nI w)), (2, .int (nI f)), (3, .int (nI y))] d_200_20 rfl (by decide) rfl ?_
  refine ar_aload_n 22 d_200_21 rfl rfl ?_
  refine ar_getf 25 d_200_22 rfl (ci := 11) (k := 21) rfl (hF.at 0 rfl) z21 ?_
  refine ar_iload_n 26 d_200_25 rfl rfl ?_
  refine ar_isub 27 d_200_26 rfl ?_
  refine ar_top (x' := nI (to - y)) (by rw [show nI to = nI (to - y) + nI y by rw [nI_add, Nat.sub_add_cancel hto]]; exact Int32.add_sub_cancel _ _) ?_
  refine ar_aload_n 28 d_200_27 rfl rfl ?_
  refine ar_getf 31 d_200_28 rfl (ci := 11) (k := 28) rfl (hF.at 0 rfl) z28 ?_
  refine ar_iload_n 32 d_200_31 rfl rfl ?_
  refine ar_iald 33 d_200_32 rfl (hF.at 9 rfl) (nI_in (by omega) (by omega)) ?_
  refine ar_top (x' := nI z) (by rw [nI_clamp (by omega)]; exact hfa) ?_
  refine ar_iadd 34 d_200_33 rfl ?_
  refine ar_top (x' := nI (to - y + z)) (nI_add _ _) ?_
  refine ar_ldc 36 d_200_34 rfl (v := 32768) rfl ?_
  refine ar_top (x' := nI 32768) (by decide +kernel) ?_
  refine ar_icmp_le 42 39 d_200_36 (by decide) rfl (fun _ => ?_) (fun c => absurd (nI_le hfull (by omega)) c)
  refine ar_aload_n 43 d_200_42 rfl rfl ?_
  refine ar_iload_n 44 d_200_43 rfl rfl ?_
  refine ar_aload_n 45 d_200_44 rfl rfl ?_
  refine ar_getf 48 d_200_45 rfl (ci := 11) (k := 28) rfl (hF.at 0 rfl) z28 ?_
  refine ar_iload_n 49 d_200_48 rfl rfl ?_
  refine ar_iald 50 d_200_49 rfl (hF.at 9 rfl) (nI_in (by omega) (by omega)) ?_
  refine ar_top (x' := nI z) (by rw [nI_clamp (by omega)]; exact hfa) ?_
  refine ar_call (r := []) (na := 0) (kd := 0) (cm := 199) (fr2 := fr - 1) (lo2 := lo - 23) 53 d_200_50 (ar_hoV (as := [.int (nI f), .int (nI z)]) rfl rfl rfl (hF.at 0 rfl)) rfl (by omega) (show lo - 23 + (19 + 4) = lo by omega) (Nat.le_of_ble_eq_true rfl) (Nat.le_of_ble_eq_true rfl) (n_199 hf0 hz hy hzf hl z17 z18 z19 z21 (hF.sub (F' := [(m, .inr (11, fs)), (a17, .inl (0, 48, .inl zf)), (a18, .inl (1, 393216, .inl bf)), (a19, .inl (2, 912, .inl la))]) [0, 6, 7, 8] rfl rfl) hn hs (by omega)) ?_
  intro v h1 hq
  obtain ⟨fs1, rfl, yl, y21, yO, qF, qn, qs, qf⟩ := hq
  have qF : ax_hs h1 [(m, .inr (11, fs1)), (a17, .inl (0, 48, .inl (upd zf f (nI z)))), (a18, .inl (1, 393216, .inl (rgF (fun _ => vp_nar .byte 0) (8192 * f + y) (z - y) bf))), (a19, .inl (2, 912, .inl (laF (19 * f) z la 19)))] := qF
  replace hF : ax_hs h1 [(a12, .inl (0, 48, .inl og)), (a14, .inl (1, 9600, .inl ff)), (a15, .inl (0, 48, .inl lf)), (a30, .inl (1, 4800, .inl pf)), (a31, .inl (0, 24, .inl ql)), (a28, .inl (0, 12, .inl fa)), (m, .inr (11, fs1)), (a17, .inl (0, 48, .inl (upd zf f (nI z)))), (a18, .inl (1, 393216, .inl (rgF (fun _ => vp_nar .byte 0) (8192 * f + y) (z - y) bf))), (a19, .inl (2, 912, .inl (laF (19 * f) z la 19)))] := ax_hs.call (rest := [(a12, .inl (0, 48, .inl og)), (a14, .inl (1, 9600, .inl ff)), (a15, .inl (0, 48, .inl lf)), (a30, .inl (1, 4800, .inl pf)), (a31, .inl (0, 24, .inl ql)), (a28, .inl (0, 12, .inl fa))]) [0, 6, 7, 8] [1, 2, 3, 4, 5, 9] hF qf qF rfl rfl rfl [0, 6, 7, 8] rfl rfl [0, 6, 7, 8] (news := []) rfl rfl (fun _ z => absurd z List.not_mem_nil) rfl
  replace hf := hf.trC qf (by intro x hx hB; simp at hB; first | (rcases hB with rfl | rfl | rfl | rfl <;> first | omega | simp) | omega | simp [hB])
  replace hn : h1.1 = n := by omega
  replace hs : h1.2.1 = sl := by omega
  have qf0 := qf
  clear qF qn qs qf
  replace z12 : fs1[12]? = some (.ref a12) := (yO 12 (by decide)).trans z12
  replace z14 : fs1[14]? = some (.ref a14) := (yO 14 (by decide)).trans z14
  replace z15 : fs1[15]? = some (.ref a15) := (yO 15 (by decide)).trans z15
  replace z20 : fs1[20]? = some (.int (nI c)) := (yO 20 (by decide)).trans z20
  replace z30 : fs1[30]? = some (.ref a30) := (yO 30 (by decide)).trans z30
  replace z31 : fs1[31]? = some (.ref a31) := (yO 31 (by decide)).trans z31
  replace z17 : fs1[17]? = some (.ref a17) := (yO 17 (by decide)).trans z17
  replace z18 : fs1[18]? = some (.ref a18) := (yO 18 (by decide)).trans z18
  replace z19 : fs1[19]? = some (.ref a19) := (yO 19 (by decide)).trans z19
  replace z28 : fs1[28]? = some (.ref a28) := (yO 28 (by decide)).trans z28
  replace z21 : fs1[21]? = some (.int (nI to + (nI z - nI y))) := y21
  replace hO : ∀ k, k ≠ 21 → fs1[k]? = fs[k]? := fun k y21 => (yO k y21).trans (hO k y21)
  replace hl := yl
  clear yl yO y21
  refine ar_iload_n 54 d_200_53 rfl rfl ?_
  have hF9 := hF.sub (F' := [(m, .inr (11, fs1)), (a12, .inl (0, 48, .inl og)), (a14, .inl (1, 9600, .inl ff)), (a15, .inl (0, 48, .inl lf)), (a30, .inl (1, 4800, .inl pf)), (a31, .inl (0, 24, .inl ql)), (a17, .inl (0, 48, .inl (upd zf f (nI z)))), (a18, .inl (1, 393216, .inl (rgF (fun _ => vp_nar .byte 0) (8192 * f + y) (z - y) bf))), (a19, .inl (2, 912, .inl (laF (19 * f) z la 19))), (a28, .inl (0, 12, .inl fa))]) [6, 0, 1, 2, 3, 4, 7, 8, 9, 5] rfl rfl
  exact ar_iret d_200_54 rfl rfl (⟨_, rfl, hl, z21, hO, hF9, hn, hs, hf⟩)


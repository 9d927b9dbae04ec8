/-! the reference, exactly: rename, swap: what is refused -/
theorem d_204_0 : decode (axt_b 204) 0 = .ok (.aload_n 0, 1) := by decide +kernel
theorem d_204_1 : decode (axt_b 204) 1 = .ok (.iload_n 1, 1) := by decide +kernel
theorem d_204_2 : decode (axt_b 204) 2 = .ok (.iconst 0, 1) := by decide +kernel
theorem d_204_3 : decode (axt_b 204) 3 = .ok (.invokevirtual 139, 3) := by decide +kernel
theorem d_204_6 : decode (axt_b 204) 6 = .ok (.istore_n 2, 1) := by decide +kernel
theorem d_204_7 : decode (axt_b 204) 7 = .ok (.iload_n 2, 1) := by decide +kernel
theorem d_204_8 : decode (axt_b 204) 8 = .ok (.ifCond .ge 6, 3) := by decide +kernel
theorem d_204_11 : decode (axt_b 204) 11 = .ok (.bipush (-2), 2) := by decide +kernel
theorem d_204_13 : decode (axt_b 204) 13 = .ok (.ireturn, 1) := by decide +kernel
theorem d_204_14 : decode (axt_b 204) 14 = .ok (.aload_n 0, 1) := by decide +kernel
theorem d_204_15 : decode (axt_b 204) 15 = .ok (.iload_n 1, 1) := by decide +kernel
theorem d_204_16 : decode (axt_b 204) 16 = .ok (.iconst 1, 1) := by decide +kernel
theorem d_204_17 : decode (axt_b 204) 17 = .ok (.invokevirtual 139, 3) := by decide +kernel
theorem d_204_20 : decode (axt_b 204) 20 = .ok (.istore_n 3, 1) := by decide +kernel
theorem d_204_21 : decode (axt_b 204) 21 = .ok (.iload_n 3, 1) := by decide +kernel
theorem d_204_22 : decode (axt_b 204) 22 = .ok (.iload_n 2, 1) := by decide +kernel
theorem d_204_23 : decode (axt_b 204) 23 = .ok (.if_icmp .ne 5, 3) := by decide +kernel
theorem d_204_26 : decode (axt_b 204) 26 = .ok (.iconst 0, 1) := by decide +kernel
theorem d_204_27 : decode (axt_b 204) 27 = .ok (.ireturn, 1) := by decide +kernel
theorem d_204_28 : decode (axt_b 204) 28 = .ok (.iload_n 3, 1) := by decide +kernel
theorem d_204_29 : decode (axt_b 204) 29 = .ok (.ifCond .lt 9, 3) := by decide +kernel
theorem d_204_32 : decode (axt_b 204) 32 = .ok (.aload_n 0, 1) := by decide +kernel
theorem d_204_33 : decode (axt_b 204) 33 = .ok (.iload_n 3, 1) := by decide +kernel
theorem d_204_34 : decode (axt_b 204) 34 = .ok (.invokevirtual 151, 3) := by decide +kernel
theorem d_204_37 : decode (axt_b 204) 37 = .ok (.pop, 1) := by decide +kernel
theorem d_204_38 : decode (axt_b 204) 38 = .ok (.aload_n 0, 1) := by decide +kernel
theorem d_204_39 : decode (axt_b 204) 39 = .ok (.iload_n 2, 1) := by decide +kernel
theorem d_204_40 : decode (axt_b 204) 40 = .ok (.invokevirtual 133, 3) := by decide +kernel
theorem d_204_43 : decode (axt_b 204) 43 = .ok (.aload_n 0, 1) := by decide +kernel
theorem d_204_44 : decode (axt_b 204) 44 = .ok (.iload_n 2, 1) := by decide +kernel
theorem d_204_45 : decode (axt_b 204) 45 = .ok (.iload_n 1, 1) := by decide +kernel
theorem d_204_46 : decode (axt_b 204) 46 = .ok (.iconst 1, 1) := by decide +kernel
theorem d_204_47 : decode (axt_b 204) 47 = .ok (.invokevirtual 129, 3) := by decide +kernel
theorem d_204_50 : decode (axt_b 204) 50 = .ok (.iload_n 3, 1) := by decide +kernel
theorem d_204_51 : decode (axt_b 204) 51 = .ok (.ifCond .lt 7, 3) := by decide +kernel
theorem d_204_54 : decode (axt_b 204) 54 = .ok (.iconst 1, 1) := by decide +kernel
theorem d_204_55 : decode (axt_b 204) 55 = .ok (.goto 4, 3) := by decide +kernel
theorem d_204_58 : decode (axt_b 204) 58 = .ok (.iconst 0, 1) := by decide +kernel
theorem d_204_59 : decode (axt_b 204) 59 = .ok (.ireturn, 1) := by decide +kernel
theorem d_205_0 : decode (axt_b 205) 0 = .ok (.aload_n 0, 1) := by decide +kernel
theorem d_205_1 : decode (axt_b 205) 1 = .ok (.iload_n 1, 1) := by decide +kernel
theorem d_205_2 : decode (axt_b 205) 2 = .ok (.iconst 0, 1) := by decide +kernel
theorem d_205_3 : decode (axt_b 205) 3 = .ok (.invokevirtual 139, 3) := by decide +kernel
theorem d_205_6 : decode (axt_b 205) 6 = .ok (.istore_n 2, 1) := by decide +kernel
theorem d_205_7 : decode (axt_b 205) 7 = .ok (.aload_n 0, 1) := by decide +kernel
theorem d_205_8 : decode (axt_b 205) 8 = .ok (.iload_n 1, 1) := by decide +kernel
theorem d_205_9 : decode (axt_b 205) 9 = .ok (.iconst 1, 1) := by decide +kernel
theorem d_205_10 : decode (axt_b 205) 10 = .ok (.invokevirtual 139, 3) := by decide +kernel
theorem d_205_13 : decode (axt_b 205) 13 = .ok (.istore_n 3, 1) := by decide +kernel
theorem d_205_14 : decode (axt_b 205) 14 = .ok (.iload_n 2, 1) := by decide +kernel
theorem d_205_15 : decode (axt_b 205) 15 = .ok (.ifCond .lt 7, 3) := by decide +kernel
theorem d_205_18 : decode (axt_b 205) 18 = .ok (.iload_n 3, 1) := by decide +kernel
theorem d_205_19 : decode (axt_b 205) 19 = .ok (.ifCond .ge 6, 3) := by decide +kernel
theorem d_205_22 : decode (axt_b 205) 22 = .ok (.bipush (-2), 2) := by decide +kernel
theorem d_205_24 : decode (axt_b 205) 24 = .ok (.ireturn, 1) := by decide +kernel
theorem d_205_25 : decode (axt_b 205) 25 = .ok (.iload_n 2, 1) := by decide +kernel
theorem d_205_26 : decode (axt_b 205) 26 = .ok (.iload_n 3, 1) := by decide +kernel
theorem d_205_27 : decode (axt_b 205) 27 = .ok (.if_icmp .ne 5, 3) := by decide +kernel
theorem d_205_30 : decode (axt_b 205) 30 = .ok (.iconst 0, 1) := by decide +kernel
theorem d_205_31 : decode (axt_b 205) 31 = .ok (.ireturn, 1) := by decide +kernel
theorem d_205_32 : decode (axt_b 205) 32 = .ok (.aload_n 0, 1) := by decide +kernel
theorem d_205_33 : decode (axt_b 205) 33 = .ok (.iload_n 2, 1) := by decide +kernel
theorem d_205_34 : decode (axt_b 205) 34 = .ok (.invokevirtual 133, 3) := by decide +kernel
theorem d_205_37 : decode (axt_b 205) 37 = .ok (.aload_n 0, 1) := by decide +kernel
theorem d_205_38 : decode (axt_b 205) 38 = .ok (.iload_n 3, 1) := by decide +kernel
theorem d_205_39 : decode (axt_b 205) 39 = .ok (.invokevirtual 133, 3) := by decide +kernel
theorem d_205_42 : decode (axt_b 205) 42 = .ok (.aload_n 0, 1) := by decide +kernel
theorem d_205_43 : decode (axt_b 205) 43 = .ok (.iload_n 2, 1) := by decide +kernel
theorem d_205_44 : decode (axt_b 205) 44 = .ok (.iload_n 1, 1) := by decide +kernel
theorem d_205_45 : decode (axt_b 205) 45 = .ok (.iconst 1, 1) := by decide +kernel
theorem d_205_46 : decode (axt_b 205) 46 = .ok (.invokevirtual 129, 3) := by decide +kernel
theorem d_205_49 : decode (axt_b 205) 49 = .ok (.aload_n 0, 1) := by decide +kernel
theorem d_205_50 : decode (axt_b 205) 50 = .ok (.iload_n 3, 1) := by decide +kernel
theorem d_205_51 : decode (axt_b 205) 51 = .ok (.iload_n 1, 1) := by decide +kernel
theorem d_205_52 : decode (axt_b 205) 52 = .ok (.iconst 0, 1) := by decide +kernel
theorem d_205_53 : decode (axt_b 205) 53 = .ok (.invokevirtual 129, 3) := by decide +kernel
theorem d_205_56 : decode (axt_b 205) 56 = .ok (.iconst 0, 1) := by decide +kernel
theorem d_205_57 : decode (axt_b 205) 57 = .ok (.ireturn, 1) := by decide +kernel
theorem n_204N {L : Nat} {xs : Nat → Int32} {fr lo m : Nat} {h : ax_H} {fs : List Value} {a12 a14 a15 a30 a31 w c n1 n3 : Nat} {og ff lf pf ql : Nat → Int32} (hfr : 2 ≤ fr) (hlo : 80 ≤ lo) (hc : c ≤ 48) (hw : w < 12) (hn1 : ql (2 * w + 0) = nI n1) (hn2 : n1 ≤ 200) (hm1 : ql (2 * w + 1) = nI n3) (hm2 : n3 ≤ 200) (hog : ∀ i, i < c → ¬ og i < 0 ∧ (og i).toNatClampNeg < 48) (hlf : ∀ f, f < 48 → ¬ lf f < 0 ∧ (lf f).toNatClampNeg ≤ 200) (hv : mfnd ff pf lf og (400 * w + 200 * 0) n1 c 0 = -1) (z12 : fs[12]? = some (.ref a12)) (z14 : fs[14]? = some (.ref a14)) (z15 : fs[15]? = some (.ref a15)) (z20 : fs[20]? = some (.int (nI c))) (z30 : fs[30]? = some (.ref a30)) (z31 : fs[31]? = some (.ref a31)) (hF : ax_hs h [(m, .inr (11, fs)), (a12, .inl (0, 48, .inl og)), (a14, .inl (1, 9600, .inl ff)), (a15, .inl (0, 48, .inl lf)), (a30, .inl (1, 4800, .inl pf)), (a31, .inl (0, 24, .inl ql))]) : ax_M L xs 204 fr lo [.ref m, .int (nI w)] h (fun r h' => r = some (.int (-2)) ∧ h' = h) := by
  show ax_A (ax_step L xs) ((204, 0, fr, lo), [(0, .ref m), (1, .int (nI w))], [], h) _
  refine ar_aload_n 1 d_204_0 rfl rfl ?_
  refine ar_iload_n 2 d_204_1 rfl rfl ?_
  refine ar_iconst 3 (v := 0) d_204_2 rfl (by decide) ?_
  refine ar_call (r := []) (na := 0) (kd := 0) (cm := 194) (fr2 := fr - 1) (lo2 := lo - 23) 6 d_204_3 (ar_hoV (as := [.int (nI w), .int 0]) rfl rfl rfl (hF.at 0 rfl)) rfl (by omega) (show lo - 23 + (19 + 4) = lo by omega) (Nat.le_of_ble_eq_true rfl) (Nat.le_of_ble_eq_true rfl) (n_194 (e := 0) (by omega) (by omega) hc hw (by omega) hn1 hn2 hog hlf (hF.at 0 rfl) z12 z14 z15 z20 z30 z31 (hF.at 1 rfl) (hF.at 2 rfl) (hF.at 3 rfl) (hF.at 4 rfl) (hF.at 5 rfl)) ?_
  intro v hh hq
  obtain ⟨rfl, ehh⟩ := hq
  rw [ehh]
  clear ehh
  refine ar_top (x' := -1) (hv) ?_
  refine ar_istore_n 7 [(0, .ref m), (1, .int (nI w)), (2, .int (-1))] d_204_6 rfl (by decide) rfl ?_
  refine ar_iload_n 8 d_204_7 rfl rfl ?_
  refine ar_if_ge 14 11 d_204_8 (by decide) rfl (fun c => absurd c (by decide)) (fun _ => ?_)
  refine ar_bipush 13 (v := -2) d_204_11 rfl (by decide) ?_
  exact ar_iret d_204_13 rfl rfl (⟨rfl, rfl⟩)
theorem n_204S {L : Nat} {xs : Nat → Int32} {fr lo m : Nat} {h : ax_H} {fs : List Value} {a12 a14 a15 a30 a31 w c n1 n3 : Nat} {og ff lf pf ql : Nat → Int32} {f : Nat} (hfr : 2 ≤ fr) (hlo : 80 ≤ lo) (hc : c ≤ 48) (hw : w < 12) (hn1 : ql (2 * w + 0) = nI n1) (hn2 : n1 ≤ 200) (hm1 : ql (2 * w + 1) = nI n3) (hm2 : n3 ≤ 200) (hog : ∀ i, i < c → ¬ og i < 0 ∧ (og i).toNatClampNeg < 48) (hlf : ∀ f, f < 48 → ¬ lf f < 0 ∧ (lf f).toNatClampNeg ≤ 200) (hf0 : f < 48) (hv : mfnd ff pf lf og (400 * w + 200 * 0) n1 c 0 = nI f) (hv2 : mfnd ff pf lf og (400 * w + 200 * 1) n3 c 0 = nI f) (z12 : fs[12]? = some (.ref a12)) (z14 : fs[14]? = some (.ref a14)) (z15 : fs[15]? = some (.ref a15)) (z20 : fs[20]? = some (.int (nI c))) (z30 : fs[30]? = some (.ref a30)) (z31 : fs[31]? = some (.ref a31)) (hF : ax_hs h [(m, .inr (11, fs)), (a12, .inl (0, 48, .inl og)), (a14, .inl (1, 9600, .inl ff)), (a15, .inl (0, 48, .inl lf)), (a30, .inl (1, 4800, .inl pf)), (a31, .inl (0, 24, .inl ql))]) : ax_M L xs 204 fr lo [.ref m, .int (nI w)] h (fun r h' => r = some (.int 0) ∧ h' = h) := by
  show ax_A (ax_step L xs) ((204, 0, fr, lo), [(0, .ref m), (1, .int (nI w))], [], h) _
  refine ar_aload_n 1 d_204_0 rfl rfl ?_
  refine ar_iload_n 2 d_204_1 rfl rfl ?_
  refine ar_iconst 3 (v := 0) d_204_2 rfl (by decide) ?_
  refine ar_call (r := []) (na := 0) (kd := 0) (cm := 194) (fr2 := fr - 1) (lo2 := lo - 23) 6 d_204_3 (ar_hoV (as := [.int (nI w), .int 0]) rfl rfl rfl (hF.at 0 rfl)) rfl (by omega) (show lo - 23 + (19 + 4) = lo by omega) (Nat.le_of_ble_eq_true rfl) (Nat.le_of_ble_eq_true rfl) (n_194 (e := 0) (by omega) (by omega) hc hw (by omega) hn1 hn2 hog hlf (hF.at 0 rfl) z12 z14 z15 z20 z30 z31 (hF.at 1 rfl) (hF.at 2 rfl) (hF.at 3 rfl) (hF.at 4 rfl) (hF.at 5 rfl)) ?_
  intro v hh hq
  obtain ⟨rfl, ehh⟩ := hq
  rw [ehh]
  clear ehh
  refine ar_top (x' := nI f) (hv) ?_
  refine ar_istore_n 7 [(0, .ref m), (1, .int (nI w)), (2, .int (nI f))] d_204_6 rfl (by decide) rfl ?_
  refine ar_iload_n 8 d_204_7 rfl rfl ?_
  refine ar_if_ge 14 11 d_204_8 (by decide) rfl (fun _ => ?_) (fun c => absurd (nI_pos' (by omega)) c)
  refine ar_aload_n 15 d_204_14 rfl rfl ?_
  refine ar_iload_n 16 d_204_15 rfl rfl ?_
  refine ar_iconst 17 (v := 1) d_204_16 rfl (by decide) ?_
  refine ar_call (r := []) (na := 0) (kd := 0) (cm := 194) (fr2 := fr - 1) (lo2 := lo - 23) 20 d_204_17 (ar_hoV (as := [.int (nI w), .int 1]) rfl rfl rfl (hF.at 0 rfl)) rfl (by omega) (show lo - 23 + (19 + 4) = lo by omega) (Nat.le_of_ble_eq_true rfl) (Nat.le_of_ble_eq_true rfl) (n_194 (e := 1) (by omega) (by omega) hc hw (by omega) hm1 hm2 hog hlf (hF.at 0 rfl) z12 z14 z15 z20 z30 z31 (hF.at 1 rfl) (hF.at 2 rfl) (hF.at 3 rfl) (hF.at 4 rfl) (hF.at 5 rfl)) ?_
  intro v hh hq
  obtain ⟨rfl, ehh⟩ := hq
  rw [ehh]
  clear ehh
  refine ar_top (x' := nI f) (hv2) ?_
  refine ar_istore_n 21 [(0, .ref m), (1, .int (nI w)), (2, .int (nI f)), (3, .int (nI f))] d_204_20 rfl (by decide) rfl ?_
  refine ar_iload_n 22 d_204_21 rfl rfl ?_
  refine ar_iload_n 23 d_204_22 rfl rfl ?_
  refine ar_icmp_ne 28 26 d_204_23 (by decide) rfl (fun c => absurd c (fun z => z rfl)) (fun _ => ?_)
  refine ar_iconst 27 (v := 0) d_204_26 rfl (by decide) ?_
  exact ar_iret d_204_27 rfl rfl (⟨rfl, rfl⟩)
theorem n_205N {L : Nat} {xs : Nat → Int32} {fr lo m : Nat} {h : ax_H} {fs : List Value} {a12 a14 a15 a30 a31 w c n1 n3 : Nat} {og ff lf pf ql : Nat → Int32} {x y : Int32} (hfr : 2 ≤ fr) (hlo : 80 ≤ lo) (hc : c ≤ 48) (hw : w < 12) (hn1 : ql (2 * w + 0) = nI n1) (hn2 : n1 ≤ 200) (hm1 : ql (2 * w + 1) = nI n3) (hm2 : n3 ≤ 200) (hog : ∀ i, i < c → ¬ og i < 0 ∧ (og i).toNatClampNeg < 48) (hlf : ∀ f, f < 48 → ¬ lf f < 0 ∧ (lf f).toNatClampNeg ≤ 200) (hv : mfnd ff pf lf og (400 * w + 200 * 0) n1 c 0 = x) (hv2 : mfnd ff pf lf og (400 * w + 200 * 1) n3 c 0 = y) (hxy : x < 0 ∨ y < 0) (z12 : fs[12]? = some (.ref a12)) (z14 : fs[14]? = some (.ref a14)) (z15 : fs[15]? = some (.ref a15)) (z20 : fs[20]? = some (.int (nI c))) (z30 : fs[30]? = some (.ref a30)) (z31 : fs[31]? = some (.ref a31)) (hF : ax_hs h [(m, .inr (11, fs)), (a12, .inl (0, 48, .inl og)), (a14, .inl (1, 9600, .inl ff)), (a15, .inl (0, 48, .inl lf)), (a30, .inl (1, 4800, .inl pf)), (a31, .inl (0, 24, .inl ql))]) : ax_M L xs 205 fr lo [.ref m, .int (nI w)] h (fun r h' => r = some (.int (-2)) ∧ h' = h) := by
  show ax_A (ax_step L xs) ((205, 0, fr, lo), [(0, .ref m), (1, .int (nI w))], [], h) _
  refine ar_aload_n 1 d_205_0 rfl rfl ?_
  refine ar_iload_n 2 d_205_1 rfl rfl ?_
  refine ar_iconst 3 (v := 0) d_205_2 rfl (by decide) ?_
  refine ar_call (r := []) (na := 0) (kd := 0) (cm := 194) (fr2 := fr - 1) (lo2 := lo - 23) 6 d_205_3 (ar_hoV (as := [.int (nI w), .int 0]) rfl rfl rfl (hF.at 0 rfl)) rfl (by omega) (show lo - 23 + (19 + 4) = lo by omega) (Nat.le_of_ble_eq_true rfl) (Nat.le_of_ble_eq_true rfl) (n_194 (e := 0) (by omega) (by omega) hc hw (by omega) hn1 hn2 hog hlf (hF.at 0 rfl) z12 z14 z15 z20 z30 z31 (hF.at 1 rfl) (hF.at 2 rfl) (hF.at 3 rfl) (hF.at 4 rfl) (hF.at 5 rfl)) ?_
  intro v hh hq
  obtain ⟨rfl, ehh⟩ := hq
  rw [ehh]
  clear ehh
  refine ar_top (x' := x) (hv) ?_
  refine ar_istore_n 7 [(0, .ref m), (1, .int (nI w)), (2, .int x)] d_205_6 rfl (by decide) rfl ?_
  refine ar_aload_n 8 d_205_7 rfl rfl ?_
  refine ar_iload_n 9 d_205_8 rfl rfl ?_
  refine ar_iconst 10 (v := 1) d_205_9 rfl (by decide) ?_
  refine ar_call (r := []) (na := 0) (kd := 0) (cm := 194) (fr2 := fr - 1) (lo2 := lo - 23) 13 d_205_10 (ar_hoV (as := [.int (nI w), .int 1]) rfl rfl rfl (hF.at 0 rfl)) rfl (by omega) (show lo - 23 + (19 + 4) = lo by omega) (Nat.le_of_ble_eq_true rfl) (Nat.le_of_ble_eq_true rfl) (n_194 (e := 1) (by omega) (by omega) hc hw (by omega) hm1 hm2 hog hlf (hF.at 0 rfl) z12 z14 z15 z20 z30 z31 (hF.at 1 rfl) (hF.at 2 rfl) (hF.at 3 rfl) (hF.at 4 rfl) (hF.at 5 rfl)) ?_
  intro v hh hq
  obtain ⟨rfl, ehh⟩ := hq
  rw [ehh]
  clear ehh
  refine ar_top (x' := y) (hv2) ?_
  refine ar_istore_n 14 [(0, .ref m), (1, .int (nI w)), (2, .int x), (3, .int y)] d_205_13 rfl (by decide) rfl ?_
  refine ar_iload_n 15 d_205_14 rfl rfl ?_
  refine ar_if_lt 22 18 d_205_15 (by decide) rfl (fun c1 => ?_) (fun c1 => ?_)
  · refine ar_bipush 24 (v := -2) d_205_22 rfl (by decide) ?_
    exact ar_iret d_205_24 rfl rfl (⟨rfl, rfl⟩)
  · refine ar_iload_n 19 d_205_18 rfl rfl ?_
    refine ar_if_ge 25 22 d_205_19 (by decide) rfl (fun c => absurd c (Int32.not_le.mpr (hxy.resolve_left c1))) (fun _ => ?_)
    refine ar_bipush 24 (v := -2) d_205_22 rfl (by decide) ?_
    exact ar_iret d_205_24 rfl rfl (⟨rfl, rfl⟩)
theorem n_205S {L : Nat} {xs : Nat → Int32} {fr lo m : Nat} {h : ax_H} {fs : List Value} {a12 a14 a15 a30 a31 w c n1 n3 : Nat} {og ff lf pf ql : Nat → Int32} {f : Nat} (hfr : 2 ≤ fr) (hlo : 80 ≤ lo) (hc : c ≤ 48) (hw : w < 12) (hn1 : ql (2 * w + 0) = nI n1) (hn2 : n1 ≤ 200) (hm1 : ql (2 * w + 1) = nI n3) (hm2 : n3 ≤ 200) (hog : ∀ i, i < c → ¬ og i < 0 ∧ (og i).toNatClampNeg < 48) (hlf : ∀ f, f < 48 → ¬ lf f < 0 ∧ (lf f).toNatClampNeg ≤ 200) (hf0 : f < 48) (hv : mfnd ff pf lf og (400 * w + 200 * 0) n1 c 0 = nI f) (hv2 : mfnd ff pf lf og (400 * w + 200 * 1) n3 c 0 = nI f) (z12 : fs[12]? = some (.ref a12)) (z14 : fs[14]? = some (.ref a14)) (z15 : fs[15]? = some (.ref a15)) (z20 : fs[20]? = some (.int (nI c))) (z30 : fs[30]? = some (.ref a30)) (z31 : fs[31]? = some (.ref a31)) (hF : ax_hs h [(m, .inr (11, fs)), (a12, .inl (0, 48, .inl og)), (a14, .inl (1, 9600, .inl ff)), (a15, .inl (0, 48, .inl lf)), (a30, .inl (1, 4800, .inl pf)), (a31, .inl (0, 24, .inl ql))]) : ax_M L xs 205 fr lo [.ref m, .int (nI w)] h (fun r h' => r = some (.int 0) ∧ h' = h) := by
  show ax_A (ax_step L xs) ((205, 0, fr, lo), [(0, .ref m), (1, .int (nI w))], [], h) _
  refine ar_aload_n 1 d_205_0 rfl rfl ?_
  refine ar_iload_n 2 d_205_1 rfl rfl ?_
  refine ar_iconst 3 (v := 0) d_205_2 rfl (by decide) ?_
  refine ar_call (r := []) (na := 0) (kd := 0) (cm := 194) (fr2 := fr - 1) (lo2 := lo - 23) 6 d_205_3 (ar_hoV (as := [.int (nI w), .int 0]) rfl rfl rfl (hF.at 0 rfl)) rfl (by omega) (show lo - 23 + (19 + 4) = lo by omega) (Nat.le_of_ble_eq_true rfl) (Nat.le_of_ble_eq_true rfl) (n_194 (e := 0) (by omega) (by omega) hc hw (by omega) hn1 hn2 hog hlf (hF.at 0 rfl) z12 z14 z15 z20 z30 z31 (hF.at 1 rfl) (hF.at 2 rfl) (hF.at 3 rfl) (hF.at 4 rfl) (hF.at 5 rfl)) ?_
  intro v hh hq
  obtain ⟨rfl, ehh⟩ := hq
  rw [ehh]
  clear ehh
  refine ar_top (x' := nI f) (hv) ?_
  refine ar_istore_n 7 [(0, .ref m), (1, .int (nI w)), (2, .int (nI f))] d_205_6 rfl (by decide) rfl ?_
  refine ar_aload_n 8 d_205_7 rfl rfl ?_
  refine ar_iload_n 9 d_205_8 rfl rfl ?_
  refine ar_iconst 10 (v := 1) d_205_9 rfl (by decide) ?_
  refine ar_call (r := []) (na := 0) (kd := 0) (cm := 194) (fr2 := fr - 1) (lo2 := lo - 23) 13 d_205_10 (ar_hoV (as := [.int (nI w), .int 1]) rfl rfl rfl (hF.at 0 rfl)) rfl (by omega) (show lo - 23 + (19 + 4) = lo by omega) (Nat.le_of_ble_eq_true rfl) (Nat.le_of_ble_eq_true rfl) (n_194 (e := 1) (by omega) (by omega) hc hw (by omega) hm1 hm2 hog hlf (hF.at 0 rfl) z12 z14 z15 z20 z30 z31 (hF.at 1 rfl) (hF.at 2 rfl) (hF.at 3 rfl) (hF.at 4 rfl) (hF.at 5 rfl)) ?_
  intro v hh hq
  obtain ⟨rfl, ehh⟩ := hq
  rw [ehh]
  clear ehh
  refine ar_top (x' := nI f) (hv2) ?_
  refine ar_istore_n 14 [(0, .ref m), (1, .int (nI w)), (2, .int (nI f)), (3, .int (nI f))] d_205_13 rfl (by decide) rfl ?_
  refine ar_iload_n 15 d_205_14 rfl rfl ?_
  refine ar_if_lt 22 18 d_205_15 (by decide) rfl (fun c => absurd c (nI_pos (by omega))) (fun _ => ?_)
  refine ar_iload_n 19 d_205_18 rfl rfl ?_
  refine ar_if_ge 25 22 d_205_19 (by decide) rfl (fun _ => ?_) (fun c => absurd (nI_pos' (by omega)) c)
  refine ar_iload_n 26 d_205_25 rfl rfl ?_
  refine ar_iload_n 27 d_205_26 rfl rfl ?_
  refine ar_icmp_ne 32 30 d_205_27 (by decide) rfl (fun c => absurd c (fun z => z rfl)) (fun _ => ?_)
  refine ar_iconst 31 (v := 0) d_205_30 rfl (by decide) ?_
  exact ar_iret d_205_31 rfl rfl (⟨rfl, rfl⟩)


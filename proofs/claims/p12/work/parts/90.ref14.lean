/-! the reference, exactly: write to a new FILE -/
theorem n_198G0 {L : Nat} {xs : Nat → Int32} {fr lo m : Nat} {h : ax_H} {fs : List Value} {a13 a16 a17 a18 a19 a28 a32 a33 to d a t z a12 a14 a15 a30 a31 w c n1 : Nat} {us jf zf bf la fa ot tl og ff lf pf ql : Nat → Int32} (hfr : 3 ≤ fr) (hlo : 110 ≤ lo) (hc : c ≤ 48) (hw : w < 12) (hn1 : ql (2 * w + 0) = nI n1) (hn2 : n1 ≤ 200) (hog : ∀ i, i < c → ¬ og i < 0 ∧ (og i).toNatClampNeg < 48) (hlf : ∀ f, f < 48 → ¬ lf f < 0 ∧ (lf f).toNatClampNeg ≤ 200) (hv : mfnd ff pf lf og (400 * w + 200 * 0) n1 c 0 = -1) (htl : tl w = nI t) (ht : t ≤ 2048) (hfa : fa w = nI a) (ha : a ≤ 8192) (hz : (t = 0 ∧ z = 0) ∨ (0 < t ∧ z = a + t)) (hto2 : to ≤ 32768) (hfull : c = 48 ∨ 8192 < z ∨ 32768 < to + z) (z12 : fs[12]? = some (.ref a12)) (z13 : fs[13]? = some (.ref a13)) (z14 : fs[14]? = some (.ref a14)) (z15 : fs[15]? = some (.ref a15)) (z16 : fs[16]? = some (.ref a16)) (z17 : fs[17]? = some (.ref a17)) (z18 : fs[18]? = some (.ref a18)) (z19 : fs[19]? = some (.ref a19)) (z20 : fs[20]? = some (.int (nI c))) (z21 : fs[21]? = some (.int (nI to))) (z28 : fs[28]? = some (.ref a28)) (z30 : fs[30]? = some (.ref a30)) (z31 : fs[31]? = some (.ref a31)) (z32 : fs[32]? = some (.ref a32)) (z33 : fs[33]? = some (.ref a33)) (hF : ax_hs h [(m, .inr (11, fs)), (a12, .inl (0, 48, .inl og)), (a14, .inl (1, 9600, .inl ff)), (a15, .inl (0, 48, .inl lf)), (a30, .inl (1, 4800, .inl pf)), (a31, .inl (0, 24, .inl ql)), (a13, .inl (2, 48, .inl us)), (a16, .inl (0, 48, .inl jf)), (a17, .inl (0, 48, .inl zf)), (a18, .inl (1, 393216, .inl bf)), (a19, .inl (2, 912, .inl la)), (a28, .inl (0, 12, .inl fa)), (a32, .inl (1, 24576, .inl ot)), (a33, .inl (0, 12, .inl tl))]) : ax_M L xs 198 fr lo [.ref m, .int (nI w), .int (nI d), .int 0] h (fun r h' => r = some (.int (-4)) ∧ h' = h) := by
  show ax_A (ax_step L xs) ((198, 0, fr, lo), [(0, .ref m), (1, .int (nI w)), (2, .int (nI d)), (3, .int 0)], [], h) _
  have key : ax_A (ax_step L xs) ((198, 78, fr, lo), [(0, .ref m), (1, .int (nI w)), (2, .int (nI d)), (3, .int 0), (4, .int (-1)), (5, .int 0), (6, .int (nI t)), (7, .int (nI a)), (8, .int (nI z))], [], h) (fun r h' => r = some (.int (-4)) ∧ h' = h) := by
    refine ar_iload 80 d_198_78 rfl rfl ?_
    refine ar_if_ge 92 83 d_198_80 (by decide) rfl (fun c => absurd c (by decide)) (fun _ => ?_)
    refine ar_aload_n 84 d_198_83 rfl rfl ?_
    refine ar_getf 87 d_198_84 rfl (ci := 11) (k := 20) rfl (hF.at 0 rfl) z20 ?_
    refine ar_bipush 89 (v := 48) d_198_87 rfl (by decide) ?_
    refine ar_top (x' := nI 48) rfl ?_
    refine ar_icmp_eq 115 92 d_198_89 (by decide) rfl (fun c0 => ?_) (fun c0 => ?_)
    · refine ar_bipush 117 (v := -4) d_198_115 rfl (by decide) ?_
      exact ar_iret d_198_117 rfl rfl (⟨rfl, rfl⟩)
    · have k0 : ¬ c = 48 := fun z => c0 (by rw [z])
      refine ar_iload 94 d_198_92 rfl rfl ?_
      refine ar_sipush 97 (v := 8192) d_198_94 rfl (by decide) ?_
      refine ar_top (x' := nI 8192) rfl ?_
      refine ar_icmp_gt 115 100 d_198_97 (by decide) rfl (fun c1 => ?_) (fun c1 => ?_)
      · refine ar_bipush 117 (v := -4) d_198_115 rfl (by decide) ?_
        exact ar_iret d_198_117 rfl rfl (⟨rfl, rfl⟩)
      · have k1 : z ≤ 8192 := Nat.le_of_not_lt (fun q => c1 (nI_lt q (by omega)))
        refine ar_aload_n 101 d_198_100 rfl rfl ?_
        refine ar_getf 104 d_198_101 rfl (ci := 11) (k := 21) rfl (hF.at 0 rfl) z21 ?_
        refine ar_iload 106 d_198_104 rfl rfl ?_
        refine ar_isub 107 d_198_106 rfl ?_
        refine ar_top (x' := nI to) (Int32.sub_zero _) ?_
        refine ar_iload 109 d_198_107 rfl rfl ?_
        refine ar_iadd 110 d_198_109 rfl ?_
        refine ar_top (x' := nI (to + z)) (nI_add _ _) ?_
        refine ar_ldc 112 d_198_110 rfl (v := 32768) rfl ?_
        refine ar_top (x' := nI 32768) (by decide +kernel) ?_
        refine ar_icmp_le 118 115 d_198_112 (by decide) rfl (fun c => absurd c (nI_ge (by omega) (by omega))) (fun _ => ?_)
        refine ar_bipush 117 (v := -4) d_198_115 rfl (by decide) ?_
        exact ar_iret d_198_117 rfl rfl (⟨rfl, rfl⟩)
  refine ar_aload_n 1 d_198_0 rfl rfl ?_
  refine ar_iload_n 2 d_198_1 rfl rfl ?_
  refine ar_iconst 3 (v := 0) d_198_2 rfl (by decide) ?_
  refine ar_call (r := []) (na := 0) (kd := 0) (cm := 194) (fr2 := fr - 1) (lo2 := lo - 23) 6 d_198_3 (ar_hoV (as := [.int (nI w), .int 0]) rfl rfl rfl (hF.at 0 rfl)) rfl (by omega) (show lo - 23 + (19 + 4) = lo by omega) (Nat.le_of_ble_eq_true rfl) (Nat.le_of_ble_eq_true rfl) (n_194 (e := 0) (by omega) (by omega) hc hw (by omega) hn1 hn2 hog hlf (hF.at 0 rfl) z12 z14 z15 z20 z30 z31 (hF.at 1 rfl) (hF.at 2 rfl) (hF.at 3 rfl) (hF.at 4 rfl) (hF.at 5 rfl)) ?_
  intro v hh hq
  obtain ⟨rfl, ehh⟩ := hq
  rw [ehh]
  clear ehh
  refine ar_top (x' := -1) (hv) ?_
  refine ar_istore 8 [(0, .ref m), (1, .int (nI w)), (2, .int (nI d)), (3, .int 0), (4, .int (-1))] d_198_6 rfl (by decide) rfl ?_
  refine ar_iload 10 d_198_8 rfl rfl ?_
  refine ar_if_ge 17 13 d_198_10 (by decide) rfl (fun c => absurd c (by decide)) (fun _ => ?_)
  refine ar_iconst 14 (v := 0) d_198_13 rfl (by decide) ?_
  refine ar_goto 24 d_198_14 (by decide) ?_
  refine ar_istore 26 [(0, .ref m), (1, .int (nI w)), (2, .int (nI d)), (3, .int 0), (4, .int (-1)), (5, .int 0)] d_198_24 rfl (by decide) rfl ?_
  refine ar_aload_n 27 d_198_26 rfl rfl ?_
  refine ar_getf 30 d_198_27 rfl (ci := 11) (k := 33) rfl (hF.at 0 rfl) z33 ?_
  refine ar_iload_n 31 d_198_30 rfl rfl ?_
  refine ar_iald 32 d_198_31 rfl (hF.at 13 rfl) (nI_in (by omega) (by omega)) ?_
  refine ar_top (x' := nI t) (by rw [nI_clamp (by omega)]; exact htl) ?_
  refine ar_istore 34 [(0, .ref m), (1, .int (nI w)), (2, .int (nI d)), (3, .int 0), (4, .int (-1)), (5, .int 0), (6, .int (nI t))] d_198_32 rfl (by decide) rfl ?_
  refine ar_iload_n 35 d_198_34 rfl rfl ?_
  refine ar_if_eq 43 38 d_198_35 (by decide) rfl (fun _ => ?_) (fun c => absurd (rfl) c)
  refine ar_aload_n 44 d_198_43 rfl rfl ?_
  refine ar_getf 47 d_198_44 rfl (ci := 11) (k := 28) rfl (hF.at 0 rfl) z28 ?_
  refine ar_iload_n 48 d_198_47 rfl rfl ?_
  refine ar_iald 49 d_198_48 rfl (hF.at 11 rfl) (nI_in (by omega) (by omega)) ?_
  refine ar_top (x' := nI a) (by rw [nI_clamp (by omega)]; exact hfa) ?_
  refine ar_istore 51 [(0, .ref m), (1, .int (nI w)), (2, .int (nI d)), (3, .int 0), (4, .int (-1)), (5, .int 0), (6, .int (nI t)), (7, .int (nI a))] d_198_49 rfl (by decide) rfl ?_
  refine ar_iload 53 d_198_51 rfl rfl ?_
  refine ar_if_eq 66 56 d_198_53 (by decide) rfl (fun c1 => ?_) (fun c1 => ?_)
  · have k1 : t = 0 := nI_inj (b := 0) (by omega) (by omega) c1
    have k2 : z = 0 := by omega
    subst k2
    refine ar_iload 68 d_198_66 rfl rfl ?_
    refine ar_goto 76 d_198_68 (by decide) ?_
    refine ar_istore 78 [(0, .ref m), (1, .int (nI w)), (2, .int (nI d)), (3, .int 0), (4, .int (-1)), (5, .int 0), (6, .int (nI t)), (7, .int (nI a)), (8, .int 0)] d_198_76 rfl (by decide) rfl ?_
    exact key
  · have k0 : 0 < t := Nat.pos_of_ne_zero (fun z => c1 (by rw [z]; rfl))
    have k2 : z = a + t := by omega
    subst k2
    refine ar_iload 58 d_198_56 rfl rfl ?_
    refine ar_iload 60 d_198_58 rfl rfl ?_
    refine ar_iadd 61 d_198_60 rfl ?_
    refine ar_top (x' := nI (a + t)) (nI_add a t) ?_
    refine ar_iload 63 d_198_61 rfl rfl ?_
    refine ar_icmp_ge 71 66 d_198_63 (by decide) rfl (fun _ => ?_) (fun c => absurd (nI_pos' (by omega)) c)
    refine ar_iload 73 d_198_71 rfl rfl ?_
    refine ar_iload 75 d_198_73 rfl rfl ?_
    refine ar_iadd 76 d_198_75 rfl ?_
    refine ar_top (x' := nI (a + t)) (nI_add a t) ?_
    refine ar_istore 78 [(0, .ref m), (1, .int (nI w)), (2, .int (nI d)), (3, .int 0), (4, .int (-1)), (5, .int 0), (6, .int (nI t)), (7, .int (nI a)), (8, .int (nI (a + t)))] d_198_76 rfl (by decide) rfl ?_
    exact key
theorem n_198G1 {L : Nat} {xs : Nat → Int32} {fr lo m : Nat} {h : ax_H} {fs : List Value} {a13 a16 a17 a18 a19 a28 a32 a33 to d a t z a12 a14 a15 a30 a31 w c n1 : Nat} {us jf zf bf la fa ot tl og ff lf pf ql : Nat → Int32} (hfr : 3 ≤ fr) (hlo : 110 ≤ lo) (hc : c ≤ 48) (hw : w < 12) (hn1 : ql (2 * w + 0) = nI n1) (hn2 : n1 ≤ 200) (hog : ∀ i, i < c → ¬ og i < 0 ∧ (og i).toNatClampNeg < 48) (hlf : ∀ f, f < 48 → ¬ lf f < 0 ∧ (lf f).toNatClampNeg ≤ 200) (hv : mfnd ff pf lf og (400 * w + 200 * 0) n1 c 0 = -1) (htl : tl w = nI t) (ht : t ≤ 2048) (hay : a = 0) (hz : (t = 0 ∧ z = 0) ∨ (0 < t ∧ z = a + t)) (hto2 : to ≤ 32768) (hfull : c = 48 ∨ 8192 < z ∨ 32768 < to + z) (z12 : fs[12]? = some (.ref a12)) (z13 : fs[13]? = some (.ref a13)) (z14 : fs[14]? = some (.ref a14)) (z15 : fs[15]? = some (.ref a15)) (z16 : fs[16]? = some (.ref a16)) (z17 : fs[17]? = some (.ref a17)) (z18 : fs[18]? = some (.ref a18)) (z19 : fs[19]? = some (.ref a19)) (z20 : fs[20]? = some (.int (nI c))) (z21 : fs[21]? = some (.int (nI to))) (z28 : fs[28]? = some (.ref a28)) (z30 : fs[30]? = some (.ref a30)) (z31 : fs[31]? = some (.ref a31)) (z32 : fs[32]? = some (.ref a32)) (z33 : fs[33]? = some (.ref a33)) (hF : ax_hs h [(m, .inr (11, fs)), (a12, .inl (0, 48, .inl og)), (a14, .inl (1, 9600, .inl ff)), (a15, .inl (0, 48, .inl lf)), (a30, .inl (1, 4800, .inl pf)), (a31, .inl (0, 24, .inl ql)), (a13, .inl (2, 48, .inl us)), (a16, .inl (0, 48, .inl jf)), (a17, .inl (0, 48, .inl zf)), (a18, .inl (1, 393216, .inl bf)), (a19, .inl (2, 912, .inl la)), (a28, .inl (0, 12, .inl fa)), (a32, .inl (1, 24576, .inl ot)), (a33, .inl (0, 12, .inl tl))]) : ax_M L xs 198 fr lo [.ref m, .int (nI w), .int (nI d), .int 1] h (fun r h' => r = some (.int (-4)) ∧ h' = h) := by
  show ax_A (ax_step L xs) ((198, 0, fr, lo), [(0, .ref m), (1, .int (nI w)), (2, .int (nI d)), (3, .int 1)], [], h) _
  have key : ax_A (ax_step L xs) ((198, 78, fr, lo), [(0, .ref m), (1, .int (nI w)), (2, .int (nI d)), (3, .int 1), (4, .int (-1)), (5, .int 0), (6, .int (nI t)), (7, .int (nI a)), (8, .int (nI z))], [], h) (fun r h' => r = some (.int (-4)) ∧ h' = h) := by
    refine ar_iload 80 d_198_78 rfl rfl ?_
    refine ar_if_ge 92 83 d_198_80 (by decide) rfl (fun c => absurd c (by decide)) (fun _ => ?_)
    refine ar_aload_n 84 d_198_83 rfl rfl ?_
    refine ar_getf 87 d_198_84 rfl (ci := 11) (k := 20) rfl (hF.at 0 rfl) z20 ?_
    refine ar_bipush 89 (v := 48) d_198_87 rfl (by decide) ?_
    refine ar_top (x' := nI 48) rfl ?_
    refine ar_icmp_eq 115 92 d_198_89 (by decide) rfl (fun c0 => ?_) (fun c0 => ?_)
    · refine ar_bipush 117 (v := -4) d_198_115 rfl (by decide) ?_
      exact ar_iret d_198_117 rfl rfl (⟨rfl, rfl⟩)
    · have k0 : ¬ c = 48 := fun z => c0 (by rw [z])
      refine ar_iload 94 d_198_92 rfl rfl ?_
      refine ar_sipush 97 (v := 8192) d_198_94 rfl (by decide) ?_
      refine ar_top (x' := nI 8192) rfl ?_
      refine ar_icmp_gt 115 100 d_198_97 (by decide) rfl (fun c1 => ?_) (fun c1 => ?_)
      · refine ar_bipush 117 (v := -4) d_198_115 rfl (by decide) ?_
        exact ar_iret d_198_117 rfl rfl (⟨rfl, rfl⟩)
      · have k1 : z ≤ 8192 := Nat.le_of_not_lt (fun q => c1 (nI_lt q (by omega)))
        refine ar_aload_n 101 d_198_100 rfl rfl ?_
        refine ar_getf 104 d_198_101 rfl (ci := 11) (k := 21) rfl (hF.at 0 rfl) z21 ?_
        refine ar_iload 106 d_198_104 rfl rfl ?_
        refine ar_isub 107 d_198_106 rfl ?_
        refine ar_top (x' := nI to) (Int32.sub_zero _) ?_
        refine ar_iload 109 d_198_107 rfl rfl ?_
        refine ar_iadd 110 d_198_109 rfl ?_
        refine ar_top (x' := nI (to + z)) (nI_add _ _) ?_
        refine ar_ldc 112 d_198_110 rfl (v := 32768) rfl ?_
        refine ar_top (x' := nI 32768) (by decide +kernel) ?_
        refine ar_icmp_le 118 115 d_198_112 (by decide) rfl (fun c => absurd c (nI_ge (by omega) (by omega))) (fun _ => ?_)
        refine ar_bipush 117 (v := -4) d_198_115 rfl (by decide) ?_
        exact ar_iret d_198_117 rfl rfl (⟨rfl, rfl⟩)
  refine ar_aload_n 1 d_198_0 rfl rfl ?_
  refine ar_iload_n 2 d_198_1 rfl rfl ?_
  refine ar_iconst 3 (v := 0) d_198_2 rfl (by decide) ?_
  refine ar_call (r := []) (na := 0) (kd := 0) (cm := 194) (fr2 := fr - 1) (lo2 := lo - 23) 6 d_198_3 (ar_hoV (as := [.int (nI w), .int 0]) rfl rfl rfl (hF.at 0 rfl)) rfl (by omega) (show lo - 23 + (19 + 4) = lo by omega) (Nat.le_of_ble_eq_true rfl) (Nat.le_of_ble_eq_true rfl) (n_194 (e := 0) (by omega) (by omega) hc hw (by omega) hn1 hn2 hog hlf (hF.at 0 rfl) z12 z14 z15 z20 z30 z31 (hF.at 1 rfl) (hF.at 2 rfl) (hF.at 3 rfl) (hF.at 4 rfl) (hF.at 5 rfl)) ?_
  intro v hh hq
  obtain ⟨rfl, ehh⟩ := hq
  rw [ehh]
  clear ehh
  refine ar_top (x' := -1) (hv) ?_
  refine ar_istore 8 [(0, .ref m), (1, .int (nI w)), (2, .int (nI d)), (3, .int 1), (4, .int (-1))] d_198_6 rfl (by decide) rfl ?_
  refine ar_iload 10 d_198_8 rfl rfl ?_
  refine ar_if_ge 17 13 d_198_10 (by decide) rfl (fun c => absurd c (by decide)) (fun _ => ?_)
  refine ar_iconst 14 (v := 0) d_198_13 rfl (by decide) ?_
  refine ar_goto 24 d_198_14 (by decide) ?_
  refine ar_istore 26 [(0, .ref m), (1, .int (nI w)), (2, .int (nI d)), (3, .int 1), (4, .int (-1)), (5, .int 0)] d_198_24 rfl (by decide) rfl ?_
  refine ar_aload_n 27 d_198_26 rfl rfl ?_
  refine ar_getf 30 d_198_27 rfl (ci := 11) (k := 33) rfl (hF.at 0 rfl) z33 ?_
  refine ar_iload_n 31 d_198_30 rfl rfl ?_
  refine ar_iald 32 d_198_31 rfl (hF.at 13 rfl) (nI_in (by omega) (by omega)) ?_
  refine ar_top (x' := nI t) (by rw [nI_clamp (by omega)]; exact htl) ?_
  refine ar_istore 34 [(0, .ref m), (1, .int (nI w)), (2, .int (nI d)), (3, .int 1), (4, .int (-1)), (5, .int 0), (6, .int (nI t))] d_198_32 rfl (by decide) rfl ?_
  refine ar_iload_n 35 d_198_34 rfl rfl ?_
  refine ar_if_eq 43 38 d_198_35 (by decide) rfl (fun c => absurd c (by decide)) (fun _ => ?_)
  refine ar_iload 40 d_198_38 rfl rfl ?_
  refine ar_goto 49 d_198_40 (by decide) ?_
  refine ar_top (x' := nI a) (by rw [hay]; rfl) ?_
  refine ar_istore 51 [(0, .ref m), (1, .int (nI w)), (2, .int (nI d)), (3, .int 1), (4, .int (-1)), (5, .int 0), (6, .int (nI t)), (7, .int (nI a))] d_198_49 rfl (by decide) rfl ?_
  refine ar_iload 53 d_198_51 rfl rfl ?_
  refine ar_if_eq 66 56 d_198_53 (by decide) rfl (fun c1 => ?_) (fun c1 => ?_)
  · have k1 : t = 0 := nI_inj (b := 0) (by omega) (by omega) c1
    have k2 : z = 0 := by omega
    subst k2
    refine ar_iload 68 d_198_66 rfl rfl ?_
    refine ar_goto 76 d_198_68 (by decide) ?_
    refine ar_istore 78 [(0, .ref m), (1, .int (nI w)), (2, .int (nI d)), (3, .int 1), (4, .int (-1)), (5, .int 0), (6, .int (nI t)), (7, .int (nI a)), (8, .int 0)] d_198_76 rfl (by decide) rfl ?_
    exact key
  · have k0 : 0 < t := Nat.pos_of_ne_zero (fun z => c1 (by rw [z]; rfl))
    have k2 : z = a + t := by omega
    subst k2
    refine ar_iload 58 d_198_56 rfl rfl ?_
    refine ar_iload 60 d_198_58 rfl rfl ?_
    refine ar_iadd 61 d_198_60 rfl ?_
    refine ar_top (x' := nI (a + t)) (nI_add a t) ?_
    refine ar_iload 63 d_198_61 rfl rfl ?_
    refine ar_icmp_ge 71 66 d_198_63 (by decide) rfl (fun _ => ?_) (fun c => absurd (nI_pos' (by omega)) c)
    refine ar_iload 73 d_198_71 rfl rfl ?_
    refine ar_iload 75 d_198_73 rfl rfl ?_
    refine ar_iadd 76 d_198_75 rfl ?_
    refine ar_top (x' := nI (a + t)) (nI_add a t) ?_
    refine ar_istore 78 [(0, .ref m), (1, .int (nI w)), (2, .int (nI d)), (3, .int 1), (4, .int (-1)), (5, .int 0), (6, .int (nI t)), (7, .int (nI a)), (8, .int (nI (a + t)))] d_198_76 rfl (by decide) rfl ?_
    exact key


/-! the reference, exactly: write to a new FILE -/
theorem n_198M0 {L : Nat} {xs : Nat → Int32} {fr lo m n sl : Nat} {h : ax_H} {fs : List Value} {a13 a16 a17 a18 a19 a28 a32 a33 to d a t z a12 a14 a15 a30 a31 w c n1 : Nat} {us jf zf bf la fa ot tl og ff lf pf ql : Nat → Int32} (hfr : 3 ≤ fr) (hlo : 110 ≤ lo) (hc : c ≤ 48) (hw : w < 12) (hn1 : ql (2 * w + 0) = nI n1) (hn2 : n1 ≤ 200) (hog : ∀ i, i < c → ¬ og i < 0 ∧ (og i).toNatClampNeg < 48) (hlf : ∀ f, f < 48 → ¬ lf f < 0 ∧ (lf f).toNatClampNeg ≤ 200) (hv : mfnd ff pf lf og (400 * w + 200 * 0) n1 c 0 = -1) (htl : tl w = nI t) (ht : t ≤ 2048) (hfa : fa w = nI a) (ha : a ≤ 8192) (hz : (t = 0 ∧ z = 0) ∨ (0 < t ∧ z = a + t)) (hto2 : to ≤ 32768) (hfree : frN us 48 0 < 48) (hc7 : c ≤ 47) (hz8 : z ≤ 8192) (hfull : to + z ≤ 32768) (hl : fs.length = 39) (z12 : fs[12]? = some (.ref a12)) (z13 : fs[13]? = some (.ref a13)) (z14 : fs[14]? = some (.ref a14)) (z15 : fs[15]? = some (.ref a15)) (z16 : fs[16]? = some (.ref a16)) (z17 : fs[17]? = some (.ref a17)) (z18 : fs[18]? = some (.ref a18)) (z19 : fs[19]? = some (.ref a19)) (z20 : fs[20]? = some (.int (nI c))) (z21 : fs[21]? = some (.int (nI to))) (z28 : fs[28]? = some (.ref a28)) (z30 : fs[30]? = some (.ref a30)) (z31 : fs[31]? = some (.ref a31)) (z32 : fs[32]? = some (.ref a32)) (z33 : fs[33]? = some (.ref a33)) (hF : ax_hs h [(m, .inr (11, fs)), (a12, .inl (0, 48, .inl og)), (a14, .inl (1, 9600, .inl ff)), (a15, .inl (0, 48, .inl lf)), (a30, .inl (1, 4800, .inl pf)), (a31, .inl (0, 24, .inl ql)), (a13, .inl (2, 48, .inl us)), (a16, .inl (0, 48, .inl jf)), (a17, .inl (0, 48, .inl zf)), (a18, .inl (1, 393216, .inl bf)), (a19, .inl (2, 912, .inl la)), (a28, .inl (0, 12, .inl fa)), (a32, .inl (1, 24576, .inl ot)), (a33, .inl (0, 12, .inl tl))]) (hn : h.1 = n) (hs : h.2.1 = sl) (hn0 : 0 < n) : ax_M L xs 198 fr lo [.ref m, .int (nI w), .int (nI d), .int 0] h (fun r h' => ∃ f fs', f = frN us 48 0 ∧ r = some (.int (nI t)) ∧ fs'.length = 39 ∧ fs'[20]? = some (.int (nI (c + 1))) ∧ fs'[21]? = some (.int (nI to + (nI z - nI 0))) ∧ (∀ k, k ≠ 20 → k ≠ 21 → fs'[k]? = fs[k]?) ∧ ax_hs h' [(m, .inr (11, fs')), (a12, .inl (0, 48, .inl (upd (inF ff pf lf (400 * w + 200 * 0) n1 c og) (inA ff pf lf (400 * w + 200 * 0) n1 c og) (nI f)))), (a14, .inl (1, 9600, .inl (rgF (fun i => vp_nar .byte (pf ((400 * w + 200 * 0) + i))) (200 * f) n1 ff))), (a15, .inl (0, 48, .inl (upd lf f (nI n1)))), (a30, .inl (1, 4800, .inl pf)), (a31, .inl (0, 24, .inl ql)), (a13, .inl (2, 48, .inl (upd us f (vp_nar .boolean 1)))), (a16, .inl (0, 48, .inl (upd jf f (nI d)))), (a17, .inl (0, 48, .inl (upd (upd zf f 0) f (nI z)))), (a18, .inl (1, 393216, .inl (rgF (fun i => vp_nar .byte (ot (2048 * w + i))) (8192 * f + a) t (rgF (fun _ => vp_nar .byte 0) (8192 * f + 0) (z - 0) bf)))), (a19, .inl (2, 912, .inl (wlF f a (laF (19 * f) z (rgF (fun _ => vp_nar .boolean 0) (19 * f) 19 la) 19) t))), (a28, .inl (0, 12, .inl fa)), (a32, .inl (1, 24576, .inl ot)), (a33, .inl (0, 12, .inl tl))] ∧ h'.1 = n ∧ h'.2.1 = sl ∧ ax_fr (fun x => x ∈ [m, a12, a13, a14, a15, a16, a17, a18, a19]) h h') := by
  show ax_A (ax_step L xs) ((198, 0, fr, lo), [(0, .ref m), (1, .int (nI w)), (2, .int (nI d)), (3, .int 0)], [], h) _
  have key : ax_A (ax_step L xs) ((198, 78, fr, lo), [(0, .ref m), (1, .int (nI w)), (2, .int (nI d)), (3, .int 0), (4, .int (-1)), (5, .int 0), (6, .int (nI t)), (7, .int (nI a)), (8, .int (nI z))], [], h) (fun r h' => ∃ f fs', f = frN us 48 0 ∧ r = some (.int (nI t)) ∧ fs'.length = 39 ∧ fs'[20]? = some (.int (nI (c + 1))) ∧ fs'[21]? = some (.int (nI to + (nI z - nI 0))) ∧ (∀ k, k ≠ 20 → k ≠ 21 → fs'[k]? = fs[k]?) ∧ ax_hs h' [(m, .inr (11, fs')), (a12, .inl (0, 48, .inl (upd (inF ff pf lf (400 * w + 200 * 0) n1 c og) (inA ff pf lf (400 * w + 200 * 0) n1 c og) (nI f)))), (a14, .inl (1, 9600, .inl (rgF (fun i => vp_nar .byte (pf ((400 * w + 200 * 0) + i))) (200 * f) n1 ff))), (a15, .inl (0, 48, .inl (upd lf f (nI n1)))), (a30, .inl (1, 4800, .inl pf)), (a31, .inl (0, 24, .inl ql)), (a13, .inl (2, 48, .inl (upd us f (vp_nar .boolean 1)))), (a16, .inl (0, 48, .inl (upd jf f (nI d)))), (a17, .inl (0, 48, .inl (upd (upd zf f 0) f (nI z)))), (a18, .inl (1, 393216, .inl (rgF (fun i => vp_nar .byte (ot (2048 * w + i))) (8192 * f + a) t (rgF (fun _ => vp_nar .byte 0) (8192 * f + 0) (z - 0) bf)))), (a19, .inl (2, 912, .inl (wlF f a (laF (19 * f) z (rgF (fun _ => vp_nar .boolean 0) (19 * f) 19 la) 19) t))), (a28, .inl (0, 12, .inl fa)), (a32, .inl (1, 24576, .inl ot)), (a33, .inl (0, 12, .inl tl))] ∧ h'.1 = n ∧ h'.2.1 = sl ∧ ax_fr (fun x => x ∈ [m, a12, a13, a14, a15, a16, a17, a18, a19]) h h') := by
    have hbase : h.1 = n := hn
    have hbasl : h.2.1 = sl := hs
    have hf : ax_fr (fun x => x ∈ [m, a12, a13, a14, a15, a16, a17, a18, a19]) h h := ax_fr.rf
    have hO : ∀ k, k ≠ 20 → k ≠ 21 → fs[k]? = fs[k]? := fun _ _ _ => rfl
    refine ar_iload 80 d_198_78 rfl rfl ?_
    refine ar_if_ge 92 83 d_198_80 (by decide) rfl (fun c => absurd c (by decide)) (fun _ => ?_)
    refine ar_aload_n 84 d_198_83 rfl rfl ?_
    refine ar_getf 87 d_198_84 rfl (ci := 11) (k := 20) rfl (hF.at 0 rfl) z20 ?_
    refine ar_bipush 89 (v := 48) d_198_87 rfl (by decide) ?_
    refine ar_top (x' := nI 48) rfl ?_
    refine ar_icmp_eq 115 92 d_198_89 (by decide) rfl (fun c => absurd c (fun q => absurd (nI_inj (by omega) (by omega) q) (by omega))) (fun _ => ?_)
    refine ar_iload 94 d_198_92 rfl rfl ?_
    refine ar_sipush 97 (v := 8192) d_198_94 rfl (by decide) ?_
    refine ar_top (x' := nI 8192) rfl ?_
    refine ar_icmp_gt 115 100 d_198_97 (by decide) rfl (fun c => absurd c (nI_nlt hz8 (by omega))) (fun _ => ?_)
    refine ar_aload_n 101 d_198_100 rfl rfl ?_
    refine ar_getf 104 d_198_101 rfl (ci := 11) (k := 21) rfl (hF.at 0 rfl) z21 ?_
    refine ar_iload 106 d_198_104 rfl rfl ?_
    refine ar_isub 107 d_198_106 rfl ?_
    refine ar_top (x' := nI to) (Int32.sub_zero _) ?_
    refine ar_iload 109 d_198_107 rfl rfl ?_
    refine ar_iadd 110 d_198_109 rfl ?_
    refine ar_top (x' := nI (to + z)) (nI_add _ _) ?_
    refine ar_ldc 112 d_198_110 rfl (v := 32768) rfl ?_
    refine ar_top (x' := nI 32768) (by decide +kernel) ?_
    refine ar_icmp_le 118 115 d_198_112 (by decide) rfl (fun _ => ?_) (fun c => absurd (nI_le hfull (by omega)) c)
    refine ar_iload 120 d_198_118 rfl rfl ?_
    refine ar_if_ge 131 123 d_198_120 (by decide) rfl (fun c => absurd c (by decide)) (fun _ => ?_)
    refine ar_aload_n 124 d_198_123 rfl rfl ?_
    refine ar_iload_n 125 d_198_124 rfl rfl ?_
    refine ar_iload_n 126 d_198_125 rfl rfl ?_
    refine ar_call (r := []) (na := 0) (kd := 0) (cm := 196) (fr2 := fr - 1) (lo2 := lo - 24) 129 d_198_126 (ar_hoV (as := [.int (nI w), .int (nI d)]) rfl rfl rfl (hF.at 0 rfl)) rfl (by omega) (show lo - 24 + (19 + 5) = lo by omega) (Nat.le_of_ble_eq_true rfl) (Nat.le_of_ble_eq_true rfl) (n_196 (by omega) (by omega) hw hn1 hn2 hlf hog hfree hc7 hl z12 z13 z14 z15 z16 z17 z19 z20 z30 z31 (hF.sub (F' := [(m, .inr (11, fs)), (a12, .inl (0, 48, .inl og)), (a13, .inl (2, 48, .inl us)), (a14, .inl (1, 9600, .inl ff)), (a15, .inl (0, 48, .inl lf)), (a16, .inl (0, 48, .inl jf)), (a17, .inl (0, 48, .inl zf)), (a19, .inl (2, 912, .inl la)), (a30, .inl (1, 4800, .inl pf)), (a31, .inl (0, 24, .inl ql))]) [0, 1, 6, 2, 3, 7, 8, 10, 4, 5] rfl rfl) hn hs (by omega)) ?_
    intro v h1 hq
    obtain ⟨f, fs1, ef, rfl, yl, y20, yO, qF, qn, qs, qf⟩ := hq
    have qF : ax_hs h1 [(m, .inr (11, fs1)), (a12, .inl (0, 48, .inl (upd (inF ff pf lf (400 * w + 200 * 0) n1 c og) (inA ff pf lf (400 * w + 200 * 0) n1 c og) (nI f)))), (a13, .inl (2, 48, .inl (upd us f (vp_nar .boolean 1)))), (a14, .inl (1, 9600, .inl (rgF (fun i => vp_nar .byte (pf ((400 * w + 200 * 0) + i))) (200 * f) n1 ff))), (a15, .inl (0, 48, .inl (upd lf f (nI n1)))), (a16, .inl (0, 48, .inl (upd jf f (nI d)))), (a17, .inl (0, 48, .inl (upd zf f 0))), (a19, .inl (2, 912, .inl (rgF (fun _ => vp_nar .boolean 0) (19 * f) 19 la))), (a30, .inl (1, 4800, .inl pf)), (a31, .inl (0, 24, .inl ql))] := qF
    replace hF : ax_hs h1 [(a18, .inl (1, 393216, .inl bf)), (a28, .inl (0, 12, .inl fa)), (a32, .inl (1, 24576, .inl ot)), (a33, .inl (0, 12, .inl tl)), (m, .inr (11, fs1)), (a12, .inl (0, 48, .inl (upd (inF ff pf lf (400 * w + 200 * 0) n1 c og) (inA ff pf lf (400 * w + 200 * 0) n1 c og) (nI f)))), (a13, .inl (2, 48, .inl (upd us f (vp_nar .boolean 1)))), (a14, .inl (1, 9600, .inl (rgF (fun i => vp_nar .byte (pf ((400 * w + 200 * 0) + i))) (200 * f) n1 ff))), (a15, .inl (0, 48, .inl (upd lf f (nI n1)))), (a16, .inl (0, 48, .inl (upd jf f (nI d)))), (a17, .inl (0, 48, .inl (upd zf f 0))), (a19, .inl (2, 912, .inl (rgF (fun _ => vp_nar .boolean 0) (19 * f) 19 la))), (a30, .inl (1, 4800, .inl pf)), (a31, .inl (0, 24, .inl ql))] := ax_hs.call (rest := [(a18, .inl (1, 393216, .inl bf)), (a28, .inl (0, 12, .inl fa)), (a32, .inl (1, 24576, .inl ot)), (a33, .inl (0, 12, .inl tl))]) [0, 1, 6, 2, 3, 7, 8, 10, 4, 5] [9, 11, 12, 13] hF qf qF rfl rfl rfl [0, 1, 6, 2, 3, 7, 8, 10] rfl rfl [0, 1, 6, 2, 3, 7, 8, 10, 4, 5] (news := []) rfl rfl (fun _ z => absurd z List.not_mem_nil) rfl
    replace hf := hf.trC qf (by intro x hx hB; simp at hB; first | (rcases hB with rfl | rfl | rfl | rfl | rfl | rfl | rfl | rfl <;> first | omega | simp) | omega | simp [hB])
    replace hn : h1.1 = n := by omega
    replace hs : h1.2.1 = sl := by omega
    have qf0 := qf
    clear qF qn qs qf
    replace z12 : fs1[12]? = some (.ref a12) := (yO 12 (by decide)).trans z12
    replace z14 : fs1[14]? = some (.ref a14) := (yO 14 (by decide)).trans z14
    replace z15 : fs1[15]? = some (.ref a15) := (yO 15 (by decide)).trans z15
    replace z30 : fs1[30]? = some (.ref a30) := (yO 30 (by decide)).trans z30
    replace z31 : fs1[31]? = some (.ref a31) := (yO 31 (by decide)).trans z31
    replace z13 : fs1[13]? = some (.ref a13) := (yO 13 (by decide)).trans z13
    replace z16 : fs1[16]? = some (.ref a16) := (yO 16 (by decide)).trans z16
    replace z17 : fs1[17]? = some (.ref a17) := (yO 17 (by decide)).trans z17
    replace z18 : fs1[18]? = some (.ref a18) := (yO 18 (by decide)).trans z18
    replace z19 : fs1[19]? = some (.ref a19) := (yO 19 (by decide)).trans z19
    replace z21 : fs1[21]? = some (.int (nI to)) := (yO 21 (by decide)).trans z21
    replace z28 : fs1[28]? = some (.ref a28) := (yO 28 (by decide)).trans z28
    replace z32 : fs1[32]? = some (.ref a32) := (yO 32 (by decide)).trans z32
    replace z33 : fs1[33]? = some (.ref a33) := (yO 33 (by decide)).trans z33
    replace z20 : fs1[20]? = some (.int (nI (c + 1))) := y20
    replace hO : ∀ k, k ≠ 20 → k ≠ 21 → fs1[k]? = fs[k]? := fun k y20 y21 => (yO k y20).trans (hO k y20 y21)
    replace hl := yl
    clear yl yO y20
    have hf0 : f < 48 := by rw [ef]; exact hfree
    refine ar_istore 131 [(0, .ref m), (1, .int (nI w)), (2, .int (nI d)), (3, .int 0), (4, .int (nI f)), (5, .int 0), (6, .int (nI t)), (7, .int (nI a)), (8, .int (nI z))] d_198_129 rfl (by decide) rfl ?_
    refine ar_aload_n 132 d_198_131 rfl rfl ?_
    refine ar_iload 134 d_198_132 rfl rfl ?_
    refine ar_iload 136 d_198_134 rfl rfl ?_
    refine ar_call (r := []) (na := 0) (kd := 0) (cm := 199) (fr2 := fr - 1) (lo2 := lo - 23) 139 d_198_136 (ar_hoV (as := [.int (nI f), .int (nI z)]) rfl rfl rfl (hF.at 4 rfl)) rfl (by omega) (show lo - 23 + (19 + 4) = lo by omega) (Nat.le_of_ble_eq_true rfl) (Nat.le_of_ble_eq_true rfl) (n_199 (y := 0) hf0 hz8 (by omega) (upd_s _ _ _) hl z17 z18 z19 z21 (hF.sub (F' := [(m, .inr (11, fs1)), (a17, .inl (0, 48, .inl (upd zf f 0))), (a18, .inl (1, 393216, .inl bf)), (a19, .inl (2, 912, .inl (rgF (fun _ => vp_nar .boolean 0) (19 * f) 19 la)))]) [4, 10, 0, 11] rfl rfl) hn hs (by omega)) ?_
    intro v h2 hq
    obtain ⟨fs2, rfl, yl, y21, yO, qF, qn, qs, qf⟩ := hq
    have qF : ax_hs h2 [(m, .inr (11, fs2)), (a17, .inl (0, 48, .inl (upd (upd zf f 0) f (nI z)))), (a18, .inl (1, 393216, .inl (rgF (fun _ => vp_nar .byte 0) (8192 * f + 0) (z - 0) bf))), (a19, .inl (2, 912, .inl (laF (19 * f) z (rgF (fun _ => vp_nar .boolean 0) (19 * f) 19 la) 19)))] := qF
    replace hF : ax_hs h2 [(a28, .inl (0, 12, .inl fa)), (a32, .inl (1, 24576, .inl ot)), (a33, .inl (0, 12, .inl tl)), (a12, .inl (0, 48, .inl (upd (inF ff pf lf (400 * w + 200 * 0) n1 c og) (inA ff pf lf (400 * w + 200 * 0) n1 c og) (nI f)))), (a13, .inl (2, 48, .inl (upd us f (vp_nar .boolean 1)))), (a14, .inl (1, 9600, .inl (rgF (fun i => vp_nar .byte (pf ((400 * w + 200 * 0) + i))) (200 * f) n1 ff))), (a15, .inl (0, 48, .inl (upd lf f (nI n1)))), (a16, .inl (0, 48, .inl (upd jf f (nI d)))), (a30, .inl (1, 4800, .inl pf)), (a31, .inl (0, 24, .inl ql)), (m, .inr (11, fs2)), (a17, .inl (0, 48, .inl (upd (upd zf f 0) f (nI z)))), (a18, .inl (1, 393216, .inl (rgF (fun _ => vp_nar .byte 0) (8192 * f + 0) (z - 0) bf))), (a19, .inl (2, 912, .inl (laF (19 * f) z (rgF (fun _ => vp_nar .boolean 0) (19 * f) 19 la) 19)))] := ax_hs.call (rest := [(a28, .inl (0, 12, .inl fa)), (a32, .inl (1, 24576, .inl ot)), (a33, .inl (0, 12, .inl tl)), (a12, .inl (0, 48, .inl (upd (inF ff pf lf (400 * w + 200 * 0) n1 c og) (inA ff pf lf (400 * w + 200 * 0) n1 c og) (nI f)))), (a13, .inl (2, 48, .inl (upd us f (vp_nar .boolean 1)))), (a14, .inl (1, 9600, .inl (rgF (fun i => vp_nar .byte (pf ((400 * w + 200 * 0) + i))) (200 * f) n1 ff))), (a15, .inl (0, 48, .inl (upd lf f (nI n1)))), (a16, .inl (0, 48, .inl (upd jf f (nI d)))), (a30, .inl (1, 4800, .inl pf)), (a31, .inl (0, 24, .inl ql))]) [4, 10, 0, 11] [1, 2, 3, 5, 6, 7, 8, 9, 12, 13] hF qf qF rfl rfl rfl [4, 10, 0, 11] rfl rfl [4, 10, 0, 11] (news := []) rfl rfl (fun _ z => absurd z List.not_mem_nil) rfl
    replace hf := hf.trC qf (by intro x hx hB; simp at hB; first | (rcases hB with rfl | rfl | rfl | rfl <;> first | omega | simp) | omega | simp [hB])
    replace hn : h2.1 = n := by omega
    replace hs : h2.2.1 = sl := by omega
    have qf0 := qf
    clear qF qn qs qf
    replace z12 : fs2[12]? = some (.ref a12) := (yO 12 (by decide)).trans z12
    replace z14 : fs2[14]? = some (.ref a14) := (yO 14 (by decide)).trans z14
    replace z15 : fs2[15]? = some (.ref a15) := (yO 15 (by decide)).trans z15
    replace z20 : fs2[20]? = some (.int (nI (c + 1))) := (yO 20 (by decide)).trans z20
    replace z30 : fs2[30]? = some (.ref a30) := (yO 30 (by decide)).trans z30
    replace z31 : fs2[31]? = some (.ref a31) := (yO 31 (by decide)).trans z31
    replace z13 : fs2[13]? = some (.ref a13) := (yO 13 (by decide)).trans z13
    replace z16 : fs2[16]? = some (.ref a16) := (yO 16 (by decide)).trans z16
    replace z17 : fs2[17]? = some (.ref a17) := (yO 17 (by decide)).trans z17
    replace z18 : fs2[18]? = some (.ref a18) := (yO 18 (by decide)).trans z18
    replace z19 : fs2[19]? = some (.ref a19) := (yO 19 (by decide)).trans z19
    replace z28 : fs2[28]? = some (.ref a28) := (yO 28 (by decide)).trans z28
    replace z32 : fs2[32]? = some (.ref a32) := (yO 32 (by decide)).trans z32
    replace z33 : fs2[33]? = some (.ref a33) := (yO 33 (by decide)).trans z33
    replace z21 : fs2[21]? = some (.int (nI to + (nI z - nI 0))) := y21
    replace hO : ∀ k, k ≠ 20 → k ≠ 21 → fs2[k]? = fs[k]? := fun k y20 y21 => (yO k y21).trans (hO k y20 y21)
    replace hl := yl
    clear yl yO y21
    refine ar_iconst 140 (v := 0) d_198_139 rfl (by decide) ?_
    refine ar_istore 142 [(0, .ref m), (1, .int (nI w)), (2, .int (nI d)), (3, .int 0), (4, .int (nI f)), (5, .int 0), (6, .int (nI t)), (7, .int (nI a)), (8, .int (nI z)), (9, .int 0)] d_198_140 rfl (by decide) rfl ?_
    have hF4 := hF.sub (F' := [(m, .inr (11, fs2)), (a18, .inl (1, 393216, .inl (rgF (fun _ => vp_nar .byte 0) (8192 * f + 0) (z - 0) bf))), (a19, .inl (2, 912, .inl (laF (19 * f) z (rgF (fun _ => vp_nar .boolean 0) (19 * f) 19 la) 19))), (a32, .inl (1, 24576, .inl ot))]) [10, 12, 13, 1] rfl rfl
    have hF5 : ax_hs h2 [(m, .inr (11, fs2)), (a18, .inl (1, 393216, .inl (rgF (fun i => vp_nar .byte (ot (2048 * w + i))) (8192 * f + a) 0 (rgF (fun _ => vp_nar .byte 0) (8192 * f + 0) (z - 0) bf)))), (a19, .inl (2, 912, .inl (wlF f a (laF (19 * f) z (rgF (fun _ => vp_nar .boolean 0) (19 * f) 19 la) 19) 0))), (a32, .inl (1, 24576, .inl ot))] := by rw [rgF_0]; exact hF4
    refine nlp_198 hf0 hw ht (by omega) hl z18 z19 z32 t 0 h2 (by omega) hF5 hn hs (fun h9 qF qn qs qf => ?_)
    have hR := (hF.sub (F' := [(a28, .inl (0, 12, .inl fa)), (a33, .inl (0, 12, .inl tl)), (a12, .inl (0, 48, .inl (upd (inF ff pf lf (400 * w + 200 * 0) n1 c og) (inA ff pf lf (400 * w + 200 * 0) n1 c og) (nI f)))), (a13, .inl (2, 48, .inl (upd us f (vp_nar .boolean 1)))), (a14, .inl (1, 9600, .inl (rgF (fun i => vp_nar .byte (pf ((400 * w + 200 * 0) + i))) (200 * f) n1 ff))), (a15, .inl (0, 48, .inl (upd lf f (nI n1)))), (a16, .inl (0, 48, .inl (upd jf f (nI d)))), (a30, .inl (1, 4800, .inl pf)), (a31, .inl (0, 24, .inl ql)), (a17, .inl (0, 48, .inl (upd (upd zf f 0) f (nI z))))]) [0, 2, 3, 4, 5, 6, 7, 8, 9, 11] rfl rfl).fr qf (by intro x hx q; exact ax_hs.apartA hF [0, 2, 3, 4, 5, 6, 7, 8, 9, 11] [12, 13] (by decide) rfl rfl x.1 (List.mem_map.mpr ⟨x, hx, rfl⟩) q)
    have hG := hR.app qF (by intro i j p q hp hq; exact ax_hs.apart2 hF [0, 2, 3, 4, 5, 6, 7, 8, 9, 11] [10, 12, 13, 1] (by decide) rfl rfl hp hq)
    exact ⟨f, _, ef, rfl, hl, z20, z21, hO, hG.sub (F' := [(m, .inr (11, fs2)), (a12, .inl (0, 48, .inl (upd (inF ff pf lf (400 * w + 200 * 0) n1 c og) (inA ff pf lf (400 * w + 200 * 0) n1 c og) (nI f)))), (a14, .inl (1, 9600, .inl (rgF (fun i => vp_nar .byte (pf ((400 * w + 200 * 0) + i))) (200 * f) n1 ff))), (a15, .inl (0, 48, .inl (upd lf f (nI n1)))), (a30, .inl (1, 4800, .inl pf)), (a31, .inl (0, 24, .inl ql)), (a13, .inl (2, 48, .inl (upd us f (vp_nar .boolean 1)))), (a16, .inl (0, 48, .inl (upd jf f (nI d)))), (a17, .inl (0, 48, .inl (upd (upd zf f 0) f (nI z)))), (a18, .inl (1, 393216, .inl (rgF (fun i => vp_nar .byte (ot (2048 * w + i))) (8192 * f + a) t (rgF (fun _ => vp_nar .byte 0) (8192 * f + 0) (z - 0) bf)))), (a19, .inl (2, 912, .inl (wlF f a (laF (19 * f) z (rgF (fun _ => vp_nar .boolean 0) (19 * f) 19 la) 19) t))), (a28, .inl (0, 12, .inl fa)), (a32, .inl (1, 24576, .inl ot)), (a33, .inl (0, 12, .inl tl))]) [10, 2, 4, 5, 7, 8, 3, 6, 9, 11, 12, 0, 13, 1] rfl rfl, qn, qs, hf.tr (qf.mono (by intro x hx; simp only [List.mem_cons, List.not_mem_nil, or_false] at hx ⊢; rcases hx with rfl | rfl <;> simp))⟩
  refine ar_aload_n 1 d_198_0 rfl rfl ?_
  refine ar_iload_n 2 d_198_1 rfl rfl ?_
  refine ar_iconst 3 (v := 0) d_198_2 rfl (by decide) ?_
  refine ar_call (r := []) (na := 0) (kd := 0) (cm := 194) (fr2 := fr - 1) (lo2 := lo - 23) 6 d_198_3 (ar_hoV (as := [.int (nI w), .int 0]) rfl rfl rfl (hF.at 0 rfl)) rfl (by omega) (show lo - 23 + (19 + 4) = lo by omega) (Nat.le_of_ble_eq_true rfl) (Nat.le_of_ble_eq_true rfl) (n_194 (e := 0) (by omega) (by omega) hc hw (by omega) hn1 hn2 hog hlf (hF.at 0 rfl) z12 z14 z15 z20 z30 z31 (hF.at 1 rfl) (hF.at 2 rfl) (hF.at 3 rfl) (hF.at 4 rfl) (hF.at 5 rfl)) ?_
  intro v hh hq
  obtain ⟨rfl, ehh⟩ := hq
  rw [ehh]
  clear ehh
  refine ar_top (x' := -1) (hv) ?_
  refine ar_istore 8 [(0, .ref m), (1, .int (nI w)), (2, .int (nI d)), (3, .int 0), (4, .int (-1))] d_198_6 rfl (by decide) rfl ?_
  refine ar_iload 10 d_198_8 rfl rfl ?_
  refine ar_if_ge 17 13 d_198_10 (by decide) rfl (fun c => absurd c (by decide)) (fun _ => ?_)
  refine ar_iconst 14 (v := 0) d_198_13 rfl (by decide) ?_
  refine ar_goto 24 d_198_14 (by decide) ?_
  refine ar_istore 26 [(0, .ref m), (1, .int (nI w)), (2, .int (nI d)), (3, .int 0), (4, .int (-1)), (5, .int 0)] d_198_24 rfl (by decide) rfl ?_
  refine ar_aload_n 27 d_198_26 rfl rfl ?_
  refine ar_getf 30 d_198_27 rfl (ci := 11) (k := 33) rfl (hF.at 0 rfl) z33 ?_
  refine ar_iload_n 31 d_198_30 rfl rfl ?_
  refine ar_iald 32 d_198_31 rfl (hF.at 13 rfl) (nI_in (by omega) (by omega)) ?_
  refine ar_top (x' := nI t) (by rw [nI_clamp (by omega)]; exact htl) ?_
  refine ar_istore 34 [(0, .ref m), (1, .int (nI w)), (2, .int (nI d)), (3, .int 0), (4, .int (-1)), (5, .int 0), (6, .int (nI t))] d_198_32 rfl (by decide) rfl ?_
  refine ar_iload_n 35 d_198_34 rfl rfl ?_
  refine ar_if_eq 43 38 d_198_35 (by decide) rfl (fun _ => ?_) (fun c => absurd (rfl) c)
  refine ar_aload_n 44 d_198_43 rfl rfl ?_
  refine ar_getf 47 d_198_44 rfl (ci := 11) (k := 28) rfl (hF.at 0 rfl) z28 ?_
  refine ar_iload_n 48 d_198_47 rfl rfl ?_
  refine ar_iald 49 d_198_48 rfl (hF.at 11 rfl) (nI_in (by omega) (by omega)) ?_
  refine ar_top (x' := nI a) (by rw [nI_clamp (by omega)]; exact hfa) ?_
  refine ar_istore 51 [(0, .ref m), (1, .int (nI w)), (2, .int (nI d)), (3, .int 0), (4, .int (-1)), (5, .int 0), (6, .int (nI t)), (7, .int (nI a))] d_198_49 rfl (by decide) rfl ?_
  refine ar_iload 53 d_198_51 rfl rfl ?_
  refine ar_if_eq 66 56 d_198_53 (by decide) rfl (fun c1 => ?_) (fun c1 => ?_)
  · have k1 : t = 0 := nI_inj (b := 0) (by omega) (by omega) c1
    have k2 : z = 0 := by omega
    subst k2
    refine ar_iload 68 d_198_66 rfl rfl ?_
    refine ar_goto 76 d_198_68 (by decide) ?_
    refine ar_istore 78 [(0, .ref m), (1, .int (nI w)), (2, .int (nI d)), (3, .int 0), (4, .int (-1)), (5, .int 0), (6, .int (nI t)), (7, .int (nI a)), (8, .int 0)] d_198_76 rfl (by decide) rfl ?_
    exact key
  · have k0 : 0 < t := Nat.pos_of_ne_zero (fun z => c1 (by rw [z]; rfl))
    have k2 : z = a + t := by omega
    subst k2
    refine ar_iload 58 d_198_56 rfl rfl ?_
    refine ar_iload 60 d_198_58 rfl rfl ?_
    refine ar_iadd 61 d_198_60 rfl ?_
    refine ar_top (x' := nI (a + t)) (nI_add a t) ?_
    refine ar_iload 63 d_198_61 rfl rfl ?_
    refine ar_icmp_ge 71 66 d_198_63 (by decide) rfl (fun _ => ?_) (fun c => absurd (nI_pos' (by omega)) c)
    refine ar_iload 73 d_198_71 rfl rfl ?_
    refine ar_iload 75 d_198_73 rfl rfl ?_
    refine ar_iadd 76 d_198_75 rfl ?_
    refine ar_top (x' := nI (a + t)) (nI_add a t) ?_
    refine ar_istore 78 [(0, .ref m), (1, .int (nI w)), (2, .int (nI d)), (3, .int 0), (4, .int (-1)), (5, .int 0), (6, .int (nI t)), (7, .int (nI a)), (8, .int (nI (a + t)))] d_198_76 rfl (by decide) rfl ?_
    exact key
theorem n_198M1 {L : Nat} {xs : Nat → Int32} {fr lo m n sl : Nat} {h : ax_H} {fs : List Value} {a13 a16 a17 a18 a19 a28 a32 a33 to d a t z a12 a14 a15 a30 a31 w c n1 : Nat} {us jf zf bf la fa ot tl og ff lf pf ql : Nat → Int32} (hfr : 3 ≤ fr) (hlo : 110 ≤ lo) (hc : c ≤ 48) (hw : w < 12) (hn1 : ql (2 * w + 0) = nI n1) (hn2 : n1 ≤ 200) (hog : ∀ i, i < c → ¬ og i < 0 ∧ (og i).toNatClampNeg < 48) (hlf : ∀ f, f < 48 → ¬ lf f < 0 ∧ (lf f).toNatClampNeg ≤ 200) (hv : mfnd ff pf lf og (400 * w + 200 * 0) n1 c 0 = -1) (htl : tl w = nI t) (ht : t ≤ 2048) (hay : a = 0) (hz : (t = 0 ∧ z = 0) ∨ (0 < t ∧ z = a + t)) (hto2 : to ≤ 32768) (hfree : frN us 48 0 < 48) (hc7 : c ≤ 47) (hz8 : z ≤ 8192) (hfull : to + z ≤ 32768) (hl : fs.length = 39) (z12 : fs[12]? = some (.ref a12)) (z13 : fs[13]? = some (.ref a13)) (z14 : fs[14]? = some (.ref a14)) (z15 : fs[15]? = some (.ref a15)) (z16 : fs[16]? = some (.ref a16)) (z17 : fs[17]? = some (.ref a17)) (z18 : fs[18]? = some (.ref a18)) (z19 : fs[19]? = some (.ref a19)) (z20 : fs[20]? = some (.int (nI c))) (z21 : fs[21]? = some (.int (nI to))) (z28 : fs[28]? = some (.ref a28)) (z30 : fs[30]? = some (.ref a30)) (z31 : fs[31]? = some (.ref a31)) (z32 : fs[32]? = some (.ref a32)) (z33 : fs[33]? = some (.ref a33)) (hF : ax_hs h [(m, .inr (11, fs)), (a12, .inl (0, 48, .inl og)), (a14, .inl (1, 9600, .inl ff)), (a15, .inl (0, 48, .inl lf)), (a30, .inl (1, 4800, .inl pf)), (a31, .inl (0, 24, .inl ql)), (a13, .inl (2, 48, .inl us)), (a16, .inl (0, 48, .inl jf)), (a17, .inl (0, 48, .inl zf)), (a18, .inl (1, 393216, .inl bf)), (a19, .inl (2, 912, .inl la)), (a28, .inl (0, 12, .inl fa)), (a32, .inl (1, 24576, .inl ot)), (a33, .inl (0, 12, .inl tl))]) (hn : h.1 = n) (hs : h.2.1 = sl) (hn0 : 0 < n) : ax_M L xs 198 fr lo [.ref m, .int (nI w), .int (nI d), .int 1] h (fun r h' => ∃ f fs', f = frN us 48 0 ∧ r = some (.int (nI t)) ∧ fs'.length = 39 ∧ fs'[20]? = some (.int (nI (c + 1))) ∧ fs'[21]? = some (.int (nI to + (nI z - nI 0))) ∧ (∀ k, k ≠ 20 → k ≠ 21 → fs'[k]? = fs[k]?) ∧ ax_hs h' [(m, .inr (11, fs')), (a12, .inl (0, 48, .inl (upd (inF ff pf lf (400 * w + 200 * 0) n1 c og) (inA ff pf lf (400 * w + 200 * 0) n1 c og) (nI f)))), (a14, .inl (1, 9600, .inl (rgF (fun i => vp_nar .byte (pf ((400 * w + 200 * 0) + i))) (200 * f) n1 ff))), (a15, .inl (0, 48, .inl (upd lf f (nI n1)))), (a30, .inl (1, 4800, .inl pf)), (a31, .inl (0, 24, .inl ql)), (a13, .inl (2, 48, .inl (upd us f (vp_nar .boolean 1)))), (a16, .inl (0, 48, .inl (upd jf f (nI d)))), (a17, .inl (0, 48, .inl (upd (upd zf f 0) f (nI z)))), (a18, .inl (1, 393216, .inl (rgF (fun i => vp_nar .byte (ot (2048 * w + i))) (8192 * f + a) t (rgF (fun _ => vp_nar .byte 0) (8192 * f + 0) (z - 0) bf)))), (a19, .inl (2, 912, .inl (wlF f a (laF (19 * f) z (rgF (fun _ => vp_nar .boolean 0) (19 * f) 19 la) 19) t))), (a28, .inl (0, 12, .inl fa)), (a32, .inl (1, 24576, .inl ot)), (a33, .inl (0, 12, .inl tl))] ∧ h'.1 = n ∧ h'.2.1 = sl ∧ ax_fr (fun x => x ∈ [m, a12, a13, a14, a15, a16, a17, a18, a19]) h h') := by
  show ax_A (ax_step L xs) ((198, 0, fr, lo), [(0, .ref m), (1, .int (nI w)), (2, .int (nI d)), (3, .int 1)], [], h) _
  have key : ax_A (ax_step L xs) ((198, 78, fr, lo), [(0, .ref m), (1, .int (nI w)), (2, .int (nI d)), (3, .int 1), (4, .int (-1)), (5, .int 0), (6, .int (nI t)), (7, .int (nI a)), (8, .int (nI z))], [], h) (fun r h' => ∃ f fs', f = frN us 48 0 ∧ r = some (.int (nI t)) ∧ fs'.length = 39 ∧ fs'[20]? = some (.int (nI (c + 1))) ∧ fs'[21]? = some (.int (nI to + (nI z - nI 0))) ∧ (∀ k, k ≠ 20 → k ≠ 21 → fs'[k]? = fs[k]?) ∧ ax_hs h' [(m, .inr (11, fs')), (a12, .inl (0, 48, .inl (upd (inF ff pf lf (400 * w + 200 * 0) n1 c og) (inA ff pf lf (400 * w + 200 * 0) n1 c og) (nI f)))), (a14, .inl (1, 9600, .inl (rgF (fun i => vp_nar .byte (pf ((400 * w + 200 * 0) + i))) (200 * f) n1 ff))), (a15, .inl (0, 48, .inl (upd lf f (nI n1)))), (a30, .inl (1, 4800, .inl pf)), (a31, .inl (0, 24, .inl ql)), (a13, .inl (2, 48, .inl (upd us f (vp_nar .boolean 1)))), (a16, .inl (0, 48, .inl (upd jf f (nI d)))), (a17, .inl (0, 48, .inl (upd (upd zf f 0) f (nI z)))), (a18, .inl (1, 393216, .inl (rgF (fun i => vp_nar .byte (ot (2048 * w + i))) (8192 * f + a) t (rgF (fun _ => vp_nar .byte 0) (8192 * f + 0) (z - 0) bf)))), (a19, .inl (2, 912, .inl (wlF f a (laF (19 * f) z (rgF (fun _ => vp_nar .boolean 0) (19 * f) 19 la) 19) t))), (a28, .inl (0, 12, .inl fa)), (a32, .inl (1, 24576, .inl ot)), (a33, .inl (0, 12, .inl tl))] ∧ h'.1 = n ∧ h'.2.1 = sl ∧ ax_fr (fun x => x ∈ [m, a12, a13, a14, a15, a16, a17, a18, a19]) h h') := by
    have hbase : h.1 = n := hn
    have hbasl : h.2.1 = sl := hs
    have hf : ax_fr (fun x => x ∈ [m, a12, a13, a14, a15, a16, a17, a18, a19]) h h := ax_fr.rf
    have hO : ∀ k, k ≠ 20 → k ≠ 21 → fs[k]? = fs[k]? := fun _ _ _ => rfl
    refine ar_iload 80 d_198_78 rfl rfl ?_
    refine ar_if_ge 92 83 d_198_80 (by decide) rfl (fun c => absurd c (by decide)) (fun _ => ?_)
    refine ar_aload_n 84 d_198_83 rfl rfl ?_
    refine ar_getf 87 d_198_84 rfl (ci := 11) (k := 20) rfl (hF.at 0 rfl) z20 ?_
    refine ar_bipush 89 (v := 48) d_198_87 rfl (by decide) ?_
    refine ar_top (x' := nI 48) rfl ?_
    refine ar_icmp_eq 115 92 d_198_89 (by decide) rfl (fun c => absurd c (fun q => absurd (nI_inj (by omega) (by omega) q) (by omega))) (fun _ => ?_)
    refine ar_iload 94 d_198_92 rfl rfl ?_
    refine ar_sipush 97 (v := 8192) d_198_94 rfl (by decide) ?_
    refine ar_top (x' := nI 8192) rfl ?_
    refine ar_icmp_gt 115 100 d_198_97 (by decide) rfl (fun c => absurd c (nI_nlt hz8 (by omega))) (fun _ => ?_)
    refine ar_aload_n 101 d_198_100 rfl rfl ?_
    refine ar_getf 104 d_198_101 rfl (ci := 11) (k := 21) rfl (hF.at 0 rfl) z21 ?_
    refine ar_iload 106 d_198_104 rfl rfl ?_
    refine ar_isub 107 d_198_106 rfl ?_
    refine ar_top (x' := nI to) (Int32.sub_zero _) ?_
    refine ar_iload 109 d_198_107 rfl rfl ?_
    refine ar_iadd 110 d_198_109 rfl ?_
    refine ar_top (x' := nI (to + z)) (nI_add _ _) ?_
    refine ar_ldc 112 d_198_110 rfl (v := 32768) rfl ?_
    refine ar_top (x' := nI 32768) (by decide +kernel) ?_
    refine ar_icmp_le 118 115 d_198_112 (by decide) rfl (fun _ => ?_) (fun c => absurd (nI_le hfull (by omega)) c)
    refine ar_iload 120 d_198_118 rfl rfl ?_
    refine ar_if_ge 131 123 d_198_120 (by decide) rfl (fun c => absurd c (by decide)) (fun _ => ?_)
    refine ar_aload_n 124 d_198_123 rfl rfl ?_
    refine ar_iload_n 125 d_198_124 rfl rfl ?_
    refine ar_iload_n 126 d_198_125 rfl rfl ?_
    refine ar_call (r := []) (na := 0) (kd := 0) (cm := 196) (fr2 := fr - 1) (lo2 := lo - 24) 129 d_198_126 (ar_hoV (as := [.int (nI w), .int (nI d)]) rfl rfl rfl (hF.at 0 rfl)) rfl (by omega) (show lo - 24 + (19 + 5) = lo by omega) (Nat.le_of_ble_eq_true rfl) (Nat.le_of_ble_eq_true rfl) (n_196 (by omega) (by omega) hw hn1 hn2 hlf hog hfree hc7 hl z12 z13 z14 z15 z16 z17 z19 z20 z30 z31 (hF.sub (F' := [(m, .inr (11, fs)), (a12, .inl (0, 48, .inl og)), (a13, .inl (2, 48, .inl us)), (a14, .inl (1, 9600, .inl ff)), (a15, .inl (0, 48, .inl lf)), (a16, .inl (0, 48, .inl jf)), (a17, .inl (0, 48, .inl zf)), (a19, .inl (2, 912, .inl la)), (a30, .inl (1, 4800, .inl pf)), (a31, .inl (0, 24, .inl ql))]) [0, 1, 6, 2, 3, 7, 8, 10, 4, 5] rfl rfl) hn hs (by omega)) ?_
    intro v h1 hq
    obtain ⟨f, fs1, ef, rfl, yl, y20, yO, qF, qn, qs, qf⟩ := hq
    have qF : ax_hs h1 [(m, .inr (11, fs1)), (a12, .inl (0, 48, .inl (upd (inF ff pf lf (400 * w + 200 * 0) n1 c og) (inA ff pf lf (400 * w + 200 * 0) n1 c og) (nI f)))), (a13, .inl (2, 48, .inl (upd us f (vp_nar .boolean 1)))), (a14, .inl (1, 9600, .inl (rgF (fun i => vp_nar .byte (pf ((400 * w + 200 * 0) + i))) (200 * f) n1 ff))), (a15, .inl (0, 48, .inl (upd lf f (nI n1)))), (a16, .inl (0, 48, .inl (upd jf f (nI d)))), (a17, .inl (0, 48, .inl (upd zf f 0))), (a19, .inl (2, 912, .inl (rgF (fun _ => vp_nar .boolean 0) (19 * f) 19 la))), (a30, .inl (1, 4800, .inl pf)), (a31, .inl (0, 24, .inl ql))] := qF
    replace hF : ax_hs h1 [(a18, .inl (1, 393216, .inl bf)), (a28, .inl (0, 12, .inl fa)), (a32, .inl (1, 24576, .inl ot)), (a33, .inl (0, 12, .inl tl)), (m, .inr (11, fs1)), (a12, .inl (0, 48, .inl (upd (inF ff pf lf (400 * w + 200 * 0) n1 c og) (inA ff pf lf (400 * w + 200 * 0) n1 c og) (nI f)))), (a13, .inl (2, 48, .inl (upd us f (vp_nar .boolean 1)))), (a14, .inl (1, 9600, .inl (rgF (fun i => vp_nar .byte (pf ((400 * w + 200 * 0) + i))) (200 * f) n1 ff))), (a15, .inl (0, 48, .inl (upd lf f (nI n1)))), (a16, .inl (0, 48, .inl (upd jf f (nI d)))), (a17, .inl (0, 48, .inl (upd zf f 0))), (a19, .inl (2, 912, .inl (rgF (fun _ => vp_nar .boolean 0) (19 * f) 19 la))), (a30, .inl (1, 4800, .inl pf)), (a31, .inl (0, 24, .inl ql))] := ax_hs.call (rest := [(a18, .inl (1, 393216, .inl bf)), (a28, .inl (0, 12, .inl fa)), (a32, .inl (1, 24576, .inl ot)), (a33, .inl (0, 12, .inl tl))]) [0, 1, 6, 2, 3, 7, 8, 10, 4, 5] [9, 11, 12, 13] hF qf qF rfl rfl rfl [0, 1, 6, 2, 3, 7, 8, 10] rfl rfl [0, 1, 6, 2, 3, 7, 8, 10, 4, 5] (news := []) rfl rfl (fun _ z => absurd z List.not_mem_nil) rfl
    replace hf := hf.trC qf (by intro x hx hB; simp at hB; first | (rcases hB with rfl | rfl | rfl | rfl | rfl | rfl | rfl | rfl <;> first | omega | simp) | omega | simp [hB])
    replace hn : h1.1 = n := by omega
    replace hs : h1.2.1 = sl := by omega
    have qf0 := qf
    clear qF qn qs qf
    replace z12 : fs1[12]? = some (.ref a12) := (yO 12 (by decide)).trans z12
    replace z14 : fs1[14]? = some (.ref a14) := (yO 14 (by decide)).trans z14
    replace z15 : fs1[15]? = some (.ref a15) := (yO 15 (by decide)).trans z15
    replace z30 : fs1[30]? = some (.ref a30) := (yO 30 (by decide)).trans z30
    replace z31 : fs1[31]? = some (.ref a31) := (yO 31 (by decide)).trans z31
    replace z13 : fs1[13]? = some (.ref a13) := (yO 13 (by decide)).trans z13
    replace z16 : fs1[16]? = some (.ref a16) := (yO 16 (by decide)).trans z16
    replace z17 : fs1[17]? = some (.ref a17) := (yO 17 (by decide)).trans z17
    replace z18 : fs1[18]? = some (.ref a18) := (yO 18 (by decide)).trans z18
    replace z19 : fs1[19]? = some (.ref a19) := (yO 19 (by decide)).trans z19
    replace z21 : fs1[21]? = some (.int (nI to)) := (yO 21 (by decide)).trans z21
    replace z28 : fs1[28]? = some (.ref a28) := (yO 28 (by decide)).trans z28
    replace z32 : fs1[32]? = some (.ref a32) := (yO 32 (by decide)).trans z32
    replace z33 : fs1[33]? = some (.ref a33) := (yO 33 (by decide)).trans z33
    replace z20 : fs1[20]? = some (.int (nI (c + 1))) := y20
    replace hO : ∀ k, k ≠ 20 → k ≠ 21 → fs1[k]? = fs[k]? := fun k y20 y21 => (yO k y20).trans (hO k y20 y21)
    replace hl := yl
    clear yl yO y20
    have hf0 : f < 48 := by rw [ef]; exact hfree
    refine ar_istore 131 [(0, .ref m), (1, .int (nI w)), (2, .int (nI d)), (3, .int 1), (4, .int (nI f)), (5, .int 0), (6, .int (nI t)), (7, .int (nI a)), (8, .int (nI z))] d_198_129 rfl (by decide) rfl ?_
    refine ar_aload_n 132 d_198_131 rfl rfl ?_
    refine ar_iload 134 d_198_132 rfl rfl ?_
    refine ar_iload 136 d_198_134 rfl rfl ?_
    refine ar_call (r := []) (na := 0) (kd := 0) (cm := 199) (fr2 := fr - 1) (lo2 := lo - 23) 139 d_198_136 (ar_hoV (as := [.int (nI f), .int (nI z)]) rfl rfl rfl (hF.at 4 rfl)) rfl (by omega) (show lo - 23 + (19 + 4) = lo by omega) (Nat.le_of_ble_eq_true rfl) (Nat.le_of_ble_eq_true rfl) (n_199 (y := 0) hf0 hz8 (by omega) (upd_s _ _ _) hl z17 z18 z19 z21 (hF.sub (F' := [(m, .inr (11, fs1)), (a17, .inl (0, 48, .inl (upd zf f 0))), (a18, .inl (1, 393216, .inl bf)), (a19, .inl (2, 912, .inl (rgF (fun _ => vp_nar .boolean 0) (19 * f) 19 la)))]) [4, 10, 0, 11] rfl rfl) hn hs (by omega)) ?_
    intro v h2 hq
    obtain ⟨fs2, rfl, yl, y21, yO, qF, qn, qs, qf⟩ := hq
    have qF : ax_hs h2 [(m, .inr (11, fs2)), (a17, .inl (0, 48, .inl (upd (upd zf f 0) f (nI z)))), (a18, .inl (1, 393216, .inl (rgF (fun _ => vp_nar .byte 0) (8192 * f + 0) (z - 0) bf))), (a19, .inl (2, 912, .inl (laF (19 * f) z (rgF (fun _ => vp_nar .boolean 0) (19 * f) 19 la) 19)))] := qF
    replace hF : ax_hs h2 [(a28, .inl (0, 12, .inl fa)), (a32, .inl (1, 24576, .inl ot)), (a33, .inl (0, 12, .inl tl)), (a12, .inl (0, 48, .inl (upd (inF ff pf lf (400 * w + 200 * 0) n1 c og) (inA ff pf lf (400 * w + 200 * 0) n1 c og) (nI f)))), (a13, .inl (2, 48, .inl (upd us f (vp_nar .boolean 1)))), (a14, .inl (1, 9600, .inl (rgF (fun i => vp_nar .byte (pf ((400 * w + 200 * 0) + i))) (200 * f) n1 ff))), (a15, .inl (0, 48, .inl (upd lf f (nI n1)))), (a16, .inl (0, 48, .inl (upd jf f (nI d)))), (a30, .inl (1, 4800, .inl pf)), (a31, .inl (0, 24, .inl ql)), (m, .inr (11, fs2)), (a17, .inl (0, 48, .inl (upd (upd zf f 0) f (nI z)))), (a18, .inl (1, 393216, .inl (rgF (fun _ => vp_nar .byte 0) (8192 * f + 0) (z - 0) bf))), (a19, .inl (2, 912, .inl (laF (19 * f) z (rgF (fun _ => vp_nar .boolean 0) (19 * f) 19 la) 19)))] := ax_hs.call (rest := [(a28, .inl (0, 12, .inl fa)), (a32, .inl (1, 24576, .inl ot)), (a33, .inl (0, 12, .inl tl)), (a12, .inl (0, 48, .inl (upd (inF ff pf lf (400 * w + 200 * 0) n1 c og) (inA ff pf lf (400 * w + 200 * 0) n1 c og) (nI f)))), (a13, .inl (2, 48, .inl (upd us f (vp_nar .boolean 1)))), (a14, .inl (1, 9600, .inl (rgF (fun i => vp_nar .byte (pf ((400 * w + 200 * 0) + i))) (200 * f) n1 ff))), (a15, .inl (0, 48, .inl (upd lf f (nI n1)))), (a16, .inl (0, 48, .inl (upd jf f (nI d)))), (a30, .inl (1, 4800, .inl pf)), (a31, .inl (0, 24, .inl ql))]) [4, 10, 0, 11] [1, 2, 3, 5, 6, 7, 8, 9, 12, 13] hF qf qF rfl rfl rfl [4, 10, 0, 11] rfl rfl [4, 10, 0, 11] (news := []) rfl rfl (fun _ z => absurd z List.not_mem_nil) rfl
    replace hf := hf.trC qf (by intro x hx hB; simp at hB; first | (rcases hB with rfl | rfl | rfl | rfl <;> first | omega | simp) | omega | simp [hB])
    replace hn : h2.1 = n := by omega
    replace hs : h2.2.1 = sl := by omega
    have qf0 := qf
    clear qF qn qs qf
    replace z12 : fs2[12]? = some (.ref a12) := (yO 12 (by decide)).trans z12
    replace z14 : fs2[14]? = some (.ref a14) := (yO 14 (by decide)).trans z14
    replace z15 : fs2[15]? = some (.ref a15) := (yO 15 (by decide)).trans z15
    replace z20 : fs2[20]? = some (.int (nI (c + 1))) := (yO 20 (by decide)).trans z20
    replace z30 : fs2[30]? = some (.ref a30) := (yO 30 (by decide)).trans z30
    replace z31 : fs2[31]? = some (.ref a31) := (yO 31 (by decide)).trans z31
    replace z13 : fs2[13]? = some (.ref a13) := (yO 13 (by decide)).trans z13
    replace z16 : fs2[16]? = some (.ref a16) := (yO 16 (by decide)).trans z16
    replace z17 : fs2[17]? = some (.ref a17) := (yO 17 (by decide)).trans z17
    replace z18 : fs2[18]? = some (.ref a18) := (yO 18 (by decide)).trans z18
    replace z19 : fs2[19]? = some (.ref a19) := (yO 19 (by decide)).trans z19
    replace z28 : fs2[28]? = some (.ref a28) := (yO 28 (by decide)).trans z28
    replace z32 : fs2[32]? = some (.ref a32) := (yO 32 (by decide)).trans z32
    replace z33 : fs2[33]? = some (.ref a33) := (yO 33 (by decide)).trans z33
    replace z21 : fs2[21]? = some (.int (nI to + (nI z - nI 0))) := y21
    replace hO : ∀ k, k ≠ 20 → k ≠ 21 → fs2[k]? = fs[k]? := fun k y20 y21 => (yO k y21).trans (hO k y20 y21)
    replace hl := yl
    clear yl yO y21
    refine ar_iconst 140 (v := 0) d_198_139 rfl (by decide) ?_
    refine ar_istore 142 [(0, .ref m), (1, .int (nI w)), (2, .int (nI d)), (3, .int 1), (4, .int (nI f)), (5, .int 0), (6, .int (nI t)), (7, .int (nI a)), (8, .int (nI z)), (9, .int 0)] d_198_140 rfl (by decide) rfl ?_
    have hF4 := hF.sub (F' := [(m, .inr (11, fs2)), (a18, .inl (1, 393216, .inl (rgF (fun _ => vp_nar .byte 0) (8192 * f + 0) (z - 0) bf))), (a19, .inl (2, 912, .inl (laF (19 * f) z (rgF (fun _ => vp_nar .boolean 0) (19 * f) 19 la) 19))), (a32, .inl (1, 24576, .inl ot))]) [10, 12, 13, 1] rfl rfl
    have hF5 : ax_hs h2 [(m, .inr (11, fs2)), (a18, .inl (1, 393216, .inl (rgF (fun i => vp_nar .byte (ot (2048 * w + i))) (8192 * f + a) 0 (rgF (fun _ => vp_nar .byte 0) (8192 * f + 0) (z - 0) bf)))), (a19, .inl (2, 912, .inl (wlF f a (laF (19 * f) z (rgF (fun _ => vp_nar .boolean 0) (19 * f) 19 la) 19) 0))), (a32, .inl (1, 24576, .inl ot))] := by rw [rgF_0]; exact hF4
    refine nlp_198 hf0 hw ht (by omega) hl z18 z19 z32 t 0 h2 (by omega) hF5 hn hs (fun h9 qF qn qs qf => ?_)
    have hR := (hF.sub (F' := [(a28, .inl (0, 12, .inl fa)), (a33, .inl (0, 12, .inl tl)), (a12, .inl (0, 48, .inl (upd (inF ff pf lf (400 * w + 200 * 0) n1 c og) (inA ff pf lf (400 * w + 200 * 0) n1 c og) (nI f)))), (a13, .inl (2, 48, .inl (upd us f (vp_nar .boolean 1)))), (a14, .inl (1, 9600, .inl (rgF (fun i => vp_nar .byte (pf ((400 * w + 200 * 0) + i))) (200 * f) n1 ff))), (a15, .inl (0, 48, .inl (upd lf f (nI n1)))), (a16, .inl (0, 48, .inl (upd jf f (nI d)))), (a30, .inl (1, 4800, .inl pf)), (a31, .inl (0, 24, .inl ql)), (a17, .inl (0, 48, .inl (upd (upd zf f 0) f (nI z))))]) [0, 2, 3, 4, 5, 6, 7, 8, 9, 11] rfl rfl).fr qf (by intro x hx q; exact ax_hs.apartA hF [0, 2, 3, 4, 5, 6, 7, 8, 9, 11] [12, 13] (by decide) rfl rfl x.1 (List.mem_map.mpr ⟨x, hx, rfl⟩) q)
    have hG := hR.app qF (by intro i j p q hp hq; exact ax_hs.apart2 hF [0, 2, 3, 4, 5, 6, 7, 8, 9, 11] [10, 12, 13, 1] (by decide) rfl rfl hp hq)
    exact ⟨f, _, ef, rfl, hl, z20, z21, hO, hG.sub (F' := [(m, .inr (11, fs2)), (a12, .inl (0, 48, .inl (upd (inF ff pf lf (400 * w + 200 * 0) n1 c og) (inA ff pf lf (400 * w + 200 * 0) n1 c og) (nI f)))), (a14, .inl (1, 9600, .inl (rgF (fun i => vp_nar .byte (pf ((400 * w + 200 * 0) + i))) (200 * f) n1 ff))), (a15, .inl (0, 48, .inl (upd lf f (nI n1)))), (a30, .inl (1, 4800, .inl pf)), (a31, .inl (0, 24, .inl ql)), (a13, .inl (2, 48, .inl (upd us f (vp_nar .boolean 1)))), (a16, .inl (0, 48, .inl (upd jf f (nI d)))), (a17, .inl (0, 48, .inl (upd (upd zf f 0) f (nI z)))), (a18, .inl (1, 393216, .inl (rgF (fun i => vp_nar .byte (ot (2048 * w + i))) (8192 * f + a) t (rgF (fun _ => vp_nar .byte 0) (8192 * f + 0) (z - 0) bf)))), (a19, .inl (2, 912, .inl (wlF f a (laF (19 * f) z (rgF (fun _ => vp_nar .boolean 0) (19 * f) 19 la) 19) t))), (a28, .inl (0, 12, .inl fa)), (a32, .inl (1, 24576, .inl ot)), (a33, .inl (0, 12, .inl tl))]) [10, 2, 4, 5, 7, 8, 3, 6, 9, 11, 12, 0, 13, 1] rfl rfl, qn, qs, hf.tr (qf.mono (by intro x hx; simp only [List.mem_cons, List.not_mem_nil, or_false] at hx ⊢; rcases hx with rfl | rfl <;> simp))⟩
  refine ar_aload_n 1 d_198_0 rfl rfl ?_
  refine ar_iload_n 2 d_198_1 rfl rfl ?_
  refine ar_iconst 3 (v := 0) d_198_2 rfl (by decide) ?_
  refine ar_call (r := []) (na := 0) (kd := 0) (cm := 194) (fr2 := fr - 1) (lo2 := lo - 23) 6 d_198_3 (ar_hoV (as := [.int (nI w), .int 0]) rfl rfl rfl (hF.at 0 rfl)) rfl (by omega) (show lo - 23 + (19 + 4) = lo by omega) (Nat.le_of_ble_eq_true rfl) (Nat.le_of_ble_eq_true rfl) (n_194 (e := 0) (by omega) (by omega) hc hw (by omega) hn1 hn2 hog hlf (hF.at 0 rfl) z12 z14 z15 z20 z30 z31 (hF.at 1 rfl) (hF.at 2 rfl) (hF.at 3 rfl) (hF.at 4 rfl) (hF.at 5 rfl)) ?_
  intro v hh hq
  obtain ⟨rfl, ehh⟩ := hq
  rw [ehh]
  clear ehh
  refine ar_top (x' := -1) (hv) ?_
  refine ar_istore 8 [(0, .ref m), (1, .int (nI w)), (2, .int (nI d)), (3, .int 1), (4, .int (-1))] d_198_6 rfl (by decide) rfl ?_
  refine ar_iload 10 d_198_8 rfl rfl ?_
  refine ar_if_ge 17 13 d_198_10 (by decide) rfl (fun c => absurd c (by decide)) (fun _ => ?_)
  refine ar_iconst 14 (v := 0) d_198_13 rfl (by decide) ?_
  refine ar_goto 24 d_198_14 (by decide) ?_
  refine ar_istore 26 [(0, .ref m), (1, .int (nI w)), (2, .int (nI d)), (3, .int 1), (4, .int (-1)), (5, .int 0)] d_198_24 rfl (by decide) rfl ?_
  refine ar_aload_n 27 d_198_26 rfl rfl ?_
  refine ar_getf 30 d_198_27 rfl (ci := 11) (k := 33) rfl (hF.at 0 rfl) z33 ?_
  refine ar_iload_n 31 d_198_30 rfl rfl ?_
  refine ar_iald 32 d_198_31 rfl (hF.at 13 rfl) (nI_in (by omega) (by omega)) ?_
  refine ar_top (x' := nI t) (by rw [nI_clamp (by omega)]; exact htl) ?_
  refine ar_istore 34 [(0, .ref m), (1, .int (nI w)), (2, .int (nI d)), (3, .int 1), (4, .int (-1)), (5, .int 0), (6, .int (nI t))] d_198_32 rfl (by decide) rfl ?_
  refine ar_iload_n 35 d_198_34 rfl rfl ?_
  refine ar_if_eq 43 38 d_198_35 (by decide) rfl (fun c => absurd c (by decide)) (fun _ => ?_)
  refine ar_iload 40 d_198_38 rfl rfl ?_
  refine ar_goto 49 d_198_40 (by decide) ?_
  refine ar_top (x' := nI a) (by rw [hay]; rfl) ?_
  refine ar_istore 51 [(0, .ref m), (1, .int (nI w)), (2, .int (nI d)), (3, .int 1), (4, .int (-1)), (5, .int 0), (6, .int (nI t)), (7, .int (nI a))] d_198_49 rfl (by decide) rfl ?_
  refine ar_iload 53 d_198_51 rfl rfl ?_
  refine ar_if_eq 66 56 d_198_53 (by decide) rfl (fun c1 => ?_) (fun c1 => ?_)
  · have k1 : t = 0 := nI_inj (b := 0) (by omega) (by omega) c1
    have k2 : z = 0 := by omega
    subst k2
    refine ar_iload 68 d_198_66 rfl rfl ?_
    refine ar_goto 76 d_198_68 (by decide) ?_
    refine ar_istore 78 [(0, .ref m), (1, .int (nI w)), (2, .int (nI d)), (3, .int 1), (4, .int (-1)), (5, .int 0), (6, .int (nI t)), (7, .int (nI a)), (8, .int 0)] d_198_76 rfl (by decide) rfl ?_
    exact key
  · have k0 : 0 < t := Nat.pos_of_ne_zero (fun z => c1 (by rw [z]; rfl))
    have k2 : z = a + t := by omega
    subst k2
    refine ar_iload 58 d_198_56 rfl rfl ?_
    refine ar_iload 60 d_198_58 rfl rfl ?_
    refine ar_iadd 61 d_198_60 rfl ?_
    refine ar_top (x' := nI (a + t)) (nI_add a t) ?_
    refine ar_iload 63 d_198_61 rfl rfl ?_
    refine ar_icmp_ge 71 66 d_198_63 (by decide) rfl (fun _ => ?_) (fun c => absurd (nI_pos' (by omega)) c)
    refine ar_iload 73 d_198_71 rfl rfl ?_
    refine ar_iload 75 d_198_73 rfl rfl ?_
    refine ar_iadd 76 d_198_75 rfl ?_
    refine ar_top (x' := nI (a + t)) (nI_add a t) ?_
    refine ar_istore 78 [(0, .ref m), (1, .int (nI w)), (2, .int (nI d)), (3, .int 1), (4, .int (-1)), (5, .int 0), (6, .int (nI t)), (7, .int (nI a)), (8, .int (nI (a + t)))] d_198_76 rfl (by decide) rfl ?_
    exact key


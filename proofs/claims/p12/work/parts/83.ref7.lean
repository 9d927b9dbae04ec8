/-! the reference, exactly: read -/
theorem nlp_201 {L : Nat} {xs : Nat → Int32} {fr lo m n sl : Nat} {fs : List Value} {a17 a18 a28 a29 a35 a36 f a t a12 a14 a15 a30 a31 w c : Nat} {zf bf fa sb td tl og ff lf pf ql : Nat → Int32} {post : ax_Po} (hf0 : f < 48) (hw : w < 12) (ht : t ≤ 2048) (hat : a + t ≤ 8192) (hfa : fa w = nI a) (hl : fs.length = 39) (z12 : fs[12]? = some (.ref a12)) (z14 : fs[14]? = some (.ref a14)) (z15 : fs[15]? = some (.ref a15)) (z17 : fs[17]? = some (.ref a17)) (z18 : fs[18]? = some (.ref a18)) (z20 : fs[20]? = some (.int (nI c))) (z28 : fs[28]? = some (.ref a28)) (z29 : fs[29]? = some (.ref a29)) (z30 : fs[30]? = some (.ref a30)) (z31 : fs[31]? = some (.ref a31)) (z35 : fs[35]? = some (.ref a35)) (z36 : fs[36]? = some (.ref a36)) : ∀ (k i : Nat) (h : ax_H), i + k = t → ax_hs h [(m, .inr (11, fs)), (a12, .inl (0, 48, .inl og)), (a14, .inl (1, 9600, .inl ff)), (a15, .inl (0, 48, .inl lf)), (a30, .inl (1, 4800, .inl pf)), (a31, .inl (0, 24, .inl ql)), (a17, .inl (0, 48, .inl zf)), (a18, .inl (1, 393216, .inl bf)), (a28, .inl (0, 12, .inl fa)), (a29, .inl (0, 12, .inl sb)), (a35, .inl (0, 24576, .inl (rgF (fun i => (bf (8192 * f + a + i)) &&& 255) (2048 * w) i td))), (a36, .inl (0, 12, .inl tl))] → h.1 = n → h.2.1 = sl → (∀ h', ax_hs h' [(m, .inr (11, fs)), (a12, .inl (0, 48, .inl og)), (a14, .inl (1, 9600, .inl ff)), (a15, .inl (0, 48, .inl lf)), (a30, .inl (1, 4800, .inl pf)), (a31, .inl (0, 24, .inl ql)), (a17, .inl (0, 48, .inl zf)), (a18, .inl (1, 393216, .inl bf)), (a28, .inl (0, 12, .inl fa)), (a29, .inl (0, 12, .inl sb)), (a35, .inl (0, 24576, .inl (rgF (fun i => (bf (8192 * f + a + i)) &&& 255) (2048 * w) t td))), (a36, .inl (0, 12, .inl tl))] → h'.1 = n → h'.2.1 = sl → ax_fr (fun x => x ∈ [a35]) h h' → ax_A (ax_step L xs) ((201, 103, fr, lo), [(0, .ref m), (1, .int (nI w)), (2, .int (nI f)), (3, .int (nI t)), (4, .int (nI t))], [], h') post) → ax_A (ax_step L xs) ((201, 54, fr, lo), [(0, .ref m), (1, .int (nI w)), (2, .int (nI f)), (3, .int (nI t)), (4, .int (nI i))], [], h) post := by
  intro k
  induction k with
  | zero =>
    intro i h hi hF hn hs kk
    have ei : i = t := by omega
    subst ei
    refine ar_iload 56 d_201_54 rfl rfl ?_
    refine ar_iload_n 57 d_201_56 rfl rfl ?_
    refine ar_icmp_ge 103 60 d_201_57 (by decide) rfl (fun _ => ?_) (fun c => absurd (Int32.le_refl _) c)
    exact kk h hF hn hs ax_fr.rf
  | succ k ih =>
    intro i h hi hF hn hs kk
    have hbase : h.1 = n := hn
    have hbasl : h.2.1 = sl := hs
    have hf : ax_fr (fun x => x ∈ [a35]) h h := ax_fr.rf
    refine ar_iload 56 d_201_54 rfl rfl ?_
    refine ar_iload_n 57 d_201_56 rfl rfl ?_
    refine ar_icmp_ge 103 60 d_201_57 (by decide) rfl (fun c => absurd c (nI_ge (by omega) (by omega))) (fun _ => ?_)
    refine ar_aload_n 61 d_201_60 rfl rfl ?_
    refine ar_getf 64 d_201_61 rfl (ci := 11) (k := 35) rfl (hF.at 0 rfl) z35 ?_
    refine ar_sipush 67 (v := 2048) d_201_64 rfl (by decide) ?_
    refine ar_iload_n 68 d_201_67 rfl rfl ?_
    refine ar_imul 69 d_201_68 rfl ?_
    refine ar_top (x' := nI (2048 * w)) (pk_mul 2048 w) ?_
    refine ar_iload 71 d_201_69 rfl rfl ?_
    refine ar_iadd 72 d_201_71 rfl ?_
    refine ar_top (x' := nI (2048 * w + i)) (nI_add (2048 * w) i) ?_
    refine ar_aload_n 73 d_201_72 rfl rfl ?_
    refine ar_getf 76 d_201_73 rfl (ci := 11) (k := 18) rfl (hF.at 0 rfl) z18 ?_
    refine ar_sipush 79 (v := 8192) d_201_76 rfl (by decide) ?_
    refine ar_iload_n 80 d_201_79 rfl rfl ?_
    refine ar_imul 81 d_201_80 rfl ?_
    refine ar_top (x' := nI (8192 * f)) (pk_mul 8192 f) ?_
    refine ar_aload_n 82 d_201_81 rfl rfl ?_
    refine ar_getf 85 d_201_82 rfl (ci := 11) (k := 28) rfl (hF.at 0 rfl) z28 ?_
    refine ar_iload_n 86 d_201_85 rfl rfl ?_
    refine ar_iald 87 d_201_86 rfl (hF.at 8 rfl) (nI_in (by omega) (by omega)) ?_
    refine ar_top (x' := nI a) (by rw [nI_clamp (by omega)]; exact hfa) ?_
    refine ar_iadd 88 d_201_87 rfl ?_
    refine ar_top (x' := nI (8192 * f + a)) (nI_add (8192 * f) a) ?_
    refine ar_iload 90 d_201_88 rfl rfl ?_
    refine ar_iadd 91 d_201_90 rfl ?_
    refine ar_top (x' := nI (8192 * f + a + i)) (nI_add (8192 * f + a) i) ?_
    refine ar_bald 92 d_201_91 rfl (hF.at 7 rfl) (nI_in (by omega) (by omega)) ?_
    refine ar_top (x' := bf (8192 * f + a + i)) (by rw [nI_clamp (by omega)]) ?_
    refine ar_sipush 95 (v := 255) d_201_92 rfl (by decide) ?_
    refine ar_iand 96 d_201_95 rfl ?_
    refine ar_iast 97 d_201_96 rfl (hF.at 10 rfl) (nI_in (by omega) (by omega)) ?_
    replace hF : ax_hs (ax_put h a35 (.inl (0, 24576, .inl (upd (rgF (fun i => (bf (8192 * f + a + i)) &&& 255) (2048 * w) i td) (nI (2048 * w + i)).toNatClampNeg ((bf (8192 * f + a + i)) &&& 255))))) [(m, .inr (11, fs)), (a12, .inl (0, 48, .inl og)), (a14, .inl (1, 9600, .inl ff)), (a15, .inl (0, 48, .inl lf)), (a30, .inl (1, 4800, .inl pf)), (a31, .inl (0, 24, .inl ql)), (a17, .inl (0, 48, .inl zf)), (a18, .inl (1, 393216, .inl bf)), (a28, .inl (0, 12, .inl fa)), (a29, .inl (0, 12, .inl sb)), (a35, .inl (0, 24576, .inl (upd (rgF (fun i => (bf (8192 * f + a + i)) &&& 255) (2048 * w) i td) (nI (2048 * w + i)).toNatClampNeg ((bf (8192 * f + a + i)) &&& 255)))), (a36, .inl (0, 12, .inl tl))] := hF.put 10 _ rfl rfl
    replace hf := hf.put (a := a35) (c := .inl (0, 24576, .inl (upd (rgF (fun i => (bf (8192 * f + a + i)) &&& 255) (2048 * w) i td) (nI (2048 * w + i)).toNatClampNeg ((bf (8192 * f + a + i)) &&& 255)))) (by simp)
    replace hn : (ax_put h a35 (.inl (0, 24576, .inl (upd (rgF (fun i => (bf (8192 * f + a + i)) &&& 255) (2048 * w) i td) (nI (2048 * w + i)).toNatClampNeg ((bf (8192 * f + a + i)) &&& 255))))).1 = n := hn
    replace hs : (ax_put h a35 (.inl (0, 24576, .inl (upd (rgF (fun i => (bf (8192 * f + a + i)) &&& 255) (2048 * w) i td) (nI (2048 * w + i)).toNatClampNeg ((bf (8192 * f + a + i)) &&& 255))))).2.1 = sl := hs
    generalize ax_put h a35 (.inl (0, 24576, .inl (upd (rgF (fun i => (bf (8192 * f + a + i)) &&& 255) (2048 * w) i td) (nI (2048 * w + i)).toNatClampNeg ((bf (8192 * f + a + i)) &&& 255)))) = h1 at hF hf hn hs ⊢
    refine ar_iinc 100 [(0, .ref m), (1, .int (nI w)), (2, .int (nI f)), (3, .int (nI t)), (4, .int (nI (i + 1)))] d_201_97 rfl rfl (nI_1 i) (by decide) rfl ?_
    refine ar_goto 54 d_201_100 (by decide) ?_
    rw [nI_clamp (show 2048 * w + i < 2 ^ 31 by omega), show upd (rgF (fun i => (bf (8192 * f + a + i)) &&& 255) (2048 * w) i td) (2048 * w + i) ((bf (8192 * f + a + i)) &&& 255) = rgF (fun i => (bf (8192 * f + a + i)) &&& 255) (2048 * w) (i + 1) td from rgF_s (fun i => (bf (8192 * f + a + i)) &&& 255) (2048 * w) i td] at hF
    exact ih (i + 1) h1 (by omega) hF hn hs (fun h' j1 j2 j3 j4 => kk h' j1 j2 j3 (hf.tr j4))
theorem nI_subn {y a : Nat} (hy : y ≤ 8192) (ha : a ≤ 8192) (h : y < a) : nI y - nI a < 0 := by
  rw [Int32.lt_iff_toInt_lt, Int32.toInt_sub, nI_toInt' (by omega), nI_toInt' (by omega), Int.bmod_eq_of_le]
  · have : (0 : Int32).toInt = 0 := by decide
    omega
  · omega
  · omega
theorem nI_sub {y a : Nat} (h : a ≤ y) : nI y - nI a = nI (y - a) := by
  rw [show nI y = nI (y - a) + nI a by rw [nI_add, Nat.sub_add_cancel h]]
  exact Int32.add_sub_cancel _ _
theorem n_201Y {L : Nat} {xs : Nat → Int32} {fr lo m n sl : Nat} {h : ax_H} {fs : List Value} {a17 a18 a28 a29 a35 a36 f y a t b2 a12 a14 a15 a30 a31 w c n1 : Nat} {zf bf fa sb td tl og ff lf pf ql : Nat → Int32} (hfr : 2 ≤ fr) (hlo : 80 ≤ lo) (hc : c ≤ 48) (hw : w < 12) (hn1 : ql (2 * w + 0) = nI n1) (hn2 : n1 ≤ 200) (hog : ∀ i, i < c → ¬ og i < 0 ∧ (og i).toNatClampNeg < 48) (hlf : ∀ f, f < 48 → ¬ lf f < 0 ∧ (lf f).toNatClampNeg ≤ 200) (hv : mfnd ff pf lf og (400 * w + 200 * 0) n1 c 0 = nI f) (hf0 : f < 48) (hzf : zf f = nI y) (hy : y ≤ 8192) (hfa : fa w = nI a) (ha : a ≤ 8192) (hsb : sb w = nI b2) (hb : b2 ≤ 2048) (et : t = min (y - a) b2) (hl : fs.length = 39) (z12 : fs[12]? = some (.ref a12)) (z14 : fs[14]? = some (.ref a14)) (z15 : fs[15]? = some (.ref a15)) (z17 : fs[17]? = some (.ref a17)) (z18 : fs[18]? = some (.ref a18)) (z20 : fs[20]? = some (.int (nI c))) (z28 : fs[28]? = some (.ref a28)) (z29 : fs[29]? = some (.ref a29)) (z30 : fs[30]? = some (.ref a30)) (z31 : fs[31]? = some (.ref a31)) (z35 : fs[35]? = some (.ref a35)) (z36 : fs[36]? = some (.ref a36)) (hF : ax_hs h [(m, .inr (11, fs)), (a12, .inl (0, 48, .inl og)), (a14, .inl (1, 9600, .inl ff)), (a15, .inl (0, 48, .inl lf)), (a30, .inl (1, 4800, .inl pf)), (a31, .inl (0, 24, .inl ql)), (a17, .inl (0, 48, .inl zf)), (a18, .inl (1, 393216, .inl bf)), (a28, .inl (0, 12, .inl fa)), (a29, .inl (0, 12, .inl sb)), (a35, .inl (0, 24576, .inl td)), (a36, .inl (0, 12, .inl tl))]) (hn : h.1 = n) (hs : h.2.1 = sl) (hn0 : 0 < n) : ax_M L xs 201 fr lo [.ref m, .int (nI w)] h (fun r h' => r = some (.int (nI t)) ∧ ax_hs h' [(m, .inr (11, fs)), (a12, .inl (0, 48, .inl og)), (a14, .inl (1, 9600, .inl ff)), (a15, .inl (0, 48, .inl lf)), (a30, .inl (1, 4800, .inl pf)), (a31, .inl (0, 24, .inl ql)), (a17, .inl (0, 48, .inl zf)), (a18, .inl (1, 393216, .inl bf)), (a28, .inl (0, 12, .inl fa)), (a29, .inl (0, 12, .inl sb)), (a35, .inl (0, 24576, .inl (rgF (fun i => (bf (8192 * f + a + i)) &&& 255) (2048 * w) t td))), (a36, .inl (0, 12, .inl (upd tl w (nI t))))] ∧ h'.1 = n ∧ h'.2.1 = sl ∧ ax_fr (fun x => x ∈ [a35, a36]) h h') := by
  show ax_A (ax_step L xs) ((201, 0, fr, lo), [(0, .ref m), (1, .int (nI w))], [], h) _
  have hbase : h.1 = n := hn
  have hbasl : h.2.1 = sl := hs
  have hf : ax_fr (fun x => x ∈ [a35, a36]) h h := ax_fr.rf
  refine ar_aload_n 1 d_201_0 rfl rfl ?_
  refine ar_iload_n 2 d_201_1 rfl rfl ?_
  refine ar_iconst 3 (v := 0) d_201_2 rfl (by decide) ?_
  refine ar_call (r := []) (na := 0) (kd := 0) (cm := 194) (fr2 := fr - 1) (lo2 := lo - 23) 6 d_201_3 (ar_hoV (as := [.int (nI w), .int 0]) rfl rfl rfl (hF.at 0 rfl)) rfl (by omega) (show lo - 23 + (19 + 4) = lo by omega) (Nat.le_of_ble_eq_true rfl) (Nat.le_of_ble_eq_true rfl) (n_194 (e := 0) (by omega) (by omega) hc hw (by omega) hn1 hn2 hog hlf (hF.at 0 rfl) z12 z14 z15 z20 z30 z31 (hF.at 1 rfl) (hF.at 2 rfl) (hF.at 3 rfl) (hF.at 4 rfl) (hF.at 5 rfl)) ?_
  intro v hh hq
  obtain ⟨rfl, ehh⟩ := hq
  rw [ehh]
  clear ehh
  refine ar_top (x' := nI f) (hv) ?_
  refine ar_istore_n 7 [(0, .ref m), (1, .int (nI w)), (2, .int (nI f))] d_201_6 rfl (by decide) rfl ?_
  refine ar_iload_n 8 d_201_7 rfl rfl ?_
  refine ar_if_ge 14 11 d_201_8 (by decide) rfl (fun _ => ?_) (fun c => absurd (nI_pos' (by omega)) c)
  refine ar_aload_n 15 d_201_14 rfl rfl ?_
  refine ar_getf 18 d_201_15 rfl (ci := 11) (k := 17) rfl (hF.at 0 rfl) z17 ?_
  refine ar_iload_n 19 d_201_18 rfl rfl ?_
  refine ar_iald 20 d_201_19 rfl (hF.at 6 rfl) (nI_in (by omega) (by omega)) ?_
  refine ar_top (x' := nI y) (by rw [nI_clamp (by omega)]; exact hzf) ?_
  refine ar_aload_n 21 d_201_20 rfl rfl ?_
  refine ar_getf 24 d_201_21 rfl (ci := 11) (k := 28) rfl (hF.at 0 rfl) z28 ?_
  refine ar_iload_n 25 d_201_24 rfl rfl ?_
  refine ar_iald 26 d_201_25 rfl (hF.at 8 rfl) (nI_in (by omega) (by omega)) ?_
  refine ar_top (x' := nI a) (by rw [nI_clamp (by omega)]; exact hfa) ?_
  have key : ax_A (ax_step L xs) ((201, 51, fr, lo), [(0, .ref m), (1, .int (nI w)), (2, .int (nI f)), (3, .int (nI t))], [], h) (fun r h' => r = some (.int (nI t)) ∧ ax_hs h' [(m, .inr (11, fs)), (a12, .inl (0, 48, .inl og)), (a14, .inl (1, 9600, .inl ff)), (a15, .inl (0, 48, .inl lf)), (a30, .inl (1, 4800, .inl pf)), (a31, .inl (0, 24, .inl ql)), (a17, .inl (0, 48, .inl zf)), (a18, .inl (1, 393216, .inl bf)), (a28, .inl (0, 12, .inl fa)), (a29, .inl (0, 12, .inl sb)), (a35, .inl (0, 24576, .inl (rgF (fun i => (bf (8192 * f + a + i)) &&& 255) (2048 * w) t td))), (a36, .inl (0, 12, .inl (upd tl w (nI t))))] ∧ h'.1 = n ∧ h'.2.1 = sl ∧ ax_fr (fun x => x ∈ [a35, a36]) h h') := by
    refine ar_iconst 52 (v := 0) d_201_51 rfl (by decide) ?_
    refine ar_istore 54 [(0, .ref m), (1, .int (nI w)), (2, .int (nI f)), (3, .int (nI t)), (4, .int 0)] d_201_52 rfl (by decide) rfl ?_
    have hF0 : ax_hs h [(m, .inr (11, fs)), (a12, .inl (0, 48, .inl og)), (a14, .inl (1, 9600, .inl ff)), (a15, .inl (0, 48, .inl lf)), (a30, .inl (1, 4800, .inl pf)), (a31, .inl (0, 24, .inl ql)), (a17, .inl (0, 48, .inl zf)), (a18, .inl (1, 393216, .inl bf)), (a28, .inl (0, 12, .inl fa)), (a29, .inl (0, 12, .inl sb)), (a35, .inl (0, 24576, .inl (rgF (fun i => (bf (8192 * f + a + i)) &&& 255) (2048 * w) 0 td))), (a36, .inl (0, 12, .inl tl))] := by rw [rgF_0]; exact hF
    refine nlp_201 hf0 hw (by omega) (by omega) hfa hl z12 z14 z15 z17 z18 z20 z28 z29 z30 z31 z35 z36 t 0 h (by omega) hF0 hn hs (fun h9 hF hn hs qf => ?_)
    replace hf := hf.tr (qf.mono (by intro x hx; simp at hx; subst hx; simp))
    refine ar_aload_n 104 d_201_103 rfl rfl ?_
    refine ar_getf 107 d_201_104 rfl (ci := 11) (k := 36) rfl (hF.at 0 rfl) z36 ?_
    refine ar_iload_n 108 d_201_107 rfl rfl ?_
    refine ar_iload_n 109 d_201_108 rfl rfl ?_
    refine ar_iast 110 d_201_109 rfl (hF.at 11 rfl) (nI_in (by omega) (by omega)) ?_
    replace hF : ax_hs (ax_put h9 a36 (.inl (0, 12, .inl (upd tl (nI w).toNatClampNeg (nI t))))) [(m, .inr (11, fs)), (a12, .inl (0, 48, .inl og)), (a14, .inl (1, 9600, .inl ff)), (a15, .inl (0, 48, .inl lf)), (a30, .inl (1, 4800, .inl pf)), (a31, .inl (0, 24, .inl ql)), (a17, .inl (0, 48, .inl zf)), (a18, .inl (1, 393216, .inl bf)), (a28, .inl (0, 12, .inl fa)), (a29, .inl (0, 12, .inl sb)), (a35, .inl (0, 24576, .inl (rgF (fun i => (bf (8192 * f + a + i)) &&& 255) (2048 * w) t td))), (a36, .inl (0, 12, .inl (upd tl (nI w).toNatClampNeg (nI t))))] := hF.put 11 _ rfl rfl
    replace hf := hf.put (a := a36) (c := .inl (0, 12, .inl (upd tl (nI w).toNatClampNeg (nI t)))) (by simp)
    replace hn : (ax_put h9 a36 (.inl (0, 12, .inl (upd tl (nI w).toNatClampNeg (nI t))))).1 = n := hn
    replace hs : (ax_put h9 a36 (.inl (0, 12, .inl (upd tl (nI w).toNatClampNeg (nI t))))).2.1 = sl := hs
    generalize ax_put h9 a36 (.inl (0, 12, .inl (upd tl (nI w).toNatClampNeg (nI t)))) = h10 at hF hf hn hs ⊢
    refine ar_iload_n 111 d_201_110 rfl rfl ?_
    rw [nI_clamp (show w < 2 ^ 31 by omega)] at hF
    exact ar_iret d_201_111 rfl rfl (⟨rfl, hF, hn, hs, hf⟩)
  by_cases h1 : a ≤ y
  · refine ar_isub 27 d_201_26 rfl ?_
    refine ar_top (x' := nI (y - a)) (nI_sub h1) ?_
    refine ar_istore_n 28 [(0, .ref m), (1, .int (nI w)), (2, .int (nI f)), (3, .int (nI (y - a)))] d_201_27 rfl (by decide) rfl ?_
    refine ar_iload_n 29 d_201_28 rfl rfl ?_
    refine ar_aload_n 30 d_201_29 rfl rfl ?_
    refine ar_getf 33 d_201_30 rfl (ci := 11) (k := 29) rfl (hF.at 0 rfl) z29 ?_
    refine ar_iload_n 34 d_201_33 rfl rfl ?_
    refine ar_iald 35 d_201_34 rfl (hF.at 9 rfl) (nI_in (by omega) (by omega)) ?_
    refine ar_top (x' := nI b2) (by rw [nI_clamp (by omega)]; exact hsb) ?_
    refine ar_icmp_le 45 38 d_201_35 (by decide) rfl (fun c1 => ?_) (fun c1 => ?_)
    · have k1 : y - a ≤ b2 := (nI_leI (by omega) (by omega)).mp c1
      have k2 : y - a = t := by omega
      refine ar_iload_n 46 d_201_45 rfl rfl ?_
      refine ar_if_ge 51 49 d_201_46 (by decide) rfl (fun _ => ?_) (fun c => absurd (nI_pos' (by omega)) c)
      rw [k2]
      exact key
    · have k1 : b2 < y - a := Nat.lt_of_not_le (fun z => c1 ((nI_leI (by omega) (by omega)).mpr z))
      have k2 : b2 = t := by omega
      refine ar_aload_n 39 d_201_38 rfl rfl ?_
      refine ar_getf 42 d_201_39 rfl (ci := 11) (k := 29) rfl (hF.at 0 rfl) z29 ?_
      refine ar_iload_n 43 d_201_42 rfl rfl ?_
      refine ar_iald 44 d_201_43 rfl (hF.at 9 rfl) (nI_in (by omega) (by omega)) ?_
      refine ar_top (x' := nI b2) (by rw [nI_clamp (by omega)]; exact hsb) ?_
      refine ar_istore_n 45 [(0, .ref m), (1, .int (nI w)), (2, .int (nI f)), (3, .int (nI b2))] d_201_44 rfl (by decide) rfl ?_
      refine ar_iload_n 46 d_201_45 rfl rfl ?_
      refine ar_if_ge 51 49 d_201_46 (by decide) rfl (fun _ => ?_) (fun c => absurd (nI_pos' (by omega)) c)
      rw [k2]
      exact key
  · have k0 := nI_subn hy ha (Nat.lt_of_not_le h1)
    refine ar_isub 27 d_201_26 rfl ?_
    refine ar_istore_n 28 [(0, .ref m), (1, .int (nI w)), (2, .int (nI f)), (3, .int ((nI y) - (nI a)))] d_201_27 rfl (by decide) rfl ?_
    refine ar_iload_n 29 d_201_28 rfl rfl ?_
    refine ar_aload_n 30 d_201_29 rfl rfl ?_
    refine ar_getf 33 d_201_30 rfl (ci := 11) (k := 29) rfl (hF.at 0 rfl) z29 ?_
    refine ar_iload_n 34 d_201_33 rfl rfl ?_
    refine ar_iald 35 d_201_34 rfl (hF.at 9 rfl) (nI_in (by omega) (by omega)) ?_
    refine ar_top (x' := nI b2) (by rw [nI_clamp (by omega)]; exact hsb) ?_
    refine ar_icmp_le 45 38 d_201_35 (by decide) rfl (fun _ => ?_) (fun c => absurd (Int32.le_of_lt (Int32.lt_of_lt_of_le k0 (nI_pos' (by omega)))) c)
    refine ar_iload_n 46 d_201_45 rfl rfl ?_
    refine ar_if_ge 51 49 d_201_46 (by decide) rfl (fun c => absurd c (Int32.not_le.mpr k0)) (fun _ => ?_)
    refine ar_iconst 50 (v := 0) d_201_49 rfl (by decide) ?_
    refine ar_istore_n 51 [(0, .ref m), (1, .int (nI w)), (2, .int (nI f)), (3, .int 0)] d_201_50 rfl (by decide) rfl ?_
    have k2 : t = 0 := by omega
    rw [k2] at key ⊢
    exact key


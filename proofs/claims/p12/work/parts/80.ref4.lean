/-! the reference, exactly: enter -/
def inA (ff pf lf : Nat → Int32) (b n : Nat) : Nat → (Nat → Int32) → Nat
  | 0, _ => 0
  | a + 1, og => if mcF ff pf lf b n (og a).toNatClampNeg ≤ 0 then a + 1 else inA ff pf lf b n a (upd og (a + 1) (og a))
def inF (ff pf lf : Nat → Int32) (b n : Nat) : Nat → (Nat → Int32) → (Nat → Int32)
  | 0, og => og
  | a + 1, og => if mcF ff pf lf b n (og a).toNatClampNeg ≤ 0 then og else inF ff pf lf b n a (upd og (a + 1) (og a))
theorem inA_le (ff pf lf : Nat → Int32) (b n : Nat) : ∀ (a : Nat) (og : Nat → Int32), inA ff pf lf b n a og ≤ a
  | 0, _ => Nat.le_refl _
  | a + 1, og => by
    have ih := inA_le ff pf lf b n a (upd og (a + 1) (og a))
    unfold inA
    split <;> omega
theorem nlp_197a {L : Nat} {xs : Nat → Int32} {fr lo m n9 sl a12 a14 a15 a30 a31 f w e n c : Nat} {fs : List Value} {ff lf pf qf : Nat → Int32} {post : ax_Po} (hfr : 1 ≤ fr) (hlo : 40 ≤ lo) (hw : w < 12) (he : e < 2) (hn1 : qf (2 * w + e) = nI n) (hn2 : n ≤ 200) (hlf : ∀ f, f < 48 → ¬ lf f < 0 ∧ (lf f).toNatClampNeg ≤ 200) (hl : fs.length = 39) (z12 : fs[12]? = some (.ref a12)) (z14 : fs[14]? = some (.ref a14)) (z15 : fs[15]? = some (.ref a15)) (z20 : fs[20]? = some (.int (nI c))) (z30 : fs[30]? = some (.ref a30)) (z31 : fs[31]? = some (.ref a31)) : ∀ (a : Nat) (h : ax_H) (og : Nat → Int32), a ≤ 47 → (∀ i, i < a → ¬ og i < 0 ∧ (og i).toNatClampNeg < 48) → ax_hs h [(m, .inr (11, fs)), (a12, .inl (0, 48, .inl og)), (a14, .inl (1, 9600, .inl ff)), (a15, .inl (0, 48, .inl lf)), (a30, .inl (1, 4800, .inl pf)), (a31, .inl (0, 24, .inl qf))] → h.1 = n9 → h.2.1 = sl → (∀ h', ax_hs h' [(m, .inr (11, fs)), (a12, .inl (0, 48, .inl (inF ff pf lf (400 * w + 200 * e) n a og))), (a14, .inl (1, 9600, .inl ff)), (a15, .inl (0, 48, .inl lf)), (a30, .inl (1, 4800, .inl pf)), (a31, .inl (0, 24, .inl qf))] → h'.1 = n9 → h'.2.1 = sl → ax_fr (fun x => x ∈ [a12]) h h' → ax_A (ax_step L xs) ((197, 51, fr, lo), [(0, .ref m), (1, .int (nI f)), (2, .int (nI w)), (3, .int (nI e)), (4, .int (nI (inA ff pf lf (400 * w + 200 * e) n a og)))], [], h') post) → ax_A (ax_step L xs) ((197, 6, fr, lo), [(0, .ref m), (1, .int (nI f)), (2, .int (nI w)), (3, .int (nI e)), (4, .int (nI a))], [], h) post := by
  intro a
  induction a with
  | zero =>
    intro h og ha hog hF hn hs kk
    refine ar_iload 8 d_197_6 rfl rfl ?_
    refine ar_if_le 51 11 d_197_8 (by decide) rfl (fun _ => ?_) (fun c => absurd (Int32.le_refl _) c)
    exact kk h hF hn hs ax_fr.rf
  | succ a ih =>
    intro h og ha hog hF hn hs kk
    obtain ⟨o0, o1⟩ := hog a (by omega)
    have oe := nI_cl o0
    obtain ⟨l0, l1⟩ := hlf _ o1
    refine ar_iload 8 d_197_6 rfl rfl ?_
    refine ar_if_le 51 11 d_197_8 (by decide) rfl (fun c => absurd c (nI_nle (by omega) (by omega))) (fun _ => ?_)
    refine ar_aload_n 12 d_197_11 rfl rfl ?_
    refine ar_aload_n 13 d_197_12 rfl rfl ?_
    refine ar_getf 16 d_197_13 rfl (ci := 11) (k := 12) rfl (hF.at 0 rfl) z12 ?_
    refine ar_iload 18 d_197_16 rfl rfl ?_
    refine ar_iconst 19 (v := 1) d_197_18 rfl (by decide) ?_
    refine ar_isub 20 d_197_19 rfl ?_
    refine ar_top (x' := nI a) (nI_pred a) ?_
    refine ar_iald 21 d_197_20 rfl (hF.at 1 rfl) (nI_in (by omega) (by omega)) ?_
    refine ar_top (x' := nI (og a).toNatClampNeg) (by rw [nI_clamp (by omega)]; exact oe) ?_
    refine ar_iload_n 22 d_197_21 rfl rfl ?_
    refine ar_iload_n 23 d_197_22 rfl rfl ?_
    refine ar_call (r := []) (na := 0) (kd := 0) (cm := 195) (fr2 := fr - 1) (lo2 := lo - 28) 26 d_197_23 (ar_hoV (as := [.int (nI (og a).toNatClampNeg), .int (nI w), .int (nI e)]) rfl rfl rfl (hF.at 0 rfl)) rfl (by omega) (show lo - 28 + (19 + 9) = lo by omega) (Nat.le_of_ble_eq_true rfl) (Nat.le_of_ble_eq_true rfl) (n_195 (n := n) (k := (lf (og a).toNatClampNeg).toNatClampNeg) o1 hw he hn1 hn2 (nI_cl l0) l1 (hF.at 0 rfl) z14 z15 z30 z31 (hF.at 2 rfl) (hF.at 3 rfl) (hF.at 4 rfl) (hF.at 5 rfl)) ?_
    intro v hh hq
    obtain ⟨rfl, ehh⟩ := hq
    rw [ehh]
    clear ehh
    refine ar_if_le 51 29 d_197_26 (by decide) rfl (fun c1 => ?_) (fun c1 => ?_)
    · rw [show inA ff pf lf (400 * w + 200 * e) n (a + 1) og = a + 1 from if_pos c1, show inF ff pf lf (400 * w + 200 * e) n (a + 1) og = og from if_pos c1] at kk
      exact kk h hF hn hs ax_fr.rf
    · have hbase : h.1 = n9 := hn
      have hbasl : h.2.1 = sl := hs
      have hf : ax_fr (fun x => x ∈ [a12]) h h := ax_fr.rf
      refine ar_aload_n 30 d_197_29 rfl rfl ?_
      refine ar_getf 33 d_197_30 rfl (ci := 11) (k := 12) rfl (hF.at 0 rfl) z12 ?_
      refine ar_iload 35 d_197_33 rfl rfl ?_
      refine ar_aload_n 36 d_197_35 rfl rfl ?_
      refine ar_getf 39 d_197_36 rfl (ci := 11) (k := 12) rfl (hF.at 0 rfl) z12 ?_
      refine ar_iload 41 d_197_39 rfl rfl ?_
      refine ar_iconst 42 (v := 1) d_197_41 rfl (by decide) ?_
      refine ar_isub 43 d_197_42 rfl ?_
      refine ar_top (x' := nI a) (nI_pred a) ?_
      refine ar_iald 44 d_197_43 rfl (hF.at 1 rfl) (nI_in (by omega) (by omega)) ?_
      refine ar_top (x' := og a) (by rw [nI_clamp (by omega)]) ?_
      refine ar_iast 45 d_197_44 rfl (hF.at 1 rfl) (nI_in (by omega) (by omega)) ?_
      replace hF : ax_hs (ax_put h a12 (.inl (0, 48, .inl (upd og (nI (a + 1)).toNatClampNeg (og a))))) [(m, .inr (11, fs)), (a12, .inl (0, 48, .inl (upd og (nI (a + 1)).toNatClampNeg (og a)))), (a14, .inl (1, 9600, .inl ff)), (a15, .inl (0, 48, .inl lf)), (a30, .inl (1, 4800, .inl pf)), (a31, .inl (0, 24, .inl qf))] := hF.put 1 _ rfl rfl
      replace hf := hf.put (a := a12) (c := .inl (0, 48, .inl (upd og (nI (a + 1)).toNatClampNeg (og a)))) (by simp)
      replace hn : (ax_put h a12 (.inl (0, 48, .inl (upd og (nI (a + 1)).toNatClampNeg (og a))))).1 = n9 := hn
      replace hs : (ax_put h a12 (.inl (0, 48, .inl (upd og (nI (a + 1)).toNatClampNeg (og a))))).2.1 = sl := hs
      generalize ax_put h a12 (.inl (0, 48, .inl (upd og (nI (a + 1)).toNatClampNeg (og a)))) = h1 at hF hf hn hs ⊢
      refine ar_iinc 48 [(0, .ref m), (1, .int (nI f)), (2, .int (nI w)), (3, .int (nI e)), (4, .int (nI a))] d_197_45 rfl rfl (pk_m1 a) (by decide) rfl ?_
      refine ar_goto 6 d_197_48 (by decide) ?_
      rw [nI_clamp (show a + 1 < 2 ^ 31 by omega)] at hF
      rw [show inA ff pf lf (400 * w + 200 * e) n (a + 1) og = inA ff pf lf (400 * w + 200 * e) n a (upd og (a + 1) (og a)) from if_neg c1, show inF ff pf lf (400 * w + 200 * e) n (a + 1) og = inF ff pf lf (400 * w + 200 * e) n a (upd og (a + 1) (og a)) from if_neg c1] at kk
      exact ih h1 _ (by omega) (fun i hi => by rw [show upd og (a + 1) (og a) i = og i from if_neg (by omega)]; exact hog i (by omega)) hF hn hs (fun h' j1 j2 j3 j4 => kk h' j1 j2 j3 (hf.tr j4))
theorem nlp_197b {L : Nat} {xs : Nat → Int32} {fr lo m n9 sl a12 a14 a15 a30 a31 f w e n c : Nat} {fs : List Value} {ff lf pf qf : Nat → Int32} {post : ax_Po} {y4 : Int32} {og : Nat → Int32} (hf0 : f < 48) (hw : w < 12) (he : e < 2) (hn2 : n ≤ 200) (hl : fs.length = 39) (z12 : fs[12]? = some (.ref a12)) (z14 : fs[14]? = some (.ref a14)) (z15 : fs[15]? = some (.ref a15)) (z20 : fs[20]? = some (.int (nI c))) (z30 : fs[30]? = some (.ref a30)) (z31 : fs[31]? = some (.ref a31)) : ∀ (k i : Nat) (h : ax_H), i + k = n → ax_hs h [(m, .inr (11, fs)), (a12, .inl (0, 48, .inl og)), (a14, .inl (1, 9600, .inl (rgF (fun i => vp_nar .byte (pf ((400 * w + 200 * e) + i))) (200 * f) i ff))), (a15, .inl (0, 48, .inl lf)), (a30, .inl (1, 4800, .inl pf)), (a31, .inl (0, 24, .inl qf))] → h.1 = n9 → h.2.1 = sl → (∀ h', ax_hs h' [(m, .inr (11, fs)), (a12, .inl (0, 48, .inl og)), (a14, .inl (1, 9600, .inl (rgF (fun i => vp_nar .byte (pf ((400 * w + 200 * e) + i))) (200 * f) n ff))), (a15, .inl (0, 48, .inl lf)), (a30, .inl (1, 4800, .inl pf)), (a31, .inl (0, 24, .inl qf))] → h'.1 = n9 → h'.2.1 = sl → ax_fr (fun x => x ∈ [a14]) h h' → ax_A (ax_step L xs) ((197, 129, fr, lo), [(0, .ref m), (1, .int (nI f)), (2, .int (nI w)), (3, .int (nI e)), (4, .int y4), (5, .int (nI n)), (6, .int (nI n))], [], h') post) → ax_A (ax_step L xs) ((197, 84, fr, lo), [(0, .ref m), (1, .int (nI f)), (2, .int (nI w)), (3, .int (nI e)), (4, .int y4), (5, .int (nI n)), (6, .int (nI i))], [], h) post := by
  intro k
  induction k with
  | zero =>
    intro i h hi hF hn hs kk
    have ei : i = n := by omega
    subst ei
    refine ar_iload 86 d_197_84 rfl rfl ?_
    refine ar_iload 88 d_197_86 rfl rfl ?_
    refine ar_icmp_ge 129 91 d_197_88 (by decide) rfl (fun _ => ?_) (fun c => absurd (Int32.le_refl _) c)
    exact kk h hF hn hs ax_fr.rf
  | succ k ih =>
    intro i h hi hF hn hs kk
    have hbase : h.1 = n9 := hn
    have hbasl : h.2.1 = sl := hs
    have hf : ax_fr (fun x => x ∈ [a14]) h h := ax_fr.rf
    refine ar_iload 86 d_197_84 rfl rfl ?_
    refine ar_iload 88 d_197_86 rfl rfl ?_
    refine ar_icmp_ge 129 91 d_197_88 (by decide) rfl (fun c => absurd c (nI_ge (by omega) (by omega))) (fun _ => ?_)
    refine ar_aload_n 92 d_197_91 rfl rfl ?_
    refine ar_getf 95 d_197_92 rfl (ci := 11) (k := 14) rfl (hF.at 0 rfl) z14 ?_
    refine ar_sipush 98 (v := 200) d_197_95 rfl (by decide) ?_
    refine ar_iload_n 99 d_197_98 rfl rfl ?_
    refine ar_imul 100 d_197_99 rfl ?_
    refine ar_top (x' := nI (200 * f)) (pk_mul 200 f) ?_
    refine ar_iload 102 d_197_100 rfl rfl ?_
    refine ar_iadd 103 d_197_102 rfl ?_
    refine ar_top (x' := nI (200 * f + i)) (nI_add (200 * f) i) ?_
    refine ar_aload_n 104 d_197_103 rfl rfl ?_
    refine ar_getf 107 d_197_104 rfl (ci := 11) (k := 30) rfl (hF.at 0 rfl) z30 ?_
    refine ar_sipush 110 (v := 400) d_197_107 rfl (by decide) ?_
    refine ar_iload_n 111 d_197_110 rfl rfl ?_
    refine ar_imul 112 d_197_111 rfl ?_
    refine ar_top (x' := nI (400 * w)) (pk_mul 400 w) ?_
    refine ar_sipush 115 (v := 200) d_197_112 rfl (by decide) ?_
    refine ar_iload_n 116 d_197_115 rfl rfl ?_
    refine ar_imul 117 d_197_116 rfl ?_
    refine ar_top (x' := nI (200 * e)) (pk_mul 200 e) ?_
    refine ar_iadd 118 d_197_117 rfl ?_
    refine ar_top (x' := nI (400 * w + 200 * e)) (nI_add (400 * w) (200 * e)) ?_
    refine ar_iload 120 d_197_118 rfl rfl ?_
    refine ar_iadd 121 d_197_120 rfl ?_
    refine ar_top (x' := nI (400 * w + 200 * e + i)) (nI_add (400 * w + 200 * e) i) ?_
    refine ar_bald 122 d_197_121 rfl (hF.at 4 rfl) (nI_in (by omega) (by omega)) ?_
    refine ar_top (x' := pf (400 * w + 200 * e + i)) (by rw [nI_clamp (by omega)]) ?_
    refine ar_bast 123 d_197_122 rfl (hF.at 2 rfl) (nI_in (by omega) (by omega)) ?_
    replace hF : ax_hs (ax_put h a14 (.inl (1, 9600, .inl (upd (rgF (fun i => vp_nar .byte (pf ((400 * w + 200 * e) + i))) (200 * f) i ff) (nI (200 * f + i)).toNatClampNeg (vp_nar .byte (pf (400 * w + 200 * e + i))))))) [(m, .inr (11, fs)), (a12, .inl (0, 48, .inl og)), (a14, .inl (1, 9600, .inl (upd (rgF (fun i => vp_nar .byte (pf ((400 * w + 200 * e) + i))) (200 * f) i ff) (nI (200 * f + i)).toNatClampNeg (vp_nar .byte (pf (400 * w + 200 * e + i)))))), (a15, .inl (0, 48, .inl lf)), (a30, .inl (1, 4800, .inl pf)), (a31, .inl (0, 24, .inl qf))] := hF.put 2 _ rfl rfl
    replace hf := hf.put (a := a14) (c := .inl (1, 9600, .inl (upd (rgF (fun i => vp_nar .byte (pf ((400 * w + 200 * e) + i))) (200 * f) i ff) (nI (200 * f + i)).toNatClampNeg (vp_nar .byte (pf (400 * w + 200 * e + i)))))) (by simp)
    replace hn : (ax_put h a14 (.inl (1, 9600, .inl (upd (rgF (fun i => vp_nar .byte (pf ((400 * w + 200 * e) + i))) (200 * f) i ff) (nI (200 * f + i)).toNatClampNeg (vp_nar .byte (pf (400 * w + 200 * e + i))))))).1 = n9 := hn
    replace hs : (ax_put h a14 (.inl (1, 9600, .inl (upd (rgF (fun i => vp_nar .byte (pf ((400 * w + 200 * e) + i))) (200 * f) i ff) (nI (200 * f + i)).toNatClampNeg (vp_nar .byte (pf (400 * w + 200 * e + i))))))).2.1 = sl := hs
    generalize ax_put h a14 (.inl (1, 9600, .inl (upd (rgF (fun i => vp_nar .byte (pf ((400 * w + 200 * e) + i))) (200 * f) i ff) (nI (200 * f + i)).toNatClampNeg (vp_nar .byte (pf (400 * w + 200 * e + i)))))) = h1 at hF hf hn hs ⊢
    refine ar_iinc 126 [(0, .ref m), (1, .int (nI f)), (2, .int (nI w)), (3, .int (nI e)), (4, .int y4), (5, .int (nI n)), (6, .int (nI (i + 1)))] d_197_123 rfl rfl (nI_1 i) (by decide) rfl ?_
    refine ar_goto 84 d_197_126 (by decide) ?_
    rw [nI_clamp (show 200 * f + i < 2 ^ 31 by omega), show upd (rgF (fun i => vp_nar .byte (pf ((400 * w + 200 * e) + i))) (200 * f) i ff) (200 * f + i) (vp_nar .byte (pf ((400 * w + 200 * e) + i))) = rgF (fun i => vp_nar .byte (pf ((400 * w + 200 * e) + i))) (200 * f) (i + 1) ff from rgF_s (fun i => vp_nar .byte (pf ((400 * w + 200 * e) + i))) (200 * f) i ff] at hF
    exact ih (i + 1) h1 (by omega) hF hn hs (fun h' j1 j2 j3 j4 => kk h' j1 j2 j3 (hf.tr j4))
theorem n_197 {L : Nat} {xs : Nat → Int32} {fr lo m n sl : Nat} {h : ax_H} {fs : List Value} {a12 a14 a15 a30 a31 f w e c n9 : Nat} {og ff lf pf qf : Nat → Int32} (hfr : 1 ≤ fr) (hlo : 40 ≤ lo) (hf0 : f < 48) (hc : c ≤ 47) (hw : w < 12) (he : e < 2) (hn1 : qf (2 * w + e) = nI n) (hn2 : n ≤ 200) (hlf : ∀ f, f < 48 → ¬ lf f < 0 ∧ (lf f).toNatClampNeg ≤ 200) (hog : ∀ i, i < c → ¬ og i < 0 ∧ (og i).toNatClampNeg < 48) (hl : fs.length = 39) (z12 : fs[12]? = some (.ref a12)) (z14 : fs[14]? = some (.ref a14)) (z15 : fs[15]? = some (.ref a15)) (z20 : fs[20]? = some (.int (nI c))) (z30 : fs[30]? = some (.ref a30)) (z31 : fs[31]? = some (.ref a31)) (hF : ax_hs h [(m, .inr (11, fs)), (a12, .inl (0, 48, .inl og)), (a14, .inl (1, 9600, .inl ff)), (a15, .inl (0, 48, .inl lf)), (a30, .inl (1, 4800, .inl pf)), (a31, .inl (0, 24, .inl qf))]) (hn : h.1 = n9) (hs : h.2.1 = sl) (hn0 : 0 < n9) : ax_M L xs 197 fr lo [.ref m, .int (nI f), .int (nI w), .int (nI e)] h (fun r h' => ∃ fs', r = none ∧ fs'.length = 39 ∧ fs'[20]? = some (.int (nI (c + 1))) ∧ (∀ k, k ≠ 20 → fs'[k]? = fs[k]?) ∧ ax_hs h' [(m, .inr (11, fs')), (a12, .inl (0, 48, .inl (upd (inF ff pf lf (400 * w + 200 * e) n c og) (inA ff pf lf (400 * w + 200 * e) n c og) (nI f)))), (a14, .inl (1, 9600, .inl (rgF (fun i => vp_nar .byte (pf ((400 * w + 200 * e) + i))) (200 * f) n ff))), (a15, .inl (0, 48, .inl (upd lf f (nI n)))), (a30, .inl (1, 4800, .inl pf)), (a31, .inl (0, 24, .inl qf))] ∧ h'.1 = n9 ∧ h'.2.1 = sl ∧ ax_fr (fun x => x ∈ [m, a12, a14, a15]) h h') := by
  show ax_A (ax_step L xs) ((197, 0, fr, lo), [(0, .ref m), (1, .int (nI f)), (2, .int (nI w)), (3, .int (nI e))], [], h) _
  have hbase : h.1 = n9 := hn
  have hbasl : h.2.1 = sl := hs
  have hf : ax_fr (fun x => x ∈ [m, a12, a14, a15]) h h := ax_fr.rf
  have hO : ∀ k, k ≠ 20 → fs[k]? = fs[k]? := fun _ _ => rfl
  refine ar_aload_n 1 d_197_0 rfl rfl ?_
  refine ar_getf 4 d_197_1 rfl (ci := 11) (k := 20) rfl (hF.at 0 rfl) z20 ?_
  refine ar_istore 6 [(0, .ref m), (1, .int (nI f)), (2, .int (nI w)), (3, .int (nI e)), (4, .int (nI c))] d_197_4 rfl (by decide) rfl ?_
  refine nlp_197a hfr hlo hw he hn1 hn2 hlf hl z12 z14 z15 z20 z30 z31 c h og (by omega) hog hF hn hs (fun h1 hF hn hs qf => ?_)
  replace hf := hf.tr (qf.mono (by intro x hx; simp at hx; subst hx; simp))
  clear qf
  have hat := inA_le ff pf lf (400 * w + 200 * e) n c og
  refine ar_aload_n 52 d_197_51 rfl rfl ?_
  refine ar_getf 55 d_197_52 rfl (ci := 11) (k := 12) rfl (hF.at 0 rfl) z12 ?_
  refine ar_iload 57 d_197_55 rfl rfl ?_
  refine ar_iload_n 58 d_197_57 rfl rfl ?_
  refine ar_iast 59 d_197_58 rfl (hF.at 1 rfl) (nI_in (by omega) (by omega)) ?_
  replace hF : ax_hs (ax_put h1 a12 (.inl (0, 48, .inl (upd (inF ff pf lf (400 * w + 200 * e) n c og) (nI (inA ff pf lf (400 * w + 200 * e) n c og)).toNatClampNeg (nI f))))) [(m, .inr (11, fs)), (a12, .inl (0, 48, .inl (upd (inF ff pf lf (400 * w + 200 * e) n c og) (nI (inA ff pf lf (400 * w + 200 * e) n c og)).toNatClampNeg (nI f)))), (a14, .inl (1, 9600, .inl ff)), (a15, .inl (0, 48, .inl lf)), (a30, .inl (1, 4800, .inl pf)), (a31, .inl (0, 24, .inl qf))] := hF.put 1 _ rfl rfl
  replace hf := hf.put (a := a12) (c := .inl (0, 48, .inl (upd (inF ff pf lf (400 * w + 200 * e) n c og) (nI (inA ff pf lf (400 * w + 200 * e) n c og)).toNatClampNeg (nI f)))) (by simp)
  replace hn : (ax_put h1 a12 (.inl (0, 48, .inl (upd (inF ff pf lf (400 * w + 200 * e) n c og) (nI (inA ff pf lf (400 * w + 200 * e) n c og)).toNatClampNeg (nI f))))).1 = n9 := hn
  replace hs : (ax_put h1 a12 (.inl (0, 48, .inl (upd (inF ff pf lf (400 * w + 200 * e) n c og) (nI (inA ff pf lf (400 * w + 200 * e) n c og)).toNatClampNeg (nI f))))).2.1 = sl := hs
  generalize ax_put h1 a12 (.inl (0, 48, .inl (upd (inF ff pf lf (400 * w + 200 * e) n c og) (nI (inA ff pf lf (400 * w + 200 * e) n c og)).toNatClampNeg (nI f)))) = h2 at hF hf hn hs ⊢
  refine ar_aload_n 60 d_197_59 rfl rfl ?_
  refine ar_dup 61 d_197_60 rfl rfl ?_
  refine ar_getf 64 d_197_61 rfl (ci := 11) (k := 20) rfl (hF.at 0 rfl) z20 ?_
  refine ar_iconst 65 (v := 1) d_197_64 rfl (by decide) ?_
  refine ar_iadd 66 d_197_65 rfl ?_
  refine ar_top (x' := nI (c + 1)) (nI_1 c) ?_
  refine ar_putf 69 (fs.set 20 (.int (nI (c + 1)))) d_197_66 rfl (ci := 11) (k := 20) rfl rfl (hF.at 0 rfl) (by rw [hl]; decide) rfl rfl rfl ?_
  replace hF : ax_hs (ax_put h2 m (.inr (11, (fs.set 20 (.int (nI (c + 1))))))) [(m, .inr (11, (fs.set 20 (.int (nI (c + 1)))))), (a12, .inl (0, 48, .inl (upd (inF ff pf lf (400 * w + 200 * e) n c og) (nI (inA ff pf lf (400 * w + 200 * e) n c og)).toNatClampNeg (nI f)))), (a14, .inl (1, 9600, .inl ff)), (a15, .inl (0, 48, .inl lf)), (a30, .inl (1, 4800, .inl pf)), (a31, .inl (0, 24, .inl qf))] := hF.put 0 _ rfl rfl
  replace hf := hf.put (a := m) (c := .inr (11, (fs.set 20 (.int (nI (c + 1)))))) (by simp)
  replace hn : (ax_put h2 m (.inr (11, (fs.set 20 (.int (nI (c + 1))))))).1 = n9 := hn
  replace hs : (ax_put h2 m (.inr (11, (fs.set 20 (.int (nI (c + 1))))))).2.1 = sl := hs
  generalize ax_put h2 m (.inr (11, (fs.set 20 (.int (nI (c + 1)))))) = h3 at hF hf hn hs ⊢
  replace z12 : (fs.set 20 (.int (nI (c + 1))))[12]? = some (.ref a12) := (List.getElem?_set_ne (by decide)).trans z12
  replace z14 : (fs.set 20 (.int (nI (c + 1))))[14]? = some (.ref a14) := (List.getElem?_set_ne (by decide)).trans z14
  replace z15 : (fs.set 20 (.int (nI (c + 1))))[15]? = some (.ref a15) := (List.getElem?_set_ne (by decide)).trans z15
  replace z30 : (fs.set 20 (.int (nI (c + 1))))[30]? = some (.ref a30) := (List.getElem?_set_ne (by decide)).trans z30
  replace z31 : (fs.set 20 (.int (nI (c + 1))))[31]? = some (.ref a31) := (List.getElem?_set_ne (by decide)).trans z31
  replace z20 : (fs.set 20 (.int (nI (c + 1))))[20]? = some (.int (nI (c + 1))) := List.getElem?_set_self (by rw [hl]; decide)
  replace hO : ∀ k, k ≠ 20 → (fs.set 20 (.int (nI (c + 1))))[k]? = fs[k]? := fun k y20 => (List.getElem?_set_ne (Ne.symm y20)).trans (hO k y20)
  replace hl : (fs.set 20 (.int (nI (c + 1)))).length = 39 := (List.length_set ..).trans hl
  generalize (fs.set 20 (.int (nI (c + 1)))) = fs1 at hF hl hO z12 z14 z15 z20 z30 z31 ⊢
  refine ar_aload_n 70 d_197_69 rfl rfl ?_
  refine ar_getf 73 d_197_70 rfl (ci := 11) (k := 31) rfl (hF.at 0 rfl) z31 ?_
  refine ar_iconst 74 (v := 2) d_197_73 rfl (by decide) ?_
  refine ar_iload_n 75 d_197_74 rfl rfl ?_
  refine ar_imul 76 d_197_75 rfl ?_
  refine ar_top (x' := nI (2 * w)) (pk_mul 2 w) ?_
  refine ar_iload_n 77 d_197_76 rfl rfl ?_
  refine ar_iadd 78 d_197_77 rfl ?_
  refine ar_top (x' := nI (2 * w + e)) (nI_add (2 * w) e) ?_
  refine ar_iald 79 d_197_78 rfl (hF.at 5 rfl) (nI_in (by omega) (by omega)) ?_
  refine ar_top (x' := nI n) (by rw [nI_clamp (by omega)]; exact hn1) ?_
  refine ar_istore 81 [(0, .ref m), (1, .int (nI f)), (2, .int (nI w)), (3, .int (nI e)), (4, .int (nI (inA ff pf lf (400 * w + 200 * e) n c og))), (5, .int (nI n))] d_197_79 rfl (by decide) rfl ?_
  refine ar_iconst 82 (v := 0) d_197_81 rfl (by decide) ?_
  refine ar_istore 84 [(0, .ref m), (1, .int (nI f)), (2, .int (nI w)), (3, .int (nI e)), (4, .int (nI (inA ff pf lf (400 * w + 200 * e) n c og))), (5, .int (nI n)), (6, .int 0)] d_197_82 rfl (by decide) rfl ?_
  rw [nI_clamp (show inA ff pf lf (400 * w + 200 * e) n c og < 2 ^ 31 by omega)] at hF
  have hF0 : ax_hs h3 [(m, .inr (11, fs1)), (a12, .inl (0, 48, .inl (upd (inF ff pf lf (400 * w + 200 * e) n c og) (inA ff pf lf (400 * w + 200 * e) n c og) (nI f)))), (a14, .inl (1, 9600, .inl (rgF (fun i => vp_nar .byte (pf ((400 * w + 200 * e) + i))) (200 * f) 0 ff))), (a15, .inl (0, 48, .inl lf)), (a30, .inl (1, 4800, .inl pf)), (a31, .inl (0, 24, .inl qf))] := by rw [rgF_0]; exact hF
  refine nlp_197b hf0 hw he hn2 hl z12 z14 z15 z20 z30 z31 n 0 h3 (by omega) hF0 hn hs (fun h9 hF hn hs qf => ?_)
  replace hf := hf.tr (qf.mono (by intro x hx; simp at hx; subst hx; simp))
  clear qf
  refine ar_aload_n 130 d_197_129 rfl rfl ?_
  refine ar_getf 133 d_197_130 rfl (ci := 11) (k := 15) rfl (hF.at 0 rfl) z15 ?_
  refine ar_iload_n 134 d_197_133 rfl rfl ?_
  refine ar_iload 136 d_197_134 rfl rfl ?_
  refine ar_iast 137 d_197_136 rfl (hF.at 3 rfl) (nI_in (by omega) (by omega)) ?_
  replace hF : ax_hs (ax_put h9 a15 (.inl (0, 48, .inl (upd lf (nI f).toNatClampNeg (nI n))))) [(m, .inr (11, fs1)), (a12, .inl (0, 48, .inl (upd (inF ff pf lf (400 * w + 200 * e) n c og) (inA ff pf lf (400 * w + 200 * e) n c og) (nI f)))), (a14, .inl (1, 9600, .inl (rgF (fun i => vp_nar .byte (pf ((400 * w + 200 * e) + i))) (200 * f) n ff))), (a15, .inl (0, 48, .inl (upd lf (nI f).toNatClampNeg (nI n)))), (a30, .inl (1, 4800, .inl pf)), (a31, .inl (0, 24, .inl qf))] := hF.put 3 _ rfl rfl
  replace hf := hf.put (a := a15) (c := .inl (0, 48, .inl (upd lf (nI f).toNatClampNeg (nI n)))) (by simp)
  replace hn : (ax_put h9 a15 (.inl (0, 48, .inl (upd lf (nI f).toNatClampNeg (nI n))))).1 = n9 := hn
  replace hs : (ax_put h9 a15 (.inl (0, 48, .inl (upd lf (nI f).toNatClampNeg (nI n))))).2.1 = sl := hs
  generalize ax_put h9 a15 (.inl (0, 48, .inl (upd lf (nI f).toNatClampNeg (nI n)))) = h10 at hF hf hn hs ⊢
  rw [nI_clamp (show f < 2 ^ 31 by omega)] at hF
  exact ar_ret d_197_137 rfl (⟨_, rfl, hl, z20, hO, hF, hn, hs, hf⟩)


/-! the reference, exactly: next -/
theorem d_206_0 : decode (axt_b 206) 0 = .ok (.iconst 0, 1) := by decide +kernel
theorem d_206_1 : decode (axt_b 206) 1 = .ok (.istore_n 2, 1) := by decide +kernel
theorem d_206_2 : decode (axt_b 206) 2 = .ok (.iload_n 2, 1) := by decide +kernel
theorem d_206_3 : decode (axt_b 206) 3 = .ok (.aload_n 0, 1) := by decide +kernel
theorem d_206_4 : decode (axt_b 206) 4 = .ok (.getfield 122, 3) := by decide +kernel
theorem d_206_7 : decode (axt_b 206) 7 = .ok (.if_icmp .ge 98, 3) := by decide +kernel
theorem d_206_10 : decode (axt_b 206) 10 = .ok (.aload_n 0, 1) := by decide +kernel
theorem d_206_11 : decode (axt_b 206) 11 = .ok (.getfield 24, 3) := by decide +kernel
theorem d_206_14 : decode (axt_b 206) 14 = .ok (.iload_n 2, 1) := by decide +kernel
theorem d_206_15 : decode (axt_b 206) 15 = .ok (.iaload, 1) := by decide +kernel
theorem d_206_16 : decode (axt_b 206) 16 = .ok (.istore_n 3, 1) := by decide +kernel
theorem d_206_17 : decode (axt_b 206) 17 = .ok (.aload_n 0, 1) := by decide +kernel
theorem d_206_18 : decode (axt_b 206) 18 = .ok (.iload_n 3, 1) := by decide +kernel
theorem d_206_19 : decode (axt_b 206) 19 = .ok (.iload_n 1, 1) := by decide +kernel
theorem d_206_20 : decode (axt_b 206) 20 = .ok (.iconst 0, 1) := by decide +kernel
theorem d_206_21 : decode (axt_b 206) 21 = .ok (.invokevirtual 125, 3) := by decide +kernel
theorem d_206_24 : decode (axt_b 206) 24 = .ok (.ifCond .gt 6, 3) := by decide +kernel
theorem d_206_27 : decode (axt_b 206) 27 = .ok (.goto 72, 3) := by decide +kernel
theorem d_206_30 : decode (axt_b 206) 30 = .ok (.aload_n 0, 1) := by decide +kernel
theorem d_206_31 : decode (axt_b 206) 31 = .ok (.getfield 77, 3) := by decide +kernel
theorem d_206_34 : decode (axt_b 206) 34 = .ok (.iload_n 1, 1) := by decide +kernel
theorem d_206_35 : decode (axt_b 206) 35 = .ok (.aload_n 0, 1) := by decide +kernel
theorem d_206_36 : decode (axt_b 206) 36 = .ok (.getfield 34, 3) := by decide +kernel
theorem d_206_39 : decode (axt_b 206) 39 = .ok (.iload_n 3, 1) := by decide +kernel
theorem d_206_40 : decode (axt_b 206) 40 = .ok (.iaload, 1) := by decide +kernel
theorem d_206_41 : decode (axt_b 206) 41 = .ok (.iastore, 1) := by decide +kernel
theorem d_206_42 : decode (axt_b 206) 42 = .ok (.iconst 0, 1) := by decide +kernel
theorem d_206_43 : decode (axt_b 206) 43 = .ok (.istore 4, 2) := by decide +kernel
theorem d_206_45 : decode (axt_b 206) 45 = .ok (.iload 4, 2) := by decide +kernel
theorem d_206_47 : decode (axt_b 206) 47 = .ok (.aload_n 0, 1) := by decide +kernel
theorem d_206_48 : decode (axt_b 206) 48 = .ok (.getfield 34, 3) := by decide +kernel
theorem d_206_51 : decode (axt_b 206) 51 = .ok (.iload_n 3, 1) := by decide +kernel
theorem d_206_52 : decode (axt_b 206) 52 = .ok (.iaload, 1) := by decide +kernel
theorem d_206_53 : decode (axt_b 206) 53 = .ok (.if_icmp .ge 39, 3) := by decide +kernel
theorem d_206_56 : decode (axt_b 206) 56 = .ok (.aload_n 0, 1) := by decide +kernel
theorem d_206_57 : decode (axt_b 206) 57 = .ok (.getfield 74, 3) := by decide +kernel
theorem d_206_60 : decode (axt_b 206) 60 = .ok (.sipush 2048, 3) := by decide +kernel
theorem d_206_63 : decode (axt_b 206) 63 = .ok (.iload_n 1, 1) := by decide +kernel
theorem d_206_64 : decode (axt_b 206) 64 = .ok (.imul, 1) := by decide +kernel
theorem d_206_65 : decode (axt_b 206) 65 = .ok (.iload 4, 2) := by decide +kernel
theorem d_206_67 : decode (axt_b 206) 67 = .ok (.iadd, 1) := by decide +kernel
theorem d_206_68 : decode (axt_b 206) 68 = .ok (.aload_n 0, 1) := by decide +kernel
theorem d_206_69 : decode (axt_b 206) 69 = .ok (.getfield 31, 3) := by decide +kernel
theorem d_206_72 : decode (axt_b 206) 72 = .ok (.sipush 200, 3) := by decide +kernel
theorem d_206_75 : decode (axt_b 206) 75 = .ok (.iload_n 3, 1) := by decide +kernel
theorem d_206_76 : decode (axt_b 206) 76 = .ok (.imul, 1) := by decide +kernel
theorem d_206_77 : decode (axt_b 206) 77 = .ok (.iload 4, 2) := by decide +kernel
theorem d_206_79 : decode (axt_b 206) 79 = .ok (.iadd, 1) := by decide +kernel
theorem d_206_80 : decode (axt_b 206) 80 = .ok (.baload, 1) := by decide +kernel
theorem d_206_81 : decode (axt_b 206) 81 = .ok (.sipush 255, 3) := by decide +kernel
theorem d_206_84 : decode (axt_b 206) 84 = .ok (.iand, 1) := by decide +kernel
theorem d_206_85 : decode (axt_b 206) 85 = .ok (.iastore, 1) := by decide +kernel
theorem d_206_86 : decode (axt_b 206) 86 = .ok (.iinc 4 1, 3) := by decide +kernel
theorem d_206_89 : decode (axt_b 206) 89 = .ok (.goto (-44), 3) := by decide +kernel
theorem d_206_92 : decode (axt_b 206) 92 = .ok (.aload_n 0, 1) := by decide +kernel
theorem d_206_93 : decode (axt_b 206) 93 = .ok (.getfield 34, 3) := by decide +kernel
theorem d_206_96 : decode (axt_b 206) 96 = .ok (.iload_n 3, 1) := by decide +kernel
theorem d_206_97 : decode (axt_b 206) 97 = .ok (.iaload, 1) := by decide +kernel
theorem d_206_98 : decode (axt_b 206) 98 = .ok (.ireturn, 1) := by decide +kernel
theorem d_206_99 : decode (axt_b 206) 99 = .ok (.iinc 2 1, 3) := by decide +kernel
theorem d_206_102 : decode (axt_b 206) 102 = .ok (.goto (-100), 3) := by decide +kernel
theorem d_206_105 : decode (axt_b 206) 105 = .ok (.bipush (-2), 2) := by decide +kernel
theorem d_206_107 : decode (axt_b 206) 107 = .ok (.ireturn, 1) := by decide +kernel
def nxA (ff pf lf : Nat → Int32) (b n : Nat) (og : Nat → Int32) : Nat → Nat → Nat
  | 0, i => i
  | k + 1, i => if mcF ff pf lf b n (og i).toNatClampNeg ≤ 0 then nxA ff pf lf b n og k (i + 1) else i
theorem nlp_206a {L : Nat} {xs : Nat → Int32} {fr lo m : Nat} {h : ax_H} {fs : List Value} {a35 a36 a12 a14 a15 a30 a31 w c n1 : Nat} {td tl og ff lf pf ql : Nat → Int32} {post : ax_Po} (hfr : 1 ≤ fr) (hlo : 40 ≤ lo) (hc : c ≤ 48) (hw : w < 12) (hn1 : ql (2 * w + 0) = nI n1) (hn2 : n1 ≤ 200) (hog : ∀ i, i < c → ¬ og i < 0 ∧ (og i).toNatClampNeg < 48) (hlf : ∀ f, f < 48 → ¬ lf f < 0 ∧ (lf f).toNatClampNeg ≤ 200) (z12 : fs[12]? = some (.ref a12)) (z14 : fs[14]? = some (.ref a14)) (z15 : fs[15]? = some (.ref a15)) (z20 : fs[20]? = some (.int (nI c))) (z30 : fs[30]? = some (.ref a30)) (z31 : fs[31]? = some (.ref a31)) (z35 : fs[35]? = some (.ref a35)) (z36 : fs[36]? = some (.ref a36)) (hF : ax_hs h [(m, .inr (11, fs)), (a12, .inl (0, 48, .inl og)), (a14, .inl (1, 9600, .inl ff)), (a15, .inl (0, 48, .inl lf)), (a30, .inl (1, 4800, .inl pf)), (a31, .inl (0, 24, .inl ql)), (a35, .inl (0, 24576, .inl td)), (a36, .inl (0, 12, .inl tl))]) (kN : nxA ff pf lf (400 * w + 200 * 0) n1 og c 0 = c → post (some (.int (-2))) h) (kY : ∀ j, j < c → j = nxA ff pf lf (400 * w + 200 * 0) n1 og c 0 → ax_A (ax_step L xs) ((206, 30, fr, lo), [(0, .ref m), (1, .int (nI w)), (2, .int (nI j)), (3, .int (nI (og j).toNatClampNeg))], [], h) post) : ∀ (k i : Nat), i + k = c → nxA ff pf lf (400 * w + 200 * 0) n1 og c 0 = nxA ff pf lf (400 * w + 200 * 0) n1 og k i → ax_A (ax_step L xs) ((206, 2, fr, lo), [(0, .ref m), (1, .int (nI w)), (2, .int (nI i))], [], h) post := by
  intro k
  induction k with
  | zero =>
    intro i hi hx
    have ei : i = c := by omega
    subst ei
    refine ar_iload_n 3 d_206_2 rfl rfl ?_
    refine ar_aload_n 4 d_206_3 rfl rfl ?_
    refine ar_getf 7 d_206_4 rfl (ci := 11) (k := 20) rfl (hF.at 0 rfl) z20 ?_
    refine ar_icmp_ge 105 10 d_206_7 (by decide) rfl (fun _ => ?_) (fun c => absurd (Int32.le_refl _) c)
    refine ar_bipush 107 (v := -2) d_206_105 rfl (by decide) ?_
    exact ar_iret d_206_107 rfl rfl (kN hx)
  | succ k ih =>
    intro i hi hx
    have hic : i < c := by omega
    obtain ⟨o0, o1⟩ := hog i hic
    have oe := nI_cl o0
    obtain ⟨l0, l1⟩ := hlf _ o1
    refine ar_iload_n 3 d_206_2 rfl rfl ?_
    refine ar_aload_n 4 d_206_3 rfl rfl ?_
    refine ar_getf 7 d_206_4 rfl (ci := 11) (k := 20) rfl (hF.at 0 rfl) z20 ?_
    refine ar_icmp_ge 105 10 d_206_7 (by decide) rfl (fun c => absurd c (nI_ge hic (by omega))) (fun _ => ?_)
    refine ar_aload_n 11 d_206_10 rfl rfl ?_
    refine ar_getf 14 d_206_11 rfl (ci := 11) (k := 12) rfl (hF.at 0 rfl) z12 ?_
    refine ar_iload_n 15 d_206_14 rfl rfl ?_
    refine ar_iald 16 d_206_15 rfl (hF.at 1 rfl) (nI_in (by omega) (by omega)) ?_
    refine ar_top (x' := nI (og i).toNatClampNeg) (by rw [nI_clamp (by omega)]; exact oe) ?_
    refine ar_istore_n 17 [(0, .ref m), (1, .int (nI w)), (2, .int (nI i)), (3, .int (nI (og i).toNatClampNeg))] d_206_16 rfl (by decide) rfl ?_
    refine ar_aload_n 18 d_206_17 rfl rfl ?_
    refine ar_iload_n 19 d_206_18 rfl rfl ?_
    refine ar_iload_n 20 d_206_19 rfl rfl ?_
    refine ar_iconst 21 (v := 0) d_206_20 rfl (by decide) ?_
    refine ar_call (r := []) (na := 0) (kd := 0) (cm := 195) (fr2 := fr - 1) (lo2 := lo - 28) 24 d_206_21 (ar_hoV (as := [.int (nI (og i).toNatClampNeg), .int (nI w), .int 0]) rfl rfl rfl (hF.at 0 rfl)) rfl (by omega) (show lo - 28 + (19 + 9) = lo by omega) (Nat.le_of_ble_eq_true rfl) (Nat.le_of_ble_eq_true rfl) (n_195 (n := n1) (e := 0) (k := (lf (og i).toNatClampNeg).toNatClampNeg) o1 hw (by omega) hn1 hn2 (nI_cl l0) l1 (hF.at 0 rfl) z14 z15 z30 z31 (hF.at 2 rfl) (hF.at 3 rfl) (hF.at 4 rfl) (hF.at 5 rfl)) ?_
    intro v hh hq
    obtain ⟨rfl, ehh⟩ := hq
    rw [ehh]
    clear ehh
    refine ar_if_gt 30 27 d_206_24 (by decide) rfl (fun c1 => ?_) (fun c1 => ?_)
    · exact kY i hic (hx.trans (if_neg (Int32.not_le.mpr c1))).symm
    · refine ar_goto 99 d_206_27 (by decide) ?_
      refine ar_iinc 102 [(0, .ref m), (1, .int (nI w)), (2, .int (nI (i + 1))), (3, .int (nI (og i).toNatClampNeg))] d_206_99 rfl rfl (nI_1 i) (by decide) rfl ?_
      refine ar_goto 2 d_206_102 (by decide) ?_
      refine ar_wk [0, 1, 2] rfl (by simp) ?_
      exact ih (i + 1) (by omega) (hx.trans (if_pos (Int32.not_lt.mp c1)))
theorem nlp_206b {L : Nat} {xs : Nat → Int32} {fr lo m n sl f l : Nat} {fs : List Value} {y2 : Int32} {a35 a36 a12 a14 a15 a30 a31 w c : Nat} {td tl og ff lf pf ql : Nat → Int32} {post : ax_Po} (hf0 : f < 48) (hw : w < 12) (hlf0 : lf f = nI l) (hl2 : l ≤ 200) (hl : fs.length = 39) (z12 : fs[12]? = some (.ref a12)) (z14 : fs[14]? = some (.ref a14)) (z15 : fs[15]? = some (.ref a15)) (z20 : fs[20]? = some (.int (nI c))) (z30 : fs[30]? = some (.ref a30)) (z31 : fs[31]? = some (.ref a31)) (z35 : fs[35]? = some (.ref a35)) (z36 : fs[36]? = some (.ref a36)) : ∀ (k i : Nat) (h : ax_H), i + k = l → ax_hs h [(m, .inr (11, fs)), (a12, .inl (0, 48, .inl og)), (a14, .inl (1, 9600, .inl ff)), (a15, .inl (0, 48, .inl lf)), (a30, .inl (1, 4800, .inl pf)), (a31, .inl (0, 24, .inl ql)), (a35, .inl (0, 24576, .inl (rgF (fun i => (ff (200 * f + i)) &&& 255) (2048 * w) i td))), (a36, .inl (0, 12, .inl tl))] → h.1 = n → h.2.1 = sl → (∀ h', ax_hs h' [(m, .inr (11, fs)), (a12, .inl (0, 48, .inl og)), (a14, .inl (1, 9600, .inl ff)), (a15, .inl (0, 48, .inl lf)), (a30, .inl (1, 4800, .inl pf)), (a31, .inl (0, 24, .inl ql)), (a35, .inl (0, 24576, .inl (rgF (fun i => (ff (200 * f + i)) &&& 255) (2048 * w) l td))), (a36, .inl (0, 12, .inl tl))] → h'.1 = n → h'.2.1 = sl → ax_fr (fun x => x ∈ [a35]) h h' → ax_A (ax_step L xs) ((206, 92, fr, lo), [(0, .ref m), (1, .int (nI w)), (2, .int y2), (3, .int (nI f)), (4, .int (nI l))], [], h') post) → ax_A (ax_step L xs) ((206, 45, fr, lo), [(0, .ref m), (1, .int (nI w)), (2, .int y2), (3, .int (nI f)), (4, .int (nI i))], [], h) post := by
  intro k
  induction k with
  | zero =>
    intro i h hi hF hn hs kk
    have ei : i = l := by omega
    subst ei
    refine ar_iload 47 d_206_45 rfl rfl ?_
    refine ar_aload_n 48 d_206_47 rfl rfl ?_
    refine ar_getf 51 d_206_48 rfl (ci := 11) (k := 15) rfl (hF.at 0 rfl) z15 ?_
    refine ar_iload_n 52 d_206_51 rfl rfl ?_
    refine ar_iald 53 d_206_52 rfl (hF.at 3 rfl) (nI_in (by omega) (by omega)) ?_
    refine ar_top (x' := nI i) (by rw [nI_clamp (by omega)]; exact hlf0) ?_
    refine ar_icmp_ge 92 56 d_206_53 (by decide) rfl (fun _ => ?_) (fun c => absurd (Int32.le_refl _) c)
    exact kk h hF hn hs ax_fr.rf
  | succ k ih =>
    intro i h hi hF hn hs kk
    have hbase : h.1 = n := hn
    have hbasl : h.2.1 = sl := hs
    have hf : ax_fr (fun x => x ∈ [a35]) h h := ax_fr.rf
    refine ar_iload 47 d_206_45 rfl rfl ?_
    refine ar_aload_n 48 d_206_47 rfl rfl ?_
    refine ar_getf 51 d_206_48 rfl (ci := 11) (k := 15) rfl (hF.at 0 rfl) z15 ?_
    refine ar_iload_n 52 d_206_51 rfl rfl ?_
    refine ar_iald 53 d_206_52 rfl (hF.at 3 rfl) (nI_in (by omega) (by omega)) ?_
    refine ar_top (x' := nI l) (by rw [nI_clamp (by omega)]; exact hlf0) ?_
    refine ar_icmp_ge 92 56 d_206_53 (by decide) rfl (fun c => absurd c (nI_ge (by omega) (by omega))) (fun _ => ?_)
    refine ar_aload_n 57 d_206_56 rfl rfl ?_
    refine ar_getf 60 d_206_57 rfl (ci := 11) (k := 35) rfl (hF.at 0 rfl) z35 ?_
    refine ar_sipush 63 (v := 2048) d_206_60 rfl (by decide) ?_
    refine ar_iload_n 64 d_206_63 rfl rfl ?_
    refine ar_imul 65 d_206_64 rfl ?_
    refine ar_top (x' := nI (2048 * w)) (pk_mul 2048 w) ?_
    refine ar_iload 67 d_206_65 rfl rfl ?_
    refine ar_iadd 68 d_206_67 rfl ?_
    refine ar_top (x' := nI (2048 * w + i)) (nI_add (2048 * w) i) ?_
    refine ar_aload_n 69 d_206_68 rfl rfl ?_
    refine ar_getf 72 d_206_69 rfl (ci := 11) (k := 14) rfl (hF.at 0 rfl) z14 ?_
    refine ar_sipush 75 (v := 200) d_206_72 rfl (by decide) ?_
    refine ar_iload_n 76 d_206_75 rfl rfl ?_
    refine ar_imul 77 d_206_76 rfl ?_
    refine ar_top (x' := nI (200 * f)) (pk_mul 200 f) ?_
    refine ar_iload 79 d_206_77 rfl rfl ?_
    refine ar_iadd 80 d_206_79 rfl ?_
    refine ar_top (x' := nI (200 * f + i)) (nI_add (200 * f) i) ?_
    refine ar_bald 81 d_206_80 rfl (hF.at 2 rfl) (nI_in (by omega) (by omega)) ?_
    refine ar_top (x' := ff (200 * f + i)) (by rw [nI_clamp (by omega)]) ?_
    refine ar_sipush 84 (v := 255) d_206_81 rfl (by decide) ?_
    refine ar_iand 85 d_206_84 rfl ?_
    refine ar_iast 86 d_206_85 rfl (hF.at 6 rfl) (nI_in (by omega) (by omega)) ?_
    replace hF : ax_hs (ax_put h a35 (.inl (0, 24576, .inl (upd (rgF (fun i => (ff (200 * f + i)) &&& 255) (2048 * w) i td) (nI (2048 * w + i)).toNatClampNeg ((ff (200 * f + i)) &&& 255))))) [(m, .inr (11, fs)), (a12, .inl (0, 48, .inl og)), (a14, .inl (1, 9600, .inl ff)), (a15, .inl (0, 48, .inl lf)), (a30, .inl (1, 4800, .inl pf)), (a31, .inl (0, 24, .inl ql)), (a35, .inl (0, 24576, .inl (upd (rgF (fun i => (ff (200 * f + i)) &&& 255) (2048 * w) i td) (nI (2048 * w + i)).toNatClampNeg ((ff (200 * f + i)) &&& 255)))), (a36, .inl (0, 12, .inl tl))] := hF.put 6 _ rfl rfl
    replace hf := hf.put (a := a35) (c := .inl (0, 24576, .inl (upd (rgF (fun i => (ff (200 * f + i)) &&& 255) (2048 * w) i td) (nI (2048 * w + i)).toNatClampNeg ((ff (200 * f + i)) &&& 255)))) (by simp)
    replace hn : (ax_put h a35 (.inl (0, 24576, .inl (upd (rgF (fun i => (ff (200 * f + i)) &&& 255) (2048 * w) i td) (nI (2048 * w + i)).toNatClampNeg ((ff (200 * f + i)) &&& 255))))).1 = n := hn
    replace hs : (ax_put h a35 (.inl (0, 24576, .inl (upd (rgF (fun i => (ff (200 * f + i)) &&& 255) (2048 * w) i td) (nI (2048 * w + i)).toNatClampNeg ((ff (200 * f + i)) &&& 255))))).2.1 = sl := hs
    generalize ax_put h a35 (.inl (0, 24576, .inl (upd (rgF (fun i => (ff (200 * f + i)) &&& 255) (2048 * w) i td) (nI (2048 * w + i)).toNatClampNeg ((ff (200 * f + i)) &&& 255)))) = h1 at hF hf hn hs ⊢
    refine ar_iinc 89 [(0, .ref m), (1, .int (nI w)), (2, .int y2), (3, .int (nI f)), (4, .int (nI (i + 1)))] d_206_86 rfl rfl (nI_1 i) (by decide) rfl ?_
    refine ar_goto 45 d_206_89 (by decide) ?_
    rw [nI_clamp (show 2048 * w + i < 2 ^ 31 by omega), show upd (rgF (fun i => (ff (200 * f + i)) &&& 255) (2048 * w) i td) (2048 * w + i) ((ff (200 * f + i)) &&& 255) = rgF (fun i => (ff (200 * f + i)) &&& 255) (2048 * w) (i + 1) td from rgF_s (fun i => (ff (200 * f + i)) &&& 255) (2048 * w) i td] at hF
    exact ih (i + 1) h1 (by omega) hF hn hs (fun h' j1 j2 j3 j4 => kk h' j1 j2 j3 (hf.tr j4))
theorem n_206N {L : Nat} {xs : Nat → Int32} {fr lo m : Nat} {h : ax_H} {fs : List Value} {a35 a36 a12 a14 a15 a30 a31 w c n1 : Nat} {td tl og ff lf pf ql : Nat → Int32} (hfr : 1 ≤ fr) (hlo : 40 ≤ lo) (hc : c ≤ 48) (hw : w < 12) (hn1 : ql (2 * w + 0) = nI n1) (hn2 : n1 ≤ 200) (hog : ∀ i, i < c → ¬ og i < 0 ∧ (og i).toNatClampNeg < 48) (hlf : ∀ f, f < 48 → ¬ lf f < 0 ∧ (lf f).toNatClampNeg ≤ 200) (hnone : nxA ff pf lf (400 * w + 200 * 0) n1 og c 0 = c) (z12 : fs[12]? = some (.ref a12)) (z14 : fs[14]? = some (.ref a14)) (z15 : fs[15]? = some (.ref a15)) (z20 : fs[20]? = some (.int (nI c))) (z30 : fs[30]? = some (.ref a30)) (z31 : fs[31]? = some (.ref a31)) (z35 : fs[35]? = some (.ref a35)) (z36 : fs[36]? = some (.ref a36)) (hF : ax_hs h [(m, .inr (11, fs)), (a12, .inl (0, 48, .inl og)), (a14, .inl (1, 9600, .inl ff)), (a15, .inl (0, 48, .inl lf)), (a30, .inl (1, 4800, .inl pf)), (a31, .inl (0, 24, .inl ql)), (a35, .inl (0, 24576, .inl td)), (a36, .inl (0, 12, .inl tl))]) : ax_M L xs 206 fr lo [.ref m, .int (nI w)] h (fun r h' => r = some (.int (-2)) ∧ h' = h) := by
  show ax_A (ax_step L xs) ((206, 0, fr, lo), [(0, .ref m), (1, .int (nI w))], [], h) _
  refine ar_iconst 1 (v := 0) d_206_0 rfl (by decide) ?_
  refine ar_istore_n 2 [(0, .ref m), (1, .int (nI w)), (2, .int 0)] d_206_1 rfl (by decide) rfl ?_
  exact nlp_206a (L := L) (xs := xs) (post := fun r h' => r = some (.int (-2)) ∧ h' = h) (by omega) (by omega) hc hw hn1 hn2 hog hlf z12 z14 z15 z20 z30 z31 z35 z36 hF (fun _ => ⟨rfl, rfl⟩) (fun j hj ej => absurd (ej.trans hnone) (by omega)) c 0 (by omega) rfl
theorem n_206Y {L : Nat} {xs : Nat → Int32} {fr lo m n sl : Nat} {h : ax_H} {fs : List Value} {f l a35 a36 a12 a14 a15 a30 a31 w c n1 : Nat} {td tl og ff lf pf ql : Nat → Int32} (hfr : 1 ≤ fr) (hlo : 40 ≤ lo) (hc : c ≤ 48) (hw : w < 12) (hn1 : ql (2 * w + 0) = nI n1) (hn2 : n1 ≤ 200) (hog : ∀ i, i < c → ¬ og i < 0 ∧ (og i).toNatClampNeg < 48) (hlf : ∀ f, f < 48 → ¬ lf f < 0 ∧ (lf f).toNatClampNeg ≤ 200) (hsome : nxA ff pf lf (400 * w + 200 * 0) n1 og c 0 < c) (hf1 : (og (nxA ff pf lf (400 * w + 200 * 0) n1 og c 0)).toNatClampNeg = f) (hlf0 : lf f = nI l) (hl2 : l ≤ 200) (hl : fs.length = 39) (z12 : fs[12]? = some (.ref a12)) (z14 : fs[14]? = some (.ref a14)) (z15 : fs[15]? = some (.ref a15)) (z20 : fs[20]? = some (.int (nI c))) (z30 : fs[30]? = some (.ref a30)) (z31 : fs[31]? = some (.ref a31)) (z35 : fs[35]? = some (.ref a35)) (z36 : fs[36]? = some (.ref a36)) (hF : ax_hs h [(m, .inr (11, fs)), (a12, .inl (0, 48, .inl og)), (a14, .inl (1, 9600, .inl ff)), (a15, .inl (0, 48, .inl lf)), (a30, .inl (1, 4800, .inl pf)), (a31, .inl (0, 24, .inl ql)), (a35, .inl (0, 24576, .inl td)), (a36, .inl (0, 12, .inl tl))]) (hn : h.1 = n) (hs : h.2.1 = sl) (hn0 : 0 < n) : ax_M L xs 206 fr lo [.ref m, .int (nI w)] h (fun r h' => r = some (.int (nI l)) ∧ ax_hs h' [(m, .inr (11, fs)), (a12, .inl (0, 48, .inl og)), (a14, .inl (1, 9600, .inl ff)), (a15, .inl (0, 48, .inl lf)), (a30, .inl (1, 4800, .inl pf)), (a31, .inl (0, 24, .inl ql)), (a35, .inl (0, 24576, .inl (rgF (fun i => (ff (200 * f + i)) &&& 255) (2048 * w) l td))), (a36, .inl (0, 12, .inl (upd tl w (nI l))))] ∧ h'.1 = n ∧ h'.2.1 = sl ∧ ax_fr (fun x => x ∈ [a35, a36]) h h') := by
  show ax_A (ax_step L xs) ((206, 0, fr, lo), [(0, .ref m), (1, .int (nI w))], [], h) _
  have hbase : h.1 = n := hn
  have hbasl : h.2.1 = sl := hs
  have hf : ax_fr (fun x => x ∈ [a35, a36]) h h := ax_fr.rf
  refine ar_iconst 1 (v := 0) d_206_0 rfl (by decide) ?_
  refine ar_istore_n 2 [(0, .ref m), (1, .int (nI w)), (2, .int 0)] d_206_1 rfl (by decide) rfl ?_
  refine nlp_206a (L := L) (xs := xs) (by omega) (by omega) hc hw hn1 hn2 hog hlf z12 z14 z15 z20 z30 z31 z35 z36 hF (fun z => absurd z (by omega)) (fun j hj ej => ?_) c 0 (by omega) rfl
  have ef : (og j).toNatClampNeg = f := by rw [ej]; exact hf1
  rw [ef]
  have hf0 : f < 48 := by rw [← ef]; exact (hog j hj).2
  refine ar_aload_n 31 d_206_30 rfl rfl ?_
  refine ar_getf 34 d_206_31 rfl (ci := 11) (k := 36) rfl (hF.at 0 rfl) z36 ?_
  refine ar_iload_n 35 d_206_34 rfl rfl ?_
  refine ar_aload_n 36 d_206_35 rfl rfl ?_
  refine ar_getf 39 d_206_36 rfl (ci := 11) (k := 15) rfl (hF.at 0 rfl) z15 ?_
  refine ar_iload_n 40 d_206_39 rfl rfl ?_
  refine ar_iald 41 d_206_40 rfl (hF.at 3 rfl) (nI_in (by omega) (by omega)) ?_
  refine ar_top (x' := nI l) (by rw [nI_clamp (by omega)]; exact hlf0) ?_
  refine ar_iast 42 d_206_41 rfl (hF.at 7 rfl) (nI_in (by omega) (by omega)) ?_
  replace hF : ax_hs (ax_put h a36 (.inl (0, 12, .inl (upd tl (nI w).toNatClampNeg (nI l))))) [(m, .inr (11, fs)), (a12, .inl (0, 48, .inl og)), (a14, .inl (1, 9600, .inl ff)), (a15, .inl (0, 48, .inl lf)), (a30, .inl (1, 4800, .inl pf)), (a31, .inl (0, 24, .inl ql)), (a35, .inl (0, 24576, .inl td)), (a36, .inl (0, 12, .inl (upd tl (nI w).toNatClampNeg (nI l))))] := hF.put 7 _ rfl rfl
  replace hf := hf.put (a := a36) (c := .inl (0, 12, .inl (upd tl (nI w).toNatClampNeg (nI l)))) (by simp)
  replace hn : (ax_put h a36 (.inl (0, 12, .inl (upd tl (nI w).toNatClampNeg (nI l))))).1 = n := hn
  replace hs : (ax_put h a36 (.inl (0, 12, .inl (upd tl (nI w).toNatClampNeg (nI l))))).2.1 = sl := hs
  generalize ax_put h a36 (.inl (0, 12, .inl (upd tl (nI w).toNatClampNeg (nI l)))) = h1 at hF hf hn hs ⊢
  refine ar_iconst 43 (v := 0) d_206_42 rfl (by decide) ?_
  refine ar_istore 45 [(0, .ref m), (1, .int (nI w)), (2, .int (nI j)), (3, .int (nI f)), (4, .int 0)] d_206_43 rfl (by decide) rfl ?_
  rw [nI_clamp (show w < 2 ^ 31 by omega)] at hF
  have hF0 : ax_hs h1 [(m, .inr (11, fs)), (a12, .inl (0, 48, .inl og)), (a14, .inl (1, 9600, .inl ff)), (a15, .inl (0, 48, .inl lf)), (a30, .inl (1, 4800, .inl pf)), (a31, .inl (0, 24, .inl ql)), (a35, .inl (0, 24576, .inl (rgF (fun i => (ff (200 * f + i)) &&& 255) (2048 * w) 0 td))), (a36, .inl (0, 12, .inl (upd tl w (nI l))))] := by rw [rgF_0]; exact hF
  refine nlp_206b hf0 hw hlf0 hl2 hl z12 z14 z15 z20 z30 z31 z35 z36 l 0 h1 (by omega) hF0 hn hs (fun h9 hF hn hs qf => ?_)
  replace hf := hf.tr (qf.mono (by intro x hx; simp at hx; subst hx; simp))
  clear qf
  refine ar_aload_n 93 d_206_92 rfl rfl ?_
  refine ar_getf 96 d_206_93 rfl (ci := 11) (k := 15) rfl (hF.at 0 rfl) z15 ?_
  refine ar_iload_n 97 d_206_96 rfl rfl ?_
  refine ar_iald 98 d_206_97 rfl (hF.at 3 rfl) (nI_in (by omega) (by omega)) ?_
  refine ar_top (x' := nI l) (by rw [nI_clamp (by omega)]; exact hlf0) ?_
  exact ar_iret d_206_98 rfl rfl (⟨rfl, hF, hn, hs, hf⟩)


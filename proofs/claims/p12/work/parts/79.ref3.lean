/-! the reference, exactly: resize, enter -/
theorem d_197_0 : decode (axt_b 197) 0 = .ok (.aload_n 0, 1) := by decide +kernel
theorem d_197_1 : decode (axt_b 197) 1 = .ok (.getfield 122, 3) := by decide +kernel
theorem d_197_4 : decode (axt_b 197) 4 = .ok (.istore 4, 2) := by decide +kernel
theorem d_197_6 : decode (axt_b 197) 6 = .ok (.iload 4, 2) := by decide +kernel
theorem d_197_8 : decode (axt_b 197) 8 = .ok (.ifCond .le 43, 3) := by decide +kernel
theorem d_197_11 : decode (axt_b 197) 11 = .ok (.aload_n 0, 1) := by decide +kernel
theorem d_197_12 : decode (axt_b 197) 12 = .ok (.aload_n 0, 1) := by decide +kernel
theorem d_197_13 : decode (axt_b 197) 13 = .ok (.getfield 24, 3) := by decide +kernel
theorem d_197_16 : decode (axt_b 197) 16 = .ok (.iload 4, 2) := by decide +kernel
theorem d_197_18 : decode (axt_b 197) 18 = .ok (.iconst 1, 1) := by decide +kernel
theorem d_197_19 : decode (axt_b 197) 19 = .ok (.isub, 1) := by decide +kernel
theorem d_197_20 : decode (axt_b 197) 20 = .ok (.iaload, 1) := by decide +kernel
theorem d_197_21 : decode (axt_b 197) 21 = .ok (.iload_n 2, 1) := by decide +kernel
theorem d_197_22 : decode (axt_b 197) 22 = .ok (.iload_n 3, 1) := by decide +kernel
theorem d_197_23 : decode (axt_b 197) 23 = .ok (.invokevirtual 125, 3) := by decide +kernel
theorem d_197_26 : decode (axt_b 197) 26 = .ok (.ifCond .le 25, 3) := by decide +kernel
theorem d_197_29 : decode (axt_b 197) 29 = .ok (.aload_n 0, 1) := by decide +kernel
theorem d_197_30 : decode (axt_b 197) 30 = .ok (.getfield 24, 3) := by decide +kernel
theorem d_197_33 : decode (axt_b 197) 33 = .ok (.iload 4, 2) := by decide +kernel
theorem d_197_35 : decode (axt_b 197) 35 = .ok (.aload_n 0, 1) := by decide +kernel
theorem d_197_36 : decode (axt_b 197) 36 = .ok (.getfield 24, 3) := by decide +kernel
theorem d_197_39 : decode (axt_b 197) 39 = .ok (.iload 4, 2) := by decide +kernel
theorem d_197_41 : decode (axt_b 197) 41 = .ok (.iconst 1, 1) := by decide +kernel
theorem d_197_42 : decode (axt_b 197) 42 = .ok (.isub, 1) := by decide +kernel
theorem d_197_43 : decode (axt_b 197) 43 = .ok (.iaload, 1) := by decide +kernel
theorem d_197_44 : decode (axt_b 197) 44 = .ok (.iastore, 1) := by decide +kernel
theorem d_197_45 : decode (axt_b 197) 45 = .ok (.iinc 4 (-1), 3) := by decide +kernel
theorem d_197_48 : decode (axt_b 197) 48 = .ok (.goto (-42), 3) := by decide +kernel
theorem d_197_51 : decode (axt_b 197) 51 = .ok (.aload_n 0, 1) := by decide +kernel
theorem d_197_52 : decode (axt_b 197) 52 = .ok (.getfield 24, 3) := by decide +kernel
theorem d_197_55 : decode (axt_b 197) 55 = .ok (.iload 4, 2) := by decide +kernel
theorem d_197_57 : decode (axt_b 197) 57 = .ok (.iload_n 1, 1) := by decide +kernel
theorem d_197_58 : decode (axt_b 197) 58 = .ok (.iastore, 1) := by decide +kernel
theorem d_197_59 : decode (axt_b 197) 59 = .ok (.aload_n 0, 1) := by decide +kernel
theorem d_197_60 : decode (axt_b 197) 60 = .ok (.dup, 1) := by decide +kernel
theorem d_197_61 : decode (axt_b 197) 61 = .ok (.getfield 122, 3) := by decide +kernel
theorem d_197_64 : decode (axt_b 197) 64 = .ok (.iconst 1, 1) := by decide +kernel
theorem d_197_65 : decode (axt_b 197) 65 = .ok (.iadd, 1) := by decide +kernel
theorem d_197_66 : decode (axt_b 197) 66 = .ok (.putfield 122, 3) := by decide +kernel
theorem d_197_69 : decode (axt_b 197) 69 = .ok (.aload_n 0, 1) := by decide +kernel
theorem d_197_70 : decode (axt_b 197) 70 = .ok (.getfield 62, 3) := by decide +kernel
theorem d_197_73 : decode (axt_b 197) 73 = .ok (.iconst 2, 1) := by decide +kernel
theorem d_197_74 : decode (axt_b 197) 74 = .ok (.iload_n 2, 1) := by decide +kernel
theorem d_197_75 : decode (axt_b 197) 75 = .ok (.imul, 1) := by decide +kernel
theorem d_197_76 : decode (axt_b 197) 76 = .ok (.iload_n 3, 1) := by decide +kernel
theorem d_197_77 : decode (axt_b 197) 77 = .ok (.iadd, 1) := by decide +kernel
theorem d_197_78 : decode (axt_b 197) 78 = .ok (.iaload, 1) := by decide +kernel
theorem d_197_79 : decode (axt_b 197) 79 = .ok (.istore 5, 2) := by decide +kernel
theorem d_197_81 : decode (axt_b 197) 81 = .ok (.iconst 0, 1) := by decide +kernel
theorem d_197_82 : decode (axt_b 197) 82 = .ok (.istore 6, 2) := by decide +kernel
theorem d_197_84 : decode (axt_b 197) 84 = .ok (.iload 6, 2) := by decide +kernel
theorem d_197_86 : decode (axt_b 197) 86 = .ok (.iload 5, 2) := by decide +kernel
theorem d_197_88 : decode (axt_b 197) 88 = .ok (.if_icmp .ge 41, 3) := by decide +kernel
theorem d_197_91 : decode (axt_b 197) 91 = .ok (.aload_n 0, 1) := by decide +kernel
theorem d_197_92 : decode (axt_b 197) 92 = .ok (.getfield 31, 3) := by decide +kernel
theorem d_197_95 : decode (axt_b 197) 95 = .ok (.sipush 200, 3) := by decide +kernel
theorem d_197_98 : decode (axt_b 197) 98 = .ok (.iload_n 1, 1) := by decide +kernel
theorem d_197_99 : decode (axt_b 197) 99 = .ok (.imul, 1) := by decide +kernel
theorem d_197_100 : decode (axt_b 197) 100 = .ok (.iload 6, 2) := by decide +kernel
theorem d_197_102 : decode (axt_b 197) 102 = .ok (.iadd, 1) := by decide +kernel
theorem d_197_103 : decode (axt_b 197) 103 = .ok (.aload_n 0, 1) := by decide +kernel
theorem d_197_104 : decode (axt_b 197) 104 = .ok (.getfield 59, 3) := by decide +kernel
theorem d_197_107 : decode (axt_b 197) 107 = .ok (.sipush 400, 3) := by decide +kernel
theorem d_197_110 : decode (axt_b 197) 110 = .ok (.iload_n 2, 1) := by decide +kernel
theorem d_197_111 : decode (axt_b 197) 111 = .ok (.imul, 1) := by decide +kernel
theorem d_197_112 : decode (axt_b 197) 112 = .ok (.sipush 200, 3) := by decide +kernel
theorem d_197_115 : decode (axt_b 197) 115 = .ok (.iload_n 3, 1) := by decide +kernel
theorem d_197_116 : decode (axt_b 197) 116 = .ok (.imul, 1) := by decide +kernel
theorem d_197_117 : decode (axt_b 197) 117 = .ok (.iadd, 1) := by decide +kernel
theorem d_197_118 : decode (axt_b 197) 118 = .ok (.iload 6, 2) := by decide +kernel
theorem d_197_120 : decode (axt_b 197) 120 = .ok (.iadd, 1) := by decide +kernel
theorem d_197_121 : decode (axt_b 197) 121 = .ok (.baload, 1) := by decide +kernel
theorem d_197_122 : decode (axt_b 197) 122 = .ok (.bastore, 1) := by decide +kernel
theorem d_197_123 : decode (axt_b 197) 123 = .ok (.iinc 6 1, 3) := by decide +kernel
theorem d_197_126 : decode (axt_b 197) 126 = .ok (.goto (-42), 3) := by decide +kernel
theorem d_197_129 : decode (axt_b 197) 129 = .ok (.aload_n 0, 1) := by decide +kernel
theorem d_197_130 : decode (axt_b 197) 130 = .ok (.getfield 34, 3) := by decide +kernel
theorem d_197_133 : decode (axt_b 197) 133 = .ok (.iload_n 1, 1) := by decide +kernel
theorem d_197_134 : decode (axt_b 197) 134 = .ok (.iload 5, 2) := by decide +kernel
theorem d_197_136 : decode (axt_b 197) 136 = .ok (.iastore, 1) := by decide +kernel
theorem d_197_137 : decode (axt_b 197) 137 = .ok (.return_, 1) := by decide +kernel
theorem d_199_0 : decode (axt_b 199) 0 = .ok (.aload_n 0, 1) := by decide +kernel
theorem d_199_1 : decode (axt_b 199) 1 = .ok (.getfield 40, 3) := by decide +kernel
theorem d_199_4 : decode (axt_b 199) 4 = .ok (.iload_n 1, 1) := by decide +kernel
theorem d_199_5 : decode (axt_b 199) 5 = .ok (.iaload, 1) := by decide +kernel
theorem d_199_6 : decode (axt_b 199) 6 = .ok (.istore_n 3, 1) := by decide +kernel
theorem d_199_7 : decode (axt_b 199) 7 = .ok (.iload_n 3, 1) := by decide +kernel
theorem d_199_8 : decode (axt_b 199) 8 = .ok (.iload_n 2, 1) := by decide +kernel
theorem d_199_9 : decode (axt_b 199) 9 = .ok (.if_icmp .ge 22, 3) := by decide +kernel
theorem d_199_12 : decode (axt_b 199) 12 = .ok (.aload_n 0, 1) := by decide +kernel
theorem d_199_13 : decode (axt_b 199) 13 = .ok (.getfield 44, 3) := by decide +kernel
theorem d_199_16 : decode (axt_b 199) 16 = .ok (.sipush 8192, 3) := by decide +kernel
theorem d_199_19 : decode (axt_b 199) 19 = .ok (.iload_n 1, 1) := by decide +kernel
theorem d_199_20 : decode (axt_b 199) 20 = .ok (.imul, 1) := by decide +kernel
theorem d_199_21 : decode (axt_b 199) 21 = .ok (.iload_n 3, 1) := by decide +kernel
theorem d_199_22 : decode (axt_b 199) 22 = .ok (.iadd, 1) := by decide +kernel
theorem d_199_23 : decode (axt_b 199) 23 = .ok (.iconst 0, 1) := by decide +kernel
theorem d_199_24 : decode (axt_b 199) 24 = .ok (.bastore, 1) := by decide +kernel
theorem d_199_25 : decode (axt_b 199) 25 = .ok (.iinc 3 1, 3) := by decide +kernel
theorem d_199_28 : decode (axt_b 199) 28 = .ok (.goto (-21), 3) := by decide +kernel
theorem d_199_31 : decode (axt_b 199) 31 = .ok (.iconst 0, 1) := by decide +kernel
theorem d_199_32 : decode (axt_b 199) 32 = .ok (.istore_n 3, 1) := by decide +kernel
theorem d_199_33 : decode (axt_b 199) 33 = .ok (.iload_n 3, 1) := by decide +kernel
theorem d_199_34 : decode (axt_b 199) 34 = .ok (.bipush 19, 2) := by decide +kernel
theorem d_199_36 : decode (axt_b 199) 36 = .ok (.if_icmp .ge 30, 3) := by decide +kernel
theorem d_199_39 : decode (axt_b 199) 39 = .ok (.sipush 448, 3) := by decide +kernel
theorem d_199_42 : decode (axt_b 199) 42 = .ok (.iload_n 3, 1) := by decide +kernel
theorem d_199_43 : decode (axt_b 199) 43 = .ok (.imul, 1) := by decide +kernel
theorem d_199_44 : decode (axt_b 199) 44 = .ok (.iload_n 2, 1) := by decide +kernel
theorem d_199_45 : decode (axt_b 199) 45 = .ok (.if_icmp .lt 15, 3) := by decide +kernel
theorem d_199_48 : decode (axt_b 199) 48 = .ok (.aload_n 0, 1) := by decide +kernel
theorem d_199_49 : decode (axt_b 199) 49 = .ok (.getfield 47, 3) := by decide +kernel
theorem d_199_52 : decode (axt_b 199) 52 = .ok (.bipush 19, 2) := by decide +kernel
theorem d_199_54 : decode (axt_b 199) 54 = .ok (.iload_n 1, 1) := by decide +kernel
theorem d_199_55 : decode (axt_b 199) 55 = .ok (.imul, 1) := by decide +kernel
theorem d_199_56 : decode (axt_b 199) 56 = .ok (.iload_n 3, 1) := by decide +kernel
theorem d_199_57 : decode (axt_b 199) 57 = .ok (.iadd, 1) := by decide +kernel
theorem d_199_58 : decode (axt_b 199) 58 = .ok (.iconst 0, 1) := by decide +kernel
theorem d_199_59 : decode (axt_b 199) 59 = .ok (.bastore, 1) := by decide +kernel
theorem d_199_60 : decode (axt_b 199) 60 = .ok (.iinc 3 1, 3) := by decide +kernel
theorem d_199_63 : decode (axt_b 199) 63 = .ok (.goto (-30), 3) := by decide +kernel
theorem d_199_66 : decode (axt_b 199) 66 = .ok (.aload_n 0, 1) := by decide +kernel
theorem d_199_67 : decode (axt_b 199) 67 = .ok (.dup, 1) := by decide +kernel
theorem d_199_68 : decode (axt_b 199) 68 = .ok (.getfield 136, 3) := by decide +kernel
theorem d_199_71 : decode (axt_b 199) 71 = .ok (.iload_n 2, 1) := by decide +kernel
theorem d_199_72 : decode (axt_b 199) 72 = .ok (.aload_n 0, 1) := by decide +kernel
theorem d_199_73 : decode (axt_b 199) 73 = .ok (.getfield 40, 3) := by decide +kernel
theorem d_199_76 : decode (axt_b 199) 76 = .ok (.iload_n 1, 1) := by decide +kernel
theorem d_199_77 : decode (axt_b 199) 77 = .ok (.iaload, 1) := by decide +kernel
theorem d_199_78 : decode (axt_b 199) 78 = .ok (.isub, 1) := by decide +kernel
theorem d_199_79 : decode (axt_b 199) 79 = .ok (.iadd, 1) := by decide +kernel
theorem d_199_80 : decode (axt_b 199) 80 = .ok (.putfield 136, 3) := by decide +kernel
theorem d_199_83 : decode (axt_b 199) 83 = .ok (.aload_n 0, 1) := by decide +kernel
theorem d_199_84 : decode (axt_b 199) 84 = .ok (.getfield 40, 3) := by decide +kernel
theorem d_199_87 : decode (axt_b 199) 87 = .ok (.iload_n 1, 1) := by decide +kernel
theorem d_199_88 : decode (axt_b 199) 88 = .ok (.iload_n 2, 1) := by decide +kernel
theorem d_199_89 : decode (axt_b 199) 89 = .ok (.iastore, 1) := by decide +kernel
theorem d_199_90 : decode (axt_b 199) 90 = .ok (.return_, 1) := by decide +kernel
/-- a stretch of an array, written anew -/
def rgF (g : Nat → Int32) (a n : Nat) (f : Nat → Int32) : Nat → Int32 := fun j => if a ≤ j ∧ j < a + n then g (j - a) else f j
theorem rgF_0 (g : Nat → Int32) (a : Nat) (f : Nat → Int32) : rgF g a 0 f = f := by
  funext j
  exact if_neg (by omega)
theorem rgF_s (g : Nat → Int32) (a i : Nat) (f : Nat → Int32) : upd (rgF g a i f) (a + i) (g i) = rgF g a (i + 1) f := by
  funext j
  by_cases e : j = a + i
  · subst e
    rw [show upd (rgF g a i f) (a + i) (g i) (a + i) = g i from if_pos rfl]
    unfold rgF
    rw [if_pos ⟨by omega, by omega⟩, show a + i - a = i by omega]
  · rw [show upd (rgF g a i f) (a + i) (g i) j = rgF g a i f j from if_neg e]
    unfold rgF
    by_cases h1 : a ≤ j ∧ j < a + i
    · rw [if_pos h1, if_pos ⟨h1.1, by omega⟩]
    · rw [if_neg h1, if_neg (by omega)]
/-- STRIPES that are no more LAID -/
def laF (a z : Nat) (f : Nat → Int32) : Nat → Nat → Int32
  | 0 => f
  | k + 1 => if z ≤ 448 * k then upd (laF a z f k) (a + k) (vp_nar .boolean 0) else laF a z f k
theorem nlp_199a {L : Nat} {xs : Nat → Int32} {fr lo m n sl a17 a18 a19 f z y : Nat} {fs : List Value} {bf lf zf : Nat → Int32} {to : Int32} {post : ax_Po} (hf0 : f < 48) (hz : z ≤ 8192) (hy : y ≤ 8192) (hl : fs.length = 39) (z17 : fs[17]? = some (.ref a17)) (z18 : fs[18]? = some (.ref a18)) (z19 : fs[19]? = some (.ref a19)) (z21 : fs[21]? = some (.int to)) : ∀ (k i : Nat) (h : ax_H), i + k = z - y → ax_hs h [(m, .inr (11, fs)), (a17, .inl (0, 48, .inl zf)), (a18, .inl (1, 393216, .inl (rgF (fun _ => vp_nar .byte 0) (8192 * f + y) i bf))), (a19, .inl (2, 912, .inl lf))] → h.1 = n → h.2.1 = sl → (∀ h', ax_hs h' [(m, .inr (11, fs)), (a17, .inl (0, 48, .inl zf)), (a18, .inl (1, 393216, .inl (rgF (fun _ => vp_nar .byte 0) (8192 * f + y) (z - y) bf))), (a19, .inl (2, 912, .inl lf))] → h'.1 = n → h'.2.1 = sl → ax_fr (fun x => x ∈ [a18]) h h' → ax_A (ax_step L xs) ((199, 31, fr, lo), [(0, .ref m), (1, .int (nI f)), (2, .int (nI z)), (3, .int (nI (y + (z - y))))], [], h') post) → ax_A (ax_step L xs) ((199, 7, fr, lo), [(0, .ref m), (1, .int (nI f)), (2, .int (nI z)), (3, .int (nI (y + i)))], [], h) post := by
  intro k
  induction k with
  | zero =>
    intro i h hi hF hn hs kk
    have e : i = z - y := by omega
    subst e
    refine ar_iload_n 8 d_199_7 rfl rfl ?_
    refine ar_iload_n 9 d_199_8 rfl rfl ?_
    refine ar_icmp_ge 31 12 d_199_9 (by decide) rfl (fun _ => ?_) (fun c => absurd (nI_le (by omega) (by omega)) c)
    exact kk h hF hn hs ax_fr.rf
  | succ k ih =>
    intro i h hi hF hn hs kk
    have hbase : h.1 = n := hn
    have hbasl : h.2.1 = sl := hs
    have hf : ax_fr (fun x => x ∈ [a18]) h h := ax_fr.rf
    refine ar_iload_n 8 d_199_7 rfl rfl ?_
    refine ar_iload_n 9 d_199_8 rfl rfl ?_
    refine ar_icmp_ge 31 12 d_199_9 (by decide) rfl (fun c => absurd c (nI_ge (by omega) (by omega))) (fun _ => ?_)
    refine ar_aload_n 13 d_199_12 rfl rfl ?_
    refine ar_getf 16 d_199_13 rfl (ci := 11) (k := 18) rfl (hF.at 0 rfl) z18 ?_
    refine ar_sipush 19 (v := 8192) d_199_16 rfl (by decide) ?_
    refine ar_iload_n 20 d_199_19 rfl rfl ?_
    refine ar_imul 21 d_199_20 rfl ?_
    refine ar_top (x' := nI (8192 * f)) (pk_mul 8192 f) ?_
    refine ar_iload_n 22 d_199_21 rfl rfl ?_
    refine ar_iadd 23 d_199_22 rfl ?_
    refine ar_top (x' := nI (8192 * f + y + i)) ((nI_add (8192 * f) (y + i)).trans (congrArg nI (by omega))) ?_
    refine ar_iconst 24 (v := 0) d_199_23 rfl (by decide) ?_
    refine ar_bast 25 d_199_24 rfl (hF.at 2 rfl) (nI_in (by omega) (by omega)) ?_
    replace hF : ax_hs (ax_put h a18 (.inl (1, 393216, .inl (upd (rgF (fun _ => vp_nar .byte 0) (8192 * f + y) i bf) (nI (8192 * f + y + i)).toNatClampNeg (vp_nar .byte 0))))) [(m, .inr (11, fs)), (a17, .inl (0, 48, .inl zf)), (a18, .inl (1, 393216, .inl (upd (rgF (fun _ => vp_nar .byte 0) (8192 * f + y) i bf) (nI (8192 * f + y + i)).toNatClampNeg (vp_nar .byte 0)))), (a19, .inl (2, 912, .inl lf))] := hF.put 2 _ rfl rfl
    replace hf := hf.put (a := a18) (c := .inl (1, 393216, .inl (upd (rgF (fun _ => vp_nar .byte 0) (8192 * f + y) i bf) (nI (8192 * f + y + i)).toNatClampNeg (vp_nar .byte 0)))) (by simp)
    replace hn : (ax_put h a18 (.inl (1, 393216, .inl (upd (rgF (fun _ => vp_nar .byte 0) (8192 * f + y) i bf) (nI (8192 * f + y + i)).toNatClampNeg (vp_nar .byte 0))))).1 = n := hn
    replace hs : (ax_put h a18 (.inl (1, 393216, .inl (upd (rgF (fun _ => vp_nar .byte 0) (8192 * f + y) i bf) (nI (8192 * f + y + i)).toNatClampNeg (vp_nar .byte 0))))).2.1 = sl := hs
    generalize ax_put h a18 (.inl (1, 393216, .inl (upd (rgF (fun _ => vp_nar .byte 0) (8192 * f + y) i bf) (nI (8192 * f + y + i)).toNatClampNeg (vp_nar .byte 0)))) = h1 at hF hf hn hs ⊢
    refine ar_iinc 28 [(0, .ref m), (1, .int (nI f)), (2, .int (nI z)), (3, .int (nI (y + (i + 1))))] d_199_25 rfl rfl (nI_1 (y + i)) (by decide) rfl ?_
    refine ar_goto 7 d_199_28 (by decide) ?_
    rw [nI_clamp (show 8192 * f + y + i < 2 ^ 31 by omega), rgF_s (fun _ => vp_nar .byte 0) (8192 * f + y) i bf] at hF
    exact ih (i + 1) h1 (by omega) hF hn hs (fun h' j1 j2 j3 j4 => kk h' j1 j2 j3 (hf.tr j4))
theorem nlp_199b {L : Nat} {xs : Nat → Int32} {fr lo m n sl a17 a18 a19 f z : Nat} {fs : List Value} {bf lf zf : Nat → Int32} {to : Int32} {post : ax_Po} (hf0 : f < 48) (hz : z ≤ 8192) (hl : fs.length = 39) (z17 : fs[17]? = some (.ref a17)) (z18 : fs[18]? = some (.ref a18)) (z19 : fs[19]? = some (.ref a19)) (z21 : fs[21]? = some (.int to)) : ∀ (k i : Nat) (h : ax_H), i + k = 19 → ax_hs h [(m, .inr (11, fs)), (a17, .inl (0, 48, .inl zf)), (a18, .inl (1, 393216, .inl bf)), (a19, .inl (2, 912, .inl (laF (19 * f) z lf i)))] → h.1 = n → h.2.1 = sl → (∀ h', ax_hs h' [(m, .inr (11, fs)), (a17, .inl (0, 48, .inl zf)), (a18, .inl (1, 393216, .inl bf)), (a19, .inl (2, 912, .inl (laF (19 * f) z lf 19)))] → h'.1 = n → h'.2.1 = sl → ax_fr (fun x => x ∈ [a19]) h h' → ax_A (ax_step L xs) ((199, 66, fr, lo), [(0, .ref m), (1, .int (nI f)), (2, .int (nI z)), (3, .int (nI 19))], [], h') post) → ax_A (ax_step L xs) ((199, 33, fr, lo), [(0, .ref m), (1, .int (nI f)), (2, .int (nI z)), (3, .int (nI i))], [], h) post := by
  intro k
  induction k with
  | zero =>
    intro i h hi hF hn hs kk
    have e : i = 19 := by omega
    subst e
    refine ar_iload_n 34 d_199_33 rfl rfl ?_
    refine ar_bipush 36 (v := 19) d_199_34 rfl (by decide) ?_
    refine ar_top (x' := nI 19) rfl ?_
    refine ar_icmp_ge 66 39 d_199_36 (by decide) rfl (fun _ => ?_) (fun c => absurd (Int32.le_refl _) c)
    exact kk h hF hn hs ax_fr.rf
  | succ k ih =>
    intro i h hi hF hn hs kk
    refine ar_iload_n 34 d_199_33 rfl rfl ?_
    refine ar_bipush 36 (v := 19) d_199_34 rfl (by decide) ?_
    refine ar_top (x' := nI 19) rfl ?_
    refine ar_icmp_ge 66 39 d_199_36 (by decide) rfl (fun c => absurd c (nI_ge (by omega) (by omega))) (fun _ => ?_)
    refine ar_sipush 42 (v := 448) d_199_39 rfl (by decide) ?_
    refine ar_iload_n 43 d_199_42 rfl rfl ?_
    refine ar_imul 44 d_199_43 rfl ?_
    refine ar_top (x' := nI (448 * i)) (pk_mul 448 i) ?_
    refine ar_iload_n 45 d_199_44 rfl rfl ?_
    refine ar_icmp_lt 60 48 d_199_45 (by decide) rfl (fun c1 => ?_) (fun c1 => ?_)
    · have k1 : ¬ z ≤ 448 * i := fun q => absurd c1 (nI_nlt q (by omega))
      refine ar_iinc 63 [(0, .ref m), (1, .int (nI f)), (2, .int (nI z)), (3, .int (nI (i + 1)))] d_199_60 rfl rfl (nI_1 i) (by decide) rfl ?_
      refine ar_goto 33 d_199_63 (by decide) ?_
      rw [show laF (19 * f) z lf i = laF (19 * f) z lf (i + 1) from (if_neg k1).symm] at hF
      exact ih (i + 1) h (by omega) hF hn hs kk
    · have k1 : z ≤ 448 * i := Nat.le_of_not_lt (fun q => c1 (nI_lt q (by omega)))
      have hbase : h.1 = n := hn
      have hbasl : h.2.1 = sl := hs
      have hf : ax_fr (fun x => x ∈ [a19]) h h := ax_fr.rf
      refine ar_aload_n 49 d_199_48 rfl rfl ?_
      refine ar_getf 52 d_199_49 rfl (ci := 11) (k := 19) rfl (hF.at 0 rfl) z19 ?_
      refine ar_bipush 54 (v := 19) d_199_52 rfl (by decide) ?_
      refine ar_iload_n 55 d_199_54 rfl rfl ?_
      refine ar_imul 56 d_199_55 rfl ?_
      refine ar_top (x' := nI (19 * f)) (pk_mul 19 f) ?_
      refine ar_iload_n 57 d_199_56 rfl rfl ?_
      refine ar_iadd 58 d_199_57 rfl ?_
      refine ar_top (x' := nI (19 * f + i)) (nI_add (19 * f) i) ?_
      refine ar_iconst 59 (v := 0) d_199_58 rfl (by decide) ?_
      refine ar_zast 60 d_199_59 rfl (hF.at 3 rfl) (nI_in (by omega) (by omega)) ?_
      replace hF : ax_hs (ax_put h a19 (.inl (2, 912, .inl (upd (laF (19 * f) z lf i) (nI (19 * f + i)).toNatClampNeg (vp_nar .boolean 0))))) [(m, .inr (11, fs)), (a17, .inl (0, 48, .inl zf)), (a18, .inl (1, 393216, .inl bf)), (a19, .inl (2, 912, .inl (upd (laF (19 * f) z lf i) (nI (19 * f + i)).toNatClampNeg (vp_nar .boolean 0))))] := hF.put 3 _ rfl rfl
      replace hf := hf.put (a := a19) (c := .inl (2, 912, .inl (upd (laF (19 * f) z lf i) (nI (19 * f + i)).toNatClampNeg (vp_nar .boolean 0)))) (by simp)
      replace hn : (ax_put h a19 (.inl (2, 912, .inl (upd (laF (19 * f) z lf i) (nI (19 * f + i)).toNatClampNeg (vp_nar .boolean 0))))).1 = n := hn
      replace hs : (ax_put h a19 (.inl (2, 912, .inl (upd (laF (19 * f) z lf i) (nI (19 * f + i)).toNatClampNeg (vp_nar .boolean 0))))).2.1 = sl := hs
      generalize ax_put h a19 (.inl (2, 912, .inl (upd (laF (19 * f) z lf i) (nI (19 * f + i)).toNatClampNeg (vp_nar .boolean 0)))) = h1 at hF hf hn hs ⊢
      refine ar_iinc 63 [(0, .ref m), (1, .int (nI f)), (2, .int (nI z)), (3, .int (nI (i + 1)))] d_199_60 rfl rfl (nI_1 i) (by decide) rfl ?_
      refine ar_goto 33 d_199_63 (by decide) ?_
      rw [nI_clamp (show 19 * f + i < 2 ^ 31 by omega), show upd (laF (19 * f) z lf i) (19 * f + i) (vp_nar .boolean 0) = laF (19 * f) z lf (i + 1) from (if_pos k1).symm] at hF
      exact ih (i + 1) h1 (by omega) hF hn hs (fun h' j1 j2 j3 j4 => kk h' j1 j2 j3 (hf.tr j4))
theorem n_199 {L : Nat} {xs : Nat → Int32} {fr lo m n sl : Nat} {h : ax_H} {fs : List Value} {a17 a18 a19 f z y : Nat} {bf lf zf : Nat → Int32} {to : Int32} (hf0 : f < 48) (hz : z ≤ 8192) (hy : y ≤ 8192) (hzf : zf f = nI y) (hl : fs.length = 39) (z17 : fs[17]? = some (.ref a17)) (z18 : fs[18]? = some (.ref a18)) (z19 : fs[19]? = some (.ref a19)) (z21 : fs[21]? = some (.int to)) (hF : ax_hs h [(m, .inr (11, fs)), (a17, .inl (0, 48, .inl zf)), (a18, .inl (1, 393216, .inl bf)), (a19, .inl (2, 912, .inl lf))]) (hn : h.1 = n) (hs : h.2.1 = sl) (hn0 : 0 < n) : ax_M L xs 199 fr lo [.ref m, .int (nI f), .int (nI z)] h (fun r h' => ∃ fs', r = none ∧ fs'.length = 39 ∧ fs'[21]? = some (.int (to + (nI z - nI y))) ∧ (∀ k, k ≠ 21 → fs'[k]? = fs[k]?) ∧ ax_hs h' [(m, .inr (11, fs')), (a17, .inl (0, 48, .inl (upd zf f (nI z)))), (a18, .inl (1, 393216, .inl (rgF (fun _ => vp_nar .byte 0) (8192 * f + y) (z - y) bf))), (a19, .inl (2, 912, .inl (laF (19 * f) z lf 19)))] ∧ h'.1 = n ∧ h'.2.1 = sl ∧ ax_fr (fun x => x ∈ [m, a17, a18, a19]) h h') := by
  show ax_A (ax_step L xs) ((199, 0, fr, lo), [(0, .ref m), (1, .int (nI f)), (2, .int (nI z))], [], h) _
  have hbase : h.1 = n := hn
  have hbasl : h.2.1 = sl := hs
  have hf : ax_fr (fun x => x ∈ [m, a17, a18, a19]) h h := ax_fr.rf
  have hO : ∀ k, k ≠ 21 → fs[k]? = fs[k]? := fun _ _ => rfl
  refine ar_aload_n 1 d_199_0 rfl rfl ?_
  refine ar_getf 4 d_199_1 rfl (ci := 11) (k := 17) rfl (hF.at 0 rfl) z17 ?_
  refine ar_iload_n 5 d_199_4 rfl rfl ?_
  refine ar_iald 6 d_199_5 rfl (hF.at 1 rfl) (nI_in (by omega) (by omega)) ?_
  refine ar_top (x' := nI y) (by rw [nI_clamp (by omega)]; exact hzf) ?_
  refine ar_istore_n 7 [(0, .ref m), (1, .int (nI f)), (2, .int (nI z)), (3, .int (nI y))] d_199_6 rfl (by decide) rfl ?_
  have hF0 : ax_hs h [(m, .inr (11, fs)), (a17, .inl (0, 48, .inl zf)), (a18, .inl (1, 393216, .inl (rgF (fun _ => vp_nar .byte 0) (8192 * f + y) 0 bf))), (a19, .inl (2, 912, .inl lf))] := by rw [rgF_0]; exact hF
  refine nlp_199a (y := y) hf0 hz hy hl z17 z18 z19 z21 (z - y) 0 h (by omega) hF0 hn hs (fun h1 hF hn hs qf => ?_)
  replace hf := hf.tr (qf.mono (by intro x hx; simp at hx; subst hx; simp))
  clear qf
  refine ar_iconst 32 (v := 0) d_199_31 rfl (by decide) ?_
  refine ar_istore_n 33 [(0, .ref m), (1, .int (nI f)), (2, .int (nI z)), (3, .int 0)] d_199_32 rfl (by decide) rfl ?_
  refine nlp_199b hf0 hz hl z17 z18 z19 z21 19 0 h1 (by omega) hF hn hs (fun h2 hF hn hs qf => ?_)
  replace hf := hf.tr (qf.mono (by intro x hx; simp at hx; subst hx; simp))
  clear qf
  refine ar_aload_n 67 d_199_66 rfl rfl ?_
  refine ar_dup 68 d_199_67 rfl rfl ?_
  refine ar_getf 71 d_199_68 rfl (ci := 11) (k := 21) rfl (hF.at 0 rfl) z21 ?_
  refine ar_iload_n 72 d_199_71 rfl rfl ?_
  refine ar_aload_n 73 d_199_72 rfl rfl ?_
  refine ar_getf 76 d_199_73 rfl (ci := 11) (k := 17) rfl (hF.at 0 rfl) z17 ?_
  refine ar_iload_n 77 d_199_76 rfl rfl ?_
  refine ar_iald 78 d_199_77 rfl (hF.at 1 rfl) (nI_in (by omega) (by omega)) ?_
  refine ar_top (x' := nI y) (by rw [nI_clamp (by omega)]; exact hzf) ?_
  refine ar_isub 79 d_199_78 rfl ?_
  refine ar_iadd 80 d_199_79 rfl ?_
  refine ar_putf 83 (fs.set 21 (.int (to + ((nI z) - (nI y))))) d_199_80 rfl (ci := 11) (k := 21) rfl rfl (hF.at 0 rfl) (by rw [hl]; decide) rfl rfl rfl ?_
  replace hF : ax_hs (ax_put h2 m (.inr (11, (fs.set 21 (.int (to + ((nI z) - (nI y)))))))) [(m, .inr (11, (fs.set 21 (.int (to + ((nI z) - (nI y))))))), (a17, .inl (0, 48, .inl zf)), (a18, .inl (1, 393216, .inl (rgF (fun _ => vp_nar .byte 0) (8192 * f + y) (z - y) bf))), (a19, .inl (2, 912, .inl (laF (19 * f) z lf 19)))] := hF.put 0 _ rfl rfl
  replace hf := hf.put (a := m) (c := .inr (11, (fs.set 21 (.int (to + ((nI z) - (nI y))))))) (by simp)
  replace hn : (ax_put h2 m (.inr (11, (fs.set 21 (.int (to + ((nI z) - (nI y)))))))).1 = n := hn
  replace hs : (ax_put h2 m (.inr (11, (fs.set 21 (.int (to + ((nI z) - (nI y)))))))).2.1 = sl := hs
  generalize ax_put h2 m (.inr (11, (fs.set 21 (.int (to + ((nI z) - (nI y))))))) = h3 at hF hf hn hs ⊢
  replace z17 : (fs.set 21 (.int (to + ((nI z) - (nI y)))))[17]? = some (.ref a17) := (List.getElem?_set_ne (by decide)).trans z17
  replace z18 : (fs.set 21 (.int (to + ((nI z) - (nI y)))))[18]? = some (.ref a18) := (List.getElem?_set_ne (by decide)).trans z18
  replace z19 : (fs.set 21 (.int (to + ((nI z) - (nI y)))))[19]? = some (.ref a19) := (List.getElem?_set_ne (by decide)).trans z19
  replace z21 : (fs.set 21 (.int (to + ((nI z) - (nI y)))))[21]? = some (.int (to + ((nI z) - (nI y)))) := List.getElem?_set_self (by rw [hl]; decide)
  replace hO : ∀ k, k ≠ 21 → (fs.set 21 (.int (to + ((nI z) - (nI y)))))[k]? = fs[k]? := fun k y21 => (List.getElem?_set_ne (Ne.symm y21)).trans (hO k y21)
  replace hl : (fs.set 21 (.int (to + ((nI z) - (nI y))))).length = 39 := (List.length_set ..).trans hl
  generalize (fs.set 21 (.int (to + ((nI z) - (nI y))))) = fs1 at hF hl hO z17 z18 z19 z21 ⊢
  refine ar_aload_n 84 d_199_83 rfl rfl ?_
  refine ar_getf 87 d_199_84 rfl (ci := 11) (k := 17) rfl (hF.at 0 rfl) z17 ?_
  refine ar_iload_n 88 d_199_87 rfl rfl ?_
  refine ar_iload_n 89 d_199_88 rfl rfl ?_
  refine ar_iast 90 d_199_89 rfl (hF.at 1 rfl) (nI_in (by omega) (by omega)) ?_
  replace hF : ax_hs (ax_put h3 a17 (.inl (0, 48, .inl (upd zf (nI f).toNatClampNeg (nI z))))) [(m, .inr (11, fs1)), (a17, .inl (0, 48, .inl (upd zf (nI f).toNatClampNeg (nI z)))), (a18, .inl (1, 393216, .inl (rgF (fun _ => vp_nar .byte 0) (8192 * f + y) (z - y) bf))), (a19, .inl (2, 912, .inl (laF (19 * f) z lf 19)))] := hF.put 1 _ rfl rfl
  replace hf := hf.put (a := a17) (c := .inl (0, 48, .inl (upd zf (nI f).toNatClampNeg (nI z)))) (by simp)
  replace hn : (ax_put h3 a17 (.inl (0, 48, .inl (upd zf (nI f).toNatClampNeg (nI z))))).1 = n := hn
  replace hs : (ax_put h3 a17 (.inl (0, 48, .inl (upd zf (nI f).toNatClampNeg (nI z))))).2.1 = sl := hs
  generalize ax_put h3 a17 (.inl (0, 48, .inl (upd zf (nI f).toNatClampNeg (nI z)))) = h4 at hF hf hn hs ⊢
  rw [nI_clamp (show f < 2 ^ 31 by omega)] at hF
  exact ar_ret d_199_90 rfl (⟨_, rfl, hl, z21, hO, hF, hn, hs, hf⟩)


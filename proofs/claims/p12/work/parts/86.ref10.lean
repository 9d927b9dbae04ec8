/-! the reference, exactly: write, its loop -/
theorem d_198_0 : decode (axt_b 198) 0 = .ok (.aload_n 0, 1) := by decide +kernel
theorem d_198_1 : decode (axt_b 198) 1 = .ok (.iload_n 1, 1) := by decide +kernel
theorem d_198_2 : decode (axt_b 198) 2 = .ok (.iconst 0, 1) := by decide +kernel
theorem d_198_3 : decode (axt_b 198) 3 = .ok (.invokevirtual 139, 3) := by decide +kernel
theorem d_198_6 : decode (axt_b 198) 6 = .ok (.istore 4, 2) := by decide +kernel
theorem d_198_8 : decode (axt_b 198) 8 = .ok (.iload 4, 2) := by decide +kernel
theorem d_198_10 : decode (axt_b 198) 10 = .ok (.ifCond .ge 7, 3) := by decide +kernel
theorem d_198_13 : decode (axt_b 198) 13 = .ok (.iconst 0, 1) := by decide +kernel
theorem d_198_14 : decode (axt_b 198) 14 = .ok (.goto 10, 3) := by decide +kernel
theorem d_198_17 : decode (axt_b 198) 17 = .ok (.aload_n 0, 1) := by decide +kernel
theorem d_198_18 : decode (axt_b 198) 18 = .ok (.getfield 40, 3) := by decide +kernel
theorem d_198_21 : decode (axt_b 198) 21 = .ok (.iload 4, 2) := by decide +kernel
theorem d_198_23 : decode (axt_b 198) 23 = .ok (.iaload, 1) := by decide +kernel
theorem d_198_24 : decode (axt_b 198) 24 = .ok (.istore 5, 2) := by decide +kernel
theorem d_198_26 : decode (axt_b 198) 26 = .ok (.aload_n 0, 1) := by decide +kernel
theorem d_198_27 : decode (axt_b 198) 27 = .ok (.getfield 68, 3) := by decide +kernel
theorem d_198_30 : decode (axt_b 198) 30 = .ok (.iload_n 1, 1) := by decide +kernel
theorem d_198_31 : decode (axt_b 198) 31 = .ok (.iaload, 1) := by decide +kernel
theorem d_198_32 : decode (axt_b 198) 32 = .ok (.istore 6, 2) := by decide +kernel
theorem d_198_34 : decode (axt_b 198) 34 = .ok (.iload_n 3, 1) := by decide +kernel
theorem d_198_35 : decode (axt_b 198) 35 = .ok (.ifCond .eq 8, 3) := by decide +kernel
theorem d_198_38 : decode (axt_b 198) 38 = .ok (.iload 5, 2) := by decide +kernel
theorem d_198_40 : decode (axt_b 198) 40 = .ok (.goto 9, 3) := by decide +kernel
theorem d_198_43 : decode (axt_b 198) 43 = .ok (.aload_n 0, 1) := by decide +kernel
theorem d_198_44 : decode (axt_b 198) 44 = .ok (.getfield 53, 3) := by decide +kernel
theorem d_198_47 : decode (axt_b 198) 47 = .ok (.iload_n 1, 1) := by decide +kernel
theorem d_198_48 : decode (axt_b 198) 48 = .ok (.iaload, 1) := by decide +kernel
theorem d_198_49 : decode (axt_b 198) 49 = .ok (.istore 7, 2) := by decide +kernel
theorem d_198_51 : decode (axt_b 198) 51 = .ok (.iload 6, 2) := by decide +kernel
theorem d_198_53 : decode (axt_b 198) 53 = .ok (.ifCond .eq 13, 3) := by decide +kernel
theorem d_198_56 : decode (axt_b 198) 56 = .ok (.iload 7, 2) := by decide +kernel
theorem d_198_58 : decode (axt_b 198) 58 = .ok (.iload 6, 2) := by decide +kernel
theorem d_198_60 : decode (axt_b 198) 60 = .ok (.iadd, 1) := by decide +kernel
theorem d_198_61 : decode (axt_b 198) 61 = .ok (.iload 5, 2) := by decide +kernel
theorem d_198_63 : decode (axt_b 198) 63 = .ok (.if_icmp .ge 8, 3) := by decide +kernel
theorem d_198_66 : decode (axt_b 198) 66 = .ok (.iload 5, 2) := by decide +kernel
theorem d_198_68 : decode (axt_b 198) 68 = .ok (.goto 8, 3) := by decide +kernel
theorem d_198_71 : decode (axt_b 198) 71 = .ok (.iload 7, 2) := by decide +kernel
theorem d_198_73 : decode (axt_b 198) 73 = .ok (.iload 6, 2) := by decide +kernel
theorem d_198_75 : decode (axt_b 198) 75 = .ok (.iadd, 1) := by decide +kernel
theorem d_198_76 : decode (axt_b 198) 76 = .ok (.istore 8, 2) := by decide +kernel
theorem d_198_78 : decode (axt_b 198) 78 = .ok (.iload 4, 2) := by decide +kernel
theorem d_198_80 : decode (axt_b 198) 80 = .ok (.ifCond .ge 12, 3) := by decide +kernel
theorem d_198_83 : decode (axt_b 198) 83 = .ok (.aload_n 0, 1) := by decide +kernel
theorem d_198_84 : decode (axt_b 198) 84 = .ok (.getfield 122, 3) := by decide +kernel
theorem d_198_87 : decode (axt_b 198) 87 = .ok (.bipush 48, 2) := by decide +kernel
theorem d_198_89 : decode (axt_b 198) 89 = .ok (.if_icmp .eq 26, 3) := by decide +kernel
theorem d_198_92 : decode (axt_b 198) 92 = .ok (.iload 8, 2) := by decide +kernel
theorem d_198_94 : decode (axt_b 198) 94 = .ok (.sipush 8192, 3) := by decide +kernel
theorem d_198_97 : decode (axt_b 198) 97 = .ok (.if_icmp .gt 18, 3) := by decide +kernel
theorem d_198_100 : decode (axt_b 198) 100 = .ok (.aload_n 0, 1) := by decide +kernel
theorem d_198_101 : decode (axt_b 198) 101 = .ok (.getfield 136, 3) := by decide +kernel
theorem d_198_104 : decode (axt_b 198) 104 = .ok (.iload 5, 2) := by decide +kernel
theorem d_198_106 : decode (axt_b 198) 106 = .ok (.isub, 1) := by decide +kernel
theorem d_198_107 : decode (axt_b 198) 107 = .ok (.iload 8, 2) := by decide +kernel
theorem d_198_109 : decode (axt_b 198) 109 = .ok (.iadd, 1) := by decide +kernel
theorem d_198_110 : decode (axt_b 198) 110 = .ok (.ldc 143, 2) := by decide +kernel
theorem d_198_112 : decode (axt_b 198) 112 = .ok (.if_icmp .le 6, 3) := by decide +kernel
theorem d_198_115 : decode (axt_b 198) 115 = .ok (.bipush (-4), 2) := by decide +kernel
theorem d_198_117 : decode (axt_b 198) 117 = .ok (.ireturn, 1) := by decide +kernel
theorem d_198_118 : decode (axt_b 198) 118 = .ok (.iload 4, 2) := by decide +kernel
theorem d_198_120 : decode (axt_b 198) 120 = .ok (.ifCond .ge 11, 3) := by decide +kernel
theorem d_198_123 : decode (axt_b 198) 123 = .ok (.aload_n 0, 1) := by decide +kernel
theorem d_198_124 : decode (axt_b 198) 124 = .ok (.iload_n 1, 1) := by decide +kernel
theorem d_198_125 : decode (axt_b 198) 125 = .ok (.iload_n 2, 1) := by decide +kernel
theorem d_198_126 : decode (axt_b 198) 126 = .ok (.invokevirtual 144, 3) := by decide +kernel
theorem d_198_129 : decode (axt_b 198) 129 = .ok (.istore 4, 2) := by decide +kernel
theorem d_198_131 : decode (axt_b 198) 131 = .ok (.aload_n 0, 1) := by decide +kernel
theorem d_198_132 : decode (axt_b 198) 132 = .ok (.iload 4, 2) := by decide +kernel
theorem d_198_134 : decode (axt_b 198) 134 = .ok (.iload 8, 2) := by decide +kernel
theorem d_198_136 : decode (axt_b 198) 136 = .ok (.invokevirtual 147, 3) := by decide +kernel
theorem d_198_139 : decode (axt_b 198) 139 = .ok (.iconst 0, 1) := by decide +kernel
theorem d_198_140 : decode (axt_b 198) 140 = .ok (.istore 9, 2) := by decide +kernel
theorem d_198_142 : decode (axt_b 198) 142 = .ok (.iload 9, 2) := by decide +kernel
theorem d_198_144 : decode (axt_b 198) 144 = .ok (.iload 6, 2) := by decide +kernel
theorem d_198_146 : decode (axt_b 198) 146 = .ok (.if_icmp .ge 60, 3) := by decide +kernel
theorem d_198_149 : decode (axt_b 198) 149 = .ok (.aload_n 0, 1) := by decide +kernel
theorem d_198_150 : decode (axt_b 198) 150 = .ok (.getfield 44, 3) := by decide +kernel
theorem d_198_153 : decode (axt_b 198) 153 = .ok (.sipush 8192, 3) := by decide +kernel
theorem d_198_156 : decode (axt_b 198) 156 = .ok (.iload 4, 2) := by decide +kernel
theorem d_198_158 : decode (axt_b 198) 158 = .ok (.imul, 1) := by decide +kernel
theorem d_198_159 : decode (axt_b 198) 159 = .ok (.iload 7, 2) := by decide +kernel
theorem d_198_161 : decode (axt_b 198) 161 = .ok (.iadd, 1) := by decide +kernel
theorem d_198_162 : decode (axt_b 198) 162 = .ok (.iload 9, 2) := by decide +kernel
theorem d_198_164 : decode (axt_b 198) 164 = .ok (.iadd, 1) := by decide +kernel
theorem d_198_165 : decode (axt_b 198) 165 = .ok (.aload_n 0, 1) := by decide +kernel
theorem d_198_166 : decode (axt_b 198) 166 = .ok (.getfield 65, 3) := by decide +kernel
theorem d_198_169 : decode (axt_b 198) 169 = .ok (.sipush 2048, 3) := by decide +kernel
theorem d_198_172 : decode (axt_b 198) 172 = .ok (.iload_n 1, 1) := by decide +kernel
theorem d_198_173 : decode (axt_b 198) 173 = .ok (.imul, 1) := by decide +kernel
theorem d_198_174 : decode (axt_b 198) 174 = .ok (.iload 9, 2) := by decide +kernel
theorem d_198_176 : decode (axt_b 198) 176 = .ok (.iadd, 1) := by decide +kernel
theorem d_198_177 : decode (axt_b 198) 177 = .ok (.baload, 1) := by decide +kernel
theorem d_198_178 : decode (axt_b 198) 178 = .ok (.bastore, 1) := by decide +kernel
theorem d_198_179 : decode (axt_b 198) 179 = .ok (.aload_n 0, 1) := by decide +kernel
theorem d_198_180 : decode (axt_b 198) 180 = .ok (.getfield 47, 3) := by decide +kernel
theorem d_198_183 : decode (axt_b 198) 183 = .ok (.bipush 19, 2) := by decide +kernel
theorem d_198_185 : decode (axt_b 198) 185 = .ok (.iload 4, 2) := by decide +kernel
theorem d_198_187 : decode (axt_b 198) 187 = .ok (.imul, 1) := by decide +kernel
theorem d_198_188 : decode (axt_b 198) 188 = .ok (.iload 7, 2) := by decide +kernel
theorem d_198_190 : decode (axt_b 198) 190 = .ok (.iload 9, 2) := by decide +kernel
theorem d_198_192 : decode (axt_b 198) 192 = .ok (.iadd, 1) := by decide +kernel
theorem d_198_193 : decode (axt_b 198) 193 = .ok (.sipush 448, 3) := by decide +kernel
theorem d_198_196 : decode (axt_b 198) 196 = .ok (.idiv, 1) := by decide +kernel
theorem d_198_197 : decode (axt_b 198) 197 = .ok (.iadd, 1) := by decide +kernel
theorem d_198_198 : decode (axt_b 198) 198 = .ok (.iconst 1, 1) := by decide +kernel
theorem d_198_199 : decode (axt_b 198) 199 = .ok (.bastore, 1) := by decide +kernel
theorem d_198_200 : decode (axt_b 198) 200 = .ok (.iinc 9 1, 3) := by decide +kernel
theorem d_198_203 : decode (axt_b 198) 203 = .ok (.goto (-61), 3) := by decide +kernel
theorem d_198_206 : decode (axt_b 198) 206 = .ok (.iload 6, 2) := by decide +kernel
theorem d_198_208 : decode (axt_b 198) 208 = .ok (.ireturn, 1) := by decide +kernel
def wlF (f a : Nat) (la : Nat → Int32) : Nat → (Nat → Int32)
  | 0 => la
  | k + 1 => upd (wlF f a la k) (19 * f + (a + k) / 448) (vp_nar .boolean 1)
theorem nlp_198 {L : Nat} {xs : Nat → Int32} {fr lo m n sl a18 a19 a32 w f a t : Nat} {fs : List Value} {bf la ot : Nat → Int32} {y2 y3 y5 y8 : Int32} {post : ax_Po} (hf0 : f < 48) (hw : w < 12) (ht : t ≤ 2048) (hat : a + t ≤ 8192) (hl : fs.length = 39) (z18 : fs[18]? = some (.ref a18)) (z19 : fs[19]? = some (.ref a19)) (z32 : fs[32]? = some (.ref a32)) : ∀ (k i : Nat) (h : ax_H), i + k = t → ax_hs h [(m, .inr (11, fs)), (a18, .inl (1, 393216, .inl (rgF (fun i => vp_nar .byte (ot (2048 * w + i))) (8192 * f + a) i bf))), (a19, .inl (2, 912, .inl (wlF f a la i))), (a32, .inl (1, 24576, .inl ot))] → h.1 = n → h.2.1 = sl → (∀ h', ax_hs h' [(m, .inr (11, fs)), (a18, .inl (1, 393216, .inl (rgF (fun i => vp_nar .byte (ot (2048 * w + i))) (8192 * f + a) t bf))), (a19, .inl (2, 912, .inl (wlF f a la t))), (a32, .inl (1, 24576, .inl ot))] → h'.1 = n → h'.2.1 = sl → ax_fr (fun x => x ∈ [a18, a19]) h h' → post (some (.int (nI t))) h') → ax_A (ax_step L xs) ((198, 142, fr, lo), [(0, .ref m), (1, .int (nI w)), (2, .int y2), (3, .int y3), (4, .int (nI f)), (5, .int y5), (6, .int (nI t)), (7, .int (nI a)), (8, .int y8), (9, .int (nI i))], [], h) post := by
  intro k
  induction k with
  | zero =>
    intro i h hi hF hn hs kk
    have ei : i = t := by omega
    subst ei
    refine ar_iload 144 d_198_142 rfl rfl ?_
    refine ar_iload 146 d_198_144 rfl rfl ?_
    refine ar_icmp_ge 206 149 d_198_146 (by decide) rfl (fun _ => ?_) (fun c => absurd (Int32.le_refl _) c)
    refine ar_iload 208 d_198_206 rfl rfl ?_
    exact ar_iret d_198_208 rfl rfl (kk h hF hn hs ax_fr.rf)
  | succ k ih =>
    intro i h hi hF hn hs kk
    have hdv : (a + i) / 448 < 19 := by omega
    have hbase : h.1 = n := hn
    have hbasl : h.2.1 = sl := hs
    have hf : ax_fr (fun x => x ∈ [a18, a19]) h h := ax_fr.rf
    refine ar_iload 144 d_198_142 rfl rfl ?_
    refine ar_iload 146 d_198_144 rfl rfl ?_
    refine ar_icmp_ge 206 149 d_198_146 (by decide) rfl (fun c => absurd c (nI_ge (by omega) (by omega))) (fun _ => ?_)
    refine ar_aload_n 150 d_198_149 rfl rfl ?_
    refine ar_getf 153 d_198_150 rfl (ci := 11) (k := 18) rfl (hF.at 0 rfl) z18 ?_
    refine ar_sipush 156 (v := 8192) d_198_153 rfl (by decide) ?_
    refine ar_iload 158 d_198_156 rfl rfl ?_
    refine ar_imul 159 d_198_158 rfl ?_
    refine ar_top (x' := nI (8192 * f)) (pk_mul 8192 f) ?_
    refine ar_iload 161 d_198_159 rfl rfl ?_
    refine ar_iadd 162 d_198_161 rfl ?_
    refine ar_top (x' := nI (8192 * f + a)) (nI_add (8192 * f) a) ?_
    refine ar_iload 164 d_198_162 rfl rfl ?_
    refine ar_iadd 165 d_198_164 rfl ?_
    refine ar_top (x' := nI (8192 * f + a + i)) (nI_add (8192 * f + a) i) ?_
    refine ar_aload_n 166 d_198_165 rfl rfl ?_
    refine ar_getf 169 d_198_166 rfl (ci := 11) (k := 32) rfl (hF.at 0 rfl) z32 ?_
    refine ar_sipush 172 (v := 2048) d_198_169 rfl (by decide) ?_
    refine ar_iload_n 173 d_198_172 rfl rfl ?_
    refine ar_imul 174 d_198_173 rfl ?_
    refine ar_top (x' := nI (2048 * w)) (pk_mul 2048 w) ?_
    refine ar_iload 176 d_198_174 rfl rfl ?_
    refine ar_iadd 177 d_198_176 rfl ?_
    refine ar_top (x' := nI (2048 * w + i)) (nI_add (2048 * w) i) ?_
    refine ar_bald 178 d_198_177 rfl (hF.at 3 rfl) (nI_in (by omega) (by omega)) ?_
    refine ar_top (x' := ot (2048 * w + i)) (by rw [nI_clamp (by omega)]) ?_
    refine ar_bast 179 d_198_178 rfl (hF.at 1 rfl) (nI_in (by omega) (by omega)) ?_
    replace hF : ax_hs (ax_put h a18 (.inl (1, 393216, .inl (upd (rgF (fun i => vp_nar .byte (ot (2048 * w + i))) (8192 * f + a) i bf) (nI (8192 * f + a + i)).toNatClampNeg (vp_nar .byte (ot (2048 * w + i))))))) [(m, .inr (11, fs)), (a18, .inl (1, 393216, .inl (upd (rgF (fun i => vp_nar .byte (ot (2048 * w + i))) (8192 * f + a) i bf) (nI (8192 * f + a + i)).toNatClampNeg (vp_nar .byte (ot (2048 * w + i)))))), (a19, .inl (2, 912, .inl (wlF f a la i))), (a32, .inl (1, 24576, .inl ot))] := hF.put 1 _ rfl rfl
    replace hf := hf.put (a := a18) (c := .inl (1, 393216, .inl (upd (rgF (fun i => vp_nar .byte (ot (2048 * w + i))) (8192 * f + a) i bf) (nI (8192 * f + a + i)).toNatClampNeg (vp_nar .byte (ot (2048 * w + i)))))) (by simp)
    replace hn : (ax_put h a18 (.inl (1, 393216, .inl (upd (rgF (fun i => vp_nar .byte (ot (2048 * w + i))) (8192 * f + a) i bf) (nI (8192 * f + a + i)).toNatClampNeg (vp_nar .byte (ot (2048 * w + i))))))).1 = n := hn
    replace hs : (ax_put h a18 (.inl (1, 393216, .inl (upd (rgF (fun i => vp_nar .byte (ot (2048 * w + i))) (8192 * f + a) i bf) (nI (8192 * f + a + i)).toNatClampNeg (vp_nar .byte (ot (2048 * w + i))))))).2.1 = sl := hs
    generalize ax_put h a18 (.inl (1, 393216, .inl (upd (rgF (fun i => vp_nar .byte (ot (2048 * w + i))) (8192 * f + a) i bf) (nI (8192 * f + a + i)).toNatClampNeg (vp_nar .byte (ot (2048 * w + i)))))) = h1 at hF hf hn hs ⊢
    refine ar_aload_n 180 d_198_179 rfl rfl ?_
    refine ar_getf 183 d_198_180 rfl (ci := 11) (k := 19) rfl (hF.at 0 rfl) z19 ?_
    refine ar_bipush 185 (v := 19) d_198_183 rfl (by decide) ?_
    refine ar_iload 187 d_198_185 rfl rfl ?_
    refine ar_imul 188 d_198_187 rfl ?_
    refine ar_top (x' := nI (19 * f)) (pk_mul 19 f) ?_
    refine ar_iload 190 d_198_188 rfl rfl ?_
    refine ar_iload 192 d_198_190 rfl rfl ?_
    refine ar_iadd 193 d_198_192 rfl ?_
    refine ar_top (x' := nI (a + i)) (nI_add a i) ?_
    refine ar_sipush 196 (v := 448) d_198_193 rfl (by decide) ?_
    refine ar_idiv 197 d_198_196 rfl (by decide) ?_
    refine ar_top (x' := nI ((a + i) / 448)) (pk_div (d := 448) (by omega) (by omega) (by omega)) ?_
    refine ar_iadd 198 d_198_197 rfl ?_
    refine ar_top (x' := nI (19 * f + (a + i) / 448)) (nI_add _ _) ?_
    refine ar_iconst 199 (v := 1) d_198_198 rfl (by decide) ?_
    refine ar_zast 200 d_198_199 rfl (hF.at 2 rfl) (nI_in (by omega) (by omega)) ?_
    replace hF : ax_hs (ax_put h1 a19 (.inl (2, 912, .inl (upd (wlF f a la i) (nI (19 * f + (a + i) / 448)).toNatClampNeg (vp_nar .boolean 1))))) [(m, .inr (11, fs)), (a18, .inl (1, 393216, .inl (upd (rgF (fun i => vp_nar .byte (ot (2048 * w + i))) (8192 * f + a) i bf) (nI (8192 * f + a + i)).toNatClampNeg (vp_nar .byte (ot (2048 * w + i)))))), (a19, .inl (2, 912, .inl (upd (wlF f a la i) (nI (19 * f + (a + i) / 448)).toNatClampNeg (vp_nar .boolean 1)))), (a32, .inl (1, 24576, .inl ot))] := hF.put 2 _ rfl rfl
    replace hf := hf.put (a := a19) (c := .inl (2, 912, .inl (upd (wlF f a la i) (nI (19 * f + (a + i) / 448)).toNatClampNeg (vp_nar .boolean 1)))) (by simp)
    replace hn : (ax_put h1 a19 (.inl (2, 912, .inl (upd (wlF f a la i) (nI (19 * f + (a + i) / 448)).toNatClampNeg (vp_nar .boolean 1))))).1 = n := hn
    replace hs : (ax_put h1 a19 (.inl (2, 912, .inl (upd (wlF f a la i) (nI (19 * f + (a + i) / 448)).toNatClampNeg (vp_nar .boolean 1))))).2.1 = sl := hs
    generalize ax_put h1 a19 (.inl (2, 912, .inl (upd (wlF f a la i) (nI (19 * f + (a + i) / 448)).toNatClampNeg (vp_nar .boolean 1)))) = h2 at hF hf hn hs ⊢
    refine ar_iinc 203 [(0, .ref m), (1, .int (nI w)), (2, .int y2), (3, .int y3), (4, .int (nI f)), (5, .int y5), (6, .int (nI t)), (7, .int (nI a)), (8, .int y8), (9, .int (nI (i + 1)))] d_198_200 rfl rfl (nI_1 i) (by decide) rfl ?_
    refine ar_goto 142 d_198_203 (by decide) ?_
    rw [nI_clamp (show 8192 * f + a + i < 2 ^ 31 by omega), nI_clamp (show 19 * f + (a + i) / 448 < 2 ^ 31 by omega), show upd (rgF (fun i => vp_nar .byte (ot (2048 * w + i))) (8192 * f + a) i bf) (8192 * f + a + i) (vp_nar .byte (ot (2048 * w + i))) = rgF (fun i => vp_nar .byte (ot (2048 * w + i))) (8192 * f + a) (i + 1) bf from rgF_s (fun i => vp_nar .byte (ot (2048 * w + i))) (8192 * f + a) i bf] at hF
    exact ih (i + 1) h2 (by omega) hF hn hs (fun h' j1 j2 j3 j4 => kk h' j1 j2 j3 (hf.tr j4))


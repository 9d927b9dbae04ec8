/-! the reference: begin, crash, restart, map, replace, bits, exactly -/

def bgM (M : Nat → Nat → Int32) (wt op l : Nat) (kd a b : Int32) : Nat → Nat → Int32 := va_up (va_up (va_up (va_up (va_up (va_up (va_up (va_up M 0 (upd (upd (upd (if kd = 1 ∨ kd = 2 then upd (M 0) 9 0 else M 0) 26 (nI (wt + 1))) 25 (nI (op + 1))) 7 0)) 27 (upd (M 27) wt kd)) 28 (upd (M 28) wt a)) 29 (upd (M 29) wt b)) 30 (rgF (fun i => vp_nar .byte (M 10 i)) (400 * wt) 400 (M 30))) 31 (upd (upd (M 31) (2 * wt) (M 11 0)) (2 * wt + 1) (M 11 1))) 32 (rgF (fun i => vp_nar .byte (M 8 i)) (2048 * wt) l (M 32))) 33 (upd (M 33) wt (nI l))
set_option maxRecDepth 100000 in
theorem rl1_180 {L : Nat} {xs : Nat → Int32} {fr lo : Nat} {m p al AL : Nat} {h0 : ax_H} {M : Nat → Nat → Int32} {wt l : Nat} {kd a b : Int32} {post : ax_Po} (hC : RC m p al) (hw : wt < 12) (kk : ∀ h : ax_H, RS m p al AL h0 h (va_up (va_up (va_up (va_up M 27 (upd (M 27) wt kd)) 28 (upd (M 28) wt a)) 29 (upd (M 29) wt b)) 30 (rgF (fun i => vp_nar .byte (M 10 i)) (400 * wt) 400 (M 30))) → ax_A (ax_step L xs) ((180, 172, fr, lo), [(0, .ref m), (1, .int kd), (2, .int a), (3, .int b), (4, .int (nI wt))], [], h) post) : ∀ (j i : Nat) (h : ax_H), i + j = 400 → RS m p al AL h0 h (va_up (va_up (va_up (va_up M 27 (upd (M 27) wt kd)) 28 (upd (M 28) wt a)) 29 (upd (M 29) wt b)) 30 (rgF (fun i => vp_nar .byte (M 10 i)) (400 * wt) i (M 30))) → ax_A (ax_step L xs) ((180, 137, fr, lo), [(0, .ref m), (1, .int kd), (2, .int a), (3, .int b), (4, .int (nI wt)), (5, .int (nI i))], [], h) post := by
    obtain ⟨hmp, hal, hm0⟩ := hC
    intro j
    induction j with
    | zero =>
      intro i h hi hS
      have e0 : 400 = i := by omega
      subst e0
      have hSk := hS
      obtain ⟨hF, hf, hn, hs, hp0⟩ := hS
      replace hF : ax_hs h [cRo m p al M, cRB p 2048 (M 8), cRB (p + 1) 400 (M 10), cRI (p + 2) 2 (M 11), cRI (p + 3) 48 (M 12), cRZ (p + 4) 48 (M 13), cRB (p + 5) 9600 (M 14), cRI (p + 6) 48 (M 15), cRI (p + 7) 48 (M 16), cRI (p + 8) 48 (M 17), cRB (p + 9) 393216 (M 18), cRZ (p + 10) 912 (M 19), (p + 11, .inl (0, 12, .inl (upd (M 27) wt kd))), (p + 12, .inl (0, 12, .inl (upd (M 28) wt a))), (p + 13, .inl (0, 12, .inl (upd (M 29) wt b))), (p + 14, .inl (1, 4800, .inl (rgF (fun i => vp_nar .byte (M 10 i)) (400 * wt) 400 (M 30)))), cRI (p + 15) 24 (M 31), cRB (p + 16) 24576 (M 32), cRI (p + 17) 12 (M 33), cRI al AL (M 34), cRI (p + 19) 24576 (M 35), cRI (p + 20) 12 (M 36)] := hF
      refine ar_iload 139 d_180_137 rfl rfl ?_
      refine ar_sipush 142 (v := 400) d_180_139 rfl (by decide) ?_
      refine ar_icmp_ge 172 145 d_180_142 (by decide) rfl (fun _ => ?_) (fun c => absurd (Int32.le_refl _) c)
      refine ar_wk [0, 1, 2, 3, 4] rfl (by simp) ?_
      exact kk h hSk
    | succ j ih =>
      intro i h hi hS
      have hic : i < 400 := by omega
      obtain ⟨hF, hf, hn, hs, hp0⟩ := hS
      replace hF : ax_hs h [cRo m p al M, cRB p 2048 (M 8), cRB (p + 1) 400 (M 10), cRI (p + 2) 2 (M 11), cRI (p + 3) 48 (M 12), cRZ (p + 4) 48 (M 13), cRB (p + 5) 9600 (M 14), cRI (p + 6) 48 (M 15), cRI (p + 7) 48 (M 16), cRI (p + 8) 48 (M 17), cRB (p + 9) 393216 (M 18), cRZ (p + 10) 912 (M 19), (p + 11, .inl (0, 12, .inl (upd (M 27) wt kd))), (p + 12, .inl (0, 12, .inl (upd (M 28) wt a))), (p + 13, .inl (0, 12, .inl (upd (M 29) wt b))), (p + 14, .inl (1, 4800, .inl (rgF (fun i => vp_nar .byte (M 10 i)) (400 * wt) i (M 30)))), cRI (p + 15) 24 (M 31), cRB (p + 16) 24576 (M 32), cRI (p + 17) 12 (M 33), cRI al AL (M 34), cRI (p + 19) 24576 (M 35), cRI (p + 20) 12 (M 36)] := hF
      refine ar_iload 139 d_180_137 rfl rfl ?_
      refine ar_sipush 142 (v := 400) d_180_139 rfl (by decide) ?_
      refine ar_icmp_ge 172 145 d_180_142 (by decide) rfl (fun c => absurd c (nI_ge hic (by decide))) (fun _ => ?_)
      refine ar_aload_n 146 d_180_145 rfl rfl ?_
      refine ar_getf 149 d_180_146 rfl (ci := 11) (k := 30) rfl (hF.at 0 rfl) (show _ = some (.ref (p + 14)) from rfl) ?_
      refine ar_sipush 152 (v := 400) d_180_149 rfl (by decide) ?_
      refine ar_iload 154 d_180_152 rfl rfl ?_
      refine ar_imul 155 d_180_154 rfl ?_
      refine ar_top (x' := nI (400 * wt)) (pk_mul 400 wt) ?_
      refine ar_iload 157 d_180_155 rfl rfl ?_
      refine ar_iadd 158 d_180_157 rfl ?_
      refine ar_top (x' := nI (400 * wt + i)) (nI_add _ _) ?_
      refine ar_aload_n 159 d_180_158 rfl rfl ?_
      refine ar_getf 162 d_180_159 rfl (ci := 11) (k := 10) rfl (hF.at 0 rfl) (show _ = some (.ref (p + 1)) from rfl) ?_
      refine ar_iload 164 d_180_162 rfl rfl ?_
      refine ar_bald 165 d_180_164 rfl (hF.at 2 rfl) (vin (by omega) (by omega)) ?_
      refine ar_bast 166 d_180_165 rfl (hF.at 15 rfl) (vin (by omega) (by omega)) ?_
      replace hF : ax_hs (ax_put h (p + 14) (.inl (1, 4800, .inl (upd (rgF (fun i => vp_nar .byte (M 10 i)) (400 * wt) i (M 30)) (nI (400 * wt + i)).toNatClampNeg (vp_nar .byte ((M 10) (nI i).toNatClampNeg)))))) [cRo m p al M, cRB p 2048 (M 8), cRB (p + 1) 400 (M 10), cRI (p + 2) 2 (M 11), cRI (p + 3) 48 (M 12), cRZ (p + 4) 48 (M 13), cRB (p + 5) 9600 (M 14), cRI (p + 6) 48 (M 15), cRI (p + 7) 48 (M 16), cRI (p + 8) 48 (M 17), cRB (p + 9) 393216 (M 18), cRZ (p + 10) 912 (M 19), (p + 11, .inl (0, 12, .inl (upd (M 27) wt kd))), (p + 12, .inl (0, 12, .inl (upd (M 28) wt a))), (p + 13, .inl (0, 12, .inl (upd (M 29) wt b))), (p + 14, .inl (1, 4800, .inl (upd (rgF (fun i => vp_nar .byte (M 10 i)) (400 * wt) i (M 30)) (nI (400 * wt + i)).toNatClampNeg (vp_nar .byte ((M 10) (nI i).toNatClampNeg))))), cRI (p + 15) 24 (M 31), cRB (p + 16) 24576 (M 32), cRI (p + 17) 12 (M 33), cRI al AL (M 34), cRI (p + 19) 24576 (M 35), cRI (p + 20) 12 (M 36)] := hF.put 15 _ rfl rfl
      replace hf := hf.put (a := p + 14) (c := .inl (1, 4800, .inl (upd (rgF (fun i => vp_nar .byte (M 10 i)) (400 * wt) i (M 30)) (nI (400 * wt + i)).toNatClampNeg (vp_nar .byte ((M 10) (nI i).toNatClampNeg))))) (show m ≤ p + 14 by omega)
      replace hn : (ax_put h (p + 14) (.inl (1, 4800, .inl (upd (rgF (fun i => vp_nar .byte (M 10 i)) (400 * wt) i (M 30)) (nI (400 * wt + i)).toNatClampNeg (vp_nar .byte ((M 10) (nI i).toNatClampNeg)))))).1 = h0.1 := hn
      replace hs : (ax_put h (p + 14) (.inl (1, 4800, .inl (upd (rgF (fun i => vp_nar .byte (M 10 i)) (400 * wt) i (M 30)) (nI (400 * wt + i)).toNatClampNeg (vp_nar .byte ((M 10) (nI i).toNatClampNeg)))))).2.1 = h0.2.1 := hs
      generalize ax_put h (p + 14) (.inl (1, 4800, .inl (upd (rgF (fun i => vp_nar .byte (M 10 i)) (400 * wt) i (M 30)) (nI (400 * wt + i)).toNatClampNeg (vp_nar .byte ((M 10) (nI i).toNatClampNeg))))) = hp_1 at hF hf hn hs ⊢
      replace hF : ax_hs hp_1 [cRo m p al M, cRB p 2048 (M 8), cRB (p + 1) 400 (M 10), cRI (p + 2) 2 (M 11), cRI (p + 3) 48 (M 12), cRZ (p + 4) 48 (M 13), cRB (p + 5) 9600 (M 14), cRI (p + 6) 48 (M 15), cRI (p + 7) 48 (M 16), cRI (p + 8) 48 (M 17), cRB (p + 9) 393216 (M 18), cRZ (p + 10) 912 (M 19), (p + 11, .inl (0, 12, .inl (upd (M 27) wt kd))), (p + 12, .inl (0, 12, .inl (upd (M 28) wt a))), (p + 13, .inl (0, 12, .inl (upd (M 29) wt b))), (p + 14, .inl (1, 4800, .inl (rgF (fun i => vp_nar .byte (M 10 i)) (400 * wt) (i + 1) (M 30)))), cRI (p + 15) 24 (M 31), cRB (p + 16) 24576 (M 32), cRI (p + 17) 12 (M 33), cRI al AL (M 34), cRI (p + 19) 24576 (M 35), cRI (p + 20) 12 (M 36)] := by
        have e := hF
        rw [nI_clamp (show 400 * wt + i < 2 ^ 31 by omega), nI_clamp (show i < 2 ^ 31 by omega), rgF_s (fun i => vp_nar .byte (M 10 i))] at e
        exact e
      refine ar_iinc 169 [(0, .ref m), (1, .int kd), (2, .int a), (3, .int b), (4, .int (nI wt)), (5, .int (nI (i + 1)))] d_180_166 rfl rfl (nI_1 i) (by decide) rfl ?_
      refine ar_goto 137 d_180_169 (by decide) ?_
      exact ih (i + 1) hp_1 (by omega) ⟨hF, hf, hn, hs, hp0⟩
set_option maxRecDepth 100000 in
theorem rl2_180 {L : Nat} {xs : Nat → Int32} {fr lo : Nat} {m p al AL : Nat} {h0 : ax_H} {M : Nat → Nat → Int32} {wt l : Nat} {kd a b : Int32} {post : ax_Po} (hC : RC m p al) (hw : wt < 12) (e9 : M 0 9 = nI l) (hl : l ≤ 2048) (kk : ∀ h : ax_H, RS m p al AL h0 h (va_up (va_up (va_up (va_up (va_up (va_up M 27 (upd (M 27) wt kd)) 28 (upd (M 28) wt a)) 29 (upd (M 29) wt b)) 30 (rgF (fun i => vp_nar .byte (M 10 i)) (400 * wt) 400 (M 30))) 31 (upd (upd (M 31) (2 * wt) (M 11 0)) (2 * wt + 1) (M 11 1))) 32 (rgF (fun i => vp_nar .byte (M 8 i)) (2048 * wt) l (M 32))) → ax_A (ax_step L xs) ((180, 243, fr, lo), [(0, .ref m), (1, .int kd), (2, .int a), (3, .int b), (4, .int (nI wt))], [], h) post) : ∀ (j i : Nat) (h : ax_H), i + j = l → RS m p al AL h0 h (va_up (va_up (va_up (va_up (va_up (va_up M 27 (upd (M 27) wt kd)) 28 (upd (M 28) wt a)) 29 (upd (M 29) wt b)) 30 (rgF (fun i => vp_nar .byte (M 10 i)) (400 * wt) 400 (M 30))) 31 (upd (upd (M 31) (2 * wt) (M 11 0)) (2 * wt + 1) (M 11 1))) 32 (rgF (fun i => vp_nar .byte (M 8 i)) (2048 * wt) i (M 32))) → ax_A (ax_step L xs) ((180, 207, fr, lo), [(0, .ref m), (1, .int kd), (2, .int a), (3, .int b), (4, .int (nI wt)), (5, .int (nI i))], [], h) post := by
    obtain ⟨hmp, hal, hm0⟩ := hC
    intro j
    induction j with
    | zero =>
      intro i h hi hS
      have e0 : l = i := by omega
      subst e0
      have hSk := hS
      obtain ⟨hF, hf, hn, hs, hp0⟩ := hS
      replace hF : ax_hs h [cRo m p al M, cRB p 2048 (M 8), cRB (p + 1) 400 (M 10), cRI (p + 2) 2 (M 11), cRI (p + 3) 48 (M 12), cRZ (p + 4) 48 (M 13), cRB (p + 5) 9600 (M 14), cRI (p + 6) 48 (M 15), cRI (p + 7) 48 (M 16), cRI (p + 8) 48 (M 17), cRB (p + 9) 393216 (M 18), cRZ (p + 10) 912 (M 19), (p + 11, .inl (0, 12, .inl (upd (M 27) wt kd))), (p + 12, .inl (0, 12, .inl (upd (M 28) wt a))), (p + 13, .inl (0, 12, .inl (upd (M 29) wt b))), (p + 14, .inl (1, 4800, .inl (rgF (fun i => vp_nar .byte (M 10 i)) (400 * wt) 400 (M 30)))), (p + 15, .inl (0, 24, .inl (upd (upd (M 31) (2 * wt) (M 11 0)) (2 * wt + 1) (M 11 1)))), (p + 16, .inl (1, 24576, .inl (rgF (fun i => vp_nar .byte (M 8 i)) (2048 * wt) l (M 32)))), cRI (p + 17) 12 (M 33), cRI al AL (M 34), cRI (p + 19) 24576 (M 35), cRI (p + 20) 12 (M 36)] := hF
      refine ar_iload 209 d_180_207 rfl rfl ?_
      refine ar_aload_n 210 d_180_209 rfl rfl ?_
      refine ar_getf 213 d_180_210 rfl (ci := 11) (k := 9) rfl (hF.at 0 rfl) (show _ = some (.int ((M 0) 9)) from rfl) ?_
      refine ar_top (x' := nI l) (e9) ?_
      refine ar_icmp_ge 243 216 d_180_213 (by decide) rfl (fun _ => ?_) (fun c => absurd (Int32.le_refl _) c)
      refine ar_wk [0, 1, 2, 3, 4] rfl (by simp) ?_
      exact kk h hSk
    | succ j ih =>
      intro i h hi hS
      have hic : i < l := by omega
      obtain ⟨hF, hf, hn, hs, hp0⟩ := hS
      replace hF : ax_hs h [cRo m p al M, cRB p 2048 (M 8), cRB (p + 1) 400 (M 10), cRI (p + 2) 2 (M 11), cRI (p + 3) 48 (M 12), cRZ (p + 4) 48 (M 13), cRB (p + 5) 9600 (M 14), cRI (p + 6) 48 (M 15), cRI (p + 7) 48 (M 16), cRI (p + 8) 48 (M 17), cRB (p + 9) 393216 (M 18), cRZ (p + 10) 912 (M 19), (p + 11, .inl (0, 12, .inl (upd (M 27) wt kd))), (p + 12, .inl (0, 12, .inl (upd (M 28) wt a))), (p + 13, .inl (0, 12, .inl (upd (M 29) wt b))), (p + 14, .inl (1, 4800, .inl (rgF (fun i => vp_nar .byte (M 10 i)) (400 * wt) 400 (M 30)))), (p + 15, .inl (0, 24, .inl (upd (upd (M 31) (2 * wt) (M 11 0)) (2 * wt + 1) (M 11 1)))), (p + 16, .inl (1, 24576, .inl (rgF (fun i => vp_nar .byte (M 8 i)) (2048 * wt) i (M 32)))), cRI (p + 17) 12 (M 33), cRI al AL (M 34), cRI (p + 19) 24576 (M 35), cRI (p + 20) 12 (M 36)] := hF
      refine ar_iload 209 d_180_207 rfl rfl ?_
      refine ar_aload_n 210 d_180_209 rfl rfl ?_
      refine ar_getf 213 d_180_210 rfl (ci := 11) (k := 9) rfl (hF.at 0 rfl) (show _ = some (.int ((M 0) 9)) from rfl) ?_
      refine ar_top (x' := nI l) (e9) ?_
      refine ar_icmp_ge 243 216 d_180_213 (by decide) rfl (fun c => absurd c (nI_ge hic (by omega))) (fun _ => ?_)
      refine ar_aload_n 217 d_180_216 rfl rfl ?_
      refine ar_getf 220 d_180_217 rfl (ci := 11) (k := 32) rfl (hF.at 0 rfl) (show _ = some (.ref (p + 16)) from rfl) ?_
      refine ar_sipush 223 (v := 2048) d_180_220 rfl (by decide) ?_
      refine ar_iload 225 d_180_223 rfl rfl ?_
      refine ar_imul 226 d_180_225 rfl ?_
      refine ar_top (x' := nI (2048 * wt)) (pk_mul 2048 wt) ?_
      refine ar_iload 228 d_180_226 rfl rfl ?_
      refine ar_iadd 229 d_180_228 rfl ?_
      refine ar_top (x' := nI (2048 * wt + i)) (nI_add _ _) ?_
      refine ar_aload_n 230 d_180_229 rfl rfl ?_
      refine ar_getf 233 d_180_230 rfl (ci := 11) (k := 8) rfl (hF.at 0 rfl) (show _ = some (.ref p) from rfl) ?_
      refine ar_iload 235 d_180_233 rfl rfl ?_
      refine ar_bald 236 d_180_235 rfl (hF.at 1 rfl) (vin (by omega) (by omega)) ?_
      refine ar_bast 237 d_180_236 rfl (hF.at 17 rfl) (vin (by omega) (by omega)) ?_
      replace hF : ax_hs (ax_put h (p + 16) (.inl (1, 24576, .inl (upd (rgF (fun i => vp_nar .byte (M 8 i)) (2048 * wt) i (M 32)) (nI (2048 * wt + i)).toNatClampNeg (vp_nar .byte ((M 8) (nI i).toNatClampNeg)))))) [cRo m p al M, cRB p 2048 (M 8), cRB (p + 1) 400 (M 10), cRI (p + 2) 2 (M 11), cRI (p + 3) 48 (M 12), cRZ (p + 4) 48 (M 13), cRB (p + 5) 9600 (M 14), cRI (p + 6) 48 (M 15), cRI (p + 7) 48 (M 16), cRI (p + 8) 48 (M 17), cRB (p + 9) 393216 (M 18), cRZ (p + 10) 912 (M 19), (p + 11, .inl (0, 12, .inl (upd (M 27) wt kd))), (p + 12, .inl (0, 12, .inl (upd (M 28) wt a))), (p + 13, .inl (0, 12, .inl (upd (M 29) wt b))), (p + 14, .inl (1, 4800, .inl (rgF (fun i => vp_nar .byte (M 10 i)) (400 * wt) 400 (M 30)))), (p + 15, .inl (0, 24, .inl (upd (upd (M 31) (2 * wt) (M 11 0)) (2 * wt + 1) (M 11 1)))), (p + 16, .inl (1, 24576, .inl (upd (rgF (fun i => vp_nar .byte (M 8 i)) (2048 * wt) i (M 32)) (nI (2048 * wt + i)).toNatClampNeg (vp_nar .byte ((M 8) (nI i).toNatClampNeg))))), cRI (p + 17) 12 (M 33), cRI al AL (M 34), cRI (p + 19) 24576 (M 35), cRI (p + 20) 12 (M 36)] := hF.put 17 _ rfl rfl
      replace hf := hf.put (a := p + 16) (c := .inl (1, 24576, .inl (upd (rgF (fun i => vp_nar .byte (M 8 i)) (2048 * wt) i (M 32)) (nI (2048 * wt + i)).toNatClampNeg (vp_nar .byte ((M 8) (nI i).toNatClampNeg))))) (show m ≤ p + 16 by omega)
      replace hn : (ax_put h (p + 16) (.inl (1, 24576, .inl (upd (rgF (fun i => vp_nar .byte (M 8 i)) (2048 * wt) i (M 32)) (nI (2048 * wt + i)).toNatClampNeg (vp_nar .byte ((M 8) (nI i).toNatClampNeg)))))).1 = h0.1 := hn
      replace hs : (ax_put h (p + 16) (.inl (1, 24576, .inl (upd (rgF (fun i => vp_nar .byte (M 8 i)) (2048 * wt) i (M 32)) (nI (2048 * wt + i)).toNatClampNeg (vp_nar .byte ((M 8) (nI i).toNatClampNeg)))))).2.1 = h0.2.1 := hs
      generalize ax_put h (p + 16) (.inl (1, 24576, .inl (upd (rgF (fun i => vp_nar .byte (M 8 i)) (2048 * wt) i (M 32)) (nI (2048 * wt + i)).toNatClampNeg (vp_nar .byte ((M 8) (nI i).toNatClampNeg))))) = hp_1 at hF hf hn hs ⊢
      replace hF : ax_hs hp_1 [cRo m p al M, cRB p 2048 (M 8), cRB (p + 1) 400 (M 10), cRI (p + 2) 2 (M 11), cRI (p + 3) 48 (M 12), cRZ (p + 4) 48 (M 13), cRB (p + 5) 9600 (M 14), cRI (p + 6) 48 (M 15), cRI (p + 7) 48 (M 16), cRI (p + 8) 48 (M 17), cRB (p + 9) 393216 (M 18), cRZ (p + 10) 912 (M 19), (p + 11, .inl (0, 12, .inl (upd (M 27) wt kd))), (p + 12, .inl (0, 12, .inl (upd (M 28) wt a))), (p + 13, .inl (0, 12, .inl (upd (M 29) wt b))), (p + 14, .inl (1, 4800, .inl (rgF (fun i => vp_nar .byte (M 10 i)) (400 * wt) 400 (M 30)))), (p + 15, .inl (0, 24, .inl (upd (upd (M 31) (2 * wt) (M 11 0)) (2 * wt + 1) (M 11 1)))), (p + 16, .inl (1, 24576, .inl (rgF (fun i => vp_nar .byte (M 8 i)) (2048 * wt) (i + 1) (M 32)))), cRI (p + 17) 12 (M 33), cRI al AL (M 34), cRI (p + 19) 24576 (M 35), cRI (p + 20) 12 (M 36)] := by
        have e := hF
        rw [nI_clamp (show 2048 * wt + i < 2 ^ 31 by omega), nI_clamp (show i < 2 ^ 31 by omega), rgF_s (fun i => vp_nar .byte (M 8 i))] at e
        exact e
      refine ar_iinc 240 [(0, .ref m), (1, .int kd), (2, .int a), (3, .int b), (4, .int (nI wt)), (5, .int (nI (i + 1)))] d_180_237 rfl rfl (nI_1 i) (by decide) rfl ?_
      refine ar_goto 207 d_180_240 (by decide) ?_
      exact ih (i + 1) hp_1 (by omega) ⟨hF, hf, hn, hs, hp0⟩
set_option maxRecDepth 100000 in
theorem r_180 {L : Nat} {xs : Nat → Int32} {fr lo : Nat} {m p al AL : Nat} {h0 h : ax_H} {M : Nat → Nat → Int32} {kd a b : Int32} (hfr : 0 ≤ fr) (hlo : 0 ≤ lo) (hC : RC m p al) (hS : RS m p al AL h0 h M) {l wt op : Nat} (e9 : M 0 9 = nI l) (hl : l ≤ 2048) (e26 : M 0 26 = nI wt) (hwt : wt ≤ 12) (e25 : M 0 25 = nI op) (hop : op ≤ 512) : ax_M L xs 180 fr lo [.ref m, .int kd, .int a, .int b] h (fun r h' => (¬ mayA (M 11 0) (M 11 1) kd a b ∧ r = some (.int (-1)) ∧ RS m p al AL h0 h' M) ∨ (mayA (M 11 0) (M 11 1) kd a b ∧ wt = 12 ∧ r = some (.int (-4)) ∧ RS m p al AL h0 h' M) ∨ (mayA (M 11 0) (M 11 1) kd a b ∧ ¬ wt = 12 ∧ r = some (.int (nI op)) ∧ RS m p al AL h0 h' (bgM M wt op l kd a b))) := by
  have hC0 := hC
  have key : mayA (M 11 0) (M 11 1) kd a b → ∀ h : ax_H, RS m p al AL h0 h M → ax_A (ax_step L xs) ((180, 92, fr, lo), [(0, .ref m), (1, .int kd), (2, .int a), (3, .int b)], [], h) (fun r h' => (¬ mayA (M 11 0) (M 11 1) kd a b ∧ r = some (.int (-1)) ∧ RS m p al AL h0 h' M) ∨ (mayA (M 11 0) (M 11 1) kd a b ∧ wt = 12 ∧ r = some (.int (-4)) ∧ RS m p al AL h0 h' M) ∨ (mayA (M 11 0) (M 11 1) kd a b ∧ ¬ wt = 12 ∧ r = some (.int (nI op)) ∧ RS m p al AL h0 h' (bgM M wt op l kd a b))) := by
    intro hma h hS
    obtain ⟨hmp, hal, hm0⟩ := hC
    obtain ⟨hF, hf, hn, hs, hp0⟩ := hS
    replace hF : ax_hs h [cRo m p al M, cRB p 2048 (M 8), cRB (p + 1) 400 (M 10), cRI (p + 2) 2 (M 11), cRI (p + 3) 48 (M 12), cRZ (p + 4) 48 (M 13), cRB (p + 5) 9600 (M 14), cRI (p + 6) 48 (M 15), cRI (p + 7) 48 (M 16), cRI (p + 8) 48 (M 17), cRB (p + 9) 393216 (M 18), cRZ (p + 10) 912 (M 19), cRI (p + 11) 12 (M 27), cRI (p + 12) 12 (M 28), cRI (p + 13) 12 (M 29), cRB (p + 14) 4800 (M 30), cRI (p + 15) 24 (M 31), cRB (p + 16) 24576 (M 32), cRI (p + 17) 12 (M 33), cRI al AL (M 34), cRI (p + 19) 24576 (M 35), cRI (p + 20) 12 (M 36)] := hF
    refine ar_aload_n 93 d_180_92 rfl rfl ?_
    refine ar_getf 96 d_180_93 rfl (ci := 11) (k := 26) rfl (hF.at 0 rfl) (show _ = some (.int ((M 0) 26)) from rfl) ?_
    refine ar_top (x' := nI wt) (e26) ?_
    refine ar_bipush 98 (v := 12) d_180_96 rfl (by decide) ?_
    refine ar_icmp_ne 104 101 d_180_98 (by decide) rfl (fun c1 => ?_) (fun c1 => ?_)
    · have hw : wt < 12 := Nat.lt_of_le_of_ne hwt (fun z => c1 (by rw [z]; rfl))
      refine ar_aload_n 105 d_180_104 rfl rfl ?_
      refine ar_getf 108 d_180_105 rfl (ci := 11) (k := 26) rfl (hF.at 0 rfl) (show _ = some (.int ((M 0) 26)) from rfl) ?_
      refine ar_top (x' := nI wt) (e26) ?_
      refine ar_istore 110 [(0, .ref m), (1, .int kd), (2, .int a), (3, .int b), (4, .int (nI wt))] d_180_108 rfl (by decide) rfl ?_
      refine ar_aload_n 111 d_180_110 rfl rfl ?_
      refine ar_getf 114 d_180_111 rfl (ci := 11) (k := 27) rfl (hF.at 0 rfl) (show _ = some (.ref (p + 11)) from rfl) ?_
      refine ar_iload 116 d_180_114 rfl rfl ?_
      refine ar_iload_n 117 d_180_116 rfl rfl ?_
      refine ar_iast 118 d_180_117 rfl (hF.at 12 rfl) (vin (by omega) (by omega)) ?_
      replace hF : ax_hs (ax_put h (p + 11) (.inl (0, 12, .inl (upd (M 27) (nI wt).toNatClampNeg kd)))) [cRo m p al M, cRB p 2048 (M 8), cRB (p + 1) 400 (M 10), cRI (p + 2) 2 (M 11), cRI (p + 3) 48 (M 12), cRZ (p + 4) 48 (M 13), cRB (p + 5) 9600 (M 14), cRI (p + 6) 48 (M 15), cRI (p + 7) 48 (M 16), cRI (p + 8) 48 (M 17), cRB (p + 9) 393216 (M 18), cRZ (p + 10) 912 (M 19), (p + 11, .inl (0, 12, .inl (upd (M 27) (nI wt).toNatClampNeg kd))), cRI (p + 12) 12 (M 28), cRI (p + 13) 12 (M 29), cRB (p + 14) 4800 (M 30), cRI (p + 15) 24 (M 31), cRB (p + 16) 24576 (M 32), cRI (p + 17) 12 (M 33), cRI al AL (M 34), cRI (p + 19) 24576 (M 35), cRI (p + 20) 12 (M 36)] := hF.put 12 _ rfl rfl
      replace hf := hf.put (a := p + 11) (c := .inl (0, 12, .inl (upd (M 27) (nI wt).toNatClampNeg kd))) (show m ≤ p + 11 by omega)
      replace hn : (ax_put h (p + 11) (.inl (0, 12, .inl (upd (M 27) (nI wt).toNatClampNeg kd)))).1 = h0.1 := hn
      replace hs : (ax_put h (p + 11) (.inl (0, 12, .inl (upd (M 27) (nI wt).toNatClampNeg kd)))).2.1 = h0.2.1 := hs
      generalize ax_put h (p + 11) (.inl (0, 12, .inl (upd (M 27) (nI wt).toNatClampNeg kd))) = hp_1 at hF hf hn hs ⊢
      replace hF : ax_hs hp_1 [cRo m p al M, cRB p 2048 (M 8), cRB (p + 1) 400 (M 10), cRI (p + 2) 2 (M 11), cRI (p + 3) 48 (M 12), cRZ (p + 4) 48 (M 13), cRB (p + 5) 9600 (M 14), cRI (p + 6) 48 (M 15), cRI (p + 7) 48 (M 16), cRI (p + 8) 48 (M 17), cRB (p + 9) 393216 (M 18), cRZ (p + 10) 912 (M 19), (p + 11, .inl (0, 12, .inl (upd (M 27) wt kd))), cRI (p + 12) 12 (M 28), cRI (p + 13) 12 (M 29), cRB (p + 14) 4800 (M 30), cRI (p + 15) 24 (M 31), cRB (p + 16) 24576 (M 32), cRI (p + 17) 12 (M 33), cRI al AL (M 34), cRI (p + 19) 24576 (M 35), cRI (p + 20) 12 (M 36)] := by
        have e := hF
        rw [nI_clamp (show wt < 2 ^ 31 by omega)] at e
        exact e
      refine ar_aload_n 119 d_180_118 rfl rfl ?_
      refine ar_getf 122 d_180_119 rfl (ci := 11) (k := 28) rfl (hF.at 0 rfl) (show _ = some (.ref (p + 12)) from rfl) ?_
      refine ar_iload 124 d_180_122 rfl rfl ?_
      refine ar_iload_n 125 d_180_124 rfl rfl ?_
      refine ar_iast 126 d_180_125 rfl (hF.at 13 rfl) (vin (by omega) (by omega)) ?_
      replace hF : ax_hs (ax_put hp_1 (p + 12) (.inl (0, 12, .inl (upd (M 28) (nI wt).toNatClampNeg a)))) [cRo m p al M, cRB p 2048 (M 8), cRB (p + 1) 400 (M 10), cRI (p + 2) 2 (M 11), cRI (p + 3) 48 (M 12), cRZ (p + 4) 48 (M 13), cRB (p + 5) 9600 (M 14), cRI (p + 6) 48 (M 15), cRI (p + 7) 48 (M 16), cRI (p + 8) 48 (M 17), cRB (p + 9) 393216 (M 18), cRZ (p + 10) 912 (M 19), (p + 11, .inl (0, 12, .inl (upd (M 27) wt kd))), (p + 12, .inl (0, 12, .inl (upd (M 28) (nI wt).toNatClampNeg a))), cRI (p + 13) 12 (M 29), cRB (p + 14) 4800 (M 30), cRI (p + 15) 24 (M 31), cRB (p + 16) 24576 (M 32), cRI (p + 17) 12 (M 33), cRI al AL (M 34), cRI (p + 19) 24576 (M 35), cRI (p + 20) 12 (M 36)] := hF.put 13 _ rfl rfl
      replace hf := hf.put (a := p + 12) (c := .inl (0, 12, .inl (upd (M 28) (nI wt).toNatClampNeg a))) (show m ≤ p + 12 by omega)
      replace hn : (ax_put hp_1 (p + 12) (.inl (0, 12, .inl (upd (M 28) (nI wt).toNatClampNeg a)))).1 = h0.1 := hn
      replace hs : (ax_put hp_1 (p + 12) (.inl (0, 12, .inl (upd (M 28) (nI wt).toNatClampNeg a)))).2.1 = h0.2.1 := hs
      generalize ax_put hp_1 (p + 12) (.inl (0, 12, .inl (upd (M 28) (nI wt).toNatClampNeg a))) = hp_2 at hF hf hn hs ⊢
      replace hF : ax_hs hp_2 [cRo m p al M, cRB p 2048 (M 8), cRB (p + 1) 400 (M 10), cRI (p + 2) 2 (M 11), cRI (p + 3) 48 (M 12), cRZ (p + 4) 48 (M 13), cRB (p + 5) 9600 (M 14), cRI (p + 6) 48 (M 15), cRI (p + 7) 48 (M 16), cRI (p + 8) 48 (M 17), cRB (p + 9) 393216 (M 18), cRZ (p + 10) 912 (M 19), (p + 11, .inl (0, 12, .inl (upd (M 27) wt kd))), (p + 12, .inl (0, 12, .inl (upd (M 28) wt a))), cRI (p + 13) 12 (M 29), cRB (p + 14) 4800 (M 30), cRI (p + 15) 24 (M 31), cRB (p + 16) 24576 (M 32), cRI (p + 17) 12 (M 33), cRI al AL (M 34), cRI (p + 19) 24576 (M 35), cRI (p + 20) 12 (M 36)] := by
        have e := hF
        rw [nI_clamp (show wt < 2 ^ 31 by omega)] at e
        exact e
      refine ar_aload_n 127 d_180_126 rfl rfl ?_
      refine ar_getf 130 d_180_127 rfl (ci := 11) (k := 29) rfl (hF.at 0 rfl) (show _ = some (.ref (p + 13)) from rfl) ?_
      refine ar_iload 132 d_180_130 rfl rfl ?_
      refine ar_iload_n 133 d_180_132 rfl rfl ?_
      refine ar_iast 134 d_180_133 rfl (hF.at 14 rfl) (vin (by omega) (by omega)) ?_
      replace hF : ax_hs (ax_put hp_2 (p + 13) (.inl (0, 12, .inl (upd (M 29) (nI wt).toNatClampNeg b)))) [cRo m p al M, cRB p 2048 (M 8), cRB (p + 1) 400 (M 10), cRI (p + 2) 2 (M 11), cRI (p + 3) 48 (M 12), cRZ (p + 4) 48 (M 13), cRB (p + 5) 9600 (M 14), cRI (p + 6) 48 (M 15), cRI (p + 7) 48 (M 16), cRI (p + 8) 48 (M 17), cRB (p + 9) 393216 (M 18), cRZ (p + 10) 912 (M 19), (p + 11, .inl (0, 12, .inl (upd (M 27) wt kd))), (p + 12, .inl (0, 12, .inl (upd (M 28) wt a))), (p + 13, .inl (0, 12, .inl (upd (M 29) (nI wt).toNatClampNeg b))), cRB (p + 14) 4800 (M 30), cRI (p + 15) 24 (M 31), cRB (p + 16) 24576 (M 32), cRI (p + 17) 12 (M 33), cRI al AL (M 34), cRI (p + 19) 24576 (M 35), cRI (p + 20) 12 (M 36)] := hF.put 14 _ rfl rfl
      replace hf := hf.put (a := p + 13) (c := .inl (0, 12, .inl (upd (M 29) (nI wt).toNatClampNeg b))) (show m ≤ p + 13 by omega)
      replace hn : (ax_put hp_2 (p + 13) (.inl (0, 12, .inl (upd (M 29) (nI wt).toNatClampNeg b)))).1 = h0.1 := hn
      replace hs : (ax_put hp_2 (p + 13) (.inl (0, 12, .inl (upd (M 29) (nI wt).toNatClampNeg b)))).2.1 = h0.2.1 := hs
      generalize ax_put hp_2 (p + 13) (.inl (0, 12, .inl (upd (M 29) (nI wt).toNatClampNeg b))) = hp_3 at hF hf hn hs ⊢
      replace hF : ax_hs hp_3 [cRo m p al M, cRB p 2048 (M 8), cRB (p + 1) 400 (M 10), cRI (p + 2) 2 (M 11), cRI (p + 3) 48 (M 12), cRZ (p + 4) 48 (M 13), cRB (p + 5) 9600 (M 14), cRI (p + 6) 48 (M 15), cRI (p + 7) 48 (M 16), cRI (p + 8) 48 (M 17), cRB (p + 9) 393216 (M 18), cRZ (p + 10) 912 (M 19), (p + 11, .inl (0, 12, .inl (upd (M 27) wt kd))), (p + 12, .inl (0, 12, .inl (upd (M 28) wt a))), (p + 13, .inl (0, 12, .inl (upd (M 29) wt b))), cRB (p + 14) 4800 (M 30), cRI (p + 15) 24 (M 31), cRB (p + 16) 24576 (M 32), cRI (p + 17) 12 (M 33), cRI al AL (M 34), cRI (p + 19) 24576 (M 35), cRI (p + 20) 12 (M 36)] := by
        have e := hF
        rw [nI_clamp (show wt < 2 ^ 31 by omega)] at e
        exact e
      refine ar_iconst 135 (v := 0) d_180_134 rfl (by decide) ?_
      refine ar_istore 137 [(0, .ref m), (1, .int kd), (2, .int a), (3, .int b), (4, .int (nI wt)), (5, .int 0)] d_180_135 rfl (by decide) rfl ?_
      have hS2 : RS m p al AL h0 hp_3 (va_up (va_up (va_up (va_up M 27 (upd (M 27) wt kd)) 28 (upd (M 28) wt a)) 29 (upd (M 29) wt b)) 30 (rgF (fun i => vp_nar .byte (M 10 i)) (400 * wt) 0 (M 30))) := by
        rw [rgF_0]
        exact ⟨hF, hf, hn, hs, hp0⟩
      refine rl1_180 (l := l) hC0 hw (fun h1 hS3 => ?_) 400 0 hp_3 (by omega) hS2
      clear hF hf hn hs hp0
      obtain ⟨hF, hf, hn, hs, hp0⟩ := hS3
      replace hF : ax_hs h1 [cRo m p al M, cRB p 2048 (M 8), cRB (p + 1) 400 (M 10), cRI (p + 2) 2 (M 11), cRI (p + 3) 48 (M 12), cRZ (p + 4) 48 (M 13), cRB (p + 5) 9600 (M 14), cRI (p + 6) 48 (M 15), cRI (p + 7) 48 (M 16), cRI (p + 8) 48 (M 17), cRB (p + 9) 393216 (M 18), cRZ (p + 10) 912 (M 19), (p + 11, .inl (0, 12, .inl (upd (M 27) wt kd))), (p + 12, .inl (0, 12, .inl (upd (M 28) wt a))), (p + 13, .inl (0, 12, .inl (upd (M 29) wt b))), (p + 14, .inl (1, 4800, .inl (rgF (fun i => vp_nar .byte (M 10 i)) (400 * wt) 400 (M 30)))), cRI (p + 15) 24 (M 31), cRB (p + 16) 24576 (M 32), cRI (p + 17) 12 (M 33), cRI al AL (M 34), cRI (p + 19) 24576 (M 35), cRI (p + 20) 12 (M 36)] := hF
      refine ar_aload_n 173 d_180_172 rfl rfl ?_
      refine ar_getf 176 d_180_173 rfl (ci := 11) (k := 31) rfl (hF.at 0 rfl) (show _ = some (.ref (p + 15)) from rfl) ?_
      refine ar_iconst 177 (v := 2) d_180_176 rfl (by decide) ?_
      refine ar_iload 179 d_180_177 rfl rfl ?_
      refine ar_imul 180 d_180_179 rfl ?_
      refine ar_top (x' := nI (2 * wt)) (pk_mul 2 wt) ?_
      refine ar_aload_n 181 d_180_180 rfl rfl ?_
      refine ar_getf 184 d_180_181 rfl (ci := 11) (k := 11) rfl (hF.at 0 rfl) (show _ = some (.ref (p + 2)) from rfl) ?_
      refine ar_iconst 185 (v := 0) d_180_184 rfl (by decide) ?_
      refine ar_iald 186 d_180_185 rfl (hF.at 3 rfl) (vin (i := 0) (by omega) (by omega)) ?_
      refine ar_top (x' := M 11 0) (by rw [show (0 : Int32).toNatClampNeg = 0 by decide]) ?_
      refine ar_iast 187 d_180_186 rfl (hF.at 16 rfl) (vin (by omega) (by omega)) ?_
      replace hF : ax_hs (ax_put h1 (p + 15) (.inl (0, 24, .inl (upd (M 31) (nI (2 * wt)).toNatClampNeg (M 11 0))))) [cRo m p al M, cRB p 2048 (M 8), cRB (p + 1) 400 (M 10), cRI (p + 2) 2 (M 11), cRI (p + 3) 48 (M 12), cRZ (p + 4) 48 (M 13), cRB (p + 5) 9600 (M 14), cRI (p + 6) 48 (M 15), cRI (p + 7) 48 (M 16), cRI (p + 8) 48 (M 17), cRB (p + 9) 393216 (M 18), cRZ (p + 10) 912 (M 19), (p + 11, .inl (0, 12, .inl (upd (M 27) wt kd))), (p + 12, .inl (0, 12, .inl (upd (M 28) wt a))), (p + 13, .inl (0, 12, .inl (upd (M 29) wt b))), (p + 14, .inl (1, 4800, .inl (rgF (fun i => vp_nar .byte (M 10 i)) (400 * wt) 400 (M 30)))), (p + 15, .inl (0, 24, .inl (upd (M 31) (nI (2 * wt)).toNatClampNeg (M 11 0)))), cRB (p + 16) 24576 (M 32), cRI (p + 17) 12 (M 33), cRI al AL (M 34), cRI (p + 19) 24576 (M 35), cRI (p + 20) 12 (M 36)] := hF.put 16 _ rfl rfl
      replace hf := hf.put (a := p + 15) (c := .inl (0, 24, .inl (upd (M 31) (nI (2 * wt)).toNatClampNeg (M 11 0)))) (show m ≤ p + 15 by omega)
      replace hn : (ax_put h1 (p + 15) (.inl (0, 24, .inl (upd (M 31) (nI (2 * wt)).toNatClampNeg (M 11 0))))).1 = h0.1 := hn
      replace hs : (ax_put h1 (p + 15) (.inl (0, 24, .inl (upd (M 31) (nI (2 * wt)).toNatClampNeg (M 11 0))))).2.1 = h0.2.1 := hs
      generalize ax_put h1 (p + 15) (.inl (0, 24, .inl (upd (M 31) (nI (2 * wt)).toNatClampNeg (M 11 0)))) = hp_51 at hF hf hn hs ⊢
      replace hF : ax_hs hp_51 [cRo m p al M, cRB p 2048 (M 8), cRB (p + 1) 400 (M 10), cRI (p + 2) 2 (M 11), cRI (p + 3) 48 (M 12), cRZ (p + 4) 48 (M 13), cRB (p + 5) 9600 (M 14), cRI (p + 6) 48 (M 15), cRI (p + 7) 48 (M 16), cRI (p + 8) 48 (M 17), cRB (p + 9) 393216 (M 18), cRZ (p + 10) 912 (M 19), (p + 11, .inl (0, 12, .inl (upd (M 27) wt kd))), (p + 12, .inl (0, 12, .inl (upd (M 28) wt a))), (p + 13, .inl (0, 12, .inl (upd (M 29) wt b))), (p + 14, .inl (1, 4800, .inl (rgF (fun i => vp_nar .byte (M 10 i)) (400 * wt) 400 (M 30)))), (p + 15, .inl (0, 24, .inl (upd (M 31) (2 * wt) (M 11 0)))), cRB (p + 16) 24576 (M 32), cRI (p + 17) 12 (M 33), cRI al AL (M 34), cRI (p + 19) 24576 (M 35), cRI (p + 20) 12 (M 36)] := by
        have e := hF
        rw [nI_clamp (show 2 * wt < 2 ^ 31 by omega)] at e
        exact e
      refine ar_aload_n 188 d_180_187 rfl rfl ?_
      refine ar_getf 191 d_180_188 rfl (ci := 11) (k := 31) rfl (hF.at 0 rfl) (show _ = some (.ref (p + 15)) from rfl) ?_
      refine ar_iconst 192 (v := 2) d_180_191 rfl (by decide) ?_
      refine ar_iload 194 d_180_192 rfl rfl ?_
      refine ar_imul 195 d_180_194 rfl ?_
      refine ar_top (x' := nI (2 * wt)) (pk_mul 2 wt) ?_
      refine ar_iconst 196 (v := 1) d_180_195 rfl (by decide) ?_
      refine ar_iadd 197 d_180_196 rfl ?_
      refine ar_top (x' := nI (2 * wt + 1)) (nI_1 _) ?_
      refine ar_aload_n 198 d_180_197 rfl rfl ?_
      refine ar_getf 201 d_180_198 rfl (ci := 11) (k := 11) rfl (hF.at 0 rfl) (show _ = some (.ref (p + 2)) from rfl) ?_
      refine ar_iconst 202 (v := 1) d_180_201 rfl (by decide) ?_
      refine ar_iald 203 d_180_202 rfl (hF.at 3 rfl) (vin (i := 1) (by omega) (by omega)) ?_
      refine ar_top (x' := M 11 1) (by rw [show (1 : Int32).toNatClampNeg = 1 by decide]) ?_
      refine ar_iast 204 d_180_203 rfl (hF.at 16 rfl) (vin (by omega) (by omega)) ?_
      replace hF : ax_hs (ax_put hp_51 (p + 15) (.inl (0, 24, .inl (upd (upd (M 31) (2 * wt) (M 11 0)) (nI (2 * wt + 1)).toNatClampNeg (M 11 1))))) [cRo m p al M, cRB p 2048 (M 8), cRB (p + 1) 400 (M 10), cRI (p + 2) 2 (M 11), cRI (p + 3) 48 (M 12), cRZ (p + 4) 48 (M 13), cRB (p + 5) 9600 (M 14), cRI (p + 6) 48 (M 15), cRI (p + 7) 48 (M 16), cRI (p + 8) 48 (M 17), cRB (p + 9) 393216 (M 18), cRZ (p + 10) 912 (M 19), (p + 11, .inl (0, 12, .inl (upd (M 27) wt kd))), (p + 12, .inl (0, 12, .inl (upd (M 28) wt a))), (p + 13, .inl (0, 12, .inl (upd (M 29) wt b))), (p + 14, .inl (1, 4800, .inl (rgF (fun i => vp_nar .byte (M 10 i)) (400 * wt) 400 (M 30)))), (p + 15, .inl (0, 24, .inl (upd (upd (M 31) (2 * wt) (M 11 0)) (nI (2 * wt + 1)).toNatClampNeg (M 11 1)))), cRB (p + 16) 24576 (M 32), cRI (p + 17) 12 (M 33), cRI al AL (M 34), cRI (p + 19) 24576 (M 35), cRI (p + 20) 12 (M 36)] := hF.put 16 _ rfl rfl
      replace hf := hf.put (a := p + 15) (c := .inl (0, 24, .inl (upd (upd (M 31) (2 * wt) (M 11 0)) (nI (2 * wt + 1)).toNatClampNeg (M 11 1)))) (show m ≤ p + 15 by omega)
      replace hn : (ax_put hp_51 (p + 15) (.inl (0, 24, .inl (upd (upd (M 31) (2 * wt) (M 11 0)) (nI (2 * wt + 1)).toNatClampNeg (M 11 1))))).1 = h0.1 := hn
      replace hs : (ax_put hp_51 (p + 15) (.inl (0, 24, .inl (upd (upd (M 31) (2 * wt) (M 11 0)) (nI (2 * wt + 1)).toNatClampNeg (M 11 1))))).2.1 = h0.2.1 := hs
      generalize ax_put hp_51 (p + 15) (.inl (0, 24, .inl (upd (upd (M 31) (2 * wt) (M 11 0)) (nI (2 * wt + 1)).toNatClampNeg (M 11 1)))) = hp_52 at hF hf hn hs ⊢
      replace hF : ax_hs hp_52 [cRo m p al M, cRB p 2048 (M 8), cRB (p + 1) 400 (M 10), cRI (p + 2) 2 (M 11), cRI (p + 3) 48 (M 12), cRZ (p + 4) 48 (M 13), cRB (p + 5) 9600 (M 14), cRI (p + 6) 48 (M 15), cRI (p + 7) 48 (M 16), cRI (p + 8) 48 (M 17), cRB (p + 9) 393216 (M 18), cRZ (p + 10) 912 (M 19), (p + 11, .inl (0, 12, .inl (upd (M 27) wt kd))), (p + 12, .inl (0, 12, .inl (upd (M 28) wt a))), (p + 13, .inl (0, 12, .inl (upd (M 29) wt b))), (p + 14, .inl (1, 4800, .inl (rgF (fun i => vp_nar .byte (M 10 i)) (400 * wt) 400 (M 30)))), (p + 15, .inl (0, 24, .inl (upd (upd (M 31) (2 * wt) (M 11 0)) (2 * wt + 1) (M 11 1)))), cRB (p + 16) 24576 (M 32), cRI (p + 17) 12 (M 33), cRI al AL (M 34), cRI (p + 19) 24576 (M 35), cRI (p + 20) 12 (M 36)] := by
        have e := hF
        rw [nI_clamp (show 2 * wt + 1 < 2 ^ 31 by omega)] at e
        exact e
      refine ar_iconst 205 (v := 0) d_180_204 rfl (by decide) ?_
      refine ar_istore 207 [(0, .ref m), (1, .int kd), (2, .int a), (3, .int b), (4, .int (nI wt)), (5, .int 0)] d_180_205 rfl (by decide) rfl ?_
      have hS4 : RS m p al AL h0 hp_52 (va_up (va_up (va_up (va_up (va_up (va_up M 27 (upd (M 27) wt kd)) 28 (upd (M 28) wt a)) 29 (upd (M 29) wt b)) 30 (rgF (fun i => vp_nar .byte (M 10 i)) (400 * wt) 400 (M 30))) 31 (upd (upd (M 31) (2 * wt) (M 11 0)) (2 * wt + 1) (M 11 1))) 32 (rgF (fun i => vp_nar .byte (M 8 i)) (2048 * wt) 0 (M 32))) := by
        rw [rgF_0 _ (2048 * wt)]
        exact ⟨hF, hf, hn, hs, hp0⟩
      refine rl2_180 hC0 hw e9 hl (fun h2 hS5 => ?_) l 0 hp_52 (by omega) hS4
      clear hF hf hn hs hp0
      obtain ⟨hF, hf, hn, hs, hp0⟩ := hS5
      replace hF : ax_hs h2 [cRo m p al M, cRB p 2048 (M 8), cRB (p + 1) 400 (M 10), cRI (p + 2) 2 (M 11), cRI (p + 3) 48 (M 12), cRZ (p + 4) 48 (M 13), cRB (p + 5) 9600 (M 14), cRI (p + 6) 48 (M 15), cRI (p + 7) 48 (M 16), cRI (p + 8) 48 (M 17), cRB (p + 9) 393216 (M 18), cRZ (p + 10) 912 (M 19), (p + 11, .inl (0, 12, .inl (upd (M 27) wt kd))), (p + 12, .inl (0, 12, .inl (upd (M 28) wt a))), (p + 13, .inl (0, 12, .inl (upd (M 29) wt b))), (p + 14, .inl (1, 4800, .inl (rgF (fun i => vp_nar .byte (M 10 i)) (400 * wt) 400 (M 30)))), (p + 15, .inl (0, 24, .inl (upd (upd (M 31) (2 * wt) (M 11 0)) (2 * wt + 1) (M 11 1)))), (p + 16, .inl (1, 24576, .inl (rgF (fun i => vp_nar .byte (M 8 i)) (2048 * wt) l (M 32)))), cRI (p + 17) 12 (M 33), cRI al AL (M 34), cRI (p + 19) 24576 (M 35), cRI (p + 20) 12 (M 36)] := hF
      refine ar_aload_n 244 d_180_243 rfl rfl ?_
      refine ar_getf 247 d_180_244 rfl (ci := 11) (k := 33) rfl (hF.at 0 rfl) (show _ = some (.ref (p + 17)) from rfl) ?_
      refine ar_iload 249 d_180_247 rfl rfl ?_
      refine ar_aload_n 250 d_180_249 rfl rfl ?_
      refine ar_getf 253 d_180_250 rfl (ci := 11) (k := 9) rfl (hF.at 0 rfl) (show _ = some (.int ((M 0) 9)) from rfl) ?_
      refine ar_top (x' := nI l) (e9) ?_
      refine ar_iast 254 d_180_253 rfl (hF.at 18 rfl) (vin (by omega) (by omega)) ?_
      replace hF : ax_hs (ax_put h2 (p + 17) (.inl (0, 12, .inl (upd (M 33) (nI wt).toNatClampNeg (nI l))))) [cRo m p al M, cRB p 2048 (M 8), cRB (p + 1) 400 (M 10), cRI (p + 2) 2 (M 11), cRI (p + 3) 48 (M 12), cRZ (p + 4) 48 (M 13), cRB (p + 5) 9600 (M 14), cRI (p + 6) 48 (M 15), cRI (p + 7) 48 (M 16), cRI (p + 8) 48 (M 17), cRB (p + 9) 393216 (M 18), cRZ (p + 10) 912 (M 19), (p + 11, .inl (0, 12, .inl (upd (M 27) wt kd))), (p + 12, .inl (0, 12, .inl (upd (M 28) wt a))), (p + 13, .inl (0, 12, .inl (upd (M 29) wt b))), (p + 14, .inl (1, 4800, .inl (rgF (fun i => vp_nar .byte (M 10 i)) (400 * wt) 400 (M 30)))), (p + 15, .inl (0, 24, .inl (upd (upd (M 31) (2 * wt) (M 11 0)) (2 * wt + 1) (M 11 1)))), (p + 16, .inl (1, 24576, .inl (rgF (fun i => vp_nar .byte (M 8 i)) (2048 * wt) l (M 32)))), (p + 17, .inl (0, 12, .inl (upd (M 33) (nI wt).toNatClampNeg (nI l)))), cRI al AL (M 34), cRI (p + 19) 24576 (M 35), cRI (p + 20) 12 (M 36)] := hF.put 18 _ rfl rfl
      replace hf := hf.put (a := p + 17) (c := .inl (0, 12, .inl (upd (M 33) (nI wt).toNatClampNeg (nI l)))) (show m ≤ p + 17 by omega)
      replace hn : (ax_put h2 (p + 17) (.inl (0, 12, .inl (upd (M 33) (nI wt).toNatClampNeg (nI l))))).1 = h0.1 := hn
      replace hs : (ax_put h2 (p + 17) (.inl (0, 12, .inl (upd (M 33) (nI wt).toNatClampNeg (nI l))))).2.1 = h0.2.1 := hs
      generalize ax_put h2 (p + 17) (.inl (0, 12, .inl (upd (M 33) (nI wt).toNatClampNeg (nI l)))) = hp_81 at hF hf hn hs ⊢
      replace hF : ax_hs hp_81 [cRo m p al M, cRB p 2048 (M 8), cRB (p + 1) 400 (M 10), cRI (p + 2) 2 (M 11), cRI (p + 3) 48 (M 12), cRZ (p + 4) 48 (M 13), cRB (p + 5) 9600 (M 14), cRI (p + 6) 48 (M 15), cRI (p + 7) 48 (M 16), cRI (p + 8) 48 (M 17), cRB (p + 9) 393216 (M 18), cRZ (p + 10) 912 (M 19), (p + 11, .inl (0, 12, .inl (upd (M 27) wt kd))), (p + 12, .inl (0, 12, .inl (upd (M 28) wt a))), (p + 13, .inl (0, 12, .inl (upd (M 29) wt b))), (p + 14, .inl (1, 4800, .inl (rgF (fun i => vp_nar .byte (M 10 i)) (400 * wt) 400 (M 30)))), (p + 15, .inl (0, 24, .inl (upd (upd (M 31) (2 * wt) (M 11 0)) (2 * wt + 1) (M 11 1)))), (p + 16, .inl (1, 24576, .inl (rgF (fun i => vp_nar .byte (M 8 i)) (2048 * wt) l (M 32)))), (p + 17, .inl (0, 12, .inl (upd (M 33) wt (nI l)))), cRI al AL (M 34), cRI (p + 19) 24576 (M 35), cRI (p + 20) 12 (M 36)] := by
        have e := hF
        rw [nI_clamp (show wt < 2 ^ 31 by omega)] at e
        exact e
      refine ar_iload_n 255 d_180_254 rfl rfl ?_
      refine ar_iconst 256 (v := 1) d_180_255 rfl (by decide) ?_
      refine ar_icmp_eq 264 259 d_180_256 (by decide) rfl (fun c2 => ?_) (fun c2 => ?_)
      · refine ar_aload_n 265 d_180_264 rfl rfl ?_
        refine ar_iconst 266 (v := 0) d_180_265 rfl (by decide) ?_
        refine ar_putf 269 (RV p al (upd (M 0) 9 0)) d_180_266 rfl (ci := 11) (k := 9) rfl rfl (hF.at 0 rfl) (Nat.le_of_ble_eq_true rfl) rfl rfl rfl ?_
        replace hF : ax_hs (ax_put hp_81 m (.inr (11, RV p al (upd (M 0) 9 0)))) [(m, .inr (11, RV p al (upd (M 0) 9 0))), cRB p 2048 (M 8), cRB (p + 1) 400 (M 10), cRI (p + 2) 2 (M 11), cRI (p + 3) 48 (M 12), cRZ (p + 4) 48 (M 13), cRB (p + 5) 9600 (M 14), cRI (p + 6) 48 (M 15), cRI (p + 7) 48 (M 16), cRI (p + 8) 48 (M 17), cRB (p + 9) 393216 (M 18), cRZ (p + 10) 912 (M 19), (p + 11, .inl (0, 12, .inl (upd (M 27) wt kd))), (p + 12, .inl (0, 12, .inl (upd (M 28) wt a))), (p + 13, .inl (0, 12, .inl (upd (M 29) wt b))), (p + 14, .inl (1, 4800, .inl (rgF (fun i => vp_nar .byte (M 10 i)) (400 * wt) 400 (M 30)))), (p + 15, .inl (0, 24, .inl (upd (upd (M 31) (2 * wt) (M 11 0)) (2 * wt + 1) (M 11 1)))), (p + 16, .inl (1, 24576, .inl (rgF (fun i => vp_nar .byte (M 8 i)) (2048 * wt) l (M 32)))), (p + 17, .inl (0, 12, .inl (upd (M 33) wt (nI l)))), cRI al AL (M 34), cRI (p + 19) 24576 (M 35), cRI (p + 20) 12 (M 36)] := hF.put 0 _ rfl rfl
        replace hf := hf.put (a := m) (c := .inr (11, RV p al (upd (M 0) 9 0))) (show m ≤ m by omega)
        replace hn : (ax_put hp_81 m (.inr (11, RV p al (upd (M 0) 9 0)))).1 = h0.1 := hn
        replace hs : (ax_put hp_81 m (.inr (11, RV p al (upd (M 0) 9 0)))).2.1 = h0.2.1 := hs
        generalize ax_put hp_81 m (.inr (11, RV p al (upd (M 0) 9 0))) = hp_82 at hF hf hn hs ⊢
        refine ar_aload_n 270 d_180_269 rfl rfl ?_
        refine ar_dup 271 d_180_270 rfl rfl ?_
        refine ar_getf 274 d_180_271 rfl (ci := 11) (k := 26) rfl (hF.at 0 rfl) (show _ = some (.int ((M 0) 26)) from rfl) ?_
        refine ar_top (x' := nI wt) (e26) ?_
        refine ar_iconst 275 (v := 1) d_180_274 rfl (by decide) ?_
        refine ar_iadd 276 d_180_275 rfl ?_
        refine ar_top (x' := nI (wt + 1)) (nI_1 wt) ?_
        refine ar_putf 279 (RV p al (upd (upd (M 0) 9 0) 26 (nI (wt + 1)))) d_180_276 rfl (ci := 11) (k := 26) rfl rfl (hF.at 0 rfl) (Nat.le_of_ble_eq_true rfl) rfl rfl rfl ?_
        replace hF : ax_hs (ax_put hp_82 m (.inr (11, RV p al (upd (upd (M 0) 9 0) 26 (nI (wt + 1)))))) [(m, .inr (11, RV p al (upd (upd (M 0) 9 0) 26 (nI (wt + 1))))), cRB p 2048 (M 8), cRB (p + 1) 400 (M 10), cRI (p + 2) 2 (M 11), cRI (p + 3) 48 (M 12), cRZ (p + 4) 48 (M 13), cRB (p + 5) 9600 (M 14), cRI (p + 6) 48 (M 15), cRI (p + 7) 48 (M 16), cRI (p + 8) 48 (M 17), cRB (p + 9) 393216 (M 18), cRZ (p + 10) 912 (M 19), (p + 11, .inl (0, 12, .inl (upd (M 27) wt kd))), (p + 12, .inl (0, 12, .inl (upd (M 28) wt a))), (p + 13, .inl (0, 12, .inl (upd (M 29) wt b))), (p + 14, .inl (1, 4800, .inl (rgF (fun i => vp_nar .byte (M 10 i)) (400 * wt) 400 (M 30)))), (p + 15, .inl (0, 24, .inl (upd (upd (M 31) (2 * wt) (M 11 0)) (2 * wt + 1) (M 11 1)))), (p + 16, .inl (1, 24576, .inl (rgF (fun i => vp_nar .byte (M 8 i)) (2048 * wt) l (M 32)))), (p + 17, .inl (0, 12, .inl (upd (M 33) wt (nI l)))), cRI al AL (M 34), cRI (p + 19) 24576 (M 35), cRI (p + 20) 12 (M 36)] := hF.put 0 _ rfl rfl
        replace hf := hf.put (a := m) (c := .inr (11, RV p al (upd (upd (M 0) 9 0) 26 (nI (wt + 1))))) (show m ≤ m by omega)
        replace hn : (ax_put hp_82 m (.inr (11, RV p al (upd (upd (M 0) 9 0) 26 (nI (wt + 1)))))).1 = h0.1 := hn
        replace hs : (ax_put hp_82 m (.inr (11, RV p al (upd (upd (M 0) 9 0) 26 (nI (wt + 1)))))).2.1 = h0.2.1 := hs
        generalize ax_put hp_82 m (.inr (11, RV p al (upd (upd (M 0) 9 0) 26 (nI (wt + 1))))) = hp_83 at hF hf hn hs ⊢
        refine ar_aload_n 280 d_180_279 rfl rfl ?_
        refine ar_dup 281 d_180_280 rfl rfl ?_
        refine ar_getf 284 d_180_281 rfl (ci := 11) (k := 25) rfl (hF.at 0 rfl) (show _ = some (.int ((M 0) 25)) from rfl) ?_
        refine ar_top (x' := nI op) (e25) ?_
        refine ar_iconst 285 (v := 1) d_180_284 rfl (by decide) ?_
        refine ar_iadd 286 d_180_285 rfl ?_
        refine ar_top (x' := nI (op + 1)) (nI_1 op) ?_
        refine ar_putf 289 (RV p al (upd (upd (upd (M 0) 9 0) 26 (nI (wt + 1))) 25 (nI (op + 1)))) d_180_286 rfl (ci := 11) (k := 25) rfl rfl (hF.at 0 rfl) (Nat.le_of_ble_eq_true rfl) rfl rfl rfl ?_
        replace hF : ax_hs (ax_put hp_83 m (.inr (11, RV p al (upd (upd (upd (M 0) 9 0) 26 (nI (wt + 1))) 25 (nI (op + 1)))))) [(m, .inr (11, RV p al (upd (upd (upd (M 0) 9 0) 26 (nI (wt + 1))) 25 (nI (op + 1))))), cRB p 2048 (M 8), cRB (p + 1) 400 (M 10), cRI (p + 2) 2 (M 11), cRI (p + 3) 48 (M 12), cRZ (p + 4) 48 (M 13), cRB (p + 5) 9600 (M 14), cRI (p + 6) 48 (M 15), cRI (p + 7) 48 (M 16), cRI (p + 8) 48 (M 17), cRB (p + 9) 393216 (M 18), cRZ (p + 10) 912 (M 19), (p + 11, .inl (0, 12, .inl (upd (M 27) wt kd))), (p + 12, .inl (0, 12, .inl (upd (M 28) wt a))), (p + 13, .inl (0, 12, .inl (upd (M 29) wt b))), (p + 14, .inl (1, 4800, .inl (rgF (fun i => vp_nar .byte (M 10 i)) (400 * wt) 400 (M 30)))), (p + 15, .inl (0, 24, .inl (upd (upd (M 31) (2 * wt) (M 11 0)) (2 * wt + 1) (M 11 1)))), (p + 16, .inl (1, 24576, .inl (rgF (fun i => vp_nar .byte (M 8 i)) (2048 * wt) l (M 32)))), (p + 17, .inl (0, 12, .inl (upd (M 33) wt (nI l)))), cRI al AL (M 34), cRI (p + 19) 24576 (M 35), cRI (p + 20) 12 (M 36)] := hF.put 0 _ rfl rfl
        replace hf := hf.put (a := m) (c := .inr (11, RV p al (upd (upd (upd (M 0) 9 0) 26 (nI (wt + 1))) 25 (nI (op + 1))))) (show m ≤ m by omega)
        replace hn : (ax_put hp_83 m (.inr (11, RV p al (upd (upd (upd (M 0) 9 0) 26 (nI (wt + 1))) 25 (nI (op + 1)))))).1 = h0.1 := hn
        replace hs : (ax_put hp_83 m (.inr (11, RV p al (upd (upd (upd (M 0) 9 0) 26 (nI (wt + 1))) 25 (nI (op + 1)))))).2.1 = h0.2.1 := hs
        generalize ax_put hp_83 m (.inr (11, RV p al (upd (upd (upd (M 0) 9 0) 26 (nI (wt + 1))) 25 (nI (op + 1))))) = hp_84 at hF hf hn hs ⊢
        refine ar_aload_n 290 d_180_289 rfl rfl ?_
        refine ar_iconst 291 (v := 0) d_180_290 rfl (by decide) ?_
        refine ar_putf 294 (RV p al (upd (upd (upd (upd (M 0) 9 0) 26 (nI (wt + 1))) 25 (nI (op + 1))) 7 0)) d_180_291 rfl (ci := 11) (k := 7) rfl rfl (hF.at 0 rfl) (Nat.le_of_ble_eq_true rfl) rfl rfl rfl ?_
        replace hF : ax_hs (ax_put hp_84 m (.inr (11, RV p al (upd (upd (upd (upd (M 0) 9 0) 26 (nI (wt + 1))) 25 (nI (op + 1))) 7 0)))) [(m, .inr (11, RV p al (upd (upd (upd (upd (M 0) 9 0) 26 (nI (wt + 1))) 25 (nI (op + 1))) 7 0))), cRB p 2048 (M 8), cRB (p + 1) 400 (M 10), cRI (p + 2) 2 (M 11), cRI (p + 3) 48 (M 12), cRZ (p + 4) 48 (M 13), cRB (p + 5) 9600 (M 14), cRI (p + 6) 48 (M 15), cRI (p + 7) 48 (M 16), cRI (p + 8) 48 (M 17), cRB (p + 9) 393216 (M 18), cRZ (p + 10) 912 (M 19), (p + 11, .inl (0, 12, .inl (upd (M 27) wt kd))), (p + 12, .inl (0, 12, .inl (upd (M 28) wt a))), (p + 13, .inl (0, 12, .inl (upd (M 29) wt b))), (p + 14, .inl (1, 4800, .inl (rgF (fun i => vp_nar .byte (M 10 i)) (400 * wt) 400 (M 30)))), (p + 15, .inl (0, 24, .inl (upd (upd (M 31) (2 * wt) (M 11 0)) (2 * wt + 1) (M 11 1)))), (p + 16, .inl (1, 24576, .inl (rgF (fun i => vp_nar .byte (M 8 i)) (2048 * wt) l (M 32)))), (p + 17, .inl (0, 12, .inl (upd (M 33) wt (nI l)))), cRI al AL (M 34), cRI (p + 19) 24576 (M 35), cRI (p + 20) 12 (M 36)] := hF.put 0 _ rfl rfl
        replace hf := hf.put (a := m) (c := .inr (11, RV p al (upd (upd (upd (upd (M 0) 9 0) 26 (nI (wt + 1))) 25 (nI (op + 1))) 7 0))) (show m ≤ m by omega)
        replace hn : (ax_put hp_84 m (.inr (11, RV p al (upd (upd (upd (upd (M 0) 9 0) 26 (nI (wt + 1))) 25 (nI (op + 1))) 7 0)))).1 = h0.1 := hn
        replace hs : (ax_put hp_84 m (.inr (11, RV p al (upd (upd (upd (upd (M 0) 9 0) 26 (nI (wt + 1))) 25 (nI (op + 1))) 7 0)))).2.1 = h0.2.1 := hs
        generalize ax_put hp_84 m (.inr (11, RV p al (upd (upd (upd (upd (M 0) 9 0) 26 (nI (wt + 1))) 25 (nI (op + 1))) 7 0))) = hp_85 at hF hf hn hs ⊢
        refine ar_aload_n 295 d_180_294 rfl rfl ?_
        refine ar_getf 298 d_180_295 rfl (ci := 11) (k := 25) rfl (hF.at 0 rfl) (show _ = some (.int (nI (op + 1))) from rfl) ?_
        refine ar_top (x' := nI (op + 1)) (rfl) ?_
        refine ar_iconst 299 (v := 1) d_180_298 rfl (by decide) ?_
        refine ar_isub 300 d_180_299 rfl ?_
        refine ar_top (x' := nI op) (nI_s1 op) ?_
        have hS7 : RS m p al AL h0 hp_85 (va_up (va_up (va_up (va_up (va_up (va_up (va_up (va_up M 0 (upd (upd (upd (upd (M 0) 9 0) 26 (nI (wt + 1))) 25 (nI (op + 1))) 7 0)) 27 (upd (M 27) wt kd)) 28 (upd (M 28) wt a)) 29 (upd (M 29) wt b)) 30 (rgF (fun i => vp_nar .byte (M 10 i)) (400 * wt) 400 (M 30))) 31 (upd (upd (M 31) (2 * wt) (M 11 0)) (2 * wt + 1) (M 11 1))) 32 (rgF (fun i => vp_nar .byte (M 8 i)) (2048 * wt) l (M 32))) 33 (upd (M 33) wt (nI l))) := ⟨hF, hf, hn, hs, hp0⟩
        have eM : va_up (va_up (va_up (va_up (va_up (va_up (va_up (va_up M 0 (upd (upd (upd (upd (M 0) 9 0) 26 (nI (wt + 1))) 25 (nI (op + 1))) 7 0)) 27 (upd (M 27) wt kd)) 28 (upd (M 28) wt a)) 29 (upd (M 29) wt b)) 30 (rgF (fun i => vp_nar .byte (M 10 i)) (400 * wt) 400 (M 30))) 31 (upd (upd (M 31) (2 * wt) (M 11 0)) (2 * wt + 1) (M 11 1))) 32 (rgF (fun i => vp_nar .byte (M 8 i)) (2048 * wt) l (M 32))) 33 (upd (M 33) wt (nI l)) = bgM M wt op l kd a b := by
          unfold bgM
          rw [if_pos (Or.inl c2)]
        rw [eM] at hS7
        exact ar_iret d_180_300 rfl rfl (Or.inr (Or.inr ⟨hma, Nat.ne_of_lt hw, rfl, hS7⟩))
      · refine ar_iload_n 260 d_180_259 rfl rfl ?_
        refine ar_iconst 261 (v := 2) d_180_260 rfl (by decide) ?_
        refine ar_icmp_ne 269 264 d_180_261 (by decide) rfl (fun c3 => ?_) (fun c3 => ?_)
        · refine ar_aload_n 270 d_180_269 rfl rfl ?_
          refine ar_dup 271 d_180_270 rfl rfl ?_
          refine ar_getf 274 d_180_271 rfl (ci := 11) (k := 26) rfl (hF.at 0 rfl) (show _ = some (.int ((M 0) 26)) from rfl) ?_
          refine ar_top (x' := nI wt) (e26) ?_
          refine ar_iconst 275 (v := 1) d_180_274 rfl (by decide) ?_
          refine ar_iadd 276 d_180_275 rfl ?_
          refine ar_top (x' := nI (wt + 1)) (nI_1 wt) ?_
          refine ar_putf 279 (RV p al (upd (M 0) 26 (nI (wt + 1)))) d_180_276 rfl (ci := 11) (k := 26) rfl rfl (hF.at 0 rfl) (Nat.le_of_ble_eq_true rfl) rfl rfl rfl ?_
          replace hF : ax_hs (ax_put hp_81 m (.inr (11, RV p al (upd (M 0) 26 (nI (wt + 1)))))) [(m, .inr (11, RV p al (upd (M 0) 26 (nI (wt + 1))))), cRB p 2048 (M 8), cRB (p + 1) 400 (M 10), cRI (p + 2) 2 (M 11), cRI (p + 3) 48 (M 12), cRZ (p + 4) 48 (M 13), cRB (p + 5) 9600 (M 14), cRI (p + 6) 48 (M 15), cRI (p + 7) 48 (M 16), cRI (p + 8) 48 (M 17), cRB (p + 9) 393216 (M 18), cRZ (p + 10) 912 (M 19), (p + 11, .inl (0, 12, .inl (upd (M 27) wt kd))), (p + 12, .inl (0, 12, .inl (upd (M 28) wt a))), (p + 13, .inl (0, 12, .inl (upd (M 29) wt b))), (p + 14, .inl (1, 4800, .inl (rgF (fun i => vp_nar .byte (M 10 i)) (400 * wt) 400 (M 30)))), (p + 15, .inl (0, 24, .inl (upd (upd (M 31) (2 * wt) (M 11 0)) (2 * wt + 1) (M 11 1)))), (p + 16, .inl (1, 24576, .inl (rgF (fun i => vp_nar .byte (M 8 i)) (2048 * wt) l (M 32)))), (p + 17, .inl (0, 12, .inl (upd (M 33) wt (nI l)))), cRI al AL (M 34), cRI (p + 19) 24576 (M 35), cRI (p + 20) 12 (M 36)] := hF.put 0 _ rfl rfl
          replace hf := hf.put (a := m) (c := .inr (11, RV p al (upd (M 0) 26 (nI (wt + 1))))) (show m ≤ m by omega)
          replace hn : (ax_put hp_81 m (.inr (11, RV p al (upd (M 0) 26 (nI (wt + 1)))))).1 = h0.1 := hn
          replace hs : (ax_put hp_81 m (.inr (11, RV p al (upd (M 0) 26 (nI (wt + 1)))))).2.1 = h0.2.1 := hs
          generalize ax_put hp_81 m (.inr (11, RV p al (upd (M 0) 26 (nI (wt + 1))))) = hp_86 at hF hf hn hs ⊢
          refine ar_aload_n 280 d_180_279 rfl rfl ?_
          refine ar_dup 281 d_180_280 rfl rfl ?_
          refine ar_getf 284 d_180_281 rfl (ci := 11) (k := 25) rfl (hF.at 0 rfl) (show _ = some (.int ((M 0) 25)) from rfl) ?_
          refine ar_top (x' := nI op) (e25) ?_
          refine ar_iconst 285 (v := 1) d_180_284 rfl (by decide) ?_
          refine ar_iadd 286 d_180_285 rfl ?_
          refine ar_top (x' := nI (op + 1)) (nI_1 op) ?_
          refine ar_putf 289 (RV p al (upd (upd (M 0) 26 (nI (wt + 1))) 25 (nI (op + 1)))) d_180_286 rfl (ci := 11) (k := 25) rfl rfl (hF.at 0 rfl) (Nat.le_of_ble_eq_true rfl) rfl rfl rfl ?_
          replace hF : ax_hs (ax_put hp_86 m (.inr (11, RV p al (upd (upd (M 0) 26 (nI (wt + 1))) 25 (nI (op + 1)))))) [(m, .inr (11, RV p al (upd (upd (M 0) 26 (nI (wt + 1))) 25 (nI (op + 1))))), cRB p 2048 (M 8), cRB (p + 1) 400 (M 10), cRI (p + 2) 2 (M 11), cRI (p + 3) 48 (M 12), cRZ (p + 4) 48 (M 13), cRB (p + 5) 9600 (M 14), cRI (p + 6) 48 (M 15), cRI (p + 7) 48 (M 16), cRI (p + 8) 48 (M 17), cRB (p + 9) 393216 (M 18), cRZ (p + 10) 912 (M 19), (p + 11, .inl (0, 12, .inl (upd (M 27) wt kd))), (p + 12, .inl (0, 12, .inl (upd (M 28) wt a))), (p + 13, .inl (0, 12, .inl (upd (M 29) wt b))), (p + 14, .inl (1, 4800, .inl (rgF (fun i => vp_nar .byte (M 10 i)) (400 * wt) 400 (M 30)))), (p + 15, .inl (0, 24, .inl (upd (upd (M 31) (2 * wt) (M 11 0)) (2 * wt + 1) (M 11 1)))), (p + 16, .inl (1, 24576, .inl (rgF (fun i => vp_nar .byte (M 8 i)) (2048 * wt) l (M 32)))), (p + 17, .inl (0, 12, .inl (upd (M 33) wt (nI l)))), cRI al AL (M 34), cRI (p + 19) 24576 (M 35), cRI (p + 20) 12 (M 36)] := hF.put 0 _ rfl rfl
          replace hf := hf.put (a := m) (c := .inr (11, RV p al (upd (upd (M 0) 26 (nI (wt + 1))) 25 (nI (op + 1))))) (show m ≤ m by omega)
          replace hn : (ax_put hp_86 m (.inr (11, RV p al (upd (upd (M 0) 26 (nI (wt + 1))) 25 (nI (op + 1)))))).1 = h0.1 := hn
          replace hs : (ax_put hp_86 m (.inr (11, RV p al (upd (upd (M 0) 26 (nI (wt + 1))) 25 (nI (op + 1)))))).2.1 = h0.2.1 := hs
          generalize ax_put hp_86 m (.inr (11, RV p al (upd (upd (M 0) 26 (nI (wt + 1))) 25 (nI (op + 1))))) = hp_87 at hF hf hn hs ⊢
          refine ar_aload_n 290 d_180_289 rfl rfl ?_
          refine ar_iconst 291 (v := 0) d_180_290 rfl (by decide) ?_
          refine ar_putf 294 (RV p al (upd (upd (upd (M 0) 26 (nI (wt + 1))) 25 (nI (op + 1))) 7 0)) d_180_291 rfl (ci := 11) (k := 7) rfl rfl (hF.at 0 rfl) (Nat.le_of_ble_eq_true rfl) rfl rfl rfl ?_
          replace hF : ax_hs (ax_put hp_87 m (.inr (11, RV p al (upd (upd (upd (M 0) 26 (nI (wt + 1))) 25 (nI (op + 1))) 7 0)))) [(m, .inr (11, RV p al (upd (upd (upd (M 0) 26 (nI (wt + 1))) 25 (nI (op + 1))) 7 0))), cRB p 2048 (M 8), cRB (p + 1) 400 (M 10), cRI (p + 2) 2 (M 11), cRI (p + 3) 48 (M 12), cRZ (p + 4) 48 (M 13), cRB (p + 5) 9600 (M 14), cRI (p + 6) 48 (M 15), cRI (p + 7) 48 (M 16), cRI (p + 8) 48 (M 17), cRB (p + 9) 393216 (M 18), cRZ (p + 10) 912 (M 19), (p + 11, .inl (0, 12, .inl (upd (M 27) wt kd))), (p + 12, .inl (0, 12, .inl (upd (M 28) wt a))), (p + 13, .inl (0, 12, .inl (upd (M 29) wt b))), (p + 14, .inl (1, 4800, .inl (rgF (fun i => vp_nar .byte (M 10 i)) (400 * wt) 400 (M 30)))), (p + 15, .inl (0, 24, .inl (upd (upd (M 31) (2 * wt) (M 11 0)) (2 * wt + 1) (M 11 1)))), (p + 16, .inl (1, 24576, .inl (rgF (fun i => vp_nar .byte (M 8 i)) (2048 * wt) l (M 32)))), (p + 17, .inl (0, 12, .inl (upd (M 33) wt (nI l)))), cRI al AL (M 34), cRI (p + 19) 24576 (M 35), cRI (p + 20) 12 (M 36)] := hF.put 0 _ rfl rfl
          replace hf := hf.put (a := m) (c := .inr (11, RV p al (upd (upd (upd (M 0) 26 (nI (wt + 1))) 25 (nI (op + 1))) 7 0))) (show m ≤ m by omega)
          replace hn : (ax_put hp_87 m (.inr (11, RV p al (upd (upd (upd (M 0) 26 (nI (wt + 1))) 25 (nI (op + 1))) 7 0)))).1 = h0.1 := hn
          replace hs : (ax_put hp_87 m (.inr (11, RV p al (upd (upd (upd (M 0) 26 (nI (wt + 1))) 25 (nI (op + 1))) 7 0)))).2.1 = h0.2.1 := hs
          generalize ax_put hp_87 m (.inr (11, RV p al (upd (upd (upd (M 0) 26 (nI (wt + 1))) 25 (nI (op + 1))) 7 0))) = hp_88 at hF hf hn hs ⊢
          refine ar_aload_n 295 d_180_294 rfl rfl ?_
          refine ar_getf 298 d_180_295 rfl (ci := 11) (k := 25) rfl (hF.at 0 rfl) (show _ = some (.int (nI (op + 1))) from rfl) ?_
          refine ar_top (x' := nI (op + 1)) (rfl) ?_
          refine ar_iconst 299 (v := 1) d_180_298 rfl (by decide) ?_
          refine ar_isub 300 d_180_299 rfl ?_
          refine ar_top (x' := nI op) (nI_s1 op) ?_
          have hS7 : RS m p al AL h0 hp_88 (va_up (va_up (va_up (va_up (va_up (va_up (va_up (va_up M 0 (upd (upd (upd (M 0) 26 (nI (wt + 1))) 25 (nI (op + 1))) 7 0)) 27 (upd (M 27) wt kd)) 28 (upd (M 28) wt a)) 29 (upd (M 29) wt b)) 30 (rgF (fun i => vp_nar .byte (M 10 i)) (400 * wt) 400 (M 30))) 31 (upd (upd (M 31) (2 * wt) (M 11 0)) (2 * wt + 1) (M 11 1))) 32 (rgF (fun i => vp_nar .byte (M 8 i)) (2048 * wt) l (M 32))) 33 (upd (M 33) wt (nI l))) := ⟨hF, hf, hn, hs, hp0⟩
          have eM : va_up (va_up (va_up (va_up (va_up (va_up (va_up (va_up M 0 (upd (upd (upd (M 0) 26 (nI (wt + 1))) 25 (nI (op + 1))) 7 0)) 27 (upd (M 27) wt kd)) 28 (upd (M 28) wt a)) 29 (upd (M 29) wt b)) 30 (rgF (fun i => vp_nar .byte (M 10 i)) (400 * wt) 400 (M 30))) 31 (upd (upd (M 31) (2 * wt) (M 11 0)) (2 * wt + 1) (M 11 1))) 32 (rgF (fun i => vp_nar .byte (M 8 i)) (2048 * wt) l (M 32))) 33 (upd (M 33) wt (nI l)) = bgM M wt op l kd a b := by
            unfold bgM
            rw [if_neg (fun z => z.elim c2 c3)]
          rw [eM] at hS7
          exact ar_iret d_180_300 rfl rfl (Or.inr (Or.inr ⟨hma, Nat.ne_of_lt hw, rfl, hS7⟩))
        · refine ar_aload_n 265 d_180_264 rfl rfl ?_
          refine ar_iconst 266 (v := 0) d_180_265 rfl (by decide) ?_
          refine ar_putf 269 (RV p al (upd (M 0) 9 0)) d_180_266 rfl (ci := 11) (k := 9) rfl rfl (hF.at 0 rfl) (Nat.le_of_ble_eq_true rfl) rfl rfl rfl ?_
          replace hF : ax_hs (ax_put hp_81 m (.inr (11, RV p al (upd (M 0) 9 0)))) [(m, .inr (11, RV p al (upd (M 0) 9 0))), cRB p 2048 (M 8), cRB (p + 1) 400 (M 10), cRI (p + 2) 2 (M 11), cRI (p + 3) 48 (M 12), cRZ (p + 4) 48 (M 13), cRB (p + 5) 9600 (M 14), cRI (p + 6) 48 (M 15), cRI (p + 7) 48 (M 16), cRI (p + 8) 48 (M 17), cRB (p + 9) 393216 (M 18), cRZ (p + 10) 912 (M 19), (p + 11, .inl (0, 12, .inl (upd (M 27) wt kd))), (p + 12, .inl (0, 12, .inl (upd (M 28) wt a))), (p + 13, .inl (0, 12, .inl (upd (M 29) wt b))), (p + 14, .inl (1, 4800, .inl (rgF (fun i => vp_nar .byte (M 10 i)) (400 * wt) 400 (M 30)))), (p + 15, .inl (0, 24, .inl (upd (upd (M 31) (2 * wt) (M 11 0)) (2 * wt + 1) (M 11 1)))), (p + 16, .inl (1, 24576, .inl (rgF (fun i => vp_nar .byte (M 8 i)) (2048 * wt) l (M 32)))), (p + 17, .inl (0, 12, .inl (upd (M 33) wt (nI l)))), cRI al AL (M 34), cRI (p + 19) 24576 (M 35), cRI (p + 20) 12 (M 36)] := hF.put 0 _ rfl rfl
          replace hf := hf.put (a := m) (c := .inr (11, RV p al (upd (M 0) 9 0))) (show m ≤ m by omega)
          replace hn : (ax_put hp_81 m (.inr (11, RV p al (upd (M 0) 9 0)))).1 = h0.1 := hn
          replace hs : (ax_put hp_81 m (.inr (11, RV p al (upd (M 0) 9 0)))).2.1 = h0.2.1 := hs
          generalize ax_put hp_81 m (.inr (11, RV p al (upd (M 0) 9 0))) = hp_89 at hF hf hn hs ⊢
          refine ar_aload_n 270 d_180_269 rfl rfl ?_
          refine ar_dup 271 d_180_270 rfl rfl ?_
          refine ar_getf 274 d_180_271 rfl (ci := 11) (k := 26) rfl (hF.at 0 rfl) (show _ = some (.int ((M 0) 26)) from rfl) ?_
          refine ar_top (x' := nI wt) (e26) ?_
          refine ar_iconst 275 (v := 1) d_180_274 rfl (by decide) ?_
          refine ar_iadd 276 d_180_275 rfl ?_
          refine ar_top (x' := nI (wt + 1)) (nI_1 wt) ?_
          refine ar_putf 279 (RV p al (upd (upd (M 0) 9 0) 26 (nI (wt + 1)))) d_180_276 rfl (ci := 11) (k := 26) rfl rfl (hF.at 0 rfl) (Nat.le_of_ble_eq_true rfl) rfl rfl rfl ?_
          replace hF : ax_hs (ax_put hp_89 m (.inr (11, RV p al (upd (upd (M 0) 9 0) 26 (nI (wt + 1)))))) [(m, .inr (11, RV p al (upd (upd (M 0) 9 0) 26 (nI (wt + 1))))), cRB p 2048 (M 8), cRB (p + 1) 400 (M 10), cRI (p + 2) 2 (M 11), cRI (p + 3) 48 (M 12), cRZ (p + 4) 48 (M 13), cRB (p + 5) 9600 (M 14), cRI (p + 6) 48 (M 15), cRI (p + 7) 48 (M 16), cRI (p + 8) 48 (M 17), cRB (p + 9) 393216 (M 18), cRZ (p + 10) 912 (M 19), (p + 11, .inl (0, 12, .inl (upd (M 27) wt kd))), (p + 12, .inl (0, 12, .inl (upd (M 28) wt a))), (p + 13, .inl (0, 12, .inl (upd (M 29) wt b))), (p + 14, .inl (1, 4800, .inl (rgF (fun i => vp_nar .byte (M 10 i)) (400 * wt) 400 (M 30)))), (p + 15, .inl (0, 24, .inl (upd (upd (M 31) (2 * wt) (M 11 0)) (2 * wt + 1) (M 11 1)))), (p + 16, .inl (1, 24576, .inl (rgF (fun i => vp_nar .byte (M 8 i)) (2048 * wt) l (M 32)))), (p + 17, .inl (0, 12, .inl (upd (M 33) wt (nI l)))), cRI al AL (M 34), cRI (p + 19) 24576 (M 35), cRI (p + 20) 12 (M 36)] := hF.put 0 _ rfl rfl
          replace hf := hf.put (a := m) (c := .inr (11, RV p al (upd (upd (M 0) 9 0) 26 (nI (wt + 1))))) (show m ≤ m by omega)
          replace hn : (ax_put hp_89 m (.inr (11, RV p al (upd (upd (M 0) 9 0) 26 (nI (wt + 1)))))).1 = h0.1 := hn
          replace hs : (ax_put hp_89 m (.inr (11, RV p al (upd (upd (M 0) 9 0) 26 (nI (wt + 1)))))).2.1 = h0.2.1 := hs
          generalize ax_put hp_89 m (.inr (11, RV p al (upd (upd (M 0) 9 0) 26 (nI (wt + 1))))) = hp_90 at hF hf hn hs ⊢
          refine ar_aload_n 280 d_180_279 rfl rfl ?_
          refine ar_dup 281 d_180_280 rfl rfl ?_
          refine ar_getf 284 d_180_281 rfl (ci := 11) (k := 25) rfl (hF.at 0 rfl) (show _ = some (.int ((M 0) 25)) from rfl) ?_
          refine ar_top (x' := nI op) (e25) ?_
          refine ar_iconst 285 (v := 1) d_180_284 rfl (by decide) ?_
          refine ar_iadd 286 d_180_285 rfl ?_
          refine ar_top (x' := nI (op + 1)) (nI_1 op) ?_
          refine ar_putf 289 (RV p al (upd (upd (upd (M 0) 9 0) 26 (nI (wt + 1))) 25 (nI (op + 1)))) d_180_286 rfl (ci := 11) (k := 25) rfl rfl (hF.at 0 rfl) (Nat.le_of_ble_eq_true rfl) rfl rfl rfl ?_
          replace hF : ax_hs (ax_put hp_90 m (.inr (11, RV p al (upd (upd (upd (M 0) 9 0) 26 (nI (wt + 1))) 25 (nI (op + 1)))))) [(m, .inr (11, RV p al (upd (upd (upd (M 0) 9 0) 26 (nI (wt + 1))) 25 (nI (op + 1))))), cRB p 2048 (M 8), cRB (p + 1) 400 (M 10), cRI (p + 2) 2 (M 11), cRI (p + 3) 48 (M 12), cRZ (p + 4) 48 (M 13), cRB (p + 5) 9600 (M 14), cRI (p + 6) 48 (M 15), cRI (p + 7) 48 (M 16), cRI (p + 8) 48 (M 17), cRB (p + 9) 393216 (M 18), cRZ (p + 10) 912 (M 19), (p + 11, .inl (0, 12, .inl (upd (M 27) wt kd))), (p + 12, .inl (0, 12, .inl (upd (M 28) wt a))), (p + 13, .inl (0, 12, .inl (upd (M 29) wt b))), (p + 14, .inl (1, 4800, .inl (rgF (fun i => vp_nar .byte (M 10 i)) (400 * wt) 400 (M 30)))), (p + 15, .inl (0, 24, .inl (upd (upd (M 31) (2 * wt) (M 11 0)) (2 * wt + 1) (M 11 1)))), (p + 16, .inl (1, 24576, .inl (rgF (fun i => vp_nar .byte (M 8 i)) (2048 * wt) l (M 32)))), (p + 17, .inl (0, 12, .inl (upd (M 33) wt (nI l)))), cRI al AL (M 34), cRI (p + 19) 24576 (M 35), cRI (p + 20) 12 (M 36)] := hF.put 0 _ rfl rfl
          replace hf := hf.put (a := m) (c := .inr (11, RV p al (upd (upd (upd (M 0) 9 0) 26 (nI (wt + 1))) 25 (nI (op + 1))))) (show m ≤ m by omega)
          replace hn : (ax_put hp_90 m (.inr (11, RV p al (upd (upd (upd (M 0) 9 0) 26 (nI (wt + 1))) 25 (nI (op + 1)))))).1 = h0.1 := hn
          replace hs : (ax_put hp_90 m (.inr (11, RV p al (upd (upd (upd (M 0) 9 0) 26 (nI (wt + 1))) 25 (nI (op + 1)))))).2.1 = h0.2.1 := hs
          generalize ax_put hp_90 m (.inr (11, RV p al (upd (upd (upd (M 0) 9 0) 26 (nI (wt + 1))) 25 (nI (op + 1))))) = hp_91 at hF hf hn hs ⊢
          refine ar_aload_n 290 d_180_289 rfl rfl ?_
          refine ar_iconst 291 (v := 0) d_180_290 rfl (by decide) ?_
          refine ar_putf 294 (RV p al (upd (upd (upd (upd (M 0) 9 0) 26 (nI (wt + 1))) 25 (nI (op + 1))) 7 0)) d_180_291 rfl (ci := 11) (k := 7) rfl rfl (hF.at 0 rfl) (Nat.le_of_ble_eq_true rfl) rfl rfl rfl ?_
          replace hF : ax_hs (ax_put hp_91 m (.inr (11, RV p al (upd (upd (upd (upd (M 0) 9 0) 26 (nI (wt + 1))) 25 (nI (op + 1))) 7 0)))) [(m, .inr (11, RV p al (upd (upd (upd (upd (M 0) 9 0) 26 (nI (wt + 1))) 25 (nI (op + 1))) 7 0))), cRB p 2048 (M 8), cRB (p + 1) 400 (M 10), cRI (p + 2) 2 (M 11), cRI (p + 3) 48 (M 12), cRZ (p + 4) 48 (M 13), cRB (p + 5) 9600 (M 14), cRI (p + 6) 48 (M 15), cRI (p + 7) 48 (M 16), cRI (p + 8) 48 (M 17), cRB (p + 9) 393216 (M 18), cRZ (p + 10) 912 (M 19), (p + 11, .inl (0, 12, .inl (upd (M 27) wt kd))), (p + 12, .inl (0, 12, .inl (upd (M 28) wt a))), (p + 13, .inl (0, 12, .inl (upd (M 29) wt b))), (p + 14, .inl (1, 4800, .inl (rgF (fun i => vp_nar .byte (M 10 i)) (400 * wt) 400 (M 30)))), (p + 15, .inl (0, 24, .inl (upd (upd (M 31) (2 * wt) (M 11 0)) (2 * wt + 1) (M 11 1)))), (p + 16, .inl (1, 24576, .inl (rgF (fun i => vp_nar .byte (M 8 i)) (2048 * wt) l (M 32)))), (p + 17, .inl (0, 12, .inl (upd (M 33) wt (nI l)))), cRI al AL (M 34), cRI (p + 19) 24576 (M 35), cRI (p + 20) 12 (M 36)] := hF.put 0 _ rfl rfl
          replace hf := hf.put (a := m) (c := .inr (11, RV p al (upd (upd (upd (upd (M 0) 9 0) 26 (nI (wt + 1))) 25 (nI (op + 1))) 7 0))) (show m ≤ m by omega)
          replace hn : (ax_put hp_91 m (.inr (11, RV p al (upd (upd (upd (upd (M 0) 9 0) 26 (nI (wt + 1))) 25 (nI (op + 1))) 7 0)))).1 = h0.1 := hn
          replace hs : (ax_put hp_91 m (.inr (11, RV p al (upd (upd (upd (upd (M 0) 9 0) 26 (nI (wt + 1))) 25 (nI (op + 1))) 7 0)))).2.1 = h0.2.1 := hs
          generalize ax_put hp_91 m (.inr (11, RV p al (upd (upd (upd (upd (M 0) 9 0) 26 (nI (wt + 1))) 25 (nI (op + 1))) 7 0))) = hp_92 at hF hf hn hs ⊢
          refine ar_aload_n 295 d_180_294 rfl rfl ?_
          refine ar_getf 298 d_180_295 rfl (ci := 11) (k := 25) rfl (hF.at 0 rfl) (show _ = some (.int (nI (op + 1))) from rfl) ?_
          refine ar_top (x' := nI (op + 1)) (rfl) ?_
          refine ar_iconst 299 (v := 1) d_180_298 rfl (by decide) ?_
          refine ar_isub 300 d_180_299 rfl ?_
          refine ar_top (x' := nI op) (nI_s1 op) ?_
          have hS7 : RS m p al AL h0 hp_92 (va_up (va_up (va_up (va_up (va_up (va_up (va_up (va_up M 0 (upd (upd (upd (upd (M 0) 9 0) 26 (nI (wt + 1))) 25 (nI (op + 1))) 7 0)) 27 (upd (M 27) wt kd)) 28 (upd (M 28) wt a)) 29 (upd (M 29) wt b)) 30 (rgF (fun i => vp_nar .byte (M 10 i)) (400 * wt) 400 (M 30))) 31 (upd (upd (M 31) (2 * wt) (M 11 0)) (2 * wt + 1) (M 11 1))) 32 (rgF (fun i => vp_nar .byte (M 8 i)) (2048 * wt) l (M 32))) 33 (upd (M 33) wt (nI l))) := ⟨hF, hf, hn, hs, hp0⟩
          have eM : va_up (va_up (va_up (va_up (va_up (va_up (va_up (va_up M 0 (upd (upd (upd (upd (M 0) 9 0) 26 (nI (wt + 1))) 25 (nI (op + 1))) 7 0)) 27 (upd (M 27) wt kd)) 28 (upd (M 28) wt a)) 29 (upd (M 29) wt b)) 30 (rgF (fun i => vp_nar .byte (M 10 i)) (400 * wt) 400 (M 30))) 31 (upd (upd (M 31) (2 * wt) (M 11 0)) (2 * wt + 1) (M 11 1))) 32 (rgF (fun i => vp_nar .byte (M 8 i)) (2048 * wt) l (M 32))) 33 (upd (M 33) wt (nI l)) = bgM M wt op l kd a b := by
            unfold bgM
            rw [if_pos (Or.inr (Decidable.not_not.mp c3))]
          rw [eM] at hS7
          exact ar_iret d_180_300 rfl rfl (Or.inr (Or.inr ⟨hma, Nat.ne_of_lt hw, rfl, hS7⟩))
    · refine ar_bipush 103 (v := -4) d_180_101 rfl (by decide) ?_
      have hS9 : RS m p al AL h0 h M := ⟨hF, hf, hn, hs, hp0⟩
      exact ar_iret d_180_103 rfl rfl (Or.inr (Or.inl ⟨hma, nI_inj (by omega) (by decide) (Decidable.not_not.mp c1), rfl, hS9⟩))
  show ax_A (ax_step L xs) ((180, 0, fr, lo), [(0, .ref m), (1, .int kd), (2, .int a), (3, .int b)], [], h) _
  obtain ⟨hmp, hal, hm0⟩ := hC
  obtain ⟨hF, hf, hn, hs, hp0⟩ := hS
  replace hF : ax_hs h [cRo m p al M, cRB p 2048 (M 8), cRB (p + 1) 400 (M 10), cRI (p + 2) 2 (M 11), cRI (p + 3) 48 (M 12), cRZ (p + 4) 48 (M 13), cRB (p + 5) 9600 (M 14), cRI (p + 6) 48 (M 15), cRI (p + 7) 48 (M 16), cRI (p + 8) 48 (M 17), cRB (p + 9) 393216 (M 18), cRZ (p + 10) 912 (M 19), cRI (p + 11) 12 (M 27), cRI (p + 12) 12 (M 28), cRI (p + 13) 12 (M 29), cRB (p + 14) 4800 (M 30), cRI (p + 15) 24 (M 31), cRB (p + 16) 24576 (M 32), cRI (p + 17) 12 (M 33), cRI al AL (M 34), cRI (p + 19) 24576 (M 35), cRI (p + 20) 12 (M 36)] := hF
  refine ar_iload_n 1 d_180_0 rfl rfl ?_
  refine ar_if_lt 46 4 d_180_1 (by decide) rfl (fun cc1 => ?_) (fun cc1 => ?_)
  · refine ar_iconst 47 (v := -1) d_180_46 rfl (by decide) ?_
    have hS9 : RS m p al AL h0 h M := ⟨hF, hf, hn, hs, hp0⟩
    exact ar_iret d_180_47 rfl rfl (Or.inl ⟨by unfold mayA; grind, rfl, hS9⟩)
  · refine ar_iload_n 5 d_180_4 rfl rfl ?_
    refine ar_bipush 7 (v := 9) d_180_5 rfl (by decide) ?_
    refine ar_icmp_gt 46 10 d_180_7 (by decide) rfl (fun cc2 => ?_) (fun cc2 => ?_)
    · refine ar_iconst 47 (v := -1) d_180_46 rfl (by decide) ?_
      have hS9 : RS m p al AL h0 h M := ⟨hF, hf, hn, hs, hp0⟩
      exact ar_iret d_180_47 rfl rfl (Or.inl ⟨by unfold mayA; grind, rfl, hS9⟩)
    · refine ar_iload_n 11 d_180_10 rfl rfl ?_
      refine ar_bipush 13 (v := 9) d_180_11 rfl (by decide) ?_
      refine ar_icmp_eq 25 16 d_180_13 (by decide) rfl (fun cc3 => ?_) (fun cc3 => ?_)
      · refine ar_iload_n 26 d_180_25 rfl rfl ?_
        refine ar_bipush 28 (v := 6) d_180_26 rfl (by decide) ?_
        refine ar_icmp_eq 37 31 d_180_28 (by decide) rfl (fun cc4 => ?_) (fun cc4 => ?_)
        · refine ar_aload_n 38 d_180_37 rfl rfl ?_
          refine ar_getf 41 d_180_38 rfl (ci := 11) (k := 11) rfl (hF.at 0 rfl) (show _ = some (.ref (p + 2)) from rfl) ?_
          refine ar_iconst 42 (v := 1) d_180_41 rfl (by decide) ?_
          refine ar_iald 43 d_180_42 rfl (hF.at 3 rfl) (vin (i := 1) (by omega) (by omega)) ?_
          refine ar_top (x' := M 11 1) (by rw [show (1 : Int32).toNatClampNeg = 1 by decide]) ?_
          refine ar_if_ne 48 46 d_180_43 (by decide) rfl (fun cc5 => ?_) (fun cc5 => ?_)
          · refine ar_iload_n 49 d_180_48 rfl rfl ?_
            refine ar_iconst 50 (v := 1) d_180_49 rfl (by decide) ?_
            refine ar_icmp_eq 63 53 d_180_50 (by decide) rfl (fun cc6 => ?_) (fun cc6 => ?_)
            · refine ar_iload_n 64 d_180_63 rfl rfl ?_
              refine ar_if_lt 90 67 d_180_64 (by decide) rfl (fun cc7 => ?_) (fun cc7 => ?_)
              · refine ar_iconst 91 (v := -1) d_180_90 rfl (by decide) ?_
                have hS9 : RS m p al AL h0 h M := ⟨hF, hf, hn, hs, hp0⟩
                exact ar_iret d_180_91 rfl rfl (Or.inl ⟨by unfold mayA; grind, rfl, hS9⟩)
              · refine ar_iload_n 68 d_180_67 rfl rfl ?_
                refine ar_sipush 71 (v := 8192) d_180_68 rfl (by decide) ?_
                refine ar_icmp_gt 90 74 d_180_71 (by decide) rfl (fun cc8 => ?_) (fun cc8 => ?_)
                · refine ar_iconst 91 (v := -1) d_180_90 rfl (by decide) ?_
                  have hS9 : RS m p al AL h0 h M := ⟨hF, hf, hn, hs, hp0⟩
                  exact ar_iret d_180_91 rfl rfl (Or.inl ⟨by unfold mayA; grind, rfl, hS9⟩)
                · refine ar_iload_n 75 d_180_74 rfl rfl ?_
                  refine ar_iconst 76 (v := 4) d_180_75 rfl (by decide) ?_
                  refine ar_icmp_ne 92 79 d_180_76 (by decide) rfl (fun cc9 => ?_) (fun cc9 => ?_)
                  · have hma : mayA (M 11 0) (M 11 1) kd a b := by unfold mayA; grind
                    have hS1 : RS m p al AL h0 h M := ⟨hF, hf, hn, hs, hp0⟩
                    exact key hma h hS1
                  · refine ar_iload_n 80 d_180_79 rfl rfl ?_
                    refine ar_if_lt 90 83 d_180_80 (by decide) rfl (fun cc10 => ?_) (fun cc10 => ?_)
                    · refine ar_iconst 91 (v := -1) d_180_90 rfl (by decide) ?_
                      have hS9 : RS m p al AL h0 h M := ⟨hF, hf, hn, hs, hp0⟩
                      exact ar_iret d_180_91 rfl rfl (Or.inl ⟨by unfold mayA; grind, rfl, hS9⟩)
                    · refine ar_iload_n 84 d_180_83 rfl rfl ?_
                      refine ar_sipush 87 (v := 2048) d_180_84 rfl (by decide) ?_
                      refine ar_icmp_le 92 90 d_180_87 (by decide) rfl (fun cc11 => ?_) (fun cc11 => ?_)
                      · have hma : mayA (M 11 0) (M 11 1) kd a b := by unfold mayA; grind
                        have hS1 : RS m p al AL h0 h M := ⟨hF, hf, hn, hs, hp0⟩
                        exact key hma h hS1
                      · refine ar_iconst 91 (v := -1) d_180_90 rfl (by decide) ?_
                        have hS9 : RS m p al AL h0 h M := ⟨hF, hf, hn, hs, hp0⟩
                        exact ar_iret d_180_91 rfl rfl (Or.inl ⟨by unfold mayA; grind, rfl, hS9⟩)
            · refine ar_iload_n 54 d_180_53 rfl rfl ?_
              refine ar_iconst 55 (v := 3) d_180_54 rfl (by decide) ?_
              refine ar_icmp_eq 63 58 d_180_55 (by decide) rfl (fun cc12 => ?_) (fun cc12 => ?_)
              · refine ar_iload_n 64 d_180_63 rfl rfl ?_
                refine ar_if_lt 90 67 d_180_64 (by decide) rfl (fun cc13 => ?_) (fun cc13 => ?_)
                · refine ar_iconst 91 (v := -1) d_180_90 rfl (by decide) ?_
                  have hS9 : RS m p al AL h0 h M := ⟨hF, hf, hn, hs, hp0⟩
                  exact ar_iret d_180_91 rfl rfl (Or.inl ⟨by unfold mayA; grind, rfl, hS9⟩)
                · refine ar_iload_n 68 d_180_67 rfl rfl ?_
                  refine ar_sipush 71 (v := 8192) d_180_68 rfl (by decide) ?_
                  refine ar_icmp_gt 90 74 d_180_71 (by decide) rfl (fun cc14 => ?_) (fun cc14 => ?_)
                  · refine ar_iconst 91 (v := -1) d_180_90 rfl (by decide) ?_
                    have hS9 : RS m p al AL h0 h M := ⟨hF, hf, hn, hs, hp0⟩
                    exact ar_iret d_180_91 rfl rfl (Or.inl ⟨by unfold mayA; grind, rfl, hS9⟩)
                  · refine ar_iload_n 75 d_180_74 rfl rfl ?_
                    refine ar_iconst 76 (v := 4) d_180_75 rfl (by decide) ?_
                    refine ar_icmp_ne 92 79 d_180_76 (by decide) rfl (fun cc15 => ?_) (fun cc15 => ?_)
                    · have hma : mayA (M 11 0) (M 11 1) kd a b := by unfold mayA; grind
                      have hS1 : RS m p al AL h0 h M := ⟨hF, hf, hn, hs, hp0⟩
                      exact key hma h hS1
                    · refine ar_iload_n 80 d_180_79 rfl rfl ?_
                      refine ar_if_lt 90 83 d_180_80 (by decide) rfl (fun cc16 => ?_) (fun cc16 => ?_)
                      · refine ar_iconst 91 (v := -1) d_180_90 rfl (by decide) ?_
                        have hS9 : RS m p al AL h0 h M := ⟨hF, hf, hn, hs, hp0⟩
                        exact ar_iret d_180_91 rfl rfl (Or.inl ⟨by unfold mayA; grind, rfl, hS9⟩)
                      · refine ar_iload_n 84 d_180_83 rfl rfl ?_
                        refine ar_sipush 87 (v := 2048) d_180_84 rfl (by decide) ?_
                        refine ar_icmp_le 92 90 d_180_87 (by decide) rfl (fun cc17 => ?_) (fun cc17 => ?_)
                        · have hma : mayA (M 11 0) (M 11 1) kd a b := by unfold mayA; grind
                          have hS1 : RS m p al AL h0 h M := ⟨hF, hf, hn, hs, hp0⟩
                          exact key hma h hS1
                        · refine ar_iconst 91 (v := -1) d_180_90 rfl (by decide) ?_
                          have hS9 : RS m p al AL h0 h M := ⟨hF, hf, hn, hs, hp0⟩
                          exact ar_iret d_180_91 rfl rfl (Or.inl ⟨by unfold mayA; grind, rfl, hS9⟩)
              · refine ar_iload_n 59 d_180_58 rfl rfl ?_
                refine ar_iconst 60 (v := 4) d_180_59 rfl (by decide) ?_
                refine ar_icmp_ne 74 63 d_180_60 (by decide) rfl (fun cc18 => ?_) (fun cc18 => ?_)
                · refine ar_iload_n 75 d_180_74 rfl rfl ?_
                  refine ar_iconst 76 (v := 4) d_180_75 rfl (by decide) ?_
                  refine ar_icmp_ne 92 79 d_180_76 (by decide) rfl (fun cc19 => ?_) (fun cc19 => ?_)
                  · have hma : mayA (M 11 0) (M 11 1) kd a b := by unfold mayA; grind
                    have hS1 : RS m p al AL h0 h M := ⟨hF, hf, hn, hs, hp0⟩
                    exact key hma h hS1
                  · refine ar_iload_n 80 d_180_79 rfl rfl ?_
                    refine ar_if_lt 90 83 d_180_80 (by decide) rfl (fun cc20 => ?_) (fun cc20 => ?_)
                    · refine ar_iconst 91 (v := -1) d_180_90 rfl (by decide) ?_
                      have hS9 : RS m p al AL h0 h M := ⟨hF, hf, hn, hs, hp0⟩
                      exact ar_iret d_180_91 rfl rfl (Or.inl ⟨by unfold mayA; grind, rfl, hS9⟩)
                    · refine ar_iload_n 84 d_180_83 rfl rfl ?_
                      refine ar_sipush 87 (v := 2048) d_180_84 rfl (by decide) ?_
                      refine ar_icmp_le 92 90 d_180_87 (by decide) rfl (fun cc21 => ?_) (fun cc21 => ?_)
                      · have hma : mayA (M 11 0) (M 11 1) kd a b := by unfold mayA; grind
                        have hS1 : RS m p al AL h0 h M := ⟨hF, hf, hn, hs, hp0⟩
                        exact key hma h hS1
                      · refine ar_iconst 91 (v := -1) d_180_90 rfl (by decide) ?_
                        have hS9 : RS m p al AL h0 h M := ⟨hF, hf, hn, hs, hp0⟩
                        exact ar_iret d_180_91 rfl rfl (Or.inl ⟨by unfold mayA; grind, rfl, hS9⟩)
                · refine ar_iload_n 64 d_180_63 rfl rfl ?_
                  refine ar_if_lt 90 67 d_180_64 (by decide) rfl (fun cc22 => ?_) (fun cc22 => ?_)
                  · refine ar_iconst 91 (v := -1) d_180_90 rfl (by decide) ?_
                    have hS9 : RS m p al AL h0 h M := ⟨hF, hf, hn, hs, hp0⟩
                    exact ar_iret d_180_91 rfl rfl (Or.inl ⟨by unfold mayA; grind, rfl, hS9⟩)
                  · refine ar_iload_n 68 d_180_67 rfl rfl ?_
                    refine ar_sipush 71 (v := 8192) d_180_68 rfl (by decide) ?_
                    refine ar_icmp_gt 90 74 d_180_71 (by decide) rfl (fun cc23 => ?_) (fun cc23 => ?_)
                    · refine ar_iconst 91 (v := -1) d_180_90 rfl (by decide) ?_
                      have hS9 : RS m p al AL h0 h M := ⟨hF, hf, hn, hs, hp0⟩
                      exact ar_iret d_180_91 rfl rfl (Or.inl ⟨by unfold mayA; grind, rfl, hS9⟩)
                    · refine ar_iload_n 75 d_180_74 rfl rfl ?_
                      refine ar_iconst 76 (v := 4) d_180_75 rfl (by decide) ?_
                      refine ar_icmp_ne 92 79 d_180_76 (by decide) rfl (fun cc24 => ?_) (fun cc24 => ?_)
                      · have hma : mayA (M 11 0) (M 11 1) kd a b := by unfold mayA; grind
                        have hS1 : RS m p al AL h0 h M := ⟨hF, hf, hn, hs, hp0⟩
                        exact key hma h hS1
                      · refine ar_iload_n 80 d_180_79 rfl rfl ?_
                        refine ar_if_lt 90 83 d_180_80 (by decide) rfl (fun cc25 => ?_) (fun cc25 => ?_)
                        · refine ar_iconst 91 (v := -1) d_180_90 rfl (by decide) ?_
                          have hS9 : RS m p al AL h0 h M := ⟨hF, hf, hn, hs, hp0⟩
                          exact ar_iret d_180_91 rfl rfl (Or.inl ⟨by unfold mayA; grind, rfl, hS9⟩)
                        · refine ar_iload_n 84 d_180_83 rfl rfl ?_
                          refine ar_sipush 87 (v := 2048) d_180_84 rfl (by decide) ?_
                          refine ar_icmp_le 92 90 d_180_87 (by decide) rfl (fun cc26 => ?_) (fun cc26 => ?_)
                          · have hma : mayA (M 11 0) (M 11 1) kd a b := by unfold mayA; grind
                            have hS1 : RS m p al AL h0 h M := ⟨hF, hf, hn, hs, hp0⟩
                            exact key hma h hS1
                          · refine ar_iconst 91 (v := -1) d_180_90 rfl (by decide) ?_
                            have hS9 : RS m p al AL h0 h M := ⟨hF, hf, hn, hs, hp0⟩
                            exact ar_iret d_180_91 rfl rfl (Or.inl ⟨by unfold mayA; grind, rfl, hS9⟩)
          · refine ar_iconst 47 (v := -1) d_180_46 rfl (by decide) ?_
            have hS9 : RS m p al AL h0 h M := ⟨hF, hf, hn, hs, hp0⟩
            exact ar_iret d_180_47 rfl rfl (Or.inl ⟨by unfold mayA; grind, rfl, hS9⟩)
        · refine ar_iload_n 32 d_180_31 rfl rfl ?_
          refine ar_bipush 34 (v := 7) d_180_32 rfl (by decide) ?_
          refine ar_icmp_ne 48 37 d_180_34 (by decide) rfl (fun cc27 => ?_) (fun cc27 => ?_)
          · refine ar_iload_n 49 d_180_48 rfl rfl ?_
            refine ar_iconst 50 (v := 1) d_180_49 rfl (by decide) ?_
            refine ar_icmp_eq 63 53 d_180_50 (by decide) rfl (fun cc28 => ?_) (fun cc28 => ?_)
            · refine ar_iload_n 64 d_180_63 rfl rfl ?_
              refine ar_if_lt 90 67 d_180_64 (by decide) rfl (fun cc29 => ?_) (fun cc29 => ?_)
              · refine ar_iconst 91 (v := -1) d_180_90 rfl (by decide) ?_
                have hS9 : RS m p al AL h0 h M := ⟨hF, hf, hn, hs, hp0⟩
                exact ar_iret d_180_91 rfl rfl (Or.inl ⟨by unfold mayA; grind, rfl, hS9⟩)
              · refine ar_iload_n 68 d_180_67 rfl rfl ?_
                refine ar_sipush 71 (v := 8192) d_180_68 rfl (by decide) ?_
                refine ar_icmp_gt 90 74 d_180_71 (by decide) rfl (fun cc30 => ?_) (fun cc30 => ?_)
                · refine ar_iconst 91 (v := -1) d_180_90 rfl (by decide) ?_
                  have hS9 : RS m p al AL h0 h M := ⟨hF, hf, hn, hs, hp0⟩
                  exact ar_iret d_180_91 rfl rfl (Or.inl ⟨by unfold mayA; grind, rfl, hS9⟩)
                · refine ar_iload_n 75 d_180_74 rfl rfl ?_
                  refine ar_iconst 76 (v := 4) d_180_75 rfl (by decide) ?_
                  refine ar_icmp_ne 92 79 d_180_76 (by decide) rfl (fun cc31 => ?_) (fun cc31 => ?_)
                  · have hma : mayA (M 11 0) (M 11 1) kd a b := by unfold mayA; grind
                    have hS1 : RS m p al AL h0 h M := ⟨hF, hf, hn, hs, hp0⟩
                    exact key hma h hS1
                  · refine ar_iload_n 80 d_180_79 rfl rfl ?_
                    refine ar_if_lt 90 83 d_180_80 (by decide) rfl (fun cc32 => ?_) (fun cc32 => ?_)
                    · refine ar_iconst 91 (v := -1) d_180_90 rfl (by decide) ?_
                      have hS9 : RS m p al AL h0 h M := ⟨hF, hf, hn, hs, hp0⟩
                      exact ar_iret d_180_91 rfl rfl (Or.inl ⟨by unfold mayA; grind, rfl, hS9⟩)
                    · refine ar_iload_n 84 d_180_83 rfl rfl ?_
                      refine ar_sipush 87 (v := 2048) d_180_84 rfl (by decide) ?_
                      refine ar_icmp_le 92 90 d_180_87 (by decide) rfl (fun cc33 => ?_) (fun cc33 => ?_)
                      · have hma : mayA (M 11 0) (M 11 1) kd a b := by unfold mayA; grind
                        have hS1 : RS m p al AL h0 h M := ⟨hF, hf, hn, hs, hp0⟩
                        exact key hma h hS1
                      · refine ar_iconst 91 (v := -1) d_180_90 rfl (by decide) ?_
                        have hS9 : RS m p al AL h0 h M := ⟨hF, hf, hn, hs, hp0⟩
                        exact ar_iret d_180_91 rfl rfl (Or.inl ⟨by unfold mayA; grind, rfl, hS9⟩)
            · refine ar_iload_n 54 d_180_53 rfl rfl ?_
              refine ar_iconst 55 (v := 3) d_180_54 rfl (by decide) ?_
              refine ar_icmp_eq 63 58 d_180_55 (by decide) rfl (fun cc34 => ?_) (fun cc34 => ?_)
              · refine ar_iload_n 64 d_180_63 rfl rfl ?_
                refine ar_if_lt 90 67 d_180_64 (by decide) rfl (fun cc35 => ?_) (fun cc35 => ?_)
                · refine ar_iconst 91 (v := -1) d_180_90 rfl (by decide) ?_
                  have hS9 : RS m p al AL h0 h M := ⟨hF, hf, hn, hs, hp0⟩
                  exact ar_iret d_180_91 rfl rfl (Or.inl ⟨by unfold mayA; grind, rfl, hS9⟩)
                · refine ar_iload_n 68 d_180_67 rfl rfl ?_
                  refine ar_sipush 71 (v := 8192) d_180_68 rfl (by decide) ?_
                  refine ar_icmp_gt 90 74 d_180_71 (by decide) rfl (fun cc36 => ?_) (fun cc36 => ?_)
                  · refine ar_iconst 91 (v := -1) d_180_90 rfl (by decide) ?_
                    have hS9 : RS m p al AL h0 h M := ⟨hF, hf, hn, hs, hp0⟩
                    exact ar_iret d_180_91 rfl rfl (Or.inl ⟨by unfold mayA; grind, rfl, hS9⟩)
                  · refine ar_iload_n 75 d_180_74 rfl rfl ?_
                    refine ar_iconst 76 (v := 4) d_180_75 rfl (by decide) ?_
                    refine ar_icmp_ne 92 79 d_180_76 (by decide) rfl (fun cc37 => ?_) (fun cc37 => ?_)
                    · have hma : mayA (M 11 0) (M 11 1) kd a b := by unfold mayA; grind
                      have hS1 : RS m p al AL h0 h M := ⟨hF, hf, hn, hs, hp0⟩
                      exact key hma h hS1
                    · refine ar_iload_n 80 d_180_79 rfl rfl ?_
                      refine ar_if_lt 90 83 d_180_80 (by decide) rfl (fun cc38 => ?_) (fun cc38 => ?_)
                      · refine ar_iconst 91 (v := -1) d_180_90 rfl (by decide) ?_
                        have hS9 : RS m p al AL h0 h M := ⟨hF, hf, hn, hs, hp0⟩
                        exact ar_iret d_180_91 rfl rfl (Or.inl ⟨by unfold mayA; grind, rfl, hS9⟩)
                      · refine ar_iload_n 84 d_180_83 rfl rfl ?_
                        refine ar_sipush 87 (v := 2048) d_180_84 rfl (by decide) ?_
                        refine ar_icmp_le 92 90 d_180_87 (by decide) rfl (fun cc39 => ?_) (fun cc39 => ?_)
                        · have hma : mayA (M 11 0) (M 11 1) kd a b := by unfold mayA; grind
                          have hS1 : RS m p al AL h0 h M := ⟨hF, hf, hn, hs, hp0⟩
                          exact key hma h hS1
                        · refine ar_iconst 91 (v := -1) d_180_90 rfl (by decide) ?_
                          have hS9 : RS m p al AL h0 h M := ⟨hF, hf, hn, hs, hp0⟩
                          exact ar_iret d_180_91 rfl rfl (Or.inl ⟨by unfold mayA; grind, rfl, hS9⟩)
              · refine ar_iload_n 59 d_180_58 rfl rfl ?_
                refine ar_iconst 60 (v := 4) d_180_59 rfl (by decide) ?_
                refine ar_icmp_ne 74 63 d_180_60 (by decide) rfl (fun cc40 => ?_) (fun cc40 => ?_)
                · refine ar_iload_n 75 d_180_74 rfl rfl ?_
                  refine ar_iconst 76 (v := 4) d_180_75 rfl (by decide) ?_
                  refine ar_icmp_ne 92 79 d_180_76 (by decide) rfl (fun cc41 => ?_) (fun cc41 => ?_)
                  · have hma : mayA (M 11 0) (M 11 1) kd a b := by unfold mayA; grind
                    have hS1 : RS m p al AL h0 h M := ⟨hF, hf, hn, hs, hp0⟩
                    exact key hma h hS1
                  · refine ar_iload_n 80 d_180_79 rfl rfl ?_
                    refine ar_if_lt 90 83 d_180_80 (by decide) rfl (fun cc42 => ?_) (fun cc42 => ?_)
                    · refine ar_iconst 91 (v := -1) d_180_90 rfl (by decide) ?_
                      have hS9 : RS m p al AL h0 h M := ⟨hF, hf, hn, hs, hp0⟩
                      exact ar_iret d_180_91 rfl rfl (Or.inl ⟨by unfold mayA; grind, rfl, hS9⟩)
                    · refine ar_iload_n 84 d_180_83 rfl rfl ?_
                      refine ar_sipush 87 (v := 2048) d_180_84 rfl (by decide) ?_
                      refine ar_icmp_le 92 90 d_180_87 (by decide) rfl (fun cc43 => ?_) (fun cc43 => ?_)
                      · have hma : mayA (M 11 0) (M 11 1) kd a b := by unfold mayA; grind
                        have hS1 : RS m p al AL h0 h M := ⟨hF, hf, hn, hs, hp0⟩
                        exact key hma h hS1
                      · refine ar_iconst 91 (v := -1) d_180_90 rfl (by decide) ?_
                        have hS9 : RS m p al AL h0 h M := ⟨hF, hf, hn, hs, hp0⟩
                        exact ar_iret d_180_91 rfl rfl (Or.inl ⟨by unfold mayA; grind, rfl, hS9⟩)
                · refine ar_iload_n 64 d_180_63 rfl rfl ?_
                  refine ar_if_lt 90 67 d_180_64 (by decide) rfl (fun cc44 => ?_) (fun cc44 => ?_)
                  · refine ar_iconst 91 (v := -1) d_180_90 rfl (by decide) ?_
                    have hS9 : RS m p al AL h0 h M := ⟨hF, hf, hn, hs, hp0⟩
                    exact ar_iret d_180_91 rfl rfl (Or.inl ⟨by unfold mayA; grind, rfl, hS9⟩)
                  · refine ar_iload_n 68 d_180_67 rfl rfl ?_
                    refine ar_sipush 71 (v := 8192) d_180_68 rfl (by decide) ?_
                    refine ar_icmp_gt 90 74 d_180_71 (by decide) rfl (fun cc45 => ?_) (fun cc45 => ?_)
                    · refine ar_iconst 91 (v := -1) d_180_90 rfl (by decide) ?_
                      have hS9 : RS m p al AL h0 h M := ⟨hF, hf, hn, hs, hp0⟩
                      exact ar_iret d_180_91 rfl rfl (Or.inl ⟨by unfold mayA; grind, rfl, hS9⟩)
                    · refine ar_iload_n 75 d_180_74 rfl rfl ?_
                      refine ar_iconst 76 (v := 4) d_180_75 rfl (by decide) ?_
                      refine ar_icmp_ne 92 79 d_180_76 (by decide) rfl (fun cc46 => ?_) (fun cc46 => ?_)
                      · have hma : mayA (M 11 0) (M 11 1) kd a b := by unfold mayA; grind
                        have hS1 : RS m p al AL h0 h M := ⟨hF, hf, hn, hs, hp0⟩
                        exact key hma h hS1
                      · refine ar_iload_n 80 d_180_79 rfl rfl ?_
                        refine ar_if_lt 90 83 d_180_80 (by decide) rfl (fun cc47 => ?_) (fun cc47 => ?_)
                        · refine ar_iconst 91 (v := -1) d_180_90 rfl (by decide) ?_
                          have hS9 : RS m p al AL h0 h M := ⟨hF, hf, hn, hs, hp0⟩
                          exact ar_iret d_180_91 rfl rfl (Or.inl ⟨by unfold mayA; grind, rfl, hS9⟩)
                        · refine ar_iload_n 84 d_180_83 rfl rfl ?_
                          refine ar_sipush 87 (v := 2048) d_180_84 rfl (by decide) ?_
                          refine ar_icmp_le 92 90 d_180_87 (by decide) rfl (fun cc48 => ?_) (fun cc48 => ?_)
                          · have hma : mayA (M 11 0) (M 11 1) kd a b := by unfold mayA; grind
                            have hS1 : RS m p al AL h0 h M := ⟨hF, hf, hn, hs, hp0⟩
                            exact key hma h hS1
                          · refine ar_iconst 91 (v := -1) d_180_90 rfl (by decide) ?_
                            have hS9 : RS m p al AL h0 h M := ⟨hF, hf, hn, hs, hp0⟩
                            exact ar_iret d_180_91 rfl rfl (Or.inl ⟨by unfold mayA; grind, rfl, hS9⟩)
          · refine ar_aload_n 38 d_180_37 rfl rfl ?_
            refine ar_getf 41 d_180_38 rfl (ci := 11) (k := 11) rfl (hF.at 0 rfl) (show _ = some (.ref (p + 2)) from rfl) ?_
            refine ar_iconst 42 (v := 1) d_180_41 rfl (by decide) ?_
            refine ar_iald 43 d_180_42 rfl (hF.at 3 rfl) (vin (i := 1) (by omega) (by omega)) ?_
            refine ar_top (x' := M 11 1) (by rw [show (1 : Int32).toNatClampNeg = 1 by decide]) ?_
            refine ar_if_ne 48 46 d_180_43 (by decide) rfl (fun cc49 => ?_) (fun cc49 => ?_)
            · refine ar_iload_n 49 d_180_48 rfl rfl ?_
              refine ar_iconst 50 (v := 1) d_180_49 rfl (by decide) ?_
              refine ar_icmp_eq 63 53 d_180_50 (by decide) rfl (fun cc50 => ?_) (fun cc50 => ?_)
              · refine ar_iload_n 64 d_180_63 rfl rfl ?_
                refine ar_if_lt 90 67 d_180_64 (by decide) rfl (fun cc51 => ?_) (fun cc51 => ?_)
                · refine ar_iconst 91 (v := -1) d_180_90 rfl (by decide) ?_
                  have hS9 : RS m p al AL h0 h M := ⟨hF, hf, hn, hs, hp0⟩
                  exact ar_iret d_180_91 rfl rfl (Or.inl ⟨by unfold mayA; grind, rfl, hS9⟩)
                · refine ar_iload_n 68 d_180_67 rfl rfl ?_
                  refine ar_sipush 71 (v := 8192) d_180_68 rfl (by decide) ?_
                  refine ar_icmp_gt 90 74 d_180_71 (by decide) rfl (fun cc52 => ?_) (fun cc52 => ?_)
                  · refine ar_iconst 91 (v := -1) d_180_90 rfl (by decide) ?_
                    have hS9 : RS m p al AL h0 h M := ⟨hF, hf, hn, hs, hp0⟩
                    exact ar_iret d_180_91 rfl rfl (Or.inl ⟨by unfold mayA; grind, rfl, hS9⟩)
                  · refine ar_iload_n 75 d_180_74 rfl rfl ?_
                    refine ar_iconst 76 (v := 4) d_180_75 rfl (by decide) ?_
                    refine ar_icmp_ne 92 79 d_180_76 (by decide) rfl (fun cc53 => ?_) (fun cc53 => ?_)
                    · have hma : mayA (M 11 0) (M 11 1) kd a b := by unfold mayA; grind
                      have hS1 : RS m p al AL h0 h M := ⟨hF, hf, hn, hs, hp0⟩
                      exact key hma h hS1
                    · refine ar_iload_n 80 d_180_79 rfl rfl ?_
                      refine ar_if_lt 90 83 d_180_80 (by decide) rfl (fun cc54 => ?_) (fun cc54 => ?_)
                      · refine ar_iconst 91 (v := -1) d_180_90 rfl (by decide) ?_
                        have hS9 : RS m p al AL h0 h M := ⟨hF, hf, hn, hs, hp0⟩
                        exact ar_iret d_180_91 rfl rfl (Or.inl ⟨by unfold mayA; grind, rfl, hS9⟩)
                      · refine ar_iload_n 84 d_180_83 rfl rfl ?_
                        refine ar_sipush 87 (v := 2048) d_180_84 rfl (by decide) ?_
                        refine ar_icmp_le 92 90 d_180_87 (by decide) rfl (fun cc55 => ?_) (fun cc55 => ?_)
                        · have hma : mayA (M 11 0) (M 11 1) kd a b := by unfold mayA; grind
                          have hS1 : RS m p al AL h0 h M := ⟨hF, hf, hn, hs, hp0⟩
                          exact key hma h hS1
                        · refine ar_iconst 91 (v := -1) d_180_90 rfl (by decide) ?_
                          have hS9 : RS m p al AL h0 h M := ⟨hF, hf, hn, hs, hp0⟩
                          exact ar_iret d_180_91 rfl rfl (Or.inl ⟨by unfold mayA; grind, rfl, hS9⟩)
              · refine ar_iload_n 54 d_180_53 rfl rfl ?_
                refine ar_iconst 55 (v := 3) d_180_54 rfl (by decide) ?_
                refine ar_icmp_eq 63 58 d_180_55 (by decide) rfl (fun cc56 => ?_) (fun cc56 => ?_)
                · refine ar_iload_n 64 d_180_63 rfl rfl ?_
                  refine ar_if_lt 90 67 d_180_64 (by decide) rfl (fun cc57 => ?_) (fun cc57 => ?_)
                  · refine ar_iconst 91 (v := -1) d_180_90 rfl (by decide) ?_
                    have hS9 : RS m p al AL h0 h M := ⟨hF, hf, hn, hs, hp0⟩
                    exact ar_iret d_180_91 rfl rfl (Or.inl ⟨by unfold mayA; grind, rfl, hS9⟩)
                  · refine ar_iload_n 68 d_180_67 rfl rfl ?_
                    refine ar_sipush 71 (v := 8192) d_180_68 rfl (by decide) ?_
                    refine ar_icmp_gt 90 74 d_180_71 (by decide) rfl (fun cc58 => ?_) (fun cc58 => ?_)
                    · refine ar_iconst 91 (v := -1) d_180_90 rfl (by decide) ?_
                      have hS9 : RS m p al AL h0 h M := ⟨hF, hf, hn, hs, hp0⟩
                      exact ar_iret d_180_91 rfl rfl (Or.inl ⟨by unfold mayA; grind, rfl, hS9⟩)
                    · refine ar_iload_n 75 d_180_74 rfl rfl ?_
                      refine ar_iconst 76 (v := 4) d_180_75 rfl (by decide) ?_
                      refine ar_icmp_ne 92 79 d_180_76 (by decide) rfl (fun cc59 => ?_) (fun cc59 => ?_)
                      · have hma : mayA (M 11 0) (M 11 1) kd a b := by unfold mayA; grind
                        have hS1 : RS m p al AL h0 h M := ⟨hF, hf, hn, hs, hp0⟩
                        exact key hma h hS1
                      · refine ar_iload_n 80 d_180_79 rfl rfl ?_
                        refine ar_if_lt 90 83 d_180_80 (by decide) rfl (fun cc60 => ?_) (fun cc60 => ?_)
                        · refine ar_iconst 91 (v := -1) d_180_90 rfl (by decide) ?_
                          have hS9 : RS m p al AL h0 h M := ⟨hF, hf, hn, hs, hp0⟩
                          exact ar_iret d_180_91 rfl rfl (Or.inl ⟨by unfold mayA; grind, rfl, hS9⟩)
                        · refine ar_iload_n 84 d_180_83 rfl rfl ?_
                          refine ar_sipush 87 (v := 2048) d_180_84 rfl (by decide) ?_
                          refine ar_icmp_le 92 90 d_180_87 (by decide) rfl (fun cc61 => ?_) (fun cc61 => ?_)
                          · have hma : mayA (M 11 0) (M 11 1) kd a b := by unfold mayA; grind
                            have hS1 : RS m p al AL h0 h M := ⟨hF, hf, hn, hs, hp0⟩
                            exact key hma h hS1
                          · refine ar_iconst 91 (v := -1) d_180_90 rfl (by decide) ?_
                            have hS9 : RS m p al AL h0 h M := ⟨hF, hf, hn, hs, hp0⟩
                            exact ar_iret d_180_91 rfl rfl (Or.inl ⟨by unfold mayA; grind, rfl, hS9⟩)
                · refine ar_iload_n 59 d_180_58 rfl rfl ?_
                  refine ar_iconst 60 (v := 4) d_180_59 rfl (by decide) ?_
                  refine ar_icmp_ne 74 63 d_180_60 (by decide) rfl (fun cc62 => ?_) (fun cc62 => ?_)
                  · refine ar_iload_n 75 d_180_74 rfl rfl ?_
                    refine ar_iconst 76 (v := 4) d_180_75 rfl (by decide) ?_
                    refine ar_icmp_ne 92 79 d_180_76 (by decide) rfl (fun cc63 => ?_) (fun cc63 => ?_)
                    · have hma : mayA (M 11 0) (M 11 1) kd a b := by unfold mayA; grind
                      have hS1 : RS m p al AL h0 h M := ⟨hF, hf, hn, hs, hp0⟩
                      exact key hma h hS1
                    · refine ar_iload_n 80 d_180_79 rfl rfl ?_
                      refine ar_if_lt 90 83 d_180_80 (by decide) rfl (fun cc64 => ?_) (fun cc64 => ?_)
                      · refine ar_iconst 91 (v := -1) d_180_90 rfl (by decide) ?_
                        have hS9 : RS m p al AL h0 h M := ⟨hF, hf, hn, hs, hp0⟩
                        exact ar_iret d_180_91 rfl rfl (Or.inl ⟨by unfold mayA; grind, rfl, hS9⟩)
                      · refine ar_iload_n 84 d_180_83 rfl rfl ?_
                        refine ar_sipush 87 (v := 2048) d_180_84 rfl (by decide) ?_
                        refine ar_icmp_le 92 90 d_180_87 (by decide) rfl (fun cc65 => ?_) (fun cc65 => ?_)
                        · have hma : mayA (M 11 0) (M 11 1) kd a b := by unfold mayA; grind
                          have hS1 : RS m p al AL h0 h M := ⟨hF, hf, hn, hs, hp0⟩
                          exact key hma h hS1
                        · refine ar_iconst 91 (v := -1) d_180_90 rfl (by decide) ?_
                          have hS9 : RS m p al AL h0 h M := ⟨hF, hf, hn, hs, hp0⟩
                          exact ar_iret d_180_91 rfl rfl (Or.inl ⟨by unfold mayA; grind, rfl, hS9⟩)
                  · refine ar_iload_n 64 d_180_63 rfl rfl ?_
                    refine ar_if_lt 90 67 d_180_64 (by decide) rfl (fun cc66 => ?_) (fun cc66 => ?_)
                    · refine ar_iconst 91 (v := -1) d_180_90 rfl (by decide) ?_
                      have hS9 : RS m p al AL h0 h M := ⟨hF, hf, hn, hs, hp0⟩
                      exact ar_iret d_180_91 rfl rfl (Or.inl ⟨by unfold mayA; grind, rfl, hS9⟩)
                    · refine ar_iload_n 68 d_180_67 rfl rfl ?_
                      refine ar_sipush 71 (v := 8192) d_180_68 rfl (by decide) ?_
                      refine ar_icmp_gt 90 74 d_180_71 (by decide) rfl (fun cc67 => ?_) (fun cc67 => ?_)
                      · refine ar_iconst 91 (v := -1) d_180_90 rfl (by decide) ?_
                        have hS9 : RS m p al AL h0 h M := ⟨hF, hf, hn, hs, hp0⟩
                        exact ar_iret d_180_91 rfl rfl (Or.inl ⟨by unfold mayA; grind, rfl, hS9⟩)
                      · refine ar_iload_n 75 d_180_74 rfl rfl ?_
                        refine ar_iconst 76 (v := 4) d_180_75 rfl (by decide) ?_
                        refine ar_icmp_ne 92 79 d_180_76 (by decide) rfl (fun cc68 => ?_) (fun cc68 => ?_)
                        · have hma : mayA (M 11 0) (M 11 1) kd a b := by unfold mayA; grind
                          have hS1 : RS m p al AL h0 h M := ⟨hF, hf, hn, hs, hp0⟩
                          exact key hma h hS1
                        · refine ar_iload_n 80 d_180_79 rfl rfl ?_
                          refine ar_if_lt 90 83 d_180_80 (by decide) rfl (fun cc69 => ?_) (fun cc69 => ?_)
                          · refine ar_iconst 91 (v := -1) d_180_90 rfl (by decide) ?_
                            have hS9 : RS m p al AL h0 h M := ⟨hF, hf, hn, hs, hp0⟩
                            exact ar_iret d_180_91 rfl rfl (Or.inl ⟨by unfold mayA; grind, rfl, hS9⟩)
                          · refine ar_iload_n 84 d_180_83 rfl rfl ?_
                            refine ar_sipush 87 (v := 2048) d_180_84 rfl (by decide) ?_
                            refine ar_icmp_le 92 90 d_180_87 (by decide) rfl (fun cc70 => ?_) (fun cc70 => ?_)
                            · have hma : mayA (M 11 0) (M 11 1) kd a b := by unfold mayA; grind
                              have hS1 : RS m p al AL h0 h M := ⟨hF, hf, hn, hs, hp0⟩
                              exact key hma h hS1
                            · refine ar_iconst 91 (v := -1) d_180_90 rfl (by decide) ?_
                              have hS9 : RS m p al AL h0 h M := ⟨hF, hf, hn, hs, hp0⟩
                              exact ar_iret d_180_91 rfl rfl (Or.inl ⟨by unfold mayA; grind, rfl, hS9⟩)
            · refine ar_iconst 47 (v := -1) d_180_46 rfl (by decide) ?_
              have hS9 : RS m p al AL h0 h M := ⟨hF, hf, hn, hs, hp0⟩
              exact ar_iret d_180_47 rfl rfl (Or.inl ⟨by unfold mayA; grind, rfl, hS9⟩)
      · refine ar_aload_n 17 d_180_16 rfl rfl ?_
        refine ar_getf 20 d_180_17 rfl (ci := 11) (k := 11) rfl (hF.at 0 rfl) (show _ = some (.ref (p + 2)) from rfl) ?_
        refine ar_iconst 21 (v := 0) d_180_20 rfl (by decide) ?_
        refine ar_iald 22 d_180_21 rfl (hF.at 3 rfl) (vin (i := 0) (by omega) (by omega)) ?_
        refine ar_top (x' := M 11 0) (by rw [show (0 : Int32).toNatClampNeg = 0 by decide]) ?_
        refine ar_if_eq 46 25 d_180_22 (by decide) rfl (fun cc71 => ?_) (fun cc71 => ?_)
        · refine ar_iconst 47 (v := -1) d_180_46 rfl (by decide) ?_
          have hS9 : RS m p al AL h0 h M := ⟨hF, hf, hn, hs, hp0⟩
          exact ar_iret d_180_47 rfl rfl (Or.inl ⟨by unfold mayA; grind, rfl, hS9⟩)
        · refine ar_iload_n 26 d_180_25 rfl rfl ?_
          refine ar_bipush 28 (v := 6) d_180_26 rfl (by decide) ?_
          refine ar_icmp_eq 37 31 d_180_28 (by decide) rfl (fun cc72 => ?_) (fun cc72 => ?_)
          · refine ar_aload_n 38 d_180_37 rfl rfl ?_
            refine ar_getf 41 d_180_38 rfl (ci := 11) (k := 11) rfl (hF.at 0 rfl) (show _ = some (.ref (p + 2)) from rfl) ?_
            refine ar_iconst 42 (v := 1) d_180_41 rfl (by decide) ?_
            refine ar_iald 43 d_180_42 rfl (hF.at 3 rfl) (vin (i := 1) (by omega) (by omega)) ?_
            refine ar_top (x' := M 11 1) (by rw [show (1 : Int32).toNatClampNeg = 1 by decide]) ?_
            refine ar_if_ne 48 46 d_180_43 (by decide) rfl (fun cc73 => ?_) (fun cc73 => ?_)
            · refine ar_iload_n 49 d_180_48 rfl rfl ?_
              refine ar_iconst 50 (v := 1) d_180_49 rfl (by decide) ?_
              refine ar_icmp_eq 63 53 d_180_50 (by decide) rfl (fun cc74 => ?_) (fun cc74 => ?_)
              · refine ar_iload_n 64 d_180_63 rfl rfl ?_
                refine ar_if_lt 90 67 d_180_64 (by decide) rfl (fun cc75 => ?_) (fun cc75 => ?_)
                · refine ar_iconst 91 (v := -1) d_180_90 rfl (by decide) ?_
                  have hS9 : RS m p al AL h0 h M := ⟨hF, hf, hn, hs, hp0⟩
                  exact ar_iret d_180_91 rfl rfl (Or.inl ⟨by unfold mayA; grind, rfl, hS9⟩)
                · refine ar_iload_n 68 d_180_67 rfl rfl ?_
                  refine ar_sipush 71 (v := 8192) d_180_68 rfl (by decide) ?_
                  refine ar_icmp_gt 90 74 d_180_71 (by decide) rfl (fun cc76 => ?_) (fun cc76 => ?_)
                  · refine ar_iconst 91 (v := -1) d_180_90 rfl (by decide) ?_
                    have hS9 : RS m p al AL h0 h M := ⟨hF, hf, hn, hs, hp0⟩
                    exact ar_iret d_180_91 rfl rfl (Or.inl ⟨by unfold mayA; grind, rfl, hS9⟩)
                  · refine ar_iload_n 75 d_180_74 rfl rfl ?_
                    refine ar_iconst 76 (v := 4) d_180_75 rfl (by decide) ?_
                    refine ar_icmp_ne 92 79 d_180_76 (by decide) rfl (fun cc77 => ?_) (fun cc77 => ?_)
                    · have hma : mayA (M 11 0) (M 11 1) kd a b := by unfold mayA; grind
                      have hS1 : RS m p al AL h0 h M := ⟨hF, hf, hn, hs, hp0⟩
                      exact key hma h hS1
                    · refine ar_iload_n 80 d_180_79 rfl rfl ?_
                      refine ar_if_lt 90 83 d_180_80 (by decide) rfl (fun cc78 => ?_) (fun cc78 => ?_)
                      · refine ar_iconst 91 (v := -1) d_180_90 rfl (by decide) ?_
                        have hS9 : RS m p al AL h0 h M := ⟨hF, hf, hn, hs, hp0⟩
                        exact ar_iret d_180_91 rfl rfl (Or.inl ⟨by unfold mayA; grind, rfl, hS9⟩)
                      · refine ar_iload_n 84 d_180_83 rfl rfl ?_
                        refine ar_sipush 87 (v := 2048) d_180_84 rfl (by decide) ?_
                        refine ar_icmp_le 92 90 d_180_87 (by decide) rfl (fun cc79 => ?_) (fun cc79 => ?_)
                        · have hma : mayA (M 11 0) (M 11 1) kd a b := by unfold mayA; grind
                          have hS1 : RS m p al AL h0 h M := ⟨hF, hf, hn, hs, hp0⟩
                          exact key hma h hS1
                        · refine ar_iconst 91 (v := -1) d_180_90 rfl (by decide) ?_
                          have hS9 : RS m p al AL h0 h M := ⟨hF, hf, hn, hs, hp0⟩
                          exact ar_iret d_180_91 rfl rfl (Or.inl ⟨by unfold mayA; grind, rfl, hS9⟩)
              · refine ar_iload_n 54 d_180_53 rfl rfl ?_
                refine ar_iconst 55 (v := 3) d_180_54 rfl (by decide) ?_
                refine ar_icmp_eq 63 58 d_180_55 (by decide) rfl (fun cc80 => ?_) (fun cc80 => ?_)
                · refine ar_iload_n 64 d_180_63 rfl rfl ?_
                  refine ar_if_lt 90 67 d_180_64 (by decide) rfl (fun cc81 => ?_) (fun cc81 => ?_)
                  · refine ar_iconst 91 (v := -1) d_180_90 rfl (by decide) ?_
                    have hS9 : RS m p al AL h0 h M := ⟨hF, hf, hn, hs, hp0⟩
                    exact ar_iret d_180_91 rfl rfl (Or.inl ⟨by unfold mayA; grind, rfl, hS9⟩)
                  · refine ar_iload_n 68 d_180_67 rfl rfl ?_
                    refine ar_sipush 71 (v := 8192) d_180_68 rfl (by decide) ?_
                    refine ar_icmp_gt 90 74 d_180_71 (by decide) rfl (fun cc82 => ?_) (fun cc82 => ?_)
                    · refine ar_iconst 91 (v := -1) d_180_90 rfl (by decide) ?_
                      have hS9 : RS m p al AL h0 h M := ⟨hF, hf, hn, hs, hp0⟩
                      exact ar_iret d_180_91 rfl rfl (Or.inl ⟨by unfold mayA; grind, rfl, hS9⟩)
                    · refine ar_iload_n 75 d_180_74 rfl rfl ?_
                      refine ar_iconst 76 (v := 4) d_180_75 rfl (by decide) ?_
                      refine ar_icmp_ne 92 79 d_180_76 (by decide) rfl (fun cc83 => ?_) (fun cc83 => ?_)
                      · have hma : mayA (M 11 0) (M 11 1) kd a b := by unfold mayA; grind
                        have hS1 : RS m p al AL h0 h M := ⟨hF, hf, hn, hs, hp0⟩
                        exact key hma h hS1
                      · refine ar_iload_n 80 d_180_79 rfl rfl ?_
                        refine ar_if_lt 90 83 d_180_80 (by decide) rfl (fun cc84 => ?_) (fun cc84 => ?_)
                        · refine ar_iconst 91 (v := -1) d_180_90 rfl (by decide) ?_
                          have hS9 : RS m p al AL h0 h M := ⟨hF, hf, hn, hs, hp0⟩
                          exact ar_iret d_180_91 rfl rfl (Or.inl ⟨by unfold mayA; grind, rfl, hS9⟩)
                        · refine ar_iload_n 84 d_180_83 rfl rfl ?_
                          refine ar_sipush 87 (v := 2048) d_180_84 rfl (by decide) ?_
                          refine ar_icmp_le 92 90 d_180_87 (by decide) rfl (fun cc85 => ?_) (fun cc85 => ?_)
                          · have hma : mayA (M 11 0) (M 11 1) kd a b := by unfold mayA; grind
                            have hS1 : RS m p al AL h0 h M := ⟨hF, hf, hn, hs, hp0⟩
                            exact key hma h hS1
                          · refine ar_iconst 91 (v := -1) d_180_90 rfl (by decide) ?_
                            have hS9 : RS m p al AL h0 h M := ⟨hF, hf, hn, hs, hp0⟩
                            exact ar_iret d_180_91 rfl rfl (Or.inl ⟨by unfold mayA; grind, rfl, hS9⟩)
                · refine ar_iload_n 59 d_180_58 rfl rfl ?_
                  refine ar_iconst 60 (v := 4) d_180_59 rfl (by decide) ?_
                  refine ar_icmp_ne 74 63 d_180_60 (by decide) rfl (fun cc86 => ?_) (fun cc86 => ?_)
                  · refine ar_iload_n 75 d_180_74 rfl rfl ?_
                    refine ar_iconst 76 (v := 4) d_180_75 rfl (by decide) ?_
                    refine ar_icmp_ne 92 79 d_180_76 (by decide) rfl (fun cc87 => ?_) (fun cc87 => ?_)
                    · have hma : mayA (M 11 0) (M 11 1) kd a b := by unfold mayA; grind
                      have hS1 : RS m p al AL h0 h M := ⟨hF, hf, hn, hs, hp0⟩
                      exact key hma h hS1
                    · refine ar_iload_n 80 d_180_79 rfl rfl ?_
                      refine ar_if_lt 90 83 d_180_80 (by decide) rfl (fun cc88 => ?_) (fun cc88 => ?_)
                      · refine ar_iconst 91 (v := -1) d_180_90 rfl (by decide) ?_
                        have hS9 : RS m p al AL h0 h M := ⟨hF, hf, hn, hs, hp0⟩
                        exact ar_iret d_180_91 rfl rfl (Or.inl ⟨by unfold mayA; grind, rfl, hS9⟩)
                      · refine ar_iload_n 84 d_180_83 rfl rfl ?_
                        refine ar_sipush 87 (v := 2048) d_180_84 rfl (by decide) ?_
                        refine ar_icmp_le 92 90 d_180_87 (by decide) rfl (fun cc89 => ?_) (fun cc89 => ?_)
                        · have hma : mayA (M 11 0) (M 11 1) kd a b := by unfold mayA; grind
                          have hS1 : RS m p al AL h0 h M := ⟨hF, hf, hn, hs, hp0⟩
                          exact key hma h hS1
                        · refine ar_iconst 91 (v := -1) d_180_90 rfl (by decide) ?_
                          have hS9 : RS m p al AL h0 h M := ⟨hF, hf, hn, hs, hp0⟩
                          exact ar_iret d_180_91 rfl rfl (Or.inl ⟨by unfold mayA; grind, rfl, hS9⟩)
                  · refine ar_iload_n 64 d_180_63 rfl rfl ?_
                    refine ar_if_lt 90 67 d_180_64 (by decide) rfl (fun cc90 => ?_) (fun cc90 => ?_)
                    · refine ar_iconst 91 (v := -1) d_180_90 rfl (by decide) ?_
                      have hS9 : RS m p al AL h0 h M := ⟨hF, hf, hn, hs, hp0⟩
                      exact ar_iret d_180_91 rfl rfl (Or.inl ⟨by unfold mayA; grind, rfl, hS9⟩)
                    · refine ar_iload_n 68 d_180_67 rfl rfl ?_
                      refine ar_sipush 71 (v := 8192) d_180_68 rfl (by decide) ?_
                      refine ar_icmp_gt 90 74 d_180_71 (by decide) rfl (fun cc91 => ?_) (fun cc91 => ?_)
                      · refine ar_iconst 91 (v := -1) d_180_90 rfl (by decide) ?_
                        have hS9 : RS m p al AL h0 h M := ⟨hF, hf, hn, hs, hp0⟩
                        exact ar_iret d_180_91 rfl rfl (Or.inl ⟨by unfold mayA; grind, rfl, hS9⟩)
                      · refine ar_iload_n 75 d_180_74 rfl rfl ?_
                        refine ar_iconst 76 (v := 4) d_180_75 rfl (by decide) ?_
                        refine ar_icmp_ne 92 79 d_180_76 (by decide) rfl (fun cc92 => ?_) (fun cc92 => ?_)
                        · have hma : mayA (M 11 0) (M 11 1) kd a b := by unfold mayA; grind
                          have hS1 : RS m p al AL h0 h M := ⟨hF, hf, hn, hs, hp0⟩
                          exact key hma h hS1
                        · refine ar_iload_n 80 d_180_79 rfl rfl ?_
                          refine ar_if_lt 90 83 d_180_80 (by decide) rfl (fun cc93 => ?_) (fun cc93 => ?_)
                          · refine ar_iconst 91 (v := -1) d_180_90 rfl (by decide) ?_
                            have hS9 : RS m p al AL h0 h M := ⟨hF, hf, hn, hs, hp0⟩
                            exact ar_iret d_180_91 rfl rfl (Or.inl ⟨by unfold mayA; grind, rfl, hS9⟩)
                          · refine ar_iload_n 84 d_180_83 rfl rfl ?_
                            refine ar_sipush 87 (v := 2048) d_180_84 rfl (by decide) ?_
                            refine ar_icmp_le 92 90 d_180_87 (by decide) rfl (fun cc94 => ?_) (fun cc94 => ?_)
                            · have hma : mayA (M 11 0) (M 11 1) kd a b := by unfold mayA; grind
                              have hS1 : RS m p al AL h0 h M := ⟨hF, hf, hn, hs, hp0⟩
                              exact key hma h hS1
                            · refine ar_iconst 91 (v := -1) d_180_90 rfl (by decide) ?_
                              have hS9 : RS m p al AL h0 h M := ⟨hF, hf, hn, hs, hp0⟩
                              exact ar_iret d_180_91 rfl rfl (Or.inl ⟨by unfold mayA; grind, rfl, hS9⟩)
            · refine ar_iconst 47 (v := -1) d_180_46 rfl (by decide) ?_
              have hS9 : RS m p al AL h0 h M := ⟨hF, hf, hn, hs, hp0⟩
              exact ar_iret d_180_47 rfl rfl (Or.inl ⟨by unfold mayA; grind, rfl, hS9⟩)
          · refine ar_iload_n 32 d_180_31 rfl rfl ?_
            refine ar_bipush 34 (v := 7) d_180_32 rfl (by decide) ?_
            refine ar_icmp_ne 48 37 d_180_34 (by decide) rfl (fun cc95 => ?_) (fun cc95 => ?_)
            · refine ar_iload_n 49 d_180_48 rfl rfl ?_
              refine ar_iconst 50 (v := 1) d_180_49 rfl (by decide) ?_
              refine ar_icmp_eq 63 53 d_180_50 (by decide) rfl (fun cc96 => ?_) (fun cc96 => ?_)
              · refine ar_iload_n 64 d_180_63 rfl rfl ?_
                refine ar_if_lt 90 67 d_180_64 (by decide) rfl (fun cc97 => ?_) (fun cc97 => ?_)
                · refine ar_iconst 91 (v := -1) d_180_90 rfl (by decide) ?_
                  have hS9 : RS m p al AL h0 h M := ⟨hF, hf, hn, hs, hp0⟩
                  exact ar_iret d_180_91 rfl rfl (Or.inl ⟨by unfold mayA; grind, rfl, hS9⟩)
                · refine ar_iload_n 68 d_180_67 rfl rfl ?_
                  refine ar_sipush 71 (v := 8192) d_180_68 rfl (by decide) ?_
                  refine ar_icmp_gt 90 74 d_180_71 (by decide) rfl (fun cc98 => ?_) (fun cc98 => ?_)
                  · refine ar_iconst 91 (v := -1) d_180_90 rfl (by decide) ?_
                    have hS9 : RS m p al AL h0 h M := ⟨hF, hf, hn, hs, hp0⟩
                    exact ar_iret d_180_91 rfl rfl (Or.inl ⟨by unfold mayA; grind, rfl, hS9⟩)
                  · refine ar_iload_n 75 d_180_74 rfl rfl ?_
                    refine ar_iconst 76 (v := 4) d_180_75 rfl (by decide) ?_
                    refine ar_icmp_ne 92 79 d_180_76 (by decide) rfl (fun cc99 => ?_) (fun cc99 => ?_)
                    · have hma : mayA (M 11 0) (M 11 1) kd a b := by unfold mayA; grind
                      have hS1 : RS m p al AL h0 h M := ⟨hF, hf, hn, hs, hp0⟩
                      exact key hma h hS1
                    · refine ar_iload_n 80 d_180_79 rfl rfl ?_
                      refine ar_if_lt 90 83 d_180_80 (by decide) rfl (fun cc100 => ?_) (fun cc100 => ?_)
                      · refine ar_iconst 91 (v := -1) d_180_90 rfl (by decide) ?_
                        have hS9 : RS m p al AL h0 h M := ⟨hF, hf, hn, hs, hp0⟩
                        exact ar_iret d_180_91 rfl rfl (Or.inl ⟨by unfold mayA; grind, rfl, hS9⟩)
                      · refine ar_iload_n 84 d_180_83 rfl rfl ?_
                        refine ar_sipush 87 (v := 2048) d_180_84 rfl (by decide) ?_
                        refine ar_icmp_le 92 90 d_180_87 (by decide) rfl (fun cc101 => ?_) (fun cc101 => ?_)
                        · have hma : mayA (M 11 0) (M 11 1) kd a b := by unfold mayA; grind
                          have hS1 : RS m p al AL h0 h M := ⟨hF, hf, hn, hs, hp0⟩
                          exact key hma h hS1
                        · refine ar_iconst 91 (v := -1) d_180_90 rfl (by decide) ?_
                          have hS9 : RS m p al AL h0 h M := ⟨hF, hf, hn, hs, hp0⟩
                          exact ar_iret d_180_91 rfl rfl (Or.inl ⟨by unfold mayA; grind, rfl, hS9⟩)
              · refine ar_iload_n 54 d_180_53 rfl rfl ?_
                refine ar_iconst 55 (v := 3) d_180_54 rfl (by decide) ?_
                refine ar_icmp_eq 63 58 d_180_55 (by decide) rfl (fun cc102 => ?_) (fun cc102 => ?_)
                · refine ar_iload_n 64 d_180_63 rfl rfl ?_
                  refine ar_if_lt 90 67 d_180_64 (by decide) rfl (fun cc103 => ?_) (fun cc103 => ?_)
                  · refine ar_iconst 91 (v := -1) d_180_90 rfl (by decide) ?_
                    have hS9 : RS m p al AL h0 h M := ⟨hF, hf, hn, hs, hp0⟩
                    exact ar_iret d_180_91 rfl rfl (Or.inl ⟨by unfold mayA; grind, rfl, hS9⟩)
                  · refine ar_iload_n 68 d_180_67 rfl rfl ?_
                    refine ar_sipush 71 (v := 8192) d_180_68 rfl (by decide) ?_
                    refine ar_icmp_gt 90 74 d_180_71 (by decide) rfl (fun cc104 => ?_) (fun cc104 => ?_)
                    · refine ar_iconst 91 (v := -1) d_180_90 rfl (by decide) ?_
                      have hS9 : RS m p al AL h0 h M := ⟨hF, hf, hn, hs, hp0⟩
                      exact ar_iret d_180_91 rfl rfl (Or.inl ⟨by unfold mayA; grind, rfl, hS9⟩)
                    · refine ar_iload_n 75 d_180_74 rfl rfl ?_
                      refine ar_iconst 76 (v := 4) d_180_75 rfl (by decide) ?_
                      refine ar_icmp_ne 92 79 d_180_76 (by decide) rfl (fun cc105 => ?_) (fun cc105 => ?_)
                      · have hma : mayA (M 11 0) (M 11 1) kd a b := by unfold mayA; grind
                        have hS1 : RS m p al AL h0 h M := ⟨hF, hf, hn, hs, hp0⟩
                        exact key hma h hS1
                      · refine ar_iload_n 80 d_180_79 rfl rfl ?_
                        refine ar_if_lt 90 83 d_180_80 (by decide) rfl (fun cc106 => ?_) (fun cc106 => ?_)
                        · refine ar_iconst 91 (v := -1) d_180_90 rfl (by decide) ?_
                          have hS9 : RS m p al AL h0 h M := ⟨hF, hf, hn, hs, hp0⟩
                          exact ar_iret d_180_91 rfl rfl (Or.inl ⟨by unfold mayA; grind, rfl, hS9⟩)
                        · refine ar_iload_n 84 d_180_83 rfl rfl ?_
                          refine ar_sipush 87 (v := 2048) d_180_84 rfl (by decide) ?_
                          refine ar_icmp_le 92 90 d_180_87 (by decide) rfl (fun cc107 => ?_) (fun cc107 => ?_)
                          · have hma : mayA (M 11 0) (M 11 1) kd a b := by unfold mayA; grind
                            have hS1 : RS m p al AL h0 h M := ⟨hF, hf, hn, hs, hp0⟩
                            exact key hma h hS1
                          · refine ar_iconst 91 (v := -1) d_180_90 rfl (by decide) ?_
                            have hS9 : RS m p al AL h0 h M := ⟨hF, hf, hn, hs, hp0⟩
                            exact ar_iret d_180_91 rfl rfl (Or.inl ⟨by unfold mayA; grind, rfl, hS9⟩)
                · refine ar_iload_n 59 d_180_58 rfl rfl ?_
                  refine ar_iconst 60 (v := 4) d_180_59 rfl (by decide) ?_
                  refine ar_icmp_ne 74 63 d_180_60 (by decide) rfl (fun cc108 => ?_) (fun cc108 => ?_)
                  · refine ar_iload_n 75 d_180_74 rfl rfl ?_
                    refine ar_iconst 76 (v := 4) d_180_75 rfl (by decide) ?_
                    refine ar_icmp_ne 92 79 d_180_76 (by decide) rfl (fun cc109 => ?_) (fun cc109 => ?_)
                    · have hma : mayA (M 11 0) (M 11 1) kd a b := by unfold mayA; grind
                      have hS1 : RS m p al AL h0 h M := ⟨hF, hf, hn, hs, hp0⟩
                      exact key hma h hS1
                    · refine ar_iload_n 80 d_180_79 rfl rfl ?_
                      refine ar_if_lt 90 83 d_180_80 (by decide) rfl (fun cc110 => ?_) (fun cc110 => ?_)
                      · refine ar_iconst 91 (v := -1) d_180_90 rfl (by decide) ?_
                        have hS9 : RS m p al AL h0 h M := ⟨hF, hf, hn, hs, hp0⟩
                        exact ar_iret d_180_91 rfl rfl (Or.inl ⟨by unfold mayA; grind, rfl, hS9⟩)
                      · refine ar_iload_n 84 d_180_83 rfl rfl ?_
                        refine ar_sipush 87 (v := 2048) d_180_84 rfl (by decide) ?_
                        refine ar_icmp_le 92 90 d_180_87 (by decide) rfl (fun cc111 => ?_) (fun cc111 => ?_)
                        · have hma : mayA (M 11 0) (M 11 1) kd a b := by unfold mayA; grind
                          have hS1 : RS m p al AL h0 h M := ⟨hF, hf, hn, hs, hp0⟩
                          exact key hma h hS1
                        · refine ar_iconst 91 (v := -1) d_180_90 rfl (by decide) ?_
                          have hS9 : RS m p al AL h0 h M := ⟨hF, hf, hn, hs, hp0⟩
                          exact ar_iret d_180_91 rfl rfl (Or.inl ⟨by unfold mayA; grind, rfl, hS9⟩)
                  · refine ar_iload_n 64 d_180_63 rfl rfl ?_
                    refine ar_if_lt 90 67 d_180_64 (by decide) rfl (fun cc112 => ?_) (fun cc112 => ?_)
                    · refine ar_iconst 91 (v := -1) d_180_90 rfl (by decide) ?_
                      have hS9 : RS m p al AL h0 h M := ⟨hF, hf, hn, hs, hp0⟩
                      exact ar_iret d_180_91 rfl rfl (Or.inl ⟨by unfold mayA; grind, rfl, hS9⟩)
                    · refine ar_iload_n 68 d_180_67 rfl rfl ?_
                      refine ar_sipush 71 (v := 8192) d_180_68 rfl (by decide) ?_
                      refine ar_icmp_gt 90 74 d_180_71 (by decide) rfl (fun cc113 => ?_) (fun cc113 => ?_)
                      · refine ar_iconst 91 (v := -1) d_180_90 rfl (by decide) ?_
                        have hS9 : RS m p al AL h0 h M := ⟨hF, hf, hn, hs, hp0⟩
                        exact ar_iret d_180_91 rfl rfl (Or.inl ⟨by unfold mayA; grind, rfl, hS9⟩)
                      · refine ar_iload_n 75 d_180_74 rfl rfl ?_
                        refine ar_iconst 76 (v := 4) d_180_75 rfl (by decide) ?_
                        refine ar_icmp_ne 92 79 d_180_76 (by decide) rfl (fun cc114 => ?_) (fun cc114 => ?_)
                        · have hma : mayA (M 11 0) (M 11 1) kd a b := by unfold mayA; grind
                          have hS1 : RS m p al AL h0 h M := ⟨hF, hf, hn, hs, hp0⟩
                          exact key hma h hS1
                        · refine ar_iload_n 80 d_180_79 rfl rfl ?_
                          refine ar_if_lt 90 83 d_180_80 (by decide) rfl (fun cc115 => ?_) (fun cc115 => ?_)
                          · refine ar_iconst 91 (v := -1) d_180_90 rfl (by decide) ?_
                            have hS9 : RS m p al AL h0 h M := ⟨hF, hf, hn, hs, hp0⟩
                            exact ar_iret d_180_91 rfl rfl (Or.inl ⟨by unfold mayA; grind, rfl, hS9⟩)
                          · refine ar_iload_n 84 d_180_83 rfl rfl ?_
                            refine ar_sipush 87 (v := 2048) d_180_84 rfl (by decide) ?_
                            refine ar_icmp_le 92 90 d_180_87 (by decide) rfl (fun cc116 => ?_) (fun cc116 => ?_)
                            · have hma : mayA (M 11 0) (M 11 1) kd a b := by unfold mayA; grind
                              have hS1 : RS m p al AL h0 h M := ⟨hF, hf, hn, hs, hp0⟩
                              exact key hma h hS1
                            · refine ar_iconst 91 (v := -1) d_180_90 rfl (by decide) ?_
                              have hS9 : RS m p al AL h0 h M := ⟨hF, hf, hn, hs, hp0⟩
                              exact ar_iret d_180_91 rfl rfl (Or.inl ⟨by unfold mayA; grind, rfl, hS9⟩)
            · refine ar_aload_n 38 d_180_37 rfl rfl ?_
              refine ar_getf 41 d_180_38 rfl (ci := 11) (k := 11) rfl (hF.at 0 rfl) (show _ = some (.ref (p + 2)) from rfl) ?_
              refine ar_iconst 42 (v := 1) d_180_41 rfl (by decide) ?_
              refine ar_iald 43 d_180_42 rfl (hF.at 3 rfl) (vin (i := 1) (by omega) (by omega)) ?_
              refine ar_top (x' := M 11 1) (by rw [show (1 : Int32).toNatClampNeg = 1 by decide]) ?_
              refine ar_if_ne 48 46 d_180_43 (by decide) rfl (fun cc117 => ?_) (fun cc117 => ?_)
              · refine ar_iload_n 49 d_180_48 rfl rfl ?_
                refine ar_iconst 50 (v := 1) d_180_49 rfl (by decide) ?_
                refine ar_icmp_eq 63 53 d_180_50 (by decide) rfl (fun cc118 => ?_) (fun cc118 => ?_)
                · refine ar_iload_n 64 d_180_63 rfl rfl ?_
                  refine ar_if_lt 90 67 d_180_64 (by decide) rfl (fun cc119 => ?_) (fun cc119 => ?_)
                  · refine ar_iconst 91 (v := -1) d_180_90 rfl (by decide) ?_
                    have hS9 : RS m p al AL h0 h M := ⟨hF, hf, hn, hs, hp0⟩
                    exact ar_iret d_180_91 rfl rfl (Or.inl ⟨by unfold mayA; grind, rfl, hS9⟩)
                  · refine ar_iload_n 68 d_180_67 rfl rfl ?_
                    refine ar_sipush 71 (v := 8192) d_180_68 rfl (by decide) ?_
                    refine ar_icmp_gt 90 74 d_180_71 (by decide) rfl (fun cc120 => ?_) (fun cc120 => ?_)
                    · refine ar_iconst 91 (v := -1) d_180_90 rfl (by decide) ?_
                      have hS9 : RS m p al AL h0 h M := ⟨hF, hf, hn, hs, hp0⟩
                      exact ar_iret d_180_91 rfl rfl (Or.inl ⟨by unfold mayA; grind, rfl, hS9⟩)
                    · refine ar_iload_n 75 d_180_74 rfl rfl ?_
                      refine ar_iconst 76 (v := 4) d_180_75 rfl (by decide) ?_
                      refine ar_icmp_ne 92 79 d_180_76 (by decide) rfl (fun cc121 => ?_) (fun cc121 => ?_)
                      · have hma : mayA (M 11 0) (M 11 1) kd a b := by unfold mayA; grind
                        have hS1 : RS m p al AL h0 h M := ⟨hF, hf, hn, hs, hp0⟩
                        exact key hma h hS1
                      · refine ar_iload_n 80 d_180_79 rfl rfl ?_
                        refine ar_if_lt 90 83 d_180_80 (by decide) rfl (fun cc122 => ?_) (fun cc122 => ?_)
                        · refine ar_iconst 91 (v := -1) d_180_90 rfl (by decide) ?_
                          have hS9 : RS m p al AL h0 h M := ⟨hF, hf, hn, hs, hp0⟩
                          exact ar_iret d_180_91 rfl rfl (Or.inl ⟨by unfold mayA; grind, rfl, hS9⟩)
                        · refine ar_iload_n 84 d_180_83 rfl rfl ?_
                          refine ar_sipush 87 (v := 2048) d_180_84 rfl (by decide) ?_
                          refine ar_icmp_le 92 90 d_180_87 (by decide) rfl (fun cc123 => ?_) (fun cc123 => ?_)
                          · have hma : mayA (M 11 0) (M 11 1) kd a b := by unfold mayA; grind
                            have hS1 : RS m p al AL h0 h M := ⟨hF, hf, hn, hs, hp0⟩
                            exact key hma h hS1
                          · refine ar_iconst 91 (v := -1) d_180_90 rfl (by decide) ?_
                            have hS9 : RS m p al AL h0 h M := ⟨hF, hf, hn, hs, hp0⟩
                            exact ar_iret d_180_91 rfl rfl (Or.inl ⟨by unfold mayA; grind, rfl, hS9⟩)
                · refine ar_iload_n 54 d_180_53 rfl rfl ?_
                  refine ar_iconst 55 (v := 3) d_180_54 rfl (by decide) ?_
                  refine ar_icmp_eq 63 58 d_180_55 (by decide) rfl (fun cc124 => ?_) (fun cc124 => ?_)
                  · refine ar_iload_n 64 d_180_63 rfl rfl ?_
                    refine ar_if_lt 90 67 d_180_64 (by decide) rfl (fun cc125 => ?_) (fun cc125 => ?_)
                    · refine ar_iconst 91 (v := -1) d_180_90 rfl (by decide) ?_
                      have hS9 : RS m p al AL h0 h M := ⟨hF, hf, hn, hs, hp0⟩
                      exact ar_iret d_180_91 rfl rfl (Or.inl ⟨by unfold mayA; grind, rfl, hS9⟩)
                    · refine ar_iload_n 68 d_180_67 rfl rfl ?_
                      refine ar_sipush 71 (v := 8192) d_180_68 rfl (by decide) ?_
                      refine ar_icmp_gt 90 74 d_180_71 (by decide) rfl (fun cc126 => ?_) (fun cc126 => ?_)
                      · refine ar_iconst 91 (v := -1) d_180_90 rfl (by decide) ?_
                        have hS9 : RS m p al AL h0 h M := ⟨hF, hf, hn, hs, hp0⟩
                        exact ar_iret d_180_91 rfl rfl (Or.inl ⟨by unfold mayA; grind, rfl, hS9⟩)
                      · refine ar_iload_n 75 d_180_74 rfl rfl ?_
                        refine ar_iconst 76 (v := 4) d_180_75 rfl (by decide) ?_
                        refine ar_icmp_ne 92 79 d_180_76 (by decide) rfl (fun cc127 => ?_) (fun cc127 => ?_)
                        · have hma : mayA (M 11 0) (M 11 1) kd a b := by unfold mayA; grind
                          have hS1 : RS m p al AL h0 h M := ⟨hF, hf, hn, hs, hp0⟩
                          exact key hma h hS1
                        · refine ar_iload_n 80 d_180_79 rfl rfl ?_
                          refine ar_if_lt 90 83 d_180_80 (by decide) rfl (fun cc128 => ?_) (fun cc128 => ?_)
                          · refine ar_iconst 91 (v := -1) d_180_90 rfl (by decide) ?_
                            have hS9 : RS m p al AL h0 h M := ⟨hF, hf, hn, hs, hp0⟩
                            exact ar_iret d_180_91 rfl rfl (Or.inl ⟨by unfold mayA; grind, rfl, hS9⟩)
                          · refine ar_iload_n 84 d_180_83 rfl rfl ?_
                            refine ar_sipush 87 (v := 2048) d_180_84 rfl (by decide) ?_
                            refine ar_icmp_le 92 90 d_180_87 (by decide) rfl (fun cc129 => ?_) (fun cc129 => ?_)
                            · have hma : mayA (M 11 0) (M 11 1) kd a b := by unfold mayA; grind
                              have hS1 : RS m p al AL h0 h M := ⟨hF, hf, hn, hs, hp0⟩
                              exact key hma h hS1
                            · refine ar_iconst 91 (v := -1) d_180_90 rfl (by decide) ?_
                              have hS9 : RS m p al AL h0 h M := ⟨hF, hf, hn, hs, hp0⟩
                              exact ar_iret d_180_91 rfl rfl (Or.inl ⟨by unfold mayA; grind, rfl, hS9⟩)
                  · refine ar_iload_n 59 d_180_58 rfl rfl ?_
                    refine ar_iconst 60 (v := 4) d_180_59 rfl (by decide) ?_
                    refine ar_icmp_ne 74 63 d_180_60 (by decide) rfl (fun cc130 => ?_) (fun cc130 => ?_)
                    · refine ar_iload_n 75 d_180_74 rfl rfl ?_
                      refine ar_iconst 76 (v := 4) d_180_75 rfl (by decide) ?_
                      refine ar_icmp_ne 92 79 d_180_76 (by decide) rfl (fun cc131 => ?_) (fun cc131 => ?_)
                      · have hma : mayA (M 11 0) (M 11 1) kd a b := by unfold mayA; grind
                        have hS1 : RS m p al AL h0 h M := ⟨hF, hf, hn, hs, hp0⟩
                        exact key hma h hS1
                      · refine ar_iload_n 80 d_180_79 rfl rfl ?_
                        refine ar_if_lt 90 83 d_180_80 (by decide) rfl (fun cc132 => ?_) (fun cc132 => ?_)
                        · refine ar_iconst 91 (v := -1) d_180_90 rfl (by decide) ?_
                          have hS9 : RS m p al AL h0 h M := ⟨hF, hf, hn, hs, hp0⟩
                          exact ar_iret d_180_91 rfl rfl (Or.inl ⟨by unfold mayA; grind, rfl, hS9⟩)
                        · refine ar_iload_n 84 d_180_83 rfl rfl ?_
                          refine ar_sipush 87 (v := 2048) d_180_84 rfl (by decide) ?_
                          refine ar_icmp_le 92 90 d_180_87 (by decide) rfl (fun cc133 => ?_) (fun cc133 => ?_)
                          · have hma : mayA (M 11 0) (M 11 1) kd a b := by unfold mayA; grind
                            have hS1 : RS m p al AL h0 h M := ⟨hF, hf, hn, hs, hp0⟩
                            exact key hma h hS1
                          · refine ar_iconst 91 (v := -1) d_180_90 rfl (by decide) ?_
                            have hS9 : RS m p al AL h0 h M := ⟨hF, hf, hn, hs, hp0⟩
                            exact ar_iret d_180_91 rfl rfl (Or.inl ⟨by unfold mayA; grind, rfl, hS9⟩)
                    · refine ar_iload_n 64 d_180_63 rfl rfl ?_
                      refine ar_if_lt 90 67 d_180_64 (by decide) rfl (fun cc134 => ?_) (fun cc134 => ?_)
                      · refine ar_iconst 91 (v := -1) d_180_90 rfl (by decide) ?_
                        have hS9 : RS m p al AL h0 h M := ⟨hF, hf, hn, hs, hp0⟩
                        exact ar_iret d_180_91 rfl rfl (Or.inl ⟨by unfold mayA; grind, rfl, hS9⟩)
                      · refine ar_iload_n 68 d_180_67 rfl rfl ?_
                        refine ar_sipush 71 (v := 8192) d_180_68 rfl (by decide) ?_
                        refine ar_icmp_gt 90 74 d_180_71 (by decide) rfl (fun cc135 => ?_) (fun cc135 => ?_)
                        · refine ar_iconst 91 (v := -1) d_180_90 rfl (by decide) ?_
                          have hS9 : RS m p al AL h0 h M := ⟨hF, hf, hn, hs, hp0⟩
                          exact ar_iret d_180_91 rfl rfl (Or.inl ⟨by unfold mayA; grind, rfl, hS9⟩)
                        · refine ar_iload_n 75 d_180_74 rfl rfl ?_
                          refine ar_iconst 76 (v := 4) d_180_75 rfl (by decide) ?_
                          refine ar_icmp_ne 92 79 d_180_76 (by decide) rfl (fun cc136 => ?_) (fun cc136 => ?_)
                          · have hma : mayA (M 11 0) (M 11 1) kd a b := by unfold mayA; grind
                            have hS1 : RS m p al AL h0 h M := ⟨hF, hf, hn, hs, hp0⟩
                            exact key hma h hS1
                          · refine ar_iload_n 80 d_180_79 rfl rfl ?_
                            refine ar_if_lt 90 83 d_180_80 (by decide) rfl (fun cc137 => ?_) (fun cc137 => ?_)
                            · refine ar_iconst 91 (v := -1) d_180_90 rfl (by decide) ?_
                              have hS9 : RS m p al AL h0 h M := ⟨hF, hf, hn, hs, hp0⟩
                              exact ar_iret d_180_91 rfl rfl (Or.inl ⟨by unfold mayA; grind, rfl, hS9⟩)
                            · refine ar_iload_n 84 d_180_83 rfl rfl ?_
                              refine ar_sipush 87 (v := 2048) d_180_84 rfl (by decide) ?_
                              refine ar_icmp_le 92 90 d_180_87 (by decide) rfl (fun cc138 => ?_) (fun cc138 => ?_)
                              · have hma : mayA (M 11 0) (M 11 1) kd a b := by unfold mayA; grind
                                have hS1 : RS m p al AL h0 h M := ⟨hF, hf, hn, hs, hp0⟩
                                exact key hma h hS1
                              · refine ar_iconst 91 (v := -1) d_180_90 rfl (by decide) ?_
                                have hS9 : RS m p al AL h0 h M := ⟨hF, hf, hn, hs, hp0⟩
                                exact ar_iret d_180_91 rfl rfl (Or.inl ⟨by unfold mayA; grind, rfl, hS9⟩)
              · refine ar_iconst 47 (v := -1) d_180_46 rfl (by decide) ?_
                have hS9 : RS m p al AL h0 h M := ⟨hF, hf, hn, hs, hp0⟩
                exact ar_iret d_180_47 rfl rfl (Or.inl ⟨by unfold mayA; grind, rfl, hS9⟩)


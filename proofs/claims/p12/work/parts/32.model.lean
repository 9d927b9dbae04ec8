/-! the reference: its constructor; the law's cell -/
theorem d_174_0 : decode (axt_b 174) 0 = .ok (.iload_n 1, 1) := by decide +kernel
theorem d_174_1 : decode (axt_b 174) 1 = .ok (.aload_n 0, 1) := by decide +kernel
theorem d_174_2 : decode (axt_b 174) 2 = .ok (.arraylength, 1) := by decide +kernel
theorem d_174_3 : decode (axt_b 174) 3 = .ok (.if_icmp .ge 9, 3) := by decide +kernel
theorem d_174_6 : decode (axt_b 174) 6 = .ok (.aload_n 0, 1) := by decide +kernel
theorem d_174_7 : decode (axt_b 174) 7 = .ok (.iload_n 1, 1) := by decide +kernel
theorem d_174_8 : decode (axt_b 174) 8 = .ok (.iaload, 1) := by decide +kernel
theorem d_174_9 : decode (axt_b 174) 9 = .ok (.goto 4, 3) := by decide +kernel
theorem d_174_12 : decode (axt_b 174) 12 = .ok (.iconst 0, 1) := by decide +kernel
theorem d_174_13 : decode (axt_b 174) 13 = .ok (.ireturn, 1) := by decide +kernel
theorem d_175_0 : decode (axt_b 175) 0 = .ok (.aload_n 0, 1) := by decide +kernel
theorem d_175_1 : decode (axt_b 175) 1 = .ok (.invokespecial 1, 3) := by decide +kernel
theorem d_175_4 : decode (axt_b 175) 4 = .ok (.aload_n 0, 1) := by decide +kernel
theorem d_175_5 : decode (axt_b 175) 5 = .ok (.iconst 1, 1) := by decide +kernel
theorem d_175_6 : decode (axt_b 175) 6 = .ok (.putfield 7, 3) := by decide +kernel
theorem d_175_9 : decode (axt_b 175) 9 = .ok (.aload_n 0, 1) := by decide +kernel
theorem d_175_10 : decode (axt_b 175) 10 = .ok (.sipush 2048, 3) := by decide +kernel
theorem d_175_13 : decode (axt_b 175) 13 = .ok (.newarray .byte, 2) := by decide +kernel
theorem d_175_15 : decode (axt_b 175) 15 = .ok (.putfield 13, 3) := by decide +kernel
theorem d_175_18 : decode (axt_b 175) 18 = .ok (.aload_n 0, 1) := by decide +kernel
theorem d_175_19 : decode (axt_b 175) 19 = .ok (.sipush 400, 3) := by decide +kernel
theorem d_175_22 : decode (axt_b 175) 22 = .ok (.newarray .byte, 2) := by decide +kernel
theorem d_175_24 : decode (axt_b 175) 24 = .ok (.putfield 17, 3) := by decide +kernel
theorem d_175_27 : decode (axt_b 175) 27 = .ok (.aload_n 0, 1) := by decide +kernel
theorem d_175_28 : decode (axt_b 175) 28 = .ok (.iconst 2, 1) := by decide +kernel
theorem d_175_29 : decode (axt_b 175) 29 = .ok (.newarray .int, 2) := by decide +kernel
theorem d_175_31 : decode (axt_b 175) 31 = .ok (.putfield 20, 3) := by decide +kernel
theorem d_175_34 : decode (axt_b 175) 34 = .ok (.aload_n 0, 1) := by decide +kernel
theorem d_175_35 : decode (axt_b 175) 35 = .ok (.bipush 48, 2) := by decide +kernel
theorem d_175_37 : decode (axt_b 175) 37 = .ok (.newarray .int, 2) := by decide +kernel
theorem d_175_39 : decode (axt_b 175) 39 = .ok (.putfield 24, 3) := by decide +kernel
theorem d_175_42 : decode (axt_b 175) 42 = .ok (.aload_n 0, 1) := by decide +kernel
theorem d_175_43 : decode (axt_b 175) 43 = .ok (.bipush 48, 2) := by decide +kernel
theorem d_175_45 : decode (axt_b 175) 45 = .ok (.newarray .boolean, 2) := by decide +kernel
theorem d_175_47 : decode (axt_b 175) 47 = .ok (.putfield 27, 3) := by decide +kernel
theorem d_175_50 : decode (axt_b 175) 50 = .ok (.aload_n 0, 1) := by decide +kernel
theorem d_175_51 : decode (axt_b 175) 51 = .ok (.sipush 9600, 3) := by decide +kernel
theorem d_175_54 : decode (axt_b 175) 54 = .ok (.newarray .byte, 2) := by decide +kernel
theorem d_175_56 : decode (axt_b 175) 56 = .ok (.putfield 31, 3) := by decide +kernel
theorem d_175_59 : decode (axt_b 175) 59 = .ok (.aload_n 0, 1) := by decide +kernel
theorem d_175_60 : decode (axt_b 175) 60 = .ok (.bipush 48, 2) := by decide +kernel
theorem d_175_62 : decode (axt_b 175) 62 = .ok (.newarray .int, 2) := by decide +kernel
theorem d_175_64 : decode (axt_b 175) 64 = .ok (.putfield 34, 3) := by decide +kernel
theorem d_175_67 : decode (axt_b 175) 67 = .ok (.aload_n 0, 1) := by decide +kernel
theorem d_175_68 : decode (axt_b 175) 68 = .ok (.bipush 48, 2) := by decide +kernel
theorem d_175_70 : decode (axt_b 175) 70 = .ok (.newarray .int, 2) := by decide +kernel
theorem d_175_72 : decode (axt_b 175) 72 = .ok (.putfield 37, 3) := by decide +kernel
theorem d_175_75 : decode (axt_b 175) 75 = .ok (.aload_n 0, 1) := by decide +kernel
theorem d_175_76 : decode (axt_b 175) 76 = .ok (.bipush 48, 2) := by decide +kernel
theorem d_175_78 : decode (axt_b 175) 78 = .ok (.newarray .int, 2) := by decide +kernel
theorem d_175_80 : decode (axt_b 175) 80 = .ok (.putfield 40, 3) := by decide +kernel
theorem d_175_83 : decode (axt_b 175) 83 = .ok (.aload_n 0, 1) := by decide +kernel
theorem d_175_84 : decode (axt_b 175) 84 = .ok (.ldc 43, 2) := by decide +kernel
theorem d_175_86 : decode (axt_b 175) 86 = .ok (.newarray .byte, 2) := by decide +kernel
theorem d_175_88 : decode (axt_b 175) 88 = .ok (.putfield 44, 3) := by decide +kernel
theorem d_175_91 : decode (axt_b 175) 91 = .ok (.aload_n 0, 1) := by decide +kernel
theorem d_175_92 : decode (axt_b 175) 92 = .ok (.sipush 912, 3) := by decide +kernel
theorem d_175_95 : decode (axt_b 175) 95 = .ok (.newarray .boolean, 2) := by decide +kernel
theorem d_175_97 : decode (axt_b 175) 97 = .ok (.putfield 47, 3) := by decide +kernel
theorem d_175_100 : decode (axt_b 175) 100 = .ok (.aload_n 0, 1) := by decide +kernel
theorem d_175_101 : decode (axt_b 175) 101 = .ok (.bipush 12, 2) := by decide +kernel
theorem d_175_103 : decode (axt_b 175) 103 = .ok (.newarray .int, 2) := by decide +kernel
theorem d_175_105 : decode (axt_b 175) 105 = .ok (.putfield 50, 3) := by decide +kernel
theorem d_175_108 : decode (axt_b 175) 108 = .ok (.aload_n 0, 1) := by decide +kernel
theorem d_175_109 : decode (axt_b 175) 109 = .ok (.bipush 12, 2) := by decide +kernel
theorem d_175_111 : decode (axt_b 175) 111 = .ok (.newarray .int, 2) := by decide +kernel
theorem d_175_113 : decode (axt_b 175) 113 = .ok (.putfield 53, 3) := by decide +kernel
theorem d_175_116 : decode (axt_b 175) 116 = .ok (.aload_n 0, 1) := by decide +kernel
theorem d_175_117 : decode (axt_b 175) 117 = .ok (.bipush 12, 2) := by decide +kernel
theorem d_175_119 : decode (axt_b 175) 119 = .ok (.newarray .int, 2) := by decide +kernel
theorem d_175_121 : decode (axt_b 175) 121 = .ok (.putfield 56, 3) := by decide +kernel
theorem d_175_124 : decode (axt_b 175) 124 = .ok (.aload_n 0, 1) := by decide +kernel
theorem d_175_125 : decode (axt_b 175) 125 = .ok (.sipush 4800, 3) := by decide +kernel
theorem d_175_128 : decode (axt_b 175) 128 = .ok (.newarray .byte, 2) := by decide +kernel
theorem d_175_130 : decode (axt_b 175) 130 = .ok (.putfield 59, 3) := by decide +kernel
theorem d_175_133 : decode (axt_b 175) 133 = .ok (.aload_n 0, 1) := by decide +kernel
theorem d_175_134 : decode (axt_b 175) 134 = .ok (.bipush 24, 2) := by decide +kernel
theorem d_175_136 : decode (axt_b 175) 136 = .ok (.newarray .int, 2) := by decide +kernel
theorem d_175_138 : decode (axt_b 175) 138 = .ok (.putfield 62, 3) := by decide +kernel
theorem d_175_141 : decode (axt_b 175) 141 = .ok (.aload_n 0, 1) := by decide +kernel
theorem d_175_142 : decode (axt_b 175) 142 = .ok (.sipush 24576, 3) := by decide +kernel
theorem d_175_145 : decode (axt_b 175) 145 = .ok (.newarray .byte, 2) := by decide +kernel
theorem d_175_147 : decode (axt_b 175) 147 = .ok (.putfield 65, 3) := by decide +kernel
theorem d_175_150 : decode (axt_b 175) 150 = .ok (.aload_n 0, 1) := by decide +kernel
theorem d_175_151 : decode (axt_b 175) 151 = .ok (.bipush 12, 2) := by decide +kernel
theorem d_175_153 : decode (axt_b 175) 153 = .ok (.newarray .int, 2) := by decide +kernel
theorem d_175_155 : decode (axt_b 175) 155 = .ok (.putfield 68, 3) := by decide +kernel
theorem d_175_158 : decode (axt_b 175) 158 = .ok (.aload_n 0, 1) := by decide +kernel
theorem d_175_159 : decode (axt_b 175) 159 = .ok (.bipush 64, 2) := by decide +kernel
theorem d_175_161 : decode (axt_b 175) 161 = .ok (.newarray .int, 2) := by decide +kernel
theorem d_175_163 : decode (axt_b 175) 163 = .ok (.putfield 71, 3) := by decide +kernel
theorem d_175_166 : decode (axt_b 175) 166 = .ok (.aload_n 0, 1) := by decide +kernel
theorem d_175_167 : decode (axt_b 175) 167 = .ok (.sipush 24576, 3) := by decide +kernel
theorem d_175_170 : decode (axt_b 175) 170 = .ok (.newarray .int, 2) := by decide +kernel
theorem d_175_172 : decode (axt_b 175) 172 = .ok (.putfield 74, 3) := by decide +kernel
theorem d_175_175 : decode (axt_b 175) 175 = .ok (.aload_n 0, 1) := by decide +kernel
theorem d_175_176 : decode (axt_b 175) 176 = .ok (.bipush 12, 2) := by decide +kernel
theorem d_175_178 : decode (axt_b 175) 178 = .ok (.newarray .int, 2) := by decide +kernel
theorem d_175_180 : decode (axt_b 175) 180 = .ok (.putfield 77, 3) := by decide +kernel
theorem d_175_183 : decode (axt_b 175) 183 = .ok (.aload_n 0, 1) := by decide +kernel
theorem d_175_184 : decode (axt_b 175) 184 = .ok (.iload_n 1, 1) := by decide +kernel
theorem d_175_185 : decode (axt_b 175) 185 = .ok (.iconst 3, 1) := by decide +kernel
theorem d_175_186 : decode (axt_b 175) 186 = .ok (.if_icmp .ge 7, 3) := by decide +kernel
theorem d_175_189 : decode (axt_b 175) 189 = .ok (.iconst 3, 1) := by decide +kernel
theorem d_175_190 : decode (axt_b 175) 190 = .ok (.goto 15, 3) := by decide +kernel
theorem d_175_193 : decode (axt_b 175) 193 = .ok (.iload_n 1, 1) := by decide +kernel
theorem d_175_194 : decode (axt_b 175) 194 = .ok (.bipush 6, 2) := by decide +kernel
theorem d_175_196 : decode (axt_b 175) 196 = .ok (.if_icmp .le 8, 3) := by decide +kernel
theorem d_175_199 : decode (axt_b 175) 199 = .ok (.bipush 6, 2) := by decide +kernel
theorem d_175_201 : decode (axt_b 175) 201 = .ok (.goto 4, 3) := by decide +kernel
theorem d_175_204 : decode (axt_b 175) 204 = .ok (.iload_n 1, 1) := by decide +kernel
theorem d_175_205 : decode (axt_b 175) 205 = .ok (.putfield 80, 3) := by decide +kernel
theorem d_175_208 : decode (axt_b 175) 208 = .ok (.aload_n 0, 1) := by decide +kernel
theorem d_175_209 : decode (axt_b 175) 209 = .ok (.iload_n 2, 1) := by decide +kernel
theorem d_175_210 : decode (axt_b 175) 210 = .ok (.iconst 2, 1) := by decide +kernel
theorem d_175_211 : decode (axt_b 175) 211 = .ok (.if_icmp .ge 7, 3) := by decide +kernel
theorem d_175_214 : decode (axt_b 175) 214 = .ok (.iconst 2, 1) := by decide +kernel
theorem d_175_215 : decode (axt_b 175) 215 = .ok (.goto 13, 3) := by decide +kernel
theorem d_175_218 : decode (axt_b 175) 218 = .ok (.iload_n 2, 1) := by decide +kernel
theorem d_175_219 : decode (axt_b 175) 219 = .ok (.iconst 3, 1) := by decide +kernel
theorem d_175_220 : decode (axt_b 175) 220 = .ok (.if_icmp .le 7, 3) := by decide +kernel
theorem d_175_223 : decode (axt_b 175) 223 = .ok (.iconst 3, 1) := by decide +kernel
theorem d_175_224 : decode (axt_b 175) 224 = .ok (.goto 4, 3) := by decide +kernel
theorem d_175_227 : decode (axt_b 175) 227 = .ok (.iload_n 2, 1) := by decide +kernel
theorem d_175_228 : decode (axt_b 175) 228 = .ok (.putfield 83, 3) := by decide +kernel
theorem d_175_231 : decode (axt_b 175) 231 = .ok (.aload_n 0, 1) := by decide +kernel
theorem d_175_232 : decode (axt_b 175) 232 = .ok (.iload_n 3, 1) := by decide +kernel
theorem d_175_233 : decode (axt_b 175) 233 = .ok (.iconst 1, 1) := by decide +kernel
theorem d_175_234 : decode (axt_b 175) 234 = .ok (.if_icmp .ge 7, 3) := by decide +kernel
theorem d_175_237 : decode (axt_b 175) 237 = .ok (.iconst 1, 1) := by decide +kernel
theorem d_175_238 : decode (axt_b 175) 238 = .ok (.goto 15, 3) := by decide +kernel
theorem d_175_241 : decode (axt_b 175) 241 = .ok (.iload_n 3, 1) := by decide +kernel
theorem d_175_242 : decode (axt_b 175) 242 = .ok (.bipush 16, 2) := by decide +kernel
theorem d_175_244 : decode (axt_b 175) 244 = .ok (.if_icmp .le 8, 3) := by decide +kernel
theorem d_175_247 : decode (axt_b 175) 247 = .ok (.bipush 16, 2) := by decide +kernel
theorem d_175_249 : decode (axt_b 175) 249 = .ok (.goto 4, 3) := by decide +kernel
theorem d_175_252 : decode (axt_b 175) 252 = .ok (.iload_n 3, 1) := by decide +kernel
theorem d_175_253 : decode (axt_b 175) 253 = .ok (.putfield 86, 3) := by decide +kernel
theorem d_175_256 : decode (axt_b 175) 256 = .ok (.aload_n 0, 1) := by decide +kernel
theorem d_175_257 : decode (axt_b 175) 257 = .ok (.iconst 1, 1) := by decide +kernel
theorem d_175_258 : decode (axt_b 175) 258 = .ok (.aload_n 0, 1) := by decide +kernel
theorem d_175_259 : decode (axt_b 175) 259 = .ok (.getfield 80, 3) := by decide +kernel
theorem d_175_262 : decode (axt_b 175) 262 = .ok (.ishl, 1) := by decide +kernel
theorem d_175_263 : decode (axt_b 175) 263 = .ok (.iconst 1, 1) := by decide +kernel
theorem d_175_264 : decode (axt_b 175) 264 = .ok (.isub, 1) := by decide +kernel
theorem d_175_265 : decode (axt_b 175) 265 = .ok (.putfield 89, 3) := by decide +kernel
theorem d_175_268 : decode (axt_b 175) 268 = .ok (.aload_n 0, 1) := by decide +kernel
theorem d_175_269 : decode (axt_b 175) 269 = .ok (.aload_n 0, 1) := by decide +kernel
theorem d_175_270 : decode (axt_b 175) 270 = .ok (.getfield 89, 3) := by decide +kernel
theorem d_175_273 : decode (axt_b 175) 273 = .ok (.putfield 92, 3) := by decide +kernel
theorem d_175_276 : decode (axt_b 175) 276 = .ok (.return_, 1) := by decide +kernel
theorem clI_m {x a b : Int32} (hab : a ≤ b) : (¬ a ≤ x → a = clI x a b) ∧ (a ≤ x → ¬ x ≤ b → b = clI x a b) ∧ (a ≤ x → x ≤ b → x = clI x a b) := by
  have e1 := @Int32.le_iff_toInt_le
  have e2 := @Int32.lt_iff_toInt_lt
  unfold clI
  refine ⟨fun h1 => ?_, fun h1 h2 => ?_, fun h1 h2 => ?_⟩
  · rw [if_pos (show x < b by rw [e2]; rw [e1] at h1 hab; omega), if_neg (by rw [e2]; rw [e1] at h1; omega)]
  · rw [if_neg (show ¬ x < b by rw [e2]; rw [e1] at h2; omega)]
    by_cases h3 : a < b
    · rw [if_pos h3]
    · rw [if_neg h3]; exact Int32.toInt_inj.mp (by rw [e2] at h3; rw [e1] at hab; omega)
  · by_cases h4 : x < b
    · rw [if_pos h4]
      by_cases h3 : a < x
      · rw [if_pos h3]
      · rw [if_neg h3]; exact Int32.toInt_inj.mp (by rw [e2] at h3; rw [e1] at h1; omega)
    · rw [if_neg h4]
      by_cases h3 : a < b
      · rw [if_pos h3]; exact Int32.toInt_inj.mp (by rw [e2] at h4; rw [e1] at h2; omega)
      · rw [if_neg h3]; exact Int32.toInt_inj.mp (by rw [e2] at h4 h3; rw [e1] at h2 hab h1; omega)
theorem m_arr {L : Nat} {xs : Nat → Int32} {fr lo m0 N n1 s1 p0 p1 p2 p3 p4 i k : Nat} {x : Int32} {lv : List (Nat × Value)} {fs : List Value} {F : List (Nat × va_E)} {c : va_E} {h : ax_H} {post : ax_Po}
    (hF : ax_hs h ((m0, .inr (11, fs)) :: F)) (hl : fs.length = 39) (hn : h.1 = n1) (hs : h.2.1 = s1) (hn0 : 0 < n1)
    (g0 : ∀ {post}, ax_A (ax_step L xs) ((175, p1, fr, lo), lv, [.ref m0], h) post → ax_A (ax_step L xs) ((175, p0, fr, lo), lv, [], h) post)
    (g1 : ∀ {post}, ax_A (ax_step L xs) ((175, p2, fr, lo), lv, [.int x, .ref m0], h) post → ax_A (ax_step L xs) ((175, p1, fr, lo), lv, [.ref m0], h) post)
    (g2 : ∀ {post}, ax_A (ax_step L xs) ((175, p3, fr, lo), lv, [.ref h.1, .ref m0], ax_push h N c) post → ax_A (ax_step L xs) ((175, p2, fr, lo), lv, [.int x, .ref m0], h) post)
    (hd : decode (axt_b 175) p3 = .ok (.putfield i, 3)) (h4 : p3 + 3 = p4) (hf : axt_fld (axt_ow 175) i = some (11, k)) (hp : axt_pok 175 11 k = true) (hk : k < 39) (hv1 : ∀ a, narrow (axt_fty 11 k) (.ref a) = .ref a) (hv2 : ∀ a, fits (axt_fty 11 k) (.ref a) = true)
    (kk : ∀ h', ax_hs h' ((m0, .inr (11, fs.set k (.ref n1))) :: (F ++ [(n1, c)])) → h'.1 = n1 + 1 → h'.2.1 = s1 + N → ax_fr (fun x => x ∈ [m0]) h h' → (fs.set k (.ref n1)).length = 39 → ax_A (ax_step L xs) ((175, p4, fr, lo), lv, [], h') post) :
    ax_A (ax_step L xs) ((175, p0, fr, lo), lv, [], h) post := by
  refine g0 (g1 (g2 ?_))
  subst hn
  have hF1 : ax_hs (ax_push h N c) ((m0, .inr (11, fs)) :: (F ++ [(h.1, c)])) := hF.push hn0 N c rfl
  refine ar_putf p4 (fs.set k (.ref h.1)) hd h4 hf hp (hF1.at 0 rfl) (by rw [hl]; exact hk) (hv1 _) (hv2 _) rfl ?_
  exact kk _ (hF1.put 0 _ rfl rfl) rfl (by show h.2.1 + N = _; rw [hs]) ((ax_fr.rf.push (n := N) (c := c)).put (by simp)) (by rw [List.length_set, hl])
theorem m_put {L : Nat} {xs : Nat → Int32} {fr lo m0 n1 s1 p3 p4 i k : Nat} {v : Value} {lv : List (Nat × Value)} {fs : List Value} {F : List (Nat × va_E)} {h : ax_H} {post : ax_Po}
    (hF : ax_hs h ((m0, .inr (11, fs)) :: F)) (hl : fs.length = 39) (hn : h.1 = n1) (hs : h.2.1 = s1)
    (hd : decode (axt_b 175) p3 = .ok (.putfield i, 3)) (h4 : p3 + 3 = p4) (hf : axt_fld (axt_ow 175) i = some (11, k)) (hp : axt_pok 175 11 k = true) (hk : k < 39) (hv1 : narrow (axt_fty 11 k) v = v) (hv2 : fits (axt_fty 11 k) v = true)
    (kk : ∀ h', ax_hs h' ((m0, .inr (11, fs.set k v)) :: F) → h'.1 = n1 → h'.2.1 = s1 → ax_fr (fun x => x ∈ [m0]) h h' → (fs.set k v).length = 39 → ax_A (ax_step L xs) ((175, p4, fr, lo), lv, [], h') post) :
    ax_A (ax_step L xs) ((175, p3, fr, lo), lv, [v, .ref m0], h) post := by
  refine ar_putf p4 (fs.set k v) hd h4 hf hp (hF.at 0 rfl) (by rw [hl]; exact hk) hv1 hv2 rfl ?_
  exact kk _ (hF.put 0 _ rfl rfl) hn hs (ax_fr.rf.put (by simp)) (by rw [List.length_set, hl])
theorem m_nn {L : Nat} {xs : Nat → Int32} {fr lo m0 : Nat} {x1 x2 x3 : Int32} {nn : Nat} {h : ax_H} {post : ax_Po} (u3 : clI x1 3 6 = nI nn) (kj : ax_A (ax_step L xs) ((175, 205, fr, lo), [(0, .ref m0), (1, .int x1), (2, .int x2), (3, .int x3)], [.int (nI nn), .ref m0], h) post) : ax_A (ax_step L xs) ((175, 186, fr, lo), [(0, .ref m0), (1, .int x1), (2, .int x2), (3, .int x3)], [.int 3, .int x1, .ref m0], h) post := by
  refine ar_icmp_ge 193 189 d_175_186 (by decide) rfl (fun c1 => ?_) (fun c1 => ?_)
  · refine ar_iload_n 194 d_175_193 rfl rfl ?_
    refine ar_bipush 196 (v := 6) d_175_194 rfl (by decide) ?_
    refine ar_icmp_le 204 199 d_175_196 (by decide) rfl (fun c2 => ?_) (fun c2 => ?_)
    · refine ar_iload_n 205 d_175_204 rfl rfl ?_
      refine ar_top (x' := nI nn) (((clI_m (a := 3) (b := 6) (by decide)).2.2 c1 c2).trans u3) ?_
      exact kj
    · refine ar_bipush 201 (v := 6) d_175_199 rfl (by decide) ?_
      refine ar_goto 205 d_175_201 (by decide) ?_
      refine ar_top (x' := nI nn) (((clI_m (a := 3) (b := 6) (by decide)).2.1 c1 c2).trans u3) ?_
      exact kj
  · refine ar_iconst 190 (v := 3) d_175_189 rfl (by decide) ?_
    refine ar_goto 205 d_175_190 (by decide) ?_
    refine ar_top (x' := nI nn) (((clI_m (a := 3) (b := 6) (by decide)).1 c1).trans u3) ?_
    exact kj
theorem m_cc {L : Nat} {xs : Nat → Int32} {fr lo m0 : Nat} {x1 x2 x3 : Int32} {cc : Nat} {h : ax_H} {post : ax_Po} (v3 : clI x2 2 3 = nI cc) (kj : ax_A (ax_step L xs) ((175, 228, fr, lo), [(0, .ref m0), (1, .int x1), (2, .int x2), (3, .int x3)], [.int (nI cc), .ref m0], h) post) : ax_A (ax_step L xs) ((175, 211, fr, lo), [(0, .ref m0), (1, .int x1), (2, .int x2), (3, .int x3)], [.int 2, .int x2, .ref m0], h) post := by
  refine ar_icmp_ge 218 214 d_175_211 (by decide) rfl (fun c1 => ?_) (fun c1 => ?_)
  · refine ar_iload_n 219 d_175_218 rfl rfl ?_
    refine ar_iconst 220 (v := 3) d_175_219 rfl (by decide) ?_
    refine ar_icmp_le 227 223 d_175_220 (by decide) rfl (fun c2 => ?_) (fun c2 => ?_)
    · refine ar_iload_n 228 d_175_227 rfl rfl ?_
      refine ar_top (x' := nI cc) (((clI_m (a := 2) (b := 3) (by decide)).2.2 c1 c2).trans v3) ?_
      exact kj
    · refine ar_iconst 224 (v := 3) d_175_223 rfl (by decide) ?_
      refine ar_goto 228 d_175_224 (by decide) ?_
      refine ar_top (x' := nI cc) (((clI_m (a := 2) (b := 3) (by decide)).2.1 c1 c2).trans v3) ?_
      exact kj
  · refine ar_iconst 215 (v := 2) d_175_214 rfl (by decide) ?_
    refine ar_goto 228 d_175_215 (by decide) ?_
    refine ar_top (x' := nI cc) (((clI_m (a := 2) (b := 3) (by decide)).1 c1).trans v3) ?_
    exact kj
theorem m_gg {L : Nat} {xs : Nat → Int32} {fr lo m0 : Nat} {x1 x2 x3 : Int32} {gg : Nat} {h : ax_H} {post : ax_Po} (w3 : clI x3 1 16 = nI gg) (kj : ax_A (ax_step L xs) ((175, 253, fr, lo), [(0, .ref m0), (1, .int x1), (2, .int x2), (3, .int x3)], [.int (nI gg), .ref m0], h) post) : ax_A (ax_step L xs) ((175, 234, fr, lo), [(0, .ref m0), (1, .int x1), (2, .int x2), (3, .int x3)], [.int 1, .int x3, .ref m0], h) post := by
  refine ar_icmp_ge 241 237 d_175_234 (by decide) rfl (fun c1 => ?_) (fun c1 => ?_)
  · refine ar_iload_n 242 d_175_241 rfl rfl ?_
    refine ar_bipush 244 (v := 16) d_175_242 rfl (by decide) ?_
    refine ar_icmp_le 252 247 d_175_244 (by decide) rfl (fun c2 => ?_) (fun c2 => ?_)
    · refine ar_iload_n 253 d_175_252 rfl rfl ?_
      refine ar_top (x' := nI gg) (((clI_m (a := 1) (b := 16) (by decide)).2.2 c1 c2).trans w3) ?_
      exact kj
    · refine ar_bipush 249 (v := 16) d_175_247 rfl (by decide) ?_
      refine ar_goto 253 d_175_249 (by decide) ?_
      refine ar_top (x' := nI gg) (((clI_m (a := 1) (b := 16) (by decide)).2.1 c1 c2).trans w3) ?_
      exact kj
  · refine ar_iconst 238 (v := 1) d_175_237 rfl (by decide) ?_
    refine ar_goto 253 d_175_238 (by decide) ?_
    refine ar_top (x' := nI gg) (((clI_m (a := 1) (b := 16) (by decide)).1 c1).trans w3) ?_
    exact kj
set_option maxRecDepth 100000 in
theorem m_42 {L : Nat} {xs : Nat → Int32} {fr lo m0 n sl nn gg cc : Nat} {x1 x2 x3 : Int32} {h : ax_H} {post : ax_Po} (hn0 : 0 < n)  (hF : ax_hs h [(m0, .inr (11, .int 0 :: .int 0 :: .int 0 :: .int 0 :: .int 0 :: .int 0 :: .int 0 :: .int 0 :: .null :: .int 0 :: .null :: .null :: .null :: .null :: .null :: .null :: .null :: .null :: .null :: .null :: .int 0 :: .int 0 :: .int 0 :: .int 0 :: .int 0 :: .int 0 :: .int 0 :: .null :: .null :: .null :: .null :: .null :: .null :: .null :: .null :: .null :: .null :: .int 0 :: .int 0 :: []))]) (hn : h.1 = n) (hs : h.2.1 = sl) (kk : ∀ h', ax_hs h' ((m0, .inr (11, .int 0 :: .int 0 :: .int 0 :: .int 0 :: .int 0 :: .int 1 :: .int 0 :: .int 0 :: .ref n :: .int 0 :: .ref (n + 1) :: .ref (n + 2) :: .ref (n + 3) :: .null :: .null :: .null :: .null :: .null :: .null :: .null :: .int 0 :: .int 0 :: .int 0 :: .int 0 :: .int 0 :: .int 0 :: .int 0 :: .null :: .null :: .null :: .null :: .null :: .null :: .null :: .null :: .null :: .null :: .int 0 :: .int 0 :: [])) :: (n, .inl (1, 2048, .inl (fun _ => 0))) :: (n + 1, .inl (1, 400, .inl (fun _ => 0))) :: (n + 2, .inl (0, 2, .inl (fun _ => 0))) :: (n + 3, .inl (0, 48, .inl (fun _ => 0))) :: []) → h'.1 = n + 4 → h'.2.1 = sl + 2498 → ax_fr (fun x => x ∈ [m0]) h h' → ax_A (ax_step L xs) ((175, 42, fr, lo), [(0, .ref m0), (1, .int x1), (2, .int x2), (3, .int x3)], [], h') post) : ax_A (ax_step L xs) ((175, 4, fr, lo), [(0, .ref m0), (1, .int x1), (2, .int x2), (3, .int x3)], [], h) post := by
  have hf : ax_fr (fun x => x ∈ [m0]) h h := ax_fr.rf
  have hl : (.int 0 :: .int 0 :: .int 0 :: .int 0 :: .int 0 :: .int 0 :: .int 0 :: .int 0 :: .null :: .int 0 :: .null :: .null :: .null :: .null :: .null :: .null :: .null :: .null :: .null :: .null :: .int 0 :: .int 0 :: .int 0 :: .int 0 :: .int 0 :: .int 0 :: .int 0 :: .null :: .null :: .null :: .null :: .null :: .null :: .null :: .null :: .null :: .null :: .int 0 :: .int 0 :: [] : List Value).length = 39 := rfl
  refine ar_aload_n 5 d_175_4 rfl rfl ?_
  refine ar_iconst 6 (v := 1) d_175_5 rfl (by decide) ?_
  refine m_put (k := 5) hF hl hn hs d_175_6 (p4 := 9) rfl rfl rfl (by decide) rfl rfl (fun h1 q1 q2 q3 q4 q5 => ?_)
  replace hf := hf.trC q4 (fun x _ hB => hB)
  replace hl := q5
  replace hF := q1
  replace hn : h1.1 = n := q2
  replace hs : h1.2.1 = sl := by omega
  clear q1 q2 q3 q4 q5
  refine m_arr (N := 2048) (c := .inl (1, 2048, .inl (fun _ => 0))) (k := 8) hF hl hn hs (by omega) (fun k => ar_aload_n 10 d_175_9 rfl rfl k) (fun k => ar_sipush 13 (v := 2048) d_175_10 rfl (by decide) k) (fun k => ar_newb 15 d_175_13 rfl (by decide) (N := 2048) (by decide +kernel) (by decide) k) d_175_15 (p4 := 18) rfl rfl (by decide +kernel) (by decide) (fun _ => rfl) (fun _ => rfl) (fun h2 q1 q2 q3 q4 q5 => ?_)
  replace hf := hf.trC q4 (fun x _ hB => hB)
  replace hl := q5
  replace hF := q1
  replace hn : h2.1 = n + 1 := q2
  replace hs : h2.2.1 = sl + 2048 := by omega
  clear q1 q2 q3 q4 q5
  refine m_arr (N := 400) (c := .inl (1, 400, .inl (fun _ => 0))) (k := 10) hF hl hn hs (by omega) (fun k => ar_aload_n 19 d_175_18 rfl rfl k) (fun k => ar_sipush 22 (v := 400) d_175_19 rfl (by decide) k) (fun k => ar_newb 24 d_175_22 rfl (by decide) (N := 400) (by decide +kernel) (by decide) k) d_175_24 (p4 := 27) rfl rfl (by decide +kernel) (by decide) (fun _ => rfl) (fun _ => rfl) (fun h3 q1 q2 q3 q4 q5 => ?_)
  replace hf := hf.trC q4 (fun x _ hB => hB)
  replace hl := q5
  replace hF := q1
  replace hn : h3.1 = n + 2 := q2
  replace hs : h3.2.1 = sl + 2448 := by omega
  clear q1 q2 q3 q4 q5
  refine m_arr (N := 2) (c := .inl (0, 2, .inl (fun _ => 0))) (k := 11) hF hl hn hs (by omega) (fun k => ar_aload_n 28 d_175_27 rfl rfl k) (fun k => ar_iconst 29 (v := 2) d_175_28 rfl (by decide) k) (fun k => ar_newi 31 d_175_29 rfl (by decide) (N := 2) (by decide +kernel) (by decide) k) d_175_31 (p4 := 34) rfl rfl (by decide +kernel) (by decide) (fun _ => rfl) (fun _ => rfl) (fun h4 q1 q2 q3 q4 q5 => ?_)
  replace hf := hf.trC q4 (fun x _ hB => hB)
  replace hl := q5
  replace hF := q1
  replace hn : h4.1 = n + 3 := q2
  replace hs : h4.2.1 = sl + 2450 := by omega
  clear q1 q2 q3 q4 q5
  refine m_arr (N := 48) (c := .inl (0, 48, .inl (fun _ => 0))) (k := 12) hF hl hn hs (by omega) (fun k => ar_aload_n 35 d_175_34 rfl rfl k) (fun k => ar_bipush 37 (v := 48) d_175_35 rfl (by decide) k) (fun k => ar_newi 39 d_175_37 rfl (by decide) (N := 48) (by decide +kernel) (by decide) k) d_175_39 (p4 := 42) rfl rfl (by decide +kernel) (by decide) (fun _ => rfl) (fun _ => rfl) (fun h5 q1 q2 q3 q4 q5 => ?_)
  replace hf := hf.trC q4 (fun x _ hB => hB)
  replace hl := q5
  replace hF := q1
  replace hn : h5.1 = n + 4 := q2
  replace hs : h5.2.1 = sl + 2498 := by omega
  clear q1 q2 q3 q4 q5
  exact kk _ hF hn hs hf
set_option maxRecDepth 100000 in
theorem m_75 {L : Nat} {xs : Nat → Int32} {fr lo m0 n sl nn gg cc : Nat} {x1 x2 x3 : Int32} {h : ax_H} {post : ax_Po} (hn0 : 0 < n)  (hF : ax_hs h ((m0, .inr (11, .int 0 :: .int 0 :: .int 0 :: .int 0 :: .int 0 :: .int 1 :: .int 0 :: .int 0 :: .ref n :: .int 0 :: .ref (n + 1) :: .ref (n + 2) :: .ref (n + 3) :: .null :: .null :: .null :: .null :: .null :: .null :: .null :: .int 0 :: .int 0 :: .int 0 :: .int 0 :: .int 0 :: .int 0 :: .int 0 :: .null :: .null :: .null :: .null :: .null :: .null :: .null :: .null :: .null :: .null :: .int 0 :: .int 0 :: [])) :: (n, .inl (1, 2048, .inl (fun _ => 0))) :: (n + 1, .inl (1, 400, .inl (fun _ => 0))) :: (n + 2, .inl (0, 2, .inl (fun _ => 0))) :: (n + 3, .inl (0, 48, .inl (fun _ => 0))) :: [])) (hn : h.1 = n + 4) (hs : h.2.1 = sl + 2498) (kk : ∀ h', ax_hs h' ((m0, .inr (11, .int 0 :: .int 0 :: .int 0 :: .int 0 :: .int 0 :: .int 1 :: .int 0 :: .int 0 :: .ref n :: .int 0 :: .ref (n + 1) :: .ref (n + 2) :: .ref (n + 3) :: .ref (n + 4) :: .ref (n + 5) :: .ref (n + 6) :: .ref (n + 7) :: .null :: .null :: .null :: .int 0 :: .int 0 :: .int 0 :: .int 0 :: .int 0 :: .int 0 :: .int 0 :: .null :: .null :: .null :: .null :: .null :: .null :: .null :: .null :: .null :: .null :: .int 0 :: .int 0 :: [])) :: (n, .inl (1, 2048, .inl (fun _ => 0))) :: (n + 1, .inl (1, 400, .inl (fun _ => 0))) :: (n + 2, .inl (0, 2, .inl (fun _ => 0))) :: (n + 3, .inl (0, 48, .inl (fun _ => 0))) :: (n + 4, .inl (2, 48, .inl (fun _ => 0))) :: (n + 5, .inl (1, 9600, .inl (fun _ => 0))) :: (n + 6, .inl (0, 48, .inl (fun _ => 0))) :: (n + 7, .inl (0, 48, .inl (fun _ => 0))) :: []) → h'.1 = n + 8 → h'.2.1 = sl + 12242 → ax_fr (fun x => x ∈ [m0]) h h' → ax_A (ax_step L xs) ((175, 75, fr, lo), [(0, .ref m0), (1, .int x1), (2, .int x2), (3, .int x3)], [], h') post) : ax_A (ax_step L xs) ((175, 42, fr, lo), [(0, .ref m0), (1, .int x1), (2, .int x2), (3, .int x3)], [], h) post := by
  have hf : ax_fr (fun x => x ∈ [m0]) h h := ax_fr.rf
  have hl : (.int 0 :: .int 0 :: .int 0 :: .int 0 :: .int 0 :: .int 1 :: .int 0 :: .int 0 :: .ref n :: .int 0 :: .ref (n + 1) :: .ref (n + 2) :: .ref (n + 3) :: .null :: .null :: .null :: .null :: .null :: .null :: .null :: .int 0 :: .int 0 :: .int 0 :: .int 0 :: .int 0 :: .int 0 :: .int 0 :: .null :: .null :: .null :: .null :: .null :: .null :: .null :: .null :: .null :: .null :: .int 0 :: .int 0 :: [] : List Value).length = 39 := rfl
  refine m_arr (N := 48) (c := .inl (2, 48, .inl (fun _ => 0))) (k := 13) hF hl hn hs (by omega) (fun k => ar_aload_n 43 d_175_42 rfl rfl k) (fun k => ar_bipush 45 (v := 48) d_175_43 rfl (by decide) k) (fun k => ar_newz 47 d_175_45 rfl (by decide) (N := 48) (by decide +kernel) (by decide) k) d_175_47 (p4 := 50) rfl rfl (by decide +kernel) (by decide) (fun _ => rfl) (fun _ => rfl) (fun h1 q1 q2 q3 q4 q5 => ?_)
  replace hf := hf.trC q4 (fun x _ hB => hB)
  replace hl := q5
  replace hF := q1
  replace hn : h1.1 = n + 5 := q2
  replace hs : h1.2.1 = sl + 2546 := by omega
  clear q1 q2 q3 q4 q5
  refine m_arr (N := 9600) (c := .inl (1, 9600, .inl (fun _ => 0))) (k := 14) hF hl hn hs (by omega) (fun k => ar_aload_n 51 d_175_50 rfl rfl k) (fun k => ar_sipush 54 (v := 9600) d_175_51 rfl (by decide) k) (fun k => ar_newb 56 d_175_54 rfl (by decide) (N := 9600) (by decide +kernel) (by decide) k) d_175_56 (p4 := 59) rfl rfl (by decide +kernel) (by decide) (fun _ => rfl) (fun _ => rfl) (fun h2 q1 q2 q3 q4 q5 => ?_)
  replace hf := hf.trC q4 (fun x _ hB => hB)
  replace hl := q5
  replace hF := q1
  replace hn : h2.1 = n + 6 := q2
  replace hs : h2.2.1 = sl + 12146 := by omega
  clear q1 q2 q3 q4 q5
  refine m_arr (N := 48) (c := .inl (0, 48, .inl (fun _ => 0))) (k := 15) hF hl hn hs (by omega) (fun k => ar_aload_n 60 d_175_59 rfl rfl k) (fun k => ar_bipush 62 (v := 48) d_175_60 rfl (by decide) k) (fun k => ar_newi 64 d_175_62 rfl (by decide) (N := 48) (by decide +kernel) (by decide) k) d_175_64 (p4 := 67) rfl rfl (by decide +kernel) (by decide) (fun _ => rfl) (fun _ => rfl) (fun h3 q1 q2 q3 q4 q5 => ?_)
  replace hf := hf.trC q4 (fun x _ hB => hB)
  replace hl := q5
  replace hF := q1
  replace hn : h3.1 = n + 7 := q2
  replace hs : h3.2.1 = sl + 12194 := by omega
  clear q1 q2 q3 q4 q5
  refine m_arr (N := 48) (c := .inl (0, 48, .inl (fun _ => 0))) (k := 16) hF hl hn hs (by omega) (fun k => ar_aload_n 68 d_175_67 rfl rfl k) (fun k => ar_bipush 70 (v := 48) d_175_68 rfl (by decide) k) (fun k => ar_newi 72 d_175_70 rfl (by decide) (N := 48) (by decide +kernel) (by decide) k) d_175_72 (p4 := 75) rfl rfl (by decide +kernel) (by decide) (fun _ => rfl) (fun _ => rfl) (fun h4 q1 q2 q3 q4 q5 => ?_)
  replace hf := hf.trC q4 (fun x _ hB => hB)
  replace hl := q5
  replace hF := q1
  replace hn : h4.1 = n + 8 := q2
  replace hs : h4.2.1 = sl + 12242 := by omega
  clear q1 q2 q3 q4 q5
  exact kk _ hF hn hs hf
set_option maxRecDepth 100000 in
theorem m_108 {L : Nat} {xs : Nat → Int32} {fr lo m0 n sl nn gg cc : Nat} {x1 x2 x3 : Int32} {h : ax_H} {post : ax_Po} (hn0 : 0 < n)  (hF : ax_hs h ((m0, .inr (11, .int 0 :: .int 0 :: .int 0 :: .int 0 :: .int 0 :: .int 1 :: .int 0 :: .int 0 :: .ref n :: .int 0 :: .ref (n + 1) :: .ref (n + 2) :: .ref (n + 3) :: .ref (n + 4) :: .ref (n + 5) :: .ref (n + 6) :: .ref (n + 7) :: .null :: .null :: .null :: .int 0 :: .int 0 :: .int 0 :: .int 0 :: .int 0 :: .int 0 :: .int 0 :: .null :: .null :: .null :: .null :: .null :: .null :: .null :: .null :: .null :: .null :: .int 0 :: .int 0 :: [])) :: (n, .inl (1, 2048, .inl (fun _ => 0))) :: (n + 1, .inl (1, 400, .inl (fun _ => 0))) :: (n + 2, .inl (0, 2, .inl (fun _ => 0))) :: (n + 3, .inl (0, 48, .inl (fun _ => 0))) :: (n + 4, .inl (2, 48, .inl (fun _ => 0))) :: (n + 5, .inl (1, 9600, .inl (fun _ => 0))) :: (n + 6, .inl (0, 48, .inl (fun _ => 0))) :: (n + 7, .inl (0, 48, .inl (fun _ => 0))) :: [])) (hn : h.1 = n + 8) (hs : h.2.1 = sl + 12242) (kk : ∀ h', ax_hs h' ((m0, .inr (11, .int 0 :: .int 0 :: .int 0 :: .int 0 :: .int 0 :: .int 1 :: .int 0 :: .int 0 :: .ref n :: .int 0 :: .ref (n + 1) :: .ref (n + 2) :: .ref (n + 3) :: .ref (n + 4) :: .ref (n + 5) :: .ref (n + 6) :: .ref (n + 7) :: .ref (n + 8) :: .ref (n + 9) :: .ref (n + 10) :: .int 0 :: .int 0 :: .int 0 :: .int 0 :: .int 0 :: .int 0 :: .int 0 :: .ref (n + 11) :: .null :: .null :: .null :: .null :: .null :: .null :: .null :: .null :: .null :: .int 0 :: .int 0 :: [])) :: (n, .inl (1, 2048, .inl (fun _ => 0))) :: (n + 1, .inl (1, 400, .inl (fun _ => 0))) :: (n + 2, .inl (0, 2, .inl (fun _ => 0))) :: (n + 3, .inl (0, 48, .inl (fun _ => 0))) :: (n + 4, .inl (2, 48, .inl (fun _ => 0))) :: (n + 5, .inl (1, 9600, .inl (fun _ => 0))) :: (n + 6, .inl (0, 48, .inl (fun _ => 0))) :: (n + 7, .inl (0, 48, .inl (fun _ => 0))) :: (n + 8, .inl (0, 48, .inl (fun _ => 0))) :: (n + 9, .inl (1, 393216, .inl (fun _ => 0))) :: (n + 10, .inl (2, 912, .inl (fun _ => 0))) :: (n + 11, .inl (0, 12, .inl (fun _ => 0))) :: []) → h'.1 = n + 12 → h'.2.1 = sl + 406430 → ax_fr (fun x => x ∈ [m0]) h h' → ax_A (ax_step L xs) ((175, 108, fr, lo), [(0, .ref m0), (1, .int x1), (2, .int x2), (3, .int x3)], [], h') post) : ax_A (ax_step L xs) ((175, 75, fr, lo), [(0, .ref m0), (1, .int x1), (2, .int x2), (3, .int x3)], [], h) post := by
  have hf : ax_fr (fun x => x ∈ [m0]) h h := ax_fr.rf
  have hl : (.int 0 :: .int 0 :: .int 0 :: .int 0 :: .int 0 :: .int 1 :: .int 0 :: .int 0 :: .ref n :: .int 0 :: .ref (n + 1) :: .ref (n + 2) :: .ref (n + 3) :: .ref (n + 4) :: .ref (n + 5) :: .ref (n + 6) :: .ref (n + 7) :: .null :: .null :: .null :: .int 0 :: .int 0 :: .int 0 :: .int 0 :: .int 0 :: .int 0 :: .int 0 :: .null :: .null :: .null :: .null :: .null :: .null :: .null :: .null :: .null :: .null :: .int 0 :: .int 0 :: [] : List Value).length = 39 := rfl
  refine m_arr (N := 48) (c := .inl (0, 48, .inl (fun _ => 0))) (k := 17) hF hl hn hs (by omega) (fun k => ar_aload_n 76 d_175_75 rfl rfl k) (fun k => ar_bipush 78 (v := 48) d_175_76 rfl (by decide) k) (fun k => ar_newi 80 d_175_78 rfl (by decide) (N := 48) (by decide +kernel) (by decide) k) d_175_80 (p4 := 83) rfl rfl (by decide +kernel) (by decide) (fun _ => rfl) (fun _ => rfl) (fun h1 q1 q2 q3 q4 q5 => ?_)
  replace hf := hf.trC q4 (fun x _ hB => hB)
  replace hl := q5
  replace hF := q1
  replace hn : h1.1 = n + 9 := q2
  replace hs : h1.2.1 = sl + 12290 := by omega
  clear q1 q2 q3 q4 q5
  refine m_arr (N := 393216) (c := .inl (1, 393216, .inl (fun _ => 0))) (k := 18) hF hl hn hs (by omega) (fun k => ar_aload_n 84 d_175_83 rfl rfl k) (fun k => ar_ldc 86 d_175_84 rfl (v := 393216) rfl k) (fun k => ar_newb 88 d_175_86 rfl (by decide) (N := 393216) (by decide +kernel) (by decide) k) d_175_88 (p4 := 91) rfl rfl (by decide +kernel) (by decide) (fun _ => rfl) (fun _ => rfl) (fun h2 q1 q2 q3 q4 q5 => ?_)
  replace hf := hf.trC q4 (fun x _ hB => hB)
  replace hl := q5
  replace hF := q1
  replace hn : h2.1 = n + 10 := q2
  replace hs : h2.2.1 = sl + 405506 := by omega
  clear q1 q2 q3 q4 q5
  refine m_arr (N := 912) (c := .inl (2, 912, .inl (fun _ => 0))) (k := 19) hF hl hn hs (by omega) (fun k => ar_aload_n 92 d_175_91 rfl rfl k) (fun k => ar_sipush 95 (v := 912) d_175_92 rfl (by decide) k) (fun k => ar_newz 97 d_175_95 rfl (by decide) (N := 912) (by decide +kernel) (by decide) k) d_175_97 (p4 := 100) rfl rfl (by decide +kernel) (by decide) (fun _ => rfl) (fun _ => rfl) (fun h3 q1 q2 q3 q4 q5 => ?_)
  replace hf := hf.trC q4 (fun x _ hB => hB)
  replace hl := q5
  replace hF := q1
  replace hn : h3.1 = n + 11 := q2
  replace hs : h3.2.1 = sl + 406418 := by omega
  clear q1 q2 q3 q4 q5
  refine m_arr (N := 12) (c := .inl (0, 12, .inl (fun _ => 0))) (k := 27) hF hl hn hs (by omega) (fun k => ar_aload_n 101 d_175_100 rfl rfl k) (fun k => ar_bipush 103 (v := 12) d_175_101 rfl (by decide) k) (fun k => ar_newi 105 d_175_103 rfl (by decide) (N := 12) (by decide +kernel) (by decide) k) d_175_105 (p4 := 108) rfl rfl (by decide +kernel) (by decide) (fun _ => rfl) (fun _ => rfl) (fun h4 q1 q2 q3 q4 q5 => ?_)
  replace hf := hf.trC q4 (fun x _ hB => hB)
  replace hl := q5
  replace hF := q1
  replace hn : h4.1 = n + 12 := q2
  replace hs : h4.2.1 = sl + 406430 := by omega
  clear q1 q2 q3 q4 q5
  exact kk _ hF hn hs hf
set_option maxRecDepth 100000 in
theorem m_141 {L : Nat} {xs : Nat → Int32} {fr lo m0 n sl nn gg cc : Nat} {x1 x2 x3 : Int32} {h : ax_H} {post : ax_Po} (hn0 : 0 < n)  (hF : ax_hs h ((m0, .inr (11, .int 0 :: .int 0 :: .int 0 :: .int 0 :: .int 0 :: .int 1 :: .int 0 :: .int 0 :: .ref n :: .int 0 :: .ref (n + 1) :: .ref (n + 2) :: .ref (n + 3) :: .ref (n + 4) :: .ref (n + 5) :: .ref (n + 6) :: .ref (n + 7) :: .ref (n + 8) :: .ref (n + 9) :: .ref (n + 10) :: .int 0 :: .int 0 :: .int 0 :: .int 0 :: .int 0 :: .int 0 :: .int 0 :: .ref (n + 11) :: .null :: .null :: .null :: .null :: .null :: .null :: .null :: .null :: .null :: .int 0 :: .int 0 :: [])) :: (n, .inl (1, 2048, .inl (fun _ => 0))) :: (n + 1, .inl (1, 400, .inl (fun _ => 0))) :: (n + 2, .inl (0, 2, .inl (fun _ => 0))) :: (n + 3, .inl (0, 48, .inl (fun _ => 0))) :: (n + 4, .inl (2, 48, .inl (fun _ => 0))) :: (n + 5, .inl (1, 9600, .inl (fun _ => 0))) :: (n + 6, .inl (0, 48, .inl (fun _ => 0))) :: (n + 7, .inl (0, 48, .inl (fun _ => 0))) :: (n + 8, .inl (0, 48, .inl (fun _ => 0))) :: (n + 9, .inl (1, 393216, .inl (fun _ => 0))) :: (n + 10, .inl (2, 912, .inl (fun _ => 0))) :: (n + 11, .inl (0, 12, .inl (fun _ => 0))) :: [])) (hn : h.1 = n + 12) (hs : h.2.1 = sl + 406430) (kk : ∀ h', ax_hs h' ((m0, .inr (11, .int 0 :: .int 0 :: .int 0 :: .int 0 :: .int 0 :: .int 1 :: .int 0 :: .int 0 :: .ref n :: .int 0 :: .ref (n + 1) :: .ref (n + 2) :: .ref (n + 3) :: .ref (n + 4) :: .ref (n + 5) :: .ref (n + 6) :: .ref (n + 7) :: .ref (n + 8) :: .ref (n + 9) :: .ref (n + 10) :: .int 0 :: .int 0 :: .int 0 :: .int 0 :: .int 0 :: .int 0 :: .int 0 :: .ref (n + 11) :: .ref (n + 12) :: .ref (n + 13) :: .ref (n + 14) :: .ref (n + 15) :: .null :: .null :: .null :: .null :: .null :: .int 0 :: .int 0 :: [])) :: (n, .inl (1, 2048, .inl (fun _ => 0))) :: (n + 1, .inl (1, 400, .inl (fun _ => 0))) :: (n + 2, .inl (0, 2, .inl (fun _ => 0))) :: (n + 3, .inl (0, 48, .inl (fun _ => 0))) :: (n + 4, .inl (2, 48, .inl (fun _ => 0))) :: (n + 5, .inl (1, 9600, .inl (fun _ => 0))) :: (n + 6, .inl (0, 48, .inl (fun _ => 0))) :: (n + 7, .inl (0, 48, .inl (fun _ => 0))) :: (n + 8, .inl (0, 48, .inl (fun _ => 0))) :: (n + 9, .inl (1, 393216, .inl (fun _ => 0))) :: (n + 10, .inl (2, 912, .inl (fun _ => 0))) :: (n + 11, .inl (0, 12, .inl (fun _ => 0))) :: (n + 12, .inl (0, 12, .inl (fun _ => 0))) :: (n + 13, .inl (0, 12, .inl (fun _ => 0))) :: (n + 14, .inl (1, 4800, .inl (fun _ => 0))) :: (n + 15, .inl (0, 24, .inl (fun _ => 0))) :: []) → h'.1 = n + 16 → h'.2.1 = sl + 411278 → ax_fr (fun x => x ∈ [m0]) h h' → ax_A (ax_step L xs) ((175, 141, fr, lo), [(0, .ref m0), (1, .int x1), (2, .int x2), (3, .int x3)], [], h') post) : ax_A (ax_step L xs) ((175, 108, fr, lo), [(0, .ref m0), (1, .int x1), (2, .int x2), (3, .int x3)], [], h) post := by
  have hf : ax_fr (fun x => x ∈ [m0]) h h := ax_fr.rf
  have hl : (.int 0 :: .int 0 :: .int 0 :: .int 0 :: .int 0 :: .int 1 :: .int 0 :: .int 0 :: .ref n :: .int 0 :: .ref (n + 1) :: .ref (n + 2) :: .ref (n + 3) :: .ref (n + 4) :: .ref (n + 5) :: .ref (n + 6) :: .ref (n + 7) :: .ref (n + 8) :: .ref (n + 9) :: .ref (n + 10) :: .int 0 :: .int 0 :: .int 0 :: .int 0 :: .int 0 :: .int 0 :: .int 0 :: .ref (n + 11) :: .null :: .null :: .null :: .null :: .null :: .null :: .null :: .null :: .null :: .int 0 :: .int 0 :: [] : List Value).length = 39 := rfl
  refine m_arr (N := 12) (c := .inl (0, 12, .inl (fun _ => 0))) (k := 28) hF hl hn hs (by omega) (fun k => ar_aload_n 109 d_175_108 rfl rfl k) (fun k => ar_bipush 111 (v := 12) d_175_109 rfl (by decide) k) (fun k => ar_newi 113 d_175_111 rfl (by decide) (N := 12) (by decide +kernel) (by decide) k) d_175_113 (p4 := 116) rfl rfl (by decide +kernel) (by decide) (fun _ => rfl) (fun _ => rfl) (fun h1 q1 q2 q3 q4 q5 => ?_)
  replace hf := hf.trC q4 (fun x _ hB => hB)
  replace hl := q5
  replace hF := q1
  replace hn : h1.1 = n + 13 := q2
  replace hs : h1.2.1 = sl + 406442 := by omega
  clear q1 q2 q3 q4 q5
  refine m_arr (N := 12) (c := .inl (0, 12, .inl (fun _ => 0))) (k := 29) hF hl hn hs (by omega) (fun k => ar_aload_n 117 d_175_116 rfl rfl k) (fun k => ar_bipush 119 (v := 12) d_175_117 rfl (by decide) k) (fun k => ar_newi 121 d_175_119 rfl (by decide) (N := 12) (by decide +kernel) (by decide) k) d_175_121 (p4 := 124) rfl rfl (by decide +kernel) (by decide) (fun _ => rfl) (fun _ => rfl) (fun h2 q1 q2 q3 q4 q5 => ?_)
  replace hf := hf.trC q4 (fun x _ hB => hB)
  replace hl := q5
  replace hF := q1
  replace hn : h2.1 = n + 14 := q2
  replace hs : h2.2.1 = sl + 406454 := by omega
  clear q1 q2 q3 q4 q5
  refine m_arr (N := 4800) (c := .inl (1, 4800, .inl (fun _ => 0))) (k := 30) hF hl hn hs (by omega) (fun k => ar_aload_n 125 d_175_124 rfl rfl k) (fun k => ar_sipush 128 (v := 4800) d_175_125 rfl (by decide) k) (fun k => ar_newb 130 d_175_128 rfl (by decide) (N := 4800) (by decide +kernel) (by decide) k) d_175_130 (p4 := 133) rfl rfl (by decide +kernel) (by decide) (fun _ => rfl) (fun _ => rfl) (fun h3 q1 q2 q3 q4 q5 => ?_)
  replace hf := hf.trC q4 (fun x _ hB => hB)
  replace hl := q5
  replace hF := q1
  replace hn : h3.1 = n + 15 := q2
  replace hs : h3.2.1 = sl + 411254 := by omega
  clear q1 q2 q3 q4 q5
  refine m_arr (N := 24) (c := .inl (0, 24, .inl (fun _ => 0))) (k := 31) hF hl hn hs (by omega) (fun k => ar_aload_n 134 d_175_133 rfl rfl k) (fun k => ar_bipush 136 (v := 24) d_175_134 rfl (by decide) k) (fun k => ar_newi 138 d_175_136 rfl (by decide) (N := 24) (by decide +kernel) (by decide) k) d_175_138 (p4 := 141) rfl rfl (by decide +kernel) (by decide) (fun _ => rfl) (fun _ => rfl) (fun h4 q1 q2 q3 q4 q5 => ?_)
  replace hf := hf.trC q4 (fun x _ hB => hB)
  replace hl := q5
  replace hF := q1
  replace hn : h4.1 = n + 16 := q2
  replace hs : h4.2.1 = sl + 411278 := by omega
  clear q1 q2 q3 q4 q5
  exact kk _ hF hn hs hf
set_option maxRecDepth 100000 in
theorem m_183 {L : Nat} {xs : Nat → Int32} {fr lo m0 n sl nn gg cc : Nat} {x1 x2 x3 : Int32} {h : ax_H} {post : ax_Po} (hn0 : 0 < n)  (hF : ax_hs h ((m0, .inr (11, .int 0 :: .int 0 :: .int 0 :: .int 0 :: .int 0 :: .int 1 :: .int 0 :: .int 0 :: .ref n :: .int 0 :: .ref (n + 1) :: .ref (n + 2) :: .ref (n + 3) :: .ref (n + 4) :: .ref (n + 5) :: .ref (n + 6) :: .ref (n + 7) :: .ref (n + 8) :: .ref (n + 9) :: .ref (n + 10) :: .int 0 :: .int 0 :: .int 0 :: .int 0 :: .int 0 :: .int 0 :: .int 0 :: .ref (n + 11) :: .ref (n + 12) :: .ref (n + 13) :: .ref (n + 14) :: .ref (n + 15) :: .null :: .null :: .null :: .null :: .null :: .int 0 :: .int 0 :: [])) :: (n, .inl (1, 2048, .inl (fun _ => 0))) :: (n + 1, .inl (1, 400, .inl (fun _ => 0))) :: (n + 2, .inl (0, 2, .inl (fun _ => 0))) :: (n + 3, .inl (0, 48, .inl (fun _ => 0))) :: (n + 4, .inl (2, 48, .inl (fun _ => 0))) :: (n + 5, .inl (1, 9600, .inl (fun _ => 0))) :: (n + 6, .inl (0, 48, .inl (fun _ => 0))) :: (n + 7, .inl (0, 48, .inl (fun _ => 0))) :: (n + 8, .inl (0, 48, .inl (fun _ => 0))) :: (n + 9, .inl (1, 393216, .inl (fun _ => 0))) :: (n + 10, .inl (2, 912, .inl (fun _ => 0))) :: (n + 11, .inl (0, 12, .inl (fun _ => 0))) :: (n + 12, .inl (0, 12, .inl (fun _ => 0))) :: (n + 13, .inl (0, 12, .inl (fun _ => 0))) :: (n + 14, .inl (1, 4800, .inl (fun _ => 0))) :: (n + 15, .inl (0, 24, .inl (fun _ => 0))) :: [])) (hn : h.1 = n + 16) (hs : h.2.1 = sl + 411278) (kk : ∀ h', ax_hs h' ((m0, .inr (11, .int 0 :: .int 0 :: .int 0 :: .int 0 :: .int 0 :: .int 1 :: .int 0 :: .int 0 :: .ref n :: .int 0 :: .ref (n + 1) :: .ref (n + 2) :: .ref (n + 3) :: .ref (n + 4) :: .ref (n + 5) :: .ref (n + 6) :: .ref (n + 7) :: .ref (n + 8) :: .ref (n + 9) :: .ref (n + 10) :: .int 0 :: .int 0 :: .int 0 :: .int 0 :: .int 0 :: .int 0 :: .int 0 :: .ref (n + 11) :: .ref (n + 12) :: .ref (n + 13) :: .ref (n + 14) :: .ref (n + 15) :: .ref (n + 16) :: .ref (n + 17) :: .ref (n + 18) :: .ref (n + 19) :: .ref (n + 20) :: .int 0 :: .int 0 :: [])) :: (n, .inl (1, 2048, .inl (fun _ => 0))) :: (n + 1, .inl (1, 400, .inl (fun _ => 0))) :: (n + 2, .inl (0, 2, .inl (fun _ => 0))) :: (n + 3, .inl (0, 48, .inl (fun _ => 0))) :: (n + 4, .inl (2, 48, .inl (fun _ => 0))) :: (n + 5, .inl (1, 9600, .inl (fun _ => 0))) :: (n + 6, .inl (0, 48, .inl (fun _ => 0))) :: (n + 7, .inl (0, 48, .inl (fun _ => 0))) :: (n + 8, .inl (0, 48, .inl (fun _ => 0))) :: (n + 9, .inl (1, 393216, .inl (fun _ => 0))) :: (n + 10, .inl (2, 912, .inl (fun _ => 0))) :: (n + 11, .inl (0, 12, .inl (fun _ => 0))) :: (n + 12, .inl (0, 12, .inl (fun _ => 0))) :: (n + 13, .inl (0, 12, .inl (fun _ => 0))) :: (n + 14, .inl (1, 4800, .inl (fun _ => 0))) :: (n + 15, .inl (0, 24, .inl (fun _ => 0))) :: (n + 16, .inl (1, 24576, .inl (fun _ => 0))) :: (n + 17, .inl (0, 12, .inl (fun _ => 0))) :: (n + 18, .inl (0, 64, .inl (fun _ => 0))) :: (n + 19, .inl (0, 24576, .inl (fun _ => 0))) :: (n + 20, .inl (0, 12, .inl (fun _ => 0))) :: []) → h'.1 = n + 21 → h'.2.1 = sl + 460518 → ax_fr (fun x => x ∈ [m0]) h h' → ax_A (ax_step L xs) ((175, 183, fr, lo), [(0, .ref m0), (1, .int x1), (2, .int x2), (3, .int x3)], [], h') post) : ax_A (ax_step L xs) ((175, 141, fr, lo), [(0, .ref m0), (1, .int x1), (2, .int x2), (3, .int x3)], [], h) post := by
  have hf : ax_fr (fun x => x ∈ [m0]) h h := ax_fr.rf
  have hl : (.int 0 :: .int 0 :: .int 0 :: .int 0 :: .int 0 :: .int 1 :: .int 0 :: .int 0 :: .ref n :: .int 0 :: .ref (n + 1) :: .ref (n + 2) :: .ref (n + 3) :: .ref (n + 4) :: .ref (n + 5) :: .ref (n + 6) :: .ref (n + 7) :: .ref (n + 8) :: .ref (n + 9) :: .ref (n + 10) :: .int 0 :: .int 0 :: .int 0 :: .int 0 :: .int 0 :: .int 0 :: .int 0 :: .ref (n + 11) :: .ref (n + 12) :: .ref (n + 13) :: .ref (n + 14) :: .ref (n + 15) :: .null :: .null :: .null :: .null :: .null :: .int 0 :: .int 0 :: [] : List Value).length = 39 := rfl
  refine m_arr (N := 24576) (c := .inl (1, 24576, .inl (fun _ => 0))) (k := 32) hF hl hn hs (by omega) (fun k => ar_aload_n 142 d_175_141 rfl rfl k) (fun k => ar_sipush 145 (v := 24576) d_175_142 rfl (by decide) k) (fun k => ar_newb 147 d_175_145 rfl (by decide) (N := 24576) (by decide +kernel) (by decide) k) d_175_147 (p4 := 150) rfl rfl (by decide +kernel) (by decide) (fun _ => rfl) (fun _ => rfl) (fun h1 q1 q2 q3 q4 q5 => ?_)
  replace hf := hf.trC q4 (fun x _ hB => hB)
  replace hl := q5
  replace hF := q1
  replace hn : h1.1 = n + 17 := q2
  replace hs : h1.2.1 = sl + 435854 := by omega
  clear q1 q2 q3 q4 q5
  refine m_arr (N := 12) (c := .inl (0, 12, .inl (fun _ => 0))) (k := 33) hF hl hn hs (by omega) (fun k => ar_aload_n 151 d_175_150 rfl rfl k) (fun k => ar_bipush 153 (v := 12) d_175_151 rfl (by decide) k) (fun k => ar_newi 155 d_175_153 rfl (by decide) (N := 12) (by decide +kernel) (by decide) k) d_175_155 (p4 := 158) rfl rfl (by decide +kernel) (by decide) (fun _ => rfl) (fun _ => rfl) (fun h2 q1 q2 q3 q4 q5 => ?_)
  replace hf := hf.trC q4 (fun x _ hB => hB)
  replace hl := q5
  replace hF := q1
  replace hn : h2.1 = n + 18 := q2
  replace hs : h2.2.1 = sl + 435866 := by omega
  clear q1 q2 q3 q4 q5
  refine m_arr (N := 64) (c := .inl (0, 64, .inl (fun _ => 0))) (k := 34) hF hl hn hs (by omega) (fun k => ar_aload_n 159 d_175_158 rfl rfl k) (fun k => ar_bipush 161 (v := 64) d_175_159 rfl (by decide) k) (fun k => ar_newi 163 d_175_161 rfl (by decide) (N := 64) (by decide +kernel) (by decide) k) d_175_163 (p4 := 166) rfl rfl rfl (by decide) (fun _ => rfl) (fun _ => rfl) (fun h3 q1 q2 q3 q4 q5 => ?_)
  replace hf := hf.trC q4 (fun x _ hB => hB)
  replace hl := q5
  replace hF := q1
  replace hn : h3.1 = n + 19 := q2
  replace hs : h3.2.1 = sl + 435930 := by omega
  clear q1 q2 q3 q4 q5
  refine m_arr (N := 24576) (c := .inl (0, 24576, .inl (fun _ => 0))) (k := 35) hF hl hn hs (by omega) (fun k => ar_aload_n 167 d_175_166 rfl rfl k) (fun k => ar_sipush 170 (v := 24576) d_175_167 rfl (by decide) k) (fun k => ar_newi 172 d_175_170 rfl (by decide) (N := 24576) (by decide +kernel) (by decide) k) d_175_172 (p4 := 175) rfl rfl (by decide +kernel) (by decide) (fun _ => rfl) (fun _ => rfl) (fun h4 q1 q2 q3 q4 q5 => ?_)
  replace hf := hf.trC q4 (fun x _ hB => hB)
  replace hl := q5
  replace hF := q1
  replace hn : h4.1 = n + 20 := q2
  replace hs : h4.2.1 = sl + 460506 := by omega
  clear q1 q2 q3 q4 q5
  refine m_arr (N := 12) (c := .inl (0, 12, .inl (fun _ => 0))) (k := 36) hF hl hn hs (by omega) (fun k => ar_aload_n 176 d_175_175 rfl rfl k) (fun k => ar_bipush 178 (v := 12) d_175_176 rfl (by decide) k) (fun k => ar_newi 180 d_175_178 rfl (by decide) (N := 12) (by decide +kernel) (by decide) k) d_175_180 (p4 := 183) rfl rfl (by decide +kernel) (by decide) (fun _ => rfl) (fun _ => rfl) (fun h5 q1 q2 q3 q4 q5 => ?_)
  replace hf := hf.trC q4 (fun x _ hB => hB)
  replace hl := q5
  replace hF := q1
  replace hn : h5.1 = n + 21 := q2
  replace hs : h5.2.1 = sl + 460518 := by omega
  clear q1 q2 q3 q4 q5
  exact kk _ hF hn hs hf
set_option maxRecDepth 100000 in
theorem m_256 {L : Nat} {xs : Nat → Int32} {fr lo m0 n sl nn gg cc : Nat} {x1 x2 x3 : Int32} {h : ax_H} {post : ax_Po} (hn0 : 0 < n) (u3 : clI x1 3 6 = nI nn) (v3 : clI x2 2 3 = nI cc) (w3 : clI x3 1 16 = nI gg) (hF : ax_hs h ((m0, .inr (11, .int 0 :: .int 0 :: .int 0 :: .int 0 :: .int 0 :: .int 1 :: .int 0 :: .int 0 :: .ref n :: .int 0 :: .ref (n + 1) :: .ref (n + 2) :: .ref (n + 3) :: .ref (n + 4) :: .ref (n + 5) :: .ref (n + 6) :: .ref (n + 7) :: .ref (n + 8) :: .ref (n + 9) :: .ref (n + 10) :: .int 0 :: .int 0 :: .int 0 :: .int 0 :: .int 0 :: .int 0 :: .int 0 :: .ref (n + 11) :: .ref (n + 12) :: .ref (n + 13) :: .ref (n + 14) :: .ref (n + 15) :: .ref (n + 16) :: .ref (n + 17) :: .ref (n + 18) :: .ref (n + 19) :: .ref (n + 20) :: .int 0 :: .int 0 :: [])) :: (n, .inl (1, 2048, .inl (fun _ => 0))) :: (n + 1, .inl (1, 400, .inl (fun _ => 0))) :: (n + 2, .inl (0, 2, .inl (fun _ => 0))) :: (n + 3, .inl (0, 48, .inl (fun _ => 0))) :: (n + 4, .inl (2, 48, .inl (fun _ => 0))) :: (n + 5, .inl (1, 9600, .inl (fun _ => 0))) :: (n + 6, .inl (0, 48, .inl (fun _ => 0))) :: (n + 7, .inl (0, 48, .inl (fun _ => 0))) :: (n + 8, .inl (0, 48, .inl (fun _ => 0))) :: (n + 9, .inl (1, 393216, .inl (fun _ => 0))) :: (n + 10, .inl (2, 912, .inl (fun _ => 0))) :: (n + 11, .inl (0, 12, .inl (fun _ => 0))) :: (n + 12, .inl (0, 12, .inl (fun _ => 0))) :: (n + 13, .inl (0, 12, .inl (fun _ => 0))) :: (n + 14, .inl (1, 4800, .inl (fun _ => 0))) :: (n + 15, .inl (0, 24, .inl (fun _ => 0))) :: (n + 16, .inl (1, 24576, .inl (fun _ => 0))) :: (n + 17, .inl (0, 12, .inl (fun _ => 0))) :: (n + 18, .inl (0, 64, .inl (fun _ => 0))) :: (n + 19, .inl (0, 24576, .inl (fun _ => 0))) :: (n + 20, .inl (0, 12, .inl (fun _ => 0))) :: [])) (hn : h.1 = n + 21) (hs : h.2.1 = sl + 460518) (kk : ∀ h', ax_hs h' ((m0, .inr (11, .int (nI nn) :: .int (nI cc) :: .int (nI gg) :: .int 0 :: .int 0 :: .int 1 :: .int 0 :: .int 0 :: .ref n :: .int 0 :: .ref (n + 1) :: .ref (n + 2) :: .ref (n + 3) :: .ref (n + 4) :: .ref (n + 5) :: .ref (n + 6) :: .ref (n + 7) :: .ref (n + 8) :: .ref (n + 9) :: .ref (n + 10) :: .int 0 :: .int 0 :: .int 0 :: .int 0 :: .int 0 :: .int 0 :: .int 0 :: .ref (n + 11) :: .ref (n + 12) :: .ref (n + 13) :: .ref (n + 14) :: .ref (n + 15) :: .ref (n + 16) :: .ref (n + 17) :: .ref (n + 18) :: .ref (n + 19) :: .ref (n + 20) :: .int 0 :: .int 0 :: [])) :: (n, .inl (1, 2048, .inl (fun _ => 0))) :: (n + 1, .inl (1, 400, .inl (fun _ => 0))) :: (n + 2, .inl (0, 2, .inl (fun _ => 0))) :: (n + 3, .inl (0, 48, .inl (fun _ => 0))) :: (n + 4, .inl (2, 48, .inl (fun _ => 0))) :: (n + 5, .inl (1, 9600, .inl (fun _ => 0))) :: (n + 6, .inl (0, 48, .inl (fun _ => 0))) :: (n + 7, .inl (0, 48, .inl (fun _ => 0))) :: (n + 8, .inl (0, 48, .inl (fun _ => 0))) :: (n + 9, .inl (1, 393216, .inl (fun _ => 0))) :: (n + 10, .inl (2, 912, .inl (fun _ => 0))) :: (n + 11, .inl (0, 12, .inl (fun _ => 0))) :: (n + 12, .inl (0, 12, .inl (fun _ => 0))) :: (n + 13, .inl (0, 12, .inl (fun _ => 0))) :: (n + 14, .inl (1, 4800, .inl (fun _ => 0))) :: (n + 15, .inl (0, 24, .inl (fun _ => 0))) :: (n + 16, .inl (1, 24576, .inl (fun _ => 0))) :: (n + 17, .inl (0, 12, .inl (fun _ => 0))) :: (n + 18, .inl (0, 64, .inl (fun _ => 0))) :: (n + 19, .inl (0, 24576, .inl (fun _ => 0))) :: (n + 20, .inl (0, 12, .inl (fun _ => 0))) :: []) → h'.1 = n + 21 → h'.2.1 = sl + 460518 → ax_fr (fun x => x ∈ [m0]) h h' → ax_A (ax_step L xs) ((175, 256, fr, lo), [(0, .ref m0), (1, .int x1), (2, .int x2), (3, .int x3)], [], h') post) : ax_A (ax_step L xs) ((175, 183, fr, lo), [(0, .ref m0), (1, .int x1), (2, .int x2), (3, .int x3)], [], h) post := by
  have hf : ax_fr (fun x => x ∈ [m0]) h h := ax_fr.rf
  have hl : (.int 0 :: .int 0 :: .int 0 :: .int 0 :: .int 0 :: .int 1 :: .int 0 :: .int 0 :: .ref n :: .int 0 :: .ref (n + 1) :: .ref (n + 2) :: .ref (n + 3) :: .ref (n + 4) :: .ref (n + 5) :: .ref (n + 6) :: .ref (n + 7) :: .ref (n + 8) :: .ref (n + 9) :: .ref (n + 10) :: .int 0 :: .int 0 :: .int 0 :: .int 0 :: .int 0 :: .int 0 :: .int 0 :: .ref (n + 11) :: .ref (n + 12) :: .ref (n + 13) :: .ref (n + 14) :: .ref (n + 15) :: .ref (n + 16) :: .ref (n + 17) :: .ref (n + 18) :: .ref (n + 19) :: .ref (n + 20) :: .int 0 :: .int 0 :: [] : List Value).length = 39 := rfl
  refine ar_aload_n 184 d_175_183 rfl rfl ?_
  refine ar_iload_n 185 d_175_184 rfl rfl ?_
  refine ar_iconst 186 (v := 3) d_175_185 rfl (by decide) ?_
  refine m_nn u3 ?_
  refine m_put (k := 0) hF hl hn hs d_175_205 (p4 := 208) rfl rfl (by decide +kernel) (by decide) rfl rfl (fun h1 q1 q2 q3 q4 q5 => ?_)
  replace hf := hf.trC q4 (fun x _ hB => hB)
  replace hl := q5
  replace hF := q1
  replace hn : h1.1 = n + 21 := q2
  replace hs : h1.2.1 = sl + 460518 := by omega
  clear q1 q2 q3 q4 q5
  refine ar_aload_n 209 d_175_208 rfl rfl ?_
  refine ar_iload_n 210 d_175_209 rfl rfl ?_
  refine ar_iconst 211 (v := 2) d_175_210 rfl (by decide) ?_
  refine m_cc v3 ?_
  refine m_put (k := 1) hF hl hn hs d_175_228 (p4 := 231) rfl rfl (by decide +kernel) (by decide) rfl rfl (fun h2 q1 q2 q3 q4 q5 => ?_)
  replace hf := hf.trC q4 (fun x _ hB => hB)
  replace hl := q5
  replace hF := q1
  replace hn : h2.1 = n + 21 := q2
  replace hs : h2.2.1 = sl + 460518 := by omega
  clear q1 q2 q3 q4 q5
  refine ar_aload_n 232 d_175_231 rfl rfl ?_
  refine ar_iload_n 233 d_175_232 rfl rfl ?_
  refine ar_iconst 234 (v := 1) d_175_233 rfl (by decide) ?_
  refine m_gg w3 ?_
  refine m_put (k := 2) hF hl hn hs d_175_253 (p4 := 256) rfl rfl (by decide +kernel) (by decide) rfl rfl (fun h3 q1 q2 q3 q4 q5 => ?_)
  replace hf := hf.trC q4 (fun x _ hB => hB)
  replace hl := q5
  replace hF := q1
  replace hn : h3.1 = n + 21 := q2
  replace hs : h3.2.1 = sl + 460518 := by omega
  clear q1 q2 q3 q4 q5
  exact kk _ hF hn hs hf
set_option maxRecDepth 100000 in
theorem m_276 {L : Nat} {xs : Nat → Int32} {fr lo m0 n sl nn gg cc : Nat} {x1 x2 x3 : Int32} {h : ax_H} {post : ax_Po} (hn0 : 0 < n)  (hF : ax_hs h ((m0, .inr (11, .int (nI nn) :: .int (nI cc) :: .int (nI gg) :: .int 0 :: .int 0 :: .int 1 :: .int 0 :: .int 0 :: .ref n :: .int 0 :: .ref (n + 1) :: .ref (n + 2) :: .ref (n + 3) :: .ref (n + 4) :: .ref (n + 5) :: .ref (n + 6) :: .ref (n + 7) :: .ref (n + 8) :: .ref (n + 9) :: .ref (n + 10) :: .int 0 :: .int 0 :: .int 0 :: .int 0 :: .int 0 :: .int 0 :: .int 0 :: .ref (n + 11) :: .ref (n + 12) :: .ref (n + 13) :: .ref (n + 14) :: .ref (n + 15) :: .ref (n + 16) :: .ref (n + 17) :: .ref (n + 18) :: .ref (n + 19) :: .ref (n + 20) :: .int 0 :: .int 0 :: [])) :: (n, .inl (1, 2048, .inl (fun _ => 0))) :: (n + 1, .inl (1, 400, .inl (fun _ => 0))) :: (n + 2, .inl (0, 2, .inl (fun _ => 0))) :: (n + 3, .inl (0, 48, .inl (fun _ => 0))) :: (n + 4, .inl (2, 48, .inl (fun _ => 0))) :: (n + 5, .inl (1, 9600, .inl (fun _ => 0))) :: (n + 6, .inl (0, 48, .inl (fun _ => 0))) :: (n + 7, .inl (0, 48, .inl (fun _ => 0))) :: (n + 8, .inl (0, 48, .inl (fun _ => 0))) :: (n + 9, .inl (1, 393216, .inl (fun _ => 0))) :: (n + 10, .inl (2, 912, .inl (fun _ => 0))) :: (n + 11, .inl (0, 12, .inl (fun _ => 0))) :: (n + 12, .inl (0, 12, .inl (fun _ => 0))) :: (n + 13, .inl (0, 12, .inl (fun _ => 0))) :: (n + 14, .inl (1, 4800, .inl (fun _ => 0))) :: (n + 15, .inl (0, 24, .inl (fun _ => 0))) :: (n + 16, .inl (1, 24576, .inl (fun _ => 0))) :: (n + 17, .inl (0, 12, .inl (fun _ => 0))) :: (n + 18, .inl (0, 64, .inl (fun _ => 0))) :: (n + 19, .inl (0, 24576, .inl (fun _ => 0))) :: (n + 20, .inl (0, 12, .inl (fun _ => 0))) :: [])) (hn : h.1 = n + 21) (hs : h.2.1 = sl + 460518) (kk : ∀ h', ax_hs h' ((m0, .inr (11, .int (nI nn) :: .int (nI cc) :: .int (nI gg) :: .int ((1 <<< ((nI nn) &&& 31)) - 1) :: .int ((1 <<< ((nI nn) &&& 31)) - 1) :: .int 1 :: .int 0 :: .int 0 :: .ref n :: .int 0 :: .ref (n + 1) :: .ref (n + 2) :: .ref (n + 3) :: .ref (n + 4) :: .ref (n + 5) :: .ref (n + 6) :: .ref (n + 7) :: .ref (n + 8) :: .ref (n + 9) :: .ref (n + 10) :: .int 0 :: .int 0 :: .int 0 :: .int 0 :: .int 0 :: .int 0 :: .int 0 :: .ref (n + 11) :: .ref (n + 12) :: .ref (n + 13) :: .ref (n + 14) :: .ref (n + 15) :: .ref (n + 16) :: .ref (n + 17) :: .ref (n + 18) :: .ref (n + 19) :: .ref (n + 20) :: .int 0 :: .int 0 :: [])) :: (n, .inl (1, 2048, .inl (fun _ => 0))) :: (n + 1, .inl (1, 400, .inl (fun _ => 0))) :: (n + 2, .inl (0, 2, .inl (fun _ => 0))) :: (n + 3, .inl (0, 48, .inl (fun _ => 0))) :: (n + 4, .inl (2, 48, .inl (fun _ => 0))) :: (n + 5, .inl (1, 9600, .inl (fun _ => 0))) :: (n + 6, .inl (0, 48, .inl (fun _ => 0))) :: (n + 7, .inl (0, 48, .inl (fun _ => 0))) :: (n + 8, .inl (0, 48, .inl (fun _ => 0))) :: (n + 9, .inl (1, 393216, .inl (fun _ => 0))) :: (n + 10, .inl (2, 912, .inl (fun _ => 0))) :: (n + 11, .inl (0, 12, .inl (fun _ => 0))) :: (n + 12, .inl (0, 12, .inl (fun _ => 0))) :: (n + 13, .inl (0, 12, .inl (fun _ => 0))) :: (n + 14, .inl (1, 4800, .inl (fun _ => 0))) :: (n + 15, .inl (0, 24, .inl (fun _ => 0))) :: (n + 16, .inl (1, 24576, .inl (fun _ => 0))) :: (n + 17, .inl (0, 12, .inl (fun _ => 0))) :: (n + 18, .inl (0, 64, .inl (fun _ => 0))) :: (n + 19, .inl (0, 24576, .inl (fun _ => 0))) :: (n + 20, .inl (0, 12, .inl (fun _ => 0))) :: []) → h'.1 = n + 21 → h'.2.1 = sl + 460518 → ax_fr (fun x => x ∈ [m0]) h h' → ax_A (ax_step L xs) ((175, 276, fr, lo), [(0, .ref m0), (1, .int x1), (2, .int x2), (3, .int x3)], [], h') post) : ax_A (ax_step L xs) ((175, 256, fr, lo), [(0, .ref m0), (1, .int x1), (2, .int x2), (3, .int x3)], [], h) post := by
  have hf : ax_fr (fun x => x ∈ [m0]) h h := ax_fr.rf
  have hl : (.int (nI nn) :: .int (nI cc) :: .int (nI gg) :: .int 0 :: .int 0 :: .int 1 :: .int 0 :: .int 0 :: .ref n :: .int 0 :: .ref (n + 1) :: .ref (n + 2) :: .ref (n + 3) :: .ref (n + 4) :: .ref (n + 5) :: .ref (n + 6) :: .ref (n + 7) :: .ref (n + 8) :: .ref (n + 9) :: .ref (n + 10) :: .int 0 :: .int 0 :: .int 0 :: .int 0 :: .int 0 :: .int 0 :: .int 0 :: .ref (n + 11) :: .ref (n + 12) :: .ref (n + 13) :: .ref (n + 14) :: .ref (n + 15) :: .ref (n + 16) :: .ref (n + 17) :: .ref (n + 18) :: .ref (n + 19) :: .ref (n + 20) :: .int 0 :: .int 0 :: [] : List Value).length = 39 := rfl
  refine ar_aload_n 257 d_175_256 rfl rfl ?_
  refine ar_iconst 258 (v := 1) d_175_257 rfl (by decide) ?_
  refine ar_aload_n 259 d_175_258 rfl rfl ?_
  refine ar_getf 262 d_175_259 rfl (ci := 11) (k := 0) rfl (hF.at 0 rfl) rfl ?_
  refine ar_ishl 263 d_175_262 rfl ?_
  refine ar_iconst 264 (v := 1) d_175_263 rfl (by decide) ?_
  refine ar_isub 265 d_175_264 rfl ?_
  refine m_put (k := 3) hF hl hn hs d_175_265 (p4 := 268) rfl rfl rfl (by decide) rfl rfl (fun h1 q1 q2 q3 q4 q5 => ?_)
  replace hf := hf.trC q4 (fun x _ hB => hB)
  replace hl := q5
  replace hF := q1
  replace hn : h1.1 = n + 21 := q2
  replace hs : h1.2.1 = sl + 460518 := by omega
  clear q1 q2 q3 q4 q5
  refine ar_aload_n 269 d_175_268 rfl rfl ?_
  refine ar_aload_n 270 d_175_269 rfl rfl ?_
  refine ar_getf 273 d_175_270 rfl (ci := 11) (k := 3) rfl (hF.at 0 rfl) rfl ?_
  refine m_put (k := 4) hF hl hn hs d_175_273 (p4 := 276) rfl rfl rfl (by decide) rfl rfl (fun h2 q1 q2 q3 q4 q5 => ?_)
  replace hf := hf.trC q4 (fun x _ hB => hB)
  replace hl := q5
  replace hF := q1
  replace hn : h2.1 = n + 21 := q2
  replace hs : h2.2.1 = sl + 460518 := by omega
  clear q1 q2 q3 q4 q5
  exact kk _ hF hn hs hf
/-- the cells of the reference, new: m0, its arrays behind n -/
def MW (m0 n nn gg cc : Nat) : List (Nat × va_E) := ((m0, .inr (11, .int (nI nn) :: .int (nI cc) :: .int (nI gg) :: .int ((1 <<< ((nI nn) &&& 31)) - 1) :: .int ((1 <<< ((nI nn) &&& 31)) - 1) :: .int 1 :: .int 0 :: .int 0 :: .ref n :: .int 0 :: .ref (n + 1) :: .ref (n + 2) :: .ref (n + 3) :: .ref (n + 4) :: .ref (n + 5) :: .ref (n + 6) :: .ref (n + 7) :: .ref (n + 8) :: .ref (n + 9) :: .ref (n + 10) :: .int 0 :: .int 0 :: .int 0 :: .int 0 :: .int 0 :: .int 0 :: .int 0 :: .ref (n + 11) :: .ref (n + 12) :: .ref (n + 13) :: .ref (n + 14) :: .ref (n + 15) :: .ref (n + 16) :: .ref (n + 17) :: .ref (n + 18) :: .ref (n + 19) :: .ref (n + 20) :: .int 0 :: .int 0 :: [])) :: (n, .inl (1, 2048, .inl (fun _ => 0))) :: (n + 1, .inl (1, 400, .inl (fun _ => 0))) :: (n + 2, .inl (0, 2, .inl (fun _ => 0))) :: (n + 3, .inl (0, 48, .inl (fun _ => 0))) :: (n + 4, .inl (2, 48, .inl (fun _ => 0))) :: (n + 5, .inl (1, 9600, .inl (fun _ => 0))) :: (n + 6, .inl (0, 48, .inl (fun _ => 0))) :: (n + 7, .inl (0, 48, .inl (fun _ => 0))) :: (n + 8, .inl (0, 48, .inl (fun _ => 0))) :: (n + 9, .inl (1, 393216, .inl (fun _ => 0))) :: (n + 10, .inl (2, 912, .inl (fun _ => 0))) :: (n + 11, .inl (0, 12, .inl (fun _ => 0))) :: (n + 12, .inl (0, 12, .inl (fun _ => 0))) :: (n + 13, .inl (0, 12, .inl (fun _ => 0))) :: (n + 14, .inl (1, 4800, .inl (fun _ => 0))) :: (n + 15, .inl (0, 24, .inl (fun _ => 0))) :: (n + 16, .inl (1, 24576, .inl (fun _ => 0))) :: (n + 17, .inl (0, 12, .inl (fun _ => 0))) :: (n + 18, .inl (0, 64, .inl (fun _ => 0))) :: (n + 19, .inl (0, 24576, .inl (fun _ => 0))) :: (n + 20, .inl (0, 12, .inl (fun _ => 0))) :: [])
set_option maxRecDepth 100000 in
theorem c_175 {L : Nat} {xs : Nat → Int32} {fr lo m0 n sl nn gg cc : Nat} {x1 x2 x3 : Int32} {h : ax_H} (hfr : 6 ≤ fr) (hlo : 130 ≤ lo) (u3 : clI x1 3 6 = nI nn) (v3 : clI x2 2 3 = nI cc) (w3 : clI x3 1 16 = nI gg) (hF : ax_hs h [(m0, .inr (11, .int 0 :: .int 0 :: .int 0 :: .int 0 :: .int 0 :: .int 0 :: .int 0 :: .int 0 :: .null :: .int 0 :: .null :: .null :: .null :: .null :: .null :: .null :: .null :: .null :: .null :: .null :: .int 0 :: .int 0 :: .int 0 :: .int 0 :: .int 0 :: .int 0 :: .int 0 :: .null :: .null :: .null :: .null :: .null :: .null :: .null :: .null :: .null :: .null :: .int 0 :: .int 0 :: []))]) (hn : h.1 = n) (hs : h.2.1 = sl) (hn0 : 0 < n) : ax_M L xs 175 fr lo [.ref m0, .int x1, .int x2, .int x3] h (fun r h' => r = none ∧ ax_hs h' (MW m0 n nn gg cc) ∧ h'.1 = n + 21 ∧ h'.2.1 = sl + 460518 ∧ ax_fr (fun x => x ∈ [m0]) h h') := by
  show ax_A (ax_step L xs) ((175, 0, fr, lo), [(0, .ref m0), (1, .int x1), (2, .int x2), (3, .int x3)], [], h) _
  refine ar_aload_n 1 d_175_0 rfl rfl ?_
  refine ar_objI 4 d_175_1 rfl rfl (by omega) (by show 0 + 12 ≤ lo; omega) ?_
  have hf : ax_fr (fun x => x ∈ [m0]) h h := ax_fr.rf
  refine m_42 (nn := nn) (gg := gg) (cc := cc) hn0 hF hn hs (fun h' hF hn hs qf => ?_)
  replace hf := hf.trC qf (fun x _ hB => hB)
  clear qf
  refine m_75 (nn := nn) (gg := gg) (cc := cc) hn0 hF hn hs (fun h' hF hn hs qf => ?_)
  replace hf := hf.trC qf (fun x _ hB => hB)
  clear qf
  refine m_108 (nn := nn) (gg := gg) (cc := cc) hn0 hF hn hs (fun h' hF hn hs qf => ?_)
  replace hf := hf.trC qf (fun x _ hB => hB)
  clear qf
  refine m_141 (nn := nn) (gg := gg) (cc := cc) hn0 hF hn hs (fun h' hF hn hs qf => ?_)
  replace hf := hf.trC qf (fun x _ hB => hB)
  clear qf
  refine m_183 (nn := nn) (gg := gg) (cc := cc) hn0 hF hn hs (fun h' hF hn hs qf => ?_)
  replace hf := hf.trC qf (fun x _ hB => hB)
  clear qf
  refine m_256 hn0 u3 v3 w3 hF hn hs (fun h' hF hn hs qf => ?_)
  replace hf := hf.trC qf (fun x _ hB => hB)
  clear qf
  refine m_276 (nn := nn) (gg := gg) (cc := cc) hn0 hF hn hs (fun h' hF hn hs qf => ?_)
  replace hf := hf.trC qf (fun x _ hB => hB)
  clear qf
  exact ar_ret d_175_276 rfl (⟨rfl, hF, hn, hs, hf⟩)


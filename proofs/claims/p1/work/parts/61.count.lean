/-! count, of the fresh store and of the reference as new; the reference's begin -/
theorem d_180_0 : decode (axt_b 180) 0 = .ok (.iload_n 1, 1) := by decide +kernel
theorem d_180_1 : decode (axt_b 180) 1 = .ok (.ifCond .lt 45, 3) := by decide +kernel
theorem d_180_4 : decode (axt_b 180) 4 = .ok (.iload_n 1, 1) := by decide +kernel
theorem d_180_5 : decode (axt_b 180) 5 = .ok (.bipush 9, 2) := by decide +kernel
theorem d_180_7 : decode (axt_b 180) 7 = .ok (.if_icmp .gt 39, 3) := by decide +kernel
theorem d_180_10 : decode (axt_b 180) 10 = .ok (.iload_n 1, 1) := by decide +kernel
theorem d_180_11 : decode (axt_b 180) 11 = .ok (.bipush 9, 2) := by decide +kernel
theorem d_180_13 : decode (axt_b 180) 13 = .ok (.if_icmp .eq 12, 3) := by decide +kernel
theorem d_180_16 : decode (axt_b 180) 16 = .ok (.aload_n 0, 1) := by decide +kernel
theorem d_180_17 : decode (axt_b 180) 17 = .ok (.getfield 20, 3) := by decide +kernel
theorem d_180_20 : decode (axt_b 180) 20 = .ok (.iconst 0, 1) := by decide +kernel
theorem d_180_21 : decode (axt_b 180) 21 = .ok (.iaload, 1) := by decide +kernel
theorem d_180_22 : decode (axt_b 180) 22 = .ok (.ifCond .eq 24, 3) := by decide +kernel
theorem d_180_25 : decode (axt_b 180) 25 = .ok (.iload_n 1, 1) := by decide +kernel
theorem d_180_26 : decode (axt_b 180) 26 = .ok (.bipush 6, 2) := by decide +kernel
theorem d_180_28 : decode (axt_b 180) 28 = .ok (.if_icmp .eq 9, 3) := by decide +kernel
theorem d_180_31 : decode (axt_b 180) 31 = .ok (.iload_n 1, 1) := by decide +kernel
theorem d_180_32 : decode (axt_b 180) 32 = .ok (.bipush 7, 2) := by decide +kernel
theorem d_180_34 : decode (axt_b 180) 34 = .ok (.if_icmp .ne 14, 3) := by decide +kernel
theorem d_180_37 : decode (axt_b 180) 37 = .ok (.aload_n 0, 1) := by decide +kernel
theorem d_180_38 : decode (axt_b 180) 38 = .ok (.getfield 20, 3) := by decide +kernel
theorem d_180_41 : decode (axt_b 180) 41 = .ok (.iconst 1, 1) := by decide +kernel
theorem d_180_42 : decode (axt_b 180) 42 = .ok (.iaload, 1) := by decide +kernel
theorem d_180_43 : decode (axt_b 180) 43 = .ok (.ifCond .ne 5, 3) := by decide +kernel
theorem d_180_46 : decode (axt_b 180) 46 = .ok (.iconst (-1), 1) := by decide +kernel
theorem d_180_47 : decode (axt_b 180) 47 = .ok (.ireturn, 1) := by decide +kernel
theorem d_180_48 : decode (axt_b 180) 48 = .ok (.iload_n 1, 1) := by decide +kernel
theorem d_180_49 : decode (axt_b 180) 49 = .ok (.iconst 1, 1) := by decide +kernel
theorem d_180_50 : decode (axt_b 180) 50 = .ok (.if_icmp .eq 13, 3) := by decide +kernel
theorem d_180_53 : decode (axt_b 180) 53 = .ok (.iload_n 1, 1) := by decide +kernel
theorem d_180_54 : decode (axt_b 180) 54 = .ok (.iconst 3, 1) := by decide +kernel
theorem d_180_55 : decode (axt_b 180) 55 = .ok (.if_icmp .eq 8, 3) := by decide +kernel
theorem d_180_58 : decode (axt_b 180) 58 = .ok (.iload_n 1, 1) := by decide +kernel
theorem d_180_59 : decode (axt_b 180) 59 = .ok (.iconst 4, 1) := by decide +kernel
theorem d_180_60 : decode (axt_b 180) 60 = .ok (.if_icmp .ne 14, 3) := by decide +kernel
theorem d_180_63 : decode (axt_b 180) 63 = .ok (.iload_n 2, 1) := by decide +kernel
theorem d_180_64 : decode (axt_b 180) 64 = .ok (.ifCond .lt 26, 3) := by decide +kernel
theorem d_180_67 : decode (axt_b 180) 67 = .ok (.iload_n 2, 1) := by decide +kernel
theorem d_180_68 : decode (axt_b 180) 68 = .ok (.sipush 8192, 3) := by decide +kernel
theorem d_180_71 : decode (axt_b 180) 71 = .ok (.if_icmp .gt 19, 3) := by decide +kernel
theorem d_180_74 : decode (axt_b 180) 74 = .ok (.iload_n 1, 1) := by decide +kernel
theorem d_180_75 : decode (axt_b 180) 75 = .ok (.iconst 4, 1) := by decide +kernel
theorem d_180_76 : decode (axt_b 180) 76 = .ok (.if_icmp .ne 16, 3) := by decide +kernel
theorem d_180_79 : decode (axt_b 180) 79 = .ok (.iload_n 3, 1) := by decide +kernel
theorem d_180_80 : decode (axt_b 180) 80 = .ok (.ifCond .lt 10, 3) := by decide +kernel
theorem d_180_83 : decode (axt_b 180) 83 = .ok (.iload_n 3, 1) := by decide +kernel
theorem d_180_84 : decode (axt_b 180) 84 = .ok (.sipush 2048, 3) := by decide +kernel
theorem d_180_87 : decode (axt_b 180) 87 = .ok (.if_icmp .le 5, 3) := by decide +kernel
theorem d_180_90 : decode (axt_b 180) 90 = .ok (.iconst (-1), 1) := by decide +kernel
theorem d_180_91 : decode (axt_b 180) 91 = .ok (.ireturn, 1) := by decide +kernel
theorem d_180_92 : decode (axt_b 180) 92 = .ok (.aload_n 0, 1) := by decide +kernel
theorem d_180_93 : decode (axt_b 180) 93 = .ok (.getfield 102, 3) := by decide +kernel
theorem d_180_96 : decode (axt_b 180) 96 = .ok (.bipush 12, 2) := by decide +kernel
theorem d_180_98 : decode (axt_b 180) 98 = .ok (.if_icmp .ne 6, 3) := by decide +kernel
theorem d_180_101 : decode (axt_b 180) 101 = .ok (.bipush (-4), 2) := by decide +kernel
theorem d_180_103 : decode (axt_b 180) 103 = .ok (.ireturn, 1) := by decide +kernel
theorem d_180_104 : decode (axt_b 180) 104 = .ok (.aload_n 0, 1) := by decide +kernel
theorem d_180_105 : decode (axt_b 180) 105 = .ok (.getfield 102, 3) := by decide +kernel
theorem d_180_108 : decode (axt_b 180) 108 = .ok (.istore 4, 2) := by decide +kernel
theorem d_180_110 : decode (axt_b 180) 110 = .ok (.aload_n 0, 1) := by decide +kernel
theorem d_180_111 : decode (axt_b 180) 111 = .ok (.getfield 50, 3) := by decide +kernel
theorem d_180_114 : decode (axt_b 180) 114 = .ok (.iload 4, 2) := by decide +kernel
theorem d_180_116 : decode (axt_b 180) 116 = .ok (.iload_n 1, 1) := by decide +kernel
theorem d_180_117 : decode (axt_b 180) 117 = .ok (.iastore, 1) := by decide +kernel
theorem d_180_118 : decode (axt_b 180) 118 = .ok (.aload_n 0, 1) := by decide +kernel
theorem d_180_119 : decode (axt_b 180) 119 = .ok (.getfield 53, 3) := by decide +kernel
theorem d_180_122 : decode (axt_b 180) 122 = .ok (.iload 4, 2) := by decide +kernel
theorem d_180_124 : decode (axt_b 180) 124 = .ok (.iload_n 2, 1) := by decide +kernel
theorem d_180_125 : decode (axt_b 180) 125 = .ok (.iastore, 1) := by decide +kernel
theorem d_180_126 : decode (axt_b 180) 126 = .ok (.aload_n 0, 1) := by decide +kernel
theorem d_180_127 : decode (axt_b 180) 127 = .ok (.getfield 56, 3) := by decide +kernel
theorem d_180_130 : decode (axt_b 180) 130 = .ok (.iload 4, 2) := by decide +kernel
theorem d_180_132 : decode (axt_b 180) 132 = .ok (.iload_n 3, 1) := by decide +kernel
theorem d_180_133 : decode (axt_b 180) 133 = .ok (.iastore, 1) := by decide +kernel
theorem d_180_134 : decode (axt_b 180) 134 = .ok (.iconst 0, 1) := by decide +kernel
theorem d_180_135 : decode (axt_b 180) 135 = .ok (.istore 5, 2) := by decide +kernel
theorem d_180_137 : decode (axt_b 180) 137 = .ok (.iload 5, 2) := by decide +kernel
theorem d_180_139 : decode (axt_b 180) 139 = .ok (.sipush 400, 3) := by decide +kernel
theorem d_180_142 : decode (axt_b 180) 142 = .ok (.if_icmp .ge 30, 3) := by decide +kernel
theorem d_180_145 : decode (axt_b 180) 145 = .ok (.aload_n 0, 1) := by decide +kernel
theorem d_180_146 : decode (axt_b 180) 146 = .ok (.getfield 59, 3) := by decide +kernel
theorem d_180_149 : decode (axt_b 180) 149 = .ok (.sipush 400, 3) := by decide +kernel
theorem d_180_152 : decode (axt_b 180) 152 = .ok (.iload 4, 2) := by decide +kernel
theorem d_180_154 : decode (axt_b 180) 154 = .ok (.imul, 1) := by decide +kernel
theorem d_180_155 : decode (axt_b 180) 155 = .ok (.iload 5, 2) := by decide +kernel
theorem d_180_157 : decode (axt_b 180) 157 = .ok (.iadd, 1) := by decide +kernel
theorem d_180_158 : decode (axt_b 180) 158 = .ok (.aload_n 0, 1) := by decide +kernel
theorem d_180_159 : decode (axt_b 180) 159 = .ok (.getfield 17, 3) := by decide +kernel
theorem d_180_162 : decode (axt_b 180) 162 = .ok (.iload 5, 2) := by decide +kernel
theorem d_180_164 : decode (axt_b 180) 164 = .ok (.baload, 1) := by decide +kernel
theorem d_180_165 : decode (axt_b 180) 165 = .ok (.bastore, 1) := by decide +kernel
theorem d_180_166 : decode (axt_b 180) 166 = .ok (.iinc 5 1, 3) := by decide +kernel
theorem d_180_169 : decode (axt_b 180) 169 = .ok (.goto (-32), 3) := by decide +kernel
theorem d_180_172 : decode (axt_b 180) 172 = .ok (.aload_n 0, 1) := by decide +kernel
theorem d_180_173 : decode (axt_b 180) 173 = .ok (.getfield 62, 3) := by decide +kernel
theorem d_180_176 : decode (axt_b 180) 176 = .ok (.iconst 2, 1) := by decide +kernel
theorem d_180_177 : decode (axt_b 180) 177 = .ok (.iload 4, 2) := by decide +kernel
theorem d_180_179 : decode (axt_b 180) 179 = .ok (.imul, 1) := by decide +kernel
theorem d_180_180 : decode (axt_b 180) 180 = .ok (.aload_n 0, 1) := by decide +kernel
theorem d_180_181 : decode (axt_b 180) 181 = .ok (.getfield 20, 3) := by decide +kernel
theorem d_180_184 : decode (axt_b 180) 184 = .ok (.iconst 0, 1) := by decide +kernel
theorem d_180_185 : decode (axt_b 180) 185 = .ok (.iaload, 1) := by decide +kernel
theorem d_180_186 : decode (axt_b 180) 186 = .ok (.iastore, 1) := by decide +kernel
theorem d_180_187 : decode (axt_b 180) 187 = .ok (.aload_n 0, 1) := by decide +kernel
theorem d_180_188 : decode (axt_b 180) 188 = .ok (.getfield 62, 3) := by decide +kernel
theorem d_180_191 : decode (axt_b 180) 191 = .ok (.iconst 2, 1) := by decide +kernel
theorem d_180_192 : decode (axt_b 180) 192 = .ok (.iload 4, 2) := by decide +kernel
theorem d_180_194 : decode (axt_b 180) 194 = .ok (.imul, 1) := by decide +kernel
theorem d_180_195 : decode (axt_b 180) 195 = .ok (.iconst 1, 1) := by decide +kernel
theorem d_180_196 : decode (axt_b 180) 196 = .ok (.iadd, 1) := by decide +kernel
theorem d_180_197 : decode (axt_b 180) 197 = .ok (.aload_n 0, 1) := by decide +kernel
theorem d_180_198 : decode (axt_b 180) 198 = .ok (.getfield 20, 3) := by decide +kernel
theorem d_180_201 : decode (axt_b 180) 201 = .ok (.iconst 1, 1) := by decide +kernel
theorem d_180_202 : decode (axt_b 180) 202 = .ok (.iaload, 1) := by decide +kernel
theorem d_180_203 : decode (axt_b 180) 203 = .ok (.iastore, 1) := by decide +kernel
theorem d_180_204 : decode (axt_b 180) 204 = .ok (.iconst 0, 1) := by decide +kernel
theorem d_180_205 : decode (axt_b 180) 205 = .ok (.istore 5, 2) := by decide +kernel
theorem d_180_207 : decode (axt_b 180) 207 = .ok (.iload 5, 2) := by decide +kernel
theorem d_180_209 : decode (axt_b 180) 209 = .ok (.aload_n 0, 1) := by decide +kernel
theorem d_180_210 : decode (axt_b 180) 210 = .ok (.getfield 95, 3) := by decide +kernel
theorem d_180_213 : decode (axt_b 180) 213 = .ok (.if_icmp .ge 30, 3) := by decide +kernel
theorem d_180_216 : decode (axt_b 180) 216 = .ok (.aload_n 0, 1) := by decide +kernel
theorem d_180_217 : decode (axt_b 180) 217 = .ok (.getfield 65, 3) := by decide +kernel
theorem d_180_220 : decode (axt_b 180) 220 = .ok (.sipush 2048, 3) := by decide +kernel
theorem d_180_223 : decode (axt_b 180) 223 = .ok (.iload 4, 2) := by decide +kernel
theorem d_180_225 : decode (axt_b 180) 225 = .ok (.imul, 1) := by decide +kernel
theorem d_180_226 : decode (axt_b 180) 226 = .ok (.iload 5, 2) := by decide +kernel
theorem d_180_228 : decode (axt_b 180) 228 = .ok (.iadd, 1) := by decide +kernel
theorem d_180_229 : decode (axt_b 180) 229 = .ok (.aload_n 0, 1) := by decide +kernel
theorem d_180_230 : decode (axt_b 180) 230 = .ok (.getfield 13, 3) := by decide +kernel
theorem d_180_233 : decode (axt_b 180) 233 = .ok (.iload 5, 2) := by decide +kernel
theorem d_180_235 : decode (axt_b 180) 235 = .ok (.baload, 1) := by decide +kernel
theorem d_180_236 : decode (axt_b 180) 236 = .ok (.bastore, 1) := by decide +kernel
theorem d_180_237 : decode (axt_b 180) 237 = .ok (.iinc 5 1, 3) := by decide +kernel
theorem d_180_240 : decode (axt_b 180) 240 = .ok (.goto (-33), 3) := by decide +kernel
theorem d_180_243 : decode (axt_b 180) 243 = .ok (.aload_n 0, 1) := by decide +kernel
theorem d_180_244 : decode (axt_b 180) 244 = .ok (.getfield 68, 3) := by decide +kernel
theorem d_180_247 : decode (axt_b 180) 247 = .ok (.iload 4, 2) := by decide +kernel
theorem d_180_249 : decode (axt_b 180) 249 = .ok (.aload_n 0, 1) := by decide +kernel
theorem d_180_250 : decode (axt_b 180) 250 = .ok (.getfield 95, 3) := by decide +kernel
theorem d_180_253 : decode (axt_b 180) 253 = .ok (.iastore, 1) := by decide +kernel
theorem d_180_254 : decode (axt_b 180) 254 = .ok (.iload_n 1, 1) := by decide +kernel
theorem d_180_255 : decode (axt_b 180) 255 = .ok (.iconst 1, 1) := by decide +kernel
theorem d_180_256 : decode (axt_b 180) 256 = .ok (.if_icmp .eq 8, 3) := by decide +kernel
theorem d_180_259 : decode (axt_b 180) 259 = .ok (.iload_n 1, 1) := by decide +kernel
theorem d_180_260 : decode (axt_b 180) 260 = .ok (.iconst 2, 1) := by decide +kernel
theorem d_180_261 : decode (axt_b 180) 261 = .ok (.if_icmp .ne 8, 3) := by decide +kernel
theorem d_180_264 : decode (axt_b 180) 264 = .ok (.aload_n 0, 1) := by decide +kernel
theorem d_180_265 : decode (axt_b 180) 265 = .ok (.iconst 0, 1) := by decide +kernel
theorem d_180_266 : decode (axt_b 180) 266 = .ok (.putfield 95, 3) := by decide +kernel
theorem d_180_269 : decode (axt_b 180) 269 = .ok (.aload_n 0, 1) := by decide +kernel
theorem d_180_270 : decode (axt_b 180) 270 = .ok (.dup, 1) := by decide +kernel
theorem d_180_271 : decode (axt_b 180) 271 = .ok (.getfield 102, 3) := by decide +kernel
theorem d_180_274 : decode (axt_b 180) 274 = .ok (.iconst 1, 1) := by decide +kernel
theorem d_180_275 : decode (axt_b 180) 275 = .ok (.iadd, 1) := by decide +kernel
theorem d_180_276 : decode (axt_b 180) 276 = .ok (.putfield 102, 3) := by decide +kernel
theorem d_180_279 : decode (axt_b 180) 279 = .ok (.aload_n 0, 1) := by decide +kernel
theorem d_180_280 : decode (axt_b 180) 280 = .ok (.dup, 1) := by decide +kernel
theorem d_180_281 : decode (axt_b 180) 281 = .ok (.getfield 105, 3) := by decide +kernel
theorem d_180_284 : decode (axt_b 180) 284 = .ok (.iconst 1, 1) := by decide +kernel
theorem d_180_285 : decode (axt_b 180) 285 = .ok (.iadd, 1) := by decide +kernel
theorem d_180_286 : decode (axt_b 180) 286 = .ok (.putfield 105, 3) := by decide +kernel
theorem d_180_289 : decode (axt_b 180) 289 = .ok (.aload_n 0, 1) := by decide +kernel
theorem d_180_290 : decode (axt_b 180) 290 = .ok (.iconst 0, 1) := by decide +kernel
theorem d_180_291 : decode (axt_b 180) 291 = .ok (.putfield 108, 3) := by decide +kernel
theorem d_180_294 : decode (axt_b 180) 294 = .ok (.aload_n 0, 1) := by decide +kernel
theorem d_180_295 : decode (axt_b 180) 295 = .ok (.getfield 105, 3) := by decide +kernel
theorem d_180_298 : decode (axt_b 180) 298 = .ok (.iconst 1, 1) := by decide +kernel
theorem d_180_299 : decode (axt_b 180) 299 = .ok (.isub, 1) := by decide +kernel
theorem d_180_300 : decode (axt_b 180) 300 = .ok (.ireturn, 1) := by decide +kernel
def cntA (nn : Nat) (x : Int32) : Int32 := if x = 5 then 1 else if x = 6 then nI nn else if x = 7 then allN nn else if x.toInt < 0 ∨ (10 : Int) < x.toInt then -1 else 0
theorem cnt_out {nn : Nat} {x : Int32} (h : x.toInt < 0 ∨ (10 : Int) < x.toInt) : cntA nn x = -1 := by
  unfold cntA
  rw [if_neg (fun e => by subst e; revert h; decide), if_neg (fun e => by subst e; revert h; decide), if_neg (fun e => by subst e; revert h; decide), if_pos h]
theorem cnt_in {x : Int32} (h : ¬ (x.toInt < 0 ∨ (10 : Int) < x.toInt)) : ∃ k, k < 11 ∧ x = nI k := by
  refine ⟨x.toInt.toNat, by omega, ?_⟩
  apply Int32.toInt.inj
  rw [nI_toInt' (by omega)]
  omega
theorem f_172 {L : Nat} {xs : Nat → Int32} {fr lo s0 n nn gg cc p : Nat} {h : ax_H} {f : Nat → Int32} {x1 x2 x3 x : Int32} (hfr : 1 ≤ fr) (hlo : 40 ≤ lo) (hFr : Fresh h x1 x2 x3 s0 n nn gg cc p f) : ax_M L xs 172 fr lo [.ref s0, .int x] h (fun r h' => r = some (.int (cntA nn x)) ∧ h' = h) := by
  obtain ⟨⟨hn3, hn6, -⟩, -, -, -, hs0, hSW, -, -, hD⟩ := hFr
  show ax_A (ax_step L xs) ((172, 0, fr, lo), [(0, .ref s0), (1, .int x)], [], h) _
  refine ar_iload_n 1 d_172_0 rfl rfl ?_
  by_cases hr : x.toInt < 0 ∨ (10 : Int) < x.toInt
  · refine ar_tabOut 149 d_172_1 hr (by decide) ?_
    refine ar_iconst 150 (v := -1) d_172_149 rfl (by decide) ?_
    exact ar_iret d_172_150 rfl rfl (⟨(by rw [cnt_out hr]), rfl⟩)
  · obtain ⟨k, hk, rfl⟩ := cnt_in hr
    rcases (show k = 0 ∨ k = 1 ∨ k = 2 ∨ k = 3 ∨ k = 4 ∨ k = 5 ∨ k = 6 ∨ k = 7 ∨ k = 8 ∨ k = 9 ∨ k = 10 by omega) with rfl | rfl | rfl | rfl | rfl | rfl | rfl | rfl | rfl | rfl | rfl
    · refine ar_tabIn 60 d_172_1 (by decide) (off := 59) rfl (by decide) ?_
      refine ar_aload_n 61 d_172_60 rfl rfl ?_
      refine ar_getf 64 d_172_61 rfl (ci := 0) (k := 4) rfl (hSW.at 0 rfl) rfl ?_
      refine ar_getf 67 d_172_64 rfl (ci := 6) (k := 9) rfl (hSW.at 5 rfl) rfl ?_
      exact ar_iret d_172_67 rfl rfl (⟨rfl, rfl⟩)
    · refine ar_tabIn 68 d_172_1 (by decide) (off := 67) rfl (by decide) ?_
      refine ar_aload_n 69 d_172_68 rfl rfl ?_
      refine ar_getf 72 d_172_69 rfl (ci := 0) (k := 7) rfl (hSW.at 0 rfl) rfl ?_
      exact ar_iret d_172_72 rfl rfl (⟨rfl, rfl⟩)
    · refine ar_tabIn 73 d_172_1 (by decide) (off := 72) rfl (by decide) ?_
      refine ar_aload_n 74 d_172_73 rfl rfl ?_
      refine ar_getf 77 d_172_74 rfl (ci := 0) (k := 8) rfl (hSW.at 0 rfl) rfl ?_
      exact ar_iret d_172_77 rfl rfl (⟨rfl, rfl⟩)
    · refine ar_tabIn 78 d_172_1 (by decide) (off := 77) rfl (by decide) ?_
      refine ar_aload_n 79 d_172_78 rfl rfl ?_
      refine ar_getf 82 d_172_79 rfl (ci := 0) (k := 2) rfl (hSW.at 0 rfl) rfl ?_
      refine ar_getf 85 d_172_82 rfl (ci := 4) (k := 8) rfl (hSW.at 3 rfl) rfl ?_
      exact ar_iret d_172_85 rfl rfl (⟨rfl, rfl⟩)
    · refine ar_tabIn 86 d_172_1 (by decide) (off := 85) rfl (by decide) ?_
      refine ar_aload_n 87 d_172_86 rfl rfl ?_
      refine ar_getf 90 d_172_87 rfl (ci := 0) (k := 2) rfl (hSW.at 0 rfl) rfl ?_
      refine ar_getf 93 d_172_90 rfl (ci := 4) (k := 8) rfl (hSW.at 3 rfl) rfl ?_
      refine ar_aload_n 94 d_172_93 rfl rfl ?_
      refine ar_getf 97 d_172_94 rfl (ci := 0) (k := 2) rfl (hSW.at 0 rfl) rfl ?_
      refine ar_getf 100 d_172_97 rfl (ci := 4) (k := 10) rfl (hSW.at 3 rfl) rfl ?_
      refine ar_isub 101 d_172_100 rfl ?_
      refine ar_top (x' := 0) (by decide) ?_
      exact ar_iret d_172_101 rfl rfl (⟨rfl, rfl⟩)
    · refine ar_tabIn 102 d_172_1 (by decide) (off := 101) rfl (by decide) ?_
      refine ar_aload_n 103 d_172_102 rfl rfl ?_
      refine ar_getf 106 d_172_103 rfl (ci := 0) (k := 2) rfl (hSW.at 0 rfl) rfl ?_
      refine ar_getf 109 d_172_106 rfl (ci := 4) (k := 13) rfl (hSW.at 3 rfl) rfl ?_
      exact ar_iret d_172_109 rfl rfl (⟨rfl, rfl⟩)
    · refine ar_tabIn 110 d_172_1 (by decide) (off := 109) rfl (by decide) ?_
      refine ar_aload_n 111 d_172_110 rfl rfl ?_
      refine ar_call (r := []) (na := 0) (kd := 0) (cm := 173) (fr2 := fr - 1) (lo2 := lo - 22) 114 d_172_111 (ar_hoV (as := []) rfl rfl rfl (hSW.at 0 rfl)) rfl (by omega) (show lo - 22 + (19 + 3) = lo by omega) (Nat.le_of_ble_eq_true rfl) (Nat.le_of_ble_eq_true rfl) (f_173 (nb := n + 329) (fun j hj => (let ⟨fm, hq⟩ := hD j hj; ⟨_, hq.at 0 rfl, rfl⟩)) (by omega) (hSW.sub (F' := [(s0, .inr (0, [.ref (n + 264), .ref n, .ref (n + 266), .ref (n + 328), .ref (n + 320), .ref (n + 262), .ref (n + 263), .int 0, .int 0, .int 0, .int 0])), (n + 328, .inl (5, nn, .inr (.inr (.inr (.inr (fun j => if j < nn then some (n + 329 + 22 * j) else none))))))]) [0, 4] rfl rfl)) ?_
      intro v hh hq
      obtain ⟨rfl, ehh⟩ := hq
      rw [ehh]
      clear ehh
      exact ar_iret d_172_114 rfl rfl (⟨rfl, rfl⟩)
    · refine ar_tabIn 115 d_172_1 (by decide) (off := 114) rfl (by decide) ?_
      refine ar_aload_n 116 d_172_115 rfl rfl ?_
      refine ar_getf 119 d_172_116 rfl (ci := 0) (k := 2) rfl (hSW.at 0 rfl) rfl ?_
      refine ar_getf 122 d_172_119 rfl (ci := 4) (k := 14) rfl (hSW.at 3 rfl) rfl ?_
      exact ar_iret d_172_122 rfl rfl (⟨rfl, rfl⟩)
    · refine ar_tabIn 123 d_172_1 (by decide) (off := 122) rfl (by decide) ?_
      refine ar_aload_n 124 d_172_123 rfl rfl ?_
      refine ar_getf 127 d_172_124 rfl (ci := 0) (k := 9) rfl (hSW.at 0 rfl) rfl ?_
      exact ar_iret d_172_127 rfl rfl (⟨rfl, rfl⟩)
    · refine ar_tabIn 128 d_172_1 (by decide) (off := 127) rfl (by decide) ?_
      refine ar_aload_n 129 d_172_128 rfl rfl ?_
      refine ar_getf 132 d_172_129 rfl (ci := 0) (k := 2) rfl (hSW.at 0 rfl) rfl ?_
      refine ar_getf 135 d_172_132 rfl (ci := 4) (k := 3) rfl (hSW.at 3 rfl) rfl ?_
      exact ar_iret d_172_135 rfl rfl (⟨rfl, rfl⟩)
    · refine ar_tabIn 136 d_172_1 (by decide) (off := 135) rfl (by decide) ?_
      refine ar_aload_n 137 d_172_136 rfl rfl ?_
      refine ar_getf 140 d_172_137 rfl (ci := 0) (k := 10) rfl (hSW.at 0 rfl) rfl ?_
      refine ar_if_eq 147 143 d_172_140 (by decide) rfl (fun _ => ?_) (fun c => absurd (rfl) c)
      refine ar_iconst 148 (v := 0) d_172_147 rfl (by decide) ?_
      exact ar_iret d_172_148 rfl rfl (⟨rfl, rfl⟩)
theorem n_217 {L : Nat} {xs : Nat → Int32} {fr lo m n sl : Nat} {h : ax_H} {fs : List Value} {nn : Nat} {x : Int32} (hfr : 1 ≤ fr) (hlo : 40 ≤ lo) (hn3 : 3 ≤ nn) (hn6 : nn ≤ 6) (hl : fs.length = 39) (z3 : fs[3]? = some (.int (allN nn))) (z4 : fs[4]? = some (.int (allN nn))) (z5 : fs[5]? = some (.int 1)) (z6 : fs[6]? = some (.int 0)) (z7 : fs[7]? = some (.int 0)) (z9 : fs[9]? = some (.int 0)) (z22 : fs[22]? = some (.int 0)) (z23 : fs[23]? = some (.int 0)) (z24 : fs[24]? = some (.int 0)) (z25 : fs[25]? = some (.int 0)) (z26 : fs[26]? = some (.int 0)) (hF : ax_hs h [(m, .inr (11, fs))]) (hn : h.1 = n) (hs : h.2.1 = sl) (hn0 : 0 < n) : ax_M L xs 217 fr lo [.ref m, .int x] h (fun r h' => r = some (.int (cntA nn x)) ∧ h'.1 = n ∧ h'.2.1 = sl) := by
  show ax_A (ax_step L xs) ((217, 0, fr, lo), [(0, .ref m), (1, .int x)], [], h) _
  have hbase : h.1 = n := hn
  have hbasl : h.2.1 = sl := hs
  have hf : ax_fr (fun x => x ∈ [m]) h h := ax_fr.rf
  refine ar_iload_n 1 d_217_0 rfl rfl ?_
  by_cases hr : x.toInt < 0 ∨ (10 : Int) < x.toInt
  · refine ar_tabOut 126 d_217_1 hr (by decide) ?_
    refine ar_iconst 127 (v := -1) d_217_126 rfl (by decide) ?_
    exact ar_iret d_217_127 rfl rfl (⟨(by rw [cnt_out hr]), hn, hs⟩)
  · obtain ⟨k, hk, rfl⟩ := cnt_in hr
    rcases (show k = 0 ∨ k = 1 ∨ k = 2 ∨ k = 3 ∨ k = 4 ∨ k = 5 ∨ k = 6 ∨ k = 7 ∨ k = 8 ∨ k = 9 ∨ k = 10 by omega) with rfl | rfl | rfl | rfl | rfl | rfl | rfl | rfl | rfl | rfl | rfl
    · refine ar_tabIn 60 d_217_1 (by decide) (off := 59) rfl (by decide) ?_
      refine ar_aload_n 61 d_217_60 rfl rfl ?_
      refine ar_getf 64 d_217_61 rfl (ci := 11) (k := 22) rfl (hF.at 0 rfl) z22 ?_
      exact ar_iret d_217_64 rfl rfl (⟨rfl, hn, hs⟩)
    · refine ar_tabIn 65 d_217_1 (by decide) (off := 64) rfl (by decide) ?_
      refine ar_aload_n 66 d_217_65 rfl rfl ?_
      refine ar_getf 69 d_217_66 rfl (ci := 11) (k := 23) rfl (hF.at 0 rfl) z23 ?_
      exact ar_iret d_217_69 rfl rfl (⟨rfl, hn, hs⟩)
    · refine ar_tabIn 70 d_217_1 (by decide) (off := 69) rfl (by decide) ?_
      refine ar_aload_n 71 d_217_70 rfl rfl ?_
      refine ar_getf 74 d_217_71 rfl (ci := 11) (k := 24) rfl (hF.at 0 rfl) z24 ?_
      exact ar_iret d_217_74 rfl rfl (⟨rfl, hn, hs⟩)
    · refine ar_tabIn 75 d_217_1 (by decide) (off := 74) rfl (by decide) ?_
      refine ar_aload_n 76 d_217_75 rfl rfl ?_
      refine ar_getf 79 d_217_76 rfl (ci := 11) (k := 25) rfl (hF.at 0 rfl) z25 ?_
      exact ar_iret d_217_79 rfl rfl (⟨rfl, hn, hs⟩)
    · refine ar_tabIn 80 d_217_1 (by decide) (off := 79) rfl (by decide) ?_
      refine ar_aload_n 81 d_217_80 rfl rfl ?_
      refine ar_getf 84 d_217_81 rfl (ci := 11) (k := 26) rfl (hF.at 0 rfl) z26 ?_
      exact ar_iret d_217_84 rfl rfl (⟨rfl, hn, hs⟩)
    · refine ar_tabIn 85 d_217_1 (by decide) (off := 84) rfl (by decide) ?_
      refine ar_aload_n 86 d_217_85 rfl rfl ?_
      refine ar_getf 89 d_217_86 rfl (ci := 11) (k := 5) rfl (hF.at 0 rfl) z5 ?_
      exact ar_iret d_217_89 rfl rfl (⟨rfl, hn, hs⟩)
    · refine ar_tabIn 90 d_217_1 (by decide) (off := 89) rfl (by decide) ?_
      refine ar_aload_n 91 d_217_90 rfl rfl ?_
      refine ar_getf 94 d_217_91 rfl (ci := 11) (k := 3) rfl (hF.at 0 rfl) z3 ?_
      refine ar_call (r := []) (na := 0) (kd := 0) (cm := 218) (fr2 := fr - 1) (lo2 := lo - 22) 97 d_217_94 (ar_hoS (as := [.int (allN nn)]) rfl rfl rfl) rfl (by omega) (show lo - 22 + (19 + 3) = lo by omega) (Nat.le_of_ble_eq_true rfl) (Nat.le_of_ble_eq_true rfl) (n_218 hn3 hn6) ?_
      intro v hh hq
      obtain ⟨rfl, ehh⟩ := hq
      rw [ehh]
      clear ehh
      exact ar_iret d_217_97 rfl rfl (⟨rfl, hn, hs⟩)
    · refine ar_tabIn 98 d_217_1 (by decide) (off := 97) rfl (by decide) ?_
      refine ar_aload_n 99 d_217_98 rfl rfl ?_
      refine ar_getf 102 d_217_99 rfl (ci := 11) (k := 4) rfl (hF.at 0 rfl) z4 ?_
      exact ar_iret d_217_102 rfl rfl (⟨rfl, hn, hs⟩)
    · refine ar_tabIn 103 d_217_1 (by decide) (off := 102) rfl (by decide) ?_
      refine ar_aload_n 104 d_217_103 rfl rfl ?_
      refine ar_getf 107 d_217_104 rfl (ci := 11) (k := 6) rfl (hF.at 0 rfl) z6 ?_
      exact ar_iret d_217_107 rfl rfl (⟨rfl, hn, hs⟩)
    · refine ar_tabIn 108 d_217_1 (by decide) (off := 107) rfl (by decide) ?_
      refine ar_aload_n 109 d_217_108 rfl rfl ?_
      refine ar_getf 112 d_217_109 rfl (ci := 11) (k := 9) rfl (hF.at 0 rfl) z9 ?_
      exact ar_iret d_217_112 rfl rfl (⟨rfl, hn, hs⟩)
    · refine ar_tabIn 113 d_217_1 (by decide) (off := 112) rfl (by decide) ?_
      refine ar_aload_n 114 d_217_113 rfl rfl ?_
      refine ar_getf 117 d_217_114 rfl (ci := 11) (k := 7) rfl (hF.at 0 rfl) z7 ?_
      refine ar_if_eq 124 120 d_217_117 (by decide) rfl (fun _ => ?_) (fun c => absurd (rfl) c)
      refine ar_iconst 125 (v := 0) d_217_124 rfl (by decide) ?_
      exact ar_iret d_217_125 rfl rfl (⟨rfl, hn, hs⟩)
theorem n_180n {L : Nat} {xs : Nat → Int32} {fr lo m a11 : Nat} {h : ax_H} {fs : List Value} {lf : Nat → Int32} {x y z : Int32} (hx : ¬ x = 9) (hl0 : lf ((0 : Int32).toNatClampNeg) = 0) (z11 : fs[11]? = some (.ref a11)) (hF : ax_hs h [(m, .inr (11, fs)), (a11, .inl (0, 2, .inl lf))]) : ax_M L xs 180 fr lo [.ref m, .int x, .int y, .int z] h (fun r h' => r = some (.int (-1)) ∧ h' = h) := by
  show ax_A (ax_step L xs) ((180, 0, fr, lo), [(0, .ref m), (1, .int x), (2, .int y), (3, .int z)], [], h) _
  refine ar_iload_n 1 d_180_0 rfl rfl ?_
  refine ar_if_lt 46 4 d_180_1 (by decide) rfl (fun c1 => ?_) (fun c1 => ?_)
  · refine ar_iconst 47 (v := -1) d_180_46 rfl (by decide) ?_
    exact ar_iret d_180_47 rfl rfl (⟨rfl, rfl⟩)
  · refine ar_iload_n 5 d_180_4 rfl rfl ?_
    refine ar_bipush 7 (v := 9) d_180_5 rfl (by decide) ?_
    refine ar_icmp_gt 46 10 d_180_7 (by decide) rfl (fun c2 => ?_) (fun c2 => ?_)
    · refine ar_iconst 47 (v := -1) d_180_46 rfl (by decide) ?_
      exact ar_iret d_180_47 rfl rfl (⟨rfl, rfl⟩)
    · refine ar_iload_n 11 d_180_10 rfl rfl ?_
      refine ar_bipush 13 (v := 9) d_180_11 rfl (by decide) ?_
      refine ar_icmp_eq 25 16 d_180_13 (by decide) rfl (fun c => absurd c (hx)) (fun _ => ?_)
      refine ar_aload_n 17 d_180_16 rfl rfl ?_
      refine ar_getf 20 d_180_17 rfl (ci := 11) (k := 11) rfl (hF.at 0 rfl) z11 ?_
      refine ar_iconst 21 (v := 0) d_180_20 rfl (by decide) ?_
      refine ar_iald 22 d_180_21 rfl (hF.at 1 rfl) (vin (i := 0) (by decide) (by decide)) ?_
      refine ar_if_eq 46 25 d_180_22 (by decide) rfl (fun _ => ?_) (fun c => absurd (hl0) c)
      refine ar_iconst 47 (v := -1) d_180_46 rfl (by decide) ?_
      exact ar_iret d_180_47 rfl rfl (⟨rfl, rfl⟩)
theorem nlp_180 {L : Nat} {xs : Nat → Int32} {fr lo m n sl a10 a11 a27 a28 a29 a30 a31 a33 : Nat} {fs : List Value} {f10 lf f27 f28 f29 f31 f33 : Nat → Int32} {y z c7 : Int32} {post : ax_Po} (hl : fs.length = 39) (z7 : fs[7]? = some (.int c7)) (z9 : fs[9]? = some (.int 0)) (z10 : fs[10]? = some (.ref a10)) (z11 : fs[11]? = some (.ref a11)) (z25 : fs[25]? = some (.int 0)) (z26 : fs[26]? = some (.int 0)) (z27 : fs[27]? = some (.ref a27)) (z28 : fs[28]? = some (.ref a28)) (z29 : fs[29]? = some (.ref a29)) (z30 : fs[30]? = some (.ref a30)) (z31 : fs[31]? = some (.ref a31)) (z33 : fs[33]? = some (.ref a33)) : ∀ (k i : Nat) (h : ax_H) (f30 : Nat → Int32), i + k = 400 → ax_hs h [(m, .inr (11, fs)), (a10, .inl (1, 400, .inl f10)), (a11, .inl (0, 2, .inl lf)), (a27, .inl (0, 12, .inl f27)), (a28, .inl (0, 12, .inl f28)), (a29, .inl (0, 12, .inl f29)), (a30, .inl (1, 4800, .inl f30)), (a31, .inl (0, 24, .inl f31)), (a33, .inl (0, 12, .inl f33))] → h.1 = n → h.2.1 = sl → (∀ (h' : ax_H) (f30 : Nat → Int32), ax_hs h' [(m, .inr (11, fs)), (a10, .inl (1, 400, .inl f10)), (a11, .inl (0, 2, .inl lf)), (a27, .inl (0, 12, .inl f27)), (a28, .inl (0, 12, .inl f28)), (a29, .inl (0, 12, .inl f29)), (a30, .inl (1, 4800, .inl f30)), (a31, .inl (0, 24, .inl f31)), (a33, .inl (0, 12, .inl f33))] → h'.1 = n → h'.2.1 = sl → ax_fr (fun x => x ∈ [a30]) h h' → ax_A (ax_step L xs) ((180, 172, fr, lo), [(0, .ref m), (1, .int 9), (2, .int y), (3, .int z), (4, .int 0), (5, .int (nI 400))], [], h') post) → ax_A (ax_step L xs) ((180, 137, fr, lo), [(0, .ref m), (1, .int 9), (2, .int y), (3, .int z), (4, .int 0), (5, .int (nI i))], [], h) post := by
  intro k
  induction k with
  | zero =>
    intro i h f30 hi hF hn hs kk
    have e : i = 400 := by omega
    subst e
    refine ar_iload 139 d_180_137 rfl rfl ?_
    refine ar_sipush 142 (v := 400) d_180_139 rfl (by decide) ?_
    refine ar_top (x' := nI 400) rfl ?_
    refine ar_icmp_ge 172 145 d_180_142 (by decide) rfl (fun _ => ?_) (fun c => absurd (Int32.le_refl _) c)
    exact kk h f30 hF hn hs ax_fr.rf
  | succ k ih =>
    intro i h f30 hi hF hn hs kk
    have hi4 : i < 400 := by omega
    have hbase : h.1 = n := hn
    have hbasl : h.2.1 = sl := hs
    have hf : ax_fr (fun x => x ∈ [a30]) h h := ax_fr.rf
    refine ar_iload 139 d_180_137 rfl rfl ?_
    refine ar_sipush 142 (v := 400) d_180_139 rfl (by decide) ?_
    refine ar_top (x' := nI 400) rfl ?_
    refine ar_icmp_ge 172 145 d_180_142 (by decide) rfl (fun c => absurd c (nI_ge hi4 (by omega))) (fun _ => ?_)
    refine ar_aload_n 146 d_180_145 rfl rfl ?_
    refine ar_getf 149 d_180_146 rfl (ci := 11) (k := 30) rfl (hF.at 0 rfl) z30 ?_
    refine ar_sipush 152 (v := 400) d_180_149 rfl (by decide) ?_
    refine ar_iload 154 d_180_152 rfl rfl ?_
    refine ar_imul 155 d_180_154 rfl ?_
    refine ar_top (x' := 0) (by decide) ?_
    refine ar_iload 157 d_180_155 rfl rfl ?_
    refine ar_iadd 158 d_180_157 rfl ?_
    refine ar_top (x' := nI i) (Int32.zero_add _) ?_
    refine ar_aload_n 159 d_180_158 rfl rfl ?_
    refine ar_getf 162 d_180_159 rfl (ci := 11) (k := 10) rfl (hF.at 0 rfl) z10 ?_
    refine ar_iload 164 d_180_162 rfl rfl ?_
    refine ar_bald 165 d_180_164 rfl (hF.at 1 rfl) (nI_in hi4 (by omega)) ?_
    refine ar_bast 166 d_180_165 rfl (hF.at 6 rfl) (nI_in (by omega) (by omega)) ?_
    replace hF : ax_hs (ax_put h a30 (.inl (1, 4800, .inl (upd f30 (nI i).toNatClampNeg (vp_nar .byte (f10 (nI i).toNatClampNeg)))))) [(m, .inr (11, fs)), (a10, .inl (1, 400, .inl f10)), (a11, .inl (0, 2, .inl lf)), (a27, .inl (0, 12, .inl f27)), (a28, .inl (0, 12, .inl f28)), (a29, .inl (0, 12, .inl f29)), (a30, .inl (1, 4800, .inl (upd f30 (nI i).toNatClampNeg (vp_nar .byte (f10 (nI i).toNatClampNeg))))), (a31, .inl (0, 24, .inl f31)), (a33, .inl (0, 12, .inl f33))] := hF.put 6 _ rfl rfl
    replace hf := hf.put (a := a30) (c := .inl (1, 4800, .inl (upd f30 (nI i).toNatClampNeg (vp_nar .byte (f10 (nI i).toNatClampNeg))))) (by simp)
    replace hn : (ax_put h a30 (.inl (1, 4800, .inl (upd f30 (nI i).toNatClampNeg (vp_nar .byte (f10 (nI i).toNatClampNeg)))))).1 = n := hn
    replace hs : (ax_put h a30 (.inl (1, 4800, .inl (upd f30 (nI i).toNatClampNeg (vp_nar .byte (f10 (nI i).toNatClampNeg)))))).2.1 = sl := hs
    generalize ax_put h a30 (.inl (1, 4800, .inl (upd f30 (nI i).toNatClampNeg (vp_nar .byte (f10 (nI i).toNatClampNeg))))) = h1 at hF hf hn hs ⊢
    refine ar_iinc 169 [(0, .ref m), (1, .int 9), (2, .int y), (3, .int z), (4, .int 0), (5, .int (nI (i + 1)))] d_180_166 rfl rfl (nI_1 i) (by decide) rfl ?_
    refine ar_goto 137 d_180_169 (by decide) ?_
    exact ih (i + 1) h1 _ (by omega) hF hn hs (fun h' f30 j1 j2 j3 j4 => kk h' f30 j1 j2 j3 (hf.tr j4))
theorem n_180y {L : Nat} {xs : Nat → Int32} {fr lo m n sl : Nat} {h : ax_H} {fs : List Value} {a10 a11 a27 a28 a29 a30 a31 a33 : Nat} {f10 lf f27 f28 f29 f30 f31 f33 : Nat → Int32} {y z c7 : Int32} (hl : fs.length = 39) (z7 : fs[7]? = some (.int c7)) (z9 : fs[9]? = some (.int 0)) (z10 : fs[10]? = some (.ref a10)) (z11 : fs[11]? = some (.ref a11)) (z25 : fs[25]? = some (.int 0)) (z26 : fs[26]? = some (.int 0)) (z27 : fs[27]? = some (.ref a27)) (z28 : fs[28]? = some (.ref a28)) (z29 : fs[29]? = some (.ref a29)) (z30 : fs[30]? = some (.ref a30)) (z31 : fs[31]? = some (.ref a31)) (z33 : fs[33]? = some (.ref a33)) (hF : ax_hs h [(m, .inr (11, fs)), (a10, .inl (1, 400, .inl f10)), (a11, .inl (0, 2, .inl lf)), (a27, .inl (0, 12, .inl f27)), (a28, .inl (0, 12, .inl f28)), (a29, .inl (0, 12, .inl f29)), (a30, .inl (1, 4800, .inl f30)), (a31, .inl (0, 24, .inl f31)), (a33, .inl (0, 12, .inl f33))]) (hn : h.1 = n) (hs : h.2.1 = sl) (hn0 : 0 < n) : ax_M L xs 180 fr lo [.ref m, .int 9, .int y, .int z] h (fun r h' => r = some (.int 0) ∧ h'.1 = n ∧ h'.2.1 = sl) := by
  show ax_A (ax_step L xs) ((180, 0, fr, lo), [(0, .ref m), (1, .int 9), (2, .int y), (3, .int z)], [], h) _
  have hbase : h.1 = n := hn
  have hbasl : h.2.1 = sl := hs
  have hf : ax_fr (fun x => x ∈ [m, a27, a28, a29, a30, a31, a33]) h h := ax_fr.rf
  refine ar_iload_n 1 d_180_0 rfl rfl ?_
  refine ar_if_lt 46 4 d_180_1 (by decide) rfl (fun c => absurd c (by decide)) (fun _ => ?_)
  refine ar_iload_n 5 d_180_4 rfl rfl ?_
  refine ar_bipush 7 (v := 9) d_180_5 rfl (by decide) ?_
  refine ar_icmp_gt 46 10 d_180_7 (by decide) rfl (fun c => absurd c (by decide)) (fun _ => ?_)
  refine ar_iload_n 11 d_180_10 rfl rfl ?_
  refine ar_bipush 13 (v := 9) d_180_11 rfl (by decide) ?_
  refine ar_icmp_eq 25 16 d_180_13 (by decide) rfl (fun _ => ?_) (fun c => absurd (rfl) c)
  refine ar_iload_n 26 d_180_25 rfl rfl ?_
  refine ar_bipush 28 (v := 6) d_180_26 rfl (by decide) ?_
  refine ar_icmp_eq 37 31 d_180_28 (by decide) rfl (fun c => absurd c (by decide)) (fun _ => ?_)
  refine ar_iload_n 32 d_180_31 rfl rfl ?_
  refine ar_bipush 34 (v := 7) d_180_32 rfl (by decide) ?_
  refine ar_icmp_ne 48 37 d_180_34 (by decide) rfl (fun _ => ?_) (fun c => absurd (by decide) c)
  refine ar_iload_n 49 d_180_48 rfl rfl ?_
  refine ar_iconst 50 (v := 1) d_180_49 rfl (by decide) ?_
  refine ar_icmp_eq 63 53 d_180_50 (by decide) rfl (fun c => absurd c (by decide)) (fun _ => ?_)
  refine ar_iload_n 54 d_180_53 rfl rfl ?_
  refine ar_iconst 55 (v := 3) d_180_54 rfl (by decide) ?_
  refine ar_icmp_eq 63 58 d_180_55 (by decide) rfl (fun c => absurd c (by decide)) (fun _ => ?_)
  refine ar_iload_n 59 d_180_58 rfl rfl ?_
  refine ar_iconst 60 (v := 4) d_180_59 rfl (by decide) ?_
  refine ar_icmp_ne 74 63 d_180_60 (by decide) rfl (fun _ => ?_) (fun c => absurd (by decide) c)
  refine ar_iload_n 75 d_180_74 rfl rfl ?_
  refine ar_iconst 76 (v := 4) d_180_75 rfl (by decide) ?_
  refine ar_icmp_ne 92 79 d_180_76 (by decide) rfl (fun _ => ?_) (fun c => absurd (by decide) c)
  refine ar_aload_n 93 d_180_92 rfl rfl ?_
  refine ar_getf 96 d_180_93 rfl (ci := 11) (k := 26) rfl (hF.at 0 rfl) z26 ?_
  refine ar_bipush 98 (v := 12) d_180_96 rfl (by decide) ?_
  refine ar_icmp_ne 104 101 d_180_98 (by decide) rfl (fun _ => ?_) (fun c => absurd (by decide) c)
  refine ar_aload_n 105 d_180_104 rfl rfl ?_
  refine ar_getf 108 d_180_105 rfl (ci := 11) (k := 26) rfl (hF.at 0 rfl) z26 ?_
  refine ar_istore 110 [(0, .ref m), (1, .int 9), (2, .int y), (3, .int z), (4, .int 0)] d_180_108 rfl (by decide) rfl ?_
  refine ar_aload_n 111 d_180_110 rfl rfl ?_
  refine ar_getf 114 d_180_111 rfl (ci := 11) (k := 27) rfl (hF.at 0 rfl) z27 ?_
  refine ar_iload 116 d_180_114 rfl rfl ?_
  refine ar_iload_n 117 d_180_116 rfl rfl ?_
  refine ar_iast 118 d_180_117 rfl (hF.at 3 rfl) (vin (i := 0) (by decide) (by decide)) ?_
  replace hF : ax_hs (ax_put h a27 (.inl (0, 12, .inl (upd f27 ((0 : Int32).toNatClampNeg) 9)))) [(m, .inr (11, fs)), (a10, .inl (1, 400, .inl f10)), (a11, .inl (0, 2, .inl lf)), (a27, .inl (0, 12, .inl (upd f27 ((0 : Int32).toNatClampNeg) 9))), (a28, .inl (0, 12, .inl f28)), (a29, .inl (0, 12, .inl f29)), (a30, .inl (1, 4800, .inl f30)), (a31, .inl (0, 24, .inl f31)), (a33, .inl (0, 12, .inl f33))] := hF.put 3 _ rfl rfl
  replace hf := hf.put (a := a27) (c := .inl (0, 12, .inl (upd f27 ((0 : Int32).toNatClampNeg) 9))) (by simp)
  replace hn : (ax_put h a27 (.inl (0, 12, .inl (upd f27 ((0 : Int32).toNatClampNeg) 9)))).1 = n := hn
  replace hs : (ax_put h a27 (.inl (0, 12, .inl (upd f27 ((0 : Int32).toNatClampNeg) 9)))).2.1 = sl := hs
  generalize ax_put h a27 (.inl (0, 12, .inl (upd f27 ((0 : Int32).toNatClampNeg) 9))) = h1 at hF hf hn hs ⊢
  refine ar_aload_n 119 d_180_118 rfl rfl ?_
  refine ar_getf 122 d_180_119 rfl (ci := 11) (k := 28) rfl (hF.at 0 rfl) z28 ?_
  refine ar_iload 124 d_180_122 rfl rfl ?_
  refine ar_iload_n 125 d_180_124 rfl rfl ?_
  refine ar_iast 126 d_180_125 rfl (hF.at 4 rfl) (vin (i := 0) (by decide) (by decide)) ?_
  replace hF : ax_hs (ax_put h1 a28 (.inl (0, 12, .inl (upd f28 ((0 : Int32).toNatClampNeg) y)))) [(m, .inr (11, fs)), (a10, .inl (1, 400, .inl f10)), (a11, .inl (0, 2, .inl lf)), (a27, .inl (0, 12, .inl (upd f27 ((0 : Int32).toNatClampNeg) 9))), (a28, .inl (0, 12, .inl (upd f28 ((0 : Int32).toNatClampNeg) y))), (a29, .inl (0, 12, .inl f29)), (a30, .inl (1, 4800, .inl f30)), (a31, .inl (0, 24, .inl f31)), (a33, .inl (0, 12, .inl f33))] := hF.put 4 _ rfl rfl
  replace hf := hf.put (a := a28) (c := .inl (0, 12, .inl (upd f28 ((0 : Int32).toNatClampNeg) y))) (by simp)
  replace hn : (ax_put h1 a28 (.inl (0, 12, .inl (upd f28 ((0 : Int32).toNatClampNeg) y)))).1 = n := hn
  replace hs : (ax_put h1 a28 (.inl (0, 12, .inl (upd f28 ((0 : Int32).toNatClampNeg) y)))).2.1 = sl := hs
  generalize ax_put h1 a28 (.inl (0, 12, .inl (upd f28 ((0 : Int32).toNatClampNeg) y))) = h2 at hF hf hn hs ⊢
  refine ar_aload_n 127 d_180_126 rfl rfl ?_
  refine ar_getf 130 d_180_127 rfl (ci := 11) (k := 29) rfl (hF.at 0 rfl) z29 ?_
  refine ar_iload 132 d_180_130 rfl rfl ?_
  refine ar_iload_n 133 d_180_132 rfl rfl ?_
  refine ar_iast 134 d_180_133 rfl (hF.at 5 rfl) (vin (i := 0) (by decide) (by decide)) ?_
  replace hF : ax_hs (ax_put h2 a29 (.inl (0, 12, .inl (upd f29 ((0 : Int32).toNatClampNeg) z)))) [(m, .inr (11, fs)), (a10, .inl (1, 400, .inl f10)), (a11, .inl (0, 2, .inl lf)), (a27, .inl (0, 12, .inl (upd f27 ((0 : Int32).toNatClampNeg) 9))), (a28, .inl (0, 12, .inl (upd f28 ((0 : Int32).toNatClampNeg) y))), (a29, .inl (0, 12, .inl (upd f29 ((0 : Int32).toNatClampNeg) z))), (a30, .inl (1, 4800, .inl f30)), (a31, .inl (0, 24, .inl f31)), (a33, .inl (0, 12, .inl f33))] := hF.put 5 _ rfl rfl
  replace hf := hf.put (a := a29) (c := .inl (0, 12, .inl (upd f29 ((0 : Int32).toNatClampNeg) z))) (by simp)
  replace hn : (ax_put h2 a29 (.inl (0, 12, .inl (upd f29 ((0 : Int32).toNatClampNeg) z)))).1 = n := hn
  replace hs : (ax_put h2 a29 (.inl (0, 12, .inl (upd f29 ((0 : Int32).toNatClampNeg) z)))).2.1 = sl := hs
  generalize ax_put h2 a29 (.inl (0, 12, .inl (upd f29 ((0 : Int32).toNatClampNeg) z))) = h3 at hF hf hn hs ⊢
  refine ar_iconst 135 (v := 0) d_180_134 rfl (by decide) ?_
  refine ar_istore 137 [(0, .ref m), (1, .int 9), (2, .int y), (3, .int z), (4, .int 0), (5, .int 0)] d_180_135 rfl (by decide) rfl ?_
  refine nlp_180 (L := L) (xs := xs) hl z7 z9 z10 z11 z25 z26 z27 z28 z29 z30 z31 z33 400 0 h3 _ (by omega) hF hn hs (fun h' f30 hF hn hs qf => ?_)
  replace hf := hf.tr (qf.mono (by intro x hx; simp at hx; subst hx; simp))
  clear qf
  refine ar_aload_n 173 d_180_172 rfl rfl ?_
  refine ar_getf 176 d_180_173 rfl (ci := 11) (k := 31) rfl (hF.at 0 rfl) z31 ?_
  refine ar_iconst 177 (v := 2) d_180_176 rfl (by decide) ?_
  refine ar_iload 179 d_180_177 rfl rfl ?_
  refine ar_imul 180 d_180_179 rfl ?_
  refine ar_top (x' := 0) (by decide) ?_
  refine ar_aload_n 181 d_180_180 rfl rfl ?_
  refine ar_getf 184 d_180_181 rfl (ci := 11) (k := 11) rfl (hF.at 0 rfl) z11 ?_
  refine ar_iconst 185 (v := 0) d_180_184 rfl (by decide) ?_
  refine ar_iald 186 d_180_185 rfl (hF.at 2 rfl) (vin (i := 0) (by decide) (by decide)) ?_
  refine ar_iast 187 d_180_186 rfl (hF.at 7 rfl) (vin (i := 0) (by decide) (by decide)) ?_
  replace hF : ax_hs (ax_put h' a31 (.inl (0, 24, .inl (upd f31 ((0 : Int32).toNatClampNeg) (lf ((0 : Int32).toNatClampNeg)))))) [(m, .inr (11, fs)), (a10, .inl (1, 400, .inl f10)), (a11, .inl (0, 2, .inl lf)), (a27, .inl (0, 12, .inl (upd f27 ((0 : Int32).toNatClampNeg) 9))), (a28, .inl (0, 12, .inl (upd f28 ((0 : Int32).toNatClampNeg) y))), (a29, .inl (0, 12, .inl (upd f29 ((0 : Int32).toNatClampNeg) z))), (a30, .inl (1, 4800, .inl f30)), (a31, .inl (0, 24, .inl (upd f31 ((0 : Int32).toNatClampNeg) (lf ((0 : Int32).toNatClampNeg))))), (a33, .inl (0, 12, .inl f33))] := hF.put 7 _ rfl rfl
  replace hf := hf.put (a := a31) (c := .inl (0, 24, .inl (upd f31 ((0 : Int32).toNatClampNeg) (lf ((0 : Int32).toNatClampNeg))))) (by simp)
  replace hn : (ax_put h' a31 (.inl (0, 24, .inl (upd f31 ((0 : Int32).toNatClampNeg) (lf ((0 : Int32).toNatClampNeg)))))).1 = n := hn
  replace hs : (ax_put h' a31 (.inl (0, 24, .inl (upd f31 ((0 : Int32).toNatClampNeg) (lf ((0 : Int32).toNatClampNeg)))))).2.1 = sl := hs
  generalize ax_put h' a31 (.inl (0, 24, .inl (upd f31 ((0 : Int32).toNatClampNeg) (lf ((0 : Int32).toNatClampNeg))))) = h4 at hF hf hn hs ⊢
  refine ar_aload_n 188 d_180_187 rfl rfl ?_
  refine ar_getf 191 d_180_188 rfl (ci := 11) (k := 31) rfl (hF.at 0 rfl) z31 ?_
  refine ar_iconst 192 (v := 2) d_180_191 rfl (by decide) ?_
  refine ar_iload 194 d_180_192 rfl rfl ?_
  refine ar_imul 195 d_180_194 rfl ?_
  refine ar_top (x' := 0) (by decide) ?_
  refine ar_iconst 196 (v := 1) d_180_195 rfl (by decide) ?_
  refine ar_iadd 197 d_180_196 rfl ?_
  refine ar_top (x' := 1) (by decide) ?_
  refine ar_aload_n 198 d_180_197 rfl rfl ?_
  refine ar_getf 201 d_180_198 rfl (ci := 11) (k := 11) rfl (hF.at 0 rfl) z11 ?_
  refine ar_iconst 202 (v := 1) d_180_201 rfl (by decide) ?_
  refine ar_iald 203 d_180_202 rfl (hF.at 2 rfl) (vin (i := 1) (by decide) (by decide)) ?_
  refine ar_iast 204 d_180_203 rfl (hF.at 7 rfl) (vin (i := 1) (by decide) (by decide)) ?_
  replace hF : ax_hs (ax_put h4 a31 (.inl (0, 24, .inl (upd (upd f31 ((0 : Int32).toNatClampNeg) (lf ((0 : Int32).toNatClampNeg))) ((1 : Int32).toNatClampNeg) (lf ((1 : Int32).toNatClampNeg)))))) [(m, .inr (11, fs)), (a10, .inl (1, 400, .inl f10)), (a11, .inl (0, 2, .inl lf)), (a27, .inl (0, 12, .inl (upd f27 ((0 : Int32).toNatClampNeg) 9))), (a28, .inl (0, 12, .inl (upd f28 ((0 : Int32).toNatClampNeg) y))), (a29, .inl (0, 12, .inl (upd f29 ((0 : Int32).toNatClampNeg) z))), (a30, .inl (1, 4800, .inl f30)), (a31, .inl (0, 24, .inl (upd (upd f31 ((0 : Int32).toNatClampNeg) (lf ((0 : Int32).toNatClampNeg))) ((1 : Int32).toNatClampNeg) (lf ((1 : Int32).toNatClampNeg))))), (a33, .inl (0, 12, .inl f33))] := hF.put 7 _ rfl rfl
  replace hf := hf.put (a := a31) (c := .inl (0, 24, .inl (upd (upd f31 ((0 : Int32).toNatClampNeg) (lf ((0 : Int32).toNatClampNeg))) ((1 : Int32).toNatClampNeg) (lf ((1 : Int32).toNatClampNeg))))) (by simp)
  replace hn : (ax_put h4 a31 (.inl (0, 24, .inl (upd (upd f31 ((0 : Int32).toNatClampNeg) (lf ((0 : Int32).toNatClampNeg))) ((1 : Int32).toNatClampNeg) (lf ((1 : Int32).toNatClampNeg)))))).1 = n := hn
  replace hs : (ax_put h4 a31 (.inl (0, 24, .inl (upd (upd f31 ((0 : Int32).toNatClampNeg) (lf ((0 : Int32).toNatClampNeg))) ((1 : Int32).toNatClampNeg) (lf ((1 : Int32).toNatClampNeg)))))).2.1 = sl := hs
  generalize ax_put h4 a31 (.inl (0, 24, .inl (upd (upd f31 ((0 : Int32).toNatClampNeg) (lf ((0 : Int32).toNatClampNeg))) ((1 : Int32).toNatClampNeg) (lf ((1 : Int32).toNatClampNeg))))) = h5 at hF hf hn hs ⊢
  refine ar_iconst 205 (v := 0) d_180_204 rfl (by decide) ?_
  refine ar_istore 207 [(0, .ref m), (1, .int 9), (2, .int y), (3, .int z), (4, .int 0), (5, .int 0)] d_180_205 rfl (by decide) rfl ?_
  refine ar_iload 209 d_180_207 rfl rfl ?_
  refine ar_aload_n 210 d_180_209 rfl rfl ?_
  refine ar_getf 213 d_180_210 rfl (ci := 11) (k := 9) rfl (hF.at 0 rfl) z9 ?_
  refine ar_icmp_ge 243 216 d_180_213 (by decide) rfl (fun _ => ?_) (fun c => absurd (Int32.le_refl _) c)
  refine ar_aload_n 244 d_180_243 rfl rfl ?_
  refine ar_getf 247 d_180_244 rfl (ci := 11) (k := 33) rfl (hF.at 0 rfl) z33 ?_
  refine ar_iload 249 d_180_247 rfl rfl ?_
  refine ar_aload_n 250 d_180_249 rfl rfl ?_
  refine ar_getf 253 d_180_250 rfl (ci := 11) (k := 9) rfl (hF.at 0 rfl) z9 ?_
  refine ar_iast 254 d_180_253 rfl (hF.at 8 rfl) (vin (i := 0) (by decide) (by decide)) ?_
  replace hF : ax_hs (ax_put h5 a33 (.inl (0, 12, .inl (upd f33 ((0 : Int32).toNatClampNeg) 0)))) [(m, .inr (11, fs)), (a10, .inl (1, 400, .inl f10)), (a11, .inl (0, 2, .inl lf)), (a27, .inl (0, 12, .inl (upd f27 ((0 : Int32).toNatClampNeg) 9))), (a28, .inl (0, 12, .inl (upd f28 ((0 : Int32).toNatClampNeg) y))), (a29, .inl (0, 12, .inl (upd f29 ((0 : Int32).toNatClampNeg) z))), (a30, .inl (1, 4800, .inl f30)), (a31, .inl (0, 24, .inl (upd (upd f31 ((0 : Int32).toNatClampNeg) (lf ((0 : Int32).toNatClampNeg))) ((1 : Int32).toNatClampNeg) (lf ((1 : Int32).toNatClampNeg))))), (a33, .inl (0, 12, .inl (upd f33 ((0 : Int32).toNatClampNeg) 0)))] := hF.put 8 _ rfl rfl
  replace hf := hf.put (a := a33) (c := .inl (0, 12, .inl (upd f33 ((0 : Int32).toNatClampNeg) 0))) (by simp)
  replace hn : (ax_put h5 a33 (.inl (0, 12, .inl (upd f33 ((0 : Int32).toNatClampNeg) 0)))).1 = n := hn
  replace hs : (ax_put h5 a33 (.inl (0, 12, .inl (upd f33 ((0 : Int32).toNatClampNeg) 0)))).2.1 = sl := hs
  generalize ax_put h5 a33 (.inl (0, 12, .inl (upd f33 ((0 : Int32).toNatClampNeg) 0))) = h6 at hF hf hn hs ⊢
  refine ar_iload_n 255 d_180_254 rfl rfl ?_
  refine ar_iconst 256 (v := 1) d_180_255 rfl (by decide) ?_
  refine ar_icmp_eq 264 259 d_180_256 (by decide) rfl (fun c => absurd c (by decide)) (fun _ => ?_)
  refine ar_iload_n 260 d_180_259 rfl rfl ?_
  refine ar_iconst 261 (v := 2) d_180_260 rfl (by decide) ?_
  refine ar_icmp_ne 269 264 d_180_261 (by decide) rfl (fun _ => ?_) (fun c => absurd (by decide) c)
  refine ar_aload_n 270 d_180_269 rfl rfl ?_
  refine ar_dup 271 d_180_270 rfl rfl ?_
  refine ar_getf 274 d_180_271 rfl (ci := 11) (k := 26) rfl (hF.at 0 rfl) z26 ?_
  refine ar_iconst 275 (v := 1) d_180_274 rfl (by decide) ?_
  refine ar_iadd 276 d_180_275 rfl ?_
  refine ar_top (x' := 1) (by decide) ?_
  refine ar_putf 279 (fs.set 26 (.int 1)) d_180_276 rfl (ci := 11) (k := 26) rfl rfl (hF.at 0 rfl) (by rw [hl]; decide) rfl rfl rfl ?_
  replace hF : ax_hs (ax_put h6 m (.inr (11, (fs.set 26 (.int 1))))) [(m, .inr (11, (fs.set 26 (.int 1)))), (a10, .inl (1, 400, .inl f10)), (a11, .inl (0, 2, .inl lf)), (a27, .inl (0, 12, .inl (upd f27 ((0 : Int32).toNatClampNeg) 9))), (a28, .inl (0, 12, .inl (upd f28 ((0 : Int32).toNatClampNeg) y))), (a29, .inl (0, 12, .inl (upd f29 ((0 : Int32).toNatClampNeg) z))), (a30, .inl (1, 4800, .inl f30)), (a31, .inl (0, 24, .inl (upd (upd f31 ((0 : Int32).toNatClampNeg) (lf ((0 : Int32).toNatClampNeg))) ((1 : Int32).toNatClampNeg) (lf ((1 : Int32).toNatClampNeg))))), (a33, .inl (0, 12, .inl (upd f33 ((0 : Int32).toNatClampNeg) 0)))] := hF.put 0 _ rfl rfl
  replace hf := hf.put (a := m) (c := .inr (11, (fs.set 26 (.int 1)))) (by simp)
  replace hn : (ax_put h6 m (.inr (11, (fs.set 26 (.int 1))))).1 = n := hn
  replace hs : (ax_put h6 m (.inr (11, (fs.set 26 (.int 1))))).2.1 = sl := hs
  generalize ax_put h6 m (.inr (11, (fs.set 26 (.int 1)))) = h7 at hF hf hn hs ⊢
  replace z7 : (fs.set 26 (.int 1))[7]? = some (.int c7) := (List.getElem?_set_ne (by decide)).trans z7
  replace z9 : (fs.set 26 (.int 1))[9]? = some (.int 0) := (List.getElem?_set_ne (by decide)).trans z9
  replace z10 : (fs.set 26 (.int 1))[10]? = some (.ref a10) := (List.getElem?_set_ne (by decide)).trans z10
  replace z11 : (fs.set 26 (.int 1))[11]? = some (.ref a11) := (List.getElem?_set_ne (by decide)).trans z11
  replace z25 : (fs.set 26 (.int 1))[25]? = some (.int 0) := (List.getElem?_set_ne (by decide)).trans z25
  replace z27 : (fs.set 26 (.int 1))[27]? = some (.ref a27) := (List.getElem?_set_ne (by decide)).trans z27
  replace z28 : (fs.set 26 (.int 1))[28]? = some (.ref a28) := (List.getElem?_set_ne (by decide)).trans z28
  replace z29 : (fs.set 26 (.int 1))[29]? = some (.ref a29) := (List.getElem?_set_ne (by decide)).trans z29
  replace z30 : (fs.set 26 (.int 1))[30]? = some (.ref a30) := (List.getElem?_set_ne (by decide)).trans z30
  replace z31 : (fs.set 26 (.int 1))[31]? = some (.ref a31) := (List.getElem?_set_ne (by decide)).trans z31
  replace z33 : (fs.set 26 (.int 1))[33]? = some (.ref a33) := (List.getElem?_set_ne (by decide)).trans z33
  replace z26 : (fs.set 26 (.int 1))[26]? = some (.int 1) := List.getElem?_set_self (by rw [hl]; decide)
  replace hl : (fs.set 26 (.int 1)).length = 39 := (List.length_set ..).trans hl
  generalize (fs.set 26 (.int 1)) = fs1 at hF hl z7 z9 z10 z11 z25 z26 z27 z28 z29 z30 z31 z33 ⊢
  refine ar_aload_n 280 d_180_279 rfl rfl ?_
  refine ar_dup 281 d_180_280 rfl rfl ?_
  refine ar_getf 284 d_180_281 rfl (ci := 11) (k := 25) rfl (hF.at 0 rfl) z25 ?_
  refine ar_iconst 285 (v := 1) d_180_284 rfl (by decide) ?_
  refine ar_iadd 286 d_180_285 rfl ?_
  refine ar_top (x' := 1) (by decide) ?_
  refine ar_putf 289 (fs1.set 25 (.int 1)) d_180_286 rfl (ci := 11) (k := 25) rfl rfl (hF.at 0 rfl) (by rw [hl]; decide) rfl rfl rfl ?_
  replace hF : ax_hs (ax_put h7 m (.inr (11, (fs1.set 25 (.int 1))))) [(m, .inr (11, (fs1.set 25 (.int 1)))), (a10, .inl (1, 400, .inl f10)), (a11, .inl (0, 2, .inl lf)), (a27, .inl (0, 12, .inl (upd f27 ((0 : Int32).toNatClampNeg) 9))), (a28, .inl (0, 12, .inl (upd f28 ((0 : Int32).toNatClampNeg) y))), (a29, .inl (0, 12, .inl (upd f29 ((0 : Int32).toNatClampNeg) z))), (a30, .inl (1, 4800, .inl f30)), (a31, .inl (0, 24, .inl (upd (upd f31 ((0 : Int32).toNatClampNeg) (lf ((0 : Int32).toNatClampNeg))) ((1 : Int32).toNatClampNeg) (lf ((1 : Int32).toNatClampNeg))))), (a33, .inl (0, 12, .inl (upd f33 ((0 : Int32).toNatClampNeg) 0)))] := hF.put 0 _ rfl rfl
  replace hf := hf.put (a := m) (c := .inr (11, (fs1.set 25 (.int 1)))) (by simp)
  replace hn : (ax_put h7 m (.inr (11, (fs1.set 25 (.int 1))))).1 = n := hn
  replace hs : (ax_put h7 m (.inr (11, (fs1.set 25 (.int 1))))).2.1 = sl := hs
  generalize ax_put h7 m (.inr (11, (fs1.set 25 (.int 1)))) = h8 at hF hf hn hs ⊢
  replace z7 : (fs1.set 25 (.int 1))[7]? = some (.int c7) := (List.getElem?_set_ne (by decide)).trans z7
  replace z9 : (fs1.set 25 (.int 1))[9]? = some (.int 0) := (List.getElem?_set_ne (by decide)).trans z9
  replace z10 : (fs1.set 25 (.int 1))[10]? = some (.ref a10) := (List.getElem?_set_ne (by decide)).trans z10
  replace z11 : (fs1.set 25 (.int 1))[11]? = some (.ref a11) := (List.getElem?_set_ne (by decide)).trans z11
  replace z26 : (fs1.set 25 (.int 1))[26]? = some (.int 1) := (List.getElem?_set_ne (by decide)).trans z26
  replace z27 : (fs1.set 25 (.int 1))[27]? = some (.ref a27) := (List.getElem?_set_ne (by decide)).trans z27
  replace z28 : (fs1.set 25 (.int 1))[28]? = some (.ref a28) := (List.getElem?_set_ne (by decide)).trans z28
  replace z29 : (fs1.set 25 (.int 1))[29]? = some (.ref a29) := (List.getElem?_set_ne (by decide)).trans z29
  replace z30 : (fs1.set 25 (.int 1))[30]? = some (.ref a30) := (List.getElem?_set_ne (by decide)).trans z30
  replace z31 : (fs1.set 25 (.int 1))[31]? = some (.ref a31) := (List.getElem?_set_ne (by decide)).trans z31
  replace z33 : (fs1.set 25 (.int 1))[33]? = some (.ref a33) := (List.getElem?_set_ne (by decide)).trans z33
  replace z25 : (fs1.set 25 (.int 1))[25]? = some (.int 1) := List.getElem?_set_self (by rw [hl]; decide)
  replace hl : (fs1.set 25 (.int 1)).length = 39 := (List.length_set ..).trans hl
  generalize (fs1.set 25 (.int 1)) = fs2 at hF hl z7 z9 z10 z11 z25 z26 z27 z28 z29 z30 z31 z33 ⊢
  refine ar_aload_n 290 d_180_289 rfl rfl ?_
  refine ar_iconst 291 (v := 0) d_180_290 rfl (by decide) ?_
  refine ar_putf 294 (fs2.set 7 (.int 0)) d_180_291 rfl (ci := 11) (k := 7) rfl rfl (hF.at 0 rfl) (by rw [hl]; decide) rfl rfl rfl ?_
  replace hF : ax_hs (ax_put h8 m (.inr (11, (fs2.set 7 (.int 0))))) [(m, .inr (11, (fs2.set 7 (.int 0)))), (a10, .inl (1, 400, .inl f10)), (a11, .inl (0, 2, .inl lf)), (a27, .inl (0, 12, .inl (upd f27 ((0 : Int32).toNatClampNeg) 9))), (a28, .inl (0, 12, .inl (upd f28 ((0 : Int32).toNatClampNeg) y))), (a29, .inl (0, 12, .inl (upd f29 ((0 : Int32).toNatClampNeg) z))), (a30, .inl (1, 4800, .inl f30)), (a31, .inl (0, 24, .inl (upd (upd f31 ((0 : Int32).toNatClampNeg) (lf ((0 : Int32).toNatClampNeg))) ((1 : Int32).toNatClampNeg) (lf ((1 : Int32).toNatClampNeg))))), (a33, .inl (0, 12, .inl (upd f33 ((0 : Int32).toNatClampNeg) 0)))] := hF.put 0 _ rfl rfl
  replace hf := hf.put (a := m) (c := .inr (11, (fs2.set 7 (.int 0)))) (by simp)
  replace hn : (ax_put h8 m (.inr (11, (fs2.set 7 (.int 0))))).1 = n := hn
  replace hs : (ax_put h8 m (.inr (11, (fs2.set 7 (.int 0))))).2.1 = sl := hs
  generalize ax_put h8 m (.inr (11, (fs2.set 7 (.int 0)))) = h9 at hF hf hn hs ⊢
  replace z9 : (fs2.set 7 (.int 0))[9]? = some (.int 0) := (List.getElem?_set_ne (by decide)).trans z9
  replace z10 : (fs2.set 7 (.int 0))[10]? = some (.ref a10) := (List.getElem?_set_ne (by decide)).trans z10
  replace z11 : (fs2.set 7 (.int 0))[11]? = some (.ref a11) := (List.getElem?_set_ne (by decide)).trans z11
  replace z25 : (fs2.set 7 (.int 0))[25]? = some (.int 1) := (List.getElem?_set_ne (by decide)).trans z25
  replace z26 : (fs2.set 7 (.int 0))[26]? = some (.int 1) := (List.getElem?_set_ne (by decide)).trans z26
  replace z27 : (fs2.set 7 (.int 0))[27]? = some (.ref a27) := (List.getElem?_set_ne (by decide)).trans z27
  replace z28 : (fs2.set 7 (.int 0))[28]? = some (.ref a28) := (List.getElem?_set_ne (by decide)).trans z28
  replace z29 : (fs2.set 7 (.int 0))[29]? = some (.ref a29) := (List.getElem?_set_ne (by decide)).trans z29
  replace z30 : (fs2.set 7 (.int 0))[30]? = some (.ref a30) := (List.getElem?_set_ne (by decide)).trans z30
  replace z31 : (fs2.set 7 (.int 0))[31]? = some (.ref a31) := (List.getElem?_set_ne (by decide)).trans z31
  replace z33 : (fs2.set 7 (.int 0))[33]? = some (.ref a33) := (List.getElem?_set_ne (by decide)).trans z33
  replace z7 : (fs2.set 7 (.int 0))[7]? = some (.int 0) := List.getElem?_set_self (by rw [hl]; decide)
  replace hl : (fs2.set 7 (.int 0)).length = 39 := (List.length_set ..).trans hl
  generalize (fs2.set 7 (.int 0)) = fs3 at hF hl z7 z9 z10 z11 z25 z26 z27 z28 z29 z30 z31 z33 ⊢
  refine ar_aload_n 295 d_180_294 rfl rfl ?_
  refine ar_getf 298 d_180_295 rfl (ci := 11) (k := 25) rfl (hF.at 0 rfl) z25 ?_
  refine ar_iconst 299 (v := 1) d_180_298 rfl (by decide) ?_
  refine ar_isub 300 d_180_299 rfl ?_
  refine ar_top (x' := 0) (by decide) ?_
  exact ar_iret d_180_300 rfl rfl (⟨rfl, hn, hs⟩)

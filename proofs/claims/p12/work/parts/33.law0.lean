/-! the script's cell; a fresh store keeps over frames -/
def scr (L : Nat) (xs : Nat → Int32) (j : Nat) : Int32 := if j < L then xs j else 0
theorem c_174 {L : Nat} {xs : Nat → Int32} {fr lo j : Nat} {h : ax_H} (hL : L < 2 ^ 31) (hj : j < 2 ^ 31) : ax_M L xs 174 fr lo [.ref 0, .int (nI j)] h (fun r h' => r = some (.int (scr L xs j)) ∧ h' = h) := by
  show ax_A (ax_step L xs) ((174, 0, fr, lo), [(0, .ref 0), (1, .int (nI j))], [], h) _
  refine ar_iload_n 1 d_174_0 rfl rfl ?_
  refine ar_aload_n 2 d_174_1 rfl rfl ?_
  refine ar_slen 3 d_174_2 rfl ?_
  refine ar_icmp_ge 12 6 d_174_3 (by decide) rfl (fun c => ?_) (fun c => ?_)
  · refine ar_iconst 13 (v := 0) d_174_12 rfl (by decide) ?_
    refine ar_top (x' := scr L xs j) (by unfold scr; rw [if_neg (fun z => absurd ((nI_ltI hj hL).mpr z) (Int32.not_lt.mpr c))]) ?_
    exact ar_iret d_174_13 rfl rfl (⟨rfl, rfl⟩)
  · have c : j < L := (nI_ltI hj hL).mp (Int32.not_le.mp c)
    refine ar_aload_n 7 d_174_6 rfl rfl ?_
    refine ar_iload_n 8 d_174_7 rfl rfl ?_
    refine ar_sald 9 d_174_8 rfl (nI_in c (by omega)) ?_
    refine ar_goto 13 d_174_9 (by decide) ?_
    refine ar_top (x' := scr L xs j) (by unfold scr; rw [if_pos c, nI_clamp hj]) ?_
    exact ar_iret d_174_13 rfl rfl (⟨rfl, rfl⟩)
theorem Fresh.fr {h h' : ax_H} {x1 x2 x3 : Int32} {s0 n nn gg cc p : Nat} {f : Nat → Int32} (k : Fresh h x1 x2 x3 s0 n nn gg cc p f) (hf : ax_fr (fun _ => False) h h') : Fresh h' x1 x2 x3 s0 n nn gg cc p f := by
  obtain ⟨k1, k2, k3, k4, k5, k6, k7, ⟨ids, ms, k8, k9⟩, k10⟩ := k
  exact ⟨k1, k2, k3, k4, k5, k6.fr hf (fun _ _ z => z), fun j hj => (k7 j hj).fr hf (fun z => z) (fun z => z), ⟨ids, ms, k8.fr hf (fun _ _ z => z), k9⟩, fun j hj => by
    obtain ⟨fm, q⟩ := k10 j hj
    exact ⟨fm, q.fr hf (fun _ _ z => z)⟩⟩
theorem d_219_0 : decode (axt_b 219) 0 = .ok (.new 7, 3) := by decide +kernel
theorem d_219_3 : decode (axt_b 219) 3 = .ok (.dup, 1) := by decide +kernel
theorem d_219_4 : decode (axt_b 219) 4 = .ok (.aload_n 0, 1) := by decide +kernel
theorem d_219_5 : decode (axt_b 219) 5 = .ok (.iconst 0, 1) := by decide +kernel
theorem d_219_6 : decode (axt_b 219) 6 = .ok (.invokestatic 9, 3) := by decide +kernel
theorem d_219_9 : decode (axt_b 219) 9 = .ok (.aload_n 0, 1) := by decide +kernel
theorem d_219_10 : decode (axt_b 219) 10 = .ok (.iconst 1, 1) := by decide +kernel
theorem d_219_11 : decode (axt_b 219) 11 = .ok (.invokestatic 9, 3) := by decide +kernel
theorem d_219_14 : decode (axt_b 219) 14 = .ok (.aload_n 0, 1) := by decide +kernel
theorem d_219_15 : decode (axt_b 219) 15 = .ok (.iconst 2, 1) := by decide +kernel
theorem d_219_16 : decode (axt_b 219) 16 = .ok (.invokestatic 9, 3) := by decide +kernel
theorem d_219_19 : decode (axt_b 219) 19 = .ok (.invokespecial 15, 3) := by decide +kernel
theorem d_219_22 : decode (axt_b 219) 22 = .ok (.astore_n 1, 1) := by decide +kernel
theorem d_219_23 : decode (axt_b 219) 23 = .ok (.new 18, 3) := by decide +kernel
theorem d_219_26 : decode (axt_b 219) 26 = .ok (.dup, 1) := by decide +kernel
theorem d_219_27 : decode (axt_b 219) 27 = .ok (.aload_n 0, 1) := by decide +kernel
theorem d_219_28 : decode (axt_b 219) 28 = .ok (.iconst 0, 1) := by decide +kernel
theorem d_219_29 : decode (axt_b 219) 29 = .ok (.invokestatic 9, 3) := by decide +kernel
theorem d_219_32 : decode (axt_b 219) 32 = .ok (.aload_n 0, 1) := by decide +kernel
theorem d_219_33 : decode (axt_b 219) 33 = .ok (.iconst 1, 1) := by decide +kernel
theorem d_219_34 : decode (axt_b 219) 34 = .ok (.invokestatic 9, 3) := by decide +kernel
theorem d_219_37 : decode (axt_b 219) 37 = .ok (.aload_n 0, 1) := by decide +kernel
theorem d_219_38 : decode (axt_b 219) 38 = .ok (.iconst 2, 1) := by decide +kernel
theorem d_219_39 : decode (axt_b 219) 39 = .ok (.invokestatic 9, 3) := by decide +kernel
theorem d_219_42 : decode (axt_b 219) 42 = .ok (.invokespecial 20, 3) := by decide +kernel
theorem d_219_45 : decode (axt_b 219) 45 = .ok (.astore_n 2, 1) := by decide +kernel
theorem d_219_46 : decode (axt_b 219) 46 = .ok (.iconst 3, 1) := by decide +kernel
theorem d_219_47 : decode (axt_b 219) 47 = .ok (.istore_n 3, 1) := by decide +kernel
theorem d_219_48 : decode (axt_b 219) 48 = .ok (.iload_n 3, 1) := by decide +kernel
theorem d_219_49 : decode (axt_b 219) 49 = .ok (.aload_n 0, 1) := by decide +kernel
theorem d_219_50 : decode (axt_b 219) 50 = .ok (.arraylength, 1) := by decide +kernel
theorem d_219_51 : decode (axt_b 219) 51 = .ok (.bipush 6, 2) := by decide +kernel
theorem d_219_53 : decode (axt_b 219) 53 = .ok (.isub, 1) := by decide +kernel
theorem d_219_54 : decode (axt_b 219) 54 = .ok (.if_icmp .gt 756, 3) := by decide +kernel
theorem d_219_57 : decode (axt_b 219) 57 = .ok (.aload_n 0, 1) := by decide +kernel
theorem d_219_58 : decode (axt_b 219) 58 = .ok (.iload_n 3, 1) := by decide +kernel
theorem d_219_59 : decode (axt_b 219) 59 = .ok (.iaload, 1) := by decide +kernel
theorem d_219_60 : decode (axt_b 219) 60 = .ok (.bipush 31, 2) := by decide +kernel
theorem d_219_62 : decode (axt_b 219) 62 = .ok (.iand, 1) := by decide +kernel
theorem d_219_63 : decode (axt_b 219) 63 = .ok (.tableswitch 741 0 21 #[101, 164, 187, 210, 253, 274, 295, 316, 349, 372, 415, 438, 461, 484, 497, 520, 553, 586, 629, 682, 705, 718], 101) := by decide +kernel
theorem d_219_164 : decode (axt_b 219) 164 = .ok (.aload_n 1, 1) := by decide +kernel
theorem d_219_165 : decode (axt_b 219) 165 = .ok (.aload_n 0, 1) := by decide +kernel
theorem d_219_166 : decode (axt_b 219) 166 = .ok (.iload_n 3, 1) := by decide +kernel
theorem d_219_167 : decode (axt_b 219) 167 = .ok (.iconst 1, 1) := by decide +kernel
theorem d_219_168 : decode (axt_b 219) 168 = .ok (.iadd, 1) := by decide +kernel
theorem d_219_169 : decode (axt_b 219) 169 = .ok (.iaload, 1) := by decide +kernel
theorem d_219_170 : decode (axt_b 219) 170 = .ok (.aload_n 0, 1) := by decide +kernel
theorem d_219_171 : decode (axt_b 219) 171 = .ok (.iload_n 3, 1) := by decide +kernel
theorem d_219_172 : decode (axt_b 219) 172 = .ok (.iconst 2, 1) := by decide +kernel
theorem d_219_173 : decode (axt_b 219) 173 = .ok (.iadd, 1) := by decide +kernel
theorem d_219_174 : decode (axt_b 219) 174 = .ok (.iaload, 1) := by decide +kernel
theorem d_219_175 : decode (axt_b 219) 175 = .ok (.aload_n 0, 1) := by decide +kernel
theorem d_219_176 : decode (axt_b 219) 176 = .ok (.iload_n 3, 1) := by decide +kernel
theorem d_219_177 : decode (axt_b 219) 177 = .ok (.iconst 3, 1) := by decide +kernel
theorem d_219_178 : decode (axt_b 219) 178 = .ok (.iadd, 1) := by decide +kernel
theorem d_219_179 : decode (axt_b 219) 179 = .ok (.iaload, 1) := by decide +kernel
theorem d_219_180 : decode (axt_b 219) 180 = .ok (.aload_n 0, 1) := by decide +kernel
theorem d_219_181 : decode (axt_b 219) 181 = .ok (.iload_n 3, 1) := by decide +kernel
theorem d_219_182 : decode (axt_b 219) 182 = .ok (.iconst 4, 1) := by decide +kernel
theorem d_219_183 : decode (axt_b 219) 183 = .ok (.iadd, 1) := by decide +kernel
theorem d_219_184 : decode (axt_b 219) 184 = .ok (.iaload, 1) := by decide +kernel
theorem d_219_185 : decode (axt_b 219) 185 = .ok (.aload_n 0, 1) := by decide +kernel
theorem d_219_186 : decode (axt_b 219) 186 = .ok (.iload_n 3, 1) := by decide +kernel
theorem d_219_187 : decode (axt_b 219) 187 = .ok (.iconst 5, 1) := by decide +kernel
theorem d_219_188 : decode (axt_b 219) 188 = .ok (.iadd, 1) := by decide +kernel
theorem d_219_189 : decode (axt_b 219) 189 = .ok (.iaload, 1) := by decide +kernel
theorem d_219_190 : decode (axt_b 219) 190 = .ok (.invokevirtual 21, 3) := by decide +kernel
theorem d_219_193 : decode (axt_b 219) 193 = .ok (.pop, 1) := by decide +kernel
theorem d_219_194 : decode (axt_b 219) 194 = .ok (.aload_n 2, 1) := by decide +kernel
theorem d_219_195 : decode (axt_b 219) 195 = .ok (.aload_n 0, 1) := by decide +kernel
theorem d_219_196 : decode (axt_b 219) 196 = .ok (.iload_n 3, 1) := by decide +kernel
theorem d_219_197 : decode (axt_b 219) 197 = .ok (.iconst 1, 1) := by decide +kernel
theorem d_219_198 : decode (axt_b 219) 198 = .ok (.iadd, 1) := by decide +kernel
theorem d_219_199 : decode (axt_b 219) 199 = .ok (.iaload, 1) := by decide +kernel
theorem d_219_200 : decode (axt_b 219) 200 = .ok (.aload_n 0, 1) := by decide +kernel
theorem d_219_201 : decode (axt_b 219) 201 = .ok (.iload_n 3, 1) := by decide +kernel
theorem d_219_202 : decode (axt_b 219) 202 = .ok (.iconst 2, 1) := by decide +kernel
theorem d_219_203 : decode (axt_b 219) 203 = .ok (.iadd, 1) := by decide +kernel
theorem d_219_204 : decode (axt_b 219) 204 = .ok (.iaload, 1) := by decide +kernel
theorem d_219_205 : decode (axt_b 219) 205 = .ok (.aload_n 0, 1) := by decide +kernel
theorem d_219_206 : decode (axt_b 219) 206 = .ok (.iload_n 3, 1) := by decide +kernel
theorem d_219_207 : decode (axt_b 219) 207 = .ok (.iconst 3, 1) := by decide +kernel
theorem d_219_208 : decode (axt_b 219) 208 = .ok (.iadd, 1) := by decide +kernel
theorem d_219_209 : decode (axt_b 219) 209 = .ok (.iaload, 1) := by decide +kernel
theorem d_219_210 : decode (axt_b 219) 210 = .ok (.aload_n 0, 1) := by decide +kernel
theorem d_219_211 : decode (axt_b 219) 211 = .ok (.iload_n 3, 1) := by decide +kernel
theorem d_219_212 : decode (axt_b 219) 212 = .ok (.iconst 4, 1) := by decide +kernel
theorem d_219_213 : decode (axt_b 219) 213 = .ok (.iadd, 1) := by decide +kernel
theorem d_219_214 : decode (axt_b 219) 214 = .ok (.iaload, 1) := by decide +kernel
theorem d_219_215 : decode (axt_b 219) 215 = .ok (.aload_n 0, 1) := by decide +kernel
theorem d_219_216 : decode (axt_b 219) 216 = .ok (.iload_n 3, 1) := by decide +kernel
theorem d_219_217 : decode (axt_b 219) 217 = .ok (.iconst 5, 1) := by decide +kernel
theorem d_219_218 : decode (axt_b 219) 218 = .ok (.iadd, 1) := by decide +kernel
theorem d_219_219 : decode (axt_b 219) 219 = .ok (.iaload, 1) := by decide +kernel
theorem d_219_220 : decode (axt_b 219) 220 = .ok (.invokevirtual 25, 3) := by decide +kernel
theorem d_219_223 : decode (axt_b 219) 223 = .ok (.pop, 1) := by decide +kernel
theorem d_219_224 : decode (axt_b 219) 224 = .ok (.goto 580, 3) := by decide +kernel
theorem d_219_227 : decode (axt_b 219) 227 = .ok (.aload_n 1, 1) := by decide +kernel
theorem d_219_228 : decode (axt_b 219) 228 = .ok (.aload_n 0, 1) := by decide +kernel
theorem d_219_229 : decode (axt_b 219) 229 = .ok (.iload_n 3, 1) := by decide +kernel
theorem d_219_230 : decode (axt_b 219) 230 = .ok (.iconst 1, 1) := by decide +kernel
theorem d_219_231 : decode (axt_b 219) 231 = .ok (.iadd, 1) := by decide +kernel
theorem d_219_232 : decode (axt_b 219) 232 = .ok (.iaload, 1) := by decide +kernel
theorem d_219_233 : decode (axt_b 219) 233 = .ok (.invokevirtual 26, 3) := by decide +kernel
theorem d_219_236 : decode (axt_b 219) 236 = .ok (.pop, 1) := by decide +kernel
theorem d_219_237 : decode (axt_b 219) 237 = .ok (.aload_n 2, 1) := by decide +kernel
theorem d_219_238 : decode (axt_b 219) 238 = .ok (.aload_n 0, 1) := by decide +kernel
theorem d_219_239 : decode (axt_b 219) 239 = .ok (.iload_n 3, 1) := by decide +kernel
theorem d_219_240 : decode (axt_b 219) 240 = .ok (.iconst 1, 1) := by decide +kernel
theorem d_219_241 : decode (axt_b 219) 241 = .ok (.iadd, 1) := by decide +kernel
theorem d_219_242 : decode (axt_b 219) 242 = .ok (.iaload, 1) := by decide +kernel
theorem d_219_243 : decode (axt_b 219) 243 = .ok (.invokevirtual 30, 3) := by decide +kernel
theorem d_219_246 : decode (axt_b 219) 246 = .ok (.pop, 1) := by decide +kernel
theorem d_219_247 : decode (axt_b 219) 247 = .ok (.goto 557, 3) := by decide +kernel
theorem d_219_250 : decode (axt_b 219) 250 = .ok (.aload_n 1, 1) := by decide +kernel
theorem d_219_251 : decode (axt_b 219) 251 = .ok (.aload_n 0, 1) := by decide +kernel
theorem d_219_252 : decode (axt_b 219) 252 = .ok (.iload_n 3, 1) := by decide +kernel
theorem d_219_253 : decode (axt_b 219) 253 = .ok (.iconst 1, 1) := by decide +kernel
theorem d_219_254 : decode (axt_b 219) 254 = .ok (.iadd, 1) := by decide +kernel
theorem d_219_255 : decode (axt_b 219) 255 = .ok (.iaload, 1) := by decide +kernel
theorem d_219_256 : decode (axt_b 219) 256 = .ok (.invokevirtual 31, 3) := by decide +kernel
theorem d_219_259 : decode (axt_b 219) 259 = .ok (.pop, 1) := by decide +kernel
theorem d_219_260 : decode (axt_b 219) 260 = .ok (.aload_n 2, 1) := by decide +kernel
theorem d_219_261 : decode (axt_b 219) 261 = .ok (.aload_n 0, 1) := by decide +kernel
theorem d_219_262 : decode (axt_b 219) 262 = .ok (.iload_n 3, 1) := by decide +kernel
theorem d_219_263 : decode (axt_b 219) 263 = .ok (.iconst 1, 1) := by decide +kernel
theorem d_219_264 : decode (axt_b 219) 264 = .ok (.iadd, 1) := by decide +kernel
theorem d_219_265 : decode (axt_b 219) 265 = .ok (.iaload, 1) := by decide +kernel
theorem d_219_266 : decode (axt_b 219) 266 = .ok (.invokevirtual 34, 3) := by decide +kernel
theorem d_219_269 : decode (axt_b 219) 269 = .ok (.pop, 1) := by decide +kernel
theorem d_219_270 : decode (axt_b 219) 270 = .ok (.goto 534, 3) := by decide +kernel
theorem d_219_273 : decode (axt_b 219) 273 = .ok (.aload_n 1, 1) := by decide +kernel
theorem d_219_274 : decode (axt_b 219) 274 = .ok (.aload_n 0, 1) := by decide +kernel
theorem d_219_275 : decode (axt_b 219) 275 = .ok (.iload_n 3, 1) := by decide +kernel
theorem d_219_276 : decode (axt_b 219) 276 = .ok (.iconst 1, 1) := by decide +kernel
theorem d_219_277 : decode (axt_b 219) 277 = .ok (.iadd, 1) := by decide +kernel
theorem d_219_278 : decode (axt_b 219) 278 = .ok (.iaload, 1) := by decide +kernel
theorem d_219_279 : decode (axt_b 219) 279 = .ok (.aload_n 0, 1) := by decide +kernel
theorem d_219_280 : decode (axt_b 219) 280 = .ok (.iload_n 3, 1) := by decide +kernel
theorem d_219_281 : decode (axt_b 219) 281 = .ok (.iconst 2, 1) := by decide +kernel
theorem d_219_282 : decode (axt_b 219) 282 = .ok (.iadd, 1) := by decide +kernel
theorem d_219_283 : decode (axt_b 219) 283 = .ok (.iaload, 1) := by decide +kernel
theorem d_219_284 : decode (axt_b 219) 284 = .ok (.aload_n 0, 1) := by decide +kernel
theorem d_219_285 : decode (axt_b 219) 285 = .ok (.iload_n 3, 1) := by decide +kernel
theorem d_219_286 : decode (axt_b 219) 286 = .ok (.iconst 3, 1) := by decide +kernel
theorem d_219_287 : decode (axt_b 219) 287 = .ok (.iadd, 1) := by decide +kernel
theorem d_219_288 : decode (axt_b 219) 288 = .ok (.iaload, 1) := by decide +kernel
theorem d_219_289 : decode (axt_b 219) 289 = .ok (.invokevirtual 35, 3) := by decide +kernel
theorem d_219_292 : decode (axt_b 219) 292 = .ok (.pop, 1) := by decide +kernel
theorem d_219_293 : decode (axt_b 219) 293 = .ok (.aload_n 2, 1) := by decide +kernel
theorem d_219_294 : decode (axt_b 219) 294 = .ok (.aload_n 0, 1) := by decide +kernel
theorem d_219_295 : decode (axt_b 219) 295 = .ok (.iload_n 3, 1) := by decide +kernel
theorem d_219_296 : decode (axt_b 219) 296 = .ok (.iconst 1, 1) := by decide +kernel
theorem d_219_297 : decode (axt_b 219) 297 = .ok (.iadd, 1) := by decide +kernel
theorem d_219_298 : decode (axt_b 219) 298 = .ok (.iaload, 1) := by decide +kernel
theorem d_219_299 : decode (axt_b 219) 299 = .ok (.aload_n 0, 1) := by decide +kernel
theorem d_219_300 : decode (axt_b 219) 300 = .ok (.iload_n 3, 1) := by decide +kernel
theorem d_219_301 : decode (axt_b 219) 301 = .ok (.iconst 2, 1) := by decide +kernel
theorem d_219_302 : decode (axt_b 219) 302 = .ok (.iadd, 1) := by decide +kernel
theorem d_219_303 : decode (axt_b 219) 303 = .ok (.iaload, 1) := by decide +kernel
theorem d_219_304 : decode (axt_b 219) 304 = .ok (.aload_n 0, 1) := by decide +kernel
theorem d_219_305 : decode (axt_b 219) 305 = .ok (.iload_n 3, 1) := by decide +kernel
theorem d_219_306 : decode (axt_b 219) 306 = .ok (.iconst 3, 1) := by decide +kernel
theorem d_219_307 : decode (axt_b 219) 307 = .ok (.iadd, 1) := by decide +kernel
theorem d_219_308 : decode (axt_b 219) 308 = .ok (.iaload, 1) := by decide +kernel
theorem d_219_309 : decode (axt_b 219) 309 = .ok (.invokevirtual 39, 3) := by decide +kernel
theorem d_219_312 : decode (axt_b 219) 312 = .ok (.pop, 1) := by decide +kernel
theorem d_219_313 : decode (axt_b 219) 313 = .ok (.goto 491, 3) := by decide +kernel
theorem d_219_316 : decode (axt_b 219) 316 = .ok (.aload_n 1, 1) := by decide +kernel
theorem d_219_317 : decode (axt_b 219) 317 = .ok (.aload_n 0, 1) := by decide +kernel
theorem d_219_318 : decode (axt_b 219) 318 = .ok (.iload_n 3, 1) := by decide +kernel
theorem d_219_319 : decode (axt_b 219) 319 = .ok (.iconst 1, 1) := by decide +kernel
theorem d_219_320 : decode (axt_b 219) 320 = .ok (.iadd, 1) := by decide +kernel
theorem d_219_321 : decode (axt_b 219) 321 = .ok (.iaload, 1) := by decide +kernel
theorem d_219_322 : decode (axt_b 219) 322 = .ok (.invokevirtual 40, 3) := by decide +kernel
theorem d_219_325 : decode (axt_b 219) 325 = .ok (.aload_n 2, 1) := by decide +kernel
theorem d_219_326 : decode (axt_b 219) 326 = .ok (.aload_n 0, 1) := by decide +kernel
theorem d_219_327 : decode (axt_b 219) 327 = .ok (.iload_n 3, 1) := by decide +kernel
theorem d_219_328 : decode (axt_b 219) 328 = .ok (.iconst 1, 1) := by decide +kernel
theorem d_219_329 : decode (axt_b 219) 329 = .ok (.iadd, 1) := by decide +kernel
theorem d_219_330 : decode (axt_b 219) 330 = .ok (.iaload, 1) := by decide +kernel
theorem d_219_331 : decode (axt_b 219) 331 = .ok (.invokevirtual 44, 3) := by decide +kernel
theorem d_219_334 : decode (axt_b 219) 334 = .ok (.goto 470, 3) := by decide +kernel
theorem d_219_337 : decode (axt_b 219) 337 = .ok (.aload_n 1, 1) := by decide +kernel
theorem d_219_338 : decode (axt_b 219) 338 = .ok (.aload_n 0, 1) := by decide +kernel
theorem d_219_339 : decode (axt_b 219) 339 = .ok (.iload_n 3, 1) := by decide +kernel
theorem d_219_340 : decode (axt_b 219) 340 = .ok (.iconst 1, 1) := by decide +kernel
theorem d_219_341 : decode (axt_b 219) 341 = .ok (.iadd, 1) := by decide +kernel
theorem d_219_342 : decode (axt_b 219) 342 = .ok (.iaload, 1) := by decide +kernel
theorem d_219_343 : decode (axt_b 219) 343 = .ok (.invokevirtual 45, 3) := by decide +kernel
theorem d_219_346 : decode (axt_b 219) 346 = .ok (.aload_n 2, 1) := by decide +kernel
theorem d_219_347 : decode (axt_b 219) 347 = .ok (.aload_n 0, 1) := by decide +kernel
theorem d_219_348 : decode (axt_b 219) 348 = .ok (.iload_n 3, 1) := by decide +kernel
theorem d_219_349 : decode (axt_b 219) 349 = .ok (.iconst 1, 1) := by decide +kernel
theorem d_219_350 : decode (axt_b 219) 350 = .ok (.iadd, 1) := by decide +kernel
theorem d_219_351 : decode (axt_b 219) 351 = .ok (.iaload, 1) := by decide +kernel
theorem d_219_352 : decode (axt_b 219) 352 = .ok (.invokevirtual 48, 3) := by decide +kernel
theorem d_219_355 : decode (axt_b 219) 355 = .ok (.goto 449, 3) := by decide +kernel
theorem d_219_358 : decode (axt_b 219) 358 = .ok (.aload_n 1, 1) := by decide +kernel
theorem d_219_359 : decode (axt_b 219) 359 = .ok (.aload_n 0, 1) := by decide +kernel
theorem d_219_360 : decode (axt_b 219) 360 = .ok (.iload_n 3, 1) := by decide +kernel
theorem d_219_361 : decode (axt_b 219) 361 = .ok (.iconst 1, 1) := by decide +kernel
theorem d_219_362 : decode (axt_b 219) 362 = .ok (.iadd, 1) := by decide +kernel
theorem d_219_363 : decode (axt_b 219) 363 = .ok (.iaload, 1) := by decide +kernel
theorem d_219_364 : decode (axt_b 219) 364 = .ok (.invokevirtual 49, 3) := by decide +kernel
theorem d_219_367 : decode (axt_b 219) 367 = .ok (.aload_n 2, 1) := by decide +kernel
theorem d_219_368 : decode (axt_b 219) 368 = .ok (.aload_n 0, 1) := by decide +kernel
theorem d_219_369 : decode (axt_b 219) 369 = .ok (.iload_n 3, 1) := by decide +kernel
theorem d_219_370 : decode (axt_b 219) 370 = .ok (.iconst 1, 1) := by decide +kernel
theorem d_219_371 : decode (axt_b 219) 371 = .ok (.iadd, 1) := by decide +kernel
theorem d_219_372 : decode (axt_b 219) 372 = .ok (.iaload, 1) := by decide +kernel
theorem d_219_373 : decode (axt_b 219) 373 = .ok (.invokevirtual 52, 3) := by decide +kernel
theorem d_219_376 : decode (axt_b 219) 376 = .ok (.goto 428, 3) := by decide +kernel
theorem d_219_379 : decode (axt_b 219) 379 = .ok (.aload_n 1, 1) := by decide +kernel
theorem d_219_380 : decode (axt_b 219) 380 = .ok (.aload_n 0, 1) := by decide +kernel
theorem d_219_381 : decode (axt_b 219) 381 = .ok (.iload_n 3, 1) := by decide +kernel
theorem d_219_382 : decode (axt_b 219) 382 = .ok (.iconst 1, 1) := by decide +kernel
theorem d_219_383 : decode (axt_b 219) 383 = .ok (.iadd, 1) := by decide +kernel
theorem d_219_384 : decode (axt_b 219) 384 = .ok (.iaload, 1) := by decide +kernel
theorem d_219_385 : decode (axt_b 219) 385 = .ok (.aload_n 0, 1) := by decide +kernel
theorem d_219_386 : decode (axt_b 219) 386 = .ok (.iload_n 3, 1) := by decide +kernel
theorem d_219_387 : decode (axt_b 219) 387 = .ok (.iconst 2, 1) := by decide +kernel
theorem d_219_388 : decode (axt_b 219) 388 = .ok (.iadd, 1) := by decide +kernel
theorem d_219_389 : decode (axt_b 219) 389 = .ok (.iaload, 1) := by decide +kernel
theorem d_219_390 : decode (axt_b 219) 390 = .ok (.invokevirtual 53, 3) := by decide +kernel
theorem d_219_393 : decode (axt_b 219) 393 = .ok (.pop, 1) := by decide +kernel
theorem d_219_394 : decode (axt_b 219) 394 = .ok (.aload_n 2, 1) := by decide +kernel
theorem d_219_395 : decode (axt_b 219) 395 = .ok (.aload_n 0, 1) := by decide +kernel
theorem d_219_396 : decode (axt_b 219) 396 = .ok (.iload_n 3, 1) := by decide +kernel
theorem d_219_397 : decode (axt_b 219) 397 = .ok (.iconst 1, 1) := by decide +kernel
theorem d_219_398 : decode (axt_b 219) 398 = .ok (.iadd, 1) := by decide +kernel
theorem d_219_399 : decode (axt_b 219) 399 = .ok (.iaload, 1) := by decide +kernel
theorem d_219_400 : decode (axt_b 219) 400 = .ok (.aload_n 0, 1) := by decide +kernel
theorem d_219_401 : decode (axt_b 219) 401 = .ok (.iload_n 3, 1) := by decide +kernel
theorem d_219_402 : decode (axt_b 219) 402 = .ok (.iconst 2, 1) := by decide +kernel
theorem d_219_403 : decode (axt_b 219) 403 = .ok (.iadd, 1) := by decide +kernel
theorem d_219_404 : decode (axt_b 219) 404 = .ok (.iaload, 1) := by decide +kernel
theorem d_219_405 : decode (axt_b 219) 405 = .ok (.invokevirtual 57, 3) := by decide +kernel
theorem d_219_408 : decode (axt_b 219) 408 = .ok (.pop, 1) := by decide +kernel
theorem d_219_409 : decode (axt_b 219) 409 = .ok (.goto 395, 3) := by decide +kernel
theorem d_219_412 : decode (axt_b 219) 412 = .ok (.aload_n 1, 1) := by decide +kernel
theorem d_219_413 : decode (axt_b 219) 413 = .ok (.aload_n 0, 1) := by decide +kernel
theorem d_219_414 : decode (axt_b 219) 414 = .ok (.iload_n 3, 1) := by decide +kernel
theorem d_219_415 : decode (axt_b 219) 415 = .ok (.iconst 1, 1) := by decide +kernel
theorem d_219_416 : decode (axt_b 219) 416 = .ok (.iadd, 1) := by decide +kernel
theorem d_219_417 : decode (axt_b 219) 417 = .ok (.iaload, 1) := by decide +kernel
theorem d_219_418 : decode (axt_b 219) 418 = .ok (.invokevirtual 58, 3) := by decide +kernel
theorem d_219_421 : decode (axt_b 219) 421 = .ok (.pop, 1) := by decide +kernel
theorem d_219_422 : decode (axt_b 219) 422 = .ok (.aload_n 2, 1) := by decide +kernel
theorem d_219_423 : decode (axt_b 219) 423 = .ok (.aload_n 0, 1) := by decide +kernel
theorem d_219_424 : decode (axt_b 219) 424 = .ok (.iload_n 3, 1) := by decide +kernel
theorem d_219_425 : decode (axt_b 219) 425 = .ok (.iconst 1, 1) := by decide +kernel
theorem d_219_426 : decode (axt_b 219) 426 = .ok (.iadd, 1) := by decide +kernel
theorem d_219_427 : decode (axt_b 219) 427 = .ok (.iaload, 1) := by decide +kernel
theorem d_219_428 : decode (axt_b 219) 428 = .ok (.invokevirtual 61, 3) := by decide +kernel
theorem d_219_431 : decode (axt_b 219) 431 = .ok (.pop, 1) := by decide +kernel
theorem d_219_432 : decode (axt_b 219) 432 = .ok (.goto 372, 3) := by decide +kernel
theorem d_219_435 : decode (axt_b 219) 435 = .ok (.aload_n 1, 1) := by decide +kernel
theorem d_219_436 : decode (axt_b 219) 436 = .ok (.aload_n 0, 1) := by decide +kernel
theorem d_219_437 : decode (axt_b 219) 437 = .ok (.iload_n 3, 1) := by decide +kernel
theorem d_219_438 : decode (axt_b 219) 438 = .ok (.iconst 1, 1) := by decide +kernel
theorem d_219_439 : decode (axt_b 219) 439 = .ok (.iadd, 1) := by decide +kernel
theorem d_219_440 : decode (axt_b 219) 440 = .ok (.iaload, 1) := by decide +kernel
theorem d_219_441 : decode (axt_b 219) 441 = .ok (.aload_n 0, 1) := by decide +kernel
theorem d_219_442 : decode (axt_b 219) 442 = .ok (.iload_n 3, 1) := by decide +kernel
theorem d_219_443 : decode (axt_b 219) 443 = .ok (.iconst 2, 1) := by decide +kernel
theorem d_219_444 : decode (axt_b 219) 444 = .ok (.iadd, 1) := by decide +kernel
theorem d_219_445 : decode (axt_b 219) 445 = .ok (.iaload, 1) := by decide +kernel
theorem d_219_446 : decode (axt_b 219) 446 = .ok (.aload_n 0, 1) := by decide +kernel
theorem d_219_447 : decode (axt_b 219) 447 = .ok (.iload_n 3, 1) := by decide +kernel
theorem d_219_448 : decode (axt_b 219) 448 = .ok (.iconst 3, 1) := by decide +kernel
theorem d_219_449 : decode (axt_b 219) 449 = .ok (.iadd, 1) := by decide +kernel
theorem d_219_450 : decode (axt_b 219) 450 = .ok (.iaload, 1) := by decide +kernel
theorem d_219_451 : decode (axt_b 219) 451 = .ok (.invokevirtual 62, 3) := by decide +kernel
theorem d_219_454 : decode (axt_b 219) 454 = .ok (.pop, 1) := by decide +kernel
theorem d_219_455 : decode (axt_b 219) 455 = .ok (.aload_n 2, 1) := by decide +kernel
theorem d_219_456 : decode (axt_b 219) 456 = .ok (.aload_n 0, 1) := by decide +kernel
theorem d_219_457 : decode (axt_b 219) 457 = .ok (.iload_n 3, 1) := by decide +kernel
theorem d_219_458 : decode (axt_b 219) 458 = .ok (.iconst 1, 1) := by decide +kernel
theorem d_219_459 : decode (axt_b 219) 459 = .ok (.iadd, 1) := by decide +kernel
theorem d_219_460 : decode (axt_b 219) 460 = .ok (.iaload, 1) := by decide +kernel
theorem d_219_461 : decode (axt_b 219) 461 = .ok (.aload_n 0, 1) := by decide +kernel
theorem d_219_462 : decode (axt_b 219) 462 = .ok (.iload_n 3, 1) := by decide +kernel
theorem d_219_463 : decode (axt_b 219) 463 = .ok (.iconst 2, 1) := by decide +kernel
theorem d_219_464 : decode (axt_b 219) 464 = .ok (.iadd, 1) := by decide +kernel
theorem d_219_465 : decode (axt_b 219) 465 = .ok (.iaload, 1) := by decide +kernel
theorem d_219_466 : decode (axt_b 219) 466 = .ok (.aload_n 0, 1) := by decide +kernel
theorem d_219_467 : decode (axt_b 219) 467 = .ok (.iload_n 3, 1) := by decide +kernel
theorem d_219_468 : decode (axt_b 219) 468 = .ok (.iconst 3, 1) := by decide +kernel
theorem d_219_469 : decode (axt_b 219) 469 = .ok (.iadd, 1) := by decide +kernel
theorem d_219_470 : decode (axt_b 219) 470 = .ok (.iaload, 1) := by decide +kernel
theorem d_219_471 : decode (axt_b 219) 471 = .ok (.invokevirtual 66, 3) := by decide +kernel
theorem d_219_474 : decode (axt_b 219) 474 = .ok (.pop, 1) := by decide +kernel
theorem d_219_475 : decode (axt_b 219) 475 = .ok (.goto 329, 3) := by decide +kernel
theorem d_219_478 : decode (axt_b 219) 478 = .ok (.aload_n 1, 1) := by decide +kernel
theorem d_219_479 : decode (axt_b 219) 479 = .ok (.aload_n 0, 1) := by decide +kernel
theorem d_219_480 : decode (axt_b 219) 480 = .ok (.iload_n 3, 1) := by decide +kernel
theorem d_219_481 : decode (axt_b 219) 481 = .ok (.iconst 1, 1) := by decide +kernel
theorem d_219_482 : decode (axt_b 219) 482 = .ok (.iadd, 1) := by decide +kernel
theorem d_219_483 : decode (axt_b 219) 483 = .ok (.iaload, 1) := by decide +kernel
theorem d_219_484 : decode (axt_b 219) 484 = .ok (.invokevirtual 67, 3) := by decide +kernel
theorem d_219_487 : decode (axt_b 219) 487 = .ok (.aload_n 2, 1) := by decide +kernel
theorem d_219_488 : decode (axt_b 219) 488 = .ok (.aload_n 0, 1) := by decide +kernel
theorem d_219_489 : decode (axt_b 219) 489 = .ok (.iload_n 3, 1) := by decide +kernel
theorem d_219_490 : decode (axt_b 219) 490 = .ok (.iconst 1, 1) := by decide +kernel
theorem d_219_491 : decode (axt_b 219) 491 = .ok (.iadd, 1) := by decide +kernel
theorem d_219_492 : decode (axt_b 219) 492 = .ok (.iaload, 1) := by decide +kernel
theorem d_219_493 : decode (axt_b 219) 493 = .ok (.invokevirtual 71, 3) := by decide +kernel
theorem d_219_496 : decode (axt_b 219) 496 = .ok (.if_icmp .eq 308, 3) := by decide +kernel
theorem d_219_499 : decode (axt_b 219) 499 = .ok (.iconst 0, 1) := by decide +kernel
theorem d_219_500 : decode (axt_b 219) 500 = .ok (.ireturn, 1) := by decide +kernel
theorem d_219_501 : decode (axt_b 219) 501 = .ok (.aload_n 1, 1) := by decide +kernel
theorem d_219_502 : decode (axt_b 219) 502 = .ok (.aload_n 0, 1) := by decide +kernel
theorem d_219_503 : decode (axt_b 219) 503 = .ok (.iload_n 3, 1) := by decide +kernel
theorem d_219_504 : decode (axt_b 219) 504 = .ok (.iconst 1, 1) := by decide +kernel
theorem d_219_505 : decode (axt_b 219) 505 = .ok (.iadd, 1) := by decide +kernel
theorem d_219_506 : decode (axt_b 219) 506 = .ok (.iaload, 1) := by decide +kernel
theorem d_219_507 : decode (axt_b 219) 507 = .ok (.invokevirtual 72, 3) := by decide +kernel
theorem d_219_510 : decode (axt_b 219) 510 = .ok (.pop, 1) := by decide +kernel
theorem d_219_511 : decode (axt_b 219) 511 = .ok (.aload_n 2, 1) := by decide +kernel
theorem d_219_512 : decode (axt_b 219) 512 = .ok (.aload_n 0, 1) := by decide +kernel
theorem d_219_513 : decode (axt_b 219) 513 = .ok (.iload_n 3, 1) := by decide +kernel
theorem d_219_514 : decode (axt_b 219) 514 = .ok (.iconst 1, 1) := by decide +kernel
theorem d_219_515 : decode (axt_b 219) 515 = .ok (.iadd, 1) := by decide +kernel
theorem d_219_516 : decode (axt_b 219) 516 = .ok (.iaload, 1) := by decide +kernel
theorem d_219_517 : decode (axt_b 219) 517 = .ok (.invokevirtual 75, 3) := by decide +kernel
theorem d_219_520 : decode (axt_b 219) 520 = .ok (.pop, 1) := by decide +kernel
theorem d_219_521 : decode (axt_b 219) 521 = .ok (.goto 283, 3) := by decide +kernel
theorem d_219_524 : decode (axt_b 219) 524 = .ok (.aload_n 1, 1) := by decide +kernel
theorem d_219_525 : decode (axt_b 219) 525 = .ok (.aload_n 0, 1) := by decide +kernel
theorem d_219_526 : decode (axt_b 219) 526 = .ok (.iload_n 3, 1) := by decide +kernel
theorem d_219_527 : decode (axt_b 219) 527 = .ok (.iconst 1, 1) := by decide +kernel
theorem d_219_528 : decode (axt_b 219) 528 = .ok (.iadd, 1) := by decide +kernel
theorem d_219_529 : decode (axt_b 219) 529 = .ok (.iaload, 1) := by decide +kernel
theorem d_219_530 : decode (axt_b 219) 530 = .ok (.invokevirtual 76, 3) := by decide +kernel
theorem d_219_533 : decode (axt_b 219) 533 = .ok (.pop, 1) := by decide +kernel
theorem d_219_534 : decode (axt_b 219) 534 = .ok (.aload_n 2, 1) := by decide +kernel
theorem d_219_535 : decode (axt_b 219) 535 = .ok (.aload_n 0, 1) := by decide +kernel
theorem d_219_536 : decode (axt_b 219) 536 = .ok (.iload_n 3, 1) := by decide +kernel
theorem d_219_537 : decode (axt_b 219) 537 = .ok (.iconst 1, 1) := by decide +kernel
theorem d_219_538 : decode (axt_b 219) 538 = .ok (.iadd, 1) := by decide +kernel
theorem d_219_539 : decode (axt_b 219) 539 = .ok (.iaload, 1) := by decide +kernel
theorem d_219_540 : decode (axt_b 219) 540 = .ok (.invokevirtual 79, 3) := by decide +kernel
theorem d_219_543 : decode (axt_b 219) 543 = .ok (.pop, 1) := by decide +kernel
theorem d_219_544 : decode (axt_b 219) 544 = .ok (.goto 260, 3) := by decide +kernel
theorem d_219_547 : decode (axt_b 219) 547 = .ok (.aload_n 1, 1) := by decide +kernel
theorem d_219_548 : decode (axt_b 219) 548 = .ok (.invokevirtual 80, 3) := by decide +kernel
theorem d_219_551 : decode (axt_b 219) 551 = .ok (.pop, 1) := by decide +kernel
theorem d_219_552 : decode (axt_b 219) 552 = .ok (.aload_n 2, 1) := by decide +kernel
theorem d_219_553 : decode (axt_b 219) 553 = .ok (.invokevirtual 84, 3) := by decide +kernel
theorem d_219_556 : decode (axt_b 219) 556 = .ok (.pop, 1) := by decide +kernel
theorem d_219_557 : decode (axt_b 219) 557 = .ok (.goto 247, 3) := by decide +kernel
theorem d_219_560 : decode (axt_b 219) 560 = .ok (.aload_n 1, 1) := by decide +kernel
theorem d_219_561 : decode (axt_b 219) 561 = .ok (.aload_n 0, 1) := by decide +kernel
theorem d_219_562 : decode (axt_b 219) 562 = .ok (.iload_n 3, 1) := by decide +kernel
theorem d_219_563 : decode (axt_b 219) 563 = .ok (.iconst 1, 1) := by decide +kernel
theorem d_219_564 : decode (axt_b 219) 564 = .ok (.iadd, 1) := by decide +kernel
theorem d_219_565 : decode (axt_b 219) 565 = .ok (.iaload, 1) := by decide +kernel
theorem d_219_566 : decode (axt_b 219) 566 = .ok (.invokevirtual 85, 3) := by decide +kernel
theorem d_219_569 : decode (axt_b 219) 569 = .ok (.pop, 1) := by decide +kernel
theorem d_219_570 : decode (axt_b 219) 570 = .ok (.aload_n 2, 1) := by decide +kernel
theorem d_219_571 : decode (axt_b 219) 571 = .ok (.aload_n 0, 1) := by decide +kernel
theorem d_219_572 : decode (axt_b 219) 572 = .ok (.iload_n 3, 1) := by decide +kernel
theorem d_219_573 : decode (axt_b 219) 573 = .ok (.iconst 1, 1) := by decide +kernel
theorem d_219_574 : decode (axt_b 219) 574 = .ok (.iadd, 1) := by decide +kernel
theorem d_219_575 : decode (axt_b 219) 575 = .ok (.iaload, 1) := by decide +kernel
theorem d_219_576 : decode (axt_b 219) 576 = .ok (.invokevirtual 88, 3) := by decide +kernel
theorem d_219_579 : decode (axt_b 219) 579 = .ok (.pop, 1) := by decide +kernel
theorem d_219_580 : decode (axt_b 219) 580 = .ok (.goto 224, 3) := by decide +kernel
theorem d_219_583 : decode (axt_b 219) 583 = .ok (.aload_n 1, 1) := by decide +kernel
theorem d_219_584 : decode (axt_b 219) 584 = .ok (.aload_n 0, 1) := by decide +kernel
theorem d_219_585 : decode (axt_b 219) 585 = .ok (.iload_n 3, 1) := by decide +kernel
theorem d_219_586 : decode (axt_b 219) 586 = .ok (.iconst 1, 1) := by decide +kernel
theorem d_219_587 : decode (axt_b 219) 587 = .ok (.iadd, 1) := by decide +kernel
theorem d_219_588 : decode (axt_b 219) 588 = .ok (.iaload, 1) := by decide +kernel
theorem d_219_589 : decode (axt_b 219) 589 = .ok (.aload_n 0, 1) := by decide +kernel
theorem d_219_590 : decode (axt_b 219) 590 = .ok (.iload_n 3, 1) := by decide +kernel
theorem d_219_591 : decode (axt_b 219) 591 = .ok (.iconst 2, 1) := by decide +kernel
theorem d_219_592 : decode (axt_b 219) 592 = .ok (.iadd, 1) := by decide +kernel
theorem d_219_593 : decode (axt_b 219) 593 = .ok (.iaload, 1) := by decide +kernel
theorem d_219_594 : decode (axt_b 219) 594 = .ok (.invokevirtual 89, 3) := by decide +kernel
theorem d_219_597 : decode (axt_b 219) 597 = .ok (.pop, 1) := by decide +kernel
theorem d_219_598 : decode (axt_b 219) 598 = .ok (.aload_n 2, 1) := by decide +kernel
theorem d_219_599 : decode (axt_b 219) 599 = .ok (.aload_n 0, 1) := by decide +kernel
theorem d_219_600 : decode (axt_b 219) 600 = .ok (.iload_n 3, 1) := by decide +kernel
theorem d_219_601 : decode (axt_b 219) 601 = .ok (.iconst 1, 1) := by decide +kernel
theorem d_219_602 : decode (axt_b 219) 602 = .ok (.iadd, 1) := by decide +kernel
theorem d_219_603 : decode (axt_b 219) 603 = .ok (.iaload, 1) := by decide +kernel
theorem d_219_604 : decode (axt_b 219) 604 = .ok (.aload_n 0, 1) := by decide +kernel
theorem d_219_605 : decode (axt_b 219) 605 = .ok (.iload_n 3, 1) := by decide +kernel
theorem d_219_606 : decode (axt_b 219) 606 = .ok (.iconst 2, 1) := by decide +kernel
theorem d_219_607 : decode (axt_b 219) 607 = .ok (.iadd, 1) := by decide +kernel
theorem d_219_608 : decode (axt_b 219) 608 = .ok (.iaload, 1) := by decide +kernel
theorem d_219_609 : decode (axt_b 219) 609 = .ok (.invokevirtual 92, 3) := by decide +kernel
theorem d_219_612 : decode (axt_b 219) 612 = .ok (.pop, 1) := by decide +kernel
theorem d_219_613 : decode (axt_b 219) 613 = .ok (.goto 191, 3) := by decide +kernel
theorem d_219_616 : decode (axt_b 219) 616 = .ok (.aload_n 1, 1) := by decide +kernel
theorem d_219_617 : decode (axt_b 219) 617 = .ok (.aload_n 0, 1) := by decide +kernel
theorem d_219_618 : decode (axt_b 219) 618 = .ok (.iload_n 3, 1) := by decide +kernel
theorem d_219_619 : decode (axt_b 219) 619 = .ok (.iconst 1, 1) := by decide +kernel
theorem d_219_620 : decode (axt_b 219) 620 = .ok (.iadd, 1) := by decide +kernel
theorem d_219_621 : decode (axt_b 219) 621 = .ok (.iaload, 1) := by decide +kernel
theorem d_219_622 : decode (axt_b 219) 622 = .ok (.aload_n 0, 1) := by decide +kernel
theorem d_219_623 : decode (axt_b 219) 623 = .ok (.iload_n 3, 1) := by decide +kernel
theorem d_219_624 : decode (axt_b 219) 624 = .ok (.iconst 2, 1) := by decide +kernel
theorem d_219_625 : decode (axt_b 219) 625 = .ok (.iadd, 1) := by decide +kernel
theorem d_219_626 : decode (axt_b 219) 626 = .ok (.iaload, 1) := by decide +kernel
theorem d_219_627 : decode (axt_b 219) 627 = .ok (.invokevirtual 93, 3) := by decide +kernel
theorem d_219_630 : decode (axt_b 219) 630 = .ok (.pop, 1) := by decide +kernel
theorem d_219_631 : decode (axt_b 219) 631 = .ok (.aload_n 2, 1) := by decide +kernel
theorem d_219_632 : decode (axt_b 219) 632 = .ok (.aload_n 0, 1) := by decide +kernel
theorem d_219_633 : decode (axt_b 219) 633 = .ok (.iload_n 3, 1) := by decide +kernel
theorem d_219_634 : decode (axt_b 219) 634 = .ok (.iconst 1, 1) := by decide +kernel
theorem d_219_635 : decode (axt_b 219) 635 = .ok (.iadd, 1) := by decide +kernel
theorem d_219_636 : decode (axt_b 219) 636 = .ok (.iaload, 1) := by decide +kernel
theorem d_219_637 : decode (axt_b 219) 637 = .ok (.aload_n 0, 1) := by decide +kernel
theorem d_219_638 : decode (axt_b 219) 638 = .ok (.iload_n 3, 1) := by decide +kernel
theorem d_219_639 : decode (axt_b 219) 639 = .ok (.iconst 2, 1) := by decide +kernel
theorem d_219_640 : decode (axt_b 219) 640 = .ok (.iadd, 1) := by decide +kernel
theorem d_219_641 : decode (axt_b 219) 641 = .ok (.iaload, 1) := by decide +kernel
theorem d_219_642 : decode (axt_b 219) 642 = .ok (.invokevirtual 96, 3) := by decide +kernel
theorem d_219_645 : decode (axt_b 219) 645 = .ok (.pop, 1) := by decide +kernel
theorem d_219_646 : decode (axt_b 219) 646 = .ok (.goto 158, 3) := by decide +kernel
theorem d_219_649 : decode (axt_b 219) 649 = .ok (.aload_n 1, 1) := by decide +kernel
theorem d_219_650 : decode (axt_b 219) 650 = .ok (.aload_n 0, 1) := by decide +kernel
theorem d_219_651 : decode (axt_b 219) 651 = .ok (.iload_n 3, 1) := by decide +kernel
theorem d_219_652 : decode (axt_b 219) 652 = .ok (.iconst 1, 1) := by decide +kernel
theorem d_219_653 : decode (axt_b 219) 653 = .ok (.iadd, 1) := by decide +kernel
theorem d_219_654 : decode (axt_b 219) 654 = .ok (.iaload, 1) := by decide +kernel
theorem d_219_655 : decode (axt_b 219) 655 = .ok (.aload_n 0, 1) := by decide +kernel
theorem d_219_656 : decode (axt_b 219) 656 = .ok (.iload_n 3, 1) := by decide +kernel
theorem d_219_657 : decode (axt_b 219) 657 = .ok (.iconst 2, 1) := by decide +kernel
theorem d_219_658 : decode (axt_b 219) 658 = .ok (.iadd, 1) := by decide +kernel
theorem d_219_659 : decode (axt_b 219) 659 = .ok (.iaload, 1) := by decide +kernel
theorem d_219_660 : decode (axt_b 219) 660 = .ok (.aload_n 0, 1) := by decide +kernel
theorem d_219_661 : decode (axt_b 219) 661 = .ok (.iload_n 3, 1) := by decide +kernel
theorem d_219_662 : decode (axt_b 219) 662 = .ok (.iconst 3, 1) := by decide +kernel
theorem d_219_663 : decode (axt_b 219) 663 = .ok (.iadd, 1) := by decide +kernel
theorem d_219_664 : decode (axt_b 219) 664 = .ok (.iaload, 1) := by decide +kernel
theorem d_219_665 : decode (axt_b 219) 665 = .ok (.invokevirtual 97, 3) := by decide +kernel
theorem d_219_668 : decode (axt_b 219) 668 = .ok (.pop, 1) := by decide +kernel
theorem d_219_669 : decode (axt_b 219) 669 = .ok (.aload_n 2, 1) := by decide +kernel
theorem d_219_670 : decode (axt_b 219) 670 = .ok (.aload_n 0, 1) := by decide +kernel
theorem d_219_671 : decode (axt_b 219) 671 = .ok (.iload_n 3, 1) := by decide +kernel
theorem d_219_672 : decode (axt_b 219) 672 = .ok (.iconst 1, 1) := by decide +kernel
theorem d_219_673 : decode (axt_b 219) 673 = .ok (.iadd, 1) := by decide +kernel
theorem d_219_674 : decode (axt_b 219) 674 = .ok (.iaload, 1) := by decide +kernel
theorem d_219_675 : decode (axt_b 219) 675 = .ok (.aload_n 0, 1) := by decide +kernel
theorem d_219_676 : decode (axt_b 219) 676 = .ok (.iload_n 3, 1) := by decide +kernel
theorem d_219_677 : decode (axt_b 219) 677 = .ok (.iconst 2, 1) := by decide +kernel
theorem d_219_678 : decode (axt_b 219) 678 = .ok (.iadd, 1) := by decide +kernel
theorem d_219_679 : decode (axt_b 219) 679 = .ok (.iaload, 1) := by decide +kernel
theorem d_219_680 : decode (axt_b 219) 680 = .ok (.aload_n 0, 1) := by decide +kernel
theorem d_219_681 : decode (axt_b 219) 681 = .ok (.iload_n 3, 1) := by decide +kernel
theorem d_219_682 : decode (axt_b 219) 682 = .ok (.iconst 3, 1) := by decide +kernel
theorem d_219_683 : decode (axt_b 219) 683 = .ok (.iadd, 1) := by decide +kernel
theorem d_219_684 : decode (axt_b 219) 684 = .ok (.iaload, 1) := by decide +kernel
theorem d_219_685 : decode (axt_b 219) 685 = .ok (.invokevirtual 100, 3) := by decide +kernel
theorem d_219_688 : decode (axt_b 219) 688 = .ok (.pop, 1) := by decide +kernel
theorem d_219_689 : decode (axt_b 219) 689 = .ok (.goto 115, 3) := by decide +kernel
theorem d_219_692 : decode (axt_b 219) 692 = .ok (.aload_n 1, 1) := by decide +kernel
theorem d_219_693 : decode (axt_b 219) 693 = .ok (.aload_n 0, 1) := by decide +kernel
theorem d_219_694 : decode (axt_b 219) 694 = .ok (.iload_n 3, 1) := by decide +kernel
theorem d_219_695 : decode (axt_b 219) 695 = .ok (.iconst 1, 1) := by decide +kernel
theorem d_219_696 : decode (axt_b 219) 696 = .ok (.iadd, 1) := by decide +kernel
theorem d_219_697 : decode (axt_b 219) 697 = .ok (.iaload, 1) := by decide +kernel
theorem d_219_698 : decode (axt_b 219) 698 = .ok (.aload_n 0, 1) := by decide +kernel
theorem d_219_699 : decode (axt_b 219) 699 = .ok (.iload_n 3, 1) := by decide +kernel
theorem d_219_700 : decode (axt_b 219) 700 = .ok (.iconst 2, 1) := by decide +kernel
theorem d_219_701 : decode (axt_b 219) 701 = .ok (.iadd, 1) := by decide +kernel
theorem d_219_702 : decode (axt_b 219) 702 = .ok (.iaload, 1) := by decide +kernel
theorem d_219_703 : decode (axt_b 219) 703 = .ok (.aload_n 0, 1) := by decide +kernel
theorem d_219_704 : decode (axt_b 219) 704 = .ok (.iload_n 3, 1) := by decide +kernel
theorem d_219_705 : decode (axt_b 219) 705 = .ok (.iconst 3, 1) := by decide +kernel
theorem d_219_706 : decode (axt_b 219) 706 = .ok (.iadd, 1) := by decide +kernel
theorem d_219_707 : decode (axt_b 219) 707 = .ok (.iaload, 1) := by decide +kernel
theorem d_219_708 : decode (axt_b 219) 708 = .ok (.aload_n 0, 1) := by decide +kernel
theorem d_219_709 : decode (axt_b 219) 709 = .ok (.iload_n 3, 1) := by decide +kernel
theorem d_219_710 : decode (axt_b 219) 710 = .ok (.iconst 4, 1) := by decide +kernel
theorem d_219_711 : decode (axt_b 219) 711 = .ok (.iadd, 1) := by decide +kernel
theorem d_219_712 : decode (axt_b 219) 712 = .ok (.iaload, 1) := by decide +kernel
theorem d_219_713 : decode (axt_b 219) 713 = .ok (.invokevirtual 101, 3) := by decide +kernel
theorem d_219_716 : decode (axt_b 219) 716 = .ok (.pop, 1) := by decide +kernel
theorem d_219_717 : decode (axt_b 219) 717 = .ok (.aload_n 2, 1) := by decide +kernel
theorem d_219_718 : decode (axt_b 219) 718 = .ok (.aload_n 0, 1) := by decide +kernel
theorem d_219_719 : decode (axt_b 219) 719 = .ok (.iload_n 3, 1) := by decide +kernel
theorem d_219_720 : decode (axt_b 219) 720 = .ok (.iconst 1, 1) := by decide +kernel
theorem d_219_721 : decode (axt_b 219) 721 = .ok (.iadd, 1) := by decide +kernel
theorem d_219_722 : decode (axt_b 219) 722 = .ok (.iaload, 1) := by decide +kernel
theorem d_219_723 : decode (axt_b 219) 723 = .ok (.aload_n 0, 1) := by decide +kernel
theorem d_219_724 : decode (axt_b 219) 724 = .ok (.iload_n 3, 1) := by decide +kernel
theorem d_219_725 : decode (axt_b 219) 725 = .ok (.iconst 2, 1) := by decide +kernel
theorem d_219_726 : decode (axt_b 219) 726 = .ok (.iadd, 1) := by decide +kernel
theorem d_219_727 : decode (axt_b 219) 727 = .ok (.iaload, 1) := by decide +kernel
theorem d_219_728 : decode (axt_b 219) 728 = .ok (.aload_n 0, 1) := by decide +kernel
theorem d_219_729 : decode (axt_b 219) 729 = .ok (.iload_n 3, 1) := by decide +kernel
theorem d_219_730 : decode (axt_b 219) 730 = .ok (.iconst 3, 1) := by decide +kernel
theorem d_219_731 : decode (axt_b 219) 731 = .ok (.iadd, 1) := by decide +kernel
theorem d_219_732 : decode (axt_b 219) 732 = .ok (.iaload, 1) := by decide +kernel
theorem d_219_733 : decode (axt_b 219) 733 = .ok (.aload_n 0, 1) := by decide +kernel
theorem d_219_734 : decode (axt_b 219) 734 = .ok (.iload_n 3, 1) := by decide +kernel
theorem d_219_735 : decode (axt_b 219) 735 = .ok (.iconst 4, 1) := by decide +kernel
theorem d_219_736 : decode (axt_b 219) 736 = .ok (.iadd, 1) := by decide +kernel
theorem d_219_737 : decode (axt_b 219) 737 = .ok (.iaload, 1) := by decide +kernel
theorem d_219_738 : decode (axt_b 219) 738 = .ok (.invokevirtual 105, 3) := by decide +kernel
theorem d_219_741 : decode (axt_b 219) 741 = .ok (.pop, 1) := by decide +kernel
theorem d_219_742 : decode (axt_b 219) 742 = .ok (.goto 62, 3) := by decide +kernel
theorem d_219_745 : decode (axt_b 219) 745 = .ok (.aload_n 1, 1) := by decide +kernel
theorem d_219_746 : decode (axt_b 219) 746 = .ok (.aload_n 0, 1) := by decide +kernel
theorem d_219_747 : decode (axt_b 219) 747 = .ok (.iload_n 3, 1) := by decide +kernel
theorem d_219_748 : decode (axt_b 219) 748 = .ok (.iconst 1, 1) := by decide +kernel
theorem d_219_749 : decode (axt_b 219) 749 = .ok (.iadd, 1) := by decide +kernel
theorem d_219_750 : decode (axt_b 219) 750 = .ok (.iaload, 1) := by decide +kernel
theorem d_219_751 : decode (axt_b 219) 751 = .ok (.invokevirtual 106, 3) := by decide +kernel
theorem d_219_754 : decode (axt_b 219) 754 = .ok (.pop, 1) := by decide +kernel
theorem d_219_755 : decode (axt_b 219) 755 = .ok (.aload_n 2, 1) := by decide +kernel
theorem d_219_756 : decode (axt_b 219) 756 = .ok (.aload_n 0, 1) := by decide +kernel
theorem d_219_757 : decode (axt_b 219) 757 = .ok (.iload_n 3, 1) := by decide +kernel
theorem d_219_758 : decode (axt_b 219) 758 = .ok (.iconst 1, 1) := by decide +kernel
theorem d_219_759 : decode (axt_b 219) 759 = .ok (.iadd, 1) := by decide +kernel
theorem d_219_760 : decode (axt_b 219) 760 = .ok (.iaload, 1) := by decide +kernel
theorem d_219_761 : decode (axt_b 219) 761 = .ok (.invokevirtual 109, 3) := by decide +kernel
theorem d_219_764 : decode (axt_b 219) 764 = .ok (.pop, 1) := by decide +kernel
theorem d_219_765 : decode (axt_b 219) 765 = .ok (.goto 39, 3) := by decide +kernel
theorem d_219_768 : decode (axt_b 219) 768 = .ok (.aload_n 1, 1) := by decide +kernel
theorem d_219_769 : decode (axt_b 219) 769 = .ok (.invokevirtual 110, 3) := by decide +kernel
theorem d_219_772 : decode (axt_b 219) 772 = .ok (.pop, 1) := by decide +kernel
theorem d_219_773 : decode (axt_b 219) 773 = .ok (.aload_n 2, 1) := by decide +kernel
theorem d_219_774 : decode (axt_b 219) 774 = .ok (.invokevirtual 113, 3) := by decide +kernel
theorem d_219_777 : decode (axt_b 219) 777 = .ok (.pop, 1) := by decide +kernel
theorem d_219_778 : decode (axt_b 219) 778 = .ok (.goto 26, 3) := by decide +kernel
theorem d_219_781 : decode (axt_b 219) 781 = .ok (.aload_n 1, 1) := by decide +kernel
theorem d_219_782 : decode (axt_b 219) 782 = .ok (.aload_n 0, 1) := by decide +kernel
theorem d_219_783 : decode (axt_b 219) 783 = .ok (.iload_n 3, 1) := by decide +kernel
theorem d_219_784 : decode (axt_b 219) 784 = .ok (.iconst 1, 1) := by decide +kernel
theorem d_219_785 : decode (axt_b 219) 785 = .ok (.iadd, 1) := by decide +kernel
theorem d_219_786 : decode (axt_b 219) 786 = .ok (.iaload, 1) := by decide +kernel
theorem d_219_787 : decode (axt_b 219) 787 = .ok (.invokevirtual 114, 3) := by decide +kernel
theorem d_219_790 : decode (axt_b 219) 790 = .ok (.pop, 1) := by decide +kernel
theorem d_219_791 : decode (axt_b 219) 791 = .ok (.aload_n 2, 1) := by decide +kernel
theorem d_219_792 : decode (axt_b 219) 792 = .ok (.aload_n 0, 1) := by decide +kernel
theorem d_219_793 : decode (axt_b 219) 793 = .ok (.iload_n 3, 1) := by decide +kernel
theorem d_219_794 : decode (axt_b 219) 794 = .ok (.iconst 1, 1) := by decide +kernel
theorem d_219_795 : decode (axt_b 219) 795 = .ok (.iadd, 1) := by decide +kernel
theorem d_219_796 : decode (axt_b 219) 796 = .ok (.iaload, 1) := by decide +kernel
theorem d_219_797 : decode (axt_b 219) 797 = .ok (.invokevirtual 117, 3) := by decide +kernel
theorem d_219_800 : decode (axt_b 219) 800 = .ok (.pop, 1) := by decide +kernel
theorem d_219_801 : decode (axt_b 219) 801 = .ok (.goto 3, 3) := by decide +kernel
theorem d_219_804 : decode (axt_b 219) 804 = .ok (.iinc 3 6, 3) := by decide +kernel
theorem d_219_807 : decode (axt_b 219) 807 = .ok (.goto (-759), 3) := by decide +kernel
theorem d_219_810 : decode (axt_b 219) 810 = .ok (.iconst 1, 1) := by decide +kernel
theorem d_219_811 : decode (axt_b 219) 811 = .ok (.ireturn, 1) := by decide +kernel
set_option maxRecDepth 100000 in
theorem law_p {L : Nat} {xs : Nat → Int32} {n sl : Nat} {h : ax_H} {post : ax_Po} (hL : L < 2 ^ 31) (hF : ax_hs h []) (hn : h.1 = n) (hs : h.2.1 = sl) (hn0 : 0 < n) (kk : ∀ (h' : ax_H) (nn gg cc p m : Nat) (f : Nat → Int32), m = n + 330 + 22 * nn → Fresh h' (scr L xs 0) (scr L xs 1) (scr L xs 2) n (n + 1) nn gg cc p f → ax_hs h' (MW m (m + 1) nn gg cc) → h'.1 = m + 22 → h'.2.1 = sl + 11 + 103560 + gg * nn + nn + 47629 * nn + 39 + 460518 → ax_A (ax_step L xs) ((219, 48, 11, 394), [(0, .ref 0), (1, .ref n), (2, .ref m), (3, .int 3)], [], h') post) : ax_A (ax_step L xs) ((219, 0, 11, 394), [(0, .ref 0)], [], h) post := by
  have hbase : h.1 = n := hn
  have hbasl : h.2.1 = sl := hs
  have hf : ax_fr (fun x => x ∈ []) h h := ax_fr.rf
  refine ar_new 3 d_219_0 rfl (ci := 0) rfl ?_
  rw [hn]
  refine ar_heap (h' := ax_push h 11 (.inr (0, [.null, .null, .null, .null, .null, .null, .null, .int 0, .int 0, .int 0, .int 0]))) rfl ?_
  replace hF : ax_hs (ax_push h 11 (.inr (0, [.null, .null, .null, .null, .null, .null, .null, .int 0, .int 0, .int 0, .int 0]))) [(n, .inr (0, [.null, .null, .null, .null, .null, .null, .null, .int 0, .int 0, .int 0, .int 0]))] := hF.push (by omega) 11 _ (by rw [hn]; rfl)
  replace hf := hf.push (n := 11) (c := .inr (0, [.null, .null, .null, .null, .null, .null, .null, .int 0, .int 0, .int 0, .int 0]))
  replace hn : (ax_push h 11 (.inr (0, [.null, .null, .null, .null, .null, .null, .null, .int 0, .int 0, .int 0, .int 0]))).1 = n + 1 := by show h.1 + 1 = _; rw [hn]
  replace hs : (ax_push h 11 (.inr (0, [.null, .null, .null, .null, .null, .null, .null, .int 0, .int 0, .int 0, .int 0]))).2.1 = sl + 11 := by show h.2.1 + 11 = _; omega
  generalize ax_push h 11 (.inr (0, [.null, .null, .null, .null, .null, .null, .null, .int 0, .int 0, .int 0, .int 0])) = h1 at hF hf hn hs ⊢
  refine ar_dup 4 d_219_3 rfl rfl ?_
  refine ar_aload_n 5 d_219_4 rfl rfl ?_
  refine ar_iconst 6 (v := 0) d_219_5 rfl (by decide) ?_
  refine ar_call (r := [.ref n, .ref n]) (na := 0) (kd := 0) (cm := 174) (fr2 := 11 - 1) (lo2 := 394 - 21) 9 d_219_6 (ar_hoS (as := [.ref 0, .int 0]) rfl rfl rfl) rfl (by omega) (show 394 - 21 + (19 + 2) = 394 by omega) (Nat.le_of_ble_eq_true rfl) (Nat.le_of_ble_eq_true rfl) (c_174 (j := 0) hL (by decide)) ?_
  intro v hh hq
  obtain ⟨rfl, ehh⟩ := hq
  rw [ehh]
  clear ehh
  refine ar_aload_n 10 d_219_9 rfl rfl ?_
  refine ar_iconst 11 (v := 1) d_219_10 rfl (by decide) ?_
  refine ar_call (r := [.int (scr L xs 0), .ref n, .ref n]) (na := 0) (kd := 0) (cm := 174) (fr2 := 11 - 1) (lo2 := 394 - 21) 14 d_219_11 (ar_hoS (as := [.ref 0, .int 1]) rfl rfl rfl) rfl (by omega) (show 394 - 21 + (19 + 2) = 394 by omega) (Nat.le_of_ble_eq_true rfl) (Nat.le_of_ble_eq_true rfl) (c_174 (j := 1) hL (by decide)) ?_
  intro v hh hq
  obtain ⟨rfl, ehh⟩ := hq
  rw [ehh]
  clear ehh
  refine ar_aload_n 15 d_219_14 rfl rfl ?_
  refine ar_iconst 16 (v := 2) d_219_15 rfl (by decide) ?_
  refine ar_call (r := [.int (scr L xs 1), .int (scr L xs 0), .ref n, .ref n]) (na := 0) (kd := 0) (cm := 174) (fr2 := 11 - 1) (lo2 := 394 - 21) 19 d_219_16 (ar_hoS (as := [.ref 0, .int 2]) rfl rfl rfl) rfl (by omega) (show 394 - 21 + (19 + 2) = 394 by omega) (Nat.le_of_ble_eq_true rfl) (Nat.le_of_ble_eq_true rfl) (c_174 (j := 2) hL (by decide)) ?_
  intro v hh hq
  obtain ⟨rfl, ehh⟩ := hq
  rw [ehh]
  clear ehh
  refine ar_call (r := [.ref n]) (na := 0) (kd := 0) (cm := 0) (fr2 := 11 - 1) (lo2 := 394 - 24) 22 d_219_19 (ar_hoI (as := [.int (scr L xs 0), .int (scr L xs 1), .int (scr L xs 2)]) rfl rfl rfl) rfl (by omega) (show 394 - 24 + (19 + 5) = 394 by omega) (Nat.le_of_ble_eq_true rfl) (Nat.le_of_ble_eq_true rfl) (c_0 (by omega) (by omega) (hF.sub (F' := [(n, .inr (0, [.null, .null, .null, .null, .null, .null, .null, .int 0, .int 0, .int 0, .int 0]))]) [0] rfl rfl) hn hs (by omega)) ?_
  intro v h19 hq
  obtain ⟨nn, gg, cc, p, f, rfl, hFr, qn, qs, qf⟩ := hq
  replace hF : ax_hs h19 [] := (hF.sub (F' := []) [] rfl rfl).fr qf (by intro q hq; cases hq)
  obtain ⟨m, hm⟩ : ∃ m, m = n + 330 + 22 * nn := ⟨_, rfl⟩
  replace hn : h19.1 = m := by omega
  obtain ⟨s2, hs2⟩ : ∃ s2, s2 = h19.2.1 := ⟨_, rfl⟩
  replace hs : h19.2.1 = s2 := hs2.symm
  clear hf hbase hbasl
  have hf : ax_fr (fun x => x ∈ ([] : List Nat)) h19 h19 := ax_fr.rf
  have hF9 := hFr
  obtain ⟨⟨u1, u2, u3⟩, ⟨v1, v2, v3⟩, ⟨w1, w2, w3⟩, hrest⟩ := hF9
  clear hrest
  refine ar_astore_n 23 [(0, .ref 0), (1, .ref n)] d_219_22 rfl (by decide) rfl ?_
  refine ar_new 26 d_219_23 rfl (ci := 11) rfl ?_
  rw [hn]
  refine ar_heap (h' := ax_push h19 39 (.inr (11, .int 0 :: .int 0 :: .int 0 :: .int 0 :: .int 0 :: .int 0 :: .int 0 :: .int 0 :: .null :: .int 0 :: .null :: .null :: .null :: .null :: .null :: .null :: .null :: .null :: .null :: .null :: .int 0 :: .int 0 :: .int 0 :: .int 0 :: .int 0 :: .int 0 :: .int 0 :: .null :: .null :: .null :: .null :: .null :: .null :: .null :: .null :: .null :: .null :: .int 0 :: .int 0 :: []))) rfl ?_
  replace hF : ax_hs (ax_push h19 39 (.inr (11, .int 0 :: .int 0 :: .int 0 :: .int 0 :: .int 0 :: .int 0 :: .int 0 :: .int 0 :: .null :: .int 0 :: .null :: .null :: .null :: .null :: .null :: .null :: .null :: .null :: .null :: .null :: .int 0 :: .int 0 :: .int 0 :: .int 0 :: .int 0 :: .int 0 :: .int 0 :: .null :: .null :: .null :: .null :: .null :: .null :: .null :: .null :: .null :: .null :: .int 0 :: .int 0 :: []))) [(m, .inr (11, .int 0 :: .int 0 :: .int 0 :: .int 0 :: .int 0 :: .int 0 :: .int 0 :: .int 0 :: .null :: .int 0 :: .null :: .null :: .null :: .null :: .null :: .null :: .null :: .null :: .null :: .null :: .int 0 :: .int 0 :: .int 0 :: .int 0 :: .int 0 :: .int 0 :: .int 0 :: .null :: .null :: .null :: .null :: .null :: .null :: .null :: .null :: .null :: .null :: .int 0 :: .int 0 :: []))] := hF.push (by omega) 39 _ (by rw [hn]; rfl)
  replace hf := hf.push (n := 39) (c := .inr (11, .int 0 :: .int 0 :: .int 0 :: .int 0 :: .int 0 :: .int 0 :: .int 0 :: .int 0 :: .null :: .int 0 :: .null :: .null :: .null :: .null :: .null :: .null :: .null :: .null :: .null :: .null :: .int 0 :: .int 0 :: .int 0 :: .int 0 :: .int 0 :: .int 0 :: .int 0 :: .null :: .null :: .null :: .null :: .null :: .null :: .null :: .null :: .null :: .null :: .int 0 :: .int 0 :: []))
  replace hn : (ax_push h19 39 (.inr (11, .int 0 :: .int 0 :: .int 0 :: .int 0 :: .int 0 :: .int 0 :: .int 0 :: .int 0 :: .null :: .int 0 :: .null :: .null :: .null :: .null :: .null :: .null :: .null :: .null :: .null :: .null :: .int 0 :: .int 0 :: .int 0 :: .int 0 :: .int 0 :: .int 0 :: .int 0 :: .null :: .null :: .null :: .null :: .null :: .null :: .null :: .null :: .null :: .null :: .int 0 :: .int 0 :: []))).1 = m + 1 := by show h19.1 + 1 = _; rw [hn]
  replace hs : (ax_push h19 39 (.inr (11, .int 0 :: .int 0 :: .int 0 :: .int 0 :: .int 0 :: .int 0 :: .int 0 :: .int 0 :: .null :: .int 0 :: .null :: .null :: .null :: .null :: .null :: .null :: .null :: .null :: .null :: .null :: .int 0 :: .int 0 :: .int 0 :: .int 0 :: .int 0 :: .int 0 :: .int 0 :: .null :: .null :: .null :: .null :: .null :: .null :: .null :: .null :: .null :: .null :: .int 0 :: .int 0 :: []))).2.1 = s2 + 39 := by show h19.2.1 + 39 = _; omega
  generalize ax_push h19 39 (.inr (11, .int 0 :: .int 0 :: .int 0 :: .int 0 :: .int 0 :: .int 0 :: .int 0 :: .int 0 :: .null :: .int 0 :: .null :: .null :: .null :: .null :: .null :: .null :: .null :: .null :: .null :: .null :: .int 0 :: .int 0 :: .int 0 :: .int 0 :: .int 0 :: .int 0 :: .int 0 :: .null :: .null :: .null :: .null :: .null :: .null :: .null :: .null :: .null :: .null :: .int 0 :: .int 0 :: [])) = h21 at hF hf hn hs ⊢
  refine ar_dup 27 d_219_26 rfl rfl ?_
  refine ar_aload_n 28 d_219_27 rfl rfl ?_
  refine ar_iconst 29 (v := 0) d_219_28 rfl (by decide) ?_
  refine ar_call (r := [.ref m, .ref m]) (na := 0) (kd := 0) (cm := 174) (fr2 := 11 - 1) (lo2 := 394 - 21) 32 d_219_29 (ar_hoS (as := [.ref 0, .int 0]) rfl rfl rfl) rfl (by omega) (show 394 - 21 + (19 + 2) = 394 by omega) (Nat.le_of_ble_eq_true rfl) (Nat.le_of_ble_eq_true rfl) (c_174 (j := 0) hL (by decide)) ?_
  intro v hh hq
  obtain ⟨rfl, ehh⟩ := hq
  rw [ehh]
  clear ehh
  refine ar_aload_n 33 d_219_32 rfl rfl ?_
  refine ar_iconst 34 (v := 1) d_219_33 rfl (by decide) ?_
  refine ar_call (r := [.int (scr L xs 0), .ref m, .ref m]) (na := 0) (kd := 0) (cm := 174) (fr2 := 11 - 1) (lo2 := 394 - 21) 37 d_219_34 (ar_hoS (as := [.ref 0, .int 1]) rfl rfl rfl) rfl (by omega) (show 394 - 21 + (19 + 2) = 394 by omega) (Nat.le_of_ble_eq_true rfl) (Nat.le_of_ble_eq_true rfl) (c_174 (j := 1) hL (by decide)) ?_
  intro v hh hq
  obtain ⟨rfl, ehh⟩ := hq
  rw [ehh]
  clear ehh
  refine ar_aload_n 38 d_219_37 rfl rfl ?_
  refine ar_iconst 39 (v := 2) d_219_38 rfl (by decide) ?_
  refine ar_call (r := [.int (scr L xs 1), .int (scr L xs 0), .ref m, .ref m]) (na := 0) (kd := 0) (cm := 174) (fr2 := 11 - 1) (lo2 := 394 - 21) 42 d_219_39 (ar_hoS (as := [.ref 0, .int 2]) rfl rfl rfl) rfl (by omega) (show 394 - 21 + (19 + 2) = 394 by omega) (Nat.le_of_ble_eq_true rfl) (Nat.le_of_ble_eq_true rfl) (c_174 (j := 2) hL (by decide)) ?_
  intro v hh hq
  obtain ⟨rfl, ehh⟩ := hq
  rw [ehh]
  clear ehh
  refine ar_call (r := [.ref m]) (na := 0) (kd := 0) (cm := 175) (fr2 := 11 - 1) (lo2 := 394 - 23) 45 d_219_42 (ar_hoI (as := [.int (scr L xs 0), .int (scr L xs 1), .int (scr L xs 2)]) rfl rfl rfl) rfl (by omega) (show 394 - 23 + (19 + 4) = 394 by omega) (Nat.le_of_ble_eq_true rfl) (Nat.le_of_ble_eq_true rfl) (c_175 (by omega) (by omega) u3 v3 w3 (hF.sub (F' := [(m, .inr (11, .int 0 :: .int 0 :: .int 0 :: .int 0 :: .int 0 :: .int 0 :: .int 0 :: .int 0 :: .null :: .int 0 :: .null :: .null :: .null :: .null :: .null :: .null :: .null :: .null :: .null :: .null :: .int 0 :: .int 0 :: .int 0 :: .int 0 :: .int 0 :: .int 0 :: .int 0 :: .null :: .null :: .null :: .null :: .null :: .null :: .null :: .null :: .null :: .null :: .int 0 :: .int 0 :: []))]) [0] rfl rfl) hn hs (by omega)) ?_
  intro v h39 hq
  obtain ⟨rfl, hM, en, es, ef⟩ := hq
  refine ar_astore_n 46 [(0, .ref 0), (1, .ref n), (2, .ref m)] d_219_45 rfl (by decide) rfl ?_
  refine ar_iconst 47 (v := 3) d_219_46 rfl (by decide) ?_
  refine ar_istore_n 48 [(0, .ref 0), (1, .ref n), (2, .ref m), (3, .int 3)] d_219_47 rfl (by decide) rfl ?_
  exact kk h39 nn gg cc p m f hm (hFr.fr ((hf.trC ef (fun x hx hB => by simp at hB; omega)).mono (fun x hx => by simp at hx))) hM (by omega) (by omega)
theorem law_q {L : Nat} {xs : Nat → Int32} {post : ax_Po} (hL : L < 2 ^ 31) (kk : ∀ (h' : ax_H) (nn gg cc p m : Nat) (f : Nat → Int32), m = 331 + 22 * nn → Fresh h' (scr L xs 0) (scr L xs 1) (scr L xs 2) 1 2 nn gg cc p f → ax_hs h' (MW m (m + 1) nn gg cc) → h'.1 = m + 22 → h'.2.1 = 11 + 103560 + gg * nn + nn + 47629 * nn + 39 + 460518 → ax_A (ax_step L xs) ((219, 48, 11, 394), [(0, .ref 0), (1, .ref 1), (2, .ref m), (3, .int 3)], [], h') post) : ax_A (ax_step L xs) ((axt_n, 0, 11, 394), [(0, .ref 0)], [], ax_h0) post :=
  law_p (n := 1) (sl := 0) hL ⟨fun i j p q hp => by simp at hp, fun k q hk => by simp at hk⟩ rfl rfl (by decide) (fun h' nn gg cc p m f e1 e2 e3 e4 e5 => kk h' nn gg cc p m f (by omega) e2 e3 e4 (by omega))

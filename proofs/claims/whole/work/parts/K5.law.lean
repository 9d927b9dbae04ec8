/-! the law: each call from every state of the two stores, all answers the same -/
def LWX (s0 n nn gg cc m B1 B2 cl : Nat) (f : Nat → Int32) (h : ax_H) : Prop := ∃ (TK : Int64) (S : SS) (al AL : Nat) (M : Nat → Nat → Int32), CX s0 n nn gg (nI cc) f h TK S ∧ RP nn cc gg cl m (m + 1) h al AL M ∧ JST (nn, gg, nI cc, f) cc (cl + 1) S M ∧ h.1 + 64 ≤ B1 + AL ∧ h.2.1 + 128 = B2 + 2 * AL
theorem LWX.room {s0 n nn gg cc m B1 B2 cl : Nat} {f : Nat → Int32} {h : ax_H} (hW : LWX s0 n nn gg cc m B1 B2 cl f h) : h.1 ≤ B1 + 448 ∧ h.2.1 ≤ B2 + 896 := by
  obtain ⟨TK, S, al, AL, M, -, hR, -, h1, h2⟩ := hW
  have hA := hR.2.2.2.2.2.2.2.2.2.2
  unfold AOK at hA
  omega
theorem lcX_0 {L : Nat} {xs : Nat → Int32} {s0 n nn gg cc m B1 B2 cl i : Nat} {h : ax_H} {f : Nat → Int32} {post : ax_Po} (hL : L < 2 ^ 31) (hi : i + 6 ≤ L) (hm : m = n + 329 + 22 * nn) (hC : CG s0 n nn gg f) (hcc : cc ≤ nn) (hcl : cl < 512) (hHP : HPm (nn, gg, nI cc, f) cc) (hW : LWX s0 n nn gg cc m B1 B2 cl f h) (kk : ∀ h', LWX s0 n nn gg cc m B1 B2 (cl + 1) f h' → ax_A (ax_step L xs) ((219, 804, 11, 396), [(0, .ref 0), (1, .ref s0), (2, .ref m), (3, .int (nI i))], [], h') post) : ax_A (ax_step L xs) ((219, 164, 11, 396), [(0, .ref 0), (1, .ref s0), (2, .ref m), (3, .int (nI i))], [], h) post := by
  obtain ⟨hs0, hsn, hnn3, hnn, hgg1, hgg, hRg⟩ := id hC
  obtain ⟨TK, S, al, AL, M, hP, hR, hJ, hr1, hr2⟩ := hW
  obtain ⟨fs1, hg1⟩ := hP.cell
  obtain ⟨fs2, hg2⟩ := hR.cell
  refine ar_aload_n 165 d_219_164 rfl rfl ?_
  refine ar_aload_n 166 d_219_165 rfl rfl ?_
  refine ar_iload_n 167 d_219_166 rfl rfl ?_
  refine ar_iconst 168 (v := 1) d_219_167 rfl (by decide) ?_
  refine ar_iadd 169 d_219_168 rfl ?_
  refine ar_top (x' := nI (i + 1)) (nI_add i 1) ?_
  refine ar_sald 170 d_219_169 rfl (nI_in (by omega) (by omega)) ?_
  refine ar_top (x' := xs (i + 1)) (by rw [nI_clamp (by omega)]) ?_
  refine ar_aload_n 171 d_219_170 rfl rfl ?_
  refine ar_iload_n 172 d_219_171 rfl rfl ?_
  refine ar_iconst 173 (v := 2) d_219_172 rfl (by decide) ?_
  refine ar_iadd 174 d_219_173 rfl ?_
  refine ar_top (x' := nI (i + 2)) (nI_add i 2) ?_
  refine ar_sald 175 d_219_174 rfl (nI_in (by omega) (by omega)) ?_
  refine ar_top (x' := xs (i + 2)) (by rw [nI_clamp (by omega)]) ?_
  refine ar_aload_n 176 d_219_175 rfl rfl ?_
  refine ar_iload_n 177 d_219_176 rfl rfl ?_
  refine ar_iconst 178 (v := 3) d_219_177 rfl (by decide) ?_
  refine ar_iadd 179 d_219_178 rfl ?_
  refine ar_top (x' := nI (i + 3)) (nI_add i 3) ?_
  refine ar_sald 180 d_219_179 rfl (nI_in (by omega) (by omega)) ?_
  refine ar_top (x' := xs (i + 3)) (by rw [nI_clamp (by omega)]) ?_
  refine ar_aload_n 181 d_219_180 rfl rfl ?_
  refine ar_iload_n 182 d_219_181 rfl rfl ?_
  refine ar_iconst 183 (v := 4) d_219_182 rfl (by decide) ?_
  refine ar_iadd 184 d_219_183 rfl ?_
  refine ar_top (x' := nI (i + 4)) (nI_add i 4) ?_
  refine ar_sald 185 d_219_184 rfl (nI_in (by omega) (by omega)) ?_
  refine ar_top (x' := xs (i + 4)) (by rw [nI_clamp (by omega)]) ?_
  refine ar_aload_n 186 d_219_185 rfl rfl ?_
  refine ar_iload_n 187 d_219_186 rfl rfl ?_
  refine ar_iconst 188 (v := 5) d_219_187 rfl (by decide) ?_
  refine ar_iadd 189 d_219_188 rfl ?_
  refine ar_top (x' := nI (i + 5)) (nI_add i 5) ?_
  refine ar_sald 190 d_219_189 rfl (nI_in (by omega) (by omega)) ?_
  refine ar_top (x' := xs (i + 5)) (by rw [nI_clamp (by omega)]) ?_
  refine ar_call (r := []) (na := 0) (kd := 0) (cm := 37) (fr2 := 11 - 1) (lo2 := 396 - 25) 193 d_219_190 (ar_hoV (as := [.int (xs (i + 1)), .int (xs (i + 2)), .int (xs (i + 3)), .int (xs (i + 4)), .int (xs (i + 5))]) rfl rfl rfl hg1) rfl (by omega) (show 396 - 25 + (19 + 6) = 396 by omega) (Nat.le_of_ble_eq_true rfl) (Nat.le_of_ble_eq_true rfl) (cx_37 (by omega) (by omega) hC hP) ?_
  intro v h2 hq
  obtain ⟨y1, S1, rfl, hP1, hz1, hq1⟩ := hq
  rw [← hm] at hz1
  have hR2 := hR.fr hz1
  obtain ⟨fs3, hg3⟩ := hP1.cell
  obtain ⟨fs4, hg4⟩ := hR2.cell
  refine ar_aload_n 194 d_219_193 rfl rfl ?_
  refine ar_aload_n 195 d_219_194 rfl rfl ?_
  refine ar_iload_n 196 d_219_195 rfl rfl ?_
  refine ar_iconst 197 (v := 1) d_219_196 rfl (by decide) ?_
  refine ar_iadd 198 d_219_197 rfl ?_
  refine ar_top (x' := nI (i + 1)) (nI_add i 1) ?_
  refine ar_sald 199 d_219_198 rfl (nI_in (by omega) (by omega)) ?_
  refine ar_top (x' := xs (i + 1)) (by rw [nI_clamp (by omega)]) ?_
  refine ar_aload_n 200 d_219_199 rfl rfl ?_
  refine ar_iload_n 201 d_219_200 rfl rfl ?_
  refine ar_iconst 202 (v := 2) d_219_201 rfl (by decide) ?_
  refine ar_iadd 203 d_219_202 rfl ?_
  refine ar_top (x' := nI (i + 2)) (nI_add i 2) ?_
  refine ar_sald 204 d_219_203 rfl (nI_in (by omega) (by omega)) ?_
  refine ar_top (x' := xs (i + 2)) (by rw [nI_clamp (by omega)]) ?_
  refine ar_aload_n 205 d_219_204 rfl rfl ?_
  refine ar_iload_n 206 d_219_205 rfl rfl ?_
  refine ar_iconst 207 (v := 3) d_219_206 rfl (by decide) ?_
  refine ar_iadd 208 d_219_207 rfl ?_
  refine ar_top (x' := nI (i + 3)) (nI_add i 3) ?_
  refine ar_sald 209 d_219_208 rfl (nI_in (by omega) (by omega)) ?_
  refine ar_top (x' := xs (i + 3)) (by rw [nI_clamp (by omega)]) ?_
  refine ar_aload_n 210 d_219_209 rfl rfl ?_
  refine ar_iload_n 211 d_219_210 rfl rfl ?_
  refine ar_iconst 212 (v := 4) d_219_211 rfl (by decide) ?_
  refine ar_iadd 213 d_219_212 rfl ?_
  refine ar_top (x' := nI (i + 4)) (nI_add i 4) ?_
  refine ar_sald 214 d_219_213 rfl (nI_in (by omega) (by omega)) ?_
  refine ar_top (x' := xs (i + 4)) (by rw [nI_clamp (by omega)]) ?_
  refine ar_aload_n 215 d_219_214 rfl rfl ?_
  refine ar_iload_n 216 d_219_215 rfl rfl ?_
  refine ar_iconst 217 (v := 5) d_219_216 rfl (by decide) ?_
  refine ar_iadd 218 d_219_217 rfl ?_
  refine ar_top (x' := nI (i + 5)) (nI_add i 5) ?_
  refine ar_sald 219 d_219_218 rfl (nI_in (by omega) (by omega)) ?_
  refine ar_top (x' := xs (i + 5)) (by rw [nI_clamp (by omega)]) ?_
  refine ar_call (r := [.int y1]) (na := 0) (kd := 0) (cm := 176) (fr2 := 11 - 1) (lo2 := 396 - 25) 222 d_219_219 (ar_hoV (as := [.int (xs (i + 1)), .int (xs (i + 2)), .int (xs (i + 3)), .int (xs (i + 4)), .int (xs (i + 5))]) rfl rfl rfl hg4) rfl (by omega) (show 396 - 25 + (19 + 6) = 396 by omega) (Nat.le_of_ble_eq_true rfl) (Nat.le_of_ble_eq_true rfl) (rq_176 (by omega) (by omega) hcc hnn hgg1 hgg hcl hR2) ?_
  intro v h3 hq
  obtain ⟨y2, al2, AL2, M2, rfl, hR3, hz2, hq2⟩ := hq
  obtain ⟨hye, hJ2⟩ := st_fe hJ hq1 hq2
  refine ar_icmp_eq 804 225 d_219_222 (by decide) rfl (fun _ => ?_) (fun c => absurd (hye) c)
  exact kk h3 ⟨TK, S1, al2, AL2, M2, hP1.fr hsn (by rw [← hm]; exact hz2.1), hR3, hJ2, by have := hz1.1; have := hz2.2.1; omega, by have := hz1.2.1; have := hz2.2.2; omega⟩
theorem lcX_1 {L : Nat} {xs : Nat → Int32} {s0 n nn gg cc m B1 B2 cl i : Nat} {h : ax_H} {f : Nat → Int32} {post : ax_Po} (hL : L < 2 ^ 31) (hi : i + 6 ≤ L) (hm : m = n + 329 + 22 * nn) (hC : CG s0 n nn gg f) (hcc : cc ≤ nn) (hcl : cl < 512) (hHP : HPm (nn, gg, nI cc, f) cc) (hW : LWX s0 n nn gg cc m B1 B2 cl f h) (kk : ∀ h', LWX s0 n nn gg cc m B1 B2 (cl + 1) f h' → ax_A (ax_step L xs) ((219, 804, 11, 396), [(0, .ref 0), (1, .ref s0), (2, .ref m), (3, .int (nI i))], [], h') post) : ax_A (ax_step L xs) ((219, 227, 11, 396), [(0, .ref 0), (1, .ref s0), (2, .ref m), (3, .int (nI i))], [], h) post := by
  obtain ⟨hs0, hsn, hnn3, hnn, hgg1, hgg, hRg⟩ := id hC
  obtain ⟨TK, S, al, AL, M, hP, hR, hJ, hr1, hr2⟩ := hW
  obtain ⟨fs1, hg1⟩ := hP.cell
  obtain ⟨fs2, hg2⟩ := hR.cell
  refine ar_aload_n 228 d_219_227 rfl rfl ?_
  refine ar_aload_n 229 d_219_228 rfl rfl ?_
  refine ar_iload_n 230 d_219_229 rfl rfl ?_
  refine ar_iconst 231 (v := 1) d_219_230 rfl (by decide) ?_
  refine ar_iadd 232 d_219_231 rfl ?_
  refine ar_top (x' := nI (i + 1)) (nI_add i 1) ?_
  refine ar_sald 233 d_219_232 rfl (nI_in (by omega) (by omega)) ?_
  refine ar_top (x' := xs (i + 1)) (by rw [nI_clamp (by omega)]) ?_
  refine ar_call (r := []) (na := 0) (kd := 0) (cm := 40) (fr2 := 11 - 1) (lo2 := 396 - 21) 236 d_219_233 (ar_hoV (as := [.int (xs (i + 1))]) rfl rfl rfl hg1) rfl (by omega) (show 396 - 21 + (19 + 2) = 396 by omega) (Nat.le_of_ble_eq_true rfl) (Nat.le_of_ble_eq_true rfl) (cx_40 (by omega) (by omega) hC hP) ?_
  intro v h2 hq
  obtain ⟨y1, S1, rfl, hP1, hz1, hq1⟩ := hq
  rw [← hm] at hz1
  have hR2 := hR.fr hz1
  obtain ⟨fs3, hg3⟩ := hP1.cell
  obtain ⟨fs4, hg4⟩ := hR2.cell
  refine ar_aload_n 237 d_219_236 rfl rfl ?_
  refine ar_aload_n 238 d_219_237 rfl rfl ?_
  refine ar_iload_n 239 d_219_238 rfl rfl ?_
  refine ar_iconst 240 (v := 1) d_219_239 rfl (by decide) ?_
  refine ar_iadd 241 d_219_240 rfl ?_
  refine ar_top (x' := nI (i + 1)) (nI_add i 1) ?_
  refine ar_sald 242 d_219_241 rfl (nI_in (by omega) (by omega)) ?_
  refine ar_top (x' := xs (i + 1)) (by rw [nI_clamp (by omega)]) ?_
  refine ar_call (r := [.int y1]) (na := 0) (kd := 0) (cm := 178) (fr2 := 11 - 1) (lo2 := 396 - 21) 245 d_219_242 (ar_hoV (as := [.int (xs (i + 1))]) rfl rfl rfl hg4) rfl (by omega) (show 396 - 21 + (19 + 2) = 396 by omega) (Nat.le_of_ble_eq_true rfl) (Nat.le_of_ble_eq_true rfl) (rq_178 (by omega) (by omega) hcc hnn hgg1 hgg hcl hR2) ?_
  intro v h3 hq
  obtain ⟨y2, al2, AL2, M2, rfl, hR3, hz2, hq2⟩ := hq
  obtain ⟨hye, hJ2⟩ := st_en hJ hq1 hq2
  refine ar_icmp_eq 804 248 d_219_245 (by decide) rfl (fun _ => ?_) (fun c => absurd (hye) c)
  exact kk h3 ⟨TK, S1, al2, AL2, M2, hP1.fr hsn (by rw [← hm]; exact hz2.1), hR3, hJ2, by have := hz1.1; have := hz2.2.1; omega, by have := hz1.2.1; have := hz2.2.2; omega⟩
theorem lcX_2 {L : Nat} {xs : Nat → Int32} {s0 n nn gg cc m B1 B2 cl i : Nat} {h : ax_H} {f : Nat → Int32} {post : ax_Po} (hL : L < 2 ^ 31) (hi : i + 6 ≤ L) (hm : m = n + 329 + 22 * nn) (hC : CG s0 n nn gg f) (hcc : cc ≤ nn) (hcl : cl < 512) (hHP : HPm (nn, gg, nI cc, f) cc) (hW : LWX s0 n nn gg cc m B1 B2 cl f h) (kk : ∀ h', LWX s0 n nn gg cc m B1 B2 (cl + 1) f h' → ax_A (ax_step L xs) ((219, 804, 11, 396), [(0, .ref 0), (1, .ref s0), (2, .ref m), (3, .int (nI i))], [], h') post) : ax_A (ax_step L xs) ((219, 250, 11, 396), [(0, .ref 0), (1, .ref s0), (2, .ref m), (3, .int (nI i))], [], h) post := by
  obtain ⟨hs0, hsn, hnn3, hnn, hgg1, hgg, hRg⟩ := id hC
  obtain ⟨TK, S, al, AL, M, hP, hR, hJ, hr1, hr2⟩ := hW
  obtain ⟨fs1, hg1⟩ := hP.cell
  obtain ⟨fs2, hg2⟩ := hR.cell
  refine ar_aload_n 251 d_219_250 rfl rfl ?_
  refine ar_aload_n 252 d_219_251 rfl rfl ?_
  refine ar_iload_n 253 d_219_252 rfl rfl ?_
  refine ar_iconst 254 (v := 1) d_219_253 rfl (by decide) ?_
  refine ar_iadd 255 d_219_254 rfl ?_
  refine ar_top (x' := nI (i + 1)) (nI_add i 1) ?_
  refine ar_sald 256 d_219_255 rfl (nI_in (by omega) (by omega)) ?_
  refine ar_top (x' := xs (i + 1)) (by rw [nI_clamp (by omega)]) ?_
  refine ar_call (r := []) (na := 0) (kd := 0) (cm := 41) (fr2 := 11 - 1) (lo2 := 396 - 21) 259 d_219_256 (ar_hoV (as := [.int (xs (i + 1))]) rfl rfl rfl hg1) rfl (by omega) (show 396 - 21 + (19 + 2) = 396 by omega) (Nat.le_of_ble_eq_true rfl) (Nat.le_of_ble_eq_true rfl) (cx_41 (by omega) (by omega) hC hP) ?_
  intro v h2 hq
  obtain ⟨y1, S1, rfl, hP1, hz1, hq1⟩ := hq
  rw [← hm] at hz1
  have hR2 := hR.fr hz1
  obtain ⟨fs3, hg3⟩ := hP1.cell
  obtain ⟨fs4, hg4⟩ := hR2.cell
  refine ar_aload_n 260 d_219_259 rfl rfl ?_
  refine ar_aload_n 261 d_219_260 rfl rfl ?_
  refine ar_iload_n 262 d_219_261 rfl rfl ?_
  refine ar_iconst 263 (v := 1) d_219_262 rfl (by decide) ?_
  refine ar_iadd 264 d_219_263 rfl ?_
  refine ar_top (x' := nI (i + 1)) (nI_add i 1) ?_
  refine ar_sald 265 d_219_264 rfl (nI_in (by omega) (by omega)) ?_
  refine ar_top (x' := xs (i + 1)) (by rw [nI_clamp (by omega)]) ?_
  refine ar_call (r := [.int y1]) (na := 0) (kd := 0) (cm := 179) (fr2 := 11 - 1) (lo2 := 396 - 22) 268 d_219_265 (ar_hoV (as := [.int (xs (i + 1))]) rfl rfl rfl hg4) rfl (by omega) (show 396 - 22 + (19 + 3) = 396 by omega) (Nat.le_of_ble_eq_true rfl) (Nat.le_of_ble_eq_true rfl) (rq_179 (by omega) (by omega) hcc hnn hgg1 hgg hcl hR2) ?_
  intro v h3 hq
  obtain ⟨y2, al2, AL2, M2, rfl, hR3, hz2, hq2⟩ := hq
  obtain ⟨hye, hJ2⟩ := st_na hJ hq1 hq2
  refine ar_icmp_eq 804 271 d_219_268 (by decide) rfl (fun _ => ?_) (fun c => absurd (hye) c)
  exact kk h3 ⟨TK, S1, al2, AL2, M2, hP1.fr hsn (by rw [← hm]; exact hz2.1), hR3, hJ2, by have := hz1.1; have := hz2.2.1; omega, by have := hz1.2.1; have := hz2.2.2; omega⟩
theorem lcX_3 {L : Nat} {xs : Nat → Int32} {s0 n nn gg cc m B1 B2 cl i : Nat} {h : ax_H} {f : Nat → Int32} {post : ax_Po} (hL : L < 2 ^ 31) (hi : i + 6 ≤ L) (hm : m = n + 329 + 22 * nn) (hC : CG s0 n nn gg f) (hcc : cc ≤ nn) (hcl : cl < 512) (hHP : HPm (nn, gg, nI cc, f) cc) (hW : LWX s0 n nn gg cc m B1 B2 cl f h) (kk : ∀ h', LWX s0 n nn gg cc m B1 B2 (cl + 1) f h' → ax_A (ax_step L xs) ((219, 804, 11, 396), [(0, .ref 0), (1, .ref s0), (2, .ref m), (3, .int (nI i))], [], h') post) : ax_A (ax_step L xs) ((219, 273, 11, 396), [(0, .ref 0), (1, .ref s0), (2, .ref m), (3, .int (nI i))], [], h) post := by
  obtain ⟨hs0, hsn, hnn3, hnn, hgg1, hgg, hRg⟩ := id hC
  obtain ⟨TK, S, al, AL, M, hP, hR, hJ, hr1, hr2⟩ := hW
  obtain ⟨fs1, hg1⟩ := hP.cell
  obtain ⟨fs2, hg2⟩ := hR.cell
  refine ar_aload_n 274 d_219_273 rfl rfl ?_
  refine ar_aload_n 275 d_219_274 rfl rfl ?_
  refine ar_iload_n 276 d_219_275 rfl rfl ?_
  refine ar_iconst 277 (v := 1) d_219_276 rfl (by decide) ?_
  refine ar_iadd 278 d_219_277 rfl ?_
  refine ar_top (x' := nI (i + 1)) (nI_add i 1) ?_
  refine ar_sald 279 d_219_278 rfl (nI_in (by omega) (by omega)) ?_
  refine ar_top (x' := xs (i + 1)) (by rw [nI_clamp (by omega)]) ?_
  refine ar_aload_n 280 d_219_279 rfl rfl ?_
  refine ar_iload_n 281 d_219_280 rfl rfl ?_
  refine ar_iconst 282 (v := 2) d_219_281 rfl (by decide) ?_
  refine ar_iadd 283 d_219_282 rfl ?_
  refine ar_top (x' := nI (i + 2)) (nI_add i 2) ?_
  refine ar_sald 284 d_219_283 rfl (nI_in (by omega) (by omega)) ?_
  refine ar_top (x' := xs (i + 2)) (by rw [nI_clamp (by omega)]) ?_
  refine ar_aload_n 285 d_219_284 rfl rfl ?_
  refine ar_iload_n 286 d_219_285 rfl rfl ?_
  refine ar_iconst 287 (v := 3) d_219_286 rfl (by decide) ?_
  refine ar_iadd 288 d_219_287 rfl ?_
  refine ar_top (x' := nI (i + 3)) (nI_add i 3) ?_
  refine ar_sald 289 d_219_288 rfl (nI_in (by omega) (by omega)) ?_
  refine ar_top (x' := xs (i + 3)) (by rw [nI_clamp (by omega)]) ?_
  refine ar_call (r := []) (na := 0) (kd := 0) (cm := 44) (fr2 := 11 - 1) (lo2 := 396 - 23) 292 d_219_289 (ar_hoV (as := [.int (xs (i + 1)), .int (xs (i + 2)), .int (xs (i + 3))]) rfl rfl rfl hg1) rfl (by omega) (show 396 - 23 + (19 + 4) = 396 by omega) (Nat.le_of_ble_eq_true rfl) (Nat.le_of_ble_eq_true rfl) (cx_44 (by omega) (by omega) hC hP) ?_
  intro v h2 hq
  obtain ⟨y1, S1, rfl, hP1, hz1, hq1⟩ := hq
  rw [← hm] at hz1
  have hR2 := hR.fr hz1
  obtain ⟨fs3, hg3⟩ := hP1.cell
  obtain ⟨fs4, hg4⟩ := hR2.cell
  refine ar_aload_n 293 d_219_292 rfl rfl ?_
  refine ar_aload_n 294 d_219_293 rfl rfl ?_
  refine ar_iload_n 295 d_219_294 rfl rfl ?_
  refine ar_iconst 296 (v := 1) d_219_295 rfl (by decide) ?_
  refine ar_iadd 297 d_219_296 rfl ?_
  refine ar_top (x' := nI (i + 1)) (nI_add i 1) ?_
  refine ar_sald 298 d_219_297 rfl (nI_in (by omega) (by omega)) ?_
  refine ar_top (x' := xs (i + 1)) (by rw [nI_clamp (by omega)]) ?_
  refine ar_aload_n 299 d_219_298 rfl rfl ?_
  refine ar_iload_n 300 d_219_299 rfl rfl ?_
  refine ar_iconst 301 (v := 2) d_219_300 rfl (by decide) ?_
  refine ar_iadd 302 d_219_301 rfl ?_
  refine ar_top (x' := nI (i + 2)) (nI_add i 2) ?_
  refine ar_sald 303 d_219_302 rfl (nI_in (by omega) (by omega)) ?_
  refine ar_top (x' := xs (i + 2)) (by rw [nI_clamp (by omega)]) ?_
  refine ar_aload_n 304 d_219_303 rfl rfl ?_
  refine ar_iload_n 305 d_219_304 rfl rfl ?_
  refine ar_iconst 306 (v := 3) d_219_305 rfl (by decide) ?_
  refine ar_iadd 307 d_219_306 rfl ?_
  refine ar_top (x' := nI (i + 3)) (nI_add i 3) ?_
  refine ar_sald 308 d_219_307 rfl (nI_in (by omega) (by omega)) ?_
  refine ar_top (x' := xs (i + 3)) (by rw [nI_clamp (by omega)]) ?_
  refine ar_call (r := [.int y1]) (na := 0) (kd := 0) (cm := 180) (fr2 := 11 - 1) (lo2 := 396 - 25) 311 d_219_308 (ar_hoV (as := [.int (xs (i + 1)), .int (xs (i + 2)), .int (xs (i + 3))]) rfl rfl rfl hg4) rfl (by omega) (show 396 - 25 + (19 + 6) = 396 by omega) (Nat.le_of_ble_eq_true rfl) (Nat.le_of_ble_eq_true rfl) (rq_180 (by omega) (by omega) hcc hnn hgg1 hgg hcl hR2) ?_
  intro v h3 hq
  obtain ⟨y2, al2, AL2, M2, rfl, hR3, hz2, hq2⟩ := hq
  obtain ⟨hye, hJ2⟩ := st_bg hJ hq1 hq2
  refine ar_icmp_eq 804 314 d_219_311 (by decide) rfl (fun _ => ?_) (fun c => absurd (hye) c)
  exact kk h3 ⟨TK, S1, al2, AL2, M2, hP1.fr hsn (by rw [← hm]; exact hz2.1), hR3, hJ2, by have := hz1.1; have := hz2.2.1; omega, by have := hz1.2.1; have := hz2.2.2; omega⟩
theorem lcX_4 {L : Nat} {xs : Nat → Int32} {s0 n nn gg cc m B1 B2 cl i : Nat} {h : ax_H} {f : Nat → Int32} {post : ax_Po} (hL : L < 2 ^ 31) (hi : i + 6 ≤ L) (hm : m = n + 329 + 22 * nn) (hC : CG s0 n nn gg f) (hcc : cc ≤ nn) (hcl : cl < 512) (hHP : HPm (nn, gg, nI cc, f) cc) (hW : LWX s0 n nn gg cc m B1 B2 cl f h) (kk : ∀ h', LWX s0 n nn gg cc m B1 B2 (cl + 1) f h' → ax_A (ax_step L xs) ((219, 804, 11, 396), [(0, .ref 0), (1, .ref s0), (2, .ref m), (3, .int (nI i))], [], h') post) : ax_A (ax_step L xs) ((219, 316, 11, 396), [(0, .ref 0), (1, .ref s0), (2, .ref m), (3, .int (nI i))], [], h) post := by
  obtain ⟨hs0, hsn, hnn3, hnn, hgg1, hgg, hRg⟩ := id hC
  obtain ⟨TK, S, al, AL, M, hP, hR, hJ, hr1, hr2⟩ := hW
  obtain ⟨fs1, hg1⟩ := hP.cell
  obtain ⟨fs2, hg2⟩ := hR.cell
  refine ar_aload_n 317 d_219_316 rfl rfl ?_
  refine ar_aload_n 318 d_219_317 rfl rfl ?_
  refine ar_iload_n 319 d_219_318 rfl rfl ?_
  refine ar_iconst 320 (v := 1) d_219_319 rfl (by decide) ?_
  refine ar_iadd 321 d_219_320 rfl ?_
  refine ar_top (x' := nI (i + 1)) (nI_add i 1) ?_
  refine ar_sald 322 d_219_321 rfl (nI_in (by omega) (by omega)) ?_
  refine ar_top (x' := xs (i + 1)) (by rw [nI_clamp (by omega)]) ?_
  refine ar_call (r := []) (na := 0) (kd := 0) (cm := 49) (fr2 := 11 - 1) (lo2 := 396 - 21) 325 d_219_322 (ar_hoV (as := [.int (xs (i + 1))]) rfl rfl rfl hg1) rfl (by omega) (show 396 - 21 + (19 + 2) = 396 by omega) (Nat.le_of_ble_eq_true rfl) (Nat.le_of_ble_eq_true rfl) (cz_49 (by omega) (by omega) hC hP) ?_
  intro v h2 hq
  obtain ⟨S1, rfl, hP1, hz1, hq1⟩ := hq
  rw [← hm] at hz1
  have hR2 := hR.fr hz1
  obtain ⟨fs3, hg3⟩ := hP1.cell
  obtain ⟨fs4, hg4⟩ := hR2.cell
  refine ar_aload_n 326 d_219_325 rfl rfl ?_
  refine ar_aload_n 327 d_219_326 rfl rfl ?_
  refine ar_iload_n 328 d_219_327 rfl rfl ?_
  refine ar_iconst 329 (v := 1) d_219_328 rfl (by decide) ?_
  refine ar_iadd 330 d_219_329 rfl ?_
  refine ar_top (x' := nI (i + 1)) (nI_add i 1) ?_
  refine ar_sald 331 d_219_330 rfl (nI_in (by omega) (by omega)) ?_
  refine ar_top (x' := xs (i + 1)) (by rw [nI_clamp (by omega)]) ?_
  refine ar_call (r := []) (na := 0) (kd := 0) (cm := 181) (fr2 := 11 - 1) (lo2 := 396 - 21) 334 d_219_331 (ar_hoV (as := [.int (xs (i + 1))]) rfl rfl rfl hg4) rfl (by omega) (show 396 - 21 + (19 + 2) = 396 by omega) (Nat.le_of_ble_eq_true rfl) (Nat.le_of_ble_eq_true rfl) (rq_181 (by omega) (by omega) hcc hnn hgg1 hgg hcl hR2) ?_
  intro v h3 hq
  obtain ⟨al2, AL2, M2, rfl, hR3, hz2, hq2⟩ := hq
  have hJ2 := st_de hHP hJ hq1 hq2
  refine ar_goto 804 d_219_334 (by decide) ?_
  exact kk h3 ⟨TK, S1, al2, AL2, M2, hP1.fr hsn (by rw [← hm]; exact hz2.1), hR3, hJ2, by have := hz1.1; have := hz2.2.1; omega, by have := hz1.2.1; have := hz2.2.2; omega⟩
theorem lcX_5 {L : Nat} {xs : Nat → Int32} {s0 n nn gg cc m B1 B2 cl i : Nat} {h : ax_H} {f : Nat → Int32} {post : ax_Po} (hL : L < 2 ^ 31) (hi : i + 6 ≤ L) (hm : m = n + 329 + 22 * nn) (hC : CG s0 n nn gg f) (hcc : cc ≤ nn) (hcl : cl < 512) (hHP : HPm (nn, gg, nI cc, f) cc) (hW : LWX s0 n nn gg cc m B1 B2 cl f h) (kk : ∀ h', LWX s0 n nn gg cc m B1 B2 (cl + 1) f h' → ax_A (ax_step L xs) ((219, 804, 11, 396), [(0, .ref 0), (1, .ref s0), (2, .ref m), (3, .int (nI i))], [], h') post) : ax_A (ax_step L xs) ((219, 337, 11, 396), [(0, .ref 0), (1, .ref s0), (2, .ref m), (3, .int (nI i))], [], h) post := by
  obtain ⟨hs0, hsn, hnn3, hnn, hgg1, hgg, hRg⟩ := id hC
  obtain ⟨TK, S, al, AL, M, hP, hR, hJ, hr1, hr2⟩ := hW
  obtain ⟨fs1, hg1⟩ := hP.cell
  obtain ⟨fs2, hg2⟩ := hR.cell
  refine ar_aload_n 338 d_219_337 rfl rfl ?_
  refine ar_aload_n 339 d_219_338 rfl rfl ?_
  refine ar_iload_n 340 d_219_339 rfl rfl ?_
  refine ar_iconst 341 (v := 1) d_219_340 rfl (by decide) ?_
  refine ar_iadd 342 d_219_341 rfl ?_
  refine ar_top (x' := nI (i + 1)) (nI_add i 1) ?_
  refine ar_sald 343 d_219_342 rfl (nI_in (by omega) (by omega)) ?_
  refine ar_top (x' := xs (i + 1)) (by rw [nI_clamp (by omega)]) ?_
  refine ar_call (r := []) (na := 0) (kd := 0) (cm := 129) (fr2 := 11 - 1) (lo2 := 396 - 21) 346 d_219_343 (ar_hoV (as := [.int (xs (i + 1))]) rfl rfl rfl hg1) rfl (by omega) (show 396 - 21 + (19 + 2) = 396 by omega) (Nat.le_of_ble_eq_true rfl) (Nat.le_of_ble_eq_true rfl) (cz_129 (by omega) (by omega) hC hP) ?_
  intro v h2 hq
  obtain ⟨S1, rfl, hP1, hz1, hq1⟩ := hq
  rw [← hm] at hz1
  have hR2 := hR.fr hz1
  obtain ⟨fs3, hg3⟩ := hP1.cell
  obtain ⟨fs4, hg4⟩ := hR2.cell
  refine ar_aload_n 347 d_219_346 rfl rfl ?_
  refine ar_aload_n 348 d_219_347 rfl rfl ?_
  refine ar_iload_n 349 d_219_348 rfl rfl ?_
  refine ar_iconst 350 (v := 1) d_219_349 rfl (by decide) ?_
  refine ar_iadd 351 d_219_350 rfl ?_
  refine ar_top (x' := nI (i + 1)) (nI_add i 1) ?_
  refine ar_sald 352 d_219_351 rfl (nI_in (by omega) (by omega)) ?_
  refine ar_top (x' := xs (i + 1)) (by rw [nI_clamp (by omega)]) ?_
  refine ar_call (r := []) (na := 0) (kd := 0) (cm := 182) (fr2 := 11 - 1) (lo2 := 396 - 21) 355 d_219_352 (ar_hoV (as := [.int (xs (i + 1))]) rfl rfl rfl hg4) rfl (by omega) (show 396 - 21 + (19 + 2) = 396 by omega) (Nat.le_of_ble_eq_true rfl) (Nat.le_of_ble_eq_true rfl) (rq_182 (by omega) (by omega) hcc hnn hgg1 hgg hcl hR2) ?_
  intro v h3 hq
  obtain ⟨al2, AL2, M2, rfl, hR3, hz2, hq2⟩ := hq
  have hJ2 := st_lo hJ hq1 hq2
  refine ar_goto 804 d_219_355 (by decide) ?_
  exact kk h3 ⟨TK, S1, al2, AL2, M2, hP1.fr hsn (by rw [← hm]; exact hz2.1), hR3, hJ2, by have := hz1.1; have := hz2.2.1; omega, by have := hz1.2.1; have := hz2.2.2; omega⟩
theorem lcX_6 {L : Nat} {xs : Nat → Int32} {s0 n nn gg cc m B1 B2 cl i : Nat} {h : ax_H} {f : Nat → Int32} {post : ax_Po} (hL : L < 2 ^ 31) (hi : i + 6 ≤ L) (hm : m = n + 329 + 22 * nn) (hC : CG s0 n nn gg f) (hcc : cc ≤ nn) (hcl : cl < 512) (hHP : HPm (nn, gg, nI cc, f) cc) (hW : LWX s0 n nn gg cc m B1 B2 cl f h) (kk : ∀ h', LWX s0 n nn gg cc m B1 B2 (cl + 1) f h' → ax_A (ax_step L xs) ((219, 804, 11, 396), [(0, .ref 0), (1, .ref s0), (2, .ref m), (3, .int (nI i))], [], h') post) : ax_A (ax_step L xs) ((219, 358, 11, 396), [(0, .ref 0), (1, .ref s0), (2, .ref m), (3, .int (nI i))], [], h) post := by
  obtain ⟨hs0, hsn, hnn3, hnn, hgg1, hgg, hRg⟩ := id hC
  obtain ⟨TK, S, al, AL, M, hP, hR, hJ, hr1, hr2⟩ := hW
  obtain ⟨fs1, hg1⟩ := hP.cell
  obtain ⟨fs2, hg2⟩ := hR.cell
  refine ar_aload_n 359 d_219_358 rfl rfl ?_
  refine ar_aload_n 360 d_219_359 rfl rfl ?_
  refine ar_iload_n 361 d_219_360 rfl rfl ?_
  refine ar_iconst 362 (v := 1) d_219_361 rfl (by decide) ?_
  refine ar_iadd 363 d_219_362 rfl ?_
  refine ar_top (x' := nI (i + 1)) (nI_add i 1) ?_
  refine ar_sald 364 d_219_363 rfl (nI_in (by omega) (by omega)) ?_
  refine ar_top (x' := xs (i + 1)) (by rw [nI_clamp (by omega)]) ?_
  refine ar_call (r := []) (na := 0) (kd := 0) (cm := 130) (fr2 := 11 - 1) (lo2 := 396 - 21) 367 d_219_364 (ar_hoV (as := [.int (xs (i + 1))]) rfl rfl rfl hg1) rfl (by omega) (show 396 - 21 + (19 + 2) = 396 by omega) (Nat.le_of_ble_eq_true rfl) (Nat.le_of_ble_eq_true rfl) (cz_130 (by omega) (by omega) hC hP) ?_
  intro v h2 hq
  obtain ⟨S1, rfl, hP1, hz1, hq1⟩ := hq
  rw [← hm] at hz1
  have hR2 := hR.fr hz1
  obtain ⟨fs3, hg3⟩ := hP1.cell
  obtain ⟨fs4, hg4⟩ := hR2.cell
  refine ar_aload_n 368 d_219_367 rfl rfl ?_
  refine ar_aload_n 369 d_219_368 rfl rfl ?_
  refine ar_iload_n 370 d_219_369 rfl rfl ?_
  refine ar_iconst 371 (v := 1) d_219_370 rfl (by decide) ?_
  refine ar_iadd 372 d_219_371 rfl ?_
  refine ar_top (x' := nI (i + 1)) (nI_add i 1) ?_
  refine ar_sald 373 d_219_372 rfl (nI_in (by omega) (by omega)) ?_
  refine ar_top (x' := xs (i + 1)) (by rw [nI_clamp (by omega)]) ?_
  refine ar_call (r := []) (na := 0) (kd := 0) (cm := 183) (fr2 := 11 - 1) (lo2 := 396 - 21) 376 d_219_373 (ar_hoV (as := [.int (xs (i + 1))]) rfl rfl rfl hg4) rfl (by omega) (show 396 - 21 + (19 + 2) = 396 by omega) (Nat.le_of_ble_eq_true rfl) (Nat.le_of_ble_eq_true rfl) (rq_183 (by omega) (by omega) hcc hnn hgg1 hgg hcl hR2) ?_
  intro v h3 hq
  obtain ⟨al2, AL2, M2, rfl, hR3, hz2, hq2⟩ := hq
  have hJ2 := st_tw hHP hJ hq1 hq2
  refine ar_goto 804 d_219_376 (by decide) ?_
  exact kk h3 ⟨TK, S1, al2, AL2, M2, hP1.fr hsn (by rw [← hm]; exact hz2.1), hR3, hJ2, by have := hz1.1; have := hz2.2.1; omega, by have := hz1.2.1; have := hz2.2.2; omega⟩
theorem lcX_7 {L : Nat} {xs : Nat → Int32} {s0 n nn gg cc m B1 B2 cl i : Nat} {h : ax_H} {f : Nat → Int32} {post : ax_Po} (hL : L < 2 ^ 31) (hi : i + 6 ≤ L) (hm : m = n + 329 + 22 * nn) (hC : CG s0 n nn gg f) (hcc : cc ≤ nn) (hcl : cl < 512) (hHP : HPm (nn, gg, nI cc, f) cc) (hW : LWX s0 n nn gg cc m B1 B2 cl f h) (kk : ∀ h', LWX s0 n nn gg cc m B1 B2 (cl + 1) f h' → ax_A (ax_step L xs) ((219, 804, 11, 396), [(0, .ref 0), (1, .ref s0), (2, .ref m), (3, .int (nI i))], [], h') post) : ax_A (ax_step L xs) ((219, 379, 11, 396), [(0, .ref 0), (1, .ref s0), (2, .ref m), (3, .int (nI i))], [], h) post := by
  obtain ⟨hs0, hsn, hnn3, hnn, hgg1, hgg, hRg⟩ := id hC
  obtain ⟨TK, S, al, AL, M, hP, hR, hJ, hr1, hr2⟩ := hW
  obtain ⟨fs1, hg1⟩ := hP.cell
  obtain ⟨fs2, hg2⟩ := hR.cell
  refine ar_aload_n 380 d_219_379 rfl rfl ?_
  refine ar_aload_n 381 d_219_380 rfl rfl ?_
  refine ar_iload_n 382 d_219_381 rfl rfl ?_
  refine ar_iconst 383 (v := 1) d_219_382 rfl (by decide) ?_
  refine ar_iadd 384 d_219_383 rfl ?_
  refine ar_top (x' := nI (i + 1)) (nI_add i 1) ?_
  refine ar_sald 385 d_219_384 rfl (nI_in (by omega) (by omega)) ?_
  refine ar_top (x' := xs (i + 1)) (by rw [nI_clamp (by omega)]) ?_
  refine ar_aload_n 386 d_219_385 rfl rfl ?_
  refine ar_iload_n 387 d_219_386 rfl rfl ?_
  refine ar_iconst 388 (v := 2) d_219_387 rfl (by decide) ?_
  refine ar_iadd 389 d_219_388 rfl ?_
  refine ar_top (x' := nI (i + 2)) (nI_add i 2) ?_
  refine ar_sald 390 d_219_389 rfl (nI_in (by omega) (by omega)) ?_
  refine ar_top (x' := xs (i + 2)) (by rw [nI_clamp (by omega)]) ?_
  refine ar_call (r := []) (na := 0) (kd := 0) (cm := 131) (fr2 := 11 - 1) (lo2 := 396 - 27) 393 d_219_390 (ar_hoV (as := [.int (xs (i + 1)), .int (xs (i + 2))]) rfl rfl rfl hg1) rfl (by omega) (show 396 - 27 + (19 + 8) = 396 by omega) (Nat.le_of_ble_eq_true rfl) (Nat.le_of_ble_eq_true rfl) (cz_131 (by omega) (by omega) hC hP) ?_
  intro v h2 hq
  obtain ⟨y1, S1, rfl, hP1, hz1, hq1⟩ := hq
  rw [← hm] at hz1
  have hR2 := hR.fr hz1
  obtain ⟨fs3, hg3⟩ := hP1.cell
  obtain ⟨fs4, hg4⟩ := hR2.cell
  refine ar_aload_n 394 d_219_393 rfl rfl ?_
  refine ar_aload_n 395 d_219_394 rfl rfl ?_
  refine ar_iload_n 396 d_219_395 rfl rfl ?_
  refine ar_iconst 397 (v := 1) d_219_396 rfl (by decide) ?_
  refine ar_iadd 398 d_219_397 rfl ?_
  refine ar_top (x' := nI (i + 1)) (nI_add i 1) ?_
  refine ar_sald 399 d_219_398 rfl (nI_in (by omega) (by omega)) ?_
  refine ar_top (x' := xs (i + 1)) (by rw [nI_clamp (by omega)]) ?_
  refine ar_aload_n 400 d_219_399 rfl rfl ?_
  refine ar_iload_n 401 d_219_400 rfl rfl ?_
  refine ar_iconst 402 (v := 2) d_219_401 rfl (by decide) ?_
  refine ar_iadd 403 d_219_402 rfl ?_
  refine ar_top (x' := nI (i + 2)) (nI_add i 2) ?_
  refine ar_sald 404 d_219_403 rfl (nI_in (by omega) (by omega)) ?_
  refine ar_top (x' := xs (i + 2)) (by rw [nI_clamp (by omega)]) ?_
  refine ar_call (r := [.int y1]) (na := 0) (kd := 0) (cm := 184) (fr2 := 11 - 1) (lo2 := 396 - 22) 407 d_219_404 (ar_hoV (as := [.int (xs (i + 1)), .int (xs (i + 2))]) rfl rfl rfl hg4) rfl (by omega) (show 396 - 22 + (19 + 3) = 396 by omega) (Nat.le_of_ble_eq_true rfl) (Nat.le_of_ble_eq_true rfl) (rq_184 (by omega) (by omega) hcc hnn hgg1 hgg hcl hR2) ?_
  intro v h3 hq
  obtain ⟨y2, al2, AL2, M2, rfl, hR3, hz2, hq2⟩ := hq
  obtain ⟨hye, hJ2⟩ := st_si hHP hJ hq1 hq2
  refine ar_icmp_eq 804 410 d_219_407 (by decide) rfl (fun _ => ?_) (fun c => absurd (hye) c)
  exact kk h3 ⟨TK, S1, al2, AL2, M2, hP1.fr hsn (by rw [← hm]; exact hz2.1), hR3, hJ2, by have := hz1.1; have := hz2.2.1; omega, by have := hz1.2.1; have := hz2.2.2; omega⟩
theorem lcX_8 {L : Nat} {xs : Nat → Int32} {s0 n nn gg cc m B1 B2 cl i : Nat} {h : ax_H} {f : Nat → Int32} {post : ax_Po} (hL : L < 2 ^ 31) (hi : i + 6 ≤ L) (hm : m = n + 329 + 22 * nn) (hC : CG s0 n nn gg f) (hcc : cc ≤ nn) (hcl : cl < 512) (hHP : HPm (nn, gg, nI cc, f) cc) (hW : LWX s0 n nn gg cc m B1 B2 cl f h) (kk : ∀ h', LWX s0 n nn gg cc m B1 B2 (cl + 1) f h' → ax_A (ax_step L xs) ((219, 804, 11, 396), [(0, .ref 0), (1, .ref s0), (2, .ref m), (3, .int (nI i))], [], h') post) : ax_A (ax_step L xs) ((219, 412, 11, 396), [(0, .ref 0), (1, .ref s0), (2, .ref m), (3, .int (nI i))], [], h) post := by
  obtain ⟨hs0, hsn, hnn3, hnn, hgg1, hgg, hRg⟩ := id hC
  obtain ⟨TK, S, al, AL, M, hP, hR, hJ, hr1, hr2⟩ := hW
  obtain ⟨fs1, hg1⟩ := hP.cell
  obtain ⟨fs2, hg2⟩ := hR.cell
  refine ar_aload_n 413 d_219_412 rfl rfl ?_
  refine ar_aload_n 414 d_219_413 rfl rfl ?_
  refine ar_iload_n 415 d_219_414 rfl rfl ?_
  refine ar_iconst 416 (v := 1) d_219_415 rfl (by decide) ?_
  refine ar_iadd 417 d_219_416 rfl ?_
  refine ar_top (x' := nI (i + 1)) (nI_add i 1) ?_
  refine ar_sald 418 d_219_417 rfl (nI_in (by omega) (by omega)) ?_
  refine ar_top (x' := xs (i + 1)) (by rw [nI_clamp (by omega)]) ?_
  refine ar_call (r := []) (na := 0) (kd := 0) (cm := 132) (fr2 := 11 - 1) (lo2 := 396 - 22) 421 d_219_418 (ar_hoV (as := [.int (xs (i + 1))]) rfl rfl rfl hg1) rfl (by omega) (show 396 - 22 + (19 + 3) = 396 by omega) (Nat.le_of_ble_eq_true rfl) (Nat.le_of_ble_eq_true rfl) (cz_132 (by omega) (by omega) hC hP) ?_
  intro v h2 hq
  obtain ⟨y1, S1, rfl, hP1, hz1, hq1⟩ := hq
  rw [← hm] at hz1
  have hR2 := hR.fr hz1
  obtain ⟨fs3, hg3⟩ := hP1.cell
  obtain ⟨fs4, hg4⟩ := hR2.cell
  refine ar_aload_n 422 d_219_421 rfl rfl ?_
  refine ar_aload_n 423 d_219_422 rfl rfl ?_
  refine ar_iload_n 424 d_219_423 rfl rfl ?_
  refine ar_iconst 425 (v := 1) d_219_424 rfl (by decide) ?_
  refine ar_iadd 426 d_219_425 rfl ?_
  refine ar_top (x' := nI (i + 1)) (nI_add i 1) ?_
  refine ar_sald 427 d_219_426 rfl (nI_in (by omega) (by omega)) ?_
  refine ar_top (x' := xs (i + 1)) (by rw [nI_clamp (by omega)]) ?_
  refine ar_call (r := [.int y1]) (na := 0) (kd := 0) (cm := 185) (fr2 := 11 - 1) (lo2 := 396 - 21) 430 d_219_427 (ar_hoV (as := [.int (xs (i + 1))]) rfl rfl rfl hg4) rfl (by omega) (show 396 - 21 + (19 + 2) = 396 by omega) (Nat.le_of_ble_eq_true rfl) (Nat.le_of_ble_eq_true rfl) (rq_185 (by omega) (by omega) hcc hnn hgg1 hgg hcl hR2) ?_
  intro v h3 hq
  obtain ⟨y2, al2, AL2, M2, rfl, hR3, hz2, hq2⟩ := hq
  obtain ⟨hye, hJ2⟩ := st_ti hHP hJ hq1 hq2
  refine ar_icmp_eq 804 433 d_219_430 (by decide) rfl (fun _ => ?_) (fun c => absurd (hye) c)
  exact kk h3 ⟨TK, S1, al2, AL2, M2, hP1.fr hsn (by rw [← hm]; exact hz2.1), hR3, hJ2, by have := hz1.1; have := hz2.2.1; omega, by have := hz1.2.1; have := hz2.2.2; omega⟩
theorem lcX_9 {L : Nat} {xs : Nat → Int32} {s0 n nn gg cc m B1 B2 cl i : Nat} {h : ax_H} {f : Nat → Int32} {post : ax_Po} (hL : L < 2 ^ 31) (hi : i + 6 ≤ L) (hm : m = n + 329 + 22 * nn) (hC : CG s0 n nn gg f) (hcc : cc ≤ nn) (hcl : cl < 512) (hHP : HPm (nn, gg, nI cc, f) cc) (hW : LWX s0 n nn gg cc m B1 B2 cl f h) (kk : ∀ h', LWX s0 n nn gg cc m B1 B2 (cl + 1) f h' → ax_A (ax_step L xs) ((219, 804, 11, 396), [(0, .ref 0), (1, .ref s0), (2, .ref m), (3, .int (nI i))], [], h') post) : ax_A (ax_step L xs) ((219, 435, 11, 396), [(0, .ref 0), (1, .ref s0), (2, .ref m), (3, .int (nI i))], [], h) post := by
  obtain ⟨hs0, hsn, hnn3, hnn, hgg1, hgg, hRg⟩ := id hC
  obtain ⟨TK, S, al, AL, M, hP, hR, hJ, hr1, hr2⟩ := hW
  obtain ⟨fs1, hg1⟩ := hP.cell
  obtain ⟨fs2, hg2⟩ := hR.cell
  refine ar_aload_n 436 d_219_435 rfl rfl ?_
  refine ar_aload_n 437 d_219_436 rfl rfl ?_
  refine ar_iload_n 438 d_219_437 rfl rfl ?_
  refine ar_iconst 439 (v := 1) d_219_438 rfl (by decide) ?_
  refine ar_iadd 440 d_219_439 rfl ?_
  refine ar_top (x' := nI (i + 1)) (nI_add i 1) ?_
  refine ar_sald 441 d_219_440 rfl (nI_in (by omega) (by omega)) ?_
  refine ar_top (x' := xs (i + 1)) (by rw [nI_clamp (by omega)]) ?_
  refine ar_aload_n 442 d_219_441 rfl rfl ?_
  refine ar_iload_n 443 d_219_442 rfl rfl ?_
  refine ar_iconst 444 (v := 2) d_219_443 rfl (by decide) ?_
  refine ar_iadd 445 d_219_444 rfl ?_
  refine ar_top (x' := nI (i + 2)) (nI_add i 2) ?_
  refine ar_sald 446 d_219_445 rfl (nI_in (by omega) (by omega)) ?_
  refine ar_top (x' := xs (i + 2)) (by rw [nI_clamp (by omega)]) ?_
  refine ar_aload_n 447 d_219_446 rfl rfl ?_
  refine ar_iload_n 448 d_219_447 rfl rfl ?_
  refine ar_iconst 449 (v := 3) d_219_448 rfl (by decide) ?_
  refine ar_iadd 450 d_219_449 rfl ?_
  refine ar_top (x' := nI (i + 3)) (nI_add i 3) ?_
  refine ar_sald 451 d_219_450 rfl (nI_in (by omega) (by omega)) ?_
  refine ar_top (x' := xs (i + 3)) (by rw [nI_clamp (by omega)]) ?_
  refine ar_call (r := []) (na := 0) (kd := 0) (cm := 141) (fr2 := 11 - 1) (lo2 := 396 - 23) 454 d_219_451 (ar_hoV (as := [.int (xs (i + 1)), .int (xs (i + 2)), .int (xs (i + 3))]) rfl rfl rfl hg1) rfl (by omega) (show 396 - 23 + (19 + 4) = 396 by omega) (Nat.le_of_ble_eq_true rfl) (Nat.le_of_ble_eq_true rfl) (cz_141 (by omega) (by omega) hC hP) ?_
  intro v h2 hq
  obtain ⟨y1, S1, rfl, hP1, hz1, hq1⟩ := hq
  rw [← hm] at hz1
  have hR2 := hR.fr hz1
  obtain ⟨fs3, hg3⟩ := hP1.cell
  obtain ⟨fs4, hg4⟩ := hR2.cell
  refine ar_aload_n 455 d_219_454 rfl rfl ?_
  refine ar_aload_n 456 d_219_455 rfl rfl ?_
  refine ar_iload_n 457 d_219_456 rfl rfl ?_
  refine ar_iconst 458 (v := 1) d_219_457 rfl (by decide) ?_
  refine ar_iadd 459 d_219_458 rfl ?_
  refine ar_top (x' := nI (i + 1)) (nI_add i 1) ?_
  refine ar_sald 460 d_219_459 rfl (nI_in (by omega) (by omega)) ?_
  refine ar_top (x' := xs (i + 1)) (by rw [nI_clamp (by omega)]) ?_
  refine ar_aload_n 461 d_219_460 rfl rfl ?_
  refine ar_iload_n 462 d_219_461 rfl rfl ?_
  refine ar_iconst 463 (v := 2) d_219_462 rfl (by decide) ?_
  refine ar_iadd 464 d_219_463 rfl ?_
  refine ar_top (x' := nI (i + 2)) (nI_add i 2) ?_
  refine ar_sald 465 d_219_464 rfl (nI_in (by omega) (by omega)) ?_
  refine ar_top (x' := xs (i + 2)) (by rw [nI_clamp (by omega)]) ?_
  refine ar_aload_n 466 d_219_465 rfl rfl ?_
  refine ar_iload_n 467 d_219_466 rfl rfl ?_
  refine ar_iconst 468 (v := 3) d_219_467 rfl (by decide) ?_
  refine ar_iadd 469 d_219_468 rfl ?_
  refine ar_top (x' := nI (i + 3)) (nI_add i 3) ?_
  refine ar_sald 470 d_219_469 rfl (nI_in (by omega) (by omega)) ?_
  refine ar_top (x' := xs (i + 3)) (by rw [nI_clamp (by omega)]) ?_
  refine ar_call (r := [.int y1]) (na := 0) (kd := 0) (cm := 186) (fr2 := 11 - 1) (lo2 := 396 - 23) 473 d_219_470 (ar_hoV (as := [.int (xs (i + 1)), .int (xs (i + 2)), .int (xs (i + 3))]) rfl rfl rfl hg4) rfl (by omega) (show 396 - 23 + (19 + 4) = 396 by omega) (Nat.le_of_ble_eq_true rfl) (Nat.le_of_ble_eq_true rfl) (rq_186 (by omega) (by omega) hcc hnn hgg1 hgg hcl hR2) ?_
  intro v h3 hq
  obtain ⟨y2, al2, AL2, M2, rfl, hR3, hz2, hq2⟩ := hq
  obtain ⟨hye, hJ2⟩ := st_cr hHP hR.2.2.1.1 hJ hq1 hq2
  refine ar_icmp_eq 804 476 d_219_473 (by decide) rfl (fun _ => ?_) (fun c => absurd (hye) c)
  exact kk h3 ⟨TK, S1, al2, AL2, M2, hP1.fr hsn (by rw [← hm]; exact hz2.1), hR3, hJ2, by have := hz1.1; have := hz2.2.1; omega, by have := hz1.2.1; have := hz2.2.2; omega⟩
theorem lcX_10 {L : Nat} {xs : Nat → Int32} {s0 n nn gg cc m B1 B2 cl i : Nat} {h : ax_H} {f : Nat → Int32} {post : ax_Po} (hL : L < 2 ^ 31) (hi : i + 6 ≤ L) (hm : m = n + 329 + 22 * nn) (hC : CG s0 n nn gg f) (hcc : cc ≤ nn) (hcl : cl < 512) (hHP : HPm (nn, gg, nI cc, f) cc) (hW : LWX s0 n nn gg cc m B1 B2 cl f h) (kk : ∀ h', LWX s0 n nn gg cc m B1 B2 (cl + 1) f h' → ax_A (ax_step L xs) ((219, 804, 11, 396), [(0, .ref 0), (1, .ref s0), (2, .ref m), (3, .int (nI i))], [], h') post) : ax_A (ax_step L xs) ((219, 478, 11, 396), [(0, .ref 0), (1, .ref s0), (2, .ref m), (3, .int (nI i))], [], h) post := by
  obtain ⟨hs0, hsn, hnn3, hnn, hgg1, hgg, hRg⟩ := id hC
  obtain ⟨TK, S, al, AL, M, hP, hR, hJ, hr1, hr2⟩ := hW
  obtain ⟨fs1, hg1⟩ := hP.cell
  obtain ⟨fs2, hg2⟩ := hR.cell
  refine ar_aload_n 479 d_219_478 rfl rfl ?_
  refine ar_aload_n 480 d_219_479 rfl rfl ?_
  refine ar_iload_n 481 d_219_480 rfl rfl ?_
  refine ar_iconst 482 (v := 1) d_219_481 rfl (by decide) ?_
  refine ar_iadd 483 d_219_482 rfl ?_
  refine ar_top (x' := nI (i + 1)) (nI_add i 1) ?_
  refine ar_sald 484 d_219_483 rfl (nI_in (by omega) (by omega)) ?_
  refine ar_top (x' := xs (i + 1)) (by rw [nI_clamp (by omega)]) ?_
  refine ar_call (r := []) (na := 0) (kd := 0) (cm := 144) (fr2 := 11 - 1) (lo2 := 396 - 21) 487 d_219_484 (ar_hoV (as := [.int (xs (i + 1))]) rfl rfl rfl hg1) rfl (by omega) (show 396 - 21 + (19 + 2) = 396 by omega) (Nat.le_of_ble_eq_true rfl) (Nat.le_of_ble_eq_true rfl) (cz_144 (by omega) (by omega) hC hP) ?_
  intro v h2 hq
  obtain ⟨y1, S1, rfl, hP1, hz1, hq1⟩ := hq
  rw [← hm] at hz1
  have hR2 := hR.fr hz1
  obtain ⟨fs3, hg3⟩ := hP1.cell
  obtain ⟨fs4, hg4⟩ := hR2.cell
  refine ar_aload_n 488 d_219_487 rfl rfl ?_
  refine ar_aload_n 489 d_219_488 rfl rfl ?_
  refine ar_iload_n 490 d_219_489 rfl rfl ?_
  refine ar_iconst 491 (v := 1) d_219_490 rfl (by decide) ?_
  refine ar_iadd 492 d_219_491 rfl ?_
  refine ar_top (x' := nI (i + 1)) (nI_add i 1) ?_
  refine ar_sald 493 d_219_492 rfl (nI_in (by omega) (by omega)) ?_
  refine ar_top (x' := xs (i + 1)) (by rw [nI_clamp (by omega)]) ?_
  refine ar_call (r := [.int y1]) (na := 0) (kd := 0) (cm := 188) (fr2 := 11 - 1) (lo2 := 396 - 21) 496 d_219_493 (ar_hoV (as := [.int (xs (i + 1))]) rfl rfl rfl hg4) rfl (by omega) (show 396 - 21 + (19 + 2) = 396 by omega) (Nat.le_of_ble_eq_true rfl) (Nat.le_of_ble_eq_true rfl) (rq_188 (by omega) (by omega) hcc hnn hgg1 hgg hcl hR2) ?_
  intro v h3 hq
  obtain ⟨y2, al2, AL2, M2, rfl, hR3, hz2, hq2⟩ := hq
  obtain ⟨hye, hJ2⟩ := st_re hHP hR.2.2.1.1 hJ hq1 hq2
  refine ar_icmp_eq 804 499 d_219_496 (by decide) rfl (fun _ => ?_) (fun c => absurd (hye) c)
  exact kk h3 ⟨TK, S1, al2, AL2, M2, hP1.fr hsn (by rw [← hm]; exact hz2.1), hR3, hJ2, by have := hz1.1; have := hz2.2.1; omega, by have := hz1.2.1; have := hz2.2.2; omega⟩
theorem lcX_11 {L : Nat} {xs : Nat → Int32} {s0 n nn gg cc m B1 B2 cl i : Nat} {h : ax_H} {f : Nat → Int32} {post : ax_Po} (hL : L < 2 ^ 31) (hi : i + 6 ≤ L) (hm : m = n + 329 + 22 * nn) (hC : CG s0 n nn gg f) (hcc : cc ≤ nn) (hcl : cl < 512) (hHP : HPm (nn, gg, nI cc, f) cc) (hW : LWX s0 n nn gg cc m B1 B2 cl f h) (kk : ∀ h', LWX s0 n nn gg cc m B1 B2 (cl + 1) f h' → ax_A (ax_step L xs) ((219, 804, 11, 396), [(0, .ref 0), (1, .ref s0), (2, .ref m), (3, .int (nI i))], [], h') post) : ax_A (ax_step L xs) ((219, 501, 11, 396), [(0, .ref 0), (1, .ref s0), (2, .ref m), (3, .int (nI i))], [], h) post := by
  obtain ⟨hs0, hsn, hnn3, hnn, hgg1, hgg, hRg⟩ := id hC
  obtain ⟨TK, S, al, AL, M, hP, hR, hJ, hr1, hr2⟩ := hW
  obtain ⟨fs1, hg1⟩ := hP.cell
  obtain ⟨fs2, hg2⟩ := hR.cell
  refine ar_aload_n 502 d_219_501 rfl rfl ?_
  refine ar_aload_n 503 d_219_502 rfl rfl ?_
  refine ar_iload_n 504 d_219_503 rfl rfl ?_
  refine ar_iconst 505 (v := 1) d_219_504 rfl (by decide) ?_
  refine ar_iadd 506 d_219_505 rfl ?_
  refine ar_top (x' := nI (i + 1)) (nI_add i 1) ?_
  refine ar_sald 507 d_219_506 rfl (nI_in (by omega) (by omega)) ?_
  refine ar_top (x' := xs (i + 1)) (by rw [nI_clamp (by omega)]) ?_
  refine ar_call (r := []) (na := 0) (kd := 0) (cm := 145) (fr2 := 11 - 1) (lo2 := 396 - 21) 510 d_219_507 (ar_hoV (as := [.int (xs (i + 1))]) rfl rfl rfl hg1) rfl (by omega) (show 396 - 21 + (19 + 2) = 396 by omega) (Nat.le_of_ble_eq_true rfl) (Nat.le_of_ble_eq_true rfl) (cx_145 (by omega) (by omega) hC hP) ?_
  intro v h2 hq
  obtain ⟨y1, S1, rfl, hP1, hz1, hq1⟩ := hq
  rw [← hm] at hz1
  have hR2 := hR.fr hz1
  obtain ⟨fs3, hg3⟩ := hP1.cell
  obtain ⟨fs4, hg4⟩ := hR2.cell
  refine ar_aload_n 511 d_219_510 rfl rfl ?_
  refine ar_aload_n 512 d_219_511 rfl rfl ?_
  refine ar_iload_n 513 d_219_512 rfl rfl ?_
  refine ar_iconst 514 (v := 1) d_219_513 rfl (by decide) ?_
  refine ar_iadd 515 d_219_514 rfl ?_
  refine ar_top (x' := nI (i + 1)) (nI_add i 1) ?_
  refine ar_sald 516 d_219_515 rfl (nI_in (by omega) (by omega)) ?_
  refine ar_top (x' := xs (i + 1)) (by rw [nI_clamp (by omega)]) ?_
  refine ar_call (r := [.int y1]) (na := 0) (kd := 0) (cm := 190) (fr2 := 11 - 1) (lo2 := 396 - 21) 519 d_219_516 (ar_hoV (as := [.int (xs (i + 1))]) rfl rfl rfl hg4) rfl (by omega) (show 396 - 21 + (19 + 2) = 396 by omega) (Nat.le_of_ble_eq_true rfl) (Nat.le_of_ble_eq_true rfl) (rq_190 (by omega) (by omega) hcc hnn hgg1 hgg hcl hR2) ?_
  intro v h3 hq
  obtain ⟨y2, al2, AL2, M2, rfl, hR3, hz2, hq2⟩ := hq
  obtain ⟨hye, hJ2⟩ := st_ma hHP (by omega) hR.2.2.1.1 hJ hq1 hq2
  refine ar_icmp_eq 804 522 d_219_519 (by decide) rfl (fun _ => ?_) (fun c => absurd (hye) c)
  exact kk h3 ⟨TK, S1, al2, AL2, M2, hP1.fr hsn (by rw [← hm]; exact hz2.1), hR3, hJ2, by have := hz1.1; have := hz2.2.1; omega, by have := hz1.2.1; have := hz2.2.2; omega⟩
theorem lcX_12 {L : Nat} {xs : Nat → Int32} {s0 n nn gg cc m B1 B2 cl i : Nat} {h : ax_H} {f : Nat → Int32} {post : ax_Po} (hL : L < 2 ^ 31) (hi : i + 6 ≤ L) (hm : m = n + 329 + 22 * nn) (hC : CG s0 n nn gg f) (hcc : cc ≤ nn) (hcl : cl < 512) (hHP : HPm (nn, gg, nI cc, f) cc) (hW : LWX s0 n nn gg cc m B1 B2 cl f h) (kk : ∀ h', LWX s0 n nn gg cc m B1 B2 (cl + 1) f h' → ax_A (ax_step L xs) ((219, 804, 11, 396), [(0, .ref 0), (1, .ref s0), (2, .ref m), (3, .int (nI i))], [], h') post) : ax_A (ax_step L xs) ((219, 524, 11, 396), [(0, .ref 0), (1, .ref s0), (2, .ref m), (3, .int (nI i))], [], h) post := by
  obtain ⟨hs0, hsn, hnn3, hnn, hgg1, hgg, hRg⟩ := id hC
  obtain ⟨TK, S, al, AL, M, hP, hR, hJ, hr1, hr2⟩ := hW
  obtain ⟨fs1, hg1⟩ := hP.cell
  obtain ⟨fs2, hg2⟩ := hR.cell
  refine ar_aload_n 525 d_219_524 rfl rfl ?_
  refine ar_aload_n 526 d_219_525 rfl rfl ?_
  refine ar_iload_n 527 d_219_526 rfl rfl ?_
  refine ar_iconst 528 (v := 1) d_219_527 rfl (by decide) ?_
  refine ar_iadd 529 d_219_528 rfl ?_
  refine ar_top (x' := nI (i + 1)) (nI_add i 1) ?_
  refine ar_sald 530 d_219_529 rfl (nI_in (by omega) (by omega)) ?_
  refine ar_top (x' := xs (i + 1)) (by rw [nI_clamp (by omega)]) ?_
  refine ar_call (r := []) (na := 0) (kd := 0) (cm := 148) (fr2 := 11 - 1) (lo2 := 396 - 21) 533 d_219_530 (ar_hoV (as := [.int (xs (i + 1))]) rfl rfl rfl hg1) rfl (by omega) (show 396 - 21 + (19 + 2) = 396 by omega) (Nat.le_of_ble_eq_true rfl) (Nat.le_of_ble_eq_true rfl) (cx_148 (by omega) (by omega) hC hP) ?_
  intro v h2 hq
  obtain ⟨y1, S1, rfl, hP1, hz1, hq1⟩ := hq
  rw [← hm] at hz1
  have hR2 := hR.fr hz1
  obtain ⟨fs3, hg3⟩ := hP1.cell
  obtain ⟨fs4, hg4⟩ := hR2.cell
  refine ar_aload_n 534 d_219_533 rfl rfl ?_
  refine ar_aload_n 535 d_219_534 rfl rfl ?_
  refine ar_iload_n 536 d_219_535 rfl rfl ?_
  refine ar_iconst 537 (v := 1) d_219_536 rfl (by decide) ?_
  refine ar_iadd 538 d_219_537 rfl ?_
  refine ar_top (x' := nI (i + 1)) (nI_add i 1) ?_
  refine ar_sald 539 d_219_538 rfl (nI_in (by omega) (by omega)) ?_
  refine ar_top (x' := xs (i + 1)) (by rw [nI_clamp (by omega)]) ?_
  refine ar_call (r := [.int y1]) (na := 0) (kd := 0) (cm := 191) (fr2 := 11 - 1) (lo2 := 396 - 21) 542 d_219_539 (ar_hoV (as := [.int (xs (i + 1))]) rfl rfl rfl hg4) rfl (by omega) (show 396 - 21 + (19 + 2) = 396 by omega) (Nat.le_of_ble_eq_true rfl) (Nat.le_of_ble_eq_true rfl) (rq_191 (by omega) (by omega) hcc hnn hgg1 hgg hcl hR2) ?_
  intro v h3 hq
  obtain ⟨y2, al2, AL2, M2, rfl, hR3, hz2, hq2⟩ := hq
  obtain ⟨hye, hJ2⟩ := st_rp hHP (by omega) hR.2.2.1.1 hR.2.2.1.2.1 hJ hq1 hq2
  refine ar_icmp_eq 804 545 d_219_542 (by decide) rfl (fun _ => ?_) (fun c => absurd (hye) c)
  exact kk h3 ⟨TK, S1, al2, AL2, M2, hP1.fr hsn (by rw [← hm]; exact hz2.1), hR3, hJ2, by have := hz1.1; have := hz2.2.1; omega, by have := hz1.2.1; have := hz2.2.2; omega⟩
theorem lcX_13 {L : Nat} {xs : Nat → Int32} {s0 n nn gg cc m B1 B2 cl i : Nat} {h : ax_H} {f : Nat → Int32} {post : ax_Po} (hL : L < 2 ^ 31) (hi : i + 6 ≤ L) (hm : m = n + 329 + 22 * nn) (hC : CG s0 n nn gg f) (hcc : cc ≤ nn) (hcl : cl < 512) (hHP : HPm (nn, gg, nI cc, f) cc) (hW : LWX s0 n nn gg cc m B1 B2 cl f h) (kk : ∀ h', LWX s0 n nn gg cc m B1 B2 (cl + 1) f h' → ax_A (ax_step L xs) ((219, 804, 11, 396), [(0, .ref 0), (1, .ref s0), (2, .ref m), (3, .int (nI i))], [], h') post) : ax_A (ax_step L xs) ((219, 547, 11, 396), [(0, .ref 0), (1, .ref s0), (2, .ref m), (3, .int (nI i))], [], h) post := by
  obtain ⟨hs0, hsn, hnn3, hnn, hgg1, hgg, hRg⟩ := id hC
  obtain ⟨TK, S, al, AL, M, hP, hR, hJ, hr1, hr2⟩ := hW
  obtain ⟨fs1, hg1⟩ := hP.cell
  obtain ⟨fs2, hg2⟩ := hR.cell
  refine ar_aload_n 548 d_219_547 rfl rfl ?_
  obtain ⟨ops, sn, wt, b1, b2, b3, b4, b5, b6, b7, hJ9⟩ := hJ.se
  refine ar_call (r := []) (na := 0) (kd := 0) (cm := 150) (fr2 := 11 - 1) (lo2 := 396 - 23) 551 d_219_548 (ar_hoV (as := []) rfl rfl rfl hg1) rfl (by omega) (show 396 - 23 + (19 + 4) = 396 by omega) (Nat.le_of_ble_eq_true rfl) (Nat.le_of_ble_eq_true rfl) (cx_150 (by omega) (by omega) hC hP) ?_
  intro v h2 hq
  obtain ⟨y1, S1, TK1, rfl, hP1, hz1, hq1⟩ := hq
  rw [← hm] at hz1
  have hR2 := hR.fr hz1
  obtain ⟨fs3, hg3⟩ := hP1.cell
  obtain ⟨fs4, hg4⟩ := hR2.cell
  refine ar_aload_n 552 d_219_551 rfl rfl ?_
  refine ar_call (r := [.int y1]) (na := 0) (kd := 0) (cm := 192) (fr2 := 11 - 1) (lo2 := 396 - 25) 555 d_219_552 (ar_hoV (as := []) rfl rfl rfl hg4) rfl (by omega) (show 396 - 25 + (19 + 6) = 396 by omega) (Nat.le_of_ble_eq_true rfl) (Nat.le_of_ble_eq_true rfl) (rq_192 (by omega) (by omega) hcc hnn hgg1 hgg hcl hR2 b1 b2 b3 b4 b5 b6 b7) ?_
  intro v h3 hq
  obtain ⟨y2, al2, AL2, M2, rfl, hR3, hz2, hq2⟩ := hq
  obtain ⟨hye, hJ2⟩ := st_sl hHP (by omega) hJ9 hq1 hq2
  refine ar_icmp_eq 804 558 d_219_555 (by decide) rfl (fun _ => ?_) (fun c => absurd (hye) c)
  exact kk h3 ⟨TK1, S1, al2, AL2, M2, hP1.fr hsn (by rw [← hm]; exact hz2.1), hR3, hJ2, by have := hz1.1; have := hz2.2.1; omega, by have := hz1.2.1; have := hz2.2.2; omega⟩
theorem lcX_14 {L : Nat} {xs : Nat → Int32} {s0 n nn gg cc m B1 B2 cl i : Nat} {h : ax_H} {f : Nat → Int32} {post : ax_Po} (hL : L < 2 ^ 31) (hi : i + 6 ≤ L) (hm : m = n + 329 + 22 * nn) (hC : CG s0 n nn gg f) (hcc : cc ≤ nn) (hcl : cl < 512) (hHP : HPm (nn, gg, nI cc, f) cc) (hW : LWX s0 n nn gg cc m B1 B2 cl f h) (kk : ∀ h', LWX s0 n nn gg cc m B1 B2 (cl + 1) f h' → ax_A (ax_step L xs) ((219, 804, 11, 396), [(0, .ref 0), (1, .ref s0), (2, .ref m), (3, .int (nI i))], [], h') post) : ax_A (ax_step L xs) ((219, 560, 11, 396), [(0, .ref 0), (1, .ref s0), (2, .ref m), (3, .int (nI i))], [], h) post := by
  obtain ⟨hs0, hsn, hnn3, hnn, hgg1, hgg, hRg⟩ := id hC
  obtain ⟨TK, S, al, AL, M, hP, hR, hJ, hr1, hr2⟩ := hW
  obtain ⟨fs1, hg1⟩ := hP.cell
  obtain ⟨fs2, hg2⟩ := hR.cell
  refine ar_aload_n 561 d_219_560 rfl rfl ?_
  refine ar_aload_n 562 d_219_561 rfl rfl ?_
  refine ar_iload_n 563 d_219_562 rfl rfl ?_
  refine ar_iconst 564 (v := 1) d_219_563 rfl (by decide) ?_
  refine ar_iadd 565 d_219_564 rfl ?_
  refine ar_top (x' := nI (i + 1)) (nI_add i 1) ?_
  refine ar_sald 566 d_219_565 rfl (nI_in (by omega) (by omega)) ?_
  refine ar_top (x' := xs (i + 1)) (by rw [nI_clamp (by omega)]) ?_
  refine ar_call (r := []) (na := 0) (kd := 0) (cm := 160) (fr2 := 11 - 1) (lo2 := 396 - 21) 569 d_219_566 (ar_hoV (as := [.int (xs (i + 1))]) rfl rfl rfl hg1) rfl (by omega) (show 396 - 21 + (19 + 2) = 396 by omega) (Nat.le_of_ble_eq_true rfl) (Nat.le_of_ble_eq_true rfl) (cx_160 (by omega) (by omega) hC hP) ?_
  intro v h2 hq
  obtain ⟨y1, S1, rfl, hP1, hz1, hq1⟩ := hq
  rw [← hm] at hz1
  have hR2 := hR.fr hz1
  obtain ⟨fs3, hg3⟩ := hP1.cell
  obtain ⟨fs4, hg4⟩ := hR2.cell
  refine ar_aload_n 570 d_219_569 rfl rfl ?_
  refine ar_aload_n 571 d_219_570 rfl rfl ?_
  refine ar_iload_n 572 d_219_571 rfl rfl ?_
  refine ar_iconst 573 (v := 1) d_219_572 rfl (by decide) ?_
  refine ar_iadd 574 d_219_573 rfl ?_
  refine ar_top (x' := nI (i + 1)) (nI_add i 1) ?_
  refine ar_sald 575 d_219_574 rfl (nI_in (by omega) (by omega)) ?_
  refine ar_top (x' := xs (i + 1)) (by rw [nI_clamp (by omega)]) ?_
  refine ar_call (r := [.int y1]) (na := 0) (kd := 0) (cm := 208) (fr2 := 11 - 1) (lo2 := 396 - 21) 578 d_219_575 (ar_hoV (as := [.int (xs (i + 1))]) rfl rfl rfl hg4) rfl (by omega) (show 396 - 21 + (19 + 2) = 396 by omega) (Nat.le_of_ble_eq_true rfl) (Nat.le_of_ble_eq_true rfl) (rq_208 (by omega) (by omega) hcc hnn hgg1 hgg hcl hR2) ?_
  intro v h3 hq
  obtain ⟨y2, al2, AL2, M2, rfl, hR3, hz2, hq2⟩ := hq
  obtain ⟨hye, hJ2⟩ := st_an hJ hq1 hq2
  refine ar_icmp_eq 804 581 d_219_578 (by decide) rfl (fun _ => ?_) (fun c => absurd (hye) c)
  exact kk h3 ⟨TK, S1, al2, AL2, M2, hP1.fr hsn (by rw [← hm]; exact hz2.1), hR3, hJ2, by have := hz1.1; have := hz2.2.1; omega, by have := hz1.2.1; have := hz2.2.2; omega⟩
theorem lcX_15 {L : Nat} {xs : Nat → Int32} {s0 n nn gg cc m B1 B2 cl i : Nat} {h : ax_H} {f : Nat → Int32} {post : ax_Po} (hL : L < 2 ^ 31) (hi : i + 6 ≤ L) (hm : m = n + 329 + 22 * nn) (hC : CG s0 n nn gg f) (hcc : cc ≤ nn) (hcl : cl < 512) (hHP : HPm (nn, gg, nI cc, f) cc) (hW : LWX s0 n nn gg cc m B1 B2 cl f h) (kk : ∀ h', LWX s0 n nn gg cc m B1 B2 (cl + 1) f h' → ax_A (ax_step L xs) ((219, 804, 11, 396), [(0, .ref 0), (1, .ref s0), (2, .ref m), (3, .int (nI i))], [], h') post) : ax_A (ax_step L xs) ((219, 583, 11, 396), [(0, .ref 0), (1, .ref s0), (2, .ref m), (3, .int (nI i))], [], h) post := by
  obtain ⟨hs0, hsn, hnn3, hnn, hgg1, hgg, hRg⟩ := id hC
  obtain ⟨TK, S, al, AL, M, hP, hR, hJ, hr1, hr2⟩ := hW
  obtain ⟨fs1, hg1⟩ := hP.cell
  obtain ⟨fs2, hg2⟩ := hR.cell
  refine ar_aload_n 584 d_219_583 rfl rfl ?_
  refine ar_aload_n 585 d_219_584 rfl rfl ?_
  refine ar_iload_n 586 d_219_585 rfl rfl ?_
  refine ar_iconst 587 (v := 1) d_219_586 rfl (by decide) ?_
  refine ar_iadd 588 d_219_587 rfl ?_
  refine ar_top (x' := nI (i + 1)) (nI_add i 1) ?_
  refine ar_sald 589 d_219_588 rfl (nI_in (by omega) (by omega)) ?_
  refine ar_top (x' := xs (i + 1)) (by rw [nI_clamp (by omega)]) ?_
  refine ar_aload_n 590 d_219_589 rfl rfl ?_
  refine ar_iload_n 591 d_219_590 rfl rfl ?_
  refine ar_iconst 592 (v := 2) d_219_591 rfl (by decide) ?_
  refine ar_iadd 593 d_219_592 rfl ?_
  refine ar_top (x' := nI (i + 2)) (nI_add i 2) ?_
  refine ar_sald 594 d_219_593 rfl (nI_in (by omega) (by omega)) ?_
  refine ar_top (x' := xs (i + 2)) (by rw [nI_clamp (by omega)]) ?_
  refine ar_call (r := []) (na := 0) (kd := 0) (cm := 161) (fr2 := 11 - 1) (lo2 := 396 - 23) 597 d_219_594 (ar_hoV (as := [.int (xs (i + 1)), .int (xs (i + 2))]) rfl rfl rfl hg1) rfl (by omega) (show 396 - 23 + (19 + 4) = 396 by omega) (Nat.le_of_ble_eq_true rfl) (Nat.le_of_ble_eq_true rfl) (cx_161 (by omega) (by omega) hC hP) ?_
  intro v h2 hq
  obtain ⟨y1, S1, rfl, hP1, hz1, hq1⟩ := hq
  rw [← hm] at hz1
  have hR2 := hR.fr hz1
  obtain ⟨fs3, hg3⟩ := hP1.cell
  obtain ⟨fs4, hg4⟩ := hR2.cell
  refine ar_aload_n 598 d_219_597 rfl rfl ?_
  refine ar_aload_n 599 d_219_598 rfl rfl ?_
  refine ar_iload_n 600 d_219_599 rfl rfl ?_
  refine ar_iconst 601 (v := 1) d_219_600 rfl (by decide) ?_
  refine ar_iadd 602 d_219_601 rfl ?_
  refine ar_top (x' := nI (i + 1)) (nI_add i 1) ?_
  refine ar_sald 603 d_219_602 rfl (nI_in (by omega) (by omega)) ?_
  refine ar_top (x' := xs (i + 1)) (by rw [nI_clamp (by omega)]) ?_
  refine ar_aload_n 604 d_219_603 rfl rfl ?_
  refine ar_iload_n 605 d_219_604 rfl rfl ?_
  refine ar_iconst 606 (v := 2) d_219_605 rfl (by decide) ?_
  refine ar_iadd 607 d_219_606 rfl ?_
  refine ar_top (x' := nI (i + 2)) (nI_add i 2) ?_
  refine ar_sald 608 d_219_607 rfl (nI_in (by omega) (by omega)) ?_
  refine ar_top (x' := xs (i + 2)) (by rw [nI_clamp (by omega)]) ?_
  refine ar_call (r := [.int y1]) (na := 0) (kd := 0) (cm := 209) (fr2 := 11 - 1) (lo2 := 396 - 23) 611 d_219_608 (ar_hoV (as := [.int (xs (i + 1)), .int (xs (i + 2))]) rfl rfl rfl hg4) rfl (by omega) (show 396 - 23 + (19 + 4) = 396 by omega) (Nat.le_of_ble_eq_true rfl) (Nat.le_of_ble_eq_true rfl) (rq_209 (by omega) (by omega) hcc hnn hgg1 hgg hcl hR2) ?_
  intro v h3 hq
  obtain ⟨y2, al2, AL2, M2, rfl, hR3, hz2, hq2⟩ := hq
  obtain ⟨hye, hJ2⟩ := st_td hJ hq1 hq2
  refine ar_icmp_eq 804 614 d_219_611 (by decide) rfl (fun _ => ?_) (fun c => absurd (hye) c)
  exact kk h3 ⟨TK, S1, al2, AL2, M2, hP1.fr hsn (by rw [← hm]; exact hz2.1), hR3, hJ2, by have := hz1.1; have := hz2.2.1; omega, by have := hz1.2.1; have := hz2.2.2; omega⟩
theorem lcX_16 {L : Nat} {xs : Nat → Int32} {s0 n nn gg cc m B1 B2 cl i : Nat} {h : ax_H} {f : Nat → Int32} {post : ax_Po} (hL : L < 2 ^ 31) (hi : i + 6 ≤ L) (hm : m = n + 329 + 22 * nn) (hC : CG s0 n nn gg f) (hcc : cc ≤ nn) (hcl : cl < 512) (hHP : HPm (nn, gg, nI cc, f) cc) (hW : LWX s0 n nn gg cc m B1 B2 cl f h) (kk : ∀ h', LWX s0 n nn gg cc m B1 B2 (cl + 1) f h' → ax_A (ax_step L xs) ((219, 804, 11, 396), [(0, .ref 0), (1, .ref s0), (2, .ref m), (3, .int (nI i))], [], h') post) : ax_A (ax_step L xs) ((219, 616, 11, 396), [(0, .ref 0), (1, .ref s0), (2, .ref m), (3, .int (nI i))], [], h) post := by
  obtain ⟨hs0, hsn, hnn3, hnn, hgg1, hgg, hRg⟩ := id hC
  obtain ⟨TK, S, al, AL, M, hP, hR, hJ, hr1, hr2⟩ := hW
  obtain ⟨fs1, hg1⟩ := hP.cell
  obtain ⟨fs2, hg2⟩ := hR.cell
  refine ar_aload_n 617 d_219_616 rfl rfl ?_
  refine ar_aload_n 618 d_219_617 rfl rfl ?_
  refine ar_iload_n 619 d_219_618 rfl rfl ?_
  refine ar_iconst 620 (v := 1) d_219_619 rfl (by decide) ?_
  refine ar_iadd 621 d_219_620 rfl ?_
  refine ar_top (x' := nI (i + 1)) (nI_add i 1) ?_
  refine ar_sald 622 d_219_621 rfl (nI_in (by omega) (by omega)) ?_
  refine ar_top (x' := xs (i + 1)) (by rw [nI_clamp (by omega)]) ?_
  refine ar_aload_n 623 d_219_622 rfl rfl ?_
  refine ar_iload_n 624 d_219_623 rfl rfl ?_
  refine ar_iconst 625 (v := 2) d_219_624 rfl (by decide) ?_
  refine ar_iadd 626 d_219_625 rfl ?_
  refine ar_top (x' := nI (i + 2)) (nI_add i 2) ?_
  refine ar_sald 627 d_219_626 rfl (nI_in (by omega) (by omega)) ?_
  refine ar_top (x' := xs (i + 2)) (by rw [nI_clamp (by omega)]) ?_
  refine ar_call (r := []) (na := 0) (kd := 0) (cm := 163) (fr2 := 11 - 1) (lo2 := 396 - 23) 630 d_219_627 (ar_hoV (as := [.int (xs (i + 1)), .int (xs (i + 2))]) rfl rfl rfl hg1) rfl (by omega) (show 396 - 23 + (19 + 4) = 396 by omega) (Nat.le_of_ble_eq_true rfl) (Nat.le_of_ble_eq_true rfl) (cx_163 (by omega) (by omega) hC hP) ?_
  intro v h2 hq
  obtain ⟨y1, S1, rfl, hP1, hz1, hq1⟩ := hq
  rw [← hm] at hz1
  have hR2 := hR.fr hz1
  obtain ⟨fs3, hg3⟩ := hP1.cell
  obtain ⟨fs4, hg4⟩ := hR2.cell
  refine ar_aload_n 631 d_219_630 rfl rfl ?_
  refine ar_aload_n 632 d_219_631 rfl rfl ?_
  refine ar_iload_n 633 d_219_632 rfl rfl ?_
  refine ar_iconst 634 (v := 1) d_219_633 rfl (by decide) ?_
  refine ar_iadd 635 d_219_634 rfl ?_
  refine ar_top (x' := nI (i + 1)) (nI_add i 1) ?_
  refine ar_sald 636 d_219_635 rfl (nI_in (by omega) (by omega)) ?_
  refine ar_top (x' := xs (i + 1)) (by rw [nI_clamp (by omega)]) ?_
  refine ar_aload_n 637 d_219_636 rfl rfl ?_
  refine ar_iload_n 638 d_219_637 rfl rfl ?_
  refine ar_iconst 639 (v := 2) d_219_638 rfl (by decide) ?_
  refine ar_iadd 640 d_219_639 rfl ?_
  refine ar_top (x' := nI (i + 2)) (nI_add i 2) ?_
  refine ar_sald 641 d_219_640 rfl (nI_in (by omega) (by omega)) ?_
  refine ar_top (x' := xs (i + 2)) (by rw [nI_clamp (by omega)]) ?_
  refine ar_call (r := [.int y1]) (na := 0) (kd := 0) (cm := 210) (fr2 := 11 - 1) (lo2 := 396 - 23) 644 d_219_641 (ar_hoV (as := [.int (xs (i + 1)), .int (xs (i + 2))]) rfl rfl rfl hg4) rfl (by omega) (show 396 - 23 + (19 + 4) = 396 by omega) (Nat.le_of_ble_eq_true rfl) (Nat.le_of_ble_eq_true rfl) (rq_210 (by omega) (by omega) hcc hnn hgg1 hgg hcl hR2) ?_
  intro v h3 hq
  obtain ⟨y2, al2, AL2, M2, rfl, hR3, hz2, hq2⟩ := hq
  obtain ⟨hye, hJ2⟩ := st_fi hJ hq1 hq2
  refine ar_icmp_eq 804 647 d_219_644 (by decide) rfl (fun _ => ?_) (fun c => absurd (hye) c)
  exact kk h3 ⟨TK, S1, al2, AL2, M2, hP1.fr hsn (by rw [← hm]; exact hz2.1), hR3, hJ2, by have := hz1.1; have := hz2.2.1; omega, by have := hz1.2.1; have := hz2.2.2; omega⟩
theorem lcX_17 {L : Nat} {xs : Nat → Int32} {s0 n nn gg cc m B1 B2 cl i : Nat} {h : ax_H} {f : Nat → Int32} {post : ax_Po} (hL : L < 2 ^ 31) (hi : i + 6 ≤ L) (hm : m = n + 329 + 22 * nn) (hC : CG s0 n nn gg f) (hcc : cc ≤ nn) (hcl : cl < 512) (hHP : HPm (nn, gg, nI cc, f) cc) (hW : LWX s0 n nn gg cc m B1 B2 cl f h) (kk : ∀ h', LWX s0 n nn gg cc m B1 B2 (cl + 1) f h' → ax_A (ax_step L xs) ((219, 804, 11, 396), [(0, .ref 0), (1, .ref s0), (2, .ref m), (3, .int (nI i))], [], h') post) : ax_A (ax_step L xs) ((219, 649, 11, 396), [(0, .ref 0), (1, .ref s0), (2, .ref m), (3, .int (nI i))], [], h) post := by
  obtain ⟨hs0, hsn, hnn3, hnn, hgg1, hgg, hRg⟩ := id hC
  obtain ⟨TK, S, al, AL, M, hP, hR, hJ, hr1, hr2⟩ := hW
  obtain ⟨fs1, hg1⟩ := hP.cell
  obtain ⟨fs2, hg2⟩ := hR.cell
  refine ar_aload_n 650 d_219_649 rfl rfl ?_
  refine ar_aload_n 651 d_219_650 rfl rfl ?_
  refine ar_iload_n 652 d_219_651 rfl rfl ?_
  refine ar_iconst 653 (v := 1) d_219_652 rfl (by decide) ?_
  refine ar_iadd 654 d_219_653 rfl ?_
  refine ar_top (x' := nI (i + 1)) (nI_add i 1) ?_
  refine ar_sald 655 d_219_654 rfl (nI_in (by omega) (by omega)) ?_
  refine ar_top (x' := xs (i + 1)) (by rw [nI_clamp (by omega)]) ?_
  refine ar_aload_n 656 d_219_655 rfl rfl ?_
  refine ar_iload_n 657 d_219_656 rfl rfl ?_
  refine ar_iconst 658 (v := 2) d_219_657 rfl (by decide) ?_
  refine ar_iadd 659 d_219_658 rfl ?_
  refine ar_top (x' := nI (i + 2)) (nI_add i 2) ?_
  refine ar_sald 660 d_219_659 rfl (nI_in (by omega) (by omega)) ?_
  refine ar_top (x' := xs (i + 2)) (by rw [nI_clamp (by omega)]) ?_
  refine ar_aload_n 661 d_219_660 rfl rfl ?_
  refine ar_iload_n 662 d_219_661 rfl rfl ?_
  refine ar_iconst 663 (v := 3) d_219_662 rfl (by decide) ?_
  refine ar_iadd 664 d_219_663 rfl ?_
  refine ar_top (x' := nI (i + 3)) (nI_add i 3) ?_
  refine ar_sald 665 d_219_664 rfl (nI_in (by omega) (by omega)) ?_
  refine ar_top (x' := xs (i + 3)) (by rw [nI_clamp (by omega)]) ?_
  refine ar_call (r := []) (na := 0) (kd := 0) (cm := 164) (fr2 := 11 - 1) (lo2 := 396 - 24) 668 d_219_665 (ar_hoV (as := [.int (xs (i + 1)), .int (xs (i + 2)), .int (xs (i + 3))]) rfl rfl rfl hg1) rfl (by omega) (show 396 - 24 + (19 + 5) = 396 by omega) (Nat.le_of_ble_eq_true rfl) (Nat.le_of_ble_eq_true rfl) (cx_164 (by omega) (by omega) hC hP) ?_
  intro v h2 hq
  obtain ⟨y1, S1, rfl, hP1, hz1, hq1⟩ := hq
  rw [← hm] at hz1
  have hR2 := hR.fr hz1
  obtain ⟨fs3, hg3⟩ := hP1.cell
  obtain ⟨fs4, hg4⟩ := hR2.cell
  refine ar_aload_n 669 d_219_668 rfl rfl ?_
  refine ar_aload_n 670 d_219_669 rfl rfl ?_
  refine ar_iload_n 671 d_219_670 rfl rfl ?_
  refine ar_iconst 672 (v := 1) d_219_671 rfl (by decide) ?_
  refine ar_iadd 673 d_219_672 rfl ?_
  refine ar_top (x' := nI (i + 1)) (nI_add i 1) ?_
  refine ar_sald 674 d_219_673 rfl (nI_in (by omega) (by omega)) ?_
  refine ar_top (x' := xs (i + 1)) (by rw [nI_clamp (by omega)]) ?_
  refine ar_aload_n 675 d_219_674 rfl rfl ?_
  refine ar_iload_n 676 d_219_675 rfl rfl ?_
  refine ar_iconst 677 (v := 2) d_219_676 rfl (by decide) ?_
  refine ar_iadd 678 d_219_677 rfl ?_
  refine ar_top (x' := nI (i + 2)) (nI_add i 2) ?_
  refine ar_sald 679 d_219_678 rfl (nI_in (by omega) (by omega)) ?_
  refine ar_top (x' := xs (i + 2)) (by rw [nI_clamp (by omega)]) ?_
  refine ar_aload_n 680 d_219_679 rfl rfl ?_
  refine ar_iload_n 681 d_219_680 rfl rfl ?_
  refine ar_iconst 682 (v := 3) d_219_681 rfl (by decide) ?_
  refine ar_iadd 683 d_219_682 rfl ?_
  refine ar_top (x' := nI (i + 3)) (nI_add i 3) ?_
  refine ar_sald 684 d_219_683 rfl (nI_in (by omega) (by omega)) ?_
  refine ar_top (x' := xs (i + 3)) (by rw [nI_clamp (by omega)]) ?_
  refine ar_call (r := [.int y1]) (na := 0) (kd := 0) (cm := 211) (fr2 := 11 - 1) (lo2 := 396 - 24) 687 d_219_684 (ar_hoV (as := [.int (xs (i + 1)), .int (xs (i + 2)), .int (xs (i + 3))]) rfl rfl rfl hg4) rfl (by omega) (show 396 - 24 + (19 + 5) = 396 by omega) (Nat.le_of_ble_eq_true rfl) (Nat.le_of_ble_eq_true rfl) (rq_211 (by omega) (by omega) hcc hnn hgg1 hgg hcl hR2) ?_
  intro v h3 hq
  obtain ⟨y2, al2, AL2, M2, rfl, hR3, hz2, hq2⟩ := hq
  obtain ⟨hye, hJ2⟩ := st_wh hHP hR.2.2.1.2.1 hJ hq1 hq2
  refine ar_icmp_eq 804 690 d_219_687 (by decide) rfl (fun _ => ?_) (fun c => absurd (hye) c)
  exact kk h3 ⟨TK, S1, al2, AL2, M2, hP1.fr hsn (by rw [← hm]; exact hz2.1), hR3, hJ2, by have := hz1.1; have := hz2.2.1; omega, by have := hz1.2.1; have := hz2.2.2; omega⟩
theorem lcX_18 {L : Nat} {xs : Nat → Int32} {s0 n nn gg cc m B1 B2 cl i : Nat} {h : ax_H} {f : Nat → Int32} {post : ax_Po} (hL : L < 2 ^ 31) (hi : i + 6 ≤ L) (hm : m = n + 329 + 22 * nn) (hC : CG s0 n nn gg f) (hcc : cc ≤ nn) (hcl : cl < 512) (hHP : HPm (nn, gg, nI cc, f) cc) (hW : LWX s0 n nn gg cc m B1 B2 cl f h) (kk : ∀ h', LWX s0 n nn gg cc m B1 B2 (cl + 1) f h' → ax_A (ax_step L xs) ((219, 804, 11, 396), [(0, .ref 0), (1, .ref s0), (2, .ref m), (3, .int (nI i))], [], h') post) : ax_A (ax_step L xs) ((219, 692, 11, 396), [(0, .ref 0), (1, .ref s0), (2, .ref m), (3, .int (nI i))], [], h) post := by
  obtain ⟨hs0, hsn, hnn3, hnn, hgg1, hgg, hRg⟩ := id hC
  obtain ⟨TK, S, al, AL, M, hP, hR, hJ, hr1, hr2⟩ := hW
  obtain ⟨fs1, hg1⟩ := hP.cell
  obtain ⟨fs2, hg2⟩ := hR.cell
  refine ar_aload_n 693 d_219_692 rfl rfl ?_
  refine ar_aload_n 694 d_219_693 rfl rfl ?_
  refine ar_iload_n 695 d_219_694 rfl rfl ?_
  refine ar_iconst 696 (v := 1) d_219_695 rfl (by decide) ?_
  refine ar_iadd 697 d_219_696 rfl ?_
  refine ar_top (x' := nI (i + 1)) (nI_add i 1) ?_
  refine ar_sald 698 d_219_697 rfl (nI_in (by omega) (by omega)) ?_
  refine ar_top (x' := xs (i + 1)) (by rw [nI_clamp (by omega)]) ?_
  refine ar_aload_n 699 d_219_698 rfl rfl ?_
  refine ar_iload_n 700 d_219_699 rfl rfl ?_
  refine ar_iconst 701 (v := 2) d_219_700 rfl (by decide) ?_
  refine ar_iadd 702 d_219_701 rfl ?_
  refine ar_top (x' := nI (i + 2)) (nI_add i 2) ?_
  refine ar_sald 703 d_219_702 rfl (nI_in (by omega) (by omega)) ?_
  refine ar_top (x' := xs (i + 2)) (by rw [nI_clamp (by omega)]) ?_
  refine ar_aload_n 704 d_219_703 rfl rfl ?_
  refine ar_iload_n 705 d_219_704 rfl rfl ?_
  refine ar_iconst 706 (v := 3) d_219_705 rfl (by decide) ?_
  refine ar_iadd 707 d_219_706 rfl ?_
  refine ar_top (x' := nI (i + 3)) (nI_add i 3) ?_
  refine ar_sald 708 d_219_707 rfl (nI_in (by omega) (by omega)) ?_
  refine ar_top (x' := xs (i + 3)) (by rw [nI_clamp (by omega)]) ?_
  refine ar_aload_n 709 d_219_708 rfl rfl ?_
  refine ar_iload_n 710 d_219_709 rfl rfl ?_
  refine ar_iconst 711 (v := 4) d_219_710 rfl (by decide) ?_
  refine ar_iadd 712 d_219_711 rfl ?_
  refine ar_top (x' := nI (i + 4)) (nI_add i 4) ?_
  refine ar_sald 713 d_219_712 rfl (nI_in (by omega) (by omega)) ?_
  refine ar_top (x' := xs (i + 4)) (by rw [nI_clamp (by omega)]) ?_
  refine ar_call (r := []) (na := 0) (kd := 0) (cm := 166) (fr2 := 11 - 1) (lo2 := 396 - 27) 716 d_219_713 (ar_hoV (as := [.int (xs (i + 1)), .int (xs (i + 2)), .int (xs (i + 3)), .int (xs (i + 4))]) rfl rfl rfl hg1) rfl (by omega) (show 396 - 27 + (19 + 8) = 396 by omega) (Nat.le_of_ble_eq_true rfl) (Nat.le_of_ble_eq_true rfl) (cx_166 (by omega) (by omega) hC hP) ?_
  intro v h2 hq
  obtain ⟨y1, S1, rfl, hP1, hz1, hq1⟩ := hq
  rw [← hm] at hz1
  have hR2 := hR.fr hz1
  obtain ⟨fs3, hg3⟩ := hP1.cell
  obtain ⟨fs4, hg4⟩ := hR2.cell
  refine ar_aload_n 717 d_219_716 rfl rfl ?_
  refine ar_aload_n 718 d_219_717 rfl rfl ?_
  refine ar_iload_n 719 d_219_718 rfl rfl ?_
  refine ar_iconst 720 (v := 1) d_219_719 rfl (by decide) ?_
  refine ar_iadd 721 d_219_720 rfl ?_
  refine ar_top (x' := nI (i + 1)) (nI_add i 1) ?_
  refine ar_sald 722 d_219_721 rfl (nI_in (by omega) (by omega)) ?_
  refine ar_top (x' := xs (i + 1)) (by rw [nI_clamp (by omega)]) ?_
  refine ar_aload_n 723 d_219_722 rfl rfl ?_
  refine ar_iload_n 724 d_219_723 rfl rfl ?_
  refine ar_iconst 725 (v := 2) d_219_724 rfl (by decide) ?_
  refine ar_iadd 726 d_219_725 rfl ?_
  refine ar_top (x' := nI (i + 2)) (nI_add i 2) ?_
  refine ar_sald 727 d_219_726 rfl (nI_in (by omega) (by omega)) ?_
  refine ar_top (x' := xs (i + 2)) (by rw [nI_clamp (by omega)]) ?_
  refine ar_aload_n 728 d_219_727 rfl rfl ?_
  refine ar_iload_n 729 d_219_728 rfl rfl ?_
  refine ar_iconst 730 (v := 3) d_219_729 rfl (by decide) ?_
  refine ar_iadd 731 d_219_730 rfl ?_
  refine ar_top (x' := nI (i + 3)) (nI_add i 3) ?_
  refine ar_sald 732 d_219_731 rfl (nI_in (by omega) (by omega)) ?_
  refine ar_top (x' := xs (i + 3)) (by rw [nI_clamp (by omega)]) ?_
  refine ar_aload_n 733 d_219_732 rfl rfl ?_
  refine ar_iload_n 734 d_219_733 rfl rfl ?_
  refine ar_iconst 735 (v := 4) d_219_734 rfl (by decide) ?_
  refine ar_iadd 736 d_219_735 rfl ?_
  refine ar_top (x' := nI (i + 4)) (nI_add i 4) ?_
  refine ar_sald 737 d_219_736 rfl (nI_in (by omega) (by omega)) ?_
  refine ar_top (x' := xs (i + 4)) (by rw [nI_clamp (by omega)]) ?_
  refine ar_call (r := [.int y1]) (na := 0) (kd := 0) (cm := 214) (fr2 := 11 - 1) (lo2 := 396 - 26) 740 d_219_737 (ar_hoV (as := [.int (xs (i + 1)), .int (xs (i + 2)), .int (xs (i + 3)), .int (xs (i + 4))]) rfl rfl rfl hg4) rfl (by omega) (show 396 - 26 + (19 + 7) = 396 by omega) (Nat.le_of_ble_eq_true rfl) (Nat.le_of_ble_eq_true rfl) (rq_214 (by omega) (by omega) hcc hnn hgg1 hgg hcl hR2) ?_
  intro v h3 hq
  obtain ⟨y2, al2, AL2, M2, rfl, hR3, hz2, hq2⟩ := hq
  obtain ⟨hye, hJ2⟩ := st_od hHP hR.2.2.1.2.1 hJ hq1 hq2
  refine ar_icmp_eq 804 743 d_219_740 (by decide) rfl (fun _ => ?_) (fun c => absurd (hye) c)
  exact kk h3 ⟨TK, S1, al2, AL2, M2, hP1.fr hsn (by rw [← hm]; exact hz2.1), hR3, hJ2, by have := hz1.1; have := hz2.2.1; omega, by have := hz1.2.1; have := hz2.2.2; omega⟩
theorem lcX_19 {L : Nat} {xs : Nat → Int32} {s0 n nn gg cc m B1 B2 cl i : Nat} {h : ax_H} {f : Nat → Int32} {post : ax_Po} (hL : L < 2 ^ 31) (hi : i + 6 ≤ L) (hm : m = n + 329 + 22 * nn) (hC : CG s0 n nn gg f) (hcc : cc ≤ nn) (hcl : cl < 512) (hHP : HPm (nn, gg, nI cc, f) cc) (hW : LWX s0 n nn gg cc m B1 B2 cl f h) (kk : ∀ h', LWX s0 n nn gg cc m B1 B2 (cl + 1) f h' → ax_A (ax_step L xs) ((219, 804, 11, 396), [(0, .ref 0), (1, .ref s0), (2, .ref m), (3, .int (nI i))], [], h') post) : ax_A (ax_step L xs) ((219, 745, 11, 396), [(0, .ref 0), (1, .ref s0), (2, .ref m), (3, .int (nI i))], [], h) post := by
  obtain ⟨hs0, hsn, hnn3, hnn, hgg1, hgg, hRg⟩ := id hC
  obtain ⟨TK, S, al, AL, M, hP, hR, hJ, hr1, hr2⟩ := hW
  obtain ⟨fs1, hg1⟩ := hP.cell
  obtain ⟨fs2, hg2⟩ := hR.cell
  refine ar_aload_n 746 d_219_745 rfl rfl ?_
  refine ar_aload_n 747 d_219_746 rfl rfl ?_
  refine ar_iload_n 748 d_219_747 rfl rfl ?_
  refine ar_iconst 749 (v := 1) d_219_748 rfl (by decide) ?_
  refine ar_iadd 750 d_219_749 rfl ?_
  refine ar_top (x' := nI (i + 1)) (nI_add i 1) ?_
  refine ar_sald 751 d_219_750 rfl (nI_in (by omega) (by omega)) ?_
  refine ar_top (x' := xs (i + 1)) (by rw [nI_clamp (by omega)]) ?_
  refine ar_call (r := []) (na := 0) (kd := 0) (cm := 167) (fr2 := 11 - 1) (lo2 := 396 - 24) 754 d_219_751 (ar_hoV (as := [.int (xs (i + 1))]) rfl rfl rfl hg1) rfl (by omega) (show 396 - 24 + (19 + 5) = 396 by omega) (Nat.le_of_ble_eq_true rfl) (Nat.le_of_ble_eq_true rfl) (cz_167 (by omega) (by omega) hC hP) ?_
  intro v h2 hq
  obtain ⟨y1, S1, rfl, hP1, hz1, hq1⟩ := hq
  rw [← hm] at hz1
  have hR2 := hR.fr hz1
  obtain ⟨fs3, hg3⟩ := hP1.cell
  obtain ⟨fs4, hg4⟩ := hR2.cell
  refine ar_aload_n 755 d_219_754 rfl rfl ?_
  refine ar_aload_n 756 d_219_755 rfl rfl ?_
  refine ar_iload_n 757 d_219_756 rfl rfl ?_
  refine ar_iconst 758 (v := 1) d_219_757 rfl (by decide) ?_
  refine ar_iadd 759 d_219_758 rfl ?_
  refine ar_top (x' := nI (i + 1)) (nI_add i 1) ?_
  refine ar_sald 760 d_219_759 rfl (nI_in (by omega) (by omega)) ?_
  refine ar_top (x' := xs (i + 1)) (by rw [nI_clamp (by omega)]) ?_
  refine ar_call (r := [.int y1]) (na := 0) (kd := 0) (cm := 215) (fr2 := 11 - 1) (lo2 := 396 - 24) 763 d_219_760 (ar_hoV (as := [.int (xs (i + 1))]) rfl rfl rfl hg4) rfl (by omega) (show 396 - 24 + (19 + 5) = 396 by omega) (Nat.le_of_ble_eq_true rfl) (Nat.le_of_ble_eq_true rfl) (rq_215 (by omega) (by omega) hcc hnn hgg1 hgg hcl hR2) ?_
  intro v h3 hq
  obtain ⟨y2, al2, AL2, M2, rfl, hR3, hz2, hq2⟩ := hq
  obtain ⟨hye, hJ2⟩ := st_ho hHP hR.2.2.1.1 hR.2.2.1.2.1 hJ hq1 hq2
  refine ar_icmp_eq 804 766 d_219_763 (by decide) rfl (fun _ => ?_) (fun c => absurd (hye) c)
  exact kk h3 ⟨TK, S1, al2, AL2, M2, hP1.fr hsn (by rw [← hm]; exact hz2.1), hR3, hJ2, by have := hz1.1; have := hz2.2.1; omega, by have := hz1.2.1; have := hz2.2.2; omega⟩
theorem lcX_20 {L : Nat} {xs : Nat → Int32} {s0 n nn gg cc m B1 B2 cl i : Nat} {h : ax_H} {f : Nat → Int32} {post : ax_Po} (hL : L < 2 ^ 31) (hi : i + 6 ≤ L) (hm : m = n + 329 + 22 * nn) (hC : CG s0 n nn gg f) (hcc : cc ≤ nn) (hcl : cl < 512) (hHP : HPm (nn, gg, nI cc, f) cc) (hW : LWX s0 n nn gg cc m B1 B2 cl f h) (kk : ∀ h', LWX s0 n nn gg cc m B1 B2 (cl + 1) f h' → ax_A (ax_step L xs) ((219, 804, 11, 396), [(0, .ref 0), (1, .ref s0), (2, .ref m), (3, .int (nI i))], [], h') post) : ax_A (ax_step L xs) ((219, 768, 11, 396), [(0, .ref 0), (1, .ref s0), (2, .ref m), (3, .int (nI i))], [], h) post := by
  obtain ⟨hs0, hsn, hnn3, hnn, hgg1, hgg, hRg⟩ := id hC
  obtain ⟨TK, S, al, AL, M, hP, hR, hJ, hr1, hr2⟩ := hW
  obtain ⟨fs1, hg1⟩ := hP.cell
  obtain ⟨fs2, hg2⟩ := hR.cell
  refine ar_aload_n 769 d_219_768 rfl rfl ?_
  refine ar_call (r := []) (na := 0) (kd := 0) (cm := 169) (fr2 := 11 - 1) (lo2 := 396 - 22) 772 d_219_769 (ar_hoV (as := []) rfl rfl rfl hg1) rfl (by omega) (show 396 - 22 + (19 + 3) = 396 by omega) (Nat.le_of_ble_eq_true rfl) (Nat.le_of_ble_eq_true rfl) (cz_169 (by omega) (by omega) hC hP (hJ.au hHP)) ?_
  intro v h2 hq
  obtain ⟨y1, S1, rfl, hP1, hz1, hq1⟩ := hq
  rw [← hm] at hz1
  have hR2 := hR.fr hz1
  obtain ⟨fs3, hg3⟩ := hP1.cell
  obtain ⟨fs4, hg4⟩ := hR2.cell
  refine ar_aload_n 773 d_219_772 rfl rfl ?_
  refine ar_call (r := [.int y1]) (na := 0) (kd := 0) (cm := 216) (fr2 := 11 - 1) (lo2 := 396 - 20) 776 d_219_773 (ar_hoV (as := []) rfl rfl rfl hg4) rfl (by omega) (show 396 - 20 + (19 + 1) = 396 by omega) (Nat.le_of_ble_eq_true rfl) (Nat.le_of_ble_eq_true rfl) (rq_216 (by omega) (by omega) hcc hnn hgg1 hgg hcl hR2) ?_
  intro v h3 hq
  obtain ⟨y2, al2, AL2, M2, rfl, hR3, hz2, hq2⟩ := hq
  obtain ⟨hye, hJ2⟩ := st_au hJ hq1 hq2
  refine ar_icmp_eq 804 779 d_219_776 (by decide) rfl (fun _ => ?_) (fun c => absurd (hye) c)
  exact kk h3 ⟨TK, S1, al2, AL2, M2, hP1.fr hsn (by rw [← hm]; exact hz2.1), hR3, hJ2, by have := hz1.1; have := hz2.2.1; omega, by have := hz1.2.1; have := hz2.2.2; omega⟩
theorem lcX_21 {L : Nat} {xs : Nat → Int32} {s0 n nn gg cc m B1 B2 cl i : Nat} {h : ax_H} {f : Nat → Int32} {post : ax_Po} (hL : L < 2 ^ 31) (hi : i + 6 ≤ L) (hm : m = n + 329 + 22 * nn) (hC : CG s0 n nn gg f) (hcc : cc ≤ nn) (hcl : cl < 512) (hHP : HPm (nn, gg, nI cc, f) cc) (hW : LWX s0 n nn gg cc m B1 B2 cl f h) (kk : ∀ h', LWX s0 n nn gg cc m B1 B2 (cl + 1) f h' → ax_A (ax_step L xs) ((219, 804, 11, 396), [(0, .ref 0), (1, .ref s0), (2, .ref m), (3, .int (nI i))], [], h') post) : ax_A (ax_step L xs) ((219, 781, 11, 396), [(0, .ref 0), (1, .ref s0), (2, .ref m), (3, .int (nI i))], [], h) post := by
  obtain ⟨hs0, hsn, hnn3, hnn, hgg1, hgg, hRg⟩ := id hC
  obtain ⟨TK, S, al, AL, M, hP, hR, hJ, hr1, hr2⟩ := hW
  obtain ⟨fs1, hg1⟩ := hP.cell
  obtain ⟨fs2, hg2⟩ := hR.cell
  refine ar_aload_n 782 d_219_781 rfl rfl ?_
  refine ar_aload_n 783 d_219_782 rfl rfl ?_
  refine ar_iload_n 784 d_219_783 rfl rfl ?_
  refine ar_iconst 785 (v := 1) d_219_784 rfl (by decide) ?_
  refine ar_iadd 786 d_219_785 rfl ?_
  refine ar_top (x' := nI (i + 1)) (nI_add i 1) ?_
  refine ar_sald 787 d_219_786 rfl (nI_in (by omega) (by omega)) ?_
  refine ar_top (x' := xs (i + 1)) (by rw [nI_clamp (by omega)]) ?_
  refine ar_call (r := []) (na := 0) (kd := 0) (cm := 172) (fr2 := 11 - 1) (lo2 := 396 - 21) 790 d_219_787 (ar_hoV (as := [.int (xs (i + 1))]) rfl rfl rfl hg1) rfl (by omega) (show 396 - 21 + (19 + 2) = 396 by omega) (Nat.le_of_ble_eq_true rfl) (Nat.le_of_ble_eq_true rfl) (cx_172 (by omega) (by omega) hC hP) ?_
  intro v h2 hq
  obtain ⟨y1, S1, rfl, hP1, hz1, hq1⟩ := hq
  rw [← hm] at hz1
  have hR2 := hR.fr hz1
  obtain ⟨fs3, hg3⟩ := hP1.cell
  obtain ⟨fs4, hg4⟩ := hR2.cell
  refine ar_aload_n 791 d_219_790 rfl rfl ?_
  refine ar_aload_n 792 d_219_791 rfl rfl ?_
  refine ar_iload_n 793 d_219_792 rfl rfl ?_
  refine ar_iconst 794 (v := 1) d_219_793 rfl (by decide) ?_
  refine ar_iadd 795 d_219_794 rfl ?_
  refine ar_top (x' := nI (i + 1)) (nI_add i 1) ?_
  refine ar_sald 796 d_219_795 rfl (nI_in (by omega) (by omega)) ?_
  refine ar_top (x' := xs (i + 1)) (by rw [nI_clamp (by omega)]) ?_
  refine ar_call (r := [.int y1]) (na := 0) (kd := 0) (cm := 217) (fr2 := 11 - 1) (lo2 := 396 - 21) 799 d_219_796 (ar_hoV (as := [.int (xs (i + 1))]) rfl rfl rfl hg4) rfl (by omega) (show 396 - 21 + (19 + 2) = 396 by omega) (Nat.le_of_ble_eq_true rfl) (Nat.le_of_ble_eq_true rfl) (rq_217 (by omega) (by omega) hcc hnn hgg1 hgg hcl hR2 (hJ.pu hHP).1 (hJ.pu hHP).2) ?_
  intro v h3 hq
  obtain ⟨y2, al2, AL2, M2, rfl, hR3, hz2, hq2⟩ := hq
  obtain ⟨hye, hJ2⟩ := st_ct hHP hJ hq1 hq2
  refine ar_icmp_eq 804 802 d_219_799 (by decide) rfl (fun _ => ?_) (fun c => absurd (hye) c)
  exact kk h3 ⟨TK, S1, al2, AL2, M2, hP1.fr hsn (by rw [← hm]; exact hz2.1), hR3, hJ2, by have := hz1.1; have := hz2.2.1; omega, by have := hz1.2.1; have := hz2.2.2; omega⟩
theorem lcX_all {L : Nat} {xs : Nat → Int32} {s0 n nn gg cc m B1 B2 cl i : Nat} {h : ax_H} {f : Nat → Int32} {post : ax_Po} (hL : L < 2 ^ 31) (hi : i + 6 ≤ L) (hm : m = n + 329 + 22 * nn) (hC : CG s0 n nn gg f) (hcc : cc ≤ nn) (hcl : cl < 512) (hHP : HPm (nn, gg, nI cc, f) cc) (hW : LWX s0 n nn gg cc m B1 B2 cl f h) (kk : ∀ h', LWX s0 n nn gg cc m B1 B2 (cl + 1) f h' → ax_A (ax_step L xs) ((219, 804, 11, 396), [(0, .ref 0), (1, .ref s0), (2, .ref m), (3, .int (nI i))], [], h') post) : ax_A (ax_step L xs) ((219, 57, 11, 396), [(0, .ref 0), (1, .ref s0), (2, .ref m), (3, .int (nI i))], [], h) post := by
  refine ar_aload_n 58 d_219_57 rfl rfl ?_
  refine ar_iload_n 59 d_219_58 rfl rfl ?_
  refine ar_sald 60 d_219_59 rfl (nI_in (by omega) (by omega)) ?_
  refine ar_top (x' := xs i) (by rw [nI_clamp (by omega)]) ?_
  refine ar_bipush 62 (v := 31) d_219_60 rfl (by decide) ?_
  refine ar_iand 63 d_219_62 rfl ?_
  obtain ⟨k, hk, ek⟩ := and31 (xs i)
  refine ar_top (x' := nI k) ek ?_
  by_cases hk2 : k < 22
  · rcases (show k = 0 ∨ k = 1 ∨ k = 2 ∨ k = 3 ∨ k = 4 ∨ k = 5 ∨ k = 6 ∨ k = 7 ∨ k = 8 ∨ k = 9 ∨ k = 10 ∨ k = 11 ∨ k = 12 ∨ k = 13 ∨ k = 14 ∨ k = 15 ∨ k = 16 ∨ k = 17 ∨ k = 18 ∨ k = 19 ∨ k = 20 ∨ k = 21 by omega) with rfl | rfl | rfl | rfl | rfl | rfl | rfl | rfl | rfl | rfl | rfl | rfl | rfl | rfl | rfl | rfl | rfl | rfl | rfl | rfl | rfl | rfl
    · exact ar_tabIn 164 d_219_63 (by decide) (off := 101) rfl (by decide) (lcX_0 hL hi hm hC hcc hcl hHP hW kk)
    · exact ar_tabIn 227 d_219_63 (by decide) (off := 164) rfl (by decide) (lcX_1 hL hi hm hC hcc hcl hHP hW kk)
    · exact ar_tabIn 250 d_219_63 (by decide) (off := 187) rfl (by decide) (lcX_2 hL hi hm hC hcc hcl hHP hW kk)
    · exact ar_tabIn 273 d_219_63 (by decide) (off := 210) rfl (by decide) (lcX_3 hL hi hm hC hcc hcl hHP hW kk)
    · exact ar_tabIn 316 d_219_63 (by decide) (off := 253) rfl (by decide) (lcX_4 hL hi hm hC hcc hcl hHP hW kk)
    · exact ar_tabIn 337 d_219_63 (by decide) (off := 274) rfl (by decide) (lcX_5 hL hi hm hC hcc hcl hHP hW kk)
    · exact ar_tabIn 358 d_219_63 (by decide) (off := 295) rfl (by decide) (lcX_6 hL hi hm hC hcc hcl hHP hW kk)
    · exact ar_tabIn 379 d_219_63 (by decide) (off := 316) rfl (by decide) (lcX_7 hL hi hm hC hcc hcl hHP hW kk)
    · exact ar_tabIn 412 d_219_63 (by decide) (off := 349) rfl (by decide) (lcX_8 hL hi hm hC hcc hcl hHP hW kk)
    · exact ar_tabIn 435 d_219_63 (by decide) (off := 372) rfl (by decide) (lcX_9 hL hi hm hC hcc hcl hHP hW kk)
    · exact ar_tabIn 478 d_219_63 (by decide) (off := 415) rfl (by decide) (lcX_10 hL hi hm hC hcc hcl hHP hW kk)
    · exact ar_tabIn 501 d_219_63 (by decide) (off := 438) rfl (by decide) (lcX_11 hL hi hm hC hcc hcl hHP hW kk)
    · exact ar_tabIn 524 d_219_63 (by decide) (off := 461) rfl (by decide) (lcX_12 hL hi hm hC hcc hcl hHP hW kk)
    · exact ar_tabIn 547 d_219_63 (by decide) (off := 484) rfl (by decide) (lcX_13 hL hi hm hC hcc hcl hHP hW kk)
    · exact ar_tabIn 560 d_219_63 (by decide) (off := 497) rfl (by decide) (lcX_14 hL hi hm hC hcc hcl hHP hW kk)
    · exact ar_tabIn 583 d_219_63 (by decide) (off := 520) rfl (by decide) (lcX_15 hL hi hm hC hcc hcl hHP hW kk)
    · exact ar_tabIn 616 d_219_63 (by decide) (off := 553) rfl (by decide) (lcX_16 hL hi hm hC hcc hcl hHP hW kk)
    · exact ar_tabIn 649 d_219_63 (by decide) (off := 586) rfl (by decide) (lcX_17 hL hi hm hC hcc hcl hHP hW kk)
    · exact ar_tabIn 692 d_219_63 (by decide) (off := 629) rfl (by decide) (lcX_18 hL hi hm hC hcc hcl hHP hW kk)
    · exact ar_tabIn 745 d_219_63 (by decide) (off := 682) rfl (by decide) (lcX_19 hL hi hm hC hcc hcl hHP hW kk)
    · exact ar_tabIn 768 d_219_63 (by decide) (off := 705) rfl (by decide) (lcX_20 hL hi hm hC hcc hcl hHP hW kk)
    · exact ar_tabIn 781 d_219_63 (by decide) (off := 718) rfl (by decide) (lcX_21 hL hi hm hC hcc hcl hHP hW kk)
  · exact ar_tabOut 804 d_219_63 (Or.inr (by rw [nI_toInt' (by omega)]; omega)) (by decide) (kk h (by
    obtain ⟨TK, S, al, AL, M, hP, ⟨r1, r2, r3⟩, hJ, hr1, hr2⟩ := hW
    exact ⟨TK, S, al, AL, M, hP, ⟨r1, r2, r3.up (Nat.le_succ cl)⟩, hJ.up, hr1, hr2⟩))
theorem lt_of6 {L i : Nat} (h : L < i + 6) (hi : i ≤ 4000) : Int32.ofNat L - 6 < nI i := by
  by_cases h6 : 6 ≤ L
  · have e : Int32.ofNat L - 6 = nI (L - 6) := nI_sub (a := 6) (y := L) h6
    rw [e]
    exact nI_lt (by omega) (by omega)
  · have hk : ∀ l, l < 6 → Int32.ofNat l - 6 < 0 := by decide
    exact Int32.lt_of_lt_of_le (hk L (by omega)) (nI_pos' (by omega))
theorem lcX_loop {L : Nat} {xs : Nat → Int32} {s0 n nn gg cc m B1 B2 : Nat} {f : Nat → Int32} {post : ax_Po} (hL : L ≤ 3075) (hm : m = n + 329 + 22 * nn) (hC : CG s0 n nn gg f) (hcc : cc ≤ nn) (hHP : HPm (nn, gg, nI cc, f) cc) (kk : ∀ (cl : Nat) (h' : ax_H), LWX s0 n nn gg cc m B1 B2 cl f h' → post (some (.int 1)) h') : ∀ (k i cl : Nat) (h : ax_H), L + 6 ≤ i + 6 * k → i ≤ 4000 → i = 3 + 6 * cl → LWX s0 n nn gg cc m B1 B2 cl f h → ax_A (ax_step L xs) ((219, 48, 11, 396), [(0, .ref 0), (1, .ref s0), (2, .ref m), (3, .int (nI i))], [], h) post := by
  intro k
  induction k with
  | zero =>
    intro i cl h hk h4 hi hW
    exact law_h (fun _ => kk cl h hW) (fun c => absurd (lt_of6 (by omega) (by omega)) c)
  | succ k ih =>
    intro i cl h hk h4 hi hW
    refine law_h (fun _ => kk cl h hW) (fun c => ?_)
    have hi6 : i + 6 ≤ L := Classical.byContradiction (fun z => c (lt_of6 (by omega) (by omega)))
    refine lcX_all (by omega) hi6 hm hC hcc (by omega) hHP hW (fun h' hW2 => ?_)
    refine law_n ?_
    have e : nI i + 6 = nI (i + 6) := nI_add i 6
    rw [e]
    exact ih (i + 6) (cl + 1) h' (by omega) (by omega) (by omega) hW2

/-! the law: each call from every state of the two stores -/
theorem CP.cell {s0 n nn gg : Nat} {C : Int32} {f : Nat → Int32} {h : ax_H} {D : Nat → Nat → Nat → Int32} (hP : CP s0 n nn gg C f h D) : ∃ fs : List Value, ax_g h s0 = some (.inr (0, fs)) := by
  obtain ⟨Z, q, u, b, E, TK, Q, ms, K, A, hG⟩ := hP
  exact ⟨_, hG.1.1.at 0 rfl⟩
theorem RP.cell {nn cc gg cl m p al AL : Nat} {h : ax_H} {M : Nat → Nat → Int32} (hP : RP nn cc gg cl m p h al AL M) : ∃ fs : List Value, ax_g h m = some (.inr (11, fs)) := ⟨_, hP.1.1.at 0 rfl⟩
theorem RP.fr {nn cc gg cl m p al AL : Nat} {h h' : ax_H} {M : Nat → Nat → Int32} (hP : RP nn cc gg cl m p h al AL M) (hz : SZ m h h') : RP nn cc gg cl m p h' al AL M := ⟨hP.1.fr hP.2.1 hz, hP.2⟩
/-- crash: both say the same -/
theorem cr_eq {nn : Nat} {D D' : Nat → Nat → Nat → Int32} {M : Nat → Nat → Int32} {x y y2 up' : Int32} (h6 : nn ≤ 6) (hU : UPR nn D (M 0 3)) (e0 : M 0 0 = nI nn) (h1 : ((x < 0 ∨ nI nn ≤ x ∨ ∃ j : Nat, j < nn ∧ x = nI j ∧ D j 0 6 = 0) ∧ y = 0 ∧ GR nn D D') ∨ (∃ j : Nat, j < nn ∧ x = nI j ∧ ¬ D j 0 6 = 0 ∧ y = 1 ∧ ∀ i, i < nn → D' i 0 6 = if i = j then 0 else D i 0 6)) (h2 : (¬ upQ M x ∧ y2 = 0 ∧ up' = M 0 3) ∨ (upQ M x ∧ y2 = 1 ∧ up' = (M 0 3) ^^^ ((1 : Int32) <<< (x &&& 31)))) : y = y2 ∧ UPR nn D' up' := by
  rcases h1 with ⟨hx, rfl, hR⟩ | ⟨j, hj, rfl, hd, rfl, hD⟩
  · have hn : ¬ upQ M x := fun z => by
      obtain ⟨z1, z2, z3⟩ := z
      rcases hx with hx | hx | ⟨j, hj, rfl, hd⟩
      · exact z1 hx
      · rw [e0] at z2
        exact absurd z2 (Int32.not_lt.mpr hx)
      · exact z3 ((bitz _ (by omega)).mpr ((hU j hj).mp hd))
    rcases h2 with ⟨-, rfl, rfl⟩ | ⟨hq, -⟩
    · exact ⟨rfl, hU.gr hR⟩
    · exact absurd hq hn
  · have hy : upQ M (nI j) := ⟨nI_pos (by omega), by rw [e0]; exact nI_lt hj (by omega), fun z => hd ((hU j hj).mpr ((bitz _ (by omega)).mp z))⟩
    rcases h2 with ⟨hq, -⟩ | ⟨-, rfl, rfl⟩
    · exact absurd hy hq
    · exact ⟨rfl, hU.flip (v := 0) h6 hj (Or.inl rfl) ⟨fun z => absurd z hd, fun z => absurd z (by decide)⟩ hD⟩
theorem rs_eq {nn : Nat} {D D' : Nat → Nat → Nat → Int32} {M : Nat → Nat → Int32} {x y y2 up' : Int32} (h6 : nn ≤ 6) (hU : UPR nn D (M 0 3)) (e0 : M 0 0 = nI nn) (h1 : ((x < 0 ∨ nI nn ≤ x ∨ ∃ j : Nat, j < nn ∧ x = nI j ∧ ¬ D j 0 6 = 0) ∧ y = 0 ∧ GR nn D D') ∨ (∃ j : Nat, j < nn ∧ x = nI j ∧ D j 0 6 = 0 ∧ y = 1 ∧ ∀ i, i < nn → D' i 0 6 = if i = j then 1 else D i 0 6)) (h2 : (¬ dnQ M x ∧ y2 = 0 ∧ up' = M 0 3) ∨ (dnQ M x ∧ y2 = 1 ∧ up' = (M 0 3) ^^^ ((1 : Int32) <<< (x &&& 31)))) : y = y2 ∧ UPR nn D' up' := by
  rcases h1 with ⟨hx, rfl, hR⟩ | ⟨j, hj, rfl, hd, rfl, hD⟩
  · have hn : ¬ dnQ M x := fun z => by
      obtain ⟨z1, z2, z3⟩ := z
      rcases hx with hx | hx | ⟨j, hj, rfl, hd⟩
      · exact z1 hx
      · rw [e0] at z2
        exact absurd z2 (Int32.not_lt.mpr hx)
      · exact hd ((hU j hj).mpr ((bitz _ (by omega)).mp z3))
    rcases h2 with ⟨-, rfl, rfl⟩ | ⟨hq, -⟩
    · exact ⟨rfl, hU.gr hR⟩
    · exact absurd hq hn
  · have hy : dnQ M (nI j) := ⟨nI_pos (by omega), by rw [e0]; exact nI_lt hj (by omega), (bitz _ (by omega)).mpr ((hU j hj).mp hd)⟩
    rcases h2 with ⟨hq, -⟩ | ⟨-, rfl, rfl⟩
    · exact absurd hy hq
    · exact ⟨rfl, hU.flip (v := 1) h6 hj (Or.inr rfl) ⟨fun _ => rfl, fun _ => hd⟩ hD⟩
theorem lc_0 {L : Nat} {xs : Nat → Int32} {s0 n nn gg cc m B1 B2 cl i : Nat} {h : ax_H} {f : Nat → Int32} {post : ax_Po} (hL : L < 2 ^ 31) (hi : i + 6 ≤ L) (hm : m = n + 329 + 22 * nn) (hC : CG s0 n nn gg f) (hcc : cc ≤ nn) (hcl : cl < 512) (hW : LW s0 n nn gg cc m B1 B2 cl f h) (kk : ∀ h', LW s0 n nn gg cc m B1 B2 (cl + 1) f h' → ax_A (ax_step L xs) ((219, 804, 11, 394), [(0, .ref 0), (1, .ref s0), (2, .ref m), (3, .int (nI i))], [], h') post) : ax_A (ax_step L xs) ((219, 164, 11, 394), [(0, .ref 0), (1, .ref s0), (2, .ref m), (3, .int (nI i))], [], h) post := by
  obtain ⟨hs0, hsn, hnn3, hnn, hgg1, hgg, hRg⟩ := id hC
  obtain ⟨D, al, AL, M, hP, hR, hU, hr1, hr2⟩ := hW
  obtain ⟨fs1, hg1⟩ := hP.cell
  obtain ⟨fs2, hg2⟩ := hR.cell
  refine ar_aload_n 165 d_219_164 rfl rfl ?_
  refine ar_aload_n 166 d_219_165 rfl rfl ?_
  refine ar_iload_n 167 d_219_166 rfl rfl ?_
  refine ar_iconst 168 (v := 1) d_219_167 rfl (by decide) ?_
  refine ar_iadd 169 d_219_168 rfl ?_
  refine ar_top (x' := nI (i + 1)) (nI_add i 1) ?_
  refine ar_sald 170 d_219_169 rfl (nI_in (by omega) (by omega)) ?_
  refine ar_top (x' := xs (i + 1)) (by rw [nI_clamp (by omega)]) ?_
  refine ar_aload_n 171 d_219_170 rfl rfl ?_
  refine ar_iload_n 172 d_219_171 rfl rfl ?_
  refine ar_iconst 173 (v := 2) d_219_172 rfl (by decide) ?_
  refine ar_iadd 174 d_219_173 rfl ?_
  refine ar_top (x' := nI (i + 2)) (nI_add i 2) ?_
  refine ar_sald 175 d_219_174 rfl (nI_in (by omega) (by omega)) ?_
  refine ar_top (x' := xs (i + 2)) (by rw [nI_clamp (by omega)]) ?_
  refine ar_aload_n 176 d_219_175 rfl rfl ?_
  refine ar_iload_n 177 d_219_176 rfl rfl ?_
  refine ar_iconst 178 (v := 3) d_219_177 rfl (by decide) ?_
  refine ar_iadd 179 d_219_178 rfl ?_
  refine ar_top (x' := nI (i + 3)) (nI_add i 3) ?_
  refine ar_sald 180 d_219_179 rfl (nI_in (by omega) (by omega)) ?_
  refine ar_top (x' := xs (i + 3)) (by rw [nI_clamp (by omega)]) ?_
  refine ar_aload_n 181 d_219_180 rfl rfl ?_
  refine ar_iload_n 182 d_219_181 rfl rfl ?_
  refine ar_iconst 183 (v := 4) d_219_182 rfl (by decide) ?_
  refine ar_iadd 184 d_219_183 rfl ?_
  refine ar_top (x' := nI (i + 4)) (nI_add i 4) ?_
  refine ar_sald 185 d_219_184 rfl (nI_in (by omega) (by omega)) ?_
  refine ar_top (x' := xs (i + 4)) (by rw [nI_clamp (by omega)]) ?_
  refine ar_aload_n 186 d_219_185 rfl rfl ?_
  refine ar_iload_n 187 d_219_186 rfl rfl ?_
  refine ar_iconst 188 (v := 5) d_219_187 rfl (by decide) ?_
  refine ar_iadd 189 d_219_188 rfl ?_
  refine ar_top (x' := nI (i + 5)) (nI_add i 5) ?_
  refine ar_sald 190 d_219_189 rfl (nI_in (by omega) (by omega)) ?_
  refine ar_top (x' := xs (i + 5)) (by rw [nI_clamp (by omega)]) ?_
  refine ar_call (r := []) (na := 0) (kd := 0) (cm := 37) (fr2 := 11 - 1) (lo2 := 394 - 25) 193 d_219_190 (ar_hoV (as := [.int (xs (i + 1)), .int (xs (i + 2)), .int (xs (i + 3)), .int (xs (i + 4)), .int (xs (i + 5))]) rfl rfl rfl hg1) rfl (by omega) (show 394 - 25 + (19 + 6) = 394 by omega) (Nat.le_of_ble_eq_true rfl) (Nat.le_of_ble_eq_true rfl) (cp_37 (by omega) (by omega) hC hP) ?_
  intro v h2 hq
  obtain ⟨y1, D1, rfl, hP1, hz1, hR1⟩ := hq
  rw [← hm] at hz1
  have hR2 := hR.fr hz1
  obtain ⟨fs3, hg3⟩ := hP1.cell
  obtain ⟨fs4, hg4⟩ := hR2.cell
  refine ar_pop 194 d_219_193 rfl rfl ?_
  refine ar_aload_n 195 d_219_194 rfl rfl ?_
  refine ar_aload_n 196 d_219_195 rfl rfl ?_
  refine ar_iload_n 197 d_219_196 rfl rfl ?_
  refine ar_iconst 198 (v := 1) d_219_197 rfl (by decide) ?_
  refine ar_iadd 199 d_219_198 rfl ?_
  refine ar_top (x' := nI (i + 1)) (nI_add i 1) ?_
  refine ar_sald 200 d_219_199 rfl (nI_in (by omega) (by omega)) ?_
  refine ar_top (x' := xs (i + 1)) (by rw [nI_clamp (by omega)]) ?_
  refine ar_aload_n 201 d_219_200 rfl rfl ?_
  refine ar_iload_n 202 d_219_201 rfl rfl ?_
  refine ar_iconst 203 (v := 2) d_219_202 rfl (by decide) ?_
  refine ar_iadd 204 d_219_203 rfl ?_
  refine ar_top (x' := nI (i + 2)) (nI_add i 2) ?_
  refine ar_sald 205 d_219_204 rfl (nI_in (by omega) (by omega)) ?_
  refine ar_top (x' := xs (i + 2)) (by rw [nI_clamp (by omega)]) ?_
  refine ar_aload_n 206 d_219_205 rfl rfl ?_
  refine ar_iload_n 207 d_219_206 rfl rfl ?_
  refine ar_iconst 208 (v := 3) d_219_207 rfl (by decide) ?_
  refine ar_iadd 209 d_219_208 rfl ?_
  refine ar_top (x' := nI (i + 3)) (nI_add i 3) ?_
  refine ar_sald 210 d_219_209 rfl (nI_in (by omega) (by omega)) ?_
  refine ar_top (x' := xs (i + 3)) (by rw [nI_clamp (by omega)]) ?_
  refine ar_aload_n 211 d_219_210 rfl rfl ?_
  refine ar_iload_n 212 d_219_211 rfl rfl ?_
  refine ar_iconst 213 (v := 4) d_219_212 rfl (by decide) ?_
  refine ar_iadd 214 d_219_213 rfl ?_
  refine ar_top (x' := nI (i + 4)) (nI_add i 4) ?_
  refine ar_sald 215 d_219_214 rfl (nI_in (by omega) (by omega)) ?_
  refine ar_top (x' := xs (i + 4)) (by rw [nI_clamp (by omega)]) ?_
  refine ar_aload_n 216 d_219_215 rfl rfl ?_
  refine ar_iload_n 217 d_219_216 rfl rfl ?_
  refine ar_iconst 218 (v := 5) d_219_217 rfl (by decide) ?_
  refine ar_iadd 219 d_219_218 rfl ?_
  refine ar_top (x' := nI (i + 5)) (nI_add i 5) ?_
  refine ar_sald 220 d_219_219 rfl (nI_in (by omega) (by omega)) ?_
  refine ar_top (x' := xs (i + 5)) (by rw [nI_clamp (by omega)]) ?_
  refine ar_call (r := []) (na := 0) (kd := 0) (cm := 176) (fr2 := 11 - 1) (lo2 := 394 - 25) 223 d_219_220 (ar_hoV (as := [.int (xs (i + 1)), .int (xs (i + 2)), .int (xs (i + 3)), .int (xs (i + 4)), .int (xs (i + 5))]) rfl rfl rfl hg4) rfl (by omega) (show 394 - 25 + (19 + 6) = 394 by omega) (Nat.le_of_ble_eq_true rfl) (Nat.le_of_ble_eq_true rfl) (rp_176 (by omega) (by omega) hcc hnn hgg1 hgg hcl hR2) ?_
  intro v h3 hq
  obtain ⟨y2, al2, AL2, M2, rfl, hR3, hz2, hu2⟩ := hq
  have hU2 : UPR nn D1 (M2 0 3) := by rw [hu2]; exact hU.gr hR1
  refine ar_pop 224 d_219_223 rfl rfl ?_
  refine ar_goto 804 d_219_224 (by decide) ?_
  exact kk h3 ⟨D1, al2, AL2, M2, hP1.fr hsn (by rw [← hm]; exact hz2.1), hR3, hU2, by have := hz1.1; have := hz2.2.1; omega, by have := hz1.2.1; have := hz2.2.2; omega⟩
theorem lc_1 {L : Nat} {xs : Nat → Int32} {s0 n nn gg cc m B1 B2 cl i : Nat} {h : ax_H} {f : Nat → Int32} {post : ax_Po} (hL : L < 2 ^ 31) (hi : i + 6 ≤ L) (hm : m = n + 329 + 22 * nn) (hC : CG s0 n nn gg f) (hcc : cc ≤ nn) (hcl : cl < 512) (hW : LW s0 n nn gg cc m B1 B2 cl f h) (kk : ∀ h', LW s0 n nn gg cc m B1 B2 (cl + 1) f h' → ax_A (ax_step L xs) ((219, 804, 11, 394), [(0, .ref 0), (1, .ref s0), (2, .ref m), (3, .int (nI i))], [], h') post) : ax_A (ax_step L xs) ((219, 227, 11, 394), [(0, .ref 0), (1, .ref s0), (2, .ref m), (3, .int (nI i))], [], h) post := by
  obtain ⟨hs0, hsn, hnn3, hnn, hgg1, hgg, hRg⟩ := id hC
  obtain ⟨D, al, AL, M, hP, hR, hU, hr1, hr2⟩ := hW
  obtain ⟨fs1, hg1⟩ := hP.cell
  obtain ⟨fs2, hg2⟩ := hR.cell
  refine ar_aload_n 228 d_219_227 rfl rfl ?_
  refine ar_aload_n 229 d_219_228 rfl rfl ?_
  refine ar_iload_n 230 d_219_229 rfl rfl ?_
  refine ar_iconst 231 (v := 1) d_219_230 rfl (by decide) ?_
  refine ar_iadd 232 d_219_231 rfl ?_
  refine ar_top (x' := nI (i + 1)) (nI_add i 1) ?_
  refine ar_sald 233 d_219_232 rfl (nI_in (by omega) (by omega)) ?_
  refine ar_top (x' := xs (i + 1)) (by rw [nI_clamp (by omega)]) ?_
  refine ar_call (r := []) (na := 0) (kd := 0) (cm := 40) (fr2 := 11 - 1) (lo2 := 394 - 21) 236 d_219_233 (ar_hoV (as := [.int (xs (i + 1))]) rfl rfl rfl hg1) rfl (by omega) (show 394 - 21 + (19 + 2) = 394 by omega) (Nat.le_of_ble_eq_true rfl) (Nat.le_of_ble_eq_true rfl) (cp_40 (by omega) (by omega) hC hP) ?_
  intro v h2 hq
  obtain ⟨y1, D1, rfl, hP1, hz1, hR1⟩ := hq
  rw [← hm] at hz1
  have hR2 := hR.fr hz1
  obtain ⟨fs3, hg3⟩ := hP1.cell
  obtain ⟨fs4, hg4⟩ := hR2.cell
  refine ar_pop 237 d_219_236 rfl rfl ?_
  refine ar_aload_n 238 d_219_237 rfl rfl ?_
  refine ar_aload_n 239 d_219_238 rfl rfl ?_
  refine ar_iload_n 240 d_219_239 rfl rfl ?_
  refine ar_iconst 241 (v := 1) d_219_240 rfl (by decide) ?_
  refine ar_iadd 242 d_219_241 rfl ?_
  refine ar_top (x' := nI (i + 1)) (nI_add i 1) ?_
  refine ar_sald 243 d_219_242 rfl (nI_in (by omega) (by omega)) ?_
  refine ar_top (x' := xs (i + 1)) (by rw [nI_clamp (by omega)]) ?_
  refine ar_call (r := []) (na := 0) (kd := 0) (cm := 178) (fr2 := 11 - 1) (lo2 := 394 - 21) 246 d_219_243 (ar_hoV (as := [.int (xs (i + 1))]) rfl rfl rfl hg4) rfl (by omega) (show 394 - 21 + (19 + 2) = 394 by omega) (Nat.le_of_ble_eq_true rfl) (Nat.le_of_ble_eq_true rfl) (rp_178 (by omega) (by omega) hcc hnn hgg1 hgg hcl hR2) ?_
  intro v h3 hq
  obtain ⟨y2, al2, AL2, M2, rfl, hR3, hz2, hu2⟩ := hq
  have hU2 : UPR nn D1 (M2 0 3) := by rw [hu2]; exact hU.gr hR1
  refine ar_pop 247 d_219_246 rfl rfl ?_
  refine ar_goto 804 d_219_247 (by decide) ?_
  exact kk h3 ⟨D1, al2, AL2, M2, hP1.fr hsn (by rw [← hm]; exact hz2.1), hR3, hU2, by have := hz1.1; have := hz2.2.1; omega, by have := hz1.2.1; have := hz2.2.2; omega⟩
theorem lc_2 {L : Nat} {xs : Nat → Int32} {s0 n nn gg cc m B1 B2 cl i : Nat} {h : ax_H} {f : Nat → Int32} {post : ax_Po} (hL : L < 2 ^ 31) (hi : i + 6 ≤ L) (hm : m = n + 329 + 22 * nn) (hC : CG s0 n nn gg f) (hcc : cc ≤ nn) (hcl : cl < 512) (hW : LW s0 n nn gg cc m B1 B2 cl f h) (kk : ∀ h', LW s0 n nn gg cc m B1 B2 (cl + 1) f h' → ax_A (ax_step L xs) ((219, 804, 11, 394), [(0, .ref 0), (1, .ref s0), (2, .ref m), (3, .int (nI i))], [], h') post) : ax_A (ax_step L xs) ((219, 250, 11, 394), [(0, .ref 0), (1, .ref s0), (2, .ref m), (3, .int (nI i))], [], h) post := by
  obtain ⟨hs0, hsn, hnn3, hnn, hgg1, hgg, hRg⟩ := id hC
  obtain ⟨D, al, AL, M, hP, hR, hU, hr1, hr2⟩ := hW
  obtain ⟨fs1, hg1⟩ := hP.cell
  obtain ⟨fs2, hg2⟩ := hR.cell
  refine ar_aload_n 251 d_219_250 rfl rfl ?_
  refine ar_aload_n 252 d_219_251 rfl rfl ?_
  refine ar_iload_n 253 d_219_252 rfl rfl ?_
  refine ar_iconst 254 (v := 1) d_219_253 rfl (by decide) ?_
  refine ar_iadd 255 d_219_254 rfl ?_
  refine ar_top (x' := nI (i + 1)) (nI_add i 1) ?_
  refine ar_sald 256 d_219_255 rfl (nI_in (by omega) (by omega)) ?_
  refine ar_top (x' := xs (i + 1)) (by rw [nI_clamp (by omega)]) ?_
  refine ar_call (r := []) (na := 0) (kd := 0) (cm := 41) (fr2 := 11 - 1) (lo2 := 394 - 21) 259 d_219_256 (ar_hoV (as := [.int (xs (i + 1))]) rfl rfl rfl hg1) rfl (by omega) (show 394 - 21 + (19 + 2) = 394 by omega) (Nat.le_of_ble_eq_true rfl) (Nat.le_of_ble_eq_true rfl) (cp_41 (by omega) (by omega) hC hP) ?_
  intro v h2 hq
  obtain ⟨y1, D1, rfl, hP1, hz1, hR1⟩ := hq
  rw [← hm] at hz1
  have hR2 := hR.fr hz1
  obtain ⟨fs3, hg3⟩ := hP1.cell
  obtain ⟨fs4, hg4⟩ := hR2.cell
  refine ar_pop 260 d_219_259 rfl rfl ?_
  refine ar_aload_n 261 d_219_260 rfl rfl ?_
  refine ar_aload_n 262 d_219_261 rfl rfl ?_
  refine ar_iload_n 263 d_219_262 rfl rfl ?_
  refine ar_iconst 264 (v := 1) d_219_263 rfl (by decide) ?_
  refine ar_iadd 265 d_219_264 rfl ?_
  refine ar_top (x' := nI (i + 1)) (nI_add i 1) ?_
  refine ar_sald 266 d_219_265 rfl (nI_in (by omega) (by omega)) ?_
  refine ar_top (x' := xs (i + 1)) (by rw [nI_clamp (by omega)]) ?_
  refine ar_call (r := []) (na := 0) (kd := 0) (cm := 179) (fr2 := 11 - 1) (lo2 := 394 - 22) 269 d_219_266 (ar_hoV (as := [.int (xs (i + 1))]) rfl rfl rfl hg4) rfl (by omega) (show 394 - 22 + (19 + 3) = 394 by omega) (Nat.le_of_ble_eq_true rfl) (Nat.le_of_ble_eq_true rfl) (rp_179 (by omega) (by omega) hcc hnn hgg1 hgg hcl hR2) ?_
  intro v h3 hq
  obtain ⟨y2, al2, AL2, M2, rfl, hR3, hz2, hu2⟩ := hq
  have hU2 : UPR nn D1 (M2 0 3) := by rw [hu2]; exact hU.gr hR1
  refine ar_pop 270 d_219_269 rfl rfl ?_
  refine ar_goto 804 d_219_270 (by decide) ?_
  exact kk h3 ⟨D1, al2, AL2, M2, hP1.fr hsn (by rw [← hm]; exact hz2.1), hR3, hU2, by have := hz1.1; have := hz2.2.1; omega, by have := hz1.2.1; have := hz2.2.2; omega⟩
theorem lc_3 {L : Nat} {xs : Nat → Int32} {s0 n nn gg cc m B1 B2 cl i : Nat} {h : ax_H} {f : Nat → Int32} {post : ax_Po} (hL : L < 2 ^ 31) (hi : i + 6 ≤ L) (hm : m = n + 329 + 22 * nn) (hC : CG s0 n nn gg f) (hcc : cc ≤ nn) (hcl : cl < 512) (hW : LW s0 n nn gg cc m B1 B2 cl f h) (kk : ∀ h', LW s0 n nn gg cc m B1 B2 (cl + 1) f h' → ax_A (ax_step L xs) ((219, 804, 11, 394), [(0, .ref 0), (1, .ref s0), (2, .ref m), (3, .int (nI i))], [], h') post) : ax_A (ax_step L xs) ((219, 273, 11, 394), [(0, .ref 0), (1, .ref s0), (2, .ref m), (3, .int (nI i))], [], h) post := by
  obtain ⟨hs0, hsn, hnn3, hnn, hgg1, hgg, hRg⟩ := id hC
  obtain ⟨D, al, AL, M, hP, hR, hU, hr1, hr2⟩ := hW
  obtain ⟨fs1, hg1⟩ := hP.cell
  obtain ⟨fs2, hg2⟩ := hR.cell
  refine ar_aload_n 274 d_219_273 rfl rfl ?_
  refine ar_aload_n 275 d_219_274 rfl rfl ?_
  refine ar_iload_n 276 d_219_275 rfl rfl ?_
  refine ar_iconst 277 (v := 1) d_219_276 rfl (by decide) ?_
  refine ar_iadd 278 d_219_277 rfl ?_
  refine ar_top (x' := nI (i + 1)) (nI_add i 1) ?_
  refine ar_sald 279 d_219_278 rfl (nI_in (by omega) (by omega)) ?_
  refine ar_top (x' := xs (i + 1)) (by rw [nI_clamp (by omega)]) ?_
  refine ar_aload_n 280 d_219_279 rfl rfl ?_
  refine ar_iload_n 281 d_219_280 rfl rfl ?_
  refine ar_iconst 282 (v := 2) d_219_281 rfl (by decide) ?_
  refine ar_iadd 283 d_219_282 rfl ?_
  refine ar_top (x' := nI (i + 2)) (nI_add i 2) ?_
  refine ar_sald 284 d_219_283 rfl (nI_in (by omega) (by omega)) ?_
  refine ar_top (x' := xs (i + 2)) (by rw [nI_clamp (by omega)]) ?_
  refine ar_aload_n 285 d_219_284 rfl rfl ?_
  refine ar_iload_n 286 d_219_285 rfl rfl ?_
  refine ar_iconst 287 (v := 3) d_219_286 rfl (by decide) ?_
  refine ar_iadd 288 d_219_287 rfl ?_
  refine ar_top (x' := nI (i + 3)) (nI_add i 3) ?_
  refine ar_sald 289 d_219_288 rfl (nI_in (by omega) (by omega)) ?_
  refine ar_top (x' := xs (i + 3)) (by rw [nI_clamp (by omega)]) ?_
  refine ar_call (r := []) (na := 0) (kd := 0) (cm := 44) (fr2 := 11 - 1) (lo2 := 394 - 23) 292 d_219_289 (ar_hoV (as := [.int (xs (i + 1)), .int (xs (i + 2)), .int (xs (i + 3))]) rfl rfl rfl hg1) rfl (by omega) (show 394 - 23 + (19 + 4) = 394 by omega) (Nat.le_of_ble_eq_true rfl) (Nat.le_of_ble_eq_true rfl) (cp_44 (by omega) (by omega) hC hP) ?_
  intro v h2 hq
  obtain ⟨y1, D1, rfl, hP1, hz1, hR1⟩ := hq
  rw [← hm] at hz1
  have hR2 := hR.fr hz1
  obtain ⟨fs3, hg3⟩ := hP1.cell
  obtain ⟨fs4, hg4⟩ := hR2.cell
  refine ar_pop 293 d_219_292 rfl rfl ?_
  refine ar_aload_n 294 d_219_293 rfl rfl ?_
  refine ar_aload_n 295 d_219_294 rfl rfl ?_
  refine ar_iload_n 296 d_219_295 rfl rfl ?_
  refine ar_iconst 297 (v := 1) d_219_296 rfl (by decide) ?_
  refine ar_iadd 298 d_219_297 rfl ?_
  refine ar_top (x' := nI (i + 1)) (nI_add i 1) ?_
  refine ar_sald 299 d_219_298 rfl (nI_in (by omega) (by omega)) ?_
  refine ar_top (x' := xs (i + 1)) (by rw [nI_clamp (by omega)]) ?_
  refine ar_aload_n 300 d_219_299 rfl rfl ?_
  refine ar_iload_n 301 d_219_300 rfl rfl ?_
  refine ar_iconst 302 (v := 2) d_219_301 rfl (by decide) ?_
  refine ar_iadd 303 d_219_302 rfl ?_
  refine ar_top (x' := nI (i + 2)) (nI_add i 2) ?_
  refine ar_sald 304 d_219_303 rfl (nI_in (by omega) (by omega)) ?_
  refine ar_top (x' := xs (i + 2)) (by rw [nI_clamp (by omega)]) ?_
  refine ar_aload_n 305 d_219_304 rfl rfl ?_
  refine ar_iload_n 306 d_219_305 rfl rfl ?_
  refine ar_iconst 307 (v := 3) d_219_306 rfl (by decide) ?_
  refine ar_iadd 308 d_219_307 rfl ?_
  refine ar_top (x' := nI (i + 3)) (nI_add i 3) ?_
  refine ar_sald 309 d_219_308 rfl (nI_in (by omega) (by omega)) ?_
  refine ar_top (x' := xs (i + 3)) (by rw [nI_clamp (by omega)]) ?_
  refine ar_call (r := []) (na := 0) (kd := 0) (cm := 180) (fr2 := 11 - 1) (lo2 := 394 - 25) 312 d_219_309 (ar_hoV (as := [.int (xs (i + 1)), .int (xs (i + 2)), .int (xs (i + 3))]) rfl rfl rfl hg4) rfl (by omega) (show 394 - 25 + (19 + 6) = 394 by omega) (Nat.le_of_ble_eq_true rfl) (Nat.le_of_ble_eq_true rfl) (rp_180 (by omega) (by omega) hcc hnn hgg1 hgg hcl hR2) ?_
  intro v h3 hq
  obtain ⟨y2, al2, AL2, M2, rfl, hR3, hz2, hu2⟩ := hq
  have hU2 : UPR nn D1 (M2 0 3) := by rw [hu2]; exact hU.gr hR1
  refine ar_pop 313 d_219_312 rfl rfl ?_
  refine ar_goto 804 d_219_313 (by decide) ?_
  exact kk h3 ⟨D1, al2, AL2, M2, hP1.fr hsn (by rw [← hm]; exact hz2.1), hR3, hU2, by have := hz1.1; have := hz2.2.1; omega, by have := hz1.2.1; have := hz2.2.2; omega⟩
theorem lc_4 {L : Nat} {xs : Nat → Int32} {s0 n nn gg cc m B1 B2 cl i : Nat} {h : ax_H} {f : Nat → Int32} {post : ax_Po} (hL : L < 2 ^ 31) (hi : i + 6 ≤ L) (hm : m = n + 329 + 22 * nn) (hC : CG s0 n nn gg f) (hcc : cc ≤ nn) (hcl : cl < 512) (hW : LW s0 n nn gg cc m B1 B2 cl f h) (kk : ∀ h', LW s0 n nn gg cc m B1 B2 (cl + 1) f h' → ax_A (ax_step L xs) ((219, 804, 11, 394), [(0, .ref 0), (1, .ref s0), (2, .ref m), (3, .int (nI i))], [], h') post) : ax_A (ax_step L xs) ((219, 316, 11, 394), [(0, .ref 0), (1, .ref s0), (2, .ref m), (3, .int (nI i))], [], h) post := by
  obtain ⟨hs0, hsn, hnn3, hnn, hgg1, hgg, hRg⟩ := id hC
  obtain ⟨D, al, AL, M, hP, hR, hU, hr1, hr2⟩ := hW
  obtain ⟨fs1, hg1⟩ := hP.cell
  obtain ⟨fs2, hg2⟩ := hR.cell
  refine ar_aload_n 317 d_219_316 rfl rfl ?_
  refine ar_aload_n 318 d_219_317 rfl rfl ?_
  refine ar_iload_n 319 d_219_318 rfl rfl ?_
  refine ar_iconst 320 (v := 1) d_219_319 rfl (by decide) ?_
  refine ar_iadd 321 d_219_320 rfl ?_
  refine ar_top (x' := nI (i + 1)) (nI_add i 1) ?_
  refine ar_sald 322 d_219_321 rfl (nI_in (by omega) (by omega)) ?_
  refine ar_top (x' := xs (i + 1)) (by rw [nI_clamp (by omega)]) ?_
  refine ar_call (r := []) (na := 0) (kd := 0) (cm := 49) (fr2 := 11 - 1) (lo2 := 394 - 21) 325 d_219_322 (ar_hoV (as := [.int (xs (i + 1))]) rfl rfl rfl hg1) rfl (by omega) (show 394 - 21 + (19 + 2) = 394 by omega) (Nat.le_of_ble_eq_true rfl) (Nat.le_of_ble_eq_true rfl) (cp_49 (by omega) (by omega) hC hP) ?_
  intro v h2 hq
  obtain ⟨D1, rfl, hP1, hz1, hR1⟩ := hq
  rw [← hm] at hz1
  have hR2 := hR.fr hz1
  obtain ⟨fs3, hg3⟩ := hP1.cell
  obtain ⟨fs4, hg4⟩ := hR2.cell
  refine ar_aload_n 326 d_219_325 rfl rfl ?_
  refine ar_aload_n 327 d_219_326 rfl rfl ?_
  refine ar_iload_n 328 d_219_327 rfl rfl ?_
  refine ar_iconst 329 (v := 1) d_219_328 rfl (by decide) ?_
  refine ar_iadd 330 d_219_329 rfl ?_
  refine ar_top (x' := nI (i + 1)) (nI_add i 1) ?_
  refine ar_sald 331 d_219_330 rfl (nI_in (by omega) (by omega)) ?_
  refine ar_top (x' := xs (i + 1)) (by rw [nI_clamp (by omega)]) ?_
  refine ar_call (r := []) (na := 0) (kd := 0) (cm := 181) (fr2 := 11 - 1) (lo2 := 394 - 21) 334 d_219_331 (ar_hoV (as := [.int (xs (i + 1))]) rfl rfl rfl hg4) rfl (by omega) (show 394 - 21 + (19 + 2) = 394 by omega) (Nat.le_of_ble_eq_true rfl) (Nat.le_of_ble_eq_true rfl) (rp_181 (by omega) (by omega) hcc hnn hgg1 hgg hcl hR2) ?_
  intro v h3 hq
  obtain ⟨al2, AL2, M2, rfl, hR3, hz2, hu2⟩ := hq
  have hU2 : UPR nn D1 (M2 0 3) := by rw [hu2]; exact hU.gr hR1
  refine ar_goto 804 d_219_334 (by decide) ?_
  exact kk h3 ⟨D1, al2, AL2, M2, hP1.fr hsn (by rw [← hm]; exact hz2.1), hR3, hU2, by have := hz1.1; have := hz2.2.1; omega, by have := hz1.2.1; have := hz2.2.2; omega⟩
theorem lc_5 {L : Nat} {xs : Nat → Int32} {s0 n nn gg cc m B1 B2 cl i : Nat} {h : ax_H} {f : Nat → Int32} {post : ax_Po} (hL : L < 2 ^ 31) (hi : i + 6 ≤ L) (hm : m = n + 329 + 22 * nn) (hC : CG s0 n nn gg f) (hcc : cc ≤ nn) (hcl : cl < 512) (hW : LW s0 n nn gg cc m B1 B2 cl f h) (kk : ∀ h', LW s0 n nn gg cc m B1 B2 (cl + 1) f h' → ax_A (ax_step L xs) ((219, 804, 11, 394), [(0, .ref 0), (1, .ref s0), (2, .ref m), (3, .int (nI i))], [], h') post) : ax_A (ax_step L xs) ((219, 337, 11, 394), [(0, .ref 0), (1, .ref s0), (2, .ref m), (3, .int (nI i))], [], h) post := by
  obtain ⟨hs0, hsn, hnn3, hnn, hgg1, hgg, hRg⟩ := id hC
  obtain ⟨D, al, AL, M, hP, hR, hU, hr1, hr2⟩ := hW
  obtain ⟨fs1, hg1⟩ := hP.cell
  obtain ⟨fs2, hg2⟩ := hR.cell
  refine ar_aload_n 338 d_219_337 rfl rfl ?_
  refine ar_aload_n 339 d_219_338 rfl rfl ?_
  refine ar_iload_n 340 d_219_339 rfl rfl ?_
  refine ar_iconst 341 (v := 1) d_219_340 rfl (by decide) ?_
  refine ar_iadd 342 d_219_341 rfl ?_
  refine ar_top (x' := nI (i + 1)) (nI_add i 1) ?_
  refine ar_sald 343 d_219_342 rfl (nI_in (by omega) (by omega)) ?_
  refine ar_top (x' := xs (i + 1)) (by rw [nI_clamp (by omega)]) ?_
  refine ar_call (r := []) (na := 0) (kd := 0) (cm := 129) (fr2 := 11 - 1) (lo2 := 394 - 21) 346 d_219_343 (ar_hoV (as := [.int (xs (i + 1))]) rfl rfl rfl hg1) rfl (by omega) (show 394 - 21 + (19 + 2) = 394 by omega) (Nat.le_of_ble_eq_true rfl) (Nat.le_of_ble_eq_true rfl) (cp_129 (by omega) (by omega) hC hP) ?_
  intro v h2 hq
  obtain ⟨D1, rfl, hP1, hz1, hR1⟩ := hq
  rw [← hm] at hz1
  have hR2 := hR.fr hz1
  obtain ⟨fs3, hg3⟩ := hP1.cell
  obtain ⟨fs4, hg4⟩ := hR2.cell
  refine ar_aload_n 347 d_219_346 rfl rfl ?_
  refine ar_aload_n 348 d_219_347 rfl rfl ?_
  refine ar_iload_n 349 d_219_348 rfl rfl ?_
  refine ar_iconst 350 (v := 1) d_219_349 rfl (by decide) ?_
  refine ar_iadd 351 d_219_350 rfl ?_
  refine ar_top (x' := nI (i + 1)) (nI_add i 1) ?_
  refine ar_sald 352 d_219_351 rfl (nI_in (by omega) (by omega)) ?_
  refine ar_top (x' := xs (i + 1)) (by rw [nI_clamp (by omega)]) ?_
  refine ar_call (r := []) (na := 0) (kd := 0) (cm := 182) (fr2 := 11 - 1) (lo2 := 394 - 21) 355 d_219_352 (ar_hoV (as := [.int (xs (i + 1))]) rfl rfl rfl hg4) rfl (by omega) (show 394 - 21 + (19 + 2) = 394 by omega) (Nat.le_of_ble_eq_true rfl) (Nat.le_of_ble_eq_true rfl) (rp_182 (by omega) (by omega) hcc hnn hgg1 hgg hcl hR2) ?_
  intro v h3 hq
  obtain ⟨al2, AL2, M2, rfl, hR3, hz2, hu2⟩ := hq
  have hU2 : UPR nn D1 (M2 0 3) := by rw [hu2]; exact hU.gr hR1
  refine ar_goto 804 d_219_355 (by decide) ?_
  exact kk h3 ⟨D1, al2, AL2, M2, hP1.fr hsn (by rw [← hm]; exact hz2.1), hR3, hU2, by have := hz1.1; have := hz2.2.1; omega, by have := hz1.2.1; have := hz2.2.2; omega⟩
theorem lc_6 {L : Nat} {xs : Nat → Int32} {s0 n nn gg cc m B1 B2 cl i : Nat} {h : ax_H} {f : Nat → Int32} {post : ax_Po} (hL : L < 2 ^ 31) (hi : i + 6 ≤ L) (hm : m = n + 329 + 22 * nn) (hC : CG s0 n nn gg f) (hcc : cc ≤ nn) (hcl : cl < 512) (hW : LW s0 n nn gg cc m B1 B2 cl f h) (kk : ∀ h', LW s0 n nn gg cc m B1 B2 (cl + 1) f h' → ax_A (ax_step L xs) ((219, 804, 11, 394), [(0, .ref 0), (1, .ref s0), (2, .ref m), (3, .int (nI i))], [], h') post) : ax_A (ax_step L xs) ((219, 358, 11, 394), [(0, .ref 0), (1, .ref s0), (2, .ref m), (3, .int (nI i))], [], h) post := by
  obtain ⟨hs0, hsn, hnn3, hnn, hgg1, hgg, hRg⟩ := id hC
  obtain ⟨D, al, AL, M, hP, hR, hU, hr1, hr2⟩ := hW
  obtain ⟨fs1, hg1⟩ := hP.cell
  obtain ⟨fs2, hg2⟩ := hR.cell
  refine ar_aload_n 359 d_219_358 rfl rfl ?_
  refine ar_aload_n 360 d_219_359 rfl rfl ?_
  refine ar_iload_n 361 d_219_360 rfl rfl ?_
  refine ar_iconst 362 (v := 1) d_219_361 rfl (by decide) ?_
  refine ar_iadd 363 d_219_362 rfl ?_
  refine ar_top (x' := nI (i + 1)) (nI_add i 1) ?_
  refine ar_sald 364 d_219_363 rfl (nI_in (by omega) (by omega)) ?_
  refine ar_top (x' := xs (i + 1)) (by rw [nI_clamp (by omega)]) ?_
  refine ar_call (r := []) (na := 0) (kd := 0) (cm := 130) (fr2 := 11 - 1) (lo2 := 394 - 21) 367 d_219_364 (ar_hoV (as := [.int (xs (i + 1))]) rfl rfl rfl hg1) rfl (by omega) (show 394 - 21 + (19 + 2) = 394 by omega) (Nat.le_of_ble_eq_true rfl) (Nat.le_of_ble_eq_true rfl) (cp_130 (by omega) (by omega) hC hP) ?_
  intro v h2 hq
  obtain ⟨D1, rfl, hP1, hz1, hR1⟩ := hq
  rw [← hm] at hz1
  have hR2 := hR.fr hz1
  obtain ⟨fs3, hg3⟩ := hP1.cell
  obtain ⟨fs4, hg4⟩ := hR2.cell
  refine ar_aload_n 368 d_219_367 rfl rfl ?_
  refine ar_aload_n 369 d_219_368 rfl rfl ?_
  refine ar_iload_n 370 d_219_369 rfl rfl ?_
  refine ar_iconst 371 (v := 1) d_219_370 rfl (by decide) ?_
  refine ar_iadd 372 d_219_371 rfl ?_
  refine ar_top (x' := nI (i + 1)) (nI_add i 1) ?_
  refine ar_sald 373 d_219_372 rfl (nI_in (by omega) (by omega)) ?_
  refine ar_top (x' := xs (i + 1)) (by rw [nI_clamp (by omega)]) ?_
  refine ar_call (r := []) (na := 0) (kd := 0) (cm := 183) (fr2 := 11 - 1) (lo2 := 394 - 21) 376 d_219_373 (ar_hoV (as := [.int (xs (i + 1))]) rfl rfl rfl hg4) rfl (by omega) (show 394 - 21 + (19 + 2) = 394 by omega) (Nat.le_of_ble_eq_true rfl) (Nat.le_of_ble_eq_true rfl) (rp_183 (by omega) (by omega) hcc hnn hgg1 hgg hcl hR2) ?_
  intro v h3 hq
  obtain ⟨al2, AL2, M2, rfl, hR3, hz2, hu2⟩ := hq
  have hU2 : UPR nn D1 (M2 0 3) := by rw [hu2]; exact hU.gr hR1
  refine ar_goto 804 d_219_376 (by decide) ?_
  exact kk h3 ⟨D1, al2, AL2, M2, hP1.fr hsn (by rw [← hm]; exact hz2.1), hR3, hU2, by have := hz1.1; have := hz2.2.1; omega, by have := hz1.2.1; have := hz2.2.2; omega⟩
theorem lc_7 {L : Nat} {xs : Nat → Int32} {s0 n nn gg cc m B1 B2 cl i : Nat} {h : ax_H} {f : Nat → Int32} {post : ax_Po} (hL : L < 2 ^ 31) (hi : i + 6 ≤ L) (hm : m = n + 329 + 22 * nn) (hC : CG s0 n nn gg f) (hcc : cc ≤ nn) (hcl : cl < 512) (hW : LW s0 n nn gg cc m B1 B2 cl f h) (kk : ∀ h', LW s0 n nn gg cc m B1 B2 (cl + 1) f h' → ax_A (ax_step L xs) ((219, 804, 11, 394), [(0, .ref 0), (1, .ref s0), (2, .ref m), (3, .int (nI i))], [], h') post) : ax_A (ax_step L xs) ((219, 379, 11, 394), [(0, .ref 0), (1, .ref s0), (2, .ref m), (3, .int (nI i))], [], h) post := by
  obtain ⟨hs0, hsn, hnn3, hnn, hgg1, hgg, hRg⟩ := id hC
  obtain ⟨D, al, AL, M, hP, hR, hU, hr1, hr2⟩ := hW
  obtain ⟨fs1, hg1⟩ := hP.cell
  obtain ⟨fs2, hg2⟩ := hR.cell
  refine ar_aload_n 380 d_219_379 rfl rfl ?_
  refine ar_aload_n 381 d_219_380 rfl rfl ?_
  refine ar_iload_n 382 d_219_381 rfl rfl ?_
  refine ar_iconst 383 (v := 1) d_219_382 rfl (by decide) ?_
  refine ar_iadd 384 d_219_383 rfl ?_
  refine ar_top (x' := nI (i + 1)) (nI_add i 1) ?_
  refine ar_sald 385 d_219_384 rfl (nI_in (by omega) (by omega)) ?_
  refine ar_top (x' := xs (i + 1)) (by rw [nI_clamp (by omega)]) ?_
  refine ar_aload_n 386 d_219_385 rfl rfl ?_
  refine ar_iload_n 387 d_219_386 rfl rfl ?_
  refine ar_iconst 388 (v := 2) d_219_387 rfl (by decide) ?_
  refine ar_iadd 389 d_219_388 rfl ?_
  refine ar_top (x' := nI (i + 2)) (nI_add i 2) ?_
  refine ar_sald 390 d_219_389 rfl (nI_in (by omega) (by omega)) ?_
  refine ar_top (x' := xs (i + 2)) (by rw [nI_clamp (by omega)]) ?_
  refine ar_call (r := []) (na := 0) (kd := 0) (cm := 131) (fr2 := 11 - 1) (lo2 := 394 - 27) 393 d_219_390 (ar_hoV (as := [.int (xs (i + 1)), .int (xs (i + 2))]) rfl rfl rfl hg1) rfl (by omega) (show 394 - 27 + (19 + 8) = 394 by omega) (Nat.le_of_ble_eq_true rfl) (Nat.le_of_ble_eq_true rfl) (cp_131 (by omega) (by omega) hC hP) ?_
  intro v h2 hq
  obtain ⟨y1, D1, rfl, hP1, hz1, ⟨hR1, hy1⟩⟩ := hq
  rw [← hm] at hz1
  have hR2 := hR.fr hz1
  obtain ⟨fs3, hg3⟩ := hP1.cell
  obtain ⟨fs4, hg4⟩ := hR2.cell
  refine ar_pop 394 d_219_393 rfl rfl ?_
  refine ar_aload_n 395 d_219_394 rfl rfl ?_
  refine ar_aload_n 396 d_219_395 rfl rfl ?_
  refine ar_iload_n 397 d_219_396 rfl rfl ?_
  refine ar_iconst 398 (v := 1) d_219_397 rfl (by decide) ?_
  refine ar_iadd 399 d_219_398 rfl ?_
  refine ar_top (x' := nI (i + 1)) (nI_add i 1) ?_
  refine ar_sald 400 d_219_399 rfl (nI_in (by omega) (by omega)) ?_
  refine ar_top (x' := xs (i + 1)) (by rw [nI_clamp (by omega)]) ?_
  refine ar_aload_n 401 d_219_400 rfl rfl ?_
  refine ar_iload_n 402 d_219_401 rfl rfl ?_
  refine ar_iconst 403 (v := 2) d_219_402 rfl (by decide) ?_
  refine ar_iadd 404 d_219_403 rfl ?_
  refine ar_top (x' := nI (i + 2)) (nI_add i 2) ?_
  refine ar_sald 405 d_219_404 rfl (nI_in (by omega) (by omega)) ?_
  refine ar_top (x' := xs (i + 2)) (by rw [nI_clamp (by omega)]) ?_
  refine ar_call (r := []) (na := 0) (kd := 0) (cm := 184) (fr2 := 11 - 1) (lo2 := 394 - 22) 408 d_219_405 (ar_hoV (as := [.int (xs (i + 1)), .int (xs (i + 2))]) rfl rfl rfl hg4) rfl (by omega) (show 394 - 22 + (19 + 3) = 394 by omega) (Nat.le_of_ble_eq_true rfl) (Nat.le_of_ble_eq_true rfl) (rp_184 (by omega) (by omega) hcc hnn hgg1 hgg hcl hR2) ?_
  intro v h3 hq
  obtain ⟨y2, al2, AL2, M2, rfl, hR3, hz2, ⟨hu2, hy2⟩⟩ := hq
  have hU2 : UPR nn D1 (M2 0 3) := by rw [hu2]; exact hU.gr hR1
  refine ar_pop 409 d_219_408 rfl rfl ?_
  refine ar_goto 804 d_219_409 (by decide) ?_
  exact kk h3 ⟨D1, al2, AL2, M2, hP1.fr hsn (by rw [← hm]; exact hz2.1), hR3, hU2, by have := hz1.1; have := hz2.2.1; omega, by have := hz1.2.1; have := hz2.2.2; omega⟩
theorem lc_8 {L : Nat} {xs : Nat → Int32} {s0 n nn gg cc m B1 B2 cl i : Nat} {h : ax_H} {f : Nat → Int32} {post : ax_Po} (hL : L < 2 ^ 31) (hi : i + 6 ≤ L) (hm : m = n + 329 + 22 * nn) (hC : CG s0 n nn gg f) (hcc : cc ≤ nn) (hcl : cl < 512) (hW : LW s0 n nn gg cc m B1 B2 cl f h) (kk : ∀ h', LW s0 n nn gg cc m B1 B2 (cl + 1) f h' → ax_A (ax_step L xs) ((219, 804, 11, 394), [(0, .ref 0), (1, .ref s0), (2, .ref m), (3, .int (nI i))], [], h') post) : ax_A (ax_step L xs) ((219, 412, 11, 394), [(0, .ref 0), (1, .ref s0), (2, .ref m), (3, .int (nI i))], [], h) post := by
  obtain ⟨hs0, hsn, hnn3, hnn, hgg1, hgg, hRg⟩ := id hC
  obtain ⟨D, al, AL, M, hP, hR, hU, hr1, hr2⟩ := hW
  obtain ⟨fs1, hg1⟩ := hP.cell
  obtain ⟨fs2, hg2⟩ := hR.cell
  refine ar_aload_n 413 d_219_412 rfl rfl ?_
  refine ar_aload_n 414 d_219_413 rfl rfl ?_
  refine ar_iload_n 415 d_219_414 rfl rfl ?_
  refine ar_iconst 416 (v := 1) d_219_415 rfl (by decide) ?_
  refine ar_iadd 417 d_219_416 rfl ?_
  refine ar_top (x' := nI (i + 1)) (nI_add i 1) ?_
  refine ar_sald 418 d_219_417 rfl (nI_in (by omega) (by omega)) ?_
  refine ar_top (x' := xs (i + 1)) (by rw [nI_clamp (by omega)]) ?_
  refine ar_call (r := []) (na := 0) (kd := 0) (cm := 132) (fr2 := 11 - 1) (lo2 := 394 - 22) 421 d_219_418 (ar_hoV (as := [.int (xs (i + 1))]) rfl rfl rfl hg1) rfl (by omega) (show 394 - 22 + (19 + 3) = 394 by omega) (Nat.le_of_ble_eq_true rfl) (Nat.le_of_ble_eq_true rfl) (cp_132 (by omega) (by omega) hC hP) ?_
  intro v h2 hq
  obtain ⟨y1, D1, rfl, hP1, hz1, ⟨hR1, hy1⟩⟩ := hq
  rw [← hm] at hz1
  have hR2 := hR.fr hz1
  obtain ⟨fs3, hg3⟩ := hP1.cell
  obtain ⟨fs4, hg4⟩ := hR2.cell
  refine ar_pop 422 d_219_421 rfl rfl ?_
  refine ar_aload_n 423 d_219_422 rfl rfl ?_
  refine ar_aload_n 424 d_219_423 rfl rfl ?_
  refine ar_iload_n 425 d_219_424 rfl rfl ?_
  refine ar_iconst 426 (v := 1) d_219_425 rfl (by decide) ?_
  refine ar_iadd 427 d_219_426 rfl ?_
  refine ar_top (x' := nI (i + 1)) (nI_add i 1) ?_
  refine ar_sald 428 d_219_427 rfl (nI_in (by omega) (by omega)) ?_
  refine ar_top (x' := xs (i + 1)) (by rw [nI_clamp (by omega)]) ?_
  refine ar_call (r := []) (na := 0) (kd := 0) (cm := 185) (fr2 := 11 - 1) (lo2 := 394 - 21) 431 d_219_428 (ar_hoV (as := [.int (xs (i + 1))]) rfl rfl rfl hg4) rfl (by omega) (show 394 - 21 + (19 + 2) = 394 by omega) (Nat.le_of_ble_eq_true rfl) (Nat.le_of_ble_eq_true rfl) (rp_185 (by omega) (by omega) hcc hnn hgg1 hgg hcl hR2) ?_
  intro v h3 hq
  obtain ⟨y2, al2, AL2, M2, rfl, hR3, hz2, ⟨hu2, hy2⟩⟩ := hq
  have hU2 : UPR nn D1 (M2 0 3) := by rw [hu2]; exact hU.gr hR1
  refine ar_pop 432 d_219_431 rfl rfl ?_
  refine ar_goto 804 d_219_432 (by decide) ?_
  exact kk h3 ⟨D1, al2, AL2, M2, hP1.fr hsn (by rw [← hm]; exact hz2.1), hR3, hU2, by have := hz1.1; have := hz2.2.1; omega, by have := hz1.2.1; have := hz2.2.2; omega⟩
theorem lc_9 {L : Nat} {xs : Nat → Int32} {s0 n nn gg cc m B1 B2 cl i : Nat} {h : ax_H} {f : Nat → Int32} {post : ax_Po} (hL : L < 2 ^ 31) (hi : i + 6 ≤ L) (hm : m = n + 329 + 22 * nn) (hC : CG s0 n nn gg f) (hcc : cc ≤ nn) (hcl : cl < 512) (hW : LW s0 n nn gg cc m B1 B2 cl f h) (kk : ∀ h', LW s0 n nn gg cc m B1 B2 (cl + 1) f h' → ax_A (ax_step L xs) ((219, 804, 11, 394), [(0, .ref 0), (1, .ref s0), (2, .ref m), (3, .int (nI i))], [], h') post) : ax_A (ax_step L xs) ((219, 435, 11, 394), [(0, .ref 0), (1, .ref s0), (2, .ref m), (3, .int (nI i))], [], h) post := by
  obtain ⟨hs0, hsn, hnn3, hnn, hgg1, hgg, hRg⟩ := id hC
  obtain ⟨D, al, AL, M, hP, hR, hU, hr1, hr2⟩ := hW
  obtain ⟨fs1, hg1⟩ := hP.cell
  obtain ⟨fs2, hg2⟩ := hR.cell
  refine ar_aload_n 436 d_219_435 rfl rfl ?_
  refine ar_aload_n 437 d_219_436 rfl rfl ?_
  refine ar_iload_n 438 d_219_437 rfl rfl ?_
  refine ar_iconst 439 (v := 1) d_219_438 rfl (by decide) ?_
  refine ar_iadd 440 d_219_439 rfl ?_
  refine ar_top (x' := nI (i + 1)) (nI_add i 1) ?_
  refine ar_sald 441 d_219_440 rfl (nI_in (by omega) (by omega)) ?_
  refine ar_top (x' := xs (i + 1)) (by rw [nI_clamp (by omega)]) ?_
  refine ar_aload_n 442 d_219_441 rfl rfl ?_
  refine ar_iload_n 443 d_219_442 rfl rfl ?_
  refine ar_iconst 444 (v := 2) d_219_443 rfl (by decide) ?_
  refine ar_iadd 445 d_219_444 rfl ?_
  refine ar_top (x' := nI (i + 2)) (nI_add i 2) ?_
  refine ar_sald 446 d_219_445 rfl (nI_in (by omega) (by omega)) ?_
  refine ar_top (x' := xs (i + 2)) (by rw [nI_clamp (by omega)]) ?_
  refine ar_aload_n 447 d_219_446 rfl rfl ?_
  refine ar_iload_n 448 d_219_447 rfl rfl ?_
  refine ar_iconst 449 (v := 3) d_219_448 rfl (by decide) ?_
  refine ar_iadd 450 d_219_449 rfl ?_
  refine ar_top (x' := nI (i + 3)) (nI_add i 3) ?_
  refine ar_sald 451 d_219_450 rfl (nI_in (by omega) (by omega)) ?_
  refine ar_top (x' := xs (i + 3)) (by rw [nI_clamp (by omega)]) ?_
  refine ar_call (r := []) (na := 0) (kd := 0) (cm := 141) (fr2 := 11 - 1) (lo2 := 394 - 23) 454 d_219_451 (ar_hoV (as := [.int (xs (i + 1)), .int (xs (i + 2)), .int (xs (i + 3))]) rfl rfl rfl hg1) rfl (by omega) (show 394 - 23 + (19 + 4) = 394 by omega) (Nat.le_of_ble_eq_true rfl) (Nat.le_of_ble_eq_true rfl) (cp_141 (by omega) (by omega) hC hP) ?_
  intro v h2 hq
  obtain ⟨y1, D1, rfl, hP1, hz1, hq1⟩ := hq
  rw [← hm] at hz1
  have hR2 := hR.fr hz1
  obtain ⟨fs3, hg3⟩ := hP1.cell
  obtain ⟨fs4, hg4⟩ := hR2.cell
  refine ar_pop 455 d_219_454 rfl rfl ?_
  refine ar_aload_n 456 d_219_455 rfl rfl ?_
  refine ar_aload_n 457 d_219_456 rfl rfl ?_
  refine ar_iload_n 458 d_219_457 rfl rfl ?_
  refine ar_iconst 459 (v := 1) d_219_458 rfl (by decide) ?_
  refine ar_iadd 460 d_219_459 rfl ?_
  refine ar_top (x' := nI (i + 1)) (nI_add i 1) ?_
  refine ar_sald 461 d_219_460 rfl (nI_in (by omega) (by omega)) ?_
  refine ar_top (x' := xs (i + 1)) (by rw [nI_clamp (by omega)]) ?_
  refine ar_aload_n 462 d_219_461 rfl rfl ?_
  refine ar_iload_n 463 d_219_462 rfl rfl ?_
  refine ar_iconst 464 (v := 2) d_219_463 rfl (by decide) ?_
  refine ar_iadd 465 d_219_464 rfl ?_
  refine ar_top (x' := nI (i + 2)) (nI_add i 2) ?_
  refine ar_sald 466 d_219_465 rfl (nI_in (by omega) (by omega)) ?_
  refine ar_top (x' := xs (i + 2)) (by rw [nI_clamp (by omega)]) ?_
  refine ar_aload_n 467 d_219_466 rfl rfl ?_
  refine ar_iload_n 468 d_219_467 rfl rfl ?_
  refine ar_iconst 469 (v := 3) d_219_468 rfl (by decide) ?_
  refine ar_iadd 470 d_219_469 rfl ?_
  refine ar_top (x' := nI (i + 3)) (nI_add i 3) ?_
  refine ar_sald 471 d_219_470 rfl (nI_in (by omega) (by omega)) ?_
  refine ar_top (x' := xs (i + 3)) (by rw [nI_clamp (by omega)]) ?_
  refine ar_call (r := []) (na := 0) (kd := 0) (cm := 186) (fr2 := 11 - 1) (lo2 := 394 - 23) 474 d_219_471 (ar_hoV (as := [.int (xs (i + 1)), .int (xs (i + 2)), .int (xs (i + 3))]) rfl rfl rfl hg4) rfl (by omega) (show 394 - 23 + (19 + 4) = 394 by omega) (Nat.le_of_ble_eq_true rfl) (Nat.le_of_ble_eq_true rfl) (rp_186 (by omega) (by omega) hcc hnn hgg1 hgg hcl hR2) ?_
  intro v h3 hq
  obtain ⟨y2, al2, AL2, M2, rfl, hR3, hz2, hq2⟩ := hq
  obtain ⟨hye, hU2⟩ := cr_eq hnn hU hR.2.2.1.1 hq1 hq2
  refine ar_pop 475 d_219_474 rfl rfl ?_
  refine ar_goto 804 d_219_475 (by decide) ?_
  exact kk h3 ⟨D1, al2, AL2, M2, hP1.fr hsn (by rw [← hm]; exact hz2.1), hR3, hU2, by have := hz1.1; have := hz2.2.1; omega, by have := hz1.2.1; have := hz2.2.2; omega⟩
theorem lc_10 {L : Nat} {xs : Nat → Int32} {s0 n nn gg cc m B1 B2 cl i : Nat} {h : ax_H} {f : Nat → Int32} {post : ax_Po} (hL : L < 2 ^ 31) (hi : i + 6 ≤ L) (hm : m = n + 329 + 22 * nn) (hC : CG s0 n nn gg f) (hcc : cc ≤ nn) (hcl : cl < 512) (hW : LW s0 n nn gg cc m B1 B2 cl f h) (kk : ∀ h', LW s0 n nn gg cc m B1 B2 (cl + 1) f h' → ax_A (ax_step L xs) ((219, 804, 11, 394), [(0, .ref 0), (1, .ref s0), (2, .ref m), (3, .int (nI i))], [], h') post) : ax_A (ax_step L xs) ((219, 478, 11, 394), [(0, .ref 0), (1, .ref s0), (2, .ref m), (3, .int (nI i))], [], h) post := by
  obtain ⟨hs0, hsn, hnn3, hnn, hgg1, hgg, hRg⟩ := id hC
  obtain ⟨D, al, AL, M, hP, hR, hU, hr1, hr2⟩ := hW
  obtain ⟨fs1, hg1⟩ := hP.cell
  obtain ⟨fs2, hg2⟩ := hR.cell
  refine ar_aload_n 479 d_219_478 rfl rfl ?_
  refine ar_aload_n 480 d_219_479 rfl rfl ?_
  refine ar_iload_n 481 d_219_480 rfl rfl ?_
  refine ar_iconst 482 (v := 1) d_219_481 rfl (by decide) ?_
  refine ar_iadd 483 d_219_482 rfl ?_
  refine ar_top (x' := nI (i + 1)) (nI_add i 1) ?_
  refine ar_sald 484 d_219_483 rfl (nI_in (by omega) (by omega)) ?_
  refine ar_top (x' := xs (i + 1)) (by rw [nI_clamp (by omega)]) ?_
  refine ar_call (r := []) (na := 0) (kd := 0) (cm := 144) (fr2 := 11 - 1) (lo2 := 394 - 21) 487 d_219_484 (ar_hoV (as := [.int (xs (i + 1))]) rfl rfl rfl hg1) rfl (by omega) (show 394 - 21 + (19 + 2) = 394 by omega) (Nat.le_of_ble_eq_true rfl) (Nat.le_of_ble_eq_true rfl) (cp_144 (by omega) (by omega) hC hP) ?_
  intro v h2 hq
  obtain ⟨y1, D1, rfl, hP1, hz1, hq1⟩ := hq
  rw [← hm] at hz1
  have hR2 := hR.fr hz1
  obtain ⟨fs3, hg3⟩ := hP1.cell
  obtain ⟨fs4, hg4⟩ := hR2.cell
  refine ar_aload_n 488 d_219_487 rfl rfl ?_
  refine ar_aload_n 489 d_219_488 rfl rfl ?_
  refine ar_iload_n 490 d_219_489 rfl rfl ?_
  refine ar_iconst 491 (v := 1) d_219_490 rfl (by decide) ?_
  refine ar_iadd 492 d_219_491 rfl ?_
  refine ar_top (x' := nI (i + 1)) (nI_add i 1) ?_
  refine ar_sald 493 d_219_492 rfl (nI_in (by omega) (by omega)) ?_
  refine ar_top (x' := xs (i + 1)) (by rw [nI_clamp (by omega)]) ?_
  refine ar_call (r := [.int y1]) (na := 0) (kd := 0) (cm := 188) (fr2 := 11 - 1) (lo2 := 394 - 21) 496 d_219_493 (ar_hoV (as := [.int (xs (i + 1))]) rfl rfl rfl hg4) rfl (by omega) (show 394 - 21 + (19 + 2) = 394 by omega) (Nat.le_of_ble_eq_true rfl) (Nat.le_of_ble_eq_true rfl) (rp_188 (by omega) (by omega) hcc hnn hgg1 hgg hcl hR2) ?_
  intro v h3 hq
  obtain ⟨y2, al2, AL2, M2, rfl, hR3, hz2, hq2⟩ := hq
  obtain ⟨hye, hU2⟩ := rs_eq hnn hU hR.2.2.1.1 hq1 hq2
  refine ar_icmp_eq 804 499 d_219_496 (by decide) rfl (fun _ => ?_) (fun c => absurd (hye) c)
  exact kk h3 ⟨D1, al2, AL2, M2, hP1.fr hsn (by rw [← hm]; exact hz2.1), hR3, hU2, by have := hz1.1; have := hz2.2.1; omega, by have := hz1.2.1; have := hz2.2.2; omega⟩
theorem lc_11 {L : Nat} {xs : Nat → Int32} {s0 n nn gg cc m B1 B2 cl i : Nat} {h : ax_H} {f : Nat → Int32} {post : ax_Po} (hL : L < 2 ^ 31) (hi : i + 6 ≤ L) (hm : m = n + 329 + 22 * nn) (hC : CG s0 n nn gg f) (hcc : cc ≤ nn) (hcl : cl < 512) (hW : LW s0 n nn gg cc m B1 B2 cl f h) (kk : ∀ h', LW s0 n nn gg cc m B1 B2 (cl + 1) f h' → ax_A (ax_step L xs) ((219, 804, 11, 394), [(0, .ref 0), (1, .ref s0), (2, .ref m), (3, .int (nI i))], [], h') post) : ax_A (ax_step L xs) ((219, 501, 11, 394), [(0, .ref 0), (1, .ref s0), (2, .ref m), (3, .int (nI i))], [], h) post := by
  obtain ⟨hs0, hsn, hnn3, hnn, hgg1, hgg, hRg⟩ := id hC
  obtain ⟨D, al, AL, M, hP, hR, hU, hr1, hr2⟩ := hW
  obtain ⟨fs1, hg1⟩ := hP.cell
  obtain ⟨fs2, hg2⟩ := hR.cell
  refine ar_aload_n 502 d_219_501 rfl rfl ?_
  refine ar_aload_n 503 d_219_502 rfl rfl ?_
  refine ar_iload_n 504 d_219_503 rfl rfl ?_
  refine ar_iconst 505 (v := 1) d_219_504 rfl (by decide) ?_
  refine ar_iadd 506 d_219_505 rfl ?_
  refine ar_top (x' := nI (i + 1)) (nI_add i 1) ?_
  refine ar_sald 507 d_219_506 rfl (nI_in (by omega) (by omega)) ?_
  refine ar_top (x' := xs (i + 1)) (by rw [nI_clamp (by omega)]) ?_
  refine ar_call (r := []) (na := 0) (kd := 0) (cm := 145) (fr2 := 11 - 1) (lo2 := 394 - 21) 510 d_219_507 (ar_hoV (as := [.int (xs (i + 1))]) rfl rfl rfl hg1) rfl (by omega) (show 394 - 21 + (19 + 2) = 394 by omega) (Nat.le_of_ble_eq_true rfl) (Nat.le_of_ble_eq_true rfl) (cp_145 (by omega) (by omega) hC hP) ?_
  intro v h2 hq
  obtain ⟨y1, D1, rfl, hP1, hz1, hR1⟩ := hq
  rw [← hm] at hz1
  have hR2 := hR.fr hz1
  obtain ⟨fs3, hg3⟩ := hP1.cell
  obtain ⟨fs4, hg4⟩ := hR2.cell
  refine ar_pop 511 d_219_510 rfl rfl ?_
  refine ar_aload_n 512 d_219_511 rfl rfl ?_
  refine ar_aload_n 513 d_219_512 rfl rfl ?_
  refine ar_iload_n 514 d_219_513 rfl rfl ?_
  refine ar_iconst 515 (v := 1) d_219_514 rfl (by decide) ?_
  refine ar_iadd 516 d_219_515 rfl ?_
  refine ar_top (x' := nI (i + 1)) (nI_add i 1) ?_
  refine ar_sald 517 d_219_516 rfl (nI_in (by omega) (by omega)) ?_
  refine ar_top (x' := xs (i + 1)) (by rw [nI_clamp (by omega)]) ?_
  refine ar_call (r := []) (na := 0) (kd := 0) (cm := 190) (fr2 := 11 - 1) (lo2 := 394 - 21) 520 d_219_517 (ar_hoV (as := [.int (xs (i + 1))]) rfl rfl rfl hg4) rfl (by omega) (show 394 - 21 + (19 + 2) = 394 by omega) (Nat.le_of_ble_eq_true rfl) (Nat.le_of_ble_eq_true rfl) (rp_190 (by omega) (by omega) hcc hnn hgg1 hgg hcl hR2) ?_
  intro v h3 hq
  obtain ⟨y2, al2, AL2, M2, rfl, hR3, hz2, hu2⟩ := hq
  have hU2 : UPR nn D1 (M2 0 3) := by rw [hu2]; exact hU.gr hR1
  refine ar_pop 521 d_219_520 rfl rfl ?_
  refine ar_goto 804 d_219_521 (by decide) ?_
  exact kk h3 ⟨D1, al2, AL2, M2, hP1.fr hsn (by rw [← hm]; exact hz2.1), hR3, hU2, by have := hz1.1; have := hz2.2.1; omega, by have := hz1.2.1; have := hz2.2.2; omega⟩
theorem lc_12 {L : Nat} {xs : Nat → Int32} {s0 n nn gg cc m B1 B2 cl i : Nat} {h : ax_H} {f : Nat → Int32} {post : ax_Po} (hL : L < 2 ^ 31) (hi : i + 6 ≤ L) (hm : m = n + 329 + 22 * nn) (hC : CG s0 n nn gg f) (hcc : cc ≤ nn) (hcl : cl < 512) (hW : LW s0 n nn gg cc m B1 B2 cl f h) (kk : ∀ h', LW s0 n nn gg cc m B1 B2 (cl + 1) f h' → ax_A (ax_step L xs) ((219, 804, 11, 394), [(0, .ref 0), (1, .ref s0), (2, .ref m), (3, .int (nI i))], [], h') post) : ax_A (ax_step L xs) ((219, 524, 11, 394), [(0, .ref 0), (1, .ref s0), (2, .ref m), (3, .int (nI i))], [], h) post := by
  obtain ⟨hs0, hsn, hnn3, hnn, hgg1, hgg, hRg⟩ := id hC
  obtain ⟨D, al, AL, M, hP, hR, hU, hr1, hr2⟩ := hW
  obtain ⟨fs1, hg1⟩ := hP.cell
  obtain ⟨fs2, hg2⟩ := hR.cell
  refine ar_aload_n 525 d_219_524 rfl rfl ?_
  refine ar_aload_n 526 d_219_525 rfl rfl ?_
  refine ar_iload_n 527 d_219_526 rfl rfl ?_
  refine ar_iconst 528 (v := 1) d_219_527 rfl (by decide) ?_
  refine ar_iadd 529 d_219_528 rfl ?_
  refine ar_top (x' := nI (i + 1)) (nI_add i 1) ?_
  refine ar_sald 530 d_219_529 rfl (nI_in (by omega) (by omega)) ?_
  refine ar_top (x' := xs (i + 1)) (by rw [nI_clamp (by omega)]) ?_
  refine ar_call (r := []) (na := 0) (kd := 0) (cm := 148) (fr2 := 11 - 1) (lo2 := 394 - 21) 533 d_219_530 (ar_hoV (as := [.int (xs (i + 1))]) rfl rfl rfl hg1) rfl (by omega) (show 394 - 21 + (19 + 2) = 394 by omega) (Nat.le_of_ble_eq_true rfl) (Nat.le_of_ble_eq_true rfl) (cp_148 (by omega) (by omega) hC hP) ?_
  intro v h2 hq
  obtain ⟨y1, D1, rfl, hP1, hz1, hR1⟩ := hq
  rw [← hm] at hz1
  have hR2 := hR.fr hz1
  obtain ⟨fs3, hg3⟩ := hP1.cell
  obtain ⟨fs4, hg4⟩ := hR2.cell
  refine ar_pop 534 d_219_533 rfl rfl ?_
  refine ar_aload_n 535 d_219_534 rfl rfl ?_
  refine ar_aload_n 536 d_219_535 rfl rfl ?_
  refine ar_iload_n 537 d_219_536 rfl rfl ?_
  refine ar_iconst 538 (v := 1) d_219_537 rfl (by decide) ?_
  refine ar_iadd 539 d_219_538 rfl ?_
  refine ar_top (x' := nI (i + 1)) (nI_add i 1) ?_
  refine ar_sald 540 d_219_539 rfl (nI_in (by omega) (by omega)) ?_
  refine ar_top (x' := xs (i + 1)) (by rw [nI_clamp (by omega)]) ?_
  refine ar_call (r := []) (na := 0) (kd := 0) (cm := 191) (fr2 := 11 - 1) (lo2 := 394 - 21) 543 d_219_540 (ar_hoV (as := [.int (xs (i + 1))]) rfl rfl rfl hg4) rfl (by omega) (show 394 - 21 + (19 + 2) = 394 by omega) (Nat.le_of_ble_eq_true rfl) (Nat.le_of_ble_eq_true rfl) (rp_191 (by omega) (by omega) hcc hnn hgg1 hgg hcl hR2) ?_
  intro v h3 hq
  obtain ⟨y2, al2, AL2, M2, rfl, hR3, hz2, hu2⟩ := hq
  have hU2 : UPR nn D1 (M2 0 3) := by rw [hu2]; exact hU.gr hR1
  refine ar_pop 544 d_219_543 rfl rfl ?_
  refine ar_goto 804 d_219_544 (by decide) ?_
  exact kk h3 ⟨D1, al2, AL2, M2, hP1.fr hsn (by rw [← hm]; exact hz2.1), hR3, hU2, by have := hz1.1; have := hz2.2.1; omega, by have := hz1.2.1; have := hz2.2.2; omega⟩
theorem lc_13 {L : Nat} {xs : Nat → Int32} {s0 n nn gg cc m B1 B2 cl i : Nat} {h : ax_H} {f : Nat → Int32} {post : ax_Po} (hL : L < 2 ^ 31) (hi : i + 6 ≤ L) (hm : m = n + 329 + 22 * nn) (hC : CG s0 n nn gg f) (hcc : cc ≤ nn) (hcl : cl < 512) (hW : LW s0 n nn gg cc m B1 B2 cl f h) (kk : ∀ h', LW s0 n nn gg cc m B1 B2 (cl + 1) f h' → ax_A (ax_step L xs) ((219, 804, 11, 394), [(0, .ref 0), (1, .ref s0), (2, .ref m), (3, .int (nI i))], [], h') post) : ax_A (ax_step L xs) ((219, 547, 11, 394), [(0, .ref 0), (1, .ref s0), (2, .ref m), (3, .int (nI i))], [], h) post := by
  obtain ⟨hs0, hsn, hnn3, hnn, hgg1, hgg, hRg⟩ := id hC
  obtain ⟨D, al, AL, M, hP, hR, hU, hr1, hr2⟩ := hW
  obtain ⟨fs1, hg1⟩ := hP.cell
  obtain ⟨fs2, hg2⟩ := hR.cell
  refine ar_aload_n 548 d_219_547 rfl rfl ?_
  refine ar_call (r := []) (na := 0) (kd := 0) (cm := 150) (fr2 := 11 - 1) (lo2 := 394 - 23) 551 d_219_548 (ar_hoV (as := []) rfl rfl rfl hg1) rfl (by omega) (show 394 - 23 + (19 + 4) = 394 by omega) (Nat.le_of_ble_eq_true rfl) (Nat.le_of_ble_eq_true rfl) (cp_150 (by omega) (by omega) hC hP) ?_
  intro v h2 hq
  obtain ⟨y1, D1, rfl, hP1, hz1, hU1⟩ := hq
  rw [← hm] at hz1
  have hR2 := hR.fr hz1
  obtain ⟨fs3, hg3⟩ := hP1.cell
  obtain ⟨fs4, hg4⟩ := hR2.cell
  refine ar_pop 552 d_219_551 rfl rfl ?_
  refine ar_aload_n 553 d_219_552 rfl rfl ?_
  refine ar_call (r := []) (na := 0) (kd := 0) (cm := 192) (fr2 := 11 - 1) (lo2 := 394 - 25) 556 d_219_553 (ar_hoV (as := []) rfl rfl rfl hg4) rfl (by omega) (show 394 - 25 + (19 + 6) = 394 by omega) (Nat.le_of_ble_eq_true rfl) (Nat.le_of_ble_eq_true rfl) (rp_192 (by omega) (by omega) hcc hnn hgg1 hgg hcl hR2) ?_
  intro v h3 hq
  obtain ⟨y2, al2, AL2, M2, rfl, hR3, hz2, hu2⟩ := hq
  have hU2 : UPR nn D1 (M2 0 3) := by rw [hu2]; exact UPR.all hnn3 hnn hU1
  refine ar_pop 557 d_219_556 rfl rfl ?_
  refine ar_goto 804 d_219_557 (by decide) ?_
  exact kk h3 ⟨D1, al2, AL2, M2, hP1.fr hsn (by rw [← hm]; exact hz2.1), hR3, hU2, by have := hz1.1; have := hz2.2.1; omega, by have := hz1.2.1; have := hz2.2.2; omega⟩
theorem lc_14 {L : Nat} {xs : Nat → Int32} {s0 n nn gg cc m B1 B2 cl i : Nat} {h : ax_H} {f : Nat → Int32} {post : ax_Po} (hL : L < 2 ^ 31) (hi : i + 6 ≤ L) (hm : m = n + 329 + 22 * nn) (hC : CG s0 n nn gg f) (hcc : cc ≤ nn) (hcl : cl < 512) (hW : LW s0 n nn gg cc m B1 B2 cl f h) (kk : ∀ h', LW s0 n nn gg cc m B1 B2 (cl + 1) f h' → ax_A (ax_step L xs) ((219, 804, 11, 394), [(0, .ref 0), (1, .ref s0), (2, .ref m), (3, .int (nI i))], [], h') post) : ax_A (ax_step L xs) ((219, 560, 11, 394), [(0, .ref 0), (1, .ref s0), (2, .ref m), (3, .int (nI i))], [], h) post := by
  obtain ⟨hs0, hsn, hnn3, hnn, hgg1, hgg, hRg⟩ := id hC
  obtain ⟨D, al, AL, M, hP, hR, hU, hr1, hr2⟩ := hW
  obtain ⟨fs1, hg1⟩ := hP.cell
  obtain ⟨fs2, hg2⟩ := hR.cell
  refine ar_aload_n 561 d_219_560 rfl rfl ?_
  refine ar_aload_n 562 d_219_561 rfl rfl ?_
  refine ar_iload_n 563 d_219_562 rfl rfl ?_
  refine ar_iconst 564 (v := 1) d_219_563 rfl (by decide) ?_
  refine ar_iadd 565 d_219_564 rfl ?_
  refine ar_top (x' := nI (i + 1)) (nI_add i 1) ?_
  refine ar_sald 566 d_219_565 rfl (nI_in (by omega) (by omega)) ?_
  refine ar_top (x' := xs (i + 1)) (by rw [nI_clamp (by omega)]) ?_
  refine ar_call (r := []) (na := 0) (kd := 0) (cm := 160) (fr2 := 11 - 1) (lo2 := 394 - 21) 569 d_219_566 (ar_hoV (as := [.int (xs (i + 1))]) rfl rfl rfl hg1) rfl (by omega) (show 394 - 21 + (19 + 2) = 394 by omega) (Nat.le_of_ble_eq_true rfl) (Nat.le_of_ble_eq_true rfl) (cp_160 (by omega) (by omega) hC hP) ?_
  intro v h2 hq
  obtain ⟨y1, D1, rfl, hP1, hz1, hR1⟩ := hq
  rw [← hm] at hz1
  have hR2 := hR.fr hz1
  obtain ⟨fs3, hg3⟩ := hP1.cell
  obtain ⟨fs4, hg4⟩ := hR2.cell
  refine ar_pop 570 d_219_569 rfl rfl ?_
  refine ar_aload_n 571 d_219_570 rfl rfl ?_
  refine ar_aload_n 572 d_219_571 rfl rfl ?_
  refine ar_iload_n 573 d_219_572 rfl rfl ?_
  refine ar_iconst 574 (v := 1) d_219_573 rfl (by decide) ?_
  refine ar_iadd 575 d_219_574 rfl ?_
  refine ar_top (x' := nI (i + 1)) (nI_add i 1) ?_
  refine ar_sald 576 d_219_575 rfl (nI_in (by omega) (by omega)) ?_
  refine ar_top (x' := xs (i + 1)) (by rw [nI_clamp (by omega)]) ?_
  refine ar_call (r := []) (na := 0) (kd := 0) (cm := 208) (fr2 := 11 - 1) (lo2 := 394 - 21) 579 d_219_576 (ar_hoV (as := [.int (xs (i + 1))]) rfl rfl rfl hg4) rfl (by omega) (show 394 - 21 + (19 + 2) = 394 by omega) (Nat.le_of_ble_eq_true rfl) (Nat.le_of_ble_eq_true rfl) (rp_208 (by omega) (by omega) hcc hnn hgg1 hgg hcl hR2) ?_
  intro v h3 hq
  obtain ⟨y2, al2, AL2, M2, rfl, hR3, hz2, hu2⟩ := hq
  have hU2 : UPR nn D1 (M2 0 3) := by rw [hu2]; exact hU.gr hR1
  refine ar_pop 580 d_219_579 rfl rfl ?_
  refine ar_goto 804 d_219_580 (by decide) ?_
  exact kk h3 ⟨D1, al2, AL2, M2, hP1.fr hsn (by rw [← hm]; exact hz2.1), hR3, hU2, by have := hz1.1; have := hz2.2.1; omega, by have := hz1.2.1; have := hz2.2.2; omega⟩
theorem lc_15 {L : Nat} {xs : Nat → Int32} {s0 n nn gg cc m B1 B2 cl i : Nat} {h : ax_H} {f : Nat → Int32} {post : ax_Po} (hL : L < 2 ^ 31) (hi : i + 6 ≤ L) (hm : m = n + 329 + 22 * nn) (hC : CG s0 n nn gg f) (hcc : cc ≤ nn) (hcl : cl < 512) (hW : LW s0 n nn gg cc m B1 B2 cl f h) (kk : ∀ h', LW s0 n nn gg cc m B1 B2 (cl + 1) f h' → ax_A (ax_step L xs) ((219, 804, 11, 394), [(0, .ref 0), (1, .ref s0), (2, .ref m), (3, .int (nI i))], [], h') post) : ax_A (ax_step L xs) ((219, 583, 11, 394), [(0, .ref 0), (1, .ref s0), (2, .ref m), (3, .int (nI i))], [], h) post := by
  obtain ⟨hs0, hsn, hnn3, hnn, hgg1, hgg, hRg⟩ := id hC
  obtain ⟨D, al, AL, M, hP, hR, hU, hr1, hr2⟩ := hW
  obtain ⟨fs1, hg1⟩ := hP.cell
  obtain ⟨fs2, hg2⟩ := hR.cell
  refine ar_aload_n 584 d_219_583 rfl rfl ?_
  refine ar_aload_n 585 d_219_584 rfl rfl ?_
  refine ar_iload_n 586 d_219_585 rfl rfl ?_
  refine ar_iconst 587 (v := 1) d_219_586 rfl (by decide) ?_
  refine ar_iadd 588 d_219_587 rfl ?_
  refine ar_top (x' := nI (i + 1)) (nI_add i 1) ?_
  refine ar_sald 589 d_219_588 rfl (nI_in (by omega) (by omega)) ?_
  refine ar_top (x' := xs (i + 1)) (by rw [nI_clamp (by omega)]) ?_
  refine ar_aload_n 590 d_219_589 rfl rfl ?_
  refine ar_iload_n 591 d_219_590 rfl rfl ?_
  refine ar_iconst 592 (v := 2) d_219_591 rfl (by decide) ?_
  refine ar_iadd 593 d_219_592 rfl ?_
  refine ar_top (x' := nI (i + 2)) (nI_add i 2) ?_
  refine ar_sald 594 d_219_593 rfl (nI_in (by omega) (by omega)) ?_
  refine ar_top (x' := xs (i + 2)) (by rw [nI_clamp (by omega)]) ?_
  refine ar_call (r := []) (na := 0) (kd := 0) (cm := 161) (fr2 := 11 - 1) (lo2 := 394 - 23) 597 d_219_594 (ar_hoV (as := [.int (xs (i + 1)), .int (xs (i + 2))]) rfl rfl rfl hg1) rfl (by omega) (show 394 - 23 + (19 + 4) = 394 by omega) (Nat.le_of_ble_eq_true rfl) (Nat.le_of_ble_eq_true rfl) (cp_161 (by omega) (by omega) hC hP) ?_
  intro v h2 hq
  obtain ⟨y1, D1, rfl, hP1, hz1, hR1⟩ := hq
  rw [← hm] at hz1
  have hR2 := hR.fr hz1
  obtain ⟨fs3, hg3⟩ := hP1.cell
  obtain ⟨fs4, hg4⟩ := hR2.cell
  refine ar_pop 598 d_219_597 rfl rfl ?_
  refine ar_aload_n 599 d_219_598 rfl rfl ?_
  refine ar_aload_n 600 d_219_599 rfl rfl ?_
  refine ar_iload_n 601 d_219_600 rfl rfl ?_
  refine ar_iconst 602 (v := 1) d_219_601 rfl (by decide) ?_
  refine ar_iadd 603 d_219_602 rfl ?_
  refine ar_top (x' := nI (i + 1)) (nI_add i 1) ?_
  refine ar_sald 604 d_219_603 rfl (nI_in (by omega) (by omega)) ?_
  refine ar_top (x' := xs (i + 1)) (by rw [nI_clamp (by omega)]) ?_
  refine ar_aload_n 605 d_219_604 rfl rfl ?_
  refine ar_iload_n 606 d_219_605 rfl rfl ?_
  refine ar_iconst 607 (v := 2) d_219_606 rfl (by decide) ?_
  refine ar_iadd 608 d_219_607 rfl ?_
  refine ar_top (x' := nI (i + 2)) (nI_add i 2) ?_
  refine ar_sald 609 d_219_608 rfl (nI_in (by omega) (by omega)) ?_
  refine ar_top (x' := xs (i + 2)) (by rw [nI_clamp (by omega)]) ?_
  refine ar_call (r := []) (na := 0) (kd := 0) (cm := 209) (fr2 := 11 - 1) (lo2 := 394 - 23) 612 d_219_609 (ar_hoV (as := [.int (xs (i + 1)), .int (xs (i + 2))]) rfl rfl rfl hg4) rfl (by omega) (show 394 - 23 + (19 + 4) = 394 by omega) (Nat.le_of_ble_eq_true rfl) (Nat.le_of_ble_eq_true rfl) (rp_209 (by omega) (by omega) hcc hnn hgg1 hgg hcl hR2) ?_
  intro v h3 hq
  obtain ⟨y2, al2, AL2, M2, rfl, hR3, hz2, hu2⟩ := hq
  have hU2 : UPR nn D1 (M2 0 3) := by rw [hu2]; exact hU.gr hR1
  refine ar_pop 613 d_219_612 rfl rfl ?_
  refine ar_goto 804 d_219_613 (by decide) ?_
  exact kk h3 ⟨D1, al2, AL2, M2, hP1.fr hsn (by rw [← hm]; exact hz2.1), hR3, hU2, by have := hz1.1; have := hz2.2.1; omega, by have := hz1.2.1; have := hz2.2.2; omega⟩
theorem lc_16 {L : Nat} {xs : Nat → Int32} {s0 n nn gg cc m B1 B2 cl i : Nat} {h : ax_H} {f : Nat → Int32} {post : ax_Po} (hL : L < 2 ^ 31) (hi : i + 6 ≤ L) (hm : m = n + 329 + 22 * nn) (hC : CG s0 n nn gg f) (hcc : cc ≤ nn) (hcl : cl < 512) (hW : LW s0 n nn gg cc m B1 B2 cl f h) (kk : ∀ h', LW s0 n nn gg cc m B1 B2 (cl + 1) f h' → ax_A (ax_step L xs) ((219, 804, 11, 394), [(0, .ref 0), (1, .ref s0), (2, .ref m), (3, .int (nI i))], [], h') post) : ax_A (ax_step L xs) ((219, 616, 11, 394), [(0, .ref 0), (1, .ref s0), (2, .ref m), (3, .int (nI i))], [], h) post := by
  obtain ⟨hs0, hsn, hnn3, hnn, hgg1, hgg, hRg⟩ := id hC
  obtain ⟨D, al, AL, M, hP, hR, hU, hr1, hr2⟩ := hW
  obtain ⟨fs1, hg1⟩ := hP.cell
  obtain ⟨fs2, hg2⟩ := hR.cell
  refine ar_aload_n 617 d_219_616 rfl rfl ?_
  refine ar_aload_n 618 d_219_617 rfl rfl ?_
  refine ar_iload_n 619 d_219_618 rfl rfl ?_
  refine ar_iconst 620 (v := 1) d_219_619 rfl (by decide) ?_
  refine ar_iadd 621 d_219_620 rfl ?_
  refine ar_top (x' := nI (i + 1)) (nI_add i 1) ?_
  refine ar_sald 622 d_219_621 rfl (nI_in (by omega) (by omega)) ?_
  refine ar_top (x' := xs (i + 1)) (by rw [nI_clamp (by omega)]) ?_
  refine ar_aload_n 623 d_219_622 rfl rfl ?_
  refine ar_iload_n 624 d_219_623 rfl rfl ?_
  refine ar_iconst 625 (v := 2) d_219_624 rfl (by decide) ?_
  refine ar_iadd 626 d_219_625 rfl ?_
  refine ar_top (x' := nI (i + 2)) (nI_add i 2) ?_
  refine ar_sald 627 d_219_626 rfl (nI_in (by omega) (by omega)) ?_
  refine ar_top (x' := xs (i + 2)) (by rw [nI_clamp (by omega)]) ?_
  refine ar_call (r := []) (na := 0) (kd := 0) (cm := 163) (fr2 := 11 - 1) (lo2 := 394 - 23) 630 d_219_627 (ar_hoV (as := [.int (xs (i + 1)), .int (xs (i + 2))]) rfl rfl rfl hg1) rfl (by omega) (show 394 - 23 + (19 + 4) = 394 by omega) (Nat.le_of_ble_eq_true rfl) (Nat.le_of_ble_eq_true rfl) (cp_163 (by omega) (by omega) hC hP) ?_
  intro v h2 hq
  obtain ⟨y1, D1, rfl, hP1, hz1, hR1⟩ := hq
  rw [← hm] at hz1
  have hR2 := hR.fr hz1
  obtain ⟨fs3, hg3⟩ := hP1.cell
  obtain ⟨fs4, hg4⟩ := hR2.cell
  refine ar_pop 631 d_219_630 rfl rfl ?_
  refine ar_aload_n 632 d_219_631 rfl rfl ?_
  refine ar_aload_n 633 d_219_632 rfl rfl ?_
  refine ar_iload_n 634 d_219_633 rfl rfl ?_
  refine ar_iconst 635 (v := 1) d_219_634 rfl (by decide) ?_
  refine ar_iadd 636 d_219_635 rfl ?_
  refine ar_top (x' := nI (i + 1)) (nI_add i 1) ?_
  refine ar_sald 637 d_219_636 rfl (nI_in (by omega) (by omega)) ?_
  refine ar_top (x' := xs (i + 1)) (by rw [nI_clamp (by omega)]) ?_
  refine ar_aload_n 638 d_219_637 rfl rfl ?_
  refine ar_iload_n 639 d_219_638 rfl rfl ?_
  refine ar_iconst 640 (v := 2) d_219_639 rfl (by decide) ?_
  refine ar_iadd 641 d_219_640 rfl ?_
  refine ar_top (x' := nI (i + 2)) (nI_add i 2) ?_
  refine ar_sald 642 d_219_641 rfl (nI_in (by omega) (by omega)) ?_
  refine ar_top (x' := xs (i + 2)) (by rw [nI_clamp (by omega)]) ?_
  refine ar_call (r := []) (na := 0) (kd := 0) (cm := 210) (fr2 := 11 - 1) (lo2 := 394 - 23) 645 d_219_642 (ar_hoV (as := [.int (xs (i + 1)), .int (xs (i + 2))]) rfl rfl rfl hg4) rfl (by omega) (show 394 - 23 + (19 + 4) = 394 by omega) (Nat.le_of_ble_eq_true rfl) (Nat.le_of_ble_eq_true rfl) (rp_210 (by omega) (by omega) hcc hnn hgg1 hgg hcl hR2) ?_
  intro v h3 hq
  obtain ⟨y2, al2, AL2, M2, rfl, hR3, hz2, hu2⟩ := hq
  have hU2 : UPR nn D1 (M2 0 3) := by rw [hu2]; exact hU.gr hR1
  refine ar_pop 646 d_219_645 rfl rfl ?_
  refine ar_goto 804 d_219_646 (by decide) ?_
  exact kk h3 ⟨D1, al2, AL2, M2, hP1.fr hsn (by rw [← hm]; exact hz2.1), hR3, hU2, by have := hz1.1; have := hz2.2.1; omega, by have := hz1.2.1; have := hz2.2.2; omega⟩
theorem lc_17 {L : Nat} {xs : Nat → Int32} {s0 n nn gg cc m B1 B2 cl i : Nat} {h : ax_H} {f : Nat → Int32} {post : ax_Po} (hL : L < 2 ^ 31) (hi : i + 6 ≤ L) (hm : m = n + 329 + 22 * nn) (hC : CG s0 n nn gg f) (hcc : cc ≤ nn) (hcl : cl < 512) (hW : LW s0 n nn gg cc m B1 B2 cl f h) (kk : ∀ h', LW s0 n nn gg cc m B1 B2 (cl + 1) f h' → ax_A (ax_step L xs) ((219, 804, 11, 394), [(0, .ref 0), (1, .ref s0), (2, .ref m), (3, .int (nI i))], [], h') post) : ax_A (ax_step L xs) ((219, 649, 11, 394), [(0, .ref 0), (1, .ref s0), (2, .ref m), (3, .int (nI i))], [], h) post := by
  obtain ⟨hs0, hsn, hnn3, hnn, hgg1, hgg, hRg⟩ := id hC
  obtain ⟨D, al, AL, M, hP, hR, hU, hr1, hr2⟩ := hW
  obtain ⟨fs1, hg1⟩ := hP.cell
  obtain ⟨fs2, hg2⟩ := hR.cell
  refine ar_aload_n 650 d_219_649 rfl rfl ?_
  refine ar_aload_n 651 d_219_650 rfl rfl ?_
  refine ar_iload_n 652 d_219_651 rfl rfl ?_
  refine ar_iconst 653 (v := 1) d_219_652 rfl (by decide) ?_
  refine ar_iadd 654 d_219_653 rfl ?_
  refine ar_top (x' := nI (i + 1)) (nI_add i 1) ?_
  refine ar_sald 655 d_219_654 rfl (nI_in (by omega) (by omega)) ?_
  refine ar_top (x' := xs (i + 1)) (by rw [nI_clamp (by omega)]) ?_
  refine ar_aload_n 656 d_219_655 rfl rfl ?_
  refine ar_iload_n 657 d_219_656 rfl rfl ?_
  refine ar_iconst 658 (v := 2) d_219_657 rfl (by decide) ?_
  refine ar_iadd 659 d_219_658 rfl ?_
  refine ar_top (x' := nI (i + 2)) (nI_add i 2) ?_
  refine ar_sald 660 d_219_659 rfl (nI_in (by omega) (by omega)) ?_
  refine ar_top (x' := xs (i + 2)) (by rw [nI_clamp (by omega)]) ?_
  refine ar_aload_n 661 d_219_660 rfl rfl ?_
  refine ar_iload_n 662 d_219_661 rfl rfl ?_
  refine ar_iconst 663 (v := 3) d_219_662 rfl (by decide) ?_
  refine ar_iadd 664 d_219_663 rfl ?_
  refine ar_top (x' := nI (i + 3)) (nI_add i 3) ?_
  refine ar_sald 665 d_219_664 rfl (nI_in (by omega) (by omega)) ?_
  refine ar_top (x' := xs (i + 3)) (by rw [nI_clamp (by omega)]) ?_
  refine ar_call (r := []) (na := 0) (kd := 0) (cm := 164) (fr2 := 11 - 1) (lo2 := 394 - 24) 668 d_219_665 (ar_hoV (as := [.int (xs (i + 1)), .int (xs (i + 2)), .int (xs (i + 3))]) rfl rfl rfl hg1) rfl (by omega) (show 394 - 24 + (19 + 5) = 394 by omega) (Nat.le_of_ble_eq_true rfl) (Nat.le_of_ble_eq_true rfl) (cp_164 (by omega) (by omega) hC hP) ?_
  intro v h2 hq
  obtain ⟨y1, D1, rfl, hP1, hz1, hR1⟩ := hq
  rw [← hm] at hz1
  have hR2 := hR.fr hz1
  obtain ⟨fs3, hg3⟩ := hP1.cell
  obtain ⟨fs4, hg4⟩ := hR2.cell
  refine ar_pop 669 d_219_668 rfl rfl ?_
  refine ar_aload_n 670 d_219_669 rfl rfl ?_
  refine ar_aload_n 671 d_219_670 rfl rfl ?_
  refine ar_iload_n 672 d_219_671 rfl rfl ?_
  refine ar_iconst 673 (v := 1) d_219_672 rfl (by decide) ?_
  refine ar_iadd 674 d_219_673 rfl ?_
  refine ar_top (x' := nI (i + 1)) (nI_add i 1) ?_
  refine ar_sald 675 d_219_674 rfl (nI_in (by omega) (by omega)) ?_
  refine ar_top (x' := xs (i + 1)) (by rw [nI_clamp (by omega)]) ?_
  refine ar_aload_n 676 d_219_675 rfl rfl ?_
  refine ar_iload_n 677 d_219_676 rfl rfl ?_
  refine ar_iconst 678 (v := 2) d_219_677 rfl (by decide) ?_
  refine ar_iadd 679 d_219_678 rfl ?_
  refine ar_top (x' := nI (i + 2)) (nI_add i 2) ?_
  refine ar_sald 680 d_219_679 rfl (nI_in (by omega) (by omega)) ?_
  refine ar_top (x' := xs (i + 2)) (by rw [nI_clamp (by omega)]) ?_
  refine ar_aload_n 681 d_219_680 rfl rfl ?_
  refine ar_iload_n 682 d_219_681 rfl rfl ?_
  refine ar_iconst 683 (v := 3) d_219_682 rfl (by decide) ?_
  refine ar_iadd 684 d_219_683 rfl ?_
  refine ar_top (x' := nI (i + 3)) (nI_add i 3) ?_
  refine ar_sald 685 d_219_684 rfl (nI_in (by omega) (by omega)) ?_
  refine ar_top (x' := xs (i + 3)) (by rw [nI_clamp (by omega)]) ?_
  refine ar_call (r := []) (na := 0) (kd := 0) (cm := 211) (fr2 := 11 - 1) (lo2 := 394 - 24) 688 d_219_685 (ar_hoV (as := [.int (xs (i + 1)), .int (xs (i + 2)), .int (xs (i + 3))]) rfl rfl rfl hg4) rfl (by omega) (show 394 - 24 + (19 + 5) = 394 by omega) (Nat.le_of_ble_eq_true rfl) (Nat.le_of_ble_eq_true rfl) (rp_211 (by omega) (by omega) hcc hnn hgg1 hgg hcl hR2) ?_
  intro v h3 hq
  obtain ⟨y2, al2, AL2, M2, rfl, hR3, hz2, hu2⟩ := hq
  have hU2 : UPR nn D1 (M2 0 3) := by rw [hu2]; exact hU.gr hR1
  refine ar_pop 689 d_219_688 rfl rfl ?_
  refine ar_goto 804 d_219_689 (by decide) ?_
  exact kk h3 ⟨D1, al2, AL2, M2, hP1.fr hsn (by rw [← hm]; exact hz2.1), hR3, hU2, by have := hz1.1; have := hz2.2.1; omega, by have := hz1.2.1; have := hz2.2.2; omega⟩
theorem lc_18 {L : Nat} {xs : Nat → Int32} {s0 n nn gg cc m B1 B2 cl i : Nat} {h : ax_H} {f : Nat → Int32} {post : ax_Po} (hL : L < 2 ^ 31) (hi : i + 6 ≤ L) (hm : m = n + 329 + 22 * nn) (hC : CG s0 n nn gg f) (hcc : cc ≤ nn) (hcl : cl < 512) (hW : LW s0 n nn gg cc m B1 B2 cl f h) (kk : ∀ h', LW s0 n nn gg cc m B1 B2 (cl + 1) f h' → ax_A (ax_step L xs) ((219, 804, 11, 394), [(0, .ref 0), (1, .ref s0), (2, .ref m), (3, .int (nI i))], [], h') post) : ax_A (ax_step L xs) ((219, 692, 11, 394), [(0, .ref 0), (1, .ref s0), (2, .ref m), (3, .int (nI i))], [], h) post := by
  obtain ⟨hs0, hsn, hnn3, hnn, hgg1, hgg, hRg⟩ := id hC
  obtain ⟨D, al, AL, M, hP, hR, hU, hr1, hr2⟩ := hW
  obtain ⟨fs1, hg1⟩ := hP.cell
  obtain ⟨fs2, hg2⟩ := hR.cell
  refine ar_aload_n 693 d_219_692 rfl rfl ?_
  refine ar_aload_n 694 d_219_693 rfl rfl ?_
  refine ar_iload_n 695 d_219_694 rfl rfl ?_
  refine ar_iconst 696 (v := 1) d_219_695 rfl (by decide) ?_
  refine ar_iadd 697 d_219_696 rfl ?_
  refine ar_top (x' := nI (i + 1)) (nI_add i 1) ?_
  refine ar_sald 698 d_219_697 rfl (nI_in (by omega) (by omega)) ?_
  refine ar_top (x' := xs (i + 1)) (by rw [nI_clamp (by omega)]) ?_
  refine ar_aload_n 699 d_219_698 rfl rfl ?_
  refine ar_iload_n 700 d_219_699 rfl rfl ?_
  refine ar_iconst 701 (v := 2) d_219_700 rfl (by decide) ?_
  refine ar_iadd 702 d_219_701 rfl ?_
  refine ar_top (x' := nI (i + 2)) (nI_add i 2) ?_
  refine ar_sald 703 d_219_702 rfl (nI_in (by omega) (by omega)) ?_
  refine ar_top (x' := xs (i + 2)) (by rw [nI_clamp (by omega)]) ?_
  refine ar_aload_n 704 d_219_703 rfl rfl ?_
  refine ar_iload_n 705 d_219_704 rfl rfl ?_
  refine ar_iconst 706 (v := 3) d_219_705 rfl (by decide) ?_
  refine ar_iadd 707 d_219_706 rfl ?_
  refine ar_top (x' := nI (i + 3)) (nI_add i 3) ?_
  refine ar_sald 708 d_219_707 rfl (nI_in (by omega) (by omega)) ?_
  refine ar_top (x' := xs (i + 3)) (by rw [nI_clamp (by omega)]) ?_
  refine ar_aload_n 709 d_219_708 rfl rfl ?_
  refine ar_iload_n 710 d_219_709 rfl rfl ?_
  refine ar_iconst 711 (v := 4) d_219_710 rfl (by decide) ?_
  refine ar_iadd 712 d_219_711 rfl ?_
  refine ar_top (x' := nI (i + 4)) (nI_add i 4) ?_
  refine ar_sald 713 d_219_712 rfl (nI_in (by omega) (by omega)) ?_
  refine ar_top (x' := xs (i + 4)) (by rw [nI_clamp (by omega)]) ?_
  refine ar_call (r := []) (na := 0) (kd := 0) (cm := 166) (fr2 := 11 - 1) (lo2 := 394 - 27) 716 d_219_713 (ar_hoV (as := [.int (xs (i + 1)), .int (xs (i + 2)), .int (xs (i + 3)), .int (xs (i + 4))]) rfl rfl rfl hg1) rfl (by omega) (show 394 - 27 + (19 + 8) = 394 by omega) (Nat.le_of_ble_eq_true rfl) (Nat.le_of_ble_eq_true rfl) (cp_166 (by omega) (by omega) hC hP) ?_
  intro v h2 hq
  obtain ⟨y1, D1, rfl, hP1, hz1, hR1⟩ := hq
  rw [← hm] at hz1
  have hR2 := hR.fr hz1
  obtain ⟨fs3, hg3⟩ := hP1.cell
  obtain ⟨fs4, hg4⟩ := hR2.cell
  refine ar_pop 717 d_219_716 rfl rfl ?_
  refine ar_aload_n 718 d_219_717 rfl rfl ?_
  refine ar_aload_n 719 d_219_718 rfl rfl ?_
  refine ar_iload_n 720 d_219_719 rfl rfl ?_
  refine ar_iconst 721 (v := 1) d_219_720 rfl (by decide) ?_
  refine ar_iadd 722 d_219_721 rfl ?_
  refine ar_top (x' := nI (i + 1)) (nI_add i 1) ?_
  refine ar_sald 723 d_219_722 rfl (nI_in (by omega) (by omega)) ?_
  refine ar_top (x' := xs (i + 1)) (by rw [nI_clamp (by omega)]) ?_
  refine ar_aload_n 724 d_219_723 rfl rfl ?_
  refine ar_iload_n 725 d_219_724 rfl rfl ?_
  refine ar_iconst 726 (v := 2) d_219_725 rfl (by decide) ?_
  refine ar_iadd 727 d_219_726 rfl ?_
  refine ar_top (x' := nI (i + 2)) (nI_add i 2) ?_
  refine ar_sald 728 d_219_727 rfl (nI_in (by omega) (by omega)) ?_
  refine ar_top (x' := xs (i + 2)) (by rw [nI_clamp (by omega)]) ?_
  refine ar_aload_n 729 d_219_728 rfl rfl ?_
  refine ar_iload_n 730 d_219_729 rfl rfl ?_
  refine ar_iconst 731 (v := 3) d_219_730 rfl (by decide) ?_
  refine ar_iadd 732 d_219_731 rfl ?_
  refine ar_top (x' := nI (i + 3)) (nI_add i 3) ?_
  refine ar_sald 733 d_219_732 rfl (nI_in (by omega) (by omega)) ?_
  refine ar_top (x' := xs (i + 3)) (by rw [nI_clamp (by omega)]) ?_
  refine ar_aload_n 734 d_219_733 rfl rfl ?_
  refine ar_iload_n 735 d_219_734 rfl rfl ?_
  refine ar_iconst 736 (v := 4) d_219_735 rfl (by decide) ?_
  refine ar_iadd 737 d_219_736 rfl ?_
  refine ar_top (x' := nI (i + 4)) (nI_add i 4) ?_
  refine ar_sald 738 d_219_737 rfl (nI_in (by omega) (by omega)) ?_
  refine ar_top (x' := xs (i + 4)) (by rw [nI_clamp (by omega)]) ?_
  refine ar_call (r := []) (na := 0) (kd := 0) (cm := 214) (fr2 := 11 - 1) (lo2 := 394 - 26) 741 d_219_738 (ar_hoV (as := [.int (xs (i + 1)), .int (xs (i + 2)), .int (xs (i + 3)), .int (xs (i + 4))]) rfl rfl rfl hg4) rfl (by omega) (show 394 - 26 + (19 + 7) = 394 by omega) (Nat.le_of_ble_eq_true rfl) (Nat.le_of_ble_eq_true rfl) (rp_214 (by omega) (by omega) hcc hnn hgg1 hgg hcl hR2) ?_
  intro v h3 hq
  obtain ⟨y2, al2, AL2, M2, rfl, hR3, hz2, hu2⟩ := hq
  have hU2 : UPR nn D1 (M2 0 3) := by rw [hu2]; exact hU.gr hR1
  refine ar_pop 742 d_219_741 rfl rfl ?_
  refine ar_goto 804 d_219_742 (by decide) ?_
  exact kk h3 ⟨D1, al2, AL2, M2, hP1.fr hsn (by rw [← hm]; exact hz2.1), hR3, hU2, by have := hz1.1; have := hz2.2.1; omega, by have := hz1.2.1; have := hz2.2.2; omega⟩
theorem lc_19 {L : Nat} {xs : Nat → Int32} {s0 n nn gg cc m B1 B2 cl i : Nat} {h : ax_H} {f : Nat → Int32} {post : ax_Po} (hL : L < 2 ^ 31) (hi : i + 6 ≤ L) (hm : m = n + 329 + 22 * nn) (hC : CG s0 n nn gg f) (hcc : cc ≤ nn) (hcl : cl < 512) (hW : LW s0 n nn gg cc m B1 B2 cl f h) (kk : ∀ h', LW s0 n nn gg cc m B1 B2 (cl + 1) f h' → ax_A (ax_step L xs) ((219, 804, 11, 394), [(0, .ref 0), (1, .ref s0), (2, .ref m), (3, .int (nI i))], [], h') post) : ax_A (ax_step L xs) ((219, 745, 11, 394), [(0, .ref 0), (1, .ref s0), (2, .ref m), (3, .int (nI i))], [], h) post := by
  obtain ⟨hs0, hsn, hnn3, hnn, hgg1, hgg, hRg⟩ := id hC
  obtain ⟨D, al, AL, M, hP, hR, hU, hr1, hr2⟩ := hW
  obtain ⟨fs1, hg1⟩ := hP.cell
  obtain ⟨fs2, hg2⟩ := hR.cell
  refine ar_aload_n 746 d_219_745 rfl rfl ?_
  refine ar_aload_n 747 d_219_746 rfl rfl ?_
  refine ar_iload_n 748 d_219_747 rfl rfl ?_
  refine ar_iconst 749 (v := 1) d_219_748 rfl (by decide) ?_
  refine ar_iadd 750 d_219_749 rfl ?_
  refine ar_top (x' := nI (i + 1)) (nI_add i 1) ?_
  refine ar_sald 751 d_219_750 rfl (nI_in (by omega) (by omega)) ?_
  refine ar_top (x' := xs (i + 1)) (by rw [nI_clamp (by omega)]) ?_
  refine ar_call (r := []) (na := 0) (kd := 0) (cm := 167) (fr2 := 11 - 1) (lo2 := 394 - 24) 754 d_219_751 (ar_hoV (as := [.int (xs (i + 1))]) rfl rfl rfl hg1) rfl (by omega) (show 394 - 24 + (19 + 5) = 394 by omega) (Nat.le_of_ble_eq_true rfl) (Nat.le_of_ble_eq_true rfl) (cp_167 (by omega) (by omega) hC hP) ?_
  intro v h2 hq
  obtain ⟨y1, D1, rfl, hP1, hz1, hR1⟩ := hq
  rw [← hm] at hz1
  have hR2 := hR.fr hz1
  obtain ⟨fs3, hg3⟩ := hP1.cell
  obtain ⟨fs4, hg4⟩ := hR2.cell
  refine ar_pop 755 d_219_754 rfl rfl ?_
  refine ar_aload_n 756 d_219_755 rfl rfl ?_
  refine ar_aload_n 757 d_219_756 rfl rfl ?_
  refine ar_iload_n 758 d_219_757 rfl rfl ?_
  refine ar_iconst 759 (v := 1) d_219_758 rfl (by decide) ?_
  refine ar_iadd 760 d_219_759 rfl ?_
  refine ar_top (x' := nI (i + 1)) (nI_add i 1) ?_
  refine ar_sald 761 d_219_760 rfl (nI_in (by omega) (by omega)) ?_
  refine ar_top (x' := xs (i + 1)) (by rw [nI_clamp (by omega)]) ?_
  refine ar_call (r := []) (na := 0) (kd := 0) (cm := 215) (fr2 := 11 - 1) (lo2 := 394 - 24) 764 d_219_761 (ar_hoV (as := [.int (xs (i + 1))]) rfl rfl rfl hg4) rfl (by omega) (show 394 - 24 + (19 + 5) = 394 by omega) (Nat.le_of_ble_eq_true rfl) (Nat.le_of_ble_eq_true rfl) (rp_215 (by omega) (by omega) hcc hnn hgg1 hgg hcl hR2) ?_
  intro v h3 hq
  obtain ⟨y2, al2, AL2, M2, rfl, hR3, hz2, hu2⟩ := hq
  have hU2 : UPR nn D1 (M2 0 3) := by rw [hu2]; exact hU.gr hR1
  refine ar_pop 765 d_219_764 rfl rfl ?_
  refine ar_goto 804 d_219_765 (by decide) ?_
  exact kk h3 ⟨D1, al2, AL2, M2, hP1.fr hsn (by rw [← hm]; exact hz2.1), hR3, hU2, by have := hz1.1; have := hz2.2.1; omega, by have := hz1.2.1; have := hz2.2.2; omega⟩
theorem lc_20 {L : Nat} {xs : Nat → Int32} {s0 n nn gg cc m B1 B2 cl i : Nat} {h : ax_H} {f : Nat → Int32} {post : ax_Po} (hL : L < 2 ^ 31) (hi : i + 6 ≤ L) (hm : m = n + 329 + 22 * nn) (hC : CG s0 n nn gg f) (hcc : cc ≤ nn) (hcl : cl < 512) (hW : LW s0 n nn gg cc m B1 B2 cl f h) (kk : ∀ h', LW s0 n nn gg cc m B1 B2 (cl + 1) f h' → ax_A (ax_step L xs) ((219, 804, 11, 394), [(0, .ref 0), (1, .ref s0), (2, .ref m), (3, .int (nI i))], [], h') post) : ax_A (ax_step L xs) ((219, 768, 11, 394), [(0, .ref 0), (1, .ref s0), (2, .ref m), (3, .int (nI i))], [], h) post := by
  obtain ⟨hs0, hsn, hnn3, hnn, hgg1, hgg, hRg⟩ := id hC
  obtain ⟨D, al, AL, M, hP, hR, hU, hr1, hr2⟩ := hW
  obtain ⟨fs1, hg1⟩ := hP.cell
  obtain ⟨fs2, hg2⟩ := hR.cell
  refine ar_aload_n 769 d_219_768 rfl rfl ?_
  refine ar_call (r := []) (na := 0) (kd := 0) (cm := 169) (fr2 := 11 - 1) (lo2 := 394 - 22) 772 d_219_769 (ar_hoV (as := []) rfl rfl rfl hg1) rfl (by omega) (show 394 - 22 + (19 + 3) = 394 by omega) (Nat.le_of_ble_eq_true rfl) (Nat.le_of_ble_eq_true rfl) (cp_169 (by omega) (by omega) hC hP) ?_
  intro v h2 hq
  obtain ⟨y1, D1, rfl, hP1, hz1, hR1⟩ := hq
  rw [← hm] at hz1
  have hR2 := hR.fr hz1
  obtain ⟨fs3, hg3⟩ := hP1.cell
  obtain ⟨fs4, hg4⟩ := hR2.cell
  refine ar_pop 773 d_219_772 rfl rfl ?_
  refine ar_aload_n 774 d_219_773 rfl rfl ?_
  refine ar_call (r := []) (na := 0) (kd := 0) (cm := 216) (fr2 := 11 - 1) (lo2 := 394 - 20) 777 d_219_774 (ar_hoV (as := []) rfl rfl rfl hg4) rfl (by omega) (show 394 - 20 + (19 + 1) = 394 by omega) (Nat.le_of_ble_eq_true rfl) (Nat.le_of_ble_eq_true rfl) (rp_216 (by omega) (by omega) hcc hnn hgg1 hgg hcl hR2) ?_
  intro v h3 hq
  obtain ⟨y2, al2, AL2, M2, rfl, hR3, hz2, hu2⟩ := hq
  have hU2 : UPR nn D1 (M2 0 3) := by rw [hu2]; exact hU.gr hR1
  refine ar_pop 778 d_219_777 rfl rfl ?_
  refine ar_goto 804 d_219_778 (by decide) ?_
  exact kk h3 ⟨D1, al2, AL2, M2, hP1.fr hsn (by rw [← hm]; exact hz2.1), hR3, hU2, by have := hz1.1; have := hz2.2.1; omega, by have := hz1.2.1; have := hz2.2.2; omega⟩
theorem lc_21 {L : Nat} {xs : Nat → Int32} {s0 n nn gg cc m B1 B2 cl i : Nat} {h : ax_H} {f : Nat → Int32} {post : ax_Po} (hL : L < 2 ^ 31) (hi : i + 6 ≤ L) (hm : m = n + 329 + 22 * nn) (hC : CG s0 n nn gg f) (hcc : cc ≤ nn) (hcl : cl < 512) (hW : LW s0 n nn gg cc m B1 B2 cl f h) (kk : ∀ h', LW s0 n nn gg cc m B1 B2 (cl + 1) f h' → ax_A (ax_step L xs) ((219, 804, 11, 394), [(0, .ref 0), (1, .ref s0), (2, .ref m), (3, .int (nI i))], [], h') post) : ax_A (ax_step L xs) ((219, 781, 11, 394), [(0, .ref 0), (1, .ref s0), (2, .ref m), (3, .int (nI i))], [], h) post := by
  obtain ⟨hs0, hsn, hnn3, hnn, hgg1, hgg, hRg⟩ := id hC
  obtain ⟨D, al, AL, M, hP, hR, hU, hr1, hr2⟩ := hW
  obtain ⟨fs1, hg1⟩ := hP.cell
  obtain ⟨fs2, hg2⟩ := hR.cell
  refine ar_aload_n 782 d_219_781 rfl rfl ?_
  refine ar_aload_n 783 d_219_782 rfl rfl ?_
  refine ar_iload_n 784 d_219_783 rfl rfl ?_
  refine ar_iconst 785 (v := 1) d_219_784 rfl (by decide) ?_
  refine ar_iadd 786 d_219_785 rfl ?_
  refine ar_top (x' := nI (i + 1)) (nI_add i 1) ?_
  refine ar_sald 787 d_219_786 rfl (nI_in (by omega) (by omega)) ?_
  refine ar_top (x' := xs (i + 1)) (by rw [nI_clamp (by omega)]) ?_
  refine ar_call (r := []) (na := 0) (kd := 0) (cm := 172) (fr2 := 11 - 1) (lo2 := 394 - 21) 790 d_219_787 (ar_hoV (as := [.int (xs (i + 1))]) rfl rfl rfl hg1) rfl (by omega) (show 394 - 21 + (19 + 2) = 394 by omega) (Nat.le_of_ble_eq_true rfl) (Nat.le_of_ble_eq_true rfl) (cp_172 (by omega) (by omega) hC hP) ?_
  intro v h2 hq
  obtain ⟨y1, D1, rfl, hP1, hz1, hR1⟩ := hq
  rw [← hm] at hz1
  have hR2 := hR.fr hz1
  obtain ⟨fs3, hg3⟩ := hP1.cell
  obtain ⟨fs4, hg4⟩ := hR2.cell
  refine ar_pop 791 d_219_790 rfl rfl ?_
  refine ar_aload_n 792 d_219_791 rfl rfl ?_
  refine ar_aload_n 793 d_219_792 rfl rfl ?_
  refine ar_iload_n 794 d_219_793 rfl rfl ?_
  refine ar_iconst 795 (v := 1) d_219_794 rfl (by decide) ?_
  refine ar_iadd 796 d_219_795 rfl ?_
  refine ar_top (x' := nI (i + 1)) (nI_add i 1) ?_
  refine ar_sald 797 d_219_796 rfl (nI_in (by omega) (by omega)) ?_
  refine ar_top (x' := xs (i + 1)) (by rw [nI_clamp (by omega)]) ?_
  refine ar_call (r := []) (na := 0) (kd := 0) (cm := 217) (fr2 := 11 - 1) (lo2 := 394 - 21) 800 d_219_797 (ar_hoV (as := [.int (xs (i + 1))]) rfl rfl rfl hg4) rfl (by omega) (show 394 - 21 + (19 + 2) = 394 by omega) (Nat.le_of_ble_eq_true rfl) (Nat.le_of_ble_eq_true rfl) (rp_217 (by omega) (by omega) hcc hnn hgg1 hgg hcl hR2) ?_
  intro v h3 hq
  obtain ⟨y2, al2, AL2, M2, rfl, hR3, hz2, hu2⟩ := hq
  have hU2 : UPR nn D1 (M2 0 3) := by rw [hu2]; exact hU.gr hR1
  refine ar_pop 801 d_219_800 rfl rfl ?_
  refine ar_goto 804 d_219_801 (by decide) ?_
  exact kk h3 ⟨D1, al2, AL2, M2, hP1.fr hsn (by rw [← hm]; exact hz2.1), hR3, hU2, by have := hz1.1; have := hz2.2.1; omega, by have := hz1.2.1; have := hz2.2.2; omega⟩
theorem lc_all {L : Nat} {xs : Nat → Int32} {s0 n nn gg cc m B1 B2 cl i : Nat} {h : ax_H} {f : Nat → Int32} {post : ax_Po} (hL : L < 2 ^ 31) (hi : i + 6 ≤ L) (hm : m = n + 329 + 22 * nn) (hC : CG s0 n nn gg f) (hcc : cc ≤ nn) (hcl : cl < 512) (hW : LW s0 n nn gg cc m B1 B2 cl f h) (kk : ∀ h', LW s0 n nn gg cc m B1 B2 (cl + 1) f h' → ax_A (ax_step L xs) ((219, 804, 11, 394), [(0, .ref 0), (1, .ref s0), (2, .ref m), (3, .int (nI i))], [], h') post) : ax_A (ax_step L xs) ((219, 57, 11, 394), [(0, .ref 0), (1, .ref s0), (2, .ref m), (3, .int (nI i))], [], h) post := by
  refine ar_aload_n 58 d_219_57 rfl rfl ?_
  refine ar_iload_n 59 d_219_58 rfl rfl ?_
  refine ar_sald 60 d_219_59 rfl (nI_in (by omega) (by omega)) ?_
  refine ar_top (x' := xs i) (by rw [nI_clamp (by omega)]) ?_
  refine ar_bipush 62 (v := 31) d_219_60 rfl (by decide) ?_
  refine ar_iand 63 d_219_62 rfl ?_
  obtain ⟨k, hk, ek⟩ := and31 (xs i)
  refine ar_top (x' := nI k) ek ?_
  by_cases hk2 : k < 22
  · rcases (show k = 0 ∨ k = 1 ∨ k = 2 ∨ k = 3 ∨ k = 4 ∨ k = 5 ∨ k = 6 ∨ k = 7 ∨ k = 8 ∨ k = 9 ∨ k = 10 ∨ k = 11 ∨ k = 12 ∨ k = 13 ∨ k = 14 ∨ k = 15 ∨ k = 16 ∨ k = 17 ∨ k = 18 ∨ k = 19 ∨ k = 20 ∨ k = 21 by omega) with rfl | rfl | rfl | rfl | rfl | rfl | rfl | rfl | rfl | rfl | rfl | rfl | rfl | rfl | rfl | rfl | rfl | rfl | rfl | rfl | rfl | rfl
    · exact ar_tabIn 164 d_219_63 (by decide) (off := 101) rfl (by decide) (lc_0 hL hi hm hC hcc hcl hW kk)
    · exact ar_tabIn 227 d_219_63 (by decide) (off := 164) rfl (by decide) (lc_1 hL hi hm hC hcc hcl hW kk)
    · exact ar_tabIn 250 d_219_63 (by decide) (off := 187) rfl (by decide) (lc_2 hL hi hm hC hcc hcl hW kk)
    · exact ar_tabIn 273 d_219_63 (by decide) (off := 210) rfl (by decide) (lc_3 hL hi hm hC hcc hcl hW kk)
    · exact ar_tabIn 316 d_219_63 (by decide) (off := 253) rfl (by decide) (lc_4 hL hi hm hC hcc hcl hW kk)
    · exact ar_tabIn 337 d_219_63 (by decide) (off := 274) rfl (by decide) (lc_5 hL hi hm hC hcc hcl hW kk)
    · exact ar_tabIn 358 d_219_63 (by decide) (off := 295) rfl (by decide) (lc_6 hL hi hm hC hcc hcl hW kk)
    · exact ar_tabIn 379 d_219_63 (by decide) (off := 316) rfl (by decide) (lc_7 hL hi hm hC hcc hcl hW kk)
    · exact ar_tabIn 412 d_219_63 (by decide) (off := 349) rfl (by decide) (lc_8 hL hi hm hC hcc hcl hW kk)
    · exact ar_tabIn 435 d_219_63 (by decide) (off := 372) rfl (by decide) (lc_9 hL hi hm hC hcc hcl hW kk)
    · exact ar_tabIn 478 d_219_63 (by decide) (off := 415) rfl (by decide) (lc_10 hL hi hm hC hcc hcl hW kk)
    · exact ar_tabIn 501 d_219_63 (by decide) (off := 438) rfl (by decide) (lc_11 hL hi hm hC hcc hcl hW kk)
    · exact ar_tabIn 524 d_219_63 (by decide) (off := 461) rfl (by decide) (lc_12 hL hi hm hC hcc hcl hW kk)
    · exact ar_tabIn 547 d_219_63 (by decide) (off := 484) rfl (by decide) (lc_13 hL hi hm hC hcc hcl hW kk)
    · exact ar_tabIn 560 d_219_63 (by decide) (off := 497) rfl (by decide) (lc_14 hL hi hm hC hcc hcl hW kk)
    · exact ar_tabIn 583 d_219_63 (by decide) (off := 520) rfl (by decide) (lc_15 hL hi hm hC hcc hcl hW kk)
    · exact ar_tabIn 616 d_219_63 (by decide) (off := 553) rfl (by decide) (lc_16 hL hi hm hC hcc hcl hW kk)
    · exact ar_tabIn 649 d_219_63 (by decide) (off := 586) rfl (by decide) (lc_17 hL hi hm hC hcc hcl hW kk)
    · exact ar_tabIn 692 d_219_63 (by decide) (off := 629) rfl (by decide) (lc_18 hL hi hm hC hcc hcl hW kk)
    · exact ar_tabIn 745 d_219_63 (by decide) (off := 682) rfl (by decide) (lc_19 hL hi hm hC hcc hcl hW kk)
    · exact ar_tabIn 768 d_219_63 (by decide) (off := 705) rfl (by decide) (lc_20 hL hi hm hC hcc hcl hW kk)
    · exact ar_tabIn 781 d_219_63 (by decide) (off := 718) rfl (by decide) (lc_21 hL hi hm hC hcc hcl hW kk)
  · exact ar_tabOut 804 d_219_63 (Or.inr (by rw [nI_toInt' (by omega)]; omega)) (by decide) (kk h (by
    obtain ⟨D, al, AL, M, hP, ⟨r1, r2, r3⟩, hU, hr1, hr2⟩ := hW
    exact ⟨D, al, AL, M, hP, ⟨r1, r2, r3.up (Nat.le_succ cl)⟩, hU, hr1, hr2⟩))
theorem lt_of6 {L i : Nat} (h : L < i + 6) (hi : i ≤ 4000) : Int32.ofNat L - 6 < nI i := by
  by_cases h6 : 6 ≤ L
  · have e : Int32.ofNat L - 6 = nI (L - 6) := nI_sub (a := 6) (y := L) h6
    rw [e]
    exact nI_lt (by omega) (by omega)
  · have hk : ∀ l, l < 6 → Int32.ofNat l - 6 < 0 := by decide
    exact Int32.lt_of_lt_of_le (hk L (by omega)) (nI_pos' (by omega))
theorem lc_loop {L : Nat} {xs : Nat → Int32} {s0 n nn gg cc m B1 B2 : Nat} {f : Nat → Int32} {post : ax_Po} (hL : L ≤ 3075) (hm : m = n + 329 + 22 * nn) (hC : CG s0 n nn gg f) (hcc : cc ≤ nn) (kk : ∀ (cl : Nat) (h' : ax_H), LW s0 n nn gg cc m B1 B2 cl f h' → post (some (.int 1)) h') : ∀ (k i cl : Nat) (h : ax_H), L + 6 ≤ i + 6 * k → i ≤ 4000 → i = 3 + 6 * cl → LW s0 n nn gg cc m B1 B2 cl f h → ax_A (ax_step L xs) ((219, 48, 11, 394), [(0, .ref 0), (1, .ref s0), (2, .ref m), (3, .int (nI i))], [], h) post := by
  intro k
  induction k with
  | zero =>
    intro i cl h hk h4 hi hW
    exact law_h (fun _ => kk cl h hW) (fun c => absurd (lt_of6 (by omega) (by omega)) c)
  | succ k ih =>
    intro i cl h hk h4 hi hW
    refine law_h (fun _ => kk cl h hW) (fun c => ?_)
    have hi6 : i + 6 ≤ L := Classical.byContradiction (fun z => c (lt_of6 (by omega) (by omega)))
    refine lc_all (by omega) hi6 hm hC hcc (by omega) hW (fun h' hW2 => ?_)
    refine law_n ?_
    have e : nI i + 6 = nI (i + 6) := nI_add i 6
    rw [e]
    exact ih (i + 6) (cl + 1) h' (by omega) (by omega) (by omega) hW2

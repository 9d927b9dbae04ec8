/-! settle of the fresh store -/
def TW (n gg : Nat) : List (Nat × va_E) := [(n + 320, .inr (6, [.int (nI gg), .ref (n + 321), .ref (n + 322), .ref (n + 323), .ref (n + 324), .ref (n + 325), .ref (n + 326), .ref (n + 327), .long 0, .int 0, .int 0])), (n + 321, .inl (0, 48, .inl (ax_fill (fun _ => 0) 0 48 (-1)))), (n + 322, .inl (0, 48, .inl (ax_fill (fun _ => 0) 0 48 0))), (n + 325, .inl (0, 512, .inl (ax_fill (fun _ => 0) 0 512 (-1)))), (n + 326, .inl (0, 961, .inl (ax_fill (fun _ => 0) 0 961 (-1)))), (n + 327, .inl (0, 961, .inl (ax_fill (fun _ => 0) 0 961 0)))]
theorem s_fin {L : Nat} {xs : Nat → Int32} {fr lo s0 n nn gg cc p q km kc : Nat} {h : ax_H} {f u b : Nat → Int32} {e : Nat → Nat} {op y : Int32} {post : ax_Po} (hfr : 4 ≤ fr) (hlo : 150 ≤ lo) (hQ : SQ h s0 n nn gg cc p f e km kc [] [] q u b) (hkm : nI km = allN nn) (hkc : nI kc = allN nn) (hT : ax_hs h (TW n gg)) (kk : ∀ h', SZ (n + 329 + 22 * nn) h h' → post (some (.int op)) h') : ax_A (ax_step L xs) ((150, 144, fr, lo), [(0, .ref s0), (1, .int op), (2, .int 0), (3, .int y)], [], h) post := by
  obtain ⟨hb, hp, ⟨c, hW⟩, hN, hD⟩ := id hQ
  have hj : p < nn := hb.2.2.2.2.1
  obtain ⟨hej, ep, st, hd, cl, ni, tu, md, fm, hq, hcl⟩ := hD p hj
  have hn0 : 0 < h.1 := Nat.lt_of_le_of_lt (Nat.zero_le _) (ax_g_lt (hq.at 0 rfl)).2
  refine ar_iinc 147 [(0, .ref s0), (1, .int op), (2, .int 1), (3, .int y)] d_150_144 rfl rfl (by decide) (by decide) rfl ?_
  refine ar_goto 86 d_150_147 (by decide) ?_
  refine ar_iload_n 87 d_150_86 rfl rfl ?_
  refine ar_sipush 90 (v := 2000) d_150_87 rfl (by decide) ?_
  refine ar_icmp_gt 150 93 d_150_90 (by decide) rfl (fun c => absurd c (by decide)) (fun _ => ?_)
  refine ar_aload_n 94 d_150_93 rfl rfl ?_
  refine ar_call (r := []) (na := 0) (kd := 0) (cm := 151) (fr2 := fr - 1) (lo2 := lo - 21) 97 d_150_94 (ar_hoV (as := []) rfl rfl rfl (hW.at 0 rfl)) rfl (by omega) (show lo - 21 + (19 + 2) = lo by omega) (Nat.le_of_ble_eq_true rfl) (Nat.le_of_ble_eq_true rfl) (s_151 (by omega) (by omega) hQ hkm hkc) ?_
  intro v hh hq
  obtain ⟨rfl, ehh⟩ := hq
  rw [ehh]
  clear ehh
  refine ar_if_ne 150 100 d_150_97 (by decide) rfl (fun _ => ?_) (fun c => absurd (by decide) c)
  refine ar_aload_n 151 d_150_150 rfl rfl ?_
  refine ar_call (r := []) (na := 0) (kd := 0) (cm := 151) (fr2 := fr - 1) (lo2 := lo - 21) 154 d_150_151 (ar_hoV (as := []) rfl rfl rfl (hW.at 0 rfl)) rfl (by omega) (show lo - 21 + (19 + 2) = lo by omega) (Nat.le_of_ble_eq_true rfl) (Nat.le_of_ble_eq_true rfl) (s_151 (by omega) (by omega) hQ hkm hkc) ?_
  intro v hh hq
  obtain ⟨rfl, ehh⟩ := hq
  rw [ehh]
  clear ehh
  refine ar_if_ne 160 157 d_150_154 (by decide) rfl (fun _ => ?_) (fun c => absurd (by decide) c)
  refine ar_aload_n 161 d_150_160 rfl rfl ?_
  refine ar_getf 164 d_150_161 rfl (ci := 0) (k := 2) rfl (hW.at 0 rfl) rfl ?_
  refine ar_call (r := []) (na := 0) (kd := 0) (cm := 153) (fr2 := fr - 1) (lo2 := lo - 20) 167 d_150_164 (ar_hoV (as := []) rfl rfl rfl (hW.at 3 rfl)) rfl (by omega) (show lo - 20 + (19 + 1) = lo by omega) (Nat.le_of_ble_eq_true rfl) (Nat.le_of_ble_eq_true rfl) (c_153 (hW.sub (F' := [(n + 266, .inr (4, [.ref (n + 264), .ref n, .ref (n + 267), .int 0, .ref (n + 268), .ref (n + 269), .ref (n + 270), .ref (n + 271), .int 0, .int 0, .int 0, .int 0, .int (-1), .int 2, .int (allN nn), .int (nI km)]))]) [3] rfl rfl) rfl rfl hn0) ?_
  intro v h2 hq
  obtain ⟨rfl, qF, qn, qs, qf⟩ := hq
  have hW2 : ax_hs h2 (W0 s0 n nn gg cc f c 2 (nI km)) := hW.repl 3 _ rfl qf (fun z hz hne hA => hne (by simpa using hA)) (qF.at 0 rfl) rfl
  have hT2 := hT.fr qf (by intro z hz hA; simp only [TW, List.mem_cons, List.not_mem_nil, or_false] at hz; simp at hA; rcases hz with rfl | rfl | rfl | rfl | rfl | rfl <;> dsimp only at hA <;> omega)
  have hq2 := hq.fr qf (by intro z hz hA; have := QN.lt z hz; simp at hA; omega)
  have hF1 := hW2.app hT2 (by intro i j x y hx hy e; have h1 := W0.lt hb.2.2.2.2.2 x (List.mem_of_getElem? hx); have h2 := List.mem_of_getElem? hy; have h3 := List.mem_of_getElem? hx; simp only [TW, W0, List.mem_cons, List.not_mem_nil, or_false] at h2 h3; rcases h2 with rfl | rfl | rfl | rfl | rfl | rfl <;> rcases h3 with rfl | rfl | rfl | rfl | rfl <;> dsimp only at e <;> omega)
  have hF2 := hF1.app (hq2.sub (F' := [(n + 329 + 22 * p, .inr (7, [.int (nI p), .ref (n + 264), .ref n, .ref (n + 329 + 22 * p + 1), .ref (n + 329 + 22 * p + 7), .ref (n + 329 + 22 * p + 6), .int 1, .int (nI (e p)), .int (allN nn)])), (n + 329 + 22 * p + 1, .inr (8, [.ref (n + 329 + 22 * p + 2), .ref (n + 329 + 22 * p + 3), .ref (n + 329 + 22 * p + 4), .ref (n + 329 + 22 * p + 5), .int 0])), (n + 329 + 22 * p + 2, .inl (0, 35840, .inl (fun _ => 0)))]) [0, 1, 2] rfl rfl) (by intro i j x y hx hy e; have h2 := List.mem_of_getElem? hy; have h3 := List.mem_of_getElem? hx; rcases List.mem_append.mp h3 with h3 | h3 <;> simp only [TW, W0, List.mem_cons, List.not_mem_nil, or_false] at h2 h3 <;> rcases h2 with rfl | rfl | rfl <;> rcases h3 with rfl | h3 <;> (try rcases h3 with rfl | h3) <;> (try rcases h3 with rfl | h3) <;> (try rcases h3 with rfl | h3) <;> (try rcases h3 with rfl | h3) <;> (try subst h3) <;> dsimp only at e <;> omega)
  have hF3 := hF2.sub (F' := [(s0, .inr (0, [.ref (n + 264), .ref n, .ref (n + 266), .ref (n + 328), .ref (n + 320), .ref (n + 262), .ref (n + 263), .int 0, .int 0, .int 0, .int c])), (n + 320, .inr (6, [.int (nI gg), .ref (n + 321), .ref (n + 322), .ref (n + 323), .ref (n + 324), .ref (n + 325), .ref (n + 326), .ref (n + 327), .long 0, .int 0, .int 0])), (n + 321, .inl (0, 48, .inl (ax_fill (fun _ => 0) 0 48 (-1)))), (n + 322, .inl (0, 48, .inl (ax_fill (fun _ => 0) 0 48 0))), (n + 325, .inl (0, 512, .inl (ax_fill (fun _ => 0) 0 512 (-1)))), (n + 326, .inl (0, 961, .inl (ax_fill (fun _ => 0) 0 961 (-1)))), (n + 327, .inl (0, 961, .inl (ax_fill (fun _ => 0) 0 961 0))), (n + 264, .inr (3, [.int (nI nn), .int (nI cc), .int (nI gg), .ref (n + 265)])), (n + 265, .inl (0, gg * nn, .inl f)), (n + 266, .inr (4, [.ref (n + 264), .ref n, .ref (n + 267), .int 0, .ref (n + 268), .ref (n + 269), .ref (n + 270), .ref (n + 271), .int 0, .int 0, .int 0, .int 0, .int (-1), .int 2, .int (allN nn), .int (nI km)])), (n + 328, .inl (5, nn, .inr (.inr (.inr (.inr (fun j => if j < nn then some (n + 329 + 22 * j) else none)))))), (n + 329 + 22 * p, .inr (7, [.int (nI p), .ref (n + 264), .ref n, .ref (n + 329 + 22 * p + 1), .ref (n + 329 + 22 * p + 7), .ref (n + 329 + 22 * p + 6), .int 1, .int (nI (e p)), .int (allN nn)])), (n + 329 + 22 * p + 1, .inr (8, [.ref (n + 329 + 22 * p + 2), .ref (n + 329 + 22 * p + 3), .ref (n + 329 + 22 * p + 4), .ref (n + 329 + 22 * p + 5), .int 0])), (n + 329 + 22 * p + 2, .inl (0, 35840, .inl (fun _ => 0)))]) [0, 5, 6, 7, 8, 9, 10, 1, 2, 3, 4, 11, 12, 13] rfl rfl
  refine ar_aload_n 168 d_150_167 rfl rfl ?_
  refine ar_call (r := []) (na := 0) (kd := 0) (cm := 154) (fr2 := fr - 1) (lo2 := lo - 25) 171 d_150_168 (ar_hoV (as := []) rfl rfl rfl (hW2.at 0 rfl)) rfl (by omega) (show lo - 25 + (19 + 6) = lo by omega) (Nat.le_of_ble_eq_true rfl) (Nat.le_of_ble_eq_true rfl) (c_154z (by omega) (by omega) (by omega) (by omega) (by omega) hj hp (fun _ => rfl) hF3 rfl rfl (by omega)) ?_
  intro v h3 hq
  obtain ⟨rfl, qF3, qn3, qs3, qf3⟩ := hq
  refine ar_aload_n 172 d_150_171 rfl rfl ?_
  refine ar_iconst 173 (v := 0) d_150_172 rfl (by decide) ?_
  refine ar_putf 176 [.ref (n + 264), .ref n, .ref (n + 266), .ref (n + 328), .ref (n + 320), .ref (n + 262), .ref (n + 263), .int 0, .int 0, .int 0, .int c] d_150_173 rfl (ci := 0) (k := 9) rfl rfl (qF3.at 0 rfl) (Nat.le_of_ble_eq_true rfl) rfl rfl rfl ?_
  have qF3 : ax_hs (ax_put h3 s0 (.inr (0, [.ref (n + 264), .ref n, .ref (n + 266), .ref (n + 328), .ref (n + 320), .ref (n + 262), .ref (n + 263), .int 0, .int 0, .int 0, .int c]))) [(s0, .inr (0, [.ref (n + 264), .ref n, .ref (n + 266), .ref (n + 328), .ref (n + 320), .ref (n + 262), .ref (n + 263), .int 0, .int 0, .int 0, .int c]))] := qF3.put 0 _ rfl rfl
  refine ar_aload_n 177 d_150_176 rfl rfl ?_
  refine ar_iconst 178 (v := 1) d_150_177 rfl (by decide) ?_
  refine ar_putf 181 [.ref (n + 264), .ref n, .ref (n + 266), .ref (n + 328), .ref (n + 320), .ref (n + 262), .ref (n + 263), .int 0, .int 0, .int 0, .int 1] d_150_178 rfl (ci := 0) (k := 10) rfl rfl (qF3.at 0 rfl) (Nat.le_of_ble_eq_true rfl) rfl rfl rfl ?_
  have qF3 : ax_hs (ax_put (ax_put h3 s0 (.inr (0, [.ref (n + 264), .ref n, .ref (n + 266), .ref (n + 328), .ref (n + 320), .ref (n + 262), .ref (n + 263), .int 0, .int 0, .int 0, .int c]))) s0 (.inr (0, [.ref (n + 264), .ref n, .ref (n + 266), .ref (n + 328), .ref (n + 320), .ref (n + 262), .ref (n + 263), .int 0, .int 0, .int 0, .int 1]))) [(s0, .inr (0, [.ref (n + 264), .ref n, .ref (n + 266), .ref (n + 328), .ref (n + 320), .ref (n + 262), .ref (n + 263), .int 0, .int 0, .int 0, .int 1]))] := qF3.put 0 _ rfl rfl
  refine ar_iload_n 182 d_150_181 rfl rfl ?_
  exact ar_iret d_150_182 rfl rfl (kk _ ⟨qn3.trans qn, qs3.trans qs, ((qf.mono (fun x hx => by simp at hx; omega)).tr (qf3.mono (fun x hx => by simp at hx; omega))).put (by omega) |>.put (by omega)⟩)

/-! the constructor of the store, first parts; the fresh store -/
set_option maxRecDepth 100000 in
theorem ph_B {L : Nat} {xs : Nat → Int32} {fr lo s0 nt w n sl : Nat} {x1 x2 x3 : Int32} {u b : Nat → Int32} {h : ax_H} {post : ax_Po} (hfr : 6 ≤ fr) (hlo : 130 ≤ lo) (hntw : nt < w) (hwb : w + 261 ≤ n) (hA_s0 : ¬ NTA nt w s0) (hs0 : s0 < n)
    (hF : ax_hs h [(s0, .inr (0, [.null, .null, .null, .null, .null, .null, .null, .int 0, .int 0, .int 0, .int 0]))]) (hN : NTL h nt w [] [] 0 u b) (hn : h.1 = n) (hs : h.2.1 = sl) (kk : (∀ (h' : ax_H) (nn gg cc p : Nat) (f : Nat → Int32) (ids : List Nat) (ms : List Mg), (3 ≤ nn ∧ nn ≤ 6 ∧ clI x1 3 6 = nI nn) → (2 ≤ cc ∧ cc ≤ 3 ∧ clI x2 2 3 = nI cc) → (1 ≤ gg ∧ gg ≤ 16 ∧ clI x3 1 16 = nI gg) → (p < nn ∧ f 0 = nI p ∧ nof f 0 (allN nn) nn 0 0 = nI p ∧ Rg nn f) → ax_hs h' [(s0, .inr (0, [.ref (n + 2), .ref nt, .ref (n + 4), .ref (n + 66), .ref (n + 58), .ref n, .ref (n + 1), .int 0, .int 0, .int 0, .int 0])), (n + 2, .inr (3, [.int (nI nn), .int (nI cc), .int (nI gg), .ref (n + 3)])), (n + 3, .inl (0, gg * nn, .inl f)), (n + 4, .inr (4, [.ref (n + 2), .ref nt, .ref (n + 5), .int 0, .ref (n + 6), .ref (n + 7), .ref (n + 8), .ref (n + 9), .int 0, .int 0, .int 0, .int 0, .int (-1), .int 1, .int (allN nn), .int (allN nn)])), (n + 66, .inl (5, nn, .inr (.inr (.inr (.inr (fun j => if j < nn then some (n + 67 + 22 * j) else none)))))), (n + 58, .inr (6, [.int (nI gg), .ref (n + 59), .ref (n + 60), .ref (n + 61), .ref (n + 62), .ref (n + 63), .ref (n + 64), .ref (n + 65), .long 0, .int 0, .int 0])), (n + 59, .inl (0, 48, .inl (ax_fill (fun _ => 0) 0 48 (-1)))), (n + 60, .inl (0, 48, .inl (ax_fill (fun _ => 0) 0 48 0))), (n + 61, .inl (0, 48, .inl (fun _ => 0))), (n + 62, .inl (0, 2400, .inl (fun _ => 0))), (n + 63, .inl (0, 512, .inl (ax_fill (fun _ => 0) 0 512 (-1)))), (n + 64, .inl (0, 961, .inl (ax_fill (fun _ => 0) 0 961 (-1)))), (n + 65, .inl (0, 961, .inl (ax_fill (fun _ => 0) 0 961 0))), (n, .inl (0, 48, .inl (fun _ => 0))), (n + 1, .inl (0, 961, .inl (fun _ => 0))), (n + 5, .inl (0, 512, .inl (fun _ => 0))), (n + 6, .inl (0, 100, .inl (fun _ => 0))), (n + 7, .inl (0, 2, .inl (fun _ => 0))), (n + 8, .inl (4, 24, .inr (.inr (.inr (.inr (fun j => if j < 24 then some (n + 10 + 2 * j) else none)))))), (n + 9, .inl (0, 512, .inl (fun _ => 0)))] → (∀ j, j < 24 → ak_at h' (n + 10 + 2 * j)) → NTL h' nt w ids ms 0 u b → ms.map (·.1) = LST p nn 1 (allN nn) → (∀ j, j < nn → ∃ fm, ax_hs h' (QN (n + 67 + 22 * j) (n + 2) nt (nI gg) (nI j) 1 1 (allN nn) (if j = p then 1 else 0) (if j = p then allN nn else 0) 0 0 0 0 0 fm)) → h'.1 = n + 67 + 22 * nn → h'.2.1 = sl + 22048 + gg * nn + nn + 47629 * nn → ax_fr (fun x => NTA nt w x ∨ x ∈ [s0]) h h' → post none h')) : ax_A (ax_step L xs) ((0, 12, fr, lo), [(0, .ref s0), (1, .int x1), (2, .int x2), (3, .int x3)], [.ref nt, .ref s0], h) post := by
  have hn0 : 0 < n := by omega
  obtain ⟨nn, u1, u2, u3⟩ := clI_k (a := 3) (b := 6) x1 (by decide) (by decide)
  obtain ⟨cc, v1, v2, v3⟩ := clI_k (a := 2) (b := 3) x2 (by decide) (by decide)
  obtain ⟨gg, w1, w2, w3⟩ := clI_k (a := 1) (b := 16) x3 (by decide) (by decide)
  have hbase : h.1 = n := hn
  have hbasl : h.2.1 = sl := hs
  have hf : ax_fr (fun x => x ∈ [s0]) h h := ax_fr.rf
  refine ar_putf 15 [.null, .ref nt, .null, .null, .null, .null, .null, .int 0, .int 0, .int 0, .int 0] d_0_12 rfl (ci := 0) (k := 1) rfl (by decide +kernel) (hF.at 0 rfl) (Nat.le_of_ble_eq_true rfl) rfl rfl rfl ?_
  replace hF : ax_hs (ax_put h s0 (.inr (0, [.null, .ref nt, .null, .null, .null, .null, .null, .int 0, .int 0, .int 0, .int 0]))) [(s0, .inr (0, [.null, .ref nt, .null, .null, .null, .null, .null, .int 0, .int 0, .int 0, .int 0]))] := hF.put 0 _ rfl rfl
  replace hf := hf.put (a := s0) (c := .inr (0, [.null, .ref nt, .null, .null, .null, .null, .null, .int 0, .int 0, .int 0, .int 0])) (by simp)
  replace hn : (ax_put h s0 (.inr (0, [.null, .ref nt, .null, .null, .null, .null, .null, .int 0, .int 0, .int 0, .int 0]))).1 = n := hn
  replace hs : (ax_put h s0 (.inr (0, [.null, .ref nt, .null, .null, .null, .null, .null, .int 0, .int 0, .int 0, .int 0]))).2.1 = sl := hs
  generalize ax_put h s0 (.inr (0, [.null, .ref nt, .null, .null, .null, .null, .null, .int 0, .int 0, .int 0, .int 0])) = h1 at hF hf hn hs ⊢
  refine ar_aload_n 16 d_0_15 rfl rfl ?_
  refine ar_bipush 18 (v := 48) d_0_16 rfl (by decide) ?_
  refine ar_newi 20 d_0_18 rfl (by decide) (N := 48) (by decide) (by decide) ?_
  rw [hn]
  replace hF : ax_hs (ax_push h1 48 (.inl (0, 48, .inl (fun _ => 0)))) [(s0, .inr (0, [.null, .ref nt, .null, .null, .null, .null, .null, .int 0, .int 0, .int 0, .int 0])), (n, .inl (0, 48, .inl (fun _ => 0)))] := hF.push (by omega) 48 _ (by rw [hn]; rfl)
  replace hf := hf.push (n := 48) (c := .inl (0, 48, .inl (fun _ => 0)))
  replace hn : (ax_push h1 48 (.inl (0, 48, .inl (fun _ => 0)))).1 = n + 1 := by show h1.1 + 1 = _; rw [hn]
  replace hs : (ax_push h1 48 (.inl (0, 48, .inl (fun _ => 0)))).2.1 = sl + 48 := by show h1.2.1 + 48 = _; omega
  generalize ax_push h1 48 (.inl (0, 48, .inl (fun _ => 0))) = h2 at hF hf hn hs ⊢
  refine ar_putf 23 [.null, .ref nt, .null, .null, .null, .ref n, .null, .int 0, .int 0, .int 0, .int 0] d_0_20 rfl (ci := 0) (k := 5) rfl (by decide +kernel) (hF.at 0 rfl) (Nat.le_of_ble_eq_true rfl) rfl rfl rfl ?_
  replace hF : ax_hs (ax_put h2 s0 (.inr (0, [.null, .ref nt, .null, .null, .null, .ref n, .null, .int 0, .int 0, .int 0, .int 0]))) [(s0, .inr (0, [.null, .ref nt, .null, .null, .null, .ref n, .null, .int 0, .int 0, .int 0, .int 0])), (n, .inl (0, 48, .inl (fun _ => 0)))] := hF.put 0 _ rfl rfl
  replace hf := hf.put (a := s0) (c := .inr (0, [.null, .ref nt, .null, .null, .null, .ref n, .null, .int 0, .int 0, .int 0, .int 0])) (by simp)
  replace hn : (ax_put h2 s0 (.inr (0, [.null, .ref nt, .null, .null, .null, .ref n, .null, .int 0, .int 0, .int 0, .int 0]))).1 = n + 1 := hn
  replace hs : (ax_put h2 s0 (.inr (0, [.null, .ref nt, .null, .null, .null, .ref n, .null, .int 0, .int 0, .int 0, .int 0]))).2.1 = sl + 48 := hs
  generalize ax_put h2 s0 (.inr (0, [.null, .ref nt, .null, .null, .null, .ref n, .null, .int 0, .int 0, .int 0, .int 0])) = h3 at hF hf hn hs ⊢
  refine ar_aload_n 24 d_0_23 rfl rfl ?_
  refine ar_sipush 27 (v := 961) d_0_24 rfl (by decide) ?_
  refine ar_newi 29 d_0_27 rfl (by decide) (N := 961) (by decide) (by decide) ?_
  rw [hn]
  replace hF : ax_hs (ax_push h3 961 (.inl (0, 961, .inl (fun _ => 0)))) [(s0, .inr (0, [.null, .ref nt, .null, .null, .null, .ref n, .null, .int 0, .int 0, .int 0, .int 0])), (n, .inl (0, 48, .inl (fun _ => 0))), (n + 1, .inl (0, 961, .inl (fun _ => 0)))] := hF.push (by omega) 961 _ (by rw [hn]; rfl)
  replace hf := hf.push (n := 961) (c := .inl (0, 961, .inl (fun _ => 0)))
  replace hn : (ax_push h3 961 (.inl (0, 961, .inl (fun _ => 0)))).1 = n + 2 := by show h3.1 + 1 = _; rw [hn]
  replace hs : (ax_push h3 961 (.inl (0, 961, .inl (fun _ => 0)))).2.1 = sl + 1009 := by show h3.2.1 + 961 = _; omega
  generalize ax_push h3 961 (.inl (0, 961, .inl (fun _ => 0))) = h4 at hF hf hn hs ⊢
  refine ar_putf 32 [.null, .ref nt, .null, .null, .null, .ref n, .ref (n + 1), .int 0, .int 0, .int 0, .int 0] d_0_29 rfl (ci := 0) (k := 6) rfl (by decide +kernel) (hF.at 0 rfl) (Nat.le_of_ble_eq_true rfl) rfl rfl rfl ?_
  replace hF : ax_hs (ax_put h4 s0 (.inr (0, [.null, .ref nt, .null, .null, .null, .ref n, .ref (n + 1), .int 0, .int 0, .int 0, .int 0]))) [(s0, .inr (0, [.null, .ref nt, .null, .null, .null, .ref n, .ref (n + 1), .int 0, .int 0, .int 0, .int 0])), (n, .inl (0, 48, .inl (fun _ => 0))), (n + 1, .inl (0, 961, .inl (fun _ => 0)))] := hF.put 0 _ rfl rfl
  replace hf := hf.put (a := s0) (c := .inr (0, [.null, .ref nt, .null, .null, .null, .ref n, .ref (n + 1), .int 0, .int 0, .int 0, .int 0])) (by simp)
  replace hn : (ax_put h4 s0 (.inr (0, [.null, .ref nt, .null, .null, .null, .ref n, .ref (n + 1), .int 0, .int 0, .int 0, .int 0]))).1 = n + 2 := hn
  replace hs : (ax_put h4 s0 (.inr (0, [.null, .ref nt, .null, .null, .null, .ref n, .ref (n + 1), .int 0, .int 0, .int 0, .int 0]))).2.1 = sl + 1009 := hs
  generalize ax_put h4 s0 (.inr (0, [.null, .ref nt, .null, .null, .null, .ref n, .ref (n + 1), .int 0, .int 0, .int 0, .int 0])) = h5 at hF hf hn hs ⊢
  refine ar_aload_n 33 d_0_32 rfl rfl ?_
  refine ar_new 36 d_0_33 rfl (ci := 3) rfl ?_
  rw [hn]
  refine ar_heap (h' := ax_push h5 4 (.inr (3, [.int 0, .int 0, .int 0, .null]))) rfl ?_
  replace hF : ax_hs (ax_push h5 4 (.inr (3, [.int 0, .int 0, .int 0, .null]))) [(s0, .inr (0, [.null, .ref nt, .null, .null, .null, .ref n, .ref (n + 1), .int 0, .int 0, .int 0, .int 0])), (n, .inl (0, 48, .inl (fun _ => 0))), (n + 1, .inl (0, 961, .inl (fun _ => 0))), (n + 2, .inr (3, [.int 0, .int 0, .int 0, .null]))] := hF.push (by omega) 4 _ (by rw [hn]; rfl)
  replace hf := hf.push (n := 4) (c := .inr (3, [.int 0, .int 0, .int 0, .null]))
  replace hn : (ax_push h5 4 (.inr (3, [.int 0, .int 0, .int 0, .null]))).1 = n + 3 := by show h5.1 + 1 = _; rw [hn]
  replace hs : (ax_push h5 4 (.inr (3, [.int 0, .int 0, .int 0, .null]))).2.1 = sl + 1013 := by show h5.2.1 + 4 = _; omega
  generalize ax_push h5 4 (.inr (3, [.int 0, .int 0, .int 0, .null])) = h6 at hF hf hn hs ⊢
  refine ar_dup 37 d_0_36 rfl rfl ?_
  refine ar_iload_n 38 d_0_37 rfl rfl ?_
  refine ar_iconst 39 (v := 3) d_0_38 rfl (by decide) ?_
  refine ar_bipush 41 (v := 6) d_0_39 rfl (by decide) ?_
  refine ar_call (r := [.ref (n + 2), .ref (n + 2), .ref s0]) (na := 0) (kd := 0) (cm := 4) (fr2 := fr - 1) (lo2 := lo - 22) 44 d_0_41 (ar_hoS (as := [.int x1, .int 3, .int 6]) rfl rfl rfl) rfl (by omega) (show lo - 22 + (19 + 3) = lo by omega) (Nat.le_of_ble_eq_true rfl) (Nat.le_of_ble_eq_true rfl) (c_4 (by omega) (by omega)) ?_
  intro v hh hq
  obtain ⟨rfl, ehh⟩ := hq
  rw [ehh]
  clear ehh
  refine ar_top (x' := nI nn) u3 ?_
  refine ar_iload_n 45 d_0_44 rfl rfl ?_
  refine ar_iconst 46 (v := 2) d_0_45 rfl (by decide) ?_
  refine ar_iconst 47 (v := 3) d_0_46 rfl (by decide) ?_
  refine ar_call (r := [.int (nI nn), .ref (n + 2), .ref (n + 2), .ref s0]) (na := 0) (kd := 0) (cm := 4) (fr2 := fr - 1) (lo2 := lo - 22) 50 d_0_47 (ar_hoS (as := [.int x2, .int 2, .int 3]) rfl rfl rfl) rfl (by omega) (show lo - 22 + (19 + 3) = lo by omega) (Nat.le_of_ble_eq_true rfl) (Nat.le_of_ble_eq_true rfl) (c_4 (by omega) (by omega)) ?_
  intro v hh hq
  obtain ⟨rfl, ehh⟩ := hq
  rw [ehh]
  clear ehh
  refine ar_top (x' := nI cc) v3 ?_
  refine ar_iload_n 51 d_0_50 rfl rfl ?_
  refine ar_iconst 52 (v := 1) d_0_51 rfl (by decide) ?_
  refine ar_bipush 54 (v := 16) d_0_52 rfl (by decide) ?_
  refine ar_call (r := [.int (nI cc), .int (nI nn), .ref (n + 2), .ref (n + 2), .ref s0]) (na := 0) (kd := 0) (cm := 4) (fr2 := fr - 1) (lo2 := lo - 22) 57 d_0_54 (ar_hoS (as := [.int x3, .int 1, .int 16]) rfl rfl rfl) rfl (by omega) (show lo - 22 + (19 + 3) = lo by omega) (Nat.le_of_ble_eq_true rfl) (Nat.le_of_ble_eq_true rfl) (c_4 (by omega) (by omega)) ?_
  intro v hh hq
  obtain ⟨rfl, ehh⟩ := hq
  rw [ehh]
  clear ehh
  refine ar_top (x' := nI gg) w3 ?_
  refine ar_call (r := [.ref (n + 2), .ref s0]) (na := 0) (kd := 0) (cm := 7) (fr2 := fr - 1) (lo2 := lo - 26) 60 d_0_57 (ar_hoI (as := [.int (nI nn), .int (nI cc), .int (nI gg)]) rfl rfl rfl) rfl (by omega) (show lo - 26 + (19 + 7) = lo by omega) (Nat.le_of_ble_eq_true rfl) (Nat.le_of_ble_eq_true rfl) (c_7 (by omega) (by omega) w2 u2 (by omega) (hF.sub (F' := [(n + 2, .inr (3, [.int 0, .int 0, .int 0, .null]))]) [3] rfl rfl) hn hs (by omega)) ?_
  intro v h7 hq
  obtain ⟨f, rfl, qF, hRg, qn, qs, qf⟩ := hq
  have qF : ax_hs h7 [(n + 2, .inr (3, [.int (nI nn), .int (nI cc), .int (nI gg), .ref (n + 3)])), (n + 3, .inl (0, gg * nn, .inl f))] := qF
  replace hF : ax_hs h7 [(s0, .inr (0, [.null, .ref nt, .null, .null, .null, .ref n, .ref (n + 1), .int 0, .int 0, .int 0, .int 0])), (n, .inl (0, 48, .inl (fun _ => 0))), (n + 1, .inl (0, 961, .inl (fun _ => 0))), (n + 2, .inr (3, [.int (nI nn), .int (nI cc), .int (nI gg), .ref (n + 3)])), (n + 3, .inl (0, gg * nn, .inl f))] := ax_hs.call (rest := [(s0, .inr (0, [.null, .ref nt, .null, .null, .null, .ref n, .ref (n + 1), .int 0, .int 0, .int 0, .int 0])), (n, .inl (0, 48, .inl (fun _ => 0))), (n + 1, .inl (0, 961, .inl (fun _ => 0)))]) [3] [0, 1, 2] hF qf qF rfl rfl rfl [3] rfl rfl [3] (news := [n + 3]) rfl rfl (by rw [hn]; simp; try omega) rfl
  replace hf := hf.trC qf (by intro x hx hB; simp at hB; first | (rcases hB with rfl <;> first | omega | simp) | omega | simp [hB])
  replace hn : h7.1 = n + 4 := by omega
  replace hs : h7.2.1 = sl + 1013 + gg * nn := by omega
  have qf0 := qf
  clear qF qn qs qf
  obtain ⟨p, hp, hf0, hpl⟩ := nof_all hRg (by omega) u2
  refine ar_putf 63 [.ref (n + 2), .ref nt, .null, .null, .null, .ref n, .ref (n + 1), .int 0, .int 0, .int 0, .int 0] d_0_60 rfl (ci := 0) (k := 0) rfl (by decide +kernel) (hF.at 0 rfl) (Nat.le_of_ble_eq_true rfl) rfl rfl rfl ?_
  replace hF : ax_hs (ax_put h7 s0 (.inr (0, [.ref (n + 2), .ref nt, .null, .null, .null, .ref n, .ref (n + 1), .int 0, .int 0, .int 0, .int 0]))) [(s0, .inr (0, [.ref (n + 2), .ref nt, .null, .null, .null, .ref n, .ref (n + 1), .int 0, .int 0, .int 0, .int 0])), (n, .inl (0, 48, .inl (fun _ => 0))), (n + 1, .inl (0, 961, .inl (fun _ => 0))), (n + 2, .inr (3, [.int (nI nn), .int (nI cc), .int (nI gg), .ref (n + 3)])), (n + 3, .inl (0, gg * nn, .inl f))] := hF.put 0 _ rfl rfl
  replace hf := hf.put (a := s0) (c := .inr (0, [.ref (n + 2), .ref nt, .null, .null, .null, .ref n, .ref (n + 1), .int 0, .int 0, .int 0, .int 0])) (by simp)
  replace hn : (ax_put h7 s0 (.inr (0, [.ref (n + 2), .ref nt, .null, .null, .null, .ref n, .ref (n + 1), .int 0, .int 0, .int 0, .int 0]))).1 = n + 4 := hn
  replace hs : (ax_put h7 s0 (.inr (0, [.ref (n + 2), .ref nt, .null, .null, .null, .ref n, .ref (n + 1), .int 0, .int 0, .int 0, .int 0]))).2.1 = sl + 1013 + gg * nn := hs
  generalize ax_put h7 s0 (.inr (0, [.ref (n + 2), .ref nt, .null, .null, .null, .ref n, .ref (n + 1), .int 0, .int 0, .int 0, .int 0])) = h8 at hF hf hn hs ⊢
  refine ar_aload_n 64 d_0_63 rfl rfl ?_
  refine ar_new 67 d_0_64 rfl (ci := 4) rfl ?_
  rw [hn]
  refine ar_heap (h' := ax_push h8 16 (.inr (4, [.null, .null, .null, .int 0, .null, .null, .null, .null, .int 0, .int 0, .int 0, .int 0, .int 0, .int 0, .int 0, .int 0]))) rfl ?_
  replace hF : ax_hs (ax_push h8 16 (.inr (4, [.null, .null, .null, .int 0, .null, .null, .null, .null, .int 0, .int 0, .int 0, .int 0, .int 0, .int 0, .int 0, .int 0]))) [(s0, .inr (0, [.ref (n + 2), .ref nt, .null, .null, .null, .ref n, .ref (n + 1), .int 0, .int 0, .int 0, .int 0])), (n, .inl (0, 48, .inl (fun _ => 0))), (n + 1, .inl (0, 961, .inl (fun _ => 0))), (n + 2, .inr (3, [.int (nI nn), .int (nI cc), .int (nI gg), .ref (n + 3)])), (n + 3, .inl (0, gg * nn, .inl f)), (n + 4, .inr (4, [.null, .null, .null, .int 0, .null, .null, .null, .null, .int 0, .int 0, .int 0, .int 0, .int 0, .int 0, .int 0, .int 0]))] := hF.push (by omega) 16 _ (by rw [hn]; rfl)
  replace hf := hf.push (n := 16) (c := .inr (4, [.null, .null, .null, .int 0, .null, .null, .null, .null, .int 0, .int 0, .int 0, .int 0, .int 0, .int 0, .int 0, .int 0]))
  replace hn : (ax_push h8 16 (.inr (4, [.null, .null, .null, .int 0, .null, .null, .null, .null, .int 0, .int 0, .int 0, .int 0, .int 0, .int 0, .int 0, .int 0]))).1 = n + 5 := by show h8.1 + 1 = _; rw [hn]
  replace hs : (ax_push h8 16 (.inr (4, [.null, .null, .null, .int 0, .null, .null, .null, .null, .int 0, .int 0, .int 0, .int 0, .int 0, .int 0, .int 0, .int 0]))).2.1 = sl + 1029 + gg * nn := by show h8.2.1 + 16 = _; omega
  generalize ax_push h8 16 (.inr (4, [.null, .null, .null, .int 0, .null, .null, .null, .null, .int 0, .int 0, .int 0, .int 0, .int 0, .int 0, .int 0, .int 0])) = h9 at hF hf hn hs ⊢
  refine ar_dup 68 d_0_67 rfl rfl ?_
  refine ar_aload_n 69 d_0_68 rfl rfl ?_
  refine ar_getf 72 d_0_69 rfl (ci := 0) (k := 0) rfl (hF.at 0 rfl) rfl ?_
  refine ar_aload_n 73 d_0_72 rfl rfl ?_
  refine ar_getf 76 d_0_73 rfl (ci := 0) (k := 1) rfl (hF.at 0 rfl) rfl ?_
  refine ar_call (r := [.ref (n + 4), .ref s0]) (na := 0) (kd := 0) (cm := 9) (fr2 := fr - 1) (lo2 := lo - 23) 79 d_0_76 (ar_hoI (as := [.ref (n + 2), .ref nt]) rfl rfl rfl) rfl (by omega) (show lo - 23 + (19 + 4) = lo by omega) (Nat.le_of_ble_eq_true rfl) (Nat.le_of_ble_eq_true rfl) (c_9 (by omega) (by omega) (hF.sub (F' := [(n + 4, .inr (4, [.null, .null, .null, .int 0, .null, .null, .null, .null, .int 0, .int 0, .int 0, .int 0, .int 0, .int 0, .int 0, .int 0])), (n + 2, .inr (3, [.int (nI nn), .int (nI cc), .int (nI gg), .ref (n + 3)]))]) [5, 3] rfl rfl) hn hs (by omega)) ?_
  intro v h10 hq
  obtain ⟨rfl, qF, hak, qn, qs, qf⟩ := hq
  have qF : ax_hs h10 [(n + 4, .inr (4, [.ref (n + 2), .ref nt, .ref (n + 5), .int 0, .ref (n + 6), .ref (n + 7), .ref (n + 8), .ref (n + 9), .int 0, .int 0, .int 0, .int 0, .int (-1), .int 1, .int (allN nn), .int (allN nn)])), (n + 2, .inr (3, [.int (nI nn), .int (nI cc), .int (nI gg), .ref (n + 3)])), (n + 5, .inl (0, 512, .inl (fun _ => 0))), (n + 6, .inl (0, 100, .inl (fun _ => 0))), (n + 7, .inl (0, 2, .inl (fun _ => 0))), (n + 8, .inl (4, 24, .inr (.inr (.inr (.inr (fun j => if j < 24 then some (n + 10 + 2 * j) else none)))))), (n + 9, .inl (0, 512, .inl (fun _ => 0)))] := qF
  replace hF : ax_hs h10 [(s0, .inr (0, [.ref (n + 2), .ref nt, .null, .null, .null, .ref n, .ref (n + 1), .int 0, .int 0, .int 0, .int 0])), (n, .inl (0, 48, .inl (fun _ => 0))), (n + 1, .inl (0, 961, .inl (fun _ => 0))), (n + 3, .inl (0, gg * nn, .inl f)), (n + 4, .inr (4, [.ref (n + 2), .ref nt, .ref (n + 5), .int 0, .ref (n + 6), .ref (n + 7), .ref (n + 8), .ref (n + 9), .int 0, .int 0, .int 0, .int 0, .int (-1), .int 1, .int (allN nn), .int (allN nn)])), (n + 2, .inr (3, [.int (nI nn), .int (nI cc), .int (nI gg), .ref (n + 3)])), (n + 5, .inl (0, 512, .inl (fun _ => 0))), (n + 6, .inl (0, 100, .inl (fun _ => 0))), (n + 7, .inl (0, 2, .inl (fun _ => 0))), (n + 8, .inl (4, 24, .inr (.inr (.inr (.inr (fun j => if j < 24 then some (n + 10 + 2 * j) else none)))))), (n + 9, .inl (0, 512, .inl (fun _ => 0)))] := ax_hs.call (rest := [(s0, .inr (0, [.ref (n + 2), .ref nt, .null, .null, .null, .ref n, .ref (n + 1), .int 0, .int 0, .int 0, .int 0])), (n, .inl (0, 48, .inl (fun _ => 0))), (n + 1, .inl (0, 961, .inl (fun _ => 0))), (n + 3, .inl (0, gg * nn, .inl f))]) [5, 3] [0, 1, 2, 4] hF qf qF rfl rfl rfl [5] rfl rfl [5, 3] (news := [n + 5, n + 6, n + 7, n + 8, n + 9]) rfl rfl (by rw [hn]; simp; try omega) rfl
  replace hf := hf.trC qf (by intro x hx hB; simp at hB; first | (rcases hB with rfl <;> first | omega | simp) | omega | simp [hB])
  replace hn : h10.1 = n + 58 := by omega
  replace hs : h10.2.1 = sl + 17059 + gg * nn := by omega
  have qf0 := qf
  clear qF qn qs qf
  replace hN := hN.fr hf (by intro x hx hB; simp at hB; subst hB; exact hA_s0 hx)
  have hA : ∀ x, n ≤ x → ¬ NTA nt w x := fun x hx z => by
    rcases z with z | z <;> omega
  refine ph_C (n := n + 58) hfr hlo w2 (by omega) u2 (by omega) hp hpl hntw (by omega) (hA _ (by omega)) (hA _ (by omega)) hA_s0 (hA _ (by omega)) (hF.sub [0, 5, 3, 4] rfl rfl) hN hn hs (fun h' ids ms j1 j2 j3 j4 j5 j6 j7 => ?_)
  have hR := (hF.sub (F' := [(n, .inl (0, 48, .inl (fun _ => 0))), (n + 1, .inl (0, 961, .inl (fun _ => 0))), (n + 5, .inl (0, 512, .inl (fun _ => 0))), (n + 6, .inl (0, 100, .inl (fun _ => 0))), (n + 7, .inl (0, 2, .inl (fun _ => 0))), (n + 8, .inl (4, 24, .inr (.inr (.inr (.inr (fun j => if j < 24 then some (n + 10 + 2 * j) else none)))))), (n + 9, .inl (0, 512, .inl (fun _ => 0)))]) [1, 2, 6, 7, 8, 9, 10] rfl rfl).fr j7 (by intro x hx; simp only [List.mem_cons, List.not_mem_nil, or_false] at hx; rcases hx with rfl | rfl | rfl | rfl | rfl | rfl | rfl <;> (intro z; rcases z with z | z; exact hA _ (by dsimp only; omega) z; simp at z; omega))
  have j1 : ax_hs h' [(s0, .inr (0, [.ref (n + 2), .ref nt, .ref (n + 4), .ref (n + 66), .ref (n + 58), .ref n, .ref (n + 1), .int 0, .int 0, .int 0, .int 0])), (n + 2, .inr (3, [.int (nI nn), .int (nI cc), .int (nI gg), .ref (n + 3)])), (n + 3, .inl (0, gg * nn, .inl f)), (n + 4, .inr (4, [.ref (n + 2), .ref nt, .ref (n + 5), .int 0, .ref (n + 6), .ref (n + 7), .ref (n + 8), .ref (n + 9), .int 0, .int 0, .int 0, .int 0, .int (-1), .int 1, .int (allN nn), .int (allN nn)])), (n + 66, .inl (5, nn, .inr (.inr (.inr (.inr (fun j => if j < nn then some (n + 67 + 22 * j) else none)))))), (n + 58, .inr (6, [.int (nI gg), .ref (n + 59), .ref (n + 60), .ref (n + 61), .ref (n + 62), .ref (n + 63), .ref (n + 64), .ref (n + 65), .long 0, .int 0, .int 0])), (n + 59, .inl (0, 48, .inl (ax_fill (fun _ => 0) 0 48 (-1)))), (n + 60, .inl (0, 48, .inl (ax_fill (fun _ => 0) 0 48 0))), (n + 61, .inl (0, 48, .inl (fun _ => 0))), (n + 62, .inl (0, 2400, .inl (fun _ => 0))), (n + 63, .inl (0, 512, .inl (ax_fill (fun _ => 0) 0 512 (-1)))), (n + 64, .inl (0, 961, .inl (ax_fill (fun _ => 0) 0 961 (-1)))), (n + 65, .inl (0, 961, .inl (ax_fill (fun _ => 0) 0 961 0)))] := j1
  have hF9 : ax_hs h' [(s0, .inr (0, [.ref (n + 2), .ref nt, .ref (n + 4), .ref (n + 66), .ref (n + 58), .ref n, .ref (n + 1), .int 0, .int 0, .int 0, .int 0])), (n + 2, .inr (3, [.int (nI nn), .int (nI cc), .int (nI gg), .ref (n + 3)])), (n + 3, .inl (0, gg * nn, .inl f)), (n + 4, .inr (4, [.ref (n + 2), .ref nt, .ref (n + 5), .int 0, .ref (n + 6), .ref (n + 7), .ref (n + 8), .ref (n + 9), .int 0, .int 0, .int 0, .int 0, .int (-1), .int 1, .int (allN nn), .int (allN nn)])), (n + 66, .inl (5, nn, .inr (.inr (.inr (.inr (fun j => if j < nn then some (n + 67 + 22 * j) else none)))))), (n + 58, .inr (6, [.int (nI gg), .ref (n + 59), .ref (n + 60), .ref (n + 61), .ref (n + 62), .ref (n + 63), .ref (n + 64), .ref (n + 65), .long 0, .int 0, .int 0])), (n + 59, .inl (0, 48, .inl (ax_fill (fun _ => 0) 0 48 (-1)))), (n + 60, .inl (0, 48, .inl (ax_fill (fun _ => 0) 0 48 0))), (n + 61, .inl (0, 48, .inl (fun _ => 0))), (n + 62, .inl (0, 2400, .inl (fun _ => 0))), (n + 63, .inl (0, 512, .inl (ax_fill (fun _ => 0) 0 512 (-1)))), (n + 64, .inl (0, 961, .inl (ax_fill (fun _ => 0) 0 961 (-1)))), (n + 65, .inl (0, 961, .inl (ax_fill (fun _ => 0) 0 961 0))), (n, .inl (0, 48, .inl (fun _ => 0))), (n + 1, .inl (0, 961, .inl (fun _ => 0))), (n + 5, .inl (0, 512, .inl (fun _ => 0))), (n + 6, .inl (0, 100, .inl (fun _ => 0))), (n + 7, .inl (0, 2, .inl (fun _ => 0))), (n + 8, .inl (4, 24, .inr (.inr (.inr (.inr (fun j => if j < 24 then some (n + 10 + 2 * j) else none)))))), (n + 9, .inl (0, 512, .inl (fun _ => 0)))] := j1.app hR (by intro i j p q hp hq e; have h1 := List.mem_of_getElem? hp; have h2 := List.mem_of_getElem? hq; simp only [List.mem_cons, List.not_mem_nil, or_false] at h1 h2; rcases h1 with rfl | rfl | rfl | rfl | rfl | rfl | rfl | rfl | rfl | rfl | rfl | rfl | rfl <;> rcases h2 with rfl | rfl | rfl | rfl | rfl | rfl | rfl <;> (dsimp only at e; omega))
  exact kk h' nn gg cc p f ids ms ⟨u1, u2, u3⟩ ⟨v1, v2, v3⟩ ⟨w1, w2, w3⟩ ⟨hp, hf0, hpl, hRg⟩ hF9 (fun j hj => (hak j hj).fr j7 (fun z => z.elim (hA _ (by omega)) (fun z => by simp at z; omega)) (fun z => z.elim (hA _ (by omega)) (fun z => by simp at z; omega))) j2 j3 j4 (by omega) (by omega) ((hf.mono (fun x hx => Or.inr hx)).trC j7 (fun x _ hB => hB))
/-- the cells of a fresh store s0; n is the handle behind it: the net -/
def SW (s0 n nn gg cc : Nat) (f : Nat → Int32) : List (Nat × va_E) := [(s0, .inr (0, [.ref (n + 264), .ref n, .ref (n + 266), .ref (n + 328), .ref (n + 320), .ref (n + 262), .ref (n + 263), .int 0, .int 0, .int 0, .int 0])), (n + 264, .inr (3, [.int (nI nn), .int (nI cc), .int (nI gg), .ref (n + 265)])), (n + 265, .inl (0, gg * nn, .inl f)), (n + 266, .inr (4, [.ref (n + 264), .ref n, .ref (n + 267), .int 0, .ref (n + 268), .ref (n + 269), .ref (n + 270), .ref (n + 271), .int 0, .int 0, .int 0, .int 0, .int (-1), .int 1, .int (allN nn), .int (allN nn)])), (n + 328, .inl (5, nn, .inr (.inr (.inr (.inr (fun j => if j < nn then some (n + 329 + 22 * j) else none)))))), (n + 320, .inr (6, [.int (nI gg), .ref (n + 321), .ref (n + 322), .ref (n + 323), .ref (n + 324), .ref (n + 325), .ref (n + 326), .ref (n + 327), .long 0, .int 0, .int 0])), (n + 321, .inl (0, 48, .inl (ax_fill (fun _ => 0) 0 48 (-1)))), (n + 322, .inl (0, 48, .inl (ax_fill (fun _ => 0) 0 48 0))), (n + 323, .inl (0, 48, .inl (fun _ => 0))), (n + 324, .inl (0, 2400, .inl (fun _ => 0))), (n + 325, .inl (0, 512, .inl (ax_fill (fun _ => 0) 0 512 (-1)))), (n + 326, .inl (0, 961, .inl (ax_fill (fun _ => 0) 0 961 (-1)))), (n + 327, .inl (0, 961, .inl (ax_fill (fun _ => 0) 0 961 0))), (n + 262, .inl (0, 48, .inl (fun _ => 0))), (n + 263, .inl (0, 961, .inl (fun _ => 0))), (n + 267, .inl (0, 512, .inl (fun _ => 0))), (n + 268, .inl (0, 100, .inl (fun _ => 0))), (n + 269, .inl (0, 2, .inl (fun _ => 0))), (n + 270, .inl (4, 24, .inr (.inr (.inr (.inr (fun j => if j < 24 then some (n + 272 + 2 * j) else none)))))), (n + 271, .inl (0, 512, .inl (fun _ => 0)))]
def Fresh (h : ax_H) (x1 x2 x3 : Int32) (s0 n nn gg cc p : Nat) (f : Nat → Int32) : Prop := (3 ≤ nn ∧ nn ≤ 6 ∧ clI x1 3 6 = nI nn) ∧ (2 ≤ cc ∧ cc ≤ 3 ∧ clI x2 2 3 = nI cc) ∧ (1 ≤ gg ∧ gg ≤ 16 ∧ clI x3 1 16 = nI gg) ∧ (p < nn ∧ f 0 = nI p ∧ nof f 0 (allN nn) nn 0 0 = nI p ∧ Rg nn f) ∧ s0 < n ∧ ax_hs h (SW s0 n nn gg cc f) ∧ (∀ j, j < 24 → ak_at h (n + 272 + 2 * j)) ∧ (∃ (ids : List Nat) (ms : List Mg), NTL h n (n + 1) ids ms 0 (fun _ => 0) (fun _ => 0) ∧ ms.map (·.1) = LST p nn 1 (allN nn)) ∧ ∀ j, j < nn → ∃ fm, ax_hs h (QN (n + 329 + 22 * j) (n + 264) n (nI gg) (nI j) 1 1 (allN nn) (if j = p then 1 else 0) (if j = p then allN nn else 0) 0 0 0 0 0 fm)
set_option maxRecDepth 100000 in
theorem c_0 {L : Nat} {xs : Nat → Int32} {fr lo s0 n sl : Nat} {x1 x2 x3 : Int32} {h : ax_H} (hfr : 6 ≤ fr) (hlo : 130 ≤ lo) (hF : ax_hs h [(s0, .inr (0, [.null, .null, .null, .null, .null, .null, .null, .int 0, .int 0, .int 0, .int 0]))]) (hn : h.1 = n) (hs : h.2.1 = sl) (hn0 : 0 < n) : ax_M L xs 0 fr lo [.ref s0, .int x1, .int x2, .int x3] h (fun r h' => ∃ nn gg cc p f, r = none ∧ Fresh h' x1 x2 x3 s0 n nn gg cc p f ∧ h'.1 = n + 329 + 22 * nn ∧ h'.2.1 = sl + 103560 + gg * nn + nn + 47629 * nn ∧ ax_fr (fun x => x ∈ [s0]) h h') := by
  have hs0 : s0 < n := by
    have := (ax_g_lt (hF.at 0 rfl)).2
    omega
  show ax_A (ax_step L xs) ((0, 0, fr, lo), [(0, .ref s0), (1, .int x1), (2, .int x2), (3, .int x3)], [], h) _
  have hbase : h.1 = n := hn
  have hbasl : h.2.1 = sl := hs
  have hf : ax_fr (fun x => x ∈ [s0]) h h := ax_fr.rf
  refine ar_aload_n 1 d_0_0 rfl rfl ?_
  refine ar_objI 4 d_0_1 rfl rfl (by omega) (by show 0 + 12 ≤ lo; omega) ?_
  refine ar_aload_n 5 d_0_4 rfl rfl ?_
  refine ar_new 8 d_0_5 rfl (ci := 1) rfl ?_
  rw [hn]
  refine ar_heap (h' := ax_push h 4 (.inr (1, [.null, .int 0, .null, .null]))) rfl ?_
  replace hF : ax_hs (ax_push h 4 (.inr (1, [.null, .int 0, .null, .null]))) [(s0, .inr (0, [.null, .null, .null, .null, .null, .null, .null, .int 0, .int 0, .int 0, .int 0])), (n, .inr (1, [.null, .int 0, .null, .null]))] := hF.push (by omega) 4 _ (by rw [hn]; rfl)
  replace hf := hf.push (n := 4) (c := .inr (1, [.null, .int 0, .null, .null]))
  replace hn : (ax_push h 4 (.inr (1, [.null, .int 0, .null, .null]))).1 = n + 1 := by show h.1 + 1 = _; rw [hn]
  replace hs : (ax_push h 4 (.inr (1, [.null, .int 0, .null, .null]))).2.1 = sl + 4 := by show h.2.1 + 4 = _; omega
  generalize ax_push h 4 (.inr (1, [.null, .int 0, .null, .null])) = h1 at hF hf hn hs ⊢
  refine ar_dup 9 d_0_8 rfl rfl ?_
  refine ar_call (r := [.ref n, .ref s0]) (na := 0) (kd := 0) (cm := 2) (fr2 := fr - 1) (lo2 := lo - 21) 12 d_0_9 (ar_hoI (as := []) rfl rfl rfl) rfl (by omega) (show lo - 21 + (19 + 2) = lo by omega) (Nat.le_of_ble_eq_true rfl) (Nat.le_of_ble_eq_true rfl) (c_2 (by omega) (by omega) (hF.sub (F' := [(n, .inr (1, [.null, .int 0, .null, .null]))]) [1] rfl rfl) hn hs (by omega)) ?_
  intro v h9 hq
  obtain ⟨rfl, hNT, qn, qs, qf⟩ := hq
  replace hF : ax_hs h9 [(s0, .inr (0, [.null, .null, .null, .null, .null, .null, .null, .int 0, .int 0, .int 0, .int 0]))] := (hF.sub (F' := [(s0, .inr (0, [.null, .null, .null, .null, .null, .null, .null, .int 0, .int 0, .int 0, .int 0]))]) [0] rfl rfl).fr qf (by intro x hx; simp at hx; subst hx; simp; omega)
  have hN : NTL h9 n (n + 1) [] [] 0 (fun _ => 0) (fun _ => 0) := ⟨_, _, _, _, hNT, rfl, fun i hi => absurd hi (Nat.not_lt_zero i), by decide, by decide, fun i _ _ => Nat.succ_ne_zero _, rfl, rfl⟩
  replace hf := hf.trC qf (by intro x hx hB; simp at hB; omega)
  refine ph_B (n := n + 262) (sl := sl + 81512) (by omega) (by omega) (Nat.lt_succ_self n) (by omega) (fun z => by rcases z with z | z <;> omega) (by omega) hF hN (by omega) (by omega) (fun h' nn gg cc p f ids ms k1 k2 k3 k4 k5 k6 k7 k8 k9 k10 k11 k12 => ?_)
  exact ⟨nn, gg, cc, p, f, rfl, ⟨k1, k2, k3, k4, hs0, k5, k6, ⟨ids, ms, k7, k8⟩, k9⟩, k10, by omega, hf.trC k12 (fun x hx hB => by rcases hB with hB | hB; rcases hB with hB | hB <;> omega; exact hB)⟩


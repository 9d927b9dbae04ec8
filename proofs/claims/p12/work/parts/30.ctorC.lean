theorem ax_hs.apartA {h : ax_H} {W : List (Nat × va_E)} {As Bs : List Nat} (hF : ax_hs h W) (js is : List Nat) (hd : js.all (fun j => !is.contains j) = true) (hj : js.map (fun i => (W[i]?).map (·.1)) = As.map some) (hi : is.map (fun i => (W[i]?).map (·.1)) = Bs.map some) (x : Nat) (h1 : x ∈ As) (h2 : x ∈ Bs) : False := by
  have m1 : some x ∈ js.map (fun i => (W[i]?).map (·.1)) := by
    rw [hj]
    exact List.mem_map.mpr ⟨x, h1, rfl⟩
  have m2 : some x ∈ is.map (fun i => (W[i]?).map (·.1)) := by
    rw [hi]
    exact List.mem_map.mpr ⟨x, h2, rfl⟩
  obtain ⟨a, a1, a2⟩ := List.mem_map.mp m1
  obtain ⟨b, b1, b2⟩ := List.mem_map.mp m2
  obtain ⟨⟨y, c⟩, y1, y2⟩ := Option.map_eq_some_iff.mp a2
  obtain ⟨⟨y', c'⟩, z1, z2⟩ := Option.map_eq_some_iff.mp b2
  have e1 : y = x := y2
  have e2 : y' = x := z2
  have := hF.1 a b (y, c) (y', c') y1 z1 (e1.trans e2.symm)
  subst this
  have h3 := List.all_eq_true.mp hd a a1
  simp at h3
  exact h3 b1
/-! the constructor of the store, from behind to before -/
theorem allN_bit : ∀ nn, nn < 7 → ∀ v, v < nn → ¬ (allN nn >>> (nI v &&& 31)) &&& 1 = 0 := by decide
theorem nof_all {nn : Nat} {f : Nat → Int32} (h : Rg nn f) (h0 : 0 < nn) (h6 : nn ≤ 6) : ∃ p, p < nn ∧ f 0 = nI p ∧ nof f 0 (allN nn) nn 0 0 = nI p := by
  obtain ⟨v, hv, e⟩ := h 0
  refine ⟨v, hv, e, ?_⟩
  obtain ⟨k, rfl⟩ : ∃ k, nn = k + 1 := ⟨nn - 1, by omega⟩
  unfold nof
  rw [e, if_neg (allN_bit (k + 1) (by omega) v hv), if_pos rfl]
set_option maxRecDepth 100000 in
theorem ph_C {L : Nat} {xs : Nat → Int32} {fr lo s0 rk o as nt w od sn b1 b2 b3 b4 b5 nn gg p n sl : Nat} {C x1 x2 x3 : Int32} {f u b : Nat → Int32} {h : ax_H} {post : ax_Po} (hfr : 6 ≤ fr) (hlo : 130 ≤ lo) (hgg : gg ≤ 16) (hg1 : 0 < gg) (hnn : nn ≤ 6) (hn3 : 0 < nn) (hp : p < nn) (hpl : nof f 0 (allN nn) nn 0 0 = nI p) (hntw : nt < w) (hwb : w + 261 ≤ n) (hA_rk : ¬ NTA nt w rk) (hA_o : ¬ NTA nt w o) (hA_s0 : ¬ NTA nt w s0) (hA_as : ¬ NTA nt w as)
    (hF : ax_hs h [(s0, .inr (0, [.ref rk, .ref nt, .null, .null, .null, .ref od, .ref sn, .int 0, .int 0, .int 0, .int 0])), (rk, .inr (3, [.int (nI nn), .int C, .int (nI gg), .ref o])), (o, .inl (0, gg * nn, .inl f)), (as, .inr (4, [.ref rk, .ref nt, .ref b1, .int 0, .ref b2, .ref b3, .ref b4, .ref b5, .int 0, .int 0, .int 0, .int 0, .int (-1), .int 1, .int (allN nn), .int (allN nn)]))]) (hN : NTL h nt w [] [] 0 u b) (hn : h.1 = n) (hs : h.2.1 = sl)
    (kk : ∀ (h' : ax_H) (ids : List Nat) (ms : List Mg), ax_hs h' [(s0, .inr (0, [.ref rk, .ref nt, .ref as, .ref (n + 8), .ref n, .ref od, .ref sn, .int 0, .int 0, .int 0, .int 0])), (rk, .inr (3, [.int (nI nn), .int C, .int (nI gg), .ref o])), (o, .inl (0, gg * nn, .inl f)), (as, .inr (4, [.ref rk, .ref nt, .ref b1, .int 0, .ref b2, .ref b3, .ref b4, .ref b5, .int 0, .int 0, .int 0, .int 0, .int (-1), .int 1, .int (allN nn), .int (allN nn)])), (n + 8, .inl (5, nn, .inr (.inr (.inr (.inr (fun j => if j < nn then some (n + 9 + 22 * j) else none)))))), (n, .inr (6, [.int (nI gg), .ref (n + 1), .ref (n + 2), .ref (n + 3), .ref (n + 4), .ref (n + 5), .ref (n + 6), .ref (n + 7), .long 0, .int 0, .int 0])), (n + 1, .inl (0, 48, .inl (ax_fill (fun _ => 0) 0 48 (-1)))), (n + 2, .inl (0, 48, .inl (ax_fill (fun _ => 0) 0 48 0))), (n + 3, .inl (0, 48, .inl (fun _ => 0))), (n + 4, .inl (0, 2400, .inl (fun _ => 0))), (n + 5, .inl (0, 512, .inl (ax_fill (fun _ => 0) 0 512 (-1)))), (n + 6, .inl (0, 961, .inl (ax_fill (fun _ => 0) 0 961 (-1)))), (n + 7, .inl (0, 961, .inl (ax_fill (fun _ => 0) 0 961 0)))] → NTL h' nt w ids ms 0 u b → ms.map (·.1) = LST p nn 1 (allN nn) → (∀ j, j < nn → ∃ fm, ax_hs h' (QN (n + 9 + 22 * j) rk nt (nI gg) (nI j) 1 1 (allN nn) (if j = p then 1 else 0) (if j = p then allN nn else 0) 0 0 0 0 0 fm)) → h'.1 = n + 9 + 22 * nn → h'.2.1 = sl + 4989 + nn + 47629 * nn → ax_fr (fun x => NTA nt w x ∨ x ∈ [s0]) h h' → post none h') : ax_A (ax_step L xs) ((0, 79, fr, lo), [(0, .ref s0), (1, .int x1), (2, .int x2), (3, .int x3)], [.ref as, .ref s0], h) post := by
  have hn0 : 0 < n := by omega
  have hbase : h.1 = n := hn
  have hbasl : h.2.1 = sl := hs
  have hf : ax_fr (fun x => x ∈ [s0]) h h := ax_fr.rf
  refine ar_putf 82 [.ref rk, .ref nt, .ref as, .null, .null, .ref od, .ref sn, .int 0, .int 0, .int 0, .int 0] d_0_79 rfl (ci := 0) (k := 2) rfl (by decide +kernel) (hF.at 0 rfl) (Nat.le_of_ble_eq_true rfl) rfl rfl rfl ?_
  replace hF : ax_hs (ax_put h s0 (.inr (0, [.ref rk, .ref nt, .ref as, .null, .null, .ref od, .ref sn, .int 0, .int 0, .int 0, .int 0]))) [(s0, .inr (0, [.ref rk, .ref nt, .ref as, .null, .null, .ref od, .ref sn, .int 0, .int 0, .int 0, .int 0])), (rk, .inr (3, [.int (nI nn), .int C, .int (nI gg), .ref o])), (o, .inl (0, gg * nn, .inl f)), (as, .inr (4, [.ref rk, .ref nt, .ref b1, .int 0, .ref b2, .ref b3, .ref b4, .ref b5, .int 0, .int 0, .int 0, .int 0, .int (-1), .int 1, .int (allN nn), .int (allN nn)]))] := hF.put 0 _ rfl rfl
  replace hf := hf.put (a := s0) (c := .inr (0, [.ref rk, .ref nt, .ref as, .null, .null, .ref od, .ref sn, .int 0, .int 0, .int 0, .int 0])) (by simp)
  replace hn : (ax_put h s0 (.inr (0, [.ref rk, .ref nt, .ref as, .null, .null, .ref od, .ref sn, .int 0, .int 0, .int 0, .int 0]))).1 = n := hn
  replace hs : (ax_put h s0 (.inr (0, [.ref rk, .ref nt, .ref as, .null, .null, .ref od, .ref sn, .int 0, .int 0, .int 0, .int 0]))).2.1 = sl := hs
  generalize ax_put h s0 (.inr (0, [.ref rk, .ref nt, .ref as, .null, .null, .ref od, .ref sn, .int 0, .int 0, .int 0, .int 0])) = h1 at hF hf hn hs ⊢
  refine ar_aload_n 83 d_0_82 rfl rfl ?_
  refine ar_new 86 d_0_83 rfl (ci := 6) rfl ?_
  rw [hn]
  refine ar_heap (h' := ax_push h1 11 (.inr (6, [.int 0, .null, .null, .null, .null, .null, .null, .null, .long 0, .int 0, .int 0]))) rfl ?_
  replace hF : ax_hs (ax_push h1 11 (.inr (6, [.int 0, .null, .null, .null, .null, .null, .null, .null, .long 0, .int 0, .int 0]))) [(s0, .inr (0, [.ref rk, .ref nt, .ref as, .null, .null, .ref od, .ref sn, .int 0, .int 0, .int 0, .int 0])), (rk, .inr (3, [.int (nI nn), .int C, .int (nI gg), .ref o])), (o, .inl (0, gg * nn, .inl f)), (as, .inr (4, [.ref rk, .ref nt, .ref b1, .int 0, .ref b2, .ref b3, .ref b4, .ref b5, .int 0, .int 0, .int 0, .int 0, .int (-1), .int 1, .int (allN nn), .int (allN nn)])), (n, .inr (6, [.int 0, .null, .null, .null, .null, .null, .null, .null, .long 0, .int 0, .int 0]))] := hF.push (by omega) 11 _ (by rw [hn]; rfl)
  replace hf := hf.push (n := 11) (c := .inr (6, [.int 0, .null, .null, .null, .null, .null, .null, .null, .long 0, .int 0, .int 0]))
  replace hn : (ax_push h1 11 (.inr (6, [.int 0, .null, .null, .null, .null, .null, .null, .null, .long 0, .int 0, .int 0]))).1 = n + 1 := by show h1.1 + 1 = _; rw [hn]
  replace hs : (ax_push h1 11 (.inr (6, [.int 0, .null, .null, .null, .null, .null, .null, .null, .long 0, .int 0, .int 0]))).2.1 = sl + 11 := by show h1.2.1 + 11 = _; omega
  generalize ax_push h1 11 (.inr (6, [.int 0, .null, .null, .null, .null, .null, .null, .null, .long 0, .int 0, .int 0])) = h2 at hF hf hn hs ⊢
  refine ar_dup 87 d_0_86 rfl rfl ?_
  refine ar_aload_n 88 d_0_87 rfl rfl ?_
  refine ar_getf 91 d_0_88 rfl (ci := 0) (k := 0) rfl (hF.at 0 rfl) rfl ?_
  refine ar_getf 94 d_0_91 rfl (ci := 3) (k := 2) rfl (hF.at 1 rfl) rfl ?_
  refine ar_call (r := [.ref n, .ref s0]) (na := 0) (kd := 0) (cm := 11) (fr2 := fr - 1) (lo2 := lo - 21) 97 d_0_94 (ar_hoI (as := [.int (nI gg)]) rfl rfl rfl) rfl (by omega) (show lo - 21 + (19 + 2) = lo by omega) (Nat.le_of_ble_eq_true rfl) (Nat.le_of_ble_eq_true rfl) (c_11 (by omega) (by omega) (hF.sub (F' := [(n, .inr (6, [.int 0, .null, .null, .null, .null, .null, .null, .null, .long 0, .int 0, .int 0]))]) [4] rfl rfl) hn hs (by omega)) ?_
  intro v h3 hq
  obtain ⟨rfl, qF, qn, qs, qf⟩ := hq
  have qF : ax_hs h3 [(n, .inr (6, [.int (nI gg), .ref (n + 1), .ref (n + 2), .ref (n + 3), .ref (n + 4), .ref (n + 5), .ref (n + 6), .ref (n + 7), .long 0, .int 0, .int 0])), (n + 1, .inl (0, 48, .inl (ax_fill (fun _ => 0) 0 48 (-1)))), (n + 2, .inl (0, 48, .inl (ax_fill (fun _ => 0) 0 48 0))), (n + 3, .inl (0, 48, .inl (fun _ => 0))), (n + 4, .inl (0, 2400, .inl (fun _ => 0))), (n + 5, .inl (0, 512, .inl (ax_fill (fun _ => 0) 0 512 (-1)))), (n + 6, .inl (0, 961, .inl (ax_fill (fun _ => 0) 0 961 (-1)))), (n + 7, .inl (0, 961, .inl (ax_fill (fun _ => 0) 0 961 0)))] := qF
  replace hF : ax_hs h3 [(s0, .inr (0, [.ref rk, .ref nt, .ref as, .null, .null, .ref od, .ref sn, .int 0, .int 0, .int 0, .int 0])), (rk, .inr (3, [.int (nI nn), .int C, .int (nI gg), .ref o])), (o, .inl (0, gg * nn, .inl f)), (as, .inr (4, [.ref rk, .ref nt, .ref b1, .int 0, .ref b2, .ref b3, .ref b4, .ref b5, .int 0, .int 0, .int 0, .int 0, .int (-1), .int 1, .int (allN nn), .int (allN nn)])), (n, .inr (6, [.int (nI gg), .ref (n + 1), .ref (n + 2), .ref (n + 3), .ref (n + 4), .ref (n + 5), .ref (n + 6), .ref (n + 7), .long 0, .int 0, .int 0])), (n + 1, .inl (0, 48, .inl (ax_fill (fun _ => 0) 0 48 (-1)))), (n + 2, .inl (0, 48, .inl (ax_fill (fun _ => 0) 0 48 0))), (n + 3, .inl (0, 48, .inl (fun _ => 0))), (n + 4, .inl (0, 2400, .inl (fun _ => 0))), (n + 5, .inl (0, 512, .inl (ax_fill (fun _ => 0) 0 512 (-1)))), (n + 6, .inl (0, 961, .inl (ax_fill (fun _ => 0) 0 961 (-1)))), (n + 7, .inl (0, 961, .inl (ax_fill (fun _ => 0) 0 961 0)))] := ax_hs.call (rest := [(s0, .inr (0, [.ref rk, .ref nt, .ref as, .null, .null, .ref od, .ref sn, .int 0, .int 0, .int 0, .int 0])), (rk, .inr (3, [.int (nI nn), .int C, .int (nI gg), .ref o])), (o, .inl (0, gg * nn, .inl f)), (as, .inr (4, [.ref rk, .ref nt, .ref b1, .int 0, .ref b2, .ref b3, .ref b4, .ref b5, .int 0, .int 0, .int 0, .int 0, .int (-1), .int 1, .int (allN nn), .int (allN nn)]))]) [4] [0, 1, 2, 3] hF qf qF rfl rfl rfl [4] rfl rfl [4] (news := [n + 1, n + 2, n + 3, n + 4, n + 5, n + 6, n + 7]) rfl rfl (by rw [hn]; simp; try omega) rfl
  replace hf := hf.trC qf (by intro x hx hB; simp at hB; first | (rcases hB with rfl <;> first | omega | simp) | omega | simp [hB])
  replace hn : h3.1 = n + 8 := by omega
  replace hs : h3.2.1 = sl + 4989 := by omega
  have qf0 := qf
  clear qF qn qs qf
  refine ar_putf 100 [.ref rk, .ref nt, .ref as, .null, .ref n, .ref od, .ref sn, .int 0, .int 0, .int 0, .int 0] d_0_97 rfl (ci := 0) (k := 4) rfl (by decide +kernel) (hF.at 0 rfl) (Nat.le_of_ble_eq_true rfl) rfl rfl rfl ?_
  replace hF : ax_hs (ax_put h3 s0 (.inr (0, [.ref rk, .ref nt, .ref as, .null, .ref n, .ref od, .ref sn, .int 0, .int 0, .int 0, .int 0]))) [(s0, .inr (0, [.ref rk, .ref nt, .ref as, .null, .ref n, .ref od, .ref sn, .int 0, .int 0, .int 0, .int 0])), (rk, .inr (3, [.int (nI nn), .int C, .int (nI gg), .ref o])), (o, .inl (0, gg * nn, .inl f)), (as, .inr (4, [.ref rk, .ref nt, .ref b1, .int 0, .ref b2, .ref b3, .ref b4, .ref b5, .int 0, .int 0, .int 0, .int 0, .int (-1), .int 1, .int (allN nn), .int (allN nn)])), (n, .inr (6, [.int (nI gg), .ref (n + 1), .ref (n + 2), .ref (n + 3), .ref (n + 4), .ref (n + 5), .ref (n + 6), .ref (n + 7), .long 0, .int 0, .int 0])), (n + 1, .inl (0, 48, .inl (ax_fill (fun _ => 0) 0 48 (-1)))), (n + 2, .inl (0, 48, .inl (ax_fill (fun _ => 0) 0 48 0))), (n + 3, .inl (0, 48, .inl (fun _ => 0))), (n + 4, .inl (0, 2400, .inl (fun _ => 0))), (n + 5, .inl (0, 512, .inl (ax_fill (fun _ => 0) 0 512 (-1)))), (n + 6, .inl (0, 961, .inl (ax_fill (fun _ => 0) 0 961 (-1)))), (n + 7, .inl (0, 961, .inl (ax_fill (fun _ => 0) 0 961 0)))] := hF.put 0 _ rfl rfl
  replace hf := hf.put (a := s0) (c := .inr (0, [.ref rk, .ref nt, .ref as, .null, .ref n, .ref od, .ref sn, .int 0, .int 0, .int 0, .int 0])) (by simp)
  replace hn : (ax_put h3 s0 (.inr (0, [.ref rk, .ref nt, .ref as, .null, .ref n, .ref od, .ref sn, .int 0, .int 0, .int 0, .int 0]))).1 = n + 8 := hn
  replace hs : (ax_put h3 s0 (.inr (0, [.ref rk, .ref nt, .ref as, .null, .ref n, .ref od, .ref sn, .int 0, .int 0, .int 0, .int 0]))).2.1 = sl + 4989 := hs
  generalize ax_put h3 s0 (.inr (0, [.ref rk, .ref nt, .ref as, .null, .ref n, .ref od, .ref sn, .int 0, .int 0, .int 0, .int 0])) = h4 at hF hf hn hs ⊢
  refine ar_aload_n 101 d_0_100 rfl rfl ?_
  refine ar_aload_n 102 d_0_101 rfl rfl ?_
  refine ar_getf 105 d_0_102 rfl (ci := 0) (k := 0) rfl (hF.at 0 rfl) rfl ?_
  refine ar_getf 108 d_0_105 rfl (ci := 3) (k := 0) rfl (hF.at 1 rfl) rfl ?_
  refine ar_newq 111 d_0_108 rfl (t := 5) rfl (nI_pos (by omega)) (N := nn) (nI_clamp (by omega)) (by omega) ?_
  rw [hn]
  replace hF : ax_hs (ax_push h4 nn (.inl (5, nn, .inr (.inr (.inr (.inr (fun _ => none))))))) [(s0, .inr (0, [.ref rk, .ref nt, .ref as, .null, .ref n, .ref od, .ref sn, .int 0, .int 0, .int 0, .int 0])), (rk, .inr (3, [.int (nI nn), .int C, .int (nI gg), .ref o])), (o, .inl (0, gg * nn, .inl f)), (as, .inr (4, [.ref rk, .ref nt, .ref b1, .int 0, .ref b2, .ref b3, .ref b4, .ref b5, .int 0, .int 0, .int 0, .int 0, .int (-1), .int 1, .int (allN nn), .int (allN nn)])), (n, .inr (6, [.int (nI gg), .ref (n + 1), .ref (n + 2), .ref (n + 3), .ref (n + 4), .ref (n + 5), .ref (n + 6), .ref (n + 7), .long 0, .int 0, .int 0])), (n + 1, .inl (0, 48, .inl (ax_fill (fun _ => 0) 0 48 (-1)))), (n + 2, .inl (0, 48, .inl (ax_fill (fun _ => 0) 0 48 0))), (n + 3, .inl (0, 48, .inl (fun _ => 0))), (n + 4, .inl (0, 2400, .inl (fun _ => 0))), (n + 5, .inl (0, 512, .inl (ax_fill (fun _ => 0) 0 512 (-1)))), (n + 6, .inl (0, 961, .inl (ax_fill (fun _ => 0) 0 961 (-1)))), (n + 7, .inl (0, 961, .inl (ax_fill (fun _ => 0) 0 961 0))), (n + 8, .inl (5, nn, .inr (.inr (.inr (.inr (fun _ => none))))))] := hF.push (by omega) nn _ (by rw [hn]; rfl)
  replace hf := hf.push (n := nn) (c := .inl (5, nn, .inr (.inr (.inr (.inr (fun _ => none))))))
  replace hn : (ax_push h4 nn (.inl (5, nn, .inr (.inr (.inr (.inr (fun _ => none))))))).1 = n + 9 := by show h4.1 + 1 = _; rw [hn]
  replace hs : (ax_push h4 nn (.inl (5, nn, .inr (.inr (.inr (.inr (fun _ => none))))))).2.1 = sl + 4989 + nn := by show h4.2.1 + nn = _; omega
  generalize ax_push h4 nn (.inl (5, nn, .inr (.inr (.inr (.inr (fun _ => none)))))) = h5 at hF hf hn hs ⊢
  refine ar_putf 114 [.ref rk, .ref nt, .ref as, .ref (n + 8), .ref n, .ref od, .ref sn, .int 0, .int 0, .int 0, .int 0] d_0_111 rfl (ci := 0) (k := 3) rfl (by decide +kernel) (hF.at 0 rfl) (Nat.le_of_ble_eq_true rfl) rfl rfl rfl ?_
  replace hF : ax_hs (ax_put h5 s0 (.inr (0, [.ref rk, .ref nt, .ref as, .ref (n + 8), .ref n, .ref od, .ref sn, .int 0, .int 0, .int 0, .int 0]))) [(s0, .inr (0, [.ref rk, .ref nt, .ref as, .ref (n + 8), .ref n, .ref od, .ref sn, .int 0, .int 0, .int 0, .int 0])), (rk, .inr (3, [.int (nI nn), .int C, .int (nI gg), .ref o])), (o, .inl (0, gg * nn, .inl f)), (as, .inr (4, [.ref rk, .ref nt, .ref b1, .int 0, .ref b2, .ref b3, .ref b4, .ref b5, .int 0, .int 0, .int 0, .int 0, .int (-1), .int 1, .int (allN nn), .int (allN nn)])), (n, .inr (6, [.int (nI gg), .ref (n + 1), .ref (n + 2), .ref (n + 3), .ref (n + 4), .ref (n + 5), .ref (n + 6), .ref (n + 7), .long 0, .int 0, .int 0])), (n + 1, .inl (0, 48, .inl (ax_fill (fun _ => 0) 0 48 (-1)))), (n + 2, .inl (0, 48, .inl (ax_fill (fun _ => 0) 0 48 0))), (n + 3, .inl (0, 48, .inl (fun _ => 0))), (n + 4, .inl (0, 2400, .inl (fun _ => 0))), (n + 5, .inl (0, 512, .inl (ax_fill (fun _ => 0) 0 512 (-1)))), (n + 6, .inl (0, 961, .inl (ax_fill (fun _ => 0) 0 961 (-1)))), (n + 7, .inl (0, 961, .inl (ax_fill (fun _ => 0) 0 961 0))), (n + 8, .inl (5, nn, .inr (.inr (.inr (.inr (fun _ => none))))))] := hF.put 0 _ rfl rfl
  replace hf := hf.put (a := s0) (c := .inr (0, [.ref rk, .ref nt, .ref as, .ref (n + 8), .ref n, .ref od, .ref sn, .int 0, .int 0, .int 0, .int 0])) (by simp)
  replace hn : (ax_put h5 s0 (.inr (0, [.ref rk, .ref nt, .ref as, .ref (n + 8), .ref n, .ref od, .ref sn, .int 0, .int 0, .int 0, .int 0]))).1 = n + 9 := hn
  replace hs : (ax_put h5 s0 (.inr (0, [.ref rk, .ref nt, .ref as, .ref (n + 8), .ref n, .ref od, .ref sn, .int 0, .int 0, .int 0, .int 0]))).2.1 = sl + 4989 + nn := hs
  generalize ax_put h5 s0 (.inr (0, [.ref rk, .ref nt, .ref as, .ref (n + 8), .ref n, .ref od, .ref sn, .int 0, .int 0, .int 0, .int 0])) = h6 at hF hf hn hs ⊢
  refine ar_iconst 115 (v := 0) d_0_114 rfl (by decide) ?_
  refine ar_istore 117 [(0, .ref s0), (1, .int x1), (2, .int x2), (3, .int x3), (4, .int 0)] d_0_115 rfl (by decide) rfl ?_
  have ef : (fun j => if j < 0 then some (n + 9 + 22 * j) else none) = (fun _ : Nat => (none : Option Nat)) := by
    funext j
    exact if_neg (by omega)
  rw [← ef] at hF
  replace hN := hN.fr hf (by intro x hx hB; simp at hB; subst hB; exact hA_s0 hx)
  refine lp_0 (h0 := h6) (b0 := n + 9) (na := n + 8) (sl0 := sl + 4989 + nn) hfr hlo hgg hg1 hnn hp hpl hntw (by omega) (by omega) hA_rk hA_o hA_s0 hA_as (fun z => by rcases z with z | z <;> omega) (by omega) (fun h' ids ms j1 j2 j3 j4 j5 j6 j7 => ?_) nn 0 (Nat.zero_add nn) h6 (n + 9) (sl + 4989 + nn) [] [] rfl (by omega) (by omega) (by omega) (hF.sub [0, 1, 2, 3, 12] rfl rfl) hN (by rw [if_neg (Nat.not_lt_zero p)]; rfl) (fun j hj => by omega) ax_fr.rf
  have hT := (hF.sub (F' := [(n, .inr (6, [.int (nI gg), .ref (n + 1), .ref (n + 2), .ref (n + 3), .ref (n + 4), .ref (n + 5), .ref (n + 6), .ref (n + 7), .long 0, .int 0, .int 0])), (n + 1, .inl (0, 48, .inl (ax_fill (fun _ => 0) 0 48 (-1)))), (n + 2, .inl (0, 48, .inl (ax_fill (fun _ => 0) 0 48 0))), (n + 3, .inl (0, 48, .inl (fun _ => 0))), (n + 4, .inl (0, 2400, .inl (fun _ => 0))), (n + 5, .inl (0, 512, .inl (ax_fill (fun _ => 0) 0 512 (-1)))), (n + 6, .inl (0, 961, .inl (ax_fill (fun _ => 0) 0 961 (-1)))), (n + 7, .inl (0, 961, .inl (ax_fill (fun _ => 0) 0 961 0)))]) [4, 5, 6, 7, 8, 9, 10, 11] rfl rfl).fr j5 (by intro x hx; simp only [List.mem_cons, List.not_mem_nil, or_false] at hx; rcases hx with rfl | rfl | rfl | rfl | rfl | rfl | rfl | rfl <;> (intro z; rcases z with z | z; rcases z with z | z <;> (dsimp only at z; omega); dsimp only at z; omega))
  have hF9 : ax_hs h' [(s0, .inr (0, [.ref rk, .ref nt, .ref as, .ref (n + 8), .ref n, .ref od, .ref sn, .int 0, .int 0, .int 0, .int 0])), (rk, .inr (3, [.int (nI nn), .int C, .int (nI gg), .ref o])), (o, .inl (0, gg * nn, .inl f)), (as, .inr (4, [.ref rk, .ref nt, .ref b1, .int 0, .ref b2, .ref b3, .ref b4, .ref b5, .int 0, .int 0, .int 0, .int 0, .int (-1), .int 1, .int (allN nn), .int (allN nn)])), (n + 8, .inl (5, nn, .inr (.inr (.inr (.inr (fun j => if j < nn then some (n + 9 + 22 * j) else none)))))), (n, .inr (6, [.int (nI gg), .ref (n + 1), .ref (n + 2), .ref (n + 3), .ref (n + 4), .ref (n + 5), .ref (n + 6), .ref (n + 7), .long 0, .int 0, .int 0])), (n + 1, .inl (0, 48, .inl (ax_fill (fun _ => 0) 0 48 (-1)))), (n + 2, .inl (0, 48, .inl (ax_fill (fun _ => 0) 0 48 0))), (n + 3, .inl (0, 48, .inl (fun _ => 0))), (n + 4, .inl (0, 2400, .inl (fun _ => 0))), (n + 5, .inl (0, 512, .inl (ax_fill (fun _ => 0) 0 512 (-1)))), (n + 6, .inl (0, 961, .inl (ax_fill (fun _ => 0) 0 961 (-1)))), (n + 7, .inl (0, 961, .inl (ax_fill (fun _ => 0) 0 961 0)))] := j1.app hT (by intro i j p q hp hq e; exact ax_hs.apartA hF [0, 1, 2, 3, 12] [4, 5, 6, 7, 8, 9, 10, 11] (by decide) (As := [s0, rk, o, as, n + 8]) (Bs := [n, n + 1, n + 2, n + 3, n + 4, n + 5, n + 6, n + 7]) rfl rfl p.1 (by have := List.mem_of_getElem? hp; simp only [List.mem_cons, List.not_mem_nil, or_false] at this; rcases this with rfl | rfl | rfl | rfl | rfl <;> simp) (by rw [e]; have := List.mem_of_getElem? hq; simp only [List.mem_cons, List.not_mem_nil, or_false] at this; rcases this with rfl | rfl | rfl | rfl | rfl | rfl | rfl | rfl <;> simp))
  rw [if_pos hp] at j3
  exact kk h' ids ms hF9 j2 j3 j4 (by omega) (by omega) ((hf.mono (fun x hx => Or.inr hx)).trC j5 (fun x hx hB => by rcases hB with hB | hB; exact Or.inl hB; omega))


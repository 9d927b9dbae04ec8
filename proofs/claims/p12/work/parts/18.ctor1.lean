/-! constructors of the small classes (printed by program) -/
theorem c_3 {L : Nat} {xs : Nat → Int32} {fr lo : Nat} {h : ax_H} {n sl : Nat} {a : Nat} (hfr : 1 ≤ fr) (hlo : 12 ≤ lo) (hF : ax_hs h [(a, .inr (2, [.int 0, .int 0, .int 0, .int 0, .int 0, .int 0, .int 0, .int 0, .null]))]) (hn : h.1 = n) (hs : h.2.1 = sl) (hn0 : 0 < n) : ax_M L xs 3 fr lo [.ref a] h (fun r h' => r = none ∧ ax_hs h' [(a, .inr (2, [.int 0, .int 0, .int 0, .int 0, .int 0, .int 0, .int 0, .int 0, .ref n])), (n, .inl (0, 617, .inl (fun _ => 0)))] ∧ h'.1 = n + 1 ∧ h'.2.1 = sl + 617 ∧ ax_fr (fun x => x ∈ [a]) h h') := by
  show ax_A (ax_step L xs) ((3, 0, fr, lo), [(0, .ref a)], [], h) _
  have hbase : h.1 = n := hn
  have hbasl : h.2.1 = sl := hs
  have hf : ax_fr (fun x => x ∈ [a]) h h := ax_fr.rf
  refine ar_aload_n 1 d_3_0 rfl rfl ?_
  refine ar_objI 4 d_3_1 rfl rfl (by omega) (by show 0 + 12 ≤ lo; omega) ?_
  refine ar_aload_n 5 d_3_4 rfl rfl ?_
  refine ar_sipush 8 (v := 617) d_3_5 rfl (by decide) ?_
  refine ar_newi 10 d_3_8 rfl (by decide) (N := 617) (by decide) (by decide) ?_
  rw [hn]
  replace hF : ax_hs (ax_push h 617 (.inl (0, 617, .inl (fun _ => 0)))) [(a, .inr (2, [.int 0, .int 0, .int 0, .int 0, .int 0, .int 0, .int 0, .int 0, .null])), (n, .inl (0, 617, .inl (fun _ => 0)))] := hF.push (by omega) 617 _ (by rw [hn]; rfl)
  replace hf := hf.push (n := 617) (c := .inl (0, 617, .inl (fun _ => 0)))
  replace hn : (ax_push h 617 (.inl (0, 617, .inl (fun _ => 0)))).1 = n + 1 := by show h.1 + 1 = _; rw [hn]
  replace hs : (ax_push h 617 (.inl (0, 617, .inl (fun _ => 0)))).2.1 = sl + 617 := by show h.2.1 + 617 = _; omega
  generalize ax_push h 617 (.inl (0, 617, .inl (fun _ => 0))) = h1 at hF hf hn hs ⊢
  refine ar_putf 13 [.int 0, .int 0, .int 0, .int 0, .int 0, .int 0, .int 0, .int 0, .ref n] d_3_10 rfl (ci := 2) (k := 8) rfl (by decide +kernel) (hF.at 0 rfl) (Nat.le_of_ble_eq_true rfl) rfl rfl rfl ?_
  replace hF : ax_hs (ax_put h1 a (.inr (2, [.int 0, .int 0, .int 0, .int 0, .int 0, .int 0, .int 0, .int 0, .ref n]))) [(a, .inr (2, [.int 0, .int 0, .int 0, .int 0, .int 0, .int 0, .int 0, .int 0, .ref n])), (n, .inl (0, 617, .inl (fun _ => 0)))] := hF.put 0 _ rfl rfl
  replace hf := hf.put (a := a) (c := .inr (2, [.int 0, .int 0, .int 0, .int 0, .int 0, .int 0, .int 0, .int 0, .ref n])) (by simp)
  replace hn : (ax_put h1 a (.inr (2, [.int 0, .int 0, .int 0, .int 0, .int 0, .int 0, .int 0, .int 0, .ref n]))).1 = n + 1 := hn
  replace hs : (ax_put h1 a (.inr (2, [.int 0, .int 0, .int 0, .int 0, .int 0, .int 0, .int 0, .int 0, .ref n]))).2.1 = sl + 617 := hs
  generalize ax_put h1 a (.inr (2, [.int 0, .int 0, .int 0, .int 0, .int 0, .int 0, .int 0, .int 0, .ref n])) = h2 at hF hf hn hs ⊢
  exact ar_ret d_3_13 rfl (⟨rfl, hF, hn, hs, hf⟩)
theorem c_10 {L : Nat} {xs : Nat → Int32} {fr lo : Nat} {h : ax_H} {n sl : Nat} {a : Nat} (hfr : 1 ≤ fr) (hlo : 12 ≤ lo) (hF : ax_hs h [(a, .inr (5, [.int 0, .int 0, .int 0, .int 0, .int 0, .int 0, .int 0, .null]))]) (hn : h.1 = n) (hs : h.2.1 = sl) (hn0 : 0 < n) : ax_M L xs 10 fr lo [.ref a] h (fun r h' => r = none ∧ ax_hs h' [(a, .inr (5, [.int 0, .int 0, .int 0, .int 0, .int 0, .int 0, .int 0, .ref n])), (n, .inl (0, 612, .inl (fun _ => 0)))] ∧ h'.1 = n + 1 ∧ h'.2.1 = sl + 612 ∧ ax_fr (fun x => x ∈ [a]) h h') := by
  show ax_A (ax_step L xs) ((10, 0, fr, lo), [(0, .ref a)], [], h) _
  have hbase : h.1 = n := hn
  have hbasl : h.2.1 = sl := hs
  have hf : ax_fr (fun x => x ∈ [a]) h h := ax_fr.rf
  refine ar_aload_n 1 d_10_0 rfl rfl ?_
  refine ar_objI 4 d_10_1 rfl rfl (by omega) (by show 0 + 12 ≤ lo; omega) ?_
  refine ar_aload_n 5 d_10_4 rfl rfl ?_
  refine ar_sipush 8 (v := 612) d_10_5 rfl (by decide) ?_
  refine ar_newi 10 d_10_8 rfl (by decide) (N := 612) (by decide) (by decide) ?_
  rw [hn]
  replace hF : ax_hs (ax_push h 612 (.inl (0, 612, .inl (fun _ => 0)))) [(a, .inr (5, [.int 0, .int 0, .int 0, .int 0, .int 0, .int 0, .int 0, .null])), (n, .inl (0, 612, .inl (fun _ => 0)))] := hF.push (by omega) 612 _ (by rw [hn]; rfl)
  replace hf := hf.push (n := 612) (c := .inl (0, 612, .inl (fun _ => 0)))
  replace hn : (ax_push h 612 (.inl (0, 612, .inl (fun _ => 0)))).1 = n + 1 := by show h.1 + 1 = _; rw [hn]
  replace hs : (ax_push h 612 (.inl (0, 612, .inl (fun _ => 0)))).2.1 = sl + 612 := by show h.2.1 + 612 = _; omega
  generalize ax_push h 612 (.inl (0, 612, .inl (fun _ => 0))) = h1 at hF hf hn hs ⊢
  refine ar_putf 13 [.int 0, .int 0, .int 0, .int 0, .int 0, .int 0, .int 0, .ref n] d_10_10 rfl (ci := 5) (k := 7) rfl (by decide +kernel) (hF.at 0 rfl) (Nat.le_of_ble_eq_true rfl) rfl rfl rfl ?_
  replace hF : ax_hs (ax_put h1 a (.inr (5, [.int 0, .int 0, .int 0, .int 0, .int 0, .int 0, .int 0, .ref n]))) [(a, .inr (5, [.int 0, .int 0, .int 0, .int 0, .int 0, .int 0, .int 0, .ref n])), (n, .inl (0, 612, .inl (fun _ => 0)))] := hF.put 0 _ rfl rfl
  replace hf := hf.put (a := a) (c := .inr (5, [.int 0, .int 0, .int 0, .int 0, .int 0, .int 0, .int 0, .ref n])) (by simp)
  replace hn : (ax_put h1 a (.inr (5, [.int 0, .int 0, .int 0, .int 0, .int 0, .int 0, .int 0, .ref n]))).1 = n + 1 := hn
  replace hs : (ax_put h1 a (.inr (5, [.int 0, .int 0, .int 0, .int 0, .int 0, .int 0, .int 0, .ref n]))).2.1 = sl + 612 := hs
  generalize ax_put h1 a (.inr (5, [.int 0, .int 0, .int 0, .int 0, .int 0, .int 0, .int 0, .ref n])) = h2 at hF hf hn hs ⊢
  exact ar_ret d_10_13 rfl (⟨rfl, hF, hn, hs, hf⟩)
theorem c_15 {L : Nat} {xs : Nat → Int32} {fr lo : Nat} {h : ax_H} {n sl : Nat} {a : Nat} (hfr : 1 ≤ fr) (hlo : 23 ≤ lo) (hF : ax_hs h [(a, .inr (8, [.null, .null, .null, .null, .int 0]))]) (hn : h.1 = n) (hs : h.2.1 = sl) (hn0 : 0 < n) : ax_M L xs 15 fr lo [.ref a] h (fun r h' => r = none ∧ ax_hs h' [(a, .inr (8, [.ref n, .ref (n + 1), .ref (n + 2), .ref (n + 3), .int 0])), (n, .inl (0, 35840, .inl (fun _ => 0))), (n + 1, .inl (0, 4096, .inl (fun _ => 0))), (n + 2, .inl (0, 32, .inl (fun _ => 0))), (n + 3, .inl (0, 280, .inl (ax_fill (fun _ => 0) 0 280 (-1))))] ∧ h'.1 = n + 4 ∧ h'.2.1 = sl + 40248 ∧ ax_fr (fun x => x ∈ [a]) h h') := by
  show ax_A (ax_step L xs) ((15, 0, fr, lo), [(0, .ref a)], [], h) _
  have hbase : h.1 = n := hn
  have hbasl : h.2.1 = sl := hs
  have hf : ax_fr (fun x => x ∈ [a]) h h := ax_fr.rf
  refine ar_aload_n 1 d_15_0 rfl rfl ?_
  refine ar_objI 4 d_15_1 rfl rfl (by omega) (by show 0 + 12 ≤ lo; omega) ?_
  refine ar_aload_n 5 d_15_4 rfl rfl ?_
  refine ar_ldc 7 d_15_5 rfl (v := 35840) rfl ?_
  refine ar_newi 9 d_15_7 rfl (by decide) (N := 35840) (by decide) (by decide) ?_
  rw [hn]
  replace hF : ax_hs (ax_push h 35840 (.inl (0, 35840, .inl (fun _ => 0)))) [(a, .inr (8, [.null, .null, .null, .null, .int 0])), (n, .inl (0, 35840, .inl (fun _ => 0)))] := hF.push (by omega) 35840 _ (by rw [hn]; rfl)
  replace hf := hf.push (n := 35840) (c := .inl (0, 35840, .inl (fun _ => 0)))
  replace hn : (ax_push h 35840 (.inl (0, 35840, .inl (fun _ => 0)))).1 = n + 1 := by show h.1 + 1 = _; rw [hn]
  replace hs : (ax_push h 35840 (.inl (0, 35840, .inl (fun _ => 0)))).2.1 = sl + 35840 := by show h.2.1 + 35840 = _; omega
  generalize ax_push h 35840 (.inl (0, 35840, .inl (fun _ => 0))) = h1 at hF hf hn hs ⊢
  refine ar_putf 12 [.ref n, .null, .null, .null, .int 0] d_15_9 rfl (ci := 8) (k := 0) rfl (by decide +kernel) (hF.at 0 rfl) (Nat.le_of_ble_eq_true rfl) rfl rfl rfl ?_
  replace hF : ax_hs (ax_put h1 a (.inr (8, [.ref n, .null, .null, .null, .int 0]))) [(a, .inr (8, [.ref n, .null, .null, .null, .int 0])), (n, .inl (0, 35840, .inl (fun _ => 0)))] := hF.put 0 _ rfl rfl
  replace hf := hf.put (a := a) (c := .inr (8, [.ref n, .null, .null, .null, .int 0])) (by simp)
  replace hn : (ax_put h1 a (.inr (8, [.ref n, .null, .null, .null, .int 0]))).1 = n + 1 := hn
  replace hs : (ax_put h1 a (.inr (8, [.ref n, .null, .null, .null, .int 0]))).2.1 = sl + 35840 := hs
  generalize ax_put h1 a (.inr (8, [.ref n, .null, .null, .null, .int 0])) = h2 at hF hf hn hs ⊢
  refine ar_aload_n 13 d_15_12 rfl rfl ?_
  refine ar_sipush 16 (v := 4096) d_15_13 rfl (by decide) ?_
  refine ar_newi 18 d_15_16 rfl (by decide) (N := 4096) (by decide) (by decide) ?_
  rw [hn]
  replace hF : ax_hs (ax_push h2 4096 (.inl (0, 4096, .inl (fun _ => 0)))) [(a, .inr (8, [.ref n, .null, .null, .null, .int 0])), (n, .inl (0, 35840, .inl (fun _ => 0))), (n + 1, .inl (0, 4096, .inl (fun _ => 0)))] := hF.push (by omega) 4096 _ (by rw [hn]; rfl)
  replace hf := hf.push (n := 4096) (c := .inl (0, 4096, .inl (fun _ => 0)))
  replace hn : (ax_push h2 4096 (.inl (0, 4096, .inl (fun _ => 0)))).1 = n + 2 := by show h2.1 + 1 = _; rw [hn]
  replace hs : (ax_push h2 4096 (.inl (0, 4096, .inl (fun _ => 0)))).2.1 = sl + 39936 := by show h2.2.1 + 4096 = _; omega
  generalize ax_push h2 4096 (.inl (0, 4096, .inl (fun _ => 0))) = h3 at hF hf hn hs ⊢
  refine ar_putf 21 [.ref n, .ref (n + 1), .null, .null, .int 0] d_15_18 rfl (ci := 8) (k := 1) rfl (by decide +kernel) (hF.at 0 rfl) (Nat.le_of_ble_eq_true rfl) rfl rfl rfl ?_
  replace hF : ax_hs (ax_put h3 a (.inr (8, [.ref n, .ref (n + 1), .null, .null, .int 0]))) [(a, .inr (8, [.ref n, .ref (n + 1), .null, .null, .int 0])), (n, .inl (0, 35840, .inl (fun _ => 0))), (n + 1, .inl (0, 4096, .inl (fun _ => 0)))] := hF.put 0 _ rfl rfl
  replace hf := hf.put (a := a) (c := .inr (8, [.ref n, .ref (n + 1), .null, .null, .int 0])) (by simp)
  replace hn : (ax_put h3 a (.inr (8, [.ref n, .ref (n + 1), .null, .null, .int 0]))).1 = n + 2 := hn
  replace hs : (ax_put h3 a (.inr (8, [.ref n, .ref (n + 1), .null, .null, .int 0]))).2.1 = sl + 39936 := hs
  generalize ax_put h3 a (.inr (8, [.ref n, .ref (n + 1), .null, .null, .int 0])) = h4 at hF hf hn hs ⊢
  refine ar_aload_n 22 d_15_21 rfl rfl ?_
  refine ar_bipush 24 (v := 32) d_15_22 rfl (by decide) ?_
  refine ar_newi 26 d_15_24 rfl (by decide) (N := 32) (by decide) (by decide) ?_
  rw [hn]
  replace hF : ax_hs (ax_push h4 32 (.inl (0, 32, .inl (fun _ => 0)))) [(a, .inr (8, [.ref n, .ref (n + 1), .null, .null, .int 0])), (n, .inl (0, 35840, .inl (fun _ => 0))), (n + 1, .inl (0, 4096, .inl (fun _ => 0))), (n + 2, .inl (0, 32, .inl (fun _ => 0)))] := hF.push (by omega) 32 _ (by rw [hn]; rfl)
  replace hf := hf.push (n := 32) (c := .inl (0, 32, .inl (fun _ => 0)))
  replace hn : (ax_push h4 32 (.inl (0, 32, .inl (fun _ => 0)))).1 = n + 3 := by show h4.1 + 1 = _; rw [hn]
  replace hs : (ax_push h4 32 (.inl (0, 32, .inl (fun _ => 0)))).2.1 = sl + 39968 := by show h4.2.1 + 32 = _; omega
  generalize ax_push h4 32 (.inl (0, 32, .inl (fun _ => 0))) = h5 at hF hf hn hs ⊢
  refine ar_putf 29 [.ref n, .ref (n + 1), .ref (n + 2), .null, .int 0] d_15_26 rfl (ci := 8) (k := 2) rfl (by decide +kernel) (hF.at 0 rfl) (Nat.le_of_ble_eq_true rfl) rfl rfl rfl ?_
  replace hF : ax_hs (ax_put h5 a (.inr (8, [.ref n, .ref (n + 1), .ref (n + 2), .null, .int 0]))) [(a, .inr (8, [.ref n, .ref (n + 1), .ref (n + 2), .null, .int 0])), (n, .inl (0, 35840, .inl (fun _ => 0))), (n + 1, .inl (0, 4096, .inl (fun _ => 0))), (n + 2, .inl (0, 32, .inl (fun _ => 0)))] := hF.put 0 _ rfl rfl
  replace hf := hf.put (a := a) (c := .inr (8, [.ref n, .ref (n + 1), .ref (n + 2), .null, .int 0])) (by simp)
  replace hn : (ax_put h5 a (.inr (8, [.ref n, .ref (n + 1), .ref (n + 2), .null, .int 0]))).1 = n + 3 := hn
  replace hs : (ax_put h5 a (.inr (8, [.ref n, .ref (n + 1), .ref (n + 2), .null, .int 0]))).2.1 = sl + 39968 := hs
  generalize ax_put h5 a (.inr (8, [.ref n, .ref (n + 1), .ref (n + 2), .null, .int 0])) = h6 at hF hf hn hs ⊢
  refine ar_aload_n 30 d_15_29 rfl rfl ?_
  refine ar_sipush 33 (v := 280) d_15_30 rfl (by decide) ?_
  refine ar_newi 35 d_15_33 rfl (by decide) (N := 280) (by decide) (by decide) ?_
  rw [hn]
  replace hF : ax_hs (ax_push h6 280 (.inl (0, 280, .inl (fun _ => 0)))) [(a, .inr (8, [.ref n, .ref (n + 1), .ref (n + 2), .null, .int 0])), (n, .inl (0, 35840, .inl (fun _ => 0))), (n + 1, .inl (0, 4096, .inl (fun _ => 0))), (n + 2, .inl (0, 32, .inl (fun _ => 0))), (n + 3, .inl (0, 280, .inl (fun _ => 0)))] := hF.push (by omega) 280 _ (by rw [hn]; rfl)
  replace hf := hf.push (n := 280) (c := .inl (0, 280, .inl (fun _ => 0)))
  replace hn : (ax_push h6 280 (.inl (0, 280, .inl (fun _ => 0)))).1 = n + 4 := by show h6.1 + 1 = _; rw [hn]
  replace hs : (ax_push h6 280 (.inl (0, 280, .inl (fun _ => 0)))).2.1 = sl + 40248 := by show h6.2.1 + 280 = _; omega
  generalize ax_push h6 280 (.inl (0, 280, .inl (fun _ => 0))) = h7 at hF hf hn hs ⊢
  refine ar_putf 38 [.ref n, .ref (n + 1), .ref (n + 2), .ref (n + 3), .int 0] d_15_35 rfl (ci := 8) (k := 3) rfl (by decide +kernel) (hF.at 0 rfl) (Nat.le_of_ble_eq_true rfl) rfl rfl rfl ?_
  replace hF : ax_hs (ax_put h7 a (.inr (8, [.ref n, .ref (n + 1), .ref (n + 2), .ref (n + 3), .int 0]))) [(a, .inr (8, [.ref n, .ref (n + 1), .ref (n + 2), .ref (n + 3), .int 0])), (n, .inl (0, 35840, .inl (fun _ => 0))), (n + 1, .inl (0, 4096, .inl (fun _ => 0))), (n + 2, .inl (0, 32, .inl (fun _ => 0))), (n + 3, .inl (0, 280, .inl (fun _ => 0)))] := hF.put 0 _ rfl rfl
  replace hf := hf.put (a := a) (c := .inr (8, [.ref n, .ref (n + 1), .ref (n + 2), .ref (n + 3), .int 0])) (by simp)
  replace hn : (ax_put h7 a (.inr (8, [.ref n, .ref (n + 1), .ref (n + 2), .ref (n + 3), .int 0]))).1 = n + 4 := hn
  replace hs : (ax_put h7 a (.inr (8, [.ref n, .ref (n + 1), .ref (n + 2), .ref (n + 3), .int 0]))).2.1 = sl + 40248 := hs
  generalize ax_put h7 a (.inr (8, [.ref n, .ref (n + 1), .ref (n + 2), .ref (n + 3), .int 0])) = h8 at hF hf hn hs ⊢
  refine ar_aload_n 39 d_15_38 rfl rfl ?_
  refine ar_getf 42 d_15_39 rfl (ci := 8) (k := 3) rfl (hF.at 0 rfl) rfl ?_
  refine ar_iconst 43 (v := -1) d_15_42 rfl (by decide) ?_
  refine ar_call (r := []) (na := 0) (kd := 0) (cm := 13) (fr2 := fr - 1) (lo2 := lo - 23) 46 d_15_43 (ar_hoS (as := [.ref (n + 3), .int (-1)]) rfl rfl rfl) rfl (by omega) (show lo - 23 + (19 + 4) = lo by omega) (Nat.le_of_ble_eq_true rfl) (Nat.le_of_ble_eq_true rfl) (c_13 (hF.at 4 rfl) (by decide)) ?_
  intro v hh hq
  obtain ⟨rfl, rfl⟩ := hq
  replace hF : ax_hs (ax_put h8 (n + 3) (.inl (0, 280, .inl (ax_fill (fun _ => 0) 0 280 (-1))))) [(a, .inr (8, [.ref n, .ref (n + 1), .ref (n + 2), .ref (n + 3), .int 0])), (n, .inl (0, 35840, .inl (fun _ => 0))), (n + 1, .inl (0, 4096, .inl (fun _ => 0))), (n + 2, .inl (0, 32, .inl (fun _ => 0))), (n + 3, .inl (0, 280, .inl (ax_fill (fun _ => 0) 0 280 (-1))))] := hF.put 4 _ rfl rfl
  replace hf := hf.putN (a := n + 3) (c := .inl (0, 280, .inl (ax_fill (fun _ => 0) 0 280 (-1)))) (by omega)
  replace hn : (ax_put h8 (n + 3) (.inl (0, 280, .inl (ax_fill (fun _ => 0) 0 280 (-1))))).1 = n + 4 := hn
  replace hs : (ax_put h8 (n + 3) (.inl (0, 280, .inl (ax_fill (fun _ => 0) 0 280 (-1))))).2.1 = sl + 40248 := hs
  generalize ax_put h8 (n + 3) (.inl (0, 280, .inl (ax_fill (fun _ => 0) 0 280 (-1)))) = h9 at hF hf hn hs ⊢
  exact ar_ret d_15_46 rfl (⟨rfl, hF, hn, hs, hf⟩)
theorem c_12 {L : Nat} {xs : Nat → Int32} {fr lo : Nat} {h : ax_H} {n sl : Nat} {t a1 a2 a3 a4 a5 a6 a7 : Nat} {g fl an : Int32} {kn : Int64} {f1 f2 f5 f6 f7 : Nat → Int32} (hfr : 1 ≤ fr) (hlo : 23 ≤ lo) (hF : ax_hs h [(t, .inr (6, [.int g, .ref a1, .ref a2, .ref a3, .ref a4, .ref a5, .ref a6, .ref a7, .long kn, .int fl, .int an])), (a1, .inl (0, 48, .inl f1)), (a2, .inl (0, 48, .inl f2)), (a5, .inl (0, 512, .inl f5)), (a6, .inl (0, 961, .inl f6)), (a7, .inl (0, 961, .inl f7))]) (hn : h.1 = n) (hs : h.2.1 = sl) (hn0 : 0 < n) : ax_M L xs 12 fr lo [.ref t] h (fun r h' => r = none ∧ ax_hs h' [(t, .inr (6, [.int g, .ref a1, .ref a2, .ref a3, .ref a4, .ref a5, .ref a6, .ref a7, .long 0, .int 0, .int 0])), (a1, .inl (0, 48, .inl (ax_fill f1 0 48 (-1)))), (a2, .inl (0, 48, .inl (ax_fill f2 0 48 0))), (a5, .inl (0, 512, .inl (ax_fill f5 0 512 (-1)))), (a6, .inl (0, 961, .inl (ax_fill f6 0 961 (-1)))), (a7, .inl (0, 961, .inl (ax_fill f7 0 961 0)))] ∧ h'.1 = n ∧ h'.2.1 = sl ∧ ax_fr (fun x => x ∈ [t, a1, a2, a5, a6, a7]) h h') := by
  show ax_A (ax_step L xs) ((12, 0, fr, lo), [(0, .ref t)], [], h) _
  have hbase : h.1 = n := hn
  have hbasl : h.2.1 = sl := hs
  have hf : ax_fr (fun x => x ∈ [t, a1, a2, a5, a6, a7]) h h := ax_fr.rf
  refine ar_aload_n 1 d_12_0 rfl rfl ?_
  refine ar_getf 4 d_12_1 rfl (ci := 6) (k := 1) rfl (hF.at 0 rfl) rfl ?_
  refine ar_iconst 5 (v := -1) d_12_4 rfl (by decide) ?_
  refine ar_call (r := []) (na := 0) (kd := 0) (cm := 13) (fr2 := fr - 1) (lo2 := lo - 23) 8 d_12_5 (ar_hoS (as := [.ref a1, .int (-1)]) rfl rfl rfl) rfl (by omega) (show lo - 23 + (19 + 4) = lo by omega) (Nat.le_of_ble_eq_true rfl) (Nat.le_of_ble_eq_true rfl) (c_13 (hF.at 1 rfl) (by decide)) ?_
  intro v hh hq
  obtain ⟨rfl, rfl⟩ := hq
  replace hF : ax_hs (ax_put h a1 (.inl (0, 48, .inl (ax_fill f1 0 48 (-1))))) [(t, .inr (6, [.int g, .ref a1, .ref a2, .ref a3, .ref a4, .ref a5, .ref a6, .ref a7, .long kn, .int fl, .int an])), (a1, .inl (0, 48, .inl (ax_fill f1 0 48 (-1)))), (a2, .inl (0, 48, .inl f2)), (a5, .inl (0, 512, .inl f5)), (a6, .inl (0, 961, .inl f6)), (a7, .inl (0, 961, .inl f7))] := hF.put 1 _ rfl rfl
  replace hf := hf.put (a := a1) (c := .inl (0, 48, .inl (ax_fill f1 0 48 (-1)))) (by simp)
  replace hn : (ax_put h a1 (.inl (0, 48, .inl (ax_fill f1 0 48 (-1))))).1 = n := hn
  replace hs : (ax_put h a1 (.inl (0, 48, .inl (ax_fill f1 0 48 (-1))))).2.1 = sl := hs
  generalize ax_put h a1 (.inl (0, 48, .inl (ax_fill f1 0 48 (-1)))) = h1 at hF hf hn hs ⊢
  refine ar_aload_n 9 d_12_8 rfl rfl ?_
  refine ar_getf 12 d_12_9 rfl (ci := 6) (k := 2) rfl (hF.at 0 rfl) rfl ?_
  refine ar_iconst 13 (v := 0) d_12_12 rfl (by decide) ?_
  refine ar_call (r := []) (na := 0) (kd := 0) (cm := 13) (fr2 := fr - 1) (lo2 := lo - 23) 16 d_12_13 (ar_hoS (as := [.ref a2, .int 0]) rfl rfl rfl) rfl (by omega) (show lo - 23 + (19 + 4) = lo by omega) (Nat.le_of_ble_eq_true rfl) (Nat.le_of_ble_eq_true rfl) (c_13 (hF.at 2 rfl) (by decide)) ?_
  intro v hh hq
  obtain ⟨rfl, rfl⟩ := hq
  replace hF : ax_hs (ax_put h1 a2 (.inl (0, 48, .inl (ax_fill f2 0 48 0)))) [(t, .inr (6, [.int g, .ref a1, .ref a2, .ref a3, .ref a4, .ref a5, .ref a6, .ref a7, .long kn, .int fl, .int an])), (a1, .inl (0, 48, .inl (ax_fill f1 0 48 (-1)))), (a2, .inl (0, 48, .inl (ax_fill f2 0 48 0))), (a5, .inl (0, 512, .inl f5)), (a6, .inl (0, 961, .inl f6)), (a7, .inl (0, 961, .inl f7))] := hF.put 2 _ rfl rfl
  replace hf := hf.put (a := a2) (c := .inl (0, 48, .inl (ax_fill f2 0 48 0))) (by simp)
  replace hn : (ax_put h1 a2 (.inl (0, 48, .inl (ax_fill f2 0 48 0)))).1 = n := hn
  replace hs : (ax_put h1 a2 (.inl (0, 48, .inl (ax_fill f2 0 48 0)))).2.1 = sl := hs
  generalize ax_put h1 a2 (.inl (0, 48, .inl (ax_fill f2 0 48 0))) = h2 at hF hf hn hs ⊢
  refine ar_aload_n 17 d_12_16 rfl rfl ?_
  refine ar_getf 20 d_12_17 rfl (ci := 6) (k := 5) rfl (hF.at 0 rfl) rfl ?_
  refine ar_iconst 21 (v := -1) d_12_20 rfl (by decide) ?_
  refine ar_call (r := []) (na := 0) (kd := 0) (cm := 13) (fr2 := fr - 1) (lo2 := lo - 23) 24 d_12_21 (ar_hoS (as := [.ref a5, .int (-1)]) rfl rfl rfl) rfl (by omega) (show lo - 23 + (19 + 4) = lo by omega) (Nat.le_of_ble_eq_true rfl) (Nat.le_of_ble_eq_true rfl) (c_13 (hF.at 3 rfl) (by decide)) ?_
  intro v hh hq
  obtain ⟨rfl, rfl⟩ := hq
  replace hF : ax_hs (ax_put h2 a5 (.inl (0, 512, .inl (ax_fill f5 0 512 (-1))))) [(t, .inr (6, [.int g, .ref a1, .ref a2, .ref a3, .ref a4, .ref a5, .ref a6, .ref a7, .long kn, .int fl, .int an])), (a1, .inl (0, 48, .inl (ax_fill f1 0 48 (-1)))), (a2, .inl (0, 48, .inl (ax_fill f2 0 48 0))), (a5, .inl (0, 512, .inl (ax_fill f5 0 512 (-1)))), (a6, .inl (0, 961, .inl f6)), (a7, .inl (0, 961, .inl f7))] := hF.put 3 _ rfl rfl
  replace hf := hf.put (a := a5) (c := .inl (0, 512, .inl (ax_fill f5 0 512 (-1)))) (by simp)
  replace hn : (ax_put h2 a5 (.inl (0, 512, .inl (ax_fill f5 0 512 (-1))))).1 = n := hn
  replace hs : (ax_put h2 a5 (.inl (0, 512, .inl (ax_fill f5 0 512 (-1))))).2.1 = sl := hs
  generalize ax_put h2 a5 (.inl (0, 512, .inl (ax_fill f5 0 512 (-1)))) = h3 at hF hf hn hs ⊢
  refine ar_aload_n 25 d_12_24 rfl rfl ?_
  refine ar_getf 28 d_12_25 rfl (ci := 6) (k := 6) rfl (hF.at 0 rfl) rfl ?_
  refine ar_iconst 29 (v := -1) d_12_28 rfl (by decide) ?_
  refine ar_call (r := []) (na := 0) (kd := 0) (cm := 13) (fr2 := fr - 1) (lo2 := lo - 23) 32 d_12_29 (ar_hoS (as := [.ref a6, .int (-1)]) rfl rfl rfl) rfl (by omega) (show lo - 23 + (19 + 4) = lo by omega) (Nat.le_of_ble_eq_true rfl) (Nat.le_of_ble_eq_true rfl) (c_13 (hF.at 4 rfl) (by decide)) ?_
  intro v hh hq
  obtain ⟨rfl, rfl⟩ := hq
  replace hF : ax_hs (ax_put h3 a6 (.inl (0, 961, .inl (ax_fill f6 0 961 (-1))))) [(t, .inr (6, [.int g, .ref a1, .ref a2, .ref a3, .ref a4, .ref a5, .ref a6, .ref a7, .long kn, .int fl, .int an])), (a1, .inl (0, 48, .inl (ax_fill f1 0 48 (-1)))), (a2, .inl (0, 48, .inl (ax_fill f2 0 48 0))), (a5, .inl (0, 512, .inl (ax_fill f5 0 512 (-1)))), (a6, .inl (0, 961, .inl (ax_fill f6 0 961 (-1)))), (a7, .inl (0, 961, .inl f7))] := hF.put 4 _ rfl rfl
  replace hf := hf.put (a := a6) (c := .inl (0, 961, .inl (ax_fill f6 0 961 (-1)))) (by simp)
  replace hn : (ax_put h3 a6 (.inl (0, 961, .inl (ax_fill f6 0 961 (-1))))).1 = n := hn
  replace hs : (ax_put h3 a6 (.inl (0, 961, .inl (ax_fill f6 0 961 (-1))))).2.1 = sl := hs
  generalize ax_put h3 a6 (.inl (0, 961, .inl (ax_fill f6 0 961 (-1)))) = h4 at hF hf hn hs ⊢
  refine ar_aload_n 33 d_12_32 rfl rfl ?_
  refine ar_getf 36 d_12_33 rfl (ci := 6) (k := 7) rfl (hF.at 0 rfl) rfl ?_
  refine ar_iconst 37 (v := 0) d_12_36 rfl (by decide) ?_
  refine ar_call (r := []) (na := 0) (kd := 0) (cm := 13) (fr2 := fr - 1) (lo2 := lo - 23) 40 d_12_37 (ar_hoS (as := [.ref a7, .int 0]) rfl rfl rfl) rfl (by omega) (show lo - 23 + (19 + 4) = lo by omega) (Nat.le_of_ble_eq_true rfl) (Nat.le_of_ble_eq_true rfl) (c_13 (hF.at 5 rfl) (by decide)) ?_
  intro v hh hq
  obtain ⟨rfl, rfl⟩ := hq
  replace hF : ax_hs (ax_put h4 a7 (.inl (0, 961, .inl (ax_fill f7 0 961 0)))) [(t, .inr (6, [.int g, .ref a1, .ref a2, .ref a3, .ref a4, .ref a5, .ref a6, .ref a7, .long kn, .int fl, .int an])), (a1, .inl (0, 48, .inl (ax_fill f1 0 48 (-1)))), (a2, .inl (0, 48, .inl (ax_fill f2 0 48 0))), (a5, .inl (0, 512, .inl (ax_fill f5 0 512 (-1)))), (a6, .inl (0, 961, .inl (ax_fill f6 0 961 (-1)))), (a7, .inl (0, 961, .inl (ax_fill f7 0 961 0)))] := hF.put 5 _ rfl rfl
  replace hf := hf.put (a := a7) (c := .inl (0, 961, .inl (ax_fill f7 0 961 0))) (by simp)
  replace hn : (ax_put h4 a7 (.inl (0, 961, .inl (ax_fill f7 0 961 0)))).1 = n := hn
  replace hs : (ax_put h4 a7 (.inl (0, 961, .inl (ax_fill f7 0 961 0)))).2.1 = sl := hs
  generalize ax_put h4 a7 (.inl (0, 961, .inl (ax_fill f7 0 961 0))) = h5 at hF hf hn hs ⊢
  refine ar_aload_n 41 d_12_40 rfl rfl ?_
  refine ar_lconst 42 (v := 0) d_12_41 rfl (by decide) ?_
  refine ar_putf 45 [.int g, .ref a1, .ref a2, .ref a3, .ref a4, .ref a5, .ref a6, .ref a7, .long 0, .int fl, .int an] d_12_42 rfl (ci := 6) (k := 8) rfl rfl (hF.at 0 rfl) (Nat.le_of_ble_eq_true rfl) rfl rfl rfl ?_
  replace hF : ax_hs (ax_put h5 t (.inr (6, [.int g, .ref a1, .ref a2, .ref a3, .ref a4, .ref a5, .ref a6, .ref a7, .long 0, .int fl, .int an]))) [(t, .inr (6, [.int g, .ref a1, .ref a2, .ref a3, .ref a4, .ref a5, .ref a6, .ref a7, .long 0, .int fl, .int an])), (a1, .inl (0, 48, .inl (ax_fill f1 0 48 (-1)))), (a2, .inl (0, 48, .inl (ax_fill f2 0 48 0))), (a5, .inl (0, 512, .inl (ax_fill f5 0 512 (-1)))), (a6, .inl (0, 961, .inl (ax_fill f6 0 961 (-1)))), (a7, .inl (0, 961, .inl (ax_fill f7 0 961 0)))] := hF.put 0 _ rfl rfl
  replace hf := hf.put (a := t) (c := .inr (6, [.int g, .ref a1, .ref a2, .ref a3, .ref a4, .ref a5, .ref a6, .ref a7, .long 0, .int fl, .int an])) (by simp)
  replace hn : (ax_put h5 t (.inr (6, [.int g, .ref a1, .ref a2, .ref a3, .ref a4, .ref a5, .ref a6, .ref a7, .long 0, .int fl, .int an]))).1 = n := hn
  replace hs : (ax_put h5 t (.inr (6, [.int g, .ref a1, .ref a2, .ref a3, .ref a4, .ref a5, .ref a6, .ref a7, .long 0, .int fl, .int an]))).2.1 = sl := hs
  generalize ax_put h5 t (.inr (6, [.int g, .ref a1, .ref a2, .ref a3, .ref a4, .ref a5, .ref a6, .ref a7, .long 0, .int fl, .int an])) = h6 at hF hf hn hs ⊢
  refine ar_aload_n 46 d_12_45 rfl rfl ?_
  refine ar_iconst 47 (v := 0) d_12_46 rfl (by decide) ?_
  refine ar_putf 50 [.int g, .ref a1, .ref a2, .ref a3, .ref a4, .ref a5, .ref a6, .ref a7, .long 0, .int 0, .int an] d_12_47 rfl (ci := 6) (k := 9) rfl rfl (hF.at 0 rfl) (Nat.le_of_ble_eq_true rfl) rfl rfl rfl ?_
  replace hF : ax_hs (ax_put h6 t (.inr (6, [.int g, .ref a1, .ref a2, .ref a3, .ref a4, .ref a5, .ref a6, .ref a7, .long 0, .int 0, .int an]))) [(t, .inr (6, [.int g, .ref a1, .ref a2, .ref a3, .ref a4, .ref a5, .ref a6, .ref a7, .long 0, .int 0, .int an])), (a1, .inl (0, 48, .inl (ax_fill f1 0 48 (-1)))), (a2, .inl (0, 48, .inl (ax_fill f2 0 48 0))), (a5, .inl (0, 512, .inl (ax_fill f5 0 512 (-1)))), (a6, .inl (0, 961, .inl (ax_fill f6 0 961 (-1)))), (a7, .inl (0, 961, .inl (ax_fill f7 0 961 0)))] := hF.put 0 _ rfl rfl
  replace hf := hf.put (a := t) (c := .inr (6, [.int g, .ref a1, .ref a2, .ref a3, .ref a4, .ref a5, .ref a6, .ref a7, .long 0, .int 0, .int an])) (by simp)
  replace hn : (ax_put h6 t (.inr (6, [.int g, .ref a1, .ref a2, .ref a3, .ref a4, .ref a5, .ref a6, .ref a7, .long 0, .int 0, .int an]))).1 = n := hn
  replace hs : (ax_put h6 t (.inr (6, [.int g, .ref a1, .ref a2, .ref a3, .ref a4, .ref a5, .ref a6, .ref a7, .long 0, .int 0, .int an]))).2.1 = sl := hs
  generalize ax_put h6 t (.inr (6, [.int g, .ref a1, .ref a2, .ref a3, .ref a4, .ref a5, .ref a6, .ref a7, .long 0, .int 0, .int an])) = h7 at hF hf hn hs ⊢
  refine ar_aload_n 51 d_12_50 rfl rfl ?_
  refine ar_iconst 52 (v := 0) d_12_51 rfl (by decide) ?_
  refine ar_putf 55 [.int g, .ref a1, .ref a2, .ref a3, .ref a4, .ref a5, .ref a6, .ref a7, .long 0, .int 0, .int 0] d_12_52 rfl (ci := 6) (k := 10) rfl rfl (hF.at 0 rfl) (Nat.le_of_ble_eq_true rfl) rfl rfl rfl ?_
  replace hF : ax_hs (ax_put h7 t (.inr (6, [.int g, .ref a1, .ref a2, .ref a3, .ref a4, .ref a5, .ref a6, .ref a7, .long 0, .int 0, .int 0]))) [(t, .inr (6, [.int g, .ref a1, .ref a2, .ref a3, .ref a4, .ref a5, .ref a6, .ref a7, .long 0, .int 0, .int 0])), (a1, .inl (0, 48, .inl (ax_fill f1 0 48 (-1)))), (a2, .inl (0, 48, .inl (ax_fill f2 0 48 0))), (a5, .inl (0, 512, .inl (ax_fill f5 0 512 (-1)))), (a6, .inl (0, 961, .inl (ax_fill f6 0 961 (-1)))), (a7, .inl (0, 961, .inl (ax_fill f7 0 961 0)))] := hF.put 0 _ rfl rfl
  replace hf := hf.put (a := t) (c := .inr (6, [.int g, .ref a1, .ref a2, .ref a3, .ref a4, .ref a5, .ref a6, .ref a7, .long 0, .int 0, .int 0])) (by simp)
  replace hn : (ax_put h7 t (.inr (6, [.int g, .ref a1, .ref a2, .ref a3, .ref a4, .ref a5, .ref a6, .ref a7, .long 0, .int 0, .int 0]))).1 = n := hn
  replace hs : (ax_put h7 t (.inr (6, [.int g, .ref a1, .ref a2, .ref a3, .ref a4, .ref a5, .ref a6, .ref a7, .long 0, .int 0, .int 0]))).2.1 = sl := hs
  generalize ax_put h7 t (.inr (6, [.int g, .ref a1, .ref a2, .ref a3, .ref a4, .ref a5, .ref a6, .ref a7, .long 0, .int 0, .int 0])) = h8 at hF hf hn hs ⊢
  exact ar_ret d_12_55 rfl (⟨rfl, hF, hn, hs, hf⟩)
theorem c_11 {L : Nat} {xs : Nat → Int32} {fr lo : Nat} {h : ax_H} {n sl : Nat} {t : Nat} {g : Int32} (hfr : 2 ≤ fr) (hlo : 43 ≤ lo) (hF : ax_hs h [(t, .inr (6, [.int 0, .null, .null, .null, .null, .null, .null, .null, .long 0, .int 0, .int 0]))]) (hn : h.1 = n) (hs : h.2.1 = sl) (hn0 : 0 < n) : ax_M L xs 11 fr lo [.ref t, .int g] h (fun r h' => r = none ∧ ax_hs h' [(t, .inr (6, [.int g, .ref n, .ref (n + 1), .ref (n + 2), .ref (n + 3), .ref (n + 4), .ref (n + 5), .ref (n + 6), .long 0, .int 0, .int 0])), (n, .inl (0, 48, .inl (ax_fill (fun _ => 0) 0 48 (-1)))), (n + 1, .inl (0, 48, .inl (ax_fill (fun _ => 0) 0 48 0))), (n + 2, .inl (0, 48, .inl (fun _ => 0))), (n + 3, .inl (0, 2400, .inl (fun _ => 0))), (n + 4, .inl (0, 512, .inl (ax_fill (fun _ => 0) 0 512 (-1)))), (n + 5, .inl (0, 961, .inl (ax_fill (fun _ => 0) 0 961 (-1)))), (n + 6, .inl (0, 961, .inl (ax_fill (fun _ => 0) 0 961 0)))] ∧ h'.1 = n + 7 ∧ h'.2.1 = sl + 4978 ∧ ax_fr (fun x => x ∈ [t]) h h') := by
  show ax_A (ax_step L xs) ((11, 0, fr, lo), [(0, .ref t), (1, .int g)], [], h) _
  have hbase : h.1 = n := hn
  have hbasl : h.2.1 = sl := hs
  have hf : ax_fr (fun x => x ∈ [t]) h h := ax_fr.rf
  refine ar_aload_n 1 d_11_0 rfl rfl ?_
  refine ar_objI 4 d_11_1 rfl rfl (by omega) (by show 0 + 12 ≤ lo; omega) ?_
  refine ar_aload_n 5 d_11_4 rfl rfl ?_
  refine ar_bipush 7 (v := 48) d_11_5 rfl (by decide) ?_
  refine ar_newi 9 d_11_7 rfl (by decide) (N := 48) (by decide) (by decide) ?_
  rw [hn]
  replace hF : ax_hs (ax_push h 48 (.inl (0, 48, .inl (fun _ => 0)))) [(t, .inr (6, [.int 0, .null, .null, .null, .null, .null, .null, .null, .long 0, .int 0, .int 0])), (n, .inl (0, 48, .inl (fun _ => 0)))] := hF.push (by omega) 48 _ (by rw [hn]; rfl)
  replace hf := hf.push (n := 48) (c := .inl (0, 48, .inl (fun _ => 0)))
  replace hn : (ax_push h 48 (.inl (0, 48, .inl (fun _ => 0)))).1 = n + 1 := by show h.1 + 1 = _; rw [hn]
  replace hs : (ax_push h 48 (.inl (0, 48, .inl (fun _ => 0)))).2.1 = sl + 48 := by show h.2.1 + 48 = _; omega
  generalize ax_push h 48 (.inl (0, 48, .inl (fun _ => 0))) = h1 at hF hf hn hs ⊢
  refine ar_putf 12 [.int 0, .ref n, .null, .null, .null, .null, .null, .null, .long 0, .int 0, .int 0] d_11_9 rfl (ci := 6) (k := 1) rfl (by decide +kernel) (hF.at 0 rfl) (Nat.le_of_ble_eq_true rfl) rfl rfl rfl ?_
  replace hF : ax_hs (ax_put h1 t (.inr (6, [.int 0, .ref n, .null, .null, .null, .null, .null, .null, .long 0, .int 0, .int 0]))) [(t, .inr (6, [.int 0, .ref n, .null, .null, .null, .null, .null, .null, .long 0, .int 0, .int 0])), (n, .inl (0, 48, .inl (fun _ => 0)))] := hF.put 0 _ rfl rfl
  replace hf := hf.put (a := t) (c := .inr (6, [.int 0, .ref n, .null, .null, .null, .null, .null, .null, .long 0, .int 0, .int 0])) (by simp)
  replace hn : (ax_put h1 t (.inr (6, [.int 0, .ref n, .null, .null, .null, .null, .null, .null, .long 0, .int 0, .int 0]))).1 = n + 1 := hn
  replace hs : (ax_put h1 t (.inr (6, [.int 0, .ref n, .null, .null, .null, .null, .null, .null, .long 0, .int 0, .int 0]))).2.1 = sl + 48 := hs
  generalize ax_put h1 t (.inr (6, [.int 0, .ref n, .null, .null, .null, .null, .null, .null, .long 0, .int 0, .int 0])) = h2 at hF hf hn hs ⊢
  refine ar_aload_n 13 d_11_12 rfl rfl ?_
  refine ar_bipush 15 (v := 48) d_11_13 rfl (by decide) ?_
  refine ar_newi 17 d_11_15 rfl (by decide) (N := 48) (by decide) (by decide) ?_
  rw [hn]
  replace hF : ax_hs (ax_push h2 48 (.inl (0, 48, .inl (fun _ => 0)))) [(t, .inr (6, [.int 0, .ref n, .null, .null, .null, .null, .null, .null, .long 0, .int 0, .int 0])), (n, .inl (0, 48, .inl (fun _ => 0))), (n + 1, .inl (0, 48, .inl (fun _ => 0)))] := hF.push (by omega) 48 _ (by rw [hn]; rfl)
  replace hf := hf.push (n := 48) (c := .inl (0, 48, .inl (fun _ => 0)))
  replace hn : (ax_push h2 48 (.inl (0, 48, .inl (fun _ => 0)))).1 = n + 2 := by show h2.1 + 1 = _; rw [hn]
  replace hs : (ax_push h2 48 (.inl (0, 48, .inl (fun _ => 0)))).2.1 = sl + 96 := by show h2.2.1 + 48 = _; omega
  generalize ax_push h2 48 (.inl (0, 48, .inl (fun _ => 0))) = h3 at hF hf hn hs ⊢
  refine ar_putf 20 [.int 0, .ref n, .ref (n + 1), .null, .null, .null, .null, .null, .long 0, .int 0, .int 0] d_11_17 rfl (ci := 6) (k := 2) rfl (by decide +kernel) (hF.at 0 rfl) (Nat.le_of_ble_eq_true rfl) rfl rfl rfl ?_
  replace hF : ax_hs (ax_put h3 t (.inr (6, [.int 0, .ref n, .ref (n + 1), .null, .null, .null, .null, .null, .long 0, .int 0, .int 0]))) [(t, .inr (6, [.int 0, .ref n, .ref (n + 1), .null, .null, .null, .null, .null, .long 0, .int 0, .int 0])), (n, .inl (0, 48, .inl (fun _ => 0))), (n + 1, .inl (0, 48, .inl (fun _ => 0)))] := hF.put 0 _ rfl rfl
  replace hf := hf.put (a := t) (c := .inr (6, [.int 0, .ref n, .ref (n + 1), .null, .null, .null, .null, .null, .long 0, .int 0, .int 0])) (by simp)
  replace hn : (ax_put h3 t (.inr (6, [.int 0, .ref n, .ref (n + 1), .null, .null, .null, .null, .null, .long 0, .int 0, .int 0]))).1 = n + 2 := hn
  replace hs : (ax_put h3 t (.inr (6, [.int 0, .ref n, .ref (n + 1), .null, .null, .null, .null, .null, .long 0, .int 0, .int 0]))).2.1 = sl + 96 := hs
  generalize ax_put h3 t (.inr (6, [.int 0, .ref n, .ref (n + 1), .null, .null, .null, .null, .null, .long 0, .int 0, .int 0])) = h4 at hF hf hn hs ⊢
  refine ar_aload_n 21 d_11_20 rfl rfl ?_
  refine ar_bipush 23 (v := 48) d_11_21 rfl (by decide) ?_
  refine ar_newi 25 d_11_23 rfl (by decide) (N := 48) (by decide) (by decide) ?_
  rw [hn]
  replace hF : ax_hs (ax_push h4 48 (.inl (0, 48, .inl (fun _ => 0)))) [(t, .inr (6, [.int 0, .ref n, .ref (n + 1), .null, .null, .null, .null, .null, .long 0, .int 0, .int 0])), (n, .inl (0, 48, .inl (fun _ => 0))), (n + 1, .inl (0, 48, .inl (fun _ => 0))), (n + 2, .inl (0, 48, .inl (fun _ => 0)))] := hF.push (by omega) 48 _ (by rw [hn]; rfl)
  replace hf := hf.push (n := 48) (c := .inl (0, 48, .inl (fun _ => 0)))
  replace hn : (ax_push h4 48 (.inl (0, 48, .inl (fun _ => 0)))).1 = n + 3 := by show h4.1 + 1 = _; rw [hn]
  replace hs : (ax_push h4 48 (.inl (0, 48, .inl (fun _ => 0)))).2.1 = sl + 144 := by show h4.2.1 + 48 = _; omega
  generalize ax_push h4 48 (.inl (0, 48, .inl (fun _ => 0))) = h5 at hF hf hn hs ⊢
  refine ar_putf 28 [.int 0, .ref n, .ref (n + 1), .ref (n + 2), .null, .null, .null, .null, .long 0, .int 0, .int 0] d_11_25 rfl (ci := 6) (k := 3) rfl (by decide +kernel) (hF.at 0 rfl) (Nat.le_of_ble_eq_true rfl) rfl rfl rfl ?_
  replace hF : ax_hs (ax_put h5 t (.inr (6, [.int 0, .ref n, .ref (n + 1), .ref (n + 2), .null, .null, .null, .null, .long 0, .int 0, .int 0]))) [(t, .inr (6, [.int 0, .ref n, .ref (n + 1), .ref (n + 2), .null, .null, .null, .null, .long 0, .int 0, .int 0])), (n, .inl (0, 48, .inl (fun _ => 0))), (n + 1, .inl (0, 48, .inl (fun _ => 0))), (n + 2, .inl (0, 48, .inl (fun _ => 0)))] := hF.put 0 _ rfl rfl
  replace hf := hf.put (a := t) (c := .inr (6, [.int 0, .ref n, .ref (n + 1), .ref (n + 2), .null, .null, .null, .null, .long 0, .int 0, .int 0])) (by simp)
  replace hn : (ax_put h5 t (.inr (6, [.int 0, .ref n, .ref (n + 1), .ref (n + 2), .null, .null, .null, .null, .long 0, .int 0, .int 0]))).1 = n + 3 := hn
  replace hs : (ax_put h5 t (.inr (6, [.int 0, .ref n, .ref (n + 1), .ref (n + 2), .null, .null, .null, .null, .long 0, .int 0, .int 0]))).2.1 = sl + 144 := hs
  generalize ax_put h5 t (.inr (6, [.int 0, .ref n, .ref (n + 1), .ref (n + 2), .null, .null, .null, .null, .long 0, .int 0, .int 0])) = h6 at hF hf hn hs ⊢
  refine ar_aload_n 29 d_11_28 rfl rfl ?_
  refine ar_sipush 32 (v := 2400) d_11_29 rfl (by decide) ?_
  refine ar_newi 34 d_11_32 rfl (by decide) (N := 2400) (by decide) (by decide) ?_
  rw [hn]
  replace hF : ax_hs (ax_push h6 2400 (.inl (0, 2400, .inl (fun _ => 0)))) [(t, .inr (6, [.int 0, .ref n, .ref (n + 1), .ref (n + 2), .null, .null, .null, .null, .long 0, .int 0, .int 0])), (n, .inl (0, 48, .inl (fun _ => 0))), (n + 1, .inl (0, 48, .inl (fun _ => 0))), (n + 2, .inl (0, 48, .inl (fun _ => 0))), (n + 3, .inl (0, 2400, .inl (fun _ => 0)))] := hF.push (by omega) 2400 _ (by rw [hn]; rfl)
  replace hf := hf.push (n := 2400) (c := .inl (0, 2400, .inl (fun _ => 0)))
  replace hn : (ax_push h6 2400 (.inl (0, 2400, .inl (fun _ => 0)))).1 = n + 4 := by show h6.1 + 1 = _; rw [hn]
  replace hs : (ax_push h6 2400 (.inl (0, 2400, .inl (fun _ => 0)))).2.1 = sl + 2544 := by show h6.2.1 + 2400 = _; omega
  generalize ax_push h6 2400 (.inl (0, 2400, .inl (fun _ => 0))) = h7 at hF hf hn hs ⊢
  refine ar_putf 37 [.int 0, .ref n, .ref (n + 1), .ref (n + 2), .ref (n + 3), .null, .null, .null, .long 0, .int 0, .int 0] d_11_34 rfl (ci := 6) (k := 4) rfl (by decide +kernel) (hF.at 0 rfl) (Nat.le_of_ble_eq_true rfl) rfl rfl rfl ?_
  replace hF : ax_hs (ax_put h7 t (.inr (6, [.int 0, .ref n, .ref (n + 1), .ref (n + 2), .ref (n + 3), .null, .null, .null, .long 0, .int 0, .int 0]))) [(t, .inr (6, [.int 0, .ref n, .ref (n + 1), .ref (n + 2), .ref (n + 3), .null, .null, .null, .long 0, .int 0, .int 0])), (n, .inl (0, 48, .inl (fun _ => 0))), (n + 1, .inl (0, 48, .inl (fun _ => 0))), (n + 2, .inl (0, 48, .inl (fun _ => 0))), (n + 3, .inl (0, 2400, .inl (fun _ => 0)))] := hF.put 0 _ rfl rfl
  replace hf := hf.put (a := t) (c := .inr (6, [.int 0, .ref n, .ref (n + 1), .ref (n + 2), .ref (n + 3), .null, .null, .null, .long 0, .int 0, .int 0])) (by simp)
  replace hn : (ax_put h7 t (.inr (6, [.int 0, .ref n, .ref (n + 1), .ref (n + 2), .ref (n + 3), .null, .null, .null, .long 0, .int 0, .int 0]))).1 = n + 4 := hn
  replace hs : (ax_put h7 t (.inr (6, [.int 0, .ref n, .ref (n + 1), .ref (n + 2), .ref (n + 3), .null, .null, .null, .long 0, .int 0, .int 0]))).2.1 = sl + 2544 := hs
  generalize ax_put h7 t (.inr (6, [.int 0, .ref n, .ref (n + 1), .ref (n + 2), .ref (n + 3), .null, .null, .null, .long 0, .int 0, .int 0])) = h8 at hF hf hn hs ⊢
  refine ar_aload_n 38 d_11_37 rfl rfl ?_
  refine ar_sipush 41 (v := 512) d_11_38 rfl (by decide) ?_
  refine ar_newi 43 d_11_41 rfl (by decide) (N := 512) (by decide) (by decide) ?_
  rw [hn]
  replace hF : ax_hs (ax_push h8 512 (.inl (0, 512, .inl (fun _ => 0)))) [(t, .inr (6, [.int 0, .ref n, .ref (n + 1), .ref (n + 2), .ref (n + 3), .null, .null, .null, .long 0, .int 0, .int 0])), (n, .inl (0, 48, .inl (fun _ => 0))), (n + 1, .inl (0, 48, .inl (fun _ => 0))), (n + 2, .inl (0, 48, .inl (fun _ => 0))), (n + 3, .inl (0, 2400, .inl (fun _ => 0))), (n + 4, .inl (0, 512, .inl (fun _ => 0)))] := hF.push (by omega) 512 _ (by rw [hn]; rfl)
  replace hf := hf.push (n := 512) (c := .inl (0, 512, .inl (fun _ => 0)))
  replace hn : (ax_push h8 512 (.inl (0, 512, .inl (fun _ => 0)))).1 = n + 5 := by show h8.1 + 1 = _; rw [hn]
  replace hs : (ax_push h8 512 (.inl (0, 512, .inl (fun _ => 0)))).2.1 = sl + 3056 := by show h8.2.1 + 512 = _; omega
  generalize ax_push h8 512 (.inl (0, 512, .inl (fun _ => 0))) = h9 at hF hf hn hs ⊢
  refine ar_putf 46 [.int 0, .ref n, .ref (n + 1), .ref (n + 2), .ref (n + 3), .ref (n + 4), .null, .null, .long 0, .int 0, .int 0] d_11_43 rfl (ci := 6) (k := 5) rfl (by decide +kernel) (hF.at 0 rfl) (Nat.le_of_ble_eq_true rfl) rfl rfl rfl ?_
  replace hF : ax_hs (ax_put h9 t (.inr (6, [.int 0, .ref n, .ref (n + 1), .ref (n + 2), .ref (n + 3), .ref (n + 4), .null, .null, .long 0, .int 0, .int 0]))) [(t, .inr (6, [.int 0, .ref n, .ref (n + 1), .ref (n + 2), .ref (n + 3), .ref (n + 4), .null, .null, .long 0, .int 0, .int 0])), (n, .inl (0, 48, .inl (fun _ => 0))), (n + 1, .inl (0, 48, .inl (fun _ => 0))), (n + 2, .inl (0, 48, .inl (fun _ => 0))), (n + 3, .inl (0, 2400, .inl (fun _ => 0))), (n + 4, .inl (0, 512, .inl (fun _ => 0)))] := hF.put 0 _ rfl rfl
  replace hf := hf.put (a := t) (c := .inr (6, [.int 0, .ref n, .ref (n + 1), .ref (n + 2), .ref (n + 3), .ref (n + 4), .null, .null, .long 0, .int 0, .int 0])) (by simp)
  replace hn : (ax_put h9 t (.inr (6, [.int 0, .ref n, .ref (n + 1), .ref (n + 2), .ref (n + 3), .ref (n + 4), .null, .null, .long 0, .int 0, .int 0]))).1 = n + 5 := hn
  replace hs : (ax_put h9 t (.inr (6, [.int 0, .ref n, .ref (n + 1), .ref (n + 2), .ref (n + 3), .ref (n + 4), .null, .null, .long 0, .int 0, .int 0]))).2.1 = sl + 3056 := hs
  generalize ax_put h9 t (.inr (6, [.int 0, .ref n, .ref (n + 1), .ref (n + 2), .ref (n + 3), .ref (n + 4), .null, .null, .long 0, .int 0, .int 0])) = h10 at hF hf hn hs ⊢
  refine ar_aload_n 47 d_11_46 rfl rfl ?_
  refine ar_sipush 50 (v := 961) d_11_47 rfl (by decide) ?_
  refine ar_newi 52 d_11_50 rfl (by decide) (N := 961) (by decide) (by decide) ?_
  rw [hn]
  replace hF : ax_hs (ax_push h10 961 (.inl (0, 961, .inl (fun _ => 0)))) [(t, .inr (6, [.int 0, .ref n, .ref (n + 1), .ref (n + 2), .ref (n + 3), .ref (n + 4), .null, .null, .long 0, .int 0, .int 0])), (n, .inl (0, 48, .inl (fun _ => 0))), (n + 1, .inl (0, 48, .inl (fun _ => 0))), (n + 2, .inl (0, 48, .inl (fun _ => 0))), (n + 3, .inl (0, 2400, .inl (fun _ => 0))), (n + 4, .inl (0, 512, .inl (fun _ => 0))), (n + 5, .inl (0, 961, .inl (fun _ => 0)))] := hF.push (by omega) 961 _ (by rw [hn]; rfl)
  replace hf := hf.push (n := 961) (c := .inl (0, 961, .inl (fun _ => 0)))
  replace hn : (ax_push h10 961 (.inl (0, 961, .inl (fun _ => 0)))).1 = n + 6 := by show h10.1 + 1 = _; rw [hn]
  replace hs : (ax_push h10 961 (.inl (0, 961, .inl (fun _ => 0)))).2.1 = sl + 4017 := by show h10.2.1 + 961 = _; omega
  generalize ax_push h10 961 (.inl (0, 961, .inl (fun _ => 0))) = h11 at hF hf hn hs ⊢
  refine ar_putf 55 [.int 0, .ref n, .ref (n + 1), .ref (n + 2), .ref (n + 3), .ref (n + 4), .ref (n + 5), .null, .long 0, .int 0, .int 0] d_11_52 rfl (ci := 6) (k := 6) rfl (by decide +kernel) (hF.at 0 rfl) (Nat.le_of_ble_eq_true rfl) rfl rfl rfl ?_
  replace hF : ax_hs (ax_put h11 t (.inr (6, [.int 0, .ref n, .ref (n + 1), .ref (n + 2), .ref (n + 3), .ref (n + 4), .ref (n + 5), .null, .long 0, .int 0, .int 0]))) [(t, .inr (6, [.int 0, .ref n, .ref (n + 1), .ref (n + 2), .ref (n + 3), .ref (n + 4), .ref (n + 5), .null, .long 0, .int 0, .int 0])), (n, .inl (0, 48, .inl (fun _ => 0))), (n + 1, .inl (0, 48, .inl (fun _ => 0))), (n + 2, .inl (0, 48, .inl (fun _ => 0))), (n + 3, .inl (0, 2400, .inl (fun _ => 0))), (n + 4, .inl (0, 512, .inl (fun _ => 0))), (n + 5, .inl (0, 961, .inl (fun _ => 0)))] := hF.put 0 _ rfl rfl
  replace hf := hf.put (a := t) (c := .inr (6, [.int 0, .ref n, .ref (n + 1), .ref (n + 2), .ref (n + 3), .ref (n + 4), .ref (n + 5), .null, .long 0, .int 0, .int 0])) (by simp)
  replace hn : (ax_put h11 t (.inr (6, [.int 0, .ref n, .ref (n + 1), .ref (n + 2), .ref (n + 3), .ref (n + 4), .ref (n + 5), .null, .long 0, .int 0, .int 0]))).1 = n + 6 := hn
  replace hs : (ax_put h11 t (.inr (6, [.int 0, .ref n, .ref (n + 1), .ref (n + 2), .ref (n + 3), .ref (n + 4), .ref (n + 5), .null, .long 0, .int 0, .int 0]))).2.1 = sl + 4017 := hs
  generalize ax_put h11 t (.inr (6, [.int 0, .ref n, .ref (n + 1), .ref (n + 2), .ref (n + 3), .ref (n + 4), .ref (n + 5), .null, .long 0, .int 0, .int 0])) = h12 at hF hf hn hs ⊢
  refine ar_aload_n 56 d_11_55 rfl rfl ?_
  refine ar_sipush 59 (v := 961) d_11_56 rfl (by decide) ?_
  refine ar_newi 61 d_11_59 rfl (by decide) (N := 961) (by decide) (by decide) ?_
  rw [hn]
  replace hF : ax_hs (ax_push h12 961 (.inl (0, 961, .inl (fun _ => 0)))) [(t, .inr (6, [.int 0, .ref n, .ref (n + 1), .ref (n + 2), .ref (n + 3), .ref (n + 4), .ref (n + 5), .null, .long 0, .int 0, .int 0])), (n, .inl (0, 48, .inl (fun _ => 0))), (n + 1, .inl (0, 48, .inl (fun _ => 0))), (n + 2, .inl (0, 48, .inl (fun _ => 0))), (n + 3, .inl (0, 2400, .inl (fun _ => 0))), (n + 4, .inl (0, 512, .inl (fun _ => 0))), (n + 5, .inl (0, 961, .inl (fun _ => 0))), (n + 6, .inl (0, 961, .inl (fun _ => 0)))] := hF.push (by omega) 961 _ (by rw [hn]; rfl)
  replace hf := hf.push (n := 961) (c := .inl (0, 961, .inl (fun _ => 0)))
  replace hn : (ax_push h12 961 (.inl (0, 961, .inl (fun _ => 0)))).1 = n + 7 := by show h12.1 + 1 = _; rw [hn]
  replace hs : (ax_push h12 961 (.inl (0, 961, .inl (fun _ => 0)))).2.1 = sl + 4978 := by show h12.2.1 + 961 = _; omega
  generalize ax_push h12 961 (.inl (0, 961, .inl (fun _ => 0))) = h13 at hF hf hn hs ⊢
  refine ar_putf 64 [.int 0, .ref n, .ref (n + 1), .ref (n + 2), .ref (n + 3), .ref (n + 4), .ref (n + 5), .ref (n + 6), .long 0, .int 0, .int 0] d_11_61 rfl (ci := 6) (k := 7) rfl (by decide +kernel) (hF.at 0 rfl) (Nat.le_of_ble_eq_true rfl) rfl rfl rfl ?_
  replace hF : ax_hs (ax_put h13 t (.inr (6, [.int 0, .ref n, .ref (n + 1), .ref (n + 2), .ref (n + 3), .ref (n + 4), .ref (n + 5), .ref (n + 6), .long 0, .int 0, .int 0]))) [(t, .inr (6, [.int 0, .ref n, .ref (n + 1), .ref (n + 2), .ref (n + 3), .ref (n + 4), .ref (n + 5), .ref (n + 6), .long 0, .int 0, .int 0])), (n, .inl (0, 48, .inl (fun _ => 0))), (n + 1, .inl (0, 48, .inl (fun _ => 0))), (n + 2, .inl (0, 48, .inl (fun _ => 0))), (n + 3, .inl (0, 2400, .inl (fun _ => 0))), (n + 4, .inl (0, 512, .inl (fun _ => 0))), (n + 5, .inl (0, 961, .inl (fun _ => 0))), (n + 6, .inl (0, 961, .inl (fun _ => 0)))] := hF.put 0 _ rfl rfl
  replace hf := hf.put (a := t) (c := .inr (6, [.int 0, .ref n, .ref (n + 1), .ref (n + 2), .ref (n + 3), .ref (n + 4), .ref (n + 5), .ref (n + 6), .long 0, .int 0, .int 0])) (by simp)
  replace hn : (ax_put h13 t (.inr (6, [.int 0, .ref n, .ref (n + 1), .ref (n + 2), .ref (n + 3), .ref (n + 4), .ref (n + 5), .ref (n + 6), .long 0, .int 0, .int 0]))).1 = n + 7 := hn
  replace hs : (ax_put h13 t (.inr (6, [.int 0, .ref n, .ref (n + 1), .ref (n + 2), .ref (n + 3), .ref (n + 4), .ref (n + 5), .ref (n + 6), .long 0, .int 0, .int 0]))).2.1 = sl + 4978 := hs
  generalize ax_put h13 t (.inr (6, [.int 0, .ref n, .ref (n + 1), .ref (n + 2), .ref (n + 3), .ref (n + 4), .ref (n + 5), .ref (n + 6), .long 0, .int 0, .int 0])) = h14 at hF hf hn hs ⊢
  refine ar_aload_n 65 d_11_64 rfl rfl ?_
  refine ar_iload_n 66 d_11_65 rfl rfl ?_
  refine ar_putf 69 [.int g, .ref n, .ref (n + 1), .ref (n + 2), .ref (n + 3), .ref (n + 4), .ref (n + 5), .ref (n + 6), .long 0, .int 0, .int 0] d_11_66 rfl (ci := 6) (k := 0) rfl (by decide +kernel) (hF.at 0 rfl) (Nat.le_of_ble_eq_true rfl) rfl rfl rfl ?_
  replace hF : ax_hs (ax_put h14 t (.inr (6, [.int g, .ref n, .ref (n + 1), .ref (n + 2), .ref (n + 3), .ref (n + 4), .ref (n + 5), .ref (n + 6), .long 0, .int 0, .int 0]))) [(t, .inr (6, [.int g, .ref n, .ref (n + 1), .ref (n + 2), .ref (n + 3), .ref (n + 4), .ref (n + 5), .ref (n + 6), .long 0, .int 0, .int 0])), (n, .inl (0, 48, .inl (fun _ => 0))), (n + 1, .inl (0, 48, .inl (fun _ => 0))), (n + 2, .inl (0, 48, .inl (fun _ => 0))), (n + 3, .inl (0, 2400, .inl (fun _ => 0))), (n + 4, .inl (0, 512, .inl (fun _ => 0))), (n + 5, .inl (0, 961, .inl (fun _ => 0))), (n + 6, .inl (0, 961, .inl (fun _ => 0)))] := hF.put 0 _ rfl rfl
  replace hf := hf.put (a := t) (c := .inr (6, [.int g, .ref n, .ref (n + 1), .ref (n + 2), .ref (n + 3), .ref (n + 4), .ref (n + 5), .ref (n + 6), .long 0, .int 0, .int 0])) (by simp)
  replace hn : (ax_put h14 t (.inr (6, [.int g, .ref n, .ref (n + 1), .ref (n + 2), .ref (n + 3), .ref (n + 4), .ref (n + 5), .ref (n + 6), .long 0, .int 0, .int 0]))).1 = n + 7 := hn
  replace hs : (ax_put h14 t (.inr (6, [.int g, .ref n, .ref (n + 1), .ref (n + 2), .ref (n + 3), .ref (n + 4), .ref (n + 5), .ref (n + 6), .long 0, .int 0, .int 0]))).2.1 = sl + 4978 := hs
  generalize ax_put h14 t (.inr (6, [.int g, .ref n, .ref (n + 1), .ref (n + 2), .ref (n + 3), .ref (n + 4), .ref (n + 5), .ref (n + 6), .long 0, .int 0, .int 0])) = h15 at hF hf hn hs ⊢
  refine ar_aload_n 70 d_11_69 rfl rfl ?_
  refine ar_call (r := []) (na := 0) (kd := 0) (cm := 12) (fr2 := fr - 1) (lo2 := lo - 20) 73 d_11_70 (ar_hoV (as := []) rfl rfl rfl (hF.at 0 rfl)) rfl (by omega) (show lo - 20 + (19 + 1) = lo by omega) (Nat.le_of_ble_eq_true rfl) (Nat.le_of_ble_eq_true rfl) (c_12 (by omega) (by omega) (hF.sub (F' := [(t, .inr (6, [.int g, .ref n, .ref (n + 1), .ref (n + 2), .ref (n + 3), .ref (n + 4), .ref (n + 5), .ref (n + 6), .long 0, .int 0, .int 0])), (n, .inl (0, 48, .inl (fun _ => 0))), (n + 1, .inl (0, 48, .inl (fun _ => 0))), (n + 4, .inl (0, 512, .inl (fun _ => 0))), (n + 5, .inl (0, 961, .inl (fun _ => 0))), (n + 6, .inl (0, 961, .inl (fun _ => 0)))]) [0, 1, 2, 5, 6, 7] rfl rfl) hn hs (by omega)) ?_
  intro v h16 hq
  obtain ⟨rfl, qF, qn, qs, qf⟩ := hq
  have qF : ax_hs h16 [(t, .inr (6, [.int g, .ref n, .ref (n + 1), .ref (n + 2), .ref (n + 3), .ref (n + 4), .ref (n + 5), .ref (n + 6), .long 0, .int 0, .int 0])), (n, .inl (0, 48, .inl (ax_fill (fun _ => 0) 0 48 (-1)))), (n + 1, .inl (0, 48, .inl (ax_fill (fun _ => 0) 0 48 0))), (n + 4, .inl (0, 512, .inl (ax_fill (fun _ => 0) 0 512 (-1)))), (n + 5, .inl (0, 961, .inl (ax_fill (fun _ => 0) 0 961 (-1)))), (n + 6, .inl (0, 961, .inl (ax_fill (fun _ => 0) 0 961 0)))] := qF
  replace hF : ax_hs h16 [(n + 2, .inl (0, 48, .inl (fun _ => 0))), (n + 3, .inl (0, 2400, .inl (fun _ => 0))), (t, .inr (6, [.int g, .ref n, .ref (n + 1), .ref (n + 2), .ref (n + 3), .ref (n + 4), .ref (n + 5), .ref (n + 6), .long 0, .int 0, .int 0])), (n, .inl (0, 48, .inl (ax_fill (fun _ => 0) 0 48 (-1)))), (n + 1, .inl (0, 48, .inl (ax_fill (fun _ => 0) 0 48 0))), (n + 4, .inl (0, 512, .inl (ax_fill (fun _ => 0) 0 512 (-1)))), (n + 5, .inl (0, 961, .inl (ax_fill (fun _ => 0) 0 961 (-1)))), (n + 6, .inl (0, 961, .inl (ax_fill (fun _ => 0) 0 961 0)))] := ax_hs.call (rest := [(n + 2, .inl (0, 48, .inl (fun _ => 0))), (n + 3, .inl (0, 2400, .inl (fun _ => 0)))]) [0, 1, 2, 5, 6, 7] [3, 4] hF qf qF rfl rfl rfl [0, 1, 2, 5, 6, 7] rfl rfl [0, 1, 2, 5, 6, 7] (news := []) rfl rfl (fun _ z => absurd z List.not_mem_nil) rfl
  replace hf := hf.trC qf (by intro x hx hB; simp at hB; first | (rcases hB with rfl | rfl | rfl | rfl | rfl | rfl <;> first | omega | simp) | omega | simp [hB])
  replace hn : h16.1 = n + 7 := by omega
  replace hs : h16.2.1 = sl + 4978 := by omega
  clear qF qn qs qf
  have hF := hF.sub (F' := [(t, .inr (6, [.int g, .ref n, .ref (n + 1), .ref (n + 2), .ref (n + 3), .ref (n + 4), .ref (n + 5), .ref (n + 6), .long 0, .int 0, .int 0])), (n, .inl (0, 48, .inl (ax_fill (fun _ => 0) 0 48 (-1)))), (n + 1, .inl (0, 48, .inl (ax_fill (fun _ => 0) 0 48 0))), (n + 2, .inl (0, 48, .inl (fun _ => 0))), (n + 3, .inl (0, 2400, .inl (fun _ => 0))), (n + 4, .inl (0, 512, .inl (ax_fill (fun _ => 0) 0 512 (-1)))), (n + 5, .inl (0, 961, .inl (ax_fill (fun _ => 0) 0 961 (-1)))), (n + 6, .inl (0, 961, .inl (ax_fill (fun _ => 0) 0 961 0)))]) [2, 3, 4, 0, 1, 5, 6, 7] rfl rfl
  exact ar_ret d_11_73 rfl (⟨rfl, hF, hn, hs, hf⟩)
theorem c_17 {L : Nat} {xs : Nat → Int32} {fr lo : Nat} {h : ax_H} {n sl : Nat} {a t : Nat} (hfr : 2 ≤ fr) (hlo : 32 ≤ lo) (hF : ax_hs h [(a, .inr (10, [.null, .null, .null, .int 0, .int 0, .int 0, .int 0, .int 0, .int 0, .int 0, .int 0, .int 0, .int 0, .int 0, .int 0]))]) (hn : h.1 = n) (hs : h.2.1 = sl) (hn0 : 0 < n) : ax_M L xs 17 fr lo [.ref a, .ref t] h (fun r h' => r = none ∧ ax_hs h' [(a, .inr (10, [.ref t, .ref n, .ref (n + 2), .int 0, .int (-1), .int 0, .int 0, .int 0, .int 0, .int 0, .int 0, .int 0, .int 0, .int 0, .int 0])), (n, .inr (5, [.int 0, .int 0, .int 0, .int 0, .int 0, .int 0, .int 0, .ref (n + 1)])), (n + 1, .inl (0, 612, .inl (fun _ => 0))), (n + 2, .inl (0, 1152, .inl (fun _ => 0)))] ∧ h'.1 = n + 3 ∧ h'.2.1 = sl + 1772 ∧ ax_fr (fun x => x ∈ [a]) h h') := by
  show ax_A (ax_step L xs) ((17, 0, fr, lo), [(0, .ref a), (1, .ref t)], [], h) _
  have hbase : h.1 = n := hn
  have hbasl : h.2.1 = sl := hs
  have hf : ax_fr (fun x => x ∈ [a]) h h := ax_fr.rf
  refine ar_aload_n 1 d_17_0 rfl rfl ?_
  refine ar_objI 4 d_17_1 rfl rfl (by omega) (by show 0 + 12 ≤ lo; omega) ?_
  refine ar_aload_n 5 d_17_4 rfl rfl ?_
  refine ar_new 8 d_17_5 rfl (ci := 5) rfl ?_
  rw [hn]
  refine ar_heap (h' := ax_push h 8 (.inr (5, [.int 0, .int 0, .int 0, .int 0, .int 0, .int 0, .int 0, .null]))) rfl ?_
  replace hF : ax_hs (ax_push h 8 (.inr (5, [.int 0, .int 0, .int 0, .int 0, .int 0, .int 0, .int 0, .null]))) [(a, .inr (10, [.null, .null, .null, .int 0, .int 0, .int 0, .int 0, .int 0, .int 0, .int 0, .int 0, .int 0, .int 0, .int 0, .int 0])), (n, .inr (5, [.int 0, .int 0, .int 0, .int 0, .int 0, .int 0, .int 0, .null]))] := hF.push (by omega) 8 _ (by rw [hn]; rfl)
  replace hf := hf.push (n := 8) (c := .inr (5, [.int 0, .int 0, .int 0, .int 0, .int 0, .int 0, .int 0, .null]))
  replace hn : (ax_push h 8 (.inr (5, [.int 0, .int 0, .int 0, .int 0, .int 0, .int 0, .int 0, .null]))).1 = n + 1 := by show h.1 + 1 = _; rw [hn]
  replace hs : (ax_push h 8 (.inr (5, [.int 0, .int 0, .int 0, .int 0, .int 0, .int 0, .int 0, .null]))).2.1 = sl + 8 := by show h.2.1 + 8 = _; omega
  generalize ax_push h 8 (.inr (5, [.int 0, .int 0, .int 0, .int 0, .int 0, .int 0, .int 0, .null])) = h1 at hF hf hn hs ⊢
  refine ar_dup 9 d_17_8 rfl rfl ?_
  refine ar_call (r := [.ref n, .ref a]) (na := 0) (kd := 0) (cm := 10) (fr2 := fr - 1) (lo2 := lo - 20) 12 d_17_9 (ar_hoI (as := []) rfl rfl rfl) rfl (by omega) (show lo - 20 + (19 + 1) = lo by omega) (Nat.le_of_ble_eq_true rfl) (Nat.le_of_ble_eq_true rfl) (c_10 (by omega) (by omega) (hF.sub (F' := [(n, .inr (5, [.int 0, .int 0, .int 0, .int 0, .int 0, .int 0, .int 0, .null]))]) [1] rfl rfl) hn hs (by omega)) ?_
  intro v h2 hq
  obtain ⟨rfl, qF, qn, qs, qf⟩ := hq
  have qF : ax_hs h2 [(n, .inr (5, [.int 0, .int 0, .int 0, .int 0, .int 0, .int 0, .int 0, .ref (n + 1)])), (n + 1, .inl (0, 612, .inl (fun _ => 0)))] := qF
  replace hF : ax_hs h2 [(a, .inr (10, [.null, .null, .null, .int 0, .int 0, .int 0, .int 0, .int 0, .int 0, .int 0, .int 0, .int 0, .int 0, .int 0, .int 0])), (n, .inr (5, [.int 0, .int 0, .int 0, .int 0, .int 0, .int 0, .int 0, .ref (n + 1)])), (n + 1, .inl (0, 612, .inl (fun _ => 0)))] := ax_hs.call (rest := [(a, .inr (10, [.null, .null, .null, .int 0, .int 0, .int 0, .int 0, .int 0, .int 0, .int 0, .int 0, .int 0, .int 0, .int 0, .int 0]))]) [1] [0] hF qf qF rfl rfl rfl [1] rfl rfl [1] (news := [n + 1]) rfl rfl (by rw [hn]; simp; try omega) rfl
  replace hf := hf.trC qf (by intro x hx hB; simp at hB; first | (rcases hB with rfl <;> first | omega | simp) | omega | simp [hB])
  replace hn : h2.1 = n + 2 := by omega
  replace hs : h2.2.1 = sl + 620 := by omega
  clear qF qn qs qf
  refine ar_putf 15 [.null, .ref n, .null, .int 0, .int 0, .int 0, .int 0, .int 0, .int 0, .int 0, .int 0, .int 0, .int 0, .int 0, .int 0] d_17_12 rfl (ci := 10) (k := 1) rfl (by decide +kernel) (hF.at 0 rfl) (Nat.le_of_ble_eq_true rfl) rfl rfl rfl ?_
  replace hF : ax_hs (ax_put h2 a (.inr (10, [.null, .ref n, .null, .int 0, .int 0, .int 0, .int 0, .int 0, .int 0, .int 0, .int 0, .int 0, .int 0, .int 0, .int 0]))) [(a, .inr (10, [.null, .ref n, .null, .int 0, .int 0, .int 0, .int 0, .int 0, .int 0, .int 0, .int 0, .int 0, .int 0, .int 0, .int 0])), (n, .inr (5, [.int 0, .int 0, .int 0, .int 0, .int 0, .int 0, .int 0, .ref (n + 1)])), (n + 1, .inl (0, 612, .inl (fun _ => 0)))] := hF.put 0 _ rfl rfl
  replace hf := hf.put (a := a) (c := .inr (10, [.null, .ref n, .null, .int 0, .int 0, .int 0, .int 0, .int 0, .int 0, .int 0, .int 0, .int 0, .int 0, .int 0, .int 0])) (by simp)
  replace hn : (ax_put h2 a (.inr (10, [.null, .ref n, .null, .int 0, .int 0, .int 0, .int 0, .int 0, .int 0, .int 0, .int 0, .int 0, .int 0, .int 0, .int 0]))).1 = n + 2 := hn
  replace hs : (ax_put h2 a (.inr (10, [.null, .ref n, .null, .int 0, .int 0, .int 0, .int 0, .int 0, .int 0, .int 0, .int 0, .int 0, .int 0, .int 0, .int 0]))).2.1 = sl + 620 := hs
  generalize ax_put h2 a (.inr (10, [.null, .ref n, .null, .int 0, .int 0, .int 0, .int 0, .int 0, .int 0, .int 0, .int 0, .int 0, .int 0, .int 0, .int 0])) = h3 at hF hf hn hs ⊢
  refine ar_aload_n 16 d_17_15 rfl rfl ?_
  refine ar_sipush 19 (v := 1152) d_17_16 rfl (by decide) ?_
  refine ar_newi 21 d_17_19 rfl (by decide) (N := 1152) (by decide) (by decide) ?_
  rw [hn]
  replace hF : ax_hs (ax_push h3 1152 (.inl (0, 1152, .inl (fun _ => 0)))) [(a, .inr (10, [.null, .ref n, .null, .int 0, .int 0, .int 0, .int 0, .int 0, .int 0, .int 0, .int 0, .int 0, .int 0, .int 0, .int 0])), (n, .inr (5, [.int 0, .int 0, .int 0, .int 0, .int 0, .int 0, .int 0, .ref (n + 1)])), (n + 1, .inl (0, 612, .inl (fun _ => 0))), (n + 2, .inl (0, 1152, .inl (fun _ => 0)))] := hF.push (by omega) 1152 _ (by rw [hn]; rfl)
  replace hf := hf.push (n := 1152) (c := .inl (0, 1152, .inl (fun _ => 0)))
  replace hn : (ax_push h3 1152 (.inl (0, 1152, .inl (fun _ => 0)))).1 = n + 3 := by show h3.1 + 1 = _; rw [hn]
  replace hs : (ax_push h3 1152 (.inl (0, 1152, .inl (fun _ => 0)))).2.1 = sl + 1772 := by show h3.2.1 + 1152 = _; omega
  generalize ax_push h3 1152 (.inl (0, 1152, .inl (fun _ => 0))) = h4 at hF hf hn hs ⊢
  refine ar_putf 24 [.null, .ref n, .ref (n + 2), .int 0, .int 0, .int 0, .int 0, .int 0, .int 0, .int 0, .int 0, .int 0, .int 0, .int 0, .int 0] d_17_21 rfl (ci := 10) (k := 2) rfl (by decide +kernel) (hF.at 0 rfl) (Nat.le_of_ble_eq_true rfl) rfl rfl rfl ?_
  replace hF : ax_hs (ax_put h4 a (.inr (10, [.null, .ref n, .ref (n + 2), .int 0, .int 0, .int 0, .int 0, .int 0, .int 0, .int 0, .int 0, .int 0, .int 0, .int 0, .int 0]))) [(a, .inr (10, [.null, .ref n, .ref (n + 2), .int 0, .int 0, .int 0, .int 0, .int 0, .int 0, .int 0, .int 0, .int 0, .int 0, .int 0, .int 0])), (n, .inr (5, [.int 0, .int 0, .int 0, .int 0, .int 0, .int 0, .int 0, .ref (n + 1)])), (n + 1, .inl (0, 612, .inl (fun _ => 0))), (n + 2, .inl (0, 1152, .inl (fun _ => 0)))] := hF.put 0 _ rfl rfl
  replace hf := hf.put (a := a) (c := .inr (10, [.null, .ref n, .ref (n + 2), .int 0, .int 0, .int 0, .int 0, .int 0, .int 0, .int 0, .int 0, .int 0, .int 0, .int 0, .int 0])) (by simp)
  replace hn : (ax_put h4 a (.inr (10, [.null, .ref n, .ref (n + 2), .int 0, .int 0, .int 0, .int 0, .int 0, .int 0, .int 0, .int 0, .int 0, .int 0, .int 0, .int 0]))).1 = n + 3 := hn
  replace hs : (ax_put h4 a (.inr (10, [.null, .ref n, .ref (n + 2), .int 0, .int 0, .int 0, .int 0, .int 0, .int 0, .int 0, .int 0, .int 0, .int 0, .int 0, .int 0]))).2.1 = sl + 1772 := hs
  generalize ax_put h4 a (.inr (10, [.null, .ref n, .ref (n + 2), .int 0, .int 0, .int 0, .int 0, .int 0, .int 0, .int 0, .int 0, .int 0, .int 0, .int 0, .int 0])) = h5 at hF hf hn hs ⊢
  refine ar_aload_n 25 d_17_24 rfl rfl ?_
  refine ar_iconst 26 (v := -1) d_17_25 rfl (by decide) ?_
  refine ar_putf 29 [.null, .ref n, .ref (n + 2), .int 0, .int (-1), .int 0, .int 0, .int 0, .int 0, .int 0, .int 0, .int 0, .int 0, .int 0, .int 0] d_17_26 rfl (ci := 10) (k := 4) rfl rfl (hF.at 0 rfl) (Nat.le_of_ble_eq_true rfl) rfl rfl rfl ?_
  replace hF : ax_hs (ax_put h5 a (.inr (10, [.null, .ref n, .ref (n + 2), .int 0, .int (-1), .int 0, .int 0, .int 0, .int 0, .int 0, .int 0, .int 0, .int 0, .int 0, .int 0]))) [(a, .inr (10, [.null, .ref n, .ref (n + 2), .int 0, .int (-1), .int 0, .int 0, .int 0, .int 0, .int 0, .int 0, .int 0, .int 0, .int 0, .int 0])), (n, .inr (5, [.int 0, .int 0, .int 0, .int 0, .int 0, .int 0, .int 0, .ref (n + 1)])), (n + 1, .inl (0, 612, .inl (fun _ => 0))), (n + 2, .inl (0, 1152, .inl (fun _ => 0)))] := hF.put 0 _ rfl rfl
  replace hf := hf.put (a := a) (c := .inr (10, [.null, .ref n, .ref (n + 2), .int 0, .int (-1), .int 0, .int 0, .int 0, .int 0, .int 0, .int 0, .int 0, .int 0, .int 0, .int 0])) (by simp)
  replace hn : (ax_put h5 a (.inr (10, [.null, .ref n, .ref (n + 2), .int 0, .int (-1), .int 0, .int 0, .int 0, .int 0, .int 0, .int 0, .int 0, .int 0, .int 0, .int 0]))).1 = n + 3 := hn
  replace hs : (ax_put h5 a (.inr (10, [.null, .ref n, .ref (n + 2), .int 0, .int (-1), .int 0, .int 0, .int 0, .int 0, .int 0, .int 0, .int 0, .int 0, .int 0, .int 0]))).2.1 = sl + 1772 := hs
  generalize ax_put h5 a (.inr (10, [.null, .ref n, .ref (n + 2), .int 0, .int (-1), .int 0, .int 0, .int 0, .int 0, .int 0, .int 0, .int 0, .int 0, .int 0, .int 0])) = h6 at hF hf hn hs ⊢
  refine ar_aload_n 30 d_17_29 rfl rfl ?_
  refine ar_aload_n 31 d_17_30 rfl rfl ?_
  refine ar_putf 34 [.ref t, .ref n, .ref (n + 2), .int 0, .int (-1), .int 0, .int 0, .int 0, .int 0, .int 0, .int 0, .int 0, .int 0, .int 0, .int 0] d_17_31 rfl (ci := 10) (k := 0) rfl (by decide +kernel) (hF.at 0 rfl) (Nat.le_of_ble_eq_true rfl) rfl rfl rfl ?_
  replace hF : ax_hs (ax_put h6 a (.inr (10, [.ref t, .ref n, .ref (n + 2), .int 0, .int (-1), .int 0, .int 0, .int 0, .int 0, .int 0, .int 0, .int 0, .int 0, .int 0, .int 0]))) [(a, .inr (10, [.ref t, .ref n, .ref (n + 2), .int 0, .int (-1), .int 0, .int 0, .int 0, .int 0, .int 0, .int 0, .int 0, .int 0, .int 0, .int 0])), (n, .inr (5, [.int 0, .int 0, .int 0, .int 0, .int 0, .int 0, .int 0, .ref (n + 1)])), (n + 1, .inl (0, 612, .inl (fun _ => 0))), (n + 2, .inl (0, 1152, .inl (fun _ => 0)))] := hF.put 0 _ rfl rfl
  replace hf := hf.put (a := a) (c := .inr (10, [.ref t, .ref n, .ref (n + 2), .int 0, .int (-1), .int 0, .int 0, .int 0, .int 0, .int 0, .int 0, .int 0, .int 0, .int 0, .int 0])) (by simp)
  replace hn : (ax_put h6 a (.inr (10, [.ref t, .ref n, .ref (n + 2), .int 0, .int (-1), .int 0, .int 0, .int 0, .int 0, .int 0, .int 0, .int 0, .int 0, .int 0, .int 0]))).1 = n + 3 := hn
  replace hs : (ax_put h6 a (.inr (10, [.ref t, .ref n, .ref (n + 2), .int 0, .int (-1), .int 0, .int 0, .int 0, .int 0, .int 0, .int 0, .int 0, .int 0, .int 0, .int 0]))).2.1 = sl + 1772 := hs
  generalize ax_put h6 a (.inr (10, [.ref t, .ref n, .ref (n + 2), .int 0, .int (-1), .int 0, .int 0, .int 0, .int 0, .int 0, .int 0, .int 0, .int 0, .int 0, .int 0])) = h7 at hF hf hn hs ⊢
  have hF := hF.sub (F' := [(a, .inr (10, [.ref t, .ref n, .ref (n + 2), .int 0, .int (-1), .int 0, .int 0, .int 0, .int 0, .int 0, .int 0, .int 0, .int 0, .int 0, .int 0])), (n, .inr (5, [.int 0, .int 0, .int 0, .int 0, .int 0, .int 0, .int 0, .ref (n + 1)])), (n + 1, .inl (0, 612, .inl (fun _ => 0))), (n + 2, .inl (0, 1152, .inl (fun _ => 0)))]) [0, 1, 2, 3] rfl rfl
  exact ar_ret d_17_34 rfl (⟨rfl, hF, hn, hs, hf⟩)
theorem c_16 {L : Nat} {xs : Nat → Int32} {fr lo : Nat} {h : ax_H} {n sl : Nat} {a rk nt ro : Nat} {me N C G : Int32} (hfr : 3 ≤ fr) (hlo : 64 ≤ lo) (hF : ax_hs h [(a, .inr (9, [.int 0, .null, .null, .null, .null, .null, .null, .int 0, .int 0, .int 0, .int 0, .long 0, .int 0, .int 0, .int 0])), (rk, .inr (3, [.int N, .int C, .int G, .ref ro]))]) (hn : h.1 = n) (hs : h.2.1 = sl) (hn0 : 0 < n) : ax_M L xs 16 fr lo [.ref a, .int me, .ref rk, .ref nt] h (fun r h' => r = none ∧ ax_hs h' [(rk, .inr (3, [.int N, .int C, .int G, .ref ro])), (a, .inr (9, [.int me, .ref rk, .ref nt, .ref (n + 2), .ref (n + 10), .ref n, .ref (n + 1), .int 0, .int 0, .int 0, .int 0, .long 0, .int 0, .int 0, .int 0])), (n, .inl (0, 16, .inl (fun _ => 0))), (n + 1, .inl (0, 280, .inl (fun _ => 0))), (n + 2, .inr (6, [.int G, .ref (n + 3), .ref (n + 4), .ref (n + 5), .ref (n + 6), .ref (n + 7), .ref (n + 8), .ref (n + 9), .long 0, .int 0, .int 0])), (n + 3, .inl (0, 48, .inl (ax_fill (fun _ => 0) 0 48 (-1)))), (n + 4, .inl (0, 48, .inl (ax_fill (fun _ => 0) 0 48 0))), (n + 5, .inl (0, 48, .inl (fun _ => 0))), (n + 6, .inl (0, 2400, .inl (fun _ => 0))), (n + 7, .inl (0, 512, .inl (ax_fill (fun _ => 0) 0 512 (-1)))), (n + 8, .inl (0, 961, .inl (ax_fill (fun _ => 0) 0 961 (-1)))), (n + 9, .inl (0, 961, .inl (ax_fill (fun _ => 0) 0 961 0))), (n + 10, .inr (10, [.ref (n + 2), .ref (n + 11), .ref (n + 13), .int 0, .int (-1), .int 0, .int 0, .int 0, .int 0, .int 0, .int 0, .int 0, .int 0, .int 0, .int 0])), (n + 11, .inr (5, [.int 0, .int 0, .int 0, .int 0, .int 0, .int 0, .int 0, .ref (n + 12)])), (n + 12, .inl (0, 612, .inl (fun _ => 0))), (n + 13, .inl (0, 1152, .inl (fun _ => 0)))] ∧ h'.1 = n + 14 ∧ h'.2.1 = sl + 7072 ∧ ax_fr (fun x => x ∈ [a]) h h') := by
  show ax_A (ax_step L xs) ((16, 0, fr, lo), [(0, .ref a), (1, .int me), (2, .ref rk), (3, .ref nt)], [], h) _
  have hbase : h.1 = n := hn
  have hbasl : h.2.1 = sl := hs
  have hf : ax_fr (fun x => x ∈ [a]) h h := ax_fr.rf
  refine ar_aload_n 1 d_16_0 rfl rfl ?_
  refine ar_objI 4 d_16_1 rfl rfl (by omega) (by show 0 + 12 ≤ lo; omega) ?_
  refine ar_aload_n 5 d_16_4 rfl rfl ?_
  refine ar_bipush 7 (v := 16) d_16_5 rfl (by decide) ?_
  refine ar_newi 9 d_16_7 rfl (by decide) (N := 16) (by decide) (by decide) ?_
  rw [hn]
  replace hF : ax_hs (ax_push h 16 (.inl (0, 16, .inl (fun _ => 0)))) [(a, .inr (9, [.int 0, .null, .null, .null, .null, .null, .null, .int 0, .int 0, .int 0, .int 0, .long 0, .int 0, .int 0, .int 0])), (rk, .inr (3, [.int N, .int C, .int G, .ref ro])), (n, .inl (0, 16, .inl (fun _ => 0)))] := hF.push (by omega) 16 _ (by rw [hn]; rfl)
  replace hf := hf.push (n := 16) (c := .inl (0, 16, .inl (fun _ => 0)))
  replace hn : (ax_push h 16 (.inl (0, 16, .inl (fun _ => 0)))).1 = n + 1 := by show h.1 + 1 = _; rw [hn]
  replace hs : (ax_push h 16 (.inl (0, 16, .inl (fun _ => 0)))).2.1 = sl + 16 := by show h.2.1 + 16 = _; omega
  generalize ax_push h 16 (.inl (0, 16, .inl (fun _ => 0))) = h1 at hF hf hn hs ⊢
  refine ar_putf 12 [.int 0, .null, .null, .null, .null, .ref n, .null, .int 0, .int 0, .int 0, .int 0, .long 0, .int 0, .int 0, .int 0] d_16_9 rfl (ci := 9) (k := 5) rfl (by decide +kernel) (hF.at 0 rfl) (Nat.le_of_ble_eq_true rfl) rfl rfl rfl ?_
  replace hF : ax_hs (ax_put h1 a (.inr (9, [.int 0, .null, .null, .null, .null, .ref n, .null, .int 0, .int 0, .int 0, .int 0, .long 0, .int 0, .int 0, .int 0]))) [(a, .inr (9, [.int 0, .null, .null, .null, .null, .ref n, .null, .int 0, .int 0, .int 0, .int 0, .long 0, .int 0, .int 0, .int 0])), (rk, .inr (3, [.int N, .int C, .int G, .ref ro])), (n, .inl (0, 16, .inl (fun _ => 0)))] := hF.put 0 _ rfl rfl
  replace hf := hf.put (a := a) (c := .inr (9, [.int 0, .null, .null, .null, .null, .ref n, .null, .int 0, .int 0, .int 0, .int 0, .long 0, .int 0, .int 0, .int 0])) (by simp)
  replace hn : (ax_put h1 a (.inr (9, [.int 0, .null, .null, .null, .null, .ref n, .null, .int 0, .int 0, .int 0, .int 0, .long 0, .int 0, .int 0, .int 0]))).1 = n + 1 := hn
  replace hs : (ax_put h1 a (.inr (9, [.int 0, .null, .null, .null, .null, .ref n, .null, .int 0, .int 0, .int 0, .int 0, .long 0, .int 0, .int 0, .int 0]))).2.1 = sl + 16 := hs
  generalize ax_put h1 a (.inr (9, [.int 0, .null, .null, .null, .null, .ref n, .null, .int 0, .int 0, .int 0, .int 0, .long 0, .int 0, .int 0, .int 0])) = h2 at hF hf hn hs ⊢
  refine ar_aload_n 13 d_16_12 rfl rfl ?_
  refine ar_sipush 16 (v := 280) d_16_13 rfl (by decide) ?_
  refine ar_newi 18 d_16_16 rfl (by decide) (N := 280) (by decide) (by decide) ?_
  rw [hn]
  replace hF : ax_hs (ax_push h2 280 (.inl (0, 280, .inl (fun _ => 0)))) [(a, .inr (9, [.int 0, .null, .null, .null, .null, .ref n, .null, .int 0, .int 0, .int 0, .int 0, .long 0, .int 0, .int 0, .int 0])), (rk, .inr (3, [.int N, .int C, .int G, .ref ro])), (n, .inl (0, 16, .inl (fun _ => 0))), (n + 1, .inl (0, 280, .inl (fun _ => 0)))] := hF.push (by omega) 280 _ (by rw [hn]; rfl)
  replace hf := hf.push (n := 280) (c := .inl (0, 280, .inl (fun _ => 0)))
  replace hn : (ax_push h2 280 (.inl (0, 280, .inl (fun _ => 0)))).1 = n + 2 := by show h2.1 + 1 = _; rw [hn]
  replace hs : (ax_push h2 280 (.inl (0, 280, .inl (fun _ => 0)))).2.1 = sl + 296 := by show h2.2.1 + 280 = _; omega
  generalize ax_push h2 280 (.inl (0, 280, .inl (fun _ => 0))) = h3 at hF hf hn hs ⊢
  refine ar_putf 21 [.int 0, .null, .null, .null, .null, .ref n, .ref (n + 1), .int 0, .int 0, .int 0, .int 0, .long 0, .int 0, .int 0, .int 0] d_16_18 rfl (ci := 9) (k := 6) rfl (by decide +kernel) (hF.at 0 rfl) (Nat.le_of_ble_eq_true rfl) rfl rfl rfl ?_
  replace hF : ax_hs (ax_put h3 a (.inr (9, [.int 0, .null, .null, .null, .null, .ref n, .ref (n + 1), .int 0, .int 0, .int 0, .int 0, .long 0, .int 0, .int 0, .int 0]))) [(a, .inr (9, [.int 0, .null, .null, .null, .null, .ref n, .ref (n + 1), .int 0, .int 0, .int 0, .int 0, .long 0, .int 0, .int 0, .int 0])), (rk, .inr (3, [.int N, .int C, .int G, .ref ro])), (n, .inl (0, 16, .inl (fun _ => 0))), (n + 1, .inl (0, 280, .inl (fun _ => 0)))] := hF.put 0 _ rfl rfl
  replace hf := hf.put (a := a) (c := .inr (9, [.int 0, .null, .null, .null, .null, .ref n, .ref (n + 1), .int 0, .int 0, .int 0, .int 0, .long 0, .int 0, .int 0, .int 0])) (by simp)
  replace hn : (ax_put h3 a (.inr (9, [.int 0, .null, .null, .null, .null, .ref n, .ref (n + 1), .int 0, .int 0, .int 0, .int 0, .long 0, .int 0, .int 0, .int 0]))).1 = n + 2 := hn
  replace hs : (ax_put h3 a (.inr (9, [.int 0, .null, .null, .null, .null, .ref n, .ref (n + 1), .int 0, .int 0, .int 0, .int 0, .long 0, .int 0, .int 0, .int 0]))).2.1 = sl + 296 := hs
  generalize ax_put h3 a (.inr (9, [.int 0, .null, .null, .null, .null, .ref n, .ref (n + 1), .int 0, .int 0, .int 0, .int 0, .long 0, .int 0, .int 0, .int 0])) = h4 at hF hf hn hs ⊢
  refine ar_aload_n 22 d_16_21 rfl rfl ?_
  refine ar_iload_n 23 d_16_22 rfl rfl ?_
  refine ar_putf 26 [.int me, .null, .null, .null, .null, .ref n, .ref (n + 1), .int 0, .int 0, .int 0, .int 0, .long 0, .int 0, .int 0, .int 0] d_16_23 rfl (ci := 9) (k := 0) rfl (by decide +kernel) (hF.at 0 rfl) (Nat.le_of_ble_eq_true rfl) rfl rfl rfl ?_
  replace hF : ax_hs (ax_put h4 a (.inr (9, [.int me, .null, .null, .null, .null, .ref n, .ref (n + 1), .int 0, .int 0, .int 0, .int 0, .long 0, .int 0, .int 0, .int 0]))) [(a, .inr (9, [.int me, .null, .null, .null, .null, .ref n, .ref (n + 1), .int 0, .int 0, .int 0, .int 0, .long 0, .int 0, .int 0, .int 0])), (rk, .inr (3, [.int N, .int C, .int G, .ref ro])), (n, .inl (0, 16, .inl (fun _ => 0))), (n + 1, .inl (0, 280, .inl (fun _ => 0)))] := hF.put 0 _ rfl rfl
  replace hf := hf.put (a := a) (c := .inr (9, [.int me, .null, .null, .null, .null, .ref n, .ref (n + 1), .int 0, .int 0, .int 0, .int 0, .long 0, .int 0, .int 0, .int 0])) (by simp)
  replace hn : (ax_put h4 a (.inr (9, [.int me, .null, .null, .null, .null, .ref n, .ref (n + 1), .int 0, .int 0, .int 0, .int 0, .long 0, .int 0, .int 0, .int 0]))).1 = n + 2 := hn
  replace hs : (ax_put h4 a (.inr (9, [.int me, .null, .null, .null, .null, .ref n, .ref (n + 1), .int 0, .int 0, .int 0, .int 0, .long 0, .int 0, .int 0, .int 0]))).2.1 = sl + 296 := hs
  generalize ax_put h4 a (.inr (9, [.int me, .null, .null, .null, .null, .ref n, .ref (n + 1), .int 0, .int 0, .int 0, .int 0, .long 0, .int 0, .int 0, .int 0])) = h5 at hF hf hn hs ⊢
  refine ar_aload_n 27 d_16_26 rfl rfl ?_
  refine ar_aload_n 28 d_16_27 rfl rfl ?_
  refine ar_putf 31 [.int me, .ref rk, .null, .null, .null, .ref n, .ref (n + 1), .int 0, .int 0, .int 0, .int 0, .long 0, .int 0, .int 0, .int 0] d_16_28 rfl (ci := 9) (k := 1) rfl (by decide +kernel) (hF.at 0 rfl) (Nat.le_of_ble_eq_true rfl) rfl rfl rfl ?_
  replace hF : ax_hs (ax_put h5 a (.inr (9, [.int me, .ref rk, .null, .null, .null, .ref n, .ref (n + 1), .int 0, .int 0, .int 0, .int 0, .long 0, .int 0, .int 0, .int 0]))) [(a, .inr (9, [.int me, .ref rk, .null, .null, .null, .ref n, .ref (n + 1), .int 0, .int 0, .int 0, .int 0, .long 0, .int 0, .int 0, .int 0])), (rk, .inr (3, [.int N, .int C, .int G, .ref ro])), (n, .inl (0, 16, .inl (fun _ => 0))), (n + 1, .inl (0, 280, .inl (fun _ => 0)))] := hF.put 0 _ rfl rfl
  replace hf := hf.put (a := a) (c := .inr (9, [.int me, .ref rk, .null, .null, .null, .ref n, .ref (n + 1), .int 0, .int 0, .int 0, .int 0, .long 0, .int 0, .int 0, .int 0])) (by simp)
  replace hn : (ax_put h5 a (.inr (9, [.int me, .ref rk, .null, .null, .null, .ref n, .ref (n + 1), .int 0, .int 0, .int 0, .int 0, .long 0, .int 0, .int 0, .int 0]))).1 = n + 2 := hn
  replace hs : (ax_put h5 a (.inr (9, [.int me, .ref rk, .null, .null, .null, .ref n, .ref (n + 1), .int 0, .int 0, .int 0, .int 0, .long 0, .int 0, .int 0, .int 0]))).2.1 = sl + 296 := hs
  generalize ax_put h5 a (.inr (9, [.int me, .ref rk, .null, .null, .null, .ref n, .ref (n + 1), .int 0, .int 0, .int 0, .int 0, .long 0, .int 0, .int 0, .int 0])) = h6 at hF hf hn hs ⊢
  refine ar_aload_n 32 d_16_31 rfl rfl ?_
  refine ar_aload_n 33 d_16_32 rfl rfl ?_
  refine ar_putf 36 [.int me, .ref rk, .ref nt, .null, .null, .ref n, .ref (n + 1), .int 0, .int 0, .int 0, .int 0, .long 0, .int 0, .int 0, .int 0] d_16_33 rfl (ci := 9) (k := 2) rfl (by decide +kernel) (hF.at 0 rfl) (Nat.le_of_ble_eq_true rfl) rfl rfl rfl ?_
  replace hF : ax_hs (ax_put h6 a (.inr (9, [.int me, .ref rk, .ref nt, .null, .null, .ref n, .ref (n + 1), .int 0, .int 0, .int 0, .int 0, .long 0, .int 0, .int 0, .int 0]))) [(a, .inr (9, [.int me, .ref rk, .ref nt, .null, .null, .ref n, .ref (n + 1), .int 0, .int 0, .int 0, .int 0, .long 0, .int 0, .int 0, .int 0])), (rk, .inr (3, [.int N, .int C, .int G, .ref ro])), (n, .inl (0, 16, .inl (fun _ => 0))), (n + 1, .inl (0, 280, .inl (fun _ => 0)))] := hF.put 0 _ rfl rfl
  replace hf := hf.put (a := a) (c := .inr (9, [.int me, .ref rk, .ref nt, .null, .null, .ref n, .ref (n + 1), .int 0, .int 0, .int 0, .int 0, .long 0, .int 0, .int 0, .int 0])) (by simp)
  replace hn : (ax_put h6 a (.inr (9, [.int me, .ref rk, .ref nt, .null, .null, .ref n, .ref (n + 1), .int 0, .int 0, .int 0, .int 0, .long 0, .int 0, .int 0, .int 0]))).1 = n + 2 := hn
  replace hs : (ax_put h6 a (.inr (9, [.int me, .ref rk, .ref nt, .null, .null, .ref n, .ref (n + 1), .int 0, .int 0, .int 0, .int 0, .long 0, .int 0, .int 0, .int 0]))).2.1 = sl + 296 := hs
  generalize ax_put h6 a (.inr (9, [.int me, .ref rk, .ref nt, .null, .null, .ref n, .ref (n + 1), .int 0, .int 0, .int 0, .int 0, .long 0, .int 0, .int 0, .int 0])) = h7 at hF hf hn hs ⊢
  refine ar_aload_n 37 d_16_36 rfl rfl ?_
  refine ar_new 40 d_16_37 rfl (ci := 6) rfl ?_
  rw [hn]
  refine ar_heap (h' := ax_push h7 11 (.inr (6, [.int 0, .null, .null, .null, .null, .null, .null, .null, .long 0, .int 0, .int 0]))) rfl ?_
  replace hF : ax_hs (ax_push h7 11 (.inr (6, [.int 0, .null, .null, .null, .null, .null, .null, .null, .long 0, .int 0, .int 0]))) [(a, .inr (9, [.int me, .ref rk, .ref nt, .null, .null, .ref n, .ref (n + 1), .int 0, .int 0, .int 0, .int 0, .long 0, .int 0, .int 0, .int 0])), (rk, .inr (3, [.int N, .int C, .int G, .ref ro])), (n, .inl (0, 16, .inl (fun _ => 0))), (n + 1, .inl (0, 280, .inl (fun _ => 0))), (n + 2, .inr (6, [.int 0, .null, .null, .null, .null, .null, .null, .null, .long 0, .int 0, .int 0]))] := hF.push (by omega) 11 _ (by rw [hn]; rfl)
  replace hf := hf.push (n := 11) (c := .inr (6, [.int 0, .null, .null, .null, .null, .null, .null, .null, .long 0, .int 0, .int 0]))
  replace hn : (ax_push h7 11 (.inr (6, [.int 0, .null, .null, .null, .null, .null, .null, .null, .long 0, .int 0, .int 0]))).1 = n + 3 := by show h7.1 + 1 = _; rw [hn]
  replace hs : (ax_push h7 11 (.inr (6, [.int 0, .null, .null, .null, .null, .null, .null, .null, .long 0, .int 0, .int 0]))).2.1 = sl + 307 := by show h7.2.1 + 11 = _; omega
  generalize ax_push h7 11 (.inr (6, [.int 0, .null, .null, .null, .null, .null, .null, .null, .long 0, .int 0, .int 0])) = h8 at hF hf hn hs ⊢
  refine ar_dup 41 d_16_40 rfl rfl ?_
  refine ar_aload_n 42 d_16_41 rfl rfl ?_
  refine ar_getf 45 d_16_42 rfl (ci := 3) (k := 2) rfl (hF.at 1 rfl) rfl ?_
  refine ar_call (r := [.ref (n + 2), .ref a]) (na := 0) (kd := 0) (cm := 11) (fr2 := fr - 1) (lo2 := lo - 21) 48 d_16_45 (ar_hoI (as := [.int G]) rfl rfl rfl) rfl (by omega) (show lo - 21 + (19 + 2) = lo by omega) (Nat.le_of_ble_eq_true rfl) (Nat.le_of_ble_eq_true rfl) (c_11 (by omega) (by omega) (hF.sub (F' := [(n + 2, .inr (6, [.int 0, .null, .null, .null, .null, .null, .null, .null, .long 0, .int 0, .int 0]))]) [4] rfl rfl) hn hs (by omega)) ?_
  intro v h9 hq
  obtain ⟨rfl, qF, qn, qs, qf⟩ := hq
  have qF : ax_hs h9 [(n + 2, .inr (6, [.int G, .ref (n + 3), .ref (n + 4), .ref (n + 5), .ref (n + 6), .ref (n + 7), .ref (n + 8), .ref (n + 9), .long 0, .int 0, .int 0])), (n + 3, .inl (0, 48, .inl (ax_fill (fun _ => 0) 0 48 (-1)))), (n + 4, .inl (0, 48, .inl (ax_fill (fun _ => 0) 0 48 0))), (n + 5, .inl (0, 48, .inl (fun _ => 0))), (n + 6, .inl (0, 2400, .inl (fun _ => 0))), (n + 7, .inl (0, 512, .inl (ax_fill (fun _ => 0) 0 512 (-1)))), (n + 8, .inl (0, 961, .inl (ax_fill (fun _ => 0) 0 961 (-1)))), (n + 9, .inl (0, 961, .inl (ax_fill (fun _ => 0) 0 961 0)))] := qF
  replace hF : ax_hs h9 [(a, .inr (9, [.int me, .ref rk, .ref nt, .null, .null, .ref n, .ref (n + 1), .int 0, .int 0, .int 0, .int 0, .long 0, .int 0, .int 0, .int 0])), (rk, .inr (3, [.int N, .int C, .int G, .ref ro])), (n, .inl (0, 16, .inl (fun _ => 0))), (n + 1, .inl (0, 280, .inl (fun _ => 0))), (n + 2, .inr (6, [.int G, .ref (n + 3), .ref (n + 4), .ref (n + 5), .ref (n + 6), .ref (n + 7), .ref (n + 8), .ref (n + 9), .long 0, .int 0, .int 0])), (n + 3, .inl (0, 48, .inl (ax_fill (fun _ => 0) 0 48 (-1)))), (n + 4, .inl (0, 48, .inl (ax_fill (fun _ => 0) 0 48 0))), (n + 5, .inl (0, 48, .inl (fun _ => 0))), (n + 6, .inl (0, 2400, .inl (fun _ => 0))), (n + 7, .inl (0, 512, .inl (ax_fill (fun _ => 0) 0 512 (-1)))), (n + 8, .inl (0, 961, .inl (ax_fill (fun _ => 0) 0 961 (-1)))), (n + 9, .inl (0, 961, .inl (ax_fill (fun _ => 0) 0 961 0)))] := ax_hs.call (rest := [(a, .inr (9, [.int me, .ref rk, .ref nt, .null, .null, .ref n, .ref (n + 1), .int 0, .int 0, .int 0, .int 0, .long 0, .int 0, .int 0, .int 0])), (rk, .inr (3, [.int N, .int C, .int G, .ref ro])), (n, .inl (0, 16, .inl (fun _ => 0))), (n + 1, .inl (0, 280, .inl (fun _ => 0)))]) [4] [0, 1, 2, 3] hF qf qF rfl rfl rfl [4] rfl rfl [4] (news := [n + 3, n + 4, n + 5, n + 6, n + 7, n + 8, n + 9]) rfl rfl (by rw [hn]; simp; try omega) rfl
  replace hf := hf.trC qf (by intro x hx hB; simp at hB; first | (rcases hB with rfl <;> first | omega | simp) | omega | simp [hB])
  replace hn : h9.1 = n + 10 := by omega
  replace hs : h9.2.1 = sl + 5285 := by omega
  clear qF qn qs qf
  refine ar_putf 51 [.int me, .ref rk, .ref nt, .ref (n + 2), .null, .ref n, .ref (n + 1), .int 0, .int 0, .int 0, .int 0, .long 0, .int 0, .int 0, .int 0] d_16_48 rfl (ci := 9) (k := 3) rfl (by decide +kernel) (hF.at 0 rfl) (Nat.le_of_ble_eq_true rfl) rfl rfl rfl ?_
  replace hF : ax_hs (ax_put h9 a (.inr (9, [.int me, .ref rk, .ref nt, .ref (n + 2), .null, .ref n, .ref (n + 1), .int 0, .int 0, .int 0, .int 0, .long 0, .int 0, .int 0, .int 0]))) [(a, .inr (9, [.int me, .ref rk, .ref nt, .ref (n + 2), .null, .ref n, .ref (n + 1), .int 0, .int 0, .int 0, .int 0, .long 0, .int 0, .int 0, .int 0])), (rk, .inr (3, [.int N, .int C, .int G, .ref ro])), (n, .inl (0, 16, .inl (fun _ => 0))), (n + 1, .inl (0, 280, .inl (fun _ => 0))), (n + 2, .inr (6, [.int G, .ref (n + 3), .ref (n + 4), .ref (n + 5), .ref (n + 6), .ref (n + 7), .ref (n + 8), .ref (n + 9), .long 0, .int 0, .int 0])), (n + 3, .inl (0, 48, .inl (ax_fill (fun _ => 0) 0 48 (-1)))), (n + 4, .inl (0, 48, .inl (ax_fill (fun _ => 0) 0 48 0))), (n + 5, .inl (0, 48, .inl (fun _ => 0))), (n + 6, .inl (0, 2400, .inl (fun _ => 0))), (n + 7, .inl (0, 512, .inl (ax_fill (fun _ => 0) 0 512 (-1)))), (n + 8, .inl (0, 961, .inl (ax_fill (fun _ => 0) 0 961 (-1)))), (n + 9, .inl (0, 961, .inl (ax_fill (fun _ => 0) 0 961 0)))] := hF.put 0 _ rfl rfl
  replace hf := hf.put (a := a) (c := .inr (9, [.int me, .ref rk, .ref nt, .ref (n + 2), .null, .ref n, .ref (n + 1), .int 0, .int 0, .int 0, .int 0, .long 0, .int 0, .int 0, .int 0])) (by simp)
  replace hn : (ax_put h9 a (.inr (9, [.int me, .ref rk, .ref nt, .ref (n + 2), .null, .ref n, .ref (n + 1), .int 0, .int 0, .int 0, .int 0, .long 0, .int 0, .int 0, .int 0]))).1 = n + 10 := hn
  replace hs : (ax_put h9 a (.inr (9, [.int me, .ref rk, .ref nt, .ref (n + 2), .null, .ref n, .ref (n + 1), .int 0, .int 0, .int 0, .int 0, .long 0, .int 0, .int 0, .int 0]))).2.1 = sl + 5285 := hs
  generalize ax_put h9 a (.inr (9, [.int me, .ref rk, .ref nt, .ref (n + 2), .null, .ref n, .ref (n + 1), .int 0, .int 0, .int 0, .int 0, .long 0, .int 0, .int 0, .int 0])) = h10 at hF hf hn hs ⊢
  refine ar_aload_n 52 d_16_51 rfl rfl ?_
  refine ar_new 55 d_16_52 rfl (ci := 10) rfl ?_
  rw [hn]
  refine ar_heap (h' := ax_push h10 15 (.inr (10, [.null, .null, .null, .int 0, .int 0, .int 0, .int 0, .int 0, .int 0, .int 0, .int 0, .int 0, .int 0, .int 0, .int 0]))) rfl ?_
  replace hF : ax_hs (ax_push h10 15 (.inr (10, [.null, .null, .null, .int 0, .int 0, .int 0, .int 0, .int 0, .int 0, .int 0, .int 0, .int 0, .int 0, .int 0, .int 0]))) [(a, .inr (9, [.int me, .ref rk, .ref nt, .ref (n + 2), .null, .ref n, .ref (n + 1), .int 0, .int 0, .int 0, .int 0, .long 0, .int 0, .int 0, .int 0])), (rk, .inr (3, [.int N, .int C, .int G, .ref ro])), (n, .inl (0, 16, .inl (fun _ => 0))), (n + 1, .inl (0, 280, .inl (fun _ => 0))), (n + 2, .inr (6, [.int G, .ref (n + 3), .ref (n + 4), .ref (n + 5), .ref (n + 6), .ref (n + 7), .ref (n + 8), .ref (n + 9), .long 0, .int 0, .int 0])), (n + 3, .inl (0, 48, .inl (ax_fill (fun _ => 0) 0 48 (-1)))), (n + 4, .inl (0, 48, .inl (ax_fill (fun _ => 0) 0 48 0))), (n + 5, .inl (0, 48, .inl (fun _ => 0))), (n + 6, .inl (0, 2400, .inl (fun _ => 0))), (n + 7, .inl (0, 512, .inl (ax_fill (fun _ => 0) 0 512 (-1)))), (n + 8, .inl (0, 961, .inl (ax_fill (fun _ => 0) 0 961 (-1)))), (n + 9, .inl (0, 961, .inl (ax_fill (fun _ => 0) 0 961 0))), (n + 10, .inr (10, [.null, .null, .null, .int 0, .int 0, .int 0, .int 0, .int 0, .int 0, .int 0, .int 0, .int 0, .int 0, .int 0, .int 0]))] := hF.push (by omega) 15 _ (by rw [hn]; rfl)
  replace hf := hf.push (n := 15) (c := .inr (10, [.null, .null, .null, .int 0, .int 0, .int 0, .int 0, .int 0, .int 0, .int 0, .int 0, .int 0, .int 0, .int 0, .int 0]))
  replace hn : (ax_push h10 15 (.inr (10, [.null, .null, .null, .int 0, .int 0, .int 0, .int 0, .int 0, .int 0, .int 0, .int 0, .int 0, .int 0, .int 0, .int 0]))).1 = n + 11 := by show h10.1 + 1 = _; rw [hn]
  replace hs : (ax_push h10 15 (.inr (10, [.null, .null, .null, .int 0, .int 0, .int 0, .int 0, .int 0, .int 0, .int 0, .int 0, .int 0, .int 0, .int 0, .int 0]))).2.1 = sl + 5300 := by show h10.2.1 + 15 = _; omega
  generalize ax_push h10 15 (.inr (10, [.null, .null, .null, .int 0, .int 0, .int 0, .int 0, .int 0, .int 0, .int 0, .int 0, .int 0, .int 0, .int 0, .int 0])) = h11 at hF hf hn hs ⊢
  refine ar_dup 56 d_16_55 rfl rfl ?_
  refine ar_aload_n 57 d_16_56 rfl rfl ?_
  refine ar_getf 60 d_16_57 rfl (ci := 9) (k := 3) rfl (hF.at 0 rfl) rfl ?_
  refine ar_call (r := [.ref (n + 10), .ref a]) (na := 0) (kd := 0) (cm := 17) (fr2 := fr - 1) (lo2 := lo - 21) 63 d_16_60 (ar_hoI (as := [.ref (n + 2)]) rfl rfl rfl) rfl (by omega) (show lo - 21 + (19 + 2) = lo by omega) (Nat.le_of_ble_eq_true rfl) (Nat.le_of_ble_eq_true rfl) (c_17 (by omega) (by omega) (hF.sub (F' := [(n + 10, .inr (10, [.null, .null, .null, .int 0, .int 0, .int 0, .int 0, .int 0, .int 0, .int 0, .int 0, .int 0, .int 0, .int 0, .int 0]))]) [12] rfl rfl) hn hs (by omega)) ?_
  intro v h12 hq
  obtain ⟨rfl, qF, qn, qs, qf⟩ := hq
  have qF : ax_hs h12 [(n + 10, .inr (10, [.ref (n + 2), .ref (n + 11), .ref (n + 13), .int 0, .int (-1), .int 0, .int 0, .int 0, .int 0, .int 0, .int 0, .int 0, .int 0, .int 0, .int 0])), (n + 11, .inr (5, [.int 0, .int 0, .int 0, .int 0, .int 0, .int 0, .int 0, .ref (n + 12)])), (n + 12, .inl (0, 612, .inl (fun _ => 0))), (n + 13, .inl (0, 1152, .inl (fun _ => 0)))] := qF
  replace hF : ax_hs h12 [(a, .inr (9, [.int me, .ref rk, .ref nt, .ref (n + 2), .null, .ref n, .ref (n + 1), .int 0, .int 0, .int 0, .int 0, .long 0, .int 0, .int 0, .int 0])), (rk, .inr (3, [.int N, .int C, .int G, .ref ro])), (n, .inl (0, 16, .inl (fun _ => 0))), (n + 1, .inl (0, 280, .inl (fun _ => 0))), (n + 2, .inr (6, [.int G, .ref (n + 3), .ref (n + 4), .ref (n + 5), .ref (n + 6), .ref (n + 7), .ref (n + 8), .ref (n + 9), .long 0, .int 0, .int 0])), (n + 3, .inl (0, 48, .inl (ax_fill (fun _ => 0) 0 48 (-1)))), (n + 4, .inl (0, 48, .inl (ax_fill (fun _ => 0) 0 48 0))), (n + 5, .inl (0, 48, .inl (fun _ => 0))), (n + 6, .inl (0, 2400, .inl (fun _ => 0))), (n + 7, .inl (0, 512, .inl (ax_fill (fun _ => 0) 0 512 (-1)))), (n + 8, .inl (0, 961, .inl (ax_fill (fun _ => 0) 0 961 (-1)))), (n + 9, .inl (0, 961, .inl (ax_fill (fun _ => 0) 0 961 0))), (n + 10, .inr (10, [.ref (n + 2), .ref (n + 11), .ref (n + 13), .int 0, .int (-1), .int 0, .int 0, .int 0, .int 0, .int 0, .int 0, .int 0, .int 0, .int 0, .int 0])), (n + 11, .inr (5, [.int 0, .int 0, .int 0, .int 0, .int 0, .int 0, .int 0, .ref (n + 12)])), (n + 12, .inl (0, 612, .inl (fun _ => 0))), (n + 13, .inl (0, 1152, .inl (fun _ => 0)))] := ax_hs.call (rest := [(a, .inr (9, [.int me, .ref rk, .ref nt, .ref (n + 2), .null, .ref n, .ref (n + 1), .int 0, .int 0, .int 0, .int 0, .long 0, .int 0, .int 0, .int 0])), (rk, .inr (3, [.int N, .int C, .int G, .ref ro])), (n, .inl (0, 16, .inl (fun _ => 0))), (n + 1, .inl (0, 280, .inl (fun _ => 0))), (n + 2, .inr (6, [.int G, .ref (n + 3), .ref (n + 4), .ref (n + 5), .ref (n + 6), .ref (n + 7), .ref (n + 8), .ref (n + 9), .long 0, .int 0, .int 0])), (n + 3, .inl (0, 48, .inl (ax_fill (fun _ => 0) 0 48 (-1)))), (n + 4, .inl (0, 48, .inl (ax_fill (fun _ => 0) 0 48 0))), (n + 5, .inl (0, 48, .inl (fun _ => 0))), (n + 6, .inl (0, 2400, .inl (fun _ => 0))), (n + 7, .inl (0, 512, .inl (ax_fill (fun _ => 0) 0 512 (-1)))), (n + 8, .inl (0, 961, .inl (ax_fill (fun _ => 0) 0 961 (-1)))), (n + 9, .inl (0, 961, .inl (ax_fill (fun _ => 0) 0 961 0)))]) [12] [0, 1, 2, 3, 4, 5, 6, 7, 8, 9, 10, 11] hF qf qF rfl rfl rfl [12] rfl rfl [12] (news := [n + 11, n + 12, n + 13]) rfl rfl (by rw [hn]; simp; try omega) rfl
  replace hf := hf.trC qf (by intro x hx hB; simp at hB; first | (rcases hB with rfl <;> first | omega | simp) | omega | simp [hB])
  replace hn : h12.1 = n + 14 := by omega
  replace hs : h12.2.1 = sl + 7072 := by omega
  clear qF qn qs qf
  refine ar_putf 66 [.int me, .ref rk, .ref nt, .ref (n + 2), .ref (n + 10), .ref n, .ref (n + 1), .int 0, .int 0, .int 0, .int 0, .long 0, .int 0, .int 0, .int 0] d_16_63 rfl (ci := 9) (k := 4) rfl (by decide +kernel) (hF.at 0 rfl) (Nat.le_of_ble_eq_true rfl) rfl rfl rfl ?_
  replace hF : ax_hs (ax_put h12 a (.inr (9, [.int me, .ref rk, .ref nt, .ref (n + 2), .ref (n + 10), .ref n, .ref (n + 1), .int 0, .int 0, .int 0, .int 0, .long 0, .int 0, .int 0, .int 0]))) [(a, .inr (9, [.int me, .ref rk, .ref nt, .ref (n + 2), .ref (n + 10), .ref n, .ref (n + 1), .int 0, .int 0, .int 0, .int 0, .long 0, .int 0, .int 0, .int 0])), (rk, .inr (3, [.int N, .int C, .int G, .ref ro])), (n, .inl (0, 16, .inl (fun _ => 0))), (n + 1, .inl (0, 280, .inl (fun _ => 0))), (n + 2, .inr (6, [.int G, .ref (n + 3), .ref (n + 4), .ref (n + 5), .ref (n + 6), .ref (n + 7), .ref (n + 8), .ref (n + 9), .long 0, .int 0, .int 0])), (n + 3, .inl (0, 48, .inl (ax_fill (fun _ => 0) 0 48 (-1)))), (n + 4, .inl (0, 48, .inl (ax_fill (fun _ => 0) 0 48 0))), (n + 5, .inl (0, 48, .inl (fun _ => 0))), (n + 6, .inl (0, 2400, .inl (fun _ => 0))), (n + 7, .inl (0, 512, .inl (ax_fill (fun _ => 0) 0 512 (-1)))), (n + 8, .inl (0, 961, .inl (ax_fill (fun _ => 0) 0 961 (-1)))), (n + 9, .inl (0, 961, .inl (ax_fill (fun _ => 0) 0 961 0))), (n + 10, .inr (10, [.ref (n + 2), .ref (n + 11), .ref (n + 13), .int 0, .int (-1), .int 0, .int 0, .int 0, .int 0, .int 0, .int 0, .int 0, .int 0, .int 0, .int 0])), (n + 11, .inr (5, [.int 0, .int 0, .int 0, .int 0, .int 0, .int 0, .int 0, .ref (n + 12)])), (n + 12, .inl (0, 612, .inl (fun _ => 0))), (n + 13, .inl (0, 1152, .inl (fun _ => 0)))] := hF.put 0 _ rfl rfl
  replace hf := hf.put (a := a) (c := .inr (9, [.int me, .ref rk, .ref nt, .ref (n + 2), .ref (n + 10), .ref n, .ref (n + 1), .int 0, .int 0, .int 0, .int 0, .long 0, .int 0, .int 0, .int 0])) (by simp)
  replace hn : (ax_put h12 a (.inr (9, [.int me, .ref rk, .ref nt, .ref (n + 2), .ref (n + 10), .ref n, .ref (n + 1), .int 0, .int 0, .int 0, .int 0, .long 0, .int 0, .int 0, .int 0]))).1 = n + 14 := hn
  replace hs : (ax_put h12 a (.inr (9, [.int me, .ref rk, .ref nt, .ref (n + 2), .ref (n + 10), .ref n, .ref (n + 1), .int 0, .int 0, .int 0, .int 0, .long 0, .int 0, .int 0, .int 0]))).2.1 = sl + 7072 := hs
  generalize ax_put h12 a (.inr (9, [.int me, .ref rk, .ref nt, .ref (n + 2), .ref (n + 10), .ref n, .ref (n + 1), .int 0, .int 0, .int 0, .int 0, .long 0, .int 0, .int 0, .int 0])) = h13 at hF hf hn hs ⊢
  have hF := hF.sub (F' := [(rk, .inr (3, [.int N, .int C, .int G, .ref ro])), (a, .inr (9, [.int me, .ref rk, .ref nt, .ref (n + 2), .ref (n + 10), .ref n, .ref (n + 1), .int 0, .int 0, .int 0, .int 0, .long 0, .int 0, .int 0, .int 0])), (n, .inl (0, 16, .inl (fun _ => 0))), (n + 1, .inl (0, 280, .inl (fun _ => 0))), (n + 2, .inr (6, [.int G, .ref (n + 3), .ref (n + 4), .ref (n + 5), .ref (n + 6), .ref (n + 7), .ref (n + 8), .ref (n + 9), .long 0, .int 0, .int 0])), (n + 3, .inl (0, 48, .inl (ax_fill (fun _ => 0) 0 48 (-1)))), (n + 4, .inl (0, 48, .inl (ax_fill (fun _ => 0) 0 48 0))), (n + 5, .inl (0, 48, .inl (fun _ => 0))), (n + 6, .inl (0, 2400, .inl (fun _ => 0))), (n + 7, .inl (0, 512, .inl (ax_fill (fun _ => 0) 0 512 (-1)))), (n + 8, .inl (0, 961, .inl (ax_fill (fun _ => 0) 0 961 (-1)))), (n + 9, .inl (0, 961, .inl (ax_fill (fun _ => 0) 0 961 0))), (n + 10, .inr (10, [.ref (n + 2), .ref (n + 11), .ref (n + 13), .int 0, .int (-1), .int 0, .int 0, .int 0, .int 0, .int 0, .int 0, .int 0, .int 0, .int 0, .int 0])), (n + 11, .inr (5, [.int 0, .int 0, .int 0, .int 0, .int 0, .int 0, .int 0, .ref (n + 12)])), (n + 12, .inl (0, 612, .inl (fun _ => 0))), (n + 13, .inl (0, 1152, .inl (fun _ => 0)))]) [1, 0, 2, 3, 4, 5, 6, 7, 8, 9, 10, 11, 12, 13, 14, 15] rfl rfl
  exact ar_ret d_16_66 rfl (⟨rfl, hF, hn, hs, hf⟩)
set_option maxRecDepth 100000 in
theorem c_14 {L : Nat} {xs : Nat → Int32} {fr lo : Nat} {h : ax_H} {n sl : Nat} {a rk nt ro : Nat} {me N C G : Int32} (hfr : 4 ≤ fr) (hlo : 87 ≤ lo) (hF : ax_hs h [(a, .inr (7, [.int 0, .null, .null, .null, .null, .null, .int 0, .int 0, .int 0])), (rk, .inr (3, [.int N, .int C, .int G, .ref ro]))]) (hn : h.1 = n) (hs : h.2.1 = sl) (hn0 : 0 < n) : ax_M L xs 14 fr lo [.ref a, .int me, .ref rk, .ref nt] h (fun r h' => r = none ∧ ax_hs h' [(rk, .inr (3, [.int N, .int C, .int G, .ref ro])), (a, .inr (7, [.int me, .ref rk, .ref nt, .ref n, .ref (n + 6), .ref (n + 5), .int 0, .int 0, .int 0])), (n, .inr (8, [.ref (n + 1), .ref (n + 2), .ref (n + 3), .ref (n + 4), .int 0])), (n + 1, .inl (0, 35840, .inl (fun _ => 0))), (n + 2, .inl (0, 4096, .inl (fun _ => 0))), (n + 3, .inl (0, 32, .inl (fun _ => 0))), (n + 4, .inl (0, 280, .inl (ax_fill (fun _ => 0) 0 280 (-1)))), (n + 5, .inl (0, 280, .inl (ax_fill (fun _ => 0) 0 280 (-1)))), (n + 6, .inr (9, [.int me, .ref rk, .ref nt, .ref (n + 9), .ref (n + 17), .ref (n + 7), .ref (n + 8), .int 0, .int 0, .int 0, .int 0, .long 0, .int 0, .int 0, .int 0])), (n + 7, .inl (0, 16, .inl (fun _ => 0))), (n + 8, .inl (0, 280, .inl (fun _ => 0))), (n + 9, .inr (6, [.int G, .ref (n + 10), .ref (n + 11), .ref (n + 12), .ref (n + 13), .ref (n + 14), .ref (n + 15), .ref (n + 16), .long 0, .int 0, .int 0])), (n + 10, .inl (0, 48, .inl (ax_fill (fun _ => 0) 0 48 (-1)))), (n + 11, .inl (0, 48, .inl (ax_fill (fun _ => 0) 0 48 0))), (n + 12, .inl (0, 48, .inl (fun _ => 0))), (n + 13, .inl (0, 2400, .inl (fun _ => 0))), (n + 14, .inl (0, 512, .inl (ax_fill (fun _ => 0) 0 512 (-1)))), (n + 15, .inl (0, 961, .inl (ax_fill (fun _ => 0) 0 961 (-1)))), (n + 16, .inl (0, 961, .inl (ax_fill (fun _ => 0) 0 961 0))), (n + 17, .inr (10, [.ref (n + 9), .ref (n + 18), .ref (n + 20), .int 0, .int (-1), .int 0, .int 0, .int 0, .int 0, .int 0, .int 0, .int 0, .int 0, .int 0, .int 0])), (n + 18, .inr (5, [.int 0, .int 0, .int 0, .int 0, .int 0, .int 0, .int 0, .ref (n + 19)])), (n + 19, .inl (0, 612, .inl (fun _ => 0))), (n + 20, .inl (0, 1152, .inl (fun _ => 0)))] ∧ h'.1 = n + 21 ∧ h'.2.1 = sl + 47620 ∧ ax_fr (fun x => x ∈ [a]) h h') := by
  show ax_A (ax_step L xs) ((14, 0, fr, lo), [(0, .ref a), (1, .int me), (2, .ref rk), (3, .ref nt)], [], h) _
  have hbase : h.1 = n := hn
  have hbasl : h.2.1 = sl := hs
  have hf : ax_fr (fun x => x ∈ [a]) h h := ax_fr.rf
  refine ar_aload_n 1 d_14_0 rfl rfl ?_
  refine ar_objI 4 d_14_1 rfl rfl (by omega) (by show 0 + 12 ≤ lo; omega) ?_
  refine ar_aload_n 5 d_14_4 rfl rfl ?_
  refine ar_new 8 d_14_5 rfl (ci := 8) rfl ?_
  rw [hn]
  refine ar_heap (h' := ax_push h 5 (.inr (8, [.null, .null, .null, .null, .int 0]))) rfl ?_
  replace hF : ax_hs (ax_push h 5 (.inr (8, [.null, .null, .null, .null, .int 0]))) [(a, .inr (7, [.int 0, .null, .null, .null, .null, .null, .int 0, .int 0, .int 0])), (rk, .inr (3, [.int N, .int C, .int G, .ref ro])), (n, .inr (8, [.null, .null, .null, .null, .int 0]))] := hF.push (by omega) 5 _ (by rw [hn]; rfl)
  replace hf := hf.push (n := 5) (c := .inr (8, [.null, .null, .null, .null, .int 0]))
  replace hn : (ax_push h 5 (.inr (8, [.null, .null, .null, .null, .int 0]))).1 = n + 1 := by show h.1 + 1 = _; rw [hn]
  replace hs : (ax_push h 5 (.inr (8, [.null, .null, .null, .null, .int 0]))).2.1 = sl + 5 := by show h.2.1 + 5 = _; omega
  generalize ax_push h 5 (.inr (8, [.null, .null, .null, .null, .int 0])) = h1 at hF hf hn hs ⊢
  refine ar_dup 9 d_14_8 rfl rfl ?_
  refine ar_call (r := [.ref n, .ref a]) (na := 0) (kd := 0) (cm := 15) (fr2 := fr - 1) (lo2 := lo - 20) 12 d_14_9 (ar_hoI (as := []) rfl rfl rfl) rfl (by omega) (show lo - 20 + (19 + 1) = lo by omega) (Nat.le_of_ble_eq_true rfl) (Nat.le_of_ble_eq_true rfl) (c_15 (by omega) (by omega) (hF.sub (F' := [(n, .inr (8, [.null, .null, .null, .null, .int 0]))]) [2] rfl rfl) hn hs (by omega)) ?_
  intro v h2 hq
  obtain ⟨rfl, qF, qn, qs, qf⟩ := hq
  have qF : ax_hs h2 [(n, .inr (8, [.ref (n + 1), .ref (n + 2), .ref (n + 3), .ref (n + 4), .int 0])), (n + 1, .inl (0, 35840, .inl (fun _ => 0))), (n + 2, .inl (0, 4096, .inl (fun _ => 0))), (n + 3, .inl (0, 32, .inl (fun _ => 0))), (n + 4, .inl (0, 280, .inl (ax_fill (fun _ => 0) 0 280 (-1))))] := qF
  replace hF : ax_hs h2 [(a, .inr (7, [.int 0, .null, .null, .null, .null, .null, .int 0, .int 0, .int 0])), (rk, .inr (3, [.int N, .int C, .int G, .ref ro])), (n, .inr (8, [.ref (n + 1), .ref (n + 2), .ref (n + 3), .ref (n + 4), .int 0])), (n + 1, .inl (0, 35840, .inl (fun _ => 0))), (n + 2, .inl (0, 4096, .inl (fun _ => 0))), (n + 3, .inl (0, 32, .inl (fun _ => 0))), (n + 4, .inl (0, 280, .inl (ax_fill (fun _ => 0) 0 280 (-1))))] := ax_hs.call (rest := [(a, .inr (7, [.int 0, .null, .null, .null, .null, .null, .int 0, .int 0, .int 0])), (rk, .inr (3, [.int N, .int C, .int G, .ref ro]))]) [2] [0, 1] hF qf qF rfl rfl rfl [2] rfl rfl [2] (news := [n + 1, n + 2, n + 3, n + 4]) rfl rfl (by rw [hn]; simp; try omega) rfl
  replace hf := hf.trC qf (by intro x hx hB; simp at hB; first | (rcases hB with rfl <;> first | omega | simp) | omega | simp [hB])
  replace hn : h2.1 = n + 5 := by omega
  replace hs : h2.2.1 = sl + 40253 := by omega
  clear qF qn qs qf
  refine ar_putf 15 [.int 0, .null, .null, .ref n, .null, .null, .int 0, .int 0, .int 0] d_14_12 rfl (ci := 7) (k := 3) rfl (by decide +kernel) (hF.at 0 rfl) (Nat.le_of_ble_eq_true rfl) rfl rfl rfl ?_
  replace hF : ax_hs (ax_put h2 a (.inr (7, [.int 0, .null, .null, .ref n, .null, .null, .int 0, .int 0, .int 0]))) [(a, .inr (7, [.int 0, .null, .null, .ref n, .null, .null, .int 0, .int 0, .int 0])), (rk, .inr (3, [.int N, .int C, .int G, .ref ro])), (n, .inr (8, [.ref (n + 1), .ref (n + 2), .ref (n + 3), .ref (n + 4), .int 0])), (n + 1, .inl (0, 35840, .inl (fun _ => 0))), (n + 2, .inl (0, 4096, .inl (fun _ => 0))), (n + 3, .inl (0, 32, .inl (fun _ => 0))), (n + 4, .inl (0, 280, .inl (ax_fill (fun _ => 0) 0 280 (-1))))] := hF.put 0 _ rfl rfl
  replace hf := hf.put (a := a) (c := .inr (7, [.int 0, .null, .null, .ref n, .null, .null, .int 0, .int 0, .int 0])) (by simp)
  replace hn : (ax_put h2 a (.inr (7, [.int 0, .null, .null, .ref n, .null, .null, .int 0, .int 0, .int 0]))).1 = n + 5 := hn
  replace hs : (ax_put h2 a (.inr (7, [.int 0, .null, .null, .ref n, .null, .null, .int 0, .int 0, .int 0]))).2.1 = sl + 40253 := hs
  generalize ax_put h2 a (.inr (7, [.int 0, .null, .null, .ref n, .null, .null, .int 0, .int 0, .int 0])) = h3 at hF hf hn hs ⊢
  refine ar_aload_n 16 d_14_15 rfl rfl ?_
  refine ar_sipush 19 (v := 280) d_14_16 rfl (by decide) ?_
  refine ar_newi 21 d_14_19 rfl (by decide) (N := 280) (by decide) (by decide) ?_
  rw [hn]
  replace hF : ax_hs (ax_push h3 280 (.inl (0, 280, .inl (fun _ => 0)))) [(a, .inr (7, [.int 0, .null, .null, .ref n, .null, .null, .int 0, .int 0, .int 0])), (rk, .inr (3, [.int N, .int C, .int G, .ref ro])), (n, .inr (8, [.ref (n + 1), .ref (n + 2), .ref (n + 3), .ref (n + 4), .int 0])), (n + 1, .inl (0, 35840, .inl (fun _ => 0))), (n + 2, .inl (0, 4096, .inl (fun _ => 0))), (n + 3, .inl (0, 32, .inl (fun _ => 0))), (n + 4, .inl (0, 280, .inl (ax_fill (fun _ => 0) 0 280 (-1)))), (n + 5, .inl (0, 280, .inl (fun _ => 0)))] := hF.push (by omega) 280 _ (by rw [hn]; rfl)
  replace hf := hf.push (n := 280) (c := .inl (0, 280, .inl (fun _ => 0)))
  replace hn : (ax_push h3 280 (.inl (0, 280, .inl (fun _ => 0)))).1 = n + 6 := by show h3.1 + 1 = _; rw [hn]
  replace hs : (ax_push h3 280 (.inl (0, 280, .inl (fun _ => 0)))).2.1 = sl + 40533 := by show h3.2.1 + 280 = _; omega
  generalize ax_push h3 280 (.inl (0, 280, .inl (fun _ => 0))) = h4 at hF hf hn hs ⊢
  refine ar_putf 24 [.int 0, .null, .null, .ref n, .null, .ref (n + 5), .int 0, .int 0, .int 0] d_14_21 rfl (ci := 7) (k := 5) rfl (by decide +kernel) (hF.at 0 rfl) (Nat.le_of_ble_eq_true rfl) rfl rfl rfl ?_
  replace hF : ax_hs (ax_put h4 a (.inr (7, [.int 0, .null, .null, .ref n, .null, .ref (n + 5), .int 0, .int 0, .int 0]))) [(a, .inr (7, [.int 0, .null, .null, .ref n, .null, .ref (n + 5), .int 0, .int 0, .int 0])), (rk, .inr (3, [.int N, .int C, .int G, .ref ro])), (n, .inr (8, [.ref (n + 1), .ref (n + 2), .ref (n + 3), .ref (n + 4), .int 0])), (n + 1, .inl (0, 35840, .inl (fun _ => 0))), (n + 2, .inl (0, 4096, .inl (fun _ => 0))), (n + 3, .inl (0, 32, .inl (fun _ => 0))), (n + 4, .inl (0, 280, .inl (ax_fill (fun _ => 0) 0 280 (-1)))), (n + 5, .inl (0, 280, .inl (fun _ => 0)))] := hF.put 0 _ rfl rfl
  replace hf := hf.put (a := a) (c := .inr (7, [.int 0, .null, .null, .ref n, .null, .ref (n + 5), .int 0, .int 0, .int 0])) (by simp)
  replace hn : (ax_put h4 a (.inr (7, [.int 0, .null, .null, .ref n, .null, .ref (n + 5), .int 0, .int 0, .int 0]))).1 = n + 6 := hn
  replace hs : (ax_put h4 a (.inr (7, [.int 0, .null, .null, .ref n, .null, .ref (n + 5), .int 0, .int 0, .int 0]))).2.1 = sl + 40533 := hs
  generalize ax_put h4 a (.inr (7, [.int 0, .null, .null, .ref n, .null, .ref (n + 5), .int 0, .int 0, .int 0])) = h5 at hF hf hn hs ⊢
  refine ar_aload_n 25 d_14_24 rfl rfl ?_
  refine ar_iload_n 26 d_14_25 rfl rfl ?_
  refine ar_putf 29 [.int me, .null, .null, .ref n, .null, .ref (n + 5), .int 0, .int 0, .int 0] d_14_26 rfl (ci := 7) (k := 0) rfl (by decide +kernel) (hF.at 0 rfl) (Nat.le_of_ble_eq_true rfl) rfl rfl rfl ?_
  replace hF : ax_hs (ax_put h5 a (.inr (7, [.int me, .null, .null, .ref n, .null, .ref (n + 5), .int 0, .int 0, .int 0]))) [(a, .inr (7, [.int me, .null, .null, .ref n, .null, .ref (n + 5), .int 0, .int 0, .int 0])), (rk, .inr (3, [.int N, .int C, .int G, .ref ro])), (n, .inr (8, [.ref (n + 1), .ref (n + 2), .ref (n + 3), .ref (n + 4), .int 0])), (n + 1, .inl (0, 35840, .inl (fun _ => 0))), (n + 2, .inl (0, 4096, .inl (fun _ => 0))), (n + 3, .inl (0, 32, .inl (fun _ => 0))), (n + 4, .inl (0, 280, .inl (ax_fill (fun _ => 0) 0 280 (-1)))), (n + 5, .inl (0, 280, .inl (fun _ => 0)))] := hF.put 0 _ rfl rfl
  replace hf := hf.put (a := a) (c := .inr (7, [.int me, .null, .null, .ref n, .null, .ref (n + 5), .int 0, .int 0, .int 0])) (by simp)
  replace hn : (ax_put h5 a (.inr (7, [.int me, .null, .null, .ref n, .null, .ref (n + 5), .int 0, .int 0, .int 0]))).1 = n + 6 := hn
  replace hs : (ax_put h5 a (.inr (7, [.int me, .null, .null, .ref n, .null, .ref (n + 5), .int 0, .int 0, .int 0]))).2.1 = sl + 40533 := hs
  generalize ax_put h5 a (.inr (7, [.int me, .null, .null, .ref n, .null, .ref (n + 5), .int 0, .int 0, .int 0])) = h6 at hF hf hn hs ⊢
  refine ar_aload_n 30 d_14_29 rfl rfl ?_
  refine ar_aload_n 31 d_14_30 rfl rfl ?_
  refine ar_putf 34 [.int me, .ref rk, .null, .ref n, .null, .ref (n + 5), .int 0, .int 0, .int 0] d_14_31 rfl (ci := 7) (k := 1) rfl (by decide +kernel) (hF.at 0 rfl) (Nat.le_of_ble_eq_true rfl) rfl rfl rfl ?_
  replace hF : ax_hs (ax_put h6 a (.inr (7, [.int me, .ref rk, .null, .ref n, .null, .ref (n + 5), .int 0, .int 0, .int 0]))) [(a, .inr (7, [.int me, .ref rk, .null, .ref n, .null, .ref (n + 5), .int 0, .int 0, .int 0])), (rk, .inr (3, [.int N, .int C, .int G, .ref ro])), (n, .inr (8, [.ref (n + 1), .ref (n + 2), .ref (n + 3), .ref (n + 4), .int 0])), (n + 1, .inl (0, 35840, .inl (fun _ => 0))), (n + 2, .inl (0, 4096, .inl (fun _ => 0))), (n + 3, .inl (0, 32, .inl (fun _ => 0))), (n + 4, .inl (0, 280, .inl (ax_fill (fun _ => 0) 0 280 (-1)))), (n + 5, .inl (0, 280, .inl (fun _ => 0)))] := hF.put 0 _ rfl rfl
  replace hf := hf.put (a := a) (c := .inr (7, [.int me, .ref rk, .null, .ref n, .null, .ref (n + 5), .int 0, .int 0, .int 0])) (by simp)
  replace hn : (ax_put h6 a (.inr (7, [.int me, .ref rk, .null, .ref n, .null, .ref (n + 5), .int 0, .int 0, .int 0]))).1 = n + 6 := hn
  replace hs : (ax_put h6 a (.inr (7, [.int me, .ref rk, .null, .ref n, .null, .ref (n + 5), .int 0, .int 0, .int 0]))).2.1 = sl + 40533 := hs
  generalize ax_put h6 a (.inr (7, [.int me, .ref rk, .null, .ref n, .null, .ref (n + 5), .int 0, .int 0, .int 0])) = h7 at hF hf hn hs ⊢
  refine ar_aload_n 35 d_14_34 rfl rfl ?_
  refine ar_aload_n 36 d_14_35 rfl rfl ?_
  refine ar_putf 39 [.int me, .ref rk, .ref nt, .ref n, .null, .ref (n + 5), .int 0, .int 0, .int 0] d_14_36 rfl (ci := 7) (k := 2) rfl (by decide +kernel) (hF.at 0 rfl) (Nat.le_of_ble_eq_true rfl) rfl rfl rfl ?_
  replace hF : ax_hs (ax_put h7 a (.inr (7, [.int me, .ref rk, .ref nt, .ref n, .null, .ref (n + 5), .int 0, .int 0, .int 0]))) [(a, .inr (7, [.int me, .ref rk, .ref nt, .ref n, .null, .ref (n + 5), .int 0, .int 0, .int 0])), (rk, .inr (3, [.int N, .int C, .int G, .ref ro])), (n, .inr (8, [.ref (n + 1), .ref (n + 2), .ref (n + 3), .ref (n + 4), .int 0])), (n + 1, .inl (0, 35840, .inl (fun _ => 0))), (n + 2, .inl (0, 4096, .inl (fun _ => 0))), (n + 3, .inl (0, 32, .inl (fun _ => 0))), (n + 4, .inl (0, 280, .inl (ax_fill (fun _ => 0) 0 280 (-1)))), (n + 5, .inl (0, 280, .inl (fun _ => 0)))] := hF.put 0 _ rfl rfl
  replace hf := hf.put (a := a) (c := .inr (7, [.int me, .ref rk, .ref nt, .ref n, .null, .ref (n + 5), .int 0, .int 0, .int 0])) (by simp)
  replace hn : (ax_put h7 a (.inr (7, [.int me, .ref rk, .ref nt, .ref n, .null, .ref (n + 5), .int 0, .int 0, .int 0]))).1 = n + 6 := hn
  replace hs : (ax_put h7 a (.inr (7, [.int me, .ref rk, .ref nt, .ref n, .null, .ref (n + 5), .int 0, .int 0, .int 0]))).2.1 = sl + 40533 := hs
  generalize ax_put h7 a (.inr (7, [.int me, .ref rk, .ref nt, .ref n, .null, .ref (n + 5), .int 0, .int 0, .int 0])) = h8 at hF hf hn hs ⊢
  refine ar_aload_n 40 d_14_39 rfl rfl ?_
  refine ar_new 43 d_14_40 rfl (ci := 9) rfl ?_
  rw [hn]
  refine ar_heap (h' := ax_push h8 15 (.inr (9, [.int 0, .null, .null, .null, .null, .null, .null, .int 0, .int 0, .int 0, .int 0, .long 0, .int 0, .int 0, .int 0]))) rfl ?_
  replace hF : ax_hs (ax_push h8 15 (.inr (9, [.int 0, .null, .null, .null, .null, .null, .null, .int 0, .int 0, .int 0, .int 0, .long 0, .int 0, .int 0, .int 0]))) [(a, .inr (7, [.int me, .ref rk, .ref nt, .ref n, .null, .ref (n + 5), .int 0, .int 0, .int 0])), (rk, .inr (3, [.int N, .int C, .int G, .ref ro])), (n, .inr (8, [.ref (n + 1), .ref (n + 2), .ref (n + 3), .ref (n + 4), .int 0])), (n + 1, .inl (0, 35840, .inl (fun _ => 0))), (n + 2, .inl (0, 4096, .inl (fun _ => 0))), (n + 3, .inl (0, 32, .inl (fun _ => 0))), (n + 4, .inl (0, 280, .inl (ax_fill (fun _ => 0) 0 280 (-1)))), (n + 5, .inl (0, 280, .inl (fun _ => 0))), (n + 6, .inr (9, [.int 0, .null, .null, .null, .null, .null, .null, .int 0, .int 0, .int 0, .int 0, .long 0, .int 0, .int 0, .int 0]))] := hF.push (by omega) 15 _ (by rw [hn]; rfl)
  replace hf := hf.push (n := 15) (c := .inr (9, [.int 0, .null, .null, .null, .null, .null, .null, .int 0, .int 0, .int 0, .int 0, .long 0, .int 0, .int 0, .int 0]))
  replace hn : (ax_push h8 15 (.inr (9, [.int 0, .null, .null, .null, .null, .null, .null, .int 0, .int 0, .int 0, .int 0, .long 0, .int 0, .int 0, .int 0]))).1 = n + 7 := by show h8.1 + 1 = _; rw [hn]
  replace hs : (ax_push h8 15 (.inr (9, [.int 0, .null, .null, .null, .null, .null, .null, .int 0, .int 0, .int 0, .int 0, .long 0, .int 0, .int 0, .int 0]))).2.1 = sl + 40548 := by show h8.2.1 + 15 = _; omega
  generalize ax_push h8 15 (.inr (9, [.int 0, .null, .null, .null, .null, .null, .null, .int 0, .int 0, .int 0, .int 0, .long 0, .int 0, .int 0, .int 0])) = h9 at hF hf hn hs ⊢
  refine ar_dup 44 d_14_43 rfl rfl ?_
  refine ar_iload_n 45 d_14_44 rfl rfl ?_
  refine ar_aload_n 46 d_14_45 rfl rfl ?_
  refine ar_aload_n 47 d_14_46 rfl rfl ?_
  refine ar_call (r := [.ref (n + 6), .ref a]) (na := 0) (kd := 0) (cm := 16) (fr2 := fr - 1) (lo2 := lo - 23) 50 d_14_47 (ar_hoI (as := [.int me, .ref rk, .ref nt]) rfl rfl rfl) rfl (by omega) (show lo - 23 + (19 + 4) = lo by omega) (Nat.le_of_ble_eq_true rfl) (Nat.le_of_ble_eq_true rfl) (c_16 (by omega) (by omega) (hF.sub (F' := [(n + 6, .inr (9, [.int 0, .null, .null, .null, .null, .null, .null, .int 0, .int 0, .int 0, .int 0, .long 0, .int 0, .int 0, .int 0])), (rk, .inr (3, [.int N, .int C, .int G, .ref ro]))]) [8, 1] rfl rfl) hn hs (by omega)) ?_
  intro v h10 hq
  obtain ⟨rfl, qF, qn, qs, qf⟩ := hq
  have qF : ax_hs h10 [(rk, .inr (3, [.int N, .int C, .int G, .ref ro])), (n + 6, .inr (9, [.int me, .ref rk, .ref nt, .ref (n + 9), .ref (n + 17), .ref (n + 7), .ref (n + 8), .int 0, .int 0, .int 0, .int 0, .long 0, .int 0, .int 0, .int 0])), (n + 7, .inl (0, 16, .inl (fun _ => 0))), (n + 8, .inl (0, 280, .inl (fun _ => 0))), (n + 9, .inr (6, [.int G, .ref (n + 10), .ref (n + 11), .ref (n + 12), .ref (n + 13), .ref (n + 14), .ref (n + 15), .ref (n + 16), .long 0, .int 0, .int 0])), (n + 10, .inl (0, 48, .inl (ax_fill (fun _ => 0) 0 48 (-1)))), (n + 11, .inl (0, 48, .inl (ax_fill (fun _ => 0) 0 48 0))), (n + 12, .inl (0, 48, .inl (fun _ => 0))), (n + 13, .inl (0, 2400, .inl (fun _ => 0))), (n + 14, .inl (0, 512, .inl (ax_fill (fun _ => 0) 0 512 (-1)))), (n + 15, .inl (0, 961, .inl (ax_fill (fun _ => 0) 0 961 (-1)))), (n + 16, .inl (0, 961, .inl (ax_fill (fun _ => 0) 0 961 0))), (n + 17, .inr (10, [.ref (n + 9), .ref (n + 18), .ref (n + 20), .int 0, .int (-1), .int 0, .int 0, .int 0, .int 0, .int 0, .int 0, .int 0, .int 0, .int 0, .int 0])), (n + 18, .inr (5, [.int 0, .int 0, .int 0, .int 0, .int 0, .int 0, .int 0, .ref (n + 19)])), (n + 19, .inl (0, 612, .inl (fun _ => 0))), (n + 20, .inl (0, 1152, .inl (fun _ => 0)))] := qF
  replace hF : ax_hs h10 [(a, .inr (7, [.int me, .ref rk, .ref nt, .ref n, .null, .ref (n + 5), .int 0, .int 0, .int 0])), (n, .inr (8, [.ref (n + 1), .ref (n + 2), .ref (n + 3), .ref (n + 4), .int 0])), (n + 1, .inl (0, 35840, .inl (fun _ => 0))), (n + 2, .inl (0, 4096, .inl (fun _ => 0))), (n + 3, .inl (0, 32, .inl (fun _ => 0))), (n + 4, .inl (0, 280, .inl (ax_fill (fun _ => 0) 0 280 (-1)))), (n + 5, .inl (0, 280, .inl (fun _ => 0))), (rk, .inr (3, [.int N, .int C, .int G, .ref ro])), (n + 6, .inr (9, [.int me, .ref rk, .ref nt, .ref (n + 9), .ref (n + 17), .ref (n + 7), .ref (n + 8), .int 0, .int 0, .int 0, .int 0, .long 0, .int 0, .int 0, .int 0])), (n + 7, .inl (0, 16, .inl (fun _ => 0))), (n + 8, .inl (0, 280, .inl (fun _ => 0))), (n + 9, .inr (6, [.int G, .ref (n + 10), .ref (n + 11), .ref (n + 12), .ref (n + 13), .ref (n + 14), .ref (n + 15), .ref (n + 16), .long 0, .int 0, .int 0])), (n + 10, .inl (0, 48, .inl (ax_fill (fun _ => 0) 0 48 (-1)))), (n + 11, .inl (0, 48, .inl (ax_fill (fun _ => 0) 0 48 0))), (n + 12, .inl (0, 48, .inl (fun _ => 0))), (n + 13, .inl (0, 2400, .inl (fun _ => 0))), (n + 14, .inl (0, 512, .inl (ax_fill (fun _ => 0) 0 512 (-1)))), (n + 15, .inl (0, 961, .inl (ax_fill (fun _ => 0) 0 961 (-1)))), (n + 16, .inl (0, 961, .inl (ax_fill (fun _ => 0) 0 961 0))), (n + 17, .inr (10, [.ref (n + 9), .ref (n + 18), .ref (n + 20), .int 0, .int (-1), .int 0, .int 0, .int 0, .int 0, .int 0, .int 0, .int 0, .int 0, .int 0, .int 0])), (n + 18, .inr (5, [.int 0, .int 0, .int 0, .int 0, .int 0, .int 0, .int 0, .ref (n + 19)])), (n + 19, .inl (0, 612, .inl (fun _ => 0))), (n + 20, .inl (0, 1152, .inl (fun _ => 0)))] := ax_hs.call (rest := [(a, .inr (7, [.int me, .ref rk, .ref nt, .ref n, .null, .ref (n + 5), .int 0, .int 0, .int 0])), (n, .inr (8, [.ref (n + 1), .ref (n + 2), .ref (n + 3), .ref (n + 4), .int 0])), (n + 1, .inl (0, 35840, .inl (fun _ => 0))), (n + 2, .inl (0, 4096, .inl (fun _ => 0))), (n + 3, .inl (0, 32, .inl (fun _ => 0))), (n + 4, .inl (0, 280, .inl (ax_fill (fun _ => 0) 0 280 (-1)))), (n + 5, .inl (0, 280, .inl (fun _ => 0)))]) [8, 1] [0, 2, 3, 4, 5, 6, 7] hF qf qF rfl rfl rfl [8] rfl rfl [1, 8] (news := [n + 7, n + 8, n + 9, n + 10, n + 11, n + 12, n + 13, n + 14, n + 15, n + 16, n + 17, n + 18, n + 19, n + 20]) rfl rfl (by rw [hn]; simp; try omega) rfl
  replace hf := hf.trC qf (by intro x hx hB; simp at hB; first | (rcases hB with rfl <;> first | omega | simp) | omega | simp [hB])
  replace hn : h10.1 = n + 21 := by omega
  replace hs : h10.2.1 = sl + 47620 := by omega
  clear qF qn qs qf
  refine ar_putf 53 [.int me, .ref rk, .ref nt, .ref n, .ref (n + 6), .ref (n + 5), .int 0, .int 0, .int 0] d_14_50 rfl (ci := 7) (k := 4) rfl (by decide +kernel) (hF.at 0 rfl) (Nat.le_of_ble_eq_true rfl) rfl rfl rfl ?_
  replace hF : ax_hs (ax_put h10 a (.inr (7, [.int me, .ref rk, .ref nt, .ref n, .ref (n + 6), .ref (n + 5), .int 0, .int 0, .int 0]))) [(a, .inr (7, [.int me, .ref rk, .ref nt, .ref n, .ref (n + 6), .ref (n + 5), .int 0, .int 0, .int 0])), (n, .inr (8, [.ref (n + 1), .ref (n + 2), .ref (n + 3), .ref (n + 4), .int 0])), (n + 1, .inl (0, 35840, .inl (fun _ => 0))), (n + 2, .inl (0, 4096, .inl (fun _ => 0))), (n + 3, .inl (0, 32, .inl (fun _ => 0))), (n + 4, .inl (0, 280, .inl (ax_fill (fun _ => 0) 0 280 (-1)))), (n + 5, .inl (0, 280, .inl (fun _ => 0))), (rk, .inr (3, [.int N, .int C, .int G, .ref ro])), (n + 6, .inr (9, [.int me, .ref rk, .ref nt, .ref (n + 9), .ref (n + 17), .ref (n + 7), .ref (n + 8), .int 0, .int 0, .int 0, .int 0, .long 0, .int 0, .int 0, .int 0])), (n + 7, .inl (0, 16, .inl (fun _ => 0))), (n + 8, .inl (0, 280, .inl (fun _ => 0))), (n + 9, .inr (6, [.int G, .ref (n + 10), .ref (n + 11), .ref (n + 12), .ref (n + 13), .ref (n + 14), .ref (n + 15), .ref (n + 16), .long 0, .int 0, .int 0])), (n + 10, .inl (0, 48, .inl (ax_fill (fun _ => 0) 0 48 (-1)))), (n + 11, .inl (0, 48, .inl (ax_fill (fun _ => 0) 0 48 0))), (n + 12, .inl (0, 48, .inl (fun _ => 0))), (n + 13, .inl (0, 2400, .inl (fun _ => 0))), (n + 14, .inl (0, 512, .inl (ax_fill (fun _ => 0) 0 512 (-1)))), (n + 15, .inl (0, 961, .inl (ax_fill (fun _ => 0) 0 961 (-1)))), (n + 16, .inl (0, 961, .inl (ax_fill (fun _ => 0) 0 961 0))), (n + 17, .inr (10, [.ref (n + 9), .ref (n + 18), .ref (n + 20), .int 0, .int (-1), .int 0, .int 0, .int 0, .int 0, .int 0, .int 0, .int 0, .int 0, .int 0, .int 0])), (n + 18, .inr (5, [.int 0, .int 0, .int 0, .int 0, .int 0, .int 0, .int 0, .ref (n + 19)])), (n + 19, .inl (0, 612, .inl (fun _ => 0))), (n + 20, .inl (0, 1152, .inl (fun _ => 0)))] := hF.put 0 _ rfl rfl
  replace hf := hf.put (a := a) (c := .inr (7, [.int me, .ref rk, .ref nt, .ref n, .ref (n + 6), .ref (n + 5), .int 0, .int 0, .int 0])) (by simp)
  replace hn : (ax_put h10 a (.inr (7, [.int me, .ref rk, .ref nt, .ref n, .ref (n + 6), .ref (n + 5), .int 0, .int 0, .int 0]))).1 = n + 21 := hn
  replace hs : (ax_put h10 a (.inr (7, [.int me, .ref rk, .ref nt, .ref n, .ref (n + 6), .ref (n + 5), .int 0, .int 0, .int 0]))).2.1 = sl + 47620 := hs
  generalize ax_put h10 a (.inr (7, [.int me, .ref rk, .ref nt, .ref n, .ref (n + 6), .ref (n + 5), .int 0, .int 0, .int 0])) = h11 at hF hf hn hs ⊢
  refine ar_aload_n 54 d_14_53 rfl rfl ?_
  refine ar_getf 57 d_14_54 rfl (ci := 7) (k := 5) rfl (hF.at 0 rfl) rfl ?_
  refine ar_iconst 58 (v := -1) d_14_57 rfl (by decide) ?_
  refine ar_call (r := []) (na := 0) (kd := 0) (cm := 13) (fr2 := fr - 1) (lo2 := lo - 23) 61 d_14_58 (ar_hoS (as := [.ref (n + 5), .int (-1)]) rfl rfl rfl) rfl (by omega) (show lo - 23 + (19 + 4) = lo by omega) (Nat.le_of_ble_eq_true rfl) (Nat.le_of_ble_eq_true rfl) (c_13 (hF.at 6 rfl) (by decide)) ?_
  intro v hh hq
  obtain ⟨rfl, rfl⟩ := hq
  replace hF : ax_hs (ax_put h11 (n + 5) (.inl (0, 280, .inl (ax_fill (fun _ => 0) 0 280 (-1))))) [(a, .inr (7, [.int me, .ref rk, .ref nt, .ref n, .ref (n + 6), .ref (n + 5), .int 0, .int 0, .int 0])), (n, .inr (8, [.ref (n + 1), .ref (n + 2), .ref (n + 3), .ref (n + 4), .int 0])), (n + 1, .inl (0, 35840, .inl (fun _ => 0))), (n + 2, .inl (0, 4096, .inl (fun _ => 0))), (n + 3, .inl (0, 32, .inl (fun _ => 0))), (n + 4, .inl (0, 280, .inl (ax_fill (fun _ => 0) 0 280 (-1)))), (n + 5, .inl (0, 280, .inl (ax_fill (fun _ => 0) 0 280 (-1)))), (rk, .inr (3, [.int N, .int C, .int G, .ref ro])), (n + 6, .inr (9, [.int me, .ref rk, .ref nt, .ref (n + 9), .ref (n + 17), .ref (n + 7), .ref (n + 8), .int 0, .int 0, .int 0, .int 0, .long 0, .int 0, .int 0, .int 0])), (n + 7, .inl (0, 16, .inl (fun _ => 0))), (n + 8, .inl (0, 280, .inl (fun _ => 0))), (n + 9, .inr (6, [.int G, .ref (n + 10), .ref (n + 11), .ref (n + 12), .ref (n + 13), .ref (n + 14), .ref (n + 15), .ref (n + 16), .long 0, .int 0, .int 0])), (n + 10, .inl (0, 48, .inl (ax_fill (fun _ => 0) 0 48 (-1)))), (n + 11, .inl (0, 48, .inl (ax_fill (fun _ => 0) 0 48 0))), (n + 12, .inl (0, 48, .inl (fun _ => 0))), (n + 13, .inl (0, 2400, .inl (fun _ => 0))), (n + 14, .inl (0, 512, .inl (ax_fill (fun _ => 0) 0 512 (-1)))), (n + 15, .inl (0, 961, .inl (ax_fill (fun _ => 0) 0 961 (-1)))), (n + 16, .inl (0, 961, .inl (ax_fill (fun _ => 0) 0 961 0))), (n + 17, .inr (10, [.ref (n + 9), .ref (n + 18), .ref (n + 20), .int 0, .int (-1), .int 0, .int 0, .int 0, .int 0, .int 0, .int 0, .int 0, .int 0, .int 0, .int 0])), (n + 18, .inr (5, [.int 0, .int 0, .int 0, .int 0, .int 0, .int 0, .int 0, .ref (n + 19)])), (n + 19, .inl (0, 612, .inl (fun _ => 0))), (n + 20, .inl (0, 1152, .inl (fun _ => 0)))] := hF.put 6 _ rfl rfl
  replace hf := hf.putN (a := n + 5) (c := .inl (0, 280, .inl (ax_fill (fun _ => 0) 0 280 (-1)))) (by omega)
  replace hn : (ax_put h11 (n + 5) (.inl (0, 280, .inl (ax_fill (fun _ => 0) 0 280 (-1))))).1 = n + 21 := hn
  replace hs : (ax_put h11 (n + 5) (.inl (0, 280, .inl (ax_fill (fun _ => 0) 0 280 (-1))))).2.1 = sl + 47620 := hs
  generalize ax_put h11 (n + 5) (.inl (0, 280, .inl (ax_fill (fun _ => 0) 0 280 (-1)))) = h12 at hF hf hn hs ⊢
  have hF := hF.sub (F' := [(rk, .inr (3, [.int N, .int C, .int G, .ref ro])), (a, .inr (7, [.int me, .ref rk, .ref nt, .ref n, .ref (n + 6), .ref (n + 5), .int 0, .int 0, .int 0])), (n, .inr (8, [.ref (n + 1), .ref (n + 2), .ref (n + 3), .ref (n + 4), .int 0])), (n + 1, .inl (0, 35840, .inl (fun _ => 0))), (n + 2, .inl (0, 4096, .inl (fun _ => 0))), (n + 3, .inl (0, 32, .inl (fun _ => 0))), (n + 4, .inl (0, 280, .inl (ax_fill (fun _ => 0) 0 280 (-1)))), (n + 5, .inl (0, 280, .inl (ax_fill (fun _ => 0) 0 280 (-1)))), (n + 6, .inr (9, [.int me, .ref rk, .ref nt, .ref (n + 9), .ref (n + 17), .ref (n + 7), .ref (n + 8), .int 0, .int 0, .int 0, .int 0, .long 0, .int 0, .int 0, .int 0])), (n + 7, .inl (0, 16, .inl (fun _ => 0))), (n + 8, .inl (0, 280, .inl (fun _ => 0))), (n + 9, .inr (6, [.int G, .ref (n + 10), .ref (n + 11), .ref (n + 12), .ref (n + 13), .ref (n + 14), .ref (n + 15), .ref (n + 16), .long 0, .int 0, .int 0])), (n + 10, .inl (0, 48, .inl (ax_fill (fun _ => 0) 0 48 (-1)))), (n + 11, .inl (0, 48, .inl (ax_fill (fun _ => 0) 0 48 0))), (n + 12, .inl (0, 48, .inl (fun _ => 0))), (n + 13, .inl (0, 2400, .inl (fun _ => 0))), (n + 14, .inl (0, 512, .inl (ax_fill (fun _ => 0) 0 512 (-1)))), (n + 15, .inl (0, 961, .inl (ax_fill (fun _ => 0) 0 961 (-1)))), (n + 16, .inl (0, 961, .inl (ax_fill (fun _ => 0) 0 961 0))), (n + 17, .inr (10, [.ref (n + 9), .ref (n + 18), .ref (n + 20), .int 0, .int (-1), .int 0, .int 0, .int 0, .int 0, .int 0, .int 0, .int 0, .int 0, .int 0, .int 0])), (n + 18, .inr (5, [.int 0, .int 0, .int 0, .int 0, .int 0, .int 0, .int 0, .ref (n + 19)])), (n + 19, .inl (0, 612, .inl (fun _ => 0))), (n + 20, .inl (0, 1152, .inl (fun _ => 0)))]) [7, 0, 1, 2, 3, 4, 5, 6, 8, 9, 10, 11, 12, 13, 14, 15, 16, 17, 18, 19, 20, 21, 22] rfl rfl
  exact ar_ret d_14_61 rfl (⟨rfl, hF, hn, hs, hf⟩)


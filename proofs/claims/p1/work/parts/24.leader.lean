/-! Leader: rest, poll, start -/
theorem c_33 {L : Nat} {xs : Nat → Int32} {fr lo : Nat} {h : ax_H} {n sl : Nat} {ld rk nt tb wk ma sp wa wb a1 a2 a3 a4 a5 a6 a7 : Nat} {me ep st hd cl ni tu md g fl an ws wo w5 w6 w7 w8 w9 w10 w11 w12 w13 w14 : Int32} {ak kn : Int64} {f1 f2 f5 f6 f7 : Nat → Int32} (hfr : 2 ≤ fr) (hlo : 43 ≤ lo) (hF : ax_hs h [(ld, .inr (9, [.int me, .ref rk, .ref nt, .ref tb, .ref wk, .ref ma, .ref sp, .int ep, .int st, .int hd, .int cl, .long ak, .int ni, .int tu, .int md])), (tb, .inr (6, [.int g, .ref a1, .ref a2, .ref a3, .ref a4, .ref a5, .ref a6, .ref a7, .long kn, .int fl, .int an])), (wk, .inr (10, [.ref tb, .ref wa, .ref wb, .int ws, .int wo, .int w5, .int w6, .int w7, .int w8, .int w9, .int w10, .int w11, .int w12, .int w13, .int w14])), (a1, .inl (0, 48, .inl f1)), (a2, .inl (0, 48, .inl f2)), (a5, .inl (0, 512, .inl f5)), (a6, .inl (0, 961, .inl f6)), (a7, .inl (0, 961, .inl f7))]) (hn : h.1 = n) (hs : h.2.1 = sl) (hn0 : 0 < n) : ax_M L xs 33 fr lo [.ref ld] h (fun r h' => r = none ∧ ax_hs h' [(ld, .inr (9, [.int me, .ref rk, .ref nt, .ref tb, .ref wk, .ref ma, .ref sp, .int ep, .int st, .int 0, .int 0, .long 0, .int 0, .int 0, .int 0])), (tb, .inr (6, [.int g, .ref a1, .ref a2, .ref a3, .ref a4, .ref a5, .ref a6, .ref a7, .long 0, .int 0, .int 0])), (wk, .inr (10, [.ref tb, .ref wa, .ref wb, .int 0, .int (-1), .int w5, .int w6, .int w7, .int w8, .int w9, .int w10, .int w11, .int w12, .int w13, .int w14])), (a1, .inl (0, 48, .inl (ax_fill f1 0 48 (-1)))), (a2, .inl (0, 48, .inl (ax_fill f2 0 48 0))), (a5, .inl (0, 512, .inl (ax_fill f5 0 512 (-1)))), (a6, .inl (0, 961, .inl (ax_fill f6 0 961 (-1)))), (a7, .inl (0, 961, .inl (ax_fill f7 0 961 0)))] ∧ h'.1 = n ∧ h'.2.1 = sl ∧ ax_fr (fun x => x ∈ [ld, tb, wk, a1, a2, a5, a6, a7]) h h') := by
  show ax_A (ax_step L xs) ((33, 0, fr, lo), [(0, .ref ld)], [], h) _
  have hbase : h.1 = n := hn
  have hbasl : h.2.1 = sl := hs
  have hf : ax_fr (fun x => x ∈ [ld, tb, wk, a1, a2, a5, a6, a7]) h h := ax_fr.rf
  refine ar_aload_n 1 d_33_0 rfl rfl ?_
  refine ar_getf 4 d_33_1 rfl (ci := 9) (k := 3) rfl (hF.at 0 rfl) rfl ?_
  refine ar_call (r := []) (na := 0) (kd := 0) (cm := 12) (fr2 := fr - 1) (lo2 := lo - 20) 7 d_33_4 (ar_hoV (as := []) rfl rfl rfl (hF.at 1 rfl)) rfl (by omega) (show lo - 20 + (19 + 1) = lo by omega) (Nat.le_of_ble_eq_true rfl) (Nat.le_of_ble_eq_true rfl) (c_12 (by omega) (by omega) (hF.sub (F' := [(tb, .inr (6, [.int g, .ref a1, .ref a2, .ref a3, .ref a4, .ref a5, .ref a6, .ref a7, .long kn, .int fl, .int an])), (a1, .inl (0, 48, .inl f1)), (a2, .inl (0, 48, .inl f2)), (a5, .inl (0, 512, .inl f5)), (a6, .inl (0, 961, .inl f6)), (a7, .inl (0, 961, .inl f7))]) [1, 3, 4, 5, 6, 7] rfl rfl) hn hs (by omega)) ?_
  intro v h1 hq
  obtain ⟨rfl, qF, qn, qs, qf⟩ := hq
  have qF : ax_hs h1 [(tb, .inr (6, [.int g, .ref a1, .ref a2, .ref a3, .ref a4, .ref a5, .ref a6, .ref a7, .long 0, .int 0, .int 0])), (a1, .inl (0, 48, .inl (ax_fill f1 0 48 (-1)))), (a2, .inl (0, 48, .inl (ax_fill f2 0 48 0))), (a5, .inl (0, 512, .inl (ax_fill f5 0 512 (-1)))), (a6, .inl (0, 961, .inl (ax_fill f6 0 961 (-1)))), (a7, .inl (0, 961, .inl (ax_fill f7 0 961 0)))] := qF
  replace hF : ax_hs h1 [(ld, .inr (9, [.int me, .ref rk, .ref nt, .ref tb, .ref wk, .ref ma, .ref sp, .int ep, .int st, .int hd, .int cl, .long ak, .int ni, .int tu, .int md])), (wk, .inr (10, [.ref tb, .ref wa, .ref wb, .int ws, .int wo, .int w5, .int w6, .int w7, .int w8, .int w9, .int w10, .int w11, .int w12, .int w13, .int w14])), (tb, .inr (6, [.int g, .ref a1, .ref a2, .ref a3, .ref a4, .ref a5, .ref a6, .ref a7, .long 0, .int 0, .int 0])), (a1, .inl (0, 48, .inl (ax_fill f1 0 48 (-1)))), (a2, .inl (0, 48, .inl (ax_fill f2 0 48 0))), (a5, .inl (0, 512, .inl (ax_fill f5 0 512 (-1)))), (a6, .inl (0, 961, .inl (ax_fill f6 0 961 (-1)))), (a7, .inl (0, 961, .inl (ax_fill f7 0 961 0)))] := ax_hs.call (rest := [(ld, .inr (9, [.int me, .ref rk, .ref nt, .ref tb, .ref wk, .ref ma, .ref sp, .int ep, .int st, .int hd, .int cl, .long ak, .int ni, .int tu, .int md])), (wk, .inr (10, [.ref tb, .ref wa, .ref wb, .int ws, .int wo, .int w5, .int w6, .int w7, .int w8, .int w9, .int w10, .int w11, .int w12, .int w13, .int w14]))]) [1, 3, 4, 5, 6, 7] [0, 2] hF qf qF rfl rfl rfl [1, 3, 4, 5, 6, 7] rfl rfl [1, 3, 4, 5, 6, 7] (news := []) rfl rfl (fun _ z => absurd z List.not_mem_nil) rfl
  replace hf := hf.trC qf (by intro x hx hB; simp at hB; first | (rcases hB with rfl | rfl | rfl | rfl | rfl | rfl <;> first | omega | simp) | omega | simp [hB])
  replace hn : h1.1 = n := by omega
  replace hs : h1.2.1 = sl := by omega
  clear qF qn qs qf
  refine ar_aload_n 8 d_33_7 rfl rfl ?_
  refine ar_getf 11 d_33_8 rfl (ci := 9) (k := 4) rfl (hF.at 0 rfl) rfl ?_
  refine ar_iconst 12 (v := 0) d_33_11 rfl (by decide) ?_
  refine ar_putf 15 [.ref tb, .ref wa, .ref wb, .int 0, .int wo, .int w5, .int w6, .int w7, .int w8, .int w9, .int w10, .int w11, .int w12, .int w13, .int w14] d_33_12 rfl (ci := 10) (k := 3) rfl rfl (hF.at 1 rfl) (Nat.le_of_ble_eq_true rfl) rfl rfl rfl ?_
  replace hF : ax_hs (ax_put h1 wk (.inr (10, [.ref tb, .ref wa, .ref wb, .int 0, .int wo, .int w5, .int w6, .int w7, .int w8, .int w9, .int w10, .int w11, .int w12, .int w13, .int w14]))) [(ld, .inr (9, [.int me, .ref rk, .ref nt, .ref tb, .ref wk, .ref ma, .ref sp, .int ep, .int st, .int hd, .int cl, .long ak, .int ni, .int tu, .int md])), (wk, .inr (10, [.ref tb, .ref wa, .ref wb, .int 0, .int wo, .int w5, .int w6, .int w7, .int w8, .int w9, .int w10, .int w11, .int w12, .int w13, .int w14])), (tb, .inr (6, [.int g, .ref a1, .ref a2, .ref a3, .ref a4, .ref a5, .ref a6, .ref a7, .long 0, .int 0, .int 0])), (a1, .inl (0, 48, .inl (ax_fill f1 0 48 (-1)))), (a2, .inl (0, 48, .inl (ax_fill f2 0 48 0))), (a5, .inl (0, 512, .inl (ax_fill f5 0 512 (-1)))), (a6, .inl (0, 961, .inl (ax_fill f6 0 961 (-1)))), (a7, .inl (0, 961, .inl (ax_fill f7 0 961 0)))] := hF.put 1 _ rfl rfl
  replace hf := hf.put (a := wk) (c := .inr (10, [.ref tb, .ref wa, .ref wb, .int 0, .int wo, .int w5, .int w6, .int w7, .int w8, .int w9, .int w10, .int w11, .int w12, .int w13, .int w14])) (by simp)
  replace hn : (ax_put h1 wk (.inr (10, [.ref tb, .ref wa, .ref wb, .int 0, .int wo, .int w5, .int w6, .int w7, .int w8, .int w9, .int w10, .int w11, .int w12, .int w13, .int w14]))).1 = n := hn
  replace hs : (ax_put h1 wk (.inr (10, [.ref tb, .ref wa, .ref wb, .int 0, .int wo, .int w5, .int w6, .int w7, .int w8, .int w9, .int w10, .int w11, .int w12, .int w13, .int w14]))).2.1 = sl := hs
  generalize ax_put h1 wk (.inr (10, [.ref tb, .ref wa, .ref wb, .int 0, .int wo, .int w5, .int w6, .int w7, .int w8, .int w9, .int w10, .int w11, .int w12, .int w13, .int w14])) = h2 at hF hf hn hs ⊢
  refine ar_aload_n 16 d_33_15 rfl rfl ?_
  refine ar_getf 19 d_33_16 rfl (ci := 9) (k := 4) rfl (hF.at 0 rfl) rfl ?_
  refine ar_iconst 20 (v := -1) d_33_19 rfl (by decide) ?_
  refine ar_putf 23 [.ref tb, .ref wa, .ref wb, .int 0, .int (-1), .int w5, .int w6, .int w7, .int w8, .int w9, .int w10, .int w11, .int w12, .int w13, .int w14] d_33_20 rfl (ci := 10) (k := 4) rfl rfl (hF.at 1 rfl) (Nat.le_of_ble_eq_true rfl) rfl rfl rfl ?_
  replace hF : ax_hs (ax_put h2 wk (.inr (10, [.ref tb, .ref wa, .ref wb, .int 0, .int (-1), .int w5, .int w6, .int w7, .int w8, .int w9, .int w10, .int w11, .int w12, .int w13, .int w14]))) [(ld, .inr (9, [.int me, .ref rk, .ref nt, .ref tb, .ref wk, .ref ma, .ref sp, .int ep, .int st, .int hd, .int cl, .long ak, .int ni, .int tu, .int md])), (wk, .inr (10, [.ref tb, .ref wa, .ref wb, .int 0, .int (-1), .int w5, .int w6, .int w7, .int w8, .int w9, .int w10, .int w11, .int w12, .int w13, .int w14])), (tb, .inr (6, [.int g, .ref a1, .ref a2, .ref a3, .ref a4, .ref a5, .ref a6, .ref a7, .long 0, .int 0, .int 0])), (a1, .inl (0, 48, .inl (ax_fill f1 0 48 (-1)))), (a2, .inl (0, 48, .inl (ax_fill f2 0 48 0))), (a5, .inl (0, 512, .inl (ax_fill f5 0 512 (-1)))), (a6, .inl (0, 961, .inl (ax_fill f6 0 961 (-1)))), (a7, .inl (0, 961, .inl (ax_fill f7 0 961 0)))] := hF.put 1 _ rfl rfl
  replace hf := hf.put (a := wk) (c := .inr (10, [.ref tb, .ref wa, .ref wb, .int 0, .int (-1), .int w5, .int w6, .int w7, .int w8, .int w9, .int w10, .int w11, .int w12, .int w13, .int w14])) (by simp)
  replace hn : (ax_put h2 wk (.inr (10, [.ref tb, .ref wa, .ref wb, .int 0, .int (-1), .int w5, .int w6, .int w7, .int w8, .int w9, .int w10, .int w11, .int w12, .int w13, .int w14]))).1 = n := hn
  replace hs : (ax_put h2 wk (.inr (10, [.ref tb, .ref wa, .ref wb, .int 0, .int (-1), .int w5, .int w6, .int w7, .int w8, .int w9, .int w10, .int w11, .int w12, .int w13, .int w14]))).2.1 = sl := hs
  generalize ax_put h2 wk (.inr (10, [.ref tb, .ref wa, .ref wb, .int 0, .int (-1), .int w5, .int w6, .int w7, .int w8, .int w9, .int w10, .int w11, .int w12, .int w13, .int w14])) = h3 at hF hf hn hs ⊢
  refine ar_aload_n 24 d_33_23 rfl rfl ?_
  refine ar_iconst 25 (v := 0) d_33_24 rfl (by decide) ?_
  refine ar_putf 28 [.int me, .ref rk, .ref nt, .ref tb, .ref wk, .ref ma, .ref sp, .int ep, .int st, .int 0, .int cl, .long ak, .int ni, .int tu, .int md] d_33_25 rfl (ci := 9) (k := 9) rfl rfl (hF.at 0 rfl) (Nat.le_of_ble_eq_true rfl) rfl rfl rfl ?_
  replace hF : ax_hs (ax_put h3 ld (.inr (9, [.int me, .ref rk, .ref nt, .ref tb, .ref wk, .ref ma, .ref sp, .int ep, .int st, .int 0, .int cl, .long ak, .int ni, .int tu, .int md]))) [(ld, .inr (9, [.int me, .ref rk, .ref nt, .ref tb, .ref wk, .ref ma, .ref sp, .int ep, .int st, .int 0, .int cl, .long ak, .int ni, .int tu, .int md])), (wk, .inr (10, [.ref tb, .ref wa, .ref wb, .int 0, .int (-1), .int w5, .int w6, .int w7, .int w8, .int w9, .int w10, .int w11, .int w12, .int w13, .int w14])), (tb, .inr (6, [.int g, .ref a1, .ref a2, .ref a3, .ref a4, .ref a5, .ref a6, .ref a7, .long 0, .int 0, .int 0])), (a1, .inl (0, 48, .inl (ax_fill f1 0 48 (-1)))), (a2, .inl (0, 48, .inl (ax_fill f2 0 48 0))), (a5, .inl (0, 512, .inl (ax_fill f5 0 512 (-1)))), (a6, .inl (0, 961, .inl (ax_fill f6 0 961 (-1)))), (a7, .inl (0, 961, .inl (ax_fill f7 0 961 0)))] := hF.put 0 _ rfl rfl
  replace hf := hf.put (a := ld) (c := .inr (9, [.int me, .ref rk, .ref nt, .ref tb, .ref wk, .ref ma, .ref sp, .int ep, .int st, .int 0, .int cl, .long ak, .int ni, .int tu, .int md])) (by simp)
  replace hn : (ax_put h3 ld (.inr (9, [.int me, .ref rk, .ref nt, .ref tb, .ref wk, .ref ma, .ref sp, .int ep, .int st, .int 0, .int cl, .long ak, .int ni, .int tu, .int md]))).1 = n := hn
  replace hs : (ax_put h3 ld (.inr (9, [.int me, .ref rk, .ref nt, .ref tb, .ref wk, .ref ma, .ref sp, .int ep, .int st, .int 0, .int cl, .long ak, .int ni, .int tu, .int md]))).2.1 = sl := hs
  generalize ax_put h3 ld (.inr (9, [.int me, .ref rk, .ref nt, .ref tb, .ref wk, .ref ma, .ref sp, .int ep, .int st, .int 0, .int cl, .long ak, .int ni, .int tu, .int md])) = h4 at hF hf hn hs ⊢
  refine ar_aload_n 29 d_33_28 rfl rfl ?_
  refine ar_iconst 30 (v := 0) d_33_29 rfl (by decide) ?_
  refine ar_putf 33 [.int me, .ref rk, .ref nt, .ref tb, .ref wk, .ref ma, .ref sp, .int ep, .int st, .int 0, .int 0, .long ak, .int ni, .int tu, .int md] d_33_30 rfl (ci := 9) (k := 10) rfl rfl (hF.at 0 rfl) (Nat.le_of_ble_eq_true rfl) rfl rfl rfl ?_
  replace hF : ax_hs (ax_put h4 ld (.inr (9, [.int me, .ref rk, .ref nt, .ref tb, .ref wk, .ref ma, .ref sp, .int ep, .int st, .int 0, .int 0, .long ak, .int ni, .int tu, .int md]))) [(ld, .inr (9, [.int me, .ref rk, .ref nt, .ref tb, .ref wk, .ref ma, .ref sp, .int ep, .int st, .int 0, .int 0, .long ak, .int ni, .int tu, .int md])), (wk, .inr (10, [.ref tb, .ref wa, .ref wb, .int 0, .int (-1), .int w5, .int w6, .int w7, .int w8, .int w9, .int w10, .int w11, .int w12, .int w13, .int w14])), (tb, .inr (6, [.int g, .ref a1, .ref a2, .ref a3, .ref a4, .ref a5, .ref a6, .ref a7, .long 0, .int 0, .int 0])), (a1, .inl (0, 48, .inl (ax_fill f1 0 48 (-1)))), (a2, .inl (0, 48, .inl (ax_fill f2 0 48 0))), (a5, .inl (0, 512, .inl (ax_fill f5 0 512 (-1)))), (a6, .inl (0, 961, .inl (ax_fill f6 0 961 (-1)))), (a7, .inl (0, 961, .inl (ax_fill f7 0 961 0)))] := hF.put 0 _ rfl rfl
  replace hf := hf.put (a := ld) (c := .inr (9, [.int me, .ref rk, .ref nt, .ref tb, .ref wk, .ref ma, .ref sp, .int ep, .int st, .int 0, .int 0, .long ak, .int ni, .int tu, .int md])) (by simp)
  replace hn : (ax_put h4 ld (.inr (9, [.int me, .ref rk, .ref nt, .ref tb, .ref wk, .ref ma, .ref sp, .int ep, .int st, .int 0, .int 0, .long ak, .int ni, .int tu, .int md]))).1 = n := hn
  replace hs : (ax_put h4 ld (.inr (9, [.int me, .ref rk, .ref nt, .ref tb, .ref wk, .ref ma, .ref sp, .int ep, .int st, .int 0, .int 0, .long ak, .int ni, .int tu, .int md]))).2.1 = sl := hs
  generalize ax_put h4 ld (.inr (9, [.int me, .ref rk, .ref nt, .ref tb, .ref wk, .ref ma, .ref sp, .int ep, .int st, .int 0, .int 0, .long ak, .int ni, .int tu, .int md])) = h5 at hF hf hn hs ⊢
  refine ar_aload_n 34 d_33_33 rfl rfl ?_
  refine ar_lconst 35 (v := 0) d_33_34 rfl (by decide) ?_
  refine ar_putf 38 [.int me, .ref rk, .ref nt, .ref tb, .ref wk, .ref ma, .ref sp, .int ep, .int st, .int 0, .int 0, .long 0, .int ni, .int tu, .int md] d_33_35 rfl (ci := 9) (k := 11) rfl rfl (hF.at 0 rfl) (Nat.le_of_ble_eq_true rfl) rfl rfl rfl ?_
  replace hF : ax_hs (ax_put h5 ld (.inr (9, [.int me, .ref rk, .ref nt, .ref tb, .ref wk, .ref ma, .ref sp, .int ep, .int st, .int 0, .int 0, .long 0, .int ni, .int tu, .int md]))) [(ld, .inr (9, [.int me, .ref rk, .ref nt, .ref tb, .ref wk, .ref ma, .ref sp, .int ep, .int st, .int 0, .int 0, .long 0, .int ni, .int tu, .int md])), (wk, .inr (10, [.ref tb, .ref wa, .ref wb, .int 0, .int (-1), .int w5, .int w6, .int w7, .int w8, .int w9, .int w10, .int w11, .int w12, .int w13, .int w14])), (tb, .inr (6, [.int g, .ref a1, .ref a2, .ref a3, .ref a4, .ref a5, .ref a6, .ref a7, .long 0, .int 0, .int 0])), (a1, .inl (0, 48, .inl (ax_fill f1 0 48 (-1)))), (a2, .inl (0, 48, .inl (ax_fill f2 0 48 0))), (a5, .inl (0, 512, .inl (ax_fill f5 0 512 (-1)))), (a6, .inl (0, 961, .inl (ax_fill f6 0 961 (-1)))), (a7, .inl (0, 961, .inl (ax_fill f7 0 961 0)))] := hF.put 0 _ rfl rfl
  replace hf := hf.put (a := ld) (c := .inr (9, [.int me, .ref rk, .ref nt, .ref tb, .ref wk, .ref ma, .ref sp, .int ep, .int st, .int 0, .int 0, .long 0, .int ni, .int tu, .int md])) (by simp)
  replace hn : (ax_put h5 ld (.inr (9, [.int me, .ref rk, .ref nt, .ref tb, .ref wk, .ref ma, .ref sp, .int ep, .int st, .int 0, .int 0, .long 0, .int ni, .int tu, .int md]))).1 = n := hn
  replace hs : (ax_put h5 ld (.inr (9, [.int me, .ref rk, .ref nt, .ref tb, .ref wk, .ref ma, .ref sp, .int ep, .int st, .int 0, .int 0, .long 0, .int ni, .int tu, .int md]))).2.1 = sl := hs
  generalize ax_put h5 ld (.inr (9, [.int me, .ref rk, .ref nt, .ref tb, .ref wk, .ref ma, .ref sp, .int ep, .int st, .int 0, .int 0, .long 0, .int ni, .int tu, .int md])) = h6 at hF hf hn hs ⊢
  refine ar_aload_n 39 d_33_38 rfl rfl ?_
  refine ar_iconst 40 (v := 0) d_33_39 rfl (by decide) ?_
  refine ar_putf 43 [.int me, .ref rk, .ref nt, .ref tb, .ref wk, .ref ma, .ref sp, .int ep, .int st, .int 0, .int 0, .long 0, .int 0, .int tu, .int md] d_33_40 rfl (ci := 9) (k := 12) rfl rfl (hF.at 0 rfl) (Nat.le_of_ble_eq_true rfl) rfl rfl rfl ?_
  replace hF : ax_hs (ax_put h6 ld (.inr (9, [.int me, .ref rk, .ref nt, .ref tb, .ref wk, .ref ma, .ref sp, .int ep, .int st, .int 0, .int 0, .long 0, .int 0, .int tu, .int md]))) [(ld, .inr (9, [.int me, .ref rk, .ref nt, .ref tb, .ref wk, .ref ma, .ref sp, .int ep, .int st, .int 0, .int 0, .long 0, .int 0, .int tu, .int md])), (wk, .inr (10, [.ref tb, .ref wa, .ref wb, .int 0, .int (-1), .int w5, .int w6, .int w7, .int w8, .int w9, .int w10, .int w11, .int w12, .int w13, .int w14])), (tb, .inr (6, [.int g, .ref a1, .ref a2, .ref a3, .ref a4, .ref a5, .ref a6, .ref a7, .long 0, .int 0, .int 0])), (a1, .inl (0, 48, .inl (ax_fill f1 0 48 (-1)))), (a2, .inl (0, 48, .inl (ax_fill f2 0 48 0))), (a5, .inl (0, 512, .inl (ax_fill f5 0 512 (-1)))), (a6, .inl (0, 961, .inl (ax_fill f6 0 961 (-1)))), (a7, .inl (0, 961, .inl (ax_fill f7 0 961 0)))] := hF.put 0 _ rfl rfl
  replace hf := hf.put (a := ld) (c := .inr (9, [.int me, .ref rk, .ref nt, .ref tb, .ref wk, .ref ma, .ref sp, .int ep, .int st, .int 0, .int 0, .long 0, .int 0, .int tu, .int md])) (by simp)
  replace hn : (ax_put h6 ld (.inr (9, [.int me, .ref rk, .ref nt, .ref tb, .ref wk, .ref ma, .ref sp, .int ep, .int st, .int 0, .int 0, .long 0, .int 0, .int tu, .int md]))).1 = n := hn
  replace hs : (ax_put h6 ld (.inr (9, [.int me, .ref rk, .ref nt, .ref tb, .ref wk, .ref ma, .ref sp, .int ep, .int st, .int 0, .int 0, .long 0, .int 0, .int tu, .int md]))).2.1 = sl := hs
  generalize ax_put h6 ld (.inr (9, [.int me, .ref rk, .ref nt, .ref tb, .ref wk, .ref ma, .ref sp, .int ep, .int st, .int 0, .int 0, .long 0, .int 0, .int tu, .int md])) = h7 at hF hf hn hs ⊢
  refine ar_aload_n 44 d_33_43 rfl rfl ?_
  refine ar_iconst 45 (v := 0) d_33_44 rfl (by decide) ?_
  refine ar_putf 48 [.int me, .ref rk, .ref nt, .ref tb, .ref wk, .ref ma, .ref sp, .int ep, .int st, .int 0, .int 0, .long 0, .int 0, .int 0, .int md] d_33_45 rfl (ci := 9) (k := 13) rfl rfl (hF.at 0 rfl) (Nat.le_of_ble_eq_true rfl) rfl rfl rfl ?_
  replace hF : ax_hs (ax_put h7 ld (.inr (9, [.int me, .ref rk, .ref nt, .ref tb, .ref wk, .ref ma, .ref sp, .int ep, .int st, .int 0, .int 0, .long 0, .int 0, .int 0, .int md]))) [(ld, .inr (9, [.int me, .ref rk, .ref nt, .ref tb, .ref wk, .ref ma, .ref sp, .int ep, .int st, .int 0, .int 0, .long 0, .int 0, .int 0, .int md])), (wk, .inr (10, [.ref tb, .ref wa, .ref wb, .int 0, .int (-1), .int w5, .int w6, .int w7, .int w8, .int w9, .int w10, .int w11, .int w12, .int w13, .int w14])), (tb, .inr (6, [.int g, .ref a1, .ref a2, .ref a3, .ref a4, .ref a5, .ref a6, .ref a7, .long 0, .int 0, .int 0])), (a1, .inl (0, 48, .inl (ax_fill f1 0 48 (-1)))), (a2, .inl (0, 48, .inl (ax_fill f2 0 48 0))), (a5, .inl (0, 512, .inl (ax_fill f5 0 512 (-1)))), (a6, .inl (0, 961, .inl (ax_fill f6 0 961 (-1)))), (a7, .inl (0, 961, .inl (ax_fill f7 0 961 0)))] := hF.put 0 _ rfl rfl
  replace hf := hf.put (a := ld) (c := .inr (9, [.int me, .ref rk, .ref nt, .ref tb, .ref wk, .ref ma, .ref sp, .int ep, .int st, .int 0, .int 0, .long 0, .int 0, .int 0, .int md])) (by simp)
  replace hn : (ax_put h7 ld (.inr (9, [.int me, .ref rk, .ref nt, .ref tb, .ref wk, .ref ma, .ref sp, .int ep, .int st, .int 0, .int 0, .long 0, .int 0, .int 0, .int md]))).1 = n := hn
  replace hs : (ax_put h7 ld (.inr (9, [.int me, .ref rk, .ref nt, .ref tb, .ref wk, .ref ma, .ref sp, .int ep, .int st, .int 0, .int 0, .long 0, .int 0, .int 0, .int md]))).2.1 = sl := hs
  generalize ax_put h7 ld (.inr (9, [.int me, .ref rk, .ref nt, .ref tb, .ref wk, .ref ma, .ref sp, .int ep, .int st, .int 0, .int 0, .long 0, .int 0, .int 0, .int md])) = h8 at hF hf hn hs ⊢
  refine ar_aload_n 49 d_33_48 rfl rfl ?_
  refine ar_iconst 50 (v := 0) d_33_49 rfl (by decide) ?_
  refine ar_putf 53 [.int me, .ref rk, .ref nt, .ref tb, .ref wk, .ref ma, .ref sp, .int ep, .int st, .int 0, .int 0, .long 0, .int 0, .int 0, .int 0] d_33_50 rfl (ci := 9) (k := 14) rfl rfl (hF.at 0 rfl) (Nat.le_of_ble_eq_true rfl) rfl rfl rfl ?_
  replace hF : ax_hs (ax_put h8 ld (.inr (9, [.int me, .ref rk, .ref nt, .ref tb, .ref wk, .ref ma, .ref sp, .int ep, .int st, .int 0, .int 0, .long 0, .int 0, .int 0, .int 0]))) [(ld, .inr (9, [.int me, .ref rk, .ref nt, .ref tb, .ref wk, .ref ma, .ref sp, .int ep, .int st, .int 0, .int 0, .long 0, .int 0, .int 0, .int 0])), (wk, .inr (10, [.ref tb, .ref wa, .ref wb, .int 0, .int (-1), .int w5, .int w6, .int w7, .int w8, .int w9, .int w10, .int w11, .int w12, .int w13, .int w14])), (tb, .inr (6, [.int g, .ref a1, .ref a2, .ref a3, .ref a4, .ref a5, .ref a6, .ref a7, .long 0, .int 0, .int 0])), (a1, .inl (0, 48, .inl (ax_fill f1 0 48 (-1)))), (a2, .inl (0, 48, .inl (ax_fill f2 0 48 0))), (a5, .inl (0, 512, .inl (ax_fill f5 0 512 (-1)))), (a6, .inl (0, 961, .inl (ax_fill f6 0 961 (-1)))), (a7, .inl (0, 961, .inl (ax_fill f7 0 961 0)))] := hF.put 0 _ rfl rfl
  replace hf := hf.put (a := ld) (c := .inr (9, [.int me, .ref rk, .ref nt, .ref tb, .ref wk, .ref ma, .ref sp, .int ep, .int st, .int 0, .int 0, .long 0, .int 0, .int 0, .int 0])) (by simp)
  replace hn : (ax_put h8 ld (.inr (9, [.int me, .ref rk, .ref nt, .ref tb, .ref wk, .ref ma, .ref sp, .int ep, .int st, .int 0, .int 0, .long 0, .int 0, .int 0, .int 0]))).1 = n := hn
  replace hs : (ax_put h8 ld (.inr (9, [.int me, .ref rk, .ref nt, .ref tb, .ref wk, .ref ma, .ref sp, .int ep, .int st, .int 0, .int 0, .long 0, .int 0, .int 0, .int 0]))).2.1 = sl := hs
  generalize ax_put h8 ld (.inr (9, [.int me, .ref rk, .ref nt, .ref tb, .ref wk, .ref ma, .ref sp, .int ep, .int st, .int 0, .int 0, .long 0, .int 0, .int 0, .int 0])) = h9 at hF hf hn hs ⊢
  have hF := hF.sub (F' := [(ld, .inr (9, [.int me, .ref rk, .ref nt, .ref tb, .ref wk, .ref ma, .ref sp, .int ep, .int st, .int 0, .int 0, .long 0, .int 0, .int 0, .int 0])), (tb, .inr (6, [.int g, .ref a1, .ref a2, .ref a3, .ref a4, .ref a5, .ref a6, .ref a7, .long 0, .int 0, .int 0])), (wk, .inr (10, [.ref tb, .ref wa, .ref wb, .int 0, .int (-1), .int w5, .int w6, .int w7, .int w8, .int w9, .int w10, .int w11, .int w12, .int w13, .int w14])), (a1, .inl (0, 48, .inl (ax_fill f1 0 48 (-1)))), (a2, .inl (0, 48, .inl (ax_fill f2 0 48 0))), (a5, .inl (0, 512, .inl (ax_fill f5 0 512 (-1)))), (a6, .inl (0, 961, .inl (ax_fill f6 0 961 (-1)))), (a7, .inl (0, 961, .inl (ax_fill f7 0 961 0)))]) [0, 2, 1, 3, 4, 5, 6, 7] rfl rfl
  exact ar_ret d_33_53 rfl (⟨rfl, hF, hn, hs, hf⟩)
/-- poll, whatever is under way: all that comes keeps P -/
theorem lp_35 {L : Nat} {xs : Nat → Int32} {fr lo ld rk nt w q nn gg o tb wk ma sp : Nat} {C me ep st hd cl ni tu md : Int32} {ak : Int64} {u b : Nat → Int32} {P : (Nat → Int32) → Prop} {post : ax_Po} (hfr : 1 ≤ fr) (hlo : 26 ≤ lo) (hnn : nn ≤ 6) (hA1 : ¬ NTA nt w ld) (hA2 : ¬ NTA nt w rk) (hP : ∀ n, n < nn → P (mg 4 me (nI n) ep st)) : ∀ (k i : Nat) (h : ax_H), i + k = nn → ax_hs h [(ld, .inr (9, [.int me, .ref rk, .ref nt, .ref tb, .ref wk, .ref ma, .ref sp, .int ep, .int st, .int hd, .int cl, .long ak, .int ni, .int tu, .int md])), (rk, .inr (3, [.int (nI nn), .int C, .int (nI gg), .ref o]))] → NTP h nt w P q u b → (∀ h', NTP h' nt w P q u b → ax_fr (NTA nt w) h h' → h'.1 = h.1 → h'.2.1 = h.2.1 → post none h') → ax_A (ax_step L xs) ((35, 2, fr, lo), [(0, .ref ld), (1, .int (nI i))], [], h) post := by
  intro k
  induction k with
  | zero =>
    intro i h hi hF hN kk
    have e : i = nn := by omega
    subst e
    refine ar_iload_n 3 d_35_2 rfl rfl ?_
    refine ar_aload_n 4 d_35_3 rfl rfl ?_
    refine ar_getf 7 d_35_4 rfl (ci := 9) (k := 1) rfl (hF.at 0 rfl) rfl ?_
    refine ar_getf 10 d_35_7 rfl (ci := 3) (k := 0) rfl (hF.at 1 rfl) rfl ?_
    refine ar_icmp_ge 52 13 d_35_10 (by decide) rfl (fun _ => ?_) (fun c => absurd (nI_le (Nat.le_refl _) (by omega)) c)
    exact ar_ret d_35_52 rfl (kk h hN ax_fr.rf rfl rfl)
  | succ k ih =>
    intro i h hi hF hN kk
    have hin : i < nn := by omega
    refine ar_iload_n 3 d_35_2 rfl rfl ?_
    refine ar_aload_n 4 d_35_3 rfl rfl ?_
    refine ar_getf 7 d_35_4 rfl (ci := 9) (k := 1) rfl (hF.at 0 rfl) rfl ?_
    refine ar_getf 10 d_35_7 rfl (ci := 3) (k := 0) rfl (hF.at 1 rfl) rfl ?_
    refine ar_icmp_ge 52 13 d_35_10 (by decide) rfl (fun c => absurd c (nI_ge hin (by omega))) (fun _ => ?_)
    refine ar_aload_n 14 d_35_13 rfl rfl ?_
    refine ar_getf 17 d_35_14 rfl (ci := 9) (k := 10) rfl (hF.at 0 rfl) rfl ?_
    refine ar_iload_n 18 d_35_17 rfl rfl ?_
    refine ar_ishr 19 d_35_18 rfl ?_
    refine ar_iconst 20 (v := 1) d_35_19 rfl (by decide) ?_
    refine ar_iand 21 d_35_20 rfl ?_
    refine ar_if_ne 46 24 d_35_21 (by decide) rfl (fun c1 => ?_) (fun c1 => ?_)
    · refine ar_iinc 49 [(0, .ref ld), (1, .int (nI (i + 1)))] d_35_46 rfl rfl (nI_1 i) (by decide) rfl ?_
      refine ar_goto 2 d_35_49 (by decide) ?_
      exact ih (i + 1) h (by omega) hF hN kk
    · refine ar_aload_n 25 d_35_24 rfl rfl ?_
      refine ar_getf 28 d_35_25 rfl (ci := 9) (k := 2) rfl (hF.at 0 rfl) rfl ?_
      refine ar_iconst 29 (v := 4) d_35_28 rfl (by decide) ?_
      refine ar_aload_n 30 d_35_29 rfl rfl ?_
      refine ar_getf 33 d_35_30 rfl (ci := 9) (k := 0) rfl (hF.at 0 rfl) rfl ?_
      refine ar_iload_n 34 d_35_33 rfl rfl ?_
      refine ar_aload_n 35 d_35_34 rfl rfl ?_
      refine ar_getf 38 d_35_35 rfl (ci := 9) (k := 7) rfl (hF.at 0 rfl) rfl ?_
      refine ar_aload_n 39 d_35_38 rfl rfl ?_
      refine ar_getf 42 d_35_39 rfl (ci := 9) (k := 8) rfl (hF.at 0 rfl) rfl ?_
      obtain ⟨ids, ms, hL, -⟩ := id hN
      obtain ⟨za, zc, hnet⟩ := hL.net
      refine ar_call (r := []) (na := 0) (kd := 0) (cm := 36) (fr2 := fr - 1) (lo2 := lo - 26) 45 d_35_42 (ar_hoV (as := [.int 4, .int me, .int (nI i), .int ep, .int st]) rfl rfl rfl hnet) rfl (by omega) (show lo - 26 + (19 + 7) = lo by omega) (Nat.le_of_ble_eq_true rfl) (Nat.le_of_ble_eq_true rfl) (c_36P hN (hP i hin)) ?_
      intro v h2 hq
      obtain ⟨m, -, rfl, hN2, hf2, hz1, hz2⟩ := hq
      have hF2 := hF.fr hf2 (by intro x hx; simp at hx; rcases hx with rfl | rfl <;> assumption)
      refine ar_pop 46 d_35_45 rfl rfl ?_
      refine ar_iinc 49 [(0, .ref ld), (1, .int (nI (i + 1)))] d_35_46 rfl rfl (nI_1 i) (by decide) rfl ?_
      refine ar_goto 2 d_35_49 (by decide) ?_
      exact ih (i + 1) h2 (by omega) hF2 hN2 (fun h' j1 j2 j3 j4 => kk h' j1 (hf2.tr j2) (j3.trans hz1) (j4.trans hz2))
theorem c_35P {L : Nat} {xs : Nat → Int32} {fr lo ld rk nt w q nn gg o tb wk ma sp : Nat} {C me ep st hd cl ni tu md : Int32} {ak : Int64} {u b : Nat → Int32} {P : (Nat → Int32) → Prop} {h : ax_H} (hfr : 1 ≤ fr) (hlo : 26 ≤ lo) (hnn : nn ≤ 6) (hA1 : ¬ NTA nt w ld) (hA2 : ¬ NTA nt w rk) (hP : ∀ n, n < nn → P (mg 4 me (nI n) ep st)) (hF : ax_hs h [(ld, .inr (9, [.int me, .ref rk, .ref nt, .ref tb, .ref wk, .ref ma, .ref sp, .int ep, .int st, .int hd, .int cl, .long ak, .int ni, .int tu, .int md])), (rk, .inr (3, [.int (nI nn), .int C, .int (nI gg), .ref o]))]) (hN : NTP h nt w P q u b) : ax_M L xs 35 fr lo [.ref ld] h (fun r h' => r = none ∧ NTP h' nt w P q u b ∧ ax_fr (NTA nt w) h h' ∧ h'.1 = h.1 ∧ h'.2.1 = h.2.1) := by
  show ax_A (ax_step L xs) ((35, 0, fr, lo), [(0, .ref ld)], [], h) _
  refine ar_iconst 1 (v := 0) d_35_0 rfl (by decide) ?_
  refine ar_istore_n 2 [(0, .ref ld), (1, .int 0)] d_35_1 rfl (by decide) rfl ?_
  exact lp_35 hfr hlo hnn hA1 hA2 hP nn 0 h (Nat.zero_add nn) hF hN (fun h' j1 j2 j3 j4 => ⟨rfl, j1, j2, j3, j4⟩)

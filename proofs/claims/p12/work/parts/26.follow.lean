/-! cells of a world at different places are apart -/
theorem ax_hs.apart {h : ax_H} {W : List (Nat × va_E)} {As : List Nat} {x : Nat} {c : va_E} (hF : ax_hs h W) (j : Nat) (is : List Nat) (hd : is.contains j = false) (hj : W[j]? = some (x, c)) (hA : is.map (fun i => (W[i]?).map (·.1)) = As.map some) : ¬ x ∈ As := by
  intro hx
  have hm : some x ∈ is.map (fun i => (W[i]?).map (·.1)) := by
    rw [hA]
    exact List.mem_map.mpr ⟨x, hx, rfl⟩
  obtain ⟨i, hi, he⟩ := List.mem_map.mp hm
  obtain ⟨⟨a, c'⟩, w1, w2⟩ := Option.map_eq_some_iff.mp he
  have w2' : a = x := w2
  subst w2'
  have := hF.1 i j _ _ w1 hj rfl
  subst this
  simp at hd
  exact hd hi
theorem ax_hs.apart2 {h : ax_H} {W F G : List (Nat × va_E)} (hF : ax_hs h W) (js is : List Nat) (hd : js.all (fun j => !is.contains j) = true) (hj : js.map (fun i => W[i]?) = F.map some) (hi : is.map (fun i => (W[i]?).map (·.1)) = (G.map (·.1)).map some) {i j : Nat} {p q : Nat × va_E} (hp : F[i]? = some p) (hq : G[j]? = some q) : p.1 ≠ q.1 := by
  intro e
  obtain ⟨a, a1, a2⟩ := ax_pick hj hp
  have hm : some q.1 ∈ is.map (fun i => (W[i]?).map (·.1)) := by
    rw [hi]
    exact List.mem_map.mpr ⟨q.1, List.mem_map.mpr ⟨q, List.mem_of_getElem? hq, rfl⟩, rfl⟩
  obtain ⟨k, hk, he⟩ := List.mem_map.mp hm
  obtain ⟨⟨z, c'⟩, w1, w2⟩ := Option.map_eq_some_iff.mp he
  have w2' : z = q.1 := w2
  have := hF.1 a k p (z, c') a2 w1 (e.trans w2'.symm)
  subst this
  have h2 := List.all_eq_true.mp hd a (List.mem_of_getElem? a1)
  simp at h2
  exact h2 hk
/-! Node: leads, follow; Disk.isWhole; readDisk; wake -/
theorem c_30T {L : Nat} {xs : Nat → Int32} {fr lo nd rk nt dk ld tg nn gg o : Nat} {C me up ne ns : Int32} {f : Nat → Int32} {h : ax_H} (hfr : 1 ≤ fr) (hlo : 26 ≤ lo) (hgg : gg ≤ 16) (hg1 : 0 < gg) (hnn : nn ≤ 6) (hl : nof f 0 ns nn 0 0 = me) (hF : ax_hs h [(nd, .inr (7, [.int me, .ref rk, .ref nt, .ref dk, .ref ld, .ref tg, .int up, .int ne, .int ns])), (rk, .inr (3, [.int (nI nn), .int C, .int (nI gg), .ref o])), (o, .inl (0, gg * nn, .inl f))]) : ax_M L xs 30 fr lo [.ref nd] h (fun r h' => r = some (.int 1) ∧ h' = h) := by
  have hl2 := hl
  rw [show (0 : Nat) = 0 * nn by omega] at hl2
  show ax_A (ax_step L xs) ((30, 0, fr, lo), [(0, .ref nd)], [], h) _
  refine ar_aload_n 1 d_30_0 rfl rfl ?_
  refine ar_getf 4 d_30_1 rfl (ci := 7) (k := 1) rfl (hF.at 0 rfl) rfl ?_
  refine ar_iconst 5 (v := 0) d_30_4 rfl (by decide) ?_
  refine ar_iconst 6 (v := 0) d_30_5 rfl (by decide) ?_
  refine ar_aload_n 7 d_30_6 rfl rfl ?_
  refine ar_getf 10 d_30_7 rfl (ci := 7) (k := 8) rfl (hF.at 0 rfl) rfl ?_
  refine ar_call (r := []) (na := 0) (kd := 0) (cm := 31) (fr2 := fr - 1) (lo2 := lo - 26) 13 d_30_10 (ar_hoV (as := [.int 0, .int 0, .int ns]) rfl rfl rfl (hF.at 1 rfl)) rfl (by omega) (show lo - 26 + (19 + 7) = lo by omega) (Nat.le_of_ble_eq_true rfl) (Nat.le_of_ble_eq_true rfl) (c_31 (g := 0) hgg hnn hg1 (hF.sub (F' := [(rk, .inr (3, [.int (nI nn), .int C, .int (nI gg), .ref o])), (o, .inl (0, gg * nn, .inl f))]) [1, 2] rfl rfl)) ?_
  intro v hh hq
  obtain ⟨rfl, ehh⟩ := hq
  rw [ehh]
  clear ehh
  refine ar_aload_n 14 d_30_13 rfl rfl ?_
  refine ar_getf 17 d_30_14 rfl (ci := 7) (k := 0) rfl (hF.at 0 rfl) rfl ?_
  refine ar_icmp_ne 24 20 d_30_17 (by decide) rfl (fun c => absurd c (fun z => z hl2)) (fun _ => ?_)
  refine ar_iconst 21 (v := 1) d_30_20 rfl (by decide) ?_
  refine ar_goto 25 d_30_21 (by decide) ?_
  exact ar_iret d_30_25 rfl rfl (⟨rfl, rfl⟩)
theorem c_30F {L : Nat} {xs : Nat → Int32} {fr lo nd rk nt dk ld tg nn gg o : Nat} {C me up ne ns : Int32} {f : Nat → Int32} {h : ax_H} (hfr : 1 ≤ fr) (hlo : 26 ≤ lo) (hgg : gg ≤ 16) (hg1 : 0 < gg) (hnn : nn ≤ 6) (hl : ¬ nof f 0 ns nn 0 0 = me) (hF : ax_hs h [(nd, .inr (7, [.int me, .ref rk, .ref nt, .ref dk, .ref ld, .ref tg, .int up, .int ne, .int ns])), (rk, .inr (3, [.int (nI nn), .int C, .int (nI gg), .ref o])), (o, .inl (0, gg * nn, .inl f))]) : ax_M L xs 30 fr lo [.ref nd] h (fun r h' => r = some (.int 0) ∧ h' = h) := by
  have hl2 := hl
  rw [show (0 : Nat) = 0 * nn by omega] at hl2
  show ax_A (ax_step L xs) ((30, 0, fr, lo), [(0, .ref nd)], [], h) _
  refine ar_aload_n 1 d_30_0 rfl rfl ?_
  refine ar_getf 4 d_30_1 rfl (ci := 7) (k := 1) rfl (hF.at 0 rfl) rfl ?_
  refine ar_iconst 5 (v := 0) d_30_4 rfl (by decide) ?_
  refine ar_iconst 6 (v := 0) d_30_5 rfl (by decide) ?_
  refine ar_aload_n 7 d_30_6 rfl rfl ?_
  refine ar_getf 10 d_30_7 rfl (ci := 7) (k := 8) rfl (hF.at 0 rfl) rfl ?_
  refine ar_call (r := []) (na := 0) (kd := 0) (cm := 31) (fr2 := fr - 1) (lo2 := lo - 26) 13 d_30_10 (ar_hoV (as := [.int 0, .int 0, .int ns]) rfl rfl rfl (hF.at 1 rfl)) rfl (by omega) (show lo - 26 + (19 + 7) = lo by omega) (Nat.le_of_ble_eq_true rfl) (Nat.le_of_ble_eq_true rfl) (c_31 (g := 0) hgg hnn hg1 (hF.sub (F' := [(rk, .inr (3, [.int (nI nn), .int C, .int (nI gg), .ref o])), (o, .inl (0, gg * nn, .inl f))]) [1, 2] rfl rfl)) ?_
  intro v hh hq
  obtain ⟨rfl, ehh⟩ := hq
  rw [ehh]
  clear ehh
  refine ar_aload_n 14 d_30_13 rfl rfl ?_
  refine ar_getf 17 d_30_14 rfl (ci := 7) (k := 0) rfl (hF.at 0 rfl) rfl ?_
  refine ar_icmp_ne 24 20 d_30_17 (by decide) rfl (fun _ => ?_) (fun c => absurd (hl2) c)
  refine ar_iconst 25 (v := 0) d_30_24 rfl (by decide) ?_
  exact ar_iret d_30_25 rfl rfl (⟨rfl, rfl⟩)
theorem c_29L {L : Nat} {xs : Nat → Int32} {fr lo w q nn gg o n sl nd dk tg : Nat} {ld rk nt tb wk ma sp wa wb a1 a2 a3 a4 a5 a6 a7 : Nat} {me ep st hd cl ni tu md g fl an ws wo w5 w6 w7 w8 w9 w10 w11 w12 w13 w14 : Int32} {ak kn : Int64} {f1 f2 f5 f6 f7 : Nat → Int32} {C e2 s2 up ne ns : Int32} {f fm u b : Nat → Int32} {h : ax_H} {ids : List Nat} {ms : List Mg} (hfr : 4 ≤ fr) (hlo : 86 ≤ lo) (hgg : gg ≤ 16) (hg1 : 0 < gg) (hnn : nn ≤ 6) (hA_nd : ¬ NTA nt w nd) (hA_ld : ¬ NTA nt w ld) (hA_tb : ¬ NTA nt w tb) (hA_wk : ¬ NTA nt w wk) (hA_a1 : ¬ NTA nt w a1) (hA_a2 : ¬ NTA nt w a2) (hA_a5 : ¬ NTA nt w a5) (hA_a6 : ¬ NTA nt w a6) (hA_a7 : ¬ NTA nt w a7) (hA_ma : ¬ NTA nt w ma) (hA_rk : ¬ NTA nt w rk) (hA_o : ¬ NTA nt w o) (hld : nof f 0 s2 nn 0 0 = me) (hl : ids.length + nn < 128) (hN : NTL h nt w ids ms q u b) (hF : ax_hs h [(nd, .inr (7, [.int me, .ref rk, .ref nt, .ref dk, .ref ld, .ref tg, .int up, .int ne, .int ns])), (ld, .inr (9, [.int me, .ref rk, .ref nt, .ref tb, .ref wk, .ref ma, .ref sp, .int ep, .int st, .int hd, .int cl, .long ak, .int ni, .int tu, .int md])), (tb, .inr (6, [.int g, .ref a1, .ref a2, .ref a3, .ref a4, .ref a5, .ref a6, .ref a7, .long kn, .int fl, .int an])), (wk, .inr (10, [.ref tb, .ref wa, .ref wb, .int ws, .int wo, .int w5, .int w6, .int w7, .int w8, .int w9, .int w10, .int w11, .int w12, .int w13, .int w14])), (a1, .inl (0, 48, .inl f1)), (a2, .inl (0, 48, .inl f2)), (a5, .inl (0, 512, .inl f5)), (a6, .inl (0, 961, .inl f6)), (a7, .inl (0, 961, .inl f7)), (ma, .inl (0, 16, .inl fm)), (rk, .inr (3, [.int (nI nn), .int C, .int (nI gg), .ref o])), (o, .inl (0, gg * nn, .inl f))]) (hn : h.1 = n) (hs : h.2.1 = sl) (hn0 : 0 < n) : ax_M L xs 29 fr lo [.ref nd, .int e2, .int s2] h (fun r h' => ∃ fm' ids' ms', r = none ∧ ax_hs h' [(nd, .inr (7, [.int me, .ref rk, .ref nt, .ref dk, .ref ld, .ref tg, .int up, .int e2, .int s2])), (ld, .inr (9, [.int me, .ref rk, .ref nt, .ref tb, .ref wk, .ref ma, .ref sp, .int e2, .int s2, .int 0, .int 0, .long 0, .int 0, .int 0, .int 0])), (tb, .inr (6, [.int g, .ref a1, .ref a2, .ref a3, .ref a4, .ref a5, .ref a6, .ref a7, .long 0, .int 0, .int 0])), (wk, .inr (10, [.ref tb, .ref wa, .ref wb, .int 0, .int (-1), .int w5, .int w6, .int w7, .int w8, .int w9, .int w10, .int w11, .int w12, .int w13, .int w14])), (a1, .inl (0, 48, .inl (ax_fill f1 0 48 (-1)))), (a2, .inl (0, 48, .inl (ax_fill f2 0 48 0))), (a5, .inl (0, 512, .inl (ax_fill f5 0 512 (-1)))), (a6, .inl (0, 961, .inl (ax_fill f6 0 961 (-1)))), (a7, .inl (0, 961, .inl (ax_fill f7 0 961 0))), (ma, .inl (0, 16, .inl fm')), (rk, .inr (3, [.int (nI nn), .int C, .int (nI gg), .ref o])), (o, .inl (0, gg * nn, .inl f))] ∧ NTL h' nt w ids' ms' q u b ∧ ms'.map (·.1) = ms.map (·.1) ++ (List.range' 0 nn).map (fun n => mg 4 me (nI n) e2 s2) ∧ h'.1 = n ∧ h'.2.1 = sl ∧ ax_fr (fun x => NTA nt w x ∨ x ∈ [nd, ld, tb, wk, a1, a2, a5, a6, a7, ma]) h h') := by
  show ax_A (ax_step L xs) ((29, 0, fr, lo), [(0, .ref nd), (1, .int e2), (2, .int s2)], [], h) _
  have hbase : h.1 = n := hn
  have hbasl : h.2.1 = sl := hs
  have hf : ax_fr (fun x => x ∈ [nd, ld, tb, wk, a1, a2, a5, a6, a7, ma]) h h := ax_fr.rf
  refine ar_aload_n 1 d_29_0 rfl rfl ?_
  refine ar_iload_n 2 d_29_1 rfl rfl ?_
  refine ar_putf 5 [.int me, .ref rk, .ref nt, .ref dk, .ref ld, .ref tg, .int up, .int e2, .int ns] d_29_2 rfl (ci := 7) (k := 7) rfl rfl (hF.at 0 rfl) (Nat.le_of_ble_eq_true rfl) rfl rfl rfl ?_
  replace hF : ax_hs (ax_put h nd (.inr (7, [.int me, .ref rk, .ref nt, .ref dk, .ref ld, .ref tg, .int up, .int e2, .int ns]))) [(nd, .inr (7, [.int me, .ref rk, .ref nt, .ref dk, .ref ld, .ref tg, .int up, .int e2, .int ns])), (ld, .inr (9, [.int me, .ref rk, .ref nt, .ref tb, .ref wk, .ref ma, .ref sp, .int ep, .int st, .int hd, .int cl, .long ak, .int ni, .int tu, .int md])), (tb, .inr (6, [.int g, .ref a1, .ref a2, .ref a3, .ref a4, .ref a5, .ref a6, .ref a7, .long kn, .int fl, .int an])), (wk, .inr (10, [.ref tb, .ref wa, .ref wb, .int ws, .int wo, .int w5, .int w6, .int w7, .int w8, .int w9, .int w10, .int w11, .int w12, .int w13, .int w14])), (a1, .inl (0, 48, .inl f1)), (a2, .inl (0, 48, .inl f2)), (a5, .inl (0, 512, .inl f5)), (a6, .inl (0, 961, .inl f6)), (a7, .inl (0, 961, .inl f7)), (ma, .inl (0, 16, .inl fm)), (rk, .inr (3, [.int (nI nn), .int C, .int (nI gg), .ref o])), (o, .inl (0, gg * nn, .inl f))] := hF.put 0 _ rfl rfl
  replace hf := hf.put (a := nd) (c := .inr (7, [.int me, .ref rk, .ref nt, .ref dk, .ref ld, .ref tg, .int up, .int e2, .int ns])) (by simp)
  replace hn : (ax_put h nd (.inr (7, [.int me, .ref rk, .ref nt, .ref dk, .ref ld, .ref tg, .int up, .int e2, .int ns]))).1 = n := hn
  replace hs : (ax_put h nd (.inr (7, [.int me, .ref rk, .ref nt, .ref dk, .ref ld, .ref tg, .int up, .int e2, .int ns]))).2.1 = sl := hs
  generalize ax_put h nd (.inr (7, [.int me, .ref rk, .ref nt, .ref dk, .ref ld, .ref tg, .int up, .int e2, .int ns])) = h1 at hF hf hn hs ⊢
  refine ar_aload_n 6 d_29_5 rfl rfl ?_
  refine ar_iload_n 7 d_29_6 rfl rfl ?_
  refine ar_putf 10 [.int me, .ref rk, .ref nt, .ref dk, .ref ld, .ref tg, .int up, .int e2, .int s2] d_29_7 rfl (ci := 7) (k := 8) rfl rfl (hF.at 0 rfl) (Nat.le_of_ble_eq_true rfl) rfl rfl rfl ?_
  replace hF : ax_hs (ax_put h1 nd (.inr (7, [.int me, .ref rk, .ref nt, .ref dk, .ref ld, .ref tg, .int up, .int e2, .int s2]))) [(nd, .inr (7, [.int me, .ref rk, .ref nt, .ref dk, .ref ld, .ref tg, .int up, .int e2, .int s2])), (ld, .inr (9, [.int me, .ref rk, .ref nt, .ref tb, .ref wk, .ref ma, .ref sp, .int ep, .int st, .int hd, .int cl, .long ak, .int ni, .int tu, .int md])), (tb, .inr (6, [.int g, .ref a1, .ref a2, .ref a3, .ref a4, .ref a5, .ref a6, .ref a7, .long kn, .int fl, .int an])), (wk, .inr (10, [.ref tb, .ref wa, .ref wb, .int ws, .int wo, .int w5, .int w6, .int w7, .int w8, .int w9, .int w10, .int w11, .int w12, .int w13, .int w14])), (a1, .inl (0, 48, .inl f1)), (a2, .inl (0, 48, .inl f2)), (a5, .inl (0, 512, .inl f5)), (a6, .inl (0, 961, .inl f6)), (a7, .inl (0, 961, .inl f7)), (ma, .inl (0, 16, .inl fm)), (rk, .inr (3, [.int (nI nn), .int C, .int (nI gg), .ref o])), (o, .inl (0, gg * nn, .inl f))] := hF.put 0 _ rfl rfl
  replace hf := hf.put (a := nd) (c := .inr (7, [.int me, .ref rk, .ref nt, .ref dk, .ref ld, .ref tg, .int up, .int e2, .int s2])) (by simp)
  replace hn : (ax_put h1 nd (.inr (7, [.int me, .ref rk, .ref nt, .ref dk, .ref ld, .ref tg, .int up, .int e2, .int s2]))).1 = n := hn
  replace hs : (ax_put h1 nd (.inr (7, [.int me, .ref rk, .ref nt, .ref dk, .ref ld, .ref tg, .int up, .int e2, .int s2]))).2.1 = sl := hs
  generalize ax_put h1 nd (.inr (7, [.int me, .ref rk, .ref nt, .ref dk, .ref ld, .ref tg, .int up, .int e2, .int s2])) = h2 at hF hf hn hs ⊢
  refine ar_aload_n 11 d_29_10 rfl rfl ?_
  refine ar_call (r := []) (na := 0) (kd := 0) (cm := 30) (fr2 := fr - 1) (lo2 := lo - 20) 14 d_29_11 (ar_hoV (as := []) rfl rfl rfl (hF.at 0 rfl)) rfl (by omega) (show lo - 20 + (19 + 1) = lo by omega) (Nat.le_of_ble_eq_true rfl) (Nat.le_of_ble_eq_true rfl) (c_30T (by omega) (by omega) hgg hg1 hnn hld (hF.sub (F' := [(nd, .inr (7, [.int me, .ref rk, .ref nt, .ref dk, .ref ld, .ref tg, .int up, .int e2, .int s2])), (rk, .inr (3, [.int (nI nn), .int C, .int (nI gg), .ref o])), (o, .inl (0, gg * nn, .inl f))]) [0, 10, 11] rfl rfl)) ?_
  intro v hh hq
  obtain ⟨rfl, ehh⟩ := hq
  rw [ehh]
  clear ehh
  refine ar_if_eq 35 17 d_29_14 (by decide) rfl (fun c => absurd c (by decide)) (fun _ => ?_)
  refine ar_aload_n 18 d_29_17 rfl rfl ?_
  refine ar_getf 21 d_29_18 rfl (ci := 7) (k := 4) rfl (hF.at 0 rfl) rfl ?_
  refine ar_aload_n 22 d_29_21 rfl rfl ?_
  refine ar_getf 25 d_29_22 rfl (ci := 7) (k := 7) rfl (hF.at 0 rfl) rfl ?_
  refine ar_aload_n 26 d_29_25 rfl rfl ?_
  refine ar_getf 29 d_29_26 rfl (ci := 7) (k := 8) rfl (hF.at 0 rfl) rfl ?_
  have hN := hN.fr hf (by intro x hx hB; simp at hB; rcases hB with rfl | rfl | rfl | rfl | rfl | rfl | rfl | rfl | rfl | rfl <;> exact absurd hx (by assumption))
  refine ar_call (r := []) (na := 0) (kd := 0) (cm := 32) (fr2 := fr - 1) (lo2 := lo - 23) 32 d_29_29 (ar_hoV (as := [.int e2, .int s2]) rfl rfl rfl (hF.at 1 rfl)) rfl (by omega) (show lo - 23 + (19 + 4) = lo by omega) (Nat.le_of_ble_eq_true rfl) (Nat.le_of_ble_eq_true rfl) (c_32L (by omega) (by omega) hgg hnn hA_ld hA_tb hA_wk hA_a1 hA_a2 hA_a5 hA_a6 hA_a7 hA_ma hA_rk hA_o hl hN (hF.sub (F' := [(ld, .inr (9, [.int me, .ref rk, .ref nt, .ref tb, .ref wk, .ref ma, .ref sp, .int ep, .int st, .int hd, .int cl, .long ak, .int ni, .int tu, .int md])), (tb, .inr (6, [.int g, .ref a1, .ref a2, .ref a3, .ref a4, .ref a5, .ref a6, .ref a7, .long kn, .int fl, .int an])), (wk, .inr (10, [.ref tb, .ref wa, .ref wb, .int ws, .int wo, .int w5, .int w6, .int w7, .int w8, .int w9, .int w10, .int w11, .int w12, .int w13, .int w14])), (a1, .inl (0, 48, .inl f1)), (a2, .inl (0, 48, .inl f2)), (a5, .inl (0, 512, .inl f5)), (a6, .inl (0, 961, .inl f6)), (a7, .inl (0, 961, .inl f7)), (ma, .inl (0, 16, .inl fm)), (rk, .inr (3, [.int (nI nn), .int C, .int (nI gg), .ref o])), (o, .inl (0, gg * nn, .inl f))]) [1, 2, 3, 4, 5, 6, 7, 8, 9, 10, 11] rfl rfl) hn hs (by omega)) ?_
  intro v h9 hq
  obtain ⟨fm', ids', ms', rfl, qF, hN2, hms, qn, qs, qf⟩ := hq
  have hR : ax_hs h9 [(nd, .inr (7, [.int me, .ref rk, .ref nt, .ref dk, .ref ld, .ref tg, .int up, .int e2, .int s2]))] := (hF.sub (F' := [(nd, .inr (7, [.int me, .ref rk, .ref nt, .ref dk, .ref ld, .ref tg, .int up, .int e2, .int s2]))]) [0] rfl rfl).fr qf (by intro x hx; simp at hx; subst hx; intro z; rcases z with z | z; exact hA_nd z; exact ax_hs.apart hF 0 [1, 2, 3, 4, 5, 6, 7, 8, 9] (by decide) rfl rfl z)
  have hF : ax_hs h9 [(nd, .inr (7, [.int me, .ref rk, .ref nt, .ref dk, .ref ld, .ref tg, .int up, .int e2, .int s2])), (ld, .inr (9, [.int me, .ref rk, .ref nt, .ref tb, .ref wk, .ref ma, .ref sp, .int e2, .int s2, .int 0, .int 0, .long 0, .int 0, .int 0, .int 0])), (tb, .inr (6, [.int g, .ref a1, .ref a2, .ref a3, .ref a4, .ref a5, .ref a6, .ref a7, .long 0, .int 0, .int 0])), (wk, .inr (10, [.ref tb, .ref wa, .ref wb, .int 0, .int (-1), .int w5, .int w6, .int w7, .int w8, .int w9, .int w10, .int w11, .int w12, .int w13, .int w14])), (a1, .inl (0, 48, .inl (ax_fill f1 0 48 (-1)))), (a2, .inl (0, 48, .inl (ax_fill f2 0 48 0))), (a5, .inl (0, 512, .inl (ax_fill f5 0 512 (-1)))), (a6, .inl (0, 961, .inl (ax_fill f6 0 961 (-1)))), (a7, .inl (0, 961, .inl (ax_fill f7 0 961 0))), (ma, .inl (0, 16, .inl fm')), (rk, .inr (3, [.int (nI nn), .int C, .int (nI gg), .ref o])), (o, .inl (0, gg * nn, .inl f))] := hR.app qF (by intro i j p q hp hq; exact ax_hs.apart2 hF [0] [1, 2, 3, 4, 5, 6, 7, 8, 9, 10, 11] (by decide) rfl rfl hp hq)
  refine ar_goto 42 d_29_32 (by decide) ?_
  have hF3 := hF.sub (F' := [(nd, .inr (7, [.int me, .ref rk, .ref nt, .ref dk, .ref ld, .ref tg, .int up, .int e2, .int s2])), (ld, .inr (9, [.int me, .ref rk, .ref nt, .ref tb, .ref wk, .ref ma, .ref sp, .int e2, .int s2, .int 0, .int 0, .long 0, .int 0, .int 0, .int 0])), (tb, .inr (6, [.int g, .ref a1, .ref a2, .ref a3, .ref a4, .ref a5, .ref a6, .ref a7, .long 0, .int 0, .int 0])), (wk, .inr (10, [.ref tb, .ref wa, .ref wb, .int 0, .int (-1), .int w5, .int w6, .int w7, .int w8, .int w9, .int w10, .int w11, .int w12, .int w13, .int w14])), (a1, .inl (0, 48, .inl (ax_fill f1 0 48 (-1)))), (a2, .inl (0, 48, .inl (ax_fill f2 0 48 0))), (a5, .inl (0, 512, .inl (ax_fill f5 0 512 (-1)))), (a6, .inl (0, 961, .inl (ax_fill f6 0 961 (-1)))), (a7, .inl (0, 961, .inl (ax_fill f7 0 961 0))), (ma, .inl (0, 16, .inl fm')), (rk, .inr (3, [.int (nI nn), .int C, .int (nI gg), .ref o])), (o, .inl (0, gg * nn, .inl f))]) [0, 1, 2, 3, 4, 5, 6, 7, 8, 9, 10, 11] rfl rfl
  exact ar_ret d_29_42 rfl (⟨fm', ids', ms', rfl, hF3, hN2, hms, by omega, by omega, ((hf.mono (fun x hx => Or.inr hx)).tr (qf.mono (fun x hx => hx.elim Or.inl (fun z => Or.inr (List.mem_cons_of_mem _ z)))))⟩)
theorem c_29N {L : Nat} {xs : Nat → Int32} {fr lo w q nn gg o n sl nd dk tg : Nat} {ld rk nt tb wk ma sp wa wb a1 a2 a3 a4 a5 a6 a7 : Nat} {me ep st hd cl ni tu md g fl an ws wo w5 w6 w7 w8 w9 w10 w11 w12 w13 w14 : Int32} {ak kn : Int64} {f1 f2 f5 f6 f7 : Nat → Int32} {C e2 s2 up ne ns : Int32} {f fm u b : Nat → Int32} {h : ax_H}  (hfr : 4 ≤ fr) (hlo : 86 ≤ lo) (hgg : gg ≤ 16) (hg1 : 0 < gg) (hnn : nn ≤ 6)  (hld : ¬ nof f 0 s2 nn 0 0 = me)  (hF : ax_hs h [(nd, .inr (7, [.int me, .ref rk, .ref nt, .ref dk, .ref ld, .ref tg, .int up, .int ne, .int ns])), (ld, .inr (9, [.int me, .ref rk, .ref nt, .ref tb, .ref wk, .ref ma, .ref sp, .int ep, .int st, .int hd, .int cl, .long ak, .int ni, .int tu, .int md])), (tb, .inr (6, [.int g, .ref a1, .ref a2, .ref a3, .ref a4, .ref a5, .ref a6, .ref a7, .long kn, .int fl, .int an])), (wk, .inr (10, [.ref tb, .ref wa, .ref wb, .int ws, .int wo, .int w5, .int w6, .int w7, .int w8, .int w9, .int w10, .int w11, .int w12, .int w13, .int w14])), (a1, .inl (0, 48, .inl f1)), (a2, .inl (0, 48, .inl f2)), (a5, .inl (0, 512, .inl f5)), (a6, .inl (0, 961, .inl f6)), (a7, .inl (0, 961, .inl f7)), (ma, .inl (0, 16, .inl fm)), (rk, .inr (3, [.int (nI nn), .int C, .int (nI gg), .ref o])), (o, .inl (0, gg * nn, .inl f))]) (hn : h.1 = n) (hs : h.2.1 = sl) (hn0 : 0 < n) : ax_M L xs 29 fr lo [.ref nd, .int e2, .int s2] h (fun r h' => r = none ∧ ax_hs h' [(nd, .inr (7, [.int me, .ref rk, .ref nt, .ref dk, .ref ld, .ref tg, .int up, .int e2, .int s2])), (ld, .inr (9, [.int me, .ref rk, .ref nt, .ref tb, .ref wk, .ref ma, .ref sp, .int ep, .int st, .int 0, .int 0, .long 0, .int 0, .int 0, .int 0])), (tb, .inr (6, [.int g, .ref a1, .ref a2, .ref a3, .ref a4, .ref a5, .ref a6, .ref a7, .long 0, .int 0, .int 0])), (wk, .inr (10, [.ref tb, .ref wa, .ref wb, .int 0, .int (-1), .int w5, .int w6, .int w7, .int w8, .int w9, .int w10, .int w11, .int w12, .int w13, .int w14])), (a1, .inl (0, 48, .inl (ax_fill f1 0 48 (-1)))), (a2, .inl (0, 48, .inl (ax_fill f2 0 48 0))), (a5, .inl (0, 512, .inl (ax_fill f5 0 512 (-1)))), (a6, .inl (0, 961, .inl (ax_fill f6 0 961 (-1)))), (a7, .inl (0, 961, .inl (ax_fill f7 0 961 0))), (ma, .inl (0, 16, .inl fm)), (rk, .inr (3, [.int (nI nn), .int C, .int (nI gg), .ref o])), (o, .inl (0, gg * nn, .inl f))] ∧ h'.1 = n ∧ h'.2.1 = sl ∧ ax_fr (fun x => x ∈ [nd, ld, tb, wk, a1, a2, a5, a6, a7]) h h') := by
  show ax_A (ax_step L xs) ((29, 0, fr, lo), [(0, .ref nd), (1, .int e2), (2, .int s2)], [], h) _
  have hbase : h.1 = n := hn
  have hbasl : h.2.1 = sl := hs
  have hf : ax_fr (fun x => x ∈ [nd, ld, tb, wk, a1, a2, a5, a6, a7]) h h := ax_fr.rf
  refine ar_aload_n 1 d_29_0 rfl rfl ?_
  refine ar_iload_n 2 d_29_1 rfl rfl ?_
  refine ar_putf 5 [.int me, .ref rk, .ref nt, .ref dk, .ref ld, .ref tg, .int up, .int e2, .int ns] d_29_2 rfl (ci := 7) (k := 7) rfl rfl (hF.at 0 rfl) (Nat.le_of_ble_eq_true rfl) rfl rfl rfl ?_
  replace hF : ax_hs (ax_put h nd (.inr (7, [.int me, .ref rk, .ref nt, .ref dk, .ref ld, .ref tg, .int up, .int e2, .int ns]))) [(nd, .inr (7, [.int me, .ref rk, .ref nt, .ref dk, .ref ld, .ref tg, .int up, .int e2, .int ns])), (ld, .inr (9, [.int me, .ref rk, .ref nt, .ref tb, .ref wk, .ref ma, .ref sp, .int ep, .int st, .int hd, .int cl, .long ak, .int ni, .int tu, .int md])), (tb, .inr (6, [.int g, .ref a1, .ref a2, .ref a3, .ref a4, .ref a5, .ref a6, .ref a7, .long kn, .int fl, .int an])), (wk, .inr (10, [.ref tb, .ref wa, .ref wb, .int ws, .int wo, .int w5, .int w6, .int w7, .int w8, .int w9, .int w10, .int w11, .int w12, .int w13, .int w14])), (a1, .inl (0, 48, .inl f1)), (a2, .inl (0, 48, .inl f2)), (a5, .inl (0, 512, .inl f5)), (a6, .inl (0, 961, .inl f6)), (a7, .inl (0, 961, .inl f7)), (ma, .inl (0, 16, .inl fm)), (rk, .inr (3, [.int (nI nn), .int C, .int (nI gg), .ref o])), (o, .inl (0, gg * nn, .inl f))] := hF.put 0 _ rfl rfl
  replace hf := hf.put (a := nd) (c := .inr (7, [.int me, .ref rk, .ref nt, .ref dk, .ref ld, .ref tg, .int up, .int e2, .int ns])) (by simp)
  replace hn : (ax_put h nd (.inr (7, [.int me, .ref rk, .ref nt, .ref dk, .ref ld, .ref tg, .int up, .int e2, .int ns]))).1 = n := hn
  replace hs : (ax_put h nd (.inr (7, [.int me, .ref rk, .ref nt, .ref dk, .ref ld, .ref tg, .int up, .int e2, .int ns]))).2.1 = sl := hs
  generalize ax_put h nd (.inr (7, [.int me, .ref rk, .ref nt, .ref dk, .ref ld, .ref tg, .int up, .int e2, .int ns])) = h1 at hF hf hn hs ⊢
  refine ar_aload_n 6 d_29_5 rfl rfl ?_
  refine ar_iload_n 7 d_29_6 rfl rfl ?_
  refine ar_putf 10 [.int me, .ref rk, .ref nt, .ref dk, .ref ld, .ref tg, .int up, .int e2, .int s2] d_29_7 rfl (ci := 7) (k := 8) rfl rfl (hF.at 0 rfl) (Nat.le_of_ble_eq_true rfl) rfl rfl rfl ?_
  replace hF : ax_hs (ax_put h1 nd (.inr (7, [.int me, .ref rk, .ref nt, .ref dk, .ref ld, .ref tg, .int up, .int e2, .int s2]))) [(nd, .inr (7, [.int me, .ref rk, .ref nt, .ref dk, .ref ld, .ref tg, .int up, .int e2, .int s2])), (ld, .inr (9, [.int me, .ref rk, .ref nt, .ref tb, .ref wk, .ref ma, .ref sp, .int ep, .int st, .int hd, .int cl, .long ak, .int ni, .int tu, .int md])), (tb, .inr (6, [.int g, .ref a1, .ref a2, .ref a3, .ref a4, .ref a5, .ref a6, .ref a7, .long kn, .int fl, .int an])), (wk, .inr (10, [.ref tb, .ref wa, .ref wb, .int ws, .int wo, .int w5, .int w6, .int w7, .int w8, .int w9, .int w10, .int w11, .int w12, .int w13, .int w14])), (a1, .inl (0, 48, .inl f1)), (a2, .inl (0, 48, .inl f2)), (a5, .inl (0, 512, .inl f5)), (a6, .inl (0, 961, .inl f6)), (a7, .inl (0, 961, .inl f7)), (ma, .inl (0, 16, .inl fm)), (rk, .inr (3, [.int (nI nn), .int C, .int (nI gg), .ref o])), (o, .inl (0, gg * nn, .inl f))] := hF.put 0 _ rfl rfl
  replace hf := hf.put (a := nd) (c := .inr (7, [.int me, .ref rk, .ref nt, .ref dk, .ref ld, .ref tg, .int up, .int e2, .int s2])) (by simp)
  replace hn : (ax_put h1 nd (.inr (7, [.int me, .ref rk, .ref nt, .ref dk, .ref ld, .ref tg, .int up, .int e2, .int s2]))).1 = n := hn
  replace hs : (ax_put h1 nd (.inr (7, [.int me, .ref rk, .ref nt, .ref dk, .ref ld, .ref tg, .int up, .int e2, .int s2]))).2.1 = sl := hs
  generalize ax_put h1 nd (.inr (7, [.int me, .ref rk, .ref nt, .ref dk, .ref ld, .ref tg, .int up, .int e2, .int s2])) = h2 at hF hf hn hs ⊢
  refine ar_aload_n 11 d_29_10 rfl rfl ?_
  refine ar_call (r := []) (na := 0) (kd := 0) (cm := 30) (fr2 := fr - 1) (lo2 := lo - 20) 14 d_29_11 (ar_hoV (as := []) rfl rfl rfl (hF.at 0 rfl)) rfl (by omega) (show lo - 20 + (19 + 1) = lo by omega) (Nat.le_of_ble_eq_true rfl) (Nat.le_of_ble_eq_true rfl) (c_30F (by omega) (by omega) hgg hg1 hnn hld (hF.sub (F' := [(nd, .inr (7, [.int me, .ref rk, .ref nt, .ref dk, .ref ld, .ref tg, .int up, .int e2, .int s2])), (rk, .inr (3, [.int (nI nn), .int C, .int (nI gg), .ref o])), (o, .inl (0, gg * nn, .inl f))]) [0, 10, 11] rfl rfl)) ?_
  intro v hh hq
  obtain ⟨rfl, ehh⟩ := hq
  rw [ehh]
  clear ehh
  refine ar_if_eq 35 17 d_29_14 (by decide) rfl (fun _ => ?_) (fun c => absurd (rfl) c)
  refine ar_aload_n 36 d_29_35 rfl rfl ?_
  refine ar_getf 39 d_29_36 rfl (ci := 7) (k := 4) rfl (hF.at 0 rfl) rfl ?_
  refine ar_call (r := []) (na := 0) (kd := 0) (cm := 33) (fr2 := fr - 1) (lo2 := lo - 20) 42 d_29_39 (ar_hoV (as := []) rfl rfl rfl (hF.at 1 rfl)) rfl (by omega) (show lo - 20 + (19 + 1) = lo by omega) (Nat.le_of_ble_eq_true rfl) (Nat.le_of_ble_eq_true rfl) (c_33 (by omega) (by omega) (hF.sub (F' := [(ld, .inr (9, [.int me, .ref rk, .ref nt, .ref tb, .ref wk, .ref ma, .ref sp, .int ep, .int st, .int hd, .int cl, .long ak, .int ni, .int tu, .int md])), (tb, .inr (6, [.int g, .ref a1, .ref a2, .ref a3, .ref a4, .ref a5, .ref a6, .ref a7, .long kn, .int fl, .int an])), (wk, .inr (10, [.ref tb, .ref wa, .ref wb, .int ws, .int wo, .int w5, .int w6, .int w7, .int w8, .int w9, .int w10, .int w11, .int w12, .int w13, .int w14])), (a1, .inl (0, 48, .inl f1)), (a2, .inl (0, 48, .inl f2)), (a5, .inl (0, 512, .inl f5)), (a6, .inl (0, 961, .inl f6)), (a7, .inl (0, 961, .inl f7))]) [1, 2, 3, 4, 5, 6, 7, 8] rfl rfl) hn hs (by omega)) ?_
  intro v h3 hq
  obtain ⟨rfl, qF, qn, qs, qf⟩ := hq
  have qF : ax_hs h3 [(ld, .inr (9, [.int me, .ref rk, .ref nt, .ref tb, .ref wk, .ref ma, .ref sp, .int ep, .int st, .int 0, .int 0, .long 0, .int 0, .int 0, .int 0])), (tb, .inr (6, [.int g, .ref a1, .ref a2, .ref a3, .ref a4, .ref a5, .ref a6, .ref a7, .long 0, .int 0, .int 0])), (wk, .inr (10, [.ref tb, .ref wa, .ref wb, .int 0, .int (-1), .int w5, .int w6, .int w7, .int w8, .int w9, .int w10, .int w11, .int w12, .int w13, .int w14])), (a1, .inl (0, 48, .inl (ax_fill f1 0 48 (-1)))), (a2, .inl (0, 48, .inl (ax_fill f2 0 48 0))), (a5, .inl (0, 512, .inl (ax_fill f5 0 512 (-1)))), (a6, .inl (0, 961, .inl (ax_fill f6 0 961 (-1)))), (a7, .inl (0, 961, .inl (ax_fill f7 0 961 0)))] := qF
  replace hF : ax_hs h3 [(nd, .inr (7, [.int me, .ref rk, .ref nt, .ref dk, .ref ld, .ref tg, .int up, .int e2, .int s2])), (ma, .inl (0, 16, .inl fm)), (rk, .inr (3, [.int (nI nn), .int C, .int (nI gg), .ref o])), (o, .inl (0, gg * nn, .inl f)), (ld, .inr (9, [.int me, .ref rk, .ref nt, .ref tb, .ref wk, .ref ma, .ref sp, .int ep, .int st, .int 0, .int 0, .long 0, .int 0, .int 0, .int 0])), (tb, .inr (6, [.int g, .ref a1, .ref a2, .ref a3, .ref a4, .ref a5, .ref a6, .ref a7, .long 0, .int 0, .int 0])), (wk, .inr (10, [.ref tb, .ref wa, .ref wb, .int 0, .int (-1), .int w5, .int w6, .int w7, .int w8, .int w9, .int w10, .int w11, .int w12, .int w13, .int w14])), (a1, .inl (0, 48, .inl (ax_fill f1 0 48 (-1)))), (a2, .inl (0, 48, .inl (ax_fill f2 0 48 0))), (a5, .inl (0, 512, .inl (ax_fill f5 0 512 (-1)))), (a6, .inl (0, 961, .inl (ax_fill f6 0 961 (-1)))), (a7, .inl (0, 961, .inl (ax_fill f7 0 961 0)))] := ax_hs.call (rest := [(nd, .inr (7, [.int me, .ref rk, .ref nt, .ref dk, .ref ld, .ref tg, .int up, .int e2, .int s2])), (ma, .inl (0, 16, .inl fm)), (rk, .inr (3, [.int (nI nn), .int C, .int (nI gg), .ref o])), (o, .inl (0, gg * nn, .inl f))]) [1, 2, 3, 4, 5, 6, 7, 8] [0, 9, 10, 11] hF qf qF rfl rfl rfl [1, 2, 3, 4, 5, 6, 7, 8] rfl rfl [1, 2, 3, 4, 5, 6, 7, 8] (news := []) rfl rfl (fun _ z => absurd z List.not_mem_nil) rfl
  replace hf := hf.trC qf (by intro x hx hB; simp at hB; first | (rcases hB with rfl | rfl | rfl | rfl | rfl | rfl | rfl | rfl <;> first | omega | simp) | omega | simp [hB])
  replace hn : h3.1 = n := by omega
  replace hs : h3.2.1 = sl := by omega
  clear qF qn qs qf
  have hF3 := hF.sub (F' := [(nd, .inr (7, [.int me, .ref rk, .ref nt, .ref dk, .ref ld, .ref tg, .int up, .int e2, .int s2])), (ld, .inr (9, [.int me, .ref rk, .ref nt, .ref tb, .ref wk, .ref ma, .ref sp, .int ep, .int st, .int 0, .int 0, .long 0, .int 0, .int 0, .int 0])), (tb, .inr (6, [.int g, .ref a1, .ref a2, .ref a3, .ref a4, .ref a5, .ref a6, .ref a7, .long 0, .int 0, .int 0])), (wk, .inr (10, [.ref tb, .ref wa, .ref wb, .int 0, .int (-1), .int w5, .int w6, .int w7, .int w8, .int w9, .int w10, .int w11, .int w12, .int w13, .int w14])), (a1, .inl (0, 48, .inl (ax_fill f1 0 48 (-1)))), (a2, .inl (0, 48, .inl (ax_fill f2 0 48 0))), (a5, .inl (0, 512, .inl (ax_fill f5 0 512 (-1)))), (a6, .inl (0, 961, .inl (ax_fill f6 0 961 (-1)))), (a7, .inl (0, 961, .inl (ax_fill f7 0 961 0))), (ma, .inl (0, 16, .inl fm)), (rk, .inr (3, [.int (nI nn), .int C, .int (nI gg), .ref o])), (o, .inl (0, gg * nn, .inl f))]) [0, 4, 5, 6, 7, 8, 9, 10, 11, 1, 2, 3] rfl rfl
  exact ar_ret d_29_42 rfl (⟨rfl, hF3, hn, hs, hf⟩)


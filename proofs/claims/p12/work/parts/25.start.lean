/-! Leader.start; Node: leads, follow; P: whatever is under way, L: exactly -/
theorem bit0 : ∀ i, i < 6 → ((0 : Int32) >>> (nI i &&& 31)) &&& 1 = 0 := by decide
theorem lp_35L {L : Nat} {xs : Nat → Int32} {fr lo ld rk nt w q nn gg o tb wk ma sp : Nat} {C me ep st hd ni tu md : Int32} {ak : Int64} {u b : Nat → Int32} {post : ax_Po} (hfr : 1 ≤ fr) (hlo : 26 ≤ lo) (hnn : nn ≤ 6) (hA1 : ¬ NTA nt w ld) (hA2 : ¬ NTA nt w rk) : ∀ (k i : Nat) (h : ax_H) (ids : List Nat) (ms : List Mg), i + k = nn → ids.length + k < 128 → ax_hs h [(ld, .inr (9, [.int me, .ref rk, .ref nt, .ref tb, .ref wk, .ref ma, .ref sp, .int ep, .int st, .int hd, .int 0, .long ak, .int ni, .int tu, .int md])), (rk, .inr (3, [.int (nI nn), .int C, .int (nI gg), .ref o]))] → NTL h nt w ids ms q u b → (∀ h' ids' ms', NTL h' nt w ids' ms' q u b → ms'.map (·.1) = ms.map (·.1) ++ (List.range' i k).map (fun n => mg 4 me (nI n) ep st) → ax_fr (NTA nt w) h h' → h'.1 = h.1 → h'.2.1 = h.2.1 → post none h') → ax_A (ax_step L xs) ((35, 2, fr, lo), [(0, .ref ld), (1, .int (nI i))], [], h) post := by
  intro k
  induction k with
  | zero =>
    intro i h ids ms hi hl hF hN kk
    have e : i = nn := by omega
    subst e
    refine ar_iload_n 3 d_35_2 rfl rfl ?_
    refine ar_aload_n 4 d_35_3 rfl rfl ?_
    refine ar_getf 7 d_35_4 rfl (ci := 9) (k := 1) rfl (hF.at 0 rfl) rfl ?_
    refine ar_getf 10 d_35_7 rfl (ci := 3) (k := 0) rfl (hF.at 1 rfl) rfl ?_
    refine ar_icmp_ge 52 13 d_35_10 (by decide) rfl (fun _ => ?_) (fun c => absurd (nI_le (Nat.le_refl _) (by omega)) c)
    exact ar_ret d_35_52 rfl (kk h ids ms hN (List.append_nil _).symm ax_fr.rf rfl rfl)
  | succ k ih =>
    intro i h ids ms hi hl hF hN kk
    have hin : i < nn := by omega
    refine ar_iload_n 3 d_35_2 rfl rfl ?_
    refine ar_aload_n 4 d_35_3 rfl rfl ?_
    refine ar_getf 7 d_35_4 rfl (ci := 9) (k := 1) rfl (hF.at 0 rfl) rfl ?_
    refine ar_getf 10 d_35_7 rfl (ci := 3) (k := 0) rfl (hF.at 1 rfl) rfl ?_
    refine ar_icmp_ge 52 13 d_35_10 (by decide) rfl (fun c => absurd c (nI_ge hin (by omega))) (fun _ => ?_)
    refine ar_aload_n 14 d_35_13 rfl rfl ?_
    refine ar_getf 17 d_35_14 rfl (ci := 9) (k := 10) rfl (hF.at 0 rfl) rfl ?_
    refine ar_iload_n 18 d_35_17 rfl rfl ?_
    refine ar_ishr 19 d_35_18 rfl ?_
    refine ar_iconst 20 (v := 1) d_35_19 rfl (by decide) ?_
    refine ar_iand 21 d_35_20 rfl ?_
    refine ar_if_ne 46 24 d_35_21 (by decide) rfl (fun c => absurd c (fun z => z (bit0 i (by omega)))) (fun _ => ?_)
    refine ar_aload_n 25 d_35_24 rfl rfl ?_
    refine ar_getf 28 d_35_25 rfl (ci := 9) (k := 2) rfl (hF.at 0 rfl) rfl ?_
    refine ar_iconst 29 (v := 4) d_35_28 rfl (by decide) ?_
    refine ar_aload_n 30 d_35_29 rfl rfl ?_
    refine ar_getf 33 d_35_30 rfl (ci := 9) (k := 0) rfl (hF.at 0 rfl) rfl ?_
    refine ar_iload_n 34 d_35_33 rfl rfl ?_
    refine ar_aload_n 35 d_35_34 rfl rfl ?_
    refine ar_getf 38 d_35_35 rfl (ci := 9) (k := 7) rfl (hF.at 0 rfl) rfl ?_
    refine ar_aload_n 39 d_35_38 rfl rfl ?_
    refine ar_getf 42 d_35_39 rfl (ci := 9) (k := 8) rfl (hF.at 0 rfl) rfl ?_
    obtain ⟨za, zc, hnet⟩ := hN.net
    refine ar_call (r := []) (na := 0) (kd := 0) (cm := 36) (fr2 := fr - 1) (lo2 := lo - 26) 45 d_35_42 (ar_hoV (as := [.int 4, .int me, .int (nI i), .int ep, .int st]) rfl rfl rfl hnet) rfl (by omega) (show lo - 26 + (19 + 7) = lo by omega) (Nat.le_of_ble_eq_true rfl) (Nat.le_of_ble_eq_true rfl) (c_36L hN (by omega)) ?_
    intro v h2 hq
    obtain ⟨m, bm, -, rfl, -, hN2, hf2, hz1, hz2⟩ := hq
    have hF2 := hF.fr hf2 (by intro x hx; simp at hx; rcases hx with rfl | rfl <;> assumption)
    refine ar_pop 46 d_35_45 rfl rfl ?_
    refine ar_iinc 49 [(0, .ref ld), (1, .int (nI (i + 1)))] d_35_46 rfl rfl (nI_1 i) (by decide) rfl ?_
    refine ar_goto 2 d_35_49 (by decide) ?_
    refine ih (i + 1) h2 _ _ (by omega) (by rw [List.length_append]; show ids.length + 1 + k < 128; omega) hF2 hN2 (fun h' ids' ms' j0 j1 j2 j3 j4 => kk h' ids' ms' j0 ?_ (hf2.tr j2) (j3.trans hz1) (j4.trans hz2))
    rw [j1, List.map_append, List.append_assoc]
    rfl
theorem c_35L {L : Nat} {xs : Nat → Int32} {fr lo ld rk nt w q nn gg o tb wk ma sp : Nat} {C me ep st hd ni tu md : Int32} {ak : Int64} {u b : Nat → Int32} {h : ax_H} {ids : List Nat} {ms : List Mg} (hfr : 1 ≤ fr) (hlo : 26 ≤ lo) (hnn : nn ≤ 6) (hA1 : ¬ NTA nt w ld) (hA2 : ¬ NTA nt w rk) (hl : ids.length + nn < 128) (hF : ax_hs h [(ld, .inr (9, [.int me, .ref rk, .ref nt, .ref tb, .ref wk, .ref ma, .ref sp, .int ep, .int st, .int hd, .int 0, .long ak, .int ni, .int tu, .int md])), (rk, .inr (3, [.int (nI nn), .int C, .int (nI gg), .ref o]))]) (hN : NTL h nt w ids ms q u b) : ax_M L xs 35 fr lo [.ref ld] h (fun r h' => ∃ ids' ms', r = none ∧ NTL h' nt w ids' ms' q u b ∧ ms'.map (·.1) = ms.map (·.1) ++ (List.range' 0 nn).map (fun n => mg 4 me (nI n) ep st) ∧ ax_fr (NTA nt w) h h' ∧ h'.1 = h.1 ∧ h'.2.1 = h.2.1) := by
  show ax_A (ax_step L xs) ((35, 0, fr, lo), [(0, .ref ld)], [], h) _
  refine ar_iconst 1 (v := 0) d_35_0 rfl (by decide) ?_
  refine ar_istore_n 2 [(0, .ref ld), (1, .int 0)] d_35_1 rfl (by decide) rfl ?_
  exact lp_35L hfr hlo hnn hA1 hA2 nn 0 h ids ms (Nat.zero_add nn) hl hF hN (fun h' ids' ms' j0 j1 j2 j3 j4 => ⟨ids', ms', rfl, j0, j1, j2, j3, j4⟩)
theorem lp_32 {L : Nat} {xs : Nat → Int32} {fr lo ld rk nt nn gg o tb wk ma sp n sl : Nat} {C me e2 s2 : Int32} {f : Nat → Int32} {post : ax_Po} (hfr : 1 ≤ fr) (hlo : 26 ≤ lo) (hgg : gg ≤ 16) (hnn : nn ≤ 6) : ∀ (k i : Nat) (h : ax_H) (fm : Nat → Int32), i + k = gg → ax_hs h [(ld, .inr (9, [.int me, .ref rk, .ref nt, .ref tb, .ref wk, .ref ma, .ref sp, .int e2, .int s2, .int 0, .int 0, .long 0, .int 0, .int 0, .int 0])), (ma, .inl (0, 16, .inl fm)), (rk, .inr (3, [.int (nI nn), .int C, .int (nI gg), .ref o])), (o, .inl (0, gg * nn, .inl f))] → h.1 = n → h.2.1 = sl →
    (∀ (h' : ax_H) (fm : Nat → Int32), ax_hs h' [(ld, .inr (9, [.int me, .ref rk, .ref nt, .ref tb, .ref wk, .ref ma, .ref sp, .int e2, .int s2, .int 0, .int 0, .long 0, .int 0, .int 0, .int 0])), (ma, .inl (0, 16, .inl fm)), (rk, .inr (3, [.int (nI nn), .int C, .int (nI gg), .ref o])), (o, .inl (0, gg * nn, .inl f))] → h'.1 = n → h'.2.1 = sl → ax_fr (fun x => x ∈ [ma]) h h' → ax_A (ax_step L xs) ((32, 51, fr, lo), [(0, .ref ld), (1, .int e2), (2, .int s2), (3, .int (nI gg))], [], h') post) → ax_A (ax_step L xs) ((32, 16, fr, lo), [(0, .ref ld), (1, .int e2), (2, .int s2), (3, .int (nI i))], [], h) post := by
  intro k
  induction k with
  | zero =>
    intro i h fm hi hF hn hs kk
    have e : i = gg := by omega
    subst e
    refine ar_iload_n 17 d_32_16 rfl rfl ?_
    refine ar_aload_n 18 d_32_17 rfl rfl ?_
    refine ar_getf 21 d_32_18 rfl (ci := 9) (k := 1) rfl (hF.at 0 rfl) rfl ?_
    refine ar_getf 24 d_32_21 rfl (ci := 3) (k := 2) rfl (hF.at 2 rfl) rfl ?_
    refine ar_icmp_ge 51 27 d_32_24 (by decide) rfl (fun _ => ?_) (fun c => absurd (nI_le (Nat.le_refl _) (by omega)) c)
    exact kk h fm hF hn hs ax_fr.rf
  | succ k ih =>
    intro i h fm hi hF hn hs kk
    have hin : i < gg := by omega
    have hbase : h.1 = n := hn
    have hbasl : h.2.1 = sl := hs
    have hf : ax_fr (fun x => x ∈ [ma]) h h := ax_fr.rf
    refine ar_iload_n 17 d_32_16 rfl rfl ?_
    refine ar_aload_n 18 d_32_17 rfl rfl ?_
    refine ar_getf 21 d_32_18 rfl (ci := 9) (k := 1) rfl (hF.at 0 rfl) rfl ?_
    refine ar_getf 24 d_32_21 rfl (ci := 3) (k := 2) rfl (hF.at 2 rfl) rfl ?_
    refine ar_icmp_ge 51 27 d_32_24 (by decide) rfl (fun c => absurd c (nI_ge hin (by omega))) (fun _ => ?_)
    refine ar_aload_n 28 d_32_27 rfl rfl ?_
    refine ar_getf 31 d_32_28 rfl (ci := 9) (k := 5) rfl (hF.at 0 rfl) rfl ?_
    refine ar_iload_n 32 d_32_31 rfl rfl ?_
    refine ar_aload_n 33 d_32_32 rfl rfl ?_
    refine ar_getf 36 d_32_33 rfl (ci := 9) (k := 1) rfl (hF.at 0 rfl) rfl ?_
    refine ar_iload_n 37 d_32_36 rfl rfl ?_
    refine ar_aload_n 38 d_32_37 rfl rfl ?_
    refine ar_getf 41 d_32_38 rfl (ci := 9) (k := 8) rfl (hF.at 0 rfl) rfl ?_
    refine ar_call (r := [.int (nI i), .ref ma]) (na := 0) (kd := 0) (cm := 34) (fr2 := fr - 1) (lo2 := lo - 26) 44 d_32_41 (ar_hoV (as := [.int (nI i), .int s2]) rfl rfl rfl (hF.at 2 rfl)) rfl (by omega) (show lo - 26 + (19 + 7) = lo by omega) (Nat.le_of_ble_eq_true rfl) (Nat.le_of_ble_eq_true rfl) (c_34 hgg hnn hin (hF.sub (F' := [(rk, .inr (3, [.int (nI nn), .int C, .int (nI gg), .ref o])), (o, .inl (0, gg * nn, .inl f))]) [2, 3] rfl rfl)) ?_
    intro v hh hq
    obtain ⟨rfl, ehh⟩ := hq
    rw [ehh]
    clear ehh
    refine ar_iast 45 d_32_44 rfl (hF.at 1 rfl) (vp_in_nI (by omega) (by decide)) ?_
    replace hF : ax_hs (ax_put h ma (.inl (0, 16, .inl (upd fm (nI i).toNatClampNeg (mof2 C (mof f C s2 nn (i * nn) 0 0)))))) [(ld, .inr (9, [.int me, .ref rk, .ref nt, .ref tb, .ref wk, .ref ma, .ref sp, .int e2, .int s2, .int 0, .int 0, .long 0, .int 0, .int 0, .int 0])), (ma, .inl (0, 16, .inl (upd fm (nI i).toNatClampNeg (mof2 C (mof f C s2 nn (i * nn) 0 0))))), (rk, .inr (3, [.int (nI nn), .int C, .int (nI gg), .ref o])), (o, .inl (0, gg * nn, .inl f))] := hF.put 1 _ rfl rfl
    replace hf := hf.put (a := ma) (c := .inl (0, 16, .inl (upd fm (nI i).toNatClampNeg (mof2 C (mof f C s2 nn (i * nn) 0 0))))) (by simp)
    replace hn : (ax_put h ma (.inl (0, 16, .inl (upd fm (nI i).toNatClampNeg (mof2 C (mof f C s2 nn (i * nn) 0 0)))))).1 = n := hn
    replace hs : (ax_put h ma (.inl (0, 16, .inl (upd fm (nI i).toNatClampNeg (mof2 C (mof f C s2 nn (i * nn) 0 0)))))).2.1 = sl := hs
    generalize ax_put h ma (.inl (0, 16, .inl (upd fm (nI i).toNatClampNeg (mof2 C (mof f C s2 nn (i * nn) 0 0))))) = h1 at hF hf hn hs ⊢
    refine ar_iinc 48 [(0, .ref ld), (1, .int e2), (2, .int s2), (3, .int (nI (i + 1)))] d_32_45 rfl rfl (nI_1 i) (by decide) rfl ?_
    refine ar_goto 16 d_32_48 (by decide) ?_
    exact ih (i + 1) h1 _ (by omega) hF hn hs (fun h' fm' j1 j2 j3 j4 => kk h' fm' j1 j2 j3 (hf.tr j4))
theorem c_32L {L : Nat} {xs : Nat → Int32} {fr lo w q nn gg o n sl : Nat} {ld rk nt tb wk ma sp wa wb a1 a2 a3 a4 a5 a6 a7 : Nat} {me ep st hd cl ni tu md g fl an ws wo w5 w6 w7 w8 w9 w10 w11 w12 w13 w14 : Int32} {ak kn : Int64} {f1 f2 f5 f6 f7 : Nat → Int32} {C e2 s2 : Int32} {f fm u b : Nat → Int32} {h : ax_H} {ids : List Nat} {ms : List Mg} (hfr : 3 ≤ fr) (hlo : 63 ≤ lo) (hgg : gg ≤ 16) (hnn : nn ≤ 6) (hA_ld : ¬ NTA nt w ld) (hA_tb : ¬ NTA nt w tb) (hA_wk : ¬ NTA nt w wk) (hA_a1 : ¬ NTA nt w a1) (hA_a2 : ¬ NTA nt w a2) (hA_a5 : ¬ NTA nt w a5) (hA_a6 : ¬ NTA nt w a6) (hA_a7 : ¬ NTA nt w a7) (hA_ma : ¬ NTA nt w ma) (hA_rk : ¬ NTA nt w rk) (hA_o : ¬ NTA nt w o) (hl : ids.length + nn < 128) (hN : NTL h nt w ids ms q u b) (hF : ax_hs h [(ld, .inr (9, [.int me, .ref rk, .ref nt, .ref tb, .ref wk, .ref ma, .ref sp, .int ep, .int st, .int hd, .int cl, .long ak, .int ni, .int tu, .int md])), (tb, .inr (6, [.int g, .ref a1, .ref a2, .ref a3, .ref a4, .ref a5, .ref a6, .ref a7, .long kn, .int fl, .int an])), (wk, .inr (10, [.ref tb, .ref wa, .ref wb, .int ws, .int wo, .int w5, .int w6, .int w7, .int w8, .int w9, .int w10, .int w11, .int w12, .int w13, .int w14])), (a1, .inl (0, 48, .inl f1)), (a2, .inl (0, 48, .inl f2)), (a5, .inl (0, 512, .inl f5)), (a6, .inl (0, 961, .inl f6)), (a7, .inl (0, 961, .inl f7)), (ma, .inl (0, 16, .inl fm)), (rk, .inr (3, [.int (nI nn), .int C, .int (nI gg), .ref o])), (o, .inl (0, gg * nn, .inl f))]) (hn : h.1 = n) (hs : h.2.1 = sl) (hn0 : 0 < n) : ax_M L xs 32 fr lo [.ref ld, .int e2, .int s2] h (fun r h' => ∃ fm' ids' ms', r = none ∧ ax_hs h' [(ld, .inr (9, [.int me, .ref rk, .ref nt, .ref tb, .ref wk, .ref ma, .ref sp, .int e2, .int s2, .int 0, .int 0, .long 0, .int 0, .int 0, .int 0])), (tb, .inr (6, [.int g, .ref a1, .ref a2, .ref a3, .ref a4, .ref a5, .ref a6, .ref a7, .long 0, .int 0, .int 0])), (wk, .inr (10, [.ref tb, .ref wa, .ref wb, .int 0, .int (-1), .int w5, .int w6, .int w7, .int w8, .int w9, .int w10, .int w11, .int w12, .int w13, .int w14])), (a1, .inl (0, 48, .inl (ax_fill f1 0 48 (-1)))), (a2, .inl (0, 48, .inl (ax_fill f2 0 48 0))), (a5, .inl (0, 512, .inl (ax_fill f5 0 512 (-1)))), (a6, .inl (0, 961, .inl (ax_fill f6 0 961 (-1)))), (a7, .inl (0, 961, .inl (ax_fill f7 0 961 0))), (ma, .inl (0, 16, .inl fm')), (rk, .inr (3, [.int (nI nn), .int C, .int (nI gg), .ref o])), (o, .inl (0, gg * nn, .inl f))] ∧ NTL h' nt w ids' ms' q u b ∧ ms'.map (·.1) = ms.map (·.1) ++ (List.range' 0 nn).map (fun n => mg 4 me (nI n) e2 s2) ∧ h'.1 = n ∧ h'.2.1 = sl ∧ ax_fr (fun x => NTA nt w x ∨ x ∈ [ld, tb, wk, a1, a2, a5, a6, a7, ma]) h h') := by
  show ax_A (ax_step L xs) ((32, 0, fr, lo), [(0, .ref ld), (1, .int e2), (2, .int s2)], [], h) _
  have hbase : h.1 = n := hn
  have hbasl : h.2.1 = sl := hs
  have hf : ax_fr (fun x => x ∈ [ld, tb, wk, a1, a2, a5, a6, a7, ma]) h h := ax_fr.rf
  refine ar_aload_n 1 d_32_0 rfl rfl ?_
  refine ar_call (r := []) (na := 0) (kd := 0) (cm := 33) (fr2 := fr - 1) (lo2 := lo - 20) 4 d_32_1 (ar_hoV (as := []) rfl rfl rfl (hF.at 0 rfl)) rfl (by omega) (show lo - 20 + (19 + 1) = lo by omega) (Nat.le_of_ble_eq_true rfl) (Nat.le_of_ble_eq_true rfl) (c_33 (by omega) (by omega) (hF.sub (F' := [(ld, .inr (9, [.int me, .ref rk, .ref nt, .ref tb, .ref wk, .ref ma, .ref sp, .int ep, .int st, .int hd, .int cl, .long ak, .int ni, .int tu, .int md])), (tb, .inr (6, [.int g, .ref a1, .ref a2, .ref a3, .ref a4, .ref a5, .ref a6, .ref a7, .long kn, .int fl, .int an])), (wk, .inr (10, [.ref tb, .ref wa, .ref wb, .int ws, .int wo, .int w5, .int w6, .int w7, .int w8, .int w9, .int w10, .int w11, .int w12, .int w13, .int w14])), (a1, .inl (0, 48, .inl f1)), (a2, .inl (0, 48, .inl f2)), (a5, .inl (0, 512, .inl f5)), (a6, .inl (0, 961, .inl f6)), (a7, .inl (0, 961, .inl f7))]) [0, 1, 2, 3, 4, 5, 6, 7] rfl rfl) hn hs (by omega)) ?_
  intro v h1 hq
  obtain ⟨rfl, qF, qn, qs, qf⟩ := hq
  have qF : ax_hs h1 [(ld, .inr (9, [.int me, .ref rk, .ref nt, .ref tb, .ref wk, .ref ma, .ref sp, .int ep, .int st, .int 0, .int 0, .long 0, .int 0, .int 0, .int 0])), (tb, .inr (6, [.int g, .ref a1, .ref a2, .ref a3, .ref a4, .ref a5, .ref a6, .ref a7, .long 0, .int 0, .int 0])), (wk, .inr (10, [.ref tb, .ref wa, .ref wb, .int 0, .int (-1), .int w5, .int w6, .int w7, .int w8, .int w9, .int w10, .int w11, .int w12, .int w13, .int w14])), (a1, .inl (0, 48, .inl (ax_fill f1 0 48 (-1)))), (a2, .inl (0, 48, .inl (ax_fill f2 0 48 0))), (a5, .inl (0, 512, .inl (ax_fill f5 0 512 (-1)))), (a6, .inl (0, 961, .inl (ax_fill f6 0 961 (-1)))), (a7, .inl (0, 961, .inl (ax_fill f7 0 961 0)))] := qF
  replace hF : ax_hs h1 [(ma, .inl (0, 16, .inl fm)), (rk, .inr (3, [.int (nI nn), .int C, .int (nI gg), .ref o])), (o, .inl (0, gg * nn, .inl f)), (ld, .inr (9, [.int me, .ref rk, .ref nt, .ref tb, .ref wk, .ref ma, .ref sp, .int ep, .int st, .int 0, .int 0, .long 0, .int 0, .int 0, .int 0])), (tb, .inr (6, [.int g, .ref a1, .ref a2, .ref a3, .ref a4, .ref a5, .ref a6, .ref a7, .long 0, .int 0, .int 0])), (wk, .inr (10, [.ref tb, .ref wa, .ref wb, .int 0, .int (-1), .int w5, .int w6, .int w7, .int w8, .int w9, .int w10, .int w11, .int w12, .int w13, .int w14])), (a1, .inl (0, 48, .inl (ax_fill f1 0 48 (-1)))), (a2, .inl (0, 48, .inl (ax_fill f2 0 48 0))), (a5, .inl (0, 512, .inl (ax_fill f5 0 512 (-1)))), (a6, .inl (0, 961, .inl (ax_fill f6 0 961 (-1)))), (a7, .inl (0, 961, .inl (ax_fill f7 0 961 0)))] := ax_hs.call (rest := [(ma, .inl (0, 16, .inl fm)), (rk, .inr (3, [.int (nI nn), .int C, .int (nI gg), .ref o])), (o, .inl (0, gg * nn, .inl f))]) [0, 1, 2, 3, 4, 5, 6, 7] [8, 9, 10] hF qf qF rfl rfl rfl [0, 1, 2, 3, 4, 5, 6, 7] rfl rfl [0, 1, 2, 3, 4, 5, 6, 7] (news := []) rfl rfl (fun _ z => absurd z List.not_mem_nil) rfl
  replace hf := hf.trC qf (by intro x hx hB; simp at hB; first | (rcases hB with rfl | rfl | rfl | rfl | rfl | rfl | rfl | rfl <;> first | omega | simp) | omega | simp [hB])
  replace hn : h1.1 = n := by omega
  replace hs : h1.2.1 = sl := by omega
  clear qF qn qs qf
  refine ar_aload_n 5 d_32_4 rfl rfl ?_
  refine ar_iload_n 6 d_32_5 rfl rfl ?_
  refine ar_putf 9 [.int me, .ref rk, .ref nt, .ref tb, .ref wk, .ref ma, .ref sp, .int e2, .int st, .int 0, .int 0, .long 0, .int 0, .int 0, .int 0] d_32_6 rfl (ci := 9) (k := 7) rfl rfl (hF.at 3 rfl) (Nat.le_of_ble_eq_true rfl) rfl rfl rfl ?_
  replace hF : ax_hs (ax_put h1 ld (.inr (9, [.int me, .ref rk, .ref nt, .ref tb, .ref wk, .ref ma, .ref sp, .int e2, .int st, .int 0, .int 0, .long 0, .int 0, .int 0, .int 0]))) [(ma, .inl (0, 16, .inl fm)), (rk, .inr (3, [.int (nI nn), .int C, .int (nI gg), .ref o])), (o, .inl (0, gg * nn, .inl f)), (ld, .inr (9, [.int me, .ref rk, .ref nt, .ref tb, .ref wk, .ref ma, .ref sp, .int e2, .int st, .int 0, .int 0, .long 0, .int 0, .int 0, .int 0])), (tb, .inr (6, [.int g, .ref a1, .ref a2, .ref a3, .ref a4, .ref a5, .ref a6, .ref a7, .long 0, .int 0, .int 0])), (wk, .inr (10, [.ref tb, .ref wa, .ref wb, .int 0, .int (-1), .int w5, .int w6, .int w7, .int w8, .int w9, .int w10, .int w11, .int w12, .int w13, .int w14])), (a1, .inl (0, 48, .inl (ax_fill f1 0 48 (-1)))), (a2, .inl (0, 48, .inl (ax_fill f2 0 48 0))), (a5, .inl (0, 512, .inl (ax_fill f5 0 512 (-1)))), (a6, .inl (0, 961, .inl (ax_fill f6 0 961 (-1)))), (a7, .inl (0, 961, .inl (ax_fill f7 0 961 0)))] := hF.put 3 _ rfl rfl
  replace hf := hf.put (a := ld) (c := .inr (9, [.int me, .ref rk, .ref nt, .ref tb, .ref wk, .ref ma, .ref sp, .int e2, .int st, .int 0, .int 0, .long 0, .int 0, .int 0, .int 0])) (by simp)
  replace hn : (ax_put h1 ld (.inr (9, [.int me, .ref rk, .ref nt, .ref tb, .ref wk, .ref ma, .ref sp, .int e2, .int st, .int 0, .int 0, .long 0, .int 0, .int 0, .int 0]))).1 = n := hn
  replace hs : (ax_put h1 ld (.inr (9, [.int me, .ref rk, .ref nt, .ref tb, .ref wk, .ref ma, .ref sp, .int e2, .int st, .int 0, .int 0, .long 0, .int 0, .int 0, .int 0]))).2.1 = sl := hs
  generalize ax_put h1 ld (.inr (9, [.int me, .ref rk, .ref nt, .ref tb, .ref wk, .ref ma, .ref sp, .int e2, .int st, .int 0, .int 0, .long 0, .int 0, .int 0, .int 0])) = h2 at hF hf hn hs ⊢
  refine ar_aload_n 10 d_32_9 rfl rfl ?_
  refine ar_iload_n 11 d_32_10 rfl rfl ?_
  refine ar_putf 14 [.int me, .ref rk, .ref nt, .ref tb, .ref wk, .ref ma, .ref sp, .int e2, .int s2, .int 0, .int 0, .long 0, .int 0, .int 0, .int 0] d_32_11 rfl (ci := 9) (k := 8) rfl rfl (hF.at 3 rfl) (Nat.le_of_ble_eq_true rfl) rfl rfl rfl ?_
  replace hF : ax_hs (ax_put h2 ld (.inr (9, [.int me, .ref rk, .ref nt, .ref tb, .ref wk, .ref ma, .ref sp, .int e2, .int s2, .int 0, .int 0, .long 0, .int 0, .int 0, .int 0]))) [(ma, .inl (0, 16, .inl fm)), (rk, .inr (3, [.int (nI nn), .int C, .int (nI gg), .ref o])), (o, .inl (0, gg * nn, .inl f)), (ld, .inr (9, [.int me, .ref rk, .ref nt, .ref tb, .ref wk, .ref ma, .ref sp, .int e2, .int s2, .int 0, .int 0, .long 0, .int 0, .int 0, .int 0])), (tb, .inr (6, [.int g, .ref a1, .ref a2, .ref a3, .ref a4, .ref a5, .ref a6, .ref a7, .long 0, .int 0, .int 0])), (wk, .inr (10, [.ref tb, .ref wa, .ref wb, .int 0, .int (-1), .int w5, .int w6, .int w7, .int w8, .int w9, .int w10, .int w11, .int w12, .int w13, .int w14])), (a1, .inl (0, 48, .inl (ax_fill f1 0 48 (-1)))), (a2, .inl (0, 48, .inl (ax_fill f2 0 48 0))), (a5, .inl (0, 512, .inl (ax_fill f5 0 512 (-1)))), (a6, .inl (0, 961, .inl (ax_fill f6 0 961 (-1)))), (a7, .inl (0, 961, .inl (ax_fill f7 0 961 0)))] := hF.put 3 _ rfl rfl
  replace hf := hf.put (a := ld) (c := .inr (9, [.int me, .ref rk, .ref nt, .ref tb, .ref wk, .ref ma, .ref sp, .int e2, .int s2, .int 0, .int 0, .long 0, .int 0, .int 0, .int 0])) (by simp)
  replace hn : (ax_put h2 ld (.inr (9, [.int me, .ref rk, .ref nt, .ref tb, .ref wk, .ref ma, .ref sp, .int e2, .int s2, .int 0, .int 0, .long 0, .int 0, .int 0, .int 0]))).1 = n := hn
  replace hs : (ax_put h2 ld (.inr (9, [.int me, .ref rk, .ref nt, .ref tb, .ref wk, .ref ma, .ref sp, .int e2, .int s2, .int 0, .int 0, .long 0, .int 0, .int 0, .int 0]))).2.1 = sl := hs
  generalize ax_put h2 ld (.inr (9, [.int me, .ref rk, .ref nt, .ref tb, .ref wk, .ref ma, .ref sp, .int e2, .int s2, .int 0, .int 0, .long 0, .int 0, .int 0, .int 0])) = h3 at hF hf hn hs ⊢
  refine ar_iconst 15 (v := 0) d_32_14 rfl (by decide) ?_
  refine ar_istore_n 16 [(0, .ref ld), (1, .int e2), (2, .int s2), (3, .int 0)] d_32_15 rfl (by decide) rfl ?_
  refine lp_32 (by omega) (by omega) hgg hnn gg 0 h3 _ (Nat.zero_add gg) (hF.sub (F' := [(ld, .inr (9, [.int me, .ref rk, .ref nt, .ref tb, .ref wk, .ref ma, .ref sp, .int e2, .int s2, .int 0, .int 0, .long 0, .int 0, .int 0, .int 0])), (ma, .inl (0, 16, .inl fm)), (rk, .inr (3, [.int (nI nn), .int C, .int (nI gg), .ref o])), (o, .inl (0, gg * nn, .inl f))]) [3, 0, 1, 2] rfl rfl) hn hs (fun h' fm' j1 j2 j3 j4 => ?_)
  have hF : ax_hs h' [(tb, .inr (6, [.int g, .ref a1, .ref a2, .ref a3, .ref a4, .ref a5, .ref a6, .ref a7, .long 0, .int 0, .int 0])), (wk, .inr (10, [.ref tb, .ref wa, .ref wb, .int 0, .int (-1), .int w5, .int w6, .int w7, .int w8, .int w9, .int w10, .int w11, .int w12, .int w13, .int w14])), (a1, .inl (0, 48, .inl (ax_fill f1 0 48 (-1)))), (a2, .inl (0, 48, .inl (ax_fill f2 0 48 0))), (a5, .inl (0, 512, .inl (ax_fill f5 0 512 (-1)))), (a6, .inl (0, 961, .inl (ax_fill f6 0 961 (-1)))), (a7, .inl (0, 961, .inl (ax_fill f7 0 961 0))), (ld, .inr (9, [.int me, .ref rk, .ref nt, .ref tb, .ref wk, .ref ma, .ref sp, .int e2, .int s2, .int 0, .int 0, .long 0, .int 0, .int 0, .int 0])), (ma, .inl (0, 16, .inl fm')), (rk, .inr (3, [.int (nI nn), .int C, .int (nI gg), .ref o])), (o, .inl (0, gg * nn, .inl f))] := ax_hs.call (rest := [(tb, .inr (6, [.int g, .ref a1, .ref a2, .ref a3, .ref a4, .ref a5, .ref a6, .ref a7, .long 0, .int 0, .int 0])), (wk, .inr (10, [.ref tb, .ref wa, .ref wb, .int 0, .int (-1), .int w5, .int w6, .int w7, .int w8, .int w9, .int w10, .int w11, .int w12, .int w13, .int w14])), (a1, .inl (0, 48, .inl (ax_fill f1 0 48 (-1)))), (a2, .inl (0, 48, .inl (ax_fill f2 0 48 0))), (a5, .inl (0, 512, .inl (ax_fill f5 0 512 (-1)))), (a6, .inl (0, 961, .inl (ax_fill f6 0 961 (-1)))), (a7, .inl (0, 961, .inl (ax_fill f7 0 961 0)))]) [3, 0, 1, 2] [4, 5, 6, 7, 8, 9, 10] hF j4 j1 rfl rfl rfl [0] rfl rfl [3, 0, 1, 2] (news := []) rfl rfl (fun _ z => absurd z List.not_mem_nil) rfl
  have hf := hf.trC j4 (by intro x hx hB; simp at hB; subst hB; simp)
  have hN := hN.fr hf (by intro x hx hB; simp at hB; rcases hB with rfl | rfl | rfl | rfl | rfl | rfl | rfl | rfl | rfl <;> exact absurd hx (by assumption))
  refine ar_aload_n 52 d_32_51 rfl rfl ?_
  refine ar_call (r := []) (na := 0) (kd := 0) (cm := 35) (fr2 := fr - 1) (lo2 := lo - 21) 55 d_32_52 (ar_hoV (as := []) rfl rfl rfl (hF.at 7 rfl)) rfl (by omega) (show lo - 21 + (19 + 2) = lo by omega) (Nat.le_of_ble_eq_true rfl) (Nat.le_of_ble_eq_true rfl) (c_35L (by omega) (by omega) hnn hA_ld hA_rk hl (hF.sub (F' := [(ld, .inr (9, [.int me, .ref rk, .ref nt, .ref tb, .ref wk, .ref ma, .ref sp, .int e2, .int s2, .int 0, .int 0, .long 0, .int 0, .int 0, .int 0])), (rk, .inr (3, [.int (nI nn), .int C, .int (nI gg), .ref o]))]) [7, 9] rfl rfl) hN) ?_
  intro v h2 hq
  obtain ⟨ids', ms', rfl, hN2, hms, hf2, hz1, hz2⟩ := hq
  have hF2 := hF.fr hf2 (by intro x hx; simp at hx; rcases hx with rfl | rfl | rfl | rfl | rfl | rfl | rfl | rfl | rfl | rfl | rfl <;> assumption)
  have hF3 := hF2.sub (F' := [(ld, .inr (9, [.int me, .ref rk, .ref nt, .ref tb, .ref wk, .ref ma, .ref sp, .int e2, .int s2, .int 0, .int 0, .long 0, .int 0, .int 0, .int 0])), (tb, .inr (6, [.int g, .ref a1, .ref a2, .ref a3, .ref a4, .ref a5, .ref a6, .ref a7, .long 0, .int 0, .int 0])), (wk, .inr (10, [.ref tb, .ref wa, .ref wb, .int 0, .int (-1), .int w5, .int w6, .int w7, .int w8, .int w9, .int w10, .int w11, .int w12, .int w13, .int w14])), (a1, .inl (0, 48, .inl (ax_fill f1 0 48 (-1)))), (a2, .inl (0, 48, .inl (ax_fill f2 0 48 0))), (a5, .inl (0, 512, .inl (ax_fill f5 0 512 (-1)))), (a6, .inl (0, 961, .inl (ax_fill f6 0 961 (-1)))), (a7, .inl (0, 961, .inl (ax_fill f7 0 961 0))), (ma, .inl (0, 16, .inl fm')), (rk, .inr (3, [.int (nI nn), .int C, .int (nI gg), .ref o])), (o, .inl (0, gg * nn, .inl f))]) [7, 0, 1, 2, 3, 4, 5, 6, 8, 9, 10] rfl rfl
  exact ar_ret d_32_55 rfl (⟨fm', ids', ms', rfl, hF3, hN2, hms, by omega, by omega, ((hf.mono (fun x hx => Or.inr hx)).tr (hf2.mono (fun x hx => Or.inl hx)))⟩)


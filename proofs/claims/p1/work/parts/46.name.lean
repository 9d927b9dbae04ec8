/-! name with an empty TAPE; begin as nothing was begun -/
theorem and3_200 : ∀ k, k < 2 → ((nI k) * 200) &&& 3 = 0 := by decide
theorem shr2_200 : ∀ k, k < 2 → ((nI k) * 200) >>> ((2 : Int32) &&& 31) = nI (k * 50) := by decide
theorem mul50 : ∀ k, k < 2 → (nI k) * 50 = nI (k * 50) ∧ ((nI k) + 1) * 50 = nI ((k + 1) * 50) := by decide
theorem c_43z {L : Nat} {xs : Nat → Int32} {fr lo : Nat} {h : ax_H} {a b k : Nat} {tf nf : Nat → Int32} (hfr : 1 ≤ fr) (hlo : 30 ≤ lo) (hk : k < 2) (hF : ax_hs h [(a, .inl (0, 512, .inl tf)), (b, .inl (0, 100, .inl nf))]) : ax_M L xs 43 fr lo [.ref a, .int 0, .ref b, .int ((nI k) * 200), .int 0] h (fun r h' => r = none ∧ ∃ nf', h' = ax_put h b (.inl (0, 100, .inl nf'))) := by
  show ax_A (ax_step L xs) ((43, 0, fr, lo), [(0, .ref a), (1, .int 0), (2, .ref b), (3, .int ((nI k) * 200)), (4, .int 0)], [], h) _
  refine ar_iconst 1 (v := 0) d_43_0 rfl (by decide) ?_
  refine ar_istore 3 [(0, .ref a), (1, .int 0), (2, .ref b), (3, .int ((nI k) * 200)), (4, .int 0), (5, .int 0)] d_43_1 rfl (by decide) rfl ?_
  refine ar_iload_n 4 d_43_3 rfl rfl ?_
  refine ar_iconst 5 (v := 3) d_43_4 rfl (by decide) ?_
  refine ar_iand 6 d_43_5 rfl ?_
  refine ar_if_ne 38 9 d_43_6 (by decide) rfl (fun c => absurd c (fun z => z (by decide))) (fun _ => ?_)
  refine ar_iload_n 10 d_43_9 rfl rfl ?_
  refine ar_iconst 11 (v := 3) d_43_10 rfl (by decide) ?_
  refine ar_iand 12 d_43_11 rfl ?_
  refine ar_if_ne 38 15 d_43_12 (by decide) rfl (fun c => absurd c (fun z => z (and3_200 k hk))) (fun _ => ?_)
  refine ar_aload_n 16 d_43_15 rfl rfl ?_
  refine ar_iload_n 17 d_43_16 rfl rfl ?_
  refine ar_iconst 18 (v := 2) d_43_17 rfl (by decide) ?_
  refine ar_ishr 19 d_43_18 rfl ?_
  refine ar_top (x' := 0) (by decide) ?_
  refine ar_aload_n 20 d_43_19 rfl rfl ?_
  refine ar_iload_n 21 d_43_20 rfl rfl ?_
  refine ar_iconst 22 (v := 2) d_43_21 rfl (by decide) ?_
  refine ar_ishr 23 d_43_22 rfl ?_
  refine ar_top (x' := nI (k * 50)) (shr2_200 k hk) ?_
  refine ar_iload 25 d_43_23 rfl rfl ?_
  refine ar_iconst 26 (v := 2) d_43_25 rfl (by decide) ?_
  refine ar_ishr 27 d_43_26 rfl ?_
  refine ar_top (x' := 0) (by decide) ?_
  refine ar_copy 30 d_43_27 rfl rfl (by omega) (by show 0 + (nativeFrameWords "java/lang/System" "arraycopy" 5 + 11) ≤ lo; rw [nfw_copy]; omega) (hF.at 0 rfl) (hF.at 1 rfl) (by decide) (Int32.not_lt.mpr (nI_le (Nat.zero_le _) (by omega))) (by decide) (by decide) (by rw [nI_clamp (by omega)]; show k * 50 + 0 ≤ 100; omega) ?_
  have hF : ax_hs (ax_put h b (.inl (0, 100, .inl (va_cpy tf nf ((0 : Int32).toNatClampNeg) ((nI (k * 50)).toNatClampNeg) ((0 : Int32).toNatClampNeg))))) [(a, .inl (0, 512, .inl tf)), (b, .inl (0, 100, .inl (va_cpy tf nf ((0 : Int32).toNatClampNeg) ((nI (k * 50)).toNatClampNeg) ((0 : Int32).toNatClampNeg))))] := hF.put 1 _ rfl rfl
  refine ar_iload 32 d_43_30 rfl rfl ?_
  refine ar_iconst 33 (v := 2) d_43_32 rfl (by decide) ?_
  refine ar_ishr 34 d_43_33 rfl ?_
  refine ar_top (x' := 0) (by decide) ?_
  refine ar_iconst 35 (v := 2) d_43_34 rfl (by decide) ?_
  refine ar_ishl 36 d_43_35 rfl ?_
  refine ar_top (x' := 0) (by decide) ?_
  refine ar_istore 38 [(0, .ref a), (1, .int 0), (2, .ref b), (3, .int ((nI k) * 200)), (4, .int 0), (5, .int 0)] d_43_36 rfl (by decide) rfl ?_
  refine ar_iload 40 d_43_38 rfl rfl ?_
  refine ar_iload 42 d_43_40 rfl rfl ?_
  refine ar_icmp_ge 123 45 d_43_42 (by decide) rfl (fun _ => ?_) (fun c => absurd (Int32.le_refl _) c)
  exact ar_ret d_43_123 rfl (⟨rfl, _, rfl⟩)
theorem upd_s (f : Nat → Int32) (i : Nat) (v : Int32) : upd f i v i = v := if_pos rfl
theorem c_42z {L : Nat} {xs : Nat → Int32} {fr lo : Nat} {h : ax_H} {as rk nt tp nm nl ak aw : Nat} {bg he se si ef ep sm mh : Int32} {tf nf lf : Nat → Int32} {k n sl : Nat} (hfr : 2 ≤ fr) (hlo : 80 ≤ lo) (hk : k < 2) (hF : ax_hs h [(as, .inr (4, [.ref rk, .ref nt, .ref tp, .int 0, .ref nm, .ref nl, .ref ak, .ref aw, .int bg, .int he, .int se, .int si, .int ef, .int ep, .int sm, .int mh])), (tp, .inl (0, 512, .inl tf)), (nm, .inl (0, 100, .inl nf)), (nl, .inl (0, 2, .inl lf))]) (hn : h.1 = n) (hs : h.2.1 = sl) (hn0 : 0 < n) : ax_M L xs 42 fr lo [.ref as, .int (nI k)] h (fun r h' => ∃ nf', r = some (.int 0) ∧ ax_hs h' [(as, .inr (4, [.ref rk, .ref nt, .ref tp, .int 0, .ref nm, .ref nl, .ref ak, .ref aw, .int bg, .int he, .int se, .int si, .int ef, .int ep, .int sm, .int mh])), (tp, .inl (0, 512, .inl tf)), (nm, .inl (0, 100, .inl nf')), (nl, .inl (0, 2, .inl (upd lf (nI k).toNatClampNeg 0)))] ∧ h'.1 = n ∧ h'.2.1 = sl ∧ ax_fr (fun x => x ∈ [as, nm, nl]) h h') := by
  show ax_A (ax_step L xs) ((42, 0, fr, lo), [(0, .ref as), (1, .int (nI k))], [], h) _
  have hbase : h.1 = n := hn
  have hbasl : h.2.1 = sl := hs
  have hf : ax_fr (fun x => x ∈ [as, nm, nl]) h h := ax_fr.rf
  refine ar_aload_n 1 d_42_0 rfl rfl ?_
  refine ar_getf 4 d_42_1 rfl (ci := 4) (k := 4) rfl (hF.at 0 rfl) rfl ?_
  refine ar_iload_n 5 d_42_4 rfl rfl ?_
  refine ar_bipush 7 (v := 50) d_42_5 rfl (by decide) ?_
  refine ar_imul 8 d_42_7 rfl ?_
  refine ar_top (x' := nI (k * 50)) ((mul50 k hk).1) ?_
  refine ar_iload_n 9 d_42_8 rfl rfl ?_
  refine ar_iconst 10 (v := 1) d_42_9 rfl (by decide) ?_
  refine ar_iadd 11 d_42_10 rfl ?_
  refine ar_bipush 13 (v := 50) d_42_11 rfl (by decide) ?_
  refine ar_imul 14 d_42_13 rfl ?_
  refine ar_top (x' := nI ((k + 1) * 50)) ((mul50 k hk).2) ?_
  refine ar_iconst 15 (v := 0) d_42_14 rfl (by decide) ?_
  refine ar_call (r := []) (na := 0) (kd := 0) (cm := 27) (fr2 := fr - 1) (lo2 := lo - 24) 18 d_42_15 (ar_hoS (as := [.ref nm, .int (nI (k * 50)), .int (nI ((k + 1) * 50)), .int 0]) rfl rfl rfl) rfl (by omega) (show lo - 24 + (19 + 5) = lo by omega) (Nat.le_of_ble_eq_true rfl) (Nat.le_of_ble_eq_true rfl) (c_27 (by omega) (by omega) (hF.at 2 rfl) (by decide) (by omega) (by omega)) ?_
  intro v hh hq
  obtain ⟨rfl, rfl⟩ := hq
  replace hF : ax_hs (ax_put h nm (.inl (0, 100, .inl (ax_fill nf (k * 50) ((k + 1) * 50) 0)))) [(as, .inr (4, [.ref rk, .ref nt, .ref tp, .int 0, .ref nm, .ref nl, .ref ak, .ref aw, .int bg, .int he, .int se, .int si, .int ef, .int ep, .int sm, .int mh])), (tp, .inl (0, 512, .inl tf)), (nm, .inl (0, 100, .inl (ax_fill nf (k * 50) ((k + 1) * 50) 0))), (nl, .inl (0, 2, .inl lf))] := hF.put 2 _ rfl rfl
  replace hf := hf.put (a := nm) (c := .inl (0, 100, .inl (ax_fill nf (k * 50) ((k + 1) * 50) 0))) (by simp)
  replace hn : (ax_put h nm (.inl (0, 100, .inl (ax_fill nf (k * 50) ((k + 1) * 50) 0)))).1 = n := hn
  replace hs : (ax_put h nm (.inl (0, 100, .inl (ax_fill nf (k * 50) ((k + 1) * 50) 0)))).2.1 = sl := hs
  generalize ax_put h nm (.inl (0, 100, .inl (ax_fill nf (k * 50) ((k + 1) * 50) 0))) = h1 at hF hf hn hs ⊢
  refine ar_aload_n 19 d_42_18 rfl rfl ?_
  refine ar_getf 22 d_42_19 rfl (ci := 4) (k := 2) rfl (hF.at 0 rfl) rfl ?_
  refine ar_iconst 23 (v := 0) d_42_22 rfl (by decide) ?_
  refine ar_aload_n 24 d_42_23 rfl rfl ?_
  refine ar_getf 27 d_42_24 rfl (ci := 4) (k := 4) rfl (hF.at 0 rfl) rfl ?_
  refine ar_iload_n 28 d_42_27 rfl rfl ?_
  refine ar_sipush 31 (v := 200) d_42_28 rfl (by decide) ?_
  refine ar_imul 32 d_42_31 rfl ?_
  refine ar_aload_n 33 d_42_32 rfl rfl ?_
  refine ar_getf 36 d_42_33 rfl (ci := 4) (k := 3) rfl (hF.at 0 rfl) rfl ?_
  refine ar_call (r := []) (na := 0) (kd := 0) (cm := 43) (fr2 := fr - 1) (lo2 := lo - 27) 39 d_42_36 (ar_hoS (as := [.ref tp, .int 0, .ref nm, .int ((nI k) * 200), .int 0]) rfl rfl rfl) rfl (by omega) (show lo - 27 + (19 + 8) = lo by omega) (Nat.le_of_ble_eq_true rfl) (Nat.le_of_ble_eq_true rfl) (c_43z (by omega) (by omega) hk (hF.sub (F' := [(tp, .inl (0, 512, .inl tf)), (nm, .inl (0, 100, .inl (ax_fill nf (k * 50) ((k + 1) * 50) 0)))]) [1, 2] rfl rfl)) ?_
  intro v hh hq
  obtain ⟨rfl, nf', rfl⟩ := hq
  replace hF : ax_hs (ax_put h1 nm (.inl (0, 100, .inl nf'))) [(as, .inr (4, [.ref rk, .ref nt, .ref tp, .int 0, .ref nm, .ref nl, .ref ak, .ref aw, .int bg, .int he, .int se, .int si, .int ef, .int ep, .int sm, .int mh])), (tp, .inl (0, 512, .inl tf)), (nm, .inl (0, 100, .inl nf')), (nl, .inl (0, 2, .inl lf))] := hF.put 2 _ rfl rfl
  replace hf := hf.put (a := nm) (c := .inl (0, 100, .inl nf')) (by simp)
  replace hn : (ax_put h1 nm (.inl (0, 100, .inl nf'))).1 = n := hn
  replace hs : (ax_put h1 nm (.inl (0, 100, .inl nf'))).2.1 = sl := hs
  generalize ax_put h1 nm (.inl (0, 100, .inl nf')) = h2 at hF hf hn hs ⊢
  refine ar_aload_n 40 d_42_39 rfl rfl ?_
  refine ar_getf 43 d_42_40 rfl (ci := 4) (k := 5) rfl (hF.at 0 rfl) rfl ?_
  refine ar_iload_n 44 d_42_43 rfl rfl ?_
  refine ar_aload_n 45 d_42_44 rfl rfl ?_
  refine ar_getf 48 d_42_45 rfl (ci := 4) (k := 3) rfl (hF.at 0 rfl) rfl ?_
  refine ar_iast 49 d_42_48 rfl (hF.at 3 rfl) (nI_in hk (by omega)) ?_
  replace hF : ax_hs (ax_put h2 nl (.inl (0, 2, .inl (upd lf (nI k).toNatClampNeg 0)))) [(as, .inr (4, [.ref rk, .ref nt, .ref tp, .int 0, .ref nm, .ref nl, .ref ak, .ref aw, .int bg, .int he, .int se, .int si, .int ef, .int ep, .int sm, .int mh])), (tp, .inl (0, 512, .inl tf)), (nm, .inl (0, 100, .inl nf')), (nl, .inl (0, 2, .inl (upd lf (nI k).toNatClampNeg 0)))] := hF.put 3 _ rfl rfl
  replace hf := hf.put (a := nl) (c := .inl (0, 2, .inl (upd lf (nI k).toNatClampNeg 0))) (by simp)
  replace hn : (ax_put h2 nl (.inl (0, 2, .inl (upd lf (nI k).toNatClampNeg 0)))).1 = n := hn
  replace hs : (ax_put h2 nl (.inl (0, 2, .inl (upd lf (nI k).toNatClampNeg 0)))).2.1 = sl := hs
  generalize ax_put h2 nl (.inl (0, 2, .inl (upd lf (nI k).toNatClampNeg 0))) = h3 at hF hf hn hs ⊢
  refine ar_aload_n 50 d_42_49 rfl rfl ?_
  refine ar_iconst 51 (v := 0) d_42_50 rfl (by decide) ?_
  refine ar_putf 54 [.ref rk, .ref nt, .ref tp, .int 0, .ref nm, .ref nl, .ref ak, .ref aw, .int bg, .int he, .int se, .int si, .int ef, .int ep, .int sm, .int mh] d_42_51 rfl (ci := 4) (k := 3) rfl rfl (hF.at 0 rfl) (Nat.le_of_ble_eq_true rfl) rfl rfl rfl ?_
  replace hF : ax_hs (ax_put h3 as (.inr (4, [.ref rk, .ref nt, .ref tp, .int 0, .ref nm, .ref nl, .ref ak, .ref aw, .int bg, .int he, .int se, .int si, .int ef, .int ep, .int sm, .int mh]))) [(as, .inr (4, [.ref rk, .ref nt, .ref tp, .int 0, .ref nm, .ref nl, .ref ak, .ref aw, .int bg, .int he, .int se, .int si, .int ef, .int ep, .int sm, .int mh])), (tp, .inl (0, 512, .inl tf)), (nm, .inl (0, 100, .inl nf')), (nl, .inl (0, 2, .inl (upd lf (nI k).toNatClampNeg 0)))] := hF.put 0 _ rfl rfl
  replace hf := hf.put (a := as) (c := .inr (4, [.ref rk, .ref nt, .ref tp, .int 0, .ref nm, .ref nl, .ref ak, .ref aw, .int bg, .int he, .int se, .int si, .int ef, .int ep, .int sm, .int mh])) (by simp)
  replace hn : (ax_put h3 as (.inr (4, [.ref rk, .ref nt, .ref tp, .int 0, .ref nm, .ref nl, .ref ak, .ref aw, .int bg, .int he, .int se, .int si, .int ef, .int ep, .int sm, .int mh]))).1 = n := hn
  replace hs : (ax_put h3 as (.inr (4, [.ref rk, .ref nt, .ref tp, .int 0, .ref nm, .ref nl, .ref ak, .ref aw, .int bg, .int he, .int se, .int si, .int ef, .int ep, .int sm, .int mh]))).2.1 = sl := hs
  generalize ax_put h3 as (.inr (4, [.ref rk, .ref nt, .ref tp, .int 0, .ref nm, .ref nl, .ref ak, .ref aw, .int bg, .int he, .int se, .int si, .int ef, .int ep, .int sm, .int mh])) = h4 at hF hf hn hs ⊢
  refine ar_aload_n 55 d_42_54 rfl rfl ?_
  refine ar_getf 58 d_42_55 rfl (ci := 4) (k := 5) rfl (hF.at 0 rfl) rfl ?_
  refine ar_iload_n 59 d_42_58 rfl rfl ?_
  refine ar_iald 60 d_42_59 rfl (hF.at 3 rfl) (nI_in hk (by omega)) ?_
  refine ar_top (x' := 0) (by show upd lf _ 0 _ = 0; exact upd_s _ _ _) ?_
  exact ar_iret d_42_60 rfl rfl (⟨nf', rfl, hF, hn, hs, hf⟩)
theorem f_41z {L : Nat} {xs : Nat → Int32} {fr lo : Nat} {h : ax_H} {s0 na tb od sn : Nat} {c0 c1 c2 c3 : Int32} {as rk nt tp nm nl ak aw : Nat} {bg he se si ef ep sm mh : Int32} {tf nf lf : Nat → Int32} {x : Int32} (hfr : 3 ≤ fr) (hlo : 110 ≤ lo) (hn0 : 0 < h.1) (hF : ax_hs h [(s0, .inr (0, [.ref rk, .ref nt, .ref as, .ref na, .ref tb, .ref od, .ref sn, .int c0, .int c1, .int c2, .int c3])), (as, .inr (4, [.ref rk, .ref nt, .ref tp, .int 0, .ref nm, .ref nl, .ref ak, .ref aw, .int bg, .int he, .int se, .int si, .int ef, .int ep, .int sm, .int mh])), (tp, .inl (0, 512, .inl tf)), (nm, .inl (0, 100, .inl nf)), (nl, .inl (0, 2, .inl lf))]) : ax_M L xs 41 fr lo [.ref s0, .int x] h (fun r h' => ((x < 0 ∨ 1 < x) ∧ r = some (.int (-1)) ∧ h' = h) ∨ (¬ x < 0 ∧ ¬ 1 < x ∧ r = some (.int 0) ∧ h'.1 = h.1 ∧ h'.2.1 = h.2.1 ∧ ax_fr (fun x => x ∈ [as, nm, nl]) h h')) := by
  show ax_A (ax_step L xs) ((41, 0, fr, lo), [(0, .ref s0), (1, .int x)], [], h) _
  refine ar_iload_n 1 d_41_0 rfl rfl ?_
  refine ar_if_lt 22 4 d_41_1 (by decide) rfl (fun c1 => ?_) (fun c1 => ?_)
  · refine ar_iconst 23 (v := -1) d_41_22 rfl (by decide) ?_
    exact ar_iret d_41_23 rfl rfl (Or.inl ⟨Or.inl c1, rfl, rfl⟩)
  · refine ar_iload_n 5 d_41_4 rfl rfl ?_
    refine ar_iconst 6 (v := 1) d_41_5 rfl (by decide) ?_
    refine ar_icmp_gt 22 9 d_41_6 (by decide) rfl (fun c2 => ?_) (fun c2 => ?_)
    · refine ar_iconst 23 (v := -1) d_41_22 rfl (by decide) ?_
      exact ar_iret d_41_23 rfl rfl (Or.inl ⟨Or.inr c2, rfl, rfl⟩)
    · obtain ⟨k, hk0, rfl⟩ := nI_of c1
      have hk : k < 2 := by have := (nI_leI (b := 1) hk0 (by omega)).mp (Int32.not_lt.mp c2); omega
      refine ar_aload_n 10 d_41_9 rfl rfl ?_
      refine ar_getf 13 d_41_10 rfl (ci := 0) (k := 2) rfl (hF.at 0 rfl) rfl ?_
      refine ar_getf 16 d_41_13 rfl (ci := 4) (k := 3) rfl (hF.at 1 rfl) rfl ?_
      refine ar_sipush 19 (v := 200) d_41_16 rfl (by decide) ?_
      refine ar_icmp_le 24 22 d_41_19 (by decide) rfl (fun _ => ?_) (fun c => absurd (by decide) c)
      refine ar_aload_n 25 d_41_24 rfl rfl ?_
      refine ar_getf 28 d_41_25 rfl (ci := 0) (k := 2) rfl (hF.at 0 rfl) rfl ?_
      refine ar_iload_n 29 d_41_28 rfl rfl ?_
      refine ar_call (r := []) (na := 0) (kd := 0) (cm := 42) (fr2 := fr - 1) (lo2 := lo - 21) 32 d_41_29 (ar_hoV (as := [.int (nI k)]) rfl rfl rfl (hF.at 1 rfl)) rfl (by omega) (show lo - 21 + (19 + 2) = lo by omega) (Nat.le_of_ble_eq_true rfl) (Nat.le_of_ble_eq_true rfl) (c_42z (by omega) (by omega) hk (hF.sub (F' := [(as, .inr (4, [.ref rk, .ref nt, .ref tp, .int 0, .ref nm, .ref nl, .ref ak, .ref aw, .int bg, .int he, .int se, .int si, .int ef, .int ep, .int sm, .int mh])), (tp, .inl (0, 512, .inl tf)), (nm, .inl (0, 100, .inl nf)), (nl, .inl (0, 2, .inl lf))]) [1, 2, 3, 4] rfl rfl) rfl rfl hn0) ?_
      intro v h2 hq
      obtain ⟨nf', rfl, qF, qn, qs, qf⟩ := hq
      exact ar_iret d_41_32 rfl rfl (Or.inr ⟨c1, fun z => c2 z, rfl, qn, qs, qf⟩)

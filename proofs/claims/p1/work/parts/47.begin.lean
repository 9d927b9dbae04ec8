/-! begin, as nothing was begun and no NAME is given -/
theorem c_45z {L : Nat} {xs : Nat → Int32} {fr lo : Nat} {h : ax_H} {as rk nt tp nm nl ak aw : Nat} {ln bg he se si ef ep sm mh : Int32} {lf : Nat → Int32} {x y z : Int32} (hl0 : lf ((0 : Int32).toNatClampNeg) = 0) (hF : ax_hs h [(as, .inr (4, [.ref rk, .ref nt, .ref tp, .int ln, .ref nm, .ref nl, .ref ak, .ref aw, .int bg, .int he, .int se, .int si, .int ef, .int ep, .int sm, .int mh])), (nl, .inl (0, 2, .inl lf))]) : ax_M L xs 45 fr lo [.ref as, .int x, .int y, .int z] h (fun r h' => (x = 9 ∧ r = some (.int 1) ∧ h' = h) ∨ (¬ x = 9 ∧ r = some (.int 0) ∧ h' = h)) := by
  show ax_A (ax_step L xs) ((45, 0, fr, lo), [(0, .ref as), (1, .int x), (2, .int y), (3, .int z)], [], h) _
  refine ar_iload_n 1 d_45_0 rfl rfl ?_
  refine ar_if_lt 25 4 d_45_1 (by decide) rfl (fun c1 => ?_) (fun c1 => ?_)
  · refine ar_iconst 26 (v := 0) d_45_25 rfl (by decide) ?_
    exact ar_iret d_45_26 rfl rfl (Or.inr ⟨fun e => absurd (e ▸ c1) (by decide), rfl, rfl⟩)
  · refine ar_iload_n 5 d_45_4 rfl rfl ?_
    refine ar_bipush 7 (v := 9) d_45_5 rfl (by decide) ?_
    refine ar_icmp_gt 25 10 d_45_7 (by decide) rfl (fun c2 => ?_) (fun c2 => ?_)
    · refine ar_iconst 26 (v := 0) d_45_25 rfl (by decide) ?_
      exact ar_iret d_45_26 rfl rfl (Or.inr ⟨fun e => absurd (e ▸ c2) (by decide), rfl, rfl⟩)
    · refine ar_iload_n 11 d_45_10 rfl rfl ?_
      refine ar_bipush 13 (v := 9) d_45_11 rfl (by decide) ?_
      refine ar_icmp_eq 27 16 d_45_13 (by decide) rfl (fun c3 => ?_) (fun c3 => ?_)
      · subst c3
        refine ar_iload_n 28 d_45_27 rfl rfl ?_
        refine ar_bipush 30 (v := 6) d_45_28 rfl (by decide) ?_
        refine ar_icmp_eq 39 33 d_45_30 (by decide) rfl (fun c => absurd c (by decide)) (fun _ => ?_)
        refine ar_iload_n 34 d_45_33 rfl rfl ?_
        refine ar_bipush 36 (v := 7) d_45_34 rfl (by decide) ?_
        refine ar_icmp_ne 50 39 d_45_36 (by decide) rfl (fun _ => ?_) (fun c => absurd (by decide) c)
        refine ar_iload_n 51 d_45_50 rfl rfl ?_
        refine ar_iconst 52 (v := 1) d_45_51 rfl (by decide) ?_
        refine ar_icmp_eq 65 55 d_45_52 (by decide) rfl (fun c => absurd c (by decide)) (fun _ => ?_)
        refine ar_iload_n 56 d_45_55 rfl rfl ?_
        refine ar_iconst 57 (v := 3) d_45_56 rfl (by decide) ?_
        refine ar_icmp_eq 65 60 d_45_57 (by decide) rfl (fun c => absurd c (by decide)) (fun _ => ?_)
        refine ar_iload_n 61 d_45_60 rfl rfl ?_
        refine ar_iconst 62 (v := 4) d_45_61 rfl (by decide) ?_
        refine ar_icmp_ne 78 65 d_45_62 (by decide) rfl (fun _ => ?_) (fun c => absurd (by decide) c)
        refine ar_iload_n 79 d_45_78 rfl rfl ?_
        refine ar_iconst 80 (v := 4) d_45_79 rfl (by decide) ?_
        refine ar_icmp_ne 94 83 d_45_80 (by decide) rfl (fun _ => ?_) (fun c => absurd (by decide) c)
        refine ar_iconst 95 (v := 1) d_45_94 rfl (by decide) ?_
        refine ar_goto 99 d_45_95 (by decide) ?_
        exact ar_iret d_45_99 rfl rfl (Or.inl ⟨rfl, rfl, rfl⟩)
      · refine ar_aload_n 17 d_45_16 rfl rfl ?_
        refine ar_getf 20 d_45_17 rfl (ci := 4) (k := 5) rfl (hF.at 0 rfl) rfl ?_
        refine ar_iconst 21 (v := 0) d_45_20 rfl (by decide) ?_
        refine ar_iald 22 d_45_21 rfl (hF.at 1 rfl) (vin (i := 0) (by decide) (by decide)) ?_
        refine ar_if_ne 27 25 d_45_22 (by decide) rfl (fun c => absurd c (fun q => q hl0)) (fun _ => ?_)
        refine ar_iconst 26 (v := 0) d_45_25 rfl (by decide) ?_
        exact ar_iret d_45_26 rfl rfl (Or.inr ⟨c3, rfl, rfl⟩)
theorem c_48z {L : Nat} {xs : Nat → Int32} {fr lo : Nat} {h : ax_H} {ao wd mm mb : Nat} {k0 k1 k2 k3 k4 k6 u0 u1 u2 u3 u4 u5 u6 u7 : Int32} {wf bf : Nat → Int32} {n sl : Nat} (hfr : 1 ≤ fr) (hlo : 30 ≤ lo) (hF : ax_hs h [(ao, .inr (5, [.int k0, .int k1, .int k2, .int k3, .int k4, .int 0, .int k6, .ref wd])), (wd, .inl (0, 612, .inl wf)), (mm, .inr (2, [.int u0, .int u1, .int u2, .int u3, .int u4, .int u5, .int u6, .int u7, .ref mb])), (mb, .inl (0, 617, .inl bf))]) (hn : h.1 = n) (hs : h.2.1 = sl) (hn0 : 0 < n) : ax_M L xs 48 fr lo [.ref ao, .ref mm] h (fun r h' => ∃ bf', r = none ∧ ax_hs h' [(ao, .inr (5, [.int k0, .int k1, .int k2, .int k3, .int k4, .int 0, .int k6, .ref wd])), (wd, .inl (0, 612, .inl wf)), (mm, .inr (2, [.int u0, .int u1, .int u2, .int u3, .int u4, .int u5, .int u6, .int 0, .ref mb])), (mb, .inl (0, 617, .inl bf'))] ∧ h'.1 = n ∧ h'.2.1 = sl ∧ ax_fr (fun x => x ∈ [mm, mb]) h h') := by
  show ax_A (ax_step L xs) ((48, 0, fr, lo), [(0, .ref ao), (1, .ref mm)], [], h) _
  have hbase : h.1 = n := hn
  have hbasl : h.2.1 = sl := hs
  have hf : ax_fr (fun x => x ∈ [mm, mb]) h h := ax_fr.rf
  refine ar_aload_n 1 d_48_0 rfl rfl ?_
  refine ar_aload_n 2 d_48_1 rfl rfl ?_
  refine ar_getf 5 d_48_2 rfl (ci := 5) (k := 5) rfl (hF.at 0 rfl) rfl ?_
  refine ar_putf 8 [.int u0, .int u1, .int u2, .int u3, .int u4, .int u5, .int u6, .int 0, .ref mb] d_48_5 rfl (ci := 2) (k := 7) rfl rfl (hF.at 2 rfl) (Nat.le_of_ble_eq_true rfl) rfl rfl rfl ?_
  replace hF : ax_hs (ax_put h mm (.inr (2, [.int u0, .int u1, .int u2, .int u3, .int u4, .int u5, .int u6, .int 0, .ref mb]))) [(ao, .inr (5, [.int k0, .int k1, .int k2, .int k3, .int k4, .int 0, .int k6, .ref wd])), (wd, .inl (0, 612, .inl wf)), (mm, .inr (2, [.int u0, .int u1, .int u2, .int u3, .int u4, .int u5, .int u6, .int 0, .ref mb])), (mb, .inl (0, 617, .inl bf))] := hF.put 2 _ rfl rfl
  replace hf := hf.put (a := mm) (c := .inr (2, [.int u0, .int u1, .int u2, .int u3, .int u4, .int u5, .int u6, .int 0, .ref mb])) (by simp)
  replace hn : (ax_put h mm (.inr (2, [.int u0, .int u1, .int u2, .int u3, .int u4, .int u5, .int u6, .int 0, .ref mb]))).1 = n := hn
  replace hs : (ax_put h mm (.inr (2, [.int u0, .int u1, .int u2, .int u3, .int u4, .int u5, .int u6, .int 0, .ref mb]))).2.1 = sl := hs
  generalize ax_put h mm (.inr (2, [.int u0, .int u1, .int u2, .int u3, .int u4, .int u5, .int u6, .int 0, .ref mb])) = h1 at hF hf hn hs ⊢
  refine ar_aload_n 9 d_48_8 rfl rfl ?_
  refine ar_getf 12 d_48_9 rfl (ci := 2) (k := 8) rfl (hF.at 2 rfl) rfl ?_
  refine ar_iconst 13 (v := 0) d_48_12 rfl (by decide) ?_
  refine ar_aload_n 14 d_48_13 rfl rfl ?_
  refine ar_getf 17 d_48_14 rfl (ci := 5) (k := 0) rfl (hF.at 0 rfl) rfl ?_
  refine ar_iast 18 d_48_17 rfl (hF.at 3 rfl) (vin (i := 0) (by decide) (by decide)) ?_
  replace hF : ax_hs (ax_put h1 mb (.inl (0, 617, .inl (upd bf ((0 : Int32).toNatClampNeg) k0)))) [(ao, .inr (5, [.int k0, .int k1, .int k2, .int k3, .int k4, .int 0, .int k6, .ref wd])), (wd, .inl (0, 612, .inl wf)), (mm, .inr (2, [.int u0, .int u1, .int u2, .int u3, .int u4, .int u5, .int u6, .int 0, .ref mb])), (mb, .inl (0, 617, .inl (upd bf ((0 : Int32).toNatClampNeg) k0)))] := hF.put 3 _ rfl rfl
  replace hf := hf.put (a := mb) (c := .inl (0, 617, .inl (upd bf ((0 : Int32).toNatClampNeg) k0))) (by simp)
  replace hn : (ax_put h1 mb (.inl (0, 617, .inl (upd bf ((0 : Int32).toNatClampNeg) k0)))).1 = n := hn
  replace hs : (ax_put h1 mb (.inl (0, 617, .inl (upd bf ((0 : Int32).toNatClampNeg) k0)))).2.1 = sl := hs
  generalize ax_put h1 mb (.inl (0, 617, .inl (upd bf ((0 : Int32).toNatClampNeg) k0))) = h2 at hF hf hn hs ⊢
  refine ar_aload_n 19 d_48_18 rfl rfl ?_
  refine ar_getf 22 d_48_19 rfl (ci := 2) (k := 8) rfl (hF.at 2 rfl) rfl ?_
  refine ar_iconst 23 (v := 1) d_48_22 rfl (by decide) ?_
  refine ar_aload_n 24 d_48_23 rfl rfl ?_
  refine ar_getf 27 d_48_24 rfl (ci := 5) (k := 1) rfl (hF.at 0 rfl) rfl ?_
  refine ar_iast 28 d_48_27 rfl (hF.at 3 rfl) (vin (i := 1) (by decide) (by decide)) ?_
  replace hF : ax_hs (ax_put h2 mb (.inl (0, 617, .inl (upd (upd bf ((0 : Int32).toNatClampNeg) k0) ((1 : Int32).toNatClampNeg) k1)))) [(ao, .inr (5, [.int k0, .int k1, .int k2, .int k3, .int k4, .int 0, .int k6, .ref wd])), (wd, .inl (0, 612, .inl wf)), (mm, .inr (2, [.int u0, .int u1, .int u2, .int u3, .int u4, .int u5, .int u6, .int 0, .ref mb])), (mb, .inl (0, 617, .inl (upd (upd bf ((0 : Int32).toNatClampNeg) k0) ((1 : Int32).toNatClampNeg) k1)))] := hF.put 3 _ rfl rfl
  replace hf := hf.put (a := mb) (c := .inl (0, 617, .inl (upd (upd bf ((0 : Int32).toNatClampNeg) k0) ((1 : Int32).toNatClampNeg) k1))) (by simp)
  replace hn : (ax_put h2 mb (.inl (0, 617, .inl (upd (upd bf ((0 : Int32).toNatClampNeg) k0) ((1 : Int32).toNatClampNeg) k1)))).1 = n := hn
  replace hs : (ax_put h2 mb (.inl (0, 617, .inl (upd (upd bf ((0 : Int32).toNatClampNeg) k0) ((1 : Int32).toNatClampNeg) k1)))).2.1 = sl := hs
  generalize ax_put h2 mb (.inl (0, 617, .inl (upd (upd bf ((0 : Int32).toNatClampNeg) k0) ((1 : Int32).toNatClampNeg) k1))) = h3 at hF hf hn hs ⊢
  refine ar_aload_n 29 d_48_28 rfl rfl ?_
  refine ar_getf 32 d_48_29 rfl (ci := 2) (k := 8) rfl (hF.at 2 rfl) rfl ?_
  refine ar_iconst 33 (v := 2) d_48_32 rfl (by decide) ?_
  refine ar_aload_n 34 d_48_33 rfl rfl ?_
  refine ar_getf 37 d_48_34 rfl (ci := 5) (k := 2) rfl (hF.at 0 rfl) rfl ?_
  refine ar_iast 38 d_48_37 rfl (hF.at 3 rfl) (vin (i := 2) (by decide) (by decide)) ?_
  replace hF : ax_hs (ax_put h3 mb (.inl (0, 617, .inl (upd (upd (upd bf ((0 : Int32).toNatClampNeg) k0) ((1 : Int32).toNatClampNeg) k1) ((2 : Int32).toNatClampNeg) k2)))) [(ao, .inr (5, [.int k0, .int k1, .int k2, .int k3, .int k4, .int 0, .int k6, .ref wd])), (wd, .inl (0, 612, .inl wf)), (mm, .inr (2, [.int u0, .int u1, .int u2, .int u3, .int u4, .int u5, .int u6, .int 0, .ref mb])), (mb, .inl (0, 617, .inl (upd (upd (upd bf ((0 : Int32).toNatClampNeg) k0) ((1 : Int32).toNatClampNeg) k1) ((2 : Int32).toNatClampNeg) k2)))] := hF.put 3 _ rfl rfl
  replace hf := hf.put (a := mb) (c := .inl (0, 617, .inl (upd (upd (upd bf ((0 : Int32).toNatClampNeg) k0) ((1 : Int32).toNatClampNeg) k1) ((2 : Int32).toNatClampNeg) k2))) (by simp)
  replace hn : (ax_put h3 mb (.inl (0, 617, .inl (upd (upd (upd bf ((0 : Int32).toNatClampNeg) k0) ((1 : Int32).toNatClampNeg) k1) ((2 : Int32).toNatClampNeg) k2)))).1 = n := hn
  replace hs : (ax_put h3 mb (.inl (0, 617, .inl (upd (upd (upd bf ((0 : Int32).toNatClampNeg) k0) ((1 : Int32).toNatClampNeg) k1) ((2 : Int32).toNatClampNeg) k2)))).2.1 = sl := hs
  generalize ax_put h3 mb (.inl (0, 617, .inl (upd (upd (upd bf ((0 : Int32).toNatClampNeg) k0) ((1 : Int32).toNatClampNeg) k1) ((2 : Int32).toNatClampNeg) k2))) = h4 at hF hf hn hs ⊢
  refine ar_aload_n 39 d_48_38 rfl rfl ?_
  refine ar_getf 42 d_48_39 rfl (ci := 2) (k := 8) rfl (hF.at 2 rfl) rfl ?_
  refine ar_iconst 43 (v := 3) d_48_42 rfl (by decide) ?_
  refine ar_aload_n 44 d_48_43 rfl rfl ?_
  refine ar_getf 47 d_48_44 rfl (ci := 5) (k := 3) rfl (hF.at 0 rfl) rfl ?_
  refine ar_iast 48 d_48_47 rfl (hF.at 3 rfl) (vin (i := 3) (by decide) (by decide)) ?_
  replace hF : ax_hs (ax_put h4 mb (.inl (0, 617, .inl (upd (upd (upd (upd bf ((0 : Int32).toNatClampNeg) k0) ((1 : Int32).toNatClampNeg) k1) ((2 : Int32).toNatClampNeg) k2) ((3 : Int32).toNatClampNeg) k3)))) [(ao, .inr (5, [.int k0, .int k1, .int k2, .int k3, .int k4, .int 0, .int k6, .ref wd])), (wd, .inl (0, 612, .inl wf)), (mm, .inr (2, [.int u0, .int u1, .int u2, .int u3, .int u4, .int u5, .int u6, .int 0, .ref mb])), (mb, .inl (0, 617, .inl (upd (upd (upd (upd bf ((0 : Int32).toNatClampNeg) k0) ((1 : Int32).toNatClampNeg) k1) ((2 : Int32).toNatClampNeg) k2) ((3 : Int32).toNatClampNeg) k3)))] := hF.put 3 _ rfl rfl
  replace hf := hf.put (a := mb) (c := .inl (0, 617, .inl (upd (upd (upd (upd bf ((0 : Int32).toNatClampNeg) k0) ((1 : Int32).toNatClampNeg) k1) ((2 : Int32).toNatClampNeg) k2) ((3 : Int32).toNatClampNeg) k3))) (by simp)
  replace hn : (ax_put h4 mb (.inl (0, 617, .inl (upd (upd (upd (upd bf ((0 : Int32).toNatClampNeg) k0) ((1 : Int32).toNatClampNeg) k1) ((2 : Int32).toNatClampNeg) k2) ((3 : Int32).toNatClampNeg) k3)))).1 = n := hn
  replace hs : (ax_put h4 mb (.inl (0, 617, .inl (upd (upd (upd (upd bf ((0 : Int32).toNatClampNeg) k0) ((1 : Int32).toNatClampNeg) k1) ((2 : Int32).toNatClampNeg) k2) ((3 : Int32).toNatClampNeg) k3)))).2.1 = sl := hs
  generalize ax_put h4 mb (.inl (0, 617, .inl (upd (upd (upd (upd bf ((0 : Int32).toNatClampNeg) k0) ((1 : Int32).toNatClampNeg) k1) ((2 : Int32).toNatClampNeg) k2) ((3 : Int32).toNatClampNeg) k3))) = h5 at hF hf hn hs ⊢
  refine ar_aload_n 49 d_48_48 rfl rfl ?_
  refine ar_getf 52 d_48_49 rfl (ci := 2) (k := 8) rfl (hF.at 2 rfl) rfl ?_
  refine ar_iconst 53 (v := 4) d_48_52 rfl (by decide) ?_
  refine ar_aload_n 54 d_48_53 rfl rfl ?_
  refine ar_getf 57 d_48_54 rfl (ci := 5) (k := 4) rfl (hF.at 0 rfl) rfl ?_
  refine ar_iast 58 d_48_57 rfl (hF.at 3 rfl) (vin (i := 4) (by decide) (by decide)) ?_
  replace hF : ax_hs (ax_put h5 mb (.inl (0, 617, .inl (upd (upd (upd (upd (upd bf ((0 : Int32).toNatClampNeg) k0) ((1 : Int32).toNatClampNeg) k1) ((2 : Int32).toNatClampNeg) k2) ((3 : Int32).toNatClampNeg) k3) ((4 : Int32).toNatClampNeg) k4)))) [(ao, .inr (5, [.int k0, .int k1, .int k2, .int k3, .int k4, .int 0, .int k6, .ref wd])), (wd, .inl (0, 612, .inl wf)), (mm, .inr (2, [.int u0, .int u1, .int u2, .int u3, .int u4, .int u5, .int u6, .int 0, .ref mb])), (mb, .inl (0, 617, .inl (upd (upd (upd (upd (upd bf ((0 : Int32).toNatClampNeg) k0) ((1 : Int32).toNatClampNeg) k1) ((2 : Int32).toNatClampNeg) k2) ((3 : Int32).toNatClampNeg) k3) ((4 : Int32).toNatClampNeg) k4)))] := hF.put 3 _ rfl rfl
  replace hf := hf.put (a := mb) (c := .inl (0, 617, .inl (upd (upd (upd (upd (upd bf ((0 : Int32).toNatClampNeg) k0) ((1 : Int32).toNatClampNeg) k1) ((2 : Int32).toNatClampNeg) k2) ((3 : Int32).toNatClampNeg) k3) ((4 : Int32).toNatClampNeg) k4))) (by simp)
  replace hn : (ax_put h5 mb (.inl (0, 617, .inl (upd (upd (upd (upd (upd bf ((0 : Int32).toNatClampNeg) k0) ((1 : Int32).toNatClampNeg) k1) ((2 : Int32).toNatClampNeg) k2) ((3 : Int32).toNatClampNeg) k3) ((4 : Int32).toNatClampNeg) k4)))).1 = n := hn
  replace hs : (ax_put h5 mb (.inl (0, 617, .inl (upd (upd (upd (upd (upd bf ((0 : Int32).toNatClampNeg) k0) ((1 : Int32).toNatClampNeg) k1) ((2 : Int32).toNatClampNeg) k2) ((3 : Int32).toNatClampNeg) k3) ((4 : Int32).toNatClampNeg) k4)))).2.1 = sl := hs
  generalize ax_put h5 mb (.inl (0, 617, .inl (upd (upd (upd (upd (upd bf ((0 : Int32).toNatClampNeg) k0) ((1 : Int32).toNatClampNeg) k1) ((2 : Int32).toNatClampNeg) k2) ((3 : Int32).toNatClampNeg) k3) ((4 : Int32).toNatClampNeg) k4))) = h6 at hF hf hn hs ⊢
  refine ar_aload_n 59 d_48_58 rfl rfl ?_
  refine ar_getf 62 d_48_59 rfl (ci := 5) (k := 7) rfl (hF.at 0 rfl) rfl ?_
  refine ar_iconst 63 (v := 0) d_48_62 rfl (by decide) ?_
  refine ar_aload_n 64 d_48_63 rfl rfl ?_
  refine ar_getf 67 d_48_64 rfl (ci := 2) (k := 8) rfl (hF.at 2 rfl) rfl ?_
  refine ar_iconst 68 (v := 5) d_48_67 rfl (by decide) ?_
  refine ar_bipush 70 (v := 100) d_48_68 rfl (by decide) ?_
  refine ar_aload_n 71 d_48_70 rfl rfl ?_
  refine ar_getf 74 d_48_71 rfl (ci := 5) (k := 5) rfl (hF.at 0 rfl) rfl ?_
  refine ar_iconst 75 (v := 3) d_48_74 rfl (by decide) ?_
  refine ar_iadd 76 d_48_75 rfl ?_
  refine ar_iconst 77 (v := 4) d_48_76 rfl (by decide) ?_
  refine ar_idiv 78 d_48_77 rfl (by decide) ?_
  refine ar_top (x' := 0) (by decide) ?_
  refine ar_iadd 79 d_48_78 rfl ?_
  refine ar_top (x' := 100) (by decide) ?_
  refine ar_copy 82 d_48_79 rfl rfl (by omega) (by show 0 + (nativeFrameWords "java/lang/System" "arraycopy" 5 + 11) ≤ lo; rw [nfw_copy]; omega) (hF.at 1 rfl) (hF.at 3 rfl) (by decide) (by decide) (by decide) (by decide) (by decide) ?_
  replace hF : ax_hs (ax_put h6 mb (.inl (0, 617, .inl (va_cpy wf (upd (upd (upd (upd (upd bf ((0 : Int32).toNatClampNeg) k0) ((1 : Int32).toNatClampNeg) k1) ((2 : Int32).toNatClampNeg) k2) ((3 : Int32).toNatClampNeg) k3) ((4 : Int32).toNatClampNeg) k4) ((0 : Int32).toNatClampNeg) ((5 : Int32).toNatClampNeg) ((100 : Int32).toNatClampNeg))))) [(ao, .inr (5, [.int k0, .int k1, .int k2, .int k3, .int k4, .int 0, .int k6, .ref wd])), (wd, .inl (0, 612, .inl wf)), (mm, .inr (2, [.int u0, .int u1, .int u2, .int u3, .int u4, .int u5, .int u6, .int 0, .ref mb])), (mb, .inl (0, 617, .inl (va_cpy wf (upd (upd (upd (upd (upd bf ((0 : Int32).toNatClampNeg) k0) ((1 : Int32).toNatClampNeg) k1) ((2 : Int32).toNatClampNeg) k2) ((3 : Int32).toNatClampNeg) k3) ((4 : Int32).toNatClampNeg) k4) ((0 : Int32).toNatClampNeg) ((5 : Int32).toNatClampNeg) ((100 : Int32).toNatClampNeg))))] := hF.put 3 _ rfl rfl
  replace hf := hf.put (a := mb) (c := .inl (0, 617, .inl (va_cpy wf (upd (upd (upd (upd (upd bf ((0 : Int32).toNatClampNeg) k0) ((1 : Int32).toNatClampNeg) k1) ((2 : Int32).toNatClampNeg) k2) ((3 : Int32).toNatClampNeg) k3) ((4 : Int32).toNatClampNeg) k4) ((0 : Int32).toNatClampNeg) ((5 : Int32).toNatClampNeg) ((100 : Int32).toNatClampNeg)))) (by simp)
  replace hn : (ax_put h6 mb (.inl (0, 617, .inl (va_cpy wf (upd (upd (upd (upd (upd bf ((0 : Int32).toNatClampNeg) k0) ((1 : Int32).toNatClampNeg) k1) ((2 : Int32).toNatClampNeg) k2) ((3 : Int32).toNatClampNeg) k3) ((4 : Int32).toNatClampNeg) k4) ((0 : Int32).toNatClampNeg) ((5 : Int32).toNatClampNeg) ((100 : Int32).toNatClampNeg))))).1 = n := hn
  replace hs : (ax_put h6 mb (.inl (0, 617, .inl (va_cpy wf (upd (upd (upd (upd (upd bf ((0 : Int32).toNatClampNeg) k0) ((1 : Int32).toNatClampNeg) k1) ((2 : Int32).toNatClampNeg) k2) ((3 : Int32).toNatClampNeg) k3) ((4 : Int32).toNatClampNeg) k4) ((0 : Int32).toNatClampNeg) ((5 : Int32).toNatClampNeg) ((100 : Int32).toNatClampNeg))))).2.1 = sl := hs
  generalize ax_put h6 mb (.inl (0, 617, .inl (va_cpy wf (upd (upd (upd (upd (upd bf ((0 : Int32).toNatClampNeg) k0) ((1 : Int32).toNatClampNeg) k1) ((2 : Int32).toNatClampNeg) k2) ((3 : Int32).toNatClampNeg) k3) ((4 : Int32).toNatClampNeg) k4) ((0 : Int32).toNatClampNeg) ((5 : Int32).toNatClampNeg) ((100 : Int32).toNatClampNeg)))) = h7 at hF hf hn hs ⊢
  exact ar_ret d_48_82 rfl (⟨_, rfl, hF, hn, hs, hf⟩)
theorem c_47b {L : Nat} {xs : Nat → Int32} {fr lo : Nat} {h : ax_H} {as rk nt tp nm nl ak aw : Nat} {ln se si ef ep sm mh : Int32} {w nn gg o p ab wd q : Nat} {C k0 k1 k2 k3 k4 k6 : Int32} {f wf u b : Nat → Int32} {ids : List Nat} {ms : List Mg} (hfr : 2 ≤ fr) (hlo : 60 ≤ lo) (hgg : gg ≤ 16) (hg1 : 0 < gg) (hnn : nn ≤ 6) (hpn : p < nn) (hp : nof f 0 sm nn 0 0 = nI p) (hA_as : ¬ NTA nt w as) (hA_rk : ¬ NTA nt w rk) (hA_o : ¬ NTA nt w o) (hA_ak : ¬ NTA nt w ak) (hA_ab : ¬ NTA nt w ab) (hA_wd : ¬ NTA nt w wd) (hN : NTL h nt w ids ms q u b) (hF : ax_hs h [(as, .inr (4, [.ref rk, .ref nt, .ref tp, .int ln, .ref nm, .ref nl, .ref ak, .ref aw, .int 1, .int 0, .int se, .int si, .int ef, .int ep, .int sm, .int mh])), (rk, .inr (3, [.int (nI nn), .int C, .int (nI gg), .ref o])), (o, .inl (0, gg * nn, .inl f)), (ak, .inl (4, 24, .inr (.inr (.inr (.inr (fun j => if j < 24 then some (ab + 2 * j) else none)))))), (ab, .inr (5, [.int k0, .int k1, .int k2, .int k3, .int k4, .int 0, .int k6, .ref wd])), (wd, .inl (0, 612, .inl wf))]) : ax_M L xs 47 fr lo [.ref as] h (fun r h' => r = none ∧ ax_fr (NTA nt w) h h' ∧ h'.1 = h.1 ∧ h'.2.1 = h.2.1) := by
  show ax_A (ax_step L xs) ((47, 0, fr, lo), [(0, .ref as)], [], h) _
  obtain ⟨za, zc, hnet⟩ := hN.net
  refine ar_aload_n 1 d_47_0 rfl rfl ?_
  refine ar_getf 4 d_47_1 rfl (ci := 4) (k := 0) rfl (hF.at 0 rfl) rfl ?_
  refine ar_iconst 5 (v := 0) d_47_4 rfl (by decide) ?_
  refine ar_iconst 6 (v := 0) d_47_5 rfl (by decide) ?_
  refine ar_aload_n 7 d_47_6 rfl rfl ?_
  refine ar_getf 10 d_47_7 rfl (ci := 4) (k := 14) rfl (hF.at 0 rfl) rfl ?_
  refine ar_call (r := []) (na := 0) (kd := 0) (cm := 31) (fr2 := fr - 1) (lo2 := lo - 26) 13 d_47_10 (ar_hoV (as := [.int 0, .int 0, .int sm]) rfl rfl rfl (hF.at 1 rfl)) rfl (by omega) (show lo - 26 + (19 + 7) = lo by omega) (Nat.le_of_ble_eq_true rfl) (Nat.le_of_ble_eq_true rfl) (c_31 (g := 0) hgg hnn hg1 (hF.sub (F' := [(rk, .inr (3, [.int (nI nn), .int C, .int (nI gg), .ref o])), (o, .inl (0, gg * nn, .inl f))]) [1, 2] rfl rfl)) ?_
  intro v hh hq
  obtain ⟨rfl, ehh⟩ := hq
  rw [ehh]
  clear ehh
  refine ar_top (x' := nI p) (by rw [show (0 : Nat) * nn = 0 by omega]; exact hp) ?_
  refine ar_istore_n 14 [(0, .ref as), (1, .int (nI p))] d_47_13 rfl (by decide) rfl ?_
  refine ar_aload_n 15 d_47_14 rfl rfl ?_
  refine ar_getf 18 d_47_15 rfl (ci := 4) (k := 9) rfl (hF.at 0 rfl) rfl ?_
  refine ar_aload_n 19 d_47_18 rfl rfl ?_
  refine ar_getf 22 d_47_19 rfl (ci := 4) (k := 8) rfl (hF.at 0 rfl) rfl ?_
  refine ar_icmp_eq 29 25 d_47_22 (by decide) rfl (fun c => absurd c (by decide)) (fun _ => ?_)
  refine ar_iload_n 26 d_47_25 rfl rfl ?_
  refine ar_if_ge 30 29 d_47_26 (by decide) rfl (fun _ => ?_) (fun c => absurd (nI_le (Nat.zero_le p) (by omega)) c)
  refine ar_aload_n 31 d_47_30 rfl rfl ?_
  refine ar_getf 34 d_47_31 rfl (ci := 4) (k := 6) rfl (hF.at 0 rfl) rfl ?_
  refine ar_aload_n 35 d_47_34 rfl rfl ?_
  refine ar_getf 38 d_47_35 rfl (ci := 4) (k := 9) rfl (hF.at 0 rfl) rfl ?_
  refine ar_aload_n 39 d_47_38 rfl rfl ?_
  refine ar_getf 42 d_47_39 rfl (ci := 4) (k := 6) rfl (hF.at 0 rfl) rfl ?_
  refine ar_alen 43 d_47_42 rfl (hF.at 3 rfl) (by decide) ?_
  refine ar_top (x' := 24) (rfl) ?_
  refine ar_irem 44 d_47_43 rfl (by decide) ?_
  refine ar_top (x' := 0) (by decide) ?_
  refine ar_aald 45 d_47_44 rfl (hF.at 3 rfl) rfl (vin (i := 0) (by decide) (by decide)) ?_
  refine ar_tv (v' := .ref ab) (by rfl) ?_
  refine ar_astore_n 46 [(0, .ref as), (1, .int (nI p)), (2, .ref ab)] d_47_45 rfl (by decide) rfl ?_
  refine ar_aload_n 47 d_47_46 rfl rfl ?_
  refine ar_getf 50 d_47_47 rfl (ci := 4) (k := 1) rfl (hF.at 0 rfl) rfl ?_
  refine ar_iconst 51 (v := 2) d_47_50 rfl (by decide) ?_
  refine ar_aload_n 52 d_47_51 rfl rfl ?_
  refine ar_getf 55 d_47_52 rfl (ci := 4) (k := 0) rfl (hF.at 0 rfl) rfl ?_
  refine ar_getf 58 d_47_55 rfl (ci := 3) (k := 0) rfl (hF.at 1 rfl) rfl ?_
  refine ar_iload_n 59 d_47_58 rfl rfl ?_
  refine ar_aload_n 60 d_47_59 rfl rfl ?_
  refine ar_getf 63 d_47_60 rfl (ci := 4) (k := 13) rfl (hF.at 0 rfl) rfl ?_
  refine ar_aload_n 64 d_47_63 rfl rfl ?_
  refine ar_getf 67 d_47_64 rfl (ci := 4) (k := 14) rfl (hF.at 0 rfl) rfl ?_
  refine ar_call (r := []) (na := 0) (kd := 0) (cm := 36) (fr2 := fr - 1) (lo2 := lo - 26) 70 d_47_67 (ar_hoV (as := [.int 2, .int (nI nn), .int (nI p), .int ep, .int sm]) rfl rfl rfl hnet) rfl (by omega) (show lo - 26 + (19 + 7) = lo by omega) (Nat.le_of_ble_eq_true rfl) (Nat.le_of_ble_eq_true rfl) (c_36G hN) ?_
  intro v h2 hq
  obtain ⟨m, bm, ids2, hm, rfl, hmq, hN2, hmm, hf2, hz1, hz2⟩ := hq
  have hNm : NTA nt w (w + 1 + 2 * m) := Or.inr (by omega)
  have hF2 : ax_hs h2 [(as, .inr (4, [.ref rk, .ref nt, .ref tp, .int ln, .ref nm, .ref nl, .ref ak, .ref aw, .int 1, .int 0, .int se, .int si, .int ef, .int ep, .int sm, .int mh])), (rk, .inr (3, [.int (nI nn), .int C, .int (nI gg), .ref o])), (o, .inl (0, gg * nn, .inl f)), (ak, .inl (4, 24, .inr (.inr (.inr (.inr (fun j => if j < 24 then some (ab + 2 * j) else none)))))), (ab, .inr (5, [.int k0, .int k1, .int k2, .int k3, .int k4, .int 0, .int k6, .ref wd])), (wd, .inl (0, 612, .inl wf))] := hF.fr hf2 (by intro x hx; simp at hx; rcases hx with rfl | rfl | rfl | rfl | rfl | rfl <;> assumption)
  have hF3 : ax_hs h2 [(w + 1 + 2 * m + 1, .inl (0, 617, .inl bm)), (as, .inr (4, [.ref rk, .ref nt, .ref tp, .int ln, .ref nm, .ref nl, .ref ak, .ref aw, .int 1, .int 0, .int se, .int si, .int ef, .int ep, .int sm, .int mh])), (rk, .inr (3, [.int (nI nn), .int C, .int (nI gg), .ref o])), (o, .inl (0, gg * nn, .inl f)), (ak, .inl (4, 24, .inr (.inr (.inr (.inr (fun j => if j < 24 then some (ab + 2 * j) else none)))))), (ab, .inr (5, [.int k0, .int k1, .int k2, .int k3, .int k4, .int 0, .int k6, .ref wd])), (wd, .inl (0, 612, .inl wf))] := ax_hs.consN (nt := nt) (w := w) hmm.2 hF2 (Or.inr (by omega)) (by intro x hx; simp at hx; rcases hx with rfl | rfl | rfl | rfl | rfl | rfl <;> assumption)
  have hF4 : ax_hs h2 [(w + 1 + 2 * m, .inr (2, [.int 2, .int (nI nn), .int (nI p), .int ep, .int sm, .int (-1), .int 0, .int 0, .ref (w + 1 + 2 * m + 1)])), (w + 1 + 2 * m + 1, .inl (0, 617, .inl bm)), (as, .inr (4, [.ref rk, .ref nt, .ref tp, .int ln, .ref nm, .ref nl, .ref ak, .ref aw, .int 1, .int 0, .int se, .int si, .int ef, .int ep, .int sm, .int mh])), (rk, .inr (3, [.int (nI nn), .int C, .int (nI gg), .ref o])), (o, .inl (0, gg * nn, .inl f)), (ak, .inl (4, 24, .inr (.inr (.inr (.inr (fun j => if j < 24 then some (ab + 2 * j) else none)))))), (ab, .inr (5, [.int k0, .int k1, .int k2, .int k3, .int k4, .int 0, .int k6, .ref wd])), (wd, .inl (0, 612, .inl wf))] := ax_hs.cons (show ax_g h2 (w + 1 + 2 * m) = some (.inr (2, [.int 2, .int (nI nn), .int (nI p), .int ep, .int sm, .int (-1), .int 0, .int 0, .ref (w + 1 + 2 * m + 1)])) from hmm.1) hF3 (by intro x hx e; simp at hx; rcases hx with rfl | rfl | rfl | rfl | rfl | rfl | rfl; exact absurd e (by dsimp only; omega); all_goals exact absurd (e ▸ hNm) (by assumption))
  refine ar_astore_n 71 [(0, .ref as), (1, .int (nI p)), (2, .ref ab), (3, .ref (w + 1 + 2 * m))] d_47_70 rfl (by decide) rfl ?_
  refine ar_aload_n 72 d_47_71 rfl rfl ?_
  refine ar_aload_n 73 d_47_72 rfl rfl ?_
  refine ar_getf 76 d_47_73 rfl (ci := 4) (k := 9) rfl (hF4.at 2 rfl) rfl ?_
  refine ar_putf 79 [.int 2, .int (nI nn), .int (nI p), .int ep, .int sm, .int 0, .int 0, .int 0, .ref (w + 1 + 2 * m + 1)] d_47_76 rfl (ci := 2) (k := 5) rfl rfl (hF4.at 0 rfl) (Nat.le_of_ble_eq_true rfl) rfl rfl rfl ?_
  have hF4 : ax_hs (ax_put h2 (w + 1 + 2 * m) (.inr (2, [.int 2, .int (nI nn), .int (nI p), .int ep, .int sm, .int 0, .int 0, .int 0, .ref (w + 1 + 2 * m + 1)]))) [(w + 1 + 2 * m, .inr (2, [.int 2, .int (nI nn), .int (nI p), .int ep, .int sm, .int 0, .int 0, .int 0, .ref (w + 1 + 2 * m + 1)])), (w + 1 + 2 * m + 1, .inl (0, 617, .inl bm)), (as, .inr (4, [.ref rk, .ref nt, .ref tp, .int ln, .ref nm, .ref nl, .ref ak, .ref aw, .int 1, .int 0, .int se, .int si, .int ef, .int ep, .int sm, .int mh])), (rk, .inr (3, [.int (nI nn), .int C, .int (nI gg), .ref o])), (o, .inl (0, gg * nn, .inl f)), (ak, .inl (4, 24, .inr (.inr (.inr (.inr (fun j => if j < 24 then some (ab + 2 * j) else none)))))), (ab, .inr (5, [.int k0, .int k1, .int k2, .int k3, .int k4, .int 0, .int k6, .ref wd])), (wd, .inl (0, 612, .inl wf))] := hF4.put 0 _ rfl rfl
  refine ar_aload_n 80 d_47_79 rfl rfl ?_
  refine ar_aload_n 81 d_47_80 rfl rfl ?_
  refine ar_getf 84 d_47_81 rfl (ci := 4) (k := 12) rfl (hF4.at 2 rfl) rfl ?_
  refine ar_putf 87 [.int 2, .int (nI nn), .int (nI p), .int ep, .int sm, .int 0, .int ef, .int 0, .ref (w + 1 + 2 * m + 1)] d_47_84 rfl (ci := 2) (k := 6) rfl rfl (hF4.at 0 rfl) (Nat.le_of_ble_eq_true rfl) rfl rfl rfl ?_
  have hF4 : ax_hs (ax_put (ax_put h2 (w + 1 + 2 * m) (.inr (2, [.int 2, .int (nI nn), .int (nI p), .int ep, .int sm, .int 0, .int 0, .int 0, .ref (w + 1 + 2 * m + 1)]))) (w + 1 + 2 * m) (.inr (2, [.int 2, .int (nI nn), .int (nI p), .int ep, .int sm, .int 0, .int ef, .int 0, .ref (w + 1 + 2 * m + 1)]))) [(w + 1 + 2 * m, .inr (2, [.int 2, .int (nI nn), .int (nI p), .int ep, .int sm, .int 0, .int ef, .int 0, .ref (w + 1 + 2 * m + 1)])), (w + 1 + 2 * m + 1, .inl (0, 617, .inl bm)), (as, .inr (4, [.ref rk, .ref nt, .ref tp, .int ln, .ref nm, .ref nl, .ref ak, .ref aw, .int 1, .int 0, .int se, .int si, .int ef, .int ep, .int sm, .int mh])), (rk, .inr (3, [.int (nI nn), .int C, .int (nI gg), .ref o])), (o, .inl (0, gg * nn, .inl f)), (ak, .inl (4, 24, .inr (.inr (.inr (.inr (fun j => if j < 24 then some (ab + 2 * j) else none)))))), (ab, .inr (5, [.int k0, .int k1, .int k2, .int k3, .int k4, .int 0, .int k6, .ref wd])), (wd, .inl (0, 612, .inl wf))] := hF4.put 0 _ rfl rfl
  refine ar_aload_n 88 d_47_87 rfl rfl ?_
  refine ar_aload_n 89 d_47_88 rfl rfl ?_
  refine ar_call (r := []) (na := 0) (kd := 0) (cm := 48) (fr2 := fr - 1) (lo2 := lo - 21) 92 d_47_89 (ar_hoV (as := [.ref (w + 1 + 2 * m)]) rfl rfl rfl (hF4.at 6 rfl)) rfl (by omega) (show lo - 21 + (19 + 2) = lo by omega) (Nat.le_of_ble_eq_true rfl) (Nat.le_of_ble_eq_true rfl) (c_48z (by omega) (by omega) (hF4.sub (F' := [(ab, .inr (5, [.int k0, .int k1, .int k2, .int k3, .int k4, .int 0, .int k6, .ref wd])), (wd, .inl (0, 612, .inl wf)), (w + 1 + 2 * m, .inr (2, [.int 2, .int (nI nn), .int (nI p), .int ep, .int sm, .int 0, .int ef, .int 0, .ref (w + 1 + 2 * m + 1)])), (w + 1 + 2 * m + 1, .inl (0, 617, .inl bm))]) [6, 7, 0, 1] rfl rfl) rfl rfl (by have := (ax_g_lt hnet).2; show 0 < h2.1; omega)) ?_
  intro v h3 hq
  obtain ⟨bf', rfl, qF, qn, qs, qf⟩ := hq
  exact ar_ret d_47_92 rfl (⟨rfl, hf2.tr (((ax_fr.rf.put (hNm)).put (hNm)).tr (qf.mono (by intro x hx; simp at hx; rcases hx with rfl | rfl <;> exact Or.inr (by omega)))), qn.trans hz1, qs.trans hz2⟩)
theorem c_46z {L : Nat} {xs : Nat → Int32} {fr lo : Nat} {h : ax_H} {as rk nt tp nm nl ak aw : Nat} {ln se si ef ep sm mh : Int32} {w nn gg o p ab wd q : Nat} {C k0 k1 k2 k3 k4 k5 k6 : Int32} {f wf nf lf u b : Nat → Int32} {ids : List Nat} {ms : List Mg} {n sl : Nat} {y z : Int32} (hfr : 3 ≤ fr) (hlo : 90 ≤ lo) (hgg : gg ≤ 16) (hg1 : 0 < gg) (hnn : nn ≤ 6) (hpn : p < nn) (hp : nof f 0 sm nn 0 0 = nI p) (hA_as : ¬ NTA nt w as) (hA_rk : ¬ NTA nt w rk) (hA_o : ¬ NTA nt w o) (hA_ak : ¬ NTA nt w ak) (hA_ab : ¬ NTA nt w ab) (hA_wd : ¬ NTA nt w wd) (hN : NTL h nt w ids ms q u b) (hF : ax_hs h [(as, .inr (4, [.ref rk, .ref nt, .ref tp, .int ln, .ref nm, .ref nl, .ref ak, .ref aw, .int 0, .int 0, .int se, .int si, .int ef, .int ep, .int sm, .int mh])), (rk, .inr (3, [.int (nI nn), .int C, .int (nI gg), .ref o])), (o, .inl (0, gg * nn, .inl f)), (ak, .inl (4, 24, .inr (.inr (.inr (.inr (fun j => if j < 24 then some (ab + 2 * j) else none)))))), (ab, .inr (5, [.int k0, .int k1, .int k2, .int k3, .int k4, .int k5, .int k6, .ref wd])), (wd, .inl (0, 612, .inl wf)), (nm, .inl (0, 100, .inl nf)), (nl, .inl (0, 2, .inl lf))]) (hn : h.1 = n) (hs : h.2.1 = sl) (hn0 : 0 < n) : ax_M L xs 46 fr lo [.ref as, .int 9, .int y, .int z] h (fun r h' => r = some (.int 0) ∧ ax_fr (fun x => NTA nt w x ∨ x ∈ [as, ab, wd]) h h' ∧ h'.1 = n ∧ h'.2.1 = sl) := by
  show ax_A (ax_step L xs) ((46, 0, fr, lo), [(0, .ref as), (1, .int 9), (2, .int y), (3, .int z)], [], h) _
  have hbase : h.1 = n := hn
  have hbasl : h.2.1 = sl := hs
  have hf : ax_fr (fun x => x ∈ [as, ab, wd]) h h := ax_fr.rf
  refine ar_aload_n 1 d_46_0 rfl rfl ?_
  refine ar_getf 4 d_46_1 rfl (ci := 4) (k := 6) rfl (hF.at 0 rfl) rfl ?_
  refine ar_aload_n 5 d_46_4 rfl rfl ?_
  refine ar_getf 8 d_46_5 rfl (ci := 4) (k := 8) rfl (hF.at 0 rfl) rfl ?_
  refine ar_aload_n 9 d_46_8 rfl rfl ?_
  refine ar_getf 12 d_46_9 rfl (ci := 4) (k := 6) rfl (hF.at 0 rfl) rfl ?_
  refine ar_alen 13 d_46_12 rfl (hF.at 3 rfl) (by decide) ?_
  refine ar_top (x' := 24) (rfl) ?_
  refine ar_irem 14 d_46_13 rfl (by decide) ?_
  refine ar_top (x' := 0) (by decide) ?_
  refine ar_aald 15 d_46_14 rfl (hF.at 3 rfl) rfl (vin (i := 0) (by decide) (by decide)) ?_
  refine ar_tv (v' := .ref ab) (by rfl) ?_
  refine ar_astore 17 [(0, .ref as), (1, .int 9), (2, .int y), (3, .int z), (4, .ref ab)] d_46_15 rfl (by decide) rfl ?_
  refine ar_aload 19 d_46_17 rfl rfl ?_
  refine ar_iload_n 20 d_46_19 rfl rfl ?_
  refine ar_putf 23 [.int 9, .int k1, .int k2, .int k3, .int k4, .int k5, .int k6, .ref wd] d_46_20 rfl (ci := 5) (k := 0) rfl rfl (hF.at 4 rfl) (Nat.le_of_ble_eq_true rfl) rfl rfl rfl ?_
  replace hF : ax_hs (ax_put h ab (.inr (5, [.int 9, .int k1, .int k2, .int k3, .int k4, .int k5, .int k6, .ref wd]))) [(as, .inr (4, [.ref rk, .ref nt, .ref tp, .int ln, .ref nm, .ref nl, .ref ak, .ref aw, .int 0, .int 0, .int se, .int si, .int ef, .int ep, .int sm, .int mh])), (rk, .inr (3, [.int (nI nn), .int C, .int (nI gg), .ref o])), (o, .inl (0, gg * nn, .inl f)), (ak, .inl (4, 24, .inr (.inr (.inr (.inr (fun j => if j < 24 then some (ab + 2 * j) else none)))))), (ab, .inr (5, [.int 9, .int k1, .int k2, .int k3, .int k4, .int k5, .int k6, .ref wd])), (wd, .inl (0, 612, .inl wf)), (nm, .inl (0, 100, .inl nf)), (nl, .inl (0, 2, .inl lf))] := hF.put 4 _ rfl rfl
  replace hf := hf.put (a := ab) (c := .inr (5, [.int 9, .int k1, .int k2, .int k3, .int k4, .int k5, .int k6, .ref wd])) (by simp)
  replace hn : (ax_put h ab (.inr (5, [.int 9, .int k1, .int k2, .int k3, .int k4, .int k5, .int k6, .ref wd]))).1 = n := hn
  replace hs : (ax_put h ab (.inr (5, [.int 9, .int k1, .int k2, .int k3, .int k4, .int k5, .int k6, .ref wd]))).2.1 = sl := hs
  generalize ax_put h ab (.inr (5, [.int 9, .int k1, .int k2, .int k3, .int k4, .int k5, .int k6, .ref wd])) = h1 at hF hf hn hs ⊢
  refine ar_aload 25 d_46_23 rfl rfl ?_
  refine ar_iload_n 26 d_46_25 rfl rfl ?_
  refine ar_putf 29 [.int 9, .int y, .int k2, .int k3, .int k4, .int k5, .int k6, .ref wd] d_46_26 rfl (ci := 5) (k := 1) rfl rfl (hF.at 4 rfl) (Nat.le_of_ble_eq_true rfl) rfl rfl rfl ?_
  replace hF : ax_hs (ax_put h1 ab (.inr (5, [.int 9, .int y, .int k2, .int k3, .int k4, .int k5, .int k6, .ref wd]))) [(as, .inr (4, [.ref rk, .ref nt, .ref tp, .int ln, .ref nm, .ref nl, .ref ak, .ref aw, .int 0, .int 0, .int se, .int si, .int ef, .int ep, .int sm, .int mh])), (rk, .inr (3, [.int (nI nn), .int C, .int (nI gg), .ref o])), (o, .inl (0, gg * nn, .inl f)), (ak, .inl (4, 24, .inr (.inr (.inr (.inr (fun j => if j < 24 then some (ab + 2 * j) else none)))))), (ab, .inr (5, [.int 9, .int y, .int k2, .int k3, .int k4, .int k5, .int k6, .ref wd])), (wd, .inl (0, 612, .inl wf)), (nm, .inl (0, 100, .inl nf)), (nl, .inl (0, 2, .inl lf))] := hF.put 4 _ rfl rfl
  replace hf := hf.put (a := ab) (c := .inr (5, [.int 9, .int y, .int k2, .int k3, .int k4, .int k5, .int k6, .ref wd])) (by simp)
  replace hn : (ax_put h1 ab (.inr (5, [.int 9, .int y, .int k2, .int k3, .int k4, .int k5, .int k6, .ref wd]))).1 = n := hn
  replace hs : (ax_put h1 ab (.inr (5, [.int 9, .int y, .int k2, .int k3, .int k4, .int k5, .int k6, .ref wd]))).2.1 = sl := hs
  generalize ax_put h1 ab (.inr (5, [.int 9, .int y, .int k2, .int k3, .int k4, .int k5, .int k6, .ref wd])) = h2 at hF hf hn hs ⊢
  refine ar_aload 31 d_46_29 rfl rfl ?_
  refine ar_iload_n 32 d_46_31 rfl rfl ?_
  refine ar_putf 35 [.int 9, .int y, .int z, .int k3, .int k4, .int k5, .int k6, .ref wd] d_46_32 rfl (ci := 5) (k := 2) rfl rfl (hF.at 4 rfl) (Nat.le_of_ble_eq_true rfl) rfl rfl rfl ?_
  replace hF : ax_hs (ax_put h2 ab (.inr (5, [.int 9, .int y, .int z, .int k3, .int k4, .int k5, .int k6, .ref wd]))) [(as, .inr (4, [.ref rk, .ref nt, .ref tp, .int ln, .ref nm, .ref nl, .ref ak, .ref aw, .int 0, .int 0, .int se, .int si, .int ef, .int ep, .int sm, .int mh])), (rk, .inr (3, [.int (nI nn), .int C, .int (nI gg), .ref o])), (o, .inl (0, gg * nn, .inl f)), (ak, .inl (4, 24, .inr (.inr (.inr (.inr (fun j => if j < 24 then some (ab + 2 * j) else none)))))), (ab, .inr (5, [.int 9, .int y, .int z, .int k3, .int k4, .int k5, .int k6, .ref wd])), (wd, .inl (0, 612, .inl wf)), (nm, .inl (0, 100, .inl nf)), (nl, .inl (0, 2, .inl lf))] := hF.put 4 _ rfl rfl
  replace hf := hf.put (a := ab) (c := .inr (5, [.int 9, .int y, .int z, .int k3, .int k4, .int k5, .int k6, .ref wd])) (by simp)
  replace hn : (ax_put h2 ab (.inr (5, [.int 9, .int y, .int z, .int k3, .int k4, .int k5, .int k6, .ref wd]))).1 = n := hn
  replace hs : (ax_put h2 ab (.inr (5, [.int 9, .int y, .int z, .int k3, .int k4, .int k5, .int k6, .ref wd]))).2.1 = sl := hs
  generalize ax_put h2 ab (.inr (5, [.int 9, .int y, .int z, .int k3, .int k4, .int k5, .int k6, .ref wd])) = h3 at hF hf hn hs ⊢
  refine ar_aload 37 d_46_35 rfl rfl ?_
  refine ar_aload_n 38 d_46_37 rfl rfl ?_
  refine ar_getf 41 d_46_38 rfl (ci := 4) (k := 5) rfl (hF.at 0 rfl) rfl ?_
  refine ar_iconst 42 (v := 0) d_46_41 rfl (by decide) ?_
  refine ar_iald 43 d_46_42 rfl (hF.at 7 rfl) (vin (i := 0) (by decide) (by decide)) ?_
  refine ar_putf 46 [.int 9, .int y, .int z, .int (lf ((0 : Int32).toNatClampNeg)), .int k4, .int k5, .int k6, .ref wd] d_46_43 rfl (ci := 5) (k := 3) rfl rfl (hF.at 4 rfl) (Nat.le_of_ble_eq_true rfl) rfl rfl rfl ?_
  replace hF : ax_hs (ax_put h3 ab (.inr (5, [.int 9, .int y, .int z, .int (lf ((0 : Int32).toNatClampNeg)), .int k4, .int k5, .int k6, .ref wd]))) [(as, .inr (4, [.ref rk, .ref nt, .ref tp, .int ln, .ref nm, .ref nl, .ref ak, .ref aw, .int 0, .int 0, .int se, .int si, .int ef, .int ep, .int sm, .int mh])), (rk, .inr (3, [.int (nI nn), .int C, .int (nI gg), .ref o])), (o, .inl (0, gg * nn, .inl f)), (ak, .inl (4, 24, .inr (.inr (.inr (.inr (fun j => if j < 24 then some (ab + 2 * j) else none)))))), (ab, .inr (5, [.int 9, .int y, .int z, .int (lf ((0 : Int32).toNatClampNeg)), .int k4, .int k5, .int k6, .ref wd])), (wd, .inl (0, 612, .inl wf)), (nm, .inl (0, 100, .inl nf)), (nl, .inl (0, 2, .inl lf))] := hF.put 4 _ rfl rfl
  replace hf := hf.put (a := ab) (c := .inr (5, [.int 9, .int y, .int z, .int (lf ((0 : Int32).toNatClampNeg)), .int k4, .int k5, .int k6, .ref wd])) (by simp)
  replace hn : (ax_put h3 ab (.inr (5, [.int 9, .int y, .int z, .int (lf ((0 : Int32).toNatClampNeg)), .int k4, .int k5, .int k6, .ref wd]))).1 = n := hn
  replace hs : (ax_put h3 ab (.inr (5, [.int 9, .int y, .int z, .int (lf ((0 : Int32).toNatClampNeg)), .int k4, .int k5, .int k6, .ref wd]))).2.1 = sl := hs
  generalize ax_put h3 ab (.inr (5, [.int 9, .int y, .int z, .int (lf ((0 : Int32).toNatClampNeg)), .int k4, .int k5, .int k6, .ref wd])) = h4 at hF hf hn hs ⊢
  refine ar_aload 48 d_46_46 rfl rfl ?_
  refine ar_aload_n 49 d_46_48 rfl rfl ?_
  refine ar_getf 52 d_46_49 rfl (ci := 4) (k := 5) rfl (hF.at 0 rfl) rfl ?_
  refine ar_iconst 53 (v := 1) d_46_52 rfl (by decide) ?_
  refine ar_iald 54 d_46_53 rfl (hF.at 7 rfl) (vin (i := 1) (by decide) (by decide)) ?_
  refine ar_putf 57 [.int 9, .int y, .int z, .int (lf ((0 : Int32).toNatClampNeg)), .int (lf ((1 : Int32).toNatClampNeg)), .int k5, .int k6, .ref wd] d_46_54 rfl (ci := 5) (k := 4) rfl rfl (hF.at 4 rfl) (Nat.le_of_ble_eq_true rfl) rfl rfl rfl ?_
  replace hF : ax_hs (ax_put h4 ab (.inr (5, [.int 9, .int y, .int z, .int (lf ((0 : Int32).toNatClampNeg)), .int (lf ((1 : Int32).toNatClampNeg)), .int k5, .int k6, .ref wd]))) [(as, .inr (4, [.ref rk, .ref nt, .ref tp, .int ln, .ref nm, .ref nl, .ref ak, .ref aw, .int 0, .int 0, .int se, .int si, .int ef, .int ep, .int sm, .int mh])), (rk, .inr (3, [.int (nI nn), .int C, .int (nI gg), .ref o])), (o, .inl (0, gg * nn, .inl f)), (ak, .inl (4, 24, .inr (.inr (.inr (.inr (fun j => if j < 24 then some (ab + 2 * j) else none)))))), (ab, .inr (5, [.int 9, .int y, .int z, .int (lf ((0 : Int32).toNatClampNeg)), .int (lf ((1 : Int32).toNatClampNeg)), .int k5, .int k6, .ref wd])), (wd, .inl (0, 612, .inl wf)), (nm, .inl (0, 100, .inl nf)), (nl, .inl (0, 2, .inl lf))] := hF.put 4 _ rfl rfl
  replace hf := hf.put (a := ab) (c := .inr (5, [.int 9, .int y, .int z, .int (lf ((0 : Int32).toNatClampNeg)), .int (lf ((1 : Int32).toNatClampNeg)), .int k5, .int k6, .ref wd])) (by simp)
  replace hn : (ax_put h4 ab (.inr (5, [.int 9, .int y, .int z, .int (lf ((0 : Int32).toNatClampNeg)), .int (lf ((1 : Int32).toNatClampNeg)), .int k5, .int k6, .ref wd]))).1 = n := hn
  replace hs : (ax_put h4 ab (.inr (5, [.int 9, .int y, .int z, .int (lf ((0 : Int32).toNatClampNeg)), .int (lf ((1 : Int32).toNatClampNeg)), .int k5, .int k6, .ref wd]))).2.1 = sl := hs
  generalize ax_put h4 ab (.inr (5, [.int 9, .int y, .int z, .int (lf ((0 : Int32).toNatClampNeg)), .int (lf ((1 : Int32).toNatClampNeg)), .int k5, .int k6, .ref wd])) = h5 at hF hf hn hs ⊢
  refine ar_aload 59 d_46_57 rfl rfl ?_
  refine ar_iconst 60 (v := 0) d_46_59 rfl (by decide) ?_
  refine ar_putf 63 [.int 9, .int y, .int z, .int (lf ((0 : Int32).toNatClampNeg)), .int (lf ((1 : Int32).toNatClampNeg)), .int 0, .int k6, .ref wd] d_46_60 rfl (ci := 5) (k := 5) rfl rfl (hF.at 4 rfl) (Nat.le_of_ble_eq_true rfl) rfl rfl rfl ?_
  replace hF : ax_hs (ax_put h5 ab (.inr (5, [.int 9, .int y, .int z, .int (lf ((0 : Int32).toNatClampNeg)), .int (lf ((1 : Int32).toNatClampNeg)), .int 0, .int k6, .ref wd]))) [(as, .inr (4, [.ref rk, .ref nt, .ref tp, .int ln, .ref nm, .ref nl, .ref ak, .ref aw, .int 0, .int 0, .int se, .int si, .int ef, .int ep, .int sm, .int mh])), (rk, .inr (3, [.int (nI nn), .int C, .int (nI gg), .ref o])), (o, .inl (0, gg * nn, .inl f)), (ak, .inl (4, 24, .inr (.inr (.inr (.inr (fun j => if j < 24 then some (ab + 2 * j) else none)))))), (ab, .inr (5, [.int 9, .int y, .int z, .int (lf ((0 : Int32).toNatClampNeg)), .int (lf ((1 : Int32).toNatClampNeg)), .int 0, .int k6, .ref wd])), (wd, .inl (0, 612, .inl wf)), (nm, .inl (0, 100, .inl nf)), (nl, .inl (0, 2, .inl lf))] := hF.put 4 _ rfl rfl
  replace hf := hf.put (a := ab) (c := .inr (5, [.int 9, .int y, .int z, .int (lf ((0 : Int32).toNatClampNeg)), .int (lf ((1 : Int32).toNatClampNeg)), .int 0, .int k6, .ref wd])) (by simp)
  replace hn : (ax_put h5 ab (.inr (5, [.int 9, .int y, .int z, .int (lf ((0 : Int32).toNatClampNeg)), .int (lf ((1 : Int32).toNatClampNeg)), .int 0, .int k6, .ref wd]))).1 = n := hn
  replace hs : (ax_put h5 ab (.inr (5, [.int 9, .int y, .int z, .int (lf ((0 : Int32).toNatClampNeg)), .int (lf ((1 : Int32).toNatClampNeg)), .int 0, .int k6, .ref wd]))).2.1 = sl := hs
  generalize ax_put h5 ab (.inr (5, [.int 9, .int y, .int z, .int (lf ((0 : Int32).toNatClampNeg)), .int (lf ((1 : Int32).toNatClampNeg)), .int 0, .int k6, .ref wd])) = h6 at hF hf hn hs ⊢
  refine ar_aload 65 d_46_63 rfl rfl ?_
  refine ar_iconst 66 (v := 0) d_46_65 rfl (by decide) ?_
  refine ar_putf 69 [.int 9, .int y, .int z, .int (lf ((0 : Int32).toNatClampNeg)), .int (lf ((1 : Int32).toNatClampNeg)), .int 0, .int 0, .ref wd] d_46_66 rfl (ci := 5) (k := 6) rfl rfl (hF.at 4 rfl) (Nat.le_of_ble_eq_true rfl) rfl rfl rfl ?_
  replace hF : ax_hs (ax_put h6 ab (.inr (5, [.int 9, .int y, .int z, .int (lf ((0 : Int32).toNatClampNeg)), .int (lf ((1 : Int32).toNatClampNeg)), .int 0, .int 0, .ref wd]))) [(as, .inr (4, [.ref rk, .ref nt, .ref tp, .int ln, .ref nm, .ref nl, .ref ak, .ref aw, .int 0, .int 0, .int se, .int si, .int ef, .int ep, .int sm, .int mh])), (rk, .inr (3, [.int (nI nn), .int C, .int (nI gg), .ref o])), (o, .inl (0, gg * nn, .inl f)), (ak, .inl (4, 24, .inr (.inr (.inr (.inr (fun j => if j < 24 then some (ab + 2 * j) else none)))))), (ab, .inr (5, [.int 9, .int y, .int z, .int (lf ((0 : Int32).toNatClampNeg)), .int (lf ((1 : Int32).toNatClampNeg)), .int 0, .int 0, .ref wd])), (wd, .inl (0, 612, .inl wf)), (nm, .inl (0, 100, .inl nf)), (nl, .inl (0, 2, .inl lf))] := hF.put 4 _ rfl rfl
  replace hf := hf.put (a := ab) (c := .inr (5, [.int 9, .int y, .int z, .int (lf ((0 : Int32).toNatClampNeg)), .int (lf ((1 : Int32).toNatClampNeg)), .int 0, .int 0, .ref wd])) (by simp)
  replace hn : (ax_put h6 ab (.inr (5, [.int 9, .int y, .int z, .int (lf ((0 : Int32).toNatClampNeg)), .int (lf ((1 : Int32).toNatClampNeg)), .int 0, .int 0, .ref wd]))).1 = n := hn
  replace hs : (ax_put h6 ab (.inr (5, [.int 9, .int y, .int z, .int (lf ((0 : Int32).toNatClampNeg)), .int (lf ((1 : Int32).toNatClampNeg)), .int 0, .int 0, .ref wd]))).2.1 = sl := hs
  generalize ax_put h6 ab (.inr (5, [.int 9, .int y, .int z, .int (lf ((0 : Int32).toNatClampNeg)), .int (lf ((1 : Int32).toNatClampNeg)), .int 0, .int 0, .ref wd])) = h7 at hF hf hn hs ⊢
  refine ar_aload_n 70 d_46_69 rfl rfl ?_
  refine ar_getf 73 d_46_70 rfl (ci := 4) (k := 4) rfl (hF.at 0 rfl) rfl ?_
  refine ar_iconst 74 (v := 0) d_46_73 rfl (by decide) ?_
  refine ar_aload 76 d_46_74 rfl rfl ?_
  refine ar_getf 79 d_46_76 rfl (ci := 5) (k := 7) rfl (hF.at 4 rfl) rfl ?_
  refine ar_iconst 80 (v := 0) d_46_79 rfl (by decide) ?_
  refine ar_bipush 82 (v := 100) d_46_80 rfl (by decide) ?_
  refine ar_copy 85 d_46_82 rfl rfl (by omega) (by show 0 + (nativeFrameWords "java/lang/System" "arraycopy" 5 + 11) ≤ lo; rw [nfw_copy]; omega) (hF.at 6 rfl) (hF.at 5 rfl) (by decide) (by decide) (by decide) (by decide) (by decide) ?_
  replace hF : ax_hs (ax_put h7 wd (.inl (0, 612, .inl (va_cpy nf wf ((0 : Int32).toNatClampNeg) ((0 : Int32).toNatClampNeg) ((100 : Int32).toNatClampNeg))))) [(as, .inr (4, [.ref rk, .ref nt, .ref tp, .int ln, .ref nm, .ref nl, .ref ak, .ref aw, .int 0, .int 0, .int se, .int si, .int ef, .int ep, .int sm, .int mh])), (rk, .inr (3, [.int (nI nn), .int C, .int (nI gg), .ref o])), (o, .inl (0, gg * nn, .inl f)), (ak, .inl (4, 24, .inr (.inr (.inr (.inr (fun j => if j < 24 then some (ab + 2 * j) else none)))))), (ab, .inr (5, [.int 9, .int y, .int z, .int (lf ((0 : Int32).toNatClampNeg)), .int (lf ((1 : Int32).toNatClampNeg)), .int 0, .int 0, .ref wd])), (wd, .inl (0, 612, .inl (va_cpy nf wf ((0 : Int32).toNatClampNeg) ((0 : Int32).toNatClampNeg) ((100 : Int32).toNatClampNeg)))), (nm, .inl (0, 100, .inl nf)), (nl, .inl (0, 2, .inl lf))] := hF.put 5 _ rfl rfl
  replace hf := hf.put (a := wd) (c := .inl (0, 612, .inl (va_cpy nf wf ((0 : Int32).toNatClampNeg) ((0 : Int32).toNatClampNeg) ((100 : Int32).toNatClampNeg)))) (by simp)
  replace hn : (ax_put h7 wd (.inl (0, 612, .inl (va_cpy nf wf ((0 : Int32).toNatClampNeg) ((0 : Int32).toNatClampNeg) ((100 : Int32).toNatClampNeg))))).1 = n := hn
  replace hs : (ax_put h7 wd (.inl (0, 612, .inl (va_cpy nf wf ((0 : Int32).toNatClampNeg) ((0 : Int32).toNatClampNeg) ((100 : Int32).toNatClampNeg))))).2.1 = sl := hs
  generalize ax_put h7 wd (.inl (0, 612, .inl (va_cpy nf wf ((0 : Int32).toNatClampNeg) ((0 : Int32).toNatClampNeg) ((100 : Int32).toNatClampNeg)))) = h8 at hF hf hn hs ⊢
  refine ar_iload_n 86 d_46_85 rfl rfl ?_
  refine ar_iconst 87 (v := 1) d_46_86 rfl (by decide) ?_
  refine ar_icmp_eq 95 90 d_46_87 (by decide) rfl (fun c => absurd c (by decide)) (fun _ => ?_)
  refine ar_iload_n 91 d_46_90 rfl rfl ?_
  refine ar_iconst 92 (v := 2) d_46_91 rfl (by decide) ?_
  refine ar_icmp_ne 127 95 d_46_92 (by decide) rfl (fun _ => ?_) (fun c => absurd (by decide) c)
  refine ar_aload_n 128 d_46_127 rfl rfl ?_
  refine ar_dup 129 d_46_128 rfl rfl ?_
  refine ar_getf 132 d_46_129 rfl (ci := 4) (k := 8) rfl (hF.at 0 rfl) rfl ?_
  refine ar_iconst 133 (v := 1) d_46_132 rfl (by decide) ?_
  refine ar_iadd 134 d_46_133 rfl ?_
  refine ar_top (x' := 1) (by decide) ?_
  refine ar_putf 137 [.ref rk, .ref nt, .ref tp, .int ln, .ref nm, .ref nl, .ref ak, .ref aw, .int 1, .int 0, .int se, .int si, .int ef, .int ep, .int sm, .int mh] d_46_134 rfl (ci := 4) (k := 8) rfl rfl (hF.at 0 rfl) (Nat.le_of_ble_eq_true rfl) rfl rfl rfl ?_
  replace hF : ax_hs (ax_put h8 as (.inr (4, [.ref rk, .ref nt, .ref tp, .int ln, .ref nm, .ref nl, .ref ak, .ref aw, .int 1, .int 0, .int se, .int si, .int ef, .int ep, .int sm, .int mh]))) [(as, .inr (4, [.ref rk, .ref nt, .ref tp, .int ln, .ref nm, .ref nl, .ref ak, .ref aw, .int 1, .int 0, .int se, .int si, .int ef, .int ep, .int sm, .int mh])), (rk, .inr (3, [.int (nI nn), .int C, .int (nI gg), .ref o])), (o, .inl (0, gg * nn, .inl f)), (ak, .inl (4, 24, .inr (.inr (.inr (.inr (fun j => if j < 24 then some (ab + 2 * j) else none)))))), (ab, .inr (5, [.int 9, .int y, .int z, .int (lf ((0 : Int32).toNatClampNeg)), .int (lf ((1 : Int32).toNatClampNeg)), .int 0, .int 0, .ref wd])), (wd, .inl (0, 612, .inl (va_cpy nf wf ((0 : Int32).toNatClampNeg) ((0 : Int32).toNatClampNeg) ((100 : Int32).toNatClampNeg)))), (nm, .inl (0, 100, .inl nf)), (nl, .inl (0, 2, .inl lf))] := hF.put 0 _ rfl rfl
  replace hf := hf.put (a := as) (c := .inr (4, [.ref rk, .ref nt, .ref tp, .int ln, .ref nm, .ref nl, .ref ak, .ref aw, .int 1, .int 0, .int se, .int si, .int ef, .int ep, .int sm, .int mh])) (by simp)
  replace hn : (ax_put h8 as (.inr (4, [.ref rk, .ref nt, .ref tp, .int ln, .ref nm, .ref nl, .ref ak, .ref aw, .int 1, .int 0, .int se, .int si, .int ef, .int ep, .int sm, .int mh]))).1 = n := hn
  replace hs : (ax_put h8 as (.inr (4, [.ref rk, .ref nt, .ref tp, .int ln, .ref nm, .ref nl, .ref ak, .ref aw, .int 1, .int 0, .int se, .int si, .int ef, .int ep, .int sm, .int mh]))).2.1 = sl := hs
  generalize ax_put h8 as (.inr (4, [.ref rk, .ref nt, .ref tp, .int ln, .ref nm, .ref nl, .ref ak, .ref aw, .int 1, .int 0, .int se, .int si, .int ef, .int ep, .int sm, .int mh])) = h9 at hF hf hn hs ⊢
  refine ar_aload_n 138 d_46_137 rfl rfl ?_
  refine ar_getf 141 d_46_138 rfl (ci := 4) (k := 9) rfl (hF.at 0 rfl) rfl ?_
  refine ar_aload_n 142 d_46_141 rfl rfl ?_
  refine ar_getf 145 d_46_142 rfl (ci := 4) (k := 8) rfl (hF.at 0 rfl) rfl ?_
  refine ar_iconst 146 (v := 1) d_46_145 rfl (by decide) ?_
  refine ar_isub 147 d_46_146 rfl ?_
  refine ar_top (x' := 0) (by decide) ?_
  refine ar_icmp_ne 154 150 d_46_147 (by decide) rfl (fun c => absurd c (fun z => z rfl)) (fun _ => ?_)
  refine ar_aload_n 151 d_46_150 rfl rfl ?_
  have hN := hN.fr hf (by intro x hx hB; simp at hB; rcases hB with rfl | rfl | rfl <;> exact absurd hx (by assumption))
  refine ar_call (r := []) (na := 0) (kd := 0) (cm := 47) (fr2 := fr - 1) (lo2 := lo - 23) 154 d_46_151 (ar_hoV (as := []) rfl rfl rfl (hF.at 0 rfl)) rfl (by omega) (show lo - 23 + (19 + 4) = lo by omega) (Nat.le_of_ble_eq_true rfl) (Nat.le_of_ble_eq_true rfl) (c_47b (by omega) (by omega) hgg hg1 hnn hpn hp hA_as hA_rk hA_o hA_ak hA_ab hA_wd hN (hF.sub (F' := [(as, .inr (4, [.ref rk, .ref nt, .ref tp, .int ln, .ref nm, .ref nl, .ref ak, .ref aw, .int 1, .int 0, .int se, .int si, .int ef, .int ep, .int sm, .int mh])), (rk, .inr (3, [.int (nI nn), .int C, .int (nI gg), .ref o])), (o, .inl (0, gg * nn, .inl f)), (ak, .inl (4, 24, .inr (.inr (.inr (.inr (fun j => if j < 24 then some (ab + 2 * j) else none)))))), (ab, .inr (5, [.int 9, .int y, .int z, .int (lf ((0 : Int32).toNatClampNeg)), .int (lf ((1 : Int32).toNatClampNeg)), .int 0, .int 0, .ref wd])), (wd, .inl (0, 612, .inl (va_cpy nf wf ((0 : Int32).toNatClampNeg) ((0 : Int32).toNatClampNeg) ((100 : Int32).toNatClampNeg))))]) [0, 1, 2, 3, 4, 5] rfl rfl)) ?_
  intro v h99 hq
  obtain ⟨rfl, qf, qn, qs⟩ := hq
  have hF : ax_hs h99 [(as, .inr (4, [.ref rk, .ref nt, .ref tp, .int ln, .ref nm, .ref nl, .ref ak, .ref aw, .int 1, .int 0, .int se, .int si, .int ef, .int ep, .int sm, .int mh]))] := (hF.sub (F' := [(as, .inr (4, [.ref rk, .ref nt, .ref tp, .int ln, .ref nm, .ref nl, .ref ak, .ref aw, .int 1, .int 0, .int se, .int si, .int ef, .int ep, .int sm, .int mh]))]) [0] rfl rfl).fr qf (by intro x hx; simp at hx; subst hx; exact hA_as)
  refine ar_aload_n 155 d_46_154 rfl rfl ?_
  refine ar_getf 158 d_46_155 rfl (ci := 4) (k := 8) rfl (hF.at 0 rfl) rfl ?_
  refine ar_iconst 159 (v := 1) d_46_158 rfl (by decide) ?_
  refine ar_isub 160 d_46_159 rfl ?_
  refine ar_top (x' := 0) (by decide) ?_
  exact ar_iret d_46_160 rfl rfl (⟨rfl, (hf.mono (fun x hx => Or.inr hx)).tr (qf.mono (fun x hx => Or.inl hx)), qn.trans hn, qs.trans hs⟩)
theorem f_44z {L : Nat} {xs : Nat → Int32} {fr lo : Nat} {h : ax_H} {s0 na tb od sn : Nat} {c0 c1 c2 c3 : Int32} {as rk nt tp nm nl ak aw : Nat} {ln se si ef ep sm mh : Int32} {w nn gg o p ab wd q : Nat} {C k0 k1 k2 k3 k4 k5 k6 : Int32} {f wf nf lf u b : Nat → Int32} {ids : List Nat} {ms : List Mg} {n sl : Nat} {x y z : Int32} (hfr : 4 ≤ fr) (hlo : 120 ≤ lo) (hgg : gg ≤ 16) (hg1 : 0 < gg) (hnn : nn ≤ 6) (hpn : p < nn) (hp : nof f 0 sm nn 0 0 = nI p) (hl0 : lf ((0 : Int32).toNatClampNeg) = 0) (hse : se = 0) (hA_s0 : ¬ NTA nt w s0) (hA_as : ¬ NTA nt w as) (hA_rk : ¬ NTA nt w rk) (hA_o : ¬ NTA nt w o) (hA_ak : ¬ NTA nt w ak) (hA_ab : ¬ NTA nt w ab) (hA_wd : ¬ NTA nt w wd) (hN : NTL h nt w ids ms q u b) (hF : ax_hs h [(s0, .inr (0, [.ref rk, .ref nt, .ref as, .ref na, .ref tb, .ref od, .ref sn, .int c0, .int c1, .int c2, .int c3])), (as, .inr (4, [.ref rk, .ref nt, .ref tp, .int ln, .ref nm, .ref nl, .ref ak, .ref aw, .int 0, .int 0, .int se, .int si, .int ef, .int ep, .int sm, .int mh])), (rk, .inr (3, [.int (nI nn), .int C, .int (nI gg), .ref o])), (o, .inl (0, gg * nn, .inl f)), (ak, .inl (4, 24, .inr (.inr (.inr (.inr (fun j => if j < 24 then some (ab + 2 * j) else none)))))), (ab, .inr (5, [.int k0, .int k1, .int k2, .int k3, .int k4, .int k5, .int k6, .ref wd])), (wd, .inl (0, 612, .inl wf)), (nm, .inl (0, 100, .inl nf)), (nl, .inl (0, 2, .inl lf))]) (hn : h.1 = n) (hs : h.2.1 = sl) (hn0 : 0 < n) : ax_M L xs 44 fr lo [.ref s0, .int x, .int y, .int z] h (fun r h' => (x = 9 ∧ r = some (.int 0) ∧ ax_fr (fun x => NTA nt w x ∨ x ∈ [s0, as, ab, wd]) h h' ∧ h'.1 = n ∧ h'.2.1 = sl) ∨ (¬ x = 9 ∧ r = some (.int (-1)) ∧ h' = h)) := by
  show ax_A (ax_step L xs) ((44, 0, fr, lo), [(0, .ref s0), (1, .int x), (2, .int y), (3, .int z)], [], h) _
  have hbase : h.1 = n := hn
  have hbasl : h.2.1 = sl := hs
  have hf : ax_fr (fun x => x ∈ [s0]) h h := ax_fr.rf
  refine ar_aload_n 1 d_44_0 rfl rfl ?_
  refine ar_getf 4 d_44_1 rfl (ci := 0) (k := 2) rfl (hF.at 0 rfl) rfl ?_
  refine ar_iload_n 5 d_44_4 rfl rfl ?_
  refine ar_iload_n 6 d_44_5 rfl rfl ?_
  refine ar_iload_n 7 d_44_6 rfl rfl ?_
  have key := c_45z (L := L) (xs := xs) (fr := fr - 1) (lo := lo - 23) (x := x) (y := y) (z := z) hl0 (hF.sub (F' := [(as, .inr (4, [.ref rk, .ref nt, .ref tp, .int ln, .ref nm, .ref nl, .ref ak, .ref aw, .int 0, .int 0, .int se, .int si, .int ef, .int ep, .int sm, .int mh])), (nl, .inl (0, 2, .inl lf))]) [1, 8] rfl rfl)
  refine ar_call (r := []) (na := 0) (kd := 0) (cm := 45) (fr2 := fr - 1) (lo2 := lo - 23) 10 d_44_7 (ar_hoV (as := [.int x, .int y, .int z]) rfl rfl rfl (hF.at 1 rfl)) rfl (by omega) (show lo - 23 + (19 + 4) = lo by omega) (Nat.le_of_ble_eq_true rfl) (Nat.le_of_ble_eq_true rfl) (key) ?_
  intro v hh hq
  obtain (⟨rfl, rfl, ehh⟩ | ⟨c1, rfl, ehh⟩) := hq
  · rw [ehh]
    refine ar_if_ne 15 13 d_44_10 (by decide) rfl (fun _ => ?_) (fun c => absurd (by decide) c)
    refine ar_aload_n 16 d_44_15 rfl rfl ?_
    refine ar_getf 19 d_44_16 rfl (ci := 0) (k := 2) rfl (hF.at 0 rfl) rfl ?_
    refine ar_getf 22 d_44_19 rfl (ci := 4) (k := 8) rfl (hF.at 1 rfl) rfl ?_
    refine ar_aload_n 23 d_44_22 rfl rfl ?_
    refine ar_getf 26 d_44_23 rfl (ci := 0) (k := 2) rfl (hF.at 0 rfl) rfl ?_
    refine ar_getf 29 d_44_26 rfl (ci := 4) (k := 10) rfl (hF.at 1 rfl) rfl ?_
    refine ar_isub 30 d_44_29 rfl ?_
    refine ar_top (x' := 0 - se) (rfl) ?_
    refine ar_bipush 32 (v := 12) d_44_30 rfl (by decide) ?_
    refine ar_icmp_ge 48 35 d_44_32 (by decide) rfl (fun c => absurd c (by rw [hse]; decide)) (fun _ => ?_)
    refine ar_aload_n 36 d_44_35 rfl rfl ?_
    refine ar_getf 39 d_44_36 rfl (ci := 0) (k := 2) rfl (hF.at 0 rfl) rfl ?_
    refine ar_getf 42 d_44_39 rfl (ci := 4) (k := 8) rfl (hF.at 1 rfl) rfl ?_
    refine ar_sipush 45 (v := 512) d_44_42 rfl (by decide) ?_
    refine ar_icmp_lt 51 48 d_44_45 (by decide) rfl (fun _ => ?_) (fun c => absurd (by decide) c)
    refine ar_aload_n 52 d_44_51 rfl rfl ?_
    refine ar_iconst 53 (v := 0) d_44_52 rfl (by decide) ?_
    refine ar_putf 56 [.ref rk, .ref nt, .ref as, .ref na, .ref tb, .ref od, .ref sn, .int c0, .int c1, .int c2, .int 0] d_44_53 rfl (ci := 0) (k := 10) rfl rfl (hF.at 0 rfl) (Nat.le_of_ble_eq_true rfl) rfl rfl rfl ?_
    replace hF : ax_hs (ax_put h s0 (.inr (0, [.ref rk, .ref nt, .ref as, .ref na, .ref tb, .ref od, .ref sn, .int c0, .int c1, .int c2, .int 0]))) [(s0, .inr (0, [.ref rk, .ref nt, .ref as, .ref na, .ref tb, .ref od, .ref sn, .int c0, .int c1, .int c2, .int 0])), (as, .inr (4, [.ref rk, .ref nt, .ref tp, .int ln, .ref nm, .ref nl, .ref ak, .ref aw, .int 0, .int 0, .int se, .int si, .int ef, .int ep, .int sm, .int mh])), (rk, .inr (3, [.int (nI nn), .int C, .int (nI gg), .ref o])), (o, .inl (0, gg * nn, .inl f)), (ak, .inl (4, 24, .inr (.inr (.inr (.inr (fun j => if j < 24 then some (ab + 2 * j) else none)))))), (ab, .inr (5, [.int k0, .int k1, .int k2, .int k3, .int k4, .int k5, .int k6, .ref wd])), (wd, .inl (0, 612, .inl wf)), (nm, .inl (0, 100, .inl nf)), (nl, .inl (0, 2, .inl lf))] := hF.put 0 _ rfl rfl
    replace hf := hf.put (a := s0) (c := .inr (0, [.ref rk, .ref nt, .ref as, .ref na, .ref tb, .ref od, .ref sn, .int c0, .int c1, .int c2, .int 0])) (by simp)
    replace hn : (ax_put h s0 (.inr (0, [.ref rk, .ref nt, .ref as, .ref na, .ref tb, .ref od, .ref sn, .int c0, .int c1, .int c2, .int 0]))).1 = n := hn
    replace hs : (ax_put h s0 (.inr (0, [.ref rk, .ref nt, .ref as, .ref na, .ref tb, .ref od, .ref sn, .int c0, .int c1, .int c2, .int 0]))).2.1 = sl := hs
    generalize ax_put h s0 (.inr (0, [.ref rk, .ref nt, .ref as, .ref na, .ref tb, .ref od, .ref sn, .int c0, .int c1, .int c2, .int 0])) = h1 at hF hf hn hs ⊢
    refine ar_aload_n 57 d_44_56 rfl rfl ?_
    refine ar_getf 60 d_44_57 rfl (ci := 0) (k := 2) rfl (hF.at 0 rfl) rfl ?_
    refine ar_iload_n 61 d_44_60 rfl rfl ?_
    refine ar_iload_n 62 d_44_61 rfl rfl ?_
    refine ar_iload_n 63 d_44_62 rfl rfl ?_
    have hN := hN.fr hf (by intro x hx hB; simp at hB; subst hB; exact absurd hx hA_s0)
    refine ar_call (r := []) (na := 0) (kd := 0) (cm := 46) (fr2 := fr - 1) (lo2 := lo - 24) 66 d_44_63 (ar_hoV (as := [.int 9, .int y, .int z]) rfl rfl rfl (hF.at 1 rfl)) rfl (by omega) (show lo - 24 + (19 + 5) = lo by omega) (Nat.le_of_ble_eq_true rfl) (Nat.le_of_ble_eq_true rfl) (c_46z (by omega) (by omega) hgg hg1 hnn hpn hp hA_as hA_rk hA_o hA_ak hA_ab hA_wd hN (hF.sub (F' := [(as, .inr (4, [.ref rk, .ref nt, .ref tp, .int ln, .ref nm, .ref nl, .ref ak, .ref aw, .int 0, .int 0, .int se, .int si, .int ef, .int ep, .int sm, .int mh])), (rk, .inr (3, [.int (nI nn), .int C, .int (nI gg), .ref o])), (o, .inl (0, gg * nn, .inl f)), (ak, .inl (4, 24, .inr (.inr (.inr (.inr (fun j => if j < 24 then some (ab + 2 * j) else none)))))), (ab, .inr (5, [.int k0, .int k1, .int k2, .int k3, .int k4, .int k5, .int k6, .ref wd])), (wd, .inl (0, 612, .inl wf)), (nm, .inl (0, 100, .inl nf)), (nl, .inl (0, 2, .inl lf))]) [1, 2, 3, 4, 5, 6, 7, 8] rfl rfl) hn hs (by omega)) ?_
    intro v h98 hq
    obtain ⟨rfl, qf, qn, qs⟩ := hq
    exact ar_iret d_44_66 rfl rfl (Or.inl ⟨rfl, rfl, (hf.mono (fun x hx => Or.inr (by simp at hx; subst hx; simp))).tr (qf.mono (fun x hx => hx.elim Or.inl (fun q => Or.inr (List.mem_cons_of_mem _ q)))), qn, qs⟩)
  · rw [ehh]
    refine ar_if_ne 15 13 d_44_10 (by decide) rfl (fun c => absurd c (by decide)) (fun _ => ?_)
    refine ar_iconst 14 (v := -1) d_44_13 rfl (by decide) ?_
    exact ar_iret d_44_14 rfl rfl (Or.inr ⟨c1, rfl, rfl⟩)

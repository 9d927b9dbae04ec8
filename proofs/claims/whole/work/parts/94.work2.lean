/-! Work.take, Leader.oneOf, exactly -/
theorem d_127_0 : decode (axt_b 127) 0 = .ok (.aload_n 0, 1) := by decide +kernel
theorem d_127_1 : decode (axt_b 127) 1 = .ok (.getfield 91, 3) := by decide +kernel
theorem d_127_4 : decode (axt_b 127) 4 = .ok (.istore_n 2, 1) := by decide +kernel
theorem d_127_5 : decode (axt_b 127) 5 = .ok (.iconst 0, 1) := by decide +kernel
theorem d_127_6 : decode (axt_b 127) 6 = .ok (.istore_n 3, 1) := by decide +kernel
theorem d_127_7 : decode (axt_b 127) 7 = .ok (.iload_n 3, 1) := by decide +kernel
theorem d_127_8 : decode (axt_b 127) 8 = .ok (.aload_n 0, 1) := by decide +kernel
theorem d_127_9 : decode (axt_b 127) 9 = .ok (.getfield 22, 3) := by decide +kernel
theorem d_127_12 : decode (axt_b 127) 12 = .ok (.getfield 98, 3) := by decide +kernel
theorem d_127_15 : decode (axt_b 127) 15 = .ok (.if_icmp .ge 29, 3) := by decide +kernel
theorem d_127_18 : decode (axt_b 127) 18 = .ok (.iload_n 1, 1) := by decide +kernel
theorem d_127_19 : decode (axt_b 127) 19 = .ok (.iload_n 2, 1) := by decide +kernel
theorem d_127_20 : decode (axt_b 127) 20 = .ok (.ishr, 1) := by decide +kernel
theorem d_127_21 : decode (axt_b 127) 21 = .ok (.iconst 1, 1) := by decide +kernel
theorem d_127_22 : decode (axt_b 127) 22 = .ok (.iand, 1) := by decide +kernel
theorem d_127_23 : decode (axt_b 127) 23 = .ok (.ifCond .ne 21, 3) := by decide +kernel
theorem d_127_26 : decode (axt_b 127) 26 = .ok (.iload_n 2, 1) := by decide +kernel
theorem d_127_27 : decode (axt_b 127) 27 = .ok (.iconst 1, 1) := by decide +kernel
theorem d_127_28 : decode (axt_b 127) 28 = .ok (.iadd, 1) := by decide +kernel
theorem d_127_29 : decode (axt_b 127) 29 = .ok (.aload_n 0, 1) := by decide +kernel
theorem d_127_30 : decode (axt_b 127) 30 = .ok (.getfield 22, 3) := by decide +kernel
theorem d_127_33 : decode (axt_b 127) 33 = .ok (.getfield 98, 3) := by decide +kernel
theorem d_127_36 : decode (axt_b 127) 36 = .ok (.irem, 1) := by decide +kernel
theorem d_127_37 : decode (axt_b 127) 37 = .ok (.istore_n 2, 1) := by decide +kernel
theorem d_127_38 : decode (axt_b 127) 38 = .ok (.iinc 3 1, 3) := by decide +kernel
theorem d_127_41 : decode (axt_b 127) 41 = .ok (.goto (-34), 3) := by decide +kernel
theorem d_127_44 : decode (axt_b 127) 44 = .ok (.iload_n 2, 1) := by decide +kernel
theorem d_127_45 : decode (axt_b 127) 45 = .ok (.ireturn, 1) := by decide +kernel
theorem c_68Y {L : Nat} {xs : Nat → Int32} {fr lo : Nat} {h : ax_H} {n sl : Nat} {tb wk wa wb mm mb wd l : Nat} {ws wo w5 w6 w7 w8 w9 w10 w11 w12 w13 w14 k0 k1 k2 k3 k4 k5 k6 u0 u1 u2 u3 u4 u5 u6 : Int32} {wf bf : Nat → Int32} (hfr : 2 ≤ fr) (hlo : 60 ≤ lo) (hl : l ≤ 2048) (h1 : wo ≤ u5) (h2 : u5 = wo → ws = 0) (h3 : ws ≤ 1) (hF : ax_hs h [(wk, .inr (10, [.ref tb, .ref wa, .ref wb, .int ws, .int wo, .int w5, .int w6, .int w7, .int w8, .int w9, .int w10, .int w11, .int w12, .int w13, .int w14])), (wa, .inr (5, [.int k0, .int k1, .int k2, .int k3, .int k4, .int k5, .int k6, .ref wd])), (wd, .inl (0, 612, .inl wf)), (mm, .inr (2, [.int u0, .int u1, .int u2, .int u3, .int u4, .int u5, .int u6, .int (nI l), .ref mb])), (mb, .inl (0, 617, .inl bf))]) (hn : h.1 = n) (hs : h.2.1 = sl) (hn0 : 0 < n) : ax_M L xs 68 fr lo [.ref wk, .ref mm] h (fun r h' => r = none ∧ ax_hs h' [(wk, .inr (10, [.ref tb, .ref wa, .ref wb, .int 1, .int u5, .int w5, .int u6, .int w7, .int w8, .int w9, .int w10, .int w11, .int w12, .int w13, .int w14])), (wa, .inr (5, [.int (bf 0), .int (bf 1), .int (bf 2), .int (bf 3), .int (bf 4), .int (nI l), .int k6, .ref wd])), (wd, .inl (0, 612, .inl (va_cpy bf wf 5 0 (100 + (l + 3) / 4)))), (mm, .inr (2, [.int u0, .int u1, .int u2, .int u3, .int u4, .int u5, .int u6, .int (nI l), .ref mb])), (mb, .inl (0, 617, .inl bf))] ∧ h'.1 = n ∧ h'.2.1 = sl ∧ ax_fr (fun x => x ∈ [wk, wa, wd]) h h') := by
  show ax_A (ax_step L xs) ((68, 0, fr, lo), [(0, .ref wk), (1, .ref mm)], [], h) _
  have hbase : h.1 = n := hn
  have hbasl : h.2.1 = sl := hs
  have hf : ax_fr (fun x => x ∈ [wk, wa, wd]) h h := ax_fr.rf
  refine ar_aload_n 1 d_68_0 rfl rfl ?_
  refine ar_getf 4 d_68_1 rfl (ci := 2) (k := 5) rfl (hF.at 3 rfl) rfl ?_
  refine ar_aload_n 5 d_68_4 rfl rfl ?_
  refine ar_getf 8 d_68_5 rfl (ci := 10) (k := 4) rfl (hF.at 0 rfl) rfl ?_
  refine ar_icmp_lt 37 11 d_68_8 (by decide) rfl (fun c => absurd c (Int32.not_lt.mpr h1)) (fun _ => ?_)
  refine ar_aload_n 12 d_68_11 rfl rfl ?_
  refine ar_getf 15 d_68_12 rfl (ci := 2) (k := 5) rfl (hF.at 3 rfl) rfl ?_
  refine ar_aload_n 16 d_68_15 rfl rfl ?_
  refine ar_getf 19 d_68_16 rfl (ci := 10) (k := 4) rfl (hF.at 0 rfl) rfl ?_
  refine ar_icmp_ne 29 22 d_68_19 (by decide) rfl (fun c2 => ?_) (fun c2 => ?_)
  · refine ar_aload_n 30 d_68_29 rfl rfl ?_
    refine ar_getf 33 d_68_30 rfl (ci := 10) (k := 3) rfl (hF.at 0 rfl) rfl ?_
    refine ar_iconst 34 (v := 1) d_68_33 rfl (by decide) ?_
    refine ar_icmp_le 38 37 d_68_34 (by decide) rfl (fun _ => ?_) (fun c => absurd (h3) c)
    refine ar_aload_n 39 d_68_38 rfl rfl ?_
    refine ar_iconst 40 (v := 1) d_68_39 rfl (by decide) ?_
    refine ar_putf 43 [.ref tb, .ref wa, .ref wb, .int 1, .int wo, .int w5, .int w6, .int w7, .int w8, .int w9, .int w10, .int w11, .int w12, .int w13, .int w14] d_68_40 rfl (ci := 10) (k := 3) rfl rfl (hF.at 0 rfl) (Nat.le_of_ble_eq_true rfl) rfl rfl rfl ?_
    replace hF : ax_hs (ax_put h wk (.inr (10, [.ref tb, .ref wa, .ref wb, .int 1, .int wo, .int w5, .int w6, .int w7, .int w8, .int w9, .int w10, .int w11, .int w12, .int w13, .int w14]))) [(wk, .inr (10, [.ref tb, .ref wa, .ref wb, .int 1, .int wo, .int w5, .int w6, .int w7, .int w8, .int w9, .int w10, .int w11, .int w12, .int w13, .int w14])), (wa, .inr (5, [.int k0, .int k1, .int k2, .int k3, .int k4, .int k5, .int k6, .ref wd])), (wd, .inl (0, 612, .inl wf)), (mm, .inr (2, [.int u0, .int u1, .int u2, .int u3, .int u4, .int u5, .int u6, .int (nI l), .ref mb])), (mb, .inl (0, 617, .inl bf))] := hF.put 0 _ rfl rfl
    replace hf := hf.put (a := wk) (c := .inr (10, [.ref tb, .ref wa, .ref wb, .int 1, .int wo, .int w5, .int w6, .int w7, .int w8, .int w9, .int w10, .int w11, .int w12, .int w13, .int w14])) (by simp)
    replace hn : (ax_put h wk (.inr (10, [.ref tb, .ref wa, .ref wb, .int 1, .int wo, .int w5, .int w6, .int w7, .int w8, .int w9, .int w10, .int w11, .int w12, .int w13, .int w14]))).1 = n := hn
    replace hs : (ax_put h wk (.inr (10, [.ref tb, .ref wa, .ref wb, .int 1, .int wo, .int w5, .int w6, .int w7, .int w8, .int w9, .int w10, .int w11, .int w12, .int w13, .int w14]))).2.1 = sl := hs
    generalize ax_put h wk (.inr (10, [.ref tb, .ref wa, .ref wb, .int 1, .int wo, .int w5, .int w6, .int w7, .int w8, .int w9, .int w10, .int w11, .int w12, .int w13, .int w14])) = h1 at hF hf hn hs ⊢
    refine ar_aload_n 44 d_68_43 rfl rfl ?_
    refine ar_aload_n 45 d_68_44 rfl rfl ?_
    refine ar_getf 48 d_68_45 rfl (ci := 2) (k := 5) rfl (hF.at 3 rfl) rfl ?_
    refine ar_putf 51 [.ref tb, .ref wa, .ref wb, .int 1, .int u5, .int w5, .int w6, .int w7, .int w8, .int w9, .int w10, .int w11, .int w12, .int w13, .int w14] d_68_48 rfl (ci := 10) (k := 4) rfl rfl (hF.at 0 rfl) (Nat.le_of_ble_eq_true rfl) rfl rfl rfl ?_
    replace hF : ax_hs (ax_put h1 wk (.inr (10, [.ref tb, .ref wa, .ref wb, .int 1, .int u5, .int w5, .int w6, .int w7, .int w8, .int w9, .int w10, .int w11, .int w12, .int w13, .int w14]))) [(wk, .inr (10, [.ref tb, .ref wa, .ref wb, .int 1, .int u5, .int w5, .int w6, .int w7, .int w8, .int w9, .int w10, .int w11, .int w12, .int w13, .int w14])), (wa, .inr (5, [.int k0, .int k1, .int k2, .int k3, .int k4, .int k5, .int k6, .ref wd])), (wd, .inl (0, 612, .inl wf)), (mm, .inr (2, [.int u0, .int u1, .int u2, .int u3, .int u4, .int u5, .int u6, .int (nI l), .ref mb])), (mb, .inl (0, 617, .inl bf))] := hF.put 0 _ rfl rfl
    replace hf := hf.put (a := wk) (c := .inr (10, [.ref tb, .ref wa, .ref wb, .int 1, .int u5, .int w5, .int w6, .int w7, .int w8, .int w9, .int w10, .int w11, .int w12, .int w13, .int w14])) (by simp)
    replace hn : (ax_put h1 wk (.inr (10, [.ref tb, .ref wa, .ref wb, .int 1, .int u5, .int w5, .int w6, .int w7, .int w8, .int w9, .int w10, .int w11, .int w12, .int w13, .int w14]))).1 = n := hn
    replace hs : (ax_put h1 wk (.inr (10, [.ref tb, .ref wa, .ref wb, .int 1, .int u5, .int w5, .int w6, .int w7, .int w8, .int w9, .int w10, .int w11, .int w12, .int w13, .int w14]))).2.1 = sl := hs
    generalize ax_put h1 wk (.inr (10, [.ref tb, .ref wa, .ref wb, .int 1, .int u5, .int w5, .int w6, .int w7, .int w8, .int w9, .int w10, .int w11, .int w12, .int w13, .int w14])) = h2 at hF hf hn hs ⊢
    refine ar_aload_n 52 d_68_51 rfl rfl ?_
    refine ar_aload_n 53 d_68_52 rfl rfl ?_
    refine ar_getf 56 d_68_53 rfl (ci := 2) (k := 6) rfl (hF.at 3 rfl) rfl ?_
    refine ar_putf 59 [.ref tb, .ref wa, .ref wb, .int 1, .int u5, .int w5, .int u6, .int w7, .int w8, .int w9, .int w10, .int w11, .int w12, .int w13, .int w14] d_68_56 rfl (ci := 10) (k := 6) rfl rfl (hF.at 0 rfl) (Nat.le_of_ble_eq_true rfl) rfl rfl rfl ?_
    replace hF : ax_hs (ax_put h2 wk (.inr (10, [.ref tb, .ref wa, .ref wb, .int 1, .int u5, .int w5, .int u6, .int w7, .int w8, .int w9, .int w10, .int w11, .int w12, .int w13, .int w14]))) [(wk, .inr (10, [.ref tb, .ref wa, .ref wb, .int 1, .int u5, .int w5, .int u6, .int w7, .int w8, .int w9, .int w10, .int w11, .int w12, .int w13, .int w14])), (wa, .inr (5, [.int k0, .int k1, .int k2, .int k3, .int k4, .int k5, .int k6, .ref wd])), (wd, .inl (0, 612, .inl wf)), (mm, .inr (2, [.int u0, .int u1, .int u2, .int u3, .int u4, .int u5, .int u6, .int (nI l), .ref mb])), (mb, .inl (0, 617, .inl bf))] := hF.put 0 _ rfl rfl
    replace hf := hf.put (a := wk) (c := .inr (10, [.ref tb, .ref wa, .ref wb, .int 1, .int u5, .int w5, .int u6, .int w7, .int w8, .int w9, .int w10, .int w11, .int w12, .int w13, .int w14])) (by simp)
    replace hn : (ax_put h2 wk (.inr (10, [.ref tb, .ref wa, .ref wb, .int 1, .int u5, .int w5, .int u6, .int w7, .int w8, .int w9, .int w10, .int w11, .int w12, .int w13, .int w14]))).1 = n := hn
    replace hs : (ax_put h2 wk (.inr (10, [.ref tb, .ref wa, .ref wb, .int 1, .int u5, .int w5, .int u6, .int w7, .int w8, .int w9, .int w10, .int w11, .int w12, .int w13, .int w14]))).2.1 = sl := hs
    generalize ax_put h2 wk (.inr (10, [.ref tb, .ref wa, .ref wb, .int 1, .int u5, .int w5, .int u6, .int w7, .int w8, .int w9, .int w10, .int w11, .int w12, .int w13, .int w14])) = h3 at hF hf hn hs ⊢
    refine ar_aload_n 60 d_68_59 rfl rfl ?_
    refine ar_getf 63 d_68_60 rfl (ci := 10) (k := 1) rfl (hF.at 0 rfl) rfl ?_
    refine ar_aload_n 64 d_68_63 rfl rfl ?_
    refine ar_call (r := []) (na := 0) (kd := 0) (cm := 69) (fr2 := fr - 1) (lo2 := lo - 21) 67 d_68_64 (ar_hoV (as := [.ref mm]) rfl rfl rfl (hF.at 1 rfl)) rfl (by omega) (show lo - 21 + (19 + 2) = lo by omega) (Nat.le_of_ble_eq_true rfl) (Nat.le_of_ble_eq_true rfl) (c_69 (by omega) (by omega) hl (hF.sub (F' := [(wa, .inr (5, [.int k0, .int k1, .int k2, .int k3, .int k4, .int k5, .int k6, .ref wd])), (wd, .inl (0, 612, .inl wf)), (mm, .inr (2, [.int u0, .int u1, .int u2, .int u3, .int u4, .int u5, .int u6, .int (nI l), .ref mb])), (mb, .inl (0, 617, .inl bf))]) [1, 2, 3, 4] rfl rfl) hn hs (by omega)) ?_
    intro v h4 hq
    obtain ⟨rfl, qF, qn, qs, qf⟩ := hq
    have qF : ax_hs h4 [(wa, .inr (5, [.int (bf 0), .int (bf 1), .int (bf 2), .int (bf 3), .int (bf 4), .int (nI l), .int k6, .ref wd])), (wd, .inl (0, 612, .inl (va_cpy bf wf 5 0 (100 + (l + 3) / 4)))), (mm, .inr (2, [.int u0, .int u1, .int u2, .int u3, .int u4, .int u5, .int u6, .int (nI l), .ref mb])), (mb, .inl (0, 617, .inl bf))] := qF
    replace hF : ax_hs h4 [(wk, .inr (10, [.ref tb, .ref wa, .ref wb, .int 1, .int u5, .int w5, .int u6, .int w7, .int w8, .int w9, .int w10, .int w11, .int w12, .int w13, .int w14])), (wa, .inr (5, [.int (bf 0), .int (bf 1), .int (bf 2), .int (bf 3), .int (bf 4), .int (nI l), .int k6, .ref wd])), (wd, .inl (0, 612, .inl (va_cpy bf wf 5 0 (100 + (l + 3) / 4)))), (mm, .inr (2, [.int u0, .int u1, .int u2, .int u3, .int u4, .int u5, .int u6, .int (nI l), .ref mb])), (mb, .inl (0, 617, .inl bf))] := ax_hs.call (rest := [(wk, .inr (10, [.ref tb, .ref wa, .ref wb, .int 1, .int u5, .int w5, .int u6, .int w7, .int w8, .int w9, .int w10, .int w11, .int w12, .int w13, .int w14]))]) [1, 2, 3, 4] [0] hF qf qF rfl rfl rfl [1, 2] rfl rfl [1, 2, 3, 4] (news := []) rfl rfl (fun _ z => absurd z List.not_mem_nil) rfl
    replace hf := hf.trC qf (by intro x hx hB; simp at hB; first | (rcases hB with rfl | rfl <;> first | omega | simp) | omega | simp [hB])
    replace hn : h4.1 = n := by omega
    replace hs : h4.2.1 = sl := by omega
    have qf0 := qf
    clear qF qn qs qf
    have hF9 := hF.sub (F' := [(wk, .inr (10, [.ref tb, .ref wa, .ref wb, .int 1, .int u5, .int w5, .int u6, .int w7, .int w8, .int w9, .int w10, .int w11, .int w12, .int w13, .int w14])), (wa, .inr (5, [.int (bf 0), .int (bf 1), .int (bf 2), .int (bf 3), .int (bf 4), .int (nI l), .int k6, .ref wd])), (wd, .inl (0, 612, .inl (va_cpy bf wf 5 0 (100 + (l + 3) / 4)))), (mm, .inr (2, [.int u0, .int u1, .int u2, .int u3, .int u4, .int u5, .int u6, .int (nI l), .ref mb])), (mb, .inl (0, 617, .inl bf))]) [0, 1, 2, 3, 4] rfl rfl
    exact ar_ret d_68_67 rfl (⟨rfl, hF9, hn, hs, hf⟩)
  · refine ar_aload_n 23 d_68_22 rfl rfl ?_
    refine ar_getf 26 d_68_23 rfl (ci := 10) (k := 3) rfl (hF.at 0 rfl) rfl ?_
    refine ar_if_ne 37 29 d_68_26 (by decide) rfl (fun c => absurd c (fun z => z (h2 (Decidable.not_not.mp c2)))) (fun _ => ?_)
    refine ar_aload_n 30 d_68_29 rfl rfl ?_
    refine ar_getf 33 d_68_30 rfl (ci := 10) (k := 3) rfl (hF.at 0 rfl) rfl ?_
    refine ar_iconst 34 (v := 1) d_68_33 rfl (by decide) ?_
    refine ar_icmp_le 38 37 d_68_34 (by decide) rfl (fun _ => ?_) (fun c => absurd (h3) c)
    refine ar_aload_n 39 d_68_38 rfl rfl ?_
    refine ar_iconst 40 (v := 1) d_68_39 rfl (by decide) ?_
    refine ar_putf 43 [.ref tb, .ref wa, .ref wb, .int 1, .int wo, .int w5, .int w6, .int w7, .int w8, .int w9, .int w10, .int w11, .int w12, .int w13, .int w14] d_68_40 rfl (ci := 10) (k := 3) rfl rfl (hF.at 0 rfl) (Nat.le_of_ble_eq_true rfl) rfl rfl rfl ?_
    replace hF : ax_hs (ax_put h wk (.inr (10, [.ref tb, .ref wa, .ref wb, .int 1, .int wo, .int w5, .int w6, .int w7, .int w8, .int w9, .int w10, .int w11, .int w12, .int w13, .int w14]))) [(wk, .inr (10, [.ref tb, .ref wa, .ref wb, .int 1, .int wo, .int w5, .int w6, .int w7, .int w8, .int w9, .int w10, .int w11, .int w12, .int w13, .int w14])), (wa, .inr (5, [.int k0, .int k1, .int k2, .int k3, .int k4, .int k5, .int k6, .ref wd])), (wd, .inl (0, 612, .inl wf)), (mm, .inr (2, [.int u0, .int u1, .int u2, .int u3, .int u4, .int u5, .int u6, .int (nI l), .ref mb])), (mb, .inl (0, 617, .inl bf))] := hF.put 0 _ rfl rfl
    replace hf := hf.put (a := wk) (c := .inr (10, [.ref tb, .ref wa, .ref wb, .int 1, .int wo, .int w5, .int w6, .int w7, .int w8, .int w9, .int w10, .int w11, .int w12, .int w13, .int w14])) (by simp)
    replace hn : (ax_put h wk (.inr (10, [.ref tb, .ref wa, .ref wb, .int 1, .int wo, .int w5, .int w6, .int w7, .int w8, .int w9, .int w10, .int w11, .int w12, .int w13, .int w14]))).1 = n := hn
    replace hs : (ax_put h wk (.inr (10, [.ref tb, .ref wa, .ref wb, .int 1, .int wo, .int w5, .int w6, .int w7, .int w8, .int w9, .int w10, .int w11, .int w12, .int w13, .int w14]))).2.1 = sl := hs
    generalize ax_put h wk (.inr (10, [.ref tb, .ref wa, .ref wb, .int 1, .int wo, .int w5, .int w6, .int w7, .int w8, .int w9, .int w10, .int w11, .int w12, .int w13, .int w14])) = h1 at hF hf hn hs ⊢
    refine ar_aload_n 44 d_68_43 rfl rfl ?_
    refine ar_aload_n 45 d_68_44 rfl rfl ?_
    refine ar_getf 48 d_68_45 rfl (ci := 2) (k := 5) rfl (hF.at 3 rfl) rfl ?_
    refine ar_putf 51 [.ref tb, .ref wa, .ref wb, .int 1, .int u5, .int w5, .int w6, .int w7, .int w8, .int w9, .int w10, .int w11, .int w12, .int w13, .int w14] d_68_48 rfl (ci := 10) (k := 4) rfl rfl (hF.at 0 rfl) (Nat.le_of_ble_eq_true rfl) rfl rfl rfl ?_
    replace hF : ax_hs (ax_put h1 wk (.inr (10, [.ref tb, .ref wa, .ref wb, .int 1, .int u5, .int w5, .int w6, .int w7, .int w8, .int w9, .int w10, .int w11, .int w12, .int w13, .int w14]))) [(wk, .inr (10, [.ref tb, .ref wa, .ref wb, .int 1, .int u5, .int w5, .int w6, .int w7, .int w8, .int w9, .int w10, .int w11, .int w12, .int w13, .int w14])), (wa, .inr (5, [.int k0, .int k1, .int k2, .int k3, .int k4, .int k5, .int k6, .ref wd])), (wd, .inl (0, 612, .inl wf)), (mm, .inr (2, [.int u0, .int u1, .int u2, .int u3, .int u4, .int u5, .int u6, .int (nI l), .ref mb])), (mb, .inl (0, 617, .inl bf))] := hF.put 0 _ rfl rfl
    replace hf := hf.put (a := wk) (c := .inr (10, [.ref tb, .ref wa, .ref wb, .int 1, .int u5, .int w5, .int w6, .int w7, .int w8, .int w9, .int w10, .int w11, .int w12, .int w13, .int w14])) (by simp)
    replace hn : (ax_put h1 wk (.inr (10, [.ref tb, .ref wa, .ref wb, .int 1, .int u5, .int w5, .int w6, .int w7, .int w8, .int w9, .int w10, .int w11, .int w12, .int w13, .int w14]))).1 = n := hn
    replace hs : (ax_put h1 wk (.inr (10, [.ref tb, .ref wa, .ref wb, .int 1, .int u5, .int w5, .int w6, .int w7, .int w8, .int w9, .int w10, .int w11, .int w12, .int w13, .int w14]))).2.1 = sl := hs
    generalize ax_put h1 wk (.inr (10, [.ref tb, .ref wa, .ref wb, .int 1, .int u5, .int w5, .int w6, .int w7, .int w8, .int w9, .int w10, .int w11, .int w12, .int w13, .int w14])) = h2 at hF hf hn hs ⊢
    refine ar_aload_n 52 d_68_51 rfl rfl ?_
    refine ar_aload_n 53 d_68_52 rfl rfl ?_
    refine ar_getf 56 d_68_53 rfl (ci := 2) (k := 6) rfl (hF.at 3 rfl) rfl ?_
    refine ar_putf 59 [.ref tb, .ref wa, .ref wb, .int 1, .int u5, .int w5, .int u6, .int w7, .int w8, .int w9, .int w10, .int w11, .int w12, .int w13, .int w14] d_68_56 rfl (ci := 10) (k := 6) rfl rfl (hF.at 0 rfl) (Nat.le_of_ble_eq_true rfl) rfl rfl rfl ?_
    replace hF : ax_hs (ax_put h2 wk (.inr (10, [.ref tb, .ref wa, .ref wb, .int 1, .int u5, .int w5, .int u6, .int w7, .int w8, .int w9, .int w10, .int w11, .int w12, .int w13, .int w14]))) [(wk, .inr (10, [.ref tb, .ref wa, .ref wb, .int 1, .int u5, .int w5, .int u6, .int w7, .int w8, .int w9, .int w10, .int w11, .int w12, .int w13, .int w14])), (wa, .inr (5, [.int k0, .int k1, .int k2, .int k3, .int k4, .int k5, .int k6, .ref wd])), (wd, .inl (0, 612, .inl wf)), (mm, .inr (2, [.int u0, .int u1, .int u2, .int u3, .int u4, .int u5, .int u6, .int (nI l), .ref mb])), (mb, .inl (0, 617, .inl bf))] := hF.put 0 _ rfl rfl
    replace hf := hf.put (a := wk) (c := .inr (10, [.ref tb, .ref wa, .ref wb, .int 1, .int u5, .int w5, .int u6, .int w7, .int w8, .int w9, .int w10, .int w11, .int w12, .int w13, .int w14])) (by simp)
    replace hn : (ax_put h2 wk (.inr (10, [.ref tb, .ref wa, .ref wb, .int 1, .int u5, .int w5, .int u6, .int w7, .int w8, .int w9, .int w10, .int w11, .int w12, .int w13, .int w14]))).1 = n := hn
    replace hs : (ax_put h2 wk (.inr (10, [.ref tb, .ref wa, .ref wb, .int 1, .int u5, .int w5, .int u6, .int w7, .int w8, .int w9, .int w10, .int w11, .int w12, .int w13, .int w14]))).2.1 = sl := hs
    generalize ax_put h2 wk (.inr (10, [.ref tb, .ref wa, .ref wb, .int 1, .int u5, .int w5, .int u6, .int w7, .int w8, .int w9, .int w10, .int w11, .int w12, .int w13, .int w14])) = h3 at hF hf hn hs ⊢
    refine ar_aload_n 60 d_68_59 rfl rfl ?_
    refine ar_getf 63 d_68_60 rfl (ci := 10) (k := 1) rfl (hF.at 0 rfl) rfl ?_
    refine ar_aload_n 64 d_68_63 rfl rfl ?_
    refine ar_call (r := []) (na := 0) (kd := 0) (cm := 69) (fr2 := fr - 1) (lo2 := lo - 21) 67 d_68_64 (ar_hoV (as := [.ref mm]) rfl rfl rfl (hF.at 1 rfl)) rfl (by omega) (show lo - 21 + (19 + 2) = lo by omega) (Nat.le_of_ble_eq_true rfl) (Nat.le_of_ble_eq_true rfl) (c_69 (by omega) (by omega) hl (hF.sub (F' := [(wa, .inr (5, [.int k0, .int k1, .int k2, .int k3, .int k4, .int k5, .int k6, .ref wd])), (wd, .inl (0, 612, .inl wf)), (mm, .inr (2, [.int u0, .int u1, .int u2, .int u3, .int u4, .int u5, .int u6, .int (nI l), .ref mb])), (mb, .inl (0, 617, .inl bf))]) [1, 2, 3, 4] rfl rfl) hn hs (by omega)) ?_
    intro v h4 hq
    obtain ⟨rfl, qF, qn, qs, qf⟩ := hq
    have qF : ax_hs h4 [(wa, .inr (5, [.int (bf 0), .int (bf 1), .int (bf 2), .int (bf 3), .int (bf 4), .int (nI l), .int k6, .ref wd])), (wd, .inl (0, 612, .inl (va_cpy bf wf 5 0 (100 + (l + 3) / 4)))), (mm, .inr (2, [.int u0, .int u1, .int u2, .int u3, .int u4, .int u5, .int u6, .int (nI l), .ref mb])), (mb, .inl (0, 617, .inl bf))] := qF
    replace hF : ax_hs h4 [(wk, .inr (10, [.ref tb, .ref wa, .ref wb, .int 1, .int u5, .int w5, .int u6, .int w7, .int w8, .int w9, .int w10, .int w11, .int w12, .int w13, .int w14])), (wa, .inr (5, [.int (bf 0), .int (bf 1), .int (bf 2), .int (bf 3), .int (bf 4), .int (nI l), .int k6, .ref wd])), (wd, .inl (0, 612, .inl (va_cpy bf wf 5 0 (100 + (l + 3) / 4)))), (mm, .inr (2, [.int u0, .int u1, .int u2, .int u3, .int u4, .int u5, .int u6, .int (nI l), .ref mb])), (mb, .inl (0, 617, .inl bf))] := ax_hs.call (rest := [(wk, .inr (10, [.ref tb, .ref wa, .ref wb, .int 1, .int u5, .int w5, .int u6, .int w7, .int w8, .int w9, .int w10, .int w11, .int w12, .int w13, .int w14]))]) [1, 2, 3, 4] [0] hF qf qF rfl rfl rfl [1, 2] rfl rfl [1, 2, 3, 4] (news := []) rfl rfl (fun _ z => absurd z List.not_mem_nil) rfl
    replace hf := hf.trC qf (by intro x hx hB; simp at hB; first | (rcases hB with rfl | rfl <;> first | omega | simp) | omega | simp [hB])
    replace hn : h4.1 = n := by omega
    replace hs : h4.2.1 = sl := by omega
    have qf0 := qf
    clear qF qn qs qf
    have hF9 := hF.sub (F' := [(wk, .inr (10, [.ref tb, .ref wa, .ref wb, .int 1, .int u5, .int w5, .int u6, .int w7, .int w8, .int w9, .int w10, .int w11, .int w12, .int w13, .int w14])), (wa, .inr (5, [.int (bf 0), .int (bf 1), .int (bf 2), .int (bf 3), .int (bf 4), .int (nI l), .int k6, .ref wd])), (wd, .inl (0, 612, .inl (va_cpy bf wf 5 0 (100 + (l + 3) / 4)))), (mm, .inr (2, [.int u0, .int u1, .int u2, .int u3, .int u4, .int u5, .int u6, .int (nI l), .ref mb])), (mb, .inl (0, 617, .inl bf))]) [0, 1, 2, 3, 4] rfl rfl
    exact ar_ret d_68_67 rfl (⟨rfl, hF9, hn, hs, hf⟩)
def oneO (x : Int32) (N : Nat) : Nat → Nat → Nat
  | 0, t => t
  | k + 1, t => if (x >>> (nI t &&& 31)) &&& 1 = 0 then oneO x N k ((t + 1) % N) else t
theorem oneO_lt (x : Int32) {N : Nat} (h0 : 0 < N) : ∀ (k t : Nat), t < N → oneO x N k t < N
  | 0, _, h => h
  | k + 1, t, h => by
    have ih := oneO_lt x h0 k ((t + 1) % N) (Nat.mod_lt _ h0)
    unfold oneO
    split
    · exact ih
    · exact h
theorem c_127 {L : Nat} {xs : Nat → Int32} {fr lo : Nat} {h : ax_H} {ld rk nt tb wk ma sp nn gg o t : Nat} {C me ep st hd cl ni md x : Int32} {ak : Int64} (hnn : nn ≤ 6) (hn0 : 0 < nn) (ht : t < nn) (gl : ax_g h ld = some (.inr (9, [.int me, .ref rk, .ref nt, .ref tb, .ref wk, .ref ma, .ref sp, .int ep, .int st, .int hd, .int cl, .long ak, .int ni, .int (nI t), .int md]))) (gr : ax_g h rk = some (.inr (3, [.int (nI nn), .int C, .int (nI gg), .ref o]))) : ax_M L xs 127 fr lo [.ref ld, .int x] h (fun r h' => r = some (.int (nI (oneO x nn nn t))) ∧ h' = h) := by
  have key : ∀ (k i v : Nat), i + k = nn → v < nn → ax_A (ax_step L xs) ((127, 7, fr, lo), [(0, .ref ld), (1, .int x), (2, .int (nI v)), (3, .int (nI i))], [], h) (fun r h' => r = some (.int (nI (oneO x nn k v))) ∧ h' = h) := by
    intro k
    induction k with
    | zero =>
      intro i v hi hv
      have e0 : i = nn := by omega
      subst e0
      refine ar_iload_n 8 d_127_7 rfl rfl ?_
      refine ar_aload_n 9 d_127_8 rfl rfl ?_
      refine ar_getf 12 d_127_9 rfl (ci := 9) (k := 1) rfl gl rfl ?_
      refine ar_getf 15 d_127_12 rfl (ci := 3) (k := 0) rfl gr rfl ?_
      refine ar_icmp_ge 44 18 d_127_15 (by decide) rfl (fun _ => ?_) (fun c => absurd (Int32.le_refl _) c)
      refine ar_iload_n 45 d_127_44 rfl rfl ?_
      exact ar_iret d_127_45 rfl rfl (⟨rfl, rfl⟩)
    | succ k ih =>
      intro i v hi hv
      have hic : i < nn := by omega
      refine ar_iload_n 8 d_127_7 rfl rfl ?_
      refine ar_aload_n 9 d_127_8 rfl rfl ?_
      refine ar_getf 12 d_127_9 rfl (ci := 9) (k := 1) rfl gl rfl ?_
      refine ar_getf 15 d_127_12 rfl (ci := 3) (k := 0) rfl gr rfl ?_
      refine ar_icmp_ge 44 18 d_127_15 (by decide) rfl (fun c => absurd c (nI_ge hic (by omega))) (fun _ => ?_)
      refine ar_iload_n 19 d_127_18 rfl rfl ?_
      refine ar_iload_n 20 d_127_19 rfl rfl ?_
      refine ar_ishr 21 d_127_20 rfl ?_
      refine ar_iconst 22 (v := 1) d_127_21 rfl (by decide) ?_
      refine ar_iand 23 d_127_22 rfl ?_
      refine ar_if_ne 44 26 d_127_23 (by decide) rfl (fun c1 => ?_) (fun c1 => ?_)
      · refine ar_iload_n 45 d_127_44 rfl rfl ?_
        exact ar_iret d_127_45 rfl rfl (⟨by rw [show oneO x nn (k + 1) v = v from if_neg c1], rfl⟩)
      · refine ar_iload_n 27 d_127_26 rfl rfl ?_
        refine ar_iconst 28 (v := 1) d_127_27 rfl (by decide) ?_
        refine ar_iadd 29 d_127_28 rfl ?_
        refine ar_top (x' := nI (v + 1)) (nI_1 v) ?_
        refine ar_aload_n 30 d_127_29 rfl rfl ?_
        refine ar_getf 33 d_127_30 rfl (ci := 9) (k := 1) rfl gl rfl ?_
        refine ar_getf 36 d_127_33 rfl (ci := 3) (k := 0) rfl gr rfl ?_
        refine ar_irem 37 d_127_36 rfl (nI_nz9 (by omega) (by omega)) ?_
        refine ar_top (x' := nI ((v + 1) % nn)) (pk_rem (by omega) (by omega) (by omega)) ?_
        refine ar_istore_n 38 [(0, .ref ld), (1, .int x), (2, .int (nI ((v + 1) % nn))), (3, .int (nI i))] d_127_37 rfl (by decide) rfl ?_
        refine ar_iinc 41 [(0, .ref ld), (1, .int x), (2, .int (nI ((v + 1) % nn))), (3, .int (nI (i + 1)))] d_127_38 rfl rfl (nI_1 i) (by decide) rfl ?_
        refine ar_goto 7 d_127_41 (by decide) ?_
        rw [show oneO x nn (k + 1) v = oneO x nn k ((v + 1) % nn) from if_pos (Decidable.not_not.mp c1)]
        exact ih (i + 1) _ (by omega) (Nat.mod_lt _ hn0)
  show ax_A (ax_step L xs) ((127, 0, fr, lo), [(0, .ref ld), (1, .int x)], [], h) _
  refine ar_aload_n 1 d_127_0 rfl rfl ?_
  refine ar_getf 4 d_127_1 rfl (ci := 9) (k := 13) rfl gl rfl ?_
  refine ar_istore_n 5 [(0, .ref ld), (1, .int x), (2, .int (nI t))] d_127_4 rfl (by decide) rfl ?_
  refine ar_iconst 6 (v := 0) d_127_5 rfl (by decide) ?_
  refine ar_istore_n 7 [(0, .ref ld), (1, .int x), (2, .int (nI t)), (3, .int 0)] d_127_6 rfl (by decide) rfl ?_
  exact key nn 0 t (by omega) ht

/-! Work: take, neededAt, toldLength; Leader: isReady, exactly -/
theorem d_68_0 : decode (axt_b 68) 0 = .ok (.aload_n 1, 1) := by decide +kernel
theorem d_68_1 : decode (axt_b 68) 1 = .ok (.getfield 30, 3) := by decide +kernel
theorem d_68_4 : decode (axt_b 68) 4 = .ok (.aload_n 0, 1) := by decide +kernel
theorem d_68_5 : decode (axt_b 68) 5 = .ok (.getfield 22, 3) := by decide +kernel
theorem d_68_8 : decode (axt_b 68) 8 = .ok (.if_icmp .lt 29, 3) := by decide +kernel
theorem d_68_11 : decode (axt_b 68) 11 = .ok (.aload_n 1, 1) := by decide +kernel
theorem d_68_12 : decode (axt_b 68) 12 = .ok (.getfield 30, 3) := by decide +kernel
theorem d_68_15 : decode (axt_b 68) 15 = .ok (.aload_n 0, 1) := by decide +kernel
theorem d_68_16 : decode (axt_b 68) 16 = .ok (.getfield 22, 3) := by decide +kernel
theorem d_68_19 : decode (axt_b 68) 19 = .ok (.if_icmp .ne 10, 3) := by decide +kernel
theorem d_68_22 : decode (axt_b 68) 22 = .ok (.aload_n 0, 1) := by decide +kernel
theorem d_68_23 : decode (axt_b 68) 23 = .ok (.getfield 35, 3) := by decide +kernel
theorem d_68_26 : decode (axt_b 68) 26 = .ok (.ifCond .ne 11, 3) := by decide +kernel
theorem d_68_29 : decode (axt_b 68) 29 = .ok (.aload_n 0, 1) := by decide +kernel
theorem d_68_30 : decode (axt_b 68) 30 = .ok (.getfield 35, 3) := by decide +kernel
theorem d_68_33 : decode (axt_b 68) 33 = .ok (.iconst 1, 1) := by decide +kernel
theorem d_68_34 : decode (axt_b 68) 34 = .ok (.if_icmp .le 4, 3) := by decide +kernel
theorem d_68_37 : decode (axt_b 68) 37 = .ok (.return_, 1) := by decide +kernel
theorem d_68_38 : decode (axt_b 68) 38 = .ok (.aload_n 0, 1) := by decide +kernel
theorem d_68_39 : decode (axt_b 68) 39 = .ok (.iconst 1, 1) := by decide +kernel
theorem d_68_40 : decode (axt_b 68) 40 = .ok (.putfield 35, 3) := by decide +kernel
theorem d_68_43 : decode (axt_b 68) 43 = .ok (.aload_n 0, 1) := by decide +kernel
theorem d_68_44 : decode (axt_b 68) 44 = .ok (.aload_n 1, 1) := by decide +kernel
theorem d_68_45 : decode (axt_b 68) 45 = .ok (.getfield 30, 3) := by decide +kernel
theorem d_68_48 : decode (axt_b 68) 48 = .ok (.putfield 22, 3) := by decide +kernel
theorem d_68_51 : decode (axt_b 68) 51 = .ok (.aload_n 0, 1) := by decide +kernel
theorem d_68_52 : decode (axt_b 68) 52 = .ok (.aload_n 1, 1) := by decide +kernel
theorem d_68_53 : decode (axt_b 68) 53 = .ok (.getfield 38, 3) := by decide +kernel
theorem d_68_56 : decode (axt_b 68) 56 = .ok (.putfield 41, 3) := by decide +kernel
theorem d_68_59 : decode (axt_b 68) 59 = .ok (.aload_n 0, 1) := by decide +kernel
theorem d_68_60 : decode (axt_b 68) 60 = .ok (.getfield 12, 3) := by decide +kernel
theorem d_68_63 : decode (axt_b 68) 63 = .ok (.aload_n 1, 1) := by decide +kernel
theorem d_68_64 : decode (axt_b 68) 64 = .ok (.invokevirtual 44, 3) := by decide +kernel
theorem d_68_67 : decode (axt_b 68) 67 = .ok (.return_, 1) := by decide +kernel
theorem d_88_0 : decode (axt_b 88) 0 = .ok (.iload_n 1, 1) := by decide +kernel
theorem d_88_1 : decode (axt_b 88) 1 = .ok (.aload_n 0, 1) := by decide +kernel
theorem d_88_2 : decode (axt_b 88) 2 = .ok (.getfield 65, 3) := by decide +kernel
theorem d_88_5 : decode (axt_b 88) 5 = .ok (.if_icmp .ge 31, 3) := by decide +kernel
theorem d_88_8 : decode (axt_b 88) 8 = .ok (.aload_n 0, 1) := by decide +kernel
theorem d_88_9 : decode (axt_b 88) 9 = .ok (.getfield 59, 3) := by decide +kernel
theorem d_88_12 : decode (axt_b 88) 12 = .ok (.iload_n 1, 1) := by decide +kernel
theorem d_88_13 : decode (axt_b 88) 13 = .ok (.ishr, 1) := by decide +kernel
theorem d_88_14 : decode (axt_b 88) 14 = .ok (.iconst 1, 1) := by decide +kernel
theorem d_88_15 : decode (axt_b 88) 15 = .ok (.iand, 1) := by decide +kernel
theorem d_88_16 : decode (axt_b 88) 16 = .ok (.ifCond .eq 20, 3) := by decide +kernel
theorem d_88_19 : decode (axt_b 88) 19 = .ok (.aload_n 0, 1) := by decide +kernel
theorem d_88_20 : decode (axt_b 88) 20 = .ok (.getfield 88, 3) := by decide +kernel
theorem d_88_23 : decode (axt_b 88) 23 = .ok (.bipush 20, 2) := by decide +kernel
theorem d_88_25 : decode (axt_b 88) 25 = .ok (.imul, 1) := by decide +kernel
theorem d_88_26 : decode (axt_b 88) 26 = .ok (.aload_n 0, 1) := by decide +kernel
theorem d_88_27 : decode (axt_b 88) 27 = .ok (.getfield 153, 3) := by decide +kernel
theorem d_88_30 : decode (axt_b 88) 30 = .ok (.iadd, 1) := by decide +kernel
theorem d_88_31 : decode (axt_b 88) 31 = .ok (.iload_n 1, 1) := by decide +kernel
theorem d_88_32 : decode (axt_b 88) 32 = .ok (.iadd, 1) := by decide +kernel
theorem d_88_33 : decode (axt_b 88) 33 = .ok (.goto 4, 3) := by decide +kernel
theorem d_88_36 : decode (axt_b 88) 36 = .ok (.iconst (-1), 1) := by decide +kernel
theorem d_88_37 : decode (axt_b 88) 37 = .ok (.ireturn, 1) := by decide +kernel
theorem d_92_0 : decode (axt_b 92) 0 = .ok (.aload_n 0, 1) := by decide +kernel
theorem d_92_1 : decode (axt_b 92) 1 = .ok (.getfield 9, 3) := by decide +kernel
theorem d_92_4 : decode (axt_b 92) 4 = .ok (.iload_n 1, 1) := by decide +kernel
theorem d_92_5 : decode (axt_b 92) 5 = .ok (.iaload, 1) := by decide +kernel
theorem d_92_6 : decode (axt_b 92) 6 = .ok (.ifCond .eq 27, 3) := by decide +kernel
theorem d_92_9 : decode (axt_b 92) 9 = .ok (.aload_n 0, 1) := by decide +kernel
theorem d_92_10 : decode (axt_b 92) 10 = .ok (.getfield 78, 3) := by decide +kernel
theorem d_92_13 : decode (axt_b 92) 13 = .ok (.aload_n 0, 1) := by decide +kernel
theorem d_92_14 : decode (axt_b 92) 14 = .ok (.getfield 9, 3) := by decide +kernel
theorem d_92_17 : decode (axt_b 92) 17 = .ok (.iload_n 1, 1) := by decide +kernel
theorem d_92_18 : decode (axt_b 92) 18 = .ok (.iaload, 1) := by decide +kernel
theorem d_92_19 : decode (axt_b 92) 19 = .ok (.iand, 1) := by decide +kernel
theorem d_92_20 : decode (axt_b 92) 20 = .ok (.aload_n 0, 1) := by decide +kernel
theorem d_92_21 : decode (axt_b 92) 21 = .ok (.getfield 9, 3) := by decide +kernel
theorem d_92_24 : decode (axt_b 92) 24 = .ok (.iload_n 1, 1) := by decide +kernel
theorem d_92_25 : decode (axt_b 92) 25 = .ok (.iaload, 1) := by decide +kernel
theorem d_92_26 : decode (axt_b 92) 26 = .ok (.if_icmp .ne 7, 3) := by decide +kernel
theorem d_92_29 : decode (axt_b 92) 29 = .ok (.iconst 1, 1) := by decide +kernel
theorem d_92_30 : decode (axt_b 92) 30 = .ok (.goto 4, 3) := by decide +kernel
theorem d_92_33 : decode (axt_b 92) 33 = .ok (.iconst 0, 1) := by decide +kernel
theorem d_92_34 : decode (axt_b 92) 34 = .ok (.ireturn, 1) := by decide +kernel
theorem d_124_0 : decode (axt_b 124) 0 = .ok (.aload_n 0, 1) := by decide +kernel
theorem d_124_1 : decode (axt_b 124) 1 = .ok (.getfield 77, 3) := by decide +kernel
theorem d_124_4 : decode (axt_b 124) 4 = .ok (.ifCond .lt 33, 3) := by decide +kernel
theorem d_124_7 : decode (axt_b 124) 7 = .ok (.aload_n 0, 1) := by decide +kernel
theorem d_124_8 : decode (axt_b 124) 8 = .ok (.getfield 12, 3) := by decide +kernel
theorem d_124_11 : decode (axt_b 124) 11 = .ok (.getfield 91, 3) := by decide +kernel
theorem d_124_14 : decode (axt_b 124) 14 = .ok (.iconst 4, 1) := by decide +kernel
theorem d_124_15 : decode (axt_b 124) 15 = .ok (.if_icmp .eq 15, 3) := by decide +kernel
theorem d_124_18 : decode (axt_b 124) 18 = .ok (.aload_n 0, 1) := by decide +kernel
theorem d_124_19 : decode (axt_b 124) 19 = .ok (.getfield 12, 3) := by decide +kernel
theorem d_124_22 : decode (axt_b 124) 22 = .ok (.getfield 91, 3) := by decide +kernel
theorem d_124_25 : decode (axt_b 124) 25 = .ok (.bipush 9, 2) := by decide +kernel
theorem d_124_27 : decode (axt_b 124) 27 = .ok (.if_icmp .ne 10, 3) := by decide +kernel
theorem d_124_30 : decode (axt_b 124) 30 = .ok (.aload_n 0, 1) := by decide +kernel
theorem d_124_31 : decode (axt_b 124) 31 = .ok (.getfield 77, 3) := by decide +kernel
theorem d_124_34 : decode (axt_b 124) 34 = .ok (.goto 4, 3) := by decide +kernel
theorem d_124_37 : decode (axt_b 124) 37 = .ok (.iconst 0, 1) := by decide +kernel
theorem d_124_38 : decode (axt_b 124) 38 = .ok (.ireturn, 1) := by decide +kernel
theorem c_88 {L : Nat} {xs : Nat → Int32} {fr lo : Nat} {h : ax_H} {tb wk wa wb : Nat} {ws wo w5 w6 w7 w8 w9 w10 w11 w12 w13 w14 x : Int32} (gw : ax_g h wk = some (.inr (10, [.ref tb, .ref wa, .ref wb, .int ws, .int wo, .int w5, .int w6, .int w7, .int w8, .int w9, .int w10, .int w11, .int w12, .int w13, .int w14]))) : ax_M L xs 88 fr lo [.ref wk, .int x] h (fun r h' => r = some (.int (if x < w11 ∧ ¬ (w12 >>> (x &&& 31)) &&& 1 = 0 then ((w7 * 20) + w10) + x else -1)) ∧ h' = h) := by
  show ax_A (ax_step L xs) ((88, 0, fr, lo), [(0, .ref wk), (1, .int x)], [], h) _
  refine ar_iload_n 1 d_88_0 rfl rfl ?_
  refine ar_aload_n 2 d_88_1 rfl rfl ?_
  refine ar_getf 5 d_88_2 rfl (ci := 10) (k := 11) rfl gw rfl ?_
  refine ar_icmp_ge 36 8 d_88_5 (by decide) rfl (fun c1 => ?_) (fun c1 => ?_)
  · refine ar_iconst 37 (v := -1) d_88_36 rfl (by decide) ?_
    exact ar_iret d_88_37 rfl rfl (⟨by rw [if_neg (fun z => absurd z.1 (Int32.not_lt.mpr c1))], rfl⟩)
  · refine ar_aload_n 9 d_88_8 rfl rfl ?_
    refine ar_getf 12 d_88_9 rfl (ci := 10) (k := 12) rfl gw rfl ?_
    refine ar_iload_n 13 d_88_12 rfl rfl ?_
    refine ar_ishr 14 d_88_13 rfl ?_
    refine ar_iconst 15 (v := 1) d_88_14 rfl (by decide) ?_
    refine ar_iand 16 d_88_15 rfl ?_
    refine ar_if_eq 36 19 d_88_16 (by decide) rfl (fun c2 => ?_) (fun c2 => ?_)
    · refine ar_iconst 37 (v := -1) d_88_36 rfl (by decide) ?_
      exact ar_iret d_88_37 rfl rfl (⟨by rw [if_neg (fun z => z.2 c2)], rfl⟩)
    · refine ar_aload_n 20 d_88_19 rfl rfl ?_
      refine ar_getf 23 d_88_20 rfl (ci := 10) (k := 7) rfl gw rfl ?_
      refine ar_bipush 25 (v := 20) d_88_23 rfl (by decide) ?_
      refine ar_imul 26 d_88_25 rfl ?_
      refine ar_aload_n 27 d_88_26 rfl rfl ?_
      refine ar_getf 30 d_88_27 rfl (ci := 10) (k := 10) rfl gw rfl ?_
      refine ar_iadd 31 d_88_30 rfl ?_
      refine ar_iload_n 32 d_88_31 rfl rfl ?_
      refine ar_iadd 33 d_88_32 rfl ?_
      refine ar_goto 37 d_88_33 (by decide) ?_
      exact ar_iret d_88_37 rfl rfl (⟨by rw [if_pos ⟨Int32.not_le.mp c1, c2⟩], rfl⟩)
theorem c_92 {L : Nat} {xs : Nat → Int32} {fr lo : Nat} {h : ax_H} {ld rk nt tb wk ma sp i : Nat} {me ep st hd cl ni tu md : Int32} {ak : Int64} {fm : Nat → Int32} (hi : i < 16) (gl : ax_g h ld = some (.inr (9, [.int me, .ref rk, .ref nt, .ref tb, .ref wk, .ref ma, .ref sp, .int ep, .int st, .int hd, .int cl, .long ak, .int ni, .int tu, .int md]))) (gm : ax_g h ma = some (.inl (0, 16, .inl fm))) : ax_M L xs 92 fr lo [.ref ld, .int (nI i)] h (fun r h' => r = some (.int (if ¬ fm i = 0 ∧ hd &&& fm i = fm i then 1 else 0)) ∧ h' = h) := by
  show ax_A (ax_step L xs) ((92, 0, fr, lo), [(0, .ref ld), (1, .int (nI i))], [], h) _
  refine ar_aload_n 1 d_92_0 rfl rfl ?_
  refine ar_getf 4 d_92_1 rfl (ci := 9) (k := 5) rfl gl rfl ?_
  refine ar_iload_n 5 d_92_4 rfl rfl ?_
  refine ar_iald 6 d_92_5 rfl gm (nI_in (by omega) (by omega)) ?_
  refine ar_top (x' := fm i) (by rw [nI_clamp (by omega)]) ?_
  refine ar_if_eq 33 9 d_92_6 (by decide) rfl (fun c1 => ?_) (fun c1 => ?_)
  · refine ar_iconst 34 (v := 0) d_92_33 rfl (by decide) ?_
    exact ar_iret d_92_34 rfl rfl (⟨by rw [if_neg (fun z => z.1 c1)], rfl⟩)
  · refine ar_aload_n 10 d_92_9 rfl rfl ?_
    refine ar_getf 13 d_92_10 rfl (ci := 9) (k := 9) rfl gl rfl ?_
    refine ar_aload_n 14 d_92_13 rfl rfl ?_
    refine ar_getf 17 d_92_14 rfl (ci := 9) (k := 5) rfl gl rfl ?_
    refine ar_iload_n 18 d_92_17 rfl rfl ?_
    refine ar_iald 19 d_92_18 rfl gm (nI_in (by omega) (by omega)) ?_
    refine ar_top (x' := fm i) (by rw [nI_clamp (by omega)]) ?_
    refine ar_iand 20 d_92_19 rfl ?_
    refine ar_aload_n 21 d_92_20 rfl rfl ?_
    refine ar_getf 24 d_92_21 rfl (ci := 9) (k := 5) rfl gl rfl ?_
    refine ar_iload_n 25 d_92_24 rfl rfl ?_
    refine ar_iald 26 d_92_25 rfl gm (nI_in (by omega) (by omega)) ?_
    refine ar_top (x' := fm i) (by rw [nI_clamp (by omega)]) ?_
    refine ar_icmp_ne 33 29 d_92_26 (by decide) rfl (fun c2 => ?_) (fun c2 => ?_)
    · refine ar_iconst 34 (v := 0) d_92_33 rfl (by decide) ?_
      exact ar_iret d_92_34 rfl rfl (⟨by rw [if_neg (fun z => c2 z.2)], rfl⟩)
    · refine ar_iconst 30 (v := 1) d_92_29 rfl (by decide) ?_
      refine ar_goto 34 d_92_30 (by decide) ?_
      exact ar_iret d_92_34 rfl rfl (⟨by rw [if_pos ⟨c1, Decidable.not_not.mp c2⟩], rfl⟩)
theorem c_124 {L : Nat} {xs : Nat → Int32} {fr lo : Nat} {h : ax_H} {tb wk wa wb wd : Nat} {ws wo w5 w6 w7 w8 w9 w10 w11 w12 w13 w14 k0 k1 k2 k3 k4 k5 k6 : Int32} (gw : ax_g h wk = some (.inr (10, [.ref tb, .ref wa, .ref wb, .int ws, .int wo, .int w5, .int w6, .int w7, .int w8, .int w9, .int w10, .int w11, .int w12, .int w13, .int w14]))) (ga : ax_g h wa = some (.inr (5, [.int k0, .int k1, .int k2, .int k3, .int k4, .int k5, .int k6, .ref wd]))) : ax_M L xs 124 fr lo [.ref wk] h (fun r h' => r = some (.int (if ¬ w5 < 0 ∧ (k0 = 4 ∨ k0 = 9) then w5 else 0)) ∧ h' = h) := by
  show ax_A (ax_step L xs) ((124, 0, fr, lo), [(0, .ref wk)], [], h) _
  refine ar_aload_n 1 d_124_0 rfl rfl ?_
  refine ar_getf 4 d_124_1 rfl (ci := 10) (k := 5) rfl gw rfl ?_
  refine ar_if_lt 37 7 d_124_4 (by decide) rfl (fun c1 => ?_) (fun c1 => ?_)
  · refine ar_iconst 38 (v := 0) d_124_37 rfl (by decide) ?_
    exact ar_iret d_124_38 rfl rfl (⟨by rw [if_neg (fun z => z.1 c1)], rfl⟩)
  · refine ar_aload_n 8 d_124_7 rfl rfl ?_
    refine ar_getf 11 d_124_8 rfl (ci := 10) (k := 1) rfl gw rfl ?_
    refine ar_getf 14 d_124_11 rfl (ci := 5) (k := 0) rfl ga rfl ?_
    refine ar_iconst 15 (v := 4) d_124_14 rfl (by decide) ?_
    refine ar_icmp_eq 30 18 d_124_15 (by decide) rfl (fun c2 => ?_) (fun c2 => ?_)
    · refine ar_aload_n 31 d_124_30 rfl rfl ?_
      refine ar_getf 34 d_124_31 rfl (ci := 10) (k := 5) rfl gw rfl ?_
      refine ar_goto 38 d_124_34 (by decide) ?_
      exact ar_iret d_124_38 rfl rfl (⟨by rw [if_pos ⟨c1, Or.inl c2⟩], rfl⟩)
    · refine ar_aload_n 19 d_124_18 rfl rfl ?_
      refine ar_getf 22 d_124_19 rfl (ci := 10) (k := 1) rfl gw rfl ?_
      refine ar_getf 25 d_124_22 rfl (ci := 5) (k := 0) rfl ga rfl ?_
      refine ar_bipush 27 (v := 9) d_124_25 rfl (by decide) ?_
      refine ar_icmp_ne 37 30 d_124_27 (by decide) rfl (fun c3 => ?_) (fun c3 => ?_)
      · refine ar_iconst 38 (v := 0) d_124_37 rfl (by decide) ?_
        exact ar_iret d_124_38 rfl rfl (⟨by rw [if_neg (fun z => z.2.elim c2 c3)], rfl⟩)
      · refine ar_aload_n 31 d_124_30 rfl rfl ?_
        refine ar_getf 34 d_124_31 rfl (ci := 10) (k := 5) rfl gw rfl ?_
        refine ar_goto 38 d_124_34 (by decide) ?_
        exact ar_iret d_124_38 rfl rfl (⟨by rw [if_pos ⟨c1, Or.inr (Decidable.not_not.mp c3)⟩], rfl⟩)

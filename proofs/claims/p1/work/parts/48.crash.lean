/-! tellMap, drawMap, map; crash -/
theorem d_135_0 : decode (axt_b 135) 0 = .ok (.iconst 0, 1) := by decide +kernel
theorem d_135_1 : decode (axt_b 135) 1 = .ok (.istore_n 1, 1) := by decide +kernel
theorem d_135_2 : decode (axt_b 135) 2 = .ok (.iload_n 1, 1) := by decide +kernel
theorem d_135_3 : decode (axt_b 135) 3 = .ok (.aload_n 0, 1) := by decide +kernel
theorem d_135_4 : decode (axt_b 135) 4 = .ok (.getfield 37, 3) := by decide +kernel
theorem d_135_7 : decode (axt_b 135) 7 = .ok (.getfield 45, 3) := by decide +kernel
theorem d_135_10 : decode (axt_b 135) 10 = .ok (.if_icmp .ge 45, 3) := by decide +kernel
theorem d_135_13 : decode (axt_b 135) 13 = .ok (.aload_n 0, 1) := by decide +kernel
theorem d_135_14 : decode (axt_b 135) 14 = .ok (.getfield 53, 3) := by decide +kernel
theorem d_135_17 : decode (axt_b 135) 17 = .ok (.iload_n 1, 1) := by decide +kernel
theorem d_135_18 : decode (axt_b 135) 18 = .ok (.ishr, 1) := by decide +kernel
theorem d_135_19 : decode (axt_b 135) 19 = .ok (.iconst 1, 1) := by decide +kernel
theorem d_135_20 : decode (axt_b 135) 20 = .ok (.iand, 1) := by decide +kernel
theorem d_135_21 : decode (axt_b 135) 21 = .ok (.ifCond .ne 28, 3) := by decide +kernel
theorem d_135_24 : decode (axt_b 135) 24 = .ok (.aload_n 0, 1) := by decide +kernel
theorem d_135_25 : decode (axt_b 135) 25 = .ok (.getfield 41, 3) := by decide +kernel
theorem d_135_28 : decode (axt_b 135) 28 = .ok (.iconst 0, 1) := by decide +kernel
theorem d_135_29 : decode (axt_b 135) 29 = .ok (.aload_n 0, 1) := by decide +kernel
theorem d_135_30 : decode (axt_b 135) 30 = .ok (.getfield 37, 3) := by decide +kernel
theorem d_135_33 : decode (axt_b 135) 33 = .ok (.getfield 45, 3) := by decide +kernel
theorem d_135_36 : decode (axt_b 135) 36 = .ok (.iload_n 1, 1) := by decide +kernel
theorem d_135_37 : decode (axt_b 135) 37 = .ok (.aload_n 0, 1) := by decide +kernel
theorem d_135_38 : decode (axt_b 135) 38 = .ok (.getfield 34, 3) := by decide +kernel
theorem d_135_41 : decode (axt_b 135) 41 = .ok (.aload_n 0, 1) := by decide +kernel
theorem d_135_42 : decode (axt_b 135) 42 = .ok (.getfield 50, 3) := by decide +kernel
theorem d_135_45 : decode (axt_b 135) 45 = .ok (.invokevirtual 116, 3) := by decide +kernel
theorem d_135_48 : decode (axt_b 135) 48 = .ok (.pop, 1) := by decide +kernel
theorem d_135_49 : decode (axt_b 135) 49 = .ok (.iinc 1 1, 3) := by decide +kernel
theorem d_135_52 : decode (axt_b 135) 52 = .ok (.goto (-50), 3) := by decide +kernel
theorem d_135_55 : decode (axt_b 135) 55 = .ok (.return_, 1) := by decide +kernel
theorem d_141_0 : decode (axt_b 141) 0 = .ok (.iload_n 1, 1) := by decide +kernel
theorem d_141_1 : decode (axt_b 141) 1 = .ok (.ifCond .lt 24, 3) := by decide +kernel
theorem d_141_4 : decode (axt_b 141) 4 = .ok (.iload_n 1, 1) := by decide +kernel
theorem d_141_5 : decode (axt_b 141) 5 = .ok (.aload_n 0, 1) := by decide +kernel
theorem d_141_6 : decode (axt_b 141) 6 = .ok (.getfield 63, 3) := by decide +kernel
theorem d_141_9 : decode (axt_b 141) 9 = .ok (.arraylength, 1) := by decide +kernel
theorem d_141_10 : decode (axt_b 141) 10 = .ok (.if_icmp .ge 15, 3) := by decide +kernel
theorem d_141_13 : decode (axt_b 141) 13 = .ok (.aload_n 0, 1) := by decide +kernel
theorem d_141_14 : decode (axt_b 141) 14 = .ok (.getfield 63, 3) := by decide +kernel
theorem d_141_17 : decode (axt_b 141) 17 = .ok (.iload_n 1, 1) := by decide +kernel
theorem d_141_18 : decode (axt_b 141) 18 = .ok (.aaload, 1) := by decide +kernel
theorem d_141_19 : decode (axt_b 141) 19 = .ok (.getfield 131, 3) := by decide +kernel
theorem d_141_22 : decode (axt_b 141) 22 = .ok (.ifCond .ne 5, 3) := by decide +kernel
theorem d_141_25 : decode (axt_b 141) 25 = .ok (.iconst 0, 1) := by decide +kernel
theorem d_141_26 : decode (axt_b 141) 26 = .ok (.ireturn, 1) := by decide +kernel
theorem d_141_27 : decode (axt_b 141) 27 = .ok (.aload_n 0, 1) := by decide +kernel
theorem d_141_28 : decode (axt_b 141) 28 = .ok (.iconst 0, 1) := by decide +kernel
theorem d_141_29 : decode (axt_b 141) 29 = .ok (.putfield 99, 3) := by decide +kernel
theorem d_141_32 : decode (axt_b 141) 32 = .ok (.aload_n 0, 1) := by decide +kernel
theorem d_141_33 : decode (axt_b 141) 33 = .ok (.getfield 63, 3) := by decide +kernel
theorem d_141_36 : decode (axt_b 141) 36 = .ok (.iload_n 1, 1) := by decide +kernel
theorem d_141_37 : decode (axt_b 141) 37 = .ok (.aaload, 1) := by decide +kernel
theorem d_141_38 : decode (axt_b 141) 38 = .ok (.iload_n 2, 1) := by decide +kernel
theorem d_141_39 : decode (axt_b 141) 39 = .ok (.iload_n 3, 1) := by decide +kernel
theorem d_141_40 : decode (axt_b 141) 40 = .ok (.invokevirtual 134, 3) := by decide +kernel
theorem d_141_43 : decode (axt_b 141) 43 = .ok (.iconst 1, 1) := by decide +kernel
theorem d_141_44 : decode (axt_b 141) 44 = .ok (.ireturn, 1) := by decide +kernel
theorem d_142_0 : decode (axt_b 142) 0 = .ok (.aload_n 0, 1) := by decide +kernel
theorem d_142_1 : decode (axt_b 142) 1 = .ok (.iconst 0, 1) := by decide +kernel
theorem d_142_2 : decode (axt_b 142) 2 = .ok (.putfield 49, 3) := by decide +kernel
theorem d_142_5 : decode (axt_b 142) 5 = .ok (.aload_n 0, 1) := by decide +kernel
theorem d_142_6 : decode (axt_b 142) 6 = .ok (.getfield 12, 3) := by decide +kernel
theorem d_142_9 : decode (axt_b 142) 9 = .ok (.iload_n 1, 1) := by decide +kernel
theorem d_142_10 : decode (axt_b 142) 10 = .ok (.iload_n 2, 1) := by decide +kernel
theorem d_142_11 : decode (axt_b 142) 11 = .ok (.invokevirtual 60, 3) := by decide +kernel
theorem d_142_14 : decode (axt_b 142) 14 = .ok (.aload_n 0, 1) := by decide +kernel
theorem d_142_15 : decode (axt_b 142) 15 = .ok (.getfield 18, 3) := by decide +kernel
theorem d_142_18 : decode (axt_b 142) 18 = .ok (.iconst (-1), 1) := by decide +kernel
theorem d_142_19 : decode (axt_b 142) 19 = .ok (.invokestatic 43, 3) := by decide +kernel
theorem d_142_22 : decode (axt_b 142) 22 = .ok (.aload_n 0, 1) := by decide +kernel
theorem d_142_23 : decode (axt_b 142) 23 = .ok (.getfield 39, 3) := by decide +kernel
theorem d_142_26 : decode (axt_b 142) 26 = .ok (.invokevirtual 63, 3) := by decide +kernel
theorem d_142_29 : decode (axt_b 142) 29 = .ok (.return_, 1) := by decide +kernel
theorem d_143_0 : decode (axt_b 143) 0 = .ok (.iconst 0, 1) := by decide +kernel
theorem d_143_1 : decode (axt_b 143) 1 = .ok (.istore_n 3, 1) := by decide +kernel
theorem d_143_2 : decode (axt_b 143) 2 = .ok (.iconst 0, 1) := by decide +kernel
theorem d_143_3 : decode (axt_b 143) 3 = .ok (.istore 4, 2) := by decide +kernel
theorem d_143_5 : decode (axt_b 143) 5 = .ok (.iload 4, 2) := by decide +kernel
theorem d_143_7 : decode (axt_b 143) 7 = .ok (.aload_n 0, 1) := by decide +kernel
theorem d_143_8 : decode (axt_b 143) 8 = .ok (.getfield 35, 3) := by decide +kernel
theorem d_143_11 : decode (axt_b 143) 11 = .ok (.if_icmp .ge 110, 3) := by decide +kernel
theorem d_143_14 : decode (axt_b 143) 14 = .ok (.aload_n 0, 1) := by decide +kernel
theorem d_143_15 : decode (axt_b 143) 15 = .ok (.getfield 19, 3) := by decide +kernel
theorem d_143_18 : decode (axt_b 143) 18 = .ok (.iload 4, 2) := by decide +kernel
theorem d_143_20 : decode (axt_b 143) 20 = .ok (.iaload, 1) := by decide +kernel
theorem d_143_21 : decode (axt_b 143) 21 = .ok (.sipush 128, 3) := by decide +kernel
theorem d_143_24 : decode (axt_b 143) 24 = .ok (.imul, 1) := by decide +kernel
theorem d_143_25 : decode (axt_b 143) 25 = .ok (.istore 5, 2) := by decide +kernel
theorem d_143_27 : decode (axt_b 143) 27 = .ok (.iload_n 1, 1) := by decide +kernel
theorem d_143_28 : decode (axt_b 143) 28 = .ok (.iload 4, 2) := by decide +kernel
theorem d_143_30 : decode (axt_b 143) 30 = .ok (.bipush 31, 2) := by decide +kernel
theorem d_143_32 : decode (axt_b 143) 32 = .ok (.iand, 1) := by decide +kernel
theorem d_143_33 : decode (axt_b 143) 33 = .ok (.iushr, 1) := by decide +kernel
theorem d_143_34 : decode (axt_b 143) 34 = .ok (.iconst 1, 1) := by decide +kernel
theorem d_143_35 : decode (axt_b 143) 35 = .ok (.iand, 1) := by decide +kernel
theorem d_143_36 : decode (axt_b 143) 36 = .ok (.ifCond .eq 28, 3) := by decide +kernel
theorem d_143_39 : decode (axt_b 143) 39 = .ok (.aload_n 0, 1) := by decide +kernel
theorem d_143_40 : decode (axt_b 143) 40 = .ok (.getfield 16, 3) := by decide +kernel
theorem d_143_43 : decode (axt_b 143) 43 = .ok (.iload 4, 2) := by decide +kernel
theorem d_143_45 : decode (axt_b 143) 45 = .ok (.sipush 128, 3) := by decide +kernel
theorem d_143_48 : decode (axt_b 143) 48 = .ok (.imul, 1) := by decide +kernel
theorem d_143_49 : decode (axt_b 143) 49 = .ok (.aload_n 0, 1) := by decide +kernel
theorem d_143_50 : decode (axt_b 143) 50 = .ok (.getfield 10, 3) := by decide +kernel
theorem d_143_53 : decode (axt_b 143) 53 = .ok (.iload 5, 2) := by decide +kernel
theorem d_143_55 : decode (axt_b 143) 55 = .ok (.sipush 128, 3) := by decide +kernel
theorem d_143_58 : decode (axt_b 143) 58 = .ok (.invokestatic 43, 3) := by decide +kernel
theorem d_143_61 : decode (axt_b 143) 61 = .ok (.goto 41, 3) := by decide +kernel
theorem d_143_64 : decode (axt_b 143) 64 = .ok (.iload_n 3, 1) := by decide +kernel
theorem d_143_65 : decode (axt_b 143) 65 = .ok (.ifCond .ne 37, 3) := by decide +kernel
theorem d_143_68 : decode (axt_b 143) 68 = .ok (.iconst 1, 1) := by decide +kernel
theorem d_143_69 : decode (axt_b 143) 69 = .ok (.istore_n 3, 1) := by decide +kernel
theorem d_143_70 : decode (axt_b 143) 70 = .ok (.aload_n 0, 1) := by decide +kernel
theorem d_143_71 : decode (axt_b 143) 71 = .ok (.getfield 16, 3) := by decide +kernel
theorem d_143_74 : decode (axt_b 143) 74 = .ok (.iload 4, 2) := by decide +kernel
theorem d_143_76 : decode (axt_b 143) 76 = .ok (.sipush 512, 3) := by decide +kernel
theorem d_143_79 : decode (axt_b 143) 79 = .ok (.imul, 1) := by decide +kernel
theorem d_143_80 : decode (axt_b 143) 80 = .ok (.aload_n 0, 1) := by decide +kernel
theorem d_143_81 : decode (axt_b 143) 81 = .ok (.getfield 10, 3) := by decide +kernel
theorem d_143_84 : decode (axt_b 143) 84 = .ok (.iload 5, 2) := by decide +kernel
theorem d_143_86 : decode (axt_b 143) 86 = .ok (.iconst 4, 1) := by decide +kernel
theorem d_143_87 : decode (axt_b 143) 87 = .ok (.imul, 1) := by decide +kernel
theorem d_143_88 : decode (axt_b 143) 88 = .ok (.iconst 0, 1) := by decide +kernel
theorem d_143_89 : decode (axt_b 143) 89 = .ok (.sipush 512, 3) := by decide +kernel
theorem d_143_92 : decode (axt_b 143) 92 = .ok (.iload_n 2, 1) := by decide +kernel
theorem d_143_93 : decode (axt_b 143) 93 = .ok (.invokestatic 55, 3) := by decide +kernel
theorem d_143_96 : decode (axt_b 143) 96 = .ok (.invokestatic 61, 3) := by decide +kernel
theorem d_143_99 : decode (axt_b 143) 99 = .ok (.invokestatic 64, 3) := by decide +kernel
theorem d_143_102 : decode (axt_b 143) 102 = .ok (.aload_n 0, 1) := by decide +kernel
theorem d_143_103 : decode (axt_b 143) 103 = .ok (.getfield 22, 3) := by decide +kernel
theorem d_143_106 : decode (axt_b 143) 106 = .ok (.aload_n 0, 1) := by decide +kernel
theorem d_143_107 : decode (axt_b 143) 107 = .ok (.getfield 19, 3) := by decide +kernel
theorem d_143_110 : decode (axt_b 143) 110 = .ok (.iload 4, 2) := by decide +kernel
theorem d_143_112 : decode (axt_b 143) 112 = .ok (.iaload, 1) := by decide +kernel
theorem d_143_113 : decode (axt_b 143) 113 = .ok (.iconst (-1), 1) := by decide +kernel
theorem d_143_114 : decode (axt_b 143) 114 = .ok (.iastore, 1) := by decide +kernel
theorem d_143_115 : decode (axt_b 143) 115 = .ok (.iinc 4 1, 3) := by decide +kernel
theorem d_143_118 : decode (axt_b 143) 118 = .ok (.goto (-113), 3) := by decide +kernel
theorem d_143_121 : decode (axt_b 143) 121 = .ok (.aload_n 0, 1) := by decide +kernel
theorem d_143_122 : decode (axt_b 143) 122 = .ok (.iconst 0, 1) := by decide +kernel
theorem d_143_123 : decode (axt_b 143) 123 = .ok (.putfield 35, 3) := by decide +kernel
theorem d_143_126 : decode (axt_b 143) 126 = .ok (.return_, 1) := by decide +kernel
theorem d_145_0 : decode (axt_b 145) 0 = .ok (.aload_n 0, 1) := by decide +kernel
theorem d_145_1 : decode (axt_b 145) 1 = .ok (.iconst 0, 1) := by decide +kernel
theorem d_145_2 : decode (axt_b 145) 2 = .ok (.putfield 99, 3) := by decide +kernel
theorem d_145_5 : decode (axt_b 145) 5 = .ok (.aload_n 0, 1) := by decide +kernel
theorem d_145_6 : decode (axt_b 145) 6 = .ok (.getfield 41, 3) := by decide +kernel
theorem d_145_9 : decode (axt_b 145) 9 = .ok (.iload_n 1, 1) := by decide +kernel
theorem d_145_10 : decode (axt_b 145) 10 = .ok (.aload_n 0, 1) := by decide +kernel
theorem d_145_11 : decode (axt_b 145) 11 = .ok (.invokevirtual 137, 3) := by decide +kernel
theorem d_145_14 : decode (axt_b 145) 14 = .ok (.iand, 1) := by decide +kernel
theorem d_145_15 : decode (axt_b 145) 15 = .ok (.invokevirtual 141, 3) := by decide +kernel
theorem d_145_18 : decode (axt_b 145) 18 = .ok (.aload_n 0, 1) := by decide +kernel
theorem d_145_19 : decode (axt_b 145) 19 = .ok (.getfield 41, 3) := by decide +kernel
theorem d_145_22 : decode (axt_b 145) 22 = .ok (.getfield 69, 3) := by decide +kernel
theorem d_145_25 : decode (axt_b 145) 25 = .ok (.ireturn, 1) := by decide +kernel
theorem d_146_0 : decode (axt_b 146) 0 = .ok (.iconst 1, 1) := by decide +kernel
theorem d_146_1 : decode (axt_b 146) 1 = .ok (.aload_n 0, 1) := by decide +kernel
theorem d_146_2 : decode (axt_b 146) 2 = .ok (.getfield 32, 3) := by decide +kernel
theorem d_146_5 : decode (axt_b 146) 5 = .ok (.getfield 58, 3) := by decide +kernel
theorem d_146_8 : decode (axt_b 146) 8 = .ok (.ishl, 1) := by decide +kernel
theorem d_146_9 : decode (axt_b 146) 9 = .ok (.iconst 1, 1) := by decide +kernel
theorem d_146_10 : decode (axt_b 146) 10 = .ok (.isub, 1) := by decide +kernel
theorem d_146_11 : decode (axt_b 146) 11 = .ok (.ireturn, 1) := by decide +kernel
theorem d_147_0 : decode (axt_b 147) 0 = .ok (.aload_n 0, 1) := by decide +kernel
theorem d_147_1 : decode (axt_b 147) 1 = .ok (.dup, 1) := by decide +kernel
theorem d_147_2 : decode (axt_b 147) 2 = .ok (.getfield 34, 3) := by decide +kernel
theorem d_147_5 : decode (axt_b 147) 5 = .ok (.iconst 1, 1) := by decide +kernel
theorem d_147_6 : decode (axt_b 147) 6 = .ok (.iadd, 1) := by decide +kernel
theorem d_147_7 : decode (axt_b 147) 7 = .ok (.putfield 34, 3) := by decide +kernel
theorem d_147_10 : decode (axt_b 147) 10 = .ok (.aload_n 0, 1) := by decide +kernel
theorem d_147_11 : decode (axt_b 147) 11 = .ok (.iload_n 1, 1) := by decide +kernel
theorem d_147_12 : decode (axt_b 147) 12 = .ok (.putfield 50, 3) := by decide +kernel
theorem d_147_15 : decode (axt_b 147) 15 = .ok (.aload_n 0, 1) := by decide +kernel
theorem d_147_16 : decode (axt_b 147) 16 = .ok (.iconst 0, 1) := by decide +kernel
theorem d_147_17 : decode (axt_b 147) 17 = .ok (.putfield 53, 3) := by decide +kernel
theorem d_147_20 : decode (axt_b 147) 20 = .ok (.aload_n 0, 1) := by decide +kernel
theorem d_147_21 : decode (axt_b 147) 21 = .ok (.invokevirtual 134, 3) := by decide +kernel
theorem d_147_24 : decode (axt_b 147) 24 = .ok (.return_, 1) := by decide +kernel
theorem lp_135L {L : Nat} {xs : Nat → Int32} {fr lo : Nat} {as rk nt tp nm nl ak aw w q nn gg o : Nat} {C ln bg he se si ef ep sm : Int32} {u b : Nat → Int32} {post : ax_Po} (hfr : 1 ≤ fr) (hlo : 26 ≤ lo) (hnn : nn ≤ 6) (hA1 : ¬ NTA nt w as) (hA2 : ¬ NTA nt w rk) : ∀ (k i : Nat) (h : ax_H) (ids : List Nat) (ms : List Mg), i + k = nn → ids.length + k < 128 → ax_hs h [(as, .inr (4, [.ref rk, .ref nt, .ref tp, .int ln, .ref nm, .ref nl, .ref ak, .ref aw, .int bg, .int he, .int se, .int si, .int ef, .int ep, .int sm, .int 0])), (rk, .inr (3, [.int (nI nn), .int C, .int (nI gg), .ref o]))] → NTL h nt w ids ms q u b → (∀ h' ids' ms', NTL h' nt w ids' ms' q u b → ms'.map (·.1) = ms.map (·.1) ++ (List.range' i k).map (fun n => mg 0 (nI nn) (nI n) ep sm) → ax_fr (NTA nt w) h h' → h'.1 = h.1 → h'.2.1 = h.2.1 → post none h') → ax_A (ax_step L xs) ((135, 2, fr, lo), [(0, .ref as), (1, .int (nI i))], [], h) post := by
  intro k
  induction k with
  | zero =>
    intro i h ids ms hi hl hF hN kk
    have e : i = nn := by omega
    subst e
    refine ar_iload_n 3 d_135_2 rfl rfl ?_
    refine ar_aload_n 4 d_135_3 rfl rfl ?_
    refine ar_getf 7 d_135_4 rfl (ci := 4) (k := 0) rfl (hF.at 0 rfl) rfl ?_
    refine ar_getf 10 d_135_7 rfl (ci := 3) (k := 0) rfl (hF.at 1 rfl) rfl ?_
    refine ar_icmp_ge 55 13 d_135_10 (by decide) rfl (fun _ => ?_) (fun c => absurd (nI_le (Nat.le_refl _) (by omega)) c)
    exact ar_ret d_135_55 rfl (kk h ids ms hN (List.append_nil _).symm ax_fr.rf rfl rfl)
  | succ k ih =>
    intro i h ids ms hi hl hF hN kk
    have hin : i < nn := by omega
    refine ar_iload_n 3 d_135_2 rfl rfl ?_
    refine ar_aload_n 4 d_135_3 rfl rfl ?_
    refine ar_getf 7 d_135_4 rfl (ci := 4) (k := 0) rfl (hF.at 0 rfl) rfl ?_
    refine ar_getf 10 d_135_7 rfl (ci := 3) (k := 0) rfl (hF.at 1 rfl) rfl ?_
    refine ar_icmp_ge 55 13 d_135_10 (by decide) rfl (fun c => absurd c (nI_ge hin (by omega))) (fun _ => ?_)
    refine ar_aload_n 14 d_135_13 rfl rfl ?_
    refine ar_getf 17 d_135_14 rfl (ci := 4) (k := 15) rfl (hF.at 0 rfl) rfl ?_
    refine ar_iload_n 18 d_135_17 rfl rfl ?_
    refine ar_ishr 19 d_135_18 rfl ?_
    refine ar_iconst 20 (v := 1) d_135_19 rfl (by decide) ?_
    refine ar_iand 21 d_135_20 rfl ?_
    refine ar_if_ne 49 24 d_135_21 (by decide) rfl (fun c => absurd c (fun z => z (bit0 i (by omega)))) (fun _ => ?_)
    refine ar_aload_n 25 d_135_24 rfl rfl ?_
    refine ar_getf 28 d_135_25 rfl (ci := 4) (k := 1) rfl (hF.at 0 rfl) rfl ?_
    refine ar_iconst 29 (v := 0) d_135_28 rfl (by decide) ?_
    refine ar_aload_n 30 d_135_29 rfl rfl ?_
    refine ar_getf 33 d_135_30 rfl (ci := 4) (k := 0) rfl (hF.at 0 rfl) rfl ?_
    refine ar_getf 36 d_135_33 rfl (ci := 3) (k := 0) rfl (hF.at 1 rfl) rfl ?_
    refine ar_iload_n 37 d_135_36 rfl rfl ?_
    refine ar_aload_n 38 d_135_37 rfl rfl ?_
    refine ar_getf 41 d_135_38 rfl (ci := 4) (k := 13) rfl (hF.at 0 rfl) rfl ?_
    refine ar_aload_n 42 d_135_41 rfl rfl ?_
    refine ar_getf 45 d_135_42 rfl (ci := 4) (k := 14) rfl (hF.at 0 rfl) rfl ?_
    obtain ⟨za, zc, hnet⟩ := hN.net
    refine ar_call (r := []) (na := 0) (kd := 0) (cm := 36) (fr2 := fr - 1) (lo2 := lo - 26) 48 d_135_45 (ar_hoV (as := [.int 0, .int (nI nn), .int (nI i), .int ep, .int sm]) rfl rfl rfl hnet) rfl (by omega) (show lo - 26 + (19 + 7) = lo by omega) (Nat.le_of_ble_eq_true rfl) (Nat.le_of_ble_eq_true rfl) (c_36L hN (by omega)) ?_
    intro v h2 hq
    obtain ⟨m, bm, -, rfl, -, hN2, hf2, hz1, hz2⟩ := hq
    have hF2 := hF.fr hf2 (by intro x hx; simp at hx; rcases hx with rfl | rfl <;> assumption)
    refine ar_pop 49 d_135_48 rfl rfl ?_
    refine ar_iinc 52 [(0, .ref as), (1, .int (nI (i + 1)))] d_135_49 rfl rfl (nI_1 i) (by decide) rfl ?_
    refine ar_goto 2 d_135_52 (by decide) ?_
    refine ih (i + 1) h2 _ _ (by omega) (by rw [List.length_append]; show ids.length + 1 + k < 128; omega) hF2 hN2 (fun h' ids' ms' j0 j1 j2 j3 j4 => kk h' ids' ms' j0 ?_ (hf2.tr j2) (j3.trans hz1) (j4.trans hz2))
    rw [j1, List.map_append, List.append_assoc]
    rfl
theorem c_135L {L : Nat} {xs : Nat → Int32} {fr lo : Nat} {as rk nt tp nm nl ak aw w q nn gg o : Nat} {C ln bg he se si ef ep sm : Int32} {u b : Nat → Int32} {h : ax_H} {ids : List Nat} {ms : List Mg} (hfr : 1 ≤ fr) (hlo : 26 ≤ lo) (hnn : nn ≤ 6) (hA1 : ¬ NTA nt w as) (hA2 : ¬ NTA nt w rk) (hl : ids.length + nn < 128) (hF : ax_hs h [(as, .inr (4, [.ref rk, .ref nt, .ref tp, .int ln, .ref nm, .ref nl, .ref ak, .ref aw, .int bg, .int he, .int se, .int si, .int ef, .int ep, .int sm, .int 0])), (rk, .inr (3, [.int (nI nn), .int C, .int (nI gg), .ref o]))]) (hN : NTL h nt w ids ms q u b) : ax_M L xs 135 fr lo [.ref as] h (fun r h' => ∃ ids' ms', r = none ∧ NTL h' nt w ids' ms' q u b ∧ ms'.map (·.1) = ms.map (·.1) ++ (List.range' 0 nn).map (fun n => mg 0 (nI nn) (nI n) ep sm) ∧ ax_fr (NTA nt w) h h' ∧ h'.1 = h.1 ∧ h'.2.1 = h.2.1) := by
  show ax_A (ax_step L xs) ((135, 0, fr, lo), [(0, .ref as)], [], h) _
  refine ar_iconst 1 (v := 0) d_135_0 rfl (by decide) ?_
  refine ar_istore_n 2 [(0, .ref as), (1, .int 0)] d_135_1 rfl (by decide) rfl ?_
  exact lp_135L hfr hlo hnn hA1 hA2 nn 0 h ids ms (Nat.zero_add nn) hl hF hN (fun h' ids' ms' j0 j1 j2 j3 j4 => ⟨ids', ms', rfl, j0, j1, j2, j3, j4⟩)
theorem c_135A {L : Nat} {xs : Nat → Int32} {fr lo : Nat} {as rk nt tp nm nl ak aw  nn gg o : Nat} {C ln bg he se si ef ep sm mh : Int32} {h : ax_H} (hnn : nn ≤ 6) (hm : ∀ i, i < nn → ¬ (mh >>> (nI i &&& 31)) &&& 1 = 0) (hF : ax_hs h [(as, .inr (4, [.ref rk, .ref nt, .ref tp, .int ln, .ref nm, .ref nl, .ref ak, .ref aw, .int bg, .int he, .int se, .int si, .int ef, .int ep, .int sm, .int mh])), (rk, .inr (3, [.int (nI nn), .int C, .int (nI gg), .ref o]))]) : ax_M L xs 135 fr lo [.ref as] h (fun r h' => r = none ∧ h' = h) := by
  have key : ∀ (k i : Nat), i + k = nn → ax_A (ax_step L xs) ((135, 2, fr, lo), [(0, .ref as), (1, .int (nI i))], [], h) (fun r h' => r = none ∧ h' = h) := by
    intro k
    induction k with
    | zero =>
      intro i hi
      have e0 : i = nn := by omega
      subst e0
      refine ar_iload_n 3 d_135_2 rfl rfl ?_
      refine ar_aload_n 4 d_135_3 rfl rfl ?_
      refine ar_getf 7 d_135_4 rfl (ci := 4) (k := 0) rfl (hF.at 0 rfl) rfl ?_
      refine ar_getf 10 d_135_7 rfl (ci := 3) (k := 0) rfl (hF.at 1 rfl) rfl ?_
      refine ar_icmp_ge 55 13 d_135_10 (by decide) rfl (fun _ => ?_) (fun c => absurd (nI_le (Nat.le_refl _) (by omega)) c)
      exact ar_ret d_135_55 rfl (⟨rfl, rfl⟩)
    | succ k ih =>
      intro i hi
      have hin : i < nn := by omega
      refine ar_iload_n 3 d_135_2 rfl rfl ?_
      refine ar_aload_n 4 d_135_3 rfl rfl ?_
      refine ar_getf 7 d_135_4 rfl (ci := 4) (k := 0) rfl (hF.at 0 rfl) rfl ?_
      refine ar_getf 10 d_135_7 rfl (ci := 3) (k := 0) rfl (hF.at 1 rfl) rfl ?_
      refine ar_icmp_ge 55 13 d_135_10 (by decide) rfl (fun c => absurd c (nI_ge hin (by omega))) (fun _ => ?_)
      refine ar_aload_n 14 d_135_13 rfl rfl ?_
      refine ar_getf 17 d_135_14 rfl (ci := 4) (k := 15) rfl (hF.at 0 rfl) rfl ?_
      refine ar_iload_n 18 d_135_17 rfl rfl ?_
      refine ar_ishr 19 d_135_18 rfl ?_
      refine ar_iconst 20 (v := 1) d_135_19 rfl (by decide) ?_
      refine ar_iand 21 d_135_20 rfl ?_
      refine ar_if_ne 49 24 d_135_21 (by decide) rfl (fun _ => ?_) (fun c => absurd (hm i hin) c)
      refine ar_iinc 52 [(0, .ref as), (1, .int (nI (i + 1)))] d_135_49 rfl rfl (nI_1 i) (by decide) rfl ?_
      refine ar_goto 2 d_135_52 (by decide) ?_
      exact ih (i + 1) (by omega)
  show ax_A (ax_step L xs) ((135, 0, fr, lo), [(0, .ref as)], [], h) _
  refine ar_iconst 1 (v := 0) d_135_0 rfl (by decide) ?_
  refine ar_istore_n 2 [(0, .ref as), (1, .int 0)] d_135_1 rfl (by decide) rfl ?_
  exact key nn 0 (by omega)
theorem c_147L {L : Nat} {xs : Nat → Int32} {fr lo : Nat} {as rk nt tp nm nl ak aw w q nn gg o : Nat} {C ln bg he se si ef ep sm mh s2 : Int32} {u b : Nat → Int32} {h : ax_H} {ids : List Nat} {ms : List Mg} {n sl : Nat} (hfr : 2 ≤ fr) (hlo : 60 ≤ lo) (hnn : nn ≤ 6) (hA1 : ¬ NTA nt w as) (hA2 : ¬ NTA nt w rk) (hl : ids.length + nn < 128) (hN : NTL h nt w ids ms q u b) (hF : ax_hs h [(as, .inr (4, [.ref rk, .ref nt, .ref tp, .int ln, .ref nm, .ref nl, .ref ak, .ref aw, .int bg, .int he, .int se, .int si, .int ef, .int ep, .int sm, .int mh])), (rk, .inr (3, [.int (nI nn), .int C, .int (nI gg), .ref o]))]) (hn : h.1 = n) (hs : h.2.1 = sl) (hn0 : 0 < n) : ax_M L xs 147 fr lo [.ref as, .int s2] h (fun r h' => ∃ ids' ms', r = none ∧ ax_hs h' [(as, .inr (4, [.ref rk, .ref nt, .ref tp, .int ln, .ref nm, .ref nl, .ref ak, .ref aw, .int bg, .int he, .int se, .int si, .int ef, .int (ep + 1), .int s2, .int 0])), (rk, .inr (3, [.int (nI nn), .int C, .int (nI gg), .ref o]))] ∧ NTL h' nt w ids' ms' q u b ∧ ms'.map (·.1) = ms.map (·.1) ++ (List.range' 0 nn).map (fun n => mg 0 (nI nn) (nI n) (ep + 1) s2) ∧ ax_fr (fun x => NTA nt w x ∨ x ∈ [as]) h h' ∧ h'.1 = n ∧ h'.2.1 = sl) := by
  show ax_A (ax_step L xs) ((147, 0, fr, lo), [(0, .ref as), (1, .int s2)], [], h) _
  have hbase : h.1 = n := hn
  have hbasl : h.2.1 = sl := hs
  have hf : ax_fr (fun x => x ∈ [as]) h h := ax_fr.rf
  refine ar_aload_n 1 d_147_0 rfl rfl ?_
  refine ar_dup 2 d_147_1 rfl rfl ?_
  refine ar_getf 5 d_147_2 rfl (ci := 4) (k := 13) rfl (hF.at 0 rfl) rfl ?_
  refine ar_iconst 6 (v := 1) d_147_5 rfl (by decide) ?_
  refine ar_iadd 7 d_147_6 rfl ?_
  refine ar_putf 10 [.ref rk, .ref nt, .ref tp, .int ln, .ref nm, .ref nl, .ref ak, .ref aw, .int bg, .int he, .int se, .int si, .int ef, .int (ep + 1), .int sm, .int mh] d_147_7 rfl (ci := 4) (k := 13) rfl rfl (hF.at 0 rfl) (Nat.le_of_ble_eq_true rfl) rfl rfl rfl ?_
  replace hF : ax_hs (ax_put h as (.inr (4, [.ref rk, .ref nt, .ref tp, .int ln, .ref nm, .ref nl, .ref ak, .ref aw, .int bg, .int he, .int se, .int si, .int ef, .int (ep + 1), .int sm, .int mh]))) [(as, .inr (4, [.ref rk, .ref nt, .ref tp, .int ln, .ref nm, .ref nl, .ref ak, .ref aw, .int bg, .int he, .int se, .int si, .int ef, .int (ep + 1), .int sm, .int mh])), (rk, .inr (3, [.int (nI nn), .int C, .int (nI gg), .ref o]))] := hF.put 0 _ rfl rfl
  replace hf := hf.put (a := as) (c := .inr (4, [.ref rk, .ref nt, .ref tp, .int ln, .ref nm, .ref nl, .ref ak, .ref aw, .int bg, .int he, .int se, .int si, .int ef, .int (ep + 1), .int sm, .int mh])) (by simp)
  replace hn : (ax_put h as (.inr (4, [.ref rk, .ref nt, .ref tp, .int ln, .ref nm, .ref nl, .ref ak, .ref aw, .int bg, .int he, .int se, .int si, .int ef, .int (ep + 1), .int sm, .int mh]))).1 = n := hn
  replace hs : (ax_put h as (.inr (4, [.ref rk, .ref nt, .ref tp, .int ln, .ref nm, .ref nl, .ref ak, .ref aw, .int bg, .int he, .int se, .int si, .int ef, .int (ep + 1), .int sm, .int mh]))).2.1 = sl := hs
  generalize ax_put h as (.inr (4, [.ref rk, .ref nt, .ref tp, .int ln, .ref nm, .ref nl, .ref ak, .ref aw, .int bg, .int he, .int se, .int si, .int ef, .int (ep + 1), .int sm, .int mh])) = h1 at hF hf hn hs ⊢
  refine ar_aload_n 11 d_147_10 rfl rfl ?_
  refine ar_iload_n 12 d_147_11 rfl rfl ?_
  refine ar_putf 15 [.ref rk, .ref nt, .ref tp, .int ln, .ref nm, .ref nl, .ref ak, .ref aw, .int bg, .int he, .int se, .int si, .int ef, .int (ep + 1), .int s2, .int mh] d_147_12 rfl (ci := 4) (k := 14) rfl rfl (hF.at 0 rfl) (Nat.le_of_ble_eq_true rfl) rfl rfl rfl ?_
  replace hF : ax_hs (ax_put h1 as (.inr (4, [.ref rk, .ref nt, .ref tp, .int ln, .ref nm, .ref nl, .ref ak, .ref aw, .int bg, .int he, .int se, .int si, .int ef, .int (ep + 1), .int s2, .int mh]))) [(as, .inr (4, [.ref rk, .ref nt, .ref tp, .int ln, .ref nm, .ref nl, .ref ak, .ref aw, .int bg, .int he, .int se, .int si, .int ef, .int (ep + 1), .int s2, .int mh])), (rk, .inr (3, [.int (nI nn), .int C, .int (nI gg), .ref o]))] := hF.put 0 _ rfl rfl
  replace hf := hf.put (a := as) (c := .inr (4, [.ref rk, .ref nt, .ref tp, .int ln, .ref nm, .ref nl, .ref ak, .ref aw, .int bg, .int he, .int se, .int si, .int ef, .int (ep + 1), .int s2, .int mh])) (by simp)
  replace hn : (ax_put h1 as (.inr (4, [.ref rk, .ref nt, .ref tp, .int ln, .ref nm, .ref nl, .ref ak, .ref aw, .int bg, .int he, .int se, .int si, .int ef, .int (ep + 1), .int s2, .int mh]))).1 = n := hn
  replace hs : (ax_put h1 as (.inr (4, [.ref rk, .ref nt, .ref tp, .int ln, .ref nm, .ref nl, .ref ak, .ref aw, .int bg, .int he, .int se, .int si, .int ef, .int (ep + 1), .int s2, .int mh]))).2.1 = sl := hs
  generalize ax_put h1 as (.inr (4, [.ref rk, .ref nt, .ref tp, .int ln, .ref nm, .ref nl, .ref ak, .ref aw, .int bg, .int he, .int se, .int si, .int ef, .int (ep + 1), .int s2, .int mh])) = h2 at hF hf hn hs ⊢
  refine ar_aload_n 16 d_147_15 rfl rfl ?_
  refine ar_iconst 17 (v := 0) d_147_16 rfl (by decide) ?_
  refine ar_putf 20 [.ref rk, .ref nt, .ref tp, .int ln, .ref nm, .ref nl, .ref ak, .ref aw, .int bg, .int he, .int se, .int si, .int ef, .int (ep + 1), .int s2, .int 0] d_147_17 rfl (ci := 4) (k := 15) rfl rfl (hF.at 0 rfl) (Nat.le_of_ble_eq_true rfl) rfl rfl rfl ?_
  replace hF : ax_hs (ax_put h2 as (.inr (4, [.ref rk, .ref nt, .ref tp, .int ln, .ref nm, .ref nl, .ref ak, .ref aw, .int bg, .int he, .int se, .int si, .int ef, .int (ep + 1), .int s2, .int 0]))) [(as, .inr (4, [.ref rk, .ref nt, .ref tp, .int ln, .ref nm, .ref nl, .ref ak, .ref aw, .int bg, .int he, .int se, .int si, .int ef, .int (ep + 1), .int s2, .int 0])), (rk, .inr (3, [.int (nI nn), .int C, .int (nI gg), .ref o]))] := hF.put 0 _ rfl rfl
  replace hf := hf.put (a := as) (c := .inr (4, [.ref rk, .ref nt, .ref tp, .int ln, .ref nm, .ref nl, .ref ak, .ref aw, .int bg, .int he, .int se, .int si, .int ef, .int (ep + 1), .int s2, .int 0])) (by simp)
  replace hn : (ax_put h2 as (.inr (4, [.ref rk, .ref nt, .ref tp, .int ln, .ref nm, .ref nl, .ref ak, .ref aw, .int bg, .int he, .int se, .int si, .int ef, .int (ep + 1), .int s2, .int 0]))).1 = n := hn
  replace hs : (ax_put h2 as (.inr (4, [.ref rk, .ref nt, .ref tp, .int ln, .ref nm, .ref nl, .ref ak, .ref aw, .int bg, .int he, .int se, .int si, .int ef, .int (ep + 1), .int s2, .int 0]))).2.1 = sl := hs
  generalize ax_put h2 as (.inr (4, [.ref rk, .ref nt, .ref tp, .int ln, .ref nm, .ref nl, .ref ak, .ref aw, .int bg, .int he, .int se, .int si, .int ef, .int (ep + 1), .int s2, .int 0])) = h3 at hF hf hn hs ⊢
  refine ar_aload_n 21 d_147_20 rfl rfl ?_
  have hN := hN.fr hf (by intro x hx hB; simp at hB; subst hB; exact absurd hx hA1)
  refine ar_call (r := []) (na := 0) (kd := 0) (cm := 135) (fr2 := fr - 1) (lo2 := lo - 21) 24 d_147_21 (ar_hoV (as := []) rfl rfl rfl (hF.at 0 rfl)) rfl (by omega) (show lo - 21 + (19 + 2) = lo by omega) (Nat.le_of_ble_eq_true rfl) (Nat.le_of_ble_eq_true rfl) (c_135L (by omega) (by omega) hnn hA1 hA2 hl hF hN) ?_
  intro v h9 hq
  obtain ⟨ids', ms', rfl, hN2, hms, qf, qn, qs⟩ := hq
  have hF9 : ax_hs h9 [(as, .inr (4, [.ref rk, .ref nt, .ref tp, .int ln, .ref nm, .ref nl, .ref ak, .ref aw, .int bg, .int he, .int se, .int si, .int ef, .int (ep + 1), .int s2, .int 0])), (rk, .inr (3, [.int (nI nn), .int C, .int (nI gg), .ref o]))] := hF.fr qf (by intro x hx; simp at hx; rcases hx with rfl | rfl <;> assumption)
  exact ar_ret d_147_24 rfl (⟨ids', ms', rfl, hF9, hN2, hms, (hf.mono (fun x hx => Or.inr hx)).tr (qf.mono (fun x hx => Or.inl hx)), qn.trans hn, qs.trans hs⟩)
theorem c_146 {L : Nat} {xs : Nat → Int32} {fr lo : Nat} {s0 na tb od sn : Nat} {c0 c1 c2 c3 : Int32} {rk nt as nn gg o : Nat} {C : Int32} {h : ax_H} (hF : ax_hs h [(s0, .inr (0, [.ref rk, .ref nt, .ref as, .ref na, .ref tb, .ref od, .ref sn, .int c0, .int c1, .int c2, .int c3])), (rk, .inr (3, [.int (nI nn), .int C, .int (nI gg), .ref o]))]) : ax_M L xs 146 fr lo [.ref s0] h (fun r h' => r = some (.int (allN nn)) ∧ h' = h) := by
  show ax_A (ax_step L xs) ((146, 0, fr, lo), [(0, .ref s0)], [], h) _
  refine ar_iconst 1 (v := 1) d_146_0 rfl (by decide) ?_
  refine ar_aload_n 2 d_146_1 rfl rfl ?_
  refine ar_getf 5 d_146_2 rfl (ci := 0) (k := 0) rfl (hF.at 0 rfl) rfl ?_
  refine ar_getf 8 d_146_5 rfl (ci := 3) (k := 0) rfl (hF.at 1 rfl) rfl ?_
  refine ar_ishl 9 d_146_8 rfl ?_
  refine ar_iconst 10 (v := 1) d_146_9 rfl (by decide) ?_
  refine ar_isub 11 d_146_10 rfl ?_
  exact ar_iret d_146_11 rfl rfl (⟨rfl, rfl⟩)
theorem f_145 {L : Nat} {xs : Nat → Int32} {fr lo : Nat} {s0 na tb od sn : Nat} {c0 c1 c2 c3 : Int32} {as rk nt tp nm nl ak aw w q nn gg o : Nat} {C x ln bg he se si ef ep sm mh : Int32} {u b : Nat → Int32} {h : ax_H} {ids : List Nat} {ms : List Mg} {n sl : Nat} (hfr : 3 ≤ fr) (hlo : 90 ≤ lo) (hnn : nn ≤ 6) (hA0 : ¬ NTA nt w s0) (hA1 : ¬ NTA nt w as) (hA2 : ¬ NTA nt w rk) (hl : ids.length + nn < 128) (hN : NTL h nt w ids ms q u b) (hF : ax_hs h [(s0, .inr (0, [.ref rk, .ref nt, .ref as, .ref na, .ref tb, .ref od, .ref sn, .int c0, .int c1, .int c2, .int c3])), (rk, .inr (3, [.int (nI nn), .int C, .int (nI gg), .ref o])), (as, .inr (4, [.ref rk, .ref nt, .ref tp, .int ln, .ref nm, .ref nl, .ref ak, .ref aw, .int bg, .int he, .int se, .int si, .int ef, .int ep, .int sm, .int mh]))]) (hn : h.1 = n) (hs : h.2.1 = sl) (hn0 : 0 < n) : ax_M L xs 145 fr lo [.ref s0, .int x] h (fun r h' => r = some (.int (ep + 1)) ∧ ax_fr (fun x => NTA nt w x ∨ x ∈ [s0, as]) h h' ∧ h'.1 = n ∧ h'.2.1 = sl) := by
  show ax_A (ax_step L xs) ((145, 0, fr, lo), [(0, .ref s0), (1, .int x)], [], h) _
  have hbase : h.1 = n := hn
  have hbasl : h.2.1 = sl := hs
  have hf : ax_fr (fun x => x ∈ [s0]) h h := ax_fr.rf
  refine ar_aload_n 1 d_145_0 rfl rfl ?_
  refine ar_iconst 2 (v := 0) d_145_1 rfl (by decide) ?_
  refine ar_putf 5 [.ref rk, .ref nt, .ref as, .ref na, .ref tb, .ref od, .ref sn, .int c0, .int c1, .int c2, .int 0] d_145_2 rfl (ci := 0) (k := 10) rfl rfl (hF.at 0 rfl) (Nat.le_of_ble_eq_true rfl) rfl rfl rfl ?_
  replace hF : ax_hs (ax_put h s0 (.inr (0, [.ref rk, .ref nt, .ref as, .ref na, .ref tb, .ref od, .ref sn, .int c0, .int c1, .int c2, .int 0]))) [(s0, .inr (0, [.ref rk, .ref nt, .ref as, .ref na, .ref tb, .ref od, .ref sn, .int c0, .int c1, .int c2, .int 0])), (rk, .inr (3, [.int (nI nn), .int C, .int (nI gg), .ref o])), (as, .inr (4, [.ref rk, .ref nt, .ref tp, .int ln, .ref nm, .ref nl, .ref ak, .ref aw, .int bg, .int he, .int se, .int si, .int ef, .int ep, .int sm, .int mh]))] := hF.put 0 _ rfl rfl
  replace hf := hf.put (a := s0) (c := .inr (0, [.ref rk, .ref nt, .ref as, .ref na, .ref tb, .ref od, .ref sn, .int c0, .int c1, .int c2, .int 0])) (by simp)
  replace hn : (ax_put h s0 (.inr (0, [.ref rk, .ref nt, .ref as, .ref na, .ref tb, .ref od, .ref sn, .int c0, .int c1, .int c2, .int 0]))).1 = n := hn
  replace hs : (ax_put h s0 (.inr (0, [.ref rk, .ref nt, .ref as, .ref na, .ref tb, .ref od, .ref sn, .int c0, .int c1, .int c2, .int 0]))).2.1 = sl := hs
  generalize ax_put h s0 (.inr (0, [.ref rk, .ref nt, .ref as, .ref na, .ref tb, .ref od, .ref sn, .int c0, .int c1, .int c2, .int 0])) = h1 at hF hf hn hs ⊢
  refine ar_aload_n 6 d_145_5 rfl rfl ?_
  refine ar_getf 9 d_145_6 rfl (ci := 0) (k := 2) rfl (hF.at 0 rfl) rfl ?_
  refine ar_iload_n 10 d_145_9 rfl rfl ?_
  refine ar_aload_n 11 d_145_10 rfl rfl ?_
  refine ar_call (r := [.int x, .ref as]) (na := 0) (kd := 0) (cm := 146) (fr2 := fr - 1) (lo2 := lo - 20) 14 d_145_11 (ar_hoV (as := []) rfl rfl rfl (hF.at 0 rfl)) rfl (by omega) (show lo - 20 + (19 + 1) = lo by omega) (Nat.le_of_ble_eq_true rfl) (Nat.le_of_ble_eq_true rfl) (c_146 (hF.sub (F' := [(s0, .inr (0, [.ref rk, .ref nt, .ref as, .ref na, .ref tb, .ref od, .ref sn, .int c0, .int c1, .int c2, .int 0])), (rk, .inr (3, [.int (nI nn), .int C, .int (nI gg), .ref o]))]) [0, 1] rfl rfl)) ?_
  intro v hh hq
  obtain ⟨rfl, ehh⟩ := hq
  rw [ehh]
  clear ehh
  refine ar_iand 15 d_145_14 rfl ?_
  have hN := hN.fr hf (by intro x hx hB; simp at hB; subst hB; exact absurd hx hA0)
  refine ar_call (r := []) (na := 0) (kd := 0) (cm := 147) (fr2 := fr - 1) (lo2 := lo - 21) 18 d_145_15 (ar_hoV (as := [.int (x &&& (allN nn))]) rfl rfl rfl (hF.at 2 rfl)) rfl (by omega) (show lo - 21 + (19 + 2) = lo by omega) (Nat.le_of_ble_eq_true rfl) (Nat.le_of_ble_eq_true rfl) (c_147L (by omega) (by omega) hnn hA1 hA2 hl hN (hF.sub (F' := [(as, .inr (4, [.ref rk, .ref nt, .ref tp, .int ln, .ref nm, .ref nl, .ref ak, .ref aw, .int bg, .int he, .int se, .int si, .int ef, .int ep, .int sm, .int mh])), (rk, .inr (3, [.int (nI nn), .int C, .int (nI gg), .ref o]))]) [2, 1] rfl rfl) hn hs (by omega)) ?_
  intro v h9 hq
  obtain ⟨ids', ms', rfl, qF, hN2, hms, qf, qn, qs⟩ := hq
  have hR : ax_hs h9 [(s0, .inr (0, [.ref rk, .ref nt, .ref as, .ref na, .ref tb, .ref od, .ref sn, .int c0, .int c1, .int c2, .int 0]))] := (hF.sub (F' := [(s0, .inr (0, [.ref rk, .ref nt, .ref as, .ref na, .ref tb, .ref od, .ref sn, .int c0, .int c1, .int c2, .int 0]))]) [0] rfl rfl).fr qf (by intro x hx; simp at hx; subst hx; intro z; rcases z with z | z; exact hA0 z; exact ax_hs.apart hF 0 [2] (by decide) rfl rfl z)
  refine ar_aload_n 19 d_145_18 rfl rfl ?_
  refine ar_getf 22 d_145_19 rfl (ci := 0) (k := 2) rfl (hR.at 0 rfl) rfl ?_
  refine ar_getf 25 d_145_22 rfl (ci := 4) (k := 13) rfl (qF.at 0 rfl) rfl ?_
  exact ar_iret d_145_25 rfl rfl (⟨rfl, (hf.mono (fun x hx => Or.inr (by simp at hx; subst hx; simp))).tr (qf.mono (fun x hx => hx.elim Or.inl (fun z => Or.inr (by simp at z; subst z; simp)))), qn, qs⟩)
theorem c_143z {L : Nat} {xs : Nat → Int32} {fr lo : Nat} {dk da db dc dd : Nat} {x y : Int32} {h : ax_H} (hF : ax_hs h [(dk, .inr (8, [.ref da, .ref db, .ref dc, .ref dd, .int 0]))]) : ax_M L xs 143 fr lo [.ref dk, .int x, .int y] h (fun r h' => r = none ∧ h' = (ax_put h dk (.inr (8, [.ref da, .ref db, .ref dc, .ref dd, .int 0])))) := by
  show ax_A (ax_step L xs) ((143, 0, fr, lo), [(0, .ref dk), (1, .int x), (2, .int y)], [], h) _
  refine ar_iconst 1 (v := 0) d_143_0 rfl (by decide) ?_
  refine ar_istore_n 2 [(0, .ref dk), (1, .int x), (2, .int y), (3, .int 0)] d_143_1 rfl (by decide) rfl ?_
  refine ar_iconst 3 (v := 0) d_143_2 rfl (by decide) ?_
  refine ar_istore 5 [(0, .ref dk), (1, .int x), (2, .int y), (3, .int 0), (4, .int 0)] d_143_3 rfl (by decide) rfl ?_
  refine ar_iload 7 d_143_5 rfl rfl ?_
  refine ar_aload_n 8 d_143_7 rfl rfl ?_
  refine ar_getf 11 d_143_8 rfl (ci := 8) (k := 4) rfl (hF.at 0 rfl) rfl ?_
  refine ar_icmp_ge 121 14 d_143_11 (by decide) rfl (fun _ => ?_) (fun c => absurd (Int32.le_refl _) c)
  refine ar_aload_n 122 d_143_121 rfl rfl ?_
  refine ar_iconst 123 (v := 0) d_143_122 rfl (by decide) ?_
  refine ar_putf 126 [.ref da, .ref db, .ref dc, .ref dd, .int 0] d_143_123 rfl (ci := 8) (k := 4) rfl rfl (hF.at 0 rfl) (Nat.le_of_ble_eq_true rfl) rfl rfl rfl ?_
  have hF : ax_hs (ax_put h dk (.inr (8, [.ref da, .ref db, .ref dc, .ref dd, .int 0]))) [(dk, .inr (8, [.ref da, .ref db, .ref dc, .ref dd, .int 0]))] := hF.put 0 _ rfl rfl
  exact ar_ret d_143_126 rfl (⟨rfl, rfl⟩)
theorem c_142 {L : Nat} {xs : Nat → Int32} {fr lo : Nat} {nd dk tg da db dc dd : Nat} {ld rk nt tb wk ma sp wa wb a1 a2 a3 a4 a5 a6 a7 : Nat} {me ep st hd cl ni tu md g fl an ws wo w5 w6 w7 w8 w9 w10 w11 w12 w13 w14 : Int32} {ak kn : Int64} {f1 f2 f5 f6 f7 : Nat → Int32} {up ne ns x y : Int32} {tf : Nat → Int32} {h : ax_H} {n sl : Nat} (hfr : 3 ≤ fr) (hlo : 90 ≤ lo) (hF : ax_hs h [(nd, .inr (7, [.int me, .ref rk, .ref nt, .ref dk, .ref ld, .ref tg, .int up, .int ne, .int ns])), (dk, .inr (8, [.ref da, .ref db, .ref dc, .ref dd, .int 0])), (tg, .inl (0, 280, .inl tf)), (ld, .inr (9, [.int me, .ref rk, .ref nt, .ref tb, .ref wk, .ref ma, .ref sp, .int ep, .int st, .int hd, .int cl, .long ak, .int ni, .int tu, .int md])), (tb, .inr (6, [.int g, .ref a1, .ref a2, .ref a3, .ref a4, .ref a5, .ref a6, .ref a7, .long kn, .int fl, .int an])), (wk, .inr (10, [.ref tb, .ref wa, .ref wb, .int ws, .int wo, .int w5, .int w6, .int w7, .int w8, .int w9, .int w10, .int w11, .int w12, .int w13, .int w14])), (a1, .inl (0, 48, .inl f1)), (a2, .inl (0, 48, .inl f2)), (a5, .inl (0, 512, .inl f5)), (a6, .inl (0, 961, .inl f6)), (a7, .inl (0, 961, .inl f7))]) (hn : h.1 = n) (hs : h.2.1 = sl) (hn0 : 0 < n) : ax_M L xs 142 fr lo [.ref nd, .int x, .int y] h (fun r h' => r = none ∧ ax_hs h' [(nd, .inr (7, [.int me, .ref rk, .ref nt, .ref dk, .ref ld, .ref tg, .int 0, .int ne, .int ns])), (dk, .inr (8, [.ref da, .ref db, .ref dc, .ref dd, .int 0])), (tg, .inl (0, 280, .inl (ax_fill tf 0 280 (-1)))), (ld, .inr (9, [.int me, .ref rk, .ref nt, .ref tb, .ref wk, .ref ma, .ref sp, .int ep, .int st, .int 0, .int 0, .long 0, .int 0, .int 0, .int 0])), (tb, .inr (6, [.int g, .ref a1, .ref a2, .ref a3, .ref a4, .ref a5, .ref a6, .ref a7, .long 0, .int 0, .int 0])), (wk, .inr (10, [.ref tb, .ref wa, .ref wb, .int 0, .int (-1), .int w5, .int w6, .int w7, .int w8, .int w9, .int w10, .int w11, .int w12, .int w13, .int w14])), (a1, .inl (0, 48, .inl (ax_fill f1 0 48 (-1)))), (a2, .inl (0, 48, .inl (ax_fill f2 0 48 0))), (a5, .inl (0, 512, .inl (ax_fill f5 0 512 (-1)))), (a6, .inl (0, 961, .inl (ax_fill f6 0 961 (-1)))), (a7, .inl (0, 961, .inl (ax_fill f7 0 961 0)))] ∧ h'.1 = n ∧ h'.2.1 = sl ∧ ax_fr (fun x => x ∈ [nd, dk, tg, ld, tb, wk, a1, a2, a5, a6, a7]) h h') := by
  show ax_A (ax_step L xs) ((142, 0, fr, lo), [(0, .ref nd), (1, .int x), (2, .int y)], [], h) _
  have hbase : h.1 = n := hn
  have hbasl : h.2.1 = sl := hs
  have hf : ax_fr (fun x => x ∈ [nd, dk, tg, ld, tb, wk, a1, a2, a5, a6, a7]) h h := ax_fr.rf
  refine ar_aload_n 1 d_142_0 rfl rfl ?_
  refine ar_iconst 2 (v := 0) d_142_1 rfl (by decide) ?_
  refine ar_putf 5 [.int me, .ref rk, .ref nt, .ref dk, .ref ld, .ref tg, .int 0, .int ne, .int ns] d_142_2 rfl (ci := 7) (k := 6) rfl rfl (hF.at 0 rfl) (Nat.le_of_ble_eq_true rfl) rfl rfl rfl ?_
  replace hF : ax_hs (ax_put h nd (.inr (7, [.int me, .ref rk, .ref nt, .ref dk, .ref ld, .ref tg, .int 0, .int ne, .int ns]))) [(nd, .inr (7, [.int me, .ref rk, .ref nt, .ref dk, .ref ld, .ref tg, .int 0, .int ne, .int ns])), (dk, .inr (8, [.ref da, .ref db, .ref dc, .ref dd, .int 0])), (tg, .inl (0, 280, .inl tf)), (ld, .inr (9, [.int me, .ref rk, .ref nt, .ref tb, .ref wk, .ref ma, .ref sp, .int ep, .int st, .int hd, .int cl, .long ak, .int ni, .int tu, .int md])), (tb, .inr (6, [.int g, .ref a1, .ref a2, .ref a3, .ref a4, .ref a5, .ref a6, .ref a7, .long kn, .int fl, .int an])), (wk, .inr (10, [.ref tb, .ref wa, .ref wb, .int ws, .int wo, .int w5, .int w6, .int w7, .int w8, .int w9, .int w10, .int w11, .int w12, .int w13, .int w14])), (a1, .inl (0, 48, .inl f1)), (a2, .inl (0, 48, .inl f2)), (a5, .inl (0, 512, .inl f5)), (a6, .inl (0, 961, .inl f6)), (a7, .inl (0, 961, .inl f7))] := hF.put 0 _ rfl rfl
  replace hf := hf.put (a := nd) (c := .inr (7, [.int me, .ref rk, .ref nt, .ref dk, .ref ld, .ref tg, .int 0, .int ne, .int ns])) (by simp)
  replace hn : (ax_put h nd (.inr (7, [.int me, .ref rk, .ref nt, .ref dk, .ref ld, .ref tg, .int 0, .int ne, .int ns]))).1 = n := hn
  replace hs : (ax_put h nd (.inr (7, [.int me, .ref rk, .ref nt, .ref dk, .ref ld, .ref tg, .int 0, .int ne, .int ns]))).2.1 = sl := hs
  generalize ax_put h nd (.inr (7, [.int me, .ref rk, .ref nt, .ref dk, .ref ld, .ref tg, .int 0, .int ne, .int ns])) = h1 at hF hf hn hs ⊢
  refine ar_aload_n 6 d_142_5 rfl rfl ?_
  refine ar_getf 9 d_142_6 rfl (ci := 7) (k := 3) rfl (hF.at 0 rfl) rfl ?_
  refine ar_iload_n 10 d_142_9 rfl rfl ?_
  refine ar_iload_n 11 d_142_10 rfl rfl ?_
  refine ar_call (r := []) (na := 0) (kd := 0) (cm := 143) (fr2 := fr - 1) (lo2 := lo - 25) 14 d_142_11 (ar_hoV (as := [.int x, .int y]) rfl rfl rfl (hF.at 1 rfl)) rfl (by omega) (show lo - 25 + (19 + 6) = lo by omega) (Nat.le_of_ble_eq_true rfl) (Nat.le_of_ble_eq_true rfl) (c_143z (hF.sub (F' := [(dk, .inr (8, [.ref da, .ref db, .ref dc, .ref dd, .int 0]))]) [1] rfl rfl)) ?_
  intro v hh hq
  obtain ⟨rfl, rfl⟩ := hq
  replace hF : ax_hs (ax_put h1 dk (.inr (8, [.ref da, .ref db, .ref dc, .ref dd, .int 0]))) [(nd, .inr (7, [.int me, .ref rk, .ref nt, .ref dk, .ref ld, .ref tg, .int 0, .int ne, .int ns])), (dk, .inr (8, [.ref da, .ref db, .ref dc, .ref dd, .int 0])), (tg, .inl (0, 280, .inl tf)), (ld, .inr (9, [.int me, .ref rk, .ref nt, .ref tb, .ref wk, .ref ma, .ref sp, .int ep, .int st, .int hd, .int cl, .long ak, .int ni, .int tu, .int md])), (tb, .inr (6, [.int g, .ref a1, .ref a2, .ref a3, .ref a4, .ref a5, .ref a6, .ref a7, .long kn, .int fl, .int an])), (wk, .inr (10, [.ref tb, .ref wa, .ref wb, .int ws, .int wo, .int w5, .int w6, .int w7, .int w8, .int w9, .int w10, .int w11, .int w12, .int w13, .int w14])), (a1, .inl (0, 48, .inl f1)), (a2, .inl (0, 48, .inl f2)), (a5, .inl (0, 512, .inl f5)), (a6, .inl (0, 961, .inl f6)), (a7, .inl (0, 961, .inl f7))] := hF.put 1 _ rfl rfl
  replace hf := hf.put (a := dk) (c := .inr (8, [.ref da, .ref db, .ref dc, .ref dd, .int 0])) (by simp)
  replace hn : (ax_put h1 dk (.inr (8, [.ref da, .ref db, .ref dc, .ref dd, .int 0]))).1 = n := hn
  replace hs : (ax_put h1 dk (.inr (8, [.ref da, .ref db, .ref dc, .ref dd, .int 0]))).2.1 = sl := hs
  generalize ax_put h1 dk (.inr (8, [.ref da, .ref db, .ref dc, .ref dd, .int 0])) = h2 at hF hf hn hs ⊢
  refine ar_aload_n 15 d_142_14 rfl rfl ?_
  refine ar_getf 18 d_142_15 rfl (ci := 7) (k := 5) rfl (hF.at 0 rfl) rfl ?_
  refine ar_iconst 19 (v := -1) d_142_18 rfl (by decide) ?_
  refine ar_call (r := []) (na := 0) (kd := 0) (cm := 13) (fr2 := fr - 1) (lo2 := lo - 23) 22 d_142_19 (ar_hoS (as := [.ref tg, .int (-1)]) rfl rfl rfl) rfl (by omega) (show lo - 23 + (19 + 4) = lo by omega) (Nat.le_of_ble_eq_true rfl) (Nat.le_of_ble_eq_true rfl) (c_13 (hF.at 2 rfl) (by decide)) ?_
  intro v hh hq
  obtain ⟨rfl, rfl⟩ := hq
  replace hF : ax_hs (ax_put h2 tg (.inl (0, 280, .inl (ax_fill tf 0 280 (-1))))) [(nd, .inr (7, [.int me, .ref rk, .ref nt, .ref dk, .ref ld, .ref tg, .int 0, .int ne, .int ns])), (dk, .inr (8, [.ref da, .ref db, .ref dc, .ref dd, .int 0])), (tg, .inl (0, 280, .inl (ax_fill tf 0 280 (-1)))), (ld, .inr (9, [.int me, .ref rk, .ref nt, .ref tb, .ref wk, .ref ma, .ref sp, .int ep, .int st, .int hd, .int cl, .long ak, .int ni, .int tu, .int md])), (tb, .inr (6, [.int g, .ref a1, .ref a2, .ref a3, .ref a4, .ref a5, .ref a6, .ref a7, .long kn, .int fl, .int an])), (wk, .inr (10, [.ref tb, .ref wa, .ref wb, .int ws, .int wo, .int w5, .int w6, .int w7, .int w8, .int w9, .int w10, .int w11, .int w12, .int w13, .int w14])), (a1, .inl (0, 48, .inl f1)), (a2, .inl (0, 48, .inl f2)), (a5, .inl (0, 512, .inl f5)), (a6, .inl (0, 961, .inl f6)), (a7, .inl (0, 961, .inl f7))] := hF.put 2 _ rfl rfl
  replace hf := hf.put (a := tg) (c := .inl (0, 280, .inl (ax_fill tf 0 280 (-1)))) (by simp)
  replace hn : (ax_put h2 tg (.inl (0, 280, .inl (ax_fill tf 0 280 (-1))))).1 = n := hn
  replace hs : (ax_put h2 tg (.inl (0, 280, .inl (ax_fill tf 0 280 (-1))))).2.1 = sl := hs
  generalize ax_put h2 tg (.inl (0, 280, .inl (ax_fill tf 0 280 (-1)))) = h3 at hF hf hn hs ⊢
  refine ar_aload_n 23 d_142_22 rfl rfl ?_
  refine ar_getf 26 d_142_23 rfl (ci := 7) (k := 4) rfl (hF.at 0 rfl) rfl ?_
  refine ar_call (r := []) (na := 0) (kd := 0) (cm := 33) (fr2 := fr - 1) (lo2 := lo - 20) 29 d_142_26 (ar_hoV (as := []) rfl rfl rfl (hF.at 3 rfl)) rfl (by omega) (show lo - 20 + (19 + 1) = lo by omega) (Nat.le_of_ble_eq_true rfl) (Nat.le_of_ble_eq_true rfl) (c_33 (by omega) (by omega) (hF.sub (F' := [(ld, .inr (9, [.int me, .ref rk, .ref nt, .ref tb, .ref wk, .ref ma, .ref sp, .int ep, .int st, .int hd, .int cl, .long ak, .int ni, .int tu, .int md])), (tb, .inr (6, [.int g, .ref a1, .ref a2, .ref a3, .ref a4, .ref a5, .ref a6, .ref a7, .long kn, .int fl, .int an])), (wk, .inr (10, [.ref tb, .ref wa, .ref wb, .int ws, .int wo, .int w5, .int w6, .int w7, .int w8, .int w9, .int w10, .int w11, .int w12, .int w13, .int w14])), (a1, .inl (0, 48, .inl f1)), (a2, .inl (0, 48, .inl f2)), (a5, .inl (0, 512, .inl f5)), (a6, .inl (0, 961, .inl f6)), (a7, .inl (0, 961, .inl f7))]) [3, 4, 5, 6, 7, 8, 9, 10] rfl rfl) hn hs (by omega)) ?_
  intro v h4 hq
  obtain ⟨rfl, qF, qn, qs, qf⟩ := hq
  have qF : ax_hs h4 [(ld, .inr (9, [.int me, .ref rk, .ref nt, .ref tb, .ref wk, .ref ma, .ref sp, .int ep, .int st, .int 0, .int 0, .long 0, .int 0, .int 0, .int 0])), (tb, .inr (6, [.int g, .ref a1, .ref a2, .ref a3, .ref a4, .ref a5, .ref a6, .ref a7, .long 0, .int 0, .int 0])), (wk, .inr (10, [.ref tb, .ref wa, .ref wb, .int 0, .int (-1), .int w5, .int w6, .int w7, .int w8, .int w9, .int w10, .int w11, .int w12, .int w13, .int w14])), (a1, .inl (0, 48, .inl (ax_fill f1 0 48 (-1)))), (a2, .inl (0, 48, .inl (ax_fill f2 0 48 0))), (a5, .inl (0, 512, .inl (ax_fill f5 0 512 (-1)))), (a6, .inl (0, 961, .inl (ax_fill f6 0 961 (-1)))), (a7, .inl (0, 961, .inl (ax_fill f7 0 961 0)))] := qF
  replace hF : ax_hs h4 [(nd, .inr (7, [.int me, .ref rk, .ref nt, .ref dk, .ref ld, .ref tg, .int 0, .int ne, .int ns])), (dk, .inr (8, [.ref da, .ref db, .ref dc, .ref dd, .int 0])), (tg, .inl (0, 280, .inl (ax_fill tf 0 280 (-1)))), (ld, .inr (9, [.int me, .ref rk, .ref nt, .ref tb, .ref wk, .ref ma, .ref sp, .int ep, .int st, .int 0, .int 0, .long 0, .int 0, .int 0, .int 0])), (tb, .inr (6, [.int g, .ref a1, .ref a2, .ref a3, .ref a4, .ref a5, .ref a6, .ref a7, .long 0, .int 0, .int 0])), (wk, .inr (10, [.ref tb, .ref wa, .ref wb, .int 0, .int (-1), .int w5, .int w6, .int w7, .int w8, .int w9, .int w10, .int w11, .int w12, .int w13, .int w14])), (a1, .inl (0, 48, .inl (ax_fill f1 0 48 (-1)))), (a2, .inl (0, 48, .inl (ax_fill f2 0 48 0))), (a5, .inl (0, 512, .inl (ax_fill f5 0 512 (-1)))), (a6, .inl (0, 961, .inl (ax_fill f6 0 961 (-1)))), (a7, .inl (0, 961, .inl (ax_fill f7 0 961 0)))] := ax_hs.call (rest := [(nd, .inr (7, [.int me, .ref rk, .ref nt, .ref dk, .ref ld, .ref tg, .int 0, .int ne, .int ns])), (dk, .inr (8, [.ref da, .ref db, .ref dc, .ref dd, .int 0])), (tg, .inl (0, 280, .inl (ax_fill tf 0 280 (-1))))]) [3, 4, 5, 6, 7, 8, 9, 10] [0, 1, 2] hF qf qF rfl rfl rfl [3, 4, 5, 6, 7, 8, 9, 10] rfl rfl [3, 4, 5, 6, 7, 8, 9, 10] (news := []) rfl rfl (fun _ z => absurd z List.not_mem_nil) rfl
  replace hf := hf.trC qf (by intro x hx hB; simp at hB; first | (rcases hB with rfl | rfl | rfl | rfl | rfl | rfl | rfl | rfl <;> first | omega | simp) | omega | simp [hB])
  replace hn : h4.1 = n := by omega
  replace hs : h4.2.1 = sl := by omega
  have qf0 := qf
  clear qF qn qs qf
  exact ar_ret d_142_29 rfl (⟨rfl, hF, hn, hs, hf⟩)
theorem f_141n {L : Nat} {xs : Nat → Int32} {fr lo : Nat} {s0 rk nt as na t0 od sn nn nb : Nat} {c0 c1 c2 c3 x y z : Int32} {h : ax_H} (hx : x < 0 ∨ nI nn ≤ x) (hF : ax_hs h [(s0, .inr (0, [.ref rk, .ref nt, .ref as, .ref na, .ref t0, .ref od, .ref sn, .int c0, .int c1, .int c2, .int c3])), (na, .inl (5, nn, .inr (.inr (.inr (.inr (fun j => if j < nn then some (nb + 22 * j) else none))))))]) : ax_M L xs 141 fr lo [.ref s0, .int x, .int y, .int z] h (fun r h' => r = some (.int 0) ∧ h' = h) := by
  show ax_A (ax_step L xs) ((141, 0, fr, lo), [(0, .ref s0), (1, .int x), (2, .int y), (3, .int z)], [], h) _
  refine ar_iload_n 1 d_141_0 rfl rfl ?_
  refine ar_if_lt 25 4 d_141_1 (by decide) rfl (fun c1 => ?_) (fun c1 => ?_)
  · refine ar_iconst 26 (v := 0) d_141_25 rfl (by decide) ?_
    exact ar_iret d_141_26 rfl rfl (⟨rfl, rfl⟩)
  · refine ar_iload_n 5 d_141_4 rfl rfl ?_
    refine ar_aload_n 6 d_141_5 rfl rfl ?_
    refine ar_getf 9 d_141_6 rfl (ci := 0) (k := 3) rfl (hF.at 0 rfl) rfl ?_
    refine ar_alen 10 d_141_9 rfl (hF.at 1 rfl) (by decide) ?_
    refine ar_icmp_ge 25 13 d_141_10 (by decide) rfl (fun _ => ?_) (fun c => absurd (hx.resolve_left c1) c)
    refine ar_iconst 26 (v := 0) d_141_25 rfl (by decide) ?_
    exact ar_iret d_141_26 rfl rfl (⟨rfl, rfl⟩)
theorem f_141y {L : Nat} {xs : Nat → Int32} {fr lo : Nat} {s0 as na t0 od sn nn nb j : Nat} {c0 c1 c2 c3 : Int32} {dk tg da db dc dd : Nat} {ld rk nt tb wk ma sp wa wb a1 a2 a3 a4 a5 a6 a7 : Nat} {me ep st hd cl ni tu md g fl an ws wo w5 w6 w7 w8 w9 w10 w11 w12 w13 w14 : Int32} {ak kn : Int64} {f1 f2 f5 f6 f7 : Nat → Int32} {up ne ns y z : Int32} {tf : Nat → Int32} {h : ax_H} {n sl : Nat} (hfr : 4 ≤ fr) (hlo : 120 ≤ lo) (hnn : nn ≤ 6) (hj : j < nn) (hF : ax_hs h [(s0, .inr (0, [.ref rk, .ref nt, .ref as, .ref na, .ref t0, .ref od, .ref sn, .int c0, .int c1, .int c2, .int c3])), (na, .inl (5, nn, .inr (.inr (.inr (.inr (fun j => if j < nn then some (nb + 22 * j) else none)))))), (nb + 22 * j, .inr (7, [.int me, .ref rk, .ref nt, .ref dk, .ref ld, .ref tg, .int 1, .int ne, .int ns])), (dk, .inr (8, [.ref da, .ref db, .ref dc, .ref dd, .int 0])), (tg, .inl (0, 280, .inl tf)), (ld, .inr (9, [.int me, .ref rk, .ref nt, .ref tb, .ref wk, .ref ma, .ref sp, .int ep, .int st, .int hd, .int cl, .long ak, .int ni, .int tu, .int md])), (tb, .inr (6, [.int g, .ref a1, .ref a2, .ref a3, .ref a4, .ref a5, .ref a6, .ref a7, .long kn, .int fl, .int an])), (wk, .inr (10, [.ref tb, .ref wa, .ref wb, .int ws, .int wo, .int w5, .int w6, .int w7, .int w8, .int w9, .int w10, .int w11, .int w12, .int w13, .int w14])), (a1, .inl (0, 48, .inl f1)), (a2, .inl (0, 48, .inl f2)), (a5, .inl (0, 512, .inl f5)), (a6, .inl (0, 961, .inl f6)), (a7, .inl (0, 961, .inl f7))]) (hn : h.1 = n) (hs : h.2.1 = sl) (hn0 : 0 < n) : ax_M L xs 141 fr lo [.ref s0, .int (nI j), .int y, .int z] h (fun r h' => r = some (.int 1) ∧ ax_fr (fun x => x ∈ [s0, nb + 22 * j, dk, tg, ld, tb, wk, a1, a2, a5, a6, a7]) h h' ∧ h'.1 = n ∧ h'.2.1 = sl) := by
  show ax_A (ax_step L xs) ((141, 0, fr, lo), [(0, .ref s0), (1, .int (nI j)), (2, .int y), (3, .int z)], [], h) _
  have hbase : h.1 = n := hn
  have hbasl : h.2.1 = sl := hs
  have hf : ax_fr (fun x => x ∈ [s0]) h h := ax_fr.rf
  refine ar_iload_n 1 d_141_0 rfl rfl ?_
  refine ar_if_lt 25 4 d_141_1 (by decide) rfl (fun c => absurd c (Int32.not_lt.mpr (nI_le (Nat.zero_le j) (by omega)))) (fun _ => ?_)
  refine ar_iload_n 5 d_141_4 rfl rfl ?_
  refine ar_aload_n 6 d_141_5 rfl rfl ?_
  refine ar_getf 9 d_141_6 rfl (ci := 0) (k := 3) rfl (hF.at 0 rfl) rfl ?_
  refine ar_alen 10 d_141_9 rfl (hF.at 1 rfl) (by decide) ?_
  refine ar_icmp_ge 25 13 d_141_10 (by decide) rfl (fun c => absurd c (nI_ge hj (by omega))) (fun _ => ?_)
  refine ar_aload_n 14 d_141_13 rfl rfl ?_
  refine ar_getf 17 d_141_14 rfl (ci := 0) (k := 3) rfl (hF.at 0 rfl) rfl ?_
  refine ar_iload_n 18 d_141_17 rfl rfl ?_
  refine ar_aald 19 d_141_18 rfl (hF.at 1 rfl) rfl (nI_in hj (by omega)) ?_
  refine ar_tv (v' := .ref (nb + 22 * j)) (by rw [nI_clamp (by omega), if_pos hj]; rfl) ?_
  refine ar_getf 22 d_141_19 rfl (ci := 7) (k := 6) rfl (hF.at 2 rfl) rfl ?_
  refine ar_if_ne 27 25 d_141_22 (by decide) rfl (fun _ => ?_) (fun c => absurd (by decide) c)
  refine ar_aload_n 28 d_141_27 rfl rfl ?_
  refine ar_iconst 29 (v := 0) d_141_28 rfl (by decide) ?_
  refine ar_putf 32 [.ref rk, .ref nt, .ref as, .ref na, .ref t0, .ref od, .ref sn, .int c0, .int c1, .int c2, .int 0] d_141_29 rfl (ci := 0) (k := 10) rfl rfl (hF.at 0 rfl) (Nat.le_of_ble_eq_true rfl) rfl rfl rfl ?_
  replace hF : ax_hs (ax_put h s0 (.inr (0, [.ref rk, .ref nt, .ref as, .ref na, .ref t0, .ref od, .ref sn, .int c0, .int c1, .int c2, .int 0]))) [(s0, .inr (0, [.ref rk, .ref nt, .ref as, .ref na, .ref t0, .ref od, .ref sn, .int c0, .int c1, .int c2, .int 0])), (na, .inl (5, nn, .inr (.inr (.inr (.inr (fun j => if j < nn then some (nb + 22 * j) else none)))))), (nb + 22 * j, .inr (7, [.int me, .ref rk, .ref nt, .ref dk, .ref ld, .ref tg, .int 1, .int ne, .int ns])), (dk, .inr (8, [.ref da, .ref db, .ref dc, .ref dd, .int 0])), (tg, .inl (0, 280, .inl tf)), (ld, .inr (9, [.int me, .ref rk, .ref nt, .ref tb, .ref wk, .ref ma, .ref sp, .int ep, .int st, .int hd, .int cl, .long ak, .int ni, .int tu, .int md])), (tb, .inr (6, [.int g, .ref a1, .ref a2, .ref a3, .ref a4, .ref a5, .ref a6, .ref a7, .long kn, .int fl, .int an])), (wk, .inr (10, [.ref tb, .ref wa, .ref wb, .int ws, .int wo, .int w5, .int w6, .int w7, .int w8, .int w9, .int w10, .int w11, .int w12, .int w13, .int w14])), (a1, .inl (0, 48, .inl f1)), (a2, .inl (0, 48, .inl f2)), (a5, .inl (0, 512, .inl f5)), (a6, .inl (0, 961, .inl f6)), (a7, .inl (0, 961, .inl f7))] := hF.put 0 _ rfl rfl
  replace hf := hf.put (a := s0) (c := .inr (0, [.ref rk, .ref nt, .ref as, .ref na, .ref t0, .ref od, .ref sn, .int c0, .int c1, .int c2, .int 0])) (by simp)
  replace hn : (ax_put h s0 (.inr (0, [.ref rk, .ref nt, .ref as, .ref na, .ref t0, .ref od, .ref sn, .int c0, .int c1, .int c2, .int 0]))).1 = n := hn
  replace hs : (ax_put h s0 (.inr (0, [.ref rk, .ref nt, .ref as, .ref na, .ref t0, .ref od, .ref sn, .int c0, .int c1, .int c2, .int 0]))).2.1 = sl := hs
  generalize ax_put h s0 (.inr (0, [.ref rk, .ref nt, .ref as, .ref na, .ref t0, .ref od, .ref sn, .int c0, .int c1, .int c2, .int 0])) = h1 at hF hf hn hs ⊢
  refine ar_aload_n 33 d_141_32 rfl rfl ?_
  refine ar_getf 36 d_141_33 rfl (ci := 0) (k := 3) rfl (hF.at 0 rfl) rfl ?_
  refine ar_iload_n 37 d_141_36 rfl rfl ?_
  refine ar_aald 38 d_141_37 rfl (hF.at 1 rfl) rfl (nI_in hj (by omega)) ?_
  refine ar_tv (v' := .ref (nb + 22 * j)) (by rw [nI_clamp (by omega), if_pos hj]; rfl) ?_
  refine ar_iload_n 39 d_141_38 rfl rfl ?_
  refine ar_iload_n 40 d_141_39 rfl rfl ?_
  refine ar_call (r := []) (na := 0) (kd := 0) (cm := 142) (fr2 := fr - 1) (lo2 := lo - 22) 43 d_141_40 (ar_hoV (as := [.int y, .int z]) rfl rfl rfl (hF.at 2 rfl)) rfl (by omega) (show lo - 22 + (19 + 3) = lo by omega) (Nat.le_of_ble_eq_true rfl) (Nat.le_of_ble_eq_true rfl) (c_142 (by omega) (by omega) (hF.sub (F' := [(nb + 22 * j, .inr (7, [.int me, .ref rk, .ref nt, .ref dk, .ref ld, .ref tg, .int 1, .int ne, .int ns])), (dk, .inr (8, [.ref da, .ref db, .ref dc, .ref dd, .int 0])), (tg, .inl (0, 280, .inl tf)), (ld, .inr (9, [.int me, .ref rk, .ref nt, .ref tb, .ref wk, .ref ma, .ref sp, .int ep, .int st, .int hd, .int cl, .long ak, .int ni, .int tu, .int md])), (tb, .inr (6, [.int g, .ref a1, .ref a2, .ref a3, .ref a4, .ref a5, .ref a6, .ref a7, .long kn, .int fl, .int an])), (wk, .inr (10, [.ref tb, .ref wa, .ref wb, .int ws, .int wo, .int w5, .int w6, .int w7, .int w8, .int w9, .int w10, .int w11, .int w12, .int w13, .int w14])), (a1, .inl (0, 48, .inl f1)), (a2, .inl (0, 48, .inl f2)), (a5, .inl (0, 512, .inl f5)), (a6, .inl (0, 961, .inl f6)), (a7, .inl (0, 961, .inl f7))]) [2, 3, 4, 5, 6, 7, 8, 9, 10, 11, 12] rfl rfl) hn hs (by omega)) ?_
  intro v h9 hq
  obtain ⟨rfl, qF, qn, qs, qf⟩ := hq
  refine ar_iconst 44 (v := 1) d_141_43 rfl (by decide) ?_
  exact ar_iret d_141_44 rfl rfl (⟨rfl, (hf.mono (fun x hx => by simp at hx; subst hx; simp)).tr (qf.mono (fun x hx => List.mem_cons_of_mem _ hx)), qn, qs⟩)

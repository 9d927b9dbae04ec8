/-! NODES, exactly: give -/
theorem d_58_0 : decode (axt_b 58) 0 = .ok (.aload_n 0, 1) := by decide +kernel
theorem d_58_1 : decode (axt_b 58) 1 = .ok (.iload_n 2, 1) := by decide +kernel
theorem d_58_2 : decode (axt_b 58) 2 = .ok (.invokevirtual 74, 3) := by decide +kernel
theorem d_58_5 : decode (axt_b 58) 5 = .ok (.istore 5, 2) := by decide +kernel
theorem d_58_7 : decode (axt_b 58) 7 = .ok (.iload 5, 2) := by decide +kernel
theorem d_58_9 : decode (axt_b 58) 9 = .ok (.ifCond .lt 15, 3) := by decide +kernel
theorem d_58_12 : decode (axt_b 58) 12 = .ok (.aload_n 0, 1) := by decide +kernel
theorem d_58_13 : decode (axt_b 58) 13 = .ok (.getfield 12, 3) := by decide +kernel
theorem d_58_16 : decode (axt_b 58) 16 = .ok (.iload 5, 2) := by decide +kernel
theorem d_58_18 : decode (axt_b 58) 18 = .ok (.invokevirtual 157, 3) := by decide +kernel
theorem d_58_21 : decode (axt_b 58) 21 = .ok (.ifCond .eq 31, 3) := by decide +kernel
theorem d_58_24 : decode (axt_b 58) 24 = .ok (.aload_n 0, 1) := by decide +kernel
theorem d_58_25 : decode (axt_b 58) 25 = .ok (.getfield 30, 3) := by decide +kernel
theorem d_58_28 : decode (axt_b 58) 28 = .ok (.bipush 8, 2) := by decide +kernel
theorem d_58_30 : decode (axt_b 58) 30 = .ok (.aload_n 0, 1) := by decide +kernel
theorem d_58_31 : decode (axt_b 58) 31 = .ok (.getfield 22, 3) := by decide +kernel
theorem d_58_34 : decode (axt_b 58) 34 = .ok (.iload 4, 2) := by decide +kernel
theorem d_58_36 : decode (axt_b 58) 36 = .ok (.aload_n 0, 1) := by decide +kernel
theorem d_58_37 : decode (axt_b 58) 37 = .ok (.getfield 88, 3) := by decide +kernel
theorem d_58_40 : decode (axt_b 58) 40 = .ok (.aload_n 0, 1) := by decide +kernel
theorem d_58_41 : decode (axt_b 58) 41 = .ok (.getfield 91, 3) := by decide +kernel
theorem d_58_44 : decode (axt_b 58) 44 = .ok (.invokevirtual 125, 3) := by decide +kernel
theorem d_58_47 : decode (axt_b 58) 47 = .ok (.iload_n 2, 1) := by decide +kernel
theorem d_58_48 : decode (axt_b 58) 48 = .ok (.putfield 137, 3) := by decide +kernel
theorem d_58_51 : decode (axt_b 58) 51 = .ok (.return_, 1) := by decide +kernel
theorem d_58_52 : decode (axt_b 58) 52 = .ok (.aload_n 0, 1) := by decide +kernel
theorem d_58_53 : decode (axt_b 58) 53 = .ok (.getfield 30, 3) := by decide +kernel
theorem d_58_56 : decode (axt_b 58) 56 = .ok (.iload_n 1, 1) := by decide +kernel
theorem d_58_57 : decode (axt_b 58) 57 = .ok (.aload_n 0, 1) := by decide +kernel
theorem d_58_58 : decode (axt_b 58) 58 = .ok (.getfield 22, 3) := by decide +kernel
theorem d_58_61 : decode (axt_b 58) 61 = .ok (.iload_n 3, 1) := by decide +kernel
theorem d_58_62 : decode (axt_b 58) 62 = .ok (.aload_n 0, 1) := by decide +kernel
theorem d_58_63 : decode (axt_b 58) 63 = .ok (.getfield 88, 3) := by decide +kernel
theorem d_58_66 : decode (axt_b 58) 66 = .ok (.aload_n 0, 1) := by decide +kernel
theorem d_58_67 : decode (axt_b 58) 67 = .ok (.getfield 91, 3) := by decide +kernel
theorem d_58_70 : decode (axt_b 58) 70 = .ok (.invokevirtual 125, 3) := by decide +kernel
theorem d_58_73 : decode (axt_b 58) 73 = .ok (.astore 6, 2) := by decide +kernel
theorem d_58_75 : decode (axt_b 58) 75 = .ok (.aload 6, 2) := by decide +kernel
theorem d_58_77 : decode (axt_b 58) 77 = .ok (.iload_n 2, 1) := by decide +kernel
theorem d_58_78 : decode (axt_b 58) 78 = .ok (.putfield 137, 3) := by decide +kernel
theorem d_58_81 : decode (axt_b 58) 81 = .ok (.aload_n 0, 1) := by decide +kernel
theorem d_58_82 : decode (axt_b 58) 82 = .ok (.getfield 12, 3) := by decide +kernel
theorem d_58_85 : decode (axt_b 58) 85 = .ok (.getfield 167, 3) := by decide +kernel
theorem d_58_88 : decode (axt_b 58) 88 = .ok (.iload 5, 2) := by decide +kernel
theorem d_58_90 : decode (axt_b 58) 90 = .ok (.sipush 128, 3) := by decide +kernel
theorem d_58_93 : decode (axt_b 58) 93 = .ok (.imul, 1) := by decide +kernel
theorem d_58_94 : decode (axt_b 58) 94 = .ok (.aload 6, 2) := by decide +kernel
theorem d_58_96 : decode (axt_b 58) 96 = .ok (.getfield 160, 3) := by decide +kernel
theorem d_58_99 : decode (axt_b 58) 99 = .ok (.iconst 0, 1) := by decide +kernel
theorem d_58_100 : decode (axt_b 58) 100 = .ok (.sipush 128, 3) := by decide +kernel
theorem d_58_103 : decode (axt_b 58) 103 = .ok (.invokestatic 170, 3) := by decide +kernel
theorem d_58_106 : decode (axt_b 58) 106 = .ok (.return_, 1) := by decide +kernel
theorem d_59_0 : decode (axt_b 59) 0 = .ok (.aload_n 0, 1) := by decide +kernel
theorem d_59_1 : decode (axt_b 59) 1 = .ok (.aload_n 1, 1) := by decide +kernel
theorem d_59_2 : decode (axt_b 59) 2 = .ok (.getfield 137, 3) := by decide +kernel
theorem d_59_5 : decode (axt_b 59) 5 = .ok (.invokevirtual 74, 3) := by decide +kernel
theorem d_59_8 : decode (axt_b 59) 8 = .ok (.istore_n 2, 1) := by decide +kernel
theorem d_59_9 : decode (axt_b 59) 9 = .ok (.iload_n 2, 1) := by decide +kernel
theorem d_59_10 : decode (axt_b 59) 10 = .ok (.ifCond .ge 51, 3) := by decide +kernel
theorem d_59_13 : decode (axt_b 59) 13 = .ok (.aload_n 0, 1) := by decide +kernel
theorem d_59_14 : decode (axt_b 59) 14 = .ok (.getfield 12, 3) := by decide +kernel
theorem d_59_17 : decode (axt_b 59) 17 = .ok (.invokevirtual 77, 3) := by decide +kernel
theorem d_59_20 : decode (axt_b 59) 20 = .ok (.ifCond .eq 7, 3) := by decide +kernel
theorem d_59_23 : decode (axt_b 59) 23 = .ok (.aload_n 0, 1) := by decide +kernel
theorem d_59_24 : decode (axt_b 59) 24 = .ok (.invokevirtual 106, 3) := by decide +kernel
theorem d_59_27 : decode (axt_b 59) 27 = .ok (.aload_n 0, 1) := by decide +kernel
theorem d_59_28 : decode (axt_b 59) 28 = .ok (.invokevirtual 176, 3) := by decide +kernel
theorem d_59_31 : decode (axt_b 59) 31 = .ok (.istore_n 2, 1) := by decide +kernel
theorem d_59_32 : decode (axt_b 59) 32 = .ok (.iload_n 2, 1) := by decide +kernel
theorem d_59_33 : decode (axt_b 59) 33 = .ok (.ifCond .lt 89, 3) := by decide +kernel
theorem d_59_36 : decode (axt_b 59) 36 = .ok (.aload_n 0, 1) := by decide +kernel
theorem d_59_37 : decode (axt_b 59) 37 = .ok (.getfield 12, 3) := by decide +kernel
theorem d_59_40 : decode (axt_b 59) 40 = .ok (.iload_n 2, 1) := by decide +kernel
theorem d_59_41 : decode (axt_b 59) 41 = .ok (.aload_n 1, 1) := by decide +kernel
theorem d_59_42 : decode (axt_b 59) 42 = .ok (.getfield 160, 3) := by decide +kernel
theorem d_59_45 : decode (axt_b 59) 45 = .ok (.invokevirtual 180, 3) := by decide +kernel
theorem d_59_48 : decode (axt_b 59) 48 = .ok (.aload_n 0, 1) := by decide +kernel
theorem d_59_49 : decode (axt_b 59) 49 = .ok (.getfield 18, 3) := by decide +kernel
theorem d_59_52 : decode (axt_b 59) 52 = .ok (.iload_n 2, 1) := by decide +kernel
theorem d_59_53 : decode (axt_b 59) 53 = .ok (.aload_n 1, 1) := by decide +kernel
theorem d_59_54 : decode (axt_b 59) 54 = .ok (.getfield 137, 3) := by decide +kernel
theorem d_59_57 : decode (axt_b 59) 57 = .ok (.iastore, 1) := by decide +kernel
theorem d_59_58 : decode (axt_b 59) 58 = .ok (.goto 64, 3) := by decide +kernel
theorem d_59_61 : decode (axt_b 59) 61 = .ok (.aload_n 0, 1) := by decide +kernel
theorem d_59_62 : decode (axt_b 59) 62 = .ok (.getfield 12, 3) := by decide +kernel
theorem d_59_65 : decode (axt_b 59) 65 = .ok (.iload_n 2, 1) := by decide +kernel
theorem d_59_66 : decode (axt_b 59) 66 = .ok (.invokevirtual 157, 3) := by decide +kernel
theorem d_59_69 : decode (axt_b 59) 69 = .ok (.ifCond .ne 53, 3) := by decide +kernel
theorem d_59_72 : decode (axt_b 59) 72 = .ok (.aload_n 0, 1) := by decide +kernel
theorem d_59_73 : decode (axt_b 59) 73 = .ok (.getfield 30, 3) := by decide +kernel
theorem d_59_76 : decode (axt_b 59) 76 = .ok (.bipush 11, 2) := by decide +kernel
theorem d_59_78 : decode (axt_b 59) 78 = .ok (.aload_n 0, 1) := by decide +kernel
theorem d_59_79 : decode (axt_b 59) 79 = .ok (.getfield 22, 3) := by decide +kernel
theorem d_59_82 : decode (axt_b 59) 82 = .ok (.aload_n 0, 1) := by decide +kernel
theorem d_59_83 : decode (axt_b 59) 83 = .ok (.getfield 26, 3) := by decide +kernel
theorem d_59_86 : decode (axt_b 59) 86 = .ok (.iconst 0, 1) := by decide +kernel
theorem d_59_87 : decode (axt_b 59) 87 = .ok (.iconst 0, 1) := by decide +kernel
theorem d_59_88 : decode (axt_b 59) 88 = .ok (.aload_n 0, 1) := by decide +kernel
theorem d_59_89 : decode (axt_b 59) 89 = .ok (.getfield 91, 3) := by decide +kernel
theorem d_59_92 : decode (axt_b 59) 92 = .ok (.invokevirtual 100, 3) := by decide +kernel
theorem d_59_95 : decode (axt_b 59) 95 = .ok (.aload_n 0, 1) := by decide +kernel
theorem d_59_96 : decode (axt_b 59) 96 = .ok (.getfield 88, 3) := by decide +kernel
theorem d_59_99 : decode (axt_b 59) 99 = .ok (.aload_n 0, 1) := by decide +kernel
theorem d_59_100 : decode (axt_b 59) 100 = .ok (.getfield 91, 3) := by decide +kernel
theorem d_59_103 : decode (axt_b 59) 103 = .ok (.invokevirtual 125, 3) := by decide +kernel
theorem d_59_106 : decode (axt_b 59) 106 = .ok (.astore_n 3, 1) := by decide +kernel
theorem d_59_107 : decode (axt_b 59) 107 = .ok (.aload_n 3, 1) := by decide +kernel
theorem d_59_108 : decode (axt_b 59) 108 = .ok (.getfield 160, 3) := by decide +kernel
theorem d_59_111 : decode (axt_b 59) 111 = .ok (.iconst 0, 1) := by decide +kernel
theorem d_59_112 : decode (axt_b 59) 112 = .ok (.aload_n 1, 1) := by decide +kernel
theorem d_59_113 : decode (axt_b 59) 113 = .ok (.getfield 137, 3) := by decide +kernel
theorem d_59_116 : decode (axt_b 59) 116 = .ok (.iastore, 1) := by decide +kernel
theorem d_59_117 : decode (axt_b 59) 117 = .ok (.aload_n 3, 1) := by decide +kernel
theorem d_59_118 : decode (axt_b 59) 118 = .ok (.iconst 1, 1) := by decide +kernel
theorem d_59_119 : decode (axt_b 59) 119 = .ok (.putfield 163, 3) := by decide +kernel
theorem d_59_122 : decode (axt_b 59) 122 = .ok (.return_, 1) := by decide +kernel
theorem d_66_0 : decode (axt_b 66) 0 = .ok (.iconst 0, 1) := by decide +kernel
theorem d_66_1 : decode (axt_b 66) 1 = .ok (.istore_n 2, 1) := by decide +kernel
theorem d_66_2 : decode (axt_b 66) 2 = .ok (.iload_n 2, 1) := by decide +kernel
theorem d_66_3 : decode (axt_b 66) 3 = .ok (.aload_n 1, 1) := by decide +kernel
theorem d_66_4 : decode (axt_b 66) 4 = .ok (.getfield 163, 3) := by decide +kernel
theorem d_66_7 : decode (axt_b 66) 7 = .ok (.if_icmp .ge 53, 3) := by decide +kernel
theorem d_66_10 : decode (axt_b 66) 10 = .ok (.aload_n 0, 1) := by decide +kernel
theorem d_66_11 : decode (axt_b 66) 11 = .ok (.aload_n 1, 1) := by decide +kernel
theorem d_66_12 : decode (axt_b 66) 12 = .ok (.getfield 160, 3) := by decide +kernel
theorem d_66_15 : decode (axt_b 66) 15 = .ok (.iload_n 2, 1) := by decide +kernel
theorem d_66_16 : decode (axt_b 66) 16 = .ok (.iaload, 1) := by decide +kernel
theorem d_66_17 : decode (axt_b 66) 17 = .ok (.invokevirtual 74, 3) := by decide +kernel
theorem d_66_20 : decode (axt_b 66) 20 = .ok (.istore_n 3, 1) := by decide +kernel
theorem d_66_21 : decode (axt_b 66) 21 = .ok (.iload_n 3, 1) := by decide +kernel
theorem d_66_22 : decode (axt_b 66) 22 = .ok (.ifCond .lt 32, 3) := by decide +kernel
theorem d_66_25 : decode (axt_b 66) 25 = .ok (.aload_n 0, 1) := by decide +kernel
theorem d_66_26 : decode (axt_b 66) 26 = .ok (.getfield 12, 3) := by decide +kernel
theorem d_66_29 : decode (axt_b 66) 29 = .ok (.invokevirtual 77, 3) := by decide +kernel
theorem d_66_32 : decode (axt_b 66) 32 = .ok (.ifCond .eq 7, 3) := by decide +kernel
theorem d_66_35 : decode (axt_b 66) 35 = .ok (.aload_n 0, 1) := by decide +kernel
theorem d_66_36 : decode (axt_b 66) 36 = .ok (.invokevirtual 106, 3) := by decide +kernel
theorem d_66_39 : decode (axt_b 66) 39 = .ok (.aload_n 0, 1) := by decide +kernel
theorem d_66_40 : decode (axt_b 66) 40 = .ok (.getfield 12, 3) := by decide +kernel
theorem d_66_43 : decode (axt_b 66) 43 = .ok (.iload_n 3, 1) := by decide +kernel
theorem d_66_44 : decode (axt_b 66) 44 = .ok (.invokevirtual 84, 3) := by decide +kernel
theorem d_66_47 : decode (axt_b 66) 47 = .ok (.aload_n 0, 1) := by decide +kernel
theorem d_66_48 : decode (axt_b 66) 48 = .ok (.getfield 18, 3) := by decide +kernel
theorem d_66_51 : decode (axt_b 66) 51 = .ok (.iload_n 3, 1) := by decide +kernel
theorem d_66_52 : decode (axt_b 66) 52 = .ok (.iconst (-1), 1) := by decide +kernel
theorem d_66_53 : decode (axt_b 66) 53 = .ok (.iastore, 1) := by decide +kernel
theorem d_66_54 : decode (axt_b 66) 54 = .ok (.iinc 2 1, 3) := by decide +kernel
theorem d_66_57 : decode (axt_b 66) 57 = .ok (.goto (-55), 3) := by decide +kernel
theorem d_66_60 : decode (axt_b 66) 60 = .ok (.return_, 1) := by decide +kernel
theorem c_58L {L : Nat} {xs : Nat → Int32} {fr lo : Nat} {h : ax_H} {nd rk nt w dk ld tg da db dc dd q : Nat} {me up ne ns dn : Int32} {u b : Nat → Int32} {ids : List Nat} {ms : List Mg} {tf ow ff : Nat → Int32} {kd t tt ask : Int32} (hfr : 1 ≤ fr) (hlo : 40 ≤ lo) (hA_nd : ¬ NTA nt w nd) (hA_dk : ¬ NTA nt w dk) (hA_tg : ¬ NTA nt w tg) (hA_dd : ¬ NTA nt w dd) (hA_da : ¬ NTA nt w da) (hsl : fst1 (fun i => decide (tf i = t)) 280 0 = -1 ∨ ∃ j, j < 280 ∧ fst1 (fun i => decide (tf i = t)) 280 0 = nI j ∧ ¬ ow j < 0) (hN : NTL h nt w ids ms q u b) (hF : ax_hs h [(nd, .inr (7, [.int me, .ref rk, .ref nt, .ref dk, .ref ld, .ref tg, .int up, .int ne, .int ns])), (dk, .inr (8, [.ref da, .ref db, .ref dc, .ref dd, .int dn])), (tg, .inl (0, 280, .inl tf)), (dd, .inl (0, 280, .inl ow)), (da, .inl (0, 35840, .inl ff))]) : ax_M L xs 58 fr lo [.ref nd, .int kd, .int t, .int tt, .int ask] h (fun r h' => ∃ (ids' : List Nat) (bm : Nat → Int32), r = none ∧ NTL h' nt w ids' (pst ms (va_up (mg 8 me ask ne ns) 5 t, bm)) q u b ∧ ax_fr (NTA nt w) h h' ∧ h'.1 = h.1 ∧ h'.2.1 = h.2.1) := by
  show ax_A (ax_step L xs) ((58, 0, fr, lo), [(0, .ref nd), (1, .int kd), (2, .int t), (3, .int tt), (4, .int ask)], [], h) _
  obtain ⟨za, zc, hnet⟩ := hN.net
  refine ar_aload_n 1 d_58_0 rfl rfl ?_
  refine ar_iload_n 2 d_58_1 rfl rfl ?_
  refine ar_call (r := []) (na := 0) (kd := 0) (cm := 22) (fr2 := fr - 1) (lo2 := lo - 22) 5 d_58_2 (ar_hoV (as := [.int t]) rfl rfl rfl (hF.at 0 rfl)) rfl (by omega) (show lo - 22 + (19 + 3) = lo by omega) (Nat.le_of_ble_eq_true rfl) (Nat.le_of_ble_eq_true rfl) (c_22 (hF.sub (F' := [(nd, .inr (7, [.int me, .ref rk, .ref nt, .ref dk, .ref ld, .ref tg, .int up, .int ne, .int ns])), (tg, .inl (0, 280, .inl tf))]) [0, 2] rfl rfl)) ?_
  intro v hh hq
  obtain ⟨rfl, ehh⟩ := hq
  rw [ehh]
  clear ehh
  refine ar_istore 7 [(0, .ref nd), (1, .int kd), (2, .int t), (3, .int tt), (4, .int ask), (5, .int (fst1 (fun i => decide (tf i = t)) 280 0))] d_58_5 rfl (by decide) rfl ?_
  refine ar_iload 9 d_58_7 rfl rfl ?_
  refine ar_if_lt 24 12 d_58_9 (by decide) rfl (fun c1 => ?_) (fun c1 => ?_)
  · refine ar_aload_n 25 d_58_24 rfl rfl ?_
    refine ar_getf 28 d_58_25 rfl (ci := 7) (k := 2) rfl (hF.at 0 rfl) rfl ?_
    refine ar_bipush 30 (v := 8) d_58_28 rfl (by decide) ?_
    refine ar_aload_n 31 d_58_30 rfl rfl ?_
    refine ar_getf 34 d_58_31 rfl (ci := 7) (k := 0) rfl (hF.at 0 rfl) rfl ?_
    refine ar_iload 36 d_58_34 rfl rfl ?_
    refine ar_aload_n 37 d_58_36 rfl rfl ?_
    refine ar_getf 40 d_58_37 rfl (ci := 7) (k := 7) rfl (hF.at 0 rfl) rfl ?_
    refine ar_aload_n 41 d_58_40 rfl rfl ?_
    refine ar_getf 44 d_58_41 rfl (ci := 7) (k := 8) rfl (hF.at 0 rfl) rfl ?_
    refine ar_call (r := []) (na := 0) (kd := 0) (cm := 36) (fr2 := fr - 1) (lo2 := lo - 26) 47 d_58_44 (ar_hoV (as := [.int 8, .int me, .int ask, .int ne, .int ns]) rfl rfl rfl hnet) rfl (by omega) (show lo - 26 + (19 + 7) = lo by omega) (Nat.le_of_ble_eq_true rfl) (Nat.le_of_ble_eq_true rfl) (c_36H hN) ?_
    intro v h2 hq
    obtain ⟨m, bm, ids2, hm, rfl, hmq, hmm, hed, hf2, hz1, hz2⟩ := hq
    have hNm : NTA nt w (w + 1 + 2 * m) := Or.inr (by omega)
    have hNm1 : NTA nt w (w + 1 + 2 * m + 1) := Or.inr (by omega)
    have hF2 : ax_hs h2 [(nd, .inr (7, [.int me, .ref rk, .ref nt, .ref dk, .ref ld, .ref tg, .int up, .int ne, .int ns])), (dk, .inr (8, [.ref da, .ref db, .ref dc, .ref dd, .int dn])), (tg, .inl (0, 280, .inl tf)), (dd, .inl (0, 280, .inl ow)), (da, .inl (0, 35840, .inl ff))] := hF.fr hf2 (by intro x hx; simp only [List.mem_cons, List.not_mem_nil, or_false] at hx; rcases hx with rfl | rfl | rfl | rfl | rfl <;> assumption)
    have hF3 : ax_hs h2 [(w + 1 + 2 * m + 1, .inl (0, 617, .inl bm)), (nd, .inr (7, [.int me, .ref rk, .ref nt, .ref dk, .ref ld, .ref tg, .int up, .int ne, .int ns])), (dk, .inr (8, [.ref da, .ref db, .ref dc, .ref dd, .int dn])), (tg, .inl (0, 280, .inl tf)), (dd, .inl (0, 280, .inl ow)), (da, .inl (0, 35840, .inl ff))] := ax_hs.consN (nt := nt) (w := w) hmm.2 hF2 hNm1 (by intro x hx; simp only [List.mem_cons, List.not_mem_nil, or_false] at hx; rcases hx with rfl | rfl | rfl | rfl | rfl <;> assumption)
    replace hF3 : ax_hs h2 [(w + 1 + 2 * m, .inr (2, [.int 8, .int me, .int ask, .int ne, .int ns, .int (-1), .int 0, .int 0, .ref (w + 1 + 2 * m + 1)])), (w + 1 + 2 * m + 1, .inl (0, 617, .inl bm)), (nd, .inr (7, [.int me, .ref rk, .ref nt, .ref dk, .ref ld, .ref tg, .int up, .int ne, .int ns])), (dk, .inr (8, [.ref da, .ref db, .ref dc, .ref dd, .int dn])), (tg, .inl (0, 280, .inl tf)), (dd, .inl (0, 280, .inl ow)), (da, .inl (0, 35840, .inl ff))] := ax_hs.cons (show ax_g h2 (w + 1 + 2 * m) = some (.inr (2, [.int 8, .int me, .int ask, .int ne, .int ns, .int (-1), .int 0, .int 0, .ref (w + 1 + 2 * m + 1)])) from hmm.1) hF3 (by intro x hx e; simp only [List.mem_cons, List.not_mem_nil, or_false] at hx; rcases hx with rfl | rfl | rfl | rfl | rfl | rfl; exact absurd e (by dsimp only; omega); all_goals exact absurd (e ▸ hNm) (by assumption))
    refine ar_iload_n 48 d_58_47 rfl rfl ?_
    refine ar_putf 51 [.int 8, .int me, .int ask, .int ne, .int ns, .int t, .int 0, .int 0, .ref (w + 1 + 2 * m + 1)] d_58_48 rfl (ci := 2) (k := 5) rfl rfl (hF3.at 0 rfl) (Nat.le_of_ble_eq_true rfl) rfl rfl rfl ?_
    have hF3 : ax_hs (ax_put h2 (w + 1 + 2 * m) (.inr (2, [.int 8, .int me, .int ask, .int ne, .int ns, .int t, .int 0, .int 0, .ref (w + 1 + 2 * m + 1)]))) [(w + 1 + 2 * m, .inr (2, [.int 8, .int me, .int ask, .int ne, .int ns, .int t, .int 0, .int 0, .ref (w + 1 + 2 * m + 1)])), (w + 1 + 2 * m + 1, .inl (0, 617, .inl bm)), (nd, .inr (7, [.int me, .ref rk, .ref nt, .ref dk, .ref ld, .ref tg, .int up, .int ne, .int ns])), (dk, .inr (8, [.ref da, .ref db, .ref dc, .ref dd, .int dn])), (tg, .inl (0, 280, .inl tf)), (dd, .inl (0, 280, .inl ow)), (da, .inl (0, 35840, .inl ff))] := hF3.put 0 _ rfl rfl
    exact ar_ret d_58_51 rfl (⟨_, bm, rfl, hed _ (va_up (mg 8 me ask ne ns) 5 t) bm (ax_fr.rf.put (Or.inl rfl)) ⟨hF3.at 0 rfl, hF3.at 1 rfl⟩, hf2.tr (ax_fr.rf.put hNm), hz1, hz2⟩)
  · obtain ⟨j, hj, ej, hw⟩ := hsl.resolve_left (fun z => c1 (by rw [z]; decide))
    rw [ej]
    refine ar_aload_n 13 d_58_12 rfl rfl ?_
    refine ar_getf 16 d_58_13 rfl (ci := 7) (k := 3) rfl (hF.at 0 rfl) rfl ?_
    refine ar_iload 18 d_58_16 rfl rfl ?_
    refine ar_call (r := []) (na := 0) (kd := 0) (cm := 57) (fr2 := fr - 1) (lo2 := lo - 21) 21 d_58_18 (ar_hoV (as := [.int (nI j)]) rfl rfl rfl (hF.at 1 rfl)) rfl (by omega) (show lo - 21 + (19 + 2) = lo by omega) (Nat.le_of_ble_eq_true rfl) (Nat.le_of_ble_eq_true rfl) (c_57 hj (hF.sub (F' := [(dk, .inr (8, [.ref da, .ref db, .ref dc, .ref dd, .int dn])), (dd, .inl (0, 280, .inl ow))]) [1, 3] rfl rfl)) ?_
    intro v hh hq
    obtain ⟨rfl, ehh⟩ := hq
    rw [ehh]
    clear ehh
    refine ar_if_eq 52 24 d_58_21 (by decide) rfl (fun c => absurd c (by rw [if_neg hw]; decide)) (fun _ => ?_)
    refine ar_aload_n 25 d_58_24 rfl rfl ?_
    refine ar_getf 28 d_58_25 rfl (ci := 7) (k := 2) rfl (hF.at 0 rfl) rfl ?_
    refine ar_bipush 30 (v := 8) d_58_28 rfl (by decide) ?_
    refine ar_aload_n 31 d_58_30 rfl rfl ?_
    refine ar_getf 34 d_58_31 rfl (ci := 7) (k := 0) rfl (hF.at 0 rfl) rfl ?_
    refine ar_iload 36 d_58_34 rfl rfl ?_
    refine ar_aload_n 37 d_58_36 rfl rfl ?_
    refine ar_getf 40 d_58_37 rfl (ci := 7) (k := 7) rfl (hF.at 0 rfl) rfl ?_
    refine ar_aload_n 41 d_58_40 rfl rfl ?_
    refine ar_getf 44 d_58_41 rfl (ci := 7) (k := 8) rfl (hF.at 0 rfl) rfl ?_
    refine ar_call (r := []) (na := 0) (kd := 0) (cm := 36) (fr2 := fr - 1) (lo2 := lo - 26) 47 d_58_44 (ar_hoV (as := [.int 8, .int me, .int ask, .int ne, .int ns]) rfl rfl rfl hnet) rfl (by omega) (show lo - 26 + (19 + 7) = lo by omega) (Nat.le_of_ble_eq_true rfl) (Nat.le_of_ble_eq_true rfl) (c_36H hN) ?_
    intro v h2 hq
    obtain ⟨m, bm, ids2, hm, rfl, hmq, hmm, hed, hf2, hz1, hz2⟩ := hq
    have hNm : NTA nt w (w + 1 + 2 * m) := Or.inr (by omega)
    have hNm1 : NTA nt w (w + 1 + 2 * m + 1) := Or.inr (by omega)
    have hF2 : ax_hs h2 [(nd, .inr (7, [.int me, .ref rk, .ref nt, .ref dk, .ref ld, .ref tg, .int up, .int ne, .int ns])), (dk, .inr (8, [.ref da, .ref db, .ref dc, .ref dd, .int dn])), (tg, .inl (0, 280, .inl tf)), (dd, .inl (0, 280, .inl ow)), (da, .inl (0, 35840, .inl ff))] := hF.fr hf2 (by intro x hx; simp only [List.mem_cons, List.not_mem_nil, or_false] at hx; rcases hx with rfl | rfl | rfl | rfl | rfl <;> assumption)
    have hF3 : ax_hs h2 [(w + 1 + 2 * m + 1, .inl (0, 617, .inl bm)), (nd, .inr (7, [.int me, .ref rk, .ref nt, .ref dk, .ref ld, .ref tg, .int up, .int ne, .int ns])), (dk, .inr (8, [.ref da, .ref db, .ref dc, .ref dd, .int dn])), (tg, .inl (0, 280, .inl tf)), (dd, .inl (0, 280, .inl ow)), (da, .inl (0, 35840, .inl ff))] := ax_hs.consN (nt := nt) (w := w) hmm.2 hF2 hNm1 (by intro x hx; simp only [List.mem_cons, List.not_mem_nil, or_false] at hx; rcases hx with rfl | rfl | rfl | rfl | rfl <;> assumption)
    replace hF3 : ax_hs h2 [(w + 1 + 2 * m, .inr (2, [.int 8, .int me, .int ask, .int ne, .int ns, .int (-1), .int 0, .int 0, .ref (w + 1 + 2 * m + 1)])), (w + 1 + 2 * m + 1, .inl (0, 617, .inl bm)), (nd, .inr (7, [.int me, .ref rk, .ref nt, .ref dk, .ref ld, .ref tg, .int up, .int ne, .int ns])), (dk, .inr (8, [.ref da, .ref db, .ref dc, .ref dd, .int dn])), (tg, .inl (0, 280, .inl tf)), (dd, .inl (0, 280, .inl ow)), (da, .inl (0, 35840, .inl ff))] := ax_hs.cons (show ax_g h2 (w + 1 + 2 * m) = some (.inr (2, [.int 8, .int me, .int ask, .int ne, .int ns, .int (-1), .int 0, .int 0, .ref (w + 1 + 2 * m + 1)])) from hmm.1) hF3 (by intro x hx e; simp only [List.mem_cons, List.not_mem_nil, or_false] at hx; rcases hx with rfl | rfl | rfl | rfl | rfl | rfl; exact absurd e (by dsimp only; omega); all_goals exact absurd (e ▸ hNm) (by assumption))
    refine ar_iload_n 48 d_58_47 rfl rfl ?_
    refine ar_putf 51 [.int 8, .int me, .int ask, .int ne, .int ns, .int t, .int 0, .int 0, .ref (w + 1 + 2 * m + 1)] d_58_48 rfl (ci := 2) (k := 5) rfl rfl (hF3.at 0 rfl) (Nat.le_of_ble_eq_true rfl) rfl rfl rfl ?_
    have hF3 : ax_hs (ax_put h2 (w + 1 + 2 * m) (.inr (2, [.int 8, .int me, .int ask, .int ne, .int ns, .int t, .int 0, .int 0, .ref (w + 1 + 2 * m + 1)]))) [(w + 1 + 2 * m, .inr (2, [.int 8, .int me, .int ask, .int ne, .int ns, .int t, .int 0, .int 0, .ref (w + 1 + 2 * m + 1)])), (w + 1 + 2 * m + 1, .inl (0, 617, .inl bm)), (nd, .inr (7, [.int me, .ref rk, .ref nt, .ref dk, .ref ld, .ref tg, .int up, .int ne, .int ns])), (dk, .inr (8, [.ref da, .ref db, .ref dc, .ref dd, .int dn])), (tg, .inl (0, 280, .inl tf)), (dd, .inl (0, 280, .inl ow)), (da, .inl (0, 35840, .inl ff))] := hF3.put 0 _ rfl rfl
    exact ar_ret d_58_51 rfl (⟨_, bm, rfl, hed _ (va_up (mg 8 me ask ne ns) 5 t) bm (ax_fr.rf.put (Or.inl rfl)) ⟨hF3.at 0 rfl, hF3.at 1 rfl⟩, hf2.tr (ax_fr.rf.put hNm), hz1, hz2⟩)
theorem c_58G {L : Nat} {xs : Nat → Int32} {fr lo : Nat} {h : ax_H} {nd rk nt w dk ld tg da db dc dd q : Nat} {me up ne ns dn : Int32} {u b : Nat → Int32} {ids : List Nat} {ms : List Mg} {tf ow ff : Nat → Int32} {kd t tt ask : Int32} {j : Nat} (hfr : 1 ≤ fr) (hlo : 50 ≤ lo) (hA_nd : ¬ NTA nt w nd) (hA_dk : ¬ NTA nt w dk) (hA_tg : ¬ NTA nt w tg) (hA_dd : ¬ NTA nt w dd) (hA_da : ¬ NTA nt w da) (hj : j < 280) (ej : fst1 (fun i => decide (tf i = t)) 280 0 = nI j) (hw : ow j < 0) (hN : NTL h nt w ids ms q u b) (hF : ax_hs h [(nd, .inr (7, [.int me, .ref rk, .ref nt, .ref dk, .ref ld, .ref tg, .int up, .int ne, .int ns])), (dk, .inr (8, [.ref da, .ref db, .ref dc, .ref dd, .int dn])), (tg, .inl (0, 280, .inl tf)), (dd, .inl (0, 280, .inl ow)), (da, .inl (0, 35840, .inl ff))]) : ax_M L xs 58 fr lo [.ref nd, .int kd, .int t, .int tt, .int ask] h (fun r h' => ∃ (ids' : List Nat) (bm : Nat → Int32), r = none ∧ NTL h' nt w ids' (pst ms (va_up (mg kd me tt ne ns) 5 t, va_cpy ff bm (j * 128) 0 128)) q u b ∧ ax_fr (NTA nt w) h h' ∧ h'.1 = h.1 ∧ h'.2.1 = h.2.1) := by
  show ax_A (ax_step L xs) ((58, 0, fr, lo), [(0, .ref nd), (1, .int kd), (2, .int t), (3, .int tt), (4, .int ask)], [], h) _
  obtain ⟨za, zc, hnet⟩ := hN.net
  refine ar_aload_n 1 d_58_0 rfl rfl ?_
  refine ar_iload_n 2 d_58_1 rfl rfl ?_
  refine ar_call (r := []) (na := 0) (kd := 0) (cm := 22) (fr2 := fr - 1) (lo2 := lo - 22) 5 d_58_2 (ar_hoV (as := [.int t]) rfl rfl rfl (hF.at 0 rfl)) rfl (by omega) (show lo - 22 + (19 + 3) = lo by omega) (Nat.le_of_ble_eq_true rfl) (Nat.le_of_ble_eq_true rfl) (c_22 (hF.sub (F' := [(nd, .inr (7, [.int me, .ref rk, .ref nt, .ref dk, .ref ld, .ref tg, .int up, .int ne, .int ns])), (tg, .inl (0, 280, .inl tf))]) [0, 2] rfl rfl)) ?_
  intro v hh hq
  obtain ⟨rfl, ehh⟩ := hq
  rw [ehh]
  clear ehh
  refine ar_top (x' := nI j) ej ?_
  refine ar_istore 7 [(0, .ref nd), (1, .int kd), (2, .int t), (3, .int tt), (4, .int ask), (5, .int (nI j))] d_58_5 rfl (by decide) rfl ?_
  refine ar_iload 9 d_58_7 rfl rfl ?_
  refine ar_if_lt 24 12 d_58_9 (by decide) rfl (fun c => absurd c (nI_pos (by omega))) (fun _ => ?_)
  refine ar_aload_n 13 d_58_12 rfl rfl ?_
  refine ar_getf 16 d_58_13 rfl (ci := 7) (k := 3) rfl (hF.at 0 rfl) rfl ?_
  refine ar_iload 18 d_58_16 rfl rfl ?_
  refine ar_call (r := []) (na := 0) (kd := 0) (cm := 57) (fr2 := fr - 1) (lo2 := lo - 21) 21 d_58_18 (ar_hoV (as := [.int (nI j)]) rfl rfl rfl (hF.at 1 rfl)) rfl (by omega) (show lo - 21 + (19 + 2) = lo by omega) (Nat.le_of_ble_eq_true rfl) (Nat.le_of_ble_eq_true rfl) (c_57 hj (hF.sub (F' := [(dk, .inr (8, [.ref da, .ref db, .ref dc, .ref dd, .int dn])), (dd, .inl (0, 280, .inl ow))]) [1, 3] rfl rfl)) ?_
  intro v hh hq
  obtain ⟨rfl, ehh⟩ := hq
  rw [ehh]
  clear ehh
  refine ar_if_eq 52 24 d_58_21 (by decide) rfl (fun _ => ?_) (fun c => absurd (by rw [if_pos hw]) c)
  refine ar_aload_n 53 d_58_52 rfl rfl ?_
  refine ar_getf 56 d_58_53 rfl (ci := 7) (k := 2) rfl (hF.at 0 rfl) rfl ?_
  refine ar_iload_n 57 d_58_56 rfl rfl ?_
  refine ar_aload_n 58 d_58_57 rfl rfl ?_
  refine ar_getf 61 d_58_58 rfl (ci := 7) (k := 0) rfl (hF.at 0 rfl) rfl ?_
  refine ar_iload_n 62 d_58_61 rfl rfl ?_
  refine ar_aload_n 63 d_58_62 rfl rfl ?_
  refine ar_getf 66 d_58_63 rfl (ci := 7) (k := 7) rfl (hF.at 0 rfl) rfl ?_
  refine ar_aload_n 67 d_58_66 rfl rfl ?_
  refine ar_getf 70 d_58_67 rfl (ci := 7) (k := 8) rfl (hF.at 0 rfl) rfl ?_
  refine ar_call (r := []) (na := 0) (kd := 0) (cm := 36) (fr2 := fr - 1) (lo2 := lo - 26) 73 d_58_70 (ar_hoV (as := [.int kd, .int me, .int tt, .int ne, .int ns]) rfl rfl rfl hnet) rfl (by omega) (show lo - 26 + (19 + 7) = lo by omega) (Nat.le_of_ble_eq_true rfl) (Nat.le_of_ble_eq_true rfl) (c_36H hN) ?_
  intro v h2 hq
  obtain ⟨m, bm, ids2, hm, rfl, hmq, hmm, hed, hf2, hz1, hz2⟩ := hq
  have hNm : NTA nt w (w + 1 + 2 * m) := Or.inr (by omega)
  have hNm1 : NTA nt w (w + 1 + 2 * m + 1) := Or.inr (by omega)
  have hF2 : ax_hs h2 [(nd, .inr (7, [.int me, .ref rk, .ref nt, .ref dk, .ref ld, .ref tg, .int up, .int ne, .int ns])), (dk, .inr (8, [.ref da, .ref db, .ref dc, .ref dd, .int dn])), (tg, .inl (0, 280, .inl tf)), (dd, .inl (0, 280, .inl ow)), (da, .inl (0, 35840, .inl ff))] := hF.fr hf2 (by intro x hx; simp only [List.mem_cons, List.not_mem_nil, or_false] at hx; rcases hx with rfl | rfl | rfl | rfl | rfl <;> assumption)
  have hF3 : ax_hs h2 [(w + 1 + 2 * m + 1, .inl (0, 617, .inl bm)), (nd, .inr (7, [.int me, .ref rk, .ref nt, .ref dk, .ref ld, .ref tg, .int up, .int ne, .int ns])), (dk, .inr (8, [.ref da, .ref db, .ref dc, .ref dd, .int dn])), (tg, .inl (0, 280, .inl tf)), (dd, .inl (0, 280, .inl ow)), (da, .inl (0, 35840, .inl ff))] := ax_hs.consN (nt := nt) (w := w) hmm.2 hF2 hNm1 (by intro x hx; simp only [List.mem_cons, List.not_mem_nil, or_false] at hx; rcases hx with rfl | rfl | rfl | rfl | rfl <;> assumption)
  replace hF3 : ax_hs h2 [(w + 1 + 2 * m, .inr (2, [.int kd, .int me, .int tt, .int ne, .int ns, .int (-1), .int 0, .int 0, .ref (w + 1 + 2 * m + 1)])), (w + 1 + 2 * m + 1, .inl (0, 617, .inl bm)), (nd, .inr (7, [.int me, .ref rk, .ref nt, .ref dk, .ref ld, .ref tg, .int up, .int ne, .int ns])), (dk, .inr (8, [.ref da, .ref db, .ref dc, .ref dd, .int dn])), (tg, .inl (0, 280, .inl tf)), (dd, .inl (0, 280, .inl ow)), (da, .inl (0, 35840, .inl ff))] := ax_hs.cons (show ax_g h2 (w + 1 + 2 * m) = some (.inr (2, [.int kd, .int me, .int tt, .int ne, .int ns, .int (-1), .int 0, .int 0, .ref (w + 1 + 2 * m + 1)])) from hmm.1) hF3 (by intro x hx e; simp only [List.mem_cons, List.not_mem_nil, or_false] at hx; rcases hx with rfl | rfl | rfl | rfl | rfl | rfl; exact absurd e (by dsimp only; omega); all_goals exact absurd (e ▸ hNm) (by assumption))
  refine ar_astore 75 [(0, .ref nd), (1, .int kd), (2, .int t), (3, .int tt), (4, .int ask), (5, .int (nI j)), (6, .ref (w + 1 + 2 * m))] d_58_73 rfl (by decide) rfl ?_
  refine ar_aload 77 d_58_75 rfl rfl ?_
  refine ar_iload_n 78 d_58_77 rfl rfl ?_
  refine ar_putf 81 [.int kd, .int me, .int tt, .int ne, .int ns, .int t, .int 0, .int 0, .ref (w + 1 + 2 * m + 1)] d_58_78 rfl (ci := 2) (k := 5) rfl rfl (hF3.at 0 rfl) (Nat.le_of_ble_eq_true rfl) rfl rfl rfl ?_
  have hF3 : ax_hs (ax_put h2 (w + 1 + 2 * m) (.inr (2, [.int kd, .int me, .int tt, .int ne, .int ns, .int t, .int 0, .int 0, .ref (w + 1 + 2 * m + 1)]))) [(w + 1 + 2 * m, .inr (2, [.int kd, .int me, .int tt, .int ne, .int ns, .int t, .int 0, .int 0, .ref (w + 1 + 2 * m + 1)])), (w + 1 + 2 * m + 1, .inl (0, 617, .inl bm)), (nd, .inr (7, [.int me, .ref rk, .ref nt, .ref dk, .ref ld, .ref tg, .int up, .int ne, .int ns])), (dk, .inr (8, [.ref da, .ref db, .ref dc, .ref dd, .int dn])), (tg, .inl (0, 280, .inl tf)), (dd, .inl (0, 280, .inl ow)), (da, .inl (0, 35840, .inl ff))] := hF3.put 0 _ rfl rfl
  refine ar_aload_n 82 d_58_81 rfl rfl ?_
  refine ar_getf 85 d_58_82 rfl (ci := 7) (k := 3) rfl (hF3.at 2 rfl) rfl ?_
  refine ar_getf 88 d_58_85 rfl (ci := 8) (k := 0) rfl (hF3.at 3 rfl) rfl ?_
  refine ar_iload 90 d_58_88 rfl rfl ?_
  refine ar_sipush 93 (v := 128) d_58_90 rfl (by decide) ?_
  refine ar_imul 94 d_58_93 rfl ?_
  refine ar_top (x' := nI (j * 128)) (pk_mul j 128) ?_
  refine ar_aload 96 d_58_94 rfl rfl ?_
  refine ar_getf 99 d_58_96 rfl (ci := 2) (k := 8) rfl (hF3.at 0 rfl) rfl ?_
  refine ar_iconst 100 (v := 0) d_58_99 rfl (by decide) ?_
  refine ar_sipush 103 (v := 128) d_58_100 rfl (by decide) ?_
  refine ar_copy 106 d_58_103 rfl rfl (by omega) (by show 0 + (nativeFrameWords "java/lang/System" "arraycopy" 5 + 11) ≤ lo; rw [nfw_copy]; omega) (hF3.at 6 rfl) (hF3.at 1 rfl) (Int32.not_lt.mpr (nI_le (Nat.zero_le _) (by omega))) (by decide) (by decide) (by rw [nI_clamp (by omega)]; show j * 128 + 128 ≤ 35840; omega) (by decide) ?_
  have hF3 : ax_hs (ax_put (ax_put h2 (w + 1 + 2 * m) (.inr (2, [.int kd, .int me, .int tt, .int ne, .int ns, .int t, .int 0, .int 0, .ref (w + 1 + 2 * m + 1)]))) (w + 1 + 2 * m + 1) (.inl (0, 617, .inl (va_cpy ff bm ((nI (j * 128)).toNatClampNeg) ((0 : Int32).toNatClampNeg) ((128 : Int32).toNatClampNeg))))) [(w + 1 + 2 * m, .inr (2, [.int kd, .int me, .int tt, .int ne, .int ns, .int t, .int 0, .int 0, .ref (w + 1 + 2 * m + 1)])), (w + 1 + 2 * m + 1, .inl (0, 617, .inl (va_cpy ff bm ((nI (j * 128)).toNatClampNeg) ((0 : Int32).toNatClampNeg) ((128 : Int32).toNatClampNeg)))), (nd, .inr (7, [.int me, .ref rk, .ref nt, .ref dk, .ref ld, .ref tg, .int up, .int ne, .int ns])), (dk, .inr (8, [.ref da, .ref db, .ref dc, .ref dd, .int dn])), (tg, .inl (0, 280, .inl tf)), (dd, .inl (0, 280, .inl ow)), (da, .inl (0, 35840, .inl ff))] := hF3.put 1 _ rfl rfl
  exact ar_ret d_58_106 rfl (⟨_, bm, rfl, hed _ (va_up (mg kd me tt ne ns) 5 t) (va_cpy ff bm (j * 128) 0 128) ((ax_fr.rf.put (Or.inl rfl)).put (Or.inr rfl)) ⟨hF3.at 0 rfl, (hF3.at 1 rfl).trans (by rw [nI_clamp (by omega)]; rfl)⟩, hf2.tr ((ax_fr.rf.put hNm).put hNm1), hz1, hz2⟩)


/-! holds, onDisk, audit for every state -/
theorem d_170_0 : decode (axt_b 170) 0 = .ok (.aload_n 0, 1) := by decide +kernel
theorem d_170_1 : decode (axt_b 170) 1 = .ok (.getfield 63, 3) := by decide +kernel
theorem d_170_4 : decode (axt_b 170) 4 = .ok (.iload_n 1, 1) := by decide +kernel
theorem d_170_5 : decode (axt_b 170) 5 = .ok (.aaload, 1) := by decide +kernel
theorem d_170_6 : decode (axt_b 170) 6 = .ok (.getfield 150, 3) := by decide +kernel
theorem d_170_9 : decode (axt_b 170) 9 = .ok (.astore_n 2, 1) := by decide +kernel
theorem d_170_10 : decode (axt_b 170) 10 = .ok (.iconst 0, 1) := by decide +kernel
theorem d_170_11 : decode (axt_b 170) 11 = .ok (.istore_n 3, 1) := by decide +kernel
theorem d_170_12 : decode (axt_b 170) 12 = .ok (.iconst 0, 1) := by decide +kernel
theorem d_170_13 : decode (axt_b 170) 13 = .ok (.istore 4, 2) := by decide +kernel
theorem d_170_15 : decode (axt_b 170) 15 = .ok (.iload 4, 2) := by decide +kernel
theorem d_170_17 : decode (axt_b 170) 17 = .ok (.sipush 280, 3) := by decide +kernel
theorem d_170_20 : decode (axt_b 170) 20 = .ok (.if_icmp .ge 111, 3) := by decide +kernel
theorem d_170_23 : decode (axt_b 170) 23 = .ok (.aload_n 2, 1) := by decide +kernel
theorem d_170_24 : decode (axt_b 170) 24 = .ok (.iload 4, 2) := by decide +kernel
theorem d_170_26 : decode (axt_b 170) 26 = .ok (.invokevirtual 233, 3) := by decide +kernel
theorem d_170_29 : decode (axt_b 170) 29 = .ok (.ifCond .eq 96, 3) := by decide +kernel
theorem d_170_32 : decode (axt_b 170) 32 = .ok (.aload_n 0, 1) := by decide +kernel
theorem d_170_33 : decode (axt_b 170) 33 = .ok (.getfield 54, 3) := by decide +kernel
theorem d_170_36 : decode (axt_b 170) 36 = .ok (.aload_n 2, 1) := by decide +kernel
theorem d_170_37 : decode (axt_b 170) 37 = .ok (.iload 4, 2) := by decide +kernel
theorem d_170_39 : decode (axt_b 170) 39 = .ok (.invokevirtual 237, 3) := by decide +kernel
theorem d_170_42 : decode (axt_b 170) 42 = .ok (.invokevirtual 320, 3) := by decide +kernel
theorem d_170_45 : decode (axt_b 170) 45 = .ok (.istore 5, 2) := by decide +kernel
theorem d_170_47 : decode (axt_b 170) 47 = .ok (.iload 5, 2) := by decide +kernel
theorem d_170_49 : decode (axt_b 170) 49 = .ok (.ifCond .lt 50, 3) := by decide +kernel
theorem d_170_52 : decode (axt_b 170) 52 = .ok (.aload_n 0, 1) := by decide +kernel
theorem d_170_53 : decode (axt_b 170) 53 = .ok (.getfield 32, 3) := by decide +kernel
theorem d_170_56 : decode (axt_b 170) 56 = .ok (.aload_n 0, 1) := by decide +kernel
theorem d_170_57 : decode (axt_b 170) 57 = .ok (.getfield 54, 3) := by decide +kernel
theorem d_170_60 : decode (axt_b 170) 60 = .ok (.iload 5, 2) := by decide +kernel
theorem d_170_62 : decode (axt_b 170) 62 = .ok (.invokevirtual 212, 3) := by decide +kernel
theorem d_170_65 : decode (axt_b 170) 65 = .ok (.aload_n 0, 1) := by decide +kernel
theorem d_170_66 : decode (axt_b 170) 66 = .ok (.getfield 41, 3) := by decide +kernel
theorem d_170_69 : decode (axt_b 170) 69 = .ok (.getfield 72, 3) := by decide +kernel
theorem d_170_72 : decode (axt_b 170) 72 = .ok (.invokevirtual 323, 3) := by decide +kernel
theorem d_170_75 : decode (axt_b 170) 75 = .ok (.iload_n 1, 1) := by decide +kernel
theorem d_170_76 : decode (axt_b 170) 76 = .ok (.ishr, 1) := by decide +kernel
theorem d_170_77 : decode (axt_b 170) 77 = .ok (.iconst 1, 1) := by decide +kernel
theorem d_170_78 : decode (axt_b 170) 78 = .ok (.iand, 1) := by decide +kernel
theorem d_170_79 : decode (axt_b 170) 79 = .ok (.ifCond .eq 20, 3) := by decide +kernel
theorem d_170_82 : decode (axt_b 170) 82 = .ok (.aload_n 0, 1) := by decide +kernel
theorem d_170_83 : decode (axt_b 170) 83 = .ok (.getfield 54, 3) := by decide +kernel
theorem d_170_86 : decode (axt_b 170) 86 = .ok (.getfield 241, 3) := by decide +kernel
theorem d_170_89 : decode (axt_b 170) 89 = .ok (.iload 5, 2) := by decide +kernel
theorem d_170_91 : decode (axt_b 170) 91 = .ok (.iaload, 1) := by decide +kernel
theorem d_170_92 : decode (axt_b 170) 92 = .ok (.iload_n 1, 1) := by decide +kernel
theorem d_170_93 : decode (axt_b 170) 93 = .ok (.ishr, 1) := by decide +kernel
theorem d_170_94 : decode (axt_b 170) 94 = .ok (.iconst 1, 1) := by decide +kernel
theorem d_170_95 : decode (axt_b 170) 95 = .ok (.iand, 1) := by decide +kernel
theorem d_170_96 : decode (axt_b 170) 96 = .ok (.ifCond .eq 9, 3) := by decide +kernel
theorem d_170_99 : decode (axt_b 170) 99 = .ok (.iinc 3 1, 3) := by decide +kernel
theorem d_170_102 : decode (axt_b 170) 102 = .ok (.goto 23, 3) := by decide +kernel
theorem d_170_105 : decode (axt_b 170) 105 = .ok (.aload_n 0, 1) := by decide +kernel
theorem d_170_106 : decode (axt_b 170) 106 = .ok (.iload 5, 2) := by decide +kernel
theorem d_170_108 : decode (axt_b 170) 108 = .ok (.iload_n 1, 1) := by decide +kernel
theorem d_170_109 : decode (axt_b 170) 109 = .ok (.sipush 280, 3) := by decide +kernel
theorem d_170_112 : decode (axt_b 170) 112 = .ok (.imul, 1) := by decide +kernel
theorem d_170_113 : decode (axt_b 170) 113 = .ok (.iload 4, 2) := by decide +kernel
theorem d_170_115 : decode (axt_b 170) 115 = .ok (.iadd, 1) := by decide +kernel
theorem d_170_116 : decode (axt_b 170) 116 = .ok (.invokevirtual 326, 3) := by decide +kernel
theorem d_170_119 : decode (axt_b 170) 119 = .ok (.ifCond .ne 6, 3) := by decide +kernel
theorem d_170_122 : decode (axt_b 170) 122 = .ok (.iinc 3 1, 3) := by decide +kernel
theorem d_170_125 : decode (axt_b 170) 125 = .ok (.iinc 4 1, 3) := by decide +kernel
theorem d_170_128 : decode (axt_b 170) 128 = .ok (.goto (-113), 3) := by decide +kernel
theorem d_170_131 : decode (axt_b 170) 131 = .ok (.iload_n 3, 1) := by decide +kernel
theorem d_170_132 : decode (axt_b 170) 132 = .ok (.ireturn, 1) := by decide +kernel
theorem d_171_0 : decode (axt_b 171) 0 = .ok (.aload_n 0, 1) := by decide +kernel
theorem d_171_1 : decode (axt_b 171) 1 = .ok (.getfield 54, 3) := by decide +kernel
theorem d_171_4 : decode (axt_b 171) 4 = .ok (.getfield 241, 3) := by decide +kernel
theorem d_171_7 : decode (axt_b 171) 7 = .ok (.iload_n 1, 1) := by decide +kernel
theorem d_171_8 : decode (axt_b 171) 8 = .ok (.iaload, 1) := by decide +kernel
theorem d_171_9 : decode (axt_b 171) 9 = .ok (.ifCond .ne 10, 3) := by decide +kernel
theorem d_171_12 : decode (axt_b 171) 12 = .ok (.aload_n 0, 1) := by decide +kernel
theorem d_171_13 : decode (axt_b 171) 13 = .ok (.getfield 20, 3) := by decide +kernel
theorem d_171_16 : decode (axt_b 171) 16 = .ok (.iload_n 1, 1) := by decide +kernel
theorem d_171_17 : decode (axt_b 171) 17 = .ok (.iload_n 2, 1) := by decide +kernel
theorem d_171_18 : decode (axt_b 171) 18 = .ok (.iastore, 1) := by decide +kernel
theorem d_171_19 : decode (axt_b 171) 19 = .ok (.aload_n 0, 1) := by decide +kernel
theorem d_171_20 : decode (axt_b 171) 20 = .ok (.getfield 54, 3) := by decide +kernel
theorem d_171_23 : decode (axt_b 171) 23 = .ok (.getfield 241, 3) := by decide +kernel
theorem d_171_26 : decode (axt_b 171) 26 = .ok (.iload_n 1, 1) := by decide +kernel
theorem d_171_27 : decode (axt_b 171) 27 = .ok (.dup2, 1) := by decide +kernel
theorem d_171_28 : decode (axt_b 171) 28 = .ok (.iaload, 1) := by decide +kernel
theorem d_171_29 : decode (axt_b 171) 29 = .ok (.iconst 1, 1) := by decide +kernel
theorem d_171_30 : decode (axt_b 171) 30 = .ok (.iload_n 2, 1) := by decide +kernel
theorem d_171_31 : decode (axt_b 171) 31 = .ok (.sipush 280, 3) := by decide +kernel
theorem d_171_34 : decode (axt_b 171) 34 = .ok (.idiv, 1) := by decide +kernel
theorem d_171_35 : decode (axt_b 171) 35 = .ok (.ishl, 1) := by decide +kernel
theorem d_171_36 : decode (axt_b 171) 36 = .ok (.ior, 1) := by decide +kernel
theorem d_171_37 : decode (axt_b 171) 37 = .ok (.iastore, 1) := by decide +kernel
theorem d_171_38 : decode (axt_b 171) 38 = .ok (.aload_n 0, 1) := by decide +kernel
theorem d_171_39 : decode (axt_b 171) 39 = .ok (.getfield 63, 3) := by decide +kernel
theorem d_171_42 : decode (axt_b 171) 42 = .ok (.aload_n 0, 1) := by decide +kernel
theorem d_171_43 : decode (axt_b 171) 43 = .ok (.getfield 20, 3) := by decide +kernel
theorem d_171_46 : decode (axt_b 171) 46 = .ok (.iload_n 1, 1) := by decide +kernel
theorem d_171_47 : decode (axt_b 171) 47 = .ok (.iaload, 1) := by decide +kernel
theorem d_171_48 : decode (axt_b 171) 48 = .ok (.sipush 280, 3) := by decide +kernel
theorem d_171_51 : decode (axt_b 171) 51 = .ok (.idiv, 1) := by decide +kernel
theorem d_171_52 : decode (axt_b 171) 52 = .ok (.aaload, 1) := by decide +kernel
theorem d_171_53 : decode (axt_b 171) 53 = .ok (.getfield 150, 3) := by decide +kernel
theorem d_171_56 : decode (axt_b 171) 56 = .ok (.getfield 230, 3) := by decide +kernel
theorem d_171_59 : decode (axt_b 171) 59 = .ok (.astore_n 3, 1) := by decide +kernel
theorem d_171_60 : decode (axt_b 171) 60 = .ok (.aload_n 0, 1) := by decide +kernel
theorem d_171_61 : decode (axt_b 171) 61 = .ok (.getfield 63, 3) := by decide +kernel
theorem d_171_64 : decode (axt_b 171) 64 = .ok (.iload_n 2, 1) := by decide +kernel
theorem d_171_65 : decode (axt_b 171) 65 = .ok (.sipush 280, 3) := by decide +kernel
theorem d_171_68 : decode (axt_b 171) 68 = .ok (.idiv, 1) := by decide +kernel
theorem d_171_69 : decode (axt_b 171) 69 = .ok (.aaload, 1) := by decide +kernel
theorem d_171_70 : decode (axt_b 171) 70 = .ok (.getfield 150, 3) := by decide +kernel
theorem d_171_73 : decode (axt_b 171) 73 = .ok (.getfield 230, 3) := by decide +kernel
theorem d_171_76 : decode (axt_b 171) 76 = .ok (.astore 4, 2) := by decide +kernel
theorem d_171_78 : decode (axt_b 171) 78 = .ok (.aload_n 0, 1) := by decide +kernel
theorem d_171_79 : decode (axt_b 171) 79 = .ok (.getfield 20, 3) := by decide +kernel
theorem d_171_82 : decode (axt_b 171) 82 = .ok (.iload_n 1, 1) := by decide +kernel
theorem d_171_83 : decode (axt_b 171) 83 = .ok (.iaload, 1) := by decide +kernel
theorem d_171_84 : decode (axt_b 171) 84 = .ok (.sipush 280, 3) := by decide +kernel
theorem d_171_87 : decode (axt_b 171) 87 = .ok (.irem, 1) := by decide +kernel
theorem d_171_88 : decode (axt_b 171) 88 = .ok (.sipush 128, 3) := by decide +kernel
theorem d_171_91 : decode (axt_b 171) 91 = .ok (.imul, 1) := by decide +kernel
theorem d_171_92 : decode (axt_b 171) 92 = .ok (.istore 5, 2) := by decide +kernel
theorem d_171_94 : decode (axt_b 171) 94 = .ok (.iload_n 2, 1) := by decide +kernel
theorem d_171_95 : decode (axt_b 171) 95 = .ok (.sipush 280, 3) := by decide +kernel
theorem d_171_98 : decode (axt_b 171) 98 = .ok (.irem, 1) := by decide +kernel
theorem d_171_99 : decode (axt_b 171) 99 = .ok (.sipush 128, 3) := by decide +kernel
theorem d_171_102 : decode (axt_b 171) 102 = .ok (.imul, 1) := by decide +kernel
theorem d_171_103 : decode (axt_b 171) 103 = .ok (.istore 6, 2) := by decide +kernel
theorem d_171_105 : decode (axt_b 171) 105 = .ok (.iconst 1, 1) := by decide +kernel
theorem d_171_106 : decode (axt_b 171) 106 = .ok (.istore 7, 2) := by decide +kernel
theorem d_171_108 : decode (axt_b 171) 108 = .ok (.iload 7, 2) := by decide +kernel
theorem d_171_110 : decode (axt_b 171) 110 = .ok (.bipush 127, 2) := by decide +kernel
theorem d_171_112 : decode (axt_b 171) 112 = .ok (.if_icmp .ge 29, 3) := by decide +kernel
theorem d_171_115 : decode (axt_b 171) 115 = .ok (.aload_n 3, 1) := by decide +kernel
theorem d_171_116 : decode (axt_b 171) 116 = .ok (.iload 5, 2) := by decide +kernel
theorem d_171_118 : decode (axt_b 171) 118 = .ok (.iload 7, 2) := by decide +kernel
theorem d_171_120 : decode (axt_b 171) 120 = .ok (.iadd, 1) := by decide +kernel
theorem d_171_121 : decode (axt_b 171) 121 = .ok (.iaload, 1) := by decide +kernel
theorem d_171_122 : decode (axt_b 171) 122 = .ok (.aload 4, 2) := by decide +kernel
theorem d_171_124 : decode (axt_b 171) 124 = .ok (.iload 6, 2) := by decide +kernel
theorem d_171_126 : decode (axt_b 171) 126 = .ok (.iload 7, 2) := by decide +kernel
theorem d_171_128 : decode (axt_b 171) 128 = .ok (.iadd, 1) := by decide +kernel
theorem d_171_129 : decode (axt_b 171) 129 = .ok (.iaload, 1) := by decide +kernel
theorem d_171_130 : decode (axt_b 171) 130 = .ok (.if_icmp .eq 5, 3) := by decide +kernel
theorem d_171_133 : decode (axt_b 171) 133 = .ok (.iconst 0, 1) := by decide +kernel
theorem d_171_134 : decode (axt_b 171) 134 = .ok (.ireturn, 1) := by decide +kernel
theorem d_171_135 : decode (axt_b 171) 135 = .ok (.iinc 7 1, 3) := by decide +kernel
theorem d_171_138 : decode (axt_b 171) 138 = .ok (.goto (-30), 3) := by decide +kernel
theorem d_171_141 : decode (axt_b 171) 141 = .ok (.iconst 1, 1) := by decide +kernel
theorem d_171_142 : decode (axt_b 171) 142 = .ok (.ireturn, 1) := by decide +kernel
theorem c_168S {L : Nat} {xs : Nat → Int32} {fr lo : Nat} {h : ax_H} {x : Int32} : ax_M L xs 168 fr lo [.int x] h (fun r h' => ∃ y : Int32, r = some (.int y) ∧ h' = h) := by
  show ax_A (ax_step L xs) ((168, 0, fr, lo), [(0, .int x)], [], h) _
  refine ar_iload_n 1 d_168_0 rfl rfl ?_
  refine ar_sipush 4 (v := 10240) d_168_1 rfl (by decide) ?_
  refine ar_idiv 5 d_168_4 rfl (by decide) ?_
  refine ar_sipush 8 (v := 512) d_168_5 rfl (by decide) ?_
  refine ar_icmp_eq 28 11 d_168_8 (by decide) rfl (fun c1 => ?_) (fun c1 => ?_)
  · refine ar_iconst 29 (v := 0) d_168_28 rfl (by decide) ?_
    exact ar_iret d_168_29 rfl rfl (⟨_, rfl, rfl⟩)
  · refine ar_iload_n 12 d_168_11 rfl rfl ?_
    refine ar_sipush 15 (v := 512) d_168_12 rfl (by decide) ?_
    refine ar_idiv 16 d_168_15 rfl (by decide) ?_
    refine ar_bipush 18 (v := 20) d_168_16 rfl (by decide) ?_
    refine ar_irem 19 d_168_18 rfl (by decide) ?_
    refine ar_bipush 21 (v := 19) d_168_19 rfl (by decide) ?_
    refine ar_icmp_ge 28 24 d_168_21 (by decide) rfl (fun c2 => ?_) (fun c2 => ?_)
    · refine ar_iconst 29 (v := 0) d_168_28 rfl (by decide) ?_
      exact ar_iret d_168_29 rfl rfl (⟨_, rfl, rfl⟩)
    · refine ar_iconst 25 (v := 1) d_168_24 rfl (by decide) ?_
      refine ar_goto 29 d_168_25 (by decide) ?_
      exact ar_iret d_168_29 rfl rfl (⟨_, rfl, rfl⟩)
set_option maxRecDepth 100000 in
theorem g_167 {L : Nat} {xs : Nat → Int32} {fr lo : Nat} {s0 n nn gg : Nat} {C : Int32} {f : Nat → Int32} {q : Nat} {u b : Nat → Int32} {h0 h : ax_H} {Z : ZT} {D : Nat → Nat → Nat → Int32} {K A : Nat → Int64} {E : Nat → Nat → Int32} {TK : Int64} {Q : Nat → Mg} {ms : List Mg} {x : Int32} (hfr : 1 ≤ fr) (hlo : 40 ≤ lo) (hC : CG s0 n nn gg f) (hG : GS Z s0 n nn gg C f q u b h0 h E TK Q ms D K A) : ax_M L xs 167 fr lo [.ref s0, .int x] h (fun r h' => ∃ y : Int32, r = some (.int y) ∧ h' = h) := by
  have hC0 := hC
  obtain ⟨hs0, hsn, hnn3, hnn, hgg1, hgg, hRg⟩ := hC
  have key : ∀ (j : Nat), j < nn → ∀ (k i : Nat) (cv : Int32), i + k = 280 → ax_A (ax_step L xs) ((167, 40, fr, lo), [(0, .ref s0), (2, .ref (n + 329 + 22 * j + 1)), (3, .int cv), (4, .int (nI i))], [], h) (fun r h' => ∃ y : Int32, r = some (.int y) ∧ h' = h) := by
    intro j hj k
    induction k with
    | zero =>
      intro i cv hi
      have e0 : 280 = i := by omega
      subst e0
      have hGG := hG
      obtain ⟨hS, hG0, hM, hE, hK, hz⟩ := hG
      have hM0 := hM
      obtain ⟨hF, hA, hN, hf, hn, hs, hp0⟩ := hS
      replace hF : ax_hs h [cSt s0 n E, cRk n nn gg C, cOr n nn gg f, cAs n E, cEr n 5 512 E, cEr n 6 100 E, cEr n 7 2 E, cAk n, cEr n 9 512 E, cNa n nn, cEr n 0 48 E, cEr n 1 961 E, cTs n gg E TK, cEr n 59 48 E, cEr n 60 48 E, cEr n 61 48 E, cEr n 62 2400 E, cEr n 63 512 E, cEr n 64 961 E, cEr n 65 961 E] := hF
      refine ar_iload 42 d_167_40 rfl rfl ?_
      refine ar_sipush 45 (v := 280) d_167_42 rfl (by decide) ?_
      refine ar_icmp_ge 78 48 d_167_45 (by decide) rfl (fun _ => ?_) (fun c => absurd (Int32.le_refl _) c)
      refine ar_iload_n 79 d_167_78 rfl rfl ?_
      exact ar_iret d_167_79 rfl rfl (⟨_, rfl, rfl⟩)
    | succ k ih =>
      intro i cv hi
      have hic : i < 280 := by omega
      have hGG := hG
      obtain ⟨hS, hG0, hM, hE, hK, hz⟩ := hG
      have hM0 := hM
      obtain ⟨hF, hA, hN, hf, hn, hs, hp0⟩ := hS
      replace hF : ax_hs h [cSt s0 n E, cRk n nn gg C, cOr n nn gg f, cAs n E, cEr n 5 512 E, cEr n 6 100 E, cEr n 7 2 E, cAk n, cEr n 9 512 E, cNa n nn, cEr n 0 48 E, cEr n 1 961 E, cTs n gg E TK, cEr n 59 48 E, cEr n 60 48 E, cEr n 61 48 E, cEr n 62 2400 E, cEr n 63 512 E, cEr n 64 961 E, cEr n 65 961 E] := hF
      refine ar_iload 42 d_167_40 rfl rfl ?_
      refine ar_sipush 45 (v := 280) d_167_42 rfl (by decide) ?_
      refine ar_icmp_ge 78 48 d_167_45 (by decide) rfl (fun c => absurd c (nI_ge hic (by decide))) (fun _ => ?_)
      refine ar_aload_n 49 d_167_48 rfl rfl ?_
      refine ar_iload 51 d_167_49 rfl rfl ?_
      by_cases hwi : whB (D j 2) i
      · refine ar_call (r := []) (na := 0) (kd := 0) (cm := 20) (fr2 := fr - 1) (lo2 := lo - 23) 54 d_167_51 (ar_hoV (as := [.int (nI i)]) rfl rfl rfl (hf.g ((hG0 j hj).1.at 1 rfl) (by unfold ASA NTA; omega))) rfl (by omega) (show lo - 23 + (19 + 4) = lo by omega) (Nat.le_of_ble_eq_true rfl) (Nat.le_of_ble_eq_true rfl) (c_20T hic hwi (((hG0 j hj).1.fr hf (NWf (fun x hx z => by unfold ASA NTA at z; omega))).sub (F' := [cDk (n + 329 + 22 * j) (D j), cAr (n + 329 + 22 * j) 2 35840 (D j)]) [1, 2] rfl rfl)) ?_
        intro v hh hq
        obtain ⟨rfl, ehh⟩ := hq
        rw [ehh]
        clear ehh
        refine ar_if_eq 72 57 d_167_54 (by decide) rfl (fun c => absurd c (by decide)) (fun _ => ?_)
        refine ar_aload_n 58 d_167_57 rfl rfl ?_
        refine ar_iload 60 d_167_58 rfl rfl ?_
        refine ar_call (r := []) (na := 0) (kd := 0) (cm := 21) (fr2 := fr - 1) (lo2 := lo - 21) 63 d_167_60 (ar_hoV (as := [.int (nI i)]) rfl rfl rfl (hf.g ((hG0 j hj).1.at 1 rfl) (by unfold ASA NTA; omega))) rfl (by omega) (show lo - 21 + (19 + 2) = lo by omega) (Nat.le_of_ble_eq_true rfl) (Nat.le_of_ble_eq_true rfl) (c_21 hic (((hG0 j hj).1.fr hf (NWf (fun x hx z => by unfold ASA NTA at z; omega))).sub (F' := [cDk (n + 329 + 22 * j) (D j), cAr (n + 329 + 22 * j) 2 35840 (D j)]) [1, 2] rfl rfl)) ?_
        intro v hh hq
        obtain ⟨rfl, ehh⟩ := hq
        rw [ehh]
        clear ehh
        refine ar_call (r := []) (na := 0) (kd := 0) (cm := 168) (fr2 := fr - 1) (lo2 := lo - 20) 66 d_167_63 (ar_hoS (as := [.int (D j 2 (i * 128 + 1))]) rfl rfl rfl) rfl (by omega) (show lo - 20 + (19 + 1) = lo by omega) (Nat.le_of_ble_eq_true rfl) (Nat.le_of_ble_eq_true rfl) (c_168S) ?_
        intro v hh hq
        obtain ⟨y, rfl, ehh⟩ := hq
        rw [ehh]
        clear ehh
        refine ar_if_eq 72 69 d_167_66 (by decide) rfl (fun c2 => ?_) (fun c2 => ?_)
        · refine ar_iinc 75 [(0, .ref s0), (2, .ref (n + 329 + 22 * j + 1)), (3, .int cv), (4, .int (nI (i + 1)))] d_167_72 rfl rfl (nI_1 i) (by decide) rfl ?_
          refine ar_goto 40 d_167_75 (by decide) ?_
          exact ih (i + 1) cv (by omega)
        · refine ar_iinc 72 [(0, .ref s0), (2, .ref (n + 329 + 22 * j + 1)), (3, .int (cv + 1)), (4, .int (nI i))] d_167_69 rfl rfl (rfl) (by decide) rfl ?_
          refine ar_iinc 75 [(0, .ref s0), (2, .ref (n + 329 + 22 * j + 1)), (3, .int (cv + 1)), (4, .int (nI (i + 1)))] d_167_72 rfl rfl (nI_1 i) (by decide) rfl ?_
          refine ar_goto 40 d_167_75 (by decide) ?_
          exact ih (i + 1) _ (by omega)
      · refine ar_call (r := []) (na := 0) (kd := 0) (cm := 20) (fr2 := fr - 1) (lo2 := lo - 23) 54 d_167_51 (ar_hoV (as := [.int (nI i)]) rfl rfl rfl (hf.g ((hG0 j hj).1.at 1 rfl) (by unfold ASA NTA; omega))) rfl (by omega) (show lo - 23 + (19 + 4) = lo by omega) (Nat.le_of_ble_eq_true rfl) (Nat.le_of_ble_eq_true rfl) (c_20F hic hwi (((hG0 j hj).1.fr hf (NWf (fun x hx z => by unfold ASA NTA at z; omega))).sub (F' := [cDk (n + 329 + 22 * j) (D j), cAr (n + 329 + 22 * j) 2 35840 (D j)]) [1, 2] rfl rfl)) ?_
        intro v hh hq
        obtain ⟨rfl, ehh⟩ := hq
        rw [ehh]
        clear ehh
        refine ar_if_eq 72 57 d_167_54 (by decide) rfl (fun _ => ?_) (fun c => absurd (by decide) c)
        refine ar_iinc 75 [(0, .ref s0), (2, .ref (n + 329 + 22 * j + 1)), (3, .int cv), (4, .int (nI (i + 1)))] d_167_72 rfl rfl (nI_1 i) (by decide) rfl ?_
        refine ar_goto 40 d_167_75 (by decide) ?_
        exact ih (i + 1) cv (by omega)
  show ax_A (ax_step L xs) ((167, 0, fr, lo), [(0, .ref s0), (1, .int x)], [], h) _
  have hGG := hG
  obtain ⟨hS, hG0, hM, hE, hK, hz⟩ := hG
  have hM0 := hM
  obtain ⟨hF, hA, hN, hf, hn, hs, hp0⟩ := hS
  replace hF : ax_hs h [cSt s0 n E, cRk n nn gg C, cOr n nn gg f, cAs n E, cEr n 5 512 E, cEr n 6 100 E, cEr n 7 2 E, cAk n, cEr n 9 512 E, cNa n nn, cEr n 0 48 E, cEr n 1 961 E, cTs n gg E TK, cEr n 59 48 E, cEr n 60 48 E, cEr n 61 48 E, cEr n 62 2400 E, cEr n 63 512 E, cEr n 64 961 E, cEr n 65 961 E] := hF
  refine ar_iload_n 1 d_167_0 rfl rfl ?_
  refine ar_if_lt 13 4 d_167_1 (by decide) rfl (fun c1 => ?_) (fun c1 => ?_)
  · refine ar_iconst 14 (v := -1) d_167_13 rfl (by decide) ?_
    exact ar_iret d_167_14 rfl rfl (⟨_, rfl, rfl⟩)
  · refine ar_iload_n 5 d_167_4 rfl rfl ?_
    refine ar_aload_n 6 d_167_5 rfl rfl ?_
    refine ar_getf 9 d_167_6 rfl (ci := 0) (k := 3) rfl (hF.at 0 rfl) rfl ?_
    refine ar_alen 10 d_167_9 rfl (hF.at 9 rfl) (by decide) ?_
    refine ar_icmp_lt 15 13 d_167_10 (by decide) rfl (fun c2 => ?_) (fun c2 => ?_)
    · obtain ⟨j, hj, rfl⟩ := natLt c1 (by omega) (show x < nI nn from c2)
      refine ar_aload_n 16 d_167_15 rfl rfl ?_
      refine ar_getf 19 d_167_16 rfl (ci := 0) (k := 10) rfl (hF.at 0 rfl) rfl ?_
      refine ar_if_ne 25 22 d_167_19 (by decide) rfl (fun c3 => ?_) (fun c3 => ?_)
      · refine ar_aload_n 26 d_167_25 rfl rfl ?_
        refine ar_getf 29 d_167_26 rfl (ci := 0) (k := 3) rfl (hF.at 0 rfl) rfl ?_
        refine ar_iload_n 30 d_167_29 rfl rfl ?_
        refine ar_aald 31 d_167_30 rfl (hF.at 9 rfl) rfl (vin hj (by omega)) ?_
        refine ar_tv (v' := .ref (n + 329 + 22 * j)) (ndr hnn hj) ?_
        refine ar_getf 34 d_167_31 rfl (ci := 7) (k := 3) rfl (hf.g ((hG0 j hj).1.at 0 rfl) (by unfold ASA NTA; omega)) rfl ?_
        refine ar_astore_n 35 [(0, .ref s0), (1, .int (nI j)), (2, .ref (n + 329 + 22 * j + 1))] d_167_34 rfl (by decide) rfl ?_
        refine ar_iconst 36 (v := 0) d_167_35 rfl (by decide) ?_
        refine ar_istore_n 37 [(0, .ref s0), (1, .int (nI j)), (2, .ref (n + 329 + 22 * j + 1)), (3, .int 0)] d_167_36 rfl (by decide) rfl ?_
        refine ar_iconst 38 (v := 0) d_167_37 rfl (by decide) ?_
        refine ar_istore 40 [(0, .ref s0), (1, .int (nI j)), (2, .ref (n + 329 + 22 * j + 1)), (3, .int 0), (4, .int 0)] d_167_38 rfl (by decide) rfl ?_
        refine ar_wk [0, 2, 3, 4] rfl (by simp) ?_
        exact key j hj 280 0 _ (by omega)
      · refine ar_bipush 24 (v := -6) d_167_22 rfl (by decide) ?_
        exact ar_iret d_167_24 rfl rfl (⟨_, rfl, rfl⟩)
    · refine ar_iconst 14 (v := -1) d_167_13 rfl (by decide) ?_
      exact ar_iret d_167_14 rfl rfl (⟨_, rfl, rfl⟩)
def odV (f : Nat → Int32) (nn gg : Nat) (C : Int32) (E : Nat → Nat → Int32) (D : Nat → Nat → Nat → Int32) (k s r i : Int32) : Int32 :=
  if whrV f nn gg C E k s r < 0 then whrV f nn gg C E k s r else
  if i < 0 ∨ (if E 60 (E 0 k.toNatClampNeg).toNatClampNeg - s * 448 < 448 then E 60 (E 0 k.toNatClampNeg).toNatClampNeg - s * 448 else 448) ≤ i ∨ fst1 (fun i_1 => decide (D (whrV f nn gg C E k s r).toNatClampNeg 2 (i_1 * 128 + 1) = tgA (E 59) (E 64) (stpV E k s).toNatClampNeg ∧ ¬ fstB (D (whrV f nn gg C E k s r).toNatClampNeg 2 (i_1 * 128)) = 0 ∧ fstB (D (whrV f nn gg C E k s r).toNatClampNeg 2 (i_1 * 128)) = lstB (D (whrV f nn gg C E k s r).toNatClampNeg 2 (i_1 * 128 + 127)))) 280 0 < 0 then -2
  else bytA (D (whrV f nn gg C E k s r).toNatClampNeg 2) ((fst1 (fun i_1 => decide (D (whrV f nn gg C E k s r).toNatClampNeg 2 (i_1 * 128 + 1) = tgA (E 59) (E 64) (stpV E k s).toNatClampNeg ∧ ¬ fstB (D (whrV f nn gg C E k s r).toNatClampNeg 2 (i_1 * 128)) = 0 ∧ fstB (D (whrV f nn gg C E k s r).toNatClampNeg 2 (i_1 * 128)) = lstB (D (whrV f nn gg C E k s r).toNatClampNeg 2 (i_1 * 128 + 127)))) 280 0).toNatClampNeg * 512 + 60 + i.toNatClampNeg)
theorem whr_c {nn gg : Nat} {f : Nat → Int32} {C : Int32} {E : Nat → Nat → Int32} (hR : Rg nn f) (k s r : Int32) : whrV f nn gg C E k s r < 0 ∨ ∃ j : Nat, j < nn ∧ whrV f nn gg C E k s r = nI j ∧ ¬ stpV E k s < 0 := by
  unfold whrV
  split
  · exact Or.inl (by decide)
  · split
    · exact Or.inl (by decide)
    · next h =>
      rcases nof_nd (r := r) (st := E 4 14) hR nn (grp (E 59) gg (stpV E k s).toNatClampNeg * nn) 0 with e | ⟨j, hj, e⟩
      · exact Or.inl (by rw [e]; decide)
      · exact Or.inr ⟨j, hj, e, fun z => h (Or.inl z)⟩
set_option maxRecDepth 100000 in
theorem g_166 {L : Nat} {xs : Nat → Int32} {fr lo : Nat} {s0 n nn gg : Nat} {C : Int32} {f : Nat → Int32} {q : Nat} {u b : Nat → Int32} {h0 h : ax_H} {Z : ZT} {D : Nat → Nat → Nat → Int32} {K A : Nat → Int64} {E : Nat → Nat → Int32} {TK : Int64} {Q : Nat → Mg} {ms : List Mg} {x y z v : Int32} (hfr : 3 ≤ fr) (hlo : 110 ≤ lo) (hC : CG s0 n nn gg f) (hG : GS Z s0 n nn gg C f q u b h0 h E TK Q ms D K A) : ax_M L xs 166 fr lo [.ref s0, .int x, .int y, .int z, .int v] h (fun r h' => r = some (.int (odV f nn gg C E D x y z v)) ∧ h' = h) := by
  have hC0 := hC
  have hGk := hG
  show ax_A (ax_step L xs) ((166, 0, fr, lo), [(0, .ref s0), (1, .int x), (2, .int y), (3, .int z), (4, .int v)], [], h) _
  obtain ⟨hs0, hsn, hnn3, hnn, hgg1, hgg, hRg⟩ := hC
  have hGG := hG
  obtain ⟨hS, hG0, hM, hE, hK, hz⟩ := hG
  have hM0 := hM
  obtain ⟨hF, hA, hN, hf, hn, hs, hp0⟩ := hS
  replace hF : ax_hs h [cSt s0 n E, cRk n nn gg C, cOr n nn gg f, cAs n E, cEr n 5 512 E, cEr n 6 100 E, cEr n 7 2 E, cAk n, cEr n 9 512 E, cNa n nn, cEr n 0 48 E, cEr n 1 961 E, cTs n gg E TK, cEr n 59 48 E, cEr n 60 48 E, cEr n 61 48 E, cEr n 62 2400 E, cEr n 63 512 E, cEr n 64 961 E, cEr n 65 961 E] := hF
  refine ar_aload_n 1 d_166_0 rfl rfl ?_
  refine ar_iload_n 2 d_166_1 rfl rfl ?_
  refine ar_iload_n 3 d_166_2 rfl rfl ?_
  refine ar_iload_n 4 d_166_3 rfl rfl ?_
  refine ar_call (r := []) (na := 0) (kd := 0) (cm := 164) (fr2 := fr - 1) (lo2 := lo - 24) 7 d_166_4 (ar_hoV (as := [.int x, .int y, .int z]) rfl rfl rfl (hF.at 0 rfl)) rfl (by omega) (show lo - 24 + (19 + 5) = lo by omega) (Nat.le_of_ble_eq_true rfl) (Nat.le_of_ble_eq_true rfl) (g_164 (by omega) (by omega) hC0 hGk) ?_
  intro v hh hq
  obtain ⟨rfl, ehh⟩ := hq
  rw [ehh]
  clear ehh
  rcases whr_c (gg := gg) (C := C) (E := E) hRg x y z with hw | ⟨j, hj, ew, hst⟩
  · refine ar_istore 9 [(0, .ref s0), (1, .int x), (2, .int y), (3, .int z), (4, .int v), (5, .int (whrV f nn gg C E x y z))] d_166_7 rfl (by decide) rfl ?_
    refine ar_iload 11 d_166_9 rfl rfl ?_
    refine ar_if_ge 17 14 d_166_11 (by decide) rfl (fun c => absurd c (Int32.not_le.mpr hw)) (fun _ => ?_)
    refine ar_iload 16 d_166_14 rfl rfl ?_
    exact ar_iret d_166_16 rfl rfl (⟨by unfold odV; rw [if_pos hw], rfl⟩)
  · refine ar_top (x' := nI j) ew ?_
    obtain ⟨k, sx, fi, hk, hsx, hfi, rfl, rfl, efi, est, hv⟩ := (stp_c hK x y).resolve_left (fun z => hst (by rw [z]; decide))
    have ek : (nI k).toNatClampNeg = k := nI_clamp (by omega)
    have ef : (nI fi).toNatClampNeg = fi := nI_clamp (by omega)
    have ej : (nI j).toNatClampNeg = j := nI_clamp (by omega)
    refine ar_istore 9 [(0, .ref s0), (1, .int (nI k)), (2, .int (nI sx)), (3, .int z), (4, .int v), (5, .int (nI j))] d_166_7 rfl (by decide) rfl ?_
    refine ar_iload 11 d_166_9 rfl rfl ?_
    refine ar_if_ge 17 14 d_166_11 (by decide) rfl (fun _ => ?_) (fun c => absurd (nI_pos' (by omega)) c)
    refine ar_sipush 20 (v := 448) d_166_17 rfl (by decide) ?_
    refine ar_aload_n 21 d_166_20 rfl rfl ?_
    refine ar_getf 24 d_166_21 rfl (ci := 0) (k := 4) rfl (hF.at 0 rfl) rfl ?_
    refine ar_getf 27 d_166_24 rfl (ci := 6) (k := 2) rfl (hF.at 12 rfl) rfl ?_
    refine ar_aload_n 28 d_166_27 rfl rfl ?_
    refine ar_getf 31 d_166_28 rfl (ci := 0) (k := 5) rfl (hF.at 0 rfl) rfl ?_
    refine ar_iload_n 32 d_166_31 rfl rfl ?_
    refine ar_iald 33 d_166_32 rfl (hF.at 10 rfl) (vin (by omega) (by omega)) ?_
    refine ar_top (x' := nI fi) (by rw [ek]; exact efi) ?_
    refine ar_iald 34 d_166_33 rfl (hF.at 14 rfl) (vin (by omega) (by omega)) ?_
    refine ar_top (x' := E 60 fi) (by rw [ef]) ?_
    refine ar_iload_n 35 d_166_34 rfl rfl ?_
    refine ar_sipush 38 (v := 448) d_166_35 rfl (by decide) ?_
    refine ar_imul 39 d_166_38 rfl ?_
    refine ar_isub 40 d_166_39 rfl ?_
    refine ar_min 43 d_166_40 rfl rfl (by omega) (by show 0 + 13 ≤ lo; omega) (w := if E 60 fi - (nI sx) * 448 < 448 then E 60 fi - (nI sx) * 448 else 448) (rfl) ?_
    have hlen : (if E 60 fi - (nI sx) * 448 < 448 then E 60 fi - (nI sx) * 448 else 448) ≤ 448 := by
      split
      · next q => exact Int32.le_of_lt q
      · exact Int32.le_refl _
    refine ar_istore 45 [(0, .ref s0), (1, .int (nI k)), (2, .int (nI sx)), (3, .int z), (4, .int v), (5, .int (nI j)), (6, .int (if E 60 fi - (nI sx) * 448 < 448 then E 60 fi - (nI sx) * 448 else 448))] d_166_43 rfl (by decide) rfl ?_
    refine ar_aload_n 46 d_166_45 rfl rfl ?_
    refine ar_getf 49 d_166_46 rfl (ci := 0) (k := 3) rfl (hF.at 0 rfl) rfl ?_
    refine ar_iload 51 d_166_49 rfl rfl ?_
    refine ar_aald 52 d_166_51 rfl (hF.at 9 rfl) rfl (vin hj (by omega)) ?_
    refine ar_tv (v' := .ref (n + 329 + 22 * j)) (ndr hnn hj) ?_
    refine ar_getf 55 d_166_52 rfl (ci := 7) (k := 3) rfl (hf.g ((hG0 j hj).1.at 0 rfl) (by unfold ASA NTA; omega)) rfl ?_
    refine ar_aload_n 56 d_166_55 rfl rfl ?_
    refine ar_getf 59 d_166_56 rfl (ci := 0) (k := 4) rfl (hF.at 0 rfl) rfl ?_
    refine ar_aload_n 60 d_166_59 rfl rfl ?_
    refine ar_iload_n 61 d_166_60 rfl rfl ?_
    refine ar_iload_n 62 d_166_61 rfl rfl ?_
    refine ar_call (r := [.ref (n + 320), .ref (n + 329 + 22 * j + 1)]) (na := 0) (kd := 0) (cm := 165) (fr2 := fr - 1) (lo2 := lo - 23) 65 d_166_62 (ar_hoV (as := [.int (nI k), .int (nI sx)]) rfl rfl rfl (hF.at 0 rfl)) rfl (by omega) (show lo - 23 + (19 + 4) = lo by omega) (Nat.le_of_ble_eq_true rfl) (Nat.le_of_ble_eq_true rfl) (g_165 (by omega) (by omega) hC0 hGk) ?_
    intro v hh hq
    obtain ⟨rfl, ehh⟩ := hq
    rw [ehh]
    clear ehh
    refine ar_top (x' := nI (fi * 20 + sx)) est ?_
    refine ar_call (r := [.ref (n + 329 + 22 * j + 1)]) (na := 0) (kd := 0) (cm := 116) (fr2 := fr - 1) (lo2 := lo - 22) 68 d_166_65 (ar_hoV (as := [.int (nI (fi * 20 + sx))]) rfl rfl rfl (hF.at 12 rfl)) rfl (by omega) (show lo - 22 + (19 + 3) = lo by omega) (Nat.le_of_ble_eq_true rfl) (Nat.le_of_ble_eq_true rfl) (c_116 (a := fi * 20 + sx) (by omega) (hF.at 12 rfl) (hF.at 13 rfl) (hF.at 18 rfl)) ?_
    intro v hh hq
    obtain ⟨rfl, ehh⟩ := hq
    rw [ehh]
    clear ehh
    refine ar_call (r := []) (na := 0) (kd := 0) (cm := 156) (fr2 := fr - 1) (lo2 := lo - 22) 71 d_166_68 (ar_hoV (as := [.int (tgA (E 59) (E 64) (fi * 20 + sx))]) rfl rfl rfl (hf.g ((hG0 j hj).1.at 1 rfl) (by unfold ASA NTA; omega))) rfl (by omega) (show lo - 22 + (19 + 3) = lo by omega) (Nat.le_of_ble_eq_true rfl) (Nat.le_of_ble_eq_true rfl) (c_156 (by omega) (by omega) (((hG0 j hj).1.fr hf (NWf (fun x hx z => by unfold ASA NTA at z; omega))).sub (F' := [cDk (n + 329 + 22 * j) (D j), cAr (n + 329 + 22 * j) 2 35840 (D j)]) [1, 2] rfl rfl)) ?_
    intro v hh hq
    obtain ⟨rfl, ehh⟩ := hq
    rw [ehh]
    clear ehh
    rcases fst1_ok (P := (fun i_1 => decide (D j 2 (i_1 * 128 + 1) = tgA (E 59) (E 64) (fi * 20 + sx) ∧ ¬ fstB (D j 2 (i_1 * 128)) = 0 ∧ fstB (D j 2 (i_1 * 128)) = lstB (D j 2 (i_1 * 128 + 127))))) 280 with e | ⟨s, hs8, e, hsp⟩
    · refine ar_top (x' := -1) e ?_
      refine ar_istore 73 [(0, .ref s0), (1, .int (nI k)), (2, .int (nI sx)), (3, .int z), (4, .int v), (5, .int (nI j)), (6, .int (if E 60 fi - (nI sx) * 448 < 448 then E 60 fi - (nI sx) * 448 else 448)), (7, .int (-1))] d_166_71 rfl (by decide) rfl ?_
      refine ar_iload 75 d_166_73 rfl rfl ?_
      refine ar_if_lt 90 78 d_166_75 (by decide) rfl (fun c1 => ?_) (fun c1 => ?_)
      · refine ar_bipush 92 (v := -2) d_166_90 rfl (by decide) ?_
        exact ar_iret d_166_92 rfl rfl (⟨by unfold odV; rw [if_neg (by rw [ew]; exact nI_pos (by omega)), ew, ej, est, nI_clamp (show fi * 20 + sx < 2 ^ 31 by omega), ek, efi, ef, e]; rw [if_pos (Or.inl c1)], rfl⟩)
      · refine ar_iload 80 d_166_78 rfl rfl ?_
        refine ar_iload 82 d_166_80 rfl rfl ?_
        refine ar_icmp_ge 90 85 d_166_82 (by decide) rfl (fun c2 => ?_) (fun c2 => ?_)
        · refine ar_bipush 92 (v := -2) d_166_90 rfl (by decide) ?_
          exact ar_iret d_166_92 rfl rfl (⟨by unfold odV; rw [if_neg (by rw [ew]; exact nI_pos (by omega)), ew, ej, est, nI_clamp (show fi * 20 + sx < 2 ^ 31 by omega), ek, efi, ef, e]; rw [if_pos (Or.inr (Or.inl c2))], rfl⟩)
        · refine ar_iload 87 d_166_85 rfl rfl ?_
          refine ar_if_ge 93 90 d_166_87 (by decide) rfl (fun c => absurd c (by decide)) (fun _ => ?_)
          refine ar_bipush 92 (v := -2) d_166_90 rfl (by decide) ?_
          exact ar_iret d_166_92 rfl rfl (⟨by unfold odV; rw [if_neg (by rw [ew]; exact nI_pos (by omega)), ew, ej, est, nI_clamp (show fi * 20 + sx < 2 ^ 31 by omega), ek, efi, ef, e]; rw [if_pos (Or.inr (Or.inr (by decide)))], rfl⟩)
    · refine ar_top (x' := nI s) e ?_
      refine ar_istore 73 [(0, .ref s0), (1, .int (nI k)), (2, .int (nI sx)), (3, .int z), (4, .int v), (5, .int (nI j)), (6, .int (if E 60 fi - (nI sx) * 448 < 448 then E 60 fi - (nI sx) * 448 else 448)), (7, .int (nI s))] d_166_71 rfl (by decide) rfl ?_
      refine ar_iload 75 d_166_73 rfl rfl ?_
      refine ar_if_lt 90 78 d_166_75 (by decide) rfl (fun c1 => ?_) (fun c1 => ?_)
      · refine ar_bipush 92 (v := -2) d_166_90 rfl (by decide) ?_
        exact ar_iret d_166_92 rfl rfl (⟨by unfold odV; rw [if_neg (by rw [ew]; exact nI_pos (by omega)), ew, ej, est, nI_clamp (show fi * 20 + sx < 2 ^ 31 by omega), ek, efi, ef, e]; rw [if_pos (Or.inl c1)], rfl⟩)
      · refine ar_iload 80 d_166_78 rfl rfl ?_
        refine ar_iload 82 d_166_80 rfl rfl ?_
        refine ar_icmp_ge 90 85 d_166_82 (by decide) rfl (fun c2 => ?_) (fun c2 => ?_)
        · refine ar_bipush 92 (v := -2) d_166_90 rfl (by decide) ?_
          exact ar_iret d_166_92 rfl rfl (⟨by unfold odV; rw [if_neg (by rw [ew]; exact nI_pos (by omega)), ew, ej, est, nI_clamp (show fi * 20 + sx < 2 ^ 31 by omega), ek, efi, ef, e]; rw [if_pos (Or.inr (Or.inl c2))], rfl⟩)
        · obtain ⟨i, hi, rfl⟩ := natOf c1
          have hi4 : i < 448 := (nI_ltI hi (by decide)).mp (Int32.lt_of_lt_of_le (Int32.not_le.mp c2) hlen)
          refine ar_iload 87 d_166_85 rfl rfl ?_
          refine ar_if_ge 93 90 d_166_87 (by decide) rfl (fun _ => ?_) (fun c => absurd (nI_pos' (by omega)) c)
          refine ar_aload_n 94 d_166_93 rfl rfl ?_
          refine ar_getf 97 d_166_94 rfl (ci := 0) (k := 3) rfl (hF.at 0 rfl) rfl ?_
          refine ar_iload 99 d_166_97 rfl rfl ?_
          refine ar_aald 100 d_166_99 rfl (hF.at 9 rfl) rfl (vin hj (by omega)) ?_
          refine ar_tv (v' := .ref (n + 329 + 22 * j)) (ndr hnn hj) ?_
          refine ar_getf 103 d_166_100 rfl (ci := 7) (k := 3) rfl (hf.g ((hG0 j hj).1.at 0 rfl) (by unfold ASA NTA; omega)) rfl ?_
          refine ar_getf 106 d_166_103 rfl (ci := 8) (k := 0) rfl (hf.g ((hG0 j hj).1.at 1 rfl) (by unfold ASA NTA; omega)) rfl ?_
          refine ar_iload 108 d_166_106 rfl rfl ?_
          refine ar_sipush 111 (v := 512) d_166_108 rfl (by decide) ?_
          refine ar_imul 112 d_166_111 rfl ?_
          refine ar_top (x' := nI (s * 512)) (pk_mul s 512) ?_
          refine ar_bipush 114 (v := 60) d_166_112 rfl (by decide) ?_
          refine ar_iadd 115 d_166_114 rfl ?_
          refine ar_top (x' := nI (s * 512 + 60)) (nI_add _ 60) ?_
          refine ar_iload 117 d_166_115 rfl rfl ?_
          refine ar_iadd 118 d_166_117 rfl ?_
          refine ar_top (x' := nI (s * 512 + 60 + i)) (nI_add _ _) ?_
          refine ar_call (r := []) (na := 0) (kd := 0) (cm := 162) (fr2 := fr - 1) (lo2 := lo - 21) 121 d_166_118 (ar_hoS (as := [.ref (n + 329 + 22 * j + 2), .int (nI (s * 512 + 60 + i))]) rfl rfl rfl) rfl (by omega) (show lo - 21 + (19 + 2) = lo by omega) (Nat.le_of_ble_eq_true rfl) (Nat.le_of_ble_eq_true rfl) (c_162 (N := 35840) (by decide) (by omega) (((hG0 j hj).1.fr hf (NWf (fun x hx z => by unfold ASA NTA at z; omega))).at 2 rfl)) ?_
          intro v hh hq
          obtain ⟨rfl, ehh⟩ := hq
          rw [ehh]
          clear ehh
          exact ar_iret d_166_121 rfl rfl (⟨by unfold odV; rw [if_neg (by rw [ew]; exact nI_pos (by omega)), ew, ej, est, nI_clamp (show fi * 20 + sx < 2 ^ 31 by omega), ek, efi, ef, e]; rw [if_neg (fun w => w.elim c1 (fun w => w.elim c2 (fun w => absurd w (nI_pos (by omega))))), nI_clamp (show s < 2 ^ 31 by omega), nI_clamp (show i < 2 ^ 31 by omega)], rfl⟩)
def seenI (nn : Nat) (E : Nat → Nat → Int32) : Prop := ∀ x, x < 961 → ¬ E 65 x = 0 → inR (nn * 280) (E 1 x)
set_option maxRecDepth 100000 in
theorem gx_171 {L : Nat} {xs : Nat → Int32} {fr lo : Nat} {s0 n nn gg : Nat} {C : Int32} {f : Nat → Int32} {q : Nat} {u b : Nat → Int32} {hb h : ax_H} {Z : ZT} {D : Nat → Nat → Nat → Int32} {K A : Nat → Int64} {E : Nat → Nat → Int32} {TK : Int64} {Q : Nat → Mg} {ms : List Mg}  (hfr : 0 ≤ fr) (hlo : 0 ≤ lo) (hC : CG s0 n nn gg f) (hG0 : GN Z n nn gg C f hb D K A) (hS : AS s0 n nn gg C f q u b hb h E TK Q ms) {a pl : Nat} (ha : a < 961) (hpl : pl < nn * 280) (hsI : seenI nn E) : ax_M L xs 171 fr lo [.ref s0, .int (nI a), .int (nI pl)] h (fun r h' => ∃ (y : Int32) (sf hv : Nat → Int32), r = some (.int y) ∧ AS s0 n nn gg C f q u b hb h' (va_up (va_up E 1 sf) 65 hv) TK Q ms ∧ seenI nn (va_up (va_up E 1 sf) 65 hv)) := by
  have hC0 := hC
  show ax_A (ax_step L xs) ((171, 0, fr, lo), [(0, .ref s0), (1, .int (nI a)), (2, .int (nI pl))], [], h) _
  obtain ⟨hs0, hsn, hnn3, hnn, hgg1, hgg, hRg⟩ := hC
  obtain ⟨hF, hA, hN, hf, hn, hs, hp0⟩ := hS
  replace hF : ax_hs h [cSt s0 n E, cRk n nn gg C, cOr n nn gg f, cAs n E, cEr n 5 512 E, cEr n 6 100 E, cEr n 7 2 E, cAk n, cEr n 9 512 E, cNa n nn, cEr n 0 48 E, cEr n 1 961 E, cTs n gg E TK, cEr n 59 48 E, cEr n 60 48 E, cEr n 61 48 E, cEr n 62 2400 E, cEr n 63 512 E, cEr n 64 961 E, cEr n 65 961 E] := hF
  refine ar_aload_n 1 d_171_0 rfl rfl ?_
  refine ar_getf 4 d_171_1 rfl (ci := 0) (k := 4) rfl (hF.at 0 rfl) rfl ?_
  refine ar_getf 7 d_171_4 rfl (ci := 6) (k := 7) rfl (hF.at 12 rfl) rfl ?_
  refine ar_iload_n 8 d_171_7 rfl rfl ?_
  refine ar_iald 9 d_171_8 rfl (hF.at 19 rfl) (vin (by omega) (by omega)) ?_
  refine ar_top (x' := E 65 a) (by rw [nI_clamp (show a < 2 ^ 31 by omega)]) ?_
  refine ar_if_ne 19 12 d_171_9 (by decide) rfl (fun c1 => ?_) (fun c1 => ?_)
  · obtain ⟨p, hp0_, ep⟩ := hsI a ha c1
    refine ar_aload_n 20 d_171_19 rfl rfl ?_
    refine ar_getf 23 d_171_20 rfl (ci := 0) (k := 4) rfl (hF.at 0 rfl) rfl ?_
    refine ar_getf 26 d_171_23 rfl (ci := 6) (k := 7) rfl (hF.at 12 rfl) rfl ?_
    refine ar_iload_n 27 d_171_26 rfl rfl ?_
    refine ar_dup2 28 d_171_27 rfl rfl rfl ?_
    refine ar_iald 29 d_171_28 rfl (hF.at 19 rfl) (vin (by omega) (by omega)) ?_
    refine ar_top (x' := E 65 a) (by rw [nI_clamp (show a < 2 ^ 31 by omega)]) ?_
    refine ar_iconst 30 (v := 1) d_171_29 rfl (by decide) ?_
    refine ar_iload_n 31 d_171_30 rfl rfl ?_
    refine ar_sipush 34 (v := 280) d_171_31 rfl (by decide) ?_
    refine ar_idiv 35 d_171_34 rfl (by decide) ?_
    refine ar_top (x' := nI (pl / 280)) (pk_div (d := 280) (by omega) (by omega) (by omega)) ?_
    refine ar_ishl 36 d_171_35 rfl ?_
    refine ar_ior 37 d_171_36 rfl ?_
    refine ar_iast 38 d_171_37 rfl (hF.at 19 rfl) (vin (by omega) (by omega)) ?_
    replace hF : ax_hs (ax_put h (n + 327) (.inl (0, 961, .inl (upd (E 65) (nI a).toNatClampNeg ((E 65 a) ||| (1 <<< ((nI (pl / 280)) &&& 31))))))) [cSt s0 n E, cRk n nn gg C, cOr n nn gg f, cAs n E, cEr n 5 512 E, cEr n 6 100 E, cEr n 7 2 E, cAk n, cEr n 9 512 E, cNa n nn, cEr n 0 48 E, cEr n 1 961 E, cTs n gg E TK, cEr n 59 48 E, cEr n 60 48 E, cEr n 61 48 E, cEr n 62 2400 E, cEr n 63 512 E, cEr n 64 961 E, (n + 327, .inl (0, 961, .inl (upd (E 65) (nI a).toNatClampNeg ((E 65 a) ||| (1 <<< ((nI (pl / 280)) &&& 31))))))] := hF.put 19 _ rfl rfl
    replace hf := hf.put (a := n + 327) (c := .inl (0, 961, .inl (upd (E 65) (nI a).toNatClampNeg ((E 65 a) ||| (1 <<< ((nI (pl / 280)) &&& 31)))))) (Or.inr (by omega))
    replace hN := hN.put (a := n + 327) (c := .inl (0, 961, .inl (upd (E 65) (nI a).toNatClampNeg ((E 65 a) ||| (1 <<< ((nI (pl / 280)) &&& 31)))))) (by omega)
    replace hA := hA.put (a := n + 327) (c := .inl (0, 961, .inl (upd (E 65) (nI a).toNatClampNeg ((E 65 a) ||| (1 <<< ((nI (pl / 280)) &&& 31)))))) (by omega)
    replace hn : (ax_put h (n + 327) (.inl (0, 961, .inl (upd (E 65) (nI a).toNatClampNeg ((E 65 a) ||| (1 <<< ((nI (pl / 280)) &&& 31))))))).1 = hb.1 := hn
    replace hs : (ax_put h (n + 327) (.inl (0, 961, .inl (upd (E 65) (nI a).toNatClampNeg ((E 65 a) ||| (1 <<< ((nI (pl / 280)) &&& 31))))))).2.1 = hb.2.1 := hs
    generalize ax_put h (n + 327) (.inl (0, 961, .inl (upd (E 65) (nI a).toNatClampNeg ((E 65 a) ||| (1 <<< ((nI (pl / 280)) &&& 31)))))) = hp_1 at hF hf hA hN hn hs ⊢
    replace hF : ax_hs hp_1 [cSt s0 n E, cRk n nn gg C, cOr n nn gg f, cAs n E, cEr n 5 512 E, cEr n 6 100 E, cEr n 7 2 E, cAk n, cEr n 9 512 E, cNa n nn, cEr n 0 48 E, cEr n 1 961 E, cTs n gg E TK, cEr n 59 48 E, cEr n 60 48 E, cEr n 61 48 E, cEr n 62 2400 E, cEr n 63 512 E, cEr n 64 961 E, (n + 327, .inl (0, 961, .inl (upd (E 65) a ((E 65 a) ||| (1 <<< ((nI (pl / 280)) &&& 31))))))] := by
      have e := hF
      rw [nI_clamp (show a < 2 ^ 31 by omega)] at e
      exact e
    have hp : p < nn * 280 := hp0_
    have esf : (E 1) a = nI p := ep
    have hj1 : p / 280 < nn := by omega
    have hj2 : pl / 280 < nn := by omega
    refine ar_aload_n 39 d_171_38 rfl rfl ?_
    refine ar_getf 42 d_171_39 rfl (ci := 0) (k := 3) rfl (hF.at 0 rfl) rfl ?_
    refine ar_aload_n 43 d_171_42 rfl rfl ?_
    refine ar_getf 46 d_171_43 rfl (ci := 0) (k := 6) rfl (hF.at 0 rfl) rfl ?_
    refine ar_iload_n 47 d_171_46 rfl rfl ?_
    refine ar_iald 48 d_171_47 rfl (hF.at 11 rfl) (vin (by omega) (by omega)) ?_
    refine ar_top (x' := nI p) (by rw [nI_clamp (show a < 2 ^ 31 by omega)]; exact esf) ?_
    refine ar_sipush 51 (v := 280) d_171_48 rfl (by decide) ?_
    refine ar_idiv 52 d_171_51 rfl (by decide) ?_
    refine ar_top (x' := nI (p / 280)) (pk_div (d := 280) (by omega) (by omega) (by omega)) ?_
    refine ar_aald 53 d_171_52 rfl (hF.at 9 rfl) rfl (vin hj1 (by omega)) ?_
    refine ar_tv (v' := .ref (n + 329 + 22 * (p / 280))) (ndr hnn hj1) ?_
    refine ar_getf 56 d_171_53 rfl (ci := 7) (k := 3) rfl (hf.g ((hG0 (p / 280) hj1).1.at 0 rfl) (by unfold ASA NTA; omega)) rfl ?_
    refine ar_getf 59 d_171_56 rfl (ci := 8) (k := 0) rfl (hf.g ((hG0 (p / 280) hj1).1.at 1 rfl) (by unfold ASA NTA; omega)) rfl ?_
    refine ar_astore_n 60 [(0, .ref s0), (1, .int (nI a)), (2, .int (nI pl)), (3, .ref (n + 329 + 22 * (p / 280) + 2))] d_171_59 rfl (by decide) rfl ?_
    refine ar_aload_n 61 d_171_60 rfl rfl ?_
    refine ar_getf 64 d_171_61 rfl (ci := 0) (k := 3) rfl (hF.at 0 rfl) rfl ?_
    refine ar_iload_n 65 d_171_64 rfl rfl ?_
    refine ar_sipush 68 (v := 280) d_171_65 rfl (by decide) ?_
    refine ar_idiv 69 d_171_68 rfl (by decide) ?_
    refine ar_top (x' := nI (pl / 280)) (pk_div (d := 280) (by omega) (by omega) (by omega)) ?_
    refine ar_aald 70 d_171_69 rfl (hF.at 9 rfl) rfl (vin hj2 (by omega)) ?_
    refine ar_tv (v' := .ref (n + 329 + 22 * (pl / 280))) (ndr hnn hj2) ?_
    refine ar_getf 73 d_171_70 rfl (ci := 7) (k := 3) rfl (hf.g ((hG0 (pl / 280) hj2).1.at 0 rfl) (by unfold ASA NTA; omega)) rfl ?_
    refine ar_getf 76 d_171_73 rfl (ci := 8) (k := 0) rfl (hf.g ((hG0 (pl / 280) hj2).1.at 1 rfl) (by unfold ASA NTA; omega)) rfl ?_
    refine ar_astore 78 [(0, .ref s0), (1, .int (nI a)), (2, .int (nI pl)), (3, .ref (n + 329 + 22 * (p / 280) + 2)), (4, .ref (n + 329 + 22 * (pl / 280) + 2))] d_171_76 rfl (by decide) rfl ?_
    refine ar_aload_n 79 d_171_78 rfl rfl ?_
    refine ar_getf 82 d_171_79 rfl (ci := 0) (k := 6) rfl (hF.at 0 rfl) rfl ?_
    refine ar_iload_n 83 d_171_82 rfl rfl ?_
    refine ar_iald 84 d_171_83 rfl (hF.at 11 rfl) (vin (by omega) (by omega)) ?_
    refine ar_top (x' := nI p) (by rw [nI_clamp (show a < 2 ^ 31 by omega)]; exact esf) ?_
    refine ar_sipush 87 (v := 280) d_171_84 rfl (by decide) ?_
    refine ar_irem 88 d_171_87 rfl (by decide) ?_
    refine ar_top (x' := nI (p % 280)) (pk_rem (d := 280) (by omega) (by omega) (by omega)) ?_
    refine ar_sipush 91 (v := 128) d_171_88 rfl (by decide) ?_
    refine ar_imul 92 d_171_91 rfl ?_
    refine ar_top (x' := nI (p % 280 * 128)) (pk_mul _ 128) ?_
    refine ar_istore 94 [(0, .ref s0), (1, .int (nI a)), (2, .int (nI pl)), (3, .ref (n + 329 + 22 * (p / 280) + 2)), (4, .ref (n + 329 + 22 * (pl / 280) + 2)), (5, .int (nI (p % 280 * 128)))] d_171_92 rfl (by decide) rfl ?_
    refine ar_iload_n 95 d_171_94 rfl rfl ?_
    refine ar_sipush 98 (v := 280) d_171_95 rfl (by decide) ?_
    refine ar_irem 99 d_171_98 rfl (by decide) ?_
    refine ar_top (x' := nI (pl % 280)) (pk_rem (d := 280) (by omega) (by omega) (by omega)) ?_
    refine ar_sipush 102 (v := 128) d_171_99 rfl (by decide) ?_
    refine ar_imul 103 d_171_102 rfl ?_
    refine ar_top (x' := nI (pl % 280 * 128)) (pk_mul _ 128) ?_
    refine ar_istore 105 [(0, .ref s0), (1, .int (nI a)), (2, .int (nI pl)), (3, .ref (n + 329 + 22 * (p / 280) + 2)), (4, .ref (n + 329 + 22 * (pl / 280) + 2)), (5, .int (nI (p % 280 * 128))), (6, .int (nI (pl % 280 * 128)))] d_171_103 rfl (by decide) rfl ?_
    refine ar_iconst 106 (v := 1) d_171_105 rfl (by decide) ?_
    refine ar_istore 108 [(0, .ref s0), (1, .int (nI a)), (2, .int (nI pl)), (3, .ref (n + 329 + 22 * (p / 280) + 2)), (4, .ref (n + 329 + 22 * (pl / 280) + 2)), (5, .int (nI (p % 280 * 128))), (6, .int (nI (pl % 280 * 128))), (7, .int 1)] d_171_106 rfl (by decide) rfl ?_
    have hS1 : AS s0 n nn gg C f q u b hb hp_1 (va_up E 65 (upd (E 65) a ((E 65 a) ||| (1 <<< ((nI (pl / 280)) &&& 31))))) TK Q ms := ⟨hF, hA, hN, hf, hn, hs, hp0⟩
    have hse : seenI nn (va_up (va_up E 1 (E 1)) 65 (upd (E 65) a ((E 65 a) ||| (1 <<< ((nI (pl / 280)) &&& 31))))) := by
      intro x hx hne
      by_cases e : x = a
      · rw [e]; exact ⟨p, hp, esf⟩
      · have h1 : ¬ E 65 x = 0 := by
          have := hne
          rw [show va_up (va_up E 1 (E 1)) 65 (upd (E 65) a ((E 65 a) ||| (1 <<< ((nI (pl / 280)) &&& 31)))) 65 x = E 65 x from pk_un e] at this
          exact this
        rw [show va_up (va_up E 1 (E 1)) 65 (upd (E 65) a ((E 65 a) ||| (1 <<< ((nI (pl / 280)) &&& 31)))) 1 x = E 1 x from rfl]
        exact hsI x hx h1
    have hS9 : AS s0 n nn gg C f q u b hb hp_1 (va_up (va_up E 1 (E 1)) 65 (upd (E 65) a ((E 65 a) ||| (1 <<< ((nI (pl / 280)) &&& 31))))) TK Q ms := by rw [show va_up E 1 (E 1) = E from va_up_sf]; exact hS1
    refine ar_wk [3, 4, 5, 6, 7] rfl (by simp) ?_
    have key : ∀ (k w : Nat), w + k = 127 → ax_A (ax_step L xs) ((171, 108, fr, lo), [(3, .ref (n + 329 + 22 * (p / 280) + 2)), (4, .ref (n + 329 + 22 * (pl / 280) + 2)), (5, .int (nI (p % 280 * 128))), (6, .int (nI (pl % 280 * 128))), (7, .int (nI w))], [], hp_1) (fun r h' => ∃ (y : Int32) (sf hv : Nat → Int32), r = some (.int y) ∧ AS s0 n nn gg C f q u b hb h' (va_up (va_up E 1 sf) 65 hv) TK Q ms ∧ seenI nn (va_up (va_up E 1 sf) 65 hv)) := by
      intro k
      induction k with
      | zero =>
        intro w hw
        have e0 : 127 = w := by omega
        subst e0
        refine ar_iload 110 d_171_108 rfl rfl ?_
        refine ar_bipush 112 (v := 127) d_171_110 rfl (by decide) ?_
        refine ar_icmp_ge 141 115 d_171_112 (by decide) rfl (fun _ => ?_) (fun c => absurd (Int32.le_refl _) c)
        refine ar_iconst 142 (v := 1) d_171_141 rfl (by decide) ?_
        exact ar_iret d_171_142 rfl rfl (⟨_, _, _, rfl, hS9, hse⟩)
      | succ k ih =>
        intro w hw
        refine ar_iload 110 d_171_108 rfl rfl ?_
        refine ar_bipush 112 (v := 127) d_171_110 rfl (by decide) ?_
        refine ar_icmp_ge 141 115 d_171_112 (by decide) rfl (fun c => absurd c (nI_ge (b := 127) (by omega) (by decide))) (fun _ => ?_)
        refine ar_aload_n 116 d_171_115 rfl rfl ?_
        refine ar_iload 118 d_171_116 rfl rfl ?_
        refine ar_iload 120 d_171_118 rfl rfl ?_
        refine ar_iadd 121 d_171_120 rfl ?_
        refine ar_top (x' := nI (p % 280 * 128 + w)) (nI_add _ _) ?_
        refine ar_iald 122 d_171_121 rfl (hf.g ((hG0 (p / 280) hj1).1.at 2 rfl) (by unfold ASA NTA; omega)) (vin (by omega) (by omega)) ?_
        refine ar_aload 124 d_171_122 rfl rfl ?_
        refine ar_iload 126 d_171_124 rfl rfl ?_
        refine ar_iload 128 d_171_126 rfl rfl ?_
        refine ar_iadd 129 d_171_128 rfl ?_
        refine ar_top (x' := nI (pl % 280 * 128 + w)) (nI_add _ _) ?_
        refine ar_iald 130 d_171_129 rfl (hf.g ((hG0 (pl / 280) hj2).1.at 2 rfl) (by unfold ASA NTA; omega)) (vin (by omega) (by omega)) ?_
        refine ar_icmp_eq 135 133 d_171_130 (by decide) rfl (fun c9 => ?_) (fun c9 => ?_)
        · refine ar_iinc 138 [(3, .ref (n + 329 + 22 * (p / 280) + 2)), (4, .ref (n + 329 + 22 * (pl / 280) + 2)), (5, .int (nI (p % 280 * 128))), (6, .int (nI (pl % 280 * 128))), (7, .int (nI (w + 1)))] d_171_135 rfl rfl (nI_1 w) (by decide) rfl ?_
          refine ar_goto 108 d_171_138 (by decide) ?_
          exact ih (w + 1) (by omega)
        · refine ar_iconst 134 (v := 0) d_171_133 rfl (by decide) ?_
          exact ar_iret d_171_134 rfl rfl (⟨_, _, _, rfl, hS9, hse⟩)
    exact key 126 1 (by omega)
  · refine ar_aload_n 13 d_171_12 rfl rfl ?_
    refine ar_getf 16 d_171_13 rfl (ci := 0) (k := 6) rfl (hF.at 0 rfl) rfl ?_
    refine ar_iload_n 17 d_171_16 rfl rfl ?_
    refine ar_iload_n 18 d_171_17 rfl rfl ?_
    refine ar_iast 19 d_171_18 rfl (hF.at 11 rfl) (vin (by omega) (by omega)) ?_
    replace hF : ax_hs (ax_put h (n + 263) (.inl (0, 961, .inl (upd (E 1) (nI a).toNatClampNeg (nI pl))))) [cSt s0 n E, cRk n nn gg C, cOr n nn gg f, cAs n E, cEr n 5 512 E, cEr n 6 100 E, cEr n 7 2 E, cAk n, cEr n 9 512 E, cNa n nn, cEr n 0 48 E, (n + 263, .inl (0, 961, .inl (upd (E 1) (nI a).toNatClampNeg (nI pl)))), cTs n gg E TK, cEr n 59 48 E, cEr n 60 48 E, cEr n 61 48 E, cEr n 62 2400 E, cEr n 63 512 E, cEr n 64 961 E, cEr n 65 961 E] := hF.put 11 _ rfl rfl
    replace hf := hf.put (a := n + 263) (c := .inl (0, 961, .inl (upd (E 1) (nI a).toNatClampNeg (nI pl)))) (Or.inr (by omega))
    replace hN := hN.put (a := n + 263) (c := .inl (0, 961, .inl (upd (E 1) (nI a).toNatClampNeg (nI pl)))) (by omega)
    replace hA := hA.put (a := n + 263) (c := .inl (0, 961, .inl (upd (E 1) (nI a).toNatClampNeg (nI pl)))) (by omega)
    replace hn : (ax_put h (n + 263) (.inl (0, 961, .inl (upd (E 1) (nI a).toNatClampNeg (nI pl))))).1 = hb.1 := hn
    replace hs : (ax_put h (n + 263) (.inl (0, 961, .inl (upd (E 1) (nI a).toNatClampNeg (nI pl))))).2.1 = hb.2.1 := hs
    generalize ax_put h (n + 263) (.inl (0, 961, .inl (upd (E 1) (nI a).toNatClampNeg (nI pl)))) = hp_2 at hF hf hA hN hn hs ⊢
    replace hF : ax_hs hp_2 [cSt s0 n E, cRk n nn gg C, cOr n nn gg f, cAs n E, cEr n 5 512 E, cEr n 6 100 E, cEr n 7 2 E, cAk n, cEr n 9 512 E, cNa n nn, cEr n 0 48 E, (n + 263, .inl (0, 961, .inl (upd (E 1) a (nI pl)))), cTs n gg E TK, cEr n 59 48 E, cEr n 60 48 E, cEr n 61 48 E, cEr n 62 2400 E, cEr n 63 512 E, cEr n 64 961 E, cEr n 65 961 E] := by
      have e := hF
      rw [nI_clamp (show a < 2 ^ 31 by omega)] at e
      exact e
    refine ar_aload_n 20 d_171_19 rfl rfl ?_
    refine ar_getf 23 d_171_20 rfl (ci := 0) (k := 4) rfl (hF.at 0 rfl) rfl ?_
    refine ar_getf 26 d_171_23 rfl (ci := 6) (k := 7) rfl (hF.at 12 rfl) rfl ?_
    refine ar_iload_n 27 d_171_26 rfl rfl ?_
    refine ar_dup2 28 d_171_27 rfl rfl rfl ?_
    refine ar_iald 29 d_171_28 rfl (hF.at 19 rfl) (vin (by omega) (by omega)) ?_
    refine ar_top (x' := E 65 a) (by rw [nI_clamp (show a < 2 ^ 31 by omega)]) ?_
    refine ar_iconst 30 (v := 1) d_171_29 rfl (by decide) ?_
    refine ar_iload_n 31 d_171_30 rfl rfl ?_
    refine ar_sipush 34 (v := 280) d_171_31 rfl (by decide) ?_
    refine ar_idiv 35 d_171_34 rfl (by decide) ?_
    refine ar_top (x' := nI (pl / 280)) (pk_div (d := 280) (by omega) (by omega) (by omega)) ?_
    refine ar_ishl 36 d_171_35 rfl ?_
    refine ar_ior 37 d_171_36 rfl ?_
    refine ar_iast 38 d_171_37 rfl (hF.at 19 rfl) (vin (by omega) (by omega)) ?_
    replace hF : ax_hs (ax_put hp_2 (n + 327) (.inl (0, 961, .inl (upd (E 65) (nI a).toNatClampNeg ((E 65 a) ||| (1 <<< ((nI (pl / 280)) &&& 31))))))) [cSt s0 n E, cRk n nn gg C, cOr n nn gg f, cAs n E, cEr n 5 512 E, cEr n 6 100 E, cEr n 7 2 E, cAk n, cEr n 9 512 E, cNa n nn, cEr n 0 48 E, (n + 263, .inl (0, 961, .inl (upd (E 1) a (nI pl)))), cTs n gg E TK, cEr n 59 48 E, cEr n 60 48 E, cEr n 61 48 E, cEr n 62 2400 E, cEr n 63 512 E, cEr n 64 961 E, (n + 327, .inl (0, 961, .inl (upd (E 65) (nI a).toNatClampNeg ((E 65 a) ||| (1 <<< ((nI (pl / 280)) &&& 31))))))] := hF.put 19 _ rfl rfl
    replace hf := hf.put (a := n + 327) (c := .inl (0, 961, .inl (upd (E 65) (nI a).toNatClampNeg ((E 65 a) ||| (1 <<< ((nI (pl / 280)) &&& 31)))))) (Or.inr (by omega))
    replace hN := hN.put (a := n + 327) (c := .inl (0, 961, .inl (upd (E 65) (nI a).toNatClampNeg ((E 65 a) ||| (1 <<< ((nI (pl / 280)) &&& 31)))))) (by omega)
    replace hA := hA.put (a := n + 327) (c := .inl (0, 961, .inl (upd (E 65) (nI a).toNatClampNeg ((E 65 a) ||| (1 <<< ((nI (pl / 280)) &&& 31)))))) (by omega)
    replace hn : (ax_put hp_2 (n + 327) (.inl (0, 961, .inl (upd (E 65) (nI a).toNatClampNeg ((E 65 a) ||| (1 <<< ((nI (pl / 280)) &&& 31))))))).1 = hb.1 := hn
    replace hs : (ax_put hp_2 (n + 327) (.inl (0, 961, .inl (upd (E 65) (nI a).toNatClampNeg ((E 65 a) ||| (1 <<< ((nI (pl / 280)) &&& 31))))))).2.1 = hb.2.1 := hs
    generalize ax_put hp_2 (n + 327) (.inl (0, 961, .inl (upd (E 65) (nI a).toNatClampNeg ((E 65 a) ||| (1 <<< ((nI (pl / 280)) &&& 31)))))) = hp_3 at hF hf hA hN hn hs ⊢
    replace hF : ax_hs hp_3 [cSt s0 n E, cRk n nn gg C, cOr n nn gg f, cAs n E, cEr n 5 512 E, cEr n 6 100 E, cEr n 7 2 E, cAk n, cEr n 9 512 E, cNa n nn, cEr n 0 48 E, (n + 263, .inl (0, 961, .inl (upd (E 1) a (nI pl)))), cTs n gg E TK, cEr n 59 48 E, cEr n 60 48 E, cEr n 61 48 E, cEr n 62 2400 E, cEr n 63 512 E, cEr n 64 961 E, (n + 327, .inl (0, 961, .inl (upd (E 65) a ((E 65 a) ||| (1 <<< ((nI (pl / 280)) &&& 31))))))] := by
      have e := hF
      rw [nI_clamp (show a < 2 ^ 31 by omega)] at e
      exact e
    have hp : pl < nn * 280 := hpl
    have esf : (upd (E 1) a (nI pl)) a = nI pl := pk_us
    have hj1 : pl / 280 < nn := by omega
    have hj2 : pl / 280 < nn := by omega
    refine ar_aload_n 39 d_171_38 rfl rfl ?_
    refine ar_getf 42 d_171_39 rfl (ci := 0) (k := 3) rfl (hF.at 0 rfl) rfl ?_
    refine ar_aload_n 43 d_171_42 rfl rfl ?_
    refine ar_getf 46 d_171_43 rfl (ci := 0) (k := 6) rfl (hF.at 0 rfl) rfl ?_
    refine ar_iload_n 47 d_171_46 rfl rfl ?_
    refine ar_iald 48 d_171_47 rfl (hF.at 11 rfl) (vin (by omega) (by omega)) ?_
    refine ar_top (x' := nI pl) (by rw [nI_clamp (show a < 2 ^ 31 by omega)]; exact esf) ?_
    refine ar_sipush 51 (v := 280) d_171_48 rfl (by decide) ?_
    refine ar_idiv 52 d_171_51 rfl (by decide) ?_
    refine ar_top (x' := nI (pl / 280)) (pk_div (d := 280) (by omega) (by omega) (by omega)) ?_
    refine ar_aald 53 d_171_52 rfl (hF.at 9 rfl) rfl (vin hj1 (by omega)) ?_
    refine ar_tv (v' := .ref (n + 329 + 22 * (pl / 280))) (ndr hnn hj1) ?_
    refine ar_getf 56 d_171_53 rfl (ci := 7) (k := 3) rfl (hf.g ((hG0 (pl / 280) hj2).1.at 0 rfl) (by unfold ASA NTA; omega)) rfl ?_
    refine ar_getf 59 d_171_56 rfl (ci := 8) (k := 0) rfl (hf.g ((hG0 (pl / 280) hj2).1.at 1 rfl) (by unfold ASA NTA; omega)) rfl ?_
    refine ar_astore_n 60 [(0, .ref s0), (1, .int (nI a)), (2, .int (nI pl)), (3, .ref (n + 329 + 22 * (pl / 280) + 2))] d_171_59 rfl (by decide) rfl ?_
    refine ar_aload_n 61 d_171_60 rfl rfl ?_
    refine ar_getf 64 d_171_61 rfl (ci := 0) (k := 3) rfl (hF.at 0 rfl) rfl ?_
    refine ar_iload_n 65 d_171_64 rfl rfl ?_
    refine ar_sipush 68 (v := 280) d_171_65 rfl (by decide) ?_
    refine ar_idiv 69 d_171_68 rfl (by decide) ?_
    refine ar_top (x' := nI (pl / 280)) (pk_div (d := 280) (by omega) (by omega) (by omega)) ?_
    refine ar_aald 70 d_171_69 rfl (hF.at 9 rfl) rfl (vin hj2 (by omega)) ?_
    refine ar_tv (v' := .ref (n + 329 + 22 * (pl / 280))) (ndr hnn hj2) ?_
    refine ar_getf 73 d_171_70 rfl (ci := 7) (k := 3) rfl (hf.g ((hG0 (pl / 280) hj2).1.at 0 rfl) (by unfold ASA NTA; omega)) rfl ?_
    refine ar_getf 76 d_171_73 rfl (ci := 8) (k := 0) rfl (hf.g ((hG0 (pl / 280) hj2).1.at 1 rfl) (by unfold ASA NTA; omega)) rfl ?_
    refine ar_astore 78 [(0, .ref s0), (1, .int (nI a)), (2, .int (nI pl)), (3, .ref (n + 329 + 22 * (pl / 280) + 2)), (4, .ref (n + 329 + 22 * (pl / 280) + 2))] d_171_76 rfl (by decide) rfl ?_
    refine ar_aload_n 79 d_171_78 rfl rfl ?_
    refine ar_getf 82 d_171_79 rfl (ci := 0) (k := 6) rfl (hF.at 0 rfl) rfl ?_
    refine ar_iload_n 83 d_171_82 rfl rfl ?_
    refine ar_iald 84 d_171_83 rfl (hF.at 11 rfl) (vin (by omega) (by omega)) ?_
    refine ar_top (x' := nI pl) (by rw [nI_clamp (show a < 2 ^ 31 by omega)]; exact esf) ?_
    refine ar_sipush 87 (v := 280) d_171_84 rfl (by decide) ?_
    refine ar_irem 88 d_171_87 rfl (by decide) ?_
    refine ar_top (x' := nI (pl % 280)) (pk_rem (d := 280) (by omega) (by omega) (by omega)) ?_
    refine ar_sipush 91 (v := 128) d_171_88 rfl (by decide) ?_
    refine ar_imul 92 d_171_91 rfl ?_
    refine ar_top (x' := nI (pl % 280 * 128)) (pk_mul _ 128) ?_
    refine ar_istore 94 [(0, .ref s0), (1, .int (nI a)), (2, .int (nI pl)), (3, .ref (n + 329 + 22 * (pl / 280) + 2)), (4, .ref (n + 329 + 22 * (pl / 280) + 2)), (5, .int (nI (pl % 280 * 128)))] d_171_92 rfl (by decide) rfl ?_
    refine ar_iload_n 95 d_171_94 rfl rfl ?_
    refine ar_sipush 98 (v := 280) d_171_95 rfl (by decide) ?_
    refine ar_irem 99 d_171_98 rfl (by decide) ?_
    refine ar_top (x' := nI (pl % 280)) (pk_rem (d := 280) (by omega) (by omega) (by omega)) ?_
    refine ar_sipush 102 (v := 128) d_171_99 rfl (by decide) ?_
    refine ar_imul 103 d_171_102 rfl ?_
    refine ar_top (x' := nI (pl % 280 * 128)) (pk_mul _ 128) ?_
    refine ar_istore 105 [(0, .ref s0), (1, .int (nI a)), (2, .int (nI pl)), (3, .ref (n + 329 + 22 * (pl / 280) + 2)), (4, .ref (n + 329 + 22 * (pl / 280) + 2)), (5, .int (nI (pl % 280 * 128))), (6, .int (nI (pl % 280 * 128)))] d_171_103 rfl (by decide) rfl ?_
    refine ar_iconst 106 (v := 1) d_171_105 rfl (by decide) ?_
    refine ar_istore 108 [(0, .ref s0), (1, .int (nI a)), (2, .int (nI pl)), (3, .ref (n + 329 + 22 * (pl / 280) + 2)), (4, .ref (n + 329 + 22 * (pl / 280) + 2)), (5, .int (nI (pl % 280 * 128))), (6, .int (nI (pl % 280 * 128))), (7, .int 1)] d_171_106 rfl (by decide) rfl ?_
    have hS1 : AS s0 n nn gg C f q u b hb hp_3 (va_up (va_up E 1 (upd (E 1) a (nI pl))) 65 (upd (E 65) a ((E 65 a) ||| (1 <<< ((nI (pl / 280)) &&& 31))))) TK Q ms := ⟨hF, hA, hN, hf, hn, hs, hp0⟩
    have hse : seenI nn (va_up (va_up E 1 (upd (E 1) a (nI pl))) 65 (upd (E 65) a ((E 65 a) ||| (1 <<< ((nI (pl / 280)) &&& 31))))) := by
      intro x hx hne
      by_cases e : x = a
      · rw [e]; exact ⟨pl, hp, esf⟩
      · have h1 : ¬ E 65 x = 0 := by
          have := hne
          rw [show va_up (va_up E 1 (upd (E 1) a (nI pl))) 65 (upd (E 65) a ((E 65 a) ||| (1 <<< ((nI (pl / 280)) &&& 31)))) 65 x = E 65 x from pk_un e] at this
          exact this
        rw [show va_up (va_up E 1 (upd (E 1) a (nI pl))) 65 (upd (E 65) a ((E 65 a) ||| (1 <<< ((nI (pl / 280)) &&& 31)))) 1 x = E 1 x from pk_un e]
        exact hsI x hx h1
    have hS9 : AS s0 n nn gg C f q u b hb hp_3 (va_up (va_up E 1 (upd (E 1) a (nI pl))) 65 (upd (E 65) a ((E 65 a) ||| (1 <<< ((nI (pl / 280)) &&& 31))))) TK Q ms := hS1
    refine ar_wk [3, 4, 5, 6, 7] rfl (by simp) ?_
    have key : ∀ (k w : Nat), w + k = 127 → ax_A (ax_step L xs) ((171, 108, fr, lo), [(3, .ref (n + 329 + 22 * (pl / 280) + 2)), (4, .ref (n + 329 + 22 * (pl / 280) + 2)), (5, .int (nI (pl % 280 * 128))), (6, .int (nI (pl % 280 * 128))), (7, .int (nI w))], [], hp_3) (fun r h' => ∃ (y : Int32) (sf hv : Nat → Int32), r = some (.int y) ∧ AS s0 n nn gg C f q u b hb h' (va_up (va_up E 1 sf) 65 hv) TK Q ms ∧ seenI nn (va_up (va_up E 1 sf) 65 hv)) := by
      intro k
      induction k with
      | zero =>
        intro w hw
        have e0 : 127 = w := by omega
        subst e0
        refine ar_iload 110 d_171_108 rfl rfl ?_
        refine ar_bipush 112 (v := 127) d_171_110 rfl (by decide) ?_
        refine ar_icmp_ge 141 115 d_171_112 (by decide) rfl (fun _ => ?_) (fun c => absurd (Int32.le_refl _) c)
        refine ar_iconst 142 (v := 1) d_171_141 rfl (by decide) ?_
        exact ar_iret d_171_142 rfl rfl (⟨_, _, _, rfl, hS9, hse⟩)
      | succ k ih =>
        intro w hw
        refine ar_iload 110 d_171_108 rfl rfl ?_
        refine ar_bipush 112 (v := 127) d_171_110 rfl (by decide) ?_
        refine ar_icmp_ge 141 115 d_171_112 (by decide) rfl (fun c => absurd c (nI_ge (b := 127) (by omega) (by decide))) (fun _ => ?_)
        refine ar_aload_n 116 d_171_115 rfl rfl ?_
        refine ar_iload 118 d_171_116 rfl rfl ?_
        refine ar_iload 120 d_171_118 rfl rfl ?_
        refine ar_iadd 121 d_171_120 rfl ?_
        refine ar_top (x' := nI (pl % 280 * 128 + w)) (nI_add _ _) ?_
        refine ar_iald 122 d_171_121 rfl (hf.g ((hG0 (pl / 280) hj2).1.at 2 rfl) (by unfold ASA NTA; omega)) (vin (by omega) (by omega)) ?_
        refine ar_aload 124 d_171_122 rfl rfl ?_
        refine ar_iload 126 d_171_124 rfl rfl ?_
        refine ar_iload 128 d_171_126 rfl rfl ?_
        refine ar_iadd 129 d_171_128 rfl ?_
        refine ar_top (x' := nI (pl % 280 * 128 + w)) (nI_add _ _) ?_
        refine ar_iald 130 d_171_129 rfl (hf.g ((hG0 (pl / 280) hj2).1.at 2 rfl) (by unfold ASA NTA; omega)) (vin (by omega) (by omega)) ?_
        refine ar_icmp_eq 135 133 d_171_130 (by decide) rfl (fun c9 => ?_) (fun c9 => ?_)
        · refine ar_iinc 138 [(3, .ref (n + 329 + 22 * (pl / 280) + 2)), (4, .ref (n + 329 + 22 * (pl / 280) + 2)), (5, .int (nI (pl % 280 * 128))), (6, .int (nI (pl % 280 * 128))), (7, .int (nI (w + 1)))] d_171_135 rfl rfl (nI_1 w) (by decide) rfl ?_
          refine ar_goto 108 d_171_138 (by decide) ?_
          exact ih (w + 1) (by omega)
        · refine ar_iconst 134 (v := 0) d_171_133 rfl (by decide) ?_
          exact ar_iret d_171_134 rfl rfl (⟨_, _, _, rfl, hS9, hse⟩)
    exact key 126 1 (by omega)


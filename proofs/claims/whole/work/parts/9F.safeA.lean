/-! Work: cut, rename, swap, change for every state -/
theorem d_104_0 : decode (axt_b 104) 0 = .ok (.aload_n 0, 1) := by decide +kernel
theorem d_104_1 : decode (axt_b 104) 1 = .ok (.aload_n 0, 1) := by decide +kernel
theorem d_104_2 : decode (axt_b 104) 2 = .ok (.getfield 12, 3) := by decide +kernel
theorem d_104_5 : decode (axt_b 104) 5 = .ok (.getfield 91, 3) := by decide +kernel
theorem d_104_8 : decode (axt_b 104) 8 = .ok (.iconst 4, 1) := by decide +kernel
theorem d_104_9 : decode (axt_b 104) 9 = .ok (.if_icmp .ne 7, 3) := by decide +kernel
theorem d_104_12 : decode (axt_b 104) 12 = .ok (.iconst 5, 1) := by decide +kernel
theorem d_104_13 : decode (axt_b 104) 13 = .ok (.goto 4, 3) := by decide +kernel
theorem d_104_16 : decode (axt_b 104) 16 = .ok (.iconst 3, 1) := by decide +kernel
theorem d_104_17 : decode (axt_b 104) 17 = .ok (.putfield 35, 3) := by decide +kernel
theorem d_104_20 : decode (axt_b 104) 20 = .ok (.aload_n 0, 1) := by decide +kernel
theorem d_104_21 : decode (axt_b 104) 21 = .ok (.getfield 88, 3) := by decide +kernel
theorem d_104_24 : decode (axt_b 104) 24 = .ok (.ifCond .ge 7, 3) := by decide +kernel
theorem d_104_27 : decode (axt_b 104) 27 = .ok (.aload_n 0, 1) := by decide +kernel
theorem d_104_28 : decode (axt_b 104) 28 = .ok (.invokevirtual 165, 3) := by decide +kernel
theorem d_104_31 : decode (axt_b 104) 31 = .ok (.aload_n 0, 1) := by decide +kernel
theorem d_104_32 : decode (axt_b 104) 32 = .ok (.getfield 12, 3) := by decide +kernel
theorem d_104_35 : decode (axt_b 104) 35 = .ok (.getfield 91, 3) := by decide +kernel
theorem d_104_38 : decode (axt_b 104) 38 = .ok (.tableswitch 93 0 6 #[42, 45, 45, 57, 64, 72, 86], 42) := by decide +kernel
theorem d_104_80 : decode (axt_b 104) 80 = .ok (.goto 55, 3) := by decide +kernel
theorem d_104_83 : decode (axt_b 104) 83 = .ok (.aload_n 0, 1) := by decide +kernel
theorem d_104_84 : decode (axt_b 104) 84 = .ok (.iconst 1, 1) := by decide +kernel
theorem d_104_85 : decode (axt_b 104) 85 = .ok (.invokevirtual 168, 3) := by decide +kernel
theorem d_104_88 : decode (axt_b 104) 88 = .ok (.aload_n 0, 1) := by decide +kernel
theorem d_104_89 : decode (axt_b 104) 89 = .ok (.invokevirtual 172, 3) := by decide +kernel
theorem d_104_92 : decode (axt_b 104) 92 = .ok (.goto 43, 3) := by decide +kernel
theorem d_104_95 : decode (axt_b 104) 95 = .ok (.aload_n 0, 1) := by decide +kernel
theorem d_104_96 : decode (axt_b 104) 96 = .ok (.invokevirtual 175, 3) := by decide +kernel
theorem d_104_99 : decode (axt_b 104) 99 = .ok (.goto 36, 3) := by decide +kernel
theorem d_104_102 : decode (axt_b 104) 102 = .ok (.aload_n 0, 1) := by decide +kernel
theorem d_104_103 : decode (axt_b 104) 103 = .ok (.iconst 0, 1) := by decide +kernel
theorem d_104_104 : decode (axt_b 104) 104 = .ok (.invokevirtual 168, 3) := by decide +kernel
theorem d_104_107 : decode (axt_b 104) 107 = .ok (.goto 28, 3) := by decide +kernel
theorem d_104_110 : decode (axt_b 104) 110 = .ok (.aload_n 0, 1) := by decide +kernel
theorem d_104_111 : decode (axt_b 104) 111 = .ok (.getfield 26, 3) := by decide +kernel
theorem d_104_114 : decode (axt_b 104) 114 = .ok (.aload_n 0, 1) := by decide +kernel
theorem d_104_115 : decode (axt_b 104) 115 = .ok (.getfield 88, 3) := by decide +kernel
theorem d_104_118 : decode (axt_b 104) 118 = .ok (.invokevirtual 178, 3) := by decide +kernel
theorem d_104_121 : decode (axt_b 104) 121 = .ok (.goto 14, 3) := by decide +kernel
theorem d_104_124 : decode (axt_b 104) 124 = .ok (.aload_n 0, 1) := by decide +kernel
theorem d_104_125 : decode (axt_b 104) 125 = .ok (.invokevirtual 182, 3) := by decide +kernel
theorem d_104_128 : decode (axt_b 104) 128 = .ok (.goto 7, 3) := by decide +kernel
theorem d_104_131 : decode (axt_b 104) 131 = .ok (.aload_n 0, 1) := by decide +kernel
theorem d_104_132 : decode (axt_b 104) 132 = .ok (.invokevirtual 185, 3) := by decide +kernel
theorem d_104_135 : decode (axt_b 104) 135 = .ok (.return_, 1) := by decide +kernel
def G_109 (nn gg : Nat) (C me : Int32) (f u b : Nat → Int32)  : Nat → Nat → (Nat → Nat → Int32) → Int64 → Int64 → List Mg → St
  | 0, i, D1, K, A, Y =>
    bnN ((D1 18 7).toNatClampNeg) (fun fi =>
      bnN ((D1 19 1).toNatClampNeg) (fun a =>
        (va_up (va_up D1 12 (upd (D1 12) fi (nI a))) 18 (upd (D1 18) 13 (nI fi)), K, A, Y)))
  | k + 1, i, D1, K, A, Y =>
    bnN ((D1 18 7).toNatClampNeg) (fun fi =>
      bnN ((D1 19 1).toNatClampNeg) (fun a =>
        if (nI (i * 448)) < (nI a) then
          G_109 nn gg C me f u b k (i + 1) D1 K A Y
        else
          G_109 nn gg C me f u b k (i + 1) (va_up D1 16 (upd (D1 16) (fi * 20 + i) (-1))) K A Y))
def F_109 (nn gg : Nat) (C me : Int32) (f u b : Nat → Int32) (D : Nat → Nat → Int32) (K A : Int64) (Y : List Mg)  : St :=
  bnN ((D 19 1).toNatClampNeg) (fun a =>
    if (D 18 11) ≤ 0 then
      G_109 nn gg C me f u b 19 0 D K A Y
    else
      G_109 nn gg C me f u b 19 0 (va_up D 21 (clB (448 - a % 448) (60 + a % 448) (D 21))) K A Y)
set_option maxRecDepth 100000 in
theorem s_109 {L : Nat} {xs : Nat → Int32} {fr lo : Nat} {Z : ZT} {n nd nn gg : Nat} {C me : Int32} {f : Nat → Int32} {q : Nat} {u b : Nat → Int32} {uv : Int32} {h0 h : ax_H} {D : Nat → Nat → Int32} {K A : Int64} {Y : List Mg}  (hfr : 2 ≤ fr) (hlo : 60 ≤ lo) (hC : CS n nd nn gg f) (hS : NS Z n nd nn gg C me f q u b uv h0 h D K A Y) (hI : NI Z nn D) (h3 : ¬ D 18 3 = 2) (hX : SI D) (hFI : FI D) (ha : inR 8193 (D 19 1)) : ax_M L xs 109 fr lo [.ref (nd + 18)] h (fun r h' => r = none ∧ PS Z n nd nn gg C me f q u b uv h0 h' (fun D' K' A' Y' => (D', K', A', Y') = F_109 nn gg C me f u b D K A Y ∧ SI D' ∧ D' 18 3 = D 18 3)) := by
  have hC0 := hC
  obtain ⟨a, ha, ea⟩ := ha
  have key : ∀ (k i : Nat) (h : ax_H) (D1 : Nat → Nat → Int32) (K A : Int64) (Y : List Mg), i + k = 19 → NS Z n nd nn gg C me f q u b uv h0 h D1 K A Y → NI Z nn D1 → SI D1 → FI D1 → D1 18 3 = D 18 3 → D1 19 1 = nI a → ax_A (ax_step L xs) ((109, 37, fr, lo), [(0, .ref (nd + 18)), (1, .int (nI i))], [], h) (fun r h' => r = none ∧ PS Z n nd nn gg C me f q u b uv h0 h' (fun D' K' A' Y' => (D', K', A', Y') = G_109 nn gg C me f u b k i D1 K A Y ∧ SI D' ∧ D' 18 3 = D 18 3)) := by
    intro k
    induction k with
    | zero =>
      intro i h D1 K A Y hi hS hI hX hFI e3 ea
      have e0 : i = 19 := by omega
      subst e0
      obtain ⟨fi, hfi, e7, hfj⟩ := hFI
      obtain ⟨hnd, hn0, hnn3, hnn, hgg1, hgg, hRg⟩ := hC
      obtain ⟨hF, hN, hf, hn, hs, hp0, hu0⟩ := hS
      replace hF : ax_hs h [cNd n nd me D1, cDk nd D1, cAr nd 2 35840 D1, cAr nd 3 4096 D1, cAr nd 4 32 D1, cAr nd 5 280 D1, cAr nd 6 280 D1, cLd n nd me D1 A, cAr nd 8 16 D1, cAr nd 9 280 D1, cTb nd gg D1 K, cAr nd 11 48 D1, cAr nd 12 48 D1, cAr nd 13 48 D1, cAr nd 14 2400 D1, cAr nd 15 512 D1, cAr nd 16 961 D1, cAr nd 17 961 D1, cWk nd D1, cWa nd D1, cAr nd 20 612 D1, cAr nd 21 1152 D1, cRk n nn gg C, cOr n nn gg f] := hF
      refine ar_iload_n 38 d_109_37 rfl rfl ?_
      refine ar_bipush 40 (v := 19) d_109_38 rfl (by decide) ?_
      refine ar_icmp_ge 82 43 d_109_40 (by decide) rfl (fun _ => ?_) (fun c => absurd (Int32.le_refl _) c)
      refine ar_aload_n 83 d_109_82 rfl rfl ?_
      refine ar_getf 86 d_109_83 rfl (ci := 10) (k := 0) rfl (hF.at 18 rfl) rfl ?_
      refine ar_getf 89 d_109_86 rfl (ci := 6) (k := 2) rfl (hF.at 10 rfl) rfl ?_
      refine ar_aload_n 90 d_109_89 rfl rfl ?_
      refine ar_getf 93 d_109_90 rfl (ci := 10) (k := 7) rfl (hF.at 18 rfl) rfl ?_
      refine ar_top (x' := nI fi) (e7) ?_
      refine ar_aload_n 94 d_109_93 rfl rfl ?_
      refine ar_getf 97 d_109_94 rfl (ci := 10) (k := 1) rfl (hF.at 18 rfl) rfl ?_
      refine ar_getf 100 d_109_97 rfl (ci := 5) (k := 1) rfl (hF.at 19 rfl) rfl ?_
      refine ar_top (x' := nI a) (ea) ?_
      refine ar_iastN 101 (e := fi) d_109_100 rfl (hF.at 12 rfl) (by omega) (by omega) ?_
      replace hF : ax_hs (ax_put h (nd + 12) (.inl (0, 48, .inl (upd (D1 12) fi (nI a))))) [cNd n nd me D1, cDk nd D1, cAr nd 2 35840 D1, cAr nd 3 4096 D1, cAr nd 4 32 D1, cAr nd 5 280 D1, cAr nd 6 280 D1, cLd n nd me D1 A, cAr nd 8 16 D1, cAr nd 9 280 D1, cTb nd gg D1 K, cAr nd 11 48 D1, (nd + 12, .inl (0, 48, .inl (upd (D1 12) fi (nI a)))), cAr nd 13 48 D1, cAr nd 14 2400 D1, cAr nd 15 512 D1, cAr nd 16 961 D1, cAr nd 17 961 D1, cWk nd D1, cWa nd D1, cAr nd 20 612 D1, cAr nd 21 1152 D1, cRk n nn gg C, cOr n nn gg f] := hF.put 12 _ rfl rfl
      replace hf := hf.put (a := nd + 12) (c := .inl (0, 48, .inl (upd (D1 12) fi (nI a)))) (Or.inr (by omega))
      replace hN := hN.put (a := nd + 12) (c := .inl (0, 48, .inl (upd (D1 12) fi (nI a)))) (by omega)
      replace hn : (ax_put h (nd + 12) (.inl (0, 48, .inl (upd (D1 12) fi (nI a))))).1 = h0.1 := hn
      replace hs : (ax_put h (nd + 12) (.inl (0, 48, .inl (upd (D1 12) fi (nI a))))).2.1 = h0.2.1 := hs
      generalize ax_put h (nd + 12) (.inl (0, 48, .inl (upd (D1 12) fi (nI a)))) = hp_1 at hF hf hN hn hs ⊢
      refine ar_aload_n 102 d_109_101 rfl rfl ?_
      refine ar_aload_n 103 d_109_102 rfl rfl ?_
      refine ar_getf 106 d_109_103 rfl (ci := 10) (k := 7) rfl (hF.at 18 rfl) rfl ?_
      refine ar_top (x' := nI fi) (e7) ?_
      refine ar_putf 109 [.ref (nd + 10), .ref (nd + 19), .ref (nd + 21), .int (D1 18 3), .int (D1 18 4), .int (D1 18 5), .int (D1 18 6), .int (D1 18 7), .int (D1 18 8), .int (D1 18 9), .int (D1 18 10), .int (D1 18 11), .int (D1 18 12), .int (nI fi), .int (D1 18 14)] d_109_106 rfl (ci := 10) (k := 13) rfl rfl (hF.at 18 rfl) (Nat.le_of_ble_eq_true rfl) rfl rfl rfl ?_
      replace hF : ax_hs (ax_put hp_1 (nd + 18) (.inr (10, [.ref (nd + 10), .ref (nd + 19), .ref (nd + 21), .int (D1 18 3), .int (D1 18 4), .int (D1 18 5), .int (D1 18 6), .int (D1 18 7), .int (D1 18 8), .int (D1 18 9), .int (D1 18 10), .int (D1 18 11), .int (D1 18 12), .int (nI fi), .int (D1 18 14)]))) [cNd n nd me D1, cDk nd D1, cAr nd 2 35840 D1, cAr nd 3 4096 D1, cAr nd 4 32 D1, cAr nd 5 280 D1, cAr nd 6 280 D1, cLd n nd me D1 A, cAr nd 8 16 D1, cAr nd 9 280 D1, cTb nd gg D1 K, cAr nd 11 48 D1, (nd + 12, .inl (0, 48, .inl (upd (D1 12) fi (nI a)))), cAr nd 13 48 D1, cAr nd 14 2400 D1, cAr nd 15 512 D1, cAr nd 16 961 D1, cAr nd 17 961 D1, (nd + 18, .inr (10, [.ref (nd + 10), .ref (nd + 19), .ref (nd + 21), .int (D1 18 3), .int (D1 18 4), .int (D1 18 5), .int (D1 18 6), .int (D1 18 7), .int (D1 18 8), .int (D1 18 9), .int (D1 18 10), .int (D1 18 11), .int (D1 18 12), .int (nI fi), .int (D1 18 14)])), cWa nd D1, cAr nd 20 612 D1, cAr nd 21 1152 D1, cRk n nn gg C, cOr n nn gg f] := hF.put 18 _ rfl rfl
      replace hf := hf.put (a := nd + 18) (c := .inr (10, [.ref (nd + 10), .ref (nd + 19), .ref (nd + 21), .int (D1 18 3), .int (D1 18 4), .int (D1 18 5), .int (D1 18 6), .int (D1 18 7), .int (D1 18 8), .int (D1 18 9), .int (D1 18 10), .int (D1 18 11), .int (D1 18 12), .int (nI fi), .int (D1 18 14)])) (Or.inr (by omega))
      replace hN := hN.put (a := nd + 18) (c := .inr (10, [.ref (nd + 10), .ref (nd + 19), .ref (nd + 21), .int (D1 18 3), .int (D1 18 4), .int (D1 18 5), .int (D1 18 6), .int (D1 18 7), .int (D1 18 8), .int (D1 18 9), .int (D1 18 10), .int (D1 18 11), .int (D1 18 12), .int (nI fi), .int (D1 18 14)])) (by omega)
      replace hn : (ax_put hp_1 (nd + 18) (.inr (10, [.ref (nd + 10), .ref (nd + 19), .ref (nd + 21), .int (D1 18 3), .int (D1 18 4), .int (D1 18 5), .int (D1 18 6), .int (D1 18 7), .int (D1 18 8), .int (D1 18 9), .int (D1 18 10), .int (D1 18 11), .int (D1 18 12), .int (nI fi), .int (D1 18 14)]))).1 = h0.1 := hn
      replace hs : (ax_put hp_1 (nd + 18) (.inr (10, [.ref (nd + 10), .ref (nd + 19), .ref (nd + 21), .int (D1 18 3), .int (D1 18 4), .int (D1 18 5), .int (D1 18 6), .int (D1 18 7), .int (D1 18 8), .int (D1 18 9), .int (D1 18 10), .int (D1 18 11), .int (D1 18 12), .int (nI fi), .int (D1 18 14)]))).2.1 = h0.2.1 := hs
      generalize ax_put hp_1 (nd + 18) (.inr (10, [.ref (nd + 10), .ref (nd + 19), .ref (nd + 21), .int (D1 18 3), .int (D1 18 4), .int (D1 18 5), .int (D1 18 6), .int (D1 18 7), .int (D1 18 8), .int (D1 18 9), .int (D1 18 10), .int (D1 18 11), .int (D1 18 12), .int (nI fi), .int (D1 18 14)])) = hp_2 at hF hf hN hn hs ⊢
      have hS9 : NS Z n nd nn gg C me f q u b uv h0 hp_2 (va_up (va_up D1 12 (upd (D1 12) fi (nI a))) 18 (upd (D1 18) 13 (nI fi))) K A Y := ⟨hF, hN, hf, hn, hs, hp0, hu0⟩
      have hI9 : NI Z nn (va_up (va_up D1 12 (upd (D1 12) fi (nI a))) 18 (upd (D1 18) 13 (nI fi))) := ⟨hI.1, hI.2.1.size ⟨a, ha, rfl⟩, hI.2.2.1.ch (fun z => h3 (e3.symm.trans z)) rfl rfl rfl rfl hX.2.2.2.2, hI.2.2.2⟩
      exact ar_ret d_109_109 rfl (⟨rfl, _, _, _, _, hS9, hI9, bnN_eq (cl_eq hfi e7) (bnN_eq (cl_eq ha ea) (rfl)), ⟨hX.1, Or.inr ⟨fi, hfi, rfl, hfj⟩, hX.2.2.1, Or.inr ⟨fi, hfi, e7, hfj⟩, hX.2.2.2.2⟩, e3⟩)
    | succ k ih =>
      intro i h D1 K A Y hi hS hI hX hFI e3 ea
      have hic : i < 19 := by omega
      have hFI0 := hFI
      obtain ⟨fi, hfi, e7, hfj⟩ := hFI
      obtain ⟨hnd, hn0, hnn3, hnn, hgg1, hgg, hRg⟩ := hC
      obtain ⟨hF, hN, hf, hn, hs, hp0, hu0⟩ := hS
      replace hF : ax_hs h [cNd n nd me D1, cDk nd D1, cAr nd 2 35840 D1, cAr nd 3 4096 D1, cAr nd 4 32 D1, cAr nd 5 280 D1, cAr nd 6 280 D1, cLd n nd me D1 A, cAr nd 8 16 D1, cAr nd 9 280 D1, cTb nd gg D1 K, cAr nd 11 48 D1, cAr nd 12 48 D1, cAr nd 13 48 D1, cAr nd 14 2400 D1, cAr nd 15 512 D1, cAr nd 16 961 D1, cAr nd 17 961 D1, cWk nd D1, cWa nd D1, cAr nd 20 612 D1, cAr nd 21 1152 D1, cRk n nn gg C, cOr n nn gg f] := hF
      refine ar_iload_n 38 d_109_37 rfl rfl ?_
      refine ar_bipush 40 (v := 19) d_109_38 rfl (by decide) ?_
      refine ar_icmp_ge 82 43 d_109_40 (by decide) rfl (fun c => absurd c (nI_ge hic (by decide))) (fun _ => ?_)
      refine ar_iload_n 44 d_109_43 rfl rfl ?_
      refine ar_sipush 47 (v := 448) d_109_44 rfl (by decide) ?_
      refine ar_imul 48 d_109_47 rfl ?_
      refine ar_top (x' := nI (i * 448)) (pk_mul _ 448) ?_
      refine ar_aload_n 49 d_109_48 rfl rfl ?_
      refine ar_getf 52 d_109_49 rfl (ci := 10) (k := 1) rfl (hF.at 18 rfl) rfl ?_
      refine ar_getf 55 d_109_52 rfl (ci := 5) (k := 1) rfl (hF.at 19 rfl) rfl ?_
      refine ar_top (x' := nI a) (ea) ?_
      refine ar_icmp_lt 76 58 d_109_55 (by decide) rfl (fun cc3 => ?_) (fun cc3 => ?_)
      · refine ar_iinc 79 [(0, .ref (nd + 18)), (1, .int (nI (i + 1)))] d_109_76 rfl rfl (nI_1 i) (by decide) rfl ?_
        refine ar_goto 37 d_109_79 (by decide) ?_
        have hS1 : NS Z n nd nn gg C me f q u b uv h0 h D1 K A Y := ⟨hF, hN, hf, hn, hs, hp0, hu0⟩
        have hI1 : NI Z nn D1 := hI
        rw [← show G_109 nn gg C me f u b k (i + 1) D1 K A Y = G_109 nn gg C me f u b (k + 1) i D1 K A Y from bnN_eq (cl_eq hfi e7) (bnN_eq (cl_eq ha ea) (eq_ifT cc3 (rfl)))]
        exact ih (i + 1) h D1 K A Y (by omega) hS1 hI1 hX hFI0 e3 ea
      · refine ar_aload_n 59 d_109_58 rfl rfl ?_
        refine ar_getf 62 d_109_59 rfl (ci := 10) (k := 0) rfl (hF.at 18 rfl) rfl ?_
        refine ar_getf 65 d_109_62 rfl (ci := 6) (k := 6) rfl (hF.at 10 rfl) rfl ?_
        refine ar_aload_n 66 d_109_65 rfl rfl ?_
        refine ar_getf 69 d_109_66 rfl (ci := 10) (k := 7) rfl (hF.at 18 rfl) rfl ?_
        refine ar_top (x' := nI fi) (e7) ?_
        refine ar_bipush 71 (v := 20) d_109_69 rfl (by decide) ?_
        refine ar_imul 72 d_109_71 rfl ?_
        refine ar_top (x' := nI (fi * 20)) (pk_mul _ 20) ?_
        refine ar_iload_n 73 d_109_72 rfl rfl ?_
        refine ar_iadd 74 d_109_73 rfl ?_
        refine ar_top (x' := nI (fi * 20 + i)) (nI_add _ _) ?_
        refine ar_iconst 75 (v := -1) d_109_74 rfl (by decide) ?_
        refine ar_iastN 76 (e := fi * 20 + i) d_109_75 rfl (hF.at 16 rfl) (by omega) (by omega) ?_
        replace hF : ax_hs (ax_put h (nd + 16) (.inl (0, 961, .inl (upd (D1 16) (fi * 20 + i) (-1))))) [cNd n nd me D1, cDk nd D1, cAr nd 2 35840 D1, cAr nd 3 4096 D1, cAr nd 4 32 D1, cAr nd 5 280 D1, cAr nd 6 280 D1, cLd n nd me D1 A, cAr nd 8 16 D1, cAr nd 9 280 D1, cTb nd gg D1 K, cAr nd 11 48 D1, cAr nd 12 48 D1, cAr nd 13 48 D1, cAr nd 14 2400 D1, cAr nd 15 512 D1, (nd + 16, .inl (0, 961, .inl (upd (D1 16) (fi * 20 + i) (-1)))), cAr nd 17 961 D1, cWk nd D1, cWa nd D1, cAr nd 20 612 D1, cAr nd 21 1152 D1, cRk n nn gg C, cOr n nn gg f] := hF.put 16 _ rfl rfl
        replace hf := hf.put (a := nd + 16) (c := .inl (0, 961, .inl (upd (D1 16) (fi * 20 + i) (-1)))) (Or.inr (by omega))
        replace hN := hN.put (a := nd + 16) (c := .inl (0, 961, .inl (upd (D1 16) (fi * 20 + i) (-1)))) (by omega)
        replace hn : (ax_put h (nd + 16) (.inl (0, 961, .inl (upd (D1 16) (fi * 20 + i) (-1))))).1 = h0.1 := hn
        replace hs : (ax_put h (nd + 16) (.inl (0, 961, .inl (upd (D1 16) (fi * 20 + i) (-1))))).2.1 = h0.2.1 := hs
        generalize ax_put h (nd + 16) (.inl (0, 961, .inl (upd (D1 16) (fi * 20 + i) (-1)))) = hp_4 at hF hf hN hn hs ⊢
        refine ar_iinc 79 [(0, .ref (nd + 18)), (1, .int (nI (i + 1)))] d_109_76 rfl rfl (nI_1 i) (by decide) rfl ?_
        refine ar_goto 37 d_109_79 (by decide) ?_
        have hS1 : NS Z n nd nn gg C me f q u b uv h0 hp_4 (va_up D1 16 (upd (D1 16) (fi * 20 + i) (-1))) K A Y := ⟨hF, hN, hf, hn, hs, hp0, hu0⟩
        have hI1 : NI Z nn (va_up D1 16 (upd (D1 16) (fi * 20 + i) (-1))) := ⟨hI.1, hI.2.1.less (a := fi * 20 + i) (by omega), hI.2.2.1, hI.2.2.2⟩
        rw [← show G_109 nn gg C me f u b k (i + 1) (va_up D1 16 (upd (D1 16) (fi * 20 + i) (-1))) K A Y = G_109 nn gg C me f u b (k + 1) i D1 K A Y from bnN_eq (cl_eq hfi e7) (bnN_eq (cl_eq ha ea) (eq_ifF cc3 (rfl)))]
        exact ih (i + 1) hp_4 (va_up D1 16 (upd (D1 16) (fi * 20 + i) (-1))) K A Y (by omega) hS1 hI1 hX hFI0 e3 ea
  show ax_A (ax_step L xs) ((109, 0, fr, lo), [(0, .ref (nd + 18))], [], h) _
  obtain ⟨hnd, hn0, hnn3, hnn, hgg1, hgg, hRg⟩ := hC
  obtain ⟨hF, hN, hf, hn, hs, hp0, hu0⟩ := hS
  replace hF : ax_hs h [cNd n nd me D, cDk nd D, cAr nd 2 35840 D, cAr nd 3 4096 D, cAr nd 4 32 D, cAr nd 5 280 D, cAr nd 6 280 D, cLd n nd me D A, cAr nd 8 16 D, cAr nd 9 280 D, cTb nd gg D K, cAr nd 11 48 D, cAr nd 12 48 D, cAr nd 13 48 D, cAr nd 14 2400 D, cAr nd 15 512 D, cAr nd 16 961 D, cAr nd 17 961 D, cWk nd D, cWa nd D, cAr nd 20 612 D, cAr nd 21 1152 D, cRk n nn gg C, cOr n nn gg f] := hF
  refine ar_aload_n 1 d_109_0 rfl rfl ?_
  refine ar_getf 4 d_109_1 rfl (ci := 10) (k := 11) rfl (hF.at 18 rfl) rfl ?_
  refine ar_if_le 35 7 d_109_4 (by decide) rfl (fun c1 => ?_) (fun c1 => ?_)
  · refine ar_iconst 36 (v := 0) d_109_35 rfl (by decide) ?_
    refine ar_istore_n 37 [(0, .ref (nd + 18)), (1, .int 0)] d_109_36 rfl (by decide) rfl ?_
    have hS1 : NS Z n nd nn gg C me f q u b uv h0 h D K A Y := ⟨hF, hN, hf, hn, hs, hp0, hu0⟩
    have hI1 : NI Z nn D := hI
    rw [← show G_109 nn gg C me f u b 19 0 D K A Y = F_109 nn gg C me f u b D K A Y from bnN_eq (cl_eq ha ea) (eq_ifT c1 (rfl))]
    exact key 19 0 h D K A Y (by omega) hS1 hI1 hX hFI rfl ea
  · refine ar_aload_n 8 d_109_7 rfl rfl ?_
    refine ar_getf 11 d_109_8 rfl (ci := 10) (k := 1) rfl (hF.at 18 rfl) rfl ?_
    refine ar_getf 14 d_109_11 rfl (ci := 5) (k := 1) rfl (hF.at 19 rfl) rfl ?_
    refine ar_top (x' := nI a) (ea) ?_
    refine ar_sipush 17 (v := 448) d_109_14 rfl (by decide) ?_
    refine ar_irem 18 d_109_17 rfl (by decide) ?_
    refine ar_top (x' := nI (a % 448)) (pk_rem (d := 448) (by omega) (by omega) (by omega)) ?_
    refine ar_istore_n 19 [(0, .ref (nd + 18)), (1, .int (nI (a % 448)))] d_109_18 rfl (by decide) rfl ?_
    refine ar_aload_n 20 d_109_19 rfl rfl ?_
    refine ar_getf 23 d_109_20 rfl (ci := 10) (k := 2) rfl (hF.at 18 rfl) rfl ?_
    refine ar_bipush 25 (v := 60) d_109_23 rfl (by decide) ?_
    refine ar_iload_n 26 d_109_25 rfl rfl ?_
    refine ar_iadd 27 d_109_26 rfl ?_
    refine ar_top (x' := nI (60 + a % 448)) (nI_add 60 _) ?_
    refine ar_sipush 30 (v := 448) d_109_27 rfl (by decide) ?_
    refine ar_iload_n 31 d_109_30 rfl rfl ?_
    refine ar_isub 32 d_109_31 rfl ?_
    refine ar_top (x' := nI (448 - a % 448)) (pk_sub (a := 448) (by omega)) ?_
    refine ar_call (r := []) (na := 0) (kd := 0) (cm := 110) (fr2 := fr - 1) (lo2 := lo - 23) 35 d_109_32 (ar_hoS (as := [.ref (nd + 21), .int (nI (60 + a % 448)), .int (nI (448 - a % 448))]) rfl rfl rfl) rfl (by omega) (show lo - 23 + (19 + 4) = lo by omega) (Nat.le_of_ble_eq_true rfl) (Nat.le_of_ble_eq_true rfl) (c_110 (i := 60 + a % 448) (n0 := 448 - a % 448) (by decide) (by omega) (hF.sub (F' := [cAr nd 21 1152 D]) [21] rfl rfl) rfl rfl (by omega)) ?_
    intro v hp_1 hq
    obtain ⟨rfl, qF, qn, qs, qf⟩ := hq
    have qF : ax_hs hp_1 [(nd + 21, .inl (0, 1152, .inl (clB (448 - a % 448) (60 + a % 448) (D 21))))] := qF
    replace hF : ax_hs hp_1 [cNd n nd me D, cDk nd D, cAr nd 2 35840 D, cAr nd 3 4096 D, cAr nd 4 32 D, cAr nd 5 280 D, cAr nd 6 280 D, cLd n nd me D A, cAr nd 8 16 D, cAr nd 9 280 D, cTb nd gg D K, cAr nd 11 48 D, cAr nd 12 48 D, cAr nd 13 48 D, cAr nd 14 2400 D, cAr nd 15 512 D, cAr nd 16 961 D, cAr nd 17 961 D, cWk nd D, cWa nd D, cAr nd 20 612 D, cRk n nn gg C, cOr n nn gg f, (nd + 21, .inl (0, 1152, .inl (clB (448 - a % 448) (60 + a % 448) (D 21))))] := ax_hs.call (rest := [cNd n nd me D, cDk nd D, cAr nd 2 35840 D, cAr nd 3 4096 D, cAr nd 4 32 D, cAr nd 5 280 D, cAr nd 6 280 D, cLd n nd me D A, cAr nd 8 16 D, cAr nd 9 280 D, cTb nd gg D K, cAr nd 11 48 D, cAr nd 12 48 D, cAr nd 13 48 D, cAr nd 14 2400 D, cAr nd 15 512 D, cAr nd 16 961 D, cAr nd 17 961 D, cWk nd D, cWa nd D, cAr nd 20 612 D, cRk n nn gg C, cOr n nn gg f]) [21] [0, 1, 2, 3, 4, 5, 6, 7, 8, 9, 10, 11, 12, 13, 14, 15, 16, 17, 18, 19, 20, 22, 23] hF qf qF rfl rfl rfl [21] rfl rfl [21] (news := []) rfl rfl (fun _ z => absurd z List.not_mem_nil) rfl
    replace hF := hF.sub (F' := [cNd n nd me D, cDk nd D, cAr nd 2 35840 D, cAr nd 3 4096 D, cAr nd 4 32 D, cAr nd 5 280 D, cAr nd 6 280 D, cLd n nd me D A, cAr nd 8 16 D, cAr nd 9 280 D, cTb nd gg D K, cAr nd 11 48 D, cAr nd 12 48 D, cAr nd 13 48 D, cAr nd 14 2400 D, cAr nd 15 512 D, cAr nd 16 961 D, cAr nd 17 961 D, cWk nd D, cWa nd D, cAr nd 20 612 D, (nd + 21, .inl (0, 1152, .inl (clB (448 - a % 448) (60 + a % 448) (D 21)))), cRk n nn gg C, cOr n nn gg f]) [0, 1, 2, 3, 4, 5, 6, 7, 8, 9, 10, 11, 12, 13, 14, 15, 16, 17, 18, 19, 20, 23, 21, 22] rfl rfl
    replace hN := hN.fr qf (fun x hx z => by simp only [List.mem_cons, List.not_mem_nil, or_false] at z; unfold NTA at hx; omega)
    replace hf := hf.trC qf (fun x _ z => Or.inr (by simp only [List.mem_cons, List.not_mem_nil, or_false] at z; omega))
    replace hn : hp_1.1 = h0.1 := by omega
    replace hs : hp_1.2.1 = h0.2.1 := by omega
    clear qF qn qs qf
    refine ar_iconst 36 (v := 0) d_109_35 rfl (by decide) ?_
    refine ar_istore_n 37 [(0, .ref (nd + 18)), (1, .int 0)] d_109_36 rfl (by decide) rfl ?_
    have hPB2 : PB (clB (448 - a % 448) (60 + a % 448) (D 21)) := hX.2.2.2.2.of (fun b hb => ⟨clB_out _ _ _ _ (by omega), clB_out _ _ _ _ (by omega)⟩)
    have hS1 : NS Z n nd nn gg C me f q u b uv h0 hp_1 (va_up D 21 (clB (448 - a % 448) (60 + a % 448) (D 21))) K A Y := ⟨hF, hN, hf, hn, hs, hp0, hu0⟩
    have hI1 : NI Z nn (va_up D 21 (clB (448 - a % 448) (60 + a % 448) (D 21))) := ⟨hI.1, hI.2.1, hI.2.2.1.ch h3 rfl rfl rfl rfl hPB2, hI.2.2.2⟩
    rw [← show G_109 nn gg C me f u b 19 0 (va_up D 21 (clB (448 - a % 448) (60 + a % 448) (D 21))) K A Y = F_109 nn gg C me f u b D K A Y from bnN_eq (cl_eq ha ea) (eq_ifF c1 (rfl))]
    exact key 19 0 hp_1 (va_up D 21 (clB (448 - a % 448) (60 + a % 448) (D 21))) K A Y (by omega) hS1 hI1 ⟨hX.1, hX.2.1, hX.2.2.1, hX.2.2.2.1, hPB2⟩ hFI rfl ea
def F_112 (nn gg : Nat) (C me : Int32) (f u b : Nat → Int32) (D : Nat → Nat → Int32) (K A : Int64) (Y : List Mg)  : St :=
  bnN ((D 18 7).toNatClampNeg) (fun fi =>
    if D 18 8 = -1 then
      if ¬ (-1) = (nI fi) then
        (va_up (va_up (va_up D 13 (upd (D 13) fi (D 19 4))) 14 (va_cpy (D 20) (D 14) 50 (fi * 50) 50)) 18 (upd (D 18) 13 (nI fi)), K, A, Y)
      else
        (D, K, A, Y)
    else
      bnN ((D 18 8).toNatClampNeg) (fun oi =>
        if ¬ (nI oi) = (nI fi) then
          (va_up (va_up (va_up (va_up (va_up (va_up (va_up (va_up D 10 (upd (D 10) 9 (D 10 9 - 1))) 11 (upd (D 11) oi (-1))) 12 (upd (D 12) oi 0)) 13 (upd (D 13) fi (D 19 4))) 14 (va_cpy (D 20) (D 14) 50 (fi * 50) 50)) 15 (upd (D 15) (D 11 oi).toNatClampNeg (-1))) 16 (ax_fill (D 16) (oi * 20) ((oi + 1) * 20) (-1))) 18 (upd (D 18) 13 (nI fi)), K &&& ((1 <<< ((nI oi).toInt64 &&& 63)) ^^^ (-1)), A, Y)
        else
          (D, K, A, Y)))
set_option maxRecDepth 100000 in
theorem s_112 {L : Nat} {xs : Nat → Int32} {fr lo : Nat} {Z : ZT} {n nd nn gg : Nat} {C me : Int32} {f : Nat → Int32} {q : Nat} {u b : Nat → Int32} {uv : Int32} {h0 h : ax_H} {D : Nat → Nat → Int32} {K A : Int64} {Y : List Mg}  (hfr : 4 ≤ fr) (hlo : 100 ≤ lo) (hC : CS n nd nn gg f) (hS : NS Z n nd nn gg C me f q u b uv h0 h D K A Y) (hI : NI Z nn D) (h3 : ¬ D 18 3 = 2) (hX : SI D) (hFI : FI D) (h8 : OKf (D 11) (D 18 8)) (h14 : D 18 14 = -1) : ax_M L xs 112 fr lo [.ref (nd + 18)] h (fun r h' => r = none ∧ PS Z n nd nn gg C me f q u b uv h0 h' (fun D' K' A' Y' => (D', K', A', Y') = F_112 nn gg C me f u b D K A Y ∧ SI D' ∧ D' 18 3 = D 18 3)) := by
  have hC0 := hC
  show ax_A (ax_step L xs) ((112, 0, fr, lo), [(0, .ref (nd + 18))], [], h) _
  obtain ⟨hnd, hn0, hnn3, hnn, hgg1, hgg, hRg⟩ := hC
  obtain ⟨hF, hN, hf, hn, hs, hp0, hu0⟩ := hS
  replace hF : ax_hs h [cNd n nd me D, cDk nd D, cAr nd 2 35840 D, cAr nd 3 4096 D, cAr nd 4 32 D, cAr nd 5 280 D, cAr nd 6 280 D, cLd n nd me D A, cAr nd 8 16 D, cAr nd 9 280 D, cTb nd gg D K, cAr nd 11 48 D, cAr nd 12 48 D, cAr nd 13 48 D, cAr nd 14 2400 D, cAr nd 15 512 D, cAr nd 16 961 D, cAr nd 17 961 D, cWk nd D, cWa nd D, cAr nd 20 612 D, cAr nd 21 1152 D, cRk n nn gg C, cOr n nn gg f] := hF
  obtain ⟨fi, hfi, e7, hfj⟩ := hFI
  obtain ⟨l1, hl1, el1⟩ := hI.2.2.1.1.2.2.2.2.1
  have h8c : D 18 8 = -1 ∨ ∃ p : Nat, p < 48 ∧ D 18 8 = nI p ∧ ¬ D 11 p < 0 := h8
  rcases h8c with e8 | ⟨oi, hoi, e8, hoj⟩
  · refine ar_aload_n 1 d_112_0 rfl rfl ?_
    refine ar_getf 4 d_112_1 rfl (ci := 10) (k := 8) rfl (hF.at 18 rfl) rfl ?_
    refine ar_top (x' := -1) (e8) ?_
    refine ar_aload_n 5 d_112_4 rfl rfl ?_
    refine ar_getf 8 d_112_5 rfl (ci := 10) (k := 7) rfl (hF.at 18 rfl) rfl ?_
    refine ar_top (x' := nI fi) (e7) ?_
    refine ar_icmp_ne 12 11 d_112_8 (by decide) rfl (fun c1 => ?_) (fun c1 => ?_)
    · refine ar_aload_n 13 d_112_12 rfl rfl ?_
      refine ar_getf 16 d_112_13 rfl (ci := 10) (k := 8) rfl (hF.at 18 rfl) rfl ?_
      refine ar_top (x' := -1) (e8) ?_
      refine ar_if_lt 30 19 d_112_16 (by decide) rfl (fun _ => ?_) (fun c => absurd (by decide) c)
      refine ar_aload_n 31 d_112_30 rfl rfl ?_
      refine ar_getf 34 d_112_31 rfl (ci := 10) (k := 0) rfl (hF.at 18 rfl) rfl ?_
      refine ar_aload_n 35 d_112_34 rfl rfl ?_
      refine ar_getf 38 d_112_35 rfl (ci := 10) (k := 7) rfl (hF.at 18 rfl) rfl ?_
      refine ar_top (x' := nI fi) (e7) ?_
      refine ar_aload_n 39 d_112_38 rfl rfl ?_
      refine ar_getf 42 d_112_39 rfl (ci := 10) (k := 1) rfl (hF.at 18 rfl) rfl ?_
      refine ar_getf 45 d_112_42 rfl (ci := 5) (k := 7) rfl (hF.at 19 rfl) rfl ?_
      refine ar_bipush 47 (v := 50) d_112_45 rfl (by decide) ?_
      refine ar_aload_n 48 d_112_47 rfl rfl ?_
      refine ar_getf 51 d_112_48 rfl (ci := 10) (k := 1) rfl (hF.at 18 rfl) rfl ?_
      refine ar_getf 54 d_112_51 rfl (ci := 5) (k := 4) rfl (hF.at 19 rfl) rfl ?_
      refine ar_call (r := []) (na := 0) (kd := 0) (cm := 86) (fr2 := fr - 1) (lo2 := lo - 24) 57 d_112_54 (ar_hoV (as := [.int (nI fi), .ref (nd + 20), .int 50, .int (D 19 4)]) rfl rfl rfl (hF.at 10 rfl)) rfl (by omega) (show lo - 24 + (19 + 5) = lo by omega) (Nat.le_of_ble_eq_true rfl) (Nat.le_of_ble_eq_true rfl) (c_86 (by omega) (by omega) hfi (by decide) (by omega) (hF.sub (F' := [cTb nd gg D K, cAr nd 13 48 D, cAr nd 14 2400 D, cAr nd 20 612 D]) [10, 13, 14, 20] rfl rfl) rfl rfl (by omega) (p := 50)) ?_
      intro v hp_1 hq
      obtain ⟨rfl, qF, qn, qs, qf⟩ := hq
      have qF : ax_hs hp_1 [cTb nd gg D K, (nd + 13, .inl (0, 48, .inl (upd (D 13) fi (D 19 4)))), (nd + 14, .inl (0, 2400, .inl (va_cpy (D 20) (D 14) 50 (fi * 50) 50))), cAr nd 20 612 D] := qF
      replace hF : ax_hs hp_1 [cNd n nd me D, cDk nd D, cAr nd 2 35840 D, cAr nd 3 4096 D, cAr nd 4 32 D, cAr nd 5 280 D, cAr nd 6 280 D, cLd n nd me D A, cAr nd 8 16 D, cAr nd 9 280 D, cAr nd 11 48 D, cAr nd 12 48 D, cAr nd 15 512 D, cAr nd 16 961 D, cAr nd 17 961 D, cWk nd D, cWa nd D, cAr nd 21 1152 D, cRk n nn gg C, cOr n nn gg f, cTb nd gg D K, (nd + 13, .inl (0, 48, .inl (upd (D 13) fi (D 19 4)))), (nd + 14, .inl (0, 2400, .inl (va_cpy (D 20) (D 14) 50 (fi * 50) 50))), cAr nd 20 612 D] := ax_hs.call (rest := [cNd n nd me D, cDk nd D, cAr nd 2 35840 D, cAr nd 3 4096 D, cAr nd 4 32 D, cAr nd 5 280 D, cAr nd 6 280 D, cLd n nd me D A, cAr nd 8 16 D, cAr nd 9 280 D, cAr nd 11 48 D, cAr nd 12 48 D, cAr nd 15 512 D, cAr nd 16 961 D, cAr nd 17 961 D, cWk nd D, cWa nd D, cAr nd 21 1152 D, cRk n nn gg C, cOr n nn gg f]) [10, 13, 14, 20] [0, 1, 2, 3, 4, 5, 6, 7, 8, 9, 11, 12, 15, 16, 17, 18, 19, 21, 22, 23] hF qf qF rfl rfl rfl [13, 14] rfl rfl [10, 13, 14, 20] (news := []) rfl rfl (fun _ z => absurd z List.not_mem_nil) rfl
      replace hF := hF.sub (F' := [cNd n nd me D, cDk nd D, cAr nd 2 35840 D, cAr nd 3 4096 D, cAr nd 4 32 D, cAr nd 5 280 D, cAr nd 6 280 D, cLd n nd me D A, cAr nd 8 16 D, cAr nd 9 280 D, cTb nd gg D K, cAr nd 11 48 D, cAr nd 12 48 D, (nd + 13, .inl (0, 48, .inl (upd (D 13) fi (D 19 4)))), (nd + 14, .inl (0, 2400, .inl (va_cpy (D 20) (D 14) 50 (fi * 50) 50))), cAr nd 15 512 D, cAr nd 16 961 D, cAr nd 17 961 D, cWk nd D, cWa nd D, cAr nd 20 612 D, cAr nd 21 1152 D, cRk n nn gg C, cOr n nn gg f]) [0, 1, 2, 3, 4, 5, 6, 7, 8, 9, 20, 10, 11, 21, 22, 12, 13, 14, 15, 16, 23, 17, 18, 19] rfl rfl
      replace hN := hN.fr qf (fun x hx z => by simp only [List.mem_cons, List.not_mem_nil, or_false] at z; unfold NTA at hx; omega)
      replace hf := hf.trC qf (fun x _ z => Or.inr (by simp only [List.mem_cons, List.not_mem_nil, or_false] at z; omega))
      replace hn : hp_1.1 = h0.1 := by omega
      replace hs : hp_1.2.1 = h0.2.1 := by omega
      clear qF qn qs qf
      refine ar_aload_n 58 d_112_57 rfl rfl ?_
      refine ar_aload_n 59 d_112_58 rfl rfl ?_
      refine ar_getf 62 d_112_59 rfl (ci := 10) (k := 7) rfl (hF.at 18 rfl) rfl ?_
      refine ar_top (x' := nI fi) (e7) ?_
      refine ar_putf 65 [.ref (nd + 10), .ref (nd + 19), .ref (nd + 21), .int (D 18 3), .int (D 18 4), .int (D 18 5), .int (D 18 6), .int (D 18 7), .int (D 18 8), .int (D 18 9), .int (D 18 10), .int (D 18 11), .int (D 18 12), .int (nI fi), .int (D 18 14)] d_112_62 rfl (ci := 10) (k := 13) rfl rfl (hF.at 18 rfl) (Nat.le_of_ble_eq_true rfl) rfl rfl rfl ?_
      replace hF : ax_hs (ax_put hp_1 (nd + 18) (.inr (10, [.ref (nd + 10), .ref (nd + 19), .ref (nd + 21), .int (D 18 3), .int (D 18 4), .int (D 18 5), .int (D 18 6), .int (D 18 7), .int (D 18 8), .int (D 18 9), .int (D 18 10), .int (D 18 11), .int (D 18 12), .int (nI fi), .int (D 18 14)]))) [cNd n nd me D, cDk nd D, cAr nd 2 35840 D, cAr nd 3 4096 D, cAr nd 4 32 D, cAr nd 5 280 D, cAr nd 6 280 D, cLd n nd me D A, cAr nd 8 16 D, cAr nd 9 280 D, cTb nd gg D K, cAr nd 11 48 D, cAr nd 12 48 D, (nd + 13, .inl (0, 48, .inl (upd (D 13) fi (D 19 4)))), (nd + 14, .inl (0, 2400, .inl (va_cpy (D 20) (D 14) 50 (fi * 50) 50))), cAr nd 15 512 D, cAr nd 16 961 D, cAr nd 17 961 D, (nd + 18, .inr (10, [.ref (nd + 10), .ref (nd + 19), .ref (nd + 21), .int (D 18 3), .int (D 18 4), .int (D 18 5), .int (D 18 6), .int (D 18 7), .int (D 18 8), .int (D 18 9), .int (D 18 10), .int (D 18 11), .int (D 18 12), .int (nI fi), .int (D 18 14)])), cWa nd D, cAr nd 20 612 D, cAr nd 21 1152 D, cRk n nn gg C, cOr n nn gg f] := hF.put 18 _ rfl rfl
      replace hf := hf.put (a := nd + 18) (c := .inr (10, [.ref (nd + 10), .ref (nd + 19), .ref (nd + 21), .int (D 18 3), .int (D 18 4), .int (D 18 5), .int (D 18 6), .int (D 18 7), .int (D 18 8), .int (D 18 9), .int (D 18 10), .int (D 18 11), .int (D 18 12), .int (nI fi), .int (D 18 14)])) (Or.inr (by omega))
      replace hN := hN.put (a := nd + 18) (c := .inr (10, [.ref (nd + 10), .ref (nd + 19), .ref (nd + 21), .int (D 18 3), .int (D 18 4), .int (D 18 5), .int (D 18 6), .int (D 18 7), .int (D 18 8), .int (D 18 9), .int (D 18 10), .int (D 18 11), .int (D 18 12), .int (nI fi), .int (D 18 14)])) (by omega)
      replace hn : (ax_put hp_1 (nd + 18) (.inr (10, [.ref (nd + 10), .ref (nd + 19), .ref (nd + 21), .int (D 18 3), .int (D 18 4), .int (D 18 5), .int (D 18 6), .int (D 18 7), .int (D 18 8), .int (D 18 9), .int (D 18 10), .int (D 18 11), .int (D 18 12), .int (nI fi), .int (D 18 14)]))).1 = h0.1 := hn
      replace hs : (ax_put hp_1 (nd + 18) (.inr (10, [.ref (nd + 10), .ref (nd + 19), .ref (nd + 21), .int (D 18 3), .int (D 18 4), .int (D 18 5), .int (D 18 6), .int (D 18 7), .int (D 18 8), .int (D 18 9), .int (D 18 10), .int (D 18 11), .int (D 18 12), .int (nI fi), .int (D 18 14)]))).2.1 = h0.2.1 := hs
      generalize ax_put hp_1 (nd + 18) (.inr (10, [.ref (nd + 10), .ref (nd + 19), .ref (nd + 21), .int (D 18 3), .int (D 18 4), .int (D 18 5), .int (D 18 6), .int (D 18 7), .int (D 18 8), .int (D 18 9), .int (D 18 10), .int (D 18 11), .int (D 18 12), .int (nI fi), .int (D 18 14)])) = hp_2 at hF hf hN hn hs ⊢
      have hS9 : NS Z n nd nn gg C me f q u b uv h0 hp_2 (va_up (va_up (va_up D 13 (upd (D 13) fi (D 19 4))) 14 (va_cpy (D 20) (D 14) 50 (fi * 50) 50)) 18 (upd (D 18) 13 (nI fi))) K A Y := ⟨hF, hN, hf, hn, hs, hp0, hu0⟩
      have hI9 : NI Z nn (va_up (va_up (va_up D 13 (upd (D 13) fi (D 19 4))) 14 (va_cpy (D 20) (D 14) 50 (fi * 50) 50)) 18 (upd (D 18) 13 (nI fi))) := ⟨hI.1, hI.2.1.name ⟨l1, by omega, el1⟩, hI.2.2.1.ch h3 rfl rfl rfl rfl hX.2.2.2.2, hI.2.2.2⟩
      exact ar_ret d_112_65 rfl (⟨rfl, _, _, _, _, hS9, hI9, bnN_eq (cl_eq hfi e7) (eq_ifT e8 (eq_ifT c1 (rfl))), ⟨hX.1, Or.inr ⟨fi, hfi, rfl, hfj⟩, hX.2.2.1, Or.inr ⟨fi, hfi, e7, hfj⟩, hX.2.2.2.2⟩, rfl⟩)
    · have hS9 : NS Z n nd nn gg C me f q u b uv h0 h D K A Y := ⟨hF, hN, hf, hn, hs, hp0, hu0⟩
      have hI9 : NI Z nn D := hI
      exact ar_ret d_112_11 rfl (⟨rfl, _, _, _, _, hS9, hI9, bnN_eq (cl_eq hfi e7) (eq_ifT e8 (eq_ifF c1 (rfl))), hX, rfl⟩)
  · refine ar_aload_n 1 d_112_0 rfl rfl ?_
    refine ar_getf 4 d_112_1 rfl (ci := 10) (k := 8) rfl (hF.at 18 rfl) rfl ?_
    refine ar_top (x' := nI oi) (e8) ?_
    refine ar_aload_n 5 d_112_4 rfl rfl ?_
    refine ar_getf 8 d_112_5 rfl (ci := 10) (k := 7) rfl (hF.at 18 rfl) rfl ?_
    refine ar_top (x' := nI fi) (e7) ?_
    refine ar_icmp_ne 12 11 d_112_8 (by decide) rfl (fun c1 => ?_) (fun c1 => ?_)
    · refine ar_aload_n 13 d_112_12 rfl rfl ?_
      refine ar_getf 16 d_112_13 rfl (ci := 10) (k := 8) rfl (hF.at 18 rfl) rfl ?_
      refine ar_top (x' := nI oi) (e8) ?_
      refine ar_if_lt 30 19 d_112_16 (by decide) rfl (fun c => absurd c (nI_pos (by omega))) (fun _ => ?_)
      refine ar_aload_n 20 d_112_19 rfl rfl ?_
      refine ar_getf 23 d_112_20 rfl (ci := 10) (k := 0) rfl (hF.at 18 rfl) rfl ?_
      refine ar_aload_n 24 d_112_23 rfl rfl ?_
      refine ar_getf 27 d_112_24 rfl (ci := 10) (k := 8) rfl (hF.at 18 rfl) rfl ?_
      refine ar_top (x' := nI oi) (e8) ?_
      have hne : ¬ oi = fi := fun z => c1 (by rw [z])
      refine ar_call (r := []) (na := 0) (kd := 0) (cm := 111) (fr2 := fr - 1) (lo2 := lo - 21) 30 d_112_27 (ar_hoV (as := [.int (nI oi)]) rfl rfl rfl (hF.at 10 rfl)) rfl (by omega) (show lo - 21 + (19 + 2) = lo by omega) (Nat.le_of_ble_eq_true rfl) (Nat.le_of_ble_eq_true rfl) (c_111 (by omega) (by omega) hoi hoj (hI.2.1.id512 hoi hoj) (hF.sub (F' := [cTb nd gg D K, cAr nd 11 48 D, cAr nd 12 48 D, cAr nd 15 512 D, cAr nd 16 961 D]) [10, 11, 12, 15, 16] rfl rfl) rfl rfl (by omega)) ?_
      intro v hp_3 hq
      obtain ⟨rfl, qF, qn, qs, qf⟩ := hq
      have qF : ax_hs hp_3 [(nd + 10, .inr (6, [.int (nI gg), .ref (nd + 11), .ref (nd + 12), .ref (nd + 13), .ref (nd + 14), .ref (nd + 15), .ref (nd + 16), .ref (nd + 17), .long (K &&& ((1 <<< ((nI oi).toInt64 &&& 63)) ^^^ (-1))), .int (D 10 9 - 1), .int (D 10 10)])), (nd + 11, .inl (0, 48, .inl (upd (D 11) oi (-1)))), (nd + 12, .inl (0, 48, .inl (upd (D 12) oi 0))), (nd + 15, .inl (0, 512, .inl (upd (D 15) (D 11 oi).toNatClampNeg (-1)))), (nd + 16, .inl (0, 961, .inl (ax_fill (D 16) (oi * 20) ((oi + 1) * 20) (-1))))] := qF
      replace hF : ax_hs hp_3 [cNd n nd me D, cDk nd D, cAr nd 2 35840 D, cAr nd 3 4096 D, cAr nd 4 32 D, cAr nd 5 280 D, cAr nd 6 280 D, cLd n nd me D A, cAr nd 8 16 D, cAr nd 9 280 D, cAr nd 13 48 D, cAr nd 14 2400 D, cAr nd 17 961 D, cWk nd D, cWa nd D, cAr nd 20 612 D, cAr nd 21 1152 D, cRk n nn gg C, cOr n nn gg f, (nd + 10, .inr (6, [.int (nI gg), .ref (nd + 11), .ref (nd + 12), .ref (nd + 13), .ref (nd + 14), .ref (nd + 15), .ref (nd + 16), .ref (nd + 17), .long (K &&& ((1 <<< ((nI oi).toInt64 &&& 63)) ^^^ (-1))), .int (D 10 9 - 1), .int (D 10 10)])), (nd + 11, .inl (0, 48, .inl (upd (D 11) oi (-1)))), (nd + 12, .inl (0, 48, .inl (upd (D 12) oi 0))), (nd + 15, .inl (0, 512, .inl (upd (D 15) (D 11 oi).toNatClampNeg (-1)))), (nd + 16, .inl (0, 961, .inl (ax_fill (D 16) (oi * 20) ((oi + 1) * 20) (-1))))] := ax_hs.call (rest := [cNd n nd me D, cDk nd D, cAr nd 2 35840 D, cAr nd 3 4096 D, cAr nd 4 32 D, cAr nd 5 280 D, cAr nd 6 280 D, cLd n nd me D A, cAr nd 8 16 D, cAr nd 9 280 D, cAr nd 13 48 D, cAr nd 14 2400 D, cAr nd 17 961 D, cWk nd D, cWa nd D, cAr nd 20 612 D, cAr nd 21 1152 D, cRk n nn gg C, cOr n nn gg f]) [10, 11, 12, 15, 16] [0, 1, 2, 3, 4, 5, 6, 7, 8, 9, 13, 14, 17, 18, 19, 20, 21, 22, 23] hF qf qF rfl rfl rfl [10, 11, 12, 15, 16] rfl rfl [10, 11, 12, 15, 16] (news := []) rfl rfl (fun _ z => absurd z List.not_mem_nil) rfl
      replace hF := hF.sub (F' := [cNd n nd me D, cDk nd D, cAr nd 2 35840 D, cAr nd 3 4096 D, cAr nd 4 32 D, cAr nd 5 280 D, cAr nd 6 280 D, cLd n nd me D A, cAr nd 8 16 D, cAr nd 9 280 D, (nd + 10, .inr (6, [.int (nI gg), .ref (nd + 11), .ref (nd + 12), .ref (nd + 13), .ref (nd + 14), .ref (nd + 15), .ref (nd + 16), .ref (nd + 17), .long (K &&& ((1 <<< ((nI oi).toInt64 &&& 63)) ^^^ (-1))), .int (D 10 9 - 1), .int (D 10 10)])), (nd + 11, .inl (0, 48, .inl (upd (D 11) oi (-1)))), (nd + 12, .inl (0, 48, .inl (upd (D 12) oi 0))), cAr nd 13 48 D, cAr nd 14 2400 D, (nd + 15, .inl (0, 512, .inl (upd (D 15) (D 11 oi).toNatClampNeg (-1)))), (nd + 16, .inl (0, 961, .inl (ax_fill (D 16) (oi * 20) ((oi + 1) * 20) (-1)))), cAr nd 17 961 D, cWk nd D, cWa nd D, cAr nd 20 612 D, cAr nd 21 1152 D, cRk n nn gg C, cOr n nn gg f]) [0, 1, 2, 3, 4, 5, 6, 7, 8, 9, 19, 20, 21, 10, 11, 22, 23, 12, 13, 14, 15, 16, 17, 18] rfl rfl
      replace hN := hN.fr qf (fun x hx z => by simp only [List.mem_cons, List.not_mem_nil, or_false] at z; unfold NTA at hx; omega)
      replace hf := hf.trC qf (fun x _ z => Or.inr (by simp only [List.mem_cons, List.not_mem_nil, or_false] at z; omega))
      replace hn : hp_3.1 = h0.1 := by omega
      replace hs : hp_3.2.1 = h0.2.1 := by omega
      clear qF qn qs qf
      refine ar_aload_n 31 d_112_30 rfl rfl ?_
      refine ar_getf 34 d_112_31 rfl (ci := 10) (k := 0) rfl (hF.at 18 rfl) rfl ?_
      refine ar_aload_n 35 d_112_34 rfl rfl ?_
      refine ar_getf 38 d_112_35 rfl (ci := 10) (k := 7) rfl (hF.at 18 rfl) rfl ?_
      refine ar_top (x' := nI fi) (e7) ?_
      refine ar_aload_n 39 d_112_38 rfl rfl ?_
      refine ar_getf 42 d_112_39 rfl (ci := 10) (k := 1) rfl (hF.at 18 rfl) rfl ?_
      refine ar_getf 45 d_112_42 rfl (ci := 5) (k := 7) rfl (hF.at 19 rfl) rfl ?_
      refine ar_bipush 47 (v := 50) d_112_45 rfl (by decide) ?_
      refine ar_aload_n 48 d_112_47 rfl rfl ?_
      refine ar_getf 51 d_112_48 rfl (ci := 10) (k := 1) rfl (hF.at 18 rfl) rfl ?_
      refine ar_getf 54 d_112_51 rfl (ci := 5) (k := 4) rfl (hF.at 19 rfl) rfl ?_
      refine ar_call (r := []) (na := 0) (kd := 0) (cm := 86) (fr2 := fr - 1) (lo2 := lo - 24) 57 d_112_54 (ar_hoV (as := [.int (nI fi), .ref (nd + 20), .int 50, .int (D 19 4)]) rfl rfl rfl (hF.at 10 rfl)) rfl (by omega) (show lo - 24 + (19 + 5) = lo by omega) (Nat.le_of_ble_eq_true rfl) (Nat.le_of_ble_eq_true rfl) (c_86 (by omega) (by omega) hfi (by decide) (by omega) (hF.sub (F' := [(nd + 10, .inr (6, [.int (nI gg), .ref (nd + 11), .ref (nd + 12), .ref (nd + 13), .ref (nd + 14), .ref (nd + 15), .ref (nd + 16), .ref (nd + 17), .long (K &&& ((1 <<< ((nI oi).toInt64 &&& 63)) ^^^ (-1))), .int (D 10 9 - 1), .int (D 10 10)])), cAr nd 13 48 D, cAr nd 14 2400 D, cAr nd 20 612 D]) [10, 13, 14, 20] rfl rfl) rfl rfl (by omega) (p := 50)) ?_
      intro v hp_4 hq
      obtain ⟨rfl, qF, qn, qs, qf⟩ := hq
      have qF : ax_hs hp_4 [(nd + 10, .inr (6, [.int (nI gg), .ref (nd + 11), .ref (nd + 12), .ref (nd + 13), .ref (nd + 14), .ref (nd + 15), .ref (nd + 16), .ref (nd + 17), .long (K &&& ((1 <<< ((nI oi).toInt64 &&& 63)) ^^^ (-1))), .int (D 10 9 - 1), .int (D 10 10)])), (nd + 13, .inl (0, 48, .inl (upd (D 13) fi (D 19 4)))), (nd + 14, .inl (0, 2400, .inl (va_cpy (D 20) (D 14) 50 (fi * 50) 50))), cAr nd 20 612 D] := qF
      replace hF : ax_hs hp_4 [cNd n nd me D, cDk nd D, cAr nd 2 35840 D, cAr nd 3 4096 D, cAr nd 4 32 D, cAr nd 5 280 D, cAr nd 6 280 D, cLd n nd me D A, cAr nd 8 16 D, cAr nd 9 280 D, (nd + 11, .inl (0, 48, .inl (upd (D 11) oi (-1)))), (nd + 12, .inl (0, 48, .inl (upd (D 12) oi 0))), (nd + 15, .inl (0, 512, .inl (upd (D 15) (D 11 oi).toNatClampNeg (-1)))), (nd + 16, .inl (0, 961, .inl (ax_fill (D 16) (oi * 20) ((oi + 1) * 20) (-1)))), cAr nd 17 961 D, cWk nd D, cWa nd D, cAr nd 21 1152 D, cRk n nn gg C, cOr n nn gg f, (nd + 10, .inr (6, [.int (nI gg), .ref (nd + 11), .ref (nd + 12), .ref (nd + 13), .ref (nd + 14), .ref (nd + 15), .ref (nd + 16), .ref (nd + 17), .long (K &&& ((1 <<< ((nI oi).toInt64 &&& 63)) ^^^ (-1))), .int (D 10 9 - 1), .int (D 10 10)])), (nd + 13, .inl (0, 48, .inl (upd (D 13) fi (D 19 4)))), (nd + 14, .inl (0, 2400, .inl (va_cpy (D 20) (D 14) 50 (fi * 50) 50))), cAr nd 20 612 D] := ax_hs.call (rest := [cNd n nd me D, cDk nd D, cAr nd 2 35840 D, cAr nd 3 4096 D, cAr nd 4 32 D, cAr nd 5 280 D, cAr nd 6 280 D, cLd n nd me D A, cAr nd 8 16 D, cAr nd 9 280 D, (nd + 11, .inl (0, 48, .inl (upd (D 11) oi (-1)))), (nd + 12, .inl (0, 48, .inl (upd (D 12) oi 0))), (nd + 15, .inl (0, 512, .inl (upd (D 15) (D 11 oi).toNatClampNeg (-1)))), (nd + 16, .inl (0, 961, .inl (ax_fill (D 16) (oi * 20) ((oi + 1) * 20) (-1)))), cAr nd 17 961 D, cWk nd D, cWa nd D, cAr nd 21 1152 D, cRk n nn gg C, cOr n nn gg f]) [10, 13, 14, 20] [0, 1, 2, 3, 4, 5, 6, 7, 8, 9, 11, 12, 15, 16, 17, 18, 19, 21, 22, 23] hF qf qF rfl rfl rfl [13, 14] rfl rfl [10, 13, 14, 20] (news := []) rfl rfl (fun _ z => absurd z List.not_mem_nil) rfl
      replace hF := hF.sub (F' := [cNd n nd me D, cDk nd D, cAr nd 2 35840 D, cAr nd 3 4096 D, cAr nd 4 32 D, cAr nd 5 280 D, cAr nd 6 280 D, cLd n nd me D A, cAr nd 8 16 D, cAr nd 9 280 D, (nd + 10, .inr (6, [.int (nI gg), .ref (nd + 11), .ref (nd + 12), .ref (nd + 13), .ref (nd + 14), .ref (nd + 15), .ref (nd + 16), .ref (nd + 17), .long (K &&& ((1 <<< ((nI oi).toInt64 &&& 63)) ^^^ (-1))), .int (D 10 9 - 1), .int (D 10 10)])), (nd + 11, .inl (0, 48, .inl (upd (D 11) oi (-1)))), (nd + 12, .inl (0, 48, .inl (upd (D 12) oi 0))), (nd + 13, .inl (0, 48, .inl (upd (D 13) fi (D 19 4)))), (nd + 14, .inl (0, 2400, .inl (va_cpy (D 20) (D 14) 50 (fi * 50) 50))), (nd + 15, .inl (0, 512, .inl (upd (D 15) (D 11 oi).toNatClampNeg (-1)))), (nd + 16, .inl (0, 961, .inl (ax_fill (D 16) (oi * 20) ((oi + 1) * 20) (-1)))), cAr nd 17 961 D, cWk nd D, cWa nd D, cAr nd 20 612 D, cAr nd 21 1152 D, cRk n nn gg C, cOr n nn gg f]) [0, 1, 2, 3, 4, 5, 6, 7, 8, 9, 20, 10, 11, 21, 22, 12, 13, 14, 15, 16, 23, 17, 18, 19] rfl rfl
      replace hN := hN.fr qf (fun x hx z => by simp only [List.mem_cons, List.not_mem_nil, or_false] at z; unfold NTA at hx; omega)
      replace hf := hf.trC qf (fun x _ z => Or.inr (by simp only [List.mem_cons, List.not_mem_nil, or_false] at z; omega))
      replace hn : hp_4.1 = h0.1 := by omega
      replace hs : hp_4.2.1 = h0.2.1 := by omega
      clear qF qn qs qf
      refine ar_aload_n 58 d_112_57 rfl rfl ?_
      refine ar_aload_n 59 d_112_58 rfl rfl ?_
      refine ar_getf 62 d_112_59 rfl (ci := 10) (k := 7) rfl (hF.at 18 rfl) rfl ?_
      refine ar_top (x' := nI fi) (e7) ?_
      refine ar_putf 65 [.ref (nd + 10), .ref (nd + 19), .ref (nd + 21), .int (D 18 3), .int (D 18 4), .int (D 18 5), .int (D 18 6), .int (D 18 7), .int (D 18 8), .int (D 18 9), .int (D 18 10), .int (D 18 11), .int (D 18 12), .int (nI fi), .int (D 18 14)] d_112_62 rfl (ci := 10) (k := 13) rfl rfl (hF.at 18 rfl) (Nat.le_of_ble_eq_true rfl) rfl rfl rfl ?_
      replace hF : ax_hs (ax_put hp_4 (nd + 18) (.inr (10, [.ref (nd + 10), .ref (nd + 19), .ref (nd + 21), .int (D 18 3), .int (D 18 4), .int (D 18 5), .int (D 18 6), .int (D 18 7), .int (D 18 8), .int (D 18 9), .int (D 18 10), .int (D 18 11), .int (D 18 12), .int (nI fi), .int (D 18 14)]))) [cNd n nd me D, cDk nd D, cAr nd 2 35840 D, cAr nd 3 4096 D, cAr nd 4 32 D, cAr nd 5 280 D, cAr nd 6 280 D, cLd n nd me D A, cAr nd 8 16 D, cAr nd 9 280 D, (nd + 10, .inr (6, [.int (nI gg), .ref (nd + 11), .ref (nd + 12), .ref (nd + 13), .ref (nd + 14), .ref (nd + 15), .ref (nd + 16), .ref (nd + 17), .long (K &&& ((1 <<< ((nI oi).toInt64 &&& 63)) ^^^ (-1))), .int (D 10 9 - 1), .int (D 10 10)])), (nd + 11, .inl (0, 48, .inl (upd (D 11) oi (-1)))), (nd + 12, .inl (0, 48, .inl (upd (D 12) oi 0))), (nd + 13, .inl (0, 48, .inl (upd (D 13) fi (D 19 4)))), (nd + 14, .inl (0, 2400, .inl (va_cpy (D 20) (D 14) 50 (fi * 50) 50))), (nd + 15, .inl (0, 512, .inl (upd (D 15) (D 11 oi).toNatClampNeg (-1)))), (nd + 16, .inl (0, 961, .inl (ax_fill (D 16) (oi * 20) ((oi + 1) * 20) (-1)))), cAr nd 17 961 D, (nd + 18, .inr (10, [.ref (nd + 10), .ref (nd + 19), .ref (nd + 21), .int (D 18 3), .int (D 18 4), .int (D 18 5), .int (D 18 6), .int (D 18 7), .int (D 18 8), .int (D 18 9), .int (D 18 10), .int (D 18 11), .int (D 18 12), .int (nI fi), .int (D 18 14)])), cWa nd D, cAr nd 20 612 D, cAr nd 21 1152 D, cRk n nn gg C, cOr n nn gg f] := hF.put 18 _ rfl rfl
      replace hf := hf.put (a := nd + 18) (c := .inr (10, [.ref (nd + 10), .ref (nd + 19), .ref (nd + 21), .int (D 18 3), .int (D 18 4), .int (D 18 5), .int (D 18 6), .int (D 18 7), .int (D 18 8), .int (D 18 9), .int (D 18 10), .int (D 18 11), .int (D 18 12), .int (nI fi), .int (D 18 14)])) (Or.inr (by omega))
      replace hN := hN.put (a := nd + 18) (c := .inr (10, [.ref (nd + 10), .ref (nd + 19), .ref (nd + 21), .int (D 18 3), .int (D 18 4), .int (D 18 5), .int (D 18 6), .int (D 18 7), .int (D 18 8), .int (D 18 9), .int (D 18 10), .int (D 18 11), .int (D 18 12), .int (nI fi), .int (D 18 14)])) (by omega)
      replace hn : (ax_put hp_4 (nd + 18) (.inr (10, [.ref (nd + 10), .ref (nd + 19), .ref (nd + 21), .int (D 18 3), .int (D 18 4), .int (D 18 5), .int (D 18 6), .int (D 18 7), .int (D 18 8), .int (D 18 9), .int (D 18 10), .int (D 18 11), .int (D 18 12), .int (nI fi), .int (D 18 14)]))).1 = h0.1 := hn
      replace hs : (ax_put hp_4 (nd + 18) (.inr (10, [.ref (nd + 10), .ref (nd + 19), .ref (nd + 21), .int (D 18 3), .int (D 18 4), .int (D 18 5), .int (D 18 6), .int (D 18 7), .int (D 18 8), .int (D 18 9), .int (D 18 10), .int (D 18 11), .int (D 18 12), .int (nI fi), .int (D 18 14)]))).2.1 = h0.2.1 := hs
      generalize ax_put hp_4 (nd + 18) (.inr (10, [.ref (nd + 10), .ref (nd + 19), .ref (nd + 21), .int (D 18 3), .int (D 18 4), .int (D 18 5), .int (D 18 6), .int (D 18 7), .int (D 18 8), .int (D 18 9), .int (D 18 10), .int (D 18 11), .int (D 18 12), .int (nI fi), .int (D 18 14)])) = hp_5 at hF hf hN hn hs ⊢
      have hS9 : NS Z n nd nn gg C me f q u b uv h0 hp_5 (va_up (va_up (va_up (va_up (va_up (va_up (va_up (va_up D 10 (upd (D 10) 9 (D 10 9 - 1))) 11 (upd (D 11) oi (-1))) 12 (upd (D 12) oi 0)) 13 (upd (D 13) fi (D 19 4))) 14 (va_cpy (D 20) (D 14) 50 (fi * 50) 50)) 15 (upd (D 15) (D 11 oi).toNatClampNeg (-1))) 16 (ax_fill (D 16) (oi * 20) ((oi + 1) * 20) (-1))) 18 (upd (D 18) 13 (nI fi))) (K &&& ((1 <<< ((nI oi).toInt64 &&& 63)) ^^^ (-1))) A Y := ⟨hF, hN, hf, hn, hs, hp0, hu0⟩
      have hI9 : NI Z nn (va_up (va_up (va_up (va_up (va_up (va_up (va_up (va_up D 10 (upd (D 10) 9 (D 10 9 - 1))) 11 (upd (D 11) oi (-1))) 12 (upd (D 12) oi 0)) 13 (upd (D 13) fi (D 19 4))) 14 (va_cpy (D 20) (D 14) 50 (fi * 50) 50)) 15 (upd (D 15) (D 11 oi).toNatClampNeg (-1))) 16 (ax_fill (D 16) (oi * 20) ((oi + 1) * 20) (-1))) 18 (upd (D 18) 13 (nI fi))) := ⟨hI.1, (hI.2.1.remove hoi hoj).name ⟨l1, by omega, el1⟩, hI.2.2.1.ch h3 rfl rfl rfl rfl hX.2.2.2.2, hI.2.2.2⟩
      exact ar_ret d_112_65 rfl (⟨rfl, _, _, _, _, hS9, hI9, bnN_eq (cl_eq hfi e7) (eq_ifF (nI_ne1 hoi e8) (bnN_eq (cl_eq hoi e8) (eq_ifT c1 (rfl)))), ⟨hX.1, Or.inr ⟨fi, hfi, rfl, by show ¬ upd (D 11) oi (-1) fi < 0; rw [pk_un (fun z => hne z.symm)]; exact hfj⟩, Or.inl h14, Or.inr ⟨fi, hfi, e7, by show ¬ upd (D 11) oi (-1) fi < 0; rw [pk_un (fun z => hne z.symm)]; exact hfj⟩, hX.2.2.2.2⟩, rfl⟩)
    · have hS9 : NS Z n nd nn gg C me f q u b uv h0 h D K A Y := ⟨hF, hN, hf, hn, hs, hp0, hu0⟩
      have hI9 : NI Z nn D := hI
      exact ar_ret d_112_11 rfl (⟨rfl, _, _, _, _, hS9, hI9, bnN_eq (cl_eq hfi e7) (eq_ifF (nI_ne1 hoi e8) (bnN_eq (cl_eq hoi e8) (eq_ifF c1 (rfl)))), hX, rfl⟩)
def F_113 (nn gg : Nat) (C me : Int32) (f u b : Nat → Int32) (D : Nat → Nat → Int32) (K A : Int64) (Y : List Mg)  : St :=
  bnN ((D 18 7).toNatClampNeg) (fun fi =>
    bnN ((D 18 8).toNatClampNeg) (fun oi =>
      if ¬ (nI oi) = (nI fi) then
        (va_up (va_up (va_up D 13 (upd (upd (D 13) fi (D 19 4)) oi (D 19 3))) 14 (va_cpy (D 20) (va_cpy (D 20) (D 14) 50 (fi * 50) 50) 0 (oi * 50) 50)) 18 (upd (upd (D 18) 13 (nI fi)) 14 (nI oi)), K, A, Y)
      else
        (D, K, A, Y)))
set_option maxRecDepth 100000 in
theorem s_113 {L : Nat} {xs : Nat → Int32} {fr lo : Nat} {Z : ZT} {n nd nn gg : Nat} {C me : Int32} {f : Nat → Int32} {q : Nat} {u b : Nat → Int32} {uv : Int32} {h0 h : ax_H} {D : Nat → Nat → Int32} {K A : Int64} {Y : List Mg}  (hfr : 3 ≤ fr) (hlo : 80 ≤ lo) (hC : CS n nd nn gg f) (hS : NS Z n nd nn gg C me f q u b uv h0 h D K A Y) (hI : NI Z nn D) (h3 : ¬ D 18 3 = 2) (hX : SI D) (hFI : FI D) (h8 : ∃ f : Nat, f < 48 ∧ D 18 8 = nI f ∧ ¬ D 11 f < 0) : ax_M L xs 113 fr lo [.ref (nd + 18)] h (fun r h' => r = none ∧ PS Z n nd nn gg C me f q u b uv h0 h' (fun D' K' A' Y' => (D', K', A', Y') = F_113 nn gg C me f u b D K A Y ∧ SI D' ∧ D' 18 3 = D 18 3)) := by
  have hC0 := hC
  show ax_A (ax_step L xs) ((113, 0, fr, lo), [(0, .ref (nd + 18))], [], h) _
  obtain ⟨hnd, hn0, hnn3, hnn, hgg1, hgg, hRg⟩ := hC
  obtain ⟨hF, hN, hf, hn, hs, hp0, hu0⟩ := hS
  replace hF : ax_hs h [cNd n nd me D, cDk nd D, cAr nd 2 35840 D, cAr nd 3 4096 D, cAr nd 4 32 D, cAr nd 5 280 D, cAr nd 6 280 D, cLd n nd me D A, cAr nd 8 16 D, cAr nd 9 280 D, cTb nd gg D K, cAr nd 11 48 D, cAr nd 12 48 D, cAr nd 13 48 D, cAr nd 14 2400 D, cAr nd 15 512 D, cAr nd 16 961 D, cAr nd 17 961 D, cWk nd D, cWa nd D, cAr nd 20 612 D, cAr nd 21 1152 D, cRk n nn gg C, cOr n nn gg f] := hF
  obtain ⟨fi, hfi, e7, hfj⟩ := hFI
  obtain ⟨l1, hl1, el1⟩ := hI.2.2.1.1.2.2.2.2.1
  obtain ⟨l0, hl0, el0⟩ := hI.2.2.1.1.2.2.2.1
  obtain ⟨oi, hoi, e8, hoj⟩ := h8
  refine ar_aload_n 1 d_113_0 rfl rfl ?_
  refine ar_getf 4 d_113_1 rfl (ci := 10) (k := 8) rfl (hF.at 18 rfl) rfl ?_
  refine ar_top (x' := nI oi) (e8) ?_
  refine ar_aload_n 5 d_113_4 rfl rfl ?_
  refine ar_getf 8 d_113_5 rfl (ci := 10) (k := 7) rfl (hF.at 18 rfl) rfl ?_
  refine ar_top (x' := nI fi) (e7) ?_
  refine ar_icmp_ne 12 11 d_113_8 (by decide) rfl (fun c1 => ?_) (fun c1 => ?_)
  · refine ar_aload_n 13 d_113_12 rfl rfl ?_
    refine ar_getf 16 d_113_13 rfl (ci := 10) (k := 0) rfl (hF.at 18 rfl) rfl ?_
    refine ar_aload_n 17 d_113_16 rfl rfl ?_
    refine ar_getf 20 d_113_17 rfl (ci := 10) (k := 7) rfl (hF.at 18 rfl) rfl ?_
    refine ar_top (x' := nI fi) (e7) ?_
    refine ar_aload_n 21 d_113_20 rfl rfl ?_
    refine ar_getf 24 d_113_21 rfl (ci := 10) (k := 1) rfl (hF.at 18 rfl) rfl ?_
    refine ar_getf 27 d_113_24 rfl (ci := 5) (k := 7) rfl (hF.at 19 rfl) rfl ?_
    refine ar_bipush 29 (v := 50) d_113_27 rfl (by decide) ?_
    refine ar_aload_n 30 d_113_29 rfl rfl ?_
    refine ar_getf 33 d_113_30 rfl (ci := 10) (k := 1) rfl (hF.at 18 rfl) rfl ?_
    refine ar_getf 36 d_113_33 rfl (ci := 5) (k := 4) rfl (hF.at 19 rfl) rfl ?_
    refine ar_call (r := []) (na := 0) (kd := 0) (cm := 86) (fr2 := fr - 1) (lo2 := lo - 24) 39 d_113_36 (ar_hoV (as := [.int (nI fi), .ref (nd + 20), .int 50, .int (D 19 4)]) rfl rfl rfl (hF.at 10 rfl)) rfl (by omega) (show lo - 24 + (19 + 5) = lo by omega) (Nat.le_of_ble_eq_true rfl) (Nat.le_of_ble_eq_true rfl) (c_86 (by omega) (by omega) hfi (by decide) (by omega) (hF.sub (F' := [cTb nd gg D K, cAr nd 13 48 D, cAr nd 14 2400 D, cAr nd 20 612 D]) [10, 13, 14, 20] rfl rfl) rfl rfl (by omega) (p := 50)) ?_
    intro v hp_1 hq
    obtain ⟨rfl, qF, qn, qs, qf⟩ := hq
    have qF : ax_hs hp_1 [cTb nd gg D K, (nd + 13, .inl (0, 48, .inl (upd (D 13) fi (D 19 4)))), (nd + 14, .inl (0, 2400, .inl (va_cpy (D 20) (D 14) 50 (fi * 50) 50))), cAr nd 20 612 D] := qF
    replace hF : ax_hs hp_1 [cNd n nd me D, cDk nd D, cAr nd 2 35840 D, cAr nd 3 4096 D, cAr nd 4 32 D, cAr nd 5 280 D, cAr nd 6 280 D, cLd n nd me D A, cAr nd 8 16 D, cAr nd 9 280 D, cAr nd 11 48 D, cAr nd 12 48 D, cAr nd 15 512 D, cAr nd 16 961 D, cAr nd 17 961 D, cWk nd D, cWa nd D, cAr nd 21 1152 D, cRk n nn gg C, cOr n nn gg f, cTb nd gg D K, (nd + 13, .inl (0, 48, .inl (upd (D 13) fi (D 19 4)))), (nd + 14, .inl (0, 2400, .inl (va_cpy (D 20) (D 14) 50 (fi * 50) 50))), cAr nd 20 612 D] := ax_hs.call (rest := [cNd n nd me D, cDk nd D, cAr nd 2 35840 D, cAr nd 3 4096 D, cAr nd 4 32 D, cAr nd 5 280 D, cAr nd 6 280 D, cLd n nd me D A, cAr nd 8 16 D, cAr nd 9 280 D, cAr nd 11 48 D, cAr nd 12 48 D, cAr nd 15 512 D, cAr nd 16 961 D, cAr nd 17 961 D, cWk nd D, cWa nd D, cAr nd 21 1152 D, cRk n nn gg C, cOr n nn gg f]) [10, 13, 14, 20] [0, 1, 2, 3, 4, 5, 6, 7, 8, 9, 11, 12, 15, 16, 17, 18, 19, 21, 22, 23] hF qf qF rfl rfl rfl [13, 14] rfl rfl [10, 13, 14, 20] (news := []) rfl rfl (fun _ z => absurd z List.not_mem_nil) rfl
    replace hF := hF.sub (F' := [cNd n nd me D, cDk nd D, cAr nd 2 35840 D, cAr nd 3 4096 D, cAr nd 4 32 D, cAr nd 5 280 D, cAr nd 6 280 D, cLd n nd me D A, cAr nd 8 16 D, cAr nd 9 280 D, cTb nd gg D K, cAr nd 11 48 D, cAr nd 12 48 D, (nd + 13, .inl (0, 48, .inl (upd (D 13) fi (D 19 4)))), (nd + 14, .inl (0, 2400, .inl (va_cpy (D 20) (D 14) 50 (fi * 50) 50))), cAr nd 15 512 D, cAr nd 16 961 D, cAr nd 17 961 D, cWk nd D, cWa nd D, cAr nd 20 612 D, cAr nd 21 1152 D, cRk n nn gg C, cOr n nn gg f]) [0, 1, 2, 3, 4, 5, 6, 7, 8, 9, 20, 10, 11, 21, 22, 12, 13, 14, 15, 16, 23, 17, 18, 19] rfl rfl
    replace hN := hN.fr qf (fun x hx z => by simp only [List.mem_cons, List.not_mem_nil, or_false] at z; unfold NTA at hx; omega)
    replace hf := hf.trC qf (fun x _ z => Or.inr (by simp only [List.mem_cons, List.not_mem_nil, or_false] at z; omega))
    replace hn : hp_1.1 = h0.1 := by omega
    replace hs : hp_1.2.1 = h0.2.1 := by omega
    clear qF qn qs qf
    refine ar_aload_n 40 d_113_39 rfl rfl ?_
    refine ar_getf 43 d_113_40 rfl (ci := 10) (k := 0) rfl (hF.at 18 rfl) rfl ?_
    refine ar_aload_n 44 d_113_43 rfl rfl ?_
    refine ar_getf 47 d_113_44 rfl (ci := 10) (k := 8) rfl (hF.at 18 rfl) rfl ?_
    refine ar_top (x' := nI oi) (e8) ?_
    refine ar_aload_n 48 d_113_47 rfl rfl ?_
    refine ar_getf 51 d_113_48 rfl (ci := 10) (k := 1) rfl (hF.at 18 rfl) rfl ?_
    refine ar_getf 54 d_113_51 rfl (ci := 5) (k := 7) rfl (hF.at 19 rfl) rfl ?_
    refine ar_iconst 55 (v := 0) d_113_54 rfl (by decide) ?_
    refine ar_aload_n 56 d_113_55 rfl rfl ?_
    refine ar_getf 59 d_113_56 rfl (ci := 10) (k := 1) rfl (hF.at 18 rfl) rfl ?_
    refine ar_getf 62 d_113_59 rfl (ci := 5) (k := 3) rfl (hF.at 19 rfl) rfl ?_
    refine ar_call (r := []) (na := 0) (kd := 0) (cm := 86) (fr2 := fr - 1) (lo2 := lo - 24) 65 d_113_62 (ar_hoV (as := [.int (nI oi), .ref (nd + 20), .int 0, .int (D 19 3)]) rfl rfl rfl (hF.at 10 rfl)) rfl (by omega) (show lo - 24 + (19 + 5) = lo by omega) (Nat.le_of_ble_eq_true rfl) (Nat.le_of_ble_eq_true rfl) (c_86 (by omega) (by omega) hoi (by decide) (by omega) (hF.sub (F' := [cTb nd gg D K, (nd + 13, .inl (0, 48, .inl (upd (D 13) fi (D 19 4)))), (nd + 14, .inl (0, 2400, .inl (va_cpy (D 20) (D 14) 50 (fi * 50) 50))), cAr nd 20 612 D]) [10, 13, 14, 20] rfl rfl) rfl rfl (by omega) (p := 0)) ?_
    intro v hp_2 hq
    obtain ⟨rfl, qF, qn, qs, qf⟩ := hq
    have qF : ax_hs hp_2 [cTb nd gg D K, (nd + 13, .inl (0, 48, .inl (upd (upd (D 13) fi (D 19 4)) oi (D 19 3)))), (nd + 14, .inl (0, 2400, .inl (va_cpy (D 20) (va_cpy (D 20) (D 14) 50 (fi * 50) 50) 0 (oi * 50) 50))), cAr nd 20 612 D] := qF
    replace hF : ax_hs hp_2 [cNd n nd me D, cDk nd D, cAr nd 2 35840 D, cAr nd 3 4096 D, cAr nd 4 32 D, cAr nd 5 280 D, cAr nd 6 280 D, cLd n nd me D A, cAr nd 8 16 D, cAr nd 9 280 D, cAr nd 11 48 D, cAr nd 12 48 D, cAr nd 15 512 D, cAr nd 16 961 D, cAr nd 17 961 D, cWk nd D, cWa nd D, cAr nd 21 1152 D, cRk n nn gg C, cOr n nn gg f, cTb nd gg D K, (nd + 13, .inl (0, 48, .inl (upd (upd (D 13) fi (D 19 4)) oi (D 19 3)))), (nd + 14, .inl (0, 2400, .inl (va_cpy (D 20) (va_cpy (D 20) (D 14) 50 (fi * 50) 50) 0 (oi * 50) 50))), cAr nd 20 612 D] := ax_hs.call (rest := [cNd n nd me D, cDk nd D, cAr nd 2 35840 D, cAr nd 3 4096 D, cAr nd 4 32 D, cAr nd 5 280 D, cAr nd 6 280 D, cLd n nd me D A, cAr nd 8 16 D, cAr nd 9 280 D, cAr nd 11 48 D, cAr nd 12 48 D, cAr nd 15 512 D, cAr nd 16 961 D, cAr nd 17 961 D, cWk nd D, cWa nd D, cAr nd 21 1152 D, cRk n nn gg C, cOr n nn gg f]) [10, 13, 14, 20] [0, 1, 2, 3, 4, 5, 6, 7, 8, 9, 11, 12, 15, 16, 17, 18, 19, 21, 22, 23] hF qf qF rfl rfl rfl [13, 14] rfl rfl [10, 13, 14, 20] (news := []) rfl rfl (fun _ z => absurd z List.not_mem_nil) rfl
    replace hF := hF.sub (F' := [cNd n nd me D, cDk nd D, cAr nd 2 35840 D, cAr nd 3 4096 D, cAr nd 4 32 D, cAr nd 5 280 D, cAr nd 6 280 D, cLd n nd me D A, cAr nd 8 16 D, cAr nd 9 280 D, cTb nd gg D K, cAr nd 11 48 D, cAr nd 12 48 D, (nd + 13, .inl (0, 48, .inl (upd (upd (D 13) fi (D 19 4)) oi (D 19 3)))), (nd + 14, .inl (0, 2400, .inl (va_cpy (D 20) (va_cpy (D 20) (D 14) 50 (fi * 50) 50) 0 (oi * 50) 50))), cAr nd 15 512 D, cAr nd 16 961 D, cAr nd 17 961 D, cWk nd D, cWa nd D, cAr nd 20 612 D, cAr nd 21 1152 D, cRk n nn gg C, cOr n nn gg f]) [0, 1, 2, 3, 4, 5, 6, 7, 8, 9, 20, 10, 11, 21, 22, 12, 13, 14, 15, 16, 23, 17, 18, 19] rfl rfl
    replace hN := hN.fr qf (fun x hx z => by simp only [List.mem_cons, List.not_mem_nil, or_false] at z; unfold NTA at hx; omega)
    replace hf := hf.trC qf (fun x _ z => Or.inr (by simp only [List.mem_cons, List.not_mem_nil, or_false] at z; omega))
    replace hn : hp_2.1 = h0.1 := by omega
    replace hs : hp_2.2.1 = h0.2.1 := by omega
    clear qF qn qs qf
    refine ar_aload_n 66 d_113_65 rfl rfl ?_
    refine ar_aload_n 67 d_113_66 rfl rfl ?_
    refine ar_getf 70 d_113_67 rfl (ci := 10) (k := 7) rfl (hF.at 18 rfl) rfl ?_
    refine ar_top (x' := nI fi) (e7) ?_
    refine ar_putf 73 [.ref (nd + 10), .ref (nd + 19), .ref (nd + 21), .int (D 18 3), .int (D 18 4), .int (D 18 5), .int (D 18 6), .int (D 18 7), .int (D 18 8), .int (D 18 9), .int (D 18 10), .int (D 18 11), .int (D 18 12), .int (nI fi), .int (D 18 14)] d_113_70 rfl (ci := 10) (k := 13) rfl rfl (hF.at 18 rfl) (Nat.le_of_ble_eq_true rfl) rfl rfl rfl ?_
    replace hF : ax_hs (ax_put hp_2 (nd + 18) (.inr (10, [.ref (nd + 10), .ref (nd + 19), .ref (nd + 21), .int (D 18 3), .int (D 18 4), .int (D 18 5), .int (D 18 6), .int (D 18 7), .int (D 18 8), .int (D 18 9), .int (D 18 10), .int (D 18 11), .int (D 18 12), .int (nI fi), .int (D 18 14)]))) [cNd n nd me D, cDk nd D, cAr nd 2 35840 D, cAr nd 3 4096 D, cAr nd 4 32 D, cAr nd 5 280 D, cAr nd 6 280 D, cLd n nd me D A, cAr nd 8 16 D, cAr nd 9 280 D, cTb nd gg D K, cAr nd 11 48 D, cAr nd 12 48 D, (nd + 13, .inl (0, 48, .inl (upd (upd (D 13) fi (D 19 4)) oi (D 19 3)))), (nd + 14, .inl (0, 2400, .inl (va_cpy (D 20) (va_cpy (D 20) (D 14) 50 (fi * 50) 50) 0 (oi * 50) 50))), cAr nd 15 512 D, cAr nd 16 961 D, cAr nd 17 961 D, (nd + 18, .inr (10, [.ref (nd + 10), .ref (nd + 19), .ref (nd + 21), .int (D 18 3), .int (D 18 4), .int (D 18 5), .int (D 18 6), .int (D 18 7), .int (D 18 8), .int (D 18 9), .int (D 18 10), .int (D 18 11), .int (D 18 12), .int (nI fi), .int (D 18 14)])), cWa nd D, cAr nd 20 612 D, cAr nd 21 1152 D, cRk n nn gg C, cOr n nn gg f] := hF.put 18 _ rfl rfl
    replace hf := hf.put (a := nd + 18) (c := .inr (10, [.ref (nd + 10), .ref (nd + 19), .ref (nd + 21), .int (D 18 3), .int (D 18 4), .int (D 18 5), .int (D 18 6), .int (D 18 7), .int (D 18 8), .int (D 18 9), .int (D 18 10), .int (D 18 11), .int (D 18 12), .int (nI fi), .int (D 18 14)])) (Or.inr (by omega))
    replace hN := hN.put (a := nd + 18) (c := .inr (10, [.ref (nd + 10), .ref (nd + 19), .ref (nd + 21), .int (D 18 3), .int (D 18 4), .int (D 18 5), .int (D 18 6), .int (D 18 7), .int (D 18 8), .int (D 18 9), .int (D 18 10), .int (D 18 11), .int (D 18 12), .int (nI fi), .int (D 18 14)])) (by omega)
    replace hn : (ax_put hp_2 (nd + 18) (.inr (10, [.ref (nd + 10), .ref (nd + 19), .ref (nd + 21), .int (D 18 3), .int (D 18 4), .int (D 18 5), .int (D 18 6), .int (D 18 7), .int (D 18 8), .int (D 18 9), .int (D 18 10), .int (D 18 11), .int (D 18 12), .int (nI fi), .int (D 18 14)]))).1 = h0.1 := hn
    replace hs : (ax_put hp_2 (nd + 18) (.inr (10, [.ref (nd + 10), .ref (nd + 19), .ref (nd + 21), .int (D 18 3), .int (D 18 4), .int (D 18 5), .int (D 18 6), .int (D 18 7), .int (D 18 8), .int (D 18 9), .int (D 18 10), .int (D 18 11), .int (D 18 12), .int (nI fi), .int (D 18 14)]))).2.1 = h0.2.1 := hs
    generalize ax_put hp_2 (nd + 18) (.inr (10, [.ref (nd + 10), .ref (nd + 19), .ref (nd + 21), .int (D 18 3), .int (D 18 4), .int (D 18 5), .int (D 18 6), .int (D 18 7), .int (D 18 8), .int (D 18 9), .int (D 18 10), .int (D 18 11), .int (D 18 12), .int (nI fi), .int (D 18 14)])) = hp_3 at hF hf hN hn hs ⊢
    refine ar_aload_n 74 d_113_73 rfl rfl ?_
    refine ar_aload_n 75 d_113_74 rfl rfl ?_
    refine ar_getf 78 d_113_75 rfl (ci := 10) (k := 8) rfl (hF.at 18 rfl) rfl ?_
    refine ar_top (x' := nI oi) (e8) ?_
    refine ar_putf 81 [.ref (nd + 10), .ref (nd + 19), .ref (nd + 21), .int (D 18 3), .int (D 18 4), .int (D 18 5), .int (D 18 6), .int (D 18 7), .int (D 18 8), .int (D 18 9), .int (D 18 10), .int (D 18 11), .int (D 18 12), .int (nI fi), .int (nI oi)] d_113_78 rfl (ci := 10) (k := 14) rfl rfl (hF.at 18 rfl) (Nat.le_of_ble_eq_true rfl) rfl rfl rfl ?_
    replace hF : ax_hs (ax_put hp_3 (nd + 18) (.inr (10, [.ref (nd + 10), .ref (nd + 19), .ref (nd + 21), .int (D 18 3), .int (D 18 4), .int (D 18 5), .int (D 18 6), .int (D 18 7), .int (D 18 8), .int (D 18 9), .int (D 18 10), .int (D 18 11), .int (D 18 12), .int (nI fi), .int (nI oi)]))) [cNd n nd me D, cDk nd D, cAr nd 2 35840 D, cAr nd 3 4096 D, cAr nd 4 32 D, cAr nd 5 280 D, cAr nd 6 280 D, cLd n nd me D A, cAr nd 8 16 D, cAr nd 9 280 D, cTb nd gg D K, cAr nd 11 48 D, cAr nd 12 48 D, (nd + 13, .inl (0, 48, .inl (upd (upd (D 13) fi (D 19 4)) oi (D 19 3)))), (nd + 14, .inl (0, 2400, .inl (va_cpy (D 20) (va_cpy (D 20) (D 14) 50 (fi * 50) 50) 0 (oi * 50) 50))), cAr nd 15 512 D, cAr nd 16 961 D, cAr nd 17 961 D, (nd + 18, .inr (10, [.ref (nd + 10), .ref (nd + 19), .ref (nd + 21), .int (D 18 3), .int (D 18 4), .int (D 18 5), .int (D 18 6), .int (D 18 7), .int (D 18 8), .int (D 18 9), .int (D 18 10), .int (D 18 11), .int (D 18 12), .int (nI fi), .int (nI oi)])), cWa nd D, cAr nd 20 612 D, cAr nd 21 1152 D, cRk n nn gg C, cOr n nn gg f] := hF.put 18 _ rfl rfl
    replace hf := hf.put (a := nd + 18) (c := .inr (10, [.ref (nd + 10), .ref (nd + 19), .ref (nd + 21), .int (D 18 3), .int (D 18 4), .int (D 18 5), .int (D 18 6), .int (D 18 7), .int (D 18 8), .int (D 18 9), .int (D 18 10), .int (D 18 11), .int (D 18 12), .int (nI fi), .int (nI oi)])) (Or.inr (by omega))
    replace hN := hN.put (a := nd + 18) (c := .inr (10, [.ref (nd + 10), .ref (nd + 19), .ref (nd + 21), .int (D 18 3), .int (D 18 4), .int (D 18 5), .int (D 18 6), .int (D 18 7), .int (D 18 8), .int (D 18 9), .int (D 18 10), .int (D 18 11), .int (D 18 12), .int (nI fi), .int (nI oi)])) (by omega)
    replace hn : (ax_put hp_3 (nd + 18) (.inr (10, [.ref (nd + 10), .ref (nd + 19), .ref (nd + 21), .int (D 18 3), .int (D 18 4), .int (D 18 5), .int (D 18 6), .int (D 18 7), .int (D 18 8), .int (D 18 9), .int (D 18 10), .int (D 18 11), .int (D 18 12), .int (nI fi), .int (nI oi)]))).1 = h0.1 := hn
    replace hs : (ax_put hp_3 (nd + 18) (.inr (10, [.ref (nd + 10), .ref (nd + 19), .ref (nd + 21), .int (D 18 3), .int (D 18 4), .int (D 18 5), .int (D 18 6), .int (D 18 7), .int (D 18 8), .int (D 18 9), .int (D 18 10), .int (D 18 11), .int (D 18 12), .int (nI fi), .int (nI oi)]))).2.1 = h0.2.1 := hs
    generalize ax_put hp_3 (nd + 18) (.inr (10, [.ref (nd + 10), .ref (nd + 19), .ref (nd + 21), .int (D 18 3), .int (D 18 4), .int (D 18 5), .int (D 18 6), .int (D 18 7), .int (D 18 8), .int (D 18 9), .int (D 18 10), .int (D 18 11), .int (D 18 12), .int (nI fi), .int (nI oi)])) = hp_4 at hF hf hN hn hs ⊢
    have hS9 : NS Z n nd nn gg C me f q u b uv h0 hp_4 (va_up (va_up (va_up D 13 (upd (upd (D 13) fi (D 19 4)) oi (D 19 3))) 14 (va_cpy (D 20) (va_cpy (D 20) (D 14) 50 (fi * 50) 50) 0 (oi * 50) 50)) 18 (upd (upd (D 18) 13 (nI fi)) 14 (nI oi))) K A Y := ⟨hF, hN, hf, hn, hs, hp0, hu0⟩
    have hI9 : NI Z nn (va_up (va_up (va_up D 13 (upd (upd (D 13) fi (D 19 4)) oi (D 19 3))) 14 (va_cpy (D 20) (va_cpy (D 20) (D 14) 50 (fi * 50) 50) 0 (oi * 50) 50)) 18 (upd (upd (D 18) 13 (nI fi)) 14 (nI oi))) := ⟨hI.1, (hI.2.1.name ⟨l1, by omega, el1⟩).name ⟨l0, by omega, el0⟩, hI.2.2.1.ch h3 rfl rfl rfl rfl hX.2.2.2.2, hI.2.2.2⟩
    exact ar_ret d_113_81 rfl (⟨rfl, _, _, _, _, hS9, hI9, bnN_eq (cl_eq hfi e7) (bnN_eq (cl_eq hoi e8) (eq_ifT c1 (rfl))), ⟨hX.1, Or.inr ⟨fi, hfi, rfl, hfj⟩, Or.inr ⟨oi, hoi, rfl, hoj⟩, Or.inr ⟨fi, hfi, e7, hfj⟩, hX.2.2.2.2⟩, rfl⟩)
  · have hS9 : NS Z n nd nn gg C me f q u b uv h0 h D K A Y := ⟨hF, hN, hf, hn, hs, hp0, hu0⟩
    have hI9 : NI Z nn D := hI
    exact ar_ret d_113_11 rfl (⟨rfl, _, _, _, _, hS9, hI9, bnN_eq (cl_eq hfi e7) (bnN_eq (cl_eq hoi e8) (eq_ifF c1 (rfl))), hX, rfl⟩)
theorem in8 {x : Int32} (h : inR 8 x) : x = 0 ∨ x = 1 ∨ x = 2 ∨ x = 3 ∨ x = 4 ∨ x = 5 ∨ x = 6 ∨ x = 7 := by
  obtain ⟨k, hk, rfl⟩ := h
  rcases k with _ | _ | _ | _ | _ | _ | _ | _ | k
  · exact Or.inl rfl
  · exact Or.inr (Or.inl rfl)
  · exact Or.inr (Or.inr (Or.inl rfl))
  · exact Or.inr (Or.inr (Or.inr (Or.inl rfl)))
  · exact Or.inr (Or.inr (Or.inr (Or.inr (Or.inl rfl))))
  · exact Or.inr (Or.inr (Or.inr (Or.inr (Or.inr (Or.inl rfl)))))
  · exact Or.inr (Or.inr (Or.inr (Or.inr (Or.inr (Or.inr (Or.inl rfl))))))
  · exact Or.inr (Or.inr (Or.inr (Or.inr (Or.inr (Or.inr (Or.inr rfl))))))
  · omega
def F_104 (nn gg : Nat) (C me : Int32) (f u b : Nat → Int32) (D : Nat → Nat → Int32) (K A : Int64) (Y : List Mg)  : St :=
  if D 19 0 = 0 then
    if D 18 7 = -1 then
      bnS (F_105 nn gg C me f u b (va_up D 18 (upd (D 18) 3 3)) K A Y) (fun D2 K2 A2 Y2 =>
        (D2, K2, A2, Y2))
    else
      bnN ((D 18 7).toNatClampNeg) (fun fi =>
        (va_up D 18 (upd (D 18) 3 3), K, A, Y))
  else
    if D 19 0 = 1 then
      if D 18 7 = -1 then
        bnS (F_105 nn gg C me f u b (va_up D 18 (upd (D 18) 3 3)) K A Y) (fun D4 K4 A4 Y4 =>
          bnS (F_107 nn gg C me f u b D4 K4 A4 Y4 1) (fun D5 K5 A5 Y5 =>
            bnS (F_108 nn gg C me f u b D5 K5 A5 Y5) (fun D6 K6 A6 Y6 =>
              (D6, K6, A6, Y6))))
      else
        bnN ((D 18 7).toNatClampNeg) (fun fi =>
          bnS (F_107 nn gg C me f u b (va_up D 18 (upd (D 18) 3 3)) K A Y 1) (fun D7 K7 A7 Y7 =>
            bnS (F_108 nn gg C me f u b D7 K7 A7 Y7) (fun D8 K8 A8 Y8 =>
              (D8, K8, A8, Y8))))
    else
      if D 19 0 = 2 then
        if D 18 7 = -1 then
          bnS (F_105 nn gg C me f u b (va_up D 18 (upd (D 18) 3 3)) K A Y) (fun D10 K10 A10 Y10 =>
            bnS (F_107 nn gg C me f u b D10 K10 A10 Y10 1) (fun D11 K11 A11 Y11 =>
              bnS (F_108 nn gg C me f u b D11 K11 A11 Y11) (fun D12 K12 A12 Y12 =>
                (D12, K12, A12, Y12))))
        else
          bnN ((D 18 7).toNatClampNeg) (fun fi =>
            bnS (F_107 nn gg C me f u b (va_up D 18 (upd (D 18) 3 3)) K A Y 1) (fun D13 K13 A13 Y13 =>
              bnS (F_108 nn gg C me f u b D13 K13 A13 Y13) (fun D14 K14 A14 Y14 =>
                (D14, K14, A14, Y14))))
      else
        if D 19 0 = 3 then
          bnN ((D 18 7).toNatClampNeg) (fun fi =>
            bnS (F_109 nn gg C me f u b (va_up D 18 (upd (D 18) 3 3)) K A Y) (fun D16 K16 A16 Y16 =>
              (D16, K16, A16, Y16)))
        else
          if D 19 0 = 4 then
            bnN ((D 18 7).toNatClampNeg) (fun fi =>
              bnS (F_107 nn gg C me f u b (va_up D 18 (upd (D 18) 3 5)) K A Y 0) (fun D18 K18 A18 Y18 =>
                (D18, K18, A18, Y18)))
          else
            if D 19 0 = 5 then
              bnN ((D 18 7).toNatClampNeg) (fun fi =>
                (va_up (va_up (va_up (va_up (va_up (va_up D 10 (upd (D 10) 9 (D 10 9 - 1))) 11 (upd (D 11) fi (-1))) 12 (upd (D 12) fi 0)) 15 (upd (D 15) (D 11 fi).toNatClampNeg (-1))) 16 (ax_fill (D 16) (fi * 20) ((fi + 1) * 20) (-1))) 18 (upd (D 18) 3 3), K &&& ((1 <<< ((nI fi).toInt64 &&& 63)) ^^^ (-1)), A, Y))
            else
              if D 19 0 = 6 then
                bnN ((D 18 7).toNatClampNeg) (fun fi =>
                  bnS (F_112 nn gg C me f u b (va_up D 18 (upd (D 18) 3 3)) K A Y) (fun D22 K22 A22 Y22 =>
                    (D22, K22, A22, Y22)))
              else
                bnN ((D 18 7).toNatClampNeg) (fun fi =>
                  bnS (F_113 nn gg C me f u b (va_up D 18 (upd (D 18) 3 3)) K A Y) (fun D24 K24 A24 Y24 =>
                    (D24, K24, A24, Y24)))
set_option maxRecDepth 100000 in
theorem s_104 {L : Nat} {xs : Nat → Int32} {fr lo : Nat} {Z : ZT} {n nd nn gg : Nat} {C me : Int32} {f : Nat → Int32} {q : Nat} {u b : Nat → Int32} {uv : Int32} {h0 h : ax_H} {D : Nat → Nat → Int32} {K A : Int64} {Y : List Mg}  (hfr : 6 ≤ fr) (hlo : 160 ≤ lo) (hC : CS n nd nn gg f) (hS : NS Z n nd nn gg C me f q u b uv h0 h D K A Y) (hI : NI Z nn D) (h2 : D 18 3 = 2) : ax_M L xs 104 fr lo [.ref (nd + 18)] h (fun r h' => r = none ∧ PS Z n nd nn gg C me f q u b uv h0 h' (fun D' K' A' Y' => (D', K', A', Y') = F_104 nn gg C me f u b D K A Y ∧ SI D' ∧ (D' 18 3 = 3 ∨ D' 18 3 = 5))) := by
  have hC0 := hC
  show ax_A (ax_step L xs) ((104, 0, fr, lo), [(0, .ref (nd + 18))], [], h) _
  obtain ⟨hnd, hn0, hnn3, hnn, hgg1, hgg, hRg⟩ := hC
  obtain ⟨hF, hN, hf, hn, hs, hp0, hu0⟩ := hS
  replace hF : ax_hs h [cNd n nd me D, cDk nd D, cAr nd 2 35840 D, cAr nd 3 4096 D, cAr nd 4 32 D, cAr nd 5 280 D, cAr nd 6 280 D, cLd n nd me D A, cAr nd 8 16 D, cAr nd 9 280 D, cTb nd gg D K, cAr nd 11 48 D, cAr nd 12 48 D, cAr nd 13 48 D, cAr nd 14 2400 D, cAr nd 15 512 D, cAr nd 16 961 D, cAr nd 17 961 D, cWk nd D, cWa nd D, cAr nd 20 612 D, cAr nd 21 1152 D, cRk n nn gg C, cOr n nn gg f] := hF
  obtain ⟨hA, w3, w11, wop, wF, w6, w7, wB⟩ := hI.2.2.1
  obtain ⟨o, ho, eo, hoz, hoz2⟩ := wop (neq h2 (by decide))
  obtain ⟨⟨f1, f2, f3, f4, f5, f6, f7, f8, f9, f10⟩, hPB⟩ := wF h2
  have hPB1 : PB (D 21) := hPB
  have hk8 : D 19 0 = 0 ∨ D 19 0 = 1 ∨ D 19 0 = 2 ∨ D 19 0 = 3 ∨ D 19 0 = 4 ∨ D 19 0 = 5 ∨ D 19 0 = 6 ∨ D 19 0 = 7 := in8 f4
  rcases hk8 with hk | hk | hk | hk | hk | hk | hk | hk
  · refine ar_aload_n 1 d_104_0 rfl rfl ?_
    refine ar_aload_n 2 d_104_1 rfl rfl ?_
    refine ar_getf 5 d_104_2 rfl (ci := 10) (k := 1) rfl (hF.at 18 rfl) rfl ?_
    refine ar_getf 8 d_104_5 rfl (ci := 5) (k := 0) rfl (hF.at 19 rfl) rfl ?_
    refine ar_top (x' := 0) (hk) ?_
    refine ar_iconst 9 (v := 4) d_104_8 rfl (by decide) ?_
    refine ar_icmp_ne 16 12 d_104_9 (by decide) rfl (fun _ => ?_) (fun c => absurd (by decide) c)
    refine ar_iconst 17 (v := 3) d_104_16 rfl (by decide) ?_
    refine ar_putf 20 [.ref (nd + 10), .ref (nd + 19), .ref (nd + 21), .int 3, .int (D 18 4), .int (D 18 5), .int (D 18 6), .int (D 18 7), .int (D 18 8), .int (D 18 9), .int (D 18 10), .int (D 18 11), .int (D 18 12), .int (D 18 13), .int (D 18 14)] d_104_17 rfl (ci := 10) (k := 3) rfl rfl (hF.at 18 rfl) (Nat.le_of_ble_eq_true rfl) rfl rfl rfl ?_
    replace hF : ax_hs (ax_put h (nd + 18) (.inr (10, [.ref (nd + 10), .ref (nd + 19), .ref (nd + 21), .int 3, .int (D 18 4), .int (D 18 5), .int (D 18 6), .int (D 18 7), .int (D 18 8), .int (D 18 9), .int (D 18 10), .int (D 18 11), .int (D 18 12), .int (D 18 13), .int (D 18 14)]))) [cNd n nd me D, cDk nd D, cAr nd 2 35840 D, cAr nd 3 4096 D, cAr nd 4 32 D, cAr nd 5 280 D, cAr nd 6 280 D, cLd n nd me D A, cAr nd 8 16 D, cAr nd 9 280 D, cTb nd gg D K, cAr nd 11 48 D, cAr nd 12 48 D, cAr nd 13 48 D, cAr nd 14 2400 D, cAr nd 15 512 D, cAr nd 16 961 D, cAr nd 17 961 D, (nd + 18, .inr (10, [.ref (nd + 10), .ref (nd + 19), .ref (nd + 21), .int 3, .int (D 18 4), .int (D 18 5), .int (D 18 6), .int (D 18 7), .int (D 18 8), .int (D 18 9), .int (D 18 10), .int (D 18 11), .int (D 18 12), .int (D 18 13), .int (D 18 14)])), cWa nd D, cAr nd 20 612 D, cAr nd 21 1152 D, cRk n nn gg C, cOr n nn gg f] := hF.put 18 _ rfl rfl
    replace hf := hf.put (a := nd + 18) (c := .inr (10, [.ref (nd + 10), .ref (nd + 19), .ref (nd + 21), .int 3, .int (D 18 4), .int (D 18 5), .int (D 18 6), .int (D 18 7), .int (D 18 8), .int (D 18 9), .int (D 18 10), .int (D 18 11), .int (D 18 12), .int (D 18 13), .int (D 18 14)])) (Or.inr (by omega))
    replace hN := hN.put (a := nd + 18) (c := .inr (10, [.ref (nd + 10), .ref (nd + 19), .ref (nd + 21), .int 3, .int (D 18 4), .int (D 18 5), .int (D 18 6), .int (D 18 7), .int (D 18 8), .int (D 18 9), .int (D 18 10), .int (D 18 11), .int (D 18 12), .int (D 18 13), .int (D 18 14)])) (by omega)
    replace hn : (ax_put h (nd + 18) (.inr (10, [.ref (nd + 10), .ref (nd + 19), .ref (nd + 21), .int 3, .int (D 18 4), .int (D 18 5), .int (D 18 6), .int (D 18 7), .int (D 18 8), .int (D 18 9), .int (D 18 10), .int (D 18 11), .int (D 18 12), .int (D 18 13), .int (D 18 14)]))).1 = h0.1 := hn
    replace hs : (ax_put h (nd + 18) (.inr (10, [.ref (nd + 10), .ref (nd + 19), .ref (nd + 21), .int 3, .int (D 18 4), .int (D 18 5), .int (D 18 6), .int (D 18 7), .int (D 18 8), .int (D 18 9), .int (D 18 10), .int (D 18 11), .int (D 18 12), .int (D 18 13), .int (D 18 14)]))).2.1 = h0.2.1 := hs
    generalize ax_put h (nd + 18) (.inr (10, [.ref (nd + 10), .ref (nd + 19), .ref (nd + 21), .int 3, .int (D 18 4), .int (D 18 5), .int (D 18 6), .int (D 18 7), .int (D 18 8), .int (D 18 9), .int (D 18 10), .int (D 18 11), .int (D 18 12), .int (D 18 13), .int (D 18 14)])) = hp_1 at hF hf hN hn hs ⊢
    have hZo : Z.y o := ((hoz2.resolve_left (fun z => absurd (hk.symm.trans z) (by decide))).resolve_left (fun z => absurd (hk.symm.trans z) (by decide))).resolve_left (fun z => absurd (hk.symm.trans z) (by decide))
    rcases f1 with ⟨e7, hkk, h48⟩ | ⟨fi, hfi, e7, hfj⟩
    · refine ar_aload_n 21 d_104_20 rfl rfl ?_
      refine ar_getf 24 d_104_21 rfl (ci := 10) (k := 7) rfl (hF.at 18 rfl) rfl ?_
      refine ar_top (x' := -1) (e7) ?_
      refine ar_if_ge 31 27 d_104_24 (by decide) rfl (fun c => absurd c (by decide)) (fun _ => ?_)
      refine ar_aload_n 28 d_104_27 rfl rfl ?_
      have hS1 : NS Z n nd nn gg C me f q u b uv h0 hp_1 (va_up D 18 (upd (D 18) 3 3)) K A Y := ⟨hF, hN, hf, hn, hs, hp0, hu0⟩
      have hI1 : NI Z nn (va_up D 18 (upd (D 18) 3 3)) := ⟨hI.1, hI.2.1, WI.store (Or.inl rfl) hA w11 ⟨o, ho, eo, hoz, hoz2⟩ ⟨o, ho, eo, hZo⟩ wB, hI.2.2.2⟩
      refine ar_call (r := []) (na := 0) (kd := 0) (cm := 105) (fr2 := fr - 1) (lo2 := lo - 20) 31 d_104_28 (ar_hoV (as := []) rfl rfl rfl (hF.at 18 rfl)) rfl (by omega) (show lo - 20 + (19 + 1) = lo by omega) (Nat.le_of_ble_eq_true rfl) (Nat.le_of_ble_eq_true rfl) (s_105 (by omega) (by omega) hC0 hS1 hI1 (neq (a := 3) rfl (by decide)) (neq (a := 3) rfl (by decide)) ⟨f5, Or.inl f9, Or.inl f10, hPB1⟩ h48 f2) ?_
      intro v hp_2 hq
      obtain ⟨rfl, D2, K2, A2, Y2, hS2, hI2, hE2, aSI, aFI, a8, a3, aQ, -⟩ := hq
      clear hS1 hI1 hF hN hf hn hs hp0 hu0
      obtain ⟨hF, hN, hf, hn, hs, hp0, hu0⟩ := hS2
      replace hF : ax_hs hp_2 [cNd n nd me D2, cDk nd D2, cAr nd 2 35840 D2, cAr nd 3 4096 D2, cAr nd 4 32 D2, cAr nd 5 280 D2, cAr nd 6 280 D2, cLd n nd me D2 A2, cAr nd 8 16 D2, cAr nd 9 280 D2, cTb nd gg D2 K2, cAr nd 11 48 D2, cAr nd 12 48 D2, cAr nd 13 48 D2, cAr nd 14 2400 D2, cAr nd 15 512 D2, cAr nd 16 961 D2, cAr nd 17 961 D2, cWk nd D2, cWa nd D2, cAr nd 20 612 D2, cAr nd 21 1152 D2, cRk n nn gg C, cOr n nn gg f] := hF
      have hI2 := hI2
      clear hI2
      have hk2 : D2 19 0 = 0 := by rw [aQ]; exact hk
      refine ar_aload_n 32 d_104_31 rfl rfl ?_
      refine ar_getf 35 d_104_32 rfl (ci := 10) (k := 1) rfl (hF.at 18 rfl) rfl ?_
      refine ar_getf 38 d_104_35 rfl (ci := 5) (k := 0) rfl (hF.at 19 rfl) rfl ?_
      refine ar_tabIn 80 d_104_38 (by rw [hk2]; decide) (by rw [hk2]; rfl) (by decide) ?_
      refine ar_goto 135 d_104_80 (by decide) ?_
      have hS9 : NS Z n nd nn gg C me f q u b uv h0 hp_2 D2 K2 A2 Y2 := ⟨hF, hN, hf, hn, hs, hp0, hu0⟩
      have hI9 : NI Z nn D2 := hI2
      exact ar_ret d_104_135 rfl (⟨rfl, _, _, _, _, hS9, hI9, eq_ifT hk (eq_ifT e7 (bnS_eq hE2 (rfl))), aSI, Or.inl a3⟩)
    · refine ar_aload_n 21 d_104_20 rfl rfl ?_
      refine ar_getf 24 d_104_21 rfl (ci := 10) (k := 7) rfl (hF.at 18 rfl) rfl ?_
      refine ar_top (x' := nI fi) (e7) ?_
      refine ar_if_ge 31 27 d_104_24 (by decide) rfl (fun _ => ?_) (fun c => absurd (nI_pos' (by omega)) c)
      refine ar_aload_n 32 d_104_31 rfl rfl ?_
      refine ar_getf 35 d_104_32 rfl (ci := 10) (k := 1) rfl (hF.at 18 rfl) rfl ?_
      refine ar_getf 38 d_104_35 rfl (ci := 5) (k := 0) rfl (hF.at 19 rfl) rfl ?_
      refine ar_tabIn 80 d_104_38 (by rw [hk]; decide) (by rw [hk]; rfl) (by decide) ?_
      refine ar_goto 135 d_104_80 (by decide) ?_
      have hS9 : NS Z n nd nn gg C me f q u b uv h0 hp_1 (va_up D 18 (upd (D 18) 3 3)) K A Y := ⟨hF, hN, hf, hn, hs, hp0, hu0⟩
      have hI9 : NI Z nn (va_up D 18 (upd (D 18) 3 3)) := ⟨hI.1, hI.2.1, WI.store (Or.inl rfl) hA w11 ⟨o, ho, eo, hoz, hoz2⟩ ⟨o, ho, eo, hZo⟩ wB, hI.2.2.2⟩
      exact ar_ret d_104_135 rfl (⟨rfl, _, _, _, _, hS9, hI9, eq_ifT hk (eq_ifF (nI_ne1 hfi e7) (bnN_eq (cl_eq hfi e7) (rfl))), ⟨f5, Or.inl f9, Or.inl f10, Or.inr ⟨fi, hfi, e7, hfj⟩, hPB1⟩, Or.inl rfl⟩)
  · refine ar_aload_n 1 d_104_0 rfl rfl ?_
    refine ar_aload_n 2 d_104_1 rfl rfl ?_
    refine ar_getf 5 d_104_2 rfl (ci := 10) (k := 1) rfl (hF.at 18 rfl) rfl ?_
    refine ar_getf 8 d_104_5 rfl (ci := 5) (k := 0) rfl (hF.at 19 rfl) rfl ?_
    refine ar_top (x' := 1) (hk) ?_
    refine ar_iconst 9 (v := 4) d_104_8 rfl (by decide) ?_
    refine ar_icmp_ne 16 12 d_104_9 (by decide) rfl (fun _ => ?_) (fun c => absurd (by decide) c)
    refine ar_iconst 17 (v := 3) d_104_16 rfl (by decide) ?_
    refine ar_putf 20 [.ref (nd + 10), .ref (nd + 19), .ref (nd + 21), .int 3, .int (D 18 4), .int (D 18 5), .int (D 18 6), .int (D 18 7), .int (D 18 8), .int (D 18 9), .int (D 18 10), .int (D 18 11), .int (D 18 12), .int (D 18 13), .int (D 18 14)] d_104_17 rfl (ci := 10) (k := 3) rfl rfl (hF.at 18 rfl) (Nat.le_of_ble_eq_true rfl) rfl rfl rfl ?_
    replace hF : ax_hs (ax_put h (nd + 18) (.inr (10, [.ref (nd + 10), .ref (nd + 19), .ref (nd + 21), .int 3, .int (D 18 4), .int (D 18 5), .int (D 18 6), .int (D 18 7), .int (D 18 8), .int (D 18 9), .int (D 18 10), .int (D 18 11), .int (D 18 12), .int (D 18 13), .int (D 18 14)]))) [cNd n nd me D, cDk nd D, cAr nd 2 35840 D, cAr nd 3 4096 D, cAr nd 4 32 D, cAr nd 5 280 D, cAr nd 6 280 D, cLd n nd me D A, cAr nd 8 16 D, cAr nd 9 280 D, cTb nd gg D K, cAr nd 11 48 D, cAr nd 12 48 D, cAr nd 13 48 D, cAr nd 14 2400 D, cAr nd 15 512 D, cAr nd 16 961 D, cAr nd 17 961 D, (nd + 18, .inr (10, [.ref (nd + 10), .ref (nd + 19), .ref (nd + 21), .int 3, .int (D 18 4), .int (D 18 5), .int (D 18 6), .int (D 18 7), .int (D 18 8), .int (D 18 9), .int (D 18 10), .int (D 18 11), .int (D 18 12), .int (D 18 13), .int (D 18 14)])), cWa nd D, cAr nd 20 612 D, cAr nd 21 1152 D, cRk n nn gg C, cOr n nn gg f] := hF.put 18 _ rfl rfl
    replace hf := hf.put (a := nd + 18) (c := .inr (10, [.ref (nd + 10), .ref (nd + 19), .ref (nd + 21), .int 3, .int (D 18 4), .int (D 18 5), .int (D 18 6), .int (D 18 7), .int (D 18 8), .int (D 18 9), .int (D 18 10), .int (D 18 11), .int (D 18 12), .int (D 18 13), .int (D 18 14)])) (Or.inr (by omega))
    replace hN := hN.put (a := nd + 18) (c := .inr (10, [.ref (nd + 10), .ref (nd + 19), .ref (nd + 21), .int 3, .int (D 18 4), .int (D 18 5), .int (D 18 6), .int (D 18 7), .int (D 18 8), .int (D 18 9), .int (D 18 10), .int (D 18 11), .int (D 18 12), .int (D 18 13), .int (D 18 14)])) (by omega)
    replace hn : (ax_put h (nd + 18) (.inr (10, [.ref (nd + 10), .ref (nd + 19), .ref (nd + 21), .int 3, .int (D 18 4), .int (D 18 5), .int (D 18 6), .int (D 18 7), .int (D 18 8), .int (D 18 9), .int (D 18 10), .int (D 18 11), .int (D 18 12), .int (D 18 13), .int (D 18 14)]))).1 = h0.1 := hn
    replace hs : (ax_put h (nd + 18) (.inr (10, [.ref (nd + 10), .ref (nd + 19), .ref (nd + 21), .int 3, .int (D 18 4), .int (D 18 5), .int (D 18 6), .int (D 18 7), .int (D 18 8), .int (D 18 9), .int (D 18 10), .int (D 18 11), .int (D 18 12), .int (D 18 13), .int (D 18 14)]))).2.1 = h0.2.1 := hs
    generalize ax_put h (nd + 18) (.inr (10, [.ref (nd + 10), .ref (nd + 19), .ref (nd + 21), .int 3, .int (D 18 4), .int (D 18 5), .int (D 18 6), .int (D 18 7), .int (D 18 8), .int (D 18 9), .int (D 18 10), .int (D 18 11), .int (D 18 12), .int (D 18 13), .int (D 18 14)])) = hp_3 at hF hf hN hn hs ⊢
    have hZo : Z.y o := ((hoz2.resolve_left (fun z => absurd (hk.symm.trans z) (by decide))).resolve_left (fun z => absurd (hk.symm.trans z) (by decide))).resolve_left (fun z => absurd (hk.symm.trans z) (by decide))
    rcases f1 with ⟨e7, hkk, h48⟩ | ⟨fi, hfi, e7, hfj⟩
    · refine ar_aload_n 21 d_104_20 rfl rfl ?_
      refine ar_getf 24 d_104_21 rfl (ci := 10) (k := 7) rfl (hF.at 18 rfl) rfl ?_
      refine ar_top (x' := -1) (e7) ?_
      refine ar_if_ge 31 27 d_104_24 (by decide) rfl (fun c => absurd c (by decide)) (fun _ => ?_)
      refine ar_aload_n 28 d_104_27 rfl rfl ?_
      have hS1 : NS Z n nd nn gg C me f q u b uv h0 hp_3 (va_up D 18 (upd (D 18) 3 3)) K A Y := ⟨hF, hN, hf, hn, hs, hp0, hu0⟩
      have hI1 : NI Z nn (va_up D 18 (upd (D 18) 3 3)) := ⟨hI.1, hI.2.1, WI.store (Or.inl rfl) hA w11 ⟨o, ho, eo, hoz, hoz2⟩ ⟨o, ho, eo, hZo⟩ wB, hI.2.2.2⟩
      refine ar_call (r := []) (na := 0) (kd := 0) (cm := 105) (fr2 := fr - 1) (lo2 := lo - 20) 31 d_104_28 (ar_hoV (as := []) rfl rfl rfl (hF.at 18 rfl)) rfl (by omega) (show lo - 20 + (19 + 1) = lo by omega) (Nat.le_of_ble_eq_true rfl) (Nat.le_of_ble_eq_true rfl) (s_105 (by omega) (by omega) hC0 hS1 hI1 (neq (a := 3) rfl (by decide)) (neq (a := 3) rfl (by decide)) ⟨f5, Or.inl f9, Or.inl f10, hPB1⟩ h48 f2) ?_
      intro v hp_4 hq
      obtain ⟨rfl, D4, K4, A4, Y4, hS2, hI2, hE4, aSI, aFI, a8, a3, aQ, -⟩ := hq
      clear hS1 hI1 hF hN hf hn hs hp0 hu0
      obtain ⟨hF, hN, hf, hn, hs, hp0, hu0⟩ := hS2
      replace hF : ax_hs hp_4 [cNd n nd me D4, cDk nd D4, cAr nd 2 35840 D4, cAr nd 3 4096 D4, cAr nd 4 32 D4, cAr nd 5 280 D4, cAr nd 6 280 D4, cLd n nd me D4 A4, cAr nd 8 16 D4, cAr nd 9 280 D4, cTb nd gg D4 K4, cAr nd 11 48 D4, cAr nd 12 48 D4, cAr nd 13 48 D4, cAr nd 14 2400 D4, cAr nd 15 512 D4, cAr nd 16 961 D4, cAr nd 17 961 D4, cWk nd D4, cWa nd D4, cAr nd 20 612 D4, cAr nd 21 1152 D4, cRk n nn gg C, cOr n nn gg f] := hF
      have hI4 := hI2
      clear hI2
      have hk2 : D4 19 0 = 1 := by rw [aQ]; exact hk
      refine ar_aload_n 32 d_104_31 rfl rfl ?_
      refine ar_getf 35 d_104_32 rfl (ci := 10) (k := 1) rfl (hF.at 18 rfl) rfl ?_
      refine ar_getf 38 d_104_35 rfl (ci := 5) (k := 0) rfl (hF.at 19 rfl) rfl ?_
      refine ar_tabIn 83 d_104_38 (by rw [hk2]; decide) (by rw [hk2]; rfl) (by decide) ?_
      refine ar_aload_n 84 d_104_83 rfl rfl ?_
      refine ar_iconst 85 (v := 1) d_104_84 rfl (by decide) ?_
      have eSI : SI (D4) := aSI
      have eFI : FI (D4) := aFI
      have hS1 : NS Z n nd nn gg C me f q u b uv h0 hp_4 D4 K4 A4 Y4 := ⟨hF, hN, hf, hn, hs, hp0, hu0⟩
      have hI1 : NI Z nn D4 := hI4
      refine ar_call (r := []) (na := 0) (kd := 0) (cm := 107) (fr2 := fr - 1) (lo2 := lo - 27) 88 d_104_85 (ar_hoV (as := [.int 1]) rfl rfl rfl (hF.at 18 rfl)) rfl (by omega) (show lo - 27 + (19 + 8) = lo by omega) (Nat.le_of_ble_eq_true rfl) (Nat.le_of_ble_eq_true rfl) (s_107 (by omega) (by omega) hC0 hS1 hI1 (neq (a := 3) a3 (by decide)) aSI) ?_
      intro v hp_5 hq
      obtain ⟨rfl, D5, K5, A5, Y5, hS2, hI2, hE5, hR1, hR2⟩ := hq
      clear hS1 hI1 hF hN hf hn hs hp0 hu0
      obtain ⟨hF, hN, hf, hn, hs, hp0, hu0⟩ := hS2
      replace hF : ax_hs hp_5 [cNd n nd me D5, cDk nd D5, cAr nd 2 35840 D5, cAr nd 3 4096 D5, cAr nd 4 32 D5, cAr nd 5 280 D5, cAr nd 6 280 D5, cLd n nd me D5 A5, cAr nd 8 16 D5, cAr nd 9 280 D5, cTb nd gg D5 K5, cAr nd 11 48 D5, cAr nd 12 48 D5, cAr nd 13 48 D5, cAr nd 14 2400 D5, cAr nd 15 512 D5, cAr nd 16 961 D5, cAr nd 17 961 D5, cWk nd D5, cWa nd D5, cAr nd 20 612 D5, cAr nd 21 1152 D5, cRk n nn gg C, cOr n nn gg f] := hF
      have hI5 := hI2
      clear hI2
      have x18 := hR1 18 (by decide) (by decide)
      have x19 := hR1 19 (by decide) (by decide)
      have x11 := hR1 11 (by decide) (by decide)
      have y3 : D5 18 3 = 3 := by rw [x18]; exact a3
      have ySI : SI D5 := by
        have e := eSI
        unfold SI FI at e ⊢
        rw [x18, x19, x11]
        exact ⟨e.1, e.2.1, e.2.2.1, e.2.2.2.1, hR2⟩
      have yFI : FI D5 := by
        have e := eFI
        unfold FI at e ⊢
        rw [x18, x11]
        exact e
      refine ar_aload_n 89 d_104_88 rfl rfl ?_
      have hS1 : NS Z n nd nn gg C me f q u b uv h0 hp_5 D5 K5 A5 Y5 := ⟨hF, hN, hf, hn, hs, hp0, hu0⟩
      have hI1 : NI Z nn D5 := hI5
      refine ar_call (r := []) (na := 0) (kd := 0) (cm := 108) (fr2 := fr - 1) (lo2 := lo - 20) 92 d_104_89 (ar_hoV (as := []) rfl rfl rfl (hF.at 18 rfl)) rfl (by omega) (show lo - 20 + (19 + 1) = lo by omega) (Nat.le_of_ble_eq_true rfl) (Nat.le_of_ble_eq_true rfl) (s_108 (by omega) (by omega) hC0 hS1 hI1 (neq y3 (by decide)) ySI yFI) ?_
      intro v hp_6 hq
      obtain ⟨rfl, D6, K6, A6, Y6, hS2, hI2, hE6, zSI, z3⟩ := hq
      clear hS1 hI1 hF hN hf hn hs hp0 hu0
      obtain ⟨hF, hN, hf, hn, hs, hp0, hu0⟩ := hS2
      replace hF : ax_hs hp_6 [cNd n nd me D6, cDk nd D6, cAr nd 2 35840 D6, cAr nd 3 4096 D6, cAr nd 4 32 D6, cAr nd 5 280 D6, cAr nd 6 280 D6, cLd n nd me D6 A6, cAr nd 8 16 D6, cAr nd 9 280 D6, cTb nd gg D6 K6, cAr nd 11 48 D6, cAr nd 12 48 D6, cAr nd 13 48 D6, cAr nd 14 2400 D6, cAr nd 15 512 D6, cAr nd 16 961 D6, cAr nd 17 961 D6, cWk nd D6, cWa nd D6, cAr nd 20 612 D6, cAr nd 21 1152 D6, cRk n nn gg C, cOr n nn gg f] := hF
      have hI6 := hI2
      clear hI2
      refine ar_goto 135 d_104_92 (by decide) ?_
      have hS9 : NS Z n nd nn gg C me f q u b uv h0 hp_6 D6 K6 A6 Y6 := ⟨hF, hN, hf, hn, hs, hp0, hu0⟩
      have hI9 : NI Z nn D6 := hI6
      exact ar_ret d_104_135 rfl (⟨rfl, _, _, _, _, hS9, hI9, eq_ifF (neq hk (by decide)) (eq_ifT hk (eq_ifT e7 (bnS_eq hE4 (bnS_eq hE5 (bnS_eq hE6 (rfl)))))), zSI, Or.inl (z3.trans y3)⟩)
    · refine ar_aload_n 21 d_104_20 rfl rfl ?_
      refine ar_getf 24 d_104_21 rfl (ci := 10) (k := 7) rfl (hF.at 18 rfl) rfl ?_
      refine ar_top (x' := nI fi) (e7) ?_
      refine ar_if_ge 31 27 d_104_24 (by decide) rfl (fun _ => ?_) (fun c => absurd (nI_pos' (by omega)) c)
      refine ar_aload_n 32 d_104_31 rfl rfl ?_
      refine ar_getf 35 d_104_32 rfl (ci := 10) (k := 1) rfl (hF.at 18 rfl) rfl ?_
      refine ar_getf 38 d_104_35 rfl (ci := 5) (k := 0) rfl (hF.at 19 rfl) rfl ?_
      refine ar_tabIn 83 d_104_38 (by rw [hk]; decide) (by rw [hk]; rfl) (by decide) ?_
      refine ar_aload_n 84 d_104_83 rfl rfl ?_
      refine ar_iconst 85 (v := 1) d_104_84 rfl (by decide) ?_
      have eSI : SI (va_up D 18 (upd (D 18) 3 3)) := ⟨f5, Or.inl f9, Or.inl f10, Or.inr ⟨fi, hfi, e7, hfj⟩, hPB1⟩
      have eFI : FI (va_up D 18 (upd (D 18) 3 3)) := ⟨fi, hfi, e7, hfj⟩
      have hS1 : NS Z n nd nn gg C me f q u b uv h0 hp_3 (va_up D 18 (upd (D 18) 3 3)) K A Y := ⟨hF, hN, hf, hn, hs, hp0, hu0⟩
      have hI1 : NI Z nn (va_up D 18 (upd (D 18) 3 3)) := ⟨hI.1, hI.2.1, WI.store (Or.inl rfl) hA w11 ⟨o, ho, eo, hoz, hoz2⟩ ⟨o, ho, eo, hZo⟩ wB, hI.2.2.2⟩
      refine ar_call (r := []) (na := 0) (kd := 0) (cm := 107) (fr2 := fr - 1) (lo2 := lo - 27) 88 d_104_85 (ar_hoV (as := [.int 1]) rfl rfl rfl (hF.at 18 rfl)) rfl (by omega) (show lo - 27 + (19 + 8) = lo by omega) (Nat.le_of_ble_eq_true rfl) (Nat.le_of_ble_eq_true rfl) (s_107 (by omega) (by omega) hC0 hS1 hI1 (neq (a := 3) rfl (by decide)) ⟨f5, Or.inl f9, Or.inl f10, Or.inr ⟨fi, hfi, e7, hfj⟩, hPB1⟩) ?_
      intro v hp_7 hq
      obtain ⟨rfl, D7, K7, A7, Y7, hS2, hI2, hE7, hR1, hR2⟩ := hq
      clear hS1 hI1 hF hN hf hn hs hp0 hu0
      obtain ⟨hF, hN, hf, hn, hs, hp0, hu0⟩ := hS2
      replace hF : ax_hs hp_7 [cNd n nd me D7, cDk nd D7, cAr nd 2 35840 D7, cAr nd 3 4096 D7, cAr nd 4 32 D7, cAr nd 5 280 D7, cAr nd 6 280 D7, cLd n nd me D7 A7, cAr nd 8 16 D7, cAr nd 9 280 D7, cTb nd gg D7 K7, cAr nd 11 48 D7, cAr nd 12 48 D7, cAr nd 13 48 D7, cAr nd 14 2400 D7, cAr nd 15 512 D7, cAr nd 16 961 D7, cAr nd 17 961 D7, cWk nd D7, cWa nd D7, cAr nd 20 612 D7, cAr nd 21 1152 D7, cRk n nn gg C, cOr n nn gg f] := hF
      have hI7 := hI2
      clear hI2
      have x18 := hR1 18 (by decide) (by decide)
      have x19 := hR1 19 (by decide) (by decide)
      have x11 := hR1 11 (by decide) (by decide)
      have y3 : D7 18 3 = 3 := by rw [x18]; exact rfl
      have ySI : SI D7 := by
        have e := eSI
        unfold SI FI at e ⊢
        rw [x18, x19, x11]
        exact ⟨e.1, e.2.1, e.2.2.1, e.2.2.2.1, hR2⟩
      have yFI : FI D7 := by
        have e := eFI
        unfold FI at e ⊢
        rw [x18, x11]
        exact e
      refine ar_aload_n 89 d_104_88 rfl rfl ?_
      have hS1 : NS Z n nd nn gg C me f q u b uv h0 hp_7 D7 K7 A7 Y7 := ⟨hF, hN, hf, hn, hs, hp0, hu0⟩
      have hI1 : NI Z nn D7 := hI7
      refine ar_call (r := []) (na := 0) (kd := 0) (cm := 108) (fr2 := fr - 1) (lo2 := lo - 20) 92 d_104_89 (ar_hoV (as := []) rfl rfl rfl (hF.at 18 rfl)) rfl (by omega) (show lo - 20 + (19 + 1) = lo by omega) (Nat.le_of_ble_eq_true rfl) (Nat.le_of_ble_eq_true rfl) (s_108 (by omega) (by omega) hC0 hS1 hI1 (neq y3 (by decide)) ySI yFI) ?_
      intro v hp_8 hq
      obtain ⟨rfl, D8, K8, A8, Y8, hS2, hI2, hE8, zSI, z3⟩ := hq
      clear hS1 hI1 hF hN hf hn hs hp0 hu0
      obtain ⟨hF, hN, hf, hn, hs, hp0, hu0⟩ := hS2
      replace hF : ax_hs hp_8 [cNd n nd me D8, cDk nd D8, cAr nd 2 35840 D8, cAr nd 3 4096 D8, cAr nd 4 32 D8, cAr nd 5 280 D8, cAr nd 6 280 D8, cLd n nd me D8 A8, cAr nd 8 16 D8, cAr nd 9 280 D8, cTb nd gg D8 K8, cAr nd 11 48 D8, cAr nd 12 48 D8, cAr nd 13 48 D8, cAr nd 14 2400 D8, cAr nd 15 512 D8, cAr nd 16 961 D8, cAr nd 17 961 D8, cWk nd D8, cWa nd D8, cAr nd 20 612 D8, cAr nd 21 1152 D8, cRk n nn gg C, cOr n nn gg f] := hF
      have hI8 := hI2
      clear hI2
      refine ar_goto 135 d_104_92 (by decide) ?_
      have hS9 : NS Z n nd nn gg C me f q u b uv h0 hp_8 D8 K8 A8 Y8 := ⟨hF, hN, hf, hn, hs, hp0, hu0⟩
      have hI9 : NI Z nn D8 := hI8
      exact ar_ret d_104_135 rfl (⟨rfl, _, _, _, _, hS9, hI9, eq_ifF (neq hk (by decide)) (eq_ifT hk (eq_ifF (nI_ne1 hfi e7) (bnN_eq (cl_eq hfi e7) (bnS_eq hE7 (bnS_eq hE8 (rfl)))))), zSI, Or.inl (z3.trans y3)⟩)
  · refine ar_aload_n 1 d_104_0 rfl rfl ?_
    refine ar_aload_n 2 d_104_1 rfl rfl ?_
    refine ar_getf 5 d_104_2 rfl (ci := 10) (k := 1) rfl (hF.at 18 rfl) rfl ?_
    refine ar_getf 8 d_104_5 rfl (ci := 5) (k := 0) rfl (hF.at 19 rfl) rfl ?_
    refine ar_top (x' := 2) (hk) ?_
    refine ar_iconst 9 (v := 4) d_104_8 rfl (by decide) ?_
    refine ar_icmp_ne 16 12 d_104_9 (by decide) rfl (fun _ => ?_) (fun c => absurd (by decide) c)
    refine ar_iconst 17 (v := 3) d_104_16 rfl (by decide) ?_
    refine ar_putf 20 [.ref (nd + 10), .ref (nd + 19), .ref (nd + 21), .int 3, .int (D 18 4), .int (D 18 5), .int (D 18 6), .int (D 18 7), .int (D 18 8), .int (D 18 9), .int (D 18 10), .int (D 18 11), .int (D 18 12), .int (D 18 13), .int (D 18 14)] d_104_17 rfl (ci := 10) (k := 3) rfl rfl (hF.at 18 rfl) (Nat.le_of_ble_eq_true rfl) rfl rfl rfl ?_
    replace hF : ax_hs (ax_put h (nd + 18) (.inr (10, [.ref (nd + 10), .ref (nd + 19), .ref (nd + 21), .int 3, .int (D 18 4), .int (D 18 5), .int (D 18 6), .int (D 18 7), .int (D 18 8), .int (D 18 9), .int (D 18 10), .int (D 18 11), .int (D 18 12), .int (D 18 13), .int (D 18 14)]))) [cNd n nd me D, cDk nd D, cAr nd 2 35840 D, cAr nd 3 4096 D, cAr nd 4 32 D, cAr nd 5 280 D, cAr nd 6 280 D, cLd n nd me D A, cAr nd 8 16 D, cAr nd 9 280 D, cTb nd gg D K, cAr nd 11 48 D, cAr nd 12 48 D, cAr nd 13 48 D, cAr nd 14 2400 D, cAr nd 15 512 D, cAr nd 16 961 D, cAr nd 17 961 D, (nd + 18, .inr (10, [.ref (nd + 10), .ref (nd + 19), .ref (nd + 21), .int 3, .int (D 18 4), .int (D 18 5), .int (D 18 6), .int (D 18 7), .int (D 18 8), .int (D 18 9), .int (D 18 10), .int (D 18 11), .int (D 18 12), .int (D 18 13), .int (D 18 14)])), cWa nd D, cAr nd 20 612 D, cAr nd 21 1152 D, cRk n nn gg C, cOr n nn gg f] := hF.put 18 _ rfl rfl
    replace hf := hf.put (a := nd + 18) (c := .inr (10, [.ref (nd + 10), .ref (nd + 19), .ref (nd + 21), .int 3, .int (D 18 4), .int (D 18 5), .int (D 18 6), .int (D 18 7), .int (D 18 8), .int (D 18 9), .int (D 18 10), .int (D 18 11), .int (D 18 12), .int (D 18 13), .int (D 18 14)])) (Or.inr (by omega))
    replace hN := hN.put (a := nd + 18) (c := .inr (10, [.ref (nd + 10), .ref (nd + 19), .ref (nd + 21), .int 3, .int (D 18 4), .int (D 18 5), .int (D 18 6), .int (D 18 7), .int (D 18 8), .int (D 18 9), .int (D 18 10), .int (D 18 11), .int (D 18 12), .int (D 18 13), .int (D 18 14)])) (by omega)
    replace hn : (ax_put h (nd + 18) (.inr (10, [.ref (nd + 10), .ref (nd + 19), .ref (nd + 21), .int 3, .int (D 18 4), .int (D 18 5), .int (D 18 6), .int (D 18 7), .int (D 18 8), .int (D 18 9), .int (D 18 10), .int (D 18 11), .int (D 18 12), .int (D 18 13), .int (D 18 14)]))).1 = h0.1 := hn
    replace hs : (ax_put h (nd + 18) (.inr (10, [.ref (nd + 10), .ref (nd + 19), .ref (nd + 21), .int 3, .int (D 18 4), .int (D 18 5), .int (D 18 6), .int (D 18 7), .int (D 18 8), .int (D 18 9), .int (D 18 10), .int (D 18 11), .int (D 18 12), .int (D 18 13), .int (D 18 14)]))).2.1 = h0.2.1 := hs
    generalize ax_put h (nd + 18) (.inr (10, [.ref (nd + 10), .ref (nd + 19), .ref (nd + 21), .int 3, .int (D 18 4), .int (D 18 5), .int (D 18 6), .int (D 18 7), .int (D 18 8), .int (D 18 9), .int (D 18 10), .int (D 18 11), .int (D 18 12), .int (D 18 13), .int (D 18 14)])) = hp_9 at hF hf hN hn hs ⊢
    have hZo : Z.y o := ((hoz2.resolve_left (fun z => absurd (hk.symm.trans z) (by decide))).resolve_left (fun z => absurd (hk.symm.trans z) (by decide))).resolve_left (fun z => absurd (hk.symm.trans z) (by decide))
    rcases f1 with ⟨e7, hkk, h48⟩ | ⟨fi, hfi, e7, hfj⟩
    · refine ar_aload_n 21 d_104_20 rfl rfl ?_
      refine ar_getf 24 d_104_21 rfl (ci := 10) (k := 7) rfl (hF.at 18 rfl) rfl ?_
      refine ar_top (x' := -1) (e7) ?_
      refine ar_if_ge 31 27 d_104_24 (by decide) rfl (fun c => absurd c (by decide)) (fun _ => ?_)
      refine ar_aload_n 28 d_104_27 rfl rfl ?_
      have hS1 : NS Z n nd nn gg C me f q u b uv h0 hp_9 (va_up D 18 (upd (D 18) 3 3)) K A Y := ⟨hF, hN, hf, hn, hs, hp0, hu0⟩
      have hI1 : NI Z nn (va_up D 18 (upd (D 18) 3 3)) := ⟨hI.1, hI.2.1, WI.store (Or.inl rfl) hA w11 ⟨o, ho, eo, hoz, hoz2⟩ ⟨o, ho, eo, hZo⟩ wB, hI.2.2.2⟩
      refine ar_call (r := []) (na := 0) (kd := 0) (cm := 105) (fr2 := fr - 1) (lo2 := lo - 20) 31 d_104_28 (ar_hoV (as := []) rfl rfl rfl (hF.at 18 rfl)) rfl (by omega) (show lo - 20 + (19 + 1) = lo by omega) (Nat.le_of_ble_eq_true rfl) (Nat.le_of_ble_eq_true rfl) (s_105 (by omega) (by omega) hC0 hS1 hI1 (neq (a := 3) rfl (by decide)) (neq (a := 3) rfl (by decide)) ⟨f5, Or.inl f9, Or.inl f10, hPB1⟩ h48 f2) ?_
      intro v hp_10 hq
      obtain ⟨rfl, D10, K10, A10, Y10, hS2, hI2, hE10, aSI, aFI, a8, a3, aQ, -⟩ := hq
      clear hS1 hI1 hF hN hf hn hs hp0 hu0
      obtain ⟨hF, hN, hf, hn, hs, hp0, hu0⟩ := hS2
      replace hF : ax_hs hp_10 [cNd n nd me D10, cDk nd D10, cAr nd 2 35840 D10, cAr nd 3 4096 D10, cAr nd 4 32 D10, cAr nd 5 280 D10, cAr nd 6 280 D10, cLd n nd me D10 A10, cAr nd 8 16 D10, cAr nd 9 280 D10, cTb nd gg D10 K10, cAr nd 11 48 D10, cAr nd 12 48 D10, cAr nd 13 48 D10, cAr nd 14 2400 D10, cAr nd 15 512 D10, cAr nd 16 961 D10, cAr nd 17 961 D10, cWk nd D10, cWa nd D10, cAr nd 20 612 D10, cAr nd 21 1152 D10, cRk n nn gg C, cOr n nn gg f] := hF
      have hI10 := hI2
      clear hI2
      have hk2 : D10 19 0 = 2 := by rw [aQ]; exact hk
      refine ar_aload_n 32 d_104_31 rfl rfl ?_
      refine ar_getf 35 d_104_32 rfl (ci := 10) (k := 1) rfl (hF.at 18 rfl) rfl ?_
      refine ar_getf 38 d_104_35 rfl (ci := 5) (k := 0) rfl (hF.at 19 rfl) rfl ?_
      refine ar_tabIn 83 d_104_38 (by rw [hk2]; decide) (by rw [hk2]; rfl) (by decide) ?_
      refine ar_aload_n 84 d_104_83 rfl rfl ?_
      refine ar_iconst 85 (v := 1) d_104_84 rfl (by decide) ?_
      have eSI : SI (D10) := aSI
      have eFI : FI (D10) := aFI
      have hS1 : NS Z n nd nn gg C me f q u b uv h0 hp_10 D10 K10 A10 Y10 := ⟨hF, hN, hf, hn, hs, hp0, hu0⟩
      have hI1 : NI Z nn D10 := hI10
      refine ar_call (r := []) (na := 0) (kd := 0) (cm := 107) (fr2 := fr - 1) (lo2 := lo - 27) 88 d_104_85 (ar_hoV (as := [.int 1]) rfl rfl rfl (hF.at 18 rfl)) rfl (by omega) (show lo - 27 + (19 + 8) = lo by omega) (Nat.le_of_ble_eq_true rfl) (Nat.le_of_ble_eq_true rfl) (s_107 (by omega) (by omega) hC0 hS1 hI1 (neq (a := 3) a3 (by decide)) aSI) ?_
      intro v hp_11 hq
      obtain ⟨rfl, D11, K11, A11, Y11, hS2, hI2, hE11, hR1, hR2⟩ := hq
      clear hS1 hI1 hF hN hf hn hs hp0 hu0
      obtain ⟨hF, hN, hf, hn, hs, hp0, hu0⟩ := hS2
      replace hF : ax_hs hp_11 [cNd n nd me D11, cDk nd D11, cAr nd 2 35840 D11, cAr nd 3 4096 D11, cAr nd 4 32 D11, cAr nd 5 280 D11, cAr nd 6 280 D11, cLd n nd me D11 A11, cAr nd 8 16 D11, cAr nd 9 280 D11, cTb nd gg D11 K11, cAr nd 11 48 D11, cAr nd 12 48 D11, cAr nd 13 48 D11, cAr nd 14 2400 D11, cAr nd 15 512 D11, cAr nd 16 961 D11, cAr nd 17 961 D11, cWk nd D11, cWa nd D11, cAr nd 20 612 D11, cAr nd 21 1152 D11, cRk n nn gg C, cOr n nn gg f] := hF
      have hI11 := hI2
      clear hI2
      have x18 := hR1 18 (by decide) (by decide)
      have x19 := hR1 19 (by decide) (by decide)
      have x11 := hR1 11 (by decide) (by decide)
      have y3 : D11 18 3 = 3 := by rw [x18]; exact a3
      have ySI : SI D11 := by
        have e := eSI
        unfold SI FI at e ⊢
        rw [x18, x19, x11]
        exact ⟨e.1, e.2.1, e.2.2.1, e.2.2.2.1, hR2⟩
      have yFI : FI D11 := by
        have e := eFI
        unfold FI at e ⊢
        rw [x18, x11]
        exact e
      refine ar_aload_n 89 d_104_88 rfl rfl ?_
      have hS1 : NS Z n nd nn gg C me f q u b uv h0 hp_11 D11 K11 A11 Y11 := ⟨hF, hN, hf, hn, hs, hp0, hu0⟩
      have hI1 : NI Z nn D11 := hI11
      refine ar_call (r := []) (na := 0) (kd := 0) (cm := 108) (fr2 := fr - 1) (lo2 := lo - 20) 92 d_104_89 (ar_hoV (as := []) rfl rfl rfl (hF.at 18 rfl)) rfl (by omega) (show lo - 20 + (19 + 1) = lo by omega) (Nat.le_of_ble_eq_true rfl) (Nat.le_of_ble_eq_true rfl) (s_108 (by omega) (by omega) hC0 hS1 hI1 (neq y3 (by decide)) ySI yFI) ?_
      intro v hp_12 hq
      obtain ⟨rfl, D12, K12, A12, Y12, hS2, hI2, hE12, zSI, z3⟩ := hq
      clear hS1 hI1 hF hN hf hn hs hp0 hu0
      obtain ⟨hF, hN, hf, hn, hs, hp0, hu0⟩ := hS2
      replace hF : ax_hs hp_12 [cNd n nd me D12, cDk nd D12, cAr nd 2 35840 D12, cAr nd 3 4096 D12, cAr nd 4 32 D12, cAr nd 5 280 D12, cAr nd 6 280 D12, cLd n nd me D12 A12, cAr nd 8 16 D12, cAr nd 9 280 D12, cTb nd gg D12 K12, cAr nd 11 48 D12, cAr nd 12 48 D12, cAr nd 13 48 D12, cAr nd 14 2400 D12, cAr nd 15 512 D12, cAr nd 16 961 D12, cAr nd 17 961 D12, cWk nd D12, cWa nd D12, cAr nd 20 612 D12, cAr nd 21 1152 D12, cRk n nn gg C, cOr n nn gg f] := hF
      have hI12 := hI2
      clear hI2
      refine ar_goto 135 d_104_92 (by decide) ?_
      have hS9 : NS Z n nd nn gg C me f q u b uv h0 hp_12 D12 K12 A12 Y12 := ⟨hF, hN, hf, hn, hs, hp0, hu0⟩
      have hI9 : NI Z nn D12 := hI12
      exact ar_ret d_104_135 rfl (⟨rfl, _, _, _, _, hS9, hI9, eq_ifF (neq hk (by decide)) (eq_ifF (neq hk (by decide)) (eq_ifT hk (eq_ifT e7 (bnS_eq hE10 (bnS_eq hE11 (bnS_eq hE12 (rfl))))))), zSI, Or.inl (z3.trans y3)⟩)
    · refine ar_aload_n 21 d_104_20 rfl rfl ?_
      refine ar_getf 24 d_104_21 rfl (ci := 10) (k := 7) rfl (hF.at 18 rfl) rfl ?_
      refine ar_top (x' := nI fi) (e7) ?_
      refine ar_if_ge 31 27 d_104_24 (by decide) rfl (fun _ => ?_) (fun c => absurd (nI_pos' (by omega)) c)
      refine ar_aload_n 32 d_104_31 rfl rfl ?_
      refine ar_getf 35 d_104_32 rfl (ci := 10) (k := 1) rfl (hF.at 18 rfl) rfl ?_
      refine ar_getf 38 d_104_35 rfl (ci := 5) (k := 0) rfl (hF.at 19 rfl) rfl ?_
      refine ar_tabIn 83 d_104_38 (by rw [hk]; decide) (by rw [hk]; rfl) (by decide) ?_
      refine ar_aload_n 84 d_104_83 rfl rfl ?_
      refine ar_iconst 85 (v := 1) d_104_84 rfl (by decide) ?_
      have eSI : SI (va_up D 18 (upd (D 18) 3 3)) := ⟨f5, Or.inl f9, Or.inl f10, Or.inr ⟨fi, hfi, e7, hfj⟩, hPB1⟩
      have eFI : FI (va_up D 18 (upd (D 18) 3 3)) := ⟨fi, hfi, e7, hfj⟩
      have hS1 : NS Z n nd nn gg C me f q u b uv h0 hp_9 (va_up D 18 (upd (D 18) 3 3)) K A Y := ⟨hF, hN, hf, hn, hs, hp0, hu0⟩
      have hI1 : NI Z nn (va_up D 18 (upd (D 18) 3 3)) := ⟨hI.1, hI.2.1, WI.store (Or.inl rfl) hA w11 ⟨o, ho, eo, hoz, hoz2⟩ ⟨o, ho, eo, hZo⟩ wB, hI.2.2.2⟩
      refine ar_call (r := []) (na := 0) (kd := 0) (cm := 107) (fr2 := fr - 1) (lo2 := lo - 27) 88 d_104_85 (ar_hoV (as := [.int 1]) rfl rfl rfl (hF.at 18 rfl)) rfl (by omega) (show lo - 27 + (19 + 8) = lo by omega) (Nat.le_of_ble_eq_true rfl) (Nat.le_of_ble_eq_true rfl) (s_107 (by omega) (by omega) hC0 hS1 hI1 (neq (a := 3) rfl (by decide)) ⟨f5, Or.inl f9, Or.inl f10, Or.inr ⟨fi, hfi, e7, hfj⟩, hPB1⟩) ?_
      intro v hp_13 hq
      obtain ⟨rfl, D13, K13, A13, Y13, hS2, hI2, hE13, hR1, hR2⟩ := hq
      clear hS1 hI1 hF hN hf hn hs hp0 hu0
      obtain ⟨hF, hN, hf, hn, hs, hp0, hu0⟩ := hS2
      replace hF : ax_hs hp_13 [cNd n nd me D13, cDk nd D13, cAr nd 2 35840 D13, cAr nd 3 4096 D13, cAr nd 4 32 D13, cAr nd 5 280 D13, cAr nd 6 280 D13, cLd n nd me D13 A13, cAr nd 8 16 D13, cAr nd 9 280 D13, cTb nd gg D13 K13, cAr nd 11 48 D13, cAr nd 12 48 D13, cAr nd 13 48 D13, cAr nd 14 2400 D13, cAr nd 15 512 D13, cAr nd 16 961 D13, cAr nd 17 961 D13, cWk nd D13, cWa nd D13, cAr nd 20 612 D13, cAr nd 21 1152 D13, cRk n nn gg C, cOr n nn gg f] := hF
      have hI13 := hI2
      clear hI2
      have x18 := hR1 18 (by decide) (by decide)
      have x19 := hR1 19 (by decide) (by decide)
      have x11 := hR1 11 (by decide) (by decide)
      have y3 : D13 18 3 = 3 := by rw [x18]; exact rfl
      have ySI : SI D13 := by
        have e := eSI
        unfold SI FI at e ⊢
        rw [x18, x19, x11]
        exact ⟨e.1, e.2.1, e.2.2.1, e.2.2.2.1, hR2⟩
      have yFI : FI D13 := by
        have e := eFI
        unfold FI at e ⊢
        rw [x18, x11]
        exact e
      refine ar_aload_n 89 d_104_88 rfl rfl ?_
      have hS1 : NS Z n nd nn gg C me f q u b uv h0 hp_13 D13 K13 A13 Y13 := ⟨hF, hN, hf, hn, hs, hp0, hu0⟩
      have hI1 : NI Z nn D13 := hI13
      refine ar_call (r := []) (na := 0) (kd := 0) (cm := 108) (fr2 := fr - 1) (lo2 := lo - 20) 92 d_104_89 (ar_hoV (as := []) rfl rfl rfl (hF.at 18 rfl)) rfl (by omega) (show lo - 20 + (19 + 1) = lo by omega) (Nat.le_of_ble_eq_true rfl) (Nat.le_of_ble_eq_true rfl) (s_108 (by omega) (by omega) hC0 hS1 hI1 (neq y3 (by decide)) ySI yFI) ?_
      intro v hp_14 hq
      obtain ⟨rfl, D14, K14, A14, Y14, hS2, hI2, hE14, zSI, z3⟩ := hq
      clear hS1 hI1 hF hN hf hn hs hp0 hu0
      obtain ⟨hF, hN, hf, hn, hs, hp0, hu0⟩ := hS2
      replace hF : ax_hs hp_14 [cNd n nd me D14, cDk nd D14, cAr nd 2 35840 D14, cAr nd 3 4096 D14, cAr nd 4 32 D14, cAr nd 5 280 D14, cAr nd 6 280 D14, cLd n nd me D14 A14, cAr nd 8 16 D14, cAr nd 9 280 D14, cTb nd gg D14 K14, cAr nd 11 48 D14, cAr nd 12 48 D14, cAr nd 13 48 D14, cAr nd 14 2400 D14, cAr nd 15 512 D14, cAr nd 16 961 D14, cAr nd 17 961 D14, cWk nd D14, cWa nd D14, cAr nd 20 612 D14, cAr nd 21 1152 D14, cRk n nn gg C, cOr n nn gg f] := hF
      have hI14 := hI2
      clear hI2
      refine ar_goto 135 d_104_92 (by decide) ?_
      have hS9 : NS Z n nd nn gg C me f q u b uv h0 hp_14 D14 K14 A14 Y14 := ⟨hF, hN, hf, hn, hs, hp0, hu0⟩
      have hI9 : NI Z nn D14 := hI14
      exact ar_ret d_104_135 rfl (⟨rfl, _, _, _, _, hS9, hI9, eq_ifF (neq hk (by decide)) (eq_ifF (neq hk (by decide)) (eq_ifT hk (eq_ifF (nI_ne1 hfi e7) (bnN_eq (cl_eq hfi e7) (bnS_eq hE13 (bnS_eq hE14 (rfl))))))), zSI, Or.inl (z3.trans y3)⟩)
  · refine ar_aload_n 1 d_104_0 rfl rfl ?_
    refine ar_aload_n 2 d_104_1 rfl rfl ?_
    refine ar_getf 5 d_104_2 rfl (ci := 10) (k := 1) rfl (hF.at 18 rfl) rfl ?_
    refine ar_getf 8 d_104_5 rfl (ci := 5) (k := 0) rfl (hF.at 19 rfl) rfl ?_
    refine ar_top (x' := 3) (hk) ?_
    refine ar_iconst 9 (v := 4) d_104_8 rfl (by decide) ?_
    refine ar_icmp_ne 16 12 d_104_9 (by decide) rfl (fun _ => ?_) (fun c => absurd (by decide) c)
    refine ar_iconst 17 (v := 3) d_104_16 rfl (by decide) ?_
    refine ar_putf 20 [.ref (nd + 10), .ref (nd + 19), .ref (nd + 21), .int 3, .int (D 18 4), .int (D 18 5), .int (D 18 6), .int (D 18 7), .int (D 18 8), .int (D 18 9), .int (D 18 10), .int (D 18 11), .int (D 18 12), .int (D 18 13), .int (D 18 14)] d_104_17 rfl (ci := 10) (k := 3) rfl rfl (hF.at 18 rfl) (Nat.le_of_ble_eq_true rfl) rfl rfl rfl ?_
    replace hF : ax_hs (ax_put h (nd + 18) (.inr (10, [.ref (nd + 10), .ref (nd + 19), .ref (nd + 21), .int 3, .int (D 18 4), .int (D 18 5), .int (D 18 6), .int (D 18 7), .int (D 18 8), .int (D 18 9), .int (D 18 10), .int (D 18 11), .int (D 18 12), .int (D 18 13), .int (D 18 14)]))) [cNd n nd me D, cDk nd D, cAr nd 2 35840 D, cAr nd 3 4096 D, cAr nd 4 32 D, cAr nd 5 280 D, cAr nd 6 280 D, cLd n nd me D A, cAr nd 8 16 D, cAr nd 9 280 D, cTb nd gg D K, cAr nd 11 48 D, cAr nd 12 48 D, cAr nd 13 48 D, cAr nd 14 2400 D, cAr nd 15 512 D, cAr nd 16 961 D, cAr nd 17 961 D, (nd + 18, .inr (10, [.ref (nd + 10), .ref (nd + 19), .ref (nd + 21), .int 3, .int (D 18 4), .int (D 18 5), .int (D 18 6), .int (D 18 7), .int (D 18 8), .int (D 18 9), .int (D 18 10), .int (D 18 11), .int (D 18 12), .int (D 18 13), .int (D 18 14)])), cWa nd D, cAr nd 20 612 D, cAr nd 21 1152 D, cRk n nn gg C, cOr n nn gg f] := hF.put 18 _ rfl rfl
    replace hf := hf.put (a := nd + 18) (c := .inr (10, [.ref (nd + 10), .ref (nd + 19), .ref (nd + 21), .int 3, .int (D 18 4), .int (D 18 5), .int (D 18 6), .int (D 18 7), .int (D 18 8), .int (D 18 9), .int (D 18 10), .int (D 18 11), .int (D 18 12), .int (D 18 13), .int (D 18 14)])) (Or.inr (by omega))
    replace hN := hN.put (a := nd + 18) (c := .inr (10, [.ref (nd + 10), .ref (nd + 19), .ref (nd + 21), .int 3, .int (D 18 4), .int (D 18 5), .int (D 18 6), .int (D 18 7), .int (D 18 8), .int (D 18 9), .int (D 18 10), .int (D 18 11), .int (D 18 12), .int (D 18 13), .int (D 18 14)])) (by omega)
    replace hn : (ax_put h (nd + 18) (.inr (10, [.ref (nd + 10), .ref (nd + 19), .ref (nd + 21), .int 3, .int (D 18 4), .int (D 18 5), .int (D 18 6), .int (D 18 7), .int (D 18 8), .int (D 18 9), .int (D 18 10), .int (D 18 11), .int (D 18 12), .int (D 18 13), .int (D 18 14)]))).1 = h0.1 := hn
    replace hs : (ax_put h (nd + 18) (.inr (10, [.ref (nd + 10), .ref (nd + 19), .ref (nd + 21), .int 3, .int (D 18 4), .int (D 18 5), .int (D 18 6), .int (D 18 7), .int (D 18 8), .int (D 18 9), .int (D 18 10), .int (D 18 11), .int (D 18 12), .int (D 18 13), .int (D 18 14)]))).2.1 = h0.2.1 := hs
    generalize ax_put h (nd + 18) (.inr (10, [.ref (nd + 10), .ref (nd + 19), .ref (nd + 21), .int 3, .int (D 18 4), .int (D 18 5), .int (D 18 6), .int (D 18 7), .int (D 18 8), .int (D 18 9), .int (D 18 10), .int (D 18 11), .int (D 18 12), .int (D 18 13), .int (D 18 14)])) = hp_15 at hF hf hN hn hs ⊢
    have hZo : Z.y o := ((hoz2.resolve_left (fun z => absurd (hk.symm.trans z) (by decide))).resolve_left (fun z => absurd (hk.symm.trans z) (by decide))).resolve_left (fun z => absurd (hk.symm.trans z) (by decide))
    rcases f1 with ⟨e7, hkk, h48⟩ | ⟨fi, hfi, e7, hfj⟩
    · rcases hkk with z | z | z <;> exact absurd (hk.symm.trans z) (by decide)
    · refine ar_aload_n 21 d_104_20 rfl rfl ?_
      refine ar_getf 24 d_104_21 rfl (ci := 10) (k := 7) rfl (hF.at 18 rfl) rfl ?_
      refine ar_top (x' := nI fi) (e7) ?_
      refine ar_if_ge 31 27 d_104_24 (by decide) rfl (fun _ => ?_) (fun c => absurd (nI_pos' (by omega)) c)
      refine ar_aload_n 32 d_104_31 rfl rfl ?_
      refine ar_getf 35 d_104_32 rfl (ci := 10) (k := 1) rfl (hF.at 18 rfl) rfl ?_
      refine ar_getf 38 d_104_35 rfl (ci := 5) (k := 0) rfl (hF.at 19 rfl) rfl ?_
      refine ar_tabIn 95 d_104_38 (by rw [hk]; decide) (by rw [hk]; rfl) (by decide) ?_
      refine ar_aload_n 96 d_104_95 rfl rfl ?_
      have hS1 : NS Z n nd nn gg C me f q u b uv h0 hp_15 (va_up D 18 (upd (D 18) 3 3)) K A Y := ⟨hF, hN, hf, hn, hs, hp0, hu0⟩
      have hI1 : NI Z nn (va_up D 18 (upd (D 18) 3 3)) := ⟨hI.1, hI.2.1, WI.store (Or.inl rfl) hA w11 ⟨o, ho, eo, hoz, hoz2⟩ ⟨o, ho, eo, hZo⟩ wB, hI.2.2.2⟩
      refine ar_call (r := []) (na := 0) (kd := 0) (cm := 109) (fr2 := fr - 1) (lo2 := lo - 21) 99 d_104_96 (ar_hoV (as := []) rfl rfl rfl (hF.at 18 rfl)) rfl (by omega) (show lo - 21 + (19 + 2) = lo by omega) (Nat.le_of_ble_eq_true rfl) (Nat.le_of_ble_eq_true rfl) (s_109 (by omega) (by omega) hC0 hS1 hI1 (neq (a := 3) rfl (by decide)) ⟨f5, Or.inl f9, Or.inl f10, Or.inr ⟨fi, hfi, e7, hfj⟩, hPB1⟩ ⟨fi, hfi, e7, hfj⟩ (hA.2.1 (Or.inr (Or.inl hk)))) ?_
      intro v hp_16 hq
      obtain ⟨rfl, D16, K16, A16, Y16, hS2, hI2, hE16, zSI, z3⟩ := hq
      clear hS1 hI1 hF hN hf hn hs hp0 hu0
      obtain ⟨hF, hN, hf, hn, hs, hp0, hu0⟩ := hS2
      replace hF : ax_hs hp_16 [cNd n nd me D16, cDk nd D16, cAr nd 2 35840 D16, cAr nd 3 4096 D16, cAr nd 4 32 D16, cAr nd 5 280 D16, cAr nd 6 280 D16, cLd n nd me D16 A16, cAr nd 8 16 D16, cAr nd 9 280 D16, cTb nd gg D16 K16, cAr nd 11 48 D16, cAr nd 12 48 D16, cAr nd 13 48 D16, cAr nd 14 2400 D16, cAr nd 15 512 D16, cAr nd 16 961 D16, cAr nd 17 961 D16, cWk nd D16, cWa nd D16, cAr nd 20 612 D16, cAr nd 21 1152 D16, cRk n nn gg C, cOr n nn gg f] := hF
      have hI16 := hI2
      clear hI2
      refine ar_goto 135 d_104_99 (by decide) ?_
      have hS9 : NS Z n nd nn gg C me f q u b uv h0 hp_16 D16 K16 A16 Y16 := ⟨hF, hN, hf, hn, hs, hp0, hu0⟩
      have hI9 : NI Z nn D16 := hI16
      exact ar_ret d_104_135 rfl (⟨rfl, _, _, _, _, hS9, hI9, eq_ifF (neq hk (by decide)) (eq_ifF (neq hk (by decide)) (eq_ifF (neq hk (by decide)) (eq_ifT hk (bnN_eq (cl_eq hfi e7) (bnS_eq hE16 (rfl)))))), zSI, Or.inl (z3.trans rfl)⟩)
  · refine ar_aload_n 1 d_104_0 rfl rfl ?_
    refine ar_aload_n 2 d_104_1 rfl rfl ?_
    refine ar_getf 5 d_104_2 rfl (ci := 10) (k := 1) rfl (hF.at 18 rfl) rfl ?_
    refine ar_getf 8 d_104_5 rfl (ci := 5) (k := 0) rfl (hF.at 19 rfl) rfl ?_
    refine ar_top (x' := 4) (hk) ?_
    refine ar_iconst 9 (v := 4) d_104_8 rfl (by decide) ?_
    refine ar_icmp_ne 16 12 d_104_9 (by decide) rfl (fun c => absurd c (by decide)) (fun _ => ?_)
    refine ar_iconst 13 (v := 5) d_104_12 rfl (by decide) ?_
    refine ar_goto 17 d_104_13 (by decide) ?_
    refine ar_putf 20 [.ref (nd + 10), .ref (nd + 19), .ref (nd + 21), .int 5, .int (D 18 4), .int (D 18 5), .int (D 18 6), .int (D 18 7), .int (D 18 8), .int (D 18 9), .int (D 18 10), .int (D 18 11), .int (D 18 12), .int (D 18 13), .int (D 18 14)] d_104_17 rfl (ci := 10) (k := 3) rfl rfl (hF.at 18 rfl) (Nat.le_of_ble_eq_true rfl) rfl rfl rfl ?_
    replace hF : ax_hs (ax_put h (nd + 18) (.inr (10, [.ref (nd + 10), .ref (nd + 19), .ref (nd + 21), .int 5, .int (D 18 4), .int (D 18 5), .int (D 18 6), .int (D 18 7), .int (D 18 8), .int (D 18 9), .int (D 18 10), .int (D 18 11), .int (D 18 12), .int (D 18 13), .int (D 18 14)]))) [cNd n nd me D, cDk nd D, cAr nd 2 35840 D, cAr nd 3 4096 D, cAr nd 4 32 D, cAr nd 5 280 D, cAr nd 6 280 D, cLd n nd me D A, cAr nd 8 16 D, cAr nd 9 280 D, cTb nd gg D K, cAr nd 11 48 D, cAr nd 12 48 D, cAr nd 13 48 D, cAr nd 14 2400 D, cAr nd 15 512 D, cAr nd 16 961 D, cAr nd 17 961 D, (nd + 18, .inr (10, [.ref (nd + 10), .ref (nd + 19), .ref (nd + 21), .int 5, .int (D 18 4), .int (D 18 5), .int (D 18 6), .int (D 18 7), .int (D 18 8), .int (D 18 9), .int (D 18 10), .int (D 18 11), .int (D 18 12), .int (D 18 13), .int (D 18 14)])), cWa nd D, cAr nd 20 612 D, cAr nd 21 1152 D, cRk n nn gg C, cOr n nn gg f] := hF.put 18 _ rfl rfl
    replace hf := hf.put (a := nd + 18) (c := .inr (10, [.ref (nd + 10), .ref (nd + 19), .ref (nd + 21), .int 5, .int (D 18 4), .int (D 18 5), .int (D 18 6), .int (D 18 7), .int (D 18 8), .int (D 18 9), .int (D 18 10), .int (D 18 11), .int (D 18 12), .int (D 18 13), .int (D 18 14)])) (Or.inr (by omega))
    replace hN := hN.put (a := nd + 18) (c := .inr (10, [.ref (nd + 10), .ref (nd + 19), .ref (nd + 21), .int 5, .int (D 18 4), .int (D 18 5), .int (D 18 6), .int (D 18 7), .int (D 18 8), .int (D 18 9), .int (D 18 10), .int (D 18 11), .int (D 18 12), .int (D 18 13), .int (D 18 14)])) (by omega)
    replace hn : (ax_put h (nd + 18) (.inr (10, [.ref (nd + 10), .ref (nd + 19), .ref (nd + 21), .int 5, .int (D 18 4), .int (D 18 5), .int (D 18 6), .int (D 18 7), .int (D 18 8), .int (D 18 9), .int (D 18 10), .int (D 18 11), .int (D 18 12), .int (D 18 13), .int (D 18 14)]))).1 = h0.1 := hn
    replace hs : (ax_put h (nd + 18) (.inr (10, [.ref (nd + 10), .ref (nd + 19), .ref (nd + 21), .int 5, .int (D 18 4), .int (D 18 5), .int (D 18 6), .int (D 18 7), .int (D 18 8), .int (D 18 9), .int (D 18 10), .int (D 18 11), .int (D 18 12), .int (D 18 13), .int (D 18 14)]))).2.1 = h0.2.1 := hs
    generalize ax_put h (nd + 18) (.inr (10, [.ref (nd + 10), .ref (nd + 19), .ref (nd + 21), .int 5, .int (D 18 4), .int (D 18 5), .int (D 18 6), .int (D 18 7), .int (D 18 8), .int (D 18 9), .int (D 18 10), .int (D 18 11), .int (D 18 12), .int (D 18 13), .int (D 18 14)])) = hp_17 at hF hf hN hn hs ⊢
    rcases f1 with ⟨e7, hkk, h48⟩ | ⟨fi, hfi, e7, hfj⟩
    · rcases hkk with z | z | z <;> exact absurd (hk.symm.trans z) (by decide)
    · refine ar_aload_n 21 d_104_20 rfl rfl ?_
      refine ar_getf 24 d_104_21 rfl (ci := 10) (k := 7) rfl (hF.at 18 rfl) rfl ?_
      refine ar_top (x' := nI fi) (e7) ?_
      refine ar_if_ge 31 27 d_104_24 (by decide) rfl (fun _ => ?_) (fun c => absurd (nI_pos' (by omega)) c)
      refine ar_aload_n 32 d_104_31 rfl rfl ?_
      refine ar_getf 35 d_104_32 rfl (ci := 10) (k := 1) rfl (hF.at 18 rfl) rfl ?_
      refine ar_getf 38 d_104_35 rfl (ci := 5) (k := 0) rfl (hF.at 19 rfl) rfl ?_
      refine ar_tabIn 102 d_104_38 (by rw [hk]; decide) (by rw [hk]; rfl) (by decide) ?_
      refine ar_aload_n 103 d_104_102 rfl rfl ?_
      refine ar_iconst 104 (v := 0) d_104_103 rfl (by decide) ?_
      have eSI : SI (va_up D 18 (upd (D 18) 3 5)) := ⟨f5, Or.inl f9, Or.inl f10, Or.inr ⟨fi, hfi, e7, hfj⟩, hPB1⟩
      have eFI : FI (va_up D 18 (upd (D 18) 3 5)) := ⟨fi, hfi, e7, hfj⟩
      have hS1 : NS Z n nd nn gg C me f q u b uv h0 hp_17 (va_up D 18 (upd (D 18) 3 5)) K A Y := ⟨hF, hN, hf, hn, hs, hp0, hu0⟩
      have hI1 : NI Z nn (va_up D 18 (upd (D 18) 3 5)) := ⟨hI.1, hI.2.1, WI.tell rfl hA w11 ⟨o, ho, eo, hoz, hoz2⟩ (fun _ => Or.inr (f8 hk)) wB, hI.2.2.2⟩
      refine ar_call (r := []) (na := 0) (kd := 0) (cm := 107) (fr2 := fr - 1) (lo2 := lo - 27) 107 d_104_104 (ar_hoV (as := [.int 0]) rfl rfl rfl (hF.at 18 rfl)) rfl (by omega) (show lo - 27 + (19 + 8) = lo by omega) (Nat.le_of_ble_eq_true rfl) (Nat.le_of_ble_eq_true rfl) (s_107 (by omega) (by omega) hC0 hS1 hI1 (neq (a := 5) rfl (by decide)) ⟨f5, Or.inl f9, Or.inl f10, Or.inr ⟨fi, hfi, e7, hfj⟩, hPB1⟩) ?_
      intro v hp_18 hq
      obtain ⟨rfl, D18, K18, A18, Y18, hS2, hI2, hE18, hR1, hR2⟩ := hq
      clear hS1 hI1 hF hN hf hn hs hp0 hu0
      obtain ⟨hF, hN, hf, hn, hs, hp0, hu0⟩ := hS2
      replace hF : ax_hs hp_18 [cNd n nd me D18, cDk nd D18, cAr nd 2 35840 D18, cAr nd 3 4096 D18, cAr nd 4 32 D18, cAr nd 5 280 D18, cAr nd 6 280 D18, cLd n nd me D18 A18, cAr nd 8 16 D18, cAr nd 9 280 D18, cTb nd gg D18 K18, cAr nd 11 48 D18, cAr nd 12 48 D18, cAr nd 13 48 D18, cAr nd 14 2400 D18, cAr nd 15 512 D18, cAr nd 16 961 D18, cAr nd 17 961 D18, cWk nd D18, cWa nd D18, cAr nd 20 612 D18, cAr nd 21 1152 D18, cRk n nn gg C, cOr n nn gg f] := hF
      have hI18 := hI2
      clear hI2
      have x18 := hR1 18 (by decide) (by decide)
      have x19 := hR1 19 (by decide) (by decide)
      have x11 := hR1 11 (by decide) (by decide)
      have ySI : SI D18 := by
        have e := eSI
        unfold SI FI at e ⊢
        rw [x18, x19, x11]
        exact ⟨e.1, e.2.1, e.2.2.1, e.2.2.2.1, hR2⟩
      refine ar_goto 135 d_104_107 (by decide) ?_
      have hS9 : NS Z n nd nn gg C me f q u b uv h0 hp_18 D18 K18 A18 Y18 := ⟨hF, hN, hf, hn, hs, hp0, hu0⟩
      have hI9 : NI Z nn D18 := hI18
      exact ar_ret d_104_135 rfl (⟨rfl, _, _, _, _, hS9, hI9, eq_ifF (neq hk (by decide)) (eq_ifF (neq hk (by decide)) (eq_ifF (neq hk (by decide)) (eq_ifF (neq hk (by decide)) (eq_ifT hk (bnN_eq (cl_eq hfi e7) (bnS_eq hE18 (rfl))))))), ySI, Or.inr (by rw [x18]; rfl)⟩)
  · refine ar_aload_n 1 d_104_0 rfl rfl ?_
    refine ar_aload_n 2 d_104_1 rfl rfl ?_
    refine ar_getf 5 d_104_2 rfl (ci := 10) (k := 1) rfl (hF.at 18 rfl) rfl ?_
    refine ar_getf 8 d_104_5 rfl (ci := 5) (k := 0) rfl (hF.at 19 rfl) rfl ?_
    refine ar_top (x' := 5) (hk) ?_
    refine ar_iconst 9 (v := 4) d_104_8 rfl (by decide) ?_
    refine ar_icmp_ne 16 12 d_104_9 (by decide) rfl (fun _ => ?_) (fun c => absurd (by decide) c)
    refine ar_iconst 17 (v := 3) d_104_16 rfl (by decide) ?_
    refine ar_putf 20 [.ref (nd + 10), .ref (nd + 19), .ref (nd + 21), .int 3, .int (D 18 4), .int (D 18 5), .int (D 18 6), .int (D 18 7), .int (D 18 8), .int (D 18 9), .int (D 18 10), .int (D 18 11), .int (D 18 12), .int (D 18 13), .int (D 18 14)] d_104_17 rfl (ci := 10) (k := 3) rfl rfl (hF.at 18 rfl) (Nat.le_of_ble_eq_true rfl) rfl rfl rfl ?_
    replace hF : ax_hs (ax_put h (nd + 18) (.inr (10, [.ref (nd + 10), .ref (nd + 19), .ref (nd + 21), .int 3, .int (D 18 4), .int (D 18 5), .int (D 18 6), .int (D 18 7), .int (D 18 8), .int (D 18 9), .int (D 18 10), .int (D 18 11), .int (D 18 12), .int (D 18 13), .int (D 18 14)]))) [cNd n nd me D, cDk nd D, cAr nd 2 35840 D, cAr nd 3 4096 D, cAr nd 4 32 D, cAr nd 5 280 D, cAr nd 6 280 D, cLd n nd me D A, cAr nd 8 16 D, cAr nd 9 280 D, cTb nd gg D K, cAr nd 11 48 D, cAr nd 12 48 D, cAr nd 13 48 D, cAr nd 14 2400 D, cAr nd 15 512 D, cAr nd 16 961 D, cAr nd 17 961 D, (nd + 18, .inr (10, [.ref (nd + 10), .ref (nd + 19), .ref (nd + 21), .int 3, .int (D 18 4), .int (D 18 5), .int (D 18 6), .int (D 18 7), .int (D 18 8), .int (D 18 9), .int (D 18 10), .int (D 18 11), .int (D 18 12), .int (D 18 13), .int (D 18 14)])), cWa nd D, cAr nd 20 612 D, cAr nd 21 1152 D, cRk n nn gg C, cOr n nn gg f] := hF.put 18 _ rfl rfl
    replace hf := hf.put (a := nd + 18) (c := .inr (10, [.ref (nd + 10), .ref (nd + 19), .ref (nd + 21), .int 3, .int (D 18 4), .int (D 18 5), .int (D 18 6), .int (D 18 7), .int (D 18 8), .int (D 18 9), .int (D 18 10), .int (D 18 11), .int (D 18 12), .int (D 18 13), .int (D 18 14)])) (Or.inr (by omega))
    replace hN := hN.put (a := nd + 18) (c := .inr (10, [.ref (nd + 10), .ref (nd + 19), .ref (nd + 21), .int 3, .int (D 18 4), .int (D 18 5), .int (D 18 6), .int (D 18 7), .int (D 18 8), .int (D 18 9), .int (D 18 10), .int (D 18 11), .int (D 18 12), .int (D 18 13), .int (D 18 14)])) (by omega)
    replace hn : (ax_put h (nd + 18) (.inr (10, [.ref (nd + 10), .ref (nd + 19), .ref (nd + 21), .int 3, .int (D 18 4), .int (D 18 5), .int (D 18 6), .int (D 18 7), .int (D 18 8), .int (D 18 9), .int (D 18 10), .int (D 18 11), .int (D 18 12), .int (D 18 13), .int (D 18 14)]))).1 = h0.1 := hn
    replace hs : (ax_put h (nd + 18) (.inr (10, [.ref (nd + 10), .ref (nd + 19), .ref (nd + 21), .int 3, .int (D 18 4), .int (D 18 5), .int (D 18 6), .int (D 18 7), .int (D 18 8), .int (D 18 9), .int (D 18 10), .int (D 18 11), .int (D 18 12), .int (D 18 13), .int (D 18 14)]))).2.1 = h0.2.1 := hs
    generalize ax_put h (nd + 18) (.inr (10, [.ref (nd + 10), .ref (nd + 19), .ref (nd + 21), .int 3, .int (D 18 4), .int (D 18 5), .int (D 18 6), .int (D 18 7), .int (D 18 8), .int (D 18 9), .int (D 18 10), .int (D 18 11), .int (D 18 12), .int (D 18 13), .int (D 18 14)])) = hp_19 at hF hf hN hn hs ⊢
    have hZo : Z.y o := ((hoz2.resolve_left (fun z => absurd (hk.symm.trans z) (by decide))).resolve_left (fun z => absurd (hk.symm.trans z) (by decide))).resolve_left (fun z => absurd (hk.symm.trans z) (by decide))
    rcases f1 with ⟨e7, hkk, h48⟩ | ⟨fi, hfi, e7, hfj⟩
    · rcases hkk with z | z | z <;> exact absurd (hk.symm.trans z) (by decide)
    · refine ar_aload_n 21 d_104_20 rfl rfl ?_
      refine ar_getf 24 d_104_21 rfl (ci := 10) (k := 7) rfl (hF.at 18 rfl) rfl ?_
      refine ar_top (x' := nI fi) (e7) ?_
      refine ar_if_ge 31 27 d_104_24 (by decide) rfl (fun _ => ?_) (fun c => absurd (nI_pos' (by omega)) c)
      refine ar_aload_n 32 d_104_31 rfl rfl ?_
      refine ar_getf 35 d_104_32 rfl (ci := 10) (k := 1) rfl (hF.at 18 rfl) rfl ?_
      refine ar_getf 38 d_104_35 rfl (ci := 5) (k := 0) rfl (hF.at 19 rfl) rfl ?_
      refine ar_tabIn 110 d_104_38 (by rw [hk]; decide) (by rw [hk]; rfl) (by decide) ?_
      refine ar_aload_n 111 d_104_110 rfl rfl ?_
      refine ar_getf 114 d_104_111 rfl (ci := 10) (k := 0) rfl (hF.at 18 rfl) rfl ?_
      refine ar_aload_n 115 d_104_114 rfl rfl ?_
      refine ar_getf 118 d_104_115 rfl (ci := 10) (k := 7) rfl (hF.at 18 rfl) rfl ?_
      refine ar_top (x' := nI fi) (e7) ?_
      refine ar_call (r := []) (na := 0) (kd := 0) (cm := 111) (fr2 := fr - 1) (lo2 := lo - 21) 121 d_104_118 (ar_hoV (as := [.int (nI fi)]) rfl rfl rfl (hF.at 10 rfl)) rfl (by omega) (show lo - 21 + (19 + 2) = lo by omega) (Nat.le_of_ble_eq_true rfl) (Nat.le_of_ble_eq_true rfl) (c_111 (by omega) (by omega) hfi hfj (hI.2.1.id512 hfi hfj) (hF.sub (F' := [cTb nd gg D K, cAr nd 11 48 D, cAr nd 12 48 D, cAr nd 15 512 D, cAr nd 16 961 D]) [10, 11, 12, 15, 16] rfl rfl) rfl rfl (by omega)) ?_
      intro v hp_20 hq
      obtain ⟨rfl, qF, qn, qs, qf⟩ := hq
      have qF : ax_hs hp_20 [(nd + 10, .inr (6, [.int (nI gg), .ref (nd + 11), .ref (nd + 12), .ref (nd + 13), .ref (nd + 14), .ref (nd + 15), .ref (nd + 16), .ref (nd + 17), .long (K &&& ((1 <<< ((nI fi).toInt64 &&& 63)) ^^^ (-1))), .int (D 10 9 - 1), .int (D 10 10)])), (nd + 11, .inl (0, 48, .inl (upd (D 11) fi (-1)))), (nd + 12, .inl (0, 48, .inl (upd (D 12) fi 0))), (nd + 15, .inl (0, 512, .inl (upd (D 15) (D 11 fi).toNatClampNeg (-1)))), (nd + 16, .inl (0, 961, .inl (ax_fill (D 16) (fi * 20) ((fi + 1) * 20) (-1))))] := qF
      replace hF : ax_hs hp_20 [cNd n nd me D, cDk nd D, cAr nd 2 35840 D, cAr nd 3 4096 D, cAr nd 4 32 D, cAr nd 5 280 D, cAr nd 6 280 D, cLd n nd me D A, cAr nd 8 16 D, cAr nd 9 280 D, cAr nd 13 48 D, cAr nd 14 2400 D, cAr nd 17 961 D, (nd + 18, .inr (10, [.ref (nd + 10), .ref (nd + 19), .ref (nd + 21), .int 3, .int (D 18 4), .int (D 18 5), .int (D 18 6), .int (D 18 7), .int (D 18 8), .int (D 18 9), .int (D 18 10), .int (D 18 11), .int (D 18 12), .int (D 18 13), .int (D 18 14)])), cWa nd D, cAr nd 20 612 D, cAr nd 21 1152 D, cRk n nn gg C, cOr n nn gg f, (nd + 10, .inr (6, [.int (nI gg), .ref (nd + 11), .ref (nd + 12), .ref (nd + 13), .ref (nd + 14), .ref (nd + 15), .ref (nd + 16), .ref (nd + 17), .long (K &&& ((1 <<< ((nI fi).toInt64 &&& 63)) ^^^ (-1))), .int (D 10 9 - 1), .int (D 10 10)])), (nd + 11, .inl (0, 48, .inl (upd (D 11) fi (-1)))), (nd + 12, .inl (0, 48, .inl (upd (D 12) fi 0))), (nd + 15, .inl (0, 512, .inl (upd (D 15) (D 11 fi).toNatClampNeg (-1)))), (nd + 16, .inl (0, 961, .inl (ax_fill (D 16) (fi * 20) ((fi + 1) * 20) (-1))))] := ax_hs.call (rest := [cNd n nd me D, cDk nd D, cAr nd 2 35840 D, cAr nd 3 4096 D, cAr nd 4 32 D, cAr nd 5 280 D, cAr nd 6 280 D, cLd n nd me D A, cAr nd 8 16 D, cAr nd 9 280 D, cAr nd 13 48 D, cAr nd 14 2400 D, cAr nd 17 961 D, (nd + 18, .inr (10, [.ref (nd + 10), .ref (nd + 19), .ref (nd + 21), .int 3, .int (D 18 4), .int (D 18 5), .int (D 18 6), .int (D 18 7), .int (D 18 8), .int (D 18 9), .int (D 18 10), .int (D 18 11), .int (D 18 12), .int (D 18 13), .int (D 18 14)])), cWa nd D, cAr nd 20 612 D, cAr nd 21 1152 D, cRk n nn gg C, cOr n nn gg f]) [10, 11, 12, 15, 16] [0, 1, 2, 3, 4, 5, 6, 7, 8, 9, 13, 14, 17, 18, 19, 20, 21, 22, 23] hF qf qF rfl rfl rfl [10, 11, 12, 15, 16] rfl rfl [10, 11, 12, 15, 16] (news := []) rfl rfl (fun _ z => absurd z List.not_mem_nil) rfl
      replace hF := hF.sub (F' := [cNd n nd me D, cDk nd D, cAr nd 2 35840 D, cAr nd 3 4096 D, cAr nd 4 32 D, cAr nd 5 280 D, cAr nd 6 280 D, cLd n nd me D A, cAr nd 8 16 D, cAr nd 9 280 D, (nd + 10, .inr (6, [.int (nI gg), .ref (nd + 11), .ref (nd + 12), .ref (nd + 13), .ref (nd + 14), .ref (nd + 15), .ref (nd + 16), .ref (nd + 17), .long (K &&& ((1 <<< ((nI fi).toInt64 &&& 63)) ^^^ (-1))), .int (D 10 9 - 1), .int (D 10 10)])), (nd + 11, .inl (0, 48, .inl (upd (D 11) fi (-1)))), (nd + 12, .inl (0, 48, .inl (upd (D 12) fi 0))), cAr nd 13 48 D, cAr nd 14 2400 D, (nd + 15, .inl (0, 512, .inl (upd (D 15) (D 11 fi).toNatClampNeg (-1)))), (nd + 16, .inl (0, 961, .inl (ax_fill (D 16) (fi * 20) ((fi + 1) * 20) (-1)))), cAr nd 17 961 D, (nd + 18, .inr (10, [.ref (nd + 10), .ref (nd + 19), .ref (nd + 21), .int 3, .int (D 18 4), .int (D 18 5), .int (D 18 6), .int (D 18 7), .int (D 18 8), .int (D 18 9), .int (D 18 10), .int (D 18 11), .int (D 18 12), .int (D 18 13), .int (D 18 14)])), cWa nd D, cAr nd 20 612 D, cAr nd 21 1152 D, cRk n nn gg C, cOr n nn gg f]) [0, 1, 2, 3, 4, 5, 6, 7, 8, 9, 19, 20, 21, 10, 11, 22, 23, 12, 13, 14, 15, 16, 17, 18] rfl rfl
      replace hN := hN.fr qf (fun x hx z => by simp only [List.mem_cons, List.not_mem_nil, or_false] at z; unfold NTA at hx; omega)
      replace hf := hf.trC qf (fun x _ z => Or.inr (by simp only [List.mem_cons, List.not_mem_nil, or_false] at z; omega))
      replace hn : hp_20.1 = h0.1 := by omega
      replace hs : hp_20.2.1 = h0.2.1 := by omega
      clear qF qn qs qf
      refine ar_goto 135 d_104_121 (by decide) ?_
      have hS9 : NS Z n nd nn gg C me f q u b uv h0 hp_20 (va_up (va_up (va_up (va_up (va_up (va_up D 10 (upd (D 10) 9 (D 10 9 - 1))) 11 (upd (D 11) fi (-1))) 12 (upd (D 12) fi 0)) 15 (upd (D 15) (D 11 fi).toNatClampNeg (-1))) 16 (ax_fill (D 16) (fi * 20) ((fi + 1) * 20) (-1))) 18 (upd (D 18) 3 3)) (K &&& ((1 <<< ((nI fi).toInt64 &&& 63)) ^^^ (-1))) A Y := ⟨hF, hN, hf, hn, hs, hp0, hu0⟩
      have hI9 : NI Z nn (va_up (va_up (va_up (va_up (va_up (va_up D 10 (upd (D 10) 9 (D 10 9 - 1))) 11 (upd (D 11) fi (-1))) 12 (upd (D 12) fi 0)) 15 (upd (D 15) (D 11 fi).toNatClampNeg (-1))) 16 (ax_fill (D 16) (fi * 20) ((fi + 1) * 20) (-1))) 18 (upd (D 18) 3 3)) := ⟨hI.1, hI.2.1.remove hfi hfj, WI.store (Or.inl rfl) hA w11 ⟨o, ho, eo, hoz, hoz2⟩ ⟨o, ho, eo, hZo⟩ wB, hI.2.2.2⟩
      exact ar_ret d_104_135 rfl (⟨rfl, _, _, _, _, hS9, hI9, eq_ifF (neq hk (by decide)) (eq_ifF (neq hk (by decide)) (eq_ifF (neq hk (by decide)) (eq_ifF (neq hk (by decide)) (eq_ifF (neq hk (by decide)) (eq_ifT hk (bnN_eq (cl_eq hfi e7) (rfl))))))), ⟨f5, Or.inl f9, Or.inl f10, Or.inl (f6 hk), hPB1⟩, Or.inl rfl⟩)
  · refine ar_aload_n 1 d_104_0 rfl rfl ?_
    refine ar_aload_n 2 d_104_1 rfl rfl ?_
    refine ar_getf 5 d_104_2 rfl (ci := 10) (k := 1) rfl (hF.at 18 rfl) rfl ?_
    refine ar_getf 8 d_104_5 rfl (ci := 5) (k := 0) rfl (hF.at 19 rfl) rfl ?_
    refine ar_top (x' := 6) (hk) ?_
    refine ar_iconst 9 (v := 4) d_104_8 rfl (by decide) ?_
    refine ar_icmp_ne 16 12 d_104_9 (by decide) rfl (fun _ => ?_) (fun c => absurd (by decide) c)
    refine ar_iconst 17 (v := 3) d_104_16 rfl (by decide) ?_
    refine ar_putf 20 [.ref (nd + 10), .ref (nd + 19), .ref (nd + 21), .int 3, .int (D 18 4), .int (D 18 5), .int (D 18 6), .int (D 18 7), .int (D 18 8), .int (D 18 9), .int (D 18 10), .int (D 18 11), .int (D 18 12), .int (D 18 13), .int (D 18 14)] d_104_17 rfl (ci := 10) (k := 3) rfl rfl (hF.at 18 rfl) (Nat.le_of_ble_eq_true rfl) rfl rfl rfl ?_
    replace hF : ax_hs (ax_put h (nd + 18) (.inr (10, [.ref (nd + 10), .ref (nd + 19), .ref (nd + 21), .int 3, .int (D 18 4), .int (D 18 5), .int (D 18 6), .int (D 18 7), .int (D 18 8), .int (D 18 9), .int (D 18 10), .int (D 18 11), .int (D 18 12), .int (D 18 13), .int (D 18 14)]))) [cNd n nd me D, cDk nd D, cAr nd 2 35840 D, cAr nd 3 4096 D, cAr nd 4 32 D, cAr nd 5 280 D, cAr nd 6 280 D, cLd n nd me D A, cAr nd 8 16 D, cAr nd 9 280 D, cTb nd gg D K, cAr nd 11 48 D, cAr nd 12 48 D, cAr nd 13 48 D, cAr nd 14 2400 D, cAr nd 15 512 D, cAr nd 16 961 D, cAr nd 17 961 D, (nd + 18, .inr (10, [.ref (nd + 10), .ref (nd + 19), .ref (nd + 21), .int 3, .int (D 18 4), .int (D 18 5), .int (D 18 6), .int (D 18 7), .int (D 18 8), .int (D 18 9), .int (D 18 10), .int (D 18 11), .int (D 18 12), .int (D 18 13), .int (D 18 14)])), cWa nd D, cAr nd 20 612 D, cAr nd 21 1152 D, cRk n nn gg C, cOr n nn gg f] := hF.put 18 _ rfl rfl
    replace hf := hf.put (a := nd + 18) (c := .inr (10, [.ref (nd + 10), .ref (nd + 19), .ref (nd + 21), .int 3, .int (D 18 4), .int (D 18 5), .int (D 18 6), .int (D 18 7), .int (D 18 8), .int (D 18 9), .int (D 18 10), .int (D 18 11), .int (D 18 12), .int (D 18 13), .int (D 18 14)])) (Or.inr (by omega))
    replace hN := hN.put (a := nd + 18) (c := .inr (10, [.ref (nd + 10), .ref (nd + 19), .ref (nd + 21), .int 3, .int (D 18 4), .int (D 18 5), .int (D 18 6), .int (D 18 7), .int (D 18 8), .int (D 18 9), .int (D 18 10), .int (D 18 11), .int (D 18 12), .int (D 18 13), .int (D 18 14)])) (by omega)
    replace hn : (ax_put h (nd + 18) (.inr (10, [.ref (nd + 10), .ref (nd + 19), .ref (nd + 21), .int 3, .int (D 18 4), .int (D 18 5), .int (D 18 6), .int (D 18 7), .int (D 18 8), .int (D 18 9), .int (D 18 10), .int (D 18 11), .int (D 18 12), .int (D 18 13), .int (D 18 14)]))).1 = h0.1 := hn
    replace hs : (ax_put h (nd + 18) (.inr (10, [.ref (nd + 10), .ref (nd + 19), .ref (nd + 21), .int 3, .int (D 18 4), .int (D 18 5), .int (D 18 6), .int (D 18 7), .int (D 18 8), .int (D 18 9), .int (D 18 10), .int (D 18 11), .int (D 18 12), .int (D 18 13), .int (D 18 14)]))).2.1 = h0.2.1 := hs
    generalize ax_put h (nd + 18) (.inr (10, [.ref (nd + 10), .ref (nd + 19), .ref (nd + 21), .int 3, .int (D 18 4), .int (D 18 5), .int (D 18 6), .int (D 18 7), .int (D 18 8), .int (D 18 9), .int (D 18 10), .int (D 18 11), .int (D 18 12), .int (D 18 13), .int (D 18 14)])) = hp_21 at hF hf hN hn hs ⊢
    have hZo : Z.y o := ((hoz2.resolve_left (fun z => absurd (hk.symm.trans z) (by decide))).resolve_left (fun z => absurd (hk.symm.trans z) (by decide))).resolve_left (fun z => absurd (hk.symm.trans z) (by decide))
    rcases f1 with ⟨e7, hkk, h48⟩ | ⟨fi, hfi, e7, hfj⟩
    · rcases hkk with z | z | z <;> exact absurd (hk.symm.trans z) (by decide)
    · refine ar_aload_n 21 d_104_20 rfl rfl ?_
      refine ar_getf 24 d_104_21 rfl (ci := 10) (k := 7) rfl (hF.at 18 rfl) rfl ?_
      refine ar_top (x' := nI fi) (e7) ?_
      refine ar_if_ge 31 27 d_104_24 (by decide) rfl (fun _ => ?_) (fun c => absurd (nI_pos' (by omega)) c)
      refine ar_aload_n 32 d_104_31 rfl rfl ?_
      refine ar_getf 35 d_104_32 rfl (ci := 10) (k := 1) rfl (hF.at 18 rfl) rfl ?_
      refine ar_getf 38 d_104_35 rfl (ci := 5) (k := 0) rfl (hF.at 19 rfl) rfl ?_
      refine ar_tabIn 124 d_104_38 (by rw [hk]; decide) (by rw [hk]; rfl) (by decide) ?_
      refine ar_aload_n 125 d_104_124 rfl rfl ?_
      have hS1 : NS Z n nd nn gg C me f q u b uv h0 hp_21 (va_up D 18 (upd (D 18) 3 3)) K A Y := ⟨hF, hN, hf, hn, hs, hp0, hu0⟩
      have hI1 : NI Z nn (va_up D 18 (upd (D 18) 3 3)) := ⟨hI.1, hI.2.1, WI.store (Or.inl rfl) hA w11 ⟨o, ho, eo, hoz, hoz2⟩ ⟨o, ho, eo, hZo⟩ wB, hI.2.2.2⟩
      refine ar_call (r := []) (na := 0) (kd := 0) (cm := 112) (fr2 := fr - 1) (lo2 := lo - 20) 128 d_104_125 (ar_hoV (as := []) rfl rfl rfl (hF.at 18 rfl)) rfl (by omega) (show lo - 20 + (19 + 1) = lo by omega) (Nat.le_of_ble_eq_true rfl) (Nat.le_of_ble_eq_true rfl) (s_112 (by omega) (by omega) hC0 hS1 hI1 (neq (a := 3) rfl (by decide)) ⟨f5, Or.inl f9, Or.inl f10, Or.inr ⟨fi, hfi, e7, hfj⟩, hPB1⟩ ⟨fi, hfi, e7, hfj⟩ f2 f10) ?_
      intro v hp_22 hq
      obtain ⟨rfl, D22, K22, A22, Y22, hS2, hI2, hE22, zSI, z3⟩ := hq
      clear hS1 hI1 hF hN hf hn hs hp0 hu0
      obtain ⟨hF, hN, hf, hn, hs, hp0, hu0⟩ := hS2
      replace hF : ax_hs hp_22 [cNd n nd me D22, cDk nd D22, cAr nd 2 35840 D22, cAr nd 3 4096 D22, cAr nd 4 32 D22, cAr nd 5 280 D22, cAr nd 6 280 D22, cLd n nd me D22 A22, cAr nd 8 16 D22, cAr nd 9 280 D22, cTb nd gg D22 K22, cAr nd 11 48 D22, cAr nd 12 48 D22, cAr nd 13 48 D22, cAr nd 14 2400 D22, cAr nd 15 512 D22, cAr nd 16 961 D22, cAr nd 17 961 D22, cWk nd D22, cWa nd D22, cAr nd 20 612 D22, cAr nd 21 1152 D22, cRk n nn gg C, cOr n nn gg f] := hF
      have hI22 := hI2
      clear hI2
      refine ar_goto 135 d_104_128 (by decide) ?_
      have hS9 : NS Z n nd nn gg C me f q u b uv h0 hp_22 D22 K22 A22 Y22 := ⟨hF, hN, hf, hn, hs, hp0, hu0⟩
      have hI9 : NI Z nn D22 := hI22
      exact ar_ret d_104_135 rfl (⟨rfl, _, _, _, _, hS9, hI9, eq_ifF (neq hk (by decide)) (eq_ifF (neq hk (by decide)) (eq_ifF (neq hk (by decide)) (eq_ifF (neq hk (by decide)) (eq_ifF (neq hk (by decide)) (eq_ifF (neq hk (by decide)) (eq_ifT hk (bnN_eq (cl_eq hfi e7) (bnS_eq hE22 (rfl))))))))), zSI, Or.inl (z3.trans rfl)⟩)
  · refine ar_aload_n 1 d_104_0 rfl rfl ?_
    refine ar_aload_n 2 d_104_1 rfl rfl ?_
    refine ar_getf 5 d_104_2 rfl (ci := 10) (k := 1) rfl (hF.at 18 rfl) rfl ?_
    refine ar_getf 8 d_104_5 rfl (ci := 5) (k := 0) rfl (hF.at 19 rfl) rfl ?_
    refine ar_top (x' := 7) (hk) ?_
    refine ar_iconst 9 (v := 4) d_104_8 rfl (by decide) ?_
    refine ar_icmp_ne 16 12 d_104_9 (by decide) rfl (fun _ => ?_) (fun c => absurd (by decide) c)
    refine ar_iconst 17 (v := 3) d_104_16 rfl (by decide) ?_
    refine ar_putf 20 [.ref (nd + 10), .ref (nd + 19), .ref (nd + 21), .int 3, .int (D 18 4), .int (D 18 5), .int (D 18 6), .int (D 18 7), .int (D 18 8), .int (D 18 9), .int (D 18 10), .int (D 18 11), .int (D 18 12), .int (D 18 13), .int (D 18 14)] d_104_17 rfl (ci := 10) (k := 3) rfl rfl (hF.at 18 rfl) (Nat.le_of_ble_eq_true rfl) rfl rfl rfl ?_
    replace hF : ax_hs (ax_put h (nd + 18) (.inr (10, [.ref (nd + 10), .ref (nd + 19), .ref (nd + 21), .int 3, .int (D 18 4), .int (D 18 5), .int (D 18 6), .int (D 18 7), .int (D 18 8), .int (D 18 9), .int (D 18 10), .int (D 18 11), .int (D 18 12), .int (D 18 13), .int (D 18 14)]))) [cNd n nd me D, cDk nd D, cAr nd 2 35840 D, cAr nd 3 4096 D, cAr nd 4 32 D, cAr nd 5 280 D, cAr nd 6 280 D, cLd n nd me D A, cAr nd 8 16 D, cAr nd 9 280 D, cTb nd gg D K, cAr nd 11 48 D, cAr nd 12 48 D, cAr nd 13 48 D, cAr nd 14 2400 D, cAr nd 15 512 D, cAr nd 16 961 D, cAr nd 17 961 D, (nd + 18, .inr (10, [.ref (nd + 10), .ref (nd + 19), .ref (nd + 21), .int 3, .int (D 18 4), .int (D 18 5), .int (D 18 6), .int (D 18 7), .int (D 18 8), .int (D 18 9), .int (D 18 10), .int (D 18 11), .int (D 18 12), .int (D 18 13), .int (D 18 14)])), cWa nd D, cAr nd 20 612 D, cAr nd 21 1152 D, cRk n nn gg C, cOr n nn gg f] := hF.put 18 _ rfl rfl
    replace hf := hf.put (a := nd + 18) (c := .inr (10, [.ref (nd + 10), .ref (nd + 19), .ref (nd + 21), .int 3, .int (D 18 4), .int (D 18 5), .int (D 18 6), .int (D 18 7), .int (D 18 8), .int (D 18 9), .int (D 18 10), .int (D 18 11), .int (D 18 12), .int (D 18 13), .int (D 18 14)])) (Or.inr (by omega))
    replace hN := hN.put (a := nd + 18) (c := .inr (10, [.ref (nd + 10), .ref (nd + 19), .ref (nd + 21), .int 3, .int (D 18 4), .int (D 18 5), .int (D 18 6), .int (D 18 7), .int (D 18 8), .int (D 18 9), .int (D 18 10), .int (D 18 11), .int (D 18 12), .int (D 18 13), .int (D 18 14)])) (by omega)
    replace hn : (ax_put h (nd + 18) (.inr (10, [.ref (nd + 10), .ref (nd + 19), .ref (nd + 21), .int 3, .int (D 18 4), .int (D 18 5), .int (D 18 6), .int (D 18 7), .int (D 18 8), .int (D 18 9), .int (D 18 10), .int (D 18 11), .int (D 18 12), .int (D 18 13), .int (D 18 14)]))).1 = h0.1 := hn
    replace hs : (ax_put h (nd + 18) (.inr (10, [.ref (nd + 10), .ref (nd + 19), .ref (nd + 21), .int 3, .int (D 18 4), .int (D 18 5), .int (D 18 6), .int (D 18 7), .int (D 18 8), .int (D 18 9), .int (D 18 10), .int (D 18 11), .int (D 18 12), .int (D 18 13), .int (D 18 14)]))).2.1 = h0.2.1 := hs
    generalize ax_put h (nd + 18) (.inr (10, [.ref (nd + 10), .ref (nd + 19), .ref (nd + 21), .int 3, .int (D 18 4), .int (D 18 5), .int (D 18 6), .int (D 18 7), .int (D 18 8), .int (D 18 9), .int (D 18 10), .int (D 18 11), .int (D 18 12), .int (D 18 13), .int (D 18 14)])) = hp_23 at hF hf hN hn hs ⊢
    have hZo : Z.y o := ((hoz2.resolve_left (fun z => absurd (hk.symm.trans z) (by decide))).resolve_left (fun z => absurd (hk.symm.trans z) (by decide))).resolve_left (fun z => absurd (hk.symm.trans z) (by decide))
    rcases f1 with ⟨e7, hkk, h48⟩ | ⟨fi, hfi, e7, hfj⟩
    · rcases hkk with z | z | z <;> exact absurd (hk.symm.trans z) (by decide)
    · refine ar_aload_n 21 d_104_20 rfl rfl ?_
      refine ar_getf 24 d_104_21 rfl (ci := 10) (k := 7) rfl (hF.at 18 rfl) rfl ?_
      refine ar_top (x' := nI fi) (e7) ?_
      refine ar_if_ge 31 27 d_104_24 (by decide) rfl (fun _ => ?_) (fun c => absurd (nI_pos' (by omega)) c)
      refine ar_aload_n 32 d_104_31 rfl rfl ?_
      refine ar_getf 35 d_104_32 rfl (ci := 10) (k := 1) rfl (hF.at 18 rfl) rfl ?_
      refine ar_getf 38 d_104_35 rfl (ci := 5) (k := 0) rfl (hF.at 19 rfl) rfl ?_
      refine ar_tabOut 131 d_104_38 (by rw [hk]; decide) (by decide) ?_
      refine ar_aload_n 132 d_104_131 rfl rfl ?_
      have hS1 : NS Z n nd nn gg C me f q u b uv h0 hp_23 (va_up D 18 (upd (D 18) 3 3)) K A Y := ⟨hF, hN, hf, hn, hs, hp0, hu0⟩
      have hI1 : NI Z nn (va_up D 18 (upd (D 18) 3 3)) := ⟨hI.1, hI.2.1, WI.store (Or.inl rfl) hA w11 ⟨o, ho, eo, hoz, hoz2⟩ ⟨o, ho, eo, hZo⟩ wB, hI.2.2.2⟩
      refine ar_call (r := []) (na := 0) (kd := 0) (cm := 113) (fr2 := fr - 1) (lo2 := lo - 20) 135 d_104_132 (ar_hoV (as := []) rfl rfl rfl (hF.at 18 rfl)) rfl (by omega) (show lo - 20 + (19 + 1) = lo by omega) (Nat.le_of_ble_eq_true rfl) (Nat.le_of_ble_eq_true rfl) (s_113 (by omega) (by omega) hC0 hS1 hI1 (neq (a := 3) rfl (by decide)) ⟨f5, Or.inl f9, Or.inl f10, Or.inr ⟨fi, hfi, e7, hfj⟩, hPB1⟩ ⟨fi, hfi, e7, hfj⟩ (f2.resolve_left (f3 hk))) ?_
      intro v hp_24 hq
      obtain ⟨rfl, D24, K24, A24, Y24, hS2, hI2, hE24, zSI, z3⟩ := hq
      clear hS1 hI1 hF hN hf hn hs hp0 hu0
      obtain ⟨hF, hN, hf, hn, hs, hp0, hu0⟩ := hS2
      replace hF : ax_hs hp_24 [cNd n nd me D24, cDk nd D24, cAr nd 2 35840 D24, cAr nd 3 4096 D24, cAr nd 4 32 D24, cAr nd 5 280 D24, cAr nd 6 280 D24, cLd n nd me D24 A24, cAr nd 8 16 D24, cAr nd 9 280 D24, cTb nd gg D24 K24, cAr nd 11 48 D24, cAr nd 12 48 D24, cAr nd 13 48 D24, cAr nd 14 2400 D24, cAr nd 15 512 D24, cAr nd 16 961 D24, cAr nd 17 961 D24, cWk nd D24, cWa nd D24, cAr nd 20 612 D24, cAr nd 21 1152 D24, cRk n nn gg C, cOr n nn gg f] := hF
      have hI24 := hI2
      clear hI2
      have hS9 : NS Z n nd nn gg C me f q u b uv h0 hp_24 D24 K24 A24 Y24 := ⟨hF, hN, hf, hn, hs, hp0, hu0⟩
      have hI9 : NI Z nn D24 := hI24
      exact ar_ret d_104_135 rfl (⟨rfl, _, _, _, _, hS9, hI9, eq_ifF (neq hk (by decide)) (eq_ifF (neq hk (by decide)) (eq_ifF (neq hk (by decide)) (eq_ifF (neq hk (by decide)) (eq_ifF (neq hk (by decide)) (eq_ifF (neq hk (by decide)) (eq_ifF (neq hk (by decide)) (bnN_eq (cl_eq hfi e7) (bnS_eq hE24 (rfl))))))))), zSI, Or.inl (z3.trans rfl)⟩)

/-! DISKS: fail; NODES: store, dropAll for every state -/

variable {Z : ZT} {sw ff rf ow g o : Nat → Int32} {i s0 p : Nat}
theorem FI_.cp (h : FI_ Z sw ff ow i g o) (hs0 : s0 < 280) (e0 : sw i = nI s0) (a4 : gd Z rf (i * 128)) : FI_ Z sw ff ow (i + 1) (va_cpy rf g (i * 128) (s0 * 128) 128) (upd o s0 (-1)) := by
  have q : ∀ x, x < 128 → va_cpy rf g (i * 128) (s0 * 128) 128 (s0 * 128 + x) = rf (i * 128 + x) := fun x hx => by
    rw [pk_cpy_in (by omega) (by omega)]
    congr 1
    omega
  exact h.step hs0 e0 (fun s hs hne x hx => pk_cpy_out (by omega)) (fun _ => a4.cg (q 1 (by omega)) (q 15 (by omega)) (q 16 (by omega)))
theorem FI_.skip (h : FI_ Z sw ff ow i g o) (hs0 : s0 < 280) (e0 : sw i = nI s0) (hinj : ∀ j, j < i → ¬ sw j = nI s0) (hff : whB ff s0 → gd Z ff (s0 * 128)) : FI_ Z sw ff ow (i + 1) g (upd o s0 (-1)) := by
  have q := (h.2 s0 hs0 hinj).2
  exact h.step hs0 e0 (fun s hs hne x hx => rfl) (fun z => (hff (whB.cg q z)).cg (q 1 (by omega)) (q 15 (by omega)) (q 16 (by omega)))
theorem FI_.tear (h : FI_ Z sw ff ow i g o) (hs0 : s0 < 280) (hi : i < 32) (e0 : sw i = nI s0) (hinj : ∀ j, j < i → ¬ sw j = nI s0) (hff : whB ff s0 → gd Z ff (s0 * 128)) (a4 : gd Z rf (i * 128)) (a6 : fstB (rf (i * 128)) = 0 ∨ ¬ fstB (rf (i * 128)) = lstB (ff (s0 * 128 + 127))) (hp : p ≤ 512) : FI_ Z sw ff ow (i + 1) (mvF rf (i * 512) (s0 * 512) p g) (upd o s0 (-1)) := by
  have q := (h.2 s0 hs0 hinj).2
  refine h.step hs0 e0 (fun s hs hne x hx => mvF_out (by omega)) (fun z => ?_)
  rcases Nat.eq_zero_or_pos p with e | e
  · subst e
    have q2 : ∀ x, x < 128 → mvF rf (i * 512) (s0 * 512) 0 g (s0 * 128 + x) = ff (s0 * 128 + x) := fun x hx => mv_none.trans (q x hx)
    exact (hff (whB.cg q2 z)).cg (q2 1 (by omega)) (q2 15 (by omega)) (q2 16 (by omega))
  · rcases Nat.lt_or_ge p 512 with e2 | e2
    · have ht := torn (rf := rf) (t := g) hi hs0 e e2
      unfold whB at z
      rw [ht.1, ht.2, q 127 (by omega)] at z
      rcases a6 with a6 | a6
      · exact absurd a6 z.1
      · exact absurd z.2 a6
    · have e3 : p = 512 := by omega
      subst e3
      exact a4.cg (mv_all (by omega)) (mv_all (by omega)) (mv_all (by omega))
def G_143 (nn gg : Nat) (C me : Int32) (f u b : Nat → Int32) (mk pt : Int32) : Nat → Nat → Int32 → (Nat → Nat → Int32) → Int64 → Int64 → List Mg → St
  | 0, i, y3, D1, K, A, Y =>
    (va_up D1 1 (upd (D1 1) 4 0), K, A, Y)
  | k + 1, i, y3, D1, K, A, Y =>
    bnN ((D1 4 i).toNatClampNeg) (fun s0 =>
      bnN ((clI pt 0 512).toNatClampNeg) (fun p =>
        if (((mk.toUInt32 >>> (((nI i) &&& 31).toUInt32 &&& Int32.toUInt32 31)).toInt32) &&& 1) = 0 then
          if ¬ y3 = 0 then
            G_143 nn gg C me f u b mk pt k (i + 1) y3 (va_up D1 5 (upd (D1 5) s0 (-1))) K A Y
          else
            G_143 nn gg C me f u b mk pt k (i + 1) 1 (va_up (va_up D1 2 (mvF (D1 3) (i * 512) (s0 * 512) p (D1 2))) 5 (upd (D1 5) s0 (-1))) K A Y
        else
          G_143 nn gg C me f u b mk pt k (i + 1) y3 (va_up (va_up D1 2 (va_cpy (D1 3) (D1 2) (i * 128) (s0 * 128) 128)) 5 (upd (D1 5) s0 (-1))) K A Y))
def F_143 (nn gg : Nat) (C me : Int32) (f u b : Nat → Int32) (D : Nat → Nat → Int32) (K A : Int64) (Y : List Mg) (mk pt : Int32) : St :=
  bnN ((D 1 4).toNatClampNeg) (fun c =>
    G_143 nn gg C me f u b mk pt c 0 0 D K A Y)
set_option maxRecDepth 100000 in
theorem s_143 {L : Nat} {xs : Nat → Int32} {fr lo : Nat} {Z : ZT} {n nd nn gg : Nat} {C me : Int32} {f : Nat → Int32} {q : Nat} {u b : Nat → Int32} {uv : Int32} {h0 h : ax_H} {D : Nat → Nat → Int32} {K A : Int64} {Y : List Mg} {mk pt up0 : Int32} (hfr : 2 ≤ fr) (hlo : 70 ≤ lo) (hC : CS n nd nn gg f) (hS : NS Z n nd nn gg C me f q u b uv h0 h D K A Y) (hD : DI Z up0 (D 1 4) (D 2) (D 3) (D 4) (D 5) (D 6)) : ax_M L xs 143 fr lo [.ref (nd + 1), .int mk, .int pt] h (fun r h' => r = none ∧ ∃ (D' : Nat → Nat → Int32) (K' A' : Int64) (Y' : List Mg), NS Z n nd nn gg C me f q u b uv h0 h' D' K' A' Y' ∧ (D', K', A', Y') = F_143 nn gg C me f u b D K A Y mk pt ∧ (∀ c, c ≠ 1 → c ≠ 2 → c ≠ 5 → D' c = D c) ∧ D' 1 4 = 0 ∧ (∀ s, s < 280 → D' 5 s = -1) ∧ (∀ s, s < 280 → whB (D' 2) s → gd Z (D' 2) (s * 128))) := by
  obtain ⟨⟨c, hc, ec, d1, d2⟩, d3, -, -⟩ := hD
  obtain ⟨p, hp, ep⟩ := clI512 pt
  have key : ∀ (k i : Nat) (y3 : Int32) (h : ax_H) (D1 : Nat → Nat → Int32) (K A : Int64) (Y : List Mg), i + k = c → NS Z n nd nn gg C me f q u b uv h0 h D1 K A Y → (∀ c, c ≠ 2 → c ≠ 5 → D1 c = D c) → FI_ Z (D 4) (D 2) (D 5) i (D1 2) (D1 5) → ax_A (ax_step L xs) ((143, 5, fr, lo), [(0, .ref (nd + 1)), (1, .int mk), (2, .int pt), (3, .int y3), (4, .int (nI i))], [], h) (fun r h' => r = none ∧ ∃ (D' : Nat → Nat → Int32) (K' A' : Int64) (Y' : List Mg), NS Z n nd nn gg C me f q u b uv h0 h' D' K' A' Y' ∧ (D', K', A', Y') = G_143 nn gg C me f u b mk pt k i y3 D1 K A Y ∧ (∀ c, c ≠ 1 → c ≠ 2 → c ≠ 5 → D' c = D c) ∧ D' 1 4 = 0 ∧ (∀ s, s < 280 → D' 5 s = -1) ∧ (∀ s, s < 280 → whB (D' 2) s → gd Z (D' 2) (s * 128))) := by
    intro k
    induction k with
    | zero =>
      intro i y3 h D1 K A Y hi hS hR hJ
      have e0 : i = c := by omega
      subst e0
      obtain ⟨hnd, hn0, hnn3, hnn, hgg1, hgg, hRg⟩ := hC
      obtain ⟨hF, hN, hf, hn, hs, hp0, hu0⟩ := hS
      replace hF : ax_hs h [cNd n nd me D1, cDk nd D1, cAr nd 2 35840 D1, cAr nd 3 4096 D1, cAr nd 4 32 D1, cAr nd 5 280 D1, cAr nd 6 280 D1, cLd n nd me D1 A, cAr nd 8 16 D1, cAr nd 9 280 D1, cTb nd gg D1 K, cAr nd 11 48 D1, cAr nd 12 48 D1, cAr nd 13 48 D1, cAr nd 14 2400 D1, cAr nd 15 512 D1, cAr nd 16 961 D1, cAr nd 17 961 D1, cWk nd D1, cWa nd D1, cAr nd 20 612 D1, cAr nd 21 1152 D1, cRk n nn gg C, cOr n nn gg f] := hF
      refine ar_iload 7 d_143_5 rfl rfl ?_
      refine ar_aload_n 8 d_143_7 rfl rfl ?_
      refine ar_getf 11 d_143_8 rfl (ci := 8) (k := 4) rfl (hF.at 1 rfl) rfl ?_
      refine ar_icmp_ge 121 14 d_143_11 (by decide) rfl (fun _ => ?_) (fun c => absurd (by rw [hR 1 (by decide) (by decide), ec]; exact Int32.le_refl _) c)
      refine ar_aload_n 122 d_143_121 rfl rfl ?_
      refine ar_iconst 123 (v := 0) d_143_122 rfl (by decide) ?_
      refine ar_putf 126 [.ref (nd + 2), .ref (nd + 3), .ref (nd + 4), .ref (nd + 5), .int 0] d_143_123 rfl (ci := 8) (k := 4) rfl rfl (hF.at 1 rfl) (Nat.le_of_ble_eq_true rfl) rfl rfl rfl ?_
      replace hF : ax_hs (ax_put h (nd + 1) (.inr (8, [.ref (nd + 2), .ref (nd + 3), .ref (nd + 4), .ref (nd + 5), .int 0]))) [cNd n nd me D1, (nd + 1, .inr (8, [.ref (nd + 2), .ref (nd + 3), .ref (nd + 4), .ref (nd + 5), .int 0])), cAr nd 2 35840 D1, cAr nd 3 4096 D1, cAr nd 4 32 D1, cAr nd 5 280 D1, cAr nd 6 280 D1, cLd n nd me D1 A, cAr nd 8 16 D1, cAr nd 9 280 D1, cTb nd gg D1 K, cAr nd 11 48 D1, cAr nd 12 48 D1, cAr nd 13 48 D1, cAr nd 14 2400 D1, cAr nd 15 512 D1, cAr nd 16 961 D1, cAr nd 17 961 D1, cWk nd D1, cWa nd D1, cAr nd 20 612 D1, cAr nd 21 1152 D1, cRk n nn gg C, cOr n nn gg f] := hF.put 1 _ rfl rfl
      replace hf := hf.put (a := nd + 1) (c := .inr (8, [.ref (nd + 2), .ref (nd + 3), .ref (nd + 4), .ref (nd + 5), .int 0])) (Or.inr (by omega))
      replace hN := hN.put (a := nd + 1) (c := .inr (8, [.ref (nd + 2), .ref (nd + 3), .ref (nd + 4), .ref (nd + 5), .int 0])) (by omega)
      replace hn : (ax_put h (nd + 1) (.inr (8, [.ref (nd + 2), .ref (nd + 3), .ref (nd + 4), .ref (nd + 5), .int 0]))).1 = h0.1 := hn
      replace hs : (ax_put h (nd + 1) (.inr (8, [.ref (nd + 2), .ref (nd + 3), .ref (nd + 4), .ref (nd + 5), .int 0]))).2.1 = h0.2.1 := hs
      generalize ax_put h (nd + 1) (.inr (8, [.ref (nd + 2), .ref (nd + 3), .ref (nd + 4), .ref (nd + 5), .int 0])) = hp_1 at hF hf hN hn hs ⊢
      have hS9 : NS Z n nd nn gg C me f q u b uv h0 hp_1 (va_up D1 1 (upd (D1 1) 4 0)) K A Y := ⟨hF, hN, hf, hn, hs, hp0, hu0⟩
      have hall : ∀ s, s < 280 → (∃ j, j < i ∧ D 4 j = nI s) ∨ ((∀ j, j < i → ¬ D 4 j = nI s) ∧ D 5 s = -1) := fun s hs => by
        rcases d2 s hs with e | ⟨j, a1, a2, a3⟩
        · refine Or.inr ⟨fun j hj z => ?_, e⟩
          obtain ⟨s2, b1, b2, b3, -⟩ := d1 j hj
          rw [nI_inj (show s2 < 2 ^ 31 by omega) (by omega) (b2.symm.trans z), e] at b3
          exact nIm (by omega) b3.symm
        · exact Or.inl ⟨j, a1, a3⟩
      refine ar_ret d_143_126 rfl (⟨rfl, _, _, _, _, hS9, rfl, fun c h1 h2 h3 => (show _ = D1 c from if_neg h1).trans (hR c h2 h3), rfl, fun s hs => ?_, fun s hs hw => ?_⟩)
      · rcases hall s hs with e | ⟨e1, e2⟩
        · exact (hJ.1 s hs e).1
        · exact (hJ.2 s hs e1).1.trans e2
      · rcases hall s hs with e | ⟨e1, e2⟩
        · exact (hJ.1 s hs e).2 hw
        · have q := (hJ.2 s hs e1).2
          exact (d3 s hs (whB.cg q hw)).cg (q 1 (by omega)) (q 15 (by omega)) (q 16 (by omega))
    | succ k ih =>
      intro i y3 h D1 K A Y hi hS hR hJ
      have hic : i < c := by omega
      obtain ⟨s0, hs0, e4, e5, a4, -, a6⟩ := d1 i hic
      have r4 : D1 4 = D 4 := hR 4 (by decide) (by decide)
      have r3 : D1 3 = D 3 := hR 3 (by decide) (by decide)
      have hinj : ∀ j, j < i → ¬ D 4 j = nI s0 := fun j hj z => by
        obtain ⟨s2, b1, b2, b3, -⟩ := d1 j (by omega)
        rw [nI_inj (show s2 < 2 ^ 31 by omega) (by omega) (b2.symm.trans z), e5] at b3
        exact absurd (nI_inj (by omega) (by omega) b3) (by omega)
      obtain ⟨hnd, hn0, hnn3, hnn, hgg1, hgg, hRg⟩ := hC
      obtain ⟨hF, hN, hf, hn, hs, hp0, hu0⟩ := hS
      replace hF : ax_hs h [cNd n nd me D1, cDk nd D1, cAr nd 2 35840 D1, cAr nd 3 4096 D1, cAr nd 4 32 D1, cAr nd 5 280 D1, cAr nd 6 280 D1, cLd n nd me D1 A, cAr nd 8 16 D1, cAr nd 9 280 D1, cTb nd gg D1 K, cAr nd 11 48 D1, cAr nd 12 48 D1, cAr nd 13 48 D1, cAr nd 14 2400 D1, cAr nd 15 512 D1, cAr nd 16 961 D1, cAr nd 17 961 D1, cWk nd D1, cWa nd D1, cAr nd 20 612 D1, cAr nd 21 1152 D1, cRk n nn gg C, cOr n nn gg f] := hF
      refine ar_iload 7 d_143_5 rfl rfl ?_
      refine ar_aload_n 8 d_143_7 rfl rfl ?_
      refine ar_getf 11 d_143_8 rfl (ci := 8) (k := 4) rfl (hF.at 1 rfl) rfl ?_
      refine ar_icmp_ge 121 14 d_143_11 (by decide) rfl (fun c => absurd c (by rw [hR 1 (by decide) (by decide), ec]; exact nI_ge hic (by omega))) (fun _ => ?_)
      refine ar_aload_n 15 d_143_14 rfl rfl ?_
      refine ar_getf 18 d_143_15 rfl (ci := 8) (k := 2) rfl (hF.at 1 rfl) rfl ?_
      refine ar_iload 20 d_143_18 rfl rfl ?_
      refine ar_ialdN 21 (e := i) d_143_20 rfl (hF.at 4 rfl) (by omega) (by omega) ?_
      refine ar_top (x' := nI s0) (by rw [r4]; exact e4) ?_
      refine ar_sipush 24 (v := 128) d_143_21 rfl (by decide) ?_
      refine ar_imul 25 d_143_24 rfl ?_
      refine ar_top (x' := nI (s0 * 128)) (pk_mul _ 128) ?_
      refine ar_istore 27 [(0, .ref (nd + 1)), (1, .int mk), (2, .int pt), (3, .int y3), (4, .int (nI i)), (5, .int (nI (s0 * 128)))] d_143_25 rfl (by decide) rfl ?_
      refine ar_iload_n 28 d_143_27 rfl rfl ?_
      refine ar_iload 30 d_143_28 rfl rfl ?_
      refine ar_bipush 32 (v := 31) d_143_30 rfl (by decide) ?_
      refine ar_iand 33 d_143_32 rfl ?_
      refine ar_iushr 34 d_143_33 rfl ?_
      refine ar_iconst 35 (v := 1) d_143_34 rfl (by decide) ?_
      refine ar_iand 36 d_143_35 rfl ?_
      refine ar_if_eq 64 39 d_143_36 (by decide) rfl (fun cc2 => ?_) (fun cc2 => ?_)
      · refine ar_iload_n 65 d_143_64 rfl rfl ?_
        refine ar_if_ne 102 68 d_143_65 (by decide) rfl (fun cc3 => ?_) (fun cc3 => ?_)
        · refine ar_aload_n 103 d_143_102 rfl rfl ?_
          refine ar_getf 106 d_143_103 rfl (ci := 8) (k := 3) rfl (hF.at 1 rfl) rfl ?_
          refine ar_aload_n 107 d_143_106 rfl rfl ?_
          refine ar_getf 110 d_143_107 rfl (ci := 8) (k := 2) rfl (hF.at 1 rfl) rfl ?_
          refine ar_iload 112 d_143_110 rfl rfl ?_
          refine ar_ialdN 113 (e := i) d_143_112 rfl (hF.at 4 rfl) (by omega) (by omega) ?_
          refine ar_top (x' := nI s0) (by rw [r4]; exact e4) ?_
          refine ar_iconst 114 (v := -1) d_143_113 rfl (by decide) ?_
          refine ar_iastN 115 (e := s0) d_143_114 rfl (hF.at 5 rfl) (by omega) (by omega) ?_
          replace hF : ax_hs (ax_put h (nd + 5) (.inl (0, 280, .inl (upd (D1 5) s0 (-1))))) [cNd n nd me D1, cDk nd D1, cAr nd 2 35840 D1, cAr nd 3 4096 D1, cAr nd 4 32 D1, (nd + 5, .inl (0, 280, .inl (upd (D1 5) s0 (-1)))), cAr nd 6 280 D1, cLd n nd me D1 A, cAr nd 8 16 D1, cAr nd 9 280 D1, cTb nd gg D1 K, cAr nd 11 48 D1, cAr nd 12 48 D1, cAr nd 13 48 D1, cAr nd 14 2400 D1, cAr nd 15 512 D1, cAr nd 16 961 D1, cAr nd 17 961 D1, cWk nd D1, cWa nd D1, cAr nd 20 612 D1, cAr nd 21 1152 D1, cRk n nn gg C, cOr n nn gg f] := hF.put 5 _ rfl rfl
          replace hf := hf.put (a := nd + 5) (c := .inl (0, 280, .inl (upd (D1 5) s0 (-1)))) (Or.inr (by omega))
          replace hN := hN.put (a := nd + 5) (c := .inl (0, 280, .inl (upd (D1 5) s0 (-1)))) (by omega)
          replace hn : (ax_put h (nd + 5) (.inl (0, 280, .inl (upd (D1 5) s0 (-1))))).1 = h0.1 := hn
          replace hs : (ax_put h (nd + 5) (.inl (0, 280, .inl (upd (D1 5) s0 (-1))))).2.1 = h0.2.1 := hs
          generalize ax_put h (nd + 5) (.inl (0, 280, .inl (upd (D1 5) s0 (-1)))) = hp_4 at hF hf hN hn hs ⊢
          refine ar_iinc 118 [(0, .ref (nd + 1)), (1, .int mk), (2, .int pt), (3, .int y3), (4, .int (nI (i + 1))), (5, .int (nI (s0 * 128)))] d_143_115 rfl rfl (nI_1 i) (by decide) rfl ?_
          refine ar_goto 5 d_143_118 (by decide) ?_
          refine ar_wk [0, 1, 2, 3, 4] rfl (by simp) ?_
          have hS1 : NS Z n nd nn gg C me f q u b uv h0 hp_4 (va_up D1 5 (upd (D1 5) s0 (-1))) K A Y := ⟨hF, hN, hf, hn, hs, hp0, hu0⟩
          rw [← show G_143 nn gg C me f u b mk pt k (i + 1) y3 (va_up D1 5 (upd (D1 5) s0 (-1))) K A Y = G_143 nn gg C me f u b mk pt (k + 1) i y3 D1 K A Y from bnN_eq (cl_eq hs0 (by rw [r4]; exact e4)) (bnN_eq (cl_eq (show p < 513 by omega) ep) (eq_ifT cc2 (eq_ifT cc3 (rfl))))]
          exact ih (i + 1) y3 hp_4 (va_up D1 5 (upd (D1 5) s0 (-1))) K A Y (by omega) hS1 (fun c h1 h2 => (show _ = D1 c from if_neg h2).trans (hR c h1 h2)) (hJ.skip hs0 e4 hinj (d3 s0 hs0))
        · refine ar_iconst 69 (v := 1) d_143_68 rfl (by decide) ?_
          refine ar_istore_n 70 [(0, .ref (nd + 1)), (1, .int mk), (2, .int pt), (3, .int 1), (4, .int (nI i)), (5, .int (nI (s0 * 128)))] d_143_69 rfl (by decide) rfl ?_
          refine ar_aload_n 71 d_143_70 rfl rfl ?_
          refine ar_getf 74 d_143_71 rfl (ci := 8) (k := 1) rfl (hF.at 1 rfl) rfl ?_
          refine ar_iload 76 d_143_74 rfl rfl ?_
          refine ar_sipush 79 (v := 512) d_143_76 rfl (by decide) ?_
          refine ar_imul 80 d_143_79 rfl ?_
          refine ar_top (x' := nI (i * 512)) (pk_mul _ 512) ?_
          refine ar_aload_n 81 d_143_80 rfl rfl ?_
          refine ar_getf 84 d_143_81 rfl (ci := 8) (k := 0) rfl (hF.at 1 rfl) rfl ?_
          refine ar_iload 86 d_143_84 rfl rfl ?_
          refine ar_iconst 87 (v := 4) d_143_86 rfl (by decide) ?_
          refine ar_imul 88 d_143_87 rfl ?_
          refine ar_top (x' := nI (s0 * 512)) ((pk_mul (s0 * 128) 4).trans (congrArg nI (by omega))) ?_
          refine ar_iconst 89 (v := 0) d_143_88 rfl (by decide) ?_
          refine ar_sipush 92 (v := 512) d_143_89 rfl (by decide) ?_
          refine ar_iload_n 93 d_143_92 rfl rfl ?_
          refine ar_min 96 d_143_93 rfl rfl (by omega) (by show 5 + 13 ≤ lo; omega) (w := if pt < 512 then pt else 512) (rfl) ?_
          refine ar_max 99 d_143_96 rfl rfl (by omega) (by show 4 + 13 ≤ lo; omega) (w := nI p) (ep) ?_
          refine ar_call (r := []) (na := 0) (kd := 0) (cm := 43) (fr2 := fr - 1) (lo2 := lo - 27) 102 d_143_99 (ar_hoS (as := [.ref (nd + 3), .int (nI (i * 512)), .ref (nd + 2), .int (nI (s0 * 512)), .int (nI p)]) rfl rfl rfl) rfl (by omega) (show lo - 27 + (19 + 8) = lo by omega) (Nat.le_of_ble_eq_true rfl) (Nat.le_of_ble_eq_true rfl) (c_43 (i := i * 512) (j := s0 * 512) (n0 := p) (by omega) (by omega) (by decide) (by decide) (by omega) (by omega) (hF.sub (F' := [cAr nd 3 4096 D1, cAr nd 2 35840 D1]) [3, 2] rfl rfl) rfl rfl (by omega)) ?_
          intro v hp_5 hq
          obtain ⟨rfl, qF, qn, qs, qf⟩ := hq
          have qF : ax_hs hp_5 [cAr nd 3 4096 D1, (nd + 2, .inl (0, 35840, .inl (mvF (D1 3) (i * 512) (s0 * 512) p (D1 2))))] := qF
          replace hF : ax_hs hp_5 [cNd n nd me D1, cDk nd D1, cAr nd 4 32 D1, cAr nd 5 280 D1, cAr nd 6 280 D1, cLd n nd me D1 A, cAr nd 8 16 D1, cAr nd 9 280 D1, cTb nd gg D1 K, cAr nd 11 48 D1, cAr nd 12 48 D1, cAr nd 13 48 D1, cAr nd 14 2400 D1, cAr nd 15 512 D1, cAr nd 16 961 D1, cAr nd 17 961 D1, cWk nd D1, cWa nd D1, cAr nd 20 612 D1, cAr nd 21 1152 D1, cRk n nn gg C, cOr n nn gg f, cAr nd 3 4096 D1, (nd + 2, .inl (0, 35840, .inl (mvF (D1 3) (i * 512) (s0 * 512) p (D1 2))))] := ax_hs.call (rest := [cNd n nd me D1, cDk nd D1, cAr nd 4 32 D1, cAr nd 5 280 D1, cAr nd 6 280 D1, cLd n nd me D1 A, cAr nd 8 16 D1, cAr nd 9 280 D1, cTb nd gg D1 K, cAr nd 11 48 D1, cAr nd 12 48 D1, cAr nd 13 48 D1, cAr nd 14 2400 D1, cAr nd 15 512 D1, cAr nd 16 961 D1, cAr nd 17 961 D1, cWk nd D1, cWa nd D1, cAr nd 20 612 D1, cAr nd 21 1152 D1, cRk n nn gg C, cOr n nn gg f]) [3, 2] [0, 1, 4, 5, 6, 7, 8, 9, 10, 11, 12, 13, 14, 15, 16, 17, 18, 19, 20, 21, 22, 23] hF qf qF rfl rfl rfl [2] rfl rfl [3, 2] (news := []) rfl rfl (fun _ z => absurd z List.not_mem_nil) rfl
          replace hF := hF.sub (F' := [cNd n nd me D1, cDk nd D1, (nd + 2, .inl (0, 35840, .inl (mvF (D1 3) (i * 512) (s0 * 512) p (D1 2)))), cAr nd 3 4096 D1, cAr nd 4 32 D1, cAr nd 5 280 D1, cAr nd 6 280 D1, cLd n nd me D1 A, cAr nd 8 16 D1, cAr nd 9 280 D1, cTb nd gg D1 K, cAr nd 11 48 D1, cAr nd 12 48 D1, cAr nd 13 48 D1, cAr nd 14 2400 D1, cAr nd 15 512 D1, cAr nd 16 961 D1, cAr nd 17 961 D1, cWk nd D1, cWa nd D1, cAr nd 20 612 D1, cAr nd 21 1152 D1, cRk n nn gg C, cOr n nn gg f]) [0, 1, 23, 22, 2, 3, 4, 5, 6, 7, 8, 9, 10, 11, 12, 13, 14, 15, 16, 17, 18, 19, 20, 21] rfl rfl
          replace hN := hN.fr qf (fun x hx z => by simp only [List.mem_cons, List.not_mem_nil, or_false] at z; unfold NTA at hx; omega)
          replace hf := hf.trC qf (fun x _ z => Or.inr (by simp only [List.mem_cons, List.not_mem_nil, or_false] at z; omega))
          replace hn : hp_5.1 = h0.1 := by omega
          replace hs : hp_5.2.1 = h0.2.1 := by omega
          clear qF qn qs qf
          refine ar_aload_n 103 d_143_102 rfl rfl ?_
          refine ar_getf 106 d_143_103 rfl (ci := 8) (k := 3) rfl (hF.at 1 rfl) rfl ?_
          refine ar_aload_n 107 d_143_106 rfl rfl ?_
          refine ar_getf 110 d_143_107 rfl (ci := 8) (k := 2) rfl (hF.at 1 rfl) rfl ?_
          refine ar_iload 112 d_143_110 rfl rfl ?_
          refine ar_ialdN 113 (e := i) d_143_112 rfl (hF.at 4 rfl) (by omega) (by omega) ?_
          refine ar_top (x' := nI s0) (by rw [r4]; exact e4) ?_
          refine ar_iconst 114 (v := -1) d_143_113 rfl (by decide) ?_
          refine ar_iastN 115 (e := s0) d_143_114 rfl (hF.at 5 rfl) (by omega) (by omega) ?_
          replace hF : ax_hs (ax_put hp_5 (nd + 5) (.inl (0, 280, .inl (upd (D1 5) s0 (-1))))) [cNd n nd me D1, cDk nd D1, (nd + 2, .inl (0, 35840, .inl (mvF (D1 3) (i * 512) (s0 * 512) p (D1 2)))), cAr nd 3 4096 D1, cAr nd 4 32 D1, (nd + 5, .inl (0, 280, .inl (upd (D1 5) s0 (-1)))), cAr nd 6 280 D1, cLd n nd me D1 A, cAr nd 8 16 D1, cAr nd 9 280 D1, cTb nd gg D1 K, cAr nd 11 48 D1, cAr nd 12 48 D1, cAr nd 13 48 D1, cAr nd 14 2400 D1, cAr nd 15 512 D1, cAr nd 16 961 D1, cAr nd 17 961 D1, cWk nd D1, cWa nd D1, cAr nd 20 612 D1, cAr nd 21 1152 D1, cRk n nn gg C, cOr n nn gg f] := hF.put 5 _ rfl rfl
          replace hf := hf.put (a := nd + 5) (c := .inl (0, 280, .inl (upd (D1 5) s0 (-1)))) (Or.inr (by omega))
          replace hN := hN.put (a := nd + 5) (c := .inl (0, 280, .inl (upd (D1 5) s0 (-1)))) (by omega)
          replace hn : (ax_put hp_5 (nd + 5) (.inl (0, 280, .inl (upd (D1 5) s0 (-1))))).1 = h0.1 := hn
          replace hs : (ax_put hp_5 (nd + 5) (.inl (0, 280, .inl (upd (D1 5) s0 (-1))))).2.1 = h0.2.1 := hs
          generalize ax_put hp_5 (nd + 5) (.inl (0, 280, .inl (upd (D1 5) s0 (-1)))) = hp_6 at hF hf hN hn hs ⊢
          refine ar_iinc 118 [(0, .ref (nd + 1)), (1, .int mk), (2, .int pt), (3, .int 1), (4, .int (nI (i + 1))), (5, .int (nI (s0 * 128)))] d_143_115 rfl rfl (nI_1 i) (by decide) rfl ?_
          refine ar_goto 5 d_143_118 (by decide) ?_
          refine ar_wk [0, 1, 2, 3, 4] rfl (by simp) ?_
          have hS1 : NS Z n nd nn gg C me f q u b uv h0 hp_6 (va_up (va_up D1 2 (mvF (D1 3) (i * 512) (s0 * 512) p (D1 2))) 5 (upd (D1 5) s0 (-1))) K A Y := ⟨hF, hN, hf, hn, hs, hp0, hu0⟩
          rw [← show G_143 nn gg C me f u b mk pt k (i + 1) 1 (va_up (va_up D1 2 (mvF (D1 3) (i * 512) (s0 * 512) p (D1 2))) 5 (upd (D1 5) s0 (-1))) K A Y = G_143 nn gg C me f u b mk pt (k + 1) i y3 D1 K A Y from bnN_eq (cl_eq hs0 (by rw [r4]; exact e4)) (bnN_eq (cl_eq (show p < 513 by omega) ep) (eq_ifT cc2 (eq_ifF cc3 (rfl))))]
          exact ih (i + 1) 1 hp_6 (va_up (va_up D1 2 (mvF (D1 3) (i * 512) (s0 * 512) p (D1 2))) 5 (upd (D1 5) s0 (-1))) K A Y (by omega) hS1 (fun c h1 h2 => (show _ = D1 c from (if_neg h2).trans (if_neg h1)).trans (hR c h1 h2)) (hJ.tear hs0 (by omega) e4 hinj (d3 s0 hs0) (by rw [r3]; exact a4) (by rw [r3]; exact a6) hp)
      · refine ar_aload_n 40 d_143_39 rfl rfl ?_
        refine ar_getf 43 d_143_40 rfl (ci := 8) (k := 1) rfl (hF.at 1 rfl) rfl ?_
        refine ar_iload 45 d_143_43 rfl rfl ?_
        refine ar_sipush 48 (v := 128) d_143_45 rfl (by decide) ?_
        refine ar_imul 49 d_143_48 rfl ?_
        refine ar_top (x' := nI (i * 128)) (pk_mul _ 128) ?_
        refine ar_aload_n 50 d_143_49 rfl rfl ?_
        refine ar_getf 53 d_143_50 rfl (ci := 8) (k := 0) rfl (hF.at 1 rfl) rfl ?_
        refine ar_iload 55 d_143_53 rfl rfl ?_
        refine ar_sipush 58 (v := 128) d_143_55 rfl (by decide) ?_
        refine ar_copy 61 d_143_58 rfl rfl (by omega) (by show 0 + (nativeFrameWords "java/lang/System" "arraycopy" 5 + 11) ≤ lo; rw [nfw_copy]; omega) (hF.at 3 rfl) (hF.at 2 rfl) (Int32.not_lt.mpr (nI_le (Nat.zero_le _) (by omega))) (Int32.not_lt.mpr (nI_le (Nat.zero_le _) (by omega))) (by decide) (by rw [nI_clamp (by omega)]; show i * 128 + 128 ≤ 4096; omega) (by rw [nI_clamp (by omega)]; show s0 * 128 + 128 ≤ 35840; omega) ?_
        replace hF : ax_hs (ax_put h (nd + 2) (.inl (0, 35840, .inl (va_cpy (D1 3) (D1 2) ((nI (i * 128)).toNatClampNeg) ((nI (s0 * 128)).toNatClampNeg) ((128 : Int32).toNatClampNeg))))) [cNd n nd me D1, cDk nd D1, (nd + 2, .inl (0, 35840, .inl (va_cpy (D1 3) (D1 2) ((nI (i * 128)).toNatClampNeg) ((nI (s0 * 128)).toNatClampNeg) ((128 : Int32).toNatClampNeg)))), cAr nd 3 4096 D1, cAr nd 4 32 D1, cAr nd 5 280 D1, cAr nd 6 280 D1, cLd n nd me D1 A, cAr nd 8 16 D1, cAr nd 9 280 D1, cTb nd gg D1 K, cAr nd 11 48 D1, cAr nd 12 48 D1, cAr nd 13 48 D1, cAr nd 14 2400 D1, cAr nd 15 512 D1, cAr nd 16 961 D1, cAr nd 17 961 D1, cWk nd D1, cWa nd D1, cAr nd 20 612 D1, cAr nd 21 1152 D1, cRk n nn gg C, cOr n nn gg f] := hF.put 2 _ rfl rfl
        replace hf := hf.put (a := nd + 2) (c := .inl (0, 35840, .inl (va_cpy (D1 3) (D1 2) ((nI (i * 128)).toNatClampNeg) ((nI (s0 * 128)).toNatClampNeg) ((128 : Int32).toNatClampNeg)))) (Or.inr (by omega))
        replace hN := hN.put (a := nd + 2) (c := .inl (0, 35840, .inl (va_cpy (D1 3) (D1 2) ((nI (i * 128)).toNatClampNeg) ((nI (s0 * 128)).toNatClampNeg) ((128 : Int32).toNatClampNeg)))) (by omega)
        replace hn : (ax_put h (nd + 2) (.inl (0, 35840, .inl (va_cpy (D1 3) (D1 2) ((nI (i * 128)).toNatClampNeg) ((nI (s0 * 128)).toNatClampNeg) ((128 : Int32).toNatClampNeg))))).1 = h0.1 := hn
        replace hs : (ax_put h (nd + 2) (.inl (0, 35840, .inl (va_cpy (D1 3) (D1 2) ((nI (i * 128)).toNatClampNeg) ((nI (s0 * 128)).toNatClampNeg) ((128 : Int32).toNatClampNeg))))).2.1 = h0.2.1 := hs
        generalize ax_put h (nd + 2) (.inl (0, 35840, .inl (va_cpy (D1 3) (D1 2) ((nI (i * 128)).toNatClampNeg) ((nI (s0 * 128)).toNatClampNeg) ((128 : Int32).toNatClampNeg)))) = hp_7 at hF hf hN hn hs ⊢
        replace hF : ax_hs hp_7 [cNd n nd me D1, cDk nd D1, (nd + 2, .inl (0, 35840, .inl (va_cpy (D1 3) (D1 2) (i * 128) (s0 * 128) 128))), cAr nd 3 4096 D1, cAr nd 4 32 D1, cAr nd 5 280 D1, cAr nd 6 280 D1, cLd n nd me D1 A, cAr nd 8 16 D1, cAr nd 9 280 D1, cTb nd gg D1 K, cAr nd 11 48 D1, cAr nd 12 48 D1, cAr nd 13 48 D1, cAr nd 14 2400 D1, cAr nd 15 512 D1, cAr nd 16 961 D1, cAr nd 17 961 D1, cWk nd D1, cWa nd D1, cAr nd 20 612 D1, cAr nd 21 1152 D1, cRk n nn gg C, cOr n nn gg f] := by
          have e := hF
          rw [nI_clamp (show i * 128 < 2 ^ 31 by omega), nI_clamp (show s0 * 128 < 2 ^ 31 by omega)] at e
          exact e
        refine ar_goto 102 d_143_61 (by decide) ?_
        refine ar_aload_n 103 d_143_102 rfl rfl ?_
        refine ar_getf 106 d_143_103 rfl (ci := 8) (k := 3) rfl (hF.at 1 rfl) rfl ?_
        refine ar_aload_n 107 d_143_106 rfl rfl ?_
        refine ar_getf 110 d_143_107 rfl (ci := 8) (k := 2) rfl (hF.at 1 rfl) rfl ?_
        refine ar_iload 112 d_143_110 rfl rfl ?_
        refine ar_ialdN 113 (e := i) d_143_112 rfl (hF.at 4 rfl) (by omega) (by omega) ?_
        refine ar_top (x' := nI s0) (by rw [r4]; exact e4) ?_
        refine ar_iconst 114 (v := -1) d_143_113 rfl (by decide) ?_
        refine ar_iastN 115 (e := s0) d_143_114 rfl (hF.at 5 rfl) (by omega) (by omega) ?_
        replace hF : ax_hs (ax_put hp_7 (nd + 5) (.inl (0, 280, .inl (upd (D1 5) s0 (-1))))) [cNd n nd me D1, cDk nd D1, (nd + 2, .inl (0, 35840, .inl (va_cpy (D1 3) (D1 2) (i * 128) (s0 * 128) 128))), cAr nd 3 4096 D1, cAr nd 4 32 D1, (nd + 5, .inl (0, 280, .inl (upd (D1 5) s0 (-1)))), cAr nd 6 280 D1, cLd n nd me D1 A, cAr nd 8 16 D1, cAr nd 9 280 D1, cTb nd gg D1 K, cAr nd 11 48 D1, cAr nd 12 48 D1, cAr nd 13 48 D1, cAr nd 14 2400 D1, cAr nd 15 512 D1, cAr nd 16 961 D1, cAr nd 17 961 D1, cWk nd D1, cWa nd D1, cAr nd 20 612 D1, cAr nd 21 1152 D1, cRk n nn gg C, cOr n nn gg f] := hF.put 5 _ rfl rfl
        replace hf := hf.put (a := nd + 5) (c := .inl (0, 280, .inl (upd (D1 5) s0 (-1)))) (Or.inr (by omega))
        replace hN := hN.put (a := nd + 5) (c := .inl (0, 280, .inl (upd (D1 5) s0 (-1)))) (by omega)
        replace hn : (ax_put hp_7 (nd + 5) (.inl (0, 280, .inl (upd (D1 5) s0 (-1))))).1 = h0.1 := hn
        replace hs : (ax_put hp_7 (nd + 5) (.inl (0, 280, .inl (upd (D1 5) s0 (-1))))).2.1 = h0.2.1 := hs
        generalize ax_put hp_7 (nd + 5) (.inl (0, 280, .inl (upd (D1 5) s0 (-1)))) = hp_8 at hF hf hN hn hs ⊢
        refine ar_iinc 118 [(0, .ref (nd + 1)), (1, .int mk), (2, .int pt), (3, .int y3), (4, .int (nI (i + 1))), (5, .int (nI (s0 * 128)))] d_143_115 rfl rfl (nI_1 i) (by decide) rfl ?_
        refine ar_goto 5 d_143_118 (by decide) ?_
        refine ar_wk [0, 1, 2, 3, 4] rfl (by simp) ?_
        have hS1 : NS Z n nd nn gg C me f q u b uv h0 hp_8 (va_up (va_up D1 2 (va_cpy (D1 3) (D1 2) (i * 128) (s0 * 128) 128)) 5 (upd (D1 5) s0 (-1))) K A Y := ⟨hF, hN, hf, hn, hs, hp0, hu0⟩
        rw [← show G_143 nn gg C me f u b mk pt k (i + 1) y3 (va_up (va_up D1 2 (va_cpy (D1 3) (D1 2) (i * 128) (s0 * 128) 128)) 5 (upd (D1 5) s0 (-1))) K A Y = G_143 nn gg C me f u b mk pt (k + 1) i y3 D1 K A Y from bnN_eq (cl_eq hs0 (by rw [r4]; exact e4)) (bnN_eq (cl_eq (show p < 513 by omega) ep) (eq_ifF cc2 (rfl)))]
        exact ih (i + 1) y3 hp_8 (va_up (va_up D1 2 (va_cpy (D1 3) (D1 2) (i * 128) (s0 * 128) 128)) 5 (upd (D1 5) s0 (-1))) K A Y (by omega) hS1 (fun c h1 h2 => (show _ = D1 c from (if_neg h2).trans (if_neg h1)).trans (hR c h1 h2)) (hJ.cp hs0 e4 (by rw [r3]; exact a4))
  show ax_A (ax_step L xs) ((143, 0, fr, lo), [(0, .ref (nd + 1)), (1, .int mk), (2, .int pt)], [], h) _
  refine ar_iconst 1 (v := 0) d_143_0 rfl (by decide) ?_
  refine ar_istore_n 2 [(0, .ref (nd + 1)), (1, .int mk), (2, .int pt), (3, .int 0)] d_143_1 rfl (by decide) rfl ?_
  refine ar_iconst 3 (v := 0) d_143_2 rfl (by decide) ?_
  refine ar_istore 5 [(0, .ref (nd + 1)), (1, .int mk), (2, .int pt), (3, .int 0), (4, .int 0)] d_143_3 rfl (by decide) rfl ?_
  rw [← show G_143 nn gg C me f u b mk pt c 0 0 D K A Y = F_143 nn gg C me f u b D K A Y mk pt from bnN_eq (cl_eq (show c < 33 by omega) ec) (rfl)]
  exact key c 0 0 h D K A Y (by omega) hS (fun _ _ _ => rfl) ⟨fun s _ hj => by
    obtain ⟨j, hj, -⟩ := hj
    omega, fun s _ _ => ⟨rfl, fun _ _ => rfl⟩⟩
theorem sloB_or (tf : Nat → Int32) (t : Int32) : (sloB tf t = -1 ∧ (∀ l, l < 280 → ¬ tf l = t)) ∨ ∃ j : Nat, j < 280 ∧ sloB tf t = nI j ∧ tf j = t := by
  rcases fst1_spec (fun i => decide (tf i = t)) 280 0 with ⟨j, _, h2, h3, _, h5⟩ | ⟨h1, h2⟩
  · exact Or.inr ⟨j, by omega, h5, of_decide_eq_true h3⟩
  · exact Or.inl ⟨h2, fun l hl => of_decide_eq_false (h1 l (by omega) (by omega))⟩
theorem c_22E {L : Nat} {xs : Nat → Int32} {fr lo : Nat} {h : ax_H} {nd rk nt dk ld tg : Nat} {me up ne ns t : Int32} {tf : Nat → Int32} (hF : ax_hs h [(nd, .inr (7, [.int me, .ref rk, .ref nt, .ref dk, .ref ld, .ref tg, .int up, .int ne, .int ns])), (tg, .inl (0, 280, .inl tf))]) : ax_M L xs 22 fr lo [.ref nd, .int t] h (fun r h' => r = some (.int (sloB tf t)) ∧ h' = h) := c_22 hF
/-- Node.freeSlot -/
def freB (tf ow : Nat → Int32) : Int32 := fst1 (fun i => decide (tf i = -1 ∧ ow i < 0)) 280 0
theorem freB_or (tf ow : Nat → Int32) : freB tf ow = -1 ∨ ∃ j : Nat, j < 280 ∧ freB tf ow = nI j ∧ tf j = -1 ∧ ow j < 0 := by
  rcases fst1_ok (P := fun i => decide (tf i = -1 ∧ ow i < 0)) 280 with e | ⟨j, h1, h2, h3⟩
  · exact Or.inl e
  · exact Or.inr ⟨j, h1, h2, of_decide_eq_true h3⟩
theorem c_62E {L : Nat} {xs : Nat → Int32} {fr lo : Nat} {h : ax_H} {nd rk nt dk ld tg da db dc dd : Nat} {me up ne ns dn : Int32} {tf ow : Nat → Int32} (hfr : 1 ≤ fr) (hlo : 40 ≤ lo) (hF : ax_hs h [(nd, .inr (7, [.int me, .ref rk, .ref nt, .ref dk, .ref ld, .ref tg, .int up, .int ne, .int ns])), (dk, .inr (8, [.ref da, .ref db, .ref dc, .ref dd, .int dn])), (tg, .inl (0, 280, .inl tf)), (dd, .inl (0, 280, .inl ow))]) : ax_M L xs 62 fr lo [.ref nd] h (fun r h' => r = some (.int (freB tf ow)) ∧ h' = h) := c_62 hfr hlo hF

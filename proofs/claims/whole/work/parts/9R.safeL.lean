/-! NODES: wake, sleep, hear, work for every state -/

def F_18 (nn gg : Nat) (C me : Int32) (f u b : Nat → Int32) (D : Nat → Nat → Int32) (K A : Int64) (Y : List Mg) (e2 s2 : Int32) : St :=
  bnS (F_19 nn gg C me f u b (va_up D 0 (upd (D 0) 6 1)) K A Y) (fun D2 K2 A2 Y2 =>
    bnS (F_29 nn gg C me f u b D2 K2 A2 Y2 e2 s2) (fun D3 K3 A3 Y3 =>
      (D3, K3, A3, Y3)))
theorem s_18 {L : Nat} {xs : Nat → Int32} {fr lo : Nat} {Z : ZT} {n nd nn gg : Nat} {C me : Int32} {f : Nat → Int32} {q : Nat} {u b : Nat → Int32} {h0 h : ax_H} {D : Nat → Nat → Int32} {K A : Int64} {Y : List Mg} {e2 s2 : Int32} (hfr : 5 ≤ fr) (hlo : 150 ≤ lo) (hC : CS n nd nn gg f) (hS : NS Z n nd nn gg C me f q u b 0 h0 h D K A Y) (hI : NI Z nn D) : ax_M L xs 18 fr lo [.ref nd, .int e2, .int s2] h (fun r h' => r = none ∧ PS Z n nd nn gg C me f q u b 1 h0 h' (fun D' K' A' Y' => (D', K', A', Y') = F_18 nn gg C me f u b D K A Y e2 s2 ∧ True)) := by
  have hC0 := hC
  show ax_A (ax_step L xs) ((18, 0, fr, lo), [(0, .ref nd), (1, .int e2), (2, .int s2)], [], h) _
  obtain ⟨hnd, hn0, hnn3, hnn, hgg1, hgg, hRg⟩ := hC
  obtain ⟨hF, hN, hf, hn, hs, hp0, hu0⟩ := hS
  replace hF : ax_hs h [cNd n nd me D, cDk nd D, cAr nd 2 35840 D, cAr nd 3 4096 D, cAr nd 4 32 D, cAr nd 5 280 D, cAr nd 6 280 D, cLd n nd me D A, cAr nd 8 16 D, cAr nd 9 280 D, cTb nd gg D K, cAr nd 11 48 D, cAr nd 12 48 D, cAr nd 13 48 D, cAr nd 14 2400 D, cAr nd 15 512 D, cAr nd 16 961 D, cAr nd 17 961 D, cWk nd D, cWa nd D, cAr nd 20 612 D, cAr nd 21 1152 D, cRk n nn gg C, cOr n nn gg f] := hF
  have h5 : ∀ s, s < 280 → D 5 s < 0 := fun s hs => by
    obtain ⟨c1, h1, h2, -, h4⟩ := hI.1.1
    have h14 := (hI.1.2.2.2 hu0).1
    rcases h4 s hs with e | ⟨j, hj, -⟩
    · rw [e]
      decide
    · have : c1 = 0 := nI_inj (by omega) (by decide) (h2.symm.trans h14)
      omega
  refine ar_aload_n 1 d_18_0 rfl rfl ?_
  refine ar_iconst 2 (v := 1) d_18_1 rfl (by decide) ?_
  refine ar_putf 5 [.int me, .ref (n + 264), .ref n, .ref (nd + 1), .ref (nd + 7), .ref (nd + 6), .int 1, .int (D 0 7), .int (D 0 8)] d_18_2 rfl (ci := 7) (k := 6) rfl rfl (hF.at 0 rfl) (Nat.le_of_ble_eq_true rfl) rfl rfl rfl ?_
  replace hF : ax_hs (ax_put h nd (.inr (7, [.int me, .ref (n + 264), .ref n, .ref (nd + 1), .ref (nd + 7), .ref (nd + 6), .int 1, .int (D 0 7), .int (D 0 8)]))) [(nd, .inr (7, [.int me, .ref (n + 264), .ref n, .ref (nd + 1), .ref (nd + 7), .ref (nd + 6), .int 1, .int (D 0 7), .int (D 0 8)])), cDk nd D, cAr nd 2 35840 D, cAr nd 3 4096 D, cAr nd 4 32 D, cAr nd 5 280 D, cAr nd 6 280 D, cLd n nd me D A, cAr nd 8 16 D, cAr nd 9 280 D, cTb nd gg D K, cAr nd 11 48 D, cAr nd 12 48 D, cAr nd 13 48 D, cAr nd 14 2400 D, cAr nd 15 512 D, cAr nd 16 961 D, cAr nd 17 961 D, cWk nd D, cWa nd D, cAr nd 20 612 D, cAr nd 21 1152 D, cRk n nn gg C, cOr n nn gg f] := hF.put 0 _ rfl rfl
  replace hf := hf.put (a := nd) (c := .inr (7, [.int me, .ref (n + 264), .ref n, .ref (nd + 1), .ref (nd + 7), .ref (nd + 6), .int 1, .int (D 0 7), .int (D 0 8)])) (Or.inr (by omega))
  replace hN := hN.put (a := nd) (c := .inr (7, [.int me, .ref (n + 264), .ref n, .ref (nd + 1), .ref (nd + 7), .ref (nd + 6), .int 1, .int (D 0 7), .int (D 0 8)])) (by omega)
  replace hn : (ax_put h nd (.inr (7, [.int me, .ref (n + 264), .ref n, .ref (nd + 1), .ref (nd + 7), .ref (nd + 6), .int 1, .int (D 0 7), .int (D 0 8)]))).1 = h0.1 := hn
  replace hs : (ax_put h nd (.inr (7, [.int me, .ref (n + 264), .ref n, .ref (nd + 1), .ref (nd + 7), .ref (nd + 6), .int 1, .int (D 0 7), .int (D 0 8)]))).2.1 = h0.2.1 := hs
  generalize ax_put h nd (.inr (7, [.int me, .ref (n + 264), .ref n, .ref (nd + 1), .ref (nd + 7), .ref (nd + 6), .int 1, .int (D 0 7), .int (D 0 8)])) = hp_1 at hF hf hN hn hs ⊢
  refine ar_aload_n 6 d_18_5 rfl rfl ?_
  have hS1 : NS Z n nd nn gg C me f q u b 1 h0 hp_1 (va_up D 0 (upd (D 0) 6 1)) K A Y := ⟨hF, hN, hf, hn, hs, hp0, rfl⟩
  have hI1 : NI Z nn (va_up D 0 (upd (D 0) 6 1)) := ⟨⟨hI.1.1, hI.1.2.1, hI.1.2.2.1, fun z => absurd (show (1 : Int32) = 0 from z) (by decide)⟩, hI.2⟩
  refine ar_call (r := []) (na := 0) (kd := 0) (cm := 19) (fr2 := fr - 1) (lo2 := lo - 22) 9 d_18_6 (ar_hoV (as := []) rfl rfl rfl (hF.at 0 rfl)) rfl (by omega) (show lo - 22 + (19 + 3) = lo by omega) (Nat.le_of_ble_eq_true rfl) (Nat.le_of_ble_eq_true rfl) (s_19 (by omega) (by omega) hC0 hS1 hI1 (by decide) h5) ?_
  intro v hp_2 hq
  obtain ⟨rfl, D2, K2, A2, Y2, hS2, hI2, hE2, -⟩ := hq
  clear hS1 hI1 hF hN hf hn hs hp0 hu0
  obtain ⟨hF, hN, hf, hn, hs, hp0, hu0⟩ := hS2
  replace hF : ax_hs hp_2 [cNd n nd me D2, cDk nd D2, cAr nd 2 35840 D2, cAr nd 3 4096 D2, cAr nd 4 32 D2, cAr nd 5 280 D2, cAr nd 6 280 D2, cLd n nd me D2 A2, cAr nd 8 16 D2, cAr nd 9 280 D2, cTb nd gg D2 K2, cAr nd 11 48 D2, cAr nd 12 48 D2, cAr nd 13 48 D2, cAr nd 14 2400 D2, cAr nd 15 512 D2, cAr nd 16 961 D2, cAr nd 17 961 D2, cWk nd D2, cWa nd D2, cAr nd 20 612 D2, cAr nd 21 1152 D2, cRk n nn gg C, cOr n nn gg f] := hF
  have hI2 := hI2
  clear hI2
  refine ar_aload_n 10 d_18_9 rfl rfl ?_
  refine ar_iload_n 11 d_18_10 rfl rfl ?_
  refine ar_iload_n 12 d_18_11 rfl rfl ?_
  have hS1 : NS Z n nd nn gg C me f q u b 1 h0 hp_2 D2 K2 A2 Y2 := ⟨hF, hN, hf, hn, hs, hp0, hu0⟩
  have hI1 : NI Z nn D2 := hI2
  refine ar_call (r := []) (na := 0) (kd := 0) (cm := 29) (fr2 := fr - 1) (lo2 := lo - 22) 15 d_18_12 (ar_hoV (as := [.int e2, .int s2]) rfl rfl rfl (hF.at 0 rfl)) rfl (by omega) (show lo - 22 + (19 + 3) = lo by omega) (Nat.le_of_ble_eq_true rfl) (Nat.le_of_ble_eq_true rfl) (s_29 (by omega) (by omega) hC0 hS1 hI1) ?_
  intro v hp_3 hq
  obtain ⟨rfl, D3, K3, A3, Y3, hS2, hI2, hE3, -⟩ := hq
  clear hS1 hI1 hF hN hf hn hs hp0 hu0
  obtain ⟨hF, hN, hf, hn, hs, hp0, hu0⟩ := hS2
  replace hF : ax_hs hp_3 [cNd n nd me D3, cDk nd D3, cAr nd 2 35840 D3, cAr nd 3 4096 D3, cAr nd 4 32 D3, cAr nd 5 280 D3, cAr nd 6 280 D3, cLd n nd me D3 A3, cAr nd 8 16 D3, cAr nd 9 280 D3, cTb nd gg D3 K3, cAr nd 11 48 D3, cAr nd 12 48 D3, cAr nd 13 48 D3, cAr nd 14 2400 D3, cAr nd 15 512 D3, cAr nd 16 961 D3, cAr nd 17 961 D3, cWk nd D3, cWa nd D3, cAr nd 20 612 D3, cAr nd 21 1152 D3, cRk n nn gg C, cOr n nn gg f] := hF
  have hI3 := hI2
  clear hI2
  have hS9 : NS Z n nd nn gg C me f q u b 1 h0 hp_3 D3 K3 A3 Y3 := ⟨hF, hN, hf, hn, hs, hp0, hu0⟩
  have hI9 : NI Z nn D3 := hI3
  exact ar_ret d_18_15 rfl (⟨rfl, _, _, _, _, hS9, hI9, bnS_eq hE2 (bnS_eq hE3 (rfl)), trivial⟩)
def F_142 (nn gg : Nat) (C me : Int32) (f u b : Nat → Int32) (D : Nat → Nat → Int32) (K A : Int64) (Y : List Mg) (mk pt : Int32) : St :=
  bnS (F_143 nn gg C me f u b (va_up D 0 (upd (D 0) 6 0)) K A Y mk pt) (fun D2 K2 A2 Y2 =>
    bnS (F_33 nn gg C me f u b (va_up D2 6 (ax_fill (D2 6) 0 280 (-1))) K2 A2 Y2) (fun D4 K4 A4 Y4 =>
      (D4, K4, A4, Y4)))
set_option maxRecDepth 100000 in
theorem s_142 {L : Nat} {xs : Nat → Int32} {fr lo : Nat} {Z : ZT} {n nd nn gg : Nat} {C me : Int32} {f : Nat → Int32} {q : Nat} {u b : Nat → Int32} {uv : Int32} {h0 h : ax_H} {D : Nat → Nat → Int32} {K A : Int64} {Y : List Mg} {mk pt : Int32} (hfr : 4 ≤ fr) (hlo : 110 ≤ lo) (hC : CS n nd nn gg f) (hS : NS Z n nd nn gg C me f q u b uv h0 h D K A Y) (hI : NI Z nn D) : ax_M L xs 142 fr lo [.ref nd, .int mk, .int pt] h (fun r h' => r = none ∧ PS Z n nd nn gg C me f q u b 0 h0 h' (fun D' K' A' Y' => (D', K', A', Y') = F_142 nn gg C me f u b D K A Y mk pt ∧ True)) := by
  have hC0 := hC
  show ax_A (ax_step L xs) ((142, 0, fr, lo), [(0, .ref nd), (1, .int mk), (2, .int pt)], [], h) _
  obtain ⟨hnd, hn0, hnn3, hnn, hgg1, hgg, hRg⟩ := hC
  obtain ⟨hF, hN, hf, hn, hs, hp0, hu0⟩ := hS
  replace hF : ax_hs h [cNd n nd me D, cDk nd D, cAr nd 2 35840 D, cAr nd 3 4096 D, cAr nd 4 32 D, cAr nd 5 280 D, cAr nd 6 280 D, cLd n nd me D A, cAr nd 8 16 D, cAr nd 9 280 D, cTb nd gg D K, cAr nd 11 48 D, cAr nd 12 48 D, cAr nd 13 48 D, cAr nd 14 2400 D, cAr nd 15 512 D, cAr nd 16 961 D, cAr nd 17 961 D, cWk nd D, cWa nd D, cAr nd 20 612 D, cAr nd 21 1152 D, cRk n nn gg C, cOr n nn gg f] := hF
  refine ar_aload_n 1 d_142_0 rfl rfl ?_
  refine ar_iconst 2 (v := 0) d_142_1 rfl (by decide) ?_
  refine ar_putf 5 [.int me, .ref (n + 264), .ref n, .ref (nd + 1), .ref (nd + 7), .ref (nd + 6), .int 0, .int (D 0 7), .int (D 0 8)] d_142_2 rfl (ci := 7) (k := 6) rfl rfl (hF.at 0 rfl) (Nat.le_of_ble_eq_true rfl) rfl rfl rfl ?_
  replace hF : ax_hs (ax_put h nd (.inr (7, [.int me, .ref (n + 264), .ref n, .ref (nd + 1), .ref (nd + 7), .ref (nd + 6), .int 0, .int (D 0 7), .int (D 0 8)]))) [(nd, .inr (7, [.int me, .ref (n + 264), .ref n, .ref (nd + 1), .ref (nd + 7), .ref (nd + 6), .int 0, .int (D 0 7), .int (D 0 8)])), cDk nd D, cAr nd 2 35840 D, cAr nd 3 4096 D, cAr nd 4 32 D, cAr nd 5 280 D, cAr nd 6 280 D, cLd n nd me D A, cAr nd 8 16 D, cAr nd 9 280 D, cTb nd gg D K, cAr nd 11 48 D, cAr nd 12 48 D, cAr nd 13 48 D, cAr nd 14 2400 D, cAr nd 15 512 D, cAr nd 16 961 D, cAr nd 17 961 D, cWk nd D, cWa nd D, cAr nd 20 612 D, cAr nd 21 1152 D, cRk n nn gg C, cOr n nn gg f] := hF.put 0 _ rfl rfl
  replace hf := hf.put (a := nd) (c := .inr (7, [.int me, .ref (n + 264), .ref n, .ref (nd + 1), .ref (nd + 7), .ref (nd + 6), .int 0, .int (D 0 7), .int (D 0 8)])) (Or.inr (by omega))
  replace hN := hN.put (a := nd) (c := .inr (7, [.int me, .ref (n + 264), .ref n, .ref (nd + 1), .ref (nd + 7), .ref (nd + 6), .int 0, .int (D 0 7), .int (D 0 8)])) (by omega)
  replace hn : (ax_put h nd (.inr (7, [.int me, .ref (n + 264), .ref n, .ref (nd + 1), .ref (nd + 7), .ref (nd + 6), .int 0, .int (D 0 7), .int (D 0 8)]))).1 = h0.1 := hn
  replace hs : (ax_put h nd (.inr (7, [.int me, .ref (n + 264), .ref n, .ref (nd + 1), .ref (nd + 7), .ref (nd + 6), .int 0, .int (D 0 7), .int (D 0 8)]))).2.1 = h0.2.1 := hs
  generalize ax_put h nd (.inr (7, [.int me, .ref (n + 264), .ref n, .ref (nd + 1), .ref (nd + 7), .ref (nd + 6), .int 0, .int (D 0 7), .int (D 0 8)])) = hp_1 at hF hf hN hn hs ⊢
  refine ar_aload_n 6 d_142_5 rfl rfl ?_
  refine ar_getf 9 d_142_6 rfl (ci := 7) (k := 3) rfl (hF.at 0 rfl) rfl ?_
  refine ar_iload_n 10 d_142_9 rfl rfl ?_
  refine ar_iload_n 11 d_142_10 rfl rfl ?_
  have hS1 : NS Z n nd nn gg C me f q u b 0 h0 hp_1 (va_up D 0 (upd (D 0) 6 0)) K A Y := ⟨hF, hN, hf, hn, hs, hp0, rfl⟩
  refine ar_call (r := []) (na := 0) (kd := 0) (cm := 143) (fr2 := fr - 1) (lo2 := lo - 25) 14 d_142_11 (ar_hoV (as := [.int mk, .int pt]) rfl rfl rfl (hF.at 1 rfl)) rfl (by omega) (show lo - 25 + (19 + 6) = lo by omega) (Nat.le_of_ble_eq_true rfl) (Nat.le_of_ble_eq_true rfl) (s_143 (by omega) (by omega) hC0 hS1 hI.1) ?_
  intro v hp_2 hq
  obtain ⟨rfl, D2, K2, A2, Y2, hS2, hE2, hR, h14, h5, hwg⟩ := hq
  clear hS1 hF hN hf hn hs hp0 hu0
  obtain ⟨hF, hN, hf, hn, hs, hp0, hu0⟩ := hS2
  replace hF : ax_hs hp_2 [cNd n nd me D2, cDk nd D2, cAr nd 2 35840 D2, cAr nd 3 4096 D2, cAr nd 4 32 D2, cAr nd 5 280 D2, cAr nd 6 280 D2, cLd n nd me D2 A2, cAr nd 8 16 D2, cAr nd 9 280 D2, cTb nd gg D2 K2, cAr nd 11 48 D2, cAr nd 12 48 D2, cAr nd 13 48 D2, cAr nd 14 2400 D2, cAr nd 15 512 D2, cAr nd 16 961 D2, cAr nd 17 961 D2, cWk nd D2, cWa nd D2, cAr nd 20 612 D2, cAr nd 21 1152 D2, cRk n nn gg C, cOr n nn gg f] := hF
  have r7 : D2 7 = D 7 := hR 7 (by decide) (by decide) (by decide)
  have r10 : D2 10 = D 10 := hR 10 (by decide) (by decide) (by decide)
  have r11 : D2 11 = D 11 := hR 11 (by decide) (by decide) (by decide)
  have r12 : D2 12 = D 12 := hR 12 (by decide) (by decide) (by decide)
  have r13 : D2 13 = D 13 := hR 13 (by decide) (by decide) (by decide)
  have r15 : D2 15 = D 15 := hR 15 (by decide) (by decide) (by decide)
  have r16 : D2 16 = D 16 := hR 16 (by decide) (by decide) (by decide)
  have r18 : D2 18 = D 18 := hR 18 (by decide) (by decide) (by decide)
  have r19 : D2 19 = D 19 := hR 19 (by decide) (by decide) (by decide)
  have r21 : D2 21 = D 21 := hR 21 (by decide) (by decide) (by decide)
  have hI2 : TI Z (D2 10 9) (D2 11) (D2 12) (D2 13) (D2 15) (D2 16) ∧ WI Z (D2 10 9) (D2 11) (D2 18) (D2 19) (D2 21) ∧ LI nn (D2 7 12) (D2 7 13) := by
    rw [r7, r10, r11, r12, r13, r15, r16, r18, r19, r21]
    exact hI.2
  refine ar_aload_n 15 d_142_14 rfl rfl ?_
  refine ar_getf 18 d_142_15 rfl (ci := 7) (k := 5) rfl (hF.at 0 rfl) rfl ?_
  refine ar_iconst 19 (v := -1) d_142_18 rfl (by decide) ?_
  refine ar_call (r := []) (na := 0) (kd := 0) (cm := 13) (fr2 := fr - 1) (lo2 := lo - 23) 22 d_142_19 (ar_hoS (as := [.ref (nd + 6), .int (-1)]) rfl rfl rfl) rfl (by omega) (show lo - 23 + (19 + 4) = lo by omega) (Nat.le_of_ble_eq_true rfl) (Nat.le_of_ble_eq_true rfl) (c_13 (hF.at 6 rfl) (by decide)) ?_
  intro v hh hq
  obtain ⟨rfl, rfl⟩ := hq
  replace hF : ax_hs (ax_put hp_2 (nd + 6) (.inl (0, 280, .inl (ax_fill (D2 6) 0 280 (-1))))) [cNd n nd me D2, cDk nd D2, cAr nd 2 35840 D2, cAr nd 3 4096 D2, cAr nd 4 32 D2, cAr nd 5 280 D2, (nd + 6, .inl (0, 280, .inl (ax_fill (D2 6) 0 280 (-1)))), cLd n nd me D2 A2, cAr nd 8 16 D2, cAr nd 9 280 D2, cTb nd gg D2 K2, cAr nd 11 48 D2, cAr nd 12 48 D2, cAr nd 13 48 D2, cAr nd 14 2400 D2, cAr nd 15 512 D2, cAr nd 16 961 D2, cAr nd 17 961 D2, cWk nd D2, cWa nd D2, cAr nd 20 612 D2, cAr nd 21 1152 D2, cRk n nn gg C, cOr n nn gg f] := hF.put 6 _ rfl rfl
  replace hf := hf.put (a := nd + 6) (c := .inl (0, 280, .inl (ax_fill (D2 6) 0 280 (-1)))) (Or.inr (by omega))
  replace hN := hN.put (a := nd + 6) (c := .inl (0, 280, .inl (ax_fill (D2 6) 0 280 (-1)))) (by omega)
  replace hn : (ax_put hp_2 (nd + 6) (.inl (0, 280, .inl (ax_fill (D2 6) 0 280 (-1))))).1 = h0.1 := hn
  replace hs : (ax_put hp_2 (nd + 6) (.inl (0, 280, .inl (ax_fill (D2 6) 0 280 (-1))))).2.1 = h0.2.1 := hs
  generalize ax_put hp_2 (nd + 6) (.inl (0, 280, .inl (ax_fill (D2 6) 0 280 (-1)))) = hp_3 at hF hf hN hn hs ⊢
  refine ar_aload_n 23 d_142_22 rfl rfl ?_
  refine ar_getf 26 d_142_23 rfl (ci := 7) (k := 4) rfl (hF.at 0 rfl) rfl ?_
  have hS1 : NS Z n nd nn gg C me f q u b 0 h0 hp_3 (va_up D2 6 (ax_fill (D2 6) 0 280 (-1))) K2 A2 Y2 := ⟨hF, hN, hf, hn, hs, hp0, hu0⟩
  have hI1 : NI Z nn (va_up D2 6 (ax_fill (D2 6) 0 280 (-1))) := ⟨⟨⟨0, by omega, h14, fun j hj => absurd hj (by omega), fun s hs => Or.inl (h5 s hs)⟩, hwg, fun s hs _ z => absurd (if_pos ⟨by omega, hs⟩) z, fun _ => ⟨h14, fun s hs => if_pos ⟨by omega, hs⟩⟩⟩, hI2⟩
  refine ar_call (r := []) (na := 0) (kd := 0) (cm := 33) (fr2 := fr - 1) (lo2 := lo - 20) 29 d_142_26 (ar_hoV (as := []) rfl rfl rfl (hF.at 7 rfl)) rfl (by omega) (show lo - 20 + (19 + 1) = lo by omega) (Nat.le_of_ble_eq_true rfl) (Nat.le_of_ble_eq_true rfl) (s_33 (by omega) (by omega) hC0 hS1 hI1) ?_
  intro v hp_4 hq
  obtain ⟨rfl, D4, K4, A4, Y4, hS2, hI2, hE4, -⟩ := hq
  clear hS1 hI1 hF hN hf hn hs hp0 hu0
  obtain ⟨hF, hN, hf, hn, hs, hp0, hu0⟩ := hS2
  replace hF : ax_hs hp_4 [cNd n nd me D4, cDk nd D4, cAr nd 2 35840 D4, cAr nd 3 4096 D4, cAr nd 4 32 D4, cAr nd 5 280 D4, cAr nd 6 280 D4, cLd n nd me D4 A4, cAr nd 8 16 D4, cAr nd 9 280 D4, cTb nd gg D4 K4, cAr nd 11 48 D4, cAr nd 12 48 D4, cAr nd 13 48 D4, cAr nd 14 2400 D4, cAr nd 15 512 D4, cAr nd 16 961 D4, cAr nd 17 961 D4, cWk nd D4, cWa nd D4, cAr nd 20 612 D4, cAr nd 21 1152 D4, cRk n nn gg C, cOr n nn gg f] := hF
  have hI4 := hI2
  clear hI2
  have hS9 : NS Z n nd nn gg C me f q u b 0 h0 hp_4 D4 K4 A4 Y4 := ⟨hF, hN, hf, hn, hs, hp0, hu0⟩
  have hI9 : NI Z nn D4 := hI4
  exact ar_ret d_142_29 rfl (⟨rfl, _, _, _, _, hS9, hI9, bnS_eq hE2 (bnS_eq hE4 (rfl)), trivial⟩)
def F_136 (nn gg : Nat) (C me : Int32) (f u b : Nat → Int32) (D : Nat → Nat → Int32) (K A : Int64) (Y : List Mg)  : St :=
  bnS (F_60 nn gg C me f u b D K A Y) (fun D1 K1 A1 Y1 =>
    if (ldB f nn me (D1 0 8)) = 0 then
      (D1, K1, A1, Y1)
    else
      bnS (F_137 nn gg C me f u b D1 K1 A1 Y1) (fun D3 K3 A3 Y3 =>
        bnS (F_91 nn gg C me f u b D3 K3 A3 Y3) (fun D4 K4 A4 Y4 =>
          (D4, K4, A4, Y4))))
theorem s_136 {L : Nat} {xs : Nat → Int32} {fr lo : Nat} {Z : ZT} {n nd nn gg : Nat} {C me : Int32} {f : Nat → Int32} {q : Nat} {u b : Nat → Int32} {uv : Int32} {h0 h : ax_H} {D : Nat → Nat → Int32} {K A : Int64} {Y : List Mg}  (hfr : 8 ≤ fr) (hlo : 260 ≤ lo) (hC : CS n nd nn gg f) (hS : NS Z n nd nn gg C me f q u b uv h0 h D K A Y) (hI : NI Z nn D) (hup : ¬ uv = 0) : ax_M L xs 136 fr lo [.ref nd] h (fun r h' => r = none ∧ PS Z n nd nn gg C me f q u b uv h0 h' (fun D' K' A' Y' => (D', K', A', Y') = F_136 nn gg C me f u b D K A Y ∧ True)) := by
  have hC0 := hC
  show ax_A (ax_step L xs) ((136, 0, fr, lo), [(0, .ref nd)], [], h) _
  obtain ⟨hnd, hn0, hnn3, hnn, hgg1, hgg, hRg⟩ := hC
  obtain ⟨hF, hN, hf, hn, hs, hp0, hu0⟩ := hS
  replace hF : ax_hs h [cNd n nd me D, cDk nd D, cAr nd 2 35840 D, cAr nd 3 4096 D, cAr nd 4 32 D, cAr nd 5 280 D, cAr nd 6 280 D, cLd n nd me D A, cAr nd 8 16 D, cAr nd 9 280 D, cTb nd gg D K, cAr nd 11 48 D, cAr nd 12 48 D, cAr nd 13 48 D, cAr nd 14 2400 D, cAr nd 15 512 D, cAr nd 16 961 D, cAr nd 17 961 D, cWk nd D, cWa nd D, cAr nd 20 612 D, cAr nd 21 1152 D, cRk n nn gg C, cOr n nn gg f] := hF
  refine ar_aload_n 1 d_136_0 rfl rfl ?_
  have hS1 : NS Z n nd nn gg C me f q u b uv h0 h D K A Y := ⟨hF, hN, hf, hn, hs, hp0, hu0⟩
  have hI1 : NI Z nn D := hI
  refine ar_call (r := []) (na := 0) (kd := 0) (cm := 60) (fr2 := fr - 1) (lo2 := lo - 23) 4 d_136_1 (ar_hoV (as := []) rfl rfl rfl (hF.at 0 rfl)) rfl (by omega) (show lo - 23 + (19 + 4) = lo by omega) (Nat.le_of_ble_eq_true rfl) (Nat.le_of_ble_eq_true rfl) (s_60 (by omega) (by omega) hC0 hS1 hI1 hup) ?_
  intro v hp_1 hq
  obtain ⟨rfl, D1, K1, A1, Y1, hS2, hI2, hE1, -⟩ := hq
  clear hS1 hI1 hF hN hf hn hs hp0 hu0
  obtain ⟨hF, hN, hf, hn, hs, hp0, hu0⟩ := hS2
  replace hF : ax_hs hp_1 [cNd n nd me D1, cDk nd D1, cAr nd 2 35840 D1, cAr nd 3 4096 D1, cAr nd 4 32 D1, cAr nd 5 280 D1, cAr nd 6 280 D1, cLd n nd me D1 A1, cAr nd 8 16 D1, cAr nd 9 280 D1, cTb nd gg D1 K1, cAr nd 11 48 D1, cAr nd 12 48 D1, cAr nd 13 48 D1, cAr nd 14 2400 D1, cAr nd 15 512 D1, cAr nd 16 961 D1, cAr nd 17 961 D1, cWk nd D1, cWa nd D1, cAr nd 20 612 D1, cAr nd 21 1152 D1, cRk n nn gg C, cOr n nn gg f] := hF
  have hI1 := hI2
  clear hI2
  refine ar_aload_n 5 d_136_4 rfl rfl ?_
  refine ar_call (r := []) (na := 0) (kd := 0) (cm := 30) (fr2 := fr - 1) (lo2 := lo - 20) 8 d_136_5 (ar_hoV (as := []) rfl rfl rfl (hF.at 0 rfl)) rfl (by omega) (show lo - 20 + (19 + 1) = lo by omega) (Nat.le_of_ble_eq_true rfl) (Nat.le_of_ble_eq_true rfl) (c_30E (by omega) (by omega) hgg (by omega) hnn (hF.sub (F' := [cNd n nd me D1, cRk n nn gg C, cOr n nn gg f]) [0, 22, 23] rfl rfl)) ?_
  intro v hh hq
  obtain ⟨rfl, ehh⟩ := hq
  rw [ehh]
  clear ehh
  refine ar_if_eq 25 11 d_136_8 (by decide) rfl (fun cc2 => ?_) (fun cc2 => ?_)
  · have hS9 : NS Z n nd nn gg C me f q u b uv h0 hp_1 D1 K1 A1 Y1 := ⟨hF, hN, hf, hn, hs, hp0, hu0⟩
    have hI9 : NI Z nn D1 := hI1
    exact ar_ret d_136_25 rfl (⟨rfl, _, _, _, _, hS9, hI9, bnS_eq hE1 (eq_ifT cc2 (rfl)), trivial⟩)
  · refine ar_aload_n 12 d_136_11 rfl rfl ?_
    refine ar_getf 15 d_136_12 rfl (ci := 7) (k := 4) rfl (hF.at 0 rfl) rfl ?_
    have hS1 : NS Z n nd nn gg C me f q u b uv h0 hp_1 D1 K1 A1 Y1 := ⟨hF, hN, hf, hn, hs, hp0, hu0⟩
    have hI1 : NI Z nn D1 := hI1
    refine ar_call (r := []) (na := 0) (kd := 0) (cm := 137) (fr2 := fr - 1) (lo2 := lo - 20) 18 d_136_15 (ar_hoV (as := []) rfl rfl rfl (hF.at 7 rfl)) rfl (by omega) (show lo - 20 + (19 + 1) = lo by omega) (Nat.le_of_ble_eq_true rfl) (Nat.le_of_ble_eq_true rfl) (s_137 (by omega) (by omega) hC0 hS1 hI1) ?_
    intro v hp_3 hq
    obtain ⟨rfl, D3, K3, A3, Y3, hS2, hI2, hE3, -⟩ := hq
    clear hS1 hI1 hF hN hf hn hs hp0 hu0
    obtain ⟨hF, hN, hf, hn, hs, hp0, hu0⟩ := hS2
    replace hF : ax_hs hp_3 [cNd n nd me D3, cDk nd D3, cAr nd 2 35840 D3, cAr nd 3 4096 D3, cAr nd 4 32 D3, cAr nd 5 280 D3, cAr nd 6 280 D3, cLd n nd me D3 A3, cAr nd 8 16 D3, cAr nd 9 280 D3, cTb nd gg D3 K3, cAr nd 11 48 D3, cAr nd 12 48 D3, cAr nd 13 48 D3, cAr nd 14 2400 D3, cAr nd 15 512 D3, cAr nd 16 961 D3, cAr nd 17 961 D3, cWk nd D3, cWa nd D3, cAr nd 20 612 D3, cAr nd 21 1152 D3, cRk n nn gg C, cOr n nn gg f] := hF
    have hI3 := hI2
    clear hI2
    refine ar_aload_n 19 d_136_18 rfl rfl ?_
    refine ar_getf 22 d_136_19 rfl (ci := 7) (k := 4) rfl (hF.at 0 rfl) rfl ?_
    have hS1 : NS Z n nd nn gg C me f q u b uv h0 hp_3 D3 K3 A3 Y3 := ⟨hF, hN, hf, hn, hs, hp0, hu0⟩
    have hI1 : NI Z nn D3 := hI3
    refine ar_call (r := []) (na := 0) (kd := 0) (cm := 91) (fr2 := fr - 1) (lo2 := lo - 21) 25 d_136_22 (ar_hoV (as := []) rfl rfl rfl (hF.at 7 rfl)) rfl (by omega) (show lo - 21 + (19 + 2) = lo by omega) (Nat.le_of_ble_eq_true rfl) (Nat.le_of_ble_eq_true rfl) (s_91 (by omega) (by omega) hC0 hS1 hI1) ?_
    intro v hp_4 hq
    obtain ⟨rfl, D4, K4, A4, Y4, hS2, hI2, hE4, -⟩ := hq
    clear hS1 hI1 hF hN hf hn hs hp0 hu0
    obtain ⟨hF, hN, hf, hn, hs, hp0, hu0⟩ := hS2
    replace hF : ax_hs hp_4 [cNd n nd me D4, cDk nd D4, cAr nd 2 35840 D4, cAr nd 3 4096 D4, cAr nd 4 32 D4, cAr nd 5 280 D4, cAr nd 6 280 D4, cLd n nd me D4 A4, cAr nd 8 16 D4, cAr nd 9 280 D4, cTb nd gg D4 K4, cAr nd 11 48 D4, cAr nd 12 48 D4, cAr nd 13 48 D4, cAr nd 14 2400 D4, cAr nd 15 512 D4, cAr nd 16 961 D4, cAr nd 17 961 D4, cWk nd D4, cWa nd D4, cAr nd 20 612 D4, cAr nd 21 1152 D4, cRk n nn gg C, cOr n nn gg f] := hF
    have hI4 := hI2
    clear hI2
    have hS9 : NS Z n nd nn gg C me f q u b uv h0 hp_4 D4 K4 A4 Y4 := ⟨hF, hN, hf, hn, hs, hp0, hu0⟩
    have hI9 : NI Z nn D4 := hI4
    exact ar_ret d_136_25 rfl (⟨rfl, _, _, _, _, hS9, hI9, bnS_eq hE1 (eq_ifF cc2 (bnS_eq hE3 (bnS_eq hE4 (rfl)))), trivial⟩)
theorem tsw55 {x : Int32} (h0 : ¬ x = 0) (h1 : ¬ x = 1) (h2 : ¬ x = 2) (h3 : ¬ x = 3) (h4 : ¬ x = 4) (h5 : ¬ x = 5) (h6 : ¬ x = 6) (h7 : ¬ x = 7) (h8 : ¬ x = 8) (h9 : ¬ x = 9) (hA : ¬ x = 10) (hB : ¬ x = 11) (hC : ¬ x = 12) : x.toInt < 0 ∨ 12 < x.toInt := by
  have key : ∀ y : Int32, ¬ x = y → ¬ x.toInt = y.toInt := fun y h e => h (Int32.toInt_inj.mp e)
  have h5 := tsw57 h5 h6 h7 h8 h9 hA hB
  have k0 := key 0 h0
  have k1 := key 1 h1
  have k2 := key 2 h2
  have k3 := key 3 h3
  have k4 := key 4 h4
  have kC := key 12 hC
  rw [show (0 : Int32).toInt = 0 from rfl] at k0
  rw [show (1 : Int32).toInt = 1 from rfl] at k1
  rw [show (2 : Int32).toInt = 2 from rfl] at k2
  rw [show (3 : Int32).toInt = 3 from rfl] at k3
  rw [show (4 : Int32).toInt = 4 from rfl] at k4
  rw [show (12 : Int32).toInt = 12 from rfl] at kC
  omega
def F_55_k (nn gg : Nat) (C me : Int32) (f u b : Nat → Int32) (D : Nat → Nat → Int32) (K A : Int64) (Y : List Mg)  : St :=
  if u 0 = 0 then
    (D, K, A, pst Y (mg 1 me (nI nn) (D 0 7) (D 0 8), fun _ => 0))
  else
    if u 0 = 1 then
      if (ldB f nn me (D 0 8)) = 0 then
        (D, K, A, Y)
      else
        bnS (F_67 nn gg C me f u b D K A Y) (fun D3 K3 A3 Y3 =>
          bnS (F_91 nn gg C me f u b D3 K3 A3 Y3) (fun D4 K4 A4 Y4 =>
            (D4, K4, A4, Y4)))
    else
      if u 0 = 2 then
        if (ldB f nn me (D 0 8)) = 0 then
          (D, K, A, Y)
        else
          bnS (F_67 nn gg C me f u b D K A Y) (fun D6 K6 A6 Y6 =>
            bnS (F_91 nn gg C me f u b D6 K6 A6 Y6) (fun D7 K7 A7 Y7 =>
              (D7, K7, A7, Y7)))
      else
        if u 0 = 3 then
          if (ldB f nn me (D 0 8)) = 0 then
            (D, K, A, Y)
          else
            bnS (F_67 nn gg C me f u b D K A Y) (fun D9 K9 A9 Y9 =>
              bnS (F_91 nn gg C me f u b D9 K9 A9 Y9) (fun D10 K10 A10 Y10 =>
                (D10, K10, A10, Y10)))
        else
          if u 0 = 4 then
            bnS (F_56 nn gg C me f u b D K A Y (u 1)) (fun D11 K11 A11 Y11 =>
              (D11, K11, A11, Y11))
          else
            if u 0 = 5 then
              if (ldB f nn me (D 0 8)) = 0 then
                (D, K, A, Y)
              else
                bnS (F_67 nn gg C me f u b D K A Y) (fun D13 K13 A13 Y13 =>
                  bnS (F_91 nn gg C me f u b D13 K13 A13 Y13) (fun D14 K14 A14 Y14 =>
                    (D14, K14, A14, Y14)))
            else
              if u 0 = 6 then
                bnS (F_58 nn gg C me f u b D K A Y 7 (u 5) (u 1) (u 1)) (fun D15 K15 A15 Y15 =>
                  (D15, K15, A15, Y15))
              else
                if u 0 = 7 then
                  if (ldB f nn me (D 0 8)) = 0 then
                    (D, K, A, Y)
                  else
                    bnS (F_67 nn gg C me f u b D K A Y) (fun D17 K17 A17 Y17 =>
                      bnS (F_91 nn gg C me f u b D17 K17 A17 Y17) (fun D18 K18 A18 Y18 =>
                        (D18, K18, A18, Y18)))
                else
                  if u 0 = 8 then
                    if (ldB f nn me (D 0 8)) = 0 then
                      (D, K, A, Y)
                    else
                      bnS (F_67 nn gg C me f u b D K A Y) (fun D20 K20 A20 Y20 =>
                        bnS (F_91 nn gg C me f u b D20 K20 A20 Y20) (fun D21 K21 A21 Y21 =>
                          (D21, K21, A21, Y21)))
                  else
                    if u 0 = 9 then
                      bnS (F_58 nn gg C me f u b D K A Y 10 (u 5) (u 6) (u 1)) (fun D22 K22 A22 Y22 =>
                        (D22, K22, A22, Y22))
                    else
                      if u 0 = 10 then
                        bnS (F_59 nn gg C me f u b D K A Y) (fun D23 K23 A23 Y23 =>
                          (D23, K23, A23, Y23))
                      else
                        if u 0 = 11 then
                          if (ldB f nn me (D 0 8)) = 0 then
                            (D, K, A, Y)
                          else
                            bnS (F_67 nn gg C me f u b D K A Y) (fun D25 K25 A25 Y25 =>
                              bnS (F_91 nn gg C me f u b D25 K25 A25 Y25) (fun D26 K26 A26 Y26 =>
                                (D26, K26, A26, Y26)))
                        else
                          if u 0 = 12 then
                            bnS (F_66 nn gg C me f u b D K A Y) (fun D27 K27 A27 Y27 =>
                              (D27, K27, A27, Y27))
                          else
                            if (ldB f nn me (D 0 8)) = 0 then
                              (D, K, A, Y)
                            else
                              bnS (F_67 nn gg C me f u b D K A Y) (fun D29 K29 A29 Y29 =>
                                bnS (F_91 nn gg C me f u b D29 K29 A29 Y29) (fun D30 K30 A30 Y30 =>
                                  (D30, K30, A30, Y30)))
def F_55 (nn gg : Nat) (C me : Int32) (f u b : Nat → Int32) (D : Nat → Nat → Int32) (K A : Int64) (Y : List Mg)  : St :=
  if (D 0 7) ≤ (u 3) then
    if (u 3) ≤ (D 0 7) then
      F_55_k nn gg C me f u b D K A Y
    else
      bnS (F_29 nn gg C me f u b D K A Y (u 3) (u 4)) (fun D3 K3 A3 Y3 =>
        F_55_k nn gg C me f u b D3 K3 A3 Y3)
  else
    (D, K, A, Y)
set_option maxRecDepth 100000 in
theorem s_55 {L : Nat} {xs : Nat → Int32} {fr lo : Nat} {Z : ZT} {n nd nn gg : Nat} {C me : Int32} {f : Nat → Int32} {q : Nat} {u b : Nat → Int32} {uv : Int32} {h0 h : ax_H} {D : Nat → Nat → Int32} {K A : Int64} {Y : List Mg}  (hfr : 8 ≤ fr) (hlo : 260 ≤ lo) (hC : CS n nd nn gg f) (hS : NS Z n nd nn gg C me f q u b uv h0 h D K A Y) (hI : NI Z nn D) (hup : ¬ uv = 0) (hm : MI Z (u, b)) : ax_M L xs 55 fr lo [.ref nd, .ref (n + 1 + 1 + 2 * q)] h (fun r h' => r = none ∧ PS Z n nd nn gg C me f q u b uv h0 h' (fun D' K' A' Y' => (D', K', A', Y') = F_55 nn gg C me f u b D K A Y ∧ True)) := by
  have hC0 := hC
  have key : ∀ (h : ax_H) (D : Nat → Nat → Int32) (K A : Int64) (Y : List Mg), NS Z n nd nn gg C me f q u b uv h0 h D K A Y → NI Z nn D → ax_A (ax_step L xs) ((55, 35, fr, lo), [(0, .ref nd), (1, .ref (n + 1 + 1 + 2 * q))], [], h) (fun r h' => r = none ∧ PS Z n nd nn gg C me f q u b uv h0 h' (fun D' K' A' Y' => (D', K', A', Y') = F_55_k nn gg C me f u b D K A Y ∧ True)) := by
    intro h D K A Y hS hI
    obtain ⟨hnd, hn0, hnn3, hnn, hgg1, hgg, hRg⟩ := hC
    obtain ⟨hF, hN, hf, hn, hs, hp0, hu0⟩ := hS
    replace hF : ax_hs h [cNd n nd me D, cDk nd D, cAr nd 2 35840 D, cAr nd 3 4096 D, cAr nd 4 32 D, cAr nd 5 280 D, cAr nd 6 280 D, cLd n nd me D A, cAr nd 8 16 D, cAr nd 9 280 D, cTb nd gg D K, cAr nd 11 48 D, cAr nd 12 48 D, cAr nd 13 48 D, cAr nd 14 2400 D, cAr nd 15 512 D, cAr nd 16 961 D, cAr nd 17 961 D, cWk nd D, cWa nd D, cAr nd 20 612 D, cAr nd 21 1152 D, cRk n nn gg C, cOr n nn gg f] := hF
    refine ar_aload_n 36 d_55_35 rfl rfl ?_
    refine ar_getf 39 d_55_36 rfl (ci := 2) (k := 0) rfl hN.mgc rfl ?_
    by_cases hk : u 0 = 0
    · refine ar_tabIn 104 d_55_39 (by rw [hk]; decide) (by rw [hk]; rfl) (by decide) ?_
      refine ar_aload_n 105 d_55_104 rfl rfl ?_
      refine ar_getf 108 d_55_105 rfl (ci := 7) (k := 2) rfl (hF.at 0 rfl) rfl ?_
      refine ar_iconst 109 (v := 1) d_55_108 rfl (by decide) ?_
      refine ar_aload_n 110 d_55_109 rfl rfl ?_
      refine ar_getf 113 d_55_110 rfl (ci := 7) (k := 0) rfl (hF.at 0 rfl) rfl ?_
      refine ar_aload_n 114 d_55_113 rfl rfl ?_
      refine ar_getf 117 d_55_114 rfl (ci := 7) (k := 1) rfl (hF.at 0 rfl) rfl ?_
      refine ar_getf 120 d_55_117 rfl (ci := 3) (k := 0) rfl (hF.at 22 rfl) rfl ?_
      refine ar_aload_n 121 d_55_120 rfl rfl ?_
      refine ar_getf 124 d_55_121 rfl (ci := 7) (k := 7) rfl (hF.at 0 rfl) rfl ?_
      refine ar_aload_n 125 d_55_124 rfl rfl ?_
      refine ar_getf 128 d_55_125 rfl (ci := 7) (k := 8) rfl (hF.at 0 rfl) rfl ?_
      obtain ⟨zk, za, zc, hnet⟩ := hN.net
      refine ar_call (r := []) (na := 0) (kd := 0) (cm := 36) (fr2 := fr - 1) (lo2 := lo - 26) 131 d_55_128 (ar_hoV (as := [.int 1, .int me, .int (nI nn), .int (D 0 7), .int (D 0 8)]) rfl rfl rfl hnet) rfl (by omega) (show lo - 26 + (19 + 7) = lo by omega) (Nat.le_of_ble_eq_true rfl) (Nat.le_of_ble_eq_true rfl) (hN.post) ?_
      intro v hp_1 hq
      obtain ⟨m, bm, hm, hmq, rfl, hmm, hed, hf2, hz1, hz2⟩ := hq
      have hNm : NTA n (n + 1) (n + 1 + 1 + 2 * m) := Or.inr (by omega)
      have hNm1 : NTA n (n + 1) (n + 1 + 1 + 2 * m + 1) := Or.inr (by omega)
      replace hF : ax_hs hp_1 [cNd n nd me D, cDk nd D, cAr nd 2 35840 D, cAr nd 3 4096 D, cAr nd 4 32 D, cAr nd 5 280 D, cAr nd 6 280 D, cLd n nd me D A, cAr nd 8 16 D, cAr nd 9 280 D, cTb nd gg D K, cAr nd 11 48 D, cAr nd 12 48 D, cAr nd 13 48 D, cAr nd 14 2400 D, cAr nd 15 512 D, cAr nd 16 961 D, cAr nd 17 961 D, cWk nd D, cWa nd D, cAr nd 20 612 D, cAr nd 21 1152 D, cRk n nn gg C, cOr n nn gg f] := hF.fr hf2 (far (n := n) (nd := nd) rfl hnd)
      replace hF : ax_hs hp_1 [(n + 1 + 1 + 2 * m, .inr (2, [.int 1, .int me, .int (nI nn), .int (D 0 7), .int (D 0 8), .int (-1), .int 0, .int 0, .ref (n + 1 + 1 + 2 * m + 1)])), (n + 1 + 1 + 2 * m + 1, .inl (0, 617, .inl bm)), cNd n nd me D, cDk nd D, cAr nd 2 35840 D, cAr nd 3 4096 D, cAr nd 4 32 D, cAr nd 5 280 D, cAr nd 6 280 D, cLd n nd me D A, cAr nd 8 16 D, cAr nd 9 280 D, cTb nd gg D K, cAr nd 11 48 D, cAr nd 12 48 D, cAr nd 13 48 D, cAr nd 14 2400 D, cAr nd 15 512 D, cAr nd 16 961 D, cAr nd 17 961 D, cWk nd D, cWa nd D, cAr nd 20 612 D, cAr nd 21 1152 D, cRk n nn gg C, cOr n nn gg f] := hF.msg (far (n := n) (nd := nd) rfl hnd) hm hmm
      replace hf := hf.trC hf2 (fun _ _ z => Or.inl z)
      replace hn : hp_1.1 = h0.1 := by omega
      replace hs : hp_1.2.1 = h0.2.1 := by omega
      have hfm : ax_fr (fun x => x = n + 1 + 1 + 2 * m ∨ x = n + 1 + 1 + 2 * m + 1) hp_1 hp_1 := ax_fr.rf
      clear hN hnet hf2 hz1 hz2 hmm
      refine ar_pop 132 d_55_131 rfl rfl ?_
      refine ar_goto 226 d_55_132 (by decide) ?_
      have hN : NeT Z hp_1 n q u b (pst Y (mg 1 me (nI nn) (D 0 7) (D 0 8), fun _ => 0)) := hed _ (mg 1 me (nI nn) (D 0 7) (D 0 8)) bm _ hfm ⟨hF.at 0 rfl, hF.at 1 rfl⟩ (MI.head (Or.inr (Or.inl rfl))) (smM.head (Or.inr (Or.inl rfl)))
      replace hF := hF.sub (F' := [cNd n nd me D, cDk nd D, cAr nd 2 35840 D, cAr nd 3 4096 D, cAr nd 4 32 D, cAr nd 5 280 D, cAr nd 6 280 D, cLd n nd me D A, cAr nd 8 16 D, cAr nd 9 280 D, cTb nd gg D K, cAr nd 11 48 D, cAr nd 12 48 D, cAr nd 13 48 D, cAr nd 14 2400 D, cAr nd 15 512 D, cAr nd 16 961 D, cAr nd 17 961 D, cWk nd D, cWa nd D, cAr nd 20 612 D, cAr nd 21 1152 D, cRk n nn gg C, cOr n nn gg f]) [2, 3, 4, 5, 6, 7, 8, 9, 10, 11, 12, 13, 14, 15, 16, 17, 18, 19, 20, 21, 22, 23, 24, 25] rfl rfl
      clear hed hfm hNm hNm1 hm hmq
      have hS9 : NS Z n nd nn gg C me f q u b uv h0 hp_1 D K A (pst Y (mg 1 me (nI nn) (D 0 7) (D 0 8), fun _ => 0)) := ⟨hF, hN, hf, hn, hs, hp0, hu0⟩
      have hI9 : NI Z nn D := hI
      exact ar_ret d_55_226 rfl (⟨rfl, _, _, _, _, hS9, hI9, eq_ifT hk (rfl), trivial⟩)
    · have n0 := hk
      clear hk
      by_cases hk : u 0 = 1
      · refine ar_tabIn 204 d_55_39 (by rw [hk]; decide) (by rw [hk]; rfl) (by decide) ?_
        refine ar_aload_n 205 d_55_204 rfl rfl ?_
        refine ar_call (r := []) (na := 0) (kd := 0) (cm := 30) (fr2 := fr - 1) (lo2 := lo - 20) 208 d_55_205 (ar_hoV (as := []) rfl rfl rfl (hF.at 0 rfl)) rfl (by omega) (show lo - 20 + (19 + 1) = lo by omega) (Nat.le_of_ble_eq_true rfl) (Nat.le_of_ble_eq_true rfl) (c_30E (by omega) (by omega) hgg (by omega) hnn (hF.sub (F' := [cNd n nd me D, cRk n nn gg C, cOr n nn gg f]) [0, 22, 23] rfl rfl)) ?_
        intro v hh hq
        obtain ⟨rfl, ehh⟩ := hq
        rw [ehh]
        clear ehh
        refine ar_if_eq 226 211 d_55_208 (by decide) rfl (fun cc2 => ?_) (fun cc2 => ?_)
        · have hS9 : NS Z n nd nn gg C me f q u b uv h0 h D K A Y := ⟨hF, hN, hf, hn, hs, hp0, hu0⟩
          have hI9 : NI Z nn D := hI
          exact ar_ret d_55_226 rfl (⟨rfl, _, _, _, _, hS9, hI9, eq_ifF n0 (eq_ifT hk (eq_ifT cc2 (rfl))), trivial⟩)
        · refine ar_aload_n 212 d_55_211 rfl rfl ?_
          refine ar_getf 215 d_55_212 rfl (ci := 7) (k := 4) rfl (hF.at 0 rfl) rfl ?_
          refine ar_aload_n 216 d_55_215 rfl rfl ?_
          have hS1 : NS Z n nd nn gg C me f q u b uv h0 h D K A Y := ⟨hF, hN, hf, hn, hs, hp0, hu0⟩
          have hI1 : NI Z nn D := hI
          refine ar_call (r := []) (na := 0) (kd := 0) (cm := 67) (fr2 := fr - 1) (lo2 := lo - 21) 219 d_55_216 (ar_hoV (as := [.ref (n + 1 + 1 + 2 * q)]) rfl rfl rfl (hF.at 7 rfl)) rfl (by omega) (show lo - 21 + (19 + 2) = lo by omega) (Nat.le_of_ble_eq_true rfl) (Nat.le_of_ble_eq_true rfl) (s_67 (by omega) (by omega) hC0 hS1 hI1 hm) ?_
          intro v hp_3 hq
          obtain ⟨rfl, D3, K3, A3, Y3, hS2, hI2, hE3, -⟩ := hq
          clear hS1 hI1 hF hN hf hn hs hp0 hu0
          obtain ⟨hF, hN, hf, hn, hs, hp0, hu0⟩ := hS2
          replace hF : ax_hs hp_3 [cNd n nd me D3, cDk nd D3, cAr nd 2 35840 D3, cAr nd 3 4096 D3, cAr nd 4 32 D3, cAr nd 5 280 D3, cAr nd 6 280 D3, cLd n nd me D3 A3, cAr nd 8 16 D3, cAr nd 9 280 D3, cTb nd gg D3 K3, cAr nd 11 48 D3, cAr nd 12 48 D3, cAr nd 13 48 D3, cAr nd 14 2400 D3, cAr nd 15 512 D3, cAr nd 16 961 D3, cAr nd 17 961 D3, cWk nd D3, cWa nd D3, cAr nd 20 612 D3, cAr nd 21 1152 D3, cRk n nn gg C, cOr n nn gg f] := hF
          have hI3 := hI2
          clear hI2
          refine ar_aload_n 220 d_55_219 rfl rfl ?_
          refine ar_getf 223 d_55_220 rfl (ci := 7) (k := 4) rfl (hF.at 0 rfl) rfl ?_
          have hS1 : NS Z n nd nn gg C me f q u b uv h0 hp_3 D3 K3 A3 Y3 := ⟨hF, hN, hf, hn, hs, hp0, hu0⟩
          have hI1 : NI Z nn D3 := hI3
          refine ar_call (r := []) (na := 0) (kd := 0) (cm := 91) (fr2 := fr - 1) (lo2 := lo - 21) 226 d_55_223 (ar_hoV (as := []) rfl rfl rfl (hF.at 7 rfl)) rfl (by omega) (show lo - 21 + (19 + 2) = lo by omega) (Nat.le_of_ble_eq_true rfl) (Nat.le_of_ble_eq_true rfl) (s_91 (by omega) (by omega) hC0 hS1 hI1) ?_
          intro v hp_4 hq
          obtain ⟨rfl, D4, K4, A4, Y4, hS2, hI2, hE4, -⟩ := hq
          clear hS1 hI1 hF hN hf hn hs hp0 hu0
          obtain ⟨hF, hN, hf, hn, hs, hp0, hu0⟩ := hS2
          replace hF : ax_hs hp_4 [cNd n nd me D4, cDk nd D4, cAr nd 2 35840 D4, cAr nd 3 4096 D4, cAr nd 4 32 D4, cAr nd 5 280 D4, cAr nd 6 280 D4, cLd n nd me D4 A4, cAr nd 8 16 D4, cAr nd 9 280 D4, cTb nd gg D4 K4, cAr nd 11 48 D4, cAr nd 12 48 D4, cAr nd 13 48 D4, cAr nd 14 2400 D4, cAr nd 15 512 D4, cAr nd 16 961 D4, cAr nd 17 961 D4, cWk nd D4, cWa nd D4, cAr nd 20 612 D4, cAr nd 21 1152 D4, cRk n nn gg C, cOr n nn gg f] := hF
          have hI4 := hI2
          clear hI2
          have hS9 : NS Z n nd nn gg C me f q u b uv h0 hp_4 D4 K4 A4 Y4 := ⟨hF, hN, hf, hn, hs, hp0, hu0⟩
          have hI9 : NI Z nn D4 := hI4
          exact ar_ret d_55_226 rfl (⟨rfl, _, _, _, _, hS9, hI9, eq_ifF n0 (eq_ifT hk (eq_ifF cc2 (bnS_eq hE3 (bnS_eq hE4 (rfl))))), trivial⟩)
      · have n1 := hk
        clear hk
        by_cases hk : u 0 = 2
        · refine ar_tabIn 204 d_55_39 (by rw [hk]; decide) (by rw [hk]; rfl) (by decide) ?_
          refine ar_aload_n 205 d_55_204 rfl rfl ?_
          refine ar_call (r := []) (na := 0) (kd := 0) (cm := 30) (fr2 := fr - 1) (lo2 := lo - 20) 208 d_55_205 (ar_hoV (as := []) rfl rfl rfl (hF.at 0 rfl)) rfl (by omega) (show lo - 20 + (19 + 1) = lo by omega) (Nat.le_of_ble_eq_true rfl) (Nat.le_of_ble_eq_true rfl) (c_30E (by omega) (by omega) hgg (by omega) hnn (hF.sub (F' := [cNd n nd me D, cRk n nn gg C, cOr n nn gg f]) [0, 22, 23] rfl rfl)) ?_
          intro v hh hq
          obtain ⟨rfl, ehh⟩ := hq
          rw [ehh]
          clear ehh
          refine ar_if_eq 226 211 d_55_208 (by decide) rfl (fun cc5 => ?_) (fun cc5 => ?_)
          · have hS9 : NS Z n nd nn gg C me f q u b uv h0 h D K A Y := ⟨hF, hN, hf, hn, hs, hp0, hu0⟩
            have hI9 : NI Z nn D := hI
            exact ar_ret d_55_226 rfl (⟨rfl, _, _, _, _, hS9, hI9, eq_ifF n0 (eq_ifF n1 (eq_ifT hk (eq_ifT cc5 (rfl)))), trivial⟩)
          · refine ar_aload_n 212 d_55_211 rfl rfl ?_
            refine ar_getf 215 d_55_212 rfl (ci := 7) (k := 4) rfl (hF.at 0 rfl) rfl ?_
            refine ar_aload_n 216 d_55_215 rfl rfl ?_
            have hS1 : NS Z n nd nn gg C me f q u b uv h0 h D K A Y := ⟨hF, hN, hf, hn, hs, hp0, hu0⟩
            have hI1 : NI Z nn D := hI
            refine ar_call (r := []) (na := 0) (kd := 0) (cm := 67) (fr2 := fr - 1) (lo2 := lo - 21) 219 d_55_216 (ar_hoV (as := [.ref (n + 1 + 1 + 2 * q)]) rfl rfl rfl (hF.at 7 rfl)) rfl (by omega) (show lo - 21 + (19 + 2) = lo by omega) (Nat.le_of_ble_eq_true rfl) (Nat.le_of_ble_eq_true rfl) (s_67 (by omega) (by omega) hC0 hS1 hI1 hm) ?_
            intro v hp_6 hq
            obtain ⟨rfl, D6, K6, A6, Y6, hS2, hI2, hE6, -⟩ := hq
            clear hS1 hI1 hF hN hf hn hs hp0 hu0
            obtain ⟨hF, hN, hf, hn, hs, hp0, hu0⟩ := hS2
            replace hF : ax_hs hp_6 [cNd n nd me D6, cDk nd D6, cAr nd 2 35840 D6, cAr nd 3 4096 D6, cAr nd 4 32 D6, cAr nd 5 280 D6, cAr nd 6 280 D6, cLd n nd me D6 A6, cAr nd 8 16 D6, cAr nd 9 280 D6, cTb nd gg D6 K6, cAr nd 11 48 D6, cAr nd 12 48 D6, cAr nd 13 48 D6, cAr nd 14 2400 D6, cAr nd 15 512 D6, cAr nd 16 961 D6, cAr nd 17 961 D6, cWk nd D6, cWa nd D6, cAr nd 20 612 D6, cAr nd 21 1152 D6, cRk n nn gg C, cOr n nn gg f] := hF
            have hI6 := hI2
            clear hI2
            refine ar_aload_n 220 d_55_219 rfl rfl ?_
            refine ar_getf 223 d_55_220 rfl (ci := 7) (k := 4) rfl (hF.at 0 rfl) rfl ?_
            have hS1 : NS Z n nd nn gg C me f q u b uv h0 hp_6 D6 K6 A6 Y6 := ⟨hF, hN, hf, hn, hs, hp0, hu0⟩
            have hI1 : NI Z nn D6 := hI6
            refine ar_call (r := []) (na := 0) (kd := 0) (cm := 91) (fr2 := fr - 1) (lo2 := lo - 21) 226 d_55_223 (ar_hoV (as := []) rfl rfl rfl (hF.at 7 rfl)) rfl (by omega) (show lo - 21 + (19 + 2) = lo by omega) (Nat.le_of_ble_eq_true rfl) (Nat.le_of_ble_eq_true rfl) (s_91 (by omega) (by omega) hC0 hS1 hI1) ?_
            intro v hp_7 hq
            obtain ⟨rfl, D7, K7, A7, Y7, hS2, hI2, hE7, -⟩ := hq
            clear hS1 hI1 hF hN hf hn hs hp0 hu0
            obtain ⟨hF, hN, hf, hn, hs, hp0, hu0⟩ := hS2
            replace hF : ax_hs hp_7 [cNd n nd me D7, cDk nd D7, cAr nd 2 35840 D7, cAr nd 3 4096 D7, cAr nd 4 32 D7, cAr nd 5 280 D7, cAr nd 6 280 D7, cLd n nd me D7 A7, cAr nd 8 16 D7, cAr nd 9 280 D7, cTb nd gg D7 K7, cAr nd 11 48 D7, cAr nd 12 48 D7, cAr nd 13 48 D7, cAr nd 14 2400 D7, cAr nd 15 512 D7, cAr nd 16 961 D7, cAr nd 17 961 D7, cWk nd D7, cWa nd D7, cAr nd 20 612 D7, cAr nd 21 1152 D7, cRk n nn gg C, cOr n nn gg f] := hF
            have hI7 := hI2
            clear hI2
            have hS9 : NS Z n nd nn gg C me f q u b uv h0 hp_7 D7 K7 A7 Y7 := ⟨hF, hN, hf, hn, hs, hp0, hu0⟩
            have hI9 : NI Z nn D7 := hI7
            exact ar_ret d_55_226 rfl (⟨rfl, _, _, _, _, hS9, hI9, eq_ifF n0 (eq_ifF n1 (eq_ifT hk (eq_ifF cc5 (bnS_eq hE6 (bnS_eq hE7 (rfl)))))), trivial⟩)
        · have n2 := hk
          clear hk
          by_cases hk : u 0 = 3
          · refine ar_tabIn 204 d_55_39 (by rw [hk]; decide) (by rw [hk]; rfl) (by decide) ?_
            refine ar_aload_n 205 d_55_204 rfl rfl ?_
            refine ar_call (r := []) (na := 0) (kd := 0) (cm := 30) (fr2 := fr - 1) (lo2 := lo - 20) 208 d_55_205 (ar_hoV (as := []) rfl rfl rfl (hF.at 0 rfl)) rfl (by omega) (show lo - 20 + (19 + 1) = lo by omega) (Nat.le_of_ble_eq_true rfl) (Nat.le_of_ble_eq_true rfl) (c_30E (by omega) (by omega) hgg (by omega) hnn (hF.sub (F' := [cNd n nd me D, cRk n nn gg C, cOr n nn gg f]) [0, 22, 23] rfl rfl)) ?_
            intro v hh hq
            obtain ⟨rfl, ehh⟩ := hq
            rw [ehh]
            clear ehh
            refine ar_if_eq 226 211 d_55_208 (by decide) rfl (fun cc8 => ?_) (fun cc8 => ?_)
            · have hS9 : NS Z n nd nn gg C me f q u b uv h0 h D K A Y := ⟨hF, hN, hf, hn, hs, hp0, hu0⟩
              have hI9 : NI Z nn D := hI
              exact ar_ret d_55_226 rfl (⟨rfl, _, _, _, _, hS9, hI9, eq_ifF n0 (eq_ifF n1 (eq_ifF n2 (eq_ifT hk (eq_ifT cc8 (rfl))))), trivial⟩)
            · refine ar_aload_n 212 d_55_211 rfl rfl ?_
              refine ar_getf 215 d_55_212 rfl (ci := 7) (k := 4) rfl (hF.at 0 rfl) rfl ?_
              refine ar_aload_n 216 d_55_215 rfl rfl ?_
              have hS1 : NS Z n nd nn gg C me f q u b uv h0 h D K A Y := ⟨hF, hN, hf, hn, hs, hp0, hu0⟩
              have hI1 : NI Z nn D := hI
              refine ar_call (r := []) (na := 0) (kd := 0) (cm := 67) (fr2 := fr - 1) (lo2 := lo - 21) 219 d_55_216 (ar_hoV (as := [.ref (n + 1 + 1 + 2 * q)]) rfl rfl rfl (hF.at 7 rfl)) rfl (by omega) (show lo - 21 + (19 + 2) = lo by omega) (Nat.le_of_ble_eq_true rfl) (Nat.le_of_ble_eq_true rfl) (s_67 (by omega) (by omega) hC0 hS1 hI1 hm) ?_
              intro v hp_9 hq
              obtain ⟨rfl, D9, K9, A9, Y9, hS2, hI2, hE9, -⟩ := hq
              clear hS1 hI1 hF hN hf hn hs hp0 hu0
              obtain ⟨hF, hN, hf, hn, hs, hp0, hu0⟩ := hS2
              replace hF : ax_hs hp_9 [cNd n nd me D9, cDk nd D9, cAr nd 2 35840 D9, cAr nd 3 4096 D9, cAr nd 4 32 D9, cAr nd 5 280 D9, cAr nd 6 280 D9, cLd n nd me D9 A9, cAr nd 8 16 D9, cAr nd 9 280 D9, cTb nd gg D9 K9, cAr nd 11 48 D9, cAr nd 12 48 D9, cAr nd 13 48 D9, cAr nd 14 2400 D9, cAr nd 15 512 D9, cAr nd 16 961 D9, cAr nd 17 961 D9, cWk nd D9, cWa nd D9, cAr nd 20 612 D9, cAr nd 21 1152 D9, cRk n nn gg C, cOr n nn gg f] := hF
              have hI9 := hI2
              clear hI2
              refine ar_aload_n 220 d_55_219 rfl rfl ?_
              refine ar_getf 223 d_55_220 rfl (ci := 7) (k := 4) rfl (hF.at 0 rfl) rfl ?_
              have hS1 : NS Z n nd nn gg C me f q u b uv h0 hp_9 D9 K9 A9 Y9 := ⟨hF, hN, hf, hn, hs, hp0, hu0⟩
              have hI1 : NI Z nn D9 := hI9
              refine ar_call (r := []) (na := 0) (kd := 0) (cm := 91) (fr2 := fr - 1) (lo2 := lo - 21) 226 d_55_223 (ar_hoV (as := []) rfl rfl rfl (hF.at 7 rfl)) rfl (by omega) (show lo - 21 + (19 + 2) = lo by omega) (Nat.le_of_ble_eq_true rfl) (Nat.le_of_ble_eq_true rfl) (s_91 (by omega) (by omega) hC0 hS1 hI1) ?_
              intro v hp_10 hq
              obtain ⟨rfl, D10, K10, A10, Y10, hS2, hI2, hE10, -⟩ := hq
              clear hS1 hI1 hF hN hf hn hs hp0 hu0
              obtain ⟨hF, hN, hf, hn, hs, hp0, hu0⟩ := hS2
              replace hF : ax_hs hp_10 [cNd n nd me D10, cDk nd D10, cAr nd 2 35840 D10, cAr nd 3 4096 D10, cAr nd 4 32 D10, cAr nd 5 280 D10, cAr nd 6 280 D10, cLd n nd me D10 A10, cAr nd 8 16 D10, cAr nd 9 280 D10, cTb nd gg D10 K10, cAr nd 11 48 D10, cAr nd 12 48 D10, cAr nd 13 48 D10, cAr nd 14 2400 D10, cAr nd 15 512 D10, cAr nd 16 961 D10, cAr nd 17 961 D10, cWk nd D10, cWa nd D10, cAr nd 20 612 D10, cAr nd 21 1152 D10, cRk n nn gg C, cOr n nn gg f] := hF
              have hI10 := hI2
              clear hI2
              have hS9 : NS Z n nd nn gg C me f q u b uv h0 hp_10 D10 K10 A10 Y10 := ⟨hF, hN, hf, hn, hs, hp0, hu0⟩
              have hI9 : NI Z nn D10 := hI10
              exact ar_ret d_55_226 rfl (⟨rfl, _, _, _, _, hS9, hI9, eq_ifF n0 (eq_ifF n1 (eq_ifF n2 (eq_ifT hk (eq_ifF cc8 (bnS_eq hE9 (bnS_eq hE10 (rfl))))))), trivial⟩)
          · have n3 := hk
            clear hk
            by_cases hk : u 0 = 4
            · refine ar_tabIn 135 d_55_39 (by rw [hk]; decide) (by rw [hk]; rfl) (by decide) ?_
              refine ar_aload_n 136 d_55_135 rfl rfl ?_
              refine ar_aload_n 137 d_55_136 rfl rfl ?_
              refine ar_getf 140 d_55_137 rfl (ci := 2) (k := 1) rfl hN.mgc rfl ?_
              have hS1 : NS Z n nd nn gg C me f q u b uv h0 h D K A Y := ⟨hF, hN, hf, hn, hs, hp0, hu0⟩
              have hI1 : NI Z nn D := hI
              refine ar_call (r := []) (na := 0) (kd := 0) (cm := 56) (fr2 := fr - 1) (lo2 := lo - 23) 143 d_55_140 (ar_hoV (as := [.int (u 1)]) rfl rfl rfl (hF.at 0 rfl)) rfl (by omega) (show lo - 23 + (19 + 4) = lo by omega) (Nat.le_of_ble_eq_true rfl) (Nat.le_of_ble_eq_true rfl) (s_56 (by omega) (by omega) hC0 hS1 hI1) ?_
              intro v hp_11 hq
              obtain ⟨rfl, D11, K11, A11, Y11, hS2, hI2, hE11, -⟩ := hq
              clear hS1 hI1 hF hN hf hn hs hp0 hu0
              obtain ⟨hF, hN, hf, hn, hs, hp0, hu0⟩ := hS2
              replace hF : ax_hs hp_11 [cNd n nd me D11, cDk nd D11, cAr nd 2 35840 D11, cAr nd 3 4096 D11, cAr nd 4 32 D11, cAr nd 5 280 D11, cAr nd 6 280 D11, cLd n nd me D11 A11, cAr nd 8 16 D11, cAr nd 9 280 D11, cTb nd gg D11 K11, cAr nd 11 48 D11, cAr nd 12 48 D11, cAr nd 13 48 D11, cAr nd 14 2400 D11, cAr nd 15 512 D11, cAr nd 16 961 D11, cAr nd 17 961 D11, cWk nd D11, cWa nd D11, cAr nd 20 612 D11, cAr nd 21 1152 D11, cRk n nn gg C, cOr n nn gg f] := hF
              have hI11 := hI2
              clear hI2
              refine ar_goto 226 d_55_143 (by decide) ?_
              have hS9 : NS Z n nd nn gg C me f q u b uv h0 hp_11 D11 K11 A11 Y11 := ⟨hF, hN, hf, hn, hs, hp0, hu0⟩
              have hI9 : NI Z nn D11 := hI11
              exact ar_ret d_55_226 rfl (⟨rfl, _, _, _, _, hS9, hI9, eq_ifF n0 (eq_ifF n1 (eq_ifF n2 (eq_ifF n3 (eq_ifT hk (bnS_eq hE11 (rfl)))))), trivial⟩)
            · have n4 := hk
              clear hk
              by_cases hk : u 0 = 5
              · refine ar_tabIn 204 d_55_39 (by rw [hk]; decide) (by rw [hk]; rfl) (by decide) ?_
                refine ar_aload_n 205 d_55_204 rfl rfl ?_
                refine ar_call (r := []) (na := 0) (kd := 0) (cm := 30) (fr2 := fr - 1) (lo2 := lo - 20) 208 d_55_205 (ar_hoV (as := []) rfl rfl rfl (hF.at 0 rfl)) rfl (by omega) (show lo - 20 + (19 + 1) = lo by omega) (Nat.le_of_ble_eq_true rfl) (Nat.le_of_ble_eq_true rfl) (c_30E (by omega) (by omega) hgg (by omega) hnn (hF.sub (F' := [cNd n nd me D, cRk n nn gg C, cOr n nn gg f]) [0, 22, 23] rfl rfl)) ?_
                intro v hh hq
                obtain ⟨rfl, ehh⟩ := hq
                rw [ehh]
                clear ehh
                refine ar_if_eq 226 211 d_55_208 (by decide) rfl (fun cc12 => ?_) (fun cc12 => ?_)
                · have hS9 : NS Z n nd nn gg C me f q u b uv h0 h D K A Y := ⟨hF, hN, hf, hn, hs, hp0, hu0⟩
                  have hI9 : NI Z nn D := hI
                  exact ar_ret d_55_226 rfl (⟨rfl, _, _, _, _, hS9, hI9, eq_ifF n0 (eq_ifF n1 (eq_ifF n2 (eq_ifF n3 (eq_ifF n4 (eq_ifT hk (eq_ifT cc12 (rfl))))))), trivial⟩)
                · refine ar_aload_n 212 d_55_211 rfl rfl ?_
                  refine ar_getf 215 d_55_212 rfl (ci := 7) (k := 4) rfl (hF.at 0 rfl) rfl ?_
                  refine ar_aload_n 216 d_55_215 rfl rfl ?_
                  have hS1 : NS Z n nd nn gg C me f q u b uv h0 h D K A Y := ⟨hF, hN, hf, hn, hs, hp0, hu0⟩
                  have hI1 : NI Z nn D := hI
                  refine ar_call (r := []) (na := 0) (kd := 0) (cm := 67) (fr2 := fr - 1) (lo2 := lo - 21) 219 d_55_216 (ar_hoV (as := [.ref (n + 1 + 1 + 2 * q)]) rfl rfl rfl (hF.at 7 rfl)) rfl (by omega) (show lo - 21 + (19 + 2) = lo by omega) (Nat.le_of_ble_eq_true rfl) (Nat.le_of_ble_eq_true rfl) (s_67 (by omega) (by omega) hC0 hS1 hI1 hm) ?_
                  intro v hp_13 hq
                  obtain ⟨rfl, D13, K13, A13, Y13, hS2, hI2, hE13, -⟩ := hq
                  clear hS1 hI1 hF hN hf hn hs hp0 hu0
                  obtain ⟨hF, hN, hf, hn, hs, hp0, hu0⟩ := hS2
                  replace hF : ax_hs hp_13 [cNd n nd me D13, cDk nd D13, cAr nd 2 35840 D13, cAr nd 3 4096 D13, cAr nd 4 32 D13, cAr nd 5 280 D13, cAr nd 6 280 D13, cLd n nd me D13 A13, cAr nd 8 16 D13, cAr nd 9 280 D13, cTb nd gg D13 K13, cAr nd 11 48 D13, cAr nd 12 48 D13, cAr nd 13 48 D13, cAr nd 14 2400 D13, cAr nd 15 512 D13, cAr nd 16 961 D13, cAr nd 17 961 D13, cWk nd D13, cWa nd D13, cAr nd 20 612 D13, cAr nd 21 1152 D13, cRk n nn gg C, cOr n nn gg f] := hF
                  have hI13 := hI2
                  clear hI2
                  refine ar_aload_n 220 d_55_219 rfl rfl ?_
                  refine ar_getf 223 d_55_220 rfl (ci := 7) (k := 4) rfl (hF.at 0 rfl) rfl ?_
                  have hS1 : NS Z n nd nn gg C me f q u b uv h0 hp_13 D13 K13 A13 Y13 := ⟨hF, hN, hf, hn, hs, hp0, hu0⟩
                  have hI1 : NI Z nn D13 := hI13
                  refine ar_call (r := []) (na := 0) (kd := 0) (cm := 91) (fr2 := fr - 1) (lo2 := lo - 21) 226 d_55_223 (ar_hoV (as := []) rfl rfl rfl (hF.at 7 rfl)) rfl (by omega) (show lo - 21 + (19 + 2) = lo by omega) (Nat.le_of_ble_eq_true rfl) (Nat.le_of_ble_eq_true rfl) (s_91 (by omega) (by omega) hC0 hS1 hI1) ?_
                  intro v hp_14 hq
                  obtain ⟨rfl, D14, K14, A14, Y14, hS2, hI2, hE14, -⟩ := hq
                  clear hS1 hI1 hF hN hf hn hs hp0 hu0
                  obtain ⟨hF, hN, hf, hn, hs, hp0, hu0⟩ := hS2
                  replace hF : ax_hs hp_14 [cNd n nd me D14, cDk nd D14, cAr nd 2 35840 D14, cAr nd 3 4096 D14, cAr nd 4 32 D14, cAr nd 5 280 D14, cAr nd 6 280 D14, cLd n nd me D14 A14, cAr nd 8 16 D14, cAr nd 9 280 D14, cTb nd gg D14 K14, cAr nd 11 48 D14, cAr nd 12 48 D14, cAr nd 13 48 D14, cAr nd 14 2400 D14, cAr nd 15 512 D14, cAr nd 16 961 D14, cAr nd 17 961 D14, cWk nd D14, cWa nd D14, cAr nd 20 612 D14, cAr nd 21 1152 D14, cRk n nn gg C, cOr n nn gg f] := hF
                  have hI14 := hI2
                  clear hI2
                  have hS9 : NS Z n nd nn gg C me f q u b uv h0 hp_14 D14 K14 A14 Y14 := ⟨hF, hN, hf, hn, hs, hp0, hu0⟩
                  have hI9 : NI Z nn D14 := hI14
                  exact ar_ret d_55_226 rfl (⟨rfl, _, _, _, _, hS9, hI9, eq_ifF n0 (eq_ifF n1 (eq_ifF n2 (eq_ifF n3 (eq_ifF n4 (eq_ifT hk (eq_ifF cc12 (bnS_eq hE13 (bnS_eq hE14 (rfl))))))))), trivial⟩)
              · have n5 := hk
                clear hk
                by_cases hk : u 0 = 6
                · refine ar_tabIn 146 d_55_39 (by rw [hk]; decide) (by rw [hk]; rfl) (by decide) ?_
                  refine ar_aload_n 147 d_55_146 rfl rfl ?_
                  refine ar_bipush 149 (v := 7) d_55_147 rfl (by decide) ?_
                  refine ar_aload_n 150 d_55_149 rfl rfl ?_
                  refine ar_getf 153 d_55_150 rfl (ci := 2) (k := 5) rfl hN.mgc rfl ?_
                  refine ar_aload_n 154 d_55_153 rfl rfl ?_
                  refine ar_getf 157 d_55_154 rfl (ci := 2) (k := 1) rfl hN.mgc rfl ?_
                  refine ar_aload_n 158 d_55_157 rfl rfl ?_
                  refine ar_getf 161 d_55_158 rfl (ci := 2) (k := 1) rfl hN.mgc rfl ?_
                  have hS1 : NS Z n nd nn gg C me f q u b uv h0 h D K A Y := ⟨hF, hN, hf, hn, hs, hp0, hu0⟩
                  have hI1 : NI Z nn D := hI
                  refine ar_call (r := []) (na := 0) (kd := 0) (cm := 58) (fr2 := fr - 1) (lo2 := lo - 26) 164 d_55_161 (ar_hoV (as := [.int 7, .int (u 5), .int (u 1), .int (u 1)]) rfl rfl rfl (hF.at 0 rfl)) rfl (by omega) (show lo - 26 + (19 + 7) = lo by omega) (Nat.le_of_ble_eq_true rfl) (Nat.le_of_ble_eq_true rfl) (s_58 (by omega) (by omega) hC0 hS1 hI1 (Or.inl rfl)) ?_
                  intro v hp_15 hq
                  obtain ⟨rfl, D15, K15, A15, Y15, hS2, hI2, hE15, -⟩ := hq
                  clear hS1 hI1 hF hN hf hn hs hp0 hu0
                  obtain ⟨hF, hN, hf, hn, hs, hp0, hu0⟩ := hS2
                  replace hF : ax_hs hp_15 [cNd n nd me D15, cDk nd D15, cAr nd 2 35840 D15, cAr nd 3 4096 D15, cAr nd 4 32 D15, cAr nd 5 280 D15, cAr nd 6 280 D15, cLd n nd me D15 A15, cAr nd 8 16 D15, cAr nd 9 280 D15, cTb nd gg D15 K15, cAr nd 11 48 D15, cAr nd 12 48 D15, cAr nd 13 48 D15, cAr nd 14 2400 D15, cAr nd 15 512 D15, cAr nd 16 961 D15, cAr nd 17 961 D15, cWk nd D15, cWa nd D15, cAr nd 20 612 D15, cAr nd 21 1152 D15, cRk n nn gg C, cOr n nn gg f] := hF
                  have hI15 := hI2
                  clear hI2
                  refine ar_goto 226 d_55_164 (by decide) ?_
                  have hS9 : NS Z n nd nn gg C me f q u b uv h0 hp_15 D15 K15 A15 Y15 := ⟨hF, hN, hf, hn, hs, hp0, hu0⟩
                  have hI9 : NI Z nn D15 := hI15
                  exact ar_ret d_55_226 rfl (⟨rfl, _, _, _, _, hS9, hI9, eq_ifF n0 (eq_ifF n1 (eq_ifF n2 (eq_ifF n3 (eq_ifF n4 (eq_ifF n5 (eq_ifT hk (bnS_eq hE15 (rfl)))))))), trivial⟩)
                · have n6 := hk
                  clear hk
                  by_cases hk : u 0 = 7
                  · refine ar_tabIn 204 d_55_39 (by rw [hk]; decide) (by rw [hk]; rfl) (by decide) ?_
                    refine ar_aload_n 205 d_55_204 rfl rfl ?_
                    refine ar_call (r := []) (na := 0) (kd := 0) (cm := 30) (fr2 := fr - 1) (lo2 := lo - 20) 208 d_55_205 (ar_hoV (as := []) rfl rfl rfl (hF.at 0 rfl)) rfl (by omega) (show lo - 20 + (19 + 1) = lo by omega) (Nat.le_of_ble_eq_true rfl) (Nat.le_of_ble_eq_true rfl) (c_30E (by omega) (by omega) hgg (by omega) hnn (hF.sub (F' := [cNd n nd me D, cRk n nn gg C, cOr n nn gg f]) [0, 22, 23] rfl rfl)) ?_
                    intro v hh hq
                    obtain ⟨rfl, ehh⟩ := hq
                    rw [ehh]
                    clear ehh
                    refine ar_if_eq 226 211 d_55_208 (by decide) rfl (fun cc16 => ?_) (fun cc16 => ?_)
                    · have hS9 : NS Z n nd nn gg C me f q u b uv h0 h D K A Y := ⟨hF, hN, hf, hn, hs, hp0, hu0⟩
                      have hI9 : NI Z nn D := hI
                      exact ar_ret d_55_226 rfl (⟨rfl, _, _, _, _, hS9, hI9, eq_ifF n0 (eq_ifF n1 (eq_ifF n2 (eq_ifF n3 (eq_ifF n4 (eq_ifF n5 (eq_ifF n6 (eq_ifT hk (eq_ifT cc16 (rfl))))))))), trivial⟩)
                    · refine ar_aload_n 212 d_55_211 rfl rfl ?_
                      refine ar_getf 215 d_55_212 rfl (ci := 7) (k := 4) rfl (hF.at 0 rfl) rfl ?_
                      refine ar_aload_n 216 d_55_215 rfl rfl ?_
                      have hS1 : NS Z n nd nn gg C me f q u b uv h0 h D K A Y := ⟨hF, hN, hf, hn, hs, hp0, hu0⟩
                      have hI1 : NI Z nn D := hI
                      refine ar_call (r := []) (na := 0) (kd := 0) (cm := 67) (fr2 := fr - 1) (lo2 := lo - 21) 219 d_55_216 (ar_hoV (as := [.ref (n + 1 + 1 + 2 * q)]) rfl rfl rfl (hF.at 7 rfl)) rfl (by omega) (show lo - 21 + (19 + 2) = lo by omega) (Nat.le_of_ble_eq_true rfl) (Nat.le_of_ble_eq_true rfl) (s_67 (by omega) (by omega) hC0 hS1 hI1 hm) ?_
                      intro v hp_17 hq
                      obtain ⟨rfl, D17, K17, A17, Y17, hS2, hI2, hE17, -⟩ := hq
                      clear hS1 hI1 hF hN hf hn hs hp0 hu0
                      obtain ⟨hF, hN, hf, hn, hs, hp0, hu0⟩ := hS2
                      replace hF : ax_hs hp_17 [cNd n nd me D17, cDk nd D17, cAr nd 2 35840 D17, cAr nd 3 4096 D17, cAr nd 4 32 D17, cAr nd 5 280 D17, cAr nd 6 280 D17, cLd n nd me D17 A17, cAr nd 8 16 D17, cAr nd 9 280 D17, cTb nd gg D17 K17, cAr nd 11 48 D17, cAr nd 12 48 D17, cAr nd 13 48 D17, cAr nd 14 2400 D17, cAr nd 15 512 D17, cAr nd 16 961 D17, cAr nd 17 961 D17, cWk nd D17, cWa nd D17, cAr nd 20 612 D17, cAr nd 21 1152 D17, cRk n nn gg C, cOr n nn gg f] := hF
                      have hI17 := hI2
                      clear hI2
                      refine ar_aload_n 220 d_55_219 rfl rfl ?_
                      refine ar_getf 223 d_55_220 rfl (ci := 7) (k := 4) rfl (hF.at 0 rfl) rfl ?_
                      have hS1 : NS Z n nd nn gg C me f q u b uv h0 hp_17 D17 K17 A17 Y17 := ⟨hF, hN, hf, hn, hs, hp0, hu0⟩
                      have hI1 : NI Z nn D17 := hI17
                      refine ar_call (r := []) (na := 0) (kd := 0) (cm := 91) (fr2 := fr - 1) (lo2 := lo - 21) 226 d_55_223 (ar_hoV (as := []) rfl rfl rfl (hF.at 7 rfl)) rfl (by omega) (show lo - 21 + (19 + 2) = lo by omega) (Nat.le_of_ble_eq_true rfl) (Nat.le_of_ble_eq_true rfl) (s_91 (by omega) (by omega) hC0 hS1 hI1) ?_
                      intro v hp_18 hq
                      obtain ⟨rfl, D18, K18, A18, Y18, hS2, hI2, hE18, -⟩ := hq
                      clear hS1 hI1 hF hN hf hn hs hp0 hu0
                      obtain ⟨hF, hN, hf, hn, hs, hp0, hu0⟩ := hS2
                      replace hF : ax_hs hp_18 [cNd n nd me D18, cDk nd D18, cAr nd 2 35840 D18, cAr nd 3 4096 D18, cAr nd 4 32 D18, cAr nd 5 280 D18, cAr nd 6 280 D18, cLd n nd me D18 A18, cAr nd 8 16 D18, cAr nd 9 280 D18, cTb nd gg D18 K18, cAr nd 11 48 D18, cAr nd 12 48 D18, cAr nd 13 48 D18, cAr nd 14 2400 D18, cAr nd 15 512 D18, cAr nd 16 961 D18, cAr nd 17 961 D18, cWk nd D18, cWa nd D18, cAr nd 20 612 D18, cAr nd 21 1152 D18, cRk n nn gg C, cOr n nn gg f] := hF
                      have hI18 := hI2
                      clear hI2
                      have hS9 : NS Z n nd nn gg C me f q u b uv h0 hp_18 D18 K18 A18 Y18 := ⟨hF, hN, hf, hn, hs, hp0, hu0⟩
                      have hI9 : NI Z nn D18 := hI18
                      exact ar_ret d_55_226 rfl (⟨rfl, _, _, _, _, hS9, hI9, eq_ifF n0 (eq_ifF n1 (eq_ifF n2 (eq_ifF n3 (eq_ifF n4 (eq_ifF n5 (eq_ifF n6 (eq_ifT hk (eq_ifF cc16 (bnS_eq hE17 (bnS_eq hE18 (rfl))))))))))), trivial⟩)
                  · have n7 := hk
                    clear hk
                    by_cases hk : u 0 = 8
                    · refine ar_tabIn 204 d_55_39 (by rw [hk]; decide) (by rw [hk]; rfl) (by decide) ?_
                      refine ar_aload_n 205 d_55_204 rfl rfl ?_
                      refine ar_call (r := []) (na := 0) (kd := 0) (cm := 30) (fr2 := fr - 1) (lo2 := lo - 20) 208 d_55_205 (ar_hoV (as := []) rfl rfl rfl (hF.at 0 rfl)) rfl (by omega) (show lo - 20 + (19 + 1) = lo by omega) (Nat.le_of_ble_eq_true rfl) (Nat.le_of_ble_eq_true rfl) (c_30E (by omega) (by omega) hgg (by omega) hnn (hF.sub (F' := [cNd n nd me D, cRk n nn gg C, cOr n nn gg f]) [0, 22, 23] rfl rfl)) ?_
                      intro v hh hq
                      obtain ⟨rfl, ehh⟩ := hq
                      rw [ehh]
                      clear ehh
                      refine ar_if_eq 226 211 d_55_208 (by decide) rfl (fun cc19 => ?_) (fun cc19 => ?_)
                      · have hS9 : NS Z n nd nn gg C me f q u b uv h0 h D K A Y := ⟨hF, hN, hf, hn, hs, hp0, hu0⟩
                        have hI9 : NI Z nn D := hI
                        exact ar_ret d_55_226 rfl (⟨rfl, _, _, _, _, hS9, hI9, eq_ifF n0 (eq_ifF n1 (eq_ifF n2 (eq_ifF n3 (eq_ifF n4 (eq_ifF n5 (eq_ifF n6 (eq_ifF n7 (eq_ifT hk (eq_ifT cc19 (rfl)))))))))), trivial⟩)
                      · refine ar_aload_n 212 d_55_211 rfl rfl ?_
                        refine ar_getf 215 d_55_212 rfl (ci := 7) (k := 4) rfl (hF.at 0 rfl) rfl ?_
                        refine ar_aload_n 216 d_55_215 rfl rfl ?_
                        have hS1 : NS Z n nd nn gg C me f q u b uv h0 h D K A Y := ⟨hF, hN, hf, hn, hs, hp0, hu0⟩
                        have hI1 : NI Z nn D := hI
                        refine ar_call (r := []) (na := 0) (kd := 0) (cm := 67) (fr2 := fr - 1) (lo2 := lo - 21) 219 d_55_216 (ar_hoV (as := [.ref (n + 1 + 1 + 2 * q)]) rfl rfl rfl (hF.at 7 rfl)) rfl (by omega) (show lo - 21 + (19 + 2) = lo by omega) (Nat.le_of_ble_eq_true rfl) (Nat.le_of_ble_eq_true rfl) (s_67 (by omega) (by omega) hC0 hS1 hI1 hm) ?_
                        intro v hp_20 hq
                        obtain ⟨rfl, D20, K20, A20, Y20, hS2, hI2, hE20, -⟩ := hq
                        clear hS1 hI1 hF hN hf hn hs hp0 hu0
                        obtain ⟨hF, hN, hf, hn, hs, hp0, hu0⟩ := hS2
                        replace hF : ax_hs hp_20 [cNd n nd me D20, cDk nd D20, cAr nd 2 35840 D20, cAr nd 3 4096 D20, cAr nd 4 32 D20, cAr nd 5 280 D20, cAr nd 6 280 D20, cLd n nd me D20 A20, cAr nd 8 16 D20, cAr nd 9 280 D20, cTb nd gg D20 K20, cAr nd 11 48 D20, cAr nd 12 48 D20, cAr nd 13 48 D20, cAr nd 14 2400 D20, cAr nd 15 512 D20, cAr nd 16 961 D20, cAr nd 17 961 D20, cWk nd D20, cWa nd D20, cAr nd 20 612 D20, cAr nd 21 1152 D20, cRk n nn gg C, cOr n nn gg f] := hF
                        have hI20 := hI2
                        clear hI2
                        refine ar_aload_n 220 d_55_219 rfl rfl ?_
                        refine ar_getf 223 d_55_220 rfl (ci := 7) (k := 4) rfl (hF.at 0 rfl) rfl ?_
                        have hS1 : NS Z n nd nn gg C me f q u b uv h0 hp_20 D20 K20 A20 Y20 := ⟨hF, hN, hf, hn, hs, hp0, hu0⟩
                        have hI1 : NI Z nn D20 := hI20
                        refine ar_call (r := []) (na := 0) (kd := 0) (cm := 91) (fr2 := fr - 1) (lo2 := lo - 21) 226 d_55_223 (ar_hoV (as := []) rfl rfl rfl (hF.at 7 rfl)) rfl (by omega) (show lo - 21 + (19 + 2) = lo by omega) (Nat.le_of_ble_eq_true rfl) (Nat.le_of_ble_eq_true rfl) (s_91 (by omega) (by omega) hC0 hS1 hI1) ?_
                        intro v hp_21 hq
                        obtain ⟨rfl, D21, K21, A21, Y21, hS2, hI2, hE21, -⟩ := hq
                        clear hS1 hI1 hF hN hf hn hs hp0 hu0
                        obtain ⟨hF, hN, hf, hn, hs, hp0, hu0⟩ := hS2
                        replace hF : ax_hs hp_21 [cNd n nd me D21, cDk nd D21, cAr nd 2 35840 D21, cAr nd 3 4096 D21, cAr nd 4 32 D21, cAr nd 5 280 D21, cAr nd 6 280 D21, cLd n nd me D21 A21, cAr nd 8 16 D21, cAr nd 9 280 D21, cTb nd gg D21 K21, cAr nd 11 48 D21, cAr nd 12 48 D21, cAr nd 13 48 D21, cAr nd 14 2400 D21, cAr nd 15 512 D21, cAr nd 16 961 D21, cAr nd 17 961 D21, cWk nd D21, cWa nd D21, cAr nd 20 612 D21, cAr nd 21 1152 D21, cRk n nn gg C, cOr n nn gg f] := hF
                        have hI21 := hI2
                        clear hI2
                        have hS9 : NS Z n nd nn gg C me f q u b uv h0 hp_21 D21 K21 A21 Y21 := ⟨hF, hN, hf, hn, hs, hp0, hu0⟩
                        have hI9 : NI Z nn D21 := hI21
                        exact ar_ret d_55_226 rfl (⟨rfl, _, _, _, _, hS9, hI9, eq_ifF n0 (eq_ifF n1 (eq_ifF n2 (eq_ifF n3 (eq_ifF n4 (eq_ifF n5 (eq_ifF n6 (eq_ifF n7 (eq_ifT hk (eq_ifF cc19 (bnS_eq hE20 (bnS_eq hE21 (rfl)))))))))))), trivial⟩)
                    · have n8 := hk
                      clear hk
                      by_cases hk : u 0 = 9
                      · refine ar_tabIn 167 d_55_39 (by rw [hk]; decide) (by rw [hk]; rfl) (by decide) ?_
                        refine ar_aload_n 168 d_55_167 rfl rfl ?_
                        refine ar_bipush 170 (v := 10) d_55_168 rfl (by decide) ?_
                        refine ar_aload_n 171 d_55_170 rfl rfl ?_
                        refine ar_getf 174 d_55_171 rfl (ci := 2) (k := 5) rfl hN.mgc rfl ?_
                        refine ar_aload_n 175 d_55_174 rfl rfl ?_
                        refine ar_getf 178 d_55_175 rfl (ci := 2) (k := 6) rfl hN.mgc rfl ?_
                        refine ar_aload_n 179 d_55_178 rfl rfl ?_
                        refine ar_getf 182 d_55_179 rfl (ci := 2) (k := 1) rfl hN.mgc rfl ?_
                        have hS1 : NS Z n nd nn gg C me f q u b uv h0 h D K A Y := ⟨hF, hN, hf, hn, hs, hp0, hu0⟩
                        have hI1 : NI Z nn D := hI
                        refine ar_call (r := []) (na := 0) (kd := 0) (cm := 58) (fr2 := fr - 1) (lo2 := lo - 26) 185 d_55_182 (ar_hoV (as := [.int 10, .int (u 5), .int (u 6), .int (u 1)]) rfl rfl rfl (hF.at 0 rfl)) rfl (by omega) (show lo - 26 + (19 + 7) = lo by omega) (Nat.le_of_ble_eq_true rfl) (Nat.le_of_ble_eq_true rfl) (s_58 (by omega) (by omega) hC0 hS1 hI1 (Or.inr rfl)) ?_
                        intro v hp_22 hq
                        obtain ⟨rfl, D22, K22, A22, Y22, hS2, hI2, hE22, -⟩ := hq
                        clear hS1 hI1 hF hN hf hn hs hp0 hu0
                        obtain ⟨hF, hN, hf, hn, hs, hp0, hu0⟩ := hS2
                        replace hF : ax_hs hp_22 [cNd n nd me D22, cDk nd D22, cAr nd 2 35840 D22, cAr nd 3 4096 D22, cAr nd 4 32 D22, cAr nd 5 280 D22, cAr nd 6 280 D22, cLd n nd me D22 A22, cAr nd 8 16 D22, cAr nd 9 280 D22, cTb nd gg D22 K22, cAr nd 11 48 D22, cAr nd 12 48 D22, cAr nd 13 48 D22, cAr nd 14 2400 D22, cAr nd 15 512 D22, cAr nd 16 961 D22, cAr nd 17 961 D22, cWk nd D22, cWa nd D22, cAr nd 20 612 D22, cAr nd 21 1152 D22, cRk n nn gg C, cOr n nn gg f] := hF
                        have hI22 := hI2
                        clear hI2
                        refine ar_goto 226 d_55_185 (by decide) ?_
                        have hS9 : NS Z n nd nn gg C me f q u b uv h0 hp_22 D22 K22 A22 Y22 := ⟨hF, hN, hf, hn, hs, hp0, hu0⟩
                        have hI9 : NI Z nn D22 := hI22
                        exact ar_ret d_55_226 rfl (⟨rfl, _, _, _, _, hS9, hI9, eq_ifF n0 (eq_ifF n1 (eq_ifF n2 (eq_ifF n3 (eq_ifF n4 (eq_ifF n5 (eq_ifF n6 (eq_ifF n7 (eq_ifF n8 (eq_ifT hk (bnS_eq hE22 (rfl))))))))))), trivial⟩)
                      · have n9 := hk
                        clear hk
                        by_cases hk : u 0 = 10
                        · refine ar_tabIn 188 d_55_39 (by rw [hk]; decide) (by rw [hk]; rfl) (by decide) ?_
                          refine ar_aload_n 189 d_55_188 rfl rfl ?_
                          refine ar_aload_n 190 d_55_189 rfl rfl ?_
                          have hS1 : NS Z n nd nn gg C me f q u b uv h0 h D K A Y := ⟨hF, hN, hf, hn, hs, hp0, hu0⟩
                          have hI1 : NI Z nn D := hI
                          refine ar_call (r := []) (na := 0) (kd := 0) (cm := 59) (fr2 := fr - 1) (lo2 := lo - 23) 193 d_55_190 (ar_hoV (as := [.ref (n + 1 + 1 + 2 * q)]) rfl rfl rfl (hF.at 0 rfl)) rfl (by omega) (show lo - 23 + (19 + 4) = lo by omega) (Nat.le_of_ble_eq_true rfl) (Nat.le_of_ble_eq_true rfl) (s_59 (by omega) (by omega) hC0 hS1 hI1 hup (hm.2.2.1 (Or.inr hk))) ?_
                          intro v hp_23 hq
                          obtain ⟨rfl, D23, K23, A23, Y23, hS2, hI2, hE23, -⟩ := hq
                          clear hS1 hI1 hF hN hf hn hs hp0 hu0
                          obtain ⟨hF, hN, hf, hn, hs, hp0, hu0⟩ := hS2
                          replace hF : ax_hs hp_23 [cNd n nd me D23, cDk nd D23, cAr nd 2 35840 D23, cAr nd 3 4096 D23, cAr nd 4 32 D23, cAr nd 5 280 D23, cAr nd 6 280 D23, cLd n nd me D23 A23, cAr nd 8 16 D23, cAr nd 9 280 D23, cTb nd gg D23 K23, cAr nd 11 48 D23, cAr nd 12 48 D23, cAr nd 13 48 D23, cAr nd 14 2400 D23, cAr nd 15 512 D23, cAr nd 16 961 D23, cAr nd 17 961 D23, cWk nd D23, cWa nd D23, cAr nd 20 612 D23, cAr nd 21 1152 D23, cRk n nn gg C, cOr n nn gg f] := hF
                          have hI23 := hI2
                          clear hI2
                          refine ar_goto 226 d_55_193 (by decide) ?_
                          have hS9 : NS Z n nd nn gg C me f q u b uv h0 hp_23 D23 K23 A23 Y23 := ⟨hF, hN, hf, hn, hs, hp0, hu0⟩
                          have hI9 : NI Z nn D23 := hI23
                          exact ar_ret d_55_226 rfl (⟨rfl, _, _, _, _, hS9, hI9, eq_ifF n0 (eq_ifF n1 (eq_ifF n2 (eq_ifF n3 (eq_ifF n4 (eq_ifF n5 (eq_ifF n6 (eq_ifF n7 (eq_ifF n8 (eq_ifF n9 (eq_ifT hk (bnS_eq hE23 (rfl)))))))))))), trivial⟩)
                        · have n10 := hk
                          clear hk
                          by_cases hk : u 0 = 11
                          · refine ar_tabIn 204 d_55_39 (by rw [hk]; decide) (by rw [hk]; rfl) (by decide) ?_
                            refine ar_aload_n 205 d_55_204 rfl rfl ?_
                            refine ar_call (r := []) (na := 0) (kd := 0) (cm := 30) (fr2 := fr - 1) (lo2 := lo - 20) 208 d_55_205 (ar_hoV (as := []) rfl rfl rfl (hF.at 0 rfl)) rfl (by omega) (show lo - 20 + (19 + 1) = lo by omega) (Nat.le_of_ble_eq_true rfl) (Nat.le_of_ble_eq_true rfl) (c_30E (by omega) (by omega) hgg (by omega) hnn (hF.sub (F' := [cNd n nd me D, cRk n nn gg C, cOr n nn gg f]) [0, 22, 23] rfl rfl)) ?_
                            intro v hh hq
                            obtain ⟨rfl, ehh⟩ := hq
                            rw [ehh]
                            clear ehh
                            refine ar_if_eq 226 211 d_55_208 (by decide) rfl (fun cc24 => ?_) (fun cc24 => ?_)
                            · have hS9 : NS Z n nd nn gg C me f q u b uv h0 h D K A Y := ⟨hF, hN, hf, hn, hs, hp0, hu0⟩
                              have hI9 : NI Z nn D := hI
                              exact ar_ret d_55_226 rfl (⟨rfl, _, _, _, _, hS9, hI9, eq_ifF n0 (eq_ifF n1 (eq_ifF n2 (eq_ifF n3 (eq_ifF n4 (eq_ifF n5 (eq_ifF n6 (eq_ifF n7 (eq_ifF n8 (eq_ifF n9 (eq_ifF n10 (eq_ifT hk (eq_ifT cc24 (rfl))))))))))))), trivial⟩)
                            · refine ar_aload_n 212 d_55_211 rfl rfl ?_
                              refine ar_getf 215 d_55_212 rfl (ci := 7) (k := 4) rfl (hF.at 0 rfl) rfl ?_
                              refine ar_aload_n 216 d_55_215 rfl rfl ?_
                              have hS1 : NS Z n nd nn gg C me f q u b uv h0 h D K A Y := ⟨hF, hN, hf, hn, hs, hp0, hu0⟩
                              have hI1 : NI Z nn D := hI
                              refine ar_call (r := []) (na := 0) (kd := 0) (cm := 67) (fr2 := fr - 1) (lo2 := lo - 21) 219 d_55_216 (ar_hoV (as := [.ref (n + 1 + 1 + 2 * q)]) rfl rfl rfl (hF.at 7 rfl)) rfl (by omega) (show lo - 21 + (19 + 2) = lo by omega) (Nat.le_of_ble_eq_true rfl) (Nat.le_of_ble_eq_true rfl) (s_67 (by omega) (by omega) hC0 hS1 hI1 hm) ?_
                              intro v hp_25 hq
                              obtain ⟨rfl, D25, K25, A25, Y25, hS2, hI2, hE25, -⟩ := hq
                              clear hS1 hI1 hF hN hf hn hs hp0 hu0
                              obtain ⟨hF, hN, hf, hn, hs, hp0, hu0⟩ := hS2
                              replace hF : ax_hs hp_25 [cNd n nd me D25, cDk nd D25, cAr nd 2 35840 D25, cAr nd 3 4096 D25, cAr nd 4 32 D25, cAr nd 5 280 D25, cAr nd 6 280 D25, cLd n nd me D25 A25, cAr nd 8 16 D25, cAr nd 9 280 D25, cTb nd gg D25 K25, cAr nd 11 48 D25, cAr nd 12 48 D25, cAr nd 13 48 D25, cAr nd 14 2400 D25, cAr nd 15 512 D25, cAr nd 16 961 D25, cAr nd 17 961 D25, cWk nd D25, cWa nd D25, cAr nd 20 612 D25, cAr nd 21 1152 D25, cRk n nn gg C, cOr n nn gg f] := hF
                              have hI25 := hI2
                              clear hI2
                              refine ar_aload_n 220 d_55_219 rfl rfl ?_
                              refine ar_getf 223 d_55_220 rfl (ci := 7) (k := 4) rfl (hF.at 0 rfl) rfl ?_
                              have hS1 : NS Z n nd nn gg C me f q u b uv h0 hp_25 D25 K25 A25 Y25 := ⟨hF, hN, hf, hn, hs, hp0, hu0⟩
                              have hI1 : NI Z nn D25 := hI25
                              refine ar_call (r := []) (na := 0) (kd := 0) (cm := 91) (fr2 := fr - 1) (lo2 := lo - 21) 226 d_55_223 (ar_hoV (as := []) rfl rfl rfl (hF.at 7 rfl)) rfl (by omega) (show lo - 21 + (19 + 2) = lo by omega) (Nat.le_of_ble_eq_true rfl) (Nat.le_of_ble_eq_true rfl) (s_91 (by omega) (by omega) hC0 hS1 hI1) ?_
                              intro v hp_26 hq
                              obtain ⟨rfl, D26, K26, A26, Y26, hS2, hI2, hE26, -⟩ := hq
                              clear hS1 hI1 hF hN hf hn hs hp0 hu0
                              obtain ⟨hF, hN, hf, hn, hs, hp0, hu0⟩ := hS2
                              replace hF : ax_hs hp_26 [cNd n nd me D26, cDk nd D26, cAr nd 2 35840 D26, cAr nd 3 4096 D26, cAr nd 4 32 D26, cAr nd 5 280 D26, cAr nd 6 280 D26, cLd n nd me D26 A26, cAr nd 8 16 D26, cAr nd 9 280 D26, cTb nd gg D26 K26, cAr nd 11 48 D26, cAr nd 12 48 D26, cAr nd 13 48 D26, cAr nd 14 2400 D26, cAr nd 15 512 D26, cAr nd 16 961 D26, cAr nd 17 961 D26, cWk nd D26, cWa nd D26, cAr nd 20 612 D26, cAr nd 21 1152 D26, cRk n nn gg C, cOr n nn gg f] := hF
                              have hI26 := hI2
                              clear hI2
                              have hS9 : NS Z n nd nn gg C me f q u b uv h0 hp_26 D26 K26 A26 Y26 := ⟨hF, hN, hf, hn, hs, hp0, hu0⟩
                              have hI9 : NI Z nn D26 := hI26
                              exact ar_ret d_55_226 rfl (⟨rfl, _, _, _, _, hS9, hI9, eq_ifF n0 (eq_ifF n1 (eq_ifF n2 (eq_ifF n3 (eq_ifF n4 (eq_ifF n5 (eq_ifF n6 (eq_ifF n7 (eq_ifF n8 (eq_ifF n9 (eq_ifF n10 (eq_ifT hk (eq_ifF cc24 (bnS_eq hE25 (bnS_eq hE26 (rfl))))))))))))))), trivial⟩)
                          · have n11 := hk
                            clear hk
                            by_cases hk : u 0 = 12
                            · refine ar_tabIn 196 d_55_39 (by rw [hk]; decide) (by rw [hk]; rfl) (by decide) ?_
                              refine ar_aload_n 197 d_55_196 rfl rfl ?_
                              refine ar_aload_n 198 d_55_197 rfl rfl ?_
                              have hS1 : NS Z n nd nn gg C me f q u b uv h0 h D K A Y := ⟨hF, hN, hf, hn, hs, hp0, hu0⟩
                              have hI1 : NI Z nn D := hI
                              refine ar_call (r := []) (na := 0) (kd := 0) (cm := 66) (fr2 := fr - 1) (lo2 := lo - 23) 201 d_55_198 (ar_hoV (as := [.ref (n + 1 + 1 + 2 * q)]) rfl rfl rfl (hF.at 0 rfl)) rfl (by omega) (show lo - 23 + (19 + 4) = lo by omega) (Nat.le_of_ble_eq_true rfl) (Nat.le_of_ble_eq_true rfl) (s_66 (by omega) (by omega) hC0 hS1 hI1 hup (hm.1 (Or.inr (Or.inr hk)))) ?_
                              intro v hp_27 hq
                              obtain ⟨rfl, D27, K27, A27, Y27, hS2, hI2, hE27, -⟩ := hq
                              clear hS1 hI1 hF hN hf hn hs hp0 hu0
                              obtain ⟨hF, hN, hf, hn, hs, hp0, hu0⟩ := hS2
                              replace hF : ax_hs hp_27 [cNd n nd me D27, cDk nd D27, cAr nd 2 35840 D27, cAr nd 3 4096 D27, cAr nd 4 32 D27, cAr nd 5 280 D27, cAr nd 6 280 D27, cLd n nd me D27 A27, cAr nd 8 16 D27, cAr nd 9 280 D27, cTb nd gg D27 K27, cAr nd 11 48 D27, cAr nd 12 48 D27, cAr nd 13 48 D27, cAr nd 14 2400 D27, cAr nd 15 512 D27, cAr nd 16 961 D27, cAr nd 17 961 D27, cWk nd D27, cWa nd D27, cAr nd 20 612 D27, cAr nd 21 1152 D27, cRk n nn gg C, cOr n nn gg f] := hF
                              have hI27 := hI2
                              clear hI2
                              refine ar_goto 226 d_55_201 (by decide) ?_
                              have hS9 : NS Z n nd nn gg C me f q u b uv h0 hp_27 D27 K27 A27 Y27 := ⟨hF, hN, hf, hn, hs, hp0, hu0⟩
                              have hI9 : NI Z nn D27 := hI27
                              exact ar_ret d_55_226 rfl (⟨rfl, _, _, _, _, hS9, hI9, eq_ifF n0 (eq_ifF n1 (eq_ifF n2 (eq_ifF n3 (eq_ifF n4 (eq_ifF n5 (eq_ifF n6 (eq_ifF n7 (eq_ifF n8 (eq_ifF n9 (eq_ifF n10 (eq_ifF n11 (eq_ifT hk (bnS_eq hE27 (rfl)))))))))))))), trivial⟩)
                            · have n12 := hk
                              clear hk
                              refine ar_tabOut 204 d_55_39 (tsw55 n0 n1 n2 n3 n4 n5 n6 n7 n8 n9 n10 n11 n12) (by decide) ?_
                              refine ar_aload_n 205 d_55_204 rfl rfl ?_
                              refine ar_call (r := []) (na := 0) (kd := 0) (cm := 30) (fr2 := fr - 1) (lo2 := lo - 20) 208 d_55_205 (ar_hoV (as := []) rfl rfl rfl (hF.at 0 rfl)) rfl (by omega) (show lo - 20 + (19 + 1) = lo by omega) (Nat.le_of_ble_eq_true rfl) (Nat.le_of_ble_eq_true rfl) (c_30E (by omega) (by omega) hgg (by omega) hnn (hF.sub (F' := [cNd n nd me D, cRk n nn gg C, cOr n nn gg f]) [0, 22, 23] rfl rfl)) ?_
                              intro v hh hq
                              obtain ⟨rfl, ehh⟩ := hq
                              rw [ehh]
                              clear ehh
                              refine ar_if_eq 226 211 d_55_208 (by decide) rfl (fun cc28 => ?_) (fun cc28 => ?_)
                              · have hS9 : NS Z n nd nn gg C me f q u b uv h0 h D K A Y := ⟨hF, hN, hf, hn, hs, hp0, hu0⟩
                                have hI9 : NI Z nn D := hI
                                exact ar_ret d_55_226 rfl (⟨rfl, _, _, _, _, hS9, hI9, eq_ifF n0 (eq_ifF n1 (eq_ifF n2 (eq_ifF n3 (eq_ifF n4 (eq_ifF n5 (eq_ifF n6 (eq_ifF n7 (eq_ifF n8 (eq_ifF n9 (eq_ifF n10 (eq_ifF n11 (eq_ifF n12 (eq_ifT cc28 (rfl)))))))))))))), trivial⟩)
                              · refine ar_aload_n 212 d_55_211 rfl rfl ?_
                                refine ar_getf 215 d_55_212 rfl (ci := 7) (k := 4) rfl (hF.at 0 rfl) rfl ?_
                                refine ar_aload_n 216 d_55_215 rfl rfl ?_
                                have hS1 : NS Z n nd nn gg C me f q u b uv h0 h D K A Y := ⟨hF, hN, hf, hn, hs, hp0, hu0⟩
                                have hI1 : NI Z nn D := hI
                                refine ar_call (r := []) (na := 0) (kd := 0) (cm := 67) (fr2 := fr - 1) (lo2 := lo - 21) 219 d_55_216 (ar_hoV (as := [.ref (n + 1 + 1 + 2 * q)]) rfl rfl rfl (hF.at 7 rfl)) rfl (by omega) (show lo - 21 + (19 + 2) = lo by omega) (Nat.le_of_ble_eq_true rfl) (Nat.le_of_ble_eq_true rfl) (s_67 (by omega) (by omega) hC0 hS1 hI1 hm) ?_
                                intro v hp_29 hq
                                obtain ⟨rfl, D29, K29, A29, Y29, hS2, hI2, hE29, -⟩ := hq
                                clear hS1 hI1 hF hN hf hn hs hp0 hu0
                                obtain ⟨hF, hN, hf, hn, hs, hp0, hu0⟩ := hS2
                                replace hF : ax_hs hp_29 [cNd n nd me D29, cDk nd D29, cAr nd 2 35840 D29, cAr nd 3 4096 D29, cAr nd 4 32 D29, cAr nd 5 280 D29, cAr nd 6 280 D29, cLd n nd me D29 A29, cAr nd 8 16 D29, cAr nd 9 280 D29, cTb nd gg D29 K29, cAr nd 11 48 D29, cAr nd 12 48 D29, cAr nd 13 48 D29, cAr nd 14 2400 D29, cAr nd 15 512 D29, cAr nd 16 961 D29, cAr nd 17 961 D29, cWk nd D29, cWa nd D29, cAr nd 20 612 D29, cAr nd 21 1152 D29, cRk n nn gg C, cOr n nn gg f] := hF
                                have hI29 := hI2
                                clear hI2
                                refine ar_aload_n 220 d_55_219 rfl rfl ?_
                                refine ar_getf 223 d_55_220 rfl (ci := 7) (k := 4) rfl (hF.at 0 rfl) rfl ?_
                                have hS1 : NS Z n nd nn gg C me f q u b uv h0 hp_29 D29 K29 A29 Y29 := ⟨hF, hN, hf, hn, hs, hp0, hu0⟩
                                have hI1 : NI Z nn D29 := hI29
                                refine ar_call (r := []) (na := 0) (kd := 0) (cm := 91) (fr2 := fr - 1) (lo2 := lo - 21) 226 d_55_223 (ar_hoV (as := []) rfl rfl rfl (hF.at 7 rfl)) rfl (by omega) (show lo - 21 + (19 + 2) = lo by omega) (Nat.le_of_ble_eq_true rfl) (Nat.le_of_ble_eq_true rfl) (s_91 (by omega) (by omega) hC0 hS1 hI1) ?_
                                intro v hp_30 hq
                                obtain ⟨rfl, D30, K30, A30, Y30, hS2, hI2, hE30, -⟩ := hq
                                clear hS1 hI1 hF hN hf hn hs hp0 hu0
                                obtain ⟨hF, hN, hf, hn, hs, hp0, hu0⟩ := hS2
                                replace hF : ax_hs hp_30 [cNd n nd me D30, cDk nd D30, cAr nd 2 35840 D30, cAr nd 3 4096 D30, cAr nd 4 32 D30, cAr nd 5 280 D30, cAr nd 6 280 D30, cLd n nd me D30 A30, cAr nd 8 16 D30, cAr nd 9 280 D30, cTb nd gg D30 K30, cAr nd 11 48 D30, cAr nd 12 48 D30, cAr nd 13 48 D30, cAr nd 14 2400 D30, cAr nd 15 512 D30, cAr nd 16 961 D30, cAr nd 17 961 D30, cWk nd D30, cWa nd D30, cAr nd 20 612 D30, cAr nd 21 1152 D30, cRk n nn gg C, cOr n nn gg f] := hF
                                have hI30 := hI2
                                clear hI2
                                have hS9 : NS Z n nd nn gg C me f q u b uv h0 hp_30 D30 K30 A30 Y30 := ⟨hF, hN, hf, hn, hs, hp0, hu0⟩
                                have hI9 : NI Z nn D30 := hI30
                                exact ar_ret d_55_226 rfl (⟨rfl, _, _, _, _, hS9, hI9, eq_ifF n0 (eq_ifF n1 (eq_ifF n2 (eq_ifF n3 (eq_ifF n4 (eq_ifF n5 (eq_ifF n6 (eq_ifF n7 (eq_ifF n8 (eq_ifF n9 (eq_ifF n10 (eq_ifF n11 (eq_ifF n12 (eq_ifF cc28 (bnS_eq hE29 (bnS_eq hE30 (rfl)))))))))))))))), trivial⟩)
  show ax_A (ax_step L xs) ((55, 0, fr, lo), [(0, .ref nd), (1, .ref (n + 1 + 1 + 2 * q))], [], h) _
  obtain ⟨hnd, hn0, hnn3, hnn, hgg1, hgg, hRg⟩ := hC
  obtain ⟨hF, hN, hf, hn, hs, hp0, hu0⟩ := hS
  replace hF : ax_hs h [cNd n nd me D, cDk nd D, cAr nd 2 35840 D, cAr nd 3 4096 D, cAr nd 4 32 D, cAr nd 5 280 D, cAr nd 6 280 D, cLd n nd me D A, cAr nd 8 16 D, cAr nd 9 280 D, cTb nd gg D K, cAr nd 11 48 D, cAr nd 12 48 D, cAr nd 13 48 D, cAr nd 14 2400 D, cAr nd 15 512 D, cAr nd 16 961 D, cAr nd 17 961 D, cWk nd D, cWa nd D, cAr nd 20 612 D, cAr nd 21 1152 D, cRk n nn gg C, cOr n nn gg f] := hF
  refine ar_aload_n 1 d_55_0 rfl rfl ?_
  refine ar_getf 4 d_55_1 rfl (ci := 2) (k := 3) rfl hN.mgc rfl ?_
  refine ar_aload_n 5 d_55_4 rfl rfl ?_
  refine ar_getf 8 d_55_5 rfl (ci := 7) (k := 7) rfl (hF.at 0 rfl) rfl ?_
  refine ar_icmp_ge 12 11 d_55_8 (by decide) rfl (fun cc1 => ?_) (fun cc1 => ?_)
  · refine ar_aload_n 13 d_55_12 rfl rfl ?_
    refine ar_getf 16 d_55_13 rfl (ci := 2) (k := 3) rfl hN.mgc rfl ?_
    refine ar_aload_n 17 d_55_16 rfl rfl ?_
    refine ar_getf 20 d_55_17 rfl (ci := 7) (k := 7) rfl (hF.at 0 rfl) rfl ?_
    refine ar_icmp_le 35 23 d_55_20 (by decide) rfl (fun cc2 => ?_) (fun cc2 => ?_)
    · have hS1 : NS Z n nd nn gg C me f q u b uv h0 h D K A Y := ⟨hF, hN, hf, hn, hs, hp0, hu0⟩
      have hI1 : NI Z nn D := hI
      rw [← show F_55_k nn gg C me f u b D K A Y = F_55 nn gg C me f u b D K A Y from eq_ifT cc1 (eq_ifT cc2 (rfl))]
      exact key h D K A Y hS1 hI1
    · refine ar_aload_n 24 d_55_23 rfl rfl ?_
      refine ar_aload_n 25 d_55_24 rfl rfl ?_
      refine ar_getf 28 d_55_25 rfl (ci := 2) (k := 3) rfl hN.mgc rfl ?_
      refine ar_aload_n 29 d_55_28 rfl rfl ?_
      refine ar_getf 32 d_55_29 rfl (ci := 2) (k := 4) rfl hN.mgc rfl ?_
      have hS1 : NS Z n nd nn gg C me f q u b uv h0 h D K A Y := ⟨hF, hN, hf, hn, hs, hp0, hu0⟩
      have hI1 : NI Z nn D := hI
      refine ar_call (r := []) (na := 0) (kd := 0) (cm := 29) (fr2 := fr - 1) (lo2 := lo - 22) 35 d_55_32 (ar_hoV (as := [.int (u 3), .int (u 4)]) rfl rfl rfl (hF.at 0 rfl)) rfl (by omega) (show lo - 22 + (19 + 3) = lo by omega) (Nat.le_of_ble_eq_true rfl) (Nat.le_of_ble_eq_true rfl) (s_29 (by omega) (by omega) hC0 hS1 hI1) ?_
      intro v hp_3 hq
      obtain ⟨rfl, D3, K3, A3, Y3, hS2, hI2, hE3, -⟩ := hq
      clear hS1 hI1 hF hN hf hn hs hp0 hu0
      obtain ⟨hF, hN, hf, hn, hs, hp0, hu0⟩ := hS2
      replace hF : ax_hs hp_3 [cNd n nd me D3, cDk nd D3, cAr nd 2 35840 D3, cAr nd 3 4096 D3, cAr nd 4 32 D3, cAr nd 5 280 D3, cAr nd 6 280 D3, cLd n nd me D3 A3, cAr nd 8 16 D3, cAr nd 9 280 D3, cTb nd gg D3 K3, cAr nd 11 48 D3, cAr nd 12 48 D3, cAr nd 13 48 D3, cAr nd 14 2400 D3, cAr nd 15 512 D3, cAr nd 16 961 D3, cAr nd 17 961 D3, cWk nd D3, cWa nd D3, cAr nd 20 612 D3, cAr nd 21 1152 D3, cRk n nn gg C, cOr n nn gg f] := hF
      have hI3 := hI2
      clear hI2
      have hS1 : NS Z n nd nn gg C me f q u b uv h0 hp_3 D3 K3 A3 Y3 := ⟨hF, hN, hf, hn, hs, hp0, hu0⟩
      have hI1 : NI Z nn D3 := hI3
      rw [← show F_55_k nn gg C me f u b D3 K3 A3 Y3 = F_55 nn gg C me f u b D K A Y from eq_ifT cc1 (eq_ifF cc2 (bnS_eq hE3 (rfl)))]
      exact key hp_3 D3 K3 A3 Y3 hS1 hI1
  · have hS9 : NS Z n nd nn gg C me f q u b uv h0 h D K A Y := ⟨hF, hN, hf, hn, hs, hp0, hu0⟩
    have hI9 : NI Z nn D := hI
    exact ar_ret d_55_11 rfl (⟨rfl, _, _, _, _, hS9, hI9, eq_ifF cc1 (rfl), trivial⟩)

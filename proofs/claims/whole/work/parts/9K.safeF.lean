/-! Leader: goOn, work for every state, exactly -/

def F_91_k6 (nn gg : Nat) (C me : Int32) (f u b : Nat → Int32) (D : Nat → Nat → Int32) (K A : Int64) (Y : List Mg) (w1 : Int32) : St :=
  if (D 18 3) = w1 then
    (D, K, A, Y)
  else
    bnS (F_125 nn gg C me f u b D K A Y) (fun D2 K2 A2 Y2 =>
      (D2, K2, A2, Y2))
def F_91_k5 (nn gg : Nat) (C me : Int32) (f u b : Nat → Int32) (D : Nat → Nat → Int32) (K A : Int64) (Y : List Mg) (w1 : Int32) : St :=
  if ¬ (D 18 3) = 5 then
    F_91_k6 nn gg C me f u b D K A Y w1
  else
    bnS (F_123 nn gg C me f u b D K A Y) (fun D2 K2 A2 Y2 =>
      F_91_k6 nn gg C me f u b D2 K2 A2 Y2 w1)
def F_91_k4 (nn gg : Nat) (C me : Int32) (f u b : Nat → Int32) (D : Nat → Nat → Int32) (K A : Int64) (Y : List Mg) (w1 : Int32) : St :=
  if ¬ (D 18 3) = 4 then
    F_91_k5 nn gg C me f u b D K A Y w1
  else
    bnI (arS gg D (9 - 8) 8) (fun y2 =>
      if y2 = 0 then
        F_91_k5 nn gg C me f u b D K A Y w1
      else
        F_91_k5 nn gg C me f u b (va_up (va_up D 7 (upd (upd (D 7) 10 0) 14 0)) 18 (upd (D 18) 3 5)) K A Y w1)
def F_91_k3 (nn gg : Nat) (C me : Int32) (f u b : Nat → Int32) (D : Nat → Nat → Int32) (K A : Int64) (Y : List Mg) (w1 : Int32) : St :=
  if ¬ (D 18 3) = 3 then
    F_91_k4 nn gg C me f u b D K A Y w1
  else
    bnI (arS gg D (8 - 0) 0) (fun y2 =>
      if y2 = 0 then
        F_91_k4 nn gg C me f u b D K A Y w1
      else
        bnS (F_121 nn gg C me f u b D K A Y) (fun D4 K4 A4 Y4 =>
          F_91_k4 nn gg C me f u b D4 K4 A4 Y4 w1))
def F_91_k2 (nn gg : Nat) (C me : Int32) (f u b : Nat → Int32) (D : Nat → Nat → Int32) (K A : Int64) (Y : List Mg) (w1 : Int32) : St :=
  if ¬ (D 18 3) = 2 then
    F_91_k3 nn gg C me f u b D K A Y w1
  else
    if ¬ (D 18 12) = 0 then
      F_91_k3 nn gg C me f u b D K A Y w1
    else
      bnS (F_104 nn gg C me f u b D K A Y) (fun D3 K3 A3 Y3 =>
        bnS (F_114 nn gg C me f u b D3 K3 A3 Y3) (fun D4 K4 A4 Y4 =>
          F_91_k3 nn gg C me f u b D4 K4 A4 Y4 w1))
def F_91 (nn gg : Nat) (C me : Int32) (f u b : Nat → Int32) (D : Nat → Nat → Int32) (K A : Int64) (Y : List Mg)  : St :=
  bnI (D 18 3) (fun w1 =>
    if ¬ (D 18 3) = 1 then
      F_91_k2 nn gg C me f u b D K A Y w1
    else
      if (knA K (D 10 9)) = 0 then
        F_91_k2 nn gg C me f u b D K A Y w1
      else
        if (rdB (D 8) (D 7 9) 0) = 0 then
          F_91_k2 nn gg C me f u b D K A Y w1
        else
          bnS (F_93 nn gg C me f u b D K A Y) (fun D4 K4 A4 Y4 =>
            F_91_k2 nn gg C me f u b D4 K4 A4 Y4 w1))
set_option maxRecDepth 100000 in
theorem s_91 {L : Nat} {xs : Nat → Int32} {fr lo : Nat} {Z : ZT} {n nd nn gg : Nat} {C me : Int32} {f : Nat → Int32} {q : Nat} {u b : Nat → Int32} {uv : Int32} {h0 h : ax_H} {D : Nat → Nat → Int32} {K A : Int64} {Y : List Mg}  (hfr : 7 ≤ fr) (hlo : 230 ≤ lo) (hC : CS n nd nn gg f) (hS : NS Z n nd nn gg C me f q u b uv h0 h D K A Y) (hI : NI Z nn D) : ax_M L xs 91 fr lo [.ref (nd + 7)] h (fun r h' => r = none ∧ PS Z n nd nn gg C me f q u b uv h0 h' (fun D' K' A' Y' => (D', K', A', Y') = F_91 nn gg C me f u b D K A Y ∧ True)) := by
  have hC0 := hC
  obtain ⟨w1, ew1⟩ : ∃ w1, w1 = D 18 3 := ⟨_, rfl⟩
  have k6 : ∀ (h : ax_H) (D : Nat → Nat → Int32) (K A : Int64) (Y : List Mg), NS Z n nd nn gg C me f q u b uv h0 h D K A Y → NI Z nn D → ax_A (ax_step L xs) ((91, 162, fr, lo), [(0, .ref (nd + 7)), (1, .int w1)], [], h) (fun r h' => r = none ∧ PS Z n nd nn gg C me f q u b uv h0 h' (fun D' K' A' Y' => (D', K', A', Y') = F_91_k6 nn gg C me f u b D K A Y w1 ∧ True)) := by
    intro h D K A Y hS hI
    obtain ⟨hnd, hn0, hnn3, hnn, hgg1, hgg, hRg⟩ := hC
    obtain ⟨hF, hN, hf, hn, hs, hp0, hu0⟩ := hS
    replace hF : ax_hs h [cNd n nd me D, cDk nd D, cAr nd 2 35840 D, cAr nd 3 4096 D, cAr nd 4 32 D, cAr nd 5 280 D, cAr nd 6 280 D, cLd n nd me D A, cAr nd 8 16 D, cAr nd 9 280 D, cTb nd gg D K, cAr nd 11 48 D, cAr nd 12 48 D, cAr nd 13 48 D, cAr nd 14 2400 D, cAr nd 15 512 D, cAr nd 16 961 D, cAr nd 17 961 D, cWk nd D, cWa nd D, cAr nd 20 612 D, cAr nd 21 1152 D, cRk n nn gg C, cOr n nn gg f] := hF
    refine ar_aload_n 163 d_91_162 rfl rfl ?_
    refine ar_getf 166 d_91_163 rfl (ci := 9) (k := 4) rfl (hF.at 7 rfl) rfl ?_
    refine ar_getf 169 d_91_166 rfl (ci := 10) (k := 3) rfl (hF.at 18 rfl) rfl ?_
    refine ar_iload_n 170 d_91_169 rfl rfl ?_
    refine ar_icmp_eq 177 173 d_91_170 (by decide) rfl (fun cc1 => ?_) (fun cc1 => ?_)
    · have hS9 : NS Z n nd nn gg C me f q u b uv h0 h D K A Y := ⟨hF, hN, hf, hn, hs, hp0, hu0⟩
      have hI9 : NI Z nn D := hI
      exact ar_ret d_91_177 rfl (⟨rfl, _, _, _, _, hS9, hI9, eq_ifT cc1 (rfl), trivial⟩)
    · refine ar_aload_n 174 d_91_173 rfl rfl ?_
      have hS1 : NS Z n nd nn gg C me f q u b uv h0 h D K A Y := ⟨hF, hN, hf, hn, hs, hp0, hu0⟩
      have hI1 : NI Z nn D := hI
      refine ar_call (r := []) (na := 0) (kd := 0) (cm := 125) (fr2 := fr - 1) (lo2 := lo - 21) 177 d_91_174 (ar_hoV (as := []) rfl rfl rfl (hF.at 7 rfl)) rfl (by omega) (show lo - 21 + (19 + 2) = lo by omega) (Nat.le_of_ble_eq_true rfl) (Nat.le_of_ble_eq_true rfl) (s_125 (by omega) (by omega) hC0 hS1 hI1) ?_
      intro v hp_2 hq
      obtain ⟨rfl, D2, K2, A2, Y2, hS2, hI2, hE2, -⟩ := hq
      clear hS1 hI1 hF hN hf hn hs hp0 hu0
      obtain ⟨hF, hN, hf, hn, hs, hp0, hu0⟩ := hS2
      replace hF : ax_hs hp_2 [cNd n nd me D2, cDk nd D2, cAr nd 2 35840 D2, cAr nd 3 4096 D2, cAr nd 4 32 D2, cAr nd 5 280 D2, cAr nd 6 280 D2, cLd n nd me D2 A2, cAr nd 8 16 D2, cAr nd 9 280 D2, cTb nd gg D2 K2, cAr nd 11 48 D2, cAr nd 12 48 D2, cAr nd 13 48 D2, cAr nd 14 2400 D2, cAr nd 15 512 D2, cAr nd 16 961 D2, cAr nd 17 961 D2, cWk nd D2, cWa nd D2, cAr nd 20 612 D2, cAr nd 21 1152 D2, cRk n nn gg C, cOr n nn gg f] := hF
      have hI2 := hI2
      clear hI2
      have hS9 : NS Z n nd nn gg C me f q u b uv h0 hp_2 D2 K2 A2 Y2 := ⟨hF, hN, hf, hn, hs, hp0, hu0⟩
      have hI9 : NI Z nn D2 := hI2
      exact ar_ret d_91_177 rfl (⟨rfl, _, _, _, _, hS9, hI9, eq_ifF cc1 (bnS_eq hE2 (rfl)), trivial⟩)
  have k5 : ∀ (h : ax_H) (D : Nat → Nat → Int32) (K A : Int64) (Y : List Mg), NS Z n nd nn gg C me f q u b uv h0 h D K A Y → NI Z nn D → ax_A (ax_step L xs) ((91, 147, fr, lo), [(0, .ref (nd + 7)), (1, .int w1)], [], h) (fun r h' => r = none ∧ PS Z n nd nn gg C me f q u b uv h0 h' (fun D' K' A' Y' => (D', K', A', Y') = F_91_k5 nn gg C me f u b D K A Y w1 ∧ True)) := by
    intro h D K A Y hS hI
    obtain ⟨hnd, hn0, hnn3, hnn, hgg1, hgg, hRg⟩ := hC
    obtain ⟨hF, hN, hf, hn, hs, hp0, hu0⟩ := hS
    replace hF : ax_hs h [cNd n nd me D, cDk nd D, cAr nd 2 35840 D, cAr nd 3 4096 D, cAr nd 4 32 D, cAr nd 5 280 D, cAr nd 6 280 D, cLd n nd me D A, cAr nd 8 16 D, cAr nd 9 280 D, cTb nd gg D K, cAr nd 11 48 D, cAr nd 12 48 D, cAr nd 13 48 D, cAr nd 14 2400 D, cAr nd 15 512 D, cAr nd 16 961 D, cAr nd 17 961 D, cWk nd D, cWa nd D, cAr nd 20 612 D, cAr nd 21 1152 D, cRk n nn gg C, cOr n nn gg f] := hF
    refine ar_aload_n 148 d_91_147 rfl rfl ?_
    refine ar_getf 151 d_91_148 rfl (ci := 9) (k := 4) rfl (hF.at 7 rfl) rfl ?_
    refine ar_getf 154 d_91_151 rfl (ci := 10) (k := 3) rfl (hF.at 18 rfl) rfl ?_
    refine ar_iconst 155 (v := 5) d_91_154 rfl (by decide) ?_
    refine ar_icmp_ne 162 158 d_91_155 (by decide) rfl (fun cc1 => ?_) (fun cc1 => ?_)
    · have hS1 : NS Z n nd nn gg C me f q u b uv h0 h D K A Y := ⟨hF, hN, hf, hn, hs, hp0, hu0⟩
      have hI1 : NI Z nn D := hI
      rw [← show F_91_k6 nn gg C me f u b D K A Y w1 = F_91_k5 nn gg C me f u b D K A Y w1 from eq_ifT cc1 (rfl)]
      exact k6 h D K A Y hS1 hI1
    · refine ar_aload_n 159 d_91_158 rfl rfl ?_
      have hS1 : NS Z n nd nn gg C me f q u b uv h0 h D K A Y := ⟨hF, hN, hf, hn, hs, hp0, hu0⟩
      have hI1 : NI Z nn D := hI
      refine ar_call (r := []) (na := 0) (kd := 0) (cm := 123) (fr2 := fr - 1) (lo2 := lo - 21) 162 d_91_159 (ar_hoV (as := []) rfl rfl rfl (hF.at 7 rfl)) rfl (by omega) (show lo - 21 + (19 + 2) = lo by omega) (Nat.le_of_ble_eq_true rfl) (Nat.le_of_ble_eq_true rfl) (s_123 (by omega) (by omega) hC0 hS1 hI1 (Decidable.not_not.mp cc1)) ?_
      intro v hp_2 hq
      obtain ⟨rfl, D2, K2, A2, Y2, hS2, hI2, hE2, -⟩ := hq
      clear hS1 hI1 hF hN hf hn hs hp0 hu0
      obtain ⟨hF, hN, hf, hn, hs, hp0, hu0⟩ := hS2
      replace hF : ax_hs hp_2 [cNd n nd me D2, cDk nd D2, cAr nd 2 35840 D2, cAr nd 3 4096 D2, cAr nd 4 32 D2, cAr nd 5 280 D2, cAr nd 6 280 D2, cLd n nd me D2 A2, cAr nd 8 16 D2, cAr nd 9 280 D2, cTb nd gg D2 K2, cAr nd 11 48 D2, cAr nd 12 48 D2, cAr nd 13 48 D2, cAr nd 14 2400 D2, cAr nd 15 512 D2, cAr nd 16 961 D2, cAr nd 17 961 D2, cWk nd D2, cWa nd D2, cAr nd 20 612 D2, cAr nd 21 1152 D2, cRk n nn gg C, cOr n nn gg f] := hF
      have hI2 := hI2
      clear hI2
      have hS1 : NS Z n nd nn gg C me f q u b uv h0 hp_2 D2 K2 A2 Y2 := ⟨hF, hN, hf, hn, hs, hp0, hu0⟩
      have hI1 : NI Z nn D2 := hI2
      rw [← show F_91_k6 nn gg C me f u b D2 K2 A2 Y2 w1 = F_91_k5 nn gg C me f u b D K A Y w1 from eq_ifF cc1 (bnS_eq hE2 (rfl))]
      exact k6 hp_2 D2 K2 A2 Y2 hS1 hI1
  have k4 : ∀ (h : ax_H) (D : Nat → Nat → Int32) (K A : Int64) (Y : List Mg), NS Z n nd nn gg C me f q u b uv h0 h D K A Y → NI Z nn D → ax_A (ax_step L xs) ((91, 107, fr, lo), [(0, .ref (nd + 7)), (1, .int w1)], [], h) (fun r h' => r = none ∧ PS Z n nd nn gg C me f q u b uv h0 h' (fun D' K' A' Y' => (D', K', A', Y') = F_91_k4 nn gg C me f u b D K A Y w1 ∧ True)) := by
    intro h D K A Y hS hI
    obtain ⟨hnd, hn0, hnn3, hnn, hgg1, hgg, hRg⟩ := hC
    obtain ⟨hF, hN, hf, hn, hs, hp0, hu0⟩ := hS
    replace hF : ax_hs h [cNd n nd me D, cDk nd D, cAr nd 2 35840 D, cAr nd 3 4096 D, cAr nd 4 32 D, cAr nd 5 280 D, cAr nd 6 280 D, cLd n nd me D A, cAr nd 8 16 D, cAr nd 9 280 D, cTb nd gg D K, cAr nd 11 48 D, cAr nd 12 48 D, cAr nd 13 48 D, cAr nd 14 2400 D, cAr nd 15 512 D, cAr nd 16 961 D, cAr nd 17 961 D, cWk nd D, cWa nd D, cAr nd 20 612 D, cAr nd 21 1152 D, cRk n nn gg C, cOr n nn gg f] := hF
    refine ar_aload_n 108 d_91_107 rfl rfl ?_
    refine ar_getf 111 d_91_108 rfl (ci := 9) (k := 4) rfl (hF.at 7 rfl) rfl ?_
    refine ar_getf 114 d_91_111 rfl (ci := 10) (k := 3) rfl (hF.at 18 rfl) rfl ?_
    refine ar_iconst 115 (v := 4) d_91_114 rfl (by decide) ?_
    refine ar_icmp_ne 147 118 d_91_115 (by decide) rfl (fun cc1 => ?_) (fun cc1 => ?_)
    · have hS1 : NS Z n nd nn gg C me f q u b uv h0 h D K A Y := ⟨hF, hN, hf, hn, hs, hp0, hu0⟩
      have hI1 : NI Z nn D := hI
      rw [← show F_91_k5 nn gg C me f u b D K A Y w1 = F_91_k4 nn gg C me f u b D K A Y w1 from eq_ifT cc1 (rfl)]
      exact k5 h D K A Y hS1 hI1
    · refine ar_aload_n 119 d_91_118 rfl rfl ?_
      refine ar_bipush 121 (v := 8) d_91_119 rfl (by decide) ?_
      refine ar_top (x' := nI 8) (rfl) ?_
      refine ar_bipush 123 (v := 9) d_91_121 rfl (by decide) ?_
      refine ar_top (x' := nI 9) (rfl) ?_
      have hS1 : NS Z n nd nn gg C me f q u b uv h0 h D K A Y := ⟨hF, hN, hf, hn, hs, hp0, hu0⟩
      have hI1 : NI Z nn D := hI
      refine ar_call (r := []) (na := 0) (kd := 0) (cm := 119) (fr2 := fr - 1) (lo2 := lo - 24) 126 d_91_123 (ar_hoV (as := [.int (nI 8), .int (nI 9)]) rfl rfl rfl (hF.at 7 rfl)) rfl (by omega) (show lo - 24 + (19 + 5) = lo by omega) (Nat.le_of_ble_eq_true rfl) (Nat.le_of_ble_eq_true rfl) ((s_119 (i0 := 8) (j0 := 9) (by omega) (by omega) hC0 hS1 hI1 (by omega) (by omega))) ?_
      intro v hh hq
      obtain ⟨y2, rfl, hyE2, ehh⟩ := hq
      rw [ehh]
      clear ehh
      clear hS1 hI1
      refine ar_if_eq 147 129 d_91_126 (by decide) rfl (fun cc3 => ?_) (fun cc3 => ?_)
      · have hS1 : NS Z n nd nn gg C me f q u b uv h0 h D K A Y := ⟨hF, hN, hf, hn, hs, hp0, hu0⟩
        have hI1 : NI Z nn D := hI
        rw [← show F_91_k5 nn gg C me f u b D K A Y w1 = F_91_k4 nn gg C me f u b D K A Y w1 from eq_ifF cc1 (bnI_eq hyE2 (eq_ifT cc3 (rfl)))]
        exact k5 h D K A Y hS1 hI1
      · refine ar_aload_n 130 d_91_129 rfl rfl ?_
        refine ar_iconst 131 (v := 0) d_91_130 rfl (by decide) ?_
        refine ar_putf 134 [.int me, .ref (n + 264), .ref n, .ref (nd + 10), .ref (nd + 18), .ref (nd + 8), .ref (nd + 9), .int (D 7 7), .int (D 7 8), .int (D 7 9), .int 0, .long A, .int (D 7 12), .int (D 7 13), .int (D 7 14)] d_91_131 rfl (ci := 9) (k := 10) rfl rfl (hF.at 7 rfl) (Nat.le_of_ble_eq_true rfl) rfl rfl rfl ?_
        replace hF : ax_hs (ax_put h (nd + 7) (.inr (9, [.int me, .ref (n + 264), .ref n, .ref (nd + 10), .ref (nd + 18), .ref (nd + 8), .ref (nd + 9), .int (D 7 7), .int (D 7 8), .int (D 7 9), .int 0, .long A, .int (D 7 12), .int (D 7 13), .int (D 7 14)]))) [cNd n nd me D, cDk nd D, cAr nd 2 35840 D, cAr nd 3 4096 D, cAr nd 4 32 D, cAr nd 5 280 D, cAr nd 6 280 D, (nd + 7, .inr (9, [.int me, .ref (n + 264), .ref n, .ref (nd + 10), .ref (nd + 18), .ref (nd + 8), .ref (nd + 9), .int (D 7 7), .int (D 7 8), .int (D 7 9), .int 0, .long A, .int (D 7 12), .int (D 7 13), .int (D 7 14)])), cAr nd 8 16 D, cAr nd 9 280 D, cTb nd gg D K, cAr nd 11 48 D, cAr nd 12 48 D, cAr nd 13 48 D, cAr nd 14 2400 D, cAr nd 15 512 D, cAr nd 16 961 D, cAr nd 17 961 D, cWk nd D, cWa nd D, cAr nd 20 612 D, cAr nd 21 1152 D, cRk n nn gg C, cOr n nn gg f] := hF.put 7 _ rfl rfl
        replace hf := hf.put (a := nd + 7) (c := .inr (9, [.int me, .ref (n + 264), .ref n, .ref (nd + 10), .ref (nd + 18), .ref (nd + 8), .ref (nd + 9), .int (D 7 7), .int (D 7 8), .int (D 7 9), .int 0, .long A, .int (D 7 12), .int (D 7 13), .int (D 7 14)])) (Or.inr (by omega))
        replace hN := hN.put (a := nd + 7) (c := .inr (9, [.int me, .ref (n + 264), .ref n, .ref (nd + 10), .ref (nd + 18), .ref (nd + 8), .ref (nd + 9), .int (D 7 7), .int (D 7 8), .int (D 7 9), .int 0, .long A, .int (D 7 12), .int (D 7 13), .int (D 7 14)])) (by omega)
        replace hn : (ax_put h (nd + 7) (.inr (9, [.int me, .ref (n + 264), .ref n, .ref (nd + 10), .ref (nd + 18), .ref (nd + 8), .ref (nd + 9), .int (D 7 7), .int (D 7 8), .int (D 7 9), .int 0, .long A, .int (D 7 12), .int (D 7 13), .int (D 7 14)]))).1 = h0.1 := hn
        replace hs : (ax_put h (nd + 7) (.inr (9, [.int me, .ref (n + 264), .ref n, .ref (nd + 10), .ref (nd + 18), .ref (nd + 8), .ref (nd + 9), .int (D 7 7), .int (D 7 8), .int (D 7 9), .int 0, .long A, .int (D 7 12), .int (D 7 13), .int (D 7 14)]))).2.1 = h0.2.1 := hs
        generalize ax_put h (nd + 7) (.inr (9, [.int me, .ref (n + 264), .ref n, .ref (nd + 10), .ref (nd + 18), .ref (nd + 8), .ref (nd + 9), .int (D 7 7), .int (D 7 8), .int (D 7 9), .int 0, .long A, .int (D 7 12), .int (D 7 13), .int (D 7 14)])) = hp_4 at hF hf hN hn hs ⊢
        refine ar_aload_n 135 d_91_134 rfl rfl ?_
        refine ar_iconst 136 (v := 0) d_91_135 rfl (by decide) ?_
        refine ar_putf 139 [.int me, .ref (n + 264), .ref n, .ref (nd + 10), .ref (nd + 18), .ref (nd + 8), .ref (nd + 9), .int (D 7 7), .int (D 7 8), .int (D 7 9), .int 0, .long A, .int (D 7 12), .int (D 7 13), .int 0] d_91_136 rfl (ci := 9) (k := 14) rfl rfl (hF.at 7 rfl) (Nat.le_of_ble_eq_true rfl) rfl rfl rfl ?_
        replace hF : ax_hs (ax_put hp_4 (nd + 7) (.inr (9, [.int me, .ref (n + 264), .ref n, .ref (nd + 10), .ref (nd + 18), .ref (nd + 8), .ref (nd + 9), .int (D 7 7), .int (D 7 8), .int (D 7 9), .int 0, .long A, .int (D 7 12), .int (D 7 13), .int 0]))) [cNd n nd me D, cDk nd D, cAr nd 2 35840 D, cAr nd 3 4096 D, cAr nd 4 32 D, cAr nd 5 280 D, cAr nd 6 280 D, (nd + 7, .inr (9, [.int me, .ref (n + 264), .ref n, .ref (nd + 10), .ref (nd + 18), .ref (nd + 8), .ref (nd + 9), .int (D 7 7), .int (D 7 8), .int (D 7 9), .int 0, .long A, .int (D 7 12), .int (D 7 13), .int 0])), cAr nd 8 16 D, cAr nd 9 280 D, cTb nd gg D K, cAr nd 11 48 D, cAr nd 12 48 D, cAr nd 13 48 D, cAr nd 14 2400 D, cAr nd 15 512 D, cAr nd 16 961 D, cAr nd 17 961 D, cWk nd D, cWa nd D, cAr nd 20 612 D, cAr nd 21 1152 D, cRk n nn gg C, cOr n nn gg f] := hF.put 7 _ rfl rfl
        replace hf := hf.put (a := nd + 7) (c := .inr (9, [.int me, .ref (n + 264), .ref n, .ref (nd + 10), .ref (nd + 18), .ref (nd + 8), .ref (nd + 9), .int (D 7 7), .int (D 7 8), .int (D 7 9), .int 0, .long A, .int (D 7 12), .int (D 7 13), .int 0])) (Or.inr (by omega))
        replace hN := hN.put (a := nd + 7) (c := .inr (9, [.int me, .ref (n + 264), .ref n, .ref (nd + 10), .ref (nd + 18), .ref (nd + 8), .ref (nd + 9), .int (D 7 7), .int (D 7 8), .int (D 7 9), .int 0, .long A, .int (D 7 12), .int (D 7 13), .int 0])) (by omega)
        replace hn : (ax_put hp_4 (nd + 7) (.inr (9, [.int me, .ref (n + 264), .ref n, .ref (nd + 10), .ref (nd + 18), .ref (nd + 8), .ref (nd + 9), .int (D 7 7), .int (D 7 8), .int (D 7 9), .int 0, .long A, .int (D 7 12), .int (D 7 13), .int 0]))).1 = h0.1 := hn
        replace hs : (ax_put hp_4 (nd + 7) (.inr (9, [.int me, .ref (n + 264), .ref n, .ref (nd + 10), .ref (nd + 18), .ref (nd + 8), .ref (nd + 9), .int (D 7 7), .int (D 7 8), .int (D 7 9), .int 0, .long A, .int (D 7 12), .int (D 7 13), .int 0]))).2.1 = h0.2.1 := hs
        generalize ax_put hp_4 (nd + 7) (.inr (9, [.int me, .ref (n + 264), .ref n, .ref (nd + 10), .ref (nd + 18), .ref (nd + 8), .ref (nd + 9), .int (D 7 7), .int (D 7 8), .int (D 7 9), .int 0, .long A, .int (D 7 12), .int (D 7 13), .int 0])) = hp_5 at hF hf hN hn hs ⊢
        refine ar_aload_n 140 d_91_139 rfl rfl ?_
        refine ar_getf 143 d_91_140 rfl (ci := 9) (k := 4) rfl (hF.at 7 rfl) rfl ?_
        refine ar_iconst 144 (v := 5) d_91_143 rfl (by decide) ?_
        refine ar_putf 147 [.ref (nd + 10), .ref (nd + 19), .ref (nd + 21), .int 5, .int (D 18 4), .int (D 18 5), .int (D 18 6), .int (D 18 7), .int (D 18 8), .int (D 18 9), .int (D 18 10), .int (D 18 11), .int (D 18 12), .int (D 18 13), .int (D 18 14)] d_91_144 rfl (ci := 10) (k := 3) rfl rfl (hF.at 18 rfl) (Nat.le_of_ble_eq_true rfl) rfl rfl rfl ?_
        replace hF : ax_hs (ax_put hp_5 (nd + 18) (.inr (10, [.ref (nd + 10), .ref (nd + 19), .ref (nd + 21), .int 5, .int (D 18 4), .int (D 18 5), .int (D 18 6), .int (D 18 7), .int (D 18 8), .int (D 18 9), .int (D 18 10), .int (D 18 11), .int (D 18 12), .int (D 18 13), .int (D 18 14)]))) [cNd n nd me D, cDk nd D, cAr nd 2 35840 D, cAr nd 3 4096 D, cAr nd 4 32 D, cAr nd 5 280 D, cAr nd 6 280 D, (nd + 7, .inr (9, [.int me, .ref (n + 264), .ref n, .ref (nd + 10), .ref (nd + 18), .ref (nd + 8), .ref (nd + 9), .int (D 7 7), .int (D 7 8), .int (D 7 9), .int 0, .long A, .int (D 7 12), .int (D 7 13), .int 0])), cAr nd 8 16 D, cAr nd 9 280 D, cTb nd gg D K, cAr nd 11 48 D, cAr nd 12 48 D, cAr nd 13 48 D, cAr nd 14 2400 D, cAr nd 15 512 D, cAr nd 16 961 D, cAr nd 17 961 D, (nd + 18, .inr (10, [.ref (nd + 10), .ref (nd + 19), .ref (nd + 21), .int 5, .int (D 18 4), .int (D 18 5), .int (D 18 6), .int (D 18 7), .int (D 18 8), .int (D 18 9), .int (D 18 10), .int (D 18 11), .int (D 18 12), .int (D 18 13), .int (D 18 14)])), cWa nd D, cAr nd 20 612 D, cAr nd 21 1152 D, cRk n nn gg C, cOr n nn gg f] := hF.put 18 _ rfl rfl
        replace hf := hf.put (a := nd + 18) (c := .inr (10, [.ref (nd + 10), .ref (nd + 19), .ref (nd + 21), .int 5, .int (D 18 4), .int (D 18 5), .int (D 18 6), .int (D 18 7), .int (D 18 8), .int (D 18 9), .int (D 18 10), .int (D 18 11), .int (D 18 12), .int (D 18 13), .int (D 18 14)])) (Or.inr (by omega))
        replace hN := hN.put (a := nd + 18) (c := .inr (10, [.ref (nd + 10), .ref (nd + 19), .ref (nd + 21), .int 5, .int (D 18 4), .int (D 18 5), .int (D 18 6), .int (D 18 7), .int (D 18 8), .int (D 18 9), .int (D 18 10), .int (D 18 11), .int (D 18 12), .int (D 18 13), .int (D 18 14)])) (by omega)
        replace hn : (ax_put hp_5 (nd + 18) (.inr (10, [.ref (nd + 10), .ref (nd + 19), .ref (nd + 21), .int 5, .int (D 18 4), .int (D 18 5), .int (D 18 6), .int (D 18 7), .int (D 18 8), .int (D 18 9), .int (D 18 10), .int (D 18 11), .int (D 18 12), .int (D 18 13), .int (D 18 14)]))).1 = h0.1 := hn
        replace hs : (ax_put hp_5 (nd + 18) (.inr (10, [.ref (nd + 10), .ref (nd + 19), .ref (nd + 21), .int 5, .int (D 18 4), .int (D 18 5), .int (D 18 6), .int (D 18 7), .int (D 18 8), .int (D 18 9), .int (D 18 10), .int (D 18 11), .int (D 18 12), .int (D 18 13), .int (D 18 14)]))).2.1 = h0.2.1 := hs
        generalize ax_put hp_5 (nd + 18) (.inr (10, [.ref (nd + 10), .ref (nd + 19), .ref (nd + 21), .int 5, .int (D 18 4), .int (D 18 5), .int (D 18 6), .int (D 18 7), .int (D 18 8), .int (D 18 9), .int (D 18 10), .int (D 18 11), .int (D 18 12), .int (D 18 13), .int (D 18 14)])) = hp_6 at hF hf hN hn hs ⊢
        obtain ⟨o, ho, eo, hZo⟩ := hI.2.2.1.2.2.2.2.2.1 (Or.inr (Decidable.not_not.mp cc1))
        obtain ⟨o2, ho2, eo2, hn2, hz2⟩ := hI.2.2.1.2.2.2.1 (by rw [Decidable.not_not.mp cc1]; decide)
        have eoo : o2 = o := nI_inj (by omega) (by omega) (eo2.symm.trans eo)
        have hS1 : NS Z n nd nn gg C me f q u b uv h0 hp_6 (va_up (va_up D 7 (upd (upd (D 7) 10 0) 14 0)) 18 (upd (D 18) 3 5)) K A Y := ⟨hF, hN, hf, hn, hs, hp0, hu0⟩
        have hI1 : NI Z nn (va_up (va_up D 7 (upd (upd (D 7) 10 0) 14 0)) 18 (upd (D 18) 3 5)) := ⟨hI.1, hI.2.1, WI.tell rfl hI.2.2.1.1 hI.2.2.1.2.2.1 ⟨o2, ho2, eo2, hn2, hz2⟩ (fun z => absurd (hn2 z) (Z.2 _ (eoo ▸ hZo))) hI.2.2.1.2.2.2.2.2.2.2, hI.2.2.2⟩
        rw [← show F_91_k5 nn gg C me f u b (va_up (va_up D 7 (upd (upd (D 7) 10 0) 14 0)) 18 (upd (D 18) 3 5)) K A Y w1 = F_91_k4 nn gg C me f u b D K A Y w1 from eq_ifF cc1 (bnI_eq hyE2 (eq_ifF cc3 (rfl)))]
        exact k5 hp_6 (va_up (va_up D 7 (upd (upd (D 7) 10 0) 14 0)) 18 (upd (D 18) 3 5)) K A Y hS1 hI1
  have k3 : ∀ (h : ax_H) (D : Nat → Nat → Int32) (K A : Int64) (Y : List Mg), NS Z n nd nn gg C me f q u b uv h0 h D K A Y → NI Z nn D → ax_A (ax_step L xs) ((91, 79, fr, lo), [(0, .ref (nd + 7)), (1, .int w1)], [], h) (fun r h' => r = none ∧ PS Z n nd nn gg C me f q u b uv h0 h' (fun D' K' A' Y' => (D', K', A', Y') = F_91_k3 nn gg C me f u b D K A Y w1 ∧ True)) := by
    intro h D K A Y hS hI
    obtain ⟨hnd, hn0, hnn3, hnn, hgg1, hgg, hRg⟩ := hC
    obtain ⟨hF, hN, hf, hn, hs, hp0, hu0⟩ := hS
    replace hF : ax_hs h [cNd n nd me D, cDk nd D, cAr nd 2 35840 D, cAr nd 3 4096 D, cAr nd 4 32 D, cAr nd 5 280 D, cAr nd 6 280 D, cLd n nd me D A, cAr nd 8 16 D, cAr nd 9 280 D, cTb nd gg D K, cAr nd 11 48 D, cAr nd 12 48 D, cAr nd 13 48 D, cAr nd 14 2400 D, cAr nd 15 512 D, cAr nd 16 961 D, cAr nd 17 961 D, cWk nd D, cWa nd D, cAr nd 20 612 D, cAr nd 21 1152 D, cRk n nn gg C, cOr n nn gg f] := hF
    refine ar_aload_n 80 d_91_79 rfl rfl ?_
    refine ar_getf 83 d_91_80 rfl (ci := 9) (k := 4) rfl (hF.at 7 rfl) rfl ?_
    refine ar_getf 86 d_91_83 rfl (ci := 10) (k := 3) rfl (hF.at 18 rfl) rfl ?_
    refine ar_iconst 87 (v := 3) d_91_86 rfl (by decide) ?_
    refine ar_icmp_ne 107 90 d_91_87 (by decide) rfl (fun cc1 => ?_) (fun cc1 => ?_)
    · have hS1 : NS Z n nd nn gg C me f q u b uv h0 h D K A Y := ⟨hF, hN, hf, hn, hs, hp0, hu0⟩
      have hI1 : NI Z nn D := hI
      rw [← show F_91_k4 nn gg C me f u b D K A Y w1 = F_91_k3 nn gg C me f u b D K A Y w1 from eq_ifT cc1 (rfl)]
      exact k4 h D K A Y hS1 hI1
    · refine ar_aload_n 91 d_91_90 rfl rfl ?_
      refine ar_iconst 92 (v := 0) d_91_91 rfl (by decide) ?_
      refine ar_top (x' := nI 0) (rfl) ?_
      refine ar_bipush 94 (v := 8) d_91_92 rfl (by decide) ?_
      refine ar_top (x' := nI 8) (rfl) ?_
      have hS1 : NS Z n nd nn gg C me f q u b uv h0 h D K A Y := ⟨hF, hN, hf, hn, hs, hp0, hu0⟩
      have hI1 : NI Z nn D := hI
      refine ar_call (r := []) (na := 0) (kd := 0) (cm := 119) (fr2 := fr - 1) (lo2 := lo - 24) 97 d_91_94 (ar_hoV (as := [.int (nI 0), .int (nI 8)]) rfl rfl rfl (hF.at 7 rfl)) rfl (by omega) (show lo - 24 + (19 + 5) = lo by omega) (Nat.le_of_ble_eq_true rfl) (Nat.le_of_ble_eq_true rfl) ((s_119 (i0 := 0) (j0 := 8) (by omega) (by omega) hC0 hS1 hI1 (by omega) (by omega))) ?_
      intro v hh hq
      obtain ⟨y2, rfl, hyE2, ehh⟩ := hq
      rw [ehh]
      clear ehh
      clear hS1 hI1
      refine ar_if_eq 107 100 d_91_97 (by decide) rfl (fun cc3 => ?_) (fun cc3 => ?_)
      · have hS1 : NS Z n nd nn gg C me f q u b uv h0 h D K A Y := ⟨hF, hN, hf, hn, hs, hp0, hu0⟩
        have hI1 : NI Z nn D := hI
        rw [← show F_91_k4 nn gg C me f u b D K A Y w1 = F_91_k3 nn gg C me f u b D K A Y w1 from eq_ifF cc1 (bnI_eq hyE2 (eq_ifT cc3 (rfl)))]
        exact k4 h D K A Y hS1 hI1
      · refine ar_aload_n 101 d_91_100 rfl rfl ?_
        refine ar_getf 104 d_91_101 rfl (ci := 9) (k := 4) rfl (hF.at 7 rfl) rfl ?_
        have hS1 : NS Z n nd nn gg C me f q u b uv h0 h D K A Y := ⟨hF, hN, hf, hn, hs, hp0, hu0⟩
        have hI1 : NI Z nn D := hI
        refine ar_call (r := []) (na := 0) (kd := 0) (cm := 121) (fr2 := fr - 1) (lo2 := lo - 20) 107 d_91_104 (ar_hoV (as := []) rfl rfl rfl (hF.at 18 rfl)) rfl (by omega) (show lo - 20 + (19 + 1) = lo by omega) (Nat.le_of_ble_eq_true rfl) (Nat.le_of_ble_eq_true rfl) (s_121 (by omega) (by omega) hC0 hS1 hI1 (Decidable.not_not.mp cc1)) ?_
        intro v hp_4 hq
        obtain ⟨rfl, D4, K4, A4, Y4, hS2, hI2, hE4, -⟩ := hq
        clear hS1 hI1 hF hN hf hn hs hp0 hu0
        obtain ⟨hF, hN, hf, hn, hs, hp0, hu0⟩ := hS2
        replace hF : ax_hs hp_4 [cNd n nd me D4, cDk nd D4, cAr nd 2 35840 D4, cAr nd 3 4096 D4, cAr nd 4 32 D4, cAr nd 5 280 D4, cAr nd 6 280 D4, cLd n nd me D4 A4, cAr nd 8 16 D4, cAr nd 9 280 D4, cTb nd gg D4 K4, cAr nd 11 48 D4, cAr nd 12 48 D4, cAr nd 13 48 D4, cAr nd 14 2400 D4, cAr nd 15 512 D4, cAr nd 16 961 D4, cAr nd 17 961 D4, cWk nd D4, cWa nd D4, cAr nd 20 612 D4, cAr nd 21 1152 D4, cRk n nn gg C, cOr n nn gg f] := hF
        have hI4 := hI2
        clear hI2
        have hS1 : NS Z n nd nn gg C me f q u b uv h0 hp_4 D4 K4 A4 Y4 := ⟨hF, hN, hf, hn, hs, hp0, hu0⟩
        have hI1 : NI Z nn D4 := hI4
        rw [← show F_91_k4 nn gg C me f u b D4 K4 A4 Y4 w1 = F_91_k3 nn gg C me f u b D K A Y w1 from eq_ifF cc1 (bnI_eq hyE2 (eq_ifF cc3 (bnS_eq hE4 (rfl))))]
        exact k4 hp_4 D4 K4 A4 Y4 hS1 hI1
  have k2 : ∀ (h : ax_H) (D : Nat → Nat → Int32) (K A : Int64) (Y : List Mg), NS Z n nd nn gg C me f q u b uv h0 h D K A Y → NI Z nn D → ax_A (ax_step L xs) ((91, 44, fr, lo), [(0, .ref (nd + 7)), (1, .int w1)], [], h) (fun r h' => r = none ∧ PS Z n nd nn gg C me f q u b uv h0 h' (fun D' K' A' Y' => (D', K', A', Y') = F_91_k2 nn gg C me f u b D K A Y w1 ∧ True)) := by
    intro h D K A Y hS hI
    obtain ⟨hnd, hn0, hnn3, hnn, hgg1, hgg, hRg⟩ := hC
    obtain ⟨hF, hN, hf, hn, hs, hp0, hu0⟩ := hS
    replace hF : ax_hs h [cNd n nd me D, cDk nd D, cAr nd 2 35840 D, cAr nd 3 4096 D, cAr nd 4 32 D, cAr nd 5 280 D, cAr nd 6 280 D, cLd n nd me D A, cAr nd 8 16 D, cAr nd 9 280 D, cTb nd gg D K, cAr nd 11 48 D, cAr nd 12 48 D, cAr nd 13 48 D, cAr nd 14 2400 D, cAr nd 15 512 D, cAr nd 16 961 D, cAr nd 17 961 D, cWk nd D, cWa nd D, cAr nd 20 612 D, cAr nd 21 1152 D, cRk n nn gg C, cOr n nn gg f] := hF
    refine ar_aload_n 45 d_91_44 rfl rfl ?_
    refine ar_getf 48 d_91_45 rfl (ci := 9) (k := 4) rfl (hF.at 7 rfl) rfl ?_
    refine ar_getf 51 d_91_48 rfl (ci := 10) (k := 3) rfl (hF.at 18 rfl) rfl ?_
    refine ar_iconst 52 (v := 2) d_91_51 rfl (by decide) ?_
    refine ar_icmp_ne 79 55 d_91_52 (by decide) rfl (fun cc1 => ?_) (fun cc1 => ?_)
    · have hS1 : NS Z n nd nn gg C me f q u b uv h0 h D K A Y := ⟨hF, hN, hf, hn, hs, hp0, hu0⟩
      have hI1 : NI Z nn D := hI
      rw [← show F_91_k3 nn gg C me f u b D K A Y w1 = F_91_k2 nn gg C me f u b D K A Y w1 from eq_ifT cc1 (rfl)]
      exact k3 h D K A Y hS1 hI1
    · refine ar_aload_n 56 d_91_55 rfl rfl ?_
      refine ar_getf 59 d_91_56 rfl (ci := 9) (k := 4) rfl (hF.at 7 rfl) rfl ?_
      refine ar_getf 62 d_91_59 rfl (ci := 10) (k := 12) rfl (hF.at 18 rfl) rfl ?_
      refine ar_if_ne 79 65 d_91_62 (by decide) rfl (fun cc2 => ?_) (fun cc2 => ?_)
      · have hS1 : NS Z n nd nn gg C me f q u b uv h0 h D K A Y := ⟨hF, hN, hf, hn, hs, hp0, hu0⟩
        have hI1 : NI Z nn D := hI
        rw [← show F_91_k3 nn gg C me f u b D K A Y w1 = F_91_k2 nn gg C me f u b D K A Y w1 from eq_ifF cc1 (eq_ifT cc2 (rfl))]
        exact k3 h D K A Y hS1 hI1
      · refine ar_aload_n 66 d_91_65 rfl rfl ?_
        refine ar_getf 69 d_91_66 rfl (ci := 9) (k := 4) rfl (hF.at 7 rfl) rfl ?_
        have hS1 : NS Z n nd nn gg C me f q u b uv h0 h D K A Y := ⟨hF, hN, hf, hn, hs, hp0, hu0⟩
        have hI1 : NI Z nn D := hI
        refine ar_call (r := []) (na := 0) (kd := 0) (cm := 104) (fr2 := fr - 1) (lo2 := lo - 20) 72 d_91_69 (ar_hoV (as := []) rfl rfl rfl (hF.at 18 rfl)) rfl (by omega) (show lo - 20 + (19 + 1) = lo by omega) (Nat.le_of_ble_eq_true rfl) (Nat.le_of_ble_eq_true rfl) (s_104 (by omega) (by omega) hC0 hS1 hI1 (Decidable.not_not.mp cc1)) ?_
        intro v hp_3 hq
        obtain ⟨rfl, D3, K3, A3, Y3, hS2, hI2, hE3, hSI, h35⟩ := hq
        clear hS1 hI1 hF hN hf hn hs hp0 hu0
        obtain ⟨hF, hN, hf, hn, hs, hp0, hu0⟩ := hS2
        replace hF : ax_hs hp_3 [cNd n nd me D3, cDk nd D3, cAr nd 2 35840 D3, cAr nd 3 4096 D3, cAr nd 4 32 D3, cAr nd 5 280 D3, cAr nd 6 280 D3, cLd n nd me D3 A3, cAr nd 8 16 D3, cAr nd 9 280 D3, cTb nd gg D3 K3, cAr nd 11 48 D3, cAr nd 12 48 D3, cAr nd 13 48 D3, cAr nd 14 2400 D3, cAr nd 15 512 D3, cAr nd 16 961 D3, cAr nd 17 961 D3, cWk nd D3, cWa nd D3, cAr nd 20 612 D3, cAr nd 21 1152 D3, cRk n nn gg C, cOr n nn gg f] := hF
        have hI3 := hI2
        clear hI2
        refine ar_aload_n 73 d_91_72 rfl rfl ?_
        refine ar_getf 76 d_91_73 rfl (ci := 9) (k := 4) rfl (hF.at 7 rfl) rfl ?_
        have hS1 : NS Z n nd nn gg C me f q u b uv h0 hp_3 D3 K3 A3 Y3 := ⟨hF, hN, hf, hn, hs, hp0, hu0⟩
        have hI1 : NI Z nn D3 := hI3
        refine ar_call (r := []) (na := 0) (kd := 0) (cm := 114) (fr2 := fr - 1) (lo2 := lo - 22) 79 d_91_76 (ar_hoV (as := []) rfl rfl rfl (hF.at 18 rfl)) rfl (by omega) (show lo - 22 + (19 + 3) = lo by omega) (Nat.le_of_ble_eq_true rfl) (Nat.le_of_ble_eq_true rfl) (s_114 (by omega) (by omega) hC0 hS1 hI1 h35 hSI) ?_
        intro v hp_4 hq
        obtain ⟨rfl, D4, K4, A4, Y4, hS2, hI2, hE4, -⟩ := hq
        clear hS1 hI1 hF hN hf hn hs hp0 hu0
        obtain ⟨hF, hN, hf, hn, hs, hp0, hu0⟩ := hS2
        replace hF : ax_hs hp_4 [cNd n nd me D4, cDk nd D4, cAr nd 2 35840 D4, cAr nd 3 4096 D4, cAr nd 4 32 D4, cAr nd 5 280 D4, cAr nd 6 280 D4, cLd n nd me D4 A4, cAr nd 8 16 D4, cAr nd 9 280 D4, cTb nd gg D4 K4, cAr nd 11 48 D4, cAr nd 12 48 D4, cAr nd 13 48 D4, cAr nd 14 2400 D4, cAr nd 15 512 D4, cAr nd 16 961 D4, cAr nd 17 961 D4, cWk nd D4, cWa nd D4, cAr nd 20 612 D4, cAr nd 21 1152 D4, cRk n nn gg C, cOr n nn gg f] := hF
        have hI4 := hI2
        clear hI2
        have hS1 : NS Z n nd nn gg C me f q u b uv h0 hp_4 D4 K4 A4 Y4 := ⟨hF, hN, hf, hn, hs, hp0, hu0⟩
        have hI1 : NI Z nn D4 := hI4
        rw [← show F_91_k3 nn gg C me f u b D4 K4 A4 Y4 w1 = F_91_k2 nn gg C me f u b D K A Y w1 from eq_ifF cc1 (eq_ifF cc2 (bnS_eq hE3 (bnS_eq hE4 (rfl))))]
        exact k3 hp_4 D4 K4 A4 Y4 hS1 hI1
  show ax_A (ax_step L xs) ((91, 0, fr, lo), [(0, .ref (nd + 7))], [], h) _
  have hS0 := hS
  obtain ⟨hnd, hn0, hnn3, hnn, hgg1, hgg, hRg⟩ := hC
  obtain ⟨hF, hN, hf, hn, hs, hp0, hu0⟩ := hS
  replace hF : ax_hs h [cNd n nd me D, cDk nd D, cAr nd 2 35840 D, cAr nd 3 4096 D, cAr nd 4 32 D, cAr nd 5 280 D, cAr nd 6 280 D, cLd n nd me D A, cAr nd 8 16 D, cAr nd 9 280 D, cTb nd gg D K, cAr nd 11 48 D, cAr nd 12 48 D, cAr nd 13 48 D, cAr nd 14 2400 D, cAr nd 15 512 D, cAr nd 16 961 D, cAr nd 17 961 D, cWk nd D, cWa nd D, cAr nd 20 612 D, cAr nd 21 1152 D, cRk n nn gg C, cOr n nn gg f] := hF
  refine ar_aload_n 1 d_91_0 rfl rfl ?_
  refine ar_getf 4 d_91_1 rfl (ci := 9) (k := 4) rfl (hF.at 7 rfl) rfl ?_
  refine ar_getf 7 d_91_4 rfl (ci := 10) (k := 3) rfl (hF.at 18 rfl) rfl ?_
  refine ar_istore_n 8 [(0, .ref (nd + 7)), (1, .int (D 18 3))] d_91_7 rfl (by decide) rfl ?_
  rw [← ew1]
  refine ar_aload_n 9 d_91_8 rfl rfl ?_
  refine ar_getf 12 d_91_9 rfl (ci := 9) (k := 4) rfl (hF.at 7 rfl) rfl ?_
  refine ar_getf 15 d_91_12 rfl (ci := 10) (k := 3) rfl (hF.at 18 rfl) rfl ?_
  refine ar_iconst 16 (v := 1) d_91_15 rfl (by decide) ?_
  refine ar_icmp_ne 44 19 d_91_16 (by decide) rfl (fun cc1 => ?_) (fun cc1 => ?_)
  · have hS1 : NS Z n nd nn gg C me f q u b uv h0 h D K A Y := ⟨hF, hN, hf, hn, hs, hp0, hu0⟩
    have hI1 : NI Z nn D := hI
    rw [← show F_91_k2 nn gg C me f u b D K A Y w1 = F_91 nn gg C me f u b D K A Y from bnI_eq ew1 (eq_ifT cc1 (rfl))]
    exact k2 h D K A Y hS1 hI1
  · refine ar_aload_n 20 d_91_19 rfl rfl ?_
    refine ar_getf 23 d_91_20 rfl (ci := 9) (k := 3) rfl (hF.at 7 rfl) rfl ?_
    refine ar_call (r := []) (na := 0) (kd := 0) (cm := 72) (fr2 := fr - 1) (lo2 := lo - 20) 26 d_91_23 (ar_hoV (as := []) rfl rfl rfl (hF.at 10 rfl)) rfl (by omega) (show lo - 20 + (19 + 1) = lo by omega) (Nat.le_of_ble_eq_true rfl) (Nat.le_of_ble_eq_true rfl) (c_72E (by omega) (by omega) (hF.at 10 rfl)) ?_
    intro v hh hq
    obtain ⟨rfl, ehh⟩ := hq
    rw [ehh]
    clear ehh
    refine ar_if_eq 44 29 d_91_26 (by decide) rfl (fun cc2 => ?_) (fun cc2 => ?_)
    · have hS1 : NS Z n nd nn gg C me f q u b uv h0 h D K A Y := ⟨hF, hN, hf, hn, hs, hp0, hu0⟩
      have hI1 : NI Z nn D := hI
      rw [← show F_91_k2 nn gg C me f u b D K A Y w1 = F_91 nn gg C me f u b D K A Y from bnI_eq ew1 (eq_ifF cc1 (eq_ifT cc2 (rfl)))]
      exact k2 h D K A Y hS1 hI1
    · refine ar_aload_n 30 d_91_29 rfl rfl ?_
      refine ar_iconst 31 (v := 0) d_91_30 rfl (by decide) ?_
      refine ar_top (x' := nI 0) (rfl) ?_
      refine ar_call (r := []) (na := 0) (kd := 0) (cm := 92) (fr2 := fr - 1) (lo2 := lo - 21) 34 d_91_31 (ar_hoV (as := [.int (nI 0)]) rfl rfl rfl (hF.at 7 rfl)) rfl (by omega) (show lo - 21 + (19 + 2) = lo by omega) (Nat.le_of_ble_eq_true rfl) (Nat.le_of_ble_eq_true rfl) (c_92E (i := 0) (by omega) (hF.at 7 rfl) (hF.at 8 rfl)) ?_
      intro v hh hq
      obtain ⟨rfl, ehh⟩ := hq
      rw [ehh]
      clear ehh
      refine ar_if_eq 44 37 d_91_34 (by decide) rfl (fun cc3 => ?_) (fun cc3 => ?_)
      · have hS1 : NS Z n nd nn gg C me f q u b uv h0 h D K A Y := ⟨hF, hN, hf, hn, hs, hp0, hu0⟩
        have hI1 : NI Z nn D := hI
        rw [← show F_91_k2 nn gg C me f u b D K A Y w1 = F_91 nn gg C me f u b D K A Y from bnI_eq ew1 (eq_ifF cc1 (eq_ifF cc2 (eq_ifT cc3 (rfl))))]
        exact k2 h D K A Y hS1 hI1
      · refine ar_aload_n 38 d_91_37 rfl rfl ?_
        refine ar_getf 41 d_91_38 rfl (ci := 9) (k := 4) rfl (hF.at 7 rfl) rfl ?_
        have hS1 : NS Z n nd nn gg C me f q u b uv h0 h D K A Y := ⟨hF, hN, hf, hn, hs, hp0, hu0⟩
        have hI1 : NI Z nn D := hI
        refine ar_call (r := []) (na := 0) (kd := 0) (cm := 93) (fr2 := fr - 1) (lo2 := lo - 21) 44 d_91_41 (ar_hoV (as := []) rfl rfl rfl (hF.at 18 rfl)) rfl (by omega) (show lo - 21 + (19 + 2) = lo by omega) (Nat.le_of_ble_eq_true rfl) (Nat.le_of_ble_eq_true rfl) (s_93 (by omega) (by omega) hC0 hS1 hI1 (Decidable.not_not.mp cc1)) ?_
        intro v hp_4 hq
        obtain ⟨rfl, D4, K4, A4, Y4, hS2, hI2, hE4, -⟩ := hq
        clear hS1 hI1 hF hN hf hn hs hp0 hu0
        obtain ⟨hF, hN, hf, hn, hs, hp0, hu0⟩ := hS2
        replace hF : ax_hs hp_4 [cNd n nd me D4, cDk nd D4, cAr nd 2 35840 D4, cAr nd 3 4096 D4, cAr nd 4 32 D4, cAr nd 5 280 D4, cAr nd 6 280 D4, cLd n nd me D4 A4, cAr nd 8 16 D4, cAr nd 9 280 D4, cTb nd gg D4 K4, cAr nd 11 48 D4, cAr nd 12 48 D4, cAr nd 13 48 D4, cAr nd 14 2400 D4, cAr nd 15 512 D4, cAr nd 16 961 D4, cAr nd 17 961 D4, cWk nd D4, cWa nd D4, cAr nd 20 612 D4, cAr nd 21 1152 D4, cRk n nn gg C, cOr n nn gg f] := hF
        have hI4 := hI2
        clear hI2
        have hS1 : NS Z n nd nn gg C me f q u b uv h0 hp_4 D4 K4 A4 Y4 := ⟨hF, hN, hf, hn, hs, hp0, hu0⟩
        have hI1 : NI Z nn D4 := hI4
        rw [← show F_91_k2 nn gg C me f u b D4 K4 A4 Y4 w1 = F_91 nn gg C me f u b D K A Y from bnI_eq ew1 (eq_ifF cc1 (eq_ifF cc2 (eq_ifF cc3 (bnS_eq hE4 (rfl)))))]
        exact k2 hp_4 D4 K4 A4 Y4 hS1 hI1
def F_137_k2 (nn gg : Nat) (C me : Int32) (f u b : Nat → Int32) (D : Nat → Nat → Int32) (K A : Int64) (Y : List Mg)  : St :=
  if ¬ (acB (D 18 3)) = 0 then
    (D, K, A, Y)
  else
    if (knA K (D 10 9)) = 0 then
      (D, K, A, Y)
    else
      if ¬ (D 7 14) = 0 then
        (D, K, A, Y)
      else
        bnS (F_138 nn gg C me f u b D K A Y) (fun D4 K4 A4 Y4 =>
          (D4, K4, A4, Y4))
def F_137_k1 (nn gg : Nat) (C me : Int32) (f u b : Nat → Int32) (D : Nat → Nat → Int32) (K A : Int64) (Y : List Mg)  : St :=
  bnS (F_125 nn gg C me f u b D K A Y) (fun D1 K1 A1 Y1 =>
    F_137_k2 nn gg C me f u b D1 K1 A1 Y1)
def F_137 (nn gg : Nat) (C me : Int32) (f u b : Nat → Int32) (D : Nat → Nat → Int32) (K A : Int64) (Y : List Mg)  : St :=
  bnN ((D 7 13).toNatClampNeg) (fun tu =>
    if (D 18 3) = 3 then
      F_137_k1 nn gg C me f u b (va_up D 7 (upd (D 7) 13 (nI ((tu + 1) % nn)))) K 0 Y
    else
      if (D 18 3) = 4 then
        F_137_k1 nn gg C me f u b (va_up D 7 (upd (D 7) 13 (nI ((tu + 1) % nn)))) K 0 Y
      else
        bnS (F_35 nn gg C me f u b (va_up D 7 (upd (D 7) 13 (nI ((tu + 1) % nn)))) K 0 Y) (fun D5 K5 A5 Y5 =>
          F_137_k1 nn gg C me f u b D5 K5 A5 Y5))
theorem s_137 {L : Nat} {xs : Nat → Int32} {fr lo : Nat} {Z : ZT} {n nd nn gg : Nat} {C me : Int32} {f : Nat → Int32} {q : Nat} {u b : Nat → Int32} {uv : Int32} {h0 h : ax_H} {D : Nat → Nat → Int32} {K A : Int64} {Y : List Mg}  (hfr : 7 ≤ fr) (hlo : 200 ≤ lo) (hC : CS n nd nn gg f) (hS : NS Z n nd nn gg C me f q u b uv h0 h D K A Y) (hI : NI Z nn D) : ax_M L xs 137 fr lo [.ref (nd + 7)] h (fun r h' => r = none ∧ PS Z n nd nn gg C me f q u b uv h0 h' (fun D' K' A' Y' => (D', K', A', Y') = F_137 nn gg C me f u b D K A Y ∧ True)) := by
  have hC0 := hC
  have k2 : ∀ (h : ax_H) (D : Nat → Nat → Int32) (K A : Int64) (Y : List Mg), NS Z n nd nn gg C me f q u b uv h0 h D K A Y → NI Z nn D → ax_A (ax_step L xs) ((137, 53, fr, lo), [(0, .ref (nd + 7))], [], h) (fun r h' => r = none ∧ PS Z n nd nn gg C me f q u b uv h0 h' (fun D' K' A' Y' => (D', K', A', Y') = F_137_k2 nn gg C me f u b D K A Y ∧ True)) := by
    intro h D K A Y hS hI
    obtain ⟨hnd, hn0, hnn3, hnn, hgg1, hgg, hRg⟩ := hC
    obtain ⟨hF, hN, hf, hn, hs, hp0, hu0⟩ := hS
    replace hF : ax_hs h [cNd n nd me D, cDk nd D, cAr nd 2 35840 D, cAr nd 3 4096 D, cAr nd 4 32 D, cAr nd 5 280 D, cAr nd 6 280 D, cLd n nd me D A, cAr nd 8 16 D, cAr nd 9 280 D, cTb nd gg D K, cAr nd 11 48 D, cAr nd 12 48 D, cAr nd 13 48 D, cAr nd 14 2400 D, cAr nd 15 512 D, cAr nd 16 961 D, cAr nd 17 961 D, cWk nd D, cWa nd D, cAr nd 20 612 D, cAr nd 21 1152 D, cRk n nn gg C, cOr n nn gg f] := hF
    refine ar_aload_n 54 d_137_53 rfl rfl ?_
    refine ar_getf 57 d_137_54 rfl (ci := 9) (k := 4) rfl (hF.at 7 rfl) rfl ?_
    refine ar_call (r := []) (na := 0) (kd := 0) (cm := 71) (fr2 := fr - 1) (lo2 := lo - 20) 60 d_137_57 (ar_hoV (as := []) rfl rfl rfl (hF.at 18 rfl)) rfl (by omega) (show lo - 20 + (19 + 1) = lo by omega) (Nat.le_of_ble_eq_true rfl) (Nat.le_of_ble_eq_true rfl) (c_71E (hF.at 18 rfl)) ?_
    intro v hh hq
    obtain ⟨rfl, ehh⟩ := hq
    rw [ehh]
    clear ehh
    refine ar_if_ne 84 63 d_137_60 (by decide) rfl (fun cc1 => ?_) (fun cc1 => ?_)
    · have hS9 : NS Z n nd nn gg C me f q u b uv h0 h D K A Y := ⟨hF, hN, hf, hn, hs, hp0, hu0⟩
      have hI9 : NI Z nn D := hI
      exact ar_ret d_137_84 rfl (⟨rfl, _, _, _, _, hS9, hI9, eq_ifT cc1 (rfl), trivial⟩)
    · refine ar_aload_n 64 d_137_63 rfl rfl ?_
      refine ar_getf 67 d_137_64 rfl (ci := 9) (k := 3) rfl (hF.at 7 rfl) rfl ?_
      refine ar_call (r := []) (na := 0) (kd := 0) (cm := 72) (fr2 := fr - 1) (lo2 := lo - 20) 70 d_137_67 (ar_hoV (as := []) rfl rfl rfl (hF.at 10 rfl)) rfl (by omega) (show lo - 20 + (19 + 1) = lo by omega) (Nat.le_of_ble_eq_true rfl) (Nat.le_of_ble_eq_true rfl) (c_72E (by omega) (by omega) (hF.at 10 rfl)) ?_
      intro v hh hq
      obtain ⟨rfl, ehh⟩ := hq
      rw [ehh]
      clear ehh
      refine ar_if_eq 84 73 d_137_70 (by decide) rfl (fun cc2 => ?_) (fun cc2 => ?_)
      · have hS9 : NS Z n nd nn gg C me f q u b uv h0 h D K A Y := ⟨hF, hN, hf, hn, hs, hp0, hu0⟩
        have hI9 : NI Z nn D := hI
        exact ar_ret d_137_84 rfl (⟨rfl, _, _, _, _, hS9, hI9, eq_ifF cc1 (eq_ifT cc2 (rfl)), trivial⟩)
      · refine ar_aload_n 74 d_137_73 rfl rfl ?_
        refine ar_getf 77 d_137_74 rfl (ci := 9) (k := 14) rfl (hF.at 7 rfl) rfl ?_
        refine ar_if_ne 84 80 d_137_77 (by decide) rfl (fun cc3 => ?_) (fun cc3 => ?_)
        · have hS9 : NS Z n nd nn gg C me f q u b uv h0 h D K A Y := ⟨hF, hN, hf, hn, hs, hp0, hu0⟩
          have hI9 : NI Z nn D := hI
          exact ar_ret d_137_84 rfl (⟨rfl, _, _, _, _, hS9, hI9, eq_ifF cc1 (eq_ifF cc2 (eq_ifT cc3 (rfl))), trivial⟩)
        · refine ar_aload_n 81 d_137_80 rfl rfl ?_
          have hS1 : NS Z n nd nn gg C me f q u b uv h0 h D K A Y := ⟨hF, hN, hf, hn, hs, hp0, hu0⟩
          have hI1 : NI Z nn D := hI
          refine ar_call (r := []) (na := 0) (kd := 0) (cm := 138) (fr2 := fr - 1) (lo2 := lo - 23) 84 d_137_81 (ar_hoV (as := []) rfl rfl rfl (hF.at 7 rfl)) rfl (by omega) (show lo - 23 + (19 + 4) = lo by omega) (Nat.le_of_ble_eq_true rfl) (Nat.le_of_ble_eq_true rfl) (s_138 (by omega) (by omega) hC0 hS1 hI1) ?_
          intro v hp_4 hq
          obtain ⟨rfl, D4, K4, A4, Y4, hS2, hI2, hE4, -⟩ := hq
          clear hS1 hI1 hF hN hf hn hs hp0 hu0
          obtain ⟨hF, hN, hf, hn, hs, hp0, hu0⟩ := hS2
          replace hF : ax_hs hp_4 [cNd n nd me D4, cDk nd D4, cAr nd 2 35840 D4, cAr nd 3 4096 D4, cAr nd 4 32 D4, cAr nd 5 280 D4, cAr nd 6 280 D4, cLd n nd me D4 A4, cAr nd 8 16 D4, cAr nd 9 280 D4, cTb nd gg D4 K4, cAr nd 11 48 D4, cAr nd 12 48 D4, cAr nd 13 48 D4, cAr nd 14 2400 D4, cAr nd 15 512 D4, cAr nd 16 961 D4, cAr nd 17 961 D4, cWk nd D4, cWa nd D4, cAr nd 20 612 D4, cAr nd 21 1152 D4, cRk n nn gg C, cOr n nn gg f] := hF
          have hI4 := hI2
          clear hI2
          have hS9 : NS Z n nd nn gg C me f q u b uv h0 hp_4 D4 K4 A4 Y4 := ⟨hF, hN, hf, hn, hs, hp0, hu0⟩
          have hI9 : NI Z nn D4 := hI4
          exact ar_ret d_137_84 rfl (⟨rfl, _, _, _, _, hS9, hI9, eq_ifF cc1 (eq_ifF cc2 (eq_ifF cc3 (bnS_eq hE4 (rfl)))), trivial⟩)
  have k1 : ∀ (h : ax_H) (D : Nat → Nat → Int32) (K A : Int64) (Y : List Mg), NS Z n nd nn gg C me f q u b uv h0 h D K A Y → NI Z nn D → ax_A (ax_step L xs) ((137, 49, fr, lo), [(0, .ref (nd + 7))], [], h) (fun r h' => r = none ∧ PS Z n nd nn gg C me f q u b uv h0 h' (fun D' K' A' Y' => (D', K', A', Y') = F_137_k1 nn gg C me f u b D K A Y ∧ True)) := by
    intro h D K A Y hS hI
    obtain ⟨hnd, hn0, hnn3, hnn, hgg1, hgg, hRg⟩ := hC
    obtain ⟨hF, hN, hf, hn, hs, hp0, hu0⟩ := hS
    replace hF : ax_hs h [cNd n nd me D, cDk nd D, cAr nd 2 35840 D, cAr nd 3 4096 D, cAr nd 4 32 D, cAr nd 5 280 D, cAr nd 6 280 D, cLd n nd me D A, cAr nd 8 16 D, cAr nd 9 280 D, cTb nd gg D K, cAr nd 11 48 D, cAr nd 12 48 D, cAr nd 13 48 D, cAr nd 14 2400 D, cAr nd 15 512 D, cAr nd 16 961 D, cAr nd 17 961 D, cWk nd D, cWa nd D, cAr nd 20 612 D, cAr nd 21 1152 D, cRk n nn gg C, cOr n nn gg f] := hF
    refine ar_aload_n 50 d_137_49 rfl rfl ?_
    have hS1 : NS Z n nd nn gg C me f q u b uv h0 h D K A Y := ⟨hF, hN, hf, hn, hs, hp0, hu0⟩
    have hI1 : NI Z nn D := hI
    refine ar_call (r := []) (na := 0) (kd := 0) (cm := 125) (fr2 := fr - 1) (lo2 := lo - 21) 53 d_137_50 (ar_hoV (as := []) rfl rfl rfl (hF.at 7 rfl)) rfl (by omega) (show lo - 21 + (19 + 2) = lo by omega) (Nat.le_of_ble_eq_true rfl) (Nat.le_of_ble_eq_true rfl) (s_125 (by omega) (by omega) hC0 hS1 hI1) ?_
    intro v hp_1 hq
    obtain ⟨rfl, D1, K1, A1, Y1, hS2, hI2, hE1, -⟩ := hq
    clear hS1 hI1 hF hN hf hn hs hp0 hu0
    obtain ⟨hF, hN, hf, hn, hs, hp0, hu0⟩ := hS2
    replace hF : ax_hs hp_1 [cNd n nd me D1, cDk nd D1, cAr nd 2 35840 D1, cAr nd 3 4096 D1, cAr nd 4 32 D1, cAr nd 5 280 D1, cAr nd 6 280 D1, cLd n nd me D1 A1, cAr nd 8 16 D1, cAr nd 9 280 D1, cTb nd gg D1 K1, cAr nd 11 48 D1, cAr nd 12 48 D1, cAr nd 13 48 D1, cAr nd 14 2400 D1, cAr nd 15 512 D1, cAr nd 16 961 D1, cAr nd 17 961 D1, cWk nd D1, cWa nd D1, cAr nd 20 612 D1, cAr nd 21 1152 D1, cRk n nn gg C, cOr n nn gg f] := hF
    have hI1 := hI2
    clear hI2
    have hS1 : NS Z n nd nn gg C me f q u b uv h0 hp_1 D1 K1 A1 Y1 := ⟨hF, hN, hf, hn, hs, hp0, hu0⟩
    have hI1 : NI Z nn D1 := hI1
    rw [← show F_137_k2 nn gg C me f u b D1 K1 A1 Y1 = F_137_k1 nn gg C me f u b D K A Y from bnS_eq hE1 (rfl)]
    exact k2 hp_1 D1 K1 A1 Y1 hS1 hI1
  show ax_A (ax_step L xs) ((137, 0, fr, lo), [(0, .ref (nd + 7))], [], h) _
  obtain ⟨hnd, hn0, hnn3, hnn, hgg1, hgg, hRg⟩ := hC
  obtain ⟨hF, hN, hf, hn, hs, hp0, hu0⟩ := hS
  replace hF : ax_hs h [cNd n nd me D, cDk nd D, cAr nd 2 35840 D, cAr nd 3 4096 D, cAr nd 4 32 D, cAr nd 5 280 D, cAr nd 6 280 D, cLd n nd me D A, cAr nd 8 16 D, cAr nd 9 280 D, cTb nd gg D K, cAr nd 11 48 D, cAr nd 12 48 D, cAr nd 13 48 D, cAr nd 14 2400 D, cAr nd 15 512 D, cAr nd 16 961 D, cAr nd 17 961 D, cWk nd D, cWa nd D, cAr nd 20 612 D, cAr nd 21 1152 D, cRk n nn gg C, cOr n nn gg f] := hF
  obtain ⟨tu, htu, etu⟩ := hI.2.2.2.2
  refine ar_aload_n 1 d_137_0 rfl rfl ?_
  refine ar_lconst 2 (v := 0) d_137_1 rfl (by decide) ?_
  refine ar_putf 5 [.int me, .ref (n + 264), .ref n, .ref (nd + 10), .ref (nd + 18), .ref (nd + 8), .ref (nd + 9), .int (D 7 7), .int (D 7 8), .int (D 7 9), .int (D 7 10), .long 0, .int (D 7 12), .int (D 7 13), .int (D 7 14)] d_137_2 rfl (ci := 9) (k := 11) rfl rfl (hF.at 7 rfl) (Nat.le_of_ble_eq_true rfl) rfl rfl rfl ?_
  replace hF : ax_hs (ax_put h (nd + 7) (.inr (9, [.int me, .ref (n + 264), .ref n, .ref (nd + 10), .ref (nd + 18), .ref (nd + 8), .ref (nd + 9), .int (D 7 7), .int (D 7 8), .int (D 7 9), .int (D 7 10), .long 0, .int (D 7 12), .int (D 7 13), .int (D 7 14)]))) [cNd n nd me D, cDk nd D, cAr nd 2 35840 D, cAr nd 3 4096 D, cAr nd 4 32 D, cAr nd 5 280 D, cAr nd 6 280 D, (nd + 7, .inr (9, [.int me, .ref (n + 264), .ref n, .ref (nd + 10), .ref (nd + 18), .ref (nd + 8), .ref (nd + 9), .int (D 7 7), .int (D 7 8), .int (D 7 9), .int (D 7 10), .long 0, .int (D 7 12), .int (D 7 13), .int (D 7 14)])), cAr nd 8 16 D, cAr nd 9 280 D, cTb nd gg D K, cAr nd 11 48 D, cAr nd 12 48 D, cAr nd 13 48 D, cAr nd 14 2400 D, cAr nd 15 512 D, cAr nd 16 961 D, cAr nd 17 961 D, cWk nd D, cWa nd D, cAr nd 20 612 D, cAr nd 21 1152 D, cRk n nn gg C, cOr n nn gg f] := hF.put 7 _ rfl rfl
  replace hf := hf.put (a := nd + 7) (c := .inr (9, [.int me, .ref (n + 264), .ref n, .ref (nd + 10), .ref (nd + 18), .ref (nd + 8), .ref (nd + 9), .int (D 7 7), .int (D 7 8), .int (D 7 9), .int (D 7 10), .long 0, .int (D 7 12), .int (D 7 13), .int (D 7 14)])) (Or.inr (by omega))
  replace hN := hN.put (a := nd + 7) (c := .inr (9, [.int me, .ref (n + 264), .ref n, .ref (nd + 10), .ref (nd + 18), .ref (nd + 8), .ref (nd + 9), .int (D 7 7), .int (D 7 8), .int (D 7 9), .int (D 7 10), .long 0, .int (D 7 12), .int (D 7 13), .int (D 7 14)])) (by omega)
  replace hn : (ax_put h (nd + 7) (.inr (9, [.int me, .ref (n + 264), .ref n, .ref (nd + 10), .ref (nd + 18), .ref (nd + 8), .ref (nd + 9), .int (D 7 7), .int (D 7 8), .int (D 7 9), .int (D 7 10), .long 0, .int (D 7 12), .int (D 7 13), .int (D 7 14)]))).1 = h0.1 := hn
  replace hs : (ax_put h (nd + 7) (.inr (9, [.int me, .ref (n + 264), .ref n, .ref (nd + 10), .ref (nd + 18), .ref (nd + 8), .ref (nd + 9), .int (D 7 7), .int (D 7 8), .int (D 7 9), .int (D 7 10), .long 0, .int (D 7 12), .int (D 7 13), .int (D 7 14)]))).2.1 = h0.2.1 := hs
  generalize ax_put h (nd + 7) (.inr (9, [.int me, .ref (n + 264), .ref n, .ref (nd + 10), .ref (nd + 18), .ref (nd + 8), .ref (nd + 9), .int (D 7 7), .int (D 7 8), .int (D 7 9), .int (D 7 10), .long 0, .int (D 7 12), .int (D 7 13), .int (D 7 14)])) = hp_1 at hF hf hN hn hs ⊢
  refine ar_aload_n 6 d_137_5 rfl rfl ?_
  refine ar_aload_n 7 d_137_6 rfl rfl ?_
  refine ar_getf 10 d_137_7 rfl (ci := 9) (k := 13) rfl (hF.at 7 rfl) rfl ?_
  refine ar_top (x' := nI tu) (etu) ?_
  refine ar_iconst 11 (v := 1) d_137_10 rfl (by decide) ?_
  refine ar_iadd 12 d_137_11 rfl ?_
  refine ar_top (x' := nI (tu + 1)) (nI_1 _) ?_
  refine ar_aload_n 13 d_137_12 rfl rfl ?_
  refine ar_getf 16 d_137_13 rfl (ci := 9) (k := 1) rfl (hF.at 7 rfl) rfl ?_
  refine ar_getf 19 d_137_16 rfl (ci := 3) (k := 0) rfl (hF.at 22 rfl) rfl ?_
  refine ar_irem 20 d_137_19 rfl (nI_nz9 (by omega) (by omega)) ?_
  refine ar_top (x' := nI ((tu + 1) % nn)) (pk_rem (by omega) (by omega) (by omega)) ?_
  refine ar_putf 23 [.int me, .ref (n + 264), .ref n, .ref (nd + 10), .ref (nd + 18), .ref (nd + 8), .ref (nd + 9), .int (D 7 7), .int (D 7 8), .int (D 7 9), .int (D 7 10), .long 0, .int (D 7 12), .int (nI ((tu + 1) % nn)), .int (D 7 14)] d_137_20 rfl (ci := 9) (k := 13) rfl rfl (hF.at 7 rfl) (Nat.le_of_ble_eq_true rfl) rfl rfl rfl ?_
  replace hF : ax_hs (ax_put hp_1 (nd + 7) (.inr (9, [.int me, .ref (n + 264), .ref n, .ref (nd + 10), .ref (nd + 18), .ref (nd + 8), .ref (nd + 9), .int (D 7 7), .int (D 7 8), .int (D 7 9), .int (D 7 10), .long 0, .int (D 7 12), .int (nI ((tu + 1) % nn)), .int (D 7 14)]))) [cNd n nd me D, cDk nd D, cAr nd 2 35840 D, cAr nd 3 4096 D, cAr nd 4 32 D, cAr nd 5 280 D, cAr nd 6 280 D, (nd + 7, .inr (9, [.int me, .ref (n + 264), .ref n, .ref (nd + 10), .ref (nd + 18), .ref (nd + 8), .ref (nd + 9), .int (D 7 7), .int (D 7 8), .int (D 7 9), .int (D 7 10), .long 0, .int (D 7 12), .int (nI ((tu + 1) % nn)), .int (D 7 14)])), cAr nd 8 16 D, cAr nd 9 280 D, cTb nd gg D K, cAr nd 11 48 D, cAr nd 12 48 D, cAr nd 13 48 D, cAr nd 14 2400 D, cAr nd 15 512 D, cAr nd 16 961 D, cAr nd 17 961 D, cWk nd D, cWa nd D, cAr nd 20 612 D, cAr nd 21 1152 D, cRk n nn gg C, cOr n nn gg f] := hF.put 7 _ rfl rfl
  replace hf := hf.put (a := nd + 7) (c := .inr (9, [.int me, .ref (n + 264), .ref n, .ref (nd + 10), .ref (nd + 18), .ref (nd + 8), .ref (nd + 9), .int (D 7 7), .int (D 7 8), .int (D 7 9), .int (D 7 10), .long 0, .int (D 7 12), .int (nI ((tu + 1) % nn)), .int (D 7 14)])) (Or.inr (by omega))
  replace hN := hN.put (a := nd + 7) (c := .inr (9, [.int me, .ref (n + 264), .ref n, .ref (nd + 10), .ref (nd + 18), .ref (nd + 8), .ref (nd + 9), .int (D 7 7), .int (D 7 8), .int (D 7 9), .int (D 7 10), .long 0, .int (D 7 12), .int (nI ((tu + 1) % nn)), .int (D 7 14)])) (by omega)
  replace hn : (ax_put hp_1 (nd + 7) (.inr (9, [.int me, .ref (n + 264), .ref n, .ref (nd + 10), .ref (nd + 18), .ref (nd + 8), .ref (nd + 9), .int (D 7 7), .int (D 7 8), .int (D 7 9), .int (D 7 10), .long 0, .int (D 7 12), .int (nI ((tu + 1) % nn)), .int (D 7 14)]))).1 = h0.1 := hn
  replace hs : (ax_put hp_1 (nd + 7) (.inr (9, [.int me, .ref (n + 264), .ref n, .ref (nd + 10), .ref (nd + 18), .ref (nd + 8), .ref (nd + 9), .int (D 7 7), .int (D 7 8), .int (D 7 9), .int (D 7 10), .long 0, .int (D 7 12), .int (nI ((tu + 1) % nn)), .int (D 7 14)]))).2.1 = h0.2.1 := hs
  generalize ax_put hp_1 (nd + 7) (.inr (9, [.int me, .ref (n + 264), .ref n, .ref (nd + 10), .ref (nd + 18), .ref (nd + 8), .ref (nd + 9), .int (D 7 7), .int (D 7 8), .int (D 7 9), .int (D 7 10), .long 0, .int (D 7 12), .int (nI ((tu + 1) % nn)), .int (D 7 14)])) = hp_2 at hF hf hN hn hs ⊢
  refine ar_aload_n 24 d_137_23 rfl rfl ?_
  refine ar_getf 27 d_137_24 rfl (ci := 9) (k := 4) rfl (hF.at 7 rfl) rfl ?_
  refine ar_getf 30 d_137_27 rfl (ci := 10) (k := 3) rfl (hF.at 18 rfl) rfl ?_
  refine ar_iconst 31 (v := 3) d_137_30 rfl (by decide) ?_
  refine ar_icmp_eq 49 34 d_137_31 (by decide) rfl (fun cc3 => ?_) (fun cc3 => ?_)
  · have hS1 : NS Z n nd nn gg C me f q u b uv h0 hp_2 (va_up D 7 (upd (D 7) 13 (nI ((tu + 1) % nn)))) K 0 Y := ⟨hF, hN, hf, hn, hs, hp0, hu0⟩
    have hI1 : NI Z nn (va_up D 7 (upd (D 7) 13 (nI ((tu + 1) % nn)))) := ⟨hI.1, hI.2.1, hI.2.2.1, hI.2.2.2.1, ⟨(tu + 1) % nn, Nat.mod_lt _ (by omega), rfl⟩⟩
    rw [← show F_137_k1 nn gg C me f u b (va_up D 7 (upd (D 7) 13 (nI ((tu + 1) % nn)))) K 0 Y = F_137 nn gg C me f u b D K A Y from bnN_eq (cl_eq htu etu (by omega)) (eq_ifT cc3 (rfl))]
    exact k1 hp_2 (va_up D 7 (upd (D 7) 13 (nI ((tu + 1) % nn)))) K 0 Y hS1 hI1
  · refine ar_aload_n 35 d_137_34 rfl rfl ?_
    refine ar_getf 38 d_137_35 rfl (ci := 9) (k := 4) rfl (hF.at 7 rfl) rfl ?_
    refine ar_getf 41 d_137_38 rfl (ci := 10) (k := 3) rfl (hF.at 18 rfl) rfl ?_
    refine ar_iconst 42 (v := 4) d_137_41 rfl (by decide) ?_
    refine ar_icmp_eq 49 45 d_137_42 (by decide) rfl (fun cc4 => ?_) (fun cc4 => ?_)
    · have hS1 : NS Z n nd nn gg C me f q u b uv h0 hp_2 (va_up D 7 (upd (D 7) 13 (nI ((tu + 1) % nn)))) K 0 Y := ⟨hF, hN, hf, hn, hs, hp0, hu0⟩
      have hI1 : NI Z nn (va_up D 7 (upd (D 7) 13 (nI ((tu + 1) % nn)))) := ⟨hI.1, hI.2.1, hI.2.2.1, hI.2.2.2.1, ⟨(tu + 1) % nn, Nat.mod_lt _ (by omega), rfl⟩⟩
      rw [← show F_137_k1 nn gg C me f u b (va_up D 7 (upd (D 7) 13 (nI ((tu + 1) % nn)))) K 0 Y = F_137 nn gg C me f u b D K A Y from bnN_eq (cl_eq htu etu (by omega)) (eq_ifF cc3 (eq_ifT cc4 (rfl)))]
      exact k1 hp_2 (va_up D 7 (upd (D 7) 13 (nI ((tu + 1) % nn)))) K 0 Y hS1 hI1
    · refine ar_aload_n 46 d_137_45 rfl rfl ?_
      have hS1 : NS Z n nd nn gg C me f q u b uv h0 hp_2 (va_up D 7 (upd (D 7) 13 (nI ((tu + 1) % nn)))) K 0 Y := ⟨hF, hN, hf, hn, hs, hp0, hu0⟩
      have hI1 : NI Z nn (va_up D 7 (upd (D 7) 13 (nI ((tu + 1) % nn)))) := ⟨hI.1, hI.2.1, hI.2.2.1, hI.2.2.2.1, ⟨(tu + 1) % nn, Nat.mod_lt _ (by omega), rfl⟩⟩
      refine ar_call (r := []) (na := 0) (kd := 0) (cm := 35) (fr2 := fr - 1) (lo2 := lo - 21) 49 d_137_46 (ar_hoV (as := []) rfl rfl rfl (hF.at 7 rfl)) rfl (by omega) (show lo - 21 + (19 + 2) = lo by omega) (Nat.le_of_ble_eq_true rfl) (Nat.le_of_ble_eq_true rfl) (s_35 (by omega) (by omega) hC0 hS1 hI1) ?_
      intro v hp_5 hq
      obtain ⟨rfl, D5, K5, A5, Y5, hS2, hI2, hE5, -⟩ := hq
      clear hS1 hI1 hF hN hf hn hs hp0 hu0
      obtain ⟨hF, hN, hf, hn, hs, hp0, hu0⟩ := hS2
      replace hF : ax_hs hp_5 [cNd n nd me D5, cDk nd D5, cAr nd 2 35840 D5, cAr nd 3 4096 D5, cAr nd 4 32 D5, cAr nd 5 280 D5, cAr nd 6 280 D5, cLd n nd me D5 A5, cAr nd 8 16 D5, cAr nd 9 280 D5, cTb nd gg D5 K5, cAr nd 11 48 D5, cAr nd 12 48 D5, cAr nd 13 48 D5, cAr nd 14 2400 D5, cAr nd 15 512 D5, cAr nd 16 961 D5, cAr nd 17 961 D5, cWk nd D5, cWa nd D5, cAr nd 20 612 D5, cAr nd 21 1152 D5, cRk n nn gg C, cOr n nn gg f] := hF
      have hI5 := hI2
      clear hI2
      have hS1 : NS Z n nd nn gg C me f q u b uv h0 hp_5 D5 K5 A5 Y5 := ⟨hF, hN, hf, hn, hs, hp0, hu0⟩
      have hI1 : NI Z nn D5 := hI5
      rw [← show F_137_k1 nn gg C me f u b D5 K5 A5 Y5 = F_137 nn gg C me f u b D K A Y from bnN_eq (cl_eq htu etu (by omega)) (eq_ifF cc3 (eq_ifF cc4 (bnS_eq hE5 (rfl))))]
      exact k1 hp_5 D5 K5 A5 Y5 hS1 hI1

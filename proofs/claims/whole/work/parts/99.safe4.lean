/-! listed for every state, exactly -/

theorem rlv_cnt {u : Nat → Int32} (h : u 0 = 5 ∨ u 0 = 11 ∨ u 0 = 12) : rlv u = (u 7).toNatClampNeg := by
  have hk : ∀ x : Int32, (x = 5 ∨ x = 11 ∨ x = 12) → ¬ x = 2 ∧ ¬ x = 3 := by
    rintro x (rfl | rfl | rfl) <;> decide
  unfold rlv
  rw [if_neg (hk _ h).1, if_neg (hk _ h).2, if_pos h]
theorem sm_cp {u b c : Nat → Int32} {d : Nat} (hd : rlv u ≤ d) : smM (u, va_cpy c b 0 0 d) (u, fun j => c j) := smM.all hd (fun i hi => by
  unfold va_cpy
  rw [if_pos (by omega)]
  congr 1
  omega)
def G_70 (nn gg : Nat) (C me : Int32) (f u b : Nat → Int32) (s2 s3 : Int32) : Nat → Nat → Nat → Int32 → (Nat → Nat → Int32) → Int64 → Int64 → List Mg → St
  | 0, i, d, y4, D, K, A, Y =>
    if (nI d) ≤ 0 then
      if ¬ (u 6) = 0 then
        if s2 = 0 then
          (va_up D 7 (upd (D 7) 10 (scB (D 7 10) (u 1) 0)), K, A, Y)
        else
          (va_up D 7 (upd (D 7) 10 (scB (D 7 10) (u 1) 0)), K, A, Y)
      else
        if s2 = 0 then
          (va_up D 7 (upd (D 7) 10 (scB (D 7 10) (u 1) 0)), K, A, Y)
        else
          if ¬ y4 = (u 7) then
            (va_up D 7 (upd (D 7) 10 (scB (D 7 10) (u 1) 0)), K, A, Y)
          else
            (va_up D 7 (upd (D 7) 10 (scB (D 7 10) (u 1) 1)), K, A, Y)
    else
      if ¬ (u 6) = 0 then
        if s2 = 0 then
          (va_up D 7 (upd (D 7) 10 (scB (D 7 10) (u 1) 0)), K, A, pst Y (va_up (mg 12 me (u 1) (D 7 7) (D 7 8)) 7 (nI d), fun j => D 9 j))
        else
          (va_up D 7 (upd (D 7) 10 (scB (D 7 10) (u 1) 0)), K, A, pst Y (va_up (mg 12 me (u 1) (D 7 7) (D 7 8)) 7 (nI d), fun j => D 9 j))
      else
        if s2 = 0 then
          (va_up D 7 (upd (D 7) 10 (scB (D 7 10) (u 1) 0)), K, A, pst Y (va_up (mg 12 me (u 1) (D 7 7) (D 7 8)) 7 (nI d), fun j => D 9 j))
        else
          if ¬ y4 = (u 7) then
            (va_up D 7 (upd (D 7) 10 (scB (D 7 10) (u 1) 0)), K, A, pst Y (va_up (mg 12 me (u 1) (D 7 7) (D 7 8)) 7 (nI d), fun j => D 9 j))
          else
            (va_up D 7 (upd (D 7) 10 (scB (D 7 10) (u 1) 1)), K, A, pst Y (va_up (mg 12 me (u 1) (D 7 7) (D 7 8)) 7 (nI d), fun j => D 9 j))
  | k + 1, i, d, y4, D, K, A, Y =>
    bnR (F_76 nn gg C me f u b D K A Y (b i) (u 1)) (fun y23 D24 K24 A24 Y24 =>
      if ¬ y23 = 0 then
        if ¬ y23 = 1 then
          if y23 = 2 then
            bnS (F_79 nn gg C me f u b D24 K24 A24 Y24 (b i) (u 1)) (fun D28 K28 A28 Y28 =>
              G_70 nn gg C me f u b s2 s3 k (i + 1) d y4 D28 K28 A28 Y28)
          else
            if ¬ s2 = 0 then
              G_70 nn gg C me f u b s2 s3 k (i + 1) d y4 D24 K24 A24 Y24
            else
              bnS (F_79 nn gg C me f u b D24 K24 A24 Y24 (b i) (u 1)) (fun D30 K30 A30 Y30 =>
                G_70 nn gg C me f u b s2 s3 k (i + 1) d y4 D30 K30 A30 Y30)
        else
          if s3 = 0 then
            if y23 = 2 then
              bnS (F_79 nn gg C me f u b D24 K24 A24 Y24 (b i) (u 1)) (fun D33 K33 A33 Y33 =>
                G_70 nn gg C me f u b s2 s3 k (i + 1) d y4 D33 K33 A33 Y33)
            else
              if ¬ s2 = 0 then
                G_70 nn gg C me f u b s2 s3 k (i + 1) d y4 D24 K24 A24 Y24
              else
                bnS (F_79 nn gg C me f u b D24 K24 A24 Y24 (b i) (u 1)) (fun D35 K35 A35 Y35 =>
                  G_70 nn gg C me f u b s2 s3 k (i + 1) d y4 D35 K35 A35 Y35)
          else
            if y23 = 2 then
              bnS (F_79 nn gg C me f u b (va_up D24 9 (upd (D24 9) d (b i))) K24 A24 Y24 (b i) (u 1)) (fun D38 K38 A38 Y38 =>
                G_70 nn gg C me f u b s2 s3 k (i + 1) (d + 1) y4 D38 K38 A38 Y38)
            else
              if ¬ s2 = 0 then
                G_70 nn gg C me f u b s2 s3 k (i + 1) (d + 1) y4 (va_up D24 9 (upd (D24 9) d (b i))) K24 A24 Y24
              else
                bnS (F_79 nn gg C me f u b (va_up D24 9 (upd (D24 9) d (b i))) K24 A24 Y24 (b i) (u 1)) (fun D40 K40 A40 Y40 =>
                  G_70 nn gg C me f u b s2 s3 k (i + 1) (d + 1) y4 D40 K40 A40 Y40)
      else
        if y23 = 2 then
          bnS (F_79 nn gg C me f u b D24 K24 A24 Y24 (b i) (u 1)) (fun D42 K42 A42 Y42 =>
            G_70 nn gg C me f u b s2 s3 k (i + 1) d (y4 + 1) D42 K42 A42 Y42)
        else
          if ¬ s2 = 0 then
            G_70 nn gg C me f u b s2 s3 k (i + 1) d (y4 + 1) D24 K24 A24 Y24
          else
            bnS (F_79 nn gg C me f u b D24 K24 A24 Y24 (b i) (u 1)) (fun D44 K44 A44 Y44 =>
              G_70 nn gg C me f u b s2 s3 k (i + 1) d (y4 + 1) D44 K44 A44 Y44))
def F_70 (nn gg : Nat) (C me : Int32) (f u b : Nat → Int32) (D : Nat → Nat → Int32) (K A : Int64) (Y : List Mg)  : St :=
  bnN ((u 7).toNatClampNeg) (fun cnt =>
    if ¬ (acB (D 18 3)) = 0 then
      G_70 nn gg C me f u b 0 0 cnt 0 0 0 D K A Y
    else
      if (knA K (D 10 9)) = 0 then
        G_70 nn gg C me f u b 0 0 cnt 0 0 0 D K A Y
      else
        if (sfB (D 8) (D 11) (D 16) (D 17) gg 960) = 0 then
          G_70 nn gg C me f u b 1 0 cnt 0 0 0 D K A Y
        else
          G_70 nn gg C me f u b 1 1 cnt 0 0 0 D K A Y)
set_option maxRecDepth 100000 in
theorem s_70 {L : Nat} {xs : Nat → Int32} {fr lo : Nat} {Z : ZT} {n nd nn gg : Nat} {C me : Int32} {f : Nat → Int32} {q : Nat} {u b : Nat → Int32} {uv : Int32} {h0 h : ax_H} {D : Nat → Nat → Int32} {K A : Int64} {Y : List Mg}  (hfr : 4 ≤ fr) (hlo : 130 ≤ lo) (hC : CS n nd nn gg f) (hS : NS Z n nd nn gg C me f q u b uv h0 h D K A Y) (hI : NI Z nn D) (hu : inR 281 (u 7)) : ax_M L xs 70 fr lo [.ref (nd + 7), .ref (n + 1 + 1 + 2 * q)] h (fun r h' => r = none ∧ PS Z n nd nn gg C me f q u b uv h0 h' (fun D' K' A' Y' => (D', K', A', Y') = F_70 nn gg C me f u b D K A Y ∧ True)) := by
  have hC0 := hC
  obtain ⟨cnt, hcnt, hu⟩ := hu
  have key : ∀ (s2 s3 : Int32) (k i d : Nat) (y4 : Int32) (h : ax_H) (D : Nat → Nat → Int32) (K A : Int64) (Y : List Mg), i + k = cnt → d ≤ i → NS Z n nd nn gg C me f q u b uv h0 h D K A Y → NI Z nn D → ax_A (ax_step L xs) ((70, 55, fr, lo), [(0, .ref (nd + 7)), (1, .ref (n + 1 + 1 + 2 * q)), (2, .int s2), (3, .int s3), (4, .int y4), (5, .int (nI d)), (6, .int (nI i))], [], h) (fun r h' => r = none ∧ PS Z n nd nn gg C me f q u b uv h0 h' (fun D' K' A' Y' => (D', K', A', Y') = G_70 nn gg C me f u b s2 s3 k i d y4 D K A Y ∧ True)) := by
    intro s2 s3 k
    induction k with
    | zero =>
      intro i d y4 h D K A Y hi hd hS hI
      have e0 : i = cnt := by omega
      subst e0
      obtain ⟨hnd, hn0, hnn3, hnn, hgg1, hgg, hRg⟩ := hC
      obtain ⟨hF, hN, hf, hn, hs, hp0, hu0⟩ := hS
      replace hF : ax_hs h [cNd n nd me D, cDk nd D, cAr nd 2 35840 D, cAr nd 3 4096 D, cAr nd 4 32 D, cAr nd 5 280 D, cAr nd 6 280 D, cLd n nd me D A, cAr nd 8 16 D, cAr nd 9 280 D, cTb nd gg D K, cAr nd 11 48 D, cAr nd 12 48 D, cAr nd 13 48 D, cAr nd 14 2400 D, cAr nd 15 512 D, cAr nd 16 961 D, cAr nd 17 961 D, cWk nd D, cWa nd D, cAr nd 20 612 D, cAr nd 21 1152 D, cRk n nn gg C, cOr n nn gg f] := hF
      refine ar_iload 57 d_70_55 rfl rfl ?_
      refine ar_aload_n 58 d_70_57 rfl rfl ?_
      refine ar_getf 61 d_70_58 rfl (ci := 2) (k := 7) rfl hN.mgc rfl ?_
      refine ar_icmp_ge 150 64 d_70_61 (by decide) rfl (fun _ => ?_) (fun c => absurd (by rw [hu]; exact Int32.le_refl _) c)
      refine ar_iload 152 d_70_150 rfl rfl ?_
      refine ar_if_le 205 155 d_70_152 (by decide) rfl (fun cc1 => ?_) (fun cc1 => ?_)
      · refine ar_aload_n 206 d_70_205 rfl rfl ?_
        refine ar_getf 209 d_70_206 rfl (ci := 2) (k := 6) rfl hN.mgc rfl ?_
        refine ar_if_ne 216 212 d_70_209 (by decide) rfl (fun cc2 => ?_) (fun cc2 => ?_)
        · refine ar_iconst 217 (v := 0) d_70_216 rfl (by decide) ?_
          refine ar_istore 219 [(0, .ref (nd + 7)), (1, .ref (n + 1 + 1 + 2 * q)), (2, .int s2), (3, .int s3), (4, .int y4), (5, .int (nI d)), (6, .int 0)] d_70_217 rfl (by decide) rfl ?_
          refine ar_aload_n 220 d_70_219 rfl rfl ?_
          refine ar_aload_n 221 d_70_220 rfl rfl ?_
          refine ar_getf 224 d_70_221 rfl (ci := 2) (k := 1) rfl hN.mgc rfl ?_
          refine ar_iload_n 225 d_70_224 rfl rfl ?_
          refine ar_if_eq 246 228 d_70_225 (by decide) rfl (fun cc3 => ?_) (fun cc3 => ?_)
          · refine ar_iconst 247 (v := 0) d_70_246 rfl (by decide) ?_
            refine ar_call (r := []) (na := 0) (kd := 0) (cm := 82) (fr2 := fr - 1) (lo2 := lo - 22) 250 d_70_247 (ar_hoV (as := [.int (u 1), .int 0]) rfl rfl rfl (hF.at 7 rfl)) rfl (by omega) (show lo - 22 + (19 + 3) = lo by omega) (Nat.le_of_ble_eq_true rfl) (Nat.le_of_ble_eq_true rfl) (c_82E (hF.at 7 rfl)) ?_
            intro v hh hq
            obtain ⟨rfl, rfl⟩ := hq
            replace hF : ax_hs (ax_put h (nd + 7) (.inr (9, [.int me, .ref (n + 264), .ref n, .ref (nd + 10), .ref (nd + 18), .ref (nd + 8), .ref (nd + 9), .int (D 7 7), .int (D 7 8), .int (D 7 9), .int (scB (D 7 10) (u 1) 0), .long A, .int (D 7 12), .int (D 7 13), .int (D 7 14)]))) [cNd n nd me D, cDk nd D, cAr nd 2 35840 D, cAr nd 3 4096 D, cAr nd 4 32 D, cAr nd 5 280 D, cAr nd 6 280 D, (nd + 7, .inr (9, [.int me, .ref (n + 264), .ref n, .ref (nd + 10), .ref (nd + 18), .ref (nd + 8), .ref (nd + 9), .int (D 7 7), .int (D 7 8), .int (D 7 9), .int (scB (D 7 10) (u 1) 0), .long A, .int (D 7 12), .int (D 7 13), .int (D 7 14)])), cAr nd 8 16 D, cAr nd 9 280 D, cTb nd gg D K, cAr nd 11 48 D, cAr nd 12 48 D, cAr nd 13 48 D, cAr nd 14 2400 D, cAr nd 15 512 D, cAr nd 16 961 D, cAr nd 17 961 D, cWk nd D, cWa nd D, cAr nd 20 612 D, cAr nd 21 1152 D, cRk n nn gg C, cOr n nn gg f] := hF.put 7 _ rfl rfl
            replace hf := hf.put (a := nd + 7) (c := .inr (9, [.int me, .ref (n + 264), .ref n, .ref (nd + 10), .ref (nd + 18), .ref (nd + 8), .ref (nd + 9), .int (D 7 7), .int (D 7 8), .int (D 7 9), .int (scB (D 7 10) (u 1) 0), .long A, .int (D 7 12), .int (D 7 13), .int (D 7 14)])) (Or.inr (by omega))
            replace hN := hN.put (a := nd + 7) (c := .inr (9, [.int me, .ref (n + 264), .ref n, .ref (nd + 10), .ref (nd + 18), .ref (nd + 8), .ref (nd + 9), .int (D 7 7), .int (D 7 8), .int (D 7 9), .int (scB (D 7 10) (u 1) 0), .long A, .int (D 7 12), .int (D 7 13), .int (D 7 14)])) (by omega)
            replace hn : (ax_put h (nd + 7) (.inr (9, [.int me, .ref (n + 264), .ref n, .ref (nd + 10), .ref (nd + 18), .ref (nd + 8), .ref (nd + 9), .int (D 7 7), .int (D 7 8), .int (D 7 9), .int (scB (D 7 10) (u 1) 0), .long A, .int (D 7 12), .int (D 7 13), .int (D 7 14)]))).1 = h0.1 := hn
            replace hs : (ax_put h (nd + 7) (.inr (9, [.int me, .ref (n + 264), .ref n, .ref (nd + 10), .ref (nd + 18), .ref (nd + 8), .ref (nd + 9), .int (D 7 7), .int (D 7 8), .int (D 7 9), .int (scB (D 7 10) (u 1) 0), .long A, .int (D 7 12), .int (D 7 13), .int (D 7 14)]))).2.1 = h0.2.1 := hs
            generalize ax_put h (nd + 7) (.inr (9, [.int me, .ref (n + 264), .ref n, .ref (nd + 10), .ref (nd + 18), .ref (nd + 8), .ref (nd + 9), .int (D 7 7), .int (D 7 8), .int (D 7 9), .int (scB (D 7 10) (u 1) 0), .long A, .int (D 7 12), .int (D 7 13), .int (D 7 14)])) = hp_4 at hF hf hN hn hs ⊢
            have hS9 : NS Z n nd nn gg C me f q u b uv h0 hp_4 (va_up D 7 (upd (D 7) 10 (scB (D 7 10) (u 1) 0))) K A Y := ⟨hF, hN, hf, hn, hs, hp0, hu0⟩
            have hI9 : NI Z nn (va_up D 7 (upd (D 7) 10 (scB (D 7 10) (u 1) 0))) := hI
            exact ar_ret d_70_250 rfl (⟨rfl, _, _, _, _, hS9, hI9, eq_ifT cc1 (eq_ifT cc2 (eq_ifT cc3 (rfl))), trivial⟩)
          · refine ar_iload 230 d_70_228 rfl rfl ?_
            refine ar_if_eq 246 233 d_70_230 (by decide) rfl (fun _ => ?_) (fun c => absurd (by decide) c)
            refine ar_iconst 247 (v := 0) d_70_246 rfl (by decide) ?_
            refine ar_call (r := []) (na := 0) (kd := 0) (cm := 82) (fr2 := fr - 1) (lo2 := lo - 22) 250 d_70_247 (ar_hoV (as := [.int (u 1), .int 0]) rfl rfl rfl (hF.at 7 rfl)) rfl (by omega) (show lo - 22 + (19 + 3) = lo by omega) (Nat.le_of_ble_eq_true rfl) (Nat.le_of_ble_eq_true rfl) (c_82E (hF.at 7 rfl)) ?_
            intro v hh hq
            obtain ⟨rfl, rfl⟩ := hq
            replace hF : ax_hs (ax_put h (nd + 7) (.inr (9, [.int me, .ref (n + 264), .ref n, .ref (nd + 10), .ref (nd + 18), .ref (nd + 8), .ref (nd + 9), .int (D 7 7), .int (D 7 8), .int (D 7 9), .int (scB (D 7 10) (u 1) 0), .long A, .int (D 7 12), .int (D 7 13), .int (D 7 14)]))) [cNd n nd me D, cDk nd D, cAr nd 2 35840 D, cAr nd 3 4096 D, cAr nd 4 32 D, cAr nd 5 280 D, cAr nd 6 280 D, (nd + 7, .inr (9, [.int me, .ref (n + 264), .ref n, .ref (nd + 10), .ref (nd + 18), .ref (nd + 8), .ref (nd + 9), .int (D 7 7), .int (D 7 8), .int (D 7 9), .int (scB (D 7 10) (u 1) 0), .long A, .int (D 7 12), .int (D 7 13), .int (D 7 14)])), cAr nd 8 16 D, cAr nd 9 280 D, cTb nd gg D K, cAr nd 11 48 D, cAr nd 12 48 D, cAr nd 13 48 D, cAr nd 14 2400 D, cAr nd 15 512 D, cAr nd 16 961 D, cAr nd 17 961 D, cWk nd D, cWa nd D, cAr nd 20 612 D, cAr nd 21 1152 D, cRk n nn gg C, cOr n nn gg f] := hF.put 7 _ rfl rfl
            replace hf := hf.put (a := nd + 7) (c := .inr (9, [.int me, .ref (n + 264), .ref n, .ref (nd + 10), .ref (nd + 18), .ref (nd + 8), .ref (nd + 9), .int (D 7 7), .int (D 7 8), .int (D 7 9), .int (scB (D 7 10) (u 1) 0), .long A, .int (D 7 12), .int (D 7 13), .int (D 7 14)])) (Or.inr (by omega))
            replace hN := hN.put (a := nd + 7) (c := .inr (9, [.int me, .ref (n + 264), .ref n, .ref (nd + 10), .ref (nd + 18), .ref (nd + 8), .ref (nd + 9), .int (D 7 7), .int (D 7 8), .int (D 7 9), .int (scB (D 7 10) (u 1) 0), .long A, .int (D 7 12), .int (D 7 13), .int (D 7 14)])) (by omega)
            replace hn : (ax_put h (nd + 7) (.inr (9, [.int me, .ref (n + 264), .ref n, .ref (nd + 10), .ref (nd + 18), .ref (nd + 8), .ref (nd + 9), .int (D 7 7), .int (D 7 8), .int (D 7 9), .int (scB (D 7 10) (u 1) 0), .long A, .int (D 7 12), .int (D 7 13), .int (D 7 14)]))).1 = h0.1 := hn
            replace hs : (ax_put h (nd + 7) (.inr (9, [.int me, .ref (n + 264), .ref n, .ref (nd + 10), .ref (nd + 18), .ref (nd + 8), .ref (nd + 9), .int (D 7 7), .int (D 7 8), .int (D 7 9), .int (scB (D 7 10) (u 1) 0), .long A, .int (D 7 12), .int (D 7 13), .int (D 7 14)]))).2.1 = h0.2.1 := hs
            generalize ax_put h (nd + 7) (.inr (9, [.int me, .ref (n + 264), .ref n, .ref (nd + 10), .ref (nd + 18), .ref (nd + 8), .ref (nd + 9), .int (D 7 7), .int (D 7 8), .int (D 7 9), .int (scB (D 7 10) (u 1) 0), .long A, .int (D 7 12), .int (D 7 13), .int (D 7 14)])) = hp_5 at hF hf hN hn hs ⊢
            have hS9 : NS Z n nd nn gg C me f q u b uv h0 hp_5 (va_up D 7 (upd (D 7) 10 (scB (D 7 10) (u 1) 0))) K A Y := ⟨hF, hN, hf, hn, hs, hp0, hu0⟩
            have hI9 : NI Z nn (va_up D 7 (upd (D 7) 10 (scB (D 7 10) (u 1) 0))) := hI
            exact ar_ret d_70_250 rfl (⟨rfl, _, _, _, _, hS9, hI9, eq_ifT cc1 (eq_ifT cc2 (eq_ifF cc3 (rfl))), trivial⟩)
        · refine ar_iconst 213 (v := 1) d_70_212 rfl (by decide) ?_
          refine ar_goto 217 d_70_213 (by decide) ?_
          refine ar_istore 219 [(0, .ref (nd + 7)), (1, .ref (n + 1 + 1 + 2 * q)), (2, .int s2), (3, .int s3), (4, .int y4), (5, .int (nI d)), (6, .int 1)] d_70_217 rfl (by decide) rfl ?_
          refine ar_aload_n 220 d_70_219 rfl rfl ?_
          refine ar_aload_n 221 d_70_220 rfl rfl ?_
          refine ar_getf 224 d_70_221 rfl (ci := 2) (k := 1) rfl hN.mgc rfl ?_
          refine ar_iload_n 225 d_70_224 rfl rfl ?_
          refine ar_if_eq 246 228 d_70_225 (by decide) rfl (fun cc6 => ?_) (fun cc6 => ?_)
          · refine ar_iconst 247 (v := 0) d_70_246 rfl (by decide) ?_
            refine ar_call (r := []) (na := 0) (kd := 0) (cm := 82) (fr2 := fr - 1) (lo2 := lo - 22) 250 d_70_247 (ar_hoV (as := [.int (u 1), .int 0]) rfl rfl rfl (hF.at 7 rfl)) rfl (by omega) (show lo - 22 + (19 + 3) = lo by omega) (Nat.le_of_ble_eq_true rfl) (Nat.le_of_ble_eq_true rfl) (c_82E (hF.at 7 rfl)) ?_
            intro v hh hq
            obtain ⟨rfl, rfl⟩ := hq
            replace hF : ax_hs (ax_put h (nd + 7) (.inr (9, [.int me, .ref (n + 264), .ref n, .ref (nd + 10), .ref (nd + 18), .ref (nd + 8), .ref (nd + 9), .int (D 7 7), .int (D 7 8), .int (D 7 9), .int (scB (D 7 10) (u 1) 0), .long A, .int (D 7 12), .int (D 7 13), .int (D 7 14)]))) [cNd n nd me D, cDk nd D, cAr nd 2 35840 D, cAr nd 3 4096 D, cAr nd 4 32 D, cAr nd 5 280 D, cAr nd 6 280 D, (nd + 7, .inr (9, [.int me, .ref (n + 264), .ref n, .ref (nd + 10), .ref (nd + 18), .ref (nd + 8), .ref (nd + 9), .int (D 7 7), .int (D 7 8), .int (D 7 9), .int (scB (D 7 10) (u 1) 0), .long A, .int (D 7 12), .int (D 7 13), .int (D 7 14)])), cAr nd 8 16 D, cAr nd 9 280 D, cTb nd gg D K, cAr nd 11 48 D, cAr nd 12 48 D, cAr nd 13 48 D, cAr nd 14 2400 D, cAr nd 15 512 D, cAr nd 16 961 D, cAr nd 17 961 D, cWk nd D, cWa nd D, cAr nd 20 612 D, cAr nd 21 1152 D, cRk n nn gg C, cOr n nn gg f] := hF.put 7 _ rfl rfl
            replace hf := hf.put (a := nd + 7) (c := .inr (9, [.int me, .ref (n + 264), .ref n, .ref (nd + 10), .ref (nd + 18), .ref (nd + 8), .ref (nd + 9), .int (D 7 7), .int (D 7 8), .int (D 7 9), .int (scB (D 7 10) (u 1) 0), .long A, .int (D 7 12), .int (D 7 13), .int (D 7 14)])) (Or.inr (by omega))
            replace hN := hN.put (a := nd + 7) (c := .inr (9, [.int me, .ref (n + 264), .ref n, .ref (nd + 10), .ref (nd + 18), .ref (nd + 8), .ref (nd + 9), .int (D 7 7), .int (D 7 8), .int (D 7 9), .int (scB (D 7 10) (u 1) 0), .long A, .int (D 7 12), .int (D 7 13), .int (D 7 14)])) (by omega)
            replace hn : (ax_put h (nd + 7) (.inr (9, [.int me, .ref (n + 264), .ref n, .ref (nd + 10), .ref (nd + 18), .ref (nd + 8), .ref (nd + 9), .int (D 7 7), .int (D 7 8), .int (D 7 9), .int (scB (D 7 10) (u 1) 0), .long A, .int (D 7 12), .int (D 7 13), .int (D 7 14)]))).1 = h0.1 := hn
            replace hs : (ax_put h (nd + 7) (.inr (9, [.int me, .ref (n + 264), .ref n, .ref (nd + 10), .ref (nd + 18), .ref (nd + 8), .ref (nd + 9), .int (D 7 7), .int (D 7 8), .int (D 7 9), .int (scB (D 7 10) (u 1) 0), .long A, .int (D 7 12), .int (D 7 13), .int (D 7 14)]))).2.1 = h0.2.1 := hs
            generalize ax_put h (nd + 7) (.inr (9, [.int me, .ref (n + 264), .ref n, .ref (nd + 10), .ref (nd + 18), .ref (nd + 8), .ref (nd + 9), .int (D 7 7), .int (D 7 8), .int (D 7 9), .int (scB (D 7 10) (u 1) 0), .long A, .int (D 7 12), .int (D 7 13), .int (D 7 14)])) = hp_7 at hF hf hN hn hs ⊢
            have hS9 : NS Z n nd nn gg C me f q u b uv h0 hp_7 (va_up D 7 (upd (D 7) 10 (scB (D 7 10) (u 1) 0))) K A Y := ⟨hF, hN, hf, hn, hs, hp0, hu0⟩
            have hI9 : NI Z nn (va_up D 7 (upd (D 7) 10 (scB (D 7 10) (u 1) 0))) := hI
            exact ar_ret d_70_250 rfl (⟨rfl, _, _, _, _, hS9, hI9, eq_ifT cc1 (eq_ifF cc2 (eq_ifT cc6 (rfl))), trivial⟩)
          · refine ar_iload 230 d_70_228 rfl rfl ?_
            refine ar_if_eq 246 233 d_70_230 (by decide) rfl (fun c => absurd c (by decide)) (fun _ => ?_)
            refine ar_iload 235 d_70_233 rfl rfl ?_
            refine ar_aload_n 236 d_70_235 rfl rfl ?_
            refine ar_getf 239 d_70_236 rfl (ci := 2) (k := 7) rfl hN.mgc rfl ?_
            refine ar_icmp_ne 246 242 d_70_239 (by decide) rfl (fun cc8 => ?_) (fun cc8 => ?_)
            · refine ar_iconst 247 (v := 0) d_70_246 rfl (by decide) ?_
              refine ar_call (r := []) (na := 0) (kd := 0) (cm := 82) (fr2 := fr - 1) (lo2 := lo - 22) 250 d_70_247 (ar_hoV (as := [.int (u 1), .int 0]) rfl rfl rfl (hF.at 7 rfl)) rfl (by omega) (show lo - 22 + (19 + 3) = lo by omega) (Nat.le_of_ble_eq_true rfl) (Nat.le_of_ble_eq_true rfl) (c_82E (hF.at 7 rfl)) ?_
              intro v hh hq
              obtain ⟨rfl, rfl⟩ := hq
              replace hF : ax_hs (ax_put h (nd + 7) (.inr (9, [.int me, .ref (n + 264), .ref n, .ref (nd + 10), .ref (nd + 18), .ref (nd + 8), .ref (nd + 9), .int (D 7 7), .int (D 7 8), .int (D 7 9), .int (scB (D 7 10) (u 1) 0), .long A, .int (D 7 12), .int (D 7 13), .int (D 7 14)]))) [cNd n nd me D, cDk nd D, cAr nd 2 35840 D, cAr nd 3 4096 D, cAr nd 4 32 D, cAr nd 5 280 D, cAr nd 6 280 D, (nd + 7, .inr (9, [.int me, .ref (n + 264), .ref n, .ref (nd + 10), .ref (nd + 18), .ref (nd + 8), .ref (nd + 9), .int (D 7 7), .int (D 7 8), .int (D 7 9), .int (scB (D 7 10) (u 1) 0), .long A, .int (D 7 12), .int (D 7 13), .int (D 7 14)])), cAr nd 8 16 D, cAr nd 9 280 D, cTb nd gg D K, cAr nd 11 48 D, cAr nd 12 48 D, cAr nd 13 48 D, cAr nd 14 2400 D, cAr nd 15 512 D, cAr nd 16 961 D, cAr nd 17 961 D, cWk nd D, cWa nd D, cAr nd 20 612 D, cAr nd 21 1152 D, cRk n nn gg C, cOr n nn gg f] := hF.put 7 _ rfl rfl
              replace hf := hf.put (a := nd + 7) (c := .inr (9, [.int me, .ref (n + 264), .ref n, .ref (nd + 10), .ref (nd + 18), .ref (nd + 8), .ref (nd + 9), .int (D 7 7), .int (D 7 8), .int (D 7 9), .int (scB (D 7 10) (u 1) 0), .long A, .int (D 7 12), .int (D 7 13), .int (D 7 14)])) (Or.inr (by omega))
              replace hN := hN.put (a := nd + 7) (c := .inr (9, [.int me, .ref (n + 264), .ref n, .ref (nd + 10), .ref (nd + 18), .ref (nd + 8), .ref (nd + 9), .int (D 7 7), .int (D 7 8), .int (D 7 9), .int (scB (D 7 10) (u 1) 0), .long A, .int (D 7 12), .int (D 7 13), .int (D 7 14)])) (by omega)
              replace hn : (ax_put h (nd + 7) (.inr (9, [.int me, .ref (n + 264), .ref n, .ref (nd + 10), .ref (nd + 18), .ref (nd + 8), .ref (nd + 9), .int (D 7 7), .int (D 7 8), .int (D 7 9), .int (scB (D 7 10) (u 1) 0), .long A, .int (D 7 12), .int (D 7 13), .int (D 7 14)]))).1 = h0.1 := hn
              replace hs : (ax_put h (nd + 7) (.inr (9, [.int me, .ref (n + 264), .ref n, .ref (nd + 10), .ref (nd + 18), .ref (nd + 8), .ref (nd + 9), .int (D 7 7), .int (D 7 8), .int (D 7 9), .int (scB (D 7 10) (u 1) 0), .long A, .int (D 7 12), .int (D 7 13), .int (D 7 14)]))).2.1 = h0.2.1 := hs
              generalize ax_put h (nd + 7) (.inr (9, [.int me, .ref (n + 264), .ref n, .ref (nd + 10), .ref (nd + 18), .ref (nd + 8), .ref (nd + 9), .int (D 7 7), .int (D 7 8), .int (D 7 9), .int (scB (D 7 10) (u 1) 0), .long A, .int (D 7 12), .int (D 7 13), .int (D 7 14)])) = hp_9 at hF hf hN hn hs ⊢
              have hS9 : NS Z n nd nn gg C me f q u b uv h0 hp_9 (va_up D 7 (upd (D 7) 10 (scB (D 7 10) (u 1) 0))) K A Y := ⟨hF, hN, hf, hn, hs, hp0, hu0⟩
              have hI9 : NI Z nn (va_up D 7 (upd (D 7) 10 (scB (D 7 10) (u 1) 0))) := hI
              exact ar_ret d_70_250 rfl (⟨rfl, _, _, _, _, hS9, hI9, eq_ifT cc1 (eq_ifF cc2 (eq_ifF cc6 (eq_ifT cc8 (rfl)))), trivial⟩)
            · refine ar_iconst 243 (v := 1) d_70_242 rfl (by decide) ?_
              refine ar_goto 247 d_70_243 (by decide) ?_
              refine ar_call (r := []) (na := 0) (kd := 0) (cm := 82) (fr2 := fr - 1) (lo2 := lo - 22) 250 d_70_247 (ar_hoV (as := [.int (u 1), .int 1]) rfl rfl rfl (hF.at 7 rfl)) rfl (by omega) (show lo - 22 + (19 + 3) = lo by omega) (Nat.le_of_ble_eq_true rfl) (Nat.le_of_ble_eq_true rfl) (c_82E (hF.at 7 rfl)) ?_
              intro v hh hq
              obtain ⟨rfl, rfl⟩ := hq
              replace hF : ax_hs (ax_put h (nd + 7) (.inr (9, [.int me, .ref (n + 264), .ref n, .ref (nd + 10), .ref (nd + 18), .ref (nd + 8), .ref (nd + 9), .int (D 7 7), .int (D 7 8), .int (D 7 9), .int (scB (D 7 10) (u 1) 1), .long A, .int (D 7 12), .int (D 7 13), .int (D 7 14)]))) [cNd n nd me D, cDk nd D, cAr nd 2 35840 D, cAr nd 3 4096 D, cAr nd 4 32 D, cAr nd 5 280 D, cAr nd 6 280 D, (nd + 7, .inr (9, [.int me, .ref (n + 264), .ref n, .ref (nd + 10), .ref (nd + 18), .ref (nd + 8), .ref (nd + 9), .int (D 7 7), .int (D 7 8), .int (D 7 9), .int (scB (D 7 10) (u 1) 1), .long A, .int (D 7 12), .int (D 7 13), .int (D 7 14)])), cAr nd 8 16 D, cAr nd 9 280 D, cTb nd gg D K, cAr nd 11 48 D, cAr nd 12 48 D, cAr nd 13 48 D, cAr nd 14 2400 D, cAr nd 15 512 D, cAr nd 16 961 D, cAr nd 17 961 D, cWk nd D, cWa nd D, cAr nd 20 612 D, cAr nd 21 1152 D, cRk n nn gg C, cOr n nn gg f] := hF.put 7 _ rfl rfl
              replace hf := hf.put (a := nd + 7) (c := .inr (9, [.int me, .ref (n + 264), .ref n, .ref (nd + 10), .ref (nd + 18), .ref (nd + 8), .ref (nd + 9), .int (D 7 7), .int (D 7 8), .int (D 7 9), .int (scB (D 7 10) (u 1) 1), .long A, .int (D 7 12), .int (D 7 13), .int (D 7 14)])) (Or.inr (by omega))
              replace hN := hN.put (a := nd + 7) (c := .inr (9, [.int me, .ref (n + 264), .ref n, .ref (nd + 10), .ref (nd + 18), .ref (nd + 8), .ref (nd + 9), .int (D 7 7), .int (D 7 8), .int (D 7 9), .int (scB (D 7 10) (u 1) 1), .long A, .int (D 7 12), .int (D 7 13), .int (D 7 14)])) (by omega)
              replace hn : (ax_put h (nd + 7) (.inr (9, [.int me, .ref (n + 264), .ref n, .ref (nd + 10), .ref (nd + 18), .ref (nd + 8), .ref (nd + 9), .int (D 7 7), .int (D 7 8), .int (D 7 9), .int (scB (D 7 10) (u 1) 1), .long A, .int (D 7 12), .int (D 7 13), .int (D 7 14)]))).1 = h0.1 := hn
              replace hs : (ax_put h (nd + 7) (.inr (9, [.int me, .ref (n + 264), .ref n, .ref (nd + 10), .ref (nd + 18), .ref (nd + 8), .ref (nd + 9), .int (D 7 7), .int (D 7 8), .int (D 7 9), .int (scB (D 7 10) (u 1) 1), .long A, .int (D 7 12), .int (D 7 13), .int (D 7 14)]))).2.1 = h0.2.1 := hs
              generalize ax_put h (nd + 7) (.inr (9, [.int me, .ref (n + 264), .ref n, .ref (nd + 10), .ref (nd + 18), .ref (nd + 8), .ref (nd + 9), .int (D 7 7), .int (D 7 8), .int (D 7 9), .int (scB (D 7 10) (u 1) 1), .long A, .int (D 7 12), .int (D 7 13), .int (D 7 14)])) = hp_10 at hF hf hN hn hs ⊢
              have hS9 : NS Z n nd nn gg C me f q u b uv h0 hp_10 (va_up D 7 (upd (D 7) 10 (scB (D 7 10) (u 1) 1))) K A Y := ⟨hF, hN, hf, hn, hs, hp0, hu0⟩
              have hI9 : NI Z nn (va_up D 7 (upd (D 7) 10 (scB (D 7 10) (u 1) 1))) := hI
              exact ar_ret d_70_250 rfl (⟨rfl, _, _, _, _, hS9, hI9, eq_ifT cc1 (eq_ifF cc2 (eq_ifF cc6 (eq_ifF cc8 (rfl)))), trivial⟩)
      · refine ar_aload_n 156 d_70_155 rfl rfl ?_
        refine ar_getf 159 d_70_156 rfl (ci := 9) (k := 2) rfl (hF.at 7 rfl) rfl ?_
        refine ar_bipush 161 (v := 12) d_70_159 rfl (by decide) ?_
        refine ar_aload_n 162 d_70_161 rfl rfl ?_
        refine ar_getf 165 d_70_162 rfl (ci := 9) (k := 0) rfl (hF.at 7 rfl) rfl ?_
        refine ar_aload_n 166 d_70_165 rfl rfl ?_
        refine ar_getf 169 d_70_166 rfl (ci := 2) (k := 1) rfl hN.mgc rfl ?_
        refine ar_aload_n 170 d_70_169 rfl rfl ?_
        refine ar_getf 173 d_70_170 rfl (ci := 9) (k := 7) rfl (hF.at 7 rfl) rfl ?_
        refine ar_aload_n 174 d_70_173 rfl rfl ?_
        refine ar_getf 177 d_70_174 rfl (ci := 9) (k := 8) rfl (hF.at 7 rfl) rfl ?_
        obtain ⟨zk, za, zc, hnet⟩ := hN.net
        refine ar_call (r := []) (na := 0) (kd := 0) (cm := 36) (fr2 := fr - 1) (lo2 := lo - 26) 180 d_70_177 (ar_hoV (as := [.int 12, .int me, .int (u 1), .int (D 7 7), .int (D 7 8)]) rfl rfl rfl hnet) rfl (by omega) (show lo - 26 + (19 + 7) = lo by omega) (Nat.le_of_ble_eq_true rfl) (Nat.le_of_ble_eq_true rfl) (hN.post) ?_
        intro v hp_11 hq
        obtain ⟨m, bm, hm, hmq, rfl, hmm, hed, hf2, hz1, hz2⟩ := hq
        have hNm : NTA n (n + 1) (n + 1 + 1 + 2 * m) := Or.inr (by omega)
        have hNm1 : NTA n (n + 1) (n + 1 + 1 + 2 * m + 1) := Or.inr (by omega)
        replace hF : ax_hs hp_11 [cNd n nd me D, cDk nd D, cAr nd 2 35840 D, cAr nd 3 4096 D, cAr nd 4 32 D, cAr nd 5 280 D, cAr nd 6 280 D, cLd n nd me D A, cAr nd 8 16 D, cAr nd 9 280 D, cTb nd gg D K, cAr nd 11 48 D, cAr nd 12 48 D, cAr nd 13 48 D, cAr nd 14 2400 D, cAr nd 15 512 D, cAr nd 16 961 D, cAr nd 17 961 D, cWk nd D, cWa nd D, cAr nd 20 612 D, cAr nd 21 1152 D, cRk n nn gg C, cOr n nn gg f] := hF.fr hf2 (far (n := n) (nd := nd) rfl hnd)
        replace hF : ax_hs hp_11 [(n + 1 + 1 + 2 * m, .inr (2, [.int 12, .int me, .int (u 1), .int (D 7 7), .int (D 7 8), .int (-1), .int 0, .int 0, .ref (n + 1 + 1 + 2 * m + 1)])), (n + 1 + 1 + 2 * m + 1, .inl (0, 617, .inl bm)), cNd n nd me D, cDk nd D, cAr nd 2 35840 D, cAr nd 3 4096 D, cAr nd 4 32 D, cAr nd 5 280 D, cAr nd 6 280 D, cLd n nd me D A, cAr nd 8 16 D, cAr nd 9 280 D, cTb nd gg D K, cAr nd 11 48 D, cAr nd 12 48 D, cAr nd 13 48 D, cAr nd 14 2400 D, cAr nd 15 512 D, cAr nd 16 961 D, cAr nd 17 961 D, cWk nd D, cWa nd D, cAr nd 20 612 D, cAr nd 21 1152 D, cRk n nn gg C, cOr n nn gg f] := hF.msg (far (n := n) (nd := nd) rfl hnd) hm hmm
        replace hf := hf.trC hf2 (fun _ _ z => Or.inl z)
        replace hn : hp_11.1 = h0.1 := by omega
        replace hs : hp_11.2.1 = h0.2.1 := by omega
        have hfm : ax_fr (fun x => x = n + 1 + 1 + 2 * m ∨ x = n + 1 + 1 + 2 * m + 1) hp_11 hp_11 := ax_fr.rf
        clear hN hnet hf2 hz1 hz2 hmm
        refine ar_astore 182 [(0, .ref (nd + 7)), (1, .ref (n + 1 + 1 + 2 * q)), (2, .int s2), (3, .int s3), (4, .int y4), (5, .int (nI d)), (6, .ref (n + 1 + 1 + 2 * m))] d_70_180 rfl (by decide) rfl ?_
        refine ar_aload 184 d_70_182 rfl rfl ?_
        refine ar_iload 186 d_70_184 rfl rfl ?_
        refine ar_putf 189 [.int 12, .int me, .int (u 1), .int (D 7 7), .int (D 7 8), .int (-1), .int 0, .int (nI d), .ref (n + 1 + 1 + 2 * m + 1)] d_70_186 rfl (ci := 2) (k := 7) rfl rfl (hF.at 0 rfl) (Nat.le_of_ble_eq_true rfl) rfl rfl rfl ?_
        replace hF : ax_hs (ax_put hp_11 (n + 1 + 1 + 2 * m) (.inr (2, [.int 12, .int me, .int (u 1), .int (D 7 7), .int (D 7 8), .int (-1), .int 0, .int (nI d), .ref (n + 1 + 1 + 2 * m + 1)]))) [(n + 1 + 1 + 2 * m, .inr (2, [.int 12, .int me, .int (u 1), .int (D 7 7), .int (D 7 8), .int (-1), .int 0, .int (nI d), .ref (n + 1 + 1 + 2 * m + 1)])), (n + 1 + 1 + 2 * m + 1, .inl (0, 617, .inl bm)), cNd n nd me D, cDk nd D, cAr nd 2 35840 D, cAr nd 3 4096 D, cAr nd 4 32 D, cAr nd 5 280 D, cAr nd 6 280 D, cLd n nd me D A, cAr nd 8 16 D, cAr nd 9 280 D, cTb nd gg D K, cAr nd 11 48 D, cAr nd 12 48 D, cAr nd 13 48 D, cAr nd 14 2400 D, cAr nd 15 512 D, cAr nd 16 961 D, cAr nd 17 961 D, cWk nd D, cWa nd D, cAr nd 20 612 D, cAr nd 21 1152 D, cRk n nn gg C, cOr n nn gg f] := hF.put 0 _ rfl rfl
        replace hf := hf.put (a := n + 1 + 1 + 2 * m) (c := .inr (2, [.int 12, .int me, .int (u 1), .int (D 7 7), .int (D 7 8), .int (-1), .int 0, .int (nI d), .ref (n + 1 + 1 + 2 * m + 1)])) (Or.inl hNm)
        replace hfm := hfm.put (a := n + 1 + 1 + 2 * m) (c := .inr (2, [.int 12, .int me, .int (u 1), .int (D 7 7), .int (D 7 8), .int (-1), .int 0, .int (nI d), .ref (n + 1 + 1 + 2 * m + 1)])) (Or.inl rfl)
        replace hn : (ax_put hp_11 (n + 1 + 1 + 2 * m) (.inr (2, [.int 12, .int me, .int (u 1), .int (D 7 7), .int (D 7 8), .int (-1), .int 0, .int (nI d), .ref (n + 1 + 1 + 2 * m + 1)]))).1 = h0.1 := hn
        replace hs : (ax_put hp_11 (n + 1 + 1 + 2 * m) (.inr (2, [.int 12, .int me, .int (u 1), .int (D 7 7), .int (D 7 8), .int (-1), .int 0, .int (nI d), .ref (n + 1 + 1 + 2 * m + 1)]))).2.1 = h0.2.1 := hs
        generalize ax_put hp_11 (n + 1 + 1 + 2 * m) (.inr (2, [.int 12, .int me, .int (u 1), .int (D 7 7), .int (D 7 8), .int (-1), .int 0, .int (nI d), .ref (n + 1 + 1 + 2 * m + 1)])) = hp_12 at hF hf hfm hn hs ⊢
        refine ar_aload_n 190 d_70_189 rfl rfl ?_
        refine ar_getf 193 d_70_190 rfl (ci := 9) (k := 6) rfl (hF.at 9 rfl) rfl ?_
        refine ar_iconst 194 (v := 0) d_70_193 rfl (by decide) ?_
        refine ar_aload 196 d_70_194 rfl rfl ?_
        refine ar_getf 199 d_70_196 rfl (ci := 2) (k := 8) rfl (hF.at 0 rfl) rfl ?_
        refine ar_iconst 200 (v := 0) d_70_199 rfl (by decide) ?_
        refine ar_iload 202 d_70_200 rfl rfl ?_
        refine ar_copy 205 d_70_202 rfl rfl (by omega) (by show 0 + (nativeFrameWords "java/lang/System" "arraycopy" 5 + 11) ≤ lo; rw [nfw_copy]; omega) (hF.at 11 rfl) (hF.at 1 rfl) (by decide) (by decide) (Int32.not_lt.mpr (nI_le (Nat.zero_le _) (by omega))) (by rw [nI_clamp (by omega)]; show 0 + d ≤ 280; omega) (by rw [nI_clamp (by omega)]; show 0 + d ≤ 617; omega) ?_
        replace hF : ax_hs (ax_put hp_12 (n + 1 + 1 + 2 * m + 1) (.inl (0, 617, .inl (va_cpy (D 9) bm ((0 : Int32).toNatClampNeg) ((0 : Int32).toNatClampNeg) ((nI d).toNatClampNeg))))) [(n + 1 + 1 + 2 * m, .inr (2, [.int 12, .int me, .int (u 1), .int (D 7 7), .int (D 7 8), .int (-1), .int 0, .int (nI d), .ref (n + 1 + 1 + 2 * m + 1)])), (n + 1 + 1 + 2 * m + 1, .inl (0, 617, .inl (va_cpy (D 9) bm ((0 : Int32).toNatClampNeg) ((0 : Int32).toNatClampNeg) ((nI d).toNatClampNeg)))), cNd n nd me D, cDk nd D, cAr nd 2 35840 D, cAr nd 3 4096 D, cAr nd 4 32 D, cAr nd 5 280 D, cAr nd 6 280 D, cLd n nd me D A, cAr nd 8 16 D, cAr nd 9 280 D, cTb nd gg D K, cAr nd 11 48 D, cAr nd 12 48 D, cAr nd 13 48 D, cAr nd 14 2400 D, cAr nd 15 512 D, cAr nd 16 961 D, cAr nd 17 961 D, cWk nd D, cWa nd D, cAr nd 20 612 D, cAr nd 21 1152 D, cRk n nn gg C, cOr n nn gg f] := hF.put 1 _ rfl rfl
        replace hf := hf.put (a := n + 1 + 1 + 2 * m + 1) (c := .inl (0, 617, .inl (va_cpy (D 9) bm ((0 : Int32).toNatClampNeg) ((0 : Int32).toNatClampNeg) ((nI d).toNatClampNeg)))) (Or.inl hNm1)
        replace hfm := hfm.put (a := n + 1 + 1 + 2 * m + 1) (c := .inl (0, 617, .inl (va_cpy (D 9) bm ((0 : Int32).toNatClampNeg) ((0 : Int32).toNatClampNeg) ((nI d).toNatClampNeg)))) (Or.inr rfl)
        replace hn : (ax_put hp_12 (n + 1 + 1 + 2 * m + 1) (.inl (0, 617, .inl (va_cpy (D 9) bm ((0 : Int32).toNatClampNeg) ((0 : Int32).toNatClampNeg) ((nI d).toNatClampNeg))))).1 = h0.1 := hn
        replace hs : (ax_put hp_12 (n + 1 + 1 + 2 * m + 1) (.inl (0, 617, .inl (va_cpy (D 9) bm ((0 : Int32).toNatClampNeg) ((0 : Int32).toNatClampNeg) ((nI d).toNatClampNeg))))).2.1 = h0.2.1 := hs
        generalize ax_put hp_12 (n + 1 + 1 + 2 * m + 1) (.inl (0, 617, .inl (va_cpy (D 9) bm ((0 : Int32).toNatClampNeg) ((0 : Int32).toNatClampNeg) ((nI d).toNatClampNeg)))) = hp_13 at hF hf hfm hn hs ⊢
        have hN : NeT Z hp_13 n q u b (pst Y (va_up (mg 12 me (u 1) (D 7 7) (D 7 8)) 7 (nI d), fun j => D 9 j)) := hed _ (va_up (mg 12 me (u 1) (D 7 7) (D 7 8)) 7 (nI d)) (va_cpy (D 9) bm ((0 : Int32).toNatClampNeg) ((0 : Int32).toNatClampNeg) ((nI d).toNatClampNeg)) _ hfm ⟨hF.at 0 rfl, hF.at 1 rfl⟩ (MI.cnt (Or.inr (Or.inr rfl)) ⟨d, by omega, rfl⟩) (sm_cp (by show (nI d).toNatClampNeg ≤ _; rw [nI_clamp (by omega)]; exact Nat.le_refl _))
        replace hF := hF.sub (F' := [cNd n nd me D, cDk nd D, cAr nd 2 35840 D, cAr nd 3 4096 D, cAr nd 4 32 D, cAr nd 5 280 D, cAr nd 6 280 D, cLd n nd me D A, cAr nd 8 16 D, cAr nd 9 280 D, cTb nd gg D K, cAr nd 11 48 D, cAr nd 12 48 D, cAr nd 13 48 D, cAr nd 14 2400 D, cAr nd 15 512 D, cAr nd 16 961 D, cAr nd 17 961 D, cWk nd D, cWa nd D, cAr nd 20 612 D, cAr nd 21 1152 D, cRk n nn gg C, cOr n nn gg f]) [2, 3, 4, 5, 6, 7, 8, 9, 10, 11, 12, 13, 14, 15, 16, 17, 18, 19, 20, 21, 22, 23, 24, 25] rfl rfl
        clear hed hfm hNm hNm1 hm hmq
        refine ar_aload_n 206 d_70_205 rfl rfl ?_
        refine ar_getf 209 d_70_206 rfl (ci := 2) (k := 6) rfl hN.mgc rfl ?_
        refine ar_if_ne 216 212 d_70_209 (by decide) rfl (fun cc14 => ?_) (fun cc14 => ?_)
        · refine ar_iconst 217 (v := 0) d_70_216 rfl (by decide) ?_
          refine ar_istore 219 [(0, .ref (nd + 7)), (1, .ref (n + 1 + 1 + 2 * q)), (2, .int s2), (3, .int s3), (4, .int y4), (5, .int (nI d)), (6, .int 0)] d_70_217 rfl (by decide) rfl ?_
          refine ar_aload_n 220 d_70_219 rfl rfl ?_
          refine ar_aload_n 221 d_70_220 rfl rfl ?_
          refine ar_getf 224 d_70_221 rfl (ci := 2) (k := 1) rfl hN.mgc rfl ?_
          refine ar_iload_n 225 d_70_224 rfl rfl ?_
          refine ar_if_eq 246 228 d_70_225 (by decide) rfl (fun cc15 => ?_) (fun cc15 => ?_)
          · refine ar_iconst 247 (v := 0) d_70_246 rfl (by decide) ?_
            refine ar_call (r := []) (na := 0) (kd := 0) (cm := 82) (fr2 := fr - 1) (lo2 := lo - 22) 250 d_70_247 (ar_hoV (as := [.int (u 1), .int 0]) rfl rfl rfl (hF.at 7 rfl)) rfl (by omega) (show lo - 22 + (19 + 3) = lo by omega) (Nat.le_of_ble_eq_true rfl) (Nat.le_of_ble_eq_true rfl) (c_82E (hF.at 7 rfl)) ?_
            intro v hh hq
            obtain ⟨rfl, rfl⟩ := hq
            replace hF : ax_hs (ax_put hp_13 (nd + 7) (.inr (9, [.int me, .ref (n + 264), .ref n, .ref (nd + 10), .ref (nd + 18), .ref (nd + 8), .ref (nd + 9), .int (D 7 7), .int (D 7 8), .int (D 7 9), .int (scB (D 7 10) (u 1) 0), .long A, .int (D 7 12), .int (D 7 13), .int (D 7 14)]))) [cNd n nd me D, cDk nd D, cAr nd 2 35840 D, cAr nd 3 4096 D, cAr nd 4 32 D, cAr nd 5 280 D, cAr nd 6 280 D, (nd + 7, .inr (9, [.int me, .ref (n + 264), .ref n, .ref (nd + 10), .ref (nd + 18), .ref (nd + 8), .ref (nd + 9), .int (D 7 7), .int (D 7 8), .int (D 7 9), .int (scB (D 7 10) (u 1) 0), .long A, .int (D 7 12), .int (D 7 13), .int (D 7 14)])), cAr nd 8 16 D, cAr nd 9 280 D, cTb nd gg D K, cAr nd 11 48 D, cAr nd 12 48 D, cAr nd 13 48 D, cAr nd 14 2400 D, cAr nd 15 512 D, cAr nd 16 961 D, cAr nd 17 961 D, cWk nd D, cWa nd D, cAr nd 20 612 D, cAr nd 21 1152 D, cRk n nn gg C, cOr n nn gg f] := hF.put 7 _ rfl rfl
            replace hf := hf.put (a := nd + 7) (c := .inr (9, [.int me, .ref (n + 264), .ref n, .ref (nd + 10), .ref (nd + 18), .ref (nd + 8), .ref (nd + 9), .int (D 7 7), .int (D 7 8), .int (D 7 9), .int (scB (D 7 10) (u 1) 0), .long A, .int (D 7 12), .int (D 7 13), .int (D 7 14)])) (Or.inr (by omega))
            replace hN := hN.put (a := nd + 7) (c := .inr (9, [.int me, .ref (n + 264), .ref n, .ref (nd + 10), .ref (nd + 18), .ref (nd + 8), .ref (nd + 9), .int (D 7 7), .int (D 7 8), .int (D 7 9), .int (scB (D 7 10) (u 1) 0), .long A, .int (D 7 12), .int (D 7 13), .int (D 7 14)])) (by omega)
            replace hn : (ax_put hp_13 (nd + 7) (.inr (9, [.int me, .ref (n + 264), .ref n, .ref (nd + 10), .ref (nd + 18), .ref (nd + 8), .ref (nd + 9), .int (D 7 7), .int (D 7 8), .int (D 7 9), .int (scB (D 7 10) (u 1) 0), .long A, .int (D 7 12), .int (D 7 13), .int (D 7 14)]))).1 = h0.1 := hn
            replace hs : (ax_put hp_13 (nd + 7) (.inr (9, [.int me, .ref (n + 264), .ref n, .ref (nd + 10), .ref (nd + 18), .ref (nd + 8), .ref (nd + 9), .int (D 7 7), .int (D 7 8), .int (D 7 9), .int (scB (D 7 10) (u 1) 0), .long A, .int (D 7 12), .int (D 7 13), .int (D 7 14)]))).2.1 = h0.2.1 := hs
            generalize ax_put hp_13 (nd + 7) (.inr (9, [.int me, .ref (n + 264), .ref n, .ref (nd + 10), .ref (nd + 18), .ref (nd + 8), .ref (nd + 9), .int (D 7 7), .int (D 7 8), .int (D 7 9), .int (scB (D 7 10) (u 1) 0), .long A, .int (D 7 12), .int (D 7 13), .int (D 7 14)])) = hp_16 at hF hf hN hn hs ⊢
            have hS9 : NS Z n nd nn gg C me f q u b uv h0 hp_16 (va_up D 7 (upd (D 7) 10 (scB (D 7 10) (u 1) 0))) K A (pst Y (va_up (mg 12 me (u 1) (D 7 7) (D 7 8)) 7 (nI d), fun j => D 9 j)) := ⟨hF, hN, hf, hn, hs, hp0, hu0⟩
            have hI9 : NI Z nn (va_up D 7 (upd (D 7) 10 (scB (D 7 10) (u 1) 0))) := hI
            exact ar_ret d_70_250 rfl (⟨rfl, _, _, _, _, hS9, hI9, eq_ifF cc1 (eq_ifT cc14 (eq_ifT cc15 (rfl))), trivial⟩)
          · refine ar_iload 230 d_70_228 rfl rfl ?_
            refine ar_if_eq 246 233 d_70_230 (by decide) rfl (fun _ => ?_) (fun c => absurd (by decide) c)
            refine ar_iconst 247 (v := 0) d_70_246 rfl (by decide) ?_
            refine ar_call (r := []) (na := 0) (kd := 0) (cm := 82) (fr2 := fr - 1) (lo2 := lo - 22) 250 d_70_247 (ar_hoV (as := [.int (u 1), .int 0]) rfl rfl rfl (hF.at 7 rfl)) rfl (by omega) (show lo - 22 + (19 + 3) = lo by omega) (Nat.le_of_ble_eq_true rfl) (Nat.le_of_ble_eq_true rfl) (c_82E (hF.at 7 rfl)) ?_
            intro v hh hq
            obtain ⟨rfl, rfl⟩ := hq
            replace hF : ax_hs (ax_put hp_13 (nd + 7) (.inr (9, [.int me, .ref (n + 264), .ref n, .ref (nd + 10), .ref (nd + 18), .ref (nd + 8), .ref (nd + 9), .int (D 7 7), .int (D 7 8), .int (D 7 9), .int (scB (D 7 10) (u 1) 0), .long A, .int (D 7 12), .int (D 7 13), .int (D 7 14)]))) [cNd n nd me D, cDk nd D, cAr nd 2 35840 D, cAr nd 3 4096 D, cAr nd 4 32 D, cAr nd 5 280 D, cAr nd 6 280 D, (nd + 7, .inr (9, [.int me, .ref (n + 264), .ref n, .ref (nd + 10), .ref (nd + 18), .ref (nd + 8), .ref (nd + 9), .int (D 7 7), .int (D 7 8), .int (D 7 9), .int (scB (D 7 10) (u 1) 0), .long A, .int (D 7 12), .int (D 7 13), .int (D 7 14)])), cAr nd 8 16 D, cAr nd 9 280 D, cTb nd gg D K, cAr nd 11 48 D, cAr nd 12 48 D, cAr nd 13 48 D, cAr nd 14 2400 D, cAr nd 15 512 D, cAr nd 16 961 D, cAr nd 17 961 D, cWk nd D, cWa nd D, cAr nd 20 612 D, cAr nd 21 1152 D, cRk n nn gg C, cOr n nn gg f] := hF.put 7 _ rfl rfl
            replace hf := hf.put (a := nd + 7) (c := .inr (9, [.int me, .ref (n + 264), .ref n, .ref (nd + 10), .ref (nd + 18), .ref (nd + 8), .ref (nd + 9), .int (D 7 7), .int (D 7 8), .int (D 7 9), .int (scB (D 7 10) (u 1) 0), .long A, .int (D 7 12), .int (D 7 13), .int (D 7 14)])) (Or.inr (by omega))
            replace hN := hN.put (a := nd + 7) (c := .inr (9, [.int me, .ref (n + 264), .ref n, .ref (nd + 10), .ref (nd + 18), .ref (nd + 8), .ref (nd + 9), .int (D 7 7), .int (D 7 8), .int (D 7 9), .int (scB (D 7 10) (u 1) 0), .long A, .int (D 7 12), .int (D 7 13), .int (D 7 14)])) (by omega)
            replace hn : (ax_put hp_13 (nd + 7) (.inr (9, [.int me, .ref (n + 264), .ref n, .ref (nd + 10), .ref (nd + 18), .ref (nd + 8), .ref (nd + 9), .int (D 7 7), .int (D 7 8), .int (D 7 9), .int (scB (D 7 10) (u 1) 0), .long A, .int (D 7 12), .int (D 7 13), .int (D 7 14)]))).1 = h0.1 := hn
            replace hs : (ax_put hp_13 (nd + 7) (.inr (9, [.int me, .ref (n + 264), .ref n, .ref (nd + 10), .ref (nd + 18), .ref (nd + 8), .ref (nd + 9), .int (D 7 7), .int (D 7 8), .int (D 7 9), .int (scB (D 7 10) (u 1) 0), .long A, .int (D 7 12), .int (D 7 13), .int (D 7 14)]))).2.1 = h0.2.1 := hs
            generalize ax_put hp_13 (nd + 7) (.inr (9, [.int me, .ref (n + 264), .ref n, .ref (nd + 10), .ref (nd + 18), .ref (nd + 8), .ref (nd + 9), .int (D 7 7), .int (D 7 8), .int (D 7 9), .int (scB (D 7 10) (u 1) 0), .long A, .int (D 7 12), .int (D 7 13), .int (D 7 14)])) = hp_17 at hF hf hN hn hs ⊢
            have hS9 : NS Z n nd nn gg C me f q u b uv h0 hp_17 (va_up D 7 (upd (D 7) 10 (scB (D 7 10) (u 1) 0))) K A (pst Y (va_up (mg 12 me (u 1) (D 7 7) (D 7 8)) 7 (nI d), fun j => D 9 j)) := ⟨hF, hN, hf, hn, hs, hp0, hu0⟩
            have hI9 : NI Z nn (va_up D 7 (upd (D 7) 10 (scB (D 7 10) (u 1) 0))) := hI
            exact ar_ret d_70_250 rfl (⟨rfl, _, _, _, _, hS9, hI9, eq_ifF cc1 (eq_ifT cc14 (eq_ifF cc15 (rfl))), trivial⟩)
        · refine ar_iconst 213 (v := 1) d_70_212 rfl (by decide) ?_
          refine ar_goto 217 d_70_213 (by decide) ?_
          refine ar_istore 219 [(0, .ref (nd + 7)), (1, .ref (n + 1 + 1 + 2 * q)), (2, .int s2), (3, .int s3), (4, .int y4), (5, .int (nI d)), (6, .int 1)] d_70_217 rfl (by decide) rfl ?_
          refine ar_aload_n 220 d_70_219 rfl rfl ?_
          refine ar_aload_n 221 d_70_220 rfl rfl ?_
          refine ar_getf 224 d_70_221 rfl (ci := 2) (k := 1) rfl hN.mgc rfl ?_
          refine ar_iload_n 225 d_70_224 rfl rfl ?_
          refine ar_if_eq 246 228 d_70_225 (by decide) rfl (fun cc18 => ?_) (fun cc18 => ?_)
          · refine ar_iconst 247 (v := 0) d_70_246 rfl (by decide) ?_
            refine ar_call (r := []) (na := 0) (kd := 0) (cm := 82) (fr2 := fr - 1) (lo2 := lo - 22) 250 d_70_247 (ar_hoV (as := [.int (u 1), .int 0]) rfl rfl rfl (hF.at 7 rfl)) rfl (by omega) (show lo - 22 + (19 + 3) = lo by omega) (Nat.le_of_ble_eq_true rfl) (Nat.le_of_ble_eq_true rfl) (c_82E (hF.at 7 rfl)) ?_
            intro v hh hq
            obtain ⟨rfl, rfl⟩ := hq
            replace hF : ax_hs (ax_put hp_13 (nd + 7) (.inr (9, [.int me, .ref (n + 264), .ref n, .ref (nd + 10), .ref (nd + 18), .ref (nd + 8), .ref (nd + 9), .int (D 7 7), .int (D 7 8), .int (D 7 9), .int (scB (D 7 10) (u 1) 0), .long A, .int (D 7 12), .int (D 7 13), .int (D 7 14)]))) [cNd n nd me D, cDk nd D, cAr nd 2 35840 D, cAr nd 3 4096 D, cAr nd 4 32 D, cAr nd 5 280 D, cAr nd 6 280 D, (nd + 7, .inr (9, [.int me, .ref (n + 264), .ref n, .ref (nd + 10), .ref (nd + 18), .ref (nd + 8), .ref (nd + 9), .int (D 7 7), .int (D 7 8), .int (D 7 9), .int (scB (D 7 10) (u 1) 0), .long A, .int (D 7 12), .int (D 7 13), .int (D 7 14)])), cAr nd 8 16 D, cAr nd 9 280 D, cTb nd gg D K, cAr nd 11 48 D, cAr nd 12 48 D, cAr nd 13 48 D, cAr nd 14 2400 D, cAr nd 15 512 D, cAr nd 16 961 D, cAr nd 17 961 D, cWk nd D, cWa nd D, cAr nd 20 612 D, cAr nd 21 1152 D, cRk n nn gg C, cOr n nn gg f] := hF.put 7 _ rfl rfl
            replace hf := hf.put (a := nd + 7) (c := .inr (9, [.int me, .ref (n + 264), .ref n, .ref (nd + 10), .ref (nd + 18), .ref (nd + 8), .ref (nd + 9), .int (D 7 7), .int (D 7 8), .int (D 7 9), .int (scB (D 7 10) (u 1) 0), .long A, .int (D 7 12), .int (D 7 13), .int (D 7 14)])) (Or.inr (by omega))
            replace hN := hN.put (a := nd + 7) (c := .inr (9, [.int me, .ref (n + 264), .ref n, .ref (nd + 10), .ref (nd + 18), .ref (nd + 8), .ref (nd + 9), .int (D 7 7), .int (D 7 8), .int (D 7 9), .int (scB (D 7 10) (u 1) 0), .long A, .int (D 7 12), .int (D 7 13), .int (D 7 14)])) (by omega)
            replace hn : (ax_put hp_13 (nd + 7) (.inr (9, [.int me, .ref (n + 264), .ref n, .ref (nd + 10), .ref (nd + 18), .ref (nd + 8), .ref (nd + 9), .int (D 7 7), .int (D 7 8), .int (D 7 9), .int (scB (D 7 10) (u 1) 0), .long A, .int (D 7 12), .int (D 7 13), .int (D 7 14)]))).1 = h0.1 := hn
            replace hs : (ax_put hp_13 (nd + 7) (.inr (9, [.int me, .ref (n + 264), .ref n, .ref (nd + 10), .ref (nd + 18), .ref (nd + 8), .ref (nd + 9), .int (D 7 7), .int (D 7 8), .int (D 7 9), .int (scB (D 7 10) (u 1) 0), .long A, .int (D 7 12), .int (D 7 13), .int (D 7 14)]))).2.1 = h0.2.1 := hs
            generalize ax_put hp_13 (nd + 7) (.inr (9, [.int me, .ref (n + 264), .ref n, .ref (nd + 10), .ref (nd + 18), .ref (nd + 8), .ref (nd + 9), .int (D 7 7), .int (D 7 8), .int (D 7 9), .int (scB (D 7 10) (u 1) 0), .long A, .int (D 7 12), .int (D 7 13), .int (D 7 14)])) = hp_19 at hF hf hN hn hs ⊢
            have hS9 : NS Z n nd nn gg C me f q u b uv h0 hp_19 (va_up D 7 (upd (D 7) 10 (scB (D 7 10) (u 1) 0))) K A (pst Y (va_up (mg 12 me (u 1) (D 7 7) (D 7 8)) 7 (nI d), fun j => D 9 j)) := ⟨hF, hN, hf, hn, hs, hp0, hu0⟩
            have hI9 : NI Z nn (va_up D 7 (upd (D 7) 10 (scB (D 7 10) (u 1) 0))) := hI
            exact ar_ret d_70_250 rfl (⟨rfl, _, _, _, _, hS9, hI9, eq_ifF cc1 (eq_ifF cc14 (eq_ifT cc18 (rfl))), trivial⟩)
          · refine ar_iload 230 d_70_228 rfl rfl ?_
            refine ar_if_eq 246 233 d_70_230 (by decide) rfl (fun c => absurd c (by decide)) (fun _ => ?_)
            refine ar_iload 235 d_70_233 rfl rfl ?_
            refine ar_aload_n 236 d_70_235 rfl rfl ?_
            refine ar_getf 239 d_70_236 rfl (ci := 2) (k := 7) rfl hN.mgc rfl ?_
            refine ar_icmp_ne 246 242 d_70_239 (by decide) rfl (fun cc20 => ?_) (fun cc20 => ?_)
            · refine ar_iconst 247 (v := 0) d_70_246 rfl (by decide) ?_
              refine ar_call (r := []) (na := 0) (kd := 0) (cm := 82) (fr2 := fr - 1) (lo2 := lo - 22) 250 d_70_247 (ar_hoV (as := [.int (u 1), .int 0]) rfl rfl rfl (hF.at 7 rfl)) rfl (by omega) (show lo - 22 + (19 + 3) = lo by omega) (Nat.le_of_ble_eq_true rfl) (Nat.le_of_ble_eq_true rfl) (c_82E (hF.at 7 rfl)) ?_
              intro v hh hq
              obtain ⟨rfl, rfl⟩ := hq
              replace hF : ax_hs (ax_put hp_13 (nd + 7) (.inr (9, [.int me, .ref (n + 264), .ref n, .ref (nd + 10), .ref (nd + 18), .ref (nd + 8), .ref (nd + 9), .int (D 7 7), .int (D 7 8), .int (D 7 9), .int (scB (D 7 10) (u 1) 0), .long A, .int (D 7 12), .int (D 7 13), .int (D 7 14)]))) [cNd n nd me D, cDk nd D, cAr nd 2 35840 D, cAr nd 3 4096 D, cAr nd 4 32 D, cAr nd 5 280 D, cAr nd 6 280 D, (nd + 7, .inr (9, [.int me, .ref (n + 264), .ref n, .ref (nd + 10), .ref (nd + 18), .ref (nd + 8), .ref (nd + 9), .int (D 7 7), .int (D 7 8), .int (D 7 9), .int (scB (D 7 10) (u 1) 0), .long A, .int (D 7 12), .int (D 7 13), .int (D 7 14)])), cAr nd 8 16 D, cAr nd 9 280 D, cTb nd gg D K, cAr nd 11 48 D, cAr nd 12 48 D, cAr nd 13 48 D, cAr nd 14 2400 D, cAr nd 15 512 D, cAr nd 16 961 D, cAr nd 17 961 D, cWk nd D, cWa nd D, cAr nd 20 612 D, cAr nd 21 1152 D, cRk n nn gg C, cOr n nn gg f] := hF.put 7 _ rfl rfl
              replace hf := hf.put (a := nd + 7) (c := .inr (9, [.int me, .ref (n + 264), .ref n, .ref (nd + 10), .ref (nd + 18), .ref (nd + 8), .ref (nd + 9), .int (D 7 7), .int (D 7 8), .int (D 7 9), .int (scB (D 7 10) (u 1) 0), .long A, .int (D 7 12), .int (D 7 13), .int (D 7 14)])) (Or.inr (by omega))
              replace hN := hN.put (a := nd + 7) (c := .inr (9, [.int me, .ref (n + 264), .ref n, .ref (nd + 10), .ref (nd + 18), .ref (nd + 8), .ref (nd + 9), .int (D 7 7), .int (D 7 8), .int (D 7 9), .int (scB (D 7 10) (u 1) 0), .long A, .int (D 7 12), .int (D 7 13), .int (D 7 14)])) (by omega)
              replace hn : (ax_put hp_13 (nd + 7) (.inr (9, [.int me, .ref (n + 264), .ref n, .ref (nd + 10), .ref (nd + 18), .ref (nd + 8), .ref (nd + 9), .int (D 7 7), .int (D 7 8), .int (D 7 9), .int (scB (D 7 10) (u 1) 0), .long A, .int (D 7 12), .int (D 7 13), .int (D 7 14)]))).1 = h0.1 := hn
              replace hs : (ax_put hp_13 (nd + 7) (.inr (9, [.int me, .ref (n + 264), .ref n, .ref (nd + 10), .ref (nd + 18), .ref (nd + 8), .ref (nd + 9), .int (D 7 7), .int (D 7 8), .int (D 7 9), .int (scB (D 7 10) (u 1) 0), .long A, .int (D 7 12), .int (D 7 13), .int (D 7 14)]))).2.1 = h0.2.1 := hs
              generalize ax_put hp_13 (nd + 7) (.inr (9, [.int me, .ref (n + 264), .ref n, .ref (nd + 10), .ref (nd + 18), .ref (nd + 8), .ref (nd + 9), .int (D 7 7), .int (D 7 8), .int (D 7 9), .int (scB (D 7 10) (u 1) 0), .long A, .int (D 7 12), .int (D 7 13), .int (D 7 14)])) = hp_21 at hF hf hN hn hs ⊢
              have hS9 : NS Z n nd nn gg C me f q u b uv h0 hp_21 (va_up D 7 (upd (D 7) 10 (scB (D 7 10) (u 1) 0))) K A (pst Y (va_up (mg 12 me (u 1) (D 7 7) (D 7 8)) 7 (nI d), fun j => D 9 j)) := ⟨hF, hN, hf, hn, hs, hp0, hu0⟩
              have hI9 : NI Z nn (va_up D 7 (upd (D 7) 10 (scB (D 7 10) (u 1) 0))) := hI
              exact ar_ret d_70_250 rfl (⟨rfl, _, _, _, _, hS9, hI9, eq_ifF cc1 (eq_ifF cc14 (eq_ifF cc18 (eq_ifT cc20 (rfl)))), trivial⟩)
            · refine ar_iconst 243 (v := 1) d_70_242 rfl (by decide) ?_
              refine ar_goto 247 d_70_243 (by decide) ?_
              refine ar_call (r := []) (na := 0) (kd := 0) (cm := 82) (fr2 := fr - 1) (lo2 := lo - 22) 250 d_70_247 (ar_hoV (as := [.int (u 1), .int 1]) rfl rfl rfl (hF.at 7 rfl)) rfl (by omega) (show lo - 22 + (19 + 3) = lo by omega) (Nat.le_of_ble_eq_true rfl) (Nat.le_of_ble_eq_true rfl) (c_82E (hF.at 7 rfl)) ?_
              intro v hh hq
              obtain ⟨rfl, rfl⟩ := hq
              replace hF : ax_hs (ax_put hp_13 (nd + 7) (.inr (9, [.int me, .ref (n + 264), .ref n, .ref (nd + 10), .ref (nd + 18), .ref (nd + 8), .ref (nd + 9), .int (D 7 7), .int (D 7 8), .int (D 7 9), .int (scB (D 7 10) (u 1) 1), .long A, .int (D 7 12), .int (D 7 13), .int (D 7 14)]))) [cNd n nd me D, cDk nd D, cAr nd 2 35840 D, cAr nd 3 4096 D, cAr nd 4 32 D, cAr nd 5 280 D, cAr nd 6 280 D, (nd + 7, .inr (9, [.int me, .ref (n + 264), .ref n, .ref (nd + 10), .ref (nd + 18), .ref (nd + 8), .ref (nd + 9), .int (D 7 7), .int (D 7 8), .int (D 7 9), .int (scB (D 7 10) (u 1) 1), .long A, .int (D 7 12), .int (D 7 13), .int (D 7 14)])), cAr nd 8 16 D, cAr nd 9 280 D, cTb nd gg D K, cAr nd 11 48 D, cAr nd 12 48 D, cAr nd 13 48 D, cAr nd 14 2400 D, cAr nd 15 512 D, cAr nd 16 961 D, cAr nd 17 961 D, cWk nd D, cWa nd D, cAr nd 20 612 D, cAr nd 21 1152 D, cRk n nn gg C, cOr n nn gg f] := hF.put 7 _ rfl rfl
              replace hf := hf.put (a := nd + 7) (c := .inr (9, [.int me, .ref (n + 264), .ref n, .ref (nd + 10), .ref (nd + 18), .ref (nd + 8), .ref (nd + 9), .int (D 7 7), .int (D 7 8), .int (D 7 9), .int (scB (D 7 10) (u 1) 1), .long A, .int (D 7 12), .int (D 7 13), .int (D 7 14)])) (Or.inr (by omega))
              replace hN := hN.put (a := nd + 7) (c := .inr (9, [.int me, .ref (n + 264), .ref n, .ref (nd + 10), .ref (nd + 18), .ref (nd + 8), .ref (nd + 9), .int (D 7 7), .int (D 7 8), .int (D 7 9), .int (scB (D 7 10) (u 1) 1), .long A, .int (D 7 12), .int (D 7 13), .int (D 7 14)])) (by omega)
              replace hn : (ax_put hp_13 (nd + 7) (.inr (9, [.int me, .ref (n + 264), .ref n, .ref (nd + 10), .ref (nd + 18), .ref (nd + 8), .ref (nd + 9), .int (D 7 7), .int (D 7 8), .int (D 7 9), .int (scB (D 7 10) (u 1) 1), .long A, .int (D 7 12), .int (D 7 13), .int (D 7 14)]))).1 = h0.1 := hn
              replace hs : (ax_put hp_13 (nd + 7) (.inr (9, [.int me, .ref (n + 264), .ref n, .ref (nd + 10), .ref (nd + 18), .ref (nd + 8), .ref (nd + 9), .int (D 7 7), .int (D 7 8), .int (D 7 9), .int (scB (D 7 10) (u 1) 1), .long A, .int (D 7 12), .int (D 7 13), .int (D 7 14)]))).2.1 = h0.2.1 := hs
              generalize ax_put hp_13 (nd + 7) (.inr (9, [.int me, .ref (n + 264), .ref n, .ref (nd + 10), .ref (nd + 18), .ref (nd + 8), .ref (nd + 9), .int (D 7 7), .int (D 7 8), .int (D 7 9), .int (scB (D 7 10) (u 1) 1), .long A, .int (D 7 12), .int (D 7 13), .int (D 7 14)])) = hp_22 at hF hf hN hn hs ⊢
              have hS9 : NS Z n nd nn gg C me f q u b uv h0 hp_22 (va_up D 7 (upd (D 7) 10 (scB (D 7 10) (u 1) 1))) K A (pst Y (va_up (mg 12 me (u 1) (D 7 7) (D 7 8)) 7 (nI d), fun j => D 9 j)) := ⟨hF, hN, hf, hn, hs, hp0, hu0⟩
              have hI9 : NI Z nn (va_up D 7 (upd (D 7) 10 (scB (D 7 10) (u 1) 1))) := hI
              exact ar_ret d_70_250 rfl (⟨rfl, _, _, _, _, hS9, hI9, eq_ifF cc1 (eq_ifF cc14 (eq_ifF cc18 (eq_ifF cc20 (rfl)))), trivial⟩)
    | succ k ih =>
      intro i d y4 h D K A Y hi hd hS hI
      have hic : i < cnt := by omega
      obtain ⟨hnd, hn0, hnn3, hnn, hgg1, hgg, hRg⟩ := hC
      obtain ⟨hF, hN, hf, hn, hs, hp0, hu0⟩ := hS
      replace hF : ax_hs h [cNd n nd me D, cDk nd D, cAr nd 2 35840 D, cAr nd 3 4096 D, cAr nd 4 32 D, cAr nd 5 280 D, cAr nd 6 280 D, cLd n nd me D A, cAr nd 8 16 D, cAr nd 9 280 D, cTb nd gg D K, cAr nd 11 48 D, cAr nd 12 48 D, cAr nd 13 48 D, cAr nd 14 2400 D, cAr nd 15 512 D, cAr nd 16 961 D, cAr nd 17 961 D, cWk nd D, cWa nd D, cAr nd 20 612 D, cAr nd 21 1152 D, cRk n nn gg C, cOr n nn gg f] := hF
      refine ar_iload 57 d_70_55 rfl rfl ?_
      refine ar_aload_n 58 d_70_57 rfl rfl ?_
      refine ar_getf 61 d_70_58 rfl (ci := 2) (k := 7) rfl hN.mgc rfl ?_
      refine ar_icmp_ge 150 64 d_70_61 (by decide) rfl (fun c => absurd c (by rw [hu]; exact nI_ge hic (by omega))) (fun _ => ?_)
      refine ar_aload_n 65 d_70_64 rfl rfl ?_
      refine ar_aload_n 66 d_70_65 rfl rfl ?_
      refine ar_getf 69 d_70_66 rfl (ci := 2) (k := 8) rfl hN.mgc rfl ?_
      refine ar_iload 71 d_70_69 rfl rfl ?_
      refine ar_ialdN 72 (e := i) d_70_71 rfl hN.mbc (by omega) (by omega) ?_
      refine ar_aload_n 73 d_70_72 rfl rfl ?_
      refine ar_getf 76 d_70_73 rfl (ci := 2) (k := 1) rfl hN.mgc rfl ?_
      have hS1 : NS Z n nd nn gg C me f q u b uv h0 h D K A Y := ⟨hF, hN, hf, hn, hs, hp0, hu0⟩
      have hI1 : NI Z nn D := hI
      refine ar_call (r := []) (na := 0) (kd := 0) (cm := 76) (fr2 := fr - 1) (lo2 := lo - 24) 79 d_70_76 (ar_hoV (as := [.int (b i), .int (u 1)]) rfl rfl rfl (hF.at 7 rfl)) rfl (by omega) (show lo - 24 + (19 + 5) = lo by omega) (Nat.le_of_ble_eq_true rfl) (Nat.le_of_ble_eq_true rfl) (s_76 (by omega) (by omega) hC0 hS1 hI1) ?_
      intro v hp_24 hq
      obtain ⟨y23, rfl, D24, K24, A24, Y24, hS2, hI2, hE24, -⟩ := hq
      clear hS1 hI1 hF hN hf hn hs hp0 hu0
      obtain ⟨hF, hN, hf, hn, hs, hp0, hu0⟩ := hS2
      replace hF : ax_hs hp_24 [cNd n nd me D24, cDk nd D24, cAr nd 2 35840 D24, cAr nd 3 4096 D24, cAr nd 4 32 D24, cAr nd 5 280 D24, cAr nd 6 280 D24, cLd n nd me D24 A24, cAr nd 8 16 D24, cAr nd 9 280 D24, cTb nd gg D24 K24, cAr nd 11 48 D24, cAr nd 12 48 D24, cAr nd 13 48 D24, cAr nd 14 2400 D24, cAr nd 15 512 D24, cAr nd 16 961 D24, cAr nd 17 961 D24, cWk nd D24, cWa nd D24, cAr nd 20 612 D24, cAr nd 21 1152 D24, cRk n nn gg C, cOr n nn gg f] := hF
      have hI24 := hI2
      clear hI2
      refine ar_istore 81 [(0, .ref (nd + 7)), (1, .ref (n + 1 + 1 + 2 * q)), (2, .int s2), (3, .int s3), (4, .int y4), (5, .int (nI d)), (6, .int (nI i)), (7, .int y23)] d_70_79 rfl (by decide) rfl ?_
      refine ar_iload 83 d_70_81 rfl rfl ?_
      refine ar_if_ne 92 86 d_70_83 (by decide) rfl (fun cc25 => ?_) (fun cc25 => ?_)
      · refine ar_iload 94 d_70_92 rfl rfl ?_
        refine ar_iconst 95 (v := 1) d_70_94 rfl (by decide) ?_
        refine ar_icmp_ne 119 98 d_70_95 (by decide) rfl (fun cc26 => ?_) (fun cc26 => ?_)
        · refine ar_iload 121 d_70_119 rfl rfl ?_
          refine ar_iconst 122 (v := 2) d_70_121 rfl (by decide) ?_
          refine ar_icmp_eq 129 125 d_70_122 (by decide) rfl (fun cc27 => ?_) (fun cc27 => ?_)
          · refine ar_aload_n 130 d_70_129 rfl rfl ?_
            refine ar_aload_n 131 d_70_130 rfl rfl ?_
            refine ar_getf 134 d_70_131 rfl (ci := 2) (k := 8) rfl hN.mgc rfl ?_
            refine ar_iload 136 d_70_134 rfl rfl ?_
            refine ar_ialdN 137 (e := i) d_70_136 rfl hN.mbc (by omega) (by omega) ?_
            refine ar_aload_n 138 d_70_137 rfl rfl ?_
            refine ar_getf 141 d_70_138 rfl (ci := 2) (k := 1) rfl hN.mgc rfl ?_
            have hS1 : NS Z n nd nn gg C me f q u b uv h0 hp_24 D24 K24 A24 Y24 := ⟨hF, hN, hf, hn, hs, hp0, hu0⟩
            have hI1 : NI Z nn D24 := hI24
            refine ar_call (r := []) (na := 0) (kd := 0) (cm := 79) (fr2 := fr - 1) (lo2 := lo - 24) 144 d_70_141 (ar_hoV (as := [.int (b i), .int (u 1)]) rfl rfl rfl (hF.at 7 rfl)) rfl (by omega) (show lo - 24 + (19 + 5) = lo by omega) (Nat.le_of_ble_eq_true rfl) (Nat.le_of_ble_eq_true rfl) (s_79 (by omega) (by omega) hC0 hS1 hI1) ?_
            intro v hp_28 hq
            obtain ⟨rfl, D28, K28, A28, Y28, hS2, hI2, hE28, -⟩ := hq
            clear hS1 hI1 hF hN hf hn hs hp0 hu0
            obtain ⟨hF, hN, hf, hn, hs, hp0, hu0⟩ := hS2
            replace hF : ax_hs hp_28 [cNd n nd me D28, cDk nd D28, cAr nd 2 35840 D28, cAr nd 3 4096 D28, cAr nd 4 32 D28, cAr nd 5 280 D28, cAr nd 6 280 D28, cLd n nd me D28 A28, cAr nd 8 16 D28, cAr nd 9 280 D28, cTb nd gg D28 K28, cAr nd 11 48 D28, cAr nd 12 48 D28, cAr nd 13 48 D28, cAr nd 14 2400 D28, cAr nd 15 512 D28, cAr nd 16 961 D28, cAr nd 17 961 D28, cWk nd D28, cWa nd D28, cAr nd 20 612 D28, cAr nd 21 1152 D28, cRk n nn gg C, cOr n nn gg f] := hF
            have hI28 := hI2
            clear hI2
            refine ar_iinc 147 [(0, .ref (nd + 7)), (1, .ref (n + 1 + 1 + 2 * q)), (2, .int s2), (3, .int s3), (4, .int y4), (5, .int (nI d)), (6, .int (nI (i + 1))), (7, .int y23)] d_70_144 rfl rfl (nI_1 i) (by decide) rfl ?_
            refine ar_goto 55 d_70_147 (by decide) ?_
            refine ar_wk [0, 1, 2, 3, 4, 5, 6] rfl (by simp) ?_
            have hS1 : NS Z n nd nn gg C me f q u b uv h0 hp_28 D28 K28 A28 Y28 := ⟨hF, hN, hf, hn, hs, hp0, hu0⟩
            have hI1 : NI Z nn D28 := hI28
            rw [← show G_70 nn gg C me f u b s2 s3 k (i + 1) d y4 D28 K28 A28 Y28 = G_70 nn gg C me f u b s2 s3 (k + 1) i d y4 D K A Y from bnR_eq hE24 (eq_ifT cc25 (eq_ifT cc26 (eq_ifT cc27 (bnS_eq hE28 (rfl)))))]
            exact ih (i + 1) d y4 hp_28 D28 K28 A28 Y28 (by omega) (by omega) hS1 hI1
          · refine ar_iload_n 126 d_70_125 rfl rfl ?_
            refine ar_if_ne 144 129 d_70_126 (by decide) rfl (fun cc29 => ?_) (fun cc29 => ?_)
            · refine ar_iinc 147 [(0, .ref (nd + 7)), (1, .ref (n + 1 + 1 + 2 * q)), (2, .int s2), (3, .int s3), (4, .int y4), (5, .int (nI d)), (6, .int (nI (i + 1))), (7, .int y23)] d_70_144 rfl rfl (nI_1 i) (by decide) rfl ?_
              refine ar_goto 55 d_70_147 (by decide) ?_
              refine ar_wk [0, 1, 2, 3, 4, 5, 6] rfl (by simp) ?_
              have hS1 : NS Z n nd nn gg C me f q u b uv h0 hp_24 D24 K24 A24 Y24 := ⟨hF, hN, hf, hn, hs, hp0, hu0⟩
              have hI1 : NI Z nn D24 := hI24
              rw [← show G_70 nn gg C me f u b s2 s3 k (i + 1) d y4 D24 K24 A24 Y24 = G_70 nn gg C me f u b s2 s3 (k + 1) i d y4 D K A Y from bnR_eq hE24 (eq_ifT cc25 (eq_ifT cc26 (eq_ifF cc27 (eq_ifT cc29 (rfl)))))]
              exact ih (i + 1) d y4 hp_24 D24 K24 A24 Y24 (by omega) (by omega) hS1 hI1
            · refine ar_aload_n 130 d_70_129 rfl rfl ?_
              refine ar_aload_n 131 d_70_130 rfl rfl ?_
              refine ar_getf 134 d_70_131 rfl (ci := 2) (k := 8) rfl hN.mgc rfl ?_
              refine ar_iload 136 d_70_134 rfl rfl ?_
              refine ar_ialdN 137 (e := i) d_70_136 rfl hN.mbc (by omega) (by omega) ?_
              refine ar_aload_n 138 d_70_137 rfl rfl ?_
              refine ar_getf 141 d_70_138 rfl (ci := 2) (k := 1) rfl hN.mgc rfl ?_
              have hS1 : NS Z n nd nn gg C me f q u b uv h0 hp_24 D24 K24 A24 Y24 := ⟨hF, hN, hf, hn, hs, hp0, hu0⟩
              have hI1 : NI Z nn D24 := hI24
              refine ar_call (r := []) (na := 0) (kd := 0) (cm := 79) (fr2 := fr - 1) (lo2 := lo - 24) 144 d_70_141 (ar_hoV (as := [.int (b i), .int (u 1)]) rfl rfl rfl (hF.at 7 rfl)) rfl (by omega) (show lo - 24 + (19 + 5) = lo by omega) (Nat.le_of_ble_eq_true rfl) (Nat.le_of_ble_eq_true rfl) (s_79 (by omega) (by omega) hC0 hS1 hI1) ?_
              intro v hp_30 hq
              obtain ⟨rfl, D30, K30, A30, Y30, hS2, hI2, hE30, -⟩ := hq
              clear hS1 hI1 hF hN hf hn hs hp0 hu0
              obtain ⟨hF, hN, hf, hn, hs, hp0, hu0⟩ := hS2
              replace hF : ax_hs hp_30 [cNd n nd me D30, cDk nd D30, cAr nd 2 35840 D30, cAr nd 3 4096 D30, cAr nd 4 32 D30, cAr nd 5 280 D30, cAr nd 6 280 D30, cLd n nd me D30 A30, cAr nd 8 16 D30, cAr nd 9 280 D30, cTb nd gg D30 K30, cAr nd 11 48 D30, cAr nd 12 48 D30, cAr nd 13 48 D30, cAr nd 14 2400 D30, cAr nd 15 512 D30, cAr nd 16 961 D30, cAr nd 17 961 D30, cWk nd D30, cWa nd D30, cAr nd 20 612 D30, cAr nd 21 1152 D30, cRk n nn gg C, cOr n nn gg f] := hF
              have hI30 := hI2
              clear hI2
              refine ar_iinc 147 [(0, .ref (nd + 7)), (1, .ref (n + 1 + 1 + 2 * q)), (2, .int s2), (3, .int s3), (4, .int y4), (5, .int (nI d)), (6, .int (nI (i + 1))), (7, .int y23)] d_70_144 rfl rfl (nI_1 i) (by decide) rfl ?_
              refine ar_goto 55 d_70_147 (by decide) ?_
              refine ar_wk [0, 1, 2, 3, 4, 5, 6] rfl (by simp) ?_
              have hS1 : NS Z n nd nn gg C me f q u b uv h0 hp_30 D30 K30 A30 Y30 := ⟨hF, hN, hf, hn, hs, hp0, hu0⟩
              have hI1 : NI Z nn D30 := hI30
              rw [← show G_70 nn gg C me f u b s2 s3 k (i + 1) d y4 D30 K30 A30 Y30 = G_70 nn gg C me f u b s2 s3 (k + 1) i d y4 D K A Y from bnR_eq hE24 (eq_ifT cc25 (eq_ifT cc26 (eq_ifF cc27 (eq_ifF cc29 (bnS_eq hE30 (rfl))))))]
              exact ih (i + 1) d y4 hp_30 D30 K30 A30 Y30 (by omega) (by omega) hS1 hI1
        · refine ar_iload_n 99 d_70_98 rfl rfl ?_
          refine ar_if_eq 119 102 d_70_99 (by decide) rfl (fun cc31 => ?_) (fun cc31 => ?_)
          · refine ar_iload 121 d_70_119 rfl rfl ?_
            refine ar_iconst 122 (v := 2) d_70_121 rfl (by decide) ?_
            refine ar_icmp_eq 129 125 d_70_122 (by decide) rfl (fun cc32 => ?_) (fun cc32 => ?_)
            · refine ar_aload_n 130 d_70_129 rfl rfl ?_
              refine ar_aload_n 131 d_70_130 rfl rfl ?_
              refine ar_getf 134 d_70_131 rfl (ci := 2) (k := 8) rfl hN.mgc rfl ?_
              refine ar_iload 136 d_70_134 rfl rfl ?_
              refine ar_ialdN 137 (e := i) d_70_136 rfl hN.mbc (by omega) (by omega) ?_
              refine ar_aload_n 138 d_70_137 rfl rfl ?_
              refine ar_getf 141 d_70_138 rfl (ci := 2) (k := 1) rfl hN.mgc rfl ?_
              have hS1 : NS Z n nd nn gg C me f q u b uv h0 hp_24 D24 K24 A24 Y24 := ⟨hF, hN, hf, hn, hs, hp0, hu0⟩
              have hI1 : NI Z nn D24 := hI24
              refine ar_call (r := []) (na := 0) (kd := 0) (cm := 79) (fr2 := fr - 1) (lo2 := lo - 24) 144 d_70_141 (ar_hoV (as := [.int (b i), .int (u 1)]) rfl rfl rfl (hF.at 7 rfl)) rfl (by omega) (show lo - 24 + (19 + 5) = lo by omega) (Nat.le_of_ble_eq_true rfl) (Nat.le_of_ble_eq_true rfl) (s_79 (by omega) (by omega) hC0 hS1 hI1) ?_
              intro v hp_33 hq
              obtain ⟨rfl, D33, K33, A33, Y33, hS2, hI2, hE33, -⟩ := hq
              clear hS1 hI1 hF hN hf hn hs hp0 hu0
              obtain ⟨hF, hN, hf, hn, hs, hp0, hu0⟩ := hS2
              replace hF : ax_hs hp_33 [cNd n nd me D33, cDk nd D33, cAr nd 2 35840 D33, cAr nd 3 4096 D33, cAr nd 4 32 D33, cAr nd 5 280 D33, cAr nd 6 280 D33, cLd n nd me D33 A33, cAr nd 8 16 D33, cAr nd 9 280 D33, cTb nd gg D33 K33, cAr nd 11 48 D33, cAr nd 12 48 D33, cAr nd 13 48 D33, cAr nd 14 2400 D33, cAr nd 15 512 D33, cAr nd 16 961 D33, cAr nd 17 961 D33, cWk nd D33, cWa nd D33, cAr nd 20 612 D33, cAr nd 21 1152 D33, cRk n nn gg C, cOr n nn gg f] := hF
              have hI33 := hI2
              clear hI2
              refine ar_iinc 147 [(0, .ref (nd + 7)), (1, .ref (n + 1 + 1 + 2 * q)), (2, .int s2), (3, .int s3), (4, .int y4), (5, .int (nI d)), (6, .int (nI (i + 1))), (7, .int y23)] d_70_144 rfl rfl (nI_1 i) (by decide) rfl ?_
              refine ar_goto 55 d_70_147 (by decide) ?_
              refine ar_wk [0, 1, 2, 3, 4, 5, 6] rfl (by simp) ?_
              have hS1 : NS Z n nd nn gg C me f q u b uv h0 hp_33 D33 K33 A33 Y33 := ⟨hF, hN, hf, hn, hs, hp0, hu0⟩
              have hI1 : NI Z nn D33 := hI33
              rw [← show G_70 nn gg C me f u b s2 s3 k (i + 1) d y4 D33 K33 A33 Y33 = G_70 nn gg C me f u b s2 s3 (k + 1) i d y4 D K A Y from bnR_eq hE24 (eq_ifT cc25 (eq_ifF cc26 (eq_ifT cc31 (eq_ifT cc32 (bnS_eq hE33 (rfl))))))]
              exact ih (i + 1) d y4 hp_33 D33 K33 A33 Y33 (by omega) (by omega) hS1 hI1
            · refine ar_iload_n 126 d_70_125 rfl rfl ?_
              refine ar_if_ne 144 129 d_70_126 (by decide) rfl (fun cc34 => ?_) (fun cc34 => ?_)
              · refine ar_iinc 147 [(0, .ref (nd + 7)), (1, .ref (n + 1 + 1 + 2 * q)), (2, .int s2), (3, .int s3), (4, .int y4), (5, .int (nI d)), (6, .int (nI (i + 1))), (7, .int y23)] d_70_144 rfl rfl (nI_1 i) (by decide) rfl ?_
                refine ar_goto 55 d_70_147 (by decide) ?_
                refine ar_wk [0, 1, 2, 3, 4, 5, 6] rfl (by simp) ?_
                have hS1 : NS Z n nd nn gg C me f q u b uv h0 hp_24 D24 K24 A24 Y24 := ⟨hF, hN, hf, hn, hs, hp0, hu0⟩
                have hI1 : NI Z nn D24 := hI24
                rw [← show G_70 nn gg C me f u b s2 s3 k (i + 1) d y4 D24 K24 A24 Y24 = G_70 nn gg C me f u b s2 s3 (k + 1) i d y4 D K A Y from bnR_eq hE24 (eq_ifT cc25 (eq_ifF cc26 (eq_ifT cc31 (eq_ifF cc32 (eq_ifT cc34 (rfl))))))]
                exact ih (i + 1) d y4 hp_24 D24 K24 A24 Y24 (by omega) (by omega) hS1 hI1
              · refine ar_aload_n 130 d_70_129 rfl rfl ?_
                refine ar_aload_n 131 d_70_130 rfl rfl ?_
                refine ar_getf 134 d_70_131 rfl (ci := 2) (k := 8) rfl hN.mgc rfl ?_
                refine ar_iload 136 d_70_134 rfl rfl ?_
                refine ar_ialdN 137 (e := i) d_70_136 rfl hN.mbc (by omega) (by omega) ?_
                refine ar_aload_n 138 d_70_137 rfl rfl ?_
                refine ar_getf 141 d_70_138 rfl (ci := 2) (k := 1) rfl hN.mgc rfl ?_
                have hS1 : NS Z n nd nn gg C me f q u b uv h0 hp_24 D24 K24 A24 Y24 := ⟨hF, hN, hf, hn, hs, hp0, hu0⟩
                have hI1 : NI Z nn D24 := hI24
                refine ar_call (r := []) (na := 0) (kd := 0) (cm := 79) (fr2 := fr - 1) (lo2 := lo - 24) 144 d_70_141 (ar_hoV (as := [.int (b i), .int (u 1)]) rfl rfl rfl (hF.at 7 rfl)) rfl (by omega) (show lo - 24 + (19 + 5) = lo by omega) (Nat.le_of_ble_eq_true rfl) (Nat.le_of_ble_eq_true rfl) (s_79 (by omega) (by omega) hC0 hS1 hI1) ?_
                intro v hp_35 hq
                obtain ⟨rfl, D35, K35, A35, Y35, hS2, hI2, hE35, -⟩ := hq
                clear hS1 hI1 hF hN hf hn hs hp0 hu0
                obtain ⟨hF, hN, hf, hn, hs, hp0, hu0⟩ := hS2
                replace hF : ax_hs hp_35 [cNd n nd me D35, cDk nd D35, cAr nd 2 35840 D35, cAr nd 3 4096 D35, cAr nd 4 32 D35, cAr nd 5 280 D35, cAr nd 6 280 D35, cLd n nd me D35 A35, cAr nd 8 16 D35, cAr nd 9 280 D35, cTb nd gg D35 K35, cAr nd 11 48 D35, cAr nd 12 48 D35, cAr nd 13 48 D35, cAr nd 14 2400 D35, cAr nd 15 512 D35, cAr nd 16 961 D35, cAr nd 17 961 D35, cWk nd D35, cWa nd D35, cAr nd 20 612 D35, cAr nd 21 1152 D35, cRk n nn gg C, cOr n nn gg f] := hF
                have hI35 := hI2
                clear hI2
                refine ar_iinc 147 [(0, .ref (nd + 7)), (1, .ref (n + 1 + 1 + 2 * q)), (2, .int s2), (3, .int s3), (4, .int y4), (5, .int (nI d)), (6, .int (nI (i + 1))), (7, .int y23)] d_70_144 rfl rfl (nI_1 i) (by decide) rfl ?_
                refine ar_goto 55 d_70_147 (by decide) ?_
                refine ar_wk [0, 1, 2, 3, 4, 5, 6] rfl (by simp) ?_
                have hS1 : NS Z n nd nn gg C me f q u b uv h0 hp_35 D35 K35 A35 Y35 := ⟨hF, hN, hf, hn, hs, hp0, hu0⟩
                have hI1 : NI Z nn D35 := hI35
                rw [← show G_70 nn gg C me f u b s2 s3 k (i + 1) d y4 D35 K35 A35 Y35 = G_70 nn gg C me f u b s2 s3 (k + 1) i d y4 D K A Y from bnR_eq hE24 (eq_ifT cc25 (eq_ifF cc26 (eq_ifT cc31 (eq_ifF cc32 (eq_ifF cc34 (bnS_eq hE35 (rfl)))))))]
                exact ih (i + 1) d y4 hp_35 D35 K35 A35 Y35 (by omega) (by omega) hS1 hI1
          · refine ar_aload_n 103 d_70_102 rfl rfl ?_
            refine ar_getf 106 d_70_103 rfl (ci := 9) (k := 6) rfl (hF.at 7 rfl) rfl ?_
            refine ar_iload 108 d_70_106 rfl rfl ?_
            refine ar_aload_n 109 d_70_108 rfl rfl ?_
            refine ar_getf 112 d_70_109 rfl (ci := 2) (k := 8) rfl hN.mgc rfl ?_
            refine ar_iload 114 d_70_112 rfl rfl ?_
            refine ar_ialdN 115 (e := i) d_70_114 rfl hN.mbc (by omega) (by omega) ?_
            refine ar_iastN 116 (e := d) d_70_115 rfl (hF.at 9 rfl) (by omega) (by omega) ?_
            replace hF : ax_hs (ax_put hp_24 (nd + 9) (.inl (0, 280, .inl (upd (D24 9) d (b i))))) [cNd n nd me D24, cDk nd D24, cAr nd 2 35840 D24, cAr nd 3 4096 D24, cAr nd 4 32 D24, cAr nd 5 280 D24, cAr nd 6 280 D24, cLd n nd me D24 A24, cAr nd 8 16 D24, (nd + 9, .inl (0, 280, .inl (upd (D24 9) d (b i)))), cTb nd gg D24 K24, cAr nd 11 48 D24, cAr nd 12 48 D24, cAr nd 13 48 D24, cAr nd 14 2400 D24, cAr nd 15 512 D24, cAr nd 16 961 D24, cAr nd 17 961 D24, cWk nd D24, cWa nd D24, cAr nd 20 612 D24, cAr nd 21 1152 D24, cRk n nn gg C, cOr n nn gg f] := hF.put 9 _ rfl rfl
            replace hf := hf.put (a := nd + 9) (c := .inl (0, 280, .inl (upd (D24 9) d (b i)))) (Or.inr (by omega))
            replace hN := hN.put (a := nd + 9) (c := .inl (0, 280, .inl (upd (D24 9) d (b i)))) (by omega)
            replace hn : (ax_put hp_24 (nd + 9) (.inl (0, 280, .inl (upd (D24 9) d (b i))))).1 = h0.1 := hn
            replace hs : (ax_put hp_24 (nd + 9) (.inl (0, 280, .inl (upd (D24 9) d (b i))))).2.1 = h0.2.1 := hs
            generalize ax_put hp_24 (nd + 9) (.inl (0, 280, .inl (upd (D24 9) d (b i)))) = hp_36 at hF hf hN hn hs ⊢
            refine ar_iinc 119 [(0, .ref (nd + 7)), (1, .ref (n + 1 + 1 + 2 * q)), (2, .int s2), (3, .int s3), (4, .int y4), (5, .int (nI (d + 1))), (6, .int (nI i)), (7, .int y23)] d_70_116 rfl rfl (nI_1 d) (by decide) rfl ?_
            refine ar_iload 121 d_70_119 rfl rfl ?_
            refine ar_iconst 122 (v := 2) d_70_121 rfl (by decide) ?_
            refine ar_icmp_eq 129 125 d_70_122 (by decide) rfl (fun cc37 => ?_) (fun cc37 => ?_)
            · refine ar_aload_n 130 d_70_129 rfl rfl ?_
              refine ar_aload_n 131 d_70_130 rfl rfl ?_
              refine ar_getf 134 d_70_131 rfl (ci := 2) (k := 8) rfl hN.mgc rfl ?_
              refine ar_iload 136 d_70_134 rfl rfl ?_
              refine ar_ialdN 137 (e := i) d_70_136 rfl hN.mbc (by omega) (by omega) ?_
              refine ar_aload_n 138 d_70_137 rfl rfl ?_
              refine ar_getf 141 d_70_138 rfl (ci := 2) (k := 1) rfl hN.mgc rfl ?_
              have hS1 : NS Z n nd nn gg C me f q u b uv h0 hp_36 (va_up D24 9 (upd (D24 9) d (b i))) K24 A24 Y24 := ⟨hF, hN, hf, hn, hs, hp0, hu0⟩
              have hI1 : NI Z nn (va_up D24 9 (upd (D24 9) d (b i))) := hI24
              refine ar_call (r := []) (na := 0) (kd := 0) (cm := 79) (fr2 := fr - 1) (lo2 := lo - 24) 144 d_70_141 (ar_hoV (as := [.int (b i), .int (u 1)]) rfl rfl rfl (hF.at 7 rfl)) rfl (by omega) (show lo - 24 + (19 + 5) = lo by omega) (Nat.le_of_ble_eq_true rfl) (Nat.le_of_ble_eq_true rfl) (s_79 (by omega) (by omega) hC0 hS1 hI1) ?_
              intro v hp_38 hq
              obtain ⟨rfl, D38, K38, A38, Y38, hS2, hI2, hE38, -⟩ := hq
              clear hS1 hI1 hF hN hf hn hs hp0 hu0
              obtain ⟨hF, hN, hf, hn, hs, hp0, hu0⟩ := hS2
              replace hF : ax_hs hp_38 [cNd n nd me D38, cDk nd D38, cAr nd 2 35840 D38, cAr nd 3 4096 D38, cAr nd 4 32 D38, cAr nd 5 280 D38, cAr nd 6 280 D38, cLd n nd me D38 A38, cAr nd 8 16 D38, cAr nd 9 280 D38, cTb nd gg D38 K38, cAr nd 11 48 D38, cAr nd 12 48 D38, cAr nd 13 48 D38, cAr nd 14 2400 D38, cAr nd 15 512 D38, cAr nd 16 961 D38, cAr nd 17 961 D38, cWk nd D38, cWa nd D38, cAr nd 20 612 D38, cAr nd 21 1152 D38, cRk n nn gg C, cOr n nn gg f] := hF
              have hI38 := hI2
              clear hI2
              refine ar_iinc 147 [(0, .ref (nd + 7)), (1, .ref (n + 1 + 1 + 2 * q)), (2, .int s2), (3, .int s3), (4, .int y4), (5, .int (nI (d + 1))), (6, .int (nI (i + 1))), (7, .int y23)] d_70_144 rfl rfl (nI_1 i) (by decide) rfl ?_
              refine ar_goto 55 d_70_147 (by decide) ?_
              refine ar_wk [0, 1, 2, 3, 4, 5, 6] rfl (by simp) ?_
              have hS1 : NS Z n nd nn gg C me f q u b uv h0 hp_38 D38 K38 A38 Y38 := ⟨hF, hN, hf, hn, hs, hp0, hu0⟩
              have hI1 : NI Z nn D38 := hI38
              rw [← show G_70 nn gg C me f u b s2 s3 k (i + 1) (d + 1) y4 D38 K38 A38 Y38 = G_70 nn gg C me f u b s2 s3 (k + 1) i d y4 D K A Y from bnR_eq hE24 (eq_ifT cc25 (eq_ifF cc26 (eq_ifF cc31 (eq_ifT cc37 (bnS_eq hE38 (rfl))))))]
              exact ih (i + 1) (d + 1) y4 hp_38 D38 K38 A38 Y38 (by omega) (by omega) hS1 hI1
            · refine ar_iload_n 126 d_70_125 rfl rfl ?_
              refine ar_if_ne 144 129 d_70_126 (by decide) rfl (fun cc39 => ?_) (fun cc39 => ?_)
              · refine ar_iinc 147 [(0, .ref (nd + 7)), (1, .ref (n + 1 + 1 + 2 * q)), (2, .int s2), (3, .int s3), (4, .int y4), (5, .int (nI (d + 1))), (6, .int (nI (i + 1))), (7, .int y23)] d_70_144 rfl rfl (nI_1 i) (by decide) rfl ?_
                refine ar_goto 55 d_70_147 (by decide) ?_
                refine ar_wk [0, 1, 2, 3, 4, 5, 6] rfl (by simp) ?_
                have hS1 : NS Z n nd nn gg C me f q u b uv h0 hp_36 (va_up D24 9 (upd (D24 9) d (b i))) K24 A24 Y24 := ⟨hF, hN, hf, hn, hs, hp0, hu0⟩
                have hI1 : NI Z nn (va_up D24 9 (upd (D24 9) d (b i))) := hI24
                rw [← show G_70 nn gg C me f u b s2 s3 k (i + 1) (d + 1) y4 (va_up D24 9 (upd (D24 9) d (b i))) K24 A24 Y24 = G_70 nn gg C me f u b s2 s3 (k + 1) i d y4 D K A Y from bnR_eq hE24 (eq_ifT cc25 (eq_ifF cc26 (eq_ifF cc31 (eq_ifF cc37 (eq_ifT cc39 (rfl))))))]
                exact ih (i + 1) (d + 1) y4 hp_36 (va_up D24 9 (upd (D24 9) d (b i))) K24 A24 Y24 (by omega) (by omega) hS1 hI1
              · refine ar_aload_n 130 d_70_129 rfl rfl ?_
                refine ar_aload_n 131 d_70_130 rfl rfl ?_
                refine ar_getf 134 d_70_131 rfl (ci := 2) (k := 8) rfl hN.mgc rfl ?_
                refine ar_iload 136 d_70_134 rfl rfl ?_
                refine ar_ialdN 137 (e := i) d_70_136 rfl hN.mbc (by omega) (by omega) ?_
                refine ar_aload_n 138 d_70_137 rfl rfl ?_
                refine ar_getf 141 d_70_138 rfl (ci := 2) (k := 1) rfl hN.mgc rfl ?_
                have hS1 : NS Z n nd nn gg C me f q u b uv h0 hp_36 (va_up D24 9 (upd (D24 9) d (b i))) K24 A24 Y24 := ⟨hF, hN, hf, hn, hs, hp0, hu0⟩
                have hI1 : NI Z nn (va_up D24 9 (upd (D24 9) d (b i))) := hI24
                refine ar_call (r := []) (na := 0) (kd := 0) (cm := 79) (fr2 := fr - 1) (lo2 := lo - 24) 144 d_70_141 (ar_hoV (as := [.int (b i), .int (u 1)]) rfl rfl rfl (hF.at 7 rfl)) rfl (by omega) (show lo - 24 + (19 + 5) = lo by omega) (Nat.le_of_ble_eq_true rfl) (Nat.le_of_ble_eq_true rfl) (s_79 (by omega) (by omega) hC0 hS1 hI1) ?_
                intro v hp_40 hq
                obtain ⟨rfl, D40, K40, A40, Y40, hS2, hI2, hE40, -⟩ := hq
                clear hS1 hI1 hF hN hf hn hs hp0 hu0
                obtain ⟨hF, hN, hf, hn, hs, hp0, hu0⟩ := hS2
                replace hF : ax_hs hp_40 [cNd n nd me D40, cDk nd D40, cAr nd 2 35840 D40, cAr nd 3 4096 D40, cAr nd 4 32 D40, cAr nd 5 280 D40, cAr nd 6 280 D40, cLd n nd me D40 A40, cAr nd 8 16 D40, cAr nd 9 280 D40, cTb nd gg D40 K40, cAr nd 11 48 D40, cAr nd 12 48 D40, cAr nd 13 48 D40, cAr nd 14 2400 D40, cAr nd 15 512 D40, cAr nd 16 961 D40, cAr nd 17 961 D40, cWk nd D40, cWa nd D40, cAr nd 20 612 D40, cAr nd 21 1152 D40, cRk n nn gg C, cOr n nn gg f] := hF
                have hI40 := hI2
                clear hI2
                refine ar_iinc 147 [(0, .ref (nd + 7)), (1, .ref (n + 1 + 1 + 2 * q)), (2, .int s2), (3, .int s3), (4, .int y4), (5, .int (nI (d + 1))), (6, .int (nI (i + 1))), (7, .int y23)] d_70_144 rfl rfl (nI_1 i) (by decide) rfl ?_
                refine ar_goto 55 d_70_147 (by decide) ?_
                refine ar_wk [0, 1, 2, 3, 4, 5, 6] rfl (by simp) ?_
                have hS1 : NS Z n nd nn gg C me f q u b uv h0 hp_40 D40 K40 A40 Y40 := ⟨hF, hN, hf, hn, hs, hp0, hu0⟩
                have hI1 : NI Z nn D40 := hI40
                rw [← show G_70 nn gg C me f u b s2 s3 k (i + 1) (d + 1) y4 D40 K40 A40 Y40 = G_70 nn gg C me f u b s2 s3 (k + 1) i d y4 D K A Y from bnR_eq hE24 (eq_ifT cc25 (eq_ifF cc26 (eq_ifF cc31 (eq_ifF cc37 (eq_ifF cc39 (bnS_eq hE40 (rfl)))))))]
                exact ih (i + 1) (d + 1) y4 hp_40 D40 K40 A40 Y40 (by omega) (by omega) hS1 hI1
      · refine ar_iinc 89 [(0, .ref (nd + 7)), (1, .ref (n + 1 + 1 + 2 * q)), (2, .int s2), (3, .int s3), (4, .int (y4 + 1)), (5, .int (nI d)), (6, .int (nI i)), (7, .int y23)] d_70_86 rfl rfl (rfl) (by decide) rfl ?_
        refine ar_goto 119 d_70_89 (by decide) ?_
        refine ar_iload 121 d_70_119 rfl rfl ?_
        refine ar_iconst 122 (v := 2) d_70_121 rfl (by decide) ?_
        refine ar_icmp_eq 129 125 d_70_122 (by decide) rfl (fun cc41 => ?_) (fun cc41 => ?_)
        · refine ar_aload_n 130 d_70_129 rfl rfl ?_
          refine ar_aload_n 131 d_70_130 rfl rfl ?_
          refine ar_getf 134 d_70_131 rfl (ci := 2) (k := 8) rfl hN.mgc rfl ?_
          refine ar_iload 136 d_70_134 rfl rfl ?_
          refine ar_ialdN 137 (e := i) d_70_136 rfl hN.mbc (by omega) (by omega) ?_
          refine ar_aload_n 138 d_70_137 rfl rfl ?_
          refine ar_getf 141 d_70_138 rfl (ci := 2) (k := 1) rfl hN.mgc rfl ?_
          have hS1 : NS Z n nd nn gg C me f q u b uv h0 hp_24 D24 K24 A24 Y24 := ⟨hF, hN, hf, hn, hs, hp0, hu0⟩
          have hI1 : NI Z nn D24 := hI24
          refine ar_call (r := []) (na := 0) (kd := 0) (cm := 79) (fr2 := fr - 1) (lo2 := lo - 24) 144 d_70_141 (ar_hoV (as := [.int (b i), .int (u 1)]) rfl rfl rfl (hF.at 7 rfl)) rfl (by omega) (show lo - 24 + (19 + 5) = lo by omega) (Nat.le_of_ble_eq_true rfl) (Nat.le_of_ble_eq_true rfl) (s_79 (by omega) (by omega) hC0 hS1 hI1) ?_
          intro v hp_42 hq
          obtain ⟨rfl, D42, K42, A42, Y42, hS2, hI2, hE42, -⟩ := hq
          clear hS1 hI1 hF hN hf hn hs hp0 hu0
          obtain ⟨hF, hN, hf, hn, hs, hp0, hu0⟩ := hS2
          replace hF : ax_hs hp_42 [cNd n nd me D42, cDk nd D42, cAr nd 2 35840 D42, cAr nd 3 4096 D42, cAr nd 4 32 D42, cAr nd 5 280 D42, cAr nd 6 280 D42, cLd n nd me D42 A42, cAr nd 8 16 D42, cAr nd 9 280 D42, cTb nd gg D42 K42, cAr nd 11 48 D42, cAr nd 12 48 D42, cAr nd 13 48 D42, cAr nd 14 2400 D42, cAr nd 15 512 D42, cAr nd 16 961 D42, cAr nd 17 961 D42, cWk nd D42, cWa nd D42, cAr nd 20 612 D42, cAr nd 21 1152 D42, cRk n nn gg C, cOr n nn gg f] := hF
          have hI42 := hI2
          clear hI2
          refine ar_iinc 147 [(0, .ref (nd + 7)), (1, .ref (n + 1 + 1 + 2 * q)), (2, .int s2), (3, .int s3), (4, .int (y4 + 1)), (5, .int (nI d)), (6, .int (nI (i + 1))), (7, .int y23)] d_70_144 rfl rfl (nI_1 i) (by decide) rfl ?_
          refine ar_goto 55 d_70_147 (by decide) ?_
          refine ar_wk [0, 1, 2, 3, 4, 5, 6] rfl (by simp) ?_
          have hS1 : NS Z n nd nn gg C me f q u b uv h0 hp_42 D42 K42 A42 Y42 := ⟨hF, hN, hf, hn, hs, hp0, hu0⟩
          have hI1 : NI Z nn D42 := hI42
          rw [← show G_70 nn gg C me f u b s2 s3 k (i + 1) d (y4 + 1) D42 K42 A42 Y42 = G_70 nn gg C me f u b s2 s3 (k + 1) i d y4 D K A Y from bnR_eq hE24 (eq_ifF cc25 (eq_ifT cc41 (bnS_eq hE42 (rfl))))]
          exact ih (i + 1) d (y4 + 1) hp_42 D42 K42 A42 Y42 (by omega) (by omega) hS1 hI1
        · refine ar_iload_n 126 d_70_125 rfl rfl ?_
          refine ar_if_ne 144 129 d_70_126 (by decide) rfl (fun cc43 => ?_) (fun cc43 => ?_)
          · refine ar_iinc 147 [(0, .ref (nd + 7)), (1, .ref (n + 1 + 1 + 2 * q)), (2, .int s2), (3, .int s3), (4, .int (y4 + 1)), (5, .int (nI d)), (6, .int (nI (i + 1))), (7, .int y23)] d_70_144 rfl rfl (nI_1 i) (by decide) rfl ?_
            refine ar_goto 55 d_70_147 (by decide) ?_
            refine ar_wk [0, 1, 2, 3, 4, 5, 6] rfl (by simp) ?_
            have hS1 : NS Z n nd nn gg C me f q u b uv h0 hp_24 D24 K24 A24 Y24 := ⟨hF, hN, hf, hn, hs, hp0, hu0⟩
            have hI1 : NI Z nn D24 := hI24
            rw [← show G_70 nn gg C me f u b s2 s3 k (i + 1) d (y4 + 1) D24 K24 A24 Y24 = G_70 nn gg C me f u b s2 s3 (k + 1) i d y4 D K A Y from bnR_eq hE24 (eq_ifF cc25 (eq_ifF cc41 (eq_ifT cc43 (rfl))))]
            exact ih (i + 1) d (y4 + 1) hp_24 D24 K24 A24 Y24 (by omega) (by omega) hS1 hI1
          · refine ar_aload_n 130 d_70_129 rfl rfl ?_
            refine ar_aload_n 131 d_70_130 rfl rfl ?_
            refine ar_getf 134 d_70_131 rfl (ci := 2) (k := 8) rfl hN.mgc rfl ?_
            refine ar_iload 136 d_70_134 rfl rfl ?_
            refine ar_ialdN 137 (e := i) d_70_136 rfl hN.mbc (by omega) (by omega) ?_
            refine ar_aload_n 138 d_70_137 rfl rfl ?_
            refine ar_getf 141 d_70_138 rfl (ci := 2) (k := 1) rfl hN.mgc rfl ?_
            have hS1 : NS Z n nd nn gg C me f q u b uv h0 hp_24 D24 K24 A24 Y24 := ⟨hF, hN, hf, hn, hs, hp0, hu0⟩
            have hI1 : NI Z nn D24 := hI24
            refine ar_call (r := []) (na := 0) (kd := 0) (cm := 79) (fr2 := fr - 1) (lo2 := lo - 24) 144 d_70_141 (ar_hoV (as := [.int (b i), .int (u 1)]) rfl rfl rfl (hF.at 7 rfl)) rfl (by omega) (show lo - 24 + (19 + 5) = lo by omega) (Nat.le_of_ble_eq_true rfl) (Nat.le_of_ble_eq_true rfl) (s_79 (by omega) (by omega) hC0 hS1 hI1) ?_
            intro v hp_44 hq
            obtain ⟨rfl, D44, K44, A44, Y44, hS2, hI2, hE44, -⟩ := hq
            clear hS1 hI1 hF hN hf hn hs hp0 hu0
            obtain ⟨hF, hN, hf, hn, hs, hp0, hu0⟩ := hS2
            replace hF : ax_hs hp_44 [cNd n nd me D44, cDk nd D44, cAr nd 2 35840 D44, cAr nd 3 4096 D44, cAr nd 4 32 D44, cAr nd 5 280 D44, cAr nd 6 280 D44, cLd n nd me D44 A44, cAr nd 8 16 D44, cAr nd 9 280 D44, cTb nd gg D44 K44, cAr nd 11 48 D44, cAr nd 12 48 D44, cAr nd 13 48 D44, cAr nd 14 2400 D44, cAr nd 15 512 D44, cAr nd 16 961 D44, cAr nd 17 961 D44, cWk nd D44, cWa nd D44, cAr nd 20 612 D44, cAr nd 21 1152 D44, cRk n nn gg C, cOr n nn gg f] := hF
            have hI44 := hI2
            clear hI2
            refine ar_iinc 147 [(0, .ref (nd + 7)), (1, .ref (n + 1 + 1 + 2 * q)), (2, .int s2), (3, .int s3), (4, .int (y4 + 1)), (5, .int (nI d)), (6, .int (nI (i + 1))), (7, .int y23)] d_70_144 rfl rfl (nI_1 i) (by decide) rfl ?_
            refine ar_goto 55 d_70_147 (by decide) ?_
            refine ar_wk [0, 1, 2, 3, 4, 5, 6] rfl (by simp) ?_
            have hS1 : NS Z n nd nn gg C me f q u b uv h0 hp_44 D44 K44 A44 Y44 := ⟨hF, hN, hf, hn, hs, hp0, hu0⟩
            have hI1 : NI Z nn D44 := hI44
            rw [← show G_70 nn gg C me f u b s2 s3 k (i + 1) d (y4 + 1) D44 K44 A44 Y44 = G_70 nn gg C me f u b s2 s3 (k + 1) i d y4 D K A Y from bnR_eq hE24 (eq_ifF cc25 (eq_ifF cc41 (eq_ifF cc43 (bnS_eq hE44 (rfl)))))]
            exact ih (i + 1) d (y4 + 1) hp_44 D44 K44 A44 Y44 (by omega) (by omega) hS1 hI1
  show ax_A (ax_step L xs) ((70, 0, fr, lo), [(0, .ref (nd + 7)), (1, .ref (n + 1 + 1 + 2 * q))], [], h) _
  obtain ⟨hnd, hn0, hnn3, hnn, hgg1, hgg, hRg⟩ := hC
  obtain ⟨hF, hN, hf, hn, hs, hp0, hu0⟩ := hS
  replace hF : ax_hs h [cNd n nd me D, cDk nd D, cAr nd 2 35840 D, cAr nd 3 4096 D, cAr nd 4 32 D, cAr nd 5 280 D, cAr nd 6 280 D, cLd n nd me D A, cAr nd 8 16 D, cAr nd 9 280 D, cTb nd gg D K, cAr nd 11 48 D, cAr nd 12 48 D, cAr nd 13 48 D, cAr nd 14 2400 D, cAr nd 15 512 D, cAr nd 16 961 D, cAr nd 17 961 D, cWk nd D, cWa nd D, cAr nd 20 612 D, cAr nd 21 1152 D, cRk n nn gg C, cOr n nn gg f] := hF
  refine ar_aload_n 1 d_70_0 rfl rfl ?_
  refine ar_getf 4 d_70_1 rfl (ci := 9) (k := 4) rfl (hF.at 7 rfl) rfl ?_
  refine ar_call (r := []) (na := 0) (kd := 0) (cm := 71) (fr2 := fr - 1) (lo2 := lo - 20) 7 d_70_4 (ar_hoV (as := []) rfl rfl rfl (hF.at 18 rfl)) rfl (by omega) (show lo - 20 + (19 + 1) = lo by omega) (Nat.le_of_ble_eq_true rfl) (Nat.le_of_ble_eq_true rfl) (c_71E (hF.at 18 rfl)) ?_
  intro v hh hq
  obtain ⟨rfl, ehh⟩ := hq
  rw [ehh]
  clear ehh
  refine ar_if_ne 24 10 d_70_7 (by decide) rfl (fun cc1 => ?_) (fun cc1 => ?_)
  · refine ar_iconst 25 (v := 0) d_70_24 rfl (by decide) ?_
    refine ar_istore_n 26 [(0, .ref (nd + 7)), (1, .ref (n + 1 + 1 + 2 * q)), (2, .int 0)] d_70_25 rfl (by decide) rfl ?_
    refine ar_iload_n 27 d_70_26 rfl rfl ?_
    refine ar_if_eq 44 30 d_70_27 (by decide) rfl (fun _ => ?_) (fun c => absurd (by decide) c)
    refine ar_iconst 45 (v := 0) d_70_44 rfl (by decide) ?_
    refine ar_istore_n 46 [(0, .ref (nd + 7)), (1, .ref (n + 1 + 1 + 2 * q)), (2, .int 0), (3, .int 0)] d_70_45 rfl (by decide) rfl ?_
    refine ar_iconst 47 (v := 0) d_70_46 rfl (by decide) ?_
    refine ar_istore 49 [(0, .ref (nd + 7)), (1, .ref (n + 1 + 1 + 2 * q)), (2, .int 0), (3, .int 0), (4, .int 0)] d_70_47 rfl (by decide) rfl ?_
    refine ar_iconst 50 (v := 0) d_70_49 rfl (by decide) ?_
    refine ar_istore 52 [(0, .ref (nd + 7)), (1, .ref (n + 1 + 1 + 2 * q)), (2, .int 0), (3, .int 0), (4, .int 0), (5, .int 0)] d_70_50 rfl (by decide) rfl ?_
    refine ar_iconst 53 (v := 0) d_70_52 rfl (by decide) ?_
    refine ar_istore 55 [(0, .ref (nd + 7)), (1, .ref (n + 1 + 1 + 2 * q)), (2, .int 0), (3, .int 0), (4, .int 0), (5, .int 0), (6, .int 0)] d_70_53 rfl (by decide) rfl ?_
    have hS1 : NS Z n nd nn gg C me f q u b uv h0 h D K A Y := ⟨hF, hN, hf, hn, hs, hp0, hu0⟩
    have hI1 : NI Z nn D := hI
    rw [← show G_70 nn gg C me f u b 0 0 cnt 0 0 0 D K A Y = F_70 nn gg C me f u b D K A Y from bnN_eq (cl_eq hcnt hu) (eq_ifT cc1 (rfl))]
    exact key _ _ cnt 0 0 _ h D K A Y (by omega) (by omega) hS1 hI1
  · refine ar_aload_n 11 d_70_10 rfl rfl ?_
    refine ar_getf 14 d_70_11 rfl (ci := 9) (k := 3) rfl (hF.at 7 rfl) rfl ?_
    refine ar_call (r := []) (na := 0) (kd := 0) (cm := 72) (fr2 := fr - 1) (lo2 := lo - 20) 17 d_70_14 (ar_hoV (as := []) rfl rfl rfl (hF.at 10 rfl)) rfl (by omega) (show lo - 20 + (19 + 1) = lo by omega) (Nat.le_of_ble_eq_true rfl) (Nat.le_of_ble_eq_true rfl) (c_72E (by omega) (by omega) (hF.at 10 rfl)) ?_
    intro v hh hq
    obtain ⟨rfl, ehh⟩ := hq
    rw [ehh]
    clear ehh
    refine ar_if_eq 24 20 d_70_17 (by decide) rfl (fun cc2 => ?_) (fun cc2 => ?_)
    · refine ar_iconst 25 (v := 0) d_70_24 rfl (by decide) ?_
      refine ar_istore_n 26 [(0, .ref (nd + 7)), (1, .ref (n + 1 + 1 + 2 * q)), (2, .int 0)] d_70_25 rfl (by decide) rfl ?_
      refine ar_iload_n 27 d_70_26 rfl rfl ?_
      refine ar_if_eq 44 30 d_70_27 (by decide) rfl (fun _ => ?_) (fun c => absurd (by decide) c)
      refine ar_iconst 45 (v := 0) d_70_44 rfl (by decide) ?_
      refine ar_istore_n 46 [(0, .ref (nd + 7)), (1, .ref (n + 1 + 1 + 2 * q)), (2, .int 0), (3, .int 0)] d_70_45 rfl (by decide) rfl ?_
      refine ar_iconst 47 (v := 0) d_70_46 rfl (by decide) ?_
      refine ar_istore 49 [(0, .ref (nd + 7)), (1, .ref (n + 1 + 1 + 2 * q)), (2, .int 0), (3, .int 0), (4, .int 0)] d_70_47 rfl (by decide) rfl ?_
      refine ar_iconst 50 (v := 0) d_70_49 rfl (by decide) ?_
      refine ar_istore 52 [(0, .ref (nd + 7)), (1, .ref (n + 1 + 1 + 2 * q)), (2, .int 0), (3, .int 0), (4, .int 0), (5, .int 0)] d_70_50 rfl (by decide) rfl ?_
      refine ar_iconst 53 (v := 0) d_70_52 rfl (by decide) ?_
      refine ar_istore 55 [(0, .ref (nd + 7)), (1, .ref (n + 1 + 1 + 2 * q)), (2, .int 0), (3, .int 0), (4, .int 0), (5, .int 0), (6, .int 0)] d_70_53 rfl (by decide) rfl ?_
      have hS1 : NS Z n nd nn gg C me f q u b uv h0 h D K A Y := ⟨hF, hN, hf, hn, hs, hp0, hu0⟩
      have hI1 : NI Z nn D := hI
      rw [← show G_70 nn gg C me f u b 0 0 cnt 0 0 0 D K A Y = F_70 nn gg C me f u b D K A Y from bnN_eq (cl_eq hcnt hu) (eq_ifF cc1 (eq_ifT cc2 (rfl)))]
      exact key _ _ cnt 0 0 _ h D K A Y (by omega) (by omega) hS1 hI1
    · refine ar_iconst 21 (v := 1) d_70_20 rfl (by decide) ?_
      refine ar_goto 25 d_70_21 (by decide) ?_
      refine ar_istore_n 26 [(0, .ref (nd + 7)), (1, .ref (n + 1 + 1 + 2 * q)), (2, .int 1)] d_70_25 rfl (by decide) rfl ?_
      refine ar_iload_n 27 d_70_26 rfl rfl ?_
      refine ar_if_eq 44 30 d_70_27 (by decide) rfl (fun c => absurd c (by decide)) (fun _ => ?_)
      refine ar_aload_n 31 d_70_30 rfl rfl ?_
      refine ar_sipush 34 (v := 960) d_70_31 rfl (by decide) ?_
      refine ar_call (r := []) (na := 0) (kd := 0) (cm := 74) (fr2 := fr - 1) (lo2 := lo - 22) 37 d_70_34 (ar_hoV (as := [.int 960]) rfl rfl rfl (hF.at 7 rfl)) rfl (by omega) (show lo - 22 + (19 + 3) = lo by omega) (Nat.le_of_ble_eq_true rfl) (Nat.le_of_ble_eq_true rfl) (c_74E (a := 960) (by omega) (by omega) (by omega) hgg (by omega) hI.2.1 (Or.inl rfl) (hF.at 7 rfl) (hF.at 10 rfl) (hF.at 8 rfl) (hF.at 11 rfl) (hF.at 16 rfl) (hF.at 17 rfl)) ?_
      intro v hh hq
      obtain ⟨rfl, ehh⟩ := hq
      rw [ehh]
      clear ehh
      refine ar_if_eq 44 40 d_70_37 (by decide) rfl (fun cc3 => ?_) (fun cc3 => ?_)
      · refine ar_iconst 45 (v := 0) d_70_44 rfl (by decide) ?_
        refine ar_istore_n 46 [(0, .ref (nd + 7)), (1, .ref (n + 1 + 1 + 2 * q)), (2, .int 1), (3, .int 0)] d_70_45 rfl (by decide) rfl ?_
        refine ar_iconst 47 (v := 0) d_70_46 rfl (by decide) ?_
        refine ar_istore 49 [(0, .ref (nd + 7)), (1, .ref (n + 1 + 1 + 2 * q)), (2, .int 1), (3, .int 0), (4, .int 0)] d_70_47 rfl (by decide) rfl ?_
        refine ar_iconst 50 (v := 0) d_70_49 rfl (by decide) ?_
        refine ar_istore 52 [(0, .ref (nd + 7)), (1, .ref (n + 1 + 1 + 2 * q)), (2, .int 1), (3, .int 0), (4, .int 0), (5, .int 0)] d_70_50 rfl (by decide) rfl ?_
        refine ar_iconst 53 (v := 0) d_70_52 rfl (by decide) ?_
        refine ar_istore 55 [(0, .ref (nd + 7)), (1, .ref (n + 1 + 1 + 2 * q)), (2, .int 1), (3, .int 0), (4, .int 0), (5, .int 0), (6, .int 0)] d_70_53 rfl (by decide) rfl ?_
        have hS1 : NS Z n nd nn gg C me f q u b uv h0 h D K A Y := ⟨hF, hN, hf, hn, hs, hp0, hu0⟩
        have hI1 : NI Z nn D := hI
        rw [← show G_70 nn gg C me f u b 1 0 cnt 0 0 0 D K A Y = F_70 nn gg C me f u b D K A Y from bnN_eq (cl_eq hcnt hu) (eq_ifF cc1 (eq_ifF cc2 (eq_ifT cc3 (rfl))))]
        exact key _ _ cnt 0 0 _ h D K A Y (by omega) (by omega) hS1 hI1
      · refine ar_iconst 41 (v := 1) d_70_40 rfl (by decide) ?_
        refine ar_goto 45 d_70_41 (by decide) ?_
        refine ar_istore_n 46 [(0, .ref (nd + 7)), (1, .ref (n + 1 + 1 + 2 * q)), (2, .int 1), (3, .int 1)] d_70_45 rfl (by decide) rfl ?_
        refine ar_iconst 47 (v := 0) d_70_46 rfl (by decide) ?_
        refine ar_istore 49 [(0, .ref (nd + 7)), (1, .ref (n + 1 + 1 + 2 * q)), (2, .int 1), (3, .int 1), (4, .int 0)] d_70_47 rfl (by decide) rfl ?_
        refine ar_iconst 50 (v := 0) d_70_49 rfl (by decide) ?_
        refine ar_istore 52 [(0, .ref (nd + 7)), (1, .ref (n + 1 + 1 + 2 * q)), (2, .int 1), (3, .int 1), (4, .int 0), (5, .int 0)] d_70_50 rfl (by decide) rfl ?_
        refine ar_iconst 53 (v := 0) d_70_52 rfl (by decide) ?_
        refine ar_istore 55 [(0, .ref (nd + 7)), (1, .ref (n + 1 + 1 + 2 * q)), (2, .int 1), (3, .int 1), (4, .int 0), (5, .int 0), (6, .int 0)] d_70_53 rfl (by decide) rfl ?_
        have hS1 : NS Z n nd nn gg C me f q u b uv h0 h D K A Y := ⟨hF, hN, hf, hn, hs, hp0, hu0⟩
        have hI1 : NI Z nn D := hI
        rw [← show G_70 nn gg C me f u b 1 1 cnt 0 0 0 D K A Y = F_70 nn gg C me f u b D K A Y from bnN_eq (cl_eq hcnt hu) (eq_ifF cc1 (eq_ifF cc2 (eq_ifF cc3 (rfl))))]
        exact key _ _ cnt 0 0 _ h D K A Y (by omega) (by omega) hS1 hI1

/-! listed for every state -/

set_option maxRecDepth 100000 in
theorem s_70 {L : Nat} {xs : Nat → Int32} {fr lo : Nat} {Z : ZT} {n nd nn gg : Nat} {C me : Int32} {f : Nat → Int32} {q : Nat} {u b : Nat → Int32} {uv : Int32} {h0 h : ax_H} {D : Nat → Nat → Int32} {K A : Int64}  (hfr : 4 ≤ fr) (hlo : 130 ≤ lo) (hC : CS n nd nn gg f) (hS : NS Z n nd nn gg C me f q u b uv h0 h D K A) (hI : NI Z nn D) (hu : inR 281 (u 7)) : ax_M L xs 70 fr lo [.ref (nd + 7), .ref (n + 1 + 1 + 2 * q)] h (fun r h' => r = none ∧ PS Z n nd nn gg C me f q u b uv h0 h' (fun D' K' => True)) := by
  have hC0 := hC
  obtain ⟨cnt, hcnt, hu⟩ := hu
  have key : ∀ (s2 s3 : Int32) (k i d : Nat) (y4 : Int32) (h : ax_H) (D : Nat → Nat → Int32) (K A : Int64), i + k = cnt → d ≤ i → NS Z n nd nn gg C me f q u b uv h0 h D K A → NI Z nn D → ax_A (ax_step L xs) ((70, 55, fr, lo), [(0, .ref (nd + 7)), (1, .ref (n + 1 + 1 + 2 * q)), (2, .int s2), (3, .int s3), (4, .int y4), (5, .int (nI d)), (6, .int (nI i))], [], h) (fun r h' => r = none ∧ PS Z n nd nn gg C me f q u b uv h0 h' (fun D' K' => True)) := by
    intro s2 s3 k
    induction k with
    | zero =>
      intro i d y4 h D K A hi hd hS hI
      have e0 : i = cnt := by omega
      subst e0
      obtain ⟨hnd, hn0, hnn3, hnn, hgg1, hgg, hRg⟩ := hC
      obtain ⟨hF, hN, hf, hn, hs, hp0, hu0⟩ := hS
      replace hF : ax_hs h [cNd n nd me D, cDk nd D, cAr nd 2 35840 D, cAr nd 3 4096 D, cAr nd 4 32 D, cAr nd 5 280 D, cAr nd 6 280 D, cLd n nd me D A, cAr nd 8 16 D, cAr nd 9 280 D, cTb nd gg D K, cAr nd 11 48 D, cAr nd 12 48 D, cAr nd 13 48 D, cAr nd 14 2400 D, cAr nd 15 512 D, cAr nd 16 961 D, cAr nd 17 961 D, cWk nd D, cWa nd D, cAr nd 20 612 D, cAr nd 21 1152 D, cRk n nn gg C, cOr n nn gg f] := hF
      refine ar_iload 57 d_70_55 rfl rfl ?_
      refine ar_aload_n 58 d_70_57 rfl rfl ?_
      refine ar_getf 61 d_70_58 rfl (ci := 2) (k := 7) rfl hN.mgc rfl ?_
      refine ar_icmp_ge 150 64 d_70_61 (by decide) rfl (fun _ => ?_) (fun c => absurd (by rw [hu]; exact Int32.le_refl _) c)
      refine ar_iload 152 d_70_150 rfl rfl ?_
      refine ar_if_le 205 155 d_70_152 (by decide) rfl (fun cc1 => ?_) (fun cc1 => ?_)
      · refine ar_aload_n 206 d_70_205 rfl rfl ?_
        refine ar_getf 209 d_70_206 rfl (ci := 2) (k := 6) rfl hN.mgc rfl ?_
        refine ar_if_ne 216 212 d_70_209 (by decide) rfl (fun cc2 => ?_) (fun cc2 => ?_)
        · refine ar_iconst 217 (v := 0) d_70_216 rfl (by decide) ?_
          refine ar_istore 219 [(0, .ref (nd + 7)), (1, .ref (n + 1 + 1 + 2 * q)), (2, .int s2), (3, .int s3), (4, .int y4), (5, .int (nI d)), (6, .int 0)] d_70_217 rfl (by decide) rfl ?_
          refine ar_aload_n 220 d_70_219 rfl rfl ?_
          refine ar_aload_n 221 d_70_220 rfl rfl ?_
          refine ar_getf 224 d_70_221 rfl (ci := 2) (k := 1) rfl hN.mgc rfl ?_
          refine ar_iload_n 225 d_70_224 rfl rfl ?_
          refine ar_if_eq 246 228 d_70_225 (by decide) rfl (fun cc3 => ?_) (fun cc3 => ?_)
          · refine ar_iconst 247 (v := 0) d_70_246 rfl (by decide) ?_
            refine ar_call (r := []) (na := 0) (kd := 0) (cm := 82) (fr2 := fr - 1) (lo2 := lo - 22) 250 d_70_247 (ar_hoV (as := [.int (u 1), .int 0]) rfl rfl rfl (hF.at 7 rfl)) rfl (by omega) (show lo - 22 + (19 + 3) = lo by omega) (Nat.le_of_ble_eq_true rfl) (Nat.le_of_ble_eq_true rfl) (c_82S (hF.at 7 rfl)) ?_
            intro v hh hq
            obtain ⟨rfl, cl4, rfl⟩ := hq
            replace hF : ax_hs (ax_put h (nd + 7) (.inr (9, [.int me, .ref (n + 264), .ref n, .ref (nd + 10), .ref (nd + 18), .ref (nd + 8), .ref (nd + 9), .int (D 7 7), .int (D 7 8), .int (D 7 9), .int cl4, .long A, .int (D 7 12), .int (D 7 13), .int (D 7 14)]))) [cNd n nd me D, cDk nd D, cAr nd 2 35840 D, cAr nd 3 4096 D, cAr nd 4 32 D, cAr nd 5 280 D, cAr nd 6 280 D, (nd + 7, .inr (9, [.int me, .ref (n + 264), .ref n, .ref (nd + 10), .ref (nd + 18), .ref (nd + 8), .ref (nd + 9), .int (D 7 7), .int (D 7 8), .int (D 7 9), .int cl4, .long A, .int (D 7 12), .int (D 7 13), .int (D 7 14)])), cAr nd 8 16 D, cAr nd 9 280 D, cTb nd gg D K, cAr nd 11 48 D, cAr nd 12 48 D, cAr nd 13 48 D, cAr nd 14 2400 D, cAr nd 15 512 D, cAr nd 16 961 D, cAr nd 17 961 D, cWk nd D, cWa nd D, cAr nd 20 612 D, cAr nd 21 1152 D, cRk n nn gg C, cOr n nn gg f] := hF.put 7 _ rfl rfl
            replace hf := hf.put (a := nd + 7) (c := .inr (9, [.int me, .ref (n + 264), .ref n, .ref (nd + 10), .ref (nd + 18), .ref (nd + 8), .ref (nd + 9), .int (D 7 7), .int (D 7 8), .int (D 7 9), .int cl4, .long A, .int (D 7 12), .int (D 7 13), .int (D 7 14)])) (Or.inr (by omega))
            replace hN := hN.put (a := nd + 7) (c := .inr (9, [.int me, .ref (n + 264), .ref n, .ref (nd + 10), .ref (nd + 18), .ref (nd + 8), .ref (nd + 9), .int (D 7 7), .int (D 7 8), .int (D 7 9), .int cl4, .long A, .int (D 7 12), .int (D 7 13), .int (D 7 14)])) (by omega)
            replace hn : (ax_put h (nd + 7) (.inr (9, [.int me, .ref (n + 264), .ref n, .ref (nd + 10), .ref (nd + 18), .ref (nd + 8), .ref (nd + 9), .int (D 7 7), .int (D 7 8), .int (D 7 9), .int cl4, .long A, .int (D 7 12), .int (D 7 13), .int (D 7 14)]))).1 = h0.1 := hn
            replace hs : (ax_put h (nd + 7) (.inr (9, [.int me, .ref (n + 264), .ref n, .ref (nd + 10), .ref (nd + 18), .ref (nd + 8), .ref (nd + 9), .int (D 7 7), .int (D 7 8), .int (D 7 9), .int cl4, .long A, .int (D 7 12), .int (D 7 13), .int (D 7 14)]))).2.1 = h0.2.1 := hs
            generalize ax_put h (nd + 7) (.inr (9, [.int me, .ref (n + 264), .ref n, .ref (nd + 10), .ref (nd + 18), .ref (nd + 8), .ref (nd + 9), .int (D 7 7), .int (D 7 8), .int (D 7 9), .int cl4, .long A, .int (D 7 12), .int (D 7 13), .int (D 7 14)])) = hp_5 at hF hf hN hn hs ⊢
            have hS9 : NS Z n nd nn gg C me f q u b uv h0 hp_5 (va_up D 7 (upd (D 7) 10 cl4)) K A := ⟨hF, hN, hf, hn, hs, hp0, hu0⟩
            have hI9 : NI Z nn (va_up D 7 (upd (D 7) 10 cl4)) := hI
            exact ar_ret d_70_250 rfl (⟨rfl, _, _, _, hS9, hI9, trivial⟩)
          · refine ar_iload 230 d_70_228 rfl rfl ?_
            refine ar_if_eq 246 233 d_70_230 (by decide) rfl (fun _ => ?_) (fun c => absurd (by decide) c)
            refine ar_iconst 247 (v := 0) d_70_246 rfl (by decide) ?_
            refine ar_call (r := []) (na := 0) (kd := 0) (cm := 82) (fr2 := fr - 1) (lo2 := lo - 22) 250 d_70_247 (ar_hoV (as := [.int (u 1), .int 0]) rfl rfl rfl (hF.at 7 rfl)) rfl (by omega) (show lo - 22 + (19 + 3) = lo by omega) (Nat.le_of_ble_eq_true rfl) (Nat.le_of_ble_eq_true rfl) (c_82S (hF.at 7 rfl)) ?_
            intro v hh hq
            obtain ⟨rfl, cl6, rfl⟩ := hq
            replace hF : ax_hs (ax_put h (nd + 7) (.inr (9, [.int me, .ref (n + 264), .ref n, .ref (nd + 10), .ref (nd + 18), .ref (nd + 8), .ref (nd + 9), .int (D 7 7), .int (D 7 8), .int (D 7 9), .int cl6, .long A, .int (D 7 12), .int (D 7 13), .int (D 7 14)]))) [cNd n nd me D, cDk nd D, cAr nd 2 35840 D, cAr nd 3 4096 D, cAr nd 4 32 D, cAr nd 5 280 D, cAr nd 6 280 D, (nd + 7, .inr (9, [.int me, .ref (n + 264), .ref n, .ref (nd + 10), .ref (nd + 18), .ref (nd + 8), .ref (nd + 9), .int (D 7 7), .int (D 7 8), .int (D 7 9), .int cl6, .long A, .int (D 7 12), .int (D 7 13), .int (D 7 14)])), cAr nd 8 16 D, cAr nd 9 280 D, cTb nd gg D K, cAr nd 11 48 D, cAr nd 12 48 D, cAr nd 13 48 D, cAr nd 14 2400 D, cAr nd 15 512 D, cAr nd 16 961 D, cAr nd 17 961 D, cWk nd D, cWa nd D, cAr nd 20 612 D, cAr nd 21 1152 D, cRk n nn gg C, cOr n nn gg f] := hF.put 7 _ rfl rfl
            replace hf := hf.put (a := nd + 7) (c := .inr (9, [.int me, .ref (n + 264), .ref n, .ref (nd + 10), .ref (nd + 18), .ref (nd + 8), .ref (nd + 9), .int (D 7 7), .int (D 7 8), .int (D 7 9), .int cl6, .long A, .int (D 7 12), .int (D 7 13), .int (D 7 14)])) (Or.inr (by omega))
            replace hN := hN.put (a := nd + 7) (c := .inr (9, [.int me, .ref (n + 264), .ref n, .ref (nd + 10), .ref (nd + 18), .ref (nd + 8), .ref (nd + 9), .int (D 7 7), .int (D 7 8), .int (D 7 9), .int cl6, .long A, .int (D 7 12), .int (D 7 13), .int (D 7 14)])) (by omega)
            replace hn : (ax_put h (nd + 7) (.inr (9, [.int me, .ref (n + 264), .ref n, .ref (nd + 10), .ref (nd + 18), .ref (nd + 8), .ref (nd + 9), .int (D 7 7), .int (D 7 8), .int (D 7 9), .int cl6, .long A, .int (D 7 12), .int (D 7 13), .int (D 7 14)]))).1 = h0.1 := hn
            replace hs : (ax_put h (nd + 7) (.inr (9, [.int me, .ref (n + 264), .ref n, .ref (nd + 10), .ref (nd + 18), .ref (nd + 8), .ref (nd + 9), .int (D 7 7), .int (D 7 8), .int (D 7 9), .int cl6, .long A, .int (D 7 12), .int (D 7 13), .int (D 7 14)]))).2.1 = h0.2.1 := hs
            generalize ax_put h (nd + 7) (.inr (9, [.int me, .ref (n + 264), .ref n, .ref (nd + 10), .ref (nd + 18), .ref (nd + 8), .ref (nd + 9), .int (D 7 7), .int (D 7 8), .int (D 7 9), .int cl6, .long A, .int (D 7 12), .int (D 7 13), .int (D 7 14)])) = hp_7 at hF hf hN hn hs ⊢
            have hS9 : NS Z n nd nn gg C me f q u b uv h0 hp_7 (va_up D 7 (upd (D 7) 10 cl6)) K A := ⟨hF, hN, hf, hn, hs, hp0, hu0⟩
            have hI9 : NI Z nn (va_up D 7 (upd (D 7) 10 cl6)) := hI
            exact ar_ret d_70_250 rfl (⟨rfl, _, _, _, hS9, hI9, trivial⟩)
        · refine ar_iconst 213 (v := 1) d_70_212 rfl (by decide) ?_
          refine ar_goto 217 d_70_213 (by decide) ?_
          refine ar_istore 219 [(0, .ref (nd + 7)), (1, .ref (n + 1 + 1 + 2 * q)), (2, .int s2), (3, .int s3), (4, .int y4), (5, .int (nI d)), (6, .int 1)] d_70_217 rfl (by decide) rfl ?_
          refine ar_aload_n 220 d_70_219 rfl rfl ?_
          refine ar_aload_n 221 d_70_220 rfl rfl ?_
          refine ar_getf 224 d_70_221 rfl (ci := 2) (k := 1) rfl hN.mgc rfl ?_
          refine ar_iload_n 225 d_70_224 rfl rfl ?_
          refine ar_if_eq 246 228 d_70_225 (by decide) rfl (fun cc8 => ?_) (fun cc8 => ?_)
          · refine ar_iconst 247 (v := 0) d_70_246 rfl (by decide) ?_
            refine ar_call (r := []) (na := 0) (kd := 0) (cm := 82) (fr2 := fr - 1) (lo2 := lo - 22) 250 d_70_247 (ar_hoV (as := [.int (u 1), .int 0]) rfl rfl rfl (hF.at 7 rfl)) rfl (by omega) (show lo - 22 + (19 + 3) = lo by omega) (Nat.le_of_ble_eq_true rfl) (Nat.le_of_ble_eq_true rfl) (c_82S (hF.at 7 rfl)) ?_
            intro v hh hq
            obtain ⟨rfl, cl9, rfl⟩ := hq
            replace hF : ax_hs (ax_put h (nd + 7) (.inr (9, [.int me, .ref (n + 264), .ref n, .ref (nd + 10), .ref (nd + 18), .ref (nd + 8), .ref (nd + 9), .int (D 7 7), .int (D 7 8), .int (D 7 9), .int cl9, .long A, .int (D 7 12), .int (D 7 13), .int (D 7 14)]))) [cNd n nd me D, cDk nd D, cAr nd 2 35840 D, cAr nd 3 4096 D, cAr nd 4 32 D, cAr nd 5 280 D, cAr nd 6 280 D, (nd + 7, .inr (9, [.int me, .ref (n + 264), .ref n, .ref (nd + 10), .ref (nd + 18), .ref (nd + 8), .ref (nd + 9), .int (D 7 7), .int (D 7 8), .int (D 7 9), .int cl9, .long A, .int (D 7 12), .int (D 7 13), .int (D 7 14)])), cAr nd 8 16 D, cAr nd 9 280 D, cTb nd gg D K, cAr nd 11 48 D, cAr nd 12 48 D, cAr nd 13 48 D, cAr nd 14 2400 D, cAr nd 15 512 D, cAr nd 16 961 D, cAr nd 17 961 D, cWk nd D, cWa nd D, cAr nd 20 612 D, cAr nd 21 1152 D, cRk n nn gg C, cOr n nn gg f] := hF.put 7 _ rfl rfl
            replace hf := hf.put (a := nd + 7) (c := .inr (9, [.int me, .ref (n + 264), .ref n, .ref (nd + 10), .ref (nd + 18), .ref (nd + 8), .ref (nd + 9), .int (D 7 7), .int (D 7 8), .int (D 7 9), .int cl9, .long A, .int (D 7 12), .int (D 7 13), .int (D 7 14)])) (Or.inr (by omega))
            replace hN := hN.put (a := nd + 7) (c := .inr (9, [.int me, .ref (n + 264), .ref n, .ref (nd + 10), .ref (nd + 18), .ref (nd + 8), .ref (nd + 9), .int (D 7 7), .int (D 7 8), .int (D 7 9), .int cl9, .long A, .int (D 7 12), .int (D 7 13), .int (D 7 14)])) (by omega)
            replace hn : (ax_put h (nd + 7) (.inr (9, [.int me, .ref (n + 264), .ref n, .ref (nd + 10), .ref (nd + 18), .ref (nd + 8), .ref (nd + 9), .int (D 7 7), .int (D 7 8), .int (D 7 9), .int cl9, .long A, .int (D 7 12), .int (D 7 13), .int (D 7 14)]))).1 = h0.1 := hn
            replace hs : (ax_put h (nd + 7) (.inr (9, [.int me, .ref (n + 264), .ref n, .ref (nd + 10), .ref (nd + 18), .ref (nd + 8), .ref (nd + 9), .int (D 7 7), .int (D 7 8), .int (D 7 9), .int cl9, .long A, .int (D 7 12), .int (D 7 13), .int (D 7 14)]))).2.1 = h0.2.1 := hs
            generalize ax_put h (nd + 7) (.inr (9, [.int me, .ref (n + 264), .ref n, .ref (nd + 10), .ref (nd + 18), .ref (nd + 8), .ref (nd + 9), .int (D 7 7), .int (D 7 8), .int (D 7 9), .int cl9, .long A, .int (D 7 12), .int (D 7 13), .int (D 7 14)])) = hp_10 at hF hf hN hn hs ⊢
            have hS9 : NS Z n nd nn gg C me f q u b uv h0 hp_10 (va_up D 7 (upd (D 7) 10 cl9)) K A := ⟨hF, hN, hf, hn, hs, hp0, hu0⟩
            have hI9 : NI Z nn (va_up D 7 (upd (D 7) 10 cl9)) := hI
            exact ar_ret d_70_250 rfl (⟨rfl, _, _, _, hS9, hI9, trivial⟩)
          · refine ar_iload 230 d_70_228 rfl rfl ?_
            refine ar_if_eq 246 233 d_70_230 (by decide) rfl (fun c => absurd c (by decide)) (fun _ => ?_)
            refine ar_iload 235 d_70_233 rfl rfl ?_
            refine ar_aload_n 236 d_70_235 rfl rfl ?_
            refine ar_getf 239 d_70_236 rfl (ci := 2) (k := 7) rfl hN.mgc rfl ?_
            refine ar_icmp_ne 246 242 d_70_239 (by decide) rfl (fun cc11 => ?_) (fun cc11 => ?_)
            · refine ar_iconst 247 (v := 0) d_70_246 rfl (by decide) ?_
              refine ar_call (r := []) (na := 0) (kd := 0) (cm := 82) (fr2 := fr - 1) (lo2 := lo - 22) 250 d_70_247 (ar_hoV (as := [.int (u 1), .int 0]) rfl rfl rfl (hF.at 7 rfl)) rfl (by omega) (show lo - 22 + (19 + 3) = lo by omega) (Nat.le_of_ble_eq_true rfl) (Nat.le_of_ble_eq_true rfl) (c_82S (hF.at 7 rfl)) ?_
              intro v hh hq
              obtain ⟨rfl, cl12, rfl⟩ := hq
              replace hF : ax_hs (ax_put h (nd + 7) (.inr (9, [.int me, .ref (n + 264), .ref n, .ref (nd + 10), .ref (nd + 18), .ref (nd + 8), .ref (nd + 9), .int (D 7 7), .int (D 7 8), .int (D 7 9), .int cl12, .long A, .int (D 7 12), .int (D 7 13), .int (D 7 14)]))) [cNd n nd me D, cDk nd D, cAr nd 2 35840 D, cAr nd 3 4096 D, cAr nd 4 32 D, cAr nd 5 280 D, cAr nd 6 280 D, (nd + 7, .inr (9, [.int me, .ref (n + 264), .ref n, .ref (nd + 10), .ref (nd + 18), .ref (nd + 8), .ref (nd + 9), .int (D 7 7), .int (D 7 8), .int (D 7 9), .int cl12, .long A, .int (D 7 12), .int (D 7 13), .int (D 7 14)])), cAr nd 8 16 D, cAr nd 9 280 D, cTb nd gg D K, cAr nd 11 48 D, cAr nd 12 48 D, cAr nd 13 48 D, cAr nd 14 2400 D, cAr nd 15 512 D, cAr nd 16 961 D, cAr nd 17 961 D, cWk nd D, cWa nd D, cAr nd 20 612 D, cAr nd 21 1152 D, cRk n nn gg C, cOr n nn gg f] := hF.put 7 _ rfl rfl
              replace hf := hf.put (a := nd + 7) (c := .inr (9, [.int me, .ref (n + 264), .ref n, .ref (nd + 10), .ref (nd + 18), .ref (nd + 8), .ref (nd + 9), .int (D 7 7), .int (D 7 8), .int (D 7 9), .int cl12, .long A, .int (D 7 12), .int (D 7 13), .int (D 7 14)])) (Or.inr (by omega))
              replace hN := hN.put (a := nd + 7) (c := .inr (9, [.int me, .ref (n + 264), .ref n, .ref (nd + 10), .ref (nd + 18), .ref (nd + 8), .ref (nd + 9), .int (D 7 7), .int (D 7 8), .int (D 7 9), .int cl12, .long A, .int (D 7 12), .int (D 7 13), .int (D 7 14)])) (by omega)
              replace hn : (ax_put h (nd + 7) (.inr (9, [.int me, .ref (n + 264), .ref n, .ref (nd + 10), .ref (nd + 18), .ref (nd + 8), .ref (nd + 9), .int (D 7 7), .int (D 7 8), .int (D 7 9), .int cl12, .long A, .int (D 7 12), .int (D 7 13), .int (D 7 14)]))).1 = h0.1 := hn
              replace hs : (ax_put h (nd + 7) (.inr (9, [.int me, .ref (n + 264), .ref n, .ref (nd + 10), .ref (nd + 18), .ref (nd + 8), .ref (nd + 9), .int (D 7 7), .int (D 7 8), .int (D 7 9), .int cl12, .long A, .int (D 7 12), .int (D 7 13), .int (D 7 14)]))).2.1 = h0.2.1 := hs
              generalize ax_put h (nd + 7) (.inr (9, [.int me, .ref (n + 264), .ref n, .ref (nd + 10), .ref (nd + 18), .ref (nd + 8), .ref (nd + 9), .int (D 7 7), .int (D 7 8), .int (D 7 9), .int cl12, .long A, .int (D 7 12), .int (D 7 13), .int (D 7 14)])) = hp_13 at hF hf hN hn hs ⊢
              have hS9 : NS Z n nd nn gg C me f q u b uv h0 hp_13 (va_up D 7 (upd (D 7) 10 cl12)) K A := ⟨hF, hN, hf, hn, hs, hp0, hu0⟩
              have hI9 : NI Z nn (va_up D 7 (upd (D 7) 10 cl12)) := hI
              exact ar_ret d_70_250 rfl (⟨rfl, _, _, _, hS9, hI9, trivial⟩)
            · refine ar_iconst 243 (v := 1) d_70_242 rfl (by decide) ?_
              refine ar_goto 247 d_70_243 (by decide) ?_
              refine ar_call (r := []) (na := 0) (kd := 0) (cm := 82) (fr2 := fr - 1) (lo2 := lo - 22) 250 d_70_247 (ar_hoV (as := [.int (u 1), .int 1]) rfl rfl rfl (hF.at 7 rfl)) rfl (by omega) (show lo - 22 + (19 + 3) = lo by omega) (Nat.le_of_ble_eq_true rfl) (Nat.le_of_ble_eq_true rfl) (c_82S (hF.at 7 rfl)) ?_
              intro v hh hq
              obtain ⟨rfl, cl14, rfl⟩ := hq
              replace hF : ax_hs (ax_put h (nd + 7) (.inr (9, [.int me, .ref (n + 264), .ref n, .ref (nd + 10), .ref (nd + 18), .ref (nd + 8), .ref (nd + 9), .int (D 7 7), .int (D 7 8), .int (D 7 9), .int cl14, .long A, .int (D 7 12), .int (D 7 13), .int (D 7 14)]))) [cNd n nd me D, cDk nd D, cAr nd 2 35840 D, cAr nd 3 4096 D, cAr nd 4 32 D, cAr nd 5 280 D, cAr nd 6 280 D, (nd + 7, .inr (9, [.int me, .ref (n + 264), .ref n, .ref (nd + 10), .ref (nd + 18), .ref (nd + 8), .ref (nd + 9), .int (D 7 7), .int (D 7 8), .int (D 7 9), .int cl14, .long A, .int (D 7 12), .int (D 7 13), .int (D 7 14)])), cAr nd 8 16 D, cAr nd 9 280 D, cTb nd gg D K, cAr nd 11 48 D, cAr nd 12 48 D, cAr nd 13 48 D, cAr nd 14 2400 D, cAr nd 15 512 D, cAr nd 16 961 D, cAr nd 17 961 D, cWk nd D, cWa nd D, cAr nd 20 612 D, cAr nd 21 1152 D, cRk n nn gg C, cOr n nn gg f] := hF.put 7 _ rfl rfl
              replace hf := hf.put (a := nd + 7) (c := .inr (9, [.int me, .ref (n + 264), .ref n, .ref (nd + 10), .ref (nd + 18), .ref (nd + 8), .ref (nd + 9), .int (D 7 7), .int (D 7 8), .int (D 7 9), .int cl14, .long A, .int (D 7 12), .int (D 7 13), .int (D 7 14)])) (Or.inr (by omega))
              replace hN := hN.put (a := nd + 7) (c := .inr (9, [.int me, .ref (n + 264), .ref n, .ref (nd + 10), .ref (nd + 18), .ref (nd + 8), .ref (nd + 9), .int (D 7 7), .int (D 7 8), .int (D 7 9), .int cl14, .long A, .int (D 7 12), .int (D 7 13), .int (D 7 14)])) (by omega)
              replace hn : (ax_put h (nd + 7) (.inr (9, [.int me, .ref (n + 264), .ref n, .ref (nd + 10), .ref (nd + 18), .ref (nd + 8), .ref (nd + 9), .int (D 7 7), .int (D 7 8), .int (D 7 9), .int cl14, .long A, .int (D 7 12), .int (D 7 13), .int (D 7 14)]))).1 = h0.1 := hn
              replace hs : (ax_put h (nd + 7) (.inr (9, [.int me, .ref (n + 264), .ref n, .ref (nd + 10), .ref (nd + 18), .ref (nd + 8), .ref (nd + 9), .int (D 7 7), .int (D 7 8), .int (D 7 9), .int cl14, .long A, .int (D 7 12), .int (D 7 13), .int (D 7 14)]))).2.1 = h0.2.1 := hs
              generalize ax_put h (nd + 7) (.inr (9, [.int me, .ref (n + 264), .ref n, .ref (nd + 10), .ref (nd + 18), .ref (nd + 8), .ref (nd + 9), .int (D 7 7), .int (D 7 8), .int (D 7 9), .int cl14, .long A, .int (D 7 12), .int (D 7 13), .int (D 7 14)])) = hp_15 at hF hf hN hn hs ⊢
              have hS9 : NS Z n nd nn gg C me f q u b uv h0 hp_15 (va_up D 7 (upd (D 7) 10 cl14)) K A := ⟨hF, hN, hf, hn, hs, hp0, hu0⟩
              have hI9 : NI Z nn (va_up D 7 (upd (D 7) 10 cl14)) := hI
              exact ar_ret d_70_250 rfl (⟨rfl, _, _, _, hS9, hI9, trivial⟩)
      · refine ar_aload_n 156 d_70_155 rfl rfl ?_
        refine ar_getf 159 d_70_156 rfl (ci := 9) (k := 2) rfl (hF.at 7 rfl) rfl ?_
        refine ar_bipush 161 (v := 12) d_70_159 rfl (by decide) ?_
        refine ar_aload_n 162 d_70_161 rfl rfl ?_
        refine ar_getf 165 d_70_162 rfl (ci := 9) (k := 0) rfl (hF.at 7 rfl) rfl ?_
        refine ar_aload_n 166 d_70_165 rfl rfl ?_
        refine ar_getf 169 d_70_166 rfl (ci := 2) (k := 1) rfl hN.mgc rfl ?_
        refine ar_aload_n 170 d_70_169 rfl rfl ?_
        refine ar_getf 173 d_70_170 rfl (ci := 9) (k := 7) rfl (hF.at 7 rfl) rfl ?_
        refine ar_aload_n 174 d_70_173 rfl rfl ?_
        refine ar_getf 177 d_70_174 rfl (ci := 9) (k := 8) rfl (hF.at 7 rfl) rfl ?_
        obtain ⟨zk, za, zc, hnet⟩ := hN.net
        refine ar_call (r := []) (na := 0) (kd := 0) (cm := 36) (fr2 := fr - 1) (lo2 := lo - 26) 180 d_70_177 (ar_hoV (as := [.int 12, .int me, .int (u 1), .int (D 7 7), .int (D 7 8)]) rfl rfl rfl hnet) rfl (by omega) (show lo - 26 + (19 + 7) = lo by omega) (Nat.le_of_ble_eq_true rfl) (Nat.le_of_ble_eq_true rfl) (hN.post) ?_
        intro v hp_16 hq
        obtain ⟨m, bm, hm, hmq, rfl, hmm, hed, hf2, hz1, hz2⟩ := hq
        have hNm : NTA n (n + 1) (n + 1 + 1 + 2 * m) := Or.inr (by omega)
        have hNm1 : NTA n (n + 1) (n + 1 + 1 + 2 * m + 1) := Or.inr (by omega)
        replace hF : ax_hs hp_16 [cNd n nd me D, cDk nd D, cAr nd 2 35840 D, cAr nd 3 4096 D, cAr nd 4 32 D, cAr nd 5 280 D, cAr nd 6 280 D, cLd n nd me D A, cAr nd 8 16 D, cAr nd 9 280 D, cTb nd gg D K, cAr nd 11 48 D, cAr nd 12 48 D, cAr nd 13 48 D, cAr nd 14 2400 D, cAr nd 15 512 D, cAr nd 16 961 D, cAr nd 17 961 D, cWk nd D, cWa nd D, cAr nd 20 612 D, cAr nd 21 1152 D, cRk n nn gg C, cOr n nn gg f] := hF.fr hf2 (far (n := n) (nd := nd) rfl hnd)
        replace hF : ax_hs hp_16 [(n + 1 + 1 + 2 * m, .inr (2, [.int 12, .int me, .int (u 1), .int (D 7 7), .int (D 7 8), .int (-1), .int 0, .int 0, .ref (n + 1 + 1 + 2 * m + 1)])), (n + 1 + 1 + 2 * m + 1, .inl (0, 617, .inl bm)), cNd n nd me D, cDk nd D, cAr nd 2 35840 D, cAr nd 3 4096 D, cAr nd 4 32 D, cAr nd 5 280 D, cAr nd 6 280 D, cLd n nd me D A, cAr nd 8 16 D, cAr nd 9 280 D, cTb nd gg D K, cAr nd 11 48 D, cAr nd 12 48 D, cAr nd 13 48 D, cAr nd 14 2400 D, cAr nd 15 512 D, cAr nd 16 961 D, cAr nd 17 961 D, cWk nd D, cWa nd D, cAr nd 20 612 D, cAr nd 21 1152 D, cRk n nn gg C, cOr n nn gg f] := hF.msg (far (n := n) (nd := nd) rfl hnd) hm hmm
        replace hf := hf.trC hf2 (fun _ _ z => Or.inl z)
        replace hn : hp_16.1 = h0.1 := by omega
        replace hs : hp_16.2.1 = h0.2.1 := by omega
        have hfm : ax_fr (fun x => x = n + 1 + 1 + 2 * m ∨ x = n + 1 + 1 + 2 * m + 1) hp_16 hp_16 := ax_fr.rf
        clear hN hnet hf2 hz1 hz2 hmm
        refine ar_astore 182 [(0, .ref (nd + 7)), (1, .ref (n + 1 + 1 + 2 * q)), (2, .int s2), (3, .int s3), (4, .int y4), (5, .int (nI d)), (6, .ref (n + 1 + 1 + 2 * m))] d_70_180 rfl (by decide) rfl ?_
        refine ar_aload 184 d_70_182 rfl rfl ?_
        refine ar_iload 186 d_70_184 rfl rfl ?_
        refine ar_putf 189 [.int 12, .int me, .int (u 1), .int (D 7 7), .int (D 7 8), .int (-1), .int 0, .int (nI d), .ref (n + 1 + 1 + 2 * m + 1)] d_70_186 rfl (ci := 2) (k := 7) rfl rfl (hF.at 0 rfl) (Nat.le_of_ble_eq_true rfl) rfl rfl rfl ?_
        replace hF : ax_hs (ax_put hp_16 (n + 1 + 1 + 2 * m) (.inr (2, [.int 12, .int me, .int (u 1), .int (D 7 7), .int (D 7 8), .int (-1), .int 0, .int (nI d), .ref (n + 1 + 1 + 2 * m + 1)]))) [(n + 1 + 1 + 2 * m, .inr (2, [.int 12, .int me, .int (u 1), .int (D 7 7), .int (D 7 8), .int (-1), .int 0, .int (nI d), .ref (n + 1 + 1 + 2 * m + 1)])), (n + 1 + 1 + 2 * m + 1, .inl (0, 617, .inl bm)), cNd n nd me D, cDk nd D, cAr nd 2 35840 D, cAr nd 3 4096 D, cAr nd 4 32 D, cAr nd 5 280 D, cAr nd 6 280 D, cLd n nd me D A, cAr nd 8 16 D, cAr nd 9 280 D, cTb nd gg D K, cAr nd 11 48 D, cAr nd 12 48 D, cAr nd 13 48 D, cAr nd 14 2400 D, cAr nd 15 512 D, cAr nd 16 961 D, cAr nd 17 961 D, cWk nd D, cWa nd D, cAr nd 20 612 D, cAr nd 21 1152 D, cRk n nn gg C, cOr n nn gg f] := hF.put 0 _ rfl rfl
        replace hf := hf.put (a := n + 1 + 1 + 2 * m) (c := .inr (2, [.int 12, .int me, .int (u 1), .int (D 7 7), .int (D 7 8), .int (-1), .int 0, .int (nI d), .ref (n + 1 + 1 + 2 * m + 1)])) (Or.inl hNm)
        replace hfm := hfm.put (a := n + 1 + 1 + 2 * m) (c := .inr (2, [.int 12, .int me, .int (u 1), .int (D 7 7), .int (D 7 8), .int (-1), .int 0, .int (nI d), .ref (n + 1 + 1 + 2 * m + 1)])) (Or.inl rfl)
        replace hn : (ax_put hp_16 (n + 1 + 1 + 2 * m) (.inr (2, [.int 12, .int me, .int (u 1), .int (D 7 7), .int (D 7 8), .int (-1), .int 0, .int (nI d), .ref (n + 1 + 1 + 2 * m + 1)]))).1 = h0.1 := hn
        replace hs : (ax_put hp_16 (n + 1 + 1 + 2 * m) (.inr (2, [.int 12, .int me, .int (u 1), .int (D 7 7), .int (D 7 8), .int (-1), .int 0, .int (nI d), .ref (n + 1 + 1 + 2 * m + 1)]))).2.1 = h0.2.1 := hs
        generalize ax_put hp_16 (n + 1 + 1 + 2 * m) (.inr (2, [.int 12, .int me, .int (u 1), .int (D 7 7), .int (D 7 8), .int (-1), .int 0, .int (nI d), .ref (n + 1 + 1 + 2 * m + 1)])) = hp_17 at hF hf hfm hn hs ⊢
        refine ar_aload_n 190 d_70_189 rfl rfl ?_
        refine ar_getf 193 d_70_190 rfl (ci := 9) (k := 6) rfl (hF.at 9 rfl) rfl ?_
        refine ar_iconst 194 (v := 0) d_70_193 rfl (by decide) ?_
        refine ar_aload 196 d_70_194 rfl rfl ?_
        refine ar_getf 199 d_70_196 rfl (ci := 2) (k := 8) rfl (hF.at 0 rfl) rfl ?_
        refine ar_iconst 200 (v := 0) d_70_199 rfl (by decide) ?_
        refine ar_iload 202 d_70_200 rfl rfl ?_
        refine ar_copy 205 d_70_202 rfl rfl (by omega) (by show 0 + (nativeFrameWords "java/lang/System" "arraycopy" 5 + 11) ≤ lo; rw [nfw_copy]; omega) (hF.at 11 rfl) (hF.at 1 rfl) (by decide) (by decide) (Int32.not_lt.mpr (nI_le (Nat.zero_le _) (by omega))) (by rw [nI_clamp (by omega)]; show 0 + d ≤ 280; omega) (by rw [nI_clamp (by omega)]; show 0 + d ≤ 617; omega) ?_
        replace hF : ax_hs (ax_put hp_17 (n + 1 + 1 + 2 * m + 1) (.inl (0, 617, .inl (va_cpy (D 9) bm ((0 : Int32).toNatClampNeg) ((0 : Int32).toNatClampNeg) ((nI d).toNatClampNeg))))) [(n + 1 + 1 + 2 * m, .inr (2, [.int 12, .int me, .int (u 1), .int (D 7 7), .int (D 7 8), .int (-1), .int 0, .int (nI d), .ref (n + 1 + 1 + 2 * m + 1)])), (n + 1 + 1 + 2 * m + 1, .inl (0, 617, .inl (va_cpy (D 9) bm ((0 : Int32).toNatClampNeg) ((0 : Int32).toNatClampNeg) ((nI d).toNatClampNeg)))), cNd n nd me D, cDk nd D, cAr nd 2 35840 D, cAr nd 3 4096 D, cAr nd 4 32 D, cAr nd 5 280 D, cAr nd 6 280 D, cLd n nd me D A, cAr nd 8 16 D, cAr nd 9 280 D, cTb nd gg D K, cAr nd 11 48 D, cAr nd 12 48 D, cAr nd 13 48 D, cAr nd 14 2400 D, cAr nd 15 512 D, cAr nd 16 961 D, cAr nd 17 961 D, cWk nd D, cWa nd D, cAr nd 20 612 D, cAr nd 21 1152 D, cRk n nn gg C, cOr n nn gg f] := hF.put 1 _ rfl rfl
        replace hf := hf.put (a := n + 1 + 1 + 2 * m + 1) (c := .inl (0, 617, .inl (va_cpy (D 9) bm ((0 : Int32).toNatClampNeg) ((0 : Int32).toNatClampNeg) ((nI d).toNatClampNeg)))) (Or.inl hNm1)
        replace hfm := hfm.put (a := n + 1 + 1 + 2 * m + 1) (c := .inl (0, 617, .inl (va_cpy (D 9) bm ((0 : Int32).toNatClampNeg) ((0 : Int32).toNatClampNeg) ((nI d).toNatClampNeg)))) (Or.inr rfl)
        replace hn : (ax_put hp_17 (n + 1 + 1 + 2 * m + 1) (.inl (0, 617, .inl (va_cpy (D 9) bm ((0 : Int32).toNatClampNeg) ((0 : Int32).toNatClampNeg) ((nI d).toNatClampNeg))))).1 = h0.1 := hn
        replace hs : (ax_put hp_17 (n + 1 + 1 + 2 * m + 1) (.inl (0, 617, .inl (va_cpy (D 9) bm ((0 : Int32).toNatClampNeg) ((0 : Int32).toNatClampNeg) ((nI d).toNatClampNeg))))).2.1 = h0.2.1 := hs
        generalize ax_put hp_17 (n + 1 + 1 + 2 * m + 1) (.inl (0, 617, .inl (va_cpy (D 9) bm ((0 : Int32).toNatClampNeg) ((0 : Int32).toNatClampNeg) ((nI d).toNatClampNeg)))) = hp_18 at hF hf hfm hn hs ⊢
        have hN : NeT Z hp_18 n q u b := hed _ (va_up (mg 12 me (u 1) (D 7 7) (D 7 8)) 7 (nI d)) (va_cpy (D 9) bm ((0 : Int32).toNatClampNeg) ((0 : Int32).toNatClampNeg) ((nI d).toNatClampNeg)) hfm ⟨hF.at 0 rfl, hF.at 1 rfl⟩ (MI.cnt (Or.inr (Or.inr rfl)) ⟨d, by omega, rfl⟩)
        replace hF := hF.sub (F' := [cNd n nd me D, cDk nd D, cAr nd 2 35840 D, cAr nd 3 4096 D, cAr nd 4 32 D, cAr nd 5 280 D, cAr nd 6 280 D, cLd n nd me D A, cAr nd 8 16 D, cAr nd 9 280 D, cTb nd gg D K, cAr nd 11 48 D, cAr nd 12 48 D, cAr nd 13 48 D, cAr nd 14 2400 D, cAr nd 15 512 D, cAr nd 16 961 D, cAr nd 17 961 D, cWk nd D, cWa nd D, cAr nd 20 612 D, cAr nd 21 1152 D, cRk n nn gg C, cOr n nn gg f]) [2, 3, 4, 5, 6, 7, 8, 9, 10, 11, 12, 13, 14, 15, 16, 17, 18, 19, 20, 21, 22, 23, 24, 25] rfl rfl
        clear hed hfm hNm hNm1 hm hmq
        refine ar_aload_n 206 d_70_205 rfl rfl ?_
        refine ar_getf 209 d_70_206 rfl (ci := 2) (k := 6) rfl hN.mgc rfl ?_
        refine ar_if_ne 216 212 d_70_209 (by decide) rfl (fun cc19 => ?_) (fun cc19 => ?_)
        · refine ar_iconst 217 (v := 0) d_70_216 rfl (by decide) ?_
          refine ar_istore 219 [(0, .ref (nd + 7)), (1, .ref (n + 1 + 1 + 2 * q)), (2, .int s2), (3, .int s3), (4, .int y4), (5, .int (nI d)), (6, .int 0)] d_70_217 rfl (by decide) rfl ?_
          refine ar_aload_n 220 d_70_219 rfl rfl ?_
          refine ar_aload_n 221 d_70_220 rfl rfl ?_
          refine ar_getf 224 d_70_221 rfl (ci := 2) (k := 1) rfl hN.mgc rfl ?_
          refine ar_iload_n 225 d_70_224 rfl rfl ?_
          refine ar_if_eq 246 228 d_70_225 (by decide) rfl (fun cc20 => ?_) (fun cc20 => ?_)
          · refine ar_iconst 247 (v := 0) d_70_246 rfl (by decide) ?_
            refine ar_call (r := []) (na := 0) (kd := 0) (cm := 82) (fr2 := fr - 1) (lo2 := lo - 22) 250 d_70_247 (ar_hoV (as := [.int (u 1), .int 0]) rfl rfl rfl (hF.at 7 rfl)) rfl (by omega) (show lo - 22 + (19 + 3) = lo by omega) (Nat.le_of_ble_eq_true rfl) (Nat.le_of_ble_eq_true rfl) (c_82S (hF.at 7 rfl)) ?_
            intro v hh hq
            obtain ⟨rfl, cl21, rfl⟩ := hq
            replace hF : ax_hs (ax_put hp_18 (nd + 7) (.inr (9, [.int me, .ref (n + 264), .ref n, .ref (nd + 10), .ref (nd + 18), .ref (nd + 8), .ref (nd + 9), .int (D 7 7), .int (D 7 8), .int (D 7 9), .int cl21, .long A, .int (D 7 12), .int (D 7 13), .int (D 7 14)]))) [cNd n nd me D, cDk nd D, cAr nd 2 35840 D, cAr nd 3 4096 D, cAr nd 4 32 D, cAr nd 5 280 D, cAr nd 6 280 D, (nd + 7, .inr (9, [.int me, .ref (n + 264), .ref n, .ref (nd + 10), .ref (nd + 18), .ref (nd + 8), .ref (nd + 9), .int (D 7 7), .int (D 7 8), .int (D 7 9), .int cl21, .long A, .int (D 7 12), .int (D 7 13), .int (D 7 14)])), cAr nd 8 16 D, cAr nd 9 280 D, cTb nd gg D K, cAr nd 11 48 D, cAr nd 12 48 D, cAr nd 13 48 D, cAr nd 14 2400 D, cAr nd 15 512 D, cAr nd 16 961 D, cAr nd 17 961 D, cWk nd D, cWa nd D, cAr nd 20 612 D, cAr nd 21 1152 D, cRk n nn gg C, cOr n nn gg f] := hF.put 7 _ rfl rfl
            replace hf := hf.put (a := nd + 7) (c := .inr (9, [.int me, .ref (n + 264), .ref n, .ref (nd + 10), .ref (nd + 18), .ref (nd + 8), .ref (nd + 9), .int (D 7 7), .int (D 7 8), .int (D 7 9), .int cl21, .long A, .int (D 7 12), .int (D 7 13), .int (D 7 14)])) (Or.inr (by omega))
            replace hN := hN.put (a := nd + 7) (c := .inr (9, [.int me, .ref (n + 264), .ref n, .ref (nd + 10), .ref (nd + 18), .ref (nd + 8), .ref (nd + 9), .int (D 7 7), .int (D 7 8), .int (D 7 9), .int cl21, .long A, .int (D 7 12), .int (D 7 13), .int (D 7 14)])) (by omega)
            replace hn : (ax_put hp_18 (nd + 7) (.inr (9, [.int me, .ref (n + 264), .ref n, .ref (nd + 10), .ref (nd + 18), .ref (nd + 8), .ref (nd + 9), .int (D 7 7), .int (D 7 8), .int (D 7 9), .int cl21, .long A, .int (D 7 12), .int (D 7 13), .int (D 7 14)]))).1 = h0.1 := hn
            replace hs : (ax_put hp_18 (nd + 7) (.inr (9, [.int me, .ref (n + 264), .ref n, .ref (nd + 10), .ref (nd + 18), .ref (nd + 8), .ref (nd + 9), .int (D 7 7), .int (D 7 8), .int (D 7 9), .int cl21, .long A, .int (D 7 12), .int (D 7 13), .int (D 7 14)]))).2.1 = h0.2.1 := hs
            generalize ax_put hp_18 (nd + 7) (.inr (9, [.int me, .ref (n + 264), .ref n, .ref (nd + 10), .ref (nd + 18), .ref (nd + 8), .ref (nd + 9), .int (D 7 7), .int (D 7 8), .int (D 7 9), .int cl21, .long A, .int (D 7 12), .int (D 7 13), .int (D 7 14)])) = hp_22 at hF hf hN hn hs ⊢
            have hS9 : NS Z n nd nn gg C me f q u b uv h0 hp_22 (va_up D 7 (upd (D 7) 10 cl21)) K A := ⟨hF, hN, hf, hn, hs, hp0, hu0⟩
            have hI9 : NI Z nn (va_up D 7 (upd (D 7) 10 cl21)) := hI
            exact ar_ret d_70_250 rfl (⟨rfl, _, _, _, hS9, hI9, trivial⟩)
          · refine ar_iload 230 d_70_228 rfl rfl ?_
            refine ar_if_eq 246 233 d_70_230 (by decide) rfl (fun _ => ?_) (fun c => absurd (by decide) c)
            refine ar_iconst 247 (v := 0) d_70_246 rfl (by decide) ?_
            refine ar_call (r := []) (na := 0) (kd := 0) (cm := 82) (fr2 := fr - 1) (lo2 := lo - 22) 250 d_70_247 (ar_hoV (as := [.int (u 1), .int 0]) rfl rfl rfl (hF.at 7 rfl)) rfl (by omega) (show lo - 22 + (19 + 3) = lo by omega) (Nat.le_of_ble_eq_true rfl) (Nat.le_of_ble_eq_true rfl) (c_82S (hF.at 7 rfl)) ?_
            intro v hh hq
            obtain ⟨rfl, cl23, rfl⟩ := hq
            replace hF : ax_hs (ax_put hp_18 (nd + 7) (.inr (9, [.int me, .ref (n + 264), .ref n, .ref (nd + 10), .ref (nd + 18), .ref (nd + 8), .ref (nd + 9), .int (D 7 7), .int (D 7 8), .int (D 7 9), .int cl23, .long A, .int (D 7 12), .int (D 7 13), .int (D 7 14)]))) [cNd n nd me D, cDk nd D, cAr nd 2 35840 D, cAr nd 3 4096 D, cAr nd 4 32 D, cAr nd 5 280 D, cAr nd 6 280 D, (nd + 7, .inr (9, [.int me, .ref (n + 264), .ref n, .ref (nd + 10), .ref (nd + 18), .ref (nd + 8), .ref (nd + 9), .int (D 7 7), .int (D 7 8), .int (D 7 9), .int cl23, .long A, .int (D 7 12), .int (D 7 13), .int (D 7 14)])), cAr nd 8 16 D, cAr nd 9 280 D, cTb nd gg D K, cAr nd 11 48 D, cAr nd 12 48 D, cAr nd 13 48 D, cAr nd 14 2400 D, cAr nd 15 512 D, cAr nd 16 961 D, cAr nd 17 961 D, cWk nd D, cWa nd D, cAr nd 20 612 D, cAr nd 21 1152 D, cRk n nn gg C, cOr n nn gg f] := hF.put 7 _ rfl rfl
            replace hf := hf.put (a := nd + 7) (c := .inr (9, [.int me, .ref (n + 264), .ref n, .ref (nd + 10), .ref (nd + 18), .ref (nd + 8), .ref (nd + 9), .int (D 7 7), .int (D 7 8), .int (D 7 9), .int cl23, .long A, .int (D 7 12), .int (D 7 13), .int (D 7 14)])) (Or.inr (by omega))
            replace hN := hN.put (a := nd + 7) (c := .inr (9, [.int me, .ref (n + 264), .ref n, .ref (nd + 10), .ref (nd + 18), .ref (nd + 8), .ref (nd + 9), .int (D 7 7), .int (D 7 8), .int (D 7 9), .int cl23, .long A, .int (D 7 12), .int (D 7 13), .int (D 7 14)])) (by omega)
            replace hn : (ax_put hp_18 (nd + 7) (.inr (9, [.int me, .ref (n + 264), .ref n, .ref (nd + 10), .ref (nd + 18), .ref (nd + 8), .ref (nd + 9), .int (D 7 7), .int (D 7 8), .int (D 7 9), .int cl23, .long A, .int (D 7 12), .int (D 7 13), .int (D 7 14)]))).1 = h0.1 := hn
            replace hs : (ax_put hp_18 (nd + 7) (.inr (9, [.int me, .ref (n + 264), .ref n, .ref (nd + 10), .ref (nd + 18), .ref (nd + 8), .ref (nd + 9), .int (D 7 7), .int (D 7 8), .int (D 7 9), .int cl23, .long A, .int (D 7 12), .int (D 7 13), .int (D 7 14)]))).2.1 = h0.2.1 := hs
            generalize ax_put hp_18 (nd + 7) (.inr (9, [.int me, .ref (n + 264), .ref n, .ref (nd + 10), .ref (nd + 18), .ref (nd + 8), .ref (nd + 9), .int (D 7 7), .int (D 7 8), .int (D 7 9), .int cl23, .long A, .int (D 7 12), .int (D 7 13), .int (D 7 14)])) = hp_24 at hF hf hN hn hs ⊢
            have hS9 : NS Z n nd nn gg C me f q u b uv h0 hp_24 (va_up D 7 (upd (D 7) 10 cl23)) K A := ⟨hF, hN, hf, hn, hs, hp0, hu0⟩
            have hI9 : NI Z nn (va_up D 7 (upd (D 7) 10 cl23)) := hI
            exact ar_ret d_70_250 rfl (⟨rfl, _, _, _, hS9, hI9, trivial⟩)
        · refine ar_iconst 213 (v := 1) d_70_212 rfl (by decide) ?_
          refine ar_goto 217 d_70_213 (by decide) ?_
          refine ar_istore 219 [(0, .ref (nd + 7)), (1, .ref (n + 1 + 1 + 2 * q)), (2, .int s2), (3, .int s3), (4, .int y4), (5, .int (nI d)), (6, .int 1)] d_70_217 rfl (by decide) rfl ?_
          refine ar_aload_n 220 d_70_219 rfl rfl ?_
          refine ar_aload_n 221 d_70_220 rfl rfl ?_
          refine ar_getf 224 d_70_221 rfl (ci := 2) (k := 1) rfl hN.mgc rfl ?_
          refine ar_iload_n 225 d_70_224 rfl rfl ?_
          refine ar_if_eq 246 228 d_70_225 (by decide) rfl (fun cc25 => ?_) (fun cc25 => ?_)
          · refine ar_iconst 247 (v := 0) d_70_246 rfl (by decide) ?_
            refine ar_call (r := []) (na := 0) (kd := 0) (cm := 82) (fr2 := fr - 1) (lo2 := lo - 22) 250 d_70_247 (ar_hoV (as := [.int (u 1), .int 0]) rfl rfl rfl (hF.at 7 rfl)) rfl (by omega) (show lo - 22 + (19 + 3) = lo by omega) (Nat.le_of_ble_eq_true rfl) (Nat.le_of_ble_eq_true rfl) (c_82S (hF.at 7 rfl)) ?_
            intro v hh hq
            obtain ⟨rfl, cl26, rfl⟩ := hq
            replace hF : ax_hs (ax_put hp_18 (nd + 7) (.inr (9, [.int me, .ref (n + 264), .ref n, .ref (nd + 10), .ref (nd + 18), .ref (nd + 8), .ref (nd + 9), .int (D 7 7), .int (D 7 8), .int (D 7 9), .int cl26, .long A, .int (D 7 12), .int (D 7 13), .int (D 7 14)]))) [cNd n nd me D, cDk nd D, cAr nd 2 35840 D, cAr nd 3 4096 D, cAr nd 4 32 D, cAr nd 5 280 D, cAr nd 6 280 D, (nd + 7, .inr (9, [.int me, .ref (n + 264), .ref n, .ref (nd + 10), .ref (nd + 18), .ref (nd + 8), .ref (nd + 9), .int (D 7 7), .int (D 7 8), .int (D 7 9), .int cl26, .long A, .int (D 7 12), .int (D 7 13), .int (D 7 14)])), cAr nd 8 16 D, cAr nd 9 280 D, cTb nd gg D K, cAr nd 11 48 D, cAr nd 12 48 D, cAr nd 13 48 D, cAr nd 14 2400 D, cAr nd 15 512 D, cAr nd 16 961 D, cAr nd 17 961 D, cWk nd D, cWa nd D, cAr nd 20 612 D, cAr nd 21 1152 D, cRk n nn gg C, cOr n nn gg f] := hF.put 7 _ rfl rfl
            replace hf := hf.put (a := nd + 7) (c := .inr (9, [.int me, .ref (n + 264), .ref n, .ref (nd + 10), .ref (nd + 18), .ref (nd + 8), .ref (nd + 9), .int (D 7 7), .int (D 7 8), .int (D 7 9), .int cl26, .long A, .int (D 7 12), .int (D 7 13), .int (D 7 14)])) (Or.inr (by omega))
            replace hN := hN.put (a := nd + 7) (c := .inr (9, [.int me, .ref (n + 264), .ref n, .ref (nd + 10), .ref (nd + 18), .ref (nd + 8), .ref (nd + 9), .int (D 7 7), .int (D 7 8), .int (D 7 9), .int cl26, .long A, .int (D 7 12), .int (D 7 13), .int (D 7 14)])) (by omega)
            replace hn : (ax_put hp_18 (nd + 7) (.inr (9, [.int me, .ref (n + 264), .ref n, .ref (nd + 10), .ref (nd + 18), .ref (nd + 8), .ref (nd + 9), .int (D 7 7), .int (D 7 8), .int (D 7 9), .int cl26, .long A, .int (D 7 12), .int (D 7 13), .int (D 7 14)]))).1 = h0.1 := hn
            replace hs : (ax_put hp_18 (nd + 7) (.inr (9, [.int me, .ref (n + 264), .ref n, .ref (nd + 10), .ref (nd + 18), .ref (nd + 8), .ref (nd + 9), .int (D 7 7), .int (D 7 8), .int (D 7 9), .int cl26, .long A, .int (D 7 12), .int (D 7 13), .int (D 7 14)]))).2.1 = h0.2.1 := hs
            generalize ax_put hp_18 (nd + 7) (.inr (9, [.int me, .ref (n + 264), .ref n, .ref (nd + 10), .ref (nd + 18), .ref (nd + 8), .ref (nd + 9), .int (D 7 7), .int (D 7 8), .int (D 7 9), .int cl26, .long A, .int (D 7 12), .int (D 7 13), .int (D 7 14)])) = hp_27 at hF hf hN hn hs ⊢
            have hS9 : NS Z n nd nn gg C me f q u b uv h0 hp_27 (va_up D 7 (upd (D 7) 10 cl26)) K A := ⟨hF, hN, hf, hn, hs, hp0, hu0⟩
            have hI9 : NI Z nn (va_up D 7 (upd (D 7) 10 cl26)) := hI
            exact ar_ret d_70_250 rfl (⟨rfl, _, _, _, hS9, hI9, trivial⟩)
          · refine ar_iload 230 d_70_228 rfl rfl ?_
            refine ar_if_eq 246 233 d_70_230 (by decide) rfl (fun c => absurd c (by decide)) (fun _ => ?_)
            refine ar_iload 235 d_70_233 rfl rfl ?_
            refine ar_aload_n 236 d_70_235 rfl rfl ?_
            refine ar_getf 239 d_70_236 rfl (ci := 2) (k := 7) rfl hN.mgc rfl ?_
            refine ar_icmp_ne 246 242 d_70_239 (by decide) rfl (fun cc28 => ?_) (fun cc28 => ?_)
            · refine ar_iconst 247 (v := 0) d_70_246 rfl (by decide) ?_
              refine ar_call (r := []) (na := 0) (kd := 0) (cm := 82) (fr2 := fr - 1) (lo2 := lo - 22) 250 d_70_247 (ar_hoV (as := [.int (u 1), .int 0]) rfl rfl rfl (hF.at 7 rfl)) rfl (by omega) (show lo - 22 + (19 + 3) = lo by omega) (Nat.le_of_ble_eq_true rfl) (Nat.le_of_ble_eq_true rfl) (c_82S (hF.at 7 rfl)) ?_
              intro v hh hq
              obtain ⟨rfl, cl29, rfl⟩ := hq
              replace hF : ax_hs (ax_put hp_18 (nd + 7) (.inr (9, [.int me, .ref (n + 264), .ref n, .ref (nd + 10), .ref (nd + 18), .ref (nd + 8), .ref (nd + 9), .int (D 7 7), .int (D 7 8), .int (D 7 9), .int cl29, .long A, .int (D 7 12), .int (D 7 13), .int (D 7 14)]))) [cNd n nd me D, cDk nd D, cAr nd 2 35840 D, cAr nd 3 4096 D, cAr nd 4 32 D, cAr nd 5 280 D, cAr nd 6 280 D, (nd + 7, .inr (9, [.int me, .ref (n + 264), .ref n, .ref (nd + 10), .ref (nd + 18), .ref (nd + 8), .ref (nd + 9), .int (D 7 7), .int (D 7 8), .int (D 7 9), .int cl29, .long A, .int (D 7 12), .int (D 7 13), .int (D 7 14)])), cAr nd 8 16 D, cAr nd 9 280 D, cTb nd gg D K, cAr nd 11 48 D, cAr nd 12 48 D, cAr nd 13 48 D, cAr nd 14 2400 D, cAr nd 15 512 D, cAr nd 16 961 D, cAr nd 17 961 D, cWk nd D, cWa nd D, cAr nd 20 612 D, cAr nd 21 1152 D, cRk n nn gg C, cOr n nn gg f] := hF.put 7 _ rfl rfl
              replace hf := hf.put (a := nd + 7) (c := .inr (9, [.int me, .ref (n + 264), .ref n, .ref (nd + 10), .ref (nd + 18), .ref (nd + 8), .ref (nd + 9), .int (D 7 7), .int (D 7 8), .int (D 7 9), .int cl29, .long A, .int (D 7 12), .int (D 7 13), .int (D 7 14)])) (Or.inr (by omega))
              replace hN := hN.put (a := nd + 7) (c := .inr (9, [.int me, .ref (n + 264), .ref n, .ref (nd + 10), .ref (nd + 18), .ref (nd + 8), .ref (nd + 9), .int (D 7 7), .int (D 7 8), .int (D 7 9), .int cl29, .long A, .int (D 7 12), .int (D 7 13), .int (D 7 14)])) (by omega)
              replace hn : (ax_put hp_18 (nd + 7) (.inr (9, [.int me, .ref (n + 264), .ref n, .ref (nd + 10), .ref (nd + 18), .ref (nd + 8), .ref (nd + 9), .int (D 7 7), .int (D 7 8), .int (D 7 9), .int cl29, .long A, .int (D 7 12), .int (D 7 13), .int (D 7 14)]))).1 = h0.1 := hn
              replace hs : (ax_put hp_18 (nd + 7) (.inr (9, [.int me, .ref (n + 264), .ref n, .ref (nd + 10), .ref (nd + 18), .ref (nd + 8), .ref (nd + 9), .int (D 7 7), .int (D 7 8), .int (D 7 9), .int cl29, .long A, .int (D 7 12), .int (D 7 13), .int (D 7 14)]))).2.1 = h0.2.1 := hs
              generalize ax_put hp_18 (nd + 7) (.inr (9, [.int me, .ref (n + 264), .ref n, .ref (nd + 10), .ref (nd + 18), .ref (nd + 8), .ref (nd + 9), .int (D 7 7), .int (D 7 8), .int (D 7 9), .int cl29, .long A, .int (D 7 12), .int (D 7 13), .int (D 7 14)])) = hp_30 at hF hf hN hn hs ⊢
              have hS9 : NS Z n nd nn gg C me f q u b uv h0 hp_30 (va_up D 7 (upd (D 7) 10 cl29)) K A := ⟨hF, hN, hf, hn, hs, hp0, hu0⟩
              have hI9 : NI Z nn (va_up D 7 (upd (D 7) 10 cl29)) := hI
              exact ar_ret d_70_250 rfl (⟨rfl, _, _, _, hS9, hI9, trivial⟩)
            · refine ar_iconst 243 (v := 1) d_70_242 rfl (by decide) ?_
              refine ar_goto 247 d_70_243 (by decide) ?_
              refine ar_call (r := []) (na := 0) (kd := 0) (cm := 82) (fr2 := fr - 1) (lo2 := lo - 22) 250 d_70_247 (ar_hoV (as := [.int (u 1), .int 1]) rfl rfl rfl (hF.at 7 rfl)) rfl (by omega) (show lo - 22 + (19 + 3) = lo by omega) (Nat.le_of_ble_eq_true rfl) (Nat.le_of_ble_eq_true rfl) (c_82S (hF.at 7 rfl)) ?_
              intro v hh hq
              obtain ⟨rfl, cl31, rfl⟩ := hq
              replace hF : ax_hs (ax_put hp_18 (nd + 7) (.inr (9, [.int me, .ref (n + 264), .ref n, .ref (nd + 10), .ref (nd + 18), .ref (nd + 8), .ref (nd + 9), .int (D 7 7), .int (D 7 8), .int (D 7 9), .int cl31, .long A, .int (D 7 12), .int (D 7 13), .int (D 7 14)]))) [cNd n nd me D, cDk nd D, cAr nd 2 35840 D, cAr nd 3 4096 D, cAr nd 4 32 D, cAr nd 5 280 D, cAr nd 6 280 D, (nd + 7, .inr (9, [.int me, .ref (n + 264), .ref n, .ref (nd + 10), .ref (nd + 18), .ref (nd + 8), .ref (nd + 9), .int (D 7 7), .int (D 7 8), .int (D 7 9), .int cl31, .long A, .int (D 7 12), .int (D 7 13), .int (D 7 14)])), cAr nd 8 16 D, cAr nd 9 280 D, cTb nd gg D K, cAr nd 11 48 D, cAr nd 12 48 D, cAr nd 13 48 D, cAr nd 14 2400 D, cAr nd 15 512 D, cAr nd 16 961 D, cAr nd 17 961 D, cWk nd D, cWa nd D, cAr nd 20 612 D, cAr nd 21 1152 D, cRk n nn gg C, cOr n nn gg f] := hF.put 7 _ rfl rfl
              replace hf := hf.put (a := nd + 7) (c := .inr (9, [.int me, .ref (n + 264), .ref n, .ref (nd + 10), .ref (nd + 18), .ref (nd + 8), .ref (nd + 9), .int (D 7 7), .int (D 7 8), .int (D 7 9), .int cl31, .long A, .int (D 7 12), .int (D 7 13), .int (D 7 14)])) (Or.inr (by omega))
              replace hN := hN.put (a := nd + 7) (c := .inr (9, [.int me, .ref (n + 264), .ref n, .ref (nd + 10), .ref (nd + 18), .ref (nd + 8), .ref (nd + 9), .int (D 7 7), .int (D 7 8), .int (D 7 9), .int cl31, .long A, .int (D 7 12), .int (D 7 13), .int (D 7 14)])) (by omega)
              replace hn : (ax_put hp_18 (nd + 7) (.inr (9, [.int me, .ref (n + 264), .ref n, .ref (nd + 10), .ref (nd + 18), .ref (nd + 8), .ref (nd + 9), .int (D 7 7), .int (D 7 8), .int (D 7 9), .int cl31, .long A, .int (D 7 12), .int (D 7 13), .int (D 7 14)]))).1 = h0.1 := hn
              replace hs : (ax_put hp_18 (nd + 7) (.inr (9, [.int me, .ref (n + 264), .ref n, .ref (nd + 10), .ref (nd + 18), .ref (nd + 8), .ref (nd + 9), .int (D 7 7), .int (D 7 8), .int (D 7 9), .int cl31, .long A, .int (D 7 12), .int (D 7 13), .int (D 7 14)]))).2.1 = h0.2.1 := hs
              generalize ax_put hp_18 (nd + 7) (.inr (9, [.int me, .ref (n + 264), .ref n, .ref (nd + 10), .ref (nd + 18), .ref (nd + 8), .ref (nd + 9), .int (D 7 7), .int (D 7 8), .int (D 7 9), .int cl31, .long A, .int (D 7 12), .int (D 7 13), .int (D 7 14)])) = hp_32 at hF hf hN hn hs ⊢
              have hS9 : NS Z n nd nn gg C me f q u b uv h0 hp_32 (va_up D 7 (upd (D 7) 10 cl31)) K A := ⟨hF, hN, hf, hn, hs, hp0, hu0⟩
              have hI9 : NI Z nn (va_up D 7 (upd (D 7) 10 cl31)) := hI
              exact ar_ret d_70_250 rfl (⟨rfl, _, _, _, hS9, hI9, trivial⟩)
    | succ k ih =>
      intro i d y4 h D K A hi hd hS hI
      have hic : i < cnt := by omega
      obtain ⟨hnd, hn0, hnn3, hnn, hgg1, hgg, hRg⟩ := hC
      obtain ⟨hF, hN, hf, hn, hs, hp0, hu0⟩ := hS
      replace hF : ax_hs h [cNd n nd me D, cDk nd D, cAr nd 2 35840 D, cAr nd 3 4096 D, cAr nd 4 32 D, cAr nd 5 280 D, cAr nd 6 280 D, cLd n nd me D A, cAr nd 8 16 D, cAr nd 9 280 D, cTb nd gg D K, cAr nd 11 48 D, cAr nd 12 48 D, cAr nd 13 48 D, cAr nd 14 2400 D, cAr nd 15 512 D, cAr nd 16 961 D, cAr nd 17 961 D, cWk nd D, cWa nd D, cAr nd 20 612 D, cAr nd 21 1152 D, cRk n nn gg C, cOr n nn gg f] := hF
      refine ar_iload 57 d_70_55 rfl rfl ?_
      refine ar_aload_n 58 d_70_57 rfl rfl ?_
      refine ar_getf 61 d_70_58 rfl (ci := 2) (k := 7) rfl hN.mgc rfl ?_
      refine ar_icmp_ge 150 64 d_70_61 (by decide) rfl (fun c => absurd c (by rw [hu]; exact nI_ge hic (by omega))) (fun _ => ?_)
      refine ar_aload_n 65 d_70_64 rfl rfl ?_
      refine ar_aload_n 66 d_70_65 rfl rfl ?_
      refine ar_getf 69 d_70_66 rfl (ci := 2) (k := 8) rfl hN.mgc rfl ?_
      refine ar_iload 71 d_70_69 rfl rfl ?_
      refine ar_iald 72 d_70_71 rfl hN.mbc (vin (by omega) (by omega)) ?_
      refine ar_aload_n 73 d_70_72 rfl rfl ?_
      refine ar_getf 76 d_70_73 rfl (ci := 2) (k := 1) rfl hN.mgc rfl ?_
      have hS1 : NS Z n nd nn gg C me f q u b uv h0 h D K A := ⟨hF, hN, hf, hn, hs, hp0, hu0⟩
      have hI1 : NI Z nn D := hI
      refine ar_call (r := []) (na := 0) (kd := 0) (cm := 76) (fr2 := fr - 1) (lo2 := lo - 24) 79 d_70_76 (ar_hoV (as := [.int (b (nI i).toNatClampNeg), .int (u 1)]) rfl rfl rfl (hF.at 7 rfl)) rfl (by omega) (show lo - 24 + (19 + 5) = lo by omega) (Nat.le_of_ble_eq_true rfl) (Nat.le_of_ble_eq_true rfl) (s_76 (by omega) (by omega) hC0 hS1 hI1) ?_
      intro v hp_34 hq
      obtain ⟨y33, rfl, D34, K34, A34, hS2, hI2, -⟩ := hq
      clear hS1 hI1 hF hN hf hn hs hp0 hu0
      obtain ⟨hF, hN, hf, hn, hs, hp0, hu0⟩ := hS2
      replace hF : ax_hs hp_34 [cNd n nd me D34, cDk nd D34, cAr nd 2 35840 D34, cAr nd 3 4096 D34, cAr nd 4 32 D34, cAr nd 5 280 D34, cAr nd 6 280 D34, cLd n nd me D34 A34, cAr nd 8 16 D34, cAr nd 9 280 D34, cTb nd gg D34 K34, cAr nd 11 48 D34, cAr nd 12 48 D34, cAr nd 13 48 D34, cAr nd 14 2400 D34, cAr nd 15 512 D34, cAr nd 16 961 D34, cAr nd 17 961 D34, cWk nd D34, cWa nd D34, cAr nd 20 612 D34, cAr nd 21 1152 D34, cRk n nn gg C, cOr n nn gg f] := hF
      have hI34 := hI2
      clear hI2
      refine ar_istore 81 [(0, .ref (nd + 7)), (1, .ref (n + 1 + 1 + 2 * q)), (2, .int s2), (3, .int s3), (4, .int y4), (5, .int (nI d)), (6, .int (nI i)), (7, .int y33)] d_70_79 rfl (by decide) rfl ?_
      refine ar_iload 83 d_70_81 rfl rfl ?_
      refine ar_if_ne 92 86 d_70_83 (by decide) rfl (fun cc35 => ?_) (fun cc35 => ?_)
      · refine ar_iload 94 d_70_92 rfl rfl ?_
        refine ar_iconst 95 (v := 1) d_70_94 rfl (by decide) ?_
        refine ar_icmp_ne 119 98 d_70_95 (by decide) rfl (fun cc36 => ?_) (fun cc36 => ?_)
        · refine ar_iload 121 d_70_119 rfl rfl ?_
          refine ar_iconst 122 (v := 2) d_70_121 rfl (by decide) ?_
          refine ar_icmp_eq 129 125 d_70_122 (by decide) rfl (fun cc37 => ?_) (fun cc37 => ?_)
          · refine ar_aload_n 130 d_70_129 rfl rfl ?_
            refine ar_aload_n 131 d_70_130 rfl rfl ?_
            refine ar_getf 134 d_70_131 rfl (ci := 2) (k := 8) rfl hN.mgc rfl ?_
            refine ar_iload 136 d_70_134 rfl rfl ?_
            refine ar_iald 137 d_70_136 rfl hN.mbc (vin (by omega) (by omega)) ?_
            refine ar_aload_n 138 d_70_137 rfl rfl ?_
            refine ar_getf 141 d_70_138 rfl (ci := 2) (k := 1) rfl hN.mgc rfl ?_
            have hS1 : NS Z n nd nn gg C me f q u b uv h0 hp_34 D34 K34 A34 := ⟨hF, hN, hf, hn, hs, hp0, hu0⟩
            have hI1 : NI Z nn D34 := hI34
            refine ar_call (r := []) (na := 0) (kd := 0) (cm := 79) (fr2 := fr - 1) (lo2 := lo - 24) 144 d_70_141 (ar_hoV (as := [.int (b (nI i).toNatClampNeg), .int (u 1)]) rfl rfl rfl (hF.at 7 rfl)) rfl (by omega) (show lo - 24 + (19 + 5) = lo by omega) (Nat.le_of_ble_eq_true rfl) (Nat.le_of_ble_eq_true rfl) (s_79 (by omega) (by omega) hC0 hS1 hI1) ?_
            intro v hp_38 hq
            obtain ⟨rfl, D38, K38, A38, hS2, hI2, -⟩ := hq
            clear hS1 hI1 hF hN hf hn hs hp0 hu0
            obtain ⟨hF, hN, hf, hn, hs, hp0, hu0⟩ := hS2
            replace hF : ax_hs hp_38 [cNd n nd me D38, cDk nd D38, cAr nd 2 35840 D38, cAr nd 3 4096 D38, cAr nd 4 32 D38, cAr nd 5 280 D38, cAr nd 6 280 D38, cLd n nd me D38 A38, cAr nd 8 16 D38, cAr nd 9 280 D38, cTb nd gg D38 K38, cAr nd 11 48 D38, cAr nd 12 48 D38, cAr nd 13 48 D38, cAr nd 14 2400 D38, cAr nd 15 512 D38, cAr nd 16 961 D38, cAr nd 17 961 D38, cWk nd D38, cWa nd D38, cAr nd 20 612 D38, cAr nd 21 1152 D38, cRk n nn gg C, cOr n nn gg f] := hF
            have hI38 := hI2
            clear hI2
            refine ar_iinc 147 [(0, .ref (nd + 7)), (1, .ref (n + 1 + 1 + 2 * q)), (2, .int s2), (3, .int s3), (4, .int y4), (5, .int (nI d)), (6, .int (nI (i + 1))), (7, .int y33)] d_70_144 rfl rfl (nI_1 i) (by decide) rfl ?_
            refine ar_goto 55 d_70_147 (by decide) ?_
            refine ar_wk [0, 1, 2, 3, 4, 5, 6] rfl (by simp) ?_
            have hS1 : NS Z n nd nn gg C me f q u b uv h0 hp_38 D38 K38 A38 := ⟨hF, hN, hf, hn, hs, hp0, hu0⟩
            have hI1 : NI Z nn D38 := hI38
            exact ih (i + 1) d y4 hp_38 D38 K38 A38 (by omega) (by omega) hS1 hI1
          · refine ar_iload_n 126 d_70_125 rfl rfl ?_
            refine ar_if_ne 144 129 d_70_126 (by decide) rfl (fun cc39 => ?_) (fun cc39 => ?_)
            · refine ar_iinc 147 [(0, .ref (nd + 7)), (1, .ref (n + 1 + 1 + 2 * q)), (2, .int s2), (3, .int s3), (4, .int y4), (5, .int (nI d)), (6, .int (nI (i + 1))), (7, .int y33)] d_70_144 rfl rfl (nI_1 i) (by decide) rfl ?_
              refine ar_goto 55 d_70_147 (by decide) ?_
              refine ar_wk [0, 1, 2, 3, 4, 5, 6] rfl (by simp) ?_
              have hS1 : NS Z n nd nn gg C me f q u b uv h0 hp_34 D34 K34 A34 := ⟨hF, hN, hf, hn, hs, hp0, hu0⟩
              have hI1 : NI Z nn D34 := hI34
              exact ih (i + 1) d y4 hp_34 D34 K34 A34 (by omega) (by omega) hS1 hI1
            · refine ar_aload_n 130 d_70_129 rfl rfl ?_
              refine ar_aload_n 131 d_70_130 rfl rfl ?_
              refine ar_getf 134 d_70_131 rfl (ci := 2) (k := 8) rfl hN.mgc rfl ?_
              refine ar_iload 136 d_70_134 rfl rfl ?_
              refine ar_iald 137 d_70_136 rfl hN.mbc (vin (by omega) (by omega)) ?_
              refine ar_aload_n 138 d_70_137 rfl rfl ?_
              refine ar_getf 141 d_70_138 rfl (ci := 2) (k := 1) rfl hN.mgc rfl ?_
              have hS1 : NS Z n nd nn gg C me f q u b uv h0 hp_34 D34 K34 A34 := ⟨hF, hN, hf, hn, hs, hp0, hu0⟩
              have hI1 : NI Z nn D34 := hI34
              refine ar_call (r := []) (na := 0) (kd := 0) (cm := 79) (fr2 := fr - 1) (lo2 := lo - 24) 144 d_70_141 (ar_hoV (as := [.int (b (nI i).toNatClampNeg), .int (u 1)]) rfl rfl rfl (hF.at 7 rfl)) rfl (by omega) (show lo - 24 + (19 + 5) = lo by omega) (Nat.le_of_ble_eq_true rfl) (Nat.le_of_ble_eq_true rfl) (s_79 (by omega) (by omega) hC0 hS1 hI1) ?_
              intro v hp_40 hq
              obtain ⟨rfl, D40, K40, A40, hS2, hI2, -⟩ := hq
              clear hS1 hI1 hF hN hf hn hs hp0 hu0
              obtain ⟨hF, hN, hf, hn, hs, hp0, hu0⟩ := hS2
              replace hF : ax_hs hp_40 [cNd n nd me D40, cDk nd D40, cAr nd 2 35840 D40, cAr nd 3 4096 D40, cAr nd 4 32 D40, cAr nd 5 280 D40, cAr nd 6 280 D40, cLd n nd me D40 A40, cAr nd 8 16 D40, cAr nd 9 280 D40, cTb nd gg D40 K40, cAr nd 11 48 D40, cAr nd 12 48 D40, cAr nd 13 48 D40, cAr nd 14 2400 D40, cAr nd 15 512 D40, cAr nd 16 961 D40, cAr nd 17 961 D40, cWk nd D40, cWa nd D40, cAr nd 20 612 D40, cAr nd 21 1152 D40, cRk n nn gg C, cOr n nn gg f] := hF
              have hI40 := hI2
              clear hI2
              refine ar_iinc 147 [(0, .ref (nd + 7)), (1, .ref (n + 1 + 1 + 2 * q)), (2, .int s2), (3, .int s3), (4, .int y4), (5, .int (nI d)), (6, .int (nI (i + 1))), (7, .int y33)] d_70_144 rfl rfl (nI_1 i) (by decide) rfl ?_
              refine ar_goto 55 d_70_147 (by decide) ?_
              refine ar_wk [0, 1, 2, 3, 4, 5, 6] rfl (by simp) ?_
              have hS1 : NS Z n nd nn gg C me f q u b uv h0 hp_40 D40 K40 A40 := ⟨hF, hN, hf, hn, hs, hp0, hu0⟩
              have hI1 : NI Z nn D40 := hI40
              exact ih (i + 1) d y4 hp_40 D40 K40 A40 (by omega) (by omega) hS1 hI1
        · refine ar_iload_n 99 d_70_98 rfl rfl ?_
          refine ar_if_eq 119 102 d_70_99 (by decide) rfl (fun cc41 => ?_) (fun cc41 => ?_)
          · refine ar_iload 121 d_70_119 rfl rfl ?_
            refine ar_iconst 122 (v := 2) d_70_121 rfl (by decide) ?_
            refine ar_icmp_eq 129 125 d_70_122 (by decide) rfl (fun cc42 => ?_) (fun cc42 => ?_)
            · refine ar_aload_n 130 d_70_129 rfl rfl ?_
              refine ar_aload_n 131 d_70_130 rfl rfl ?_
              refine ar_getf 134 d_70_131 rfl (ci := 2) (k := 8) rfl hN.mgc rfl ?_
              refine ar_iload 136 d_70_134 rfl rfl ?_
              refine ar_iald 137 d_70_136 rfl hN.mbc (vin (by omega) (by omega)) ?_
              refine ar_aload_n 138 d_70_137 rfl rfl ?_
              refine ar_getf 141 d_70_138 rfl (ci := 2) (k := 1) rfl hN.mgc rfl ?_
              have hS1 : NS Z n nd nn gg C me f q u b uv h0 hp_34 D34 K34 A34 := ⟨hF, hN, hf, hn, hs, hp0, hu0⟩
              have hI1 : NI Z nn D34 := hI34
              refine ar_call (r := []) (na := 0) (kd := 0) (cm := 79) (fr2 := fr - 1) (lo2 := lo - 24) 144 d_70_141 (ar_hoV (as := [.int (b (nI i).toNatClampNeg), .int (u 1)]) rfl rfl rfl (hF.at 7 rfl)) rfl (by omega) (show lo - 24 + (19 + 5) = lo by omega) (Nat.le_of_ble_eq_true rfl) (Nat.le_of_ble_eq_true rfl) (s_79 (by omega) (by omega) hC0 hS1 hI1) ?_
              intro v hp_43 hq
              obtain ⟨rfl, D43, K43, A43, hS2, hI2, -⟩ := hq
              clear hS1 hI1 hF hN hf hn hs hp0 hu0
              obtain ⟨hF, hN, hf, hn, hs, hp0, hu0⟩ := hS2
              replace hF : ax_hs hp_43 [cNd n nd me D43, cDk nd D43, cAr nd 2 35840 D43, cAr nd 3 4096 D43, cAr nd 4 32 D43, cAr nd 5 280 D43, cAr nd 6 280 D43, cLd n nd me D43 A43, cAr nd 8 16 D43, cAr nd 9 280 D43, cTb nd gg D43 K43, cAr nd 11 48 D43, cAr nd 12 48 D43, cAr nd 13 48 D43, cAr nd 14 2400 D43, cAr nd 15 512 D43, cAr nd 16 961 D43, cAr nd 17 961 D43, cWk nd D43, cWa nd D43, cAr nd 20 612 D43, cAr nd 21 1152 D43, cRk n nn gg C, cOr n nn gg f] := hF
              have hI43 := hI2
              clear hI2
              refine ar_iinc 147 [(0, .ref (nd + 7)), (1, .ref (n + 1 + 1 + 2 * q)), (2, .int s2), (3, .int s3), (4, .int y4), (5, .int (nI d)), (6, .int (nI (i + 1))), (7, .int y33)] d_70_144 rfl rfl (nI_1 i) (by decide) rfl ?_
              refine ar_goto 55 d_70_147 (by decide) ?_
              refine ar_wk [0, 1, 2, 3, 4, 5, 6] rfl (by simp) ?_
              have hS1 : NS Z n nd nn gg C me f q u b uv h0 hp_43 D43 K43 A43 := ⟨hF, hN, hf, hn, hs, hp0, hu0⟩
              have hI1 : NI Z nn D43 := hI43
              exact ih (i + 1) d y4 hp_43 D43 K43 A43 (by omega) (by omega) hS1 hI1
            · refine ar_iload_n 126 d_70_125 rfl rfl ?_
              refine ar_if_ne 144 129 d_70_126 (by decide) rfl (fun cc44 => ?_) (fun cc44 => ?_)
              · refine ar_iinc 147 [(0, .ref (nd + 7)), (1, .ref (n + 1 + 1 + 2 * q)), (2, .int s2), (3, .int s3), (4, .int y4), (5, .int (nI d)), (6, .int (nI (i + 1))), (7, .int y33)] d_70_144 rfl rfl (nI_1 i) (by decide) rfl ?_
                refine ar_goto 55 d_70_147 (by decide) ?_
                refine ar_wk [0, 1, 2, 3, 4, 5, 6] rfl (by simp) ?_
                have hS1 : NS Z n nd nn gg C me f q u b uv h0 hp_34 D34 K34 A34 := ⟨hF, hN, hf, hn, hs, hp0, hu0⟩
                have hI1 : NI Z nn D34 := hI34
                exact ih (i + 1) d y4 hp_34 D34 K34 A34 (by omega) (by omega) hS1 hI1
              · refine ar_aload_n 130 d_70_129 rfl rfl ?_
                refine ar_aload_n 131 d_70_130 rfl rfl ?_
                refine ar_getf 134 d_70_131 rfl (ci := 2) (k := 8) rfl hN.mgc rfl ?_
                refine ar_iload 136 d_70_134 rfl rfl ?_
                refine ar_iald 137 d_70_136 rfl hN.mbc (vin (by omega) (by omega)) ?_
                refine ar_aload_n 138 d_70_137 rfl rfl ?_
                refine ar_getf 141 d_70_138 rfl (ci := 2) (k := 1) rfl hN.mgc rfl ?_
                have hS1 : NS Z n nd nn gg C me f q u b uv h0 hp_34 D34 K34 A34 := ⟨hF, hN, hf, hn, hs, hp0, hu0⟩
                have hI1 : NI Z nn D34 := hI34
                refine ar_call (r := []) (na := 0) (kd := 0) (cm := 79) (fr2 := fr - 1) (lo2 := lo - 24) 144 d_70_141 (ar_hoV (as := [.int (b (nI i).toNatClampNeg), .int (u 1)]) rfl rfl rfl (hF.at 7 rfl)) rfl (by omega) (show lo - 24 + (19 + 5) = lo by omega) (Nat.le_of_ble_eq_true rfl) (Nat.le_of_ble_eq_true rfl) (s_79 (by omega) (by omega) hC0 hS1 hI1) ?_
                intro v hp_45 hq
                obtain ⟨rfl, D45, K45, A45, hS2, hI2, -⟩ := hq
                clear hS1 hI1 hF hN hf hn hs hp0 hu0
                obtain ⟨hF, hN, hf, hn, hs, hp0, hu0⟩ := hS2
                replace hF : ax_hs hp_45 [cNd n nd me D45, cDk nd D45, cAr nd 2 35840 D45, cAr nd 3 4096 D45, cAr nd 4 32 D45, cAr nd 5 280 D45, cAr nd 6 280 D45, cLd n nd me D45 A45, cAr nd 8 16 D45, cAr nd 9 280 D45, cTb nd gg D45 K45, cAr nd 11 48 D45, cAr nd 12 48 D45, cAr nd 13 48 D45, cAr nd 14 2400 D45, cAr nd 15 512 D45, cAr nd 16 961 D45, cAr nd 17 961 D45, cWk nd D45, cWa nd D45, cAr nd 20 612 D45, cAr nd 21 1152 D45, cRk n nn gg C, cOr n nn gg f] := hF
                have hI45 := hI2
                clear hI2
                refine ar_iinc 147 [(0, .ref (nd + 7)), (1, .ref (n + 1 + 1 + 2 * q)), (2, .int s2), (3, .int s3), (4, .int y4), (5, .int (nI d)), (6, .int (nI (i + 1))), (7, .int y33)] d_70_144 rfl rfl (nI_1 i) (by decide) rfl ?_
                refine ar_goto 55 d_70_147 (by decide) ?_
                refine ar_wk [0, 1, 2, 3, 4, 5, 6] rfl (by simp) ?_
                have hS1 : NS Z n nd nn gg C me f q u b uv h0 hp_45 D45 K45 A45 := ⟨hF, hN, hf, hn, hs, hp0, hu0⟩
                have hI1 : NI Z nn D45 := hI45
                exact ih (i + 1) d y4 hp_45 D45 K45 A45 (by omega) (by omega) hS1 hI1
          · refine ar_aload_n 103 d_70_102 rfl rfl ?_
            refine ar_getf 106 d_70_103 rfl (ci := 9) (k := 6) rfl (hF.at 7 rfl) rfl ?_
            refine ar_iload 108 d_70_106 rfl rfl ?_
            refine ar_aload_n 109 d_70_108 rfl rfl ?_
            refine ar_getf 112 d_70_109 rfl (ci := 2) (k := 8) rfl hN.mgc rfl ?_
            refine ar_iload 114 d_70_112 rfl rfl ?_
            refine ar_iald 115 d_70_114 rfl hN.mbc (vin (by omega) (by omega)) ?_
            refine ar_iast 116 d_70_115 rfl (hF.at 9 rfl) (vin (by omega) (by omega)) ?_
            replace hF : ax_hs (ax_put hp_34 (nd + 9) (.inl (0, 280, .inl (upd (D34 9) (nI d).toNatClampNeg (b (nI i).toNatClampNeg))))) [cNd n nd me D34, cDk nd D34, cAr nd 2 35840 D34, cAr nd 3 4096 D34, cAr nd 4 32 D34, cAr nd 5 280 D34, cAr nd 6 280 D34, cLd n nd me D34 A34, cAr nd 8 16 D34, (nd + 9, .inl (0, 280, .inl (upd (D34 9) (nI d).toNatClampNeg (b (nI i).toNatClampNeg)))), cTb nd gg D34 K34, cAr nd 11 48 D34, cAr nd 12 48 D34, cAr nd 13 48 D34, cAr nd 14 2400 D34, cAr nd 15 512 D34, cAr nd 16 961 D34, cAr nd 17 961 D34, cWk nd D34, cWa nd D34, cAr nd 20 612 D34, cAr nd 21 1152 D34, cRk n nn gg C, cOr n nn gg f] := hF.put 9 _ rfl rfl
            replace hf := hf.put (a := nd + 9) (c := .inl (0, 280, .inl (upd (D34 9) (nI d).toNatClampNeg (b (nI i).toNatClampNeg)))) (Or.inr (by omega))
            replace hN := hN.put (a := nd + 9) (c := .inl (0, 280, .inl (upd (D34 9) (nI d).toNatClampNeg (b (nI i).toNatClampNeg)))) (by omega)
            replace hn : (ax_put hp_34 (nd + 9) (.inl (0, 280, .inl (upd (D34 9) (nI d).toNatClampNeg (b (nI i).toNatClampNeg))))).1 = h0.1 := hn
            replace hs : (ax_put hp_34 (nd + 9) (.inl (0, 280, .inl (upd (D34 9) (nI d).toNatClampNeg (b (nI i).toNatClampNeg))))).2.1 = h0.2.1 := hs
            generalize ax_put hp_34 (nd + 9) (.inl (0, 280, .inl (upd (D34 9) (nI d).toNatClampNeg (b (nI i).toNatClampNeg)))) = hp_46 at hF hf hN hn hs ⊢
            refine ar_iinc 119 [(0, .ref (nd + 7)), (1, .ref (n + 1 + 1 + 2 * q)), (2, .int s2), (3, .int s3), (4, .int y4), (5, .int (nI (d + 1))), (6, .int (nI i)), (7, .int y33)] d_70_116 rfl rfl (nI_1 d) (by decide) rfl ?_
            refine ar_iload 121 d_70_119 rfl rfl ?_
            refine ar_iconst 122 (v := 2) d_70_121 rfl (by decide) ?_
            refine ar_icmp_eq 129 125 d_70_122 (by decide) rfl (fun cc47 => ?_) (fun cc47 => ?_)
            · refine ar_aload_n 130 d_70_129 rfl rfl ?_
              refine ar_aload_n 131 d_70_130 rfl rfl ?_
              refine ar_getf 134 d_70_131 rfl (ci := 2) (k := 8) rfl hN.mgc rfl ?_
              refine ar_iload 136 d_70_134 rfl rfl ?_
              refine ar_iald 137 d_70_136 rfl hN.mbc (vin (by omega) (by omega)) ?_
              refine ar_aload_n 138 d_70_137 rfl rfl ?_
              refine ar_getf 141 d_70_138 rfl (ci := 2) (k := 1) rfl hN.mgc rfl ?_
              have hS1 : NS Z n nd nn gg C me f q u b uv h0 hp_46 (va_up D34 9 (upd (D34 9) (nI d).toNatClampNeg (b (nI i).toNatClampNeg))) K34 A34 := ⟨hF, hN, hf, hn, hs, hp0, hu0⟩
              have hI1 : NI Z nn (va_up D34 9 (upd (D34 9) (nI d).toNatClampNeg (b (nI i).toNatClampNeg))) := hI34
              refine ar_call (r := []) (na := 0) (kd := 0) (cm := 79) (fr2 := fr - 1) (lo2 := lo - 24) 144 d_70_141 (ar_hoV (as := [.int (b (nI i).toNatClampNeg), .int (u 1)]) rfl rfl rfl (hF.at 7 rfl)) rfl (by omega) (show lo - 24 + (19 + 5) = lo by omega) (Nat.le_of_ble_eq_true rfl) (Nat.le_of_ble_eq_true rfl) (s_79 (by omega) (by omega) hC0 hS1 hI1) ?_
              intro v hp_48 hq
              obtain ⟨rfl, D48, K48, A48, hS2, hI2, -⟩ := hq
              clear hS1 hI1 hF hN hf hn hs hp0 hu0
              obtain ⟨hF, hN, hf, hn, hs, hp0, hu0⟩ := hS2
              replace hF : ax_hs hp_48 [cNd n nd me D48, cDk nd D48, cAr nd 2 35840 D48, cAr nd 3 4096 D48, cAr nd 4 32 D48, cAr nd 5 280 D48, cAr nd 6 280 D48, cLd n nd me D48 A48, cAr nd 8 16 D48, cAr nd 9 280 D48, cTb nd gg D48 K48, cAr nd 11 48 D48, cAr nd 12 48 D48, cAr nd 13 48 D48, cAr nd 14 2400 D48, cAr nd 15 512 D48, cAr nd 16 961 D48, cAr nd 17 961 D48, cWk nd D48, cWa nd D48, cAr nd 20 612 D48, cAr nd 21 1152 D48, cRk n nn gg C, cOr n nn gg f] := hF
              have hI48 := hI2
              clear hI2
              refine ar_iinc 147 [(0, .ref (nd + 7)), (1, .ref (n + 1 + 1 + 2 * q)), (2, .int s2), (3, .int s3), (4, .int y4), (5, .int (nI (d + 1))), (6, .int (nI (i + 1))), (7, .int y33)] d_70_144 rfl rfl (nI_1 i) (by decide) rfl ?_
              refine ar_goto 55 d_70_147 (by decide) ?_
              refine ar_wk [0, 1, 2, 3, 4, 5, 6] rfl (by simp) ?_
              have hS1 : NS Z n nd nn gg C me f q u b uv h0 hp_48 D48 K48 A48 := ⟨hF, hN, hf, hn, hs, hp0, hu0⟩
              have hI1 : NI Z nn D48 := hI48
              exact ih (i + 1) (d + 1) y4 hp_48 D48 K48 A48 (by omega) (by omega) hS1 hI1
            · refine ar_iload_n 126 d_70_125 rfl rfl ?_
              refine ar_if_ne 144 129 d_70_126 (by decide) rfl (fun cc49 => ?_) (fun cc49 => ?_)
              · refine ar_iinc 147 [(0, .ref (nd + 7)), (1, .ref (n + 1 + 1 + 2 * q)), (2, .int s2), (3, .int s3), (4, .int y4), (5, .int (nI (d + 1))), (6, .int (nI (i + 1))), (7, .int y33)] d_70_144 rfl rfl (nI_1 i) (by decide) rfl ?_
                refine ar_goto 55 d_70_147 (by decide) ?_
                refine ar_wk [0, 1, 2, 3, 4, 5, 6] rfl (by simp) ?_
                have hS1 : NS Z n nd nn gg C me f q u b uv h0 hp_46 (va_up D34 9 (upd (D34 9) (nI d).toNatClampNeg (b (nI i).toNatClampNeg))) K34 A34 := ⟨hF, hN, hf, hn, hs, hp0, hu0⟩
                have hI1 : NI Z nn (va_up D34 9 (upd (D34 9) (nI d).toNatClampNeg (b (nI i).toNatClampNeg))) := hI34
                exact ih (i + 1) (d + 1) y4 hp_46 (va_up D34 9 (upd (D34 9) (nI d).toNatClampNeg (b (nI i).toNatClampNeg))) K34 A34 (by omega) (by omega) hS1 hI1
              · refine ar_aload_n 130 d_70_129 rfl rfl ?_
                refine ar_aload_n 131 d_70_130 rfl rfl ?_
                refine ar_getf 134 d_70_131 rfl (ci := 2) (k := 8) rfl hN.mgc rfl ?_
                refine ar_iload 136 d_70_134 rfl rfl ?_
                refine ar_iald 137 d_70_136 rfl hN.mbc (vin (by omega) (by omega)) ?_
                refine ar_aload_n 138 d_70_137 rfl rfl ?_
                refine ar_getf 141 d_70_138 rfl (ci := 2) (k := 1) rfl hN.mgc rfl ?_
                have hS1 : NS Z n nd nn gg C me f q u b uv h0 hp_46 (va_up D34 9 (upd (D34 9) (nI d).toNatClampNeg (b (nI i).toNatClampNeg))) K34 A34 := ⟨hF, hN, hf, hn, hs, hp0, hu0⟩
                have hI1 : NI Z nn (va_up D34 9 (upd (D34 9) (nI d).toNatClampNeg (b (nI i).toNatClampNeg))) := hI34
                refine ar_call (r := []) (na := 0) (kd := 0) (cm := 79) (fr2 := fr - 1) (lo2 := lo - 24) 144 d_70_141 (ar_hoV (as := [.int (b (nI i).toNatClampNeg), .int (u 1)]) rfl rfl rfl (hF.at 7 rfl)) rfl (by omega) (show lo - 24 + (19 + 5) = lo by omega) (Nat.le_of_ble_eq_true rfl) (Nat.le_of_ble_eq_true rfl) (s_79 (by omega) (by omega) hC0 hS1 hI1) ?_
                intro v hp_50 hq
                obtain ⟨rfl, D50, K50, A50, hS2, hI2, -⟩ := hq
                clear hS1 hI1 hF hN hf hn hs hp0 hu0
                obtain ⟨hF, hN, hf, hn, hs, hp0, hu0⟩ := hS2
                replace hF : ax_hs hp_50 [cNd n nd me D50, cDk nd D50, cAr nd 2 35840 D50, cAr nd 3 4096 D50, cAr nd 4 32 D50, cAr nd 5 280 D50, cAr nd 6 280 D50, cLd n nd me D50 A50, cAr nd 8 16 D50, cAr nd 9 280 D50, cTb nd gg D50 K50, cAr nd 11 48 D50, cAr nd 12 48 D50, cAr nd 13 48 D50, cAr nd 14 2400 D50, cAr nd 15 512 D50, cAr nd 16 961 D50, cAr nd 17 961 D50, cWk nd D50, cWa nd D50, cAr nd 20 612 D50, cAr nd 21 1152 D50, cRk n nn gg C, cOr n nn gg f] := hF
                have hI50 := hI2
                clear hI2
                refine ar_iinc 147 [(0, .ref (nd + 7)), (1, .ref (n + 1 + 1 + 2 * q)), (2, .int s2), (3, .int s3), (4, .int y4), (5, .int (nI (d + 1))), (6, .int (nI (i + 1))), (7, .int y33)] d_70_144 rfl rfl (nI_1 i) (by decide) rfl ?_
                refine ar_goto 55 d_70_147 (by decide) ?_
                refine ar_wk [0, 1, 2, 3, 4, 5, 6] rfl (by simp) ?_
                have hS1 : NS Z n nd nn gg C me f q u b uv h0 hp_50 D50 K50 A50 := ⟨hF, hN, hf, hn, hs, hp0, hu0⟩
                have hI1 : NI Z nn D50 := hI50
                exact ih (i + 1) (d + 1) y4 hp_50 D50 K50 A50 (by omega) (by omega) hS1 hI1
      · refine ar_iinc 89 [(0, .ref (nd + 7)), (1, .ref (n + 1 + 1 + 2 * q)), (2, .int s2), (3, .int s3), (4, .int (y4 + 1)), (5, .int (nI d)), (6, .int (nI i)), (7, .int y33)] d_70_86 rfl rfl (rfl) (by decide) rfl ?_
        refine ar_goto 119 d_70_89 (by decide) ?_
        refine ar_iload 121 d_70_119 rfl rfl ?_
        refine ar_iconst 122 (v := 2) d_70_121 rfl (by decide) ?_
        refine ar_icmp_eq 129 125 d_70_122 (by decide) rfl (fun cc51 => ?_) (fun cc51 => ?_)
        · refine ar_aload_n 130 d_70_129 rfl rfl ?_
          refine ar_aload_n 131 d_70_130 rfl rfl ?_
          refine ar_getf 134 d_70_131 rfl (ci := 2) (k := 8) rfl hN.mgc rfl ?_
          refine ar_iload 136 d_70_134 rfl rfl ?_
          refine ar_iald 137 d_70_136 rfl hN.mbc (vin (by omega) (by omega)) ?_
          refine ar_aload_n 138 d_70_137 rfl rfl ?_
          refine ar_getf 141 d_70_138 rfl (ci := 2) (k := 1) rfl hN.mgc rfl ?_
          have hS1 : NS Z n nd nn gg C me f q u b uv h0 hp_34 D34 K34 A34 := ⟨hF, hN, hf, hn, hs, hp0, hu0⟩
          have hI1 : NI Z nn D34 := hI34
          refine ar_call (r := []) (na := 0) (kd := 0) (cm := 79) (fr2 := fr - 1) (lo2 := lo - 24) 144 d_70_141 (ar_hoV (as := [.int (b (nI i).toNatClampNeg), .int (u 1)]) rfl rfl rfl (hF.at 7 rfl)) rfl (by omega) (show lo - 24 + (19 + 5) = lo by omega) (Nat.le_of_ble_eq_true rfl) (Nat.le_of_ble_eq_true rfl) (s_79 (by omega) (by omega) hC0 hS1 hI1) ?_
          intro v hp_52 hq
          obtain ⟨rfl, D52, K52, A52, hS2, hI2, -⟩ := hq
          clear hS1 hI1 hF hN hf hn hs hp0 hu0
          obtain ⟨hF, hN, hf, hn, hs, hp0, hu0⟩ := hS2
          replace hF : ax_hs hp_52 [cNd n nd me D52, cDk nd D52, cAr nd 2 35840 D52, cAr nd 3 4096 D52, cAr nd 4 32 D52, cAr nd 5 280 D52, cAr nd 6 280 D52, cLd n nd me D52 A52, cAr nd 8 16 D52, cAr nd 9 280 D52, cTb nd gg D52 K52, cAr nd 11 48 D52, cAr nd 12 48 D52, cAr nd 13 48 D52, cAr nd 14 2400 D52, cAr nd 15 512 D52, cAr nd 16 961 D52, cAr nd 17 961 D52, cWk nd D52, cWa nd D52, cAr nd 20 612 D52, cAr nd 21 1152 D52, cRk n nn gg C, cOr n nn gg f] := hF
          have hI52 := hI2
          clear hI2
          refine ar_iinc 147 [(0, .ref (nd + 7)), (1, .ref (n + 1 + 1 + 2 * q)), (2, .int s2), (3, .int s3), (4, .int (y4 + 1)), (5, .int (nI d)), (6, .int (nI (i + 1))), (7, .int y33)] d_70_144 rfl rfl (nI_1 i) (by decide) rfl ?_
          refine ar_goto 55 d_70_147 (by decide) ?_
          refine ar_wk [0, 1, 2, 3, 4, 5, 6] rfl (by simp) ?_
          have hS1 : NS Z n nd nn gg C me f q u b uv h0 hp_52 D52 K52 A52 := ⟨hF, hN, hf, hn, hs, hp0, hu0⟩
          have hI1 : NI Z nn D52 := hI52
          exact ih (i + 1) d (y4 + 1) hp_52 D52 K52 A52 (by omega) (by omega) hS1 hI1
        · refine ar_iload_n 126 d_70_125 rfl rfl ?_
          refine ar_if_ne 144 129 d_70_126 (by decide) rfl (fun cc53 => ?_) (fun cc53 => ?_)
          · refine ar_iinc 147 [(0, .ref (nd + 7)), (1, .ref (n + 1 + 1 + 2 * q)), (2, .int s2), (3, .int s3), (4, .int (y4 + 1)), (5, .int (nI d)), (6, .int (nI (i + 1))), (7, .int y33)] d_70_144 rfl rfl (nI_1 i) (by decide) rfl ?_
            refine ar_goto 55 d_70_147 (by decide) ?_
            refine ar_wk [0, 1, 2, 3, 4, 5, 6] rfl (by simp) ?_
            have hS1 : NS Z n nd nn gg C me f q u b uv h0 hp_34 D34 K34 A34 := ⟨hF, hN, hf, hn, hs, hp0, hu0⟩
            have hI1 : NI Z nn D34 := hI34
            exact ih (i + 1) d (y4 + 1) hp_34 D34 K34 A34 (by omega) (by omega) hS1 hI1
          · refine ar_aload_n 130 d_70_129 rfl rfl ?_
            refine ar_aload_n 131 d_70_130 rfl rfl ?_
            refine ar_getf 134 d_70_131 rfl (ci := 2) (k := 8) rfl hN.mgc rfl ?_
            refine ar_iload 136 d_70_134 rfl rfl ?_
            refine ar_iald 137 d_70_136 rfl hN.mbc (vin (by omega) (by omega)) ?_
            refine ar_aload_n 138 d_70_137 rfl rfl ?_
            refine ar_getf 141 d_70_138 rfl (ci := 2) (k := 1) rfl hN.mgc rfl ?_
            have hS1 : NS Z n nd nn gg C me f q u b uv h0 hp_34 D34 K34 A34 := ⟨hF, hN, hf, hn, hs, hp0, hu0⟩
            have hI1 : NI Z nn D34 := hI34
            refine ar_call (r := []) (na := 0) (kd := 0) (cm := 79) (fr2 := fr - 1) (lo2 := lo - 24) 144 d_70_141 (ar_hoV (as := [.int (b (nI i).toNatClampNeg), .int (u 1)]) rfl rfl rfl (hF.at 7 rfl)) rfl (by omega) (show lo - 24 + (19 + 5) = lo by omega) (Nat.le_of_ble_eq_true rfl) (Nat.le_of_ble_eq_true rfl) (s_79 (by omega) (by omega) hC0 hS1 hI1) ?_
            intro v hp_54 hq
            obtain ⟨rfl, D54, K54, A54, hS2, hI2, -⟩ := hq
            clear hS1 hI1 hF hN hf hn hs hp0 hu0
            obtain ⟨hF, hN, hf, hn, hs, hp0, hu0⟩ := hS2
            replace hF : ax_hs hp_54 [cNd n nd me D54, cDk nd D54, cAr nd 2 35840 D54, cAr nd 3 4096 D54, cAr nd 4 32 D54, cAr nd 5 280 D54, cAr nd 6 280 D54, cLd n nd me D54 A54, cAr nd 8 16 D54, cAr nd 9 280 D54, cTb nd gg D54 K54, cAr nd 11 48 D54, cAr nd 12 48 D54, cAr nd 13 48 D54, cAr nd 14 2400 D54, cAr nd 15 512 D54, cAr nd 16 961 D54, cAr nd 17 961 D54, cWk nd D54, cWa nd D54, cAr nd 20 612 D54, cAr nd 21 1152 D54, cRk n nn gg C, cOr n nn gg f] := hF
            have hI54 := hI2
            clear hI2
            refine ar_iinc 147 [(0, .ref (nd + 7)), (1, .ref (n + 1 + 1 + 2 * q)), (2, .int s2), (3, .int s3), (4, .int (y4 + 1)), (5, .int (nI d)), (6, .int (nI (i + 1))), (7, .int y33)] d_70_144 rfl rfl (nI_1 i) (by decide) rfl ?_
            refine ar_goto 55 d_70_147 (by decide) ?_
            refine ar_wk [0, 1, 2, 3, 4, 5, 6] rfl (by simp) ?_
            have hS1 : NS Z n nd nn gg C me f q u b uv h0 hp_54 D54 K54 A54 := ⟨hF, hN, hf, hn, hs, hp0, hu0⟩
            have hI1 : NI Z nn D54 := hI54
            exact ih (i + 1) d (y4 + 1) hp_54 D54 K54 A54 (by omega) (by omega) hS1 hI1
  show ax_A (ax_step L xs) ((70, 0, fr, lo), [(0, .ref (nd + 7)), (1, .ref (n + 1 + 1 + 2 * q))], [], h) _
  obtain ⟨hnd, hn0, hnn3, hnn, hgg1, hgg, hRg⟩ := hC
  obtain ⟨hF, hN, hf, hn, hs, hp0, hu0⟩ := hS
  replace hF : ax_hs h [cNd n nd me D, cDk nd D, cAr nd 2 35840 D, cAr nd 3 4096 D, cAr nd 4 32 D, cAr nd 5 280 D, cAr nd 6 280 D, cLd n nd me D A, cAr nd 8 16 D, cAr nd 9 280 D, cTb nd gg D K, cAr nd 11 48 D, cAr nd 12 48 D, cAr nd 13 48 D, cAr nd 14 2400 D, cAr nd 15 512 D, cAr nd 16 961 D, cAr nd 17 961 D, cWk nd D, cWa nd D, cAr nd 20 612 D, cAr nd 21 1152 D, cRk n nn gg C, cOr n nn gg f] := hF
  refine ar_aload_n 1 d_70_0 rfl rfl ?_
  refine ar_getf 4 d_70_1 rfl (ci := 9) (k := 4) rfl (hF.at 7 rfl) rfl ?_
  refine ar_call (r := []) (na := 0) (kd := 0) (cm := 71) (fr2 := fr - 1) (lo2 := lo - 20) 7 d_70_4 (ar_hoV (as := []) rfl rfl rfl (hF.at 18 rfl)) rfl (by omega) (show lo - 20 + (19 + 1) = lo by omega) (Nat.le_of_ble_eq_true rfl) (Nat.le_of_ble_eq_true rfl) (c_71S (hF.at 18 rfl)) ?_
  intro v hh hq
  obtain ⟨y1, rfl, hy1, ehh⟩ := hq
  rw [ehh]
  clear ehh
  refine ar_if_ne 24 10 d_70_7 (by decide) rfl (fun cc2 => ?_) (fun cc2 => ?_)
  · refine ar_iconst 25 (v := 0) d_70_24 rfl (by decide) ?_
    refine ar_istore_n 26 [(0, .ref (nd + 7)), (1, .ref (n + 1 + 1 + 2 * q)), (2, .int 0)] d_70_25 rfl (by decide) rfl ?_
    refine ar_iload_n 27 d_70_26 rfl rfl ?_
    refine ar_if_eq 44 30 d_70_27 (by decide) rfl (fun _ => ?_) (fun c => absurd (by decide) c)
    refine ar_iconst 45 (v := 0) d_70_44 rfl (by decide) ?_
    refine ar_istore_n 46 [(0, .ref (nd + 7)), (1, .ref (n + 1 + 1 + 2 * q)), (2, .int 0), (3, .int 0)] d_70_45 rfl (by decide) rfl ?_
    refine ar_iconst 47 (v := 0) d_70_46 rfl (by decide) ?_
    refine ar_istore 49 [(0, .ref (nd + 7)), (1, .ref (n + 1 + 1 + 2 * q)), (2, .int 0), (3, .int 0), (4, .int 0)] d_70_47 rfl (by decide) rfl ?_
    refine ar_iconst 50 (v := 0) d_70_49 rfl (by decide) ?_
    refine ar_istore 52 [(0, .ref (nd + 7)), (1, .ref (n + 1 + 1 + 2 * q)), (2, .int 0), (3, .int 0), (4, .int 0), (5, .int 0)] d_70_50 rfl (by decide) rfl ?_
    refine ar_iconst 53 (v := 0) d_70_52 rfl (by decide) ?_
    refine ar_istore 55 [(0, .ref (nd + 7)), (1, .ref (n + 1 + 1 + 2 * q)), (2, .int 0), (3, .int 0), (4, .int 0), (5, .int 0), (6, .int 0)] d_70_53 rfl (by decide) rfl ?_
    have hS1 : NS Z n nd nn gg C me f q u b uv h0 h D K A := ⟨hF, hN, hf, hn, hs, hp0, hu0⟩
    have hI1 : NI Z nn D := hI
    exact key _ _ cnt 0 0 _ h D K A (by omega) (by omega) hS1 hI1
  · refine ar_aload_n 11 d_70_10 rfl rfl ?_
    refine ar_getf 14 d_70_11 rfl (ci := 9) (k := 3) rfl (hF.at 7 rfl) rfl ?_
    refine ar_call (r := []) (na := 0) (kd := 0) (cm := 72) (fr2 := fr - 1) (lo2 := lo - 20) 17 d_70_14 (ar_hoV (as := []) rfl rfl rfl (hF.at 10 rfl)) rfl (by omega) (show lo - 20 + (19 + 1) = lo by omega) (Nat.le_of_ble_eq_true rfl) (Nat.le_of_ble_eq_true rfl) (c_72S (by omega) (by omega) (hF.at 10 rfl)) ?_
    intro v hh hq
    obtain ⟨y3, rfl, hy3, ehh⟩ := hq
    rw [ehh]
    clear ehh
    refine ar_if_eq 24 20 d_70_17 (by decide) rfl (fun cc4 => ?_) (fun cc4 => ?_)
    · refine ar_iconst 25 (v := 0) d_70_24 rfl (by decide) ?_
      refine ar_istore_n 26 [(0, .ref (nd + 7)), (1, .ref (n + 1 + 1 + 2 * q)), (2, .int 0)] d_70_25 rfl (by decide) rfl ?_
      refine ar_iload_n 27 d_70_26 rfl rfl ?_
      refine ar_if_eq 44 30 d_70_27 (by decide) rfl (fun _ => ?_) (fun c => absurd (by decide) c)
      refine ar_iconst 45 (v := 0) d_70_44 rfl (by decide) ?_
      refine ar_istore_n 46 [(0, .ref (nd + 7)), (1, .ref (n + 1 + 1 + 2 * q)), (2, .int 0), (3, .int 0)] d_70_45 rfl (by decide) rfl ?_
      refine ar_iconst 47 (v := 0) d_70_46 rfl (by decide) ?_
      refine ar_istore 49 [(0, .ref (nd + 7)), (1, .ref (n + 1 + 1 + 2 * q)), (2, .int 0), (3, .int 0), (4, .int 0)] d_70_47 rfl (by decide) rfl ?_
      refine ar_iconst 50 (v := 0) d_70_49 rfl (by decide) ?_
      refine ar_istore 52 [(0, .ref (nd + 7)), (1, .ref (n + 1 + 1 + 2 * q)), (2, .int 0), (3, .int 0), (4, .int 0), (5, .int 0)] d_70_50 rfl (by decide) rfl ?_
      refine ar_iconst 53 (v := 0) d_70_52 rfl (by decide) ?_
      refine ar_istore 55 [(0, .ref (nd + 7)), (1, .ref (n + 1 + 1 + 2 * q)), (2, .int 0), (3, .int 0), (4, .int 0), (5, .int 0), (6, .int 0)] d_70_53 rfl (by decide) rfl ?_
      have hS1 : NS Z n nd nn gg C me f q u b uv h0 h D K A := ⟨hF, hN, hf, hn, hs, hp0, hu0⟩
      have hI1 : NI Z nn D := hI
      exact key _ _ cnt 0 0 _ h D K A (by omega) (by omega) hS1 hI1
    · refine ar_iconst 21 (v := 1) d_70_20 rfl (by decide) ?_
      refine ar_goto 25 d_70_21 (by decide) ?_
      refine ar_istore_n 26 [(0, .ref (nd + 7)), (1, .ref (n + 1 + 1 + 2 * q)), (2, .int 1)] d_70_25 rfl (by decide) rfl ?_
      refine ar_iload_n 27 d_70_26 rfl rfl ?_
      refine ar_if_eq 44 30 d_70_27 (by decide) rfl (fun c => absurd c (by decide)) (fun _ => ?_)
      refine ar_aload_n 31 d_70_30 rfl rfl ?_
      refine ar_sipush 34 (v := 960) d_70_31 rfl (by decide) ?_
      refine ar_call (r := []) (na := 0) (kd := 0) (cm := 74) (fr2 := fr - 1) (lo2 := lo - 22) 37 d_70_34 (ar_hoV (as := [.int 960]) rfl rfl rfl (hF.at 7 rfl)) rfl (by omega) (show lo - 22 + (19 + 3) = lo by omega) (Nat.le_of_ble_eq_true rfl) (Nat.le_of_ble_eq_true rfl) (c_74S (a := 960) (by omega) (by omega) (by omega) hgg (by omega) hI.2.1 (Or.inl rfl) (hF.at 7 rfl) (hF.at 10 rfl) (hF.at 8 rfl) (hF.at 11 rfl) (hF.at 16 rfl) (hF.at 17 rfl)) ?_
      intro v hh hq
      obtain ⟨y5, rfl, hy5, ehh⟩ := hq
      rw [ehh]
      clear ehh
      refine ar_if_eq 44 40 d_70_37 (by decide) rfl (fun cc6 => ?_) (fun cc6 => ?_)
      · refine ar_iconst 45 (v := 0) d_70_44 rfl (by decide) ?_
        refine ar_istore_n 46 [(0, .ref (nd + 7)), (1, .ref (n + 1 + 1 + 2 * q)), (2, .int 1), (3, .int 0)] d_70_45 rfl (by decide) rfl ?_
        refine ar_iconst 47 (v := 0) d_70_46 rfl (by decide) ?_
        refine ar_istore 49 [(0, .ref (nd + 7)), (1, .ref (n + 1 + 1 + 2 * q)), (2, .int 1), (3, .int 0), (4, .int 0)] d_70_47 rfl (by decide) rfl ?_
        refine ar_iconst 50 (v := 0) d_70_49 rfl (by decide) ?_
        refine ar_istore 52 [(0, .ref (nd + 7)), (1, .ref (n + 1 + 1 + 2 * q)), (2, .int 1), (3, .int 0), (4, .int 0), (5, .int 0)] d_70_50 rfl (by decide) rfl ?_
        refine ar_iconst 53 (v := 0) d_70_52 rfl (by decide) ?_
        refine ar_istore 55 [(0, .ref (nd + 7)), (1, .ref (n + 1 + 1 + 2 * q)), (2, .int 1), (3, .int 0), (4, .int 0), (5, .int 0), (6, .int 0)] d_70_53 rfl (by decide) rfl ?_
        have hS1 : NS Z n nd nn gg C me f q u b uv h0 h D K A := ⟨hF, hN, hf, hn, hs, hp0, hu0⟩
        have hI1 : NI Z nn D := hI
        exact key _ _ cnt 0 0 _ h D K A (by omega) (by omega) hS1 hI1
      · refine ar_iconst 41 (v := 1) d_70_40 rfl (by decide) ?_
        refine ar_goto 45 d_70_41 (by decide) ?_
        refine ar_istore_n 46 [(0, .ref (nd + 7)), (1, .ref (n + 1 + 1 + 2 * q)), (2, .int 1), (3, .int 1)] d_70_45 rfl (by decide) rfl ?_
        refine ar_iconst 47 (v := 0) d_70_46 rfl (by decide) ?_
        refine ar_istore 49 [(0, .ref (nd + 7)), (1, .ref (n + 1 + 1 + 2 * q)), (2, .int 1), (3, .int 1), (4, .int 0)] d_70_47 rfl (by decide) rfl ?_
        refine ar_iconst 50 (v := 0) d_70_49 rfl (by decide) ?_
        refine ar_istore 52 [(0, .ref (nd + 7)), (1, .ref (n + 1 + 1 + 2 * q)), (2, .int 1), (3, .int 1), (4, .int 0), (5, .int 0)] d_70_50 rfl (by decide) rfl ?_
        refine ar_iconst 53 (v := 0) d_70_52 rfl (by decide) ?_
        refine ar_istore 55 [(0, .ref (nd + 7)), (1, .ref (n + 1 + 1 + 2 * q)), (2, .int 1), (3, .int 1), (4, .int 0), (5, .int 0), (6, .int 0)] d_70_53 rfl (by decide) rfl ?_
        have hS1 : NS Z n nd nn gg C me f q u b uv h0 h D K A := ⟨hF, hN, hf, hn, hs, hp0, hu0⟩
        have hI1 : NI Z nn D := hI
        exact key _ _ cnt 0 0 _ h D K A (by omega) (by omega) hS1 hI1


/-! Work: foretell, touch for every state -/

theorem neq {x a b : Int32} (h : x = a) (hab : ¬ a = b) : ¬ x = b := fun z => hab (h.symm.trans z)
theorem WI.tell {Z : ZT} {fl : Int32} {jf W Q B : Nat → Int32} (h3 : W 3 = 5) (hA : AQ (Q 0) (Q 1) (Q 2) (Q 3) (Q 4) (Q 5)) (h11 : inR 7 (W 11)) (ho : opC Z (W 4) (Q 0)) (h5 : Q 0 = 4 ∨ Q 0 = 9 → W 5 < 0 ∨ inR 2049 (W 5)) (hB : ∀ i, i < 9 → ¬ B (i * 128) = 0 → gd Z B (i * 128)) : WI Z fl jf W Q B := ⟨hA, ⟨5, by decide, h3⟩, h11, fun _ => ho, fun z => absurd (h3.symm.trans z) (by decide), fun z => by rcases z with z | z <;> exact absurd (h3.symm.trans z) (by decide), fun _ => h5, hB⟩
theorem WI.store {Z : ZT} {fl : Int32} {jf W Q B : Nat → Int32} (h3 : W 3 = 3 ∨ W 3 = 4) (hA : AQ (Q 0) (Q 1) (Q 2) (Q 3) (Q 4) (Q 5)) (h11 : inR 7 (W 11)) (ho : opC Z (W 4) (Q 0)) (hz : ∃ o : Nat, o < 512 ∧ W 4 = nI o ∧ Z.y o) (hB : ∀ i, i < 9 → ¬ B (i * 128) = 0 → gd Z B (i * 128)) : WI Z fl jf W Q B := ⟨hA, by
    rcases h3 with e | e
    · exact ⟨3, by decide, e⟩
    · exact ⟨4, by decide, e⟩, h11, fun _ => ho, fun z => by
    rcases h3 with e | e <;> exact absurd (e.symm.trans z) (by decide), fun _ => hz, fun z => by
    rcases h3 with e | e <;> exact absurd (e.symm.trans z) (by decide), hB⟩
theorem WI.fetch {Z : ZT} {fl : Int32} {jf W Q B : Nat → Int32} (h3 : W 3 = 2) (hA : AQ (Q 0) (Q 1) (Q 2) (Q 3) (Q 4) (Q 5)) (h11 : inR 7 (W 11)) (ho : opC Z (W 4) (Q 0)) (hF : FC fl jf W Q) (hP : ∀ i, i < 9 → ¬ B (i * 128) = 0 → plT (B (i * 128 + 1))) : WI Z fl jf W Q B := ⟨hA, ⟨2, by decide, h3⟩, h11, fun _ => ho, fun _ => ⟨hF, hP⟩, fun z => by rcases z with z | z <;> exact absurd (h3.symm.trans z) (by decide), fun z => absurd (h3.symm.trans z) (by decide), fun i hi z => (hP i hi z).gd⟩
theorem WI.idle {Z : ZT} {fl : Int32} {jf W Q B : Nat → Int32} (h3 : W 3 = 0) (hA : AQ (Q 0) (Q 1) (Q 2) (Q 3) (Q 4) (Q 5)) (h11 : inR 7 (W 11)) (hB : ∀ i, i < 9 → ¬ B (i * 128) = 0 → gd Z B (i * 128)) : WI Z fl jf W Q B := ⟨hA, ⟨0, by decide, h3⟩, h11, fun z => absurd h3 z, fun z => absurd (h3.symm.trans z) (by decide), fun z => by rcases z with z | z <;> exact absurd (h3.symm.trans z) (by decide), fun z => absurd (h3.symm.trans z) (by decide), hB⟩
theorem nIm {f : Nat} (h : f < 2 ^ 31) : ¬ nI f = -1 := fun e => nI_pos h (by rw [e]; decide)
theorem WI.wait {Z : ZT} {fl : Int32} {jf W Q B : Nat → Int32} (h3 : W 3 = 1) (hA : AQ (Q 0) (Q 1) (Q 2) (Q 3) (Q 4) (Q 5)) (h11 : inR 7 (W 11)) (ho : opC Z (W 4) (Q 0)) (hB : ∀ i, i < 9 → ¬ B (i * 128) = 0 → gd Z B (i * 128)) : WI Z fl jf W Q B := ⟨hA, ⟨1, by decide, h3⟩, h11, fun _ => ho, fun z => absurd (h3.symm.trans z) (by decide), fun z => by rcases z with z | z <;> exact absurd (h3.symm.trans z) (by decide), fun z => absurd (h3.symm.trans z) (by decide), hB⟩
/-- what foretell and touch leave as it was -/
def SM (D D' : Nat → Nat → Int32) : Prop := D' 18 3 = D 18 3 ∧ D' 18 4 = D 18 4 ∧ D' 18 7 = D 18 7 ∧ D' 18 8 = D 18 8 ∧ D' 18 13 = D 18 13 ∧ D' 18 14 = D 18 14 ∧ D' 19 0 = D 19 0 ∧ D' 10 = D 10 ∧ D' 11 = D 11 ∧ D' 21 = D 21
def SpC (W Q : Nat → Int32) : Prop := ∃ s c : Nat, s ≤ 2048 ∧ W 9 = nI s ∧ W 11 = nI c ∧ (s = 0 → c = 0) ∧ (0 < s → ∃ a : Nat, Q 1 = nI a ∧ a + s ≤ 8192 ∧ W 10 = nI (a / 448) ∧ c = (a + s - 1) / 448 - a / 448 + 1)
def F_99 (nn gg : Nat) (C me : Int32) (f u b : Nat → Int32) (D : Nat → Nat → Int32) (K A : Int64) (Y : List Mg) (ro : Int32) : SR :=
  if D 18 7 = -1 then
    bnN (0) (fun z =>
      if D 19 0 = 0 then
        if ¬ (D 10 9) = 48 then
          (0, D, K, A, Y)
        else
          (-4, D, K, A, Y)
      else
        if D 19 0 = 1 then
          bnN ((D 19 5).toNatClampNeg) (fun l =>
            bnN ((D 19 1).toNatClampNeg) (fun a =>
              if (D 18 7 < 0 ∧ D 10 9 = 48) ∨ 8192 < nI (z + (if l = 0 then 0 else a + l - z)) ∨ ro < nI (if l = 0 then 0 else a + l - z) then
                (-4, D, K, A, Y)
              else
                (nI l, va_up D 18 (upd (D 18) 9 (nI l)), K, A, Y)))
        else
          if D 19 0 = 2 then
            bnN ((D 19 5).toNatClampNeg) (fun l =>
              if (D 18 7 < 0 ∧ D 10 9 = 48) ∨ 8192 < nI (z + (if l = 0 then 0 else z + l - z)) ∨ ro < nI (if l = 0 then 0 else z + l - z) then
                (-4, va_up D 19 (upd (D 19) 1 (nI z)), K, A, Y)
              else
                (nI l, va_up (va_up D 18 (upd (D 18) 9 (nI l))) 19 (upd (D 19) 1 (nI z)), K, A, Y))
          else
            if D 19 0 = 3 then
              (-2, D, K, A, Y)
            else
              if D 19 0 = 4 then
                bnN ((D 19 1).toNatClampNeg) (fun a =>
                  bnN ((D 19 2).toNatClampNeg) (fun bb =>
                    (-2, va_up D 18 (upd (D 18) 9 (nI (min bb (z - a)))), K, A, Y)))
              else
                if D 19 0 = 5 then
                  (-2, D, K, A, Y)
                else
                  if D 19 0 = 6 then
                    if D 18 8 = -1 then
                      (-2, D, K, A, Y)
                    else
                      bnN ((D 18 8).toNatClampNeg) (fun oi =>
                        (-2, D, K, A, Y))
                  else
                    if D 19 0 = 7 then
                      if D 18 8 = -1 then
                        (-2, D, K, A, Y)
                      else
                        bnN ((D 18 8).toNatClampNeg) (fun oi =>
                          (-2, D, K, A, Y))
                    else
                      if D 19 0 = 8 then
                        (-2, D, K, A, Y)
                      else
                        if D 18 8 = -1 then
                          (-2, D, K, A, Y)
                        else
                          bnN ((D 18 8).toNatClampNeg) (fun oi =>
                            bnN ((D 13 oi).toNatClampNeg) (fun m =>
                              (nI m, D, K, A, Y))))
  else
    bnN ((D 18 7).toNatClampNeg) (fun fi =>
      bnN ((D 12 fi).toNatClampNeg) (fun z =>
        if D 19 0 = 0 then
          (-3, D, K, A, Y)
        else
          if D 19 0 = 1 then
            bnN ((D 19 5).toNatClampNeg) (fun l =>
              bnN ((D 19 1).toNatClampNeg) (fun a =>
                if (D 18 7 < 0 ∧ D 10 9 = 48) ∨ 8192 < nI (z + (if l = 0 then 0 else a + l - z)) ∨ ro < nI (if l = 0 then 0 else a + l - z) then
                  (-4, D, K, A, Y)
                else
                  (nI l, va_up D 18 (upd (D 18) 9 (nI l)), K, A, Y)))
          else
            if D 19 0 = 2 then
              bnN ((D 19 5).toNatClampNeg) (fun l =>
                if (D 18 7 < 0 ∧ D 10 9 = 48) ∨ 8192 < nI (z + (if l = 0 then 0 else z + l - z)) ∨ ro < nI (if l = 0 then 0 else z + l - z) then
                  (-4, va_up D 19 (upd (D 19) 1 (nI z)), K, A, Y)
                else
                  (nI l, va_up (va_up D 18 (upd (D 18) 9 (nI l))) 19 (upd (D 19) 1 (nI z)), K, A, Y))
            else
              if D 19 0 = 3 then
                bnN ((D 19 1).toNatClampNeg) (fun a =>
                  if nI a - nI z ≤ ro then
                    bnN (if a < z ∧ ¬ a % 448 = 0 ∧ ¬ D 16 (fi * 20 + a / 448) < 0 then 1 else 0) (fun sp =>
                      (nI z, va_up D 18 (upd (D 18) 9 (nI sp)), K, A, Y))
                  else
                    (-4, D, K, A, Y))
              else
                if D 19 0 = 4 then
                  bnN ((D 19 1).toNatClampNeg) (fun a =>
                    bnN ((D 19 2).toNatClampNeg) (fun bb =>
                      (nI (min bb (z - a)), va_up D 18 (upd (D 18) 9 (nI (min bb (z - a)))), K, A, Y)))
                else
                  if D 19 0 = 5 then
                    (nI z, D, K, A, Y)
                  else
                    if D 19 0 = 6 then
                      if D 18 8 = -1 then
                        (0, D, K, A, Y)
                      else
                        bnN ((D 18 8).toNatClampNeg) (fun oi =>
                          if (nI oi) = (nI fi) then
                            (0, D, K, A, Y)
                          else
                            (1, D, K, A, Y))
                    else
                      if D 19 0 = 7 then
                        if D 18 8 = -1 then
                          (-2, D, K, A, Y)
                        else
                          bnN ((D 18 8).toNatClampNeg) (fun oi =>
                            (0, D, K, A, Y))
                      else
                        if D 19 0 = 8 then
                          (nI z, D, K, A, Y)
                        else
                          if D 18 8 = -1 then
                            (-2, D, K, A, Y)
                          else
                            bnN ((D 18 8).toNatClampNeg) (fun oi =>
                              bnN ((D 13 oi).toNatClampNeg) (fun m =>
                                (nI m, D, K, A, Y)))))
set_option maxRecDepth 100000 in
theorem s_99 {L : Nat} {xs : Nat → Int32} {fr lo : Nat} {Z : ZT} {n nd nn gg : Nat} {C me : Int32} {f : Nat → Int32} {q : Nat} {u b : Nat → Int32} {uv : Int32} {h0 h : ax_H} {D : Nat → Nat → Int32} {K A : Int64} {Y : List Mg} {ro : Int32} (hfr : 3 ≤ fr) (hlo : 90 ≤ lo) (hC : CS n nd nn gg f) (hS : NS Z n nd nn gg C me f q u b uv h0 h D K A Y) (hI : NI Z nn D) (h3 : D 18 3 = 1) (h7 : OKf (D 11) (D 18 7)) (h8 : OKf (D 11) (D 18 8)) (h9 : D 18 9 = 0) : ax_M L xs 99 fr lo [.ref (nd + 18), .int ro] h (fun r h' => ∃ y : Int32, r = some (.int y) ∧ PS Z n nd nn gg C me f q u b uv h0 h' (fun D' K' A' Y' => (y, D', K', A', Y') = F_99 nn gg C me f u b D K A Y ro ∧ SM D D' ∧ D' 18 11 = D 18 11 ∧ (¬ y < 0 → AnC (D' 10 9) (D' 18) (D' 19) y))) := by
  have hC0 := hC
  show ax_A (ax_step L xs) ((99, 0, fr, lo), [(0, .ref (nd + 18)), (1, .int ro)], [], h) _
  obtain ⟨hnd, hn0, hnn3, hnn, hgg1, hgg, hRg⟩ := hC
  obtain ⟨hF, hN, hf, hn, hs, hp0, hu0⟩ := hS
  replace hF : ax_hs h [cNd n nd me D, cDk nd D, cAr nd 2 35840 D, cAr nd 3 4096 D, cAr nd 4 32 D, cAr nd 5 280 D, cAr nd 6 280 D, cLd n nd me D A, cAr nd 8 16 D, cAr nd 9 280 D, cTb nd gg D K, cAr nd 11 48 D, cAr nd 12 48 D, cAr nd 13 48 D, cAr nd 14 2400 D, cAr nd 15 512 D, cAr nd 16 961 D, cAr nd 17 961 D, cWk nd D, cWa nd D, cAr nd 20 612 D, cAr nd 21 1152 D, cRk n nn gg C, cOr n nn gg f] := hF
  obtain ⟨⟨k1, k2, k3, k4, k5, k6⟩, -, w11, wop, -, -, -, wB⟩ := hI.2.2.1
  have hop := wop (by rw [h3]; decide)
  have h7c : D 18 7 = -1 ∨ ∃ p : Nat, p < 48 ∧ D 18 7 = nI p ∧ ¬ D 11 p < 0 := h7
  rcases h7c with e7 | ⟨fi, hfi, e7, hfj⟩
  · obtain ⟨z, hz, ez⟩ : ∃ z : Nat, z = 0 ∧ (0 : Int32) = nI z := ⟨0, rfl, rfl⟩
    refine ar_aload_n 1 d_99_0 rfl rfl ?_
    refine ar_getf 4 d_99_1 rfl (ci := 10) (k := 7) rfl (hF.at 18 rfl) rfl ?_
    refine ar_top (x' := -1) (e7) ?_
    refine ar_if_ge 11 7 d_99_4 (by decide) rfl (fun c => absurd c (by decide)) (fun _ => ?_)
    refine ar_iconst 8 (v := 0) d_99_7 rfl (by decide) ?_
    refine ar_top (x' := nI z) (ez) ?_
    refine ar_goto 23 d_99_8 (by decide) ?_
    refine ar_istore_n 24 [(0, .ref (nd + 18)), (1, .int ro), (2, .int (nI z))] d_99_23 rfl (by decide) rfl ?_
    refine ar_aload_n 25 d_99_24 rfl rfl ?_
    refine ar_getf 28 d_99_25 rfl (ci := 10) (k := 1) rfl (hF.at 18 rfl) rfl ?_
    refine ar_getf 31 d_99_28 rfl (ci := 5) (k := 0) rfl (hF.at 19 rfl) rfl ?_
    rcases in10 k1 with hk | hk | hk | hk | hk | hk | hk | hk | hk | hk
    · refine ar_tabIn 84 d_99_31 (by rw [hk]; decide) (by rw [hk]; rfl) (by decide) ?_
      refine ar_aload_n 85 d_99_84 rfl rfl ?_
      refine ar_getf 88 d_99_85 rfl (ci := 10) (k := 7) rfl (hF.at 18 rfl) rfl ?_
      refine ar_top (x' := -1) (e7) ?_
      refine ar_if_lt 96 91 d_99_88 (by decide) rfl (fun _ => ?_) (fun c => absurd (by decide) c)
      refine ar_aload_n 97 d_99_96 rfl rfl ?_
      refine ar_getf 100 d_99_97 rfl (ci := 10) (k := 0) rfl (hF.at 18 rfl) rfl ?_
      refine ar_getf 103 d_99_100 rfl (ci := 6) (k := 9) rfl (hF.at 10 rfl) rfl ?_
      refine ar_bipush 105 (v := 48) d_99_103 rfl (by decide) ?_
      refine ar_icmp_ne 113 108 d_99_105 (by decide) rfl (fun c1 => ?_) (fun c1 => ?_)
      · refine ar_iconst 114 (v := 0) d_99_113 rfl (by decide) ?_
        have hS9 : NS Z n nd nn gg C me f q u b uv h0 h D K A Y := ⟨hF, hN, hf, hn, hs, hp0, hu0⟩
        have hI9 : NI Z nn D := ⟨hI.1, hI.2.1, WI.wait h3 ⟨k1, k2, k3, k4, k5, k6⟩ w11 hop wB, hI.2.2.2⟩
        exact ar_iret d_99_114 rfl rfl (⟨_, rfl, _, _, _, _, hS9, hI9, eq_ifT e7 (bnN_eq hz (eq_ifT hk (eq_ifT c1 (rfl)))), ⟨rfl, rfl, rfl, rfl, rfl, rfl, rfl, rfl, rfl, rfl⟩, rfl, fun _ => ⟨Or.inr (Or.inr ⟨fun _ => ⟨Or.inl hk, c1⟩, fun z => absurd (hk.symm.trans z) (by decide), fun z => absurd (hk.symm.trans z) (by decide)⟩), ⟨0, by omega, h9, fun z => absurd z (by omega)⟩, fun z => absurd (hk.symm.trans z) (by decide), fun z => absurd (hk.symm.trans z) (by decide), fun z => by rcases z with z | z <;> exact absurd (hk.symm.trans z) (by decide)⟩⟩)
      · refine ar_bipush 110 (v := -4) d_99_108 rfl (by decide) ?_
        refine ar_goto 114 d_99_110 (by decide) ?_
        have hS9 : NS Z n nd nn gg C me f q u b uv h0 h D K A Y := ⟨hF, hN, hf, hn, hs, hp0, hu0⟩
        have hI9 : NI Z nn D := ⟨hI.1, hI.2.1, WI.wait h3 ⟨k1, k2, k3, k4, k5, k6⟩ w11 hop wB, hI.2.2.2⟩
        exact ar_iret d_99_114 rfl rfl (⟨_, rfl, _, _, _, _, hS9, hI9, eq_ifT e7 (bnN_eq hz (eq_ifT hk (eq_ifF c1 (rfl)))), ⟨rfl, rfl, rfl, rfl, rfl, rfl, rfl, rfl, rfl, rfl⟩, rfl, fun z => absurd (by decide) z⟩)
    · refine ar_tabIn 115 d_99_31 (by rw [hk]; decide) (by rw [hk]; rfl) (by decide) ?_
      obtain ⟨l, hl, el⟩ := id k6
      obtain ⟨a, ha, ea⟩ := k2 (Or.inl hk)
      refine ar_aload_n 116 d_99_115 rfl rfl ?_
      refine ar_iload_n 117 d_99_116 rfl rfl ?_
      refine ar_iload_n 118 d_99_117 rfl rfl ?_
      have hF5 : ax_hs h [(nd + 18, .inr (10, [.ref (nd + 10), .ref (nd + 19), .ref (nd + 21), .int (D 18 3), .int (D 18 4), .int (D 18 5), .int (D 18 6), .int (D 18 7), .int (D 18 8), .int (D 18 9), .int (D 18 10), .int (D 18 11), .int (D 18 12), .int (D 18 13), .int (D 18 14)])), (nd + 19, .inr (5, [.int (D 19 0), .int (nI a), .int (D 19 2), .int (D 19 3), .int (D 19 4), .int (nI l), .int (D 19 6), .ref (nd + 20)])), (nd + 10, .inr (6, [.int (nI gg), .ref (nd + 11), .ref (nd + 12), .ref (nd + 13), .ref (nd + 14), .ref (nd + 15), .ref (nd + 16), .ref (nd + 17), .long K, .int (D 10 9), .int (D 10 10)]))] := by
        have e := hF.sub (F' := [(nd + 18, .inr (10, [.ref (nd + 10), .ref (nd + 19), .ref (nd + 21), .int (D 18 3), .int (D 18 4), .int (D 18 5), .int (D 18 6), .int (D 18 7), .int (D 18 8), .int (D 18 9), .int (D 18 10), .int (D 18 11), .int (D 18 12), .int (D 18 13), .int (D 18 14)])), (nd + 19, .inr (5, [.int (D 19 0), .int (D 19 1), .int (D 19 2), .int (D 19 3), .int (D 19 4), .int (D 19 5), .int (D 19 6), .ref (nd + 20)])), (nd + 10, .inr (6, [.int (nI gg), .ref (nd + 11), .ref (nd + 12), .ref (nd + 13), .ref (nd + 14), .ref (nd + 15), .ref (nd + 16), .ref (nd + 17), .long K, .int (D 10 9), .int (D 10 10)]))]) [18, 19, 10] rfl rfl
        rw [ea, el] at e
        exact e
      refine ar_call (r := []) (na := 0) (kd := 0) (cm := 100) (fr2 := fr - 1) (lo2 := lo - 23) 121 d_99_118 (ar_hoV (as := [.int (nI z), .int ro]) rfl rfl rfl (hF.at 18 rfl)) rfl (by omega) (show lo - 23 + (19 + 4) = lo by omega) (Nat.le_of_ble_eq_true rfl) (Nat.le_of_ble_eq_true rfl) (c_100E (a := a) (by omega) (by omega) (by omega) (by omega) (by omega) hF5) ?_
      intro v hh hq
      have hq9 := hq
      rcases hq9 with ⟨hfw, rfl, ehh⟩ | ⟨hfw, rfl, hfl, hal, rfl⟩
      · rw [ehh]
        clear ehh
        have hS9 : NS Z n nd nn gg C me f q u b uv h0 h D K A Y := ⟨hF, hN, hf, hn, hs, hp0, hu0⟩
        have hI9 : NI Z nn D := ⟨hI.1, hI.2.1, WI.wait h3 ⟨k1, k2, k3, k4, k5, k6⟩ w11 hop wB, hI.2.2.2⟩
        exact ar_iret d_99_121 rfl rfl (⟨_, rfl, _, _, _, _, hS9, hI9, eq_ifT e7 (bnN_eq hz (eq_ifF (neq hk (by decide)) (eq_ifT hk (bnN_eq (cl_eq hl el) (bnN_eq (cl_eq ha ea) (eq_ifT hfw (rfl))))))), ⟨rfl, rfl, rfl, rfl, rfl, rfl, rfl, rfl, rfl, rfl⟩, rfl, fun z => absurd (by decide) z⟩)
      · replace hF : ax_hs (ax_put h (nd + 18) (.inr (10, [.ref (nd + 10), .ref (nd + 19), .ref (nd + 21), .int (D 18 3), .int (D 18 4), .int (D 18 5), .int (D 18 6), .int (D 18 7), .int (D 18 8), .int (nI l), .int (D 18 10), .int (D 18 11), .int (D 18 12), .int (D 18 13), .int (D 18 14)]))) [cNd n nd me D, cDk nd D, cAr nd 2 35840 D, cAr nd 3 4096 D, cAr nd 4 32 D, cAr nd 5 280 D, cAr nd 6 280 D, cLd n nd me D A, cAr nd 8 16 D, cAr nd 9 280 D, cTb nd gg D K, cAr nd 11 48 D, cAr nd 12 48 D, cAr nd 13 48 D, cAr nd 14 2400 D, cAr nd 15 512 D, cAr nd 16 961 D, cAr nd 17 961 D, (nd + 18, .inr (10, [.ref (nd + 10), .ref (nd + 19), .ref (nd + 21), .int (D 18 3), .int (D 18 4), .int (D 18 5), .int (D 18 6), .int (D 18 7), .int (D 18 8), .int (nI l), .int (D 18 10), .int (D 18 11), .int (D 18 12), .int (D 18 13), .int (D 18 14)])), cWa nd D, cAr nd 20 612 D, cAr nd 21 1152 D, cRk n nn gg C, cOr n nn gg f] := hF.put 18 _ rfl rfl
        replace hf := hf.put (a := nd + 18) (c := .inr (10, [.ref (nd + 10), .ref (nd + 19), .ref (nd + 21), .int (D 18 3), .int (D 18 4), .int (D 18 5), .int (D 18 6), .int (D 18 7), .int (D 18 8), .int (nI l), .int (D 18 10), .int (D 18 11), .int (D 18 12), .int (D 18 13), .int (D 18 14)])) (Or.inr (by omega))
        replace hN := hN.put (a := nd + 18) (c := .inr (10, [.ref (nd + 10), .ref (nd + 19), .ref (nd + 21), .int (D 18 3), .int (D 18 4), .int (D 18 5), .int (D 18 6), .int (D 18 7), .int (D 18 8), .int (nI l), .int (D 18 10), .int (D 18 11), .int (D 18 12), .int (D 18 13), .int (D 18 14)])) (by omega)
        replace hn : (ax_put h (nd + 18) (.inr (10, [.ref (nd + 10), .ref (nd + 19), .ref (nd + 21), .int (D 18 3), .int (D 18 4), .int (D 18 5), .int (D 18 6), .int (D 18 7), .int (D 18 8), .int (nI l), .int (D 18 10), .int (D 18 11), .int (D 18 12), .int (D 18 13), .int (D 18 14)]))).1 = h0.1 := hn
        replace hs : (ax_put h (nd + 18) (.inr (10, [.ref (nd + 10), .ref (nd + 19), .ref (nd + 21), .int (D 18 3), .int (D 18 4), .int (D 18 5), .int (D 18 6), .int (D 18 7), .int (D 18 8), .int (nI l), .int (D 18 10), .int (D 18 11), .int (D 18 12), .int (D 18 13), .int (D 18 14)]))).2.1 = h0.2.1 := hs
        generalize ax_put h (nd + 18) (.inr (10, [.ref (nd + 10), .ref (nd + 19), .ref (nd + 21), .int (D 18 3), .int (D 18 4), .int (D 18 5), .int (D 18 6), .int (D 18 7), .int (D 18 8), .int (nI l), .int (D 18 10), .int (D 18 11), .int (D 18 12), .int (D 18 13), .int (D 18 14)])) = hp_1 at hF hf hN hn hs ⊢
        have hS9 : NS Z n nd nn gg C me f q u b uv h0 hp_1 (va_up D 18 (upd (D 18) 9 (nI l))) K A Y := ⟨hF, hN, hf, hn, hs, hp0, hu0⟩
        have hI9 : NI Z nn (va_up D 18 (upd (D 18) 9 (nI l))) := ⟨hI.1, hI.2.1, WI.wait h3 ⟨k1, k2, k3, k4, k5, k6⟩ w11 hop wB, hI.2.2.2⟩
        exact ar_iret d_99_121 rfl rfl (⟨_, rfl, _, _, _, _, hS9, hI9, eq_ifT e7 (bnN_eq hz (eq_ifF (neq hk (by decide)) (eq_ifT hk (bnN_eq (cl_eq hl el) (bnN_eq (cl_eq ha ea) (eq_ifF hfw (rfl))))))), ⟨rfl, rfl, rfl, rfl, rfl, rfl, rfl, rfl, rfl, rfl⟩, rfl, fun _ => ⟨Or.inr (Or.inr ⟨fun e => ⟨Or.inr (Or.inl hk), hfl (by rw [show D 18 7 = -1 from e]; decide)⟩, fun z => absurd (hk.symm.trans z) (by decide), fun z => absurd (hk.symm.trans z) (by decide)⟩), ⟨l, by omega, rfl, fun h9 => ⟨_, ea, hal h9⟩⟩, fun z => absurd (hk.symm.trans z) (by decide), fun z => absurd (hk.symm.trans z) (by decide), fun z => by rcases z with z | z <;> exact absurd (hk.symm.trans z) (by decide)⟩⟩)
    · refine ar_tabIn 122 d_99_31 (by rw [hk]; decide) (by rw [hk]; rfl) (by decide) ?_
      obtain ⟨l, hl, el⟩ := id k6
      refine ar_aload_n 123 d_99_122 rfl rfl ?_
      refine ar_getf 126 d_99_123 rfl (ci := 10) (k := 1) rfl (hF.at 18 rfl) rfl ?_
      refine ar_iload_n 127 d_99_126 rfl rfl ?_
      refine ar_putf 130 [.int (D 19 0), .int (nI z), .int (D 19 2), .int (D 19 3), .int (D 19 4), .int (D 19 5), .int (D 19 6), .ref (nd + 20)] d_99_127 rfl (ci := 5) (k := 1) rfl rfl (hF.at 19 rfl) (Nat.le_of_ble_eq_true rfl) rfl rfl rfl ?_
      replace hF : ax_hs (ax_put h (nd + 19) (.inr (5, [.int (D 19 0), .int (nI z), .int (D 19 2), .int (D 19 3), .int (D 19 4), .int (D 19 5), .int (D 19 6), .ref (nd + 20)]))) [cNd n nd me D, cDk nd D, cAr nd 2 35840 D, cAr nd 3 4096 D, cAr nd 4 32 D, cAr nd 5 280 D, cAr nd 6 280 D, cLd n nd me D A, cAr nd 8 16 D, cAr nd 9 280 D, cTb nd gg D K, cAr nd 11 48 D, cAr nd 12 48 D, cAr nd 13 48 D, cAr nd 14 2400 D, cAr nd 15 512 D, cAr nd 16 961 D, cAr nd 17 961 D, cWk nd D, (nd + 19, .inr (5, [.int (D 19 0), .int (nI z), .int (D 19 2), .int (D 19 3), .int (D 19 4), .int (D 19 5), .int (D 19 6), .ref (nd + 20)])), cAr nd 20 612 D, cAr nd 21 1152 D, cRk n nn gg C, cOr n nn gg f] := hF.put 19 _ rfl rfl
      replace hf := hf.put (a := nd + 19) (c := .inr (5, [.int (D 19 0), .int (nI z), .int (D 19 2), .int (D 19 3), .int (D 19 4), .int (D 19 5), .int (D 19 6), .ref (nd + 20)])) (Or.inr (by omega))
      replace hN := hN.put (a := nd + 19) (c := .inr (5, [.int (D 19 0), .int (nI z), .int (D 19 2), .int (D 19 3), .int (D 19 4), .int (D 19 5), .int (D 19 6), .ref (nd + 20)])) (by omega)
      replace hn : (ax_put h (nd + 19) (.inr (5, [.int (D 19 0), .int (nI z), .int (D 19 2), .int (D 19 3), .int (D 19 4), .int (D 19 5), .int (D 19 6), .ref (nd + 20)]))).1 = h0.1 := hn
      replace hs : (ax_put h (nd + 19) (.inr (5, [.int (D 19 0), .int (nI z), .int (D 19 2), .int (D 19 3), .int (D 19 4), .int (D 19 5), .int (D 19 6), .ref (nd + 20)]))).2.1 = h0.2.1 := hs
      generalize ax_put h (nd + 19) (.inr (5, [.int (D 19 0), .int (nI z), .int (D 19 2), .int (D 19 3), .int (D 19 4), .int (D 19 5), .int (D 19 6), .ref (nd + 20)])) = hp_2 at hF hf hN hn hs ⊢
      refine ar_aload_n 131 d_99_130 rfl rfl ?_
      refine ar_iload_n 132 d_99_131 rfl rfl ?_
      refine ar_iload_n 133 d_99_132 rfl rfl ?_
      have hF5 : ax_hs hp_2 [(nd + 18, .inr (10, [.ref (nd + 10), .ref (nd + 19), .ref (nd + 21), .int (D 18 3), .int (D 18 4), .int (D 18 5), .int (D 18 6), .int (D 18 7), .int (D 18 8), .int (D 18 9), .int (D 18 10), .int (D 18 11), .int (D 18 12), .int (D 18 13), .int (D 18 14)])), (nd + 19, .inr (5, [.int (D 19 0), .int (nI z), .int (D 19 2), .int (D 19 3), .int (D 19 4), .int (nI l), .int (D 19 6), .ref (nd + 20)])), (nd + 10, .inr (6, [.int (nI gg), .ref (nd + 11), .ref (nd + 12), .ref (nd + 13), .ref (nd + 14), .ref (nd + 15), .ref (nd + 16), .ref (nd + 17), .long K, .int (D 10 9), .int (D 10 10)]))] := by
        have e := hF.sub (F' := [(nd + 18, .inr (10, [.ref (nd + 10), .ref (nd + 19), .ref (nd + 21), .int (D 18 3), .int (D 18 4), .int (D 18 5), .int (D 18 6), .int (D 18 7), .int (D 18 8), .int (D 18 9), .int (D 18 10), .int (D 18 11), .int (D 18 12), .int (D 18 13), .int (D 18 14)])), (nd + 19, .inr (5, [.int (D 19 0), .int (nI z), .int (D 19 2), .int (D 19 3), .int (D 19 4), .int (D 19 5), .int (D 19 6), .ref (nd + 20)])), (nd + 10, .inr (6, [.int (nI gg), .ref (nd + 11), .ref (nd + 12), .ref (nd + 13), .ref (nd + 14), .ref (nd + 15), .ref (nd + 16), .ref (nd + 17), .long K, .int (D 10 9), .int (D 10 10)]))]) [18, 19, 10] rfl rfl
        rw [el] at e
        exact e
      refine ar_call (r := []) (na := 0) (kd := 0) (cm := 100) (fr2 := fr - 1) (lo2 := lo - 23) 136 d_99_133 (ar_hoV (as := [.int (nI z), .int ro]) rfl rfl rfl (hF.at 18 rfl)) rfl (by omega) (show lo - 23 + (19 + 4) = lo by omega) (Nat.le_of_ble_eq_true rfl) (Nat.le_of_ble_eq_true rfl) (c_100E (a := z) (by omega) (by omega) (by omega) (by omega) (by omega) hF5) ?_
      intro v hh hq
      have hq9 := hq
      rcases hq9 with ⟨hfw, rfl, ehh⟩ | ⟨hfw, rfl, hfl, hal, rfl⟩
      · rw [ehh]
        clear ehh
        have hS9 : NS Z n nd nn gg C me f q u b uv h0 hp_2 (va_up D 19 (upd (D 19) 1 (nI z))) K A Y := ⟨hF, hN, hf, hn, hs, hp0, hu0⟩
        have hI9 : NI Z nn (va_up D 19 (upd (D 19) 1 (nI z))) := ⟨hI.1, hI.2.1, WI.wait h3 ⟨k1, fun _ => ⟨z, by omega, rfl⟩, k3, k4, k5, k6⟩ w11 hop wB, hI.2.2.2⟩
        exact ar_iret d_99_136 rfl rfl (⟨_, rfl, _, _, _, _, hS9, hI9, eq_ifT e7 (bnN_eq hz (eq_ifF (neq hk (by decide)) (eq_ifF (neq hk (by decide)) (eq_ifT hk (bnN_eq (cl_eq hl el) (eq_ifT hfw (rfl))))))), ⟨rfl, rfl, rfl, rfl, rfl, rfl, rfl, rfl, rfl, rfl⟩, rfl, fun z => absurd (by decide) z⟩)
      · replace hF : ax_hs (ax_put hp_2 (nd + 18) (.inr (10, [.ref (nd + 10), .ref (nd + 19), .ref (nd + 21), .int (D 18 3), .int (D 18 4), .int (D 18 5), .int (D 18 6), .int (D 18 7), .int (D 18 8), .int (nI l), .int (D 18 10), .int (D 18 11), .int (D 18 12), .int (D 18 13), .int (D 18 14)]))) [cNd n nd me D, cDk nd D, cAr nd 2 35840 D, cAr nd 3 4096 D, cAr nd 4 32 D, cAr nd 5 280 D, cAr nd 6 280 D, cLd n nd me D A, cAr nd 8 16 D, cAr nd 9 280 D, cTb nd gg D K, cAr nd 11 48 D, cAr nd 12 48 D, cAr nd 13 48 D, cAr nd 14 2400 D, cAr nd 15 512 D, cAr nd 16 961 D, cAr nd 17 961 D, (nd + 18, .inr (10, [.ref (nd + 10), .ref (nd + 19), .ref (nd + 21), .int (D 18 3), .int (D 18 4), .int (D 18 5), .int (D 18 6), .int (D 18 7), .int (D 18 8), .int (nI l), .int (D 18 10), .int (D 18 11), .int (D 18 12), .int (D 18 13), .int (D 18 14)])), (nd + 19, .inr (5, [.int (D 19 0), .int (nI z), .int (D 19 2), .int (D 19 3), .int (D 19 4), .int (D 19 5), .int (D 19 6), .ref (nd + 20)])), cAr nd 20 612 D, cAr nd 21 1152 D, cRk n nn gg C, cOr n nn gg f] := hF.put 18 _ rfl rfl
        replace hf := hf.put (a := nd + 18) (c := .inr (10, [.ref (nd + 10), .ref (nd + 19), .ref (nd + 21), .int (D 18 3), .int (D 18 4), .int (D 18 5), .int (D 18 6), .int (D 18 7), .int (D 18 8), .int (nI l), .int (D 18 10), .int (D 18 11), .int (D 18 12), .int (D 18 13), .int (D 18 14)])) (Or.inr (by omega))
        replace hN := hN.put (a := nd + 18) (c := .inr (10, [.ref (nd + 10), .ref (nd + 19), .ref (nd + 21), .int (D 18 3), .int (D 18 4), .int (D 18 5), .int (D 18 6), .int (D 18 7), .int (D 18 8), .int (nI l), .int (D 18 10), .int (D 18 11), .int (D 18 12), .int (D 18 13), .int (D 18 14)])) (by omega)
        replace hn : (ax_put hp_2 (nd + 18) (.inr (10, [.ref (nd + 10), .ref (nd + 19), .ref (nd + 21), .int (D 18 3), .int (D 18 4), .int (D 18 5), .int (D 18 6), .int (D 18 7), .int (D 18 8), .int (nI l), .int (D 18 10), .int (D 18 11), .int (D 18 12), .int (D 18 13), .int (D 18 14)]))).1 = h0.1 := hn
        replace hs : (ax_put hp_2 (nd + 18) (.inr (10, [.ref (nd + 10), .ref (nd + 19), .ref (nd + 21), .int (D 18 3), .int (D 18 4), .int (D 18 5), .int (D 18 6), .int (D 18 7), .int (D 18 8), .int (nI l), .int (D 18 10), .int (D 18 11), .int (D 18 12), .int (D 18 13), .int (D 18 14)]))).2.1 = h0.2.1 := hs
        generalize ax_put hp_2 (nd + 18) (.inr (10, [.ref (nd + 10), .ref (nd + 19), .ref (nd + 21), .int (D 18 3), .int (D 18 4), .int (D 18 5), .int (D 18 6), .int (D 18 7), .int (D 18 8), .int (nI l), .int (D 18 10), .int (D 18 11), .int (D 18 12), .int (D 18 13), .int (D 18 14)])) = hp_3 at hF hf hN hn hs ⊢
        have hS9 : NS Z n nd nn gg C me f q u b uv h0 hp_3 (va_up (va_up D 18 (upd (D 18) 9 (nI l))) 19 (upd (D 19) 1 (nI z))) K A Y := ⟨hF, hN, hf, hn, hs, hp0, hu0⟩
        have hI9 : NI Z nn (va_up (va_up D 18 (upd (D 18) 9 (nI l))) 19 (upd (D 19) 1 (nI z))) := ⟨hI.1, hI.2.1, WI.wait h3 ⟨k1, fun _ => ⟨z, by omega, rfl⟩, k3, k4, k5, k6⟩ w11 hop wB, hI.2.2.2⟩
        exact ar_iret d_99_136 rfl rfl (⟨_, rfl, _, _, _, _, hS9, hI9, eq_ifT e7 (bnN_eq hz (eq_ifF (neq hk (by decide)) (eq_ifF (neq hk (by decide)) (eq_ifT hk (bnN_eq (cl_eq hl el) (eq_ifF hfw (rfl))))))), ⟨rfl, rfl, rfl, rfl, rfl, rfl, rfl, rfl, rfl, rfl⟩, rfl, fun _ => ⟨Or.inr (Or.inr ⟨fun e => ⟨Or.inr (Or.inr hk), hfl (by rw [show D 18 7 = -1 from e]; decide)⟩, fun z => absurd (hk.symm.trans z) (by decide), fun z => absurd (hk.symm.trans z) (by decide)⟩), ⟨l, by omega, rfl, fun h9 => ⟨_, rfl, hal h9⟩⟩, fun _ => ⟨z, by omega, rfl⟩, fun z => absurd (hk.symm.trans z) (by decide), fun z => by rcases z with z | z <;> exact absurd (hk.symm.trans z) (by decide)⟩⟩)
    · refine ar_tabIn 137 d_99_31 (by rw [hk]; decide) (by rw [hk]; rfl) (by decide) ?_
      refine ar_aload_n 138 d_99_137 rfl rfl ?_
      refine ar_getf 141 d_99_138 rfl (ci := 10) (k := 7) rfl (hF.at 18 rfl) rfl ?_
      refine ar_top (x' := -1) (e7) ?_
      refine ar_if_ge 149 144 d_99_141 (by decide) rfl (fun c => absurd c (by decide)) (fun _ => ?_)
      refine ar_bipush 146 (v := -2) d_99_144 rfl (by decide) ?_
      refine ar_goto 155 d_99_146 (by decide) ?_
      have hS9 : NS Z n nd nn gg C me f q u b uv h0 h D K A Y := ⟨hF, hN, hf, hn, hs, hp0, hu0⟩
      have hI9 : NI Z nn D := ⟨hI.1, hI.2.1, WI.wait h3 ⟨k1, k2, k3, k4, k5, k6⟩ w11 hop wB, hI.2.2.2⟩
      exact ar_iret d_99_155 rfl rfl (⟨_, rfl, _, _, _, _, hS9, hI9, eq_ifT e7 (bnN_eq hz (eq_ifF (neq hk (by decide)) (eq_ifF (neq hk (by decide)) (eq_ifF (neq hk (by decide)) (eq_ifT hk (rfl)))))), ⟨rfl, rfl, rfl, rfl, rfl, rfl, rfl, rfl, rfl, rfl⟩, rfl, fun z => absurd (by decide) z⟩)
    · refine ar_tabIn 156 d_99_31 (by rw [hk]; decide) (by rw [hk]; rfl) (by decide) ?_
      obtain ⟨a, ha, ea⟩ := k2 (Or.inr (Or.inr hk))
      obtain ⟨bb, hbb, eb⟩ := k3 hk
      refine ar_aload_n 157 d_99_156 rfl rfl ?_
      refine ar_iconst 158 (v := 0) d_99_157 rfl (by decide) ?_
      refine ar_aload_n 159 d_99_158 rfl rfl ?_
      refine ar_getf 162 d_99_159 rfl (ci := 10) (k := 1) rfl (hF.at 18 rfl) rfl ?_
      refine ar_getf 165 d_99_162 rfl (ci := 5) (k := 2) rfl (hF.at 19 rfl) rfl ?_
      refine ar_top (x' := nI bb) (eb) ?_
      refine ar_iload_n 166 d_99_165 rfl rfl ?_
      refine ar_aload_n 167 d_99_166 rfl rfl ?_
      refine ar_getf 170 d_99_167 rfl (ci := 10) (k := 1) rfl (hF.at 18 rfl) rfl ?_
      refine ar_getf 173 d_99_170 rfl (ci := 5) (k := 1) rfl (hF.at 19 rfl) rfl ?_
      refine ar_top (x' := nI a) (ea) ?_
      refine ar_isub 174 d_99_173 rfl ?_
      refine ar_min 177 d_99_174 rfl rfl (by omega) (by show 2 + 13 ≤ lo; omega) (w := if nI z - nI a < nI bb then nI z - nI a else nI bb) (rfl) ?_
      refine ar_max 180 d_99_177 rfl rfl (by omega) (by show 1 + 13 ≤ lo; omega) (w := nI (min bb (z - a))) (max0m (by omega) (by omega) (by omega)) ?_
      refine ar_putf 183 [.ref (nd + 10), .ref (nd + 19), .ref (nd + 21), .int (D 18 3), .int (D 18 4), .int (D 18 5), .int (D 18 6), .int (D 18 7), .int (D 18 8), .int (nI (min bb (z - a))), .int (D 18 10), .int (D 18 11), .int (D 18 12), .int (D 18 13), .int (D 18 14)] d_99_180 rfl (ci := 10) (k := 9) rfl rfl (hF.at 18 rfl) (Nat.le_of_ble_eq_true rfl) rfl rfl rfl ?_
      replace hF : ax_hs (ax_put h (nd + 18) (.inr (10, [.ref (nd + 10), .ref (nd + 19), .ref (nd + 21), .int (D 18 3), .int (D 18 4), .int (D 18 5), .int (D 18 6), .int (D 18 7), .int (D 18 8), .int (nI (min bb (z - a))), .int (D 18 10), .int (D 18 11), .int (D 18 12), .int (D 18 13), .int (D 18 14)]))) [cNd n nd me D, cDk nd D, cAr nd 2 35840 D, cAr nd 3 4096 D, cAr nd 4 32 D, cAr nd 5 280 D, cAr nd 6 280 D, cLd n nd me D A, cAr nd 8 16 D, cAr nd 9 280 D, cTb nd gg D K, cAr nd 11 48 D, cAr nd 12 48 D, cAr nd 13 48 D, cAr nd 14 2400 D, cAr nd 15 512 D, cAr nd 16 961 D, cAr nd 17 961 D, (nd + 18, .inr (10, [.ref (nd + 10), .ref (nd + 19), .ref (nd + 21), .int (D 18 3), .int (D 18 4), .int (D 18 5), .int (D 18 6), .int (D 18 7), .int (D 18 8), .int (nI (min bb (z - a))), .int (D 18 10), .int (D 18 11), .int (D 18 12), .int (D 18 13), .int (D 18 14)])), cWa nd D, cAr nd 20 612 D, cAr nd 21 1152 D, cRk n nn gg C, cOr n nn gg f] := hF.put 18 _ rfl rfl
      replace hf := hf.put (a := nd + 18) (c := .inr (10, [.ref (nd + 10), .ref (nd + 19), .ref (nd + 21), .int (D 18 3), .int (D 18 4), .int (D 18 5), .int (D 18 6), .int (D 18 7), .int (D 18 8), .int (nI (min bb (z - a))), .int (D 18 10), .int (D 18 11), .int (D 18 12), .int (D 18 13), .int (D 18 14)])) (Or.inr (by omega))
      replace hN := hN.put (a := nd + 18) (c := .inr (10, [.ref (nd + 10), .ref (nd + 19), .ref (nd + 21), .int (D 18 3), .int (D 18 4), .int (D 18 5), .int (D 18 6), .int (D 18 7), .int (D 18 8), .int (nI (min bb (z - a))), .int (D 18 10), .int (D 18 11), .int (D 18 12), .int (D 18 13), .int (D 18 14)])) (by omega)
      replace hn : (ax_put h (nd + 18) (.inr (10, [.ref (nd + 10), .ref (nd + 19), .ref (nd + 21), .int (D 18 3), .int (D 18 4), .int (D 18 5), .int (D 18 6), .int (D 18 7), .int (D 18 8), .int (nI (min bb (z - a))), .int (D 18 10), .int (D 18 11), .int (D 18 12), .int (D 18 13), .int (D 18 14)]))).1 = h0.1 := hn
      replace hs : (ax_put h (nd + 18) (.inr (10, [.ref (nd + 10), .ref (nd + 19), .ref (nd + 21), .int (D 18 3), .int (D 18 4), .int (D 18 5), .int (D 18 6), .int (D 18 7), .int (D 18 8), .int (nI (min bb (z - a))), .int (D 18 10), .int (D 18 11), .int (D 18 12), .int (D 18 13), .int (D 18 14)]))).2.1 = h0.2.1 := hs
      generalize ax_put h (nd + 18) (.inr (10, [.ref (nd + 10), .ref (nd + 19), .ref (nd + 21), .int (D 18 3), .int (D 18 4), .int (D 18 5), .int (D 18 6), .int (D 18 7), .int (D 18 8), .int (nI (min bb (z - a))), .int (D 18 10), .int (D 18 11), .int (D 18 12), .int (D 18 13), .int (D 18 14)])) = hp_4 at hF hf hN hn hs ⊢
      refine ar_aload_n 184 d_99_183 rfl rfl ?_
      refine ar_getf 187 d_99_184 rfl (ci := 10) (k := 7) rfl (hF.at 18 rfl) rfl ?_
      refine ar_top (x' := -1) (e7) ?_
      refine ar_if_ge 195 190 d_99_187 (by decide) rfl (fun c => absurd c (by decide)) (fun _ => ?_)
      refine ar_bipush 192 (v := -2) d_99_190 rfl (by decide) ?_
      refine ar_goto 199 d_99_192 (by decide) ?_
      have hS9 : NS Z n nd nn gg C me f q u b uv h0 hp_4 (va_up D 18 (upd (D 18) 9 (nI (min bb (z - a))))) K A Y := ⟨hF, hN, hf, hn, hs, hp0, hu0⟩
      have hI9 : NI Z nn (va_up D 18 (upd (D 18) 9 (nI (min bb (z - a))))) := ⟨hI.1, hI.2.1, WI.wait h3 ⟨k1, k2, k3, k4, k5, k6⟩ w11 hop wB, hI.2.2.2⟩
      exact ar_iret d_99_199 rfl rfl (⟨_, rfl, _, _, _, _, hS9, hI9, eq_ifT e7 (bnN_eq hz (eq_ifF (neq hk (by decide)) (eq_ifF (neq hk (by decide)) (eq_ifF (neq hk (by decide)) (eq_ifF (neq hk (by decide)) (eq_ifT hk (bnN_eq (cl_eq ha ea) (bnN_eq (cl_eq hbb eb) (rfl))))))))), ⟨rfl, rfl, rfl, rfl, rfl, rfl, rfl, rfl, rfl, rfl⟩, rfl, fun z => absurd (by decide) z⟩)
    · refine ar_tabIn 282 d_99_31 (by rw [hk]; decide) (by rw [hk]; rfl) (by decide) ?_
      refine ar_aload_n 283 d_99_282 rfl rfl ?_
      refine ar_getf 286 d_99_283 rfl (ci := 10) (k := 7) rfl (hF.at 18 rfl) rfl ?_
      refine ar_top (x' := -1) (e7) ?_
      refine ar_if_ge 294 289 d_99_286 (by decide) rfl (fun c => absurd c (by decide)) (fun _ => ?_)
      refine ar_bipush 291 (v := -2) d_99_289 rfl (by decide) ?_
      refine ar_goto 295 d_99_291 (by decide) ?_
      have hS9 : NS Z n nd nn gg C me f q u b uv h0 h D K A Y := ⟨hF, hN, hf, hn, hs, hp0, hu0⟩
      have hI9 : NI Z nn D := ⟨hI.1, hI.2.1, WI.wait h3 ⟨k1, k2, k3, k4, k5, k6⟩ w11 hop wB, hI.2.2.2⟩
      exact ar_iret d_99_295 rfl rfl (⟨_, rfl, _, _, _, _, hS9, hI9, eq_ifT e7 (bnN_eq hz (eq_ifF (neq hk (by decide)) (eq_ifF (neq hk (by decide)) (eq_ifF (neq hk (by decide)) (eq_ifF (neq hk (by decide)) (eq_ifF (neq hk (by decide)) (eq_ifT hk (rfl)))))))), ⟨rfl, rfl, rfl, rfl, rfl, rfl, rfl, rfl, rfl, rfl⟩, rfl, fun z => absurd (by decide) z⟩)
    · refine ar_tabIn 200 d_99_31 (by rw [hk]; decide) (by rw [hk]; rfl) (by decide) ?_
      have h8c : D 18 8 = -1 ∨ ∃ p : Nat, p < 48 ∧ D 18 8 = nI p ∧ ¬ D 11 p < 0 := h8
      rcases h8c with e8 | ⟨oi, hoi, e8, hoj⟩
      · refine ar_aload_n 201 d_99_200 rfl rfl ?_
        refine ar_getf 204 d_99_201 rfl (ci := 10) (k := 7) rfl (hF.at 18 rfl) rfl ?_
        refine ar_top (x' := -1) (e7) ?_
        refine ar_if_ge 212 207 d_99_204 (by decide) rfl (fun c => absurd c (by decide)) (fun _ => ?_)
        refine ar_bipush 209 (v := -2) d_99_207 rfl (by decide) ?_
        refine ar_goto 235 d_99_209 (by decide) ?_
        have hS9 : NS Z n nd nn gg C me f q u b uv h0 h D K A Y := ⟨hF, hN, hf, hn, hs, hp0, hu0⟩
        have hI9 : NI Z nn D := ⟨hI.1, hI.2.1, WI.wait h3 ⟨k1, k2, k3, k4, k5, k6⟩ w11 hop wB, hI.2.2.2⟩
        exact ar_iret d_99_235 rfl rfl (⟨_, rfl, _, _, _, _, hS9, hI9, eq_ifT e7 (bnN_eq hz (eq_ifF (neq hk (by decide)) (eq_ifF (neq hk (by decide)) (eq_ifF (neq hk (by decide)) (eq_ifF (neq hk (by decide)) (eq_ifF (neq hk (by decide)) (eq_ifF (neq hk (by decide)) (eq_ifT hk (eq_ifT e8 (rfl)))))))))), ⟨rfl, rfl, rfl, rfl, rfl, rfl, rfl, rfl, rfl, rfl⟩, rfl, fun z => absurd (by decide) z⟩)
      · refine ar_aload_n 201 d_99_200 rfl rfl ?_
        refine ar_getf 204 d_99_201 rfl (ci := 10) (k := 7) rfl (hF.at 18 rfl) rfl ?_
        refine ar_top (x' := -1) (e7) ?_
        refine ar_if_ge 212 207 d_99_204 (by decide) rfl (fun c => absurd c (by decide)) (fun _ => ?_)
        refine ar_bipush 209 (v := -2) d_99_207 rfl (by decide) ?_
        refine ar_goto 235 d_99_209 (by decide) ?_
        have hS9 : NS Z n nd nn gg C me f q u b uv h0 h D K A Y := ⟨hF, hN, hf, hn, hs, hp0, hu0⟩
        have hI9 : NI Z nn D := ⟨hI.1, hI.2.1, WI.wait h3 ⟨k1, k2, k3, k4, k5, k6⟩ w11 hop wB, hI.2.2.2⟩
        exact ar_iret d_99_235 rfl rfl (⟨_, rfl, _, _, _, _, hS9, hI9, eq_ifT e7 (bnN_eq hz (eq_ifF (neq hk (by decide)) (eq_ifF (neq hk (by decide)) (eq_ifF (neq hk (by decide)) (eq_ifF (neq hk (by decide)) (eq_ifF (neq hk (by decide)) (eq_ifF (neq hk (by decide)) (eq_ifT hk (eq_ifF (nI_ne1 hoi e8) (bnN_eq (cl_eq hoi e8) (rfl))))))))))), ⟨rfl, rfl, rfl, rfl, rfl, rfl, rfl, rfl, rfl, rfl⟩, rfl, fun z => absurd (by decide) z⟩)
    · refine ar_tabIn 236 d_99_31 (by rw [hk]; decide) (by rw [hk]; rfl) (by decide) ?_
      have h8c : D 18 8 = -1 ∨ ∃ p : Nat, p < 48 ∧ D 18 8 = nI p ∧ ¬ D 11 p < 0 := h8
      rcases h8c with e8 | ⟨oi, hoi, e8, hoj⟩
      · refine ar_aload_n 237 d_99_236 rfl rfl ?_
        refine ar_getf 240 d_99_237 rfl (ci := 10) (k := 7) rfl (hF.at 18 rfl) rfl ?_
        refine ar_top (x' := -1) (e7) ?_
        refine ar_if_lt 250 243 d_99_240 (by decide) rfl (fun _ => ?_) (fun c => absurd (by decide) c)
        refine ar_bipush 252 (v := -2) d_99_250 rfl (by decide) ?_
        refine ar_goto 256 d_99_252 (by decide) ?_
        have hS9 : NS Z n nd nn gg C me f q u b uv h0 h D K A Y := ⟨hF, hN, hf, hn, hs, hp0, hu0⟩
        have hI9 : NI Z nn D := ⟨hI.1, hI.2.1, WI.wait h3 ⟨k1, k2, k3, k4, k5, k6⟩ w11 hop wB, hI.2.2.2⟩
        exact ar_iret d_99_256 rfl rfl (⟨_, rfl, _, _, _, _, hS9, hI9, eq_ifT e7 (bnN_eq hz (eq_ifF (neq hk (by decide)) (eq_ifF (neq hk (by decide)) (eq_ifF (neq hk (by decide)) (eq_ifF (neq hk (by decide)) (eq_ifF (neq hk (by decide)) (eq_ifF (neq hk (by decide)) (eq_ifF (neq hk (by decide)) (eq_ifT hk (eq_ifT e8 (rfl))))))))))), ⟨rfl, rfl, rfl, rfl, rfl, rfl, rfl, rfl, rfl, rfl⟩, rfl, fun z => absurd (by decide) z⟩)
      · refine ar_aload_n 237 d_99_236 rfl rfl ?_
        refine ar_getf 240 d_99_237 rfl (ci := 10) (k := 7) rfl (hF.at 18 rfl) rfl ?_
        refine ar_top (x' := -1) (e7) ?_
        refine ar_if_lt 250 243 d_99_240 (by decide) rfl (fun _ => ?_) (fun c => absurd (by decide) c)
        refine ar_bipush 252 (v := -2) d_99_250 rfl (by decide) ?_
        refine ar_goto 256 d_99_252 (by decide) ?_
        have hS9 : NS Z n nd nn gg C me f q u b uv h0 h D K A Y := ⟨hF, hN, hf, hn, hs, hp0, hu0⟩
        have hI9 : NI Z nn D := ⟨hI.1, hI.2.1, WI.wait h3 ⟨k1, k2, k3, k4, k5, k6⟩ w11 hop wB, hI.2.2.2⟩
        exact ar_iret d_99_256 rfl rfl (⟨_, rfl, _, _, _, _, hS9, hI9, eq_ifT e7 (bnN_eq hz (eq_ifF (neq hk (by decide)) (eq_ifF (neq hk (by decide)) (eq_ifF (neq hk (by decide)) (eq_ifF (neq hk (by decide)) (eq_ifF (neq hk (by decide)) (eq_ifF (neq hk (by decide)) (eq_ifF (neq hk (by decide)) (eq_ifT hk (eq_ifF (nI_ne1 hoi e8) (bnN_eq (cl_eq hoi e8) (rfl)))))))))))), ⟨rfl, rfl, rfl, rfl, rfl, rfl, rfl, rfl, rfl, rfl⟩, rfl, fun z => absurd (by decide) z⟩)
    · refine ar_tabIn 282 d_99_31 (by rw [hk]; decide) (by rw [hk]; rfl) (by decide) ?_
      refine ar_aload_n 283 d_99_282 rfl rfl ?_
      refine ar_getf 286 d_99_283 rfl (ci := 10) (k := 7) rfl (hF.at 18 rfl) rfl ?_
      refine ar_top (x' := -1) (e7) ?_
      refine ar_if_ge 294 289 d_99_286 (by decide) rfl (fun c => absurd c (by decide)) (fun _ => ?_)
      refine ar_bipush 291 (v := -2) d_99_289 rfl (by decide) ?_
      refine ar_goto 295 d_99_291 (by decide) ?_
      have hS9 : NS Z n nd nn gg C me f q u b uv h0 h D K A Y := ⟨hF, hN, hf, hn, hs, hp0, hu0⟩
      have hI9 : NI Z nn D := ⟨hI.1, hI.2.1, WI.wait h3 ⟨k1, k2, k3, k4, k5, k6⟩ w11 hop wB, hI.2.2.2⟩
      exact ar_iret d_99_295 rfl rfl (⟨_, rfl, _, _, _, _, hS9, hI9, eq_ifT e7 (bnN_eq hz (eq_ifF (neq hk (by decide)) (eq_ifF (neq hk (by decide)) (eq_ifF (neq hk (by decide)) (eq_ifF (neq hk (by decide)) (eq_ifF (neq hk (by decide)) (eq_ifF (neq hk (by decide)) (eq_ifF (neq hk (by decide)) (eq_ifF (neq hk (by decide)) (eq_ifT hk (rfl))))))))))), ⟨rfl, rfl, rfl, rfl, rfl, rfl, rfl, rfl, rfl, rfl⟩, rfl, fun z => absurd (by decide) z⟩)
    · refine ar_tabIn 257 d_99_31 (by rw [hk]; decide) (by rw [hk]; rfl) (by decide) ?_
      have h8c : D 18 8 = -1 ∨ ∃ p : Nat, p < 48 ∧ D 18 8 = nI p ∧ ¬ D 11 p < 0 := h8
      rcases h8c with e8 | ⟨oi, hoi, e8, hoj⟩
      · refine ar_aload_n 258 d_99_257 rfl rfl ?_
        refine ar_getf 261 d_99_258 rfl (ci := 10) (k := 8) rfl (hF.at 18 rfl) rfl ?_
        refine ar_top (x' := -1) (e8) ?_
        refine ar_if_ge 269 264 d_99_261 (by decide) rfl (fun c => absurd c (by decide)) (fun _ => ?_)
        refine ar_bipush 266 (v := -2) d_99_264 rfl (by decide) ?_
        refine ar_goto 281 d_99_266 (by decide) ?_
        have hS9 : NS Z n nd nn gg C me f q u b uv h0 h D K A Y := ⟨hF, hN, hf, hn, hs, hp0, hu0⟩
        have hI9 : NI Z nn D := ⟨hI.1, hI.2.1, WI.wait h3 ⟨k1, k2, k3, k4, k5, k6⟩ w11 hop wB, hI.2.2.2⟩
        exact ar_iret d_99_281 rfl rfl (⟨_, rfl, _, _, _, _, hS9, hI9, eq_ifT e7 (bnN_eq hz (eq_ifF (neq hk (by decide)) (eq_ifF (neq hk (by decide)) (eq_ifF (neq hk (by decide)) (eq_ifF (neq hk (by decide)) (eq_ifF (neq hk (by decide)) (eq_ifF (neq hk (by decide)) (eq_ifF (neq hk (by decide)) (eq_ifF (neq hk (by decide)) (eq_ifF (neq hk (by decide)) (eq_ifT e8 (rfl)))))))))))), ⟨rfl, rfl, rfl, rfl, rfl, rfl, rfl, rfl, rfl, rfl⟩, rfl, fun z => absurd (by decide) z⟩)
      · obtain ⟨m, hm, em⟩ := (hI.2.1.2.2.2.1 oi hoi).2
        refine ar_aload_n 258 d_99_257 rfl rfl ?_
        refine ar_getf 261 d_99_258 rfl (ci := 10) (k := 8) rfl (hF.at 18 rfl) rfl ?_
        refine ar_top (x' := nI oi) (e8) ?_
        refine ar_if_ge 269 264 d_99_261 (by decide) rfl (fun _ => ?_) (fun c => absurd (nI_pos' (by omega)) c)
        refine ar_aload_n 270 d_99_269 rfl rfl ?_
        refine ar_getf 273 d_99_270 rfl (ci := 10) (k := 0) rfl (hF.at 18 rfl) rfl ?_
        refine ar_getf 276 d_99_273 rfl (ci := 6) (k := 3) rfl (hF.at 10 rfl) rfl ?_
        refine ar_aload_n 277 d_99_276 rfl rfl ?_
        refine ar_getf 280 d_99_277 rfl (ci := 10) (k := 8) rfl (hF.at 18 rfl) rfl ?_
        refine ar_top (x' := nI oi) (e8) ?_
        refine ar_ialdN 281 (e := oi) d_99_280 rfl (hF.at 13 rfl) (by omega) (by omega) ?_
        refine ar_top (x' := nI m) (em) ?_
        have hS9 : NS Z n nd nn gg C me f q u b uv h0 h D K A Y := ⟨hF, hN, hf, hn, hs, hp0, hu0⟩
        have hI9 : NI Z nn D := ⟨hI.1, hI.2.1, WI.wait h3 ⟨k1, k2, k3, k4, k5, k6⟩ w11 hop wB, hI.2.2.2⟩
        exact ar_iret d_99_281 rfl rfl (⟨_, rfl, _, _, _, _, hS9, hI9, eq_ifT e7 (bnN_eq hz (eq_ifF (neq hk (by decide)) (eq_ifF (neq hk (by decide)) (eq_ifF (neq hk (by decide)) (eq_ifF (neq hk (by decide)) (eq_ifF (neq hk (by decide)) (eq_ifF (neq hk (by decide)) (eq_ifF (neq hk (by decide)) (eq_ifF (neq hk (by decide)) (eq_ifF (neq hk (by decide)) (eq_ifF (nI_ne1 hoi e8) (bnN_eq (cl_eq hoi e8) (bnN_eq (cl_eq hm em) (rfl)))))))))))))), ⟨rfl, rfl, rfl, rfl, rfl, rfl, rfl, rfl, rfl, rfl⟩, rfl, fun _ => ⟨Or.inr (Or.inl hk), ⟨0, by omega, h9, fun z => absurd z (by omega)⟩, fun z => absurd (hk.symm.trans z) (by decide), fun _ e => absurd (e8.symm.trans e) (nIm (by omega)), fun _ => ⟨m, by omega, rfl⟩⟩⟩)
  · obtain ⟨z, hz, ez⟩ := (hI.2.1.2.2.2.1 fi hfi).1
    refine ar_aload_n 1 d_99_0 rfl rfl ?_
    refine ar_getf 4 d_99_1 rfl (ci := 10) (k := 7) rfl (hF.at 18 rfl) rfl ?_
    refine ar_top (x' := nI fi) (e7) ?_
    refine ar_if_ge 11 7 d_99_4 (by decide) rfl (fun _ => ?_) (fun c => absurd (nI_pos' (by omega)) c)
    refine ar_aload_n 12 d_99_11 rfl rfl ?_
    refine ar_getf 15 d_99_12 rfl (ci := 10) (k := 0) rfl (hF.at 18 rfl) rfl ?_
    refine ar_getf 18 d_99_15 rfl (ci := 6) (k := 2) rfl (hF.at 10 rfl) rfl ?_
    refine ar_aload_n 19 d_99_18 rfl rfl ?_
    refine ar_getf 22 d_99_19 rfl (ci := 10) (k := 7) rfl (hF.at 18 rfl) rfl ?_
    refine ar_top (x' := nI fi) (e7) ?_
    refine ar_ialdN 23 (e := fi) d_99_22 rfl (hF.at 12 rfl) (by omega) (by omega) ?_
    refine ar_top (x' := nI z) (ez) ?_
    refine ar_istore_n 24 [(0, .ref (nd + 18)), (1, .int ro), (2, .int (nI z))] d_99_23 rfl (by decide) rfl ?_
    refine ar_aload_n 25 d_99_24 rfl rfl ?_
    refine ar_getf 28 d_99_25 rfl (ci := 10) (k := 1) rfl (hF.at 18 rfl) rfl ?_
    refine ar_getf 31 d_99_28 rfl (ci := 5) (k := 0) rfl (hF.at 19 rfl) rfl ?_
    rcases in10 k1 with hk | hk | hk | hk | hk | hk | hk | hk | hk | hk
    · refine ar_tabIn 84 d_99_31 (by rw [hk]; decide) (by rw [hk]; rfl) (by decide) ?_
      refine ar_aload_n 85 d_99_84 rfl rfl ?_
      refine ar_getf 88 d_99_85 rfl (ci := 10) (k := 7) rfl (hF.at 18 rfl) rfl ?_
      refine ar_top (x' := nI fi) (e7) ?_
      refine ar_if_lt 96 91 d_99_88 (by decide) rfl (fun c => absurd c (nI_pos (by omega))) (fun _ => ?_)
      refine ar_bipush 93 (v := -3) d_99_91 rfl (by decide) ?_
      refine ar_goto 114 d_99_93 (by decide) ?_
      have hS9 : NS Z n nd nn gg C me f q u b uv h0 h D K A Y := ⟨hF, hN, hf, hn, hs, hp0, hu0⟩
      have hI9 : NI Z nn D := ⟨hI.1, hI.2.1, WI.wait h3 ⟨k1, k2, k3, k4, k5, k6⟩ w11 hop wB, hI.2.2.2⟩
      exact ar_iret d_99_114 rfl rfl (⟨_, rfl, _, _, _, _, hS9, hI9, eq_ifF (nI_ne1 hfi e7) (bnN_eq (cl_eq hfi e7) (bnN_eq (cl_eq hz ez) (eq_ifT hk (rfl)))), ⟨rfl, rfl, rfl, rfl, rfl, rfl, rfl, rfl, rfl, rfl⟩, rfl, fun z => absurd (by decide) z⟩)
    · refine ar_tabIn 115 d_99_31 (by rw [hk]; decide) (by rw [hk]; rfl) (by decide) ?_
      obtain ⟨l, hl, el⟩ := id k6
      obtain ⟨a, ha, ea⟩ := k2 (Or.inl hk)
      refine ar_aload_n 116 d_99_115 rfl rfl ?_
      refine ar_iload_n 117 d_99_116 rfl rfl ?_
      refine ar_iload_n 118 d_99_117 rfl rfl ?_
      have hF5 : ax_hs h [(nd + 18, .inr (10, [.ref (nd + 10), .ref (nd + 19), .ref (nd + 21), .int (D 18 3), .int (D 18 4), .int (D 18 5), .int (D 18 6), .int (D 18 7), .int (D 18 8), .int (D 18 9), .int (D 18 10), .int (D 18 11), .int (D 18 12), .int (D 18 13), .int (D 18 14)])), (nd + 19, .inr (5, [.int (D 19 0), .int (nI a), .int (D 19 2), .int (D 19 3), .int (D 19 4), .int (nI l), .int (D 19 6), .ref (nd + 20)])), (nd + 10, .inr (6, [.int (nI gg), .ref (nd + 11), .ref (nd + 12), .ref (nd + 13), .ref (nd + 14), .ref (nd + 15), .ref (nd + 16), .ref (nd + 17), .long K, .int (D 10 9), .int (D 10 10)]))] := by
        have e := hF.sub (F' := [(nd + 18, .inr (10, [.ref (nd + 10), .ref (nd + 19), .ref (nd + 21), .int (D 18 3), .int (D 18 4), .int (D 18 5), .int (D 18 6), .int (D 18 7), .int (D 18 8), .int (D 18 9), .int (D 18 10), .int (D 18 11), .int (D 18 12), .int (D 18 13), .int (D 18 14)])), (nd + 19, .inr (5, [.int (D 19 0), .int (D 19 1), .int (D 19 2), .int (D 19 3), .int (D 19 4), .int (D 19 5), .int (D 19 6), .ref (nd + 20)])), (nd + 10, .inr (6, [.int (nI gg), .ref (nd + 11), .ref (nd + 12), .ref (nd + 13), .ref (nd + 14), .ref (nd + 15), .ref (nd + 16), .ref (nd + 17), .long K, .int (D 10 9), .int (D 10 10)]))]) [18, 19, 10] rfl rfl
        rw [ea, el] at e
        exact e
      refine ar_call (r := []) (na := 0) (kd := 0) (cm := 100) (fr2 := fr - 1) (lo2 := lo - 23) 121 d_99_118 (ar_hoV (as := [.int (nI z), .int ro]) rfl rfl rfl (hF.at 18 rfl)) rfl (by omega) (show lo - 23 + (19 + 4) = lo by omega) (Nat.le_of_ble_eq_true rfl) (Nat.le_of_ble_eq_true rfl) (c_100E (a := a) (by omega) (by omega) (by omega) (by omega) (by omega) hF5) ?_
      intro v hh hq
      have hq9 := hq
      rcases hq9 with ⟨hfw, rfl, ehh⟩ | ⟨hfw, rfl, hfl, hal, rfl⟩
      · rw [ehh]
        clear ehh
        have hS9 : NS Z n nd nn gg C me f q u b uv h0 h D K A Y := ⟨hF, hN, hf, hn, hs, hp0, hu0⟩
        have hI9 : NI Z nn D := ⟨hI.1, hI.2.1, WI.wait h3 ⟨k1, k2, k3, k4, k5, k6⟩ w11 hop wB, hI.2.2.2⟩
        exact ar_iret d_99_121 rfl rfl (⟨_, rfl, _, _, _, _, hS9, hI9, eq_ifF (nI_ne1 hfi e7) (bnN_eq (cl_eq hfi e7) (bnN_eq (cl_eq hz ez) (eq_ifF (neq hk (by decide)) (eq_ifT hk (bnN_eq (cl_eq hl el) (bnN_eq (cl_eq ha ea) (eq_ifT hfw (rfl)))))))), ⟨rfl, rfl, rfl, rfl, rfl, rfl, rfl, rfl, rfl, rfl⟩, rfl, fun z => absurd (by decide) z⟩)
      · replace hF : ax_hs (ax_put h (nd + 18) (.inr (10, [.ref (nd + 10), .ref (nd + 19), .ref (nd + 21), .int (D 18 3), .int (D 18 4), .int (D 18 5), .int (D 18 6), .int (D 18 7), .int (D 18 8), .int (nI l), .int (D 18 10), .int (D 18 11), .int (D 18 12), .int (D 18 13), .int (D 18 14)]))) [cNd n nd me D, cDk nd D, cAr nd 2 35840 D, cAr nd 3 4096 D, cAr nd 4 32 D, cAr nd 5 280 D, cAr nd 6 280 D, cLd n nd me D A, cAr nd 8 16 D, cAr nd 9 280 D, cTb nd gg D K, cAr nd 11 48 D, cAr nd 12 48 D, cAr nd 13 48 D, cAr nd 14 2400 D, cAr nd 15 512 D, cAr nd 16 961 D, cAr nd 17 961 D, (nd + 18, .inr (10, [.ref (nd + 10), .ref (nd + 19), .ref (nd + 21), .int (D 18 3), .int (D 18 4), .int (D 18 5), .int (D 18 6), .int (D 18 7), .int (D 18 8), .int (nI l), .int (D 18 10), .int (D 18 11), .int (D 18 12), .int (D 18 13), .int (D 18 14)])), cWa nd D, cAr nd 20 612 D, cAr nd 21 1152 D, cRk n nn gg C, cOr n nn gg f] := hF.put 18 _ rfl rfl
        replace hf := hf.put (a := nd + 18) (c := .inr (10, [.ref (nd + 10), .ref (nd + 19), .ref (nd + 21), .int (D 18 3), .int (D 18 4), .int (D 18 5), .int (D 18 6), .int (D 18 7), .int (D 18 8), .int (nI l), .int (D 18 10), .int (D 18 11), .int (D 18 12), .int (D 18 13), .int (D 18 14)])) (Or.inr (by omega))
        replace hN := hN.put (a := nd + 18) (c := .inr (10, [.ref (nd + 10), .ref (nd + 19), .ref (nd + 21), .int (D 18 3), .int (D 18 4), .int (D 18 5), .int (D 18 6), .int (D 18 7), .int (D 18 8), .int (nI l), .int (D 18 10), .int (D 18 11), .int (D 18 12), .int (D 18 13), .int (D 18 14)])) (by omega)
        replace hn : (ax_put h (nd + 18) (.inr (10, [.ref (nd + 10), .ref (nd + 19), .ref (nd + 21), .int (D 18 3), .int (D 18 4), .int (D 18 5), .int (D 18 6), .int (D 18 7), .int (D 18 8), .int (nI l), .int (D 18 10), .int (D 18 11), .int (D 18 12), .int (D 18 13), .int (D 18 14)]))).1 = h0.1 := hn
        replace hs : (ax_put h (nd + 18) (.inr (10, [.ref (nd + 10), .ref (nd + 19), .ref (nd + 21), .int (D 18 3), .int (D 18 4), .int (D 18 5), .int (D 18 6), .int (D 18 7), .int (D 18 8), .int (nI l), .int (D 18 10), .int (D 18 11), .int (D 18 12), .int (D 18 13), .int (D 18 14)]))).2.1 = h0.2.1 := hs
        generalize ax_put h (nd + 18) (.inr (10, [.ref (nd + 10), .ref (nd + 19), .ref (nd + 21), .int (D 18 3), .int (D 18 4), .int (D 18 5), .int (D 18 6), .int (D 18 7), .int (D 18 8), .int (nI l), .int (D 18 10), .int (D 18 11), .int (D 18 12), .int (D 18 13), .int (D 18 14)])) = hp_5 at hF hf hN hn hs ⊢
        have hS9 : NS Z n nd nn gg C me f q u b uv h0 hp_5 (va_up D 18 (upd (D 18) 9 (nI l))) K A Y := ⟨hF, hN, hf, hn, hs, hp0, hu0⟩
        have hI9 : NI Z nn (va_up D 18 (upd (D 18) 9 (nI l))) := ⟨hI.1, hI.2.1, WI.wait h3 ⟨k1, k2, k3, k4, k5, k6⟩ w11 hop wB, hI.2.2.2⟩
        exact ar_iret d_99_121 rfl rfl (⟨_, rfl, _, _, _, _, hS9, hI9, eq_ifF (nI_ne1 hfi e7) (bnN_eq (cl_eq hfi e7) (bnN_eq (cl_eq hz ez) (eq_ifF (neq hk (by decide)) (eq_ifT hk (bnN_eq (cl_eq hl el) (bnN_eq (cl_eq ha ea) (eq_ifF hfw (rfl)))))))), ⟨rfl, rfl, rfl, rfl, rfl, rfl, rfl, rfl, rfl, rfl⟩, rfl, fun _ => ⟨Or.inr (Or.inr ⟨fun e => ⟨Or.inr (Or.inl hk), hfl (by rw [show D 18 7 = -1 from e]; decide)⟩, fun z => absurd (hk.symm.trans z) (by decide), fun z => absurd (hk.symm.trans z) (by decide)⟩), ⟨l, by omega, rfl, fun h9 => ⟨_, ea, hal h9⟩⟩, fun z => absurd (hk.symm.trans z) (by decide), fun z => absurd (hk.symm.trans z) (by decide), fun z => by rcases z with z | z <;> exact absurd (hk.symm.trans z) (by decide)⟩⟩)
    · refine ar_tabIn 122 d_99_31 (by rw [hk]; decide) (by rw [hk]; rfl) (by decide) ?_
      obtain ⟨l, hl, el⟩ := id k6
      refine ar_aload_n 123 d_99_122 rfl rfl ?_
      refine ar_getf 126 d_99_123 rfl (ci := 10) (k := 1) rfl (hF.at 18 rfl) rfl ?_
      refine ar_iload_n 127 d_99_126 rfl rfl ?_
      refine ar_putf 130 [.int (D 19 0), .int (nI z), .int (D 19 2), .int (D 19 3), .int (D 19 4), .int (D 19 5), .int (D 19 6), .ref (nd + 20)] d_99_127 rfl (ci := 5) (k := 1) rfl rfl (hF.at 19 rfl) (Nat.le_of_ble_eq_true rfl) rfl rfl rfl ?_
      replace hF : ax_hs (ax_put h (nd + 19) (.inr (5, [.int (D 19 0), .int (nI z), .int (D 19 2), .int (D 19 3), .int (D 19 4), .int (D 19 5), .int (D 19 6), .ref (nd + 20)]))) [cNd n nd me D, cDk nd D, cAr nd 2 35840 D, cAr nd 3 4096 D, cAr nd 4 32 D, cAr nd 5 280 D, cAr nd 6 280 D, cLd n nd me D A, cAr nd 8 16 D, cAr nd 9 280 D, cTb nd gg D K, cAr nd 11 48 D, cAr nd 12 48 D, cAr nd 13 48 D, cAr nd 14 2400 D, cAr nd 15 512 D, cAr nd 16 961 D, cAr nd 17 961 D, cWk nd D, (nd + 19, .inr (5, [.int (D 19 0), .int (nI z), .int (D 19 2), .int (D 19 3), .int (D 19 4), .int (D 19 5), .int (D 19 6), .ref (nd + 20)])), cAr nd 20 612 D, cAr nd 21 1152 D, cRk n nn gg C, cOr n nn gg f] := hF.put 19 _ rfl rfl
      replace hf := hf.put (a := nd + 19) (c := .inr (5, [.int (D 19 0), .int (nI z), .int (D 19 2), .int (D 19 3), .int (D 19 4), .int (D 19 5), .int (D 19 6), .ref (nd + 20)])) (Or.inr (by omega))
      replace hN := hN.put (a := nd + 19) (c := .inr (5, [.int (D 19 0), .int (nI z), .int (D 19 2), .int (D 19 3), .int (D 19 4), .int (D 19 5), .int (D 19 6), .ref (nd + 20)])) (by omega)
      replace hn : (ax_put h (nd + 19) (.inr (5, [.int (D 19 0), .int (nI z), .int (D 19 2), .int (D 19 3), .int (D 19 4), .int (D 19 5), .int (D 19 6), .ref (nd + 20)]))).1 = h0.1 := hn
      replace hs : (ax_put h (nd + 19) (.inr (5, [.int (D 19 0), .int (nI z), .int (D 19 2), .int (D 19 3), .int (D 19 4), .int (D 19 5), .int (D 19 6), .ref (nd + 20)]))).2.1 = h0.2.1 := hs
      generalize ax_put h (nd + 19) (.inr (5, [.int (D 19 0), .int (nI z), .int (D 19 2), .int (D 19 3), .int (D 19 4), .int (D 19 5), .int (D 19 6), .ref (nd + 20)])) = hp_6 at hF hf hN hn hs ⊢
      refine ar_aload_n 131 d_99_130 rfl rfl ?_
      refine ar_iload_n 132 d_99_131 rfl rfl ?_
      refine ar_iload_n 133 d_99_132 rfl rfl ?_
      have hF5 : ax_hs hp_6 [(nd + 18, .inr (10, [.ref (nd + 10), .ref (nd + 19), .ref (nd + 21), .int (D 18 3), .int (D 18 4), .int (D 18 5), .int (D 18 6), .int (D 18 7), .int (D 18 8), .int (D 18 9), .int (D 18 10), .int (D 18 11), .int (D 18 12), .int (D 18 13), .int (D 18 14)])), (nd + 19, .inr (5, [.int (D 19 0), .int (nI z), .int (D 19 2), .int (D 19 3), .int (D 19 4), .int (nI l), .int (D 19 6), .ref (nd + 20)])), (nd + 10, .inr (6, [.int (nI gg), .ref (nd + 11), .ref (nd + 12), .ref (nd + 13), .ref (nd + 14), .ref (nd + 15), .ref (nd + 16), .ref (nd + 17), .long K, .int (D 10 9), .int (D 10 10)]))] := by
        have e := hF.sub (F' := [(nd + 18, .inr (10, [.ref (nd + 10), .ref (nd + 19), .ref (nd + 21), .int (D 18 3), .int (D 18 4), .int (D 18 5), .int (D 18 6), .int (D 18 7), .int (D 18 8), .int (D 18 9), .int (D 18 10), .int (D 18 11), .int (D 18 12), .int (D 18 13), .int (D 18 14)])), (nd + 19, .inr (5, [.int (D 19 0), .int (nI z), .int (D 19 2), .int (D 19 3), .int (D 19 4), .int (D 19 5), .int (D 19 6), .ref (nd + 20)])), (nd + 10, .inr (6, [.int (nI gg), .ref (nd + 11), .ref (nd + 12), .ref (nd + 13), .ref (nd + 14), .ref (nd + 15), .ref (nd + 16), .ref (nd + 17), .long K, .int (D 10 9), .int (D 10 10)]))]) [18, 19, 10] rfl rfl
        rw [el] at e
        exact e
      refine ar_call (r := []) (na := 0) (kd := 0) (cm := 100) (fr2 := fr - 1) (lo2 := lo - 23) 136 d_99_133 (ar_hoV (as := [.int (nI z), .int ro]) rfl rfl rfl (hF.at 18 rfl)) rfl (by omega) (show lo - 23 + (19 + 4) = lo by omega) (Nat.le_of_ble_eq_true rfl) (Nat.le_of_ble_eq_true rfl) (c_100E (a := z) (by omega) (by omega) (by omega) (by omega) (by omega) hF5) ?_
      intro v hh hq
      have hq9 := hq
      rcases hq9 with ⟨hfw, rfl, ehh⟩ | ⟨hfw, rfl, hfl, hal, rfl⟩
      · rw [ehh]
        clear ehh
        have hS9 : NS Z n nd nn gg C me f q u b uv h0 hp_6 (va_up D 19 (upd (D 19) 1 (nI z))) K A Y := ⟨hF, hN, hf, hn, hs, hp0, hu0⟩
        have hI9 : NI Z nn (va_up D 19 (upd (D 19) 1 (nI z))) := ⟨hI.1, hI.2.1, WI.wait h3 ⟨k1, fun _ => ⟨z, by omega, rfl⟩, k3, k4, k5, k6⟩ w11 hop wB, hI.2.2.2⟩
        exact ar_iret d_99_136 rfl rfl (⟨_, rfl, _, _, _, _, hS9, hI9, eq_ifF (nI_ne1 hfi e7) (bnN_eq (cl_eq hfi e7) (bnN_eq (cl_eq hz ez) (eq_ifF (neq hk (by decide)) (eq_ifF (neq hk (by decide)) (eq_ifT hk (bnN_eq (cl_eq hl el) (eq_ifT hfw (rfl)))))))), ⟨rfl, rfl, rfl, rfl, rfl, rfl, rfl, rfl, rfl, rfl⟩, rfl, fun z => absurd (by decide) z⟩)
      · replace hF : ax_hs (ax_put hp_6 (nd + 18) (.inr (10, [.ref (nd + 10), .ref (nd + 19), .ref (nd + 21), .int (D 18 3), .int (D 18 4), .int (D 18 5), .int (D 18 6), .int (D 18 7), .int (D 18 8), .int (nI l), .int (D 18 10), .int (D 18 11), .int (D 18 12), .int (D 18 13), .int (D 18 14)]))) [cNd n nd me D, cDk nd D, cAr nd 2 35840 D, cAr nd 3 4096 D, cAr nd 4 32 D, cAr nd 5 280 D, cAr nd 6 280 D, cLd n nd me D A, cAr nd 8 16 D, cAr nd 9 280 D, cTb nd gg D K, cAr nd 11 48 D, cAr nd 12 48 D, cAr nd 13 48 D, cAr nd 14 2400 D, cAr nd 15 512 D, cAr nd 16 961 D, cAr nd 17 961 D, (nd + 18, .inr (10, [.ref (nd + 10), .ref (nd + 19), .ref (nd + 21), .int (D 18 3), .int (D 18 4), .int (D 18 5), .int (D 18 6), .int (D 18 7), .int (D 18 8), .int (nI l), .int (D 18 10), .int (D 18 11), .int (D 18 12), .int (D 18 13), .int (D 18 14)])), (nd + 19, .inr (5, [.int (D 19 0), .int (nI z), .int (D 19 2), .int (D 19 3), .int (D 19 4), .int (D 19 5), .int (D 19 6), .ref (nd + 20)])), cAr nd 20 612 D, cAr nd 21 1152 D, cRk n nn gg C, cOr n nn gg f] := hF.put 18 _ rfl rfl
        replace hf := hf.put (a := nd + 18) (c := .inr (10, [.ref (nd + 10), .ref (nd + 19), .ref (nd + 21), .int (D 18 3), .int (D 18 4), .int (D 18 5), .int (D 18 6), .int (D 18 7), .int (D 18 8), .int (nI l), .int (D 18 10), .int (D 18 11), .int (D 18 12), .int (D 18 13), .int (D 18 14)])) (Or.inr (by omega))
        replace hN := hN.put (a := nd + 18) (c := .inr (10, [.ref (nd + 10), .ref (nd + 19), .ref (nd + 21), .int (D 18 3), .int (D 18 4), .int (D 18 5), .int (D 18 6), .int (D 18 7), .int (D 18 8), .int (nI l), .int (D 18 10), .int (D 18 11), .int (D 18 12), .int (D 18 13), .int (D 18 14)])) (by omega)
        replace hn : (ax_put hp_6 (nd + 18) (.inr (10, [.ref (nd + 10), .ref (nd + 19), .ref (nd + 21), .int (D 18 3), .int (D 18 4), .int (D 18 5), .int (D 18 6), .int (D 18 7), .int (D 18 8), .int (nI l), .int (D 18 10), .int (D 18 11), .int (D 18 12), .int (D 18 13), .int (D 18 14)]))).1 = h0.1 := hn
        replace hs : (ax_put hp_6 (nd + 18) (.inr (10, [.ref (nd + 10), .ref (nd + 19), .ref (nd + 21), .int (D 18 3), .int (D 18 4), .int (D 18 5), .int (D 18 6), .int (D 18 7), .int (D 18 8), .int (nI l), .int (D 18 10), .int (D 18 11), .int (D 18 12), .int (D 18 13), .int (D 18 14)]))).2.1 = h0.2.1 := hs
        generalize ax_put hp_6 (nd + 18) (.inr (10, [.ref (nd + 10), .ref (nd + 19), .ref (nd + 21), .int (D 18 3), .int (D 18 4), .int (D 18 5), .int (D 18 6), .int (D 18 7), .int (D 18 8), .int (nI l), .int (D 18 10), .int (D 18 11), .int (D 18 12), .int (D 18 13), .int (D 18 14)])) = hp_7 at hF hf hN hn hs ⊢
        have hS9 : NS Z n nd nn gg C me f q u b uv h0 hp_7 (va_up (va_up D 18 (upd (D 18) 9 (nI l))) 19 (upd (D 19) 1 (nI z))) K A Y := ⟨hF, hN, hf, hn, hs, hp0, hu0⟩
        have hI9 : NI Z nn (va_up (va_up D 18 (upd (D 18) 9 (nI l))) 19 (upd (D 19) 1 (nI z))) := ⟨hI.1, hI.2.1, WI.wait h3 ⟨k1, fun _ => ⟨z, by omega, rfl⟩, k3, k4, k5, k6⟩ w11 hop wB, hI.2.2.2⟩
        exact ar_iret d_99_136 rfl rfl (⟨_, rfl, _, _, _, _, hS9, hI9, eq_ifF (nI_ne1 hfi e7) (bnN_eq (cl_eq hfi e7) (bnN_eq (cl_eq hz ez) (eq_ifF (neq hk (by decide)) (eq_ifF (neq hk (by decide)) (eq_ifT hk (bnN_eq (cl_eq hl el) (eq_ifF hfw (rfl)))))))), ⟨rfl, rfl, rfl, rfl, rfl, rfl, rfl, rfl, rfl, rfl⟩, rfl, fun _ => ⟨Or.inr (Or.inr ⟨fun e => ⟨Or.inr (Or.inr hk), hfl (by rw [show D 18 7 = -1 from e]; decide)⟩, fun z => absurd (hk.symm.trans z) (by decide), fun z => absurd (hk.symm.trans z) (by decide)⟩), ⟨l, by omega, rfl, fun h9 => ⟨_, rfl, hal h9⟩⟩, fun _ => ⟨z, by omega, rfl⟩, fun z => absurd (hk.symm.trans z) (by decide), fun z => by rcases z with z | z <;> exact absurd (hk.symm.trans z) (by decide)⟩⟩)
    · refine ar_tabIn 137 d_99_31 (by rw [hk]; decide) (by rw [hk]; rfl) (by decide) ?_
      refine ar_aload_n 138 d_99_137 rfl rfl ?_
      refine ar_getf 141 d_99_138 rfl (ci := 10) (k := 7) rfl (hF.at 18 rfl) rfl ?_
      refine ar_top (x' := nI fi) (e7) ?_
      refine ar_if_ge 149 144 d_99_141 (by decide) rfl (fun _ => ?_) (fun c => absurd (nI_pos' (by omega)) c)
      refine ar_aload_n 150 d_99_149 rfl rfl ?_
      refine ar_iload_n 151 d_99_150 rfl rfl ?_
      refine ar_iload_n 152 d_99_151 rfl rfl ?_
      obtain ⟨a, ha, ea⟩ := k2 (Or.inr (Or.inl hk))
      have hF5 : ax_hs h [(nd + 18, .inr (10, [.ref (nd + 10), .ref (nd + 19), .ref (nd + 21), .int (D 18 3), .int (D 18 4), .int (D 18 5), .int (D 18 6), .int (nI fi), .int (D 18 8), .int (D 18 9), .int (D 18 10), .int (D 18 11), .int (D 18 12), .int (D 18 13), .int (D 18 14)])), (nd + 19, .inr (5, [.int (D 19 0), .int (nI a), .int (D 19 2), .int (D 19 3), .int (D 19 4), .int (D 19 5), .int (D 19 6), .ref (nd + 20)])), (nd + 10, .inr (6, [.int (nI gg), .ref (nd + 11), .ref (nd + 12), .ref (nd + 13), .ref (nd + 14), .ref (nd + 15), .ref (nd + 16), .ref (nd + 17), .long K, .int (D 10 9), .int (D 10 10)])), (nd + 16, .inl (0, 961, .inl (D 16)))] := by
        have e := hF.sub (F' := [(nd + 18, .inr (10, [.ref (nd + 10), .ref (nd + 19), .ref (nd + 21), .int (D 18 3), .int (D 18 4), .int (D 18 5), .int (D 18 6), .int (D 18 7), .int (D 18 8), .int (D 18 9), .int (D 18 10), .int (D 18 11), .int (D 18 12), .int (D 18 13), .int (D 18 14)])), (nd + 19, .inr (5, [.int (D 19 0), .int (D 19 1), .int (D 19 2), .int (D 19 3), .int (D 19 4), .int (D 19 5), .int (D 19 6), .ref (nd + 20)])), (nd + 10, .inr (6, [.int (nI gg), .ref (nd + 11), .ref (nd + 12), .ref (nd + 13), .ref (nd + 14), .ref (nd + 15), .ref (nd + 16), .ref (nd + 17), .long K, .int (D 10 9), .int (D 10 10)])), (nd + 16, .inl (0, 961, .inl (D 16)))]) [18, 19, 10, 16] rfl rfl
        rw [ea, e7] at e
        exact e
      refine ar_call (r := []) (na := 0) (kd := 0) (cm := 101) (fr2 := fr - 1) (lo2 := lo - 24) 155 d_99_152 (ar_hoV (as := [.int (nI z), .int ro]) rfl rfl rfl (hF.at 18 rfl)) rfl (by omega) (show lo - 24 + (19 + 5) = lo by omega) (Nat.le_of_ble_eq_true rfl) (Nat.le_of_ble_eq_true rfl) (c_101E (w7 := 0) (a := a) (f := fi) (by omega) (by omega) hfi hF5) ?_
      intro v hh hq
      have hq9 := hq
      rcases hq9 with ⟨hcw, rfl, ehh⟩ | ⟨hcw, rfl, sp, hsv, hsp, hal, rfl⟩
      · rw [ehh]
        clear ehh
        have hS9 : NS Z n nd nn gg C me f q u b uv h0 h D K A Y := ⟨hF, hN, hf, hn, hs, hp0, hu0⟩
        have hI9 : NI Z nn D := ⟨hI.1, hI.2.1, WI.wait h3 ⟨k1, k2, k3, k4, k5, k6⟩ w11 hop wB, hI.2.2.2⟩
        exact ar_iret d_99_155 rfl rfl (⟨_, rfl, _, _, _, _, hS9, hI9, eq_ifF (nI_ne1 hfi e7) (bnN_eq (cl_eq hfi e7) (bnN_eq (cl_eq hz ez) (eq_ifF (neq hk (by decide)) (eq_ifF (neq hk (by decide)) (eq_ifF (neq hk (by decide)) (eq_ifT hk (bnN_eq (cl_eq ha ea) (eq_ifF hcw (rfl))))))))), ⟨rfl, rfl, rfl, rfl, rfl, rfl, rfl, rfl, rfl, rfl⟩, rfl, fun z => absurd (by decide) z⟩)
      · rw [← e7]
        replace hF : ax_hs (ax_put h (nd + 18) (.inr (10, [.ref (nd + 10), .ref (nd + 19), .ref (nd + 21), .int (D 18 3), .int (D 18 4), .int (D 18 5), .int (D 18 6), .int (D 18 7), .int (D 18 8), .int (nI sp), .int (D 18 10), .int (D 18 11), .int (D 18 12), .int (D 18 13), .int (D 18 14)]))) [cNd n nd me D, cDk nd D, cAr nd 2 35840 D, cAr nd 3 4096 D, cAr nd 4 32 D, cAr nd 5 280 D, cAr nd 6 280 D, cLd n nd me D A, cAr nd 8 16 D, cAr nd 9 280 D, cTb nd gg D K, cAr nd 11 48 D, cAr nd 12 48 D, cAr nd 13 48 D, cAr nd 14 2400 D, cAr nd 15 512 D, cAr nd 16 961 D, cAr nd 17 961 D, (nd + 18, .inr (10, [.ref (nd + 10), .ref (nd + 19), .ref (nd + 21), .int (D 18 3), .int (D 18 4), .int (D 18 5), .int (D 18 6), .int (D 18 7), .int (D 18 8), .int (nI sp), .int (D 18 10), .int (D 18 11), .int (D 18 12), .int (D 18 13), .int (D 18 14)])), cWa nd D, cAr nd 20 612 D, cAr nd 21 1152 D, cRk n nn gg C, cOr n nn gg f] := hF.put 18 _ rfl rfl
        replace hf := hf.put (a := nd + 18) (c := .inr (10, [.ref (nd + 10), .ref (nd + 19), .ref (nd + 21), .int (D 18 3), .int (D 18 4), .int (D 18 5), .int (D 18 6), .int (D 18 7), .int (D 18 8), .int (nI sp), .int (D 18 10), .int (D 18 11), .int (D 18 12), .int (D 18 13), .int (D 18 14)])) (Or.inr (by omega))
        replace hN := hN.put (a := nd + 18) (c := .inr (10, [.ref (nd + 10), .ref (nd + 19), .ref (nd + 21), .int (D 18 3), .int (D 18 4), .int (D 18 5), .int (D 18 6), .int (D 18 7), .int (D 18 8), .int (nI sp), .int (D 18 10), .int (D 18 11), .int (D 18 12), .int (D 18 13), .int (D 18 14)])) (by omega)
        replace hn : (ax_put h (nd + 18) (.inr (10, [.ref (nd + 10), .ref (nd + 19), .ref (nd + 21), .int (D 18 3), .int (D 18 4), .int (D 18 5), .int (D 18 6), .int (D 18 7), .int (D 18 8), .int (nI sp), .int (D 18 10), .int (D 18 11), .int (D 18 12), .int (D 18 13), .int (D 18 14)]))).1 = h0.1 := hn
        replace hs : (ax_put h (nd + 18) (.inr (10, [.ref (nd + 10), .ref (nd + 19), .ref (nd + 21), .int (D 18 3), .int (D 18 4), .int (D 18 5), .int (D 18 6), .int (D 18 7), .int (D 18 8), .int (nI sp), .int (D 18 10), .int (D 18 11), .int (D 18 12), .int (D 18 13), .int (D 18 14)]))).2.1 = h0.2.1 := hs
        generalize ax_put h (nd + 18) (.inr (10, [.ref (nd + 10), .ref (nd + 19), .ref (nd + 21), .int (D 18 3), .int (D 18 4), .int (D 18 5), .int (D 18 6), .int (D 18 7), .int (D 18 8), .int (nI sp), .int (D 18 10), .int (D 18 11), .int (D 18 12), .int (D 18 13), .int (D 18 14)])) = hp_8 at hF hf hN hn hs ⊢
        have hS9 : NS Z n nd nn gg C me f q u b uv h0 hp_8 (va_up D 18 (upd (D 18) 9 (nI sp))) K A Y := ⟨hF, hN, hf, hn, hs, hp0, hu0⟩
        have hI9 : NI Z nn (va_up D 18 (upd (D 18) 9 (nI sp))) := ⟨hI.1, hI.2.1, WI.wait h3 ⟨k1, k2, k3, k4, k5, k6⟩ w11 hop wB, hI.2.2.2⟩
        exact ar_iret d_99_155 rfl rfl (⟨_, rfl, _, _, _, _, hS9, hI9, eq_ifF (nI_ne1 hfi e7) (bnN_eq (cl_eq hfi e7) (bnN_eq (cl_eq hz ez) (eq_ifF (neq hk (by decide)) (eq_ifF (neq hk (by decide)) (eq_ifF (neq hk (by decide)) (eq_ifT hk (bnN_eq (cl_eq ha ea) (eq_ifT hcw (bnN_eq hsv (rfl)))))))))), ⟨rfl, rfl, rfl, rfl, rfl, rfl, rfl, rfl, rfl, rfl⟩, rfl, fun _ => ⟨Or.inr (Or.inr ⟨fun e => absurd (e7.symm.trans e) (nIm (by omega)), fun z => absurd (hk.symm.trans z) (by decide), fun z => absurd (hk.symm.trans z) (by decide)⟩), ⟨sp, by omega, rfl, fun h9 => ⟨a, ea, hal h9⟩⟩, fun z => absurd (hk.symm.trans z) (by decide), fun z => absurd (hk.symm.trans z) (by decide), fun z => by rcases z with z | z <;> exact absurd (hk.symm.trans z) (by decide)⟩⟩)
    · refine ar_tabIn 156 d_99_31 (by rw [hk]; decide) (by rw [hk]; rfl) (by decide) ?_
      obtain ⟨a, ha, ea⟩ := k2 (Or.inr (Or.inr hk))
      obtain ⟨bb, hbb, eb⟩ := k3 hk
      refine ar_aload_n 157 d_99_156 rfl rfl ?_
      refine ar_iconst 158 (v := 0) d_99_157 rfl (by decide) ?_
      refine ar_aload_n 159 d_99_158 rfl rfl ?_
      refine ar_getf 162 d_99_159 rfl (ci := 10) (k := 1) rfl (hF.at 18 rfl) rfl ?_
      refine ar_getf 165 d_99_162 rfl (ci := 5) (k := 2) rfl (hF.at 19 rfl) rfl ?_
      refine ar_top (x' := nI bb) (eb) ?_
      refine ar_iload_n 166 d_99_165 rfl rfl ?_
      refine ar_aload_n 167 d_99_166 rfl rfl ?_
      refine ar_getf 170 d_99_167 rfl (ci := 10) (k := 1) rfl (hF.at 18 rfl) rfl ?_
      refine ar_getf 173 d_99_170 rfl (ci := 5) (k := 1) rfl (hF.at 19 rfl) rfl ?_
      refine ar_top (x' := nI a) (ea) ?_
      refine ar_isub 174 d_99_173 rfl ?_
      refine ar_min 177 d_99_174 rfl rfl (by omega) (by show 2 + 13 ≤ lo; omega) (w := if nI z - nI a < nI bb then nI z - nI a else nI bb) (rfl) ?_
      refine ar_max 180 d_99_177 rfl rfl (by omega) (by show 1 + 13 ≤ lo; omega) (w := nI (min bb (z - a))) (max0m (by omega) (by omega) (by omega)) ?_
      refine ar_putf 183 [.ref (nd + 10), .ref (nd + 19), .ref (nd + 21), .int (D 18 3), .int (D 18 4), .int (D 18 5), .int (D 18 6), .int (D 18 7), .int (D 18 8), .int (nI (min bb (z - a))), .int (D 18 10), .int (D 18 11), .int (D 18 12), .int (D 18 13), .int (D 18 14)] d_99_180 rfl (ci := 10) (k := 9) rfl rfl (hF.at 18 rfl) (Nat.le_of_ble_eq_true rfl) rfl rfl rfl ?_
      replace hF : ax_hs (ax_put h (nd + 18) (.inr (10, [.ref (nd + 10), .ref (nd + 19), .ref (nd + 21), .int (D 18 3), .int (D 18 4), .int (D 18 5), .int (D 18 6), .int (D 18 7), .int (D 18 8), .int (nI (min bb (z - a))), .int (D 18 10), .int (D 18 11), .int (D 18 12), .int (D 18 13), .int (D 18 14)]))) [cNd n nd me D, cDk nd D, cAr nd 2 35840 D, cAr nd 3 4096 D, cAr nd 4 32 D, cAr nd 5 280 D, cAr nd 6 280 D, cLd n nd me D A, cAr nd 8 16 D, cAr nd 9 280 D, cTb nd gg D K, cAr nd 11 48 D, cAr nd 12 48 D, cAr nd 13 48 D, cAr nd 14 2400 D, cAr nd 15 512 D, cAr nd 16 961 D, cAr nd 17 961 D, (nd + 18, .inr (10, [.ref (nd + 10), .ref (nd + 19), .ref (nd + 21), .int (D 18 3), .int (D 18 4), .int (D 18 5), .int (D 18 6), .int (D 18 7), .int (D 18 8), .int (nI (min bb (z - a))), .int (D 18 10), .int (D 18 11), .int (D 18 12), .int (D 18 13), .int (D 18 14)])), cWa nd D, cAr nd 20 612 D, cAr nd 21 1152 D, cRk n nn gg C, cOr n nn gg f] := hF.put 18 _ rfl rfl
      replace hf := hf.put (a := nd + 18) (c := .inr (10, [.ref (nd + 10), .ref (nd + 19), .ref (nd + 21), .int (D 18 3), .int (D 18 4), .int (D 18 5), .int (D 18 6), .int (D 18 7), .int (D 18 8), .int (nI (min bb (z - a))), .int (D 18 10), .int (D 18 11), .int (D 18 12), .int (D 18 13), .int (D 18 14)])) (Or.inr (by omega))
      replace hN := hN.put (a := nd + 18) (c := .inr (10, [.ref (nd + 10), .ref (nd + 19), .ref (nd + 21), .int (D 18 3), .int (D 18 4), .int (D 18 5), .int (D 18 6), .int (D 18 7), .int (D 18 8), .int (nI (min bb (z - a))), .int (D 18 10), .int (D 18 11), .int (D 18 12), .int (D 18 13), .int (D 18 14)])) (by omega)
      replace hn : (ax_put h (nd + 18) (.inr (10, [.ref (nd + 10), .ref (nd + 19), .ref (nd + 21), .int (D 18 3), .int (D 18 4), .int (D 18 5), .int (D 18 6), .int (D 18 7), .int (D 18 8), .int (nI (min bb (z - a))), .int (D 18 10), .int (D 18 11), .int (D 18 12), .int (D 18 13), .int (D 18 14)]))).1 = h0.1 := hn
      replace hs : (ax_put h (nd + 18) (.inr (10, [.ref (nd + 10), .ref (nd + 19), .ref (nd + 21), .int (D 18 3), .int (D 18 4), .int (D 18 5), .int (D 18 6), .int (D 18 7), .int (D 18 8), .int (nI (min bb (z - a))), .int (D 18 10), .int (D 18 11), .int (D 18 12), .int (D 18 13), .int (D 18 14)]))).2.1 = h0.2.1 := hs
      generalize ax_put h (nd + 18) (.inr (10, [.ref (nd + 10), .ref (nd + 19), .ref (nd + 21), .int (D 18 3), .int (D 18 4), .int (D 18 5), .int (D 18 6), .int (D 18 7), .int (D 18 8), .int (nI (min bb (z - a))), .int (D 18 10), .int (D 18 11), .int (D 18 12), .int (D 18 13), .int (D 18 14)])) = hp_9 at hF hf hN hn hs ⊢
      refine ar_aload_n 184 d_99_183 rfl rfl ?_
      refine ar_getf 187 d_99_184 rfl (ci := 10) (k := 7) rfl (hF.at 18 rfl) rfl ?_
      refine ar_top (x' := nI fi) (e7) ?_
      refine ar_if_ge 195 190 d_99_187 (by decide) rfl (fun _ => ?_) (fun c => absurd (nI_pos' (by omega)) c)
      refine ar_aload_n 196 d_99_195 rfl rfl ?_
      refine ar_getf 199 d_99_196 rfl (ci := 10) (k := 9) rfl (hF.at 18 rfl) rfl ?_
      have hS9 : NS Z n nd nn gg C me f q u b uv h0 hp_9 (va_up D 18 (upd (D 18) 9 (nI (min bb (z - a))))) K A Y := ⟨hF, hN, hf, hn, hs, hp0, hu0⟩
      have hI9 : NI Z nn (va_up D 18 (upd (D 18) 9 (nI (min bb (z - a))))) := ⟨hI.1, hI.2.1, WI.wait h3 ⟨k1, k2, k3, k4, k5, k6⟩ w11 hop wB, hI.2.2.2⟩
      exact ar_iret d_99_199 rfl rfl (⟨_, rfl, _, _, _, _, hS9, hI9, eq_ifF (nI_ne1 hfi e7) (bnN_eq (cl_eq hfi e7) (bnN_eq (cl_eq hz ez) (eq_ifF (neq hk (by decide)) (eq_ifF (neq hk (by decide)) (eq_ifF (neq hk (by decide)) (eq_ifF (neq hk (by decide)) (eq_ifT hk (bnN_eq (cl_eq ha ea) (bnN_eq (cl_eq hbb eb) (rfl)))))))))), ⟨rfl, rfl, rfl, rfl, rfl, rfl, rfl, rfl, rfl, rfl⟩, rfl, fun _ => ⟨Or.inr (Or.inr ⟨fun e => absurd (e7.symm.trans e) (nIm (by omega)), fun z => absurd (hk.symm.trans z) (by decide), fun z => absurd (hk.symm.trans z) (by decide)⟩), ⟨min bb (z - a), by omega, rfl, fun h9 => ⟨a, ea, by omega⟩⟩, fun z => absurd (hk.symm.trans z) (by decide), fun z => absurd (hk.symm.trans z) (by decide), fun _ => ⟨min bb (z - a), by omega, rfl⟩⟩⟩)
    · refine ar_tabIn 282 d_99_31 (by rw [hk]; decide) (by rw [hk]; rfl) (by decide) ?_
      refine ar_aload_n 283 d_99_282 rfl rfl ?_
      refine ar_getf 286 d_99_283 rfl (ci := 10) (k := 7) rfl (hF.at 18 rfl) rfl ?_
      refine ar_top (x' := nI fi) (e7) ?_
      refine ar_if_ge 294 289 d_99_286 (by decide) rfl (fun _ => ?_) (fun c => absurd (nI_pos' (by omega)) c)
      refine ar_iload_n 295 d_99_294 rfl rfl ?_
      have hS9 : NS Z n nd nn gg C me f q u b uv h0 h D K A Y := ⟨hF, hN, hf, hn, hs, hp0, hu0⟩
      have hI9 : NI Z nn D := ⟨hI.1, hI.2.1, WI.wait h3 ⟨k1, k2, k3, k4, k5, k6⟩ w11 hop wB, hI.2.2.2⟩
      exact ar_iret d_99_295 rfl rfl (⟨_, rfl, _, _, _, _, hS9, hI9, eq_ifF (nI_ne1 hfi e7) (bnN_eq (cl_eq hfi e7) (bnN_eq (cl_eq hz ez) (eq_ifF (neq hk (by decide)) (eq_ifF (neq hk (by decide)) (eq_ifF (neq hk (by decide)) (eq_ifF (neq hk (by decide)) (eq_ifF (neq hk (by decide)) (eq_ifT hk (rfl))))))))), ⟨rfl, rfl, rfl, rfl, rfl, rfl, rfl, rfl, rfl, rfl⟩, rfl, fun _ => ⟨Or.inr (Or.inr ⟨fun e => absurd (e7.symm.trans e) (nIm (by omega)), fun z => absurd (hk.symm.trans z) (by decide), fun _ => h9⟩), ⟨0, by omega, h9, fun z => absurd z (by omega)⟩, fun z => absurd (hk.symm.trans z) (by decide), fun z => absurd (hk.symm.trans z) (by decide), fun z => by rcases z with z | z <;> exact absurd (hk.symm.trans z) (by decide)⟩⟩)
    · refine ar_tabIn 200 d_99_31 (by rw [hk]; decide) (by rw [hk]; rfl) (by decide) ?_
      have h8c : D 18 8 = -1 ∨ ∃ p : Nat, p < 48 ∧ D 18 8 = nI p ∧ ¬ D 11 p < 0 := h8
      rcases h8c with e8 | ⟨oi, hoi, e8, hoj⟩
      · refine ar_aload_n 201 d_99_200 rfl rfl ?_
        refine ar_getf 204 d_99_201 rfl (ci := 10) (k := 7) rfl (hF.at 18 rfl) rfl ?_
        refine ar_top (x' := nI fi) (e7) ?_
        refine ar_if_ge 212 207 d_99_204 (by decide) rfl (fun _ => ?_) (fun c => absurd (nI_pos' (by omega)) c)
        refine ar_aload_n 213 d_99_212 rfl rfl ?_
        refine ar_getf 216 d_99_213 rfl (ci := 10) (k := 8) rfl (hF.at 18 rfl) rfl ?_
        refine ar_top (x' := -1) (e8) ?_
        refine ar_if_lt 234 219 d_99_216 (by decide) rfl (fun _ => ?_) (fun c => absurd (by decide) c)
        refine ar_iconst 235 (v := 0) d_99_234 rfl (by decide) ?_
        have hS9 : NS Z n nd nn gg C me f q u b uv h0 h D K A Y := ⟨hF, hN, hf, hn, hs, hp0, hu0⟩
        have hI9 : NI Z nn D := ⟨hI.1, hI.2.1, WI.wait h3 ⟨k1, k2, k3, k4, k5, k6⟩ w11 hop wB, hI.2.2.2⟩
        exact ar_iret d_99_235 rfl rfl (⟨_, rfl, _, _, _, _, hS9, hI9, eq_ifF (nI_ne1 hfi e7) (bnN_eq (cl_eq hfi e7) (bnN_eq (cl_eq hz ez) (eq_ifF (neq hk (by decide)) (eq_ifF (neq hk (by decide)) (eq_ifF (neq hk (by decide)) (eq_ifF (neq hk (by decide)) (eq_ifF (neq hk (by decide)) (eq_ifF (neq hk (by decide)) (eq_ifT hk (eq_ifT e8 (rfl))))))))))), ⟨rfl, rfl, rfl, rfl, rfl, rfl, rfl, rfl, rfl, rfl⟩, rfl, fun _ => ⟨Or.inr (Or.inr ⟨fun e => absurd (e7.symm.trans e) (nIm (by omega)), fun z => absurd (hk.symm.trans z) (by decide), fun z => absurd (hk.symm.trans z) (by decide)⟩), ⟨0, by omega, h9, fun z => absurd z (by omega)⟩, fun z => absurd (hk.symm.trans z) (by decide), fun z => absurd (hk.symm.trans z) (by decide), fun z => by rcases z with z | z <;> exact absurd (hk.symm.trans z) (by decide)⟩⟩)
      · refine ar_aload_n 201 d_99_200 rfl rfl ?_
        refine ar_getf 204 d_99_201 rfl (ci := 10) (k := 7) rfl (hF.at 18 rfl) rfl ?_
        refine ar_top (x' := nI fi) (e7) ?_
        refine ar_if_ge 212 207 d_99_204 (by decide) rfl (fun _ => ?_) (fun c => absurd (nI_pos' (by omega)) c)
        refine ar_aload_n 213 d_99_212 rfl rfl ?_
        refine ar_getf 216 d_99_213 rfl (ci := 10) (k := 8) rfl (hF.at 18 rfl) rfl ?_
        refine ar_top (x' := nI oi) (e8) ?_
        refine ar_if_lt 234 219 d_99_216 (by decide) rfl (fun c => absurd c (nI_pos (by omega))) (fun _ => ?_)
        refine ar_aload_n 220 d_99_219 rfl rfl ?_
        refine ar_getf 223 d_99_220 rfl (ci := 10) (k := 8) rfl (hF.at 18 rfl) rfl ?_
        refine ar_top (x' := nI oi) (e8) ?_
        refine ar_aload_n 224 d_99_223 rfl rfl ?_
        refine ar_getf 227 d_99_224 rfl (ci := 10) (k := 7) rfl (hF.at 18 rfl) rfl ?_
        refine ar_top (x' := nI fi) (e7) ?_
        refine ar_icmp_eq 234 230 d_99_227 (by decide) rfl (fun c1 => ?_) (fun c1 => ?_)
        · refine ar_iconst 235 (v := 0) d_99_234 rfl (by decide) ?_
          have hS9 : NS Z n nd nn gg C me f q u b uv h0 h D K A Y := ⟨hF, hN, hf, hn, hs, hp0, hu0⟩
          have hI9 : NI Z nn D := ⟨hI.1, hI.2.1, WI.wait h3 ⟨k1, k2, k3, k4, k5, k6⟩ w11 hop wB, hI.2.2.2⟩
          exact ar_iret d_99_235 rfl rfl (⟨_, rfl, _, _, _, _, hS9, hI9, eq_ifF (nI_ne1 hfi e7) (bnN_eq (cl_eq hfi e7) (bnN_eq (cl_eq hz ez) (eq_ifF (neq hk (by decide)) (eq_ifF (neq hk (by decide)) (eq_ifF (neq hk (by decide)) (eq_ifF (neq hk (by decide)) (eq_ifF (neq hk (by decide)) (eq_ifF (neq hk (by decide)) (eq_ifT hk (eq_ifF (nI_ne1 hoi e8) (bnN_eq (cl_eq hoi e8) (eq_ifT c1 (rfl))))))))))))), ⟨rfl, rfl, rfl, rfl, rfl, rfl, rfl, rfl, rfl, rfl⟩, rfl, fun _ => ⟨Or.inr (Or.inr ⟨fun e => absurd (e7.symm.trans e) (nIm (by omega)), fun z => absurd (hk.symm.trans z) (by decide), fun z => absurd (hk.symm.trans z) (by decide)⟩), ⟨0, by omega, h9, fun z => absurd z (by omega)⟩, fun z => absurd (hk.symm.trans z) (by decide), fun z => absurd (hk.symm.trans z) (by decide), fun z => by rcases z with z | z <;> exact absurd (hk.symm.trans z) (by decide)⟩⟩)
        · refine ar_iconst 231 (v := 1) d_99_230 rfl (by decide) ?_
          refine ar_goto 235 d_99_231 (by decide) ?_
          have hS9 : NS Z n nd nn gg C me f q u b uv h0 h D K A Y := ⟨hF, hN, hf, hn, hs, hp0, hu0⟩
          have hI9 : NI Z nn D := ⟨hI.1, hI.2.1, WI.wait h3 ⟨k1, k2, k3, k4, k5, k6⟩ w11 hop wB, hI.2.2.2⟩
          exact ar_iret d_99_235 rfl rfl (⟨_, rfl, _, _, _, _, hS9, hI9, eq_ifF (nI_ne1 hfi e7) (bnN_eq (cl_eq hfi e7) (bnN_eq (cl_eq hz ez) (eq_ifF (neq hk (by decide)) (eq_ifF (neq hk (by decide)) (eq_ifF (neq hk (by decide)) (eq_ifF (neq hk (by decide)) (eq_ifF (neq hk (by decide)) (eq_ifF (neq hk (by decide)) (eq_ifT hk (eq_ifF (nI_ne1 hoi e8) (bnN_eq (cl_eq hoi e8) (eq_ifF c1 (rfl))))))))))))), ⟨rfl, rfl, rfl, rfl, rfl, rfl, rfl, rfl, rfl, rfl⟩, rfl, fun _ => ⟨Or.inr (Or.inr ⟨fun e => absurd (e7.symm.trans e) (nIm (by omega)), fun z => absurd (hk.symm.trans z) (by decide), fun z => absurd (hk.symm.trans z) (by decide)⟩), ⟨0, by omega, h9, fun z => absurd z (by omega)⟩, fun z => absurd (hk.symm.trans z) (by decide), fun z => absurd (hk.symm.trans z) (by decide), fun z => by rcases z with z | z <;> exact absurd (hk.symm.trans z) (by decide)⟩⟩)
    · refine ar_tabIn 236 d_99_31 (by rw [hk]; decide) (by rw [hk]; rfl) (by decide) ?_
      have h8c : D 18 8 = -1 ∨ ∃ p : Nat, p < 48 ∧ D 18 8 = nI p ∧ ¬ D 11 p < 0 := h8
      rcases h8c with e8 | ⟨oi, hoi, e8, hoj⟩
      · refine ar_aload_n 237 d_99_236 rfl rfl ?_
        refine ar_getf 240 d_99_237 rfl (ci := 10) (k := 7) rfl (hF.at 18 rfl) rfl ?_
        refine ar_top (x' := nI fi) (e7) ?_
        refine ar_if_lt 250 243 d_99_240 (by decide) rfl (fun c => absurd c (nI_pos (by omega))) (fun _ => ?_)
        refine ar_aload_n 244 d_99_243 rfl rfl ?_
        refine ar_getf 247 d_99_244 rfl (ci := 10) (k := 8) rfl (hF.at 18 rfl) rfl ?_
        refine ar_top (x' := -1) (e8) ?_
        refine ar_if_ge 255 250 d_99_247 (by decide) rfl (fun c => absurd c (by decide)) (fun _ => ?_)
        refine ar_bipush 252 (v := -2) d_99_250 rfl (by decide) ?_
        refine ar_goto 256 d_99_252 (by decide) ?_
        have hS9 : NS Z n nd nn gg C me f q u b uv h0 h D K A Y := ⟨hF, hN, hf, hn, hs, hp0, hu0⟩
        have hI9 : NI Z nn D := ⟨hI.1, hI.2.1, WI.wait h3 ⟨k1, k2, k3, k4, k5, k6⟩ w11 hop wB, hI.2.2.2⟩
        exact ar_iret d_99_256 rfl rfl (⟨_, rfl, _, _, _, _, hS9, hI9, eq_ifF (nI_ne1 hfi e7) (bnN_eq (cl_eq hfi e7) (bnN_eq (cl_eq hz ez) (eq_ifF (neq hk (by decide)) (eq_ifF (neq hk (by decide)) (eq_ifF (neq hk (by decide)) (eq_ifF (neq hk (by decide)) (eq_ifF (neq hk (by decide)) (eq_ifF (neq hk (by decide)) (eq_ifF (neq hk (by decide)) (eq_ifT hk (eq_ifT e8 (rfl)))))))))))), ⟨rfl, rfl, rfl, rfl, rfl, rfl, rfl, rfl, rfl, rfl⟩, rfl, fun z => absurd (by decide) z⟩)
      · refine ar_aload_n 237 d_99_236 rfl rfl ?_
        refine ar_getf 240 d_99_237 rfl (ci := 10) (k := 7) rfl (hF.at 18 rfl) rfl ?_
        refine ar_top (x' := nI fi) (e7) ?_
        refine ar_if_lt 250 243 d_99_240 (by decide) rfl (fun c => absurd c (nI_pos (by omega))) (fun _ => ?_)
        refine ar_aload_n 244 d_99_243 rfl rfl ?_
        refine ar_getf 247 d_99_244 rfl (ci := 10) (k := 8) rfl (hF.at 18 rfl) rfl ?_
        refine ar_top (x' := nI oi) (e8) ?_
        refine ar_if_ge 255 250 d_99_247 (by decide) rfl (fun _ => ?_) (fun c => absurd (nI_pos' (by omega)) c)
        refine ar_iconst 256 (v := 0) d_99_255 rfl (by decide) ?_
        have hS9 : NS Z n nd nn gg C me f q u b uv h0 h D K A Y := ⟨hF, hN, hf, hn, hs, hp0, hu0⟩
        have hI9 : NI Z nn D := ⟨hI.1, hI.2.1, WI.wait h3 ⟨k1, k2, k3, k4, k5, k6⟩ w11 hop wB, hI.2.2.2⟩
        exact ar_iret d_99_256 rfl rfl (⟨_, rfl, _, _, _, _, hS9, hI9, eq_ifF (nI_ne1 hfi e7) (bnN_eq (cl_eq hfi e7) (bnN_eq (cl_eq hz ez) (eq_ifF (neq hk (by decide)) (eq_ifF (neq hk (by decide)) (eq_ifF (neq hk (by decide)) (eq_ifF (neq hk (by decide)) (eq_ifF (neq hk (by decide)) (eq_ifF (neq hk (by decide)) (eq_ifF (neq hk (by decide)) (eq_ifT hk (eq_ifF (nI_ne1 hoi e8) (bnN_eq (cl_eq hoi e8) (rfl))))))))))))), ⟨rfl, rfl, rfl, rfl, rfl, rfl, rfl, rfl, rfl, rfl⟩, rfl, fun _ => ⟨Or.inr (Or.inr ⟨fun e => absurd (e7.symm.trans e) (nIm (by omega)), fun _ e => absurd (e8.symm.trans e) (nIm (by omega)), fun z => absurd (hk.symm.trans z) (by decide)⟩), ⟨0, by omega, h9, fun z => absurd z (by omega)⟩, fun z => absurd (hk.symm.trans z) (by decide), fun z => absurd (hk.symm.trans z) (by decide), fun z => by rcases z with z | z <;> exact absurd (hk.symm.trans z) (by decide)⟩⟩)
    · refine ar_tabIn 282 d_99_31 (by rw [hk]; decide) (by rw [hk]; rfl) (by decide) ?_
      refine ar_aload_n 283 d_99_282 rfl rfl ?_
      refine ar_getf 286 d_99_283 rfl (ci := 10) (k := 7) rfl (hF.at 18 rfl) rfl ?_
      refine ar_top (x' := nI fi) (e7) ?_
      refine ar_if_ge 294 289 d_99_286 (by decide) rfl (fun _ => ?_) (fun c => absurd (nI_pos' (by omega)) c)
      refine ar_iload_n 295 d_99_294 rfl rfl ?_
      have hS9 : NS Z n nd nn gg C me f q u b uv h0 h D K A Y := ⟨hF, hN, hf, hn, hs, hp0, hu0⟩
      have hI9 : NI Z nn D := ⟨hI.1, hI.2.1, WI.wait h3 ⟨k1, k2, k3, k4, k5, k6⟩ w11 hop wB, hI.2.2.2⟩
      exact ar_iret d_99_295 rfl rfl (⟨_, rfl, _, _, _, _, hS9, hI9, eq_ifF (nI_ne1 hfi e7) (bnN_eq (cl_eq hfi e7) (bnN_eq (cl_eq hz ez) (eq_ifF (neq hk (by decide)) (eq_ifF (neq hk (by decide)) (eq_ifF (neq hk (by decide)) (eq_ifF (neq hk (by decide)) (eq_ifF (neq hk (by decide)) (eq_ifF (neq hk (by decide)) (eq_ifF (neq hk (by decide)) (eq_ifF (neq hk (by decide)) (eq_ifT hk (rfl)))))))))))), ⟨rfl, rfl, rfl, rfl, rfl, rfl, rfl, rfl, rfl, rfl⟩, rfl, fun _ => ⟨Or.inl hk, ⟨0, by omega, h9, fun z => absurd z (by omega)⟩, fun z => absurd (hk.symm.trans z) (by decide), fun z => absurd (hk.symm.trans z) (by decide), fun z => by rcases z with z | z <;> exact absurd (hk.symm.trans z) (by decide)⟩⟩)
    · refine ar_tabIn 257 d_99_31 (by rw [hk]; decide) (by rw [hk]; rfl) (by decide) ?_
      have h8c : D 18 8 = -1 ∨ ∃ p : Nat, p < 48 ∧ D 18 8 = nI p ∧ ¬ D 11 p < 0 := h8
      rcases h8c with e8 | ⟨oi, hoi, e8, hoj⟩
      · refine ar_aload_n 258 d_99_257 rfl rfl ?_
        refine ar_getf 261 d_99_258 rfl (ci := 10) (k := 8) rfl (hF.at 18 rfl) rfl ?_
        refine ar_top (x' := -1) (e8) ?_
        refine ar_if_ge 269 264 d_99_261 (by decide) rfl (fun c => absurd c (by decide)) (fun _ => ?_)
        refine ar_bipush 266 (v := -2) d_99_264 rfl (by decide) ?_
        refine ar_goto 281 d_99_266 (by decide) ?_
        have hS9 : NS Z n nd nn gg C me f q u b uv h0 h D K A Y := ⟨hF, hN, hf, hn, hs, hp0, hu0⟩
        have hI9 : NI Z nn D := ⟨hI.1, hI.2.1, WI.wait h3 ⟨k1, k2, k3, k4, k5, k6⟩ w11 hop wB, hI.2.2.2⟩
        exact ar_iret d_99_281 rfl rfl (⟨_, rfl, _, _, _, _, hS9, hI9, eq_ifF (nI_ne1 hfi e7) (bnN_eq (cl_eq hfi e7) (bnN_eq (cl_eq hz ez) (eq_ifF (neq hk (by decide)) (eq_ifF (neq hk (by decide)) (eq_ifF (neq hk (by decide)) (eq_ifF (neq hk (by decide)) (eq_ifF (neq hk (by decide)) (eq_ifF (neq hk (by decide)) (eq_ifF (neq hk (by decide)) (eq_ifF (neq hk (by decide)) (eq_ifF (neq hk (by decide)) (eq_ifT e8 (rfl))))))))))))), ⟨rfl, rfl, rfl, rfl, rfl, rfl, rfl, rfl, rfl, rfl⟩, rfl, fun z => absurd (by decide) z⟩)
      · obtain ⟨m, hm, em⟩ := (hI.2.1.2.2.2.1 oi hoi).2
        refine ar_aload_n 258 d_99_257 rfl rfl ?_
        refine ar_getf 261 d_99_258 rfl (ci := 10) (k := 8) rfl (hF.at 18 rfl) rfl ?_
        refine ar_top (x' := nI oi) (e8) ?_
        refine ar_if_ge 269 264 d_99_261 (by decide) rfl (fun _ => ?_) (fun c => absurd (nI_pos' (by omega)) c)
        refine ar_aload_n 270 d_99_269 rfl rfl ?_
        refine ar_getf 273 d_99_270 rfl (ci := 10) (k := 0) rfl (hF.at 18 rfl) rfl ?_
        refine ar_getf 276 d_99_273 rfl (ci := 6) (k := 3) rfl (hF.at 10 rfl) rfl ?_
        refine ar_aload_n 277 d_99_276 rfl rfl ?_
        refine ar_getf 280 d_99_277 rfl (ci := 10) (k := 8) rfl (hF.at 18 rfl) rfl ?_
        refine ar_top (x' := nI oi) (e8) ?_
        refine ar_ialdN 281 (e := oi) d_99_280 rfl (hF.at 13 rfl) (by omega) (by omega) ?_
        refine ar_top (x' := nI m) (em) ?_
        have hS9 : NS Z n nd nn gg C me f q u b uv h0 h D K A Y := ⟨hF, hN, hf, hn, hs, hp0, hu0⟩
        have hI9 : NI Z nn D := ⟨hI.1, hI.2.1, WI.wait h3 ⟨k1, k2, k3, k4, k5, k6⟩ w11 hop wB, hI.2.2.2⟩
        exact ar_iret d_99_281 rfl rfl (⟨_, rfl, _, _, _, _, hS9, hI9, eq_ifF (nI_ne1 hfi e7) (bnN_eq (cl_eq hfi e7) (bnN_eq (cl_eq hz ez) (eq_ifF (neq hk (by decide)) (eq_ifF (neq hk (by decide)) (eq_ifF (neq hk (by decide)) (eq_ifF (neq hk (by decide)) (eq_ifF (neq hk (by decide)) (eq_ifF (neq hk (by decide)) (eq_ifF (neq hk (by decide)) (eq_ifF (neq hk (by decide)) (eq_ifF (neq hk (by decide)) (eq_ifF (nI_ne1 hoi e8) (bnN_eq (cl_eq hoi e8) (bnN_eq (cl_eq hm em) (rfl))))))))))))))), ⟨rfl, rfl, rfl, rfl, rfl, rfl, rfl, rfl, rfl, rfl⟩, rfl, fun _ => ⟨Or.inr (Or.inl hk), ⟨0, by omega, h9, fun z => absurd z (by omega)⟩, fun z => absurd (hk.symm.trans z) (by decide), fun _ e => absurd (e8.symm.trans e) (nIm (by omega)), fun _ => ⟨m, by omega, rfl⟩⟩⟩)
